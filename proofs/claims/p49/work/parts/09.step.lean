/-! the small machine and the great one: each piece of code, a step -/
theorem mq_i32 (z : Int) (h : mq_in z) : (Int32.ofInt z).toInt = z := Int32.toInt_ofInt_of_le (by have := h.1; omega) (by have := h.2; omega)
theorem mq_i64 (z : Int) (h : mq_inl z) : (Int64.ofInt z).toInt = z := Int64.toInt_ofInt_of_le (by have := h.1; omega) (by have := h.2; omega)
theorem mq_in32 (x : Int32) : mq_in x.toInt := by
  have h1 := Int32.le_toInt x
  have h2 := Int32.toInt_lt x
  constructor <;> omega
theorem mq_in64 (x : Int64) : mq_inl x.toInt := by
  have h1 := Int64.le_toInt x
  have h2 := Int64.toInt_lt x
  constructor <;> omega
theorem mq_lt32 {a b : Int} (ha : mq_in a) (hb : mq_in b) : Int32.ofInt a < Int32.ofInt b ↔ a < b := by rw [Int32.lt_iff_toInt_lt, mq_i32 a ha, mq_i32 b hb]
theorem mq_le32 {a b : Int} (ha : mq_in a) (hb : mq_in b) : Int32.ofInt a ≤ Int32.ofInt b ↔ a ≤ b := by rw [Int32.le_iff_toInt_le, mq_i32 a ha, mq_i32 b hb]
theorem mq_eq32 {a b : Int} (ha : mq_in a) (hb : mq_in b) : Int32.ofInt a = Int32.ofInt b ↔ a = b := by rw [← Int32.toInt_inj, mq_i32 a ha, mq_i32 b hb]
theorem mq_oks.push {ρ : mq_R} {l : mq_L} {st : List mq_V} {v : mq_V} (h : mq_oks ρ l st) (hv : mq_ok ρ v) : mq_oks ρ l (v :: st) := ⟨fun w hw => (List.mem_cons.mp hw).elim (fun q => q ▸ hv) (h.1 w), h.2⟩
theorem mq_oks.pop {ρ : mq_R} {l : mq_L} {st : List mq_V} {v : mq_V} (h : mq_oks ρ l (v :: st)) : mq_oks ρ l st := ⟨fun w hw => h.1 w (List.mem_cons_of_mem _ hw), h.2⟩
theorem mq_oks.top {ρ : mq_R} {l : mq_L} {st : List mq_V} {v : mq_V} (h : mq_oks ρ l (v :: st)) : mq_ok ρ v := h.1 v List.mem_cons_self
theorem mq_oks.loc {ρ : mq_R} {l : mq_L} {st : List mq_V} {v : mq_V} {i : Nat} (h : mq_oks ρ l st) (hi : l[i]? = some (some v)) : mq_ok ρ v := h.2 v (List.mem_of_getElem? hi)
theorem mq_i2c32 (x : Int32) : 0 ≤ ((x.toUInt32 % 65536).toInt32).toInt ∧ ((x.toUInt32 % 65536).toInt32).toInt ≤ 65535 := by
  have h : (x.toUInt32 % 65536).toBitVec.toNat < 65536 := by
    have : (x.toUInt32 % 65536).toNat = x.toUInt32.toNat % 65536 := rfl
    show (x.toUInt32 % 65536).toNat < 65536
    omega
  have e : ((x.toUInt32 % 65536).toInt32).toInt = (x.toUInt32 % 65536).toBitVec.toInt := rfl
  rw [e, BitVec.toInt_eq_toNat_cond]
  split <;> omega
theorem mq_shr0 (x : Int32) : x >>> (Int32.ofInt 0 &&& 31) = x := by
  have e : (Int32.ofInt 0 &&& 31) = 0 := by decide
  rw [e]
  apply Int32.toBitVec_inj.mp
  show x.toBitVec.sshiftRight' _ = x.toBitVec
  simp [BitVec.sshiftRight']
def mq_cx (p : Program) (s : State) (m : MethodId) (args : Array Value) (meth : Method) (c : Code) (cc : ByteArray) (own : String) (nL : Nat) (G : KG) : Prop := p.tables.exec = Jvm.exec ∧ c.code = cc ∧ c.maxLocals = nL ∧ s.vm.findClass own = some m.cls ∧ (∀ w ∈ wG, w.before args s = true) ∧ mq_kG G s ∧ meth.locks = false
def mq_W (p : Program) (lc : Launch) (e : Env) (R : Room) (s : State) (m : MethodId) (args : Array Value) (below : List Frame) (meth : Method) (c : Code) (G : KG) (nL : Nat) (A : Nat → Prop) (ad0 : mq_J → Nat) (ρ0 : mq_R) (md : Nat) (μ0 : mq_M) (Q : State → Prop) : mq_K := fun pc l st ρ μ cs =>
  ∀ (ad : mq_J → Nat) (H : Heap) (locs : List Loc) (ls : Array Slot), mq_lok ad ls nL l → mq_oks ρ l st → mq_wd G A ad ρ μ H → va_S A s.heap H locs → mq_ag md μ0 μ → mq_adk ad0 ρ0 ad ρ → W p lc e R s m args below meth c H locs (16 * cs) (6416 * cs) Q (F0 m pc ls (st.map (mq_val ad)))
def mq_dq (cc : ByteArray) (pc : Nat) (i : Instr) (n nxt : Nat) : Bool := decide (decode cc pc = .ok (i, n)) && Nat.beq nxt (pc + n)
theorem mq_dq_spec {cc : ByteArray} {pc n nxt : Nat} {i : Instr} (h : mq_dq cc pc i n nxt = true) : decode cc pc = .ok (i, n) ∧ nxt = pc + n := by
  simp only [mq_dq, Bool.and_eq_true, decide_eq_true_eq] at h
  exact ⟨h.1, Nat.eq_of_beq_eq_true h.2⟩
section MQ
variable {p : Program} {lc : Launch} {e : Env} {R : Room} {s : State} {m : MethodId} {args : Array Value} {below : List Frame} {meth : Method} {c : Code} {Q : State → Prop} {cc : ByteArray} {own : String} {nL : Nat} {G : KG} {A : Nat → Prop} {ad0 : mq_J → Nat} {ρ0 : mq_R} {md : Nat} {μ0 : mq_M}
variable {pc nxt cs : Nat} {l : mq_L} {st : List mq_V} {ρ : mq_R} {μ : mq_M}
-- locals
theorem mq_s_iload (X : mq_cx p s m args meth c cc own nL G) {i : Nat} {x : Int} (hi : l[i]? = some (some (.inl x))) (hd : decode cc pc = .ok (.iload i, 2) ∧ nxt = pc + 2 ∨ (∃ k : Fin 4, (k : Nat) = i ∧ decode cc pc = .ok (.iload_n k, 1) ∧ nxt = pc + 1))
    (k : mq_W p lc e R s m args below meth c G nL A ad0 ρ0 md μ0 Q nxt l (.inl x :: st) ρ μ cs) : mq_W p lc e R s m args below meth c G nL A ad0 ρ0 md μ0 Q pc l st ρ μ cs := by
  intro ad H locs ls hl ho hw hS hg ha
  have kk := k ad H locs ls hl (ho.push (ho.loc hi)) hw hS hg ha
  rcases hd with ⟨hd, rfl⟩ | ⟨q, hq, hd, rfl⟩
  · exact lv_iload X.1 X.2.1 hd (mq_lok_at hl hi) kk
  · exact lv_iload_n X.1 X.2.1 hd hq (mq_lok_at hl hi) kk
theorem mq_s_lload (X : mq_cx p s m args meth c cc own nL G) {i : Nat} {x : Int} (hi : l[i]? = some (some (.inr (.inl x)))) (hd : decode cc pc = .ok (.lload i, 2) ∧ nxt = pc + 2 ∨ (∃ k : Fin 4, (k : Nat) = i ∧ decode cc pc = .ok (.lload_n k, 1) ∧ nxt = pc + 1))
    (k : mq_W p lc e R s m args below meth c G nL A ad0 ρ0 md μ0 Q nxt l (.inr (.inl x) :: st) ρ μ cs) : mq_W p lc e R s m args below meth c G nL A ad0 ρ0 md μ0 Q pc l st ρ μ cs := by
  intro ad H locs ls hl ho hw hS hg ha
  have kk := k ad H locs ls hl (ho.push (ho.loc hi)) hw hS hg ha
  rcases hd with ⟨hd, rfl⟩ | ⟨q, hq, hd, rfl⟩
  · exact lv_lload X.1 X.2.1 hd (mq_lok_at hl hi) kk
  · exact lv_lload_n X.1 X.2.1 hd hq (mq_lok_at hl hi) kk
theorem mq_s_aload (X : mq_cx p s m args meth c cc own nL G) {i : Nat} {j : mq_J} (hi : l[i]? = some (some (.inr (.inr (some j))))) (hd : decode cc pc = .ok (.aload i, 2) ∧ nxt = pc + 2 ∨ (∃ k : Fin 4, (k : Nat) = i ∧ decode cc pc = .ok (.aload_n k, 1) ∧ nxt = pc + 1))
    (k : mq_W p lc e R s m args below meth c G nL A ad0 ρ0 md μ0 Q nxt l (.inr (.inr (some j)) :: st) ρ μ cs) : mq_W p lc e R s m args below meth c G nL A ad0 ρ0 md μ0 Q pc l st ρ μ cs := by
  intro ad H locs ls hl ho hw hS hg ha
  have kk := k ad H locs ls hl (ho.push (ho.loc hi)) hw hS hg ha
  rcases hd with ⟨hd, rfl⟩ | ⟨q, hq, hd, rfl⟩
  · exact lv_aload X.1 X.2.1 hd (mq_lok_at hl hi) kk
  · exact lv_aload_n X.1 X.2.1 hd hq (mq_lok_at hl hi) kk
theorem mq_s_aloadN (X : mq_cx p s m args meth c cc own nL G) {i : Nat} (hi : l[i]? = some (some (.inr (.inr none)))) (hd : decode cc pc = .ok (.aload i, 2) ∧ nxt = pc + 2 ∨ (∃ k : Fin 4, (k : Nat) = i ∧ decode cc pc = .ok (.aload_n k, 1) ∧ nxt = pc + 1))
    (k : mq_W p lc e R s m args below meth c G nL A ad0 ρ0 md μ0 Q nxt l (.inr (.inr none) :: st) ρ μ cs) : mq_W p lc e R s m args below meth c G nL A ad0 ρ0 md μ0 Q pc l st ρ μ cs := by
  intro ad H locs ls hl ho hw hS hg ha
  have kk := k ad H locs ls hl (ho.push (ho.loc hi)) hw hS hg ha
  rcases hd with ⟨hd, rfl⟩ | ⟨q, hq, hd, rfl⟩
  · exact lv_aloadN X.1 X.2.1 hd (mq_lok_at hl hi) kk
  · exact lv_aload_nN X.1 X.2.1 hd hq (mq_lok_at hl hi) kk
/-- what is known of the locals behind a store of one word -/
theorem mq_lok_st {ad : mq_J → Nat} {ls' : Array Slot} {l l' : mq_L} {i : Nat} {v : mq_V} (hlen : l.length = nL) (h2 : l'.length = l.length) (h4 : ∀ (j : Nat) (w : mq_V), l'[j]? = some (some w) → (j = i ∧ w = v) ∨ (j ≠ i ∧ l[j]? = some (some w) ∧ ¬ (j + 1 = i ∧ ∃ z, w = .inr (.inl z)))) (h : lv_has ls' nL ((i, mq_val ad v) :: (mq_prs ad 0 l).filter (fun q => !(q.1 == i) && !(q.1 + 1 == i && q.2.category == 2)))) : mq_lok ad ls' nL l' := by
  refine ⟨h2.trans hlen, h.1, h.2.1, fun q hq => h.2.2 q ?_⟩
  obtain ⟨j, w, hj, rfl⟩ := (mq_prs_mem l' 0 q).mp hq
  rcases h4 j w hj with ⟨rfl, rfl⟩ | ⟨a, b, d⟩
  · simp
  · refine List.mem_cons_of_mem _ (List.mem_filter.mpr ⟨(mq_prs_mem l 0 _).mpr ⟨j, w, b, rfl⟩, ?_⟩)
    simp only [Nat.zero_add, Bool.and_eq_true, Bool.not_eq_true', beq_eq_false_iff_ne, ne_eq, Bool.and_eq_false_imp, beq_iff_eq]
    refine ⟨a, fun q1 => ?_⟩
    rcases w with z | (z | (_ | z))
    · simp [mq_val, Value.category]
    · exact absurd ⟨q1, z, rfl⟩ d
    · simp [mq_val, Value.category]
    · simp [mq_val, Value.category]
theorem mq_lok_st2 {ad : mq_J → Nat} {ls' : Array Slot} {l l' : mq_L} {i : Nat} {v : mq_V} (hlen : l.length = nL) (h2 : l'.length = l.length) (h4 : ∀ (j : Nat) (w : mq_V), l'[j]? = some (some w) → (j = i ∧ w = v) ∨ (j ≠ i ∧ j ≠ i + 1 ∧ l[j]? = some (some w) ∧ ¬ (j + 1 = i ∧ ∃ z, w = .inr (.inl z)))) (h : lv_has ls' nL ((i, mq_val ad v) :: (mq_prs ad 0 l).filter (fun q => !(q.1 == i) && (!(q.1 == i + 1) && !(q.1 + 1 == i && q.2.category == 2))))) : mq_lok ad ls' nL l' := by
  refine ⟨h2.trans hlen, h.1, h.2.1, fun q hq => h.2.2 q ?_⟩
  obtain ⟨j, w, hj, rfl⟩ := (mq_prs_mem l' 0 q).mp hq
  rcases h4 j w hj with ⟨rfl, rfl⟩ | ⟨a, a2, b, d⟩
  · simp
  · refine List.mem_cons_of_mem _ (List.mem_filter.mpr ⟨(mq_prs_mem l 0 _).mpr ⟨j, w, b, rfl⟩, ?_⟩)
    simp only [Nat.zero_add, Bool.and_eq_true, Bool.not_eq_true', beq_eq_false_iff_ne, ne_eq, Bool.and_eq_false_imp, beq_iff_eq]
    refine ⟨a, a2, fun q1 => ?_⟩
    rcases w with z | (z | (_ | z))
    · simp [mq_val, Value.category]
    · exact absurd ⟨q1, z, rfl⟩ d
    · simp [mq_val, Value.category]
    · simp [mq_val, Value.category]
theorem mq_oks_st {l l' : mq_L} {i : Nat} {v : mq_V} (ho : mq_oks ρ l st) (hv : mq_ok ρ v) (h4 : ∀ (j : Nat) (w : mq_V), l'[j]? = some (some w) → (j = i ∧ w = v) ∨ l[j]? = some (some w)) : mq_oks ρ l' st := by
  refine ⟨ho.1, fun w hw => ?_⟩
  obtain ⟨j, hj⟩ := List.getElem?_of_mem hw
  rcases h4 j w hj with ⟨_, rfl⟩ | h
  · exact hv
  · exact ho.loc h
theorem mq_s_istore (X : mq_cx p s m args meth c cc own nL G) {i : Nat} {x : Int} (hd : decode cc pc = .ok (.istore i, 2) ∧ nxt = pc + 2 ∨ (∃ k : Fin 4, (k : Nat) = i ∧ decode cc pc = .ok (.istore_n k, 1) ∧ nxt = pc + 1))
    (k : mq_st l i (.inl x) fun l => mq_W p lc e R s m args below meth c G nL A ad0 ρ0 md μ0 Q nxt l st ρ μ cs) : mq_W p lc e R s m args below meth c G nL A ad0 ρ0 md μ0 Q pc l (.inl x :: st) ρ μ cs := by
  intro ad H locs ls hl ho hw hS hg ha
  obtain ⟨l', k', h2, h3, h4⟩ := mq_st_spec k
  have kk := fun ls' h => k' ad H locs ls' (mq_lok_st hl.1 h2 h4 h) (mq_oks_st ho.pop ho.top (fun j w hj => (h4 j w hj).imp id (fun q => q.2.1))) hw hS hg ha
  rcases hd with ⟨hd, rfl⟩ | ⟨q, hq, hd, rfl⟩
  · exact lv_istore X.1 X.2.1 hd hl.2 (hl.1 ▸ h3) rfl kk
  · exact lv_istore_n X.1 X.2.1 hd hq hl.2 (hl.1 ▸ h3) rfl kk
theorem mq_s_astore (X : mq_cx p s m args meth c cc own nL G) {i : Nat} {j : mq_J} (hd : decode cc pc = .ok (.astore i, 2) ∧ nxt = pc + 2 ∨ (∃ k : Fin 4, (k : Nat) = i ∧ decode cc pc = .ok (.astore_n k, 1) ∧ nxt = pc + 1))
    (k : mq_st l i (.inr (.inr (some j))) fun l => mq_W p lc e R s m args below meth c G nL A ad0 ρ0 md μ0 Q nxt l st ρ μ cs) : mq_W p lc e R s m args below meth c G nL A ad0 ρ0 md μ0 Q pc l (.inr (.inr (some j)) :: st) ρ μ cs := by
  intro ad H locs ls hl ho hw hS hg ha
  obtain ⟨l', k', h2, h3, h4⟩ := mq_st_spec k
  have kk := fun ls' h => k' ad H locs ls' (mq_lok_st hl.1 h2 h4 h) (mq_oks_st ho.pop ho.top (fun j w hj => (h4 j w hj).imp id (fun q => q.2.1))) hw hS hg ha
  rcases hd with ⟨hd, rfl⟩ | ⟨q, hq, hd, rfl⟩
  · exact lv_astore X.1 X.2.1 hd hl.2 (hl.1 ▸ h3) rfl kk
  · exact lv_astore_n X.1 X.2.1 hd hq hl.2 (hl.1 ▸ h3) rfl kk
theorem mq_s_astoreN (X : mq_cx p s m args meth c cc own nL G) {i : Nat} (hd : decode cc pc = .ok (.astore i, 2) ∧ nxt = pc + 2 ∨ (∃ k : Fin 4, (k : Nat) = i ∧ decode cc pc = .ok (.astore_n k, 1) ∧ nxt = pc + 1))
    (k : mq_st l i (.inr (.inr none)) fun l => mq_W p lc e R s m args below meth c G nL A ad0 ρ0 md μ0 Q nxt l st ρ μ cs) : mq_W p lc e R s m args below meth c G nL A ad0 ρ0 md μ0 Q pc l (.inr (.inr none) :: st) ρ μ cs := by
  intro ad H locs ls hl ho hw hS hg ha
  obtain ⟨l', k', h2, h3, h4⟩ := mq_st_spec k
  have kk := fun ls' h => k' ad H locs ls' (mq_lok_st hl.1 h2 h4 h) (mq_oks_st ho.pop ho.top (fun j w hj => (h4 j w hj).imp id (fun q => q.2.1))) hw hS hg ha
  rcases hd with ⟨hd, rfl⟩ | ⟨q, hq, hd, rfl⟩
  · exact lv_astoreN X.1 X.2.1 hd hl.2 (hl.1 ▸ h3) rfl kk
  · exact lv_astore_nN X.1 X.2.1 hd hq hl.2 (hl.1 ▸ h3) rfl kk
theorem mq_s_lstore (X : mq_cx p s m args meth c cc own nL G) {i : Nat} {x : Int} (hd : decode cc pc = .ok (.lstore i, 2) ∧ nxt = pc + 2 ∨ (∃ k : Fin 4, (k : Nat) = i ∧ decode cc pc = .ok (.lstore_n k, 1) ∧ nxt = pc + 1))
    (k : mq_st2 l i (.inr (.inl x)) fun l => mq_W p lc e R s m args below meth c G nL A ad0 ρ0 md μ0 Q nxt l st ρ μ cs) : mq_W p lc e R s m args below meth c G nL A ad0 ρ0 md μ0 Q pc l (.inr (.inl x) :: st) ρ μ cs := by
  intro ad H locs ls hl ho hw hS hg ha
  obtain ⟨l', k', h2, h3, h4⟩ := mq_st2_spec k
  have kk := fun ls' h => k' ad H locs ls' (mq_lok_st2 hl.1 h2 h4 h) (mq_oks_st ho.pop ho.top (fun j w hj => (h4 j w hj).imp id (fun q => q.2.2.1))) hw hS hg ha
  rcases hd with ⟨hd, rfl⟩ | ⟨q, hq, hd, rfl⟩
  · exact lv_lstore X.1 X.2.1 hd hl.2 (hl.1 ▸ h3) rfl kk
  · exact lv_lstore_n X.1 X.2.1 hd hq hl.2 (hl.1 ▸ h3) rfl kk
theorem mq_s_iinc (X : mq_cx p s m args meth c cc own nL G) {i : Nat} {x d : Int} (hi : l[i]? = some (some (.inl x))) (hr : mq_in (x + d)) (hd : decode cc pc = .ok (.iinc i d, 3) ∧ nxt = pc + 3)
    (k : mq_st l i (.inl (x + d)) fun l => mq_W p lc e R s m args below meth c G nL A ad0 ρ0 md μ0 Q nxt l st ρ μ cs) : mq_W p lc e R s m args below meth c G nL A ad0 ρ0 md μ0 Q pc l st ρ μ cs := by
  intro ad H locs ls hl ho hw hS hg ha
  obtain ⟨l', k', h2, h3, h4⟩ := mq_st_spec k
  have kk := fun ls' h => k' ad H locs ls' (mq_lok_st hl.1 h2 h4 h) (mq_oks_st (v := .inl (x + d)) ho hr (fun j w hj => (h4 j w hj).imp id (fun q => q.2.1))) hw hS hg ha
  obtain ⟨q, hq⟩ := List.getElem?_of_mem ((mq_prs_mem (ad := ad) l 0 _).mpr ⟨i, .inl x, hi, rfl⟩)
  obtain ⟨hd, rfl⟩ := hd
  exact lv_iinc X.1 X.2.1 hd hl.2 (k := q) (by rw [hq]; simp [mq_val]) (Int32.ofInt_add x d).symm (hl.1 ▸ h3) rfl kk
theorem mq_s_iincW (X : mq_cx p s m args meth c cc own nL G) {i : Nat} {x : Int} (hi : l[i]? = some (some (.inl x))) (hd : decode cc pc = .ok (.iinc i 1, 3) ∧ nxt = pc + 3)
    (k : ∀ r : Int, mq_in r → (mq_in (x + 1) → r = x + 1) → mq_st l i (.inl r) fun l => mq_W p lc e R s m args below meth c G nL A ad0 ρ0 md μ0 Q nxt l st ρ μ cs) : mq_W p lc e R s m args below meth c G nL A ad0 ρ0 md μ0 Q pc l st ρ μ cs := by
  intro ad H locs ls hl ho hw hS hg ha
  have hr : mq_in (Int32.ofInt x + Int32.ofInt 1).toInt := mq_in32 _
  obtain ⟨l', k', h2, h3, h4⟩ := mq_st_spec (k (Int32.ofInt x + Int32.ofInt 1).toInt hr (fun q => by rw [← Int32.ofInt_add, mq_i32 _ q]))
  have kk := fun ls' h => k' ad H locs ls' (mq_lok_st hl.1 h2 h4 h) (mq_oks_st (v := .inl (Int32.ofInt x + Int32.ofInt 1).toInt) ho hr (fun j w hj => (h4 j w hj).imp id (fun q => q.2.1))) hw hS hg ha
  obtain ⟨q, hq⟩ := List.getElem?_of_mem ((mq_prs_mem (ad := ad) l 0 _).mpr ⟨i, .inl x, hi, rfl⟩)
  obtain ⟨hd, rfl⟩ := hd
  exact lv_iinc X.1 X.2.1 hd hl.2 (k := q) (by rw [hq]; simp [mq_val]) (Int32.ofInt_toInt _).symm (hl.1 ▸ h3) rfl kk
end MQ
