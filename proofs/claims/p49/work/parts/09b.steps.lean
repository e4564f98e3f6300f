/-! step rows by templates -/
section MQ
variable {p : Program} {lc : Launch} {e : Env} {R : Room} {s : State} {m : MethodId} {args : Array Value} {below : List Frame} {meth : Method} {c : Code} {Q : State → Prop} {cc : ByteArray} {own : String} {nL : Nat} {G : KG} {A : Nat → Prop} {ad0 : mq_J → Nat} {ρ0 : mq_R} {md : Nat} {μ0 : mq_M}
variable {pc nxt cs : Nat} {l : mq_L} {st : List mq_V} {ρ : mq_R} {μ : mq_M}
theorem mq_cst (d : Int) (h : -128 ≤ d ∧ d ≤ 127) : (Int8.ofInt d).toInt32 = Int32.ofInt d := by
  apply Int32.toInt_inj.mp
  rw [Int8.toInt_toInt32, Int8.toInt_ofInt_of_le (by omega) (by omega), mq_i32 d ⟨by omega, by omega⟩]
theorem mq_cst16 (d : Int) (h : -32768 ≤ d ∧ d ≤ 32767) : (Int16.ofInt d).toInt32 = Int32.ofInt d := by
  apply Int32.toInt_inj.mp
  rw [Int16.toInt_toInt32, Int16.toInt_ofInt_of_le (by omega) (by omega), mq_i32 d ⟨by omega, by omega⟩]
theorem mq_s_iconst (X : mq_cx p s m args meth c cc own nL G) {d : Int} (hr : mq_in d) (hd : nxt = pc + 1 ∧ decode cc pc = .ok (.iconst d, 1) ∨ nxt = pc + 2 ∧ (-128 ≤ d ∧ d ≤ 127) ∧ decode cc pc = .ok (.bipush d, 2) ∨ nxt = pc + 3 ∧ (-32768 ≤ d ∧ d ≤ 32767) ∧ decode cc pc = .ok (.sipush d, 3) ∨ ∃ i : Nat, Cond.constant own i (Int32.ofInt d) ∈ wG ∧ (nxt = pc + 2 ∧ decode cc pc = .ok (.ldc i, 2) ∨ nxt = pc + 3 ∧ decode cc pc = .ok (.ldc_w i, 3)))
    (k : mq_W p lc e R s m args below meth c G nL A ad0 ρ0 md μ0 Q nxt l (.inl d :: st) ρ μ cs) : mq_W p lc e R s m args below meth c G nL A ad0 ρ0 md μ0 Q pc l st ρ μ cs := by
  intro ad H locs ls hl ho hw hS hg ha
  have kk := k ad H locs ls hl (ho.push hr) hw hS hg ha
  rcases hd with ⟨rfl, hd⟩ | ⟨rfl, hz, hd⟩ | ⟨rfl, hz, hd⟩ | ⟨i, hi, ⟨rfl, hd⟩ | ⟨rfl, hd⟩⟩
  · exact lv_iconst X.1 X.2.1 hd rfl kk
  · exact lv_bipush X.1 X.2.1 hd (mq_cst d hz) kk
  · exact lv_sipush X.1 X.2.1 hd (mq_cst16 d hz) kk
  · exact lv_ldc X.1 X.2.1 X.2.2.2.1 (X.2.2.2.2.1 _ hi) hd kk
  · exact lv_ldcw X.1 X.2.1 X.2.2.2.1 (X.2.2.2.2.1 _ hi) hd kk
theorem mq_s_lconst (X : mq_cx p s m args meth c cc own nL G) {d : Int} (hr : mq_inl d) (hd : (∃ n : Fin 2, ((n : Nat) : Int) = d ∧ nxt = pc + 1 ∧ decode cc pc = .ok (.lconst n, 1)) ∨ ∃ i : Nat, Cond.constantLong own i (Int64.ofInt d) ∈ wG ∧ nxt = pc + 3 ∧ decode cc pc = .ok (.ldc2_w i, 3))
    (k : mq_W p lc e R s m args below meth c G nL A ad0 ρ0 md μ0 Q nxt l (.inr (.inl d) :: st) ρ μ cs) : mq_W p lc e R s m args below meth c G nL A ad0 ρ0 md μ0 Q pc l st ρ μ cs := by
  intro ad H locs ls hl ho hw hS hg ha
  have kk := k ad H locs ls hl (ho.push hr) hw hS hg ha
  rcases hd with ⟨n, rfl, rfl, hd⟩ | ⟨i, hi, rfl, hd⟩
  · exact lv_lconst X.1 X.2.1 hd (Int64.ofInt_eq_ofNat).symm kk
  · exact lv_ldc2 X.1 X.2.1 X.2.2.2.1 (X.2.2.2.2.1 _ hi) hd kk
theorem mq_s_iadd (X : mq_cx p s m args meth c cc own nL G) {a b : Int} (hr : mq_in (a + b)) (hd : decode cc pc = .ok (.iadd, 1) ∧ nxt = pc + 1)
    (k : mq_W p lc e R s m args below meth c G nL A ad0 ρ0 md μ0 Q nxt l (.inl (a + b) :: st) ρ μ cs) : mq_W p lc e R s m args below meth c G nL A ad0 ρ0 md μ0 Q pc l (.inl b :: .inl a :: st) ρ μ cs := by
  intro ad H locs ls hl ho hw hS hg ha
  have kk := k ad H locs ls hl (ho.pop.pop.push hr) hw hS hg ha
  obtain ⟨hd, rfl⟩ := hd
  refine lv_iadd X.1 X.2.1 hd ?_
  rw [← Int32.ofInt_add]
  exact kk
theorem mq_s_fadd (X : mq_cx p s m args meth c cc own nL G) {a b : Int} (hd : decode cc pc = .ok (.iadd, 1) ∧ nxt = pc + 1)
    (k : ∀ r : Int, mq_in r → (mq_in (a + b) → r = a + b) → mq_W p lc e R s m args below meth c G nL A ad0 ρ0 md μ0 Q nxt l (.inl r :: st) ρ μ cs) : mq_W p lc e R s m args below meth c G nL A ad0 ρ0 md μ0 Q pc l (.inl b :: .inl a :: st) ρ μ cs := by
  intro ad H locs ls hl ho hw hS hg ha
  have kk := k (Int32.ofInt a + Int32.ofInt b).toInt (mq_in32 _) (fun q => by rw [← Int32.ofInt_add, mq_i32 _ q]) ad H locs ls hl (ho.pop.pop.push (mq_in32 _)) hw hS hg ha
  obtain ⟨hd, rfl⟩ := hd
  refine lv_iadd X.1 X.2.1 hd ?_
  simp only [List.map_cons, mq_val, Int32.ofInt_toInt] at kk
  exact kk
theorem mq_s_ladd (X : mq_cx p s m args meth c cc own nL G) {a b : Int} (hr : mq_inl (a + b)) (hd : decode cc pc = .ok (.ladd, 1) ∧ nxt = pc + 1)
    (k : mq_W p lc e R s m args below meth c G nL A ad0 ρ0 md μ0 Q nxt l (.inr (.inl (a + b)) :: st) ρ μ cs) : mq_W p lc e R s m args below meth c G nL A ad0 ρ0 md μ0 Q pc l (.inr (.inl b) :: .inr (.inl a) :: st) ρ μ cs := by
  intro ad H locs ls hl ho hw hS hg ha
  have kk := k ad H locs ls hl (ho.pop.pop.push hr) hw hS hg ha
  obtain ⟨hd, rfl⟩ := hd
  refine lv_ladd X.1 X.2.1 hd ?_
  rw [← Int64.ofInt_add]
  exact kk
theorem mq_s_dadd (X : mq_cx p s m args meth c cc own nL G) {a b : Int} (hd : decode cc pc = .ok (.ladd, 1) ∧ nxt = pc + 1)
    (k : ∀ r : Int, mq_inl r → (mq_inl (a + b) → r = a + b) → mq_W p lc e R s m args below meth c G nL A ad0 ρ0 md μ0 Q nxt l (.inr (.inl r) :: st) ρ μ cs) : mq_W p lc e R s m args below meth c G nL A ad0 ρ0 md μ0 Q pc l (.inr (.inl b) :: .inr (.inl a) :: st) ρ μ cs := by
  intro ad H locs ls hl ho hw hS hg ha
  have kk := k (Int64.ofInt a + Int64.ofInt b).toInt (mq_in64 _) (fun q => by rw [← Int64.ofInt_add, mq_i64 _ q]) ad H locs ls hl (ho.pop.pop.push (mq_in64 _)) hw hS hg ha
  obtain ⟨hd, rfl⟩ := hd
  refine lv_ladd X.1 X.2.1 hd ?_
  simp only [List.map_cons, mq_val, Int64.ofInt_toInt] at kk
  exact kk
theorem mq_s_isub (X : mq_cx p s m args meth c cc own nL G) {a b : Int} (hr : mq_in (a - b)) (hd : decode cc pc = .ok (.isub, 1) ∧ nxt = pc + 1)
    (k : mq_W p lc e R s m args below meth c G nL A ad0 ρ0 md μ0 Q nxt l (.inl (a - b) :: st) ρ μ cs) : mq_W p lc e R s m args below meth c G nL A ad0 ρ0 md μ0 Q pc l (.inl b :: .inl a :: st) ρ μ cs := by
  intro ad H locs ls hl ho hw hS hg ha
  have kk := k ad H locs ls hl (ho.pop.pop.push hr) hw hS hg ha
  obtain ⟨hd, rfl⟩ := hd
  refine lv_isub X.1 X.2.1 hd ?_
  rw [← Int32.ofInt_sub]
  exact kk
theorem mq_s_fsub (X : mq_cx p s m args meth c cc own nL G) {a b : Int} (hd : decode cc pc = .ok (.isub, 1) ∧ nxt = pc + 1)
    (k : ∀ r : Int, mq_in r → (mq_in (a - b) → r = a - b) → mq_W p lc e R s m args below meth c G nL A ad0 ρ0 md μ0 Q nxt l (.inl r :: st) ρ μ cs) : mq_W p lc e R s m args below meth c G nL A ad0 ρ0 md μ0 Q pc l (.inl b :: .inl a :: st) ρ μ cs := by
  intro ad H locs ls hl ho hw hS hg ha
  have kk := k (Int32.ofInt a - Int32.ofInt b).toInt (mq_in32 _) (fun q => by rw [← Int32.ofInt_sub, mq_i32 _ q]) ad H locs ls hl (ho.pop.pop.push (mq_in32 _)) hw hS hg ha
  obtain ⟨hd, rfl⟩ := hd
  refine lv_isub X.1 X.2.1 hd ?_
  simp only [List.map_cons, mq_val, Int32.ofInt_toInt] at kk
  exact kk
theorem mq_s_lsub (X : mq_cx p s m args meth c cc own nL G) {a b : Int} (hr : mq_inl (a - b)) (hd : decode cc pc = .ok (.lsub, 1) ∧ nxt = pc + 1)
    (k : mq_W p lc e R s m args below meth c G nL A ad0 ρ0 md μ0 Q nxt l (.inr (.inl (a - b)) :: st) ρ μ cs) : mq_W p lc e R s m args below meth c G nL A ad0 ρ0 md μ0 Q pc l (.inr (.inl b) :: .inr (.inl a) :: st) ρ μ cs := by
  intro ad H locs ls hl ho hw hS hg ha
  have kk := k ad H locs ls hl (ho.pop.pop.push hr) hw hS hg ha
  obtain ⟨hd, rfl⟩ := hd
  refine lv_lsub X.1 X.2.1 hd ?_
  rw [← Int64.ofInt_sub]
  exact kk
theorem mq_s_dsub (X : mq_cx p s m args meth c cc own nL G) {a b : Int} (hd : decode cc pc = .ok (.lsub, 1) ∧ nxt = pc + 1)
    (k : ∀ r : Int, mq_inl r → (mq_inl (a - b) → r = a - b) → mq_W p lc e R s m args below meth c G nL A ad0 ρ0 md μ0 Q nxt l (.inr (.inl r) :: st) ρ μ cs) : mq_W p lc e R s m args below meth c G nL A ad0 ρ0 md μ0 Q pc l (.inr (.inl b) :: .inr (.inl a) :: st) ρ μ cs := by
  intro ad H locs ls hl ho hw hS hg ha
  have kk := k (Int64.ofInt a - Int64.ofInt b).toInt (mq_in64 _) (fun q => by rw [← Int64.ofInt_sub, mq_i64 _ q]) ad H locs ls hl (ho.pop.pop.push (mq_in64 _)) hw hS hg ha
  obtain ⟨hd, rfl⟩ := hd
  refine lv_lsub X.1 X.2.1 hd ?_
  simp only [List.map_cons, mq_val, Int64.ofInt_toInt] at kk
  exact kk
theorem mq_s_imul (X : mq_cx p s m args meth c cc own nL G) {a b : Int} (hr : mq_in (a * b)) (hd : decode cc pc = .ok (.imul, 1) ∧ nxt = pc + 1)
    (k : mq_W p lc e R s m args below meth c G nL A ad0 ρ0 md μ0 Q nxt l (.inl (a * b) :: st) ρ μ cs) : mq_W p lc e R s m args below meth c G nL A ad0 ρ0 md μ0 Q pc l (.inl b :: .inl a :: st) ρ μ cs := by
  intro ad H locs ls hl ho hw hS hg ha
  have kk := k ad H locs ls hl (ho.pop.pop.push hr) hw hS hg ha
  obtain ⟨hd, rfl⟩ := hd
  refine lv_imul X.1 X.2.1 hd ?_
  rw [← Int32.ofInt_mul]
  exact kk
theorem mq_s_fmul (X : mq_cx p s m args meth c cc own nL G) {a b : Int} (hd : decode cc pc = .ok (.imul, 1) ∧ nxt = pc + 1)
    (k : ∀ r : Int, mq_in r → (mq_in (a * b) → r = a * b) → mq_W p lc e R s m args below meth c G nL A ad0 ρ0 md μ0 Q nxt l (.inl r :: st) ρ μ cs) : mq_W p lc e R s m args below meth c G nL A ad0 ρ0 md μ0 Q pc l (.inl b :: .inl a :: st) ρ μ cs := by
  intro ad H locs ls hl ho hw hS hg ha
  have kk := k (Int32.ofInt a * Int32.ofInt b).toInt (mq_in32 _) (fun q => by rw [← Int32.ofInt_mul, mq_i32 _ q]) ad H locs ls hl (ho.pop.pop.push (mq_in32 _)) hw hS hg ha
  obtain ⟨hd, rfl⟩ := hd
  refine lv_imul X.1 X.2.1 hd ?_
  simp only [List.map_cons, mq_val, Int32.ofInt_toInt] at kk
  exact kk
theorem mq_s_lmul (X : mq_cx p s m args meth c cc own nL G) {a b : Int} (hr : mq_inl (a * b)) (hd : decode cc pc = .ok (.lmul, 1) ∧ nxt = pc + 1)
    (k : mq_W p lc e R s m args below meth c G nL A ad0 ρ0 md μ0 Q nxt l (.inr (.inl (a * b)) :: st) ρ μ cs) : mq_W p lc e R s m args below meth c G nL A ad0 ρ0 md μ0 Q pc l (.inr (.inl b) :: .inr (.inl a) :: st) ρ μ cs := by
  intro ad H locs ls hl ho hw hS hg ha
  have kk := k ad H locs ls hl (ho.pop.pop.push hr) hw hS hg ha
  obtain ⟨hd, rfl⟩ := hd
  refine lv_lmul X.1 X.2.1 hd ?_
  rw [← Int64.ofInt_mul]
  exact kk
theorem mq_s_dmul (X : mq_cx p s m args meth c cc own nL G) {a b : Int} (hd : decode cc pc = .ok (.lmul, 1) ∧ nxt = pc + 1)
    (k : ∀ r : Int, mq_inl r → (mq_inl (a * b) → r = a * b) → mq_W p lc e R s m args below meth c G nL A ad0 ρ0 md μ0 Q nxt l (.inr (.inl r) :: st) ρ μ cs) : mq_W p lc e R s m args below meth c G nL A ad0 ρ0 md μ0 Q pc l (.inr (.inl b) :: .inr (.inl a) :: st) ρ μ cs := by
  intro ad H locs ls hl ho hw hS hg ha
  have kk := k (Int64.ofInt a * Int64.ofInt b).toInt (mq_in64 _) (fun q => by rw [← Int64.ofInt_mul, mq_i64 _ q]) ad H locs ls hl (ho.pop.pop.push (mq_in64 _)) hw hS hg ha
  obtain ⟨hd, rfl⟩ := hd
  refine lv_lmul X.1 X.2.1 hd ?_
  simp only [List.map_cons, mq_val, Int64.ofInt_toInt] at kk
  exact kk
theorem mq_s_ineg (X : mq_cx p s m args meth c cc own nL G) {a : Int} (hr : mq_in (-a)) (hd : decode cc pc = .ok (.ineg, 1) ∧ nxt = pc + 1)
    (k : mq_W p lc e R s m args below meth c G nL A ad0 ρ0 md μ0 Q nxt l (.inl (-a) :: st) ρ μ cs) : mq_W p lc e R s m args below meth c G nL A ad0 ρ0 md μ0 Q pc l (.inl a :: st) ρ μ cs := by
  intro ad H locs ls hl ho hw hS hg ha
  have kk := k ad H locs ls hl (ho.pop.push hr) hw hS hg ha
  obtain ⟨hd, rfl⟩ := hd
  refine lv_ineg X.1 X.2.1 hd ?_
  rw [← Int32.ofInt_neg]
  exact kk
theorem mq_div32 {a b : Int} (ha : mq_in a) (hb : mq_in b) (h1 : 0 ≤ a) (h2 : 0 < b) : (Int32.ofInt a / Int32.ofInt b).toInt = a / b := by
  rw [Int32.toInt_div_of_ne_right _ _ (fun q => ?_), mq_i32 a ha, mq_i32 b hb, Int.tdiv_eq_ediv_of_nonneg h1]
  have h := congrArg Int32.toInt q
  rw [mq_i32 b hb] at h
  have h9 : (-1 : Int32).toInt = -1 := by decide
  omega
theorem mq_and32 (x y : Int32) (h : 0 ≤ x.toInt) : 0 ≤ (x &&& y).toInt ∧ (x &&& y).toInt ≤ x.toInt := by
  have e1 : (x &&& y).toBitVec = x.toBitVec &&& y.toBitVec := rfl
  have h0 : x.toInt = x.toBitVec.toInt := rfl
  have h1 : (x &&& y).toInt = (x.toBitVec &&& y.toBitVec).toInt := rfl
  rw [h0] at h
  rw [h0, h1]
  have hx : x.toBitVec.toNat < 2 ^ 31 := by
    rw [BitVec.toInt_eq_toNat_cond] at h
    have := x.toBitVec.isLt
    split at h <;> omega
  have hle : (x.toBitVec &&& y.toBitVec).toNat ≤ x.toBitVec.toNat := by rw [BitVec.toNat_and]; exact Nat.and_le_left
  rw [BitVec.toInt_eq_toNat_cond, BitVec.toInt_eq_toNat_cond]
  split <;> split <;> omega
theorem mq_and32' (x y : Int32) (h : 0 ≤ y.toInt) : 0 ≤ (x &&& y).toInt ∧ (x &&& y).toInt ≤ y.toInt := by
  rw [Int32.and_comm]
  exact mq_and32 y x h
theorem mq_or32 (x y : Int32) (hx : 0 ≤ x.toInt) (hx2 : x.toInt ≤ 65535) (hy : 0 ≤ y.toInt) (hy2 : y.toInt ≤ 65535) : 0 ≤ (x ||| y).toInt ∧ (x ||| y).toInt ≤ 65535 := by
  have h0 : x.toInt = x.toBitVec.toInt := rfl
  have h2 : y.toInt = y.toBitVec.toInt := rfl
  have h1 : (x ||| y).toInt = (x.toBitVec ||| y.toBitVec).toInt := rfl
  rw [h0] at hx hx2
  rw [h2] at hy hy2
  rw [h1]
  have a1 : x.toBitVec.toNat < 2 ^ 16 := by
    rw [BitVec.toInt_eq_toNat_cond] at hx hx2
    have := x.toBitVec.isLt
    split at hx <;> omega
  have a2 : y.toBitVec.toNat < 2 ^ 16 := by
    rw [BitVec.toInt_eq_toNat_cond] at hy hy2
    have := y.toBitVec.isLt
    split at hy <;> omega
  have a3 : (x.toBitVec ||| y.toBitVec).toNat < 2 ^ 16 := by rw [BitVec.toNat_or]; exact Nat.or_lt_two_pow a1 a2
  rw [BitVec.toInt_eq_toNat_cond]
  split <;> omega
theorem mq_shl32 : ∀ n : Fin 16, 1 ≤ ((1 : Int32) <<< (Int32.ofInt (n.val : Int) &&& 31)).toInt ∧ ((1 : Int32) <<< (Int32.ofInt (n.val : Int) &&& 31)).toInt ≤ 32768 := by decide
theorem mq_s_idiv (X : mq_cx p s m args meth c cc own nL G) {a b : Int} (hne : ¬ b = 0) (hd : decode cc pc = .ok (.idiv, 1) ∧ nxt = pc + 1)
    (k : ∀ r : Int, mq_in r → r = (Int32.ofInt a / Int32.ofInt b).toInt → (0 ≤ a → 0 < b → 0 ≤ r ∧ r ≤ a) → mq_W p lc e R s m args below meth c G nL A ad0 ρ0 md μ0 Q nxt l (.inl r :: st) ρ μ cs) : mq_W p lc e R s m args below meth c G nL A ad0 ρ0 md μ0 Q pc l (.inl b :: .inl a :: st) ρ μ cs := by
  intro ad H locs ls hl ho hw hS hg ha
  have ha0 : mq_in a := ho.pop.top
  have hb0 : mq_in b := ho.top
  have kk := k (Int32.ofInt a / Int32.ofInt b).toInt (mq_in32 _) rfl (fun q1 q2 => by rw [mq_div32 ha0 hb0 q1 q2]; exact ⟨Int.ediv_nonneg q1 (Int.le_of_lt q2), Int.ediv_le_self b q1⟩) ad H locs ls hl (ho.pop.pop.push (mq_in32 _)) hw hS hg ha
  obtain ⟨hd, rfl⟩ := hd
  refine lv_idiv X.1 X.2.1 hd (fun q => hne ((mq_eq32 hb0 (by decide)).mp q)) ?_
  simp only [List.map_cons, mq_val, Int32.ofInt_toInt] at kk
  exact kk
theorem mq_rem32 {a b : Int} (ha : mq_in a) (hb : mq_in b) (h1 : 0 ≤ a) (h2 : 0 < b) : 0 ≤ (Int32.ofInt a - Int32.ofInt a / Int32.ofInt b * Int32.ofInt b).toInt ∧ (Int32.ofInt a - Int32.ofInt a / Int32.ofInt b * Int32.ofInt b).toInt < b := by
  have e1 : Int32.ofInt a / Int32.ofInt b = Int32.ofInt (a / b) := by rw [← Int32.toInt_inj, mq_div32 ha hb h1 h2, mq_i32]; exact ⟨by have := Int.ediv_nonneg h1 (Int.le_of_lt h2); omega, by have := Int.ediv_le_self b h1; have := ha.2; omega⟩
  rw [e1, ← Int32.ofInt_mul, ← Int32.ofInt_sub]
  have e2 : a - a / b * b = a % b := by rw [Int.emod_def, Int.mul_comm]
  have h3 := Int.emod_nonneg a (show b ≠ 0 by omega)
  have h4 := Int.emod_lt_of_pos a h2
  rw [e2, mq_i32 _ ⟨by omega, by have := hb.2; omega⟩]
  exact ⟨h3, h4⟩
theorem mq_s_irem (X : mq_cx p s m args meth c cc own nL G) {a b : Int} (hne : ¬ b = 0) (hd : decode cc pc = .ok (.irem, 1) ∧ nxt = pc + 1)
    (k : ∀ r : Int, mq_in r → (0 ≤ a → 0 < b → 0 ≤ r ∧ r < b) → mq_W p lc e R s m args below meth c G nL A ad0 ρ0 md μ0 Q nxt l (.inl r :: st) ρ μ cs) : mq_W p lc e R s m args below meth c G nL A ad0 ρ0 md μ0 Q pc l (.inl b :: .inl a :: st) ρ μ cs := by
  intro ad H locs ls hl ho hw hS hg ha
  have ha0 : mq_in a := ho.pop.top
  have hb0 : mq_in b := ho.top
  have kk := k (Int32.ofInt a - Int32.ofInt a / Int32.ofInt b * Int32.ofInt b).toInt (mq_in32 _) (fun q1 q2 => mq_rem32 ha0 hb0 q1 q2) ad H locs ls hl (ho.pop.pop.push (mq_in32 _)) hw hS hg ha
  obtain ⟨hd, rfl⟩ := hd
  refine lv_irem X.1 X.2.1 hd (fun q => hne ((mq_eq32 hb0 (by decide)).mp q)) ?_
  simp only [List.map_cons, mq_val, Int32.ofInt_toInt] at kk
  exact kk
theorem mq_s_iand (X : mq_cx p s m args meth c cc own nL G) {a b : Int} (hd : decode cc pc = .ok (.iand, 1) ∧ nxt = pc + 1)
    (k : ∀ r : Int, mq_in r → r = (Int32.ofInt a &&& Int32.ofInt b).toInt → (0 ≤ a → 0 ≤ r ∧ r ≤ a) → (0 ≤ b → 0 ≤ r ∧ r ≤ b) → mq_W p lc e R s m args below meth c G nL A ad0 ρ0 md μ0 Q nxt l (.inl r :: st) ρ μ cs) : mq_W p lc e R s m args below meth c G nL A ad0 ρ0 md μ0 Q pc l (.inl b :: .inl a :: st) ρ μ cs := by
  intro ad H locs ls hl ho hw hS hg ha
  have ha0 : mq_in a := ho.pop.top
  have hb0 : mq_in b := ho.top
  have kk := k (Int32.ofInt a &&& Int32.ofInt b).toInt (mq_in32 _) rfl (fun q => by have h := mq_and32 (Int32.ofInt a) (Int32.ofInt b) (by rw [mq_i32 a ha0]; exact q); rw [mq_i32 a ha0] at h; exact h) (fun q => by have h := mq_and32' (Int32.ofInt a) (Int32.ofInt b) (by rw [mq_i32 b hb0]; exact q); rw [mq_i32 b hb0] at h; exact h) ad H locs ls hl (ho.pop.pop.push (mq_in32 _)) hw hS hg ha
  obtain ⟨hd, rfl⟩ := hd
  refine lv_iand X.1 X.2.1 hd ?_
  simp only [List.map_cons, mq_val, Int32.ofInt_toInt] at kk
  exact kk
theorem mq_s_ior (X : mq_cx p s m args meth c cc own nL G) {a b : Int} (hd : decode cc pc = .ok (.ior, 1) ∧ nxt = pc + 1)
    (k : ∀ r : Int, mq_in r → (0 ≤ a → a ≤ 65535 → 0 ≤ b → b ≤ 65535 → 0 ≤ r ∧ r ≤ 65535) → mq_W p lc e R s m args below meth c G nL A ad0 ρ0 md μ0 Q nxt l (.inl r :: st) ρ μ cs) : mq_W p lc e R s m args below meth c G nL A ad0 ρ0 md μ0 Q pc l (.inl b :: .inl a :: st) ρ μ cs := by
  intro ad H locs ls hl ho hw hS hg ha
  have ha0 : mq_in a := ho.pop.top
  have hb0 : mq_in b := ho.top
  have kk := k (Int32.ofInt a ||| Int32.ofInt b).toInt (mq_in32 _) (fun q1 q2 q3 q4 => mq_or32 _ _ (by rw [mq_i32 a ha0]; exact q1) (by rw [mq_i32 a ha0]; exact q2) (by rw [mq_i32 b hb0]; exact q3) (by rw [mq_i32 b hb0]; exact q4)) ad H locs ls hl (ho.pop.pop.push (mq_in32 _)) hw hS hg ha
  obtain ⟨hd, rfl⟩ := hd
  refine lv_ior X.1 X.2.1 hd ?_
  simp only [List.map_cons, mq_val, Int32.ofInt_toInt] at kk
  exact kk
theorem mq_s_ishl (X : mq_cx p s m args meth c cc own nL G) {a b : Int} (hd : decode cc pc = .ok (.ishl, 1) ∧ nxt = pc + 1)
    (k : ∀ r : Int, mq_in r → (a = 1 → 0 ≤ b → b ≤ 15 → 1 ≤ r ∧ r ≤ 32768) → mq_W p lc e R s m args below meth c G nL A ad0 ρ0 md μ0 Q nxt l (.inl r :: st) ρ μ cs) : mq_W p lc e R s m args below meth c G nL A ad0 ρ0 md μ0 Q pc l (.inl b :: .inl a :: st) ρ μ cs := by
  intro ad H locs ls hl ho hw hS hg ha
  have ha0 : mq_in a := ho.pop.top
  have hb0 : mq_in b := ho.top
  have kk := k (Int32.ofInt a <<< (Int32.ofInt b &&& 31)).toInt (mq_in32 _) (fun q1 q2 q3 => by subst q1; have h := mq_shl32 ⟨b.toNat, by omega⟩; rw [show ((⟨b.toNat, by omega⟩ : Fin 16).val : Int) = b from Int.toNat_of_nonneg q2] at h; exact h) ad H locs ls hl (ho.pop.pop.push (mq_in32 _)) hw hS hg ha
  obtain ⟨hd, rfl⟩ := hd
  refine lv_ishl X.1 X.2.1 hd ?_
  simp only [List.map_cons, mq_val, Int32.ofInt_toInt] at kk
  exact kk
theorem mq_s_frem (X : mq_cx p s m args meth c cc own nL G) {a b : Int} (hd : decode cc pc = .ok (.isub, 1) ∧ nxt = pc + 1)
    (k : ∀ r : Int, mq_in r → r = (Int32.ofInt a - Int32.ofInt b).toInt → mq_W p lc e R s m args below meth c G nL A ad0 ρ0 md μ0 Q nxt l (.inl r :: st) ρ μ cs) : mq_W p lc e R s m args below meth c G nL A ad0 ρ0 md μ0 Q pc l (.inl b :: .inl a :: st) ρ μ cs := by
  intro ad H locs ls hl ho hw hS hg ha
  have ha0 : mq_in a := ho.pop.top
  have hb0 : mq_in b := ho.top
  have kk := k (Int32.ofInt a - Int32.ofInt b).toInt (mq_in32 _) rfl ad H locs ls hl (ho.pop.pop.push (mq_in32 _)) hw hS hg ha
  obtain ⟨hd, rfl⟩ := hd
  refine lv_isub X.1 X.2.1 hd ?_
  simp only [List.map_cons, mq_val, Int32.ofInt_toInt] at kk
  exact kk
theorem mq_s_ixor (X : mq_cx p s m args meth c cc own nL G) {a b : Int} (hd : decode cc pc = .ok (.ixor, 1) ∧ nxt = pc + 1)
    (k : ∀ r : Int, mq_in r → mq_W p lc e R s m args below meth c G nL A ad0 ρ0 md μ0 Q nxt l (.inl r :: st) ρ μ cs) : mq_W p lc e R s m args below meth c G nL A ad0 ρ0 md μ0 Q pc l (.inl b :: .inl a :: st) ρ μ cs := by
  intro ad H locs ls hl ho hw hS hg ha
  have ha0 : mq_in a := ho.pop.top
  have hb0 : mq_in b := ho.top
  have kk := k (Int32.ofInt a ^^^ Int32.ofInt b).toInt (mq_in32 _)  ad H locs ls hl (ho.pop.pop.push (mq_in32 _)) hw hS hg ha
  obtain ⟨hd, rfl⟩ := hd
  refine lv_ixor X.1 X.2.1 hd ?_
  simp only [List.map_cons, mq_val, Int32.ofInt_toInt] at kk
  exact kk
theorem mq_s_ishr (X : mq_cx p s m args meth c cc own nL G) {a b : Int} (hd : decode cc pc = .ok (.ishr, 1) ∧ nxt = pc + 1)
    (k : ∀ r : Int, mq_in r → (b = 0 → r = a) → mq_W p lc e R s m args below meth c G nL A ad0 ρ0 md μ0 Q nxt l (.inl r :: st) ρ μ cs) : mq_W p lc e R s m args below meth c G nL A ad0 ρ0 md μ0 Q pc l (.inl b :: .inl a :: st) ρ μ cs := by
  intro ad H locs ls hl ho hw hS hg ha
  have ha0 : mq_in a := ho.pop.top
  have hb0 : mq_in b := ho.top
  have kk := k (Int32.ofInt a >>> (Int32.ofInt b &&& 31)).toInt (mq_in32 _) (fun q => by subst q; rw [mq_shr0, mq_i32 a ha0]) ad H locs ls hl (ho.pop.pop.push (mq_in32 _)) hw hS hg ha
  obtain ⟨hd, rfl⟩ := hd
  refine lv_ishr X.1 X.2.1 hd ?_
  simp only [List.map_cons, mq_val, Int32.ofInt_toInt] at kk
  exact kk
theorem mq_s_iushr (X : mq_cx p s m args meth c cc own nL G) {a b : Int} (hd : decode cc pc = .ok (.iushr, 1) ∧ nxt = pc + 1)
    (k : ∀ r : Int, mq_in r → mq_W p lc e R s m args below meth c G nL A ad0 ρ0 md μ0 Q nxt l (.inl r :: st) ρ μ cs) : mq_W p lc e R s m args below meth c G nL A ad0 ρ0 md μ0 Q pc l (.inl b :: .inl a :: st) ρ μ cs := by
  intro ad H locs ls hl ho hw hS hg ha
  have ha0 : mq_in a := ho.pop.top
  have hb0 : mq_in b := ho.top
  have kk := k (((Int32.ofInt a).toUInt32 >>> ((Int32.ofInt b).toUInt32 &&& Int32.toUInt32 31)).toInt32).toInt (mq_in32 _)  ad H locs ls hl (ho.pop.pop.push (mq_in32 _)) hw hS hg ha
  obtain ⟨hd, rfl⟩ := hd
  refine lv_iushr X.1 X.2.1 hd rfl ?_
  simp only [List.map_cons, mq_val, Int32.ofInt_toInt] at kk
  exact kk
theorem mq_s_i2l (X : mq_cx p s m args meth c cc own nL G) {a : Int} (hd : decode cc pc = .ok (.i2l, 1) ∧ nxt = pc + 1)
    (k : mq_W p lc e R s m args below meth c G nL A ad0 ρ0 md μ0 Q nxt l (.inr (.inl a) :: st) ρ μ cs) : mq_W p lc e R s m args below meth c G nL A ad0 ρ0 md μ0 Q pc l (.inl a :: st) ρ μ cs := by
  intro ad H locs ls hl ho hw hS hg ha
  have ha0 : mq_in a := ho.top
  have hb0 : mq_inl a := ⟨by have := ha0.1; omega, by have := ha0.2; omega⟩
  have kk := k ad H locs ls hl (ho.pop.push hb0) hw hS hg ha
  obtain ⟨hd, rfl⟩ := hd
  exact lv_i2l X.1 X.2.1 hd (by rw [← Int64.toInt_inj, Int32.toInt_toInt64, mq_i32 a ha0, mq_i64 a hb0]) kk
theorem mq_s_l2i (X : mq_cx p s m args meth c cc own nL G) {a : Int} (hd : decode cc pc = .ok (.l2i, 1) ∧ nxt = pc + 1)
    (k : ∀ r : Int, mq_in r → (mq_in a → r = a) → mq_W p lc e R s m args below meth c G nL A ad0 ρ0 md μ0 Q nxt l (.inl r :: st) ρ μ cs) : mq_W p lc e R s m args below meth c G nL A ad0 ρ0 md μ0 Q pc l (.inr (.inl a) :: st) ρ μ cs := by
  intro ad H locs ls hl ho hw hS hg ha
  have ha0 : mq_inl a := ho.top
  have kk := k (Int64.ofInt a).toInt32.toInt (mq_in32 _) (fun q => by rw [Int64.toInt_toInt32, mq_i64 a ha0, Int.bmod_eq_of_le (by have := q.1; omega) (by have := q.2; omega)]) ad H locs ls hl (ho.pop.push (mq_in32 _)) hw hS hg ha
  obtain ⟨hd, rfl⟩ := hd
  refine lv_l2i X.1 X.2.1 hd rfl ?_
  simp only [List.map_cons, mq_val, Int32.ofInt_toInt] at kk
  exact kk
theorem mq_s_i2b (X : mq_cx p s m args meth c cc own nL G) {a : Int} (hd : decode cc pc = .ok (.i2b, 1) ∧ nxt = pc + 1)
    (k : ∀ r : Int, -128 ≤ r → r ≤ 127 → (-128 ≤ a → a ≤ 127 → r = a) → mq_W p lc e R s m args below meth c G nL A ad0 ρ0 md μ0 Q nxt l (.inl r :: st) ρ μ cs) : mq_W p lc e R s m args below meth c G nL A ad0 ρ0 md μ0 Q pc l (.inl a :: st) ρ μ cs := by
  intro ad H locs ls hl ho hw hS hg ha
  have ha0 : mq_in a := ho.top
  have e1 : (Int32.ofInt a).toInt8.toInt32.toInt = (Int32.ofInt a).toInt8.toInt := Int8.toInt_toInt32 _
  have h1 := Int8.le_toInt (Int32.ofInt a).toInt8
  have h2 := Int8.toInt_lt (Int32.ofInt a).toInt8
  have kk := k (Int32.ofInt a).toInt8.toInt32.toInt (by rw [e1]; omega) (by rw [e1]; omega) (fun q1 q2 => by rw [e1, Int32.toInt_toInt8, mq_i32 a ha0, Int.bmod_eq_of_le (by omega) (by omega)]) ad H locs ls hl (ho.pop.push (mq_in32 _)) hw hS hg ha
  obtain ⟨hd, rfl⟩ := hd
  refine lv_i2b X.1 X.2.1 hd rfl ?_
  simp only [List.map_cons, mq_val, Int32.ofInt_toInt] at kk
  exact kk
theorem mq_s_i2s (X : mq_cx p s m args meth c cc own nL G) {a : Int} (hd : decode cc pc = .ok (.i2s, 1) ∧ nxt = pc + 1)
    (k : ∀ r : Int, -32768 ≤ r → r ≤ 32767 → (-32768 ≤ a → a ≤ 32767 → r = a) → mq_W p lc e R s m args below meth c G nL A ad0 ρ0 md μ0 Q nxt l (.inl r :: st) ρ μ cs) : mq_W p lc e R s m args below meth c G nL A ad0 ρ0 md μ0 Q pc l (.inl a :: st) ρ μ cs := by
  intro ad H locs ls hl ho hw hS hg ha
  have ha0 : mq_in a := ho.top
  have e1 : (Int32.ofInt a).toInt16.toInt32.toInt = (Int32.ofInt a).toInt16.toInt := Int16.toInt_toInt32 _
  have h1 := Int16.le_toInt (Int32.ofInt a).toInt16
  have h2 := Int16.toInt_lt (Int32.ofInt a).toInt16
  have kk := k (Int32.ofInt a).toInt16.toInt32.toInt (by rw [e1]; omega) (by rw [e1]; omega) (fun q1 q2 => by rw [e1, Int32.toInt_toInt16, mq_i32 a ha0, Int.bmod_eq_of_le (by omega) (by omega)]) ad H locs ls hl (ho.pop.push (mq_in32 _)) hw hS hg ha
  obtain ⟨hd, rfl⟩ := hd
  refine lv_i2s X.1 X.2.1 hd rfl ?_
  simp only [List.map_cons, mq_val, Int32.ofInt_toInt] at kk
  exact kk
theorem mq_div64 {a b : Int} (ha : mq_inl a) (hb : mq_inl b) (h1 : 0 ≤ a) (h2 : 0 < b) : (Int64.ofInt a / Int64.ofInt b).toInt = a / b := by
  rw [Int64.toInt_div_of_ne_right _ _ (fun q => ?_), mq_i64 a ha, mq_i64 b hb, Int.tdiv_eq_ediv_of_nonneg h1]
  have h := congrArg Int64.toInt q
  rw [mq_i64 b hb] at h
  have h9 : (-1 : Int64).toInt = -1 := by decide
  omega
theorem mq_rem64 {a b : Int} (ha : mq_inl a) (hb : mq_inl b) (h1 : 0 ≤ a) (h2 : 0 < b) : 0 ≤ (Int64.ofInt a - Int64.ofInt a / Int64.ofInt b * Int64.ofInt b).toInt ∧ (Int64.ofInt a - Int64.ofInt a / Int64.ofInt b * Int64.ofInt b).toInt < b := by
  have e1 : Int64.ofInt a / Int64.ofInt b = Int64.ofInt (a / b) := by rw [← Int64.toInt_inj, mq_div64 ha hb h1 h2, mq_i64]; exact ⟨by have := Int.ediv_nonneg h1 (Int.le_of_lt h2); omega, by have := Int.ediv_le_self b h1; have := ha.2; omega⟩
  rw [e1, ← Int64.ofInt_mul, ← Int64.ofInt_sub]
  have e2 : a - a / b * b = a % b := by rw [Int.emod_def, Int.mul_comm]
  have h3 := Int.emod_nonneg a (show b ≠ 0 by omega)
  have h4 := Int.emod_lt_of_pos a h2
  rw [e2, mq_i64 _ ⟨by omega, by have := hb.2; omega⟩]
  exact ⟨h3, h4⟩
theorem mq_eq64 {a b : Int} (ha : mq_inl a) (hb : mq_inl b) : Int64.ofInt a = Int64.ofInt b ↔ a = b := by rw [← Int64.toInt_inj, mq_i64 a ha, mq_i64 b hb]
theorem mq_lt64 {a b : Int} (ha : mq_inl a) (hb : mq_inl b) : Int64.ofInt a < Int64.ofInt b ↔ a < b := by rw [Int64.lt_iff_toInt_lt, mq_i64 a ha, mq_i64 b hb]
theorem mq_s_ldiv (X : mq_cx p s m args meth c cc own nL G) {a b : Int} (hne : ¬ b = 0) (hd : decode cc pc = .ok (.ldiv, 1) ∧ nxt = pc + 1)
    (k : ∀ r : Int, mq_inl r → (0 ≤ a → 0 < b → 0 ≤ r ∧ r ≤ a) → mq_W p lc e R s m args below meth c G nL A ad0 ρ0 md μ0 Q nxt l (.inr (.inl r) :: st) ρ μ cs) : mq_W p lc e R s m args below meth c G nL A ad0 ρ0 md μ0 Q pc l (.inr (.inl b) :: .inr (.inl a) :: st) ρ μ cs := by
  intro ad H locs ls hl ho hw hS hg ha
  have ha0 : mq_inl a := ho.pop.top
  have hb0 : mq_inl b := ho.top
  have kk := k (Int64.ofInt a / Int64.ofInt b).toInt (mq_in64 _) (fun q1 q2 => by rw [mq_div64 ha0 hb0 q1 q2]; exact ⟨Int.ediv_nonneg q1 (Int.le_of_lt q2), Int.ediv_le_self b q1⟩) ad H locs ls hl (ho.pop.pop.push (mq_in64 _)) hw hS hg ha
  obtain ⟨hd, rfl⟩ := hd
  refine lv_ldiv X.1 X.2.1 hd (fun q => hne ((mq_eq64 hb0 (by decide)).mp q)) ?_
  simp only [List.map_cons, mq_val, Int64.ofInt_toInt] at kk
  exact kk
theorem mq_s_lrem (X : mq_cx p s m args meth c cc own nL G) {a b : Int} (hne : ¬ b = 0) (hd : decode cc pc = .ok (.lrem, 1) ∧ nxt = pc + 1)
    (k : ∀ r : Int, mq_inl r → (0 ≤ a → 0 < b → 0 ≤ r ∧ r < b) → mq_W p lc e R s m args below meth c G nL A ad0 ρ0 md μ0 Q nxt l (.inr (.inl r) :: st) ρ μ cs) : mq_W p lc e R s m args below meth c G nL A ad0 ρ0 md μ0 Q pc l (.inr (.inl b) :: .inr (.inl a) :: st) ρ μ cs := by
  intro ad H locs ls hl ho hw hS hg ha
  have ha0 : mq_inl a := ho.pop.top
  have hb0 : mq_inl b := ho.top
  have kk := k (Int64.ofInt a - Int64.ofInt a / Int64.ofInt b * Int64.ofInt b).toInt (mq_in64 _) (fun q1 q2 => mq_rem64 ha0 hb0 q1 q2) ad H locs ls hl (ho.pop.pop.push (mq_in64 _)) hw hS hg ha
  obtain ⟨hd, rfl⟩ := hd
  refine lv_lrem X.1 X.2.1 hd (fun q => hne ((mq_eq64 hb0 (by decide)).mp q)) ?_
  simp only [List.map_cons, mq_val, Int64.ofInt_toInt] at kk
  exact kk
theorem mq_cmp64 {a b : Int} (ha : mq_inl a) (hb : mq_inl b) : (a < b ∧ (lg_cmp (Int64.ofInt a) (Int64.ofInt b)).toInt = -1) ∨ (a = b ∧ (lg_cmp (Int64.ofInt a) (Int64.ofInt b)).toInt = 0) ∨ (b < a ∧ (lg_cmp (Int64.ofInt a) (Int64.ofInt b)).toInt = 1) := by
  have h1 := mq_lt64 ha hb
  have h2 := mq_lt64 hb ha
  have h3 := mq_eq64 ha hb
  unfold lg_cmp
  rcases Int.lt_trichotomy a b with h | h | h
  · left; refine ⟨h, ?_⟩; simp [h1, h2, h3, h, show ¬ b < a by omega, show ¬ a = b by omega]
  · right; left; refine ⟨h, ?_⟩; subst h; simp
  · right; right; refine ⟨h, ?_⟩; simp [h1, h2, h3, h, show ¬ a < b by omega, show ¬ a = b by omega]
theorem mq_s_lcmp (X : mq_cx p s m args meth c cc own nL G) {a b : Int} (hd : decode cc pc = .ok (.lcmp, 1) ∧ nxt = pc + 1)
    (k : ∀ r : Int, mq_in r → ((a < b ∧ r = -1) ∨ (a = b ∧ r = 0) ∨ (b < a ∧ r = 1)) → mq_W p lc e R s m args below meth c G nL A ad0 ρ0 md μ0 Q nxt l (.inl r :: st) ρ μ cs) : mq_W p lc e R s m args below meth c G nL A ad0 ρ0 md μ0 Q pc l (.inr (.inl b) :: .inr (.inl a) :: st) ρ μ cs := by
  intro ad H locs ls hl ho hw hS hg ha
  have ha0 : mq_inl a := ho.pop.top
  have hb0 : mq_inl b := ho.top
  have kk := k (lg_cmp (Int64.ofInt a) (Int64.ofInt b)).toInt (mq_in32 _) (mq_cmp64 ha0 hb0) ad H locs ls hl (ho.pop.pop.push (mq_in32 _)) hw hS hg ha
  obtain ⟨hd, rfl⟩ := hd
  refine W.lcmp X.1 X.2.1 hd ?_
  simp only [List.map_cons, mq_val, Int32.ofInt_toInt] at kk
  exact kk
theorem mq_s_dup (X : mq_cx p s m args meth c cc own nL G) {v : mq_V} (hv : (mq_val ad0 v).category = 1) (hd : decode cc pc = .ok (.dup, 1) ∧ nxt = pc + 1)
    (k : mq_W p lc e R s m args below meth c G nL A ad0 ρ0 md μ0 Q nxt l (v :: v :: st) ρ μ cs) : mq_W p lc e R s m args below meth c G nL A ad0 ρ0 md μ0 Q pc l (v :: st) ρ μ cs := by
  intro ad H locs ls hl ho hw hS hg ha
  have kk := k ad H locs ls hl (ho.push ho.top) hw hS hg ha
  obtain ⟨hd, rfl⟩ := hd
  exact lv_dup X.1 X.2.1 hd (by rcases v with _ | (_ | (_ | _)) <;> first | rfl | exact hv) kk
theorem mq_s_dup2 (X : mq_cx p s m args meth c cc own nL G) {v w : mq_V} (hv : (mq_val ad0 v).category = 1) (hw1 : (mq_val ad0 w).category = 1) (hd : decode cc pc = .ok (.dup2, 1) ∧ nxt = pc + 1)
    (k : mq_W p lc e R s m args below meth c G nL A ad0 ρ0 md μ0 Q nxt l (v :: w :: v :: w :: st) ρ μ cs) : mq_W p lc e R s m args below meth c G nL A ad0 ρ0 md μ0 Q pc l (v :: w :: st) ρ μ cs := by
  intro ad H locs ls hl ho hw hS hg ha
  have kk := k ad H locs ls hl ((ho.push ho.pop.top).push ho.top) hw hS hg ha
  obtain ⟨hd, rfl⟩ := hd
  exact lv_dup2_11 X.1 X.2.1 hd (by rcases v with _ | (_ | (_ | _)) <;> first | rfl | exact hv) (by rcases w with _ | (_ | (_ | _)) <;> first | rfl | exact hw1) kk
theorem mq_s_pop (X : mq_cx p s m args meth c cc own nL G) {v : mq_V} (hv : (mq_val ad0 v).category = 1) (hd : decode cc pc = .ok (.pop, 1) ∧ nxt = pc + 1)
    (k : mq_W p lc e R s m args below meth c G nL A ad0 ρ0 md μ0 Q nxt l st ρ μ cs) : mq_W p lc e R s m args below meth c G nL A ad0 ρ0 md μ0 Q pc l (v :: st) ρ μ cs := by
  intro ad H locs ls hl ho hw hS hg ha
  have kk := k ad H locs ls hl ho.pop hw hS hg ha
  obtain ⟨hd, rfl⟩ := hd
  exact lv_pop X.1 X.2.1 hd (by rcases v with _ | (_ | (_ | _)) <;> first | rfl | exact hv) kk
theorem mq_s_icmp_eq (X : mq_cx p s m args meth c cc own nL G) {a b : Int} {off : Int} {tgt : Nat} (hd : decode cc pc = .ok (.if_icmp .eq off, 3) ∧ nxt = pc + 3 ∧ (pc : Int) + off = (tgt : Int))
    (k : (a = b → mq_W p lc e R s m args below meth c G nL A ad0 ρ0 md μ0 Q tgt l st ρ μ cs) ∧ (¬ a = b → mq_W p lc e R s m args below meth c G nL A ad0 ρ0 md μ0 Q nxt l st ρ μ cs)) : mq_W p lc e R s m args below meth c G nL A ad0 ρ0 md μ0 Q pc l (.inl b :: .inl a :: st) ρ μ cs := by
  intro ad H locs ls hl ho hw hS hg ha
  have ha0 : mq_in a := ho.pop.top
  have hb0 : mq_in b := ho.top
  obtain ⟨hd, hn, ht⟩ := hd
  subst hn
  exact lv_icmp_eq X.1 X.2.1 hd ht (fun q => k.1 ((mq_eq32 ha0 hb0).mp q) ad H locs ls hl ho.pop.pop hw hS hg ha) (fun q => k.2 ((fun z => q ((mq_eq32 ha0 hb0).mpr z))) ad H locs ls hl ho.pop.pop hw hS hg ha)
theorem mq_s_icmp_ne (X : mq_cx p s m args meth c cc own nL G) {a b : Int} {off : Int} {tgt : Nat} (hd : decode cc pc = .ok (.if_icmp .ne off, 3) ∧ nxt = pc + 3 ∧ (pc : Int) + off = (tgt : Int))
    (k : (¬ a = b → mq_W p lc e R s m args below meth c G nL A ad0 ρ0 md μ0 Q tgt l st ρ μ cs) ∧ (a = b → mq_W p lc e R s m args below meth c G nL A ad0 ρ0 md μ0 Q nxt l st ρ μ cs)) : mq_W p lc e R s m args below meth c G nL A ad0 ρ0 md μ0 Q pc l (.inl b :: .inl a :: st) ρ μ cs := by
  intro ad H locs ls hl ho hw hS hg ha
  have ha0 : mq_in a := ho.pop.top
  have hb0 : mq_in b := ho.top
  obtain ⟨hd, hn, ht⟩ := hd
  subst hn
  exact lv_icmp_ne X.1 X.2.1 hd ht (fun q => k.1 ((fun z => q ((mq_eq32 ha0 hb0).mpr z))) ad H locs ls hl ho.pop.pop hw hS hg ha) (fun q => k.2 ((mq_eq32 ha0 hb0).mp q) ad H locs ls hl ho.pop.pop hw hS hg ha)
theorem mq_s_icmp_lt (X : mq_cx p s m args meth c cc own nL G) {a b : Int} {off : Int} {tgt : Nat} (hd : decode cc pc = .ok (.if_icmp .lt off, 3) ∧ nxt = pc + 3 ∧ (pc : Int) + off = (tgt : Int))
    (k : (a < b → mq_W p lc e R s m args below meth c G nL A ad0 ρ0 md μ0 Q tgt l st ρ μ cs) ∧ (b ≤ a → mq_W p lc e R s m args below meth c G nL A ad0 ρ0 md μ0 Q nxt l st ρ μ cs)) : mq_W p lc e R s m args below meth c G nL A ad0 ρ0 md μ0 Q pc l (.inl b :: .inl a :: st) ρ μ cs := by
  intro ad H locs ls hl ho hw hS hg ha
  have ha0 : mq_in a := ho.pop.top
  have hb0 : mq_in b := ho.top
  obtain ⟨hd, hn, ht⟩ := hd
  subst hn
  exact lv_icmp_lt X.1 X.2.1 hd ht (fun q => k.1 ((mq_lt32 ha0 hb0).mp q) ad H locs ls hl ho.pop.pop hw hS hg ha) (fun q => k.2 ((Int.not_lt.mp (fun z => q ((mq_lt32 ha0 hb0).mpr z)))) ad H locs ls hl ho.pop.pop hw hS hg ha)
theorem mq_s_icmp_ge (X : mq_cx p s m args meth c cc own nL G) {a b : Int} {off : Int} {tgt : Nat} (hd : decode cc pc = .ok (.if_icmp .ge off, 3) ∧ nxt = pc + 3 ∧ (pc : Int) + off = (tgt : Int))
    (k : (b ≤ a → mq_W p lc e R s m args below meth c G nL A ad0 ρ0 md μ0 Q tgt l st ρ μ cs) ∧ (a < b → mq_W p lc e R s m args below meth c G nL A ad0 ρ0 md μ0 Q nxt l st ρ μ cs)) : mq_W p lc e R s m args below meth c G nL A ad0 ρ0 md μ0 Q pc l (.inl b :: .inl a :: st) ρ μ cs := by
  intro ad H locs ls hl ho hw hS hg ha
  have ha0 : mq_in a := ho.pop.top
  have hb0 : mq_in b := ho.top
  obtain ⟨hd, hn, ht⟩ := hd
  subst hn
  exact lv_icmp_ge X.1 X.2.1 hd ht (fun q => k.1 ((mq_le32 hb0 ha0).mp q) ad H locs ls hl ho.pop.pop hw hS hg ha) (fun q => k.2 ((Int.not_le.mp (fun z => q ((mq_le32 hb0 ha0).mpr z)))) ad H locs ls hl ho.pop.pop hw hS hg ha)
theorem mq_s_icmp_gt (X : mq_cx p s m args meth c cc own nL G) {a b : Int} {off : Int} {tgt : Nat} (hd : decode cc pc = .ok (.if_icmp .gt off, 3) ∧ nxt = pc + 3 ∧ (pc : Int) + off = (tgt : Int))
    (k : (b < a → mq_W p lc e R s m args below meth c G nL A ad0 ρ0 md μ0 Q tgt l st ρ μ cs) ∧ (a ≤ b → mq_W p lc e R s m args below meth c G nL A ad0 ρ0 md μ0 Q nxt l st ρ μ cs)) : mq_W p lc e R s m args below meth c G nL A ad0 ρ0 md μ0 Q pc l (.inl b :: .inl a :: st) ρ μ cs := by
  intro ad H locs ls hl ho hw hS hg ha
  have ha0 : mq_in a := ho.pop.top
  have hb0 : mq_in b := ho.top
  obtain ⟨hd, hn, ht⟩ := hd
  subst hn
  exact lv_icmp_gt X.1 X.2.1 hd ht (fun q => k.1 ((mq_lt32 hb0 ha0).mp q) ad H locs ls hl ho.pop.pop hw hS hg ha) (fun q => k.2 ((Int.not_lt.mp (fun z => q ((mq_lt32 hb0 ha0).mpr z)))) ad H locs ls hl ho.pop.pop hw hS hg ha)
theorem mq_s_icmp_le (X : mq_cx p s m args meth c cc own nL G) {a b : Int} {off : Int} {tgt : Nat} (hd : decode cc pc = .ok (.if_icmp .le off, 3) ∧ nxt = pc + 3 ∧ (pc : Int) + off = (tgt : Int))
    (k : (a ≤ b → mq_W p lc e R s m args below meth c G nL A ad0 ρ0 md μ0 Q tgt l st ρ μ cs) ∧ (b < a → mq_W p lc e R s m args below meth c G nL A ad0 ρ0 md μ0 Q nxt l st ρ μ cs)) : mq_W p lc e R s m args below meth c G nL A ad0 ρ0 md μ0 Q pc l (.inl b :: .inl a :: st) ρ μ cs := by
  intro ad H locs ls hl ho hw hS hg ha
  have ha0 : mq_in a := ho.pop.top
  have hb0 : mq_in b := ho.top
  obtain ⟨hd, hn, ht⟩ := hd
  subst hn
  exact lv_icmp_le X.1 X.2.1 hd ht (fun q => k.1 ((mq_le32 ha0 hb0).mp q) ad H locs ls hl ho.pop.pop hw hS hg ha) (fun q => k.2 ((Int.not_le.mp (fun z => q ((mq_le32 ha0 hb0).mpr z)))) ad H locs ls hl ho.pop.pop hw hS hg ha)
theorem mq_s_if_eq (X : mq_cx p s m args meth c cc own nL G) {a : Int} {off : Int} {tgt : Nat} (hd : decode cc pc = .ok (.ifCond .eq off, 3) ∧ nxt = pc + 3 ∧ (pc : Int) + off = (tgt : Int))
    (k : (a = 0 → mq_W p lc e R s m args below meth c G nL A ad0 ρ0 md μ0 Q tgt l st ρ μ cs) ∧ (¬ a = 0 → mq_W p lc e R s m args below meth c G nL A ad0 ρ0 md μ0 Q nxt l st ρ μ cs)) : mq_W p lc e R s m args below meth c G nL A ad0 ρ0 md μ0 Q pc l (.inl a :: st) ρ μ cs := by
  intro ad H locs ls hl ho hw hS hg ha
  have ha0 : mq_in a := ho.top
  have hb0 : mq_in 0 := by decide
  obtain ⟨hd, hn, ht⟩ := hd
  subst hn
  exact lv_if_eq X.1 X.2.1 hd ht (fun q => k.1 ((mq_eq32 ha0 hb0).mp q) ad H locs ls hl ho.pop hw hS hg ha) (fun q => k.2 ((fun z => q ((mq_eq32 ha0 hb0).mpr z))) ad H locs ls hl ho.pop hw hS hg ha)
theorem mq_s_if_ne (X : mq_cx p s m args meth c cc own nL G) {a : Int} {off : Int} {tgt : Nat} (hd : decode cc pc = .ok (.ifCond .ne off, 3) ∧ nxt = pc + 3 ∧ (pc : Int) + off = (tgt : Int))
    (k : (¬ a = 0 → mq_W p lc e R s m args below meth c G nL A ad0 ρ0 md μ0 Q tgt l st ρ μ cs) ∧ (a = 0 → mq_W p lc e R s m args below meth c G nL A ad0 ρ0 md μ0 Q nxt l st ρ μ cs)) : mq_W p lc e R s m args below meth c G nL A ad0 ρ0 md μ0 Q pc l (.inl a :: st) ρ μ cs := by
  intro ad H locs ls hl ho hw hS hg ha
  have ha0 : mq_in a := ho.top
  have hb0 : mq_in 0 := by decide
  obtain ⟨hd, hn, ht⟩ := hd
  subst hn
  exact lv_if_ne X.1 X.2.1 hd ht (fun q => k.1 ((fun z => q ((mq_eq32 ha0 hb0).mpr z))) ad H locs ls hl ho.pop hw hS hg ha) (fun q => k.2 ((mq_eq32 ha0 hb0).mp q) ad H locs ls hl ho.pop hw hS hg ha)
theorem mq_s_if_lt (X : mq_cx p s m args meth c cc own nL G) {a : Int} {off : Int} {tgt : Nat} (hd : decode cc pc = .ok (.ifCond .lt off, 3) ∧ nxt = pc + 3 ∧ (pc : Int) + off = (tgt : Int))
    (k : (a < 0 → mq_W p lc e R s m args below meth c G nL A ad0 ρ0 md μ0 Q tgt l st ρ μ cs) ∧ (0 ≤ a → mq_W p lc e R s m args below meth c G nL A ad0 ρ0 md μ0 Q nxt l st ρ μ cs)) : mq_W p lc e R s m args below meth c G nL A ad0 ρ0 md μ0 Q pc l (.inl a :: st) ρ μ cs := by
  intro ad H locs ls hl ho hw hS hg ha
  have ha0 : mq_in a := ho.top
  have hb0 : mq_in 0 := by decide
  obtain ⟨hd, hn, ht⟩ := hd
  subst hn
  exact lv_if_lt X.1 X.2.1 hd ht (fun q => k.1 ((mq_lt32 ha0 hb0).mp q) ad H locs ls hl ho.pop hw hS hg ha) (fun q => k.2 ((Int.not_lt.mp (fun z => q ((mq_lt32 ha0 hb0).mpr z)))) ad H locs ls hl ho.pop hw hS hg ha)
theorem mq_s_if_ge (X : mq_cx p s m args meth c cc own nL G) {a : Int} {off : Int} {tgt : Nat} (hd : decode cc pc = .ok (.ifCond .ge off, 3) ∧ nxt = pc + 3 ∧ (pc : Int) + off = (tgt : Int))
    (k : (0 ≤ a → mq_W p lc e R s m args below meth c G nL A ad0 ρ0 md μ0 Q tgt l st ρ μ cs) ∧ (a < 0 → mq_W p lc e R s m args below meth c G nL A ad0 ρ0 md μ0 Q nxt l st ρ μ cs)) : mq_W p lc e R s m args below meth c G nL A ad0 ρ0 md μ0 Q pc l (.inl a :: st) ρ μ cs := by
  intro ad H locs ls hl ho hw hS hg ha
  have ha0 : mq_in a := ho.top
  have hb0 : mq_in 0 := by decide
  obtain ⟨hd, hn, ht⟩ := hd
  subst hn
  exact lv_if_ge X.1 X.2.1 hd ht (fun q => k.1 ((mq_le32 hb0 ha0).mp q) ad H locs ls hl ho.pop hw hS hg ha) (fun q => k.2 ((Int.not_le.mp (fun z => q ((mq_le32 hb0 ha0).mpr z)))) ad H locs ls hl ho.pop hw hS hg ha)
theorem mq_s_if_gt (X : mq_cx p s m args meth c cc own nL G) {a : Int} {off : Int} {tgt : Nat} (hd : decode cc pc = .ok (.ifCond .gt off, 3) ∧ nxt = pc + 3 ∧ (pc : Int) + off = (tgt : Int))
    (k : (0 < a → mq_W p lc e R s m args below meth c G nL A ad0 ρ0 md μ0 Q tgt l st ρ μ cs) ∧ (a ≤ 0 → mq_W p lc e R s m args below meth c G nL A ad0 ρ0 md μ0 Q nxt l st ρ μ cs)) : mq_W p lc e R s m args below meth c G nL A ad0 ρ0 md μ0 Q pc l (.inl a :: st) ρ μ cs := by
  intro ad H locs ls hl ho hw hS hg ha
  have ha0 : mq_in a := ho.top
  have hb0 : mq_in 0 := by decide
  obtain ⟨hd, hn, ht⟩ := hd
  subst hn
  exact lv_if_gt X.1 X.2.1 hd ht (fun q => k.1 ((mq_lt32 hb0 ha0).mp q) ad H locs ls hl ho.pop hw hS hg ha) (fun q => k.2 ((Int.not_lt.mp (fun z => q ((mq_lt32 hb0 ha0).mpr z)))) ad H locs ls hl ho.pop hw hS hg ha)
theorem mq_s_if_le (X : mq_cx p s m args meth c cc own nL G) {a : Int} {off : Int} {tgt : Nat} (hd : decode cc pc = .ok (.ifCond .le off, 3) ∧ nxt = pc + 3 ∧ (pc : Int) + off = (tgt : Int))
    (k : (a ≤ 0 → mq_W p lc e R s m args below meth c G nL A ad0 ρ0 md μ0 Q tgt l st ρ μ cs) ∧ (0 < a → mq_W p lc e R s m args below meth c G nL A ad0 ρ0 md μ0 Q nxt l st ρ μ cs)) : mq_W p lc e R s m args below meth c G nL A ad0 ρ0 md μ0 Q pc l (.inl a :: st) ρ μ cs := by
  intro ad H locs ls hl ho hw hS hg ha
  have ha0 : mq_in a := ho.top
  have hb0 : mq_in 0 := by decide
  obtain ⟨hd, hn, ht⟩ := hd
  subst hn
  exact lv_if_le X.1 X.2.1 hd ht (fun q => k.1 ((mq_le32 ha0 hb0).mp q) ad H locs ls hl ho.pop hw hS hg ha) (fun q => k.2 ((Int.not_le.mp (fun z => q ((mq_le32 ha0 hb0).mpr z)))) ad H locs ls hl ho.pop hw hS hg ha)
theorem mq_s_goto (X : mq_cx p s m args meth c cc own nL G) {off : Int} {tgt : Nat} (hd : decode cc pc = .ok (.goto off, 3) ∧ (pc : Int) + off = (tgt : Int))
    (k : mq_W p lc e R s m args below meth c G nL A ad0 ρ0 md μ0 Q tgt l st ρ μ cs) : mq_W p lc e R s m args below meth c G nL A ad0 ρ0 md μ0 Q pc l st ρ μ cs := by
  intro ad H locs ls hl ho hw hS hg ha
  exact lv_goto X.1 X.2.1 hd.1 hd.2 (k ad H locs ls hl ho hw hS hg ha)
theorem mq_s_ifnull_n (X : mq_cx p s m args meth c cc own nL G) {off : Int} {tgt : Nat} (hd : decode cc pc = .ok (.ifnull off, 3) ∧ (pc : Int) + off = (tgt : Int))
    (k : mq_W p lc e R s m args below meth c G nL A ad0 ρ0 md μ0 Q tgt l st ρ μ cs) : mq_W p lc e R s m args below meth c G nL A ad0 ρ0 md μ0 Q pc l (.inr (.inr none) :: st) ρ μ cs := by
  intro ad H locs ls hl ho hw hS hg ha
  exact lv_ifnullN X.1 X.2.1 hd.1 hd.2 (k ad H locs ls hl ho.pop hw hS hg ha)
theorem mq_s_ifnull_s (X : mq_cx p s m args meth c cc own nL G) {off : Int} {j : mq_J} (hd : decode cc pc = .ok (.ifnull off, 3) ∧ nxt = pc + 3)
    (k : mq_W p lc e R s m args below meth c G nL A ad0 ρ0 md μ0 Q nxt l st ρ μ cs) : mq_W p lc e R s m args below meth c G nL A ad0 ρ0 md μ0 Q pc l (.inr (.inr (some j)) :: st) ρ μ cs := by
  intro ad H locs ls hl ho hw hS hg ha
  obtain ⟨hd, rfl⟩ := hd
  exact lv_ifnull X.1 X.2.1 hd (k ad H locs ls hl ho.pop hw hS hg ha)
theorem mq_s_ifnonnull_n (X : mq_cx p s m args meth c cc own nL G) {off : Int} (hd : decode cc pc = .ok (.ifnonnull off, 3) ∧ nxt = pc + 3)
    (k : mq_W p lc e R s m args below meth c G nL A ad0 ρ0 md μ0 Q nxt l st ρ μ cs) : mq_W p lc e R s m args below meth c G nL A ad0 ρ0 md μ0 Q pc l (.inr (.inr none) :: st) ρ μ cs := by
  intro ad H locs ls hl ho hw hS hg ha
  obtain ⟨hd, rfl⟩ := hd
  exact lv_ifnonnullN X.1 X.2.1 hd (k ad H locs ls hl ho.pop hw hS hg ha)
theorem mq_s_ifnonnull_s (X : mq_cx p s m args meth c cc own nL G) {off : Int} {tgt : Nat} {j : mq_J} (hd : decode cc pc = .ok (.ifnonnull off, 3) ∧ (pc : Int) + off = (tgt : Int))
    (k : mq_W p lc e R s m args below meth c G nL A ad0 ρ0 md μ0 Q tgt l st ρ μ cs) : mq_W p lc e R s m args below meth c G nL A ad0 ρ0 md μ0 Q pc l (.inr (.inr (some j)) :: st) ρ μ cs := by
  intro ad H locs ls hl ho hw hS hg ha
  exact lv_ifnonnull X.1 X.2.1 hd.1 hd.2 (k ad H locs ls hl ho.pop hw hS hg ha)
end MQ
