/-! a method's contract out of its conditions -/
abbrev mq_Jt : Type := Nat → mq_L → List mq_V → mq_R → mq_M → Nat → Prop
/-- locals that nobody reads any more are forgotten at a cut -/
def mq_fg : List Bool → mq_L → mq_L
  | true :: m, x :: t => x :: mq_fg m t
  | false :: m, _ :: t => none :: mq_fg m t
  | [], l => l
  | _, [] => []
abbrev mq_Cu : Type := Nat × List Bool × mq_Jt
def mq_at : List mq_Cu → Nat → (List Bool → mq_Jt → Prop) → Prop
  | [], _, _ => False
  | (q, m, J) :: t, pc, k => bif Nat.beq q pc then k m J else mq_at t pc k
def mq_KK (cuts : List mq_Cu) (N : Nat) : mq_K := fun pc l st ρ μ cs => mq_at cuts pc fun m J => J N (mq_fg m l) st ρ μ cs
theorem mq_fg_len : ∀ (m : List Bool) (l : mq_L), (mq_fg m l).length = l.length
  | true :: m, x :: t => by simp [mq_fg, mq_fg_len m t]
  | false :: m, x :: t => by simp [mq_fg, mq_fg_len m t]
  | [], l => by simp [mq_fg]
  | true :: m, [] => by simp [mq_fg]
  | false :: m, [] => by simp [mq_fg]
theorem mq_fg_at : ∀ (m : List Bool) (l : mq_L) (i : Nat) (v : mq_V), (mq_fg m l)[i]? = some (some v) → l[i]? = some (some v)
  | true :: m, x :: t, 0, v, h => by simpa [mq_fg] using h
  | true :: m, x :: t, i + 1, v, h => by simp only [mq_fg, List.getElem?_cons_succ] at h ⊢; exact mq_fg_at m t i v h
  | false :: m, x :: t, 0, v, h => by simp [mq_fg] at h
  | false :: m, x :: t, i + 1, v, h => by simp only [mq_fg, List.getElem?_cons_succ] at h ⊢; exact mq_fg_at m t i v h
  | [], l, i, v, h => by simpa [mq_fg] using h
  | true :: m, [], i, v, h => by simp [mq_fg] at h
  | false :: m, [], i, v, h => by simp [mq_fg] at h
def mq_l0 : List mq_V → Nat → mq_L
  | [], n => List.replicate n none
  | .inr (.inl z) :: t, n + 2 => some (.inr (.inl z)) :: none :: mq_l0 t n
  | .inl z :: t, n + 1 => some (.inl z) :: mq_l0 t n
  | .inr (.inr r) :: t, n + 1 => some (.inr (.inr r)) :: mq_l0 t n
  | _, _ => []
/-- the arguments take so many words -/
def mq_wd0 : List mq_V → Nat → Bool
  | [], _ => true
  | .inr (.inl _) :: t, n + 2 => mq_wd0 t n
  | .inl _ :: t, n + 1 => mq_wd0 t n
  | .inr (.inr _) :: t, n + 1 => mq_wd0 t n
  | _, _ => false
theorem mq_at_spec {cuts : List mq_Cu} {pc : Nat} {k : List Bool → mq_Jt → Prop} (h : mq_at cuts pc k) : ∃ q ∈ cuts, q.1 = pc ∧ k q.2.1 q.2.2 := by
  induction cuts with
  | nil => exact False.elim h
  | cons q t ih =>
    obtain ⟨q1, m, J⟩ := q
    simp only [mq_at] at h
    cases hb : Nat.beq q1 pc with
    | true => rw [hb] at h; exact ⟨_, List.mem_cons_self, Nat.eq_of_beq_eq_true hb, h⟩
    | false => rw [hb] at h; obtain ⟨q, hq, h2⟩ := ih h; exact ⟨q, List.mem_cons_of_mem _ hq, h2⟩
theorem mq_seek_spec {tgt : Nat} {own : String} {cc : ByteArray} {cl : List mq_C} {md fr lo rk : Nat} {T : mq_T} : ∀ (P : List mq_E), mq_ck own cc cl md fr lo rk T P = true → mq_seek tgt P = [] ∨ ∃ (c : Bool) (i : Instr) (t : List mq_E), mq_seek tgt P = (tgt, c, i) :: t ∧ mq_ck own cc cl md fr lo rk T ((tgt, c, i) :: t) = true
  | [], _ => Or.inl rfl
  | (pc, c, i) :: t, h => by
    simp only [mq_seek]
    cases hb : Nat.beq pc tgt with
    | true => have e := Nat.eq_of_beq_eq_true hb; subst e; exact Or.inr ⟨c, i, t, rfl, h⟩
    | false =>
      have h2 : mq_ck own cc cl md fr lo rk T t = true := by simp only [mq_ck, Bool.and_eq_true] at h; exact h.2
      exact mq_seek_spec t h2
section MQ
variable {p : Program} {lc : Launch} {e : Env} {R : Room} {s : State} {m : MethodId} {args : Array Value} {below : List Frame} {meth : Method} {c : Code} {Q : State → Prop} {cc : ByteArray} {own : String} {nL : Nat} {G : KG} {A : Nat → Prop} {ad0 : mq_J → Nat} {ρ0 : mq_R} {md : Nat} {μ0 : mq_M}
theorem mq_run (X : mq_cx p s m args meth c cc own nL G) (Y : mq_cy A ad0 s) {cl : List mq_C} {T : mq_T} {MC fr lo rk : Nat} {F : Int → mq_R → mq_M → Nat → Prop} {K : mq_K} {P : List mq_E} (hcl : ∀ q ∈ cl, mq_Ct lc q) (hT : mq_Tok own cl T) (hR : 16 * MC ≤ R.cells ∧ 6416 * MC ≤ R.slots ∧ fr ≤ R.frames ∧ lo ≤ R.locals) (hP : mq_ck own cc cl md fr lo rk T P = true)
    (hF : ∀ (pc : Nat) (v : Int) (l : mq_L) (st : List mq_V) (ρ : mq_R) (μ : mq_M) (cs : Nat), ((rk = 0 ∧ st = [] ∧ v = 0 ∧ decode cc pc = .ok (.return_, 1)) ∨ (rk = 1 ∧ st = [.inl v] ∧ decode cc pc = .ok (.ireturn, 1)) ∨ (rk = 2 ∧ st = [.inr (.inl v)] ∧ decode cc pc = .ok (.lreturn, 1))) → F v ρ μ cs → mq_W p lc e R s m args below meth c G nL A ad0 ρ0 md μ0 Q pc l st ρ μ cs)
    (hK : ∀ (pc : Nat) (l : mq_L) (st : List mq_V) (ρ : mq_R) (μ : mq_M) (cs : Nat), cs ≤ MC → K pc l st ρ μ cs → mq_W p lc e R s m args below meth c G nL A ad0 ρ0 md μ0 Q pc l st ρ μ cs) :
    ∀ (n pc : Nat) (ct : Bool) (ins : Instr) (t : List mq_E) (l : mq_L) (st : List mq_V) (ρ : mq_R) (μ : mq_M) (cs : Nat), mq_ck own cc cl md fr lo rk T ((pc, ct, ins) :: t) = true → cs ≤ MC → mq_wp mq_fm mq_rg mq_rp P cl md MC F K n ((pc, ct, ins) :: t) l st ρ μ cs → mq_W p lc e R s m args below meth c G nL A ad0 ρ0 md μ0 Q pc l st ρ μ cs := by
  intro n
  induction n with
  | zero => intro pc ct ins t l st ρ μ cs _ _ h; exact False.elim h
  | succ n ih =>
    intro pc ct ins t l st ρ μ cs hck hcs h
    simp only [mq_ck, Bool.and_eq_true] at hck
    refine mq_step X Y hcl hT hR hcs hck.1 (fun l st ρ μ cs hcs h => ?_) (fun tg l st ρ μ cs hcs h => ?_) (hF pc) h
    · match t, hck.2, h with
      | [], _, h => exact False.elim h
      | (q, true, i) :: t', _, h => exact hK q l st ρ μ cs hcs h
      | (q, false, i) :: t', hc, h => exact ih q false i t' l st ρ μ cs hc hcs h
    · rcases mq_seek_spec (tgt := tg) P hP with h1 | ⟨c1, i, t', h1, h2⟩
      · rw [h1] at h; exact False.elim h
      · rw [h1] at h
        match c1, h2, h with
        | true, _, h => exact hK tg l st ρ μ cs hcs h
        | false, h2, h => exact ih tg false i t' l st ρ μ cs h2 hcs h
theorem mq_W_fg {mk : List Bool} {pc : Nat} {l : mq_L} {st : List mq_V} {ρ : mq_R} {μ : mq_M} {cs : Nat} (h : mq_W p lc e R s m args below meth c G nL A ad0 ρ0 md μ0 Q pc (mq_fg mk l) st ρ μ cs) : mq_W p lc e R s m args below meth c G nL A ad0 ρ0 md μ0 Q pc l st ρ μ cs := by
  intro ad H locs ls hl ho hw hS hg ha
  refine h ad H locs ls ⟨(mq_fg_len mk l).trans hl.1, hl.2.1, hl.2.2.1, fun q hq => ?_⟩ ⟨ho.1, fun v hv => ?_⟩ hw hS hg ha
  · obtain ⟨i, v, h1, rfl⟩ := (mq_prs_mem _ 0 q).mp hq
    exact hl.2.2.2 _ ((mq_prs_mem l 0 _).mpr ⟨i, v, mq_fg_at mk l i v h1, rfl⟩)
  · obtain ⟨i, hi⟩ := List.getElem?_of_mem hv
    exact ho.loc (mq_fg_at mk l i v hi)
end MQ
theorem mq_l0_prs {ad : mq_J → Nat} : ∀ (as : List mq_V) (n k : Nat), mq_wd0 as n = true → (mq_l0 as n).length = n ∧ mq_prs ad k (mq_l0 as n) = lv_args k (as.map (mq_val ad)) ∧ (lg_sl (as.map (mq_val ad))).length ≤ n ∧ ∀ v, some v ∈ mq_l0 as n → v ∈ as
  | [], n, k, _ => by
    have h0 : ∀ (n k : Nat), mq_prs ad k (List.replicate n none) = [] := by
      intro n
      induction n with
      | zero => intro k; rfl
      | succ n ih => intro k; exact ih (k + 1)
    refine ⟨by simp [mq_l0], h0 n k, by simp [lg_sl], fun v hv => ?_⟩
    have := List.eq_of_mem_replicate hv
    cases this
  | .inr (.inl z) :: t, n + 2, k, h => by
    obtain ⟨h1, h2, h3, h4⟩ := mq_l0_prs (ad := ad) t n (k + 2) (by simpa [mq_wd0] using h)
    refine ⟨by simp [mq_l0, h1], ?_, ?_, fun v hv => ?_⟩
    · simp only [mq_l0, mq_prs, h2, List.map_cons]
      rfl
    · simp only [List.map_cons]
      rw [show lg_sl (mq_val ad (.inr (.inl z)) :: t.map (mq_val ad)) = Slot.val (mq_val ad (.inr (.inl z))) :: Slot.second :: lg_sl (t.map (mq_val ad)) from rfl]
      simp only [List.length_cons]
      omega
    · simp only [mq_l0, List.mem_cons] at hv
      rcases hv with hv | hv | hv
      · cases hv; exact List.mem_cons_self
      · cases hv
      · exact List.mem_cons_of_mem _ (h4 v hv)
  | .inl z :: t, n + 1, k, h => by
    obtain ⟨h1, h2, h3, h4⟩ := mq_l0_prs (ad := ad) t n (k + 1) (by simpa [mq_wd0] using h)
    refine ⟨by simp [mq_l0, h1], ?_, ?_, fun v hv => ?_⟩
    · simp only [mq_l0, mq_prs, h2, List.map_cons]
      rfl
    · simp only [List.map_cons]
      rw [show lg_sl (mq_val ad (.inl z) :: t.map (mq_val ad)) = Slot.val (mq_val ad (.inl z)) :: lg_sl (t.map (mq_val ad)) from rfl]
      simp only [List.length_cons]
      omega
    · simp only [mq_l0, List.mem_cons] at hv
      rcases hv with hv | hv
      · cases hv; exact List.mem_cons_self
      · exact List.mem_cons_of_mem _ (h4 v hv)
  | .inr (.inr none) :: t, n + 1, k, h => by
    obtain ⟨h1, h2, h3, h4⟩ := mq_l0_prs (ad := ad) t n (k + 1) (by simpa [mq_wd0] using h)
    refine ⟨by simp [mq_l0, h1], ?_, ?_, fun v hv => ?_⟩
    · simp only [mq_l0, mq_prs, h2, List.map_cons]
      rfl
    · simp only [List.map_cons]
      rw [show lg_sl (mq_val ad (.inr (.inr none)) :: t.map (mq_val ad)) = Slot.val (mq_val ad (.inr (.inr none))) :: lg_sl (t.map (mq_val ad)) from rfl]
      simp only [List.length_cons]
      omega
    · simp only [mq_l0, List.mem_cons] at hv
      rcases hv with hv | hv
      · cases hv; exact List.mem_cons_self
      · exact List.mem_cons_of_mem _ (h4 v hv)
  | .inr (.inr (some j)) :: t, n + 1, k, h => by
    obtain ⟨h1, h2, h3, h4⟩ := mq_l0_prs (ad := ad) t n (k + 1) (by simpa [mq_wd0] using h)
    refine ⟨by simp [mq_l0, h1], ?_, ?_, fun v hv => ?_⟩
    · simp only [mq_l0, mq_prs, h2, List.map_cons]
      rfl
    · simp only [List.map_cons]
      rw [show lg_sl (mq_val ad (.inr (.inr (some j))) :: t.map (mq_val ad)) = Slot.val (mq_val ad (.inr (.inr (some j)))) :: lg_sl (t.map (mq_val ad)) from rfl]
      simp only [List.length_cons]
      omega
    · simp only [mq_l0, List.mem_cons] at hv
      rcases hv with hv | hv
      · cases hv; exact List.mem_cons_self
      · exact List.mem_cons_of_mem _ (h4 v hv)
  | .inl _ :: _, 0, _, h => by simp [mq_wd0] at h
  | .inr (.inr _) :: _, 0, _, h => by simp [mq_wd0] at h
  | .inr (.inl _) :: _, 0, _, h => by simp [mq_wd0] at h
  | .inr (.inl _) :: _, 1, _, h => by simp [mq_wd0] at h
def mq_rgs : List mq_V → Prop
  | [] => True
  | .inl z :: t => mq_in z ∧ mq_rgs t
  | .inr (.inl z) :: t => mq_inl z ∧ mq_rgs t
  | .inr (.inr _) :: t => mq_rgs t
theorem mq_rgs_of {ρ : mq_R} : ∀ (as : List mq_V), (∀ v ∈ as, mq_ok ρ v) → mq_rgs as
  | [], _ => trivial
  | .inl z :: t, h => ⟨h _ List.mem_cons_self, mq_rgs_of t (fun v hv => h v (List.mem_cons_of_mem _ hv))⟩
  | .inr (.inl z) :: t, h => ⟨h _ List.mem_cons_self, mq_rgs_of t (fun v hv => h v (List.mem_cons_of_mem _ hv))⟩
  | .inr (.inr _) :: t, h => mq_rgs_of t (fun v hv => h v (List.mem_cons_of_mem _ hv))
def mq_rgl : mq_L → Prop
  | [] => True
  | some (.inl z) :: t => mq_in z ∧ mq_rgl t
  | some (.inr (.inl z)) :: t => mq_inl z ∧ mq_rgl t
  | some (.inr (.inr _)) :: t => mq_rgl t
  | none :: t => mq_rgl t
theorem mq_rgl_of {ρ : mq_R} : ∀ (l : mq_L), (∀ v, some v ∈ l → mq_ok ρ v) → mq_rgl l
  | [], _ => trivial
  | some (.inl z) :: t, h => ⟨h _ List.mem_cons_self, mq_rgl_of t (fun v hv => h v (List.mem_cons_of_mem _ hv))⟩
  | some (.inr (.inl z)) :: t, h => ⟨h _ List.mem_cons_self, mq_rgl_of t (fun v hv => h v (List.mem_cons_of_mem _ hv))⟩
  | some (.inr (.inr _)) :: t, h => mq_rgl_of t (fun v hv => h v (List.mem_cons_of_mem _ hv))
  | none :: t, h => mq_rgl_of t (fun v hv => h v (List.mem_cons_of_mem _ hv))
def mq_rko (rk : Nat) (r : Option FieldType) : Bool := match rk, r with
  | 0, none => true
  | 1, some .int => true
  | 1, some .boolean => true
  | 1, some .char => true
  | 1, some .byte => true
  | 2, some .long => true
  | _, _ => false
/-- what a return must meet -/
def mq_Fi (r : Option FieldType) (pk mc : Nat) (post : Int → mq_R → mq_M → List Prop) (ρ0 : mq_R) : Int → mq_R → mq_M → Nat → Prop := fun v ρ μ cs => mq_rvo r v ∧ mq_all (post v ρ μ) ∧ cs ≤ mc ∧ mq_pk pk ρ0 ρ
theorem mq_method {lc : Launch} {y : MethodName} {b : ByteArray} {n : Nat} {r : Option FieldType} {rm : Room} {na rk pk mc md : Nat} {pre : List mq_V → mq_R → mq_M → Prop} {post : List mq_V → mq_R → mq_M → Int → mq_R → mq_M → List Prop} {cl : List mq_C} {T : mq_T} {fuel : Nat} {P : List mq_E} {cuts : List mq_V → mq_R → mq_M → List mq_Cu}
    (hy : plainName y.cls = true) (hrk : mq_rko rk r = true) (hrm : rm.cells = 16 * mc ∧ rm.slots = 6416 * mc) (hcl : ∀ q ∈ cl, mq_Ct lc q) (hT : mq_Tok y.cls cl T) (hck : mq_ck y.cls b cl md rm.frames rm.locals rk T P = true) (hP0 : ∃ (ins0 : Instr) (P' : List mq_E), P = (0, false, ins0) :: P')
    (hwd : ∀ as ρ μ, pre as ρ μ → mq_wd0 as n = true)
    (hE : ∀ as ρ μ, pre as ρ μ → mq_rgs as → mq_bok μ → mq_wp mq_fm mq_rg mq_rp P cl md mc (mq_Fi r pk mc (post as ρ μ) ρ) (mq_KK (cuts as ρ μ) 400000000000) fuel P (mq_l0 as n) [] ρ μ 0)
    (h0 : ∀ as ρ μ, pre as ρ μ → ∀ q ∈ cuts as ρ μ, ∀ l st ρ' μ' cs, ¬ q.2.2 0 l st ρ' μ' cs)
    (hC : ∀ as ρ μ, pre as ρ μ → mq_rgs as → ∀ q ∈ cuts as ρ μ, ∀ (N : Nat) (l : mq_L) (st : List mq_V) (ρ' : mq_R) (μ' : mq_M) (cs : Nat), q.2.2 (N + 1) l st ρ' μ' cs → mq_bok μ' → mq_rgl l → mq_wp mq_fm mq_rg mq_rp P cl md mc (mq_Fi r pk mc (post as ρ μ) ρ) (mq_KK (cuts as ρ μ) N) fuel (mq_seek q.1 P) l st ρ' μ' cs) : mq_Ct lc ((y, b, n, r, rm), (na, rk, pk, mc), md, pre, post) := by
  obtain ⟨ins0, P', hP0⟩ := hP0
  intro G ad as ρ μ sz hpre hoas hbk hrk2
  refine Met.ofW (cc := b) (maxL := n) (ret := r) hy rfl ?_
  intro p e s m args below meth c s₁ B hml hv
  obtain ⟨rfl, hsz, hP, hK, hD0, hstr⟩ := hv
  have hts := atoms_spec (ws := .code y b n r :: wG) B.pre
  subst hsz
  have X : mq_cx p s m ((as.map (mq_val ad)).toArray) meth c b y.cls n G := ⟨B.exec, B.bytes, hml, findClass_of_methodNamed B.named, fun w h => hts w (List.mem_cons_of_mem _ h), hK, B.notSynchronized⟩
  have hD := hD0.self (sz := s.heap.size)
  have Y : mq_cy (va_A (mq_ws G ad ρ μ) s.heap.size) ad s := ⟨fun q h => Or.inr h, hstr⟩
  have hl := lv_entry (as.map (mq_val ad)) (n := n) (mq_l0_prs (ad := ad) as n 0 (hwd as ρ μ hpre)).2.2.1
  rw [lg_entry_eq]
  generalize (lg_sl (as.map (mq_val ad)) ++ List.replicate (n - (lg_sl (as.map (mq_val ad))).length) Slot.unset).toArray = ls at hl ⊢
  obtain ⟨g1, g2, g3, g4⟩ := mq_l0_prs (ad := ad) as n 0 (hwd as ρ μ hpre)
  have hlok : mq_lok ad ls n (mq_l0 as n) := ⟨g1, by rw [g2]; exact hl⟩
  have hRR : 16 * mc ≤ (headSpec (.code y b n r :: wG) rm).room.cells ∧ 6416 * mc ≤ (headSpec (.code y b n r :: wG) rm).room.slots ∧ rm.frames ≤ (headSpec (.code y b n r :: wG) rm).room.frames ∧ rm.locals ≤ (headSpec (.code y b n r :: wG) rm).room.locals := ⟨Nat.le_of_eq hrm.1.symm, Nat.le_of_eq hrm.2.symm, Nat.le_refl _, Nat.le_refl _⟩
  have hFF : ∀ (pc : Nat) (v : Int) (l : mq_L) (st : List mq_V) (ρ' : mq_R) (μ' : mq_M) (cs : Nat), ((rk = 0 ∧ st = [] ∧ v = 0 ∧ decode b pc = .ok (.return_, 1)) ∨ (rk = 1 ∧ st = [.inl v] ∧ decode b pc = .ok (.ireturn, 1)) ∨ (rk = 2 ∧ st = [.inr (.inl v)] ∧ decode b pc = .ok (.lreturn, 1))) → mq_Fi r pk mc (post as ρ μ) ρ v ρ' μ' cs → mq_W p lc e (headSpec (.code y b n r :: wG) rm).room s m ((as.map (mq_val ad)).toArray) below meth c G n (va_A (mq_ws G ad ρ μ) s.heap.size) ad ρ md μ (MQ below (mq_Qc rk pk md (post as ρ μ) G ad ρ μ s.heap.size) ((as.map (mq_val ad)).toArray) s (16 * mc) (6416 * mc) (va_A (mq_ws G ad ρ μ) s.heap.size)) pc l st ρ' μ' cs := by
    intro pc v l st ρ' μ' cs hd hFi
    obtain ⟨f1, f2, f3, f4⟩ := hFi
    refine mq_s_ret X (ret := r) B.returns rfl ?_ f1 f2 f3 f4
    rcases hd with ⟨rfl, h2, h3, h4⟩ | ⟨rfl, h2, h3⟩ | ⟨rfl, h2, h3⟩
    · refine Or.inl ⟨rfl, ?_, h2, h3, h4⟩
      cases r with
      | none => rfl
      | some t => cases hrk
    · refine Or.inr (Or.inl ⟨rfl, ?_, h2, h3⟩)
      cases r with
      | none => cases hrk
      | some t => cases t <;> first | exact Or.inl rfl | exact Or.inr (Or.inl rfl) | exact Or.inr (Or.inr (Or.inl rfl)) | exact Or.inr (Or.inr (Or.inr rfl)) | cases hrk
    · refine Or.inr (Or.inr ⟨rfl, ?_, h2, h3⟩)
      cases r with
      | none => cases hrk
      | some t => cases t <;> first | rfl | cases hrk
  have key : ∀ (N : Nat), ∀ q ∈ cuts as ρ μ, ∀ (l : mq_L) (st : List mq_V) (ρ' : mq_R) (μ' : mq_M) (cs : Nat), cs ≤ mc → q.2.2 N l st ρ' μ' cs → mq_W p lc e (headSpec (.code y b n r :: wG) rm).room s m ((as.map (mq_val ad)).toArray) below meth c G n (va_A (mq_ws G ad ρ μ) s.heap.size) ad ρ md μ (MQ below (mq_Qc rk pk md (post as ρ μ) G ad ρ μ s.heap.size) ((as.map (mq_val ad)).toArray) s (16 * mc) (6416 * mc) (va_A (mq_ws G ad ρ μ) s.heap.size)) q.1 l st ρ' μ' cs := by
    intro N
    induction N with
    | zero => intro q hq l st ρ' μ' cs _ h; exact absurd h (h0 as ρ μ hpre q hq l st ρ' μ' cs)
    | succ N ih =>
      intro q hq l st ρ' μ' cs hcs h
      intro ad1 H1 locs1 ls1 hl1 ho1 hw1 hS1 hg1 ha1
      have h1 := hC as ρ μ hpre (mq_rgs_of as hoas) q hq N l st ρ' μ' cs h hw1.2.2.1 (mq_rgl_of l ho1.2)
      rcases mq_seek_spec (tgt := q.1) _ hck with h2 | ⟨c1, i, t', h2, h3⟩
      · rw [h2] at h1
        match fuel, h1 with
        | 0, h1 => exact False.elim h1
        | f + 1, h1 => exact False.elim h1
      · rw [h2] at h1
        refine mq_run X Y hcl hT hRR hck hFF (fun pc l st ρ' μ' cs hcs hK => ?_) fuel q.1 c1 i t' l st ρ' μ' cs h3 hcs h1 ad1 H1 locs1 ls1 hl1 ho1 hw1 hS1 hg1 ha1
        obtain ⟨q2, hq2, rfl, h4⟩ := mq_at_spec hK
        exact mq_W_fg (ih q2 hq2 _ st ρ' μ' cs hcs h4)
  have fin := mq_run (K := mq_KK (cuts as ρ μ) 400000000000) X Y hcl hT hRR hck hFF (fun pc l st ρ' μ' cs hcs hK => by
    obtain ⟨q2, hq2, rfl, h4⟩ := mq_at_spec hK
    exact mq_W_fg (key _ q2 hq2 _ st ρ' μ' cs hcs h4)) fuel 0 false ins0 P' (mq_l0 as n) [] ρ μ 0 (by rw [← hP0]; exact hck) (Nat.zero_le _) (by rw [← hP0]; exact hE as ρ μ hpre (mq_rgs_of as hoas) hbk)
  exact fin ad s.heap [] ls hlok ⟨fun v hv => absurd hv List.not_mem_nil, fun v hv => hoas v (g4 v hv)⟩ ⟨hP, hD, hbk, hrk2⟩ va_S.rf (fun j _ => rfl) ⟨fun j _ => rfl, fun k hk => hk⟩
