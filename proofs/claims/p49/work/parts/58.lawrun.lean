/-! the law's own loop over the small machine: the script is the place (97, 0), its length stands at its number 0 -/
def mq_vbL (own : String) (cc : ByteArray) (cl : List mq_C) (md fr lo rk : Nat) (T : mq_T) (ins : Instr) (pc nxt : Nat) : Bool := match ins with
  | .faload => mq_dq cc pc .iaload 1 nxt
  | .daload => mq_dq cc pc .arraylength 1 nxt
  | i => mq_vb own cc cl md fr lo rk T i pc nxt
def mq_ckL (own : String) (cc : ByteArray) (cl : List mq_C) (md fr lo rk : Nat) (T : mq_T) : List mq_E → Bool
  | [] => true
  | (pc, _, ins) :: t => mq_vbL own cc cl md fr lo rk T ins pc (match t with
    | [] => 0
    | (q, _, _) :: _ => q) && mq_ckL own cc cl md fr lo rk T t
def mq_ckN (own : String) (cc : ByteArray) (cl : List mq_C) (md fr lo rk : Nat) (T : mq_T) (nx : Nat) : List mq_E → Bool
  | [] => true
  | (pc, _, ins) :: t => mq_vbL own cc cl md fr lo rk T ins pc (match t with
    | [] => nx
    | (q, _, _) :: _ => q) && mq_ckN own cc cl md fr lo rk T nx t
def mq_hdL : List mq_E → Nat
  | [] => 0
  | (q, _, _) :: _ => q
theorem mq_ckL_app {own : String} {cc : ByteArray} {cl : List mq_C} {md fr lo rk nx : Nat} {T : mq_T} : ∀ (P1 P2 : List mq_E), mq_ckN own cc cl md fr lo rk T nx P1 = true → mq_hdL P2 = nx → mq_ckL own cc cl md fr lo rk T P2 = true → mq_ckL own cc cl md fr lo rk T (P1 ++ P2) = true
  | [], _, _, _, h => h
  | [(pc, c, ins)], P2, h1, h2, h3 => by
    subst h2
    match P2, h1, h3 with
    | [], h1, h3 => simpa [mq_ckN, mq_ckL, mq_hdL] using h1
    | (q, c2, i2) :: t, h1, h3 =>
      simp only [mq_ckN, Bool.and_true, mq_hdL] at h1
      show (mq_vbL own cc cl md fr lo rk T ins pc q && mq_ckL own cc cl md fr lo rk T ((q, c2, i2) :: t)) = true
      rw [h1, h3]
      rfl
  | (pc, c, ins) :: (q, c2, i2) :: t, P2, h1, h2, h3 => by
    have h1' : (mq_vbL own cc cl md fr lo rk T ins pc q && mq_ckN own cc cl md fr lo rk T nx ((q, c2, i2) :: t)) = true := h1
    obtain ⟨a, b⟩ := Bool.and_eq_true_iff.mp h1'
    have ih := mq_ckL_app ((q, c2, i2) :: t) P2 b h2 h3
    show (mq_vbL own cc cl md fr lo rk T ins pc q && mq_ckL own cc cl md fr lo rk T (((q, c2, i2) :: t) ++ P2)) = true
    rw [a, ih]
    rfl
/-- the script -/
def mq_sc (A : Nat → Prop) (ad0 : mq_J → Nat) (μ0 : mq_M) (md b L : Nat) (xs : Nat → Int32) (s : State) : Prop := va_X b L xs s s.heap ∧ b < s.heap.size ∧ ¬ A b ∧ ad0 (97, 0) = b ∧ μ0 (97, 0) 0 = (L : Int) ∧ L ≤ 384 ∧ Nat.testBit md 97 = false ∧ ∀ j : Nat, j < L → μ0 (97, 0) (j + 1) = (xs j).toInt
section MQ
variable {p : Program} {lc : Launch} {e : Env} {R : Room} {s : State} {m : MethodId} {args : Array Value} {below : List Frame} {meth : Method} {c : Code} {Q : State → Prop} {cc : ByteArray} {own : String} {nL : Nat} {G : KG} {A : Nat → Prop} {ad0 : mq_J → Nat} {ρ0 : mq_R} {md : Nat} {μ0 : mq_M} {b L : Nat} {xs : Nat → Int32}
variable {pc nxt cs : Nat} {l : mq_L} {st : List mq_V} {ρ : mq_R} {μ : mq_M}
theorem mq_s_sld (X : mq_cx p s m args meth c cc own nL G) (Z : mq_sc A ad0 μ0 md b L xs s) {x : Int} (hd : decode cc pc = .ok (.iaload, 1) ∧ nxt = pc + 1) (hx : 0 ≤ x ∧ x < μ (97, 0) 0)
    (k : ∀ r : Int, mq_in r → r = μ (97, 0) (x.toNat + 1) → mq_W p lc e R s m args below meth c G nL A ad0 ρ0 md μ0 Q nxt l (.inl r :: st) ρ μ cs) : mq_W p lc e R s m args below meth c G nL A ad0 ρ0 md μ0 Q pc l (.inl x :: .inr (.inr (some (97, 0))) :: st) ρ μ cs := by
  intro ad H locs ls hl ho hw hS hg ha
  obtain ⟨z1, z2, z3, z4, z5, z6, z7, z8⟩ := Z
  have e97 : μ (97, 0) = μ0 (97, 0) := hg (97, 0) z7
  have hxin : mq_in x := ho.top
  rw [e97, z5] at hx
  have kk := k (xs x.toNat).toInt (mq_in32 _) (by rw [e97, z8 _ (by omega)]) ad H locs ls hl (ho.pop.pop.push (mq_in32 _)) hw hS hg ha
  obtain ⟨hd, rfl⟩ := hd
  simp only [List.map_cons, mq_val, Int32.ofInt_toInt] at kk ⊢
  rw [ha.1 (97, 0) (fun z => by cases z), z4]
  refine va_sld X.1 X.2.1 z1 z2 z3 hS (mq_vpin hxin hx) hd ?_
  rw [mq_tn hxin]
  exact kk
theorem mq_s_sle (X : mq_cx p s m args meth c cc own nL G) (Z : mq_sc A ad0 μ0 md b L xs s) (hd : decode cc pc = .ok (.arraylength, 1) ∧ nxt = pc + 1)
    (k : ∀ v : Int, v = μ (97, 0) 0 → 0 ≤ v → v ≤ 384 → mq_W p lc e R s m args below meth c G nL A ad0 ρ0 md μ0 Q nxt l (.inl v :: st) ρ μ cs) : mq_W p lc e R s m args below meth c G nL A ad0 ρ0 md μ0 Q pc l (.inr (.inr (some (97, 0))) :: st) ρ μ cs := by
  intro ad H locs ls hl ho hw hS hg ha
  obtain ⟨z1, z2, z3, z4, z5, z6, z7, z8⟩ := Z
  have e97 : μ (97, 0) = μ0 (97, 0) := hg (97, 0) z7
  have kk := k (L : Int) (by rw [e97, z5]) (by omega) (by omega) ad H locs ls hl (ho.pop.push (v := .inl (L : Int)) ⟨by omega, by omega⟩) hw hS hg ha
  obtain ⟨hd, rfl⟩ := hd
  simp only [List.map_cons, mq_val] at kk ⊢
  rw [ha.1 (97, 0) (fun z => by cases z), z4]
  refine va_slen X.1 X.2.1 z1 z2 z3 hS hd ?_
  rw [← Int32.ofInt_eq_ofNat]
  exact kk
theorem mq_stepL (X : mq_cx p s m args meth c cc own nL G) (Y : mq_cy A ad0 s) (Z : mq_sc A ad0 μ0 md b L xs s) {cl : List mq_C} {T : mq_T} {MC fr lo rk : Nat} {F : Int → mq_R → mq_M → Nat → Prop} {ins : Instr} {nx : mq_N} {jp : Nat → mq_N} (hcl : ∀ q ∈ cl, mq_Ct lc q) (hT : mq_Tok own cl T) (hR : 16 * MC ≤ R.cells ∧ 6416 * MC ≤ R.slots ∧ fr ≤ R.frames ∧ lo ≤ R.locals) (hcs : cs ≤ MC) (hv : mq_vbL own cc cl md fr lo rk T ins pc nxt = true)
    (hnx : ∀ (l : mq_L) (st : List mq_V) (ρ : mq_R) (μ : mq_M) (cs : Nat), cs ≤ MC → nx l st ρ μ cs → mq_W p lc e R s m args below meth c G nL A ad0 ρ0 md μ0 Q nxt l st ρ μ cs) (hjp : ∀ (t : Nat) (l : mq_L) (st : List mq_V) (ρ : mq_R) (μ : mq_M) (cs : Nat), cs ≤ MC → jp t l st ρ μ cs → mq_W p lc e R s m args below meth c G nL A ad0 ρ0 md μ0 Q t l st ρ μ cs)
    (hF : ∀ (v : Int) (l : mq_L) (st : List mq_V) (ρ : mq_R) (μ : mq_M) (cs : Nat), ((rk = 0 ∧ st = [] ∧ v = 0 ∧ decode cc pc = .ok (.return_, 1)) ∨ (rk = 1 ∧ st = [.inl v] ∧ decode cc pc = .ok (.ireturn, 1)) ∨ (rk = 2 ∧ st = [.inr (.inl v)] ∧ decode cc pc = .ok (.lreturn, 1))) → F v ρ μ cs → mq_W p lc e R s m args below meth c G nL A ad0 ρ0 md μ0 Q pc l st ρ μ cs)
    (h : mq_op mq_fm mq_rg mq_rp cl md MC F ins l st ρ μ cs nx jp) : mq_W p lc e R s m args below meth c G nL A ad0 ρ0 md μ0 Q pc l st ρ μ cs := by
  by_cases h1 : ins = .faload
  · subst h1
    rcases st with _ | ⟨x | x, _ | ⟨a | (a | (_ | ⟨f, i⟩)), st⟩⟩ <;> first | exact False.elim h | skip
    simp only [mq_op] at h
    cases hb : (Nat.beq f 97 && Nat.beq i 0) with
    | false => rw [hb] at h; exact False.elim h
    | true =>
      rw [hb] at h
      obtain ⟨e1, e2⟩ := Bool.and_eq_true_iff.mp hb
      obtain rfl := Nat.eq_of_beq_eq_true e1
      obtain rfl := Nat.eq_of_beq_eq_true e2
      exact mq_s_sld X Z (mq_dq_spec hv) (And.left h) (fun r h1 h2 => hnx _ _ _ _ _ hcs (And.right h r h1 h2))
  · by_cases h2 : ins = .daload
    · subst h2
      rcases st with _ | ⟨a | (a | (_ | ⟨f, i⟩)), st⟩ <;> first | exact False.elim h | skip
      simp only [mq_op] at h
      cases hb : (Nat.beq f 97 && Nat.beq i 0) with
      | false => rw [hb] at h; exact False.elim h
      | true =>
        rw [hb] at h
        obtain ⟨e1, e2⟩ := Bool.and_eq_true_iff.mp hb
        obtain rfl := Nat.eq_of_beq_eq_true e1
        obtain rfl := Nat.eq_of_beq_eq_true e2
        exact mq_s_sle X Z (mq_dq_spec hv) (fun v h1 h2 h3 => hnx _ _ _ _ _ hcs (h v h1 h2 h3))
    · have hv2 : mq_vb own cc cl md fr lo rk T ins pc nxt = true := by
        cases ins <;> first | exact absurd rfl h1 | exact absurd rfl h2 | exact hv
      exact mq_step X Y hcl hT hR hcs hv2 hnx hjp hF h
theorem mq_seekL_spec {tgt : Nat} {own : String} {cc : ByteArray} {cl : List mq_C} {md fr lo rk : Nat} {T : mq_T} : ∀ (P : List mq_E), mq_ckL own cc cl md fr lo rk T P = true → mq_seek tgt P = [] ∨ ∃ (c : Bool) (i : Instr) (t : List mq_E), mq_seek tgt P = (tgt, c, i) :: t ∧ mq_ckL own cc cl md fr lo rk T ((tgt, c, i) :: t) = true
  | [], _ => Or.inl rfl
  | (pc, c, i) :: t, h => by
    simp only [mq_seek]
    cases hb : Nat.beq pc tgt with
    | true => have e := Nat.eq_of_beq_eq_true hb; subst e; exact Or.inr ⟨c, i, t, rfl, h⟩
    | false =>
      have h2 : mq_ckL own cc cl md fr lo rk T t = true := by simp only [mq_ckL, Bool.and_eq_true] at h; exact h.2
      exact mq_seekL_spec t h2
theorem mq_runL (X : mq_cx p s m args meth c cc own nL G) (Y : mq_cy A ad0 s) (Z : mq_sc A ad0 μ0 md b L xs s) {cl : List mq_C} {T : mq_T} {MC fr lo rk : Nat} {F : Int → mq_R → mq_M → Nat → Prop} {K : mq_K} {P : List mq_E} (hcl : ∀ q ∈ cl, mq_Ct lc q) (hT : mq_Tok own cl T) (hR : 16 * MC ≤ R.cells ∧ 6416 * MC ≤ R.slots ∧ fr ≤ R.frames ∧ lo ≤ R.locals) (hP : mq_ckL own cc cl md fr lo rk T P = true)
    (hF : ∀ (pc : Nat) (v : Int) (l : mq_L) (st : List mq_V) (ρ : mq_R) (μ : mq_M) (cs : Nat), ((rk = 0 ∧ st = [] ∧ v = 0 ∧ decode cc pc = .ok (.return_, 1)) ∨ (rk = 1 ∧ st = [.inl v] ∧ decode cc pc = .ok (.ireturn, 1)) ∨ (rk = 2 ∧ st = [.inr (.inl v)] ∧ decode cc pc = .ok (.lreturn, 1))) → F v ρ μ cs → mq_W p lc e R s m args below meth c G nL A ad0 ρ0 md μ0 Q pc l st ρ μ cs)
    (hK : ∀ (pc : Nat) (l : mq_L) (st : List mq_V) (ρ : mq_R) (μ : mq_M) (cs : Nat), cs ≤ MC → K pc l st ρ μ cs → mq_W p lc e R s m args below meth c G nL A ad0 ρ0 md μ0 Q pc l st ρ μ cs) :
    ∀ (n pc : Nat) (ct : Bool) (ins : Instr) (t : List mq_E) (l : mq_L) (st : List mq_V) (ρ : mq_R) (μ : mq_M) (cs : Nat), mq_ckL own cc cl md fr lo rk T ((pc, ct, ins) :: t) = true → cs ≤ MC → mq_wp mq_fm mq_rg mq_rp P cl md MC F K n ((pc, ct, ins) :: t) l st ρ μ cs → mq_W p lc e R s m args below meth c G nL A ad0 ρ0 md μ0 Q pc l st ρ μ cs := by
  intro n
  induction n with
  | zero => intro pc ct ins t l st ρ μ cs _ _ h; exact False.elim h
  | succ n ih =>
    intro pc ct ins t l st ρ μ cs hck hcs h
    simp only [mq_ckL, Bool.and_eq_true] at hck
    refine mq_stepL X Y Z hcl hT hR hcs hck.1 (fun l st ρ μ cs hcs h => ?_) (fun tg l st ρ μ cs hcs h => ?_) (hF pc) h
    · match t, hck.2, h with
      | [], _, h => exact False.elim h
      | (q, true, i) :: t', _, h => exact hK q l st ρ μ cs hcs h
      | (q, false, i) :: t', hc, h => exact ih q false i t' l st ρ μ cs hc hcs h
    · rcases mq_seekL_spec (tgt := tg) P hP with h1 | ⟨c1, i, t', h1, h2⟩
      · rw [h1] at h; exact False.elim h
      · rw [h1] at h
        match c1, h2, h with
        | true, _, h => exact hK tg l st ρ μ cs hcs h
        | false, h2, h => exact ih tg false i t' l st ρ μ cs h2 hcs h
/-- the loop: from its conditions -/
theorem mq_loopL (X : mq_cx p s m args meth c cc own nL G) (Y : mq_cy A ad0 s) (Z : mq_sc A ad0 μ0 md b L xs s) {cl : List mq_C} {T : mq_T} {MC fr lo rk fuel : Nat} {F : Int → mq_R → mq_M → Nat → Prop} {P : List mq_E} {cuts : List mq_Cu} (hcl : ∀ q ∈ cl, mq_Ct lc q) (hT : mq_Tok own cl T) (hR : 16 * MC ≤ R.cells ∧ 6416 * MC ≤ R.slots ∧ fr ≤ R.frames ∧ lo ≤ R.locals) (hP : mq_ckL own cc cl md fr lo rk T P = true)
    (hF : ∀ (pc : Nat) (v : Int) (l : mq_L) (st : List mq_V) (ρ : mq_R) (μ : mq_M) (cs : Nat), ((rk = 0 ∧ st = [] ∧ v = 0 ∧ decode cc pc = .ok (.return_, 1)) ∨ (rk = 1 ∧ st = [.inl v] ∧ decode cc pc = .ok (.ireturn, 1)) ∨ (rk = 2 ∧ st = [.inr (.inl v)] ∧ decode cc pc = .ok (.lreturn, 1))) → F v ρ μ cs → mq_W p lc e R s m args below meth c G nL A ad0 ρ0 md μ0 Q pc l st ρ μ cs)
    (h0 : ∀ q ∈ cuts, ∀ l st ρ' μ' cs, ¬ q.2.2 0 l st ρ' μ' cs)
    (hC : ∀ q ∈ cuts, ∀ (N : Nat) (l : mq_L) (st : List mq_V) (ρ' : mq_R) (μ' : mq_M) (cs : Nat), q.2.2 (N + 1) l st ρ' μ' cs → mq_bok μ' → mq_rgl l → mq_wp mq_fm mq_rg mq_rp P cl md MC F (mq_KK cuts N) fuel (mq_seek q.1 P) l st ρ' μ' cs) :
    ∀ (N : Nat), ∀ q ∈ cuts, ∀ (l : mq_L) (st : List mq_V) (ρ' : mq_R) (μ' : mq_M) (cs : Nat), cs ≤ MC → q.2.2 N l st ρ' μ' cs → mq_W p lc e R s m args below meth c G nL A ad0 ρ0 md μ0 Q q.1 l st ρ' μ' cs := by
  intro N
  induction N with
  | zero => intro q hq l st ρ' μ' cs _ h; exact absurd h (h0 q hq l st ρ' μ' cs)
  | succ N ih =>
    intro q hq l st ρ' μ' cs hcs h
    intro ad1 H1 locs1 ls1 hl1 ho1 hw1 hS1 hg1 ha1
    have h1 := hC q hq N l st ρ' μ' cs h hw1.2.2.1 (mq_rgl_of l ho1.2)
    rcases mq_seekL_spec (tgt := q.1) _ hP with h2 | ⟨c1, i, t', h2, h3⟩
    · rw [h2] at h1
      match fuel, h1 with
      | 0, h1 => exact False.elim h1
      | f + 1, h1 => exact False.elim h1
    · rw [h2] at h1
      refine mq_runL X Y Z hcl hT hR hP hF (fun pc l st ρ' μ' cs hcs hK => ?_) fuel q.1 c1 i t' l st ρ' μ' cs h3 hcs h1 ad1 H1 locs1 ls1 hl1 ho1 hw1 hS1 hg1 ha1
      obtain ⟨q2, hq2, rfl, h4⟩ := mq_at_spec hK
      exact mq_W_fg (ih q2 hq2 _ st ρ' μ' cs hcs h4)
end MQ
