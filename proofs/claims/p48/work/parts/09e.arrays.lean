/-! arrays -/
theorem mq_vpin {x : Int} {n : Nat} (hx : mq_in x) (h : 0 ≤ x ∧ x < (n : Int)) : vp_in (Int32.ofInt x) n := vp_in_iff.mpr (by rw [mq_i32 x hx]; exact h)
theorem mq_tn {x : Int} (hx : mq_in x) : (Int32.ofInt x).toNatClampNeg = x.toNat := Int32.toNatClampNeg_ofInt_of_le (by have := hx.1; omega) (by have := hx.2; omega)
theorem mq_ty_at (G : KG) : (mq_ty G)[0]? = some (G.2 0, .int) ∧ (mq_ty G)[1]? = some (G.2 1, .byte) ∧ (mq_ty G)[2]? = some (G.2 2, .boolean) ∧ (mq_ty G)[3]? = some (G.2 3, .long) ∧ (mq_ty G)[4]? = some (G.2 4, .object "SlipCoach$Line") ∧ (mq_ty G)[5]? = some (G.2 5, .object "SlipCoach$Slot") ∧ (mq_ty G)[6]? = some (G.2 6, .array .byte) := ⟨rfl, rfl, rfl, rfl, rfl, rfl, rfl⟩
/-- the column of a place -/
theorem mq_colmod {x : Int} {m : Nat} (h0 : 0 ≤ x) : ((x.toNat % m : Nat) : Int) = x % (m : Int) := by
  first | (rw [Int.natCast_emod, Int.toNat_of_nonneg h0]) | (rw [Int.ofNat_emod, Int.toNat_of_nonneg h0]) | (rw [Int.emod_natCast, Int.toNat_of_nonneg h0])
theorem mq_arr_bd {μ : mq_M} {f i t n : Nat} {bs : List (Nat × Int × Int)} (hb : mq_bok μ) (hf : mq_fm f = (true, t, n, bs)) {x : Int} (h0 : 0 ≤ x) {r : Nat} {b : Nat × Int × Int} (hr : bs[r]? = some b) (hx : x % (bs.length : Int) = (r : Int)) : b.2.1 ≤ μ (f, i) x.toNat ∧ μ (f, i) x.toNat ≤ b.2.2 := by
  have h := hb (f, i) x.toNat
  have e : x.toNat % bs.length = r := by have := mq_colmod (x := x) (m := bs.length) h0; omega
  simp only [mq_bd_arr (f := f) hf, e, List.getD, hr, Option.getD_some] at h
  exact h
theorem mq_col_intro {x m v : Int} {k : Prop} : ∀ (bs : List (Nat × Int × Int)) (r : Int), mq_col x m v r bs k → (∀ (q : Nat) (b : Nat × Int × Int), bs[q]? = some b → x % m = r + (q : Int) → b.2.1 ≤ v ∧ v ≤ b.2.2) → k
  | [], _, h, _ => h
  | (z, a, b) :: t, r, h, hh => mq_col_intro t (r + 1) (h (fun e => hh 0 (z, a, b) rfl (by simpa using e))) (fun q b' hq e => hh (q + 1) b' (by simpa using hq) (by rw [e]; push_cast; omega))
theorem mq_colS_spec {x m v : Int} : ∀ (bs : List (Nat × Int × Int)) (r : Int), mq_colS x m v r bs → ∀ (q : Nat) (b : Nat × Int × Int), bs[q]? = some b → x % m = r + (q : Int) → b.2.1 ≤ v ∧ v ≤ b.2.2
  | [], _, _, q, b, hq, _ => by simp at hq
  | (z, a, b) :: t, r, h, 0, b', hq, e => by
    simp at hq
    subst hq
    exact h.1 (by simpa using e)
  | (z, a, b) :: t, r, h, q + 1, b', hq, e => mq_colS_spec t (r + 1) h.2 q b' (by simpa using hq) (by rw [e]; push_cast; omega)
/-- reading: what is told -/
theorem mq_rd_spec {μ : mq_M} {f i t n : Nat} {bs : List (Nat × Int × Int)} {x : Int} {k : Int → Prop} (hf : mq_fm f = (true, t, n, bs)) (hb : mq_bok μ) (h : mq_rd x n bs (μ (f, i) x.toNat) k) : (0 ≤ x ∧ x < (n : Int)) ∧ k (μ (f, i) x.toNat) := by
  obtain ⟨hx, h⟩ := h
  refine ⟨hx, ?_⟩
  split at h
  · rename_i z a b
    have h2 := mq_arr_bd (i := i) hb hf hx.1 (r := 0) (b := (z, a, b)) rfl (by simp [Int.emod_one])
    exact h _ rfl h2.1 h2.2
  · rename_i m a b t _
    have hm : m = ((m, a, b) :: t).length := mq_fb_mod hf _ List.mem_cons_self
    exact mq_col_intro ((m, a, b) :: t) 0 (h _ rfl) (fun q b' hq e => mq_arr_bd hb hf hx.1 hq (by rw [← hm, e]; simp))
  · exact False.elim h
theorem mq_wr_spec {f t n : Nat} {bs : List (Nat × Int × Int)} {x v : Int} {k : Prop} (hf : mq_fm f = (true, t, n, bs)) (hl : 1 ≤ bs.length) (h : mq_wr x n bs v k) : (0 ≤ x ∧ x < (n : Int)) ∧ ((mq_bd f x.toNat).1 ≤ v ∧ v ≤ (mq_bd f x.toNat).2) ∧ k := by
  obtain ⟨hx, h1, h2⟩ := h
  refine ⟨hx, ?_, h2⟩
  rw [mq_bd_arr hf]
  split at h1
  · simpa [Nat.mod_one] using h1
  · rename_i m a b t _
    have hm : m = ((m, a, b) :: t).length := mq_fb_mod hf _ List.mem_cons_self
    generalize hbs : (m, a, b) :: t = bs at *
    have hlt : x.toNat % bs.length < bs.length := Nat.mod_lt _ hl
    have e : bs[x.toNat % bs.length]? = some (bs[x.toNat % bs.length]) := List.getElem?_eq_getElem hlt
    have h3 := mq_colS_spec bs 0 h1 (x.toNat % bs.length) _ e (by rw [hm, mq_colmod hx.1]; simp)
    simp only [List.getD, e, Option.getD_some]
    exact h3
  · exact False.elim h1
theorem mq_bd_range {μ : mq_M} {f i t n : Nat} {bs : List (Nat × Int × Int)} (hb : mq_bok μ) (hf : mq_fm f = (true, t, n, bs)) (hl : 1 ≤ bs.length) (k : Nat) : ∃ b ∈ bs, b.2.1 ≤ μ (f, i) k ∧ μ (f, i) k ≤ b.2.2 := by
  have h := hb (f, i) k
  have hlt : k % bs.length < bs.length := Nat.mod_lt _ hl
  simp only [mq_bd_arr (f := f) hf, List.getD, List.getElem?_eq_getElem hlt, Option.getD_some] at h
  exact ⟨_, List.getElem_mem hlt, h⟩
theorem mq_updf {μ : mq_M} {j : mq_J} {k : Nat} {v : Int} {x : Int32} (hx : x = Int32.ofInt v) : upd (fun k => Int32.ofInt (μ j k)) k x = fun k' => Int32.ofInt (mq_up μ j k v j k') := by
  subst hx
  funext k'
  simp only [upd, mq_up, true_and]
  split <;> rfl
theorem mq_updfL {μ : mq_M} {j : mq_J} {k : Nat} {v : Int} {x : Int64} (hx : x = Int64.ofInt v) : vp_updL (fun k => Int64.ofInt (μ j k)) k x = fun k' => Int64.ofInt (mq_up μ j k v j k') := by
  subst hx
  funext k'
  simp only [vp_updL, mq_up, true_and]
  split <;> rfl
theorem mq_narb {v : Int} (h : -128 ≤ v ∧ v ≤ 127) : vp_nar .byte (Int32.ofInt v) = Int32.ofInt v := by
  rw [vp_nar_byte, ← Int32.toInt_inj, Int8.toInt_toInt32, Int32.toInt_toInt8, mq_i32 v ⟨by omega, by omega⟩, Int.bmod_eq_of_le (by omega) (by omega)]
theorem mq_narz {v : Int} (h : 0 ≤ v ∧ v ≤ 1) : vp_nar .boolean (Int32.ofInt v) = Int32.ofInt v ∧ narrow .boolean (.int (Int32.ofInt v)) = .int (Int32.ofInt v) ∧ fits .boolean (.int (Int32.ofInt v)) = true := by
  rcases (show v = 0 ∨ v = 1 by omega) with rfl | rfl <;> decide
section MQ
variable {p : Program} {lc : Launch} {e : Env} {R : Room} {s : State} {m : MethodId} {args : Array Value} {below : List Frame} {meth : Method} {c : Code} {Q : State → Prop} {cc : ByteArray} {own : String} {nL : Nat} {G : KG} {A : Nat → Prop} {ad0 : mq_J → Nat} {ρ0 : mq_R} {md : Nat} {μ0 : mq_M}
variable {pc nxt cs : Nat} {l : mq_L} {st : List mq_V} {ρ : mq_R} {μ : mq_M}
theorem mq_in94 {f i t n : Nat} {bs : List (Nat × Int × Int)} (hf : mq_fm f = (true, t, n, bs)) (ht : t ≠ 9) : f < 94 := Nat.lt_of_not_le fun q => by rw [mq_fm_big q] at hf; cases hf; exact ht rfl
theorem mq_s_iald (X : mq_cx p s m args meth c cc own nL G) {f i n : Nat} {bs : List (Nat × Int × Int)} {x : Int} (hf : mq_fm f = (true, 0, n, bs)) (hd : decode cc pc = .ok (.iaload, 1) ∧ nxt = pc + 1)
    (k9 : mq_bok μ → (0 ≤ x ∧ x < (n : Int)) ∧ mq_W p lc e R s m args below meth c G nL A ad0 ρ0 md μ0 Q nxt l (.inl (μ (f, i) x.toNat) :: st) ρ μ cs) : mq_W p lc e R s m args below meth c G nL A ad0 ρ0 md μ0 Q pc l (.inl x :: .inr (.inr (some (f, i))) :: st) ρ μ cs := by
  intro ad H locs ls hl ho hw hS hg ha
  have h94 := mq_in94 (i := i) hf (by decide)
  obtain ⟨hn, hb1, hb2⟩ := mq_fb_arr h94 hf
  have hin := mq_not99 ho.pop.top h94
  obtain ⟨q0, hq0, hq1⟩ := mq_place (G := G) (ad := ad) (μ := μ) hin
  rw [mq_ent_arr (j := (f, i)) hf] at hq1
  obtain ⟨hx, k9⟩ := k9 hw.2.2.1
  obtain ⟨b, hbm, hbr⟩ := mq_bd_range (i := i) hw.2.2.1 hf hb1 x.toNat
  have kk := k9 ad H locs ls hl (ho.pop.pop.push ⟨by have := hb2 b hbm; omega, by have := hb2 b hbm; omega⟩) hw hS hg ha
  obtain ⟨hd, rfl⟩ := hd
  refine va_iald (D := G.1) X.1 X.2.1 X.2.2.2.2.2.1.1 hw.1 q0 0 hq1 (mq_ty_at G).1 (mq_vpin ho.top hx) hd ?_
  rw [mq_tn ho.top]
  exact kk
theorem mq_s_bald (X : mq_cx p s m args meth c cc own nL G) {f i n : Nat} {bs : List (Nat × Int × Int)} {x : Int} (hf : mq_fm f = (true, 1, n, bs)) (hd : decode cc pc = .ok (.baload, 1) ∧ nxt = pc + 1)
    (k9 : mq_bok μ → (0 ≤ x ∧ x < (n : Int)) ∧ mq_W p lc e R s m args below meth c G nL A ad0 ρ0 md μ0 Q nxt l (.inl (μ (f, i) x.toNat) :: st) ρ μ cs) : mq_W p lc e R s m args below meth c G nL A ad0 ρ0 md μ0 Q pc l (.inl x :: .inr (.inr (some (f, i))) :: st) ρ μ cs := by
  intro ad H locs ls hl ho hw hS hg ha
  have h94 := mq_in94 (i := i) hf (by decide)
  obtain ⟨hn, hb1, hb2⟩ := mq_fb_arr h94 hf
  have hin := mq_not99 ho.pop.top h94
  obtain ⟨q0, hq0, hq1⟩ := mq_place (G := G) (ad := ad) (μ := μ) hin
  rw [mq_ent_arr (j := (f, i)) hf] at hq1
  obtain ⟨hx, k9⟩ := k9 hw.2.2.1
  obtain ⟨b, hbm, hbr⟩ := mq_bd_range (i := i) hw.2.2.1 hf hb1 x.toNat
  have kk := k9 ad H locs ls hl (ho.pop.pop.push ⟨by have := hb2 b hbm; omega, by have := hb2 b hbm; omega⟩) hw hS hg ha
  obtain ⟨hd, rfl⟩ := hd
  refine va_bald (D := G.1) X.1 X.2.1 X.2.2.2.2.2.1.1 hw.1 q0 1 hq1 (mq_ty_at G).2.1 (mq_vpin ho.top hx) hd ?_
  rw [mq_tn ho.top]
  exact kk
theorem mq_s_zald (X : mq_cx p s m args meth c cc own nL G) {f i n : Nat} {bs : List (Nat × Int × Int)} {x : Int} (hf : mq_fm f = (true, 2, n, bs)) (hd : decode cc pc = .ok (.baload, 1) ∧ nxt = pc + 1)
    (k9 : mq_bok μ → (0 ≤ x ∧ x < (n : Int)) ∧ mq_W p lc e R s m args below meth c G nL A ad0 ρ0 md μ0 Q nxt l (.inl (μ (f, i) x.toNat) :: st) ρ μ cs) : mq_W p lc e R s m args below meth c G nL A ad0 ρ0 md μ0 Q pc l (.inl x :: .inr (.inr (some (f, i))) :: st) ρ μ cs := by
  intro ad H locs ls hl ho hw hS hg ha
  have h94 := mq_in94 (i := i) hf (by decide)
  obtain ⟨hn, hb1, hb2⟩ := mq_fb_arr h94 hf
  have hin := mq_not99 ho.pop.top h94
  obtain ⟨q0, hq0, hq1⟩ := mq_place (G := G) (ad := ad) (μ := μ) hin
  rw [mq_ent_arr (j := (f, i)) hf] at hq1
  obtain ⟨hx, k9⟩ := k9 hw.2.2.1
  obtain ⟨b, hbm, hbr⟩ := mq_bd_range (i := i) hw.2.2.1 hf hb1 x.toNat
  have kk := k9 ad H locs ls hl (ho.pop.pop.push ⟨by have := hb2 b hbm; omega, by have := hb2 b hbm; omega⟩) hw hS hg ha
  obtain ⟨hd, rfl⟩ := hd
  refine va_zald (D := G.1) X.1 X.2.1 X.2.2.2.2.2.1.1 hw.1 q0 2 hq1 (mq_ty_at G).2.2.1 (mq_vpin ho.top hx) hd ?_
  rw [mq_tn ho.top]
  exact kk
theorem mq_s_lald (X : mq_cx p s m args meth c cc own nL G) {f i n : Nat} {bs : List (Nat × Int × Int)} {x : Int} (hf : mq_fm f = (true, 3, n, bs)) (hd : decode cc pc = .ok (.laload, 1) ∧ nxt = pc + 1)
    (k9 : mq_bok μ → (0 ≤ x ∧ x < (n : Int)) ∧ mq_W p lc e R s m args below meth c G nL A ad0 ρ0 md μ0 Q nxt l (.inr (.inl (μ (f, i) x.toNat)) :: st) ρ μ cs) : mq_W p lc e R s m args below meth c G nL A ad0 ρ0 md μ0 Q pc l (.inl x :: .inr (.inr (some (f, i))) :: st) ρ μ cs := by
  intro ad H locs ls hl ho hw hS hg ha
  have h94 := mq_in94 (i := i) hf (by decide)
  obtain ⟨hn, hb1, hb2⟩ := mq_fb_arr h94 hf
  have hin := mq_not99 ho.pop.top h94
  obtain ⟨q0, hq0, hq1⟩ := mq_place (G := G) (ad := ad) (μ := μ) hin
  rw [mq_ent_arr (j := (f, i)) hf] at hq1
  obtain ⟨hx, k9⟩ := k9 hw.2.2.1
  obtain ⟨b, hbm, hbr⟩ := mq_bd_range (i := i) hw.2.2.1 hf hb1 x.toNat
  have kk := k9 ad H locs ls hl (ho.pop.pop.push ⟨by have := hb2 b hbm; omega, by have := hb2 b hbm; omega⟩) hw hS hg ha
  obtain ⟨hd, rfl⟩ := hd
  refine va_lald (D := G.1) X.1 X.2.1 X.2.2.2.2.2.1.1 hw.1 q0 3 hq1 (mq_ty_at G).2.2.2.1 (mq_vpin ho.top hx) hd ?_
  rw [mq_tn ho.top]
  exact kk
/-- behind a write into an array -/
theorem mq_ws_up {f i t n : Nat} {bs : List (Nat × Int × Int)} {q0 : Nat} {ad : mq_J → Nat} {k : Nat} {v : Int} (hf : mq_fm f = (true, t, n, bs)) (hq0 : (mq_ids ρ.2.2.2.2)[q0]? = some (f, i)) : (mq_ws G ad ρ μ).set q0 (ad (f, i), .inl (G.2 t, n, mq_con ad ρ (mq_up μ (f, i) k v) (f, i) t)) = mq_ws G ad ρ (mq_up μ (f, i) k v) := by
  rw [← mq_ent_arr (G := G) (ad := ad) (ρ := ρ) (μ := mq_up μ (f, i) k v) (j := (f, i)) hf]
  exact mq_ws_set hq0 rfl (fun j' hj => mq_ent_congr (mq_up_ne μ k v hj) (fun _ => rfl))
theorem mq_s_iast (X : mq_cx p s m args meth c cc own nL G) {f i n : Nat} {bs : List (Nat × Int × Int)} {x v : Int} (hf : mq_fm f = (true, 0, n, bs)) (hm : Nat.testBit md f = true) (hd : decode cc pc = .ok (.iastore, 1) ∧ nxt = pc + 1) (hx : 0 ≤ x ∧ x < (n : Int)) (hv : (mq_bd f x.toNat).1 ≤ v ∧ v ≤ (mq_bd f x.toNat).2)
    (k9 : mq_W p lc e R s m args below meth c G nL A ad0 ρ0 md μ0 Q nxt l st ρ (mq_up μ (f, i) x.toNat v) cs) : mq_W p lc e R s m args below meth c G nL A ad0 ρ0 md μ0 Q pc l (.inl v :: .inl x :: .inr (.inr (some (f, i))) :: st) ρ μ cs := by
  intro ad H locs ls hl ho hw hS hg ha
  have h94 := mq_in94 (i := i) hf (by decide)
  have hin := mq_not99 ho.pop.pop.top h94
  obtain ⟨q0, hq0, hq1⟩ := mq_place (G := G) (ad := ad) (μ := μ) hin
  rw [mq_ent_arr (j := (f, i)) hf] at hq1
  obtain ⟨hd, rfl⟩ := hd
  refine va_iast (D := G.1) X.1 X.2.1 X.2.2.2.2.2.1.1 hw.1 hw.2.1 hS q0 0 hq1 (mq_ty_at G).1 (mq_vpin ho.pop.top hx) hd (fun H1 locs1 hP1 hD1 hS1 => ?_)
  rw [mq_tn ho.pop.top, mq_updf (v := v) rfl] at hP1 hD1
  have e := mq_ws_up (G := G) (μ := μ) (ρ := ρ) (ad := ad) (k := x.toNat) (v := v) hf hq0
  simp only [mq_con] at e
  rw [e] at hP1 hD1
  exact k9 ad H1 locs1 ls hl ho.pop.pop.pop ⟨hP1, hD1, mq_bok_up hw.2.2.1 hv, hw.2.2.2⟩ hS1 (mq_ag_up hg hm) ha
theorem mq_s_bast (X : mq_cx p s m args meth c cc own nL G) {f i n : Nat} {bs : List (Nat × Int × Int)} {x v : Int} (hf : mq_fm f = (true, 1, n, bs)) (hm : Nat.testBit md f = true) (hd : decode cc pc = .ok (.bastore, 1) ∧ nxt = pc + 1) (hx : 0 ≤ x ∧ x < (n : Int)) (hv : (mq_bd f x.toNat).1 ≤ v ∧ v ≤ (mq_bd f x.toNat).2)
    (k9 : mq_W p lc e R s m args below meth c G nL A ad0 ρ0 md μ0 Q nxt l st ρ (mq_up μ (f, i) x.toNat v) cs) : mq_W p lc e R s m args below meth c G nL A ad0 ρ0 md μ0 Q pc l (.inl v :: .inl x :: .inr (.inr (some (f, i))) :: st) ρ μ cs := by
  intro ad H locs ls hl ho hw hS hg ha
  have h94 := mq_in94 (i := i) hf (by decide)
  obtain ⟨hn, hb1, hb2⟩ := mq_fb_arr h94 hf
  have hin := mq_not99 ho.pop.pop.top h94
  obtain ⟨q0, hq0, hq1⟩ := mq_place (G := G) (ad := ad) (μ := μ) hin
  rw [mq_ent_arr (j := (f, i)) hf] at hq1
  obtain ⟨hd, rfl⟩ := hd
  have hr : -128 ≤ v ∧ v ≤ 127 := by
    obtain ⟨b, hbm, hbr⟩ := mq_bd_range (i := i) (mq_bok_up (j := (f, i)) hw.2.2.1 hv) hf hb1 x.toNat
    rw [mq_up_self] at hbr
    simp only [if_true] at hbr
    have := hb2 b hbm
    omega
  refine va_bast (D := G.1) X.1 X.2.1 X.2.2.2.2.2.1.1 hw.1 hw.2.1 hS q0 1 hq1 (mq_ty_at G).2.1 (mq_vpin ho.pop.top hx) hd (fun H1 locs1 hP1 hD1 hS1 => ?_)
  rw [mq_tn ho.pop.top, mq_updf (v := v) (mq_narb hr)] at hP1 hD1
  have e := mq_ws_up (G := G) (μ := μ) (ρ := ρ) (ad := ad) (k := x.toNat) (v := v) hf hq0
  simp only [mq_con] at e
  rw [e] at hP1 hD1
  exact k9 ad H1 locs1 ls hl ho.pop.pop.pop ⟨hP1, hD1, mq_bok_up hw.2.2.1 hv, hw.2.2.2⟩ hS1 (mq_ag_up hg hm) ha
theorem mq_s_zast (X : mq_cx p s m args meth c cc own nL G) {f i n : Nat} {bs : List (Nat × Int × Int)} {x v : Int} (hf : mq_fm f = (true, 2, n, bs)) (hm : Nat.testBit md f = true) (hd : decode cc pc = .ok (.bastore, 1) ∧ nxt = pc + 1) (hx : 0 ≤ x ∧ x < (n : Int)) (hv : (mq_bd f x.toNat).1 ≤ v ∧ v ≤ (mq_bd f x.toNat).2)
    (k9 : mq_W p lc e R s m args below meth c G nL A ad0 ρ0 md μ0 Q nxt l st ρ (mq_up μ (f, i) x.toNat v) cs) : mq_W p lc e R s m args below meth c G nL A ad0 ρ0 md μ0 Q pc l (.inl v :: .inl x :: .inr (.inr (some (f, i))) :: st) ρ μ cs := by
  intro ad H locs ls hl ho hw hS hg ha
  have h94 := mq_in94 (i := i) hf (by decide)
  obtain ⟨hn, hb1, hb2⟩ := mq_fb_arr h94 hf
  have hin := mq_not99 ho.pop.pop.top h94
  obtain ⟨q0, hq0, hq1⟩ := mq_place (G := G) (ad := ad) (μ := μ) hin
  rw [mq_ent_arr (j := (f, i)) hf] at hq1
  obtain ⟨hd, rfl⟩ := hd
  have hr : 0 ≤ v ∧ v ≤ 1 := by
    obtain ⟨b, hbm, hbr⟩ := mq_bd_range (i := i) (mq_bok_up (j := (f, i)) hw.2.2.1 hv) hf hb1 x.toNat
    rw [mq_up_self] at hbr
    simp only [if_true] at hbr
    have := hb2 b hbm
    omega
  refine va_zast (D := G.1) X.1 X.2.1 X.2.2.2.2.2.1.1 hw.1 hw.2.1 hS q0 2 hq1 (mq_ty_at G).2.2.1 (mq_vpin ho.pop.top hx) hd (fun H1 locs1 hP1 hD1 hS1 => ?_)
  rw [mq_tn ho.pop.top, mq_updf (v := v) (mq_narz hr).1] at hP1 hD1
  have e := mq_ws_up (G := G) (μ := μ) (ρ := ρ) (ad := ad) (k := x.toNat) (v := v) hf hq0
  simp only [mq_con] at e
  rw [e] at hP1 hD1
  exact k9 ad H1 locs1 ls hl ho.pop.pop.pop ⟨hP1, hD1, mq_bok_up hw.2.2.1 hv, hw.2.2.2⟩ hS1 (mq_ag_up hg hm) ha
theorem mq_s_last (X : mq_cx p s m args meth c cc own nL G) {f i n : Nat} {bs : List (Nat × Int × Int)} {x v : Int} (hf : mq_fm f = (true, 3, n, bs)) (hm : Nat.testBit md f = true) (hd : decode cc pc = .ok (.lastore, 1) ∧ nxt = pc + 1) (hx : 0 ≤ x ∧ x < (n : Int)) (hv : (mq_bd f x.toNat).1 ≤ v ∧ v ≤ (mq_bd f x.toNat).2)
    (k9 : mq_W p lc e R s m args below meth c G nL A ad0 ρ0 md μ0 Q nxt l st ρ (mq_up μ (f, i) x.toNat v) cs) : mq_W p lc e R s m args below meth c G nL A ad0 ρ0 md μ0 Q pc l (.inr (.inl v) :: .inl x :: .inr (.inr (some (f, i))) :: st) ρ μ cs := by
  intro ad H locs ls hl ho hw hS hg ha
  have h94 := mq_in94 (i := i) hf (by decide)
  have hin := mq_not99 ho.pop.pop.top h94
  obtain ⟨q0, hq0, hq1⟩ := mq_place (G := G) (ad := ad) (μ := μ) hin
  rw [mq_ent_arr (j := (f, i)) hf] at hq1
  obtain ⟨hd, rfl⟩ := hd
  refine va_last (D := G.1) X.1 X.2.1 X.2.2.2.2.2.1.1 hw.1 hw.2.1 hS q0 3 hq1 (mq_ty_at G).2.2.2.1 (mq_vpin ho.pop.top hx) hd (fun H1 locs1 hP1 hD1 hS1 => ?_)
  rw [mq_tn ho.pop.top, mq_updfL (v := v) rfl] at hP1 hD1
  have e := mq_ws_up (G := G) (μ := μ) (ρ := ρ) (ad := ad) (k := x.toNat) (v := v) hf hq0
  simp only [mq_con] at e
  rw [e] at hP1 hD1
  exact k9 ad H1 locs1 ls hl ho.pop.pop.pop ⟨hP1, hD1, mq_bok_up hw.2.2.1 hv, hw.2.2.2⟩ hS1 (mq_ag_up hg hm) ha
end MQ
