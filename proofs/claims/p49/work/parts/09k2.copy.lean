/-! System.arraycopy between rows of one family -/
theorem mq_cpk_spec {bs : List (Nat × Int × Int)} {sp dp : Int} {k : Prop} (h : mq_cpk bs sp dp k) : (bs.length = 1 ∨ sp = dp) ∧ k := by
  unfold mq_cpk at h
  split at h
  · exact ⟨Or.inl rfl, h⟩
  · exact ⟨Or.inr h.1, h.2⟩
theorem mq_cp_bok {μ : mq_M} {f i1 i2 t m : Nat} {bs : List (Nat × Int × Int)} {sp dp n : Nat} (hf : mq_fm f = (true, t, m, bs)) (hs : bs.length = 1 ∨ sp = dp) (hb : mq_bok μ) : mq_bok (mq_cp μ (f, i2) (f, i1) sp dp n) := by
  intro j k
  unfold mq_cp
  by_cases hx : j = (f, i2) ∧ dp ≤ k ∧ k < dp + n
  · rw [if_pos hx, hx.1]
    have h := hb (f, i1) (sp + (k - dp))
    simp only [mq_bd_arr (f := f) hf] at h ⊢
    rcases hs with hs | hs
    · rw [hs, Nat.mod_one] at h ⊢; exact h
    · rw [hs, show dp + (k - dp) = k by omega] at h ⊢; exact h
  · rw [if_neg hx]; exact hb j k
section MQ
variable {p : Program} {lc : Launch} {e : Env} {R : Room} {s : State} {m : MethodId} {args : Array Value} {below : List Frame} {meth : Method} {c : Code} {Q : State → Prop} {cc : ByteArray} {own : String} {nL : Nat} {G : KG} {A : Nat → Prop} {ad0 : mq_J → Nat} {ρ0 : mq_R} {md : Nat} {μ0 : mq_M}
variable {pc nxt cs : Nat} {l : mq_L} {st : List mq_V} {ρ : mq_R} {μ : mq_M}
theorem mq_s_copy (X : mq_cx p s m args meth c cc own nL G) {f i1 i2 t m9 idx : Nat} {bs : List (Nat × Int × Int)} {sp dp n : Int} (ht : t = 0 ∨ t = 3) (hf : mq_fm f = (true, t, m9, bs)) (hm : Nat.testBit md f = true) (hd : decode cc pc = .ok (.invokestatic idx, 3) ∧ nxt = pc + 3) (hT : Cond.methodLink own idx arraycopyName ∈ wG ∧ Cond.native arraycopyName ∈ wG ∧ Cond.static arraycopyName ∈ wG ∧ Cond.initialized "java/lang/System" ∈ wG) (hR : 1 ≤ R.frames ∧ 8 + (nativeFrameWords "java/lang/System" "arraycopy" 5 + 11) ≤ R.locals) (hx : 0 ≤ sp ∧ 0 ≤ dp ∧ 0 ≤ n ∧ sp + n ≤ (m9 : Int) ∧ dp + n ≤ (m9 : Int)) (hs : bs.length = 1 ∨ sp = dp) (hcw : mq_cwb 8 st = true)
    (k9 : mq_W p lc e R s m args below meth c G nL A ad0 ρ0 md μ0 Q nxt l st ρ (mq_cp μ (f, i2) (f, i1) sp.toNat dp.toNat n.toNat) cs) : mq_W p lc e R s m args below meth c G nL A ad0 ρ0 md μ0 Q pc l (.inl n :: .inl dp :: .inr (.inr (some (f, i2))) :: .inl sp :: .inr (.inr (some (f, i1))) :: st) ρ μ cs := by
  intro ad H locs ls hl ho hw hS hg ha
  have h94 := mq_in94 (i := i1) hf (by rcases ht with rfl | rfl <;> decide)
  have hin2 := mq_not99 ho.pop.pop.top h94
  have hin1 := mq_not99 ho.pop.pop.pop.pop.top h94
  obtain ⟨q2, hq2, hq2'⟩ := mq_place (G := G) (ad := ad) (μ := μ) hin2
  obtain ⟨q1, hq1, hq1'⟩ := mq_place (G := G) (ad := ad) (μ := μ) hin1
  rw [mq_ent_arr (j := (f, i2)) hf] at hq2'
  rw [mq_ent_arr (j := (f, i1)) hf] at hq1'
  obtain ⟨hd, rfl⟩ := hd
  have e1 := mq_tn (x := n) ho.top
  have e2 := mq_tn (x := dp) ho.pop.top
  have e3 := mq_tn (x := sp) ho.pop.pop.pop.top
  have nn : ∀ {x : Int}, mq_in x → 0 ≤ x → ¬ Int32.ofInt x < 0 := fun {x} hx h0 q => by
    have := (mq_lt32 (b := 0) hx (by decide)).mp q
    omega
  have hw2 : ∀ H1 locs1, va_P G.1 vwCl ((mq_ws G ad ρ μ).set q2 (ad (f, i2), .inl (G.2 t, m9, mq_con ad ρ (mq_cp μ (f, i2) (f, i1) sp.toNat dp.toNat n.toNat) (f, i2) t))) H1 → va_D A ((mq_ws G ad ρ μ).set q2 (ad (f, i2), .inl (G.2 t, m9, mq_con ad ρ (mq_cp μ (f, i2) (f, i1) sp.toNat dp.toNat n.toNat) (f, i2) t))) → va_S A s.heap H1 locs1 → W p lc e R s m args below meth c H1 locs1 (16 * cs) (6416 * cs) Q (F0 m (pc + 3) ls (st.map (mq_val ad))) := by
    intro H1 locs1 hP1 hD1 hS1
    rw [← mq_ent_arr (G := G) (ad := ad) (ρ := ρ) (μ := mq_cp μ (f, i2) (f, i1) sp.toNat dp.toNat n.toNat) (j := (f, i2)) hf] at hP1 hD1
    have hne : ∀ j', j' ≠ (f, i2) → mq_cp μ (f, i2) (f, i1) sp.toNat dp.toNat n.toNat j' = μ j' := fun j' hj => by
      funext k
      simp [mq_cp, hj]
    rw [mq_ws_set hq2 rfl (fun j' hj => mq_ent_congr (hne j' hj) (fun _ => rfl))] at hP1 hD1
    refine k9 ad H1 locs1 ls hl ho.pop.pop.pop.pop.pop ⟨hP1, hD1, mq_cp_bok hf (hs.imp id (fun q => by rw [q])) hw.2.2.1, hw.2.2.2⟩ hS1 (fun j hj => ?_) ha
    rw [hne j (fun q => by rw [q] at hj; simp only at hj; rw [hm] at hj; cases hj)]
    exact hg j hj
  have hcat := mq_cwb_spec (ad := ad) 8 st hcw
  rcases ht with rfl | rfl
  · refine va_copyi (D := G.1) (ty := .int) X.1 X.2.1 (by rw [X.2.2.1]; exact hl.2.1.symm) X.2.2.2.1 (X.2.2.2.2.1 _ hT.1) (X.2.2.2.2.1 _ hT.2.1) (X.2.2.2.2.1 _ hT.2.2.1) (X.2.2.2.2.1 _ hT.2.2.2) X.2.2.2.2.2.1.1 hw.1 hw.2.1 hS q1 q2 0 0 hq1' hq2' (mq_ty_at G).1 (mq_ty_at G).1 rfl (nn ho.pop.pop.pop.top hx.1) (nn ho.pop.top hx.2.1) (nn ho.top hx.2.2.1) (by rw [e1, e3]; omega) (by rw [e1, e2]; omega) (fun _ _ => rfl) hR.1 (by omega) hd (fun H1 locs1 hP1 hD1 hS1 => ?_)
    have e9 : va_cpy (fun k => Int32.ofInt (μ (f, i1) k)) (fun k => Int32.ofInt (μ (f, i2) k)) sp.toNat dp.toNat n.toNat = fun k => Int32.ofInt (mq_cp μ (f, i2) (f, i1) sp.toNat dp.toNat n.toNat (f, i2) k) := by
      funext k
      simp only [va_cpy, mq_cp, true_and]
      split <;> rfl
    rw [e1, e2, e3, e9] at hP1 hD1
    exact hw2 H1 locs1 hP1 hD1 hS1
  · refine va_copyl (D := G.1) (ty := .long) X.1 X.2.1 (by rw [X.2.2.1]; exact hl.2.1.symm) X.2.2.2.1 (X.2.2.2.2.1 _ hT.1) (X.2.2.2.2.1 _ hT.2.1) (X.2.2.2.2.1 _ hT.2.2.1) (X.2.2.2.2.1 _ hT.2.2.2) X.2.2.2.2.2.1.1 hw.1 hw.2.1 hS q1 q2 3 3 hq1' hq2' (mq_ty_at G).2.2.2.1 (mq_ty_at G).2.2.2.1 rfl (nn ho.pop.pop.pop.top hx.1) (nn ho.pop.top hx.2.1) (nn ho.top hx.2.2.1) (by rw [e1, e3]; omega) (by rw [e1, e2]; omega) (fun _ _ => rfl) hR.1 (by omega) hd (fun H1 locs1 hP1 hD1 hS1 => ?_)
    have e9 : va_cpy (fun k => Int64.ofInt (μ (f, i1) k)) (fun k => Int64.ofInt (μ (f, i2) k)) sp.toNat dp.toNat n.toNat = fun k => Int64.ofInt (mq_cp μ (f, i2) (f, i1) sp.toNat dp.toNat n.toNat (f, i2) k) := by
      funext k
      simp only [va_cpy, mq_cp, true_and]
      split <;> rfl
    rw [e1, e2, e3, e9] at hP1 hD1
    exact hw2 H1 locs1 hP1 hD1 hS1
theorem mq_s_max (X : mq_cx p s m args meth c cc own nL G) {a b : Int} {idx : Nat} (hd : decode cc pc = .ok (.invokestatic idx, 3) ∧ nxt = pc + 3) (hT : Cond.methodLink own idx Lib.Math.max.name ∈ wG ∧ Cond.static Lib.Math.max.name ∈ wG ∧ Cond.initialized "java/lang/Math" ∈ wG ∧ Cond.code Lib.Math.max.name Lib.Math.max.code 2 (some .int) ∈ wG) (hR : 1 ≤ R.frames ∧ 21 ≤ R.locals) (hc : 16 * cs ≤ R.cells) (hs : 6416 * cs ≤ R.slots) (hcw : mq_cwb 8 st = true)
    (k : ∀ r : Int, mq_in r → (r = a ∨ r = b) → a ≤ r → b ≤ r → mq_W p lc e R s m args below meth c G nL A ad0 ρ0 md μ0 Q nxt l (.inl r :: st) ρ μ cs) : mq_W p lc e R s m args below meth c G nL A ad0 ρ0 md μ0 Q pc l (.inl b :: .inl a :: st) ρ μ cs := by
  intro ad H locs ls hl ho hw hS hg ha
  have ha0 : mq_in a := ho.pop.top
  have hb0 : mq_in b := ho.top
  have hcat := mq_cwb_spec (ad := ad) 8 st hcw
  obtain ⟨hd, rfl⟩ := hd
  refine va_mmax X.1 X.2.1 (by rw [X.2.2.1]; exact hl.2.1.symm) X.2.2.2.1 (X.2.2.2.2.1 _ hT.1) (X.2.2.2.2.1 _ hT.2.1) (X.2.2.2.2.1 _ hT.2.2.1) (X.2.2.2.2.1 _ hT.2.2.2) hR.1 (by omega) hc hs hd ?_
  have h9 := mq_lt32 (a := a) (b := b) ha0 hb0
  by_cases hlt : a < b
  · rw [if_pos (h9.mpr hlt)]
    exact k b hb0 (Or.inr rfl) (by omega) (by omega) ad H locs ls hl (ho.pop.pop.push hb0) hw hS hg ha
  · rw [if_neg (fun q => hlt (h9.mp q))]
    exact k a ha0 (Or.inl rfl) (by omega) (by omega) ad H locs ls hl (ho.pop.pop.push ha0) hw hS hg ha
theorem mq_s_min (X : mq_cx p s m args meth c cc own nL G) {a b : Int} {idx : Nat} (hd : decode cc pc = .ok (.invokestatic idx, 3) ∧ nxt = pc + 3) (hT : Cond.methodLink own idx Lib.Math.min.name ∈ wG ∧ Cond.static Lib.Math.min.name ∈ wG ∧ Cond.initialized "java/lang/Math" ∈ wG ∧ Cond.code Lib.Math.min.name Lib.Math.min.code 2 (some .int) ∈ wG) (hR : 1 ≤ R.frames ∧ 21 ≤ R.locals) (hc : 16 * cs ≤ R.cells) (hs : 6416 * cs ≤ R.slots) (hcw : mq_cwb 8 st = true)
    (k : ∀ r : Int, mq_in r → (r = a ∨ r = b) → r ≤ a → r ≤ b → mq_W p lc e R s m args below meth c G nL A ad0 ρ0 md μ0 Q nxt l (.inl r :: st) ρ μ cs) : mq_W p lc e R s m args below meth c G nL A ad0 ρ0 md μ0 Q pc l (.inl b :: .inl a :: st) ρ μ cs := by
  intro ad H locs ls hl ho hw hS hg ha
  have ha0 : mq_in a := ho.pop.top
  have hb0 : mq_in b := ho.top
  have hcat := mq_cwb_spec (ad := ad) 8 st hcw
  obtain ⟨hd, rfl⟩ := hd
  refine va_mmin X.1 X.2.1 (by rw [X.2.2.1]; exact hl.2.1.symm) X.2.2.2.1 (X.2.2.2.2.1 _ hT.1) (X.2.2.2.2.1 _ hT.2.1) (X.2.2.2.2.1 _ hT.2.2.1) (X.2.2.2.2.1 _ hT.2.2.2) hR.1 (by omega) hc hs hd ?_
  have h9 := mq_lt32 (a := b) (b := a) hb0 ha0
  by_cases hlt : b < a
  · rw [if_pos (h9.mpr hlt)]
    exact k b hb0 (Or.inr rfl) (by omega) (by omega) ad H locs ls hl (ho.pop.pop.push hb0) hw hS hg ha
  · rw [if_neg (fun q => hlt (h9.mp q))]
    exact k a ha0 (Or.inl rfl) (by omega) (by omega) ad H locs ls hl (ho.pop.pop.push ha0) hw hS hg ha
end MQ
