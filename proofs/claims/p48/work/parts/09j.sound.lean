/-! a step of the small machine is a run of the great one; so a whole program -/
theorem mq_rcn_spec {f : Nat} {C : String} (h : mq_rcn f = some C) : (f = 99 ∧ C = "java/lang/String") ∨ ∃ (ci n : Nat) (bs : List (Nat × Int × Int)) (q : vw_C), mq_fm f = (false, ci, n, bs) ∧ vwCl[ci]? = some q ∧ q.1 = C := by
  unfold mq_rcn at h
  cases hb : Nat.beq f 99 with
  | true => rw [hb] at h; simp at h; exact Or.inl ⟨Nat.eq_of_beq_eq_true hb, h.symm⟩
  | false =>
    rw [hb] at h
    simp only [cond_false] at h
    split at h
    · rename_i ci n bs hf
      cases hq : vwCl[ci]? with
      | none => rw [hq] at h; cases h
      | some q => rw [hq] at h; exact Or.inr ⟨ci, n, bs, q, hf, hq, by simpa using h⟩
    · cases h
theorem mq_rev_map {ad : mq_J → Nat} (as st : List mq_V) : (as.reverse ++ st).map (mq_val ad) = (as.map (mq_val ad)).reverse ++ st.map (mq_val ad) := by simp
theorem mq_narc {v : Int} (h : 0 ≤ v ∧ v ≤ 65535) : narrow .char (.int (Int32.ofInt v)) = .int (Int32.ofInt v) := by
  have e : Int32.ofInt v = nI v.toNat := by
    unfold nI
    rw [← Int32.ofInt_eq_ofNat, Int.toNat_of_nonneg h.1]
  rw [e]
  exact (pk_charN (q := v.toNat) (by omega)).1
section MQ
variable {p : Program} {lc : Launch} {e : Env} {R : Room} {s : State} {m : MethodId} {args : Array Value} {below : List Frame} {meth : Method} {c : Code} {Q : State → Prop} {cc : ByteArray} {own : String} {nL : Nat} {G : KG} {A : Nat → Prop} {ad0 : mq_J → Nat} {ρ0 : mq_R} {md : Nat} {μ0 : mq_M}
variable {pc nxt cs : Nat} {l : mq_L} {st : List mq_V} {ρ : mq_R} {μ : mq_M}
theorem mq_s_call (X : mq_cx p s m args meth c cc own nL G) (Y : mq_cy A ad0 s) {cl : List mq_C} {q : Nat × Nat × Nat} {y : MethodName} {b : ByteArray} {n : Nat} {r : Option FieldType} {rm : Room} {na rk pk mc md' : Nat} {pre : List mq_V → mq_R → mq_M → Prop} {post : List mq_V → mq_R → mq_M → Int → mq_R → mq_M → List Prop}
    (hcl : cl[q.2.1]? = some ((y, b, n, r, rm), (na, rk, pk, mc), md', pre, post)) (hC : mq_Ct lc ((y, b, n, r, rm), (na, rk, pk, mc), md', pre, post)) (hL : mq_mlw own cl q) (hm : md' &&& md = md') (hrc : rm.cells = 16 * mc ∧ rm.slots = 6416 * mc) (hR : rm.frames + 1 ≤ R.frames ∧ 8 + (n + 11) + rm.locals ≤ R.locals) (hcs : 16 * cs + 16 * mc ≤ R.cells ∧ 6416 * cs + 6416 * mc ≤ R.slots)
    (hd : match q.2.2 with
      | 0 => decode cc pc = .ok (.invokevirtual q.1, 3)
      | _ + 1 => decode cc pc = .ok (.invokestatic q.1, 3)) {as : List mq_V} (hna : as.length = na) (hcw : mq_cwb 8 st = true) (hpre : pre as ρ μ)
    (k9 : ∀ (r : Int) (ρ' : mq_R) (μ' : mq_M), mq_rgo rk r → mq_all (post as ρ μ r ρ' μ') → mq_pk pk ρ ρ' → mq_ag md' μ μ' → (∀ k, ρ.2.2.2.2 k = true → ρ'.2.2.2.2 k = true) → mq_W p lc e R s m args below meth c G nL A ad0 ρ0 md μ0 Q (pc + 3) l (mq_rs rk r st) ρ' μ' (cs + mc)) : mq_W p lc e R s m args below meth c G nL A ad0 ρ0 md μ0 Q pc l (as.reverse ++ st) ρ μ cs := by
  intro ad H locs ls hl ho hw hS hg ha
  have hoas : ∀ v ∈ as, mq_ok ρ v := fun v hv => ho.1 v (List.mem_append_left _ (List.mem_reverse.mpr hv))
  have host : mq_oks ρ l st := ⟨fun v hv => ho.1 v (List.mem_append_right _ hv), ho.2⟩
  have hM := hC G ad as ρ μ H.size hpre hoas hw.2.2.1 hw.2.2.2
  have hPS := mq_preS (as := as) X.2.2.2.2.2.1 Y hw hS ha
  have hcat := mq_cwb_spec (ad := ad) 8 st hcw
  rw [mq_rev_map]
  unfold mq_mlw at hL
  rw [hcl] at hL
  obtain ⟨hcode, hne, hL⟩ := hL
  have hsz : (F0 m pc ls ((as.map (mq_val ad)).reverse ++ st.map (mq_val ad))).locals.size = nL := hl.2.1
  match hkind : q.2.2, hd, hL with
  | 0, hd, hL =>
    obtain ⟨hpar, hlink, hinst, hsel, hini, f, hrc2, hrcv⟩ := hL
    obtain ⟨i, t, rfl⟩ := hrcv as ρ μ hpre
    have hcell : ∃ cellB : Cell, H[ad (f, i)]? = some cellB ∧ cellB.vm.isStatics = false ∧ s.vm.findClass y.cls = some cellB.cls := by
      have hok := hoas _ List.mem_cons_self
      rcases mq_rcn_spec hrc2 with ⟨rfl, hy⟩ | ⟨ci, n9, bs, q9, hf, hq9, hy⟩
      · rw [hy]
        have hi : i < 21 := by
          rcases hok with h | h
          · exact h.2
          · rcases mq_ids_inv h with ⟨h1, _⟩ | ⟨h1, _⟩
            · exact absurd (show (99 : Nat) < 94 from h1) (by decide)
            · cases h1
        rw [ha.1 (99, i) (fun h => by cases h)]
        exact vk_recv Y.2.1 hi hS
      · rw [← hy]
        obtain ⟨h94, -⟩ := mq_fb_obj hf
        obtain ⟨q0, hq0, hq1⟩ := mq_place (G := G) (ad := ad) (μ := μ) (mq_not99 hok h94)
        rw [mq_ent_obj (j := (f, i)) hf] at hq1
        exact va_recv X.2.2.2.2.2.1.1 hw.1 hq9 hq1
    refine mq_goon Y hm (a := ((.inr (.inr (some (f, i))) :: t).map (mq_val ad)).toArray) ?_ hl host hw hS hg ha k9
    refine va_runV (As := t.map (mq_val ad)) (rest := st.map (mq_val ad)) (b := ad (f, i)) ⟨X.1, X.2.1, X.2.2.1, X.2.2.2.1, X.2.2.2.2.1⟩ hM (cwV (C := y.cls) (na - 1) X.2.2.2.2.1 (gdV hlink hinst hsel hini hcode) rfl hrc.1 hrc.2 ⟨rfl, hne.1, hne.2, ?_⟩ hR) ⟨hPS.1, hcell, hPS.2⟩ rfl ?_ hsz ?_ (lv_room hcat) hd hcs
    · cases hp : parseMethodDescriptor y.desc with
      | none => rw [hp] at hpar; cases hpar
      | some d => rw [hp] at hpar; simp at hpar ⊢; omega
    · simp at hna ⊢; omega
    · simp [mq_val]
  | 1, hd, hL =>
    obtain ⟨hpar, hlink, hstat, hini⟩ := hL
    refine mq_goon Y hm (a := (as.map (mq_val ad)).toArray) ?_ hl host hw hS hg ha k9
    exact va_runS (As := as.map (mq_val ad)) (rest := st.map (mq_val ad)) ⟨X.1, X.2.1, X.2.2.1, X.2.2.2.1, X.2.2.2.2.1⟩ hM (va_cwS na X.2.2.2.2.1 (gdT hlink hstat hini hcode) rfl hrc.1 hrc.2 ⟨hne.1, hne.2, hpar⟩ hR) hPS rfl (by simp [hna]) hsz rfl (lv_room hcat) hd hcs
  | z + 2, hd, hL =>
    obtain ⟨hpar, ⟨k2, hk2⟩, hstat, hini⟩ := hL
    refine mq_goon Y hm (a := (as.map (mq_val ad)).toArray) ?_ hl host hw hS hg ha k9
    exact va_runSN (host := "SlipCoach") (As := as.map (mq_val ad)) (rest := st.map (mq_val ad)) ⟨X.1, X.2.1, X.2.2.1, X.2.2.2.1, X.2.2.2.2.1⟩ hM ⟨va_cnB na X.2.2.2.2.1 (gdI hcode) rfl hrc.1 hrc.2 (X.2.2.2.2.2.1.2.2.2.2 k2 _ hk2) (X.2.2.2.2.1 _ hini) ⟨hne.1, hne.2, hpar⟩ hR, X.2.2.2.2.1 _ hstat, trivial⟩ hPS rfl (by simp [hna]) hsz rfl (lv_room hcat) hd hcs
/-- the method's end -/
theorem mq_s_ret (X : mq_cx p s m args meth c cc own nL G) {rk pk mc : Nat} {post : Int → mq_R → mq_M → List Prop} {ret : Option FieldType} {v : Int} (hr : meth.sig.returnType = ret) (hA : A = va_A (mq_ws G ad0 ρ0 μ0) s.heap.size)
    (hd : (rk = 0 ∧ ret = none ∧ st = [] ∧ v = 0 ∧ decode cc pc = .ok (.return_, 1)) ∨ (rk = 1 ∧ (ret = some .int ∨ ret = some .boolean ∨ ret = some .char ∨ ret = some .byte) ∧ st = [.inl v] ∧ decode cc pc = .ok (.ireturn, 1)) ∨ (rk = 2 ∧ ret = some .long ∧ st = [.inr (.inl v)] ∧ decode cc pc = .ok (.lreturn, 1))) (hrv : mq_rvo ret v) (hpo : mq_all (post v ρ μ)) (hcs : cs ≤ mc) (hpk : mq_pk pk ρ0 ρ) : mq_W p lc e R s m args below meth c G nL A ad0 ρ0 md μ0 (MQ below (mq_Qc rk pk md post G ad0 ρ0 μ0 s.heap.size) args s (16 * mc) (6416 * mc) A) pc l st ρ μ cs := by
  intro ad H locs ls hl ho hw hS hg ha
  have hlocks := X.2.2.2.2.2.2
  refine W.widen (k := 16 * mc) (n := 6416 * mc) (Nat.mul_le_mul_left _ hcs) (Nat.mul_le_mul_left _ hcs) ?_
  have hq : ∀ t : State, mq_rgo rk v → t.heap = H → mq_Qc rk pk md post G ad0 ρ0 μ0 s.heap.size args s (.returned (mq_ov rk v)) t := fun t hrg ht => ⟨⟨v, ρ, μ, ad, rfl, hrg, hpo, hpk, hg, ha, by rw [ht, ← hA]; exact hw⟩, by rw [← hA]; exact hS.F ht⟩
  rcases hd with ⟨rfl, rfl, rfl, rfl, hd⟩ | ⟨rfl, hrt, rfl, hd⟩ | ⟨rfl, rfl, rfl, hd⟩
  · exact W.vret X.1 X.2.1 hr (fun t ht _ => hq t rfl ht) hS.2.2 hd
  · have hv : mq_in v := ho.top
    rcases hrt with rfl | rfl | rfl | rfl
    · exact W.iret X.1 X.2.1 hr (fun t ht _ => hq t hv ht) hS.2.2 hd
    · exact W.zret (ty := .boolean) X.1 X.2.1 hr (mq_narz hrv).2.1 (fun t ht _ => hq t hv ht) hS.2.2 hd
    · exact W.zret (ty := .char) X.1 X.2.1 hr (mq_narc hrv) (fun t ht _ => hq t hv ht) hS.2.2 hd
    · have hv0 : v = 0 := hrv
      subst hv0
      exact W.zret (ty := .byte) X.1 X.2.1 hr (by decide) (fun t ht _ => hq t hv ht) hS.2.2 hd
  · have hv : mq_inl v := ho.top
    exact W.lret X.1 X.2.1 hr (fun t ht _ => hq t hv ht) hS.2.2 hd
end MQ
