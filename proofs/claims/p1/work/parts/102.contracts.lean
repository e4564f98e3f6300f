set_option maxHeartbeats 4000000 in
set_option maxRecDepth 100000 in
theorem c_X10_count (l : Launch) (G : KG) (x0 : Nat) (tp : Nat) (rd : Nat) (nw : Nat) (sp : Nat) (im : Nat) (ir : Nat) (kp : Nat) (sl : Nat) (tk : Nat) (hn : Nat) (rc : Nat) (jn : Nat) (br : Nat) (sh : Nat) (nw_slopes : Nat) (nw_wets : Nat) (nw_limits : Nat) (nw_platforms : Nat) (nw_kinds : Nat) (nw_trains : Nat) (nw_coaches : Nat) (nw_platforms_c : Nat) (nw_kinds_c : Nat) (nw_trains_c : Nat) (nw_coaches_c : Nat) (s0 : Nat) (s1 : Nat) (s2 : Nat) (s3 : Nat) (n0 : Nat) (n1 : Nat) (n2 : Nat) (n3 : Nat) (t0 : Nat) (t1 : Nat) (t2 : Nat) (t3 : Nat) (tl : Nat) (p0 : Int32) : Met l yX10_count wgX10_count ({ frames := 2, cells := 0, slots := 0, locals := 42 }) (preS G [.ref x0, .int p0] [(x0, .inr (10, [.ref tp, .int 0, .ref rd, .ref nw, .ref sp, .ref im, .ref ir, .ref kp, .ref sl, .ref tk, .ref hn, .ref rc, .ref jn, .ref br, .ref sh])), (nw, .inr (3, [.int 0, .int 0, .ref nw_slopes, .ref nw_wets, .ref nw_limits, .ref nw_platforms, .ref nw_kinds, .ref nw_trains, .ref nw_coaches])), (nw_platforms, .inr (6, [.int 6, .int 2, .ref nw_platforms_c, .int 0])), (nw_kinds, .inr (6, [.int 4, .int 5, .ref nw_kinds_c, .int 0])), (nw_trains, .inr (6, [.int 5, .int 3, .ref nw_trains_c, .int 0])), (nw_coaches, .inr (6, [.int 16, .int 5, .ref nw_coaches_c, .int 0])), (tk, .inr (9, [.ref t0, .ref t1, .ref t2, .ref t3, .ref tl, .int 0])), (sl, .inl (G.2 5, 4, .inr (.inr (.inr (.inr (va_up (va_up (va_up (va_up (fun _ => none) 0 (some s0)) 1 (some s1)) 2 (some s2)) 3 (some s3))))))), (s0, .inr (8, [.ref n0, .int (-1), .int 0])), (s1, .inr (8, [.ref n1, .int (-1), .int 0])), (s2, .inr (8, [.ref n2, .int (-1), .int 0])), (s3, .inr (8, [.ref n3, .int (-1), .int 0]))]) (vp_Si (fun (r : Int32) => r = cntA p0)) 0 0 (fun _ => False) := by
  refine Met.ofW (cc := cX10_count) (maxL := 2) (ret := (some .int)) (by decide) rfl ?_
  intro p e s m args below meth c s₁ B hml hv
  obtain ⟨rfl, hP, hKG⟩ := hv
  obtain ⟨hK, hAO⟩ := id hKG
  have hx := B.exec
  have hb := B.bytes
  have hr := B.returns
  have hts := atoms_spec (ws := wgX10_count) B.pre
  have hw : ∀ w ∈ wG, w.before _ s = true := fun w h => hts w (List.mem_cons_of_mem _ h)
  have hown : s.vm.findClass RX10 = some m.cls := findClass_of_methodNamed B.named
  have hlocks := B.notSynchronized
  have hl := lv_entry ([.ref x0, .int p0]) (n := 2) (Nat.le_of_ble_eq_true rfl)
  rw [lg_entry_eq]
  generalize (lg_sl ([.ref x0, .int p0]) ++ List.replicate (2 - (lg_sl ([.ref x0, .int p0])).length) Slot.unset).toArray = ls at hl ⊢
  have hl : lv_has ls 2 [(0, .ref x0), (1, .int p0)] := hl
  refine lv_iload_n hx hb dX10_count_0 rfl (lv_at hl 1 rfl) ?_
  by_cases c1 : p0.toInt < 0 ∨ 8 < p0.toInt
  · refine lv_tableOut (tgt := 130) hx hb dX10_count_1 c1 (by decide) ?_
    refine lv_iconst (v := (-1)) hx hb dX10_count_130 (by decide) ?_
    exact W.iret (v := (-1)) hx hb hr (fun t ht hW => ⟨(-1), rfl, (if_pos (by assumption)).symm, ht⟩) (fun _ h => absurd h List.not_mem_nil) dX10_count_131
  · rcases sw_0_8 p0 c1 with rfl | rfl | rfl | rfl | rfl | rfl | rfl | rfl | rfl
    · refine lv_tableIn (off := 51) (tgt := 52) hx hb dX10_count_1 (by decide) (by decide) rfl (by decide) ?_
      refine lv_aload_n hx hb dX10_count_52 rfl (lv_at hl 0 rfl) ?_
      refine va_get (D := G.1) (ci := 10) (v := .ref nw) (C := RX10) (T := TX10) (N := 15) hx hb hw inGX10 hown hK hP 0 rfl rfl 3 (by decide) (hw _ kw_2) (fun _ h9 => h9) rfl dX10_count_53 ?_
      refine va_get (D := G.1) (ci := 3) (v := .int 0) (C := RX3) (T := TX3) (N := 9) hx hb hw inGX3 hown hK hP 1 rfl rfl 0 (by decide) (hw _ kw_3) (fun _ h9 => h9) rfl dX10_count_56 ?_
      exact W.iret (v := 0) hx hb hr (fun t ht hW => ⟨0, rfl, (by decide), ht⟩) (fun _ h => absurd h List.not_mem_nil) dX10_count_59
    · refine lv_tableIn (off := 59) (tgt := 60) hx hb dX10_count_1 (by decide) (by decide) rfl (by decide) ?_
      refine lv_aload_n hx hb dX10_count_60 rfl (lv_at hl 0 rfl) ?_
      refine va_get (D := G.1) (ci := 10) (v := .ref nw) (C := RX10) (T := TX10) (N := 15) hx hb hw inGX10 hown hK hP 0 rfl rfl 3 (by decide) (hw _ kw_2) (fun _ h9 => h9) rfl dX10_count_61 ?_
      refine va_get (D := G.1) (ci := 3) (v := .ref nw_kinds) (C := RX3) (T := TX3) (N := 9) hx hb hw inGX3 hown hK hP 1 rfl rfl 6 (by decide) (hw _ kw_9) (fun _ h9 => h9) rfl dX10_count_64 ?_
      refine va_get (D := G.1) (ci := 6) (v := .int 0) (C := RX6) (T := TX6) (N := 4) hx hb hw inGX6 hown hK hP 3 rfl rfl 3 (by decide) (hw _ kw_56) (fun _ h9 => h9) rfl dX10_count_67 ?_
      exact W.iret (v := 0) hx hb hr (fun t ht hW => ⟨0, rfl, (by decide), ht⟩) (fun _ h => absurd h List.not_mem_nil) dX10_count_70
    · refine lv_tableIn (off := 70) (tgt := 71) hx hb dX10_count_1 (by decide) (by decide) rfl (by decide) ?_
      refine lv_aload_n hx hb dX10_count_71 rfl (lv_at hl 0 rfl) ?_
      refine va_get (D := G.1) (ci := 10) (v := .ref nw) (C := RX10) (T := TX10) (N := 15) hx hb hw inGX10 hown hK hP 0 rfl rfl 3 (by decide) (hw _ kw_2) (fun _ h9 => h9) rfl dX10_count_72 ?_
      refine va_get (D := G.1) (ci := 3) (v := .ref nw_platforms) (C := RX3) (T := TX3) (N := 9) hx hb hw inGX3 hown hK hP 1 rfl rfl 5 (by decide) (hw _ kw_57) (fun _ h9 => h9) rfl dX10_count_75 ?_
      refine va_get (D := G.1) (ci := 6) (v := .int 0) (C := RX6) (T := TX6) (N := 4) hx hb hw inGX6 hown hK hP 2 rfl rfl 3 (by decide) (hw _ kw_56) (fun _ h9 => h9) rfl dX10_count_78 ?_
      exact W.iret (v := 0) hx hb hr (fun t ht hW => ⟨0, rfl, (by decide), ht⟩) (fun _ h => absurd h List.not_mem_nil) dX10_count_81
    · refine lv_tableIn (off := 81) (tgt := 82) hx hb dX10_count_1 (by decide) (by decide) rfl (by decide) ?_
      refine lv_aload_n hx hb dX10_count_82 rfl (lv_at hl 0 rfl) ?_
      refine va_get (D := G.1) (ci := 10) (v := .ref nw) (C := RX10) (T := TX10) (N := 15) hx hb hw inGX10 hown hK hP 0 rfl rfl 3 (by decide) (hw _ kw_2) (fun _ h9 => h9) rfl dX10_count_83 ?_
      refine va_get (D := G.1) (ci := 3) (v := .ref nw_trains) (C := RX3) (T := TX3) (N := 9) hx hb hw inGX3 hown hK hP 1 rfl rfl 7 (by decide) (hw _ kw_28) (fun _ h9 => h9) rfl dX10_count_86 ?_
      refine va_get (D := G.1) (ci := 6) (v := .int 0) (C := RX6) (T := TX6) (N := 4) hx hb hw inGX6 hown hK hP 4 rfl rfl 3 (by decide) (hw _ kw_56) (fun _ h9 => h9) rfl dX10_count_89 ?_
      exact W.iret (v := 0) hx hb hr (fun t ht hW => ⟨0, rfl, (by decide), ht⟩) (fun _ h => absurd h List.not_mem_nil) dX10_count_92
    · refine lv_tableIn (off := 92) (tgt := 93) hx hb dX10_count_1 (by decide) (by decide) rfl (by decide) ?_
      refine lv_aload_n hx hb dX10_count_93 rfl (lv_at hl 0 rfl) ?_
      refine va_get (D := G.1) (ci := 10) (v := .ref nw) (C := RX10) (T := TX10) (N := 15) hx hb hw inGX10 hown hK hP 0 rfl rfl 3 (by decide) (hw _ kw_2) (fun _ h9 => h9) rfl dX10_count_94 ?_
      refine va_get (D := G.1) (ci := 3) (v := .ref nw_coaches) (C := RX3) (T := TX3) (N := 9) hx hb hw inGX3 hown hK hP 1 rfl rfl 8 (by decide) (hw _ kw_27) (fun _ h9 => h9) rfl dX10_count_97 ?_
      refine va_get (D := G.1) (ci := 6) (v := .int 0) (C := RX6) (T := TX6) (N := 4) hx hb hw inGX6 hown hK hP 5 rfl rfl 3 (by decide) (hw _ kw_56) (fun _ h9 => h9) rfl dX10_count_100 ?_
      exact W.iret (v := 0) hx hb hr (fun t ht hW => ⟨0, rfl, (by decide), ht⟩) (fun _ h => absurd h List.not_mem_nil) dX10_count_103
    · refine lv_tableIn (off := 103) (tgt := 104) hx hb dX10_count_1 (by decide) (by decide) rfl (by decide) ?_
      refine lv_aload_n hx hb dX10_count_104 rfl (lv_at hl 0 rfl) ?_
      refine va_get (D := G.1) (ci := 10) (v := .ref nw) (C := RX10) (T := TX10) (N := 15) hx hb hw inGX10 hown hK hP 0 rfl rfl 3 (by decide) (hw _ kw_2) (fun _ h9 => h9) rfl dX10_count_105 ?_
      refine va_get (D := G.1) (ci := 3) (v := .int 0) (C := RX3) (T := TX3) (N := 9) hx hb hw inGX3 hown hK hP 1 rfl rfl 1 (by decide) (hw _ kw_58) (fun _ h9 => h9) rfl dX10_count_108 ?_
      exact W.iret (v := 0) hx hb hr (fun t ht hW => ⟨0, rfl, (by decide), ht⟩) (fun _ h => absurd h List.not_mem_nil) dX10_count_111
    · refine lv_tableIn (off := 111) (tgt := 112) hx hb dX10_count_1 (by decide) (by decide) rfl (by decide) ?_
      refine lv_aload_n hx hb dX10_count_112 rfl (lv_at hl 0 rfl) ?_
      refine va_get (D := G.1) (ci := 10) (v := .int 0) (C := RX10) (T := TX10) (N := 15) hx hb hw inGX10 hown hK hP 0 rfl rfl 1 (by decide) (hw _ kw_59) (fun _ h9 => h9) rfl dX10_count_113 ?_
      exact W.iret (v := 0) hx hb hr (fun t ht hW => ⟨0, rfl, (by decide), ht⟩) (fun _ h => absurd h List.not_mem_nil) dX10_count_116
    · refine lv_tableIn (off := 116) (tgt := 117) hx hb dX10_count_1 (by decide) (by decide) rfl (by decide) ?_
      refine lv_aload_n hx hb dX10_count_117 rfl (lv_at hl 0 rfl) ?_
      refine va_get (D := G.1) (ci := 10) (v := .ref tk) (C := RX10) (T := TX10) (N := 15) hx hb hw inGX10 hown hK hP 0 rfl rfl 9 (by decide) (hw _ kw_60) (fun _ h9 => h9) rfl dX10_count_118 ?_
      refine va_get (D := G.1) (ci := 9) (v := .int 0) (C := RX9) (T := TX9) (N := 6) hx hb hw inGX9 hown hK hP 6 rfl rfl 5 (by decide) (hw _ kw_61) (fun _ h9 => h9) rfl dX10_count_121 ?_
      exact W.iret (v := 0) hx hb hr (fun t ht hW => ⟨0, rfl, (by decide), ht⟩) (fun _ h => absurd h List.not_mem_nil) dX10_count_124
    · refine lv_tableIn (off := 124) (tgt := 125) hx hb dX10_count_1 (by decide) (by decide) rfl (by decide) ?_
      refine lv_aload_n hx hb dX10_count_125 rfl (lv_at hl 0 rfl) ?_
      refine vp_callSi (va_Run.run (va_runV (As := []) (rest := []) ⟨hx, hb, hml, hown, hw⟩ (c_slotsHeld l G x0 tp rd nw sp im ir kp sl tk hn rc jn br sh s0 s1 s2 s3 n0 n1 n2 n3) (cwV 0 hw (gdV kw_63 kw_64 kw_65 kw_8 kw_62) rfl rfl rfl ⟨rfl, hdX10_slotsHeld⟩ ⟨(Nat.le_of_ble_eq_true rfl), (Nat.le_of_ble_eq_true rfl)⟩) (preS_V (wc := [(x0, .inr (10, [.ref tp, .int 0, .ref rd, .ref nw, .ref sp, .ref im, .ref ir, .ref kp, .ref sl, .ref tk, .ref hn, .ref rc, .ref jn, .ref br, .ref sh])), (sl, .inl (G.2 5, 4, .inr (.inr (.inr (.inr (va_up (va_up (va_up (va_up (fun _ => none) 0 (some s0)) 1 (some s1)) 2 (some s2)) 3 (some s3))))))), (s0, .inr (8, [.ref n0, .int (-1), .int 0])), (s1, .inr (8, [.ref n1, .int (-1), .int 0])), (s2, .inr (8, [.ref n2, .int (-1), .int 0])), (s3, .inr (8, [.ref n3, .int (-1), .int 0]))]) (ci := 10) hKG hP [0, 7, 8, 9, 10, 11] rfl rfl rfl) rfl rfl hl.1 rfl (lv_room (Nat.le_of_ble_eq_true rfl)) dX10_count_126 ⟨(Nat.le_of_ble_eq_true rfl), (Nat.le_of_ble_eq_true rfl)⟩)) (fun r2 hr2 => ?_)
      subst hr2
      exact W.iret (v := 0) hx hb hr (fun t ht hW => ⟨0, rfl, (by decide), ht⟩) (fun _ h => absurd h List.not_mem_nil) dX10_count_129
set_option maxHeartbeats 4000000 in
set_option maxRecDepth 100000 in
theorem c_X10_end (l : Launch) (G : KG) (x0 : Nat) (tp : Nat) (rd : Nat) (nw : Nat) (sp : Nat) (im : Nat) (ir : Nat) (kp : Nat) (sl : Nat) (tk : Nat) (hn : Nat) (rc : Nat) (jn : Nat) (br : Nat) (sh : Nat) (p0 : Int32) (sz : Nat) : Met l yX10_end wgX10_end ({ frames := 0, cells := 0, slots := 0, locals := 0 }) (preQ G [.ref x0, .int p0] sz [(x0, .inr (10, [.ref tp, .int 0, .ref rd, .ref nw, .ref sp, .ref im, .ref ir, .ref kp, .ref sl, .ref tk, .ref hn, .ref rc, .ref jn, .ref br, .ref sh]))]) (va_Qi (fun (r : Int32) (u : Unit) => r = (if p0 = 0 then 0 else -1)) (fun u t => atQ G (va_A [(x0, .inr (10, [.ref tp, .int 0, .ref rd, .ref nw, .ref sp, .ref im, .ref ir, .ref kp, .ref sl, .ref tk, .ref hn, .ref rc, .ref jn, .ref br, .ref sh]))] sz) [] t) (va_A [(x0, .inr (10, [.ref tp, .int 0, .ref rd, .ref nw, .ref sp, .ref im, .ref ir, .ref kp, .ref sl, .ref tk, .ref hn, .ref rc, .ref jn, .ref br, .ref sh]))] sz)) 0 0 (va_A [(x0, .inr (10, [.ref tp, .int 0, .ref rd, .ref nw, .ref sp, .ref im, .ref ir, .ref kp, .ref sl, .ref tk, .ref hn, .ref rc, .ref jn, .ref br, .ref sh]))] sz) := by
  refine Met.ofW (cc := cX10_end) (maxL := 2) (ret := (some .int)) (by decide) rfl ?_
  intro p e s m args below meth c s₁ B hml hv
  obtain ⟨rfl, hsz, hP, hKG, hD0⟩ := hv
  obtain ⟨hK, hAO⟩ := id hKG
  have hx := B.exec
  have hb := B.bytes
  have hr := B.returns
  have hts := atoms_spec (ws := wgX10_end) B.pre
  have hw : ∀ w ∈ wG, w.before _ s = true := fun w h => hts w (List.mem_cons_of_mem _ h)
  have hown : s.vm.findClass RX10 = some m.cls := findClass_of_methodNamed B.named
  have hlocks := B.notSynchronized
  subst hsz
  have hD := hD0.self (sz := s.heap.size)
  generalize hAe : va_A [(x0, .inr (10, [.ref tp, .int 0, .ref rd, .ref nw, .ref sp, .ref im, .ref ir, .ref kp, .ref sl, .ref tk, .ref hn, .ref rc, .ref jn, .ref br, .ref sh]))] s.heap.size = A at hD ⊢
  have hA : ∀ q : Nat, s.heap.size ≤ q → A q := fun q h => by rw [← hAe]; exact Or.inr h
  have hS : va_S A s.heap s.heap [] := va_S.rf
  have hl := lv_entry ([.ref x0, .int p0]) (n := 2) (Nat.le_of_ble_eq_true rfl)
  rw [lg_entry_eq]
  generalize (lg_sl ([.ref x0, .int p0]) ++ List.replicate (2 - (lg_sl ([.ref x0, .int p0])).length) Slot.unset).toArray = ls at hl ⊢
  have hl : lv_has ls 2 [(0, .ref x0), (1, .int p0)] := hl
  refine lv_iload_n hx hb dX10_end_0 rfl (lv_at hl 1 rfl) ?_
  refine lv_if_lt (tgt := 12) hx hb dX10_end_1 (by decide) (fun c1 => ?_) (fun c1 => ?_)
  · refine lv_iconst (v := (-1)) hx hb dX10_end_12 (by decide) ?_
    exact W.iret (v := (-1)) hx hb hr (fun t ht hW => ⟨⟨(-1), (), rfl, (if_neg (fun zz => (by have z1 := c1; have z2 := zz; simp only [fa_lt, fa_le, fa_eq, fa_lt64, fa_le64, fa_eq64, Int32.toInt_toInt64, tc_0] at z1 z2 <;> omega))).symm, ⟨by rw [ht]; exact hP.sub [] rfl, hD.sub [] (by decide +kernel) rfl⟩⟩, hS.F ht⟩) hS.2.2 dX10_end_13
  · refine lv_iload_n hx hb dX10_end_4 rfl (lv_at hl 1 rfl) ?_
    refine lv_aload_n hx hb dX10_end_5 rfl (lv_at hl 0 rfl) ?_
    refine va_get (D := G.1) (ci := 10) (v := .int 0) (C := RX10) (T := TX10) (N := 15) hx hb hw inGX10 hown hK hP 0 rfl rfl 1 (by decide) (hw _ kw_59) (fun _ h9 => h9) rfl dX10_end_6 ?_
    refine lv_icmp_le (tgt := 14) hx hb dX10_end_9 (by decide) (fun c2 => ?_) (fun c2 => ?_)
    · refine lv_aload_n hx hb dX10_end_14 rfl (lv_at hl 0 rfl) ?_
      refine lv_iload_n hx hb dX10_end_15 rfl (lv_at hl 1 rfl) ?_
      refine va_put (D := G.1) (ci := 10) (v := .int p0) (ty := .int) (C := RX10) (T := TX10) (N := 15) hx hb hw inGX10 tyX10 tyX10_ok nmX10 hown hK hP hD hS 0 rfl rfl 1 (by decide) (hw _ kw_59) (fun _ h9 => h9) rfl (by decide +kernel) rfl rfl (Nat.le_of_ble_eq_true rfl) dX10_end_16 (fun H locs hP hD hS => ?_)
      have hP : va_P G.1 vwCl [(x0, .inr (10, [.ref tp, .int p0, .ref rd, .ref nw, .ref sp, .ref im, .ref ir, .ref kp, .ref sl, .ref tk, .ref hn, .ref rc, .ref jn, .ref br, .ref sh]))] H := hP
      have hD : va_D A [(x0, .inr (10, [.ref tp, .int p0, .ref rd, .ref nw, .ref sp, .ref im, .ref ir, .ref kp, .ref sl, .ref tk, .ref hn, .ref rc, .ref jn, .ref br, .ref sh]))] := hD
      refine lv_iload_n hx hb dX10_end_19 rfl (lv_at hl 1 rfl) ?_
      exact W.iret (v := p0) hx hb hr (fun t ht hW => ⟨⟨p0, (), rfl, (by have e9 : p0 = 0 := Classical.byContradiction (fun zz => (by have z1 := c1; have z2 := c2; have z3 := zz; simp only [fa_lt, fa_le, fa_eq, fa_lt64, fa_le64, fa_eq64, Int32.toInt_toInt64, tc_0] at z1 z2 z3 <;> omega)); rw [e9]; rfl), ⟨by rw [ht]; exact hP.sub [] rfl, hD.sub [] (by decide +kernel) rfl⟩⟩, hS.F ht⟩) hS.2.2 dX10_end_20
    · refine lv_iconst (v := (-1)) hx hb dX10_end_12 (by decide) ?_
      exact W.iret (v := (-1)) hx hb hr (fun t ht hW => ⟨⟨(-1), (), rfl, (if_neg (fun zz => (by have z1 := c1; have z2 := c2; have z3 := zz; simp only [fa_lt, fa_le, fa_eq, fa_lt64, fa_le64, fa_eq64, Int32.toInt_toInt64, tc_0] at z1 z2 z3 <;> omega))).symm, ⟨by rw [ht]; exact hP.sub [] rfl, hD.sub [] (by decide +kernel) rfl⟩⟩, hS.F ht⟩) hS.2.2 dX10_end_13
set_option maxHeartbeats 4000000 in
set_option maxRecDepth 100000 in
theorem c_putBytes_0 (l : Launch) (G : KG) (x0 : Nat) (tp : Nat) (rd : Nat) (nw : Nat) (sp : Nat) (im : Nat) (ir : Nat) (kp : Nat) (sl : Nat) (tk : Nat) (hn : Nat) (rc : Nat) (jn : Nat) (br : Nat) (sh : Nat) (f0 : Nat → Int32) (p0 : Int32) (sz : Nat) : Met l yX10_putBytes wgX10_putBytes ({ frames := 0, cells := 0, slots := 0, locals := 0 }) (preQ G [.ref x0, .int p0] sz [(x0, .inr (10, [.ref tp, .int 0, .ref rd, .ref nw, .ref sp, .ref im, .ref ir, .ref kp, .ref sl, .ref tk, .ref hn, .ref rc, .ref jn, .ref br, .ref sh])), (tp, .inl (G.2 1, 1600, .inl f0))]) (va_Qv (fun (u : (Nat → Int32)) => True) (fun u t => atQ G (va_A [(x0, .inr (10, [.ref tp, .int 0, .ref rd, .ref nw, .ref sp, .ref im, .ref ir, .ref kp, .ref sl, .ref tk, .ref hn, .ref rc, .ref jn, .ref br, .ref sh])), (tp, .inl (G.2 1, 1600, .inl f0))] sz) [(x0, .inr (10, [.ref tp, .int 4, .ref rd, .ref nw, .ref sp, .ref im, .ref ir, .ref kp, .ref sl, .ref tk, .ref hn, .ref rc, .ref jn, .ref br, .ref sh])), (tp, .inl (G.2 1, 1600, .inl u))] t) (va_A [(x0, .inr (10, [.ref tp, .int 0, .ref rd, .ref nw, .ref sp, .ref im, .ref ir, .ref kp, .ref sl, .ref tk, .ref hn, .ref rc, .ref jn, .ref br, .ref sh])), (tp, .inl (G.2 1, 1600, .inl f0))] sz)) 0 0 (va_A [(x0, .inr (10, [.ref tp, .int 0, .ref rd, .ref nw, .ref sp, .ref im, .ref ir, .ref kp, .ref sl, .ref tk, .ref hn, .ref rc, .ref jn, .ref br, .ref sh])), (tp, .inl (G.2 1, 1600, .inl f0))] sz) := by
  refine Met.ofW (cc := cX10_putBytes) (maxL := 3) (ret := none) (by decide) rfl ?_
  intro p e s m args below meth c s₁ B hml hv
  obtain ⟨rfl, hsz, hP, hKG, hD0⟩ := hv
  obtain ⟨hK, hAO⟩ := id hKG
  have hx := B.exec
  have hb := B.bytes
  have hr := B.returns
  have hts := atoms_spec (ws := wgX10_putBytes) B.pre
  have hw : ∀ w ∈ wG, w.before _ s = true := fun w h => hts w (List.mem_cons_of_mem _ h)
  have hown : s.vm.findClass RX10 = some m.cls := findClass_of_methodNamed B.named
  have hlocks := B.notSynchronized
  subst hsz
  have hD := hD0.self (sz := s.heap.size)
  generalize hAe : va_A [(x0, .inr (10, [.ref tp, .int 0, .ref rd, .ref nw, .ref sp, .ref im, .ref ir, .ref kp, .ref sl, .ref tk, .ref hn, .ref rc, .ref jn, .ref br, .ref sh])), (tp, .inl (G.2 1, 1600, .inl f0))] s.heap.size = A at hD ⊢
  have hA : ∀ q : Nat, s.heap.size ≤ q → A q := fun q h => by rw [← hAe]; exact Or.inr h
  have hS : va_S A s.heap s.heap [] := va_S.rf
  have hl := lv_entry ([.ref x0, .int p0]) (n := 3) (Nat.le_of_ble_eq_true rfl)
  rw [lg_entry_eq]
  generalize (lg_sl ([.ref x0, .int p0]) ++ List.replicate (3 - (lg_sl ([.ref x0, .int p0])).length) Slot.unset).toArray = ls at hl ⊢
  have hl : lv_has ls 3 [(0, .ref x0), (1, .int p0)] := hl
  refine lv_bipush (v := 24) hx hb dX10_putBytes_0 (by decide) ?_
  refine lv_istore_n (lv' := [(2, .int 24), (0, .ref x0), (1, .int p0)]) hx hb dX10_putBytes_2 rfl hl (by decide) rfl (fun ls hl => ?_)
  refine lv_iload_n hx hb dX10_putBytes_3 rfl (lv_at hl 0 rfl) ?_
  refine lv_if_lt (tgt := 46) hx hb dX10_putBytes_4 (by decide) (fun c1 => absurd c1 (by decide)) (fun c1 => ?_)
  refine lv_aload_n hx hb dX10_putBytes_7 rfl (lv_at hl 1 rfl) ?_
  refine va_get (D := G.1) (ci := 10) (v := .int 0) (C := RX10) (T := TX10) (N := 15) hx hb hw inGX10 hown hK hP 0 rfl rfl 1 (by decide) (hw _ kw_59) (fun _ h9 => h9) rfl dX10_putBytes_8 ?_
  refine lv_sipush (v := 1600) hx hb dX10_putBytes_11 (by decide) ?_
  refine lv_icmp_ge (tgt := 46) hx hb dX10_putBytes_14 (by decide) (fun c2 => absurd c2 (by decide)) (fun c2 => ?_)
  refine lv_aload_n hx hb dX10_putBytes_17 rfl (lv_at hl 1 rfl) ?_
  refine va_get (D := G.1) (ci := 10) (v := .ref tp) (C := RX10) (T := TX10) (N := 15) hx hb hw inGX10 hown hK hP 0 rfl rfl 0 (by decide) (hw _ kw_66) (fun _ h9 => h9) rfl dX10_putBytes_18 ?_
  refine lv_aload_n hx hb dX10_putBytes_21 rfl (lv_at hl 1 rfl) ?_
  refine va_get (D := G.1) (ci := 10) (v := .int 0) (C := RX10) (T := TX10) (N := 15) hx hb hw inGX10 hown hK hP 0 rfl rfl 1 (by decide) (hw _ kw_59) (fun _ h9 => h9) rfl dX10_putBytes_22 ?_
  refine lv_iload_n hx hb dX10_putBytes_25 rfl (lv_at hl 2 rfl) ?_
  refine lv_iload_n hx hb dX10_putBytes_26 rfl (lv_at hl 0 rfl) ?_
  refine lv_iushr hx hb dX10_putBytes_27 rfl ?_
  refine lv_topi (fun v3 ev3 => ?_)
  refine lv_i2b hx hb dX10_putBytes_28 rfl ?_
  refine lv_topi (fun v4 ev4 => ?_)
  refine va_bast hx hb hK hP hD hS 1 1 rfl rfl (vp_in_iff.mpr (by decide)) dX10_putBytes_29 (fun H locs hP hD hS => ?_)
  have hP : va_P G.1 vwCl [(x0, .inr (10, [.ref tp, .int 0, .ref rd, .ref nw, .ref sp, .ref im, .ref ir, .ref kp, .ref sl, .ref tk, .ref hn, .ref rc, .ref jn, .ref br, .ref sh])), (tp, .inl (G.2 1, 1600, .inl (upd f0 (0 : Int32).toNatClampNeg (vp_nar .byte v4))))] H := hP
  have hD : va_D A [(x0, .inr (10, [.ref tp, .int 0, .ref rd, .ref nw, .ref sp, .ref im, .ref ir, .ref kp, .ref sl, .ref tk, .ref hn, .ref rc, .ref jn, .ref br, .ref sh])), (tp, .inl (G.2 1, 1600, .inl (upd f0 (0 : Int32).toNatClampNeg (vp_nar .byte v4))))] := hD
  generalize (upd f0 (0 : Int32).toNatClampNeg (vp_nar .byte v4)) = f5 at hP hD
  refine lv_aload_n hx hb dX10_putBytes_30 rfl (lv_at hl 1 rfl) ?_
  refine lv_dup hx hb dX10_putBytes_31 rfl ?_
  refine va_get (D := G.1) (ci := 10) (v := .int 0) (C := RX10) (T := TX10) (N := 15) hx hb hw inGX10 hown hK hP 0 rfl rfl 1 (by decide) (hw _ kw_59) (fun _ h9 => h9) rfl dX10_putBytes_32 ?_
  refine lv_iconst (v := 1) hx hb dX10_putBytes_35 (by decide) ?_
  refine lv_iadd hx hb dX10_putBytes_36 ?_
  refine lv_cst (y := 1) (by decide) ?_
  refine va_put (D := G.1) (ci := 10) (v := .int 1) (ty := .int) (C := RX10) (T := TX10) (N := 15) hx hb hw inGX10 tyX10 tyX10_ok nmX10 hown hK hP hD hS 0 rfl rfl 1 (by decide) (hw _ kw_59) (fun _ h9 => h9) rfl (by decide +kernel) rfl rfl (Nat.le_of_ble_eq_true rfl) dX10_putBytes_37 (fun H locs hP hD hS => ?_)
  have hP : va_P G.1 vwCl [(x0, .inr (10, [.ref tp, .int 1, .ref rd, .ref nw, .ref sp, .ref im, .ref ir, .ref kp, .ref sl, .ref tk, .ref hn, .ref rc, .ref jn, .ref br, .ref sh])), (tp, .inl (G.2 1, 1600, .inl f5))] H := hP
  have hD : va_D A [(x0, .inr (10, [.ref tp, .int 1, .ref rd, .ref nw, .ref sp, .ref im, .ref ir, .ref kp, .ref sl, .ref tk, .ref hn, .ref rc, .ref jn, .ref br, .ref sh])), (tp, .inl (G.2 1, 1600, .inl f5))] := hD
  refine lv_iinc (v := 16) (lv' := [(2, .int 16), (0, .ref x0), (1, .int p0)]) hx hb dX10_putBytes_40 hl (k := 0) rfl (by decide) (by decide) rfl (fun ls hl => ?_)
  refine lv_goto (tgt := 3) hx hb dX10_putBytes_43 (by decide) ?_
  refine lv_iload_n hx hb dX10_putBytes_3 rfl (lv_at hl 0 rfl) ?_
  refine lv_if_lt (tgt := 46) hx hb dX10_putBytes_4 (by decide) (fun c6 => absurd c6 (by decide)) (fun c6 => ?_)
  refine lv_aload_n hx hb dX10_putBytes_7 rfl (lv_at hl 1 rfl) ?_
  refine va_get (D := G.1) (ci := 10) (v := .int 1) (C := RX10) (T := TX10) (N := 15) hx hb hw inGX10 hown hK hP 0 rfl rfl 1 (by decide) (hw _ kw_59) (fun _ h9 => h9) rfl dX10_putBytes_8 ?_
  refine lv_sipush (v := 1600) hx hb dX10_putBytes_11 (by decide) ?_
  refine lv_icmp_ge (tgt := 46) hx hb dX10_putBytes_14 (by decide) (fun c7 => absurd c7 (by decide)) (fun c7 => ?_)
  refine lv_aload_n hx hb dX10_putBytes_17 rfl (lv_at hl 1 rfl) ?_
  refine va_get (D := G.1) (ci := 10) (v := .ref tp) (C := RX10) (T := TX10) (N := 15) hx hb hw inGX10 hown hK hP 0 rfl rfl 0 (by decide) (hw _ kw_66) (fun _ h9 => h9) rfl dX10_putBytes_18 ?_
  refine lv_aload_n hx hb dX10_putBytes_21 rfl (lv_at hl 1 rfl) ?_
  refine va_get (D := G.1) (ci := 10) (v := .int 1) (C := RX10) (T := TX10) (N := 15) hx hb hw inGX10 hown hK hP 0 rfl rfl 1 (by decide) (hw _ kw_59) (fun _ h9 => h9) rfl dX10_putBytes_22 ?_
  refine lv_iload_n hx hb dX10_putBytes_25 rfl (lv_at hl 2 rfl) ?_
  refine lv_iload_n hx hb dX10_putBytes_26 rfl (lv_at hl 0 rfl) ?_
  refine lv_iushr hx hb dX10_putBytes_27 rfl ?_
  refine lv_topi (fun v8 ev8 => ?_)
  refine lv_i2b hx hb dX10_putBytes_28 rfl ?_
  refine lv_topi (fun v9 ev9 => ?_)
  refine va_bast hx hb hK hP hD hS 1 1 rfl rfl (vp_in_iff.mpr (by decide)) dX10_putBytes_29 (fun H locs hP hD hS => ?_)
  have hP : va_P G.1 vwCl [(x0, .inr (10, [.ref tp, .int 1, .ref rd, .ref nw, .ref sp, .ref im, .ref ir, .ref kp, .ref sl, .ref tk, .ref hn, .ref rc, .ref jn, .ref br, .ref sh])), (tp, .inl (G.2 1, 1600, .inl (upd f5 (1 : Int32).toNatClampNeg (vp_nar .byte v9))))] H := hP
  have hD : va_D A [(x0, .inr (10, [.ref tp, .int 1, .ref rd, .ref nw, .ref sp, .ref im, .ref ir, .ref kp, .ref sl, .ref tk, .ref hn, .ref rc, .ref jn, .ref br, .ref sh])), (tp, .inl (G.2 1, 1600, .inl (upd f5 (1 : Int32).toNatClampNeg (vp_nar .byte v9))))] := hD
  generalize (upd f5 (1 : Int32).toNatClampNeg (vp_nar .byte v9)) = f10 at hP hD
  refine lv_aload_n hx hb dX10_putBytes_30 rfl (lv_at hl 1 rfl) ?_
  refine lv_dup hx hb dX10_putBytes_31 rfl ?_
  refine va_get (D := G.1) (ci := 10) (v := .int 1) (C := RX10) (T := TX10) (N := 15) hx hb hw inGX10 hown hK hP 0 rfl rfl 1 (by decide) (hw _ kw_59) (fun _ h9 => h9) rfl dX10_putBytes_32 ?_
  refine lv_iconst (v := 1) hx hb dX10_putBytes_35 (by decide) ?_
  refine lv_iadd hx hb dX10_putBytes_36 ?_
  refine lv_cst (y := 2) (by decide) ?_
  refine va_put (D := G.1) (ci := 10) (v := .int 2) (ty := .int) (C := RX10) (T := TX10) (N := 15) hx hb hw inGX10 tyX10 tyX10_ok nmX10 hown hK hP hD hS 0 rfl rfl 1 (by decide) (hw _ kw_59) (fun _ h9 => h9) rfl (by decide +kernel) rfl rfl (Nat.le_of_ble_eq_true rfl) dX10_putBytes_37 (fun H locs hP hD hS => ?_)
  have hP : va_P G.1 vwCl [(x0, .inr (10, [.ref tp, .int 2, .ref rd, .ref nw, .ref sp, .ref im, .ref ir, .ref kp, .ref sl, .ref tk, .ref hn, .ref rc, .ref jn, .ref br, .ref sh])), (tp, .inl (G.2 1, 1600, .inl f10))] H := hP
  have hD : va_D A [(x0, .inr (10, [.ref tp, .int 2, .ref rd, .ref nw, .ref sp, .ref im, .ref ir, .ref kp, .ref sl, .ref tk, .ref hn, .ref rc, .ref jn, .ref br, .ref sh])), (tp, .inl (G.2 1, 1600, .inl f10))] := hD
  refine lv_iinc (v := 8) (lv' := [(2, .int 8), (0, .ref x0), (1, .int p0)]) hx hb dX10_putBytes_40 hl (k := 0) rfl (by decide) (by decide) rfl (fun ls hl => ?_)
  refine lv_goto (tgt := 3) hx hb dX10_putBytes_43 (by decide) ?_
  refine lv_iload_n hx hb dX10_putBytes_3 rfl (lv_at hl 0 rfl) ?_
  refine lv_if_lt (tgt := 46) hx hb dX10_putBytes_4 (by decide) (fun c11 => absurd c11 (by decide)) (fun c11 => ?_)
  refine lv_aload_n hx hb dX10_putBytes_7 rfl (lv_at hl 1 rfl) ?_
  refine va_get (D := G.1) (ci := 10) (v := .int 2) (C := RX10) (T := TX10) (N := 15) hx hb hw inGX10 hown hK hP 0 rfl rfl 1 (by decide) (hw _ kw_59) (fun _ h9 => h9) rfl dX10_putBytes_8 ?_
  refine lv_sipush (v := 1600) hx hb dX10_putBytes_11 (by decide) ?_
  refine lv_icmp_ge (tgt := 46) hx hb dX10_putBytes_14 (by decide) (fun c12 => absurd c12 (by decide)) (fun c12 => ?_)
  refine lv_aload_n hx hb dX10_putBytes_17 rfl (lv_at hl 1 rfl) ?_
  refine va_get (D := G.1) (ci := 10) (v := .ref tp) (C := RX10) (T := TX10) (N := 15) hx hb hw inGX10 hown hK hP 0 rfl rfl 0 (by decide) (hw _ kw_66) (fun _ h9 => h9) rfl dX10_putBytes_18 ?_
  refine lv_aload_n hx hb dX10_putBytes_21 rfl (lv_at hl 1 rfl) ?_
  refine va_get (D := G.1) (ci := 10) (v := .int 2) (C := RX10) (T := TX10) (N := 15) hx hb hw inGX10 hown hK hP 0 rfl rfl 1 (by decide) (hw _ kw_59) (fun _ h9 => h9) rfl dX10_putBytes_22 ?_
  refine lv_iload_n hx hb dX10_putBytes_25 rfl (lv_at hl 2 rfl) ?_
  refine lv_iload_n hx hb dX10_putBytes_26 rfl (lv_at hl 0 rfl) ?_
  refine lv_iushr hx hb dX10_putBytes_27 rfl ?_
  refine lv_topi (fun v13 ev13 => ?_)
  refine lv_i2b hx hb dX10_putBytes_28 rfl ?_
  refine lv_topi (fun v14 ev14 => ?_)
  refine va_bast hx hb hK hP hD hS 1 1 rfl rfl (vp_in_iff.mpr (by decide)) dX10_putBytes_29 (fun H locs hP hD hS => ?_)
  have hP : va_P G.1 vwCl [(x0, .inr (10, [.ref tp, .int 2, .ref rd, .ref nw, .ref sp, .ref im, .ref ir, .ref kp, .ref sl, .ref tk, .ref hn, .ref rc, .ref jn, .ref br, .ref sh])), (tp, .inl (G.2 1, 1600, .inl (upd f10 (2 : Int32).toNatClampNeg (vp_nar .byte v14))))] H := hP
  have hD : va_D A [(x0, .inr (10, [.ref tp, .int 2, .ref rd, .ref nw, .ref sp, .ref im, .ref ir, .ref kp, .ref sl, .ref tk, .ref hn, .ref rc, .ref jn, .ref br, .ref sh])), (tp, .inl (G.2 1, 1600, .inl (upd f10 (2 : Int32).toNatClampNeg (vp_nar .byte v14))))] := hD
  generalize (upd f10 (2 : Int32).toNatClampNeg (vp_nar .byte v14)) = f15 at hP hD
  refine lv_aload_n hx hb dX10_putBytes_30 rfl (lv_at hl 1 rfl) ?_
  refine lv_dup hx hb dX10_putBytes_31 rfl ?_
  refine va_get (D := G.1) (ci := 10) (v := .int 2) (C := RX10) (T := TX10) (N := 15) hx hb hw inGX10 hown hK hP 0 rfl rfl 1 (by decide) (hw _ kw_59) (fun _ h9 => h9) rfl dX10_putBytes_32 ?_
  refine lv_iconst (v := 1) hx hb dX10_putBytes_35 (by decide) ?_
  refine lv_iadd hx hb dX10_putBytes_36 ?_
  refine lv_cst (y := 3) (by decide) ?_
  refine va_put (D := G.1) (ci := 10) (v := .int 3) (ty := .int) (C := RX10) (T := TX10) (N := 15) hx hb hw inGX10 tyX10 tyX10_ok nmX10 hown hK hP hD hS 0 rfl rfl 1 (by decide) (hw _ kw_59) (fun _ h9 => h9) rfl (by decide +kernel) rfl rfl (Nat.le_of_ble_eq_true rfl) dX10_putBytes_37 (fun H locs hP hD hS => ?_)
  have hP : va_P G.1 vwCl [(x0, .inr (10, [.ref tp, .int 3, .ref rd, .ref nw, .ref sp, .ref im, .ref ir, .ref kp, .ref sl, .ref tk, .ref hn, .ref rc, .ref jn, .ref br, .ref sh])), (tp, .inl (G.2 1, 1600, .inl f15))] H := hP
  have hD : va_D A [(x0, .inr (10, [.ref tp, .int 3, .ref rd, .ref nw, .ref sp, .ref im, .ref ir, .ref kp, .ref sl, .ref tk, .ref hn, .ref rc, .ref jn, .ref br, .ref sh])), (tp, .inl (G.2 1, 1600, .inl f15))] := hD
  refine lv_iinc (v := 0) (lv' := [(2, .int 0), (0, .ref x0), (1, .int p0)]) hx hb dX10_putBytes_40 hl (k := 0) rfl (by decide) (by decide) rfl (fun ls hl => ?_)
  refine lv_goto (tgt := 3) hx hb dX10_putBytes_43 (by decide) ?_
  refine lv_iload_n hx hb dX10_putBytes_3 rfl (lv_at hl 0 rfl) ?_
  refine lv_if_lt (tgt := 46) hx hb dX10_putBytes_4 (by decide) (fun c16 => absurd c16 (by decide)) (fun c16 => ?_)
  refine lv_aload_n hx hb dX10_putBytes_7 rfl (lv_at hl 1 rfl) ?_
  refine va_get (D := G.1) (ci := 10) (v := .int 3) (C := RX10) (T := TX10) (N := 15) hx hb hw inGX10 hown hK hP 0 rfl rfl 1 (by decide) (hw _ kw_59) (fun _ h9 => h9) rfl dX10_putBytes_8 ?_
  refine lv_sipush (v := 1600) hx hb dX10_putBytes_11 (by decide) ?_
  refine lv_icmp_ge (tgt := 46) hx hb dX10_putBytes_14 (by decide) (fun c17 => absurd c17 (by decide)) (fun c17 => ?_)
  refine lv_aload_n hx hb dX10_putBytes_17 rfl (lv_at hl 1 rfl) ?_
  refine va_get (D := G.1) (ci := 10) (v := .ref tp) (C := RX10) (T := TX10) (N := 15) hx hb hw inGX10 hown hK hP 0 rfl rfl 0 (by decide) (hw _ kw_66) (fun _ h9 => h9) rfl dX10_putBytes_18 ?_
  refine lv_aload_n hx hb dX10_putBytes_21 rfl (lv_at hl 1 rfl) ?_
  refine va_get (D := G.1) (ci := 10) (v := .int 3) (C := RX10) (T := TX10) (N := 15) hx hb hw inGX10 hown hK hP 0 rfl rfl 1 (by decide) (hw _ kw_59) (fun _ h9 => h9) rfl dX10_putBytes_22 ?_
  refine lv_iload_n hx hb dX10_putBytes_25 rfl (lv_at hl 2 rfl) ?_
  refine lv_iload_n hx hb dX10_putBytes_26 rfl (lv_at hl 0 rfl) ?_
  refine lv_iushr hx hb dX10_putBytes_27 rfl ?_
  refine lv_topi (fun v18 ev18 => ?_)
  refine lv_i2b hx hb dX10_putBytes_28 rfl ?_
  refine lv_topi (fun v19 ev19 => ?_)
  refine va_bast hx hb hK hP hD hS 1 1 rfl rfl (vp_in_iff.mpr (by decide)) dX10_putBytes_29 (fun H locs hP hD hS => ?_)
  have hP : va_P G.1 vwCl [(x0, .inr (10, [.ref tp, .int 3, .ref rd, .ref nw, .ref sp, .ref im, .ref ir, .ref kp, .ref sl, .ref tk, .ref hn, .ref rc, .ref jn, .ref br, .ref sh])), (tp, .inl (G.2 1, 1600, .inl (upd f15 (3 : Int32).toNatClampNeg (vp_nar .byte v19))))] H := hP
  have hD : va_D A [(x0, .inr (10, [.ref tp, .int 3, .ref rd, .ref nw, .ref sp, .ref im, .ref ir, .ref kp, .ref sl, .ref tk, .ref hn, .ref rc, .ref jn, .ref br, .ref sh])), (tp, .inl (G.2 1, 1600, .inl (upd f15 (3 : Int32).toNatClampNeg (vp_nar .byte v19))))] := hD
  generalize (upd f15 (3 : Int32).toNatClampNeg (vp_nar .byte v19)) = f20 at hP hD
  refine lv_aload_n hx hb dX10_putBytes_30 rfl (lv_at hl 1 rfl) ?_
  refine lv_dup hx hb dX10_putBytes_31 rfl ?_
  refine va_get (D := G.1) (ci := 10) (v := .int 3) (C := RX10) (T := TX10) (N := 15) hx hb hw inGX10 hown hK hP 0 rfl rfl 1 (by decide) (hw _ kw_59) (fun _ h9 => h9) rfl dX10_putBytes_32 ?_
  refine lv_iconst (v := 1) hx hb dX10_putBytes_35 (by decide) ?_
  refine lv_iadd hx hb dX10_putBytes_36 ?_
  refine lv_cst (y := 4) (by decide) ?_
  refine va_put (D := G.1) (ci := 10) (v := .int 4) (ty := .int) (C := RX10) (T := TX10) (N := 15) hx hb hw inGX10 tyX10 tyX10_ok nmX10 hown hK hP hD hS 0 rfl rfl 1 (by decide) (hw _ kw_59) (fun _ h9 => h9) rfl (by decide +kernel) rfl rfl (Nat.le_of_ble_eq_true rfl) dX10_putBytes_37 (fun H locs hP hD hS => ?_)
  have hP : va_P G.1 vwCl [(x0, .inr (10, [.ref tp, .int 4, .ref rd, .ref nw, .ref sp, .ref im, .ref ir, .ref kp, .ref sl, .ref tk, .ref hn, .ref rc, .ref jn, .ref br, .ref sh])), (tp, .inl (G.2 1, 1600, .inl f20))] H := hP
  have hD : va_D A [(x0, .inr (10, [.ref tp, .int 4, .ref rd, .ref nw, .ref sp, .ref im, .ref ir, .ref kp, .ref sl, .ref tk, .ref hn, .ref rc, .ref jn, .ref br, .ref sh])), (tp, .inl (G.2 1, 1600, .inl f20))] := hD
  refine lv_iinc (v := (-8)) (lv' := [(2, .int (-8)), (0, .ref x0), (1, .int p0)]) hx hb dX10_putBytes_40 hl (k := 0) rfl (by decide) (by decide) rfl (fun ls hl => ?_)
  refine lv_goto (tgt := 3) hx hb dX10_putBytes_43 (by decide) ?_
  refine lv_iload_n hx hb dX10_putBytes_3 rfl (lv_at hl 0 rfl) ?_
  refine lv_if_lt (tgt := 46) hx hb dX10_putBytes_4 (by decide) (fun c21 => ?_) (fun c21 => absurd (by decide) c21)
  exact W.vret hx hb hr (fun t ht hW => ⟨⟨f20, rfl, trivial, ⟨by rw [ht]; exact hP.sub [0, 1] rfl, hD.sub [0, 1] (by decide +kernel) rfl⟩⟩, hS.F ht⟩) hS.2.2 dX10_putBytes_46
set_option maxHeartbeats 4000000 in
set_option maxRecDepth 100000 in
theorem c_putBytes_4 (l : Launch) (G : KG) (x0 : Nat) (tp : Nat) (rd : Nat) (nw : Nat) (sp : Nat) (im : Nat) (ir : Nat) (kp : Nat) (sl : Nat) (tk : Nat) (hn : Nat) (rc : Nat) (jn : Nat) (br : Nat) (sh : Nat) (f0 : Nat → Int32) (p0 : Int32) (sz : Nat) : Met l yX10_putBytes wgX10_putBytes ({ frames := 0, cells := 0, slots := 0, locals := 0 }) (preQ G [.ref x0, .int p0] sz [(x0, .inr (10, [.ref tp, .int 4, .ref rd, .ref nw, .ref sp, .ref im, .ref ir, .ref kp, .ref sl, .ref tk, .ref hn, .ref rc, .ref jn, .ref br, .ref sh])), (tp, .inl (G.2 1, 1600, .inl f0))]) (va_Qv (fun (u : (Nat → Int32)) => True) (fun u t => atQ G (va_A [(x0, .inr (10, [.ref tp, .int 4, .ref rd, .ref nw, .ref sp, .ref im, .ref ir, .ref kp, .ref sl, .ref tk, .ref hn, .ref rc, .ref jn, .ref br, .ref sh])), (tp, .inl (G.2 1, 1600, .inl f0))] sz) [(x0, .inr (10, [.ref tp, .int 8, .ref rd, .ref nw, .ref sp, .ref im, .ref ir, .ref kp, .ref sl, .ref tk, .ref hn, .ref rc, .ref jn, .ref br, .ref sh])), (tp, .inl (G.2 1, 1600, .inl u))] t) (va_A [(x0, .inr (10, [.ref tp, .int 4, .ref rd, .ref nw, .ref sp, .ref im, .ref ir, .ref kp, .ref sl, .ref tk, .ref hn, .ref rc, .ref jn, .ref br, .ref sh])), (tp, .inl (G.2 1, 1600, .inl f0))] sz)) 0 0 (va_A [(x0, .inr (10, [.ref tp, .int 4, .ref rd, .ref nw, .ref sp, .ref im, .ref ir, .ref kp, .ref sl, .ref tk, .ref hn, .ref rc, .ref jn, .ref br, .ref sh])), (tp, .inl (G.2 1, 1600, .inl f0))] sz) := by
  refine Met.ofW (cc := cX10_putBytes) (maxL := 3) (ret := none) (by decide) rfl ?_
  intro p e s m args below meth c s₁ B hml hv
  obtain ⟨rfl, hsz, hP, hKG, hD0⟩ := hv
  obtain ⟨hK, hAO⟩ := id hKG
  have hx := B.exec
  have hb := B.bytes
  have hr := B.returns
  have hts := atoms_spec (ws := wgX10_putBytes) B.pre
  have hw : ∀ w ∈ wG, w.before _ s = true := fun w h => hts w (List.mem_cons_of_mem _ h)
  have hown : s.vm.findClass RX10 = some m.cls := findClass_of_methodNamed B.named
  have hlocks := B.notSynchronized
  subst hsz
  have hD := hD0.self (sz := s.heap.size)
  generalize hAe : va_A [(x0, .inr (10, [.ref tp, .int 4, .ref rd, .ref nw, .ref sp, .ref im, .ref ir, .ref kp, .ref sl, .ref tk, .ref hn, .ref rc, .ref jn, .ref br, .ref sh])), (tp, .inl (G.2 1, 1600, .inl f0))] s.heap.size = A at hD ⊢
  have hA : ∀ q : Nat, s.heap.size ≤ q → A q := fun q h => by rw [← hAe]; exact Or.inr h
  have hS : va_S A s.heap s.heap [] := va_S.rf
  have hl := lv_entry ([.ref x0, .int p0]) (n := 3) (Nat.le_of_ble_eq_true rfl)
  rw [lg_entry_eq]
  generalize (lg_sl ([.ref x0, .int p0]) ++ List.replicate (3 - (lg_sl ([.ref x0, .int p0])).length) Slot.unset).toArray = ls at hl ⊢
  have hl : lv_has ls 3 [(0, .ref x0), (1, .int p0)] := hl
  refine lv_bipush (v := 24) hx hb dX10_putBytes_0 (by decide) ?_
  refine lv_istore_n (lv' := [(2, .int 24), (0, .ref x0), (1, .int p0)]) hx hb dX10_putBytes_2 rfl hl (by decide) rfl (fun ls hl => ?_)
  refine lv_iload_n hx hb dX10_putBytes_3 rfl (lv_at hl 0 rfl) ?_
  refine lv_if_lt (tgt := 46) hx hb dX10_putBytes_4 (by decide) (fun c1 => absurd c1 (by decide)) (fun c1 => ?_)
  refine lv_aload_n hx hb dX10_putBytes_7 rfl (lv_at hl 1 rfl) ?_
  refine va_get (D := G.1) (ci := 10) (v := .int 4) (C := RX10) (T := TX10) (N := 15) hx hb hw inGX10 hown hK hP 0 rfl rfl 1 (by decide) (hw _ kw_59) (fun _ h9 => h9) rfl dX10_putBytes_8 ?_
  refine lv_sipush (v := 1600) hx hb dX10_putBytes_11 (by decide) ?_
  refine lv_icmp_ge (tgt := 46) hx hb dX10_putBytes_14 (by decide) (fun c2 => absurd c2 (by decide)) (fun c2 => ?_)
  refine lv_aload_n hx hb dX10_putBytes_17 rfl (lv_at hl 1 rfl) ?_
  refine va_get (D := G.1) (ci := 10) (v := .ref tp) (C := RX10) (T := TX10) (N := 15) hx hb hw inGX10 hown hK hP 0 rfl rfl 0 (by decide) (hw _ kw_66) (fun _ h9 => h9) rfl dX10_putBytes_18 ?_
  refine lv_aload_n hx hb dX10_putBytes_21 rfl (lv_at hl 1 rfl) ?_
  refine va_get (D := G.1) (ci := 10) (v := .int 4) (C := RX10) (T := TX10) (N := 15) hx hb hw inGX10 hown hK hP 0 rfl rfl 1 (by decide) (hw _ kw_59) (fun _ h9 => h9) rfl dX10_putBytes_22 ?_
  refine lv_iload_n hx hb dX10_putBytes_25 rfl (lv_at hl 2 rfl) ?_
  refine lv_iload_n hx hb dX10_putBytes_26 rfl (lv_at hl 0 rfl) ?_
  refine lv_iushr hx hb dX10_putBytes_27 rfl ?_
  refine lv_topi (fun v3 ev3 => ?_)
  refine lv_i2b hx hb dX10_putBytes_28 rfl ?_
  refine lv_topi (fun v4 ev4 => ?_)
  refine va_bast hx hb hK hP hD hS 1 1 rfl rfl (vp_in_iff.mpr (by decide)) dX10_putBytes_29 (fun H locs hP hD hS => ?_)
  have hP : va_P G.1 vwCl [(x0, .inr (10, [.ref tp, .int 4, .ref rd, .ref nw, .ref sp, .ref im, .ref ir, .ref kp, .ref sl, .ref tk, .ref hn, .ref rc, .ref jn, .ref br, .ref sh])), (tp, .inl (G.2 1, 1600, .inl (upd f0 (4 : Int32).toNatClampNeg (vp_nar .byte v4))))] H := hP
  have hD : va_D A [(x0, .inr (10, [.ref tp, .int 4, .ref rd, .ref nw, .ref sp, .ref im, .ref ir, .ref kp, .ref sl, .ref tk, .ref hn, .ref rc, .ref jn, .ref br, .ref sh])), (tp, .inl (G.2 1, 1600, .inl (upd f0 (4 : Int32).toNatClampNeg (vp_nar .byte v4))))] := hD
  generalize (upd f0 (4 : Int32).toNatClampNeg (vp_nar .byte v4)) = f5 at hP hD
  refine lv_aload_n hx hb dX10_putBytes_30 rfl (lv_at hl 1 rfl) ?_
  refine lv_dup hx hb dX10_putBytes_31 rfl ?_
  refine va_get (D := G.1) (ci := 10) (v := .int 4) (C := RX10) (T := TX10) (N := 15) hx hb hw inGX10 hown hK hP 0 rfl rfl 1 (by decide) (hw _ kw_59) (fun _ h9 => h9) rfl dX10_putBytes_32 ?_
  refine lv_iconst (v := 1) hx hb dX10_putBytes_35 (by decide) ?_
  refine lv_iadd hx hb dX10_putBytes_36 ?_
  refine lv_cst (y := 5) (by decide) ?_
  refine va_put (D := G.1) (ci := 10) (v := .int 5) (ty := .int) (C := RX10) (T := TX10) (N := 15) hx hb hw inGX10 tyX10 tyX10_ok nmX10 hown hK hP hD hS 0 rfl rfl 1 (by decide) (hw _ kw_59) (fun _ h9 => h9) rfl (by decide +kernel) rfl rfl (Nat.le_of_ble_eq_true rfl) dX10_putBytes_37 (fun H locs hP hD hS => ?_)
  have hP : va_P G.1 vwCl [(x0, .inr (10, [.ref tp, .int 5, .ref rd, .ref nw, .ref sp, .ref im, .ref ir, .ref kp, .ref sl, .ref tk, .ref hn, .ref rc, .ref jn, .ref br, .ref sh])), (tp, .inl (G.2 1, 1600, .inl f5))] H := hP
  have hD : va_D A [(x0, .inr (10, [.ref tp, .int 5, .ref rd, .ref nw, .ref sp, .ref im, .ref ir, .ref kp, .ref sl, .ref tk, .ref hn, .ref rc, .ref jn, .ref br, .ref sh])), (tp, .inl (G.2 1, 1600, .inl f5))] := hD
  refine lv_iinc (v := 16) (lv' := [(2, .int 16), (0, .ref x0), (1, .int p0)]) hx hb dX10_putBytes_40 hl (k := 0) rfl (by decide) (by decide) rfl (fun ls hl => ?_)
  refine lv_goto (tgt := 3) hx hb dX10_putBytes_43 (by decide) ?_
  refine lv_iload_n hx hb dX10_putBytes_3 rfl (lv_at hl 0 rfl) ?_
  refine lv_if_lt (tgt := 46) hx hb dX10_putBytes_4 (by decide) (fun c6 => absurd c6 (by decide)) (fun c6 => ?_)
  refine lv_aload_n hx hb dX10_putBytes_7 rfl (lv_at hl 1 rfl) ?_
  refine va_get (D := G.1) (ci := 10) (v := .int 5) (C := RX10) (T := TX10) (N := 15) hx hb hw inGX10 hown hK hP 0 rfl rfl 1 (by decide) (hw _ kw_59) (fun _ h9 => h9) rfl dX10_putBytes_8 ?_
  refine lv_sipush (v := 1600) hx hb dX10_putBytes_11 (by decide) ?_
  refine lv_icmp_ge (tgt := 46) hx hb dX10_putBytes_14 (by decide) (fun c7 => absurd c7 (by decide)) (fun c7 => ?_)
  refine lv_aload_n hx hb dX10_putBytes_17 rfl (lv_at hl 1 rfl) ?_
  refine va_get (D := G.1) (ci := 10) (v := .ref tp) (C := RX10) (T := TX10) (N := 15) hx hb hw inGX10 hown hK hP 0 rfl rfl 0 (by decide) (hw _ kw_66) (fun _ h9 => h9) rfl dX10_putBytes_18 ?_
  refine lv_aload_n hx hb dX10_putBytes_21 rfl (lv_at hl 1 rfl) ?_
  refine va_get (D := G.1) (ci := 10) (v := .int 5) (C := RX10) (T := TX10) (N := 15) hx hb hw inGX10 hown hK hP 0 rfl rfl 1 (by decide) (hw _ kw_59) (fun _ h9 => h9) rfl dX10_putBytes_22 ?_
  refine lv_iload_n hx hb dX10_putBytes_25 rfl (lv_at hl 2 rfl) ?_
  refine lv_iload_n hx hb dX10_putBytes_26 rfl (lv_at hl 0 rfl) ?_
  refine lv_iushr hx hb dX10_putBytes_27 rfl ?_
  refine lv_topi (fun v8 ev8 => ?_)
  refine lv_i2b hx hb dX10_putBytes_28 rfl ?_
  refine lv_topi (fun v9 ev9 => ?_)
  refine va_bast hx hb hK hP hD hS 1 1 rfl rfl (vp_in_iff.mpr (by decide)) dX10_putBytes_29 (fun H locs hP hD hS => ?_)
  have hP : va_P G.1 vwCl [(x0, .inr (10, [.ref tp, .int 5, .ref rd, .ref nw, .ref sp, .ref im, .ref ir, .ref kp, .ref sl, .ref tk, .ref hn, .ref rc, .ref jn, .ref br, .ref sh])), (tp, .inl (G.2 1, 1600, .inl (upd f5 (5 : Int32).toNatClampNeg (vp_nar .byte v9))))] H := hP
  have hD : va_D A [(x0, .inr (10, [.ref tp, .int 5, .ref rd, .ref nw, .ref sp, .ref im, .ref ir, .ref kp, .ref sl, .ref tk, .ref hn, .ref rc, .ref jn, .ref br, .ref sh])), (tp, .inl (G.2 1, 1600, .inl (upd f5 (5 : Int32).toNatClampNeg (vp_nar .byte v9))))] := hD
  generalize (upd f5 (5 : Int32).toNatClampNeg (vp_nar .byte v9)) = f10 at hP hD
  refine lv_aload_n hx hb dX10_putBytes_30 rfl (lv_at hl 1 rfl) ?_
  refine lv_dup hx hb dX10_putBytes_31 rfl ?_
  refine va_get (D := G.1) (ci := 10) (v := .int 5) (C := RX10) (T := TX10) (N := 15) hx hb hw inGX10 hown hK hP 0 rfl rfl 1 (by decide) (hw _ kw_59) (fun _ h9 => h9) rfl dX10_putBytes_32 ?_
  refine lv_iconst (v := 1) hx hb dX10_putBytes_35 (by decide) ?_
  refine lv_iadd hx hb dX10_putBytes_36 ?_
  refine lv_cst (y := 6) (by decide) ?_
  refine va_put (D := G.1) (ci := 10) (v := .int 6) (ty := .int) (C := RX10) (T := TX10) (N := 15) hx hb hw inGX10 tyX10 tyX10_ok nmX10 hown hK hP hD hS 0 rfl rfl 1 (by decide) (hw _ kw_59) (fun _ h9 => h9) rfl (by decide +kernel) rfl rfl (Nat.le_of_ble_eq_true rfl) dX10_putBytes_37 (fun H locs hP hD hS => ?_)
  have hP : va_P G.1 vwCl [(x0, .inr (10, [.ref tp, .int 6, .ref rd, .ref nw, .ref sp, .ref im, .ref ir, .ref kp, .ref sl, .ref tk, .ref hn, .ref rc, .ref jn, .ref br, .ref sh])), (tp, .inl (G.2 1, 1600, .inl f10))] H := hP
  have hD : va_D A [(x0, .inr (10, [.ref tp, .int 6, .ref rd, .ref nw, .ref sp, .ref im, .ref ir, .ref kp, .ref sl, .ref tk, .ref hn, .ref rc, .ref jn, .ref br, .ref sh])), (tp, .inl (G.2 1, 1600, .inl f10))] := hD
  refine lv_iinc (v := 8) (lv' := [(2, .int 8), (0, .ref x0), (1, .int p0)]) hx hb dX10_putBytes_40 hl (k := 0) rfl (by decide) (by decide) rfl (fun ls hl => ?_)
  refine lv_goto (tgt := 3) hx hb dX10_putBytes_43 (by decide) ?_
  refine lv_iload_n hx hb dX10_putBytes_3 rfl (lv_at hl 0 rfl) ?_
  refine lv_if_lt (tgt := 46) hx hb dX10_putBytes_4 (by decide) (fun c11 => absurd c11 (by decide)) (fun c11 => ?_)
  refine lv_aload_n hx hb dX10_putBytes_7 rfl (lv_at hl 1 rfl) ?_
  refine va_get (D := G.1) (ci := 10) (v := .int 6) (C := RX10) (T := TX10) (N := 15) hx hb hw inGX10 hown hK hP 0 rfl rfl 1 (by decide) (hw _ kw_59) (fun _ h9 => h9) rfl dX10_putBytes_8 ?_
  refine lv_sipush (v := 1600) hx hb dX10_putBytes_11 (by decide) ?_
  refine lv_icmp_ge (tgt := 46) hx hb dX10_putBytes_14 (by decide) (fun c12 => absurd c12 (by decide)) (fun c12 => ?_)
  refine lv_aload_n hx hb dX10_putBytes_17 rfl (lv_at hl 1 rfl) ?_
  refine va_get (D := G.1) (ci := 10) (v := .ref tp) (C := RX10) (T := TX10) (N := 15) hx hb hw inGX10 hown hK hP 0 rfl rfl 0 (by decide) (hw _ kw_66) (fun _ h9 => h9) rfl dX10_putBytes_18 ?_
  refine lv_aload_n hx hb dX10_putBytes_21 rfl (lv_at hl 1 rfl) ?_
  refine va_get (D := G.1) (ci := 10) (v := .int 6) (C := RX10) (T := TX10) (N := 15) hx hb hw inGX10 hown hK hP 0 rfl rfl 1 (by decide) (hw _ kw_59) (fun _ h9 => h9) rfl dX10_putBytes_22 ?_
  refine lv_iload_n hx hb dX10_putBytes_25 rfl (lv_at hl 2 rfl) ?_
  refine lv_iload_n hx hb dX10_putBytes_26 rfl (lv_at hl 0 rfl) ?_
  refine lv_iushr hx hb dX10_putBytes_27 rfl ?_
  refine lv_topi (fun v13 ev13 => ?_)
  refine lv_i2b hx hb dX10_putBytes_28 rfl ?_
  refine lv_topi (fun v14 ev14 => ?_)
  refine va_bast hx hb hK hP hD hS 1 1 rfl rfl (vp_in_iff.mpr (by decide)) dX10_putBytes_29 (fun H locs hP hD hS => ?_)
  have hP : va_P G.1 vwCl [(x0, .inr (10, [.ref tp, .int 6, .ref rd, .ref nw, .ref sp, .ref im, .ref ir, .ref kp, .ref sl, .ref tk, .ref hn, .ref rc, .ref jn, .ref br, .ref sh])), (tp, .inl (G.2 1, 1600, .inl (upd f10 (6 : Int32).toNatClampNeg (vp_nar .byte v14))))] H := hP
  have hD : va_D A [(x0, .inr (10, [.ref tp, .int 6, .ref rd, .ref nw, .ref sp, .ref im, .ref ir, .ref kp, .ref sl, .ref tk, .ref hn, .ref rc, .ref jn, .ref br, .ref sh])), (tp, .inl (G.2 1, 1600, .inl (upd f10 (6 : Int32).toNatClampNeg (vp_nar .byte v14))))] := hD
  generalize (upd f10 (6 : Int32).toNatClampNeg (vp_nar .byte v14)) = f15 at hP hD
  refine lv_aload_n hx hb dX10_putBytes_30 rfl (lv_at hl 1 rfl) ?_
  refine lv_dup hx hb dX10_putBytes_31 rfl ?_
  refine va_get (D := G.1) (ci := 10) (v := .int 6) (C := RX10) (T := TX10) (N := 15) hx hb hw inGX10 hown hK hP 0 rfl rfl 1 (by decide) (hw _ kw_59) (fun _ h9 => h9) rfl dX10_putBytes_32 ?_
  refine lv_iconst (v := 1) hx hb dX10_putBytes_35 (by decide) ?_
  refine lv_iadd hx hb dX10_putBytes_36 ?_
  refine lv_cst (y := 7) (by decide) ?_
  refine va_put (D := G.1) (ci := 10) (v := .int 7) (ty := .int) (C := RX10) (T := TX10) (N := 15) hx hb hw inGX10 tyX10 tyX10_ok nmX10 hown hK hP hD hS 0 rfl rfl 1 (by decide) (hw _ kw_59) (fun _ h9 => h9) rfl (by decide +kernel) rfl rfl (Nat.le_of_ble_eq_true rfl) dX10_putBytes_37 (fun H locs hP hD hS => ?_)
  have hP : va_P G.1 vwCl [(x0, .inr (10, [.ref tp, .int 7, .ref rd, .ref nw, .ref sp, .ref im, .ref ir, .ref kp, .ref sl, .ref tk, .ref hn, .ref rc, .ref jn, .ref br, .ref sh])), (tp, .inl (G.2 1, 1600, .inl f15))] H := hP
  have hD : va_D A [(x0, .inr (10, [.ref tp, .int 7, .ref rd, .ref nw, .ref sp, .ref im, .ref ir, .ref kp, .ref sl, .ref tk, .ref hn, .ref rc, .ref jn, .ref br, .ref sh])), (tp, .inl (G.2 1, 1600, .inl f15))] := hD
  refine lv_iinc (v := 0) (lv' := [(2, .int 0), (0, .ref x0), (1, .int p0)]) hx hb dX10_putBytes_40 hl (k := 0) rfl (by decide) (by decide) rfl (fun ls hl => ?_)
  refine lv_goto (tgt := 3) hx hb dX10_putBytes_43 (by decide) ?_
  refine lv_iload_n hx hb dX10_putBytes_3 rfl (lv_at hl 0 rfl) ?_
  refine lv_if_lt (tgt := 46) hx hb dX10_putBytes_4 (by decide) (fun c16 => absurd c16 (by decide)) (fun c16 => ?_)
  refine lv_aload_n hx hb dX10_putBytes_7 rfl (lv_at hl 1 rfl) ?_
  refine va_get (D := G.1) (ci := 10) (v := .int 7) (C := RX10) (T := TX10) (N := 15) hx hb hw inGX10 hown hK hP 0 rfl rfl 1 (by decide) (hw _ kw_59) (fun _ h9 => h9) rfl dX10_putBytes_8 ?_
  refine lv_sipush (v := 1600) hx hb dX10_putBytes_11 (by decide) ?_
  refine lv_icmp_ge (tgt := 46) hx hb dX10_putBytes_14 (by decide) (fun c17 => absurd c17 (by decide)) (fun c17 => ?_)
  refine lv_aload_n hx hb dX10_putBytes_17 rfl (lv_at hl 1 rfl) ?_
  refine va_get (D := G.1) (ci := 10) (v := .ref tp) (C := RX10) (T := TX10) (N := 15) hx hb hw inGX10 hown hK hP 0 rfl rfl 0 (by decide) (hw _ kw_66) (fun _ h9 => h9) rfl dX10_putBytes_18 ?_
  refine lv_aload_n hx hb dX10_putBytes_21 rfl (lv_at hl 1 rfl) ?_
  refine va_get (D := G.1) (ci := 10) (v := .int 7) (C := RX10) (T := TX10) (N := 15) hx hb hw inGX10 hown hK hP 0 rfl rfl 1 (by decide) (hw _ kw_59) (fun _ h9 => h9) rfl dX10_putBytes_22 ?_
  refine lv_iload_n hx hb dX10_putBytes_25 rfl (lv_at hl 2 rfl) ?_
  refine lv_iload_n hx hb dX10_putBytes_26 rfl (lv_at hl 0 rfl) ?_
  refine lv_iushr hx hb dX10_putBytes_27 rfl ?_
  refine lv_topi (fun v18 ev18 => ?_)
  refine lv_i2b hx hb dX10_putBytes_28 rfl ?_
  refine lv_topi (fun v19 ev19 => ?_)
  refine va_bast hx hb hK hP hD hS 1 1 rfl rfl (vp_in_iff.mpr (by decide)) dX10_putBytes_29 (fun H locs hP hD hS => ?_)
  have hP : va_P G.1 vwCl [(x0, .inr (10, [.ref tp, .int 7, .ref rd, .ref nw, .ref sp, .ref im, .ref ir, .ref kp, .ref sl, .ref tk, .ref hn, .ref rc, .ref jn, .ref br, .ref sh])), (tp, .inl (G.2 1, 1600, .inl (upd f15 (7 : Int32).toNatClampNeg (vp_nar .byte v19))))] H := hP
  have hD : va_D A [(x0, .inr (10, [.ref tp, .int 7, .ref rd, .ref nw, .ref sp, .ref im, .ref ir, .ref kp, .ref sl, .ref tk, .ref hn, .ref rc, .ref jn, .ref br, .ref sh])), (tp, .inl (G.2 1, 1600, .inl (upd f15 (7 : Int32).toNatClampNeg (vp_nar .byte v19))))] := hD
  generalize (upd f15 (7 : Int32).toNatClampNeg (vp_nar .byte v19)) = f20 at hP hD
  refine lv_aload_n hx hb dX10_putBytes_30 rfl (lv_at hl 1 rfl) ?_
  refine lv_dup hx hb dX10_putBytes_31 rfl ?_
  refine va_get (D := G.1) (ci := 10) (v := .int 7) (C := RX10) (T := TX10) (N := 15) hx hb hw inGX10 hown hK hP 0 rfl rfl 1 (by decide) (hw _ kw_59) (fun _ h9 => h9) rfl dX10_putBytes_32 ?_
  refine lv_iconst (v := 1) hx hb dX10_putBytes_35 (by decide) ?_
  refine lv_iadd hx hb dX10_putBytes_36 ?_
  refine lv_cst (y := 8) (by decide) ?_
  refine va_put (D := G.1) (ci := 10) (v := .int 8) (ty := .int) (C := RX10) (T := TX10) (N := 15) hx hb hw inGX10 tyX10 tyX10_ok nmX10 hown hK hP hD hS 0 rfl rfl 1 (by decide) (hw _ kw_59) (fun _ h9 => h9) rfl (by decide +kernel) rfl rfl (Nat.le_of_ble_eq_true rfl) dX10_putBytes_37 (fun H locs hP hD hS => ?_)
  have hP : va_P G.1 vwCl [(x0, .inr (10, [.ref tp, .int 8, .ref rd, .ref nw, .ref sp, .ref im, .ref ir, .ref kp, .ref sl, .ref tk, .ref hn, .ref rc, .ref jn, .ref br, .ref sh])), (tp, .inl (G.2 1, 1600, .inl f20))] H := hP
  have hD : va_D A [(x0, .inr (10, [.ref tp, .int 8, .ref rd, .ref nw, .ref sp, .ref im, .ref ir, .ref kp, .ref sl, .ref tk, .ref hn, .ref rc, .ref jn, .ref br, .ref sh])), (tp, .inl (G.2 1, 1600, .inl f20))] := hD
  refine lv_iinc (v := (-8)) (lv' := [(2, .int (-8)), (0, .ref x0), (1, .int p0)]) hx hb dX10_putBytes_40 hl (k := 0) rfl (by decide) (by decide) rfl (fun ls hl => ?_)
  refine lv_goto (tgt := 3) hx hb dX10_putBytes_43 (by decide) ?_
  refine lv_iload_n hx hb dX10_putBytes_3 rfl (lv_at hl 0 rfl) ?_
  refine lv_if_lt (tgt := 46) hx hb dX10_putBytes_4 (by decide) (fun c21 => ?_) (fun c21 => absurd (by decide) c21)
  exact W.vret hx hb hr (fun t ht hW => ⟨⟨f20, rfl, trivial, ⟨by rw [ht]; exact hP.sub [0, 1] rfl, hD.sub [0, 1] (by decide +kernel) rfl⟩⟩, hS.F ht⟩) hS.2.2 dX10_putBytes_46
set_option maxHeartbeats 4000000 in
set_option maxRecDepth 100000 in
theorem c_putBytes_8 (l : Launch) (G : KG) (x0 : Nat) (tp : Nat) (rd : Nat) (nw : Nat) (sp : Nat) (im : Nat) (ir : Nat) (kp : Nat) (sl : Nat) (tk : Nat) (hn : Nat) (rc : Nat) (jn : Nat) (br : Nat) (sh : Nat) (f0 : Nat → Int32) (p0 : Int32) (sz : Nat) : Met l yX10_putBytes wgX10_putBytes ({ frames := 0, cells := 0, slots := 0, locals := 0 }) (preQ G [.ref x0, .int p0] sz [(x0, .inr (10, [.ref tp, .int 8, .ref rd, .ref nw, .ref sp, .ref im, .ref ir, .ref kp, .ref sl, .ref tk, .ref hn, .ref rc, .ref jn, .ref br, .ref sh])), (tp, .inl (G.2 1, 1600, .inl f0))]) (va_Qv (fun (u : (Nat → Int32)) => True) (fun u t => atQ G (va_A [(x0, .inr (10, [.ref tp, .int 8, .ref rd, .ref nw, .ref sp, .ref im, .ref ir, .ref kp, .ref sl, .ref tk, .ref hn, .ref rc, .ref jn, .ref br, .ref sh])), (tp, .inl (G.2 1, 1600, .inl f0))] sz) [(x0, .inr (10, [.ref tp, .int 12, .ref rd, .ref nw, .ref sp, .ref im, .ref ir, .ref kp, .ref sl, .ref tk, .ref hn, .ref rc, .ref jn, .ref br, .ref sh])), (tp, .inl (G.2 1, 1600, .inl u))] t) (va_A [(x0, .inr (10, [.ref tp, .int 8, .ref rd, .ref nw, .ref sp, .ref im, .ref ir, .ref kp, .ref sl, .ref tk, .ref hn, .ref rc, .ref jn, .ref br, .ref sh])), (tp, .inl (G.2 1, 1600, .inl f0))] sz)) 0 0 (va_A [(x0, .inr (10, [.ref tp, .int 8, .ref rd, .ref nw, .ref sp, .ref im, .ref ir, .ref kp, .ref sl, .ref tk, .ref hn, .ref rc, .ref jn, .ref br, .ref sh])), (tp, .inl (G.2 1, 1600, .inl f0))] sz) := by
  refine Met.ofW (cc := cX10_putBytes) (maxL := 3) (ret := none) (by decide) rfl ?_
  intro p e s m args below meth c s₁ B hml hv
  obtain ⟨rfl, hsz, hP, hKG, hD0⟩ := hv
  obtain ⟨hK, hAO⟩ := id hKG
  have hx := B.exec
  have hb := B.bytes
  have hr := B.returns
  have hts := atoms_spec (ws := wgX10_putBytes) B.pre
  have hw : ∀ w ∈ wG, w.before _ s = true := fun w h => hts w (List.mem_cons_of_mem _ h)
  have hown : s.vm.findClass RX10 = some m.cls := findClass_of_methodNamed B.named
  have hlocks := B.notSynchronized
  subst hsz
  have hD := hD0.self (sz := s.heap.size)
  generalize hAe : va_A [(x0, .inr (10, [.ref tp, .int 8, .ref rd, .ref nw, .ref sp, .ref im, .ref ir, .ref kp, .ref sl, .ref tk, .ref hn, .ref rc, .ref jn, .ref br, .ref sh])), (tp, .inl (G.2 1, 1600, .inl f0))] s.heap.size = A at hD ⊢
  have hA : ∀ q : Nat, s.heap.size ≤ q → A q := fun q h => by rw [← hAe]; exact Or.inr h
  have hS : va_S A s.heap s.heap [] := va_S.rf
  have hl := lv_entry ([.ref x0, .int p0]) (n := 3) (Nat.le_of_ble_eq_true rfl)
  rw [lg_entry_eq]
  generalize (lg_sl ([.ref x0, .int p0]) ++ List.replicate (3 - (lg_sl ([.ref x0, .int p0])).length) Slot.unset).toArray = ls at hl ⊢
  have hl : lv_has ls 3 [(0, .ref x0), (1, .int p0)] := hl
  refine lv_bipush (v := 24) hx hb dX10_putBytes_0 (by decide) ?_
  refine lv_istore_n (lv' := [(2, .int 24), (0, .ref x0), (1, .int p0)]) hx hb dX10_putBytes_2 rfl hl (by decide) rfl (fun ls hl => ?_)
  refine lv_iload_n hx hb dX10_putBytes_3 rfl (lv_at hl 0 rfl) ?_
  refine lv_if_lt (tgt := 46) hx hb dX10_putBytes_4 (by decide) (fun c1 => absurd c1 (by decide)) (fun c1 => ?_)
  refine lv_aload_n hx hb dX10_putBytes_7 rfl (lv_at hl 1 rfl) ?_
  refine va_get (D := G.1) (ci := 10) (v := .int 8) (C := RX10) (T := TX10) (N := 15) hx hb hw inGX10 hown hK hP 0 rfl rfl 1 (by decide) (hw _ kw_59) (fun _ h9 => h9) rfl dX10_putBytes_8 ?_
  refine lv_sipush (v := 1600) hx hb dX10_putBytes_11 (by decide) ?_
  refine lv_icmp_ge (tgt := 46) hx hb dX10_putBytes_14 (by decide) (fun c2 => absurd c2 (by decide)) (fun c2 => ?_)
  refine lv_aload_n hx hb dX10_putBytes_17 rfl (lv_at hl 1 rfl) ?_
  refine va_get (D := G.1) (ci := 10) (v := .ref tp) (C := RX10) (T := TX10) (N := 15) hx hb hw inGX10 hown hK hP 0 rfl rfl 0 (by decide) (hw _ kw_66) (fun _ h9 => h9) rfl dX10_putBytes_18 ?_
  refine lv_aload_n hx hb dX10_putBytes_21 rfl (lv_at hl 1 rfl) ?_
  refine va_get (D := G.1) (ci := 10) (v := .int 8) (C := RX10) (T := TX10) (N := 15) hx hb hw inGX10 hown hK hP 0 rfl rfl 1 (by decide) (hw _ kw_59) (fun _ h9 => h9) rfl dX10_putBytes_22 ?_
  refine lv_iload_n hx hb dX10_putBytes_25 rfl (lv_at hl 2 rfl) ?_
  refine lv_iload_n hx hb dX10_putBytes_26 rfl (lv_at hl 0 rfl) ?_
  refine lv_iushr hx hb dX10_putBytes_27 rfl ?_
  refine lv_topi (fun v3 ev3 => ?_)
  refine lv_i2b hx hb dX10_putBytes_28 rfl ?_
  refine lv_topi (fun v4 ev4 => ?_)
  refine va_bast hx hb hK hP hD hS 1 1 rfl rfl (vp_in_iff.mpr (by decide)) dX10_putBytes_29 (fun H locs hP hD hS => ?_)
  have hP : va_P G.1 vwCl [(x0, .inr (10, [.ref tp, .int 8, .ref rd, .ref nw, .ref sp, .ref im, .ref ir, .ref kp, .ref sl, .ref tk, .ref hn, .ref rc, .ref jn, .ref br, .ref sh])), (tp, .inl (G.2 1, 1600, .inl (upd f0 (8 : Int32).toNatClampNeg (vp_nar .byte v4))))] H := hP
  have hD : va_D A [(x0, .inr (10, [.ref tp, .int 8, .ref rd, .ref nw, .ref sp, .ref im, .ref ir, .ref kp, .ref sl, .ref tk, .ref hn, .ref rc, .ref jn, .ref br, .ref sh])), (tp, .inl (G.2 1, 1600, .inl (upd f0 (8 : Int32).toNatClampNeg (vp_nar .byte v4))))] := hD
  generalize (upd f0 (8 : Int32).toNatClampNeg (vp_nar .byte v4)) = f5 at hP hD
  refine lv_aload_n hx hb dX10_putBytes_30 rfl (lv_at hl 1 rfl) ?_
  refine lv_dup hx hb dX10_putBytes_31 rfl ?_
  refine va_get (D := G.1) (ci := 10) (v := .int 8) (C := RX10) (T := TX10) (N := 15) hx hb hw inGX10 hown hK hP 0 rfl rfl 1 (by decide) (hw _ kw_59) (fun _ h9 => h9) rfl dX10_putBytes_32 ?_
  refine lv_iconst (v := 1) hx hb dX10_putBytes_35 (by decide) ?_
  refine lv_iadd hx hb dX10_putBytes_36 ?_
  refine lv_cst (y := 9) (by decide) ?_
  refine va_put (D := G.1) (ci := 10) (v := .int 9) (ty := .int) (C := RX10) (T := TX10) (N := 15) hx hb hw inGX10 tyX10 tyX10_ok nmX10 hown hK hP hD hS 0 rfl rfl 1 (by decide) (hw _ kw_59) (fun _ h9 => h9) rfl (by decide +kernel) rfl rfl (Nat.le_of_ble_eq_true rfl) dX10_putBytes_37 (fun H locs hP hD hS => ?_)
  have hP : va_P G.1 vwCl [(x0, .inr (10, [.ref tp, .int 9, .ref rd, .ref nw, .ref sp, .ref im, .ref ir, .ref kp, .ref sl, .ref tk, .ref hn, .ref rc, .ref jn, .ref br, .ref sh])), (tp, .inl (G.2 1, 1600, .inl f5))] H := hP
  have hD : va_D A [(x0, .inr (10, [.ref tp, .int 9, .ref rd, .ref nw, .ref sp, .ref im, .ref ir, .ref kp, .ref sl, .ref tk, .ref hn, .ref rc, .ref jn, .ref br, .ref sh])), (tp, .inl (G.2 1, 1600, .inl f5))] := hD
  refine lv_iinc (v := 16) (lv' := [(2, .int 16), (0, .ref x0), (1, .int p0)]) hx hb dX10_putBytes_40 hl (k := 0) rfl (by decide) (by decide) rfl (fun ls hl => ?_)
  refine lv_goto (tgt := 3) hx hb dX10_putBytes_43 (by decide) ?_
  refine lv_iload_n hx hb dX10_putBytes_3 rfl (lv_at hl 0 rfl) ?_
  refine lv_if_lt (tgt := 46) hx hb dX10_putBytes_4 (by decide) (fun c6 => absurd c6 (by decide)) (fun c6 => ?_)
  refine lv_aload_n hx hb dX10_putBytes_7 rfl (lv_at hl 1 rfl) ?_
  refine va_get (D := G.1) (ci := 10) (v := .int 9) (C := RX10) (T := TX10) (N := 15) hx hb hw inGX10 hown hK hP 0 rfl rfl 1 (by decide) (hw _ kw_59) (fun _ h9 => h9) rfl dX10_putBytes_8 ?_
  refine lv_sipush (v := 1600) hx hb dX10_putBytes_11 (by decide) ?_
  refine lv_icmp_ge (tgt := 46) hx hb dX10_putBytes_14 (by decide) (fun c7 => absurd c7 (by decide)) (fun c7 => ?_)
  refine lv_aload_n hx hb dX10_putBytes_17 rfl (lv_at hl 1 rfl) ?_
  refine va_get (D := G.1) (ci := 10) (v := .ref tp) (C := RX10) (T := TX10) (N := 15) hx hb hw inGX10 hown hK hP 0 rfl rfl 0 (by decide) (hw _ kw_66) (fun _ h9 => h9) rfl dX10_putBytes_18 ?_
  refine lv_aload_n hx hb dX10_putBytes_21 rfl (lv_at hl 1 rfl) ?_
  refine va_get (D := G.1) (ci := 10) (v := .int 9) (C := RX10) (T := TX10) (N := 15) hx hb hw inGX10 hown hK hP 0 rfl rfl 1 (by decide) (hw _ kw_59) (fun _ h9 => h9) rfl dX10_putBytes_22 ?_
  refine lv_iload_n hx hb dX10_putBytes_25 rfl (lv_at hl 2 rfl) ?_
  refine lv_iload_n hx hb dX10_putBytes_26 rfl (lv_at hl 0 rfl) ?_
  refine lv_iushr hx hb dX10_putBytes_27 rfl ?_
  refine lv_topi (fun v8 ev8 => ?_)
  refine lv_i2b hx hb dX10_putBytes_28 rfl ?_
  refine lv_topi (fun v9 ev9 => ?_)
  refine va_bast hx hb hK hP hD hS 1 1 rfl rfl (vp_in_iff.mpr (by decide)) dX10_putBytes_29 (fun H locs hP hD hS => ?_)
  have hP : va_P G.1 vwCl [(x0, .inr (10, [.ref tp, .int 9, .ref rd, .ref nw, .ref sp, .ref im, .ref ir, .ref kp, .ref sl, .ref tk, .ref hn, .ref rc, .ref jn, .ref br, .ref sh])), (tp, .inl (G.2 1, 1600, .inl (upd f5 (9 : Int32).toNatClampNeg (vp_nar .byte v9))))] H := hP
  have hD : va_D A [(x0, .inr (10, [.ref tp, .int 9, .ref rd, .ref nw, .ref sp, .ref im, .ref ir, .ref kp, .ref sl, .ref tk, .ref hn, .ref rc, .ref jn, .ref br, .ref sh])), (tp, .inl (G.2 1, 1600, .inl (upd f5 (9 : Int32).toNatClampNeg (vp_nar .byte v9))))] := hD
  generalize (upd f5 (9 : Int32).toNatClampNeg (vp_nar .byte v9)) = f10 at hP hD
  refine lv_aload_n hx hb dX10_putBytes_30 rfl (lv_at hl 1 rfl) ?_
  refine lv_dup hx hb dX10_putBytes_31 rfl ?_
  refine va_get (D := G.1) (ci := 10) (v := .int 9) (C := RX10) (T := TX10) (N := 15) hx hb hw inGX10 hown hK hP 0 rfl rfl 1 (by decide) (hw _ kw_59) (fun _ h9 => h9) rfl dX10_putBytes_32 ?_
  refine lv_iconst (v := 1) hx hb dX10_putBytes_35 (by decide) ?_
  refine lv_iadd hx hb dX10_putBytes_36 ?_
  refine lv_cst (y := 10) (by decide) ?_
  refine va_put (D := G.1) (ci := 10) (v := .int 10) (ty := .int) (C := RX10) (T := TX10) (N := 15) hx hb hw inGX10 tyX10 tyX10_ok nmX10 hown hK hP hD hS 0 rfl rfl 1 (by decide) (hw _ kw_59) (fun _ h9 => h9) rfl (by decide +kernel) rfl rfl (Nat.le_of_ble_eq_true rfl) dX10_putBytes_37 (fun H locs hP hD hS => ?_)
  have hP : va_P G.1 vwCl [(x0, .inr (10, [.ref tp, .int 10, .ref rd, .ref nw, .ref sp, .ref im, .ref ir, .ref kp, .ref sl, .ref tk, .ref hn, .ref rc, .ref jn, .ref br, .ref sh])), (tp, .inl (G.2 1, 1600, .inl f10))] H := hP
  have hD : va_D A [(x0, .inr (10, [.ref tp, .int 10, .ref rd, .ref nw, .ref sp, .ref im, .ref ir, .ref kp, .ref sl, .ref tk, .ref hn, .ref rc, .ref jn, .ref br, .ref sh])), (tp, .inl (G.2 1, 1600, .inl f10))] := hD
  refine lv_iinc (v := 8) (lv' := [(2, .int 8), (0, .ref x0), (1, .int p0)]) hx hb dX10_putBytes_40 hl (k := 0) rfl (by decide) (by decide) rfl (fun ls hl => ?_)
  refine lv_goto (tgt := 3) hx hb dX10_putBytes_43 (by decide) ?_
  refine lv_iload_n hx hb dX10_putBytes_3 rfl (lv_at hl 0 rfl) ?_
  refine lv_if_lt (tgt := 46) hx hb dX10_putBytes_4 (by decide) (fun c11 => absurd c11 (by decide)) (fun c11 => ?_)
  refine lv_aload_n hx hb dX10_putBytes_7 rfl (lv_at hl 1 rfl) ?_
  refine va_get (D := G.1) (ci := 10) (v := .int 10) (C := RX10) (T := TX10) (N := 15) hx hb hw inGX10 hown hK hP 0 rfl rfl 1 (by decide) (hw _ kw_59) (fun _ h9 => h9) rfl dX10_putBytes_8 ?_
  refine lv_sipush (v := 1600) hx hb dX10_putBytes_11 (by decide) ?_
  refine lv_icmp_ge (tgt := 46) hx hb dX10_putBytes_14 (by decide) (fun c12 => absurd c12 (by decide)) (fun c12 => ?_)
  refine lv_aload_n hx hb dX10_putBytes_17 rfl (lv_at hl 1 rfl) ?_
  refine va_get (D := G.1) (ci := 10) (v := .ref tp) (C := RX10) (T := TX10) (N := 15) hx hb hw inGX10 hown hK hP 0 rfl rfl 0 (by decide) (hw _ kw_66) (fun _ h9 => h9) rfl dX10_putBytes_18 ?_
  refine lv_aload_n hx hb dX10_putBytes_21 rfl (lv_at hl 1 rfl) ?_
  refine va_get (D := G.1) (ci := 10) (v := .int 10) (C := RX10) (T := TX10) (N := 15) hx hb hw inGX10 hown hK hP 0 rfl rfl 1 (by decide) (hw _ kw_59) (fun _ h9 => h9) rfl dX10_putBytes_22 ?_
  refine lv_iload_n hx hb dX10_putBytes_25 rfl (lv_at hl 2 rfl) ?_
  refine lv_iload_n hx hb dX10_putBytes_26 rfl (lv_at hl 0 rfl) ?_
  refine lv_iushr hx hb dX10_putBytes_27 rfl ?_
  refine lv_topi (fun v13 ev13 => ?_)
  refine lv_i2b hx hb dX10_putBytes_28 rfl ?_
  refine lv_topi (fun v14 ev14 => ?_)
  refine va_bast hx hb hK hP hD hS 1 1 rfl rfl (vp_in_iff.mpr (by decide)) dX10_putBytes_29 (fun H locs hP hD hS => ?_)
  have hP : va_P G.1 vwCl [(x0, .inr (10, [.ref tp, .int 10, .ref rd, .ref nw, .ref sp, .ref im, .ref ir, .ref kp, .ref sl, .ref tk, .ref hn, .ref rc, .ref jn, .ref br, .ref sh])), (tp, .inl (G.2 1, 1600, .inl (upd f10 (10 : Int32).toNatClampNeg (vp_nar .byte v14))))] H := hP
  have hD : va_D A [(x0, .inr (10, [.ref tp, .int 10, .ref rd, .ref nw, .ref sp, .ref im, .ref ir, .ref kp, .ref sl, .ref tk, .ref hn, .ref rc, .ref jn, .ref br, .ref sh])), (tp, .inl (G.2 1, 1600, .inl (upd f10 (10 : Int32).toNatClampNeg (vp_nar .byte v14))))] := hD
  generalize (upd f10 (10 : Int32).toNatClampNeg (vp_nar .byte v14)) = f15 at hP hD
  refine lv_aload_n hx hb dX10_putBytes_30 rfl (lv_at hl 1 rfl) ?_
  refine lv_dup hx hb dX10_putBytes_31 rfl ?_
  refine va_get (D := G.1) (ci := 10) (v := .int 10) (C := RX10) (T := TX10) (N := 15) hx hb hw inGX10 hown hK hP 0 rfl rfl 1 (by decide) (hw _ kw_59) (fun _ h9 => h9) rfl dX10_putBytes_32 ?_
  refine lv_iconst (v := 1) hx hb dX10_putBytes_35 (by decide) ?_
  refine lv_iadd hx hb dX10_putBytes_36 ?_
  refine lv_cst (y := 11) (by decide) ?_
  refine va_put (D := G.1) (ci := 10) (v := .int 11) (ty := .int) (C := RX10) (T := TX10) (N := 15) hx hb hw inGX10 tyX10 tyX10_ok nmX10 hown hK hP hD hS 0 rfl rfl 1 (by decide) (hw _ kw_59) (fun _ h9 => h9) rfl (by decide +kernel) rfl rfl (Nat.le_of_ble_eq_true rfl) dX10_putBytes_37 (fun H locs hP hD hS => ?_)
  have hP : va_P G.1 vwCl [(x0, .inr (10, [.ref tp, .int 11, .ref rd, .ref nw, .ref sp, .ref im, .ref ir, .ref kp, .ref sl, .ref tk, .ref hn, .ref rc, .ref jn, .ref br, .ref sh])), (tp, .inl (G.2 1, 1600, .inl f15))] H := hP
  have hD : va_D A [(x0, .inr (10, [.ref tp, .int 11, .ref rd, .ref nw, .ref sp, .ref im, .ref ir, .ref kp, .ref sl, .ref tk, .ref hn, .ref rc, .ref jn, .ref br, .ref sh])), (tp, .inl (G.2 1, 1600, .inl f15))] := hD
  refine lv_iinc (v := 0) (lv' := [(2, .int 0), (0, .ref x0), (1, .int p0)]) hx hb dX10_putBytes_40 hl (k := 0) rfl (by decide) (by decide) rfl (fun ls hl => ?_)
  refine lv_goto (tgt := 3) hx hb dX10_putBytes_43 (by decide) ?_
  refine lv_iload_n hx hb dX10_putBytes_3 rfl (lv_at hl 0 rfl) ?_
  refine lv_if_lt (tgt := 46) hx hb dX10_putBytes_4 (by decide) (fun c16 => absurd c16 (by decide)) (fun c16 => ?_)
  refine lv_aload_n hx hb dX10_putBytes_7 rfl (lv_at hl 1 rfl) ?_
  refine va_get (D := G.1) (ci := 10) (v := .int 11) (C := RX10) (T := TX10) (N := 15) hx hb hw inGX10 hown hK hP 0 rfl rfl 1 (by decide) (hw _ kw_59) (fun _ h9 => h9) rfl dX10_putBytes_8 ?_
  refine lv_sipush (v := 1600) hx hb dX10_putBytes_11 (by decide) ?_
  refine lv_icmp_ge (tgt := 46) hx hb dX10_putBytes_14 (by decide) (fun c17 => absurd c17 (by decide)) (fun c17 => ?_)
  refine lv_aload_n hx hb dX10_putBytes_17 rfl (lv_at hl 1 rfl) ?_
  refine va_get (D := G.1) (ci := 10) (v := .ref tp) (C := RX10) (T := TX10) (N := 15) hx hb hw inGX10 hown hK hP 0 rfl rfl 0 (by decide) (hw _ kw_66) (fun _ h9 => h9) rfl dX10_putBytes_18 ?_
  refine lv_aload_n hx hb dX10_putBytes_21 rfl (lv_at hl 1 rfl) ?_
  refine va_get (D := G.1) (ci := 10) (v := .int 11) (C := RX10) (T := TX10) (N := 15) hx hb hw inGX10 hown hK hP 0 rfl rfl 1 (by decide) (hw _ kw_59) (fun _ h9 => h9) rfl dX10_putBytes_22 ?_
  refine lv_iload_n hx hb dX10_putBytes_25 rfl (lv_at hl 2 rfl) ?_
  refine lv_iload_n hx hb dX10_putBytes_26 rfl (lv_at hl 0 rfl) ?_
  refine lv_iushr hx hb dX10_putBytes_27 rfl ?_
  refine lv_topi (fun v18 ev18 => ?_)
  refine lv_i2b hx hb dX10_putBytes_28 rfl ?_
  refine lv_topi (fun v19 ev19 => ?_)
  refine va_bast hx hb hK hP hD hS 1 1 rfl rfl (vp_in_iff.mpr (by decide)) dX10_putBytes_29 (fun H locs hP hD hS => ?_)
  have hP : va_P G.1 vwCl [(x0, .inr (10, [.ref tp, .int 11, .ref rd, .ref nw, .ref sp, .ref im, .ref ir, .ref kp, .ref sl, .ref tk, .ref hn, .ref rc, .ref jn, .ref br, .ref sh])), (tp, .inl (G.2 1, 1600, .inl (upd f15 (11 : Int32).toNatClampNeg (vp_nar .byte v19))))] H := hP
  have hD : va_D A [(x0, .inr (10, [.ref tp, .int 11, .ref rd, .ref nw, .ref sp, .ref im, .ref ir, .ref kp, .ref sl, .ref tk, .ref hn, .ref rc, .ref jn, .ref br, .ref sh])), (tp, .inl (G.2 1, 1600, .inl (upd f15 (11 : Int32).toNatClampNeg (vp_nar .byte v19))))] := hD
  generalize (upd f15 (11 : Int32).toNatClampNeg (vp_nar .byte v19)) = f20 at hP hD
  refine lv_aload_n hx hb dX10_putBytes_30 rfl (lv_at hl 1 rfl) ?_
  refine lv_dup hx hb dX10_putBytes_31 rfl ?_
  refine va_get (D := G.1) (ci := 10) (v := .int 11) (C := RX10) (T := TX10) (N := 15) hx hb hw inGX10 hown hK hP 0 rfl rfl 1 (by decide) (hw _ kw_59) (fun _ h9 => h9) rfl dX10_putBytes_32 ?_
  refine lv_iconst (v := 1) hx hb dX10_putBytes_35 (by decide) ?_
  refine lv_iadd hx hb dX10_putBytes_36 ?_
  refine lv_cst (y := 12) (by decide) ?_
  refine va_put (D := G.1) (ci := 10) (v := .int 12) (ty := .int) (C := RX10) (T := TX10) (N := 15) hx hb hw inGX10 tyX10 tyX10_ok nmX10 hown hK hP hD hS 0 rfl rfl 1 (by decide) (hw _ kw_59) (fun _ h9 => h9) rfl (by decide +kernel) rfl rfl (Nat.le_of_ble_eq_true rfl) dX10_putBytes_37 (fun H locs hP hD hS => ?_)
  have hP : va_P G.1 vwCl [(x0, .inr (10, [.ref tp, .int 12, .ref rd, .ref nw, .ref sp, .ref im, .ref ir, .ref kp, .ref sl, .ref tk, .ref hn, .ref rc, .ref jn, .ref br, .ref sh])), (tp, .inl (G.2 1, 1600, .inl f20))] H := hP
  have hD : va_D A [(x0, .inr (10, [.ref tp, .int 12, .ref rd, .ref nw, .ref sp, .ref im, .ref ir, .ref kp, .ref sl, .ref tk, .ref hn, .ref rc, .ref jn, .ref br, .ref sh])), (tp, .inl (G.2 1, 1600, .inl f20))] := hD
  refine lv_iinc (v := (-8)) (lv' := [(2, .int (-8)), (0, .ref x0), (1, .int p0)]) hx hb dX10_putBytes_40 hl (k := 0) rfl (by decide) (by decide) rfl (fun ls hl => ?_)
  refine lv_goto (tgt := 3) hx hb dX10_putBytes_43 (by decide) ?_
  refine lv_iload_n hx hb dX10_putBytes_3 rfl (lv_at hl 0 rfl) ?_
  refine lv_if_lt (tgt := 46) hx hb dX10_putBytes_4 (by decide) (fun c21 => ?_) (fun c21 => absurd (by decide) c21)
  exact W.vret hx hb hr (fun t ht hW => ⟨⟨f20, rfl, trivial, ⟨by rw [ht]; exact hP.sub [0, 1] rfl, hD.sub [0, 1] (by decide +kernel) rfl⟩⟩, hS.F ht⟩) hS.2.2 dX10_putBytes_46
set_option maxHeartbeats 4000000 in
set_option maxRecDepth 100000 in
theorem c_putBytes_12 (l : Launch) (G : KG) (x0 : Nat) (tp : Nat) (rd : Nat) (nw : Nat) (sp : Nat) (im : Nat) (ir : Nat) (kp : Nat) (sl : Nat) (tk : Nat) (hn : Nat) (rc : Nat) (jn : Nat) (br : Nat) (sh : Nat) (f0 : Nat → Int32) (p0 : Int32) (sz : Nat) : Met l yX10_putBytes wgX10_putBytes ({ frames := 0, cells := 0, slots := 0, locals := 0 }) (preQ G [.ref x0, .int p0] sz [(x0, .inr (10, [.ref tp, .int 12, .ref rd, .ref nw, .ref sp, .ref im, .ref ir, .ref kp, .ref sl, .ref tk, .ref hn, .ref rc, .ref jn, .ref br, .ref sh])), (tp, .inl (G.2 1, 1600, .inl f0))]) (va_Qv (fun (u : (Nat → Int32)) => True) (fun u t => atQ G (va_A [(x0, .inr (10, [.ref tp, .int 12, .ref rd, .ref nw, .ref sp, .ref im, .ref ir, .ref kp, .ref sl, .ref tk, .ref hn, .ref rc, .ref jn, .ref br, .ref sh])), (tp, .inl (G.2 1, 1600, .inl f0))] sz) [(x0, .inr (10, [.ref tp, .int 16, .ref rd, .ref nw, .ref sp, .ref im, .ref ir, .ref kp, .ref sl, .ref tk, .ref hn, .ref rc, .ref jn, .ref br, .ref sh])), (tp, .inl (G.2 1, 1600, .inl u))] t) (va_A [(x0, .inr (10, [.ref tp, .int 12, .ref rd, .ref nw, .ref sp, .ref im, .ref ir, .ref kp, .ref sl, .ref tk, .ref hn, .ref rc, .ref jn, .ref br, .ref sh])), (tp, .inl (G.2 1, 1600, .inl f0))] sz)) 0 0 (va_A [(x0, .inr (10, [.ref tp, .int 12, .ref rd, .ref nw, .ref sp, .ref im, .ref ir, .ref kp, .ref sl, .ref tk, .ref hn, .ref rc, .ref jn, .ref br, .ref sh])), (tp, .inl (G.2 1, 1600, .inl f0))] sz) := by
  refine Met.ofW (cc := cX10_putBytes) (maxL := 3) (ret := none) (by decide) rfl ?_
  intro p e s m args below meth c s₁ B hml hv
  obtain ⟨rfl, hsz, hP, hKG, hD0⟩ := hv
  obtain ⟨hK, hAO⟩ := id hKG
  have hx := B.exec
  have hb := B.bytes
  have hr := B.returns
  have hts := atoms_spec (ws := wgX10_putBytes) B.pre
  have hw : ∀ w ∈ wG, w.before _ s = true := fun w h => hts w (List.mem_cons_of_mem _ h)
  have hown : s.vm.findClass RX10 = some m.cls := findClass_of_methodNamed B.named
  have hlocks := B.notSynchronized
  subst hsz
  have hD := hD0.self (sz := s.heap.size)
  generalize hAe : va_A [(x0, .inr (10, [.ref tp, .int 12, .ref rd, .ref nw, .ref sp, .ref im, .ref ir, .ref kp, .ref sl, .ref tk, .ref hn, .ref rc, .ref jn, .ref br, .ref sh])), (tp, .inl (G.2 1, 1600, .inl f0))] s.heap.size = A at hD ⊢
  have hA : ∀ q : Nat, s.heap.size ≤ q → A q := fun q h => by rw [← hAe]; exact Or.inr h
  have hS : va_S A s.heap s.heap [] := va_S.rf
  have hl := lv_entry ([.ref x0, .int p0]) (n := 3) (Nat.le_of_ble_eq_true rfl)
  rw [lg_entry_eq]
  generalize (lg_sl ([.ref x0, .int p0]) ++ List.replicate (3 - (lg_sl ([.ref x0, .int p0])).length) Slot.unset).toArray = ls at hl ⊢
  have hl : lv_has ls 3 [(0, .ref x0), (1, .int p0)] := hl
  refine lv_bipush (v := 24) hx hb dX10_putBytes_0 (by decide) ?_
  refine lv_istore_n (lv' := [(2, .int 24), (0, .ref x0), (1, .int p0)]) hx hb dX10_putBytes_2 rfl hl (by decide) rfl (fun ls hl => ?_)
  refine lv_iload_n hx hb dX10_putBytes_3 rfl (lv_at hl 0 rfl) ?_
  refine lv_if_lt (tgt := 46) hx hb dX10_putBytes_4 (by decide) (fun c1 => absurd c1 (by decide)) (fun c1 => ?_)
  refine lv_aload_n hx hb dX10_putBytes_7 rfl (lv_at hl 1 rfl) ?_
  refine va_get (D := G.1) (ci := 10) (v := .int 12) (C := RX10) (T := TX10) (N := 15) hx hb hw inGX10 hown hK hP 0 rfl rfl 1 (by decide) (hw _ kw_59) (fun _ h9 => h9) rfl dX10_putBytes_8 ?_
  refine lv_sipush (v := 1600) hx hb dX10_putBytes_11 (by decide) ?_
  refine lv_icmp_ge (tgt := 46) hx hb dX10_putBytes_14 (by decide) (fun c2 => absurd c2 (by decide)) (fun c2 => ?_)
  refine lv_aload_n hx hb dX10_putBytes_17 rfl (lv_at hl 1 rfl) ?_
  refine va_get (D := G.1) (ci := 10) (v := .ref tp) (C := RX10) (T := TX10) (N := 15) hx hb hw inGX10 hown hK hP 0 rfl rfl 0 (by decide) (hw _ kw_66) (fun _ h9 => h9) rfl dX10_putBytes_18 ?_
  refine lv_aload_n hx hb dX10_putBytes_21 rfl (lv_at hl 1 rfl) ?_
  refine va_get (D := G.1) (ci := 10) (v := .int 12) (C := RX10) (T := TX10) (N := 15) hx hb hw inGX10 hown hK hP 0 rfl rfl 1 (by decide) (hw _ kw_59) (fun _ h9 => h9) rfl dX10_putBytes_22 ?_
  refine lv_iload_n hx hb dX10_putBytes_25 rfl (lv_at hl 2 rfl) ?_
  refine lv_iload_n hx hb dX10_putBytes_26 rfl (lv_at hl 0 rfl) ?_
  refine lv_iushr hx hb dX10_putBytes_27 rfl ?_
  refine lv_topi (fun v3 ev3 => ?_)
  refine lv_i2b hx hb dX10_putBytes_28 rfl ?_
  refine lv_topi (fun v4 ev4 => ?_)
  refine va_bast hx hb hK hP hD hS 1 1 rfl rfl (vp_in_iff.mpr (by decide)) dX10_putBytes_29 (fun H locs hP hD hS => ?_)
  have hP : va_P G.1 vwCl [(x0, .inr (10, [.ref tp, .int 12, .ref rd, .ref nw, .ref sp, .ref im, .ref ir, .ref kp, .ref sl, .ref tk, .ref hn, .ref rc, .ref jn, .ref br, .ref sh])), (tp, .inl (G.2 1, 1600, .inl (upd f0 (12 : Int32).toNatClampNeg (vp_nar .byte v4))))] H := hP
  have hD : va_D A [(x0, .inr (10, [.ref tp, .int 12, .ref rd, .ref nw, .ref sp, .ref im, .ref ir, .ref kp, .ref sl, .ref tk, .ref hn, .ref rc, .ref jn, .ref br, .ref sh])), (tp, .inl (G.2 1, 1600, .inl (upd f0 (12 : Int32).toNatClampNeg (vp_nar .byte v4))))] := hD
  generalize (upd f0 (12 : Int32).toNatClampNeg (vp_nar .byte v4)) = f5 at hP hD
  refine lv_aload_n hx hb dX10_putBytes_30 rfl (lv_at hl 1 rfl) ?_
  refine lv_dup hx hb dX10_putBytes_31 rfl ?_
  refine va_get (D := G.1) (ci := 10) (v := .int 12) (C := RX10) (T := TX10) (N := 15) hx hb hw inGX10 hown hK hP 0 rfl rfl 1 (by decide) (hw _ kw_59) (fun _ h9 => h9) rfl dX10_putBytes_32 ?_
  refine lv_iconst (v := 1) hx hb dX10_putBytes_35 (by decide) ?_
  refine lv_iadd hx hb dX10_putBytes_36 ?_
  refine lv_cst (y := 13) (by decide) ?_
  refine va_put (D := G.1) (ci := 10) (v := .int 13) (ty := .int) (C := RX10) (T := TX10) (N := 15) hx hb hw inGX10 tyX10 tyX10_ok nmX10 hown hK hP hD hS 0 rfl rfl 1 (by decide) (hw _ kw_59) (fun _ h9 => h9) rfl (by decide +kernel) rfl rfl (Nat.le_of_ble_eq_true rfl) dX10_putBytes_37 (fun H locs hP hD hS => ?_)
  have hP : va_P G.1 vwCl [(x0, .inr (10, [.ref tp, .int 13, .ref rd, .ref nw, .ref sp, .ref im, .ref ir, .ref kp, .ref sl, .ref tk, .ref hn, .ref rc, .ref jn, .ref br, .ref sh])), (tp, .inl (G.2 1, 1600, .inl f5))] H := hP
  have hD : va_D A [(x0, .inr (10, [.ref tp, .int 13, .ref rd, .ref nw, .ref sp, .ref im, .ref ir, .ref kp, .ref sl, .ref tk, .ref hn, .ref rc, .ref jn, .ref br, .ref sh])), (tp, .inl (G.2 1, 1600, .inl f5))] := hD
  refine lv_iinc (v := 16) (lv' := [(2, .int 16), (0, .ref x0), (1, .int p0)]) hx hb dX10_putBytes_40 hl (k := 0) rfl (by decide) (by decide) rfl (fun ls hl => ?_)
  refine lv_goto (tgt := 3) hx hb dX10_putBytes_43 (by decide) ?_
  refine lv_iload_n hx hb dX10_putBytes_3 rfl (lv_at hl 0 rfl) ?_
  refine lv_if_lt (tgt := 46) hx hb dX10_putBytes_4 (by decide) (fun c6 => absurd c6 (by decide)) (fun c6 => ?_)
  refine lv_aload_n hx hb dX10_putBytes_7 rfl (lv_at hl 1 rfl) ?_
  refine va_get (D := G.1) (ci := 10) (v := .int 13) (C := RX10) (T := TX10) (N := 15) hx hb hw inGX10 hown hK hP 0 rfl rfl 1 (by decide) (hw _ kw_59) (fun _ h9 => h9) rfl dX10_putBytes_8 ?_
  refine lv_sipush (v := 1600) hx hb dX10_putBytes_11 (by decide) ?_
  refine lv_icmp_ge (tgt := 46) hx hb dX10_putBytes_14 (by decide) (fun c7 => absurd c7 (by decide)) (fun c7 => ?_)
  refine lv_aload_n hx hb dX10_putBytes_17 rfl (lv_at hl 1 rfl) ?_
  refine va_get (D := G.1) (ci := 10) (v := .ref tp) (C := RX10) (T := TX10) (N := 15) hx hb hw inGX10 hown hK hP 0 rfl rfl 0 (by decide) (hw _ kw_66) (fun _ h9 => h9) rfl dX10_putBytes_18 ?_
  refine lv_aload_n hx hb dX10_putBytes_21 rfl (lv_at hl 1 rfl) ?_
  refine va_get (D := G.1) (ci := 10) (v := .int 13) (C := RX10) (T := TX10) (N := 15) hx hb hw inGX10 hown hK hP 0 rfl rfl 1 (by decide) (hw _ kw_59) (fun _ h9 => h9) rfl dX10_putBytes_22 ?_
  refine lv_iload_n hx hb dX10_putBytes_25 rfl (lv_at hl 2 rfl) ?_
  refine lv_iload_n hx hb dX10_putBytes_26 rfl (lv_at hl 0 rfl) ?_
  refine lv_iushr hx hb dX10_putBytes_27 rfl ?_
  refine lv_topi (fun v8 ev8 => ?_)
  refine lv_i2b hx hb dX10_putBytes_28 rfl ?_
  refine lv_topi (fun v9 ev9 => ?_)
  refine va_bast hx hb hK hP hD hS 1 1 rfl rfl (vp_in_iff.mpr (by decide)) dX10_putBytes_29 (fun H locs hP hD hS => ?_)
  have hP : va_P G.1 vwCl [(x0, .inr (10, [.ref tp, .int 13, .ref rd, .ref nw, .ref sp, .ref im, .ref ir, .ref kp, .ref sl, .ref tk, .ref hn, .ref rc, .ref jn, .ref br, .ref sh])), (tp, .inl (G.2 1, 1600, .inl (upd f5 (13 : Int32).toNatClampNeg (vp_nar .byte v9))))] H := hP
  have hD : va_D A [(x0, .inr (10, [.ref tp, .int 13, .ref rd, .ref nw, .ref sp, .ref im, .ref ir, .ref kp, .ref sl, .ref tk, .ref hn, .ref rc, .ref jn, .ref br, .ref sh])), (tp, .inl (G.2 1, 1600, .inl (upd f5 (13 : Int32).toNatClampNeg (vp_nar .byte v9))))] := hD
  generalize (upd f5 (13 : Int32).toNatClampNeg (vp_nar .byte v9)) = f10 at hP hD
  refine lv_aload_n hx hb dX10_putBytes_30 rfl (lv_at hl 1 rfl) ?_
  refine lv_dup hx hb dX10_putBytes_31 rfl ?_
  refine va_get (D := G.1) (ci := 10) (v := .int 13) (C := RX10) (T := TX10) (N := 15) hx hb hw inGX10 hown hK hP 0 rfl rfl 1 (by decide) (hw _ kw_59) (fun _ h9 => h9) rfl dX10_putBytes_32 ?_
  refine lv_iconst (v := 1) hx hb dX10_putBytes_35 (by decide) ?_
  refine lv_iadd hx hb dX10_putBytes_36 ?_
  refine lv_cst (y := 14) (by decide) ?_
  refine va_put (D := G.1) (ci := 10) (v := .int 14) (ty := .int) (C := RX10) (T := TX10) (N := 15) hx hb hw inGX10 tyX10 tyX10_ok nmX10 hown hK hP hD hS 0 rfl rfl 1 (by decide) (hw _ kw_59) (fun _ h9 => h9) rfl (by decide +kernel) rfl rfl (Nat.le_of_ble_eq_true rfl) dX10_putBytes_37 (fun H locs hP hD hS => ?_)
  have hP : va_P G.1 vwCl [(x0, .inr (10, [.ref tp, .int 14, .ref rd, .ref nw, .ref sp, .ref im, .ref ir, .ref kp, .ref sl, .ref tk, .ref hn, .ref rc, .ref jn, .ref br, .ref sh])), (tp, .inl (G.2 1, 1600, .inl f10))] H := hP
  have hD : va_D A [(x0, .inr (10, [.ref tp, .int 14, .ref rd, .ref nw, .ref sp, .ref im, .ref ir, .ref kp, .ref sl, .ref tk, .ref hn, .ref rc, .ref jn, .ref br, .ref sh])), (tp, .inl (G.2 1, 1600, .inl f10))] := hD
  refine lv_iinc (v := 8) (lv' := [(2, .int 8), (0, .ref x0), (1, .int p0)]) hx hb dX10_putBytes_40 hl (k := 0) rfl (by decide) (by decide) rfl (fun ls hl => ?_)
  refine lv_goto (tgt := 3) hx hb dX10_putBytes_43 (by decide) ?_
  refine lv_iload_n hx hb dX10_putBytes_3 rfl (lv_at hl 0 rfl) ?_
  refine lv_if_lt (tgt := 46) hx hb dX10_putBytes_4 (by decide) (fun c11 => absurd c11 (by decide)) (fun c11 => ?_)
  refine lv_aload_n hx hb dX10_putBytes_7 rfl (lv_at hl 1 rfl) ?_
  refine va_get (D := G.1) (ci := 10) (v := .int 14) (C := RX10) (T := TX10) (N := 15) hx hb hw inGX10 hown hK hP 0 rfl rfl 1 (by decide) (hw _ kw_59) (fun _ h9 => h9) rfl dX10_putBytes_8 ?_
  refine lv_sipush (v := 1600) hx hb dX10_putBytes_11 (by decide) ?_
  refine lv_icmp_ge (tgt := 46) hx hb dX10_putBytes_14 (by decide) (fun c12 => absurd c12 (by decide)) (fun c12 => ?_)
  refine lv_aload_n hx hb dX10_putBytes_17 rfl (lv_at hl 1 rfl) ?_
  refine va_get (D := G.1) (ci := 10) (v := .ref tp) (C := RX10) (T := TX10) (N := 15) hx hb hw inGX10 hown hK hP 0 rfl rfl 0 (by decide) (hw _ kw_66) (fun _ h9 => h9) rfl dX10_putBytes_18 ?_
  refine lv_aload_n hx hb dX10_putBytes_21 rfl (lv_at hl 1 rfl) ?_
  refine va_get (D := G.1) (ci := 10) (v := .int 14) (C := RX10) (T := TX10) (N := 15) hx hb hw inGX10 hown hK hP 0 rfl rfl 1 (by decide) (hw _ kw_59) (fun _ h9 => h9) rfl dX10_putBytes_22 ?_
  refine lv_iload_n hx hb dX10_putBytes_25 rfl (lv_at hl 2 rfl) ?_
  refine lv_iload_n hx hb dX10_putBytes_26 rfl (lv_at hl 0 rfl) ?_
  refine lv_iushr hx hb dX10_putBytes_27 rfl ?_
  refine lv_topi (fun v13 ev13 => ?_)
  refine lv_i2b hx hb dX10_putBytes_28 rfl ?_
  refine lv_topi (fun v14 ev14 => ?_)
  refine va_bast hx hb hK hP hD hS 1 1 rfl rfl (vp_in_iff.mpr (by decide)) dX10_putBytes_29 (fun H locs hP hD hS => ?_)
  have hP : va_P G.1 vwCl [(x0, .inr (10, [.ref tp, .int 14, .ref rd, .ref nw, .ref sp, .ref im, .ref ir, .ref kp, .ref sl, .ref tk, .ref hn, .ref rc, .ref jn, .ref br, .ref sh])), (tp, .inl (G.2 1, 1600, .inl (upd f10 (14 : Int32).toNatClampNeg (vp_nar .byte v14))))] H := hP
  have hD : va_D A [(x0, .inr (10, [.ref tp, .int 14, .ref rd, .ref nw, .ref sp, .ref im, .ref ir, .ref kp, .ref sl, .ref tk, .ref hn, .ref rc, .ref jn, .ref br, .ref sh])), (tp, .inl (G.2 1, 1600, .inl (upd f10 (14 : Int32).toNatClampNeg (vp_nar .byte v14))))] := hD
  generalize (upd f10 (14 : Int32).toNatClampNeg (vp_nar .byte v14)) = f15 at hP hD
  refine lv_aload_n hx hb dX10_putBytes_30 rfl (lv_at hl 1 rfl) ?_
  refine lv_dup hx hb dX10_putBytes_31 rfl ?_
  refine va_get (D := G.1) (ci := 10) (v := .int 14) (C := RX10) (T := TX10) (N := 15) hx hb hw inGX10 hown hK hP 0 rfl rfl 1 (by decide) (hw _ kw_59) (fun _ h9 => h9) rfl dX10_putBytes_32 ?_
  refine lv_iconst (v := 1) hx hb dX10_putBytes_35 (by decide) ?_
  refine lv_iadd hx hb dX10_putBytes_36 ?_
  refine lv_cst (y := 15) (by decide) ?_
  refine va_put (D := G.1) (ci := 10) (v := .int 15) (ty := .int) (C := RX10) (T := TX10) (N := 15) hx hb hw inGX10 tyX10 tyX10_ok nmX10 hown hK hP hD hS 0 rfl rfl 1 (by decide) (hw _ kw_59) (fun _ h9 => h9) rfl (by decide +kernel) rfl rfl (Nat.le_of_ble_eq_true rfl) dX10_putBytes_37 (fun H locs hP hD hS => ?_)
  have hP : va_P G.1 vwCl [(x0, .inr (10, [.ref tp, .int 15, .ref rd, .ref nw, .ref sp, .ref im, .ref ir, .ref kp, .ref sl, .ref tk, .ref hn, .ref rc, .ref jn, .ref br, .ref sh])), (tp, .inl (G.2 1, 1600, .inl f15))] H := hP
  have hD : va_D A [(x0, .inr (10, [.ref tp, .int 15, .ref rd, .ref nw, .ref sp, .ref im, .ref ir, .ref kp, .ref sl, .ref tk, .ref hn, .ref rc, .ref jn, .ref br, .ref sh])), (tp, .inl (G.2 1, 1600, .inl f15))] := hD
  refine lv_iinc (v := 0) (lv' := [(2, .int 0), (0, .ref x0), (1, .int p0)]) hx hb dX10_putBytes_40 hl (k := 0) rfl (by decide) (by decide) rfl (fun ls hl => ?_)
  refine lv_goto (tgt := 3) hx hb dX10_putBytes_43 (by decide) ?_
  refine lv_iload_n hx hb dX10_putBytes_3 rfl (lv_at hl 0 rfl) ?_
  refine lv_if_lt (tgt := 46) hx hb dX10_putBytes_4 (by decide) (fun c16 => absurd c16 (by decide)) (fun c16 => ?_)
  refine lv_aload_n hx hb dX10_putBytes_7 rfl (lv_at hl 1 rfl) ?_
  refine va_get (D := G.1) (ci := 10) (v := .int 15) (C := RX10) (T := TX10) (N := 15) hx hb hw inGX10 hown hK hP 0 rfl rfl 1 (by decide) (hw _ kw_59) (fun _ h9 => h9) rfl dX10_putBytes_8 ?_
  refine lv_sipush (v := 1600) hx hb dX10_putBytes_11 (by decide) ?_
  refine lv_icmp_ge (tgt := 46) hx hb dX10_putBytes_14 (by decide) (fun c17 => absurd c17 (by decide)) (fun c17 => ?_)
  refine lv_aload_n hx hb dX10_putBytes_17 rfl (lv_at hl 1 rfl) ?_
  refine va_get (D := G.1) (ci := 10) (v := .ref tp) (C := RX10) (T := TX10) (N := 15) hx hb hw inGX10 hown hK hP 0 rfl rfl 0 (by decide) (hw _ kw_66) (fun _ h9 => h9) rfl dX10_putBytes_18 ?_
  refine lv_aload_n hx hb dX10_putBytes_21 rfl (lv_at hl 1 rfl) ?_
  refine va_get (D := G.1) (ci := 10) (v := .int 15) (C := RX10) (T := TX10) (N := 15) hx hb hw inGX10 hown hK hP 0 rfl rfl 1 (by decide) (hw _ kw_59) (fun _ h9 => h9) rfl dX10_putBytes_22 ?_
  refine lv_iload_n hx hb dX10_putBytes_25 rfl (lv_at hl 2 rfl) ?_
  refine lv_iload_n hx hb dX10_putBytes_26 rfl (lv_at hl 0 rfl) ?_
  refine lv_iushr hx hb dX10_putBytes_27 rfl ?_
  refine lv_topi (fun v18 ev18 => ?_)
  refine lv_i2b hx hb dX10_putBytes_28 rfl ?_
  refine lv_topi (fun v19 ev19 => ?_)
  refine va_bast hx hb hK hP hD hS 1 1 rfl rfl (vp_in_iff.mpr (by decide)) dX10_putBytes_29 (fun H locs hP hD hS => ?_)
  have hP : va_P G.1 vwCl [(x0, .inr (10, [.ref tp, .int 15, .ref rd, .ref nw, .ref sp, .ref im, .ref ir, .ref kp, .ref sl, .ref tk, .ref hn, .ref rc, .ref jn, .ref br, .ref sh])), (tp, .inl (G.2 1, 1600, .inl (upd f15 (15 : Int32).toNatClampNeg (vp_nar .byte v19))))] H := hP
  have hD : va_D A [(x0, .inr (10, [.ref tp, .int 15, .ref rd, .ref nw, .ref sp, .ref im, .ref ir, .ref kp, .ref sl, .ref tk, .ref hn, .ref rc, .ref jn, .ref br, .ref sh])), (tp, .inl (G.2 1, 1600, .inl (upd f15 (15 : Int32).toNatClampNeg (vp_nar .byte v19))))] := hD
  generalize (upd f15 (15 : Int32).toNatClampNeg (vp_nar .byte v19)) = f20 at hP hD
  refine lv_aload_n hx hb dX10_putBytes_30 rfl (lv_at hl 1 rfl) ?_
  refine lv_dup hx hb dX10_putBytes_31 rfl ?_
  refine va_get (D := G.1) (ci := 10) (v := .int 15) (C := RX10) (T := TX10) (N := 15) hx hb hw inGX10 hown hK hP 0 rfl rfl 1 (by decide) (hw _ kw_59) (fun _ h9 => h9) rfl dX10_putBytes_32 ?_
  refine lv_iconst (v := 1) hx hb dX10_putBytes_35 (by decide) ?_
  refine lv_iadd hx hb dX10_putBytes_36 ?_
  refine lv_cst (y := 16) (by decide) ?_
  refine va_put (D := G.1) (ci := 10) (v := .int 16) (ty := .int) (C := RX10) (T := TX10) (N := 15) hx hb hw inGX10 tyX10 tyX10_ok nmX10 hown hK hP hD hS 0 rfl rfl 1 (by decide) (hw _ kw_59) (fun _ h9 => h9) rfl (by decide +kernel) rfl rfl (Nat.le_of_ble_eq_true rfl) dX10_putBytes_37 (fun H locs hP hD hS => ?_)
  have hP : va_P G.1 vwCl [(x0, .inr (10, [.ref tp, .int 16, .ref rd, .ref nw, .ref sp, .ref im, .ref ir, .ref kp, .ref sl, .ref tk, .ref hn, .ref rc, .ref jn, .ref br, .ref sh])), (tp, .inl (G.2 1, 1600, .inl f20))] H := hP
  have hD : va_D A [(x0, .inr (10, [.ref tp, .int 16, .ref rd, .ref nw, .ref sp, .ref im, .ref ir, .ref kp, .ref sl, .ref tk, .ref hn, .ref rc, .ref jn, .ref br, .ref sh])), (tp, .inl (G.2 1, 1600, .inl f20))] := hD
  refine lv_iinc (v := (-8)) (lv' := [(2, .int (-8)), (0, .ref x0), (1, .int p0)]) hx hb dX10_putBytes_40 hl (k := 0) rfl (by decide) (by decide) rfl (fun ls hl => ?_)
  refine lv_goto (tgt := 3) hx hb dX10_putBytes_43 (by decide) ?_
  refine lv_iload_n hx hb dX10_putBytes_3 rfl (lv_at hl 0 rfl) ?_
  refine lv_if_lt (tgt := 46) hx hb dX10_putBytes_4 (by decide) (fun c21 => ?_) (fun c21 => absurd (by decide) c21)
  exact W.vret hx hb hr (fun t ht hW => ⟨⟨f20, rfl, trivial, ⟨by rw [ht]; exact hP.sub [0, 1] rfl, hD.sub [0, 1] (by decide +kernel) rfl⟩⟩, hS.F ht⟩) hS.2.2 dX10_putBytes_46
set_option maxHeartbeats 4000000 in
set_option maxRecDepth 100000 in
theorem c_putBytes_16 (l : Launch) (G : KG) (x0 : Nat) (tp : Nat) (rd : Nat) (nw : Nat) (sp : Nat) (im : Nat) (ir : Nat) (kp : Nat) (sl : Nat) (tk : Nat) (hn : Nat) (rc : Nat) (jn : Nat) (br : Nat) (sh : Nat) (f0 : Nat → Int32) (p0 : Int32) (sz : Nat) : Met l yX10_putBytes wgX10_putBytes ({ frames := 0, cells := 0, slots := 0, locals := 0 }) (preQ G [.ref x0, .int p0] sz [(x0, .inr (10, [.ref tp, .int 16, .ref rd, .ref nw, .ref sp, .ref im, .ref ir, .ref kp, .ref sl, .ref tk, .ref hn, .ref rc, .ref jn, .ref br, .ref sh])), (tp, .inl (G.2 1, 1600, .inl f0))]) (va_Qv (fun (u : (Nat → Int32)) => True) (fun u t => atQ G (va_A [(x0, .inr (10, [.ref tp, .int 16, .ref rd, .ref nw, .ref sp, .ref im, .ref ir, .ref kp, .ref sl, .ref tk, .ref hn, .ref rc, .ref jn, .ref br, .ref sh])), (tp, .inl (G.2 1, 1600, .inl f0))] sz) [(x0, .inr (10, [.ref tp, .int 20, .ref rd, .ref nw, .ref sp, .ref im, .ref ir, .ref kp, .ref sl, .ref tk, .ref hn, .ref rc, .ref jn, .ref br, .ref sh])), (tp, .inl (G.2 1, 1600, .inl u))] t) (va_A [(x0, .inr (10, [.ref tp, .int 16, .ref rd, .ref nw, .ref sp, .ref im, .ref ir, .ref kp, .ref sl, .ref tk, .ref hn, .ref rc, .ref jn, .ref br, .ref sh])), (tp, .inl (G.2 1, 1600, .inl f0))] sz)) 0 0 (va_A [(x0, .inr (10, [.ref tp, .int 16, .ref rd, .ref nw, .ref sp, .ref im, .ref ir, .ref kp, .ref sl, .ref tk, .ref hn, .ref rc, .ref jn, .ref br, .ref sh])), (tp, .inl (G.2 1, 1600, .inl f0))] sz) := by
  refine Met.ofW (cc := cX10_putBytes) (maxL := 3) (ret := none) (by decide) rfl ?_
  intro p e s m args below meth c s₁ B hml hv
  obtain ⟨rfl, hsz, hP, hKG, hD0⟩ := hv
  obtain ⟨hK, hAO⟩ := id hKG
  have hx := B.exec
  have hb := B.bytes
  have hr := B.returns
  have hts := atoms_spec (ws := wgX10_putBytes) B.pre
  have hw : ∀ w ∈ wG, w.before _ s = true := fun w h => hts w (List.mem_cons_of_mem _ h)
  have hown : s.vm.findClass RX10 = some m.cls := findClass_of_methodNamed B.named
  have hlocks := B.notSynchronized
  subst hsz
  have hD := hD0.self (sz := s.heap.size)
  generalize hAe : va_A [(x0, .inr (10, [.ref tp, .int 16, .ref rd, .ref nw, .ref sp, .ref im, .ref ir, .ref kp, .ref sl, .ref tk, .ref hn, .ref rc, .ref jn, .ref br, .ref sh])), (tp, .inl (G.2 1, 1600, .inl f0))] s.heap.size = A at hD ⊢
  have hA : ∀ q : Nat, s.heap.size ≤ q → A q := fun q h => by rw [← hAe]; exact Or.inr h
  have hS : va_S A s.heap s.heap [] := va_S.rf
  have hl := lv_entry ([.ref x0, .int p0]) (n := 3) (Nat.le_of_ble_eq_true rfl)
  rw [lg_entry_eq]
  generalize (lg_sl ([.ref x0, .int p0]) ++ List.replicate (3 - (lg_sl ([.ref x0, .int p0])).length) Slot.unset).toArray = ls at hl ⊢
  have hl : lv_has ls 3 [(0, .ref x0), (1, .int p0)] := hl
  refine lv_bipush (v := 24) hx hb dX10_putBytes_0 (by decide) ?_
  refine lv_istore_n (lv' := [(2, .int 24), (0, .ref x0), (1, .int p0)]) hx hb dX10_putBytes_2 rfl hl (by decide) rfl (fun ls hl => ?_)
  refine lv_iload_n hx hb dX10_putBytes_3 rfl (lv_at hl 0 rfl) ?_
  refine lv_if_lt (tgt := 46) hx hb dX10_putBytes_4 (by decide) (fun c1 => absurd c1 (by decide)) (fun c1 => ?_)
  refine lv_aload_n hx hb dX10_putBytes_7 rfl (lv_at hl 1 rfl) ?_
  refine va_get (D := G.1) (ci := 10) (v := .int 16) (C := RX10) (T := TX10) (N := 15) hx hb hw inGX10 hown hK hP 0 rfl rfl 1 (by decide) (hw _ kw_59) (fun _ h9 => h9) rfl dX10_putBytes_8 ?_
  refine lv_sipush (v := 1600) hx hb dX10_putBytes_11 (by decide) ?_
  refine lv_icmp_ge (tgt := 46) hx hb dX10_putBytes_14 (by decide) (fun c2 => absurd c2 (by decide)) (fun c2 => ?_)
  refine lv_aload_n hx hb dX10_putBytes_17 rfl (lv_at hl 1 rfl) ?_
  refine va_get (D := G.1) (ci := 10) (v := .ref tp) (C := RX10) (T := TX10) (N := 15) hx hb hw inGX10 hown hK hP 0 rfl rfl 0 (by decide) (hw _ kw_66) (fun _ h9 => h9) rfl dX10_putBytes_18 ?_
  refine lv_aload_n hx hb dX10_putBytes_21 rfl (lv_at hl 1 rfl) ?_
  refine va_get (D := G.1) (ci := 10) (v := .int 16) (C := RX10) (T := TX10) (N := 15) hx hb hw inGX10 hown hK hP 0 rfl rfl 1 (by decide) (hw _ kw_59) (fun _ h9 => h9) rfl dX10_putBytes_22 ?_
  refine lv_iload_n hx hb dX10_putBytes_25 rfl (lv_at hl 2 rfl) ?_
  refine lv_iload_n hx hb dX10_putBytes_26 rfl (lv_at hl 0 rfl) ?_
  refine lv_iushr hx hb dX10_putBytes_27 rfl ?_
  refine lv_topi (fun v3 ev3 => ?_)
  refine lv_i2b hx hb dX10_putBytes_28 rfl ?_
  refine lv_topi (fun v4 ev4 => ?_)
  refine va_bast hx hb hK hP hD hS 1 1 rfl rfl (vp_in_iff.mpr (by decide)) dX10_putBytes_29 (fun H locs hP hD hS => ?_)
  have hP : va_P G.1 vwCl [(x0, .inr (10, [.ref tp, .int 16, .ref rd, .ref nw, .ref sp, .ref im, .ref ir, .ref kp, .ref sl, .ref tk, .ref hn, .ref rc, .ref jn, .ref br, .ref sh])), (tp, .inl (G.2 1, 1600, .inl (upd f0 (16 : Int32).toNatClampNeg (vp_nar .byte v4))))] H := hP
  have hD : va_D A [(x0, .inr (10, [.ref tp, .int 16, .ref rd, .ref nw, .ref sp, .ref im, .ref ir, .ref kp, .ref sl, .ref tk, .ref hn, .ref rc, .ref jn, .ref br, .ref sh])), (tp, .inl (G.2 1, 1600, .inl (upd f0 (16 : Int32).toNatClampNeg (vp_nar .byte v4))))] := hD
  generalize (upd f0 (16 : Int32).toNatClampNeg (vp_nar .byte v4)) = f5 at hP hD
  refine lv_aload_n hx hb dX10_putBytes_30 rfl (lv_at hl 1 rfl) ?_
  refine lv_dup hx hb dX10_putBytes_31 rfl ?_
  refine va_get (D := G.1) (ci := 10) (v := .int 16) (C := RX10) (T := TX10) (N := 15) hx hb hw inGX10 hown hK hP 0 rfl rfl 1 (by decide) (hw _ kw_59) (fun _ h9 => h9) rfl dX10_putBytes_32 ?_
  refine lv_iconst (v := 1) hx hb dX10_putBytes_35 (by decide) ?_
  refine lv_iadd hx hb dX10_putBytes_36 ?_
  refine lv_cst (y := 17) (by decide) ?_
  refine va_put (D := G.1) (ci := 10) (v := .int 17) (ty := .int) (C := RX10) (T := TX10) (N := 15) hx hb hw inGX10 tyX10 tyX10_ok nmX10 hown hK hP hD hS 0 rfl rfl 1 (by decide) (hw _ kw_59) (fun _ h9 => h9) rfl (by decide +kernel) rfl rfl (Nat.le_of_ble_eq_true rfl) dX10_putBytes_37 (fun H locs hP hD hS => ?_)
  have hP : va_P G.1 vwCl [(x0, .inr (10, [.ref tp, .int 17, .ref rd, .ref nw, .ref sp, .ref im, .ref ir, .ref kp, .ref sl, .ref tk, .ref hn, .ref rc, .ref jn, .ref br, .ref sh])), (tp, .inl (G.2 1, 1600, .inl f5))] H := hP
  have hD : va_D A [(x0, .inr (10, [.ref tp, .int 17, .ref rd, .ref nw, .ref sp, .ref im, .ref ir, .ref kp, .ref sl, .ref tk, .ref hn, .ref rc, .ref jn, .ref br, .ref sh])), (tp, .inl (G.2 1, 1600, .inl f5))] := hD
  refine lv_iinc (v := 16) (lv' := [(2, .int 16), (0, .ref x0), (1, .int p0)]) hx hb dX10_putBytes_40 hl (k := 0) rfl (by decide) (by decide) rfl (fun ls hl => ?_)
  refine lv_goto (tgt := 3) hx hb dX10_putBytes_43 (by decide) ?_
  refine lv_iload_n hx hb dX10_putBytes_3 rfl (lv_at hl 0 rfl) ?_
  refine lv_if_lt (tgt := 46) hx hb dX10_putBytes_4 (by decide) (fun c6 => absurd c6 (by decide)) (fun c6 => ?_)
  refine lv_aload_n hx hb dX10_putBytes_7 rfl (lv_at hl 1 rfl) ?_
  refine va_get (D := G.1) (ci := 10) (v := .int 17) (C := RX10) (T := TX10) (N := 15) hx hb hw inGX10 hown hK hP 0 rfl rfl 1 (by decide) (hw _ kw_59) (fun _ h9 => h9) rfl dX10_putBytes_8 ?_
  refine lv_sipush (v := 1600) hx hb dX10_putBytes_11 (by decide) ?_
  refine lv_icmp_ge (tgt := 46) hx hb dX10_putBytes_14 (by decide) (fun c7 => absurd c7 (by decide)) (fun c7 => ?_)
  refine lv_aload_n hx hb dX10_putBytes_17 rfl (lv_at hl 1 rfl) ?_
  refine va_get (D := G.1) (ci := 10) (v := .ref tp) (C := RX10) (T := TX10) (N := 15) hx hb hw inGX10 hown hK hP 0 rfl rfl 0 (by decide) (hw _ kw_66) (fun _ h9 => h9) rfl dX10_putBytes_18 ?_
  refine lv_aload_n hx hb dX10_putBytes_21 rfl (lv_at hl 1 rfl) ?_
  refine va_get (D := G.1) (ci := 10) (v := .int 17) (C := RX10) (T := TX10) (N := 15) hx hb hw inGX10 hown hK hP 0 rfl rfl 1 (by decide) (hw _ kw_59) (fun _ h9 => h9) rfl dX10_putBytes_22 ?_
  refine lv_iload_n hx hb dX10_putBytes_25 rfl (lv_at hl 2 rfl) ?_
  refine lv_iload_n hx hb dX10_putBytes_26 rfl (lv_at hl 0 rfl) ?_
  refine lv_iushr hx hb dX10_putBytes_27 rfl ?_
  refine lv_topi (fun v8 ev8 => ?_)
  refine lv_i2b hx hb dX10_putBytes_28 rfl ?_
  refine lv_topi (fun v9 ev9 => ?_)
  refine va_bast hx hb hK hP hD hS 1 1 rfl rfl (vp_in_iff.mpr (by decide)) dX10_putBytes_29 (fun H locs hP hD hS => ?_)
  have hP : va_P G.1 vwCl [(x0, .inr (10, [.ref tp, .int 17, .ref rd, .ref nw, .ref sp, .ref im, .ref ir, .ref kp, .ref sl, .ref tk, .ref hn, .ref rc, .ref jn, .ref br, .ref sh])), (tp, .inl (G.2 1, 1600, .inl (upd f5 (17 : Int32).toNatClampNeg (vp_nar .byte v9))))] H := hP
  have hD : va_D A [(x0, .inr (10, [.ref tp, .int 17, .ref rd, .ref nw, .ref sp, .ref im, .ref ir, .ref kp, .ref sl, .ref tk, .ref hn, .ref rc, .ref jn, .ref br, .ref sh])), (tp, .inl (G.2 1, 1600, .inl (upd f5 (17 : Int32).toNatClampNeg (vp_nar .byte v9))))] := hD
  generalize (upd f5 (17 : Int32).toNatClampNeg (vp_nar .byte v9)) = f10 at hP hD
  refine lv_aload_n hx hb dX10_putBytes_30 rfl (lv_at hl 1 rfl) ?_
  refine lv_dup hx hb dX10_putBytes_31 rfl ?_
  refine va_get (D := G.1) (ci := 10) (v := .int 17) (C := RX10) (T := TX10) (N := 15) hx hb hw inGX10 hown hK hP 0 rfl rfl 1 (by decide) (hw _ kw_59) (fun _ h9 => h9) rfl dX10_putBytes_32 ?_
  refine lv_iconst (v := 1) hx hb dX10_putBytes_35 (by decide) ?_
  refine lv_iadd hx hb dX10_putBytes_36 ?_
  refine lv_cst (y := 18) (by decide) ?_
  refine va_put (D := G.1) (ci := 10) (v := .int 18) (ty := .int) (C := RX10) (T := TX10) (N := 15) hx hb hw inGX10 tyX10 tyX10_ok nmX10 hown hK hP hD hS 0 rfl rfl 1 (by decide) (hw _ kw_59) (fun _ h9 => h9) rfl (by decide +kernel) rfl rfl (Nat.le_of_ble_eq_true rfl) dX10_putBytes_37 (fun H locs hP hD hS => ?_)
  have hP : va_P G.1 vwCl [(x0, .inr (10, [.ref tp, .int 18, .ref rd, .ref nw, .ref sp, .ref im, .ref ir, .ref kp, .ref sl, .ref tk, .ref hn, .ref rc, .ref jn, .ref br, .ref sh])), (tp, .inl (G.2 1, 1600, .inl f10))] H := hP
  have hD : va_D A [(x0, .inr (10, [.ref tp, .int 18, .ref rd, .ref nw, .ref sp, .ref im, .ref ir, .ref kp, .ref sl, .ref tk, .ref hn, .ref rc, .ref jn, .ref br, .ref sh])), (tp, .inl (G.2 1, 1600, .inl f10))] := hD
  refine lv_iinc (v := 8) (lv' := [(2, .int 8), (0, .ref x0), (1, .int p0)]) hx hb dX10_putBytes_40 hl (k := 0) rfl (by decide) (by decide) rfl (fun ls hl => ?_)
  refine lv_goto (tgt := 3) hx hb dX10_putBytes_43 (by decide) ?_
  refine lv_iload_n hx hb dX10_putBytes_3 rfl (lv_at hl 0 rfl) ?_
  refine lv_if_lt (tgt := 46) hx hb dX10_putBytes_4 (by decide) (fun c11 => absurd c11 (by decide)) (fun c11 => ?_)
  refine lv_aload_n hx hb dX10_putBytes_7 rfl (lv_at hl 1 rfl) ?_
  refine va_get (D := G.1) (ci := 10) (v := .int 18) (C := RX10) (T := TX10) (N := 15) hx hb hw inGX10 hown hK hP 0 rfl rfl 1 (by decide) (hw _ kw_59) (fun _ h9 => h9) rfl dX10_putBytes_8 ?_
  refine lv_sipush (v := 1600) hx hb dX10_putBytes_11 (by decide) ?_
  refine lv_icmp_ge (tgt := 46) hx hb dX10_putBytes_14 (by decide) (fun c12 => absurd c12 (by decide)) (fun c12 => ?_)
  refine lv_aload_n hx hb dX10_putBytes_17 rfl (lv_at hl 1 rfl) ?_
  refine va_get (D := G.1) (ci := 10) (v := .ref tp) (C := RX10) (T := TX10) (N := 15) hx hb hw inGX10 hown hK hP 0 rfl rfl 0 (by decide) (hw _ kw_66) (fun _ h9 => h9) rfl dX10_putBytes_18 ?_
  refine lv_aload_n hx hb dX10_putBytes_21 rfl (lv_at hl 1 rfl) ?_
  refine va_get (D := G.1) (ci := 10) (v := .int 18) (C := RX10) (T := TX10) (N := 15) hx hb hw inGX10 hown hK hP 0 rfl rfl 1 (by decide) (hw _ kw_59) (fun _ h9 => h9) rfl dX10_putBytes_22 ?_
  refine lv_iload_n hx hb dX10_putBytes_25 rfl (lv_at hl 2 rfl) ?_
  refine lv_iload_n hx hb dX10_putBytes_26 rfl (lv_at hl 0 rfl) ?_
  refine lv_iushr hx hb dX10_putBytes_27 rfl ?_
  refine lv_topi (fun v13 ev13 => ?_)
  refine lv_i2b hx hb dX10_putBytes_28 rfl ?_
  refine lv_topi (fun v14 ev14 => ?_)
  refine va_bast hx hb hK hP hD hS 1 1 rfl rfl (vp_in_iff.mpr (by decide)) dX10_putBytes_29 (fun H locs hP hD hS => ?_)
  have hP : va_P G.1 vwCl [(x0, .inr (10, [.ref tp, .int 18, .ref rd, .ref nw, .ref sp, .ref im, .ref ir, .ref kp, .ref sl, .ref tk, .ref hn, .ref rc, .ref jn, .ref br, .ref sh])), (tp, .inl (G.2 1, 1600, .inl (upd f10 (18 : Int32).toNatClampNeg (vp_nar .byte v14))))] H := hP
  have hD : va_D A [(x0, .inr (10, [.ref tp, .int 18, .ref rd, .ref nw, .ref sp, .ref im, .ref ir, .ref kp, .ref sl, .ref tk, .ref hn, .ref rc, .ref jn, .ref br, .ref sh])), (tp, .inl (G.2 1, 1600, .inl (upd f10 (18 : Int32).toNatClampNeg (vp_nar .byte v14))))] := hD
  generalize (upd f10 (18 : Int32).toNatClampNeg (vp_nar .byte v14)) = f15 at hP hD
  refine lv_aload_n hx hb dX10_putBytes_30 rfl (lv_at hl 1 rfl) ?_
  refine lv_dup hx hb dX10_putBytes_31 rfl ?_
  refine va_get (D := G.1) (ci := 10) (v := .int 18) (C := RX10) (T := TX10) (N := 15) hx hb hw inGX10 hown hK hP 0 rfl rfl 1 (by decide) (hw _ kw_59) (fun _ h9 => h9) rfl dX10_putBytes_32 ?_
  refine lv_iconst (v := 1) hx hb dX10_putBytes_35 (by decide) ?_
  refine lv_iadd hx hb dX10_putBytes_36 ?_
  refine lv_cst (y := 19) (by decide) ?_
  refine va_put (D := G.1) (ci := 10) (v := .int 19) (ty := .int) (C := RX10) (T := TX10) (N := 15) hx hb hw inGX10 tyX10 tyX10_ok nmX10 hown hK hP hD hS 0 rfl rfl 1 (by decide) (hw _ kw_59) (fun _ h9 => h9) rfl (by decide +kernel) rfl rfl (Nat.le_of_ble_eq_true rfl) dX10_putBytes_37 (fun H locs hP hD hS => ?_)
  have hP : va_P G.1 vwCl [(x0, .inr (10, [.ref tp, .int 19, .ref rd, .ref nw, .ref sp, .ref im, .ref ir, .ref kp, .ref sl, .ref tk, .ref hn, .ref rc, .ref jn, .ref br, .ref sh])), (tp, .inl (G.2 1, 1600, .inl f15))] H := hP
  have hD : va_D A [(x0, .inr (10, [.ref tp, .int 19, .ref rd, .ref nw, .ref sp, .ref im, .ref ir, .ref kp, .ref sl, .ref tk, .ref hn, .ref rc, .ref jn, .ref br, .ref sh])), (tp, .inl (G.2 1, 1600, .inl f15))] := hD
  refine lv_iinc (v := 0) (lv' := [(2, .int 0), (0, .ref x0), (1, .int p0)]) hx hb dX10_putBytes_40 hl (k := 0) rfl (by decide) (by decide) rfl (fun ls hl => ?_)
  refine lv_goto (tgt := 3) hx hb dX10_putBytes_43 (by decide) ?_
  refine lv_iload_n hx hb dX10_putBytes_3 rfl (lv_at hl 0 rfl) ?_
  refine lv_if_lt (tgt := 46) hx hb dX10_putBytes_4 (by decide) (fun c16 => absurd c16 (by decide)) (fun c16 => ?_)
  refine lv_aload_n hx hb dX10_putBytes_7 rfl (lv_at hl 1 rfl) ?_
  refine va_get (D := G.1) (ci := 10) (v := .int 19) (C := RX10) (T := TX10) (N := 15) hx hb hw inGX10 hown hK hP 0 rfl rfl 1 (by decide) (hw _ kw_59) (fun _ h9 => h9) rfl dX10_putBytes_8 ?_
  refine lv_sipush (v := 1600) hx hb dX10_putBytes_11 (by decide) ?_
  refine lv_icmp_ge (tgt := 46) hx hb dX10_putBytes_14 (by decide) (fun c17 => absurd c17 (by decide)) (fun c17 => ?_)
  refine lv_aload_n hx hb dX10_putBytes_17 rfl (lv_at hl 1 rfl) ?_
  refine va_get (D := G.1) (ci := 10) (v := .ref tp) (C := RX10) (T := TX10) (N := 15) hx hb hw inGX10 hown hK hP 0 rfl rfl 0 (by decide) (hw _ kw_66) (fun _ h9 => h9) rfl dX10_putBytes_18 ?_
  refine lv_aload_n hx hb dX10_putBytes_21 rfl (lv_at hl 1 rfl) ?_
  refine va_get (D := G.1) (ci := 10) (v := .int 19) (C := RX10) (T := TX10) (N := 15) hx hb hw inGX10 hown hK hP 0 rfl rfl 1 (by decide) (hw _ kw_59) (fun _ h9 => h9) rfl dX10_putBytes_22 ?_
  refine lv_iload_n hx hb dX10_putBytes_25 rfl (lv_at hl 2 rfl) ?_
  refine lv_iload_n hx hb dX10_putBytes_26 rfl (lv_at hl 0 rfl) ?_
  refine lv_iushr hx hb dX10_putBytes_27 rfl ?_
  refine lv_topi (fun v18 ev18 => ?_)
  refine lv_i2b hx hb dX10_putBytes_28 rfl ?_
  refine lv_topi (fun v19 ev19 => ?_)
  refine va_bast hx hb hK hP hD hS 1 1 rfl rfl (vp_in_iff.mpr (by decide)) dX10_putBytes_29 (fun H locs hP hD hS => ?_)
  have hP : va_P G.1 vwCl [(x0, .inr (10, [.ref tp, .int 19, .ref rd, .ref nw, .ref sp, .ref im, .ref ir, .ref kp, .ref sl, .ref tk, .ref hn, .ref rc, .ref jn, .ref br, .ref sh])), (tp, .inl (G.2 1, 1600, .inl (upd f15 (19 : Int32).toNatClampNeg (vp_nar .byte v19))))] H := hP
  have hD : va_D A [(x0, .inr (10, [.ref tp, .int 19, .ref rd, .ref nw, .ref sp, .ref im, .ref ir, .ref kp, .ref sl, .ref tk, .ref hn, .ref rc, .ref jn, .ref br, .ref sh])), (tp, .inl (G.2 1, 1600, .inl (upd f15 (19 : Int32).toNatClampNeg (vp_nar .byte v19))))] := hD
  generalize (upd f15 (19 : Int32).toNatClampNeg (vp_nar .byte v19)) = f20 at hP hD
  refine lv_aload_n hx hb dX10_putBytes_30 rfl (lv_at hl 1 rfl) ?_
  refine lv_dup hx hb dX10_putBytes_31 rfl ?_
  refine va_get (D := G.1) (ci := 10) (v := .int 19) (C := RX10) (T := TX10) (N := 15) hx hb hw inGX10 hown hK hP 0 rfl rfl 1 (by decide) (hw _ kw_59) (fun _ h9 => h9) rfl dX10_putBytes_32 ?_
  refine lv_iconst (v := 1) hx hb dX10_putBytes_35 (by decide) ?_
  refine lv_iadd hx hb dX10_putBytes_36 ?_
  refine lv_cst (y := 20) (by decide) ?_
  refine va_put (D := G.1) (ci := 10) (v := .int 20) (ty := .int) (C := RX10) (T := TX10) (N := 15) hx hb hw inGX10 tyX10 tyX10_ok nmX10 hown hK hP hD hS 0 rfl rfl 1 (by decide) (hw _ kw_59) (fun _ h9 => h9) rfl (by decide +kernel) rfl rfl (Nat.le_of_ble_eq_true rfl) dX10_putBytes_37 (fun H locs hP hD hS => ?_)
  have hP : va_P G.1 vwCl [(x0, .inr (10, [.ref tp, .int 20, .ref rd, .ref nw, .ref sp, .ref im, .ref ir, .ref kp, .ref sl, .ref tk, .ref hn, .ref rc, .ref jn, .ref br, .ref sh])), (tp, .inl (G.2 1, 1600, .inl f20))] H := hP
  have hD : va_D A [(x0, .inr (10, [.ref tp, .int 20, .ref rd, .ref nw, .ref sp, .ref im, .ref ir, .ref kp, .ref sl, .ref tk, .ref hn, .ref rc, .ref jn, .ref br, .ref sh])), (tp, .inl (G.2 1, 1600, .inl f20))] := hD
  refine lv_iinc (v := (-8)) (lv' := [(2, .int (-8)), (0, .ref x0), (1, .int p0)]) hx hb dX10_putBytes_40 hl (k := 0) rfl (by decide) (by decide) rfl (fun ls hl => ?_)
  refine lv_goto (tgt := 3) hx hb dX10_putBytes_43 (by decide) ?_
  refine lv_iload_n hx hb dX10_putBytes_3 rfl (lv_at hl 0 rfl) ?_
  refine lv_if_lt (tgt := 46) hx hb dX10_putBytes_4 (by decide) (fun c21 => ?_) (fun c21 => absurd (by decide) c21)
  exact W.vret hx hb hr (fun t ht hW => ⟨⟨f20, rfl, trivial, ⟨by rw [ht]; exact hP.sub [0, 1] rfl, hD.sub [0, 1] (by decide +kernel) rfl⟩⟩, hS.F ht⟩) hS.2.2 dX10_putBytes_46
set_option maxHeartbeats 4000000 in
set_option maxRecDepth 100000 in
theorem c_X10_feed (l : Launch) (G : KG) (x0 : Nat) (tp : Nat) (rd : Nat) (nw : Nat) (sp : Nat) (im : Nat) (ir : Nat) (kp : Nat) (sl : Nat) (tk : Nat) (hn : Nat) (rc : Nat) (jn : Nat) (br : Nat) (sh : Nat) (f0 : Nat → Int32) (p0 : Int32) (p1 : Int32) (p2 : Int32) (p3 : Int32) (p4 : Int32) (sz : Nat) : Met l yX10_feed wgX10_feed ({ frames := 1, cells := 0, slots := 0, locals := 22 }) (preQ G [.ref x0, .int p0, .int p1, .int p2, .int p3, .int p4] sz [(x0, .inr (10, [.ref tp, .int 0, .ref rd, .ref nw, .ref sp, .ref im, .ref ir, .ref kp, .ref sl, .ref tk, .ref hn, .ref rc, .ref jn, .ref br, .ref sh])), (tp, .inl (G.2 1, 1600, .inl f0))]) (va_Qi (fun (r : Int32) (u : Unit) => (r = 20)) (fun u t => atQ G (va_A [(x0, .inr (10, [.ref tp, .int 0, .ref rd, .ref nw, .ref sp, .ref im, .ref ir, .ref kp, .ref sl, .ref tk, .ref hn, .ref rc, .ref jn, .ref br, .ref sh])), (tp, .inl (G.2 1, 1600, .inl f0))] sz) [] t) (va_A [(x0, .inr (10, [.ref tp, .int 0, .ref rd, .ref nw, .ref sp, .ref im, .ref ir, .ref kp, .ref sl, .ref tk, .ref hn, .ref rc, .ref jn, .ref br, .ref sh])), (tp, .inl (G.2 1, 1600, .inl f0))] sz)) 0 0 (va_A [(x0, .inr (10, [.ref tp, .int 0, .ref rd, .ref nw, .ref sp, .ref im, .ref ir, .ref kp, .ref sl, .ref tk, .ref hn, .ref rc, .ref jn, .ref br, .ref sh])), (tp, .inl (G.2 1, 1600, .inl f0))] sz) := by
  refine Met.ofW (cc := cX10_feed) (maxL := 6) (ret := (some .int)) (by decide) rfl ?_
  intro p e s m args below meth c s₁ B hml hv
  obtain ⟨rfl, hsz, hP, hKG, hD0⟩ := hv
  obtain ⟨hK, hAO⟩ := id hKG
  have hx := B.exec
  have hb := B.bytes
  have hr := B.returns
  have hts := atoms_spec (ws := wgX10_feed) B.pre
  have hw : ∀ w ∈ wG, w.before _ s = true := fun w h => hts w (List.mem_cons_of_mem _ h)
  have hown : s.vm.findClass RX10 = some m.cls := findClass_of_methodNamed B.named
  have hlocks := B.notSynchronized
  subst hsz
  have hD := hD0.self (sz := s.heap.size)
  generalize hAe : va_A [(x0, .inr (10, [.ref tp, .int 0, .ref rd, .ref nw, .ref sp, .ref im, .ref ir, .ref kp, .ref sl, .ref tk, .ref hn, .ref rc, .ref jn, .ref br, .ref sh])), (tp, .inl (G.2 1, 1600, .inl f0))] s.heap.size = A at hD ⊢
  have hA : ∀ q : Nat, s.heap.size ≤ q → A q := fun q h => by rw [← hAe]; exact Or.inr h
  have hS : va_S A s.heap s.heap [] := va_S.rf
  have hl := lv_entry ([.ref x0, .int p0, .int p1, .int p2, .int p3, .int p4]) (n := 6) (Nat.le_of_ble_eq_true rfl)
  rw [lg_entry_eq]
  generalize (lg_sl ([.ref x0, .int p0, .int p1, .int p2, .int p3, .int p4]) ++ List.replicate (6 - (lg_sl ([.ref x0, .int p0, .int p1, .int p2, .int p3, .int p4])).length) Slot.unset).toArray = ls at hl ⊢
  have hl : lv_has ls 6 [(0, .ref x0), (1, .int p0), (2, .int p1), (3, .int p2), (4, .int p3), (5, .int p4)] := hl
  refine lv_aload_n hx hb dX10_feed_0 rfl (lv_at hl 0 rfl) ?_
  refine va_get (D := G.1) (ci := 10) (v := .int 0) (C := RX10) (T := TX10) (N := 15) hx hb hw inGX10 hown hK hP 0 rfl rfl 1 (by decide) (hw _ kw_59) (fun _ h9 => h9) rfl dX10_feed_1 ?_
  refine lv_sipush (v := 1580) hx hb dX10_feed_4 (by decide) ?_
  refine lv_icmp_le (tgt := 12) hx hb dX10_feed_7 (by decide) (fun c1 => ?_) (fun c1 => absurd (by decide) c1)
  refine lv_aload_n hx hb dX10_feed_12 rfl (lv_at hl 0 rfl) ?_
  refine lv_iload_n hx hb dX10_feed_13 rfl (lv_at hl 1 rfl) ?_
  refine wq_callv (wr := []) (va_runV (As := [.int p0]) (rest := []) ⟨hx, hb, hml, hown, hw⟩ (c_putBytes_0 l G x0 tp rd nw sp im ir kp sl tk hn rc jn br sh f0 p0 s.heap.size) (cwV 1 hw (gdV kw_68 kw_69 kw_70 kw_8 kw_67) rfl rfl rfl ⟨rfl, hdX10_putBytes⟩ ⟨(Nat.le_of_ble_eq_true rfl), (Nat.le_of_ble_eq_true rfl)⟩) (preQ_V (wc := [(x0, .inr (10, [.ref tp, .int 0, .ref rd, .ref nw, .ref sp, .ref im, .ref ir, .ref kp, .ref sl, .ref tk, .ref hn, .ref rc, .ref jn, .ref br, .ref sh])), (tp, .inl (G.2 1, 1600, .inl f0))]) (ci := 10) hKG hP hD [0, 1] (by decide +kernel) rfl rfl rfl) rfl rfl hl.1 rfl (lv_room (Nat.le_of_ble_eq_true rfl)) dX10_feed_14 ⟨(Nat.le_of_ble_eq_true rfl), (Nat.le_of_ble_eq_true rfl)⟩) hS hP hD hA [0, 1] [] rfl rfl (by decide +kernel) (by decide +kernel) (fun u4 H locs hr2 hP hD hS => ?_)
  obtain ⟨g_3, rfl⟩ : ∃ z, z = u4 := ⟨_, rfl⟩
  have hP : va_P G.1 vwCl [(x0, .inr (10, [.ref tp, .int 4, .ref rd, .ref nw, .ref sp, .ref im, .ref ir, .ref kp, .ref sl, .ref tk, .ref hn, .ref rc, .ref jn, .ref br, .ref sh])), (tp, .inl (G.2 1, 1600, .inl g_3))] H := hP
  have hD : va_D A [(x0, .inr (10, [.ref tp, .int 4, .ref rd, .ref nw, .ref sp, .ref im, .ref ir, .ref kp, .ref sl, .ref tk, .ref hn, .ref rc, .ref jn, .ref br, .ref sh])), (tp, .inl (G.2 1, 1600, .inl g_3))] := hD
  refine W.widen (k := 0) (n := 0) (Nat.le_of_ble_eq_true rfl) (Nat.le_of_ble_eq_true rfl) ?_
  refine lv_aload_n hx hb dX10_feed_17 rfl (lv_at hl 0 rfl) ?_
  refine lv_iload_n hx hb dX10_feed_18 rfl (lv_at hl 2 rfl) ?_
  refine wq_callv (wr := []) (va_runV (As := [.int p1]) (rest := []) ⟨hx, hb, hml, hown, hw⟩ (c_putBytes_4 l G x0 tp rd nw sp im ir kp sl tk hn rc jn br sh g_3 p1 H.size) (cwV 1 hw (gdV kw_68 kw_69 kw_70 kw_8 kw_67) rfl rfl rfl ⟨rfl, hdX10_putBytes⟩ ⟨(Nat.le_of_ble_eq_true rfl), (Nat.le_of_ble_eq_true rfl)⟩) (preQ_V (wc := [(x0, .inr (10, [.ref tp, .int 4, .ref rd, .ref nw, .ref sp, .ref im, .ref ir, .ref kp, .ref sl, .ref tk, .ref hn, .ref rc, .ref jn, .ref br, .ref sh])), (tp, .inl (G.2 1, 1600, .inl g_3))]) (ci := 10) hKG hP hD [0, 1] (by decide +kernel) rfl rfl rfl) rfl rfl hl.1 rfl (lv_room (Nat.le_of_ble_eq_true rfl)) dX10_feed_19 ⟨(Nat.le_of_ble_eq_true rfl), (Nat.le_of_ble_eq_true rfl)⟩) hS hP hD hA [0, 1] [] rfl rfl (by decide +kernel) (by decide +kernel) (fun u7 H locs hr5 hP hD hS => ?_)
  obtain ⟨g_6, rfl⟩ : ∃ z, z = u7 := ⟨_, rfl⟩
  have hP : va_P G.1 vwCl [(x0, .inr (10, [.ref tp, .int 8, .ref rd, .ref nw, .ref sp, .ref im, .ref ir, .ref kp, .ref sl, .ref tk, .ref hn, .ref rc, .ref jn, .ref br, .ref sh])), (tp, .inl (G.2 1, 1600, .inl g_6))] H := hP
  have hD : va_D A [(x0, .inr (10, [.ref tp, .int 8, .ref rd, .ref nw, .ref sp, .ref im, .ref ir, .ref kp, .ref sl, .ref tk, .ref hn, .ref rc, .ref jn, .ref br, .ref sh])), (tp, .inl (G.2 1, 1600, .inl g_6))] := hD
  refine W.widen (k := 0) (n := 0) (Nat.le_of_ble_eq_true rfl) (Nat.le_of_ble_eq_true rfl) ?_
  refine lv_aload_n hx hb dX10_feed_22 rfl (lv_at hl 0 rfl) ?_
  refine lv_iload_n hx hb dX10_feed_23 rfl (lv_at hl 3 rfl) ?_
  refine wq_callv (wr := []) (va_runV (As := [.int p2]) (rest := []) ⟨hx, hb, hml, hown, hw⟩ (c_putBytes_8 l G x0 tp rd nw sp im ir kp sl tk hn rc jn br sh g_6 p2 H.size) (cwV 1 hw (gdV kw_68 kw_69 kw_70 kw_8 kw_67) rfl rfl rfl ⟨rfl, hdX10_putBytes⟩ ⟨(Nat.le_of_ble_eq_true rfl), (Nat.le_of_ble_eq_true rfl)⟩) (preQ_V (wc := [(x0, .inr (10, [.ref tp, .int 8, .ref rd, .ref nw, .ref sp, .ref im, .ref ir, .ref kp, .ref sl, .ref tk, .ref hn, .ref rc, .ref jn, .ref br, .ref sh])), (tp, .inl (G.2 1, 1600, .inl g_6))]) (ci := 10) hKG hP hD [0, 1] (by decide +kernel) rfl rfl rfl) rfl rfl hl.1 rfl (lv_room (Nat.le_of_ble_eq_true rfl)) dX10_feed_24 ⟨(Nat.le_of_ble_eq_true rfl), (Nat.le_of_ble_eq_true rfl)⟩) hS hP hD hA [0, 1] [] rfl rfl (by decide +kernel) (by decide +kernel) (fun u10 H locs hr8 hP hD hS => ?_)
  obtain ⟨g_9, rfl⟩ : ∃ z, z = u10 := ⟨_, rfl⟩
  have hP : va_P G.1 vwCl [(x0, .inr (10, [.ref tp, .int 12, .ref rd, .ref nw, .ref sp, .ref im, .ref ir, .ref kp, .ref sl, .ref tk, .ref hn, .ref rc, .ref jn, .ref br, .ref sh])), (tp, .inl (G.2 1, 1600, .inl g_9))] H := hP
  have hD : va_D A [(x0, .inr (10, [.ref tp, .int 12, .ref rd, .ref nw, .ref sp, .ref im, .ref ir, .ref kp, .ref sl, .ref tk, .ref hn, .ref rc, .ref jn, .ref br, .ref sh])), (tp, .inl (G.2 1, 1600, .inl g_9))] := hD
  refine W.widen (k := 0) (n := 0) (Nat.le_of_ble_eq_true rfl) (Nat.le_of_ble_eq_true rfl) ?_
  refine lv_aload_n hx hb dX10_feed_27 rfl (lv_at hl 0 rfl) ?_
  refine lv_iload hx hb dX10_feed_28 (lv_at hl 4 rfl) ?_
  refine wq_callv (wr := []) (va_runV (As := [.int p3]) (rest := []) ⟨hx, hb, hml, hown, hw⟩ (c_putBytes_12 l G x0 tp rd nw sp im ir kp sl tk hn rc jn br sh g_9 p3 H.size) (cwV 1 hw (gdV kw_68 kw_69 kw_70 kw_8 kw_67) rfl rfl rfl ⟨rfl, hdX10_putBytes⟩ ⟨(Nat.le_of_ble_eq_true rfl), (Nat.le_of_ble_eq_true rfl)⟩) (preQ_V (wc := [(x0, .inr (10, [.ref tp, .int 12, .ref rd, .ref nw, .ref sp, .ref im, .ref ir, .ref kp, .ref sl, .ref tk, .ref hn, .ref rc, .ref jn, .ref br, .ref sh])), (tp, .inl (G.2 1, 1600, .inl g_9))]) (ci := 10) hKG hP hD [0, 1] (by decide +kernel) rfl rfl rfl) rfl rfl hl.1 rfl (lv_room (Nat.le_of_ble_eq_true rfl)) dX10_feed_30 ⟨(Nat.le_of_ble_eq_true rfl), (Nat.le_of_ble_eq_true rfl)⟩) hS hP hD hA [0, 1] [] rfl rfl (by decide +kernel) (by decide +kernel) (fun u13 H locs hr11 hP hD hS => ?_)
  obtain ⟨g_12, rfl⟩ : ∃ z, z = u13 := ⟨_, rfl⟩
  have hP : va_P G.1 vwCl [(x0, .inr (10, [.ref tp, .int 16, .ref rd, .ref nw, .ref sp, .ref im, .ref ir, .ref kp, .ref sl, .ref tk, .ref hn, .ref rc, .ref jn, .ref br, .ref sh])), (tp, .inl (G.2 1, 1600, .inl g_12))] H := hP
  have hD : va_D A [(x0, .inr (10, [.ref tp, .int 16, .ref rd, .ref nw, .ref sp, .ref im, .ref ir, .ref kp, .ref sl, .ref tk, .ref hn, .ref rc, .ref jn, .ref br, .ref sh])), (tp, .inl (G.2 1, 1600, .inl g_12))] := hD
  refine W.widen (k := 0) (n := 0) (Nat.le_of_ble_eq_true rfl) (Nat.le_of_ble_eq_true rfl) ?_
  refine lv_aload_n hx hb dX10_feed_33 rfl (lv_at hl 0 rfl) ?_
  refine lv_iload hx hb dX10_feed_34 (lv_at hl 5 rfl) ?_
  refine wq_callv (wr := []) (va_runV (As := [.int p4]) (rest := []) ⟨hx, hb, hml, hown, hw⟩ (c_putBytes_16 l G x0 tp rd nw sp im ir kp sl tk hn rc jn br sh g_12 p4 H.size) (cwV 1 hw (gdV kw_68 kw_69 kw_70 kw_8 kw_67) rfl rfl rfl ⟨rfl, hdX10_putBytes⟩ ⟨(Nat.le_of_ble_eq_true rfl), (Nat.le_of_ble_eq_true rfl)⟩) (preQ_V (wc := [(x0, .inr (10, [.ref tp, .int 16, .ref rd, .ref nw, .ref sp, .ref im, .ref ir, .ref kp, .ref sl, .ref tk, .ref hn, .ref rc, .ref jn, .ref br, .ref sh])), (tp, .inl (G.2 1, 1600, .inl g_12))]) (ci := 10) hKG hP hD [0, 1] (by decide +kernel) rfl rfl rfl) rfl rfl hl.1 rfl (lv_room (Nat.le_of_ble_eq_true rfl)) dX10_feed_36 ⟨(Nat.le_of_ble_eq_true rfl), (Nat.le_of_ble_eq_true rfl)⟩) hS hP hD hA [0, 1] [] rfl rfl (by decide +kernel) (by decide +kernel) (fun u16 H locs hr14 hP hD hS => ?_)
  obtain ⟨g_15, rfl⟩ : ∃ z, z = u16 := ⟨_, rfl⟩
  have hP : va_P G.1 vwCl [(x0, .inr (10, [.ref tp, .int 20, .ref rd, .ref nw, .ref sp, .ref im, .ref ir, .ref kp, .ref sl, .ref tk, .ref hn, .ref rc, .ref jn, .ref br, .ref sh])), (tp, .inl (G.2 1, 1600, .inl g_15))] H := hP
  have hD : va_D A [(x0, .inr (10, [.ref tp, .int 20, .ref rd, .ref nw, .ref sp, .ref im, .ref ir, .ref kp, .ref sl, .ref tk, .ref hn, .ref rc, .ref jn, .ref br, .ref sh])), (tp, .inl (G.2 1, 1600, .inl g_15))] := hD
  refine W.widen (k := 0) (n := 0) (Nat.le_of_ble_eq_true rfl) (Nat.le_of_ble_eq_true rfl) ?_
  refine lv_aload_n hx hb dX10_feed_39 rfl (lv_at hl 0 rfl) ?_
  refine va_get (D := G.1) (ci := 10) (v := .int 20) (C := RX10) (T := TX10) (N := 15) hx hb hw inGX10 hown hK hP 0 rfl rfl 1 (by decide) (hw _ kw_59) (fun _ h9 => h9) rfl dX10_feed_40 ?_
  exact W.iret (v := 20) hx hb hr (fun t ht hW => ⟨⟨20, (), rfl, rfl, ⟨by rw [ht]; exact hP.sub [] rfl, hD.sub [] (by decide +kernel) rfl⟩⟩, hS.F ht⟩) hS.2.2 dX10_feed_43
