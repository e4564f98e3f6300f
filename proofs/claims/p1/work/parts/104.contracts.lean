set_option maxHeartbeats 4000000 in
set_option maxRecDepth 100000 in
theorem c_lay0b (l : Launch) (G : KG) (tk : Nat) (t0 : Nat) (t1 : Nat) (t2 : Nat) (t3 : Nat) (ol : Nat) (nw : Nat) (nw_slopes : Nat) (nw_wets : Nat) (nw_limits : Nat) (nw_platforms : Nat) (nw_kinds : Nat) (nw_trains : Nat) (nw_coaches : Nat) (nw_slopes_c : Nat) (nw_wets_c : Nat) (nw_limits_c : Nat) (nw_kinds_c : Nat) (f0 : Nat → Int32) (f1 : Nat → Int32) (f2 : Nat → Int32) (sz : Nat) : Met l yX9_lay wgX9_lay ({ frames := 1, cells := 0, slots := 0, locals := 24 }) (preQ G [.ref tk, .ref nw, .int 0] sz [(tk, .inr (9, [.ref t0, .ref t1, .ref t2, .ref t3, .ref ol, .int 0])), (nw, .inr (3, [.int 0, .int 0, .ref nw_slopes, .ref nw_wets, .ref nw_limits, .ref nw_platforms, .ref nw_kinds, .ref nw_trains, .ref nw_coaches])), (nw_slopes, .inr (6, [.int 8, .int 2, .ref nw_slopes_c, .int 0])), (nw_wets, .inr (6, [.int 6, .int 3, .ref nw_wets_c, .int 0])), (nw_limits, .inr (6, [.int 6, .int 2, .ref nw_limits_c, .int 0])), (nw_kinds, .inr (6, [.int 4, .int 5, .ref nw_kinds_c, .int 0])), (t0, .inl (G.2 0, 401, .inl f0)), (t1, .inl (G.2 0, 401, .inl f1)), (t2, .inl (G.2 0, 401, .inl f2))]) (va_Qv (fun (u : (Nat → Int32) × (Nat → Int32) × (Nat → Int32)) => True) (fun u t => atQ G (va_A [(tk, .inr (9, [.ref t0, .ref t1, .ref t2, .ref t3, .ref ol, .int 0])), (nw, .inr (3, [.int 0, .int 0, .ref nw_slopes, .ref nw_wets, .ref nw_limits, .ref nw_platforms, .ref nw_kinds, .ref nw_trains, .ref nw_coaches])), (nw_slopes, .inr (6, [.int 8, .int 2, .ref nw_slopes_c, .int 0])), (nw_wets, .inr (6, [.int 6, .int 3, .ref nw_wets_c, .int 0])), (nw_limits, .inr (6, [.int 6, .int 2, .ref nw_limits_c, .int 0])), (nw_kinds, .inr (6, [.int 4, .int 5, .ref nw_kinds_c, .int 0])), (t0, .inl (G.2 0, 401, .inl f0)), (t1, .inl (G.2 0, 401, .inl f1)), (t2, .inl (G.2 0, 401, .inl f2))] sz) [(tk, .inr (9, [.ref t0, .ref t1, .ref t2, .ref t3, .ref nw, .int 0])), (nw, .inr (3, [.int 0, .int 0, .ref nw_slopes, .ref nw_wets, .ref nw_limits, .ref nw_platforms, .ref nw_kinds, .ref nw_trains, .ref nw_coaches])), (nw_slopes, .inr (6, [.int 8, .int 2, .ref nw_slopes_c, .int 0])), (nw_wets, .inr (6, [.int 6, .int 3, .ref nw_wets_c, .int 0])), (nw_limits, .inr (6, [.int 6, .int 2, .ref nw_limits_c, .int 0])), (nw_kinds, .inr (6, [.int 4, .int 5, .ref nw_kinds_c, .int 0])), (t0, .inl (G.2 0, 401, .inl (u.1))), (t1, .inl (G.2 0, 401, .inl (u.2.1))), (t2, .inl (G.2 0, 401, .inl (u.2.2)))] t) (va_A [(tk, .inr (9, [.ref t0, .ref t1, .ref t2, .ref t3, .ref ol, .int 0])), (nw, .inr (3, [.int 0, .int 0, .ref nw_slopes, .ref nw_wets, .ref nw_limits, .ref nw_platforms, .ref nw_kinds, .ref nw_trains, .ref nw_coaches])), (nw_slopes, .inr (6, [.int 8, .int 2, .ref nw_slopes_c, .int 0])), (nw_wets, .inr (6, [.int 6, .int 3, .ref nw_wets_c, .int 0])), (nw_limits, .inr (6, [.int 6, .int 2, .ref nw_limits_c, .int 0])), (nw_kinds, .inr (6, [.int 4, .int 5, .ref nw_kinds_c, .int 0])), (t0, .inl (G.2 0, 401, .inl f0)), (t1, .inl (G.2 0, 401, .inl f1)), (t2, .inl (G.2 0, 401, .inl f2))] sz)) 0 0 (va_A [(tk, .inr (9, [.ref t0, .ref t1, .ref t2, .ref t3, .ref ol, .int 0])), (nw, .inr (3, [.int 0, .int 0, .ref nw_slopes, .ref nw_wets, .ref nw_limits, .ref nw_platforms, .ref nw_kinds, .ref nw_trains, .ref nw_coaches])), (nw_slopes, .inr (6, [.int 8, .int 2, .ref nw_slopes_c, .int 0])), (nw_wets, .inr (6, [.int 6, .int 3, .ref nw_wets_c, .int 0])), (nw_limits, .inr (6, [.int 6, .int 2, .ref nw_limits_c, .int 0])), (nw_kinds, .inr (6, [.int 4, .int 5, .ref nw_kinds_c, .int 0])), (t0, .inl (G.2 0, 401, .inl f0)), (t1, .inl (G.2 0, 401, .inl f1)), (t2, .inl (G.2 0, 401, .inl f2))] sz) := by
  refine Met.ofW (cc := cX9_lay) (maxL := 4) (ret := none) (by decide) rfl ?_
  intro p e s m args below meth c s₁ B hml hv
  obtain ⟨rfl, hsz, hP, hKG, hD0⟩ := hv
  obtain ⟨hK, hAO⟩ := id hKG
  have hx := B.exec
  have hb := B.bytes
  have hr := B.returns
  have hts := atoms_spec (ws := wgX9_lay) B.pre
  have hw : ∀ w ∈ wG, w.before _ s = true := fun w h => hts w (List.mem_cons_of_mem _ h)
  have hown : s.vm.findClass RX9 = some m.cls := findClass_of_methodNamed B.named
  have hlocks := B.notSynchronized
  subst hsz
  have hD := hD0.self (sz := s.heap.size)
  generalize hAe : va_A [(tk, .inr (9, [.ref t0, .ref t1, .ref t2, .ref t3, .ref ol, .int 0])), (nw, .inr (3, [.int 0, .int 0, .ref nw_slopes, .ref nw_wets, .ref nw_limits, .ref nw_platforms, .ref nw_kinds, .ref nw_trains, .ref nw_coaches])), (nw_slopes, .inr (6, [.int 8, .int 2, .ref nw_slopes_c, .int 0])), (nw_wets, .inr (6, [.int 6, .int 3, .ref nw_wets_c, .int 0])), (nw_limits, .inr (6, [.int 6, .int 2, .ref nw_limits_c, .int 0])), (nw_kinds, .inr (6, [.int 4, .int 5, .ref nw_kinds_c, .int 0])), (t0, .inl (G.2 0, 401, .inl f0)), (t1, .inl (G.2 0, 401, .inl f1)), (t2, .inl (G.2 0, 401, .inl f2))] s.heap.size = A at hD ⊢
  have hA : ∀ q : Nat, s.heap.size ≤ q → A q := fun q h => by rw [← hAe]; exact Or.inr h
  have hS : va_S A s.heap s.heap [] := va_S.rf
  have hl := lv_entry ([.ref tk, .ref nw, .int 0]) (n := 4) (Nat.le_of_ble_eq_true rfl)
  rw [lg_entry_eq]
  generalize (lg_sl ([.ref tk, .ref nw, .int 0]) ++ List.replicate (4 - (lg_sl ([.ref tk, .ref nw, .int 0])).length) Slot.unset).toArray = ls at hl ⊢
  have hl : lv_has ls 4 [(0, .ref tk), (1, .ref nw), (2, .int 0)] := hl
  refine lv_aload_n hx hb dX9_lay_0 rfl (lv_at hl 0 rfl) ?_
  refine lv_aload_n hx hb dX9_lay_1 rfl (lv_at hl 1 rfl) ?_
  refine va_put (D := G.1) (ci := 9) (v := .ref nw) (ty := (.object "SlipCoach$Line")) (C := RX9) (T := TX9) (N := 6) hx hb hw inGX9 tyX9 tyX9_ok nmX9 hown hK hP hD hS 0 rfl rfl 4 (by decide) (hw _ kw_122) (fun _ h9 => h9) rfl (by decide +kernel) rfl rfl (Nat.le_of_ble_eq_true rfl) dX9_lay_2 (fun H locs hP hD hS => ?_)
  have hP : va_P G.1 vwCl [(tk, .inr (9, [.ref t0, .ref t1, .ref t2, .ref t3, .ref nw, .int 0])), (nw, .inr (3, [.int 0, .int 0, .ref nw_slopes, .ref nw_wets, .ref nw_limits, .ref nw_platforms, .ref nw_kinds, .ref nw_trains, .ref nw_coaches])), (nw_slopes, .inr (6, [.int 8, .int 2, .ref nw_slopes_c, .int 0])), (nw_wets, .inr (6, [.int 6, .int 3, .ref nw_wets_c, .int 0])), (nw_limits, .inr (6, [.int 6, .int 2, .ref nw_limits_c, .int 0])), (nw_kinds, .inr (6, [.int 4, .int 5, .ref nw_kinds_c, .int 0])), (t0, .inl (G.2 0, 401, .inl f0)), (t1, .inl (G.2 0, 401, .inl f1)), (t2, .inl (G.2 0, 401, .inl f2))] H := hP
  have hD : va_D A [(tk, .inr (9, [.ref t0, .ref t1, .ref t2, .ref t3, .ref nw, .int 0])), (nw, .inr (3, [.int 0, .int 0, .ref nw_slopes, .ref nw_wets, .ref nw_limits, .ref nw_platforms, .ref nw_kinds, .ref nw_trains, .ref nw_coaches])), (nw_slopes, .inr (6, [.int 8, .int 2, .ref nw_slopes_c, .int 0])), (nw_wets, .inr (6, [.int 6, .int 3, .ref nw_wets_c, .int 0])), (nw_limits, .inr (6, [.int 6, .int 2, .ref nw_limits_c, .int 0])), (nw_kinds, .inr (6, [.int 4, .int 5, .ref nw_kinds_c, .int 0])), (t0, .inl (G.2 0, 401, .inl f0)), (t1, .inl (G.2 0, 401, .inl f1)), (t2, .inl (G.2 0, 401, .inl f2))] := hD
  refine lv_iconst (v := 0) hx hb dX9_lay_5 (by decide) ?_
  refine lv_istore_n (lv' := [(3, .int 0), (0, .ref tk), (1, .ref nw), (2, .int 0)]) hx hb dX9_lay_6 rfl hl (by decide) rfl (fun ls hl => ?_)
  refine lv_iload_n hx hb dX9_lay_7 rfl (lv_at hl 0 rfl) ?_
  refine lv_aload_n hx hb dX9_lay_8 rfl (lv_at hl 2 rfl) ?_
  refine va_get (D := G.1) (ci := 3) (v := .int 0) (C := RX3) (T := TX3) (N := 9) hx hb hw inGX3 hown hK hP 1 rfl rfl 0 (by decide) (hw _ kw_125) (fun _ h9 => h9) rfl dX9_lay_9 ?_
  refine lv_icmp_gt (tgt := 75) hx hb dX9_lay_12 (by decide) (fun c1 => absurd c1 (by decide)) (fun c1 => ?_)
  refine lv_iload_n hx hb dX9_lay_15 rfl (lv_at hl 0 rfl) ?_
  refine lv_sipush (v := 401) hx hb dX9_lay_16 (by decide) ?_
  refine lv_icmp_ge (tgt := 75) hx hb dX9_lay_19 (by decide) (fun c2 => absurd c2 (by decide)) (fun c2 => ?_)
  refine lv_aload_n hx hb dX9_lay_22 rfl (lv_at hl 1 rfl) ?_
  refine va_get (D := G.1) (ci := 9) (v := .ref t0) (C := RX9) (T := TX9) (N := 6) hx hb hw inGX9 hown hK hP 0 rfl rfl 0 (by decide) (hw _ kw_126) (fun _ h9 => h9) rfl dX9_lay_23 ?_
  refine lv_iload_n hx hb dX9_lay_26 rfl (lv_at hl 0 rfl) ?_
  refine lv_aload_n hx hb dX9_lay_27 rfl (lv_at hl 2 rfl) ?_
  refine va_get (D := G.1) (ci := 3) (v := .ref nw_slopes) (C := RX3) (T := TX3) (N := 9) hx hb hw inGX3 hown hK hP 1 rfl rfl 2 (by decide) (hw _ kw_127) (fun _ h9 => h9) rfl dX9_lay_28 ?_
  refine lv_iconst (v := 1) hx hb dX9_lay_31 (by decide) ?_
  refine lv_iload_n hx hb dX9_lay_32 rfl (lv_at hl 0 rfl) ?_
  refine lv_iconst (v := 0) hx hb dX9_lay_33 (by decide) ?_
  refine vp_callSi (va_Run.run (va_runS (As := [.ref nw_slopes, .int 1, .int 0, .int 0]) (rest := [.int 0, .ref t0]) ⟨hx, hb, hml, hown, hw⟩ (c_lastTold0 l G nw_slopes 8 2 nw_slopes_c 1 0 0) (va_cwS 4 hw (gdT kw_129 kw_130 kw_131 kw_128) rfl rfl rfl hdX9_lastTold ⟨(Nat.le_of_ble_eq_true rfl), (Nat.le_of_ble_eq_true rfl)⟩) (preS_S (wc := [(nw_slopes, .inr (6, [.int 8, .int 2, .ref nw_slopes_c, .int 0]))]) hKG hP [2] rfl) rfl rfl hl.1 rfl (lv_room (Nat.le_of_ble_eq_true rfl)) dX9_lay_34 ⟨(Nat.le_of_ble_eq_true rfl), (Nat.le_of_ble_eq_true rfl)⟩)) (fun r3 hr3 => ?_)
  subst hr3
  refine va_iast hx hb hK hP hD hS 6 0 rfl rfl (vp_in_iff.mpr (by decide)) dX9_lay_37 (fun H locs hP hD hS => ?_)
  have hP : va_P G.1 vwCl [(tk, .inr (9, [.ref t0, .ref t1, .ref t2, .ref t3, .ref nw, .int 0])), (nw, .inr (3, [.int 0, .int 0, .ref nw_slopes, .ref nw_wets, .ref nw_limits, .ref nw_platforms, .ref nw_kinds, .ref nw_trains, .ref nw_coaches])), (nw_slopes, .inr (6, [.int 8, .int 2, .ref nw_slopes_c, .int 0])), (nw_wets, .inr (6, [.int 6, .int 3, .ref nw_wets_c, .int 0])), (nw_limits, .inr (6, [.int 6, .int 2, .ref nw_limits_c, .int 0])), (nw_kinds, .inr (6, [.int 4, .int 5, .ref nw_kinds_c, .int 0])), (t0, .inl (G.2 0, 401, .inl (upd f0 (0 : Int32).toNatClampNeg 0))), (t1, .inl (G.2 0, 401, .inl f1)), (t2, .inl (G.2 0, 401, .inl f2))] H := hP
  have hD : va_D A [(tk, .inr (9, [.ref t0, .ref t1, .ref t2, .ref t3, .ref nw, .int 0])), (nw, .inr (3, [.int 0, .int 0, .ref nw_slopes, .ref nw_wets, .ref nw_limits, .ref nw_platforms, .ref nw_kinds, .ref nw_trains, .ref nw_coaches])), (nw_slopes, .inr (6, [.int 8, .int 2, .ref nw_slopes_c, .int 0])), (nw_wets, .inr (6, [.int 6, .int 3, .ref nw_wets_c, .int 0])), (nw_limits, .inr (6, [.int 6, .int 2, .ref nw_limits_c, .int 0])), (nw_kinds, .inr (6, [.int 4, .int 5, .ref nw_kinds_c, .int 0])), (t0, .inl (G.2 0, 401, .inl (upd f0 (0 : Int32).toNatClampNeg 0))), (t1, .inl (G.2 0, 401, .inl f1)), (t2, .inl (G.2 0, 401, .inl f2))] := hD
  generalize (upd f0 (0 : Int32).toNatClampNeg 0) = f4 at hP hD
  refine lv_aload_n hx hb dX9_lay_38 rfl (lv_at hl 1 rfl) ?_
  refine va_get (D := G.1) (ci := 9) (v := .ref t1) (C := RX9) (T := TX9) (N := 6) hx hb hw inGX9 hown hK hP 0 rfl rfl 1 (by decide) (hw _ kw_132) (fun _ h9 => h9) rfl dX9_lay_39 ?_
  refine lv_iload_n hx hb dX9_lay_42 rfl (lv_at hl 0 rfl) ?_
  refine lv_aload_n hx hb dX9_lay_43 rfl (lv_at hl 2 rfl) ?_
  refine va_get (D := G.1) (ci := 3) (v := .ref nw_wets) (C := RX3) (T := TX3) (N := 9) hx hb hw inGX3 hown hK hP 1 rfl rfl 3 (by decide) (hw _ kw_133) (fun _ h9 => h9) rfl dX9_lay_44 ?_
  refine lv_iload_n hx hb dX9_lay_47 rfl (lv_at hl 0 rfl) ?_
  refine vp_callSi (va_Run.run (va_runS (As := [.ref nw_wets, .int 0]) (rest := [.int 0, .ref t1]) ⟨hx, hb, hml, hown, hw⟩ (c_wettest0 l G nw_wets 6 3 nw_wets_c 0) (va_cwS 2 hw (gdT kw_135 kw_136 kw_131 kw_134) rfl rfl rfl hdX9_wettest ⟨(Nat.le_of_ble_eq_true rfl), (Nat.le_of_ble_eq_true rfl)⟩) (preS_S (wc := [(nw_wets, .inr (6, [.int 6, .int 3, .ref nw_wets_c, .int 0]))]) hKG hP [3] rfl) rfl rfl hl.1 rfl (lv_room (Nat.le_of_ble_eq_true rfl)) dX9_lay_48 ⟨(Nat.le_of_ble_eq_true rfl), (Nat.le_of_ble_eq_true rfl)⟩)) (fun r5 hr5 => ?_)
  subst hr5
  refine va_iast hx hb hK hP hD hS 7 0 rfl rfl (vp_in_iff.mpr (by decide)) dX9_lay_51 (fun H locs hP hD hS => ?_)
  have hP : va_P G.1 vwCl [(tk, .inr (9, [.ref t0, .ref t1, .ref t2, .ref t3, .ref nw, .int 0])), (nw, .inr (3, [.int 0, .int 0, .ref nw_slopes, .ref nw_wets, .ref nw_limits, .ref nw_platforms, .ref nw_kinds, .ref nw_trains, .ref nw_coaches])), (nw_slopes, .inr (6, [.int 8, .int 2, .ref nw_slopes_c, .int 0])), (nw_wets, .inr (6, [.int 6, .int 3, .ref nw_wets_c, .int 0])), (nw_limits, .inr (6, [.int 6, .int 2, .ref nw_limits_c, .int 0])), (nw_kinds, .inr (6, [.int 4, .int 5, .ref nw_kinds_c, .int 0])), (t0, .inl (G.2 0, 401, .inl f4)), (t1, .inl (G.2 0, 401, .inl (upd f1 (0 : Int32).toNatClampNeg 0))), (t2, .inl (G.2 0, 401, .inl f2))] H := hP
  have hD : va_D A [(tk, .inr (9, [.ref t0, .ref t1, .ref t2, .ref t3, .ref nw, .int 0])), (nw, .inr (3, [.int 0, .int 0, .ref nw_slopes, .ref nw_wets, .ref nw_limits, .ref nw_platforms, .ref nw_kinds, .ref nw_trains, .ref nw_coaches])), (nw_slopes, .inr (6, [.int 8, .int 2, .ref nw_slopes_c, .int 0])), (nw_wets, .inr (6, [.int 6, .int 3, .ref nw_wets_c, .int 0])), (nw_limits, .inr (6, [.int 6, .int 2, .ref nw_limits_c, .int 0])), (nw_kinds, .inr (6, [.int 4, .int 5, .ref nw_kinds_c, .int 0])), (t0, .inl (G.2 0, 401, .inl f4)), (t1, .inl (G.2 0, 401, .inl (upd f1 (0 : Int32).toNatClampNeg 0))), (t2, .inl (G.2 0, 401, .inl f2))] := hD
  generalize (upd f1 (0 : Int32).toNatClampNeg 0) = f6 at hP hD
  refine lv_aload_n hx hb dX9_lay_52 rfl (lv_at hl 1 rfl) ?_
  refine va_get (D := G.1) (ci := 9) (v := .ref t2) (C := RX9) (T := TX9) (N := 6) hx hb hw inGX9 hown hK hP 0 rfl rfl 2 (by decide) (hw _ kw_137) (fun _ h9 => h9) rfl dX9_lay_53 ?_
  refine lv_iload_n hx hb dX9_lay_56 rfl (lv_at hl 0 rfl) ?_
  refine lv_aload_n hx hb dX9_lay_57 rfl (lv_at hl 2 rfl) ?_
  refine va_get (D := G.1) (ci := 3) (v := .ref nw_limits) (C := RX3) (T := TX3) (N := 9) hx hb hw inGX3 hown hK hP 1 rfl rfl 4 (by decide) (hw _ kw_138) (fun _ h9 => h9) rfl dX9_lay_58 ?_
  refine lv_iconst (v := 1) hx hb dX9_lay_61 (by decide) ?_
  refine lv_iload_n hx hb dX9_lay_62 rfl (lv_at hl 0 rfl) ?_
  refine lv_bipush (v := 15) hx hb dX9_lay_63 (by decide) ?_
  refine vp_callSi (va_Run.run (va_runS (As := [.ref nw_limits, .int 1, .int 0, .int 15]) (rest := [.int 0, .ref t2]) ⟨hx, hb, hml, hown, hw⟩ (c_lastTold0 l G nw_limits 6 2 nw_limits_c 1 0 15) (va_cwS 4 hw (gdT kw_129 kw_130 kw_131 kw_128) rfl rfl rfl hdX9_lastTold ⟨(Nat.le_of_ble_eq_true rfl), (Nat.le_of_ble_eq_true rfl)⟩) (preS_S (wc := [(nw_limits, .inr (6, [.int 6, .int 2, .ref nw_limits_c, .int 0]))]) hKG hP [4] rfl) rfl rfl hl.1 rfl (lv_room (Nat.le_of_ble_eq_true rfl)) dX9_lay_65 ⟨(Nat.le_of_ble_eq_true rfl), (Nat.le_of_ble_eq_true rfl)⟩)) (fun r7 hr7 => ?_)
  subst hr7
  refine va_iast hx hb hK hP hD hS 8 0 rfl rfl (vp_in_iff.mpr (by decide)) dX9_lay_68 (fun H locs hP hD hS => ?_)
  have hP : va_P G.1 vwCl [(tk, .inr (9, [.ref t0, .ref t1, .ref t2, .ref t3, .ref nw, .int 0])), (nw, .inr (3, [.int 0, .int 0, .ref nw_slopes, .ref nw_wets, .ref nw_limits, .ref nw_platforms, .ref nw_kinds, .ref nw_trains, .ref nw_coaches])), (nw_slopes, .inr (6, [.int 8, .int 2, .ref nw_slopes_c, .int 0])), (nw_wets, .inr (6, [.int 6, .int 3, .ref nw_wets_c, .int 0])), (nw_limits, .inr (6, [.int 6, .int 2, .ref nw_limits_c, .int 0])), (nw_kinds, .inr (6, [.int 4, .int 5, .ref nw_kinds_c, .int 0])), (t0, .inl (G.2 0, 401, .inl f4)), (t1, .inl (G.2 0, 401, .inl f6)), (t2, .inl (G.2 0, 401, .inl (upd f2 (0 : Int32).toNatClampNeg 15)))] H := hP
  have hD : va_D A [(tk, .inr (9, [.ref t0, .ref t1, .ref t2, .ref t3, .ref nw, .int 0])), (nw, .inr (3, [.int 0, .int 0, .ref nw_slopes, .ref nw_wets, .ref nw_limits, .ref nw_platforms, .ref nw_kinds, .ref nw_trains, .ref nw_coaches])), (nw_slopes, .inr (6, [.int 8, .int 2, .ref nw_slopes_c, .int 0])), (nw_wets, .inr (6, [.int 6, .int 3, .ref nw_wets_c, .int 0])), (nw_limits, .inr (6, [.int 6, .int 2, .ref nw_limits_c, .int 0])), (nw_kinds, .inr (6, [.int 4, .int 5, .ref nw_kinds_c, .int 0])), (t0, .inl (G.2 0, 401, .inl f4)), (t1, .inl (G.2 0, 401, .inl f6)), (t2, .inl (G.2 0, 401, .inl (upd f2 (0 : Int32).toNatClampNeg 15)))] := hD
  generalize (upd f2 (0 : Int32).toNatClampNeg 15) = f8 at hP hD
  refine lv_iinc (v := 1) (lv' := [(3, .int 1), (0, .ref tk), (1, .ref nw), (2, .int 0)]) hx hb dX9_lay_69 hl (k := 0) rfl (by decide) (by decide) rfl (fun ls hl => ?_)
  refine lv_goto (tgt := 7) hx hb dX9_lay_72 (by decide) ?_
  refine lv_iload_n hx hb dX9_lay_7 rfl (lv_at hl 0 rfl) ?_
  refine lv_aload_n hx hb dX9_lay_8 rfl (lv_at hl 2 rfl) ?_
  refine va_get (D := G.1) (ci := 3) (v := .int 0) (C := RX3) (T := TX3) (N := 9) hx hb hw inGX3 hown hK hP 1 rfl rfl 0 (by decide) (hw _ kw_125) (fun _ h9 => h9) rfl dX9_lay_9 ?_
  refine lv_icmp_gt (tgt := 75) hx hb dX9_lay_12 (by decide) (fun c9 => ?_) (fun c9 => absurd (by decide) c9)
  refine lv_aload_n hx hb dX9_lay_75 rfl (lv_at hl 1 rfl) ?_
  refine lv_iload_n hx hb dX9_lay_76 rfl (lv_at hl 3 rfl) ?_
  refine wq_callv (wr := [(nw_slopes, .inr (6, [.int 8, .int 2, .ref nw_slopes_c, .int 0])), (nw_wets, .inr (6, [.int 6, .int 3, .ref nw_wets_c, .int 0])), (nw_limits, .inr (6, [.int 6, .int 2, .ref nw_limits_c, .int 0])), (t0, .inl (G.2 0, 401, .inl f4)), (t1, .inl (G.2 0, 401, .inl f6)), (t2, .inl (G.2 0, 401, .inl f8))]) (va_runV (As := [.int 0]) (rest := []) ⟨hx, hb, hml, hown, hw⟩ (c_soak0 l G tk t0 t1 t2 t3 nw nw_slopes nw_wets nw_limits nw_platforms nw_kinds nw_trains nw_coaches nw_kinds_c H.size) (cwV 1 hw (gdV kw_140 kw_141 kw_142 kw_131 kw_139) rfl rfl rfl ⟨rfl, hdX9_soak⟩ ⟨(Nat.le_of_ble_eq_true rfl), (Nat.le_of_ble_eq_true rfl)⟩) (preQ_V (wc := [(tk, .inr (9, [.ref t0, .ref t1, .ref t2, .ref t3, .ref nw, .int 0])), (nw, .inr (3, [.int 0, .int 0, .ref nw_slopes, .ref nw_wets, .ref nw_limits, .ref nw_platforms, .ref nw_kinds, .ref nw_trains, .ref nw_coaches])), (nw_kinds, .inr (6, [.int 4, .int 5, .ref nw_kinds_c, .int 0]))]) (ci := 9) hKG hP hD [0, 1, 5] (by decide +kernel) rfl rfl rfl) rfl rfl hl.1 rfl (lv_room (Nat.le_of_ble_eq_true rfl)) dX9_lay_77 ⟨(Nat.le_of_ble_eq_true rfl), (Nat.le_of_ble_eq_true rfl)⟩) hS hP hD hA [0, 1, 5] [2, 3, 4, 6, 7, 8] rfl rfl (by decide +kernel) (by decide +kernel) (fun u11 H locs hr10 hP hD hS => ?_)
  have hP : va_P G.1 vwCl [(nw_slopes, .inr (6, [.int 8, .int 2, .ref nw_slopes_c, .int 0])), (nw_wets, .inr (6, [.int 6, .int 3, .ref nw_wets_c, .int 0])), (nw_limits, .inr (6, [.int 6, .int 2, .ref nw_limits_c, .int 0])), (t0, .inl (G.2 0, 401, .inl f4)), (t1, .inl (G.2 0, 401, .inl f6)), (t2, .inl (G.2 0, 401, .inl f8)), (tk, .inr (9, [.ref t0, .ref t1, .ref t2, .ref t3, .ref nw, .int 0])), (nw, .inr (3, [.int 0, .int 0, .ref nw_slopes, .ref nw_wets, .ref nw_limits, .ref nw_platforms, .ref nw_kinds, .ref nw_trains, .ref nw_coaches])), (nw_kinds, .inr (6, [.int 4, .int 5, .ref nw_kinds_c, .int 0]))] H := hP
  have hD : va_D A [(nw_slopes, .inr (6, [.int 8, .int 2, .ref nw_slopes_c, .int 0])), (nw_wets, .inr (6, [.int 6, .int 3, .ref nw_wets_c, .int 0])), (nw_limits, .inr (6, [.int 6, .int 2, .ref nw_limits_c, .int 0])), (t0, .inl (G.2 0, 401, .inl f4)), (t1, .inl (G.2 0, 401, .inl f6)), (t2, .inl (G.2 0, 401, .inl f8)), (tk, .inr (9, [.ref t0, .ref t1, .ref t2, .ref t3, .ref nw, .int 0])), (nw, .inr (3, [.int 0, .int 0, .ref nw_slopes, .ref nw_wets, .ref nw_limits, .ref nw_platforms, .ref nw_kinds, .ref nw_trains, .ref nw_coaches])), (nw_kinds, .inr (6, [.int 4, .int 5, .ref nw_kinds_c, .int 0]))] := hD
  refine W.widen (k := 0) (n := 0) (Nat.le_of_ble_eq_true rfl) (Nat.le_of_ble_eq_true rfl) ?_
  exact W.vret hx hb hr (fun t ht hW => ⟨⟨(f4, f6, f8), rfl, trivial, ⟨by rw [ht]; exact hP.sub [6, 7, 0, 1, 2, 8, 3, 4, 5] rfl, hD.sub [6, 7, 0, 1, 2, 8, 3, 4, 5] (by decide +kernel) rfl⟩⟩, hS.F ht⟩) hS.2.2 dX9_lay_80
set_option maxHeartbeats 4000000 in
set_option maxRecDepth 100000 in
theorem lp_forget {p : Program} {l : Launch} {e : Env} {R : Room} {s : State} {m : MethodId} {args : Array Value} {below : List Frame} {meth : Method} {c : Code} {A : Nat → Prop} {Q : State → Prop} {cells slots : Nat} (G : KG) (hn : Nat) (hs : Nat) (hk : Nat) (hu : Nat) (tk : Nat) (hx : p.tables.exec = Jvm.exec) (hb : c.code = cX1_forget) (hw : ∀ w ∈ wG, w.before args s = true) (hown : s.vm.findClass RX1 = some m.cls) (hK : va_K G.1 vwCl (tyG G) s)
    (kk : ∀ (f : Nat → Int32) (H : Heap) (locs : List Loc), va_P G.1 vwCl [(hn, .inr (1, [.ref tk, .ref hs, .ref hk, .ref hu, .int 0, .int 0, .int (-1)])), (hk, .inl (G.2 2, 24, .inl f))] H → va_D A [(hn, .inr (1, [.ref tk, .ref hs, .ref hk, .ref hu, .int 0, .int 0, .int (-1)])), (hk, .inl (G.2 2, 24, .inl f))] → va_S A s.heap H locs → ∀ (ls : Array Slot), lv_has ls 2 [(0, .ref hn), (1, .int 24)] → W p l e R s m args below meth c H locs cells slots Q (F0 m 24 ls [])) :
    ∀ (n i : Nat), i ≤ 24 → 24 < i + n → ∀ (f : Nat → Int32) (H : Heap) (locs : List Loc), va_P G.1 vwCl [(hn, .inr (1, [.ref tk, .ref hs, .ref hk, .ref hu, .int 0, .int 0, .int (-1)])), (hk, .inl (G.2 2, 24, .inl f))] H → va_D A [(hn, .inr (1, [.ref tk, .ref hs, .ref hk, .ref hu, .int 0, .int 0, .int (-1)])), (hk, .inl (G.2 2, 24, .inl f))] → va_S A s.heap H locs → ∀ (ls : Array Slot), lv_has ls 2 [(0, .ref hn), (1, .int (nI i))] → W p l e R s m args below meth c H locs cells slots Q (F0 m 2 ls []) := by
  intro n
  induction n with
  | zero => intro i h1 h2; exact absurd h2 (by omega)
  | succ n ih =>
    intro i hi hin f H locs hP hD hS ls hl
    refine lv_iload_n hx hb dX1_forget_2 rfl (lv_at hl 1 rfl) ?_
    refine lv_aload_n hx hb dX1_forget_3 rfl (lv_at hl 0 rfl) ?_
    refine va_get (D := G.1) (ci := 1) (v := .ref hk) (C := RX1) (T := TX1) (N := 7) hx hb hw inGX1 hown hK hP 0 rfl rfl 2 (by decide) (hw _ kw_143) (fun _ h9 => h9) rfl dX1_forget_4 ?_
    refine va_alen (v := 24) hx hb hK hP 1 2 rfl rfl rfl dX1_forget_7 ?_
    refine lv_icmp_ge (tgt := 24) hx hb dX1_forget_8 (by decide) (fun c1 => ?_) (fun c1 => ?_)
    · have c1 : 24 ≤ i := (nI_leI (a := 24) (b := i) (by omega) (by omega)).mp c1
      obtain rfl : i = 24 := by omega
      exact kk f _ _ hP hD hS ls (lv_sub hl [0, 1] rfl)
    · have c1 : ¬ (24 ≤ i) := fun z => c1 ((nI_leI (a := 24) (b := i) (by omega) (by omega)).mpr z)
      refine lv_aload_n hx hb dX1_forget_11 rfl (lv_at hl 0 rfl) ?_
      refine va_get (D := G.1) (ci := 1) (v := .ref hk) (C := RX1) (T := TX1) (N := 7) hx hb hw inGX1 hown hK hP 0 rfl rfl 2 (by decide) (hw _ kw_143) (fun _ h9 => h9) rfl dX1_forget_12 ?_
      refine lv_iload_n hx hb dX1_forget_15 rfl (lv_at hl 1 rfl) ?_
      refine lv_iconst (v := 0) hx hb dX1_forget_16 (by decide) ?_
      refine va_zast hx hb hK hP hD hS 1 2 rfl rfl (vp_in_nI (n := i) (N := 24) (by omega) (by omega)) dX1_forget_17 (fun H locs hP hD hS => ?_)
      have hP : va_P G.1 vwCl [(hn, .inr (1, [.ref tk, .ref hs, .ref hk, .ref hu, .int 0, .int 0, .int (-1)])), (hk, .inl (G.2 2, 24, .inl (upd f (nI i).toNatClampNeg (vp_nar .boolean 0))))] H := hP
      have hD : va_D A [(hn, .inr (1, [.ref tk, .ref hs, .ref hk, .ref hu, .int 0, .int 0, .int (-1)])), (hk, .inl (G.2 2, 24, .inl (upd f (nI i).toNatClampNeg (vp_nar .boolean 0))))] := hD
      generalize (upd f (nI i).toNatClampNeg (vp_nar .boolean 0)) = f2 at hP hD
      refine lv_iinc (v := nI (i + 1)) (lv' := [(1, .int (nI (i + 1))), (0, .ref hn)]) hx hb dX1_forget_18 hl (k := 1) rfl (nI_1 _) (by decide) rfl (fun ls hl => ?_)
      refine lv_goto (tgt := 2) hx hb dX1_forget_21 (by decide) ?_
      exact ih (i + 1) (by omega) (by omega) f2 _ _ hP hD hS ls (lv_sub hl [1, 0] rfl)
set_option maxHeartbeats 4000000 in
set_option maxRecDepth 100000 in
theorem c_forget (l : Launch) (G : KG) (hn : Nat) (hs : Nat) (hk : Nat) (hu : Nat) (tk : Nat) (f0 : Nat → Int32) (sz : Nat) : Met l yX1_forget wgX1_forget ({ frames := 0, cells := 0, slots := 0, locals := 0 }) (preQ G [.ref hn] sz [(hn, .inr (1, [.ref tk, .ref hs, .ref hk, .ref hu, .int 0, .int 0, .int (-1)])), (hk, .inl (G.2 2, 24, .inl f0))]) (va_Qv (fun (u : (Nat → Int32)) => True) (fun u t => atQ G (va_A [(hn, .inr (1, [.ref tk, .ref hs, .ref hk, .ref hu, .int 0, .int 0, .int (-1)])), (hk, .inl (G.2 2, 24, .inl f0))] sz) [(hn, .inr (1, [.ref tk, .ref hs, .ref hk, .ref hu, .int 0, .int 0, .int (-1)])), (hk, .inl (G.2 2, 24, .inl u))] t) (va_A [(hn, .inr (1, [.ref tk, .ref hs, .ref hk, .ref hu, .int 0, .int 0, .int (-1)])), (hk, .inl (G.2 2, 24, .inl f0))] sz)) 0 0 (va_A [(hn, .inr (1, [.ref tk, .ref hs, .ref hk, .ref hu, .int 0, .int 0, .int (-1)])), (hk, .inl (G.2 2, 24, .inl f0))] sz) := by
  refine Met.ofW (cc := cX1_forget) (maxL := 2) (ret := none) (by decide) rfl ?_
  intro p e s m args below meth c s₁ B hml hv
  obtain ⟨rfl, hsz, hP, hKG, hD0⟩ := hv
  obtain ⟨hK, hAO⟩ := id hKG
  have hx := B.exec
  have hb := B.bytes
  have hr := B.returns
  have hts := atoms_spec (ws := wgX1_forget) B.pre
  have hw : ∀ w ∈ wG, w.before _ s = true := fun w h => hts w (List.mem_cons_of_mem _ h)
  have hown : s.vm.findClass RX1 = some m.cls := findClass_of_methodNamed B.named
  have hlocks := B.notSynchronized
  subst hsz
  have hD := hD0.self (sz := s.heap.size)
  generalize hAe : va_A [(hn, .inr (1, [.ref tk, .ref hs, .ref hk, .ref hu, .int 0, .int 0, .int (-1)])), (hk, .inl (G.2 2, 24, .inl f0))] s.heap.size = A at hD ⊢
  have hA : ∀ q : Nat, s.heap.size ≤ q → A q := fun q h => by rw [← hAe]; exact Or.inr h
  have hS : va_S A s.heap s.heap [] := va_S.rf
  have hl := lv_entry ([.ref hn]) (n := 2) (Nat.le_of_ble_eq_true rfl)
  rw [lg_entry_eq]
  generalize (lg_sl ([.ref hn]) ++ List.replicate (2 - (lg_sl ([.ref hn])).length) Slot.unset).toArray = ls at hl ⊢
  have hl : lv_has ls 2 [(0, .ref hn)] := hl
  refine lv_iconst (v := 0) hx hb dX1_forget_0 (by decide) ?_
  refine lv_istore_n (lv' := [(1, .int 0), (0, .ref hn)]) hx hb dX1_forget_1 rfl hl (by decide) rfl (fun ls hl => ?_)
  refine lp_forget G hn hs hk hu tk hx hb hw hown hK (fun f1 H locs hP hD hS ls hl => ?_) (24 + 1) 0 (by omega) (by omega) f0 _ _ (hP.sub [0, 1] rfl) (hD.sub [0, 1] (by decide +kernel) rfl) hS ls (lv_sub hl [1, 0] rfl)
  have hP : va_P G.1 vwCl [(hn, .inr (1, [.ref tk, .ref hs, .ref hk, .ref hu, .int 0, .int 0, .int (-1)])), (hk, .inl (G.2 2, 24, .inl f1))] H := hP
  have hD : va_D A [(hn, .inr (1, [.ref tk, .ref hs, .ref hk, .ref hu, .int 0, .int 0, .int (-1)])), (hk, .inl (G.2 2, 24, .inl f1))] := hD
  exact W.vret hx hb hr (fun t ht hW => ⟨⟨f1, rfl, trivial, ⟨by rw [ht]; exact hP.sub [0, 1] rfl, hD.sub [0, 1] (by decide +kernel) rfl⟩⟩, hS.F ht⟩) hS.2.2 dX1_forget_24
set_option maxHeartbeats 4000000 in
set_option maxRecDepth 100000 in
theorem c_layTrack0 (l : Launch) (G : KG) (x0 : Nat) (tp : Nat) (rd : Nat) (sp : Nat) (im : Nat) (ir : Nat) (kp : Nat) (sl : Nat) (rc : Nat) (jn : Nat) (br : Nat) (sh : Nat) (tk : Nat) (t0 : Nat) (t1 : Nat) (t2 : Nat) (t3 : Nat) (ol : Nat) (hn : Nat) (hs : Nat) (hk : Nat) (hu : Nat) (nw : Nat) (nw_slopes : Nat) (nw_wets : Nat) (nw_limits : Nat) (nw_platforms : Nat) (nw_kinds : Nat) (nw_trains : Nat) (nw_coaches : Nat) (nw_slopes_c : Nat) (nw_wets_c : Nat) (nw_limits_c : Nat) (nw_kinds_c : Nat) (f0 : Nat → Int32) (f1 : Nat → Int32) (f2 : Nat → Int32) (sz : Nat) : Met l yX10_layTrack wgX10_layTrack ({ frames := 2, cells := 0, slots := 0, locals := 47 }) (preQ G [.ref x0, .int 0] sz [(x0, .inr (10, [.ref tp, .int 0, .ref rd, .ref nw, .ref sp, .ref im, .ref ir, .ref kp, .ref sl, .ref tk, .ref hn, .ref rc, .ref jn, .ref br, .ref sh])), (tk, .inr (9, [.ref t0, .ref t1, .ref t2, .ref t3, .ref ol, .int 0])), (nw, .inr (3, [.int 0, .int 0, .ref nw_slopes, .ref nw_wets, .ref nw_limits, .ref nw_platforms, .ref nw_kinds, .ref nw_trains, .ref nw_coaches])), (nw_slopes, .inr (6, [.int 8, .int 2, .ref nw_slopes_c, .int 0])), (nw_wets, .inr (6, [.int 6, .int 3, .ref nw_wets_c, .int 0])), (nw_limits, .inr (6, [.int 6, .int 2, .ref nw_limits_c, .int 0])), (nw_kinds, .inr (6, [.int 4, .int 5, .ref nw_kinds_c, .int 0])), (t0, .inl (G.2 0, 401, .inl f0)), (t1, .inl (G.2 0, 401, .inl f1)), (t2, .inl (G.2 0, 401, .inl f2)), (hn, .inr (1, [.ref tk, .ref hs, .ref hk, .ref hu, .int 0, .int 0, .int (-1)])), (hk, .inl (G.2 2, 24, .inl (fun _ => 0)))]) (va_Qv (fun (u : Unit) => True) (fun u t => atQ G (va_A [(x0, .inr (10, [.ref tp, .int 0, .ref rd, .ref nw, .ref sp, .ref im, .ref ir, .ref kp, .ref sl, .ref tk, .ref hn, .ref rc, .ref jn, .ref br, .ref sh])), (tk, .inr (9, [.ref t0, .ref t1, .ref t2, .ref t3, .ref ol, .int 0])), (nw, .inr (3, [.int 0, .int 0, .ref nw_slopes, .ref nw_wets, .ref nw_limits, .ref nw_platforms, .ref nw_kinds, .ref nw_trains, .ref nw_coaches])), (nw_slopes, .inr (6, [.int 8, .int 2, .ref nw_slopes_c, .int 0])), (nw_wets, .inr (6, [.int 6, .int 3, .ref nw_wets_c, .int 0])), (nw_limits, .inr (6, [.int 6, .int 2, .ref nw_limits_c, .int 0])), (nw_kinds, .inr (6, [.int 4, .int 5, .ref nw_kinds_c, .int 0])), (t0, .inl (G.2 0, 401, .inl f0)), (t1, .inl (G.2 0, 401, .inl f1)), (t2, .inl (G.2 0, 401, .inl f2)), (hn, .inr (1, [.ref tk, .ref hs, .ref hk, .ref hu, .int 0, .int 0, .int (-1)])), (hk, .inl (G.2 2, 24, .inl (fun _ => 0)))] sz) [(x0, .inr (10, [.ref tp, .int 0, .ref rd, .ref nw, .ref sp, .ref im, .ref ir, .ref kp, .ref sl, .ref tk, .ref hn, .ref rc, .ref jn, .ref br, .ref sh])), (nw, .inr (3, [.int 0, .int 0, .ref nw_slopes, .ref nw_wets, .ref nw_limits, .ref nw_platforms, .ref nw_kinds, .ref nw_trains, .ref nw_coaches])), (nw_slopes, .inr (6, [.int 8, .int 2, .ref nw_slopes_c, .int 0])), (nw_wets, .inr (6, [.int 6, .int 3, .ref nw_wets_c, .int 0])), (nw_limits, .inr (6, [.int 6, .int 2, .ref nw_limits_c, .int 0])), (nw_kinds, .inr (6, [.int 4, .int 5, .ref nw_kinds_c, .int 0]))] t) (va_A [(x0, .inr (10, [.ref tp, .int 0, .ref rd, .ref nw, .ref sp, .ref im, .ref ir, .ref kp, .ref sl, .ref tk, .ref hn, .ref rc, .ref jn, .ref br, .ref sh])), (tk, .inr (9, [.ref t0, .ref t1, .ref t2, .ref t3, .ref ol, .int 0])), (nw, .inr (3, [.int 0, .int 0, .ref nw_slopes, .ref nw_wets, .ref nw_limits, .ref nw_platforms, .ref nw_kinds, .ref nw_trains, .ref nw_coaches])), (nw_slopes, .inr (6, [.int 8, .int 2, .ref nw_slopes_c, .int 0])), (nw_wets, .inr (6, [.int 6, .int 3, .ref nw_wets_c, .int 0])), (nw_limits, .inr (6, [.int 6, .int 2, .ref nw_limits_c, .int 0])), (nw_kinds, .inr (6, [.int 4, .int 5, .ref nw_kinds_c, .int 0])), (t0, .inl (G.2 0, 401, .inl f0)), (t1, .inl (G.2 0, 401, .inl f1)), (t2, .inl (G.2 0, 401, .inl f2)), (hn, .inr (1, [.ref tk, .ref hs, .ref hk, .ref hu, .int 0, .int 0, .int (-1)])), (hk, .inl (G.2 2, 24, .inl (fun _ => 0)))] sz)) 0 0 (va_A [(x0, .inr (10, [.ref tp, .int 0, .ref rd, .ref nw, .ref sp, .ref im, .ref ir, .ref kp, .ref sl, .ref tk, .ref hn, .ref rc, .ref jn, .ref br, .ref sh])), (tk, .inr (9, [.ref t0, .ref t1, .ref t2, .ref t3, .ref ol, .int 0])), (nw, .inr (3, [.int 0, .int 0, .ref nw_slopes, .ref nw_wets, .ref nw_limits, .ref nw_platforms, .ref nw_kinds, .ref nw_trains, .ref nw_coaches])), (nw_slopes, .inr (6, [.int 8, .int 2, .ref nw_slopes_c, .int 0])), (nw_wets, .inr (6, [.int 6, .int 3, .ref nw_wets_c, .int 0])), (nw_limits, .inr (6, [.int 6, .int 2, .ref nw_limits_c, .int 0])), (nw_kinds, .inr (6, [.int 4, .int 5, .ref nw_kinds_c, .int 0])), (t0, .inl (G.2 0, 401, .inl f0)), (t1, .inl (G.2 0, 401, .inl f1)), (t2, .inl (G.2 0, 401, .inl f2)), (hn, .inr (1, [.ref tk, .ref hs, .ref hk, .ref hu, .int 0, .int 0, .int (-1)])), (hk, .inl (G.2 2, 24, .inl (fun _ => 0)))] sz) := by
  refine Met.ofW (cc := cX10_layTrack) (maxL := 2) (ret := none) (by decide) rfl ?_
  intro p e s m args below meth c s₁ B hml hv
  obtain ⟨rfl, hsz, hP, hKG, hD0⟩ := hv
  obtain ⟨hK, hAO⟩ := id hKG
  have hx := B.exec
  have hb := B.bytes
  have hr := B.returns
  have hts := atoms_spec (ws := wgX10_layTrack) B.pre
  have hw : ∀ w ∈ wG, w.before _ s = true := fun w h => hts w (List.mem_cons_of_mem _ h)
  have hown : s.vm.findClass RX10 = some m.cls := findClass_of_methodNamed B.named
  have hlocks := B.notSynchronized
  subst hsz
  have hD := hD0.self (sz := s.heap.size)
  generalize hAe : va_A [(x0, .inr (10, [.ref tp, .int 0, .ref rd, .ref nw, .ref sp, .ref im, .ref ir, .ref kp, .ref sl, .ref tk, .ref hn, .ref rc, .ref jn, .ref br, .ref sh])), (tk, .inr (9, [.ref t0, .ref t1, .ref t2, .ref t3, .ref ol, .int 0])), (nw, .inr (3, [.int 0, .int 0, .ref nw_slopes, .ref nw_wets, .ref nw_limits, .ref nw_platforms, .ref nw_kinds, .ref nw_trains, .ref nw_coaches])), (nw_slopes, .inr (6, [.int 8, .int 2, .ref nw_slopes_c, .int 0])), (nw_wets, .inr (6, [.int 6, .int 3, .ref nw_wets_c, .int 0])), (nw_limits, .inr (6, [.int 6, .int 2, .ref nw_limits_c, .int 0])), (nw_kinds, .inr (6, [.int 4, .int 5, .ref nw_kinds_c, .int 0])), (t0, .inl (G.2 0, 401, .inl f0)), (t1, .inl (G.2 0, 401, .inl f1)), (t2, .inl (G.2 0, 401, .inl f2)), (hn, .inr (1, [.ref tk, .ref hs, .ref hk, .ref hu, .int 0, .int 0, .int (-1)])), (hk, .inl (G.2 2, 24, .inl (fun _ => 0)))] s.heap.size = A at hD ⊢
  have hA : ∀ q : Nat, s.heap.size ≤ q → A q := fun q h => by rw [← hAe]; exact Or.inr h
  have hS : va_S A s.heap s.heap [] := va_S.rf
  have hl := lv_entry ([.ref x0, .int 0]) (n := 2) (Nat.le_of_ble_eq_true rfl)
  rw [lg_entry_eq]
  generalize (lg_sl ([.ref x0, .int 0]) ++ List.replicate (2 - (lg_sl ([.ref x0, .int 0])).length) Slot.unset).toArray = ls at hl ⊢
  have hl : lv_has ls 2 [(0, .ref x0), (1, .int 0)] := hl
  refine lv_aload_n hx hb dX10_layTrack_0 rfl (lv_at hl 0 rfl) ?_
  refine va_get (D := G.1) (ci := 10) (v := .ref tk) (C := RX10) (T := TX10) (N := 15) hx hb hw inGX10 hown hK hP 0 rfl rfl 9 (by decide) (hw _ kw_60) (fun _ h9 => h9) rfl dX10_layTrack_1 ?_
  refine lv_aload_n hx hb dX10_layTrack_4 rfl (lv_at hl 0 rfl) ?_
  refine va_get (D := G.1) (ci := 10) (v := .ref nw) (C := RX10) (T := TX10) (N := 15) hx hb hw inGX10 hown hK hP 0 rfl rfl 3 (by decide) (hw _ kw_2) (fun _ h9 => h9) rfl dX10_layTrack_5 ?_
  refine lv_iload_n hx hb dX10_layTrack_8 rfl (lv_at hl 1 rfl) ?_
  refine wq_callv (wr := [(x0, .inr (10, [.ref tp, .int 0, .ref rd, .ref nw, .ref sp, .ref im, .ref ir, .ref kp, .ref sl, .ref tk, .ref hn, .ref rc, .ref jn, .ref br, .ref sh])), (hn, .inr (1, [.ref tk, .ref hs, .ref hk, .ref hu, .int 0, .int 0, .int (-1)])), (hk, .inl (G.2 2, 24, .inl (fun _ => 0)))]) (va_runV (As := [.ref nw, .int 0]) (rest := []) ⟨hx, hb, hml, hown, hw⟩ (c_lay0b l G tk t0 t1 t2 t3 ol nw nw_slopes nw_wets nw_limits nw_platforms nw_kinds nw_trains nw_coaches nw_slopes_c nw_wets_c nw_limits_c nw_kinds_c f0 f1 f2 s.heap.size) (cwV 2 hw (gdV kw_145 kw_146 kw_147 kw_131 kw_144) rfl rfl rfl ⟨rfl, hdX9_lay⟩ ⟨(Nat.le_of_ble_eq_true rfl), (Nat.le_of_ble_eq_true rfl)⟩) (preQ_V (wc := [(tk, .inr (9, [.ref t0, .ref t1, .ref t2, .ref t3, .ref ol, .int 0])), (nw, .inr (3, [.int 0, .int 0, .ref nw_slopes, .ref nw_wets, .ref nw_limits, .ref nw_platforms, .ref nw_kinds, .ref nw_trains, .ref nw_coaches])), (nw_slopes, .inr (6, [.int 8, .int 2, .ref nw_slopes_c, .int 0])), (nw_wets, .inr (6, [.int 6, .int 3, .ref nw_wets_c, .int 0])), (nw_limits, .inr (6, [.int 6, .int 2, .ref nw_limits_c, .int 0])), (nw_kinds, .inr (6, [.int 4, .int 5, .ref nw_kinds_c, .int 0])), (t0, .inl (G.2 0, 401, .inl f0)), (t1, .inl (G.2 0, 401, .inl f1)), (t2, .inl (G.2 0, 401, .inl f2))]) (ci := 9) hKG hP hD [1, 2, 3, 4, 5, 6, 7, 8, 9] (by decide +kernel) rfl rfl rfl) rfl rfl hl.1 rfl (lv_room (Nat.le_of_ble_eq_true rfl)) dX10_layTrack_9 ⟨(Nat.le_of_ble_eq_true rfl), (Nat.le_of_ble_eq_true rfl)⟩) hS hP hD hA [1, 2, 3, 4, 5, 6, 7, 8, 9] [0, 10, 11] rfl rfl (by decide +kernel) (by decide +kernel) (fun u5 H locs hr1 hP hD hS => ?_)
  obtain ⟨g_2, g_3, g_4⟩ := u5
  have hP : va_P G.1 vwCl [(x0, .inr (10, [.ref tp, .int 0, .ref rd, .ref nw, .ref sp, .ref im, .ref ir, .ref kp, .ref sl, .ref tk, .ref hn, .ref rc, .ref jn, .ref br, .ref sh])), (hn, .inr (1, [.ref tk, .ref hs, .ref hk, .ref hu, .int 0, .int 0, .int (-1)])), (hk, .inl (G.2 2, 24, .inl (fun _ => 0))), (tk, .inr (9, [.ref t0, .ref t1, .ref t2, .ref t3, .ref nw, .int 0])), (nw, .inr (3, [.int 0, .int 0, .ref nw_slopes, .ref nw_wets, .ref nw_limits, .ref nw_platforms, .ref nw_kinds, .ref nw_trains, .ref nw_coaches])), (nw_slopes, .inr (6, [.int 8, .int 2, .ref nw_slopes_c, .int 0])), (nw_wets, .inr (6, [.int 6, .int 3, .ref nw_wets_c, .int 0])), (nw_limits, .inr (6, [.int 6, .int 2, .ref nw_limits_c, .int 0])), (nw_kinds, .inr (6, [.int 4, .int 5, .ref nw_kinds_c, .int 0])), (t0, .inl (G.2 0, 401, .inl g_2)), (t1, .inl (G.2 0, 401, .inl g_3)), (t2, .inl (G.2 0, 401, .inl g_4))] H := hP
  have hD : va_D A [(x0, .inr (10, [.ref tp, .int 0, .ref rd, .ref nw, .ref sp, .ref im, .ref ir, .ref kp, .ref sl, .ref tk, .ref hn, .ref rc, .ref jn, .ref br, .ref sh])), (hn, .inr (1, [.ref tk, .ref hs, .ref hk, .ref hu, .int 0, .int 0, .int (-1)])), (hk, .inl (G.2 2, 24, .inl (fun _ => 0))), (tk, .inr (9, [.ref t0, .ref t1, .ref t2, .ref t3, .ref nw, .int 0])), (nw, .inr (3, [.int 0, .int 0, .ref nw_slopes, .ref nw_wets, .ref nw_limits, .ref nw_platforms, .ref nw_kinds, .ref nw_trains, .ref nw_coaches])), (nw_slopes, .inr (6, [.int 8, .int 2, .ref nw_slopes_c, .int 0])), (nw_wets, .inr (6, [.int 6, .int 3, .ref nw_wets_c, .int 0])), (nw_limits, .inr (6, [.int 6, .int 2, .ref nw_limits_c, .int 0])), (nw_kinds, .inr (6, [.int 4, .int 5, .ref nw_kinds_c, .int 0])), (t0, .inl (G.2 0, 401, .inl g_2)), (t1, .inl (G.2 0, 401, .inl g_3)), (t2, .inl (G.2 0, 401, .inl g_4))] := hD
  refine W.widen (k := 0) (n := 0) (Nat.le_of_ble_eq_true rfl) (Nat.le_of_ble_eq_true rfl) ?_
  refine lv_aload_n hx hb dX10_layTrack_12 rfl (lv_at hl 0 rfl) ?_
  refine va_get (D := G.1) (ci := 10) (v := .ref hn) (C := RX10) (T := TX10) (N := 15) hx hb hw inGX10 hown hK hP 0 rfl rfl 10 (by decide) (hw _ kw_148) (fun _ h9 => h9) rfl dX10_layTrack_13 ?_
  refine wq_callv (wr := [(x0, .inr (10, [.ref tp, .int 0, .ref rd, .ref nw, .ref sp, .ref im, .ref ir, .ref kp, .ref sl, .ref tk, .ref hn, .ref rc, .ref jn, .ref br, .ref sh])), (tk, .inr (9, [.ref t0, .ref t1, .ref t2, .ref t3, .ref nw, .int 0])), (nw, .inr (3, [.int 0, .int 0, .ref nw_slopes, .ref nw_wets, .ref nw_limits, .ref nw_platforms, .ref nw_kinds, .ref nw_trains, .ref nw_coaches])), (nw_slopes, .inr (6, [.int 8, .int 2, .ref nw_slopes_c, .int 0])), (nw_wets, .inr (6, [.int 6, .int 3, .ref nw_wets_c, .int 0])), (nw_limits, .inr (6, [.int 6, .int 2, .ref nw_limits_c, .int 0])), (nw_kinds, .inr (6, [.int 4, .int 5, .ref nw_kinds_c, .int 0])), (t0, .inl (G.2 0, 401, .inl g_2)), (t1, .inl (G.2 0, 401, .inl g_3)), (t2, .inl (G.2 0, 401, .inl g_4))]) (va_runV (As := []) (rest := []) ⟨hx, hb, hml, hown, hw⟩ (c_forget l G hn hs hk hu tk (fun _ => 0) H.size) (cwV 0 hw (gdV kw_150 kw_151 kw_152 kw_153 kw_149) rfl rfl rfl ⟨rfl, hdX1_forget⟩ ⟨(Nat.le_of_ble_eq_true rfl), (Nat.le_of_ble_eq_true rfl)⟩) (preQ_V (wc := [(hn, .inr (1, [.ref tk, .ref hs, .ref hk, .ref hu, .int 0, .int 0, .int (-1)])), (hk, .inl (G.2 2, 24, .inl (fun _ => 0)))]) (ci := 1) hKG hP hD [1, 2] (by decide +kernel) rfl rfl rfl) rfl rfl hl.1 rfl (lv_room (Nat.le_of_ble_eq_true rfl)) dX10_layTrack_16 ⟨(Nat.le_of_ble_eq_true rfl), (Nat.le_of_ble_eq_true rfl)⟩) hS hP hD hA [1, 2] [0, 3, 4, 5, 6, 7, 8, 9, 10, 11] rfl rfl (by decide +kernel) (by decide +kernel) (fun u8 H locs hr6 hP hD hS => ?_)
  obtain ⟨g_7, rfl⟩ : ∃ z, z = u8 := ⟨_, rfl⟩
  have hP : va_P G.1 vwCl [(x0, .inr (10, [.ref tp, .int 0, .ref rd, .ref nw, .ref sp, .ref im, .ref ir, .ref kp, .ref sl, .ref tk, .ref hn, .ref rc, .ref jn, .ref br, .ref sh])), (tk, .inr (9, [.ref t0, .ref t1, .ref t2, .ref t3, .ref nw, .int 0])), (nw, .inr (3, [.int 0, .int 0, .ref nw_slopes, .ref nw_wets, .ref nw_limits, .ref nw_platforms, .ref nw_kinds, .ref nw_trains, .ref nw_coaches])), (nw_slopes, .inr (6, [.int 8, .int 2, .ref nw_slopes_c, .int 0])), (nw_wets, .inr (6, [.int 6, .int 3, .ref nw_wets_c, .int 0])), (nw_limits, .inr (6, [.int 6, .int 2, .ref nw_limits_c, .int 0])), (nw_kinds, .inr (6, [.int 4, .int 5, .ref nw_kinds_c, .int 0])), (t0, .inl (G.2 0, 401, .inl g_2)), (t1, .inl (G.2 0, 401, .inl g_3)), (t2, .inl (G.2 0, 401, .inl g_4)), (hn, .inr (1, [.ref tk, .ref hs, .ref hk, .ref hu, .int 0, .int 0, .int (-1)])), (hk, .inl (G.2 2, 24, .inl g_7))] H := hP
  have hD : va_D A [(x0, .inr (10, [.ref tp, .int 0, .ref rd, .ref nw, .ref sp, .ref im, .ref ir, .ref kp, .ref sl, .ref tk, .ref hn, .ref rc, .ref jn, .ref br, .ref sh])), (tk, .inr (9, [.ref t0, .ref t1, .ref t2, .ref t3, .ref nw, .int 0])), (nw, .inr (3, [.int 0, .int 0, .ref nw_slopes, .ref nw_wets, .ref nw_limits, .ref nw_platforms, .ref nw_kinds, .ref nw_trains, .ref nw_coaches])), (nw_slopes, .inr (6, [.int 8, .int 2, .ref nw_slopes_c, .int 0])), (nw_wets, .inr (6, [.int 6, .int 3, .ref nw_wets_c, .int 0])), (nw_limits, .inr (6, [.int 6, .int 2, .ref nw_limits_c, .int 0])), (nw_kinds, .inr (6, [.int 4, .int 5, .ref nw_kinds_c, .int 0])), (t0, .inl (G.2 0, 401, .inl g_2)), (t1, .inl (G.2 0, 401, .inl g_3)), (t2, .inl (G.2 0, 401, .inl g_4)), (hn, .inr (1, [.ref tk, .ref hs, .ref hk, .ref hu, .int 0, .int 0, .int (-1)])), (hk, .inl (G.2 2, 24, .inl g_7))] := hD
  refine W.widen (k := 0) (n := 0) (Nat.le_of_ble_eq_true rfl) (Nat.le_of_ble_eq_true rfl) ?_
  exact W.vret hx hb hr (fun t ht hW => ⟨⟨(), rfl, trivial, ⟨by rw [ht]; exact hP.sub [0, 2, 3, 4, 5, 6] rfl, hD.sub [0, 2, 3, 4, 5, 6] (by decide +kernel) rfl⟩⟩, hS.F ht⟩) hS.2.2 dX10_layTrack_19
set_option maxHeartbeats 4000000 in
set_option maxRecDepth 100000 in
theorem c_X10_line (l : Launch) (G : KG) (x0 : Nat) (im : Nat) (ir : Nat) (kp : Nat) (sl : Nat) (rc : Nat) (jn : Nat) (br : Nat) (sh : Nat) (nw : Nat) (rd : Nat) (rt : Nat) (tp : Nat) (tk : Nat) (t0 : Nat) (t1 : Nat) (t2 : Nat) (t3 : Nat) (ol : Nat) (hn : Nat) (hs : Nat) (hk : Nat) (hu : Nat) (sp : Nat) (sp_slopes : Nat) (sp_wets : Nat) (sp_limits : Nat) (sp_platforms : Nat) (sp_kinds : Nat) (sp_trains : Nat) (sp_coaches : Nat) (sp_slopes_c : Nat) (sp_wets_c : Nat) (sp_limits_c : Nat) (sp_platforms_c : Nat) (sp_kinds_c : Nat) (sp_trains_c : Nat) (sp_coaches_c : Nat) (f0 : Nat → Int32) (f1 : Nat → Int32) (f2 : Nat → Int32) (sz : Nat) : Met l yX10_line wgX10_line ({ frames := 3, cells := 0, slots := 0, locals := 68 }) (preQ G [.ref x0] sz [(x0, .inr (10, [.ref tp, .int 0, .ref rd, .ref nw, .ref sp, .ref im, .ref ir, .ref kp, .ref sl, .ref tk, .ref hn, .ref rc, .ref jn, .ref br, .ref sh])), (rd, .inr (5, [.ref rt, .int 0, .int 0, .int 0, .int 0, .int 0, .int 0, .int (-1)])), (sp, .inr (3, [.int 0, .int 0, .ref sp_slopes, .ref sp_wets, .ref sp_limits, .ref sp_platforms, .ref sp_kinds, .ref sp_trains, .ref sp_coaches])), (sp_slopes, .inr (6, [.int 8, .int 2, .ref sp_slopes_c, .int 0])), (sp_wets, .inr (6, [.int 6, .int 3, .ref sp_wets_c, .int 0])), (sp_limits, .inr (6, [.int 6, .int 2, .ref sp_limits_c, .int 0])), (sp_platforms, .inr (6, [.int 6, .int 2, .ref sp_platforms_c, .int 0])), (sp_kinds, .inr (6, [.int 4, .int 5, .ref sp_kinds_c, .int 0])), (sp_trains, .inr (6, [.int 5, .int 3, .ref sp_trains_c, .int 0])), (sp_coaches, .inr (6, [.int 16, .int 5, .ref sp_coaches_c, .int 0])), (tp, .inl (G.2 1, 1600, .inl (fun _ => 0))), (tk, .inr (9, [.ref t0, .ref t1, .ref t2, .ref t3, .ref ol, .int 0])), (t0, .inl (G.2 0, 401, .inl f0)), (t1, .inl (G.2 0, 401, .inl f1)), (t2, .inl (G.2 0, 401, .inl f2)), (hn, .inr (1, [.ref tk, .ref hs, .ref hk, .ref hu, .int 0, .int 0, .int (-1)])), (hk, .inl (G.2 2, 24, .inl (fun _ => 0)))]) (va_Qi (fun (r : Int32) (u : Unit) => (r = 0)) (fun u t => atQ G (va_A [(x0, .inr (10, [.ref tp, .int 0, .ref rd, .ref nw, .ref sp, .ref im, .ref ir, .ref kp, .ref sl, .ref tk, .ref hn, .ref rc, .ref jn, .ref br, .ref sh])), (rd, .inr (5, [.ref rt, .int 0, .int 0, .int 0, .int 0, .int 0, .int 0, .int (-1)])), (sp, .inr (3, [.int 0, .int 0, .ref sp_slopes, .ref sp_wets, .ref sp_limits, .ref sp_platforms, .ref sp_kinds, .ref sp_trains, .ref sp_coaches])), (sp_slopes, .inr (6, [.int 8, .int 2, .ref sp_slopes_c, .int 0])), (sp_wets, .inr (6, [.int 6, .int 3, .ref sp_wets_c, .int 0])), (sp_limits, .inr (6, [.int 6, .int 2, .ref sp_limits_c, .int 0])), (sp_platforms, .inr (6, [.int 6, .int 2, .ref sp_platforms_c, .int 0])), (sp_kinds, .inr (6, [.int 4, .int 5, .ref sp_kinds_c, .int 0])), (sp_trains, .inr (6, [.int 5, .int 3, .ref sp_trains_c, .int 0])), (sp_coaches, .inr (6, [.int 16, .int 5, .ref sp_coaches_c, .int 0])), (tp, .inl (G.2 1, 1600, .inl (fun _ => 0))), (tk, .inr (9, [.ref t0, .ref t1, .ref t2, .ref t3, .ref ol, .int 0])), (t0, .inl (G.2 0, 401, .inl f0)), (t1, .inl (G.2 0, 401, .inl f1)), (t2, .inl (G.2 0, 401, .inl f2)), (hn, .inr (1, [.ref tk, .ref hs, .ref hk, .ref hu, .int 0, .int 0, .int (-1)])), (hk, .inl (G.2 2, 24, .inl (fun _ => 0)))] sz) [] t) (va_A [(x0, .inr (10, [.ref tp, .int 0, .ref rd, .ref nw, .ref sp, .ref im, .ref ir, .ref kp, .ref sl, .ref tk, .ref hn, .ref rc, .ref jn, .ref br, .ref sh])), (rd, .inr (5, [.ref rt, .int 0, .int 0, .int 0, .int 0, .int 0, .int 0, .int (-1)])), (sp, .inr (3, [.int 0, .int 0, .ref sp_slopes, .ref sp_wets, .ref sp_limits, .ref sp_platforms, .ref sp_kinds, .ref sp_trains, .ref sp_coaches])), (sp_slopes, .inr (6, [.int 8, .int 2, .ref sp_slopes_c, .int 0])), (sp_wets, .inr (6, [.int 6, .int 3, .ref sp_wets_c, .int 0])), (sp_limits, .inr (6, [.int 6, .int 2, .ref sp_limits_c, .int 0])), (sp_platforms, .inr (6, [.int 6, .int 2, .ref sp_platforms_c, .int 0])), (sp_kinds, .inr (6, [.int 4, .int 5, .ref sp_kinds_c, .int 0])), (sp_trains, .inr (6, [.int 5, .int 3, .ref sp_trains_c, .int 0])), (sp_coaches, .inr (6, [.int 16, .int 5, .ref sp_coaches_c, .int 0])), (tp, .inl (G.2 1, 1600, .inl (fun _ => 0))), (tk, .inr (9, [.ref t0, .ref t1, .ref t2, .ref t3, .ref ol, .int 0])), (t0, .inl (G.2 0, 401, .inl f0)), (t1, .inl (G.2 0, 401, .inl f1)), (t2, .inl (G.2 0, 401, .inl f2)), (hn, .inr (1, [.ref tk, .ref hs, .ref hk, .ref hu, .int 0, .int 0, .int (-1)])), (hk, .inl (G.2 2, 24, .inl (fun _ => 0)))] sz)) 0 0 (va_A [(x0, .inr (10, [.ref tp, .int 0, .ref rd, .ref nw, .ref sp, .ref im, .ref ir, .ref kp, .ref sl, .ref tk, .ref hn, .ref rc, .ref jn, .ref br, .ref sh])), (rd, .inr (5, [.ref rt, .int 0, .int 0, .int 0, .int 0, .int 0, .int 0, .int (-1)])), (sp, .inr (3, [.int 0, .int 0, .ref sp_slopes, .ref sp_wets, .ref sp_limits, .ref sp_platforms, .ref sp_kinds, .ref sp_trains, .ref sp_coaches])), (sp_slopes, .inr (6, [.int 8, .int 2, .ref sp_slopes_c, .int 0])), (sp_wets, .inr (6, [.int 6, .int 3, .ref sp_wets_c, .int 0])), (sp_limits, .inr (6, [.int 6, .int 2, .ref sp_limits_c, .int 0])), (sp_platforms, .inr (6, [.int 6, .int 2, .ref sp_platforms_c, .int 0])), (sp_kinds, .inr (6, [.int 4, .int 5, .ref sp_kinds_c, .int 0])), (sp_trains, .inr (6, [.int 5, .int 3, .ref sp_trains_c, .int 0])), (sp_coaches, .inr (6, [.int 16, .int 5, .ref sp_coaches_c, .int 0])), (tp, .inl (G.2 1, 1600, .inl (fun _ => 0))), (tk, .inr (9, [.ref t0, .ref t1, .ref t2, .ref t3, .ref ol, .int 0])), (t0, .inl (G.2 0, 401, .inl f0)), (t1, .inl (G.2 0, 401, .inl f1)), (t2, .inl (G.2 0, 401, .inl f2)), (hn, .inr (1, [.ref tk, .ref hs, .ref hk, .ref hu, .int 0, .int 0, .int (-1)])), (hk, .inl (G.2 2, 24, .inl (fun _ => 0)))] sz) := by
  refine Met.ofW (cc := cX10_line) (maxL := 2) (ret := (some .int)) (by decide) rfl ?_
  intro p e s m args below meth c s₁ B hml hv
  obtain ⟨rfl, hsz, hP, hKG, hD0⟩ := hv
  obtain ⟨hK, hAO⟩ := id hKG
  have hx := B.exec
  have hb := B.bytes
  have hr := B.returns
  have hts := atoms_spec (ws := wgX10_line) B.pre
  have hw : ∀ w ∈ wG, w.before _ s = true := fun w h => hts w (List.mem_cons_of_mem _ h)
  have hown : s.vm.findClass RX10 = some m.cls := findClass_of_methodNamed B.named
  have hlocks := B.notSynchronized
  subst hsz
  have hD := hD0.self (sz := s.heap.size)
  generalize hAe : va_A [(x0, .inr (10, [.ref tp, .int 0, .ref rd, .ref nw, .ref sp, .ref im, .ref ir, .ref kp, .ref sl, .ref tk, .ref hn, .ref rc, .ref jn, .ref br, .ref sh])), (rd, .inr (5, [.ref rt, .int 0, .int 0, .int 0, .int 0, .int 0, .int 0, .int (-1)])), (sp, .inr (3, [.int 0, .int 0, .ref sp_slopes, .ref sp_wets, .ref sp_limits, .ref sp_platforms, .ref sp_kinds, .ref sp_trains, .ref sp_coaches])), (sp_slopes, .inr (6, [.int 8, .int 2, .ref sp_slopes_c, .int 0])), (sp_wets, .inr (6, [.int 6, .int 3, .ref sp_wets_c, .int 0])), (sp_limits, .inr (6, [.int 6, .int 2, .ref sp_limits_c, .int 0])), (sp_platforms, .inr (6, [.int 6, .int 2, .ref sp_platforms_c, .int 0])), (sp_kinds, .inr (6, [.int 4, .int 5, .ref sp_kinds_c, .int 0])), (sp_trains, .inr (6, [.int 5, .int 3, .ref sp_trains_c, .int 0])), (sp_coaches, .inr (6, [.int 16, .int 5, .ref sp_coaches_c, .int 0])), (tp, .inl (G.2 1, 1600, .inl (fun _ => 0))), (tk, .inr (9, [.ref t0, .ref t1, .ref t2, .ref t3, .ref ol, .int 0])), (t0, .inl (G.2 0, 401, .inl f0)), (t1, .inl (G.2 0, 401, .inl f1)), (t2, .inl (G.2 0, 401, .inl f2)), (hn, .inr (1, [.ref tk, .ref hs, .ref hk, .ref hu, .int 0, .int 0, .int (-1)])), (hk, .inl (G.2 2, 24, .inl (fun _ => 0)))] s.heap.size = A at hD ⊢
  have hA : ∀ q : Nat, s.heap.size ≤ q → A q := fun q h => by rw [← hAe]; exact Or.inr h
  have hS : va_S A s.heap s.heap [] := va_S.rf
  have hl := lv_entry ([.ref x0]) (n := 2) (Nat.le_of_ble_eq_true rfl)
  rw [lg_entry_eq]
  generalize (lg_sl ([.ref x0]) ++ List.replicate (2 - (lg_sl ([.ref x0])).length) Slot.unset).toArray = ls at hl ⊢
  have hl : lv_has ls 2 [(0, .ref x0)] := hl
  refine lv_aload_n hx hb dX10_line_0 rfl (lv_at hl 0 rfl) ?_
  refine va_get (D := G.1) (ci := 10) (v := .ref rd) (C := RX10) (T := TX10) (N := 15) hx hb hw inGX10 hown hK hP 0 rfl rfl 2 (by decide) (hw _ kw_45) (fun _ h9 => h9) rfl dX10_line_1 ?_
  refine lv_aload_n hx hb dX10_line_4 rfl (lv_at hl 0 rfl) ?_
  refine va_get (D := G.1) (ci := 10) (v := .ref sp) (C := RX10) (T := TX10) (N := 15) hx hb hw inGX10 hown hK hP 0 rfl rfl 4 (by decide) (hw _ kw_154) (fun _ h9 => h9) rfl dX10_line_5 ?_
  refine lv_aload_n hx hb dX10_line_8 rfl (lv_at hl 0 rfl) ?_
  refine va_get (D := G.1) (ci := 10) (v := .ref tp) (C := RX10) (T := TX10) (N := 15) hx hb hw inGX10 hown hK hP 0 rfl rfl 0 (by decide) (hw _ kw_66) (fun _ h9 => h9) rfl dX10_line_9 ?_
  refine lv_aload_n hx hb dX10_line_12 rfl (lv_at hl 0 rfl) ?_
  refine va_get (D := G.1) (ci := 10) (v := .int 0) (C := RX10) (T := TX10) (N := 15) hx hb hw inGX10 hown hK hP 0 rfl rfl 1 (by decide) (hw _ kw_59) (fun _ h9 => h9) rfl dX10_line_13 ?_
  refine wq_callv (wr := [(x0, .inr (10, [.ref tp, .int 0, .ref rd, .ref nw, .ref sp, .ref im, .ref ir, .ref kp, .ref sl, .ref tk, .ref hn, .ref rc, .ref jn, .ref br, .ref sh])), (tk, .inr (9, [.ref t0, .ref t1, .ref t2, .ref t3, .ref ol, .int 0])), (t0, .inl (G.2 0, 401, .inl f0)), (t1, .inl (G.2 0, 401, .inl f1)), (t2, .inl (G.2 0, 401, .inl f2)), (hn, .inr (1, [.ref tk, .ref hs, .ref hk, .ref hu, .int 0, .int 0, .int (-1)])), (hk, .inl (G.2 2, 24, .inl (fun _ => 0)))]) (va_runV (As := [.ref sp, .ref tp, .int 0]) (rest := []) ⟨hx, hb, hml, hown, hw⟩ (c_read0 l G rd rt tp sp sp_slopes sp_wets sp_limits sp_platforms sp_kinds sp_trains sp_coaches sp_slopes_c sp_wets_c sp_limits_c sp_platforms_c sp_kinds_c sp_trains_c sp_coaches_c s.heap.size) (cwV 3 hw (gdV kw_156 kw_157 kw_158 kw_115 kw_155) rfl rfl rfl ⟨rfl, hdX5_read⟩ ⟨(Nat.le_of_ble_eq_true rfl), (Nat.le_of_ble_eq_true rfl)⟩) (preQ_V (wc := [(rd, .inr (5, [.ref rt, .int 0, .int 0, .int 0, .int 0, .int 0, .int 0, .int (-1)])), (sp, .inr (3, [.int 0, .int 0, .ref sp_slopes, .ref sp_wets, .ref sp_limits, .ref sp_platforms, .ref sp_kinds, .ref sp_trains, .ref sp_coaches])), (sp_slopes, .inr (6, [.int 8, .int 2, .ref sp_slopes_c, .int 0])), (sp_wets, .inr (6, [.int 6, .int 3, .ref sp_wets_c, .int 0])), (sp_limits, .inr (6, [.int 6, .int 2, .ref sp_limits_c, .int 0])), (sp_platforms, .inr (6, [.int 6, .int 2, .ref sp_platforms_c, .int 0])), (sp_kinds, .inr (6, [.int 4, .int 5, .ref sp_kinds_c, .int 0])), (sp_trains, .inr (6, [.int 5, .int 3, .ref sp_trains_c, .int 0])), (sp_coaches, .inr (6, [.int 16, .int 5, .ref sp_coaches_c, .int 0])), (tp, .inl (G.2 1, 1600, .inl (fun _ => 0)))]) (ci := 5) hKG hP hD [1, 2, 3, 4, 5, 6, 7, 8, 9, 10] (by decide +kernel) rfl rfl rfl) rfl rfl hl.1 rfl (lv_room (Nat.le_of_ble_eq_true rfl)) dX10_line_16 ⟨(Nat.le_of_ble_eq_true rfl), (Nat.le_of_ble_eq_true rfl)⟩) hS hP hD hA [1, 2, 3, 4, 5, 6, 7, 8, 9, 10] [0, 11, 12, 13, 14, 15, 16] rfl rfl (by decide +kernel) (by decide +kernel) (fun u2 H locs hr1 hP hD hS => ?_)
  have hP : va_P G.1 vwCl [(x0, .inr (10, [.ref tp, .int 0, .ref rd, .ref nw, .ref sp, .ref im, .ref ir, .ref kp, .ref sl, .ref tk, .ref hn, .ref rc, .ref jn, .ref br, .ref sh])), (tk, .inr (9, [.ref t0, .ref t1, .ref t2, .ref t3, .ref ol, .int 0])), (t0, .inl (G.2 0, 401, .inl f0)), (t1, .inl (G.2 0, 401, .inl f1)), (t2, .inl (G.2 0, 401, .inl f2)), (hn, .inr (1, [.ref tk, .ref hs, .ref hk, .ref hu, .int 0, .int 0, .int (-1)])), (hk, .inl (G.2 2, 24, .inl (fun _ => 0))), (rd, .inr (5, [.ref tp, .int 0, .int 0, .int 0, .int 0, .int 0, .int 0, .int (-1)])), (sp, .inr (3, [.int 0, .int 0, .ref sp_slopes, .ref sp_wets, .ref sp_limits, .ref sp_platforms, .ref sp_kinds, .ref sp_trains, .ref sp_coaches])), (sp_slopes, .inr (6, [.int 8, .int 2, .ref sp_slopes_c, .int 0])), (sp_wets, .inr (6, [.int 6, .int 3, .ref sp_wets_c, .int 0])), (sp_limits, .inr (6, [.int 6, .int 2, .ref sp_limits_c, .int 0])), (sp_platforms, .inr (6, [.int 6, .int 2, .ref sp_platforms_c, .int 0])), (sp_kinds, .inr (6, [.int 4, .int 5, .ref sp_kinds_c, .int 0])), (sp_trains, .inr (6, [.int 5, .int 3, .ref sp_trains_c, .int 0])), (sp_coaches, .inr (6, [.int 16, .int 5, .ref sp_coaches_c, .int 0]))] H := hP
  have hD : va_D A [(x0, .inr (10, [.ref tp, .int 0, .ref rd, .ref nw, .ref sp, .ref im, .ref ir, .ref kp, .ref sl, .ref tk, .ref hn, .ref rc, .ref jn, .ref br, .ref sh])), (tk, .inr (9, [.ref t0, .ref t1, .ref t2, .ref t3, .ref ol, .int 0])), (t0, .inl (G.2 0, 401, .inl f0)), (t1, .inl (G.2 0, 401, .inl f1)), (t2, .inl (G.2 0, 401, .inl f2)), (hn, .inr (1, [.ref tk, .ref hs, .ref hk, .ref hu, .int 0, .int 0, .int (-1)])), (hk, .inl (G.2 2, 24, .inl (fun _ => 0))), (rd, .inr (5, [.ref tp, .int 0, .int 0, .int 0, .int 0, .int 0, .int 0, .int (-1)])), (sp, .inr (3, [.int 0, .int 0, .ref sp_slopes, .ref sp_wets, .ref sp_limits, .ref sp_platforms, .ref sp_kinds, .ref sp_trains, .ref sp_coaches])), (sp_slopes, .inr (6, [.int 8, .int 2, .ref sp_slopes_c, .int 0])), (sp_wets, .inr (6, [.int 6, .int 3, .ref sp_wets_c, .int 0])), (sp_limits, .inr (6, [.int 6, .int 2, .ref sp_limits_c, .int 0])), (sp_platforms, .inr (6, [.int 6, .int 2, .ref sp_platforms_c, .int 0])), (sp_kinds, .inr (6, [.int 4, .int 5, .ref sp_kinds_c, .int 0])), (sp_trains, .inr (6, [.int 5, .int 3, .ref sp_trains_c, .int 0])), (sp_coaches, .inr (6, [.int 16, .int 5, .ref sp_coaches_c, .int 0]))] := hD
  refine W.widen (k := 0) (n := 0) (Nat.le_of_ble_eq_true rfl) (Nat.le_of_ble_eq_true rfl) ?_
  refine lv_aload_n hx hb dX10_line_19 rfl (lv_at hl 0 rfl) ?_
  refine va_get (D := G.1) (ci := 10) (v := .ref rd) (C := RX10) (T := TX10) (N := 15) hx hb hw inGX10 hown hK hP 0 rfl rfl 2 (by decide) (hw _ kw_45) (fun _ h9 => h9) rfl dX10_line_20 ?_
  refine va_get (D := G.1) (ci := 5) (v := .int 0) (C := RX5) (T := TX5) (N := 8) hx hb hw inGX5 hown hK hP 7 rfl rfl 6 (by decide) (hw _ kw_47) (fun _ h9 => h9) rfl dX10_line_23 ?_
  refine lv_if_eq (tgt := 32) hx hb dX10_line_26 (by decide) (fun c3 => ?_) (fun c3 => absurd (by decide) c3)
  refine lv_aload_n hx hb dX10_line_32 rfl (lv_at hl 0 rfl) ?_
  refine va_get (D := G.1) (ci := 10) (v := .ref nw) (C := RX10) (T := TX10) (N := 15) hx hb hw inGX10 hown hK hP 0 rfl rfl 3 (by decide) (hw _ kw_2) (fun _ h9 => h9) rfl dX10_line_33 ?_
  refine lv_astore_n (lv' := [(1, .ref nw), (0, .ref x0)]) hx hb dX10_line_36 rfl hl (by decide) rfl (fun ls hl => ?_)
  refine lv_aload_n hx hb dX10_line_37 rfl (lv_at hl 1 rfl) ?_
  refine lv_aload_n hx hb dX10_line_38 rfl (lv_at hl 1 rfl) ?_
  refine va_get (D := G.1) (ci := 10) (v := .ref sp) (C := RX10) (T := TX10) (N := 15) hx hb hw inGX10 hown hK hP 0 rfl rfl 4 (by decide) (hw _ kw_154) (fun _ h9 => h9) rfl dX10_line_39 ?_
  refine va_put (D := G.1) (ci := 10) (v := .ref sp) (ty := (.object "SlipCoach$Line")) (C := RX10) (T := TX10) (N := 15) hx hb hw inGX10 tyX10 tyX10_ok nmX10 hown hK hP hD hS 0 rfl rfl 3 (by decide) (hw _ kw_2) (fun _ h9 => h9) rfl (by decide +kernel) rfl rfl (Nat.le_of_ble_eq_true rfl) dX10_line_42 (fun H locs hP hD hS => ?_)
  have hP : va_P G.1 vwCl [(x0, .inr (10, [.ref tp, .int 0, .ref rd, .ref sp, .ref sp, .ref im, .ref ir, .ref kp, .ref sl, .ref tk, .ref hn, .ref rc, .ref jn, .ref br, .ref sh])), (tk, .inr (9, [.ref t0, .ref t1, .ref t2, .ref t3, .ref ol, .int 0])), (t0, .inl (G.2 0, 401, .inl f0)), (t1, .inl (G.2 0, 401, .inl f1)), (t2, .inl (G.2 0, 401, .inl f2)), (hn, .inr (1, [.ref tk, .ref hs, .ref hk, .ref hu, .int 0, .int 0, .int (-1)])), (hk, .inl (G.2 2, 24, .inl (fun _ => 0))), (rd, .inr (5, [.ref tp, .int 0, .int 0, .int 0, .int 0, .int 0, .int 0, .int (-1)])), (sp, .inr (3, [.int 0, .int 0, .ref sp_slopes, .ref sp_wets, .ref sp_limits, .ref sp_platforms, .ref sp_kinds, .ref sp_trains, .ref sp_coaches])), (sp_slopes, .inr (6, [.int 8, .int 2, .ref sp_slopes_c, .int 0])), (sp_wets, .inr (6, [.int 6, .int 3, .ref sp_wets_c, .int 0])), (sp_limits, .inr (6, [.int 6, .int 2, .ref sp_limits_c, .int 0])), (sp_platforms, .inr (6, [.int 6, .int 2, .ref sp_platforms_c, .int 0])), (sp_kinds, .inr (6, [.int 4, .int 5, .ref sp_kinds_c, .int 0])), (sp_trains, .inr (6, [.int 5, .int 3, .ref sp_trains_c, .int 0])), (sp_coaches, .inr (6, [.int 16, .int 5, .ref sp_coaches_c, .int 0]))] H := hP
  have hD : va_D A [(x0, .inr (10, [.ref tp, .int 0, .ref rd, .ref sp, .ref sp, .ref im, .ref ir, .ref kp, .ref sl, .ref tk, .ref hn, .ref rc, .ref jn, .ref br, .ref sh])), (tk, .inr (9, [.ref t0, .ref t1, .ref t2, .ref t3, .ref ol, .int 0])), (t0, .inl (G.2 0, 401, .inl f0)), (t1, .inl (G.2 0, 401, .inl f1)), (t2, .inl (G.2 0, 401, .inl f2)), (hn, .inr (1, [.ref tk, .ref hs, .ref hk, .ref hu, .int 0, .int 0, .int (-1)])), (hk, .inl (G.2 2, 24, .inl (fun _ => 0))), (rd, .inr (5, [.ref tp, .int 0, .int 0, .int 0, .int 0, .int 0, .int 0, .int (-1)])), (sp, .inr (3, [.int 0, .int 0, .ref sp_slopes, .ref sp_wets, .ref sp_limits, .ref sp_platforms, .ref sp_kinds, .ref sp_trains, .ref sp_coaches])), (sp_slopes, .inr (6, [.int 8, .int 2, .ref sp_slopes_c, .int 0])), (sp_wets, .inr (6, [.int 6, .int 3, .ref sp_wets_c, .int 0])), (sp_limits, .inr (6, [.int 6, .int 2, .ref sp_limits_c, .int 0])), (sp_platforms, .inr (6, [.int 6, .int 2, .ref sp_platforms_c, .int 0])), (sp_kinds, .inr (6, [.int 4, .int 5, .ref sp_kinds_c, .int 0])), (sp_trains, .inr (6, [.int 5, .int 3, .ref sp_trains_c, .int 0])), (sp_coaches, .inr (6, [.int 16, .int 5, .ref sp_coaches_c, .int 0]))] := hD
  refine lv_aload_n hx hb dX10_line_45 rfl (lv_at hl 1 rfl) ?_
  refine lv_aload_n hx hb dX10_line_46 rfl (lv_at hl 0 rfl) ?_
  refine va_put (D := G.1) (ci := 10) (v := .ref nw) (ty := (.object "SlipCoach$Line")) (C := RX10) (T := TX10) (N := 15) hx hb hw inGX10 tyX10 tyX10_ok nmX10 hown hK hP hD hS 0 rfl rfl 4 (by decide) (hw _ kw_154) (fun _ h9 => h9) rfl (by decide +kernel) rfl rfl (Nat.le_of_ble_eq_true rfl) dX10_line_47 (fun H locs hP hD hS => ?_)
  have hP : va_P G.1 vwCl [(x0, .inr (10, [.ref tp, .int 0, .ref rd, .ref sp, .ref nw, .ref im, .ref ir, .ref kp, .ref sl, .ref tk, .ref hn, .ref rc, .ref jn, .ref br, .ref sh])), (tk, .inr (9, [.ref t0, .ref t1, .ref t2, .ref t3, .ref ol, .int 0])), (t0, .inl (G.2 0, 401, .inl f0)), (t1, .inl (G.2 0, 401, .inl f1)), (t2, .inl (G.2 0, 401, .inl f2)), (hn, .inr (1, [.ref tk, .ref hs, .ref hk, .ref hu, .int 0, .int 0, .int (-1)])), (hk, .inl (G.2 2, 24, .inl (fun _ => 0))), (rd, .inr (5, [.ref tp, .int 0, .int 0, .int 0, .int 0, .int 0, .int 0, .int (-1)])), (sp, .inr (3, [.int 0, .int 0, .ref sp_slopes, .ref sp_wets, .ref sp_limits, .ref sp_platforms, .ref sp_kinds, .ref sp_trains, .ref sp_coaches])), (sp_slopes, .inr (6, [.int 8, .int 2, .ref sp_slopes_c, .int 0])), (sp_wets, .inr (6, [.int 6, .int 3, .ref sp_wets_c, .int 0])), (sp_limits, .inr (6, [.int 6, .int 2, .ref sp_limits_c, .int 0])), (sp_platforms, .inr (6, [.int 6, .int 2, .ref sp_platforms_c, .int 0])), (sp_kinds, .inr (6, [.int 4, .int 5, .ref sp_kinds_c, .int 0])), (sp_trains, .inr (6, [.int 5, .int 3, .ref sp_trains_c, .int 0])), (sp_coaches, .inr (6, [.int 16, .int 5, .ref sp_coaches_c, .int 0]))] H := hP
  have hD : va_D A [(x0, .inr (10, [.ref tp, .int 0, .ref rd, .ref sp, .ref nw, .ref im, .ref ir, .ref kp, .ref sl, .ref tk, .ref hn, .ref rc, .ref jn, .ref br, .ref sh])), (tk, .inr (9, [.ref t0, .ref t1, .ref t2, .ref t3, .ref ol, .int 0])), (t0, .inl (G.2 0, 401, .inl f0)), (t1, .inl (G.2 0, 401, .inl f1)), (t2, .inl (G.2 0, 401, .inl f2)), (hn, .inr (1, [.ref tk, .ref hs, .ref hk, .ref hu, .int 0, .int 0, .int (-1)])), (hk, .inl (G.2 2, 24, .inl (fun _ => 0))), (rd, .inr (5, [.ref tp, .int 0, .int 0, .int 0, .int 0, .int 0, .int 0, .int (-1)])), (sp, .inr (3, [.int 0, .int 0, .ref sp_slopes, .ref sp_wets, .ref sp_limits, .ref sp_platforms, .ref sp_kinds, .ref sp_trains, .ref sp_coaches])), (sp_slopes, .inr (6, [.int 8, .int 2, .ref sp_slopes_c, .int 0])), (sp_wets, .inr (6, [.int 6, .int 3, .ref sp_wets_c, .int 0])), (sp_limits, .inr (6, [.int 6, .int 2, .ref sp_limits_c, .int 0])), (sp_platforms, .inr (6, [.int 6, .int 2, .ref sp_platforms_c, .int 0])), (sp_kinds, .inr (6, [.int 4, .int 5, .ref sp_kinds_c, .int 0])), (sp_trains, .inr (6, [.int 5, .int 3, .ref sp_trains_c, .int 0])), (sp_coaches, .inr (6, [.int 16, .int 5, .ref sp_coaches_c, .int 0]))] := hD
  refine lv_aload_n hx hb dX10_line_50 rfl (lv_at hl 1 rfl) ?_
  refine lv_iconst (v := 0) hx hb dX10_line_51 (by decide) ?_
  refine va_put (D := G.1) (ci := 10) (v := .int 0) (ty := .int) (C := RX10) (T := TX10) (N := 15) hx hb hw inGX10 tyX10 tyX10_ok nmX10 hown hK hP hD hS 0 rfl rfl 1 (by decide) (hw _ kw_59) (fun _ h9 => h9) rfl (by decide +kernel) rfl rfl (Nat.le_of_ble_eq_true rfl) dX10_line_52 (fun H locs hP hD hS => ?_)
  have hP : va_P G.1 vwCl [(x0, .inr (10, [.ref tp, .int 0, .ref rd, .ref sp, .ref nw, .ref im, .ref ir, .ref kp, .ref sl, .ref tk, .ref hn, .ref rc, .ref jn, .ref br, .ref sh])), (tk, .inr (9, [.ref t0, .ref t1, .ref t2, .ref t3, .ref ol, .int 0])), (t0, .inl (G.2 0, 401, .inl f0)), (t1, .inl (G.2 0, 401, .inl f1)), (t2, .inl (G.2 0, 401, .inl f2)), (hn, .inr (1, [.ref tk, .ref hs, .ref hk, .ref hu, .int 0, .int 0, .int (-1)])), (hk, .inl (G.2 2, 24, .inl (fun _ => 0))), (rd, .inr (5, [.ref tp, .int 0, .int 0, .int 0, .int 0, .int 0, .int 0, .int (-1)])), (sp, .inr (3, [.int 0, .int 0, .ref sp_slopes, .ref sp_wets, .ref sp_limits, .ref sp_platforms, .ref sp_kinds, .ref sp_trains, .ref sp_coaches])), (sp_slopes, .inr (6, [.int 8, .int 2, .ref sp_slopes_c, .int 0])), (sp_wets, .inr (6, [.int 6, .int 3, .ref sp_wets_c, .int 0])), (sp_limits, .inr (6, [.int 6, .int 2, .ref sp_limits_c, .int 0])), (sp_platforms, .inr (6, [.int 6, .int 2, .ref sp_platforms_c, .int 0])), (sp_kinds, .inr (6, [.int 4, .int 5, .ref sp_kinds_c, .int 0])), (sp_trains, .inr (6, [.int 5, .int 3, .ref sp_trains_c, .int 0])), (sp_coaches, .inr (6, [.int 16, .int 5, .ref sp_coaches_c, .int 0]))] H := hP
  have hD : va_D A [(x0, .inr (10, [.ref tp, .int 0, .ref rd, .ref sp, .ref nw, .ref im, .ref ir, .ref kp, .ref sl, .ref tk, .ref hn, .ref rc, .ref jn, .ref br, .ref sh])), (tk, .inr (9, [.ref t0, .ref t1, .ref t2, .ref t3, .ref ol, .int 0])), (t0, .inl (G.2 0, 401, .inl f0)), (t1, .inl (G.2 0, 401, .inl f1)), (t2, .inl (G.2 0, 401, .inl f2)), (hn, .inr (1, [.ref tk, .ref hs, .ref hk, .ref hu, .int 0, .int 0, .int (-1)])), (hk, .inl (G.2 2, 24, .inl (fun _ => 0))), (rd, .inr (5, [.ref tp, .int 0, .int 0, .int 0, .int 0, .int 0, .int 0, .int (-1)])), (sp, .inr (3, [.int 0, .int 0, .ref sp_slopes, .ref sp_wets, .ref sp_limits, .ref sp_platforms, .ref sp_kinds, .ref sp_trains, .ref sp_coaches])), (sp_slopes, .inr (6, [.int 8, .int 2, .ref sp_slopes_c, .int 0])), (sp_wets, .inr (6, [.int 6, .int 3, .ref sp_wets_c, .int 0])), (sp_limits, .inr (6, [.int 6, .int 2, .ref sp_limits_c, .int 0])), (sp_platforms, .inr (6, [.int 6, .int 2, .ref sp_platforms_c, .int 0])), (sp_kinds, .inr (6, [.int 4, .int 5, .ref sp_kinds_c, .int 0])), (sp_trains, .inr (6, [.int 5, .int 3, .ref sp_trains_c, .int 0])), (sp_coaches, .inr (6, [.int 16, .int 5, .ref sp_coaches_c, .int 0]))] := hD
  refine lv_aload_n hx hb dX10_line_55 rfl (lv_at hl 1 rfl) ?_
  refine lv_iconst (v := 0) hx hb dX10_line_56 (by decide) ?_
  refine wq_callv (wr := [(rd, .inr (5, [.ref tp, .int 0, .int 0, .int 0, .int 0, .int 0, .int 0, .int (-1)])), (sp_platforms, .inr (6, [.int 6, .int 2, .ref sp_platforms_c, .int 0])), (sp_trains, .inr (6, [.int 5, .int 3, .ref sp_trains_c, .int 0])), (sp_coaches, .inr (6, [.int 16, .int 5, .ref sp_coaches_c, .int 0]))]) (va_runV (As := [.int 0]) (rest := []) ⟨hx, hb, hml, hown, hw⟩ (c_layTrack0 l G x0 tp rd nw im ir kp sl rc jn br sh tk t0 t1 t2 t3 ol hn hs hk hu sp sp_slopes sp_wets sp_limits sp_platforms sp_kinds sp_trains sp_coaches sp_slopes_c sp_wets_c sp_limits_c sp_kinds_c f0 f1 f2 H.size) (cwV 1 hw (gdV kw_160 kw_161 kw_162 kw_8 kw_159) rfl rfl rfl ⟨rfl, hdX10_layTrack⟩ ⟨(Nat.le_of_ble_eq_true rfl), (Nat.le_of_ble_eq_true rfl)⟩) (preQ_V (wc := [(x0, .inr (10, [.ref tp, .int 0, .ref rd, .ref sp, .ref nw, .ref im, .ref ir, .ref kp, .ref sl, .ref tk, .ref hn, .ref rc, .ref jn, .ref br, .ref sh])), (tk, .inr (9, [.ref t0, .ref t1, .ref t2, .ref t3, .ref ol, .int 0])), (sp, .inr (3, [.int 0, .int 0, .ref sp_slopes, .ref sp_wets, .ref sp_limits, .ref sp_platforms, .ref sp_kinds, .ref sp_trains, .ref sp_coaches])), (sp_slopes, .inr (6, [.int 8, .int 2, .ref sp_slopes_c, .int 0])), (sp_wets, .inr (6, [.int 6, .int 3, .ref sp_wets_c, .int 0])), (sp_limits, .inr (6, [.int 6, .int 2, .ref sp_limits_c, .int 0])), (sp_kinds, .inr (6, [.int 4, .int 5, .ref sp_kinds_c, .int 0])), (t0, .inl (G.2 0, 401, .inl f0)), (t1, .inl (G.2 0, 401, .inl f1)), (t2, .inl (G.2 0, 401, .inl f2)), (hn, .inr (1, [.ref tk, .ref hs, .ref hk, .ref hu, .int 0, .int 0, .int (-1)])), (hk, .inl (G.2 2, 24, .inl (fun _ => 0)))]) (ci := 10) hKG hP hD [0, 1, 8, 9, 10, 11, 13, 2, 3, 4, 5, 6] (by decide +kernel) rfl rfl rfl) rfl rfl hl.1 rfl (lv_room (Nat.le_of_ble_eq_true rfl)) dX10_line_57 ⟨(Nat.le_of_ble_eq_true rfl), (Nat.le_of_ble_eq_true rfl)⟩) hS hP hD hA [0, 1, 8, 9, 10, 11, 13, 2, 3, 4, 5, 6] [7, 12, 14, 15] rfl rfl (by decide +kernel) (by decide +kernel) (fun u5 H locs hr4 hP hD hS => ?_)
  have hP : va_P G.1 vwCl [(rd, .inr (5, [.ref tp, .int 0, .int 0, .int 0, .int 0, .int 0, .int 0, .int (-1)])), (sp_platforms, .inr (6, [.int 6, .int 2, .ref sp_platforms_c, .int 0])), (sp_trains, .inr (6, [.int 5, .int 3, .ref sp_trains_c, .int 0])), (sp_coaches, .inr (6, [.int 16, .int 5, .ref sp_coaches_c, .int 0])), (x0, .inr (10, [.ref tp, .int 0, .ref rd, .ref sp, .ref nw, .ref im, .ref ir, .ref kp, .ref sl, .ref tk, .ref hn, .ref rc, .ref jn, .ref br, .ref sh])), (sp, .inr (3, [.int 0, .int 0, .ref sp_slopes, .ref sp_wets, .ref sp_limits, .ref sp_platforms, .ref sp_kinds, .ref sp_trains, .ref sp_coaches])), (sp_slopes, .inr (6, [.int 8, .int 2, .ref sp_slopes_c, .int 0])), (sp_wets, .inr (6, [.int 6, .int 3, .ref sp_wets_c, .int 0])), (sp_limits, .inr (6, [.int 6, .int 2, .ref sp_limits_c, .int 0])), (sp_kinds, .inr (6, [.int 4, .int 5, .ref sp_kinds_c, .int 0]))] H := hP
  have hD : va_D A [(rd, .inr (5, [.ref tp, .int 0, .int 0, .int 0, .int 0, .int 0, .int 0, .int (-1)])), (sp_platforms, .inr (6, [.int 6, .int 2, .ref sp_platforms_c, .int 0])), (sp_trains, .inr (6, [.int 5, .int 3, .ref sp_trains_c, .int 0])), (sp_coaches, .inr (6, [.int 16, .int 5, .ref sp_coaches_c, .int 0])), (x0, .inr (10, [.ref tp, .int 0, .ref rd, .ref sp, .ref nw, .ref im, .ref ir, .ref kp, .ref sl, .ref tk, .ref hn, .ref rc, .ref jn, .ref br, .ref sh])), (sp, .inr (3, [.int 0, .int 0, .ref sp_slopes, .ref sp_wets, .ref sp_limits, .ref sp_platforms, .ref sp_kinds, .ref sp_trains, .ref sp_coaches])), (sp_slopes, .inr (6, [.int 8, .int 2, .ref sp_slopes_c, .int 0])), (sp_wets, .inr (6, [.int 6, .int 3, .ref sp_wets_c, .int 0])), (sp_limits, .inr (6, [.int 6, .int 2, .ref sp_limits_c, .int 0])), (sp_kinds, .inr (6, [.int 4, .int 5, .ref sp_kinds_c, .int 0]))] := hD
  refine W.widen (k := 0) (n := 0) (Nat.le_of_ble_eq_true rfl) (Nat.le_of_ble_eq_true rfl) ?_
  refine lv_aload_n hx hb dX10_line_60 rfl (lv_at hl 1 rfl) ?_
  refine va_get (D := G.1) (ci := 10) (v := .ref sp) (C := RX10) (T := TX10) (N := 15) hx hb hw inGX10 hown hK hP 4 rfl rfl 3 (by decide) (hw _ kw_2) (fun _ h9 => h9) rfl dX10_line_61 ?_
  refine va_get (D := G.1) (ci := 3) (v := .int 0) (C := RX3) (T := TX3) (N := 9) hx hb hw inGX3 hown hK hP 5 rfl rfl 1 (by decide) (hw _ kw_58) (fun _ h9 => h9) rfl dX10_line_64 ?_
  exact W.iret (v := 0) hx hb hr (fun t ht hW => ⟨⟨0, (), rfl, rfl, ⟨by rw [ht]; exact hP.sub [] rfl, hD.sub [] (by decide +kernel) rfl⟩⟩, hS.F ht⟩) hS.2.2 dX10_line_67
set_option maxHeartbeats 4000000 in
set_option maxRecDepth 100000 in
theorem c_copyFrom_12 (l : Launch) (G : KG) (h0 : Nat) (mo : Int32) (wi : Int32) (ca : Nat) (h1 : Nat) (mo1 : Int32) (wi1 : Int32) (ca1 : Nat) (f0 : Nat → Int32) (f1 : Nat → Int32) (sz : Nat) : Met l yX6_copyFrom wgX6_copyFrom ({ frames := 1, cells := 0, slots := 0, locals := 64 }) (preQ G [.ref h0, .ref h1] sz [(h0, .inr (6, [.int mo, .int wi, .ref ca, .int 0])), (ca, .inl (G.2 0, 12, .inl f0)), (h1, .inr (6, [.int mo1, .int wi1, .ref ca1, .int 0])), (ca1, .inl (G.2 0, 12, .inl f1))]) (va_Qv (fun (u : Unit) => True) (fun u t => atQ G (va_A [(h0, .inr (6, [.int mo, .int wi, .ref ca, .int 0])), (ca, .inl (G.2 0, 12, .inl f0)), (h1, .inr (6, [.int mo1, .int wi1, .ref ca1, .int 0])), (ca1, .inl (G.2 0, 12, .inl f1))] sz) [] t) (va_A [(h0, .inr (6, [.int mo, .int wi, .ref ca, .int 0])), (ca, .inl (G.2 0, 12, .inl f0)), (h1, .inr (6, [.int mo1, .int wi1, .ref ca1, .int 0])), (ca1, .inl (G.2 0, 12, .inl f1))] sz)) 0 0 (va_A [(h0, .inr (6, [.int mo, .int wi, .ref ca, .int 0])), (ca, .inl (G.2 0, 12, .inl f0)), (h1, .inr (6, [.int mo1, .int wi1, .ref ca1, .int 0])), (ca1, .inl (G.2 0, 12, .inl f1))] sz) := by
  refine Met.ofW (cc := cX6_copyFrom) (maxL := 2) (ret := none) (by decide) rfl ?_
  intro p e s m args below meth c s₁ B hml hv
  obtain ⟨rfl, hsz, hP, hKG, hD0⟩ := hv
  obtain ⟨hK, hAO⟩ := id hKG
  have hx := B.exec
  have hb := B.bytes
  have hr := B.returns
  have hts := atoms_spec (ws := wgX6_copyFrom) B.pre
  have hw : ∀ w ∈ wG, w.before _ s = true := fun w h => hts w (List.mem_cons_of_mem _ h)
  have hown : s.vm.findClass RX6 = some m.cls := findClass_of_methodNamed B.named
  have hlocks := B.notSynchronized
  subst hsz
  have hD := hD0.self (sz := s.heap.size)
  generalize hAe : va_A [(h0, .inr (6, [.int mo, .int wi, .ref ca, .int 0])), (ca, .inl (G.2 0, 12, .inl f0)), (h1, .inr (6, [.int mo1, .int wi1, .ref ca1, .int 0])), (ca1, .inl (G.2 0, 12, .inl f1))] s.heap.size = A at hD ⊢
  have hA : ∀ q : Nat, s.heap.size ≤ q → A q := fun q h => by rw [← hAe]; exact Or.inr h
  have hS : va_S A s.heap s.heap [] := va_S.rf
  have hl := lv_entry ([.ref h0, .ref h1]) (n := 2) (Nat.le_of_ble_eq_true rfl)
  rw [lg_entry_eq]
  generalize (lg_sl ([.ref h0, .ref h1]) ++ List.replicate (2 - (lg_sl ([.ref h0, .ref h1])).length) Slot.unset).toArray = ls at hl ⊢
  have hl : lv_has ls 2 [(0, .ref h0), (1, .ref h1)] := hl
  refine lv_aload_n hx hb dX6_copyFrom_0 rfl (lv_at hl 0 rfl) ?_
  refine lv_aload_n hx hb dX6_copyFrom_1 rfl (lv_at hl 1 rfl) ?_
  refine va_get (D := G.1) (ci := 6) (v := .int 0) (C := RX6) (T := TX6) (N := 4) hx hb hw inGX6 hown hK hP 2 rfl rfl 3 (by decide) (hw _ kw_1) (fun _ h9 => h9) rfl dX6_copyFrom_2 ?_
  refine va_put (D := G.1) (ci := 6) (v := .int 0) (ty := .int) (C := RX6) (T := TX6) (N := 4) hx hb hw inGX6 tyX6 tyX6_ok nmX6 hown hK hP hD hS 0 rfl rfl 3 (by decide) (hw _ kw_1) (fun _ h9 => h9) rfl (by decide +kernel) rfl rfl (Nat.le_of_ble_eq_true rfl) dX6_copyFrom_5 (fun H locs hP hD hS => ?_)
  have hP : va_P G.1 vwCl [(h0, .inr (6, [.int mo, .int wi, .ref ca, .int 0])), (ca, .inl (G.2 0, 12, .inl f0)), (h1, .inr (6, [.int mo1, .int wi1, .ref ca1, .int 0])), (ca1, .inl (G.2 0, 12, .inl f1))] H := hP
  have hD : va_D A [(h0, .inr (6, [.int mo, .int wi, .ref ca, .int 0])), (ca, .inl (G.2 0, 12, .inl f0)), (h1, .inr (6, [.int mo1, .int wi1, .ref ca1, .int 0])), (ca1, .inl (G.2 0, 12, .inl f1))] := hD
  refine lv_aload_n hx hb dX6_copyFrom_8 rfl (lv_at hl 1 rfl) ?_
  refine va_get (D := G.1) (ci := 6) (v := .ref ca1) (C := RX6) (T := TX6) (N := 4) hx hb hw inGX6 hown hK hP 2 rfl rfl 2 (by decide) (hw _ kw_163) (fun _ h9 => h9) rfl dX6_copyFrom_9 ?_
  refine lv_iconst (v := 0) hx hb dX6_copyFrom_12 (by decide) ?_
  refine lv_aload_n hx hb dX6_copyFrom_13 rfl (lv_at hl 0 rfl) ?_
  refine va_get (D := G.1) (ci := 6) (v := .ref ca) (C := RX6) (T := TX6) (N := 4) hx hb hw inGX6 hown hK hP 0 rfl rfl 2 (by decide) (hw _ kw_163) (fun _ h9 => h9) rfl dX6_copyFrom_14 ?_
  refine lv_iconst (v := 0) hx hb dX6_copyFrom_17 (by decide) ?_
  refine lv_aload_n hx hb dX6_copyFrom_18 rfl (lv_at hl 0 rfl) ?_
  refine va_get (D := G.1) (ci := 6) (v := .ref ca) (C := RX6) (T := TX6) (N := 4) hx hb hw inGX6 hown hK hP 0 rfl rfl 2 (by decide) (hw _ kw_163) (fun _ h9 => h9) rfl dX6_copyFrom_19 ?_
  refine va_alen (v := 12) hx hb hK hP 1 0 rfl rfl rfl dX6_copyFrom_22 ?_
  refine lv_aload_n hx hb dX6_copyFrom_23 rfl (lv_at hl 1 rfl) ?_
  refine va_get (D := G.1) (ci := 6) (v := .ref ca1) (C := RX6) (T := TX6) (N := 4) hx hb hw inGX6 hown hK hP 2 rfl rfl 2 (by decide) (hw _ kw_163) (fun _ h9 => h9) rfl dX6_copyFrom_24 ?_
  refine va_alen (v := 12) hx hb hK hP 3 0 rfl rfl rfl dX6_copyFrom_27 ?_
  refine va_mmin hx hb (by rw [hml]; exact hl.1.symm) hown (hw _ kw_164) (hw _ kw_72) (hw _ kw_73) (hw _ kw_74) (Nat.le_of_ble_eq_true rfl) (Nat.le_of_ble_eq_true rfl) (Nat.le_of_ble_eq_true rfl) (Nat.le_of_ble_eq_true rfl) dX6_copyFrom_28 ?_
  refine lv_cst (y := 12) (by decide) ?_
  refine va_copyi (ty := .int) hx hb (by rw [hml]; exact hl.1.symm) hown (hw _ kw_165) (hw _ kw_166) (hw _ kw_167) (hw _ kw_168) hK hP hD hS 3 1 0 0 rfl rfl rfl rfl rfl (by decide) (by decide) (by decide) (by decide) (by decide) (fun _ _ => rfl) (Nat.le_of_ble_eq_true rfl) (Nat.le_of_ble_eq_true rfl) dX6_copyFrom_31 (fun H locs hP hD hS => ?_)
  have hP : va_P G.1 vwCl [(h0, .inr (6, [.int mo, .int wi, .ref ca, .int 0])), (ca, .inl (G.2 0, 12, .inl (va_cpy f1 f0 (0 : Int32).toNatClampNeg (0 : Int32).toNatClampNeg (12 : Int32).toNatClampNeg))), (h1, .inr (6, [.int mo1, .int wi1, .ref ca1, .int 0])), (ca1, .inl (G.2 0, 12, .inl f1))] H := hP
  have hD : va_D A [(h0, .inr (6, [.int mo, .int wi, .ref ca, .int 0])), (ca, .inl (G.2 0, 12, .inl (va_cpy f1 f0 (0 : Int32).toNatClampNeg (0 : Int32).toNatClampNeg (12 : Int32).toNatClampNeg))), (h1, .inr (6, [.int mo1, .int wi1, .ref ca1, .int 0])), (ca1, .inl (G.2 0, 12, .inl f1))] := hD
  generalize (va_cpy f1 f0 (0 : Int32).toNatClampNeg (0 : Int32).toNatClampNeg (12 : Int32).toNatClampNeg) = f1 at hP hD
  exact W.vret hx hb hr (fun t ht hW => ⟨⟨(), rfl, trivial, ⟨by rw [ht]; exact hP.sub [] rfl, hD.sub [] (by decide +kernel) rfl⟩⟩, hS.F ht⟩) hS.2.2 dX6_copyFrom_34
set_option maxHeartbeats 4000000 in
set_option maxRecDepth 100000 in
theorem c_copyFrom_15 (l : Launch) (G : KG) (h0 : Nat) (mo : Int32) (wi : Int32) (ca : Nat) (h1 : Nat) (mo1 : Int32) (wi1 : Int32) (ca1 : Nat) (f0 : Nat → Int32) (f1 : Nat → Int32) (sz : Nat) : Met l yX6_copyFrom wgX6_copyFrom ({ frames := 1, cells := 0, slots := 0, locals := 64 }) (preQ G [.ref h0, .ref h1] sz [(h0, .inr (6, [.int mo, .int wi, .ref ca, .int 0])), (ca, .inl (G.2 0, 15, .inl f0)), (h1, .inr (6, [.int mo1, .int wi1, .ref ca1, .int 0])), (ca1, .inl (G.2 0, 15, .inl f1))]) (va_Qv (fun (u : Unit) => True) (fun u t => atQ G (va_A [(h0, .inr (6, [.int mo, .int wi, .ref ca, .int 0])), (ca, .inl (G.2 0, 15, .inl f0)), (h1, .inr (6, [.int mo1, .int wi1, .ref ca1, .int 0])), (ca1, .inl (G.2 0, 15, .inl f1))] sz) [] t) (va_A [(h0, .inr (6, [.int mo, .int wi, .ref ca, .int 0])), (ca, .inl (G.2 0, 15, .inl f0)), (h1, .inr (6, [.int mo1, .int wi1, .ref ca1, .int 0])), (ca1, .inl (G.2 0, 15, .inl f1))] sz)) 0 0 (va_A [(h0, .inr (6, [.int mo, .int wi, .ref ca, .int 0])), (ca, .inl (G.2 0, 15, .inl f0)), (h1, .inr (6, [.int mo1, .int wi1, .ref ca1, .int 0])), (ca1, .inl (G.2 0, 15, .inl f1))] sz) := by
  refine Met.ofW (cc := cX6_copyFrom) (maxL := 2) (ret := none) (by decide) rfl ?_
  intro p e s m args below meth c s₁ B hml hv
  obtain ⟨rfl, hsz, hP, hKG, hD0⟩ := hv
  obtain ⟨hK, hAO⟩ := id hKG
  have hx := B.exec
  have hb := B.bytes
  have hr := B.returns
  have hts := atoms_spec (ws := wgX6_copyFrom) B.pre
  have hw : ∀ w ∈ wG, w.before _ s = true := fun w h => hts w (List.mem_cons_of_mem _ h)
  have hown : s.vm.findClass RX6 = some m.cls := findClass_of_methodNamed B.named
  have hlocks := B.notSynchronized
  subst hsz
  have hD := hD0.self (sz := s.heap.size)
  generalize hAe : va_A [(h0, .inr (6, [.int mo, .int wi, .ref ca, .int 0])), (ca, .inl (G.2 0, 15, .inl f0)), (h1, .inr (6, [.int mo1, .int wi1, .ref ca1, .int 0])), (ca1, .inl (G.2 0, 15, .inl f1))] s.heap.size = A at hD ⊢
  have hA : ∀ q : Nat, s.heap.size ≤ q → A q := fun q h => by rw [← hAe]; exact Or.inr h
  have hS : va_S A s.heap s.heap [] := va_S.rf
  have hl := lv_entry ([.ref h0, .ref h1]) (n := 2) (Nat.le_of_ble_eq_true rfl)
  rw [lg_entry_eq]
  generalize (lg_sl ([.ref h0, .ref h1]) ++ List.replicate (2 - (lg_sl ([.ref h0, .ref h1])).length) Slot.unset).toArray = ls at hl ⊢
  have hl : lv_has ls 2 [(0, .ref h0), (1, .ref h1)] := hl
  refine lv_aload_n hx hb dX6_copyFrom_0 rfl (lv_at hl 0 rfl) ?_
  refine lv_aload_n hx hb dX6_copyFrom_1 rfl (lv_at hl 1 rfl) ?_
  refine va_get (D := G.1) (ci := 6) (v := .int 0) (C := RX6) (T := TX6) (N := 4) hx hb hw inGX6 hown hK hP 2 rfl rfl 3 (by decide) (hw _ kw_1) (fun _ h9 => h9) rfl dX6_copyFrom_2 ?_
  refine va_put (D := G.1) (ci := 6) (v := .int 0) (ty := .int) (C := RX6) (T := TX6) (N := 4) hx hb hw inGX6 tyX6 tyX6_ok nmX6 hown hK hP hD hS 0 rfl rfl 3 (by decide) (hw _ kw_1) (fun _ h9 => h9) rfl (by decide +kernel) rfl rfl (Nat.le_of_ble_eq_true rfl) dX6_copyFrom_5 (fun H locs hP hD hS => ?_)
  have hP : va_P G.1 vwCl [(h0, .inr (6, [.int mo, .int wi, .ref ca, .int 0])), (ca, .inl (G.2 0, 15, .inl f0)), (h1, .inr (6, [.int mo1, .int wi1, .ref ca1, .int 0])), (ca1, .inl (G.2 0, 15, .inl f1))] H := hP
  have hD : va_D A [(h0, .inr (6, [.int mo, .int wi, .ref ca, .int 0])), (ca, .inl (G.2 0, 15, .inl f0)), (h1, .inr (6, [.int mo1, .int wi1, .ref ca1, .int 0])), (ca1, .inl (G.2 0, 15, .inl f1))] := hD
  refine lv_aload_n hx hb dX6_copyFrom_8 rfl (lv_at hl 1 rfl) ?_
  refine va_get (D := G.1) (ci := 6) (v := .ref ca1) (C := RX6) (T := TX6) (N := 4) hx hb hw inGX6 hown hK hP 2 rfl rfl 2 (by decide) (hw _ kw_163) (fun _ h9 => h9) rfl dX6_copyFrom_9 ?_
  refine lv_iconst (v := 0) hx hb dX6_copyFrom_12 (by decide) ?_
  refine lv_aload_n hx hb dX6_copyFrom_13 rfl (lv_at hl 0 rfl) ?_
  refine va_get (D := G.1) (ci := 6) (v := .ref ca) (C := RX6) (T := TX6) (N := 4) hx hb hw inGX6 hown hK hP 0 rfl rfl 2 (by decide) (hw _ kw_163) (fun _ h9 => h9) rfl dX6_copyFrom_14 ?_
  refine lv_iconst (v := 0) hx hb dX6_copyFrom_17 (by decide) ?_
  refine lv_aload_n hx hb dX6_copyFrom_18 rfl (lv_at hl 0 rfl) ?_
  refine va_get (D := G.1) (ci := 6) (v := .ref ca) (C := RX6) (T := TX6) (N := 4) hx hb hw inGX6 hown hK hP 0 rfl rfl 2 (by decide) (hw _ kw_163) (fun _ h9 => h9) rfl dX6_copyFrom_19 ?_
  refine va_alen (v := 15) hx hb hK hP 1 0 rfl rfl rfl dX6_copyFrom_22 ?_
  refine lv_aload_n hx hb dX6_copyFrom_23 rfl (lv_at hl 1 rfl) ?_
  refine va_get (D := G.1) (ci := 6) (v := .ref ca1) (C := RX6) (T := TX6) (N := 4) hx hb hw inGX6 hown hK hP 2 rfl rfl 2 (by decide) (hw _ kw_163) (fun _ h9 => h9) rfl dX6_copyFrom_24 ?_
  refine va_alen (v := 15) hx hb hK hP 3 0 rfl rfl rfl dX6_copyFrom_27 ?_
  refine va_mmin hx hb (by rw [hml]; exact hl.1.symm) hown (hw _ kw_164) (hw _ kw_72) (hw _ kw_73) (hw _ kw_74) (Nat.le_of_ble_eq_true rfl) (Nat.le_of_ble_eq_true rfl) (Nat.le_of_ble_eq_true rfl) (Nat.le_of_ble_eq_true rfl) dX6_copyFrom_28 ?_
  refine lv_cst (y := 15) (by decide) ?_
  refine va_copyi (ty := .int) hx hb (by rw [hml]; exact hl.1.symm) hown (hw _ kw_165) (hw _ kw_166) (hw _ kw_167) (hw _ kw_168) hK hP hD hS 3 1 0 0 rfl rfl rfl rfl rfl (by decide) (by decide) (by decide) (by decide) (by decide) (fun _ _ => rfl) (Nat.le_of_ble_eq_true rfl) (Nat.le_of_ble_eq_true rfl) dX6_copyFrom_31 (fun H locs hP hD hS => ?_)
  have hP : va_P G.1 vwCl [(h0, .inr (6, [.int mo, .int wi, .ref ca, .int 0])), (ca, .inl (G.2 0, 15, .inl (va_cpy f1 f0 (0 : Int32).toNatClampNeg (0 : Int32).toNatClampNeg (15 : Int32).toNatClampNeg))), (h1, .inr (6, [.int mo1, .int wi1, .ref ca1, .int 0])), (ca1, .inl (G.2 0, 15, .inl f1))] H := hP
  have hD : va_D A [(h0, .inr (6, [.int mo, .int wi, .ref ca, .int 0])), (ca, .inl (G.2 0, 15, .inl (va_cpy f1 f0 (0 : Int32).toNatClampNeg (0 : Int32).toNatClampNeg (15 : Int32).toNatClampNeg))), (h1, .inr (6, [.int mo1, .int wi1, .ref ca1, .int 0])), (ca1, .inl (G.2 0, 15, .inl f1))] := hD
  generalize (va_cpy f1 f0 (0 : Int32).toNatClampNeg (0 : Int32).toNatClampNeg (15 : Int32).toNatClampNeg) = f1 at hP hD
  exact W.vret hx hb hr (fun t ht hW => ⟨⟨(), rfl, trivial, ⟨by rw [ht]; exact hP.sub [] rfl, hD.sub [] (by decide +kernel) rfl⟩⟩, hS.F ht⟩) hS.2.2 dX6_copyFrom_34
set_option maxHeartbeats 4000000 in
set_option maxRecDepth 100000 in
theorem c_copyFrom_16 (l : Launch) (G : KG) (h0 : Nat) (mo : Int32) (wi : Int32) (ca : Nat) (h1 : Nat) (mo1 : Int32) (wi1 : Int32) (ca1 : Nat) (f0 : Nat → Int32) (f1 : Nat → Int32) (sz : Nat) : Met l yX6_copyFrom wgX6_copyFrom ({ frames := 1, cells := 0, slots := 0, locals := 64 }) (preQ G [.ref h0, .ref h1] sz [(h0, .inr (6, [.int mo, .int wi, .ref ca, .int 0])), (ca, .inl (G.2 0, 16, .inl f0)), (h1, .inr (6, [.int mo1, .int wi1, .ref ca1, .int 0])), (ca1, .inl (G.2 0, 16, .inl f1))]) (va_Qv (fun (u : Unit) => True) (fun u t => atQ G (va_A [(h0, .inr (6, [.int mo, .int wi, .ref ca, .int 0])), (ca, .inl (G.2 0, 16, .inl f0)), (h1, .inr (6, [.int mo1, .int wi1, .ref ca1, .int 0])), (ca1, .inl (G.2 0, 16, .inl f1))] sz) [] t) (va_A [(h0, .inr (6, [.int mo, .int wi, .ref ca, .int 0])), (ca, .inl (G.2 0, 16, .inl f0)), (h1, .inr (6, [.int mo1, .int wi1, .ref ca1, .int 0])), (ca1, .inl (G.2 0, 16, .inl f1))] sz)) 0 0 (va_A [(h0, .inr (6, [.int mo, .int wi, .ref ca, .int 0])), (ca, .inl (G.2 0, 16, .inl f0)), (h1, .inr (6, [.int mo1, .int wi1, .ref ca1, .int 0])), (ca1, .inl (G.2 0, 16, .inl f1))] sz) := by
  refine Met.ofW (cc := cX6_copyFrom) (maxL := 2) (ret := none) (by decide) rfl ?_
  intro p e s m args below meth c s₁ B hml hv
  obtain ⟨rfl, hsz, hP, hKG, hD0⟩ := hv
  obtain ⟨hK, hAO⟩ := id hKG
  have hx := B.exec
  have hb := B.bytes
  have hr := B.returns
  have hts := atoms_spec (ws := wgX6_copyFrom) B.pre
  have hw : ∀ w ∈ wG, w.before _ s = true := fun w h => hts w (List.mem_cons_of_mem _ h)
  have hown : s.vm.findClass RX6 = some m.cls := findClass_of_methodNamed B.named
  have hlocks := B.notSynchronized
  subst hsz
  have hD := hD0.self (sz := s.heap.size)
  generalize hAe : va_A [(h0, .inr (6, [.int mo, .int wi, .ref ca, .int 0])), (ca, .inl (G.2 0, 16, .inl f0)), (h1, .inr (6, [.int mo1, .int wi1, .ref ca1, .int 0])), (ca1, .inl (G.2 0, 16, .inl f1))] s.heap.size = A at hD ⊢
  have hA : ∀ q : Nat, s.heap.size ≤ q → A q := fun q h => by rw [← hAe]; exact Or.inr h
  have hS : va_S A s.heap s.heap [] := va_S.rf
  have hl := lv_entry ([.ref h0, .ref h1]) (n := 2) (Nat.le_of_ble_eq_true rfl)
  rw [lg_entry_eq]
  generalize (lg_sl ([.ref h0, .ref h1]) ++ List.replicate (2 - (lg_sl ([.ref h0, .ref h1])).length) Slot.unset).toArray = ls at hl ⊢
  have hl : lv_has ls 2 [(0, .ref h0), (1, .ref h1)] := hl
  refine lv_aload_n hx hb dX6_copyFrom_0 rfl (lv_at hl 0 rfl) ?_
  refine lv_aload_n hx hb dX6_copyFrom_1 rfl (lv_at hl 1 rfl) ?_
  refine va_get (D := G.1) (ci := 6) (v := .int 0) (C := RX6) (T := TX6) (N := 4) hx hb hw inGX6 hown hK hP 2 rfl rfl 3 (by decide) (hw _ kw_1) (fun _ h9 => h9) rfl dX6_copyFrom_2 ?_
  refine va_put (D := G.1) (ci := 6) (v := .int 0) (ty := .int) (C := RX6) (T := TX6) (N := 4) hx hb hw inGX6 tyX6 tyX6_ok nmX6 hown hK hP hD hS 0 rfl rfl 3 (by decide) (hw _ kw_1) (fun _ h9 => h9) rfl (by decide +kernel) rfl rfl (Nat.le_of_ble_eq_true rfl) dX6_copyFrom_5 (fun H locs hP hD hS => ?_)
  have hP : va_P G.1 vwCl [(h0, .inr (6, [.int mo, .int wi, .ref ca, .int 0])), (ca, .inl (G.2 0, 16, .inl f0)), (h1, .inr (6, [.int mo1, .int wi1, .ref ca1, .int 0])), (ca1, .inl (G.2 0, 16, .inl f1))] H := hP
  have hD : va_D A [(h0, .inr (6, [.int mo, .int wi, .ref ca, .int 0])), (ca, .inl (G.2 0, 16, .inl f0)), (h1, .inr (6, [.int mo1, .int wi1, .ref ca1, .int 0])), (ca1, .inl (G.2 0, 16, .inl f1))] := hD
  refine lv_aload_n hx hb dX6_copyFrom_8 rfl (lv_at hl 1 rfl) ?_
  refine va_get (D := G.1) (ci := 6) (v := .ref ca1) (C := RX6) (T := TX6) (N := 4) hx hb hw inGX6 hown hK hP 2 rfl rfl 2 (by decide) (hw _ kw_163) (fun _ h9 => h9) rfl dX6_copyFrom_9 ?_
  refine lv_iconst (v := 0) hx hb dX6_copyFrom_12 (by decide) ?_
  refine lv_aload_n hx hb dX6_copyFrom_13 rfl (lv_at hl 0 rfl) ?_
  refine va_get (D := G.1) (ci := 6) (v := .ref ca) (C := RX6) (T := TX6) (N := 4) hx hb hw inGX6 hown hK hP 0 rfl rfl 2 (by decide) (hw _ kw_163) (fun _ h9 => h9) rfl dX6_copyFrom_14 ?_
  refine lv_iconst (v := 0) hx hb dX6_copyFrom_17 (by decide) ?_
  refine lv_aload_n hx hb dX6_copyFrom_18 rfl (lv_at hl 0 rfl) ?_
  refine va_get (D := G.1) (ci := 6) (v := .ref ca) (C := RX6) (T := TX6) (N := 4) hx hb hw inGX6 hown hK hP 0 rfl rfl 2 (by decide) (hw _ kw_163) (fun _ h9 => h9) rfl dX6_copyFrom_19 ?_
  refine va_alen (v := 16) hx hb hK hP 1 0 rfl rfl rfl dX6_copyFrom_22 ?_
  refine lv_aload_n hx hb dX6_copyFrom_23 rfl (lv_at hl 1 rfl) ?_
  refine va_get (D := G.1) (ci := 6) (v := .ref ca1) (C := RX6) (T := TX6) (N := 4) hx hb hw inGX6 hown hK hP 2 rfl rfl 2 (by decide) (hw _ kw_163) (fun _ h9 => h9) rfl dX6_copyFrom_24 ?_
  refine va_alen (v := 16) hx hb hK hP 3 0 rfl rfl rfl dX6_copyFrom_27 ?_
  refine va_mmin hx hb (by rw [hml]; exact hl.1.symm) hown (hw _ kw_164) (hw _ kw_72) (hw _ kw_73) (hw _ kw_74) (Nat.le_of_ble_eq_true rfl) (Nat.le_of_ble_eq_true rfl) (Nat.le_of_ble_eq_true rfl) (Nat.le_of_ble_eq_true rfl) dX6_copyFrom_28 ?_
  refine lv_cst (y := 16) (by decide) ?_
  refine va_copyi (ty := .int) hx hb (by rw [hml]; exact hl.1.symm) hown (hw _ kw_165) (hw _ kw_166) (hw _ kw_167) (hw _ kw_168) hK hP hD hS 3 1 0 0 rfl rfl rfl rfl rfl (by decide) (by decide) (by decide) (by decide) (by decide) (fun _ _ => rfl) (Nat.le_of_ble_eq_true rfl) (Nat.le_of_ble_eq_true rfl) dX6_copyFrom_31 (fun H locs hP hD hS => ?_)
  have hP : va_P G.1 vwCl [(h0, .inr (6, [.int mo, .int wi, .ref ca, .int 0])), (ca, .inl (G.2 0, 16, .inl (va_cpy f1 f0 (0 : Int32).toNatClampNeg (0 : Int32).toNatClampNeg (16 : Int32).toNatClampNeg))), (h1, .inr (6, [.int mo1, .int wi1, .ref ca1, .int 0])), (ca1, .inl (G.2 0, 16, .inl f1))] H := hP
  have hD : va_D A [(h0, .inr (6, [.int mo, .int wi, .ref ca, .int 0])), (ca, .inl (G.2 0, 16, .inl (va_cpy f1 f0 (0 : Int32).toNatClampNeg (0 : Int32).toNatClampNeg (16 : Int32).toNatClampNeg))), (h1, .inr (6, [.int mo1, .int wi1, .ref ca1, .int 0])), (ca1, .inl (G.2 0, 16, .inl f1))] := hD
  generalize (va_cpy f1 f0 (0 : Int32).toNatClampNeg (0 : Int32).toNatClampNeg (16 : Int32).toNatClampNeg) = f1 at hP hD
  exact W.vret hx hb hr (fun t ht hW => ⟨⟨(), rfl, trivial, ⟨by rw [ht]; exact hP.sub [] rfl, hD.sub [] (by decide +kernel) rfl⟩⟩, hS.F ht⟩) hS.2.2 dX6_copyFrom_34
set_option maxHeartbeats 4000000 in
set_option maxRecDepth 100000 in
theorem c_copyFrom_18 (l : Launch) (G : KG) (h0 : Nat) (mo : Int32) (wi : Int32) (ca : Nat) (h1 : Nat) (mo1 : Int32) (wi1 : Int32) (ca1 : Nat) (f0 : Nat → Int32) (f1 : Nat → Int32) (sz : Nat) : Met l yX6_copyFrom wgX6_copyFrom ({ frames := 1, cells := 0, slots := 0, locals := 64 }) (preQ G [.ref h0, .ref h1] sz [(h0, .inr (6, [.int mo, .int wi, .ref ca, .int 0])), (ca, .inl (G.2 0, 18, .inl f0)), (h1, .inr (6, [.int mo1, .int wi1, .ref ca1, .int 0])), (ca1, .inl (G.2 0, 18, .inl f1))]) (va_Qv (fun (u : Unit) => True) (fun u t => atQ G (va_A [(h0, .inr (6, [.int mo, .int wi, .ref ca, .int 0])), (ca, .inl (G.2 0, 18, .inl f0)), (h1, .inr (6, [.int mo1, .int wi1, .ref ca1, .int 0])), (ca1, .inl (G.2 0, 18, .inl f1))] sz) [] t) (va_A [(h0, .inr (6, [.int mo, .int wi, .ref ca, .int 0])), (ca, .inl (G.2 0, 18, .inl f0)), (h1, .inr (6, [.int mo1, .int wi1, .ref ca1, .int 0])), (ca1, .inl (G.2 0, 18, .inl f1))] sz)) 0 0 (va_A [(h0, .inr (6, [.int mo, .int wi, .ref ca, .int 0])), (ca, .inl (G.2 0, 18, .inl f0)), (h1, .inr (6, [.int mo1, .int wi1, .ref ca1, .int 0])), (ca1, .inl (G.2 0, 18, .inl f1))] sz) := by
  refine Met.ofW (cc := cX6_copyFrom) (maxL := 2) (ret := none) (by decide) rfl ?_
  intro p e s m args below meth c s₁ B hml hv
  obtain ⟨rfl, hsz, hP, hKG, hD0⟩ := hv
  obtain ⟨hK, hAO⟩ := id hKG
  have hx := B.exec
  have hb := B.bytes
  have hr := B.returns
  have hts := atoms_spec (ws := wgX6_copyFrom) B.pre
  have hw : ∀ w ∈ wG, w.before _ s = true := fun w h => hts w (List.mem_cons_of_mem _ h)
  have hown : s.vm.findClass RX6 = some m.cls := findClass_of_methodNamed B.named
  have hlocks := B.notSynchronized
  subst hsz
  have hD := hD0.self (sz := s.heap.size)
  generalize hAe : va_A [(h0, .inr (6, [.int mo, .int wi, .ref ca, .int 0])), (ca, .inl (G.2 0, 18, .inl f0)), (h1, .inr (6, [.int mo1, .int wi1, .ref ca1, .int 0])), (ca1, .inl (G.2 0, 18, .inl f1))] s.heap.size = A at hD ⊢
  have hA : ∀ q : Nat, s.heap.size ≤ q → A q := fun q h => by rw [← hAe]; exact Or.inr h
  have hS : va_S A s.heap s.heap [] := va_S.rf
  have hl := lv_entry ([.ref h0, .ref h1]) (n := 2) (Nat.le_of_ble_eq_true rfl)
  rw [lg_entry_eq]
  generalize (lg_sl ([.ref h0, .ref h1]) ++ List.replicate (2 - (lg_sl ([.ref h0, .ref h1])).length) Slot.unset).toArray = ls at hl ⊢
  have hl : lv_has ls 2 [(0, .ref h0), (1, .ref h1)] := hl
  refine lv_aload_n hx hb dX6_copyFrom_0 rfl (lv_at hl 0 rfl) ?_
  refine lv_aload_n hx hb dX6_copyFrom_1 rfl (lv_at hl 1 rfl) ?_
  refine va_get (D := G.1) (ci := 6) (v := .int 0) (C := RX6) (T := TX6) (N := 4) hx hb hw inGX6 hown hK hP 2 rfl rfl 3 (by decide) (hw _ kw_1) (fun _ h9 => h9) rfl dX6_copyFrom_2 ?_
  refine va_put (D := G.1) (ci := 6) (v := .int 0) (ty := .int) (C := RX6) (T := TX6) (N := 4) hx hb hw inGX6 tyX6 tyX6_ok nmX6 hown hK hP hD hS 0 rfl rfl 3 (by decide) (hw _ kw_1) (fun _ h9 => h9) rfl (by decide +kernel) rfl rfl (Nat.le_of_ble_eq_true rfl) dX6_copyFrom_5 (fun H locs hP hD hS => ?_)
  have hP : va_P G.1 vwCl [(h0, .inr (6, [.int mo, .int wi, .ref ca, .int 0])), (ca, .inl (G.2 0, 18, .inl f0)), (h1, .inr (6, [.int mo1, .int wi1, .ref ca1, .int 0])), (ca1, .inl (G.2 0, 18, .inl f1))] H := hP
  have hD : va_D A [(h0, .inr (6, [.int mo, .int wi, .ref ca, .int 0])), (ca, .inl (G.2 0, 18, .inl f0)), (h1, .inr (6, [.int mo1, .int wi1, .ref ca1, .int 0])), (ca1, .inl (G.2 0, 18, .inl f1))] := hD
  refine lv_aload_n hx hb dX6_copyFrom_8 rfl (lv_at hl 1 rfl) ?_
  refine va_get (D := G.1) (ci := 6) (v := .ref ca1) (C := RX6) (T := TX6) (N := 4) hx hb hw inGX6 hown hK hP 2 rfl rfl 2 (by decide) (hw _ kw_163) (fun _ h9 => h9) rfl dX6_copyFrom_9 ?_
  refine lv_iconst (v := 0) hx hb dX6_copyFrom_12 (by decide) ?_
  refine lv_aload_n hx hb dX6_copyFrom_13 rfl (lv_at hl 0 rfl) ?_
  refine va_get (D := G.1) (ci := 6) (v := .ref ca) (C := RX6) (T := TX6) (N := 4) hx hb hw inGX6 hown hK hP 0 rfl rfl 2 (by decide) (hw _ kw_163) (fun _ h9 => h9) rfl dX6_copyFrom_14 ?_
  refine lv_iconst (v := 0) hx hb dX6_copyFrom_17 (by decide) ?_
  refine lv_aload_n hx hb dX6_copyFrom_18 rfl (lv_at hl 0 rfl) ?_
  refine va_get (D := G.1) (ci := 6) (v := .ref ca) (C := RX6) (T := TX6) (N := 4) hx hb hw inGX6 hown hK hP 0 rfl rfl 2 (by decide) (hw _ kw_163) (fun _ h9 => h9) rfl dX6_copyFrom_19 ?_
  refine va_alen (v := 18) hx hb hK hP 1 0 rfl rfl rfl dX6_copyFrom_22 ?_
  refine lv_aload_n hx hb dX6_copyFrom_23 rfl (lv_at hl 1 rfl) ?_
  refine va_get (D := G.1) (ci := 6) (v := .ref ca1) (C := RX6) (T := TX6) (N := 4) hx hb hw inGX6 hown hK hP 2 rfl rfl 2 (by decide) (hw _ kw_163) (fun _ h9 => h9) rfl dX6_copyFrom_24 ?_
  refine va_alen (v := 18) hx hb hK hP 3 0 rfl rfl rfl dX6_copyFrom_27 ?_
  refine va_mmin hx hb (by rw [hml]; exact hl.1.symm) hown (hw _ kw_164) (hw _ kw_72) (hw _ kw_73) (hw _ kw_74) (Nat.le_of_ble_eq_true rfl) (Nat.le_of_ble_eq_true rfl) (Nat.le_of_ble_eq_true rfl) (Nat.le_of_ble_eq_true rfl) dX6_copyFrom_28 ?_
  refine lv_cst (y := 18) (by decide) ?_
  refine va_copyi (ty := .int) hx hb (by rw [hml]; exact hl.1.symm) hown (hw _ kw_165) (hw _ kw_166) (hw _ kw_167) (hw _ kw_168) hK hP hD hS 3 1 0 0 rfl rfl rfl rfl rfl (by decide) (by decide) (by decide) (by decide) (by decide) (fun _ _ => rfl) (Nat.le_of_ble_eq_true rfl) (Nat.le_of_ble_eq_true rfl) dX6_copyFrom_31 (fun H locs hP hD hS => ?_)
  have hP : va_P G.1 vwCl [(h0, .inr (6, [.int mo, .int wi, .ref ca, .int 0])), (ca, .inl (G.2 0, 18, .inl (va_cpy f1 f0 (0 : Int32).toNatClampNeg (0 : Int32).toNatClampNeg (18 : Int32).toNatClampNeg))), (h1, .inr (6, [.int mo1, .int wi1, .ref ca1, .int 0])), (ca1, .inl (G.2 0, 18, .inl f1))] H := hP
  have hD : va_D A [(h0, .inr (6, [.int mo, .int wi, .ref ca, .int 0])), (ca, .inl (G.2 0, 18, .inl (va_cpy f1 f0 (0 : Int32).toNatClampNeg (0 : Int32).toNatClampNeg (18 : Int32).toNatClampNeg))), (h1, .inr (6, [.int mo1, .int wi1, .ref ca1, .int 0])), (ca1, .inl (G.2 0, 18, .inl f1))] := hD
  generalize (va_cpy f1 f0 (0 : Int32).toNatClampNeg (0 : Int32).toNatClampNeg (18 : Int32).toNatClampNeg) = f1 at hP hD
  exact W.vret hx hb hr (fun t ht hW => ⟨⟨(), rfl, trivial, ⟨by rw [ht]; exact hP.sub [] rfl, hD.sub [] (by decide +kernel) rfl⟩⟩, hS.F ht⟩) hS.2.2 dX6_copyFrom_34
set_option maxHeartbeats 4000000 in
set_option maxRecDepth 100000 in
theorem c_copyFrom_20 (l : Launch) (G : KG) (h0 : Nat) (mo : Int32) (wi : Int32) (ca : Nat) (h1 : Nat) (mo1 : Int32) (wi1 : Int32) (ca1 : Nat) (f0 : Nat → Int32) (f1 : Nat → Int32) (sz : Nat) : Met l yX6_copyFrom wgX6_copyFrom ({ frames := 1, cells := 0, slots := 0, locals := 64 }) (preQ G [.ref h0, .ref h1] sz [(h0, .inr (6, [.int mo, .int wi, .ref ca, .int 0])), (ca, .inl (G.2 0, 20, .inl f0)), (h1, .inr (6, [.int mo1, .int wi1, .ref ca1, .int 0])), (ca1, .inl (G.2 0, 20, .inl f1))]) (va_Qv (fun (u : Unit) => True) (fun u t => atQ G (va_A [(h0, .inr (6, [.int mo, .int wi, .ref ca, .int 0])), (ca, .inl (G.2 0, 20, .inl f0)), (h1, .inr (6, [.int mo1, .int wi1, .ref ca1, .int 0])), (ca1, .inl (G.2 0, 20, .inl f1))] sz) [] t) (va_A [(h0, .inr (6, [.int mo, .int wi, .ref ca, .int 0])), (ca, .inl (G.2 0, 20, .inl f0)), (h1, .inr (6, [.int mo1, .int wi1, .ref ca1, .int 0])), (ca1, .inl (G.2 0, 20, .inl f1))] sz)) 0 0 (va_A [(h0, .inr (6, [.int mo, .int wi, .ref ca, .int 0])), (ca, .inl (G.2 0, 20, .inl f0)), (h1, .inr (6, [.int mo1, .int wi1, .ref ca1, .int 0])), (ca1, .inl (G.2 0, 20, .inl f1))] sz) := by
  refine Met.ofW (cc := cX6_copyFrom) (maxL := 2) (ret := none) (by decide) rfl ?_
  intro p e s m args below meth c s₁ B hml hv
  obtain ⟨rfl, hsz, hP, hKG, hD0⟩ := hv
  obtain ⟨hK, hAO⟩ := id hKG
  have hx := B.exec
  have hb := B.bytes
  have hr := B.returns
  have hts := atoms_spec (ws := wgX6_copyFrom) B.pre
  have hw : ∀ w ∈ wG, w.before _ s = true := fun w h => hts w (List.mem_cons_of_mem _ h)
  have hown : s.vm.findClass RX6 = some m.cls := findClass_of_methodNamed B.named
  have hlocks := B.notSynchronized
  subst hsz
  have hD := hD0.self (sz := s.heap.size)
  generalize hAe : va_A [(h0, .inr (6, [.int mo, .int wi, .ref ca, .int 0])), (ca, .inl (G.2 0, 20, .inl f0)), (h1, .inr (6, [.int mo1, .int wi1, .ref ca1, .int 0])), (ca1, .inl (G.2 0, 20, .inl f1))] s.heap.size = A at hD ⊢
  have hA : ∀ q : Nat, s.heap.size ≤ q → A q := fun q h => by rw [← hAe]; exact Or.inr h
  have hS : va_S A s.heap s.heap [] := va_S.rf
  have hl := lv_entry ([.ref h0, .ref h1]) (n := 2) (Nat.le_of_ble_eq_true rfl)
  rw [lg_entry_eq]
  generalize (lg_sl ([.ref h0, .ref h1]) ++ List.replicate (2 - (lg_sl ([.ref h0, .ref h1])).length) Slot.unset).toArray = ls at hl ⊢
  have hl : lv_has ls 2 [(0, .ref h0), (1, .ref h1)] := hl
  refine lv_aload_n hx hb dX6_copyFrom_0 rfl (lv_at hl 0 rfl) ?_
  refine lv_aload_n hx hb dX6_copyFrom_1 rfl (lv_at hl 1 rfl) ?_
  refine va_get (D := G.1) (ci := 6) (v := .int 0) (C := RX6) (T := TX6) (N := 4) hx hb hw inGX6 hown hK hP 2 rfl rfl 3 (by decide) (hw _ kw_1) (fun _ h9 => h9) rfl dX6_copyFrom_2 ?_
  refine va_put (D := G.1) (ci := 6) (v := .int 0) (ty := .int) (C := RX6) (T := TX6) (N := 4) hx hb hw inGX6 tyX6 tyX6_ok nmX6 hown hK hP hD hS 0 rfl rfl 3 (by decide) (hw _ kw_1) (fun _ h9 => h9) rfl (by decide +kernel) rfl rfl (Nat.le_of_ble_eq_true rfl) dX6_copyFrom_5 (fun H locs hP hD hS => ?_)
  have hP : va_P G.1 vwCl [(h0, .inr (6, [.int mo, .int wi, .ref ca, .int 0])), (ca, .inl (G.2 0, 20, .inl f0)), (h1, .inr (6, [.int mo1, .int wi1, .ref ca1, .int 0])), (ca1, .inl (G.2 0, 20, .inl f1))] H := hP
  have hD : va_D A [(h0, .inr (6, [.int mo, .int wi, .ref ca, .int 0])), (ca, .inl (G.2 0, 20, .inl f0)), (h1, .inr (6, [.int mo1, .int wi1, .ref ca1, .int 0])), (ca1, .inl (G.2 0, 20, .inl f1))] := hD
  refine lv_aload_n hx hb dX6_copyFrom_8 rfl (lv_at hl 1 rfl) ?_
  refine va_get (D := G.1) (ci := 6) (v := .ref ca1) (C := RX6) (T := TX6) (N := 4) hx hb hw inGX6 hown hK hP 2 rfl rfl 2 (by decide) (hw _ kw_163) (fun _ h9 => h9) rfl dX6_copyFrom_9 ?_
  refine lv_iconst (v := 0) hx hb dX6_copyFrom_12 (by decide) ?_
  refine lv_aload_n hx hb dX6_copyFrom_13 rfl (lv_at hl 0 rfl) ?_
  refine va_get (D := G.1) (ci := 6) (v := .ref ca) (C := RX6) (T := TX6) (N := 4) hx hb hw inGX6 hown hK hP 0 rfl rfl 2 (by decide) (hw _ kw_163) (fun _ h9 => h9) rfl dX6_copyFrom_14 ?_
  refine lv_iconst (v := 0) hx hb dX6_copyFrom_17 (by decide) ?_
  refine lv_aload_n hx hb dX6_copyFrom_18 rfl (lv_at hl 0 rfl) ?_
  refine va_get (D := G.1) (ci := 6) (v := .ref ca) (C := RX6) (T := TX6) (N := 4) hx hb hw inGX6 hown hK hP 0 rfl rfl 2 (by decide) (hw _ kw_163) (fun _ h9 => h9) rfl dX6_copyFrom_19 ?_
  refine va_alen (v := 20) hx hb hK hP 1 0 rfl rfl rfl dX6_copyFrom_22 ?_
  refine lv_aload_n hx hb dX6_copyFrom_23 rfl (lv_at hl 1 rfl) ?_
  refine va_get (D := G.1) (ci := 6) (v := .ref ca1) (C := RX6) (T := TX6) (N := 4) hx hb hw inGX6 hown hK hP 2 rfl rfl 2 (by decide) (hw _ kw_163) (fun _ h9 => h9) rfl dX6_copyFrom_24 ?_
  refine va_alen (v := 20) hx hb hK hP 3 0 rfl rfl rfl dX6_copyFrom_27 ?_
  refine va_mmin hx hb (by rw [hml]; exact hl.1.symm) hown (hw _ kw_164) (hw _ kw_72) (hw _ kw_73) (hw _ kw_74) (Nat.le_of_ble_eq_true rfl) (Nat.le_of_ble_eq_true rfl) (Nat.le_of_ble_eq_true rfl) (Nat.le_of_ble_eq_true rfl) dX6_copyFrom_28 ?_
  refine lv_cst (y := 20) (by decide) ?_
  refine va_copyi (ty := .int) hx hb (by rw [hml]; exact hl.1.symm) hown (hw _ kw_165) (hw _ kw_166) (hw _ kw_167) (hw _ kw_168) hK hP hD hS 3 1 0 0 rfl rfl rfl rfl rfl (by decide) (by decide) (by decide) (by decide) (by decide) (fun _ _ => rfl) (Nat.le_of_ble_eq_true rfl) (Nat.le_of_ble_eq_true rfl) dX6_copyFrom_31 (fun H locs hP hD hS => ?_)
  have hP : va_P G.1 vwCl [(h0, .inr (6, [.int mo, .int wi, .ref ca, .int 0])), (ca, .inl (G.2 0, 20, .inl (va_cpy f1 f0 (0 : Int32).toNatClampNeg (0 : Int32).toNatClampNeg (20 : Int32).toNatClampNeg))), (h1, .inr (6, [.int mo1, .int wi1, .ref ca1, .int 0])), (ca1, .inl (G.2 0, 20, .inl f1))] H := hP
  have hD : va_D A [(h0, .inr (6, [.int mo, .int wi, .ref ca, .int 0])), (ca, .inl (G.2 0, 20, .inl (va_cpy f1 f0 (0 : Int32).toNatClampNeg (0 : Int32).toNatClampNeg (20 : Int32).toNatClampNeg))), (h1, .inr (6, [.int mo1, .int wi1, .ref ca1, .int 0])), (ca1, .inl (G.2 0, 20, .inl f1))] := hD
  generalize (va_cpy f1 f0 (0 : Int32).toNatClampNeg (0 : Int32).toNatClampNeg (20 : Int32).toNatClampNeg) = f1 at hP hD
  exact W.vret hx hb hr (fun t ht hW => ⟨⟨(), rfl, trivial, ⟨by rw [ht]; exact hP.sub [] rfl, hD.sub [] (by decide +kernel) rfl⟩⟩, hS.F ht⟩) hS.2.2 dX6_copyFrom_34
set_option maxHeartbeats 4000000 in
set_option maxRecDepth 100000 in
theorem c_copyFrom_80 (l : Launch) (G : KG) (h0 : Nat) (mo : Int32) (wi : Int32) (ca : Nat) (h1 : Nat) (mo1 : Int32) (wi1 : Int32) (ca1 : Nat) (f0 : Nat → Int32) (f1 : Nat → Int32) (sz : Nat) : Met l yX6_copyFrom wgX6_copyFrom ({ frames := 1, cells := 0, slots := 0, locals := 64 }) (preQ G [.ref h0, .ref h1] sz [(h0, .inr (6, [.int mo, .int wi, .ref ca, .int 0])), (ca, .inl (G.2 0, 80, .inl f0)), (h1, .inr (6, [.int mo1, .int wi1, .ref ca1, .int 0])), (ca1, .inl (G.2 0, 80, .inl f1))]) (va_Qv (fun (u : Unit) => True) (fun u t => atQ G (va_A [(h0, .inr (6, [.int mo, .int wi, .ref ca, .int 0])), (ca, .inl (G.2 0, 80, .inl f0)), (h1, .inr (6, [.int mo1, .int wi1, .ref ca1, .int 0])), (ca1, .inl (G.2 0, 80, .inl f1))] sz) [] t) (va_A [(h0, .inr (6, [.int mo, .int wi, .ref ca, .int 0])), (ca, .inl (G.2 0, 80, .inl f0)), (h1, .inr (6, [.int mo1, .int wi1, .ref ca1, .int 0])), (ca1, .inl (G.2 0, 80, .inl f1))] sz)) 0 0 (va_A [(h0, .inr (6, [.int mo, .int wi, .ref ca, .int 0])), (ca, .inl (G.2 0, 80, .inl f0)), (h1, .inr (6, [.int mo1, .int wi1, .ref ca1, .int 0])), (ca1, .inl (G.2 0, 80, .inl f1))] sz) := by
  refine Met.ofW (cc := cX6_copyFrom) (maxL := 2) (ret := none) (by decide) rfl ?_
  intro p e s m args below meth c s₁ B hml hv
  obtain ⟨rfl, hsz, hP, hKG, hD0⟩ := hv
  obtain ⟨hK, hAO⟩ := id hKG
  have hx := B.exec
  have hb := B.bytes
  have hr := B.returns
  have hts := atoms_spec (ws := wgX6_copyFrom) B.pre
  have hw : ∀ w ∈ wG, w.before _ s = true := fun w h => hts w (List.mem_cons_of_mem _ h)
  have hown : s.vm.findClass RX6 = some m.cls := findClass_of_methodNamed B.named
  have hlocks := B.notSynchronized
  subst hsz
  have hD := hD0.self (sz := s.heap.size)
  generalize hAe : va_A [(h0, .inr (6, [.int mo, .int wi, .ref ca, .int 0])), (ca, .inl (G.2 0, 80, .inl f0)), (h1, .inr (6, [.int mo1, .int wi1, .ref ca1, .int 0])), (ca1, .inl (G.2 0, 80, .inl f1))] s.heap.size = A at hD ⊢
  have hA : ∀ q : Nat, s.heap.size ≤ q → A q := fun q h => by rw [← hAe]; exact Or.inr h
  have hS : va_S A s.heap s.heap [] := va_S.rf
  have hl := lv_entry ([.ref h0, .ref h1]) (n := 2) (Nat.le_of_ble_eq_true rfl)
  rw [lg_entry_eq]
  generalize (lg_sl ([.ref h0, .ref h1]) ++ List.replicate (2 - (lg_sl ([.ref h0, .ref h1])).length) Slot.unset).toArray = ls at hl ⊢
  have hl : lv_has ls 2 [(0, .ref h0), (1, .ref h1)] := hl
  refine lv_aload_n hx hb dX6_copyFrom_0 rfl (lv_at hl 0 rfl) ?_
  refine lv_aload_n hx hb dX6_copyFrom_1 rfl (lv_at hl 1 rfl) ?_
  refine va_get (D := G.1) (ci := 6) (v := .int 0) (C := RX6) (T := TX6) (N := 4) hx hb hw inGX6 hown hK hP 2 rfl rfl 3 (by decide) (hw _ kw_1) (fun _ h9 => h9) rfl dX6_copyFrom_2 ?_
  refine va_put (D := G.1) (ci := 6) (v := .int 0) (ty := .int) (C := RX6) (T := TX6) (N := 4) hx hb hw inGX6 tyX6 tyX6_ok nmX6 hown hK hP hD hS 0 rfl rfl 3 (by decide) (hw _ kw_1) (fun _ h9 => h9) rfl (by decide +kernel) rfl rfl (Nat.le_of_ble_eq_true rfl) dX6_copyFrom_5 (fun H locs hP hD hS => ?_)
  have hP : va_P G.1 vwCl [(h0, .inr (6, [.int mo, .int wi, .ref ca, .int 0])), (ca, .inl (G.2 0, 80, .inl f0)), (h1, .inr (6, [.int mo1, .int wi1, .ref ca1, .int 0])), (ca1, .inl (G.2 0, 80, .inl f1))] H := hP
  have hD : va_D A [(h0, .inr (6, [.int mo, .int wi, .ref ca, .int 0])), (ca, .inl (G.2 0, 80, .inl f0)), (h1, .inr (6, [.int mo1, .int wi1, .ref ca1, .int 0])), (ca1, .inl (G.2 0, 80, .inl f1))] := hD
  refine lv_aload_n hx hb dX6_copyFrom_8 rfl (lv_at hl 1 rfl) ?_
  refine va_get (D := G.1) (ci := 6) (v := .ref ca1) (C := RX6) (T := TX6) (N := 4) hx hb hw inGX6 hown hK hP 2 rfl rfl 2 (by decide) (hw _ kw_163) (fun _ h9 => h9) rfl dX6_copyFrom_9 ?_
  refine lv_iconst (v := 0) hx hb dX6_copyFrom_12 (by decide) ?_
  refine lv_aload_n hx hb dX6_copyFrom_13 rfl (lv_at hl 0 rfl) ?_
  refine va_get (D := G.1) (ci := 6) (v := .ref ca) (C := RX6) (T := TX6) (N := 4) hx hb hw inGX6 hown hK hP 0 rfl rfl 2 (by decide) (hw _ kw_163) (fun _ h9 => h9) rfl dX6_copyFrom_14 ?_
  refine lv_iconst (v := 0) hx hb dX6_copyFrom_17 (by decide) ?_
  refine lv_aload_n hx hb dX6_copyFrom_18 rfl (lv_at hl 0 rfl) ?_
  refine va_get (D := G.1) (ci := 6) (v := .ref ca) (C := RX6) (T := TX6) (N := 4) hx hb hw inGX6 hown hK hP 0 rfl rfl 2 (by decide) (hw _ kw_163) (fun _ h9 => h9) rfl dX6_copyFrom_19 ?_
  refine va_alen (v := 80) hx hb hK hP 1 0 rfl rfl rfl dX6_copyFrom_22 ?_
  refine lv_aload_n hx hb dX6_copyFrom_23 rfl (lv_at hl 1 rfl) ?_
  refine va_get (D := G.1) (ci := 6) (v := .ref ca1) (C := RX6) (T := TX6) (N := 4) hx hb hw inGX6 hown hK hP 2 rfl rfl 2 (by decide) (hw _ kw_163) (fun _ h9 => h9) rfl dX6_copyFrom_24 ?_
  refine va_alen (v := 80) hx hb hK hP 3 0 rfl rfl rfl dX6_copyFrom_27 ?_
  refine va_mmin hx hb (by rw [hml]; exact hl.1.symm) hown (hw _ kw_164) (hw _ kw_72) (hw _ kw_73) (hw _ kw_74) (Nat.le_of_ble_eq_true rfl) (Nat.le_of_ble_eq_true rfl) (Nat.le_of_ble_eq_true rfl) (Nat.le_of_ble_eq_true rfl) dX6_copyFrom_28 ?_
  refine lv_cst (y := 80) (by decide) ?_
  refine va_copyi (ty := .int) hx hb (by rw [hml]; exact hl.1.symm) hown (hw _ kw_165) (hw _ kw_166) (hw _ kw_167) (hw _ kw_168) hK hP hD hS 3 1 0 0 rfl rfl rfl rfl rfl (by decide) (by decide) (by decide) (by decide) (by decide) (fun _ _ => rfl) (Nat.le_of_ble_eq_true rfl) (Nat.le_of_ble_eq_true rfl) dX6_copyFrom_31 (fun H locs hP hD hS => ?_)
  have hP : va_P G.1 vwCl [(h0, .inr (6, [.int mo, .int wi, .ref ca, .int 0])), (ca, .inl (G.2 0, 80, .inl (va_cpy f1 f0 (0 : Int32).toNatClampNeg (0 : Int32).toNatClampNeg (80 : Int32).toNatClampNeg))), (h1, .inr (6, [.int mo1, .int wi1, .ref ca1, .int 0])), (ca1, .inl (G.2 0, 80, .inl f1))] H := hP
  have hD : va_D A [(h0, .inr (6, [.int mo, .int wi, .ref ca, .int 0])), (ca, .inl (G.2 0, 80, .inl (va_cpy f1 f0 (0 : Int32).toNatClampNeg (0 : Int32).toNatClampNeg (80 : Int32).toNatClampNeg))), (h1, .inr (6, [.int mo1, .int wi1, .ref ca1, .int 0])), (ca1, .inl (G.2 0, 80, .inl f1))] := hD
  generalize (va_cpy f1 f0 (0 : Int32).toNatClampNeg (0 : Int32).toNatClampNeg (80 : Int32).toNatClampNeg) = f1 at hP hD
  exact W.vret hx hb hr (fun t ht hW => ⟨⟨(), rfl, trivial, ⟨by rw [ht]; exact hP.sub [] rfl, hD.sub [] (by decide +kernel) rfl⟩⟩, hS.F ht⟩) hS.2.2 dX6_copyFrom_34
set_option maxHeartbeats 4000000 in
set_option maxRecDepth 100000 in
theorem c_newSheet_4_5 (l : Launch) (G : KG) (h0 : Nat) (sz : Nat) : Met l yX6_init wgX6_init ({ frames := 1, cells := 1, slots := 20, locals := 20 }) (preQ G [.ref h0, .int 4, .int 5] sz [(h0, .inr (6, [.int 0, .int 0, .null, .int 0]))]) (va_Qv (fun (u : Nat) => True) (fun u t => atQ G (va_A [(h0, .inr (6, [.int 0, .int 0, .null, .int 0]))] sz) [(h0, .inr (6, [.int 4, .int 5, .ref u, .int 0])), (u, .inl (G.2 0, 20, .inl (fun _ => 0)))] t) (va_A [(h0, .inr (6, [.int 0, .int 0, .null, .int 0]))] sz)) 1 20 (va_A [(h0, .inr (6, [.int 0, .int 0, .null, .int 0]))] sz) := by
  refine Met.ofW (cc := cX6_init) (maxL := 3) (ret := none) (by decide) rfl ?_
  intro p e s m args below meth c s₁ B hml hv
  obtain ⟨rfl, hsz, hP, hKG, hD0⟩ := hv
  obtain ⟨hK, hAO⟩ := id hKG
  have hx := B.exec
  have hb := B.bytes
  have hr := B.returns
  have hts := atoms_spec (ws := wgX6_init) B.pre
  have hw : ∀ w ∈ wG, w.before _ s = true := fun w h => hts w (List.mem_cons_of_mem _ h)
  have hown : s.vm.findClass RX6 = some m.cls := findClass_of_methodNamed B.named
  have hlocks := B.notSynchronized
  have hin : meth.name = "<init>" := (name_of_methodNamed B.named B.method).1
  subst hsz
  have hD := hD0.self (sz := s.heap.size)
  generalize hAe : va_A [(h0, .inr (6, [.int 0, .int 0, .null, .int 0]))] s.heap.size = A at hD ⊢
  have hA : ∀ q : Nat, s.heap.size ≤ q → A q := fun q h => by rw [← hAe]; exact Or.inr h
  have hS : va_S A s.heap s.heap [] := va_S.rf
  have hl := lv_entry ([.ref h0, .int 4, .int 5]) (n := 3) (Nat.le_of_ble_eq_true rfl)
  rw [lg_entry_eq]
  generalize (lg_sl ([.ref h0, .int 4, .int 5]) ++ List.replicate (3 - (lg_sl ([.ref h0, .int 4, .int 5])).length) Slot.unset).toArray = ls at hl ⊢
  have hl : lv_has ls 3 [(0, .ref h0), (1, .int 4), (2, .int 5)] := hl
  refine lv_aload_n hx hb dX6_init_0 rfl (lv_at hl 0 rfl) ?_
  refine W.objInit hx hb hown (hw _ kw_179) (hw _ kw_180) (hw _ kw_181) rfl (by rw [hml]; exact hl.1) rfl dX6_init_1 (Nat.le_of_ble_eq_true rfl) (Nat.le_of_ble_eq_true rfl) ?_
  refine W.eq (g2 := F0 m 4 ls []) rfl ?_
  refine lv_aload_n hx hb dX6_init_4 rfl (lv_at hl 0 rfl) ?_
  refine lv_iconst (v := 0) hx hb dX6_init_5 (by decide) ?_
  refine va_put (D := G.1) (ci := 6) (v := .int 0) (ty := .int) (C := RX6) (T := TX6) (N := 4) hx hb hw inGX6 tyX6 tyX6_ok nmX6 hown hK hP hD hS 0 rfl rfl 3 (by decide) (hw _ kw_1) (fun _ h9 => h9) rfl (by decide +kernel) rfl rfl (Nat.le_of_ble_eq_true rfl) dX6_init_6 (fun H locs hP hD hS => ?_)
  have hP : va_P G.1 vwCl [(h0, .inr (6, [.int 0, .int 0, .null, .int 0]))] H := hP
  have hD : va_D A [(h0, .inr (6, [.int 0, .int 0, .null, .int 0]))] := hD
  refine lv_aload_n hx hb dX6_init_9 rfl (lv_at hl 0 rfl) ?_
  refine lv_iload_n hx hb dX6_init_10 rfl (lv_at hl 1 rfl) ?_
  refine va_putF (D := G.1) (ci := 6) (v := .int 4) (ty := .int) (C := RX6) (T := TX6) (N := 4) hx hb hw inGX6 tyX6 tyX6_ok nmX6 hown hK hP hD hS 0 rfl rfl 0 (by decide) (hw _ kw_182) (fun _ h9 => h9) rfl hin rfl (by decide +kernel) rfl rfl (Nat.le_of_ble_eq_true rfl) dX6_init_11 (fun H locs hP hD hS => ?_)
  have hP : va_P G.1 vwCl [(h0, .inr (6, [.int 4, .int 0, .null, .int 0]))] H := hP
  have hD : va_D A [(h0, .inr (6, [.int 4, .int 0, .null, .int 0]))] := hD
  refine lv_aload_n hx hb dX6_init_14 rfl (lv_at hl 0 rfl) ?_
  refine lv_iload_n hx hb dX6_init_15 rfl (lv_at hl 2 rfl) ?_
  refine va_putF (D := G.1) (ci := 6) (v := .int 5) (ty := .int) (C := RX6) (T := TX6) (N := 4) hx hb hw inGX6 tyX6 tyX6_ok nmX6 hown hK hP hD hS 0 rfl rfl 1 (by decide) (hw _ kw_183) (fun _ h9 => h9) rfl hin rfl (by decide +kernel) rfl rfl (Nat.le_of_ble_eq_true rfl) dX6_init_16 (fun H locs hP hD hS => ?_)
  have hP : va_P G.1 vwCl [(h0, .inr (6, [.int 4, .int 5, .null, .int 0]))] H := hP
  have hD : va_D A [(h0, .inr (6, [.int 4, .int 5, .null, .int 0]))] := hD
  refine lv_aload_n hx hb dX6_init_19 rfl (lv_at hl 0 rfl) ?_
  refine lv_iload_n hx hb dX6_init_20 rfl (lv_at hl 1 rfl) ?_
  refine lv_iload_n hx hb dX6_init_21 rfl (lv_at hl 2 rfl) ?_
  refine lv_imul hx hb dX6_init_22 ?_
  refine lv_cst (y := 20) (by decide) ?_
  refine wn_newa (atype := .int) (ty := .int) (n := 20) (N' := 20) (a0 := (20, .inl (fun _ => 0))) hx hb (hw _ kw_184) rfl hK 0 rfl hP hD hS hA (fun _ => rfl) (by decide) (by decide) (by decide) (Nat.le_of_ble_eq_true rfl) (Nat.le_of_ble_eq_true rfl) dX6_init_23 (fun q1 H hP hD hS => ?_)
  have hP : va_P G.1 vwCl [(h0, .inr (6, [.int 4, .int 5, .null, .int 0])), (q1, .inl (G.2 0, 20, .inl (fun _ => 0)))] H := hP
  have hD : va_D A [(h0, .inr (6, [.int 4, .int 5, .null, .int 0])), (q1, .inl (G.2 0, 20, .inl (fun _ => 0)))] := hD
  refine W.widen (k := 1) (n := 20) (Nat.le_of_ble_eq_true rfl) (Nat.le_of_ble_eq_true rfl) ?_
  refine va_putF (D := G.1) (ci := 6) (v := .ref q1) (ty := (.array .int)) (C := RX6) (T := TX6) (N := 4) hx hb hw inGX6 tyX6 tyX6_ok nmX6 hown hK hP hD hS 0 rfl rfl 2 (by decide) (hw _ kw_163) (fun _ h9 => h9) rfl hin rfl (by decide +kernel) rfl rfl (Nat.le_of_ble_eq_true rfl) dX6_init_25 (fun H locs hP hD hS => ?_)
  have hP : va_P G.1 vwCl [(h0, .inr (6, [.int 4, .int 5, .ref q1, .int 0])), (q1, .inl (G.2 0, 20, .inl (fun _ => 0)))] H := hP
  have hD : va_D A [(h0, .inr (6, [.int 4, .int 5, .ref q1, .int 0])), (q1, .inl (G.2 0, 20, .inl (fun _ => 0)))] := hD
  refine W.widen (k := 1) (n := 20) (Nat.le_of_ble_eq_true rfl) (Nat.le_of_ble_eq_true rfl) ?_
  exact W.vret hx hb hr (fun t ht hW => ⟨⟨q1, rfl, trivial, ⟨by rw [ht]; exact hP.sub [0, 1] rfl, hD.sub [0, 1] (by decide +kernel) rfl⟩⟩, hS.F ht⟩) hS.2.2 dX6_init_28
