set_option maxHeartbeats 4000000 in
set_option maxRecDepth 100000 in
theorem c_X10_lets (l : Launch) (G : KG) (x0 : Nat) (tp : Nat) (rd : Nat) (nw : Nat) (sp : Nat) (im : Nat) (ir : Nat) (kp : Nat) (sl : Nat) (tk : Nat) (hn : Nat) (rc : Nat) (jn : Nat) (br : Nat) (sh : Nat) (nw_slopes : Nat) (nw_wets : Nat) (nw_limits : Nat) (nw_platforms : Nat) (nw_kinds : Nat) (nw_trains : Nat) (nw_coaches : Nat) (nw_platforms_c : Nat) (nw_kinds_c : Nat) (nw_trains_c : Nat) (nw_coaches_c : Nat) (p0 : Int32) (p1 : Int32) : Met l yX10_lets wgX10_lets ({ frames := 1, cells := 0, slots := 0, locals := 21 }) (preS G [.ref x0, .int p0, .int p1] [(x0, .inr (10, [.ref tp, .int 0, .ref rd, .ref nw, .ref sp, .ref im, .ref ir, .ref kp, .ref sl, .ref tk, .ref hn, .ref rc, .ref jn, .ref br, .ref sh])), (nw, .inr (3, [.int 0, .int 0, .ref nw_slopes, .ref nw_wets, .ref nw_limits, .ref nw_platforms, .ref nw_kinds, .ref nw_trains, .ref nw_coaches])), (nw_platforms, .inr (6, [.int 6, .int 2, .ref nw_platforms_c, .int 0])), (nw_kinds, .inr (6, [.int 4, .int 5, .ref nw_kinds_c, .int 0])), (nw_trains, .inr (6, [.int 5, .int 3, .ref nw_trains_c, .int 0])), (nw_coaches, .inr (6, [.int 16, .int 5, .ref nw_coaches_c, .int 0]))]) (vp_Si (fun (r : Int32) => (r = (-2)))) 0 0 (fun _ => False) := by
  refine Met.ofW (cc := cX10_lets) (maxL := 4) (ret := (some .int)) (by decide) rfl ?_
  intro p e s m args below meth c s₁ B hml hv
  obtain ⟨rfl, hP, hKG⟩ := hv
  obtain ⟨hK, hAO⟩ := id hKG
  have hx := B.exec
  have hb := B.bytes
  have hr := B.returns
  have hts := atoms_spec (ws := wgX10_lets) B.pre
  have hw : ∀ w ∈ wG, w.before _ s = true := fun w h => hts w (List.mem_cons_of_mem _ h)
  have hown : s.vm.findClass RX10 = some m.cls := findClass_of_methodNamed B.named
  have hlocks := B.notSynchronized
  have hl := lv_entry ([.ref x0, .int p0, .int p1]) (n := 4) (Nat.le_of_ble_eq_true rfl)
  rw [lg_entry_eq]
  generalize (lg_sl ([.ref x0, .int p0, .int p1]) ++ List.replicate (4 - (lg_sl ([.ref x0, .int p0, .int p1])).length) Slot.unset).toArray = ls at hl ⊢
  have hl : lv_has ls 4 [(0, .ref x0), (1, .int p0), (2, .int p1)] := hl
  refine lv_aload_n hx hb dX10_lets_0 rfl (lv_at hl 0 rfl) ?_
  refine va_get (D := G.1) (ci := 10) (v := .ref nw) (C := RX10) (T := TX10) (N := 15) hx hb hw inGX10 hown hK hP 0 rfl rfl 3 (by decide) (hw _ kw_2) (fun _ h9 => h9) rfl dX10_lets_1 ?_
  refine va_get (D := G.1) (ci := 3) (v := .ref nw_coaches) (C := RX3) (T := TX3) (N := 9) hx hb hw inGX3 hown hK hP 1 rfl rfl 8 (by decide) (hw _ kw_27) (fun _ h9 => h9) rfl dX10_lets_4 ?_
  refine lv_iload_n hx hb dX10_lets_7 rfl (lv_at hl 1 rfl) ?_
  refine vp_callSi (va_Run.run (va_runV (As := [.int p0]) (rest := []) ⟨hx, hb, hml, hown, hw⟩ (c_has0 l G nw_coaches 16 5 nw_coaches_c p0) (cwV 1 hw (gdV kw_11 kw_12 kw_13 kw_14 kw_10) rfl rfl rfl ⟨rfl, hdX6_has⟩ ⟨(Nat.le_of_ble_eq_true rfl), (Nat.le_of_ble_eq_true rfl)⟩) (preS_V (wc := [(nw_coaches, .inr (6, [.int 16, .int 5, .ref nw_coaches_c, .int 0]))]) (ci := 6) hKG hP [5] rfl rfl rfl) rfl rfl hl.1 rfl (lv_room (Nat.le_of_ble_eq_true rfl)) dX10_lets_8 ⟨(Nat.le_of_ble_eq_true rfl), (Nat.le_of_ble_eq_true rfl)⟩)) (fun r1 hr1 => ?_)
  subst hr1
  refine lv_if_eq (tgt := 23) hx hb dX10_lets_11 (by decide) (fun c2 => ?_) (fun c2 => absurd (by decide) c2)
  refine lv_bipush (v := (-2)) hx hb dX10_lets_23 (by decide) ?_
  exact W.iret (v := (-2)) hx hb hr (fun t ht hW => ⟨(-2), rfl, rfl, ht⟩) (fun _ h => absurd h List.not_mem_nil) dX10_lets_25
set_option maxHeartbeats 4000000 in
set_option maxRecDepth 100000 in
theorem c_X10_comes (l : Launch) (G : KG) (x0 : Nat) (tp : Nat) (rd : Nat) (nw : Nat) (sp : Nat) (im : Nat) (ir : Nat) (kp : Nat) (sl : Nat) (tk : Nat) (hn : Nat) (rc : Nat) (jn : Nat) (br : Nat) (sh : Nat) (nw_slopes : Nat) (nw_wets : Nat) (nw_limits : Nat) (nw_platforms : Nat) (nw_kinds : Nat) (nw_trains : Nat) (nw_coaches : Nat) (nw_platforms_c : Nat) (nw_kinds_c : Nat) (nw_trains_c : Nat) (nw_coaches_c : Nat) (p0 : Int32) (p1 : Int32) : Met l yX10_comes wgX10_comes ({ frames := 1, cells := 0, slots := 0, locals := 21 }) (preS G [.ref x0, .int p0, .int p1] [(x0, .inr (10, [.ref tp, .int 0, .ref rd, .ref nw, .ref sp, .ref im, .ref ir, .ref kp, .ref sl, .ref tk, .ref hn, .ref rc, .ref jn, .ref br, .ref sh])), (nw, .inr (3, [.int 0, .int 0, .ref nw_slopes, .ref nw_wets, .ref nw_limits, .ref nw_platforms, .ref nw_kinds, .ref nw_trains, .ref nw_coaches])), (nw_platforms, .inr (6, [.int 6, .int 2, .ref nw_platforms_c, .int 0])), (nw_kinds, .inr (6, [.int 4, .int 5, .ref nw_kinds_c, .int 0])), (nw_trains, .inr (6, [.int 5, .int 3, .ref nw_trains_c, .int 0])), (nw_coaches, .inr (6, [.int 16, .int 5, .ref nw_coaches_c, .int 0]))]) (vp_Si (fun (r : Int32) => (r = (-2)))) 0 0 (fun _ => False) := by
  refine Met.ofW (cc := cX10_comes) (maxL := 4) (ret := (some .int)) (by decide) rfl ?_
  intro p e s m args below meth c s₁ B hml hv
  obtain ⟨rfl, hP, hKG⟩ := hv
  obtain ⟨hK, hAO⟩ := id hKG
  have hx := B.exec
  have hb := B.bytes
  have hr := B.returns
  have hts := atoms_spec (ws := wgX10_comes) B.pre
  have hw : ∀ w ∈ wG, w.before _ s = true := fun w h => hts w (List.mem_cons_of_mem _ h)
  have hown : s.vm.findClass RX10 = some m.cls := findClass_of_methodNamed B.named
  have hlocks := B.notSynchronized
  have hl := lv_entry ([.ref x0, .int p0, .int p1]) (n := 4) (Nat.le_of_ble_eq_true rfl)
  rw [lg_entry_eq]
  generalize (lg_sl ([.ref x0, .int p0, .int p1]) ++ List.replicate (4 - (lg_sl ([.ref x0, .int p0, .int p1])).length) Slot.unset).toArray = ls at hl ⊢
  have hl : lv_has ls 4 [(0, .ref x0), (1, .int p0), (2, .int p1)] := hl
  refine lv_aload_n hx hb dX10_comes_0 rfl (lv_at hl 0 rfl) ?_
  refine va_get (D := G.1) (ci := 10) (v := .ref nw) (C := RX10) (T := TX10) (N := 15) hx hb hw inGX10 hown hK hP 0 rfl rfl 3 (by decide) (hw _ kw_2) (fun _ h9 => h9) rfl dX10_comes_1 ?_
  refine va_get (D := G.1) (ci := 3) (v := .ref nw_coaches) (C := RX3) (T := TX3) (N := 9) hx hb hw inGX3 hown hK hP 1 rfl rfl 8 (by decide) (hw _ kw_27) (fun _ h9 => h9) rfl dX10_comes_4 ?_
  refine lv_iload_n hx hb dX10_comes_7 rfl (lv_at hl 1 rfl) ?_
  refine vp_callSi (va_Run.run (va_runV (As := [.int p0]) (rest := []) ⟨hx, hb, hml, hown, hw⟩ (c_has0 l G nw_coaches 16 5 nw_coaches_c p0) (cwV 1 hw (gdV kw_11 kw_12 kw_13 kw_14 kw_10) rfl rfl rfl ⟨rfl, hdX6_has⟩ ⟨(Nat.le_of_ble_eq_true rfl), (Nat.le_of_ble_eq_true rfl)⟩) (preS_V (wc := [(nw_coaches, .inr (6, [.int 16, .int 5, .ref nw_coaches_c, .int 0]))]) (ci := 6) hKG hP [5] rfl rfl rfl) rfl rfl hl.1 rfl (lv_room (Nat.le_of_ble_eq_true rfl)) dX10_comes_8 ⟨(Nat.le_of_ble_eq_true rfl), (Nat.le_of_ble_eq_true rfl)⟩)) (fun r1 hr1 => ?_)
  subst hr1
  refine lv_if_eq (tgt := 23) hx hb dX10_comes_11 (by decide) (fun c2 => ?_) (fun c2 => absurd (by decide) c2)
  refine lv_bipush (v := (-2)) hx hb dX10_comes_23 (by decide) ?_
  exact W.iret (v := (-2)) hx hb hr (fun t ht hW => ⟨(-2), rfl, rfl, ht⟩) (fun _ h => absurd h List.not_mem_nil) dX10_comes_25
set_option maxHeartbeats 4000000 in
set_option maxRecDepth 100000 in
theorem c_X10_clear (l : Launch) (G : KG) (x0 : Nat) (tp : Nat) (rd : Nat) (nw : Nat) (sp : Nat) (im : Nat) (ir : Nat) (kp : Nat) (sl : Nat) (tk : Nat) (hn : Nat) (rc : Nat) (jn : Nat) (br : Nat) (sh : Nat) (nw_slopes : Nat) (nw_wets : Nat) (nw_limits : Nat) (nw_platforms : Nat) (nw_kinds : Nat) (nw_trains : Nat) (nw_coaches : Nat) (nw_platforms_c : Nat) (nw_kinds_c : Nat) (nw_trains_c : Nat) (nw_coaches_c : Nat) (p0 : Int32) : Met l yX10_clear wgX10_clear ({ frames := 1, cells := 0, slots := 0, locals := 21 }) (preS G [.ref x0, .int p0] [(x0, .inr (10, [.ref tp, .int 0, .ref rd, .ref nw, .ref sp, .ref im, .ref ir, .ref kp, .ref sl, .ref tk, .ref hn, .ref rc, .ref jn, .ref br, .ref sh])), (nw, .inr (3, [.int 0, .int 0, .ref nw_slopes, .ref nw_wets, .ref nw_limits, .ref nw_platforms, .ref nw_kinds, .ref nw_trains, .ref nw_coaches])), (nw_platforms, .inr (6, [.int 6, .int 2, .ref nw_platforms_c, .int 0])), (nw_kinds, .inr (6, [.int 4, .int 5, .ref nw_kinds_c, .int 0])), (nw_trains, .inr (6, [.int 5, .int 3, .ref nw_trains_c, .int 0])), (nw_coaches, .inr (6, [.int 16, .int 5, .ref nw_coaches_c, .int 0]))]) (vp_Si (fun (r : Int32) => (r = (-2)))) 0 0 (fun _ => False) := by
  refine Met.ofW (cc := cX10_clear) (maxL := 2) (ret := (some .int)) (by decide) rfl ?_
  intro p e s m args below meth c s₁ B hml hv
  obtain ⟨rfl, hP, hKG⟩ := hv
  obtain ⟨hK, hAO⟩ := id hKG
  have hx := B.exec
  have hb := B.bytes
  have hr := B.returns
  have hts := atoms_spec (ws := wgX10_clear) B.pre
  have hw : ∀ w ∈ wG, w.before _ s = true := fun w h => hts w (List.mem_cons_of_mem _ h)
  have hown : s.vm.findClass RX10 = some m.cls := findClass_of_methodNamed B.named
  have hlocks := B.notSynchronized
  have hl := lv_entry ([.ref x0, .int p0]) (n := 2) (Nat.le_of_ble_eq_true rfl)
  rw [lg_entry_eq]
  generalize (lg_sl ([.ref x0, .int p0]) ++ List.replicate (2 - (lg_sl ([.ref x0, .int p0])).length) Slot.unset).toArray = ls at hl ⊢
  have hl : lv_has ls 2 [(0, .ref x0), (1, .int p0)] := hl
  refine lv_aload_n hx hb dX10_clear_0 rfl (lv_at hl 0 rfl) ?_
  refine va_get (D := G.1) (ci := 10) (v := .ref nw) (C := RX10) (T := TX10) (N := 15) hx hb hw inGX10 hown hK hP 0 rfl rfl 3 (by decide) (hw _ kw_2) (fun _ h9 => h9) rfl dX10_clear_1 ?_
  refine va_get (D := G.1) (ci := 3) (v := .ref nw_coaches) (C := RX3) (T := TX3) (N := 9) hx hb hw inGX3 hown hK hP 1 rfl rfl 8 (by decide) (hw _ kw_27) (fun _ h9 => h9) rfl dX10_clear_4 ?_
  refine lv_iload_n hx hb dX10_clear_7 rfl (lv_at hl 1 rfl) ?_
  refine vp_callSi (va_Run.run (va_runV (As := [.int p0]) (rest := []) ⟨hx, hb, hml, hown, hw⟩ (c_has0 l G nw_coaches 16 5 nw_coaches_c p0) (cwV 1 hw (gdV kw_11 kw_12 kw_13 kw_14 kw_10) rfl rfl rfl ⟨rfl, hdX6_has⟩ ⟨(Nat.le_of_ble_eq_true rfl), (Nat.le_of_ble_eq_true rfl)⟩) (preS_V (wc := [(nw_coaches, .inr (6, [.int 16, .int 5, .ref nw_coaches_c, .int 0]))]) (ci := 6) hKG hP [5] rfl rfl rfl) rfl rfl hl.1 rfl (lv_room (Nat.le_of_ble_eq_true rfl)) dX10_clear_8 ⟨(Nat.le_of_ble_eq_true rfl), (Nat.le_of_ble_eq_true rfl)⟩)) (fun r1 hr1 => ?_)
  subst hr1
  refine lv_if_ne (tgt := 17) hx hb dX10_clear_11 (by decide) (fun c2 => absurd (by decide) c2) (fun c2 => ?_)
  refine lv_bipush (v := (-2)) hx hb dX10_clear_14 (by decide) ?_
  exact W.iret (v := (-2)) hx hb hr (fun t ht hW => ⟨(-2), rfl, rfl, ht⟩) (fun _ h => absurd h List.not_mem_nil) dX10_clear_16
set_option maxHeartbeats 4000000 in
set_option maxRecDepth 100000 in
theorem c_X10_breach (l : Launch) (G : KG) (x0 : Nat) (tp : Nat) (rd : Nat) (nw : Nat) (sp : Nat) (im : Nat) (ir : Nat) (kp : Nat) (sl : Nat) (tk : Nat) (hn : Nat) (rc : Nat) (jn : Nat) (br : Nat) (sh : Nat) (nw_slopes : Nat) (nw_wets : Nat) (nw_limits : Nat) (nw_platforms : Nat) (nw_kinds : Nat) (nw_trains : Nat) (nw_coaches : Nat) (nw_platforms_c : Nat) (nw_kinds_c : Nat) (nw_trains_c : Nat) (nw_coaches_c : Nat) (p0 : Int32) : Met l yX10_breach wgX10_breach ({ frames := 1, cells := 0, slots := 0, locals := 20 }) (preS G [.ref x0, .int p0] [(x0, .inr (10, [.ref tp, .int 0, .ref rd, .ref nw, .ref sp, .ref im, .ref ir, .ref kp, .ref sl, .ref tk, .ref hn, .ref rc, .ref jn, .ref br, .ref sh])), (nw, .inr (3, [.int 0, .int 0, .ref nw_slopes, .ref nw_wets, .ref nw_limits, .ref nw_platforms, .ref nw_kinds, .ref nw_trains, .ref nw_coaches])), (nw_platforms, .inr (6, [.int 6, .int 2, .ref nw_platforms_c, .int 0])), (nw_kinds, .inr (6, [.int 4, .int 5, .ref nw_kinds_c, .int 0])), (nw_trains, .inr (6, [.int 5, .int 3, .ref nw_trains_c, .int 0])), (nw_coaches, .inr (6, [.int 16, .int 5, .ref nw_coaches_c, .int 0]))]) (vp_Si (fun (r : Int32) => (r = (-2)))) 0 0 (fun _ => False) := by
  refine Met.ofW (cc := cX10_breach) (maxL := 2) (ret := (some .int)) (by decide) rfl ?_
  intro p e s m args below meth c s₁ B hml hv
  obtain ⟨rfl, hP, hKG⟩ := hv
  obtain ⟨hK, hAO⟩ := id hKG
  have hx := B.exec
  have hb := B.bytes
  have hr := B.returns
  have hts := atoms_spec (ws := wgX10_breach) B.pre
  have hw : ∀ w ∈ wG, w.before _ s = true := fun w h => hts w (List.mem_cons_of_mem _ h)
  have hown : s.vm.findClass RX10 = some m.cls := findClass_of_methodNamed B.named
  have hlocks := B.notSynchronized
  have hl := lv_entry ([.ref x0, .int p0]) (n := 2) (Nat.le_of_ble_eq_true rfl)
  rw [lg_entry_eq]
  generalize (lg_sl ([.ref x0, .int p0]) ++ List.replicate (2 - (lg_sl ([.ref x0, .int p0])).length) Slot.unset).toArray = ls at hl ⊢
  have hl : lv_has ls 2 [(0, .ref x0), (1, .int p0)] := hl
  refine lv_aload_n hx hb dX10_breach_0 rfl (lv_at hl 0 rfl) ?_
  refine vp_callSi (va_Run.run (va_runV (As := []) (rest := []) ⟨hx, hb, hml, hown, hw⟩ (c_X10_hasLine l G x0 tp rd nw sp im ir kp sl tk hn rc jn br sh nw_slopes nw_wets nw_limits nw_platforms nw_kinds nw_trains nw_coaches) (cwV 0 hw (gdV kw_5 kw_6 kw_7 kw_8 kw_4) rfl rfl rfl ⟨rfl, hdX10_hasLine⟩ ⟨(Nat.le_of_ble_eq_true rfl), (Nat.le_of_ble_eq_true rfl)⟩) (preS_V (wc := [(x0, .inr (10, [.ref tp, .int 0, .ref rd, .ref nw, .ref sp, .ref im, .ref ir, .ref kp, .ref sl, .ref tk, .ref hn, .ref rc, .ref jn, .ref br, .ref sh])), (nw, .inr (3, [.int 0, .int 0, .ref nw_slopes, .ref nw_wets, .ref nw_limits, .ref nw_platforms, .ref nw_kinds, .ref nw_trains, .ref nw_coaches]))]) (ci := 10) hKG hP [0, 1] rfl rfl rfl) rfl rfl hl.1 rfl (lv_room (Nat.le_of_ble_eq_true rfl)) dX10_breach_1 ⟨(Nat.le_of_ble_eq_true rfl), (Nat.le_of_ble_eq_true rfl)⟩)) (fun r1 hr1 => ?_)
  subst hr1
  refine lv_if_eq (tgt := 16) hx hb dX10_breach_4 (by decide) (fun c2 => ?_) (fun c2 => absurd (by decide) c2)
  refine lv_bipush (v := (-2)) hx hb dX10_breach_16 (by decide) ?_
  exact W.iret (v := (-2)) hx hb hr (fun t ht hW => ⟨(-2), rfl, rfl, ht⟩) (fun _ h => absurd h List.not_mem_nil) dX10_breach_18
set_option maxHeartbeats 4000000 in
set_option maxRecDepth 100000 in
theorem c_X10_mistake (l : Launch) (G : KG) (x0 : Nat) (tp : Nat) (rd : Nat) (nw : Nat) (sp : Nat) (im : Nat) (ir : Nat) (kp : Nat) (sl : Nat) (tk : Nat) (hn : Nat) (rc : Nat) (jn : Nat) (br : Nat) (sh : Nat) (nw_slopes : Nat) (nw_wets : Nat) (nw_limits : Nat) (nw_platforms : Nat) (nw_kinds : Nat) (nw_trains : Nat) (nw_coaches : Nat) (nw_platforms_c : Nat) (nw_kinds_c : Nat) (nw_trains_c : Nat) (nw_coaches_c : Nat) (p0 : Int32) (p1 : Int32) : Met l yX10_mistake wgX10_mistake ({ frames := 1, cells := 0, slots := 0, locals := 20 }) (preS G [.ref x0, .int p0, .int p1] [(x0, .inr (10, [.ref tp, .int 0, .ref rd, .ref nw, .ref sp, .ref im, .ref ir, .ref kp, .ref sl, .ref tk, .ref hn, .ref rc, .ref jn, .ref br, .ref sh])), (nw, .inr (3, [.int 0, .int 0, .ref nw_slopes, .ref nw_wets, .ref nw_limits, .ref nw_platforms, .ref nw_kinds, .ref nw_trains, .ref nw_coaches])), (nw_platforms, .inr (6, [.int 6, .int 2, .ref nw_platforms_c, .int 0])), (nw_kinds, .inr (6, [.int 4, .int 5, .ref nw_kinds_c, .int 0])), (nw_trains, .inr (6, [.int 5, .int 3, .ref nw_trains_c, .int 0])), (nw_coaches, .inr (6, [.int 16, .int 5, .ref nw_coaches_c, .int 0]))]) (vp_Si (fun (r : Int32) => (r = (-2)))) 0 0 (fun _ => False) := by
  refine Met.ofW (cc := cX10_mistake) (maxL := 4) (ret := (some .int)) (by decide) rfl ?_
  intro p e s m args below meth c s₁ B hml hv
  obtain ⟨rfl, hP, hKG⟩ := hv
  obtain ⟨hK, hAO⟩ := id hKG
  have hx := B.exec
  have hb := B.bytes
  have hr := B.returns
  have hts := atoms_spec (ws := wgX10_mistake) B.pre
  have hw : ∀ w ∈ wG, w.before _ s = true := fun w h => hts w (List.mem_cons_of_mem _ h)
  have hown : s.vm.findClass RX10 = some m.cls := findClass_of_methodNamed B.named
  have hlocks := B.notSynchronized
  have hl := lv_entry ([.ref x0, .int p0, .int p1]) (n := 4) (Nat.le_of_ble_eq_true rfl)
  rw [lg_entry_eq]
  generalize (lg_sl ([.ref x0, .int p0, .int p1]) ++ List.replicate (4 - (lg_sl ([.ref x0, .int p0, .int p1])).length) Slot.unset).toArray = ls at hl ⊢
  have hl : lv_has ls 4 [(0, .ref x0), (1, .int p0), (2, .int p1)] := hl
  refine lv_aload_n hx hb dX10_mistake_0 rfl (lv_at hl 0 rfl) ?_
  refine vp_callSi (va_Run.run (va_runV (As := []) (rest := []) ⟨hx, hb, hml, hown, hw⟩ (c_X10_hasLine l G x0 tp rd nw sp im ir kp sl tk hn rc jn br sh nw_slopes nw_wets nw_limits nw_platforms nw_kinds nw_trains nw_coaches) (cwV 0 hw (gdV kw_5 kw_6 kw_7 kw_8 kw_4) rfl rfl rfl ⟨rfl, hdX10_hasLine⟩ ⟨(Nat.le_of_ble_eq_true rfl), (Nat.le_of_ble_eq_true rfl)⟩) (preS_V (wc := [(x0, .inr (10, [.ref tp, .int 0, .ref rd, .ref nw, .ref sp, .ref im, .ref ir, .ref kp, .ref sl, .ref tk, .ref hn, .ref rc, .ref jn, .ref br, .ref sh])), (nw, .inr (3, [.int 0, .int 0, .ref nw_slopes, .ref nw_wets, .ref nw_limits, .ref nw_platforms, .ref nw_kinds, .ref nw_trains, .ref nw_coaches]))]) (ci := 10) hKG hP [0, 1] rfl rfl rfl) rfl rfl hl.1 rfl (lv_room (Nat.le_of_ble_eq_true rfl)) dX10_mistake_1 ⟨(Nat.le_of_ble_eq_true rfl), (Nat.le_of_ble_eq_true rfl)⟩)) (fun r1 hr1 => ?_)
  subst hr1
  refine lv_if_eq (tgt := 26) hx hb dX10_mistake_4 (by decide) (fun c2 => ?_) (fun c2 => absurd (by decide) c2)
  refine lv_bipush (v := (-2)) hx hb dX10_mistake_26 (by decide) ?_
  exact W.iret (v := (-2)) hx hb hr (fun t ht hW => ⟨(-2), rfl, rfl, ht⟩) (fun _ h => absurd h List.not_mem_nil) dX10_mistake_28
set_option maxHeartbeats 4000000 in
set_option maxRecDepth 100000 in
theorem c_X10_weak (l : Launch) (G : KG) (x0 : Nat) (tp : Nat) (rd : Nat) (nw : Nat) (sp : Nat) (im : Nat) (ir : Nat) (kp : Nat) (sl : Nat) (tk : Nat) (hn : Nat) (rc : Nat) (jn : Nat) (br : Nat) (sh : Nat) (nw_slopes : Nat) (nw_wets : Nat) (nw_limits : Nat) (nw_platforms : Nat) (nw_kinds : Nat) (nw_trains : Nat) (nw_coaches : Nat) (nw_platforms_c : Nat) (nw_kinds_c : Nat) (nw_trains_c : Nat) (nw_coaches_c : Nat) (p0 : Int32) : Met l yX10_weak wgX10_weak ({ frames := 1, cells := 0, slots := 0, locals := 20 }) (preS G [.ref x0, .int p0] [(x0, .inr (10, [.ref tp, .int 0, .ref rd, .ref nw, .ref sp, .ref im, .ref ir, .ref kp, .ref sl, .ref tk, .ref hn, .ref rc, .ref jn, .ref br, .ref sh])), (nw, .inr (3, [.int 0, .int 0, .ref nw_slopes, .ref nw_wets, .ref nw_limits, .ref nw_platforms, .ref nw_kinds, .ref nw_trains, .ref nw_coaches])), (nw_platforms, .inr (6, [.int 6, .int 2, .ref nw_platforms_c, .int 0])), (nw_kinds, .inr (6, [.int 4, .int 5, .ref nw_kinds_c, .int 0])), (nw_trains, .inr (6, [.int 5, .int 3, .ref nw_trains_c, .int 0])), (nw_coaches, .inr (6, [.int 16, .int 5, .ref nw_coaches_c, .int 0]))]) (vp_Si (fun (r : Int32) => (r = (-2)))) 0 0 (fun _ => False) := by
  refine Met.ofW (cc := cX10_weak) (maxL := 5) (ret := (some .int)) (by decide) rfl ?_
  intro p e s m args below meth c s₁ B hml hv
  obtain ⟨rfl, hP, hKG⟩ := hv
  obtain ⟨hK, hAO⟩ := id hKG
  have hx := B.exec
  have hb := B.bytes
  have hr := B.returns
  have hts := atoms_spec (ws := wgX10_weak) B.pre
  have hw : ∀ w ∈ wG, w.before _ s = true := fun w h => hts w (List.mem_cons_of_mem _ h)
  have hown : s.vm.findClass RX10 = some m.cls := findClass_of_methodNamed B.named
  have hlocks := B.notSynchronized
  have hl := lv_entry ([.ref x0, .int p0]) (n := 5) (Nat.le_of_ble_eq_true rfl)
  rw [lg_entry_eq]
  generalize (lg_sl ([.ref x0, .int p0]) ++ List.replicate (5 - (lg_sl ([.ref x0, .int p0])).length) Slot.unset).toArray = ls at hl ⊢
  have hl : lv_has ls 5 [(0, .ref x0), (1, .int p0)] := hl
  refine lv_aload_n hx hb dX10_weak_0 rfl (lv_at hl 0 rfl) ?_
  refine vp_callSi (va_Run.run (va_runV (As := []) (rest := []) ⟨hx, hb, hml, hown, hw⟩ (c_X10_hasLine l G x0 tp rd nw sp im ir kp sl tk hn rc jn br sh nw_slopes nw_wets nw_limits nw_platforms nw_kinds nw_trains nw_coaches) (cwV 0 hw (gdV kw_5 kw_6 kw_7 kw_8 kw_4) rfl rfl rfl ⟨rfl, hdX10_hasLine⟩ ⟨(Nat.le_of_ble_eq_true rfl), (Nat.le_of_ble_eq_true rfl)⟩) (preS_V (wc := [(x0, .inr (10, [.ref tp, .int 0, .ref rd, .ref nw, .ref sp, .ref im, .ref ir, .ref kp, .ref sl, .ref tk, .ref hn, .ref rc, .ref jn, .ref br, .ref sh])), (nw, .inr (3, [.int 0, .int 0, .ref nw_slopes, .ref nw_wets, .ref nw_limits, .ref nw_platforms, .ref nw_kinds, .ref nw_trains, .ref nw_coaches]))]) (ci := 10) hKG hP [0, 1] rfl rfl rfl) rfl rfl hl.1 rfl (lv_room (Nat.le_of_ble_eq_true rfl)) dX10_weak_1 ⟨(Nat.le_of_ble_eq_true rfl), (Nat.le_of_ble_eq_true rfl)⟩)) (fun r1 hr1 => ?_)
  subst hr1
  refine lv_if_eq (tgt := 17) hx hb dX10_weak_4 (by decide) (fun c2 => ?_) (fun c2 => absurd (by decide) c2)
  refine lv_bipush (v := (-2)) hx hb dX10_weak_17 (by decide) ?_
  exact W.iret (v := (-2)) hx hb hr (fun t ht hW => ⟨(-2), rfl, rfl, ht⟩) (fun _ h => absurd h List.not_mem_nil) dX10_weak_19
set_option maxHeartbeats 4000000 in
set_option maxRecDepth 100000 in
theorem c_X10_start (l : Launch) (G : KG) (x0 : Nat) (tp : Nat) (rd : Nat) (nw : Nat) (sp : Nat) (im : Nat) (ir : Nat) (kp : Nat) (sl : Nat) (tk : Nat) (hn : Nat) (rc : Nat) (jn : Nat) (br : Nat) (sh : Nat) (nw_slopes : Nat) (nw_wets : Nat) (nw_limits : Nat) (nw_platforms : Nat) (nw_kinds : Nat) (nw_trains : Nat) (nw_coaches : Nat) (nw_platforms_c : Nat) (nw_kinds_c : Nat) (nw_trains_c : Nat) (nw_coaches_c : Nat) (p0 : Int32) : Met l yX10_start wgX10_start ({ frames := 1, cells := 0, slots := 0, locals := 21 }) (preS G [.ref x0, .int p0] [(x0, .inr (10, [.ref tp, .int 0, .ref rd, .ref nw, .ref sp, .ref im, .ref ir, .ref kp, .ref sl, .ref tk, .ref hn, .ref rc, .ref jn, .ref br, .ref sh])), (nw, .inr (3, [.int 0, .int 0, .ref nw_slopes, .ref nw_wets, .ref nw_limits, .ref nw_platforms, .ref nw_kinds, .ref nw_trains, .ref nw_coaches])), (nw_platforms, .inr (6, [.int 6, .int 2, .ref nw_platforms_c, .int 0])), (nw_kinds, .inr (6, [.int 4, .int 5, .ref nw_kinds_c, .int 0])), (nw_trains, .inr (6, [.int 5, .int 3, .ref nw_trains_c, .int 0])), (nw_coaches, .inr (6, [.int 16, .int 5, .ref nw_coaches_c, .int 0]))]) (vp_Si (fun (r : Int32) => (r = (-2)))) 0 0 (fun _ => False) := by
  refine Met.ofW (cc := cX10_start) (maxL := 6) (ret := (some .int)) (by decide) rfl ?_
  intro p e s m args below meth c s₁ B hml hv
  obtain ⟨rfl, hP, hKG⟩ := hv
  obtain ⟨hK, hAO⟩ := id hKG
  have hx := B.exec
  have hb := B.bytes
  have hr := B.returns
  have hts := atoms_spec (ws := wgX10_start) B.pre
  have hw : ∀ w ∈ wG, w.before _ s = true := fun w h => hts w (List.mem_cons_of_mem _ h)
  have hown : s.vm.findClass RX10 = some m.cls := findClass_of_methodNamed B.named
  have hlocks := B.notSynchronized
  have hl := lv_entry ([.ref x0, .int p0]) (n := 6) (Nat.le_of_ble_eq_true rfl)
  rw [lg_entry_eq]
  generalize (lg_sl ([.ref x0, .int p0]) ++ List.replicate (6 - (lg_sl ([.ref x0, .int p0])).length) Slot.unset).toArray = ls at hl ⊢
  have hl : lv_has ls 6 [(0, .ref x0), (1, .int p0)] := hl
  refine lv_aload_n hx hb dX10_start_0 rfl (lv_at hl 0 rfl) ?_
  refine va_get (D := G.1) (ci := 10) (v := .ref nw) (C := RX10) (T := TX10) (N := 15) hx hb hw inGX10 hown hK hP 0 rfl rfl 3 (by decide) (hw _ kw_2) (fun _ h9 => h9) rfl dX10_start_1 ?_
  refine va_get (D := G.1) (ci := 3) (v := .ref nw_trains) (C := RX3) (T := TX3) (N := 9) hx hb hw inGX3 hown hK hP 1 rfl rfl 7 (by decide) (hw _ kw_28) (fun _ h9 => h9) rfl dX10_start_4 ?_
  refine lv_iload_n hx hb dX10_start_7 rfl (lv_at hl 1 rfl) ?_
  refine vp_callSi (va_Run.run (va_runV (As := [.int p0]) (rest := []) ⟨hx, hb, hml, hown, hw⟩ (c_has0 l G nw_trains 5 3 nw_trains_c p0) (cwV 1 hw (gdV kw_11 kw_12 kw_13 kw_14 kw_10) rfl rfl rfl ⟨rfl, hdX6_has⟩ ⟨(Nat.le_of_ble_eq_true rfl), (Nat.le_of_ble_eq_true rfl)⟩) (preS_V (wc := [(nw_trains, .inr (6, [.int 5, .int 3, .ref nw_trains_c, .int 0]))]) (ci := 6) hKG hP [4] rfl rfl rfl) rfl rfl hl.1 rfl (lv_room (Nat.le_of_ble_eq_true rfl)) dX10_start_8 ⟨(Nat.le_of_ble_eq_true rfl), (Nat.le_of_ble_eq_true rfl)⟩)) (fun r1 hr1 => ?_)
  subst hr1
  refine lv_if_ne (tgt := 17) hx hb dX10_start_11 (by decide) (fun c2 => absurd (by decide) c2) (fun c2 => ?_)
  refine lv_bipush (v := (-2)) hx hb dX10_start_14 (by decide) ?_
  exact W.iret (v := (-2)) hx hb hr (fun t ht hW => ⟨(-2), rfl, rfl, ht⟩) (fun _ h => absurd h List.not_mem_nil) dX10_start_16
set_option maxHeartbeats 4000000 in
set_option maxRecDepth 100000 in
theorem c_X10_days (l : Launch) (G : KG) (x0 : Nat) (tp : Nat) (rd : Nat) (nw : Nat) (sp : Nat) (im : Nat) (ir : Nat) (kp : Nat) (sl : Nat) (tk : Nat) (hn : Nat) (rc : Nat) (jn : Nat) (br : Nat) (sh : Nat) (nw_slopes : Nat) (nw_wets : Nat) (nw_limits : Nat) (nw_platforms : Nat) (nw_kinds : Nat) (nw_trains : Nat) (nw_coaches : Nat) (nw_platforms_c : Nat) (nw_kinds_c : Nat) (nw_trains_c : Nat) (nw_coaches_c : Nat) (p0 : Int32) (p1 : Int32) (p2 : Int32) (p3 : Int32) : Met l yX10_days wgX10_days ({ frames := 2, cells := 0, slots := 0, locals := 43 }) (preS G [.ref x0, .int p0, .int p1, .int p2, .int p3] [(x0, .inr (10, [.ref tp, .int 0, .ref rd, .ref nw, .ref sp, .ref im, .ref ir, .ref kp, .ref sl, .ref tk, .ref hn, .ref rc, .ref jn, .ref br, .ref sh])), (nw, .inr (3, [.int 0, .int 0, .ref nw_slopes, .ref nw_wets, .ref nw_limits, .ref nw_platforms, .ref nw_kinds, .ref nw_trains, .ref nw_coaches])), (nw_platforms, .inr (6, [.int 6, .int 2, .ref nw_platforms_c, .int 0])), (nw_kinds, .inr (6, [.int 4, .int 5, .ref nw_kinds_c, .int 0])), (nw_trains, .inr (6, [.int 5, .int 3, .ref nw_trains_c, .int 0])), (nw_coaches, .inr (6, [.int 16, .int 5, .ref nw_coaches_c, .int 0]))]) (vp_Si (fun (r : Int32) => (r = (-2)))) 0 0 (fun _ => False) := by
  refine Met.ofW (cc := cX10_days) (maxL := 7) (ret := (some .int)) (by decide) rfl ?_
  intro p e s m args below meth c s₁ B hml hv
  obtain ⟨rfl, hP, hKG⟩ := hv
  obtain ⟨hK, hAO⟩ := id hKG
  have hx := B.exec
  have hb := B.bytes
  have hr := B.returns
  have hts := atoms_spec (ws := wgX10_days) B.pre
  have hw : ∀ w ∈ wG, w.before _ s = true := fun w h => hts w (List.mem_cons_of_mem _ h)
  have hown : s.vm.findClass RX10 = some m.cls := findClass_of_methodNamed B.named
  have hlocks := B.notSynchronized
  have hl := lv_entry ([.ref x0, .int p0, .int p1, .int p2, .int p3]) (n := 7) (Nat.le_of_ble_eq_true rfl)
  rw [lg_entry_eq]
  generalize (lg_sl ([.ref x0, .int p0, .int p1, .int p2, .int p3]) ++ List.replicate (7 - (lg_sl ([.ref x0, .int p0, .int p1, .int p2, .int p3])).length) Slot.unset).toArray = ls at hl ⊢
  have hl : lv_has ls 7 [(0, .ref x0), (1, .int p0), (2, .int p1), (3, .int p2), (4, .int p3)] := hl
  refine lv_aload_n hx hb dX10_days_0 rfl (lv_at hl 0 rfl) ?_
  refine lv_iload_n hx hb dX10_days_1 rfl (lv_at hl 1 rfl) ?_
  refine lv_iload_n hx hb dX10_days_2 rfl (lv_at hl 3 rfl) ?_
  refine lv_iload hx hb dX10_days_3 (lv_at hl 4 rfl) ?_
  refine vp_callSi (va_Run.run (va_runV (As := [.int p0, .int p2, .int p3]) (rest := []) ⟨hx, hb, hml, hown, hw⟩ (c_X10_hasDay l G x0 tp rd nw sp im ir kp sl tk hn rc jn br sh nw_slopes nw_wets nw_limits nw_platforms nw_kinds nw_trains nw_coaches p0 p2 p3) (cwV 3 hw (gdV kw_41 kw_42 kw_43 kw_8 kw_40) rfl rfl rfl ⟨rfl, hdX10_hasDay⟩ ⟨(Nat.le_of_ble_eq_true rfl), (Nat.le_of_ble_eq_true rfl)⟩) (preS_V (wc := [(x0, .inr (10, [.ref tp, .int 0, .ref rd, .ref nw, .ref sp, .ref im, .ref ir, .ref kp, .ref sl, .ref tk, .ref hn, .ref rc, .ref jn, .ref br, .ref sh])), (nw, .inr (3, [.int 0, .int 0, .ref nw_slopes, .ref nw_wets, .ref nw_limits, .ref nw_platforms, .ref nw_kinds, .ref nw_trains, .ref nw_coaches]))]) (ci := 10) hKG hP [0, 1] rfl rfl rfl) rfl rfl hl.1 rfl (lv_room (Nat.le_of_ble_eq_true rfl)) dX10_days_5 ⟨(Nat.le_of_ble_eq_true rfl), (Nat.le_of_ble_eq_true rfl)⟩)) (fun r1 hr1 => ?_)
  subst hr1
  refine lv_if_eq (tgt := 21) hx hb dX10_days_8 (by decide) (fun c2 => ?_) (fun c2 => absurd (by decide) c2)
  refine lv_bipush (v := (-2)) hx hb dX10_days_21 (by decide) ?_
  exact W.iret (v := (-2)) hx hb hr (fun t ht hW => ⟨(-2), rfl, rfl, ht⟩) (fun _ h => absurd h List.not_mem_nil) dX10_days_23
set_option maxHeartbeats 4000000 in
set_option maxRecDepth 100000 in
theorem c_X10_day (l : Launch) (G : KG) (x0 : Nat) (tp : Nat) (rd : Nat) (nw : Nat) (sp : Nat) (im : Nat) (ir : Nat) (kp : Nat) (sl : Nat) (tk : Nat) (hn : Nat) (rc : Nat) (jn : Nat) (br : Nat) (sh : Nat) (nw_slopes : Nat) (nw_wets : Nat) (nw_limits : Nat) (nw_platforms : Nat) (nw_kinds : Nat) (nw_trains : Nat) (nw_coaches : Nat) (nw_platforms_c : Nat) (nw_kinds_c : Nat) (nw_trains_c : Nat) (nw_coaches_c : Nat) (p0 : Int32) (p1 : Int32) (p2 : Int32) : Met l yX10_day wgX10_day ({ frames := 2, cells := 0, slots := 0, locals := 43 }) (preS G [.ref x0, .int p0, .int p1, .int p2] [(x0, .inr (10, [.ref tp, .int 0, .ref rd, .ref nw, .ref sp, .ref im, .ref ir, .ref kp, .ref sl, .ref tk, .ref hn, .ref rc, .ref jn, .ref br, .ref sh])), (nw, .inr (3, [.int 0, .int 0, .ref nw_slopes, .ref nw_wets, .ref nw_limits, .ref nw_platforms, .ref nw_kinds, .ref nw_trains, .ref nw_coaches])), (nw_platforms, .inr (6, [.int 6, .int 2, .ref nw_platforms_c, .int 0])), (nw_kinds, .inr (6, [.int 4, .int 5, .ref nw_kinds_c, .int 0])), (nw_trains, .inr (6, [.int 5, .int 3, .ref nw_trains_c, .int 0])), (nw_coaches, .inr (6, [.int 16, .int 5, .ref nw_coaches_c, .int 0]))]) (vp_Si (fun (r : Int32) => (r = (-2)))) 0 0 (fun _ => False) := by
  refine Met.ofW (cc := cX10_day) (maxL := 4) (ret := (some .int)) (by decide) rfl ?_
  intro p e s m args below meth c s₁ B hml hv
  obtain ⟨rfl, hP, hKG⟩ := hv
  obtain ⟨hK, hAO⟩ := id hKG
  have hx := B.exec
  have hb := B.bytes
  have hr := B.returns
  have hts := atoms_spec (ws := wgX10_day) B.pre
  have hw : ∀ w ∈ wG, w.before _ s = true := fun w h => hts w (List.mem_cons_of_mem _ h)
  have hown : s.vm.findClass RX10 = some m.cls := findClass_of_methodNamed B.named
  have hlocks := B.notSynchronized
  have hl := lv_entry ([.ref x0, .int p0, .int p1, .int p2]) (n := 4) (Nat.le_of_ble_eq_true rfl)
  rw [lg_entry_eq]
  generalize (lg_sl ([.ref x0, .int p0, .int p1, .int p2]) ++ List.replicate (4 - (lg_sl ([.ref x0, .int p0, .int p1, .int p2])).length) Slot.unset).toArray = ls at hl ⊢
  have hl : lv_has ls 4 [(0, .ref x0), (1, .int p0), (2, .int p1), (3, .int p2)] := hl
  refine lv_aload_n hx hb dX10_day_0 rfl (lv_at hl 0 rfl) ?_
  refine lv_iload_n hx hb dX10_day_1 rfl (lv_at hl 1 rfl) ?_
  refine lv_iload_n hx hb dX10_day_2 rfl (lv_at hl 2 rfl) ?_
  refine lv_iload_n hx hb dX10_day_3 rfl (lv_at hl 3 rfl) ?_
  refine vp_callSi (va_Run.run (va_runV (As := [.int p0, .int p1, .int p2]) (rest := []) ⟨hx, hb, hml, hown, hw⟩ (c_X10_hasDay l G x0 tp rd nw sp im ir kp sl tk hn rc jn br sh nw_slopes nw_wets nw_limits nw_platforms nw_kinds nw_trains nw_coaches p0 p1 p2) (cwV 3 hw (gdV kw_41 kw_42 kw_43 kw_8 kw_40) rfl rfl rfl ⟨rfl, hdX10_hasDay⟩ ⟨(Nat.le_of_ble_eq_true rfl), (Nat.le_of_ble_eq_true rfl)⟩) (preS_V (wc := [(x0, .inr (10, [.ref tp, .int 0, .ref rd, .ref nw, .ref sp, .ref im, .ref ir, .ref kp, .ref sl, .ref tk, .ref hn, .ref rc, .ref jn, .ref br, .ref sh])), (nw, .inr (3, [.int 0, .int 0, .ref nw_slopes, .ref nw_wets, .ref nw_limits, .ref nw_platforms, .ref nw_kinds, .ref nw_trains, .ref nw_coaches]))]) (ci := 10) hKG hP [0, 1] rfl rfl rfl) rfl rfl hl.1 rfl (lv_room (Nat.le_of_ble_eq_true rfl)) dX10_day_4 ⟨(Nat.le_of_ble_eq_true rfl), (Nat.le_of_ble_eq_true rfl)⟩)) (fun r1 hr1 => ?_)
  subst hr1
  refine lv_if_ne (tgt := 13) hx hb dX10_day_7 (by decide) (fun c2 => absurd (by decide) c2) (fun c2 => ?_)
  refine lv_bipush (v := (-2)) hx hb dX10_day_10 (by decide) ?_
  exact W.iret (v := (-2)) hx hb hr (fun t ht hW => ⟨(-2), rfl, rfl, ht⟩) (fun _ h => absurd h List.not_mem_nil) dX10_day_12
set_option maxHeartbeats 4000000 in
set_option maxRecDepth 100000 in
theorem c_X10_shunts (l : Launch) (G : KG) (x0 : Nat) (tp : Nat) (rd : Nat) (nw : Nat) (sp : Nat) (im : Nat) (ir : Nat) (kp : Nat) (sl : Nat) (tk : Nat) (hn : Nat) (rc : Nat) (jn : Nat) (br : Nat) (sh : Nat) (nw_slopes : Nat) (nw_wets : Nat) (nw_limits : Nat) (nw_platforms : Nat) (nw_kinds : Nat) (nw_trains : Nat) (nw_coaches : Nat) (nw_platforms_c : Nat) (nw_kinds_c : Nat) (nw_trains_c : Nat) (nw_coaches_c : Nat) (p0 : Int32) (p1 : Int32) : Met l yX10_shunts wgX10_shunts ({ frames := 1, cells := 0, slots := 0, locals := 21 }) (preS G [.ref x0, .int p0, .int p1] [(x0, .inr (10, [.ref tp, .int 0, .ref rd, .ref nw, .ref sp, .ref im, .ref ir, .ref kp, .ref sl, .ref tk, .ref hn, .ref rc, .ref jn, .ref br, .ref sh])), (nw, .inr (3, [.int 0, .int 0, .ref nw_slopes, .ref nw_wets, .ref nw_limits, .ref nw_platforms, .ref nw_kinds, .ref nw_trains, .ref nw_coaches])), (nw_platforms, .inr (6, [.int 6, .int 2, .ref nw_platforms_c, .int 0])), (nw_kinds, .inr (6, [.int 4, .int 5, .ref nw_kinds_c, .int 0])), (nw_trains, .inr (6, [.int 5, .int 3, .ref nw_trains_c, .int 0])), (nw_coaches, .inr (6, [.int 16, .int 5, .ref nw_coaches_c, .int 0]))]) (vp_Si (fun (r : Int32) => (r = (-2)))) 0 0 (fun _ => False) := by
  refine Met.ofW (cc := cX10_shunts) (maxL := 4) (ret := (some .int)) (by decide) rfl ?_
  intro p e s m args below meth c s₁ B hml hv
  obtain ⟨rfl, hP, hKG⟩ := hv
  obtain ⟨hK, hAO⟩ := id hKG
  have hx := B.exec
  have hb := B.bytes
  have hr := B.returns
  have hts := atoms_spec (ws := wgX10_shunts) B.pre
  have hw : ∀ w ∈ wG, w.before _ s = true := fun w h => hts w (List.mem_cons_of_mem _ h)
  have hown : s.vm.findClass RX10 = some m.cls := findClass_of_methodNamed B.named
  have hlocks := B.notSynchronized
  have hl := lv_entry ([.ref x0, .int p0, .int p1]) (n := 4) (Nat.le_of_ble_eq_true rfl)
  rw [lg_entry_eq]
  generalize (lg_sl ([.ref x0, .int p0, .int p1]) ++ List.replicate (4 - (lg_sl ([.ref x0, .int p0, .int p1])).length) Slot.unset).toArray = ls at hl ⊢
  have hl : lv_has ls 4 [(0, .ref x0), (1, .int p0), (2, .int p1)] := hl
  refine lv_aload_n hx hb dX10_shunts_0 rfl (lv_at hl 0 rfl) ?_
  refine va_get (D := G.1) (ci := 10) (v := .ref nw) (C := RX10) (T := TX10) (N := 15) hx hb hw inGX10 hown hK hP 0 rfl rfl 3 (by decide) (hw _ kw_2) (fun _ h9 => h9) rfl dX10_shunts_1 ?_
  refine va_get (D := G.1) (ci := 3) (v := .ref nw_trains) (C := RX3) (T := TX3) (N := 9) hx hb hw inGX3 hown hK hP 1 rfl rfl 7 (by decide) (hw _ kw_28) (fun _ h9 => h9) rfl dX10_shunts_4 ?_
  refine lv_iload_n hx hb dX10_shunts_7 rfl (lv_at hl 1 rfl) ?_
  refine vp_callSi (va_Run.run (va_runV (As := [.int p0]) (rest := []) ⟨hx, hb, hml, hown, hw⟩ (c_has0 l G nw_trains 5 3 nw_trains_c p0) (cwV 1 hw (gdV kw_11 kw_12 kw_13 kw_14 kw_10) rfl rfl rfl ⟨rfl, hdX6_has⟩ ⟨(Nat.le_of_ble_eq_true rfl), (Nat.le_of_ble_eq_true rfl)⟩) (preS_V (wc := [(nw_trains, .inr (6, [.int 5, .int 3, .ref nw_trains_c, .int 0]))]) (ci := 6) hKG hP [4] rfl rfl rfl) rfl rfl hl.1 rfl (lv_room (Nat.le_of_ble_eq_true rfl)) dX10_shunts_8 ⟨(Nat.le_of_ble_eq_true rfl), (Nat.le_of_ble_eq_true rfl)⟩)) (fun r1 hr1 => ?_)
  subst hr1
  refine lv_if_eq (tgt := 23) hx hb dX10_shunts_11 (by decide) (fun c2 => ?_) (fun c2 => absurd (by decide) c2)
  refine lv_bipush (v := (-2)) hx hb dX10_shunts_23 (by decide) ?_
  exact W.iret (v := (-2)) hx hb hr (fun t ht hW => ⟨(-2), rfl, rfl, ht⟩) (fun _ h => absurd h List.not_mem_nil) dX10_shunts_25
set_option maxHeartbeats 4000000 in
set_option maxRecDepth 100000 in
theorem c_X10_order (l : Launch) (G : KG) (x0 : Nat) (tp : Nat) (rd : Nat) (nw : Nat) (sp : Nat) (im : Nat) (ir : Nat) (kp : Nat) (sl : Nat) (tk : Nat) (hn : Nat) (rc : Nat) (jn : Nat) (br : Nat) (sh : Nat) (nw_slopes : Nat) (nw_wets : Nat) (nw_limits : Nat) (nw_platforms : Nat) (nw_kinds : Nat) (nw_trains : Nat) (nw_coaches : Nat) (nw_platforms_c : Nat) (nw_kinds_c : Nat) (nw_trains_c : Nat) (nw_coaches_c : Nat) (p0 : Int32) (p1 : Int32) : Met l yX10_order wgX10_order ({ frames := 1, cells := 0, slots := 0, locals := 21 }) (preS G [.ref x0, .int p0, .int p1] [(x0, .inr (10, [.ref tp, .int 0, .ref rd, .ref nw, .ref sp, .ref im, .ref ir, .ref kp, .ref sl, .ref tk, .ref hn, .ref rc, .ref jn, .ref br, .ref sh])), (nw, .inr (3, [.int 0, .int 0, .ref nw_slopes, .ref nw_wets, .ref nw_limits, .ref nw_platforms, .ref nw_kinds, .ref nw_trains, .ref nw_coaches])), (nw_platforms, .inr (6, [.int 6, .int 2, .ref nw_platforms_c, .int 0])), (nw_kinds, .inr (6, [.int 4, .int 5, .ref nw_kinds_c, .int 0])), (nw_trains, .inr (6, [.int 5, .int 3, .ref nw_trains_c, .int 0])), (nw_coaches, .inr (6, [.int 16, .int 5, .ref nw_coaches_c, .int 0]))]) (vp_Si (fun (r : Int32) => (r = (-2)))) 0 0 (fun _ => False) := by
  refine Met.ofW (cc := cX10_order) (maxL := 4) (ret := (some .int)) (by decide) rfl ?_
  intro p e s m args below meth c s₁ B hml hv
  obtain ⟨rfl, hP, hKG⟩ := hv
  obtain ⟨hK, hAO⟩ := id hKG
  have hx := B.exec
  have hb := B.bytes
  have hr := B.returns
  have hts := atoms_spec (ws := wgX10_order) B.pre
  have hw : ∀ w ∈ wG, w.before _ s = true := fun w h => hts w (List.mem_cons_of_mem _ h)
  have hown : s.vm.findClass RX10 = some m.cls := findClass_of_methodNamed B.named
  have hlocks := B.notSynchronized
  have hl := lv_entry ([.ref x0, .int p0, .int p1]) (n := 4) (Nat.le_of_ble_eq_true rfl)
  rw [lg_entry_eq]
  generalize (lg_sl ([.ref x0, .int p0, .int p1]) ++ List.replicate (4 - (lg_sl ([.ref x0, .int p0, .int p1])).length) Slot.unset).toArray = ls at hl ⊢
  have hl : lv_has ls 4 [(0, .ref x0), (1, .int p0), (2, .int p1)] := hl
  refine lv_aload_n hx hb dX10_order_0 rfl (lv_at hl 0 rfl) ?_
  refine va_get (D := G.1) (ci := 10) (v := .ref nw) (C := RX10) (T := TX10) (N := 15) hx hb hw inGX10 hown hK hP 0 rfl rfl 3 (by decide) (hw _ kw_2) (fun _ h9 => h9) rfl dX10_order_1 ?_
  refine va_get (D := G.1) (ci := 3) (v := .ref nw_trains) (C := RX3) (T := TX3) (N := 9) hx hb hw inGX3 hown hK hP 1 rfl rfl 7 (by decide) (hw _ kw_28) (fun _ h9 => h9) rfl dX10_order_4 ?_
  refine lv_iload_n hx hb dX10_order_7 rfl (lv_at hl 1 rfl) ?_
  refine vp_callSi (va_Run.run (va_runV (As := [.int p0]) (rest := []) ⟨hx, hb, hml, hown, hw⟩ (c_has0 l G nw_trains 5 3 nw_trains_c p0) (cwV 1 hw (gdV kw_11 kw_12 kw_13 kw_14 kw_10) rfl rfl rfl ⟨rfl, hdX6_has⟩ ⟨(Nat.le_of_ble_eq_true rfl), (Nat.le_of_ble_eq_true rfl)⟩) (preS_V (wc := [(nw_trains, .inr (6, [.int 5, .int 3, .ref nw_trains_c, .int 0]))]) (ci := 6) hKG hP [4] rfl rfl rfl) rfl rfl hl.1 rfl (lv_room (Nat.le_of_ble_eq_true rfl)) dX10_order_8 ⟨(Nat.le_of_ble_eq_true rfl), (Nat.le_of_ble_eq_true rfl)⟩)) (fun r1 hr1 => ?_)
  subst hr1
  refine lv_if_ne (tgt := 17) hx hb dX10_order_11 (by decide) (fun c2 => absurd (by decide) c2) (fun c2 => ?_)
  refine lv_bipush (v := (-2)) hx hb dX10_order_14 (by decide) ?_
  exact W.iret (v := (-2)) hx hb hr (fun t ht hW => ⟨(-2), rfl, rfl, ht⟩) (fun _ h => absurd h List.not_mem_nil) dX10_order_16
set_option maxHeartbeats 4000000 in
set_option maxRecDepth 100000 in
theorem c_X10_blocked (l : Launch) (G : KG) (x0 : Nat) (tp : Nat) (rd : Nat) (nw : Nat) (sp : Nat) (im : Nat) (ir : Nat) (kp : Nat) (sl : Nat) (tk : Nat) (hn : Nat) (rc : Nat) (jn : Nat) (br : Nat) (sh : Nat) (nw_slopes : Nat) (nw_wets : Nat) (nw_limits : Nat) (nw_platforms : Nat) (nw_kinds : Nat) (nw_trains : Nat) (nw_coaches : Nat) (nw_platforms_c : Nat) (nw_kinds_c : Nat) (nw_trains_c : Nat) (nw_coaches_c : Nat) (p0 : Int32) : Met l yX10_blocked wgX10_blocked ({ frames := 1, cells := 0, slots := 0, locals := 21 }) (preS G [.ref x0, .int p0] [(x0, .inr (10, [.ref tp, .int 0, .ref rd, .ref nw, .ref sp, .ref im, .ref ir, .ref kp, .ref sl, .ref tk, .ref hn, .ref rc, .ref jn, .ref br, .ref sh])), (nw, .inr (3, [.int 0, .int 0, .ref nw_slopes, .ref nw_wets, .ref nw_limits, .ref nw_platforms, .ref nw_kinds, .ref nw_trains, .ref nw_coaches])), (nw_platforms, .inr (6, [.int 6, .int 2, .ref nw_platforms_c, .int 0])), (nw_kinds, .inr (6, [.int 4, .int 5, .ref nw_kinds_c, .int 0])), (nw_trains, .inr (6, [.int 5, .int 3, .ref nw_trains_c, .int 0])), (nw_coaches, .inr (6, [.int 16, .int 5, .ref nw_coaches_c, .int 0]))]) (vp_Si (fun (r : Int32) => (r = (-2)))) 0 0 (fun _ => False) := by
  refine Met.ofW (cc := cX10_blocked) (maxL := 6) (ret := (some .int)) (by decide) rfl ?_
  intro p e s m args below meth c s₁ B hml hv
  obtain ⟨rfl, hP, hKG⟩ := hv
  obtain ⟨hK, hAO⟩ := id hKG
  have hx := B.exec
  have hb := B.bytes
  have hr := B.returns
  have hts := atoms_spec (ws := wgX10_blocked) B.pre
  have hw : ∀ w ∈ wG, w.before _ s = true := fun w h => hts w (List.mem_cons_of_mem _ h)
  have hown : s.vm.findClass RX10 = some m.cls := findClass_of_methodNamed B.named
  have hlocks := B.notSynchronized
  have hl := lv_entry ([.ref x0, .int p0]) (n := 6) (Nat.le_of_ble_eq_true rfl)
  rw [lg_entry_eq]
  generalize (lg_sl ([.ref x0, .int p0]) ++ List.replicate (6 - (lg_sl ([.ref x0, .int p0])).length) Slot.unset).toArray = ls at hl ⊢
  have hl : lv_has ls 6 [(0, .ref x0), (1, .int p0)] := hl
  refine lv_aload_n hx hb dX10_blocked_0 rfl (lv_at hl 0 rfl) ?_
  refine va_get (D := G.1) (ci := 10) (v := .ref nw) (C := RX10) (T := TX10) (N := 15) hx hb hw inGX10 hown hK hP 0 rfl rfl 3 (by decide) (hw _ kw_2) (fun _ h9 => h9) rfl dX10_blocked_1 ?_
  refine va_get (D := G.1) (ci := 3) (v := .ref nw_trains) (C := RX3) (T := TX3) (N := 9) hx hb hw inGX3 hown hK hP 1 rfl rfl 7 (by decide) (hw _ kw_28) (fun _ h9 => h9) rfl dX10_blocked_4 ?_
  refine lv_iload_n hx hb dX10_blocked_7 rfl (lv_at hl 1 rfl) ?_
  refine vp_callSi (va_Run.run (va_runV (As := [.int p0]) (rest := []) ⟨hx, hb, hml, hown, hw⟩ (c_has0 l G nw_trains 5 3 nw_trains_c p0) (cwV 1 hw (gdV kw_11 kw_12 kw_13 kw_14 kw_10) rfl rfl rfl ⟨rfl, hdX6_has⟩ ⟨(Nat.le_of_ble_eq_true rfl), (Nat.le_of_ble_eq_true rfl)⟩) (preS_V (wc := [(nw_trains, .inr (6, [.int 5, .int 3, .ref nw_trains_c, .int 0]))]) (ci := 6) hKG hP [4] rfl rfl rfl) rfl rfl hl.1 rfl (lv_room (Nat.le_of_ble_eq_true rfl)) dX10_blocked_8 ⟨(Nat.le_of_ble_eq_true rfl), (Nat.le_of_ble_eq_true rfl)⟩)) (fun r1 hr1 => ?_)
  subst hr1
  refine lv_if_ne (tgt := 17) hx hb dX10_blocked_11 (by decide) (fun c2 => absurd (by decide) c2) (fun c2 => ?_)
  refine lv_bipush (v := (-2)) hx hb dX10_blocked_14 (by decide) ?_
  exact W.iret (v := (-2)) hx hb hr (fun t ht hW => ⟨(-2), rfl, rfl, ht⟩) (fun _ h => absurd h List.not_mem_nil) dX10_blocked_16
set_option maxHeartbeats 4000000 in
set_option maxRecDepth 100000 in
theorem c_X10_best (l : Launch) (G : KG) (x0 : Nat) (tp : Nat) (rd : Nat) (nw : Nat) (sp : Nat) (im : Nat) (ir : Nat) (kp : Nat) (sl : Nat) (tk : Nat) (hn : Nat) (rc : Nat) (jn : Nat) (br : Nat) (sh : Nat) (nw_slopes : Nat) (nw_wets : Nat) (nw_limits : Nat) (nw_platforms : Nat) (nw_kinds : Nat) (nw_trains : Nat) (nw_coaches : Nat) (nw_platforms_c : Nat) (nw_kinds_c : Nat) (nw_trains_c : Nat) (nw_coaches_c : Nat) (p0 : Int32) : Met l yX10_best wgX10_best ({ frames := 1, cells := 0, slots := 0, locals := 21 }) (preS G [.ref x0, .int p0] [(x0, .inr (10, [.ref tp, .int 0, .ref rd, .ref nw, .ref sp, .ref im, .ref ir, .ref kp, .ref sl, .ref tk, .ref hn, .ref rc, .ref jn, .ref br, .ref sh])), (nw, .inr (3, [.int 0, .int 0, .ref nw_slopes, .ref nw_wets, .ref nw_limits, .ref nw_platforms, .ref nw_kinds, .ref nw_trains, .ref nw_coaches])), (nw_platforms, .inr (6, [.int 6, .int 2, .ref nw_platforms_c, .int 0])), (nw_kinds, .inr (6, [.int 4, .int 5, .ref nw_kinds_c, .int 0])), (nw_trains, .inr (6, [.int 5, .int 3, .ref nw_trains_c, .int 0])), (nw_coaches, .inr (6, [.int 16, .int 5, .ref nw_coaches_c, .int 0]))]) (vp_Si (fun (r : Int32) => (r = (-2)))) 0 0 (fun _ => False) := by
  refine Met.ofW (cc := cX10_best) (maxL := 7) (ret := (some .int)) (by decide) rfl ?_
  intro p e s m args below meth c s₁ B hml hv
  obtain ⟨rfl, hP, hKG⟩ := hv
  obtain ⟨hK, hAO⟩ := id hKG
  have hx := B.exec
  have hb := B.bytes
  have hr := B.returns
  have hts := atoms_spec (ws := wgX10_best) B.pre
  have hw : ∀ w ∈ wG, w.before _ s = true := fun w h => hts w (List.mem_cons_of_mem _ h)
  have hown : s.vm.findClass RX10 = some m.cls := findClass_of_methodNamed B.named
  have hlocks := B.notSynchronized
  have hl := lv_entry ([.ref x0, .int p0]) (n := 7) (Nat.le_of_ble_eq_true rfl)
  rw [lg_entry_eq]
  generalize (lg_sl ([.ref x0, .int p0]) ++ List.replicate (7 - (lg_sl ([.ref x0, .int p0])).length) Slot.unset).toArray = ls at hl ⊢
  have hl : lv_has ls 7 [(0, .ref x0), (1, .int p0)] := hl
  refine lv_aload_n hx hb dX10_best_0 rfl (lv_at hl 0 rfl) ?_
  refine va_get (D := G.1) (ci := 10) (v := .ref nw) (C := RX10) (T := TX10) (N := 15) hx hb hw inGX10 hown hK hP 0 rfl rfl 3 (by decide) (hw _ kw_2) (fun _ h9 => h9) rfl dX10_best_1 ?_
  refine va_get (D := G.1) (ci := 3) (v := .ref nw_coaches) (C := RX3) (T := TX3) (N := 9) hx hb hw inGX3 hown hK hP 1 rfl rfl 8 (by decide) (hw _ kw_27) (fun _ h9 => h9) rfl dX10_best_4 ?_
  refine lv_iload_n hx hb dX10_best_7 rfl (lv_at hl 1 rfl) ?_
  refine vp_callSi (va_Run.run (va_runV (As := [.int p0]) (rest := []) ⟨hx, hb, hml, hown, hw⟩ (c_has0 l G nw_coaches 16 5 nw_coaches_c p0) (cwV 1 hw (gdV kw_11 kw_12 kw_13 kw_14 kw_10) rfl rfl rfl ⟨rfl, hdX6_has⟩ ⟨(Nat.le_of_ble_eq_true rfl), (Nat.le_of_ble_eq_true rfl)⟩) (preS_V (wc := [(nw_coaches, .inr (6, [.int 16, .int 5, .ref nw_coaches_c, .int 0]))]) (ci := 6) hKG hP [5] rfl rfl rfl) rfl rfl hl.1 rfl (lv_room (Nat.le_of_ble_eq_true rfl)) dX10_best_8 ⟨(Nat.le_of_ble_eq_true rfl), (Nat.le_of_ble_eq_true rfl)⟩)) (fun r1 hr1 => ?_)
  subst hr1
  refine lv_if_ne (tgt := 17) hx hb dX10_best_11 (by decide) (fun c2 => absurd (by decide) c2) (fun c2 => ?_)
  refine lv_bipush (v := (-2)) hx hb dX10_best_14 (by decide) ?_
  exact W.iret (v := (-2)) hx hb hr (fun t ht hW => ⟨(-2), rfl, rfl, ht⟩) (fun _ h => absurd h List.not_mem_nil) dX10_best_16
set_option maxHeartbeats 4000000 in
set_option maxRecDepth 100000 in
theorem c_X10_margin (l : Launch) (G : KG) (x0 : Nat) (tp : Nat) (rd : Nat) (nw : Nat) (sp : Nat) (im : Nat) (ir : Nat) (kp : Nat) (sl : Nat) (tk : Nat) (hn : Nat) (rc : Nat) (jn : Nat) (br : Nat) (sh : Nat) (nw_slopes : Nat) (nw_wets : Nat) (nw_limits : Nat) (nw_platforms : Nat) (nw_kinds : Nat) (nw_trains : Nat) (nw_coaches : Nat) (nw_platforms_c : Nat) (nw_kinds_c : Nat) (nw_trains_c : Nat) (nw_coaches_c : Nat) (p0 : Int32) (p1 : Int32) : Met l yX10_margin wgX10_margin ({ frames := 1, cells := 0, slots := 0, locals := 21 }) (preS G [.ref x0, .int p0, .int p1] [(x0, .inr (10, [.ref tp, .int 0, .ref rd, .ref nw, .ref sp, .ref im, .ref ir, .ref kp, .ref sl, .ref tk, .ref hn, .ref rc, .ref jn, .ref br, .ref sh])), (nw, .inr (3, [.int 0, .int 0, .ref nw_slopes, .ref nw_wets, .ref nw_limits, .ref nw_platforms, .ref nw_kinds, .ref nw_trains, .ref nw_coaches])), (nw_platforms, .inr (6, [.int 6, .int 2, .ref nw_platforms_c, .int 0])), (nw_kinds, .inr (6, [.int 4, .int 5, .ref nw_kinds_c, .int 0])), (nw_trains, .inr (6, [.int 5, .int 3, .ref nw_trains_c, .int 0])), (nw_coaches, .inr (6, [.int 16, .int 5, .ref nw_coaches_c, .int 0]))]) (vp_Si (fun (r : Int32) => (r = (-2)))) 0 0 (fun _ => False) := by
  refine Met.ofW (cc := cX10_margin) (maxL := 9) (ret := (some .int)) (by decide) rfl ?_
  intro p e s m args below meth c s₁ B hml hv
  obtain ⟨rfl, hP, hKG⟩ := hv
  obtain ⟨hK, hAO⟩ := id hKG
  have hx := B.exec
  have hb := B.bytes
  have hr := B.returns
  have hts := atoms_spec (ws := wgX10_margin) B.pre
  have hw : ∀ w ∈ wG, w.before _ s = true := fun w h => hts w (List.mem_cons_of_mem _ h)
  have hown : s.vm.findClass RX10 = some m.cls := findClass_of_methodNamed B.named
  have hlocks := B.notSynchronized
  have hl := lv_entry ([.ref x0, .int p0, .int p1]) (n := 9) (Nat.le_of_ble_eq_true rfl)
  rw [lg_entry_eq]
  generalize (lg_sl ([.ref x0, .int p0, .int p1]) ++ List.replicate (9 - (lg_sl ([.ref x0, .int p0, .int p1])).length) Slot.unset).toArray = ls at hl ⊢
  have hl : lv_has ls 9 [(0, .ref x0), (1, .int p0), (2, .int p1)] := hl
  refine lv_aload_n hx hb dX10_margin_0 rfl (lv_at hl 0 rfl) ?_
  refine va_get (D := G.1) (ci := 10) (v := .ref nw) (C := RX10) (T := TX10) (N := 15) hx hb hw inGX10 hown hK hP 0 rfl rfl 3 (by decide) (hw _ kw_2) (fun _ h9 => h9) rfl dX10_margin_1 ?_
  refine va_get (D := G.1) (ci := 3) (v := .ref nw_coaches) (C := RX3) (T := TX3) (N := 9) hx hb hw inGX3 hown hK hP 1 rfl rfl 8 (by decide) (hw _ kw_27) (fun _ h9 => h9) rfl dX10_margin_4 ?_
  refine lv_iload_n hx hb dX10_margin_7 rfl (lv_at hl 1 rfl) ?_
  refine vp_callSi (va_Run.run (va_runV (As := [.int p0]) (rest := []) ⟨hx, hb, hml, hown, hw⟩ (c_has0 l G nw_coaches 16 5 nw_coaches_c p0) (cwV 1 hw (gdV kw_11 kw_12 kw_13 kw_14 kw_10) rfl rfl rfl ⟨rfl, hdX6_has⟩ ⟨(Nat.le_of_ble_eq_true rfl), (Nat.le_of_ble_eq_true rfl)⟩) (preS_V (wc := [(nw_coaches, .inr (6, [.int 16, .int 5, .ref nw_coaches_c, .int 0]))]) (ci := 6) hKG hP [5] rfl rfl rfl) rfl rfl hl.1 rfl (lv_room (Nat.le_of_ble_eq_true rfl)) dX10_margin_8 ⟨(Nat.le_of_ble_eq_true rfl), (Nat.le_of_ble_eq_true rfl)⟩)) (fun r1 hr1 => ?_)
  subst hr1
  refine lv_if_eq (tgt := 23) hx hb dX10_margin_11 (by decide) (fun c2 => ?_) (fun c2 => absurd (by decide) c2)
  refine lv_bipush (v := (-2)) hx hb dX10_margin_23 (by decide) ?_
  exact W.iret (v := (-2)) hx hb hr (fun t ht hW => ⟨(-2), rfl, rfl, ht⟩) (fun _ h => absurd h List.not_mem_nil) dX10_margin_25
set_option maxHeartbeats 4000000 in
set_option maxRecDepth 100000 in
theorem c_X10_room (l : Launch) (G : KG) (x0 : Nat) (tp : Nat) (rd : Nat) (nw : Nat) (sp : Nat) (im : Nat) (ir : Nat) (kp : Nat) (sl : Nat) (tk : Nat) (hn : Nat) (rc : Nat) (jn : Nat) (br : Nat) (sh : Nat) (nw_slopes : Nat) (nw_wets : Nat) (nw_limits : Nat) (nw_platforms : Nat) (nw_kinds : Nat) (nw_trains : Nat) (nw_coaches : Nat) (nw_platforms_c : Nat) (nw_kinds_c : Nat) (nw_trains_c : Nat) (nw_coaches_c : Nat) (p0 : Int32) (p1 : Int32) : Met l yX10_room wgX10_room ({ frames := 1, cells := 0, slots := 0, locals := 21 }) (preS G [.ref x0, .int p0, .int p1] [(x0, .inr (10, [.ref tp, .int 0, .ref rd, .ref nw, .ref sp, .ref im, .ref ir, .ref kp, .ref sl, .ref tk, .ref hn, .ref rc, .ref jn, .ref br, .ref sh])), (nw, .inr (3, [.int 0, .int 0, .ref nw_slopes, .ref nw_wets, .ref nw_limits, .ref nw_platforms, .ref nw_kinds, .ref nw_trains, .ref nw_coaches])), (nw_platforms, .inr (6, [.int 6, .int 2, .ref nw_platforms_c, .int 0])), (nw_kinds, .inr (6, [.int 4, .int 5, .ref nw_kinds_c, .int 0])), (nw_trains, .inr (6, [.int 5, .int 3, .ref nw_trains_c, .int 0])), (nw_coaches, .inr (6, [.int 16, .int 5, .ref nw_coaches_c, .int 0]))]) (vp_Si (fun (r : Int32) => (r = (-1000000)))) 0 0 (fun _ => False) := by
  refine Met.ofW (cc := cX10_room) (maxL := 3) (ret := (some .int)) (by decide) rfl ?_
  intro p e s m args below meth c s₁ B hml hv
  obtain ⟨rfl, hP, hKG⟩ := hv
  obtain ⟨hK, hAO⟩ := id hKG
  have hx := B.exec
  have hb := B.bytes
  have hr := B.returns
  have hts := atoms_spec (ws := wgX10_room) B.pre
  have hw : ∀ w ∈ wG, w.before _ s = true := fun w h => hts w (List.mem_cons_of_mem _ h)
  have hown : s.vm.findClass RX10 = some m.cls := findClass_of_methodNamed B.named
  have hlocks := B.notSynchronized
  have hl := lv_entry ([.ref x0, .int p0, .int p1]) (n := 3) (Nat.le_of_ble_eq_true rfl)
  rw [lg_entry_eq]
  generalize (lg_sl ([.ref x0, .int p0, .int p1]) ++ List.replicate (3 - (lg_sl ([.ref x0, .int p0, .int p1])).length) Slot.unset).toArray = ls at hl ⊢
  have hl : lv_has ls 3 [(0, .ref x0), (1, .int p0), (2, .int p1)] := hl
  refine lv_aload_n hx hb dX10_room_0 rfl (lv_at hl 0 rfl) ?_
  refine va_get (D := G.1) (ci := 10) (v := .ref nw) (C := RX10) (T := TX10) (N := 15) hx hb hw inGX10 hown hK hP 0 rfl rfl 3 (by decide) (hw _ kw_2) (fun _ h9 => h9) rfl dX10_room_1 ?_
  refine va_get (D := G.1) (ci := 3) (v := .ref nw_kinds) (C := RX3) (T := TX3) (N := 9) hx hb hw inGX3 hown hK hP 1 rfl rfl 6 (by decide) (hw _ kw_9) (fun _ h9 => h9) rfl dX10_room_4 ?_
  refine lv_iload_n hx hb dX10_room_7 rfl (lv_at hl 1 rfl) ?_
  refine vp_callSi (va_Run.run (va_runV (As := [.int p0]) (rest := []) ⟨hx, hb, hml, hown, hw⟩ (c_has0 l G nw_kinds 4 5 nw_kinds_c p0) (cwV 1 hw (gdV kw_11 kw_12 kw_13 kw_14 kw_10) rfl rfl rfl ⟨rfl, hdX6_has⟩ ⟨(Nat.le_of_ble_eq_true rfl), (Nat.le_of_ble_eq_true rfl)⟩) (preS_V (wc := [(nw_kinds, .inr (6, [.int 4, .int 5, .ref nw_kinds_c, .int 0]))]) (ci := 6) hKG hP [3] rfl rfl rfl) rfl rfl hl.1 rfl (lv_room (Nat.le_of_ble_eq_true rfl)) dX10_room_8 ⟨(Nat.le_of_ble_eq_true rfl), (Nat.le_of_ble_eq_true rfl)⟩)) (fun r1 hr1 => ?_)
  subst hr1
  refine lv_if_eq (tgt := 28) hx hb dX10_room_11 (by decide) (fun c2 => ?_) (fun c2 => absurd (by decide) c2)
  refine lv_ldc (v := (-1000000)) hx hb hown (hw _ kw_44) dX10_room_28 ?_
  exact W.iret (v := (-1000000)) hx hb hr (fun t ht hW => ⟨(-1000000), rfl, rfl, ht⟩) (fun _ h => absurd h List.not_mem_nil) dX10_room_30
set_option maxHeartbeats 4000000 in
set_option maxRecDepth 100000 in
theorem c_X10_saved (l : Launch) (G : KG) (x0 : Nat) (tp : Nat) (rd : Nat) (nw : Nat) (sp : Nat) (im : Nat) (ir : Nat) (kp : Nat) (sl : Nat) (tk : Nat) (hn : Nat) (rc : Nat) (jn : Nat) (br : Nat) (sh : Nat) (nw_slopes : Nat) (nw_wets : Nat) (nw_limits : Nat) (nw_platforms : Nat) (nw_kinds : Nat) (nw_trains : Nat) (nw_coaches : Nat) (nw_platforms_c : Nat) (nw_kinds_c : Nat) (nw_trains_c : Nat) (nw_coaches_c : Nat) (p0 : Int32) (p1 : Int32) : Met l yX10_saved wgX10_saved ({ frames := 1, cells := 0, slots := 0, locals := 21 }) (preS G [.ref x0, .int p0, .int p1] [(x0, .inr (10, [.ref tp, .int 0, .ref rd, .ref nw, .ref sp, .ref im, .ref ir, .ref kp, .ref sl, .ref tk, .ref hn, .ref rc, .ref jn, .ref br, .ref sh])), (nw, .inr (3, [.int 0, .int 0, .ref nw_slopes, .ref nw_wets, .ref nw_limits, .ref nw_platforms, .ref nw_kinds, .ref nw_trains, .ref nw_coaches])), (nw_platforms, .inr (6, [.int 6, .int 2, .ref nw_platforms_c, .int 0])), (nw_kinds, .inr (6, [.int 4, .int 5, .ref nw_kinds_c, .int 0])), (nw_trains, .inr (6, [.int 5, .int 3, .ref nw_trains_c, .int 0])), (nw_coaches, .inr (6, [.int 16, .int 5, .ref nw_coaches_c, .int 0]))]) (vp_Si (fun (r : Int32) => (r = (-1000000)))) 0 0 (fun _ => False) := by
  refine Met.ofW (cc := cX10_saved) (maxL := 3) (ret := (some .int)) (by decide) rfl ?_
  intro p e s m args below meth c s₁ B hml hv
  obtain ⟨rfl, hP, hKG⟩ := hv
  obtain ⟨hK, hAO⟩ := id hKG
  have hx := B.exec
  have hb := B.bytes
  have hr := B.returns
  have hts := atoms_spec (ws := wgX10_saved) B.pre
  have hw : ∀ w ∈ wG, w.before _ s = true := fun w h => hts w (List.mem_cons_of_mem _ h)
  have hown : s.vm.findClass RX10 = some m.cls := findClass_of_methodNamed B.named
  have hlocks := B.notSynchronized
  have hl := lv_entry ([.ref x0, .int p0, .int p1]) (n := 3) (Nat.le_of_ble_eq_true rfl)
  rw [lg_entry_eq]
  generalize (lg_sl ([.ref x0, .int p0, .int p1]) ++ List.replicate (3 - (lg_sl ([.ref x0, .int p0, .int p1])).length) Slot.unset).toArray = ls at hl ⊢
  have hl : lv_has ls 3 [(0, .ref x0), (1, .int p0), (2, .int p1)] := hl
  refine lv_aload_n hx hb dX10_saved_0 rfl (lv_at hl 0 rfl) ?_
  refine va_get (D := G.1) (ci := 10) (v := .ref nw) (C := RX10) (T := TX10) (N := 15) hx hb hw inGX10 hown hK hP 0 rfl rfl 3 (by decide) (hw _ kw_2) (fun _ h9 => h9) rfl dX10_saved_1 ?_
  refine va_get (D := G.1) (ci := 3) (v := .ref nw_trains) (C := RX3) (T := TX3) (N := 9) hx hb hw inGX3 hown hK hP 1 rfl rfl 7 (by decide) (hw _ kw_28) (fun _ h9 => h9) rfl dX10_saved_4 ?_
  refine lv_iload_n hx hb dX10_saved_7 rfl (lv_at hl 1 rfl) ?_
  refine vp_callSi (va_Run.run (va_runV (As := [.int p0]) (rest := []) ⟨hx, hb, hml, hown, hw⟩ (c_has0 l G nw_trains 5 3 nw_trains_c p0) (cwV 1 hw (gdV kw_11 kw_12 kw_13 kw_14 kw_10) rfl rfl rfl ⟨rfl, hdX6_has⟩ ⟨(Nat.le_of_ble_eq_true rfl), (Nat.le_of_ble_eq_true rfl)⟩) (preS_V (wc := [(nw_trains, .inr (6, [.int 5, .int 3, .ref nw_trains_c, .int 0]))]) (ci := 6) hKG hP [4] rfl rfl rfl) rfl rfl hl.1 rfl (lv_room (Nat.le_of_ble_eq_true rfl)) dX10_saved_8 ⟨(Nat.le_of_ble_eq_true rfl), (Nat.le_of_ble_eq_true rfl)⟩)) (fun r1 hr1 => ?_)
  subst hr1
  refine lv_if_eq (tgt := 24) hx hb dX10_saved_11 (by decide) (fun c2 => ?_) (fun c2 => absurd (by decide) c2)
  refine lv_ldc (v := (-1000000)) hx hb hown (hw _ kw_44) dX10_saved_24 ?_
  exact W.iret (v := (-1000000)) hx hb hr (fun t ht hW => ⟨(-1000000), rfl, rfl, ht⟩) (fun _ h => absurd h List.not_mem_nil) dX10_saved_26
set_option maxHeartbeats 4000000 in
set_option maxRecDepth 100000 in
theorem c_X10_good (l : Launch) (G : KG) (x0 : Nat) (tp : Nat) (rd : Nat) (nw : Nat) (sp : Nat) (im : Nat) (ir : Nat) (kp : Nat) (sl : Nat) (tk : Nat) (hn : Nat) (rc : Nat) (jn : Nat) (br : Nat) (sh : Nat) (nw_slopes : Nat) (nw_wets : Nat) (nw_limits : Nat) (nw_platforms : Nat) (nw_kinds : Nat) (nw_trains : Nat) (nw_coaches : Nat) (nw_platforms_c : Nat) (nw_kinds_c : Nat) (nw_trains_c : Nat) (nw_coaches_c : Nat) : Met l yX10_good wgX10_good ({ frames := 1, cells := 0, slots := 0, locals := 20 }) (preS G [.ref x0] [(x0, .inr (10, [.ref tp, .int 0, .ref rd, .ref nw, .ref sp, .ref im, .ref ir, .ref kp, .ref sl, .ref tk, .ref hn, .ref rc, .ref jn, .ref br, .ref sh])), (nw, .inr (3, [.int 0, .int 0, .ref nw_slopes, .ref nw_wets, .ref nw_limits, .ref nw_platforms, .ref nw_kinds, .ref nw_trains, .ref nw_coaches])), (nw_platforms, .inr (6, [.int 6, .int 2, .ref nw_platforms_c, .int 0])), (nw_kinds, .inr (6, [.int 4, .int 5, .ref nw_kinds_c, .int 0])), (nw_trains, .inr (6, [.int 5, .int 3, .ref nw_trains_c, .int 0])), (nw_coaches, .inr (6, [.int 16, .int 5, .ref nw_coaches_c, .int 0]))]) (vp_Si (fun (r : Int32) => (r = (-1)))) 0 0 (fun _ => False) := by
  refine Met.ofW (cc := cX10_good) (maxL := 1) (ret := (some .int)) (by decide) rfl ?_
  intro p e s m args below meth c s₁ B hml hv
  obtain ⟨rfl, hP, hKG⟩ := hv
  obtain ⟨hK, hAO⟩ := id hKG
  have hx := B.exec
  have hb := B.bytes
  have hr := B.returns
  have hts := atoms_spec (ws := wgX10_good) B.pre
  have hw : ∀ w ∈ wG, w.before _ s = true := fun w h => hts w (List.mem_cons_of_mem _ h)
  have hown : s.vm.findClass RX10 = some m.cls := findClass_of_methodNamed B.named
  have hlocks := B.notSynchronized
  have hl := lv_entry ([.ref x0]) (n := 1) (Nat.le_of_ble_eq_true rfl)
  rw [lg_entry_eq]
  generalize (lg_sl ([.ref x0]) ++ List.replicate (1 - (lg_sl ([.ref x0])).length) Slot.unset).toArray = ls at hl ⊢
  have hl : lv_has ls 1 [(0, .ref x0)] := hl
  refine lv_aload_n hx hb dX10_good_0 rfl (lv_at hl 0 rfl) ?_
  refine vp_callSi (va_Run.run (va_runV (As := []) (rest := []) ⟨hx, hb, hml, hown, hw⟩ (c_X10_hasLine l G x0 tp rd nw sp im ir kp sl tk hn rc jn br sh nw_slopes nw_wets nw_limits nw_platforms nw_kinds nw_trains nw_coaches) (cwV 0 hw (gdV kw_5 kw_6 kw_7 kw_8 kw_4) rfl rfl rfl ⟨rfl, hdX10_hasLine⟩ ⟨(Nat.le_of_ble_eq_true rfl), (Nat.le_of_ble_eq_true rfl)⟩) (preS_V (wc := [(x0, .inr (10, [.ref tp, .int 0, .ref rd, .ref nw, .ref sp, .ref im, .ref ir, .ref kp, .ref sl, .ref tk, .ref hn, .ref rc, .ref jn, .ref br, .ref sh])), (nw, .inr (3, [.int 0, .int 0, .ref nw_slopes, .ref nw_wets, .ref nw_limits, .ref nw_platforms, .ref nw_kinds, .ref nw_trains, .ref nw_coaches]))]) (ci := 10) hKG hP [0, 1] rfl rfl rfl) rfl rfl hl.1 rfl (lv_room (Nat.le_of_ble_eq_true rfl)) dX10_good_1 ⟨(Nat.le_of_ble_eq_true rfl), (Nat.le_of_ble_eq_true rfl)⟩)) (fun r1 hr1 => ?_)
  subst hr1
  refine lv_if_ne (tgt := 9) hx hb dX10_good_4 (by decide) (fun c2 => absurd (by decide) c2) (fun c2 => ?_)
  refine lv_iconst (v := (-1)) hx hb dX10_good_7 (by decide) ?_
  exact W.iret (v := (-1)) hx hb hr (fun t ht hW => ⟨(-1), rfl, rfl, ht⟩) (fun _ h => absurd h List.not_mem_nil) dX10_good_8
set_option maxHeartbeats 4000000 in
set_option maxRecDepth 100000 in
theorem c_X10_fault (l : Launch) (G : KG) (x0 : Nat) (tp : Nat) (rd : Nat) (nw : Nat) (sp : Nat) (im : Nat) (ir : Nat) (kp : Nat) (sl : Nat) (tk : Nat) (hn : Nat) (rc : Nat) (jn : Nat) (br : Nat) (sh : Nat) (rt : Nat) (p0 : Int32) : Met l yX10_fault wgX10_fault ({ frames := 0, cells := 0, slots := 0, locals := 0 }) (preS G [.ref x0, .int p0] [(x0, .inr (10, [.ref tp, .int 0, .ref rd, .ref nw, .ref sp, .ref im, .ref ir, .ref kp, .ref sl, .ref tk, .ref hn, .ref rc, .ref jn, .ref br, .ref sh])), (rd, .inr (5, [.ref rt, .int 0, .int 0, .int 0, .int 0, .int 0, .int 0, .int (-1)]))]) (vp_Si (fun (r : Int32) => (r = 0 ∧ p0 = 0) ∨ (r = (-1) ∧ ¬ p0 = 0))) 0 0 (fun _ => False) := by
  refine Met.ofW (cc := cX10_fault) (maxL := 2) (ret := (some .int)) (by decide) rfl ?_
  intro p e s m args below meth c s₁ B hml hv
  obtain ⟨rfl, hP, hKG⟩ := hv
  obtain ⟨hK, hAO⟩ := id hKG
  have hx := B.exec
  have hb := B.bytes
  have hr := B.returns
  have hts := atoms_spec (ws := wgX10_fault) B.pre
  have hw : ∀ w ∈ wG, w.before _ s = true := fun w h => hts w (List.mem_cons_of_mem _ h)
  have hown : s.vm.findClass RX10 = some m.cls := findClass_of_methodNamed B.named
  have hlocks := B.notSynchronized
  have hl := lv_entry ([.ref x0, .int p0]) (n := 2) (Nat.le_of_ble_eq_true rfl)
  rw [lg_entry_eq]
  generalize (lg_sl ([.ref x0, .int p0]) ++ List.replicate (2 - (lg_sl ([.ref x0, .int p0])).length) Slot.unset).toArray = ls at hl ⊢
  have hl : lv_has ls 2 [(0, .ref x0), (1, .int p0)] := hl
  refine lv_iload_n hx hb dX10_fault_0 rfl (lv_at hl 1 rfl) ?_
  refine lv_if_ne (tgt := 12) hx hb dX10_fault_1 (by decide) (fun c1 => ?_) (fun c1 => ?_)
  · refine lv_iload_n hx hb dX10_fault_12 rfl (lv_at hl 1 rfl) ?_
    refine lv_iconst (v := 1) hx hb dX10_fault_13 (by decide) ?_
    refine lv_icmp_ne (tgt := 27) hx hb dX10_fault_14 (by decide) (fun c2 => ?_) (fun c2 => ?_)
    · refine lv_iconst (v := (-1)) hx hb dX10_fault_27 (by decide) ?_
      exact W.iret (v := (-1)) hx hb hr (fun t ht hW => ⟨(-1), rfl, (Or.inr ⟨rfl, c1⟩), ht⟩) (fun _ h => absurd h List.not_mem_nil) dX10_fault_28
    · refine lv_aload_n hx hb dX10_fault_17 rfl (lv_at hl 0 rfl) ?_
      refine va_get (D := G.1) (ci := 10) (v := .ref rd) (C := RX10) (T := TX10) (N := 15) hx hb hw inGX10 hown hK hP 0 rfl rfl 2 (by decide) (hw _ kw_45) (fun _ h9 => h9) rfl dX10_fault_18 ?_
      refine va_get (D := G.1) (ci := 5) (v := .int (-1)) (C := RX5) (T := TX5) (N := 8) hx hb hw inGX5 hown hK hP 1 rfl rfl 7 (by decide) (hw _ kw_46) (fun _ h9 => h9) rfl dX10_fault_21 ?_
      refine lv_goto (tgt := 28) hx hb dX10_fault_24 (by decide) ?_
      exact W.iret (v := (-1)) hx hb hr (fun t ht hW => ⟨(-1), rfl, (Or.inr ⟨rfl, c1⟩), ht⟩) (fun _ h => absurd h List.not_mem_nil) dX10_fault_28
  · refine lv_aload_n hx hb dX10_fault_4 rfl (lv_at hl 0 rfl) ?_
    refine va_get (D := G.1) (ci := 10) (v := .ref rd) (C := RX10) (T := TX10) (N := 15) hx hb hw inGX10 hown hK hP 0 rfl rfl 2 (by decide) (hw _ kw_45) (fun _ h9 => h9) rfl dX10_fault_5 ?_
    refine va_get (D := G.1) (ci := 5) (v := .int 0) (C := RX5) (T := TX5) (N := 8) hx hb hw inGX5 hown hK hP 1 rfl rfl 6 (by decide) (hw _ kw_47) (fun _ h9 => h9) rfl dX10_fault_8 ?_
    exact W.iret (v := 0) hx hb hr (fun t ht hW => ⟨0, rfl, (Or.inl ⟨rfl, c1⟩), ht⟩) (fun _ h => absurd h List.not_mem_nil) dX10_fault_11
set_option maxHeartbeats 4000000 in
set_option maxRecDepth 100000 in
theorem c_X10_back (l : Launch) (G : KG) (x0 : Nat) (tp : Nat) (rd : Nat) (nw : Nat) (sp : Nat) (im : Nat) (ir : Nat) (kp : Nat) (sl : Nat) (tk : Nat) (hn : Nat) (rc : Nat) (jn : Nat) (br : Nat) (sh : Nat) (p0 : Int32) : Met l yX10_back wgX10_back ({ frames := 1, cells := 0, slots := 0, locals := 22 }) (preS G [.ref x0, .int p0] [(x0, .inr (10, [.ref tp, .int 0, .ref rd, .ref nw, .ref sp, .ref im, .ref ir, .ref kp, .ref sl, .ref tk, .ref hn, .ref rc, .ref jn, .ref br, .ref sh])), (kp, .inl (G.2 2, 3, .inl (fun _ => 0)))]) (vp_Si (fun (r : Int32) => (r = (-6) ∧ ¬ p0 < 0 ∧ ¬ 2 < p0) ∨ (r = (-2) ∧ p0 < 0) ∨ (r = (-2) ∧ 2 < p0))) 0 0 (fun _ => False) := by
  refine Met.ofW (cc := cX10_back) (maxL := 2) (ret := (some .int)) (by decide) rfl ?_
  intro p e s m args below meth c s₁ B hml hv
  obtain ⟨rfl, hP, hKG⟩ := hv
  obtain ⟨hK, hAO⟩ := id hKG
  have hx := B.exec
  have hb := B.bytes
  have hr := B.returns
  have hts := atoms_spec (ws := wgX10_back) B.pre
  have hw : ∀ w ∈ wG, w.before _ s = true := fun w h => hts w (List.mem_cons_of_mem _ h)
  have hown : s.vm.findClass RX10 = some m.cls := findClass_of_methodNamed B.named
  have hlocks := B.notSynchronized
  have hl := lv_entry ([.ref x0, .int p0]) (n := 2) (Nat.le_of_ble_eq_true rfl)
  rw [lg_entry_eq]
  generalize (lg_sl ([.ref x0, .int p0]) ++ List.replicate (2 - (lg_sl ([.ref x0, .int p0])).length) Slot.unset).toArray = ls at hl ⊢
  have hl : lv_has ls 2 [(0, .ref x0), (1, .int p0)] := hl
  refine lv_iload_n hx hb dX10_back_0 rfl (lv_at hl 1 rfl) ?_
  refine lv_iconst (v := 0) hx hb dX10_back_1 (by decide) ?_
  refine lv_iconst (v := 2) hx hb dX10_back_2 (by decide) ?_
  refine vp_callSi (va_Run.run (va_runS (As := [.int p0, .int 0, .int 2]) (rest := []) ⟨hx, hb, hml, hown, hw⟩ (c_isAmong l G p0 0 2) (va_cwS 3 hw (gdT kw_38 kw_39 kw_8 kw_37) rfl rfl rfl hdX10_isAmong ⟨(Nat.le_of_ble_eq_true rfl), (Nat.le_of_ble_eq_true rfl)⟩) (preS_S (wc := []) hKG hP [] rfl) rfl rfl hl.1 rfl (lv_room (Nat.le_of_ble_eq_true rfl)) dX10_back_3 ⟨(Nat.le_of_ble_eq_true rfl), (Nat.le_of_ble_eq_true rfl)⟩)) (fun r1 hr1 => ?_)
  rcases hr1 with ⟨rfl, c2, c3⟩ | ⟨rfl, c4⟩ | ⟨rfl, c5⟩
  · refine lv_if_ne (tgt := 12) hx hb dX10_back_6 (by decide) (fun c6 => ?_) (fun c6 => absurd c6 (by decide))
    refine lv_aload_n hx hb dX10_back_12 rfl (lv_at hl 0 rfl) ?_
    refine va_get (D := G.1) (ci := 10) (v := .ref kp) (C := RX10) (T := TX10) (N := 15) hx hb hw inGX10 hown hK hP 0 rfl rfl 7 (by decide) (hw _ kw_48) (fun _ h9 => h9) rfl dX10_back_13 ?_
    refine lv_iload_n hx hb dX10_back_16 rfl (lv_at hl 1 rfl) ?_
    refine va_zald hx hb hK hP 1 2 rfl rfl (vp_in_iff.mpr (by have z1 := c2; have z2 := c3; simp only [fa_lt, fa_le, fa_eq, fa_lt64, fa_le64, fa_eq64, Int32.toInt_toInt64, tc_0, tc_2] at z1 z2; omega)) dX10_back_17 ?_
    refine lv_cst (y := 0) rfl ?_
    refine lv_if_ne (tgt := 24) hx hb dX10_back_18 (by decide) (fun c7 => absurd (by decide) c7) (fun c7 => ?_)
    refine lv_bipush (v := (-6)) hx hb dX10_back_21 (by decide) ?_
    exact W.iret (v := (-6)) hx hb hr (fun t ht hW => ⟨(-6), rfl, (Or.inl ⟨rfl, c2, c3⟩), ht⟩) (fun _ h => absurd h List.not_mem_nil) dX10_back_23
  · refine lv_if_ne (tgt := 12) hx hb dX10_back_6 (by decide) (fun c8 => absurd (by decide) c8) (fun c8 => ?_)
    refine lv_bipush (v := (-2)) hx hb dX10_back_9 (by decide) ?_
    exact W.iret (v := (-2)) hx hb hr (fun t ht hW => ⟨(-2), rfl, (Or.inr (Or.inl ⟨rfl, c4⟩)), ht⟩) (fun _ h => absurd h List.not_mem_nil) dX10_back_11
  · refine lv_if_ne (tgt := 12) hx hb dX10_back_6 (by decide) (fun c9 => absurd (by decide) c9) (fun c9 => ?_)
    refine lv_bipush (v := (-2)) hx hb dX10_back_9 (by decide) ?_
    exact W.iret (v := (-2)) hx hb hr (fun t ht hW => ⟨(-2), rfl, (Or.inr (Or.inr ⟨rfl, c5⟩)), ht⟩) (fun _ h => absurd h List.not_mem_nil) dX10_back_11
set_option maxHeartbeats 4000000 in
set_option maxRecDepth 100000 in
theorem c_isHeld0 (l : Launch) (G : KG) (h0 : Nat) (nu : Nat) : Met l yX8_isHeld wgX8_isHeld ({ frames := 0, cells := 0, slots := 0, locals := 0 }) (preS G [.ref h0] [(h0, .inr (8, [.ref nu, .int (-1), .int 0]))]) (vp_Si (fun (r : Int32) => (r = 0))) 0 0 (fun _ => False) := by
  refine Met.ofW (cc := cX8_isHeld) (maxL := 1) (ret := (some .boolean)) (by decide) rfl ?_
  intro p e s m args below meth c s₁ B hml hv
  obtain ⟨rfl, hP, hKG⟩ := hv
  obtain ⟨hK, hAO⟩ := id hKG
  have hx := B.exec
  have hb := B.bytes
  have hr := B.returns
  have hts := atoms_spec (ws := wgX8_isHeld) B.pre
  have hw : ∀ w ∈ wG, w.before _ s = true := fun w h => hts w (List.mem_cons_of_mem _ h)
  have hown : s.vm.findClass RX8 = some m.cls := findClass_of_methodNamed B.named
  have hlocks := B.notSynchronized
  have hl := lv_entry ([.ref h0]) (n := 1) (Nat.le_of_ble_eq_true rfl)
  rw [lg_entry_eq]
  generalize (lg_sl ([.ref h0]) ++ List.replicate (1 - (lg_sl ([.ref h0])).length) Slot.unset).toArray = ls at hl ⊢
  have hl : lv_has ls 1 [(0, .ref h0)] := hl
  refine lv_aload_n hx hb dX8_isHeld_0 rfl (lv_at hl 0 rfl) ?_
  refine va_get (D := G.1) (ci := 8) (v := .int (-1)) (C := RX8) (T := TX8) (N := 3) hx hb hw inGX8 hown hK hP 0 rfl rfl 1 (by decide) (hw _ kw_49) (fun _ h9 => h9) rfl dX8_isHeld_1 ?_
  refine lv_iconst (v := (-1)) hx hb dX8_isHeld_4 (by decide) ?_
  refine lv_icmp_eq (tgt := 12) hx hb dX8_isHeld_5 (by decide) (fun c1 => ?_) (fun c1 => absurd (by decide) c1)
  refine lv_iconst (v := 0) hx hb dX8_isHeld_12 (by decide) ?_
  exact W.zret (ty := .boolean) (v := 0) hx hb hr (by decide) (fun t ht hW => ⟨0, rfl, rfl, ht⟩) (fun _ h => absurd h List.not_mem_nil) dX8_isHeld_13
set_option maxHeartbeats 4000000 in
set_option maxRecDepth 100000 in
theorem c_X10_write (l : Launch) (G : KG) (x0 : Nat) (tp : Nat) (rd : Nat) (nw : Nat) (sp : Nat) (im : Nat) (ir : Nat) (kp : Nat) (sl : Nat) (tk : Nat) (hn : Nat) (rc : Nat) (jn : Nat) (br : Nat) (sh : Nat) (s0 : Nat) (s1 : Nat) (s2 : Nat) (s3 : Nat) (n0 : Nat) (n1 : Nat) (n2 : Nat) (n3 : Nat) (p0 : Int32) (p1 : Int32) (lv0 : Int64) : Met l yX10_write wgX10_write ({ frames := 1, cells := 0, slots := 0, locals := 22 }) (preS G [.ref x0, .int p0, .int p1, .long lv0] [(x0, .inr (10, [.ref tp, .int 0, .ref rd, .ref nw, .ref sp, .ref im, .ref ir, .ref kp, .ref sl, .ref tk, .ref hn, .ref rc, .ref jn, .ref br, .ref sh])), (sl, .inl (G.2 5, 4, .inr (.inr (.inr (.inr (va_up (va_up (va_up (va_up (fun _ => none) 0 (some s0)) 1 (some s1)) 2 (some s2)) 3 (some s3))))))), (s0, .inr (8, [.ref n0, .int (-1), .int 0])), (s1, .inr (8, [.ref n1, .int (-1), .int 0])), (s2, .inr (8, [.ref n2, .int (-1), .int 0])), (s3, .inr (8, [.ref n3, .int (-1), .int 0]))]) (vp_Si (fun (r : Int32) => (r = (-6) ∧ ¬ p0 < 0 ∧ ¬ 3 < p0) ∨ (r = (-2) ∧ p0 < 0) ∨ (r = (-2) ∧ 3 < p0))) 0 0 (fun _ => False) := by
  refine Met.ofW (cc := cX10_write) (maxL := 5) (ret := (some .int)) (by decide) rfl ?_
  intro p e s m args below meth c s₁ B hml hv
  obtain ⟨rfl, hP, hKG⟩ := hv
  obtain ⟨hK, hAO⟩ := id hKG
  have hx := B.exec
  have hb := B.bytes
  have hr := B.returns
  have hts := atoms_spec (ws := wgX10_write) B.pre
  have hw : ∀ w ∈ wG, w.before _ s = true := fun w h => hts w (List.mem_cons_of_mem _ h)
  have hown : s.vm.findClass RX10 = some m.cls := findClass_of_methodNamed B.named
  have hlocks := B.notSynchronized
  have hl := lv_entry ([.ref x0, .int p0, .int p1, .long lv0]) (n := 5) (Nat.le_of_ble_eq_true rfl)
  rw [lg_entry_eq]
  generalize (lg_sl ([.ref x0, .int p0, .int p1, .long lv0]) ++ List.replicate (5 - (lg_sl ([.ref x0, .int p0, .int p1, .long lv0])).length) Slot.unset).toArray = ls at hl ⊢
  have hl : lv_has ls 5 [(0, .ref x0), (1, .int p0), (2, .int p1), (3, .long lv0)] := hl
  refine lv_iload_n hx hb dX10_write_0 rfl (lv_at hl 1 rfl) ?_
  refine lv_iconst (v := 0) hx hb dX10_write_1 (by decide) ?_
  refine lv_iconst (v := 3) hx hb dX10_write_2 (by decide) ?_
  refine vp_callSi (va_Run.run (va_runS (As := [.int p0, .int 0, .int 3]) (rest := []) ⟨hx, hb, hml, hown, hw⟩ (c_isAmong l G p0 0 3) (va_cwS 3 hw (gdT kw_38 kw_39 kw_8 kw_37) rfl rfl rfl hdX10_isAmong ⟨(Nat.le_of_ble_eq_true rfl), (Nat.le_of_ble_eq_true rfl)⟩) (preS_S (wc := []) hKG hP [] rfl) rfl rfl hl.1 rfl (lv_room (Nat.le_of_ble_eq_true rfl)) dX10_write_3 ⟨(Nat.le_of_ble_eq_true rfl), (Nat.le_of_ble_eq_true rfl)⟩)) (fun r1 hr1 => ?_)
  rcases hr1 with ⟨rfl, c2, c3⟩ | ⟨rfl, c4⟩ | ⟨rfl, c5⟩
  · refine lv_if_ne (tgt := 12) hx hb dX10_write_6 (by decide) (fun c6 => ?_) (fun c6 => absurd c6 (by decide))
    refine lv_aload_n hx hb dX10_write_12 rfl (lv_at hl 0 rfl) ?_
    refine va_get (D := G.1) (ci := 10) (v := .ref sl) (C := RX10) (T := TX10) (N := 15) hx hb hw inGX10 hown hK hP 0 rfl rfl 8 (by decide) (hw _ kw_50) (fun _ h9 => h9) rfl dX10_write_13 ?_
    refine lv_iload_n hx hb dX10_write_16 rfl (lv_at hl 1 rfl) ?_
    rcases sw_0_3 p0 (by rintro (z0 | z0) <;> (have z9 : False := (by have z1 := c2; have z2 := c3; simp only [fa_lt, fa_le, fa_eq, fa_lt64, fa_le64, fa_eq64, Int32.toInt_toInt64, tc_0, tc_3] at z1 z2 <;> omega); exact z9)) with rfl | rfl | rfl | rfl
    · refine va_aldq hx hb hK hP 1 5 rfl rfl (vp_in_iff.mpr (by decide)) dX10_write_17 ?_
      refine W.eq (g2 := F0 m 18 ls [.ref s0]) rfl ?_
      refine vp_callSi (va_Run.run (va_runV (As := []) (rest := []) ⟨hx, hb, hml, hown, hw⟩ (c_isHeld0 l G s0 n0) (cwV 0 hw (gdV kw_52 kw_53 kw_54 kw_55 kw_51) rfl rfl rfl ⟨rfl, hdX8_isHeld⟩ ⟨(Nat.le_of_ble_eq_true rfl), (Nat.le_of_ble_eq_true rfl)⟩) (preS_V (wc := [(s0, .inr (8, [.ref n0, .int (-1), .int 0]))]) (ci := 8) hKG hP [2] rfl rfl rfl) rfl rfl hl.1 rfl (lv_room (Nat.le_of_ble_eq_true rfl)) dX10_write_18 ⟨(Nat.le_of_ble_eq_true rfl), (Nat.le_of_ble_eq_true rfl)⟩)) (fun r8 hr8 => ?_)
      subst hr8
      refine lv_if_ne (tgt := 27) hx hb dX10_write_21 (by decide) (fun c9 => absurd (by decide) c9) (fun c9 => ?_)
      refine lv_bipush (v := (-6)) hx hb dX10_write_24 (by decide) ?_
      exact W.iret (v := (-6)) hx hb hr (fun t ht hW => ⟨(-6), rfl, (Or.inl ⟨rfl, c2, c3⟩), ht⟩) (fun _ h => absurd h List.not_mem_nil) dX10_write_26
    · refine va_aldq hx hb hK hP 1 5 rfl rfl (vp_in_iff.mpr (by decide)) dX10_write_17 ?_
      refine W.eq (g2 := F0 m 18 ls [.ref s1]) rfl ?_
      refine vp_callSi (va_Run.run (va_runV (As := []) (rest := []) ⟨hx, hb, hml, hown, hw⟩ (c_isHeld0 l G s1 n1) (cwV 0 hw (gdV kw_52 kw_53 kw_54 kw_55 kw_51) rfl rfl rfl ⟨rfl, hdX8_isHeld⟩ ⟨(Nat.le_of_ble_eq_true rfl), (Nat.le_of_ble_eq_true rfl)⟩) (preS_V (wc := [(s1, .inr (8, [.ref n1, .int (-1), .int 0]))]) (ci := 8) hKG hP [3] rfl rfl rfl) rfl rfl hl.1 rfl (lv_room (Nat.le_of_ble_eq_true rfl)) dX10_write_18 ⟨(Nat.le_of_ble_eq_true rfl), (Nat.le_of_ble_eq_true rfl)⟩)) (fun r10 hr10 => ?_)
      subst hr10
      refine lv_if_ne (tgt := 27) hx hb dX10_write_21 (by decide) (fun c11 => absurd (by decide) c11) (fun c11 => ?_)
      refine lv_bipush (v := (-6)) hx hb dX10_write_24 (by decide) ?_
      exact W.iret (v := (-6)) hx hb hr (fun t ht hW => ⟨(-6), rfl, (Or.inl ⟨rfl, c2, c3⟩), ht⟩) (fun _ h => absurd h List.not_mem_nil) dX10_write_26
    · refine va_aldq hx hb hK hP 1 5 rfl rfl (vp_in_iff.mpr (by decide)) dX10_write_17 ?_
      refine W.eq (g2 := F0 m 18 ls [.ref s2]) rfl ?_
      refine vp_callSi (va_Run.run (va_runV (As := []) (rest := []) ⟨hx, hb, hml, hown, hw⟩ (c_isHeld0 l G s2 n2) (cwV 0 hw (gdV kw_52 kw_53 kw_54 kw_55 kw_51) rfl rfl rfl ⟨rfl, hdX8_isHeld⟩ ⟨(Nat.le_of_ble_eq_true rfl), (Nat.le_of_ble_eq_true rfl)⟩) (preS_V (wc := [(s2, .inr (8, [.ref n2, .int (-1), .int 0]))]) (ci := 8) hKG hP [4] rfl rfl rfl) rfl rfl hl.1 rfl (lv_room (Nat.le_of_ble_eq_true rfl)) dX10_write_18 ⟨(Nat.le_of_ble_eq_true rfl), (Nat.le_of_ble_eq_true rfl)⟩)) (fun r12 hr12 => ?_)
      subst hr12
      refine lv_if_ne (tgt := 27) hx hb dX10_write_21 (by decide) (fun c13 => absurd (by decide) c13) (fun c13 => ?_)
      refine lv_bipush (v := (-6)) hx hb dX10_write_24 (by decide) ?_
      exact W.iret (v := (-6)) hx hb hr (fun t ht hW => ⟨(-6), rfl, (Or.inl ⟨rfl, c2, c3⟩), ht⟩) (fun _ h => absurd h List.not_mem_nil) dX10_write_26
    · refine va_aldq hx hb hK hP 1 5 rfl rfl (vp_in_iff.mpr (by decide)) dX10_write_17 ?_
      refine W.eq (g2 := F0 m 18 ls [.ref s3]) rfl ?_
      refine vp_callSi (va_Run.run (va_runV (As := []) (rest := []) ⟨hx, hb, hml, hown, hw⟩ (c_isHeld0 l G s3 n3) (cwV 0 hw (gdV kw_52 kw_53 kw_54 kw_55 kw_51) rfl rfl rfl ⟨rfl, hdX8_isHeld⟩ ⟨(Nat.le_of_ble_eq_true rfl), (Nat.le_of_ble_eq_true rfl)⟩) (preS_V (wc := [(s3, .inr (8, [.ref n3, .int (-1), .int 0]))]) (ci := 8) hKG hP [5] rfl rfl rfl) rfl rfl hl.1 rfl (lv_room (Nat.le_of_ble_eq_true rfl)) dX10_write_18 ⟨(Nat.le_of_ble_eq_true rfl), (Nat.le_of_ble_eq_true rfl)⟩)) (fun r14 hr14 => ?_)
      subst hr14
      refine lv_if_ne (tgt := 27) hx hb dX10_write_21 (by decide) (fun c15 => absurd (by decide) c15) (fun c15 => ?_)
      refine lv_bipush (v := (-6)) hx hb dX10_write_24 (by decide) ?_
      exact W.iret (v := (-6)) hx hb hr (fun t ht hW => ⟨(-6), rfl, (Or.inl ⟨rfl, c2, c3⟩), ht⟩) (fun _ h => absurd h List.not_mem_nil) dX10_write_26
  · refine lv_if_ne (tgt := 12) hx hb dX10_write_6 (by decide) (fun c16 => absurd (by decide) c16) (fun c16 => ?_)
    refine lv_bipush (v := (-2)) hx hb dX10_write_9 (by decide) ?_
    exact W.iret (v := (-2)) hx hb hr (fun t ht hW => ⟨(-2), rfl, (Or.inr (Or.inl ⟨rfl, c4⟩)), ht⟩) (fun _ h => absurd h List.not_mem_nil) dX10_write_11
  · refine lv_if_ne (tgt := 12) hx hb dX10_write_6 (by decide) (fun c17 => absurd (by decide) c17) (fun c17 => ?_)
    refine lv_bipush (v := (-2)) hx hb dX10_write_9 (by decide) ?_
    exact W.iret (v := (-2)) hx hb hr (fun t ht hW => ⟨(-2), rfl, (Or.inr (Or.inr ⟨rfl, c5⟩)), ht⟩) (fun _ h => absurd h List.not_mem_nil) dX10_write_11
set_option maxHeartbeats 4000000 in
set_option maxRecDepth 100000 in
theorem c_X10_paste (l : Launch) (G : KG) (x0 : Nat) (tp : Nat) (rd : Nat) (nw : Nat) (sp : Nat) (im : Nat) (ir : Nat) (kp : Nat) (sl : Nat) (tk : Nat) (hn : Nat) (rc : Nat) (jn : Nat) (br : Nat) (sh : Nat) (s0 : Nat) (s1 : Nat) (s2 : Nat) (s3 : Nat) (n0 : Nat) (n1 : Nat) (n2 : Nat) (n3 : Nat) (p0 : Int32) (p1 : Int32) (p2 : Int32) (p3 : Int32) (p4 : Int32) : Met l yX10_paste wgX10_paste ({ frames := 1, cells := 0, slots := 0, locals := 22 }) (preS G [.ref x0, .int p0, .int p1, .int p2, .int p3, .int p4] [(x0, .inr (10, [.ref tp, .int 0, .ref rd, .ref nw, .ref sp, .ref im, .ref ir, .ref kp, .ref sl, .ref tk, .ref hn, .ref rc, .ref jn, .ref br, .ref sh])), (sl, .inl (G.2 5, 4, .inr (.inr (.inr (.inr (va_up (va_up (va_up (va_up (fun _ => none) 0 (some s0)) 1 (some s1)) 2 (some s2)) 3 (some s3))))))), (s0, .inr (8, [.ref n0, .int (-1), .int 0])), (s1, .inr (8, [.ref n1, .int (-1), .int 0])), (s2, .inr (8, [.ref n2, .int (-1), .int 0])), (s3, .inr (8, [.ref n3, .int (-1), .int 0]))]) (vp_Si (fun (r : Int32) => (r = (-6) ∧ ¬ p0 < 0 ∧ ¬ 3 < p0 ∧ ¬ p2 < 0 ∧ ¬ 3 < p2) ∨ (r = (-2) ∧ p0 < 0) ∨ (r = (-2) ∧ 3 < p0) ∨ (r = (-2) ∧ p2 < 0) ∨ (r = (-2) ∧ 3 < p2))) 0 0 (fun _ => False) := by
  refine Met.ofW (cc := cX10_paste) (maxL := 8) (ret := (some .int)) (by decide) rfl ?_
  intro p e s m args below meth c s₁ B hml hv
  obtain ⟨rfl, hP, hKG⟩ := hv
  obtain ⟨hK, hAO⟩ := id hKG
  have hx := B.exec
  have hb := B.bytes
  have hr := B.returns
  have hts := atoms_spec (ws := wgX10_paste) B.pre
  have hw : ∀ w ∈ wG, w.before _ s = true := fun w h => hts w (List.mem_cons_of_mem _ h)
  have hown : s.vm.findClass RX10 = some m.cls := findClass_of_methodNamed B.named
  have hlocks := B.notSynchronized
  have hl := lv_entry ([.ref x0, .int p0, .int p1, .int p2, .int p3, .int p4]) (n := 8) (Nat.le_of_ble_eq_true rfl)
  rw [lg_entry_eq]
  generalize (lg_sl ([.ref x0, .int p0, .int p1, .int p2, .int p3, .int p4]) ++ List.replicate (8 - (lg_sl ([.ref x0, .int p0, .int p1, .int p2, .int p3, .int p4])).length) Slot.unset).toArray = ls at hl ⊢
  have hl : lv_has ls 8 [(0, .ref x0), (1, .int p0), (2, .int p1), (3, .int p2), (4, .int p3), (5, .int p4)] := hl
  refine lv_iload_n hx hb dX10_paste_0 rfl (lv_at hl 1 rfl) ?_
  refine lv_iconst (v := 0) hx hb dX10_paste_1 (by decide) ?_
  refine lv_iconst (v := 3) hx hb dX10_paste_2 (by decide) ?_
  refine vp_callSi (va_Run.run (va_runS (As := [.int p0, .int 0, .int 3]) (rest := []) ⟨hx, hb, hml, hown, hw⟩ (c_isAmong l G p0 0 3) (va_cwS 3 hw (gdT kw_38 kw_39 kw_8 kw_37) rfl rfl rfl hdX10_isAmong ⟨(Nat.le_of_ble_eq_true rfl), (Nat.le_of_ble_eq_true rfl)⟩) (preS_S (wc := []) hKG hP [] rfl) rfl rfl hl.1 rfl (lv_room (Nat.le_of_ble_eq_true rfl)) dX10_paste_3 ⟨(Nat.le_of_ble_eq_true rfl), (Nat.le_of_ble_eq_true rfl)⟩)) (fun r1 hr1 => ?_)
  rcases hr1 with ⟨rfl, c2, c3⟩ | ⟨rfl, c4⟩ | ⟨rfl, c5⟩
  · refine lv_if_eq (tgt := 18) hx hb dX10_paste_6 (by decide) (fun c6 => absurd c6 (by decide)) (fun c6 => ?_)
    refine lv_iload_n hx hb dX10_paste_9 rfl (lv_at hl 3 rfl) ?_
    refine lv_iconst (v := 0) hx hb dX10_paste_10 (by decide) ?_
    refine lv_iconst (v := 3) hx hb dX10_paste_11 (by decide) ?_
    refine vp_callSi (va_Run.run (va_runS (As := [.int p2, .int 0, .int 3]) (rest := []) ⟨hx, hb, hml, hown, hw⟩ (c_isAmong l G p2 0 3) (va_cwS 3 hw (gdT kw_38 kw_39 kw_8 kw_37) rfl rfl rfl hdX10_isAmong ⟨(Nat.le_of_ble_eq_true rfl), (Nat.le_of_ble_eq_true rfl)⟩) (preS_S (wc := []) hKG hP [] rfl) rfl rfl hl.1 rfl (lv_room (Nat.le_of_ble_eq_true rfl)) dX10_paste_12 ⟨(Nat.le_of_ble_eq_true rfl), (Nat.le_of_ble_eq_true rfl)⟩)) (fun r7 hr7 => ?_)
    rcases hr7 with ⟨rfl, c8, c9⟩ | ⟨rfl, c10⟩ | ⟨rfl, c11⟩
    · refine lv_if_ne (tgt := 21) hx hb dX10_paste_15 (by decide) (fun c12 => ?_) (fun c12 => absurd c12 (by decide))
      refine lv_aload_n hx hb dX10_paste_21 rfl (lv_at hl 0 rfl) ?_
      refine va_get (D := G.1) (ci := 10) (v := .ref sl) (C := RX10) (T := TX10) (N := 15) hx hb hw inGX10 hown hK hP 0 rfl rfl 8 (by decide) (hw _ kw_50) (fun _ h9 => h9) rfl dX10_paste_22 ?_
      refine lv_iload_n hx hb dX10_paste_25 rfl (lv_at hl 1 rfl) ?_
      rcases sw_0_3 p0 (by rintro (z0 | z0) <;> (have z9 : False := (by have z1 := c2; have z2 := c3; simp only [fa_lt, fa_le, fa_eq, fa_lt64, fa_le64, fa_eq64, Int32.toInt_toInt64, tc_0, tc_3] at z1 z2 <;> omega); exact z9)) with rfl | rfl | rfl | rfl
      · refine va_aldq hx hb hK hP 1 5 rfl rfl (vp_in_iff.mpr (by decide)) dX10_paste_26 ?_
        refine W.eq (g2 := F0 m 27 ls [.ref s0]) rfl ?_
        refine lv_astore (lv' := [(6, .ref s0), (0, .ref x0), (1, .int 0), (2, .int p1), (3, .int p2), (4, .int p3), (5, .int p4)]) hx hb dX10_paste_27 hl (by decide) rfl (fun ls hl => ?_)
        refine lv_aload_n hx hb dX10_paste_29 rfl (lv_at hl 1 rfl) ?_
        refine va_get (D := G.1) (ci := 10) (v := .ref sl) (C := RX10) (T := TX10) (N := 15) hx hb hw inGX10 hown hK hP 0 rfl rfl 8 (by decide) (hw _ kw_50) (fun _ h9 => h9) rfl dX10_paste_30 ?_
        refine lv_iload_n hx hb dX10_paste_33 rfl (lv_at hl 4 rfl) ?_
        rcases sw_0_3 p2 (by rintro (z0 | z0) <;> (have z9 : False := (by have z1 := c8; have z2 := c9; simp only [fa_lt, fa_le, fa_eq, fa_lt64, fa_le64, fa_eq64, Int32.toInt_toInt64, tc_0, tc_3] at z1 z2 <;> omega); exact z9)) with rfl | rfl | rfl | rfl
        · refine va_aldq hx hb hK hP 1 5 rfl rfl (vp_in_iff.mpr (by decide)) dX10_paste_34 ?_
          refine W.eq (g2 := F0 m 35 ls [.ref s0]) rfl ?_
          refine lv_astore (lv' := [(7, .ref s0), (6, .ref s0), (0, .ref x0), (1, .int 0), (2, .int p1), (3, .int 0), (4, .int p3), (5, .int p4)]) hx hb dX10_paste_35 hl (by decide) rfl (fun ls hl => ?_)
          refine lv_aload hx hb dX10_paste_37 (lv_at hl 1 rfl) ?_
          refine vp_callSi (va_Run.run (va_runV (As := []) (rest := []) ⟨hx, hb, hml, hown, hw⟩ (c_isHeld0 l G s0 n0) (cwV 0 hw (gdV kw_52 kw_53 kw_54 kw_55 kw_51) rfl rfl rfl ⟨rfl, hdX8_isHeld⟩ ⟨(Nat.le_of_ble_eq_true rfl), (Nat.le_of_ble_eq_true rfl)⟩) (preS_V (wc := [(s0, .inr (8, [.ref n0, .int (-1), .int 0]))]) (ci := 8) hKG hP [2] rfl rfl rfl) rfl rfl hl.1 rfl (lv_room (Nat.le_of_ble_eq_true rfl)) dX10_paste_39 ⟨(Nat.le_of_ble_eq_true rfl), (Nat.le_of_ble_eq_true rfl)⟩)) (fun r15 hr15 => ?_)
          subst hr15
          refine lv_if_eq (tgt := 53) hx hb dX10_paste_42 (by decide) (fun c16 => ?_) (fun c16 => absurd (by decide) c16)
          refine lv_bipush (v := (-6)) hx hb dX10_paste_53 (by decide) ?_
          exact W.iret (v := (-6)) hx hb hr (fun t ht hW => ⟨(-6), rfl, (Or.inl ⟨rfl, c2, c3, c2, c3⟩), ht⟩) (fun _ h => absurd h List.not_mem_nil) dX10_paste_55
        · refine va_aldq hx hb hK hP 1 5 rfl rfl (vp_in_iff.mpr (by decide)) dX10_paste_34 ?_
          refine W.eq (g2 := F0 m 35 ls [.ref s1]) rfl ?_
          refine lv_astore (lv' := [(7, .ref s1), (6, .ref s0), (0, .ref x0), (1, .int 0), (2, .int p1), (3, .int 1), (4, .int p3), (5, .int p4)]) hx hb dX10_paste_35 hl (by decide) rfl (fun ls hl => ?_)
          refine lv_aload hx hb dX10_paste_37 (lv_at hl 1 rfl) ?_
          refine vp_callSi (va_Run.run (va_runV (As := []) (rest := []) ⟨hx, hb, hml, hown, hw⟩ (c_isHeld0 l G s0 n0) (cwV 0 hw (gdV kw_52 kw_53 kw_54 kw_55 kw_51) rfl rfl rfl ⟨rfl, hdX8_isHeld⟩ ⟨(Nat.le_of_ble_eq_true rfl), (Nat.le_of_ble_eq_true rfl)⟩) (preS_V (wc := [(s0, .inr (8, [.ref n0, .int (-1), .int 0]))]) (ci := 8) hKG hP [2] rfl rfl rfl) rfl rfl hl.1 rfl (lv_room (Nat.le_of_ble_eq_true rfl)) dX10_paste_39 ⟨(Nat.le_of_ble_eq_true rfl), (Nat.le_of_ble_eq_true rfl)⟩)) (fun r17 hr17 => ?_)
          subst hr17
          refine lv_if_eq (tgt := 53) hx hb dX10_paste_42 (by decide) (fun c18 => ?_) (fun c18 => absurd (by decide) c18)
          refine lv_bipush (v := (-6)) hx hb dX10_paste_53 (by decide) ?_
          exact W.iret (v := (-6)) hx hb hr (fun t ht hW => ⟨(-6), rfl, (Or.inl ⟨rfl, c2, c3, c8, c9⟩), ht⟩) (fun _ h => absurd h List.not_mem_nil) dX10_paste_55
        · refine va_aldq hx hb hK hP 1 5 rfl rfl (vp_in_iff.mpr (by decide)) dX10_paste_34 ?_
          refine W.eq (g2 := F0 m 35 ls [.ref s2]) rfl ?_
          refine lv_astore (lv' := [(7, .ref s2), (6, .ref s0), (0, .ref x0), (1, .int 0), (2, .int p1), (3, .int 2), (4, .int p3), (5, .int p4)]) hx hb dX10_paste_35 hl (by decide) rfl (fun ls hl => ?_)
          refine lv_aload hx hb dX10_paste_37 (lv_at hl 1 rfl) ?_
          refine vp_callSi (va_Run.run (va_runV (As := []) (rest := []) ⟨hx, hb, hml, hown, hw⟩ (c_isHeld0 l G s0 n0) (cwV 0 hw (gdV kw_52 kw_53 kw_54 kw_55 kw_51) rfl rfl rfl ⟨rfl, hdX8_isHeld⟩ ⟨(Nat.le_of_ble_eq_true rfl), (Nat.le_of_ble_eq_true rfl)⟩) (preS_V (wc := [(s0, .inr (8, [.ref n0, .int (-1), .int 0]))]) (ci := 8) hKG hP [2] rfl rfl rfl) rfl rfl hl.1 rfl (lv_room (Nat.le_of_ble_eq_true rfl)) dX10_paste_39 ⟨(Nat.le_of_ble_eq_true rfl), (Nat.le_of_ble_eq_true rfl)⟩)) (fun r19 hr19 => ?_)
          subst hr19
          refine lv_if_eq (tgt := 53) hx hb dX10_paste_42 (by decide) (fun c20 => ?_) (fun c20 => absurd (by decide) c20)
          refine lv_bipush (v := (-6)) hx hb dX10_paste_53 (by decide) ?_
          exact W.iret (v := (-6)) hx hb hr (fun t ht hW => ⟨(-6), rfl, (Or.inl ⟨rfl, c2, c3, c8, c9⟩), ht⟩) (fun _ h => absurd h List.not_mem_nil) dX10_paste_55
        · refine va_aldq hx hb hK hP 1 5 rfl rfl (vp_in_iff.mpr (by decide)) dX10_paste_34 ?_
          refine W.eq (g2 := F0 m 35 ls [.ref s3]) rfl ?_
          refine lv_astore (lv' := [(7, .ref s3), (6, .ref s0), (0, .ref x0), (1, .int 0), (2, .int p1), (3, .int 3), (4, .int p3), (5, .int p4)]) hx hb dX10_paste_35 hl (by decide) rfl (fun ls hl => ?_)
          refine lv_aload hx hb dX10_paste_37 (lv_at hl 1 rfl) ?_
          refine vp_callSi (va_Run.run (va_runV (As := []) (rest := []) ⟨hx, hb, hml, hown, hw⟩ (c_isHeld0 l G s0 n0) (cwV 0 hw (gdV kw_52 kw_53 kw_54 kw_55 kw_51) rfl rfl rfl ⟨rfl, hdX8_isHeld⟩ ⟨(Nat.le_of_ble_eq_true rfl), (Nat.le_of_ble_eq_true rfl)⟩) (preS_V (wc := [(s0, .inr (8, [.ref n0, .int (-1), .int 0]))]) (ci := 8) hKG hP [2] rfl rfl rfl) rfl rfl hl.1 rfl (lv_room (Nat.le_of_ble_eq_true rfl)) dX10_paste_39 ⟨(Nat.le_of_ble_eq_true rfl), (Nat.le_of_ble_eq_true rfl)⟩)) (fun r21 hr21 => ?_)
          subst hr21
          refine lv_if_eq (tgt := 53) hx hb dX10_paste_42 (by decide) (fun c22 => ?_) (fun c22 => absurd (by decide) c22)
          refine lv_bipush (v := (-6)) hx hb dX10_paste_53 (by decide) ?_
          exact W.iret (v := (-6)) hx hb hr (fun t ht hW => ⟨(-6), rfl, (Or.inl ⟨rfl, c2, c3, c3, c9⟩), ht⟩) (fun _ h => absurd h List.not_mem_nil) dX10_paste_55
      · refine va_aldq hx hb hK hP 1 5 rfl rfl (vp_in_iff.mpr (by decide)) dX10_paste_26 ?_
        refine W.eq (g2 := F0 m 27 ls [.ref s1]) rfl ?_
        refine lv_astore (lv' := [(6, .ref s1), (0, .ref x0), (1, .int 1), (2, .int p1), (3, .int p2), (4, .int p3), (5, .int p4)]) hx hb dX10_paste_27 hl (by decide) rfl (fun ls hl => ?_)
        refine lv_aload_n hx hb dX10_paste_29 rfl (lv_at hl 1 rfl) ?_
        refine va_get (D := G.1) (ci := 10) (v := .ref sl) (C := RX10) (T := TX10) (N := 15) hx hb hw inGX10 hown hK hP 0 rfl rfl 8 (by decide) (hw _ kw_50) (fun _ h9 => h9) rfl dX10_paste_30 ?_
        refine lv_iload_n hx hb dX10_paste_33 rfl (lv_at hl 4 rfl) ?_
        rcases sw_0_3 p2 (by rintro (z0 | z0) <;> (have z9 : False := (by have z1 := c8; have z2 := c9; simp only [fa_lt, fa_le, fa_eq, fa_lt64, fa_le64, fa_eq64, Int32.toInt_toInt64, tc_0, tc_3] at z1 z2 <;> omega); exact z9)) with rfl | rfl | rfl | rfl
        · refine va_aldq hx hb hK hP 1 5 rfl rfl (vp_in_iff.mpr (by decide)) dX10_paste_34 ?_
          refine W.eq (g2 := F0 m 35 ls [.ref s0]) rfl ?_
          refine lv_astore (lv' := [(7, .ref s0), (6, .ref s1), (0, .ref x0), (1, .int 1), (2, .int p1), (3, .int 0), (4, .int p3), (5, .int p4)]) hx hb dX10_paste_35 hl (by decide) rfl (fun ls hl => ?_)
          refine lv_aload hx hb dX10_paste_37 (lv_at hl 1 rfl) ?_
          refine vp_callSi (va_Run.run (va_runV (As := []) (rest := []) ⟨hx, hb, hml, hown, hw⟩ (c_isHeld0 l G s1 n1) (cwV 0 hw (gdV kw_52 kw_53 kw_54 kw_55 kw_51) rfl rfl rfl ⟨rfl, hdX8_isHeld⟩ ⟨(Nat.le_of_ble_eq_true rfl), (Nat.le_of_ble_eq_true rfl)⟩) (preS_V (wc := [(s1, .inr (8, [.ref n1, .int (-1), .int 0]))]) (ci := 8) hKG hP [3] rfl rfl rfl) rfl rfl hl.1 rfl (lv_room (Nat.le_of_ble_eq_true rfl)) dX10_paste_39 ⟨(Nat.le_of_ble_eq_true rfl), (Nat.le_of_ble_eq_true rfl)⟩)) (fun r24 hr24 => ?_)
          subst hr24
          refine lv_if_eq (tgt := 53) hx hb dX10_paste_42 (by decide) (fun c25 => ?_) (fun c25 => absurd (by decide) c25)
          refine lv_bipush (v := (-6)) hx hb dX10_paste_53 (by decide) ?_
          exact W.iret (v := (-6)) hx hb hr (fun t ht hW => ⟨(-6), rfl, (Or.inl ⟨rfl, c2, c3, c8, c9⟩), ht⟩) (fun _ h => absurd h List.not_mem_nil) dX10_paste_55
        · refine va_aldq hx hb hK hP 1 5 rfl rfl (vp_in_iff.mpr (by decide)) dX10_paste_34 ?_
          refine W.eq (g2 := F0 m 35 ls [.ref s1]) rfl ?_
          refine lv_astore (lv' := [(7, .ref s1), (6, .ref s1), (0, .ref x0), (1, .int 1), (2, .int p1), (3, .int 1), (4, .int p3), (5, .int p4)]) hx hb dX10_paste_35 hl (by decide) rfl (fun ls hl => ?_)
          refine lv_aload hx hb dX10_paste_37 (lv_at hl 1 rfl) ?_
          refine vp_callSi (va_Run.run (va_runV (As := []) (rest := []) ⟨hx, hb, hml, hown, hw⟩ (c_isHeld0 l G s1 n1) (cwV 0 hw (gdV kw_52 kw_53 kw_54 kw_55 kw_51) rfl rfl rfl ⟨rfl, hdX8_isHeld⟩ ⟨(Nat.le_of_ble_eq_true rfl), (Nat.le_of_ble_eq_true rfl)⟩) (preS_V (wc := [(s1, .inr (8, [.ref n1, .int (-1), .int 0]))]) (ci := 8) hKG hP [3] rfl rfl rfl) rfl rfl hl.1 rfl (lv_room (Nat.le_of_ble_eq_true rfl)) dX10_paste_39 ⟨(Nat.le_of_ble_eq_true rfl), (Nat.le_of_ble_eq_true rfl)⟩)) (fun r26 hr26 => ?_)
          subst hr26
          refine lv_if_eq (tgt := 53) hx hb dX10_paste_42 (by decide) (fun c27 => ?_) (fun c27 => absurd (by decide) c27)
          refine lv_bipush (v := (-6)) hx hb dX10_paste_53 (by decide) ?_
          exact W.iret (v := (-6)) hx hb hr (fun t ht hW => ⟨(-6), rfl, (Or.inl ⟨rfl, c2, c3, c2, c3⟩), ht⟩) (fun _ h => absurd h List.not_mem_nil) dX10_paste_55
        · refine va_aldq hx hb hK hP 1 5 rfl rfl (vp_in_iff.mpr (by decide)) dX10_paste_34 ?_
          refine W.eq (g2 := F0 m 35 ls [.ref s2]) rfl ?_
          refine lv_astore (lv' := [(7, .ref s2), (6, .ref s1), (0, .ref x0), (1, .int 1), (2, .int p1), (3, .int 2), (4, .int p3), (5, .int p4)]) hx hb dX10_paste_35 hl (by decide) rfl (fun ls hl => ?_)
          refine lv_aload hx hb dX10_paste_37 (lv_at hl 1 rfl) ?_
          refine vp_callSi (va_Run.run (va_runV (As := []) (rest := []) ⟨hx, hb, hml, hown, hw⟩ (c_isHeld0 l G s1 n1) (cwV 0 hw (gdV kw_52 kw_53 kw_54 kw_55 kw_51) rfl rfl rfl ⟨rfl, hdX8_isHeld⟩ ⟨(Nat.le_of_ble_eq_true rfl), (Nat.le_of_ble_eq_true rfl)⟩) (preS_V (wc := [(s1, .inr (8, [.ref n1, .int (-1), .int 0]))]) (ci := 8) hKG hP [3] rfl rfl rfl) rfl rfl hl.1 rfl (lv_room (Nat.le_of_ble_eq_true rfl)) dX10_paste_39 ⟨(Nat.le_of_ble_eq_true rfl), (Nat.le_of_ble_eq_true rfl)⟩)) (fun r28 hr28 => ?_)
          subst hr28
          refine lv_if_eq (tgt := 53) hx hb dX10_paste_42 (by decide) (fun c29 => ?_) (fun c29 => absurd (by decide) c29)
          refine lv_bipush (v := (-6)) hx hb dX10_paste_53 (by decide) ?_
          exact W.iret (v := (-6)) hx hb hr (fun t ht hW => ⟨(-6), rfl, (Or.inl ⟨rfl, c2, c3, c8, c9⟩), ht⟩) (fun _ h => absurd h List.not_mem_nil) dX10_paste_55
        · refine va_aldq hx hb hK hP 1 5 rfl rfl (vp_in_iff.mpr (by decide)) dX10_paste_34 ?_
          refine W.eq (g2 := F0 m 35 ls [.ref s3]) rfl ?_
          refine lv_astore (lv' := [(7, .ref s3), (6, .ref s1), (0, .ref x0), (1, .int 1), (2, .int p1), (3, .int 3), (4, .int p3), (5, .int p4)]) hx hb dX10_paste_35 hl (by decide) rfl (fun ls hl => ?_)
          refine lv_aload hx hb dX10_paste_37 (lv_at hl 1 rfl) ?_
          refine vp_callSi (va_Run.run (va_runV (As := []) (rest := []) ⟨hx, hb, hml, hown, hw⟩ (c_isHeld0 l G s1 n1) (cwV 0 hw (gdV kw_52 kw_53 kw_54 kw_55 kw_51) rfl rfl rfl ⟨rfl, hdX8_isHeld⟩ ⟨(Nat.le_of_ble_eq_true rfl), (Nat.le_of_ble_eq_true rfl)⟩) (preS_V (wc := [(s1, .inr (8, [.ref n1, .int (-1), .int 0]))]) (ci := 8) hKG hP [3] rfl rfl rfl) rfl rfl hl.1 rfl (lv_room (Nat.le_of_ble_eq_true rfl)) dX10_paste_39 ⟨(Nat.le_of_ble_eq_true rfl), (Nat.le_of_ble_eq_true rfl)⟩)) (fun r30 hr30 => ?_)
          subst hr30
          refine lv_if_eq (tgt := 53) hx hb dX10_paste_42 (by decide) (fun c31 => ?_) (fun c31 => absurd (by decide) c31)
          refine lv_bipush (v := (-6)) hx hb dX10_paste_53 (by decide) ?_
          exact W.iret (v := (-6)) hx hb hr (fun t ht hW => ⟨(-6), rfl, (Or.inl ⟨rfl, c2, c3, c8, c9⟩), ht⟩) (fun _ h => absurd h List.not_mem_nil) dX10_paste_55
      · refine va_aldq hx hb hK hP 1 5 rfl rfl (vp_in_iff.mpr (by decide)) dX10_paste_26 ?_
        refine W.eq (g2 := F0 m 27 ls [.ref s2]) rfl ?_
        refine lv_astore (lv' := [(6, .ref s2), (0, .ref x0), (1, .int 2), (2, .int p1), (3, .int p2), (4, .int p3), (5, .int p4)]) hx hb dX10_paste_27 hl (by decide) rfl (fun ls hl => ?_)
        refine lv_aload_n hx hb dX10_paste_29 rfl (lv_at hl 1 rfl) ?_
        refine va_get (D := G.1) (ci := 10) (v := .ref sl) (C := RX10) (T := TX10) (N := 15) hx hb hw inGX10 hown hK hP 0 rfl rfl 8 (by decide) (hw _ kw_50) (fun _ h9 => h9) rfl dX10_paste_30 ?_
        refine lv_iload_n hx hb dX10_paste_33 rfl (lv_at hl 4 rfl) ?_
        rcases sw_0_3 p2 (by rintro (z0 | z0) <;> (have z9 : False := (by have z1 := c8; have z2 := c9; simp only [fa_lt, fa_le, fa_eq, fa_lt64, fa_le64, fa_eq64, Int32.toInt_toInt64, tc_0, tc_3] at z1 z2 <;> omega); exact z9)) with rfl | rfl | rfl | rfl
        · refine va_aldq hx hb hK hP 1 5 rfl rfl (vp_in_iff.mpr (by decide)) dX10_paste_34 ?_
          refine W.eq (g2 := F0 m 35 ls [.ref s0]) rfl ?_
          refine lv_astore (lv' := [(7, .ref s0), (6, .ref s2), (0, .ref x0), (1, .int 2), (2, .int p1), (3, .int 0), (4, .int p3), (5, .int p4)]) hx hb dX10_paste_35 hl (by decide) rfl (fun ls hl => ?_)
          refine lv_aload hx hb dX10_paste_37 (lv_at hl 1 rfl) ?_
          refine vp_callSi (va_Run.run (va_runV (As := []) (rest := []) ⟨hx, hb, hml, hown, hw⟩ (c_isHeld0 l G s2 n2) (cwV 0 hw (gdV kw_52 kw_53 kw_54 kw_55 kw_51) rfl rfl rfl ⟨rfl, hdX8_isHeld⟩ ⟨(Nat.le_of_ble_eq_true rfl), (Nat.le_of_ble_eq_true rfl)⟩) (preS_V (wc := [(s2, .inr (8, [.ref n2, .int (-1), .int 0]))]) (ci := 8) hKG hP [4] rfl rfl rfl) rfl rfl hl.1 rfl (lv_room (Nat.le_of_ble_eq_true rfl)) dX10_paste_39 ⟨(Nat.le_of_ble_eq_true rfl), (Nat.le_of_ble_eq_true rfl)⟩)) (fun r33 hr33 => ?_)
          subst hr33
          refine lv_if_eq (tgt := 53) hx hb dX10_paste_42 (by decide) (fun c34 => ?_) (fun c34 => absurd (by decide) c34)
          refine lv_bipush (v := (-6)) hx hb dX10_paste_53 (by decide) ?_
          exact W.iret (v := (-6)) hx hb hr (fun t ht hW => ⟨(-6), rfl, (Or.inl ⟨rfl, c2, c3, c8, c9⟩), ht⟩) (fun _ h => absurd h List.not_mem_nil) dX10_paste_55
        · refine va_aldq hx hb hK hP 1 5 rfl rfl (vp_in_iff.mpr (by decide)) dX10_paste_34 ?_
          refine W.eq (g2 := F0 m 35 ls [.ref s1]) rfl ?_
          refine lv_astore (lv' := [(7, .ref s1), (6, .ref s2), (0, .ref x0), (1, .int 2), (2, .int p1), (3, .int 1), (4, .int p3), (5, .int p4)]) hx hb dX10_paste_35 hl (by decide) rfl (fun ls hl => ?_)
          refine lv_aload hx hb dX10_paste_37 (lv_at hl 1 rfl) ?_
          refine vp_callSi (va_Run.run (va_runV (As := []) (rest := []) ⟨hx, hb, hml, hown, hw⟩ (c_isHeld0 l G s2 n2) (cwV 0 hw (gdV kw_52 kw_53 kw_54 kw_55 kw_51) rfl rfl rfl ⟨rfl, hdX8_isHeld⟩ ⟨(Nat.le_of_ble_eq_true rfl), (Nat.le_of_ble_eq_true rfl)⟩) (preS_V (wc := [(s2, .inr (8, [.ref n2, .int (-1), .int 0]))]) (ci := 8) hKG hP [4] rfl rfl rfl) rfl rfl hl.1 rfl (lv_room (Nat.le_of_ble_eq_true rfl)) dX10_paste_39 ⟨(Nat.le_of_ble_eq_true rfl), (Nat.le_of_ble_eq_true rfl)⟩)) (fun r35 hr35 => ?_)
          subst hr35
          refine lv_if_eq (tgt := 53) hx hb dX10_paste_42 (by decide) (fun c36 => ?_) (fun c36 => absurd (by decide) c36)
          refine lv_bipush (v := (-6)) hx hb dX10_paste_53 (by decide) ?_
          exact W.iret (v := (-6)) hx hb hr (fun t ht hW => ⟨(-6), rfl, (Or.inl ⟨rfl, c2, c3, c8, c9⟩), ht⟩) (fun _ h => absurd h List.not_mem_nil) dX10_paste_55
        · refine va_aldq hx hb hK hP 1 5 rfl rfl (vp_in_iff.mpr (by decide)) dX10_paste_34 ?_
          refine W.eq (g2 := F0 m 35 ls [.ref s2]) rfl ?_
          refine lv_astore (lv' := [(7, .ref s2), (6, .ref s2), (0, .ref x0), (1, .int 2), (2, .int p1), (3, .int 2), (4, .int p3), (5, .int p4)]) hx hb dX10_paste_35 hl (by decide) rfl (fun ls hl => ?_)
          refine lv_aload hx hb dX10_paste_37 (lv_at hl 1 rfl) ?_
          refine vp_callSi (va_Run.run (va_runV (As := []) (rest := []) ⟨hx, hb, hml, hown, hw⟩ (c_isHeld0 l G s2 n2) (cwV 0 hw (gdV kw_52 kw_53 kw_54 kw_55 kw_51) rfl rfl rfl ⟨rfl, hdX8_isHeld⟩ ⟨(Nat.le_of_ble_eq_true rfl), (Nat.le_of_ble_eq_true rfl)⟩) (preS_V (wc := [(s2, .inr (8, [.ref n2, .int (-1), .int 0]))]) (ci := 8) hKG hP [4] rfl rfl rfl) rfl rfl hl.1 rfl (lv_room (Nat.le_of_ble_eq_true rfl)) dX10_paste_39 ⟨(Nat.le_of_ble_eq_true rfl), (Nat.le_of_ble_eq_true rfl)⟩)) (fun r37 hr37 => ?_)
          subst hr37
          refine lv_if_eq (tgt := 53) hx hb dX10_paste_42 (by decide) (fun c38 => ?_) (fun c38 => absurd (by decide) c38)
          refine lv_bipush (v := (-6)) hx hb dX10_paste_53 (by decide) ?_
          exact W.iret (v := (-6)) hx hb hr (fun t ht hW => ⟨(-6), rfl, (Or.inl ⟨rfl, c2, c3, c2, c3⟩), ht⟩) (fun _ h => absurd h List.not_mem_nil) dX10_paste_55
        · refine va_aldq hx hb hK hP 1 5 rfl rfl (vp_in_iff.mpr (by decide)) dX10_paste_34 ?_
          refine W.eq (g2 := F0 m 35 ls [.ref s3]) rfl ?_
          refine lv_astore (lv' := [(7, .ref s3), (6, .ref s2), (0, .ref x0), (1, .int 2), (2, .int p1), (3, .int 3), (4, .int p3), (5, .int p4)]) hx hb dX10_paste_35 hl (by decide) rfl (fun ls hl => ?_)
          refine lv_aload hx hb dX10_paste_37 (lv_at hl 1 rfl) ?_
          refine vp_callSi (va_Run.run (va_runV (As := []) (rest := []) ⟨hx, hb, hml, hown, hw⟩ (c_isHeld0 l G s2 n2) (cwV 0 hw (gdV kw_52 kw_53 kw_54 kw_55 kw_51) rfl rfl rfl ⟨rfl, hdX8_isHeld⟩ ⟨(Nat.le_of_ble_eq_true rfl), (Nat.le_of_ble_eq_true rfl)⟩) (preS_V (wc := [(s2, .inr (8, [.ref n2, .int (-1), .int 0]))]) (ci := 8) hKG hP [4] rfl rfl rfl) rfl rfl hl.1 rfl (lv_room (Nat.le_of_ble_eq_true rfl)) dX10_paste_39 ⟨(Nat.le_of_ble_eq_true rfl), (Nat.le_of_ble_eq_true rfl)⟩)) (fun r39 hr39 => ?_)
          subst hr39
          refine lv_if_eq (tgt := 53) hx hb dX10_paste_42 (by decide) (fun c40 => ?_) (fun c40 => absurd (by decide) c40)
          refine lv_bipush (v := (-6)) hx hb dX10_paste_53 (by decide) ?_
          exact W.iret (v := (-6)) hx hb hr (fun t ht hW => ⟨(-6), rfl, (Or.inl ⟨rfl, c2, c3, c8, c9⟩), ht⟩) (fun _ h => absurd h List.not_mem_nil) dX10_paste_55
      · refine va_aldq hx hb hK hP 1 5 rfl rfl (vp_in_iff.mpr (by decide)) dX10_paste_26 ?_
        refine W.eq (g2 := F0 m 27 ls [.ref s3]) rfl ?_
        refine lv_astore (lv' := [(6, .ref s3), (0, .ref x0), (1, .int 3), (2, .int p1), (3, .int p2), (4, .int p3), (5, .int p4)]) hx hb dX10_paste_27 hl (by decide) rfl (fun ls hl => ?_)
        refine lv_aload_n hx hb dX10_paste_29 rfl (lv_at hl 1 rfl) ?_
        refine va_get (D := G.1) (ci := 10) (v := .ref sl) (C := RX10) (T := TX10) (N := 15) hx hb hw inGX10 hown hK hP 0 rfl rfl 8 (by decide) (hw _ kw_50) (fun _ h9 => h9) rfl dX10_paste_30 ?_
        refine lv_iload_n hx hb dX10_paste_33 rfl (lv_at hl 4 rfl) ?_
        rcases sw_0_3 p2 (by rintro (z0 | z0) <;> (have z9 : False := (by have z1 := c8; have z2 := c9; simp only [fa_lt, fa_le, fa_eq, fa_lt64, fa_le64, fa_eq64, Int32.toInt_toInt64, tc_0, tc_3] at z1 z2 <;> omega); exact z9)) with rfl | rfl | rfl | rfl
        · refine va_aldq hx hb hK hP 1 5 rfl rfl (vp_in_iff.mpr (by decide)) dX10_paste_34 ?_
          refine W.eq (g2 := F0 m 35 ls [.ref s0]) rfl ?_
          refine lv_astore (lv' := [(7, .ref s0), (6, .ref s3), (0, .ref x0), (1, .int 3), (2, .int p1), (3, .int 0), (4, .int p3), (5, .int p4)]) hx hb dX10_paste_35 hl (by decide) rfl (fun ls hl => ?_)
          refine lv_aload hx hb dX10_paste_37 (lv_at hl 1 rfl) ?_
          refine vp_callSi (va_Run.run (va_runV (As := []) (rest := []) ⟨hx, hb, hml, hown, hw⟩ (c_isHeld0 l G s3 n3) (cwV 0 hw (gdV kw_52 kw_53 kw_54 kw_55 kw_51) rfl rfl rfl ⟨rfl, hdX8_isHeld⟩ ⟨(Nat.le_of_ble_eq_true rfl), (Nat.le_of_ble_eq_true rfl)⟩) (preS_V (wc := [(s3, .inr (8, [.ref n3, .int (-1), .int 0]))]) (ci := 8) hKG hP [5] rfl rfl rfl) rfl rfl hl.1 rfl (lv_room (Nat.le_of_ble_eq_true rfl)) dX10_paste_39 ⟨(Nat.le_of_ble_eq_true rfl), (Nat.le_of_ble_eq_true rfl)⟩)) (fun r42 hr42 => ?_)
          subst hr42
          refine lv_if_eq (tgt := 53) hx hb dX10_paste_42 (by decide) (fun c43 => ?_) (fun c43 => absurd (by decide) c43)
          refine lv_bipush (v := (-6)) hx hb dX10_paste_53 (by decide) ?_
          exact W.iret (v := (-6)) hx hb hr (fun t ht hW => ⟨(-6), rfl, (Or.inl ⟨rfl, c2, c3, c8, c2⟩), ht⟩) (fun _ h => absurd h List.not_mem_nil) dX10_paste_55
        · refine va_aldq hx hb hK hP 1 5 rfl rfl (vp_in_iff.mpr (by decide)) dX10_paste_34 ?_
          refine W.eq (g2 := F0 m 35 ls [.ref s1]) rfl ?_
          refine lv_astore (lv' := [(7, .ref s1), (6, .ref s3), (0, .ref x0), (1, .int 3), (2, .int p1), (3, .int 1), (4, .int p3), (5, .int p4)]) hx hb dX10_paste_35 hl (by decide) rfl (fun ls hl => ?_)
          refine lv_aload hx hb dX10_paste_37 (lv_at hl 1 rfl) ?_
          refine vp_callSi (va_Run.run (va_runV (As := []) (rest := []) ⟨hx, hb, hml, hown, hw⟩ (c_isHeld0 l G s3 n3) (cwV 0 hw (gdV kw_52 kw_53 kw_54 kw_55 kw_51) rfl rfl rfl ⟨rfl, hdX8_isHeld⟩ ⟨(Nat.le_of_ble_eq_true rfl), (Nat.le_of_ble_eq_true rfl)⟩) (preS_V (wc := [(s3, .inr (8, [.ref n3, .int (-1), .int 0]))]) (ci := 8) hKG hP [5] rfl rfl rfl) rfl rfl hl.1 rfl (lv_room (Nat.le_of_ble_eq_true rfl)) dX10_paste_39 ⟨(Nat.le_of_ble_eq_true rfl), (Nat.le_of_ble_eq_true rfl)⟩)) (fun r44 hr44 => ?_)
          subst hr44
          refine lv_if_eq (tgt := 53) hx hb dX10_paste_42 (by decide) (fun c45 => ?_) (fun c45 => absurd (by decide) c45)
          refine lv_bipush (v := (-6)) hx hb dX10_paste_53 (by decide) ?_
          exact W.iret (v := (-6)) hx hb hr (fun t ht hW => ⟨(-6), rfl, (Or.inl ⟨rfl, c2, c3, c8, c9⟩), ht⟩) (fun _ h => absurd h List.not_mem_nil) dX10_paste_55
        · refine va_aldq hx hb hK hP 1 5 rfl rfl (vp_in_iff.mpr (by decide)) dX10_paste_34 ?_
          refine W.eq (g2 := F0 m 35 ls [.ref s2]) rfl ?_
          refine lv_astore (lv' := [(7, .ref s2), (6, .ref s3), (0, .ref x0), (1, .int 3), (2, .int p1), (3, .int 2), (4, .int p3), (5, .int p4)]) hx hb dX10_paste_35 hl (by decide) rfl (fun ls hl => ?_)
          refine lv_aload hx hb dX10_paste_37 (lv_at hl 1 rfl) ?_
          refine vp_callSi (va_Run.run (va_runV (As := []) (rest := []) ⟨hx, hb, hml, hown, hw⟩ (c_isHeld0 l G s3 n3) (cwV 0 hw (gdV kw_52 kw_53 kw_54 kw_55 kw_51) rfl rfl rfl ⟨rfl, hdX8_isHeld⟩ ⟨(Nat.le_of_ble_eq_true rfl), (Nat.le_of_ble_eq_true rfl)⟩) (preS_V (wc := [(s3, .inr (8, [.ref n3, .int (-1), .int 0]))]) (ci := 8) hKG hP [5] rfl rfl rfl) rfl rfl hl.1 rfl (lv_room (Nat.le_of_ble_eq_true rfl)) dX10_paste_39 ⟨(Nat.le_of_ble_eq_true rfl), (Nat.le_of_ble_eq_true rfl)⟩)) (fun r46 hr46 => ?_)
          subst hr46
          refine lv_if_eq (tgt := 53) hx hb dX10_paste_42 (by decide) (fun c47 => ?_) (fun c47 => absurd (by decide) c47)
          refine lv_bipush (v := (-6)) hx hb dX10_paste_53 (by decide) ?_
          exact W.iret (v := (-6)) hx hb hr (fun t ht hW => ⟨(-6), rfl, (Or.inl ⟨rfl, c2, c3, c8, c9⟩), ht⟩) (fun _ h => absurd h List.not_mem_nil) dX10_paste_55
        · refine va_aldq hx hb hK hP 1 5 rfl rfl (vp_in_iff.mpr (by decide)) dX10_paste_34 ?_
          refine W.eq (g2 := F0 m 35 ls [.ref s3]) rfl ?_
          refine lv_astore (lv' := [(7, .ref s3), (6, .ref s3), (0, .ref x0), (1, .int 3), (2, .int p1), (3, .int 3), (4, .int p3), (5, .int p4)]) hx hb dX10_paste_35 hl (by decide) rfl (fun ls hl => ?_)
          refine lv_aload hx hb dX10_paste_37 (lv_at hl 1 rfl) ?_
          refine vp_callSi (va_Run.run (va_runV (As := []) (rest := []) ⟨hx, hb, hml, hown, hw⟩ (c_isHeld0 l G s3 n3) (cwV 0 hw (gdV kw_52 kw_53 kw_54 kw_55 kw_51) rfl rfl rfl ⟨rfl, hdX8_isHeld⟩ ⟨(Nat.le_of_ble_eq_true rfl), (Nat.le_of_ble_eq_true rfl)⟩) (preS_V (wc := [(s3, .inr (8, [.ref n3, .int (-1), .int 0]))]) (ci := 8) hKG hP [5] rfl rfl rfl) rfl rfl hl.1 rfl (lv_room (Nat.le_of_ble_eq_true rfl)) dX10_paste_39 ⟨(Nat.le_of_ble_eq_true rfl), (Nat.le_of_ble_eq_true rfl)⟩)) (fun r48 hr48 => ?_)
          subst hr48
          refine lv_if_eq (tgt := 53) hx hb dX10_paste_42 (by decide) (fun c49 => ?_) (fun c49 => absurd (by decide) c49)
          refine lv_bipush (v := (-6)) hx hb dX10_paste_53 (by decide) ?_
          exact W.iret (v := (-6)) hx hb hr (fun t ht hW => ⟨(-6), rfl, (Or.inl ⟨rfl, c2, c3, c2, c3⟩), ht⟩) (fun _ h => absurd h List.not_mem_nil) dX10_paste_55
    · refine lv_if_ne (tgt := 21) hx hb dX10_paste_15 (by decide) (fun c50 => absurd (by decide) c50) (fun c50 => ?_)
      refine lv_bipush (v := (-2)) hx hb dX10_paste_18 (by decide) ?_
      exact W.iret (v := (-2)) hx hb hr (fun t ht hW => ⟨(-2), rfl, (Or.inr (Or.inr (Or.inr (Or.inl ⟨rfl, c10⟩)))), ht⟩) (fun _ h => absurd h List.not_mem_nil) dX10_paste_20
    · refine lv_if_ne (tgt := 21) hx hb dX10_paste_15 (by decide) (fun c51 => absurd (by decide) c51) (fun c51 => ?_)
      refine lv_bipush (v := (-2)) hx hb dX10_paste_18 (by decide) ?_
      exact W.iret (v := (-2)) hx hb hr (fun t ht hW => ⟨(-2), rfl, (Or.inr (Or.inr (Or.inr (Or.inr ⟨rfl, c11⟩)))), ht⟩) (fun _ h => absurd h List.not_mem_nil) dX10_paste_20
  · refine lv_if_eq (tgt := 18) hx hb dX10_paste_6 (by decide) (fun c52 => ?_) (fun c52 => absurd (by decide) c52)
    refine lv_bipush (v := (-2)) hx hb dX10_paste_18 (by decide) ?_
    exact W.iret (v := (-2)) hx hb hr (fun t ht hW => ⟨(-2), rfl, (Or.inr (Or.inl ⟨rfl, c4⟩)), ht⟩) (fun _ h => absurd h List.not_mem_nil) dX10_paste_20
  · refine lv_if_eq (tgt := 18) hx hb dX10_paste_6 (by decide) (fun c53 => ?_) (fun c53 => absurd (by decide) c53)
    refine lv_bipush (v := (-2)) hx hb dX10_paste_18 (by decide) ?_
    exact W.iret (v := (-2)) hx hb hr (fun t ht hW => ⟨(-2), rfl, (Or.inr (Or.inr (Or.inl ⟨rfl, c5⟩))), ht⟩) (fun _ h => absurd h List.not_mem_nil) dX10_paste_20
set_option maxHeartbeats 4000000 in
set_option maxRecDepth 100000 in
theorem c_slotsHeld (l : Launch) (G : KG) (x0 : Nat) (tp : Nat) (rd : Nat) (nw : Nat) (sp : Nat) (im : Nat) (ir : Nat) (kp : Nat) (sl : Nat) (tk : Nat) (hn : Nat) (rc : Nat) (jn : Nat) (br : Nat) (sh : Nat) (s0 : Nat) (s1 : Nat) (s2 : Nat) (s3 : Nat) (n0 : Nat) (n1 : Nat) (n2 : Nat) (n3 : Nat) : Met l yX10_slotsHeld wgX10_slotsHeld ({ frames := 1, cells := 0, slots := 0, locals := 20 }) (preS G [.ref x0] [(x0, .inr (10, [.ref tp, .int 0, .ref rd, .ref nw, .ref sp, .ref im, .ref ir, .ref kp, .ref sl, .ref tk, .ref hn, .ref rc, .ref jn, .ref br, .ref sh])), (sl, .inl (G.2 5, 4, .inr (.inr (.inr (.inr (va_up (va_up (va_up (va_up (fun _ => none) 0 (some s0)) 1 (some s1)) 2 (some s2)) 3 (some s3))))))), (s0, .inr (8, [.ref n0, .int (-1), .int 0])), (s1, .inr (8, [.ref n1, .int (-1), .int 0])), (s2, .inr (8, [.ref n2, .int (-1), .int 0])), (s3, .inr (8, [.ref n3, .int (-1), .int 0]))]) (vp_Si (fun (r : Int32) => (r = 0))) 0 0 (fun _ => False) := by
  refine Met.ofW (cc := cX10_slotsHeld) (maxL := 3) (ret := (some .int)) (by decide) rfl ?_
  intro p e s m args below meth c s₁ B hml hv
  obtain ⟨rfl, hP, hKG⟩ := hv
  obtain ⟨hK, hAO⟩ := id hKG
  have hx := B.exec
  have hb := B.bytes
  have hr := B.returns
  have hts := atoms_spec (ws := wgX10_slotsHeld) B.pre
  have hw : ∀ w ∈ wG, w.before _ s = true := fun w h => hts w (List.mem_cons_of_mem _ h)
  have hown : s.vm.findClass RX10 = some m.cls := findClass_of_methodNamed B.named
  have hlocks := B.notSynchronized
  have hl := lv_entry ([.ref x0]) (n := 3) (Nat.le_of_ble_eq_true rfl)
  rw [lg_entry_eq]
  generalize (lg_sl ([.ref x0]) ++ List.replicate (3 - (lg_sl ([.ref x0])).length) Slot.unset).toArray = ls at hl ⊢
  have hl : lv_has ls 3 [(0, .ref x0)] := hl
  refine lv_iconst (v := 0) hx hb dX10_slotsHeld_0 (by decide) ?_
  refine lv_istore_n (lv' := [(1, .int 0), (0, .ref x0)]) hx hb dX10_slotsHeld_1 rfl hl (by decide) rfl (fun ls hl => ?_)
  refine lv_iconst (v := 0) hx hb dX10_slotsHeld_2 (by decide) ?_
  refine lv_istore_n (lv' := [(2, .int 0), (1, .int 0), (0, .ref x0)]) hx hb dX10_slotsHeld_3 rfl hl (by decide) rfl (fun ls hl => ?_)
  refine lv_iload_n hx hb dX10_slotsHeld_4 rfl (lv_at hl 0 rfl) ?_
  refine lv_iconst (v := 4) hx hb dX10_slotsHeld_5 (by decide) ?_
  refine lv_icmp_ge (tgt := 30) hx hb dX10_slotsHeld_6 (by decide) (fun c1 => absurd c1 (by decide)) (fun c1 => ?_)
  refine lv_aload_n hx hb dX10_slotsHeld_9 rfl (lv_at hl 2 rfl) ?_
  refine va_get (D := G.1) (ci := 10) (v := .ref sl) (C := RX10) (T := TX10) (N := 15) hx hb hw inGX10 hown hK hP 0 rfl rfl 8 (by decide) (hw _ kw_50) (fun _ h9 => h9) rfl dX10_slotsHeld_10 ?_
  refine lv_iload_n hx hb dX10_slotsHeld_13 rfl (lv_at hl 0 rfl) ?_
  refine va_aldq hx hb hK hP 1 5 rfl rfl (vp_in_iff.mpr (by decide)) dX10_slotsHeld_14 ?_
  refine W.eq (g2 := F0 m 15 ls [.ref s0]) rfl ?_
  refine vp_callSi (va_Run.run (va_runV (As := []) (rest := []) ⟨hx, hb, hml, hown, hw⟩ (c_isHeld0 l G s0 n0) (cwV 0 hw (gdV kw_52 kw_53 kw_54 kw_55 kw_51) rfl rfl rfl ⟨rfl, hdX8_isHeld⟩ ⟨(Nat.le_of_ble_eq_true rfl), (Nat.le_of_ble_eq_true rfl)⟩) (preS_V (wc := [(s0, .inr (8, [.ref n0, .int (-1), .int 0]))]) (ci := 8) hKG hP [2] rfl rfl rfl) rfl rfl hl.1 rfl (lv_room (Nat.le_of_ble_eq_true rfl)) dX10_slotsHeld_15 ⟨(Nat.le_of_ble_eq_true rfl), (Nat.le_of_ble_eq_true rfl)⟩)) (fun r2 hr2 => ?_)
  subst hr2
  refine lv_if_eq (tgt := 24) hx hb dX10_slotsHeld_18 (by decide) (fun c3 => ?_) (fun c3 => absurd (by decide) c3)
  refine lv_iinc (v := 1) (lv' := [(2, .int 1), (1, .int 0), (0, .ref x0)]) hx hb dX10_slotsHeld_24 hl (k := 0) rfl (by decide) (by decide) rfl (fun ls hl => ?_)
  refine lv_goto (tgt := 4) hx hb dX10_slotsHeld_27 (by decide) ?_
  refine lv_iload_n hx hb dX10_slotsHeld_4 rfl (lv_at hl 0 rfl) ?_
  refine lv_iconst (v := 4) hx hb dX10_slotsHeld_5 (by decide) ?_
  refine lv_icmp_ge (tgt := 30) hx hb dX10_slotsHeld_6 (by decide) (fun c4 => absurd c4 (by decide)) (fun c4 => ?_)
  refine lv_aload_n hx hb dX10_slotsHeld_9 rfl (lv_at hl 2 rfl) ?_
  refine va_get (D := G.1) (ci := 10) (v := .ref sl) (C := RX10) (T := TX10) (N := 15) hx hb hw inGX10 hown hK hP 0 rfl rfl 8 (by decide) (hw _ kw_50) (fun _ h9 => h9) rfl dX10_slotsHeld_10 ?_
  refine lv_iload_n hx hb dX10_slotsHeld_13 rfl (lv_at hl 0 rfl) ?_
  refine va_aldq hx hb hK hP 1 5 rfl rfl (vp_in_iff.mpr (by decide)) dX10_slotsHeld_14 ?_
  refine W.eq (g2 := F0 m 15 ls [.ref s1]) rfl ?_
  refine vp_callSi (va_Run.run (va_runV (As := []) (rest := []) ⟨hx, hb, hml, hown, hw⟩ (c_isHeld0 l G s1 n1) (cwV 0 hw (gdV kw_52 kw_53 kw_54 kw_55 kw_51) rfl rfl rfl ⟨rfl, hdX8_isHeld⟩ ⟨(Nat.le_of_ble_eq_true rfl), (Nat.le_of_ble_eq_true rfl)⟩) (preS_V (wc := [(s1, .inr (8, [.ref n1, .int (-1), .int 0]))]) (ci := 8) hKG hP [3] rfl rfl rfl) rfl rfl hl.1 rfl (lv_room (Nat.le_of_ble_eq_true rfl)) dX10_slotsHeld_15 ⟨(Nat.le_of_ble_eq_true rfl), (Nat.le_of_ble_eq_true rfl)⟩)) (fun r5 hr5 => ?_)
  subst hr5
  refine lv_if_eq (tgt := 24) hx hb dX10_slotsHeld_18 (by decide) (fun c6 => ?_) (fun c6 => absurd (by decide) c6)
  refine lv_iinc (v := 2) (lv' := [(2, .int 2), (1, .int 0), (0, .ref x0)]) hx hb dX10_slotsHeld_24 hl (k := 0) rfl (by decide) (by decide) rfl (fun ls hl => ?_)
  refine lv_goto (tgt := 4) hx hb dX10_slotsHeld_27 (by decide) ?_
  refine lv_iload_n hx hb dX10_slotsHeld_4 rfl (lv_at hl 0 rfl) ?_
  refine lv_iconst (v := 4) hx hb dX10_slotsHeld_5 (by decide) ?_
  refine lv_icmp_ge (tgt := 30) hx hb dX10_slotsHeld_6 (by decide) (fun c7 => absurd c7 (by decide)) (fun c7 => ?_)
  refine lv_aload_n hx hb dX10_slotsHeld_9 rfl (lv_at hl 2 rfl) ?_
  refine va_get (D := G.1) (ci := 10) (v := .ref sl) (C := RX10) (T := TX10) (N := 15) hx hb hw inGX10 hown hK hP 0 rfl rfl 8 (by decide) (hw _ kw_50) (fun _ h9 => h9) rfl dX10_slotsHeld_10 ?_
  refine lv_iload_n hx hb dX10_slotsHeld_13 rfl (lv_at hl 0 rfl) ?_
  refine va_aldq hx hb hK hP 1 5 rfl rfl (vp_in_iff.mpr (by decide)) dX10_slotsHeld_14 ?_
  refine W.eq (g2 := F0 m 15 ls [.ref s2]) rfl ?_
  refine vp_callSi (va_Run.run (va_runV (As := []) (rest := []) ⟨hx, hb, hml, hown, hw⟩ (c_isHeld0 l G s2 n2) (cwV 0 hw (gdV kw_52 kw_53 kw_54 kw_55 kw_51) rfl rfl rfl ⟨rfl, hdX8_isHeld⟩ ⟨(Nat.le_of_ble_eq_true rfl), (Nat.le_of_ble_eq_true rfl)⟩) (preS_V (wc := [(s2, .inr (8, [.ref n2, .int (-1), .int 0]))]) (ci := 8) hKG hP [4] rfl rfl rfl) rfl rfl hl.1 rfl (lv_room (Nat.le_of_ble_eq_true rfl)) dX10_slotsHeld_15 ⟨(Nat.le_of_ble_eq_true rfl), (Nat.le_of_ble_eq_true rfl)⟩)) (fun r8 hr8 => ?_)
  subst hr8
  refine lv_if_eq (tgt := 24) hx hb dX10_slotsHeld_18 (by decide) (fun c9 => ?_) (fun c9 => absurd (by decide) c9)
  refine lv_iinc (v := 3) (lv' := [(2, .int 3), (1, .int 0), (0, .ref x0)]) hx hb dX10_slotsHeld_24 hl (k := 0) rfl (by decide) (by decide) rfl (fun ls hl => ?_)
  refine lv_goto (tgt := 4) hx hb dX10_slotsHeld_27 (by decide) ?_
  refine lv_iload_n hx hb dX10_slotsHeld_4 rfl (lv_at hl 0 rfl) ?_
  refine lv_iconst (v := 4) hx hb dX10_slotsHeld_5 (by decide) ?_
  refine lv_icmp_ge (tgt := 30) hx hb dX10_slotsHeld_6 (by decide) (fun c10 => absurd c10 (by decide)) (fun c10 => ?_)
  refine lv_aload_n hx hb dX10_slotsHeld_9 rfl (lv_at hl 2 rfl) ?_
  refine va_get (D := G.1) (ci := 10) (v := .ref sl) (C := RX10) (T := TX10) (N := 15) hx hb hw inGX10 hown hK hP 0 rfl rfl 8 (by decide) (hw _ kw_50) (fun _ h9 => h9) rfl dX10_slotsHeld_10 ?_
  refine lv_iload_n hx hb dX10_slotsHeld_13 rfl (lv_at hl 0 rfl) ?_
  refine va_aldq hx hb hK hP 1 5 rfl rfl (vp_in_iff.mpr (by decide)) dX10_slotsHeld_14 ?_
  refine W.eq (g2 := F0 m 15 ls [.ref s3]) rfl ?_
  refine vp_callSi (va_Run.run (va_runV (As := []) (rest := []) ⟨hx, hb, hml, hown, hw⟩ (c_isHeld0 l G s3 n3) (cwV 0 hw (gdV kw_52 kw_53 kw_54 kw_55 kw_51) rfl rfl rfl ⟨rfl, hdX8_isHeld⟩ ⟨(Nat.le_of_ble_eq_true rfl), (Nat.le_of_ble_eq_true rfl)⟩) (preS_V (wc := [(s3, .inr (8, [.ref n3, .int (-1), .int 0]))]) (ci := 8) hKG hP [5] rfl rfl rfl) rfl rfl hl.1 rfl (lv_room (Nat.le_of_ble_eq_true rfl)) dX10_slotsHeld_15 ⟨(Nat.le_of_ble_eq_true rfl), (Nat.le_of_ble_eq_true rfl)⟩)) (fun r11 hr11 => ?_)
  subst hr11
  refine lv_if_eq (tgt := 24) hx hb dX10_slotsHeld_18 (by decide) (fun c12 => ?_) (fun c12 => absurd (by decide) c12)
  refine lv_iinc (v := 4) (lv' := [(2, .int 4), (1, .int 0), (0, .ref x0)]) hx hb dX10_slotsHeld_24 hl (k := 0) rfl (by decide) (by decide) rfl (fun ls hl => ?_)
  refine lv_goto (tgt := 4) hx hb dX10_slotsHeld_27 (by decide) ?_
  refine lv_iload_n hx hb dX10_slotsHeld_4 rfl (lv_at hl 0 rfl) ?_
  refine lv_iconst (v := 4) hx hb dX10_slotsHeld_5 (by decide) ?_
  refine lv_icmp_ge (tgt := 30) hx hb dX10_slotsHeld_6 (by decide) (fun c13 => ?_) (fun c13 => absurd (by decide) c13)
  refine lv_iload_n hx hb dX10_slotsHeld_30 rfl (lv_at hl 1 rfl) ?_
  exact W.iret (v := 0) hx hb hr (fun t ht hW => ⟨0, rfl, rfl, ht⟩) (fun _ h => absurd h List.not_mem_nil) dX10_slotsHeld_31
