set_option maxHeartbeats 4000000 in
set_option maxRecDepth 100000 in
theorem c_X10_quick (l : Launch) (G : KG) (x0 : Nat) (tp : Nat) (rd : Nat) (nw : Nat) (sp : Nat) (im : Nat) (ir : Nat) (kp : Nat) (sl : Nat) (tk : Nat) (hn : Nat) (rc : Nat) (jn : Nat) (br : Nat) (sh : Nat) (nw_slopes : Nat) (nw_wets : Nat) (nw_limits : Nat) (nw_platforms : Nat) (nw_kinds : Nat) (nw_trains : Nat) (nw_coaches : Nat) (nw_platforms_c : Nat) (nw_kinds_c : Nat) (nw_trains_c : Nat) (nw_coaches_c : Nat) (p0 : Int32) (p1 : Int32) (p2 : Int32) (p3 : Int32) : Met l yX10_quick wsX10_quick ({ frames := 4, cells := 0, slots := 0, locals := 94 }) (preS G [.ref x0, .int p0, .int p1, .int p2, .int p3] [(x0, .inr (10, [.ref tp, .int 0, .ref rd, .ref nw, .ref sp, .ref im, .ref ir, .ref kp, .ref sl, .ref tk, .ref hn, .ref rc, .ref jn, .ref br, .ref sh])), (nw, .inr (3, [.int 0, .int 0, .ref nw_slopes, .ref nw_wets, .ref nw_limits, .ref nw_platforms, .ref nw_kinds, .ref nw_trains, .ref nw_coaches])), (nw_platforms, .inr (6, [.int 6, .int 2, .ref nw_platforms_c, .int 0])), (nw_kinds, .inr (6, [.int 4, .int 5, .ref nw_kinds_c, .int 0])), (nw_trains, .inr (6, [.int 5, .int 3, .ref nw_trains_c, .int 0])), (nw_coaches, .inr (6, [.int 16, .int 5, .ref nw_coaches_c, .int 0]))]) (vp_Si (fun (r : Int32) => (r = (-2)))) 0 0 (fun _ => False) := by
  refine Met.ofW (cc := cX10_quick) (maxL := 5) (ret := (some .int)) (by decide) rfl ?_
  intro p e s m args below meth c s₁ B hml hv
  obtain ⟨rfl, hP, hKG⟩ := hv
  obtain ⟨hK, hAO⟩ := id hKG
  have hx := B.exec
  have hb := B.bytes
  have hr := B.returns
  have hts := atoms_spec (ws := wsX10_quick) B.pre
  have hown : s.vm.findClass RX10 = some m.cls := findClass_of_methodNamed B.named
  have hlocks := B.notSynchronized
  have hl := lv_entry ([.ref x0, .int p0, .int p1, .int p2, .int p3]) (n := 5) (Nat.le_of_ble_eq_true rfl)
  rw [lg_entry_eq]
  generalize (lg_sl ([.ref x0, .int p0, .int p1, .int p2, .int p3]) ++ List.replicate (5 - (lg_sl ([.ref x0, .int p0, .int p1, .int p2, .int p3])).length) Slot.unset).toArray = ls at hl ⊢
  have hl : lv_has ls 5 [(0, .ref x0), (1, .int p0), (2, .int p1), (3, .int p2), (4, .int p3)] := hl
  refine lv_aload_n hx hb dX10_quick_0 rfl (lv_at hl 0 rfl) ?_
  refine lv_iload_n hx hb dX10_quick_1 rfl (lv_at hl 1 rfl) ?_
  refine lv_iload_n hx hb dX10_quick_2 rfl (lv_at hl 2 rfl) ?_
  refine lv_iload_n hx hb dX10_quick_3 rfl (lv_at hl 3 rfl) ?_
  refine lv_iload hx hb dX10_quick_4 (lv_at hl 4 rfl) ?_
  refine lv_iconst (v := 1) hx hb dX10_quick_6 (by decide) ?_
  refine vp_callSi (va_Run.run (va_runV (As := [.int p0, .int p1, .int p2, .int p3, .int 1]) (rest := []) ⟨hx, hb, hml, hown, hts⟩ (c_X10_leastMeasure l G x0 tp rd nw sp im ir kp sl tk hn rc jn br sh nw_slopes nw_wets nw_limits nw_platforms nw_kinds nw_trains nw_coaches nw_platforms_c nw_kinds_c nw_trains_c nw_coaches_c p0 p1 p2 p3 1) (cwV 5 hts gX10_quick_X10_leastMeasure rfl rfl rfl ⟨rfl, hdX10_leastMeasure⟩ ⟨(Nat.le_of_ble_eq_true rfl), (Nat.le_of_ble_eq_true rfl)⟩) (preS_V (wc := [(x0, .inr (10, [.ref tp, .int 0, .ref rd, .ref nw, .ref sp, .ref im, .ref ir, .ref kp, .ref sl, .ref tk, .ref hn, .ref rc, .ref jn, .ref br, .ref sh])), (nw, .inr (3, [.int 0, .int 0, .ref nw_slopes, .ref nw_wets, .ref nw_limits, .ref nw_platforms, .ref nw_kinds, .ref nw_trains, .ref nw_coaches])), (nw_platforms, .inr (6, [.int 6, .int 2, .ref nw_platforms_c, .int 0])), (nw_kinds, .inr (6, [.int 4, .int 5, .ref nw_kinds_c, .int 0])), (nw_trains, .inr (6, [.int 5, .int 3, .ref nw_trains_c, .int 0])), (nw_coaches, .inr (6, [.int 16, .int 5, .ref nw_coaches_c, .int 0]))]) (ci := 10) hKG hP [0, 1, 2, 3, 4, 5] rfl rfl rfl) rfl rfl hl.1 rfl (lv_room (Nat.le_of_ble_eq_true rfl)) dX10_quick_7 ⟨(Nat.le_of_ble_eq_true rfl), (Nat.le_of_ble_eq_true rfl)⟩)) (fun r1 hr1 => ?_)
  subst hr1
  exact W.iret (v := (-2)) hx hb hr (fun t ht hW => ⟨(-2), rfl, rfl, ht⟩) (fun _ h => absurd h List.not_mem_nil) dX10_quick_10
set_option maxHeartbeats 4000000 in
set_option maxRecDepth 100000 in
theorem c_X10_jolt (l : Launch) (G : KG) (x0 : Nat) (tp : Nat) (rd : Nat) (nw : Nat) (sp : Nat) (im : Nat) (ir : Nat) (kp : Nat) (sl : Nat) (tk : Nat) (hn : Nat) (rc : Nat) (jn : Nat) (br : Nat) (sh : Nat) (nw_slopes : Nat) (nw_wets : Nat) (nw_limits : Nat) (nw_platforms : Nat) (nw_kinds : Nat) (nw_trains : Nat) (nw_coaches : Nat) (nw_platforms_c : Nat) (nw_kinds_c : Nat) (nw_trains_c : Nat) (nw_coaches_c : Nat) (p0 : Int32) (p1 : Int32) (p2 : Int32) (p3 : Int32) : Met l yX10_jolt wsX10_jolt ({ frames := 4, cells := 0, slots := 0, locals := 94 }) (preS G [.ref x0, .int p0, .int p1, .int p2, .int p3] [(x0, .inr (10, [.ref tp, .int 0, .ref rd, .ref nw, .ref sp, .ref im, .ref ir, .ref kp, .ref sl, .ref tk, .ref hn, .ref rc, .ref jn, .ref br, .ref sh])), (nw, .inr (3, [.int 0, .int 0, .ref nw_slopes, .ref nw_wets, .ref nw_limits, .ref nw_platforms, .ref nw_kinds, .ref nw_trains, .ref nw_coaches])), (nw_platforms, .inr (6, [.int 6, .int 2, .ref nw_platforms_c, .int 0])), (nw_kinds, .inr (6, [.int 4, .int 5, .ref nw_kinds_c, .int 0])), (nw_trains, .inr (6, [.int 5, .int 3, .ref nw_trains_c, .int 0])), (nw_coaches, .inr (6, [.int 16, .int 5, .ref nw_coaches_c, .int 0]))]) (vp_Si (fun (r : Int32) => (r = (-2)))) 0 0 (fun _ => False) := by
  refine Met.ofW (cc := cX10_jolt) (maxL := 5) (ret := (some .int)) (by decide) rfl ?_
  intro p e s m args below meth c s₁ B hml hv
  obtain ⟨rfl, hP, hKG⟩ := hv
  obtain ⟨hK, hAO⟩ := id hKG
  have hx := B.exec
  have hb := B.bytes
  have hr := B.returns
  have hts := atoms_spec (ws := wsX10_jolt) B.pre
  have hown : s.vm.findClass RX10 = some m.cls := findClass_of_methodNamed B.named
  have hlocks := B.notSynchronized
  have hl := lv_entry ([.ref x0, .int p0, .int p1, .int p2, .int p3]) (n := 5) (Nat.le_of_ble_eq_true rfl)
  rw [lg_entry_eq]
  generalize (lg_sl ([.ref x0, .int p0, .int p1, .int p2, .int p3]) ++ List.replicate (5 - (lg_sl ([.ref x0, .int p0, .int p1, .int p2, .int p3])).length) Slot.unset).toArray = ls at hl ⊢
  have hl : lv_has ls 5 [(0, .ref x0), (1, .int p0), (2, .int p1), (3, .int p2), (4, .int p3)] := hl
  refine lv_aload_n hx hb dX10_jolt_0 rfl (lv_at hl 0 rfl) ?_
  refine lv_iload_n hx hb dX10_jolt_1 rfl (lv_at hl 1 rfl) ?_
  refine lv_iload_n hx hb dX10_jolt_2 rfl (lv_at hl 2 rfl) ?_
  refine lv_iload_n hx hb dX10_jolt_3 rfl (lv_at hl 3 rfl) ?_
  refine lv_iload hx hb dX10_jolt_4 (lv_at hl 4 rfl) ?_
  refine lv_iconst (v := 2) hx hb dX10_jolt_6 (by decide) ?_
  refine vp_callSi (va_Run.run (va_runV (As := [.int p0, .int p1, .int p2, .int p3, .int 2]) (rest := []) ⟨hx, hb, hml, hown, hts⟩ (c_X10_leastMeasure l G x0 tp rd nw sp im ir kp sl tk hn rc jn br sh nw_slopes nw_wets nw_limits nw_platforms nw_kinds nw_trains nw_coaches nw_platforms_c nw_kinds_c nw_trains_c nw_coaches_c p0 p1 p2 p3 2) (cwV 5 hts gX10_jolt_X10_leastMeasure rfl rfl rfl ⟨rfl, hdX10_leastMeasure⟩ ⟨(Nat.le_of_ble_eq_true rfl), (Nat.le_of_ble_eq_true rfl)⟩) (preS_V (wc := [(x0, .inr (10, [.ref tp, .int 0, .ref rd, .ref nw, .ref sp, .ref im, .ref ir, .ref kp, .ref sl, .ref tk, .ref hn, .ref rc, .ref jn, .ref br, .ref sh])), (nw, .inr (3, [.int 0, .int 0, .ref nw_slopes, .ref nw_wets, .ref nw_limits, .ref nw_platforms, .ref nw_kinds, .ref nw_trains, .ref nw_coaches])), (nw_platforms, .inr (6, [.int 6, .int 2, .ref nw_platforms_c, .int 0])), (nw_kinds, .inr (6, [.int 4, .int 5, .ref nw_kinds_c, .int 0])), (nw_trains, .inr (6, [.int 5, .int 3, .ref nw_trains_c, .int 0])), (nw_coaches, .inr (6, [.int 16, .int 5, .ref nw_coaches_c, .int 0]))]) (ci := 10) hKG hP [0, 1, 2, 3, 4, 5] rfl rfl rfl) rfl rfl hl.1 rfl (lv_room (Nat.le_of_ble_eq_true rfl)) dX10_jolt_7 ⟨(Nat.le_of_ble_eq_true rfl), (Nat.le_of_ble_eq_true rfl)⟩)) (fun r1 hr1 => ?_)
  subst hr1
  exact W.iret (v := (-2)) hx hb hr (fun t ht hW => ⟨(-2), rfl, rfl, ht⟩) (fun _ h => absurd h List.not_mem_nil) dX10_jolt_10
set_option maxHeartbeats 4000000 in
set_option maxRecDepth 100000 in
theorem c_X10_stands (l : Launch) (G : KG) (x0 : Nat) (tp : Nat) (rd : Nat) (nw : Nat) (sp : Nat) (im : Nat) (ir : Nat) (kp : Nat) (sl : Nat) (tk : Nat) (hn : Nat) (rc : Nat) (jn : Nat) (br : Nat) (sh : Nat) (nw_slopes : Nat) (nw_wets : Nat) (nw_limits : Nat) (nw_platforms : Nat) (nw_kinds : Nat) (nw_trains : Nat) (nw_coaches : Nat) (nw_platforms_c : Nat) (nw_kinds_c : Nat) (nw_trains_c : Nat) (nw_coaches_c : Nat) (p0 : Int32) (p1 : Int32) (p2 : Int32) (p3 : Int32) : Met l yX10_stands wsX10_stands ({ frames := 2, cells := 0, slots := 0, locals := 44 }) (preS G [.ref x0, .int p0, .int p1, .int p2, .int p3] [(x0, .inr (10, [.ref tp, .int 0, .ref rd, .ref nw, .ref sp, .ref im, .ref ir, .ref kp, .ref sl, .ref tk, .ref hn, .ref rc, .ref jn, .ref br, .ref sh])), (nw, .inr (3, [.int 0, .int 0, .ref nw_slopes, .ref nw_wets, .ref nw_limits, .ref nw_platforms, .ref nw_kinds, .ref nw_trains, .ref nw_coaches])), (nw_platforms, .inr (6, [.int 6, .int 2, .ref nw_platforms_c, .int 0])), (nw_kinds, .inr (6, [.int 4, .int 5, .ref nw_kinds_c, .int 0])), (nw_trains, .inr (6, [.int 5, .int 3, .ref nw_trains_c, .int 0])), (nw_coaches, .inr (6, [.int 16, .int 5, .ref nw_coaches_c, .int 0]))]) (vp_Si (fun (r : Int32) => (r = (-2)))) 0 0 (fun _ => False) := by
  refine Met.ofW (cc := cX10_stands) (maxL := 9) (ret := (some .int)) (by decide) rfl ?_
  intro p e s m args below meth c s₁ B hml hv
  obtain ⟨rfl, hP, hKG⟩ := hv
  obtain ⟨hK, hAO⟩ := id hKG
  have hx := B.exec
  have hb := B.bytes
  have hr := B.returns
  have hts := atoms_spec (ws := wsX10_stands) B.pre
  have hown : s.vm.findClass RX10 = some m.cls := findClass_of_methodNamed B.named
  have hlocks := B.notSynchronized
  have hl := lv_entry ([.ref x0, .int p0, .int p1, .int p2, .int p3]) (n := 9) (Nat.le_of_ble_eq_true rfl)
  rw [lg_entry_eq]
  generalize (lg_sl ([.ref x0, .int p0, .int p1, .int p2, .int p3]) ++ List.replicate (9 - (lg_sl ([.ref x0, .int p0, .int p1, .int p2, .int p3])).length) Slot.unset).toArray = ls at hl ⊢
  have hl : lv_has ls 9 [(0, .ref x0), (1, .int p0), (2, .int p1), (3, .int p2), (4, .int p3)] := hl
  refine lv_aload_n hx hb dX10_stands_0 rfl (lv_at hl 0 rfl) ?_
  refine lv_iload_n hx hb dX10_stands_1 rfl (lv_at hl 1 rfl) ?_
  refine lv_iload_n hx hb dX10_stands_2 rfl (lv_at hl 2 rfl) ?_
  refine lv_iload_n hx hb dX10_stands_3 rfl (lv_at hl 3 rfl) ?_
  refine vp_callSi (va_Run.run (va_runV (As := [.int p0, .int p1, .int p2]) (rest := []) ⟨hx, hb, hml, hown, hts⟩ (c_X10_hasRun l G x0 tp rd nw sp im ir kp sl tk hn rc jn br sh nw_slopes nw_wets nw_limits nw_platforms nw_kinds nw_trains nw_coaches nw_platforms_c nw_kinds_c nw_trains_c nw_coaches_c p0 p1 p2) (cwV 3 hts gX10_stands_X10_hasRun rfl rfl rfl ⟨rfl, hdX10_hasRun⟩ ⟨(Nat.le_of_ble_eq_true rfl), (Nat.le_of_ble_eq_true rfl)⟩) (preS_V (wc := [(x0, .inr (10, [.ref tp, .int 0, .ref rd, .ref nw, .ref sp, .ref im, .ref ir, .ref kp, .ref sl, .ref tk, .ref hn, .ref rc, .ref jn, .ref br, .ref sh])), (nw, .inr (3, [.int 0, .int 0, .ref nw_slopes, .ref nw_wets, .ref nw_limits, .ref nw_platforms, .ref nw_kinds, .ref nw_trains, .ref nw_coaches])), (nw_platforms, .inr (6, [.int 6, .int 2, .ref nw_platforms_c, .int 0])), (nw_kinds, .inr (6, [.int 4, .int 5, .ref nw_kinds_c, .int 0])), (nw_trains, .inr (6, [.int 5, .int 3, .ref nw_trains_c, .int 0])), (nw_coaches, .inr (6, [.int 16, .int 5, .ref nw_coaches_c, .int 0]))]) (ci := 10) hKG hP [0, 1, 2, 3, 4, 5] rfl rfl rfl) rfl rfl hl.1 rfl (lv_room (Nat.le_of_ble_eq_true rfl)) dX10_stands_4 ⟨(Nat.le_of_ble_eq_true rfl), (Nat.le_of_ble_eq_true rfl)⟩)) (fun r1 hr1 => ?_)
  subst hr1
  refine lv_if_eq (tgt := 20) hx hb dX10_stands_7 (by decide) (fun c2 => ?_) (fun c2 => absurd (by decide) c2)
  refine lv_bipush (v := (-2)) hx hb dX10_stands_20 (by decide) ?_
  exact W.iret (v := (-2)) hx hb hr (fun t ht hW => ⟨(-2), rfl, rfl, ht⟩) (fun _ h => absurd h List.not_mem_nil) dX10_stands_22
set_option maxHeartbeats 4000000 in
set_option maxRecDepth 100000 in
theorem c_X10_posts (l : Launch) (G : KG) (x0 : Nat) (tp : Nat) (rd : Nat) (nw : Nat) (sp : Nat) (im : Nat) (ir : Nat) (kp : Nat) (sl : Nat) (tk : Nat) (hn : Nat) (rc : Nat) (jn : Nat) (br : Nat) (sh : Nat) (nw_slopes : Nat) (nw_wets : Nat) (nw_limits : Nat) (nw_platforms : Nat) (nw_kinds : Nat) (nw_trains : Nat) (nw_coaches : Nat) (nw_platforms_c : Nat) (nw_kinds_c : Nat) (nw_trains_c : Nat) (nw_coaches_c : Nat) (p0 : Int32) (p1 : Int32) (p2 : Int32) (p3 : Int32) : Met l yX10_posts wsX10_posts ({ frames := 4, cells := 0, slots := 0, locals := 93 }) (preS G [.ref x0, .int p0, .int p1, .int p2, .int p3] [(x0, .inr (10, [.ref tp, .int 0, .ref rd, .ref nw, .ref sp, .ref im, .ref ir, .ref kp, .ref sl, .ref tk, .ref hn, .ref rc, .ref jn, .ref br, .ref sh])), (nw, .inr (3, [.int 0, .int 0, .ref nw_slopes, .ref nw_wets, .ref nw_limits, .ref nw_platforms, .ref nw_kinds, .ref nw_trains, .ref nw_coaches])), (nw_platforms, .inr (6, [.int 6, .int 2, .ref nw_platforms_c, .int 0])), (nw_kinds, .inr (6, [.int 4, .int 5, .ref nw_kinds_c, .int 0])), (nw_trains, .inr (6, [.int 5, .int 3, .ref nw_trains_c, .int 0])), (nw_coaches, .inr (6, [.int 16, .int 5, .ref nw_coaches_c, .int 0]))]) (vp_Si (fun (r : Int32) => (r = (-2)))) 0 0 (fun _ => False) := by
  refine Met.ofW (cc := cX10_posts) (maxL := 9) (ret := (some .int)) (by decide) rfl ?_
  intro p e s m args below meth c s₁ B hml hv
  obtain ⟨rfl, hP, hKG⟩ := hv
  obtain ⟨hK, hAO⟩ := id hKG
  have hx := B.exec
  have hb := B.bytes
  have hr := B.returns
  have hts := atoms_spec (ws := wsX10_posts) B.pre
  have hown : s.vm.findClass RX10 = some m.cls := findClass_of_methodNamed B.named
  have hlocks := B.notSynchronized
  have hl := lv_entry ([.ref x0, .int p0, .int p1, .int p2, .int p3]) (n := 9) (Nat.le_of_ble_eq_true rfl)
  rw [lg_entry_eq]
  generalize (lg_sl ([.ref x0, .int p0, .int p1, .int p2, .int p3]) ++ List.replicate (9 - (lg_sl ([.ref x0, .int p0, .int p1, .int p2, .int p3])).length) Slot.unset).toArray = ls at hl ⊢
  have hl : lv_has ls 9 [(0, .ref x0), (1, .int p0), (2, .int p1), (3, .int p2), (4, .int p3)] := hl
  refine lv_aload_n hx hb dX10_posts_0 rfl (lv_at hl 0 rfl) ?_
  refine lv_iload_n hx hb dX10_posts_1 rfl (lv_at hl 1 rfl) ?_
  refine lv_iload_n hx hb dX10_posts_2 rfl (lv_at hl 2 rfl) ?_
  refine lv_iconst (v := 0) hx hb dX10_posts_3 (by decide) ?_
  refine lv_iload_n hx hb dX10_posts_4 rfl (lv_at hl 3 rfl) ?_
  refine vp_callSi (va_Run.run (va_runV (As := [.int p0, .int p1, .int 0, .int p2]) (rest := []) ⟨hx, hb, hml, hown, hts⟩ (c_X10_takesAim l G x0 tp rd nw sp im ir kp sl tk hn rc jn br sh nw_slopes nw_wets nw_limits nw_platforms nw_kinds nw_trains nw_coaches nw_platforms_c nw_kinds_c nw_trains_c nw_coaches_c p0 p1 0 p2) (cwV 4 hts gX10_posts_X10_takesAim rfl rfl rfl ⟨rfl, hdX10_takesAim⟩ ⟨(Nat.le_of_ble_eq_true rfl), (Nat.le_of_ble_eq_true rfl)⟩) (preS_V (wc := [(x0, .inr (10, [.ref tp, .int 0, .ref rd, .ref nw, .ref sp, .ref im, .ref ir, .ref kp, .ref sl, .ref tk, .ref hn, .ref rc, .ref jn, .ref br, .ref sh])), (nw, .inr (3, [.int 0, .int 0, .ref nw_slopes, .ref nw_wets, .ref nw_limits, .ref nw_platforms, .ref nw_kinds, .ref nw_trains, .ref nw_coaches])), (nw_platforms, .inr (6, [.int 6, .int 2, .ref nw_platforms_c, .int 0])), (nw_kinds, .inr (6, [.int 4, .int 5, .ref nw_kinds_c, .int 0])), (nw_trains, .inr (6, [.int 5, .int 3, .ref nw_trains_c, .int 0])), (nw_coaches, .inr (6, [.int 16, .int 5, .ref nw_coaches_c, .int 0]))]) (ci := 10) hKG hP [0, 1, 2, 3, 4, 5] rfl rfl rfl) rfl rfl hl.1 rfl (lv_room (Nat.le_of_ble_eq_true rfl)) dX10_posts_5 ⟨(Nat.le_of_ble_eq_true rfl), (Nat.le_of_ble_eq_true rfl)⟩)) (fun r1 hr1 => ?_)
  subst hr1
  refine lv_if_eq (tgt := 21) hx hb dX10_posts_8 (by decide) (fun c2 => ?_) (fun c2 => absurd (by decide) c2)
  refine lv_bipush (v := (-2)) hx hb dX10_posts_21 (by decide) ?_
  exact W.iret (v := (-2)) hx hb hr (fun t ht hW => ⟨(-2), rfl, rfl, ht⟩) (fun _ h => absurd h List.not_mem_nil) dX10_posts_23
set_option maxHeartbeats 4000000 in
set_option maxRecDepth 100000 in
theorem c_X10_speeds (l : Launch) (G : KG) (x0 : Nat) (tp : Nat) (rd : Nat) (nw : Nat) (sp : Nat) (im : Nat) (ir : Nat) (kp : Nat) (sl : Nat) (tk : Nat) (hn : Nat) (rc : Nat) (jn : Nat) (br : Nat) (sh : Nat) (nw_slopes : Nat) (nw_wets : Nat) (nw_limits : Nat) (nw_platforms : Nat) (nw_kinds : Nat) (nw_trains : Nat) (nw_coaches : Nat) (nw_platforms_c : Nat) (nw_kinds_c : Nat) (nw_trains_c : Nat) (nw_coaches_c : Nat) (p0 : Int32) (p1 : Int32) (p2 : Int32) : Met l yX10_speeds wsX10_speeds ({ frames := 4, cells := 0, slots := 0, locals := 93 }) (preS G [.ref x0, .int p0, .int p1, .int p2] [(x0, .inr (10, [.ref tp, .int 0, .ref rd, .ref nw, .ref sp, .ref im, .ref ir, .ref kp, .ref sl, .ref tk, .ref hn, .ref rc, .ref jn, .ref br, .ref sh])), (nw, .inr (3, [.int 0, .int 0, .ref nw_slopes, .ref nw_wets, .ref nw_limits, .ref nw_platforms, .ref nw_kinds, .ref nw_trains, .ref nw_coaches])), (nw_platforms, .inr (6, [.int 6, .int 2, .ref nw_platforms_c, .int 0])), (nw_kinds, .inr (6, [.int 4, .int 5, .ref nw_kinds_c, .int 0])), (nw_trains, .inr (6, [.int 5, .int 3, .ref nw_trains_c, .int 0])), (nw_coaches, .inr (6, [.int 16, .int 5, .ref nw_coaches_c, .int 0]))]) (vp_Si (fun (r : Int32) => (r = (-2)))) 0 0 (fun _ => False) := by
  refine Met.ofW (cc := cX10_speeds) (maxL := 6) (ret := (some .int)) (by decide) rfl ?_
  intro p e s m args below meth c s₁ B hml hv
  obtain ⟨rfl, hP, hKG⟩ := hv
  obtain ⟨hK, hAO⟩ := id hKG
  have hx := B.exec
  have hb := B.bytes
  have hr := B.returns
  have hts := atoms_spec (ws := wsX10_speeds) B.pre
  have hown : s.vm.findClass RX10 = some m.cls := findClass_of_methodNamed B.named
  have hlocks := B.notSynchronized
  have hl := lv_entry ([.ref x0, .int p0, .int p1, .int p2]) (n := 6) (Nat.le_of_ble_eq_true rfl)
  rw [lg_entry_eq]
  generalize (lg_sl ([.ref x0, .int p0, .int p1, .int p2]) ++ List.replicate (6 - (lg_sl ([.ref x0, .int p0, .int p1, .int p2])).length) Slot.unset).toArray = ls at hl ⊢
  have hl : lv_has ls 6 [(0, .ref x0), (1, .int p0), (2, .int p1), (3, .int p2)] := hl
  refine lv_aload_n hx hb dX10_speeds_0 rfl (lv_at hl 0 rfl) ?_
  refine lv_iload_n hx hb dX10_speeds_1 rfl (lv_at hl 1 rfl) ?_
  refine lv_iload_n hx hb dX10_speeds_2 rfl (lv_at hl 2 rfl) ?_
  refine lv_iload_n hx hb dX10_speeds_3 rfl (lv_at hl 3 rfl) ?_
  refine lv_iconst (v := 1) hx hb dX10_speeds_4 (by decide) ?_
  refine vp_callSi (va_Run.run (va_runV (As := [.int p0, .int p1, .int p2, .int 1]) (rest := []) ⟨hx, hb, hml, hown, hts⟩ (c_X10_takesAim l G x0 tp rd nw sp im ir kp sl tk hn rc jn br sh nw_slopes nw_wets nw_limits nw_platforms nw_kinds nw_trains nw_coaches nw_platforms_c nw_kinds_c nw_trains_c nw_coaches_c p0 p1 p2 1) (cwV 4 hts gX10_speeds_X10_takesAim rfl rfl rfl ⟨rfl, hdX10_takesAim⟩ ⟨(Nat.le_of_ble_eq_true rfl), (Nat.le_of_ble_eq_true rfl)⟩) (preS_V (wc := [(x0, .inr (10, [.ref tp, .int 0, .ref rd, .ref nw, .ref sp, .ref im, .ref ir, .ref kp, .ref sl, .ref tk, .ref hn, .ref rc, .ref jn, .ref br, .ref sh])), (nw, .inr (3, [.int 0, .int 0, .ref nw_slopes, .ref nw_wets, .ref nw_limits, .ref nw_platforms, .ref nw_kinds, .ref nw_trains, .ref nw_coaches])), (nw_platforms, .inr (6, [.int 6, .int 2, .ref nw_platforms_c, .int 0])), (nw_kinds, .inr (6, [.int 4, .int 5, .ref nw_kinds_c, .int 0])), (nw_trains, .inr (6, [.int 5, .int 3, .ref nw_trains_c, .int 0])), (nw_coaches, .inr (6, [.int 16, .int 5, .ref nw_coaches_c, .int 0]))]) (ci := 10) hKG hP [0, 1, 2, 3, 4, 5] rfl rfl rfl) rfl rfl hl.1 rfl (lv_room (Nat.le_of_ble_eq_true rfl)) dX10_speeds_5 ⟨(Nat.le_of_ble_eq_true rfl), (Nat.le_of_ble_eq_true rfl)⟩)) (fun r1 hr1 => ?_)
  subst hr1
  refine lv_if_ne (tgt := 14) hx hb dX10_speeds_8 (by decide) (fun c2 => absurd (by decide) c2) (fun c2 => ?_)
  refine lv_bipush (v := (-2)) hx hb dX10_speeds_11 (by decide) ?_
  exact W.iret (v := (-2)) hx hb hr (fun t ht hW => ⟨(-2), rfl, rfl, ht⟩) (fun _ h => absurd h List.not_mem_nil) dX10_speeds_13
set_option maxHeartbeats 4000000 in
set_option maxRecDepth 100000 in
theorem c_X10_wetter (l : Launch) (G : KG) (x0 : Nat) (tp : Nat) (rd : Nat) (nw : Nat) (sp : Nat) (im : Nat) (ir : Nat) (kp : Nat) (sl : Nat) (tk : Nat) (hn : Nat) (rc : Nat) (jn : Nat) (br : Nat) (sh : Nat) (nw_slopes : Nat) (nw_wets : Nat) (nw_limits : Nat) (nw_platforms : Nat) (nw_kinds : Nat) (nw_trains : Nat) (nw_coaches : Nat) (nw_platforms_c : Nat) (nw_kinds_c : Nat) (nw_trains_c : Nat) (nw_coaches_c : Nat) (p0 : Int32) (p1 : Int32) (p2 : Int32) (p3 : Int32) : Met l yX10_wetter wsX10_wetter ({ frames := 3, cells := 0, slots := 0, locals := 68 }) (preS G [.ref x0, .int p0, .int p1, .int p2, .int p3] [(x0, .inr (10, [.ref tp, .int 0, .ref rd, .ref nw, .ref sp, .ref im, .ref ir, .ref kp, .ref sl, .ref tk, .ref hn, .ref rc, .ref jn, .ref br, .ref sh])), (nw, .inr (3, [.int 0, .int 0, .ref nw_slopes, .ref nw_wets, .ref nw_limits, .ref nw_platforms, .ref nw_kinds, .ref nw_trains, .ref nw_coaches])), (nw_platforms, .inr (6, [.int 6, .int 2, .ref nw_platforms_c, .int 0])), (nw_kinds, .inr (6, [.int 4, .int 5, .ref nw_kinds_c, .int 0])), (nw_trains, .inr (6, [.int 5, .int 3, .ref nw_trains_c, .int 0])), (nw_coaches, .inr (6, [.int 16, .int 5, .ref nw_coaches_c, .int 0]))]) (vp_Si (fun (r : Int32) => (r = (-2)))) 0 0 (fun _ => False) := by
  refine Met.ofW (cc := cX10_wetter) (maxL := 8) (ret := (some .int)) (by decide) rfl ?_
  intro p e s m args below meth c s₁ B hml hv
  obtain ⟨rfl, hP, hKG⟩ := hv
  obtain ⟨hK, hAO⟩ := id hKG
  have hx := B.exec
  have hb := B.bytes
  have hr := B.returns
  have hts := atoms_spec (ws := wsX10_wetter) B.pre
  have hown : s.vm.findClass RX10 = some m.cls := findClass_of_methodNamed B.named
  have hlocks := B.notSynchronized
  have hl := lv_entry ([.ref x0, .int p0, .int p1, .int p2, .int p3]) (n := 8) (Nat.le_of_ble_eq_true rfl)
  rw [lg_entry_eq]
  generalize (lg_sl ([.ref x0, .int p0, .int p1, .int p2, .int p3]) ++ List.replicate (8 - (lg_sl ([.ref x0, .int p0, .int p1, .int p2, .int p3])).length) Slot.unset).toArray = ls at hl ⊢
  have hl : lv_has ls 8 [(0, .ref x0), (1, .int p0), (2, .int p1), (3, .int p2), (4, .int p3)] := hl
  refine lv_aload_n hx hb dX10_wetter_0 rfl (lv_at hl 0 rfl) ?_
  refine lv_iload_n hx hb dX10_wetter_1 rfl (lv_at hl 1 rfl) ?_
  refine lv_iload_n hx hb dX10_wetter_2 rfl (lv_at hl 2 rfl) ?_
  refine lv_iload_n hx hb dX10_wetter_3 rfl (lv_at hl 3 rfl) ?_
  refine lv_iload hx hb dX10_wetter_4 (lv_at hl 4 rfl) ?_
  refine vp_callSi (va_Run.run (va_runV (As := [.int p0, .int p1, .int p2, .int p3]) (rest := []) ⟨hx, hb, hml, hown, hts⟩ (c_X10_hasAim l G x0 tp rd nw sp im ir kp sl tk hn rc jn br sh nw_slopes nw_wets nw_limits nw_platforms nw_kinds nw_trains nw_coaches nw_platforms_c nw_kinds_c nw_trains_c nw_coaches_c p0 p1 p2 p3) (cwV 4 hts gX10_wetter_X10_hasAim rfl rfl rfl ⟨rfl, hdX10_hasAim⟩ ⟨(Nat.le_of_ble_eq_true rfl), (Nat.le_of_ble_eq_true rfl)⟩) (preS_V (wc := [(x0, .inr (10, [.ref tp, .int 0, .ref rd, .ref nw, .ref sp, .ref im, .ref ir, .ref kp, .ref sl, .ref tk, .ref hn, .ref rc, .ref jn, .ref br, .ref sh])), (nw, .inr (3, [.int 0, .int 0, .ref nw_slopes, .ref nw_wets, .ref nw_limits, .ref nw_platforms, .ref nw_kinds, .ref nw_trains, .ref nw_coaches])), (nw_platforms, .inr (6, [.int 6, .int 2, .ref nw_platforms_c, .int 0])), (nw_kinds, .inr (6, [.int 4, .int 5, .ref nw_kinds_c, .int 0])), (nw_trains, .inr (6, [.int 5, .int 3, .ref nw_trains_c, .int 0])), (nw_coaches, .inr (6, [.int 16, .int 5, .ref nw_coaches_c, .int 0]))]) (ci := 10) hKG hP [0, 1, 2, 3, 4, 5] rfl rfl rfl) rfl rfl hl.1 rfl (lv_room (Nat.le_of_ble_eq_true rfl)) dX10_wetter_6 ⟨(Nat.le_of_ble_eq_true rfl), (Nat.le_of_ble_eq_true rfl)⟩)) (fun r1 hr1 => ?_)
  subst hr1
  refine lv_if_ne (tgt := 15) hx hb dX10_wetter_9 (by decide) (fun c2 => absurd (by decide) c2) (fun c2 => ?_)
  refine lv_bipush (v := (-2)) hx hb dX10_wetter_12 (by decide) ?_
  exact W.iret (v := (-2)) hx hb hr (fun t ht hW => ⟨(-2), rfl, rfl, ht⟩) (fun _ h => absurd h List.not_mem_nil) dX10_wetter_14
set_option maxHeartbeats 4000000 in
set_option maxRecDepth 100000 in
theorem c_X10_told (l : Launch) (G : KG) (x0 : Nat) (tp : Nat) (rd : Nat) (nw : Nat) (sp : Nat) (im : Nat) (ir : Nat) (kp : Nat) (sl : Nat) (tk : Nat) (hn : Nat) (rc : Nat) (jn : Nat) (br : Nat) (sh : Nat) (nw_slopes : Nat) (nw_wets : Nat) (nw_limits : Nat) (nw_platforms : Nat) (nw_kinds : Nat) (nw_trains : Nat) (nw_coaches : Nat) (nw_platforms_c : Nat) (nw_kinds_c : Nat) (nw_trains_c : Nat) (nw_coaches_c : Nat) (p0 : Int32) (p1 : Int32) (p2 : Int32) (p3 : Int32) : Met l yX10_told wsX10_told ({ frames := 2, cells := 0, slots := 0, locals := 44 }) (preS G [.ref x0, .int p0, .int p1, .int p2, .int p3] [(x0, .inr (10, [.ref tp, .int 0, .ref rd, .ref nw, .ref sp, .ref im, .ref ir, .ref kp, .ref sl, .ref tk, .ref hn, .ref rc, .ref jn, .ref br, .ref sh])), (nw, .inr (3, [.int 0, .int 0, .ref nw_slopes, .ref nw_wets, .ref nw_limits, .ref nw_platforms, .ref nw_kinds, .ref nw_trains, .ref nw_coaches])), (nw_platforms, .inr (6, [.int 6, .int 2, .ref nw_platforms_c, .int 0])), (nw_kinds, .inr (6, [.int 4, .int 5, .ref nw_kinds_c, .int 0])), (nw_trains, .inr (6, [.int 5, .int 3, .ref nw_trains_c, .int 0])), (nw_coaches, .inr (6, [.int 16, .int 5, .ref nw_coaches_c, .int 0]))]) (vp_Si (fun (r : Int32) => (r = (-2)))) 0 0 (fun _ => False) := by
  refine Met.ofW (cc := cX10_told) (maxL := 10) (ret := (some .int)) (by decide) rfl ?_
  intro p e s m args below meth c s₁ B hml hv
  obtain ⟨rfl, hP, hKG⟩ := hv
  obtain ⟨hK, hAO⟩ := id hKG
  have hx := B.exec
  have hb := B.bytes
  have hr := B.returns
  have hts := atoms_spec (ws := wsX10_told) B.pre
  have hown : s.vm.findClass RX10 = some m.cls := findClass_of_methodNamed B.named
  have hlocks := B.notSynchronized
  have hl := lv_entry ([.ref x0, .int p0, .int p1, .int p2, .int p3]) (n := 10) (Nat.le_of_ble_eq_true rfl)
  rw [lg_entry_eq]
  generalize (lg_sl ([.ref x0, .int p0, .int p1, .int p2, .int p3]) ++ List.replicate (10 - (lg_sl ([.ref x0, .int p0, .int p1, .int p2, .int p3])).length) Slot.unset).toArray = ls at hl ⊢
  have hl : lv_has ls 10 [(0, .ref x0), (1, .int p0), (2, .int p1), (3, .int p2), (4, .int p3)] := hl
  refine lv_iload_n hx hb dX10_told_0 rfl (lv_at hl 1 rfl) ?_
  refine lv_iconst (v := 0) hx hb dX10_told_1 (by decide) ?_
  refine lv_iconst (v := 3) hx hb dX10_told_2 (by decide) ?_
  refine vp_callSi (va_Run.run (va_runS (As := [.int p0, .int 0, .int 3]) (rest := []) ⟨hx, hb, hml, hown, hts⟩ (c_isAmong l G p0 0 3) (va_cwS 3 hts gX10_told_X10_isAmong rfl rfl rfl hdX10_isAmong ⟨(Nat.le_of_ble_eq_true rfl), (Nat.le_of_ble_eq_true rfl)⟩) (preS_S (wc := []) hKG hP [] rfl) rfl rfl hl.1 rfl (lv_room (Nat.le_of_ble_eq_true rfl)) dX10_told_3 ⟨(Nat.le_of_ble_eq_true rfl), (Nat.le_of_ble_eq_true rfl)⟩)) (fun r1 hr1 => ?_)
  rcases hr1 with ⟨rfl, c2, c3⟩ | ⟨rfl, c4⟩ | ⟨rfl, c5⟩
  · refine lv_if_eq (tgt := 20) hx hb dX10_told_6 (by decide) (fun c6 => absurd c6 (by decide)) (fun c6 => ?_)
    refine lv_aload_n hx hb dX10_told_9 rfl (lv_at hl 0 rfl) ?_
    refine lv_iload_n hx hb dX10_told_10 rfl (lv_at hl 2 rfl) ?_
    refine lv_iload_n hx hb dX10_told_11 rfl (lv_at hl 3 rfl) ?_
    refine lv_iload hx hb dX10_told_12 (lv_at hl 4 rfl) ?_
    refine vp_callSi (va_Run.run (va_runV (As := [.int p1, .int p2, .int p3]) (rest := []) ⟨hx, hb, hml, hown, hts⟩ (c_X10_hasRun l G x0 tp rd nw sp im ir kp sl tk hn rc jn br sh nw_slopes nw_wets nw_limits nw_platforms nw_kinds nw_trains nw_coaches nw_platforms_c nw_kinds_c nw_trains_c nw_coaches_c p1 p2 p3) (cwV 3 hts gX10_told_X10_hasRun rfl rfl rfl ⟨rfl, hdX10_hasRun⟩ ⟨(Nat.le_of_ble_eq_true rfl), (Nat.le_of_ble_eq_true rfl)⟩) (preS_V (wc := [(x0, .inr (10, [.ref tp, .int 0, .ref rd, .ref nw, .ref sp, .ref im, .ref ir, .ref kp, .ref sl, .ref tk, .ref hn, .ref rc, .ref jn, .ref br, .ref sh])), (nw, .inr (3, [.int 0, .int 0, .ref nw_slopes, .ref nw_wets, .ref nw_limits, .ref nw_platforms, .ref nw_kinds, .ref nw_trains, .ref nw_coaches])), (nw_platforms, .inr (6, [.int 6, .int 2, .ref nw_platforms_c, .int 0])), (nw_kinds, .inr (6, [.int 4, .int 5, .ref nw_kinds_c, .int 0])), (nw_trains, .inr (6, [.int 5, .int 3, .ref nw_trains_c, .int 0])), (nw_coaches, .inr (6, [.int 16, .int 5, .ref nw_coaches_c, .int 0]))]) (ci := 10) hKG hP [0, 1, 2, 3, 4, 5] rfl rfl rfl) rfl rfl hl.1 rfl (lv_room (Nat.le_of_ble_eq_true rfl)) dX10_told_14 ⟨(Nat.le_of_ble_eq_true rfl), (Nat.le_of_ble_eq_true rfl)⟩)) (fun r7 hr7 => ?_)
    subst hr7
    refine lv_if_ne (tgt := 23) hx hb dX10_told_17 (by decide) (fun c8 => absurd (by decide) c8) (fun c8 => ?_)
    refine lv_bipush (v := (-2)) hx hb dX10_told_20 (by decide) ?_
    exact W.iret (v := (-2)) hx hb hr (fun t ht hW => ⟨(-2), rfl, rfl, ht⟩) (fun _ h => absurd h List.not_mem_nil) dX10_told_22
  · refine lv_if_eq (tgt := 20) hx hb dX10_told_6 (by decide) (fun c9 => ?_) (fun c9 => absurd (by decide) c9)
    refine lv_bipush (v := (-2)) hx hb dX10_told_20 (by decide) ?_
    exact W.iret (v := (-2)) hx hb hr (fun t ht hW => ⟨(-2), rfl, rfl, ht⟩) (fun _ h => absurd h List.not_mem_nil) dX10_told_22
  · refine lv_if_eq (tgt := 20) hx hb dX10_told_6 (by decide) (fun c10 => ?_) (fun c10 => absurd (by decide) c10)
    refine lv_bipush (v := (-2)) hx hb dX10_told_20 (by decide) ?_
    exact W.iret (v := (-2)) hx hb hr (fun t ht hW => ⟨(-2), rfl, rfl, ht⟩) (fun _ h => absurd h List.not_mem_nil) dX10_told_22
set_option maxHeartbeats 4000000 in
set_option maxRecDepth 100000 in
theorem c_X10_judge (l : Launch) (G : KG) (x0 : Nat) (tp : Nat) (rd : Nat) (nw : Nat) (sp : Nat) (im : Nat) (ir : Nat) (kp : Nat) (sl : Nat) (tk : Nat) (hn : Nat) (rc : Nat) (jn : Nat) (br : Nat) (sh : Nat) (nw_slopes : Nat) (nw_wets : Nat) (nw_limits : Nat) (nw_platforms : Nat) (nw_kinds : Nat) (nw_trains : Nat) (nw_coaches : Nat) (nw_platforms_c : Nat) (nw_kinds_c : Nat) (nw_trains_c : Nat) (nw_coaches_c : Nat) (p0 : Int32) (p1 : Int32) (p2 : Int32) (p3 : Int32) (p4 : Int32) : Met l yX10_judge wsX10_judge ({ frames := 4, cells := 0, slots := 0, locals := 93 }) (preS G [.ref x0, .int p0, .int p1, .int p2, .int p3, .int p4] [(x0, .inr (10, [.ref tp, .int 0, .ref rd, .ref nw, .ref sp, .ref im, .ref ir, .ref kp, .ref sl, .ref tk, .ref hn, .ref rc, .ref jn, .ref br, .ref sh])), (nw, .inr (3, [.int 0, .int 0, .ref nw_slopes, .ref nw_wets, .ref nw_limits, .ref nw_platforms, .ref nw_kinds, .ref nw_trains, .ref nw_coaches])), (nw_platforms, .inr (6, [.int 6, .int 2, .ref nw_platforms_c, .int 0])), (nw_kinds, .inr (6, [.int 4, .int 5, .ref nw_kinds_c, .int 0])), (nw_trains, .inr (6, [.int 5, .int 3, .ref nw_trains_c, .int 0])), (nw_coaches, .inr (6, [.int 16, .int 5, .ref nw_coaches_c, .int 0]))]) (vp_Si (fun (r : Int32) => (r = (-2)))) 0 0 (fun _ => False) := by
  refine Met.ofW (cc := cX10_judge) (maxL := 11) (ret := (some .int)) (by decide) rfl ?_
  intro p e s m args below meth c s₁ B hml hv
  obtain ⟨rfl, hP, hKG⟩ := hv
  obtain ⟨hK, hAO⟩ := id hKG
  have hx := B.exec
  have hb := B.bytes
  have hr := B.returns
  have hts := atoms_spec (ws := wsX10_judge) B.pre
  have hown : s.vm.findClass RX10 = some m.cls := findClass_of_methodNamed B.named
  have hlocks := B.notSynchronized
  have hl := lv_entry ([.ref x0, .int p0, .int p1, .int p2, .int p3, .int p4]) (n := 11) (Nat.le_of_ble_eq_true rfl)
  rw [lg_entry_eq]
  generalize (lg_sl ([.ref x0, .int p0, .int p1, .int p2, .int p3, .int p4]) ++ List.replicate (11 - (lg_sl ([.ref x0, .int p0, .int p1, .int p2, .int p3, .int p4])).length) Slot.unset).toArray = ls at hl ⊢
  have hl : lv_has ls 11 [(0, .ref x0), (1, .int p0), (2, .int p1), (3, .int p2), (4, .int p3), (5, .int p4)] := hl
  refine lv_iload_n hx hb dX10_judge_0 rfl (lv_at hl 1 rfl) ?_
  refine lv_iconst (v := 0) hx hb dX10_judge_1 (by decide) ?_
  refine lv_iconst (v := 3) hx hb dX10_judge_2 (by decide) ?_
  refine vp_callSi (va_Run.run (va_runS (As := [.int p0, .int 0, .int 3]) (rest := []) ⟨hx, hb, hml, hown, hts⟩ (c_isAmong l G p0 0 3) (va_cwS 3 hts gX10_judge_X10_isAmong rfl rfl rfl hdX10_isAmong ⟨(Nat.le_of_ble_eq_true rfl), (Nat.le_of_ble_eq_true rfl)⟩) (preS_S (wc := []) hKG hP [] rfl) rfl rfl hl.1 rfl (lv_room (Nat.le_of_ble_eq_true rfl)) dX10_judge_3 ⟨(Nat.le_of_ble_eq_true rfl), (Nat.le_of_ble_eq_true rfl)⟩)) (fun r1 hr1 => ?_)
  rcases hr1 with ⟨rfl, c2, c3⟩ | ⟨rfl, c4⟩ | ⟨rfl, c5⟩
  · refine lv_if_eq (tgt := 22) hx hb dX10_judge_6 (by decide) (fun c6 => absurd c6 (by decide)) (fun c6 => ?_)
    refine lv_aload_n hx hb dX10_judge_9 rfl (lv_at hl 0 rfl) ?_
    refine lv_iload_n hx hb dX10_judge_10 rfl (lv_at hl 2 rfl) ?_
    refine lv_iload_n hx hb dX10_judge_11 rfl (lv_at hl 3 rfl) ?_
    refine lv_iload hx hb dX10_judge_12 (lv_at hl 4 rfl) ?_
    refine lv_iload hx hb dX10_judge_14 (lv_at hl 5 rfl) ?_
    refine vp_callSi (va_Run.run (va_runV (As := [.int p1, .int p2, .int p3, .int p4]) (rest := []) ⟨hx, hb, hml, hown, hts⟩ (c_X10_takesAim l G x0 tp rd nw sp im ir kp sl tk hn rc jn br sh nw_slopes nw_wets nw_limits nw_platforms nw_kinds nw_trains nw_coaches nw_platforms_c nw_kinds_c nw_trains_c nw_coaches_c p1 p2 p3 p4) (cwV 4 hts gX10_judge_X10_takesAim rfl rfl rfl ⟨rfl, hdX10_takesAim⟩ ⟨(Nat.le_of_ble_eq_true rfl), (Nat.le_of_ble_eq_true rfl)⟩) (preS_V (wc := [(x0, .inr (10, [.ref tp, .int 0, .ref rd, .ref nw, .ref sp, .ref im, .ref ir, .ref kp, .ref sl, .ref tk, .ref hn, .ref rc, .ref jn, .ref br, .ref sh])), (nw, .inr (3, [.int 0, .int 0, .ref nw_slopes, .ref nw_wets, .ref nw_limits, .ref nw_platforms, .ref nw_kinds, .ref nw_trains, .ref nw_coaches])), (nw_platforms, .inr (6, [.int 6, .int 2, .ref nw_platforms_c, .int 0])), (nw_kinds, .inr (6, [.int 4, .int 5, .ref nw_kinds_c, .int 0])), (nw_trains, .inr (6, [.int 5, .int 3, .ref nw_trains_c, .int 0])), (nw_coaches, .inr (6, [.int 16, .int 5, .ref nw_coaches_c, .int 0]))]) (ci := 10) hKG hP [0, 1, 2, 3, 4, 5] rfl rfl rfl) rfl rfl hl.1 rfl (lv_room (Nat.le_of_ble_eq_true rfl)) dX10_judge_16 ⟨(Nat.le_of_ble_eq_true rfl), (Nat.le_of_ble_eq_true rfl)⟩)) (fun r7 hr7 => ?_)
    subst hr7
    refine lv_if_ne (tgt := 25) hx hb dX10_judge_19 (by decide) (fun c8 => absurd (by decide) c8) (fun c8 => ?_)
    refine lv_bipush (v := (-2)) hx hb dX10_judge_22 (by decide) ?_
    exact W.iret (v := (-2)) hx hb hr (fun t ht hW => ⟨(-2), rfl, rfl, ht⟩) (fun _ h => absurd h List.not_mem_nil) dX10_judge_24
  · refine lv_if_eq (tgt := 22) hx hb dX10_judge_6 (by decide) (fun c9 => ?_) (fun c9 => absurd (by decide) c9)
    refine lv_bipush (v := (-2)) hx hb dX10_judge_22 (by decide) ?_
    exact W.iret (v := (-2)) hx hb hr (fun t ht hW => ⟨(-2), rfl, rfl, ht⟩) (fun _ h => absurd h List.not_mem_nil) dX10_judge_24
  · refine lv_if_eq (tgt := 22) hx hb dX10_judge_6 (by decide) (fun c10 => ?_) (fun c10 => absurd (by decide) c10)
    refine lv_bipush (v := (-2)) hx hb dX10_judge_22 (by decide) ?_
    exact W.iret (v := (-2)) hx hb hr (fun t ht hW => ⟨(-2), rfl, rfl, ht⟩) (fun _ h => absurd h List.not_mem_nil) dX10_judge_24
set_option maxHeartbeats 4000000 in
set_option maxRecDepth 100000 in
theorem c_X10_pulls (l : Launch) (G : KG) (x0 : Nat) (tp : Nat) (rd : Nat) (nw : Nat) (sp : Nat) (im : Nat) (ir : Nat) (kp : Nat) (sl : Nat) (tk : Nat) (hn : Nat) (rc : Nat) (jn : Nat) (br : Nat) (sh : Nat) (nw_slopes : Nat) (nw_wets : Nat) (nw_limits : Nat) (nw_platforms : Nat) (nw_kinds : Nat) (nw_trains : Nat) (nw_coaches : Nat) (nw_platforms_c : Nat) (nw_kinds_c : Nat) (nw_trains_c : Nat) (nw_coaches_c : Nat) (p0 : Int32) (p1 : Int32) (p2 : Int32) : Met l yX10_pulls wsX10_pulls ({ frames := 1, cells := 0, slots := 0, locals := 21 }) (preS G [.ref x0, .int p0, .int p1, .int p2] [(x0, .inr (10, [.ref tp, .int 0, .ref rd, .ref nw, .ref sp, .ref im, .ref ir, .ref kp, .ref sl, .ref tk, .ref hn, .ref rc, .ref jn, .ref br, .ref sh])), (nw, .inr (3, [.int 0, .int 0, .ref nw_slopes, .ref nw_wets, .ref nw_limits, .ref nw_platforms, .ref nw_kinds, .ref nw_trains, .ref nw_coaches])), (nw_platforms, .inr (6, [.int 6, .int 2, .ref nw_platforms_c, .int 0])), (nw_kinds, .inr (6, [.int 4, .int 5, .ref nw_kinds_c, .int 0])), (nw_trains, .inr (6, [.int 5, .int 3, .ref nw_trains_c, .int 0])), (nw_coaches, .inr (6, [.int 16, .int 5, .ref nw_coaches_c, .int 0]))]) (vp_Si (fun (r : Int32) => (r = (-2)))) 0 0 (fun _ => False) := by
  refine Met.ofW (cc := cX10_pulls) (maxL := 4) (ret := (some .int)) (by decide) rfl ?_
  intro p e s m args below meth c s₁ B hml hv
  obtain ⟨rfl, hP, hKG⟩ := hv
  obtain ⟨hK, hAO⟩ := id hKG
  have hx := B.exec
  have hb := B.bytes
  have hr := B.returns
  have hts := atoms_spec (ws := wsX10_pulls) B.pre
  have hown : s.vm.findClass RX10 = some m.cls := findClass_of_methodNamed B.named
  have hlocks := B.notSynchronized
  have hl := lv_entry ([.ref x0, .int p0, .int p1, .int p2]) (n := 4) (Nat.le_of_ble_eq_true rfl)
  rw [lg_entry_eq]
  generalize (lg_sl ([.ref x0, .int p0, .int p1, .int p2]) ++ List.replicate (4 - (lg_sl ([.ref x0, .int p0, .int p1, .int p2])).length) Slot.unset).toArray = ls at hl ⊢
  have hl : lv_has ls 4 [(0, .ref x0), (1, .int p0), (2, .int p1), (3, .int p2)] := hl
  refine lv_aload_n hx hb dX10_pulls_0 rfl (lv_at hl 0 rfl) ?_
  refine va_get (D := G.1) (ci := 10) (v := .ref nw) (C := RX10) (T := TX10) (N := 15) hx hb hts (fun w h => List.mem_cons_of_mem _ (List.mem_append_left _ (List.mem_append_left _ (List.mem_append_left _ (List.mem_append_right _ h))))) hown hK hP 0 rfl rfl 3 (by decide) (hts (.fieldLink RX10 27 "SlipCoach" "now" "LSlipCoach$Line;") (by decide +kernel)) (fun _ h9 => h9) rfl dX10_pulls_1 ?_
  refine va_get (D := G.1) (ci := 3) (v := .ref nw_trains) (C := RX3) (T := TX3) (N := 9) hx hb hts (fun w h => List.mem_cons_of_mem _ (List.mem_append_left _ (List.mem_append_left _ (List.mem_append_right _ h)))) hown hK hP 1 rfl rfl 7 (by decide) (hts (.fieldLink RX10 193 "SlipCoach$Line" "trains" "LSlipCoach$Sheet;") (by decide +kernel)) (fun _ h9 => h9) rfl dX10_pulls_4 ?_
  refine lv_iload_n hx hb dX10_pulls_7 rfl (lv_at hl 1 rfl) ?_
  refine vp_callSi (va_Run.run (va_runV (As := [.int p0]) (rest := []) ⟨hx, hb, hml, hown, hts⟩ (c_has0 l G nw_trains 5 3 nw_trains_c p0) (cwV 1 hts gX10_pulls_X6_has rfl rfl rfl ⟨rfl, hdX6_has⟩ ⟨(Nat.le_of_ble_eq_true rfl), (Nat.le_of_ble_eq_true rfl)⟩) (preS_V (wc := [(nw_trains, .inr (6, [.int 5, .int 3, .ref nw_trains_c, .int 0]))]) (ci := 6) hKG hP [4] rfl rfl rfl) rfl rfl hl.1 rfl (lv_room (Nat.le_of_ble_eq_true rfl)) dX10_pulls_8 ⟨(Nat.le_of_ble_eq_true rfl), (Nat.le_of_ble_eq_true rfl)⟩)) (fun r1 hr1 => ?_)
  subst hr1
  refine lv_if_eq (tgt := 32) hx hb dX10_pulls_11 (by decide) (fun c2 => ?_) (fun c2 => absurd (by decide) c2)
  refine lv_bipush (v := (-2)) hx hb dX10_pulls_32 (by decide) ?_
  exact W.iret (v := (-2)) hx hb hr (fun t ht hW => ⟨(-2), rfl, rfl, ht⟩) (fun _ h => absurd h List.not_mem_nil) dX10_pulls_34
set_option maxHeartbeats 4000000 in
set_option maxRecDepth 100000 in
theorem c_X10_passes (l : Launch) (G : KG) (x0 : Nat) (tp : Nat) (rd : Nat) (nw : Nat) (sp : Nat) (im : Nat) (ir : Nat) (kp : Nat) (sl : Nat) (tk : Nat) (hn : Nat) (rc : Nat) (jn : Nat) (br : Nat) (sh : Nat) (nw_slopes : Nat) (nw_wets : Nat) (nw_limits : Nat) (nw_platforms : Nat) (nw_kinds : Nat) (nw_trains : Nat) (nw_coaches : Nat) (nw_platforms_c : Nat) (nw_kinds_c : Nat) (nw_trains_c : Nat) (nw_coaches_c : Nat) (p0 : Int32) (p1 : Int32) : Met l yX10_passes wsX10_passes ({ frames := 1, cells := 0, slots := 0, locals := 21 }) (preS G [.ref x0, .int p0, .int p1] [(x0, .inr (10, [.ref tp, .int 0, .ref rd, .ref nw, .ref sp, .ref im, .ref ir, .ref kp, .ref sl, .ref tk, .ref hn, .ref rc, .ref jn, .ref br, .ref sh])), (nw, .inr (3, [.int 0, .int 0, .ref nw_slopes, .ref nw_wets, .ref nw_limits, .ref nw_platforms, .ref nw_kinds, .ref nw_trains, .ref nw_coaches])), (nw_platforms, .inr (6, [.int 6, .int 2, .ref nw_platforms_c, .int 0])), (nw_kinds, .inr (6, [.int 4, .int 5, .ref nw_kinds_c, .int 0])), (nw_trains, .inr (6, [.int 5, .int 3, .ref nw_trains_c, .int 0])), (nw_coaches, .inr (6, [.int 16, .int 5, .ref nw_coaches_c, .int 0]))]) (vp_Si (fun (r : Int32) => (r = (-2)))) 0 0 (fun _ => False) := by
  refine Met.ofW (cc := cX10_passes) (maxL := 3) (ret := (some .int)) (by decide) rfl ?_
  intro p e s m args below meth c s₁ B hml hv
  obtain ⟨rfl, hP, hKG⟩ := hv
  obtain ⟨hK, hAO⟩ := id hKG
  have hx := B.exec
  have hb := B.bytes
  have hr := B.returns
  have hts := atoms_spec (ws := wsX10_passes) B.pre
  have hown : s.vm.findClass RX10 = some m.cls := findClass_of_methodNamed B.named
  have hlocks := B.notSynchronized
  have hl := lv_entry ([.ref x0, .int p0, .int p1]) (n := 3) (Nat.le_of_ble_eq_true rfl)
  rw [lg_entry_eq]
  generalize (lg_sl ([.ref x0, .int p0, .int p1]) ++ List.replicate (3 - (lg_sl ([.ref x0, .int p0, .int p1])).length) Slot.unset).toArray = ls at hl ⊢
  have hl : lv_has ls 3 [(0, .ref x0), (1, .int p0), (2, .int p1)] := hl
  refine lv_aload_n hx hb dX10_passes_0 rfl (lv_at hl 0 rfl) ?_
  refine va_get (D := G.1) (ci := 10) (v := .ref nw) (C := RX10) (T := TX10) (N := 15) hx hb hts (fun w h => List.mem_cons_of_mem _ (List.mem_append_left _ (List.mem_append_left _ (List.mem_append_left _ (List.mem_append_left _ (List.mem_append_right _ h)))))) hown hK hP 0 rfl rfl 3 (by decide) (hts (.fieldLink RX10 27 "SlipCoach" "now" "LSlipCoach$Line;") (by decide +kernel)) (fun _ h9 => h9) rfl dX10_passes_1 ?_
  refine va_get (D := G.1) (ci := 3) (v := .ref nw_trains) (C := RX3) (T := TX3) (N := 9) hx hb hts (fun w h => List.mem_cons_of_mem _ (List.mem_append_left _ (List.mem_append_left _ (List.mem_append_left _ (List.mem_append_right _ h))))) hown hK hP 1 rfl rfl 7 (by decide) (hts (.fieldLink RX10 193 "SlipCoach$Line" "trains" "LSlipCoach$Sheet;") (by decide +kernel)) (fun _ h9 => h9) rfl dX10_passes_4 ?_
  refine lv_iload_n hx hb dX10_passes_7 rfl (lv_at hl 1 rfl) ?_
  refine vp_callSi (va_Run.run (va_runV (As := [.int p0]) (rest := []) ⟨hx, hb, hml, hown, hts⟩ (c_has0 l G nw_trains 5 3 nw_trains_c p0) (cwV 1 hts gX10_passes_X6_has rfl rfl rfl ⟨rfl, hdX6_has⟩ ⟨(Nat.le_of_ble_eq_true rfl), (Nat.le_of_ble_eq_true rfl)⟩) (preS_V (wc := [(nw_trains, .inr (6, [.int 5, .int 3, .ref nw_trains_c, .int 0]))]) (ci := 6) hKG hP [4] rfl rfl rfl) rfl rfl hl.1 rfl (lv_room (Nat.le_of_ble_eq_true rfl)) dX10_passes_8 ⟨(Nat.le_of_ble_eq_true rfl), (Nat.le_of_ble_eq_true rfl)⟩)) (fun r1 hr1 => ?_)
  subst hr1
  refine lv_if_eq (tgt := 22) hx hb dX10_passes_11 (by decide) (fun c2 => ?_) (fun c2 => absurd (by decide) c2)
  refine lv_bipush (v := (-2)) hx hb dX10_passes_22 (by decide) ?_
  exact W.iret (v := (-2)) hx hb hr (fun t ht hW => ⟨(-2), rfl, rfl, ht⟩) (fun _ h => absurd h List.not_mem_nil) dX10_passes_24
set_option maxHeartbeats 4000000 in
set_option maxRecDepth 100000 in
theorem c_X10_lets (l : Launch) (G : KG) (x0 : Nat) (tp : Nat) (rd : Nat) (nw : Nat) (sp : Nat) (im : Nat) (ir : Nat) (kp : Nat) (sl : Nat) (tk : Nat) (hn : Nat) (rc : Nat) (jn : Nat) (br : Nat) (sh : Nat) (nw_slopes : Nat) (nw_wets : Nat) (nw_limits : Nat) (nw_platforms : Nat) (nw_kinds : Nat) (nw_trains : Nat) (nw_coaches : Nat) (nw_platforms_c : Nat) (nw_kinds_c : Nat) (nw_trains_c : Nat) (nw_coaches_c : Nat) (p0 : Int32) (p1 : Int32) : Met l yX10_lets wsX10_lets ({ frames := 1, cells := 0, slots := 0, locals := 21 }) (preS G [.ref x0, .int p0, .int p1] [(x0, .inr (10, [.ref tp, .int 0, .ref rd, .ref nw, .ref sp, .ref im, .ref ir, .ref kp, .ref sl, .ref tk, .ref hn, .ref rc, .ref jn, .ref br, .ref sh])), (nw, .inr (3, [.int 0, .int 0, .ref nw_slopes, .ref nw_wets, .ref nw_limits, .ref nw_platforms, .ref nw_kinds, .ref nw_trains, .ref nw_coaches])), (nw_platforms, .inr (6, [.int 6, .int 2, .ref nw_platforms_c, .int 0])), (nw_kinds, .inr (6, [.int 4, .int 5, .ref nw_kinds_c, .int 0])), (nw_trains, .inr (6, [.int 5, .int 3, .ref nw_trains_c, .int 0])), (nw_coaches, .inr (6, [.int 16, .int 5, .ref nw_coaches_c, .int 0]))]) (vp_Si (fun (r : Int32) => (r = (-2)))) 0 0 (fun _ => False) := by
  refine Met.ofW (cc := cX10_lets) (maxL := 4) (ret := (some .int)) (by decide) rfl ?_
  intro p e s m args below meth c s₁ B hml hv
  obtain ⟨rfl, hP, hKG⟩ := hv
  obtain ⟨hK, hAO⟩ := id hKG
  have hx := B.exec
  have hb := B.bytes
  have hr := B.returns
  have hts := atoms_spec (ws := wsX10_lets) B.pre
  have hown : s.vm.findClass RX10 = some m.cls := findClass_of_methodNamed B.named
  have hlocks := B.notSynchronized
  have hl := lv_entry ([.ref x0, .int p0, .int p1]) (n := 4) (Nat.le_of_ble_eq_true rfl)
  rw [lg_entry_eq]
  generalize (lg_sl ([.ref x0, .int p0, .int p1]) ++ List.replicate (4 - (lg_sl ([.ref x0, .int p0, .int p1])).length) Slot.unset).toArray = ls at hl ⊢
  have hl : lv_has ls 4 [(0, .ref x0), (1, .int p0), (2, .int p1)] := hl
  refine lv_aload_n hx hb dX10_lets_0 rfl (lv_at hl 0 rfl) ?_
  refine va_get (D := G.1) (ci := 10) (v := .ref nw) (C := RX10) (T := TX10) (N := 15) hx hb hts (fun w h => List.mem_cons_of_mem _ (List.mem_append_left _ (List.mem_append_left _ (List.mem_append_left _ (List.mem_append_left _ (List.mem_append_right _ h)))))) hown hK hP 0 rfl rfl 3 (by decide) (hts (.fieldLink RX10 27 "SlipCoach" "now" "LSlipCoach$Line;") (by decide +kernel)) (fun _ h9 => h9) rfl dX10_lets_1 ?_
  refine va_get (D := G.1) (ci := 3) (v := .ref nw_coaches) (C := RX3) (T := TX3) (N := 9) hx hb hts (fun w h => List.mem_cons_of_mem _ (List.mem_append_left _ (List.mem_append_left _ (List.mem_append_left _ (List.mem_append_right _ h))))) hown hK hP 1 rfl rfl 8 (by decide) (hts (.fieldLink RX10 173 "SlipCoach$Line" "coaches" "LSlipCoach$Sheet;") (by decide +kernel)) (fun _ h9 => h9) rfl dX10_lets_4 ?_
  refine lv_iload_n hx hb dX10_lets_7 rfl (lv_at hl 1 rfl) ?_
  refine vp_callSi (va_Run.run (va_runV (As := [.int p0]) (rest := []) ⟨hx, hb, hml, hown, hts⟩ (c_has0 l G nw_coaches 16 5 nw_coaches_c p0) (cwV 1 hts gX10_lets_X6_has rfl rfl rfl ⟨rfl, hdX6_has⟩ ⟨(Nat.le_of_ble_eq_true rfl), (Nat.le_of_ble_eq_true rfl)⟩) (preS_V (wc := [(nw_coaches, .inr (6, [.int 16, .int 5, .ref nw_coaches_c, .int 0]))]) (ci := 6) hKG hP [5] rfl rfl rfl) rfl rfl hl.1 rfl (lv_room (Nat.le_of_ble_eq_true rfl)) dX10_lets_8 ⟨(Nat.le_of_ble_eq_true rfl), (Nat.le_of_ble_eq_true rfl)⟩)) (fun r1 hr1 => ?_)
  subst hr1
  refine lv_if_eq (tgt := 23) hx hb dX10_lets_11 (by decide) (fun c2 => ?_) (fun c2 => absurd (by decide) c2)
  refine lv_bipush (v := (-2)) hx hb dX10_lets_23 (by decide) ?_
  exact W.iret (v := (-2)) hx hb hr (fun t ht hW => ⟨(-2), rfl, rfl, ht⟩) (fun _ h => absurd h List.not_mem_nil) dX10_lets_25
set_option maxHeartbeats 4000000 in
set_option maxRecDepth 100000 in
theorem c_X10_comes (l : Launch) (G : KG) (x0 : Nat) (tp : Nat) (rd : Nat) (nw : Nat) (sp : Nat) (im : Nat) (ir : Nat) (kp : Nat) (sl : Nat) (tk : Nat) (hn : Nat) (rc : Nat) (jn : Nat) (br : Nat) (sh : Nat) (nw_slopes : Nat) (nw_wets : Nat) (nw_limits : Nat) (nw_platforms : Nat) (nw_kinds : Nat) (nw_trains : Nat) (nw_coaches : Nat) (nw_platforms_c : Nat) (nw_kinds_c : Nat) (nw_trains_c : Nat) (nw_coaches_c : Nat) (p0 : Int32) (p1 : Int32) : Met l yX10_comes wsX10_comes ({ frames := 1, cells := 0, slots := 0, locals := 21 }) (preS G [.ref x0, .int p0, .int p1] [(x0, .inr (10, [.ref tp, .int 0, .ref rd, .ref nw, .ref sp, .ref im, .ref ir, .ref kp, .ref sl, .ref tk, .ref hn, .ref rc, .ref jn, .ref br, .ref sh])), (nw, .inr (3, [.int 0, .int 0, .ref nw_slopes, .ref nw_wets, .ref nw_limits, .ref nw_platforms, .ref nw_kinds, .ref nw_trains, .ref nw_coaches])), (nw_platforms, .inr (6, [.int 6, .int 2, .ref nw_platforms_c, .int 0])), (nw_kinds, .inr (6, [.int 4, .int 5, .ref nw_kinds_c, .int 0])), (nw_trains, .inr (6, [.int 5, .int 3, .ref nw_trains_c, .int 0])), (nw_coaches, .inr (6, [.int 16, .int 5, .ref nw_coaches_c, .int 0]))]) (vp_Si (fun (r : Int32) => (r = (-2)))) 0 0 (fun _ => False) := by
  refine Met.ofW (cc := cX10_comes) (maxL := 4) (ret := (some .int)) (by decide) rfl ?_
  intro p e s m args below meth c s₁ B hml hv
  obtain ⟨rfl, hP, hKG⟩ := hv
  obtain ⟨hK, hAO⟩ := id hKG
  have hx := B.exec
  have hb := B.bytes
  have hr := B.returns
  have hts := atoms_spec (ws := wsX10_comes) B.pre
  have hown : s.vm.findClass RX10 = some m.cls := findClass_of_methodNamed B.named
  have hlocks := B.notSynchronized
  have hl := lv_entry ([.ref x0, .int p0, .int p1]) (n := 4) (Nat.le_of_ble_eq_true rfl)
  rw [lg_entry_eq]
  generalize (lg_sl ([.ref x0, .int p0, .int p1]) ++ List.replicate (4 - (lg_sl ([.ref x0, .int p0, .int p1])).length) Slot.unset).toArray = ls at hl ⊢
  have hl : lv_has ls 4 [(0, .ref x0), (1, .int p0), (2, .int p1)] := hl
  refine lv_aload_n hx hb dX10_comes_0 rfl (lv_at hl 0 rfl) ?_
  refine va_get (D := G.1) (ci := 10) (v := .ref nw) (C := RX10) (T := TX10) (N := 15) hx hb hts (fun w h => List.mem_cons_of_mem _ (List.mem_append_left _ (List.mem_append_left _ (List.mem_append_left _ (List.mem_append_left _ (List.mem_append_left _ (List.mem_append_right _ h))))))) hown hK hP 0 rfl rfl 3 (by decide) (hts (.fieldLink RX10 27 "SlipCoach" "now" "LSlipCoach$Line;") (by decide +kernel)) (fun _ h9 => h9) rfl dX10_comes_1 ?_
  refine va_get (D := G.1) (ci := 3) (v := .ref nw_coaches) (C := RX3) (T := TX3) (N := 9) hx hb hts (fun w h => List.mem_cons_of_mem _ (List.mem_append_left _ (List.mem_append_left _ (List.mem_append_left _ (List.mem_append_left _ (List.mem_append_right _ h)))))) hown hK hP 1 rfl rfl 8 (by decide) (hts (.fieldLink RX10 173 "SlipCoach$Line" "coaches" "LSlipCoach$Sheet;") (by decide +kernel)) (fun _ h9 => h9) rfl dX10_comes_4 ?_
  refine lv_iload_n hx hb dX10_comes_7 rfl (lv_at hl 1 rfl) ?_
  refine vp_callSi (va_Run.run (va_runV (As := [.int p0]) (rest := []) ⟨hx, hb, hml, hown, hts⟩ (c_has0 l G nw_coaches 16 5 nw_coaches_c p0) (cwV 1 hts gX10_comes_X6_has rfl rfl rfl ⟨rfl, hdX6_has⟩ ⟨(Nat.le_of_ble_eq_true rfl), (Nat.le_of_ble_eq_true rfl)⟩) (preS_V (wc := [(nw_coaches, .inr (6, [.int 16, .int 5, .ref nw_coaches_c, .int 0]))]) (ci := 6) hKG hP [5] rfl rfl rfl) rfl rfl hl.1 rfl (lv_room (Nat.le_of_ble_eq_true rfl)) dX10_comes_8 ⟨(Nat.le_of_ble_eq_true rfl), (Nat.le_of_ble_eq_true rfl)⟩)) (fun r1 hr1 => ?_)
  subst hr1
  refine lv_if_eq (tgt := 23) hx hb dX10_comes_11 (by decide) (fun c2 => ?_) (fun c2 => absurd (by decide) c2)
  refine lv_bipush (v := (-2)) hx hb dX10_comes_23 (by decide) ?_
  exact W.iret (v := (-2)) hx hb hr (fun t ht hW => ⟨(-2), rfl, rfl, ht⟩) (fun _ h => absurd h List.not_mem_nil) dX10_comes_25
set_option maxHeartbeats 4000000 in
set_option maxRecDepth 100000 in
theorem c_X10_clear (l : Launch) (G : KG) (x0 : Nat) (tp : Nat) (rd : Nat) (nw : Nat) (sp : Nat) (im : Nat) (ir : Nat) (kp : Nat) (sl : Nat) (tk : Nat) (hn : Nat) (rc : Nat) (jn : Nat) (br : Nat) (sh : Nat) (nw_slopes : Nat) (nw_wets : Nat) (nw_limits : Nat) (nw_platforms : Nat) (nw_kinds : Nat) (nw_trains : Nat) (nw_coaches : Nat) (nw_platforms_c : Nat) (nw_kinds_c : Nat) (nw_trains_c : Nat) (nw_coaches_c : Nat) (p0 : Int32) : Met l yX10_clear wsX10_clear ({ frames := 1, cells := 0, slots := 0, locals := 21 }) (preS G [.ref x0, .int p0] [(x0, .inr (10, [.ref tp, .int 0, .ref rd, .ref nw, .ref sp, .ref im, .ref ir, .ref kp, .ref sl, .ref tk, .ref hn, .ref rc, .ref jn, .ref br, .ref sh])), (nw, .inr (3, [.int 0, .int 0, .ref nw_slopes, .ref nw_wets, .ref nw_limits, .ref nw_platforms, .ref nw_kinds, .ref nw_trains, .ref nw_coaches])), (nw_platforms, .inr (6, [.int 6, .int 2, .ref nw_platforms_c, .int 0])), (nw_kinds, .inr (6, [.int 4, .int 5, .ref nw_kinds_c, .int 0])), (nw_trains, .inr (6, [.int 5, .int 3, .ref nw_trains_c, .int 0])), (nw_coaches, .inr (6, [.int 16, .int 5, .ref nw_coaches_c, .int 0]))]) (vp_Si (fun (r : Int32) => (r = (-2)))) 0 0 (fun _ => False) := by
  refine Met.ofW (cc := cX10_clear) (maxL := 2) (ret := (some .int)) (by decide) rfl ?_
  intro p e s m args below meth c s₁ B hml hv
  obtain ⟨rfl, hP, hKG⟩ := hv
  obtain ⟨hK, hAO⟩ := id hKG
  have hx := B.exec
  have hb := B.bytes
  have hr := B.returns
  have hts := atoms_spec (ws := wsX10_clear) B.pre
  have hown : s.vm.findClass RX10 = some m.cls := findClass_of_methodNamed B.named
  have hlocks := B.notSynchronized
  have hl := lv_entry ([.ref x0, .int p0]) (n := 2) (Nat.le_of_ble_eq_true rfl)
  rw [lg_entry_eq]
  generalize (lg_sl ([.ref x0, .int p0]) ++ List.replicate (2 - (lg_sl ([.ref x0, .int p0])).length) Slot.unset).toArray = ls at hl ⊢
  have hl : lv_has ls 2 [(0, .ref x0), (1, .int p0)] := hl
  refine lv_aload_n hx hb dX10_clear_0 rfl (lv_at hl 0 rfl) ?_
  refine va_get (D := G.1) (ci := 10) (v := .ref nw) (C := RX10) (T := TX10) (N := 15) hx hb hts (fun w h => List.mem_cons_of_mem _ (List.mem_append_left _ (List.mem_append_left _ (List.mem_append_left _ (List.mem_append_left _ (List.mem_append_left _ (List.mem_append_right _ h))))))) hown hK hP 0 rfl rfl 3 (by decide) (hts (.fieldLink RX10 27 "SlipCoach" "now" "LSlipCoach$Line;") (by decide +kernel)) (fun _ h9 => h9) rfl dX10_clear_1 ?_
  refine va_get (D := G.1) (ci := 3) (v := .ref nw_coaches) (C := RX3) (T := TX3) (N := 9) hx hb hts (fun w h => List.mem_cons_of_mem _ (List.mem_append_left _ (List.mem_append_left _ (List.mem_append_left _ (List.mem_append_left _ (List.mem_append_right _ h)))))) hown hK hP 1 rfl rfl 8 (by decide) (hts (.fieldLink RX10 173 "SlipCoach$Line" "coaches" "LSlipCoach$Sheet;") (by decide +kernel)) (fun _ h9 => h9) rfl dX10_clear_4 ?_
  refine lv_iload_n hx hb dX10_clear_7 rfl (lv_at hl 1 rfl) ?_
  refine vp_callSi (va_Run.run (va_runV (As := [.int p0]) (rest := []) ⟨hx, hb, hml, hown, hts⟩ (c_has0 l G nw_coaches 16 5 nw_coaches_c p0) (cwV 1 hts gX10_clear_X6_has rfl rfl rfl ⟨rfl, hdX6_has⟩ ⟨(Nat.le_of_ble_eq_true rfl), (Nat.le_of_ble_eq_true rfl)⟩) (preS_V (wc := [(nw_coaches, .inr (6, [.int 16, .int 5, .ref nw_coaches_c, .int 0]))]) (ci := 6) hKG hP [5] rfl rfl rfl) rfl rfl hl.1 rfl (lv_room (Nat.le_of_ble_eq_true rfl)) dX10_clear_8 ⟨(Nat.le_of_ble_eq_true rfl), (Nat.le_of_ble_eq_true rfl)⟩)) (fun r1 hr1 => ?_)
  subst hr1
  refine lv_if_ne (tgt := 17) hx hb dX10_clear_11 (by decide) (fun c2 => absurd (by decide) c2) (fun c2 => ?_)
  refine lv_bipush (v := (-2)) hx hb dX10_clear_14 (by decide) ?_
  exact W.iret (v := (-2)) hx hb hr (fun t ht hW => ⟨(-2), rfl, rfl, ht⟩) (fun _ h => absurd h List.not_mem_nil) dX10_clear_16
set_option maxHeartbeats 4000000 in
set_option maxRecDepth 100000 in
theorem c_X10_breach (l : Launch) (G : KG) (x0 : Nat) (tp : Nat) (rd : Nat) (nw : Nat) (sp : Nat) (im : Nat) (ir : Nat) (kp : Nat) (sl : Nat) (tk : Nat) (hn : Nat) (rc : Nat) (jn : Nat) (br : Nat) (sh : Nat) (nw_slopes : Nat) (nw_wets : Nat) (nw_limits : Nat) (nw_platforms : Nat) (nw_kinds : Nat) (nw_trains : Nat) (nw_coaches : Nat) (nw_platforms_c : Nat) (nw_kinds_c : Nat) (nw_trains_c : Nat) (nw_coaches_c : Nat) (p0 : Int32) : Met l yX10_breach wsX10_breach ({ frames := 1, cells := 0, slots := 0, locals := 20 }) (preS G [.ref x0, .int p0] [(x0, .inr (10, [.ref tp, .int 0, .ref rd, .ref nw, .ref sp, .ref im, .ref ir, .ref kp, .ref sl, .ref tk, .ref hn, .ref rc, .ref jn, .ref br, .ref sh])), (nw, .inr (3, [.int 0, .int 0, .ref nw_slopes, .ref nw_wets, .ref nw_limits, .ref nw_platforms, .ref nw_kinds, .ref nw_trains, .ref nw_coaches])), (nw_platforms, .inr (6, [.int 6, .int 2, .ref nw_platforms_c, .int 0])), (nw_kinds, .inr (6, [.int 4, .int 5, .ref nw_kinds_c, .int 0])), (nw_trains, .inr (6, [.int 5, .int 3, .ref nw_trains_c, .int 0])), (nw_coaches, .inr (6, [.int 16, .int 5, .ref nw_coaches_c, .int 0]))]) (vp_Si (fun (r : Int32) => (r = (-2)))) 0 0 (fun _ => False) := by
  refine Met.ofW (cc := cX10_breach) (maxL := 2) (ret := (some .int)) (by decide) rfl ?_
  intro p e s m args below meth c s₁ B hml hv
  obtain ⟨rfl, hP, hKG⟩ := hv
  obtain ⟨hK, hAO⟩ := id hKG
  have hx := B.exec
  have hb := B.bytes
  have hr := B.returns
  have hts := atoms_spec (ws := wsX10_breach) B.pre
  have hown : s.vm.findClass RX10 = some m.cls := findClass_of_methodNamed B.named
  have hlocks := B.notSynchronized
  have hl := lv_entry ([.ref x0, .int p0]) (n := 2) (Nat.le_of_ble_eq_true rfl)
  rw [lg_entry_eq]
  generalize (lg_sl ([.ref x0, .int p0]) ++ List.replicate (2 - (lg_sl ([.ref x0, .int p0])).length) Slot.unset).toArray = ls at hl ⊢
  have hl : lv_has ls 2 [(0, .ref x0), (1, .int p0)] := hl
  refine lv_aload_n hx hb dX10_breach_0 rfl (lv_at hl 0 rfl) ?_
  refine vp_callSi (va_Run.run (va_runV (As := []) (rest := []) ⟨hx, hb, hml, hown, hts⟩ (c_X10_hasLine l G x0 tp rd nw sp im ir kp sl tk hn rc jn br sh nw_slopes nw_wets nw_limits nw_platforms nw_kinds nw_trains nw_coaches) (cwV 0 hts gX10_breach_X10_hasLine rfl rfl rfl ⟨rfl, hdX10_hasLine⟩ ⟨(Nat.le_of_ble_eq_true rfl), (Nat.le_of_ble_eq_true rfl)⟩) (preS_V (wc := [(x0, .inr (10, [.ref tp, .int 0, .ref rd, .ref nw, .ref sp, .ref im, .ref ir, .ref kp, .ref sl, .ref tk, .ref hn, .ref rc, .ref jn, .ref br, .ref sh])), (nw, .inr (3, [.int 0, .int 0, .ref nw_slopes, .ref nw_wets, .ref nw_limits, .ref nw_platforms, .ref nw_kinds, .ref nw_trains, .ref nw_coaches]))]) (ci := 10) hKG hP [0, 1] rfl rfl rfl) rfl rfl hl.1 rfl (lv_room (Nat.le_of_ble_eq_true rfl)) dX10_breach_1 ⟨(Nat.le_of_ble_eq_true rfl), (Nat.le_of_ble_eq_true rfl)⟩)) (fun r1 hr1 => ?_)
  subst hr1
  refine lv_if_eq (tgt := 16) hx hb dX10_breach_4 (by decide) (fun c2 => ?_) (fun c2 => absurd (by decide) c2)
  refine lv_bipush (v := (-2)) hx hb dX10_breach_16 (by decide) ?_
  exact W.iret (v := (-2)) hx hb hr (fun t ht hW => ⟨(-2), rfl, rfl, ht⟩) (fun _ h => absurd h List.not_mem_nil) dX10_breach_18
set_option maxHeartbeats 4000000 in
set_option maxRecDepth 100000 in
theorem c_X10_mistake (l : Launch) (G : KG) (x0 : Nat) (tp : Nat) (rd : Nat) (nw : Nat) (sp : Nat) (im : Nat) (ir : Nat) (kp : Nat) (sl : Nat) (tk : Nat) (hn : Nat) (rc : Nat) (jn : Nat) (br : Nat) (sh : Nat) (nw_slopes : Nat) (nw_wets : Nat) (nw_limits : Nat) (nw_platforms : Nat) (nw_kinds : Nat) (nw_trains : Nat) (nw_coaches : Nat) (nw_platforms_c : Nat) (nw_kinds_c : Nat) (nw_trains_c : Nat) (nw_coaches_c : Nat) (p0 : Int32) (p1 : Int32) : Met l yX10_mistake wsX10_mistake ({ frames := 1, cells := 0, slots := 0, locals := 20 }) (preS G [.ref x0, .int p0, .int p1] [(x0, .inr (10, [.ref tp, .int 0, .ref rd, .ref nw, .ref sp, .ref im, .ref ir, .ref kp, .ref sl, .ref tk, .ref hn, .ref rc, .ref jn, .ref br, .ref sh])), (nw, .inr (3, [.int 0, .int 0, .ref nw_slopes, .ref nw_wets, .ref nw_limits, .ref nw_platforms, .ref nw_kinds, .ref nw_trains, .ref nw_coaches])), (nw_platforms, .inr (6, [.int 6, .int 2, .ref nw_platforms_c, .int 0])), (nw_kinds, .inr (6, [.int 4, .int 5, .ref nw_kinds_c, .int 0])), (nw_trains, .inr (6, [.int 5, .int 3, .ref nw_trains_c, .int 0])), (nw_coaches, .inr (6, [.int 16, .int 5, .ref nw_coaches_c, .int 0]))]) (vp_Si (fun (r : Int32) => (r = (-2)))) 0 0 (fun _ => False) := by
  refine Met.ofW (cc := cX10_mistake) (maxL := 4) (ret := (some .int)) (by decide) rfl ?_
  intro p e s m args below meth c s₁ B hml hv
  obtain ⟨rfl, hP, hKG⟩ := hv
  obtain ⟨hK, hAO⟩ := id hKG
  have hx := B.exec
  have hb := B.bytes
  have hr := B.returns
  have hts := atoms_spec (ws := wsX10_mistake) B.pre
  have hown : s.vm.findClass RX10 = some m.cls := findClass_of_methodNamed B.named
  have hlocks := B.notSynchronized
  have hl := lv_entry ([.ref x0, .int p0, .int p1]) (n := 4) (Nat.le_of_ble_eq_true rfl)
  rw [lg_entry_eq]
  generalize (lg_sl ([.ref x0, .int p0, .int p1]) ++ List.replicate (4 - (lg_sl ([.ref x0, .int p0, .int p1])).length) Slot.unset).toArray = ls at hl ⊢
  have hl : lv_has ls 4 [(0, .ref x0), (1, .int p0), (2, .int p1)] := hl
  refine lv_aload_n hx hb dX10_mistake_0 rfl (lv_at hl 0 rfl) ?_
  refine vp_callSi (va_Run.run (va_runV (As := []) (rest := []) ⟨hx, hb, hml, hown, hts⟩ (c_X10_hasLine l G x0 tp rd nw sp im ir kp sl tk hn rc jn br sh nw_slopes nw_wets nw_limits nw_platforms nw_kinds nw_trains nw_coaches) (cwV 0 hts gX10_mistake_X10_hasLine rfl rfl rfl ⟨rfl, hdX10_hasLine⟩ ⟨(Nat.le_of_ble_eq_true rfl), (Nat.le_of_ble_eq_true rfl)⟩) (preS_V (wc := [(x0, .inr (10, [.ref tp, .int 0, .ref rd, .ref nw, .ref sp, .ref im, .ref ir, .ref kp, .ref sl, .ref tk, .ref hn, .ref rc, .ref jn, .ref br, .ref sh])), (nw, .inr (3, [.int 0, .int 0, .ref nw_slopes, .ref nw_wets, .ref nw_limits, .ref nw_platforms, .ref nw_kinds, .ref nw_trains, .ref nw_coaches]))]) (ci := 10) hKG hP [0, 1] rfl rfl rfl) rfl rfl hl.1 rfl (lv_room (Nat.le_of_ble_eq_true rfl)) dX10_mistake_1 ⟨(Nat.le_of_ble_eq_true rfl), (Nat.le_of_ble_eq_true rfl)⟩)) (fun r1 hr1 => ?_)
  subst hr1
  refine lv_if_eq (tgt := 26) hx hb dX10_mistake_4 (by decide) (fun c2 => ?_) (fun c2 => absurd (by decide) c2)
  refine lv_bipush (v := (-2)) hx hb dX10_mistake_26 (by decide) ?_
  exact W.iret (v := (-2)) hx hb hr (fun t ht hW => ⟨(-2), rfl, rfl, ht⟩) (fun _ h => absurd h List.not_mem_nil) dX10_mistake_28
set_option maxHeartbeats 4000000 in
set_option maxRecDepth 100000 in
theorem c_X10_weak (l : Launch) (G : KG) (x0 : Nat) (tp : Nat) (rd : Nat) (nw : Nat) (sp : Nat) (im : Nat) (ir : Nat) (kp : Nat) (sl : Nat) (tk : Nat) (hn : Nat) (rc : Nat) (jn : Nat) (br : Nat) (sh : Nat) (nw_slopes : Nat) (nw_wets : Nat) (nw_limits : Nat) (nw_platforms : Nat) (nw_kinds : Nat) (nw_trains : Nat) (nw_coaches : Nat) (nw_platforms_c : Nat) (nw_kinds_c : Nat) (nw_trains_c : Nat) (nw_coaches_c : Nat) (p0 : Int32) : Met l yX10_weak wsX10_weak ({ frames := 1, cells := 0, slots := 0, locals := 20 }) (preS G [.ref x0, .int p0] [(x0, .inr (10, [.ref tp, .int 0, .ref rd, .ref nw, .ref sp, .ref im, .ref ir, .ref kp, .ref sl, .ref tk, .ref hn, .ref rc, .ref jn, .ref br, .ref sh])), (nw, .inr (3, [.int 0, .int 0, .ref nw_slopes, .ref nw_wets, .ref nw_limits, .ref nw_platforms, .ref nw_kinds, .ref nw_trains, .ref nw_coaches])), (nw_platforms, .inr (6, [.int 6, .int 2, .ref nw_platforms_c, .int 0])), (nw_kinds, .inr (6, [.int 4, .int 5, .ref nw_kinds_c, .int 0])), (nw_trains, .inr (6, [.int 5, .int 3, .ref nw_trains_c, .int 0])), (nw_coaches, .inr (6, [.int 16, .int 5, .ref nw_coaches_c, .int 0]))]) (vp_Si (fun (r : Int32) => (r = (-2)))) 0 0 (fun _ => False) := by
  refine Met.ofW (cc := cX10_weak) (maxL := 5) (ret := (some .int)) (by decide) rfl ?_
  intro p e s m args below meth c s₁ B hml hv
  obtain ⟨rfl, hP, hKG⟩ := hv
  obtain ⟨hK, hAO⟩ := id hKG
  have hx := B.exec
  have hb := B.bytes
  have hr := B.returns
  have hts := atoms_spec (ws := wsX10_weak) B.pre
  have hown : s.vm.findClass RX10 = some m.cls := findClass_of_methodNamed B.named
  have hlocks := B.notSynchronized
  have hl := lv_entry ([.ref x0, .int p0]) (n := 5) (Nat.le_of_ble_eq_true rfl)
  rw [lg_entry_eq]
  generalize (lg_sl ([.ref x0, .int p0]) ++ List.replicate (5 - (lg_sl ([.ref x0, .int p0])).length) Slot.unset).toArray = ls at hl ⊢
  have hl : lv_has ls 5 [(0, .ref x0), (1, .int p0)] := hl
  refine lv_aload_n hx hb dX10_weak_0 rfl (lv_at hl 0 rfl) ?_
  refine vp_callSi (va_Run.run (va_runV (As := []) (rest := []) ⟨hx, hb, hml, hown, hts⟩ (c_X10_hasLine l G x0 tp rd nw sp im ir kp sl tk hn rc jn br sh nw_slopes nw_wets nw_limits nw_platforms nw_kinds nw_trains nw_coaches) (cwV 0 hts gX10_weak_X10_hasLine rfl rfl rfl ⟨rfl, hdX10_hasLine⟩ ⟨(Nat.le_of_ble_eq_true rfl), (Nat.le_of_ble_eq_true rfl)⟩) (preS_V (wc := [(x0, .inr (10, [.ref tp, .int 0, .ref rd, .ref nw, .ref sp, .ref im, .ref ir, .ref kp, .ref sl, .ref tk, .ref hn, .ref rc, .ref jn, .ref br, .ref sh])), (nw, .inr (3, [.int 0, .int 0, .ref nw_slopes, .ref nw_wets, .ref nw_limits, .ref nw_platforms, .ref nw_kinds, .ref nw_trains, .ref nw_coaches]))]) (ci := 10) hKG hP [0, 1] rfl rfl rfl) rfl rfl hl.1 rfl (lv_room (Nat.le_of_ble_eq_true rfl)) dX10_weak_1 ⟨(Nat.le_of_ble_eq_true rfl), (Nat.le_of_ble_eq_true rfl)⟩)) (fun r1 hr1 => ?_)
  subst hr1
  refine lv_if_eq (tgt := 17) hx hb dX10_weak_4 (by decide) (fun c2 => ?_) (fun c2 => absurd (by decide) c2)
  refine lv_bipush (v := (-2)) hx hb dX10_weak_17 (by decide) ?_
  exact W.iret (v := (-2)) hx hb hr (fun t ht hW => ⟨(-2), rfl, rfl, ht⟩) (fun _ h => absurd h List.not_mem_nil) dX10_weak_19
set_option maxHeartbeats 4000000 in
set_option maxRecDepth 100000 in
theorem c_X10_start (l : Launch) (G : KG) (x0 : Nat) (tp : Nat) (rd : Nat) (nw : Nat) (sp : Nat) (im : Nat) (ir : Nat) (kp : Nat) (sl : Nat) (tk : Nat) (hn : Nat) (rc : Nat) (jn : Nat) (br : Nat) (sh : Nat) (nw_slopes : Nat) (nw_wets : Nat) (nw_limits : Nat) (nw_platforms : Nat) (nw_kinds : Nat) (nw_trains : Nat) (nw_coaches : Nat) (nw_platforms_c : Nat) (nw_kinds_c : Nat) (nw_trains_c : Nat) (nw_coaches_c : Nat) (p0 : Int32) : Met l yX10_start wsX10_start ({ frames := 1, cells := 0, slots := 0, locals := 21 }) (preS G [.ref x0, .int p0] [(x0, .inr (10, [.ref tp, .int 0, .ref rd, .ref nw, .ref sp, .ref im, .ref ir, .ref kp, .ref sl, .ref tk, .ref hn, .ref rc, .ref jn, .ref br, .ref sh])), (nw, .inr (3, [.int 0, .int 0, .ref nw_slopes, .ref nw_wets, .ref nw_limits, .ref nw_platforms, .ref nw_kinds, .ref nw_trains, .ref nw_coaches])), (nw_platforms, .inr (6, [.int 6, .int 2, .ref nw_platforms_c, .int 0])), (nw_kinds, .inr (6, [.int 4, .int 5, .ref nw_kinds_c, .int 0])), (nw_trains, .inr (6, [.int 5, .int 3, .ref nw_trains_c, .int 0])), (nw_coaches, .inr (6, [.int 16, .int 5, .ref nw_coaches_c, .int 0]))]) (vp_Si (fun (r : Int32) => (r = (-2)))) 0 0 (fun _ => False) := by
  refine Met.ofW (cc := cX10_start) (maxL := 6) (ret := (some .int)) (by decide) rfl ?_
  intro p e s m args below meth c s₁ B hml hv
  obtain ⟨rfl, hP, hKG⟩ := hv
  obtain ⟨hK, hAO⟩ := id hKG
  have hx := B.exec
  have hb := B.bytes
  have hr := B.returns
  have hts := atoms_spec (ws := wsX10_start) B.pre
  have hown : s.vm.findClass RX10 = some m.cls := findClass_of_methodNamed B.named
  have hlocks := B.notSynchronized
  have hl := lv_entry ([.ref x0, .int p0]) (n := 6) (Nat.le_of_ble_eq_true rfl)
  rw [lg_entry_eq]
  generalize (lg_sl ([.ref x0, .int p0]) ++ List.replicate (6 - (lg_sl ([.ref x0, .int p0])).length) Slot.unset).toArray = ls at hl ⊢
  have hl : lv_has ls 6 [(0, .ref x0), (1, .int p0)] := hl
  refine lv_aload_n hx hb dX10_start_0 rfl (lv_at hl 0 rfl) ?_
  refine va_get (D := G.1) (ci := 10) (v := .ref nw) (C := RX10) (T := TX10) (N := 15) hx hb hts (fun w h => List.mem_cons_of_mem _ (List.mem_append_left _ (List.mem_append_left _ (List.mem_append_left _ (List.mem_append_left _ (List.mem_append_left _ (List.mem_append_left _ (List.mem_append_right _ h)))))))) hown hK hP 0 rfl rfl 3 (by decide) (hts (.fieldLink RX10 27 "SlipCoach" "now" "LSlipCoach$Line;") (by decide +kernel)) (fun _ h9 => h9) rfl dX10_start_1 ?_
  refine va_get (D := G.1) (ci := 3) (v := .ref nw_trains) (C := RX3) (T := TX3) (N := 9) hx hb hts (fun w h => List.mem_cons_of_mem _ (List.mem_append_left _ (List.mem_append_left _ (List.mem_append_left _ (List.mem_append_left _ (List.mem_append_left _ (List.mem_append_right _ h))))))) hown hK hP 1 rfl rfl 7 (by decide) (hts (.fieldLink RX10 193 "SlipCoach$Line" "trains" "LSlipCoach$Sheet;") (by decide +kernel)) (fun _ h9 => h9) rfl dX10_start_4 ?_
  refine lv_iload_n hx hb dX10_start_7 rfl (lv_at hl 1 rfl) ?_
  refine vp_callSi (va_Run.run (va_runV (As := [.int p0]) (rest := []) ⟨hx, hb, hml, hown, hts⟩ (c_has0 l G nw_trains 5 3 nw_trains_c p0) (cwV 1 hts gX10_start_X6_has rfl rfl rfl ⟨rfl, hdX6_has⟩ ⟨(Nat.le_of_ble_eq_true rfl), (Nat.le_of_ble_eq_true rfl)⟩) (preS_V (wc := [(nw_trains, .inr (6, [.int 5, .int 3, .ref nw_trains_c, .int 0]))]) (ci := 6) hKG hP [4] rfl rfl rfl) rfl rfl hl.1 rfl (lv_room (Nat.le_of_ble_eq_true rfl)) dX10_start_8 ⟨(Nat.le_of_ble_eq_true rfl), (Nat.le_of_ble_eq_true rfl)⟩)) (fun r1 hr1 => ?_)
  subst hr1
  refine lv_if_ne (tgt := 17) hx hb dX10_start_11 (by decide) (fun c2 => absurd (by decide) c2) (fun c2 => ?_)
  refine lv_bipush (v := (-2)) hx hb dX10_start_14 (by decide) ?_
  exact W.iret (v := (-2)) hx hb hr (fun t ht hW => ⟨(-2), rfl, rfl, ht⟩) (fun _ h => absurd h List.not_mem_nil) dX10_start_16
set_option maxHeartbeats 4000000 in
set_option maxRecDepth 100000 in
theorem c_X10_days (l : Launch) (G : KG) (x0 : Nat) (tp : Nat) (rd : Nat) (nw : Nat) (sp : Nat) (im : Nat) (ir : Nat) (kp : Nat) (sl : Nat) (tk : Nat) (hn : Nat) (rc : Nat) (jn : Nat) (br : Nat) (sh : Nat) (nw_slopes : Nat) (nw_wets : Nat) (nw_limits : Nat) (nw_platforms : Nat) (nw_kinds : Nat) (nw_trains : Nat) (nw_coaches : Nat) (nw_platforms_c : Nat) (nw_kinds_c : Nat) (nw_trains_c : Nat) (nw_coaches_c : Nat) (p0 : Int32) (p1 : Int32) (p2 : Int32) (p3 : Int32) : Met l yX10_days wsX10_days ({ frames := 2, cells := 0, slots := 0, locals := 43 }) (preS G [.ref x0, .int p0, .int p1, .int p2, .int p3] [(x0, .inr (10, [.ref tp, .int 0, .ref rd, .ref nw, .ref sp, .ref im, .ref ir, .ref kp, .ref sl, .ref tk, .ref hn, .ref rc, .ref jn, .ref br, .ref sh])), (nw, .inr (3, [.int 0, .int 0, .ref nw_slopes, .ref nw_wets, .ref nw_limits, .ref nw_platforms, .ref nw_kinds, .ref nw_trains, .ref nw_coaches])), (nw_platforms, .inr (6, [.int 6, .int 2, .ref nw_platforms_c, .int 0])), (nw_kinds, .inr (6, [.int 4, .int 5, .ref nw_kinds_c, .int 0])), (nw_trains, .inr (6, [.int 5, .int 3, .ref nw_trains_c, .int 0])), (nw_coaches, .inr (6, [.int 16, .int 5, .ref nw_coaches_c, .int 0]))]) (vp_Si (fun (r : Int32) => (r = (-2)))) 0 0 (fun _ => False) := by
  refine Met.ofW (cc := cX10_days) (maxL := 7) (ret := (some .int)) (by decide) rfl ?_
  intro p e s m args below meth c s₁ B hml hv
  obtain ⟨rfl, hP, hKG⟩ := hv
  obtain ⟨hK, hAO⟩ := id hKG
  have hx := B.exec
  have hb := B.bytes
  have hr := B.returns
  have hts := atoms_spec (ws := wsX10_days) B.pre
  have hown : s.vm.findClass RX10 = some m.cls := findClass_of_methodNamed B.named
  have hlocks := B.notSynchronized
  have hl := lv_entry ([.ref x0, .int p0, .int p1, .int p2, .int p3]) (n := 7) (Nat.le_of_ble_eq_true rfl)
  rw [lg_entry_eq]
  generalize (lg_sl ([.ref x0, .int p0, .int p1, .int p2, .int p3]) ++ List.replicate (7 - (lg_sl ([.ref x0, .int p0, .int p1, .int p2, .int p3])).length) Slot.unset).toArray = ls at hl ⊢
  have hl : lv_has ls 7 [(0, .ref x0), (1, .int p0), (2, .int p1), (3, .int p2), (4, .int p3)] := hl
  refine lv_aload_n hx hb dX10_days_0 rfl (lv_at hl 0 rfl) ?_
  refine lv_iload_n hx hb dX10_days_1 rfl (lv_at hl 1 rfl) ?_
  refine lv_iload_n hx hb dX10_days_2 rfl (lv_at hl 3 rfl) ?_
  refine lv_iload hx hb dX10_days_3 (lv_at hl 4 rfl) ?_
  refine vp_callSi (va_Run.run (va_runV (As := [.int p0, .int p2, .int p3]) (rest := []) ⟨hx, hb, hml, hown, hts⟩ (c_X10_hasDay l G x0 tp rd nw sp im ir kp sl tk hn rc jn br sh nw_slopes nw_wets nw_limits nw_platforms nw_kinds nw_trains nw_coaches p0 p2 p3) (cwV 3 hts gX10_days_X10_hasDay rfl rfl rfl ⟨rfl, hdX10_hasDay⟩ ⟨(Nat.le_of_ble_eq_true rfl), (Nat.le_of_ble_eq_true rfl)⟩) (preS_V (wc := [(x0, .inr (10, [.ref tp, .int 0, .ref rd, .ref nw, .ref sp, .ref im, .ref ir, .ref kp, .ref sl, .ref tk, .ref hn, .ref rc, .ref jn, .ref br, .ref sh])), (nw, .inr (3, [.int 0, .int 0, .ref nw_slopes, .ref nw_wets, .ref nw_limits, .ref nw_platforms, .ref nw_kinds, .ref nw_trains, .ref nw_coaches]))]) (ci := 10) hKG hP [0, 1] rfl rfl rfl) rfl rfl hl.1 rfl (lv_room (Nat.le_of_ble_eq_true rfl)) dX10_days_5 ⟨(Nat.le_of_ble_eq_true rfl), (Nat.le_of_ble_eq_true rfl)⟩)) (fun r1 hr1 => ?_)
  subst hr1
  refine lv_if_eq (tgt := 21) hx hb dX10_days_8 (by decide) (fun c2 => ?_) (fun c2 => absurd (by decide) c2)
  refine lv_bipush (v := (-2)) hx hb dX10_days_21 (by decide) ?_
  exact W.iret (v := (-2)) hx hb hr (fun t ht hW => ⟨(-2), rfl, rfl, ht⟩) (fun _ h => absurd h List.not_mem_nil) dX10_days_23
set_option maxHeartbeats 4000000 in
set_option maxRecDepth 100000 in
theorem c_X10_day (l : Launch) (G : KG) (x0 : Nat) (tp : Nat) (rd : Nat) (nw : Nat) (sp : Nat) (im : Nat) (ir : Nat) (kp : Nat) (sl : Nat) (tk : Nat) (hn : Nat) (rc : Nat) (jn : Nat) (br : Nat) (sh : Nat) (nw_slopes : Nat) (nw_wets : Nat) (nw_limits : Nat) (nw_platforms : Nat) (nw_kinds : Nat) (nw_trains : Nat) (nw_coaches : Nat) (nw_platforms_c : Nat) (nw_kinds_c : Nat) (nw_trains_c : Nat) (nw_coaches_c : Nat) (p0 : Int32) (p1 : Int32) (p2 : Int32) : Met l yX10_day wsX10_day ({ frames := 2, cells := 0, slots := 0, locals := 43 }) (preS G [.ref x0, .int p0, .int p1, .int p2] [(x0, .inr (10, [.ref tp, .int 0, .ref rd, .ref nw, .ref sp, .ref im, .ref ir, .ref kp, .ref sl, .ref tk, .ref hn, .ref rc, .ref jn, .ref br, .ref sh])), (nw, .inr (3, [.int 0, .int 0, .ref nw_slopes, .ref nw_wets, .ref nw_limits, .ref nw_platforms, .ref nw_kinds, .ref nw_trains, .ref nw_coaches])), (nw_platforms, .inr (6, [.int 6, .int 2, .ref nw_platforms_c, .int 0])), (nw_kinds, .inr (6, [.int 4, .int 5, .ref nw_kinds_c, .int 0])), (nw_trains, .inr (6, [.int 5, .int 3, .ref nw_trains_c, .int 0])), (nw_coaches, .inr (6, [.int 16, .int 5, .ref nw_coaches_c, .int 0]))]) (vp_Si (fun (r : Int32) => (r = (-2)))) 0 0 (fun _ => False) := by
  refine Met.ofW (cc := cX10_day) (maxL := 4) (ret := (some .int)) (by decide) rfl ?_
  intro p e s m args below meth c s₁ B hml hv
  obtain ⟨rfl, hP, hKG⟩ := hv
  obtain ⟨hK, hAO⟩ := id hKG
  have hx := B.exec
  have hb := B.bytes
  have hr := B.returns
  have hts := atoms_spec (ws := wsX10_day) B.pre
  have hown : s.vm.findClass RX10 = some m.cls := findClass_of_methodNamed B.named
  have hlocks := B.notSynchronized
  have hl := lv_entry ([.ref x0, .int p0, .int p1, .int p2]) (n := 4) (Nat.le_of_ble_eq_true rfl)
  rw [lg_entry_eq]
  generalize (lg_sl ([.ref x0, .int p0, .int p1, .int p2]) ++ List.replicate (4 - (lg_sl ([.ref x0, .int p0, .int p1, .int p2])).length) Slot.unset).toArray = ls at hl ⊢
  have hl : lv_has ls 4 [(0, .ref x0), (1, .int p0), (2, .int p1), (3, .int p2)] := hl
  refine lv_aload_n hx hb dX10_day_0 rfl (lv_at hl 0 rfl) ?_
  refine lv_iload_n hx hb dX10_day_1 rfl (lv_at hl 1 rfl) ?_
  refine lv_iload_n hx hb dX10_day_2 rfl (lv_at hl 2 rfl) ?_
  refine lv_iload_n hx hb dX10_day_3 rfl (lv_at hl 3 rfl) ?_
  refine vp_callSi (va_Run.run (va_runV (As := [.int p0, .int p1, .int p2]) (rest := []) ⟨hx, hb, hml, hown, hts⟩ (c_X10_hasDay l G x0 tp rd nw sp im ir kp sl tk hn rc jn br sh nw_slopes nw_wets nw_limits nw_platforms nw_kinds nw_trains nw_coaches p0 p1 p2) (cwV 3 hts gX10_day_X10_hasDay rfl rfl rfl ⟨rfl, hdX10_hasDay⟩ ⟨(Nat.le_of_ble_eq_true rfl), (Nat.le_of_ble_eq_true rfl)⟩) (preS_V (wc := [(x0, .inr (10, [.ref tp, .int 0, .ref rd, .ref nw, .ref sp, .ref im, .ref ir, .ref kp, .ref sl, .ref tk, .ref hn, .ref rc, .ref jn, .ref br, .ref sh])), (nw, .inr (3, [.int 0, .int 0, .ref nw_slopes, .ref nw_wets, .ref nw_limits, .ref nw_platforms, .ref nw_kinds, .ref nw_trains, .ref nw_coaches]))]) (ci := 10) hKG hP [0, 1] rfl rfl rfl) rfl rfl hl.1 rfl (lv_room (Nat.le_of_ble_eq_true rfl)) dX10_day_4 ⟨(Nat.le_of_ble_eq_true rfl), (Nat.le_of_ble_eq_true rfl)⟩)) (fun r1 hr1 => ?_)
  subst hr1
  refine lv_if_ne (tgt := 13) hx hb dX10_day_7 (by decide) (fun c2 => absurd (by decide) c2) (fun c2 => ?_)
  refine lv_bipush (v := (-2)) hx hb dX10_day_10 (by decide) ?_
  exact W.iret (v := (-2)) hx hb hr (fun t ht hW => ⟨(-2), rfl, rfl, ht⟩) (fun _ h => absurd h List.not_mem_nil) dX10_day_12
