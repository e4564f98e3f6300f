set_option maxHeartbeats 40000000 in
set_option maxRecDepth 100000 in
theorem law_18 {p : Program} {l : Launch} {e : Env} {s : State} {m : MethodId} {below : List Frame} {meth : Method} {c : Code} {b : Nat} {xs : Nat → Int32} (C0 : lw_At p s m meth c b 6 xs) (G : KG) (x0 : Nat) (tp : Nat) (rd : Nat) (nw : Nat) (sp : Nat) (im : Nat) (ir : Nat) (kp : Nat) (sl : Nat) (tk : Nat) (hn : Nat) (rc : Nat) (jn : Nat) (br : Nat) (sh : Nat) (nw_slopes : Nat) (nw_wets : Nat) (nw_limits : Nat) (nw_platforms : Nat) (nw_kinds : Nat) (nw_trains : Nat) (nw_coaches : Nat) (nw_platforms_c : Nat) (nw_kinds_c : Nat) (nw_trains_c : Nat) (nw_coaches_c : Nat) (m0 : Nat) (m_width : Nat) (m_many : Nat) (m_cells : Nat) (m_moved : Nat) (m_tape : Nat) (m_lines : Nat) (m_length : Nat) (m_rain : Nat) (m_has : Nat) (m_slope : Nat) (m_wet : Nat) (m_limit : Nat) (m_platform : Nat) (m_kind : Nat) (m_train : Nat) (m_coach : Nat) (m_isKept : Nat) (m_sum : Nat) (m_comes : Nat) (m_isStood : Nat) (m_front : Nat) (m_has0 : Nat) (m_isOn : Nat) (m_letTick : Nat) (m_letYard : Nat) (m_letSpeed : Nat) (m_where : Nat) (m_pace : Nat) (m_stood : Nat) (m_isOff : Nat) (m_off : Nat) (m_wrong : Nat) (m_endTick : Nat) (hKG : kG G s) {H : Heap} {locs : List Loc} (hP : va_P G.1 vwCl [(x0, .inr (10, [.ref tp, .int 0, .ref rd, .ref nw, .ref sp, .ref im, .ref ir, .ref kp, .ref sl, .ref tk, .ref hn, .ref rc, .ref jn, .ref br, .ref sh])), (nw, .inr (3, [.int 0, .int 0, .ref nw_slopes, .ref nw_wets, .ref nw_limits, .ref nw_platforms, .ref nw_kinds, .ref nw_trains, .ref nw_coaches])), (nw_platforms, .inr (6, [.int 6, .int 2, .ref nw_platforms_c, .int 0])), (nw_kinds, .inr (6, [.int 4, .int 5, .ref nw_kinds_c, .int 0])), (nw_trains, .inr (6, [.int 5, .int 3, .ref nw_trains_c, .int 0])), (nw_coaches, .inr (6, [.int 16, .int 5, .ref nw_coaches_c, .int 0])), (m0, .inr (11, [.int 0, .ref m_width, .ref m_many, .ref m_cells, .ref m_moved, .ref m_tape, .int 0, .int 0, .int 0, .int 0, .int 0, .long 0, .int 0, .int 0, .int 0, .int (-1), .ref m_lines, .ref m_length, .ref m_rain, .ref m_has, .ref m_slope, .ref m_wet, .ref m_limit, .ref m_platform, .ref m_kind, .ref m_train, .ref m_coach, .ref m_isKept, .ref m_sum, .int 0, .int 15, .ref m_comes, .ref m_isStood, .int 0, .int 0, .int 0, .ref m_front, .ref m_has0, .ref m_isOn, .ref m_letTick, .ref m_letYard, .ref m_letSpeed, .ref m_where, .ref m_pace, .ref m_stood, .ref m_isOff, .ref m_off, .ref m_wrong, .int 0, .int 0, .int 0, .int 0, .ref m_endTick, .int 0, .int 0, .int 0, .int 0, .long 0])), (m_length, .inl (G.2 0, 5, .inl (fun _ => 0))), (m_has, .inl (G.2 0, 35, .inl (fun _ => 0)))] H) (hD : va_D (fun q : Nat => s.heap.size ≤ q) [(x0, .inr (10, [.ref tp, .int 0, .ref rd, .ref nw, .ref sp, .ref im, .ref ir, .ref kp, .ref sl, .ref tk, .ref hn, .ref rc, .ref jn, .ref br, .ref sh])), (nw, .inr (3, [.int 0, .int 0, .ref nw_slopes, .ref nw_wets, .ref nw_limits, .ref nw_platforms, .ref nw_kinds, .ref nw_trains, .ref nw_coaches])), (nw_platforms, .inr (6, [.int 6, .int 2, .ref nw_platforms_c, .int 0])), (nw_kinds, .inr (6, [.int 4, .int 5, .ref nw_kinds_c, .int 0])), (nw_trains, .inr (6, [.int 5, .int 3, .ref nw_trains_c, .int 0])), (nw_coaches, .inr (6, [.int 16, .int 5, .ref nw_coaches_c, .int 0])), (m0, .inr (11, [.int 0, .ref m_width, .ref m_many, .ref m_cells, .ref m_moved, .ref m_tape, .int 0, .int 0, .int 0, .int 0, .int 0, .long 0, .int 0, .int 0, .int 0, .int (-1), .ref m_lines, .ref m_length, .ref m_rain, .ref m_has, .ref m_slope, .ref m_wet, .ref m_limit, .ref m_platform, .ref m_kind, .ref m_train, .ref m_coach, .ref m_isKept, .ref m_sum, .int 0, .int 15, .ref m_comes, .ref m_isStood, .int 0, .int 0, .int 0, .ref m_front, .ref m_has0, .ref m_isOn, .ref m_letTick, .ref m_letYard, .ref m_letSpeed, .ref m_where, .ref m_pace, .ref m_stood, .ref m_isOff, .ref m_off, .ref m_wrong, .int 0, .int 0, .int 0, .int 0, .ref m_endTick, .int 0, .int 0, .int 0, .int 0, .long 0])), (m_length, .inl (G.2 0, 5, .inl (fun _ => 0))), (m_has, .inl (G.2 0, 35, .inl (fun _ => 0)))]) (hS : va_S (fun q : Nat => s.heap.size ≤ q) s.heap H locs) {ls : Array Slot} (hl : lv_has ls 4 [(3, .int 0), (2, .ref m0), (1, .ref x0), (0, .ref b)]) : W p l e room_1 s m #[Value.ref b] below meth c H locs 600000 7302250 (lw_Z below #[Value.ref b] s) (F0 m 994 ls []) := by
  obtain ⟨hx, hb, hr, hml, hown, hts, hX, hbl, hlocks, hgv⟩ := id C0
  have hw : ∀ w ∈ wG, w.before #[Value.ref b] s = true := fun w h => hts w (List.mem_filter.mp h).1
  have hA : ∀ q : Nat, s.heap.size ≤ q → (fun q : Nat => s.heap.size ≤ q) q := fun _ h => h
  have hbA : ¬ (fun q : Nat => s.heap.size ≤ q) b := Nat.not_le.mpr hbl
  obtain ⟨hK, hAO⟩ := id hKG
  refine lv_aload_n hx hb dL_law_994 rfl (lv_at hl 2 rfl) ?_
  refine lv_aload_n hx hb dL_law_995 rfl (lv_at hl 3 rfl) ?_
  refine lv_iload_n hx hb dL_law_996 rfl (lv_at hl 0 rfl) ?_
  refine lv_iconst (v := 1) hx hb dL_law_997 (by decide) ?_
  refine lv_iadd hx hb dL_law_998 ?_
  refine lv_cst (y := 1) (by decide) ?_
  refine va_sld hx hb hX hbl hbA hS (vp_in_iff.mpr (by decide)) dL_law_999 ?_
  refine lv_cst (y := xs 1) rfl ?_
  refine lv_aload_n hx hb dL_law_1000 rfl (lv_at hl 3 rfl) ?_
  refine lv_iload_n hx hb dL_law_1001 rfl (lv_at hl 0 rfl) ?_
  refine lv_iconst (v := 2) hx hb dL_law_1002 (by decide) ?_
  refine lv_iadd hx hb dL_law_1003 ?_
  refine lv_cst (y := 2) (by decide) ?_
  refine va_sld hx hb hX hbl hbA hS (vp_in_iff.mpr (by decide)) dL_law_1004 ?_
  refine lv_cst (y := xs 2) rfl ?_
  refine lv_aload_n hx hb dL_law_1005 rfl (lv_at hl 3 rfl) ?_
  refine lv_iload_n hx hb dL_law_1006 rfl (lv_at hl 0 rfl) ?_
  refine lv_iconst (v := 3) hx hb dL_law_1007 (by decide) ?_
  refine lv_iadd hx hb dL_law_1008 ?_
  refine lv_cst (y := 3) (by decide) ?_
  refine va_sld hx hb hX hbl hbA hS (vp_in_iff.mpr (by decide)) dL_law_1009 ?_
  refine lv_cst (y := xs 3) rfl ?_
  refine lv_aload_n hx hb dL_law_1010 rfl (lv_at hl 3 rfl) ?_
  refine lv_iload_n hx hb dL_law_1011 rfl (lv_at hl 0 rfl) ?_
  refine lv_iconst (v := 4) hx hb dL_law_1012 (by decide) ?_
  refine lv_iadd hx hb dL_law_1013 ?_
  refine lv_cst (y := 4) (by decide) ?_
  refine va_sld hx hb hX hbl hbA hS (vp_in_iff.mpr (by decide)) dL_law_1014 ?_
  refine lv_cst (y := xs 4) rfl ?_
  refine vp_callSi (va_Run.run (va_runV (As := [.int (xs 1), .int (xs 2), .int (xs 3), .int (xs 4)]) (rest := []) ⟨hx, hb, hml, hown, hw⟩ (c_X10_posts l G x0 tp rd nw sp im ir kp sl tk hn rc jn br sh nw_slopes nw_wets nw_limits nw_platforms nw_kinds nw_trains nw_coaches nw_platforms_c nw_kinds_c nw_trains_c nw_coaches_c (xs 1) (xs 2) (xs 3) (xs 4)) (cwV 4 hw (gdV kw_564 kw_565 kw_566 kw_8 kw_563) rfl rfl rfl ⟨rfl, hdX10_posts⟩ ⟨(Nat.le_of_ble_eq_true rfl), (Nat.le_of_ble_eq_true rfl)⟩) (preS_V (wc := [(x0, .inr (10, [.ref tp, .int 0, .ref rd, .ref nw, .ref sp, .ref im, .ref ir, .ref kp, .ref sl, .ref tk, .ref hn, .ref rc, .ref jn, .ref br, .ref sh])), (nw, .inr (3, [.int 0, .int 0, .ref nw_slopes, .ref nw_wets, .ref nw_limits, .ref nw_platforms, .ref nw_kinds, .ref nw_trains, .ref nw_coaches])), (nw_platforms, .inr (6, [.int 6, .int 2, .ref nw_platforms_c, .int 0])), (nw_kinds, .inr (6, [.int 4, .int 5, .ref nw_kinds_c, .int 0])), (nw_trains, .inr (6, [.int 5, .int 3, .ref nw_trains_c, .int 0])), (nw_coaches, .inr (6, [.int 16, .int 5, .ref nw_coaches_c, .int 0]))]) (ci := 10) hKG hP [0, 1, 2, 3, 4, 5] rfl rfl rfl) rfl rfl hl.1 rfl (lv_room (Nat.le_of_ble_eq_true rfl)) dL_law_1015 ⟨(Nat.le_of_ble_eq_true rfl), (Nat.le_of_ble_eq_true rfl)⟩)) (fun r1 hr1 => ?_)
  subst hr1
  refine lv_aload_n hx hb dL_law_1018 rfl (lv_at hl 1 rfl) ?_
  refine lv_aload_n hx hb dL_law_1019 rfl (lv_at hl 3 rfl) ?_
  refine lv_iload_n hx hb dL_law_1020 rfl (lv_at hl 0 rfl) ?_
  refine lv_iconst (v := 1) hx hb dL_law_1021 (by decide) ?_
  refine lv_iadd hx hb dL_law_1022 ?_
  refine lv_cst (y := 1) (by decide) ?_
  refine va_sld hx hb hX hbl hbA hS (vp_in_iff.mpr (by decide)) dL_law_1023 ?_
  refine lv_cst (y := xs 1) rfl ?_
  refine lv_aload_n hx hb dL_law_1024 rfl (lv_at hl 3 rfl) ?_
  refine lv_iload_n hx hb dL_law_1025 rfl (lv_at hl 0 rfl) ?_
  refine lv_iconst (v := 2) hx hb dL_law_1026 (by decide) ?_
  refine lv_iadd hx hb dL_law_1027 ?_
  refine lv_cst (y := 2) (by decide) ?_
  refine va_sld hx hb hX hbl hbA hS (vp_in_iff.mpr (by decide)) dL_law_1028 ?_
  refine lv_cst (y := xs 2) rfl ?_
  refine lv_aload_n hx hb dL_law_1029 rfl (lv_at hl 3 rfl) ?_
  refine lv_iload_n hx hb dL_law_1030 rfl (lv_at hl 0 rfl) ?_
  refine lv_iconst (v := 3) hx hb dL_law_1031 (by decide) ?_
  refine lv_iadd hx hb dL_law_1032 ?_
  refine lv_cst (y := 3) (by decide) ?_
  refine va_sld hx hb hX hbl hbA hS (vp_in_iff.mpr (by decide)) dL_law_1033 ?_
  refine lv_cst (y := xs 3) rfl ?_
  refine lv_aload_n hx hb dL_law_1034 rfl (lv_at hl 3 rfl) ?_
  refine lv_iload_n hx hb dL_law_1035 rfl (lv_at hl 0 rfl) ?_
  refine lv_iconst (v := 4) hx hb dL_law_1036 (by decide) ?_
  refine lv_iadd hx hb dL_law_1037 ?_
  refine lv_cst (y := 4) (by decide) ?_
  refine va_sld hx hb hX hbl hbA hS (vp_in_iff.mpr (by decide)) dL_law_1038 ?_
  refine lv_cst (y := xs 4) rfl ?_
  refine wq_calli (wr := [(x0, .inr (10, [.ref tp, .int 0, .ref rd, .ref nw, .ref sp, .ref im, .ref ir, .ref kp, .ref sl, .ref tk, .ref hn, .ref rc, .ref jn, .ref br, .ref sh])), (nw, .inr (3, [.int 0, .int 0, .ref nw_slopes, .ref nw_wets, .ref nw_limits, .ref nw_platforms, .ref nw_kinds, .ref nw_trains, .ref nw_coaches])), (nw_platforms, .inr (6, [.int 6, .int 2, .ref nw_platforms_c, .int 0])), (nw_kinds, .inr (6, [.int 4, .int 5, .ref nw_kinds_c, .int 0])), (nw_trains, .inr (6, [.int 5, .int 3, .ref nw_trains_c, .int 0])), (nw_coaches, .inr (6, [.int 16, .int 5, .ref nw_coaches_c, .int 0]))]) (va_runV (As := [.int (xs 1), .int (xs 2), .int (xs 3), .int (xs 4)]) (rest := [.int (-2)]) ⟨hx, hb, hml, hown, hw⟩ (c_X11_posts l G m0 m_width m_many m_cells m_moved m_tape m_lines m_length m_rain m_has m_slope m_wet m_limit m_platform m_kind m_train m_coach m_isKept m_sum m_comes m_isStood m_front m_has0 m_isOn m_letTick m_letYard m_letSpeed m_where m_pace m_stood m_isOff m_off m_wrong m_endTick (xs 1) (xs 2) (xs 3) (xs 4) H.size) (cwV 4 hw (gdV kw_568 kw_569 kw_570 kw_299 kw_567) rfl rfl rfl ⟨rfl, hdX11_posts⟩ ⟨(Nat.le_of_ble_eq_true rfl), (Nat.le_of_ble_eq_true rfl)⟩) (preQ_V (wc := [(m0, .inr (11, [.int 0, .ref m_width, .ref m_many, .ref m_cells, .ref m_moved, .ref m_tape, .int 0, .int 0, .int 0, .int 0, .int 0, .long 0, .int 0, .int 0, .int 0, .int (-1), .ref m_lines, .ref m_length, .ref m_rain, .ref m_has, .ref m_slope, .ref m_wet, .ref m_limit, .ref m_platform, .ref m_kind, .ref m_train, .ref m_coach, .ref m_isKept, .ref m_sum, .int 0, .int 15, .ref m_comes, .ref m_isStood, .int 0, .int 0, .int 0, .ref m_front, .ref m_has0, .ref m_isOn, .ref m_letTick, .ref m_letYard, .ref m_letSpeed, .ref m_where, .ref m_pace, .ref m_stood, .ref m_isOff, .ref m_off, .ref m_wrong, .int 0, .int 0, .int 0, .int 0, .ref m_endTick, .int 0, .int 0, .int 0, .int 0, .long 0])), (m_length, .inl (G.2 0, 5, .inl (fun _ => 0))), (m_has, .inl (G.2 0, 35, .inl (fun _ => 0)))]) (ci := 11) hKG hP hD [6, 7, 8] (by decide +kernel) rfl rfl rfl) rfl rfl hl.1 rfl (lv_room (Nat.le_of_ble_eq_true rfl)) dL_law_1039 ⟨(Nat.le_of_ble_eq_true rfl), (Nat.le_of_ble_eq_true rfl)⟩) hS hP hD hA [6, 7, 8] [0, 1, 2, 3, 4, 5] rfl rfl (by decide +kernel) (by decide +kernel) (fun r2 u3 H locs hr2 hP hD hS => ?_)
  have hP : va_P G.1 vwCl [(x0, .inr (10, [.ref tp, .int 0, .ref rd, .ref nw, .ref sp, .ref im, .ref ir, .ref kp, .ref sl, .ref tk, .ref hn, .ref rc, .ref jn, .ref br, .ref sh])), (nw, .inr (3, [.int 0, .int 0, .ref nw_slopes, .ref nw_wets, .ref nw_limits, .ref nw_platforms, .ref nw_kinds, .ref nw_trains, .ref nw_coaches])), (nw_platforms, .inr (6, [.int 6, .int 2, .ref nw_platforms_c, .int 0])), (nw_kinds, .inr (6, [.int 4, .int 5, .ref nw_kinds_c, .int 0])), (nw_trains, .inr (6, [.int 5, .int 3, .ref nw_trains_c, .int 0])), (nw_coaches, .inr (6, [.int 16, .int 5, .ref nw_coaches_c, .int 0]))] H := hP
  have hD : va_D (fun q : Nat => s.heap.size ≤ q) [(x0, .inr (10, [.ref tp, .int 0, .ref rd, .ref nw, .ref sp, .ref im, .ref ir, .ref kp, .ref sl, .ref tk, .ref hn, .ref rc, .ref jn, .ref br, .ref sh])), (nw, .inr (3, [.int 0, .int 0, .ref nw_slopes, .ref nw_wets, .ref nw_limits, .ref nw_platforms, .ref nw_kinds, .ref nw_trains, .ref nw_coaches])), (nw_platforms, .inr (6, [.int 6, .int 2, .ref nw_platforms_c, .int 0])), (nw_kinds, .inr (6, [.int 4, .int 5, .ref nw_kinds_c, .int 0])), (nw_trains, .inr (6, [.int 5, .int 3, .ref nw_trains_c, .int 0])), (nw_coaches, .inr (6, [.int 16, .int 5, .ref nw_coaches_c, .int 0]))] := hD
  refine W.widen (k := 600000) (n := 7302250) (Nat.le_of_ble_eq_true rfl) (Nat.le_of_ble_eq_true rfl) ?_
  subst hr2
  refine lv_icmp_eq (tgt := 2094) hx hb dL_law_1042 (by decide) (fun c4 => ?_) (fun c4 => absurd (by decide) c4)
  exact law_tail (x0 := x0) (m0 := m0) C0 hS (lv_sub hl [0, 1, 2, 3] rfl)
set_option maxHeartbeats 40000000 in
set_option maxRecDepth 100000 in
theorem law_19 {p : Program} {l : Launch} {e : Env} {s : State} {m : MethodId} {below : List Frame} {meth : Method} {c : Code} {b : Nat} {xs : Nat → Int32} (C0 : lw_At p s m meth c b 6 xs) (G : KG) (x0 : Nat) (tp : Nat) (rd : Nat) (nw : Nat) (sp : Nat) (im : Nat) (ir : Nat) (kp : Nat) (sl : Nat) (tk : Nat) (hn : Nat) (rc : Nat) (jn : Nat) (br : Nat) (sh : Nat) (nw_slopes : Nat) (nw_wets : Nat) (nw_limits : Nat) (nw_platforms : Nat) (nw_kinds : Nat) (nw_trains : Nat) (nw_coaches : Nat) (nw_platforms_c : Nat) (nw_kinds_c : Nat) (nw_trains_c : Nat) (nw_coaches_c : Nat) (m0 : Nat) (m_width : Nat) (m_many : Nat) (m_cells : Nat) (m_moved : Nat) (m_tape : Nat) (m_lines : Nat) (m_length : Nat) (m_rain : Nat) (m_has : Nat) (m_slope : Nat) (m_wet : Nat) (m_limit : Nat) (m_platform : Nat) (m_kind : Nat) (m_train : Nat) (m_coach : Nat) (m_isKept : Nat) (m_sum : Nat) (m_comes : Nat) (m_isStood : Nat) (m_front : Nat) (m_has0 : Nat) (m_isOn : Nat) (m_letTick : Nat) (m_letYard : Nat) (m_letSpeed : Nat) (m_where : Nat) (m_pace : Nat) (m_stood : Nat) (m_isOff : Nat) (m_off : Nat) (m_wrong : Nat) (m_endTick : Nat) (hKG : kG G s) {H : Heap} {locs : List Loc} (hP : va_P G.1 vwCl [(x0, .inr (10, [.ref tp, .int 0, .ref rd, .ref nw, .ref sp, .ref im, .ref ir, .ref kp, .ref sl, .ref tk, .ref hn, .ref rc, .ref jn, .ref br, .ref sh])), (nw, .inr (3, [.int 0, .int 0, .ref nw_slopes, .ref nw_wets, .ref nw_limits, .ref nw_platforms, .ref nw_kinds, .ref nw_trains, .ref nw_coaches])), (nw_platforms, .inr (6, [.int 6, .int 2, .ref nw_platforms_c, .int 0])), (nw_kinds, .inr (6, [.int 4, .int 5, .ref nw_kinds_c, .int 0])), (nw_trains, .inr (6, [.int 5, .int 3, .ref nw_trains_c, .int 0])), (nw_coaches, .inr (6, [.int 16, .int 5, .ref nw_coaches_c, .int 0])), (m0, .inr (11, [.int 0, .ref m_width, .ref m_many, .ref m_cells, .ref m_moved, .ref m_tape, .int 0, .int 0, .int 0, .int 0, .int 0, .long 0, .int 0, .int 0, .int 0, .int (-1), .ref m_lines, .ref m_length, .ref m_rain, .ref m_has, .ref m_slope, .ref m_wet, .ref m_limit, .ref m_platform, .ref m_kind, .ref m_train, .ref m_coach, .ref m_isKept, .ref m_sum, .int 0, .int 15, .ref m_comes, .ref m_isStood, .int 0, .int 0, .int 0, .ref m_front, .ref m_has0, .ref m_isOn, .ref m_letTick, .ref m_letYard, .ref m_letSpeed, .ref m_where, .ref m_pace, .ref m_stood, .ref m_isOff, .ref m_off, .ref m_wrong, .int 0, .int 0, .int 0, .int 0, .ref m_endTick, .int 0, .int 0, .int 0, .int 0, .long 0])), (m_length, .inl (G.2 0, 5, .inl (fun _ => 0))), (m_has, .inl (G.2 0, 35, .inl (fun _ => 0)))] H) (hD : va_D (fun q : Nat => s.heap.size ≤ q) [(x0, .inr (10, [.ref tp, .int 0, .ref rd, .ref nw, .ref sp, .ref im, .ref ir, .ref kp, .ref sl, .ref tk, .ref hn, .ref rc, .ref jn, .ref br, .ref sh])), (nw, .inr (3, [.int 0, .int 0, .ref nw_slopes, .ref nw_wets, .ref nw_limits, .ref nw_platforms, .ref nw_kinds, .ref nw_trains, .ref nw_coaches])), (nw_platforms, .inr (6, [.int 6, .int 2, .ref nw_platforms_c, .int 0])), (nw_kinds, .inr (6, [.int 4, .int 5, .ref nw_kinds_c, .int 0])), (nw_trains, .inr (6, [.int 5, .int 3, .ref nw_trains_c, .int 0])), (nw_coaches, .inr (6, [.int 16, .int 5, .ref nw_coaches_c, .int 0])), (m0, .inr (11, [.int 0, .ref m_width, .ref m_many, .ref m_cells, .ref m_moved, .ref m_tape, .int 0, .int 0, .int 0, .int 0, .int 0, .long 0, .int 0, .int 0, .int 0, .int (-1), .ref m_lines, .ref m_length, .ref m_rain, .ref m_has, .ref m_slope, .ref m_wet, .ref m_limit, .ref m_platform, .ref m_kind, .ref m_train, .ref m_coach, .ref m_isKept, .ref m_sum, .int 0, .int 15, .ref m_comes, .ref m_isStood, .int 0, .int 0, .int 0, .ref m_front, .ref m_has0, .ref m_isOn, .ref m_letTick, .ref m_letYard, .ref m_letSpeed, .ref m_where, .ref m_pace, .ref m_stood, .ref m_isOff, .ref m_off, .ref m_wrong, .int 0, .int 0, .int 0, .int 0, .ref m_endTick, .int 0, .int 0, .int 0, .int 0, .long 0])), (m_length, .inl (G.2 0, 5, .inl (fun _ => 0))), (m_has, .inl (G.2 0, 35, .inl (fun _ => 0)))]) (hS : va_S (fun q : Nat => s.heap.size ≤ q) s.heap H locs) {ls : Array Slot} (hl : lv_has ls 4 [(3, .int 0), (2, .ref m0), (1, .ref x0), (0, .ref b)]) : W p l e room_1 s m #[Value.ref b] below meth c H locs 600000 7302250 (lw_Z below #[Value.ref b] s) (F0 m 1047 ls []) := by
  obtain ⟨hx, hb, hr, hml, hown, hts, hX, hbl, hlocks, hgv⟩ := id C0
  have hw : ∀ w ∈ wG, w.before #[Value.ref b] s = true := fun w h => hts w (List.mem_filter.mp h).1
  have hA : ∀ q : Nat, s.heap.size ≤ q → (fun q : Nat => s.heap.size ≤ q) q := fun _ h => h
  have hbA : ¬ (fun q : Nat => s.heap.size ≤ q) b := Nat.not_le.mpr hbl
  obtain ⟨hK, hAO⟩ := id hKG
  refine lv_aload_n hx hb dL_law_1047 rfl (lv_at hl 2 rfl) ?_
  refine lv_aload_n hx hb dL_law_1048 rfl (lv_at hl 3 rfl) ?_
  refine lv_iload_n hx hb dL_law_1049 rfl (lv_at hl 0 rfl) ?_
  refine lv_iconst (v := 1) hx hb dL_law_1050 (by decide) ?_
  refine lv_iadd hx hb dL_law_1051 ?_
  refine lv_cst (y := 1) (by decide) ?_
  refine va_sld hx hb hX hbl hbA hS (vp_in_iff.mpr (by decide)) dL_law_1052 ?_
  refine lv_cst (y := xs 1) rfl ?_
  refine lv_aload_n hx hb dL_law_1053 rfl (lv_at hl 3 rfl) ?_
  refine lv_iload_n hx hb dL_law_1054 rfl (lv_at hl 0 rfl) ?_
  refine lv_iconst (v := 2) hx hb dL_law_1055 (by decide) ?_
  refine lv_iadd hx hb dL_law_1056 ?_
  refine lv_cst (y := 2) (by decide) ?_
  refine va_sld hx hb hX hbl hbA hS (vp_in_iff.mpr (by decide)) dL_law_1057 ?_
  refine lv_cst (y := xs 2) rfl ?_
  refine lv_aload_n hx hb dL_law_1058 rfl (lv_at hl 3 rfl) ?_
  refine lv_iload_n hx hb dL_law_1059 rfl (lv_at hl 0 rfl) ?_
  refine lv_iconst (v := 3) hx hb dL_law_1060 (by decide) ?_
  refine lv_iadd hx hb dL_law_1061 ?_
  refine lv_cst (y := 3) (by decide) ?_
  refine va_sld hx hb hX hbl hbA hS (vp_in_iff.mpr (by decide)) dL_law_1062 ?_
  refine lv_cst (y := xs 3) rfl ?_
  refine vp_callSi (va_Run.run (va_runV (As := [.int (xs 1), .int (xs 2), .int (xs 3)]) (rest := []) ⟨hx, hb, hml, hown, hw⟩ (c_X10_speeds l G x0 tp rd nw sp im ir kp sl tk hn rc jn br sh nw_slopes nw_wets nw_limits nw_platforms nw_kinds nw_trains nw_coaches nw_platforms_c nw_kinds_c nw_trains_c nw_coaches_c (xs 1) (xs 2) (xs 3)) (cwV 3 hw (gdV kw_572 kw_573 kw_574 kw_8 kw_571) rfl rfl rfl ⟨rfl, hdX10_speeds⟩ ⟨(Nat.le_of_ble_eq_true rfl), (Nat.le_of_ble_eq_true rfl)⟩) (preS_V (wc := [(x0, .inr (10, [.ref tp, .int 0, .ref rd, .ref nw, .ref sp, .ref im, .ref ir, .ref kp, .ref sl, .ref tk, .ref hn, .ref rc, .ref jn, .ref br, .ref sh])), (nw, .inr (3, [.int 0, .int 0, .ref nw_slopes, .ref nw_wets, .ref nw_limits, .ref nw_platforms, .ref nw_kinds, .ref nw_trains, .ref nw_coaches])), (nw_platforms, .inr (6, [.int 6, .int 2, .ref nw_platforms_c, .int 0])), (nw_kinds, .inr (6, [.int 4, .int 5, .ref nw_kinds_c, .int 0])), (nw_trains, .inr (6, [.int 5, .int 3, .ref nw_trains_c, .int 0])), (nw_coaches, .inr (6, [.int 16, .int 5, .ref nw_coaches_c, .int 0]))]) (ci := 10) hKG hP [0, 1, 2, 3, 4, 5] rfl rfl rfl) rfl rfl hl.1 rfl (lv_room (Nat.le_of_ble_eq_true rfl)) dL_law_1063 ⟨(Nat.le_of_ble_eq_true rfl), (Nat.le_of_ble_eq_true rfl)⟩)) (fun r1 hr1 => ?_)
  subst hr1
  refine lv_aload_n hx hb dL_law_1066 rfl (lv_at hl 1 rfl) ?_
  refine lv_aload_n hx hb dL_law_1067 rfl (lv_at hl 3 rfl) ?_
  refine lv_iload_n hx hb dL_law_1068 rfl (lv_at hl 0 rfl) ?_
  refine lv_iconst (v := 1) hx hb dL_law_1069 (by decide) ?_
  refine lv_iadd hx hb dL_law_1070 ?_
  refine lv_cst (y := 1) (by decide) ?_
  refine va_sld hx hb hX hbl hbA hS (vp_in_iff.mpr (by decide)) dL_law_1071 ?_
  refine lv_cst (y := xs 1) rfl ?_
  refine lv_aload_n hx hb dL_law_1072 rfl (lv_at hl 3 rfl) ?_
  refine lv_iload_n hx hb dL_law_1073 rfl (lv_at hl 0 rfl) ?_
  refine lv_iconst (v := 2) hx hb dL_law_1074 (by decide) ?_
  refine lv_iadd hx hb dL_law_1075 ?_
  refine lv_cst (y := 2) (by decide) ?_
  refine va_sld hx hb hX hbl hbA hS (vp_in_iff.mpr (by decide)) dL_law_1076 ?_
  refine lv_cst (y := xs 2) rfl ?_
  refine lv_aload_n hx hb dL_law_1077 rfl (lv_at hl 3 rfl) ?_
  refine lv_iload_n hx hb dL_law_1078 rfl (lv_at hl 0 rfl) ?_
  refine lv_iconst (v := 3) hx hb dL_law_1079 (by decide) ?_
  refine lv_iadd hx hb dL_law_1080 ?_
  refine lv_cst (y := 3) (by decide) ?_
  refine va_sld hx hb hX hbl hbA hS (vp_in_iff.mpr (by decide)) dL_law_1081 ?_
  refine lv_cst (y := xs 3) rfl ?_
  refine wq_calli (wr := [(x0, .inr (10, [.ref tp, .int 0, .ref rd, .ref nw, .ref sp, .ref im, .ref ir, .ref kp, .ref sl, .ref tk, .ref hn, .ref rc, .ref jn, .ref br, .ref sh])), (nw, .inr (3, [.int 0, .int 0, .ref nw_slopes, .ref nw_wets, .ref nw_limits, .ref nw_platforms, .ref nw_kinds, .ref nw_trains, .ref nw_coaches])), (nw_platforms, .inr (6, [.int 6, .int 2, .ref nw_platforms_c, .int 0])), (nw_kinds, .inr (6, [.int 4, .int 5, .ref nw_kinds_c, .int 0])), (nw_trains, .inr (6, [.int 5, .int 3, .ref nw_trains_c, .int 0])), (nw_coaches, .inr (6, [.int 16, .int 5, .ref nw_coaches_c, .int 0]))]) (va_runV (As := [.int (xs 1), .int (xs 2), .int (xs 3)]) (rest := [.int (-2)]) ⟨hx, hb, hml, hown, hw⟩ (c_X11_speeds l G m0 m_width m_many m_cells m_moved m_tape m_lines m_length m_rain m_has m_slope m_wet m_limit m_platform m_kind m_train m_coach m_isKept m_sum m_comes m_isStood m_front m_has0 m_isOn m_letTick m_letYard m_letSpeed m_where m_pace m_stood m_isOff m_off m_wrong m_endTick (xs 1) (xs 2) (xs 3) H.size) (cwV 3 hw (gdV kw_576 kw_577 kw_578 kw_299 kw_575) rfl rfl rfl ⟨rfl, hdX11_speeds⟩ ⟨(Nat.le_of_ble_eq_true rfl), (Nat.le_of_ble_eq_true rfl)⟩) (preQ_V (wc := [(m0, .inr (11, [.int 0, .ref m_width, .ref m_many, .ref m_cells, .ref m_moved, .ref m_tape, .int 0, .int 0, .int 0, .int 0, .int 0, .long 0, .int 0, .int 0, .int 0, .int (-1), .ref m_lines, .ref m_length, .ref m_rain, .ref m_has, .ref m_slope, .ref m_wet, .ref m_limit, .ref m_platform, .ref m_kind, .ref m_train, .ref m_coach, .ref m_isKept, .ref m_sum, .int 0, .int 15, .ref m_comes, .ref m_isStood, .int 0, .int 0, .int 0, .ref m_front, .ref m_has0, .ref m_isOn, .ref m_letTick, .ref m_letYard, .ref m_letSpeed, .ref m_where, .ref m_pace, .ref m_stood, .ref m_isOff, .ref m_off, .ref m_wrong, .int 0, .int 0, .int 0, .int 0, .ref m_endTick, .int 0, .int 0, .int 0, .int 0, .long 0])), (m_length, .inl (G.2 0, 5, .inl (fun _ => 0))), (m_has, .inl (G.2 0, 35, .inl (fun _ => 0)))]) (ci := 11) hKG hP hD [6, 7, 8] (by decide +kernel) rfl rfl rfl) rfl rfl hl.1 rfl (lv_room (Nat.le_of_ble_eq_true rfl)) dL_law_1082 ⟨(Nat.le_of_ble_eq_true rfl), (Nat.le_of_ble_eq_true rfl)⟩) hS hP hD hA [6, 7, 8] [0, 1, 2, 3, 4, 5] rfl rfl (by decide +kernel) (by decide +kernel) (fun r2 u3 H locs hr2 hP hD hS => ?_)
  have hP : va_P G.1 vwCl [(x0, .inr (10, [.ref tp, .int 0, .ref rd, .ref nw, .ref sp, .ref im, .ref ir, .ref kp, .ref sl, .ref tk, .ref hn, .ref rc, .ref jn, .ref br, .ref sh])), (nw, .inr (3, [.int 0, .int 0, .ref nw_slopes, .ref nw_wets, .ref nw_limits, .ref nw_platforms, .ref nw_kinds, .ref nw_trains, .ref nw_coaches])), (nw_platforms, .inr (6, [.int 6, .int 2, .ref nw_platforms_c, .int 0])), (nw_kinds, .inr (6, [.int 4, .int 5, .ref nw_kinds_c, .int 0])), (nw_trains, .inr (6, [.int 5, .int 3, .ref nw_trains_c, .int 0])), (nw_coaches, .inr (6, [.int 16, .int 5, .ref nw_coaches_c, .int 0]))] H := hP
  have hD : va_D (fun q : Nat => s.heap.size ≤ q) [(x0, .inr (10, [.ref tp, .int 0, .ref rd, .ref nw, .ref sp, .ref im, .ref ir, .ref kp, .ref sl, .ref tk, .ref hn, .ref rc, .ref jn, .ref br, .ref sh])), (nw, .inr (3, [.int 0, .int 0, .ref nw_slopes, .ref nw_wets, .ref nw_limits, .ref nw_platforms, .ref nw_kinds, .ref nw_trains, .ref nw_coaches])), (nw_platforms, .inr (6, [.int 6, .int 2, .ref nw_platforms_c, .int 0])), (nw_kinds, .inr (6, [.int 4, .int 5, .ref nw_kinds_c, .int 0])), (nw_trains, .inr (6, [.int 5, .int 3, .ref nw_trains_c, .int 0])), (nw_coaches, .inr (6, [.int 16, .int 5, .ref nw_coaches_c, .int 0]))] := hD
  refine W.widen (k := 600000) (n := 7302250) (Nat.le_of_ble_eq_true rfl) (Nat.le_of_ble_eq_true rfl) ?_
  subst hr2
  refine lv_icmp_eq (tgt := 2094) hx hb dL_law_1085 (by decide) (fun c4 => ?_) (fun c4 => absurd (by decide) c4)
  exact law_tail (x0 := x0) (m0 := m0) C0 hS (lv_sub hl [0, 1, 2, 3] rfl)
set_option maxHeartbeats 40000000 in
set_option maxRecDepth 100000 in
theorem law_20 {p : Program} {l : Launch} {e : Env} {s : State} {m : MethodId} {below : List Frame} {meth : Method} {c : Code} {b : Nat} {xs : Nat → Int32} (C0 : lw_At p s m meth c b 6 xs) (G : KG) (x0 : Nat) (tp : Nat) (rd : Nat) (nw : Nat) (sp : Nat) (im : Nat) (ir : Nat) (kp : Nat) (sl : Nat) (tk : Nat) (hn : Nat) (rc : Nat) (jn : Nat) (br : Nat) (sh : Nat) (nw_slopes : Nat) (nw_wets : Nat) (nw_limits : Nat) (nw_platforms : Nat) (nw_kinds : Nat) (nw_trains : Nat) (nw_coaches : Nat) (nw_platforms_c : Nat) (nw_kinds_c : Nat) (nw_trains_c : Nat) (nw_coaches_c : Nat) (m0 : Nat) (m_width : Nat) (m_many : Nat) (m_cells : Nat) (m_moved : Nat) (m_tape : Nat) (m_lines : Nat) (m_length : Nat) (m_rain : Nat) (m_has : Nat) (m_slope : Nat) (m_wet : Nat) (m_limit : Nat) (m_platform : Nat) (m_kind : Nat) (m_train : Nat) (m_coach : Nat) (m_isKept : Nat) (m_sum : Nat) (m_comes : Nat) (m_isStood : Nat) (m_front : Nat) (m_has0 : Nat) (m_isOn : Nat) (m_letTick : Nat) (m_letYard : Nat) (m_letSpeed : Nat) (m_where : Nat) (m_pace : Nat) (m_stood : Nat) (m_isOff : Nat) (m_off : Nat) (m_wrong : Nat) (m_endTick : Nat) (hKG : kG G s) {H : Heap} {locs : List Loc} (hP : va_P G.1 vwCl [(x0, .inr (10, [.ref tp, .int 0, .ref rd, .ref nw, .ref sp, .ref im, .ref ir, .ref kp, .ref sl, .ref tk, .ref hn, .ref rc, .ref jn, .ref br, .ref sh])), (nw, .inr (3, [.int 0, .int 0, .ref nw_slopes, .ref nw_wets, .ref nw_limits, .ref nw_platforms, .ref nw_kinds, .ref nw_trains, .ref nw_coaches])), (nw_platforms, .inr (6, [.int 6, .int 2, .ref nw_platforms_c, .int 0])), (nw_kinds, .inr (6, [.int 4, .int 5, .ref nw_kinds_c, .int 0])), (nw_trains, .inr (6, [.int 5, .int 3, .ref nw_trains_c, .int 0])), (nw_coaches, .inr (6, [.int 16, .int 5, .ref nw_coaches_c, .int 0])), (m0, .inr (11, [.int 0, .ref m_width, .ref m_many, .ref m_cells, .ref m_moved, .ref m_tape, .int 0, .int 0, .int 0, .int 0, .int 0, .long 0, .int 0, .int 0, .int 0, .int (-1), .ref m_lines, .ref m_length, .ref m_rain, .ref m_has, .ref m_slope, .ref m_wet, .ref m_limit, .ref m_platform, .ref m_kind, .ref m_train, .ref m_coach, .ref m_isKept, .ref m_sum, .int 0, .int 15, .ref m_comes, .ref m_isStood, .int 0, .int 0, .int 0, .ref m_front, .ref m_has0, .ref m_isOn, .ref m_letTick, .ref m_letYard, .ref m_letSpeed, .ref m_where, .ref m_pace, .ref m_stood, .ref m_isOff, .ref m_off, .ref m_wrong, .int 0, .int 0, .int 0, .int 0, .ref m_endTick, .int 0, .int 0, .int 0, .int 0, .long 0])), (m_length, .inl (G.2 0, 5, .inl (fun _ => 0))), (m_has, .inl (G.2 0, 35, .inl (fun _ => 0)))] H) (hD : va_D (fun q : Nat => s.heap.size ≤ q) [(x0, .inr (10, [.ref tp, .int 0, .ref rd, .ref nw, .ref sp, .ref im, .ref ir, .ref kp, .ref sl, .ref tk, .ref hn, .ref rc, .ref jn, .ref br, .ref sh])), (nw, .inr (3, [.int 0, .int 0, .ref nw_slopes, .ref nw_wets, .ref nw_limits, .ref nw_platforms, .ref nw_kinds, .ref nw_trains, .ref nw_coaches])), (nw_platforms, .inr (6, [.int 6, .int 2, .ref nw_platforms_c, .int 0])), (nw_kinds, .inr (6, [.int 4, .int 5, .ref nw_kinds_c, .int 0])), (nw_trains, .inr (6, [.int 5, .int 3, .ref nw_trains_c, .int 0])), (nw_coaches, .inr (6, [.int 16, .int 5, .ref nw_coaches_c, .int 0])), (m0, .inr (11, [.int 0, .ref m_width, .ref m_many, .ref m_cells, .ref m_moved, .ref m_tape, .int 0, .int 0, .int 0, .int 0, .int 0, .long 0, .int 0, .int 0, .int 0, .int (-1), .ref m_lines, .ref m_length, .ref m_rain, .ref m_has, .ref m_slope, .ref m_wet, .ref m_limit, .ref m_platform, .ref m_kind, .ref m_train, .ref m_coach, .ref m_isKept, .ref m_sum, .int 0, .int 15, .ref m_comes, .ref m_isStood, .int 0, .int 0, .int 0, .ref m_front, .ref m_has0, .ref m_isOn, .ref m_letTick, .ref m_letYard, .ref m_letSpeed, .ref m_where, .ref m_pace, .ref m_stood, .ref m_isOff, .ref m_off, .ref m_wrong, .int 0, .int 0, .int 0, .int 0, .ref m_endTick, .int 0, .int 0, .int 0, .int 0, .long 0])), (m_length, .inl (G.2 0, 5, .inl (fun _ => 0))), (m_has, .inl (G.2 0, 35, .inl (fun _ => 0)))]) (hS : va_S (fun q : Nat => s.heap.size ≤ q) s.heap H locs) {ls : Array Slot} (hl : lv_has ls 4 [(3, .int 0), (2, .ref m0), (1, .ref x0), (0, .ref b)]) : W p l e room_1 s m #[Value.ref b] below meth c H locs 600000 7302250 (lw_Z below #[Value.ref b] s) (F0 m 1090 ls []) := by
  obtain ⟨hx, hb, hr, hml, hown, hts, hX, hbl, hlocks, hgv⟩ := id C0
  have hw : ∀ w ∈ wG, w.before #[Value.ref b] s = true := fun w h => hts w (List.mem_filter.mp h).1
  have hA : ∀ q : Nat, s.heap.size ≤ q → (fun q : Nat => s.heap.size ≤ q) q := fun _ h => h
  have hbA : ¬ (fun q : Nat => s.heap.size ≤ q) b := Nat.not_le.mpr hbl
  obtain ⟨hK, hAO⟩ := id hKG
  refine lv_aload_n hx hb dL_law_1090 rfl (lv_at hl 2 rfl) ?_
  refine lv_aload_n hx hb dL_law_1091 rfl (lv_at hl 3 rfl) ?_
  refine lv_iload_n hx hb dL_law_1092 rfl (lv_at hl 0 rfl) ?_
  refine lv_iconst (v := 1) hx hb dL_law_1093 (by decide) ?_
  refine lv_iadd hx hb dL_law_1094 ?_
  refine lv_cst (y := 1) (by decide) ?_
  refine va_sld hx hb hX hbl hbA hS (vp_in_iff.mpr (by decide)) dL_law_1095 ?_
  refine lv_cst (y := xs 1) rfl ?_
  refine lv_aload_n hx hb dL_law_1096 rfl (lv_at hl 3 rfl) ?_
  refine lv_iload_n hx hb dL_law_1097 rfl (lv_at hl 0 rfl) ?_
  refine lv_iconst (v := 2) hx hb dL_law_1098 (by decide) ?_
  refine lv_iadd hx hb dL_law_1099 ?_
  refine lv_cst (y := 2) (by decide) ?_
  refine va_sld hx hb hX hbl hbA hS (vp_in_iff.mpr (by decide)) dL_law_1100 ?_
  refine lv_cst (y := xs 2) rfl ?_
  refine lv_aload_n hx hb dL_law_1101 rfl (lv_at hl 3 rfl) ?_
  refine lv_iload_n hx hb dL_law_1102 rfl (lv_at hl 0 rfl) ?_
  refine lv_iconst (v := 3) hx hb dL_law_1103 (by decide) ?_
  refine lv_iadd hx hb dL_law_1104 ?_
  refine lv_cst (y := 3) (by decide) ?_
  refine va_sld hx hb hX hbl hbA hS (vp_in_iff.mpr (by decide)) dL_law_1105 ?_
  refine lv_cst (y := xs 3) rfl ?_
  refine lv_aload_n hx hb dL_law_1106 rfl (lv_at hl 3 rfl) ?_
  refine lv_iload_n hx hb dL_law_1107 rfl (lv_at hl 0 rfl) ?_
  refine lv_iconst (v := 4) hx hb dL_law_1108 (by decide) ?_
  refine lv_iadd hx hb dL_law_1109 ?_
  refine lv_cst (y := 4) (by decide) ?_
  refine va_sld hx hb hX hbl hbA hS (vp_in_iff.mpr (by decide)) dL_law_1110 ?_
  refine lv_cst (y := xs 4) rfl ?_
  refine vp_callSi (va_Run.run (va_runV (As := [.int (xs 1), .int (xs 2), .int (xs 3), .int (xs 4)]) (rest := []) ⟨hx, hb, hml, hown, hw⟩ (c_X10_wetter l G x0 tp rd nw sp im ir kp sl tk hn rc jn br sh nw_slopes nw_wets nw_limits nw_platforms nw_kinds nw_trains nw_coaches nw_platforms_c nw_kinds_c nw_trains_c nw_coaches_c (xs 1) (xs 2) (xs 3) (xs 4)) (cwV 4 hw (gdV kw_580 kw_581 kw_582 kw_8 kw_579) rfl rfl rfl ⟨rfl, hdX10_wetter⟩ ⟨(Nat.le_of_ble_eq_true rfl), (Nat.le_of_ble_eq_true rfl)⟩) (preS_V (wc := [(x0, .inr (10, [.ref tp, .int 0, .ref rd, .ref nw, .ref sp, .ref im, .ref ir, .ref kp, .ref sl, .ref tk, .ref hn, .ref rc, .ref jn, .ref br, .ref sh])), (nw, .inr (3, [.int 0, .int 0, .ref nw_slopes, .ref nw_wets, .ref nw_limits, .ref nw_platforms, .ref nw_kinds, .ref nw_trains, .ref nw_coaches])), (nw_platforms, .inr (6, [.int 6, .int 2, .ref nw_platforms_c, .int 0])), (nw_kinds, .inr (6, [.int 4, .int 5, .ref nw_kinds_c, .int 0])), (nw_trains, .inr (6, [.int 5, .int 3, .ref nw_trains_c, .int 0])), (nw_coaches, .inr (6, [.int 16, .int 5, .ref nw_coaches_c, .int 0]))]) (ci := 10) hKG hP [0, 1, 2, 3, 4, 5] rfl rfl rfl) rfl rfl hl.1 rfl (lv_room (Nat.le_of_ble_eq_true rfl)) dL_law_1111 ⟨(Nat.le_of_ble_eq_true rfl), (Nat.le_of_ble_eq_true rfl)⟩)) (fun r1 hr1 => ?_)
  subst hr1
  refine lv_aload_n hx hb dL_law_1114 rfl (lv_at hl 1 rfl) ?_
  refine lv_aload_n hx hb dL_law_1115 rfl (lv_at hl 3 rfl) ?_
  refine lv_iload_n hx hb dL_law_1116 rfl (lv_at hl 0 rfl) ?_
  refine lv_iconst (v := 1) hx hb dL_law_1117 (by decide) ?_
  refine lv_iadd hx hb dL_law_1118 ?_
  refine lv_cst (y := 1) (by decide) ?_
  refine va_sld hx hb hX hbl hbA hS (vp_in_iff.mpr (by decide)) dL_law_1119 ?_
  refine lv_cst (y := xs 1) rfl ?_
  refine lv_aload_n hx hb dL_law_1120 rfl (lv_at hl 3 rfl) ?_
  refine lv_iload_n hx hb dL_law_1121 rfl (lv_at hl 0 rfl) ?_
  refine lv_iconst (v := 2) hx hb dL_law_1122 (by decide) ?_
  refine lv_iadd hx hb dL_law_1123 ?_
  refine lv_cst (y := 2) (by decide) ?_
  refine va_sld hx hb hX hbl hbA hS (vp_in_iff.mpr (by decide)) dL_law_1124 ?_
  refine lv_cst (y := xs 2) rfl ?_
  refine lv_aload_n hx hb dL_law_1125 rfl (lv_at hl 3 rfl) ?_
  refine lv_iload_n hx hb dL_law_1126 rfl (lv_at hl 0 rfl) ?_
  refine lv_iconst (v := 3) hx hb dL_law_1127 (by decide) ?_
  refine lv_iadd hx hb dL_law_1128 ?_
  refine lv_cst (y := 3) (by decide) ?_
  refine va_sld hx hb hX hbl hbA hS (vp_in_iff.mpr (by decide)) dL_law_1129 ?_
  refine lv_cst (y := xs 3) rfl ?_
  refine lv_aload_n hx hb dL_law_1130 rfl (lv_at hl 3 rfl) ?_
  refine lv_iload_n hx hb dL_law_1131 rfl (lv_at hl 0 rfl) ?_
  refine lv_iconst (v := 4) hx hb dL_law_1132 (by decide) ?_
  refine lv_iadd hx hb dL_law_1133 ?_
  refine lv_cst (y := 4) (by decide) ?_
  refine va_sld hx hb hX hbl hbA hS (vp_in_iff.mpr (by decide)) dL_law_1134 ?_
  refine lv_cst (y := xs 4) rfl ?_
  refine wq_calli (wr := [(x0, .inr (10, [.ref tp, .int 0, .ref rd, .ref nw, .ref sp, .ref im, .ref ir, .ref kp, .ref sl, .ref tk, .ref hn, .ref rc, .ref jn, .ref br, .ref sh])), (nw, .inr (3, [.int 0, .int 0, .ref nw_slopes, .ref nw_wets, .ref nw_limits, .ref nw_platforms, .ref nw_kinds, .ref nw_trains, .ref nw_coaches])), (nw_platforms, .inr (6, [.int 6, .int 2, .ref nw_platforms_c, .int 0])), (nw_kinds, .inr (6, [.int 4, .int 5, .ref nw_kinds_c, .int 0])), (nw_trains, .inr (6, [.int 5, .int 3, .ref nw_trains_c, .int 0])), (nw_coaches, .inr (6, [.int 16, .int 5, .ref nw_coaches_c, .int 0]))]) (va_runV (As := [.int (xs 1), .int (xs 2), .int (xs 3), .int (xs 4)]) (rest := [.int (-2)]) ⟨hx, hb, hml, hown, hw⟩ (c_X11_wetter l G m0 m_width m_many m_cells m_moved m_tape m_lines m_length m_rain m_has m_slope m_wet m_limit m_platform m_kind m_train m_coach m_isKept m_sum m_comes m_isStood m_front m_has0 m_isOn m_letTick m_letYard m_letSpeed m_where m_pace m_stood m_isOff m_off m_wrong m_endTick (xs 1) (xs 2) (xs 3) (xs 4) H.size) (cwV 4 hw (gdV kw_584 kw_585 kw_586 kw_299 kw_583) rfl rfl rfl ⟨rfl, hdX11_wetter⟩ ⟨(Nat.le_of_ble_eq_true rfl), (Nat.le_of_ble_eq_true rfl)⟩) (preQ_V (wc := [(m0, .inr (11, [.int 0, .ref m_width, .ref m_many, .ref m_cells, .ref m_moved, .ref m_tape, .int 0, .int 0, .int 0, .int 0, .int 0, .long 0, .int 0, .int 0, .int 0, .int (-1), .ref m_lines, .ref m_length, .ref m_rain, .ref m_has, .ref m_slope, .ref m_wet, .ref m_limit, .ref m_platform, .ref m_kind, .ref m_train, .ref m_coach, .ref m_isKept, .ref m_sum, .int 0, .int 15, .ref m_comes, .ref m_isStood, .int 0, .int 0, .int 0, .ref m_front, .ref m_has0, .ref m_isOn, .ref m_letTick, .ref m_letYard, .ref m_letSpeed, .ref m_where, .ref m_pace, .ref m_stood, .ref m_isOff, .ref m_off, .ref m_wrong, .int 0, .int 0, .int 0, .int 0, .ref m_endTick, .int 0, .int 0, .int 0, .int 0, .long 0])), (m_length, .inl (G.2 0, 5, .inl (fun _ => 0))), (m_has, .inl (G.2 0, 35, .inl (fun _ => 0)))]) (ci := 11) hKG hP hD [6, 7, 8] (by decide +kernel) rfl rfl rfl) rfl rfl hl.1 rfl (lv_room (Nat.le_of_ble_eq_true rfl)) dL_law_1135 ⟨(Nat.le_of_ble_eq_true rfl), (Nat.le_of_ble_eq_true rfl)⟩) hS hP hD hA [6, 7, 8] [0, 1, 2, 3, 4, 5] rfl rfl (by decide +kernel) (by decide +kernel) (fun r2 u3 H locs hr2 hP hD hS => ?_)
  have hP : va_P G.1 vwCl [(x0, .inr (10, [.ref tp, .int 0, .ref rd, .ref nw, .ref sp, .ref im, .ref ir, .ref kp, .ref sl, .ref tk, .ref hn, .ref rc, .ref jn, .ref br, .ref sh])), (nw, .inr (3, [.int 0, .int 0, .ref nw_slopes, .ref nw_wets, .ref nw_limits, .ref nw_platforms, .ref nw_kinds, .ref nw_trains, .ref nw_coaches])), (nw_platforms, .inr (6, [.int 6, .int 2, .ref nw_platforms_c, .int 0])), (nw_kinds, .inr (6, [.int 4, .int 5, .ref nw_kinds_c, .int 0])), (nw_trains, .inr (6, [.int 5, .int 3, .ref nw_trains_c, .int 0])), (nw_coaches, .inr (6, [.int 16, .int 5, .ref nw_coaches_c, .int 0]))] H := hP
  have hD : va_D (fun q : Nat => s.heap.size ≤ q) [(x0, .inr (10, [.ref tp, .int 0, .ref rd, .ref nw, .ref sp, .ref im, .ref ir, .ref kp, .ref sl, .ref tk, .ref hn, .ref rc, .ref jn, .ref br, .ref sh])), (nw, .inr (3, [.int 0, .int 0, .ref nw_slopes, .ref nw_wets, .ref nw_limits, .ref nw_platforms, .ref nw_kinds, .ref nw_trains, .ref nw_coaches])), (nw_platforms, .inr (6, [.int 6, .int 2, .ref nw_platforms_c, .int 0])), (nw_kinds, .inr (6, [.int 4, .int 5, .ref nw_kinds_c, .int 0])), (nw_trains, .inr (6, [.int 5, .int 3, .ref nw_trains_c, .int 0])), (nw_coaches, .inr (6, [.int 16, .int 5, .ref nw_coaches_c, .int 0]))] := hD
  refine W.widen (k := 600000) (n := 7302250) (Nat.le_of_ble_eq_true rfl) (Nat.le_of_ble_eq_true rfl) ?_
  subst hr2
  refine lv_icmp_eq (tgt := 2094) hx hb dL_law_1138 (by decide) (fun c4 => ?_) (fun c4 => absurd (by decide) c4)
  exact law_tail (x0 := x0) (m0 := m0) C0 hS (lv_sub hl [0, 1, 2, 3] rfl)
set_option maxHeartbeats 40000000 in
set_option maxRecDepth 100000 in
theorem law_21 {p : Program} {l : Launch} {e : Env} {s : State} {m : MethodId} {below : List Frame} {meth : Method} {c : Code} {b : Nat} {xs : Nat → Int32} (C0 : lw_At p s m meth c b 6 xs) (G : KG) (x0 : Nat) (tp : Nat) (rd : Nat) (nw : Nat) (sp : Nat) (im : Nat) (ir : Nat) (kp : Nat) (sl : Nat) (tk : Nat) (hn : Nat) (rc : Nat) (jn : Nat) (br : Nat) (sh : Nat) (nw_slopes : Nat) (nw_wets : Nat) (nw_limits : Nat) (nw_platforms : Nat) (nw_kinds : Nat) (nw_trains : Nat) (nw_coaches : Nat) (nw_platforms_c : Nat) (nw_kinds_c : Nat) (nw_trains_c : Nat) (nw_coaches_c : Nat) (m0 : Nat) (m_width : Nat) (m_many : Nat) (m_cells : Nat) (m_moved : Nat) (m_tape : Nat) (m_lines : Nat) (m_length : Nat) (m_rain : Nat) (m_has : Nat) (m_slope : Nat) (m_wet : Nat) (m_limit : Nat) (m_platform : Nat) (m_kind : Nat) (m_train : Nat) (m_coach : Nat) (m_isKept : Nat) (m_sum : Nat) (m_comes : Nat) (m_isStood : Nat) (m_front : Nat) (m_has0 : Nat) (m_isOn : Nat) (m_letTick : Nat) (m_letYard : Nat) (m_letSpeed : Nat) (m_where : Nat) (m_pace : Nat) (m_stood : Nat) (m_isOff : Nat) (m_off : Nat) (m_wrong : Nat) (m_endTick : Nat) (hKG : kG G s) {H : Heap} {locs : List Loc} (hP : va_P G.1 vwCl [(x0, .inr (10, [.ref tp, .int 0, .ref rd, .ref nw, .ref sp, .ref im, .ref ir, .ref kp, .ref sl, .ref tk, .ref hn, .ref rc, .ref jn, .ref br, .ref sh])), (nw, .inr (3, [.int 0, .int 0, .ref nw_slopes, .ref nw_wets, .ref nw_limits, .ref nw_platforms, .ref nw_kinds, .ref nw_trains, .ref nw_coaches])), (nw_platforms, .inr (6, [.int 6, .int 2, .ref nw_platforms_c, .int 0])), (nw_kinds, .inr (6, [.int 4, .int 5, .ref nw_kinds_c, .int 0])), (nw_trains, .inr (6, [.int 5, .int 3, .ref nw_trains_c, .int 0])), (nw_coaches, .inr (6, [.int 16, .int 5, .ref nw_coaches_c, .int 0])), (m0, .inr (11, [.int 0, .ref m_width, .ref m_many, .ref m_cells, .ref m_moved, .ref m_tape, .int 0, .int 0, .int 0, .int 0, .int 0, .long 0, .int 0, .int 0, .int 0, .int (-1), .ref m_lines, .ref m_length, .ref m_rain, .ref m_has, .ref m_slope, .ref m_wet, .ref m_limit, .ref m_platform, .ref m_kind, .ref m_train, .ref m_coach, .ref m_isKept, .ref m_sum, .int 0, .int 15, .ref m_comes, .ref m_isStood, .int 0, .int 0, .int 0, .ref m_front, .ref m_has0, .ref m_isOn, .ref m_letTick, .ref m_letYard, .ref m_letSpeed, .ref m_where, .ref m_pace, .ref m_stood, .ref m_isOff, .ref m_off, .ref m_wrong, .int 0, .int 0, .int 0, .int 0, .ref m_endTick, .int 0, .int 0, .int 0, .int 0, .long 0])), (m_length, .inl (G.2 0, 5, .inl (fun _ => 0))), (m_has, .inl (G.2 0, 35, .inl (fun _ => 0)))] H) (hD : va_D (fun q : Nat => s.heap.size ≤ q) [(x0, .inr (10, [.ref tp, .int 0, .ref rd, .ref nw, .ref sp, .ref im, .ref ir, .ref kp, .ref sl, .ref tk, .ref hn, .ref rc, .ref jn, .ref br, .ref sh])), (nw, .inr (3, [.int 0, .int 0, .ref nw_slopes, .ref nw_wets, .ref nw_limits, .ref nw_platforms, .ref nw_kinds, .ref nw_trains, .ref nw_coaches])), (nw_platforms, .inr (6, [.int 6, .int 2, .ref nw_platforms_c, .int 0])), (nw_kinds, .inr (6, [.int 4, .int 5, .ref nw_kinds_c, .int 0])), (nw_trains, .inr (6, [.int 5, .int 3, .ref nw_trains_c, .int 0])), (nw_coaches, .inr (6, [.int 16, .int 5, .ref nw_coaches_c, .int 0])), (m0, .inr (11, [.int 0, .ref m_width, .ref m_many, .ref m_cells, .ref m_moved, .ref m_tape, .int 0, .int 0, .int 0, .int 0, .int 0, .long 0, .int 0, .int 0, .int 0, .int (-1), .ref m_lines, .ref m_length, .ref m_rain, .ref m_has, .ref m_slope, .ref m_wet, .ref m_limit, .ref m_platform, .ref m_kind, .ref m_train, .ref m_coach, .ref m_isKept, .ref m_sum, .int 0, .int 15, .ref m_comes, .ref m_isStood, .int 0, .int 0, .int 0, .ref m_front, .ref m_has0, .ref m_isOn, .ref m_letTick, .ref m_letYard, .ref m_letSpeed, .ref m_where, .ref m_pace, .ref m_stood, .ref m_isOff, .ref m_off, .ref m_wrong, .int 0, .int 0, .int 0, .int 0, .ref m_endTick, .int 0, .int 0, .int 0, .int 0, .long 0])), (m_length, .inl (G.2 0, 5, .inl (fun _ => 0))), (m_has, .inl (G.2 0, 35, .inl (fun _ => 0)))]) (hS : va_S (fun q : Nat => s.heap.size ≤ q) s.heap H locs) {ls : Array Slot} (hl : lv_has ls 4 [(3, .int 0), (2, .ref m0), (1, .ref x0), (0, .ref b)]) : W p l e room_1 s m #[Value.ref b] below meth c H locs 600000 7302250 (lw_Z below #[Value.ref b] s) (F0 m 1143 ls []) := by
  obtain ⟨hx, hb, hr, hml, hown, hts, hX, hbl, hlocks, hgv⟩ := id C0
  have hw : ∀ w ∈ wG, w.before #[Value.ref b] s = true := fun w h => hts w (List.mem_filter.mp h).1
  have hA : ∀ q : Nat, s.heap.size ≤ q → (fun q : Nat => s.heap.size ≤ q) q := fun _ h => h
  have hbA : ¬ (fun q : Nat => s.heap.size ≤ q) b := Nat.not_le.mpr hbl
  obtain ⟨hK, hAO⟩ := id hKG
  refine lv_aload_n hx hb dL_law_1143 rfl (lv_at hl 2 rfl) ?_
  refine lv_aload_n hx hb dL_law_1144 rfl (lv_at hl 3 rfl) ?_
  refine lv_iload_n hx hb dL_law_1145 rfl (lv_at hl 0 rfl) ?_
  refine lv_iconst (v := 1) hx hb dL_law_1146 (by decide) ?_
  refine lv_iadd hx hb dL_law_1147 ?_
  refine lv_cst (y := 1) (by decide) ?_
  refine va_sld hx hb hX hbl hbA hS (vp_in_iff.mpr (by decide)) dL_law_1148 ?_
  refine lv_cst (y := xs 1) rfl ?_
  refine lv_aload_n hx hb dL_law_1149 rfl (lv_at hl 3 rfl) ?_
  refine lv_iload_n hx hb dL_law_1150 rfl (lv_at hl 0 rfl) ?_
  refine lv_iconst (v := 2) hx hb dL_law_1151 (by decide) ?_
  refine lv_iadd hx hb dL_law_1152 ?_
  refine lv_cst (y := 2) (by decide) ?_
  refine va_sld hx hb hX hbl hbA hS (vp_in_iff.mpr (by decide)) dL_law_1153 ?_
  refine lv_cst (y := xs 2) rfl ?_
  refine vp_callSi (va_Run.run (va_runV (As := [.int (xs 1), .int (xs 2)]) (rest := []) ⟨hx, hb, hml, hown, hw⟩ (c_X10_room l G x0 tp rd nw sp im ir kp sl tk hn rc jn br sh nw_slopes nw_wets nw_limits nw_platforms nw_kinds nw_trains nw_coaches nw_platforms_c nw_kinds_c nw_trains_c nw_coaches_c (xs 1) (xs 2)) (cwV 2 hw (gdV kw_588 kw_589 kw_590 kw_8 kw_587) rfl rfl rfl ⟨rfl, hdX10_room⟩ ⟨(Nat.le_of_ble_eq_true rfl), (Nat.le_of_ble_eq_true rfl)⟩) (preS_V (wc := [(x0, .inr (10, [.ref tp, .int 0, .ref rd, .ref nw, .ref sp, .ref im, .ref ir, .ref kp, .ref sl, .ref tk, .ref hn, .ref rc, .ref jn, .ref br, .ref sh])), (nw, .inr (3, [.int 0, .int 0, .ref nw_slopes, .ref nw_wets, .ref nw_limits, .ref nw_platforms, .ref nw_kinds, .ref nw_trains, .ref nw_coaches])), (nw_platforms, .inr (6, [.int 6, .int 2, .ref nw_platforms_c, .int 0])), (nw_kinds, .inr (6, [.int 4, .int 5, .ref nw_kinds_c, .int 0])), (nw_trains, .inr (6, [.int 5, .int 3, .ref nw_trains_c, .int 0])), (nw_coaches, .inr (6, [.int 16, .int 5, .ref nw_coaches_c, .int 0]))]) (ci := 10) hKG hP [0, 1, 2, 3, 4, 5] rfl rfl rfl) rfl rfl hl.1 rfl (lv_room (Nat.le_of_ble_eq_true rfl)) dL_law_1154 ⟨(Nat.le_of_ble_eq_true rfl), (Nat.le_of_ble_eq_true rfl)⟩)) (fun r1 hr1 => ?_)
  subst hr1
  refine lv_aload_n hx hb dL_law_1157 rfl (lv_at hl 1 rfl) ?_
  refine lv_aload_n hx hb dL_law_1158 rfl (lv_at hl 3 rfl) ?_
  refine lv_iload_n hx hb dL_law_1159 rfl (lv_at hl 0 rfl) ?_
  refine lv_iconst (v := 1) hx hb dL_law_1160 (by decide) ?_
  refine lv_iadd hx hb dL_law_1161 ?_
  refine lv_cst (y := 1) (by decide) ?_
  refine va_sld hx hb hX hbl hbA hS (vp_in_iff.mpr (by decide)) dL_law_1162 ?_
  refine lv_cst (y := xs 1) rfl ?_
  refine lv_aload_n hx hb dL_law_1163 rfl (lv_at hl 3 rfl) ?_
  refine lv_iload_n hx hb dL_law_1164 rfl (lv_at hl 0 rfl) ?_
  refine lv_iconst (v := 2) hx hb dL_law_1165 (by decide) ?_
  refine lv_iadd hx hb dL_law_1166 ?_
  refine lv_cst (y := 2) (by decide) ?_
  refine va_sld hx hb hX hbl hbA hS (vp_in_iff.mpr (by decide)) dL_law_1167 ?_
  refine lv_cst (y := xs 2) rfl ?_
  refine wq_calli (wr := [(x0, .inr (10, [.ref tp, .int 0, .ref rd, .ref nw, .ref sp, .ref im, .ref ir, .ref kp, .ref sl, .ref tk, .ref hn, .ref rc, .ref jn, .ref br, .ref sh])), (nw, .inr (3, [.int 0, .int 0, .ref nw_slopes, .ref nw_wets, .ref nw_limits, .ref nw_platforms, .ref nw_kinds, .ref nw_trains, .ref nw_coaches])), (nw_platforms, .inr (6, [.int 6, .int 2, .ref nw_platforms_c, .int 0])), (nw_kinds, .inr (6, [.int 4, .int 5, .ref nw_kinds_c, .int 0])), (nw_trains, .inr (6, [.int 5, .int 3, .ref nw_trains_c, .int 0])), (nw_coaches, .inr (6, [.int 16, .int 5, .ref nw_coaches_c, .int 0]))]) (va_runV (As := [.int (xs 1), .int (xs 2)]) (rest := [.int (-1000000)]) ⟨hx, hb, hml, hown, hw⟩ (c_X11_room l G m0 m_width m_many m_cells m_moved m_tape m_lines m_length m_rain m_has m_slope m_wet m_limit m_platform m_kind m_train m_coach m_isKept m_sum m_comes m_isStood m_front m_has0 m_isOn m_letTick m_letYard m_letSpeed m_where m_pace m_stood m_isOff m_off m_wrong m_endTick (xs 1) (xs 2) H.size) (cwV 2 hw (gdV kw_592 kw_593 kw_594 kw_299 kw_591) rfl rfl rfl ⟨rfl, hdX11_room⟩ ⟨(Nat.le_of_ble_eq_true rfl), (Nat.le_of_ble_eq_true rfl)⟩) (preQ_V (wc := [(m0, .inr (11, [.int 0, .ref m_width, .ref m_many, .ref m_cells, .ref m_moved, .ref m_tape, .int 0, .int 0, .int 0, .int 0, .int 0, .long 0, .int 0, .int 0, .int 0, .int (-1), .ref m_lines, .ref m_length, .ref m_rain, .ref m_has, .ref m_slope, .ref m_wet, .ref m_limit, .ref m_platform, .ref m_kind, .ref m_train, .ref m_coach, .ref m_isKept, .ref m_sum, .int 0, .int 15, .ref m_comes, .ref m_isStood, .int 0, .int 0, .int 0, .ref m_front, .ref m_has0, .ref m_isOn, .ref m_letTick, .ref m_letYard, .ref m_letSpeed, .ref m_where, .ref m_pace, .ref m_stood, .ref m_isOff, .ref m_off, .ref m_wrong, .int 0, .int 0, .int 0, .int 0, .ref m_endTick, .int 0, .int 0, .int 0, .int 0, .long 0])), (m_length, .inl (G.2 0, 5, .inl (fun _ => 0))), (m_has, .inl (G.2 0, 35, .inl (fun _ => 0)))]) (ci := 11) hKG hP hD [6, 7, 8] (by decide +kernel) rfl rfl rfl) rfl rfl hl.1 rfl (lv_room (Nat.le_of_ble_eq_true rfl)) dL_law_1168 ⟨(Nat.le_of_ble_eq_true rfl), (Nat.le_of_ble_eq_true rfl)⟩) hS hP hD hA [6, 7, 8] [0, 1, 2, 3, 4, 5] rfl rfl (by decide +kernel) (by decide +kernel) (fun r2 u3 H locs hr2 hP hD hS => ?_)
  have hP : va_P G.1 vwCl [(x0, .inr (10, [.ref tp, .int 0, .ref rd, .ref nw, .ref sp, .ref im, .ref ir, .ref kp, .ref sl, .ref tk, .ref hn, .ref rc, .ref jn, .ref br, .ref sh])), (nw, .inr (3, [.int 0, .int 0, .ref nw_slopes, .ref nw_wets, .ref nw_limits, .ref nw_platforms, .ref nw_kinds, .ref nw_trains, .ref nw_coaches])), (nw_platforms, .inr (6, [.int 6, .int 2, .ref nw_platforms_c, .int 0])), (nw_kinds, .inr (6, [.int 4, .int 5, .ref nw_kinds_c, .int 0])), (nw_trains, .inr (6, [.int 5, .int 3, .ref nw_trains_c, .int 0])), (nw_coaches, .inr (6, [.int 16, .int 5, .ref nw_coaches_c, .int 0]))] H := hP
  have hD : va_D (fun q : Nat => s.heap.size ≤ q) [(x0, .inr (10, [.ref tp, .int 0, .ref rd, .ref nw, .ref sp, .ref im, .ref ir, .ref kp, .ref sl, .ref tk, .ref hn, .ref rc, .ref jn, .ref br, .ref sh])), (nw, .inr (3, [.int 0, .int 0, .ref nw_slopes, .ref nw_wets, .ref nw_limits, .ref nw_platforms, .ref nw_kinds, .ref nw_trains, .ref nw_coaches])), (nw_platforms, .inr (6, [.int 6, .int 2, .ref nw_platforms_c, .int 0])), (nw_kinds, .inr (6, [.int 4, .int 5, .ref nw_kinds_c, .int 0])), (nw_trains, .inr (6, [.int 5, .int 3, .ref nw_trains_c, .int 0])), (nw_coaches, .inr (6, [.int 16, .int 5, .ref nw_coaches_c, .int 0]))] := hD
  refine W.widen (k := 600000) (n := 7302250) (Nat.le_of_ble_eq_true rfl) (Nat.le_of_ble_eq_true rfl) ?_
  subst hr2
  refine lv_icmp_eq (tgt := 2094) hx hb dL_law_1171 (by decide) (fun c4 => ?_) (fun c4 => absurd (by decide) c4)
  exact law_tail (x0 := x0) (m0 := m0) C0 hS (lv_sub hl [0, 1, 2, 3] rfl)
set_option maxHeartbeats 40000000 in
set_option maxRecDepth 100000 in
theorem law_22 {p : Program} {l : Launch} {e : Env} {s : State} {m : MethodId} {below : List Frame} {meth : Method} {c : Code} {b : Nat} {xs : Nat → Int32} (C0 : lw_At p s m meth c b 6 xs) (G : KG) (x0 : Nat) (tp : Nat) (rd : Nat) (nw : Nat) (sp : Nat) (im : Nat) (ir : Nat) (kp : Nat) (sl : Nat) (tk : Nat) (hn : Nat) (rc : Nat) (jn : Nat) (br : Nat) (sh : Nat) (nw_slopes : Nat) (nw_wets : Nat) (nw_limits : Nat) (nw_platforms : Nat) (nw_kinds : Nat) (nw_trains : Nat) (nw_coaches : Nat) (nw_platforms_c : Nat) (nw_kinds_c : Nat) (nw_trains_c : Nat) (nw_coaches_c : Nat) (m0 : Nat) (m_width : Nat) (m_many : Nat) (m_cells : Nat) (m_moved : Nat) (m_tape : Nat) (m_lines : Nat) (m_length : Nat) (m_rain : Nat) (m_has : Nat) (m_slope : Nat) (m_wet : Nat) (m_limit : Nat) (m_platform : Nat) (m_kind : Nat) (m_train : Nat) (m_coach : Nat) (m_isKept : Nat) (m_sum : Nat) (m_comes : Nat) (m_isStood : Nat) (m_front : Nat) (m_has0 : Nat) (m_isOn : Nat) (m_letTick : Nat) (m_letYard : Nat) (m_letSpeed : Nat) (m_where : Nat) (m_pace : Nat) (m_stood : Nat) (m_isOff : Nat) (m_off : Nat) (m_wrong : Nat) (m_endTick : Nat) (hKG : kG G s) {H : Heap} {locs : List Loc} (hP : va_P G.1 vwCl [(x0, .inr (10, [.ref tp, .int 0, .ref rd, .ref nw, .ref sp, .ref im, .ref ir, .ref kp, .ref sl, .ref tk, .ref hn, .ref rc, .ref jn, .ref br, .ref sh])), (nw, .inr (3, [.int 0, .int 0, .ref nw_slopes, .ref nw_wets, .ref nw_limits, .ref nw_platforms, .ref nw_kinds, .ref nw_trains, .ref nw_coaches])), (nw_platforms, .inr (6, [.int 6, .int 2, .ref nw_platforms_c, .int 0])), (nw_kinds, .inr (6, [.int 4, .int 5, .ref nw_kinds_c, .int 0])), (nw_trains, .inr (6, [.int 5, .int 3, .ref nw_trains_c, .int 0])), (nw_coaches, .inr (6, [.int 16, .int 5, .ref nw_coaches_c, .int 0])), (m0, .inr (11, [.int 0, .ref m_width, .ref m_many, .ref m_cells, .ref m_moved, .ref m_tape, .int 0, .int 0, .int 0, .int 0, .int 0, .long 0, .int 0, .int 0, .int 0, .int (-1), .ref m_lines, .ref m_length, .ref m_rain, .ref m_has, .ref m_slope, .ref m_wet, .ref m_limit, .ref m_platform, .ref m_kind, .ref m_train, .ref m_coach, .ref m_isKept, .ref m_sum, .int 0, .int 15, .ref m_comes, .ref m_isStood, .int 0, .int 0, .int 0, .ref m_front, .ref m_has0, .ref m_isOn, .ref m_letTick, .ref m_letYard, .ref m_letSpeed, .ref m_where, .ref m_pace, .ref m_stood, .ref m_isOff, .ref m_off, .ref m_wrong, .int 0, .int 0, .int 0, .int 0, .ref m_endTick, .int 0, .int 0, .int 0, .int 0, .long 0])), (m_length, .inl (G.2 0, 5, .inl (fun _ => 0))), (m_has, .inl (G.2 0, 35, .inl (fun _ => 0)))] H) (hD : va_D (fun q : Nat => s.heap.size ≤ q) [(x0, .inr (10, [.ref tp, .int 0, .ref rd, .ref nw, .ref sp, .ref im, .ref ir, .ref kp, .ref sl, .ref tk, .ref hn, .ref rc, .ref jn, .ref br, .ref sh])), (nw, .inr (3, [.int 0, .int 0, .ref nw_slopes, .ref nw_wets, .ref nw_limits, .ref nw_platforms, .ref nw_kinds, .ref nw_trains, .ref nw_coaches])), (nw_platforms, .inr (6, [.int 6, .int 2, .ref nw_platforms_c, .int 0])), (nw_kinds, .inr (6, [.int 4, .int 5, .ref nw_kinds_c, .int 0])), (nw_trains, .inr (6, [.int 5, .int 3, .ref nw_trains_c, .int 0])), (nw_coaches, .inr (6, [.int 16, .int 5, .ref nw_coaches_c, .int 0])), (m0, .inr (11, [.int 0, .ref m_width, .ref m_many, .ref m_cells, .ref m_moved, .ref m_tape, .int 0, .int 0, .int 0, .int 0, .int 0, .long 0, .int 0, .int 0, .int 0, .int (-1), .ref m_lines, .ref m_length, .ref m_rain, .ref m_has, .ref m_slope, .ref m_wet, .ref m_limit, .ref m_platform, .ref m_kind, .ref m_train, .ref m_coach, .ref m_isKept, .ref m_sum, .int 0, .int 15, .ref m_comes, .ref m_isStood, .int 0, .int 0, .int 0, .ref m_front, .ref m_has0, .ref m_isOn, .ref m_letTick, .ref m_letYard, .ref m_letSpeed, .ref m_where, .ref m_pace, .ref m_stood, .ref m_isOff, .ref m_off, .ref m_wrong, .int 0, .int 0, .int 0, .int 0, .ref m_endTick, .int 0, .int 0, .int 0, .int 0, .long 0])), (m_length, .inl (G.2 0, 5, .inl (fun _ => 0))), (m_has, .inl (G.2 0, 35, .inl (fun _ => 0)))]) (hS : va_S (fun q : Nat => s.heap.size ≤ q) s.heap H locs) {ls : Array Slot} (hl : lv_has ls 4 [(3, .int 0), (2, .ref m0), (1, .ref x0), (0, .ref b)]) : W p l e room_1 s m #[Value.ref b] below meth c H locs 600000 7302250 (lw_Z below #[Value.ref b] s) (F0 m 1176 ls []) := by
  obtain ⟨hx, hb, hr, hml, hown, hts, hX, hbl, hlocks, hgv⟩ := id C0
  have hw : ∀ w ∈ wG, w.before #[Value.ref b] s = true := fun w h => hts w (List.mem_filter.mp h).1
  have hA : ∀ q : Nat, s.heap.size ≤ q → (fun q : Nat => s.heap.size ≤ q) q := fun _ h => h
  have hbA : ¬ (fun q : Nat => s.heap.size ≤ q) b := Nat.not_le.mpr hbl
  obtain ⟨hK, hAO⟩ := id hKG
  refine lv_aload_n hx hb dL_law_1176 rfl (lv_at hl 2 rfl) ?_
  refine lv_aload_n hx hb dL_law_1177 rfl (lv_at hl 3 rfl) ?_
  refine lv_iload_n hx hb dL_law_1178 rfl (lv_at hl 0 rfl) ?_
  refine lv_iconst (v := 1) hx hb dL_law_1179 (by decide) ?_
  refine lv_iadd hx hb dL_law_1180 ?_
  refine lv_cst (y := 1) (by decide) ?_
  refine va_sld hx hb hX hbl hbA hS (vp_in_iff.mpr (by decide)) dL_law_1181 ?_
  refine lv_cst (y := xs 1) rfl ?_
  refine lv_aload_n hx hb dL_law_1182 rfl (lv_at hl 3 rfl) ?_
  refine lv_iload_n hx hb dL_law_1183 rfl (lv_at hl 0 rfl) ?_
  refine lv_iconst (v := 2) hx hb dL_law_1184 (by decide) ?_
  refine lv_iadd hx hb dL_law_1185 ?_
  refine lv_cst (y := 2) (by decide) ?_
  refine va_sld hx hb hX hbl hbA hS (vp_in_iff.mpr (by decide)) dL_law_1186 ?_
  refine lv_cst (y := xs 2) rfl ?_
  refine lv_aload_n hx hb dL_law_1187 rfl (lv_at hl 3 rfl) ?_
  refine lv_iload_n hx hb dL_law_1188 rfl (lv_at hl 0 rfl) ?_
  refine lv_iconst (v := 3) hx hb dL_law_1189 (by decide) ?_
  refine lv_iadd hx hb dL_law_1190 ?_
  refine lv_cst (y := 3) (by decide) ?_
  refine va_sld hx hb hX hbl hbA hS (vp_in_iff.mpr (by decide)) dL_law_1191 ?_
  refine lv_cst (y := xs 3) rfl ?_
  refine lv_aload_n hx hb dL_law_1192 rfl (lv_at hl 3 rfl) ?_
  refine lv_iload_n hx hb dL_law_1193 rfl (lv_at hl 0 rfl) ?_
  refine lv_iconst (v := 4) hx hb dL_law_1194 (by decide) ?_
  refine lv_iadd hx hb dL_law_1195 ?_
  refine lv_cst (y := 4) (by decide) ?_
  refine va_sld hx hb hX hbl hbA hS (vp_in_iff.mpr (by decide)) dL_law_1196 ?_
  refine lv_cst (y := xs 4) rfl ?_
  refine vp_callSi (va_Run.run (va_runV (As := [.int (xs 1), .int (xs 2), .int (xs 3), .int (xs 4)]) (rest := []) ⟨hx, hb, hml, hown, hw⟩ (c_X10_told l G x0 tp rd nw sp im ir kp sl tk hn rc jn br sh nw_slopes nw_wets nw_limits nw_platforms nw_kinds nw_trains nw_coaches nw_platforms_c nw_kinds_c nw_trains_c nw_coaches_c (xs 1) (xs 2) (xs 3) (xs 4)) (cwV 4 hw (gdV kw_596 kw_597 kw_598 kw_8 kw_595) rfl rfl rfl ⟨rfl, hdX10_told⟩ ⟨(Nat.le_of_ble_eq_true rfl), (Nat.le_of_ble_eq_true rfl)⟩) (preS_V (wc := [(x0, .inr (10, [.ref tp, .int 0, .ref rd, .ref nw, .ref sp, .ref im, .ref ir, .ref kp, .ref sl, .ref tk, .ref hn, .ref rc, .ref jn, .ref br, .ref sh])), (nw, .inr (3, [.int 0, .int 0, .ref nw_slopes, .ref nw_wets, .ref nw_limits, .ref nw_platforms, .ref nw_kinds, .ref nw_trains, .ref nw_coaches])), (nw_platforms, .inr (6, [.int 6, .int 2, .ref nw_platforms_c, .int 0])), (nw_kinds, .inr (6, [.int 4, .int 5, .ref nw_kinds_c, .int 0])), (nw_trains, .inr (6, [.int 5, .int 3, .ref nw_trains_c, .int 0])), (nw_coaches, .inr (6, [.int 16, .int 5, .ref nw_coaches_c, .int 0]))]) (ci := 10) hKG hP [0, 1, 2, 3, 4, 5] rfl rfl rfl) rfl rfl hl.1 rfl (lv_room (Nat.le_of_ble_eq_true rfl)) dL_law_1197 ⟨(Nat.le_of_ble_eq_true rfl), (Nat.le_of_ble_eq_true rfl)⟩)) (fun r1 hr1 => ?_)
  subst hr1
  refine lv_aload_n hx hb dL_law_1200 rfl (lv_at hl 1 rfl) ?_
  refine lv_aload_n hx hb dL_law_1201 rfl (lv_at hl 3 rfl) ?_
  refine lv_iload_n hx hb dL_law_1202 rfl (lv_at hl 0 rfl) ?_
  refine lv_iconst (v := 1) hx hb dL_law_1203 (by decide) ?_
  refine lv_iadd hx hb dL_law_1204 ?_
  refine lv_cst (y := 1) (by decide) ?_
  refine va_sld hx hb hX hbl hbA hS (vp_in_iff.mpr (by decide)) dL_law_1205 ?_
  refine lv_cst (y := xs 1) rfl ?_
  refine lv_aload_n hx hb dL_law_1206 rfl (lv_at hl 3 rfl) ?_
  refine lv_iload_n hx hb dL_law_1207 rfl (lv_at hl 0 rfl) ?_
  refine lv_iconst (v := 2) hx hb dL_law_1208 (by decide) ?_
  refine lv_iadd hx hb dL_law_1209 ?_
  refine lv_cst (y := 2) (by decide) ?_
  refine va_sld hx hb hX hbl hbA hS (vp_in_iff.mpr (by decide)) dL_law_1210 ?_
  refine lv_cst (y := xs 2) rfl ?_
  refine lv_aload_n hx hb dL_law_1211 rfl (lv_at hl 3 rfl) ?_
  refine lv_iload_n hx hb dL_law_1212 rfl (lv_at hl 0 rfl) ?_
  refine lv_iconst (v := 3) hx hb dL_law_1213 (by decide) ?_
  refine lv_iadd hx hb dL_law_1214 ?_
  refine lv_cst (y := 3) (by decide) ?_
  refine va_sld hx hb hX hbl hbA hS (vp_in_iff.mpr (by decide)) dL_law_1215 ?_
  refine lv_cst (y := xs 3) rfl ?_
  refine lv_aload_n hx hb dL_law_1216 rfl (lv_at hl 3 rfl) ?_
  refine lv_iload_n hx hb dL_law_1217 rfl (lv_at hl 0 rfl) ?_
  refine lv_iconst (v := 4) hx hb dL_law_1218 (by decide) ?_
  refine lv_iadd hx hb dL_law_1219 ?_
  refine lv_cst (y := 4) (by decide) ?_
  refine va_sld hx hb hX hbl hbA hS (vp_in_iff.mpr (by decide)) dL_law_1220 ?_
  refine lv_cst (y := xs 4) rfl ?_
  refine wq_calli (wr := [(x0, .inr (10, [.ref tp, .int 0, .ref rd, .ref nw, .ref sp, .ref im, .ref ir, .ref kp, .ref sl, .ref tk, .ref hn, .ref rc, .ref jn, .ref br, .ref sh])), (nw, .inr (3, [.int 0, .int 0, .ref nw_slopes, .ref nw_wets, .ref nw_limits, .ref nw_platforms, .ref nw_kinds, .ref nw_trains, .ref nw_coaches])), (nw_platforms, .inr (6, [.int 6, .int 2, .ref nw_platforms_c, .int 0])), (nw_kinds, .inr (6, [.int 4, .int 5, .ref nw_kinds_c, .int 0])), (nw_trains, .inr (6, [.int 5, .int 3, .ref nw_trains_c, .int 0])), (nw_coaches, .inr (6, [.int 16, .int 5, .ref nw_coaches_c, .int 0]))]) (va_runV (As := [.int (xs 1), .int (xs 2), .int (xs 3), .int (xs 4)]) (rest := [.int (-2)]) ⟨hx, hb, hml, hown, hw⟩ (c_X11_told l G m0 m_width m_many m_cells m_moved m_tape m_lines m_length m_rain m_has m_slope m_wet m_limit m_platform m_kind m_train m_coach m_isKept m_sum m_comes m_isStood m_front m_has0 m_isOn m_letTick m_letYard m_letSpeed m_where m_pace m_stood m_isOff m_off m_wrong m_endTick (xs 1) (xs 2) (xs 3) (xs 4) H.size) (cwV 4 hw (gdV kw_600 kw_601 kw_602 kw_299 kw_599) rfl rfl rfl ⟨rfl, hdX11_told⟩ ⟨(Nat.le_of_ble_eq_true rfl), (Nat.le_of_ble_eq_true rfl)⟩) (preQ_V (wc := [(m0, .inr (11, [.int 0, .ref m_width, .ref m_many, .ref m_cells, .ref m_moved, .ref m_tape, .int 0, .int 0, .int 0, .int 0, .int 0, .long 0, .int 0, .int 0, .int 0, .int (-1), .ref m_lines, .ref m_length, .ref m_rain, .ref m_has, .ref m_slope, .ref m_wet, .ref m_limit, .ref m_platform, .ref m_kind, .ref m_train, .ref m_coach, .ref m_isKept, .ref m_sum, .int 0, .int 15, .ref m_comes, .ref m_isStood, .int 0, .int 0, .int 0, .ref m_front, .ref m_has0, .ref m_isOn, .ref m_letTick, .ref m_letYard, .ref m_letSpeed, .ref m_where, .ref m_pace, .ref m_stood, .ref m_isOff, .ref m_off, .ref m_wrong, .int 0, .int 0, .int 0, .int 0, .ref m_endTick, .int 0, .int 0, .int 0, .int 0, .long 0])), (m_length, .inl (G.2 0, 5, .inl (fun _ => 0))), (m_has, .inl (G.2 0, 35, .inl (fun _ => 0)))]) (ci := 11) hKG hP hD [6, 7, 8] (by decide +kernel) rfl rfl rfl) rfl rfl hl.1 rfl (lv_room (Nat.le_of_ble_eq_true rfl)) dL_law_1221 ⟨(Nat.le_of_ble_eq_true rfl), (Nat.le_of_ble_eq_true rfl)⟩) hS hP hD hA [6, 7, 8] [0, 1, 2, 3, 4, 5] rfl rfl (by decide +kernel) (by decide +kernel) (fun r2 u3 H locs hr2 hP hD hS => ?_)
  have hP : va_P G.1 vwCl [(x0, .inr (10, [.ref tp, .int 0, .ref rd, .ref nw, .ref sp, .ref im, .ref ir, .ref kp, .ref sl, .ref tk, .ref hn, .ref rc, .ref jn, .ref br, .ref sh])), (nw, .inr (3, [.int 0, .int 0, .ref nw_slopes, .ref nw_wets, .ref nw_limits, .ref nw_platforms, .ref nw_kinds, .ref nw_trains, .ref nw_coaches])), (nw_platforms, .inr (6, [.int 6, .int 2, .ref nw_platforms_c, .int 0])), (nw_kinds, .inr (6, [.int 4, .int 5, .ref nw_kinds_c, .int 0])), (nw_trains, .inr (6, [.int 5, .int 3, .ref nw_trains_c, .int 0])), (nw_coaches, .inr (6, [.int 16, .int 5, .ref nw_coaches_c, .int 0]))] H := hP
  have hD : va_D (fun q : Nat => s.heap.size ≤ q) [(x0, .inr (10, [.ref tp, .int 0, .ref rd, .ref nw, .ref sp, .ref im, .ref ir, .ref kp, .ref sl, .ref tk, .ref hn, .ref rc, .ref jn, .ref br, .ref sh])), (nw, .inr (3, [.int 0, .int 0, .ref nw_slopes, .ref nw_wets, .ref nw_limits, .ref nw_platforms, .ref nw_kinds, .ref nw_trains, .ref nw_coaches])), (nw_platforms, .inr (6, [.int 6, .int 2, .ref nw_platforms_c, .int 0])), (nw_kinds, .inr (6, [.int 4, .int 5, .ref nw_kinds_c, .int 0])), (nw_trains, .inr (6, [.int 5, .int 3, .ref nw_trains_c, .int 0])), (nw_coaches, .inr (6, [.int 16, .int 5, .ref nw_coaches_c, .int 0]))] := hD
  refine W.widen (k := 600000) (n := 7302250) (Nat.le_of_ble_eq_true rfl) (Nat.le_of_ble_eq_true rfl) ?_
  subst hr2
  refine lv_icmp_eq (tgt := 2094) hx hb dL_law_1224 (by decide) (fun c4 => ?_) (fun c4 => absurd (by decide) c4)
  exact law_tail (x0 := x0) (m0 := m0) C0 hS (lv_sub hl [0, 1, 2, 3] rfl)
set_option maxHeartbeats 40000000 in
set_option maxRecDepth 100000 in
theorem law_23 {p : Program} {l : Launch} {e : Env} {s : State} {m : MethodId} {below : List Frame} {meth : Method} {c : Code} {b : Nat} {xs : Nat → Int32} (C0 : lw_At p s m meth c b 6 xs) (G : KG) (x0 : Nat) (tp : Nat) (rd : Nat) (nw : Nat) (sp : Nat) (im : Nat) (ir : Nat) (kp : Nat) (sl : Nat) (tk : Nat) (hn : Nat) (rc : Nat) (jn : Nat) (br : Nat) (sh : Nat) (nw_slopes : Nat) (nw_wets : Nat) (nw_limits : Nat) (nw_platforms : Nat) (nw_kinds : Nat) (nw_trains : Nat) (nw_coaches : Nat) (nw_platforms_c : Nat) (nw_kinds_c : Nat) (nw_trains_c : Nat) (nw_coaches_c : Nat) (m0 : Nat) (m_width : Nat) (m_many : Nat) (m_cells : Nat) (m_moved : Nat) (m_tape : Nat) (m_lines : Nat) (m_length : Nat) (m_rain : Nat) (m_has : Nat) (m_slope : Nat) (m_wet : Nat) (m_limit : Nat) (m_platform : Nat) (m_kind : Nat) (m_train : Nat) (m_coach : Nat) (m_isKept : Nat) (m_sum : Nat) (m_comes : Nat) (m_isStood : Nat) (m_front : Nat) (m_has0 : Nat) (m_isOn : Nat) (m_letTick : Nat) (m_letYard : Nat) (m_letSpeed : Nat) (m_where : Nat) (m_pace : Nat) (m_stood : Nat) (m_isOff : Nat) (m_off : Nat) (m_wrong : Nat) (m_endTick : Nat) (hKG : kG G s) {H : Heap} {locs : List Loc} (hP : va_P G.1 vwCl [(x0, .inr (10, [.ref tp, .int 0, .ref rd, .ref nw, .ref sp, .ref im, .ref ir, .ref kp, .ref sl, .ref tk, .ref hn, .ref rc, .ref jn, .ref br, .ref sh])), (nw, .inr (3, [.int 0, .int 0, .ref nw_slopes, .ref nw_wets, .ref nw_limits, .ref nw_platforms, .ref nw_kinds, .ref nw_trains, .ref nw_coaches])), (nw_platforms, .inr (6, [.int 6, .int 2, .ref nw_platforms_c, .int 0])), (nw_kinds, .inr (6, [.int 4, .int 5, .ref nw_kinds_c, .int 0])), (nw_trains, .inr (6, [.int 5, .int 3, .ref nw_trains_c, .int 0])), (nw_coaches, .inr (6, [.int 16, .int 5, .ref nw_coaches_c, .int 0])), (m0, .inr (11, [.int 0, .ref m_width, .ref m_many, .ref m_cells, .ref m_moved, .ref m_tape, .int 0, .int 0, .int 0, .int 0, .int 0, .long 0, .int 0, .int 0, .int 0, .int (-1), .ref m_lines, .ref m_length, .ref m_rain, .ref m_has, .ref m_slope, .ref m_wet, .ref m_limit, .ref m_platform, .ref m_kind, .ref m_train, .ref m_coach, .ref m_isKept, .ref m_sum, .int 0, .int 15, .ref m_comes, .ref m_isStood, .int 0, .int 0, .int 0, .ref m_front, .ref m_has0, .ref m_isOn, .ref m_letTick, .ref m_letYard, .ref m_letSpeed, .ref m_where, .ref m_pace, .ref m_stood, .ref m_isOff, .ref m_off, .ref m_wrong, .int 0, .int 0, .int 0, .int 0, .ref m_endTick, .int 0, .int 0, .int 0, .int 0, .long 0])), (m_length, .inl (G.2 0, 5, .inl (fun _ => 0))), (m_has, .inl (G.2 0, 35, .inl (fun _ => 0)))] H) (hD : va_D (fun q : Nat => s.heap.size ≤ q) [(x0, .inr (10, [.ref tp, .int 0, .ref rd, .ref nw, .ref sp, .ref im, .ref ir, .ref kp, .ref sl, .ref tk, .ref hn, .ref rc, .ref jn, .ref br, .ref sh])), (nw, .inr (3, [.int 0, .int 0, .ref nw_slopes, .ref nw_wets, .ref nw_limits, .ref nw_platforms, .ref nw_kinds, .ref nw_trains, .ref nw_coaches])), (nw_platforms, .inr (6, [.int 6, .int 2, .ref nw_platforms_c, .int 0])), (nw_kinds, .inr (6, [.int 4, .int 5, .ref nw_kinds_c, .int 0])), (nw_trains, .inr (6, [.int 5, .int 3, .ref nw_trains_c, .int 0])), (nw_coaches, .inr (6, [.int 16, .int 5, .ref nw_coaches_c, .int 0])), (m0, .inr (11, [.int 0, .ref m_width, .ref m_many, .ref m_cells, .ref m_moved, .ref m_tape, .int 0, .int 0, .int 0, .int 0, .int 0, .long 0, .int 0, .int 0, .int 0, .int (-1), .ref m_lines, .ref m_length, .ref m_rain, .ref m_has, .ref m_slope, .ref m_wet, .ref m_limit, .ref m_platform, .ref m_kind, .ref m_train, .ref m_coach, .ref m_isKept, .ref m_sum, .int 0, .int 15, .ref m_comes, .ref m_isStood, .int 0, .int 0, .int 0, .ref m_front, .ref m_has0, .ref m_isOn, .ref m_letTick, .ref m_letYard, .ref m_letSpeed, .ref m_where, .ref m_pace, .ref m_stood, .ref m_isOff, .ref m_off, .ref m_wrong, .int 0, .int 0, .int 0, .int 0, .ref m_endTick, .int 0, .int 0, .int 0, .int 0, .long 0])), (m_length, .inl (G.2 0, 5, .inl (fun _ => 0))), (m_has, .inl (G.2 0, 35, .inl (fun _ => 0)))]) (hS : va_S (fun q : Nat => s.heap.size ≤ q) s.heap H locs) {ls : Array Slot} (hl : lv_has ls 4 [(3, .int 0), (2, .ref m0), (1, .ref x0), (0, .ref b)]) : W p l e room_1 s m #[Value.ref b] below meth c H locs 600000 7302250 (lw_Z below #[Value.ref b] s) (F0 m 1229 ls []) := by
  obtain ⟨hx, hb, hr, hml, hown, hts, hX, hbl, hlocks, hgv⟩ := id C0
  have hw : ∀ w ∈ wG, w.before #[Value.ref b] s = true := fun w h => hts w (List.mem_filter.mp h).1
  have hA : ∀ q : Nat, s.heap.size ≤ q → (fun q : Nat => s.heap.size ≤ q) q := fun _ h => h
  have hbA : ¬ (fun q : Nat => s.heap.size ≤ q) b := Nat.not_le.mpr hbl
  obtain ⟨hK, hAO⟩ := id hKG
  refine lv_aload_n hx hb dL_law_1229 rfl (lv_at hl 2 rfl) ?_
  refine lv_aload_n hx hb dL_law_1230 rfl (lv_at hl 3 rfl) ?_
  refine lv_iload_n hx hb dL_law_1231 rfl (lv_at hl 0 rfl) ?_
  refine lv_iconst (v := 1) hx hb dL_law_1232 (by decide) ?_
  refine lv_iadd hx hb dL_law_1233 ?_
  refine lv_cst (y := 1) (by decide) ?_
  refine va_sld hx hb hX hbl hbA hS (vp_in_iff.mpr (by decide)) dL_law_1234 ?_
  refine lv_cst (y := xs 1) rfl ?_
  refine lv_aload_n hx hb dL_law_1235 rfl (lv_at hl 3 rfl) ?_
  refine lv_iload_n hx hb dL_law_1236 rfl (lv_at hl 0 rfl) ?_
  refine lv_iconst (v := 2) hx hb dL_law_1237 (by decide) ?_
  refine lv_iadd hx hb dL_law_1238 ?_
  refine lv_cst (y := 2) (by decide) ?_
  refine va_sld hx hb hX hbl hbA hS (vp_in_iff.mpr (by decide)) dL_law_1239 ?_
  refine lv_cst (y := xs 2) rfl ?_
  refine lv_aload_n hx hb dL_law_1240 rfl (lv_at hl 3 rfl) ?_
  refine lv_iload_n hx hb dL_law_1241 rfl (lv_at hl 0 rfl) ?_
  refine lv_iconst (v := 3) hx hb dL_law_1242 (by decide) ?_
  refine lv_iadd hx hb dL_law_1243 ?_
  refine lv_cst (y := 3) (by decide) ?_
  refine va_sld hx hb hX hbl hbA hS (vp_in_iff.mpr (by decide)) dL_law_1244 ?_
  refine lv_cst (y := xs 3) rfl ?_
  refine lv_aload_n hx hb dL_law_1245 rfl (lv_at hl 3 rfl) ?_
  refine lv_iload_n hx hb dL_law_1246 rfl (lv_at hl 0 rfl) ?_
  refine lv_iconst (v := 4) hx hb dL_law_1247 (by decide) ?_
  refine lv_iadd hx hb dL_law_1248 ?_
  refine lv_cst (y := 4) (by decide) ?_
  refine va_sld hx hb hX hbl hbA hS (vp_in_iff.mpr (by decide)) dL_law_1249 ?_
  refine lv_cst (y := xs 4) rfl ?_
  refine lv_aload_n hx hb dL_law_1250 rfl (lv_at hl 3 rfl) ?_
  refine lv_iload_n hx hb dL_law_1251 rfl (lv_at hl 0 rfl) ?_
  refine lv_iconst (v := 5) hx hb dL_law_1252 (by decide) ?_
  refine lv_iadd hx hb dL_law_1253 ?_
  refine lv_cst (y := 5) (by decide) ?_
  refine va_sld hx hb hX hbl hbA hS (vp_in_iff.mpr (by decide)) dL_law_1254 ?_
  refine lv_cst (y := xs 5) rfl ?_
  refine vp_callSi (va_Run.run (va_runV (As := [.int (xs 1), .int (xs 2), .int (xs 3), .int (xs 4), .int (xs 5)]) (rest := []) ⟨hx, hb, hml, hown, hw⟩ (c_X10_judge l G x0 tp rd nw sp im ir kp sl tk hn rc jn br sh nw_slopes nw_wets nw_limits nw_platforms nw_kinds nw_trains nw_coaches nw_platforms_c nw_kinds_c nw_trains_c nw_coaches_c (xs 1) (xs 2) (xs 3) (xs 4) (xs 5)) (cwV 5 hw (gdV kw_604 kw_605 kw_606 kw_8 kw_603) rfl rfl rfl ⟨rfl, hdX10_judge⟩ ⟨(Nat.le_of_ble_eq_true rfl), (Nat.le_of_ble_eq_true rfl)⟩) (preS_V (wc := [(x0, .inr (10, [.ref tp, .int 0, .ref rd, .ref nw, .ref sp, .ref im, .ref ir, .ref kp, .ref sl, .ref tk, .ref hn, .ref rc, .ref jn, .ref br, .ref sh])), (nw, .inr (3, [.int 0, .int 0, .ref nw_slopes, .ref nw_wets, .ref nw_limits, .ref nw_platforms, .ref nw_kinds, .ref nw_trains, .ref nw_coaches])), (nw_platforms, .inr (6, [.int 6, .int 2, .ref nw_platforms_c, .int 0])), (nw_kinds, .inr (6, [.int 4, .int 5, .ref nw_kinds_c, .int 0])), (nw_trains, .inr (6, [.int 5, .int 3, .ref nw_trains_c, .int 0])), (nw_coaches, .inr (6, [.int 16, .int 5, .ref nw_coaches_c, .int 0]))]) (ci := 10) hKG hP [0, 1, 2, 3, 4, 5] rfl rfl rfl) rfl rfl hl.1 rfl (lv_room (Nat.le_of_ble_eq_true rfl)) dL_law_1255 ⟨(Nat.le_of_ble_eq_true rfl), (Nat.le_of_ble_eq_true rfl)⟩)) (fun r1 hr1 => ?_)
  subst hr1
  refine lv_aload_n hx hb dL_law_1258 rfl (lv_at hl 1 rfl) ?_
  refine lv_aload_n hx hb dL_law_1259 rfl (lv_at hl 3 rfl) ?_
  refine lv_iload_n hx hb dL_law_1260 rfl (lv_at hl 0 rfl) ?_
  refine lv_iconst (v := 1) hx hb dL_law_1261 (by decide) ?_
  refine lv_iadd hx hb dL_law_1262 ?_
  refine lv_cst (y := 1) (by decide) ?_
  refine va_sld hx hb hX hbl hbA hS (vp_in_iff.mpr (by decide)) dL_law_1263 ?_
  refine lv_cst (y := xs 1) rfl ?_
  refine lv_aload_n hx hb dL_law_1264 rfl (lv_at hl 3 rfl) ?_
  refine lv_iload_n hx hb dL_law_1265 rfl (lv_at hl 0 rfl) ?_
  refine lv_iconst (v := 2) hx hb dL_law_1266 (by decide) ?_
  refine lv_iadd hx hb dL_law_1267 ?_
  refine lv_cst (y := 2) (by decide) ?_
  refine va_sld hx hb hX hbl hbA hS (vp_in_iff.mpr (by decide)) dL_law_1268 ?_
  refine lv_cst (y := xs 2) rfl ?_
  refine lv_aload_n hx hb dL_law_1269 rfl (lv_at hl 3 rfl) ?_
  refine lv_iload_n hx hb dL_law_1270 rfl (lv_at hl 0 rfl) ?_
  refine lv_iconst (v := 3) hx hb dL_law_1271 (by decide) ?_
  refine lv_iadd hx hb dL_law_1272 ?_
  refine lv_cst (y := 3) (by decide) ?_
  refine va_sld hx hb hX hbl hbA hS (vp_in_iff.mpr (by decide)) dL_law_1273 ?_
  refine lv_cst (y := xs 3) rfl ?_
  refine lv_aload_n hx hb dL_law_1274 rfl (lv_at hl 3 rfl) ?_
  refine lv_iload_n hx hb dL_law_1275 rfl (lv_at hl 0 rfl) ?_
  refine lv_iconst (v := 4) hx hb dL_law_1276 (by decide) ?_
  refine lv_iadd hx hb dL_law_1277 ?_
  refine lv_cst (y := 4) (by decide) ?_
  refine va_sld hx hb hX hbl hbA hS (vp_in_iff.mpr (by decide)) dL_law_1278 ?_
  refine lv_cst (y := xs 4) rfl ?_
  refine lv_aload_n hx hb dL_law_1279 rfl (lv_at hl 3 rfl) ?_
  refine lv_iload_n hx hb dL_law_1280 rfl (lv_at hl 0 rfl) ?_
  refine lv_iconst (v := 5) hx hb dL_law_1281 (by decide) ?_
  refine lv_iadd hx hb dL_law_1282 ?_
  refine lv_cst (y := 5) (by decide) ?_
  refine va_sld hx hb hX hbl hbA hS (vp_in_iff.mpr (by decide)) dL_law_1283 ?_
  refine lv_cst (y := xs 5) rfl ?_
  refine wq_calli (wr := [(x0, .inr (10, [.ref tp, .int 0, .ref rd, .ref nw, .ref sp, .ref im, .ref ir, .ref kp, .ref sl, .ref tk, .ref hn, .ref rc, .ref jn, .ref br, .ref sh])), (nw, .inr (3, [.int 0, .int 0, .ref nw_slopes, .ref nw_wets, .ref nw_limits, .ref nw_platforms, .ref nw_kinds, .ref nw_trains, .ref nw_coaches])), (nw_platforms, .inr (6, [.int 6, .int 2, .ref nw_platforms_c, .int 0])), (nw_kinds, .inr (6, [.int 4, .int 5, .ref nw_kinds_c, .int 0])), (nw_trains, .inr (6, [.int 5, .int 3, .ref nw_trains_c, .int 0])), (nw_coaches, .inr (6, [.int 16, .int 5, .ref nw_coaches_c, .int 0]))]) (va_runV (As := [.int (xs 1), .int (xs 2), .int (xs 3), .int (xs 4), .int (xs 5)]) (rest := [.int (-2)]) ⟨hx, hb, hml, hown, hw⟩ (c_X11_judge l G m0 m_width m_many m_cells m_moved m_tape m_lines m_length m_rain m_has m_slope m_wet m_limit m_platform m_kind m_train m_coach m_isKept m_sum m_comes m_isStood m_front m_has0 m_isOn m_letTick m_letYard m_letSpeed m_where m_pace m_stood m_isOff m_off m_wrong m_endTick (xs 1) (xs 2) (xs 3) (xs 4) (xs 5) H.size) (cwV 5 hw (gdV kw_608 kw_609 kw_610 kw_299 kw_607) rfl rfl rfl ⟨rfl, hdX11_judge⟩ ⟨(Nat.le_of_ble_eq_true rfl), (Nat.le_of_ble_eq_true rfl)⟩) (preQ_V (wc := [(m0, .inr (11, [.int 0, .ref m_width, .ref m_many, .ref m_cells, .ref m_moved, .ref m_tape, .int 0, .int 0, .int 0, .int 0, .int 0, .long 0, .int 0, .int 0, .int 0, .int (-1), .ref m_lines, .ref m_length, .ref m_rain, .ref m_has, .ref m_slope, .ref m_wet, .ref m_limit, .ref m_platform, .ref m_kind, .ref m_train, .ref m_coach, .ref m_isKept, .ref m_sum, .int 0, .int 15, .ref m_comes, .ref m_isStood, .int 0, .int 0, .int 0, .ref m_front, .ref m_has0, .ref m_isOn, .ref m_letTick, .ref m_letYard, .ref m_letSpeed, .ref m_where, .ref m_pace, .ref m_stood, .ref m_isOff, .ref m_off, .ref m_wrong, .int 0, .int 0, .int 0, .int 0, .ref m_endTick, .int 0, .int 0, .int 0, .int 0, .long 0])), (m_length, .inl (G.2 0, 5, .inl (fun _ => 0))), (m_has, .inl (G.2 0, 35, .inl (fun _ => 0)))]) (ci := 11) hKG hP hD [6, 7, 8] (by decide +kernel) rfl rfl rfl) rfl rfl hl.1 rfl (lv_room (Nat.le_of_ble_eq_true rfl)) dL_law_1284 ⟨(Nat.le_of_ble_eq_true rfl), (Nat.le_of_ble_eq_true rfl)⟩) hS hP hD hA [6, 7, 8] [0, 1, 2, 3, 4, 5] rfl rfl (by decide +kernel) (by decide +kernel) (fun r2 u3 H locs hr2 hP hD hS => ?_)
  have hP : va_P G.1 vwCl [(x0, .inr (10, [.ref tp, .int 0, .ref rd, .ref nw, .ref sp, .ref im, .ref ir, .ref kp, .ref sl, .ref tk, .ref hn, .ref rc, .ref jn, .ref br, .ref sh])), (nw, .inr (3, [.int 0, .int 0, .ref nw_slopes, .ref nw_wets, .ref nw_limits, .ref nw_platforms, .ref nw_kinds, .ref nw_trains, .ref nw_coaches])), (nw_platforms, .inr (6, [.int 6, .int 2, .ref nw_platforms_c, .int 0])), (nw_kinds, .inr (6, [.int 4, .int 5, .ref nw_kinds_c, .int 0])), (nw_trains, .inr (6, [.int 5, .int 3, .ref nw_trains_c, .int 0])), (nw_coaches, .inr (6, [.int 16, .int 5, .ref nw_coaches_c, .int 0]))] H := hP
  have hD : va_D (fun q : Nat => s.heap.size ≤ q) [(x0, .inr (10, [.ref tp, .int 0, .ref rd, .ref nw, .ref sp, .ref im, .ref ir, .ref kp, .ref sl, .ref tk, .ref hn, .ref rc, .ref jn, .ref br, .ref sh])), (nw, .inr (3, [.int 0, .int 0, .ref nw_slopes, .ref nw_wets, .ref nw_limits, .ref nw_platforms, .ref nw_kinds, .ref nw_trains, .ref nw_coaches])), (nw_platforms, .inr (6, [.int 6, .int 2, .ref nw_platforms_c, .int 0])), (nw_kinds, .inr (6, [.int 4, .int 5, .ref nw_kinds_c, .int 0])), (nw_trains, .inr (6, [.int 5, .int 3, .ref nw_trains_c, .int 0])), (nw_coaches, .inr (6, [.int 16, .int 5, .ref nw_coaches_c, .int 0]))] := hD
  refine W.widen (k := 600000) (n := 7302250) (Nat.le_of_ble_eq_true rfl) (Nat.le_of_ble_eq_true rfl) ?_
  subst hr2
  refine lv_icmp_eq (tgt := 2094) hx hb dL_law_1287 (by decide) (fun c4 => ?_) (fun c4 => absurd (by decide) c4)
  exact law_tail (x0 := x0) (m0 := m0) C0 hS (lv_sub hl [0, 1, 2, 3] rfl)
