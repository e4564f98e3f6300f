set_option maxHeartbeats 40000000 in
set_option maxRecDepth 100000 in
theorem law_13 {p : Program} {l : Launch} {e : Env} {s : State} {m : MethodId} {below : List Frame} {meth : Method} {c : Code} {b : Nat} {xs : Nat → Int32} (C0 : lw_At p s m meth c b 6 xs) (G : KG) (x0 : Nat) (tp : Nat) (rd : Nat) (nw : Nat) (sp : Nat) (im : Nat) (ir : Nat) (kp : Nat) (sl : Nat) (tk : Nat) (hn : Nat) (rc : Nat) (jn : Nat) (br : Nat) (sh : Nat) (nw_slopes : Nat) (nw_wets : Nat) (nw_limits : Nat) (nw_platforms : Nat) (nw_kinds : Nat) (nw_trains : Nat) (nw_coaches : Nat) (nw_platforms_c : Nat) (nw_kinds_c : Nat) (nw_trains_c : Nat) (nw_coaches_c : Nat) (m0 : Nat) (m_width : Nat) (m_many : Nat) (m_cells : Nat) (m_moved : Nat) (m_tape : Nat) (m_lines : Nat) (m_length : Nat) (m_rain : Nat) (m_has : Nat) (m_slope : Nat) (m_wet : Nat) (m_limit : Nat) (m_platform : Nat) (m_kind : Nat) (m_train : Nat) (m_coach : Nat) (m_isKept : Nat) (m_sum : Nat) (m_comes : Nat) (m_isStood : Nat) (m_front : Nat) (m_has0 : Nat) (m_isOn : Nat) (m_letTick : Nat) (m_letYard : Nat) (m_letSpeed : Nat) (m_where : Nat) (m_pace : Nat) (m_stood : Nat) (m_isOff : Nat) (m_off : Nat) (m_wrong : Nat) (m_endTick : Nat) (hKG : kG G s) {H : Heap} {locs : List Loc} (hP : va_P G.1 vwCl [(x0, .inr (10, [.ref tp, .int 0, .ref rd, .ref nw, .ref sp, .ref im, .ref ir, .ref kp, .ref sl, .ref tk, .ref hn, .ref rc, .ref jn, .ref br, .ref sh])), (nw, .inr (3, [.int 0, .int 0, .ref nw_slopes, .ref nw_wets, .ref nw_limits, .ref nw_platforms, .ref nw_kinds, .ref nw_trains, .ref nw_coaches])), (nw_platforms, .inr (6, [.int 6, .int 2, .ref nw_platforms_c, .int 0])), (nw_kinds, .inr (6, [.int 4, .int 5, .ref nw_kinds_c, .int 0])), (nw_trains, .inr (6, [.int 5, .int 3, .ref nw_trains_c, .int 0])), (nw_coaches, .inr (6, [.int 16, .int 5, .ref nw_coaches_c, .int 0])), (m0, .inr (11, [.int 0, .ref m_width, .ref m_many, .ref m_cells, .ref m_moved, .ref m_tape, .int 0, .int 0, .int 0, .int 0, .int 0, .long 0, .int 0, .int 0, .int 0, .int (-1), .ref m_lines, .ref m_length, .ref m_rain, .ref m_has, .ref m_slope, .ref m_wet, .ref m_limit, .ref m_platform, .ref m_kind, .ref m_train, .ref m_coach, .ref m_isKept, .ref m_sum, .int 0, .int 15, .ref m_comes, .ref m_isStood, .int 0, .int 0, .int 0, .ref m_front, .ref m_has0, .ref m_isOn, .ref m_letTick, .ref m_letYard, .ref m_letSpeed, .ref m_where, .ref m_pace, .ref m_stood, .ref m_isOff, .ref m_off, .ref m_wrong, .int 0, .int 0, .int 0, .int 0, .ref m_endTick, .int 0, .int 0, .int 0, .int 0, .long 0])), (m_length, .inl (G.2 0, 5, .inl (fun _ => 0))), (m_has, .inl (G.2 0, 35, .inl (fun _ => 0)))] H) (hD : va_D (fun q : Nat => s.heap.size ≤ q) [(x0, .inr (10, [.ref tp, .int 0, .ref rd, .ref nw, .ref sp, .ref im, .ref ir, .ref kp, .ref sl, .ref tk, .ref hn, .ref rc, .ref jn, .ref br, .ref sh])), (nw, .inr (3, [.int 0, .int 0, .ref nw_slopes, .ref nw_wets, .ref nw_limits, .ref nw_platforms, .ref nw_kinds, .ref nw_trains, .ref nw_coaches])), (nw_platforms, .inr (6, [.int 6, .int 2, .ref nw_platforms_c, .int 0])), (nw_kinds, .inr (6, [.int 4, .int 5, .ref nw_kinds_c, .int 0])), (nw_trains, .inr (6, [.int 5, .int 3, .ref nw_trains_c, .int 0])), (nw_coaches, .inr (6, [.int 16, .int 5, .ref nw_coaches_c, .int 0])), (m0, .inr (11, [.int 0, .ref m_width, .ref m_many, .ref m_cells, .ref m_moved, .ref m_tape, .int 0, .int 0, .int 0, .int 0, .int 0, .long 0, .int 0, .int 0, .int 0, .int (-1), .ref m_lines, .ref m_length, .ref m_rain, .ref m_has, .ref m_slope, .ref m_wet, .ref m_limit, .ref m_platform, .ref m_kind, .ref m_train, .ref m_coach, .ref m_isKept, .ref m_sum, .int 0, .int 15, .ref m_comes, .ref m_isStood, .int 0, .int 0, .int 0, .ref m_front, .ref m_has0, .ref m_isOn, .ref m_letTick, .ref m_letYard, .ref m_letSpeed, .ref m_where, .ref m_pace, .ref m_stood, .ref m_isOff, .ref m_off, .ref m_wrong, .int 0, .int 0, .int 0, .int 0, .ref m_endTick, .int 0, .int 0, .int 0, .int 0, .long 0])), (m_length, .inl (G.2 0, 5, .inl (fun _ => 0))), (m_has, .inl (G.2 0, 35, .inl (fun _ => 0)))]) (hS : va_S (fun q : Nat => s.heap.size ≤ q) s.heap H locs) {ls : Array Slot} (hl : lv_has ls 4 [(3, .int 0), (2, .ref m0), (1, .ref x0), (0, .ref b)]) : W p l e room_1 s m #[Value.ref b] below meth c H locs 600000 7302250 (lw_Z below #[Value.ref b] s) (F0 m 719 ls []) := by
  obtain ⟨hx, hb, hr, hml, hown, hts, hX, hbl, hlocks, hgv⟩ := id C0
  have hw : ∀ w ∈ wG, w.before #[Value.ref b] s = true := fun w h => hts w (List.mem_filter.mp h).1
  have hA : ∀ q : Nat, s.heap.size ≤ q → (fun q : Nat => s.heap.size ≤ q) q := fun _ h => h
  have hbA : ¬ (fun q : Nat => s.heap.size ≤ q) b := Nat.not_le.mpr hbl
  obtain ⟨hK, hAO⟩ := id hKG
  refine lv_aload_n hx hb dL_law_719 rfl (lv_at hl 2 rfl) ?_
  refine lv_aload_n hx hb dL_law_720 rfl (lv_at hl 3 rfl) ?_
  refine lv_iload_n hx hb dL_law_721 rfl (lv_at hl 0 rfl) ?_
  refine lv_iconst (v := 1) hx hb dL_law_722 (by decide) ?_
  refine lv_iadd hx hb dL_law_723 ?_
  refine lv_cst (y := 1) (by decide) ?_
  refine va_sld hx hb hX hbl hbA hS (vp_in_iff.mpr (by decide)) dL_law_724 ?_
  refine lv_cst (y := xs 1) rfl ?_
  refine lv_aload_n hx hb dL_law_725 rfl (lv_at hl 3 rfl) ?_
  refine lv_iload_n hx hb dL_law_726 rfl (lv_at hl 0 rfl) ?_
  refine lv_iconst (v := 2) hx hb dL_law_727 (by decide) ?_
  refine lv_iadd hx hb dL_law_728 ?_
  refine lv_cst (y := 2) (by decide) ?_
  refine va_sld hx hb hX hbl hbA hS (vp_in_iff.mpr (by decide)) dL_law_729 ?_
  refine lv_cst (y := xs 2) rfl ?_
  refine lv_aload_n hx hb dL_law_730 rfl (lv_at hl 3 rfl) ?_
  refine lv_iload_n hx hb dL_law_731 rfl (lv_at hl 0 rfl) ?_
  refine lv_iconst (v := 3) hx hb dL_law_732 (by decide) ?_
  refine lv_iadd hx hb dL_law_733 ?_
  refine lv_cst (y := 3) (by decide) ?_
  refine va_sld hx hb hX hbl hbA hS (vp_in_iff.mpr (by decide)) dL_law_734 ?_
  refine lv_cst (y := xs 3) rfl ?_
  refine lv_aload_n hx hb dL_law_735 rfl (lv_at hl 3 rfl) ?_
  refine lv_iload_n hx hb dL_law_736 rfl (lv_at hl 0 rfl) ?_
  refine lv_iconst (v := 4) hx hb dL_law_737 (by decide) ?_
  refine lv_iadd hx hb dL_law_738 ?_
  refine lv_cst (y := 4) (by decide) ?_
  refine va_sld hx hb hX hbl hbA hS (vp_in_iff.mpr (by decide)) dL_law_739 ?_
  refine lv_cst (y := xs 4) rfl ?_
  refine lv_aload_n hx hb dL_law_740 rfl (lv_at hl 3 rfl) ?_
  refine lv_iload_n hx hb dL_law_741 rfl (lv_at hl 0 rfl) ?_
  refine lv_iconst (v := 5) hx hb dL_law_742 (by decide) ?_
  refine lv_iadd hx hb dL_law_743 ?_
  refine lv_cst (y := 5) (by decide) ?_
  refine va_sld hx hb hX hbl hbA hS (vp_in_iff.mpr (by decide)) dL_law_744 ?_
  refine lv_cst (y := xs 5) rfl ?_
  refine vp_callSi (va_Run.run (va_runV (As := [.int (xs 1), .int (xs 2), .int (xs 3), .int (xs 4), .int (xs 5)]) (rest := []) ⟨hx, hb, hml, hown, hw⟩ (c_X10_handled l G x0 tp rd nw sp im ir kp sl tk hn rc jn br sh nw_slopes nw_wets nw_limits nw_platforms nw_kinds nw_trains nw_coaches nw_platforms_c nw_kinds_c nw_trains_c nw_coaches_c (xs 1) (xs 2) (xs 3) (xs 4) (xs 5)) (cwV 5 hw (gdV kw_524 kw_525 kw_526 kw_8 kw_523) rfl rfl rfl ⟨rfl, hdX10_handled⟩ ⟨(Nat.le_of_ble_eq_true rfl), (Nat.le_of_ble_eq_true rfl)⟩) (preS_V (wc := [(x0, .inr (10, [.ref tp, .int 0, .ref rd, .ref nw, .ref sp, .ref im, .ref ir, .ref kp, .ref sl, .ref tk, .ref hn, .ref rc, .ref jn, .ref br, .ref sh])), (nw, .inr (3, [.int 0, .int 0, .ref nw_slopes, .ref nw_wets, .ref nw_limits, .ref nw_platforms, .ref nw_kinds, .ref nw_trains, .ref nw_coaches])), (nw_platforms, .inr (6, [.int 6, .int 2, .ref nw_platforms_c, .int 0])), (nw_kinds, .inr (6, [.int 4, .int 5, .ref nw_kinds_c, .int 0])), (nw_trains, .inr (6, [.int 5, .int 3, .ref nw_trains_c, .int 0])), (nw_coaches, .inr (6, [.int 16, .int 5, .ref nw_coaches_c, .int 0]))]) (ci := 10) hKG hP [0, 1, 2, 3, 4, 5] rfl rfl rfl) rfl rfl hl.1 rfl (lv_room (Nat.le_of_ble_eq_true rfl)) dL_law_745 ⟨(Nat.le_of_ble_eq_true rfl), (Nat.le_of_ble_eq_true rfl)⟩)) (fun r1 hr1 => ?_)
  subst hr1
  refine lv_aload_n hx hb dL_law_748 rfl (lv_at hl 1 rfl) ?_
  refine lv_aload_n hx hb dL_law_749 rfl (lv_at hl 3 rfl) ?_
  refine lv_iload_n hx hb dL_law_750 rfl (lv_at hl 0 rfl) ?_
  refine lv_iconst (v := 1) hx hb dL_law_751 (by decide) ?_
  refine lv_iadd hx hb dL_law_752 ?_
  refine lv_cst (y := 1) (by decide) ?_
  refine va_sld hx hb hX hbl hbA hS (vp_in_iff.mpr (by decide)) dL_law_753 ?_
  refine lv_cst (y := xs 1) rfl ?_
  refine lv_aload_n hx hb dL_law_754 rfl (lv_at hl 3 rfl) ?_
  refine lv_iload_n hx hb dL_law_755 rfl (lv_at hl 0 rfl) ?_
  refine lv_iconst (v := 2) hx hb dL_law_756 (by decide) ?_
  refine lv_iadd hx hb dL_law_757 ?_
  refine lv_cst (y := 2) (by decide) ?_
  refine va_sld hx hb hX hbl hbA hS (vp_in_iff.mpr (by decide)) dL_law_758 ?_
  refine lv_cst (y := xs 2) rfl ?_
  refine lv_aload_n hx hb dL_law_759 rfl (lv_at hl 3 rfl) ?_
  refine lv_iload_n hx hb dL_law_760 rfl (lv_at hl 0 rfl) ?_
  refine lv_iconst (v := 3) hx hb dL_law_761 (by decide) ?_
  refine lv_iadd hx hb dL_law_762 ?_
  refine lv_cst (y := 3) (by decide) ?_
  refine va_sld hx hb hX hbl hbA hS (vp_in_iff.mpr (by decide)) dL_law_763 ?_
  refine lv_cst (y := xs 3) rfl ?_
  refine lv_aload_n hx hb dL_law_764 rfl (lv_at hl 3 rfl) ?_
  refine lv_iload_n hx hb dL_law_765 rfl (lv_at hl 0 rfl) ?_
  refine lv_iconst (v := 4) hx hb dL_law_766 (by decide) ?_
  refine lv_iadd hx hb dL_law_767 ?_
  refine lv_cst (y := 4) (by decide) ?_
  refine va_sld hx hb hX hbl hbA hS (vp_in_iff.mpr (by decide)) dL_law_768 ?_
  refine lv_cst (y := xs 4) rfl ?_
  refine lv_aload_n hx hb dL_law_769 rfl (lv_at hl 3 rfl) ?_
  refine lv_iload_n hx hb dL_law_770 rfl (lv_at hl 0 rfl) ?_
  refine lv_iconst (v := 5) hx hb dL_law_771 (by decide) ?_
  refine lv_iadd hx hb dL_law_772 ?_
  refine lv_cst (y := 5) (by decide) ?_
  refine va_sld hx hb hX hbl hbA hS (vp_in_iff.mpr (by decide)) dL_law_773 ?_
  refine lv_cst (y := xs 5) rfl ?_
  refine wq_calli (wr := [(x0, .inr (10, [.ref tp, .int 0, .ref rd, .ref nw, .ref sp, .ref im, .ref ir, .ref kp, .ref sl, .ref tk, .ref hn, .ref rc, .ref jn, .ref br, .ref sh])), (nw, .inr (3, [.int 0, .int 0, .ref nw_slopes, .ref nw_wets, .ref nw_limits, .ref nw_platforms, .ref nw_kinds, .ref nw_trains, .ref nw_coaches])), (nw_platforms, .inr (6, [.int 6, .int 2, .ref nw_platforms_c, .int 0])), (nw_kinds, .inr (6, [.int 4, .int 5, .ref nw_kinds_c, .int 0])), (nw_trains, .inr (6, [.int 5, .int 3, .ref nw_trains_c, .int 0])), (nw_coaches, .inr (6, [.int 16, .int 5, .ref nw_coaches_c, .int 0]))]) (va_runV (As := [.int (xs 1), .int (xs 2), .int (xs 3), .int (xs 4), .int (xs 5)]) (rest := [.int (-2)]) ⟨hx, hb, hml, hown, hw⟩ (c_X11_handled l G m0 m_width m_many m_cells m_moved m_tape m_lines m_length m_rain m_has m_slope m_wet m_limit m_platform m_kind m_train m_coach m_isKept m_sum m_comes m_isStood m_front m_has0 m_isOn m_letTick m_letYard m_letSpeed m_where m_pace m_stood m_isOff m_off m_wrong m_endTick (xs 1) (xs 2) (xs 3) (xs 4) (xs 5) H.size) (cwV 5 hw (gdV kw_528 kw_529 kw_530 kw_299 kw_527) rfl rfl rfl ⟨rfl, hdX11_handled⟩ ⟨(Nat.le_of_ble_eq_true rfl), (Nat.le_of_ble_eq_true rfl)⟩) (preQ_V (wc := [(m0, .inr (11, [.int 0, .ref m_width, .ref m_many, .ref m_cells, .ref m_moved, .ref m_tape, .int 0, .int 0, .int 0, .int 0, .int 0, .long 0, .int 0, .int 0, .int 0, .int (-1), .ref m_lines, .ref m_length, .ref m_rain, .ref m_has, .ref m_slope, .ref m_wet, .ref m_limit, .ref m_platform, .ref m_kind, .ref m_train, .ref m_coach, .ref m_isKept, .ref m_sum, .int 0, .int 15, .ref m_comes, .ref m_isStood, .int 0, .int 0, .int 0, .ref m_front, .ref m_has0, .ref m_isOn, .ref m_letTick, .ref m_letYard, .ref m_letSpeed, .ref m_where, .ref m_pace, .ref m_stood, .ref m_isOff, .ref m_off, .ref m_wrong, .int 0, .int 0, .int 0, .int 0, .ref m_endTick, .int 0, .int 0, .int 0, .int 0, .long 0])), (m_length, .inl (G.2 0, 5, .inl (fun _ => 0))), (m_has, .inl (G.2 0, 35, .inl (fun _ => 0)))]) (ci := 11) hKG hP hD [6, 7, 8] (by decide +kernel) rfl rfl rfl) rfl rfl hl.1 rfl (lv_room (Nat.le_of_ble_eq_true rfl)) dL_law_774 ⟨(Nat.le_of_ble_eq_true rfl), (Nat.le_of_ble_eq_true rfl)⟩) hS hP hD hA [6, 7, 8] [0, 1, 2, 3, 4, 5] rfl rfl (by decide +kernel) (by decide +kernel) (fun r2 u3 H locs hr2 hP hD hS => ?_)
  have hP : va_P G.1 vwCl [(x0, .inr (10, [.ref tp, .int 0, .ref rd, .ref nw, .ref sp, .ref im, .ref ir, .ref kp, .ref sl, .ref tk, .ref hn, .ref rc, .ref jn, .ref br, .ref sh])), (nw, .inr (3, [.int 0, .int 0, .ref nw_slopes, .ref nw_wets, .ref nw_limits, .ref nw_platforms, .ref nw_kinds, .ref nw_trains, .ref nw_coaches])), (nw_platforms, .inr (6, [.int 6, .int 2, .ref nw_platforms_c, .int 0])), (nw_kinds, .inr (6, [.int 4, .int 5, .ref nw_kinds_c, .int 0])), (nw_trains, .inr (6, [.int 5, .int 3, .ref nw_trains_c, .int 0])), (nw_coaches, .inr (6, [.int 16, .int 5, .ref nw_coaches_c, .int 0]))] H := hP
  have hD : va_D (fun q : Nat => s.heap.size ≤ q) [(x0, .inr (10, [.ref tp, .int 0, .ref rd, .ref nw, .ref sp, .ref im, .ref ir, .ref kp, .ref sl, .ref tk, .ref hn, .ref rc, .ref jn, .ref br, .ref sh])), (nw, .inr (3, [.int 0, .int 0, .ref nw_slopes, .ref nw_wets, .ref nw_limits, .ref nw_platforms, .ref nw_kinds, .ref nw_trains, .ref nw_coaches])), (nw_platforms, .inr (6, [.int 6, .int 2, .ref nw_platforms_c, .int 0])), (nw_kinds, .inr (6, [.int 4, .int 5, .ref nw_kinds_c, .int 0])), (nw_trains, .inr (6, [.int 5, .int 3, .ref nw_trains_c, .int 0])), (nw_coaches, .inr (6, [.int 16, .int 5, .ref nw_coaches_c, .int 0]))] := hD
  refine W.widen (k := 600000) (n := 7302250) (Nat.le_of_ble_eq_true rfl) (Nat.le_of_ble_eq_true rfl) ?_
  subst hr2
  refine lv_icmp_eq (tgt := 2094) hx hb dL_law_777 (by decide) (fun c4 => ?_) (fun c4 => absurd (by decide) c4)
  exact law_tail (x0 := x0) (m0 := m0) C0 hS (lv_sub hl [0, 1, 2, 3] rfl)
set_option maxHeartbeats 40000000 in
set_option maxRecDepth 100000 in
theorem law_14 {p : Program} {l : Launch} {e : Env} {s : State} {m : MethodId} {below : List Frame} {meth : Method} {c : Code} {b : Nat} {xs : Nat → Int32} (C0 : lw_At p s m meth c b 6 xs) (G : KG) (x0 : Nat) (tp : Nat) (rd : Nat) (nw : Nat) (sp : Nat) (im : Nat) (ir : Nat) (kp : Nat) (sl : Nat) (tk : Nat) (hn : Nat) (rc : Nat) (jn : Nat) (br : Nat) (sh : Nat) (nw_slopes : Nat) (nw_wets : Nat) (nw_limits : Nat) (nw_platforms : Nat) (nw_kinds : Nat) (nw_trains : Nat) (nw_coaches : Nat) (nw_platforms_c : Nat) (nw_kinds_c : Nat) (nw_trains_c : Nat) (nw_coaches_c : Nat) (m0 : Nat) (m_width : Nat) (m_many : Nat) (m_cells : Nat) (m_moved : Nat) (m_tape : Nat) (m_lines : Nat) (m_length : Nat) (m_rain : Nat) (m_has : Nat) (m_slope : Nat) (m_wet : Nat) (m_limit : Nat) (m_platform : Nat) (m_kind : Nat) (m_train : Nat) (m_coach : Nat) (m_isKept : Nat) (m_sum : Nat) (m_comes : Nat) (m_isStood : Nat) (m_front : Nat) (m_has0 : Nat) (m_isOn : Nat) (m_letTick : Nat) (m_letYard : Nat) (m_letSpeed : Nat) (m_where : Nat) (m_pace : Nat) (m_stood : Nat) (m_isOff : Nat) (m_off : Nat) (m_wrong : Nat) (m_endTick : Nat) (hKG : kG G s) {H : Heap} {locs : List Loc} (hP : va_P G.1 vwCl [(x0, .inr (10, [.ref tp, .int 0, .ref rd, .ref nw, .ref sp, .ref im, .ref ir, .ref kp, .ref sl, .ref tk, .ref hn, .ref rc, .ref jn, .ref br, .ref sh])), (nw, .inr (3, [.int 0, .int 0, .ref nw_slopes, .ref nw_wets, .ref nw_limits, .ref nw_platforms, .ref nw_kinds, .ref nw_trains, .ref nw_coaches])), (nw_platforms, .inr (6, [.int 6, .int 2, .ref nw_platforms_c, .int 0])), (nw_kinds, .inr (6, [.int 4, .int 5, .ref nw_kinds_c, .int 0])), (nw_trains, .inr (6, [.int 5, .int 3, .ref nw_trains_c, .int 0])), (nw_coaches, .inr (6, [.int 16, .int 5, .ref nw_coaches_c, .int 0])), (m0, .inr (11, [.int 0, .ref m_width, .ref m_many, .ref m_cells, .ref m_moved, .ref m_tape, .int 0, .int 0, .int 0, .int 0, .int 0, .long 0, .int 0, .int 0, .int 0, .int (-1), .ref m_lines, .ref m_length, .ref m_rain, .ref m_has, .ref m_slope, .ref m_wet, .ref m_limit, .ref m_platform, .ref m_kind, .ref m_train, .ref m_coach, .ref m_isKept, .ref m_sum, .int 0, .int 15, .ref m_comes, .ref m_isStood, .int 0, .int 0, .int 0, .ref m_front, .ref m_has0, .ref m_isOn, .ref m_letTick, .ref m_letYard, .ref m_letSpeed, .ref m_where, .ref m_pace, .ref m_stood, .ref m_isOff, .ref m_off, .ref m_wrong, .int 0, .int 0, .int 0, .int 0, .ref m_endTick, .int 0, .int 0, .int 0, .int 0, .long 0])), (m_length, .inl (G.2 0, 5, .inl (fun _ => 0))), (m_has, .inl (G.2 0, 35, .inl (fun _ => 0)))] H) (hD : va_D (fun q : Nat => s.heap.size ≤ q) [(x0, .inr (10, [.ref tp, .int 0, .ref rd, .ref nw, .ref sp, .ref im, .ref ir, .ref kp, .ref sl, .ref tk, .ref hn, .ref rc, .ref jn, .ref br, .ref sh])), (nw, .inr (3, [.int 0, .int 0, .ref nw_slopes, .ref nw_wets, .ref nw_limits, .ref nw_platforms, .ref nw_kinds, .ref nw_trains, .ref nw_coaches])), (nw_platforms, .inr (6, [.int 6, .int 2, .ref nw_platforms_c, .int 0])), (nw_kinds, .inr (6, [.int 4, .int 5, .ref nw_kinds_c, .int 0])), (nw_trains, .inr (6, [.int 5, .int 3, .ref nw_trains_c, .int 0])), (nw_coaches, .inr (6, [.int 16, .int 5, .ref nw_coaches_c, .int 0])), (m0, .inr (11, [.int 0, .ref m_width, .ref m_many, .ref m_cells, .ref m_moved, .ref m_tape, .int 0, .int 0, .int 0, .int 0, .int 0, .long 0, .int 0, .int 0, .int 0, .int (-1), .ref m_lines, .ref m_length, .ref m_rain, .ref m_has, .ref m_slope, .ref m_wet, .ref m_limit, .ref m_platform, .ref m_kind, .ref m_train, .ref m_coach, .ref m_isKept, .ref m_sum, .int 0, .int 15, .ref m_comes, .ref m_isStood, .int 0, .int 0, .int 0, .ref m_front, .ref m_has0, .ref m_isOn, .ref m_letTick, .ref m_letYard, .ref m_letSpeed, .ref m_where, .ref m_pace, .ref m_stood, .ref m_isOff, .ref m_off, .ref m_wrong, .int 0, .int 0, .int 0, .int 0, .ref m_endTick, .int 0, .int 0, .int 0, .int 0, .long 0])), (m_length, .inl (G.2 0, 5, .inl (fun _ => 0))), (m_has, .inl (G.2 0, 35, .inl (fun _ => 0)))]) (hS : va_S (fun q : Nat => s.heap.size ≤ q) s.heap H locs) {ls : Array Slot} (hl : lv_has ls 4 [(3, .int 0), (2, .ref m0), (1, .ref x0), (0, .ref b)]) : W p l e room_1 s m #[Value.ref b] below meth c H locs 600000 7302250 (lw_Z below #[Value.ref b] s) (F0 m 782 ls []) := by
  obtain ⟨hx, hb, hr, hml, hown, hts, hX, hbl, hlocks, hgv⟩ := id C0
  have hw : ∀ w ∈ wG, w.before #[Value.ref b] s = true := fun w h => hts w (List.mem_filter.mp h).1
  have hA : ∀ q : Nat, s.heap.size ≤ q → (fun q : Nat => s.heap.size ≤ q) q := fun _ h => h
  have hbA : ¬ (fun q : Nat => s.heap.size ≤ q) b := Nat.not_le.mpr hbl
  obtain ⟨hK, hAO⟩ := id hKG
  refine lv_aload_n hx hb dL_law_782 rfl (lv_at hl 2 rfl) ?_
  refine lv_aload_n hx hb dL_law_783 rfl (lv_at hl 3 rfl) ?_
  refine lv_iload_n hx hb dL_law_784 rfl (lv_at hl 0 rfl) ?_
  refine lv_iconst (v := 1) hx hb dL_law_785 (by decide) ?_
  refine lv_iadd hx hb dL_law_786 ?_
  refine lv_cst (y := 1) (by decide) ?_
  refine va_sld hx hb hX hbl hbA hS (vp_in_iff.mpr (by decide)) dL_law_787 ?_
  refine lv_cst (y := xs 1) rfl ?_
  refine lv_aload_n hx hb dL_law_788 rfl (lv_at hl 3 rfl) ?_
  refine lv_iload_n hx hb dL_law_789 rfl (lv_at hl 0 rfl) ?_
  refine lv_iconst (v := 2) hx hb dL_law_790 (by decide) ?_
  refine lv_iadd hx hb dL_law_791 ?_
  refine lv_cst (y := 2) (by decide) ?_
  refine va_sld hx hb hX hbl hbA hS (vp_in_iff.mpr (by decide)) dL_law_792 ?_
  refine lv_cst (y := xs 2) rfl ?_
  refine lv_aload_n hx hb dL_law_793 rfl (lv_at hl 3 rfl) ?_
  refine lv_iload_n hx hb dL_law_794 rfl (lv_at hl 0 rfl) ?_
  refine lv_iconst (v := 3) hx hb dL_law_795 (by decide) ?_
  refine lv_iadd hx hb dL_law_796 ?_
  refine lv_cst (y := 3) (by decide) ?_
  refine va_sld hx hb hX hbl hbA hS (vp_in_iff.mpr (by decide)) dL_law_797 ?_
  refine lv_cst (y := xs 3) rfl ?_
  refine lv_aload_n hx hb dL_law_798 rfl (lv_at hl 3 rfl) ?_
  refine lv_iload_n hx hb dL_law_799 rfl (lv_at hl 0 rfl) ?_
  refine lv_iconst (v := 4) hx hb dL_law_800 (by decide) ?_
  refine lv_iadd hx hb dL_law_801 ?_
  refine lv_cst (y := 4) (by decide) ?_
  refine va_sld hx hb hX hbl hbA hS (vp_in_iff.mpr (by decide)) dL_law_802 ?_
  refine lv_cst (y := xs 4) rfl ?_
  refine vp_callSi (va_Run.run (va_runV (As := [.int (xs 1), .int (xs 2), .int (xs 3), .int (xs 4)]) (rest := []) ⟨hx, hb, hml, hown, hw⟩ (c_X10_hard l G x0 tp rd nw sp im ir kp sl tk hn rc jn br sh nw_slopes nw_wets nw_limits nw_platforms nw_kinds nw_trains nw_coaches nw_platforms_c nw_kinds_c nw_trains_c nw_coaches_c (xs 1) (xs 2) (xs 3) (xs 4)) (cwV 4 hw (gdV kw_532 kw_533 kw_534 kw_8 kw_531) rfl rfl rfl ⟨rfl, hdX10_hard⟩ ⟨(Nat.le_of_ble_eq_true rfl), (Nat.le_of_ble_eq_true rfl)⟩) (preS_V (wc := [(x0, .inr (10, [.ref tp, .int 0, .ref rd, .ref nw, .ref sp, .ref im, .ref ir, .ref kp, .ref sl, .ref tk, .ref hn, .ref rc, .ref jn, .ref br, .ref sh])), (nw, .inr (3, [.int 0, .int 0, .ref nw_slopes, .ref nw_wets, .ref nw_limits, .ref nw_platforms, .ref nw_kinds, .ref nw_trains, .ref nw_coaches])), (nw_platforms, .inr (6, [.int 6, .int 2, .ref nw_platforms_c, .int 0])), (nw_kinds, .inr (6, [.int 4, .int 5, .ref nw_kinds_c, .int 0])), (nw_trains, .inr (6, [.int 5, .int 3, .ref nw_trains_c, .int 0])), (nw_coaches, .inr (6, [.int 16, .int 5, .ref nw_coaches_c, .int 0]))]) (ci := 10) hKG hP [0, 1, 2, 3, 4, 5] rfl rfl rfl) rfl rfl hl.1 rfl (lv_room (Nat.le_of_ble_eq_true rfl)) dL_law_803 ⟨(Nat.le_of_ble_eq_true rfl), (Nat.le_of_ble_eq_true rfl)⟩)) (fun r1 hr1 => ?_)
  subst hr1
  refine lv_aload_n hx hb dL_law_806 rfl (lv_at hl 1 rfl) ?_
  refine lv_aload_n hx hb dL_law_807 rfl (lv_at hl 3 rfl) ?_
  refine lv_iload_n hx hb dL_law_808 rfl (lv_at hl 0 rfl) ?_
  refine lv_iconst (v := 1) hx hb dL_law_809 (by decide) ?_
  refine lv_iadd hx hb dL_law_810 ?_
  refine lv_cst (y := 1) (by decide) ?_
  refine va_sld hx hb hX hbl hbA hS (vp_in_iff.mpr (by decide)) dL_law_811 ?_
  refine lv_cst (y := xs 1) rfl ?_
  refine lv_aload_n hx hb dL_law_812 rfl (lv_at hl 3 rfl) ?_
  refine lv_iload_n hx hb dL_law_813 rfl (lv_at hl 0 rfl) ?_
  refine lv_iconst (v := 2) hx hb dL_law_814 (by decide) ?_
  refine lv_iadd hx hb dL_law_815 ?_
  refine lv_cst (y := 2) (by decide) ?_
  refine va_sld hx hb hX hbl hbA hS (vp_in_iff.mpr (by decide)) dL_law_816 ?_
  refine lv_cst (y := xs 2) rfl ?_
  refine lv_aload_n hx hb dL_law_817 rfl (lv_at hl 3 rfl) ?_
  refine lv_iload_n hx hb dL_law_818 rfl (lv_at hl 0 rfl) ?_
  refine lv_iconst (v := 3) hx hb dL_law_819 (by decide) ?_
  refine lv_iadd hx hb dL_law_820 ?_
  refine lv_cst (y := 3) (by decide) ?_
  refine va_sld hx hb hX hbl hbA hS (vp_in_iff.mpr (by decide)) dL_law_821 ?_
  refine lv_cst (y := xs 3) rfl ?_
  refine lv_aload_n hx hb dL_law_822 rfl (lv_at hl 3 rfl) ?_
  refine lv_iload_n hx hb dL_law_823 rfl (lv_at hl 0 rfl) ?_
  refine lv_iconst (v := 4) hx hb dL_law_824 (by decide) ?_
  refine lv_iadd hx hb dL_law_825 ?_
  refine lv_cst (y := 4) (by decide) ?_
  refine va_sld hx hb hX hbl hbA hS (vp_in_iff.mpr (by decide)) dL_law_826 ?_
  refine lv_cst (y := xs 4) rfl ?_
  refine wq_calli (wr := [(x0, .inr (10, [.ref tp, .int 0, .ref rd, .ref nw, .ref sp, .ref im, .ref ir, .ref kp, .ref sl, .ref tk, .ref hn, .ref rc, .ref jn, .ref br, .ref sh])), (nw, .inr (3, [.int 0, .int 0, .ref nw_slopes, .ref nw_wets, .ref nw_limits, .ref nw_platforms, .ref nw_kinds, .ref nw_trains, .ref nw_coaches])), (nw_platforms, .inr (6, [.int 6, .int 2, .ref nw_platforms_c, .int 0])), (nw_kinds, .inr (6, [.int 4, .int 5, .ref nw_kinds_c, .int 0])), (nw_trains, .inr (6, [.int 5, .int 3, .ref nw_trains_c, .int 0])), (nw_coaches, .inr (6, [.int 16, .int 5, .ref nw_coaches_c, .int 0]))]) (va_runV (As := [.int (xs 1), .int (xs 2), .int (xs 3), .int (xs 4)]) (rest := [.int (-2)]) ⟨hx, hb, hml, hown, hw⟩ (c_X11_hard l G m0 m_width m_many m_cells m_moved m_tape m_lines m_length m_rain m_has m_slope m_wet m_limit m_platform m_kind m_train m_coach m_isKept m_sum m_comes m_isStood m_front m_has0 m_isOn m_letTick m_letYard m_letSpeed m_where m_pace m_stood m_isOff m_off m_wrong m_endTick (xs 1) (xs 2) (xs 3) (xs 4) H.size) (cwV 4 hw (gdV kw_536 kw_537 kw_538 kw_299 kw_535) rfl rfl rfl ⟨rfl, hdX11_hard⟩ ⟨(Nat.le_of_ble_eq_true rfl), (Nat.le_of_ble_eq_true rfl)⟩) (preQ_V (wc := [(m0, .inr (11, [.int 0, .ref m_width, .ref m_many, .ref m_cells, .ref m_moved, .ref m_tape, .int 0, .int 0, .int 0, .int 0, .int 0, .long 0, .int 0, .int 0, .int 0, .int (-1), .ref m_lines, .ref m_length, .ref m_rain, .ref m_has, .ref m_slope, .ref m_wet, .ref m_limit, .ref m_platform, .ref m_kind, .ref m_train, .ref m_coach, .ref m_isKept, .ref m_sum, .int 0, .int 15, .ref m_comes, .ref m_isStood, .int 0, .int 0, .int 0, .ref m_front, .ref m_has0, .ref m_isOn, .ref m_letTick, .ref m_letYard, .ref m_letSpeed, .ref m_where, .ref m_pace, .ref m_stood, .ref m_isOff, .ref m_off, .ref m_wrong, .int 0, .int 0, .int 0, .int 0, .ref m_endTick, .int 0, .int 0, .int 0, .int 0, .long 0])), (m_length, .inl (G.2 0, 5, .inl (fun _ => 0))), (m_has, .inl (G.2 0, 35, .inl (fun _ => 0)))]) (ci := 11) hKG hP hD [6, 7, 8] (by decide +kernel) rfl rfl rfl) rfl rfl hl.1 rfl (lv_room (Nat.le_of_ble_eq_true rfl)) dL_law_827 ⟨(Nat.le_of_ble_eq_true rfl), (Nat.le_of_ble_eq_true rfl)⟩) hS hP hD hA [6, 7, 8] [0, 1, 2, 3, 4, 5] rfl rfl (by decide +kernel) (by decide +kernel) (fun r2 u3 H locs hr2 hP hD hS => ?_)
  have hP : va_P G.1 vwCl [(x0, .inr (10, [.ref tp, .int 0, .ref rd, .ref nw, .ref sp, .ref im, .ref ir, .ref kp, .ref sl, .ref tk, .ref hn, .ref rc, .ref jn, .ref br, .ref sh])), (nw, .inr (3, [.int 0, .int 0, .ref nw_slopes, .ref nw_wets, .ref nw_limits, .ref nw_platforms, .ref nw_kinds, .ref nw_trains, .ref nw_coaches])), (nw_platforms, .inr (6, [.int 6, .int 2, .ref nw_platforms_c, .int 0])), (nw_kinds, .inr (6, [.int 4, .int 5, .ref nw_kinds_c, .int 0])), (nw_trains, .inr (6, [.int 5, .int 3, .ref nw_trains_c, .int 0])), (nw_coaches, .inr (6, [.int 16, .int 5, .ref nw_coaches_c, .int 0]))] H := hP
  have hD : va_D (fun q : Nat => s.heap.size ≤ q) [(x0, .inr (10, [.ref tp, .int 0, .ref rd, .ref nw, .ref sp, .ref im, .ref ir, .ref kp, .ref sl, .ref tk, .ref hn, .ref rc, .ref jn, .ref br, .ref sh])), (nw, .inr (3, [.int 0, .int 0, .ref nw_slopes, .ref nw_wets, .ref nw_limits, .ref nw_platforms, .ref nw_kinds, .ref nw_trains, .ref nw_coaches])), (nw_platforms, .inr (6, [.int 6, .int 2, .ref nw_platforms_c, .int 0])), (nw_kinds, .inr (6, [.int 4, .int 5, .ref nw_kinds_c, .int 0])), (nw_trains, .inr (6, [.int 5, .int 3, .ref nw_trains_c, .int 0])), (nw_coaches, .inr (6, [.int 16, .int 5, .ref nw_coaches_c, .int 0]))] := hD
  refine W.widen (k := 600000) (n := 7302250) (Nat.le_of_ble_eq_true rfl) (Nat.le_of_ble_eq_true rfl) ?_
  subst hr2
  refine lv_icmp_eq (tgt := 2094) hx hb dL_law_830 (by decide) (fun c4 => ?_) (fun c4 => absurd (by decide) c4)
  exact law_tail (x0 := x0) (m0 := m0) C0 hS (lv_sub hl [0, 1, 2, 3] rfl)
set_option maxHeartbeats 40000000 in
set_option maxRecDepth 100000 in
theorem law_15 {p : Program} {l : Launch} {e : Env} {s : State} {m : MethodId} {below : List Frame} {meth : Method} {c : Code} {b : Nat} {xs : Nat → Int32} (C0 : lw_At p s m meth c b 6 xs) (G : KG) (x0 : Nat) (tp : Nat) (rd : Nat) (nw : Nat) (sp : Nat) (im : Nat) (ir : Nat) (kp : Nat) (sl : Nat) (tk : Nat) (hn : Nat) (rc : Nat) (jn : Nat) (br : Nat) (sh : Nat) (nw_slopes : Nat) (nw_wets : Nat) (nw_limits : Nat) (nw_platforms : Nat) (nw_kinds : Nat) (nw_trains : Nat) (nw_coaches : Nat) (nw_platforms_c : Nat) (nw_kinds_c : Nat) (nw_trains_c : Nat) (nw_coaches_c : Nat) (m0 : Nat) (m_width : Nat) (m_many : Nat) (m_cells : Nat) (m_moved : Nat) (m_tape : Nat) (m_lines : Nat) (m_length : Nat) (m_rain : Nat) (m_has : Nat) (m_slope : Nat) (m_wet : Nat) (m_limit : Nat) (m_platform : Nat) (m_kind : Nat) (m_train : Nat) (m_coach : Nat) (m_isKept : Nat) (m_sum : Nat) (m_comes : Nat) (m_isStood : Nat) (m_front : Nat) (m_has0 : Nat) (m_isOn : Nat) (m_letTick : Nat) (m_letYard : Nat) (m_letSpeed : Nat) (m_where : Nat) (m_pace : Nat) (m_stood : Nat) (m_isOff : Nat) (m_off : Nat) (m_wrong : Nat) (m_endTick : Nat) (hKG : kG G s) {H : Heap} {locs : List Loc} (hP : va_P G.1 vwCl [(x0, .inr (10, [.ref tp, .int 0, .ref rd, .ref nw, .ref sp, .ref im, .ref ir, .ref kp, .ref sl, .ref tk, .ref hn, .ref rc, .ref jn, .ref br, .ref sh])), (nw, .inr (3, [.int 0, .int 0, .ref nw_slopes, .ref nw_wets, .ref nw_limits, .ref nw_platforms, .ref nw_kinds, .ref nw_trains, .ref nw_coaches])), (nw_platforms, .inr (6, [.int 6, .int 2, .ref nw_platforms_c, .int 0])), (nw_kinds, .inr (6, [.int 4, .int 5, .ref nw_kinds_c, .int 0])), (nw_trains, .inr (6, [.int 5, .int 3, .ref nw_trains_c, .int 0])), (nw_coaches, .inr (6, [.int 16, .int 5, .ref nw_coaches_c, .int 0])), (m0, .inr (11, [.int 0, .ref m_width, .ref m_many, .ref m_cells, .ref m_moved, .ref m_tape, .int 0, .int 0, .int 0, .int 0, .int 0, .long 0, .int 0, .int 0, .int 0, .int (-1), .ref m_lines, .ref m_length, .ref m_rain, .ref m_has, .ref m_slope, .ref m_wet, .ref m_limit, .ref m_platform, .ref m_kind, .ref m_train, .ref m_coach, .ref m_isKept, .ref m_sum, .int 0, .int 15, .ref m_comes, .ref m_isStood, .int 0, .int 0, .int 0, .ref m_front, .ref m_has0, .ref m_isOn, .ref m_letTick, .ref m_letYard, .ref m_letSpeed, .ref m_where, .ref m_pace, .ref m_stood, .ref m_isOff, .ref m_off, .ref m_wrong, .int 0, .int 0, .int 0, .int 0, .ref m_endTick, .int 0, .int 0, .int 0, .int 0, .long 0])), (m_length, .inl (G.2 0, 5, .inl (fun _ => 0))), (m_has, .inl (G.2 0, 35, .inl (fun _ => 0)))] H) (hD : va_D (fun q : Nat => s.heap.size ≤ q) [(x0, .inr (10, [.ref tp, .int 0, .ref rd, .ref nw, .ref sp, .ref im, .ref ir, .ref kp, .ref sl, .ref tk, .ref hn, .ref rc, .ref jn, .ref br, .ref sh])), (nw, .inr (3, [.int 0, .int 0, .ref nw_slopes, .ref nw_wets, .ref nw_limits, .ref nw_platforms, .ref nw_kinds, .ref nw_trains, .ref nw_coaches])), (nw_platforms, .inr (6, [.int 6, .int 2, .ref nw_platforms_c, .int 0])), (nw_kinds, .inr (6, [.int 4, .int 5, .ref nw_kinds_c, .int 0])), (nw_trains, .inr (6, [.int 5, .int 3, .ref nw_trains_c, .int 0])), (nw_coaches, .inr (6, [.int 16, .int 5, .ref nw_coaches_c, .int 0])), (m0, .inr (11, [.int 0, .ref m_width, .ref m_many, .ref m_cells, .ref m_moved, .ref m_tape, .int 0, .int 0, .int 0, .int 0, .int 0, .long 0, .int 0, .int 0, .int 0, .int (-1), .ref m_lines, .ref m_length, .ref m_rain, .ref m_has, .ref m_slope, .ref m_wet, .ref m_limit, .ref m_platform, .ref m_kind, .ref m_train, .ref m_coach, .ref m_isKept, .ref m_sum, .int 0, .int 15, .ref m_comes, .ref m_isStood, .int 0, .int 0, .int 0, .ref m_front, .ref m_has0, .ref m_isOn, .ref m_letTick, .ref m_letYard, .ref m_letSpeed, .ref m_where, .ref m_pace, .ref m_stood, .ref m_isOff, .ref m_off, .ref m_wrong, .int 0, .int 0, .int 0, .int 0, .ref m_endTick, .int 0, .int 0, .int 0, .int 0, .long 0])), (m_length, .inl (G.2 0, 5, .inl (fun _ => 0))), (m_has, .inl (G.2 0, 35, .inl (fun _ => 0)))]) (hS : va_S (fun q : Nat => s.heap.size ≤ q) s.heap H locs) {ls : Array Slot} (hl : lv_has ls 4 [(3, .int 0), (2, .ref m0), (1, .ref x0), (0, .ref b)]) : W p l e room_1 s m #[Value.ref b] below meth c H locs 600000 7302250 (lw_Z below #[Value.ref b] s) (F0 m 835 ls []) := by
  obtain ⟨hx, hb, hr, hml, hown, hts, hX, hbl, hlocks, hgv⟩ := id C0
  have hw : ∀ w ∈ wG, w.before #[Value.ref b] s = true := fun w h => hts w (List.mem_filter.mp h).1
  have hA : ∀ q : Nat, s.heap.size ≤ q → (fun q : Nat => s.heap.size ≤ q) q := fun _ h => h
  have hbA : ¬ (fun q : Nat => s.heap.size ≤ q) b := Nat.not_le.mpr hbl
  obtain ⟨hK, hAO⟩ := id hKG
  refine lv_aload_n hx hb dL_law_835 rfl (lv_at hl 2 rfl) ?_
  refine lv_aload_n hx hb dL_law_836 rfl (lv_at hl 3 rfl) ?_
  refine lv_iload_n hx hb dL_law_837 rfl (lv_at hl 0 rfl) ?_
  refine lv_iconst (v := 1) hx hb dL_law_838 (by decide) ?_
  refine lv_iadd hx hb dL_law_839 ?_
  refine lv_cst (y := 1) (by decide) ?_
  refine va_sld hx hb hX hbl hbA hS (vp_in_iff.mpr (by decide)) dL_law_840 ?_
  refine lv_cst (y := xs 1) rfl ?_
  refine lv_aload_n hx hb dL_law_841 rfl (lv_at hl 3 rfl) ?_
  refine lv_iload_n hx hb dL_law_842 rfl (lv_at hl 0 rfl) ?_
  refine lv_iconst (v := 2) hx hb dL_law_843 (by decide) ?_
  refine lv_iadd hx hb dL_law_844 ?_
  refine lv_cst (y := 2) (by decide) ?_
  refine va_sld hx hb hX hbl hbA hS (vp_in_iff.mpr (by decide)) dL_law_845 ?_
  refine lv_cst (y := xs 2) rfl ?_
  refine lv_aload_n hx hb dL_law_846 rfl (lv_at hl 3 rfl) ?_
  refine lv_iload_n hx hb dL_law_847 rfl (lv_at hl 0 rfl) ?_
  refine lv_iconst (v := 3) hx hb dL_law_848 (by decide) ?_
  refine lv_iadd hx hb dL_law_849 ?_
  refine lv_cst (y := 3) (by decide) ?_
  refine va_sld hx hb hX hbl hbA hS (vp_in_iff.mpr (by decide)) dL_law_850 ?_
  refine lv_cst (y := xs 3) rfl ?_
  refine lv_aload_n hx hb dL_law_851 rfl (lv_at hl 3 rfl) ?_
  refine lv_iload_n hx hb dL_law_852 rfl (lv_at hl 0 rfl) ?_
  refine lv_iconst (v := 4) hx hb dL_law_853 (by decide) ?_
  refine lv_iadd hx hb dL_law_854 ?_
  refine lv_cst (y := 4) (by decide) ?_
  refine va_sld hx hb hX hbl hbA hS (vp_in_iff.mpr (by decide)) dL_law_855 ?_
  refine lv_cst (y := xs 4) rfl ?_
  refine vp_callSi (va_Run.run (va_runV (As := [.int (xs 1), .int (xs 2), .int (xs 3), .int (xs 4)]) (rest := []) ⟨hx, hb, hml, hown, hw⟩ (c_X10_quick l G x0 tp rd nw sp im ir kp sl tk hn rc jn br sh nw_slopes nw_wets nw_limits nw_platforms nw_kinds nw_trains nw_coaches nw_platforms_c nw_kinds_c nw_trains_c nw_coaches_c (xs 1) (xs 2) (xs 3) (xs 4)) (cwV 4 hw (gdV kw_540 kw_541 kw_542 kw_8 kw_539) rfl rfl rfl ⟨rfl, hdX10_quick⟩ ⟨(Nat.le_of_ble_eq_true rfl), (Nat.le_of_ble_eq_true rfl)⟩) (preS_V (wc := [(x0, .inr (10, [.ref tp, .int 0, .ref rd, .ref nw, .ref sp, .ref im, .ref ir, .ref kp, .ref sl, .ref tk, .ref hn, .ref rc, .ref jn, .ref br, .ref sh])), (nw, .inr (3, [.int 0, .int 0, .ref nw_slopes, .ref nw_wets, .ref nw_limits, .ref nw_platforms, .ref nw_kinds, .ref nw_trains, .ref nw_coaches])), (nw_platforms, .inr (6, [.int 6, .int 2, .ref nw_platforms_c, .int 0])), (nw_kinds, .inr (6, [.int 4, .int 5, .ref nw_kinds_c, .int 0])), (nw_trains, .inr (6, [.int 5, .int 3, .ref nw_trains_c, .int 0])), (nw_coaches, .inr (6, [.int 16, .int 5, .ref nw_coaches_c, .int 0]))]) (ci := 10) hKG hP [0, 1, 2, 3, 4, 5] rfl rfl rfl) rfl rfl hl.1 rfl (lv_room (Nat.le_of_ble_eq_true rfl)) dL_law_856 ⟨(Nat.le_of_ble_eq_true rfl), (Nat.le_of_ble_eq_true rfl)⟩)) (fun r1 hr1 => ?_)
  subst hr1
  refine lv_aload_n hx hb dL_law_859 rfl (lv_at hl 1 rfl) ?_
  refine lv_aload_n hx hb dL_law_860 rfl (lv_at hl 3 rfl) ?_
  refine lv_iload_n hx hb dL_law_861 rfl (lv_at hl 0 rfl) ?_
  refine lv_iconst (v := 1) hx hb dL_law_862 (by decide) ?_
  refine lv_iadd hx hb dL_law_863 ?_
  refine lv_cst (y := 1) (by decide) ?_
  refine va_sld hx hb hX hbl hbA hS (vp_in_iff.mpr (by decide)) dL_law_864 ?_
  refine lv_cst (y := xs 1) rfl ?_
  refine lv_aload_n hx hb dL_law_865 rfl (lv_at hl 3 rfl) ?_
  refine lv_iload_n hx hb dL_law_866 rfl (lv_at hl 0 rfl) ?_
  refine lv_iconst (v := 2) hx hb dL_law_867 (by decide) ?_
  refine lv_iadd hx hb dL_law_868 ?_
  refine lv_cst (y := 2) (by decide) ?_
  refine va_sld hx hb hX hbl hbA hS (vp_in_iff.mpr (by decide)) dL_law_869 ?_
  refine lv_cst (y := xs 2) rfl ?_
  refine lv_aload_n hx hb dL_law_870 rfl (lv_at hl 3 rfl) ?_
  refine lv_iload_n hx hb dL_law_871 rfl (lv_at hl 0 rfl) ?_
  refine lv_iconst (v := 3) hx hb dL_law_872 (by decide) ?_
  refine lv_iadd hx hb dL_law_873 ?_
  refine lv_cst (y := 3) (by decide) ?_
  refine va_sld hx hb hX hbl hbA hS (vp_in_iff.mpr (by decide)) dL_law_874 ?_
  refine lv_cst (y := xs 3) rfl ?_
  refine lv_aload_n hx hb dL_law_875 rfl (lv_at hl 3 rfl) ?_
  refine lv_iload_n hx hb dL_law_876 rfl (lv_at hl 0 rfl) ?_
  refine lv_iconst (v := 4) hx hb dL_law_877 (by decide) ?_
  refine lv_iadd hx hb dL_law_878 ?_
  refine lv_cst (y := 4) (by decide) ?_
  refine va_sld hx hb hX hbl hbA hS (vp_in_iff.mpr (by decide)) dL_law_879 ?_
  refine lv_cst (y := xs 4) rfl ?_
  refine wq_calli (wr := [(x0, .inr (10, [.ref tp, .int 0, .ref rd, .ref nw, .ref sp, .ref im, .ref ir, .ref kp, .ref sl, .ref tk, .ref hn, .ref rc, .ref jn, .ref br, .ref sh])), (nw, .inr (3, [.int 0, .int 0, .ref nw_slopes, .ref nw_wets, .ref nw_limits, .ref nw_platforms, .ref nw_kinds, .ref nw_trains, .ref nw_coaches])), (nw_platforms, .inr (6, [.int 6, .int 2, .ref nw_platforms_c, .int 0])), (nw_kinds, .inr (6, [.int 4, .int 5, .ref nw_kinds_c, .int 0])), (nw_trains, .inr (6, [.int 5, .int 3, .ref nw_trains_c, .int 0])), (nw_coaches, .inr (6, [.int 16, .int 5, .ref nw_coaches_c, .int 0]))]) (va_runV (As := [.int (xs 1), .int (xs 2), .int (xs 3), .int (xs 4)]) (rest := [.int (-2)]) ⟨hx, hb, hml, hown, hw⟩ (c_X11_quick l G m0 m_width m_many m_cells m_moved m_tape m_lines m_length m_rain m_has m_slope m_wet m_limit m_platform m_kind m_train m_coach m_isKept m_sum m_comes m_isStood m_front m_has0 m_isOn m_letTick m_letYard m_letSpeed m_where m_pace m_stood m_isOff m_off m_wrong m_endTick (xs 1) (xs 2) (xs 3) (xs 4) H.size) (cwV 4 hw (gdV kw_544 kw_545 kw_546 kw_299 kw_543) rfl rfl rfl ⟨rfl, hdX11_quick⟩ ⟨(Nat.le_of_ble_eq_true rfl), (Nat.le_of_ble_eq_true rfl)⟩) (preQ_V (wc := [(m0, .inr (11, [.int 0, .ref m_width, .ref m_many, .ref m_cells, .ref m_moved, .ref m_tape, .int 0, .int 0, .int 0, .int 0, .int 0, .long 0, .int 0, .int 0, .int 0, .int (-1), .ref m_lines, .ref m_length, .ref m_rain, .ref m_has, .ref m_slope, .ref m_wet, .ref m_limit, .ref m_platform, .ref m_kind, .ref m_train, .ref m_coach, .ref m_isKept, .ref m_sum, .int 0, .int 15, .ref m_comes, .ref m_isStood, .int 0, .int 0, .int 0, .ref m_front, .ref m_has0, .ref m_isOn, .ref m_letTick, .ref m_letYard, .ref m_letSpeed, .ref m_where, .ref m_pace, .ref m_stood, .ref m_isOff, .ref m_off, .ref m_wrong, .int 0, .int 0, .int 0, .int 0, .ref m_endTick, .int 0, .int 0, .int 0, .int 0, .long 0])), (m_length, .inl (G.2 0, 5, .inl (fun _ => 0))), (m_has, .inl (G.2 0, 35, .inl (fun _ => 0)))]) (ci := 11) hKG hP hD [6, 7, 8] (by decide +kernel) rfl rfl rfl) rfl rfl hl.1 rfl (lv_room (Nat.le_of_ble_eq_true rfl)) dL_law_880 ⟨(Nat.le_of_ble_eq_true rfl), (Nat.le_of_ble_eq_true rfl)⟩) hS hP hD hA [6, 7, 8] [0, 1, 2, 3, 4, 5] rfl rfl (by decide +kernel) (by decide +kernel) (fun r2 u3 H locs hr2 hP hD hS => ?_)
  have hP : va_P G.1 vwCl [(x0, .inr (10, [.ref tp, .int 0, .ref rd, .ref nw, .ref sp, .ref im, .ref ir, .ref kp, .ref sl, .ref tk, .ref hn, .ref rc, .ref jn, .ref br, .ref sh])), (nw, .inr (3, [.int 0, .int 0, .ref nw_slopes, .ref nw_wets, .ref nw_limits, .ref nw_platforms, .ref nw_kinds, .ref nw_trains, .ref nw_coaches])), (nw_platforms, .inr (6, [.int 6, .int 2, .ref nw_platforms_c, .int 0])), (nw_kinds, .inr (6, [.int 4, .int 5, .ref nw_kinds_c, .int 0])), (nw_trains, .inr (6, [.int 5, .int 3, .ref nw_trains_c, .int 0])), (nw_coaches, .inr (6, [.int 16, .int 5, .ref nw_coaches_c, .int 0]))] H := hP
  have hD : va_D (fun q : Nat => s.heap.size ≤ q) [(x0, .inr (10, [.ref tp, .int 0, .ref rd, .ref nw, .ref sp, .ref im, .ref ir, .ref kp, .ref sl, .ref tk, .ref hn, .ref rc, .ref jn, .ref br, .ref sh])), (nw, .inr (3, [.int 0, .int 0, .ref nw_slopes, .ref nw_wets, .ref nw_limits, .ref nw_platforms, .ref nw_kinds, .ref nw_trains, .ref nw_coaches])), (nw_platforms, .inr (6, [.int 6, .int 2, .ref nw_platforms_c, .int 0])), (nw_kinds, .inr (6, [.int 4, .int 5, .ref nw_kinds_c, .int 0])), (nw_trains, .inr (6, [.int 5, .int 3, .ref nw_trains_c, .int 0])), (nw_coaches, .inr (6, [.int 16, .int 5, .ref nw_coaches_c, .int 0]))] := hD
  refine W.widen (k := 600000) (n := 7302250) (Nat.le_of_ble_eq_true rfl) (Nat.le_of_ble_eq_true rfl) ?_
  subst hr2
  refine lv_icmp_eq (tgt := 2094) hx hb dL_law_883 (by decide) (fun c4 => ?_) (fun c4 => absurd (by decide) c4)
  exact law_tail (x0 := x0) (m0 := m0) C0 hS (lv_sub hl [0, 1, 2, 3] rfl)
set_option maxHeartbeats 40000000 in
set_option maxRecDepth 100000 in
theorem law_16 {p : Program} {l : Launch} {e : Env} {s : State} {m : MethodId} {below : List Frame} {meth : Method} {c : Code} {b : Nat} {xs : Nat → Int32} (C0 : lw_At p s m meth c b 6 xs) (G : KG) (x0 : Nat) (tp : Nat) (rd : Nat) (nw : Nat) (sp : Nat) (im : Nat) (ir : Nat) (kp : Nat) (sl : Nat) (tk : Nat) (hn : Nat) (rc : Nat) (jn : Nat) (br : Nat) (sh : Nat) (nw_slopes : Nat) (nw_wets : Nat) (nw_limits : Nat) (nw_platforms : Nat) (nw_kinds : Nat) (nw_trains : Nat) (nw_coaches : Nat) (nw_platforms_c : Nat) (nw_kinds_c : Nat) (nw_trains_c : Nat) (nw_coaches_c : Nat) (m0 : Nat) (m_width : Nat) (m_many : Nat) (m_cells : Nat) (m_moved : Nat) (m_tape : Nat) (m_lines : Nat) (m_length : Nat) (m_rain : Nat) (m_has : Nat) (m_slope : Nat) (m_wet : Nat) (m_limit : Nat) (m_platform : Nat) (m_kind : Nat) (m_train : Nat) (m_coach : Nat) (m_isKept : Nat) (m_sum : Nat) (m_comes : Nat) (m_isStood : Nat) (m_front : Nat) (m_has0 : Nat) (m_isOn : Nat) (m_letTick : Nat) (m_letYard : Nat) (m_letSpeed : Nat) (m_where : Nat) (m_pace : Nat) (m_stood : Nat) (m_isOff : Nat) (m_off : Nat) (m_wrong : Nat) (m_endTick : Nat) (hKG : kG G s) {H : Heap} {locs : List Loc} (hP : va_P G.1 vwCl [(x0, .inr (10, [.ref tp, .int 0, .ref rd, .ref nw, .ref sp, .ref im, .ref ir, .ref kp, .ref sl, .ref tk, .ref hn, .ref rc, .ref jn, .ref br, .ref sh])), (nw, .inr (3, [.int 0, .int 0, .ref nw_slopes, .ref nw_wets, .ref nw_limits, .ref nw_platforms, .ref nw_kinds, .ref nw_trains, .ref nw_coaches])), (nw_platforms, .inr (6, [.int 6, .int 2, .ref nw_platforms_c, .int 0])), (nw_kinds, .inr (6, [.int 4, .int 5, .ref nw_kinds_c, .int 0])), (nw_trains, .inr (6, [.int 5, .int 3, .ref nw_trains_c, .int 0])), (nw_coaches, .inr (6, [.int 16, .int 5, .ref nw_coaches_c, .int 0])), (m0, .inr (11, [.int 0, .ref m_width, .ref m_many, .ref m_cells, .ref m_moved, .ref m_tape, .int 0, .int 0, .int 0, .int 0, .int 0, .long 0, .int 0, .int 0, .int 0, .int (-1), .ref m_lines, .ref m_length, .ref m_rain, .ref m_has, .ref m_slope, .ref m_wet, .ref m_limit, .ref m_platform, .ref m_kind, .ref m_train, .ref m_coach, .ref m_isKept, .ref m_sum, .int 0, .int 15, .ref m_comes, .ref m_isStood, .int 0, .int 0, .int 0, .ref m_front, .ref m_has0, .ref m_isOn, .ref m_letTick, .ref m_letYard, .ref m_letSpeed, .ref m_where, .ref m_pace, .ref m_stood, .ref m_isOff, .ref m_off, .ref m_wrong, .int 0, .int 0, .int 0, .int 0, .ref m_endTick, .int 0, .int 0, .int 0, .int 0, .long 0])), (m_length, .inl (G.2 0, 5, .inl (fun _ => 0))), (m_has, .inl (G.2 0, 35, .inl (fun _ => 0)))] H) (hD : va_D (fun q : Nat => s.heap.size ≤ q) [(x0, .inr (10, [.ref tp, .int 0, .ref rd, .ref nw, .ref sp, .ref im, .ref ir, .ref kp, .ref sl, .ref tk, .ref hn, .ref rc, .ref jn, .ref br, .ref sh])), (nw, .inr (3, [.int 0, .int 0, .ref nw_slopes, .ref nw_wets, .ref nw_limits, .ref nw_platforms, .ref nw_kinds, .ref nw_trains, .ref nw_coaches])), (nw_platforms, .inr (6, [.int 6, .int 2, .ref nw_platforms_c, .int 0])), (nw_kinds, .inr (6, [.int 4, .int 5, .ref nw_kinds_c, .int 0])), (nw_trains, .inr (6, [.int 5, .int 3, .ref nw_trains_c, .int 0])), (nw_coaches, .inr (6, [.int 16, .int 5, .ref nw_coaches_c, .int 0])), (m0, .inr (11, [.int 0, .ref m_width, .ref m_many, .ref m_cells, .ref m_moved, .ref m_tape, .int 0, .int 0, .int 0, .int 0, .int 0, .long 0, .int 0, .int 0, .int 0, .int (-1), .ref m_lines, .ref m_length, .ref m_rain, .ref m_has, .ref m_slope, .ref m_wet, .ref m_limit, .ref m_platform, .ref m_kind, .ref m_train, .ref m_coach, .ref m_isKept, .ref m_sum, .int 0, .int 15, .ref m_comes, .ref m_isStood, .int 0, .int 0, .int 0, .ref m_front, .ref m_has0, .ref m_isOn, .ref m_letTick, .ref m_letYard, .ref m_letSpeed, .ref m_where, .ref m_pace, .ref m_stood, .ref m_isOff, .ref m_off, .ref m_wrong, .int 0, .int 0, .int 0, .int 0, .ref m_endTick, .int 0, .int 0, .int 0, .int 0, .long 0])), (m_length, .inl (G.2 0, 5, .inl (fun _ => 0))), (m_has, .inl (G.2 0, 35, .inl (fun _ => 0)))]) (hS : va_S (fun q : Nat => s.heap.size ≤ q) s.heap H locs) {ls : Array Slot} (hl : lv_has ls 4 [(3, .int 0), (2, .ref m0), (1, .ref x0), (0, .ref b)]) : W p l e room_1 s m #[Value.ref b] below meth c H locs 600000 7302250 (lw_Z below #[Value.ref b] s) (F0 m 888 ls []) := by
  obtain ⟨hx, hb, hr, hml, hown, hts, hX, hbl, hlocks, hgv⟩ := id C0
  have hw : ∀ w ∈ wG, w.before #[Value.ref b] s = true := fun w h => hts w (List.mem_filter.mp h).1
  have hA : ∀ q : Nat, s.heap.size ≤ q → (fun q : Nat => s.heap.size ≤ q) q := fun _ h => h
  have hbA : ¬ (fun q : Nat => s.heap.size ≤ q) b := Nat.not_le.mpr hbl
  obtain ⟨hK, hAO⟩ := id hKG
  refine lv_aload_n hx hb dL_law_888 rfl (lv_at hl 2 rfl) ?_
  refine lv_aload_n hx hb dL_law_889 rfl (lv_at hl 3 rfl) ?_
  refine lv_iload_n hx hb dL_law_890 rfl (lv_at hl 0 rfl) ?_
  refine lv_iconst (v := 1) hx hb dL_law_891 (by decide) ?_
  refine lv_iadd hx hb dL_law_892 ?_
  refine lv_cst (y := 1) (by decide) ?_
  refine va_sld hx hb hX hbl hbA hS (vp_in_iff.mpr (by decide)) dL_law_893 ?_
  refine lv_cst (y := xs 1) rfl ?_
  refine lv_aload_n hx hb dL_law_894 rfl (lv_at hl 3 rfl) ?_
  refine lv_iload_n hx hb dL_law_895 rfl (lv_at hl 0 rfl) ?_
  refine lv_iconst (v := 2) hx hb dL_law_896 (by decide) ?_
  refine lv_iadd hx hb dL_law_897 ?_
  refine lv_cst (y := 2) (by decide) ?_
  refine va_sld hx hb hX hbl hbA hS (vp_in_iff.mpr (by decide)) dL_law_898 ?_
  refine lv_cst (y := xs 2) rfl ?_
  refine lv_aload_n hx hb dL_law_899 rfl (lv_at hl 3 rfl) ?_
  refine lv_iload_n hx hb dL_law_900 rfl (lv_at hl 0 rfl) ?_
  refine lv_iconst (v := 3) hx hb dL_law_901 (by decide) ?_
  refine lv_iadd hx hb dL_law_902 ?_
  refine lv_cst (y := 3) (by decide) ?_
  refine va_sld hx hb hX hbl hbA hS (vp_in_iff.mpr (by decide)) dL_law_903 ?_
  refine lv_cst (y := xs 3) rfl ?_
  refine lv_aload_n hx hb dL_law_904 rfl (lv_at hl 3 rfl) ?_
  refine lv_iload_n hx hb dL_law_905 rfl (lv_at hl 0 rfl) ?_
  refine lv_iconst (v := 4) hx hb dL_law_906 (by decide) ?_
  refine lv_iadd hx hb dL_law_907 ?_
  refine lv_cst (y := 4) (by decide) ?_
  refine va_sld hx hb hX hbl hbA hS (vp_in_iff.mpr (by decide)) dL_law_908 ?_
  refine lv_cst (y := xs 4) rfl ?_
  refine vp_callSi (va_Run.run (va_runV (As := [.int (xs 1), .int (xs 2), .int (xs 3), .int (xs 4)]) (rest := []) ⟨hx, hb, hml, hown, hw⟩ (c_X10_jolt l G x0 tp rd nw sp im ir kp sl tk hn rc jn br sh nw_slopes nw_wets nw_limits nw_platforms nw_kinds nw_trains nw_coaches nw_platforms_c nw_kinds_c nw_trains_c nw_coaches_c (xs 1) (xs 2) (xs 3) (xs 4)) (cwV 4 hw (gdV kw_548 kw_549 kw_550 kw_8 kw_547) rfl rfl rfl ⟨rfl, hdX10_jolt⟩ ⟨(Nat.le_of_ble_eq_true rfl), (Nat.le_of_ble_eq_true rfl)⟩) (preS_V (wc := [(x0, .inr (10, [.ref tp, .int 0, .ref rd, .ref nw, .ref sp, .ref im, .ref ir, .ref kp, .ref sl, .ref tk, .ref hn, .ref rc, .ref jn, .ref br, .ref sh])), (nw, .inr (3, [.int 0, .int 0, .ref nw_slopes, .ref nw_wets, .ref nw_limits, .ref nw_platforms, .ref nw_kinds, .ref nw_trains, .ref nw_coaches])), (nw_platforms, .inr (6, [.int 6, .int 2, .ref nw_platforms_c, .int 0])), (nw_kinds, .inr (6, [.int 4, .int 5, .ref nw_kinds_c, .int 0])), (nw_trains, .inr (6, [.int 5, .int 3, .ref nw_trains_c, .int 0])), (nw_coaches, .inr (6, [.int 16, .int 5, .ref nw_coaches_c, .int 0]))]) (ci := 10) hKG hP [0, 1, 2, 3, 4, 5] rfl rfl rfl) rfl rfl hl.1 rfl (lv_room (Nat.le_of_ble_eq_true rfl)) dL_law_909 ⟨(Nat.le_of_ble_eq_true rfl), (Nat.le_of_ble_eq_true rfl)⟩)) (fun r1 hr1 => ?_)
  subst hr1
  refine lv_aload_n hx hb dL_law_912 rfl (lv_at hl 1 rfl) ?_
  refine lv_aload_n hx hb dL_law_913 rfl (lv_at hl 3 rfl) ?_
  refine lv_iload_n hx hb dL_law_914 rfl (lv_at hl 0 rfl) ?_
  refine lv_iconst (v := 1) hx hb dL_law_915 (by decide) ?_
  refine lv_iadd hx hb dL_law_916 ?_
  refine lv_cst (y := 1) (by decide) ?_
  refine va_sld hx hb hX hbl hbA hS (vp_in_iff.mpr (by decide)) dL_law_917 ?_
  refine lv_cst (y := xs 1) rfl ?_
  refine lv_aload_n hx hb dL_law_918 rfl (lv_at hl 3 rfl) ?_
  refine lv_iload_n hx hb dL_law_919 rfl (lv_at hl 0 rfl) ?_
  refine lv_iconst (v := 2) hx hb dL_law_920 (by decide) ?_
  refine lv_iadd hx hb dL_law_921 ?_
  refine lv_cst (y := 2) (by decide) ?_
  refine va_sld hx hb hX hbl hbA hS (vp_in_iff.mpr (by decide)) dL_law_922 ?_
  refine lv_cst (y := xs 2) rfl ?_
  refine lv_aload_n hx hb dL_law_923 rfl (lv_at hl 3 rfl) ?_
  refine lv_iload_n hx hb dL_law_924 rfl (lv_at hl 0 rfl) ?_
  refine lv_iconst (v := 3) hx hb dL_law_925 (by decide) ?_
  refine lv_iadd hx hb dL_law_926 ?_
  refine lv_cst (y := 3) (by decide) ?_
  refine va_sld hx hb hX hbl hbA hS (vp_in_iff.mpr (by decide)) dL_law_927 ?_
  refine lv_cst (y := xs 3) rfl ?_
  refine lv_aload_n hx hb dL_law_928 rfl (lv_at hl 3 rfl) ?_
  refine lv_iload_n hx hb dL_law_929 rfl (lv_at hl 0 rfl) ?_
  refine lv_iconst (v := 4) hx hb dL_law_930 (by decide) ?_
  refine lv_iadd hx hb dL_law_931 ?_
  refine lv_cst (y := 4) (by decide) ?_
  refine va_sld hx hb hX hbl hbA hS (vp_in_iff.mpr (by decide)) dL_law_932 ?_
  refine lv_cst (y := xs 4) rfl ?_
  refine wq_calli (wr := [(x0, .inr (10, [.ref tp, .int 0, .ref rd, .ref nw, .ref sp, .ref im, .ref ir, .ref kp, .ref sl, .ref tk, .ref hn, .ref rc, .ref jn, .ref br, .ref sh])), (nw, .inr (3, [.int 0, .int 0, .ref nw_slopes, .ref nw_wets, .ref nw_limits, .ref nw_platforms, .ref nw_kinds, .ref nw_trains, .ref nw_coaches])), (nw_platforms, .inr (6, [.int 6, .int 2, .ref nw_platforms_c, .int 0])), (nw_kinds, .inr (6, [.int 4, .int 5, .ref nw_kinds_c, .int 0])), (nw_trains, .inr (6, [.int 5, .int 3, .ref nw_trains_c, .int 0])), (nw_coaches, .inr (6, [.int 16, .int 5, .ref nw_coaches_c, .int 0]))]) (va_runV (As := [.int (xs 1), .int (xs 2), .int (xs 3), .int (xs 4)]) (rest := [.int (-2)]) ⟨hx, hb, hml, hown, hw⟩ (c_X11_jolt l G m0 m_width m_many m_cells m_moved m_tape m_lines m_length m_rain m_has m_slope m_wet m_limit m_platform m_kind m_train m_coach m_isKept m_sum m_comes m_isStood m_front m_has0 m_isOn m_letTick m_letYard m_letSpeed m_where m_pace m_stood m_isOff m_off m_wrong m_endTick (xs 1) (xs 2) (xs 3) (xs 4) H.size) (cwV 4 hw (gdV kw_552 kw_553 kw_554 kw_299 kw_551) rfl rfl rfl ⟨rfl, hdX11_jolt⟩ ⟨(Nat.le_of_ble_eq_true rfl), (Nat.le_of_ble_eq_true rfl)⟩) (preQ_V (wc := [(m0, .inr (11, [.int 0, .ref m_width, .ref m_many, .ref m_cells, .ref m_moved, .ref m_tape, .int 0, .int 0, .int 0, .int 0, .int 0, .long 0, .int 0, .int 0, .int 0, .int (-1), .ref m_lines, .ref m_length, .ref m_rain, .ref m_has, .ref m_slope, .ref m_wet, .ref m_limit, .ref m_platform, .ref m_kind, .ref m_train, .ref m_coach, .ref m_isKept, .ref m_sum, .int 0, .int 15, .ref m_comes, .ref m_isStood, .int 0, .int 0, .int 0, .ref m_front, .ref m_has0, .ref m_isOn, .ref m_letTick, .ref m_letYard, .ref m_letSpeed, .ref m_where, .ref m_pace, .ref m_stood, .ref m_isOff, .ref m_off, .ref m_wrong, .int 0, .int 0, .int 0, .int 0, .ref m_endTick, .int 0, .int 0, .int 0, .int 0, .long 0])), (m_length, .inl (G.2 0, 5, .inl (fun _ => 0))), (m_has, .inl (G.2 0, 35, .inl (fun _ => 0)))]) (ci := 11) hKG hP hD [6, 7, 8] (by decide +kernel) rfl rfl rfl) rfl rfl hl.1 rfl (lv_room (Nat.le_of_ble_eq_true rfl)) dL_law_933 ⟨(Nat.le_of_ble_eq_true rfl), (Nat.le_of_ble_eq_true rfl)⟩) hS hP hD hA [6, 7, 8] [0, 1, 2, 3, 4, 5] rfl rfl (by decide +kernel) (by decide +kernel) (fun r2 u3 H locs hr2 hP hD hS => ?_)
  have hP : va_P G.1 vwCl [(x0, .inr (10, [.ref tp, .int 0, .ref rd, .ref nw, .ref sp, .ref im, .ref ir, .ref kp, .ref sl, .ref tk, .ref hn, .ref rc, .ref jn, .ref br, .ref sh])), (nw, .inr (3, [.int 0, .int 0, .ref nw_slopes, .ref nw_wets, .ref nw_limits, .ref nw_platforms, .ref nw_kinds, .ref nw_trains, .ref nw_coaches])), (nw_platforms, .inr (6, [.int 6, .int 2, .ref nw_platforms_c, .int 0])), (nw_kinds, .inr (6, [.int 4, .int 5, .ref nw_kinds_c, .int 0])), (nw_trains, .inr (6, [.int 5, .int 3, .ref nw_trains_c, .int 0])), (nw_coaches, .inr (6, [.int 16, .int 5, .ref nw_coaches_c, .int 0]))] H := hP
  have hD : va_D (fun q : Nat => s.heap.size ≤ q) [(x0, .inr (10, [.ref tp, .int 0, .ref rd, .ref nw, .ref sp, .ref im, .ref ir, .ref kp, .ref sl, .ref tk, .ref hn, .ref rc, .ref jn, .ref br, .ref sh])), (nw, .inr (3, [.int 0, .int 0, .ref nw_slopes, .ref nw_wets, .ref nw_limits, .ref nw_platforms, .ref nw_kinds, .ref nw_trains, .ref nw_coaches])), (nw_platforms, .inr (6, [.int 6, .int 2, .ref nw_platforms_c, .int 0])), (nw_kinds, .inr (6, [.int 4, .int 5, .ref nw_kinds_c, .int 0])), (nw_trains, .inr (6, [.int 5, .int 3, .ref nw_trains_c, .int 0])), (nw_coaches, .inr (6, [.int 16, .int 5, .ref nw_coaches_c, .int 0]))] := hD
  refine W.widen (k := 600000) (n := 7302250) (Nat.le_of_ble_eq_true rfl) (Nat.le_of_ble_eq_true rfl) ?_
  subst hr2
  refine lv_icmp_eq (tgt := 2094) hx hb dL_law_936 (by decide) (fun c4 => ?_) (fun c4 => absurd (by decide) c4)
  exact law_tail (x0 := x0) (m0 := m0) C0 hS (lv_sub hl [0, 1, 2, 3] rfl)
set_option maxHeartbeats 40000000 in
set_option maxRecDepth 100000 in
theorem law_17 {p : Program} {l : Launch} {e : Env} {s : State} {m : MethodId} {below : List Frame} {meth : Method} {c : Code} {b : Nat} {xs : Nat → Int32} (C0 : lw_At p s m meth c b 6 xs) (G : KG) (x0 : Nat) (tp : Nat) (rd : Nat) (nw : Nat) (sp : Nat) (im : Nat) (ir : Nat) (kp : Nat) (sl : Nat) (tk : Nat) (hn : Nat) (rc : Nat) (jn : Nat) (br : Nat) (sh : Nat) (nw_slopes : Nat) (nw_wets : Nat) (nw_limits : Nat) (nw_platforms : Nat) (nw_kinds : Nat) (nw_trains : Nat) (nw_coaches : Nat) (nw_platforms_c : Nat) (nw_kinds_c : Nat) (nw_trains_c : Nat) (nw_coaches_c : Nat) (m0 : Nat) (m_width : Nat) (m_many : Nat) (m_cells : Nat) (m_moved : Nat) (m_tape : Nat) (m_lines : Nat) (m_length : Nat) (m_rain : Nat) (m_has : Nat) (m_slope : Nat) (m_wet : Nat) (m_limit : Nat) (m_platform : Nat) (m_kind : Nat) (m_train : Nat) (m_coach : Nat) (m_isKept : Nat) (m_sum : Nat) (m_comes : Nat) (m_isStood : Nat) (m_front : Nat) (m_has0 : Nat) (m_isOn : Nat) (m_letTick : Nat) (m_letYard : Nat) (m_letSpeed : Nat) (m_where : Nat) (m_pace : Nat) (m_stood : Nat) (m_isOff : Nat) (m_off : Nat) (m_wrong : Nat) (m_endTick : Nat) (hKG : kG G s) {H : Heap} {locs : List Loc} (hP : va_P G.1 vwCl [(x0, .inr (10, [.ref tp, .int 0, .ref rd, .ref nw, .ref sp, .ref im, .ref ir, .ref kp, .ref sl, .ref tk, .ref hn, .ref rc, .ref jn, .ref br, .ref sh])), (nw, .inr (3, [.int 0, .int 0, .ref nw_slopes, .ref nw_wets, .ref nw_limits, .ref nw_platforms, .ref nw_kinds, .ref nw_trains, .ref nw_coaches])), (nw_platforms, .inr (6, [.int 6, .int 2, .ref nw_platforms_c, .int 0])), (nw_kinds, .inr (6, [.int 4, .int 5, .ref nw_kinds_c, .int 0])), (nw_trains, .inr (6, [.int 5, .int 3, .ref nw_trains_c, .int 0])), (nw_coaches, .inr (6, [.int 16, .int 5, .ref nw_coaches_c, .int 0])), (m0, .inr (11, [.int 0, .ref m_width, .ref m_many, .ref m_cells, .ref m_moved, .ref m_tape, .int 0, .int 0, .int 0, .int 0, .int 0, .long 0, .int 0, .int 0, .int 0, .int (-1), .ref m_lines, .ref m_length, .ref m_rain, .ref m_has, .ref m_slope, .ref m_wet, .ref m_limit, .ref m_platform, .ref m_kind, .ref m_train, .ref m_coach, .ref m_isKept, .ref m_sum, .int 0, .int 15, .ref m_comes, .ref m_isStood, .int 0, .int 0, .int 0, .ref m_front, .ref m_has0, .ref m_isOn, .ref m_letTick, .ref m_letYard, .ref m_letSpeed, .ref m_where, .ref m_pace, .ref m_stood, .ref m_isOff, .ref m_off, .ref m_wrong, .int 0, .int 0, .int 0, .int 0, .ref m_endTick, .int 0, .int 0, .int 0, .int 0, .long 0])), (m_length, .inl (G.2 0, 5, .inl (fun _ => 0))), (m_has, .inl (G.2 0, 35, .inl (fun _ => 0)))] H) (hD : va_D (fun q : Nat => s.heap.size ≤ q) [(x0, .inr (10, [.ref tp, .int 0, .ref rd, .ref nw, .ref sp, .ref im, .ref ir, .ref kp, .ref sl, .ref tk, .ref hn, .ref rc, .ref jn, .ref br, .ref sh])), (nw, .inr (3, [.int 0, .int 0, .ref nw_slopes, .ref nw_wets, .ref nw_limits, .ref nw_platforms, .ref nw_kinds, .ref nw_trains, .ref nw_coaches])), (nw_platforms, .inr (6, [.int 6, .int 2, .ref nw_platforms_c, .int 0])), (nw_kinds, .inr (6, [.int 4, .int 5, .ref nw_kinds_c, .int 0])), (nw_trains, .inr (6, [.int 5, .int 3, .ref nw_trains_c, .int 0])), (nw_coaches, .inr (6, [.int 16, .int 5, .ref nw_coaches_c, .int 0])), (m0, .inr (11, [.int 0, .ref m_width, .ref m_many, .ref m_cells, .ref m_moved, .ref m_tape, .int 0, .int 0, .int 0, .int 0, .int 0, .long 0, .int 0, .int 0, .int 0, .int (-1), .ref m_lines, .ref m_length, .ref m_rain, .ref m_has, .ref m_slope, .ref m_wet, .ref m_limit, .ref m_platform, .ref m_kind, .ref m_train, .ref m_coach, .ref m_isKept, .ref m_sum, .int 0, .int 15, .ref m_comes, .ref m_isStood, .int 0, .int 0, .int 0, .ref m_front, .ref m_has0, .ref m_isOn, .ref m_letTick, .ref m_letYard, .ref m_letSpeed, .ref m_where, .ref m_pace, .ref m_stood, .ref m_isOff, .ref m_off, .ref m_wrong, .int 0, .int 0, .int 0, .int 0, .ref m_endTick, .int 0, .int 0, .int 0, .int 0, .long 0])), (m_length, .inl (G.2 0, 5, .inl (fun _ => 0))), (m_has, .inl (G.2 0, 35, .inl (fun _ => 0)))]) (hS : va_S (fun q : Nat => s.heap.size ≤ q) s.heap H locs) {ls : Array Slot} (hl : lv_has ls 4 [(3, .int 0), (2, .ref m0), (1, .ref x0), (0, .ref b)]) : W p l e room_1 s m #[Value.ref b] below meth c H locs 600000 7302250 (lw_Z below #[Value.ref b] s) (F0 m 941 ls []) := by
  obtain ⟨hx, hb, hr, hml, hown, hts, hX, hbl, hlocks, hgv⟩ := id C0
  have hw : ∀ w ∈ wG, w.before #[Value.ref b] s = true := fun w h => hts w (List.mem_filter.mp h).1
  have hA : ∀ q : Nat, s.heap.size ≤ q → (fun q : Nat => s.heap.size ≤ q) q := fun _ h => h
  have hbA : ¬ (fun q : Nat => s.heap.size ≤ q) b := Nat.not_le.mpr hbl
  obtain ⟨hK, hAO⟩ := id hKG
  refine lv_aload_n hx hb dL_law_941 rfl (lv_at hl 2 rfl) ?_
  refine lv_aload_n hx hb dL_law_942 rfl (lv_at hl 3 rfl) ?_
  refine lv_iload_n hx hb dL_law_943 rfl (lv_at hl 0 rfl) ?_
  refine lv_iconst (v := 1) hx hb dL_law_944 (by decide) ?_
  refine lv_iadd hx hb dL_law_945 ?_
  refine lv_cst (y := 1) (by decide) ?_
  refine va_sld hx hb hX hbl hbA hS (vp_in_iff.mpr (by decide)) dL_law_946 ?_
  refine lv_cst (y := xs 1) rfl ?_
  refine lv_aload_n hx hb dL_law_947 rfl (lv_at hl 3 rfl) ?_
  refine lv_iload_n hx hb dL_law_948 rfl (lv_at hl 0 rfl) ?_
  refine lv_iconst (v := 2) hx hb dL_law_949 (by decide) ?_
  refine lv_iadd hx hb dL_law_950 ?_
  refine lv_cst (y := 2) (by decide) ?_
  refine va_sld hx hb hX hbl hbA hS (vp_in_iff.mpr (by decide)) dL_law_951 ?_
  refine lv_cst (y := xs 2) rfl ?_
  refine lv_aload_n hx hb dL_law_952 rfl (lv_at hl 3 rfl) ?_
  refine lv_iload_n hx hb dL_law_953 rfl (lv_at hl 0 rfl) ?_
  refine lv_iconst (v := 3) hx hb dL_law_954 (by decide) ?_
  refine lv_iadd hx hb dL_law_955 ?_
  refine lv_cst (y := 3) (by decide) ?_
  refine va_sld hx hb hX hbl hbA hS (vp_in_iff.mpr (by decide)) dL_law_956 ?_
  refine lv_cst (y := xs 3) rfl ?_
  refine lv_aload_n hx hb dL_law_957 rfl (lv_at hl 3 rfl) ?_
  refine lv_iload_n hx hb dL_law_958 rfl (lv_at hl 0 rfl) ?_
  refine lv_iconst (v := 4) hx hb dL_law_959 (by decide) ?_
  refine lv_iadd hx hb dL_law_960 ?_
  refine lv_cst (y := 4) (by decide) ?_
  refine va_sld hx hb hX hbl hbA hS (vp_in_iff.mpr (by decide)) dL_law_961 ?_
  refine lv_cst (y := xs 4) rfl ?_
  refine vp_callSi (va_Run.run (va_runV (As := [.int (xs 1), .int (xs 2), .int (xs 3), .int (xs 4)]) (rest := []) ⟨hx, hb, hml, hown, hw⟩ (c_X10_stands l G x0 tp rd nw sp im ir kp sl tk hn rc jn br sh nw_slopes nw_wets nw_limits nw_platforms nw_kinds nw_trains nw_coaches nw_platforms_c nw_kinds_c nw_trains_c nw_coaches_c (xs 1) (xs 2) (xs 3) (xs 4)) (cwV 4 hw (gdV kw_556 kw_557 kw_558 kw_8 kw_555) rfl rfl rfl ⟨rfl, hdX10_stands⟩ ⟨(Nat.le_of_ble_eq_true rfl), (Nat.le_of_ble_eq_true rfl)⟩) (preS_V (wc := [(x0, .inr (10, [.ref tp, .int 0, .ref rd, .ref nw, .ref sp, .ref im, .ref ir, .ref kp, .ref sl, .ref tk, .ref hn, .ref rc, .ref jn, .ref br, .ref sh])), (nw, .inr (3, [.int 0, .int 0, .ref nw_slopes, .ref nw_wets, .ref nw_limits, .ref nw_platforms, .ref nw_kinds, .ref nw_trains, .ref nw_coaches])), (nw_platforms, .inr (6, [.int 6, .int 2, .ref nw_platforms_c, .int 0])), (nw_kinds, .inr (6, [.int 4, .int 5, .ref nw_kinds_c, .int 0])), (nw_trains, .inr (6, [.int 5, .int 3, .ref nw_trains_c, .int 0])), (nw_coaches, .inr (6, [.int 16, .int 5, .ref nw_coaches_c, .int 0]))]) (ci := 10) hKG hP [0, 1, 2, 3, 4, 5] rfl rfl rfl) rfl rfl hl.1 rfl (lv_room (Nat.le_of_ble_eq_true rfl)) dL_law_962 ⟨(Nat.le_of_ble_eq_true rfl), (Nat.le_of_ble_eq_true rfl)⟩)) (fun r1 hr1 => ?_)
  subst hr1
  refine lv_aload_n hx hb dL_law_965 rfl (lv_at hl 1 rfl) ?_
  refine lv_aload_n hx hb dL_law_966 rfl (lv_at hl 3 rfl) ?_
  refine lv_iload_n hx hb dL_law_967 rfl (lv_at hl 0 rfl) ?_
  refine lv_iconst (v := 1) hx hb dL_law_968 (by decide) ?_
  refine lv_iadd hx hb dL_law_969 ?_
  refine lv_cst (y := 1) (by decide) ?_
  refine va_sld hx hb hX hbl hbA hS (vp_in_iff.mpr (by decide)) dL_law_970 ?_
  refine lv_cst (y := xs 1) rfl ?_
  refine lv_aload_n hx hb dL_law_971 rfl (lv_at hl 3 rfl) ?_
  refine lv_iload_n hx hb dL_law_972 rfl (lv_at hl 0 rfl) ?_
  refine lv_iconst (v := 2) hx hb dL_law_973 (by decide) ?_
  refine lv_iadd hx hb dL_law_974 ?_
  refine lv_cst (y := 2) (by decide) ?_
  refine va_sld hx hb hX hbl hbA hS (vp_in_iff.mpr (by decide)) dL_law_975 ?_
  refine lv_cst (y := xs 2) rfl ?_
  refine lv_aload_n hx hb dL_law_976 rfl (lv_at hl 3 rfl) ?_
  refine lv_iload_n hx hb dL_law_977 rfl (lv_at hl 0 rfl) ?_
  refine lv_iconst (v := 3) hx hb dL_law_978 (by decide) ?_
  refine lv_iadd hx hb dL_law_979 ?_
  refine lv_cst (y := 3) (by decide) ?_
  refine va_sld hx hb hX hbl hbA hS (vp_in_iff.mpr (by decide)) dL_law_980 ?_
  refine lv_cst (y := xs 3) rfl ?_
  refine lv_aload_n hx hb dL_law_981 rfl (lv_at hl 3 rfl) ?_
  refine lv_iload_n hx hb dL_law_982 rfl (lv_at hl 0 rfl) ?_
  refine lv_iconst (v := 4) hx hb dL_law_983 (by decide) ?_
  refine lv_iadd hx hb dL_law_984 ?_
  refine lv_cst (y := 4) (by decide) ?_
  refine va_sld hx hb hX hbl hbA hS (vp_in_iff.mpr (by decide)) dL_law_985 ?_
  refine lv_cst (y := xs 4) rfl ?_
  refine wq_calli (wr := [(x0, .inr (10, [.ref tp, .int 0, .ref rd, .ref nw, .ref sp, .ref im, .ref ir, .ref kp, .ref sl, .ref tk, .ref hn, .ref rc, .ref jn, .ref br, .ref sh])), (nw, .inr (3, [.int 0, .int 0, .ref nw_slopes, .ref nw_wets, .ref nw_limits, .ref nw_platforms, .ref nw_kinds, .ref nw_trains, .ref nw_coaches])), (nw_platforms, .inr (6, [.int 6, .int 2, .ref nw_platforms_c, .int 0])), (nw_kinds, .inr (6, [.int 4, .int 5, .ref nw_kinds_c, .int 0])), (nw_trains, .inr (6, [.int 5, .int 3, .ref nw_trains_c, .int 0])), (nw_coaches, .inr (6, [.int 16, .int 5, .ref nw_coaches_c, .int 0]))]) (va_runV (As := [.int (xs 1), .int (xs 2), .int (xs 3), .int (xs 4)]) (rest := [.int (-2)]) ⟨hx, hb, hml, hown, hw⟩ (c_X11_stands l G m0 m_width m_many m_cells m_moved m_tape m_lines m_length m_rain m_has m_slope m_wet m_limit m_platform m_kind m_train m_coach m_isKept m_sum m_comes m_isStood m_front m_has0 m_isOn m_letTick m_letYard m_letSpeed m_where m_pace m_stood m_isOff m_off m_wrong m_endTick (xs 1) (xs 2) (xs 3) (xs 4) H.size) (cwV 4 hw (gdV kw_560 kw_561 kw_562 kw_299 kw_559) rfl rfl rfl ⟨rfl, hdX11_stands⟩ ⟨(Nat.le_of_ble_eq_true rfl), (Nat.le_of_ble_eq_true rfl)⟩) (preQ_V (wc := [(m0, .inr (11, [.int 0, .ref m_width, .ref m_many, .ref m_cells, .ref m_moved, .ref m_tape, .int 0, .int 0, .int 0, .int 0, .int 0, .long 0, .int 0, .int 0, .int 0, .int (-1), .ref m_lines, .ref m_length, .ref m_rain, .ref m_has, .ref m_slope, .ref m_wet, .ref m_limit, .ref m_platform, .ref m_kind, .ref m_train, .ref m_coach, .ref m_isKept, .ref m_sum, .int 0, .int 15, .ref m_comes, .ref m_isStood, .int 0, .int 0, .int 0, .ref m_front, .ref m_has0, .ref m_isOn, .ref m_letTick, .ref m_letYard, .ref m_letSpeed, .ref m_where, .ref m_pace, .ref m_stood, .ref m_isOff, .ref m_off, .ref m_wrong, .int 0, .int 0, .int 0, .int 0, .ref m_endTick, .int 0, .int 0, .int 0, .int 0, .long 0])), (m_length, .inl (G.2 0, 5, .inl (fun _ => 0))), (m_has, .inl (G.2 0, 35, .inl (fun _ => 0)))]) (ci := 11) hKG hP hD [6, 7, 8] (by decide +kernel) rfl rfl rfl) rfl rfl hl.1 rfl (lv_room (Nat.le_of_ble_eq_true rfl)) dL_law_986 ⟨(Nat.le_of_ble_eq_true rfl), (Nat.le_of_ble_eq_true rfl)⟩) hS hP hD hA [6, 7, 8] [0, 1, 2, 3, 4, 5] rfl rfl (by decide +kernel) (by decide +kernel) (fun r2 u3 H locs hr2 hP hD hS => ?_)
  have hP : va_P G.1 vwCl [(x0, .inr (10, [.ref tp, .int 0, .ref rd, .ref nw, .ref sp, .ref im, .ref ir, .ref kp, .ref sl, .ref tk, .ref hn, .ref rc, .ref jn, .ref br, .ref sh])), (nw, .inr (3, [.int 0, .int 0, .ref nw_slopes, .ref nw_wets, .ref nw_limits, .ref nw_platforms, .ref nw_kinds, .ref nw_trains, .ref nw_coaches])), (nw_platforms, .inr (6, [.int 6, .int 2, .ref nw_platforms_c, .int 0])), (nw_kinds, .inr (6, [.int 4, .int 5, .ref nw_kinds_c, .int 0])), (nw_trains, .inr (6, [.int 5, .int 3, .ref nw_trains_c, .int 0])), (nw_coaches, .inr (6, [.int 16, .int 5, .ref nw_coaches_c, .int 0]))] H := hP
  have hD : va_D (fun q : Nat => s.heap.size ≤ q) [(x0, .inr (10, [.ref tp, .int 0, .ref rd, .ref nw, .ref sp, .ref im, .ref ir, .ref kp, .ref sl, .ref tk, .ref hn, .ref rc, .ref jn, .ref br, .ref sh])), (nw, .inr (3, [.int 0, .int 0, .ref nw_slopes, .ref nw_wets, .ref nw_limits, .ref nw_platforms, .ref nw_kinds, .ref nw_trains, .ref nw_coaches])), (nw_platforms, .inr (6, [.int 6, .int 2, .ref nw_platforms_c, .int 0])), (nw_kinds, .inr (6, [.int 4, .int 5, .ref nw_kinds_c, .int 0])), (nw_trains, .inr (6, [.int 5, .int 3, .ref nw_trains_c, .int 0])), (nw_coaches, .inr (6, [.int 16, .int 5, .ref nw_coaches_c, .int 0]))] := hD
  refine W.widen (k := 600000) (n := 7302250) (Nat.le_of_ble_eq_true rfl) (Nat.le_of_ble_eq_true rfl) ?_
  subst hr2
  refine lv_icmp_eq (tgt := 2094) hx hb dL_law_989 (by decide) (fun c4 => ?_) (fun c4 => absurd (by decide) c4)
  exact law_tail (x0 := x0) (m0 := m0) C0 hS (lv_sub hl [0, 1, 2, 3] rfl)
