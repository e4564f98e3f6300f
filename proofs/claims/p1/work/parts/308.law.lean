set_option maxHeartbeats 40000000 in
set_option maxRecDepth 100000 in
theorem law_46 {p : Program} {l : Launch} {e : Env} {s : State} {m : MethodId} {below : List Frame} {meth : Method} {c : Code} {b : Nat} {xs : Nat → Int32} (C0 : lw_At p s m meth c b 6 xs) (G : KG) (x0 : Nat) (tp : Nat) (rd : Nat) (nw : Nat) (sp : Nat) (im : Nat) (ir : Nat) (kp : Nat) (sl : Nat) (tk : Nat) (hn : Nat) (rc : Nat) (jn : Nat) (br : Nat) (sh : Nat) (s0 : Nat) (s1 : Nat) (s2 : Nat) (s3 : Nat) (n0 : Nat) (n1 : Nat) (n2 : Nat) (n3 : Nat) (m0 : Nat) (m_width : Nat) (m_many : Nat) (m_cells : Nat) (m_moved : Nat) (m_tape : Nat) (m_lines : Nat) (m_length : Nat) (m_rain : Nat) (m_has : Nat) (m_slope : Nat) (m_wet : Nat) (m_limit : Nat) (m_platform : Nat) (m_kind : Nat) (m_train : Nat) (m_coach : Nat) (m_isKept : Nat) (m_sum : Nat) (m_comes : Nat) (m_isStood : Nat) (m_front : Nat) (m_has0 : Nat) (m_isOn : Nat) (m_letTick : Nat) (m_letYard : Nat) (m_letSpeed : Nat) (m_where : Nat) (m_pace : Nat) (m_stood : Nat) (m_isOff : Nat) (m_off : Nat) (m_wrong : Nat) (m_endTick : Nat) (hKG : kG G s) {H : Heap} {locs : List Loc} (hP : va_P G.1 vwCl [(x0, .inr (10, [.ref tp, .int 0, .ref rd, .ref nw, .ref sp, .ref im, .ref ir, .ref kp, .ref sl, .ref tk, .ref hn, .ref rc, .ref jn, .ref br, .ref sh])), (sl, .inl (G.2 5, 4, .inr (.inr (.inr (.inr (va_up (va_up (va_up (va_up (fun _ => none) 0 (some s0)) 1 (some s1)) 2 (some s2)) 3 (some s3))))))), (s0, .inr (8, [.ref n0, .int (-1), .int 0])), (s1, .inr (8, [.ref n1, .int (-1), .int 0])), (s2, .inr (8, [.ref n2, .int (-1), .int 0])), (s3, .inr (8, [.ref n3, .int (-1), .int 0])), (m0, .inr (11, [.int 0, .ref m_width, .ref m_many, .ref m_cells, .ref m_moved, .ref m_tape, .int 0, .int 0, .int 0, .int 0, .int 0, .long 0, .int 0, .int 0, .int 0, .int (-1), .ref m_lines, .ref m_length, .ref m_rain, .ref m_has, .ref m_slope, .ref m_wet, .ref m_limit, .ref m_platform, .ref m_kind, .ref m_train, .ref m_coach, .ref m_isKept, .ref m_sum, .int 0, .int 15, .ref m_comes, .ref m_isStood, .int 0, .int 0, .int 0, .ref m_front, .ref m_has0, .ref m_isOn, .ref m_letTick, .ref m_letYard, .ref m_letSpeed, .ref m_where, .ref m_pace, .ref m_stood, .ref m_isOff, .ref m_off, .ref m_wrong, .int 0, .int 0, .int 0, .int 0, .ref m_endTick, .int 0, .int 0, .int 0, .int 0, .long 0])), (m_width, .inl (G.2 0, 4, .inl wd4))] H) (hD : va_D (fun q : Nat => s.heap.size ≤ q) [(x0, .inr (10, [.ref tp, .int 0, .ref rd, .ref nw, .ref sp, .ref im, .ref ir, .ref kp, .ref sl, .ref tk, .ref hn, .ref rc, .ref jn, .ref br, .ref sh])), (sl, .inl (G.2 5, 4, .inr (.inr (.inr (.inr (va_up (va_up (va_up (va_up (fun _ => none) 0 (some s0)) 1 (some s1)) 2 (some s2)) 3 (some s3))))))), (s0, .inr (8, [.ref n0, .int (-1), .int 0])), (s1, .inr (8, [.ref n1, .int (-1), .int 0])), (s2, .inr (8, [.ref n2, .int (-1), .int 0])), (s3, .inr (8, [.ref n3, .int (-1), .int 0])), (m0, .inr (11, [.int 0, .ref m_width, .ref m_many, .ref m_cells, .ref m_moved, .ref m_tape, .int 0, .int 0, .int 0, .int 0, .int 0, .long 0, .int 0, .int 0, .int 0, .int (-1), .ref m_lines, .ref m_length, .ref m_rain, .ref m_has, .ref m_slope, .ref m_wet, .ref m_limit, .ref m_platform, .ref m_kind, .ref m_train, .ref m_coach, .ref m_isKept, .ref m_sum, .int 0, .int 15, .ref m_comes, .ref m_isStood, .int 0, .int 0, .int 0, .ref m_front, .ref m_has0, .ref m_isOn, .ref m_letTick, .ref m_letYard, .ref m_letSpeed, .ref m_where, .ref m_pace, .ref m_stood, .ref m_isOff, .ref m_off, .ref m_wrong, .int 0, .int 0, .int 0, .int 0, .ref m_endTick, .int 0, .int 0, .int 0, .int 0, .long 0])), (m_width, .inl (G.2 0, 4, .inl wd4))]) (hS : va_S (fun q : Nat => s.heap.size ≤ q) s.heap H locs) {ls : Array Slot} (hl : lv_has ls 4 [(3, .int 0), (2, .ref m0), (1, .ref x0), (0, .ref b)]) : W p l e room_1 s m #[Value.ref b] below meth c H locs 600000 7302250 (lw_Z below #[Value.ref b] s) (F0 m 1958 ls []) := by
  obtain ⟨hx, hb, hr, hml, hown, hts, hX, hbl, hlocks, hgv⟩ := id C0
  have hw : ∀ w ∈ wG, w.before #[Value.ref b] s = true := fun w h => hts w (List.mem_filter.mp h).1
  have hA : ∀ q : Nat, s.heap.size ≤ q → (fun q : Nat => s.heap.size ≤ q) q := fun _ h => h
  have hbA : ¬ (fun q : Nat => s.heap.size ≤ q) b := Nat.not_le.mpr hbl
  obtain ⟨hK, hAO⟩ := id hKG
  refine lv_aload_n hx hb dL_law_1958 rfl (lv_at hl 2 rfl) ?_
  refine lv_aload_n hx hb dL_law_1959 rfl (lv_at hl 3 rfl) ?_
  refine lv_iload_n hx hb dL_law_1960 rfl (lv_at hl 0 rfl) ?_
  refine lv_iconst (v := 1) hx hb dL_law_1961 (by decide) ?_
  refine lv_iadd hx hb dL_law_1962 ?_
  refine lv_cst (y := 1) (by decide) ?_
  refine va_sld hx hb hX hbl hbA hS (vp_in_iff.mpr (by decide)) dL_law_1963 ?_
  refine lv_cst (y := xs 1) rfl ?_
  refine lv_aload_n hx hb dL_law_1964 rfl (lv_at hl 3 rfl) ?_
  refine lv_iload_n hx hb dL_law_1965 rfl (lv_at hl 0 rfl) ?_
  refine lv_iconst (v := 2) hx hb dL_law_1966 (by decide) ?_
  refine lv_iadd hx hb dL_law_1967 ?_
  refine lv_cst (y := 2) (by decide) ?_
  refine va_sld hx hb hX hbl hbA hS (vp_in_iff.mpr (by decide)) dL_law_1968 ?_
  refine lv_cst (y := xs 2) rfl ?_
  refine lv_aload_n hx hb dL_law_1969 rfl (lv_at hl 3 rfl) ?_
  refine lv_iload_n hx hb dL_law_1970 rfl (lv_at hl 0 rfl) ?_
  refine lv_iconst (v := 3) hx hb dL_law_1971 (by decide) ?_
  refine lv_iadd hx hb dL_law_1972 ?_
  refine lv_cst (y := 3) (by decide) ?_
  refine va_sld hx hb hX hbl hbA hS (vp_in_iff.mpr (by decide)) dL_law_1973 ?_
  refine lv_cst (y := xs 3) rfl ?_
  refine lv_i2l hx hb dL_law_1974 rfl ?_
  refine lv_bipush (v := 32) hx hb dL_law_1975 (by decide) ?_
  refine lv_lshl hx hb dL_law_1977 rfl ?_
  refine lv_topl (fun v1 ev1 => ?_)
  refine lv_aload_n hx hb dL_law_1978 rfl (lv_at hl 3 rfl) ?_
  refine lv_iload_n hx hb dL_law_1979 rfl (lv_at hl 0 rfl) ?_
  refine lv_iconst (v := 4) hx hb dL_law_1980 (by decide) ?_
  refine lv_iadd hx hb dL_law_1981 ?_
  refine lv_cst (y := 4) (by decide) ?_
  refine va_sld hx hb hX hbl hbA hS (vp_in_iff.mpr (by decide)) dL_law_1982 ?_
  refine lv_cst (y := xs 4) rfl ?_
  refine lv_i2l hx hb dL_law_1983 rfl ?_
  refine lv_ldc2 (v := 4294967295) hx hb hown (hw _ kw_787) dL_law_1984 ?_
  refine lv_land hx hb dL_law_1987 ?_
  refine lv_topl (fun v2 ev2 => ?_)
  refine lv_lor hx hb dL_law_1988 ?_
  refine lv_topl (fun v3 ev3 => ?_)
  refine vp_callSi (va_Run.run (va_runV (As := [.int (xs 1), .int (xs 2), .long v3]) (rest := []) ⟨hx, hb, hml, hown, hw⟩ (c_X10_write l G x0 tp rd nw sp im ir kp sl tk hn rc jn br sh s0 s1 s2 s3 n0 n1 n2 n3 (xs 1) (xs 2) v3) (cwV 3 hw (gdV kw_789 kw_790 kw_791 kw_8 kw_788) rfl rfl rfl ⟨rfl, hdX10_write⟩ ⟨(Nat.le_of_ble_eq_true rfl), (Nat.le_of_ble_eq_true rfl)⟩) (preS_V (wc := [(x0, .inr (10, [.ref tp, .int 0, .ref rd, .ref nw, .ref sp, .ref im, .ref ir, .ref kp, .ref sl, .ref tk, .ref hn, .ref rc, .ref jn, .ref br, .ref sh])), (sl, .inl (G.2 5, 4, .inr (.inr (.inr (.inr (va_up (va_up (va_up (va_up (fun _ => none) 0 (some s0)) 1 (some s1)) 2 (some s2)) 3 (some s3))))))), (s0, .inr (8, [.ref n0, .int (-1), .int 0])), (s1, .inr (8, [.ref n1, .int (-1), .int 0])), (s2, .inr (8, [.ref n2, .int (-1), .int 0])), (s3, .inr (8, [.ref n3, .int (-1), .int 0]))]) (ci := 10) hKG hP [0, 1, 2, 3, 4, 5] rfl rfl rfl) rfl rfl hl.1 rfl (lv_room (Nat.le_of_ble_eq_true rfl)) dL_law_1989 ⟨(Nat.le_of_ble_eq_true rfl), (Nat.le_of_ble_eq_true rfl)⟩)) (fun r4 hr4 => ?_)
  rcases hr4 with ⟨rfl, c5, c6⟩ | ⟨rfl, c7⟩ | ⟨rfl, c8⟩
  · refine lv_aload_n hx hb dL_law_1992 rfl (lv_at hl 1 rfl) ?_
    refine lv_aload_n hx hb dL_law_1993 rfl (lv_at hl 3 rfl) ?_
    refine lv_iload_n hx hb dL_law_1994 rfl (lv_at hl 0 rfl) ?_
    refine lv_iconst (v := 1) hx hb dL_law_1995 (by decide) ?_
    refine lv_iadd hx hb dL_law_1996 ?_
    refine lv_cst (y := 1) (by decide) ?_
    refine va_sld hx hb hX hbl hbA hS (vp_in_iff.mpr (by decide)) dL_law_1997 ?_
    refine lv_cst (y := xs 1) rfl ?_
    refine lv_aload_n hx hb dL_law_1998 rfl (lv_at hl 3 rfl) ?_
    refine lv_iload_n hx hb dL_law_1999 rfl (lv_at hl 0 rfl) ?_
    refine lv_iconst (v := 2) hx hb dL_law_2000 (by decide) ?_
    refine lv_iadd hx hb dL_law_2001 ?_
    refine lv_cst (y := 2) (by decide) ?_
    refine va_sld hx hb hX hbl hbA hS (vp_in_iff.mpr (by decide)) dL_law_2002 ?_
    refine lv_cst (y := xs 2) rfl ?_
    refine lv_aload_n hx hb dL_law_2003 rfl (lv_at hl 3 rfl) ?_
    refine lv_iload_n hx hb dL_law_2004 rfl (lv_at hl 0 rfl) ?_
    refine lv_iconst (v := 3) hx hb dL_law_2005 (by decide) ?_
    refine lv_iadd hx hb dL_law_2006 ?_
    refine lv_cst (y := 3) (by decide) ?_
    refine va_sld hx hb hX hbl hbA hS (vp_in_iff.mpr (by decide)) dL_law_2007 ?_
    refine lv_cst (y := xs 3) rfl ?_
    refine lv_i2l hx hb dL_law_2008 rfl ?_
    refine lv_bipush (v := 32) hx hb dL_law_2009 (by decide) ?_
    refine lv_lshl hx hb dL_law_2011 rfl ?_
    refine lv_topl (fun v9 ev9 => ?_)
    refine lv_aload_n hx hb dL_law_2012 rfl (lv_at hl 3 rfl) ?_
    refine lv_iload_n hx hb dL_law_2013 rfl (lv_at hl 0 rfl) ?_
    refine lv_iconst (v := 4) hx hb dL_law_2014 (by decide) ?_
    refine lv_iadd hx hb dL_law_2015 ?_
    refine lv_cst (y := 4) (by decide) ?_
    refine va_sld hx hb hX hbl hbA hS (vp_in_iff.mpr (by decide)) dL_law_2016 ?_
    refine lv_cst (y := xs 4) rfl ?_
    refine lv_i2l hx hb dL_law_2017 rfl ?_
    refine lv_ldc2 (v := 4294967295) hx hb hown (hw _ kw_787) dL_law_2018 ?_
    refine lv_land hx hb dL_law_2021 ?_
    refine lv_topl (fun v10 ev10 => ?_)
    refine lv_lor hx hb dL_law_2022 ?_
    refine lv_topl (fun v11 ev11 => ?_)
    refine wq_calli (wr := [(x0, .inr (10, [.ref tp, .int 0, .ref rd, .ref nw, .ref sp, .ref im, .ref ir, .ref kp, .ref sl, .ref tk, .ref hn, .ref rc, .ref jn, .ref br, .ref sh])), (sl, .inl (G.2 5, 4, .inr (.inr (.inr (.inr (va_up (va_up (va_up (va_up (fun _ => none) 0 (some s0)) 1 (some s1)) 2 (some s2)) 3 (some s3))))))), (s0, .inr (8, [.ref n0, .int (-1), .int 0])), (s1, .inr (8, [.ref n1, .int (-1), .int 0])), (s2, .inr (8, [.ref n2, .int (-1), .int 0])), (s3, .inr (8, [.ref n3, .int (-1), .int 0]))]) (va_runV (As := [.int (xs 1), .int (xs 2), .long v11]) (rest := [.int (-6)]) ⟨hx, hb, hml, hown, hw⟩ (c_X11_write l G m0 m_width m_many m_cells m_moved m_tape m_lines m_length m_rain m_has m_slope m_wet m_limit m_platform m_kind m_train m_coach m_isKept m_sum m_comes m_isStood m_front m_has0 m_isOn m_letTick m_letYard m_letSpeed m_where m_pace m_stood m_isOff m_off m_wrong m_endTick (xs 1) (xs 2) v11 H.size) (cwV 3 hw (gdV kw_793 kw_794 kw_795 kw_299 kw_792) rfl rfl rfl ⟨rfl, hdX11_write⟩ ⟨(Nat.le_of_ble_eq_true rfl), (Nat.le_of_ble_eq_true rfl)⟩) (preQ_V (wc := [(m0, .inr (11, [.int 0, .ref m_width, .ref m_many, .ref m_cells, .ref m_moved, .ref m_tape, .int 0, .int 0, .int 0, .int 0, .int 0, .long 0, .int 0, .int 0, .int 0, .int (-1), .ref m_lines, .ref m_length, .ref m_rain, .ref m_has, .ref m_slope, .ref m_wet, .ref m_limit, .ref m_platform, .ref m_kind, .ref m_train, .ref m_coach, .ref m_isKept, .ref m_sum, .int 0, .int 15, .ref m_comes, .ref m_isStood, .int 0, .int 0, .int 0, .ref m_front, .ref m_has0, .ref m_isOn, .ref m_letTick, .ref m_letYard, .ref m_letSpeed, .ref m_where, .ref m_pace, .ref m_stood, .ref m_isOff, .ref m_off, .ref m_wrong, .int 0, .int 0, .int 0, .int 0, .ref m_endTick, .int 0, .int 0, .int 0, .int 0, .long 0])), (m_width, .inl (G.2 0, 4, .inl wd4))]) (ci := 11) hKG hP hD [6, 7] (by decide +kernel) rfl rfl rfl) rfl rfl hl.1 rfl (lv_room (Nat.le_of_ble_eq_true rfl)) dL_law_2023 ⟨(Nat.le_of_ble_eq_true rfl), (Nat.le_of_ble_eq_true rfl)⟩) hS hP hD hA [6, 7] [0, 1, 2, 3, 4, 5] rfl rfl (by decide +kernel) (by decide +kernel) (fun r12 u13 H locs hr12 hP hD hS => ?_)
    have hP : va_P G.1 vwCl [(x0, .inr (10, [.ref tp, .int 0, .ref rd, .ref nw, .ref sp, .ref im, .ref ir, .ref kp, .ref sl, .ref tk, .ref hn, .ref rc, .ref jn, .ref br, .ref sh])), (sl, .inl (G.2 5, 4, .inr (.inr (.inr (.inr (va_up (va_up (va_up (va_up (fun _ => none) 0 (some s0)) 1 (some s1)) 2 (some s2)) 3 (some s3))))))), (s0, .inr (8, [.ref n0, .int (-1), .int 0])), (s1, .inr (8, [.ref n1, .int (-1), .int 0])), (s2, .inr (8, [.ref n2, .int (-1), .int 0])), (s3, .inr (8, [.ref n3, .int (-1), .int 0]))] H := hP
    have hD : va_D (fun q : Nat => s.heap.size ≤ q) [(x0, .inr (10, [.ref tp, .int 0, .ref rd, .ref nw, .ref sp, .ref im, .ref ir, .ref kp, .ref sl, .ref tk, .ref hn, .ref rc, .ref jn, .ref br, .ref sh])), (sl, .inl (G.2 5, 4, .inr (.inr (.inr (.inr (va_up (va_up (va_up (va_up (fun _ => none) 0 (some s0)) 1 (some s1)) 2 (some s2)) 3 (some s3))))))), (s0, .inr (8, [.ref n0, .int (-1), .int 0])), (s1, .inr (8, [.ref n1, .int (-1), .int 0])), (s2, .inr (8, [.ref n2, .int (-1), .int 0])), (s3, .inr (8, [.ref n3, .int (-1), .int 0]))] := hD
    refine W.widen (k := 600000) (n := 7302250) (Nat.le_of_ble_eq_true rfl) (Nat.le_of_ble_eq_true rfl) ?_
    rcases hr12 with ⟨rfl, c14, c15⟩ | ⟨rfl, c16⟩ | ⟨rfl, c17⟩
    · refine lv_icmp_eq (tgt := 2094) hx hb dL_law_2026 (by decide) (fun c18 => ?_) (fun c18 => absurd (by decide) c18)
      exact law_tail (x0 := x0) (m0 := m0) C0 hS (lv_sub hl [0, 1, 2, 3] rfl)
    · exact False.elim (by have z1 := c5; have z2 := c6; have z3 := c16; simp only [fa_lt, fa_le, fa_eq, fa_lt64, fa_le64, fa_eq64, Int32.toInt_toInt64, tc_0, tc_3] at z1 z2 z3 <;> omega)
    · exact False.elim (by have z1 := c5; have z2 := c6; have z3 := c17; simp only [fa_lt, fa_le, fa_eq, fa_lt64, fa_le64, fa_eq64, Int32.toInt_toInt64, tc_0, tc_3] at z1 z2 z3 <;> omega)
  · refine lv_aload_n hx hb dL_law_1992 rfl (lv_at hl 1 rfl) ?_
    refine lv_aload_n hx hb dL_law_1993 rfl (lv_at hl 3 rfl) ?_
    refine lv_iload_n hx hb dL_law_1994 rfl (lv_at hl 0 rfl) ?_
    refine lv_iconst (v := 1) hx hb dL_law_1995 (by decide) ?_
    refine lv_iadd hx hb dL_law_1996 ?_
    refine lv_cst (y := 1) (by decide) ?_
    refine va_sld hx hb hX hbl hbA hS (vp_in_iff.mpr (by decide)) dL_law_1997 ?_
    refine lv_cst (y := xs 1) rfl ?_
    refine lv_aload_n hx hb dL_law_1998 rfl (lv_at hl 3 rfl) ?_
    refine lv_iload_n hx hb dL_law_1999 rfl (lv_at hl 0 rfl) ?_
    refine lv_iconst (v := 2) hx hb dL_law_2000 (by decide) ?_
    refine lv_iadd hx hb dL_law_2001 ?_
    refine lv_cst (y := 2) (by decide) ?_
    refine va_sld hx hb hX hbl hbA hS (vp_in_iff.mpr (by decide)) dL_law_2002 ?_
    refine lv_cst (y := xs 2) rfl ?_
    refine lv_aload_n hx hb dL_law_2003 rfl (lv_at hl 3 rfl) ?_
    refine lv_iload_n hx hb dL_law_2004 rfl (lv_at hl 0 rfl) ?_
    refine lv_iconst (v := 3) hx hb dL_law_2005 (by decide) ?_
    refine lv_iadd hx hb dL_law_2006 ?_
    refine lv_cst (y := 3) (by decide) ?_
    refine va_sld hx hb hX hbl hbA hS (vp_in_iff.mpr (by decide)) dL_law_2007 ?_
    refine lv_cst (y := xs 3) rfl ?_
    refine lv_i2l hx hb dL_law_2008 rfl ?_
    refine lv_bipush (v := 32) hx hb dL_law_2009 (by decide) ?_
    refine lv_lshl hx hb dL_law_2011 rfl ?_
    refine lv_topl (fun v19 ev19 => ?_)
    refine lv_aload_n hx hb dL_law_2012 rfl (lv_at hl 3 rfl) ?_
    refine lv_iload_n hx hb dL_law_2013 rfl (lv_at hl 0 rfl) ?_
    refine lv_iconst (v := 4) hx hb dL_law_2014 (by decide) ?_
    refine lv_iadd hx hb dL_law_2015 ?_
    refine lv_cst (y := 4) (by decide) ?_
    refine va_sld hx hb hX hbl hbA hS (vp_in_iff.mpr (by decide)) dL_law_2016 ?_
    refine lv_cst (y := xs 4) rfl ?_
    refine lv_i2l hx hb dL_law_2017 rfl ?_
    refine lv_ldc2 (v := 4294967295) hx hb hown (hw _ kw_787) dL_law_2018 ?_
    refine lv_land hx hb dL_law_2021 ?_
    refine lv_topl (fun v20 ev20 => ?_)
    refine lv_lor hx hb dL_law_2022 ?_
    refine lv_topl (fun v21 ev21 => ?_)
    refine wq_calli (wr := [(x0, .inr (10, [.ref tp, .int 0, .ref rd, .ref nw, .ref sp, .ref im, .ref ir, .ref kp, .ref sl, .ref tk, .ref hn, .ref rc, .ref jn, .ref br, .ref sh])), (sl, .inl (G.2 5, 4, .inr (.inr (.inr (.inr (va_up (va_up (va_up (va_up (fun _ => none) 0 (some s0)) 1 (some s1)) 2 (some s2)) 3 (some s3))))))), (s0, .inr (8, [.ref n0, .int (-1), .int 0])), (s1, .inr (8, [.ref n1, .int (-1), .int 0])), (s2, .inr (8, [.ref n2, .int (-1), .int 0])), (s3, .inr (8, [.ref n3, .int (-1), .int 0]))]) (va_runV (As := [.int (xs 1), .int (xs 2), .long v21]) (rest := [.int (-2)]) ⟨hx, hb, hml, hown, hw⟩ (c_X11_write l G m0 m_width m_many m_cells m_moved m_tape m_lines m_length m_rain m_has m_slope m_wet m_limit m_platform m_kind m_train m_coach m_isKept m_sum m_comes m_isStood m_front m_has0 m_isOn m_letTick m_letYard m_letSpeed m_where m_pace m_stood m_isOff m_off m_wrong m_endTick (xs 1) (xs 2) v21 H.size) (cwV 3 hw (gdV kw_793 kw_794 kw_795 kw_299 kw_792) rfl rfl rfl ⟨rfl, hdX11_write⟩ ⟨(Nat.le_of_ble_eq_true rfl), (Nat.le_of_ble_eq_true rfl)⟩) (preQ_V (wc := [(m0, .inr (11, [.int 0, .ref m_width, .ref m_many, .ref m_cells, .ref m_moved, .ref m_tape, .int 0, .int 0, .int 0, .int 0, .int 0, .long 0, .int 0, .int 0, .int 0, .int (-1), .ref m_lines, .ref m_length, .ref m_rain, .ref m_has, .ref m_slope, .ref m_wet, .ref m_limit, .ref m_platform, .ref m_kind, .ref m_train, .ref m_coach, .ref m_isKept, .ref m_sum, .int 0, .int 15, .ref m_comes, .ref m_isStood, .int 0, .int 0, .int 0, .ref m_front, .ref m_has0, .ref m_isOn, .ref m_letTick, .ref m_letYard, .ref m_letSpeed, .ref m_where, .ref m_pace, .ref m_stood, .ref m_isOff, .ref m_off, .ref m_wrong, .int 0, .int 0, .int 0, .int 0, .ref m_endTick, .int 0, .int 0, .int 0, .int 0, .long 0])), (m_width, .inl (G.2 0, 4, .inl wd4))]) (ci := 11) hKG hP hD [6, 7] (by decide +kernel) rfl rfl rfl) rfl rfl hl.1 rfl (lv_room (Nat.le_of_ble_eq_true rfl)) dL_law_2023 ⟨(Nat.le_of_ble_eq_true rfl), (Nat.le_of_ble_eq_true rfl)⟩) hS hP hD hA [6, 7] [0, 1, 2, 3, 4, 5] rfl rfl (by decide +kernel) (by decide +kernel) (fun r22 u23 H locs hr22 hP hD hS => ?_)
    have hP : va_P G.1 vwCl [(x0, .inr (10, [.ref tp, .int 0, .ref rd, .ref nw, .ref sp, .ref im, .ref ir, .ref kp, .ref sl, .ref tk, .ref hn, .ref rc, .ref jn, .ref br, .ref sh])), (sl, .inl (G.2 5, 4, .inr (.inr (.inr (.inr (va_up (va_up (va_up (va_up (fun _ => none) 0 (some s0)) 1 (some s1)) 2 (some s2)) 3 (some s3))))))), (s0, .inr (8, [.ref n0, .int (-1), .int 0])), (s1, .inr (8, [.ref n1, .int (-1), .int 0])), (s2, .inr (8, [.ref n2, .int (-1), .int 0])), (s3, .inr (8, [.ref n3, .int (-1), .int 0]))] H := hP
    have hD : va_D (fun q : Nat => s.heap.size ≤ q) [(x0, .inr (10, [.ref tp, .int 0, .ref rd, .ref nw, .ref sp, .ref im, .ref ir, .ref kp, .ref sl, .ref tk, .ref hn, .ref rc, .ref jn, .ref br, .ref sh])), (sl, .inl (G.2 5, 4, .inr (.inr (.inr (.inr (va_up (va_up (va_up (va_up (fun _ => none) 0 (some s0)) 1 (some s1)) 2 (some s2)) 3 (some s3))))))), (s0, .inr (8, [.ref n0, .int (-1), .int 0])), (s1, .inr (8, [.ref n1, .int (-1), .int 0])), (s2, .inr (8, [.ref n2, .int (-1), .int 0])), (s3, .inr (8, [.ref n3, .int (-1), .int 0]))] := hD
    refine W.widen (k := 600000) (n := 7302250) (Nat.le_of_ble_eq_true rfl) (Nat.le_of_ble_eq_true rfl) ?_
    rcases hr22 with ⟨rfl, c24, c25⟩ | ⟨rfl, c26⟩ | ⟨rfl, c27⟩
    · exact False.elim (by have z1 := c7; have z2 := c24; have z3 := c25; simp only [fa_lt, fa_le, fa_eq, fa_lt64, fa_le64, fa_eq64, Int32.toInt_toInt64, tc_0, tc_3] at z1 z2 z3 <;> omega)
    · refine lv_icmp_eq (tgt := 2094) hx hb dL_law_2026 (by decide) (fun c28 => ?_) (fun c28 => absurd (by decide) c28)
      exact law_tail (x0 := x0) (m0 := m0) C0 hS (lv_sub hl [0, 1, 2, 3] rfl)
    · exact False.elim (by have z1 := c7; have z2 := c27; simp only [fa_lt, fa_le, fa_eq, fa_lt64, fa_le64, fa_eq64, Int32.toInt_toInt64, tc_0, tc_3] at z1 z2 <;> omega)
  · refine lv_aload_n hx hb dL_law_1992 rfl (lv_at hl 1 rfl) ?_
    refine lv_aload_n hx hb dL_law_1993 rfl (lv_at hl 3 rfl) ?_
    refine lv_iload_n hx hb dL_law_1994 rfl (lv_at hl 0 rfl) ?_
    refine lv_iconst (v := 1) hx hb dL_law_1995 (by decide) ?_
    refine lv_iadd hx hb dL_law_1996 ?_
    refine lv_cst (y := 1) (by decide) ?_
    refine va_sld hx hb hX hbl hbA hS (vp_in_iff.mpr (by decide)) dL_law_1997 ?_
    refine lv_cst (y := xs 1) rfl ?_
    refine lv_aload_n hx hb dL_law_1998 rfl (lv_at hl 3 rfl) ?_
    refine lv_iload_n hx hb dL_law_1999 rfl (lv_at hl 0 rfl) ?_
    refine lv_iconst (v := 2) hx hb dL_law_2000 (by decide) ?_
    refine lv_iadd hx hb dL_law_2001 ?_
    refine lv_cst (y := 2) (by decide) ?_
    refine va_sld hx hb hX hbl hbA hS (vp_in_iff.mpr (by decide)) dL_law_2002 ?_
    refine lv_cst (y := xs 2) rfl ?_
    refine lv_aload_n hx hb dL_law_2003 rfl (lv_at hl 3 rfl) ?_
    refine lv_iload_n hx hb dL_law_2004 rfl (lv_at hl 0 rfl) ?_
    refine lv_iconst (v := 3) hx hb dL_law_2005 (by decide) ?_
    refine lv_iadd hx hb dL_law_2006 ?_
    refine lv_cst (y := 3) (by decide) ?_
    refine va_sld hx hb hX hbl hbA hS (vp_in_iff.mpr (by decide)) dL_law_2007 ?_
    refine lv_cst (y := xs 3) rfl ?_
    refine lv_i2l hx hb dL_law_2008 rfl ?_
    refine lv_bipush (v := 32) hx hb dL_law_2009 (by decide) ?_
    refine lv_lshl hx hb dL_law_2011 rfl ?_
    refine lv_topl (fun v29 ev29 => ?_)
    refine lv_aload_n hx hb dL_law_2012 rfl (lv_at hl 3 rfl) ?_
    refine lv_iload_n hx hb dL_law_2013 rfl (lv_at hl 0 rfl) ?_
    refine lv_iconst (v := 4) hx hb dL_law_2014 (by decide) ?_
    refine lv_iadd hx hb dL_law_2015 ?_
    refine lv_cst (y := 4) (by decide) ?_
    refine va_sld hx hb hX hbl hbA hS (vp_in_iff.mpr (by decide)) dL_law_2016 ?_
    refine lv_cst (y := xs 4) rfl ?_
    refine lv_i2l hx hb dL_law_2017 rfl ?_
    refine lv_ldc2 (v := 4294967295) hx hb hown (hw _ kw_787) dL_law_2018 ?_
    refine lv_land hx hb dL_law_2021 ?_
    refine lv_topl (fun v30 ev30 => ?_)
    refine lv_lor hx hb dL_law_2022 ?_
    refine lv_topl (fun v31 ev31 => ?_)
    refine wq_calli (wr := [(x0, .inr (10, [.ref tp, .int 0, .ref rd, .ref nw, .ref sp, .ref im, .ref ir, .ref kp, .ref sl, .ref tk, .ref hn, .ref rc, .ref jn, .ref br, .ref sh])), (sl, .inl (G.2 5, 4, .inr (.inr (.inr (.inr (va_up (va_up (va_up (va_up (fun _ => none) 0 (some s0)) 1 (some s1)) 2 (some s2)) 3 (some s3))))))), (s0, .inr (8, [.ref n0, .int (-1), .int 0])), (s1, .inr (8, [.ref n1, .int (-1), .int 0])), (s2, .inr (8, [.ref n2, .int (-1), .int 0])), (s3, .inr (8, [.ref n3, .int (-1), .int 0]))]) (va_runV (As := [.int (xs 1), .int (xs 2), .long v31]) (rest := [.int (-2)]) ⟨hx, hb, hml, hown, hw⟩ (c_X11_write l G m0 m_width m_many m_cells m_moved m_tape m_lines m_length m_rain m_has m_slope m_wet m_limit m_platform m_kind m_train m_coach m_isKept m_sum m_comes m_isStood m_front m_has0 m_isOn m_letTick m_letYard m_letSpeed m_where m_pace m_stood m_isOff m_off m_wrong m_endTick (xs 1) (xs 2) v31 H.size) (cwV 3 hw (gdV kw_793 kw_794 kw_795 kw_299 kw_792) rfl rfl rfl ⟨rfl, hdX11_write⟩ ⟨(Nat.le_of_ble_eq_true rfl), (Nat.le_of_ble_eq_true rfl)⟩) (preQ_V (wc := [(m0, .inr (11, [.int 0, .ref m_width, .ref m_many, .ref m_cells, .ref m_moved, .ref m_tape, .int 0, .int 0, .int 0, .int 0, .int 0, .long 0, .int 0, .int 0, .int 0, .int (-1), .ref m_lines, .ref m_length, .ref m_rain, .ref m_has, .ref m_slope, .ref m_wet, .ref m_limit, .ref m_platform, .ref m_kind, .ref m_train, .ref m_coach, .ref m_isKept, .ref m_sum, .int 0, .int 15, .ref m_comes, .ref m_isStood, .int 0, .int 0, .int 0, .ref m_front, .ref m_has0, .ref m_isOn, .ref m_letTick, .ref m_letYard, .ref m_letSpeed, .ref m_where, .ref m_pace, .ref m_stood, .ref m_isOff, .ref m_off, .ref m_wrong, .int 0, .int 0, .int 0, .int 0, .ref m_endTick, .int 0, .int 0, .int 0, .int 0, .long 0])), (m_width, .inl (G.2 0, 4, .inl wd4))]) (ci := 11) hKG hP hD [6, 7] (by decide +kernel) rfl rfl rfl) rfl rfl hl.1 rfl (lv_room (Nat.le_of_ble_eq_true rfl)) dL_law_2023 ⟨(Nat.le_of_ble_eq_true rfl), (Nat.le_of_ble_eq_true rfl)⟩) hS hP hD hA [6, 7] [0, 1, 2, 3, 4, 5] rfl rfl (by decide +kernel) (by decide +kernel) (fun r32 u33 H locs hr32 hP hD hS => ?_)
    have hP : va_P G.1 vwCl [(x0, .inr (10, [.ref tp, .int 0, .ref rd, .ref nw, .ref sp, .ref im, .ref ir, .ref kp, .ref sl, .ref tk, .ref hn, .ref rc, .ref jn, .ref br, .ref sh])), (sl, .inl (G.2 5, 4, .inr (.inr (.inr (.inr (va_up (va_up (va_up (va_up (fun _ => none) 0 (some s0)) 1 (some s1)) 2 (some s2)) 3 (some s3))))))), (s0, .inr (8, [.ref n0, .int (-1), .int 0])), (s1, .inr (8, [.ref n1, .int (-1), .int 0])), (s2, .inr (8, [.ref n2, .int (-1), .int 0])), (s3, .inr (8, [.ref n3, .int (-1), .int 0]))] H := hP
    have hD : va_D (fun q : Nat => s.heap.size ≤ q) [(x0, .inr (10, [.ref tp, .int 0, .ref rd, .ref nw, .ref sp, .ref im, .ref ir, .ref kp, .ref sl, .ref tk, .ref hn, .ref rc, .ref jn, .ref br, .ref sh])), (sl, .inl (G.2 5, 4, .inr (.inr (.inr (.inr (va_up (va_up (va_up (va_up (fun _ => none) 0 (some s0)) 1 (some s1)) 2 (some s2)) 3 (some s3))))))), (s0, .inr (8, [.ref n0, .int (-1), .int 0])), (s1, .inr (8, [.ref n1, .int (-1), .int 0])), (s2, .inr (8, [.ref n2, .int (-1), .int 0])), (s3, .inr (8, [.ref n3, .int (-1), .int 0]))] := hD
    refine W.widen (k := 600000) (n := 7302250) (Nat.le_of_ble_eq_true rfl) (Nat.le_of_ble_eq_true rfl) ?_
    rcases hr32 with ⟨rfl, c34, c35⟩ | ⟨rfl, c36⟩ | ⟨rfl, c37⟩
    · exact False.elim (by have z1 := c8; have z2 := c34; have z3 := c35; simp only [fa_lt, fa_le, fa_eq, fa_lt64, fa_le64, fa_eq64, Int32.toInt_toInt64, tc_0, tc_3] at z1 z2 z3 <;> omega)
    · exact False.elim (by have z1 := c8; have z2 := c36; simp only [fa_lt, fa_le, fa_eq, fa_lt64, fa_le64, fa_eq64, Int32.toInt_toInt64, tc_0, tc_3] at z1 z2 <;> omega)
    · refine lv_icmp_eq (tgt := 2094) hx hb dL_law_2026 (by decide) (fun c38 => ?_) (fun c38 => absurd (by decide) c38)
      exact law_tail (x0 := x0) (m0 := m0) C0 hS (lv_sub hl [0, 1, 2, 3] rfl)
set_option maxHeartbeats 40000000 in
set_option maxRecDepth 100000 in
theorem law_47 {p : Program} {l : Launch} {e : Env} {s : State} {m : MethodId} {below : List Frame} {meth : Method} {c : Code} {b : Nat} {xs : Nat → Int32} (C0 : lw_At p s m meth c b 6 xs) (G : KG) (x0 : Nat) (tp : Nat) (rd : Nat) (nw : Nat) (sp : Nat) (im : Nat) (ir : Nat) (kp : Nat) (sl : Nat) (tk : Nat) (hn : Nat) (rc : Nat) (jn : Nat) (br : Nat) (sh : Nat) (s0 : Nat) (s1 : Nat) (s2 : Nat) (s3 : Nat) (n0 : Nat) (n1 : Nat) (n2 : Nat) (n3 : Nat) (m0 : Nat) (m_width : Nat) (m_many : Nat) (m_cells : Nat) (m_moved : Nat) (m_tape : Nat) (m_lines : Nat) (m_length : Nat) (m_rain : Nat) (m_has : Nat) (m_slope : Nat) (m_wet : Nat) (m_limit : Nat) (m_platform : Nat) (m_kind : Nat) (m_train : Nat) (m_coach : Nat) (m_isKept : Nat) (m_sum : Nat) (m_comes : Nat) (m_isStood : Nat) (m_front : Nat) (m_has0 : Nat) (m_isOn : Nat) (m_letTick : Nat) (m_letYard : Nat) (m_letSpeed : Nat) (m_where : Nat) (m_pace : Nat) (m_stood : Nat) (m_isOff : Nat) (m_off : Nat) (m_wrong : Nat) (m_endTick : Nat) (hKG : kG G s) {H : Heap} {locs : List Loc} (hP : va_P G.1 vwCl [(x0, .inr (10, [.ref tp, .int 0, .ref rd, .ref nw, .ref sp, .ref im, .ref ir, .ref kp, .ref sl, .ref tk, .ref hn, .ref rc, .ref jn, .ref br, .ref sh])), (sl, .inl (G.2 5, 4, .inr (.inr (.inr (.inr (va_up (va_up (va_up (va_up (fun _ => none) 0 (some s0)) 1 (some s1)) 2 (some s2)) 3 (some s3))))))), (s0, .inr (8, [.ref n0, .int (-1), .int 0])), (s1, .inr (8, [.ref n1, .int (-1), .int 0])), (s2, .inr (8, [.ref n2, .int (-1), .int 0])), (s3, .inr (8, [.ref n3, .int (-1), .int 0])), (m0, .inr (11, [.int 0, .ref m_width, .ref m_many, .ref m_cells, .ref m_moved, .ref m_tape, .int 0, .int 0, .int 0, .int 0, .int 0, .long 0, .int 0, .int 0, .int 0, .int (-1), .ref m_lines, .ref m_length, .ref m_rain, .ref m_has, .ref m_slope, .ref m_wet, .ref m_limit, .ref m_platform, .ref m_kind, .ref m_train, .ref m_coach, .ref m_isKept, .ref m_sum, .int 0, .int 15, .ref m_comes, .ref m_isStood, .int 0, .int 0, .int 0, .ref m_front, .ref m_has0, .ref m_isOn, .ref m_letTick, .ref m_letYard, .ref m_letSpeed, .ref m_where, .ref m_pace, .ref m_stood, .ref m_isOff, .ref m_off, .ref m_wrong, .int 0, .int 0, .int 0, .int 0, .ref m_endTick, .int 0, .int 0, .int 0, .int 0, .long 0])), (m_width, .inl (G.2 0, 4, .inl wd4))] H) (hD : va_D (fun q : Nat => s.heap.size ≤ q) [(x0, .inr (10, [.ref tp, .int 0, .ref rd, .ref nw, .ref sp, .ref im, .ref ir, .ref kp, .ref sl, .ref tk, .ref hn, .ref rc, .ref jn, .ref br, .ref sh])), (sl, .inl (G.2 5, 4, .inr (.inr (.inr (.inr (va_up (va_up (va_up (va_up (fun _ => none) 0 (some s0)) 1 (some s1)) 2 (some s2)) 3 (some s3))))))), (s0, .inr (8, [.ref n0, .int (-1), .int 0])), (s1, .inr (8, [.ref n1, .int (-1), .int 0])), (s2, .inr (8, [.ref n2, .int (-1), .int 0])), (s3, .inr (8, [.ref n3, .int (-1), .int 0])), (m0, .inr (11, [.int 0, .ref m_width, .ref m_many, .ref m_cells, .ref m_moved, .ref m_tape, .int 0, .int 0, .int 0, .int 0, .int 0, .long 0, .int 0, .int 0, .int 0, .int (-1), .ref m_lines, .ref m_length, .ref m_rain, .ref m_has, .ref m_slope, .ref m_wet, .ref m_limit, .ref m_platform, .ref m_kind, .ref m_train, .ref m_coach, .ref m_isKept, .ref m_sum, .int 0, .int 15, .ref m_comes, .ref m_isStood, .int 0, .int 0, .int 0, .ref m_front, .ref m_has0, .ref m_isOn, .ref m_letTick, .ref m_letYard, .ref m_letSpeed, .ref m_where, .ref m_pace, .ref m_stood, .ref m_isOff, .ref m_off, .ref m_wrong, .int 0, .int 0, .int 0, .int 0, .ref m_endTick, .int 0, .int 0, .int 0, .int 0, .long 0])), (m_width, .inl (G.2 0, 4, .inl wd4))]) (hS : va_S (fun q : Nat => s.heap.size ≤ q) s.heap H locs) {ls : Array Slot} (hl : lv_has ls 4 [(3, .int 0), (2, .ref m0), (1, .ref x0), (0, .ref b)]) : W p l e room_1 s m #[Value.ref b] below meth c H locs 600000 7302250 (lw_Z below #[Value.ref b] s) (F0 m 2031 ls []) := by
  obtain ⟨hx, hb, hr, hml, hown, hts, hX, hbl, hlocks, hgv⟩ := id C0
  have hw : ∀ w ∈ wG, w.before #[Value.ref b] s = true := fun w h => hts w (List.mem_filter.mp h).1
  have hA : ∀ q : Nat, s.heap.size ≤ q → (fun q : Nat => s.heap.size ≤ q) q := fun _ h => h
  have hbA : ¬ (fun q : Nat => s.heap.size ≤ q) b := Nat.not_le.mpr hbl
  obtain ⟨hK, hAO⟩ := id hKG
  refine lv_aload_n hx hb dL_law_2031 rfl (lv_at hl 2 rfl) ?_
  refine lv_aload_n hx hb dL_law_2032 rfl (lv_at hl 3 rfl) ?_
  refine lv_iload_n hx hb dL_law_2033 rfl (lv_at hl 0 rfl) ?_
  refine lv_iconst (v := 1) hx hb dL_law_2034 (by decide) ?_
  refine lv_iadd hx hb dL_law_2035 ?_
  refine lv_cst (y := 1) (by decide) ?_
  refine va_sld hx hb hX hbl hbA hS (vp_in_iff.mpr (by decide)) dL_law_2036 ?_
  refine lv_cst (y := xs 1) rfl ?_
  refine lv_aload_n hx hb dL_law_2037 rfl (lv_at hl 3 rfl) ?_
  refine lv_iload_n hx hb dL_law_2038 rfl (lv_at hl 0 rfl) ?_
  refine lv_iconst (v := 2) hx hb dL_law_2039 (by decide) ?_
  refine lv_iadd hx hb dL_law_2040 ?_
  refine lv_cst (y := 2) (by decide) ?_
  refine va_sld hx hb hX hbl hbA hS (vp_in_iff.mpr (by decide)) dL_law_2041 ?_
  refine lv_cst (y := xs 2) rfl ?_
  refine lv_aload_n hx hb dL_law_2042 rfl (lv_at hl 3 rfl) ?_
  refine lv_iload_n hx hb dL_law_2043 rfl (lv_at hl 0 rfl) ?_
  refine lv_iconst (v := 3) hx hb dL_law_2044 (by decide) ?_
  refine lv_iadd hx hb dL_law_2045 ?_
  refine lv_cst (y := 3) (by decide) ?_
  refine va_sld hx hb hX hbl hbA hS (vp_in_iff.mpr (by decide)) dL_law_2046 ?_
  refine lv_cst (y := xs 3) rfl ?_
  refine lv_aload_n hx hb dL_law_2047 rfl (lv_at hl 3 rfl) ?_
  refine lv_iload_n hx hb dL_law_2048 rfl (lv_at hl 0 rfl) ?_
  refine lv_iconst (v := 4) hx hb dL_law_2049 (by decide) ?_
  refine lv_iadd hx hb dL_law_2050 ?_
  refine lv_cst (y := 4) (by decide) ?_
  refine va_sld hx hb hX hbl hbA hS (vp_in_iff.mpr (by decide)) dL_law_2051 ?_
  refine lv_cst (y := xs 4) rfl ?_
  refine lv_aload_n hx hb dL_law_2052 rfl (lv_at hl 3 rfl) ?_
  refine lv_iload_n hx hb dL_law_2053 rfl (lv_at hl 0 rfl) ?_
  refine lv_iconst (v := 5) hx hb dL_law_2054 (by decide) ?_
  refine lv_iadd hx hb dL_law_2055 ?_
  refine lv_cst (y := 5) (by decide) ?_
  refine va_sld hx hb hX hbl hbA hS (vp_in_iff.mpr (by decide)) dL_law_2056 ?_
  refine lv_cst (y := xs 5) rfl ?_
  refine vp_callSi (va_Run.run (va_runV (As := [.int (xs 1), .int (xs 2), .int (xs 3), .int (xs 4), .int (xs 5)]) (rest := []) ⟨hx, hb, hml, hown, hw⟩ (c_X10_paste l G x0 tp rd nw sp im ir kp sl tk hn rc jn br sh s0 s1 s2 s3 n0 n1 n2 n3 (xs 1) (xs 2) (xs 3) (xs 4) (xs 5)) (cwV 5 hw (gdV kw_797 kw_798 kw_799 kw_8 kw_796) rfl rfl rfl ⟨rfl, hdX10_paste⟩ ⟨(Nat.le_of_ble_eq_true rfl), (Nat.le_of_ble_eq_true rfl)⟩) (preS_V (wc := [(x0, .inr (10, [.ref tp, .int 0, .ref rd, .ref nw, .ref sp, .ref im, .ref ir, .ref kp, .ref sl, .ref tk, .ref hn, .ref rc, .ref jn, .ref br, .ref sh])), (sl, .inl (G.2 5, 4, .inr (.inr (.inr (.inr (va_up (va_up (va_up (va_up (fun _ => none) 0 (some s0)) 1 (some s1)) 2 (some s2)) 3 (some s3))))))), (s0, .inr (8, [.ref n0, .int (-1), .int 0])), (s1, .inr (8, [.ref n1, .int (-1), .int 0])), (s2, .inr (8, [.ref n2, .int (-1), .int 0])), (s3, .inr (8, [.ref n3, .int (-1), .int 0]))]) (ci := 10) hKG hP [0, 1, 2, 3, 4, 5] rfl rfl rfl) rfl rfl hl.1 rfl (lv_room (Nat.le_of_ble_eq_true rfl)) dL_law_2057 ⟨(Nat.le_of_ble_eq_true rfl), (Nat.le_of_ble_eq_true rfl)⟩)) (fun r1 hr1 => ?_)
  rcases hr1 with ⟨rfl, c2, c3, c4, c5⟩ | ⟨rfl, c6⟩ | ⟨rfl, c7⟩ | ⟨rfl, c8⟩ | ⟨rfl, c9⟩
  · refine lv_aload_n hx hb dL_law_2060 rfl (lv_at hl 1 rfl) ?_
    refine lv_aload_n hx hb dL_law_2061 rfl (lv_at hl 3 rfl) ?_
    refine lv_iload_n hx hb dL_law_2062 rfl (lv_at hl 0 rfl) ?_
    refine lv_iconst (v := 1) hx hb dL_law_2063 (by decide) ?_
    refine lv_iadd hx hb dL_law_2064 ?_
    refine lv_cst (y := 1) (by decide) ?_
    refine va_sld hx hb hX hbl hbA hS (vp_in_iff.mpr (by decide)) dL_law_2065 ?_
    refine lv_cst (y := xs 1) rfl ?_
    refine lv_aload_n hx hb dL_law_2066 rfl (lv_at hl 3 rfl) ?_
    refine lv_iload_n hx hb dL_law_2067 rfl (lv_at hl 0 rfl) ?_
    refine lv_iconst (v := 2) hx hb dL_law_2068 (by decide) ?_
    refine lv_iadd hx hb dL_law_2069 ?_
    refine lv_cst (y := 2) (by decide) ?_
    refine va_sld hx hb hX hbl hbA hS (vp_in_iff.mpr (by decide)) dL_law_2070 ?_
    refine lv_cst (y := xs 2) rfl ?_
    refine lv_aload_n hx hb dL_law_2071 rfl (lv_at hl 3 rfl) ?_
    refine lv_iload_n hx hb dL_law_2072 rfl (lv_at hl 0 rfl) ?_
    refine lv_iconst (v := 3) hx hb dL_law_2073 (by decide) ?_
    refine lv_iadd hx hb dL_law_2074 ?_
    refine lv_cst (y := 3) (by decide) ?_
    refine va_sld hx hb hX hbl hbA hS (vp_in_iff.mpr (by decide)) dL_law_2075 ?_
    refine lv_cst (y := xs 3) rfl ?_
    refine lv_aload_n hx hb dL_law_2076 rfl (lv_at hl 3 rfl) ?_
    refine lv_iload_n hx hb dL_law_2077 rfl (lv_at hl 0 rfl) ?_
    refine lv_iconst (v := 4) hx hb dL_law_2078 (by decide) ?_
    refine lv_iadd hx hb dL_law_2079 ?_
    refine lv_cst (y := 4) (by decide) ?_
    refine va_sld hx hb hX hbl hbA hS (vp_in_iff.mpr (by decide)) dL_law_2080 ?_
    refine lv_cst (y := xs 4) rfl ?_
    refine lv_aload_n hx hb dL_law_2081 rfl (lv_at hl 3 rfl) ?_
    refine lv_iload_n hx hb dL_law_2082 rfl (lv_at hl 0 rfl) ?_
    refine lv_iconst (v := 5) hx hb dL_law_2083 (by decide) ?_
    refine lv_iadd hx hb dL_law_2084 ?_
    refine lv_cst (y := 5) (by decide) ?_
    refine va_sld hx hb hX hbl hbA hS (vp_in_iff.mpr (by decide)) dL_law_2085 ?_
    refine lv_cst (y := xs 5) rfl ?_
    refine wq_calli (wr := [(x0, .inr (10, [.ref tp, .int 0, .ref rd, .ref nw, .ref sp, .ref im, .ref ir, .ref kp, .ref sl, .ref tk, .ref hn, .ref rc, .ref jn, .ref br, .ref sh])), (sl, .inl (G.2 5, 4, .inr (.inr (.inr (.inr (va_up (va_up (va_up (va_up (fun _ => none) 0 (some s0)) 1 (some s1)) 2 (some s2)) 3 (some s3))))))), (s0, .inr (8, [.ref n0, .int (-1), .int 0])), (s1, .inr (8, [.ref n1, .int (-1), .int 0])), (s2, .inr (8, [.ref n2, .int (-1), .int 0])), (s3, .inr (8, [.ref n3, .int (-1), .int 0]))]) (va_runV (As := [.int (xs 1), .int (xs 2), .int (xs 3), .int (xs 4), .int (xs 5)]) (rest := [.int (-6)]) ⟨hx, hb, hml, hown, hw⟩ (c_X11_paste l G m0 m_width m_many m_cells m_moved m_tape m_lines m_length m_rain m_has m_slope m_wet m_limit m_platform m_kind m_train m_coach m_isKept m_sum m_comes m_isStood m_front m_has0 m_isOn m_letTick m_letYard m_letSpeed m_where m_pace m_stood m_isOff m_off m_wrong m_endTick (xs 1) (xs 2) (xs 3) (xs 4) (xs 5) H.size) (cwV 5 hw (gdV kw_801 kw_802 kw_803 kw_299 kw_800) rfl rfl rfl ⟨rfl, hdX11_paste⟩ ⟨(Nat.le_of_ble_eq_true rfl), (Nat.le_of_ble_eq_true rfl)⟩) (preQ_V (wc := [(m0, .inr (11, [.int 0, .ref m_width, .ref m_many, .ref m_cells, .ref m_moved, .ref m_tape, .int 0, .int 0, .int 0, .int 0, .int 0, .long 0, .int 0, .int 0, .int 0, .int (-1), .ref m_lines, .ref m_length, .ref m_rain, .ref m_has, .ref m_slope, .ref m_wet, .ref m_limit, .ref m_platform, .ref m_kind, .ref m_train, .ref m_coach, .ref m_isKept, .ref m_sum, .int 0, .int 15, .ref m_comes, .ref m_isStood, .int 0, .int 0, .int 0, .ref m_front, .ref m_has0, .ref m_isOn, .ref m_letTick, .ref m_letYard, .ref m_letSpeed, .ref m_where, .ref m_pace, .ref m_stood, .ref m_isOff, .ref m_off, .ref m_wrong, .int 0, .int 0, .int 0, .int 0, .ref m_endTick, .int 0, .int 0, .int 0, .int 0, .long 0])), (m_width, .inl (G.2 0, 4, .inl wd4))]) (ci := 11) hKG hP hD [6, 7] (by decide +kernel) rfl rfl rfl) rfl rfl hl.1 rfl (lv_room (Nat.le_of_ble_eq_true rfl)) dL_law_2086 ⟨(Nat.le_of_ble_eq_true rfl), (Nat.le_of_ble_eq_true rfl)⟩) hS hP hD hA [6, 7] [0, 1, 2, 3, 4, 5] rfl rfl (by decide +kernel) (by decide +kernel) (fun r10 u11 H locs hr10 hP hD hS => ?_)
    have hP : va_P G.1 vwCl [(x0, .inr (10, [.ref tp, .int 0, .ref rd, .ref nw, .ref sp, .ref im, .ref ir, .ref kp, .ref sl, .ref tk, .ref hn, .ref rc, .ref jn, .ref br, .ref sh])), (sl, .inl (G.2 5, 4, .inr (.inr (.inr (.inr (va_up (va_up (va_up (va_up (fun _ => none) 0 (some s0)) 1 (some s1)) 2 (some s2)) 3 (some s3))))))), (s0, .inr (8, [.ref n0, .int (-1), .int 0])), (s1, .inr (8, [.ref n1, .int (-1), .int 0])), (s2, .inr (8, [.ref n2, .int (-1), .int 0])), (s3, .inr (8, [.ref n3, .int (-1), .int 0]))] H := hP
    have hD : va_D (fun q : Nat => s.heap.size ≤ q) [(x0, .inr (10, [.ref tp, .int 0, .ref rd, .ref nw, .ref sp, .ref im, .ref ir, .ref kp, .ref sl, .ref tk, .ref hn, .ref rc, .ref jn, .ref br, .ref sh])), (sl, .inl (G.2 5, 4, .inr (.inr (.inr (.inr (va_up (va_up (va_up (va_up (fun _ => none) 0 (some s0)) 1 (some s1)) 2 (some s2)) 3 (some s3))))))), (s0, .inr (8, [.ref n0, .int (-1), .int 0])), (s1, .inr (8, [.ref n1, .int (-1), .int 0])), (s2, .inr (8, [.ref n2, .int (-1), .int 0])), (s3, .inr (8, [.ref n3, .int (-1), .int 0]))] := hD
    refine W.widen (k := 600000) (n := 7302250) (Nat.le_of_ble_eq_true rfl) (Nat.le_of_ble_eq_true rfl) ?_
    rcases hr10 with ⟨rfl, c12, c13, c14, c15⟩ | ⟨rfl, c16⟩ | ⟨rfl, c17⟩ | ⟨rfl, c18⟩ | ⟨rfl, c19⟩
    · refine lv_icmp_eq (tgt := 2094) hx hb dL_law_2089 (by decide) (fun c20 => ?_) (fun c20 => absurd (by decide) c20)
      exact law_tail (x0 := x0) (m0 := m0) C0 hS (lv_sub hl [0, 1, 2, 3] rfl)
    · exact False.elim (by have z1 := c2; have z2 := c3; have z3 := c16; simp only [fa_lt, fa_le, fa_eq, fa_lt64, fa_le64, fa_eq64, Int32.toInt_toInt64, tc_0, tc_3] at z1 z2 z3 <;> omega)
    · exact False.elim (by have z1 := c2; have z2 := c3; have z3 := c17; simp only [fa_lt, fa_le, fa_eq, fa_lt64, fa_le64, fa_eq64, Int32.toInt_toInt64, tc_0, tc_3] at z1 z2 z3 <;> omega)
    · exact False.elim (by have z1 := c4; have z2 := c5; have z3 := c18; simp only [fa_lt, fa_le, fa_eq, fa_lt64, fa_le64, fa_eq64, Int32.toInt_toInt64, tc_0, tc_3] at z1 z2 z3 <;> omega)
    · exact False.elim (by have z1 := c4; have z2 := c5; have z3 := c19; simp only [fa_lt, fa_le, fa_eq, fa_lt64, fa_le64, fa_eq64, Int32.toInt_toInt64, tc_0, tc_3] at z1 z2 z3 <;> omega)
  · refine lv_aload_n hx hb dL_law_2060 rfl (lv_at hl 1 rfl) ?_
    refine lv_aload_n hx hb dL_law_2061 rfl (lv_at hl 3 rfl) ?_
    refine lv_iload_n hx hb dL_law_2062 rfl (lv_at hl 0 rfl) ?_
    refine lv_iconst (v := 1) hx hb dL_law_2063 (by decide) ?_
    refine lv_iadd hx hb dL_law_2064 ?_
    refine lv_cst (y := 1) (by decide) ?_
    refine va_sld hx hb hX hbl hbA hS (vp_in_iff.mpr (by decide)) dL_law_2065 ?_
    refine lv_cst (y := xs 1) rfl ?_
    refine lv_aload_n hx hb dL_law_2066 rfl (lv_at hl 3 rfl) ?_
    refine lv_iload_n hx hb dL_law_2067 rfl (lv_at hl 0 rfl) ?_
    refine lv_iconst (v := 2) hx hb dL_law_2068 (by decide) ?_
    refine lv_iadd hx hb dL_law_2069 ?_
    refine lv_cst (y := 2) (by decide) ?_
    refine va_sld hx hb hX hbl hbA hS (vp_in_iff.mpr (by decide)) dL_law_2070 ?_
    refine lv_cst (y := xs 2) rfl ?_
    refine lv_aload_n hx hb dL_law_2071 rfl (lv_at hl 3 rfl) ?_
    refine lv_iload_n hx hb dL_law_2072 rfl (lv_at hl 0 rfl) ?_
    refine lv_iconst (v := 3) hx hb dL_law_2073 (by decide) ?_
    refine lv_iadd hx hb dL_law_2074 ?_
    refine lv_cst (y := 3) (by decide) ?_
    refine va_sld hx hb hX hbl hbA hS (vp_in_iff.mpr (by decide)) dL_law_2075 ?_
    refine lv_cst (y := xs 3) rfl ?_
    refine lv_aload_n hx hb dL_law_2076 rfl (lv_at hl 3 rfl) ?_
    refine lv_iload_n hx hb dL_law_2077 rfl (lv_at hl 0 rfl) ?_
    refine lv_iconst (v := 4) hx hb dL_law_2078 (by decide) ?_
    refine lv_iadd hx hb dL_law_2079 ?_
    refine lv_cst (y := 4) (by decide) ?_
    refine va_sld hx hb hX hbl hbA hS (vp_in_iff.mpr (by decide)) dL_law_2080 ?_
    refine lv_cst (y := xs 4) rfl ?_
    refine lv_aload_n hx hb dL_law_2081 rfl (lv_at hl 3 rfl) ?_
    refine lv_iload_n hx hb dL_law_2082 rfl (lv_at hl 0 rfl) ?_
    refine lv_iconst (v := 5) hx hb dL_law_2083 (by decide) ?_
    refine lv_iadd hx hb dL_law_2084 ?_
    refine lv_cst (y := 5) (by decide) ?_
    refine va_sld hx hb hX hbl hbA hS (vp_in_iff.mpr (by decide)) dL_law_2085 ?_
    refine lv_cst (y := xs 5) rfl ?_
    refine wq_calli (wr := [(x0, .inr (10, [.ref tp, .int 0, .ref rd, .ref nw, .ref sp, .ref im, .ref ir, .ref kp, .ref sl, .ref tk, .ref hn, .ref rc, .ref jn, .ref br, .ref sh])), (sl, .inl (G.2 5, 4, .inr (.inr (.inr (.inr (va_up (va_up (va_up (va_up (fun _ => none) 0 (some s0)) 1 (some s1)) 2 (some s2)) 3 (some s3))))))), (s0, .inr (8, [.ref n0, .int (-1), .int 0])), (s1, .inr (8, [.ref n1, .int (-1), .int 0])), (s2, .inr (8, [.ref n2, .int (-1), .int 0])), (s3, .inr (8, [.ref n3, .int (-1), .int 0]))]) (va_runV (As := [.int (xs 1), .int (xs 2), .int (xs 3), .int (xs 4), .int (xs 5)]) (rest := [.int (-2)]) ⟨hx, hb, hml, hown, hw⟩ (c_X11_paste l G m0 m_width m_many m_cells m_moved m_tape m_lines m_length m_rain m_has m_slope m_wet m_limit m_platform m_kind m_train m_coach m_isKept m_sum m_comes m_isStood m_front m_has0 m_isOn m_letTick m_letYard m_letSpeed m_where m_pace m_stood m_isOff m_off m_wrong m_endTick (xs 1) (xs 2) (xs 3) (xs 4) (xs 5) H.size) (cwV 5 hw (gdV kw_801 kw_802 kw_803 kw_299 kw_800) rfl rfl rfl ⟨rfl, hdX11_paste⟩ ⟨(Nat.le_of_ble_eq_true rfl), (Nat.le_of_ble_eq_true rfl)⟩) (preQ_V (wc := [(m0, .inr (11, [.int 0, .ref m_width, .ref m_many, .ref m_cells, .ref m_moved, .ref m_tape, .int 0, .int 0, .int 0, .int 0, .int 0, .long 0, .int 0, .int 0, .int 0, .int (-1), .ref m_lines, .ref m_length, .ref m_rain, .ref m_has, .ref m_slope, .ref m_wet, .ref m_limit, .ref m_platform, .ref m_kind, .ref m_train, .ref m_coach, .ref m_isKept, .ref m_sum, .int 0, .int 15, .ref m_comes, .ref m_isStood, .int 0, .int 0, .int 0, .ref m_front, .ref m_has0, .ref m_isOn, .ref m_letTick, .ref m_letYard, .ref m_letSpeed, .ref m_where, .ref m_pace, .ref m_stood, .ref m_isOff, .ref m_off, .ref m_wrong, .int 0, .int 0, .int 0, .int 0, .ref m_endTick, .int 0, .int 0, .int 0, .int 0, .long 0])), (m_width, .inl (G.2 0, 4, .inl wd4))]) (ci := 11) hKG hP hD [6, 7] (by decide +kernel) rfl rfl rfl) rfl rfl hl.1 rfl (lv_room (Nat.le_of_ble_eq_true rfl)) dL_law_2086 ⟨(Nat.le_of_ble_eq_true rfl), (Nat.le_of_ble_eq_true rfl)⟩) hS hP hD hA [6, 7] [0, 1, 2, 3, 4, 5] rfl rfl (by decide +kernel) (by decide +kernel) (fun r21 u22 H locs hr21 hP hD hS => ?_)
    have hP : va_P G.1 vwCl [(x0, .inr (10, [.ref tp, .int 0, .ref rd, .ref nw, .ref sp, .ref im, .ref ir, .ref kp, .ref sl, .ref tk, .ref hn, .ref rc, .ref jn, .ref br, .ref sh])), (sl, .inl (G.2 5, 4, .inr (.inr (.inr (.inr (va_up (va_up (va_up (va_up (fun _ => none) 0 (some s0)) 1 (some s1)) 2 (some s2)) 3 (some s3))))))), (s0, .inr (8, [.ref n0, .int (-1), .int 0])), (s1, .inr (8, [.ref n1, .int (-1), .int 0])), (s2, .inr (8, [.ref n2, .int (-1), .int 0])), (s3, .inr (8, [.ref n3, .int (-1), .int 0]))] H := hP
    have hD : va_D (fun q : Nat => s.heap.size ≤ q) [(x0, .inr (10, [.ref tp, .int 0, .ref rd, .ref nw, .ref sp, .ref im, .ref ir, .ref kp, .ref sl, .ref tk, .ref hn, .ref rc, .ref jn, .ref br, .ref sh])), (sl, .inl (G.2 5, 4, .inr (.inr (.inr (.inr (va_up (va_up (va_up (va_up (fun _ => none) 0 (some s0)) 1 (some s1)) 2 (some s2)) 3 (some s3))))))), (s0, .inr (8, [.ref n0, .int (-1), .int 0])), (s1, .inr (8, [.ref n1, .int (-1), .int 0])), (s2, .inr (8, [.ref n2, .int (-1), .int 0])), (s3, .inr (8, [.ref n3, .int (-1), .int 0]))] := hD
    refine W.widen (k := 600000) (n := 7302250) (Nat.le_of_ble_eq_true rfl) (Nat.le_of_ble_eq_true rfl) ?_
    rcases hr21 with ⟨rfl, c23, c24, c25, c26⟩ | ⟨rfl, c27⟩ | ⟨rfl, c28⟩ | ⟨rfl, c29⟩ | ⟨rfl, c30⟩
    · exact False.elim (by have z1 := c6; have z2 := c23; have z3 := c24; simp only [fa_lt, fa_le, fa_eq, fa_lt64, fa_le64, fa_eq64, Int32.toInt_toInt64, tc_0, tc_3] at z1 z2 z3 <;> omega)
    · refine lv_icmp_eq (tgt := 2094) hx hb dL_law_2089 (by decide) (fun c31 => ?_) (fun c31 => absurd (by decide) c31)
      exact law_tail (x0 := x0) (m0 := m0) C0 hS (lv_sub hl [0, 1, 2, 3] rfl)
    · exact False.elim (by have z1 := c6; have z2 := c28; simp only [fa_lt, fa_le, fa_eq, fa_lt64, fa_le64, fa_eq64, Int32.toInt_toInt64, tc_0, tc_3] at z1 z2 <;> omega)
    · refine lv_icmp_eq (tgt := 2094) hx hb dL_law_2089 (by decide) (fun c32 => ?_) (fun c32 => absurd (by decide) c32)
      exact law_tail (x0 := x0) (m0 := m0) C0 hS (lv_sub hl [0, 1, 2, 3] rfl)
    · refine lv_icmp_eq (tgt := 2094) hx hb dL_law_2089 (by decide) (fun c33 => ?_) (fun c33 => absurd (by decide) c33)
      exact law_tail (x0 := x0) (m0 := m0) C0 hS (lv_sub hl [0, 1, 2, 3] rfl)
  · refine lv_aload_n hx hb dL_law_2060 rfl (lv_at hl 1 rfl) ?_
    refine lv_aload_n hx hb dL_law_2061 rfl (lv_at hl 3 rfl) ?_
    refine lv_iload_n hx hb dL_law_2062 rfl (lv_at hl 0 rfl) ?_
    refine lv_iconst (v := 1) hx hb dL_law_2063 (by decide) ?_
    refine lv_iadd hx hb dL_law_2064 ?_
    refine lv_cst (y := 1) (by decide) ?_
    refine va_sld hx hb hX hbl hbA hS (vp_in_iff.mpr (by decide)) dL_law_2065 ?_
    refine lv_cst (y := xs 1) rfl ?_
    refine lv_aload_n hx hb dL_law_2066 rfl (lv_at hl 3 rfl) ?_
    refine lv_iload_n hx hb dL_law_2067 rfl (lv_at hl 0 rfl) ?_
    refine lv_iconst (v := 2) hx hb dL_law_2068 (by decide) ?_
    refine lv_iadd hx hb dL_law_2069 ?_
    refine lv_cst (y := 2) (by decide) ?_
    refine va_sld hx hb hX hbl hbA hS (vp_in_iff.mpr (by decide)) dL_law_2070 ?_
    refine lv_cst (y := xs 2) rfl ?_
    refine lv_aload_n hx hb dL_law_2071 rfl (lv_at hl 3 rfl) ?_
    refine lv_iload_n hx hb dL_law_2072 rfl (lv_at hl 0 rfl) ?_
    refine lv_iconst (v := 3) hx hb dL_law_2073 (by decide) ?_
    refine lv_iadd hx hb dL_law_2074 ?_
    refine lv_cst (y := 3) (by decide) ?_
    refine va_sld hx hb hX hbl hbA hS (vp_in_iff.mpr (by decide)) dL_law_2075 ?_
    refine lv_cst (y := xs 3) rfl ?_
    refine lv_aload_n hx hb dL_law_2076 rfl (lv_at hl 3 rfl) ?_
    refine lv_iload_n hx hb dL_law_2077 rfl (lv_at hl 0 rfl) ?_
    refine lv_iconst (v := 4) hx hb dL_law_2078 (by decide) ?_
    refine lv_iadd hx hb dL_law_2079 ?_
    refine lv_cst (y := 4) (by decide) ?_
    refine va_sld hx hb hX hbl hbA hS (vp_in_iff.mpr (by decide)) dL_law_2080 ?_
    refine lv_cst (y := xs 4) rfl ?_
    refine lv_aload_n hx hb dL_law_2081 rfl (lv_at hl 3 rfl) ?_
    refine lv_iload_n hx hb dL_law_2082 rfl (lv_at hl 0 rfl) ?_
    refine lv_iconst (v := 5) hx hb dL_law_2083 (by decide) ?_
    refine lv_iadd hx hb dL_law_2084 ?_
    refine lv_cst (y := 5) (by decide) ?_
    refine va_sld hx hb hX hbl hbA hS (vp_in_iff.mpr (by decide)) dL_law_2085 ?_
    refine lv_cst (y := xs 5) rfl ?_
    refine wq_calli (wr := [(x0, .inr (10, [.ref tp, .int 0, .ref rd, .ref nw, .ref sp, .ref im, .ref ir, .ref kp, .ref sl, .ref tk, .ref hn, .ref rc, .ref jn, .ref br, .ref sh])), (sl, .inl (G.2 5, 4, .inr (.inr (.inr (.inr (va_up (va_up (va_up (va_up (fun _ => none) 0 (some s0)) 1 (some s1)) 2 (some s2)) 3 (some s3))))))), (s0, .inr (8, [.ref n0, .int (-1), .int 0])), (s1, .inr (8, [.ref n1, .int (-1), .int 0])), (s2, .inr (8, [.ref n2, .int (-1), .int 0])), (s3, .inr (8, [.ref n3, .int (-1), .int 0]))]) (va_runV (As := [.int (xs 1), .int (xs 2), .int (xs 3), .int (xs 4), .int (xs 5)]) (rest := [.int (-2)]) ⟨hx, hb, hml, hown, hw⟩ (c_X11_paste l G m0 m_width m_many m_cells m_moved m_tape m_lines m_length m_rain m_has m_slope m_wet m_limit m_platform m_kind m_train m_coach m_isKept m_sum m_comes m_isStood m_front m_has0 m_isOn m_letTick m_letYard m_letSpeed m_where m_pace m_stood m_isOff m_off m_wrong m_endTick (xs 1) (xs 2) (xs 3) (xs 4) (xs 5) H.size) (cwV 5 hw (gdV kw_801 kw_802 kw_803 kw_299 kw_800) rfl rfl rfl ⟨rfl, hdX11_paste⟩ ⟨(Nat.le_of_ble_eq_true rfl), (Nat.le_of_ble_eq_true rfl)⟩) (preQ_V (wc := [(m0, .inr (11, [.int 0, .ref m_width, .ref m_many, .ref m_cells, .ref m_moved, .ref m_tape, .int 0, .int 0, .int 0, .int 0, .int 0, .long 0, .int 0, .int 0, .int 0, .int (-1), .ref m_lines, .ref m_length, .ref m_rain, .ref m_has, .ref m_slope, .ref m_wet, .ref m_limit, .ref m_platform, .ref m_kind, .ref m_train, .ref m_coach, .ref m_isKept, .ref m_sum, .int 0, .int 15, .ref m_comes, .ref m_isStood, .int 0, .int 0, .int 0, .ref m_front, .ref m_has0, .ref m_isOn, .ref m_letTick, .ref m_letYard, .ref m_letSpeed, .ref m_where, .ref m_pace, .ref m_stood, .ref m_isOff, .ref m_off, .ref m_wrong, .int 0, .int 0, .int 0, .int 0, .ref m_endTick, .int 0, .int 0, .int 0, .int 0, .long 0])), (m_width, .inl (G.2 0, 4, .inl wd4))]) (ci := 11) hKG hP hD [6, 7] (by decide +kernel) rfl rfl rfl) rfl rfl hl.1 rfl (lv_room (Nat.le_of_ble_eq_true rfl)) dL_law_2086 ⟨(Nat.le_of_ble_eq_true rfl), (Nat.le_of_ble_eq_true rfl)⟩) hS hP hD hA [6, 7] [0, 1, 2, 3, 4, 5] rfl rfl (by decide +kernel) (by decide +kernel) (fun r34 u35 H locs hr34 hP hD hS => ?_)
    have hP : va_P G.1 vwCl [(x0, .inr (10, [.ref tp, .int 0, .ref rd, .ref nw, .ref sp, .ref im, .ref ir, .ref kp, .ref sl, .ref tk, .ref hn, .ref rc, .ref jn, .ref br, .ref sh])), (sl, .inl (G.2 5, 4, .inr (.inr (.inr (.inr (va_up (va_up (va_up (va_up (fun _ => none) 0 (some s0)) 1 (some s1)) 2 (some s2)) 3 (some s3))))))), (s0, .inr (8, [.ref n0, .int (-1), .int 0])), (s1, .inr (8, [.ref n1, .int (-1), .int 0])), (s2, .inr (8, [.ref n2, .int (-1), .int 0])), (s3, .inr (8, [.ref n3, .int (-1), .int 0]))] H := hP
    have hD : va_D (fun q : Nat => s.heap.size ≤ q) [(x0, .inr (10, [.ref tp, .int 0, .ref rd, .ref nw, .ref sp, .ref im, .ref ir, .ref kp, .ref sl, .ref tk, .ref hn, .ref rc, .ref jn, .ref br, .ref sh])), (sl, .inl (G.2 5, 4, .inr (.inr (.inr (.inr (va_up (va_up (va_up (va_up (fun _ => none) 0 (some s0)) 1 (some s1)) 2 (some s2)) 3 (some s3))))))), (s0, .inr (8, [.ref n0, .int (-1), .int 0])), (s1, .inr (8, [.ref n1, .int (-1), .int 0])), (s2, .inr (8, [.ref n2, .int (-1), .int 0])), (s3, .inr (8, [.ref n3, .int (-1), .int 0]))] := hD
    refine W.widen (k := 600000) (n := 7302250) (Nat.le_of_ble_eq_true rfl) (Nat.le_of_ble_eq_true rfl) ?_
    rcases hr34 with ⟨rfl, c36, c37, c38, c39⟩ | ⟨rfl, c40⟩ | ⟨rfl, c41⟩ | ⟨rfl, c42⟩ | ⟨rfl, c43⟩
    · exact False.elim (by have z1 := c7; have z2 := c36; have z3 := c37; simp only [fa_lt, fa_le, fa_eq, fa_lt64, fa_le64, fa_eq64, Int32.toInt_toInt64, tc_0, tc_3] at z1 z2 z3 <;> omega)
    · exact False.elim (by have z1 := c7; have z2 := c40; simp only [fa_lt, fa_le, fa_eq, fa_lt64, fa_le64, fa_eq64, Int32.toInt_toInt64, tc_0, tc_3] at z1 z2 <;> omega)
    · refine lv_icmp_eq (tgt := 2094) hx hb dL_law_2089 (by decide) (fun c44 => ?_) (fun c44 => absurd (by decide) c44)
      exact law_tail (x0 := x0) (m0 := m0) C0 hS (lv_sub hl [0, 1, 2, 3] rfl)
    · refine lv_icmp_eq (tgt := 2094) hx hb dL_law_2089 (by decide) (fun c45 => ?_) (fun c45 => absurd (by decide) c45)
      exact law_tail (x0 := x0) (m0 := m0) C0 hS (lv_sub hl [0, 1, 2, 3] rfl)
    · refine lv_icmp_eq (tgt := 2094) hx hb dL_law_2089 (by decide) (fun c46 => ?_) (fun c46 => absurd (by decide) c46)
      exact law_tail (x0 := x0) (m0 := m0) C0 hS (lv_sub hl [0, 1, 2, 3] rfl)
  · refine lv_aload_n hx hb dL_law_2060 rfl (lv_at hl 1 rfl) ?_
    refine lv_aload_n hx hb dL_law_2061 rfl (lv_at hl 3 rfl) ?_
    refine lv_iload_n hx hb dL_law_2062 rfl (lv_at hl 0 rfl) ?_
    refine lv_iconst (v := 1) hx hb dL_law_2063 (by decide) ?_
    refine lv_iadd hx hb dL_law_2064 ?_
    refine lv_cst (y := 1) (by decide) ?_
    refine va_sld hx hb hX hbl hbA hS (vp_in_iff.mpr (by decide)) dL_law_2065 ?_
    refine lv_cst (y := xs 1) rfl ?_
    refine lv_aload_n hx hb dL_law_2066 rfl (lv_at hl 3 rfl) ?_
    refine lv_iload_n hx hb dL_law_2067 rfl (lv_at hl 0 rfl) ?_
    refine lv_iconst (v := 2) hx hb dL_law_2068 (by decide) ?_
    refine lv_iadd hx hb dL_law_2069 ?_
    refine lv_cst (y := 2) (by decide) ?_
    refine va_sld hx hb hX hbl hbA hS (vp_in_iff.mpr (by decide)) dL_law_2070 ?_
    refine lv_cst (y := xs 2) rfl ?_
    refine lv_aload_n hx hb dL_law_2071 rfl (lv_at hl 3 rfl) ?_
    refine lv_iload_n hx hb dL_law_2072 rfl (lv_at hl 0 rfl) ?_
    refine lv_iconst (v := 3) hx hb dL_law_2073 (by decide) ?_
    refine lv_iadd hx hb dL_law_2074 ?_
    refine lv_cst (y := 3) (by decide) ?_
    refine va_sld hx hb hX hbl hbA hS (vp_in_iff.mpr (by decide)) dL_law_2075 ?_
    refine lv_cst (y := xs 3) rfl ?_
    refine lv_aload_n hx hb dL_law_2076 rfl (lv_at hl 3 rfl) ?_
    refine lv_iload_n hx hb dL_law_2077 rfl (lv_at hl 0 rfl) ?_
    refine lv_iconst (v := 4) hx hb dL_law_2078 (by decide) ?_
    refine lv_iadd hx hb dL_law_2079 ?_
    refine lv_cst (y := 4) (by decide) ?_
    refine va_sld hx hb hX hbl hbA hS (vp_in_iff.mpr (by decide)) dL_law_2080 ?_
    refine lv_cst (y := xs 4) rfl ?_
    refine lv_aload_n hx hb dL_law_2081 rfl (lv_at hl 3 rfl) ?_
    refine lv_iload_n hx hb dL_law_2082 rfl (lv_at hl 0 rfl) ?_
    refine lv_iconst (v := 5) hx hb dL_law_2083 (by decide) ?_
    refine lv_iadd hx hb dL_law_2084 ?_
    refine lv_cst (y := 5) (by decide) ?_
    refine va_sld hx hb hX hbl hbA hS (vp_in_iff.mpr (by decide)) dL_law_2085 ?_
    refine lv_cst (y := xs 5) rfl ?_
    refine wq_calli (wr := [(x0, .inr (10, [.ref tp, .int 0, .ref rd, .ref nw, .ref sp, .ref im, .ref ir, .ref kp, .ref sl, .ref tk, .ref hn, .ref rc, .ref jn, .ref br, .ref sh])), (sl, .inl (G.2 5, 4, .inr (.inr (.inr (.inr (va_up (va_up (va_up (va_up (fun _ => none) 0 (some s0)) 1 (some s1)) 2 (some s2)) 3 (some s3))))))), (s0, .inr (8, [.ref n0, .int (-1), .int 0])), (s1, .inr (8, [.ref n1, .int (-1), .int 0])), (s2, .inr (8, [.ref n2, .int (-1), .int 0])), (s3, .inr (8, [.ref n3, .int (-1), .int 0]))]) (va_runV (As := [.int (xs 1), .int (xs 2), .int (xs 3), .int (xs 4), .int (xs 5)]) (rest := [.int (-2)]) ⟨hx, hb, hml, hown, hw⟩ (c_X11_paste l G m0 m_width m_many m_cells m_moved m_tape m_lines m_length m_rain m_has m_slope m_wet m_limit m_platform m_kind m_train m_coach m_isKept m_sum m_comes m_isStood m_front m_has0 m_isOn m_letTick m_letYard m_letSpeed m_where m_pace m_stood m_isOff m_off m_wrong m_endTick (xs 1) (xs 2) (xs 3) (xs 4) (xs 5) H.size) (cwV 5 hw (gdV kw_801 kw_802 kw_803 kw_299 kw_800) rfl rfl rfl ⟨rfl, hdX11_paste⟩ ⟨(Nat.le_of_ble_eq_true rfl), (Nat.le_of_ble_eq_true rfl)⟩) (preQ_V (wc := [(m0, .inr (11, [.int 0, .ref m_width, .ref m_many, .ref m_cells, .ref m_moved, .ref m_tape, .int 0, .int 0, .int 0, .int 0, .int 0, .long 0, .int 0, .int 0, .int 0, .int (-1), .ref m_lines, .ref m_length, .ref m_rain, .ref m_has, .ref m_slope, .ref m_wet, .ref m_limit, .ref m_platform, .ref m_kind, .ref m_train, .ref m_coach, .ref m_isKept, .ref m_sum, .int 0, .int 15, .ref m_comes, .ref m_isStood, .int 0, .int 0, .int 0, .ref m_front, .ref m_has0, .ref m_isOn, .ref m_letTick, .ref m_letYard, .ref m_letSpeed, .ref m_where, .ref m_pace, .ref m_stood, .ref m_isOff, .ref m_off, .ref m_wrong, .int 0, .int 0, .int 0, .int 0, .ref m_endTick, .int 0, .int 0, .int 0, .int 0, .long 0])), (m_width, .inl (G.2 0, 4, .inl wd4))]) (ci := 11) hKG hP hD [6, 7] (by decide +kernel) rfl rfl rfl) rfl rfl hl.1 rfl (lv_room (Nat.le_of_ble_eq_true rfl)) dL_law_2086 ⟨(Nat.le_of_ble_eq_true rfl), (Nat.le_of_ble_eq_true rfl)⟩) hS hP hD hA [6, 7] [0, 1, 2, 3, 4, 5] rfl rfl (by decide +kernel) (by decide +kernel) (fun r47 u48 H locs hr47 hP hD hS => ?_)
    have hP : va_P G.1 vwCl [(x0, .inr (10, [.ref tp, .int 0, .ref rd, .ref nw, .ref sp, .ref im, .ref ir, .ref kp, .ref sl, .ref tk, .ref hn, .ref rc, .ref jn, .ref br, .ref sh])), (sl, .inl (G.2 5, 4, .inr (.inr (.inr (.inr (va_up (va_up (va_up (va_up (fun _ => none) 0 (some s0)) 1 (some s1)) 2 (some s2)) 3 (some s3))))))), (s0, .inr (8, [.ref n0, .int (-1), .int 0])), (s1, .inr (8, [.ref n1, .int (-1), .int 0])), (s2, .inr (8, [.ref n2, .int (-1), .int 0])), (s3, .inr (8, [.ref n3, .int (-1), .int 0]))] H := hP
    have hD : va_D (fun q : Nat => s.heap.size ≤ q) [(x0, .inr (10, [.ref tp, .int 0, .ref rd, .ref nw, .ref sp, .ref im, .ref ir, .ref kp, .ref sl, .ref tk, .ref hn, .ref rc, .ref jn, .ref br, .ref sh])), (sl, .inl (G.2 5, 4, .inr (.inr (.inr (.inr (va_up (va_up (va_up (va_up (fun _ => none) 0 (some s0)) 1 (some s1)) 2 (some s2)) 3 (some s3))))))), (s0, .inr (8, [.ref n0, .int (-1), .int 0])), (s1, .inr (8, [.ref n1, .int (-1), .int 0])), (s2, .inr (8, [.ref n2, .int (-1), .int 0])), (s3, .inr (8, [.ref n3, .int (-1), .int 0]))] := hD
    refine W.widen (k := 600000) (n := 7302250) (Nat.le_of_ble_eq_true rfl) (Nat.le_of_ble_eq_true rfl) ?_
    rcases hr47 with ⟨rfl, c49, c50, c51, c52⟩ | ⟨rfl, c53⟩ | ⟨rfl, c54⟩ | ⟨rfl, c55⟩ | ⟨rfl, c56⟩
    · exact False.elim (by have z1 := c8; have z2 := c51; have z3 := c52; simp only [fa_lt, fa_le, fa_eq, fa_lt64, fa_le64, fa_eq64, Int32.toInt_toInt64, tc_0, tc_3] at z1 z2 z3 <;> omega)
    · refine lv_icmp_eq (tgt := 2094) hx hb dL_law_2089 (by decide) (fun c57 => ?_) (fun c57 => absurd (by decide) c57)
      exact law_tail (x0 := x0) (m0 := m0) C0 hS (lv_sub hl [0, 1, 2, 3] rfl)
    · refine lv_icmp_eq (tgt := 2094) hx hb dL_law_2089 (by decide) (fun c58 => ?_) (fun c58 => absurd (by decide) c58)
      exact law_tail (x0 := x0) (m0 := m0) C0 hS (lv_sub hl [0, 1, 2, 3] rfl)
    · refine lv_icmp_eq (tgt := 2094) hx hb dL_law_2089 (by decide) (fun c59 => ?_) (fun c59 => absurd (by decide) c59)
      exact law_tail (x0 := x0) (m0 := m0) C0 hS (lv_sub hl [0, 1, 2, 3] rfl)
    · exact False.elim (by have z1 := c8; have z2 := c56; simp only [fa_lt, fa_le, fa_eq, fa_lt64, fa_le64, fa_eq64, Int32.toInt_toInt64, tc_0, tc_3] at z1 z2 <;> omega)
  · refine lv_aload_n hx hb dL_law_2060 rfl (lv_at hl 1 rfl) ?_
    refine lv_aload_n hx hb dL_law_2061 rfl (lv_at hl 3 rfl) ?_
    refine lv_iload_n hx hb dL_law_2062 rfl (lv_at hl 0 rfl) ?_
    refine lv_iconst (v := 1) hx hb dL_law_2063 (by decide) ?_
    refine lv_iadd hx hb dL_law_2064 ?_
    refine lv_cst (y := 1) (by decide) ?_
    refine va_sld hx hb hX hbl hbA hS (vp_in_iff.mpr (by decide)) dL_law_2065 ?_
    refine lv_cst (y := xs 1) rfl ?_
    refine lv_aload_n hx hb dL_law_2066 rfl (lv_at hl 3 rfl) ?_
    refine lv_iload_n hx hb dL_law_2067 rfl (lv_at hl 0 rfl) ?_
    refine lv_iconst (v := 2) hx hb dL_law_2068 (by decide) ?_
    refine lv_iadd hx hb dL_law_2069 ?_
    refine lv_cst (y := 2) (by decide) ?_
    refine va_sld hx hb hX hbl hbA hS (vp_in_iff.mpr (by decide)) dL_law_2070 ?_
    refine lv_cst (y := xs 2) rfl ?_
    refine lv_aload_n hx hb dL_law_2071 rfl (lv_at hl 3 rfl) ?_
    refine lv_iload_n hx hb dL_law_2072 rfl (lv_at hl 0 rfl) ?_
    refine lv_iconst (v := 3) hx hb dL_law_2073 (by decide) ?_
    refine lv_iadd hx hb dL_law_2074 ?_
    refine lv_cst (y := 3) (by decide) ?_
    refine va_sld hx hb hX hbl hbA hS (vp_in_iff.mpr (by decide)) dL_law_2075 ?_
    refine lv_cst (y := xs 3) rfl ?_
    refine lv_aload_n hx hb dL_law_2076 rfl (lv_at hl 3 rfl) ?_
    refine lv_iload_n hx hb dL_law_2077 rfl (lv_at hl 0 rfl) ?_
    refine lv_iconst (v := 4) hx hb dL_law_2078 (by decide) ?_
    refine lv_iadd hx hb dL_law_2079 ?_
    refine lv_cst (y := 4) (by decide) ?_
    refine va_sld hx hb hX hbl hbA hS (vp_in_iff.mpr (by decide)) dL_law_2080 ?_
    refine lv_cst (y := xs 4) rfl ?_
    refine lv_aload_n hx hb dL_law_2081 rfl (lv_at hl 3 rfl) ?_
    refine lv_iload_n hx hb dL_law_2082 rfl (lv_at hl 0 rfl) ?_
    refine lv_iconst (v := 5) hx hb dL_law_2083 (by decide) ?_
    refine lv_iadd hx hb dL_law_2084 ?_
    refine lv_cst (y := 5) (by decide) ?_
    refine va_sld hx hb hX hbl hbA hS (vp_in_iff.mpr (by decide)) dL_law_2085 ?_
    refine lv_cst (y := xs 5) rfl ?_
    refine wq_calli (wr := [(x0, .inr (10, [.ref tp, .int 0, .ref rd, .ref nw, .ref sp, .ref im, .ref ir, .ref kp, .ref sl, .ref tk, .ref hn, .ref rc, .ref jn, .ref br, .ref sh])), (sl, .inl (G.2 5, 4, .inr (.inr (.inr (.inr (va_up (va_up (va_up (va_up (fun _ => none) 0 (some s0)) 1 (some s1)) 2 (some s2)) 3 (some s3))))))), (s0, .inr (8, [.ref n0, .int (-1), .int 0])), (s1, .inr (8, [.ref n1, .int (-1), .int 0])), (s2, .inr (8, [.ref n2, .int (-1), .int 0])), (s3, .inr (8, [.ref n3, .int (-1), .int 0]))]) (va_runV (As := [.int (xs 1), .int (xs 2), .int (xs 3), .int (xs 4), .int (xs 5)]) (rest := [.int (-2)]) ⟨hx, hb, hml, hown, hw⟩ (c_X11_paste l G m0 m_width m_many m_cells m_moved m_tape m_lines m_length m_rain m_has m_slope m_wet m_limit m_platform m_kind m_train m_coach m_isKept m_sum m_comes m_isStood m_front m_has0 m_isOn m_letTick m_letYard m_letSpeed m_where m_pace m_stood m_isOff m_off m_wrong m_endTick (xs 1) (xs 2) (xs 3) (xs 4) (xs 5) H.size) (cwV 5 hw (gdV kw_801 kw_802 kw_803 kw_299 kw_800) rfl rfl rfl ⟨rfl, hdX11_paste⟩ ⟨(Nat.le_of_ble_eq_true rfl), (Nat.le_of_ble_eq_true rfl)⟩) (preQ_V (wc := [(m0, .inr (11, [.int 0, .ref m_width, .ref m_many, .ref m_cells, .ref m_moved, .ref m_tape, .int 0, .int 0, .int 0, .int 0, .int 0, .long 0, .int 0, .int 0, .int 0, .int (-1), .ref m_lines, .ref m_length, .ref m_rain, .ref m_has, .ref m_slope, .ref m_wet, .ref m_limit, .ref m_platform, .ref m_kind, .ref m_train, .ref m_coach, .ref m_isKept, .ref m_sum, .int 0, .int 15, .ref m_comes, .ref m_isStood, .int 0, .int 0, .int 0, .ref m_front, .ref m_has0, .ref m_isOn, .ref m_letTick, .ref m_letYard, .ref m_letSpeed, .ref m_where, .ref m_pace, .ref m_stood, .ref m_isOff, .ref m_off, .ref m_wrong, .int 0, .int 0, .int 0, .int 0, .ref m_endTick, .int 0, .int 0, .int 0, .int 0, .long 0])), (m_width, .inl (G.2 0, 4, .inl wd4))]) (ci := 11) hKG hP hD [6, 7] (by decide +kernel) rfl rfl rfl) rfl rfl hl.1 rfl (lv_room (Nat.le_of_ble_eq_true rfl)) dL_law_2086 ⟨(Nat.le_of_ble_eq_true rfl), (Nat.le_of_ble_eq_true rfl)⟩) hS hP hD hA [6, 7] [0, 1, 2, 3, 4, 5] rfl rfl (by decide +kernel) (by decide +kernel) (fun r60 u61 H locs hr60 hP hD hS => ?_)
    have hP : va_P G.1 vwCl [(x0, .inr (10, [.ref tp, .int 0, .ref rd, .ref nw, .ref sp, .ref im, .ref ir, .ref kp, .ref sl, .ref tk, .ref hn, .ref rc, .ref jn, .ref br, .ref sh])), (sl, .inl (G.2 5, 4, .inr (.inr (.inr (.inr (va_up (va_up (va_up (va_up (fun _ => none) 0 (some s0)) 1 (some s1)) 2 (some s2)) 3 (some s3))))))), (s0, .inr (8, [.ref n0, .int (-1), .int 0])), (s1, .inr (8, [.ref n1, .int (-1), .int 0])), (s2, .inr (8, [.ref n2, .int (-1), .int 0])), (s3, .inr (8, [.ref n3, .int (-1), .int 0]))] H := hP
    have hD : va_D (fun q : Nat => s.heap.size ≤ q) [(x0, .inr (10, [.ref tp, .int 0, .ref rd, .ref nw, .ref sp, .ref im, .ref ir, .ref kp, .ref sl, .ref tk, .ref hn, .ref rc, .ref jn, .ref br, .ref sh])), (sl, .inl (G.2 5, 4, .inr (.inr (.inr (.inr (va_up (va_up (va_up (va_up (fun _ => none) 0 (some s0)) 1 (some s1)) 2 (some s2)) 3 (some s3))))))), (s0, .inr (8, [.ref n0, .int (-1), .int 0])), (s1, .inr (8, [.ref n1, .int (-1), .int 0])), (s2, .inr (8, [.ref n2, .int (-1), .int 0])), (s3, .inr (8, [.ref n3, .int (-1), .int 0]))] := hD
    refine W.widen (k := 600000) (n := 7302250) (Nat.le_of_ble_eq_true rfl) (Nat.le_of_ble_eq_true rfl) ?_
    rcases hr60 with ⟨rfl, c62, c63, c64, c65⟩ | ⟨rfl, c66⟩ | ⟨rfl, c67⟩ | ⟨rfl, c68⟩ | ⟨rfl, c69⟩
    · exact False.elim (by have z1 := c9; have z2 := c64; have z3 := c65; simp only [fa_lt, fa_le, fa_eq, fa_lt64, fa_le64, fa_eq64, Int32.toInt_toInt64, tc_0, tc_3] at z1 z2 z3 <;> omega)
    · refine lv_icmp_eq (tgt := 2094) hx hb dL_law_2089 (by decide) (fun c70 => ?_) (fun c70 => absurd (by decide) c70)
      exact law_tail (x0 := x0) (m0 := m0) C0 hS (lv_sub hl [0, 1, 2, 3] rfl)
    · refine lv_icmp_eq (tgt := 2094) hx hb dL_law_2089 (by decide) (fun c71 => ?_) (fun c71 => absurd (by decide) c71)
      exact law_tail (x0 := x0) (m0 := m0) C0 hS (lv_sub hl [0, 1, 2, 3] rfl)
    · exact False.elim (by have z1 := c9; have z2 := c68; simp only [fa_lt, fa_le, fa_eq, fa_lt64, fa_le64, fa_eq64, Int32.toInt_toInt64, tc_0, tc_3] at z1 z2 <;> omega)
    · refine lv_icmp_eq (tgt := 2094) hx hb dL_law_2089 (by decide) (fun c72 => ?_) (fun c72 => absurd (by decide) c72)
      exact law_tail (x0 := x0) (m0 := m0) C0 hS (lv_sub hl [0, 1, 2, 3] rfl)
