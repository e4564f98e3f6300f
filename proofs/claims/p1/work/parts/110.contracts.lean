set_option maxHeartbeats 4000000 in
set_option maxRecDepth 100000 in
theorem c_X11_end (l : Launch) (G : KG) (m0 : Nat) (m_width : Nat) (m_many : Nat) (m_cells : Nat) (m_moved : Nat) (m_tape : Nat) (m_lines : Nat) (m_length : Nat) (m_rain : Nat) (m_has : Nat) (m_slope : Nat) (m_wet : Nat) (m_limit : Nat) (m_platform : Nat) (m_kind : Nat) (m_train : Nat) (m_coach : Nat) (m_isKept : Nat) (m_sum : Nat) (m_comes : Nat) (m_isStood : Nat) (m_front : Nat) (m_has0 : Nat) (m_isOn : Nat) (m_letTick : Nat) (m_letYard : Nat) (m_letSpeed : Nat) (m_where : Nat) (m_pace : Nat) (m_stood : Nat) (m_isOff : Nat) (m_off : Nat) (m_wrong : Nat) (m_endTick : Nat) (p0 : Int32) (sz : Nat) : Met l yX11_end wgX11_end ({ frames := 1, cells := 0, slots := 0, locals := 25 }) (preQ G [.ref m0, .int p0] sz [(m0, .inr (11, [.int 0, .ref m_width, .ref m_many, .ref m_cells, .ref m_moved, .ref m_tape, .int 0, .int 0, .int 0, .int 0, .int 0, .long 0, .int 0, .int 0, .int 0, .int (-1), .ref m_lines, .ref m_length, .ref m_rain, .ref m_has, .ref m_slope, .ref m_wet, .ref m_limit, .ref m_platform, .ref m_kind, .ref m_train, .ref m_coach, .ref m_isKept, .ref m_sum, .int 0, .int 15, .ref m_comes, .ref m_isStood, .int 0, .int 0, .int 0, .ref m_front, .ref m_has0, .ref m_isOn, .ref m_letTick, .ref m_letYard, .ref m_letSpeed, .ref m_where, .ref m_pace, .ref m_stood, .ref m_isOff, .ref m_off, .ref m_wrong, .int 0, .int 0, .int 0, .int 0, .ref m_endTick, .int 0, .int 0, .int 0, .int 0, .long 0]))]) (va_Qi (fun (r : Int32) (u : Unit) => r = (if p0 = 0 then 0 else -1)) (fun u t => atQ G (va_A [(m0, .inr (11, [.int 0, .ref m_width, .ref m_many, .ref m_cells, .ref m_moved, .ref m_tape, .int 0, .int 0, .int 0, .int 0, .int 0, .long 0, .int 0, .int 0, .int 0, .int (-1), .ref m_lines, .ref m_length, .ref m_rain, .ref m_has, .ref m_slope, .ref m_wet, .ref m_limit, .ref m_platform, .ref m_kind, .ref m_train, .ref m_coach, .ref m_isKept, .ref m_sum, .int 0, .int 15, .ref m_comes, .ref m_isStood, .int 0, .int 0, .int 0, .ref m_front, .ref m_has0, .ref m_isOn, .ref m_letTick, .ref m_letYard, .ref m_letSpeed, .ref m_where, .ref m_pace, .ref m_stood, .ref m_isOff, .ref m_off, .ref m_wrong, .int 0, .int 0, .int 0, .int 0, .ref m_endTick, .int 0, .int 0, .int 0, .int 0, .long 0]))] sz) [] t) (va_A [(m0, .inr (11, [.int 0, .ref m_width, .ref m_many, .ref m_cells, .ref m_moved, .ref m_tape, .int 0, .int 0, .int 0, .int 0, .int 0, .long 0, .int 0, .int 0, .int 0, .int (-1), .ref m_lines, .ref m_length, .ref m_rain, .ref m_has, .ref m_slope, .ref m_wet, .ref m_limit, .ref m_platform, .ref m_kind, .ref m_train, .ref m_coach, .ref m_isKept, .ref m_sum, .int 0, .int 15, .ref m_comes, .ref m_isStood, .int 0, .int 0, .int 0, .ref m_front, .ref m_has0, .ref m_isOn, .ref m_letTick, .ref m_letYard, .ref m_letSpeed, .ref m_where, .ref m_pace, .ref m_stood, .ref m_isOff, .ref m_off, .ref m_wrong, .int 0, .int 0, .int 0, .int 0, .ref m_endTick, .int 0, .int 0, .int 0, .int 0, .long 0]))] sz)) 0 0 (va_A [(m0, .inr (11, [.int 0, .ref m_width, .ref m_many, .ref m_cells, .ref m_moved, .ref m_tape, .int 0, .int 0, .int 0, .int 0, .int 0, .long 0, .int 0, .int 0, .int 0, .int (-1), .ref m_lines, .ref m_length, .ref m_rain, .ref m_has, .ref m_slope, .ref m_wet, .ref m_limit, .ref m_platform, .ref m_kind, .ref m_train, .ref m_coach, .ref m_isKept, .ref m_sum, .int 0, .int 15, .ref m_comes, .ref m_isStood, .int 0, .int 0, .int 0, .ref m_front, .ref m_has0, .ref m_isOn, .ref m_letTick, .ref m_letYard, .ref m_letSpeed, .ref m_where, .ref m_pace, .ref m_stood, .ref m_isOff, .ref m_off, .ref m_wrong, .int 0, .int 0, .int 0, .int 0, .ref m_endTick, .int 0, .int 0, .int 0, .int 0, .long 0]))] sz) := by
  refine Met.ofW (cc := cX11_end) (maxL := 2) (ret := (some .int)) (by decide) rfl ?_
  intro p e s m args below meth c s₁ B hml hv
  obtain ⟨rfl, hsz, hP, hKG, hD0⟩ := hv
  obtain ⟨hK, hAO⟩ := id hKG
  have hx := B.exec
  have hb := B.bytes
  have hr := B.returns
  have hts := atoms_spec (ws := wgX11_end) B.pre
  have hw : ∀ w ∈ wG, w.before _ s = true := fun w h => hts w (List.mem_cons_of_mem _ h)
  have hown : s.vm.findClass RX11 = some m.cls := findClass_of_methodNamed B.named
  have hlocks := B.notSynchronized
  subst hsz
  have hD := hD0.self (sz := s.heap.size)
  generalize hAe : va_A [(m0, .inr (11, [.int 0, .ref m_width, .ref m_many, .ref m_cells, .ref m_moved, .ref m_tape, .int 0, .int 0, .int 0, .int 0, .int 0, .long 0, .int 0, .int 0, .int 0, .int (-1), .ref m_lines, .ref m_length, .ref m_rain, .ref m_has, .ref m_slope, .ref m_wet, .ref m_limit, .ref m_platform, .ref m_kind, .ref m_train, .ref m_coach, .ref m_isKept, .ref m_sum, .int 0, .int 15, .ref m_comes, .ref m_isStood, .int 0, .int 0, .int 0, .ref m_front, .ref m_has0, .ref m_isOn, .ref m_letTick, .ref m_letYard, .ref m_letSpeed, .ref m_where, .ref m_pace, .ref m_stood, .ref m_isOff, .ref m_off, .ref m_wrong, .int 0, .int 0, .int 0, .int 0, .ref m_endTick, .int 0, .int 0, .int 0, .int 0, .long 0]))] s.heap.size = A at hD ⊢
  have hA : ∀ q : Nat, s.heap.size ≤ q → A q := fun q h => by rw [← hAe]; exact Or.inr h
  have hS : va_S A s.heap s.heap [] := va_S.rf
  have hl := lv_entry ([.ref m0, .int p0]) (n := 2) (Nat.le_of_ble_eq_true rfl)
  rw [lg_entry_eq]
  generalize (lg_sl ([.ref m0, .int p0]) ++ List.replicate (2 - (lg_sl ([.ref m0, .int p0])).length) Slot.unset).toArray = ls at hl ⊢
  have hl : lv_has ls 2 [(0, .ref m0), (1, .int p0)] := hl
  refine lv_aload_n hx hb dX11_end_0 rfl (lv_at hl 0 rfl) ?_
  refine lv_iconst (v := 0) hx hb dX11_end_1 (by decide) ?_
  refine va_put (D := G.1) (ci := 11) (v := .int 0) (ty := .int) (C := RX11) (T := TX11) (N := 58) hx hb hw inGX11 tyX11 tyX11_ok nmX11 hown hK hP hD hS 0 rfl rfl 0 (by decide) (hw _ kw_314) (fun _ h9 => h9) rfl (by decide +kernel) rfl rfl (Nat.le_of_ble_eq_true rfl) dX11_end_2 (fun H locs hP hD hS => ?_)
  have hP : va_P G.1 vwCl [(m0, .inr (11, [.int 0, .ref m_width, .ref m_many, .ref m_cells, .ref m_moved, .ref m_tape, .int 0, .int 0, .int 0, .int 0, .int 0, .long 0, .int 0, .int 0, .int 0, .int (-1), .ref m_lines, .ref m_length, .ref m_rain, .ref m_has, .ref m_slope, .ref m_wet, .ref m_limit, .ref m_platform, .ref m_kind, .ref m_train, .ref m_coach, .ref m_isKept, .ref m_sum, .int 0, .int 15, .ref m_comes, .ref m_isStood, .int 0, .int 0, .int 0, .ref m_front, .ref m_has0, .ref m_isOn, .ref m_letTick, .ref m_letYard, .ref m_letSpeed, .ref m_where, .ref m_pace, .ref m_stood, .ref m_isOff, .ref m_off, .ref m_wrong, .int 0, .int 0, .int 0, .int 0, .ref m_endTick, .int 0, .int 0, .int 0, .int 0, .long 0]))] H := hP
  have hD : va_D A [(m0, .inr (11, [.int 0, .ref m_width, .ref m_many, .ref m_cells, .ref m_moved, .ref m_tape, .int 0, .int 0, .int 0, .int 0, .int 0, .long 0, .int 0, .int 0, .int 0, .int (-1), .ref m_lines, .ref m_length, .ref m_rain, .ref m_has, .ref m_slope, .ref m_wet, .ref m_limit, .ref m_platform, .ref m_kind, .ref m_train, .ref m_coach, .ref m_isKept, .ref m_sum, .int 0, .int 15, .ref m_comes, .ref m_isStood, .int 0, .int 0, .int 0, .ref m_front, .ref m_has0, .ref m_isOn, .ref m_letTick, .ref m_letYard, .ref m_letSpeed, .ref m_where, .ref m_pace, .ref m_stood, .ref m_isOff, .ref m_off, .ref m_wrong, .int 0, .int 0, .int 0, .int 0, .ref m_endTick, .int 0, .int 0, .int 0, .int 0, .long 0]))] := hD
  refine lv_iload_n hx hb dX11_end_5 rfl (lv_at hl 1 rfl) ?_
  refine lv_i2l hx hb dX11_end_6 rfl ?_
  refine lv_lconst (v := 0) hx hb dX11_end_7 (by decide) ?_
  refine lv_aload_n hx hb dX11_end_8 rfl (lv_at hl 0 rfl) ?_
  refine va_get (D := G.1) (ci := 11) (v := .int 0) (C := RX11) (T := TX11) (N := 58) hx hb hw inGX11 hown hK hP 0 rfl rfl 6 (by decide) (hw _ kw_338) (fun _ h9 => h9) rfl dX11_end_9 ?_
  refine lv_i2l (v := 0) hx hb dX11_end_12 (by decide) ?_
  refine vp_callSi (va_Run.run (va_runS (As := [.long p0.toInt64, .long 0, .long 0]) (rest := []) ⟨hx, hb, hml, hown, hw⟩ (c_in l G p0.toInt64 0 0) (va_cwS 3 hw (gdT kw_297 kw_298 kw_299 kw_296) rfl rfl rfl hdX11_in ⟨(Nat.le_of_ble_eq_true rfl), (Nat.le_of_ble_eq_true rfl)⟩) (preS_S (wc := []) hKG hP [] rfl) rfl rfl hl.1 rfl (lv_room (Nat.le_of_ble_eq_true rfl)) dX11_end_13 ⟨(Nat.le_of_ble_eq_true rfl), (Nat.le_of_ble_eq_true rfl)⟩)) (fun r1 hr1 => ?_)
  rcases hr1 with ⟨rfl, c2, c3⟩ | ⟨rfl, c4⟩ | ⟨rfl, c5⟩
  · refine lv_if_ne (tgt := 21) hx hb dX11_end_16 (by decide) (fun c6 => ?_) (fun c6 => absurd c6 (by decide))
    refine lv_aload_n hx hb dX11_end_21 rfl (lv_at hl 0 rfl) ?_
    refine lv_iload_n hx hb dX11_end_22 rfl (lv_at hl 1 rfl) ?_
    refine va_put (D := G.1) (ci := 11) (v := .int p0) (ty := .int) (C := RX11) (T := TX11) (N := 58) hx hb hw inGX11 tyX11 tyX11_ok nmX11 hown hK hP hD hS 0 rfl rfl 6 (by decide) (hw _ kw_338) (fun _ h9 => h9) rfl (by decide +kernel) rfl rfl (Nat.le_of_ble_eq_true rfl) dX11_end_23 (fun H locs hP hD hS => ?_)
    have hP : va_P G.1 vwCl [(m0, .inr (11, [.int 0, .ref m_width, .ref m_many, .ref m_cells, .ref m_moved, .ref m_tape, .int p0, .int 0, .int 0, .int 0, .int 0, .long 0, .int 0, .int 0, .int 0, .int (-1), .ref m_lines, .ref m_length, .ref m_rain, .ref m_has, .ref m_slope, .ref m_wet, .ref m_limit, .ref m_platform, .ref m_kind, .ref m_train, .ref m_coach, .ref m_isKept, .ref m_sum, .int 0, .int 15, .ref m_comes, .ref m_isStood, .int 0, .int 0, .int 0, .ref m_front, .ref m_has0, .ref m_isOn, .ref m_letTick, .ref m_letYard, .ref m_letSpeed, .ref m_where, .ref m_pace, .ref m_stood, .ref m_isOff, .ref m_off, .ref m_wrong, .int 0, .int 0, .int 0, .int 0, .ref m_endTick, .int 0, .int 0, .int 0, .int 0, .long 0]))] H := hP
    have hD : va_D A [(m0, .inr (11, [.int 0, .ref m_width, .ref m_many, .ref m_cells, .ref m_moved, .ref m_tape, .int p0, .int 0, .int 0, .int 0, .int 0, .long 0, .int 0, .int 0, .int 0, .int (-1), .ref m_lines, .ref m_length, .ref m_rain, .ref m_has, .ref m_slope, .ref m_wet, .ref m_limit, .ref m_platform, .ref m_kind, .ref m_train, .ref m_coach, .ref m_isKept, .ref m_sum, .int 0, .int 15, .ref m_comes, .ref m_isStood, .int 0, .int 0, .int 0, .ref m_front, .ref m_has0, .ref m_isOn, .ref m_letTick, .ref m_letYard, .ref m_letSpeed, .ref m_where, .ref m_pace, .ref m_stood, .ref m_isOff, .ref m_off, .ref m_wrong, .int 0, .int 0, .int 0, .int 0, .ref m_endTick, .int 0, .int 0, .int 0, .int 0, .long 0]))] := hD
    refine lv_iload_n hx hb dX11_end_26 rfl (lv_at hl 1 rfl) ?_
    exact W.iret (v := p0) hx hb hr (fun t ht hW => ⟨⟨p0, (), rfl, (by have e9 : p0 = 0 := Classical.byContradiction (fun zz => (by have z1 := c2; have z2 := c3; have z3 := zz; simp only [fa_lt, fa_le, fa_eq, fa_lt64, fa_le64, fa_eq64, Int32.toInt_toInt64, tc_0, tcl_0] at z1 z2 z3 <;> omega)); rw [e9]; rfl), ⟨by rw [ht]; exact hP.sub [] rfl, hD.sub [] (by decide +kernel) rfl⟩⟩, hS.F ht⟩) hS.2.2 dX11_end_27
  · refine lv_if_ne (tgt := 21) hx hb dX11_end_16 (by decide) (fun c7 => absurd (by decide) c7) (fun c7 => ?_)
    refine lv_iconst (v := (-1)) hx hb dX11_end_19 (by decide) ?_
    exact W.iret (v := (-1)) hx hb hr (fun t ht hW => ⟨⟨(-1), (), rfl, (if_neg (fun zz => (by have z1 := c4; have z2 := zz; simp only [fa_lt, fa_le, fa_eq, fa_lt64, fa_le64, fa_eq64, Int32.toInt_toInt64, tc_0, tcl_0] at z1 z2 <;> omega))).symm, ⟨by rw [ht]; exact hP.sub [] rfl, hD.sub [] (by decide +kernel) rfl⟩⟩, hS.F ht⟩) hS.2.2 dX11_end_20
  · refine lv_if_ne (tgt := 21) hx hb dX11_end_16 (by decide) (fun c8 => absurd (by decide) c8) (fun c8 => ?_)
    refine lv_iconst (v := (-1)) hx hb dX11_end_19 (by decide) ?_
    exact W.iret (v := (-1)) hx hb hr (fun t ht hW => ⟨⟨(-1), (), rfl, (if_neg (fun zz => (by have z1 := c5; have z2 := zz; simp only [fa_lt, fa_le, fa_eq, fa_lt64, fa_le64, fa_eq64, Int32.toInt_toInt64, tc_0, tcl_0] at z1 z2 <;> omega))).symm, ⟨by rw [ht]; exact hP.sub [] rfl, hD.sub [] (by decide +kernel) rfl⟩⟩, hS.F ht⟩) hS.2.2 dX11_end_20
set_option maxHeartbeats 4000000 in
set_option maxRecDepth 100000 in
theorem c_X11_count (l : Launch) (G : KG) (m0 : Nat) (m_width : Nat) (m_many : Nat) (m_cells : Nat) (m_moved : Nat) (m_tape : Nat) (m_lines : Nat) (m_length : Nat) (m_rain : Nat) (m_has : Nat) (m_slope : Nat) (m_wet : Nat) (m_limit : Nat) (m_platform : Nat) (m_kind : Nat) (m_train : Nat) (m_coach : Nat) (m_isKept : Nat) (m_sum : Nat) (m_comes : Nat) (m_isStood : Nat) (m_front : Nat) (m_has0 : Nat) (m_isOn : Nat) (m_letTick : Nat) (m_letYard : Nat) (m_letSpeed : Nat) (m_where : Nat) (m_pace : Nat) (m_stood : Nat) (m_isOff : Nat) (m_off : Nat) (m_wrong : Nat) (m_endTick : Nat) (p0 : Int32) (sz : Nat) : Met l yX11_count wgX11_count ({ frames := 0, cells := 0, slots := 0, locals := 0 }) (preQ G [.ref m0, .int p0] sz [(m0, .inr (11, [.int 0, .ref m_width, .ref m_many, .ref m_cells, .ref m_moved, .ref m_tape, .int 0, .int 0, .int 0, .int 0, .int 0, .long 0, .int 0, .int 0, .int 0, .int (-1), .ref m_lines, .ref m_length, .ref m_rain, .ref m_has, .ref m_slope, .ref m_wet, .ref m_limit, .ref m_platform, .ref m_kind, .ref m_train, .ref m_coach, .ref m_isKept, .ref m_sum, .int 0, .int 15, .ref m_comes, .ref m_isStood, .int 0, .int 0, .int 0, .ref m_front, .ref m_has0, .ref m_isOn, .ref m_letTick, .ref m_letYard, .ref m_letSpeed, .ref m_where, .ref m_pace, .ref m_stood, .ref m_isOff, .ref m_off, .ref m_wrong, .int 0, .int 0, .int 0, .int 0, .ref m_endTick, .int 0, .int 0, .int 0, .int 0, .long 0])), (m_length, .inl (G.2 0, 5, .inl (fun _ => 0))), (m_has, .inl (G.2 0, 35, .inl (fun _ => 0))), (m_lines, .inl (G.2 0, 5, .inl (fun _ => 0))), (m_rain, .inl (G.2 0, 5, .inl (fun _ => 0))), (m_width, .inl (G.2 0, 4, .inl wd4))]) (va_Qi (fun (r : Int32) (u : Unit) => r = cntA p0) (fun u t => atQ G (va_A [(m0, .inr (11, [.int 0, .ref m_width, .ref m_many, .ref m_cells, .ref m_moved, .ref m_tape, .int 0, .int 0, .int 0, .int 0, .int 0, .long 0, .int 0, .int 0, .int 0, .int (-1), .ref m_lines, .ref m_length, .ref m_rain, .ref m_has, .ref m_slope, .ref m_wet, .ref m_limit, .ref m_platform, .ref m_kind, .ref m_train, .ref m_coach, .ref m_isKept, .ref m_sum, .int 0, .int 15, .ref m_comes, .ref m_isStood, .int 0, .int 0, .int 0, .ref m_front, .ref m_has0, .ref m_isOn, .ref m_letTick, .ref m_letYard, .ref m_letSpeed, .ref m_where, .ref m_pace, .ref m_stood, .ref m_isOff, .ref m_off, .ref m_wrong, .int 0, .int 0, .int 0, .int 0, .ref m_endTick, .int 0, .int 0, .int 0, .int 0, .long 0])), (m_length, .inl (G.2 0, 5, .inl (fun _ => 0))), (m_has, .inl (G.2 0, 35, .inl (fun _ => 0))), (m_lines, .inl (G.2 0, 5, .inl (fun _ => 0))), (m_rain, .inl (G.2 0, 5, .inl (fun _ => 0))), (m_width, .inl (G.2 0, 4, .inl wd4))] sz) [] t) (va_A [(m0, .inr (11, [.int 0, .ref m_width, .ref m_many, .ref m_cells, .ref m_moved, .ref m_tape, .int 0, .int 0, .int 0, .int 0, .int 0, .long 0, .int 0, .int 0, .int 0, .int (-1), .ref m_lines, .ref m_length, .ref m_rain, .ref m_has, .ref m_slope, .ref m_wet, .ref m_limit, .ref m_platform, .ref m_kind, .ref m_train, .ref m_coach, .ref m_isKept, .ref m_sum, .int 0, .int 15, .ref m_comes, .ref m_isStood, .int 0, .int 0, .int 0, .ref m_front, .ref m_has0, .ref m_isOn, .ref m_letTick, .ref m_letYard, .ref m_letSpeed, .ref m_where, .ref m_pace, .ref m_stood, .ref m_isOff, .ref m_off, .ref m_wrong, .int 0, .int 0, .int 0, .int 0, .ref m_endTick, .int 0, .int 0, .int 0, .int 0, .long 0])), (m_length, .inl (G.2 0, 5, .inl (fun _ => 0))), (m_has, .inl (G.2 0, 35, .inl (fun _ => 0))), (m_lines, .inl (G.2 0, 5, .inl (fun _ => 0))), (m_rain, .inl (G.2 0, 5, .inl (fun _ => 0))), (m_width, .inl (G.2 0, 4, .inl wd4))] sz)) 0 0 (va_A [(m0, .inr (11, [.int 0, .ref m_width, .ref m_many, .ref m_cells, .ref m_moved, .ref m_tape, .int 0, .int 0, .int 0, .int 0, .int 0, .long 0, .int 0, .int 0, .int 0, .int (-1), .ref m_lines, .ref m_length, .ref m_rain, .ref m_has, .ref m_slope, .ref m_wet, .ref m_limit, .ref m_platform, .ref m_kind, .ref m_train, .ref m_coach, .ref m_isKept, .ref m_sum, .int 0, .int 15, .ref m_comes, .ref m_isStood, .int 0, .int 0, .int 0, .ref m_front, .ref m_has0, .ref m_isOn, .ref m_letTick, .ref m_letYard, .ref m_letSpeed, .ref m_where, .ref m_pace, .ref m_stood, .ref m_isOff, .ref m_off, .ref m_wrong, .int 0, .int 0, .int 0, .int 0, .ref m_endTick, .int 0, .int 0, .int 0, .int 0, .long 0])), (m_length, .inl (G.2 0, 5, .inl (fun _ => 0))), (m_has, .inl (G.2 0, 35, .inl (fun _ => 0))), (m_lines, .inl (G.2 0, 5, .inl (fun _ => 0))), (m_rain, .inl (G.2 0, 5, .inl (fun _ => 0))), (m_width, .inl (G.2 0, 4, .inl wd4))] sz) := by
  refine Met.ofW (cc := cX11_count) (maxL := 4) (ret := (some .int)) (by decide) rfl ?_
  intro p e s m args below meth c s₁ B hml hv
  obtain ⟨rfl, hsz, hP, hKG, hD0⟩ := hv
  obtain ⟨hK, hAO⟩ := id hKG
  have hx := B.exec
  have hb := B.bytes
  have hr := B.returns
  have hts := atoms_spec (ws := wgX11_count) B.pre
  have hw : ∀ w ∈ wG, w.before _ s = true := fun w h => hts w (List.mem_cons_of_mem _ h)
  have hown : s.vm.findClass RX11 = some m.cls := findClass_of_methodNamed B.named
  have hlocks := B.notSynchronized
  subst hsz
  have hD := hD0.self (sz := s.heap.size)
  generalize hAe : va_A [(m0, .inr (11, [.int 0, .ref m_width, .ref m_many, .ref m_cells, .ref m_moved, .ref m_tape, .int 0, .int 0, .int 0, .int 0, .int 0, .long 0, .int 0, .int 0, .int 0, .int (-1), .ref m_lines, .ref m_length, .ref m_rain, .ref m_has, .ref m_slope, .ref m_wet, .ref m_limit, .ref m_platform, .ref m_kind, .ref m_train, .ref m_coach, .ref m_isKept, .ref m_sum, .int 0, .int 15, .ref m_comes, .ref m_isStood, .int 0, .int 0, .int 0, .ref m_front, .ref m_has0, .ref m_isOn, .ref m_letTick, .ref m_letYard, .ref m_letSpeed, .ref m_where, .ref m_pace, .ref m_stood, .ref m_isOff, .ref m_off, .ref m_wrong, .int 0, .int 0, .int 0, .int 0, .ref m_endTick, .int 0, .int 0, .int 0, .int 0, .long 0])), (m_length, .inl (G.2 0, 5, .inl (fun _ => 0))), (m_has, .inl (G.2 0, 35, .inl (fun _ => 0))), (m_lines, .inl (G.2 0, 5, .inl (fun _ => 0))), (m_rain, .inl (G.2 0, 5, .inl (fun _ => 0))), (m_width, .inl (G.2 0, 4, .inl wd4))] s.heap.size = A at hD ⊢
  have hA : ∀ q : Nat, s.heap.size ≤ q → A q := fun q h => by rw [← hAe]; exact Or.inr h
  have hS : va_S A s.heap s.heap [] := va_S.rf
  have hl := lv_entry ([.ref m0, .int p0]) (n := 4) (Nat.le_of_ble_eq_true rfl)
  rw [lg_entry_eq]
  generalize (lg_sl ([.ref m0, .int p0]) ++ List.replicate (4 - (lg_sl ([.ref m0, .int p0])).length) Slot.unset).toArray = ls at hl ⊢
  have hl : lv_has ls 4 [(0, .ref m0), (1, .int p0)] := hl
  refine lv_aload_n hx hb dX11_count_0 rfl (lv_at hl 0 rfl) ?_
  refine lv_iconst (v := 0) hx hb dX11_count_1 (by decide) ?_
  refine va_put (D := G.1) (ci := 11) (v := .int 0) (ty := .int) (C := RX11) (T := TX11) (N := 58) hx hb hw inGX11 tyX11 tyX11_ok nmX11 hown hK hP hD hS 0 rfl rfl 0 (by decide) (hw _ kw_314) (fun _ h9 => h9) rfl (by decide +kernel) rfl rfl (Nat.le_of_ble_eq_true rfl) dX11_count_2 (fun H locs hP hD hS => ?_)
  have hP : va_P G.1 vwCl [(m0, .inr (11, [.int 0, .ref m_width, .ref m_many, .ref m_cells, .ref m_moved, .ref m_tape, .int 0, .int 0, .int 0, .int 0, .int 0, .long 0, .int 0, .int 0, .int 0, .int (-1), .ref m_lines, .ref m_length, .ref m_rain, .ref m_has, .ref m_slope, .ref m_wet, .ref m_limit, .ref m_platform, .ref m_kind, .ref m_train, .ref m_coach, .ref m_isKept, .ref m_sum, .int 0, .int 15, .ref m_comes, .ref m_isStood, .int 0, .int 0, .int 0, .ref m_front, .ref m_has0, .ref m_isOn, .ref m_letTick, .ref m_letYard, .ref m_letSpeed, .ref m_where, .ref m_pace, .ref m_stood, .ref m_isOff, .ref m_off, .ref m_wrong, .int 0, .int 0, .int 0, .int 0, .ref m_endTick, .int 0, .int 0, .int 0, .int 0, .long 0])), (m_length, .inl (G.2 0, 5, .inl (fun _ => 0))), (m_has, .inl (G.2 0, 35, .inl (fun _ => 0))), (m_lines, .inl (G.2 0, 5, .inl (fun _ => 0))), (m_rain, .inl (G.2 0, 5, .inl (fun _ => 0))), (m_width, .inl (G.2 0, 4, .inl wd4))] H := hP
  have hD : va_D A [(m0, .inr (11, [.int 0, .ref m_width, .ref m_many, .ref m_cells, .ref m_moved, .ref m_tape, .int 0, .int 0, .int 0, .int 0, .int 0, .long 0, .int 0, .int 0, .int 0, .int (-1), .ref m_lines, .ref m_length, .ref m_rain, .ref m_has, .ref m_slope, .ref m_wet, .ref m_limit, .ref m_platform, .ref m_kind, .ref m_train, .ref m_coach, .ref m_isKept, .ref m_sum, .int 0, .int 15, .ref m_comes, .ref m_isStood, .int 0, .int 0, .int 0, .ref m_front, .ref m_has0, .ref m_isOn, .ref m_letTick, .ref m_letYard, .ref m_letSpeed, .ref m_where, .ref m_pace, .ref m_stood, .ref m_isOff, .ref m_off, .ref m_wrong, .int 0, .int 0, .int 0, .int 0, .ref m_endTick, .int 0, .int 0, .int 0, .int 0, .long 0])), (m_length, .inl (G.2 0, 5, .inl (fun _ => 0))), (m_has, .inl (G.2 0, 35, .inl (fun _ => 0))), (m_lines, .inl (G.2 0, 5, .inl (fun _ => 0))), (m_rain, .inl (G.2 0, 5, .inl (fun _ => 0))), (m_width, .inl (G.2 0, 4, .inl wd4))] := hD
  refine lv_iconst (v := 0) hx hb dX11_count_5 (by decide) ?_
  refine lv_istore_n (lv' := [(2, .int 0), (0, .ref m0), (1, .int p0)]) hx hb dX11_count_6 rfl hl (by decide) rfl (fun ls hl => ?_)
  refine lv_iload_n hx hb dX11_count_7 rfl (lv_at hl 2 rfl) ?_
  by_cases c1 : p0.toInt < 0 ∨ 8 < p0.toInt
  · refine lv_tableOut (tgt := 148) hx hb dX11_count_8 c1 (by decide) ?_
    refine lv_iconst (v := (-1)) hx hb dX11_count_148 (by decide) ?_
    exact W.iret (v := (-1)) hx hb hr (fun t ht hW => ⟨⟨(-1), (), rfl, (if_pos (by assumption)).symm, ⟨by rw [ht]; exact hP.sub [] rfl, hD.sub [] (by decide +kernel) rfl⟩⟩, hS.F ht⟩) hS.2.2 dX11_count_149
  · rcases sw_0_8 p0 c1 with rfl | rfl | rfl | rfl | rfl | rfl | rfl | rfl | rfl
    · refine lv_tableIn (off := 52) (tgt := 60) hx hb dX11_count_8 (by decide) (by decide) rfl (by decide) ?_
      refine lv_aload_n hx hb dX11_count_60 rfl (lv_at hl 1 rfl) ?_
      refine va_get (D := G.1) (ci := 11) (v := .ref m_length) (C := RX11) (T := TX11) (N := 58) hx hb hw inGX11 hown hK hP 0 rfl rfl 17 (by decide) (hw _ kw_300) (fun _ h9 => h9) rfl dX11_count_61 ?_
      refine lv_iconst (v := 0) hx hb dX11_count_64 (by decide) ?_
      refine va_iald hx hb hK hP 1 0 rfl rfl (vp_in_iff.mpr (by decide)) dX11_count_65 ?_
      refine lv_cst (y := 0) rfl ?_
      exact W.iret (v := 0) hx hb hr (fun t ht hW => ⟨⟨0, (), rfl, (by decide), ⟨by rw [ht]; exact hP.sub [] rfl, hD.sub [] (by decide +kernel) rfl⟩⟩, hS.F ht⟩) hS.2.2 dX11_count_66
    · refine lv_tableIn (off := 59) (tgt := 67) hx hb dX11_count_8 (by decide) (by decide) rfl (by decide) ?_
      refine lv_aload_n hx hb dX11_count_67 rfl (lv_at hl 1 rfl) ?_
      refine va_get (D := G.1) (ci := 11) (v := .ref m_has) (C := RX11) (T := TX11) (N := 58) hx hb hw inGX11 hown hK hP 0 rfl rfl 19 (by decide) (hw _ kw_305) (fun _ h9 => h9) rfl dX11_count_68 ?_
      refine lv_iconst (v := 4) hx hb dX11_count_71 (by decide) ?_
      refine va_iald hx hb hK hP 2 0 rfl rfl (vp_in_iff.mpr (by decide)) dX11_count_72 ?_
      refine lv_cst (y := 0) rfl ?_
      exact W.iret (v := 0) hx hb hr (fun t ht hW => ⟨⟨0, (), rfl, (by decide), ⟨by rw [ht]; exact hP.sub [] rfl, hD.sub [] (by decide +kernel) rfl⟩⟩, hS.F ht⟩) hS.2.2 dX11_count_73
    · refine lv_tableIn (off := 66) (tgt := 74) hx hb dX11_count_8 (by decide) (by decide) rfl (by decide) ?_
      refine lv_aload_n hx hb dX11_count_74 rfl (lv_at hl 1 rfl) ?_
      refine va_get (D := G.1) (ci := 11) (v := .ref m_has) (C := RX11) (T := TX11) (N := 58) hx hb hw inGX11 hown hK hP 0 rfl rfl 19 (by decide) (hw _ kw_305) (fun _ h9 => h9) rfl dX11_count_75 ?_
      refine lv_iconst (v := 3) hx hb dX11_count_78 (by decide) ?_
      refine va_iald hx hb hK hP 2 0 rfl rfl (vp_in_iff.mpr (by decide)) dX11_count_79 ?_
      refine lv_cst (y := 0) rfl ?_
      exact W.iret (v := 0) hx hb hr (fun t ht hW => ⟨⟨0, (), rfl, (by decide), ⟨by rw [ht]; exact hP.sub [] rfl, hD.sub [] (by decide +kernel) rfl⟩⟩, hS.F ht⟩) hS.2.2 dX11_count_80
    · refine lv_tableIn (off := 73) (tgt := 81) hx hb dX11_count_8 (by decide) (by decide) rfl (by decide) ?_
      refine lv_aload_n hx hb dX11_count_81 rfl (lv_at hl 1 rfl) ?_
      refine va_get (D := G.1) (ci := 11) (v := .ref m_has) (C := RX11) (T := TX11) (N := 58) hx hb hw inGX11 hown hK hP 0 rfl rfl 19 (by decide) (hw _ kw_305) (fun _ h9 => h9) rfl dX11_count_82 ?_
      refine lv_iconst (v := 5) hx hb dX11_count_85 (by decide) ?_
      refine va_iald hx hb hK hP 2 0 rfl rfl (vp_in_iff.mpr (by decide)) dX11_count_86 ?_
      refine lv_cst (y := 0) rfl ?_
      exact W.iret (v := 0) hx hb hr (fun t ht hW => ⟨⟨0, (), rfl, (by decide), ⟨by rw [ht]; exact hP.sub [] rfl, hD.sub [] (by decide +kernel) rfl⟩⟩, hS.F ht⟩) hS.2.2 dX11_count_87
    · refine lv_tableIn (off := 80) (tgt := 88) hx hb dX11_count_8 (by decide) (by decide) rfl (by decide) ?_
      refine lv_aload_n hx hb dX11_count_88 rfl (lv_at hl 1 rfl) ?_
      refine va_get (D := G.1) (ci := 11) (v := .ref m_has) (C := RX11) (T := TX11) (N := 58) hx hb hw inGX11 hown hK hP 0 rfl rfl 19 (by decide) (hw _ kw_305) (fun _ h9 => h9) rfl dX11_count_89 ?_
      refine lv_bipush (v := 6) hx hb dX11_count_92 (by decide) ?_
      refine va_iald hx hb hK hP 2 0 rfl rfl (vp_in_iff.mpr (by decide)) dX11_count_94 ?_
      refine lv_cst (y := 0) rfl ?_
      exact W.iret (v := 0) hx hb hr (fun t ht hW => ⟨⟨0, (), rfl, (by decide), ⟨by rw [ht]; exact hP.sub [] rfl, hD.sub [] (by decide +kernel) rfl⟩⟩, hS.F ht⟩) hS.2.2 dX11_count_95
    · refine lv_tableIn (off := 88) (tgt := 96) hx hb dX11_count_8 (by decide) (by decide) rfl (by decide) ?_
      refine lv_aload_n hx hb dX11_count_96 rfl (lv_at hl 1 rfl) ?_
      refine va_get (D := G.1) (ci := 11) (v := .ref m_lines) (C := RX11) (T := TX11) (N := 58) hx hb hw inGX11 hown hK hP 0 rfl rfl 16 (by decide) (hw _ kw_339) (fun _ h9 => h9) rfl dX11_count_97 ?_
      refine lv_iconst (v := 0) hx hb dX11_count_100 (by decide) ?_
      refine va_iald hx hb hK hP 3 0 rfl rfl (vp_in_iff.mpr (by decide)) dX11_count_101 ?_
      refine lv_cst (y := 0) rfl ?_
      exact W.iret (v := 0) hx hb hr (fun t ht hW => ⟨⟨0, (), rfl, (by decide), ⟨by rw [ht]; exact hP.sub [] rfl, hD.sub [] (by decide +kernel) rfl⟩⟩, hS.F ht⟩) hS.2.2 dX11_count_102
    · refine lv_tableIn (off := 95) (tgt := 103) hx hb dX11_count_8 (by decide) (by decide) rfl (by decide) ?_
      refine lv_aload_n hx hb dX11_count_103 rfl (lv_at hl 1 rfl) ?_
      refine va_get (D := G.1) (ci := 11) (v := .int 0) (C := RX11) (T := TX11) (N := 58) hx hb hw inGX11 hown hK hP 0 rfl rfl 6 (by decide) (hw _ kw_338) (fun _ h9 => h9) rfl dX11_count_104 ?_
      exact W.iret (v := 0) hx hb hr (fun t ht hW => ⟨⟨0, (), rfl, (by decide), ⟨by rw [ht]; exact hP.sub [] rfl, hD.sub [] (by decide +kernel) rfl⟩⟩, hS.F ht⟩) hS.2.2 dX11_count_107
    · refine lv_tableIn (off := 100) (tgt := 108) hx hb dX11_count_8 (by decide) (by decide) rfl (by decide) ?_
      refine lv_aload_n hx hb dX11_count_108 rfl (lv_at hl 1 rfl) ?_
      refine va_get (D := G.1) (ci := 11) (v := .ref m_rain) (C := RX11) (T := TX11) (N := 58) hx hb hw inGX11 hown hK hP 0 rfl rfl 18 (by decide) (hw _ kw_340) (fun _ h9 => h9) rfl dX11_count_109 ?_
      refine lv_iconst (v := 0) hx hb dX11_count_112 (by decide) ?_
      refine va_iald hx hb hK hP 4 0 rfl rfl (vp_in_iff.mpr (by decide)) dX11_count_113 ?_
      refine lv_cst (y := 0) rfl ?_
      exact W.iret (v := 0) hx hb hr (fun t ht hW => ⟨⟨0, (), rfl, (by decide), ⟨by rw [ht]; exact hP.sub [] rfl, hD.sub [] (by decide +kernel) rfl⟩⟩, hS.F ht⟩) hS.2.2 dX11_count_114
    · refine lv_tableIn (off := 107) (tgt := 115) hx hb dX11_count_8 (by decide) (by decide) rfl (by decide) ?_
      refine lv_iconst (v := 0) hx hb dX11_count_115 (by decide) ?_
      refine lv_istore_n (lv' := [(3, .int 0), (2, .int 0), (0, .ref m0), (1, .int 8)]) hx hb dX11_count_116 rfl hl (by decide) rfl (fun ls hl => ?_)
      refine lv_iload_n hx hb dX11_count_117 rfl (lv_at hl 0 rfl) ?_
      refine lv_iconst (v := 4) hx hb dX11_count_118 (by decide) ?_
      refine lv_icmp_ge (tgt := 146) hx hb dX11_count_119 (by decide) (fun c2 => absurd c2 (by decide)) (fun c2 => ?_)
      refine lv_iload_n hx hb dX11_count_122 rfl (lv_at hl 1 rfl) ?_
      refine lv_aload_n hx hb dX11_count_123 rfl (lv_at hl 2 rfl) ?_
      refine va_get (D := G.1) (ci := 11) (v := .ref m_width) (C := RX11) (T := TX11) (N := 58) hx hb hw inGX11 hown hK hP 0 rfl rfl 1 (by decide) (hw _ kw_341) (fun _ h9 => h9) rfl dX11_count_124 ?_
      refine lv_iload_n hx hb dX11_count_127 rfl (lv_at hl 0 rfl) ?_
      refine va_iald hx hb hK hP 5 0 rfl rfl (vp_in_iff.mpr (by decide)) dX11_count_128 ?_
      refine lv_cst (y := (-1)) rfl ?_
      refine lv_iconst (v := (-1)) hx hb dX11_count_129 (by decide) ?_
      refine lv_icmp_ne (tgt := 137) hx hb dX11_count_130 (by decide) (fun c3 => absurd (by decide) c3) (fun c3 => ?_)
      refine lv_iconst (v := 0) hx hb dX11_count_133 (by decide) ?_
      refine lv_goto (tgt := 138) hx hb dX11_count_134 (by decide) ?_
      refine lv_iadd hx hb dX11_count_138 ?_
      refine lv_cst (y := 0) (by decide) ?_
      refine lv_istore_n (lv' := [(2, .int 0), (3, .int 0), (0, .ref m0), (1, .int 8)]) hx hb dX11_count_139 rfl hl (by decide) rfl (fun ls hl => ?_)
      refine lv_iinc (v := 1) (lv' := [(3, .int 1), (2, .int 0), (0, .ref m0), (1, .int 8)]) hx hb dX11_count_140 hl (k := 1) rfl (by decide) (by decide) rfl (fun ls hl => ?_)
      refine lv_goto (tgt := 117) hx hb dX11_count_143 (by decide) ?_
      refine lv_iload_n hx hb dX11_count_117 rfl (lv_at hl 0 rfl) ?_
      refine lv_iconst (v := 4) hx hb dX11_count_118 (by decide) ?_
      refine lv_icmp_ge (tgt := 146) hx hb dX11_count_119 (by decide) (fun c4 => absurd c4 (by decide)) (fun c4 => ?_)
      refine lv_iload_n hx hb dX11_count_122 rfl (lv_at hl 1 rfl) ?_
      refine lv_aload_n hx hb dX11_count_123 rfl (lv_at hl 2 rfl) ?_
      refine va_get (D := G.1) (ci := 11) (v := .ref m_width) (C := RX11) (T := TX11) (N := 58) hx hb hw inGX11 hown hK hP 0 rfl rfl 1 (by decide) (hw _ kw_341) (fun _ h9 => h9) rfl dX11_count_124 ?_
      refine lv_iload_n hx hb dX11_count_127 rfl (lv_at hl 0 rfl) ?_
      refine va_iald hx hb hK hP 5 0 rfl rfl (vp_in_iff.mpr (by decide)) dX11_count_128 ?_
      refine lv_cst (y := (-1)) rfl ?_
      refine lv_iconst (v := (-1)) hx hb dX11_count_129 (by decide) ?_
      refine lv_icmp_ne (tgt := 137) hx hb dX11_count_130 (by decide) (fun c5 => absurd (by decide) c5) (fun c5 => ?_)
      refine lv_iconst (v := 0) hx hb dX11_count_133 (by decide) ?_
      refine lv_goto (tgt := 138) hx hb dX11_count_134 (by decide) ?_
      refine lv_iadd hx hb dX11_count_138 ?_
      refine lv_cst (y := 0) (by decide) ?_
      refine lv_istore_n (lv' := [(2, .int 0), (3, .int 1), (0, .ref m0), (1, .int 8)]) hx hb dX11_count_139 rfl hl (by decide) rfl (fun ls hl => ?_)
      refine lv_iinc (v := 2) (lv' := [(3, .int 2), (2, .int 0), (0, .ref m0), (1, .int 8)]) hx hb dX11_count_140 hl (k := 1) rfl (by decide) (by decide) rfl (fun ls hl => ?_)
      refine lv_goto (tgt := 117) hx hb dX11_count_143 (by decide) ?_
      refine lv_iload_n hx hb dX11_count_117 rfl (lv_at hl 0 rfl) ?_
      refine lv_iconst (v := 4) hx hb dX11_count_118 (by decide) ?_
      refine lv_icmp_ge (tgt := 146) hx hb dX11_count_119 (by decide) (fun c6 => absurd c6 (by decide)) (fun c6 => ?_)
      refine lv_iload_n hx hb dX11_count_122 rfl (lv_at hl 1 rfl) ?_
      refine lv_aload_n hx hb dX11_count_123 rfl (lv_at hl 2 rfl) ?_
      refine va_get (D := G.1) (ci := 11) (v := .ref m_width) (C := RX11) (T := TX11) (N := 58) hx hb hw inGX11 hown hK hP 0 rfl rfl 1 (by decide) (hw _ kw_341) (fun _ h9 => h9) rfl dX11_count_124 ?_
      refine lv_iload_n hx hb dX11_count_127 rfl (lv_at hl 0 rfl) ?_
      refine va_iald hx hb hK hP 5 0 rfl rfl (vp_in_iff.mpr (by decide)) dX11_count_128 ?_
      refine lv_cst (y := (-1)) rfl ?_
      refine lv_iconst (v := (-1)) hx hb dX11_count_129 (by decide) ?_
      refine lv_icmp_ne (tgt := 137) hx hb dX11_count_130 (by decide) (fun c7 => absurd (by decide) c7) (fun c7 => ?_)
      refine lv_iconst (v := 0) hx hb dX11_count_133 (by decide) ?_
      refine lv_goto (tgt := 138) hx hb dX11_count_134 (by decide) ?_
      refine lv_iadd hx hb dX11_count_138 ?_
      refine lv_cst (y := 0) (by decide) ?_
      refine lv_istore_n (lv' := [(2, .int 0), (3, .int 2), (0, .ref m0), (1, .int 8)]) hx hb dX11_count_139 rfl hl (by decide) rfl (fun ls hl => ?_)
      refine lv_iinc (v := 3) (lv' := [(3, .int 3), (2, .int 0), (0, .ref m0), (1, .int 8)]) hx hb dX11_count_140 hl (k := 1) rfl (by decide) (by decide) rfl (fun ls hl => ?_)
      refine lv_goto (tgt := 117) hx hb dX11_count_143 (by decide) ?_
      refine lv_iload_n hx hb dX11_count_117 rfl (lv_at hl 0 rfl) ?_
      refine lv_iconst (v := 4) hx hb dX11_count_118 (by decide) ?_
      refine lv_icmp_ge (tgt := 146) hx hb dX11_count_119 (by decide) (fun c8 => absurd c8 (by decide)) (fun c8 => ?_)
      refine lv_iload_n hx hb dX11_count_122 rfl (lv_at hl 1 rfl) ?_
      refine lv_aload_n hx hb dX11_count_123 rfl (lv_at hl 2 rfl) ?_
      refine va_get (D := G.1) (ci := 11) (v := .ref m_width) (C := RX11) (T := TX11) (N := 58) hx hb hw inGX11 hown hK hP 0 rfl rfl 1 (by decide) (hw _ kw_341) (fun _ h9 => h9) rfl dX11_count_124 ?_
      refine lv_iload_n hx hb dX11_count_127 rfl (lv_at hl 0 rfl) ?_
      refine va_iald hx hb hK hP 5 0 rfl rfl (vp_in_iff.mpr (by decide)) dX11_count_128 ?_
      refine lv_cst (y := (-1)) rfl ?_
      refine lv_iconst (v := (-1)) hx hb dX11_count_129 (by decide) ?_
      refine lv_icmp_ne (tgt := 137) hx hb dX11_count_130 (by decide) (fun c9 => absurd (by decide) c9) (fun c9 => ?_)
      refine lv_iconst (v := 0) hx hb dX11_count_133 (by decide) ?_
      refine lv_goto (tgt := 138) hx hb dX11_count_134 (by decide) ?_
      refine lv_iadd hx hb dX11_count_138 ?_
      refine lv_cst (y := 0) (by decide) ?_
      refine lv_istore_n (lv' := [(2, .int 0), (3, .int 3), (0, .ref m0), (1, .int 8)]) hx hb dX11_count_139 rfl hl (by decide) rfl (fun ls hl => ?_)
      refine lv_iinc (v := 4) (lv' := [(3, .int 4), (2, .int 0), (0, .ref m0), (1, .int 8)]) hx hb dX11_count_140 hl (k := 1) rfl (by decide) (by decide) rfl (fun ls hl => ?_)
      refine lv_goto (tgt := 117) hx hb dX11_count_143 (by decide) ?_
      refine lv_iload_n hx hb dX11_count_117 rfl (lv_at hl 0 rfl) ?_
      refine lv_iconst (v := 4) hx hb dX11_count_118 (by decide) ?_
      refine lv_icmp_ge (tgt := 146) hx hb dX11_count_119 (by decide) (fun c10 => ?_) (fun c10 => absurd (by decide) c10)
      refine lv_iload_n hx hb dX11_count_146 rfl (lv_at hl 1 rfl) ?_
      exact W.iret (v := 0) hx hb hr (fun t ht hW => ⟨⟨0, (), rfl, (by decide), ⟨by rw [ht]; exact hP.sub [] rfl, hD.sub [] (by decide +kernel) rfl⟩⟩, hS.F ht⟩) hS.2.2 dX11_count_147
set_option maxHeartbeats 4000000 in
set_option maxRecDepth 100000 in
theorem c_four_0 (l : Launch) (G : KG) (m0 : Nat) (m_width : Nat) (m_many : Nat) (m_cells : Nat) (m_moved : Nat) (m_tape : Nat) (m_lines : Nat) (m_length : Nat) (m_rain : Nat) (m_has : Nat) (m_slope : Nat) (m_wet : Nat) (m_limit : Nat) (m_platform : Nat) (m_kind : Nat) (m_train : Nat) (m_coach : Nat) (m_isKept : Nat) (m_sum : Nat) (m_comes : Nat) (m_isStood : Nat) (m_front : Nat) (m_has0 : Nat) (m_isOn : Nat) (m_letTick : Nat) (m_letYard : Nat) (m_letSpeed : Nat) (m_where : Nat) (m_pace : Nat) (m_stood : Nat) (m_isOff : Nat) (m_off : Nat) (m_wrong : Nat) (m_endTick : Nat) (f0 : Nat → Int32) (p0 : Int32) (sz : Nat) : Met l yX11_four wgX11_four ({ frames := 0, cells := 0, slots := 0, locals := 0 }) (preQ G [.ref m0, .int p0] sz [(m0, .inr (11, [.int 0, .ref m_width, .ref m_many, .ref m_cells, .ref m_moved, .ref m_tape, .int 0, .int 0, .int 0, .int 0, .int 0, .long 0, .int 0, .int 0, .int 0, .int (-1), .ref m_lines, .ref m_length, .ref m_rain, .ref m_has, .ref m_slope, .ref m_wet, .ref m_limit, .ref m_platform, .ref m_kind, .ref m_train, .ref m_coach, .ref m_isKept, .ref m_sum, .int 0, .int 15, .ref m_comes, .ref m_isStood, .int 0, .int 0, .int 0, .ref m_front, .ref m_has0, .ref m_isOn, .ref m_letTick, .ref m_letYard, .ref m_letSpeed, .ref m_where, .ref m_pace, .ref m_stood, .ref m_isOff, .ref m_off, .ref m_wrong, .int 0, .int 0, .int 0, .int 0, .ref m_endTick, .int 0, .int 0, .int 0, .int 0, .long 0])), (m_tape, .inl (G.2 1, 1600, .inl f0))]) (va_Qv (fun (u : (Nat → Int32)) => True) (fun u t => atQ G (va_A [(m0, .inr (11, [.int 0, .ref m_width, .ref m_many, .ref m_cells, .ref m_moved, .ref m_tape, .int 0, .int 0, .int 0, .int 0, .int 0, .long 0, .int 0, .int 0, .int 0, .int (-1), .ref m_lines, .ref m_length, .ref m_rain, .ref m_has, .ref m_slope, .ref m_wet, .ref m_limit, .ref m_platform, .ref m_kind, .ref m_train, .ref m_coach, .ref m_isKept, .ref m_sum, .int 0, .int 15, .ref m_comes, .ref m_isStood, .int 0, .int 0, .int 0, .ref m_front, .ref m_has0, .ref m_isOn, .ref m_letTick, .ref m_letYard, .ref m_letSpeed, .ref m_where, .ref m_pace, .ref m_stood, .ref m_isOff, .ref m_off, .ref m_wrong, .int 0, .int 0, .int 0, .int 0, .ref m_endTick, .int 0, .int 0, .int 0, .int 0, .long 0])), (m_tape, .inl (G.2 1, 1600, .inl f0))] sz) [(m0, .inr (11, [.int 0, .ref m_width, .ref m_many, .ref m_cells, .ref m_moved, .ref m_tape, .int 4, .int 0, .int 0, .int 0, .int 0, .long 0, .int 0, .int 0, .int 0, .int (-1), .ref m_lines, .ref m_length, .ref m_rain, .ref m_has, .ref m_slope, .ref m_wet, .ref m_limit, .ref m_platform, .ref m_kind, .ref m_train, .ref m_coach, .ref m_isKept, .ref m_sum, .int 0, .int 15, .ref m_comes, .ref m_isStood, .int 0, .int 0, .int 0, .ref m_front, .ref m_has0, .ref m_isOn, .ref m_letTick, .ref m_letYard, .ref m_letSpeed, .ref m_where, .ref m_pace, .ref m_stood, .ref m_isOff, .ref m_off, .ref m_wrong, .int 0, .int 0, .int 0, .int 0, .ref m_endTick, .int 0, .int 0, .int 0, .int 0, .long 0])), (m_tape, .inl (G.2 1, 1600, .inl u))] t) (va_A [(m0, .inr (11, [.int 0, .ref m_width, .ref m_many, .ref m_cells, .ref m_moved, .ref m_tape, .int 0, .int 0, .int 0, .int 0, .int 0, .long 0, .int 0, .int 0, .int 0, .int (-1), .ref m_lines, .ref m_length, .ref m_rain, .ref m_has, .ref m_slope, .ref m_wet, .ref m_limit, .ref m_platform, .ref m_kind, .ref m_train, .ref m_coach, .ref m_isKept, .ref m_sum, .int 0, .int 15, .ref m_comes, .ref m_isStood, .int 0, .int 0, .int 0, .ref m_front, .ref m_has0, .ref m_isOn, .ref m_letTick, .ref m_letYard, .ref m_letSpeed, .ref m_where, .ref m_pace, .ref m_stood, .ref m_isOff, .ref m_off, .ref m_wrong, .int 0, .int 0, .int 0, .int 0, .ref m_endTick, .int 0, .int 0, .int 0, .int 0, .long 0])), (m_tape, .inl (G.2 1, 1600, .inl f0))] sz)) 0 0 (va_A [(m0, .inr (11, [.int 0, .ref m_width, .ref m_many, .ref m_cells, .ref m_moved, .ref m_tape, .int 0, .int 0, .int 0, .int 0, .int 0, .long 0, .int 0, .int 0, .int 0, .int (-1), .ref m_lines, .ref m_length, .ref m_rain, .ref m_has, .ref m_slope, .ref m_wet, .ref m_limit, .ref m_platform, .ref m_kind, .ref m_train, .ref m_coach, .ref m_isKept, .ref m_sum, .int 0, .int 15, .ref m_comes, .ref m_isStood, .int 0, .int 0, .int 0, .ref m_front, .ref m_has0, .ref m_isOn, .ref m_letTick, .ref m_letYard, .ref m_letSpeed, .ref m_where, .ref m_pace, .ref m_stood, .ref m_isOff, .ref m_off, .ref m_wrong, .int 0, .int 0, .int 0, .int 0, .ref m_endTick, .int 0, .int 0, .int 0, .int 0, .long 0])), (m_tape, .inl (G.2 1, 1600, .inl f0))] sz) := by
  refine Met.ofW (cc := cX11_four) (maxL := 3) (ret := none) (by decide) rfl ?_
  intro p e s m args below meth c s₁ B hml hv
  obtain ⟨rfl, hsz, hP, hKG, hD0⟩ := hv
  obtain ⟨hK, hAO⟩ := id hKG
  have hx := B.exec
  have hb := B.bytes
  have hr := B.returns
  have hts := atoms_spec (ws := wgX11_four) B.pre
  have hw : ∀ w ∈ wG, w.before _ s = true := fun w h => hts w (List.mem_cons_of_mem _ h)
  have hown : s.vm.findClass RX11 = some m.cls := findClass_of_methodNamed B.named
  have hlocks := B.notSynchronized
  subst hsz
  have hD := hD0.self (sz := s.heap.size)
  generalize hAe : va_A [(m0, .inr (11, [.int 0, .ref m_width, .ref m_many, .ref m_cells, .ref m_moved, .ref m_tape, .int 0, .int 0, .int 0, .int 0, .int 0, .long 0, .int 0, .int 0, .int 0, .int (-1), .ref m_lines, .ref m_length, .ref m_rain, .ref m_has, .ref m_slope, .ref m_wet, .ref m_limit, .ref m_platform, .ref m_kind, .ref m_train, .ref m_coach, .ref m_isKept, .ref m_sum, .int 0, .int 15, .ref m_comes, .ref m_isStood, .int 0, .int 0, .int 0, .ref m_front, .ref m_has0, .ref m_isOn, .ref m_letTick, .ref m_letYard, .ref m_letSpeed, .ref m_where, .ref m_pace, .ref m_stood, .ref m_isOff, .ref m_off, .ref m_wrong, .int 0, .int 0, .int 0, .int 0, .ref m_endTick, .int 0, .int 0, .int 0, .int 0, .long 0])), (m_tape, .inl (G.2 1, 1600, .inl f0))] s.heap.size = A at hD ⊢
  have hA : ∀ q : Nat, s.heap.size ≤ q → A q := fun q h => by rw [← hAe]; exact Or.inr h
  have hS : va_S A s.heap s.heap [] := va_S.rf
  have hl := lv_entry ([.ref m0, .int p0]) (n := 3) (Nat.le_of_ble_eq_true rfl)
  rw [lg_entry_eq]
  generalize (lg_sl ([.ref m0, .int p0]) ++ List.replicate (3 - (lg_sl ([.ref m0, .int p0])).length) Slot.unset).toArray = ls at hl ⊢
  have hl : lv_has ls 3 [(0, .ref m0), (1, .int p0)] := hl
  refine lv_bipush (v := 24) hx hb dX11_four_0 (by decide) ?_
  refine lv_istore_n (lv' := [(2, .int 24), (0, .ref m0), (1, .int p0)]) hx hb dX11_four_2 rfl hl (by decide) rfl (fun ls hl => ?_)
  refine lv_iload_n hx hb dX11_four_3 rfl (lv_at hl 0 rfl) ?_
  refine lv_if_lt (tgt := 36) hx hb dX11_four_4 (by decide) (fun c1 => absurd c1 (by decide)) (fun c1 => ?_)
  refine lv_aload_n hx hb dX11_four_7 rfl (lv_at hl 1 rfl) ?_
  refine va_get (D := G.1) (ci := 11) (v := .ref m_tape) (C := RX11) (T := TX11) (N := 58) hx hb hw inGX11 hown hK hP 0 rfl rfl 5 (by decide) (hw _ kw_342) (fun _ h9 => h9) rfl dX11_four_8 ?_
  refine lv_aload_n hx hb dX11_four_11 rfl (lv_at hl 1 rfl) ?_
  refine va_get (D := G.1) (ci := 11) (v := .int 0) (C := RX11) (T := TX11) (N := 58) hx hb hw inGX11 hown hK hP 0 rfl rfl 6 (by decide) (hw _ kw_338) (fun _ h9 => h9) rfl dX11_four_12 ?_
  refine lv_iload_n hx hb dX11_four_15 rfl (lv_at hl 2 rfl) ?_
  refine lv_iload_n hx hb dX11_four_16 rfl (lv_at hl 0 rfl) ?_
  refine lv_ishr hx hb dX11_four_17 ?_
  refine lv_topi (fun v2 ev2 => ?_)
  refine lv_i2b hx hb dX11_four_18 rfl ?_
  refine lv_topi (fun v3 ev3 => ?_)
  refine va_bast hx hb hK hP hD hS 1 1 rfl rfl (vp_in_iff.mpr (by decide)) dX11_four_19 (fun H locs hP hD hS => ?_)
  have hP : va_P G.1 vwCl [(m0, .inr (11, [.int 0, .ref m_width, .ref m_many, .ref m_cells, .ref m_moved, .ref m_tape, .int 0, .int 0, .int 0, .int 0, .int 0, .long 0, .int 0, .int 0, .int 0, .int (-1), .ref m_lines, .ref m_length, .ref m_rain, .ref m_has, .ref m_slope, .ref m_wet, .ref m_limit, .ref m_platform, .ref m_kind, .ref m_train, .ref m_coach, .ref m_isKept, .ref m_sum, .int 0, .int 15, .ref m_comes, .ref m_isStood, .int 0, .int 0, .int 0, .ref m_front, .ref m_has0, .ref m_isOn, .ref m_letTick, .ref m_letYard, .ref m_letSpeed, .ref m_where, .ref m_pace, .ref m_stood, .ref m_isOff, .ref m_off, .ref m_wrong, .int 0, .int 0, .int 0, .int 0, .ref m_endTick, .int 0, .int 0, .int 0, .int 0, .long 0])), (m_tape, .inl (G.2 1, 1600, .inl (upd f0 (0 : Int32).toNatClampNeg (vp_nar .byte v3))))] H := hP
  have hD : va_D A [(m0, .inr (11, [.int 0, .ref m_width, .ref m_many, .ref m_cells, .ref m_moved, .ref m_tape, .int 0, .int 0, .int 0, .int 0, .int 0, .long 0, .int 0, .int 0, .int 0, .int (-1), .ref m_lines, .ref m_length, .ref m_rain, .ref m_has, .ref m_slope, .ref m_wet, .ref m_limit, .ref m_platform, .ref m_kind, .ref m_train, .ref m_coach, .ref m_isKept, .ref m_sum, .int 0, .int 15, .ref m_comes, .ref m_isStood, .int 0, .int 0, .int 0, .ref m_front, .ref m_has0, .ref m_isOn, .ref m_letTick, .ref m_letYard, .ref m_letSpeed, .ref m_where, .ref m_pace, .ref m_stood, .ref m_isOff, .ref m_off, .ref m_wrong, .int 0, .int 0, .int 0, .int 0, .ref m_endTick, .int 0, .int 0, .int 0, .int 0, .long 0])), (m_tape, .inl (G.2 1, 1600, .inl (upd f0 (0 : Int32).toNatClampNeg (vp_nar .byte v3))))] := hD
  generalize (upd f0 (0 : Int32).toNatClampNeg (vp_nar .byte v3)) = f4 at hP hD
  refine lv_aload_n hx hb dX11_four_20 rfl (lv_at hl 1 rfl) ?_
  refine lv_dup hx hb dX11_four_21 rfl ?_
  refine va_get (D := G.1) (ci := 11) (v := .int 0) (C := RX11) (T := TX11) (N := 58) hx hb hw inGX11 hown hK hP 0 rfl rfl 6 (by decide) (hw _ kw_338) (fun _ h9 => h9) rfl dX11_four_22 ?_
  refine lv_iconst (v := 1) hx hb dX11_four_25 (by decide) ?_
  refine lv_iadd hx hb dX11_four_26 ?_
  refine lv_cst (y := 1) (by decide) ?_
  refine va_put (D := G.1) (ci := 11) (v := .int 1) (ty := .int) (C := RX11) (T := TX11) (N := 58) hx hb hw inGX11 tyX11 tyX11_ok nmX11 hown hK hP hD hS 0 rfl rfl 6 (by decide) (hw _ kw_338) (fun _ h9 => h9) rfl (by decide +kernel) rfl rfl (Nat.le_of_ble_eq_true rfl) dX11_four_27 (fun H locs hP hD hS => ?_)
  have hP : va_P G.1 vwCl [(m0, .inr (11, [.int 0, .ref m_width, .ref m_many, .ref m_cells, .ref m_moved, .ref m_tape, .int 1, .int 0, .int 0, .int 0, .int 0, .long 0, .int 0, .int 0, .int 0, .int (-1), .ref m_lines, .ref m_length, .ref m_rain, .ref m_has, .ref m_slope, .ref m_wet, .ref m_limit, .ref m_platform, .ref m_kind, .ref m_train, .ref m_coach, .ref m_isKept, .ref m_sum, .int 0, .int 15, .ref m_comes, .ref m_isStood, .int 0, .int 0, .int 0, .ref m_front, .ref m_has0, .ref m_isOn, .ref m_letTick, .ref m_letYard, .ref m_letSpeed, .ref m_where, .ref m_pace, .ref m_stood, .ref m_isOff, .ref m_off, .ref m_wrong, .int 0, .int 0, .int 0, .int 0, .ref m_endTick, .int 0, .int 0, .int 0, .int 0, .long 0])), (m_tape, .inl (G.2 1, 1600, .inl f4))] H := hP
  have hD : va_D A [(m0, .inr (11, [.int 0, .ref m_width, .ref m_many, .ref m_cells, .ref m_moved, .ref m_tape, .int 1, .int 0, .int 0, .int 0, .int 0, .long 0, .int 0, .int 0, .int 0, .int (-1), .ref m_lines, .ref m_length, .ref m_rain, .ref m_has, .ref m_slope, .ref m_wet, .ref m_limit, .ref m_platform, .ref m_kind, .ref m_train, .ref m_coach, .ref m_isKept, .ref m_sum, .int 0, .int 15, .ref m_comes, .ref m_isStood, .int 0, .int 0, .int 0, .ref m_front, .ref m_has0, .ref m_isOn, .ref m_letTick, .ref m_letYard, .ref m_letSpeed, .ref m_where, .ref m_pace, .ref m_stood, .ref m_isOff, .ref m_off, .ref m_wrong, .int 0, .int 0, .int 0, .int 0, .ref m_endTick, .int 0, .int 0, .int 0, .int 0, .long 0])), (m_tape, .inl (G.2 1, 1600, .inl f4))] := hD
  refine lv_iinc (v := 16) (lv' := [(2, .int 16), (0, .ref m0), (1, .int p0)]) hx hb dX11_four_30 hl (k := 0) rfl (by decide) (by decide) rfl (fun ls hl => ?_)
  refine lv_goto (tgt := 3) hx hb dX11_four_33 (by decide) ?_
  refine lv_iload_n hx hb dX11_four_3 rfl (lv_at hl 0 rfl) ?_
  refine lv_if_lt (tgt := 36) hx hb dX11_four_4 (by decide) (fun c5 => absurd c5 (by decide)) (fun c5 => ?_)
  refine lv_aload_n hx hb dX11_four_7 rfl (lv_at hl 1 rfl) ?_
  refine va_get (D := G.1) (ci := 11) (v := .ref m_tape) (C := RX11) (T := TX11) (N := 58) hx hb hw inGX11 hown hK hP 0 rfl rfl 5 (by decide) (hw _ kw_342) (fun _ h9 => h9) rfl dX11_four_8 ?_
  refine lv_aload_n hx hb dX11_four_11 rfl (lv_at hl 1 rfl) ?_
  refine va_get (D := G.1) (ci := 11) (v := .int 1) (C := RX11) (T := TX11) (N := 58) hx hb hw inGX11 hown hK hP 0 rfl rfl 6 (by decide) (hw _ kw_338) (fun _ h9 => h9) rfl dX11_four_12 ?_
  refine lv_iload_n hx hb dX11_four_15 rfl (lv_at hl 2 rfl) ?_
  refine lv_iload_n hx hb dX11_four_16 rfl (lv_at hl 0 rfl) ?_
  refine lv_ishr hx hb dX11_four_17 ?_
  refine lv_topi (fun v6 ev6 => ?_)
  refine lv_i2b hx hb dX11_four_18 rfl ?_
  refine lv_topi (fun v7 ev7 => ?_)
  refine va_bast hx hb hK hP hD hS 1 1 rfl rfl (vp_in_iff.mpr (by decide)) dX11_four_19 (fun H locs hP hD hS => ?_)
  have hP : va_P G.1 vwCl [(m0, .inr (11, [.int 0, .ref m_width, .ref m_many, .ref m_cells, .ref m_moved, .ref m_tape, .int 1, .int 0, .int 0, .int 0, .int 0, .long 0, .int 0, .int 0, .int 0, .int (-1), .ref m_lines, .ref m_length, .ref m_rain, .ref m_has, .ref m_slope, .ref m_wet, .ref m_limit, .ref m_platform, .ref m_kind, .ref m_train, .ref m_coach, .ref m_isKept, .ref m_sum, .int 0, .int 15, .ref m_comes, .ref m_isStood, .int 0, .int 0, .int 0, .ref m_front, .ref m_has0, .ref m_isOn, .ref m_letTick, .ref m_letYard, .ref m_letSpeed, .ref m_where, .ref m_pace, .ref m_stood, .ref m_isOff, .ref m_off, .ref m_wrong, .int 0, .int 0, .int 0, .int 0, .ref m_endTick, .int 0, .int 0, .int 0, .int 0, .long 0])), (m_tape, .inl (G.2 1, 1600, .inl (upd f4 (1 : Int32).toNatClampNeg (vp_nar .byte v7))))] H := hP
  have hD : va_D A [(m0, .inr (11, [.int 0, .ref m_width, .ref m_many, .ref m_cells, .ref m_moved, .ref m_tape, .int 1, .int 0, .int 0, .int 0, .int 0, .long 0, .int 0, .int 0, .int 0, .int (-1), .ref m_lines, .ref m_length, .ref m_rain, .ref m_has, .ref m_slope, .ref m_wet, .ref m_limit, .ref m_platform, .ref m_kind, .ref m_train, .ref m_coach, .ref m_isKept, .ref m_sum, .int 0, .int 15, .ref m_comes, .ref m_isStood, .int 0, .int 0, .int 0, .ref m_front, .ref m_has0, .ref m_isOn, .ref m_letTick, .ref m_letYard, .ref m_letSpeed, .ref m_where, .ref m_pace, .ref m_stood, .ref m_isOff, .ref m_off, .ref m_wrong, .int 0, .int 0, .int 0, .int 0, .ref m_endTick, .int 0, .int 0, .int 0, .int 0, .long 0])), (m_tape, .inl (G.2 1, 1600, .inl (upd f4 (1 : Int32).toNatClampNeg (vp_nar .byte v7))))] := hD
  generalize (upd f4 (1 : Int32).toNatClampNeg (vp_nar .byte v7)) = f8 at hP hD
  refine lv_aload_n hx hb dX11_four_20 rfl (lv_at hl 1 rfl) ?_
  refine lv_dup hx hb dX11_four_21 rfl ?_
  refine va_get (D := G.1) (ci := 11) (v := .int 1) (C := RX11) (T := TX11) (N := 58) hx hb hw inGX11 hown hK hP 0 rfl rfl 6 (by decide) (hw _ kw_338) (fun _ h9 => h9) rfl dX11_four_22 ?_
  refine lv_iconst (v := 1) hx hb dX11_four_25 (by decide) ?_
  refine lv_iadd hx hb dX11_four_26 ?_
  refine lv_cst (y := 2) (by decide) ?_
  refine va_put (D := G.1) (ci := 11) (v := .int 2) (ty := .int) (C := RX11) (T := TX11) (N := 58) hx hb hw inGX11 tyX11 tyX11_ok nmX11 hown hK hP hD hS 0 rfl rfl 6 (by decide) (hw _ kw_338) (fun _ h9 => h9) rfl (by decide +kernel) rfl rfl (Nat.le_of_ble_eq_true rfl) dX11_four_27 (fun H locs hP hD hS => ?_)
  have hP : va_P G.1 vwCl [(m0, .inr (11, [.int 0, .ref m_width, .ref m_many, .ref m_cells, .ref m_moved, .ref m_tape, .int 2, .int 0, .int 0, .int 0, .int 0, .long 0, .int 0, .int 0, .int 0, .int (-1), .ref m_lines, .ref m_length, .ref m_rain, .ref m_has, .ref m_slope, .ref m_wet, .ref m_limit, .ref m_platform, .ref m_kind, .ref m_train, .ref m_coach, .ref m_isKept, .ref m_sum, .int 0, .int 15, .ref m_comes, .ref m_isStood, .int 0, .int 0, .int 0, .ref m_front, .ref m_has0, .ref m_isOn, .ref m_letTick, .ref m_letYard, .ref m_letSpeed, .ref m_where, .ref m_pace, .ref m_stood, .ref m_isOff, .ref m_off, .ref m_wrong, .int 0, .int 0, .int 0, .int 0, .ref m_endTick, .int 0, .int 0, .int 0, .int 0, .long 0])), (m_tape, .inl (G.2 1, 1600, .inl f8))] H := hP
  have hD : va_D A [(m0, .inr (11, [.int 0, .ref m_width, .ref m_many, .ref m_cells, .ref m_moved, .ref m_tape, .int 2, .int 0, .int 0, .int 0, .int 0, .long 0, .int 0, .int 0, .int 0, .int (-1), .ref m_lines, .ref m_length, .ref m_rain, .ref m_has, .ref m_slope, .ref m_wet, .ref m_limit, .ref m_platform, .ref m_kind, .ref m_train, .ref m_coach, .ref m_isKept, .ref m_sum, .int 0, .int 15, .ref m_comes, .ref m_isStood, .int 0, .int 0, .int 0, .ref m_front, .ref m_has0, .ref m_isOn, .ref m_letTick, .ref m_letYard, .ref m_letSpeed, .ref m_where, .ref m_pace, .ref m_stood, .ref m_isOff, .ref m_off, .ref m_wrong, .int 0, .int 0, .int 0, .int 0, .ref m_endTick, .int 0, .int 0, .int 0, .int 0, .long 0])), (m_tape, .inl (G.2 1, 1600, .inl f8))] := hD
  refine lv_iinc (v := 8) (lv' := [(2, .int 8), (0, .ref m0), (1, .int p0)]) hx hb dX11_four_30 hl (k := 0) rfl (by decide) (by decide) rfl (fun ls hl => ?_)
  refine lv_goto (tgt := 3) hx hb dX11_four_33 (by decide) ?_
  refine lv_iload_n hx hb dX11_four_3 rfl (lv_at hl 0 rfl) ?_
  refine lv_if_lt (tgt := 36) hx hb dX11_four_4 (by decide) (fun c9 => absurd c9 (by decide)) (fun c9 => ?_)
  refine lv_aload_n hx hb dX11_four_7 rfl (lv_at hl 1 rfl) ?_
  refine va_get (D := G.1) (ci := 11) (v := .ref m_tape) (C := RX11) (T := TX11) (N := 58) hx hb hw inGX11 hown hK hP 0 rfl rfl 5 (by decide) (hw _ kw_342) (fun _ h9 => h9) rfl dX11_four_8 ?_
  refine lv_aload_n hx hb dX11_four_11 rfl (lv_at hl 1 rfl) ?_
  refine va_get (D := G.1) (ci := 11) (v := .int 2) (C := RX11) (T := TX11) (N := 58) hx hb hw inGX11 hown hK hP 0 rfl rfl 6 (by decide) (hw _ kw_338) (fun _ h9 => h9) rfl dX11_four_12 ?_
  refine lv_iload_n hx hb dX11_four_15 rfl (lv_at hl 2 rfl) ?_
  refine lv_iload_n hx hb dX11_four_16 rfl (lv_at hl 0 rfl) ?_
  refine lv_ishr hx hb dX11_four_17 ?_
  refine lv_topi (fun v10 ev10 => ?_)
  refine lv_i2b hx hb dX11_four_18 rfl ?_
  refine lv_topi (fun v11 ev11 => ?_)
  refine va_bast hx hb hK hP hD hS 1 1 rfl rfl (vp_in_iff.mpr (by decide)) dX11_four_19 (fun H locs hP hD hS => ?_)
  have hP : va_P G.1 vwCl [(m0, .inr (11, [.int 0, .ref m_width, .ref m_many, .ref m_cells, .ref m_moved, .ref m_tape, .int 2, .int 0, .int 0, .int 0, .int 0, .long 0, .int 0, .int 0, .int 0, .int (-1), .ref m_lines, .ref m_length, .ref m_rain, .ref m_has, .ref m_slope, .ref m_wet, .ref m_limit, .ref m_platform, .ref m_kind, .ref m_train, .ref m_coach, .ref m_isKept, .ref m_sum, .int 0, .int 15, .ref m_comes, .ref m_isStood, .int 0, .int 0, .int 0, .ref m_front, .ref m_has0, .ref m_isOn, .ref m_letTick, .ref m_letYard, .ref m_letSpeed, .ref m_where, .ref m_pace, .ref m_stood, .ref m_isOff, .ref m_off, .ref m_wrong, .int 0, .int 0, .int 0, .int 0, .ref m_endTick, .int 0, .int 0, .int 0, .int 0, .long 0])), (m_tape, .inl (G.2 1, 1600, .inl (upd f8 (2 : Int32).toNatClampNeg (vp_nar .byte v11))))] H := hP
  have hD : va_D A [(m0, .inr (11, [.int 0, .ref m_width, .ref m_many, .ref m_cells, .ref m_moved, .ref m_tape, .int 2, .int 0, .int 0, .int 0, .int 0, .long 0, .int 0, .int 0, .int 0, .int (-1), .ref m_lines, .ref m_length, .ref m_rain, .ref m_has, .ref m_slope, .ref m_wet, .ref m_limit, .ref m_platform, .ref m_kind, .ref m_train, .ref m_coach, .ref m_isKept, .ref m_sum, .int 0, .int 15, .ref m_comes, .ref m_isStood, .int 0, .int 0, .int 0, .ref m_front, .ref m_has0, .ref m_isOn, .ref m_letTick, .ref m_letYard, .ref m_letSpeed, .ref m_where, .ref m_pace, .ref m_stood, .ref m_isOff, .ref m_off, .ref m_wrong, .int 0, .int 0, .int 0, .int 0, .ref m_endTick, .int 0, .int 0, .int 0, .int 0, .long 0])), (m_tape, .inl (G.2 1, 1600, .inl (upd f8 (2 : Int32).toNatClampNeg (vp_nar .byte v11))))] := hD
  generalize (upd f8 (2 : Int32).toNatClampNeg (vp_nar .byte v11)) = f12 at hP hD
  refine lv_aload_n hx hb dX11_four_20 rfl (lv_at hl 1 rfl) ?_
  refine lv_dup hx hb dX11_four_21 rfl ?_
  refine va_get (D := G.1) (ci := 11) (v := .int 2) (C := RX11) (T := TX11) (N := 58) hx hb hw inGX11 hown hK hP 0 rfl rfl 6 (by decide) (hw _ kw_338) (fun _ h9 => h9) rfl dX11_four_22 ?_
  refine lv_iconst (v := 1) hx hb dX11_four_25 (by decide) ?_
  refine lv_iadd hx hb dX11_four_26 ?_
  refine lv_cst (y := 3) (by decide) ?_
  refine va_put (D := G.1) (ci := 11) (v := .int 3) (ty := .int) (C := RX11) (T := TX11) (N := 58) hx hb hw inGX11 tyX11 tyX11_ok nmX11 hown hK hP hD hS 0 rfl rfl 6 (by decide) (hw _ kw_338) (fun _ h9 => h9) rfl (by decide +kernel) rfl rfl (Nat.le_of_ble_eq_true rfl) dX11_four_27 (fun H locs hP hD hS => ?_)
  have hP : va_P G.1 vwCl [(m0, .inr (11, [.int 0, .ref m_width, .ref m_many, .ref m_cells, .ref m_moved, .ref m_tape, .int 3, .int 0, .int 0, .int 0, .int 0, .long 0, .int 0, .int 0, .int 0, .int (-1), .ref m_lines, .ref m_length, .ref m_rain, .ref m_has, .ref m_slope, .ref m_wet, .ref m_limit, .ref m_platform, .ref m_kind, .ref m_train, .ref m_coach, .ref m_isKept, .ref m_sum, .int 0, .int 15, .ref m_comes, .ref m_isStood, .int 0, .int 0, .int 0, .ref m_front, .ref m_has0, .ref m_isOn, .ref m_letTick, .ref m_letYard, .ref m_letSpeed, .ref m_where, .ref m_pace, .ref m_stood, .ref m_isOff, .ref m_off, .ref m_wrong, .int 0, .int 0, .int 0, .int 0, .ref m_endTick, .int 0, .int 0, .int 0, .int 0, .long 0])), (m_tape, .inl (G.2 1, 1600, .inl f12))] H := hP
  have hD : va_D A [(m0, .inr (11, [.int 0, .ref m_width, .ref m_many, .ref m_cells, .ref m_moved, .ref m_tape, .int 3, .int 0, .int 0, .int 0, .int 0, .long 0, .int 0, .int 0, .int 0, .int (-1), .ref m_lines, .ref m_length, .ref m_rain, .ref m_has, .ref m_slope, .ref m_wet, .ref m_limit, .ref m_platform, .ref m_kind, .ref m_train, .ref m_coach, .ref m_isKept, .ref m_sum, .int 0, .int 15, .ref m_comes, .ref m_isStood, .int 0, .int 0, .int 0, .ref m_front, .ref m_has0, .ref m_isOn, .ref m_letTick, .ref m_letYard, .ref m_letSpeed, .ref m_where, .ref m_pace, .ref m_stood, .ref m_isOff, .ref m_off, .ref m_wrong, .int 0, .int 0, .int 0, .int 0, .ref m_endTick, .int 0, .int 0, .int 0, .int 0, .long 0])), (m_tape, .inl (G.2 1, 1600, .inl f12))] := hD
  refine lv_iinc (v := 0) (lv' := [(2, .int 0), (0, .ref m0), (1, .int p0)]) hx hb dX11_four_30 hl (k := 0) rfl (by decide) (by decide) rfl (fun ls hl => ?_)
  refine lv_goto (tgt := 3) hx hb dX11_four_33 (by decide) ?_
  refine lv_iload_n hx hb dX11_four_3 rfl (lv_at hl 0 rfl) ?_
  refine lv_if_lt (tgt := 36) hx hb dX11_four_4 (by decide) (fun c13 => absurd c13 (by decide)) (fun c13 => ?_)
  refine lv_aload_n hx hb dX11_four_7 rfl (lv_at hl 1 rfl) ?_
  refine va_get (D := G.1) (ci := 11) (v := .ref m_tape) (C := RX11) (T := TX11) (N := 58) hx hb hw inGX11 hown hK hP 0 rfl rfl 5 (by decide) (hw _ kw_342) (fun _ h9 => h9) rfl dX11_four_8 ?_
  refine lv_aload_n hx hb dX11_four_11 rfl (lv_at hl 1 rfl) ?_
  refine va_get (D := G.1) (ci := 11) (v := .int 3) (C := RX11) (T := TX11) (N := 58) hx hb hw inGX11 hown hK hP 0 rfl rfl 6 (by decide) (hw _ kw_338) (fun _ h9 => h9) rfl dX11_four_12 ?_
  refine lv_iload_n hx hb dX11_four_15 rfl (lv_at hl 2 rfl) ?_
  refine lv_iload_n hx hb dX11_four_16 rfl (lv_at hl 0 rfl) ?_
  refine lv_ishr hx hb dX11_four_17 ?_
  refine lv_topi (fun v14 ev14 => ?_)
  refine lv_i2b hx hb dX11_four_18 rfl ?_
  refine lv_topi (fun v15 ev15 => ?_)
  refine va_bast hx hb hK hP hD hS 1 1 rfl rfl (vp_in_iff.mpr (by decide)) dX11_four_19 (fun H locs hP hD hS => ?_)
  have hP : va_P G.1 vwCl [(m0, .inr (11, [.int 0, .ref m_width, .ref m_many, .ref m_cells, .ref m_moved, .ref m_tape, .int 3, .int 0, .int 0, .int 0, .int 0, .long 0, .int 0, .int 0, .int 0, .int (-1), .ref m_lines, .ref m_length, .ref m_rain, .ref m_has, .ref m_slope, .ref m_wet, .ref m_limit, .ref m_platform, .ref m_kind, .ref m_train, .ref m_coach, .ref m_isKept, .ref m_sum, .int 0, .int 15, .ref m_comes, .ref m_isStood, .int 0, .int 0, .int 0, .ref m_front, .ref m_has0, .ref m_isOn, .ref m_letTick, .ref m_letYard, .ref m_letSpeed, .ref m_where, .ref m_pace, .ref m_stood, .ref m_isOff, .ref m_off, .ref m_wrong, .int 0, .int 0, .int 0, .int 0, .ref m_endTick, .int 0, .int 0, .int 0, .int 0, .long 0])), (m_tape, .inl (G.2 1, 1600, .inl (upd f12 (3 : Int32).toNatClampNeg (vp_nar .byte v15))))] H := hP
  have hD : va_D A [(m0, .inr (11, [.int 0, .ref m_width, .ref m_many, .ref m_cells, .ref m_moved, .ref m_tape, .int 3, .int 0, .int 0, .int 0, .int 0, .long 0, .int 0, .int 0, .int 0, .int (-1), .ref m_lines, .ref m_length, .ref m_rain, .ref m_has, .ref m_slope, .ref m_wet, .ref m_limit, .ref m_platform, .ref m_kind, .ref m_train, .ref m_coach, .ref m_isKept, .ref m_sum, .int 0, .int 15, .ref m_comes, .ref m_isStood, .int 0, .int 0, .int 0, .ref m_front, .ref m_has0, .ref m_isOn, .ref m_letTick, .ref m_letYard, .ref m_letSpeed, .ref m_where, .ref m_pace, .ref m_stood, .ref m_isOff, .ref m_off, .ref m_wrong, .int 0, .int 0, .int 0, .int 0, .ref m_endTick, .int 0, .int 0, .int 0, .int 0, .long 0])), (m_tape, .inl (G.2 1, 1600, .inl (upd f12 (3 : Int32).toNatClampNeg (vp_nar .byte v15))))] := hD
  generalize (upd f12 (3 : Int32).toNatClampNeg (vp_nar .byte v15)) = f16 at hP hD
  refine lv_aload_n hx hb dX11_four_20 rfl (lv_at hl 1 rfl) ?_
  refine lv_dup hx hb dX11_four_21 rfl ?_
  refine va_get (D := G.1) (ci := 11) (v := .int 3) (C := RX11) (T := TX11) (N := 58) hx hb hw inGX11 hown hK hP 0 rfl rfl 6 (by decide) (hw _ kw_338) (fun _ h9 => h9) rfl dX11_four_22 ?_
  refine lv_iconst (v := 1) hx hb dX11_four_25 (by decide) ?_
  refine lv_iadd hx hb dX11_four_26 ?_
  refine lv_cst (y := 4) (by decide) ?_
  refine va_put (D := G.1) (ci := 11) (v := .int 4) (ty := .int) (C := RX11) (T := TX11) (N := 58) hx hb hw inGX11 tyX11 tyX11_ok nmX11 hown hK hP hD hS 0 rfl rfl 6 (by decide) (hw _ kw_338) (fun _ h9 => h9) rfl (by decide +kernel) rfl rfl (Nat.le_of_ble_eq_true rfl) dX11_four_27 (fun H locs hP hD hS => ?_)
  have hP : va_P G.1 vwCl [(m0, .inr (11, [.int 0, .ref m_width, .ref m_many, .ref m_cells, .ref m_moved, .ref m_tape, .int 4, .int 0, .int 0, .int 0, .int 0, .long 0, .int 0, .int 0, .int 0, .int (-1), .ref m_lines, .ref m_length, .ref m_rain, .ref m_has, .ref m_slope, .ref m_wet, .ref m_limit, .ref m_platform, .ref m_kind, .ref m_train, .ref m_coach, .ref m_isKept, .ref m_sum, .int 0, .int 15, .ref m_comes, .ref m_isStood, .int 0, .int 0, .int 0, .ref m_front, .ref m_has0, .ref m_isOn, .ref m_letTick, .ref m_letYard, .ref m_letSpeed, .ref m_where, .ref m_pace, .ref m_stood, .ref m_isOff, .ref m_off, .ref m_wrong, .int 0, .int 0, .int 0, .int 0, .ref m_endTick, .int 0, .int 0, .int 0, .int 0, .long 0])), (m_tape, .inl (G.2 1, 1600, .inl f16))] H := hP
  have hD : va_D A [(m0, .inr (11, [.int 0, .ref m_width, .ref m_many, .ref m_cells, .ref m_moved, .ref m_tape, .int 4, .int 0, .int 0, .int 0, .int 0, .long 0, .int 0, .int 0, .int 0, .int (-1), .ref m_lines, .ref m_length, .ref m_rain, .ref m_has, .ref m_slope, .ref m_wet, .ref m_limit, .ref m_platform, .ref m_kind, .ref m_train, .ref m_coach, .ref m_isKept, .ref m_sum, .int 0, .int 15, .ref m_comes, .ref m_isStood, .int 0, .int 0, .int 0, .ref m_front, .ref m_has0, .ref m_isOn, .ref m_letTick, .ref m_letYard, .ref m_letSpeed, .ref m_where, .ref m_pace, .ref m_stood, .ref m_isOff, .ref m_off, .ref m_wrong, .int 0, .int 0, .int 0, .int 0, .ref m_endTick, .int 0, .int 0, .int 0, .int 0, .long 0])), (m_tape, .inl (G.2 1, 1600, .inl f16))] := hD
  refine lv_iinc (v := (-8)) (lv' := [(2, .int (-8)), (0, .ref m0), (1, .int p0)]) hx hb dX11_four_30 hl (k := 0) rfl (by decide) (by decide) rfl (fun ls hl => ?_)
  refine lv_goto (tgt := 3) hx hb dX11_four_33 (by decide) ?_
  refine lv_iload_n hx hb dX11_four_3 rfl (lv_at hl 0 rfl) ?_
  refine lv_if_lt (tgt := 36) hx hb dX11_four_4 (by decide) (fun c17 => ?_) (fun c17 => absurd (by decide) c17)
  exact W.vret hx hb hr (fun t ht hW => ⟨⟨f16, rfl, trivial, ⟨by rw [ht]; exact hP.sub [0, 1] rfl, hD.sub [0, 1] (by decide +kernel) rfl⟩⟩, hS.F ht⟩) hS.2.2 dX11_four_36
set_option maxHeartbeats 4000000 in
set_option maxRecDepth 100000 in
theorem c_four_4 (l : Launch) (G : KG) (m0 : Nat) (m_width : Nat) (m_many : Nat) (m_cells : Nat) (m_moved : Nat) (m_tape : Nat) (m_lines : Nat) (m_length : Nat) (m_rain : Nat) (m_has : Nat) (m_slope : Nat) (m_wet : Nat) (m_limit : Nat) (m_platform : Nat) (m_kind : Nat) (m_train : Nat) (m_coach : Nat) (m_isKept : Nat) (m_sum : Nat) (m_comes : Nat) (m_isStood : Nat) (m_front : Nat) (m_has0 : Nat) (m_isOn : Nat) (m_letTick : Nat) (m_letYard : Nat) (m_letSpeed : Nat) (m_where : Nat) (m_pace : Nat) (m_stood : Nat) (m_isOff : Nat) (m_off : Nat) (m_wrong : Nat) (m_endTick : Nat) (f0 : Nat → Int32) (p0 : Int32) (sz : Nat) : Met l yX11_four wgX11_four ({ frames := 0, cells := 0, slots := 0, locals := 0 }) (preQ G [.ref m0, .int p0] sz [(m0, .inr (11, [.int 0, .ref m_width, .ref m_many, .ref m_cells, .ref m_moved, .ref m_tape, .int 4, .int 0, .int 0, .int 0, .int 0, .long 0, .int 0, .int 0, .int 0, .int (-1), .ref m_lines, .ref m_length, .ref m_rain, .ref m_has, .ref m_slope, .ref m_wet, .ref m_limit, .ref m_platform, .ref m_kind, .ref m_train, .ref m_coach, .ref m_isKept, .ref m_sum, .int 0, .int 15, .ref m_comes, .ref m_isStood, .int 0, .int 0, .int 0, .ref m_front, .ref m_has0, .ref m_isOn, .ref m_letTick, .ref m_letYard, .ref m_letSpeed, .ref m_where, .ref m_pace, .ref m_stood, .ref m_isOff, .ref m_off, .ref m_wrong, .int 0, .int 0, .int 0, .int 0, .ref m_endTick, .int 0, .int 0, .int 0, .int 0, .long 0])), (m_tape, .inl (G.2 1, 1600, .inl f0))]) (va_Qv (fun (u : (Nat → Int32)) => True) (fun u t => atQ G (va_A [(m0, .inr (11, [.int 0, .ref m_width, .ref m_many, .ref m_cells, .ref m_moved, .ref m_tape, .int 4, .int 0, .int 0, .int 0, .int 0, .long 0, .int 0, .int 0, .int 0, .int (-1), .ref m_lines, .ref m_length, .ref m_rain, .ref m_has, .ref m_slope, .ref m_wet, .ref m_limit, .ref m_platform, .ref m_kind, .ref m_train, .ref m_coach, .ref m_isKept, .ref m_sum, .int 0, .int 15, .ref m_comes, .ref m_isStood, .int 0, .int 0, .int 0, .ref m_front, .ref m_has0, .ref m_isOn, .ref m_letTick, .ref m_letYard, .ref m_letSpeed, .ref m_where, .ref m_pace, .ref m_stood, .ref m_isOff, .ref m_off, .ref m_wrong, .int 0, .int 0, .int 0, .int 0, .ref m_endTick, .int 0, .int 0, .int 0, .int 0, .long 0])), (m_tape, .inl (G.2 1, 1600, .inl f0))] sz) [(m0, .inr (11, [.int 0, .ref m_width, .ref m_many, .ref m_cells, .ref m_moved, .ref m_tape, .int 8, .int 0, .int 0, .int 0, .int 0, .long 0, .int 0, .int 0, .int 0, .int (-1), .ref m_lines, .ref m_length, .ref m_rain, .ref m_has, .ref m_slope, .ref m_wet, .ref m_limit, .ref m_platform, .ref m_kind, .ref m_train, .ref m_coach, .ref m_isKept, .ref m_sum, .int 0, .int 15, .ref m_comes, .ref m_isStood, .int 0, .int 0, .int 0, .ref m_front, .ref m_has0, .ref m_isOn, .ref m_letTick, .ref m_letYard, .ref m_letSpeed, .ref m_where, .ref m_pace, .ref m_stood, .ref m_isOff, .ref m_off, .ref m_wrong, .int 0, .int 0, .int 0, .int 0, .ref m_endTick, .int 0, .int 0, .int 0, .int 0, .long 0])), (m_tape, .inl (G.2 1, 1600, .inl u))] t) (va_A [(m0, .inr (11, [.int 0, .ref m_width, .ref m_many, .ref m_cells, .ref m_moved, .ref m_tape, .int 4, .int 0, .int 0, .int 0, .int 0, .long 0, .int 0, .int 0, .int 0, .int (-1), .ref m_lines, .ref m_length, .ref m_rain, .ref m_has, .ref m_slope, .ref m_wet, .ref m_limit, .ref m_platform, .ref m_kind, .ref m_train, .ref m_coach, .ref m_isKept, .ref m_sum, .int 0, .int 15, .ref m_comes, .ref m_isStood, .int 0, .int 0, .int 0, .ref m_front, .ref m_has0, .ref m_isOn, .ref m_letTick, .ref m_letYard, .ref m_letSpeed, .ref m_where, .ref m_pace, .ref m_stood, .ref m_isOff, .ref m_off, .ref m_wrong, .int 0, .int 0, .int 0, .int 0, .ref m_endTick, .int 0, .int 0, .int 0, .int 0, .long 0])), (m_tape, .inl (G.2 1, 1600, .inl f0))] sz)) 0 0 (va_A [(m0, .inr (11, [.int 0, .ref m_width, .ref m_many, .ref m_cells, .ref m_moved, .ref m_tape, .int 4, .int 0, .int 0, .int 0, .int 0, .long 0, .int 0, .int 0, .int 0, .int (-1), .ref m_lines, .ref m_length, .ref m_rain, .ref m_has, .ref m_slope, .ref m_wet, .ref m_limit, .ref m_platform, .ref m_kind, .ref m_train, .ref m_coach, .ref m_isKept, .ref m_sum, .int 0, .int 15, .ref m_comes, .ref m_isStood, .int 0, .int 0, .int 0, .ref m_front, .ref m_has0, .ref m_isOn, .ref m_letTick, .ref m_letYard, .ref m_letSpeed, .ref m_where, .ref m_pace, .ref m_stood, .ref m_isOff, .ref m_off, .ref m_wrong, .int 0, .int 0, .int 0, .int 0, .ref m_endTick, .int 0, .int 0, .int 0, .int 0, .long 0])), (m_tape, .inl (G.2 1, 1600, .inl f0))] sz) := by
  refine Met.ofW (cc := cX11_four) (maxL := 3) (ret := none) (by decide) rfl ?_
  intro p e s m args below meth c s₁ B hml hv
  obtain ⟨rfl, hsz, hP, hKG, hD0⟩ := hv
  obtain ⟨hK, hAO⟩ := id hKG
  have hx := B.exec
  have hb := B.bytes
  have hr := B.returns
  have hts := atoms_spec (ws := wgX11_four) B.pre
  have hw : ∀ w ∈ wG, w.before _ s = true := fun w h => hts w (List.mem_cons_of_mem _ h)
  have hown : s.vm.findClass RX11 = some m.cls := findClass_of_methodNamed B.named
  have hlocks := B.notSynchronized
  subst hsz
  have hD := hD0.self (sz := s.heap.size)
  generalize hAe : va_A [(m0, .inr (11, [.int 0, .ref m_width, .ref m_many, .ref m_cells, .ref m_moved, .ref m_tape, .int 4, .int 0, .int 0, .int 0, .int 0, .long 0, .int 0, .int 0, .int 0, .int (-1), .ref m_lines, .ref m_length, .ref m_rain, .ref m_has, .ref m_slope, .ref m_wet, .ref m_limit, .ref m_platform, .ref m_kind, .ref m_train, .ref m_coach, .ref m_isKept, .ref m_sum, .int 0, .int 15, .ref m_comes, .ref m_isStood, .int 0, .int 0, .int 0, .ref m_front, .ref m_has0, .ref m_isOn, .ref m_letTick, .ref m_letYard, .ref m_letSpeed, .ref m_where, .ref m_pace, .ref m_stood, .ref m_isOff, .ref m_off, .ref m_wrong, .int 0, .int 0, .int 0, .int 0, .ref m_endTick, .int 0, .int 0, .int 0, .int 0, .long 0])), (m_tape, .inl (G.2 1, 1600, .inl f0))] s.heap.size = A at hD ⊢
  have hA : ∀ q : Nat, s.heap.size ≤ q → A q := fun q h => by rw [← hAe]; exact Or.inr h
  have hS : va_S A s.heap s.heap [] := va_S.rf
  have hl := lv_entry ([.ref m0, .int p0]) (n := 3) (Nat.le_of_ble_eq_true rfl)
  rw [lg_entry_eq]
  generalize (lg_sl ([.ref m0, .int p0]) ++ List.replicate (3 - (lg_sl ([.ref m0, .int p0])).length) Slot.unset).toArray = ls at hl ⊢
  have hl : lv_has ls 3 [(0, .ref m0), (1, .int p0)] := hl
  refine lv_bipush (v := 24) hx hb dX11_four_0 (by decide) ?_
  refine lv_istore_n (lv' := [(2, .int 24), (0, .ref m0), (1, .int p0)]) hx hb dX11_four_2 rfl hl (by decide) rfl (fun ls hl => ?_)
  refine lv_iload_n hx hb dX11_four_3 rfl (lv_at hl 0 rfl) ?_
  refine lv_if_lt (tgt := 36) hx hb dX11_four_4 (by decide) (fun c1 => absurd c1 (by decide)) (fun c1 => ?_)
  refine lv_aload_n hx hb dX11_four_7 rfl (lv_at hl 1 rfl) ?_
  refine va_get (D := G.1) (ci := 11) (v := .ref m_tape) (C := RX11) (T := TX11) (N := 58) hx hb hw inGX11 hown hK hP 0 rfl rfl 5 (by decide) (hw _ kw_342) (fun _ h9 => h9) rfl dX11_four_8 ?_
  refine lv_aload_n hx hb dX11_four_11 rfl (lv_at hl 1 rfl) ?_
  refine va_get (D := G.1) (ci := 11) (v := .int 4) (C := RX11) (T := TX11) (N := 58) hx hb hw inGX11 hown hK hP 0 rfl rfl 6 (by decide) (hw _ kw_338) (fun _ h9 => h9) rfl dX11_four_12 ?_
  refine lv_iload_n hx hb dX11_four_15 rfl (lv_at hl 2 rfl) ?_
  refine lv_iload_n hx hb dX11_four_16 rfl (lv_at hl 0 rfl) ?_
  refine lv_ishr hx hb dX11_four_17 ?_
  refine lv_topi (fun v2 ev2 => ?_)
  refine lv_i2b hx hb dX11_four_18 rfl ?_
  refine lv_topi (fun v3 ev3 => ?_)
  refine va_bast hx hb hK hP hD hS 1 1 rfl rfl (vp_in_iff.mpr (by decide)) dX11_four_19 (fun H locs hP hD hS => ?_)
  have hP : va_P G.1 vwCl [(m0, .inr (11, [.int 0, .ref m_width, .ref m_many, .ref m_cells, .ref m_moved, .ref m_tape, .int 4, .int 0, .int 0, .int 0, .int 0, .long 0, .int 0, .int 0, .int 0, .int (-1), .ref m_lines, .ref m_length, .ref m_rain, .ref m_has, .ref m_slope, .ref m_wet, .ref m_limit, .ref m_platform, .ref m_kind, .ref m_train, .ref m_coach, .ref m_isKept, .ref m_sum, .int 0, .int 15, .ref m_comes, .ref m_isStood, .int 0, .int 0, .int 0, .ref m_front, .ref m_has0, .ref m_isOn, .ref m_letTick, .ref m_letYard, .ref m_letSpeed, .ref m_where, .ref m_pace, .ref m_stood, .ref m_isOff, .ref m_off, .ref m_wrong, .int 0, .int 0, .int 0, .int 0, .ref m_endTick, .int 0, .int 0, .int 0, .int 0, .long 0])), (m_tape, .inl (G.2 1, 1600, .inl (upd f0 (4 : Int32).toNatClampNeg (vp_nar .byte v3))))] H := hP
  have hD : va_D A [(m0, .inr (11, [.int 0, .ref m_width, .ref m_many, .ref m_cells, .ref m_moved, .ref m_tape, .int 4, .int 0, .int 0, .int 0, .int 0, .long 0, .int 0, .int 0, .int 0, .int (-1), .ref m_lines, .ref m_length, .ref m_rain, .ref m_has, .ref m_slope, .ref m_wet, .ref m_limit, .ref m_platform, .ref m_kind, .ref m_train, .ref m_coach, .ref m_isKept, .ref m_sum, .int 0, .int 15, .ref m_comes, .ref m_isStood, .int 0, .int 0, .int 0, .ref m_front, .ref m_has0, .ref m_isOn, .ref m_letTick, .ref m_letYard, .ref m_letSpeed, .ref m_where, .ref m_pace, .ref m_stood, .ref m_isOff, .ref m_off, .ref m_wrong, .int 0, .int 0, .int 0, .int 0, .ref m_endTick, .int 0, .int 0, .int 0, .int 0, .long 0])), (m_tape, .inl (G.2 1, 1600, .inl (upd f0 (4 : Int32).toNatClampNeg (vp_nar .byte v3))))] := hD
  generalize (upd f0 (4 : Int32).toNatClampNeg (vp_nar .byte v3)) = f4 at hP hD
  refine lv_aload_n hx hb dX11_four_20 rfl (lv_at hl 1 rfl) ?_
  refine lv_dup hx hb dX11_four_21 rfl ?_
  refine va_get (D := G.1) (ci := 11) (v := .int 4) (C := RX11) (T := TX11) (N := 58) hx hb hw inGX11 hown hK hP 0 rfl rfl 6 (by decide) (hw _ kw_338) (fun _ h9 => h9) rfl dX11_four_22 ?_
  refine lv_iconst (v := 1) hx hb dX11_four_25 (by decide) ?_
  refine lv_iadd hx hb dX11_four_26 ?_
  refine lv_cst (y := 5) (by decide) ?_
  refine va_put (D := G.1) (ci := 11) (v := .int 5) (ty := .int) (C := RX11) (T := TX11) (N := 58) hx hb hw inGX11 tyX11 tyX11_ok nmX11 hown hK hP hD hS 0 rfl rfl 6 (by decide) (hw _ kw_338) (fun _ h9 => h9) rfl (by decide +kernel) rfl rfl (Nat.le_of_ble_eq_true rfl) dX11_four_27 (fun H locs hP hD hS => ?_)
  have hP : va_P G.1 vwCl [(m0, .inr (11, [.int 0, .ref m_width, .ref m_many, .ref m_cells, .ref m_moved, .ref m_tape, .int 5, .int 0, .int 0, .int 0, .int 0, .long 0, .int 0, .int 0, .int 0, .int (-1), .ref m_lines, .ref m_length, .ref m_rain, .ref m_has, .ref m_slope, .ref m_wet, .ref m_limit, .ref m_platform, .ref m_kind, .ref m_train, .ref m_coach, .ref m_isKept, .ref m_sum, .int 0, .int 15, .ref m_comes, .ref m_isStood, .int 0, .int 0, .int 0, .ref m_front, .ref m_has0, .ref m_isOn, .ref m_letTick, .ref m_letYard, .ref m_letSpeed, .ref m_where, .ref m_pace, .ref m_stood, .ref m_isOff, .ref m_off, .ref m_wrong, .int 0, .int 0, .int 0, .int 0, .ref m_endTick, .int 0, .int 0, .int 0, .int 0, .long 0])), (m_tape, .inl (G.2 1, 1600, .inl f4))] H := hP
  have hD : va_D A [(m0, .inr (11, [.int 0, .ref m_width, .ref m_many, .ref m_cells, .ref m_moved, .ref m_tape, .int 5, .int 0, .int 0, .int 0, .int 0, .long 0, .int 0, .int 0, .int 0, .int (-1), .ref m_lines, .ref m_length, .ref m_rain, .ref m_has, .ref m_slope, .ref m_wet, .ref m_limit, .ref m_platform, .ref m_kind, .ref m_train, .ref m_coach, .ref m_isKept, .ref m_sum, .int 0, .int 15, .ref m_comes, .ref m_isStood, .int 0, .int 0, .int 0, .ref m_front, .ref m_has0, .ref m_isOn, .ref m_letTick, .ref m_letYard, .ref m_letSpeed, .ref m_where, .ref m_pace, .ref m_stood, .ref m_isOff, .ref m_off, .ref m_wrong, .int 0, .int 0, .int 0, .int 0, .ref m_endTick, .int 0, .int 0, .int 0, .int 0, .long 0])), (m_tape, .inl (G.2 1, 1600, .inl f4))] := hD
  refine lv_iinc (v := 16) (lv' := [(2, .int 16), (0, .ref m0), (1, .int p0)]) hx hb dX11_four_30 hl (k := 0) rfl (by decide) (by decide) rfl (fun ls hl => ?_)
  refine lv_goto (tgt := 3) hx hb dX11_four_33 (by decide) ?_
  refine lv_iload_n hx hb dX11_four_3 rfl (lv_at hl 0 rfl) ?_
  refine lv_if_lt (tgt := 36) hx hb dX11_four_4 (by decide) (fun c5 => absurd c5 (by decide)) (fun c5 => ?_)
  refine lv_aload_n hx hb dX11_four_7 rfl (lv_at hl 1 rfl) ?_
  refine va_get (D := G.1) (ci := 11) (v := .ref m_tape) (C := RX11) (T := TX11) (N := 58) hx hb hw inGX11 hown hK hP 0 rfl rfl 5 (by decide) (hw _ kw_342) (fun _ h9 => h9) rfl dX11_four_8 ?_
  refine lv_aload_n hx hb dX11_four_11 rfl (lv_at hl 1 rfl) ?_
  refine va_get (D := G.1) (ci := 11) (v := .int 5) (C := RX11) (T := TX11) (N := 58) hx hb hw inGX11 hown hK hP 0 rfl rfl 6 (by decide) (hw _ kw_338) (fun _ h9 => h9) rfl dX11_four_12 ?_
  refine lv_iload_n hx hb dX11_four_15 rfl (lv_at hl 2 rfl) ?_
  refine lv_iload_n hx hb dX11_four_16 rfl (lv_at hl 0 rfl) ?_
  refine lv_ishr hx hb dX11_four_17 ?_
  refine lv_topi (fun v6 ev6 => ?_)
  refine lv_i2b hx hb dX11_four_18 rfl ?_
  refine lv_topi (fun v7 ev7 => ?_)
  refine va_bast hx hb hK hP hD hS 1 1 rfl rfl (vp_in_iff.mpr (by decide)) dX11_four_19 (fun H locs hP hD hS => ?_)
  have hP : va_P G.1 vwCl [(m0, .inr (11, [.int 0, .ref m_width, .ref m_many, .ref m_cells, .ref m_moved, .ref m_tape, .int 5, .int 0, .int 0, .int 0, .int 0, .long 0, .int 0, .int 0, .int 0, .int (-1), .ref m_lines, .ref m_length, .ref m_rain, .ref m_has, .ref m_slope, .ref m_wet, .ref m_limit, .ref m_platform, .ref m_kind, .ref m_train, .ref m_coach, .ref m_isKept, .ref m_sum, .int 0, .int 15, .ref m_comes, .ref m_isStood, .int 0, .int 0, .int 0, .ref m_front, .ref m_has0, .ref m_isOn, .ref m_letTick, .ref m_letYard, .ref m_letSpeed, .ref m_where, .ref m_pace, .ref m_stood, .ref m_isOff, .ref m_off, .ref m_wrong, .int 0, .int 0, .int 0, .int 0, .ref m_endTick, .int 0, .int 0, .int 0, .int 0, .long 0])), (m_tape, .inl (G.2 1, 1600, .inl (upd f4 (5 : Int32).toNatClampNeg (vp_nar .byte v7))))] H := hP
  have hD : va_D A [(m0, .inr (11, [.int 0, .ref m_width, .ref m_many, .ref m_cells, .ref m_moved, .ref m_tape, .int 5, .int 0, .int 0, .int 0, .int 0, .long 0, .int 0, .int 0, .int 0, .int (-1), .ref m_lines, .ref m_length, .ref m_rain, .ref m_has, .ref m_slope, .ref m_wet, .ref m_limit, .ref m_platform, .ref m_kind, .ref m_train, .ref m_coach, .ref m_isKept, .ref m_sum, .int 0, .int 15, .ref m_comes, .ref m_isStood, .int 0, .int 0, .int 0, .ref m_front, .ref m_has0, .ref m_isOn, .ref m_letTick, .ref m_letYard, .ref m_letSpeed, .ref m_where, .ref m_pace, .ref m_stood, .ref m_isOff, .ref m_off, .ref m_wrong, .int 0, .int 0, .int 0, .int 0, .ref m_endTick, .int 0, .int 0, .int 0, .int 0, .long 0])), (m_tape, .inl (G.2 1, 1600, .inl (upd f4 (5 : Int32).toNatClampNeg (vp_nar .byte v7))))] := hD
  generalize (upd f4 (5 : Int32).toNatClampNeg (vp_nar .byte v7)) = f8 at hP hD
  refine lv_aload_n hx hb dX11_four_20 rfl (lv_at hl 1 rfl) ?_
  refine lv_dup hx hb dX11_four_21 rfl ?_
  refine va_get (D := G.1) (ci := 11) (v := .int 5) (C := RX11) (T := TX11) (N := 58) hx hb hw inGX11 hown hK hP 0 rfl rfl 6 (by decide) (hw _ kw_338) (fun _ h9 => h9) rfl dX11_four_22 ?_
  refine lv_iconst (v := 1) hx hb dX11_four_25 (by decide) ?_
  refine lv_iadd hx hb dX11_four_26 ?_
  refine lv_cst (y := 6) (by decide) ?_
  refine va_put (D := G.1) (ci := 11) (v := .int 6) (ty := .int) (C := RX11) (T := TX11) (N := 58) hx hb hw inGX11 tyX11 tyX11_ok nmX11 hown hK hP hD hS 0 rfl rfl 6 (by decide) (hw _ kw_338) (fun _ h9 => h9) rfl (by decide +kernel) rfl rfl (Nat.le_of_ble_eq_true rfl) dX11_four_27 (fun H locs hP hD hS => ?_)
  have hP : va_P G.1 vwCl [(m0, .inr (11, [.int 0, .ref m_width, .ref m_many, .ref m_cells, .ref m_moved, .ref m_tape, .int 6, .int 0, .int 0, .int 0, .int 0, .long 0, .int 0, .int 0, .int 0, .int (-1), .ref m_lines, .ref m_length, .ref m_rain, .ref m_has, .ref m_slope, .ref m_wet, .ref m_limit, .ref m_platform, .ref m_kind, .ref m_train, .ref m_coach, .ref m_isKept, .ref m_sum, .int 0, .int 15, .ref m_comes, .ref m_isStood, .int 0, .int 0, .int 0, .ref m_front, .ref m_has0, .ref m_isOn, .ref m_letTick, .ref m_letYard, .ref m_letSpeed, .ref m_where, .ref m_pace, .ref m_stood, .ref m_isOff, .ref m_off, .ref m_wrong, .int 0, .int 0, .int 0, .int 0, .ref m_endTick, .int 0, .int 0, .int 0, .int 0, .long 0])), (m_tape, .inl (G.2 1, 1600, .inl f8))] H := hP
  have hD : va_D A [(m0, .inr (11, [.int 0, .ref m_width, .ref m_many, .ref m_cells, .ref m_moved, .ref m_tape, .int 6, .int 0, .int 0, .int 0, .int 0, .long 0, .int 0, .int 0, .int 0, .int (-1), .ref m_lines, .ref m_length, .ref m_rain, .ref m_has, .ref m_slope, .ref m_wet, .ref m_limit, .ref m_platform, .ref m_kind, .ref m_train, .ref m_coach, .ref m_isKept, .ref m_sum, .int 0, .int 15, .ref m_comes, .ref m_isStood, .int 0, .int 0, .int 0, .ref m_front, .ref m_has0, .ref m_isOn, .ref m_letTick, .ref m_letYard, .ref m_letSpeed, .ref m_where, .ref m_pace, .ref m_stood, .ref m_isOff, .ref m_off, .ref m_wrong, .int 0, .int 0, .int 0, .int 0, .ref m_endTick, .int 0, .int 0, .int 0, .int 0, .long 0])), (m_tape, .inl (G.2 1, 1600, .inl f8))] := hD
  refine lv_iinc (v := 8) (lv' := [(2, .int 8), (0, .ref m0), (1, .int p0)]) hx hb dX11_four_30 hl (k := 0) rfl (by decide) (by decide) rfl (fun ls hl => ?_)
  refine lv_goto (tgt := 3) hx hb dX11_four_33 (by decide) ?_
  refine lv_iload_n hx hb dX11_four_3 rfl (lv_at hl 0 rfl) ?_
  refine lv_if_lt (tgt := 36) hx hb dX11_four_4 (by decide) (fun c9 => absurd c9 (by decide)) (fun c9 => ?_)
  refine lv_aload_n hx hb dX11_four_7 rfl (lv_at hl 1 rfl) ?_
  refine va_get (D := G.1) (ci := 11) (v := .ref m_tape) (C := RX11) (T := TX11) (N := 58) hx hb hw inGX11 hown hK hP 0 rfl rfl 5 (by decide) (hw _ kw_342) (fun _ h9 => h9) rfl dX11_four_8 ?_
  refine lv_aload_n hx hb dX11_four_11 rfl (lv_at hl 1 rfl) ?_
  refine va_get (D := G.1) (ci := 11) (v := .int 6) (C := RX11) (T := TX11) (N := 58) hx hb hw inGX11 hown hK hP 0 rfl rfl 6 (by decide) (hw _ kw_338) (fun _ h9 => h9) rfl dX11_four_12 ?_
  refine lv_iload_n hx hb dX11_four_15 rfl (lv_at hl 2 rfl) ?_
  refine lv_iload_n hx hb dX11_four_16 rfl (lv_at hl 0 rfl) ?_
  refine lv_ishr hx hb dX11_four_17 ?_
  refine lv_topi (fun v10 ev10 => ?_)
  refine lv_i2b hx hb dX11_four_18 rfl ?_
  refine lv_topi (fun v11 ev11 => ?_)
  refine va_bast hx hb hK hP hD hS 1 1 rfl rfl (vp_in_iff.mpr (by decide)) dX11_four_19 (fun H locs hP hD hS => ?_)
  have hP : va_P G.1 vwCl [(m0, .inr (11, [.int 0, .ref m_width, .ref m_many, .ref m_cells, .ref m_moved, .ref m_tape, .int 6, .int 0, .int 0, .int 0, .int 0, .long 0, .int 0, .int 0, .int 0, .int (-1), .ref m_lines, .ref m_length, .ref m_rain, .ref m_has, .ref m_slope, .ref m_wet, .ref m_limit, .ref m_platform, .ref m_kind, .ref m_train, .ref m_coach, .ref m_isKept, .ref m_sum, .int 0, .int 15, .ref m_comes, .ref m_isStood, .int 0, .int 0, .int 0, .ref m_front, .ref m_has0, .ref m_isOn, .ref m_letTick, .ref m_letYard, .ref m_letSpeed, .ref m_where, .ref m_pace, .ref m_stood, .ref m_isOff, .ref m_off, .ref m_wrong, .int 0, .int 0, .int 0, .int 0, .ref m_endTick, .int 0, .int 0, .int 0, .int 0, .long 0])), (m_tape, .inl (G.2 1, 1600, .inl (upd f8 (6 : Int32).toNatClampNeg (vp_nar .byte v11))))] H := hP
  have hD : va_D A [(m0, .inr (11, [.int 0, .ref m_width, .ref m_many, .ref m_cells, .ref m_moved, .ref m_tape, .int 6, .int 0, .int 0, .int 0, .int 0, .long 0, .int 0, .int 0, .int 0, .int (-1), .ref m_lines, .ref m_length, .ref m_rain, .ref m_has, .ref m_slope, .ref m_wet, .ref m_limit, .ref m_platform, .ref m_kind, .ref m_train, .ref m_coach, .ref m_isKept, .ref m_sum, .int 0, .int 15, .ref m_comes, .ref m_isStood, .int 0, .int 0, .int 0, .ref m_front, .ref m_has0, .ref m_isOn, .ref m_letTick, .ref m_letYard, .ref m_letSpeed, .ref m_where, .ref m_pace, .ref m_stood, .ref m_isOff, .ref m_off, .ref m_wrong, .int 0, .int 0, .int 0, .int 0, .ref m_endTick, .int 0, .int 0, .int 0, .int 0, .long 0])), (m_tape, .inl (G.2 1, 1600, .inl (upd f8 (6 : Int32).toNatClampNeg (vp_nar .byte v11))))] := hD
  generalize (upd f8 (6 : Int32).toNatClampNeg (vp_nar .byte v11)) = f12 at hP hD
  refine lv_aload_n hx hb dX11_four_20 rfl (lv_at hl 1 rfl) ?_
  refine lv_dup hx hb dX11_four_21 rfl ?_
  refine va_get (D := G.1) (ci := 11) (v := .int 6) (C := RX11) (T := TX11) (N := 58) hx hb hw inGX11 hown hK hP 0 rfl rfl 6 (by decide) (hw _ kw_338) (fun _ h9 => h9) rfl dX11_four_22 ?_
  refine lv_iconst (v := 1) hx hb dX11_four_25 (by decide) ?_
  refine lv_iadd hx hb dX11_four_26 ?_
  refine lv_cst (y := 7) (by decide) ?_
  refine va_put (D := G.1) (ci := 11) (v := .int 7) (ty := .int) (C := RX11) (T := TX11) (N := 58) hx hb hw inGX11 tyX11 tyX11_ok nmX11 hown hK hP hD hS 0 rfl rfl 6 (by decide) (hw _ kw_338) (fun _ h9 => h9) rfl (by decide +kernel) rfl rfl (Nat.le_of_ble_eq_true rfl) dX11_four_27 (fun H locs hP hD hS => ?_)
  have hP : va_P G.1 vwCl [(m0, .inr (11, [.int 0, .ref m_width, .ref m_many, .ref m_cells, .ref m_moved, .ref m_tape, .int 7, .int 0, .int 0, .int 0, .int 0, .long 0, .int 0, .int 0, .int 0, .int (-1), .ref m_lines, .ref m_length, .ref m_rain, .ref m_has, .ref m_slope, .ref m_wet, .ref m_limit, .ref m_platform, .ref m_kind, .ref m_train, .ref m_coach, .ref m_isKept, .ref m_sum, .int 0, .int 15, .ref m_comes, .ref m_isStood, .int 0, .int 0, .int 0, .ref m_front, .ref m_has0, .ref m_isOn, .ref m_letTick, .ref m_letYard, .ref m_letSpeed, .ref m_where, .ref m_pace, .ref m_stood, .ref m_isOff, .ref m_off, .ref m_wrong, .int 0, .int 0, .int 0, .int 0, .ref m_endTick, .int 0, .int 0, .int 0, .int 0, .long 0])), (m_tape, .inl (G.2 1, 1600, .inl f12))] H := hP
  have hD : va_D A [(m0, .inr (11, [.int 0, .ref m_width, .ref m_many, .ref m_cells, .ref m_moved, .ref m_tape, .int 7, .int 0, .int 0, .int 0, .int 0, .long 0, .int 0, .int 0, .int 0, .int (-1), .ref m_lines, .ref m_length, .ref m_rain, .ref m_has, .ref m_slope, .ref m_wet, .ref m_limit, .ref m_platform, .ref m_kind, .ref m_train, .ref m_coach, .ref m_isKept, .ref m_sum, .int 0, .int 15, .ref m_comes, .ref m_isStood, .int 0, .int 0, .int 0, .ref m_front, .ref m_has0, .ref m_isOn, .ref m_letTick, .ref m_letYard, .ref m_letSpeed, .ref m_where, .ref m_pace, .ref m_stood, .ref m_isOff, .ref m_off, .ref m_wrong, .int 0, .int 0, .int 0, .int 0, .ref m_endTick, .int 0, .int 0, .int 0, .int 0, .long 0])), (m_tape, .inl (G.2 1, 1600, .inl f12))] := hD
  refine lv_iinc (v := 0) (lv' := [(2, .int 0), (0, .ref m0), (1, .int p0)]) hx hb dX11_four_30 hl (k := 0) rfl (by decide) (by decide) rfl (fun ls hl => ?_)
  refine lv_goto (tgt := 3) hx hb dX11_four_33 (by decide) ?_
  refine lv_iload_n hx hb dX11_four_3 rfl (lv_at hl 0 rfl) ?_
  refine lv_if_lt (tgt := 36) hx hb dX11_four_4 (by decide) (fun c13 => absurd c13 (by decide)) (fun c13 => ?_)
  refine lv_aload_n hx hb dX11_four_7 rfl (lv_at hl 1 rfl) ?_
  refine va_get (D := G.1) (ci := 11) (v := .ref m_tape) (C := RX11) (T := TX11) (N := 58) hx hb hw inGX11 hown hK hP 0 rfl rfl 5 (by decide) (hw _ kw_342) (fun _ h9 => h9) rfl dX11_four_8 ?_
  refine lv_aload_n hx hb dX11_four_11 rfl (lv_at hl 1 rfl) ?_
  refine va_get (D := G.1) (ci := 11) (v := .int 7) (C := RX11) (T := TX11) (N := 58) hx hb hw inGX11 hown hK hP 0 rfl rfl 6 (by decide) (hw _ kw_338) (fun _ h9 => h9) rfl dX11_four_12 ?_
  refine lv_iload_n hx hb dX11_four_15 rfl (lv_at hl 2 rfl) ?_
  refine lv_iload_n hx hb dX11_four_16 rfl (lv_at hl 0 rfl) ?_
  refine lv_ishr hx hb dX11_four_17 ?_
  refine lv_topi (fun v14 ev14 => ?_)
  refine lv_i2b hx hb dX11_four_18 rfl ?_
  refine lv_topi (fun v15 ev15 => ?_)
  refine va_bast hx hb hK hP hD hS 1 1 rfl rfl (vp_in_iff.mpr (by decide)) dX11_four_19 (fun H locs hP hD hS => ?_)
  have hP : va_P G.1 vwCl [(m0, .inr (11, [.int 0, .ref m_width, .ref m_many, .ref m_cells, .ref m_moved, .ref m_tape, .int 7, .int 0, .int 0, .int 0, .int 0, .long 0, .int 0, .int 0, .int 0, .int (-1), .ref m_lines, .ref m_length, .ref m_rain, .ref m_has, .ref m_slope, .ref m_wet, .ref m_limit, .ref m_platform, .ref m_kind, .ref m_train, .ref m_coach, .ref m_isKept, .ref m_sum, .int 0, .int 15, .ref m_comes, .ref m_isStood, .int 0, .int 0, .int 0, .ref m_front, .ref m_has0, .ref m_isOn, .ref m_letTick, .ref m_letYard, .ref m_letSpeed, .ref m_where, .ref m_pace, .ref m_stood, .ref m_isOff, .ref m_off, .ref m_wrong, .int 0, .int 0, .int 0, .int 0, .ref m_endTick, .int 0, .int 0, .int 0, .int 0, .long 0])), (m_tape, .inl (G.2 1, 1600, .inl (upd f12 (7 : Int32).toNatClampNeg (vp_nar .byte v15))))] H := hP
  have hD : va_D A [(m0, .inr (11, [.int 0, .ref m_width, .ref m_many, .ref m_cells, .ref m_moved, .ref m_tape, .int 7, .int 0, .int 0, .int 0, .int 0, .long 0, .int 0, .int 0, .int 0, .int (-1), .ref m_lines, .ref m_length, .ref m_rain, .ref m_has, .ref m_slope, .ref m_wet, .ref m_limit, .ref m_platform, .ref m_kind, .ref m_train, .ref m_coach, .ref m_isKept, .ref m_sum, .int 0, .int 15, .ref m_comes, .ref m_isStood, .int 0, .int 0, .int 0, .ref m_front, .ref m_has0, .ref m_isOn, .ref m_letTick, .ref m_letYard, .ref m_letSpeed, .ref m_where, .ref m_pace, .ref m_stood, .ref m_isOff, .ref m_off, .ref m_wrong, .int 0, .int 0, .int 0, .int 0, .ref m_endTick, .int 0, .int 0, .int 0, .int 0, .long 0])), (m_tape, .inl (G.2 1, 1600, .inl (upd f12 (7 : Int32).toNatClampNeg (vp_nar .byte v15))))] := hD
  generalize (upd f12 (7 : Int32).toNatClampNeg (vp_nar .byte v15)) = f16 at hP hD
  refine lv_aload_n hx hb dX11_four_20 rfl (lv_at hl 1 rfl) ?_
  refine lv_dup hx hb dX11_four_21 rfl ?_
  refine va_get (D := G.1) (ci := 11) (v := .int 7) (C := RX11) (T := TX11) (N := 58) hx hb hw inGX11 hown hK hP 0 rfl rfl 6 (by decide) (hw _ kw_338) (fun _ h9 => h9) rfl dX11_four_22 ?_
  refine lv_iconst (v := 1) hx hb dX11_four_25 (by decide) ?_
  refine lv_iadd hx hb dX11_four_26 ?_
  refine lv_cst (y := 8) (by decide) ?_
  refine va_put (D := G.1) (ci := 11) (v := .int 8) (ty := .int) (C := RX11) (T := TX11) (N := 58) hx hb hw inGX11 tyX11 tyX11_ok nmX11 hown hK hP hD hS 0 rfl rfl 6 (by decide) (hw _ kw_338) (fun _ h9 => h9) rfl (by decide +kernel) rfl rfl (Nat.le_of_ble_eq_true rfl) dX11_four_27 (fun H locs hP hD hS => ?_)
  have hP : va_P G.1 vwCl [(m0, .inr (11, [.int 0, .ref m_width, .ref m_many, .ref m_cells, .ref m_moved, .ref m_tape, .int 8, .int 0, .int 0, .int 0, .int 0, .long 0, .int 0, .int 0, .int 0, .int (-1), .ref m_lines, .ref m_length, .ref m_rain, .ref m_has, .ref m_slope, .ref m_wet, .ref m_limit, .ref m_platform, .ref m_kind, .ref m_train, .ref m_coach, .ref m_isKept, .ref m_sum, .int 0, .int 15, .ref m_comes, .ref m_isStood, .int 0, .int 0, .int 0, .ref m_front, .ref m_has0, .ref m_isOn, .ref m_letTick, .ref m_letYard, .ref m_letSpeed, .ref m_where, .ref m_pace, .ref m_stood, .ref m_isOff, .ref m_off, .ref m_wrong, .int 0, .int 0, .int 0, .int 0, .ref m_endTick, .int 0, .int 0, .int 0, .int 0, .long 0])), (m_tape, .inl (G.2 1, 1600, .inl f16))] H := hP
  have hD : va_D A [(m0, .inr (11, [.int 0, .ref m_width, .ref m_many, .ref m_cells, .ref m_moved, .ref m_tape, .int 8, .int 0, .int 0, .int 0, .int 0, .long 0, .int 0, .int 0, .int 0, .int (-1), .ref m_lines, .ref m_length, .ref m_rain, .ref m_has, .ref m_slope, .ref m_wet, .ref m_limit, .ref m_platform, .ref m_kind, .ref m_train, .ref m_coach, .ref m_isKept, .ref m_sum, .int 0, .int 15, .ref m_comes, .ref m_isStood, .int 0, .int 0, .int 0, .ref m_front, .ref m_has0, .ref m_isOn, .ref m_letTick, .ref m_letYard, .ref m_letSpeed, .ref m_where, .ref m_pace, .ref m_stood, .ref m_isOff, .ref m_off, .ref m_wrong, .int 0, .int 0, .int 0, .int 0, .ref m_endTick, .int 0, .int 0, .int 0, .int 0, .long 0])), (m_tape, .inl (G.2 1, 1600, .inl f16))] := hD
  refine lv_iinc (v := (-8)) (lv' := [(2, .int (-8)), (0, .ref m0), (1, .int p0)]) hx hb dX11_four_30 hl (k := 0) rfl (by decide) (by decide) rfl (fun ls hl => ?_)
  refine lv_goto (tgt := 3) hx hb dX11_four_33 (by decide) ?_
  refine lv_iload_n hx hb dX11_four_3 rfl (lv_at hl 0 rfl) ?_
  refine lv_if_lt (tgt := 36) hx hb dX11_four_4 (by decide) (fun c17 => ?_) (fun c17 => absurd (by decide) c17)
  exact W.vret hx hb hr (fun t ht hW => ⟨⟨f16, rfl, trivial, ⟨by rw [ht]; exact hP.sub [0, 1] rfl, hD.sub [0, 1] (by decide +kernel) rfl⟩⟩, hS.F ht⟩) hS.2.2 dX11_four_36
set_option maxHeartbeats 4000000 in
set_option maxRecDepth 100000 in
theorem c_four_8 (l : Launch) (G : KG) (m0 : Nat) (m_width : Nat) (m_many : Nat) (m_cells : Nat) (m_moved : Nat) (m_tape : Nat) (m_lines : Nat) (m_length : Nat) (m_rain : Nat) (m_has : Nat) (m_slope : Nat) (m_wet : Nat) (m_limit : Nat) (m_platform : Nat) (m_kind : Nat) (m_train : Nat) (m_coach : Nat) (m_isKept : Nat) (m_sum : Nat) (m_comes : Nat) (m_isStood : Nat) (m_front : Nat) (m_has0 : Nat) (m_isOn : Nat) (m_letTick : Nat) (m_letYard : Nat) (m_letSpeed : Nat) (m_where : Nat) (m_pace : Nat) (m_stood : Nat) (m_isOff : Nat) (m_off : Nat) (m_wrong : Nat) (m_endTick : Nat) (f0 : Nat → Int32) (p0 : Int32) (sz : Nat) : Met l yX11_four wgX11_four ({ frames := 0, cells := 0, slots := 0, locals := 0 }) (preQ G [.ref m0, .int p0] sz [(m0, .inr (11, [.int 0, .ref m_width, .ref m_many, .ref m_cells, .ref m_moved, .ref m_tape, .int 8, .int 0, .int 0, .int 0, .int 0, .long 0, .int 0, .int 0, .int 0, .int (-1), .ref m_lines, .ref m_length, .ref m_rain, .ref m_has, .ref m_slope, .ref m_wet, .ref m_limit, .ref m_platform, .ref m_kind, .ref m_train, .ref m_coach, .ref m_isKept, .ref m_sum, .int 0, .int 15, .ref m_comes, .ref m_isStood, .int 0, .int 0, .int 0, .ref m_front, .ref m_has0, .ref m_isOn, .ref m_letTick, .ref m_letYard, .ref m_letSpeed, .ref m_where, .ref m_pace, .ref m_stood, .ref m_isOff, .ref m_off, .ref m_wrong, .int 0, .int 0, .int 0, .int 0, .ref m_endTick, .int 0, .int 0, .int 0, .int 0, .long 0])), (m_tape, .inl (G.2 1, 1600, .inl f0))]) (va_Qv (fun (u : (Nat → Int32)) => True) (fun u t => atQ G (va_A [(m0, .inr (11, [.int 0, .ref m_width, .ref m_many, .ref m_cells, .ref m_moved, .ref m_tape, .int 8, .int 0, .int 0, .int 0, .int 0, .long 0, .int 0, .int 0, .int 0, .int (-1), .ref m_lines, .ref m_length, .ref m_rain, .ref m_has, .ref m_slope, .ref m_wet, .ref m_limit, .ref m_platform, .ref m_kind, .ref m_train, .ref m_coach, .ref m_isKept, .ref m_sum, .int 0, .int 15, .ref m_comes, .ref m_isStood, .int 0, .int 0, .int 0, .ref m_front, .ref m_has0, .ref m_isOn, .ref m_letTick, .ref m_letYard, .ref m_letSpeed, .ref m_where, .ref m_pace, .ref m_stood, .ref m_isOff, .ref m_off, .ref m_wrong, .int 0, .int 0, .int 0, .int 0, .ref m_endTick, .int 0, .int 0, .int 0, .int 0, .long 0])), (m_tape, .inl (G.2 1, 1600, .inl f0))] sz) [(m0, .inr (11, [.int 0, .ref m_width, .ref m_many, .ref m_cells, .ref m_moved, .ref m_tape, .int 12, .int 0, .int 0, .int 0, .int 0, .long 0, .int 0, .int 0, .int 0, .int (-1), .ref m_lines, .ref m_length, .ref m_rain, .ref m_has, .ref m_slope, .ref m_wet, .ref m_limit, .ref m_platform, .ref m_kind, .ref m_train, .ref m_coach, .ref m_isKept, .ref m_sum, .int 0, .int 15, .ref m_comes, .ref m_isStood, .int 0, .int 0, .int 0, .ref m_front, .ref m_has0, .ref m_isOn, .ref m_letTick, .ref m_letYard, .ref m_letSpeed, .ref m_where, .ref m_pace, .ref m_stood, .ref m_isOff, .ref m_off, .ref m_wrong, .int 0, .int 0, .int 0, .int 0, .ref m_endTick, .int 0, .int 0, .int 0, .int 0, .long 0])), (m_tape, .inl (G.2 1, 1600, .inl u))] t) (va_A [(m0, .inr (11, [.int 0, .ref m_width, .ref m_many, .ref m_cells, .ref m_moved, .ref m_tape, .int 8, .int 0, .int 0, .int 0, .int 0, .long 0, .int 0, .int 0, .int 0, .int (-1), .ref m_lines, .ref m_length, .ref m_rain, .ref m_has, .ref m_slope, .ref m_wet, .ref m_limit, .ref m_platform, .ref m_kind, .ref m_train, .ref m_coach, .ref m_isKept, .ref m_sum, .int 0, .int 15, .ref m_comes, .ref m_isStood, .int 0, .int 0, .int 0, .ref m_front, .ref m_has0, .ref m_isOn, .ref m_letTick, .ref m_letYard, .ref m_letSpeed, .ref m_where, .ref m_pace, .ref m_stood, .ref m_isOff, .ref m_off, .ref m_wrong, .int 0, .int 0, .int 0, .int 0, .ref m_endTick, .int 0, .int 0, .int 0, .int 0, .long 0])), (m_tape, .inl (G.2 1, 1600, .inl f0))] sz)) 0 0 (va_A [(m0, .inr (11, [.int 0, .ref m_width, .ref m_many, .ref m_cells, .ref m_moved, .ref m_tape, .int 8, .int 0, .int 0, .int 0, .int 0, .long 0, .int 0, .int 0, .int 0, .int (-1), .ref m_lines, .ref m_length, .ref m_rain, .ref m_has, .ref m_slope, .ref m_wet, .ref m_limit, .ref m_platform, .ref m_kind, .ref m_train, .ref m_coach, .ref m_isKept, .ref m_sum, .int 0, .int 15, .ref m_comes, .ref m_isStood, .int 0, .int 0, .int 0, .ref m_front, .ref m_has0, .ref m_isOn, .ref m_letTick, .ref m_letYard, .ref m_letSpeed, .ref m_where, .ref m_pace, .ref m_stood, .ref m_isOff, .ref m_off, .ref m_wrong, .int 0, .int 0, .int 0, .int 0, .ref m_endTick, .int 0, .int 0, .int 0, .int 0, .long 0])), (m_tape, .inl (G.2 1, 1600, .inl f0))] sz) := by
  refine Met.ofW (cc := cX11_four) (maxL := 3) (ret := none) (by decide) rfl ?_
  intro p e s m args below meth c s₁ B hml hv
  obtain ⟨rfl, hsz, hP, hKG, hD0⟩ := hv
  obtain ⟨hK, hAO⟩ := id hKG
  have hx := B.exec
  have hb := B.bytes
  have hr := B.returns
  have hts := atoms_spec (ws := wgX11_four) B.pre
  have hw : ∀ w ∈ wG, w.before _ s = true := fun w h => hts w (List.mem_cons_of_mem _ h)
  have hown : s.vm.findClass RX11 = some m.cls := findClass_of_methodNamed B.named
  have hlocks := B.notSynchronized
  subst hsz
  have hD := hD0.self (sz := s.heap.size)
  generalize hAe : va_A [(m0, .inr (11, [.int 0, .ref m_width, .ref m_many, .ref m_cells, .ref m_moved, .ref m_tape, .int 8, .int 0, .int 0, .int 0, .int 0, .long 0, .int 0, .int 0, .int 0, .int (-1), .ref m_lines, .ref m_length, .ref m_rain, .ref m_has, .ref m_slope, .ref m_wet, .ref m_limit, .ref m_platform, .ref m_kind, .ref m_train, .ref m_coach, .ref m_isKept, .ref m_sum, .int 0, .int 15, .ref m_comes, .ref m_isStood, .int 0, .int 0, .int 0, .ref m_front, .ref m_has0, .ref m_isOn, .ref m_letTick, .ref m_letYard, .ref m_letSpeed, .ref m_where, .ref m_pace, .ref m_stood, .ref m_isOff, .ref m_off, .ref m_wrong, .int 0, .int 0, .int 0, .int 0, .ref m_endTick, .int 0, .int 0, .int 0, .int 0, .long 0])), (m_tape, .inl (G.2 1, 1600, .inl f0))] s.heap.size = A at hD ⊢
  have hA : ∀ q : Nat, s.heap.size ≤ q → A q := fun q h => by rw [← hAe]; exact Or.inr h
  have hS : va_S A s.heap s.heap [] := va_S.rf
  have hl := lv_entry ([.ref m0, .int p0]) (n := 3) (Nat.le_of_ble_eq_true rfl)
  rw [lg_entry_eq]
  generalize (lg_sl ([.ref m0, .int p0]) ++ List.replicate (3 - (lg_sl ([.ref m0, .int p0])).length) Slot.unset).toArray = ls at hl ⊢
  have hl : lv_has ls 3 [(0, .ref m0), (1, .int p0)] := hl
  refine lv_bipush (v := 24) hx hb dX11_four_0 (by decide) ?_
  refine lv_istore_n (lv' := [(2, .int 24), (0, .ref m0), (1, .int p0)]) hx hb dX11_four_2 rfl hl (by decide) rfl (fun ls hl => ?_)
  refine lv_iload_n hx hb dX11_four_3 rfl (lv_at hl 0 rfl) ?_
  refine lv_if_lt (tgt := 36) hx hb dX11_four_4 (by decide) (fun c1 => absurd c1 (by decide)) (fun c1 => ?_)
  refine lv_aload_n hx hb dX11_four_7 rfl (lv_at hl 1 rfl) ?_
  refine va_get (D := G.1) (ci := 11) (v := .ref m_tape) (C := RX11) (T := TX11) (N := 58) hx hb hw inGX11 hown hK hP 0 rfl rfl 5 (by decide) (hw _ kw_342) (fun _ h9 => h9) rfl dX11_four_8 ?_
  refine lv_aload_n hx hb dX11_four_11 rfl (lv_at hl 1 rfl) ?_
  refine va_get (D := G.1) (ci := 11) (v := .int 8) (C := RX11) (T := TX11) (N := 58) hx hb hw inGX11 hown hK hP 0 rfl rfl 6 (by decide) (hw _ kw_338) (fun _ h9 => h9) rfl dX11_four_12 ?_
  refine lv_iload_n hx hb dX11_four_15 rfl (lv_at hl 2 rfl) ?_
  refine lv_iload_n hx hb dX11_four_16 rfl (lv_at hl 0 rfl) ?_
  refine lv_ishr hx hb dX11_four_17 ?_
  refine lv_topi (fun v2 ev2 => ?_)
  refine lv_i2b hx hb dX11_four_18 rfl ?_
  refine lv_topi (fun v3 ev3 => ?_)
  refine va_bast hx hb hK hP hD hS 1 1 rfl rfl (vp_in_iff.mpr (by decide)) dX11_four_19 (fun H locs hP hD hS => ?_)
  have hP : va_P G.1 vwCl [(m0, .inr (11, [.int 0, .ref m_width, .ref m_many, .ref m_cells, .ref m_moved, .ref m_tape, .int 8, .int 0, .int 0, .int 0, .int 0, .long 0, .int 0, .int 0, .int 0, .int (-1), .ref m_lines, .ref m_length, .ref m_rain, .ref m_has, .ref m_slope, .ref m_wet, .ref m_limit, .ref m_platform, .ref m_kind, .ref m_train, .ref m_coach, .ref m_isKept, .ref m_sum, .int 0, .int 15, .ref m_comes, .ref m_isStood, .int 0, .int 0, .int 0, .ref m_front, .ref m_has0, .ref m_isOn, .ref m_letTick, .ref m_letYard, .ref m_letSpeed, .ref m_where, .ref m_pace, .ref m_stood, .ref m_isOff, .ref m_off, .ref m_wrong, .int 0, .int 0, .int 0, .int 0, .ref m_endTick, .int 0, .int 0, .int 0, .int 0, .long 0])), (m_tape, .inl (G.2 1, 1600, .inl (upd f0 (8 : Int32).toNatClampNeg (vp_nar .byte v3))))] H := hP
  have hD : va_D A [(m0, .inr (11, [.int 0, .ref m_width, .ref m_many, .ref m_cells, .ref m_moved, .ref m_tape, .int 8, .int 0, .int 0, .int 0, .int 0, .long 0, .int 0, .int 0, .int 0, .int (-1), .ref m_lines, .ref m_length, .ref m_rain, .ref m_has, .ref m_slope, .ref m_wet, .ref m_limit, .ref m_platform, .ref m_kind, .ref m_train, .ref m_coach, .ref m_isKept, .ref m_sum, .int 0, .int 15, .ref m_comes, .ref m_isStood, .int 0, .int 0, .int 0, .ref m_front, .ref m_has0, .ref m_isOn, .ref m_letTick, .ref m_letYard, .ref m_letSpeed, .ref m_where, .ref m_pace, .ref m_stood, .ref m_isOff, .ref m_off, .ref m_wrong, .int 0, .int 0, .int 0, .int 0, .ref m_endTick, .int 0, .int 0, .int 0, .int 0, .long 0])), (m_tape, .inl (G.2 1, 1600, .inl (upd f0 (8 : Int32).toNatClampNeg (vp_nar .byte v3))))] := hD
  generalize (upd f0 (8 : Int32).toNatClampNeg (vp_nar .byte v3)) = f4 at hP hD
  refine lv_aload_n hx hb dX11_four_20 rfl (lv_at hl 1 rfl) ?_
  refine lv_dup hx hb dX11_four_21 rfl ?_
  refine va_get (D := G.1) (ci := 11) (v := .int 8) (C := RX11) (T := TX11) (N := 58) hx hb hw inGX11 hown hK hP 0 rfl rfl 6 (by decide) (hw _ kw_338) (fun _ h9 => h9) rfl dX11_four_22 ?_
  refine lv_iconst (v := 1) hx hb dX11_four_25 (by decide) ?_
  refine lv_iadd hx hb dX11_four_26 ?_
  refine lv_cst (y := 9) (by decide) ?_
  refine va_put (D := G.1) (ci := 11) (v := .int 9) (ty := .int) (C := RX11) (T := TX11) (N := 58) hx hb hw inGX11 tyX11 tyX11_ok nmX11 hown hK hP hD hS 0 rfl rfl 6 (by decide) (hw _ kw_338) (fun _ h9 => h9) rfl (by decide +kernel) rfl rfl (Nat.le_of_ble_eq_true rfl) dX11_four_27 (fun H locs hP hD hS => ?_)
  have hP : va_P G.1 vwCl [(m0, .inr (11, [.int 0, .ref m_width, .ref m_many, .ref m_cells, .ref m_moved, .ref m_tape, .int 9, .int 0, .int 0, .int 0, .int 0, .long 0, .int 0, .int 0, .int 0, .int (-1), .ref m_lines, .ref m_length, .ref m_rain, .ref m_has, .ref m_slope, .ref m_wet, .ref m_limit, .ref m_platform, .ref m_kind, .ref m_train, .ref m_coach, .ref m_isKept, .ref m_sum, .int 0, .int 15, .ref m_comes, .ref m_isStood, .int 0, .int 0, .int 0, .ref m_front, .ref m_has0, .ref m_isOn, .ref m_letTick, .ref m_letYard, .ref m_letSpeed, .ref m_where, .ref m_pace, .ref m_stood, .ref m_isOff, .ref m_off, .ref m_wrong, .int 0, .int 0, .int 0, .int 0, .ref m_endTick, .int 0, .int 0, .int 0, .int 0, .long 0])), (m_tape, .inl (G.2 1, 1600, .inl f4))] H := hP
  have hD : va_D A [(m0, .inr (11, [.int 0, .ref m_width, .ref m_many, .ref m_cells, .ref m_moved, .ref m_tape, .int 9, .int 0, .int 0, .int 0, .int 0, .long 0, .int 0, .int 0, .int 0, .int (-1), .ref m_lines, .ref m_length, .ref m_rain, .ref m_has, .ref m_slope, .ref m_wet, .ref m_limit, .ref m_platform, .ref m_kind, .ref m_train, .ref m_coach, .ref m_isKept, .ref m_sum, .int 0, .int 15, .ref m_comes, .ref m_isStood, .int 0, .int 0, .int 0, .ref m_front, .ref m_has0, .ref m_isOn, .ref m_letTick, .ref m_letYard, .ref m_letSpeed, .ref m_where, .ref m_pace, .ref m_stood, .ref m_isOff, .ref m_off, .ref m_wrong, .int 0, .int 0, .int 0, .int 0, .ref m_endTick, .int 0, .int 0, .int 0, .int 0, .long 0])), (m_tape, .inl (G.2 1, 1600, .inl f4))] := hD
  refine lv_iinc (v := 16) (lv' := [(2, .int 16), (0, .ref m0), (1, .int p0)]) hx hb dX11_four_30 hl (k := 0) rfl (by decide) (by decide) rfl (fun ls hl => ?_)
  refine lv_goto (tgt := 3) hx hb dX11_four_33 (by decide) ?_
  refine lv_iload_n hx hb dX11_four_3 rfl (lv_at hl 0 rfl) ?_
  refine lv_if_lt (tgt := 36) hx hb dX11_four_4 (by decide) (fun c5 => absurd c5 (by decide)) (fun c5 => ?_)
  refine lv_aload_n hx hb dX11_four_7 rfl (lv_at hl 1 rfl) ?_
  refine va_get (D := G.1) (ci := 11) (v := .ref m_tape) (C := RX11) (T := TX11) (N := 58) hx hb hw inGX11 hown hK hP 0 rfl rfl 5 (by decide) (hw _ kw_342) (fun _ h9 => h9) rfl dX11_four_8 ?_
  refine lv_aload_n hx hb dX11_four_11 rfl (lv_at hl 1 rfl) ?_
  refine va_get (D := G.1) (ci := 11) (v := .int 9) (C := RX11) (T := TX11) (N := 58) hx hb hw inGX11 hown hK hP 0 rfl rfl 6 (by decide) (hw _ kw_338) (fun _ h9 => h9) rfl dX11_four_12 ?_
  refine lv_iload_n hx hb dX11_four_15 rfl (lv_at hl 2 rfl) ?_
  refine lv_iload_n hx hb dX11_four_16 rfl (lv_at hl 0 rfl) ?_
  refine lv_ishr hx hb dX11_four_17 ?_
  refine lv_topi (fun v6 ev6 => ?_)
  refine lv_i2b hx hb dX11_four_18 rfl ?_
  refine lv_topi (fun v7 ev7 => ?_)
  refine va_bast hx hb hK hP hD hS 1 1 rfl rfl (vp_in_iff.mpr (by decide)) dX11_four_19 (fun H locs hP hD hS => ?_)
  have hP : va_P G.1 vwCl [(m0, .inr (11, [.int 0, .ref m_width, .ref m_many, .ref m_cells, .ref m_moved, .ref m_tape, .int 9, .int 0, .int 0, .int 0, .int 0, .long 0, .int 0, .int 0, .int 0, .int (-1), .ref m_lines, .ref m_length, .ref m_rain, .ref m_has, .ref m_slope, .ref m_wet, .ref m_limit, .ref m_platform, .ref m_kind, .ref m_train, .ref m_coach, .ref m_isKept, .ref m_sum, .int 0, .int 15, .ref m_comes, .ref m_isStood, .int 0, .int 0, .int 0, .ref m_front, .ref m_has0, .ref m_isOn, .ref m_letTick, .ref m_letYard, .ref m_letSpeed, .ref m_where, .ref m_pace, .ref m_stood, .ref m_isOff, .ref m_off, .ref m_wrong, .int 0, .int 0, .int 0, .int 0, .ref m_endTick, .int 0, .int 0, .int 0, .int 0, .long 0])), (m_tape, .inl (G.2 1, 1600, .inl (upd f4 (9 : Int32).toNatClampNeg (vp_nar .byte v7))))] H := hP
  have hD : va_D A [(m0, .inr (11, [.int 0, .ref m_width, .ref m_many, .ref m_cells, .ref m_moved, .ref m_tape, .int 9, .int 0, .int 0, .int 0, .int 0, .long 0, .int 0, .int 0, .int 0, .int (-1), .ref m_lines, .ref m_length, .ref m_rain, .ref m_has, .ref m_slope, .ref m_wet, .ref m_limit, .ref m_platform, .ref m_kind, .ref m_train, .ref m_coach, .ref m_isKept, .ref m_sum, .int 0, .int 15, .ref m_comes, .ref m_isStood, .int 0, .int 0, .int 0, .ref m_front, .ref m_has0, .ref m_isOn, .ref m_letTick, .ref m_letYard, .ref m_letSpeed, .ref m_where, .ref m_pace, .ref m_stood, .ref m_isOff, .ref m_off, .ref m_wrong, .int 0, .int 0, .int 0, .int 0, .ref m_endTick, .int 0, .int 0, .int 0, .int 0, .long 0])), (m_tape, .inl (G.2 1, 1600, .inl (upd f4 (9 : Int32).toNatClampNeg (vp_nar .byte v7))))] := hD
  generalize (upd f4 (9 : Int32).toNatClampNeg (vp_nar .byte v7)) = f8 at hP hD
  refine lv_aload_n hx hb dX11_four_20 rfl (lv_at hl 1 rfl) ?_
  refine lv_dup hx hb dX11_four_21 rfl ?_
  refine va_get (D := G.1) (ci := 11) (v := .int 9) (C := RX11) (T := TX11) (N := 58) hx hb hw inGX11 hown hK hP 0 rfl rfl 6 (by decide) (hw _ kw_338) (fun _ h9 => h9) rfl dX11_four_22 ?_
  refine lv_iconst (v := 1) hx hb dX11_four_25 (by decide) ?_
  refine lv_iadd hx hb dX11_four_26 ?_
  refine lv_cst (y := 10) (by decide) ?_
  refine va_put (D := G.1) (ci := 11) (v := .int 10) (ty := .int) (C := RX11) (T := TX11) (N := 58) hx hb hw inGX11 tyX11 tyX11_ok nmX11 hown hK hP hD hS 0 rfl rfl 6 (by decide) (hw _ kw_338) (fun _ h9 => h9) rfl (by decide +kernel) rfl rfl (Nat.le_of_ble_eq_true rfl) dX11_four_27 (fun H locs hP hD hS => ?_)
  have hP : va_P G.1 vwCl [(m0, .inr (11, [.int 0, .ref m_width, .ref m_many, .ref m_cells, .ref m_moved, .ref m_tape, .int 10, .int 0, .int 0, .int 0, .int 0, .long 0, .int 0, .int 0, .int 0, .int (-1), .ref m_lines, .ref m_length, .ref m_rain, .ref m_has, .ref m_slope, .ref m_wet, .ref m_limit, .ref m_platform, .ref m_kind, .ref m_train, .ref m_coach, .ref m_isKept, .ref m_sum, .int 0, .int 15, .ref m_comes, .ref m_isStood, .int 0, .int 0, .int 0, .ref m_front, .ref m_has0, .ref m_isOn, .ref m_letTick, .ref m_letYard, .ref m_letSpeed, .ref m_where, .ref m_pace, .ref m_stood, .ref m_isOff, .ref m_off, .ref m_wrong, .int 0, .int 0, .int 0, .int 0, .ref m_endTick, .int 0, .int 0, .int 0, .int 0, .long 0])), (m_tape, .inl (G.2 1, 1600, .inl f8))] H := hP
  have hD : va_D A [(m0, .inr (11, [.int 0, .ref m_width, .ref m_many, .ref m_cells, .ref m_moved, .ref m_tape, .int 10, .int 0, .int 0, .int 0, .int 0, .long 0, .int 0, .int 0, .int 0, .int (-1), .ref m_lines, .ref m_length, .ref m_rain, .ref m_has, .ref m_slope, .ref m_wet, .ref m_limit, .ref m_platform, .ref m_kind, .ref m_train, .ref m_coach, .ref m_isKept, .ref m_sum, .int 0, .int 15, .ref m_comes, .ref m_isStood, .int 0, .int 0, .int 0, .ref m_front, .ref m_has0, .ref m_isOn, .ref m_letTick, .ref m_letYard, .ref m_letSpeed, .ref m_where, .ref m_pace, .ref m_stood, .ref m_isOff, .ref m_off, .ref m_wrong, .int 0, .int 0, .int 0, .int 0, .ref m_endTick, .int 0, .int 0, .int 0, .int 0, .long 0])), (m_tape, .inl (G.2 1, 1600, .inl f8))] := hD
  refine lv_iinc (v := 8) (lv' := [(2, .int 8), (0, .ref m0), (1, .int p0)]) hx hb dX11_four_30 hl (k := 0) rfl (by decide) (by decide) rfl (fun ls hl => ?_)
  refine lv_goto (tgt := 3) hx hb dX11_four_33 (by decide) ?_
  refine lv_iload_n hx hb dX11_four_3 rfl (lv_at hl 0 rfl) ?_
  refine lv_if_lt (tgt := 36) hx hb dX11_four_4 (by decide) (fun c9 => absurd c9 (by decide)) (fun c9 => ?_)
  refine lv_aload_n hx hb dX11_four_7 rfl (lv_at hl 1 rfl) ?_
  refine va_get (D := G.1) (ci := 11) (v := .ref m_tape) (C := RX11) (T := TX11) (N := 58) hx hb hw inGX11 hown hK hP 0 rfl rfl 5 (by decide) (hw _ kw_342) (fun _ h9 => h9) rfl dX11_four_8 ?_
  refine lv_aload_n hx hb dX11_four_11 rfl (lv_at hl 1 rfl) ?_
  refine va_get (D := G.1) (ci := 11) (v := .int 10) (C := RX11) (T := TX11) (N := 58) hx hb hw inGX11 hown hK hP 0 rfl rfl 6 (by decide) (hw _ kw_338) (fun _ h9 => h9) rfl dX11_four_12 ?_
  refine lv_iload_n hx hb dX11_four_15 rfl (lv_at hl 2 rfl) ?_
  refine lv_iload_n hx hb dX11_four_16 rfl (lv_at hl 0 rfl) ?_
  refine lv_ishr hx hb dX11_four_17 ?_
  refine lv_topi (fun v10 ev10 => ?_)
  refine lv_i2b hx hb dX11_four_18 rfl ?_
  refine lv_topi (fun v11 ev11 => ?_)
  refine va_bast hx hb hK hP hD hS 1 1 rfl rfl (vp_in_iff.mpr (by decide)) dX11_four_19 (fun H locs hP hD hS => ?_)
  have hP : va_P G.1 vwCl [(m0, .inr (11, [.int 0, .ref m_width, .ref m_many, .ref m_cells, .ref m_moved, .ref m_tape, .int 10, .int 0, .int 0, .int 0, .int 0, .long 0, .int 0, .int 0, .int 0, .int (-1), .ref m_lines, .ref m_length, .ref m_rain, .ref m_has, .ref m_slope, .ref m_wet, .ref m_limit, .ref m_platform, .ref m_kind, .ref m_train, .ref m_coach, .ref m_isKept, .ref m_sum, .int 0, .int 15, .ref m_comes, .ref m_isStood, .int 0, .int 0, .int 0, .ref m_front, .ref m_has0, .ref m_isOn, .ref m_letTick, .ref m_letYard, .ref m_letSpeed, .ref m_where, .ref m_pace, .ref m_stood, .ref m_isOff, .ref m_off, .ref m_wrong, .int 0, .int 0, .int 0, .int 0, .ref m_endTick, .int 0, .int 0, .int 0, .int 0, .long 0])), (m_tape, .inl (G.2 1, 1600, .inl (upd f8 (10 : Int32).toNatClampNeg (vp_nar .byte v11))))] H := hP
  have hD : va_D A [(m0, .inr (11, [.int 0, .ref m_width, .ref m_many, .ref m_cells, .ref m_moved, .ref m_tape, .int 10, .int 0, .int 0, .int 0, .int 0, .long 0, .int 0, .int 0, .int 0, .int (-1), .ref m_lines, .ref m_length, .ref m_rain, .ref m_has, .ref m_slope, .ref m_wet, .ref m_limit, .ref m_platform, .ref m_kind, .ref m_train, .ref m_coach, .ref m_isKept, .ref m_sum, .int 0, .int 15, .ref m_comes, .ref m_isStood, .int 0, .int 0, .int 0, .ref m_front, .ref m_has0, .ref m_isOn, .ref m_letTick, .ref m_letYard, .ref m_letSpeed, .ref m_where, .ref m_pace, .ref m_stood, .ref m_isOff, .ref m_off, .ref m_wrong, .int 0, .int 0, .int 0, .int 0, .ref m_endTick, .int 0, .int 0, .int 0, .int 0, .long 0])), (m_tape, .inl (G.2 1, 1600, .inl (upd f8 (10 : Int32).toNatClampNeg (vp_nar .byte v11))))] := hD
  generalize (upd f8 (10 : Int32).toNatClampNeg (vp_nar .byte v11)) = f12 at hP hD
  refine lv_aload_n hx hb dX11_four_20 rfl (lv_at hl 1 rfl) ?_
  refine lv_dup hx hb dX11_four_21 rfl ?_
  refine va_get (D := G.1) (ci := 11) (v := .int 10) (C := RX11) (T := TX11) (N := 58) hx hb hw inGX11 hown hK hP 0 rfl rfl 6 (by decide) (hw _ kw_338) (fun _ h9 => h9) rfl dX11_four_22 ?_
  refine lv_iconst (v := 1) hx hb dX11_four_25 (by decide) ?_
  refine lv_iadd hx hb dX11_four_26 ?_
  refine lv_cst (y := 11) (by decide) ?_
  refine va_put (D := G.1) (ci := 11) (v := .int 11) (ty := .int) (C := RX11) (T := TX11) (N := 58) hx hb hw inGX11 tyX11 tyX11_ok nmX11 hown hK hP hD hS 0 rfl rfl 6 (by decide) (hw _ kw_338) (fun _ h9 => h9) rfl (by decide +kernel) rfl rfl (Nat.le_of_ble_eq_true rfl) dX11_four_27 (fun H locs hP hD hS => ?_)
  have hP : va_P G.1 vwCl [(m0, .inr (11, [.int 0, .ref m_width, .ref m_many, .ref m_cells, .ref m_moved, .ref m_tape, .int 11, .int 0, .int 0, .int 0, .int 0, .long 0, .int 0, .int 0, .int 0, .int (-1), .ref m_lines, .ref m_length, .ref m_rain, .ref m_has, .ref m_slope, .ref m_wet, .ref m_limit, .ref m_platform, .ref m_kind, .ref m_train, .ref m_coach, .ref m_isKept, .ref m_sum, .int 0, .int 15, .ref m_comes, .ref m_isStood, .int 0, .int 0, .int 0, .ref m_front, .ref m_has0, .ref m_isOn, .ref m_letTick, .ref m_letYard, .ref m_letSpeed, .ref m_where, .ref m_pace, .ref m_stood, .ref m_isOff, .ref m_off, .ref m_wrong, .int 0, .int 0, .int 0, .int 0, .ref m_endTick, .int 0, .int 0, .int 0, .int 0, .long 0])), (m_tape, .inl (G.2 1, 1600, .inl f12))] H := hP
  have hD : va_D A [(m0, .inr (11, [.int 0, .ref m_width, .ref m_many, .ref m_cells, .ref m_moved, .ref m_tape, .int 11, .int 0, .int 0, .int 0, .int 0, .long 0, .int 0, .int 0, .int 0, .int (-1), .ref m_lines, .ref m_length, .ref m_rain, .ref m_has, .ref m_slope, .ref m_wet, .ref m_limit, .ref m_platform, .ref m_kind, .ref m_train, .ref m_coach, .ref m_isKept, .ref m_sum, .int 0, .int 15, .ref m_comes, .ref m_isStood, .int 0, .int 0, .int 0, .ref m_front, .ref m_has0, .ref m_isOn, .ref m_letTick, .ref m_letYard, .ref m_letSpeed, .ref m_where, .ref m_pace, .ref m_stood, .ref m_isOff, .ref m_off, .ref m_wrong, .int 0, .int 0, .int 0, .int 0, .ref m_endTick, .int 0, .int 0, .int 0, .int 0, .long 0])), (m_tape, .inl (G.2 1, 1600, .inl f12))] := hD
  refine lv_iinc (v := 0) (lv' := [(2, .int 0), (0, .ref m0), (1, .int p0)]) hx hb dX11_four_30 hl (k := 0) rfl (by decide) (by decide) rfl (fun ls hl => ?_)
  refine lv_goto (tgt := 3) hx hb dX11_four_33 (by decide) ?_
  refine lv_iload_n hx hb dX11_four_3 rfl (lv_at hl 0 rfl) ?_
  refine lv_if_lt (tgt := 36) hx hb dX11_four_4 (by decide) (fun c13 => absurd c13 (by decide)) (fun c13 => ?_)
  refine lv_aload_n hx hb dX11_four_7 rfl (lv_at hl 1 rfl) ?_
  refine va_get (D := G.1) (ci := 11) (v := .ref m_tape) (C := RX11) (T := TX11) (N := 58) hx hb hw inGX11 hown hK hP 0 rfl rfl 5 (by decide) (hw _ kw_342) (fun _ h9 => h9) rfl dX11_four_8 ?_
  refine lv_aload_n hx hb dX11_four_11 rfl (lv_at hl 1 rfl) ?_
  refine va_get (D := G.1) (ci := 11) (v := .int 11) (C := RX11) (T := TX11) (N := 58) hx hb hw inGX11 hown hK hP 0 rfl rfl 6 (by decide) (hw _ kw_338) (fun _ h9 => h9) rfl dX11_four_12 ?_
  refine lv_iload_n hx hb dX11_four_15 rfl (lv_at hl 2 rfl) ?_
  refine lv_iload_n hx hb dX11_four_16 rfl (lv_at hl 0 rfl) ?_
  refine lv_ishr hx hb dX11_four_17 ?_
  refine lv_topi (fun v14 ev14 => ?_)
  refine lv_i2b hx hb dX11_four_18 rfl ?_
  refine lv_topi (fun v15 ev15 => ?_)
  refine va_bast hx hb hK hP hD hS 1 1 rfl rfl (vp_in_iff.mpr (by decide)) dX11_four_19 (fun H locs hP hD hS => ?_)
  have hP : va_P G.1 vwCl [(m0, .inr (11, [.int 0, .ref m_width, .ref m_many, .ref m_cells, .ref m_moved, .ref m_tape, .int 11, .int 0, .int 0, .int 0, .int 0, .long 0, .int 0, .int 0, .int 0, .int (-1), .ref m_lines, .ref m_length, .ref m_rain, .ref m_has, .ref m_slope, .ref m_wet, .ref m_limit, .ref m_platform, .ref m_kind, .ref m_train, .ref m_coach, .ref m_isKept, .ref m_sum, .int 0, .int 15, .ref m_comes, .ref m_isStood, .int 0, .int 0, .int 0, .ref m_front, .ref m_has0, .ref m_isOn, .ref m_letTick, .ref m_letYard, .ref m_letSpeed, .ref m_where, .ref m_pace, .ref m_stood, .ref m_isOff, .ref m_off, .ref m_wrong, .int 0, .int 0, .int 0, .int 0, .ref m_endTick, .int 0, .int 0, .int 0, .int 0, .long 0])), (m_tape, .inl (G.2 1, 1600, .inl (upd f12 (11 : Int32).toNatClampNeg (vp_nar .byte v15))))] H := hP
  have hD : va_D A [(m0, .inr (11, [.int 0, .ref m_width, .ref m_many, .ref m_cells, .ref m_moved, .ref m_tape, .int 11, .int 0, .int 0, .int 0, .int 0, .long 0, .int 0, .int 0, .int 0, .int (-1), .ref m_lines, .ref m_length, .ref m_rain, .ref m_has, .ref m_slope, .ref m_wet, .ref m_limit, .ref m_platform, .ref m_kind, .ref m_train, .ref m_coach, .ref m_isKept, .ref m_sum, .int 0, .int 15, .ref m_comes, .ref m_isStood, .int 0, .int 0, .int 0, .ref m_front, .ref m_has0, .ref m_isOn, .ref m_letTick, .ref m_letYard, .ref m_letSpeed, .ref m_where, .ref m_pace, .ref m_stood, .ref m_isOff, .ref m_off, .ref m_wrong, .int 0, .int 0, .int 0, .int 0, .ref m_endTick, .int 0, .int 0, .int 0, .int 0, .long 0])), (m_tape, .inl (G.2 1, 1600, .inl (upd f12 (11 : Int32).toNatClampNeg (vp_nar .byte v15))))] := hD
  generalize (upd f12 (11 : Int32).toNatClampNeg (vp_nar .byte v15)) = f16 at hP hD
  refine lv_aload_n hx hb dX11_four_20 rfl (lv_at hl 1 rfl) ?_
  refine lv_dup hx hb dX11_four_21 rfl ?_
  refine va_get (D := G.1) (ci := 11) (v := .int 11) (C := RX11) (T := TX11) (N := 58) hx hb hw inGX11 hown hK hP 0 rfl rfl 6 (by decide) (hw _ kw_338) (fun _ h9 => h9) rfl dX11_four_22 ?_
  refine lv_iconst (v := 1) hx hb dX11_four_25 (by decide) ?_
  refine lv_iadd hx hb dX11_four_26 ?_
  refine lv_cst (y := 12) (by decide) ?_
  refine va_put (D := G.1) (ci := 11) (v := .int 12) (ty := .int) (C := RX11) (T := TX11) (N := 58) hx hb hw inGX11 tyX11 tyX11_ok nmX11 hown hK hP hD hS 0 rfl rfl 6 (by decide) (hw _ kw_338) (fun _ h9 => h9) rfl (by decide +kernel) rfl rfl (Nat.le_of_ble_eq_true rfl) dX11_four_27 (fun H locs hP hD hS => ?_)
  have hP : va_P G.1 vwCl [(m0, .inr (11, [.int 0, .ref m_width, .ref m_many, .ref m_cells, .ref m_moved, .ref m_tape, .int 12, .int 0, .int 0, .int 0, .int 0, .long 0, .int 0, .int 0, .int 0, .int (-1), .ref m_lines, .ref m_length, .ref m_rain, .ref m_has, .ref m_slope, .ref m_wet, .ref m_limit, .ref m_platform, .ref m_kind, .ref m_train, .ref m_coach, .ref m_isKept, .ref m_sum, .int 0, .int 15, .ref m_comes, .ref m_isStood, .int 0, .int 0, .int 0, .ref m_front, .ref m_has0, .ref m_isOn, .ref m_letTick, .ref m_letYard, .ref m_letSpeed, .ref m_where, .ref m_pace, .ref m_stood, .ref m_isOff, .ref m_off, .ref m_wrong, .int 0, .int 0, .int 0, .int 0, .ref m_endTick, .int 0, .int 0, .int 0, .int 0, .long 0])), (m_tape, .inl (G.2 1, 1600, .inl f16))] H := hP
  have hD : va_D A [(m0, .inr (11, [.int 0, .ref m_width, .ref m_many, .ref m_cells, .ref m_moved, .ref m_tape, .int 12, .int 0, .int 0, .int 0, .int 0, .long 0, .int 0, .int 0, .int 0, .int (-1), .ref m_lines, .ref m_length, .ref m_rain, .ref m_has, .ref m_slope, .ref m_wet, .ref m_limit, .ref m_platform, .ref m_kind, .ref m_train, .ref m_coach, .ref m_isKept, .ref m_sum, .int 0, .int 15, .ref m_comes, .ref m_isStood, .int 0, .int 0, .int 0, .ref m_front, .ref m_has0, .ref m_isOn, .ref m_letTick, .ref m_letYard, .ref m_letSpeed, .ref m_where, .ref m_pace, .ref m_stood, .ref m_isOff, .ref m_off, .ref m_wrong, .int 0, .int 0, .int 0, .int 0, .ref m_endTick, .int 0, .int 0, .int 0, .int 0, .long 0])), (m_tape, .inl (G.2 1, 1600, .inl f16))] := hD
  refine lv_iinc (v := (-8)) (lv' := [(2, .int (-8)), (0, .ref m0), (1, .int p0)]) hx hb dX11_four_30 hl (k := 0) rfl (by decide) (by decide) rfl (fun ls hl => ?_)
  refine lv_goto (tgt := 3) hx hb dX11_four_33 (by decide) ?_
  refine lv_iload_n hx hb dX11_four_3 rfl (lv_at hl 0 rfl) ?_
  refine lv_if_lt (tgt := 36) hx hb dX11_four_4 (by decide) (fun c17 => ?_) (fun c17 => absurd (by decide) c17)
  exact W.vret hx hb hr (fun t ht hW => ⟨⟨f16, rfl, trivial, ⟨by rw [ht]; exact hP.sub [0, 1] rfl, hD.sub [0, 1] (by decide +kernel) rfl⟩⟩, hS.F ht⟩) hS.2.2 dX11_four_36
