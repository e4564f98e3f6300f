set_option maxHeartbeats 4000000 in
set_option maxRecDepth 100000 in
theorem c_has0 (l : Launch) (G : KG) (h0 : Nat) (mo : Int32) (wi : Int32) (ca : Nat) (p0 : Int32) : Met l yX6_has wgX6_has ({ frames := 0, cells := 0, slots := 0, locals := 0 }) (preS G [.ref h0, .int p0] [(h0, .inr (6, [.int mo, .int wi, .ref ca, .int 0]))]) (vp_Si (fun (r : Int32) => (r = 0))) 0 0 (fun _ => False) := by
  refine Met.ofW (cc := cX6_has) (maxL := 2) (ret := (some .boolean)) (by decide) rfl ?_
  intro p e s m args below meth c s₁ B hml hv
  obtain ⟨rfl, hP, hKG⟩ := hv
  obtain ⟨hK, hAO⟩ := id hKG
  have hx := B.exec
  have hb := B.bytes
  have hr := B.returns
  have hts := atoms_spec (ws := wgX6_has) B.pre
  have hw : ∀ w ∈ wG, w.before _ s = true := fun w h => hts w (List.mem_cons_of_mem _ h)
  have hown : s.vm.findClass RX6 = some m.cls := findClass_of_methodNamed B.named
  have hlocks := B.notSynchronized
  have hl := lv_entry ([.ref h0, .int p0]) (n := 2) (Nat.le_of_ble_eq_true rfl)
  rw [lg_entry_eq]
  generalize (lg_sl ([.ref h0, .int p0]) ++ List.replicate (2 - (lg_sl ([.ref h0, .int p0])).length) Slot.unset).toArray = ls at hl ⊢
  have hl : lv_has ls 2 [(0, .ref h0), (1, .int p0)] := hl
  refine lv_iload_n hx hb dX6_has_0 rfl (lv_at hl 1 rfl) ?_
  refine lv_if_lt (tgt := 16) hx hb dX6_has_1 (by decide) (fun c1 => ?_) (fun c1 => ?_)
  · refine lv_iconst (v := 0) hx hb dX6_has_16 (by decide) ?_
    exact W.zret (ty := .boolean) (v := 0) hx hb hr (by decide) (fun t ht hW => ⟨0, rfl, rfl, ht⟩) (fun _ h => absurd h List.not_mem_nil) dX6_has_17
  · refine lv_iload_n hx hb dX6_has_4 rfl (lv_at hl 1 rfl) ?_
    refine lv_aload_n hx hb dX6_has_5 rfl (lv_at hl 0 rfl) ?_
    refine va_get (D := G.1) (ci := 6) (v := .int 0) (C := RX6) (T := TX6) (N := 4) hx hb hw inGX6 hown hK hP 0 rfl rfl 3 (by decide) (hw _ kw_1) (fun _ h9 => h9) rfl dX6_has_6 ?_
    refine lv_icmp_ge (tgt := 16) hx hb dX6_has_9 (by decide) (fun c2 => ?_) (fun c2 => False.elim (by have z1 := c1; have z2 := c2; simp only [fa_lt, fa_le, fa_eq, fa_lt64, fa_le64, fa_eq64, Int32.toInt_toInt64, tc_0] at z1 z2 <;> omega))
    refine lv_iconst (v := 0) hx hb dX6_has_16 (by decide) ?_
    exact W.zret (ty := .boolean) (v := 0) hx hb hr (by decide) (fun t ht hW => ⟨0, rfl, rfl, ht⟩) (fun _ h => absurd h List.not_mem_nil) dX6_has_17
set_option maxHeartbeats 4000000 in
set_option maxRecDepth 100000 in
theorem c_isAmong (l : Launch) (G : KG) (p0 : Int32) (p1 : Int32) (p2 : Int32) : Met l yX10_isAmong wgX10_isAmong ({ frames := 0, cells := 0, slots := 0, locals := 0 }) (preS G [.int p0, .int p1, .int p2] []) (vp_Si (fun (r : Int32) => (r = 1 ∧ ¬ p0 < p1 ∧ ¬ p2 < p0) ∨ (r = 0 ∧ p0 < p1) ∨ (r = 0 ∧ p2 < p0))) 0 0 (fun _ => False) := by
  refine Met.ofW (cc := cX10_isAmong) (maxL := 3) (ret := (some .boolean)) (by decide) rfl ?_
  intro p e s m args below meth c s₁ B hml hv
  obtain ⟨rfl, hP, hKG⟩ := hv
  obtain ⟨hK, hAO⟩ := id hKG
  have hx := B.exec
  have hb := B.bytes
  have hr := B.returns
  have hts := atoms_spec (ws := wgX10_isAmong) B.pre
  have hw : ∀ w ∈ wG, w.before _ s = true := fun w h => hts w (List.mem_cons_of_mem _ h)
  have hown : s.vm.findClass RX10 = some m.cls := findClass_of_methodNamed B.named
  have hlocks := B.notSynchronized
  have hl := lv_entry ([.int p0, .int p1, .int p2]) (n := 3) (Nat.le_of_ble_eq_true rfl)
  rw [lg_entry_eq]
  generalize (lg_sl ([.int p0, .int p1, .int p2]) ++ List.replicate (3 - (lg_sl ([.int p0, .int p1, .int p2])).length) Slot.unset).toArray = ls at hl ⊢
  have hl : lv_has ls 3 [(0, .int p0), (1, .int p1), (2, .int p2)] := hl
  refine lv_iload_n hx hb dX10_isAmong_0 rfl (lv_at hl 0 rfl) ?_
  refine lv_iload_n hx hb dX10_isAmong_1 rfl (lv_at hl 1 rfl) ?_
  refine lv_icmp_lt (tgt := 14) hx hb dX10_isAmong_2 (by decide) (fun c1 => ?_) (fun c1 => ?_)
  · refine lv_iconst (v := 0) hx hb dX10_isAmong_14 (by decide) ?_
    exact W.zret (ty := .boolean) (v := 0) hx hb hr (by decide) (fun t ht hW => ⟨0, rfl, (Or.inr (Or.inl ⟨rfl, c1⟩)), ht⟩) (fun _ h => absurd h List.not_mem_nil) dX10_isAmong_15
  · refine lv_iload_n hx hb dX10_isAmong_5 rfl (lv_at hl 0 rfl) ?_
    refine lv_iload_n hx hb dX10_isAmong_6 rfl (lv_at hl 2 rfl) ?_
    refine lv_icmp_gt (tgt := 14) hx hb dX10_isAmong_7 (by decide) (fun c2 => ?_) (fun c2 => ?_)
    · refine lv_iconst (v := 0) hx hb dX10_isAmong_14 (by decide) ?_
      exact W.zret (ty := .boolean) (v := 0) hx hb hr (by decide) (fun t ht hW => ⟨0, rfl, (Or.inr (Or.inr ⟨rfl, c2⟩)), ht⟩) (fun _ h => absurd h List.not_mem_nil) dX10_isAmong_15
    · refine lv_iconst (v := 1) hx hb dX10_isAmong_10 (by decide) ?_
      refine lv_goto (tgt := 15) hx hb dX10_isAmong_11 (by decide) ?_
      exact W.zret (ty := .boolean) (v := 1) hx hb hr (by decide) (fun t ht hW => ⟨1, rfl, (Or.inl ⟨rfl, c1, c2⟩), ht⟩) (fun _ h => absurd h List.not_mem_nil) dX10_isAmong_15
set_option maxHeartbeats 4000000 in
set_option maxRecDepth 100000 in
theorem c_X10_hasLine (l : Launch) (G : KG) (x0 : Nat) (tp : Nat) (rd : Nat) (nw : Nat) (sp : Nat) (im : Nat) (ir : Nat) (kp : Nat) (sl : Nat) (tk : Nat) (hn : Nat) (rc : Nat) (jn : Nat) (br : Nat) (sh : Nat) (nw_slopes : Nat) (nw_wets : Nat) (nw_limits : Nat) (nw_platforms : Nat) (nw_kinds : Nat) (nw_trains : Nat) (nw_coaches : Nat) : Met l yX10_hasLine wgX10_hasLine ({ frames := 0, cells := 0, slots := 0, locals := 0 }) (preS G [.ref x0] [(x0, .inr (10, [.ref tp, .int 0, .ref rd, .ref nw, .ref sp, .ref im, .ref ir, .ref kp, .ref sl, .ref tk, .ref hn, .ref rc, .ref jn, .ref br, .ref sh])), (nw, .inr (3, [.int 0, .int 0, .ref nw_slopes, .ref nw_wets, .ref nw_limits, .ref nw_platforms, .ref nw_kinds, .ref nw_trains, .ref nw_coaches]))]) (vp_Si (fun (r : Int32) => (r = 0))) 0 0 (fun _ => False) := by
  refine Met.ofW (cc := cX10_hasLine) (maxL := 1) (ret := (some .boolean)) (by decide) rfl ?_
  intro p e s m args below meth c s₁ B hml hv
  obtain ⟨rfl, hP, hKG⟩ := hv
  obtain ⟨hK, hAO⟩ := id hKG
  have hx := B.exec
  have hb := B.bytes
  have hr := B.returns
  have hts := atoms_spec (ws := wgX10_hasLine) B.pre
  have hw : ∀ w ∈ wG, w.before _ s = true := fun w h => hts w (List.mem_cons_of_mem _ h)
  have hown : s.vm.findClass RX10 = some m.cls := findClass_of_methodNamed B.named
  have hlocks := B.notSynchronized
  have hl := lv_entry ([.ref x0]) (n := 1) (Nat.le_of_ble_eq_true rfl)
  rw [lg_entry_eq]
  generalize (lg_sl ([.ref x0]) ++ List.replicate (1 - (lg_sl ([.ref x0])).length) Slot.unset).toArray = ls at hl ⊢
  have hl : lv_has ls 1 [(0, .ref x0)] := hl
  refine lv_aload_n hx hb dX10_hasLine_0 rfl (lv_at hl 0 rfl) ?_
  refine va_get (D := G.1) (ci := 10) (v := .ref nw) (C := RX10) (T := TX10) (N := 15) hx hb hw inGX10 hown hK hP 0 rfl rfl 3 (by decide) (hw _ kw_2) (fun _ h9 => h9) rfl dX10_hasLine_1 ?_
  refine va_get (D := G.1) (ci := 3) (v := .int 0) (C := RX3) (T := TX3) (N := 9) hx hb hw inGX3 hown hK hP 1 rfl rfl 0 (by decide) (hw _ kw_3) (fun _ h9 => h9) rfl dX10_hasLine_4 ?_
  refine lv_if_le (tgt := 14) hx hb dX10_hasLine_7 (by decide) (fun c1 => ?_) (fun c1 => absurd (by decide) c1)
  refine lv_iconst (v := 0) hx hb dX10_hasLine_14 (by decide) ?_
  exact W.zret (ty := .boolean) (v := 0) hx hb hr (by decide) (fun t ht hW => ⟨0, rfl, rfl, ht⟩) (fun _ h => absurd h List.not_mem_nil) dX10_hasLine_15
set_option maxHeartbeats 4000000 in
set_option maxRecDepth 100000 in
theorem c_X10_hasYard (l : Launch) (G : KG) (x0 : Nat) (tp : Nat) (rd : Nat) (nw : Nat) (sp : Nat) (im : Nat) (ir : Nat) (kp : Nat) (sl : Nat) (tk : Nat) (hn : Nat) (rc : Nat) (jn : Nat) (br : Nat) (sh : Nat) (nw_slopes : Nat) (nw_wets : Nat) (nw_limits : Nat) (nw_platforms : Nat) (nw_kinds : Nat) (nw_trains : Nat) (nw_coaches : Nat) (p0 : Int32) : Met l yX10_hasYard wgX10_hasYard ({ frames := 1, cells := 0, slots := 0, locals := 20 }) (preS G [.ref x0, .int p0] [(x0, .inr (10, [.ref tp, .int 0, .ref rd, .ref nw, .ref sp, .ref im, .ref ir, .ref kp, .ref sl, .ref tk, .ref hn, .ref rc, .ref jn, .ref br, .ref sh])), (nw, .inr (3, [.int 0, .int 0, .ref nw_slopes, .ref nw_wets, .ref nw_limits, .ref nw_platforms, .ref nw_kinds, .ref nw_trains, .ref nw_coaches]))]) (vp_Si (fun (r : Int32) => (r = 0))) 0 0 (fun _ => False) := by
  refine Met.ofW (cc := cX10_hasYard) (maxL := 2) (ret := (some .boolean)) (by decide) rfl ?_
  intro p e s m args below meth c s₁ B hml hv
  obtain ⟨rfl, hP, hKG⟩ := hv
  obtain ⟨hK, hAO⟩ := id hKG
  have hx := B.exec
  have hb := B.bytes
  have hr := B.returns
  have hts := atoms_spec (ws := wgX10_hasYard) B.pre
  have hw : ∀ w ∈ wG, w.before _ s = true := fun w h => hts w (List.mem_cons_of_mem _ h)
  have hown : s.vm.findClass RX10 = some m.cls := findClass_of_methodNamed B.named
  have hlocks := B.notSynchronized
  have hl := lv_entry ([.ref x0, .int p0]) (n := 2) (Nat.le_of_ble_eq_true rfl)
  rw [lg_entry_eq]
  generalize (lg_sl ([.ref x0, .int p0]) ++ List.replicate (2 - (lg_sl ([.ref x0, .int p0])).length) Slot.unset).toArray = ls at hl ⊢
  have hl : lv_has ls 2 [(0, .ref x0), (1, .int p0)] := hl
  refine lv_aload_n hx hb dX10_hasYard_0 rfl (lv_at hl 0 rfl) ?_
  refine vp_callSi (va_Run.run (va_runV (As := []) (rest := []) ⟨hx, hb, hml, hown, hw⟩ (c_X10_hasLine l G x0 tp rd nw sp im ir kp sl tk hn rc jn br sh nw_slopes nw_wets nw_limits nw_platforms nw_kinds nw_trains nw_coaches) (cwV 0 hw (gdV kw_5 kw_6 kw_7 kw_8 kw_4) rfl rfl rfl ⟨rfl, hdX10_hasLine⟩ ⟨(Nat.le_of_ble_eq_true rfl), (Nat.le_of_ble_eq_true rfl)⟩) (preS_V (wc := [(x0, .inr (10, [.ref tp, .int 0, .ref rd, .ref nw, .ref sp, .ref im, .ref ir, .ref kp, .ref sl, .ref tk, .ref hn, .ref rc, .ref jn, .ref br, .ref sh])), (nw, .inr (3, [.int 0, .int 0, .ref nw_slopes, .ref nw_wets, .ref nw_limits, .ref nw_platforms, .ref nw_kinds, .ref nw_trains, .ref nw_coaches]))]) (ci := 10) hKG hP [0, 1] rfl rfl rfl) rfl rfl hl.1 rfl (lv_room (Nat.le_of_ble_eq_true rfl)) dX10_hasYard_1 ⟨(Nat.le_of_ble_eq_true rfl), (Nat.le_of_ble_eq_true rfl)⟩)) (fun r1 hr1 => ?_)
  subst hr1
  refine lv_if_eq (tgt := 26) hx hb dX10_hasYard_4 (by decide) (fun c2 => ?_) (fun c2 => absurd (by decide) c2)
  refine lv_iconst (v := 0) hx hb dX10_hasYard_26 (by decide) ?_
  exact W.zret (ty := .boolean) (v := 0) hx hb hr (by decide) (fun t ht hW => ⟨0, rfl, rfl, ht⟩) (fun _ h => absurd h List.not_mem_nil) dX10_hasYard_27
set_option maxHeartbeats 4000000 in
set_option maxRecDepth 100000 in
theorem c_X10_hasRun (l : Launch) (G : KG) (x0 : Nat) (tp : Nat) (rd : Nat) (nw : Nat) (sp : Nat) (im : Nat) (ir : Nat) (kp : Nat) (sl : Nat) (tk : Nat) (hn : Nat) (rc : Nat) (jn : Nat) (br : Nat) (sh : Nat) (nw_slopes : Nat) (nw_wets : Nat) (nw_limits : Nat) (nw_platforms : Nat) (nw_kinds : Nat) (nw_trains : Nat) (nw_coaches : Nat) (nw_platforms_c : Nat) (nw_kinds_c : Nat) (nw_trains_c : Nat) (nw_coaches_c : Nat) (p0 : Int32) (p1 : Int32) (p2 : Int32) : Met l yX10_hasRun wgX10_hasRun ({ frames := 1, cells := 0, slots := 0, locals := 21 }) (preS G [.ref x0, .int p0, .int p1, .int p2] [(x0, .inr (10, [.ref tp, .int 0, .ref rd, .ref nw, .ref sp, .ref im, .ref ir, .ref kp, .ref sl, .ref tk, .ref hn, .ref rc, .ref jn, .ref br, .ref sh])), (nw, .inr (3, [.int 0, .int 0, .ref nw_slopes, .ref nw_wets, .ref nw_limits, .ref nw_platforms, .ref nw_kinds, .ref nw_trains, .ref nw_coaches])), (nw_platforms, .inr (6, [.int 6, .int 2, .ref nw_platforms_c, .int 0])), (nw_kinds, .inr (6, [.int 4, .int 5, .ref nw_kinds_c, .int 0])), (nw_trains, .inr (6, [.int 5, .int 3, .ref nw_trains_c, .int 0])), (nw_coaches, .inr (6, [.int 16, .int 5, .ref nw_coaches_c, .int 0]))]) (vp_Si (fun (r : Int32) => (r = 0))) 0 0 (fun _ => False) := by
  refine Met.ofW (cc := cX10_hasRun) (maxL := 4) (ret := (some .boolean)) (by decide) rfl ?_
  intro p e s m args below meth c s₁ B hml hv
  obtain ⟨rfl, hP, hKG⟩ := hv
  obtain ⟨hK, hAO⟩ := id hKG
  have hx := B.exec
  have hb := B.bytes
  have hr := B.returns
  have hts := atoms_spec (ws := wgX10_hasRun) B.pre
  have hw : ∀ w ∈ wG, w.before _ s = true := fun w h => hts w (List.mem_cons_of_mem _ h)
  have hown : s.vm.findClass RX10 = some m.cls := findClass_of_methodNamed B.named
  have hlocks := B.notSynchronized
  have hl := lv_entry ([.ref x0, .int p0, .int p1, .int p2]) (n := 4) (Nat.le_of_ble_eq_true rfl)
  rw [lg_entry_eq]
  generalize (lg_sl ([.ref x0, .int p0, .int p1, .int p2]) ++ List.replicate (4 - (lg_sl ([.ref x0, .int p0, .int p1, .int p2])).length) Slot.unset).toArray = ls at hl ⊢
  have hl : lv_has ls 4 [(0, .ref x0), (1, .int p0), (2, .int p1), (3, .int p2)] := hl
  refine lv_aload_n hx hb dX10_hasRun_0 rfl (lv_at hl 0 rfl) ?_
  refine va_get (D := G.1) (ci := 10) (v := .ref nw) (C := RX10) (T := TX10) (N := 15) hx hb hw inGX10 hown hK hP 0 rfl rfl 3 (by decide) (hw _ kw_2) (fun _ h9 => h9) rfl dX10_hasRun_1 ?_
  refine va_get (D := G.1) (ci := 3) (v := .ref nw_kinds) (C := RX3) (T := TX3) (N := 9) hx hb hw inGX3 hown hK hP 1 rfl rfl 6 (by decide) (hw _ kw_9) (fun _ h9 => h9) rfl dX10_hasRun_4 ?_
  refine lv_iload_n hx hb dX10_hasRun_7 rfl (lv_at hl 1 rfl) ?_
  refine vp_callSi (va_Run.run (va_runV (As := [.int p0]) (rest := []) ⟨hx, hb, hml, hown, hw⟩ (c_has0 l G nw_kinds 4 5 nw_kinds_c p0) (cwV 1 hw (gdV kw_11 kw_12 kw_13 kw_14 kw_10) rfl rfl rfl ⟨rfl, hdX6_has⟩ ⟨(Nat.le_of_ble_eq_true rfl), (Nat.le_of_ble_eq_true rfl)⟩) (preS_V (wc := [(nw_kinds, .inr (6, [.int 4, .int 5, .ref nw_kinds_c, .int 0]))]) (ci := 6) hKG hP [3] rfl rfl rfl) rfl rfl hl.1 rfl (lv_room (Nat.le_of_ble_eq_true rfl)) dX10_hasRun_8 ⟨(Nat.le_of_ble_eq_true rfl), (Nat.le_of_ble_eq_true rfl)⟩)) (fun r1 hr1 => ?_)
  subst hr1
  refine lv_if_eq (tgt := 37) hx hb dX10_hasRun_11 (by decide) (fun c2 => ?_) (fun c2 => absurd (by decide) c2)
  refine lv_iconst (v := 0) hx hb dX10_hasRun_37 (by decide) ?_
  exact W.zret (ty := .boolean) (v := 0) hx hb hr (by decide) (fun t ht hW => ⟨0, rfl, rfl, ht⟩) (fun _ h => absurd h List.not_mem_nil) dX10_hasRun_38
set_option maxHeartbeats 4000000 in
set_option maxRecDepth 100000 in
theorem c_X10_hasAim (l : Launch) (G : KG) (x0 : Nat) (tp : Nat) (rd : Nat) (nw : Nat) (sp : Nat) (im : Nat) (ir : Nat) (kp : Nat) (sl : Nat) (tk : Nat) (hn : Nat) (rc : Nat) (jn : Nat) (br : Nat) (sh : Nat) (nw_slopes : Nat) (nw_wets : Nat) (nw_limits : Nat) (nw_platforms : Nat) (nw_kinds : Nat) (nw_trains : Nat) (nw_coaches : Nat) (nw_platforms_c : Nat) (nw_kinds_c : Nat) (nw_trains_c : Nat) (nw_coaches_c : Nat) (p0 : Int32) (p1 : Int32) (p2 : Int32) (p3 : Int32) : Met l yX10_hasAim wgX10_hasAim ({ frames := 2, cells := 0, slots := 0, locals := 44 }) (preS G [.ref x0, .int p0, .int p1, .int p2, .int p3] [(x0, .inr (10, [.ref tp, .int 0, .ref rd, .ref nw, .ref sp, .ref im, .ref ir, .ref kp, .ref sl, .ref tk, .ref hn, .ref rc, .ref jn, .ref br, .ref sh])), (nw, .inr (3, [.int 0, .int 0, .ref nw_slopes, .ref nw_wets, .ref nw_limits, .ref nw_platforms, .ref nw_kinds, .ref nw_trains, .ref nw_coaches])), (nw_platforms, .inr (6, [.int 6, .int 2, .ref nw_platforms_c, .int 0])), (nw_kinds, .inr (6, [.int 4, .int 5, .ref nw_kinds_c, .int 0])), (nw_trains, .inr (6, [.int 5, .int 3, .ref nw_trains_c, .int 0])), (nw_coaches, .inr (6, [.int 16, .int 5, .ref nw_coaches_c, .int 0]))]) (vp_Si (fun (r : Int32) => (r = 0))) 0 0 (fun _ => False) := by
  refine Met.ofW (cc := cX10_hasAim) (maxL := 5) (ret := (some .boolean)) (by decide) rfl ?_
  intro p e s m args below meth c s₁ B hml hv
  obtain ⟨rfl, hP, hKG⟩ := hv
  obtain ⟨hK, hAO⟩ := id hKG
  have hx := B.exec
  have hb := B.bytes
  have hr := B.returns
  have hts := atoms_spec (ws := wgX10_hasAim) B.pre
  have hw : ∀ w ∈ wG, w.before _ s = true := fun w h => hts w (List.mem_cons_of_mem _ h)
  have hown : s.vm.findClass RX10 = some m.cls := findClass_of_methodNamed B.named
  have hlocks := B.notSynchronized
  have hl := lv_entry ([.ref x0, .int p0, .int p1, .int p2, .int p3]) (n := 5) (Nat.le_of_ble_eq_true rfl)
  rw [lg_entry_eq]
  generalize (lg_sl ([.ref x0, .int p0, .int p1, .int p2, .int p3]) ++ List.replicate (5 - (lg_sl ([.ref x0, .int p0, .int p1, .int p2, .int p3])).length) Slot.unset).toArray = ls at hl ⊢
  have hl : lv_has ls 5 [(0, .ref x0), (1, .int p0), (2, .int p1), (3, .int p2), (4, .int p3)] := hl
  refine lv_aload_n hx hb dX10_hasAim_0 rfl (lv_at hl 0 rfl) ?_
  refine lv_iload_n hx hb dX10_hasAim_1 rfl (lv_at hl 1 rfl) ?_
  refine lv_iload_n hx hb dX10_hasAim_2 rfl (lv_at hl 3 rfl) ?_
  refine lv_iload hx hb dX10_hasAim_3 (lv_at hl 4 rfl) ?_
  refine vp_callSi (va_Run.run (va_runV (As := [.int p0, .int p2, .int p3]) (rest := []) ⟨hx, hb, hml, hown, hw⟩ (c_X10_hasRun l G x0 tp rd nw sp im ir kp sl tk hn rc jn br sh nw_slopes nw_wets nw_limits nw_platforms nw_kinds nw_trains nw_coaches nw_platforms_c nw_kinds_c nw_trains_c nw_coaches_c p0 p2 p3) (cwV 3 hw (gdV kw_16 kw_17 kw_18 kw_8 kw_15) rfl rfl rfl ⟨rfl, hdX10_hasRun⟩ ⟨(Nat.le_of_ble_eq_true rfl), (Nat.le_of_ble_eq_true rfl)⟩) (preS_V (wc := [(x0, .inr (10, [.ref tp, .int 0, .ref rd, .ref nw, .ref sp, .ref im, .ref ir, .ref kp, .ref sl, .ref tk, .ref hn, .ref rc, .ref jn, .ref br, .ref sh])), (nw, .inr (3, [.int 0, .int 0, .ref nw_slopes, .ref nw_wets, .ref nw_limits, .ref nw_platforms, .ref nw_kinds, .ref nw_trains, .ref nw_coaches])), (nw_platforms, .inr (6, [.int 6, .int 2, .ref nw_platforms_c, .int 0])), (nw_kinds, .inr (6, [.int 4, .int 5, .ref nw_kinds_c, .int 0])), (nw_trains, .inr (6, [.int 5, .int 3, .ref nw_trains_c, .int 0])), (nw_coaches, .inr (6, [.int 16, .int 5, .ref nw_coaches_c, .int 0]))]) (ci := 10) hKG hP [0, 1, 2, 3, 4, 5] rfl rfl rfl) rfl rfl hl.1 rfl (lv_room (Nat.le_of_ble_eq_true rfl)) dX10_hasAim_5 ⟨(Nat.le_of_ble_eq_true rfl), (Nat.le_of_ble_eq_true rfl)⟩)) (fun r1 hr1 => ?_)
  subst hr1
  refine lv_if_eq (tgt := 29) hx hb dX10_hasAim_8 (by decide) (fun c2 => ?_) (fun c2 => absurd (by decide) c2)
  refine lv_iconst (v := 0) hx hb dX10_hasAim_29 (by decide) ?_
  exact W.zret (ty := .boolean) (v := 0) hx hb hr (by decide) (fun t ht hW => ⟨0, rfl, rfl, ht⟩) (fun _ h => absurd h List.not_mem_nil) dX10_hasAim_30
set_option maxHeartbeats 4000000 in
set_option maxRecDepth 100000 in
theorem c_X10_takesAim (l : Launch) (G : KG) (x0 : Nat) (tp : Nat) (rd : Nat) (nw : Nat) (sp : Nat) (im : Nat) (ir : Nat) (kp : Nat) (sl : Nat) (tk : Nat) (hn : Nat) (rc : Nat) (jn : Nat) (br : Nat) (sh : Nat) (nw_slopes : Nat) (nw_wets : Nat) (nw_limits : Nat) (nw_platforms : Nat) (nw_kinds : Nat) (nw_trains : Nat) (nw_coaches : Nat) (nw_platforms_c : Nat) (nw_kinds_c : Nat) (nw_trains_c : Nat) (nw_coaches_c : Nat) (p0 : Int32) (p1 : Int32) (p2 : Int32) (p3 : Int32) : Met l yX10_takesAim wgX10_takesAim ({ frames := 3, cells := 0, slots := 0, locals := 68 }) (preS G [.ref x0, .int p0, .int p1, .int p2, .int p3] [(x0, .inr (10, [.ref tp, .int 0, .ref rd, .ref nw, .ref sp, .ref im, .ref ir, .ref kp, .ref sl, .ref tk, .ref hn, .ref rc, .ref jn, .ref br, .ref sh])), (nw, .inr (3, [.int 0, .int 0, .ref nw_slopes, .ref nw_wets, .ref nw_limits, .ref nw_platforms, .ref nw_kinds, .ref nw_trains, .ref nw_coaches])), (nw_platforms, .inr (6, [.int 6, .int 2, .ref nw_platforms_c, .int 0])), (nw_kinds, .inr (6, [.int 4, .int 5, .ref nw_kinds_c, .int 0])), (nw_trains, .inr (6, [.int 5, .int 3, .ref nw_trains_c, .int 0])), (nw_coaches, .inr (6, [.int 16, .int 5, .ref nw_coaches_c, .int 0]))]) (vp_Si (fun (r : Int32) => (r = 0))) 0 0 (fun _ => False) := by
  refine Met.ofW (cc := cX10_takesAim) (maxL := 6) (ret := (some .boolean)) (by decide) rfl ?_
  intro p e s m args below meth c s₁ B hml hv
  obtain ⟨rfl, hP, hKG⟩ := hv
  obtain ⟨hK, hAO⟩ := id hKG
  have hx := B.exec
  have hb := B.bytes
  have hr := B.returns
  have hts := atoms_spec (ws := wgX10_takesAim) B.pre
  have hw : ∀ w ∈ wG, w.before _ s = true := fun w h => hts w (List.mem_cons_of_mem _ h)
  have hown : s.vm.findClass RX10 = some m.cls := findClass_of_methodNamed B.named
  have hlocks := B.notSynchronized
  have hl := lv_entry ([.ref x0, .int p0, .int p1, .int p2, .int p3]) (n := 6) (Nat.le_of_ble_eq_true rfl)
  rw [lg_entry_eq]
  generalize (lg_sl ([.ref x0, .int p0, .int p1, .int p2, .int p3]) ++ List.replicate (6 - (lg_sl ([.ref x0, .int p0, .int p1, .int p2, .int p3])).length) Slot.unset).toArray = ls at hl ⊢
  have hl : lv_has ls 6 [(0, .ref x0), (1, .int p0), (2, .int p1), (3, .int p2), (4, .int p3)] := hl
  refine lv_aload_n hx hb dX10_takesAim_0 rfl (lv_at hl 0 rfl) ?_
  refine lv_iload_n hx hb dX10_takesAim_1 rfl (lv_at hl 1 rfl) ?_
  refine lv_iload_n hx hb dX10_takesAim_2 rfl (lv_at hl 2 rfl) ?_
  refine lv_iload_n hx hb dX10_takesAim_3 rfl (lv_at hl 3 rfl) ?_
  refine lv_iload hx hb dX10_takesAim_4 (lv_at hl 4 rfl) ?_
  refine vp_callSi (va_Run.run (va_runV (As := [.int p0, .int p1, .int p2, .int p3]) (rest := []) ⟨hx, hb, hml, hown, hw⟩ (c_X10_hasAim l G x0 tp rd nw sp im ir kp sl tk hn rc jn br sh nw_slopes nw_wets nw_limits nw_platforms nw_kinds nw_trains nw_coaches nw_platforms_c nw_kinds_c nw_trains_c nw_coaches_c p0 p1 p2 p3) (cwV 4 hw (gdV kw_20 kw_21 kw_22 kw_8 kw_19) rfl rfl rfl ⟨rfl, hdX10_hasAim⟩ ⟨(Nat.le_of_ble_eq_true rfl), (Nat.le_of_ble_eq_true rfl)⟩) (preS_V (wc := [(x0, .inr (10, [.ref tp, .int 0, .ref rd, .ref nw, .ref sp, .ref im, .ref ir, .ref kp, .ref sl, .ref tk, .ref hn, .ref rc, .ref jn, .ref br, .ref sh])), (nw, .inr (3, [.int 0, .int 0, .ref nw_slopes, .ref nw_wets, .ref nw_limits, .ref nw_platforms, .ref nw_kinds, .ref nw_trains, .ref nw_coaches])), (nw_platforms, .inr (6, [.int 6, .int 2, .ref nw_platforms_c, .int 0])), (nw_kinds, .inr (6, [.int 4, .int 5, .ref nw_kinds_c, .int 0])), (nw_trains, .inr (6, [.int 5, .int 3, .ref nw_trains_c, .int 0])), (nw_coaches, .inr (6, [.int 16, .int 5, .ref nw_coaches_c, .int 0]))]) (ci := 10) hKG hP [0, 1, 2, 3, 4, 5] rfl rfl rfl) rfl rfl hl.1 rfl (lv_room (Nat.le_of_ble_eq_true rfl)) dX10_takesAim_6 ⟨(Nat.le_of_ble_eq_true rfl), (Nat.le_of_ble_eq_true rfl)⟩)) (fun r1 hr1 => ?_)
  subst hr1
  refine lv_istore (lv' := [(5, .int 0), (0, .ref x0), (1, .int p0), (2, .int p1), (3, .int p2), (4, .int p3)]) hx hb dX10_takesAim_9 hl (by decide) rfl (fun ls hl => ?_)
  refine lv_iload hx hb dX10_takesAim_11 (lv_at hl 0 rfl) ?_
  refine lv_if_eq (tgt := 25) hx hb dX10_takesAim_13 (by decide) (fun c2 => ?_) (fun c2 => absurd (by decide) c2)
  refine lv_iload hx hb dX10_takesAim_25 (lv_at hl 0 rfl) ?_
  exact W.zret (ty := .boolean) (v := 0) hx hb hr (by decide) (fun t ht hW => ⟨0, rfl, rfl, ht⟩) (fun _ h => absurd h List.not_mem_nil) dX10_takesAim_27
set_option maxHeartbeats 4000000 in
set_option maxRecDepth 100000 in
theorem c_X10_leastMeasure (l : Launch) (G : KG) (x0 : Nat) (tp : Nat) (rd : Nat) (nw : Nat) (sp : Nat) (im : Nat) (ir : Nat) (kp : Nat) (sl : Nat) (tk : Nat) (hn : Nat) (rc : Nat) (jn : Nat) (br : Nat) (sh : Nat) (nw_slopes : Nat) (nw_wets : Nat) (nw_limits : Nat) (nw_platforms : Nat) (nw_kinds : Nat) (nw_trains : Nat) (nw_coaches : Nat) (nw_platforms_c : Nat) (nw_kinds_c : Nat) (nw_trains_c : Nat) (nw_coaches_c : Nat) (p0 : Int32) (p1 : Int32) (p2 : Int32) (p3 : Int32) (p4 : Int32) : Met l yX10_leastMeasure wgX10_leastMeasure ({ frames := 3, cells := 0, slots := 0, locals := 68 }) (preS G [.ref x0, .int p0, .int p1, .int p2, .int p3, .int p4] [(x0, .inr (10, [.ref tp, .int 0, .ref rd, .ref nw, .ref sp, .ref im, .ref ir, .ref kp, .ref sl, .ref tk, .ref hn, .ref rc, .ref jn, .ref br, .ref sh])), (nw, .inr (3, [.int 0, .int 0, .ref nw_slopes, .ref nw_wets, .ref nw_limits, .ref nw_platforms, .ref nw_kinds, .ref nw_trains, .ref nw_coaches])), (nw_platforms, .inr (6, [.int 6, .int 2, .ref nw_platforms_c, .int 0])), (nw_kinds, .inr (6, [.int 4, .int 5, .ref nw_kinds_c, .int 0])), (nw_trains, .inr (6, [.int 5, .int 3, .ref nw_trains_c, .int 0])), (nw_coaches, .inr (6, [.int 16, .int 5, .ref nw_coaches_c, .int 0]))]) (vp_Si (fun (r : Int32) => (r = (-2)))) 0 0 (fun _ => False) := by
  refine Met.ofW (cc := cX10_leastMeasure) (maxL := 7) (ret := (some .int)) (by decide) rfl ?_
  intro p e s m args below meth c s₁ B hml hv
  obtain ⟨rfl, hP, hKG⟩ := hv
  obtain ⟨hK, hAO⟩ := id hKG
  have hx := B.exec
  have hb := B.bytes
  have hr := B.returns
  have hts := atoms_spec (ws := wgX10_leastMeasure) B.pre
  have hw : ∀ w ∈ wG, w.before _ s = true := fun w h => hts w (List.mem_cons_of_mem _ h)
  have hown : s.vm.findClass RX10 = some m.cls := findClass_of_methodNamed B.named
  have hlocks := B.notSynchronized
  have hl := lv_entry ([.ref x0, .int p0, .int p1, .int p2, .int p3, .int p4]) (n := 7) (Nat.le_of_ble_eq_true rfl)
  rw [lg_entry_eq]
  generalize (lg_sl ([.ref x0, .int p0, .int p1, .int p2, .int p3, .int p4]) ++ List.replicate (7 - (lg_sl ([.ref x0, .int p0, .int p1, .int p2, .int p3, .int p4])).length) Slot.unset).toArray = ls at hl ⊢
  have hl : lv_has ls 7 [(0, .ref x0), (1, .int p0), (2, .int p1), (3, .int p2), (4, .int p3), (5, .int p4)] := hl
  refine lv_aload_n hx hb dX10_leastMeasure_0 rfl (lv_at hl 0 rfl) ?_
  refine lv_iload_n hx hb dX10_leastMeasure_1 rfl (lv_at hl 1 rfl) ?_
  refine lv_iload_n hx hb dX10_leastMeasure_2 rfl (lv_at hl 2 rfl) ?_
  refine lv_iload_n hx hb dX10_leastMeasure_3 rfl (lv_at hl 3 rfl) ?_
  refine lv_iload hx hb dX10_leastMeasure_4 (lv_at hl 4 rfl) ?_
  refine vp_callSi (va_Run.run (va_runV (As := [.int p0, .int p1, .int p2, .int p3]) (rest := []) ⟨hx, hb, hml, hown, hw⟩ (c_X10_hasAim l G x0 tp rd nw sp im ir kp sl tk hn rc jn br sh nw_slopes nw_wets nw_limits nw_platforms nw_kinds nw_trains nw_coaches nw_platforms_c nw_kinds_c nw_trains_c nw_coaches_c p0 p1 p2 p3) (cwV 4 hw (gdV kw_20 kw_21 kw_22 kw_8 kw_19) rfl rfl rfl ⟨rfl, hdX10_hasAim⟩ ⟨(Nat.le_of_ble_eq_true rfl), (Nat.le_of_ble_eq_true rfl)⟩) (preS_V (wc := [(x0, .inr (10, [.ref tp, .int 0, .ref rd, .ref nw, .ref sp, .ref im, .ref ir, .ref kp, .ref sl, .ref tk, .ref hn, .ref rc, .ref jn, .ref br, .ref sh])), (nw, .inr (3, [.int 0, .int 0, .ref nw_slopes, .ref nw_wets, .ref nw_limits, .ref nw_platforms, .ref nw_kinds, .ref nw_trains, .ref nw_coaches])), (nw_platforms, .inr (6, [.int 6, .int 2, .ref nw_platforms_c, .int 0])), (nw_kinds, .inr (6, [.int 4, .int 5, .ref nw_kinds_c, .int 0])), (nw_trains, .inr (6, [.int 5, .int 3, .ref nw_trains_c, .int 0])), (nw_coaches, .inr (6, [.int 16, .int 5, .ref nw_coaches_c, .int 0]))]) (ci := 10) hKG hP [0, 1, 2, 3, 4, 5] rfl rfl rfl) rfl rfl hl.1 rfl (lv_room (Nat.le_of_ble_eq_true rfl)) dX10_leastMeasure_6 ⟨(Nat.le_of_ble_eq_true rfl), (Nat.le_of_ble_eq_true rfl)⟩)) (fun r1 hr1 => ?_)
  subst hr1
  refine lv_if_ne (tgt := 15) hx hb dX10_leastMeasure_9 (by decide) (fun c2 => absurd (by decide) c2) (fun c2 => ?_)
  refine lv_bipush (v := (-2)) hx hb dX10_leastMeasure_12 (by decide) ?_
  exact W.iret (v := (-2)) hx hb hr (fun t ht hW => ⟨(-2), rfl, rfl, ht⟩) (fun _ h => absurd h List.not_mem_nil) dX10_leastMeasure_14
set_option maxHeartbeats 4000000 in
set_option maxRecDepth 100000 in
theorem c_X10_hasDay (l : Launch) (G : KG) (x0 : Nat) (tp : Nat) (rd : Nat) (nw : Nat) (sp : Nat) (im : Nat) (ir : Nat) (kp : Nat) (sl : Nat) (tk : Nat) (hn : Nat) (rc : Nat) (jn : Nat) (br : Nat) (sh : Nat) (nw_slopes : Nat) (nw_wets : Nat) (nw_limits : Nat) (nw_platforms : Nat) (nw_kinds : Nat) (nw_trains : Nat) (nw_coaches : Nat) (p0 : Int32) (p1 : Int32) (p2 : Int32) : Met l yX10_hasDay wgX10_hasDay ({ frames := 1, cells := 0, slots := 0, locals := 20 }) (preS G [.ref x0, .int p0, .int p1, .int p2] [(x0, .inr (10, [.ref tp, .int 0, .ref rd, .ref nw, .ref sp, .ref im, .ref ir, .ref kp, .ref sl, .ref tk, .ref hn, .ref rc, .ref jn, .ref br, .ref sh])), (nw, .inr (3, [.int 0, .int 0, .ref nw_slopes, .ref nw_wets, .ref nw_limits, .ref nw_platforms, .ref nw_kinds, .ref nw_trains, .ref nw_coaches]))]) (vp_Si (fun (r : Int32) => (r = 0))) 0 0 (fun _ => False) := by
  refine Met.ofW (cc := cX10_hasDay) (maxL := 4) (ret := (some .boolean)) (by decide) rfl ?_
  intro p e s m args below meth c s₁ B hml hv
  obtain ⟨rfl, hP, hKG⟩ := hv
  obtain ⟨hK, hAO⟩ := id hKG
  have hx := B.exec
  have hb := B.bytes
  have hr := B.returns
  have hts := atoms_spec (ws := wgX10_hasDay) B.pre
  have hw : ∀ w ∈ wG, w.before _ s = true := fun w h => hts w (List.mem_cons_of_mem _ h)
  have hown : s.vm.findClass RX10 = some m.cls := findClass_of_methodNamed B.named
  have hlocks := B.notSynchronized
  have hl := lv_entry ([.ref x0, .int p0, .int p1, .int p2]) (n := 4) (Nat.le_of_ble_eq_true rfl)
  rw [lg_entry_eq]
  generalize (lg_sl ([.ref x0, .int p0, .int p1, .int p2]) ++ List.replicate (4 - (lg_sl ([.ref x0, .int p0, .int p1, .int p2])).length) Slot.unset).toArray = ls at hl ⊢
  have hl : lv_has ls 4 [(0, .ref x0), (1, .int p0), (2, .int p1), (3, .int p2)] := hl
  refine lv_aload_n hx hb dX10_hasDay_0 rfl (lv_at hl 0 rfl) ?_
  refine vp_callSi (va_Run.run (va_runV (As := []) (rest := []) ⟨hx, hb, hml, hown, hw⟩ (c_X10_hasLine l G x0 tp rd nw sp im ir kp sl tk hn rc jn br sh nw_slopes nw_wets nw_limits nw_platforms nw_kinds nw_trains nw_coaches) (cwV 0 hw (gdV kw_5 kw_6 kw_7 kw_8 kw_4) rfl rfl rfl ⟨rfl, hdX10_hasLine⟩ ⟨(Nat.le_of_ble_eq_true rfl), (Nat.le_of_ble_eq_true rfl)⟩) (preS_V (wc := [(x0, .inr (10, [.ref tp, .int 0, .ref rd, .ref nw, .ref sp, .ref im, .ref ir, .ref kp, .ref sl, .ref tk, .ref hn, .ref rc, .ref jn, .ref br, .ref sh])), (nw, .inr (3, [.int 0, .int 0, .ref nw_slopes, .ref nw_wets, .ref nw_limits, .ref nw_platforms, .ref nw_kinds, .ref nw_trains, .ref nw_coaches]))]) (ci := 10) hKG hP [0, 1] rfl rfl rfl) rfl rfl hl.1 rfl (lv_room (Nat.le_of_ble_eq_true rfl)) dX10_hasDay_1 ⟨(Nat.le_of_ble_eq_true rfl), (Nat.le_of_ble_eq_true rfl)⟩)) (fun r1 hr1 => ?_)
  subst hr1
  refine lv_if_eq (tgt := 42) hx hb dX10_hasDay_4 (by decide) (fun c2 => ?_) (fun c2 => absurd (by decide) c2)
  refine lv_iconst (v := 0) hx hb dX10_hasDay_42 (by decide) ?_
  exact W.zret (ty := .boolean) (v := 0) hx hb hr (by decide) (fun t ht hW => ⟨0, rfl, rfl, ht⟩) (fun _ h => absurd h List.not_mem_nil) dX10_hasDay_43
set_option maxHeartbeats 4000000 in
set_option maxRecDepth 100000 in
theorem c_X10_yard (l : Launch) (G : KG) (x0 : Nat) (tp : Nat) (rd : Nat) (nw : Nat) (sp : Nat) (im : Nat) (ir : Nat) (kp : Nat) (sl : Nat) (tk : Nat) (hn : Nat) (rc : Nat) (jn : Nat) (br : Nat) (sh : Nat) (nw_slopes : Nat) (nw_wets : Nat) (nw_limits : Nat) (nw_platforms : Nat) (nw_kinds : Nat) (nw_trains : Nat) (nw_coaches : Nat) (nw_platforms_c : Nat) (nw_kinds_c : Nat) (nw_trains_c : Nat) (nw_coaches_c : Nat) (p0 : Int32) (p1 : Int32) : Met l yX10_yard wgX10_yard ({ frames := 2, cells := 0, slots := 0, locals := 41 }) (preS G [.ref x0, .int p0, .int p1] [(x0, .inr (10, [.ref tp, .int 0, .ref rd, .ref nw, .ref sp, .ref im, .ref ir, .ref kp, .ref sl, .ref tk, .ref hn, .ref rc, .ref jn, .ref br, .ref sh])), (nw, .inr (3, [.int 0, .int 0, .ref nw_slopes, .ref nw_wets, .ref nw_limits, .ref nw_platforms, .ref nw_kinds, .ref nw_trains, .ref nw_coaches])), (nw_platforms, .inr (6, [.int 6, .int 2, .ref nw_platforms_c, .int 0])), (nw_kinds, .inr (6, [.int 4, .int 5, .ref nw_kinds_c, .int 0])), (nw_trains, .inr (6, [.int 5, .int 3, .ref nw_trains_c, .int 0])), (nw_coaches, .inr (6, [.int 16, .int 5, .ref nw_coaches_c, .int 0]))]) (vp_Si (fun (r : Int32) => (r = (-2)))) 0 0 (fun _ => False) := by
  refine Met.ofW (cc := cX10_yard) (maxL := 3) (ret := (some .int)) (by decide) rfl ?_
  intro p e s m args below meth c s₁ B hml hv
  obtain ⟨rfl, hP, hKG⟩ := hv
  obtain ⟨hK, hAO⟩ := id hKG
  have hx := B.exec
  have hb := B.bytes
  have hr := B.returns
  have hts := atoms_spec (ws := wgX10_yard) B.pre
  have hw : ∀ w ∈ wG, w.before _ s = true := fun w h => hts w (List.mem_cons_of_mem _ h)
  have hown : s.vm.findClass RX10 = some m.cls := findClass_of_methodNamed B.named
  have hlocks := B.notSynchronized
  have hl := lv_entry ([.ref x0, .int p0, .int p1]) (n := 3) (Nat.le_of_ble_eq_true rfl)
  rw [lg_entry_eq]
  generalize (lg_sl ([.ref x0, .int p0, .int p1]) ++ List.replicate (3 - (lg_sl ([.ref x0, .int p0, .int p1])).length) Slot.unset).toArray = ls at hl ⊢
  have hl : lv_has ls 3 [(0, .ref x0), (1, .int p0), (2, .int p1)] := hl
  refine lv_aload_n hx hb dX10_yard_0 rfl (lv_at hl 0 rfl) ?_
  refine lv_iload_n hx hb dX10_yard_1 rfl (lv_at hl 1 rfl) ?_
  refine vp_callSi (va_Run.run (va_runV (As := [.int p0]) (rest := []) ⟨hx, hb, hml, hown, hw⟩ (c_X10_hasYard l G x0 tp rd nw sp im ir kp sl tk hn rc jn br sh nw_slopes nw_wets nw_limits nw_platforms nw_kinds nw_trains nw_coaches p0) (cwV 1 hw (gdV kw_24 kw_25 kw_26 kw_8 kw_23) rfl rfl rfl ⟨rfl, hdX10_hasYard⟩ ⟨(Nat.le_of_ble_eq_true rfl), (Nat.le_of_ble_eq_true rfl)⟩) (preS_V (wc := [(x0, .inr (10, [.ref tp, .int 0, .ref rd, .ref nw, .ref sp, .ref im, .ref ir, .ref kp, .ref sl, .ref tk, .ref hn, .ref rc, .ref jn, .ref br, .ref sh])), (nw, .inr (3, [.int 0, .int 0, .ref nw_slopes, .ref nw_wets, .ref nw_limits, .ref nw_platforms, .ref nw_kinds, .ref nw_trains, .ref nw_coaches]))]) (ci := 10) hKG hP [0, 1] rfl rfl rfl) rfl rfl hl.1 rfl (lv_room (Nat.le_of_ble_eq_true rfl)) dX10_yard_2 ⟨(Nat.le_of_ble_eq_true rfl), (Nat.le_of_ble_eq_true rfl)⟩)) (fun r1 hr1 => ?_)
  subst hr1
  refine lv_if_ne (tgt := 11) hx hb dX10_yard_5 (by decide) (fun c2 => absurd (by decide) c2) (fun c2 => ?_)
  refine lv_bipush (v := (-2)) hx hb dX10_yard_8 (by decide) ?_
  exact W.iret (v := (-2)) hx hb hr (fun t ht hW => ⟨(-2), rfl, rfl, ht⟩) (fun _ h => absurd h List.not_mem_nil) dX10_yard_10
set_option maxHeartbeats 4000000 in
set_option maxRecDepth 100000 in
theorem c_X10_coach (l : Launch) (G : KG) (x0 : Nat) (tp : Nat) (rd : Nat) (nw : Nat) (sp : Nat) (im : Nat) (ir : Nat) (kp : Nat) (sl : Nat) (tk : Nat) (hn : Nat) (rc : Nat) (jn : Nat) (br : Nat) (sh : Nat) (nw_slopes : Nat) (nw_wets : Nat) (nw_limits : Nat) (nw_platforms : Nat) (nw_kinds : Nat) (nw_trains : Nat) (nw_coaches : Nat) (nw_platforms_c : Nat) (nw_kinds_c : Nat) (nw_trains_c : Nat) (nw_coaches_c : Nat) (p0 : Int32) (p1 : Int32) : Met l yX10_coach wgX10_coach ({ frames := 1, cells := 0, slots := 0, locals := 21 }) (preS G [.ref x0, .int p0, .int p1] [(x0, .inr (10, [.ref tp, .int 0, .ref rd, .ref nw, .ref sp, .ref im, .ref ir, .ref kp, .ref sl, .ref tk, .ref hn, .ref rc, .ref jn, .ref br, .ref sh])), (nw, .inr (3, [.int 0, .int 0, .ref nw_slopes, .ref nw_wets, .ref nw_limits, .ref nw_platforms, .ref nw_kinds, .ref nw_trains, .ref nw_coaches])), (nw_platforms, .inr (6, [.int 6, .int 2, .ref nw_platforms_c, .int 0])), (nw_kinds, .inr (6, [.int 4, .int 5, .ref nw_kinds_c, .int 0])), (nw_trains, .inr (6, [.int 5, .int 3, .ref nw_trains_c, .int 0])), (nw_coaches, .inr (6, [.int 16, .int 5, .ref nw_coaches_c, .int 0]))]) (vp_Si (fun (r : Int32) => (r = (-2)))) 0 0 (fun _ => False) := by
  refine Met.ofW (cc := cX10_coach) (maxL := 3) (ret := (some .int)) (by decide) rfl ?_
  intro p e s m args below meth c s₁ B hml hv
  obtain ⟨rfl, hP, hKG⟩ := hv
  obtain ⟨hK, hAO⟩ := id hKG
  have hx := B.exec
  have hb := B.bytes
  have hr := B.returns
  have hts := atoms_spec (ws := wgX10_coach) B.pre
  have hw : ∀ w ∈ wG, w.before _ s = true := fun w h => hts w (List.mem_cons_of_mem _ h)
  have hown : s.vm.findClass RX10 = some m.cls := findClass_of_methodNamed B.named
  have hlocks := B.notSynchronized
  have hl := lv_entry ([.ref x0, .int p0, .int p1]) (n := 3) (Nat.le_of_ble_eq_true rfl)
  rw [lg_entry_eq]
  generalize (lg_sl ([.ref x0, .int p0, .int p1]) ++ List.replicate (3 - (lg_sl ([.ref x0, .int p0, .int p1])).length) Slot.unset).toArray = ls at hl ⊢
  have hl : lv_has ls 3 [(0, .ref x0), (1, .int p0), (2, .int p1)] := hl
  refine lv_aload_n hx hb dX10_coach_0 rfl (lv_at hl 0 rfl) ?_
  refine va_get (D := G.1) (ci := 10) (v := .ref nw) (C := RX10) (T := TX10) (N := 15) hx hb hw inGX10 hown hK hP 0 rfl rfl 3 (by decide) (hw _ kw_2) (fun _ h9 => h9) rfl dX10_coach_1 ?_
  refine va_get (D := G.1) (ci := 3) (v := .ref nw_coaches) (C := RX3) (T := TX3) (N := 9) hx hb hw inGX3 hown hK hP 1 rfl rfl 8 (by decide) (hw _ kw_27) (fun _ h9 => h9) rfl dX10_coach_4 ?_
  refine lv_iload_n hx hb dX10_coach_7 rfl (lv_at hl 1 rfl) ?_
  refine vp_callSi (va_Run.run (va_runV (As := [.int p0]) (rest := []) ⟨hx, hb, hml, hown, hw⟩ (c_has0 l G nw_coaches 16 5 nw_coaches_c p0) (cwV 1 hw (gdV kw_11 kw_12 kw_13 kw_14 kw_10) rfl rfl rfl ⟨rfl, hdX6_has⟩ ⟨(Nat.le_of_ble_eq_true rfl), (Nat.le_of_ble_eq_true rfl)⟩) (preS_V (wc := [(nw_coaches, .inr (6, [.int 16, .int 5, .ref nw_coaches_c, .int 0]))]) (ci := 6) hKG hP [5] rfl rfl rfl) rfl rfl hl.1 rfl (lv_room (Nat.le_of_ble_eq_true rfl)) dX10_coach_8 ⟨(Nat.le_of_ble_eq_true rfl), (Nat.le_of_ble_eq_true rfl)⟩)) (fun r1 hr1 => ?_)
  subst hr1
  refine lv_if_eq (tgt := 23) hx hb dX10_coach_11 (by decide) (fun c2 => ?_) (fun c2 => absurd (by decide) c2)
  refine lv_bipush (v := (-2)) hx hb dX10_coach_23 (by decide) ?_
  exact W.iret (v := (-2)) hx hb hr (fun t ht hW => ⟨(-2), rfl, rfl, ht⟩) (fun _ h => absurd h List.not_mem_nil) dX10_coach_25
set_option maxHeartbeats 4000000 in
set_option maxRecDepth 100000 in
theorem c_X10_rain (l : Launch) (G : KG) (x0 : Nat) (tp : Nat) (rd : Nat) (nw : Nat) (sp : Nat) (im : Nat) (ir : Nat) (kp : Nat) (sl : Nat) (tk : Nat) (hn : Nat) (rc : Nat) (jn : Nat) (br : Nat) (sh : Nat) (nw_slopes : Nat) (nw_wets : Nat) (nw_limits : Nat) (nw_platforms : Nat) (nw_kinds : Nat) (nw_trains : Nat) (nw_coaches : Nat) (nw_platforms_c : Nat) (nw_kinds_c : Nat) (nw_trains_c : Nat) (nw_coaches_c : Nat) (p0 : Int32) : Met l yX10_rain wgX10_rain ({ frames := 1, cells := 0, slots := 0, locals := 20 }) (preS G [.ref x0, .int p0] [(x0, .inr (10, [.ref tp, .int 0, .ref rd, .ref nw, .ref sp, .ref im, .ref ir, .ref kp, .ref sl, .ref tk, .ref hn, .ref rc, .ref jn, .ref br, .ref sh])), (nw, .inr (3, [.int 0, .int 0, .ref nw_slopes, .ref nw_wets, .ref nw_limits, .ref nw_platforms, .ref nw_kinds, .ref nw_trains, .ref nw_coaches])), (nw_platforms, .inr (6, [.int 6, .int 2, .ref nw_platforms_c, .int 0])), (nw_kinds, .inr (6, [.int 4, .int 5, .ref nw_kinds_c, .int 0])), (nw_trains, .inr (6, [.int 5, .int 3, .ref nw_trains_c, .int 0])), (nw_coaches, .inr (6, [.int 16, .int 5, .ref nw_coaches_c, .int 0]))]) (vp_Si (fun (r : Int32) => (r = (-2)))) 0 0 (fun _ => False) := by
  refine Met.ofW (cc := cX10_rain) (maxL := 3) (ret := (some .int)) (by decide) rfl ?_
  intro p e s m args below meth c s₁ B hml hv
  obtain ⟨rfl, hP, hKG⟩ := hv
  obtain ⟨hK, hAO⟩ := id hKG
  have hx := B.exec
  have hb := B.bytes
  have hr := B.returns
  have hts := atoms_spec (ws := wgX10_rain) B.pre
  have hw : ∀ w ∈ wG, w.before _ s = true := fun w h => hts w (List.mem_cons_of_mem _ h)
  have hown : s.vm.findClass RX10 = some m.cls := findClass_of_methodNamed B.named
  have hlocks := B.notSynchronized
  have hl := lv_entry ([.ref x0, .int p0]) (n := 3) (Nat.le_of_ble_eq_true rfl)
  rw [lg_entry_eq]
  generalize (lg_sl ([.ref x0, .int p0]) ++ List.replicate (3 - (lg_sl ([.ref x0, .int p0])).length) Slot.unset).toArray = ls at hl ⊢
  have hl : lv_has ls 3 [(0, .ref x0), (1, .int p0)] := hl
  refine lv_aload_n hx hb dX10_rain_0 rfl (lv_at hl 0 rfl) ?_
  refine vp_callSi (va_Run.run (va_runV (As := []) (rest := []) ⟨hx, hb, hml, hown, hw⟩ (c_X10_hasLine l G x0 tp rd nw sp im ir kp sl tk hn rc jn br sh nw_slopes nw_wets nw_limits nw_platforms nw_kinds nw_trains nw_coaches) (cwV 0 hw (gdV kw_5 kw_6 kw_7 kw_8 kw_4) rfl rfl rfl ⟨rfl, hdX10_hasLine⟩ ⟨(Nat.le_of_ble_eq_true rfl), (Nat.le_of_ble_eq_true rfl)⟩) (preS_V (wc := [(x0, .inr (10, [.ref tp, .int 0, .ref rd, .ref nw, .ref sp, .ref im, .ref ir, .ref kp, .ref sl, .ref tk, .ref hn, .ref rc, .ref jn, .ref br, .ref sh])), (nw, .inr (3, [.int 0, .int 0, .ref nw_slopes, .ref nw_wets, .ref nw_limits, .ref nw_platforms, .ref nw_kinds, .ref nw_trains, .ref nw_coaches]))]) (ci := 10) hKG hP [0, 1] rfl rfl rfl) rfl rfl hl.1 rfl (lv_room (Nat.le_of_ble_eq_true rfl)) dX10_rain_1 ⟨(Nat.le_of_ble_eq_true rfl), (Nat.le_of_ble_eq_true rfl)⟩)) (fun r1 hr1 => ?_)
  subst hr1
  refine lv_if_eq (tgt := 17) hx hb dX10_rain_4 (by decide) (fun c2 => ?_) (fun c2 => absurd (by decide) c2)
  refine lv_bipush (v := (-2)) hx hb dX10_rain_17 (by decide) ?_
  exact W.iret (v := (-2)) hx hb hr (fun t ht hW => ⟨(-2), rfl, rfl, ht⟩) (fun _ h => absurd h List.not_mem_nil) dX10_rain_19
set_option maxHeartbeats 4000000 in
set_option maxRecDepth 100000 in
theorem c_X10_post (l : Launch) (G : KG) (x0 : Nat) (tp : Nat) (rd : Nat) (nw : Nat) (sp : Nat) (im : Nat) (ir : Nat) (kp : Nat) (sl : Nat) (tk : Nat) (hn : Nat) (rc : Nat) (jn : Nat) (br : Nat) (sh : Nat) (nw_slopes : Nat) (nw_wets : Nat) (nw_limits : Nat) (nw_platforms : Nat) (nw_kinds : Nat) (nw_trains : Nat) (nw_coaches : Nat) (nw_platforms_c : Nat) (nw_kinds_c : Nat) (nw_trains_c : Nat) (nw_coaches_c : Nat) (p0 : Int32) (p1 : Int32) : Met l yX10_post wgX10_post ({ frames := 1, cells := 0, slots := 0, locals := 21 }) (preS G [.ref x0, .int p0, .int p1] [(x0, .inr (10, [.ref tp, .int 0, .ref rd, .ref nw, .ref sp, .ref im, .ref ir, .ref kp, .ref sl, .ref tk, .ref hn, .ref rc, .ref jn, .ref br, .ref sh])), (nw, .inr (3, [.int 0, .int 0, .ref nw_slopes, .ref nw_wets, .ref nw_limits, .ref nw_platforms, .ref nw_kinds, .ref nw_trains, .ref nw_coaches])), (nw_platforms, .inr (6, [.int 6, .int 2, .ref nw_platforms_c, .int 0])), (nw_kinds, .inr (6, [.int 4, .int 5, .ref nw_kinds_c, .int 0])), (nw_trains, .inr (6, [.int 5, .int 3, .ref nw_trains_c, .int 0])), (nw_coaches, .inr (6, [.int 16, .int 5, .ref nw_coaches_c, .int 0]))]) (vp_Si (fun (r : Int32) => (r = (-2)))) 0 0 (fun _ => False) := by
  refine Met.ofW (cc := cX10_post) (maxL := 4) (ret := (some .int)) (by decide) rfl ?_
  intro p e s m args below meth c s₁ B hml hv
  obtain ⟨rfl, hP, hKG⟩ := hv
  obtain ⟨hK, hAO⟩ := id hKG
  have hx := B.exec
  have hb := B.bytes
  have hr := B.returns
  have hts := atoms_spec (ws := wgX10_post) B.pre
  have hw : ∀ w ∈ wG, w.before _ s = true := fun w h => hts w (List.mem_cons_of_mem _ h)
  have hown : s.vm.findClass RX10 = some m.cls := findClass_of_methodNamed B.named
  have hlocks := B.notSynchronized
  have hl := lv_entry ([.ref x0, .int p0, .int p1]) (n := 4) (Nat.le_of_ble_eq_true rfl)
  rw [lg_entry_eq]
  generalize (lg_sl ([.ref x0, .int p0, .int p1]) ++ List.replicate (4 - (lg_sl ([.ref x0, .int p0, .int p1])).length) Slot.unset).toArray = ls at hl ⊢
  have hl : lv_has ls 4 [(0, .ref x0), (1, .int p0), (2, .int p1)] := hl
  refine lv_aload_n hx hb dX10_post_0 rfl (lv_at hl 0 rfl) ?_
  refine va_get (D := G.1) (ci := 10) (v := .ref nw) (C := RX10) (T := TX10) (N := 15) hx hb hw inGX10 hown hK hP 0 rfl rfl 3 (by decide) (hw _ kw_2) (fun _ h9 => h9) rfl dX10_post_1 ?_
  refine va_get (D := G.1) (ci := 3) (v := .ref nw_coaches) (C := RX3) (T := TX3) (N := 9) hx hb hw inGX3 hown hK hP 1 rfl rfl 8 (by decide) (hw _ kw_27) (fun _ h9 => h9) rfl dX10_post_4 ?_
  refine lv_iload_n hx hb dX10_post_7 rfl (lv_at hl 1 rfl) ?_
  refine vp_callSi (va_Run.run (va_runV (As := [.int p0]) (rest := []) ⟨hx, hb, hml, hown, hw⟩ (c_has0 l G nw_coaches 16 5 nw_coaches_c p0) (cwV 1 hw (gdV kw_11 kw_12 kw_13 kw_14 kw_10) rfl rfl rfl ⟨rfl, hdX6_has⟩ ⟨(Nat.le_of_ble_eq_true rfl), (Nat.le_of_ble_eq_true rfl)⟩) (preS_V (wc := [(nw_coaches, .inr (6, [.int 16, .int 5, .ref nw_coaches_c, .int 0]))]) (ci := 6) hKG hP [5] rfl rfl rfl) rfl rfl hl.1 rfl (lv_room (Nat.le_of_ble_eq_true rfl)) dX10_post_8 ⟨(Nat.le_of_ble_eq_true rfl), (Nat.le_of_ble_eq_true rfl)⟩)) (fun r1 hr1 => ?_)
  subst hr1
  refine lv_if_eq (tgt := 22) hx hb dX10_post_11 (by decide) (fun c2 => ?_) (fun c2 => absurd (by decide) c2)
  refine lv_bipush (v := (-2)) hx hb dX10_post_22 (by decide) ?_
  exact W.iret (v := (-2)) hx hb hr (fun t ht hW => ⟨(-2), rfl, rfl, ht⟩) (fun _ h => absurd h List.not_mem_nil) dX10_post_24
set_option maxHeartbeats 4000000 in
set_option maxRecDepth 100000 in
theorem c_X10_shift (l : Launch) (G : KG) (x0 : Nat) (tp : Nat) (rd : Nat) (nw : Nat) (sp : Nat) (im : Nat) (ir : Nat) (kp : Nat) (sl : Nat) (tk : Nat) (hn : Nat) (rc : Nat) (jn : Nat) (br : Nat) (sh : Nat) (nw_slopes : Nat) (nw_wets : Nat) (nw_limits : Nat) (nw_platforms : Nat) (nw_kinds : Nat) (nw_trains : Nat) (nw_coaches : Nat) (nw_platforms_c : Nat) (nw_kinds_c : Nat) (nw_trains_c : Nat) (nw_coaches_c : Nat) (p0 : Int32) (p1 : Int32) : Met l yX10_shift wgX10_shift ({ frames := 1, cells := 0, slots := 0, locals := 21 }) (preS G [.ref x0, .int p0, .int p1] [(x0, .inr (10, [.ref tp, .int 0, .ref rd, .ref nw, .ref sp, .ref im, .ref ir, .ref kp, .ref sl, .ref tk, .ref hn, .ref rc, .ref jn, .ref br, .ref sh])), (nw, .inr (3, [.int 0, .int 0, .ref nw_slopes, .ref nw_wets, .ref nw_limits, .ref nw_platforms, .ref nw_kinds, .ref nw_trains, .ref nw_coaches])), (nw_platforms, .inr (6, [.int 6, .int 2, .ref nw_platforms_c, .int 0])), (nw_kinds, .inr (6, [.int 4, .int 5, .ref nw_kinds_c, .int 0])), (nw_trains, .inr (6, [.int 5, .int 3, .ref nw_trains_c, .int 0])), (nw_coaches, .inr (6, [.int 16, .int 5, .ref nw_coaches_c, .int 0]))]) (vp_Si (fun (r : Int32) => (r = (-2)))) 0 0 (fun _ => False) := by
  refine Met.ofW (cc := cX10_shift) (maxL := 4) (ret := (some .int)) (by decide) rfl ?_
  intro p e s m args below meth c s₁ B hml hv
  obtain ⟨rfl, hP, hKG⟩ := hv
  obtain ⟨hK, hAO⟩ := id hKG
  have hx := B.exec
  have hb := B.bytes
  have hr := B.returns
  have hts := atoms_spec (ws := wgX10_shift) B.pre
  have hw : ∀ w ∈ wG, w.before _ s = true := fun w h => hts w (List.mem_cons_of_mem _ h)
  have hown : s.vm.findClass RX10 = some m.cls := findClass_of_methodNamed B.named
  have hlocks := B.notSynchronized
  have hl := lv_entry ([.ref x0, .int p0, .int p1]) (n := 4) (Nat.le_of_ble_eq_true rfl)
  rw [lg_entry_eq]
  generalize (lg_sl ([.ref x0, .int p0, .int p1]) ++ List.replicate (4 - (lg_sl ([.ref x0, .int p0, .int p1])).length) Slot.unset).toArray = ls at hl ⊢
  have hl : lv_has ls 4 [(0, .ref x0), (1, .int p0), (2, .int p1)] := hl
  refine lv_aload_n hx hb dX10_shift_0 rfl (lv_at hl 0 rfl) ?_
  refine va_get (D := G.1) (ci := 10) (v := .ref nw) (C := RX10) (T := TX10) (N := 15) hx hb hw inGX10 hown hK hP 0 rfl rfl 3 (by decide) (hw _ kw_2) (fun _ h9 => h9) rfl dX10_shift_1 ?_
  refine va_get (D := G.1) (ci := 3) (v := .ref nw_trains) (C := RX3) (T := TX3) (N := 9) hx hb hw inGX3 hown hK hP 1 rfl rfl 7 (by decide) (hw _ kw_28) (fun _ h9 => h9) rfl dX10_shift_4 ?_
  refine lv_iload_n hx hb dX10_shift_7 rfl (lv_at hl 1 rfl) ?_
  refine vp_callSi (va_Run.run (va_runV (As := [.int p0]) (rest := []) ⟨hx, hb, hml, hown, hw⟩ (c_has0 l G nw_trains 5 3 nw_trains_c p0) (cwV 1 hw (gdV kw_11 kw_12 kw_13 kw_14 kw_10) rfl rfl rfl ⟨rfl, hdX6_has⟩ ⟨(Nat.le_of_ble_eq_true rfl), (Nat.le_of_ble_eq_true rfl)⟩) (preS_V (wc := [(nw_trains, .inr (6, [.int 5, .int 3, .ref nw_trains_c, .int 0]))]) (ci := 6) hKG hP [4] rfl rfl rfl) rfl rfl hl.1 rfl (lv_room (Nat.le_of_ble_eq_true rfl)) dX10_shift_8 ⟨(Nat.le_of_ble_eq_true rfl), (Nat.le_of_ble_eq_true rfl)⟩)) (fun r1 hr1 => ?_)
  subst hr1
  refine lv_if_eq (tgt := 25) hx hb dX10_shift_11 (by decide) (fun c2 => ?_) (fun c2 => absurd (by decide) c2)
  refine lv_bipush (v := (-2)) hx hb dX10_shift_25 (by decide) ?_
  exact W.iret (v := (-2)) hx hb hr (fun t ht hW => ⟨(-2), rfl, rfl, ht⟩) (fun _ h => absurd h List.not_mem_nil) dX10_shift_27
set_option maxHeartbeats 4000000 in
set_option maxRecDepth 100000 in
theorem c_X10_swap (l : Launch) (G : KG) (x0 : Nat) (tp : Nat) (rd : Nat) (nw : Nat) (sp : Nat) (im : Nat) (ir : Nat) (kp : Nat) (sl : Nat) (tk : Nat) (hn : Nat) (rc : Nat) (jn : Nat) (br : Nat) (sh : Nat) (nw_slopes : Nat) (nw_wets : Nat) (nw_limits : Nat) (nw_platforms : Nat) (nw_kinds : Nat) (nw_trains : Nat) (nw_coaches : Nat) (nw_platforms_c : Nat) (nw_kinds_c : Nat) (nw_trains_c : Nat) (nw_coaches_c : Nat) (p0 : Int32) (p1 : Int32) : Met l yX10_swap wgX10_swap ({ frames := 1, cells := 0, slots := 0, locals := 21 }) (preS G [.ref x0, .int p0, .int p1] [(x0, .inr (10, [.ref tp, .int 0, .ref rd, .ref nw, .ref sp, .ref im, .ref ir, .ref kp, .ref sl, .ref tk, .ref hn, .ref rc, .ref jn, .ref br, .ref sh])), (nw, .inr (3, [.int 0, .int 0, .ref nw_slopes, .ref nw_wets, .ref nw_limits, .ref nw_platforms, .ref nw_kinds, .ref nw_trains, .ref nw_coaches])), (nw_platforms, .inr (6, [.int 6, .int 2, .ref nw_platforms_c, .int 0])), (nw_kinds, .inr (6, [.int 4, .int 5, .ref nw_kinds_c, .int 0])), (nw_trains, .inr (6, [.int 5, .int 3, .ref nw_trains_c, .int 0])), (nw_coaches, .inr (6, [.int 16, .int 5, .ref nw_coaches_c, .int 0]))]) (vp_Si (fun (r : Int32) => (r = (-2)))) 0 0 (fun _ => False) := by
  refine Met.ofW (cc := cX10_swap) (maxL := 5) (ret := (some .int)) (by decide) rfl ?_
  intro p e s m args below meth c s₁ B hml hv
  obtain ⟨rfl, hP, hKG⟩ := hv
  obtain ⟨hK, hAO⟩ := id hKG
  have hx := B.exec
  have hb := B.bytes
  have hr := B.returns
  have hts := atoms_spec (ws := wgX10_swap) B.pre
  have hw : ∀ w ∈ wG, w.before _ s = true := fun w h => hts w (List.mem_cons_of_mem _ h)
  have hown : s.vm.findClass RX10 = some m.cls := findClass_of_methodNamed B.named
  have hlocks := B.notSynchronized
  have hl := lv_entry ([.ref x0, .int p0, .int p1]) (n := 5) (Nat.le_of_ble_eq_true rfl)
  rw [lg_entry_eq]
  generalize (lg_sl ([.ref x0, .int p0, .int p1]) ++ List.replicate (5 - (lg_sl ([.ref x0, .int p0, .int p1])).length) Slot.unset).toArray = ls at hl ⊢
  have hl : lv_has ls 5 [(0, .ref x0), (1, .int p0), (2, .int p1)] := hl
  refine lv_aload_n hx hb dX10_swap_0 rfl (lv_at hl 0 rfl) ?_
  refine va_get (D := G.1) (ci := 10) (v := .ref nw) (C := RX10) (T := TX10) (N := 15) hx hb hw inGX10 hown hK hP 0 rfl rfl 3 (by decide) (hw _ kw_2) (fun _ h9 => h9) rfl dX10_swap_1 ?_
  refine va_get (D := G.1) (ci := 3) (v := .ref nw_coaches) (C := RX3) (T := TX3) (N := 9) hx hb hw inGX3 hown hK hP 1 rfl rfl 8 (by decide) (hw _ kw_27) (fun _ h9 => h9) rfl dX10_swap_4 ?_
  refine lv_astore_n (lv' := [(3, .ref nw_coaches), (0, .ref x0), (1, .int p0), (2, .int p1)]) hx hb dX10_swap_7 rfl hl (by decide) rfl (fun ls hl => ?_)
  refine lv_aload_n hx hb dX10_swap_8 rfl (lv_at hl 0 rfl) ?_
  refine lv_iload_n hx hb dX10_swap_9 rfl (lv_at hl 2 rfl) ?_
  refine vp_callSi (va_Run.run (va_runV (As := [.int p0]) (rest := []) ⟨hx, hb, hml, hown, hw⟩ (c_has0 l G nw_coaches 16 5 nw_coaches_c p0) (cwV 1 hw (gdV kw_11 kw_12 kw_13 kw_14 kw_10) rfl rfl rfl ⟨rfl, hdX6_has⟩ ⟨(Nat.le_of_ble_eq_true rfl), (Nat.le_of_ble_eq_true rfl)⟩) (preS_V (wc := [(nw_coaches, .inr (6, [.int 16, .int 5, .ref nw_coaches_c, .int 0]))]) (ci := 6) hKG hP [5] rfl rfl rfl) rfl rfl hl.1 rfl (lv_room (Nat.le_of_ble_eq_true rfl)) dX10_swap_10 ⟨(Nat.le_of_ble_eq_true rfl), (Nat.le_of_ble_eq_true rfl)⟩)) (fun r1 hr1 => ?_)
  subst hr1
  refine lv_if_eq (tgt := 44) hx hb dX10_swap_13 (by decide) (fun c2 => ?_) (fun c2 => absurd (by decide) c2)
  refine lv_bipush (v := (-2)) hx hb dX10_swap_44 (by decide) ?_
  exact W.iret (v := (-2)) hx hb hr (fun t ht hW => ⟨(-2), rfl, rfl, ht⟩) (fun _ h => absurd h List.not_mem_nil) dX10_swap_46
set_option maxHeartbeats 4000000 in
set_option maxRecDepth 100000 in
theorem c_X10_tick (l : Launch) (G : KG) (x0 : Nat) (tp : Nat) (rd : Nat) (nw : Nat) (sp : Nat) (im : Nat) (ir : Nat) (kp : Nat) (sl : Nat) (tk : Nat) (hn : Nat) (rc : Nat) (jn : Nat) (br : Nat) (sh : Nat) (nw_slopes : Nat) (nw_wets : Nat) (nw_limits : Nat) (nw_platforms : Nat) (nw_kinds : Nat) (nw_trains : Nat) (nw_coaches : Nat) (nw_platforms_c : Nat) (nw_kinds_c : Nat) (nw_trains_c : Nat) (nw_coaches_c : Nat) (p0 : Int32) (p1 : Int32) (p2 : Int32) (p3 : Int32) (p4 : Int32) : Met l yX10_tick wgX10_tick ({ frames := 2, cells := 0, slots := 0, locals := 44 }) (preS G [.ref x0, .int p0, .int p1, .int p2, .int p3, .int p4] [(x0, .inr (10, [.ref tp, .int 0, .ref rd, .ref nw, .ref sp, .ref im, .ref ir, .ref kp, .ref sl, .ref tk, .ref hn, .ref rc, .ref jn, .ref br, .ref sh])), (nw, .inr (3, [.int 0, .int 0, .ref nw_slopes, .ref nw_wets, .ref nw_limits, .ref nw_platforms, .ref nw_kinds, .ref nw_trains, .ref nw_coaches])), (nw_platforms, .inr (6, [.int 6, .int 2, .ref nw_platforms_c, .int 0])), (nw_kinds, .inr (6, [.int 4, .int 5, .ref nw_kinds_c, .int 0])), (nw_trains, .inr (6, [.int 5, .int 3, .ref nw_trains_c, .int 0])), (nw_coaches, .inr (6, [.int 16, .int 5, .ref nw_coaches_c, .int 0]))]) (vp_Si (fun (r : Int32) => (r = (-2)))) 0 0 (fun _ => False) := by
  refine Met.ofW (cc := cX10_tick) (maxL := 7) (ret := (some .int)) (by decide) rfl ?_
  intro p e s m args below meth c s₁ B hml hv
  obtain ⟨rfl, hP, hKG⟩ := hv
  obtain ⟨hK, hAO⟩ := id hKG
  have hx := B.exec
  have hb := B.bytes
  have hr := B.returns
  have hts := atoms_spec (ws := wgX10_tick) B.pre
  have hw : ∀ w ∈ wG, w.before _ s = true := fun w h => hts w (List.mem_cons_of_mem _ h)
  have hown : s.vm.findClass RX10 = some m.cls := findClass_of_methodNamed B.named
  have hlocks := B.notSynchronized
  have hl := lv_entry ([.ref x0, .int p0, .int p1, .int p2, .int p3, .int p4]) (n := 7) (Nat.le_of_ble_eq_true rfl)
  rw [lg_entry_eq]
  generalize (lg_sl ([.ref x0, .int p0, .int p1, .int p2, .int p3, .int p4]) ++ List.replicate (7 - (lg_sl ([.ref x0, .int p0, .int p1, .int p2, .int p3, .int p4])).length) Slot.unset).toArray = ls at hl ⊢
  have hl : lv_has ls 7 [(0, .ref x0), (1, .int p0), (2, .int p1), (3, .int p2), (4, .int p3), (5, .int p4)] := hl
  refine lv_aload_n hx hb dX10_tick_0 rfl (lv_at hl 0 rfl) ?_
  refine lv_iload_n hx hb dX10_tick_1 rfl (lv_at hl 1 rfl) ?_
  refine lv_iload_n hx hb dX10_tick_2 rfl (lv_at hl 2 rfl) ?_
  refine lv_iload_n hx hb dX10_tick_3 rfl (lv_at hl 3 rfl) ?_
  refine vp_callSi (va_Run.run (va_runV (As := [.int p0, .int p1, .int p2]) (rest := []) ⟨hx, hb, hml, hown, hw⟩ (c_X10_hasRun l G x0 tp rd nw sp im ir kp sl tk hn rc jn br sh nw_slopes nw_wets nw_limits nw_platforms nw_kinds nw_trains nw_coaches nw_platforms_c nw_kinds_c nw_trains_c nw_coaches_c p0 p1 p2) (cwV 3 hw (gdV kw_16 kw_17 kw_18 kw_8 kw_15) rfl rfl rfl ⟨rfl, hdX10_hasRun⟩ ⟨(Nat.le_of_ble_eq_true rfl), (Nat.le_of_ble_eq_true rfl)⟩) (preS_V (wc := [(x0, .inr (10, [.ref tp, .int 0, .ref rd, .ref nw, .ref sp, .ref im, .ref ir, .ref kp, .ref sl, .ref tk, .ref hn, .ref rc, .ref jn, .ref br, .ref sh])), (nw, .inr (3, [.int 0, .int 0, .ref nw_slopes, .ref nw_wets, .ref nw_limits, .ref nw_platforms, .ref nw_kinds, .ref nw_trains, .ref nw_coaches])), (nw_platforms, .inr (6, [.int 6, .int 2, .ref nw_platforms_c, .int 0])), (nw_kinds, .inr (6, [.int 4, .int 5, .ref nw_kinds_c, .int 0])), (nw_trains, .inr (6, [.int 5, .int 3, .ref nw_trains_c, .int 0])), (nw_coaches, .inr (6, [.int 16, .int 5, .ref nw_coaches_c, .int 0]))]) (ci := 10) hKG hP [0, 1, 2, 3, 4, 5] rfl rfl rfl) rfl rfl hl.1 rfl (lv_room (Nat.le_of_ble_eq_true rfl)) dX10_tick_4 ⟨(Nat.le_of_ble_eq_true rfl), (Nat.le_of_ble_eq_true rfl)⟩)) (fun r1 hr1 => ?_)
  subst hr1
  refine lv_if_eq (tgt := 30) hx hb dX10_tick_7 (by decide) (fun c2 => ?_) (fun c2 => absurd (by decide) c2)
  refine lv_bipush (v := (-2)) hx hb dX10_tick_30 (by decide) ?_
  exact W.iret (v := (-2)) hx hb hr (fun t ht hW => ⟨(-2), rfl, rfl, ht⟩) (fun _ h => absurd h List.not_mem_nil) dX10_tick_32
set_option maxHeartbeats 4000000 in
set_option maxRecDepth 100000 in
theorem c_X10_can (l : Launch) (G : KG) (x0 : Nat) (tp : Nat) (rd : Nat) (nw : Nat) (sp : Nat) (im : Nat) (ir : Nat) (kp : Nat) (sl : Nat) (tk : Nat) (hn : Nat) (rc : Nat) (jn : Nat) (br : Nat) (sh : Nat) (nw_slopes : Nat) (nw_wets : Nat) (nw_limits : Nat) (nw_platforms : Nat) (nw_kinds : Nat) (nw_trains : Nat) (nw_coaches : Nat) (nw_platforms_c : Nat) (nw_kinds_c : Nat) (nw_trains_c : Nat) (nw_coaches_c : Nat) (p0 : Int32) (p1 : Int32) (p2 : Int32) (p3 : Int32) : Met l yX10_can wgX10_can ({ frames := 4, cells := 0, slots := 0, locals := 93 }) (preS G [.ref x0, .int p0, .int p1, .int p2, .int p3] [(x0, .inr (10, [.ref tp, .int 0, .ref rd, .ref nw, .ref sp, .ref im, .ref ir, .ref kp, .ref sl, .ref tk, .ref hn, .ref rc, .ref jn, .ref br, .ref sh])), (nw, .inr (3, [.int 0, .int 0, .ref nw_slopes, .ref nw_wets, .ref nw_limits, .ref nw_platforms, .ref nw_kinds, .ref nw_trains, .ref nw_coaches])), (nw_platforms, .inr (6, [.int 6, .int 2, .ref nw_platforms_c, .int 0])), (nw_kinds, .inr (6, [.int 4, .int 5, .ref nw_kinds_c, .int 0])), (nw_trains, .inr (6, [.int 5, .int 3, .ref nw_trains_c, .int 0])), (nw_coaches, .inr (6, [.int 16, .int 5, .ref nw_coaches_c, .int 0]))]) (vp_Si (fun (r : Int32) => (r = (-2)))) 0 0 (fun _ => False) := by
  refine Met.ofW (cc := cX10_can) (maxL := 5) (ret := (some .int)) (by decide) rfl ?_
  intro p e s m args below meth c s₁ B hml hv
  obtain ⟨rfl, hP, hKG⟩ := hv
  obtain ⟨hK, hAO⟩ := id hKG
  have hx := B.exec
  have hb := B.bytes
  have hr := B.returns
  have hts := atoms_spec (ws := wgX10_can) B.pre
  have hw : ∀ w ∈ wG, w.before _ s = true := fun w h => hts w (List.mem_cons_of_mem _ h)
  have hown : s.vm.findClass RX10 = some m.cls := findClass_of_methodNamed B.named
  have hlocks := B.notSynchronized
  have hl := lv_entry ([.ref x0, .int p0, .int p1, .int p2, .int p3]) (n := 5) (Nat.le_of_ble_eq_true rfl)
  rw [lg_entry_eq]
  generalize (lg_sl ([.ref x0, .int p0, .int p1, .int p2, .int p3]) ++ List.replicate (5 - (lg_sl ([.ref x0, .int p0, .int p1, .int p2, .int p3])).length) Slot.unset).toArray = ls at hl ⊢
  have hl : lv_has ls 5 [(0, .ref x0), (1, .int p0), (2, .int p1), (3, .int p2), (4, .int p3)] := hl
  refine lv_aload_n hx hb dX10_can_0 rfl (lv_at hl 0 rfl) ?_
  refine lv_iload_n hx hb dX10_can_1 rfl (lv_at hl 1 rfl) ?_
  refine lv_iload_n hx hb dX10_can_2 rfl (lv_at hl 2 rfl) ?_
  refine lv_iload_n hx hb dX10_can_3 rfl (lv_at hl 3 rfl) ?_
  refine lv_iload hx hb dX10_can_4 (lv_at hl 4 rfl) ?_
  refine vp_callSi (va_Run.run (va_runV (As := [.int p0, .int p1, .int p2, .int p3]) (rest := []) ⟨hx, hb, hml, hown, hw⟩ (c_X10_takesAim l G x0 tp rd nw sp im ir kp sl tk hn rc jn br sh nw_slopes nw_wets nw_limits nw_platforms nw_kinds nw_trains nw_coaches nw_platforms_c nw_kinds_c nw_trains_c nw_coaches_c p0 p1 p2 p3) (cwV 4 hw (gdV kw_30 kw_31 kw_32 kw_8 kw_29) rfl rfl rfl ⟨rfl, hdX10_takesAim⟩ ⟨(Nat.le_of_ble_eq_true rfl), (Nat.le_of_ble_eq_true rfl)⟩) (preS_V (wc := [(x0, .inr (10, [.ref tp, .int 0, .ref rd, .ref nw, .ref sp, .ref im, .ref ir, .ref kp, .ref sl, .ref tk, .ref hn, .ref rc, .ref jn, .ref br, .ref sh])), (nw, .inr (3, [.int 0, .int 0, .ref nw_slopes, .ref nw_wets, .ref nw_limits, .ref nw_platforms, .ref nw_kinds, .ref nw_trains, .ref nw_coaches])), (nw_platforms, .inr (6, [.int 6, .int 2, .ref nw_platforms_c, .int 0])), (nw_kinds, .inr (6, [.int 4, .int 5, .ref nw_kinds_c, .int 0])), (nw_trains, .inr (6, [.int 5, .int 3, .ref nw_trains_c, .int 0])), (nw_coaches, .inr (6, [.int 16, .int 5, .ref nw_coaches_c, .int 0]))]) (ci := 10) hKG hP [0, 1, 2, 3, 4, 5] rfl rfl rfl) rfl rfl hl.1 rfl (lv_room (Nat.le_of_ble_eq_true rfl)) dX10_can_6 ⟨(Nat.le_of_ble_eq_true rfl), (Nat.le_of_ble_eq_true rfl)⟩)) (fun r1 hr1 => ?_)
  subst hr1
  refine lv_if_ne (tgt := 15) hx hb dX10_can_9 (by decide) (fun c2 => absurd (by decide) c2) (fun c2 => ?_)
  refine lv_bipush (v := (-2)) hx hb dX10_can_12 (by decide) ?_
  exact W.iret (v := (-2)) hx hb hr (fun t ht hW => ⟨(-2), rfl, rfl, ht⟩) (fun _ h => absurd h List.not_mem_nil) dX10_can_14
set_option maxHeartbeats 4000000 in
set_option maxRecDepth 100000 in
theorem c_X10_step (l : Launch) (G : KG) (x0 : Nat) (tp : Nat) (rd : Nat) (nw : Nat) (sp : Nat) (im : Nat) (ir : Nat) (kp : Nat) (sl : Nat) (tk : Nat) (hn : Nat) (rc : Nat) (jn : Nat) (br : Nat) (sh : Nat) (nw_slopes : Nat) (nw_wets : Nat) (nw_limits : Nat) (nw_platforms : Nat) (nw_kinds : Nat) (nw_trains : Nat) (nw_coaches : Nat) (nw_platforms_c : Nat) (nw_kinds_c : Nat) (nw_trains_c : Nat) (nw_coaches_c : Nat) (p0 : Int32) (p1 : Int32) (p2 : Int32) (p3 : Int32) : Met l yX10_step wgX10_step ({ frames := 4, cells := 0, slots := 0, locals := 93 }) (preS G [.ref x0, .int p0, .int p1, .int p2, .int p3] [(x0, .inr (10, [.ref tp, .int 0, .ref rd, .ref nw, .ref sp, .ref im, .ref ir, .ref kp, .ref sl, .ref tk, .ref hn, .ref rc, .ref jn, .ref br, .ref sh])), (nw, .inr (3, [.int 0, .int 0, .ref nw_slopes, .ref nw_wets, .ref nw_limits, .ref nw_platforms, .ref nw_kinds, .ref nw_trains, .ref nw_coaches])), (nw_platforms, .inr (6, [.int 6, .int 2, .ref nw_platforms_c, .int 0])), (nw_kinds, .inr (6, [.int 4, .int 5, .ref nw_kinds_c, .int 0])), (nw_trains, .inr (6, [.int 5, .int 3, .ref nw_trains_c, .int 0])), (nw_coaches, .inr (6, [.int 16, .int 5, .ref nw_coaches_c, .int 0]))]) (vp_Si (fun (r : Int32) => (r = (-2)))) 0 0 (fun _ => False) := by
  refine Met.ofW (cc := cX10_step) (maxL := 5) (ret := (some .int)) (by decide) rfl ?_
  intro p e s m args below meth c s₁ B hml hv
  obtain ⟨rfl, hP, hKG⟩ := hv
  obtain ⟨hK, hAO⟩ := id hKG
  have hx := B.exec
  have hb := B.bytes
  have hr := B.returns
  have hts := atoms_spec (ws := wgX10_step) B.pre
  have hw : ∀ w ∈ wG, w.before _ s = true := fun w h => hts w (List.mem_cons_of_mem _ h)
  have hown : s.vm.findClass RX10 = some m.cls := findClass_of_methodNamed B.named
  have hlocks := B.notSynchronized
  have hl := lv_entry ([.ref x0, .int p0, .int p1, .int p2, .int p3]) (n := 5) (Nat.le_of_ble_eq_true rfl)
  rw [lg_entry_eq]
  generalize (lg_sl ([.ref x0, .int p0, .int p1, .int p2, .int p3]) ++ List.replicate (5 - (lg_sl ([.ref x0, .int p0, .int p1, .int p2, .int p3])).length) Slot.unset).toArray = ls at hl ⊢
  have hl : lv_has ls 5 [(0, .ref x0), (1, .int p0), (2, .int p1), (3, .int p2), (4, .int p3)] := hl
  refine lv_aload_n hx hb dX10_step_0 rfl (lv_at hl 0 rfl) ?_
  refine lv_iload_n hx hb dX10_step_1 rfl (lv_at hl 1 rfl) ?_
  refine lv_iload_n hx hb dX10_step_2 rfl (lv_at hl 2 rfl) ?_
  refine lv_iload_n hx hb dX10_step_3 rfl (lv_at hl 3 rfl) ?_
  refine lv_iload hx hb dX10_step_4 (lv_at hl 4 rfl) ?_
  refine vp_callSi (va_Run.run (va_runV (As := [.int p0, .int p1, .int p2, .int p3]) (rest := []) ⟨hx, hb, hml, hown, hw⟩ (c_X10_takesAim l G x0 tp rd nw sp im ir kp sl tk hn rc jn br sh nw_slopes nw_wets nw_limits nw_platforms nw_kinds nw_trains nw_coaches nw_platforms_c nw_kinds_c nw_trains_c nw_coaches_c p0 p1 p2 p3) (cwV 4 hw (gdV kw_30 kw_31 kw_32 kw_8 kw_29) rfl rfl rfl ⟨rfl, hdX10_takesAim⟩ ⟨(Nat.le_of_ble_eq_true rfl), (Nat.le_of_ble_eq_true rfl)⟩) (preS_V (wc := [(x0, .inr (10, [.ref tp, .int 0, .ref rd, .ref nw, .ref sp, .ref im, .ref ir, .ref kp, .ref sl, .ref tk, .ref hn, .ref rc, .ref jn, .ref br, .ref sh])), (nw, .inr (3, [.int 0, .int 0, .ref nw_slopes, .ref nw_wets, .ref nw_limits, .ref nw_platforms, .ref nw_kinds, .ref nw_trains, .ref nw_coaches])), (nw_platforms, .inr (6, [.int 6, .int 2, .ref nw_platforms_c, .int 0])), (nw_kinds, .inr (6, [.int 4, .int 5, .ref nw_kinds_c, .int 0])), (nw_trains, .inr (6, [.int 5, .int 3, .ref nw_trains_c, .int 0])), (nw_coaches, .inr (6, [.int 16, .int 5, .ref nw_coaches_c, .int 0]))]) (ci := 10) hKG hP [0, 1, 2, 3, 4, 5] rfl rfl rfl) rfl rfl hl.1 rfl (lv_room (Nat.le_of_ble_eq_true rfl)) dX10_step_6 ⟨(Nat.le_of_ble_eq_true rfl), (Nat.le_of_ble_eq_true rfl)⟩)) (fun r1 hr1 => ?_)
  subst hr1
  refine lv_if_ne (tgt := 15) hx hb dX10_step_9 (by decide) (fun c2 => absurd (by decide) c2) (fun c2 => ?_)
  refine lv_bipush (v := (-2)) hx hb dX10_step_12 (by decide) ?_
  exact W.iret (v := (-2)) hx hb hr (fun t ht hW => ⟨(-2), rfl, rfl, ht⟩) (fun _ h => absurd h List.not_mem_nil) dX10_step_14
set_option maxHeartbeats 4000000 in
set_option maxRecDepth 100000 in
theorem c_X10_handled (l : Launch) (G : KG) (x0 : Nat) (tp : Nat) (rd : Nat) (nw : Nat) (sp : Nat) (im : Nat) (ir : Nat) (kp : Nat) (sl : Nat) (tk : Nat) (hn : Nat) (rc : Nat) (jn : Nat) (br : Nat) (sh : Nat) (nw_slopes : Nat) (nw_wets : Nat) (nw_limits : Nat) (nw_platforms : Nat) (nw_kinds : Nat) (nw_trains : Nat) (nw_coaches : Nat) (nw_platforms_c : Nat) (nw_kinds_c : Nat) (nw_trains_c : Nat) (nw_coaches_c : Nat) (p0 : Int32) (p1 : Int32) (p2 : Int32) (p3 : Int32) (p4 : Int32) : Met l yX10_handled wgX10_handled ({ frames := 4, cells := 0, slots := 0, locals := 93 }) (preS G [.ref x0, .int p0, .int p1, .int p2, .int p3, .int p4] [(x0, .inr (10, [.ref tp, .int 0, .ref rd, .ref nw, .ref sp, .ref im, .ref ir, .ref kp, .ref sl, .ref tk, .ref hn, .ref rc, .ref jn, .ref br, .ref sh])), (nw, .inr (3, [.int 0, .int 0, .ref nw_slopes, .ref nw_wets, .ref nw_limits, .ref nw_platforms, .ref nw_kinds, .ref nw_trains, .ref nw_coaches])), (nw_platforms, .inr (6, [.int 6, .int 2, .ref nw_platforms_c, .int 0])), (nw_kinds, .inr (6, [.int 4, .int 5, .ref nw_kinds_c, .int 0])), (nw_trains, .inr (6, [.int 5, .int 3, .ref nw_trains_c, .int 0])), (nw_coaches, .inr (6, [.int 16, .int 5, .ref nw_coaches_c, .int 0]))]) (vp_Si (fun (r : Int32) => (r = (-2)))) 0 0 (fun _ => False) := by
  refine Met.ofW (cc := cX10_handled) (maxL := 6) (ret := (some .int)) (by decide) rfl ?_
  intro p e s m args below meth c s₁ B hml hv
  obtain ⟨rfl, hP, hKG⟩ := hv
  obtain ⟨hK, hAO⟩ := id hKG
  have hx := B.exec
  have hb := B.bytes
  have hr := B.returns
  have hts := atoms_spec (ws := wgX10_handled) B.pre
  have hw : ∀ w ∈ wG, w.before _ s = true := fun w h => hts w (List.mem_cons_of_mem _ h)
  have hown : s.vm.findClass RX10 = some m.cls := findClass_of_methodNamed B.named
  have hlocks := B.notSynchronized
  have hl := lv_entry ([.ref x0, .int p0, .int p1, .int p2, .int p3, .int p4]) (n := 6) (Nat.le_of_ble_eq_true rfl)
  rw [lg_entry_eq]
  generalize (lg_sl ([.ref x0, .int p0, .int p1, .int p2, .int p3, .int p4]) ++ List.replicate (6 - (lg_sl ([.ref x0, .int p0, .int p1, .int p2, .int p3, .int p4])).length) Slot.unset).toArray = ls at hl ⊢
  have hl : lv_has ls 6 [(0, .ref x0), (1, .int p0), (2, .int p1), (3, .int p2), (4, .int p3), (5, .int p4)] := hl
  refine lv_aload_n hx hb dX10_handled_0 rfl (lv_at hl 0 rfl) ?_
  refine lv_iload_n hx hb dX10_handled_1 rfl (lv_at hl 1 rfl) ?_
  refine lv_iload_n hx hb dX10_handled_2 rfl (lv_at hl 2 rfl) ?_
  refine lv_iload_n hx hb dX10_handled_3 rfl (lv_at hl 3 rfl) ?_
  refine lv_iload hx hb dX10_handled_4 (lv_at hl 4 rfl) ?_
  refine vp_callSi (va_Run.run (va_runV (As := [.int p0, .int p1, .int p2, .int p3]) (rest := []) ⟨hx, hb, hml, hown, hw⟩ (c_X10_takesAim l G x0 tp rd nw sp im ir kp sl tk hn rc jn br sh nw_slopes nw_wets nw_limits nw_platforms nw_kinds nw_trains nw_coaches nw_platforms_c nw_kinds_c nw_trains_c nw_coaches_c p0 p1 p2 p3) (cwV 4 hw (gdV kw_30 kw_31 kw_32 kw_8 kw_29) rfl rfl rfl ⟨rfl, hdX10_takesAim⟩ ⟨(Nat.le_of_ble_eq_true rfl), (Nat.le_of_ble_eq_true rfl)⟩) (preS_V (wc := [(x0, .inr (10, [.ref tp, .int 0, .ref rd, .ref nw, .ref sp, .ref im, .ref ir, .ref kp, .ref sl, .ref tk, .ref hn, .ref rc, .ref jn, .ref br, .ref sh])), (nw, .inr (3, [.int 0, .int 0, .ref nw_slopes, .ref nw_wets, .ref nw_limits, .ref nw_platforms, .ref nw_kinds, .ref nw_trains, .ref nw_coaches])), (nw_platforms, .inr (6, [.int 6, .int 2, .ref nw_platforms_c, .int 0])), (nw_kinds, .inr (6, [.int 4, .int 5, .ref nw_kinds_c, .int 0])), (nw_trains, .inr (6, [.int 5, .int 3, .ref nw_trains_c, .int 0])), (nw_coaches, .inr (6, [.int 16, .int 5, .ref nw_coaches_c, .int 0]))]) (ci := 10) hKG hP [0, 1, 2, 3, 4, 5] rfl rfl rfl) rfl rfl hl.1 rfl (lv_room (Nat.le_of_ble_eq_true rfl)) dX10_handled_6 ⟨(Nat.le_of_ble_eq_true rfl), (Nat.le_of_ble_eq_true rfl)⟩)) (fun r1 hr1 => ?_)
  subst hr1
  refine lv_if_eq (tgt := 22) hx hb dX10_handled_9 (by decide) (fun c2 => ?_) (fun c2 => absurd (by decide) c2)
  refine lv_bipush (v := (-2)) hx hb dX10_handled_22 (by decide) ?_
  exact W.iret (v := (-2)) hx hb hr (fun t ht hW => ⟨(-2), rfl, rfl, ht⟩) (fun _ h => absurd h List.not_mem_nil) dX10_handled_24
set_option maxHeartbeats 4000000 in
set_option maxRecDepth 100000 in
theorem c_X10_hard (l : Launch) (G : KG) (x0 : Nat) (tp : Nat) (rd : Nat) (nw : Nat) (sp : Nat) (im : Nat) (ir : Nat) (kp : Nat) (sl : Nat) (tk : Nat) (hn : Nat) (rc : Nat) (jn : Nat) (br : Nat) (sh : Nat) (nw_slopes : Nat) (nw_wets : Nat) (nw_limits : Nat) (nw_platforms : Nat) (nw_kinds : Nat) (nw_trains : Nat) (nw_coaches : Nat) (nw_platforms_c : Nat) (nw_kinds_c : Nat) (nw_trains_c : Nat) (nw_coaches_c : Nat) (p0 : Int32) (p1 : Int32) (p2 : Int32) (p3 : Int32) : Met l yX10_hard wgX10_hard ({ frames := 4, cells := 0, slots := 0, locals := 94 }) (preS G [.ref x0, .int p0, .int p1, .int p2, .int p3] [(x0, .inr (10, [.ref tp, .int 0, .ref rd, .ref nw, .ref sp, .ref im, .ref ir, .ref kp, .ref sl, .ref tk, .ref hn, .ref rc, .ref jn, .ref br, .ref sh])), (nw, .inr (3, [.int 0, .int 0, .ref nw_slopes, .ref nw_wets, .ref nw_limits, .ref nw_platforms, .ref nw_kinds, .ref nw_trains, .ref nw_coaches])), (nw_platforms, .inr (6, [.int 6, .int 2, .ref nw_platforms_c, .int 0])), (nw_kinds, .inr (6, [.int 4, .int 5, .ref nw_kinds_c, .int 0])), (nw_trains, .inr (6, [.int 5, .int 3, .ref nw_trains_c, .int 0])), (nw_coaches, .inr (6, [.int 16, .int 5, .ref nw_coaches_c, .int 0]))]) (vp_Si (fun (r : Int32) => (r = (-2)))) 0 0 (fun _ => False) := by
  refine Met.ofW (cc := cX10_hard) (maxL := 5) (ret := (some .int)) (by decide) rfl ?_
  intro p e s m args below meth c s₁ B hml hv
  obtain ⟨rfl, hP, hKG⟩ := hv
  obtain ⟨hK, hAO⟩ := id hKG
  have hx := B.exec
  have hb := B.bytes
  have hr := B.returns
  have hts := atoms_spec (ws := wgX10_hard) B.pre
  have hw : ∀ w ∈ wG, w.before _ s = true := fun w h => hts w (List.mem_cons_of_mem _ h)
  have hown : s.vm.findClass RX10 = some m.cls := findClass_of_methodNamed B.named
  have hlocks := B.notSynchronized
  have hl := lv_entry ([.ref x0, .int p0, .int p1, .int p2, .int p3]) (n := 5) (Nat.le_of_ble_eq_true rfl)
  rw [lg_entry_eq]
  generalize (lg_sl ([.ref x0, .int p0, .int p1, .int p2, .int p3]) ++ List.replicate (5 - (lg_sl ([.ref x0, .int p0, .int p1, .int p2, .int p3])).length) Slot.unset).toArray = ls at hl ⊢
  have hl : lv_has ls 5 [(0, .ref x0), (1, .int p0), (2, .int p1), (3, .int p2), (4, .int p3)] := hl
  refine lv_aload_n hx hb dX10_hard_0 rfl (lv_at hl 0 rfl) ?_
  refine lv_iload_n hx hb dX10_hard_1 rfl (lv_at hl 1 rfl) ?_
  refine lv_iload_n hx hb dX10_hard_2 rfl (lv_at hl 2 rfl) ?_
  refine lv_iload_n hx hb dX10_hard_3 rfl (lv_at hl 3 rfl) ?_
  refine lv_iload hx hb dX10_hard_4 (lv_at hl 4 rfl) ?_
  refine lv_iconst (v := 0) hx hb dX10_hard_6 (by decide) ?_
  refine vp_callSi (va_Run.run (va_runV (As := [.int p0, .int p1, .int p2, .int p3, .int 0]) (rest := []) ⟨hx, hb, hml, hown, hw⟩ (c_X10_leastMeasure l G x0 tp rd nw sp im ir kp sl tk hn rc jn br sh nw_slopes nw_wets nw_limits nw_platforms nw_kinds nw_trains nw_coaches nw_platforms_c nw_kinds_c nw_trains_c nw_coaches_c p0 p1 p2 p3 0) (cwV 5 hw (gdV kw_34 kw_35 kw_36 kw_8 kw_33) rfl rfl rfl ⟨rfl, hdX10_leastMeasure⟩ ⟨(Nat.le_of_ble_eq_true rfl), (Nat.le_of_ble_eq_true rfl)⟩) (preS_V (wc := [(x0, .inr (10, [.ref tp, .int 0, .ref rd, .ref nw, .ref sp, .ref im, .ref ir, .ref kp, .ref sl, .ref tk, .ref hn, .ref rc, .ref jn, .ref br, .ref sh])), (nw, .inr (3, [.int 0, .int 0, .ref nw_slopes, .ref nw_wets, .ref nw_limits, .ref nw_platforms, .ref nw_kinds, .ref nw_trains, .ref nw_coaches])), (nw_platforms, .inr (6, [.int 6, .int 2, .ref nw_platforms_c, .int 0])), (nw_kinds, .inr (6, [.int 4, .int 5, .ref nw_kinds_c, .int 0])), (nw_trains, .inr (6, [.int 5, .int 3, .ref nw_trains_c, .int 0])), (nw_coaches, .inr (6, [.int 16, .int 5, .ref nw_coaches_c, .int 0]))]) (ci := 10) hKG hP [0, 1, 2, 3, 4, 5] rfl rfl rfl) rfl rfl hl.1 rfl (lv_room (Nat.le_of_ble_eq_true rfl)) dX10_hard_7 ⟨(Nat.le_of_ble_eq_true rfl), (Nat.le_of_ble_eq_true rfl)⟩)) (fun r1 hr1 => ?_)
  subst hr1
  exact W.iret (v := (-2)) hx hb hr (fun t ht hW => ⟨(-2), rfl, rfl, ht⟩) (fun _ h => absurd h List.not_mem_nil) dX10_hard_10
set_option maxHeartbeats 4000000 in
set_option maxRecDepth 100000 in
theorem c_X10_quick (l : Launch) (G : KG) (x0 : Nat) (tp : Nat) (rd : Nat) (nw : Nat) (sp : Nat) (im : Nat) (ir : Nat) (kp : Nat) (sl : Nat) (tk : Nat) (hn : Nat) (rc : Nat) (jn : Nat) (br : Nat) (sh : Nat) (nw_slopes : Nat) (nw_wets : Nat) (nw_limits : Nat) (nw_platforms : Nat) (nw_kinds : Nat) (nw_trains : Nat) (nw_coaches : Nat) (nw_platforms_c : Nat) (nw_kinds_c : Nat) (nw_trains_c : Nat) (nw_coaches_c : Nat) (p0 : Int32) (p1 : Int32) (p2 : Int32) (p3 : Int32) : Met l yX10_quick wgX10_quick ({ frames := 4, cells := 0, slots := 0, locals := 94 }) (preS G [.ref x0, .int p0, .int p1, .int p2, .int p3] [(x0, .inr (10, [.ref tp, .int 0, .ref rd, .ref nw, .ref sp, .ref im, .ref ir, .ref kp, .ref sl, .ref tk, .ref hn, .ref rc, .ref jn, .ref br, .ref sh])), (nw, .inr (3, [.int 0, .int 0, .ref nw_slopes, .ref nw_wets, .ref nw_limits, .ref nw_platforms, .ref nw_kinds, .ref nw_trains, .ref nw_coaches])), (nw_platforms, .inr (6, [.int 6, .int 2, .ref nw_platforms_c, .int 0])), (nw_kinds, .inr (6, [.int 4, .int 5, .ref nw_kinds_c, .int 0])), (nw_trains, .inr (6, [.int 5, .int 3, .ref nw_trains_c, .int 0])), (nw_coaches, .inr (6, [.int 16, .int 5, .ref nw_coaches_c, .int 0]))]) (vp_Si (fun (r : Int32) => (r = (-2)))) 0 0 (fun _ => False) := by
  refine Met.ofW (cc := cX10_quick) (maxL := 5) (ret := (some .int)) (by decide) rfl ?_
  intro p e s m args below meth c s₁ B hml hv
  obtain ⟨rfl, hP, hKG⟩ := hv
  obtain ⟨hK, hAO⟩ := id hKG
  have hx := B.exec
  have hb := B.bytes
  have hr := B.returns
  have hts := atoms_spec (ws := wgX10_quick) B.pre
  have hw : ∀ w ∈ wG, w.before _ s = true := fun w h => hts w (List.mem_cons_of_mem _ h)
  have hown : s.vm.findClass RX10 = some m.cls := findClass_of_methodNamed B.named
  have hlocks := B.notSynchronized
  have hl := lv_entry ([.ref x0, .int p0, .int p1, .int p2, .int p3]) (n := 5) (Nat.le_of_ble_eq_true rfl)
  rw [lg_entry_eq]
  generalize (lg_sl ([.ref x0, .int p0, .int p1, .int p2, .int p3]) ++ List.replicate (5 - (lg_sl ([.ref x0, .int p0, .int p1, .int p2, .int p3])).length) Slot.unset).toArray = ls at hl ⊢
  have hl : lv_has ls 5 [(0, .ref x0), (1, .int p0), (2, .int p1), (3, .int p2), (4, .int p3)] := hl
  refine lv_aload_n hx hb dX10_quick_0 rfl (lv_at hl 0 rfl) ?_
  refine lv_iload_n hx hb dX10_quick_1 rfl (lv_at hl 1 rfl) ?_
  refine lv_iload_n hx hb dX10_quick_2 rfl (lv_at hl 2 rfl) ?_
  refine lv_iload_n hx hb dX10_quick_3 rfl (lv_at hl 3 rfl) ?_
  refine lv_iload hx hb dX10_quick_4 (lv_at hl 4 rfl) ?_
  refine lv_iconst (v := 1) hx hb dX10_quick_6 (by decide) ?_
  refine vp_callSi (va_Run.run (va_runV (As := [.int p0, .int p1, .int p2, .int p3, .int 1]) (rest := []) ⟨hx, hb, hml, hown, hw⟩ (c_X10_leastMeasure l G x0 tp rd nw sp im ir kp sl tk hn rc jn br sh nw_slopes nw_wets nw_limits nw_platforms nw_kinds nw_trains nw_coaches nw_platforms_c nw_kinds_c nw_trains_c nw_coaches_c p0 p1 p2 p3 1) (cwV 5 hw (gdV kw_34 kw_35 kw_36 kw_8 kw_33) rfl rfl rfl ⟨rfl, hdX10_leastMeasure⟩ ⟨(Nat.le_of_ble_eq_true rfl), (Nat.le_of_ble_eq_true rfl)⟩) (preS_V (wc := [(x0, .inr (10, [.ref tp, .int 0, .ref rd, .ref nw, .ref sp, .ref im, .ref ir, .ref kp, .ref sl, .ref tk, .ref hn, .ref rc, .ref jn, .ref br, .ref sh])), (nw, .inr (3, [.int 0, .int 0, .ref nw_slopes, .ref nw_wets, .ref nw_limits, .ref nw_platforms, .ref nw_kinds, .ref nw_trains, .ref nw_coaches])), (nw_platforms, .inr (6, [.int 6, .int 2, .ref nw_platforms_c, .int 0])), (nw_kinds, .inr (6, [.int 4, .int 5, .ref nw_kinds_c, .int 0])), (nw_trains, .inr (6, [.int 5, .int 3, .ref nw_trains_c, .int 0])), (nw_coaches, .inr (6, [.int 16, .int 5, .ref nw_coaches_c, .int 0]))]) (ci := 10) hKG hP [0, 1, 2, 3, 4, 5] rfl rfl rfl) rfl rfl hl.1 rfl (lv_room (Nat.le_of_ble_eq_true rfl)) dX10_quick_7 ⟨(Nat.le_of_ble_eq_true rfl), (Nat.le_of_ble_eq_true rfl)⟩)) (fun r1 hr1 => ?_)
  subst hr1
  exact W.iret (v := (-2)) hx hb hr (fun t ht hW => ⟨(-2), rfl, rfl, ht⟩) (fun _ h => absurd h List.not_mem_nil) dX10_quick_10
set_option maxHeartbeats 4000000 in
set_option maxRecDepth 100000 in
theorem c_X10_jolt (l : Launch) (G : KG) (x0 : Nat) (tp : Nat) (rd : Nat) (nw : Nat) (sp : Nat) (im : Nat) (ir : Nat) (kp : Nat) (sl : Nat) (tk : Nat) (hn : Nat) (rc : Nat) (jn : Nat) (br : Nat) (sh : Nat) (nw_slopes : Nat) (nw_wets : Nat) (nw_limits : Nat) (nw_platforms : Nat) (nw_kinds : Nat) (nw_trains : Nat) (nw_coaches : Nat) (nw_platforms_c : Nat) (nw_kinds_c : Nat) (nw_trains_c : Nat) (nw_coaches_c : Nat) (p0 : Int32) (p1 : Int32) (p2 : Int32) (p3 : Int32) : Met l yX10_jolt wgX10_jolt ({ frames := 4, cells := 0, slots := 0, locals := 94 }) (preS G [.ref x0, .int p0, .int p1, .int p2, .int p3] [(x0, .inr (10, [.ref tp, .int 0, .ref rd, .ref nw, .ref sp, .ref im, .ref ir, .ref kp, .ref sl, .ref tk, .ref hn, .ref rc, .ref jn, .ref br, .ref sh])), (nw, .inr (3, [.int 0, .int 0, .ref nw_slopes, .ref nw_wets, .ref nw_limits, .ref nw_platforms, .ref nw_kinds, .ref nw_trains, .ref nw_coaches])), (nw_platforms, .inr (6, [.int 6, .int 2, .ref nw_platforms_c, .int 0])), (nw_kinds, .inr (6, [.int 4, .int 5, .ref nw_kinds_c, .int 0])), (nw_trains, .inr (6, [.int 5, .int 3, .ref nw_trains_c, .int 0])), (nw_coaches, .inr (6, [.int 16, .int 5, .ref nw_coaches_c, .int 0]))]) (vp_Si (fun (r : Int32) => (r = (-2)))) 0 0 (fun _ => False) := by
  refine Met.ofW (cc := cX10_jolt) (maxL := 5) (ret := (some .int)) (by decide) rfl ?_
  intro p e s m args below meth c s₁ B hml hv
  obtain ⟨rfl, hP, hKG⟩ := hv
  obtain ⟨hK, hAO⟩ := id hKG
  have hx := B.exec
  have hb := B.bytes
  have hr := B.returns
  have hts := atoms_spec (ws := wgX10_jolt) B.pre
  have hw : ∀ w ∈ wG, w.before _ s = true := fun w h => hts w (List.mem_cons_of_mem _ h)
  have hown : s.vm.findClass RX10 = some m.cls := findClass_of_methodNamed B.named
  have hlocks := B.notSynchronized
  have hl := lv_entry ([.ref x0, .int p0, .int p1, .int p2, .int p3]) (n := 5) (Nat.le_of_ble_eq_true rfl)
  rw [lg_entry_eq]
  generalize (lg_sl ([.ref x0, .int p0, .int p1, .int p2, .int p3]) ++ List.replicate (5 - (lg_sl ([.ref x0, .int p0, .int p1, .int p2, .int p3])).length) Slot.unset).toArray = ls at hl ⊢
  have hl : lv_has ls 5 [(0, .ref x0), (1, .int p0), (2, .int p1), (3, .int p2), (4, .int p3)] := hl
  refine lv_aload_n hx hb dX10_jolt_0 rfl (lv_at hl 0 rfl) ?_
  refine lv_iload_n hx hb dX10_jolt_1 rfl (lv_at hl 1 rfl) ?_
  refine lv_iload_n hx hb dX10_jolt_2 rfl (lv_at hl 2 rfl) ?_
  refine lv_iload_n hx hb dX10_jolt_3 rfl (lv_at hl 3 rfl) ?_
  refine lv_iload hx hb dX10_jolt_4 (lv_at hl 4 rfl) ?_
  refine lv_iconst (v := 2) hx hb dX10_jolt_6 (by decide) ?_
  refine vp_callSi (va_Run.run (va_runV (As := [.int p0, .int p1, .int p2, .int p3, .int 2]) (rest := []) ⟨hx, hb, hml, hown, hw⟩ (c_X10_leastMeasure l G x0 tp rd nw sp im ir kp sl tk hn rc jn br sh nw_slopes nw_wets nw_limits nw_platforms nw_kinds nw_trains nw_coaches nw_platforms_c nw_kinds_c nw_trains_c nw_coaches_c p0 p1 p2 p3 2) (cwV 5 hw (gdV kw_34 kw_35 kw_36 kw_8 kw_33) rfl rfl rfl ⟨rfl, hdX10_leastMeasure⟩ ⟨(Nat.le_of_ble_eq_true rfl), (Nat.le_of_ble_eq_true rfl)⟩) (preS_V (wc := [(x0, .inr (10, [.ref tp, .int 0, .ref rd, .ref nw, .ref sp, .ref im, .ref ir, .ref kp, .ref sl, .ref tk, .ref hn, .ref rc, .ref jn, .ref br, .ref sh])), (nw, .inr (3, [.int 0, .int 0, .ref nw_slopes, .ref nw_wets, .ref nw_limits, .ref nw_platforms, .ref nw_kinds, .ref nw_trains, .ref nw_coaches])), (nw_platforms, .inr (6, [.int 6, .int 2, .ref nw_platforms_c, .int 0])), (nw_kinds, .inr (6, [.int 4, .int 5, .ref nw_kinds_c, .int 0])), (nw_trains, .inr (6, [.int 5, .int 3, .ref nw_trains_c, .int 0])), (nw_coaches, .inr (6, [.int 16, .int 5, .ref nw_coaches_c, .int 0]))]) (ci := 10) hKG hP [0, 1, 2, 3, 4, 5] rfl rfl rfl) rfl rfl hl.1 rfl (lv_room (Nat.le_of_ble_eq_true rfl)) dX10_jolt_7 ⟨(Nat.le_of_ble_eq_true rfl), (Nat.le_of_ble_eq_true rfl)⟩)) (fun r1 hr1 => ?_)
  subst hr1
  exact W.iret (v := (-2)) hx hb hr (fun t ht hW => ⟨(-2), rfl, rfl, ht⟩) (fun _ h => absurd h List.not_mem_nil) dX10_jolt_10
set_option maxHeartbeats 4000000 in
set_option maxRecDepth 100000 in
theorem c_X10_stands (l : Launch) (G : KG) (x0 : Nat) (tp : Nat) (rd : Nat) (nw : Nat) (sp : Nat) (im : Nat) (ir : Nat) (kp : Nat) (sl : Nat) (tk : Nat) (hn : Nat) (rc : Nat) (jn : Nat) (br : Nat) (sh : Nat) (nw_slopes : Nat) (nw_wets : Nat) (nw_limits : Nat) (nw_platforms : Nat) (nw_kinds : Nat) (nw_trains : Nat) (nw_coaches : Nat) (nw_platforms_c : Nat) (nw_kinds_c : Nat) (nw_trains_c : Nat) (nw_coaches_c : Nat) (p0 : Int32) (p1 : Int32) (p2 : Int32) (p3 : Int32) : Met l yX10_stands wgX10_stands ({ frames := 2, cells := 0, slots := 0, locals := 44 }) (preS G [.ref x0, .int p0, .int p1, .int p2, .int p3] [(x0, .inr (10, [.ref tp, .int 0, .ref rd, .ref nw, .ref sp, .ref im, .ref ir, .ref kp, .ref sl, .ref tk, .ref hn, .ref rc, .ref jn, .ref br, .ref sh])), (nw, .inr (3, [.int 0, .int 0, .ref nw_slopes, .ref nw_wets, .ref nw_limits, .ref nw_platforms, .ref nw_kinds, .ref nw_trains, .ref nw_coaches])), (nw_platforms, .inr (6, [.int 6, .int 2, .ref nw_platforms_c, .int 0])), (nw_kinds, .inr (6, [.int 4, .int 5, .ref nw_kinds_c, .int 0])), (nw_trains, .inr (6, [.int 5, .int 3, .ref nw_trains_c, .int 0])), (nw_coaches, .inr (6, [.int 16, .int 5, .ref nw_coaches_c, .int 0]))]) (vp_Si (fun (r : Int32) => (r = (-2)))) 0 0 (fun _ => False) := by
  refine Met.ofW (cc := cX10_stands) (maxL := 9) (ret := (some .int)) (by decide) rfl ?_
  intro p e s m args below meth c s₁ B hml hv
  obtain ⟨rfl, hP, hKG⟩ := hv
  obtain ⟨hK, hAO⟩ := id hKG
  have hx := B.exec
  have hb := B.bytes
  have hr := B.returns
  have hts := atoms_spec (ws := wgX10_stands) B.pre
  have hw : ∀ w ∈ wG, w.before _ s = true := fun w h => hts w (List.mem_cons_of_mem _ h)
  have hown : s.vm.findClass RX10 = some m.cls := findClass_of_methodNamed B.named
  have hlocks := B.notSynchronized
  have hl := lv_entry ([.ref x0, .int p0, .int p1, .int p2, .int p3]) (n := 9) (Nat.le_of_ble_eq_true rfl)
  rw [lg_entry_eq]
  generalize (lg_sl ([.ref x0, .int p0, .int p1, .int p2, .int p3]) ++ List.replicate (9 - (lg_sl ([.ref x0, .int p0, .int p1, .int p2, .int p3])).length) Slot.unset).toArray = ls at hl ⊢
  have hl : lv_has ls 9 [(0, .ref x0), (1, .int p0), (2, .int p1), (3, .int p2), (4, .int p3)] := hl
  refine lv_aload_n hx hb dX10_stands_0 rfl (lv_at hl 0 rfl) ?_
  refine lv_iload_n hx hb dX10_stands_1 rfl (lv_at hl 1 rfl) ?_
  refine lv_iload_n hx hb dX10_stands_2 rfl (lv_at hl 2 rfl) ?_
  refine lv_iload_n hx hb dX10_stands_3 rfl (lv_at hl 3 rfl) ?_
  refine vp_callSi (va_Run.run (va_runV (As := [.int p0, .int p1, .int p2]) (rest := []) ⟨hx, hb, hml, hown, hw⟩ (c_X10_hasRun l G x0 tp rd nw sp im ir kp sl tk hn rc jn br sh nw_slopes nw_wets nw_limits nw_platforms nw_kinds nw_trains nw_coaches nw_platforms_c nw_kinds_c nw_trains_c nw_coaches_c p0 p1 p2) (cwV 3 hw (gdV kw_16 kw_17 kw_18 kw_8 kw_15) rfl rfl rfl ⟨rfl, hdX10_hasRun⟩ ⟨(Nat.le_of_ble_eq_true rfl), (Nat.le_of_ble_eq_true rfl)⟩) (preS_V (wc := [(x0, .inr (10, [.ref tp, .int 0, .ref rd, .ref nw, .ref sp, .ref im, .ref ir, .ref kp, .ref sl, .ref tk, .ref hn, .ref rc, .ref jn, .ref br, .ref sh])), (nw, .inr (3, [.int 0, .int 0, .ref nw_slopes, .ref nw_wets, .ref nw_limits, .ref nw_platforms, .ref nw_kinds, .ref nw_trains, .ref nw_coaches])), (nw_platforms, .inr (6, [.int 6, .int 2, .ref nw_platforms_c, .int 0])), (nw_kinds, .inr (6, [.int 4, .int 5, .ref nw_kinds_c, .int 0])), (nw_trains, .inr (6, [.int 5, .int 3, .ref nw_trains_c, .int 0])), (nw_coaches, .inr (6, [.int 16, .int 5, .ref nw_coaches_c, .int 0]))]) (ci := 10) hKG hP [0, 1, 2, 3, 4, 5] rfl rfl rfl) rfl rfl hl.1 rfl (lv_room (Nat.le_of_ble_eq_true rfl)) dX10_stands_4 ⟨(Nat.le_of_ble_eq_true rfl), (Nat.le_of_ble_eq_true rfl)⟩)) (fun r1 hr1 => ?_)
  subst hr1
  refine lv_if_eq (tgt := 20) hx hb dX10_stands_7 (by decide) (fun c2 => ?_) (fun c2 => absurd (by decide) c2)
  refine lv_bipush (v := (-2)) hx hb dX10_stands_20 (by decide) ?_
  exact W.iret (v := (-2)) hx hb hr (fun t ht hW => ⟨(-2), rfl, rfl, ht⟩) (fun _ h => absurd h List.not_mem_nil) dX10_stands_22
set_option maxHeartbeats 4000000 in
set_option maxRecDepth 100000 in
theorem c_X10_posts (l : Launch) (G : KG) (x0 : Nat) (tp : Nat) (rd : Nat) (nw : Nat) (sp : Nat) (im : Nat) (ir : Nat) (kp : Nat) (sl : Nat) (tk : Nat) (hn : Nat) (rc : Nat) (jn : Nat) (br : Nat) (sh : Nat) (nw_slopes : Nat) (nw_wets : Nat) (nw_limits : Nat) (nw_platforms : Nat) (nw_kinds : Nat) (nw_trains : Nat) (nw_coaches : Nat) (nw_platforms_c : Nat) (nw_kinds_c : Nat) (nw_trains_c : Nat) (nw_coaches_c : Nat) (p0 : Int32) (p1 : Int32) (p2 : Int32) (p3 : Int32) : Met l yX10_posts wgX10_posts ({ frames := 4, cells := 0, slots := 0, locals := 93 }) (preS G [.ref x0, .int p0, .int p1, .int p2, .int p3] [(x0, .inr (10, [.ref tp, .int 0, .ref rd, .ref nw, .ref sp, .ref im, .ref ir, .ref kp, .ref sl, .ref tk, .ref hn, .ref rc, .ref jn, .ref br, .ref sh])), (nw, .inr (3, [.int 0, .int 0, .ref nw_slopes, .ref nw_wets, .ref nw_limits, .ref nw_platforms, .ref nw_kinds, .ref nw_trains, .ref nw_coaches])), (nw_platforms, .inr (6, [.int 6, .int 2, .ref nw_platforms_c, .int 0])), (nw_kinds, .inr (6, [.int 4, .int 5, .ref nw_kinds_c, .int 0])), (nw_trains, .inr (6, [.int 5, .int 3, .ref nw_trains_c, .int 0])), (nw_coaches, .inr (6, [.int 16, .int 5, .ref nw_coaches_c, .int 0]))]) (vp_Si (fun (r : Int32) => (r = (-2)))) 0 0 (fun _ => False) := by
  refine Met.ofW (cc := cX10_posts) (maxL := 9) (ret := (some .int)) (by decide) rfl ?_
  intro p e s m args below meth c s₁ B hml hv
  obtain ⟨rfl, hP, hKG⟩ := hv
  obtain ⟨hK, hAO⟩ := id hKG
  have hx := B.exec
  have hb := B.bytes
  have hr := B.returns
  have hts := atoms_spec (ws := wgX10_posts) B.pre
  have hw : ∀ w ∈ wG, w.before _ s = true := fun w h => hts w (List.mem_cons_of_mem _ h)
  have hown : s.vm.findClass RX10 = some m.cls := findClass_of_methodNamed B.named
  have hlocks := B.notSynchronized
  have hl := lv_entry ([.ref x0, .int p0, .int p1, .int p2, .int p3]) (n := 9) (Nat.le_of_ble_eq_true rfl)
  rw [lg_entry_eq]
  generalize (lg_sl ([.ref x0, .int p0, .int p1, .int p2, .int p3]) ++ List.replicate (9 - (lg_sl ([.ref x0, .int p0, .int p1, .int p2, .int p3])).length) Slot.unset).toArray = ls at hl ⊢
  have hl : lv_has ls 9 [(0, .ref x0), (1, .int p0), (2, .int p1), (3, .int p2), (4, .int p3)] := hl
  refine lv_aload_n hx hb dX10_posts_0 rfl (lv_at hl 0 rfl) ?_
  refine lv_iload_n hx hb dX10_posts_1 rfl (lv_at hl 1 rfl) ?_
  refine lv_iload_n hx hb dX10_posts_2 rfl (lv_at hl 2 rfl) ?_
  refine lv_iconst (v := 0) hx hb dX10_posts_3 (by decide) ?_
  refine lv_iload_n hx hb dX10_posts_4 rfl (lv_at hl 3 rfl) ?_
  refine vp_callSi (va_Run.run (va_runV (As := [.int p0, .int p1, .int 0, .int p2]) (rest := []) ⟨hx, hb, hml, hown, hw⟩ (c_X10_takesAim l G x0 tp rd nw sp im ir kp sl tk hn rc jn br sh nw_slopes nw_wets nw_limits nw_platforms nw_kinds nw_trains nw_coaches nw_platforms_c nw_kinds_c nw_trains_c nw_coaches_c p0 p1 0 p2) (cwV 4 hw (gdV kw_30 kw_31 kw_32 kw_8 kw_29) rfl rfl rfl ⟨rfl, hdX10_takesAim⟩ ⟨(Nat.le_of_ble_eq_true rfl), (Nat.le_of_ble_eq_true rfl)⟩) (preS_V (wc := [(x0, .inr (10, [.ref tp, .int 0, .ref rd, .ref nw, .ref sp, .ref im, .ref ir, .ref kp, .ref sl, .ref tk, .ref hn, .ref rc, .ref jn, .ref br, .ref sh])), (nw, .inr (3, [.int 0, .int 0, .ref nw_slopes, .ref nw_wets, .ref nw_limits, .ref nw_platforms, .ref nw_kinds, .ref nw_trains, .ref nw_coaches])), (nw_platforms, .inr (6, [.int 6, .int 2, .ref nw_platforms_c, .int 0])), (nw_kinds, .inr (6, [.int 4, .int 5, .ref nw_kinds_c, .int 0])), (nw_trains, .inr (6, [.int 5, .int 3, .ref nw_trains_c, .int 0])), (nw_coaches, .inr (6, [.int 16, .int 5, .ref nw_coaches_c, .int 0]))]) (ci := 10) hKG hP [0, 1, 2, 3, 4, 5] rfl rfl rfl) rfl rfl hl.1 rfl (lv_room (Nat.le_of_ble_eq_true rfl)) dX10_posts_5 ⟨(Nat.le_of_ble_eq_true rfl), (Nat.le_of_ble_eq_true rfl)⟩)) (fun r1 hr1 => ?_)
  subst hr1
  refine lv_if_eq (tgt := 21) hx hb dX10_posts_8 (by decide) (fun c2 => ?_) (fun c2 => absurd (by decide) c2)
  refine lv_bipush (v := (-2)) hx hb dX10_posts_21 (by decide) ?_
  exact W.iret (v := (-2)) hx hb hr (fun t ht hW => ⟨(-2), rfl, rfl, ht⟩) (fun _ h => absurd h List.not_mem_nil) dX10_posts_23
set_option maxHeartbeats 4000000 in
set_option maxRecDepth 100000 in
theorem c_X10_speeds (l : Launch) (G : KG) (x0 : Nat) (tp : Nat) (rd : Nat) (nw : Nat) (sp : Nat) (im : Nat) (ir : Nat) (kp : Nat) (sl : Nat) (tk : Nat) (hn : Nat) (rc : Nat) (jn : Nat) (br : Nat) (sh : Nat) (nw_slopes : Nat) (nw_wets : Nat) (nw_limits : Nat) (nw_platforms : Nat) (nw_kinds : Nat) (nw_trains : Nat) (nw_coaches : Nat) (nw_platforms_c : Nat) (nw_kinds_c : Nat) (nw_trains_c : Nat) (nw_coaches_c : Nat) (p0 : Int32) (p1 : Int32) (p2 : Int32) : Met l yX10_speeds wgX10_speeds ({ frames := 4, cells := 0, slots := 0, locals := 93 }) (preS G [.ref x0, .int p0, .int p1, .int p2] [(x0, .inr (10, [.ref tp, .int 0, .ref rd, .ref nw, .ref sp, .ref im, .ref ir, .ref kp, .ref sl, .ref tk, .ref hn, .ref rc, .ref jn, .ref br, .ref sh])), (nw, .inr (3, [.int 0, .int 0, .ref nw_slopes, .ref nw_wets, .ref nw_limits, .ref nw_platforms, .ref nw_kinds, .ref nw_trains, .ref nw_coaches])), (nw_platforms, .inr (6, [.int 6, .int 2, .ref nw_platforms_c, .int 0])), (nw_kinds, .inr (6, [.int 4, .int 5, .ref nw_kinds_c, .int 0])), (nw_trains, .inr (6, [.int 5, .int 3, .ref nw_trains_c, .int 0])), (nw_coaches, .inr (6, [.int 16, .int 5, .ref nw_coaches_c, .int 0]))]) (vp_Si (fun (r : Int32) => (r = (-2)))) 0 0 (fun _ => False) := by
  refine Met.ofW (cc := cX10_speeds) (maxL := 6) (ret := (some .int)) (by decide) rfl ?_
  intro p e s m args below meth c s₁ B hml hv
  obtain ⟨rfl, hP, hKG⟩ := hv
  obtain ⟨hK, hAO⟩ := id hKG
  have hx := B.exec
  have hb := B.bytes
  have hr := B.returns
  have hts := atoms_spec (ws := wgX10_speeds) B.pre
  have hw : ∀ w ∈ wG, w.before _ s = true := fun w h => hts w (List.mem_cons_of_mem _ h)
  have hown : s.vm.findClass RX10 = some m.cls := findClass_of_methodNamed B.named
  have hlocks := B.notSynchronized
  have hl := lv_entry ([.ref x0, .int p0, .int p1, .int p2]) (n := 6) (Nat.le_of_ble_eq_true rfl)
  rw [lg_entry_eq]
  generalize (lg_sl ([.ref x0, .int p0, .int p1, .int p2]) ++ List.replicate (6 - (lg_sl ([.ref x0, .int p0, .int p1, .int p2])).length) Slot.unset).toArray = ls at hl ⊢
  have hl : lv_has ls 6 [(0, .ref x0), (1, .int p0), (2, .int p1), (3, .int p2)] := hl
  refine lv_aload_n hx hb dX10_speeds_0 rfl (lv_at hl 0 rfl) ?_
  refine lv_iload_n hx hb dX10_speeds_1 rfl (lv_at hl 1 rfl) ?_
  refine lv_iload_n hx hb dX10_speeds_2 rfl (lv_at hl 2 rfl) ?_
  refine lv_iload_n hx hb dX10_speeds_3 rfl (lv_at hl 3 rfl) ?_
  refine lv_iconst (v := 1) hx hb dX10_speeds_4 (by decide) ?_
  refine vp_callSi (va_Run.run (va_runV (As := [.int p0, .int p1, .int p2, .int 1]) (rest := []) ⟨hx, hb, hml, hown, hw⟩ (c_X10_takesAim l G x0 tp rd nw sp im ir kp sl tk hn rc jn br sh nw_slopes nw_wets nw_limits nw_platforms nw_kinds nw_trains nw_coaches nw_platforms_c nw_kinds_c nw_trains_c nw_coaches_c p0 p1 p2 1) (cwV 4 hw (gdV kw_30 kw_31 kw_32 kw_8 kw_29) rfl rfl rfl ⟨rfl, hdX10_takesAim⟩ ⟨(Nat.le_of_ble_eq_true rfl), (Nat.le_of_ble_eq_true rfl)⟩) (preS_V (wc := [(x0, .inr (10, [.ref tp, .int 0, .ref rd, .ref nw, .ref sp, .ref im, .ref ir, .ref kp, .ref sl, .ref tk, .ref hn, .ref rc, .ref jn, .ref br, .ref sh])), (nw, .inr (3, [.int 0, .int 0, .ref nw_slopes, .ref nw_wets, .ref nw_limits, .ref nw_platforms, .ref nw_kinds, .ref nw_trains, .ref nw_coaches])), (nw_platforms, .inr (6, [.int 6, .int 2, .ref nw_platforms_c, .int 0])), (nw_kinds, .inr (6, [.int 4, .int 5, .ref nw_kinds_c, .int 0])), (nw_trains, .inr (6, [.int 5, .int 3, .ref nw_trains_c, .int 0])), (nw_coaches, .inr (6, [.int 16, .int 5, .ref nw_coaches_c, .int 0]))]) (ci := 10) hKG hP [0, 1, 2, 3, 4, 5] rfl rfl rfl) rfl rfl hl.1 rfl (lv_room (Nat.le_of_ble_eq_true rfl)) dX10_speeds_5 ⟨(Nat.le_of_ble_eq_true rfl), (Nat.le_of_ble_eq_true rfl)⟩)) (fun r1 hr1 => ?_)
  subst hr1
  refine lv_if_ne (tgt := 14) hx hb dX10_speeds_8 (by decide) (fun c2 => absurd (by decide) c2) (fun c2 => ?_)
  refine lv_bipush (v := (-2)) hx hb dX10_speeds_11 (by decide) ?_
  exact W.iret (v := (-2)) hx hb hr (fun t ht hW => ⟨(-2), rfl, rfl, ht⟩) (fun _ h => absurd h List.not_mem_nil) dX10_speeds_13
set_option maxHeartbeats 4000000 in
set_option maxRecDepth 100000 in
theorem c_X10_wetter (l : Launch) (G : KG) (x0 : Nat) (tp : Nat) (rd : Nat) (nw : Nat) (sp : Nat) (im : Nat) (ir : Nat) (kp : Nat) (sl : Nat) (tk : Nat) (hn : Nat) (rc : Nat) (jn : Nat) (br : Nat) (sh : Nat) (nw_slopes : Nat) (nw_wets : Nat) (nw_limits : Nat) (nw_platforms : Nat) (nw_kinds : Nat) (nw_trains : Nat) (nw_coaches : Nat) (nw_platforms_c : Nat) (nw_kinds_c : Nat) (nw_trains_c : Nat) (nw_coaches_c : Nat) (p0 : Int32) (p1 : Int32) (p2 : Int32) (p3 : Int32) : Met l yX10_wetter wgX10_wetter ({ frames := 3, cells := 0, slots := 0, locals := 68 }) (preS G [.ref x0, .int p0, .int p1, .int p2, .int p3] [(x0, .inr (10, [.ref tp, .int 0, .ref rd, .ref nw, .ref sp, .ref im, .ref ir, .ref kp, .ref sl, .ref tk, .ref hn, .ref rc, .ref jn, .ref br, .ref sh])), (nw, .inr (3, [.int 0, .int 0, .ref nw_slopes, .ref nw_wets, .ref nw_limits, .ref nw_platforms, .ref nw_kinds, .ref nw_trains, .ref nw_coaches])), (nw_platforms, .inr (6, [.int 6, .int 2, .ref nw_platforms_c, .int 0])), (nw_kinds, .inr (6, [.int 4, .int 5, .ref nw_kinds_c, .int 0])), (nw_trains, .inr (6, [.int 5, .int 3, .ref nw_trains_c, .int 0])), (nw_coaches, .inr (6, [.int 16, .int 5, .ref nw_coaches_c, .int 0]))]) (vp_Si (fun (r : Int32) => (r = (-2)))) 0 0 (fun _ => False) := by
  refine Met.ofW (cc := cX10_wetter) (maxL := 8) (ret := (some .int)) (by decide) rfl ?_
  intro p e s m args below meth c s₁ B hml hv
  obtain ⟨rfl, hP, hKG⟩ := hv
  obtain ⟨hK, hAO⟩ := id hKG
  have hx := B.exec
  have hb := B.bytes
  have hr := B.returns
  have hts := atoms_spec (ws := wgX10_wetter) B.pre
  have hw : ∀ w ∈ wG, w.before _ s = true := fun w h => hts w (List.mem_cons_of_mem _ h)
  have hown : s.vm.findClass RX10 = some m.cls := findClass_of_methodNamed B.named
  have hlocks := B.notSynchronized
  have hl := lv_entry ([.ref x0, .int p0, .int p1, .int p2, .int p3]) (n := 8) (Nat.le_of_ble_eq_true rfl)
  rw [lg_entry_eq]
  generalize (lg_sl ([.ref x0, .int p0, .int p1, .int p2, .int p3]) ++ List.replicate (8 - (lg_sl ([.ref x0, .int p0, .int p1, .int p2, .int p3])).length) Slot.unset).toArray = ls at hl ⊢
  have hl : lv_has ls 8 [(0, .ref x0), (1, .int p0), (2, .int p1), (3, .int p2), (4, .int p3)] := hl
  refine lv_aload_n hx hb dX10_wetter_0 rfl (lv_at hl 0 rfl) ?_
  refine lv_iload_n hx hb dX10_wetter_1 rfl (lv_at hl 1 rfl) ?_
  refine lv_iload_n hx hb dX10_wetter_2 rfl (lv_at hl 2 rfl) ?_
  refine lv_iload_n hx hb dX10_wetter_3 rfl (lv_at hl 3 rfl) ?_
  refine lv_iload hx hb dX10_wetter_4 (lv_at hl 4 rfl) ?_
  refine vp_callSi (va_Run.run (va_runV (As := [.int p0, .int p1, .int p2, .int p3]) (rest := []) ⟨hx, hb, hml, hown, hw⟩ (c_X10_hasAim l G x0 tp rd nw sp im ir kp sl tk hn rc jn br sh nw_slopes nw_wets nw_limits nw_platforms nw_kinds nw_trains nw_coaches nw_platforms_c nw_kinds_c nw_trains_c nw_coaches_c p0 p1 p2 p3) (cwV 4 hw (gdV kw_20 kw_21 kw_22 kw_8 kw_19) rfl rfl rfl ⟨rfl, hdX10_hasAim⟩ ⟨(Nat.le_of_ble_eq_true rfl), (Nat.le_of_ble_eq_true rfl)⟩) (preS_V (wc := [(x0, .inr (10, [.ref tp, .int 0, .ref rd, .ref nw, .ref sp, .ref im, .ref ir, .ref kp, .ref sl, .ref tk, .ref hn, .ref rc, .ref jn, .ref br, .ref sh])), (nw, .inr (3, [.int 0, .int 0, .ref nw_slopes, .ref nw_wets, .ref nw_limits, .ref nw_platforms, .ref nw_kinds, .ref nw_trains, .ref nw_coaches])), (nw_platforms, .inr (6, [.int 6, .int 2, .ref nw_platforms_c, .int 0])), (nw_kinds, .inr (6, [.int 4, .int 5, .ref nw_kinds_c, .int 0])), (nw_trains, .inr (6, [.int 5, .int 3, .ref nw_trains_c, .int 0])), (nw_coaches, .inr (6, [.int 16, .int 5, .ref nw_coaches_c, .int 0]))]) (ci := 10) hKG hP [0, 1, 2, 3, 4, 5] rfl rfl rfl) rfl rfl hl.1 rfl (lv_room (Nat.le_of_ble_eq_true rfl)) dX10_wetter_6 ⟨(Nat.le_of_ble_eq_true rfl), (Nat.le_of_ble_eq_true rfl)⟩)) (fun r1 hr1 => ?_)
  subst hr1
  refine lv_if_ne (tgt := 15) hx hb dX10_wetter_9 (by decide) (fun c2 => absurd (by decide) c2) (fun c2 => ?_)
  refine lv_bipush (v := (-2)) hx hb dX10_wetter_12 (by decide) ?_
  exact W.iret (v := (-2)) hx hb hr (fun t ht hW => ⟨(-2), rfl, rfl, ht⟩) (fun _ h => absurd h List.not_mem_nil) dX10_wetter_14
set_option maxHeartbeats 4000000 in
set_option maxRecDepth 100000 in
theorem c_X10_told (l : Launch) (G : KG) (x0 : Nat) (tp : Nat) (rd : Nat) (nw : Nat) (sp : Nat) (im : Nat) (ir : Nat) (kp : Nat) (sl : Nat) (tk : Nat) (hn : Nat) (rc : Nat) (jn : Nat) (br : Nat) (sh : Nat) (nw_slopes : Nat) (nw_wets : Nat) (nw_limits : Nat) (nw_platforms : Nat) (nw_kinds : Nat) (nw_trains : Nat) (nw_coaches : Nat) (nw_platforms_c : Nat) (nw_kinds_c : Nat) (nw_trains_c : Nat) (nw_coaches_c : Nat) (p0 : Int32) (p1 : Int32) (p2 : Int32) (p3 : Int32) : Met l yX10_told wgX10_told ({ frames := 2, cells := 0, slots := 0, locals := 44 }) (preS G [.ref x0, .int p0, .int p1, .int p2, .int p3] [(x0, .inr (10, [.ref tp, .int 0, .ref rd, .ref nw, .ref sp, .ref im, .ref ir, .ref kp, .ref sl, .ref tk, .ref hn, .ref rc, .ref jn, .ref br, .ref sh])), (nw, .inr (3, [.int 0, .int 0, .ref nw_slopes, .ref nw_wets, .ref nw_limits, .ref nw_platforms, .ref nw_kinds, .ref nw_trains, .ref nw_coaches])), (nw_platforms, .inr (6, [.int 6, .int 2, .ref nw_platforms_c, .int 0])), (nw_kinds, .inr (6, [.int 4, .int 5, .ref nw_kinds_c, .int 0])), (nw_trains, .inr (6, [.int 5, .int 3, .ref nw_trains_c, .int 0])), (nw_coaches, .inr (6, [.int 16, .int 5, .ref nw_coaches_c, .int 0]))]) (vp_Si (fun (r : Int32) => (r = (-2)))) 0 0 (fun _ => False) := by
  refine Met.ofW (cc := cX10_told) (maxL := 10) (ret := (some .int)) (by decide) rfl ?_
  intro p e s m args below meth c s₁ B hml hv
  obtain ⟨rfl, hP, hKG⟩ := hv
  obtain ⟨hK, hAO⟩ := id hKG
  have hx := B.exec
  have hb := B.bytes
  have hr := B.returns
  have hts := atoms_spec (ws := wgX10_told) B.pre
  have hw : ∀ w ∈ wG, w.before _ s = true := fun w h => hts w (List.mem_cons_of_mem _ h)
  have hown : s.vm.findClass RX10 = some m.cls := findClass_of_methodNamed B.named
  have hlocks := B.notSynchronized
  have hl := lv_entry ([.ref x0, .int p0, .int p1, .int p2, .int p3]) (n := 10) (Nat.le_of_ble_eq_true rfl)
  rw [lg_entry_eq]
  generalize (lg_sl ([.ref x0, .int p0, .int p1, .int p2, .int p3]) ++ List.replicate (10 - (lg_sl ([.ref x0, .int p0, .int p1, .int p2, .int p3])).length) Slot.unset).toArray = ls at hl ⊢
  have hl : lv_has ls 10 [(0, .ref x0), (1, .int p0), (2, .int p1), (3, .int p2), (4, .int p3)] := hl
  refine lv_iload_n hx hb dX10_told_0 rfl (lv_at hl 1 rfl) ?_
  refine lv_iconst (v := 0) hx hb dX10_told_1 (by decide) ?_
  refine lv_iconst (v := 3) hx hb dX10_told_2 (by decide) ?_
  refine vp_callSi (va_Run.run (va_runS (As := [.int p0, .int 0, .int 3]) (rest := []) ⟨hx, hb, hml, hown, hw⟩ (c_isAmong l G p0 0 3) (va_cwS 3 hw (gdT kw_38 kw_39 kw_8 kw_37) rfl rfl rfl hdX10_isAmong ⟨(Nat.le_of_ble_eq_true rfl), (Nat.le_of_ble_eq_true rfl)⟩) (preS_S (wc := []) hKG hP [] rfl) rfl rfl hl.1 rfl (lv_room (Nat.le_of_ble_eq_true rfl)) dX10_told_3 ⟨(Nat.le_of_ble_eq_true rfl), (Nat.le_of_ble_eq_true rfl)⟩)) (fun r1 hr1 => ?_)
  rcases hr1 with ⟨rfl, c2, c3⟩ | ⟨rfl, c4⟩ | ⟨rfl, c5⟩
  · refine lv_if_eq (tgt := 20) hx hb dX10_told_6 (by decide) (fun c6 => absurd c6 (by decide)) (fun c6 => ?_)
    refine lv_aload_n hx hb dX10_told_9 rfl (lv_at hl 0 rfl) ?_
    refine lv_iload_n hx hb dX10_told_10 rfl (lv_at hl 2 rfl) ?_
    refine lv_iload_n hx hb dX10_told_11 rfl (lv_at hl 3 rfl) ?_
    refine lv_iload hx hb dX10_told_12 (lv_at hl 4 rfl) ?_
    refine vp_callSi (va_Run.run (va_runV (As := [.int p1, .int p2, .int p3]) (rest := []) ⟨hx, hb, hml, hown, hw⟩ (c_X10_hasRun l G x0 tp rd nw sp im ir kp sl tk hn rc jn br sh nw_slopes nw_wets nw_limits nw_platforms nw_kinds nw_trains nw_coaches nw_platforms_c nw_kinds_c nw_trains_c nw_coaches_c p1 p2 p3) (cwV 3 hw (gdV kw_16 kw_17 kw_18 kw_8 kw_15) rfl rfl rfl ⟨rfl, hdX10_hasRun⟩ ⟨(Nat.le_of_ble_eq_true rfl), (Nat.le_of_ble_eq_true rfl)⟩) (preS_V (wc := [(x0, .inr (10, [.ref tp, .int 0, .ref rd, .ref nw, .ref sp, .ref im, .ref ir, .ref kp, .ref sl, .ref tk, .ref hn, .ref rc, .ref jn, .ref br, .ref sh])), (nw, .inr (3, [.int 0, .int 0, .ref nw_slopes, .ref nw_wets, .ref nw_limits, .ref nw_platforms, .ref nw_kinds, .ref nw_trains, .ref nw_coaches])), (nw_platforms, .inr (6, [.int 6, .int 2, .ref nw_platforms_c, .int 0])), (nw_kinds, .inr (6, [.int 4, .int 5, .ref nw_kinds_c, .int 0])), (nw_trains, .inr (6, [.int 5, .int 3, .ref nw_trains_c, .int 0])), (nw_coaches, .inr (6, [.int 16, .int 5, .ref nw_coaches_c, .int 0]))]) (ci := 10) hKG hP [0, 1, 2, 3, 4, 5] rfl rfl rfl) rfl rfl hl.1 rfl (lv_room (Nat.le_of_ble_eq_true rfl)) dX10_told_14 ⟨(Nat.le_of_ble_eq_true rfl), (Nat.le_of_ble_eq_true rfl)⟩)) (fun r7 hr7 => ?_)
    subst hr7
    refine lv_if_ne (tgt := 23) hx hb dX10_told_17 (by decide) (fun c8 => absurd (by decide) c8) (fun c8 => ?_)
    refine lv_bipush (v := (-2)) hx hb dX10_told_20 (by decide) ?_
    exact W.iret (v := (-2)) hx hb hr (fun t ht hW => ⟨(-2), rfl, rfl, ht⟩) (fun _ h => absurd h List.not_mem_nil) dX10_told_22
  · refine lv_if_eq (tgt := 20) hx hb dX10_told_6 (by decide) (fun c9 => ?_) (fun c9 => absurd (by decide) c9)
    refine lv_bipush (v := (-2)) hx hb dX10_told_20 (by decide) ?_
    exact W.iret (v := (-2)) hx hb hr (fun t ht hW => ⟨(-2), rfl, rfl, ht⟩) (fun _ h => absurd h List.not_mem_nil) dX10_told_22
  · refine lv_if_eq (tgt := 20) hx hb dX10_told_6 (by decide) (fun c10 => ?_) (fun c10 => absurd (by decide) c10)
    refine lv_bipush (v := (-2)) hx hb dX10_told_20 (by decide) ?_
    exact W.iret (v := (-2)) hx hb hr (fun t ht hW => ⟨(-2), rfl, rfl, ht⟩) (fun _ h => absurd h List.not_mem_nil) dX10_told_22
set_option maxHeartbeats 4000000 in
set_option maxRecDepth 100000 in
theorem c_X10_judge (l : Launch) (G : KG) (x0 : Nat) (tp : Nat) (rd : Nat) (nw : Nat) (sp : Nat) (im : Nat) (ir : Nat) (kp : Nat) (sl : Nat) (tk : Nat) (hn : Nat) (rc : Nat) (jn : Nat) (br : Nat) (sh : Nat) (nw_slopes : Nat) (nw_wets : Nat) (nw_limits : Nat) (nw_platforms : Nat) (nw_kinds : Nat) (nw_trains : Nat) (nw_coaches : Nat) (nw_platforms_c : Nat) (nw_kinds_c : Nat) (nw_trains_c : Nat) (nw_coaches_c : Nat) (p0 : Int32) (p1 : Int32) (p2 : Int32) (p3 : Int32) (p4 : Int32) : Met l yX10_judge wgX10_judge ({ frames := 4, cells := 0, slots := 0, locals := 93 }) (preS G [.ref x0, .int p0, .int p1, .int p2, .int p3, .int p4] [(x0, .inr (10, [.ref tp, .int 0, .ref rd, .ref nw, .ref sp, .ref im, .ref ir, .ref kp, .ref sl, .ref tk, .ref hn, .ref rc, .ref jn, .ref br, .ref sh])), (nw, .inr (3, [.int 0, .int 0, .ref nw_slopes, .ref nw_wets, .ref nw_limits, .ref nw_platforms, .ref nw_kinds, .ref nw_trains, .ref nw_coaches])), (nw_platforms, .inr (6, [.int 6, .int 2, .ref nw_platforms_c, .int 0])), (nw_kinds, .inr (6, [.int 4, .int 5, .ref nw_kinds_c, .int 0])), (nw_trains, .inr (6, [.int 5, .int 3, .ref nw_trains_c, .int 0])), (nw_coaches, .inr (6, [.int 16, .int 5, .ref nw_coaches_c, .int 0]))]) (vp_Si (fun (r : Int32) => (r = (-2)))) 0 0 (fun _ => False) := by
  refine Met.ofW (cc := cX10_judge) (maxL := 11) (ret := (some .int)) (by decide) rfl ?_
  intro p e s m args below meth c s₁ B hml hv
  obtain ⟨rfl, hP, hKG⟩ := hv
  obtain ⟨hK, hAO⟩ := id hKG
  have hx := B.exec
  have hb := B.bytes
  have hr := B.returns
  have hts := atoms_spec (ws := wgX10_judge) B.pre
  have hw : ∀ w ∈ wG, w.before _ s = true := fun w h => hts w (List.mem_cons_of_mem _ h)
  have hown : s.vm.findClass RX10 = some m.cls := findClass_of_methodNamed B.named
  have hlocks := B.notSynchronized
  have hl := lv_entry ([.ref x0, .int p0, .int p1, .int p2, .int p3, .int p4]) (n := 11) (Nat.le_of_ble_eq_true rfl)
  rw [lg_entry_eq]
  generalize (lg_sl ([.ref x0, .int p0, .int p1, .int p2, .int p3, .int p4]) ++ List.replicate (11 - (lg_sl ([.ref x0, .int p0, .int p1, .int p2, .int p3, .int p4])).length) Slot.unset).toArray = ls at hl ⊢
  have hl : lv_has ls 11 [(0, .ref x0), (1, .int p0), (2, .int p1), (3, .int p2), (4, .int p3), (5, .int p4)] := hl
  refine lv_iload_n hx hb dX10_judge_0 rfl (lv_at hl 1 rfl) ?_
  refine lv_iconst (v := 0) hx hb dX10_judge_1 (by decide) ?_
  refine lv_iconst (v := 3) hx hb dX10_judge_2 (by decide) ?_
  refine vp_callSi (va_Run.run (va_runS (As := [.int p0, .int 0, .int 3]) (rest := []) ⟨hx, hb, hml, hown, hw⟩ (c_isAmong l G p0 0 3) (va_cwS 3 hw (gdT kw_38 kw_39 kw_8 kw_37) rfl rfl rfl hdX10_isAmong ⟨(Nat.le_of_ble_eq_true rfl), (Nat.le_of_ble_eq_true rfl)⟩) (preS_S (wc := []) hKG hP [] rfl) rfl rfl hl.1 rfl (lv_room (Nat.le_of_ble_eq_true rfl)) dX10_judge_3 ⟨(Nat.le_of_ble_eq_true rfl), (Nat.le_of_ble_eq_true rfl)⟩)) (fun r1 hr1 => ?_)
  rcases hr1 with ⟨rfl, c2, c3⟩ | ⟨rfl, c4⟩ | ⟨rfl, c5⟩
  · refine lv_if_eq (tgt := 22) hx hb dX10_judge_6 (by decide) (fun c6 => absurd c6 (by decide)) (fun c6 => ?_)
    refine lv_aload_n hx hb dX10_judge_9 rfl (lv_at hl 0 rfl) ?_
    refine lv_iload_n hx hb dX10_judge_10 rfl (lv_at hl 2 rfl) ?_
    refine lv_iload_n hx hb dX10_judge_11 rfl (lv_at hl 3 rfl) ?_
    refine lv_iload hx hb dX10_judge_12 (lv_at hl 4 rfl) ?_
    refine lv_iload hx hb dX10_judge_14 (lv_at hl 5 rfl) ?_
    refine vp_callSi (va_Run.run (va_runV (As := [.int p1, .int p2, .int p3, .int p4]) (rest := []) ⟨hx, hb, hml, hown, hw⟩ (c_X10_takesAim l G x0 tp rd nw sp im ir kp sl tk hn rc jn br sh nw_slopes nw_wets nw_limits nw_platforms nw_kinds nw_trains nw_coaches nw_platforms_c nw_kinds_c nw_trains_c nw_coaches_c p1 p2 p3 p4) (cwV 4 hw (gdV kw_30 kw_31 kw_32 kw_8 kw_29) rfl rfl rfl ⟨rfl, hdX10_takesAim⟩ ⟨(Nat.le_of_ble_eq_true rfl), (Nat.le_of_ble_eq_true rfl)⟩) (preS_V (wc := [(x0, .inr (10, [.ref tp, .int 0, .ref rd, .ref nw, .ref sp, .ref im, .ref ir, .ref kp, .ref sl, .ref tk, .ref hn, .ref rc, .ref jn, .ref br, .ref sh])), (nw, .inr (3, [.int 0, .int 0, .ref nw_slopes, .ref nw_wets, .ref nw_limits, .ref nw_platforms, .ref nw_kinds, .ref nw_trains, .ref nw_coaches])), (nw_platforms, .inr (6, [.int 6, .int 2, .ref nw_platforms_c, .int 0])), (nw_kinds, .inr (6, [.int 4, .int 5, .ref nw_kinds_c, .int 0])), (nw_trains, .inr (6, [.int 5, .int 3, .ref nw_trains_c, .int 0])), (nw_coaches, .inr (6, [.int 16, .int 5, .ref nw_coaches_c, .int 0]))]) (ci := 10) hKG hP [0, 1, 2, 3, 4, 5] rfl rfl rfl) rfl rfl hl.1 rfl (lv_room (Nat.le_of_ble_eq_true rfl)) dX10_judge_16 ⟨(Nat.le_of_ble_eq_true rfl), (Nat.le_of_ble_eq_true rfl)⟩)) (fun r7 hr7 => ?_)
    subst hr7
    refine lv_if_ne (tgt := 25) hx hb dX10_judge_19 (by decide) (fun c8 => absurd (by decide) c8) (fun c8 => ?_)
    refine lv_bipush (v := (-2)) hx hb dX10_judge_22 (by decide) ?_
    exact W.iret (v := (-2)) hx hb hr (fun t ht hW => ⟨(-2), rfl, rfl, ht⟩) (fun _ h => absurd h List.not_mem_nil) dX10_judge_24
  · refine lv_if_eq (tgt := 22) hx hb dX10_judge_6 (by decide) (fun c9 => ?_) (fun c9 => absurd (by decide) c9)
    refine lv_bipush (v := (-2)) hx hb dX10_judge_22 (by decide) ?_
    exact W.iret (v := (-2)) hx hb hr (fun t ht hW => ⟨(-2), rfl, rfl, ht⟩) (fun _ h => absurd h List.not_mem_nil) dX10_judge_24
  · refine lv_if_eq (tgt := 22) hx hb dX10_judge_6 (by decide) (fun c10 => ?_) (fun c10 => absurd (by decide) c10)
    refine lv_bipush (v := (-2)) hx hb dX10_judge_22 (by decide) ?_
    exact W.iret (v := (-2)) hx hb hr (fun t ht hW => ⟨(-2), rfl, rfl, ht⟩) (fun _ h => absurd h List.not_mem_nil) dX10_judge_24
set_option maxHeartbeats 4000000 in
set_option maxRecDepth 100000 in
theorem c_X10_pulls (l : Launch) (G : KG) (x0 : Nat) (tp : Nat) (rd : Nat) (nw : Nat) (sp : Nat) (im : Nat) (ir : Nat) (kp : Nat) (sl : Nat) (tk : Nat) (hn : Nat) (rc : Nat) (jn : Nat) (br : Nat) (sh : Nat) (nw_slopes : Nat) (nw_wets : Nat) (nw_limits : Nat) (nw_platforms : Nat) (nw_kinds : Nat) (nw_trains : Nat) (nw_coaches : Nat) (nw_platforms_c : Nat) (nw_kinds_c : Nat) (nw_trains_c : Nat) (nw_coaches_c : Nat) (p0 : Int32) (p1 : Int32) (p2 : Int32) : Met l yX10_pulls wgX10_pulls ({ frames := 1, cells := 0, slots := 0, locals := 21 }) (preS G [.ref x0, .int p0, .int p1, .int p2] [(x0, .inr (10, [.ref tp, .int 0, .ref rd, .ref nw, .ref sp, .ref im, .ref ir, .ref kp, .ref sl, .ref tk, .ref hn, .ref rc, .ref jn, .ref br, .ref sh])), (nw, .inr (3, [.int 0, .int 0, .ref nw_slopes, .ref nw_wets, .ref nw_limits, .ref nw_platforms, .ref nw_kinds, .ref nw_trains, .ref nw_coaches])), (nw_platforms, .inr (6, [.int 6, .int 2, .ref nw_platforms_c, .int 0])), (nw_kinds, .inr (6, [.int 4, .int 5, .ref nw_kinds_c, .int 0])), (nw_trains, .inr (6, [.int 5, .int 3, .ref nw_trains_c, .int 0])), (nw_coaches, .inr (6, [.int 16, .int 5, .ref nw_coaches_c, .int 0]))]) (vp_Si (fun (r : Int32) => (r = (-2)))) 0 0 (fun _ => False) := by
  refine Met.ofW (cc := cX10_pulls) (maxL := 4) (ret := (some .int)) (by decide) rfl ?_
  intro p e s m args below meth c s₁ B hml hv
  obtain ⟨rfl, hP, hKG⟩ := hv
  obtain ⟨hK, hAO⟩ := id hKG
  have hx := B.exec
  have hb := B.bytes
  have hr := B.returns
  have hts := atoms_spec (ws := wgX10_pulls) B.pre
  have hw : ∀ w ∈ wG, w.before _ s = true := fun w h => hts w (List.mem_cons_of_mem _ h)
  have hown : s.vm.findClass RX10 = some m.cls := findClass_of_methodNamed B.named
  have hlocks := B.notSynchronized
  have hl := lv_entry ([.ref x0, .int p0, .int p1, .int p2]) (n := 4) (Nat.le_of_ble_eq_true rfl)
  rw [lg_entry_eq]
  generalize (lg_sl ([.ref x0, .int p0, .int p1, .int p2]) ++ List.replicate (4 - (lg_sl ([.ref x0, .int p0, .int p1, .int p2])).length) Slot.unset).toArray = ls at hl ⊢
  have hl : lv_has ls 4 [(0, .ref x0), (1, .int p0), (2, .int p1), (3, .int p2)] := hl
  refine lv_aload_n hx hb dX10_pulls_0 rfl (lv_at hl 0 rfl) ?_
  refine va_get (D := G.1) (ci := 10) (v := .ref nw) (C := RX10) (T := TX10) (N := 15) hx hb hw inGX10 hown hK hP 0 rfl rfl 3 (by decide) (hw _ kw_2) (fun _ h9 => h9) rfl dX10_pulls_1 ?_
  refine va_get (D := G.1) (ci := 3) (v := .ref nw_trains) (C := RX3) (T := TX3) (N := 9) hx hb hw inGX3 hown hK hP 1 rfl rfl 7 (by decide) (hw _ kw_28) (fun _ h9 => h9) rfl dX10_pulls_4 ?_
  refine lv_iload_n hx hb dX10_pulls_7 rfl (lv_at hl 1 rfl) ?_
  refine vp_callSi (va_Run.run (va_runV (As := [.int p0]) (rest := []) ⟨hx, hb, hml, hown, hw⟩ (c_has0 l G nw_trains 5 3 nw_trains_c p0) (cwV 1 hw (gdV kw_11 kw_12 kw_13 kw_14 kw_10) rfl rfl rfl ⟨rfl, hdX6_has⟩ ⟨(Nat.le_of_ble_eq_true rfl), (Nat.le_of_ble_eq_true rfl)⟩) (preS_V (wc := [(nw_trains, .inr (6, [.int 5, .int 3, .ref nw_trains_c, .int 0]))]) (ci := 6) hKG hP [4] rfl rfl rfl) rfl rfl hl.1 rfl (lv_room (Nat.le_of_ble_eq_true rfl)) dX10_pulls_8 ⟨(Nat.le_of_ble_eq_true rfl), (Nat.le_of_ble_eq_true rfl)⟩)) (fun r1 hr1 => ?_)
  subst hr1
  refine lv_if_eq (tgt := 32) hx hb dX10_pulls_11 (by decide) (fun c2 => ?_) (fun c2 => absurd (by decide) c2)
  refine lv_bipush (v := (-2)) hx hb dX10_pulls_32 (by decide) ?_
  exact W.iret (v := (-2)) hx hb hr (fun t ht hW => ⟨(-2), rfl, rfl, ht⟩) (fun _ h => absurd h List.not_mem_nil) dX10_pulls_34
set_option maxHeartbeats 4000000 in
set_option maxRecDepth 100000 in
theorem c_X10_passes (l : Launch) (G : KG) (x0 : Nat) (tp : Nat) (rd : Nat) (nw : Nat) (sp : Nat) (im : Nat) (ir : Nat) (kp : Nat) (sl : Nat) (tk : Nat) (hn : Nat) (rc : Nat) (jn : Nat) (br : Nat) (sh : Nat) (nw_slopes : Nat) (nw_wets : Nat) (nw_limits : Nat) (nw_platforms : Nat) (nw_kinds : Nat) (nw_trains : Nat) (nw_coaches : Nat) (nw_platforms_c : Nat) (nw_kinds_c : Nat) (nw_trains_c : Nat) (nw_coaches_c : Nat) (p0 : Int32) (p1 : Int32) : Met l yX10_passes wgX10_passes ({ frames := 1, cells := 0, slots := 0, locals := 21 }) (preS G [.ref x0, .int p0, .int p1] [(x0, .inr (10, [.ref tp, .int 0, .ref rd, .ref nw, .ref sp, .ref im, .ref ir, .ref kp, .ref sl, .ref tk, .ref hn, .ref rc, .ref jn, .ref br, .ref sh])), (nw, .inr (3, [.int 0, .int 0, .ref nw_slopes, .ref nw_wets, .ref nw_limits, .ref nw_platforms, .ref nw_kinds, .ref nw_trains, .ref nw_coaches])), (nw_platforms, .inr (6, [.int 6, .int 2, .ref nw_platforms_c, .int 0])), (nw_kinds, .inr (6, [.int 4, .int 5, .ref nw_kinds_c, .int 0])), (nw_trains, .inr (6, [.int 5, .int 3, .ref nw_trains_c, .int 0])), (nw_coaches, .inr (6, [.int 16, .int 5, .ref nw_coaches_c, .int 0]))]) (vp_Si (fun (r : Int32) => (r = (-2)))) 0 0 (fun _ => False) := by
  refine Met.ofW (cc := cX10_passes) (maxL := 3) (ret := (some .int)) (by decide) rfl ?_
  intro p e s m args below meth c s₁ B hml hv
  obtain ⟨rfl, hP, hKG⟩ := hv
  obtain ⟨hK, hAO⟩ := id hKG
  have hx := B.exec
  have hb := B.bytes
  have hr := B.returns
  have hts := atoms_spec (ws := wgX10_passes) B.pre
  have hw : ∀ w ∈ wG, w.before _ s = true := fun w h => hts w (List.mem_cons_of_mem _ h)
  have hown : s.vm.findClass RX10 = some m.cls := findClass_of_methodNamed B.named
  have hlocks := B.notSynchronized
  have hl := lv_entry ([.ref x0, .int p0, .int p1]) (n := 3) (Nat.le_of_ble_eq_true rfl)
  rw [lg_entry_eq]
  generalize (lg_sl ([.ref x0, .int p0, .int p1]) ++ List.replicate (3 - (lg_sl ([.ref x0, .int p0, .int p1])).length) Slot.unset).toArray = ls at hl ⊢
  have hl : lv_has ls 3 [(0, .ref x0), (1, .int p0), (2, .int p1)] := hl
  refine lv_aload_n hx hb dX10_passes_0 rfl (lv_at hl 0 rfl) ?_
  refine va_get (D := G.1) (ci := 10) (v := .ref nw) (C := RX10) (T := TX10) (N := 15) hx hb hw inGX10 hown hK hP 0 rfl rfl 3 (by decide) (hw _ kw_2) (fun _ h9 => h9) rfl dX10_passes_1 ?_
  refine va_get (D := G.1) (ci := 3) (v := .ref nw_trains) (C := RX3) (T := TX3) (N := 9) hx hb hw inGX3 hown hK hP 1 rfl rfl 7 (by decide) (hw _ kw_28) (fun _ h9 => h9) rfl dX10_passes_4 ?_
  refine lv_iload_n hx hb dX10_passes_7 rfl (lv_at hl 1 rfl) ?_
  refine vp_callSi (va_Run.run (va_runV (As := [.int p0]) (rest := []) ⟨hx, hb, hml, hown, hw⟩ (c_has0 l G nw_trains 5 3 nw_trains_c p0) (cwV 1 hw (gdV kw_11 kw_12 kw_13 kw_14 kw_10) rfl rfl rfl ⟨rfl, hdX6_has⟩ ⟨(Nat.le_of_ble_eq_true rfl), (Nat.le_of_ble_eq_true rfl)⟩) (preS_V (wc := [(nw_trains, .inr (6, [.int 5, .int 3, .ref nw_trains_c, .int 0]))]) (ci := 6) hKG hP [4] rfl rfl rfl) rfl rfl hl.1 rfl (lv_room (Nat.le_of_ble_eq_true rfl)) dX10_passes_8 ⟨(Nat.le_of_ble_eq_true rfl), (Nat.le_of_ble_eq_true rfl)⟩)) (fun r1 hr1 => ?_)
  subst hr1
  refine lv_if_eq (tgt := 22) hx hb dX10_passes_11 (by decide) (fun c2 => ?_) (fun c2 => absurd (by decide) c2)
  refine lv_bipush (v := (-2)) hx hb dX10_passes_22 (by decide) ?_
  exact W.iret (v := (-2)) hx hb hr (fun t ht hW => ⟨(-2), rfl, rfl, ht⟩) (fun _ h => absurd h List.not_mem_nil) dX10_passes_24
