set_option maxHeartbeats 4000000 in
set_option maxRecDepth 100000 in
theorem c_newSlot (l : Launch) (G : KG) (h0 : Nat) (sz : Nat) : Met l yX8_init wsX8_init ({ frames := 1, cells := 1, slots := 60, locals := 20 }) (preQ G [.ref h0] sz [(h0, .inr (8, [.null, .int 0, .int 0]))]) (va_Qv (fun (u : Nat) => True) (fun u t => atQ G (va_A [(h0, .inr (8, [.null, .int 0, .int 0]))] sz) [(h0, .inr (8, [.ref u, .int (-1), .int 0])), (u, .inl (G.2 3, 60, .inr (.inl (fun _ => 0))))] t) (va_A [(h0, .inr (8, [.null, .int 0, .int 0]))] sz)) 1 60 (va_A [(h0, .inr (8, [.null, .int 0, .int 0]))] sz) := by
  refine Met.ofW (cc := cX8_init) (maxL := 1) (ret := none) (by decide) rfl ?_
  intro p e s m args below meth c s₁ B hml hv
  obtain ⟨rfl, hsz, hP, hKG, hD0⟩ := hv
  obtain ⟨hK, hAO⟩ := id hKG
  have hx := B.exec
  have hb := B.bytes
  have hr := B.returns
  have hts := atoms_spec (ws := wsX8_init) B.pre
  have hown : s.vm.findClass RX8 = some m.cls := findClass_of_methodNamed B.named
  have hlocks := B.notSynchronized
  have hin : meth.name = "<init>" := (name_of_methodNamed B.named B.method).1
  subst hsz
  have hD := hD0.self (sz := s.heap.size)
  generalize hAe : va_A [(h0, .inr (8, [.null, .int 0, .int 0]))] s.heap.size = A at hD ⊢
  have hA : ∀ q : Nat, s.heap.size ≤ q → A q := fun q h => by rw [← hAe]; exact Or.inr h
  have hS : va_S A s.heap s.heap [] := va_S.rf
  have hl := lv_entry ([.ref h0]) (n := 1) (Nat.le_of_ble_eq_true rfl)
  rw [lg_entry_eq]
  generalize (lg_sl ([.ref h0]) ++ List.replicate (1 - (lg_sl ([.ref h0])).length) Slot.unset).toArray = ls at hl ⊢
  have hl : lv_has ls 1 [(0, .ref h0)] := hl
  refine lv_aload_n hx hb dX8_init_0 rfl (lv_at hl 0 rfl) ?_
  refine W.objInit hx hb hown (hts (.methodLink RX8 3 objectInit) (by decide +kernel)) (hts (.instanceMethod objectInit) (by decide +kernel)) (hts _ (List.mem_of_getElem? (i := 3) rfl)) rfl (by rw [hml]; exact hl.1) rfl dX8_init_1 (Nat.le_of_ble_eq_true rfl) (Nat.le_of_ble_eq_true rfl) ?_
  refine W.eq (g2 := F0 m 4 ls []) rfl ?_
  refine lv_aload_n hx hb dX8_init_4 rfl (lv_at hl 0 rfl) ?_
  refine lv_bipush (v := 60) hx hb dX8_init_5 (by decide) ?_
  refine wn_newa (atype := .long) (ty := .long) (n := 60) (N' := 60) (a0 := (60, .inr (.inl (fun _ => 0)))) hx hb (hts (.arrayClass .long) (by decide +kernel)) rfl hK 3 rfl hP hD hS hA (fun _ => rfl) (by decide) (by decide) (by decide) (Nat.le_of_ble_eq_true rfl) (Nat.le_of_ble_eq_true rfl) dX8_init_7 (fun q1 H hP hD hS => ?_)
  have hP : va_P G.1 vwCl [(h0, .inr (8, [.null, .int 0, .int 0])), (q1, .inl (G.2 3, 60, .inr (.inl (fun _ => 0))))] H := hP
  have hD : va_D A [(h0, .inr (8, [.null, .int 0, .int 0])), (q1, .inl (G.2 3, 60, .inr (.inl (fun _ => 0))))] := hD
  refine W.widen (k := 1) (n := 60) (Nat.le_of_ble_eq_true rfl) (Nat.le_of_ble_eq_true rfl) ?_
  refine va_putF (D := G.1) (ci := 8) (v := .ref q1) (ty := (.array .long)) (C := RX8) (T := TX8) (N := 3) hx hb hts (fun w h => List.mem_cons_of_mem _ (List.mem_append_right _ h)) tyX8 tyX8_ok nmX8 hown hK hP hD hS 0 rfl rfl 0 (by decide) (hts (.fieldLink RX8 11 "SlipCoach$Slot" "numbers" "[J") (by decide +kernel)) (fun _ h9 => h9) rfl hin rfl (by decide +kernel) rfl rfl (Nat.le_of_ble_eq_true rfl) dX8_init_9 (fun H locs hP hD hS => ?_)
  have hP : va_P G.1 vwCl [(h0, .inr (8, [.ref q1, .int 0, .int 0])), (q1, .inl (G.2 3, 60, .inr (.inl (fun _ => 0))))] H := hP
  have hD : va_D A [(h0, .inr (8, [.ref q1, .int 0, .int 0])), (q1, .inl (G.2 3, 60, .inr (.inl (fun _ => 0))))] := hD
  refine lv_aload_n hx hb dX8_init_12 rfl (lv_at hl 0 rfl) ?_
  refine lv_iconst (v := (-1)) hx hb dX8_init_13 (by decide) ?_
  refine va_put (D := G.1) (ci := 8) (v := .int (-1)) (ty := .int) (C := RX8) (T := TX8) (N := 3) hx hb hts (fun w h => List.mem_cons_of_mem _ (List.mem_append_right _ h)) tyX8 tyX8_ok nmX8 hown hK hP hD hS 0 rfl rfl 1 (by decide) (hts (.fieldLink RX8 15 "SlipCoach$Slot" "width" "I") (by decide +kernel)) (fun _ h9 => h9) rfl (by decide +kernel) rfl rfl (Nat.le_of_ble_eq_true rfl) dX8_init_14 (fun H locs hP hD hS => ?_)
  have hP : va_P G.1 vwCl [(h0, .inr (8, [.ref q1, .int (-1), .int 0])), (q1, .inl (G.2 3, 60, .inr (.inl (fun _ => 0))))] H := hP
  have hD : va_D A [(h0, .inr (8, [.ref q1, .int (-1), .int 0])), (q1, .inl (G.2 3, 60, .inr (.inl (fun _ => 0))))] := hD
  refine lv_aload_n hx hb dX8_init_17 rfl (lv_at hl 0 rfl) ?_
  refine lv_iconst (v := 0) hx hb dX8_init_18 (by decide) ?_
  refine va_put (D := G.1) (ci := 8) (v := .int 0) (ty := .int) (C := RX8) (T := TX8) (N := 3) hx hb hts (fun w h => List.mem_cons_of_mem _ (List.mem_append_right _ h)) tyX8 tyX8_ok nmX8 hown hK hP hD hS 0 rfl rfl 2 (by decide) (hts (.fieldLink RX8 19 "SlipCoach$Slot" "size" "I") (by decide +kernel)) (fun _ h9 => h9) rfl (by decide +kernel) rfl rfl (Nat.le_of_ble_eq_true rfl) dX8_init_19 (fun H locs hP hD hS => ?_)
  have hP : va_P G.1 vwCl [(h0, .inr (8, [.ref q1, .int (-1), .int 0])), (q1, .inl (G.2 3, 60, .inr (.inl (fun _ => 0))))] H := hP
  have hD : va_D A [(h0, .inr (8, [.ref q1, .int (-1), .int 0])), (q1, .inl (G.2 3, 60, .inr (.inl (fun _ => 0))))] := hD
  refine W.widen (k := 1) (n := 60) (Nat.le_of_ble_eq_true rfl) (Nat.le_of_ble_eq_true rfl) ?_
  exact W.vret hx hb hr (fun t ht hW => ⟨⟨q1, rfl, trivial, ⟨by rw [ht]; exact hP.sub [0, 1] rfl, hD.sub [0, 1] (by decide +kernel) rfl⟩⟩, hS.F ht⟩) hS.2.2 dX8_init_22
set_option maxHeartbeats 4000000 in
set_option maxRecDepth 100000 in
theorem c_newReader (l : Launch) (G : KG) (rd : Nat) (sz : Nat) : Met l yX5_init wsX5_init ({ frames := 1, cells := 1, slots := 0, locals := 20 }) (preQ G [.ref rd] sz [(rd, .inr (5, [.null, .int 0, .int 0, .int 0, .int 0, .int 0, .int 0, .int 0]))]) (va_Qv (fun (u : Nat) => True) (fun u t => atQ G (va_A [(rd, .inr (5, [.null, .int 0, .int 0, .int 0, .int 0, .int 0, .int 0, .int 0]))] sz) [(rd, .inr (5, [.ref u, .int 0, .int 0, .int 0, .int 0, .int 0, .int 0, .int (-1)]))] t) (va_A [(rd, .inr (5, [.null, .int 0, .int 0, .int 0, .int 0, .int 0, .int 0, .int 0]))] sz)) 1 0 (va_A [(rd, .inr (5, [.null, .int 0, .int 0, .int 0, .int 0, .int 0, .int 0, .int 0]))] sz) := by
  refine Met.ofW (cc := cX5_init) (maxL := 1) (ret := none) (by decide) rfl ?_
  intro p e s m args below meth c s₁ B hml hv
  obtain ⟨rfl, hsz, hP, hKG, hD0⟩ := hv
  obtain ⟨hK, hAO⟩ := id hKG
  have hx := B.exec
  have hb := B.bytes
  have hr := B.returns
  have hts := atoms_spec (ws := wsX5_init) B.pre
  have hown : s.vm.findClass RX5 = some m.cls := findClass_of_methodNamed B.named
  have hlocks := B.notSynchronized
  have hin : meth.name = "<init>" := (name_of_methodNamed B.named B.method).1
  subst hsz
  have hD := hD0.self (sz := s.heap.size)
  generalize hAe : va_A [(rd, .inr (5, [.null, .int 0, .int 0, .int 0, .int 0, .int 0, .int 0, .int 0]))] s.heap.size = A at hD ⊢
  have hA : ∀ q : Nat, s.heap.size ≤ q → A q := fun q h => by rw [← hAe]; exact Or.inr h
  have hS : va_S A s.heap s.heap [] := va_S.rf
  have hl := lv_entry ([.ref rd]) (n := 1) (Nat.le_of_ble_eq_true rfl)
  rw [lg_entry_eq]
  generalize (lg_sl ([.ref rd]) ++ List.replicate (1 - (lg_sl ([.ref rd])).length) Slot.unset).toArray = ls at hl ⊢
  have hl : lv_has ls 1 [(0, .ref rd)] := hl
  refine lv_aload_n hx hb dX5_init_0 rfl (lv_at hl 0 rfl) ?_
  refine W.objInit hx hb hown (hts (.methodLink RX5 3 objectInit) (by decide +kernel)) (hts (.instanceMethod objectInit) (by decide +kernel)) (hts _ (List.mem_of_getElem? (i := 3) rfl)) rfl (by rw [hml]; exact hl.1) rfl dX5_init_1 (Nat.le_of_ble_eq_true rfl) (Nat.le_of_ble_eq_true rfl) ?_
  refine W.eq (g2 := F0 m 4 ls []) rfl ?_
  refine lv_aload_n hx hb dX5_init_4 rfl (lv_at hl 0 rfl) ?_
  refine lv_iconst (v := 0) hx hb dX5_init_5 (by decide) ?_
  refine wn_newa (atype := .byte) (ty := .byte) (n := 0) (N' := 0) (a0 := (0, .inl (fun _ => 0))) hx hb (hts (.arrayClass .byte) (by decide +kernel)) rfl hK 1 rfl hP hD hS hA (fun _ => rfl) (by decide) (by decide) (by decide) (Nat.le_of_ble_eq_true rfl) (Nat.le_of_ble_eq_true rfl) dX5_init_6 (fun q1 H hP hD hS => ?_)
  have hP : va_P G.1 vwCl [(rd, .inr (5, [.null, .int 0, .int 0, .int 0, .int 0, .int 0, .int 0, .int 0])), (q1, .inl (G.2 1, 0, .inl (fun _ => 0)))] H := hP
  have hD : va_D A [(rd, .inr (5, [.null, .int 0, .int 0, .int 0, .int 0, .int 0, .int 0, .int 0])), (q1, .inl (G.2 1, 0, .inl (fun _ => 0)))] := hD
  refine W.widen (k := 1) (n := 0) (Nat.le_of_ble_eq_true rfl) (Nat.le_of_ble_eq_true rfl) ?_
  refine va_put (D := G.1) (ci := 5) (v := .ref q1) (ty := (.array .byte)) (C := RX5) (T := TX5) (N := 8) hx hb hts (fun w h => List.mem_cons_of_mem _ (List.mem_append_right _ h)) tyX5 tyX5_ok nmX5 hown hK hP hD hS 0 rfl rfl 0 (by decide) (hts (.fieldLink RX5 9 "SlipCoach$Reader" "text" "[B") (by decide +kernel)) (fun _ h9 => h9) rfl (by decide +kernel) rfl rfl (Nat.le_of_ble_eq_true rfl) dX5_init_8 (fun H locs hP hD hS => ?_)
  have hP : va_P G.1 vwCl [(rd, .inr (5, [.ref q1, .int 0, .int 0, .int 0, .int 0, .int 0, .int 0, .int 0])), (q1, .inl (G.2 1, 0, .inl (fun _ => 0)))] H := hP
  have hD : va_D A [(rd, .inr (5, [.ref q1, .int 0, .int 0, .int 0, .int 0, .int 0, .int 0, .int 0])), (q1, .inl (G.2 1, 0, .inl (fun _ => 0)))] := hD
  refine lv_aload_n hx hb dX5_init_11 rfl (lv_at hl 0 rfl) ?_
  refine lv_iconst (v := 0) hx hb dX5_init_12 (by decide) ?_
  refine va_put (D := G.1) (ci := 5) (v := .int 0) (ty := .int) (C := RX5) (T := TX5) (N := 8) hx hb hts (fun w h => List.mem_cons_of_mem _ (List.mem_append_right _ h)) tyX5 tyX5_ok nmX5 hown hK hP hD hS 0 rfl rfl 1 (by decide) (hts (.fieldLink RX5 15 "SlipCoach$Reader" "size" "I") (by decide +kernel)) (fun _ h9 => h9) rfl (by decide +kernel) rfl rfl (Nat.le_of_ble_eq_true rfl) dX5_init_13 (fun H locs hP hD hS => ?_)
  have hP : va_P G.1 vwCl [(rd, .inr (5, [.ref q1, .int 0, .int 0, .int 0, .int 0, .int 0, .int 0, .int 0])), (q1, .inl (G.2 1, 0, .inl (fun _ => 0)))] H := hP
  have hD : va_D A [(rd, .inr (5, [.ref q1, .int 0, .int 0, .int 0, .int 0, .int 0, .int 0, .int 0])), (q1, .inl (G.2 1, 0, .inl (fun _ => 0)))] := hD
  refine lv_aload_n hx hb dX5_init_16 rfl (lv_at hl 0 rfl) ?_
  refine lv_iconst (v := 0) hx hb dX5_init_17 (by decide) ?_
  refine va_put (D := G.1) (ci := 5) (v := .int 0) (ty := .int) (C := RX5) (T := TX5) (N := 8) hx hb hts (fun w h => List.mem_cons_of_mem _ (List.mem_append_right _ h)) tyX5 tyX5_ok nmX5 hown hK hP hD hS 0 rfl rfl 2 (by decide) (hts (.fieldLink RX5 19 "SlipCoach$Reader" "from" "I") (by decide +kernel)) (fun _ h9 => h9) rfl (by decide +kernel) rfl rfl (Nat.le_of_ble_eq_true rfl) dX5_init_18 (fun H locs hP hD hS => ?_)
  have hP : va_P G.1 vwCl [(rd, .inr (5, [.ref q1, .int 0, .int 0, .int 0, .int 0, .int 0, .int 0, .int 0])), (q1, .inl (G.2 1, 0, .inl (fun _ => 0)))] H := hP
  have hD : va_D A [(rd, .inr (5, [.ref q1, .int 0, .int 0, .int 0, .int 0, .int 0, .int 0, .int 0])), (q1, .inl (G.2 1, 0, .inl (fun _ => 0)))] := hD
  refine lv_aload_n hx hb dX5_init_21 rfl (lv_at hl 0 rfl) ?_
  refine lv_iconst (v := 0) hx hb dX5_init_22 (by decide) ?_
  refine va_put (D := G.1) (ci := 5) (v := .int 0) (ty := .int) (C := RX5) (T := TX5) (N := 8) hx hb hts (fun w h => List.mem_cons_of_mem _ (List.mem_append_right _ h)) tyX5 tyX5_ok nmX5 hown hK hP hD hS 0 rfl rfl 3 (by decide) (hts (.fieldLink RX5 22 "SlipCoach$Reader" "behind" "I") (by decide +kernel)) (fun _ h9 => h9) rfl (by decide +kernel) rfl rfl (Nat.le_of_ble_eq_true rfl) dX5_init_23 (fun H locs hP hD hS => ?_)
  have hP : va_P G.1 vwCl [(rd, .inr (5, [.ref q1, .int 0, .int 0, .int 0, .int 0, .int 0, .int 0, .int 0])), (q1, .inl (G.2 1, 0, .inl (fun _ => 0)))] H := hP
  have hD : va_D A [(rd, .inr (5, [.ref q1, .int 0, .int 0, .int 0, .int 0, .int 0, .int 0, .int 0])), (q1, .inl (G.2 1, 0, .inl (fun _ => 0)))] := hD
  refine lv_aload_n hx hb dX5_init_26 rfl (lv_at hl 0 rfl) ?_
  refine lv_iconst (v := 0) hx hb dX5_init_27 (by decide) ?_
  refine va_put (D := G.1) (ci := 5) (v := .int 0) (ty := .int) (C := RX5) (T := TX5) (N := 8) hx hb hts (fun w h => List.mem_cons_of_mem _ (List.mem_append_right _ h)) tyX5 tyX5_ok nmX5 hown hK hP hD hS 0 rfl rfl 4 (by decide) (hts (.fieldLink RX5 25 "SlipCoach$Reader" "sort" "I") (by decide +kernel)) (fun _ h9 => h9) rfl (by decide +kernel) rfl rfl (Nat.le_of_ble_eq_true rfl) dX5_init_28 (fun H locs hP hD hS => ?_)
  have hP : va_P G.1 vwCl [(rd, .inr (5, [.ref q1, .int 0, .int 0, .int 0, .int 0, .int 0, .int 0, .int 0])), (q1, .inl (G.2 1, 0, .inl (fun _ => 0)))] H := hP
  have hD : va_D A [(rd, .inr (5, [.ref q1, .int 0, .int 0, .int 0, .int 0, .int 0, .int 0, .int 0])), (q1, .inl (G.2 1, 0, .inl (fun _ => 0)))] := hD
  refine lv_aload_n hx hb dX5_init_31 rfl (lv_at hl 0 rfl) ?_
  refine lv_iconst (v := 0) hx hb dX5_init_32 (by decide) ?_
  refine va_put (D := G.1) (ci := 5) (v := .int 0) (ty := .int) (C := RX5) (T := TX5) (N := 8) hx hb hts (fun w h => List.mem_cons_of_mem _ (List.mem_append_right _ h)) tyX5 tyX5_ok nmX5 hown hK hP hD hS 0 rfl rfl 5 (by decide) (hts (.fieldLink RX5 28 "SlipCoach$Reader" "value" "I") (by decide +kernel)) (fun _ h9 => h9) rfl (by decide +kernel) rfl rfl (Nat.le_of_ble_eq_true rfl) dX5_init_33 (fun H locs hP hD hS => ?_)
  have hP : va_P G.1 vwCl [(rd, .inr (5, [.ref q1, .int 0, .int 0, .int 0, .int 0, .int 0, .int 0, .int 0])), (q1, .inl (G.2 1, 0, .inl (fun _ => 0)))] H := hP
  have hD : va_D A [(rd, .inr (5, [.ref q1, .int 0, .int 0, .int 0, .int 0, .int 0, .int 0, .int 0])), (q1, .inl (G.2 1, 0, .inl (fun _ => 0)))] := hD
  refine lv_aload_n hx hb dX5_init_36 rfl (lv_at hl 0 rfl) ?_
  refine lv_iconst (v := 0) hx hb dX5_init_37 (by decide) ?_
  refine va_put (D := G.1) (ci := 5) (v := .int 0) (ty := .int) (C := RX5) (T := TX5) (N := 8) hx hb hts (fun w h => List.mem_cons_of_mem _ (List.mem_append_right _ h)) tyX5 tyX5_ok nmX5 hown hK hP hD hS 0 rfl rfl 6 (by decide) (hts (.fieldLink RX5 31 "SlipCoach$Reader" "fault" "I") (by decide +kernel)) (fun _ h9 => h9) rfl (by decide +kernel) rfl rfl (Nat.le_of_ble_eq_true rfl) dX5_init_38 (fun H locs hP hD hS => ?_)
  have hP : va_P G.1 vwCl [(rd, .inr (5, [.ref q1, .int 0, .int 0, .int 0, .int 0, .int 0, .int 0, .int 0])), (q1, .inl (G.2 1, 0, .inl (fun _ => 0)))] H := hP
  have hD : va_D A [(rd, .inr (5, [.ref q1, .int 0, .int 0, .int 0, .int 0, .int 0, .int 0, .int 0])), (q1, .inl (G.2 1, 0, .inl (fun _ => 0)))] := hD
  refine lv_aload_n hx hb dX5_init_41 rfl (lv_at hl 0 rfl) ?_
  refine lv_iconst (v := (-1)) hx hb dX5_init_42 (by decide) ?_
  refine va_put (D := G.1) (ci := 5) (v := .int (-1)) (ty := .int) (C := RX5) (T := TX5) (N := 8) hx hb hts (fun w h => List.mem_cons_of_mem _ (List.mem_append_right _ h)) tyX5 tyX5_ok nmX5 hown hK hP hD hS 0 rfl rfl 7 (by decide) (hts (.fieldLink RX5 34 "SlipCoach$Reader" "place" "I") (by decide +kernel)) (fun _ h9 => h9) rfl (by decide +kernel) rfl rfl (Nat.le_of_ble_eq_true rfl) dX5_init_43 (fun H locs hP hD hS => ?_)
  have hP : va_P G.1 vwCl [(rd, .inr (5, [.ref q1, .int 0, .int 0, .int 0, .int 0, .int 0, .int 0, .int (-1)])), (q1, .inl (G.2 1, 0, .inl (fun _ => 0)))] H := hP
  have hD : va_D A [(rd, .inr (5, [.ref q1, .int 0, .int 0, .int 0, .int 0, .int 0, .int 0, .int (-1)])), (q1, .inl (G.2 1, 0, .inl (fun _ => 0)))] := hD
  refine W.widen (k := 1) (n := 0) (Nat.le_of_ble_eq_true rfl) (Nat.le_of_ble_eq_true rfl) ?_
  exact W.vret hx hb hr (fun t ht hW => ⟨⟨q1, rfl, trivial, ⟨by rw [ht]; exact hP.sub [0] rfl, hD.sub [0] (by decide +kernel) rfl⟩⟩, hS.F ht⟩) hS.2.2 dX5_init_46
set_option maxHeartbeats 4000000 in
set_option maxRecDepth 100000 in
theorem c_newTrack (l : Launch) (G : KG) (tk : Nat) (sz : Nat) : Met l yX9_init wsX9_init ({ frames := 1, cells := 4, slots := 7619, locals := 20 }) (preQ G [.ref tk] sz [(tk, .inr (9, [.null, .null, .null, .null, .null, .int 0]))]) (va_Qv (fun (u : Nat × Nat × Nat × Nat) => True) (fun u t => atQ G (va_A [(tk, .inr (9, [.null, .null, .null, .null, .null, .int 0]))] sz) [(tk, .inr (9, [.ref u.1, .ref u.2.1, .ref u.2.2.1, .ref u.2.2.2, .null, .int 0])), (u.1, .inl (G.2 0, 401, .inl (fun _ => 0))), (u.2.1, .inl (G.2 0, 401, .inl (fun _ => 0))), (u.2.2.1, .inl (G.2 0, 401, .inl (fun _ => 0)))] t) (va_A [(tk, .inr (9, [.null, .null, .null, .null, .null, .int 0]))] sz)) 4 7619 (va_A [(tk, .inr (9, [.null, .null, .null, .null, .null, .int 0]))] sz) := by
  refine Met.ofW (cc := cX9_init) (maxL := 1) (ret := none) (by decide) rfl ?_
  intro p e s m args below meth c s₁ B hml hv
  obtain ⟨rfl, hsz, hP, hKG, hD0⟩ := hv
  obtain ⟨hK, hAO⟩ := id hKG
  have hx := B.exec
  have hb := B.bytes
  have hr := B.returns
  have hts := atoms_spec (ws := wsX9_init) B.pre
  have hown : s.vm.findClass RX9 = some m.cls := findClass_of_methodNamed B.named
  have hlocks := B.notSynchronized
  have hin : meth.name = "<init>" := (name_of_methodNamed B.named B.method).1
  subst hsz
  have hD := hD0.self (sz := s.heap.size)
  generalize hAe : va_A [(tk, .inr (9, [.null, .null, .null, .null, .null, .int 0]))] s.heap.size = A at hD ⊢
  have hA : ∀ q : Nat, s.heap.size ≤ q → A q := fun q h => by rw [← hAe]; exact Or.inr h
  have hS : va_S A s.heap s.heap [] := va_S.rf
  have hl := lv_entry ([.ref tk]) (n := 1) (Nat.le_of_ble_eq_true rfl)
  rw [lg_entry_eq]
  generalize (lg_sl ([.ref tk]) ++ List.replicate (1 - (lg_sl ([.ref tk])).length) Slot.unset).toArray = ls at hl ⊢
  have hl : lv_has ls 1 [(0, .ref tk)] := hl
  refine lv_aload_n hx hb dX9_init_0 rfl (lv_at hl 0 rfl) ?_
  refine W.objInit hx hb hown (hts (.methodLink RX9 3 objectInit) (by decide +kernel)) (hts (.instanceMethod objectInit) (by decide +kernel)) (hts _ (List.mem_of_getElem? (i := 3) rfl)) rfl (by rw [hml]; exact hl.1) rfl dX9_init_1 (Nat.le_of_ble_eq_true rfl) (Nat.le_of_ble_eq_true rfl) ?_
  refine W.eq (g2 := F0 m 4 ls []) rfl ?_
  refine lv_aload_n hx hb dX9_init_4 rfl (lv_at hl 0 rfl) ?_
  refine lv_sipush (v := 401) hx hb dX9_init_5 (by decide) ?_
  refine wn_newa (atype := .int) (ty := .int) (n := 401) (N' := 401) (a0 := (401, .inl (fun _ => 0))) hx hb (hts (.arrayClass .int) (by decide +kernel)) rfl hK 0 rfl hP hD hS hA (fun _ => rfl) (by decide) (by decide) (by decide) (Nat.le_of_ble_eq_true rfl) (Nat.le_of_ble_eq_true rfl) dX9_init_8 (fun q1 H hP hD hS => ?_)
  have hP : va_P G.1 vwCl [(tk, .inr (9, [.null, .null, .null, .null, .null, .int 0])), (q1, .inl (G.2 0, 401, .inl (fun _ => 0)))] H := hP
  have hD : va_D A [(tk, .inr (9, [.null, .null, .null, .null, .null, .int 0])), (q1, .inl (G.2 0, 401, .inl (fun _ => 0)))] := hD
  refine W.widen (k := 1) (n := 401) (Nat.le_of_ble_eq_true rfl) (Nat.le_of_ble_eq_true rfl) ?_
  refine va_putF (D := G.1) (ci := 9) (v := .ref q1) (ty := (.array .int)) (C := RX9) (T := TX9) (N := 6) hx hb hts (fun w h => List.mem_cons_of_mem _ (List.mem_append_right _ h)) tyX9 tyX9_ok nmX9 hown hK hP hD hS 0 rfl rfl 0 (by decide) (hts (.fieldLink RX9 9 "SlipCoach$Track" "slopes" "[I") (by decide +kernel)) (fun _ h9 => h9) rfl hin rfl (by decide +kernel) rfl rfl (Nat.le_of_ble_eq_true rfl) dX9_init_10 (fun H locs hP hD hS => ?_)
  have hP : va_P G.1 vwCl [(tk, .inr (9, [.ref q1, .null, .null, .null, .null, .int 0])), (q1, .inl (G.2 0, 401, .inl (fun _ => 0)))] H := hP
  have hD : va_D A [(tk, .inr (9, [.ref q1, .null, .null, .null, .null, .int 0])), (q1, .inl (G.2 0, 401, .inl (fun _ => 0)))] := hD
  refine lv_aload_n hx hb dX9_init_13 rfl (lv_at hl 0 rfl) ?_
  refine lv_sipush (v := 401) hx hb dX9_init_14 (by decide) ?_
  refine wn_newa (atype := .int) (ty := .int) (n := 401) (N' := 401) (a0 := (401, .inl (fun _ => 0))) hx hb (hts (.arrayClass .int) (by decide +kernel)) rfl hK 0 rfl hP hD hS hA (fun _ => rfl) (by decide) (by decide) (by decide) (Nat.le_of_ble_eq_true rfl) (Nat.le_of_ble_eq_true rfl) dX9_init_17 (fun q2 H hP hD hS => ?_)
  have hP : va_P G.1 vwCl [(tk, .inr (9, [.ref q1, .null, .null, .null, .null, .int 0])), (q1, .inl (G.2 0, 401, .inl (fun _ => 0))), (q2, .inl (G.2 0, 401, .inl (fun _ => 0)))] H := hP
  have hD : va_D A [(tk, .inr (9, [.ref q1, .null, .null, .null, .null, .int 0])), (q1, .inl (G.2 0, 401, .inl (fun _ => 0))), (q2, .inl (G.2 0, 401, .inl (fun _ => 0)))] := hD
  refine W.widen (k := 2) (n := 802) (Nat.le_of_ble_eq_true rfl) (Nat.le_of_ble_eq_true rfl) ?_
  refine va_putF (D := G.1) (ci := 9) (v := .ref q2) (ty := (.array .int)) (C := RX9) (T := TX9) (N := 6) hx hb hts (fun w h => List.mem_cons_of_mem _ (List.mem_append_right _ h)) tyX9 tyX9_ok nmX9 hown hK hP hD hS 0 rfl rfl 1 (by decide) (hts (.fieldLink RX9 15 "SlipCoach$Track" "wets" "[I") (by decide +kernel)) (fun _ h9 => h9) rfl hin rfl (by decide +kernel) rfl rfl (Nat.le_of_ble_eq_true rfl) dX9_init_19 (fun H locs hP hD hS => ?_)
  have hP : va_P G.1 vwCl [(tk, .inr (9, [.ref q1, .ref q2, .null, .null, .null, .int 0])), (q1, .inl (G.2 0, 401, .inl (fun _ => 0))), (q2, .inl (G.2 0, 401, .inl (fun _ => 0)))] H := hP
  have hD : va_D A [(tk, .inr (9, [.ref q1, .ref q2, .null, .null, .null, .int 0])), (q1, .inl (G.2 0, 401, .inl (fun _ => 0))), (q2, .inl (G.2 0, 401, .inl (fun _ => 0)))] := hD
  refine lv_aload_n hx hb dX9_init_22 rfl (lv_at hl 0 rfl) ?_
  refine lv_sipush (v := 401) hx hb dX9_init_23 (by decide) ?_
  refine wn_newa (atype := .int) (ty := .int) (n := 401) (N' := 401) (a0 := (401, .inl (fun _ => 0))) hx hb (hts (.arrayClass .int) (by decide +kernel)) rfl hK 0 rfl hP hD hS hA (fun _ => rfl) (by decide) (by decide) (by decide) (Nat.le_of_ble_eq_true rfl) (Nat.le_of_ble_eq_true rfl) dX9_init_26 (fun q3 H hP hD hS => ?_)
  have hP : va_P G.1 vwCl [(tk, .inr (9, [.ref q1, .ref q2, .null, .null, .null, .int 0])), (q1, .inl (G.2 0, 401, .inl (fun _ => 0))), (q2, .inl (G.2 0, 401, .inl (fun _ => 0))), (q3, .inl (G.2 0, 401, .inl (fun _ => 0)))] H := hP
  have hD : va_D A [(tk, .inr (9, [.ref q1, .ref q2, .null, .null, .null, .int 0])), (q1, .inl (G.2 0, 401, .inl (fun _ => 0))), (q2, .inl (G.2 0, 401, .inl (fun _ => 0))), (q3, .inl (G.2 0, 401, .inl (fun _ => 0)))] := hD
  refine W.widen (k := 3) (n := 1203) (Nat.le_of_ble_eq_true rfl) (Nat.le_of_ble_eq_true rfl) ?_
  refine va_putF (D := G.1) (ci := 9) (v := .ref q3) (ty := (.array .int)) (C := RX9) (T := TX9) (N := 6) hx hb hts (fun w h => List.mem_cons_of_mem _ (List.mem_append_right _ h)) tyX9 tyX9_ok nmX9 hown hK hP hD hS 0 rfl rfl 2 (by decide) (hts (.fieldLink RX9 18 "SlipCoach$Track" "limits" "[I") (by decide +kernel)) (fun _ h9 => h9) rfl hin rfl (by decide +kernel) rfl rfl (Nat.le_of_ble_eq_true rfl) dX9_init_28 (fun H locs hP hD hS => ?_)
  have hP : va_P G.1 vwCl [(tk, .inr (9, [.ref q1, .ref q2, .ref q3, .null, .null, .int 0])), (q1, .inl (G.2 0, 401, .inl (fun _ => 0))), (q2, .inl (G.2 0, 401, .inl (fun _ => 0))), (q3, .inl (G.2 0, 401, .inl (fun _ => 0)))] H := hP
  have hD : va_D A [(tk, .inr (9, [.ref q1, .ref q2, .ref q3, .null, .null, .int 0])), (q1, .inl (G.2 0, 401, .inl (fun _ => 0))), (q2, .inl (G.2 0, 401, .inl (fun _ => 0))), (q3, .inl (G.2 0, 401, .inl (fun _ => 0)))] := hD
  refine lv_aload_n hx hb dX9_init_31 rfl (lv_at hl 0 rfl) ?_
  refine lv_sipush (v := 6416) hx hb dX9_init_32 (by decide) ?_
  refine wn_newa (atype := .int) (ty := .int) (n := 6416) (N' := 6416) (a0 := (6416, .inl (fun _ => 0))) hx hb (hts (.arrayClass .int) (by decide +kernel)) rfl hK 0 rfl hP hD hS hA (fun _ => rfl) (by decide) (by decide) (by decide) (Nat.le_of_ble_eq_true rfl) (Nat.le_of_ble_eq_true rfl) dX9_init_35 (fun q4 H hP hD hS => ?_)
  have hP : va_P G.1 vwCl [(tk, .inr (9, [.ref q1, .ref q2, .ref q3, .null, .null, .int 0])), (q1, .inl (G.2 0, 401, .inl (fun _ => 0))), (q2, .inl (G.2 0, 401, .inl (fun _ => 0))), (q3, .inl (G.2 0, 401, .inl (fun _ => 0))), (q4, .inl (G.2 0, 6416, .inl (fun _ => 0)))] H := hP
  have hD : va_D A [(tk, .inr (9, [.ref q1, .ref q2, .ref q3, .null, .null, .int 0])), (q1, .inl (G.2 0, 401, .inl (fun _ => 0))), (q2, .inl (G.2 0, 401, .inl (fun _ => 0))), (q3, .inl (G.2 0, 401, .inl (fun _ => 0))), (q4, .inl (G.2 0, 6416, .inl (fun _ => 0)))] := hD
  refine W.widen (k := 4) (n := 7619) (Nat.le_of_ble_eq_true rfl) (Nat.le_of_ble_eq_true rfl) ?_
  refine va_putF (D := G.1) (ci := 9) (v := .ref q4) (ty := (.array .int)) (C := RX9) (T := TX9) (N := 6) hx hb hts (fun w h => List.mem_cons_of_mem _ (List.mem_append_right _ h)) tyX9 tyX9_ok nmX9 hown hK hP hD hS 0 rfl rfl 3 (by decide) (hts (.fieldLink RX9 21 "SlipCoach$Track" "takes" "[I") (by decide +kernel)) (fun _ h9 => h9) rfl hin rfl (by decide +kernel) rfl rfl (Nat.le_of_ble_eq_true rfl) dX9_init_37 (fun H locs hP hD hS => ?_)
  have hP : va_P G.1 vwCl [(tk, .inr (9, [.ref q1, .ref q2, .ref q3, .ref q4, .null, .int 0])), (q1, .inl (G.2 0, 401, .inl (fun _ => 0))), (q2, .inl (G.2 0, 401, .inl (fun _ => 0))), (q3, .inl (G.2 0, 401, .inl (fun _ => 0))), (q4, .inl (G.2 0, 6416, .inl (fun _ => 0)))] H := hP
  have hD : va_D A [(tk, .inr (9, [.ref q1, .ref q2, .ref q3, .ref q4, .null, .int 0])), (q1, .inl (G.2 0, 401, .inl (fun _ => 0))), (q2, .inl (G.2 0, 401, .inl (fun _ => 0))), (q3, .inl (G.2 0, 401, .inl (fun _ => 0))), (q4, .inl (G.2 0, 6416, .inl (fun _ => 0)))] := hD
  refine lv_aload_n hx hb dX9_init_40 rfl (lv_at hl 0 rfl) ?_
  refine lv_null hx hb dX9_init_41 ?_
  refine va_put (D := G.1) (ci := 9) (v := .null) (ty := (.object "SlipCoach$Line")) (C := RX9) (T := TX9) (N := 6) hx hb hts (fun w h => List.mem_cons_of_mem _ (List.mem_append_right _ h)) tyX9 tyX9_ok nmX9 hown hK hP hD hS 0 rfl rfl 4 (by decide) (hts (.fieldLink RX9 24 "SlipCoach$Track" "line" "LSlipCoach$Line;") (by decide +kernel)) (fun _ h9 => h9) rfl (by decide +kernel) rfl rfl (Nat.le_of_ble_eq_true rfl) dX9_init_42 (fun H locs hP hD hS => ?_)
  have hP : va_P G.1 vwCl [(tk, .inr (9, [.ref q1, .ref q2, .ref q3, .ref q4, .null, .int 0])), (q1, .inl (G.2 0, 401, .inl (fun _ => 0))), (q2, .inl (G.2 0, 401, .inl (fun _ => 0))), (q3, .inl (G.2 0, 401, .inl (fun _ => 0))), (q4, .inl (G.2 0, 6416, .inl (fun _ => 0)))] H := hP
  have hD : va_D A [(tk, .inr (9, [.ref q1, .ref q2, .ref q3, .ref q4, .null, .int 0])), (q1, .inl (G.2 0, 401, .inl (fun _ => 0))), (q2, .inl (G.2 0, 401, .inl (fun _ => 0))), (q3, .inl (G.2 0, 401, .inl (fun _ => 0))), (q4, .inl (G.2 0, 6416, .inl (fun _ => 0)))] := hD
  refine lv_aload_n hx hb dX9_init_45 rfl (lv_at hl 0 rfl) ?_
  refine lv_iconst (v := 0) hx hb dX9_init_46 (by decide) ?_
  refine va_put (D := G.1) (ci := 9) (v := .int 0) (ty := .int) (C := RX9) (T := TX9) (N := 6) hx hb hts (fun w h => List.mem_cons_of_mem _ (List.mem_append_right _ h)) tyX9 tyX9_ok nmX9 hown hK hP hD hS 0 rfl rfl 5 (by decide) (hts (.fieldLink RX9 28 "SlipCoach$Track" "rain" "I") (by decide +kernel)) (fun _ h9 => h9) rfl (by decide +kernel) rfl rfl (Nat.le_of_ble_eq_true rfl) dX9_init_47 (fun H locs hP hD hS => ?_)
  have hP : va_P G.1 vwCl [(tk, .inr (9, [.ref q1, .ref q2, .ref q3, .ref q4, .null, .int 0])), (q1, .inl (G.2 0, 401, .inl (fun _ => 0))), (q2, .inl (G.2 0, 401, .inl (fun _ => 0))), (q3, .inl (G.2 0, 401, .inl (fun _ => 0))), (q4, .inl (G.2 0, 6416, .inl (fun _ => 0)))] H := hP
  have hD : va_D A [(tk, .inr (9, [.ref q1, .ref q2, .ref q3, .ref q4, .null, .int 0])), (q1, .inl (G.2 0, 401, .inl (fun _ => 0))), (q2, .inl (G.2 0, 401, .inl (fun _ => 0))), (q3, .inl (G.2 0, 401, .inl (fun _ => 0))), (q4, .inl (G.2 0, 6416, .inl (fun _ => 0)))] := hD
  refine W.widen (k := 4) (n := 7619) (Nat.le_of_ble_eq_true rfl) (Nat.le_of_ble_eq_true rfl) ?_
  exact W.vret hx hb hr (fun t ht hW => ⟨⟨(q1, q2, q3, q4), rfl, trivial, ⟨by rw [ht]; exact hP.sub [0, 1, 2, 3] rfl, hD.sub [0, 1, 2, 3] (by decide +kernel) rfl⟩⟩, hS.F ht⟩) hS.2.2 dX9_init_50
set_option maxHeartbeats 4000000 in
set_option maxRecDepth 100000 in
theorem c_newHandlings (l : Launch) (G : KG) (hn : Nat) (tk : Nat) (sz : Nat) : Met l yX1_init wsX1_init ({ frames := 1, cells := 3, slots := 6464, locals := 20 }) (preQ G [.ref hn, .ref tk] sz [(hn, .inr (1, [.null, .null, .null, .null, .int 0, .int 0, .int 0]))]) (va_Qv (fun (u : Nat × Nat × Nat) => True) (fun u t => atQ G (va_A [(hn, .inr (1, [.null, .null, .null, .null, .int 0, .int 0, .int 0]))] sz) [(hn, .inr (1, [.ref tk, .ref u.1, .ref u.2.1, .ref u.2.2, .int 0, .int 0, .int (-1)])), (u.2.1, .inl (G.2 2, 24, .inl (fun _ => 0)))] t) (va_A [(hn, .inr (1, [.null, .null, .null, .null, .int 0, .int 0, .int 0]))] sz)) 3 6464 (va_A [(hn, .inr (1, [.null, .null, .null, .null, .int 0, .int 0, .int 0]))] sz) := by
  refine Met.ofW (cc := cX1_init) (maxL := 2) (ret := none) (by decide) rfl ?_
  intro p e s m args below meth c s₁ B hml hv
  obtain ⟨rfl, hsz, hP, hKG, hD0⟩ := hv
  obtain ⟨hK, hAO⟩ := id hKG
  have hx := B.exec
  have hb := B.bytes
  have hr := B.returns
  have hts := atoms_spec (ws := wsX1_init) B.pre
  have hown : s.vm.findClass RX1 = some m.cls := findClass_of_methodNamed B.named
  have hlocks := B.notSynchronized
  have hin : meth.name = "<init>" := (name_of_methodNamed B.named B.method).1
  subst hsz
  have hD := hD0.self (sz := s.heap.size)
  generalize hAe : va_A [(hn, .inr (1, [.null, .null, .null, .null, .int 0, .int 0, .int 0]))] s.heap.size = A at hD ⊢
  have hA : ∀ q : Nat, s.heap.size ≤ q → A q := fun q h => by rw [← hAe]; exact Or.inr h
  have hS : va_S A s.heap s.heap [] := va_S.rf
  have hl := lv_entry ([.ref hn, .ref tk]) (n := 2) (Nat.le_of_ble_eq_true rfl)
  rw [lg_entry_eq]
  generalize (lg_sl ([.ref hn, .ref tk]) ++ List.replicate (2 - (lg_sl ([.ref hn, .ref tk])).length) Slot.unset).toArray = ls at hl ⊢
  have hl : lv_has ls 2 [(0, .ref hn), (1, .ref tk)] := hl
  refine lv_aload_n hx hb dX1_init_0 rfl (lv_at hl 0 rfl) ?_
  refine W.objInit hx hb hown (hts (.methodLink RX1 3 objectInit) (by decide +kernel)) (hts (.instanceMethod objectInit) (by decide +kernel)) (hts _ (List.mem_of_getElem? (i := 3) rfl)) rfl (by rw [hml]; exact hl.1) rfl dX1_init_1 (Nat.le_of_ble_eq_true rfl) (Nat.le_of_ble_eq_true rfl) ?_
  refine W.eq (g2 := F0 m 4 ls []) rfl ?_
  refine lv_aload_n hx hb dX1_init_4 rfl (lv_at hl 0 rfl) ?_
  refine lv_bipush (v := 24) hx hb dX1_init_5 (by decide) ?_
  refine wn_newA (n := 24) (N' := 24) hx hb hown (hts (.classLink RX1 9 "[B") (by decide +kernel)) hAO.2.2.1 hP hD hS hA (by decide) (by decide) (by decide) (Nat.le_of_ble_eq_true rfl) (Nat.le_of_ble_eq_true rfl) dX1_init_7 (fun q1 H hP hD hS => ?_)
  have hP : va_P G.1 vwCl [(hn, .inr (1, [.null, .null, .null, .null, .int 0, .int 0, .int 0]))] H := hP
  have hD : va_D A [(hn, .inr (1, [.null, .null, .null, .null, .int 0, .int 0, .int 0]))] := hD
  refine W.widen (k := 1) (n := 24) (Nat.le_of_ble_eq_true rfl) (Nat.le_of_ble_eq_true rfl) ?_
  refine va_putF (D := G.1) (ci := 1) (v := .ref q1) (ty := (.array (.array .byte))) (C := RX1) (T := TX1) (N := 7) hx hb hts (fun w h => List.mem_cons_of_mem _ (List.mem_append_right _ h)) tyX1 tyX1_ok nmX1 hown hK hP hD hS 0 rfl rfl 1 (by decide) (hts (.fieldLink RX1 11 "SlipCoach$Handlings" "steps" "[[B") (by decide +kernel)) (fun _ h9 => h9) rfl hin rfl (by decide +kernel) rfl rfl (Nat.le_of_ble_eq_true rfl) dX1_init_10 (fun H locs hP hD hS => ?_)
  have hP : va_P G.1 vwCl [(hn, .inr (1, [.null, .ref q1, .null, .null, .int 0, .int 0, .int 0]))] H := hP
  have hD : va_D A [(hn, .inr (1, [.null, .ref q1, .null, .null, .int 0, .int 0, .int 0]))] := hD
  refine lv_aload_n hx hb dX1_init_13 rfl (lv_at hl 0 rfl) ?_
  refine lv_bipush (v := 24) hx hb dX1_init_14 (by decide) ?_
  refine wn_newa (atype := .boolean) (ty := .boolean) (n := 24) (N' := 24) (a0 := (24, .inl (fun _ => 0))) hx hb (hts (.arrayClass .boolean) (by decide +kernel)) rfl hK 2 rfl hP hD hS hA (fun _ => rfl) (by decide) (by decide) (by decide) (Nat.le_of_ble_eq_true rfl) (Nat.le_of_ble_eq_true rfl) dX1_init_16 (fun q2 H hP hD hS => ?_)
  have hP : va_P G.1 vwCl [(hn, .inr (1, [.null, .ref q1, .null, .null, .int 0, .int 0, .int 0])), (q2, .inl (G.2 2, 24, .inl (fun _ => 0)))] H := hP
  have hD : va_D A [(hn, .inr (1, [.null, .ref q1, .null, .null, .int 0, .int 0, .int 0])), (q2, .inl (G.2 2, 24, .inl (fun _ => 0)))] := hD
  refine W.widen (k := 2) (n := 48) (Nat.le_of_ble_eq_true rfl) (Nat.le_of_ble_eq_true rfl) ?_
  refine va_putF (D := G.1) (ci := 1) (v := .ref q2) (ty := (.array .boolean)) (C := RX1) (T := TX1) (N := 7) hx hb hts (fun w h => List.mem_cons_of_mem _ (List.mem_append_right _ h)) tyX1 tyX1_ok nmX1 hown hK hP hD hS 0 rfl rfl 2 (by decide) (hts (.fieldLink RX1 17 "SlipCoach$Handlings" "known" "[Z") (by decide +kernel)) (fun _ h9 => h9) rfl hin rfl (by decide +kernel) rfl rfl (Nat.le_of_ble_eq_true rfl) dX1_init_18 (fun H locs hP hD hS => ?_)
  have hP : va_P G.1 vwCl [(hn, .inr (1, [.null, .ref q1, .ref q2, .null, .int 0, .int 0, .int 0])), (q2, .inl (G.2 2, 24, .inl (fun _ => 0)))] H := hP
  have hD : va_D A [(hn, .inr (1, [.null, .ref q1, .ref q2, .null, .int 0, .int 0, .int 0])), (q2, .inl (G.2 2, 24, .inl (fun _ => 0)))] := hD
  refine lv_aload_n hx hb dX1_init_21 rfl (lv_at hl 0 rfl) ?_
  refine lv_sipush (v := 6416) hx hb dX1_init_22 (by decide) ?_
  refine wn_newa (atype := .int) (ty := .int) (n := 6416) (N' := 6416) (a0 := (6416, .inl (fun _ => 0))) hx hb (hts (.arrayClass .int) (by decide +kernel)) rfl hK 0 rfl hP hD hS hA (fun _ => rfl) (by decide) (by decide) (by decide) (Nat.le_of_ble_eq_true rfl) (Nat.le_of_ble_eq_true rfl) dX1_init_25 (fun q3 H hP hD hS => ?_)
  have hP : va_P G.1 vwCl [(hn, .inr (1, [.null, .ref q1, .ref q2, .null, .int 0, .int 0, .int 0])), (q2, .inl (G.2 2, 24, .inl (fun _ => 0))), (q3, .inl (G.2 0, 6416, .inl (fun _ => 0)))] H := hP
  have hD : va_D A [(hn, .inr (1, [.null, .ref q1, .ref q2, .null, .int 0, .int 0, .int 0])), (q2, .inl (G.2 2, 24, .inl (fun _ => 0))), (q3, .inl (G.2 0, 6416, .inl (fun _ => 0)))] := hD
  refine W.widen (k := 3) (n := 6464) (Nat.le_of_ble_eq_true rfl) (Nat.le_of_ble_eq_true rfl) ?_
  refine va_putF (D := G.1) (ci := 1) (v := .ref q3) (ty := (.array .int)) (C := RX1) (T := TX1) (N := 7) hx hb hts (fun w h => List.mem_cons_of_mem _ (List.mem_append_right _ h)) tyX1 tyX1_ok nmX1 hown hK hP hD hS 0 rfl rfl 3 (by decide) (hts (.fieldLink RX1 21 "SlipCoach$Handlings" "sums" "[I") (by decide +kernel)) (fun _ h9 => h9) rfl hin rfl (by decide +kernel) rfl rfl (Nat.le_of_ble_eq_true rfl) dX1_init_27 (fun H locs hP hD hS => ?_)
  have hP : va_P G.1 vwCl [(hn, .inr (1, [.null, .ref q1, .ref q2, .ref q3, .int 0, .int 0, .int 0])), (q2, .inl (G.2 2, 24, .inl (fun _ => 0))), (q3, .inl (G.2 0, 6416, .inl (fun _ => 0)))] H := hP
  have hD : va_D A [(hn, .inr (1, [.null, .ref q1, .ref q2, .ref q3, .int 0, .int 0, .int 0])), (q2, .inl (G.2 2, 24, .inl (fun _ => 0))), (q3, .inl (G.2 0, 6416, .inl (fun _ => 0)))] := hD
  refine lv_aload_n hx hb dX1_init_30 rfl (lv_at hl 0 rfl) ?_
  refine lv_iconst (v := 0) hx hb dX1_init_31 (by decide) ?_
  refine va_put (D := G.1) (ci := 1) (v := .int 0) (ty := .int) (C := RX1) (T := TX1) (N := 7) hx hb hts (fun w h => List.mem_cons_of_mem _ (List.mem_append_right _ h)) tyX1 tyX1_ok nmX1 hown hK hP hD hS 0 rfl rfl 4 (by decide) (hts (.fieldLink RX1 25 "SlipCoach$Handlings" "sum" "I") (by decide +kernel)) (fun _ h9 => h9) rfl (by decide +kernel) rfl rfl (Nat.le_of_ble_eq_true rfl) dX1_init_32 (fun H locs hP hD hS => ?_)
  have hP : va_P G.1 vwCl [(hn, .inr (1, [.null, .ref q1, .ref q2, .ref q3, .int 0, .int 0, .int 0])), (q2, .inl (G.2 2, 24, .inl (fun _ => 0))), (q3, .inl (G.2 0, 6416, .inl (fun _ => 0)))] H := hP
  have hD : va_D A [(hn, .inr (1, [.null, .ref q1, .ref q2, .ref q3, .int 0, .int 0, .int 0])), (q2, .inl (G.2 2, 24, .inl (fun _ => 0))), (q3, .inl (G.2 0, 6416, .inl (fun _ => 0)))] := hD
  refine lv_aload_n hx hb dX1_init_35 rfl (lv_at hl 0 rfl) ?_
  refine lv_iconst (v := 0) hx hb dX1_init_36 (by decide) ?_
  refine va_put (D := G.1) (ci := 1) (v := .int 0) (ty := .int) (C := RX1) (T := TX1) (N := 7) hx hb hts (fun w h => List.mem_cons_of_mem _ (List.mem_append_right _ h)) tyX1 tyX1_ok nmX1 hown hK hP hD hS 0 rfl rfl 5 (by decide) (hts (.fieldLink RX1 29 "SlipCoach$Handlings" "ticks" "I") (by decide +kernel)) (fun _ h9 => h9) rfl (by decide +kernel) rfl rfl (Nat.le_of_ble_eq_true rfl) dX1_init_37 (fun H locs hP hD hS => ?_)
  have hP : va_P G.1 vwCl [(hn, .inr (1, [.null, .ref q1, .ref q2, .ref q3, .int 0, .int 0, .int 0])), (q2, .inl (G.2 2, 24, .inl (fun _ => 0))), (q3, .inl (G.2 0, 6416, .inl (fun _ => 0)))] H := hP
  have hD : va_D A [(hn, .inr (1, [.null, .ref q1, .ref q2, .ref q3, .int 0, .int 0, .int 0])), (q2, .inl (G.2 2, 24, .inl (fun _ => 0))), (q3, .inl (G.2 0, 6416, .inl (fun _ => 0)))] := hD
  refine lv_aload_n hx hb dX1_init_40 rfl (lv_at hl 0 rfl) ?_
  refine lv_iconst (v := (-1)) hx hb dX1_init_41 (by decide) ?_
  refine va_put (D := G.1) (ci := 1) (v := .int (-1)) (ty := .int) (C := RX1) (T := TX1) (N := 7) hx hb hts (fun w h => List.mem_cons_of_mem _ (List.mem_append_right _ h)) tyX1 tyX1_ok nmX1 hown hK hP hD hS 0 rfl rfl 6 (by decide) (hts (.fieldLink RX1 32 "SlipCoach$Handlings" "where" "I") (by decide +kernel)) (fun _ h9 => h9) rfl (by decide +kernel) rfl rfl (Nat.le_of_ble_eq_true rfl) dX1_init_42 (fun H locs hP hD hS => ?_)
  have hP : va_P G.1 vwCl [(hn, .inr (1, [.null, .ref q1, .ref q2, .ref q3, .int 0, .int 0, .int (-1)])), (q2, .inl (G.2 2, 24, .inl (fun _ => 0))), (q3, .inl (G.2 0, 6416, .inl (fun _ => 0)))] H := hP
  have hD : va_D A [(hn, .inr (1, [.null, .ref q1, .ref q2, .ref q3, .int 0, .int 0, .int (-1)])), (q2, .inl (G.2 2, 24, .inl (fun _ => 0))), (q3, .inl (G.2 0, 6416, .inl (fun _ => 0)))] := hD
  refine lv_aload_n hx hb dX1_init_45 rfl (lv_at hl 0 rfl) ?_
  refine lv_aload_n hx hb dX1_init_46 rfl (lv_at hl 1 rfl) ?_
  refine va_putF (D := G.1) (ci := 1) (v := .ref tk) (ty := (.object "SlipCoach$Track")) (C := RX1) (T := TX1) (N := 7) hx hb hts (fun w h => List.mem_cons_of_mem _ (List.mem_append_right _ h)) tyX1 tyX1_ok nmX1 hown hK hP hD hS 0 rfl rfl 0 (by decide) (hts (.fieldLink RX1 35 "SlipCoach$Handlings" "track" "LSlipCoach$Track;") (by decide +kernel)) (fun _ h9 => h9) rfl hin rfl (by decide +kernel) rfl rfl (Nat.le_of_ble_eq_true rfl) dX1_init_47 (fun H locs hP hD hS => ?_)
  have hP : va_P G.1 vwCl [(hn, .inr (1, [.ref tk, .ref q1, .ref q2, .ref q3, .int 0, .int 0, .int (-1)])), (q2, .inl (G.2 2, 24, .inl (fun _ => 0))), (q3, .inl (G.2 0, 6416, .inl (fun _ => 0)))] H := hP
  have hD : va_D A [(hn, .inr (1, [.ref tk, .ref q1, .ref q2, .ref q3, .int 0, .int 0, .int (-1)])), (q2, .inl (G.2 2, 24, .inl (fun _ => 0))), (q3, .inl (G.2 0, 6416, .inl (fun _ => 0)))] := hD
  refine W.widen (k := 3) (n := 6464) (Nat.le_of_ble_eq_true rfl) (Nat.le_of_ble_eq_true rfl) ?_
  exact W.vret hx hb hr (fun t ht hW => ⟨⟨(q1, q2, q3), rfl, trivial, ⟨by rw [ht]; exact hP.sub [0, 1] rfl, hD.sub [0, 1] (by decide +kernel) rfl⟩⟩, hS.F ht⟩) hS.2.2 dX1_init_50
set_option maxHeartbeats 4000000 in
set_option maxRecDepth 100000 in
theorem c_newReach (l : Launch) (G : KG) (h0 : Nat) (sz : Nat) : Met l yX4_init wsX4_init ({ frames := 1, cells := 2, slots := 6817, locals := 20 }) (preQ G [.ref h0] sz [(h0, .inr (4, [.null, .null, .int 0]))]) (va_Qv (fun (u : Unit) => True) (fun u t => atQ G (va_A [(h0, .inr (4, [.null, .null, .int 0]))] sz) [] t) (va_A [(h0, .inr (4, [.null, .null, .int 0]))] sz)) 2 6817 (va_A [(h0, .inr (4, [.null, .null, .int 0]))] sz) := by
  refine Met.ofW (cc := cX4_init) (maxL := 1) (ret := none) (by decide) rfl ?_
  intro p e s m args below meth c s₁ B hml hv
  obtain ⟨rfl, hsz, hP, hKG, hD0⟩ := hv
  obtain ⟨hK, hAO⟩ := id hKG
  have hx := B.exec
  have hb := B.bytes
  have hr := B.returns
  have hts := atoms_spec (ws := wsX4_init) B.pre
  have hown : s.vm.findClass RX4 = some m.cls := findClass_of_methodNamed B.named
  have hlocks := B.notSynchronized
  have hin : meth.name = "<init>" := (name_of_methodNamed B.named B.method).1
  subst hsz
  have hD := hD0.self (sz := s.heap.size)
  generalize hAe : va_A [(h0, .inr (4, [.null, .null, .int 0]))] s.heap.size = A at hD ⊢
  have hA : ∀ q : Nat, s.heap.size ≤ q → A q := fun q h => by rw [← hAe]; exact Or.inr h
  have hS : va_S A s.heap s.heap [] := va_S.rf
  have hl := lv_entry ([.ref h0]) (n := 1) (Nat.le_of_ble_eq_true rfl)
  rw [lg_entry_eq]
  generalize (lg_sl ([.ref h0]) ++ List.replicate (1 - (lg_sl ([.ref h0])).length) Slot.unset).toArray = ls at hl ⊢
  have hl : lv_has ls 1 [(0, .ref h0)] := hl
  refine lv_aload_n hx hb dX4_init_0 rfl (lv_at hl 0 rfl) ?_
  refine W.objInit hx hb hown (hts (.methodLink RX4 3 objectInit) (by decide +kernel)) (hts (.instanceMethod objectInit) (by decide +kernel)) (hts _ (List.mem_of_getElem? (i := 3) rfl)) rfl (by rw [hml]; exact hl.1) rfl dX4_init_1 (Nat.le_of_ble_eq_true rfl) (Nat.le_of_ble_eq_true rfl) ?_
  refine W.eq (g2 := F0 m 4 ls []) rfl ?_
  refine lv_aload_n hx hb dX4_init_4 rfl (lv_at hl 0 rfl) ?_
  refine lv_sipush (v := 6416) hx hb dX4_init_5 (by decide) ?_
  refine wn_newa (atype := .int) (ty := .int) (n := 6416) (N' := 6416) (a0 := (6416, .inl (fun _ => 0))) hx hb (hts (.arrayClass .int) (by decide +kernel)) rfl hK 0 rfl hP hD hS hA (fun _ => rfl) (by decide) (by decide) (by decide) (Nat.le_of_ble_eq_true rfl) (Nat.le_of_ble_eq_true rfl) dX4_init_8 (fun q1 H hP hD hS => ?_)
  have hP : va_P G.1 vwCl [(h0, .inr (4, [.null, .null, .int 0])), (q1, .inl (G.2 0, 6416, .inl (fun _ => 0)))] H := hP
  have hD : va_D A [(h0, .inr (4, [.null, .null, .int 0])), (q1, .inl (G.2 0, 6416, .inl (fun _ => 0)))] := hD
  refine W.widen (k := 1) (n := 6416) (Nat.le_of_ble_eq_true rfl) (Nat.le_of_ble_eq_true rfl) ?_
  refine va_putF (D := G.1) (ci := 4) (v := .ref q1) (ty := (.array .int)) (C := RX4) (T := TX4) (N := 3) hx hb hts (fun w h => List.mem_cons_of_mem _ (List.mem_append_right _ h)) tyX4 tyX4_ok nmX4 hown hK hP hD hS 0 rfl rfl 0 (by decide) (hts (.fieldLink RX4 9 "SlipCoach$Reach" "moving" "[I") (by decide +kernel)) (fun _ h9 => h9) rfl hin rfl (by decide +kernel) rfl rfl (Nat.le_of_ble_eq_true rfl) dX4_init_10 (fun H locs hP hD hS => ?_)
  have hP : va_P G.1 vwCl [(h0, .inr (4, [.ref q1, .null, .int 0])), (q1, .inl (G.2 0, 6416, .inl (fun _ => 0)))] H := hP
  have hD : va_D A [(h0, .inr (4, [.ref q1, .null, .int 0])), (q1, .inl (G.2 0, 6416, .inl (fun _ => 0)))] := hD
  refine lv_aload_n hx hb dX4_init_13 rfl (lv_at hl 0 rfl) ?_
  refine lv_sipush (v := 401) hx hb dX4_init_14 (by decide) ?_
  refine wn_newa (atype := .int) (ty := .int) (n := 401) (N' := 401) (a0 := (401, .inl (fun _ => 0))) hx hb (hts (.arrayClass .int) (by decide +kernel)) rfl hK 0 rfl hP hD hS hA (fun _ => rfl) (by decide) (by decide) (by decide) (Nat.le_of_ble_eq_true rfl) (Nat.le_of_ble_eq_true rfl) dX4_init_17 (fun q2 H hP hD hS => ?_)
  have hP : va_P G.1 vwCl [(h0, .inr (4, [.ref q1, .null, .int 0])), (q1, .inl (G.2 0, 6416, .inl (fun _ => 0))), (q2, .inl (G.2 0, 401, .inl (fun _ => 0)))] H := hP
  have hD : va_D A [(h0, .inr (4, [.ref q1, .null, .int 0])), (q1, .inl (G.2 0, 6416, .inl (fun _ => 0))), (q2, .inl (G.2 0, 401, .inl (fun _ => 0)))] := hD
  refine W.widen (k := 2) (n := 6817) (Nat.le_of_ble_eq_true rfl) (Nat.le_of_ble_eq_true rfl) ?_
  refine va_putF (D := G.1) (ci := 4) (v := .ref q2) (ty := (.array .int)) (C := RX4) (T := TX4) (N := 3) hx hb hts (fun w h => List.mem_cons_of_mem _ (List.mem_append_right _ h)) tyX4 tyX4_ok nmX4 hown hK hP hD hS 0 rfl rfl 1 (by decide) (hts (.fieldLink RX4 15 "SlipCoach$Reach" "standing" "[I") (by decide +kernel)) (fun _ h9 => h9) rfl hin rfl (by decide +kernel) rfl rfl (Nat.le_of_ble_eq_true rfl) dX4_init_19 (fun H locs hP hD hS => ?_)
  have hP : va_P G.1 vwCl [(h0, .inr (4, [.ref q1, .ref q2, .int 0])), (q1, .inl (G.2 0, 6416, .inl (fun _ => 0))), (q2, .inl (G.2 0, 401, .inl (fun _ => 0)))] H := hP
  have hD : va_D A [(h0, .inr (4, [.ref q1, .ref q2, .int 0])), (q1, .inl (G.2 0, 6416, .inl (fun _ => 0))), (q2, .inl (G.2 0, 401, .inl (fun _ => 0)))] := hD
  refine lv_aload_n hx hb dX4_init_22 rfl (lv_at hl 0 rfl) ?_
  refine lv_iconst (v := 0) hx hb dX4_init_23 (by decide) ?_
  refine va_put (D := G.1) (ci := 4) (v := .int 0) (ty := .int) (C := RX4) (T := TX4) (N := 3) hx hb hts (fun w h => List.mem_cons_of_mem _ (List.mem_append_right _ h)) tyX4 tyX4_ok nmX4 hown hK hP hD hS 0 rfl rfl 2 (by decide) (hts (.fieldLink RX4 18 "SlipCoach$Reach" "farthest" "I") (by decide +kernel)) (fun _ h9 => h9) rfl (by decide +kernel) rfl rfl (Nat.le_of_ble_eq_true rfl) dX4_init_24 (fun H locs hP hD hS => ?_)
  have hP : va_P G.1 vwCl [(h0, .inr (4, [.ref q1, .ref q2, .int 0])), (q1, .inl (G.2 0, 6416, .inl (fun _ => 0))), (q2, .inl (G.2 0, 401, .inl (fun _ => 0)))] H := hP
  have hD : va_D A [(h0, .inr (4, [.ref q1, .ref q2, .int 0])), (q1, .inl (G.2 0, 6416, .inl (fun _ => 0))), (q2, .inl (G.2 0, 401, .inl (fun _ => 0)))] := hD
  refine W.widen (k := 2) (n := 6817) (Nat.le_of_ble_eq_true rfl) (Nat.le_of_ble_eq_true rfl) ?_
  exact W.vret hx hb hr (fun t ht hW => ⟨⟨(), rfl, trivial, ⟨by rw [ht]; exact hP.sub [] rfl, hD.sub [] (by decide +kernel) rfl⟩⟩, hS.F ht⟩) hS.2.2 dX4_init_27
set_option maxHeartbeats 4000000 in
set_option maxRecDepth 100000 in
theorem c_newJourney (l : Launch) (G : KG) (h0 : Nat) (b0 : Nat) (b1 : Nat) (sz : Nat) : Met l yX2_init wsX2_init ({ frames := 1, cells := 12, slots := 10637, locals := 23 }) (preQ G [.ref h0, .ref b0, .ref b1] sz [(h0, .inr (2, [.null, .null, .null, .null, .null, .null, .null, .null, .null, .null, .null, .null, .null, .int 0, .null]))]) (va_Qv (fun (u : Unit) => True) (fun u t => atQ G (va_A [(h0, .inr (2, [.null, .null, .null, .null, .null, .null, .null, .null, .null, .null, .null, .null, .null, .int 0, .null]))] sz) [] t) (va_A [(h0, .inr (2, [.null, .null, .null, .null, .null, .null, .null, .null, .null, .null, .null, .null, .null, .int 0, .null]))] sz)) 12 10637 (va_A [(h0, .inr (2, [.null, .null, .null, .null, .null, .null, .null, .null, .null, .null, .null, .null, .null, .int 0, .null]))] sz) := by
  refine Met.ofW (cc := cX2_init) (maxL := 3) (ret := none) (by decide) rfl ?_
  intro p e s m args below meth c s₁ B hml hv
  obtain ⟨rfl, hsz, hP, hKG, hD0⟩ := hv
  obtain ⟨hK, hAO⟩ := id hKG
  have hx := B.exec
  have hb := B.bytes
  have hr := B.returns
  have hts := atoms_spec (ws := wsX2_init) B.pre
  have hown : s.vm.findClass RX2 = some m.cls := findClass_of_methodNamed B.named
  have hlocks := B.notSynchronized
  have hin : meth.name = "<init>" := (name_of_methodNamed B.named B.method).1
  subst hsz
  have hD := hD0.self (sz := s.heap.size)
  generalize hAe : va_A [(h0, .inr (2, [.null, .null, .null, .null, .null, .null, .null, .null, .null, .null, .null, .null, .null, .int 0, .null]))] s.heap.size = A at hD ⊢
  have hA : ∀ q : Nat, s.heap.size ≤ q → A q := fun q h => by rw [← hAe]; exact Or.inr h
  have hS : va_S A s.heap s.heap [] := va_S.rf
  have hl := lv_entry ([.ref h0, .ref b0, .ref b1]) (n := 3) (Nat.le_of_ble_eq_true rfl)
  rw [lg_entry_eq]
  generalize (lg_sl ([.ref h0, .ref b0, .ref b1]) ++ List.replicate (3 - (lg_sl ([.ref h0, .ref b0, .ref b1])).length) Slot.unset).toArray = ls at hl ⊢
  have hl : lv_has ls 3 [(0, .ref h0), (1, .ref b0), (2, .ref b1)] := hl
  refine lv_aload_n hx hb dX2_init_0 rfl (lv_at hl 0 rfl) ?_
  refine W.objInit hx hb hown (hts (.methodLink RX2 3 objectInit) (by decide +kernel)) (hts (.instanceMethod objectInit) (by decide +kernel)) (hts _ (List.mem_of_getElem? (i := 3) rfl)) rfl (by rw [hml]; exact hl.1) rfl dX2_init_1 (Nat.le_of_ble_eq_true rfl) (Nat.le_of_ble_eq_true rfl) ?_
  refine W.eq (g2 := F0 m 4 ls []) rfl ?_
  refine lv_aload_n hx hb dX2_init_4 rfl (lv_at hl 0 rfl) ?_
  refine lv_sipush (v := 2020) hx hb dX2_init_5 (by decide) ?_
  refine wn_newa (atype := .int) (ty := .int) (n := 2020) (N' := 2020) (a0 := (2020, .inl (fun _ => 0))) hx hb (hts (.arrayClass .int) (by decide +kernel)) rfl hK 0 rfl hP hD hS hA (fun _ => rfl) (by decide) (by decide) (by decide) (Nat.le_of_ble_eq_true rfl) (Nat.le_of_ble_eq_true rfl) dX2_init_8 (fun q1 H hP hD hS => ?_)
  have hP : va_P G.1 vwCl [(h0, .inr (2, [.null, .null, .null, .null, .null, .null, .null, .null, .null, .null, .null, .null, .null, .int 0, .null])), (q1, .inl (G.2 0, 2020, .inl (fun _ => 0)))] H := hP
  have hD : va_D A [(h0, .inr (2, [.null, .null, .null, .null, .null, .null, .null, .null, .null, .null, .null, .null, .null, .int 0, .null])), (q1, .inl (G.2 0, 2020, .inl (fun _ => 0)))] := hD
  refine W.widen (k := 1) (n := 2020) (Nat.le_of_ble_eq_true rfl) (Nat.le_of_ble_eq_true rfl) ?_
  refine va_putF (D := G.1) (ci := 2) (v := .ref q1) (ty := (.array .int)) (C := RX2) (T := TX2) (N := 15) hx hb hts (fun w h => List.mem_cons_of_mem _ (List.mem_append_right _ h)) tyX2 tyX2_ok nmX2 hown hK hP hD hS 0 rfl rfl 2 (by decide) (hts (.fieldLink RX2 9 "SlipCoach$Journey" "fronts" "[I") (by decide +kernel)) (fun _ h9 => h9) rfl hin rfl (by decide +kernel) rfl rfl (Nat.le_of_ble_eq_true rfl) dX2_init_10 (fun H locs hP hD hS => ?_)
  have hP : va_P G.1 vwCl [(h0, .inr (2, [.null, .null, .ref q1, .null, .null, .null, .null, .null, .null, .null, .null, .null, .null, .int 0, .null])), (q1, .inl (G.2 0, 2020, .inl (fun _ => 0)))] H := hP
  have hD : va_D A [(h0, .inr (2, [.null, .null, .ref q1, .null, .null, .null, .null, .null, .null, .null, .null, .null, .null, .int 0, .null])), (q1, .inl (G.2 0, 2020, .inl (fun _ => 0)))] := hD
  refine lv_aload_n hx hb dX2_init_13 rfl (lv_at hl 0 rfl) ?_
  refine lv_sipush (v := 2020) hx hb dX2_init_14 (by decide) ?_
  refine wn_newa (atype := .int) (ty := .int) (n := 2020) (N' := 2020) (a0 := (2020, .inl (fun _ => 0))) hx hb (hts (.arrayClass .int) (by decide +kernel)) rfl hK 0 rfl hP hD hS hA (fun _ => rfl) (by decide) (by decide) (by decide) (Nat.le_of_ble_eq_true rfl) (Nat.le_of_ble_eq_true rfl) dX2_init_17 (fun q2 H hP hD hS => ?_)
  have hP : va_P G.1 vwCl [(h0, .inr (2, [.null, .null, .ref q1, .null, .null, .null, .null, .null, .null, .null, .null, .null, .null, .int 0, .null])), (q1, .inl (G.2 0, 2020, .inl (fun _ => 0))), (q2, .inl (G.2 0, 2020, .inl (fun _ => 0)))] H := hP
  have hD : va_D A [(h0, .inr (2, [.null, .null, .ref q1, .null, .null, .null, .null, .null, .null, .null, .null, .null, .null, .int 0, .null])), (q1, .inl (G.2 0, 2020, .inl (fun _ => 0))), (q2, .inl (G.2 0, 2020, .inl (fun _ => 0)))] := hD
  refine W.widen (k := 2) (n := 4040) (Nat.le_of_ble_eq_true rfl) (Nat.le_of_ble_eq_true rfl) ?_
  refine va_putF (D := G.1) (ci := 2) (v := .ref q2) (ty := (.array .int)) (C := RX2) (T := TX2) (N := 15) hx hb hts (fun w h => List.mem_cons_of_mem _ (List.mem_append_right _ h)) tyX2 tyX2_ok nmX2 hown hK hP hD hS 0 rfl rfl 3 (by decide) (hts (.fieldLink RX2 15 "SlipCoach$Journey" "tails" "[I") (by decide +kernel)) (fun _ h9 => h9) rfl hin rfl (by decide +kernel) rfl rfl (Nat.le_of_ble_eq_true rfl) dX2_init_19 (fun H locs hP hD hS => ?_)
  have hP : va_P G.1 vwCl [(h0, .inr (2, [.null, .null, .ref q1, .ref q2, .null, .null, .null, .null, .null, .null, .null, .null, .null, .int 0, .null])), (q1, .inl (G.2 0, 2020, .inl (fun _ => 0))), (q2, .inl (G.2 0, 2020, .inl (fun _ => 0)))] H := hP
  have hD : va_D A [(h0, .inr (2, [.null, .null, .ref q1, .ref q2, .null, .null, .null, .null, .null, .null, .null, .null, .null, .int 0, .null])), (q1, .inl (G.2 0, 2020, .inl (fun _ => 0))), (q2, .inl (G.2 0, 2020, .inl (fun _ => 0)))] := hD
  refine lv_aload_n hx hb dX2_init_22 rfl (lv_at hl 0 rfl) ?_
  refine lv_iconst (v := 5) hx hb dX2_init_23 (by decide) ?_
  refine wn_newa (atype := .int) (ty := .int) (n := 5) (N' := 5) (a0 := (5, .inl (fun _ => 0))) hx hb (hts (.arrayClass .int) (by decide +kernel)) rfl hK 0 rfl hP hD hS hA (fun _ => rfl) (by decide) (by decide) (by decide) (Nat.le_of_ble_eq_true rfl) (Nat.le_of_ble_eq_true rfl) dX2_init_24 (fun q3 H hP hD hS => ?_)
  have hP : va_P G.1 vwCl [(h0, .inr (2, [.null, .null, .ref q1, .ref q2, .null, .null, .null, .null, .null, .null, .null, .null, .null, .int 0, .null])), (q1, .inl (G.2 0, 2020, .inl (fun _ => 0))), (q2, .inl (G.2 0, 2020, .inl (fun _ => 0))), (q3, .inl (G.2 0, 5, .inl (fun _ => 0)))] H := hP
  have hD : va_D A [(h0, .inr (2, [.null, .null, .ref q1, .ref q2, .null, .null, .null, .null, .null, .null, .null, .null, .null, .int 0, .null])), (q1, .inl (G.2 0, 2020, .inl (fun _ => 0))), (q2, .inl (G.2 0, 2020, .inl (fun _ => 0))), (q3, .inl (G.2 0, 5, .inl (fun _ => 0)))] := hD
  refine W.widen (k := 3) (n := 4045) (Nat.le_of_ble_eq_true rfl) (Nat.le_of_ble_eq_true rfl) ?_
  refine va_putF (D := G.1) (ci := 2) (v := .ref q3) (ty := (.array .int)) (C := RX2) (T := TX2) (N := 15) hx hb hts (fun w h => List.mem_cons_of_mem _ (List.mem_append_right _ h)) tyX2 tyX2_ok nmX2 hown hK hP hD hS 0 rfl rfl 4 (by decide) (hts (.fieldLink RX2 18 "SlipCoach$Journey" "lastTick" "[I") (by decide +kernel)) (fun _ h9 => h9) rfl hin rfl (by decide +kernel) rfl rfl (Nat.le_of_ble_eq_true rfl) dX2_init_26 (fun H locs hP hD hS => ?_)
  have hP : va_P G.1 vwCl [(h0, .inr (2, [.null, .null, .ref q1, .ref q2, .ref q3, .null, .null, .null, .null, .null, .null, .null, .null, .int 0, .null])), (q1, .inl (G.2 0, 2020, .inl (fun _ => 0))), (q2, .inl (G.2 0, 2020, .inl (fun _ => 0))), (q3, .inl (G.2 0, 5, .inl (fun _ => 0)))] H := hP
  have hD : va_D A [(h0, .inr (2, [.null, .null, .ref q1, .ref q2, .ref q3, .null, .null, .null, .null, .null, .null, .null, .null, .int 0, .null])), (q1, .inl (G.2 0, 2020, .inl (fun _ => 0))), (q2, .inl (G.2 0, 2020, .inl (fun _ => 0))), (q3, .inl (G.2 0, 5, .inl (fun _ => 0)))] := hD
  refine lv_aload_n hx hb dX2_init_29 rfl (lv_at hl 0 rfl) ?_
  refine lv_bipush (v := 16) hx hb dX2_init_30 (by decide) ?_
  refine wn_newa (atype := .int) (ty := .int) (n := 16) (N' := 16) (a0 := (16, .inl (fun _ => 0))) hx hb (hts (.arrayClass .int) (by decide +kernel)) rfl hK 0 rfl hP hD hS hA (fun _ => rfl) (by decide) (by decide) (by decide) (Nat.le_of_ble_eq_true rfl) (Nat.le_of_ble_eq_true rfl) dX2_init_32 (fun q4 H hP hD hS => ?_)
  have hP : va_P G.1 vwCl [(h0, .inr (2, [.null, .null, .ref q1, .ref q2, .ref q3, .null, .null, .null, .null, .null, .null, .null, .null, .int 0, .null])), (q1, .inl (G.2 0, 2020, .inl (fun _ => 0))), (q2, .inl (G.2 0, 2020, .inl (fun _ => 0))), (q3, .inl (G.2 0, 5, .inl (fun _ => 0))), (q4, .inl (G.2 0, 16, .inl (fun _ => 0)))] H := hP
  have hD : va_D A [(h0, .inr (2, [.null, .null, .ref q1, .ref q2, .ref q3, .null, .null, .null, .null, .null, .null, .null, .null, .int 0, .null])), (q1, .inl (G.2 0, 2020, .inl (fun _ => 0))), (q2, .inl (G.2 0, 2020, .inl (fun _ => 0))), (q3, .inl (G.2 0, 5, .inl (fun _ => 0))), (q4, .inl (G.2 0, 16, .inl (fun _ => 0)))] := hD
  refine W.widen (k := 4) (n := 4061) (Nat.le_of_ble_eq_true rfl) (Nat.le_of_ble_eq_true rfl) ?_
  refine va_putF (D := G.1) (ci := 2) (v := .ref q4) (ty := (.array .int)) (C := RX2) (T := TX2) (N := 15) hx hb hts (fun w h => List.mem_cons_of_mem _ (List.mem_append_right _ h)) tyX2 tyX2_ok nmX2 hown hK hP hD hS 0 rfl rfl 5 (by decide) (hts (.fieldLink RX2 21 "SlipCoach$Journey" "letTick" "[I") (by decide +kernel)) (fun _ h9 => h9) rfl hin rfl (by decide +kernel) rfl rfl (Nat.le_of_ble_eq_true rfl) dX2_init_34 (fun H locs hP hD hS => ?_)
  have hP : va_P G.1 vwCl [(h0, .inr (2, [.null, .null, .ref q1, .ref q2, .ref q3, .ref q4, .null, .null, .null, .null, .null, .null, .null, .int 0, .null])), (q1, .inl (G.2 0, 2020, .inl (fun _ => 0))), (q2, .inl (G.2 0, 2020, .inl (fun _ => 0))), (q3, .inl (G.2 0, 5, .inl (fun _ => 0))), (q4, .inl (G.2 0, 16, .inl (fun _ => 0)))] H := hP
  have hD : va_D A [(h0, .inr (2, [.null, .null, .ref q1, .ref q2, .ref q3, .ref q4, .null, .null, .null, .null, .null, .null, .null, .int 0, .null])), (q1, .inl (G.2 0, 2020, .inl (fun _ => 0))), (q2, .inl (G.2 0, 2020, .inl (fun _ => 0))), (q3, .inl (G.2 0, 5, .inl (fun _ => 0))), (q4, .inl (G.2 0, 16, .inl (fun _ => 0)))] := hD
  refine lv_aload_n hx hb dX2_init_37 rfl (lv_at hl 0 rfl) ?_
  refine lv_bipush (v := 16) hx hb dX2_init_38 (by decide) ?_
  refine wn_newa (atype := .int) (ty := .int) (n := 16) (N' := 16) (a0 := (16, .inl (fun _ => 0))) hx hb (hts (.arrayClass .int) (by decide +kernel)) rfl hK 0 rfl hP hD hS hA (fun _ => rfl) (by decide) (by decide) (by decide) (Nat.le_of_ble_eq_true rfl) (Nat.le_of_ble_eq_true rfl) dX2_init_40 (fun q5 H hP hD hS => ?_)
  have hP : va_P G.1 vwCl [(h0, .inr (2, [.null, .null, .ref q1, .ref q2, .ref q3, .ref q4, .null, .null, .null, .null, .null, .null, .null, .int 0, .null])), (q1, .inl (G.2 0, 2020, .inl (fun _ => 0))), (q2, .inl (G.2 0, 2020, .inl (fun _ => 0))), (q3, .inl (G.2 0, 5, .inl (fun _ => 0))), (q4, .inl (G.2 0, 16, .inl (fun _ => 0))), (q5, .inl (G.2 0, 16, .inl (fun _ => 0)))] H := hP
  have hD : va_D A [(h0, .inr (2, [.null, .null, .ref q1, .ref q2, .ref q3, .ref q4, .null, .null, .null, .null, .null, .null, .null, .int 0, .null])), (q1, .inl (G.2 0, 2020, .inl (fun _ => 0))), (q2, .inl (G.2 0, 2020, .inl (fun _ => 0))), (q3, .inl (G.2 0, 5, .inl (fun _ => 0))), (q4, .inl (G.2 0, 16, .inl (fun _ => 0))), (q5, .inl (G.2 0, 16, .inl (fun _ => 0)))] := hD
  refine W.widen (k := 5) (n := 4077) (Nat.le_of_ble_eq_true rfl) (Nat.le_of_ble_eq_true rfl) ?_
  refine va_putF (D := G.1) (ci := 2) (v := .ref q5) (ty := (.array .int)) (C := RX2) (T := TX2) (N := 15) hx hb hts (fun w h => List.mem_cons_of_mem _ (List.mem_append_right _ h)) tyX2 tyX2_ok nmX2 hown hK hP hD hS 0 rfl rfl 6 (by decide) (hts (.fieldLink RX2 24 "SlipCoach$Journey" "letYard" "[I") (by decide +kernel)) (fun _ h9 => h9) rfl hin rfl (by decide +kernel) rfl rfl (Nat.le_of_ble_eq_true rfl) dX2_init_42 (fun H locs hP hD hS => ?_)
  have hP : va_P G.1 vwCl [(h0, .inr (2, [.null, .null, .ref q1, .ref q2, .ref q3, .ref q4, .ref q5, .null, .null, .null, .null, .null, .null, .int 0, .null])), (q1, .inl (G.2 0, 2020, .inl (fun _ => 0))), (q2, .inl (G.2 0, 2020, .inl (fun _ => 0))), (q3, .inl (G.2 0, 5, .inl (fun _ => 0))), (q4, .inl (G.2 0, 16, .inl (fun _ => 0))), (q5, .inl (G.2 0, 16, .inl (fun _ => 0)))] H := hP
  have hD : va_D A [(h0, .inr (2, [.null, .null, .ref q1, .ref q2, .ref q3, .ref q4, .ref q5, .null, .null, .null, .null, .null, .null, .int 0, .null])), (q1, .inl (G.2 0, 2020, .inl (fun _ => 0))), (q2, .inl (G.2 0, 2020, .inl (fun _ => 0))), (q3, .inl (G.2 0, 5, .inl (fun _ => 0))), (q4, .inl (G.2 0, 16, .inl (fun _ => 0))), (q5, .inl (G.2 0, 16, .inl (fun _ => 0)))] := hD
  refine lv_aload_n hx hb dX2_init_45 rfl (lv_at hl 0 rfl) ?_
  refine lv_bipush (v := 16) hx hb dX2_init_46 (by decide) ?_
  refine wn_newa (atype := .int) (ty := .int) (n := 16) (N' := 16) (a0 := (16, .inl (fun _ => 0))) hx hb (hts (.arrayClass .int) (by decide +kernel)) rfl hK 0 rfl hP hD hS hA (fun _ => rfl) (by decide) (by decide) (by decide) (Nat.le_of_ble_eq_true rfl) (Nat.le_of_ble_eq_true rfl) dX2_init_48 (fun q6 H hP hD hS => ?_)
  have hP : va_P G.1 vwCl [(h0, .inr (2, [.null, .null, .ref q1, .ref q2, .ref q3, .ref q4, .ref q5, .null, .null, .null, .null, .null, .null, .int 0, .null])), (q1, .inl (G.2 0, 2020, .inl (fun _ => 0))), (q2, .inl (G.2 0, 2020, .inl (fun _ => 0))), (q3, .inl (G.2 0, 5, .inl (fun _ => 0))), (q4, .inl (G.2 0, 16, .inl (fun _ => 0))), (q5, .inl (G.2 0, 16, .inl (fun _ => 0))), (q6, .inl (G.2 0, 16, .inl (fun _ => 0)))] H := hP
  have hD : va_D A [(h0, .inr (2, [.null, .null, .ref q1, .ref q2, .ref q3, .ref q4, .ref q5, .null, .null, .null, .null, .null, .null, .int 0, .null])), (q1, .inl (G.2 0, 2020, .inl (fun _ => 0))), (q2, .inl (G.2 0, 2020, .inl (fun _ => 0))), (q3, .inl (G.2 0, 5, .inl (fun _ => 0))), (q4, .inl (G.2 0, 16, .inl (fun _ => 0))), (q5, .inl (G.2 0, 16, .inl (fun _ => 0))), (q6, .inl (G.2 0, 16, .inl (fun _ => 0)))] := hD
  refine W.widen (k := 6) (n := 4093) (Nat.le_of_ble_eq_true rfl) (Nat.le_of_ble_eq_true rfl) ?_
  refine va_putF (D := G.1) (ci := 2) (v := .ref q6) (ty := (.array .int)) (C := RX2) (T := TX2) (N := 15) hx hb hts (fun w h => List.mem_cons_of_mem _ (List.mem_append_right _ h)) tyX2 tyX2_ok nmX2 hown hK hP hD hS 0 rfl rfl 7 (by decide) (hts (.fieldLink RX2 27 "SlipCoach$Journey" "letSpeed" "[I") (by decide +kernel)) (fun _ h9 => h9) rfl hin rfl (by decide +kernel) rfl rfl (Nat.le_of_ble_eq_true rfl) dX2_init_50 (fun H locs hP hD hS => ?_)
  have hP : va_P G.1 vwCl [(h0, .inr (2, [.null, .null, .ref q1, .ref q2, .ref q3, .ref q4, .ref q5, .ref q6, .null, .null, .null, .null, .null, .int 0, .null])), (q1, .inl (G.2 0, 2020, .inl (fun _ => 0))), (q2, .inl (G.2 0, 2020, .inl (fun _ => 0))), (q3, .inl (G.2 0, 5, .inl (fun _ => 0))), (q4, .inl (G.2 0, 16, .inl (fun _ => 0))), (q5, .inl (G.2 0, 16, .inl (fun _ => 0))), (q6, .inl (G.2 0, 16, .inl (fun _ => 0)))] H := hP
  have hD : va_D A [(h0, .inr (2, [.null, .null, .ref q1, .ref q2, .ref q3, .ref q4, .ref q5, .ref q6, .null, .null, .null, .null, .null, .int 0, .null])), (q1, .inl (G.2 0, 2020, .inl (fun _ => 0))), (q2, .inl (G.2 0, 2020, .inl (fun _ => 0))), (q3, .inl (G.2 0, 5, .inl (fun _ => 0))), (q4, .inl (G.2 0, 16, .inl (fun _ => 0))), (q5, .inl (G.2 0, 16, .inl (fun _ => 0))), (q6, .inl (G.2 0, 16, .inl (fun _ => 0)))] := hD
  refine lv_aload_n hx hb dX2_init_53 rfl (lv_at hl 0 rfl) ?_
  refine lv_sipush (v := 6464) hx hb dX2_init_54 (by decide) ?_
  refine wn_newa (atype := .int) (ty := .int) (n := 6464) (N' := 6464) (a0 := (6464, .inl (fun _ => 0))) hx hb (hts (.arrayClass .int) (by decide +kernel)) rfl hK 0 rfl hP hD hS hA (fun _ => rfl) (by decide) (by decide) (by decide) (Nat.le_of_ble_eq_true rfl) (Nat.le_of_ble_eq_true rfl) dX2_init_57 (fun q7 H hP hD hS => ?_)
  have hP : va_P G.1 vwCl [(h0, .inr (2, [.null, .null, .ref q1, .ref q2, .ref q3, .ref q4, .ref q5, .ref q6, .null, .null, .null, .null, .null, .int 0, .null])), (q1, .inl (G.2 0, 2020, .inl (fun _ => 0))), (q2, .inl (G.2 0, 2020, .inl (fun _ => 0))), (q3, .inl (G.2 0, 5, .inl (fun _ => 0))), (q4, .inl (G.2 0, 16, .inl (fun _ => 0))), (q5, .inl (G.2 0, 16, .inl (fun _ => 0))), (q6, .inl (G.2 0, 16, .inl (fun _ => 0))), (q7, .inl (G.2 0, 6464, .inl (fun _ => 0)))] H := hP
  have hD : va_D A [(h0, .inr (2, [.null, .null, .ref q1, .ref q2, .ref q3, .ref q4, .ref q5, .ref q6, .null, .null, .null, .null, .null, .int 0, .null])), (q1, .inl (G.2 0, 2020, .inl (fun _ => 0))), (q2, .inl (G.2 0, 2020, .inl (fun _ => 0))), (q3, .inl (G.2 0, 5, .inl (fun _ => 0))), (q4, .inl (G.2 0, 16, .inl (fun _ => 0))), (q5, .inl (G.2 0, 16, .inl (fun _ => 0))), (q6, .inl (G.2 0, 16, .inl (fun _ => 0))), (q7, .inl (G.2 0, 6464, .inl (fun _ => 0)))] := hD
  refine W.widen (k := 7) (n := 10557) (Nat.le_of_ble_eq_true rfl) (Nat.le_of_ble_eq_true rfl) ?_
  refine va_putF (D := G.1) (ci := 2) (v := .ref q7) (ty := (.array .int)) (C := RX2) (T := TX2) (N := 15) hx hb hts (fun w h => List.mem_cons_of_mem _ (List.mem_append_right _ h)) tyX2 tyX2_ok nmX2 hown hK hP hD hS 0 rfl rfl 8 (by decide) (hts (.fieldLink RX2 30 "SlipCoach$Journey" "ways" "[I") (by decide +kernel)) (fun _ h9 => h9) rfl hin rfl (by decide +kernel) rfl rfl (Nat.le_of_ble_eq_true rfl) dX2_init_59 (fun H locs hP hD hS => ?_)
  have hP : va_P G.1 vwCl [(h0, .inr (2, [.null, .null, .ref q1, .ref q2, .ref q3, .ref q4, .ref q5, .ref q6, .ref q7, .null, .null, .null, .null, .int 0, .null])), (q1, .inl (G.2 0, 2020, .inl (fun _ => 0))), (q2, .inl (G.2 0, 2020, .inl (fun _ => 0))), (q3, .inl (G.2 0, 5, .inl (fun _ => 0))), (q4, .inl (G.2 0, 16, .inl (fun _ => 0))), (q5, .inl (G.2 0, 16, .inl (fun _ => 0))), (q6, .inl (G.2 0, 16, .inl (fun _ => 0))), (q7, .inl (G.2 0, 6464, .inl (fun _ => 0)))] H := hP
  have hD : va_D A [(h0, .inr (2, [.null, .null, .ref q1, .ref q2, .ref q3, .ref q4, .ref q5, .ref q6, .ref q7, .null, .null, .null, .null, .int 0, .null])), (q1, .inl (G.2 0, 2020, .inl (fun _ => 0))), (q2, .inl (G.2 0, 2020, .inl (fun _ => 0))), (q3, .inl (G.2 0, 5, .inl (fun _ => 0))), (q4, .inl (G.2 0, 16, .inl (fun _ => 0))), (q5, .inl (G.2 0, 16, .inl (fun _ => 0))), (q6, .inl (G.2 0, 16, .inl (fun _ => 0))), (q7, .inl (G.2 0, 6464, .inl (fun _ => 0)))] := hD
  refine lv_aload_n hx hb dX2_init_62 rfl (lv_at hl 0 rfl) ?_
  refine lv_bipush (v := 16) hx hb dX2_init_63 (by decide) ?_
  refine wn_newa (atype := .int) (ty := .int) (n := 16) (N' := 16) (a0 := (16, .inl (fun _ => 0))) hx hb (hts (.arrayClass .int) (by decide +kernel)) rfl hK 0 rfl hP hD hS hA (fun _ => rfl) (by decide) (by decide) (by decide) (Nat.le_of_ble_eq_true rfl) (Nat.le_of_ble_eq_true rfl) dX2_init_65 (fun q8 H hP hD hS => ?_)
  have hP : va_P G.1 vwCl [(h0, .inr (2, [.null, .null, .ref q1, .ref q2, .ref q3, .ref q4, .ref q5, .ref q6, .ref q7, .null, .null, .null, .null, .int 0, .null])), (q1, .inl (G.2 0, 2020, .inl (fun _ => 0))), (q2, .inl (G.2 0, 2020, .inl (fun _ => 0))), (q3, .inl (G.2 0, 5, .inl (fun _ => 0))), (q4, .inl (G.2 0, 16, .inl (fun _ => 0))), (q5, .inl (G.2 0, 16, .inl (fun _ => 0))), (q6, .inl (G.2 0, 16, .inl (fun _ => 0))), (q7, .inl (G.2 0, 6464, .inl (fun _ => 0))), (q8, .inl (G.2 0, 16, .inl (fun _ => 0)))] H := hP
  have hD : va_D A [(h0, .inr (2, [.null, .null, .ref q1, .ref q2, .ref q3, .ref q4, .ref q5, .ref q6, .ref q7, .null, .null, .null, .null, .int 0, .null])), (q1, .inl (G.2 0, 2020, .inl (fun _ => 0))), (q2, .inl (G.2 0, 2020, .inl (fun _ => 0))), (q3, .inl (G.2 0, 5, .inl (fun _ => 0))), (q4, .inl (G.2 0, 16, .inl (fun _ => 0))), (q5, .inl (G.2 0, 16, .inl (fun _ => 0))), (q6, .inl (G.2 0, 16, .inl (fun _ => 0))), (q7, .inl (G.2 0, 6464, .inl (fun _ => 0))), (q8, .inl (G.2 0, 16, .inl (fun _ => 0)))] := hD
  refine W.widen (k := 8) (n := 10573) (Nat.le_of_ble_eq_true rfl) (Nat.le_of_ble_eq_true rfl) ?_
  refine va_putF (D := G.1) (ci := 2) (v := .ref q8) (ty := (.array .int)) (C := RX2) (T := TX2) (N := 15) hx hb hts (fun w h => List.mem_cons_of_mem _ (List.mem_append_right _ h)) tyX2 tyX2_ok nmX2 hown hK hP hD hS 0 rfl rfl 9 (by decide) (hts (.fieldLink RX2 33 "SlipCoach$Journey" "wayTicks" "[I") (by decide +kernel)) (fun _ h9 => h9) rfl hin rfl (by decide +kernel) rfl rfl (Nat.le_of_ble_eq_true rfl) dX2_init_67 (fun H locs hP hD hS => ?_)
  have hP : va_P G.1 vwCl [(h0, .inr (2, [.null, .null, .ref q1, .ref q2, .ref q3, .ref q4, .ref q5, .ref q6, .ref q7, .ref q8, .null, .null, .null, .int 0, .null])), (q1, .inl (G.2 0, 2020, .inl (fun _ => 0))), (q2, .inl (G.2 0, 2020, .inl (fun _ => 0))), (q3, .inl (G.2 0, 5, .inl (fun _ => 0))), (q4, .inl (G.2 0, 16, .inl (fun _ => 0))), (q5, .inl (G.2 0, 16, .inl (fun _ => 0))), (q6, .inl (G.2 0, 16, .inl (fun _ => 0))), (q7, .inl (G.2 0, 6464, .inl (fun _ => 0))), (q8, .inl (G.2 0, 16, .inl (fun _ => 0)))] H := hP
  have hD : va_D A [(h0, .inr (2, [.null, .null, .ref q1, .ref q2, .ref q3, .ref q4, .ref q5, .ref q6, .ref q7, .ref q8, .null, .null, .null, .int 0, .null])), (q1, .inl (G.2 0, 2020, .inl (fun _ => 0))), (q2, .inl (G.2 0, 2020, .inl (fun _ => 0))), (q3, .inl (G.2 0, 5, .inl (fun _ => 0))), (q4, .inl (G.2 0, 16, .inl (fun _ => 0))), (q5, .inl (G.2 0, 16, .inl (fun _ => 0))), (q6, .inl (G.2 0, 16, .inl (fun _ => 0))), (q7, .inl (G.2 0, 6464, .inl (fun _ => 0))), (q8, .inl (G.2 0, 16, .inl (fun _ => 0)))] := hD
  refine lv_aload_n hx hb dX2_init_70 rfl (lv_at hl 0 rfl) ?_
  refine lv_bipush (v := 16) hx hb dX2_init_71 (by decide) ?_
  refine wn_newa (atype := .boolean) (ty := .boolean) (n := 16) (N' := 16) (a0 := (16, .inl (fun _ => 0))) hx hb (hts (.arrayClass .boolean) (by decide +kernel)) rfl hK 2 rfl hP hD hS hA (fun _ => rfl) (by decide) (by decide) (by decide) (Nat.le_of_ble_eq_true rfl) (Nat.le_of_ble_eq_true rfl) dX2_init_73 (fun q9 H hP hD hS => ?_)
  have hP : va_P G.1 vwCl [(h0, .inr (2, [.null, .null, .ref q1, .ref q2, .ref q3, .ref q4, .ref q5, .ref q6, .ref q7, .ref q8, .null, .null, .null, .int 0, .null])), (q1, .inl (G.2 0, 2020, .inl (fun _ => 0))), (q2, .inl (G.2 0, 2020, .inl (fun _ => 0))), (q3, .inl (G.2 0, 5, .inl (fun _ => 0))), (q4, .inl (G.2 0, 16, .inl (fun _ => 0))), (q5, .inl (G.2 0, 16, .inl (fun _ => 0))), (q6, .inl (G.2 0, 16, .inl (fun _ => 0))), (q7, .inl (G.2 0, 6464, .inl (fun _ => 0))), (q8, .inl (G.2 0, 16, .inl (fun _ => 0))), (q9, .inl (G.2 2, 16, .inl (fun _ => 0)))] H := hP
  have hD : va_D A [(h0, .inr (2, [.null, .null, .ref q1, .ref q2, .ref q3, .ref q4, .ref q5, .ref q6, .ref q7, .ref q8, .null, .null, .null, .int 0, .null])), (q1, .inl (G.2 0, 2020, .inl (fun _ => 0))), (q2, .inl (G.2 0, 2020, .inl (fun _ => 0))), (q3, .inl (G.2 0, 5, .inl (fun _ => 0))), (q4, .inl (G.2 0, 16, .inl (fun _ => 0))), (q5, .inl (G.2 0, 16, .inl (fun _ => 0))), (q6, .inl (G.2 0, 16, .inl (fun _ => 0))), (q7, .inl (G.2 0, 6464, .inl (fun _ => 0))), (q8, .inl (G.2 0, 16, .inl (fun _ => 0))), (q9, .inl (G.2 2, 16, .inl (fun _ => 0)))] := hD
  refine W.widen (k := 9) (n := 10589) (Nat.le_of_ble_eq_true rfl) (Nat.le_of_ble_eq_true rfl) ?_
  refine va_putF (D := G.1) (ci := 2) (v := .ref q9) (ty := (.array .boolean)) (C := RX2) (T := TX2) (N := 15) hx hb hts (fun w h => List.mem_cons_of_mem _ (List.mem_append_right _ h)) tyX2 tyX2_ok nmX2 hown hK hP hD hS 0 rfl rfl 10 (by decide) (hts (.fieldLink RX2 36 "SlipCoach$Journey" "stood" "[Z") (by decide +kernel)) (fun _ h9 => h9) rfl hin rfl (by decide +kernel) rfl rfl (Nat.le_of_ble_eq_true rfl) dX2_init_75 (fun H locs hP hD hS => ?_)
  have hP : va_P G.1 vwCl [(h0, .inr (2, [.null, .null, .ref q1, .ref q2, .ref q3, .ref q4, .ref q5, .ref q6, .ref q7, .ref q8, .ref q9, .null, .null, .int 0, .null])), (q1, .inl (G.2 0, 2020, .inl (fun _ => 0))), (q2, .inl (G.2 0, 2020, .inl (fun _ => 0))), (q3, .inl (G.2 0, 5, .inl (fun _ => 0))), (q4, .inl (G.2 0, 16, .inl (fun _ => 0))), (q5, .inl (G.2 0, 16, .inl (fun _ => 0))), (q6, .inl (G.2 0, 16, .inl (fun _ => 0))), (q7, .inl (G.2 0, 6464, .inl (fun _ => 0))), (q8, .inl (G.2 0, 16, .inl (fun _ => 0))), (q9, .inl (G.2 2, 16, .inl (fun _ => 0)))] H := hP
  have hD : va_D A [(h0, .inr (2, [.null, .null, .ref q1, .ref q2, .ref q3, .ref q4, .ref q5, .ref q6, .ref q7, .ref q8, .ref q9, .null, .null, .int 0, .null])), (q1, .inl (G.2 0, 2020, .inl (fun _ => 0))), (q2, .inl (G.2 0, 2020, .inl (fun _ => 0))), (q3, .inl (G.2 0, 5, .inl (fun _ => 0))), (q4, .inl (G.2 0, 16, .inl (fun _ => 0))), (q5, .inl (G.2 0, 16, .inl (fun _ => 0))), (q6, .inl (G.2 0, 16, .inl (fun _ => 0))), (q7, .inl (G.2 0, 6464, .inl (fun _ => 0))), (q8, .inl (G.2 0, 16, .inl (fun _ => 0))), (q9, .inl (G.2 2, 16, .inl (fun _ => 0)))] := hD
  refine lv_aload_n hx hb dX2_init_78 rfl (lv_at hl 0 rfl) ?_
  refine lv_bipush (v := 16) hx hb dX2_init_79 (by decide) ?_
  refine wn_newa (atype := .boolean) (ty := .boolean) (n := 16) (N' := 16) (a0 := (16, .inl (fun _ => 0))) hx hb (hts (.arrayClass .boolean) (by decide +kernel)) rfl hK 2 rfl hP hD hS hA (fun _ => rfl) (by decide) (by decide) (by decide) (Nat.le_of_ble_eq_true rfl) (Nat.le_of_ble_eq_true rfl) dX2_init_81 (fun q10 H hP hD hS => ?_)
  have hP : va_P G.1 vwCl [(h0, .inr (2, [.null, .null, .ref q1, .ref q2, .ref q3, .ref q4, .ref q5, .ref q6, .ref q7, .ref q8, .ref q9, .null, .null, .int 0, .null])), (q1, .inl (G.2 0, 2020, .inl (fun _ => 0))), (q2, .inl (G.2 0, 2020, .inl (fun _ => 0))), (q3, .inl (G.2 0, 5, .inl (fun _ => 0))), (q4, .inl (G.2 0, 16, .inl (fun _ => 0))), (q5, .inl (G.2 0, 16, .inl (fun _ => 0))), (q6, .inl (G.2 0, 16, .inl (fun _ => 0))), (q7, .inl (G.2 0, 6464, .inl (fun _ => 0))), (q8, .inl (G.2 0, 16, .inl (fun _ => 0))), (q9, .inl (G.2 2, 16, .inl (fun _ => 0))), (q10, .inl (G.2 2, 16, .inl (fun _ => 0)))] H := hP
  have hD : va_D A [(h0, .inr (2, [.null, .null, .ref q1, .ref q2, .ref q3, .ref q4, .ref q5, .ref q6, .ref q7, .ref q8, .ref q9, .null, .null, .int 0, .null])), (q1, .inl (G.2 0, 2020, .inl (fun _ => 0))), (q2, .inl (G.2 0, 2020, .inl (fun _ => 0))), (q3, .inl (G.2 0, 5, .inl (fun _ => 0))), (q4, .inl (G.2 0, 16, .inl (fun _ => 0))), (q5, .inl (G.2 0, 16, .inl (fun _ => 0))), (q6, .inl (G.2 0, 16, .inl (fun _ => 0))), (q7, .inl (G.2 0, 6464, .inl (fun _ => 0))), (q8, .inl (G.2 0, 16, .inl (fun _ => 0))), (q9, .inl (G.2 2, 16, .inl (fun _ => 0))), (q10, .inl (G.2 2, 16, .inl (fun _ => 0)))] := hD
  refine W.widen (k := 10) (n := 10605) (Nat.le_of_ble_eq_true rfl) (Nat.le_of_ble_eq_true rfl) ?_
  refine va_putF (D := G.1) (ci := 2) (v := .ref q10) (ty := (.array .boolean)) (C := RX2) (T := TX2) (N := 15) hx hb hts (fun w h => List.mem_cons_of_mem _ (List.mem_append_right _ h)) tyX2 tyX2_ok nmX2 hown hK hP hD hS 0 rfl rfl 11 (by decide) (hts (.fieldLink RX2 40 "SlipCoach$Journey" "well" "[Z") (by decide +kernel)) (fun _ h9 => h9) rfl hin rfl (by decide +kernel) rfl rfl (Nat.le_of_ble_eq_true rfl) dX2_init_83 (fun H locs hP hD hS => ?_)
  have hP : va_P G.1 vwCl [(h0, .inr (2, [.null, .null, .ref q1, .ref q2, .ref q3, .ref q4, .ref q5, .ref q6, .ref q7, .ref q8, .ref q9, .ref q10, .null, .int 0, .null])), (q1, .inl (G.2 0, 2020, .inl (fun _ => 0))), (q2, .inl (G.2 0, 2020, .inl (fun _ => 0))), (q3, .inl (G.2 0, 5, .inl (fun _ => 0))), (q4, .inl (G.2 0, 16, .inl (fun _ => 0))), (q5, .inl (G.2 0, 16, .inl (fun _ => 0))), (q6, .inl (G.2 0, 16, .inl (fun _ => 0))), (q7, .inl (G.2 0, 6464, .inl (fun _ => 0))), (q8, .inl (G.2 0, 16, .inl (fun _ => 0))), (q9, .inl (G.2 2, 16, .inl (fun _ => 0))), (q10, .inl (G.2 2, 16, .inl (fun _ => 0)))] H := hP
  have hD : va_D A [(h0, .inr (2, [.null, .null, .ref q1, .ref q2, .ref q3, .ref q4, .ref q5, .ref q6, .ref q7, .ref q8, .ref q9, .ref q10, .null, .int 0, .null])), (q1, .inl (G.2 0, 2020, .inl (fun _ => 0))), (q2, .inl (G.2 0, 2020, .inl (fun _ => 0))), (q3, .inl (G.2 0, 5, .inl (fun _ => 0))), (q4, .inl (G.2 0, 16, .inl (fun _ => 0))), (q5, .inl (G.2 0, 16, .inl (fun _ => 0))), (q6, .inl (G.2 0, 16, .inl (fun _ => 0))), (q7, .inl (G.2 0, 6464, .inl (fun _ => 0))), (q8, .inl (G.2 0, 16, .inl (fun _ => 0))), (q9, .inl (G.2 2, 16, .inl (fun _ => 0))), (q10, .inl (G.2 2, 16, .inl (fun _ => 0)))] := hD
  refine lv_aload_n hx hb dX2_init_86 rfl (lv_at hl 0 rfl) ?_
  refine lv_bipush (v := 16) hx hb dX2_init_87 (by decide) ?_
  refine wn_newa (atype := .int) (ty := .int) (n := 16) (N' := 16) (a0 := (16, .inl (fun _ => 0))) hx hb (hts (.arrayClass .int) (by decide +kernel)) rfl hK 0 rfl hP hD hS hA (fun _ => rfl) (by decide) (by decide) (by decide) (Nat.le_of_ble_eq_true rfl) (Nat.le_of_ble_eq_true rfl) dX2_init_89 (fun q11 H hP hD hS => ?_)
  have hP : va_P G.1 vwCl [(h0, .inr (2, [.null, .null, .ref q1, .ref q2, .ref q3, .ref q4, .ref q5, .ref q6, .ref q7, .ref q8, .ref q9, .ref q10, .null, .int 0, .null])), (q1, .inl (G.2 0, 2020, .inl (fun _ => 0))), (q2, .inl (G.2 0, 2020, .inl (fun _ => 0))), (q3, .inl (G.2 0, 5, .inl (fun _ => 0))), (q4, .inl (G.2 0, 16, .inl (fun _ => 0))), (q5, .inl (G.2 0, 16, .inl (fun _ => 0))), (q6, .inl (G.2 0, 16, .inl (fun _ => 0))), (q7, .inl (G.2 0, 6464, .inl (fun _ => 0))), (q8, .inl (G.2 0, 16, .inl (fun _ => 0))), (q9, .inl (G.2 2, 16, .inl (fun _ => 0))), (q10, .inl (G.2 2, 16, .inl (fun _ => 0))), (q11, .inl (G.2 0, 16, .inl (fun _ => 0)))] H := hP
  have hD : va_D A [(h0, .inr (2, [.null, .null, .ref q1, .ref q2, .ref q3, .ref q4, .ref q5, .ref q6, .ref q7, .ref q8, .ref q9, .ref q10, .null, .int 0, .null])), (q1, .inl (G.2 0, 2020, .inl (fun _ => 0))), (q2, .inl (G.2 0, 2020, .inl (fun _ => 0))), (q3, .inl (G.2 0, 5, .inl (fun _ => 0))), (q4, .inl (G.2 0, 16, .inl (fun _ => 0))), (q5, .inl (G.2 0, 16, .inl (fun _ => 0))), (q6, .inl (G.2 0, 16, .inl (fun _ => 0))), (q7, .inl (G.2 0, 6464, .inl (fun _ => 0))), (q8, .inl (G.2 0, 16, .inl (fun _ => 0))), (q9, .inl (G.2 2, 16, .inl (fun _ => 0))), (q10, .inl (G.2 2, 16, .inl (fun _ => 0))), (q11, .inl (G.2 0, 16, .inl (fun _ => 0)))] := hD
  refine W.widen (k := 11) (n := 10621) (Nat.le_of_ble_eq_true rfl) (Nat.le_of_ble_eq_true rfl) ?_
  refine va_putF (D := G.1) (ci := 2) (v := .ref q11) (ty := (.array .int)) (C := RX2) (T := TX2) (N := 15) hx hb hts (fun w h => List.mem_cons_of_mem _ (List.mem_append_right _ h)) tyX2 tyX2_ok nmX2 hown hK hP hD hS 0 rfl rfl 12 (by decide) (hts (.fieldLink RX2 43 "SlipCoach$Journey" "mistakes" "[I") (by decide +kernel)) (fun _ h9 => h9) rfl hin rfl (by decide +kernel) rfl rfl (Nat.le_of_ble_eq_true rfl) dX2_init_91 (fun H locs hP hD hS => ?_)
  have hP : va_P G.1 vwCl [(h0, .inr (2, [.null, .null, .ref q1, .ref q2, .ref q3, .ref q4, .ref q5, .ref q6, .ref q7, .ref q8, .ref q9, .ref q10, .ref q11, .int 0, .null])), (q1, .inl (G.2 0, 2020, .inl (fun _ => 0))), (q2, .inl (G.2 0, 2020, .inl (fun _ => 0))), (q3, .inl (G.2 0, 5, .inl (fun _ => 0))), (q4, .inl (G.2 0, 16, .inl (fun _ => 0))), (q5, .inl (G.2 0, 16, .inl (fun _ => 0))), (q6, .inl (G.2 0, 16, .inl (fun _ => 0))), (q7, .inl (G.2 0, 6464, .inl (fun _ => 0))), (q8, .inl (G.2 0, 16, .inl (fun _ => 0))), (q9, .inl (G.2 2, 16, .inl (fun _ => 0))), (q10, .inl (G.2 2, 16, .inl (fun _ => 0))), (q11, .inl (G.2 0, 16, .inl (fun _ => 0)))] H := hP
  have hD : va_D A [(h0, .inr (2, [.null, .null, .ref q1, .ref q2, .ref q3, .ref q4, .ref q5, .ref q6, .ref q7, .ref q8, .ref q9, .ref q10, .ref q11, .int 0, .null])), (q1, .inl (G.2 0, 2020, .inl (fun _ => 0))), (q2, .inl (G.2 0, 2020, .inl (fun _ => 0))), (q3, .inl (G.2 0, 5, .inl (fun _ => 0))), (q4, .inl (G.2 0, 16, .inl (fun _ => 0))), (q5, .inl (G.2 0, 16, .inl (fun _ => 0))), (q6, .inl (G.2 0, 16, .inl (fun _ => 0))), (q7, .inl (G.2 0, 6464, .inl (fun _ => 0))), (q8, .inl (G.2 0, 16, .inl (fun _ => 0))), (q9, .inl (G.2 2, 16, .inl (fun _ => 0))), (q10, .inl (G.2 2, 16, .inl (fun _ => 0))), (q11, .inl (G.2 0, 16, .inl (fun _ => 0)))] := hD
  refine lv_aload_n hx hb dX2_init_94 rfl (lv_at hl 0 rfl) ?_
  refine lv_iconst (v := 0) hx hb dX2_init_95 (by decide) ?_
  refine va_put (D := G.1) (ci := 2) (v := .int 0) (ty := .int) (C := RX2) (T := TX2) (N := 15) hx hb hts (fun w h => List.mem_cons_of_mem _ (List.mem_append_right _ h)) tyX2 tyX2_ok nmX2 hown hK hP hD hS 0 rfl rfl 13 (by decide) (hts (.fieldLink RX2 46 "SlipCoach$Journey" "mistakeYards" "I") (by decide +kernel)) (fun _ h9 => h9) rfl (by decide +kernel) rfl rfl (Nat.le_of_ble_eq_true rfl) dX2_init_96 (fun H locs hP hD hS => ?_)
  have hP : va_P G.1 vwCl [(h0, .inr (2, [.null, .null, .ref q1, .ref q2, .ref q3, .ref q4, .ref q5, .ref q6, .ref q7, .ref q8, .ref q9, .ref q10, .ref q11, .int 0, .null])), (q1, .inl (G.2 0, 2020, .inl (fun _ => 0))), (q2, .inl (G.2 0, 2020, .inl (fun _ => 0))), (q3, .inl (G.2 0, 5, .inl (fun _ => 0))), (q4, .inl (G.2 0, 16, .inl (fun _ => 0))), (q5, .inl (G.2 0, 16, .inl (fun _ => 0))), (q6, .inl (G.2 0, 16, .inl (fun _ => 0))), (q7, .inl (G.2 0, 6464, .inl (fun _ => 0))), (q8, .inl (G.2 0, 16, .inl (fun _ => 0))), (q9, .inl (G.2 2, 16, .inl (fun _ => 0))), (q10, .inl (G.2 2, 16, .inl (fun _ => 0))), (q11, .inl (G.2 0, 16, .inl (fun _ => 0)))] H := hP
  have hD : va_D A [(h0, .inr (2, [.null, .null, .ref q1, .ref q2, .ref q3, .ref q4, .ref q5, .ref q6, .ref q7, .ref q8, .ref q9, .ref q10, .ref q11, .int 0, .null])), (q1, .inl (G.2 0, 2020, .inl (fun _ => 0))), (q2, .inl (G.2 0, 2020, .inl (fun _ => 0))), (q3, .inl (G.2 0, 5, .inl (fun _ => 0))), (q4, .inl (G.2 0, 16, .inl (fun _ => 0))), (q5, .inl (G.2 0, 16, .inl (fun _ => 0))), (q6, .inl (G.2 0, 16, .inl (fun _ => 0))), (q7, .inl (G.2 0, 6464, .inl (fun _ => 0))), (q8, .inl (G.2 0, 16, .inl (fun _ => 0))), (q9, .inl (G.2 2, 16, .inl (fun _ => 0))), (q10, .inl (G.2 2, 16, .inl (fun _ => 0))), (q11, .inl (G.2 0, 16, .inl (fun _ => 0)))] := hD
  refine lv_aload_n hx hb dX2_init_99 rfl (lv_at hl 0 rfl) ?_
  refine lv_bipush (v := 16) hx hb dX2_init_100 (by decide) ?_
  refine wn_newa (atype := .int) (ty := .int) (n := 16) (N' := 16) (a0 := (16, .inl (fun _ => 0))) hx hb (hts (.arrayClass .int) (by decide +kernel)) rfl hK 0 rfl hP hD hS hA (fun _ => rfl) (by decide) (by decide) (by decide) (Nat.le_of_ble_eq_true rfl) (Nat.le_of_ble_eq_true rfl) dX2_init_102 (fun q12 H hP hD hS => ?_)
  have hP : va_P G.1 vwCl [(h0, .inr (2, [.null, .null, .ref q1, .ref q2, .ref q3, .ref q4, .ref q5, .ref q6, .ref q7, .ref q8, .ref q9, .ref q10, .ref q11, .int 0, .null])), (q1, .inl (G.2 0, 2020, .inl (fun _ => 0))), (q2, .inl (G.2 0, 2020, .inl (fun _ => 0))), (q3, .inl (G.2 0, 5, .inl (fun _ => 0))), (q4, .inl (G.2 0, 16, .inl (fun _ => 0))), (q5, .inl (G.2 0, 16, .inl (fun _ => 0))), (q6, .inl (G.2 0, 16, .inl (fun _ => 0))), (q7, .inl (G.2 0, 6464, .inl (fun _ => 0))), (q8, .inl (G.2 0, 16, .inl (fun _ => 0))), (q9, .inl (G.2 2, 16, .inl (fun _ => 0))), (q10, .inl (G.2 2, 16, .inl (fun _ => 0))), (q11, .inl (G.2 0, 16, .inl (fun _ => 0))), (q12, .inl (G.2 0, 16, .inl (fun _ => 0)))] H := hP
  have hD : va_D A [(h0, .inr (2, [.null, .null, .ref q1, .ref q2, .ref q3, .ref q4, .ref q5, .ref q6, .ref q7, .ref q8, .ref q9, .ref q10, .ref q11, .int 0, .null])), (q1, .inl (G.2 0, 2020, .inl (fun _ => 0))), (q2, .inl (G.2 0, 2020, .inl (fun _ => 0))), (q3, .inl (G.2 0, 5, .inl (fun _ => 0))), (q4, .inl (G.2 0, 16, .inl (fun _ => 0))), (q5, .inl (G.2 0, 16, .inl (fun _ => 0))), (q6, .inl (G.2 0, 16, .inl (fun _ => 0))), (q7, .inl (G.2 0, 6464, .inl (fun _ => 0))), (q8, .inl (G.2 0, 16, .inl (fun _ => 0))), (q9, .inl (G.2 2, 16, .inl (fun _ => 0))), (q10, .inl (G.2 2, 16, .inl (fun _ => 0))), (q11, .inl (G.2 0, 16, .inl (fun _ => 0))), (q12, .inl (G.2 0, 16, .inl (fun _ => 0)))] := hD
  refine W.widen (k := 12) (n := 10637) (Nat.le_of_ble_eq_true rfl) (Nat.le_of_ble_eq_true rfl) ?_
  refine va_putF (D := G.1) (ci := 2) (v := .ref q12) (ty := (.array .int)) (C := RX2) (T := TX2) (N := 15) hx hb hts (fun w h => List.mem_cons_of_mem _ (List.mem_append_right _ h)) tyX2 tyX2_ok nmX2 hown hK hP hD hS 0 rfl rfl 14 (by decide) (hts (.fieldLink RX2 50 "SlipCoach$Journey" "row" "[I") (by decide +kernel)) (fun _ h9 => h9) rfl hin rfl (by decide +kernel) rfl rfl (Nat.le_of_ble_eq_true rfl) dX2_init_104 (fun H locs hP hD hS => ?_)
  have hP : va_P G.1 vwCl [(h0, .inr (2, [.null, .null, .ref q1, .ref q2, .ref q3, .ref q4, .ref q5, .ref q6, .ref q7, .ref q8, .ref q9, .ref q10, .ref q11, .int 0, .ref q12])), (q1, .inl (G.2 0, 2020, .inl (fun _ => 0))), (q2, .inl (G.2 0, 2020, .inl (fun _ => 0))), (q3, .inl (G.2 0, 5, .inl (fun _ => 0))), (q4, .inl (G.2 0, 16, .inl (fun _ => 0))), (q5, .inl (G.2 0, 16, .inl (fun _ => 0))), (q6, .inl (G.2 0, 16, .inl (fun _ => 0))), (q7, .inl (G.2 0, 6464, .inl (fun _ => 0))), (q8, .inl (G.2 0, 16, .inl (fun _ => 0))), (q9, .inl (G.2 2, 16, .inl (fun _ => 0))), (q10, .inl (G.2 2, 16, .inl (fun _ => 0))), (q11, .inl (G.2 0, 16, .inl (fun _ => 0))), (q12, .inl (G.2 0, 16, .inl (fun _ => 0)))] H := hP
  have hD : va_D A [(h0, .inr (2, [.null, .null, .ref q1, .ref q2, .ref q3, .ref q4, .ref q5, .ref q6, .ref q7, .ref q8, .ref q9, .ref q10, .ref q11, .int 0, .ref q12])), (q1, .inl (G.2 0, 2020, .inl (fun _ => 0))), (q2, .inl (G.2 0, 2020, .inl (fun _ => 0))), (q3, .inl (G.2 0, 5, .inl (fun _ => 0))), (q4, .inl (G.2 0, 16, .inl (fun _ => 0))), (q5, .inl (G.2 0, 16, .inl (fun _ => 0))), (q6, .inl (G.2 0, 16, .inl (fun _ => 0))), (q7, .inl (G.2 0, 6464, .inl (fun _ => 0))), (q8, .inl (G.2 0, 16, .inl (fun _ => 0))), (q9, .inl (G.2 2, 16, .inl (fun _ => 0))), (q10, .inl (G.2 2, 16, .inl (fun _ => 0))), (q11, .inl (G.2 0, 16, .inl (fun _ => 0))), (q12, .inl (G.2 0, 16, .inl (fun _ => 0)))] := hD
  refine lv_aload_n hx hb dX2_init_107 rfl (lv_at hl 0 rfl) ?_
  refine lv_aload_n hx hb dX2_init_108 rfl (lv_at hl 1 rfl) ?_
  refine va_putF (D := G.1) (ci := 2) (v := .ref b0) (ty := (.object "SlipCoach$Track")) (C := RX2) (T := TX2) (N := 15) hx hb hts (fun w h => List.mem_cons_of_mem _ (List.mem_append_right _ h)) tyX2 tyX2_ok nmX2 hown hK hP hD hS 0 rfl rfl 0 (by decide) (hts (.fieldLink RX2 53 "SlipCoach$Journey" "track" "LSlipCoach$Track;") (by decide +kernel)) (fun _ h9 => h9) rfl hin rfl (by decide +kernel) rfl rfl (Nat.le_of_ble_eq_true rfl) dX2_init_109 (fun H locs hP hD hS => ?_)
  have hP : va_P G.1 vwCl [(h0, .inr (2, [.ref b0, .null, .ref q1, .ref q2, .ref q3, .ref q4, .ref q5, .ref q6, .ref q7, .ref q8, .ref q9, .ref q10, .ref q11, .int 0, .ref q12])), (q1, .inl (G.2 0, 2020, .inl (fun _ => 0))), (q2, .inl (G.2 0, 2020, .inl (fun _ => 0))), (q3, .inl (G.2 0, 5, .inl (fun _ => 0))), (q4, .inl (G.2 0, 16, .inl (fun _ => 0))), (q5, .inl (G.2 0, 16, .inl (fun _ => 0))), (q6, .inl (G.2 0, 16, .inl (fun _ => 0))), (q7, .inl (G.2 0, 6464, .inl (fun _ => 0))), (q8, .inl (G.2 0, 16, .inl (fun _ => 0))), (q9, .inl (G.2 2, 16, .inl (fun _ => 0))), (q10, .inl (G.2 2, 16, .inl (fun _ => 0))), (q11, .inl (G.2 0, 16, .inl (fun _ => 0))), (q12, .inl (G.2 0, 16, .inl (fun _ => 0)))] H := hP
  have hD : va_D A [(h0, .inr (2, [.ref b0, .null, .ref q1, .ref q2, .ref q3, .ref q4, .ref q5, .ref q6, .ref q7, .ref q8, .ref q9, .ref q10, .ref q11, .int 0, .ref q12])), (q1, .inl (G.2 0, 2020, .inl (fun _ => 0))), (q2, .inl (G.2 0, 2020, .inl (fun _ => 0))), (q3, .inl (G.2 0, 5, .inl (fun _ => 0))), (q4, .inl (G.2 0, 16, .inl (fun _ => 0))), (q5, .inl (G.2 0, 16, .inl (fun _ => 0))), (q6, .inl (G.2 0, 16, .inl (fun _ => 0))), (q7, .inl (G.2 0, 6464, .inl (fun _ => 0))), (q8, .inl (G.2 0, 16, .inl (fun _ => 0))), (q9, .inl (G.2 2, 16, .inl (fun _ => 0))), (q10, .inl (G.2 2, 16, .inl (fun _ => 0))), (q11, .inl (G.2 0, 16, .inl (fun _ => 0))), (q12, .inl (G.2 0, 16, .inl (fun _ => 0)))] := hD
  refine lv_aload_n hx hb dX2_init_112 rfl (lv_at hl 0 rfl) ?_
  refine lv_aload_n hx hb dX2_init_113 rfl (lv_at hl 2 rfl) ?_
  refine va_putF (D := G.1) (ci := 2) (v := .ref b1) (ty := (.object "SlipCoach$Handlings")) (C := RX2) (T := TX2) (N := 15) hx hb hts (fun w h => List.mem_cons_of_mem _ (List.mem_append_right _ h)) tyX2 tyX2_ok nmX2 hown hK hP hD hS 0 rfl rfl 1 (by decide) (hts (.fieldLink RX2 57 "SlipCoach$Journey" "handlings" "LSlipCoach$Handlings;") (by decide +kernel)) (fun _ h9 => h9) rfl hin rfl (by decide +kernel) rfl rfl (Nat.le_of_ble_eq_true rfl) dX2_init_114 (fun H locs hP hD hS => ?_)
  have hP : va_P G.1 vwCl [(h0, .inr (2, [.ref b0, .ref b1, .ref q1, .ref q2, .ref q3, .ref q4, .ref q5, .ref q6, .ref q7, .ref q8, .ref q9, .ref q10, .ref q11, .int 0, .ref q12])), (q1, .inl (G.2 0, 2020, .inl (fun _ => 0))), (q2, .inl (G.2 0, 2020, .inl (fun _ => 0))), (q3, .inl (G.2 0, 5, .inl (fun _ => 0))), (q4, .inl (G.2 0, 16, .inl (fun _ => 0))), (q5, .inl (G.2 0, 16, .inl (fun _ => 0))), (q6, .inl (G.2 0, 16, .inl (fun _ => 0))), (q7, .inl (G.2 0, 6464, .inl (fun _ => 0))), (q8, .inl (G.2 0, 16, .inl (fun _ => 0))), (q9, .inl (G.2 2, 16, .inl (fun _ => 0))), (q10, .inl (G.2 2, 16, .inl (fun _ => 0))), (q11, .inl (G.2 0, 16, .inl (fun _ => 0))), (q12, .inl (G.2 0, 16, .inl (fun _ => 0)))] H := hP
  have hD : va_D A [(h0, .inr (2, [.ref b0, .ref b1, .ref q1, .ref q2, .ref q3, .ref q4, .ref q5, .ref q6, .ref q7, .ref q8, .ref q9, .ref q10, .ref q11, .int 0, .ref q12])), (q1, .inl (G.2 0, 2020, .inl (fun _ => 0))), (q2, .inl (G.2 0, 2020, .inl (fun _ => 0))), (q3, .inl (G.2 0, 5, .inl (fun _ => 0))), (q4, .inl (G.2 0, 16, .inl (fun _ => 0))), (q5, .inl (G.2 0, 16, .inl (fun _ => 0))), (q6, .inl (G.2 0, 16, .inl (fun _ => 0))), (q7, .inl (G.2 0, 6464, .inl (fun _ => 0))), (q8, .inl (G.2 0, 16, .inl (fun _ => 0))), (q9, .inl (G.2 2, 16, .inl (fun _ => 0))), (q10, .inl (G.2 2, 16, .inl (fun _ => 0))), (q11, .inl (G.2 0, 16, .inl (fun _ => 0))), (q12, .inl (G.2 0, 16, .inl (fun _ => 0)))] := hD
  refine lv_aload_n hx hb dX2_init_117 rfl (lv_at hl 0 rfl) ?_
  refine va_get (D := G.1) (ci := 2) (v := .ref q11) (C := RX2) (T := TX2) (N := 15) hx hb hts (fun w h => List.mem_cons_of_mem _ (List.mem_append_right _ h)) hown hK hP 0 rfl rfl 12 (by decide) (hts (.fieldLink RX2 43 "SlipCoach$Journey" "mistakes" "[I") (by decide +kernel)) (fun _ h9 => h9) rfl dX2_init_118 ?_
  refine lv_iconst (v := (-1)) hx hb dX2_init_121 (by decide) ?_
  refine wq_callv (wr := [(h0, .inr (2, [.ref b0, .ref b1, .ref q1, .ref q2, .ref q3, .ref q4, .ref q5, .ref q6, .ref q7, .ref q8, .ref q9, .ref q10, .ref q11, .int 0, .ref q12])), (q1, .inl (G.2 0, 2020, .inl (fun _ => 0))), (q2, .inl (G.2 0, 2020, .inl (fun _ => 0))), (q3, .inl (G.2 0, 5, .inl (fun _ => 0))), (q4, .inl (G.2 0, 16, .inl (fun _ => 0))), (q5, .inl (G.2 0, 16, .inl (fun _ => 0))), (q6, .inl (G.2 0, 16, .inl (fun _ => 0))), (q7, .inl (G.2 0, 6464, .inl (fun _ => 0))), (q8, .inl (G.2 0, 16, .inl (fun _ => 0))), (q9, .inl (G.2 2, 16, .inl (fun _ => 0))), (q10, .inl (G.2 2, 16, .inl (fun _ => 0))), (q12, .inl (G.2 0, 16, .inl (fun _ => 0)))]) (va_runS (As := [.ref q11, .int (-1)]) (rest := []) ⟨hx, hb, hml, hown, hts⟩ (c_fillI l G q11 16 (-1) (fun _ => 0) H.size (by decide)) (va_cwS 2 hts gX2_init_J7_fill_53178 rfl rfl rfl hdJ7_fill_53178 ⟨(Nat.le_of_ble_eq_true rfl), (Nat.le_of_ble_eq_true rfl)⟩) (preQ_S (wc := [(q11, .inl (G.2 0, 16, .inl (fun _ => 0)))]) hKG hP hD [11] (by decide +kernel) rfl) rfl rfl hl.1 rfl (lv_room (Nat.le_of_ble_eq_true rfl)) dX2_init_122 ⟨(Nat.le_of_ble_eq_true rfl), (Nat.le_of_ble_eq_true rfl)⟩) hS hP hD hA [11] [0, 1, 2, 3, 4, 5, 6, 7, 8, 9, 10, 12] rfl rfl (by decide +kernel) (by decide +kernel) (fun u15 H locs hr13 hP hD hS => ?_)
  obtain ⟨g_14, rfl⟩ : ∃ z, z = u15 := ⟨_, rfl⟩
  have hP : va_P G.1 vwCl [(h0, .inr (2, [.ref b0, .ref b1, .ref q1, .ref q2, .ref q3, .ref q4, .ref q5, .ref q6, .ref q7, .ref q8, .ref q9, .ref q10, .ref q11, .int 0, .ref q12])), (q1, .inl (G.2 0, 2020, .inl (fun _ => 0))), (q2, .inl (G.2 0, 2020, .inl (fun _ => 0))), (q3, .inl (G.2 0, 5, .inl (fun _ => 0))), (q4, .inl (G.2 0, 16, .inl (fun _ => 0))), (q5, .inl (G.2 0, 16, .inl (fun _ => 0))), (q6, .inl (G.2 0, 16, .inl (fun _ => 0))), (q7, .inl (G.2 0, 6464, .inl (fun _ => 0))), (q8, .inl (G.2 0, 16, .inl (fun _ => 0))), (q9, .inl (G.2 2, 16, .inl (fun _ => 0))), (q10, .inl (G.2 2, 16, .inl (fun _ => 0))), (q12, .inl (G.2 0, 16, .inl (fun _ => 0))), (q11, .inl (G.2 0, 16, .inl g_14))] H := hP
  have hD : va_D A [(h0, .inr (2, [.ref b0, .ref b1, .ref q1, .ref q2, .ref q3, .ref q4, .ref q5, .ref q6, .ref q7, .ref q8, .ref q9, .ref q10, .ref q11, .int 0, .ref q12])), (q1, .inl (G.2 0, 2020, .inl (fun _ => 0))), (q2, .inl (G.2 0, 2020, .inl (fun _ => 0))), (q3, .inl (G.2 0, 5, .inl (fun _ => 0))), (q4, .inl (G.2 0, 16, .inl (fun _ => 0))), (q5, .inl (G.2 0, 16, .inl (fun _ => 0))), (q6, .inl (G.2 0, 16, .inl (fun _ => 0))), (q7, .inl (G.2 0, 6464, .inl (fun _ => 0))), (q8, .inl (G.2 0, 16, .inl (fun _ => 0))), (q9, .inl (G.2 2, 16, .inl (fun _ => 0))), (q10, .inl (G.2 2, 16, .inl (fun _ => 0))), (q12, .inl (G.2 0, 16, .inl (fun _ => 0))), (q11, .inl (G.2 0, 16, .inl g_14))] := hD
  refine W.widen (k := 12) (n := 10637) (Nat.le_of_ble_eq_true rfl) (Nat.le_of_ble_eq_true rfl) ?_
  refine W.widen (k := 12) (n := 10637) (Nat.le_of_ble_eq_true rfl) (Nat.le_of_ble_eq_true rfl) ?_
  exact W.vret hx hb hr (fun t ht hW => ⟨⟨(), rfl, trivial, ⟨by rw [ht]; exact hP.sub [] rfl, hD.sub [] (by decide +kernel) rfl⟩⟩, hS.F ht⟩) hS.2.2 dX2_init_125
set_option maxHeartbeats 4000000 in
set_option maxRecDepth 100000 in
theorem c_newBreach (l : Launch) (G : KG) (h0 : Nat) (b0 : Nat) (b1 : Nat) (sz : Nat) : Met l yX0_init wsX0_init ({ frames := 1, cells := 5, slots := 58, locals := 20 }) (preQ G [.ref h0, .ref b0, .ref b1] sz [(h0, .inr (0, [.null, .null, .null, .null, .null, .null, .int 0, .null, .int 0, .int 0, .int 0, .int 0]))]) (va_Qv (fun (u : Unit) => True) (fun u t => atQ G (va_A [(h0, .inr (0, [.null, .null, .null, .null, .null, .null, .int 0, .null, .int 0, .int 0, .int 0, .int 0]))] sz) [] t) (va_A [(h0, .inr (0, [.null, .null, .null, .null, .null, .null, .int 0, .null, .int 0, .int 0, .int 0, .int 0]))] sz)) 5 58 (va_A [(h0, .inr (0, [.null, .null, .null, .null, .null, .null, .int 0, .null, .int 0, .int 0, .int 0, .int 0]))] sz) := by
  refine Met.ofW (cc := cX0_init) (maxL := 3) (ret := none) (by decide) rfl ?_
  intro p e s m args below meth c s₁ B hml hv
  obtain ⟨rfl, hsz, hP, hKG, hD0⟩ := hv
  obtain ⟨hK, hAO⟩ := id hKG
  have hx := B.exec
  have hb := B.bytes
  have hr := B.returns
  have hts := atoms_spec (ws := wsX0_init) B.pre
  have hown : s.vm.findClass RX0 = some m.cls := findClass_of_methodNamed B.named
  have hlocks := B.notSynchronized
  have hin : meth.name = "<init>" := (name_of_methodNamed B.named B.method).1
  subst hsz
  have hD := hD0.self (sz := s.heap.size)
  generalize hAe : va_A [(h0, .inr (0, [.null, .null, .null, .null, .null, .null, .int 0, .null, .int 0, .int 0, .int 0, .int 0]))] s.heap.size = A at hD ⊢
  have hA : ∀ q : Nat, s.heap.size ≤ q → A q := fun q h => by rw [← hAe]; exact Or.inr h
  have hS : va_S A s.heap s.heap [] := va_S.rf
  have hl := lv_entry ([.ref h0, .ref b0, .ref b1]) (n := 3) (Nat.le_of_ble_eq_true rfl)
  rw [lg_entry_eq]
  generalize (lg_sl ([.ref h0, .ref b0, .ref b1]) ++ List.replicate (3 - (lg_sl ([.ref h0, .ref b0, .ref b1])).length) Slot.unset).toArray = ls at hl ⊢
  have hl : lv_has ls 3 [(0, .ref h0), (1, .ref b0), (2, .ref b1)] := hl
  refine lv_aload_n hx hb dX0_init_0 rfl (lv_at hl 0 rfl) ?_
  refine W.objInit hx hb hown (hts (.methodLink RX0 3 objectInit) (by decide +kernel)) (hts (.instanceMethod objectInit) (by decide +kernel)) (hts _ (List.mem_of_getElem? (i := 3) rfl)) rfl (by rw [hml]; exact hl.1) rfl dX0_init_1 (Nat.le_of_ble_eq_true rfl) (Nat.le_of_ble_eq_true rfl) ?_
  refine W.eq (g2 := F0 m 4 ls []) rfl ?_
  refine lv_aload_n hx hb dX0_init_4 rfl (lv_at hl 0 rfl) ?_
  refine lv_iconst (v := 5) hx hb dX0_init_5 (by decide) ?_
  refine wn_newa (atype := .int) (ty := .int) (n := 5) (N' := 5) (a0 := (5, .inl (fun _ => 0))) hx hb (hts (.arrayClass .int) (by decide +kernel)) rfl hK 0 rfl hP hD hS hA (fun _ => rfl) (by decide) (by decide) (by decide) (Nat.le_of_ble_eq_true rfl) (Nat.le_of_ble_eq_true rfl) dX0_init_6 (fun q1 H hP hD hS => ?_)
  have hP : va_P G.1 vwCl [(h0, .inr (0, [.null, .null, .null, .null, .null, .null, .int 0, .null, .int 0, .int 0, .int 0, .int 0])), (q1, .inl (G.2 0, 5, .inl (fun _ => 0)))] H := hP
  have hD : va_D A [(h0, .inr (0, [.null, .null, .null, .null, .null, .null, .int 0, .null, .int 0, .int 0, .int 0, .int 0])), (q1, .inl (G.2 0, 5, .inl (fun _ => 0)))] := hD
  refine W.widen (k := 1) (n := 5) (Nat.le_of_ble_eq_true rfl) (Nat.le_of_ble_eq_true rfl) ?_
  refine va_putF (D := G.1) (ci := 0) (v := .ref q1) (ty := (.array .int)) (C := RX0) (T := TX0) (N := 12) hx hb hts (fun w h => List.mem_cons_of_mem _ (List.mem_append_right _ h)) tyX0 tyX0_ok nmX0 hown hK hP hD hS 0 rfl rfl 2 (by decide) (hts (.fieldLink RX0 9 "SlipCoach$Breach" "starts" "[I") (by decide +kernel)) (fun _ h9 => h9) rfl hin rfl (by decide +kernel) rfl rfl (Nat.le_of_ble_eq_true rfl) dX0_init_8 (fun H locs hP hD hS => ?_)
  have hP : va_P G.1 vwCl [(h0, .inr (0, [.null, .null, .ref q1, .null, .null, .null, .int 0, .null, .int 0, .int 0, .int 0, .int 0])), (q1, .inl (G.2 0, 5, .inl (fun _ => 0)))] H := hP
  have hD : va_D A [(h0, .inr (0, [.null, .null, .ref q1, .null, .null, .null, .int 0, .null, .int 0, .int 0, .int 0, .int 0])), (q1, .inl (G.2 0, 5, .inl (fun _ => 0)))] := hD
  refine lv_aload_n hx hb dX0_init_11 rfl (lv_at hl 0 rfl) ?_
  refine lv_bipush (v := 16) hx hb dX0_init_12 (by decide) ?_
  refine wn_newa (atype := .int) (ty := .int) (n := 16) (N' := 16) (a0 := (16, .inl (fun _ => 0))) hx hb (hts (.arrayClass .int) (by decide +kernel)) rfl hK 0 rfl hP hD hS hA (fun _ => rfl) (by decide) (by decide) (by decide) (Nat.le_of_ble_eq_true rfl) (Nat.le_of_ble_eq_true rfl) dX0_init_14 (fun q2 H hP hD hS => ?_)
  have hP : va_P G.1 vwCl [(h0, .inr (0, [.null, .null, .ref q1, .null, .null, .null, .int 0, .null, .int 0, .int 0, .int 0, .int 0])), (q1, .inl (G.2 0, 5, .inl (fun _ => 0))), (q2, .inl (G.2 0, 16, .inl (fun _ => 0)))] H := hP
  have hD : va_D A [(h0, .inr (0, [.null, .null, .ref q1, .null, .null, .null, .int 0, .null, .int 0, .int 0, .int 0, .int 0])), (q1, .inl (G.2 0, 5, .inl (fun _ => 0))), (q2, .inl (G.2 0, 16, .inl (fun _ => 0)))] := hD
  refine W.widen (k := 2) (n := 21) (Nat.le_of_ble_eq_true rfl) (Nat.le_of_ble_eq_true rfl) ?_
  refine va_putF (D := G.1) (ci := 0) (v := .ref q2) (ty := (.array .int)) (C := RX0) (T := TX0) (N := 12) hx hb hts (fun w h => List.mem_cons_of_mem _ (List.mem_append_right _ h)) tyX0 tyX0_ok nmX0 hown hK hP hD hS 0 rfl rfl 3 (by decide) (hts (.fieldLink RX0 15 "SlipCoach$Breach" "from" "[I") (by decide +kernel)) (fun _ h9 => h9) rfl hin rfl (by decide +kernel) rfl rfl (Nat.le_of_ble_eq_true rfl) dX0_init_16 (fun H locs hP hD hS => ?_)
  have hP : va_P G.1 vwCl [(h0, .inr (0, [.null, .null, .ref q1, .ref q2, .null, .null, .int 0, .null, .int 0, .int 0, .int 0, .int 0])), (q1, .inl (G.2 0, 5, .inl (fun _ => 0))), (q2, .inl (G.2 0, 16, .inl (fun _ => 0)))] H := hP
  have hD : va_D A [(h0, .inr (0, [.null, .null, .ref q1, .ref q2, .null, .null, .int 0, .null, .int 0, .int 0, .int 0, .int 0])), (q1, .inl (G.2 0, 5, .inl (fun _ => 0))), (q2, .inl (G.2 0, 16, .inl (fun _ => 0)))] := hD
  refine lv_aload_n hx hb dX0_init_19 rfl (lv_at hl 0 rfl) ?_
  refine lv_bipush (v := 16) hx hb dX0_init_20 (by decide) ?_
  refine wn_newa (atype := .int) (ty := .int) (n := 16) (N' := 16) (a0 := (16, .inl (fun _ => 0))) hx hb (hts (.arrayClass .int) (by decide +kernel)) rfl hK 0 rfl hP hD hS hA (fun _ => rfl) (by decide) (by decide) (by decide) (Nat.le_of_ble_eq_true rfl) (Nat.le_of_ble_eq_true rfl) dX0_init_22 (fun q3 H hP hD hS => ?_)
  have hP : va_P G.1 vwCl [(h0, .inr (0, [.null, .null, .ref q1, .ref q2, .null, .null, .int 0, .null, .int 0, .int 0, .int 0, .int 0])), (q1, .inl (G.2 0, 5, .inl (fun _ => 0))), (q2, .inl (G.2 0, 16, .inl (fun _ => 0))), (q3, .inl (G.2 0, 16, .inl (fun _ => 0)))] H := hP
  have hD : va_D A [(h0, .inr (0, [.null, .null, .ref q1, .ref q2, .null, .null, .int 0, .null, .int 0, .int 0, .int 0, .int 0])), (q1, .inl (G.2 0, 5, .inl (fun _ => 0))), (q2, .inl (G.2 0, 16, .inl (fun _ => 0))), (q3, .inl (G.2 0, 16, .inl (fun _ => 0)))] := hD
  refine W.widen (k := 3) (n := 37) (Nat.le_of_ble_eq_true rfl) (Nat.le_of_ble_eq_true rfl) ?_
  refine va_putF (D := G.1) (ci := 0) (v := .ref q3) (ty := (.array .int)) (C := RX0) (T := TX0) (N := 12) hx hb hts (fun w h => List.mem_cons_of_mem _ (List.mem_append_right _ h)) tyX0 tyX0_ok nmX0 hown hK hP hD hS 0 rfl rfl 4 (by decide) (hts (.fieldLink RX0 18 "SlipCoach$Breach" "until" "[I") (by decide +kernel)) (fun _ h9 => h9) rfl hin rfl (by decide +kernel) rfl rfl (Nat.le_of_ble_eq_true rfl) dX0_init_24 (fun H locs hP hD hS => ?_)
  have hP : va_P G.1 vwCl [(h0, .inr (0, [.null, .null, .ref q1, .ref q2, .ref q3, .null, .int 0, .null, .int 0, .int 0, .int 0, .int 0])), (q1, .inl (G.2 0, 5, .inl (fun _ => 0))), (q2, .inl (G.2 0, 16, .inl (fun _ => 0))), (q3, .inl (G.2 0, 16, .inl (fun _ => 0)))] H := hP
  have hD : va_D A [(h0, .inr (0, [.null, .null, .ref q1, .ref q2, .ref q3, .null, .int 0, .null, .int 0, .int 0, .int 0, .int 0])), (q1, .inl (G.2 0, 5, .inl (fun _ => 0))), (q2, .inl (G.2 0, 16, .inl (fun _ => 0))), (q3, .inl (G.2 0, 16, .inl (fun _ => 0)))] := hD
  refine lv_aload_n hx hb dX0_init_27 rfl (lv_at hl 0 rfl) ?_
  refine lv_bipush (v := 16) hx hb dX0_init_28 (by decide) ?_
  refine wn_newa (atype := .int) (ty := .int) (n := 16) (N' := 16) (a0 := (16, .inl (fun _ => 0))) hx hb (hts (.arrayClass .int) (by decide +kernel)) rfl hK 0 rfl hP hD hS hA (fun _ => rfl) (by decide) (by decide) (by decide) (Nat.le_of_ble_eq_true rfl) (Nat.le_of_ble_eq_true rfl) dX0_init_30 (fun q4 H hP hD hS => ?_)
  have hP : va_P G.1 vwCl [(h0, .inr (0, [.null, .null, .ref q1, .ref q2, .ref q3, .null, .int 0, .null, .int 0, .int 0, .int 0, .int 0])), (q1, .inl (G.2 0, 5, .inl (fun _ => 0))), (q2, .inl (G.2 0, 16, .inl (fun _ => 0))), (q3, .inl (G.2 0, 16, .inl (fun _ => 0))), (q4, .inl (G.2 0, 16, .inl (fun _ => 0)))] H := hP
  have hD : va_D A [(h0, .inr (0, [.null, .null, .ref q1, .ref q2, .ref q3, .null, .int 0, .null, .int 0, .int 0, .int 0, .int 0])), (q1, .inl (G.2 0, 5, .inl (fun _ => 0))), (q2, .inl (G.2 0, 16, .inl (fun _ => 0))), (q3, .inl (G.2 0, 16, .inl (fun _ => 0))), (q4, .inl (G.2 0, 16, .inl (fun _ => 0)))] := hD
  refine W.widen (k := 4) (n := 53) (Nat.le_of_ble_eq_true rfl) (Nat.le_of_ble_eq_true rfl) ?_
  refine va_putF (D := G.1) (ci := 0) (v := .ref q4) (ty := (.array .int)) (C := RX0) (T := TX0) (N := 12) hx hb hts (fun w h => List.mem_cons_of_mem _ (List.mem_append_right _ h)) tyX0 tyX0_ok nmX0 hown hK hP hD hS 0 rfl rfl 5 (by decide) (hts (.fieldLink RX0 21 "SlipCoach$Breach" "coaches" "[I") (by decide +kernel)) (fun _ h9 => h9) rfl hin rfl (by decide +kernel) rfl rfl (Nat.le_of_ble_eq_true rfl) dX0_init_32 (fun H locs hP hD hS => ?_)
  have hP : va_P G.1 vwCl [(h0, .inr (0, [.null, .null, .ref q1, .ref q2, .ref q3, .ref q4, .int 0, .null, .int 0, .int 0, .int 0, .int 0])), (q1, .inl (G.2 0, 5, .inl (fun _ => 0))), (q2, .inl (G.2 0, 16, .inl (fun _ => 0))), (q3, .inl (G.2 0, 16, .inl (fun _ => 0))), (q4, .inl (G.2 0, 16, .inl (fun _ => 0)))] H := hP
  have hD : va_D A [(h0, .inr (0, [.null, .null, .ref q1, .ref q2, .ref q3, .ref q4, .int 0, .null, .int 0, .int 0, .int 0, .int 0])), (q1, .inl (G.2 0, 5, .inl (fun _ => 0))), (q2, .inl (G.2 0, 16, .inl (fun _ => 0))), (q3, .inl (G.2 0, 16, .inl (fun _ => 0))), (q4, .inl (G.2 0, 16, .inl (fun _ => 0)))] := hD
  refine lv_aload_n hx hb dX0_init_35 rfl (lv_at hl 0 rfl) ?_
  refine lv_iconst (v := 0) hx hb dX0_init_36 (by decide) ?_
  refine va_put (D := G.1) (ci := 0) (v := .int 0) (ty := .int) (C := RX0) (T := TX0) (N := 12) hx hb hts (fun w h => List.mem_cons_of_mem _ (List.mem_append_right _ h)) tyX0 tyX0_ok nmX0 hown hK hP hD hS 0 rfl rfl 6 (by decide) (hts (.fieldLink RX0 24 "SlipCoach$Breach" "coachesAhead" "I") (by decide +kernel)) (fun _ h9 => h9) rfl (by decide +kernel) rfl rfl (Nat.le_of_ble_eq_true rfl) dX0_init_37 (fun H locs hP hD hS => ?_)
  have hP : va_P G.1 vwCl [(h0, .inr (0, [.null, .null, .ref q1, .ref q2, .ref q3, .ref q4, .int 0, .null, .int 0, .int 0, .int 0, .int 0])), (q1, .inl (G.2 0, 5, .inl (fun _ => 0))), (q2, .inl (G.2 0, 16, .inl (fun _ => 0))), (q3, .inl (G.2 0, 16, .inl (fun _ => 0))), (q4, .inl (G.2 0, 16, .inl (fun _ => 0)))] H := hP
  have hD : va_D A [(h0, .inr (0, [.null, .null, .ref q1, .ref q2, .ref q3, .ref q4, .int 0, .null, .int 0, .int 0, .int 0, .int 0])), (q1, .inl (G.2 0, 5, .inl (fun _ => 0))), (q2, .inl (G.2 0, 16, .inl (fun _ => 0))), (q3, .inl (G.2 0, 16, .inl (fun _ => 0))), (q4, .inl (G.2 0, 16, .inl (fun _ => 0)))] := hD
  refine lv_aload_n hx hb dX0_init_40 rfl (lv_at hl 0 rfl) ?_
  refine lv_iconst (v := 5) hx hb dX0_init_41 (by decide) ?_
  refine wn_newa (atype := .int) (ty := .int) (n := 5) (N' := 5) (a0 := (5, .inl (fun _ => 0))) hx hb (hts (.arrayClass .int) (by decide +kernel)) rfl hK 0 rfl hP hD hS hA (fun _ => rfl) (by decide) (by decide) (by decide) (Nat.le_of_ble_eq_true rfl) (Nat.le_of_ble_eq_true rfl) dX0_init_42 (fun q5 H hP hD hS => ?_)
  have hP : va_P G.1 vwCl [(h0, .inr (0, [.null, .null, .ref q1, .ref q2, .ref q3, .ref q4, .int 0, .null, .int 0, .int 0, .int 0, .int 0])), (q1, .inl (G.2 0, 5, .inl (fun _ => 0))), (q2, .inl (G.2 0, 16, .inl (fun _ => 0))), (q3, .inl (G.2 0, 16, .inl (fun _ => 0))), (q4, .inl (G.2 0, 16, .inl (fun _ => 0))), (q5, .inl (G.2 0, 5, .inl (fun _ => 0)))] H := hP
  have hD : va_D A [(h0, .inr (0, [.null, .null, .ref q1, .ref q2, .ref q3, .ref q4, .int 0, .null, .int 0, .int 0, .int 0, .int 0])), (q1, .inl (G.2 0, 5, .inl (fun _ => 0))), (q2, .inl (G.2 0, 16, .inl (fun _ => 0))), (q3, .inl (G.2 0, 16, .inl (fun _ => 0))), (q4, .inl (G.2 0, 16, .inl (fun _ => 0))), (q5, .inl (G.2 0, 5, .inl (fun _ => 0)))] := hD
  refine W.widen (k := 5) (n := 58) (Nat.le_of_ble_eq_true rfl) (Nat.le_of_ble_eq_true rfl) ?_
  refine va_putF (D := G.1) (ci := 0) (v := .ref q5) (ty := (.array .int)) (C := RX0) (T := TX0) (N := 12) hx hb hts (fun w h => List.mem_cons_of_mem _ (List.mem_append_right _ h)) tyX0 tyX0_ok nmX0 hown hK hP hD hS 0 rfl rfl 7 (by decide) (hts (.fieldLink RX0 28 "SlipCoach$Breach" "trains" "[I") (by decide +kernel)) (fun _ h9 => h9) rfl hin rfl (by decide +kernel) rfl rfl (Nat.le_of_ble_eq_true rfl) dX0_init_44 (fun H locs hP hD hS => ?_)
  have hP : va_P G.1 vwCl [(h0, .inr (0, [.null, .null, .ref q1, .ref q2, .ref q3, .ref q4, .int 0, .ref q5, .int 0, .int 0, .int 0, .int 0])), (q1, .inl (G.2 0, 5, .inl (fun _ => 0))), (q2, .inl (G.2 0, 16, .inl (fun _ => 0))), (q3, .inl (G.2 0, 16, .inl (fun _ => 0))), (q4, .inl (G.2 0, 16, .inl (fun _ => 0))), (q5, .inl (G.2 0, 5, .inl (fun _ => 0)))] H := hP
  have hD : va_D A [(h0, .inr (0, [.null, .null, .ref q1, .ref q2, .ref q3, .ref q4, .int 0, .ref q5, .int 0, .int 0, .int 0, .int 0])), (q1, .inl (G.2 0, 5, .inl (fun _ => 0))), (q2, .inl (G.2 0, 16, .inl (fun _ => 0))), (q3, .inl (G.2 0, 16, .inl (fun _ => 0))), (q4, .inl (G.2 0, 16, .inl (fun _ => 0))), (q5, .inl (G.2 0, 5, .inl (fun _ => 0)))] := hD
  refine lv_aload_n hx hb dX0_init_47 rfl (lv_at hl 0 rfl) ?_
  refine lv_iconst (v := 0) hx hb dX0_init_48 (by decide) ?_
  refine va_put (D := G.1) (ci := 0) (v := .int 0) (ty := .int) (C := RX0) (T := TX0) (N := 12) hx hb hts (fun w h => List.mem_cons_of_mem _ (List.mem_append_right _ h)) tyX0 tyX0_ok nmX0 hown hK hP hD hS 0 rfl rfl 8 (by decide) (hts (.fieldLink RX0 31 "SlipCoach$Breach" "trainsAhead" "I") (by decide +kernel)) (fun _ h9 => h9) rfl (by decide +kernel) rfl rfl (Nat.le_of_ble_eq_true rfl) dX0_init_49 (fun H locs hP hD hS => ?_)
  have hP : va_P G.1 vwCl [(h0, .inr (0, [.null, .null, .ref q1, .ref q2, .ref q3, .ref q4, .int 0, .ref q5, .int 0, .int 0, .int 0, .int 0])), (q1, .inl (G.2 0, 5, .inl (fun _ => 0))), (q2, .inl (G.2 0, 16, .inl (fun _ => 0))), (q3, .inl (G.2 0, 16, .inl (fun _ => 0))), (q4, .inl (G.2 0, 16, .inl (fun _ => 0))), (q5, .inl (G.2 0, 5, .inl (fun _ => 0)))] H := hP
  have hD : va_D A [(h0, .inr (0, [.null, .null, .ref q1, .ref q2, .ref q3, .ref q4, .int 0, .ref q5, .int 0, .int 0, .int 0, .int 0])), (q1, .inl (G.2 0, 5, .inl (fun _ => 0))), (q2, .inl (G.2 0, 16, .inl (fun _ => 0))), (q3, .inl (G.2 0, 16, .inl (fun _ => 0))), (q4, .inl (G.2 0, 16, .inl (fun _ => 0))), (q5, .inl (G.2 0, 5, .inl (fun _ => 0)))] := hD
  refine lv_aload_n hx hb dX0_init_52 rfl (lv_at hl 0 rfl) ?_
  refine lv_iconst (v := (-1)) hx hb dX0_init_53 (by decide) ?_
  refine va_put (D := G.1) (ci := 0) (v := .int (-1)) (ty := .int) (C := RX0) (T := TX0) (N := 12) hx hb hts (fun w h => List.mem_cons_of_mem _ (List.mem_append_right _ h)) tyX0 tyX0_ok nmX0 hown hK hP hD hS 0 rfl rfl 9 (by decide) (hts (.fieldLink RX0 34 "SlipCoach$Breach" "tick" "I") (by decide +kernel)) (fun _ h9 => h9) rfl (by decide +kernel) rfl rfl (Nat.le_of_ble_eq_true rfl) dX0_init_54 (fun H locs hP hD hS => ?_)
  have hP : va_P G.1 vwCl [(h0, .inr (0, [.null, .null, .ref q1, .ref q2, .ref q3, .ref q4, .int 0, .ref q5, .int 0, .int (-1), .int 0, .int 0])), (q1, .inl (G.2 0, 5, .inl (fun _ => 0))), (q2, .inl (G.2 0, 16, .inl (fun _ => 0))), (q3, .inl (G.2 0, 16, .inl (fun _ => 0))), (q4, .inl (G.2 0, 16, .inl (fun _ => 0))), (q5, .inl (G.2 0, 5, .inl (fun _ => 0)))] H := hP
  have hD : va_D A [(h0, .inr (0, [.null, .null, .ref q1, .ref q2, .ref q3, .ref q4, .int 0, .ref q5, .int 0, .int (-1), .int 0, .int 0])), (q1, .inl (G.2 0, 5, .inl (fun _ => 0))), (q2, .inl (G.2 0, 16, .inl (fun _ => 0))), (q3, .inl (G.2 0, 16, .inl (fun _ => 0))), (q4, .inl (G.2 0, 16, .inl (fun _ => 0))), (q5, .inl (G.2 0, 5, .inl (fun _ => 0)))] := hD
  refine lv_aload_n hx hb dX0_init_57 rfl (lv_at hl 0 rfl) ?_
  refine lv_iconst (v := (-1)) hx hb dX0_init_58 (by decide) ?_
  refine va_put (D := G.1) (ci := 0) (v := .int (-1)) (ty := .int) (C := RX0) (T := TX0) (N := 12) hx hb hts (fun w h => List.mem_cons_of_mem _ (List.mem_append_right _ h)) tyX0 tyX0_ok nmX0 hown hK hP hD hS 0 rfl rfl 10 (by decide) (hts (.fieldLink RX0 37 "SlipCoach$Breach" "behind" "I") (by decide +kernel)) (fun _ h9 => h9) rfl (by decide +kernel) rfl rfl (Nat.le_of_ble_eq_true rfl) dX0_init_59 (fun H locs hP hD hS => ?_)
  have hP : va_P G.1 vwCl [(h0, .inr (0, [.null, .null, .ref q1, .ref q2, .ref q3, .ref q4, .int 0, .ref q5, .int 0, .int (-1), .int (-1), .int 0])), (q1, .inl (G.2 0, 5, .inl (fun _ => 0))), (q2, .inl (G.2 0, 16, .inl (fun _ => 0))), (q3, .inl (G.2 0, 16, .inl (fun _ => 0))), (q4, .inl (G.2 0, 16, .inl (fun _ => 0))), (q5, .inl (G.2 0, 5, .inl (fun _ => 0)))] H := hP
  have hD : va_D A [(h0, .inr (0, [.null, .null, .ref q1, .ref q2, .ref q3, .ref q4, .int 0, .ref q5, .int 0, .int (-1), .int (-1), .int 0])), (q1, .inl (G.2 0, 5, .inl (fun _ => 0))), (q2, .inl (G.2 0, 16, .inl (fun _ => 0))), (q3, .inl (G.2 0, 16, .inl (fun _ => 0))), (q4, .inl (G.2 0, 16, .inl (fun _ => 0))), (q5, .inl (G.2 0, 5, .inl (fun _ => 0)))] := hD
  refine lv_aload_n hx hb dX0_init_62 rfl (lv_at hl 0 rfl) ?_
  refine lv_iconst (v := (-1)) hx hb dX0_init_63 (by decide) ?_
  refine va_put (D := G.1) (ci := 0) (v := .int (-1)) (ty := .int) (C := RX0) (T := TX0) (N := 12) hx hb hts (fun w h => List.mem_cons_of_mem _ (List.mem_append_right _ h)) tyX0 tyX0_ok nmX0 hown hK hP hD hS 0 rfl rfl 11 (by decide) (hts (.fieldLink RX0 40 "SlipCoach$Breach" "reached" "I") (by decide +kernel)) (fun _ h9 => h9) rfl (by decide +kernel) rfl rfl (Nat.le_of_ble_eq_true rfl) dX0_init_64 (fun H locs hP hD hS => ?_)
  have hP : va_P G.1 vwCl [(h0, .inr (0, [.null, .null, .ref q1, .ref q2, .ref q3, .ref q4, .int 0, .ref q5, .int 0, .int (-1), .int (-1), .int (-1)])), (q1, .inl (G.2 0, 5, .inl (fun _ => 0))), (q2, .inl (G.2 0, 16, .inl (fun _ => 0))), (q3, .inl (G.2 0, 16, .inl (fun _ => 0))), (q4, .inl (G.2 0, 16, .inl (fun _ => 0))), (q5, .inl (G.2 0, 5, .inl (fun _ => 0)))] H := hP
  have hD : va_D A [(h0, .inr (0, [.null, .null, .ref q1, .ref q2, .ref q3, .ref q4, .int 0, .ref q5, .int 0, .int (-1), .int (-1), .int (-1)])), (q1, .inl (G.2 0, 5, .inl (fun _ => 0))), (q2, .inl (G.2 0, 16, .inl (fun _ => 0))), (q3, .inl (G.2 0, 16, .inl (fun _ => 0))), (q4, .inl (G.2 0, 16, .inl (fun _ => 0))), (q5, .inl (G.2 0, 5, .inl (fun _ => 0)))] := hD
  refine lv_aload_n hx hb dX0_init_67 rfl (lv_at hl 0 rfl) ?_
  refine lv_aload_n hx hb dX0_init_68 rfl (lv_at hl 1 rfl) ?_
  refine va_putF (D := G.1) (ci := 0) (v := .ref b0) (ty := (.object "SlipCoach$Track")) (C := RX0) (T := TX0) (N := 12) hx hb hts (fun w h => List.mem_cons_of_mem _ (List.mem_append_right _ h)) tyX0 tyX0_ok nmX0 hown hK hP hD hS 0 rfl rfl 0 (by decide) (hts (.fieldLink RX0 43 "SlipCoach$Breach" "track" "LSlipCoach$Track;") (by decide +kernel)) (fun _ h9 => h9) rfl hin rfl (by decide +kernel) rfl rfl (Nat.le_of_ble_eq_true rfl) dX0_init_69 (fun H locs hP hD hS => ?_)
  have hP : va_P G.1 vwCl [(h0, .inr (0, [.ref b0, .null, .ref q1, .ref q2, .ref q3, .ref q4, .int 0, .ref q5, .int 0, .int (-1), .int (-1), .int (-1)])), (q1, .inl (G.2 0, 5, .inl (fun _ => 0))), (q2, .inl (G.2 0, 16, .inl (fun _ => 0))), (q3, .inl (G.2 0, 16, .inl (fun _ => 0))), (q4, .inl (G.2 0, 16, .inl (fun _ => 0))), (q5, .inl (G.2 0, 5, .inl (fun _ => 0)))] H := hP
  have hD : va_D A [(h0, .inr (0, [.ref b0, .null, .ref q1, .ref q2, .ref q3, .ref q4, .int 0, .ref q5, .int 0, .int (-1), .int (-1), .int (-1)])), (q1, .inl (G.2 0, 5, .inl (fun _ => 0))), (q2, .inl (G.2 0, 16, .inl (fun _ => 0))), (q3, .inl (G.2 0, 16, .inl (fun _ => 0))), (q4, .inl (G.2 0, 16, .inl (fun _ => 0))), (q5, .inl (G.2 0, 5, .inl (fun _ => 0)))] := hD
  refine lv_aload_n hx hb dX0_init_72 rfl (lv_at hl 0 rfl) ?_
  refine lv_aload_n hx hb dX0_init_73 rfl (lv_at hl 2 rfl) ?_
  refine va_putF (D := G.1) (ci := 0) (v := .ref b1) (ty := (.object "SlipCoach$Journey")) (C := RX0) (T := TX0) (N := 12) hx hb hts (fun w h => List.mem_cons_of_mem _ (List.mem_append_right _ h)) tyX0 tyX0_ok nmX0 hown hK hP hD hS 0 rfl rfl 1 (by decide) (hts (.fieldLink RX0 47 "SlipCoach$Breach" "journey" "LSlipCoach$Journey;") (by decide +kernel)) (fun _ h9 => h9) rfl hin rfl (by decide +kernel) rfl rfl (Nat.le_of_ble_eq_true rfl) dX0_init_74 (fun H locs hP hD hS => ?_)
  have hP : va_P G.1 vwCl [(h0, .inr (0, [.ref b0, .ref b1, .ref q1, .ref q2, .ref q3, .ref q4, .int 0, .ref q5, .int 0, .int (-1), .int (-1), .int (-1)])), (q1, .inl (G.2 0, 5, .inl (fun _ => 0))), (q2, .inl (G.2 0, 16, .inl (fun _ => 0))), (q3, .inl (G.2 0, 16, .inl (fun _ => 0))), (q4, .inl (G.2 0, 16, .inl (fun _ => 0))), (q5, .inl (G.2 0, 5, .inl (fun _ => 0)))] H := hP
  have hD : va_D A [(h0, .inr (0, [.ref b0, .ref b1, .ref q1, .ref q2, .ref q3, .ref q4, .int 0, .ref q5, .int 0, .int (-1), .int (-1), .int (-1)])), (q1, .inl (G.2 0, 5, .inl (fun _ => 0))), (q2, .inl (G.2 0, 16, .inl (fun _ => 0))), (q3, .inl (G.2 0, 16, .inl (fun _ => 0))), (q4, .inl (G.2 0, 16, .inl (fun _ => 0))), (q5, .inl (G.2 0, 5, .inl (fun _ => 0)))] := hD
  refine W.widen (k := 5) (n := 58) (Nat.le_of_ble_eq_true rfl) (Nat.le_of_ble_eq_true rfl) ?_
  exact W.vret hx hb hr (fun t ht hW => ⟨⟨(), rfl, trivial, ⟨by rw [ht]; exact hP.sub [] rfl, hD.sub [] (by decide +kernel) rfl⟩⟩, hS.F ht⟩) hS.2.2 dX0_init_77
