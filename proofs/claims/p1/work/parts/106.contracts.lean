set_option maxHeartbeats 4000000 in
set_option maxRecDepth 100000 in
theorem c_newBreach (l : Launch) (G : KG) (h0 : Nat) (b0 : Nat) (b1 : Nat) (sz : Nat) : Met l yX0_init wgX0_init ({ frames := 1, cells := 5, slots := 58, locals := 20 }) (preQ G [.ref h0, .ref b0, .ref b1] sz [(h0, .inr (0, [.null, .null, .null, .null, .null, .null, .int 0, .null, .int 0, .int 0, .int 0, .int 0]))]) (va_Qv (fun (u : Unit) => True) (fun u t => atQ G (va_A [(h0, .inr (0, [.null, .null, .null, .null, .null, .null, .int 0, .null, .int 0, .int 0, .int 0, .int 0]))] sz) [] t) (va_A [(h0, .inr (0, [.null, .null, .null, .null, .null, .null, .int 0, .null, .int 0, .int 0, .int 0, .int 0]))] sz)) 5 58 (va_A [(h0, .inr (0, [.null, .null, .null, .null, .null, .null, .int 0, .null, .int 0, .int 0, .int 0, .int 0]))] sz) := by
  refine Met.ofW (cc := cX0_init) (maxL := 3) (ret := none) (by decide) rfl ?_
  intro p e s m args below meth c s₁ B hml hv
  obtain ⟨rfl, hsz, hP, hKG, hD0⟩ := hv
  obtain ⟨hK, hAO⟩ := id hKG
  have hx := B.exec
  have hb := B.bytes
  have hr := B.returns
  have hts := atoms_spec (ws := wgX0_init) B.pre
  have hw : ∀ w ∈ wG, w.before _ s = true := fun w h => hts w (List.mem_cons_of_mem _ h)
  have hown : s.vm.findClass RX0 = some m.cls := findClass_of_methodNamed B.named
  have hlocks := B.notSynchronized
  have hin : meth.name = "<init>" := (name_of_methodNamed B.named B.method).1
  subst hsz
  have hD := hD0.self (sz := s.heap.size)
  generalize hAe : va_A [(h0, .inr (0, [.null, .null, .null, .null, .null, .null, .int 0, .null, .int 0, .int 0, .int 0, .int 0]))] s.heap.size = A at hD ⊢
  have hA : ∀ q : Nat, s.heap.size ≤ q → A q := fun q h => by rw [← hAe]; exact Or.inr h
  have hS : va_S A s.heap s.heap [] := va_S.rf
  have hl := lv_entry ([.ref h0, .ref b0, .ref b1]) (n := 3) (Nat.le_of_ble_eq_true rfl)
  rw [lg_entry_eq]
  generalize (lg_sl ([.ref h0, .ref b0, .ref b1]) ++ List.replicate (3 - (lg_sl ([.ref h0, .ref b0, .ref b1])).length) Slot.unset).toArray = ls at hl ⊢
  have hl : lv_has ls 3 [(0, .ref h0), (1, .ref b0), (2, .ref b1)] := hl
  refine lv_aload_n hx hb dX0_init_0 rfl (lv_at hl 0 rfl) ?_
  refine W.objInit hx hb hown (hw _ kw_230) (hw _ kw_180) (hw _ kw_181) rfl (by rw [hml]; exact hl.1) rfl dX0_init_1 (Nat.le_of_ble_eq_true rfl) (Nat.le_of_ble_eq_true rfl) ?_
  refine W.eq (g2 := F0 m 4 ls []) rfl ?_
  refine lv_aload_n hx hb dX0_init_4 rfl (lv_at hl 0 rfl) ?_
  refine lv_iconst (v := 5) hx hb dX0_init_5 (by decide) ?_
  refine wn_newa (atype := .int) (ty := .int) (n := 5) (N' := 5) (a0 := (5, .inl (fun _ => 0))) hx hb (hw _ kw_184) rfl hK 0 rfl hP hD hS hA (fun _ => rfl) (by decide) (by decide) (by decide) (Nat.le_of_ble_eq_true rfl) (Nat.le_of_ble_eq_true rfl) dX0_init_6 (fun q1 H hP hD hS => ?_)
  have hP : va_P G.1 vwCl [(h0, .inr (0, [.null, .null, .null, .null, .null, .null, .int 0, .null, .int 0, .int 0, .int 0, .int 0])), (q1, .inl (G.2 0, 5, .inl (fun _ => 0)))] H := hP
  have hD : va_D A [(h0, .inr (0, [.null, .null, .null, .null, .null, .null, .int 0, .null, .int 0, .int 0, .int 0, .int 0])), (q1, .inl (G.2 0, 5, .inl (fun _ => 0)))] := hD
  refine W.widen (k := 1) (n := 5) (Nat.le_of_ble_eq_true rfl) (Nat.le_of_ble_eq_true rfl) ?_
  refine va_putF (D := G.1) (ci := 0) (v := .ref q1) (ty := (.array .int)) (C := RX0) (T := TX0) (N := 12) hx hb hw inGX0 tyX0 tyX0_ok nmX0 hown hK hP hD hS 0 rfl rfl 2 (by decide) (hw _ kw_231) (fun _ h9 => h9) rfl hin rfl (by decide +kernel) rfl rfl (Nat.le_of_ble_eq_true rfl) dX0_init_8 (fun H locs hP hD hS => ?_)
  have hP : va_P G.1 vwCl [(h0, .inr (0, [.null, .null, .ref q1, .null, .null, .null, .int 0, .null, .int 0, .int 0, .int 0, .int 0])), (q1, .inl (G.2 0, 5, .inl (fun _ => 0)))] H := hP
  have hD : va_D A [(h0, .inr (0, [.null, .null, .ref q1, .null, .null, .null, .int 0, .null, .int 0, .int 0, .int 0, .int 0])), (q1, .inl (G.2 0, 5, .inl (fun _ => 0)))] := hD
  refine lv_aload_n hx hb dX0_init_11 rfl (lv_at hl 0 rfl) ?_
  refine lv_bipush (v := 16) hx hb dX0_init_12 (by decide) ?_
  refine wn_newa (atype := .int) (ty := .int) (n := 16) (N' := 16) (a0 := (16, .inl (fun _ => 0))) hx hb (hw _ kw_184) rfl hK 0 rfl hP hD hS hA (fun _ => rfl) (by decide) (by decide) (by decide) (Nat.le_of_ble_eq_true rfl) (Nat.le_of_ble_eq_true rfl) dX0_init_14 (fun q2 H hP hD hS => ?_)
  have hP : va_P G.1 vwCl [(h0, .inr (0, [.null, .null, .ref q1, .null, .null, .null, .int 0, .null, .int 0, .int 0, .int 0, .int 0])), (q1, .inl (G.2 0, 5, .inl (fun _ => 0))), (q2, .inl (G.2 0, 16, .inl (fun _ => 0)))] H := hP
  have hD : va_D A [(h0, .inr (0, [.null, .null, .ref q1, .null, .null, .null, .int 0, .null, .int 0, .int 0, .int 0, .int 0])), (q1, .inl (G.2 0, 5, .inl (fun _ => 0))), (q2, .inl (G.2 0, 16, .inl (fun _ => 0)))] := hD
  refine W.widen (k := 2) (n := 21) (Nat.le_of_ble_eq_true rfl) (Nat.le_of_ble_eq_true rfl) ?_
  refine va_putF (D := G.1) (ci := 0) (v := .ref q2) (ty := (.array .int)) (C := RX0) (T := TX0) (N := 12) hx hb hw inGX0 tyX0 tyX0_ok nmX0 hown hK hP hD hS 0 rfl rfl 3 (by decide) (hw _ kw_232) (fun _ h9 => h9) rfl hin rfl (by decide +kernel) rfl rfl (Nat.le_of_ble_eq_true rfl) dX0_init_16 (fun H locs hP hD hS => ?_)
  have hP : va_P G.1 vwCl [(h0, .inr (0, [.null, .null, .ref q1, .ref q2, .null, .null, .int 0, .null, .int 0, .int 0, .int 0, .int 0])), (q1, .inl (G.2 0, 5, .inl (fun _ => 0))), (q2, .inl (G.2 0, 16, .inl (fun _ => 0)))] H := hP
  have hD : va_D A [(h0, .inr (0, [.null, .null, .ref q1, .ref q2, .null, .null, .int 0, .null, .int 0, .int 0, .int 0, .int 0])), (q1, .inl (G.2 0, 5, .inl (fun _ => 0))), (q2, .inl (G.2 0, 16, .inl (fun _ => 0)))] := hD
  refine lv_aload_n hx hb dX0_init_19 rfl (lv_at hl 0 rfl) ?_
  refine lv_bipush (v := 16) hx hb dX0_init_20 (by decide) ?_
  refine wn_newa (atype := .int) (ty := .int) (n := 16) (N' := 16) (a0 := (16, .inl (fun _ => 0))) hx hb (hw _ kw_184) rfl hK 0 rfl hP hD hS hA (fun _ => rfl) (by decide) (by decide) (by decide) (Nat.le_of_ble_eq_true rfl) (Nat.le_of_ble_eq_true rfl) dX0_init_22 (fun q3 H hP hD hS => ?_)
  have hP : va_P G.1 vwCl [(h0, .inr (0, [.null, .null, .ref q1, .ref q2, .null, .null, .int 0, .null, .int 0, .int 0, .int 0, .int 0])), (q1, .inl (G.2 0, 5, .inl (fun _ => 0))), (q2, .inl (G.2 0, 16, .inl (fun _ => 0))), (q3, .inl (G.2 0, 16, .inl (fun _ => 0)))] H := hP
  have hD : va_D A [(h0, .inr (0, [.null, .null, .ref q1, .ref q2, .null, .null, .int 0, .null, .int 0, .int 0, .int 0, .int 0])), (q1, .inl (G.2 0, 5, .inl (fun _ => 0))), (q2, .inl (G.2 0, 16, .inl (fun _ => 0))), (q3, .inl (G.2 0, 16, .inl (fun _ => 0)))] := hD
  refine W.widen (k := 3) (n := 37) (Nat.le_of_ble_eq_true rfl) (Nat.le_of_ble_eq_true rfl) ?_
  refine va_putF (D := G.1) (ci := 0) (v := .ref q3) (ty := (.array .int)) (C := RX0) (T := TX0) (N := 12) hx hb hw inGX0 tyX0 tyX0_ok nmX0 hown hK hP hD hS 0 rfl rfl 4 (by decide) (hw _ kw_233) (fun _ h9 => h9) rfl hin rfl (by decide +kernel) rfl rfl (Nat.le_of_ble_eq_true rfl) dX0_init_24 (fun H locs hP hD hS => ?_)
  have hP : va_P G.1 vwCl [(h0, .inr (0, [.null, .null, .ref q1, .ref q2, .ref q3, .null, .int 0, .null, .int 0, .int 0, .int 0, .int 0])), (q1, .inl (G.2 0, 5, .inl (fun _ => 0))), (q2, .inl (G.2 0, 16, .inl (fun _ => 0))), (q3, .inl (G.2 0, 16, .inl (fun _ => 0)))] H := hP
  have hD : va_D A [(h0, .inr (0, [.null, .null, .ref q1, .ref q2, .ref q3, .null, .int 0, .null, .int 0, .int 0, .int 0, .int 0])), (q1, .inl (G.2 0, 5, .inl (fun _ => 0))), (q2, .inl (G.2 0, 16, .inl (fun _ => 0))), (q3, .inl (G.2 0, 16, .inl (fun _ => 0)))] := hD
  refine lv_aload_n hx hb dX0_init_27 rfl (lv_at hl 0 rfl) ?_
  refine lv_bipush (v := 16) hx hb dX0_init_28 (by decide) ?_
  refine wn_newa (atype := .int) (ty := .int) (n := 16) (N' := 16) (a0 := (16, .inl (fun _ => 0))) hx hb (hw _ kw_184) rfl hK 0 rfl hP hD hS hA (fun _ => rfl) (by decide) (by decide) (by decide) (Nat.le_of_ble_eq_true rfl) (Nat.le_of_ble_eq_true rfl) dX0_init_30 (fun q4 H hP hD hS => ?_)
  have hP : va_P G.1 vwCl [(h0, .inr (0, [.null, .null, .ref q1, .ref q2, .ref q3, .null, .int 0, .null, .int 0, .int 0, .int 0, .int 0])), (q1, .inl (G.2 0, 5, .inl (fun _ => 0))), (q2, .inl (G.2 0, 16, .inl (fun _ => 0))), (q3, .inl (G.2 0, 16, .inl (fun _ => 0))), (q4, .inl (G.2 0, 16, .inl (fun _ => 0)))] H := hP
  have hD : va_D A [(h0, .inr (0, [.null, .null, .ref q1, .ref q2, .ref q3, .null, .int 0, .null, .int 0, .int 0, .int 0, .int 0])), (q1, .inl (G.2 0, 5, .inl (fun _ => 0))), (q2, .inl (G.2 0, 16, .inl (fun _ => 0))), (q3, .inl (G.2 0, 16, .inl (fun _ => 0))), (q4, .inl (G.2 0, 16, .inl (fun _ => 0)))] := hD
  refine W.widen (k := 4) (n := 53) (Nat.le_of_ble_eq_true rfl) (Nat.le_of_ble_eq_true rfl) ?_
  refine va_putF (D := G.1) (ci := 0) (v := .ref q4) (ty := (.array .int)) (C := RX0) (T := TX0) (N := 12) hx hb hw inGX0 tyX0 tyX0_ok nmX0 hown hK hP hD hS 0 rfl rfl 5 (by decide) (hw _ kw_234) (fun _ h9 => h9) rfl hin rfl (by decide +kernel) rfl rfl (Nat.le_of_ble_eq_true rfl) dX0_init_32 (fun H locs hP hD hS => ?_)
  have hP : va_P G.1 vwCl [(h0, .inr (0, [.null, .null, .ref q1, .ref q2, .ref q3, .ref q4, .int 0, .null, .int 0, .int 0, .int 0, .int 0])), (q1, .inl (G.2 0, 5, .inl (fun _ => 0))), (q2, .inl (G.2 0, 16, .inl (fun _ => 0))), (q3, .inl (G.2 0, 16, .inl (fun _ => 0))), (q4, .inl (G.2 0, 16, .inl (fun _ => 0)))] H := hP
  have hD : va_D A [(h0, .inr (0, [.null, .null, .ref q1, .ref q2, .ref q3, .ref q4, .int 0, .null, .int 0, .int 0, .int 0, .int 0])), (q1, .inl (G.2 0, 5, .inl (fun _ => 0))), (q2, .inl (G.2 0, 16, .inl (fun _ => 0))), (q3, .inl (G.2 0, 16, .inl (fun _ => 0))), (q4, .inl (G.2 0, 16, .inl (fun _ => 0)))] := hD
  refine lv_aload_n hx hb dX0_init_35 rfl (lv_at hl 0 rfl) ?_
  refine lv_iconst (v := 0) hx hb dX0_init_36 (by decide) ?_
  refine va_put (D := G.1) (ci := 0) (v := .int 0) (ty := .int) (C := RX0) (T := TX0) (N := 12) hx hb hw inGX0 tyX0 tyX0_ok nmX0 hown hK hP hD hS 0 rfl rfl 6 (by decide) (hw _ kw_235) (fun _ h9 => h9) rfl (by decide +kernel) rfl rfl (Nat.le_of_ble_eq_true rfl) dX0_init_37 (fun H locs hP hD hS => ?_)
  have hP : va_P G.1 vwCl [(h0, .inr (0, [.null, .null, .ref q1, .ref q2, .ref q3, .ref q4, .int 0, .null, .int 0, .int 0, .int 0, .int 0])), (q1, .inl (G.2 0, 5, .inl (fun _ => 0))), (q2, .inl (G.2 0, 16, .inl (fun _ => 0))), (q3, .inl (G.2 0, 16, .inl (fun _ => 0))), (q4, .inl (G.2 0, 16, .inl (fun _ => 0)))] H := hP
  have hD : va_D A [(h0, .inr (0, [.null, .null, .ref q1, .ref q2, .ref q3, .ref q4, .int 0, .null, .int 0, .int 0, .int 0, .int 0])), (q1, .inl (G.2 0, 5, .inl (fun _ => 0))), (q2, .inl (G.2 0, 16, .inl (fun _ => 0))), (q3, .inl (G.2 0, 16, .inl (fun _ => 0))), (q4, .inl (G.2 0, 16, .inl (fun _ => 0)))] := hD
  refine lv_aload_n hx hb dX0_init_40 rfl (lv_at hl 0 rfl) ?_
  refine lv_iconst (v := 5) hx hb dX0_init_41 (by decide) ?_
  refine wn_newa (atype := .int) (ty := .int) (n := 5) (N' := 5) (a0 := (5, .inl (fun _ => 0))) hx hb (hw _ kw_184) rfl hK 0 rfl hP hD hS hA (fun _ => rfl) (by decide) (by decide) (by decide) (Nat.le_of_ble_eq_true rfl) (Nat.le_of_ble_eq_true rfl) dX0_init_42 (fun q5 H hP hD hS => ?_)
  have hP : va_P G.1 vwCl [(h0, .inr (0, [.null, .null, .ref q1, .ref q2, .ref q3, .ref q4, .int 0, .null, .int 0, .int 0, .int 0, .int 0])), (q1, .inl (G.2 0, 5, .inl (fun _ => 0))), (q2, .inl (G.2 0, 16, .inl (fun _ => 0))), (q3, .inl (G.2 0, 16, .inl (fun _ => 0))), (q4, .inl (G.2 0, 16, .inl (fun _ => 0))), (q5, .inl (G.2 0, 5, .inl (fun _ => 0)))] H := hP
  have hD : va_D A [(h0, .inr (0, [.null, .null, .ref q1, .ref q2, .ref q3, .ref q4, .int 0, .null, .int 0, .int 0, .int 0, .int 0])), (q1, .inl (G.2 0, 5, .inl (fun _ => 0))), (q2, .inl (G.2 0, 16, .inl (fun _ => 0))), (q3, .inl (G.2 0, 16, .inl (fun _ => 0))), (q4, .inl (G.2 0, 16, .inl (fun _ => 0))), (q5, .inl (G.2 0, 5, .inl (fun _ => 0)))] := hD
  refine W.widen (k := 5) (n := 58) (Nat.le_of_ble_eq_true rfl) (Nat.le_of_ble_eq_true rfl) ?_
  refine va_putF (D := G.1) (ci := 0) (v := .ref q5) (ty := (.array .int)) (C := RX0) (T := TX0) (N := 12) hx hb hw inGX0 tyX0 tyX0_ok nmX0 hown hK hP hD hS 0 rfl rfl 7 (by decide) (hw _ kw_236) (fun _ h9 => h9) rfl hin rfl (by decide +kernel) rfl rfl (Nat.le_of_ble_eq_true rfl) dX0_init_44 (fun H locs hP hD hS => ?_)
  have hP : va_P G.1 vwCl [(h0, .inr (0, [.null, .null, .ref q1, .ref q2, .ref q3, .ref q4, .int 0, .ref q5, .int 0, .int 0, .int 0, .int 0])), (q1, .inl (G.2 0, 5, .inl (fun _ => 0))), (q2, .inl (G.2 0, 16, .inl (fun _ => 0))), (q3, .inl (G.2 0, 16, .inl (fun _ => 0))), (q4, .inl (G.2 0, 16, .inl (fun _ => 0))), (q5, .inl (G.2 0, 5, .inl (fun _ => 0)))] H := hP
  have hD : va_D A [(h0, .inr (0, [.null, .null, .ref q1, .ref q2, .ref q3, .ref q4, .int 0, .ref q5, .int 0, .int 0, .int 0, .int 0])), (q1, .inl (G.2 0, 5, .inl (fun _ => 0))), (q2, .inl (G.2 0, 16, .inl (fun _ => 0))), (q3, .inl (G.2 0, 16, .inl (fun _ => 0))), (q4, .inl (G.2 0, 16, .inl (fun _ => 0))), (q5, .inl (G.2 0, 5, .inl (fun _ => 0)))] := hD
  refine lv_aload_n hx hb dX0_init_47 rfl (lv_at hl 0 rfl) ?_
  refine lv_iconst (v := 0) hx hb dX0_init_48 (by decide) ?_
  refine va_put (D := G.1) (ci := 0) (v := .int 0) (ty := .int) (C := RX0) (T := TX0) (N := 12) hx hb hw inGX0 tyX0 tyX0_ok nmX0 hown hK hP hD hS 0 rfl rfl 8 (by decide) (hw _ kw_237) (fun _ h9 => h9) rfl (by decide +kernel) rfl rfl (Nat.le_of_ble_eq_true rfl) dX0_init_49 (fun H locs hP hD hS => ?_)
  have hP : va_P G.1 vwCl [(h0, .inr (0, [.null, .null, .ref q1, .ref q2, .ref q3, .ref q4, .int 0, .ref q5, .int 0, .int 0, .int 0, .int 0])), (q1, .inl (G.2 0, 5, .inl (fun _ => 0))), (q2, .inl (G.2 0, 16, .inl (fun _ => 0))), (q3, .inl (G.2 0, 16, .inl (fun _ => 0))), (q4, .inl (G.2 0, 16, .inl (fun _ => 0))), (q5, .inl (G.2 0, 5, .inl (fun _ => 0)))] H := hP
  have hD : va_D A [(h0, .inr (0, [.null, .null, .ref q1, .ref q2, .ref q3, .ref q4, .int 0, .ref q5, .int 0, .int 0, .int 0, .int 0])), (q1, .inl (G.2 0, 5, .inl (fun _ => 0))), (q2, .inl (G.2 0, 16, .inl (fun _ => 0))), (q3, .inl (G.2 0, 16, .inl (fun _ => 0))), (q4, .inl (G.2 0, 16, .inl (fun _ => 0))), (q5, .inl (G.2 0, 5, .inl (fun _ => 0)))] := hD
  refine lv_aload_n hx hb dX0_init_52 rfl (lv_at hl 0 rfl) ?_
  refine lv_iconst (v := (-1)) hx hb dX0_init_53 (by decide) ?_
  refine va_put (D := G.1) (ci := 0) (v := .int (-1)) (ty := .int) (C := RX0) (T := TX0) (N := 12) hx hb hw inGX0 tyX0 tyX0_ok nmX0 hown hK hP hD hS 0 rfl rfl 9 (by decide) (hw _ kw_238) (fun _ h9 => h9) rfl (by decide +kernel) rfl rfl (Nat.le_of_ble_eq_true rfl) dX0_init_54 (fun H locs hP hD hS => ?_)
  have hP : va_P G.1 vwCl [(h0, .inr (0, [.null, .null, .ref q1, .ref q2, .ref q3, .ref q4, .int 0, .ref q5, .int 0, .int (-1), .int 0, .int 0])), (q1, .inl (G.2 0, 5, .inl (fun _ => 0))), (q2, .inl (G.2 0, 16, .inl (fun _ => 0))), (q3, .inl (G.2 0, 16, .inl (fun _ => 0))), (q4, .inl (G.2 0, 16, .inl (fun _ => 0))), (q5, .inl (G.2 0, 5, .inl (fun _ => 0)))] H := hP
  have hD : va_D A [(h0, .inr (0, [.null, .null, .ref q1, .ref q2, .ref q3, .ref q4, .int 0, .ref q5, .int 0, .int (-1), .int 0, .int 0])), (q1, .inl (G.2 0, 5, .inl (fun _ => 0))), (q2, .inl (G.2 0, 16, .inl (fun _ => 0))), (q3, .inl (G.2 0, 16, .inl (fun _ => 0))), (q4, .inl (G.2 0, 16, .inl (fun _ => 0))), (q5, .inl (G.2 0, 5, .inl (fun _ => 0)))] := hD
  refine lv_aload_n hx hb dX0_init_57 rfl (lv_at hl 0 rfl) ?_
  refine lv_iconst (v := (-1)) hx hb dX0_init_58 (by decide) ?_
  refine va_put (D := G.1) (ci := 0) (v := .int (-1)) (ty := .int) (C := RX0) (T := TX0) (N := 12) hx hb hw inGX0 tyX0 tyX0_ok nmX0 hown hK hP hD hS 0 rfl rfl 10 (by decide) (hw _ kw_239) (fun _ h9 => h9) rfl (by decide +kernel) rfl rfl (Nat.le_of_ble_eq_true rfl) dX0_init_59 (fun H locs hP hD hS => ?_)
  have hP : va_P G.1 vwCl [(h0, .inr (0, [.null, .null, .ref q1, .ref q2, .ref q3, .ref q4, .int 0, .ref q5, .int 0, .int (-1), .int (-1), .int 0])), (q1, .inl (G.2 0, 5, .inl (fun _ => 0))), (q2, .inl (G.2 0, 16, .inl (fun _ => 0))), (q3, .inl (G.2 0, 16, .inl (fun _ => 0))), (q4, .inl (G.2 0, 16, .inl (fun _ => 0))), (q5, .inl (G.2 0, 5, .inl (fun _ => 0)))] H := hP
  have hD : va_D A [(h0, .inr (0, [.null, .null, .ref q1, .ref q2, .ref q3, .ref q4, .int 0, .ref q5, .int 0, .int (-1), .int (-1), .int 0])), (q1, .inl (G.2 0, 5, .inl (fun _ => 0))), (q2, .inl (G.2 0, 16, .inl (fun _ => 0))), (q3, .inl (G.2 0, 16, .inl (fun _ => 0))), (q4, .inl (G.2 0, 16, .inl (fun _ => 0))), (q5, .inl (G.2 0, 5, .inl (fun _ => 0)))] := hD
  refine lv_aload_n hx hb dX0_init_62 rfl (lv_at hl 0 rfl) ?_
  refine lv_iconst (v := (-1)) hx hb dX0_init_63 (by decide) ?_
  refine va_put (D := G.1) (ci := 0) (v := .int (-1)) (ty := .int) (C := RX0) (T := TX0) (N := 12) hx hb hw inGX0 tyX0 tyX0_ok nmX0 hown hK hP hD hS 0 rfl rfl 11 (by decide) (hw _ kw_240) (fun _ h9 => h9) rfl (by decide +kernel) rfl rfl (Nat.le_of_ble_eq_true rfl) dX0_init_64 (fun H locs hP hD hS => ?_)
  have hP : va_P G.1 vwCl [(h0, .inr (0, [.null, .null, .ref q1, .ref q2, .ref q3, .ref q4, .int 0, .ref q5, .int 0, .int (-1), .int (-1), .int (-1)])), (q1, .inl (G.2 0, 5, .inl (fun _ => 0))), (q2, .inl (G.2 0, 16, .inl (fun _ => 0))), (q3, .inl (G.2 0, 16, .inl (fun _ => 0))), (q4, .inl (G.2 0, 16, .inl (fun _ => 0))), (q5, .inl (G.2 0, 5, .inl (fun _ => 0)))] H := hP
  have hD : va_D A [(h0, .inr (0, [.null, .null, .ref q1, .ref q2, .ref q3, .ref q4, .int 0, .ref q5, .int 0, .int (-1), .int (-1), .int (-1)])), (q1, .inl (G.2 0, 5, .inl (fun _ => 0))), (q2, .inl (G.2 0, 16, .inl (fun _ => 0))), (q3, .inl (G.2 0, 16, .inl (fun _ => 0))), (q4, .inl (G.2 0, 16, .inl (fun _ => 0))), (q5, .inl (G.2 0, 5, .inl (fun _ => 0)))] := hD
  refine lv_aload_n hx hb dX0_init_67 rfl (lv_at hl 0 rfl) ?_
  refine lv_aload_n hx hb dX0_init_68 rfl (lv_at hl 1 rfl) ?_
  refine va_putF (D := G.1) (ci := 0) (v := .ref b0) (ty := (.object "SlipCoach$Track")) (C := RX0) (T := TX0) (N := 12) hx hb hw inGX0 tyX0 tyX0_ok nmX0 hown hK hP hD hS 0 rfl rfl 0 (by decide) (hw _ kw_241) (fun _ h9 => h9) rfl hin rfl (by decide +kernel) rfl rfl (Nat.le_of_ble_eq_true rfl) dX0_init_69 (fun H locs hP hD hS => ?_)
  have hP : va_P G.1 vwCl [(h0, .inr (0, [.ref b0, .null, .ref q1, .ref q2, .ref q3, .ref q4, .int 0, .ref q5, .int 0, .int (-1), .int (-1), .int (-1)])), (q1, .inl (G.2 0, 5, .inl (fun _ => 0))), (q2, .inl (G.2 0, 16, .inl (fun _ => 0))), (q3, .inl (G.2 0, 16, .inl (fun _ => 0))), (q4, .inl (G.2 0, 16, .inl (fun _ => 0))), (q5, .inl (G.2 0, 5, .inl (fun _ => 0)))] H := hP
  have hD : va_D A [(h0, .inr (0, [.ref b0, .null, .ref q1, .ref q2, .ref q3, .ref q4, .int 0, .ref q5, .int 0, .int (-1), .int (-1), .int (-1)])), (q1, .inl (G.2 0, 5, .inl (fun _ => 0))), (q2, .inl (G.2 0, 16, .inl (fun _ => 0))), (q3, .inl (G.2 0, 16, .inl (fun _ => 0))), (q4, .inl (G.2 0, 16, .inl (fun _ => 0))), (q5, .inl (G.2 0, 5, .inl (fun _ => 0)))] := hD
  refine lv_aload_n hx hb dX0_init_72 rfl (lv_at hl 0 rfl) ?_
  refine lv_aload_n hx hb dX0_init_73 rfl (lv_at hl 2 rfl) ?_
  refine va_putF (D := G.1) (ci := 0) (v := .ref b1) (ty := (.object "SlipCoach$Journey")) (C := RX0) (T := TX0) (N := 12) hx hb hw inGX0 tyX0 tyX0_ok nmX0 hown hK hP hD hS 0 rfl rfl 1 (by decide) (hw _ kw_242) (fun _ h9 => h9) rfl hin rfl (by decide +kernel) rfl rfl (Nat.le_of_ble_eq_true rfl) dX0_init_74 (fun H locs hP hD hS => ?_)
  have hP : va_P G.1 vwCl [(h0, .inr (0, [.ref b0, .ref b1, .ref q1, .ref q2, .ref q3, .ref q4, .int 0, .ref q5, .int 0, .int (-1), .int (-1), .int (-1)])), (q1, .inl (G.2 0, 5, .inl (fun _ => 0))), (q2, .inl (G.2 0, 16, .inl (fun _ => 0))), (q3, .inl (G.2 0, 16, .inl (fun _ => 0))), (q4, .inl (G.2 0, 16, .inl (fun _ => 0))), (q5, .inl (G.2 0, 5, .inl (fun _ => 0)))] H := hP
  have hD : va_D A [(h0, .inr (0, [.ref b0, .ref b1, .ref q1, .ref q2, .ref q3, .ref q4, .int 0, .ref q5, .int 0, .int (-1), .int (-1), .int (-1)])), (q1, .inl (G.2 0, 5, .inl (fun _ => 0))), (q2, .inl (G.2 0, 16, .inl (fun _ => 0))), (q3, .inl (G.2 0, 16, .inl (fun _ => 0))), (q4, .inl (G.2 0, 16, .inl (fun _ => 0))), (q5, .inl (G.2 0, 5, .inl (fun _ => 0)))] := hD
  refine W.widen (k := 5) (n := 58) (Nat.le_of_ble_eq_true rfl) (Nat.le_of_ble_eq_true rfl) ?_
  exact W.vret hx hb hr (fun t ht hW => ⟨⟨(), rfl, trivial, ⟨by rw [ht]; exact hP.sub [] rfl, hD.sub [] (by decide +kernel) rfl⟩⟩, hS.F ht⟩) hS.2.2 dX0_init_77
set_option maxHeartbeats 4000000 in
set_option maxRecDepth 100000 in
theorem c_newShunting (l : Launch) (G : KG) (h0 : Nat) (sz : Nat) : Met l yX7_init wgX7_init ({ frames := 1, cells := 2, slots := 32, locals := 20 }) (preQ G [.ref h0] sz [(h0, .inr (7, [.null, .null, .int 0]))]) (va_Qv (fun (u : Unit) => True) (fun u t => atQ G (va_A [(h0, .inr (7, [.null, .null, .int 0]))] sz) [] t) (va_A [(h0, .inr (7, [.null, .null, .int 0]))] sz)) 2 32 (va_A [(h0, .inr (7, [.null, .null, .int 0]))] sz) := by
  refine Met.ofW (cc := cX7_init) (maxL := 1) (ret := none) (by decide) rfl ?_
  intro p e s m args below meth c s₁ B hml hv
  obtain ⟨rfl, hsz, hP, hKG, hD0⟩ := hv
  obtain ⟨hK, hAO⟩ := id hKG
  have hx := B.exec
  have hb := B.bytes
  have hr := B.returns
  have hts := atoms_spec (ws := wgX7_init) B.pre
  have hw : ∀ w ∈ wG, w.before _ s = true := fun w h => hts w (List.mem_cons_of_mem _ h)
  have hown : s.vm.findClass RX7 = some m.cls := findClass_of_methodNamed B.named
  have hlocks := B.notSynchronized
  have hin : meth.name = "<init>" := (name_of_methodNamed B.named B.method).1
  subst hsz
  have hD := hD0.self (sz := s.heap.size)
  generalize hAe : va_A [(h0, .inr (7, [.null, .null, .int 0]))] s.heap.size = A at hD ⊢
  have hA : ∀ q : Nat, s.heap.size ≤ q → A q := fun q h => by rw [← hAe]; exact Or.inr h
  have hS : va_S A s.heap s.heap [] := va_S.rf
  have hl := lv_entry ([.ref h0]) (n := 1) (Nat.le_of_ble_eq_true rfl)
  rw [lg_entry_eq]
  generalize (lg_sl ([.ref h0]) ++ List.replicate (1 - (lg_sl ([.ref h0])).length) Slot.unset).toArray = ls at hl ⊢
  have hl : lv_has ls 1 [(0, .ref h0)] := hl
  refine lv_aload_n hx hb dX7_init_0 rfl (lv_at hl 0 rfl) ?_
  refine W.objInit hx hb hown (hw _ kw_243) (hw _ kw_180) (hw _ kw_181) rfl (by rw [hml]; exact hl.1) rfl dX7_init_1 (Nat.le_of_ble_eq_true rfl) (Nat.le_of_ble_eq_true rfl) ?_
  refine W.eq (g2 := F0 m 4 ls []) rfl ?_
  refine lv_aload_n hx hb dX7_init_4 rfl (lv_at hl 0 rfl) ?_
  refine lv_bipush (v := 16) hx hb dX7_init_5 (by decide) ?_
  refine wn_newa (atype := .int) (ty := .int) (n := 16) (N' := 16) (a0 := (16, .inl (fun _ => 0))) hx hb (hw _ kw_184) rfl hK 0 rfl hP hD hS hA (fun _ => rfl) (by decide) (by decide) (by decide) (Nat.le_of_ble_eq_true rfl) (Nat.le_of_ble_eq_true rfl) dX7_init_7 (fun q1 H hP hD hS => ?_)
  have hP : va_P G.1 vwCl [(h0, .inr (7, [.null, .null, .int 0])), (q1, .inl (G.2 0, 16, .inl (fun _ => 0)))] H := hP
  have hD : va_D A [(h0, .inr (7, [.null, .null, .int 0])), (q1, .inl (G.2 0, 16, .inl (fun _ => 0)))] := hD
  refine W.widen (k := 1) (n := 16) (Nat.le_of_ble_eq_true rfl) (Nat.le_of_ble_eq_true rfl) ?_
  refine va_putF (D := G.1) (ci := 7) (v := .ref q1) (ty := (.array .int)) (C := RX7) (T := TX7) (N := 3) hx hb hw inGX7 tyX7 tyX7_ok nmX7 hown hK hP hD hS 0 rfl rfl 0 (by decide) (hw _ kw_244) (fun _ h9 => h9) rfl hin rfl (by decide +kernel) rfl rfl (Nat.le_of_ble_eq_true rfl) dX7_init_9 (fun H locs hP hD hS => ?_)
  have hP : va_P G.1 vwCl [(h0, .inr (7, [.ref q1, .null, .int 0])), (q1, .inl (G.2 0, 16, .inl (fun _ => 0)))] H := hP
  have hD : va_D A [(h0, .inr (7, [.ref q1, .null, .int 0])), (q1, .inl (G.2 0, 16, .inl (fun _ => 0)))] := hD
  refine lv_aload_n hx hb dX7_init_12 rfl (lv_at hl 0 rfl) ?_
  refine lv_bipush (v := 16) hx hb dX7_init_13 (by decide) ?_
  refine wn_newa (atype := .int) (ty := .int) (n := 16) (N' := 16) (a0 := (16, .inl (fun _ => 0))) hx hb (hw _ kw_184) rfl hK 0 rfl hP hD hS hA (fun _ => rfl) (by decide) (by decide) (by decide) (Nat.le_of_ble_eq_true rfl) (Nat.le_of_ble_eq_true rfl) dX7_init_15 (fun q2 H hP hD hS => ?_)
  have hP : va_P G.1 vwCl [(h0, .inr (7, [.ref q1, .null, .int 0])), (q1, .inl (G.2 0, 16, .inl (fun _ => 0))), (q2, .inl (G.2 0, 16, .inl (fun _ => 0)))] H := hP
  have hD : va_D A [(h0, .inr (7, [.ref q1, .null, .int 0])), (q1, .inl (G.2 0, 16, .inl (fun _ => 0))), (q2, .inl (G.2 0, 16, .inl (fun _ => 0)))] := hD
  refine W.widen (k := 2) (n := 32) (Nat.le_of_ble_eq_true rfl) (Nat.le_of_ble_eq_true rfl) ?_
  refine va_putF (D := G.1) (ci := 7) (v := .ref q2) (ty := (.array .int)) (C := RX7) (T := TX7) (N := 3) hx hb hw inGX7 tyX7 tyX7_ok nmX7 hown hK hP hD hS 0 rfl rfl 1 (by decide) (hw _ kw_245) (fun _ h9 => h9) rfl hin rfl (by decide +kernel) rfl rfl (Nat.le_of_ble_eq_true rfl) dX7_init_17 (fun H locs hP hD hS => ?_)
  have hP : va_P G.1 vwCl [(h0, .inr (7, [.ref q1, .ref q2, .int 0])), (q1, .inl (G.2 0, 16, .inl (fun _ => 0))), (q2, .inl (G.2 0, 16, .inl (fun _ => 0)))] H := hP
  have hD : va_D A [(h0, .inr (7, [.ref q1, .ref q2, .int 0])), (q1, .inl (G.2 0, 16, .inl (fun _ => 0))), (q2, .inl (G.2 0, 16, .inl (fun _ => 0)))] := hD
  refine lv_aload_n hx hb dX7_init_20 rfl (lv_at hl 0 rfl) ?_
  refine lv_iconst (v := 0) hx hb dX7_init_21 (by decide) ?_
  refine va_put (D := G.1) (ci := 7) (v := .int 0) (ty := .int) (C := RX7) (T := TX7) (N := 3) hx hb hw inGX7 tyX7 tyX7_ok nmX7 hown hK hP hD hS 0 rfl rfl 2 (by decide) (hw _ kw_246) (fun _ h9 => h9) rfl (by decide +kernel) rfl rfl (Nat.le_of_ble_eq_true rfl) dX7_init_22 (fun H locs hP hD hS => ?_)
  have hP : va_P G.1 vwCl [(h0, .inr (7, [.ref q1, .ref q2, .int 0])), (q1, .inl (G.2 0, 16, .inl (fun _ => 0))), (q2, .inl (G.2 0, 16, .inl (fun _ => 0)))] H := hP
  have hD : va_D A [(h0, .inr (7, [.ref q1, .ref q2, .int 0])), (q1, .inl (G.2 0, 16, .inl (fun _ => 0))), (q2, .inl (G.2 0, 16, .inl (fun _ => 0)))] := hD
  refine W.widen (k := 2) (n := 32) (Nat.le_of_ble_eq_true rfl) (Nat.le_of_ble_eq_true rfl) ?_
  exact W.vret hx hb hr (fun t ht hW => ⟨⟨(), rfl, trivial, ⟨by rw [ht]; exact hP.sub [] rfl, hD.sub [] (by decide +kernel) rfl⟩⟩, hS.F ht⟩) hS.2.2 dX7_init_25
set_option maxHeartbeats 4000000 in
set_option maxRecDepth 100000 in
theorem c_in (l : Launch) (G : KG) (a0 : Int64) (a1 : Int64) (a2 : Int64) : Met l yX11_in wgX11_in ({ frames := 0, cells := 0, slots := 0, locals := 0 }) (preS G [.long a0, .long a1, .long a2] []) (vp_Si (fun (r : Int32) => (r = 1 ∧ ¬ a0 < a1 ∧ ¬ a2 < a0) ∨ (r = 0 ∧ a0 < a1) ∨ (r = 0 ∧ a2 < a0))) 0 0 (fun _ => False) := by
  refine Met.ofW (cc := cX11_in) (maxL := 6) (ret := (some .boolean)) (by decide) rfl ?_
  intro p e s m args below meth c s₁ B hml hv
  obtain ⟨rfl, hP, hKG⟩ := hv
  obtain ⟨hK, hAO⟩ := id hKG
  have hx := B.exec
  have hb := B.bytes
  have hr := B.returns
  have hts := atoms_spec (ws := wgX11_in) B.pre
  have hw : ∀ w ∈ wG, w.before _ s = true := fun w h => hts w (List.mem_cons_of_mem _ h)
  have hown : s.vm.findClass RX11 = some m.cls := findClass_of_methodNamed B.named
  have hlocks := B.notSynchronized
  have hl := lv_entry ([.long a0, .long a1, .long a2]) (n := 6) (Nat.le_of_ble_eq_true rfl)
  rw [lg_entry_eq]
  generalize (lg_sl ([.long a0, .long a1, .long a2]) ++ List.replicate (6 - (lg_sl ([.long a0, .long a1, .long a2])).length) Slot.unset).toArray = ls at hl ⊢
  have hl : lv_has ls 6 [(0, .long a0), (2, .long a1), (4, .long a2)] := hl
  refine lv_lload_n hx hb dX11_in_0 rfl (lv_at hl 0 rfl) ?_
  refine lv_lload_n hx hb dX11_in_1 rfl (lv_at hl 1 rfl) ?_
  refine W.lcmp hx hb dX11_in_2 ?_
  refine lv_if_lt (tgt := 17) hx hb dX11_in_3 (by decide) (fun c1 => ?_) (fun c1 => ?_)
  · have c1 : a0 < a1 := (lg_cmp_lt _ _).mp c1
    refine lv_iconst (v := 0) hx hb dX11_in_17 (by decide) ?_
    exact W.zret (ty := .boolean) (v := 0) hx hb hr (by decide) (fun t ht hW => ⟨0, rfl, (Or.inr (Or.inl ⟨rfl, c1⟩)), ht⟩) (fun _ h => absurd h List.not_mem_nil) dX11_in_18
  · have c1 : ¬ (a0 < a1) := fun z => c1 ((lg_cmp_lt _ _).mpr z)
    refine lv_lload_n hx hb dX11_in_6 rfl (lv_at hl 0 rfl) ?_
    refine lv_lload hx hb dX11_in_7 (lv_at hl 2 rfl) ?_
    refine W.lcmp hx hb dX11_in_9 ?_
    refine lv_if_gt (tgt := 17) hx hb dX11_in_10 (by decide) (fun c2 => ?_) (fun c2 => ?_)
    · have c2 : a2 < a0 := (lg_cmp_gt _ _).mp c2
      refine lv_iconst (v := 0) hx hb dX11_in_17 (by decide) ?_
      exact W.zret (ty := .boolean) (v := 0) hx hb hr (by decide) (fun t ht hW => ⟨0, rfl, (Or.inr (Or.inr ⟨rfl, c2⟩)), ht⟩) (fun _ h => absurd h List.not_mem_nil) dX11_in_18
    · have c2 : ¬ (a2 < a0) := fun z => c2 ((lg_cmp_gt _ _).mpr z)
      refine lv_iconst (v := 1) hx hb dX11_in_13 (by decide) ?_
      refine lv_goto (tgt := 18) hx hb dX11_in_14 (by decide) ?_
      exact W.zret (ty := .boolean) (v := 1) hx hb hr (by decide) (fun t ht hW => ⟨1, rfl, (Or.inl ⟨rfl, c1, c2⟩), ht⟩) (fun _ h => absurd h List.not_mem_nil) dX11_in_18
set_option maxHeartbeats 4000000 in
set_option maxRecDepth 100000 in
theorem c_isSlot (l : Launch) (G : KG) (p0 : Int32) : Met l yX11_isSlot wgX11_isSlot ({ frames := 1, cells := 0, slots := 0, locals := 25 }) (preS G [.int p0] []) (vp_Si (fun (r : Int32) => (r = 1 ∧ ¬ p0 < 0 ∧ ¬ 3 < p0) ∨ (r = 0 ∧ p0 < 0) ∨ (r = 0 ∧ 3 < p0))) 0 0 (fun _ => False) := by
  refine Met.ofW (cc := cX11_isSlot) (maxL := 1) (ret := (some .boolean)) (by decide) rfl ?_
  intro p e s m args below meth c s₁ B hml hv
  obtain ⟨rfl, hP, hKG⟩ := hv
  obtain ⟨hK, hAO⟩ := id hKG
  have hx := B.exec
  have hb := B.bytes
  have hr := B.returns
  have hts := atoms_spec (ws := wgX11_isSlot) B.pre
  have hw : ∀ w ∈ wG, w.before _ s = true := fun w h => hts w (List.mem_cons_of_mem _ h)
  have hown : s.vm.findClass RX11 = some m.cls := findClass_of_methodNamed B.named
  have hlocks := B.notSynchronized
  have hl := lv_entry ([.int p0]) (n := 1) (Nat.le_of_ble_eq_true rfl)
  rw [lg_entry_eq]
  generalize (lg_sl ([.int p0]) ++ List.replicate (1 - (lg_sl ([.int p0])).length) Slot.unset).toArray = ls at hl ⊢
  have hl : lv_has ls 1 [(0, .int p0)] := hl
  refine lv_iload_n hx hb dX11_isSlot_0 rfl (lv_at hl 0 rfl) ?_
  refine lv_i2l hx hb dX11_isSlot_1 rfl ?_
  refine lv_lconst (v := 0) hx hb dX11_isSlot_2 (by decide) ?_
  refine lv_ldc2 (v := 3) hx hb hown (hw _ kw_295) dX11_isSlot_3 ?_
  refine vp_callSi (va_Run.run (va_runS (As := [.long p0.toInt64, .long 0, .long 3]) (rest := []) ⟨hx, hb, hml, hown, hw⟩ (c_in l G p0.toInt64 0 3) (va_cwS 3 hw (gdT kw_297 kw_298 kw_299 kw_296) rfl rfl rfl hdX11_in ⟨(Nat.le_of_ble_eq_true rfl), (Nat.le_of_ble_eq_true rfl)⟩) (preS_S (wc := []) hKG hP [] rfl) rfl rfl hl.1 rfl (lv_room (Nat.le_of_ble_eq_true rfl)) dX11_isSlot_6 ⟨(Nat.le_of_ble_eq_true rfl), (Nat.le_of_ble_eq_true rfl)⟩)) (fun r1 hr1 => ?_)
  rcases hr1 with ⟨rfl, c2, c3⟩ | ⟨rfl, c4⟩ | ⟨rfl, c5⟩
  · exact W.zret (ty := .boolean) (v := 1) hx hb hr (by decide) (fun t ht hW => ⟨1, rfl, (Or.inl ⟨rfl, (fun zz => (by have z1 := c2; have z2 := c3; have z3 := zz; simp only [fa_lt, fa_le, fa_eq, fa_lt64, fa_le64, fa_eq64, Int32.toInt_toInt64, tc_0, tcl_0, tcl_3] at z1 z2 z3 <;> omega)), (fun zz => (by have z1 := c2; have z2 := c3; have z3 := zz; simp only [fa_lt, fa_le, fa_eq, fa_lt64, fa_le64, fa_eq64, Int32.toInt_toInt64, tc_3, tcl_0, tcl_3] at z1 z2 z3 <;> omega))⟩), ht⟩) (fun _ h => absurd h List.not_mem_nil) dX11_isSlot_9
  · exact W.zret (ty := .boolean) (v := 0) hx hb hr (by decide) (fun t ht hW => ⟨0, rfl, (Or.inr (Or.inl ⟨rfl, (Classical.byContradiction fun zz => (by have z1 := c4; have z2 := zz; simp only [fa_lt, fa_le, fa_eq, fa_lt64, fa_le64, fa_eq64, Int32.toInt_toInt64, tc_0, tcl_0] at z1 z2 <;> omega))⟩)), ht⟩) (fun _ h => absurd h List.not_mem_nil) dX11_isSlot_9
  · exact W.zret (ty := .boolean) (v := 0) hx hb hr (by decide) (fun t ht hW => ⟨0, rfl, (Or.inr (Or.inr ⟨rfl, (Classical.byContradiction fun zz => (by have z1 := c5; have z2 := zz; simp only [fa_lt, fa_le, fa_eq, fa_lt64, fa_le64, fa_eq64, Int32.toInt_toInt64, tc_3, tcl_3] at z1 z2 <;> omega))⟩)), ht⟩) (fun _ h => absurd h List.not_mem_nil) dX11_isSlot_9
set_option maxHeartbeats 4000000 in
set_option maxRecDepth 100000 in
theorem c_X11_isLine (l : Launch) (G : KG) (m0 : Nat) (m_width : Nat) (m_many : Nat) (m_cells : Nat) (m_moved : Nat) (m_tape : Nat) (m_lines : Nat) (m_length : Nat) (m_rain : Nat) (m_has : Nat) (m_slope : Nat) (m_wet : Nat) (m_limit : Nat) (m_platform : Nat) (m_kind : Nat) (m_train : Nat) (m_coach : Nat) (m_isKept : Nat) (m_sum : Nat) (m_comes : Nat) (m_isStood : Nat) (m_front : Nat) (m_has0 : Nat) (m_isOn : Nat) (m_letTick : Nat) (m_letYard : Nat) (m_letSpeed : Nat) (m_where : Nat) (m_pace : Nat) (m_stood : Nat) (m_isOff : Nat) (m_off : Nat) (m_wrong : Nat) (m_endTick : Nat) : Met l yX11_isLine wgX11_isLine ({ frames := 0, cells := 0, slots := 0, locals := 0 }) (preS G [.ref m0] [(m0, .inr (11, [.int 0, .ref m_width, .ref m_many, .ref m_cells, .ref m_moved, .ref m_tape, .int 0, .int 0, .int 0, .int 0, .int 0, .long 0, .int 0, .int 0, .int 0, .int (-1), .ref m_lines, .ref m_length, .ref m_rain, .ref m_has, .ref m_slope, .ref m_wet, .ref m_limit, .ref m_platform, .ref m_kind, .ref m_train, .ref m_coach, .ref m_isKept, .ref m_sum, .int 0, .int 15, .ref m_comes, .ref m_isStood, .int 0, .int 0, .int 0, .ref m_front, .ref m_has0, .ref m_isOn, .ref m_letTick, .ref m_letYard, .ref m_letSpeed, .ref m_where, .ref m_pace, .ref m_stood, .ref m_isOff, .ref m_off, .ref m_wrong, .int 0, .int 0, .int 0, .int 0, .ref m_endTick, .int 0, .int 0, .int 0, .int 0, .long 0])), (m_length, .inl (G.2 0, 5, .inl (fun _ => 0))), (m_has, .inl (G.2 0, 35, .inl (fun _ => 0)))]) (vp_Si (fun (r : Int32) => (r = 0))) 0 0 (fun _ => False) := by
  refine Met.ofW (cc := cX11_isLine) (maxL := 1) (ret := (some .boolean)) (by decide) rfl ?_
  intro p e s m args below meth c s₁ B hml hv
  obtain ⟨rfl, hP, hKG⟩ := hv
  obtain ⟨hK, hAO⟩ := id hKG
  have hx := B.exec
  have hb := B.bytes
  have hr := B.returns
  have hts := atoms_spec (ws := wgX11_isLine) B.pre
  have hw : ∀ w ∈ wG, w.before _ s = true := fun w h => hts w (List.mem_cons_of_mem _ h)
  have hown : s.vm.findClass RX11 = some m.cls := findClass_of_methodNamed B.named
  have hlocks := B.notSynchronized
  have hl := lv_entry ([.ref m0]) (n := 1) (Nat.le_of_ble_eq_true rfl)
  rw [lg_entry_eq]
  generalize (lg_sl ([.ref m0]) ++ List.replicate (1 - (lg_sl ([.ref m0])).length) Slot.unset).toArray = ls at hl ⊢
  have hl : lv_has ls 1 [(0, .ref m0)] := hl
  refine lv_aload_n hx hb dX11_isLine_0 rfl (lv_at hl 0 rfl) ?_
  refine va_get (D := G.1) (ci := 11) (v := .ref m_length) (C := RX11) (T := TX11) (N := 58) hx hb hw inGX11 hown hK hP 0 rfl rfl 17 (by decide) (hw _ kw_300) (fun _ h9 => h9) rfl dX11_isLine_1 ?_
  refine lv_iconst (v := 0) hx hb dX11_isLine_4 (by decide) ?_
  refine va_iald hx hb hK hP 1 0 rfl rfl (vp_in_iff.mpr (by decide)) dX11_isLine_5 ?_
  refine lv_cst (y := 0) rfl ?_
  refine lv_if_le (tgt := 13) hx hb dX11_isLine_6 (by decide) (fun c1 => ?_) (fun c1 => absurd (by decide) c1)
  refine lv_iconst (v := 0) hx hb dX11_isLine_13 (by decide) ?_
  exact W.zret (ty := .boolean) (v := 0) hx hb hr (by decide) (fun t ht hW => ⟨0, rfl, rfl, ht⟩) (fun _ h => absurd h List.not_mem_nil) dX11_isLine_14
set_option maxHeartbeats 4000000 in
set_option maxRecDepth 100000 in
theorem c_X11_isYard (l : Launch) (G : KG) (m0 : Nat) (m_width : Nat) (m_many : Nat) (m_cells : Nat) (m_moved : Nat) (m_tape : Nat) (m_lines : Nat) (m_length : Nat) (m_rain : Nat) (m_has : Nat) (m_slope : Nat) (m_wet : Nat) (m_limit : Nat) (m_platform : Nat) (m_kind : Nat) (m_train : Nat) (m_coach : Nat) (m_isKept : Nat) (m_sum : Nat) (m_comes : Nat) (m_isStood : Nat) (m_front : Nat) (m_has0 : Nat) (m_isOn : Nat) (m_letTick : Nat) (m_letYard : Nat) (m_letSpeed : Nat) (m_where : Nat) (m_pace : Nat) (m_stood : Nat) (m_isOff : Nat) (m_off : Nat) (m_wrong : Nat) (m_endTick : Nat) (p0 : Int32) : Met l yX11_isYard wgX11_isYard ({ frames := 1, cells := 0, slots := 0, locals := 20 }) (preS G [.ref m0, .int p0] [(m0, .inr (11, [.int 0, .ref m_width, .ref m_many, .ref m_cells, .ref m_moved, .ref m_tape, .int 0, .int 0, .int 0, .int 0, .int 0, .long 0, .int 0, .int 0, .int 0, .int (-1), .ref m_lines, .ref m_length, .ref m_rain, .ref m_has, .ref m_slope, .ref m_wet, .ref m_limit, .ref m_platform, .ref m_kind, .ref m_train, .ref m_coach, .ref m_isKept, .ref m_sum, .int 0, .int 15, .ref m_comes, .ref m_isStood, .int 0, .int 0, .int 0, .ref m_front, .ref m_has0, .ref m_isOn, .ref m_letTick, .ref m_letYard, .ref m_letSpeed, .ref m_where, .ref m_pace, .ref m_stood, .ref m_isOff, .ref m_off, .ref m_wrong, .int 0, .int 0, .int 0, .int 0, .ref m_endTick, .int 0, .int 0, .int 0, .int 0, .long 0])), (m_length, .inl (G.2 0, 5, .inl (fun _ => 0))), (m_has, .inl (G.2 0, 35, .inl (fun _ => 0)))]) (vp_Si (fun (r : Int32) => (r = 0))) 0 0 (fun _ => False) := by
  refine Met.ofW (cc := cX11_isYard) (maxL := 2) (ret := (some .boolean)) (by decide) rfl ?_
  intro p e s m args below meth c s₁ B hml hv
  obtain ⟨rfl, hP, hKG⟩ := hv
  obtain ⟨hK, hAO⟩ := id hKG
  have hx := B.exec
  have hb := B.bytes
  have hr := B.returns
  have hts := atoms_spec (ws := wgX11_isYard) B.pre
  have hw : ∀ w ∈ wG, w.before _ s = true := fun w h => hts w (List.mem_cons_of_mem _ h)
  have hown : s.vm.findClass RX11 = some m.cls := findClass_of_methodNamed B.named
  have hlocks := B.notSynchronized
  have hl := lv_entry ([.ref m0, .int p0]) (n := 2) (Nat.le_of_ble_eq_true rfl)
  rw [lg_entry_eq]
  generalize (lg_sl ([.ref m0, .int p0]) ++ List.replicate (2 - (lg_sl ([.ref m0, .int p0])).length) Slot.unset).toArray = ls at hl ⊢
  have hl : lv_has ls 2 [(0, .ref m0), (1, .int p0)] := hl
  refine lv_aload_n hx hb dX11_isYard_0 rfl (lv_at hl 0 rfl) ?_
  refine vp_callSi (va_Run.run (va_runV (As := []) (rest := []) ⟨hx, hb, hml, hown, hw⟩ (c_X11_isLine l G m0 m_width m_many m_cells m_moved m_tape m_lines m_length m_rain m_has m_slope m_wet m_limit m_platform m_kind m_train m_coach m_isKept m_sum m_comes m_isStood m_front m_has0 m_isOn m_letTick m_letYard m_letSpeed m_where m_pace m_stood m_isOff m_off m_wrong m_endTick) (cwV 0 hw (gdV kw_302 kw_303 kw_304 kw_299 kw_301) rfl rfl rfl ⟨rfl, hdX11_isLine⟩ ⟨(Nat.le_of_ble_eq_true rfl), (Nat.le_of_ble_eq_true rfl)⟩) (preS_V (wc := [(m0, .inr (11, [.int 0, .ref m_width, .ref m_many, .ref m_cells, .ref m_moved, .ref m_tape, .int 0, .int 0, .int 0, .int 0, .int 0, .long 0, .int 0, .int 0, .int 0, .int (-1), .ref m_lines, .ref m_length, .ref m_rain, .ref m_has, .ref m_slope, .ref m_wet, .ref m_limit, .ref m_platform, .ref m_kind, .ref m_train, .ref m_coach, .ref m_isKept, .ref m_sum, .int 0, .int 15, .ref m_comes, .ref m_isStood, .int 0, .int 0, .int 0, .ref m_front, .ref m_has0, .ref m_isOn, .ref m_letTick, .ref m_letYard, .ref m_letSpeed, .ref m_where, .ref m_pace, .ref m_stood, .ref m_isOff, .ref m_off, .ref m_wrong, .int 0, .int 0, .int 0, .int 0, .ref m_endTick, .int 0, .int 0, .int 0, .int 0, .long 0])), (m_length, .inl (G.2 0, 5, .inl (fun _ => 0))), (m_has, .inl (G.2 0, 35, .inl (fun _ => 0)))]) (ci := 11) hKG hP [0, 1, 2] rfl rfl rfl) rfl rfl hl.1 rfl (lv_room (Nat.le_of_ble_eq_true rfl)) dX11_isYard_1 ⟨(Nat.le_of_ble_eq_true rfl), (Nat.le_of_ble_eq_true rfl)⟩)) (fun r1 hr1 => ?_)
  subst hr1
  refine lv_if_eq (tgt := 27) hx hb dX11_isYard_4 (by decide) (fun c2 => ?_) (fun c2 => absurd (by decide) c2)
  refine lv_iconst (v := 0) hx hb dX11_isYard_27 (by decide) ?_
  exact W.zret (ty := .boolean) (v := 0) hx hb hr (by decide) (fun t ht hW => ⟨0, rfl, rfl, ht⟩) (fun _ h => absurd h List.not_mem_nil) dX11_isYard_28
set_option maxHeartbeats 4000000 in
set_option maxRecDepth 100000 in
theorem c_X11_isKind (l : Launch) (G : KG) (m0 : Nat) (m_width : Nat) (m_many : Nat) (m_cells : Nat) (m_moved : Nat) (m_tape : Nat) (m_lines : Nat) (m_length : Nat) (m_rain : Nat) (m_has : Nat) (m_slope : Nat) (m_wet : Nat) (m_limit : Nat) (m_platform : Nat) (m_kind : Nat) (m_train : Nat) (m_coach : Nat) (m_isKept : Nat) (m_sum : Nat) (m_comes : Nat) (m_isStood : Nat) (m_front : Nat) (m_has0 : Nat) (m_isOn : Nat) (m_letTick : Nat) (m_letYard : Nat) (m_letSpeed : Nat) (m_where : Nat) (m_pace : Nat) (m_stood : Nat) (m_isOff : Nat) (m_off : Nat) (m_wrong : Nat) (m_endTick : Nat) (p0 : Int32) : Met l yX11_isKind wgX11_isKind ({ frames := 1, cells := 0, slots := 0, locals := 25 }) (preS G [.ref m0, .int p0] [(m0, .inr (11, [.int 0, .ref m_width, .ref m_many, .ref m_cells, .ref m_moved, .ref m_tape, .int 0, .int 0, .int 0, .int 0, .int 0, .long 0, .int 0, .int 0, .int 0, .int (-1), .ref m_lines, .ref m_length, .ref m_rain, .ref m_has, .ref m_slope, .ref m_wet, .ref m_limit, .ref m_platform, .ref m_kind, .ref m_train, .ref m_coach, .ref m_isKept, .ref m_sum, .int 0, .int 15, .ref m_comes, .ref m_isStood, .int 0, .int 0, .int 0, .ref m_front, .ref m_has0, .ref m_isOn, .ref m_letTick, .ref m_letYard, .ref m_letSpeed, .ref m_where, .ref m_pace, .ref m_stood, .ref m_isOff, .ref m_off, .ref m_wrong, .int 0, .int 0, .int 0, .int 0, .ref m_endTick, .int 0, .int 0, .int 0, .int 0, .long 0])), (m_length, .inl (G.2 0, 5, .inl (fun _ => 0))), (m_has, .inl (G.2 0, 35, .inl (fun _ => 0)))]) (vp_Si (fun (r : Int32) => (r = 0))) 0 0 (fun _ => False) := by
  refine Met.ofW (cc := cX11_isKind) (maxL := 2) (ret := (some .boolean)) (by decide) rfl ?_
  intro p e s m args below meth c s₁ B hml hv
  obtain ⟨rfl, hP, hKG⟩ := hv
  obtain ⟨hK, hAO⟩ := id hKG
  have hx := B.exec
  have hb := B.bytes
  have hr := B.returns
  have hts := atoms_spec (ws := wgX11_isKind) B.pre
  have hw : ∀ w ∈ wG, w.before _ s = true := fun w h => hts w (List.mem_cons_of_mem _ h)
  have hown : s.vm.findClass RX11 = some m.cls := findClass_of_methodNamed B.named
  have hlocks := B.notSynchronized
  have hl := lv_entry ([.ref m0, .int p0]) (n := 2) (Nat.le_of_ble_eq_true rfl)
  rw [lg_entry_eq]
  generalize (lg_sl ([.ref m0, .int p0]) ++ List.replicate (2 - (lg_sl ([.ref m0, .int p0])).length) Slot.unset).toArray = ls at hl ⊢
  have hl : lv_has ls 2 [(0, .ref m0), (1, .int p0)] := hl
  refine lv_iload_n hx hb dX11_isKind_0 rfl (lv_at hl 1 rfl) ?_
  refine lv_i2l hx hb dX11_isKind_1 rfl ?_
  refine lv_lconst (v := 0) hx hb dX11_isKind_2 (by decide) ?_
  refine lv_aload_n hx hb dX11_isKind_3 rfl (lv_at hl 0 rfl) ?_
  refine va_get (D := G.1) (ci := 11) (v := .ref m_has) (C := RX11) (T := TX11) (N := 58) hx hb hw inGX11 hown hK hP 0 rfl rfl 19 (by decide) (hw _ kw_305) (fun _ h9 => h9) rfl dX11_isKind_4 ?_
  refine lv_iconst (v := 4) hx hb dX11_isKind_7 (by decide) ?_
  refine va_iald hx hb hK hP 2 0 rfl rfl (vp_in_iff.mpr (by decide)) dX11_isKind_8 ?_
  refine lv_cst (y := 0) rfl ?_
  refine lv_iconst (v := 1) hx hb dX11_isKind_9 (by decide) ?_
  refine lv_isub hx hb dX11_isKind_10 ?_
  refine lv_cst (y := (-1)) (by decide) ?_
  refine lv_i2l (v := (-1)) hx hb dX11_isKind_11 (by decide) ?_
  refine vp_callSi (va_Run.run (va_runS (As := [.long p0.toInt64, .long 0, .long (-1)]) (rest := []) ⟨hx, hb, hml, hown, hw⟩ (c_in l G p0.toInt64 0 (-1)) (va_cwS 3 hw (gdT kw_297 kw_298 kw_299 kw_296) rfl rfl rfl hdX11_in ⟨(Nat.le_of_ble_eq_true rfl), (Nat.le_of_ble_eq_true rfl)⟩) (preS_S (wc := []) hKG hP [] rfl) rfl rfl hl.1 rfl (lv_room (Nat.le_of_ble_eq_true rfl)) dX11_isKind_12 ⟨(Nat.le_of_ble_eq_true rfl), (Nat.le_of_ble_eq_true rfl)⟩)) (fun r1 hr1 => ?_)
  rcases hr1 with ⟨rfl, c2, c3⟩ | ⟨rfl, c4⟩ | ⟨rfl, c5⟩
  · exact False.elim (by have z1 := c2; have z2 := c3; simp only [fa_lt, fa_le, fa_eq, fa_lt64, fa_le64, fa_eq64, Int32.toInt_toInt64, tcl_0, tcl_m1] at z1 z2 <;> omega)
  · exact W.zret (ty := .boolean) (v := 0) hx hb hr (by decide) (fun t ht hW => ⟨0, rfl, rfl, ht⟩) (fun _ h => absurd h List.not_mem_nil) dX11_isKind_15
  · exact W.zret (ty := .boolean) (v := 0) hx hb hr (by decide) (fun t ht hW => ⟨0, rfl, rfl, ht⟩) (fun _ h => absurd h List.not_mem_nil) dX11_isKind_15
set_option maxHeartbeats 4000000 in
set_option maxRecDepth 100000 in
theorem c_X11_isPlatform (l : Launch) (G : KG) (m0 : Nat) (m_width : Nat) (m_many : Nat) (m_cells : Nat) (m_moved : Nat) (m_tape : Nat) (m_lines : Nat) (m_length : Nat) (m_rain : Nat) (m_has : Nat) (m_slope : Nat) (m_wet : Nat) (m_limit : Nat) (m_platform : Nat) (m_kind : Nat) (m_train : Nat) (m_coach : Nat) (m_isKept : Nat) (m_sum : Nat) (m_comes : Nat) (m_isStood : Nat) (m_front : Nat) (m_has0 : Nat) (m_isOn : Nat) (m_letTick : Nat) (m_letYard : Nat) (m_letSpeed : Nat) (m_where : Nat) (m_pace : Nat) (m_stood : Nat) (m_isOff : Nat) (m_off : Nat) (m_wrong : Nat) (m_endTick : Nat) (p0 : Int32) : Met l yX11_isPlatform wgX11_isPlatform ({ frames := 1, cells := 0, slots := 0, locals := 25 }) (preS G [.ref m0, .int p0] [(m0, .inr (11, [.int 0, .ref m_width, .ref m_many, .ref m_cells, .ref m_moved, .ref m_tape, .int 0, .int 0, .int 0, .int 0, .int 0, .long 0, .int 0, .int 0, .int 0, .int (-1), .ref m_lines, .ref m_length, .ref m_rain, .ref m_has, .ref m_slope, .ref m_wet, .ref m_limit, .ref m_platform, .ref m_kind, .ref m_train, .ref m_coach, .ref m_isKept, .ref m_sum, .int 0, .int 15, .ref m_comes, .ref m_isStood, .int 0, .int 0, .int 0, .ref m_front, .ref m_has0, .ref m_isOn, .ref m_letTick, .ref m_letYard, .ref m_letSpeed, .ref m_where, .ref m_pace, .ref m_stood, .ref m_isOff, .ref m_off, .ref m_wrong, .int 0, .int 0, .int 0, .int 0, .ref m_endTick, .int 0, .int 0, .int 0, .int 0, .long 0])), (m_length, .inl (G.2 0, 5, .inl (fun _ => 0))), (m_has, .inl (G.2 0, 35, .inl (fun _ => 0)))]) (vp_Si (fun (r : Int32) => (r = 0))) 0 0 (fun _ => False) := by
  refine Met.ofW (cc := cX11_isPlatform) (maxL := 2) (ret := (some .boolean)) (by decide) rfl ?_
  intro p e s m args below meth c s₁ B hml hv
  obtain ⟨rfl, hP, hKG⟩ := hv
  obtain ⟨hK, hAO⟩ := id hKG
  have hx := B.exec
  have hb := B.bytes
  have hr := B.returns
  have hts := atoms_spec (ws := wgX11_isPlatform) B.pre
  have hw : ∀ w ∈ wG, w.before _ s = true := fun w h => hts w (List.mem_cons_of_mem _ h)
  have hown : s.vm.findClass RX11 = some m.cls := findClass_of_methodNamed B.named
  have hlocks := B.notSynchronized
  have hl := lv_entry ([.ref m0, .int p0]) (n := 2) (Nat.le_of_ble_eq_true rfl)
  rw [lg_entry_eq]
  generalize (lg_sl ([.ref m0, .int p0]) ++ List.replicate (2 - (lg_sl ([.ref m0, .int p0])).length) Slot.unset).toArray = ls at hl ⊢
  have hl : lv_has ls 2 [(0, .ref m0), (1, .int p0)] := hl
  refine lv_iload_n hx hb dX11_isPlatform_0 rfl (lv_at hl 1 rfl) ?_
  refine lv_i2l hx hb dX11_isPlatform_1 rfl ?_
  refine lv_lconst (v := 0) hx hb dX11_isPlatform_2 (by decide) ?_
  refine lv_aload_n hx hb dX11_isPlatform_3 rfl (lv_at hl 0 rfl) ?_
  refine va_get (D := G.1) (ci := 11) (v := .ref m_has) (C := RX11) (T := TX11) (N := 58) hx hb hw inGX11 hown hK hP 0 rfl rfl 19 (by decide) (hw _ kw_305) (fun _ h9 => h9) rfl dX11_isPlatform_4 ?_
  refine lv_iconst (v := 3) hx hb dX11_isPlatform_7 (by decide) ?_
  refine va_iald hx hb hK hP 2 0 rfl rfl (vp_in_iff.mpr (by decide)) dX11_isPlatform_8 ?_
  refine lv_cst (y := 0) rfl ?_
  refine lv_iconst (v := 1) hx hb dX11_isPlatform_9 (by decide) ?_
  refine lv_isub hx hb dX11_isPlatform_10 ?_
  refine lv_cst (y := (-1)) (by decide) ?_
  refine lv_i2l (v := (-1)) hx hb dX11_isPlatform_11 (by decide) ?_
  refine vp_callSi (va_Run.run (va_runS (As := [.long p0.toInt64, .long 0, .long (-1)]) (rest := []) ⟨hx, hb, hml, hown, hw⟩ (c_in l G p0.toInt64 0 (-1)) (va_cwS 3 hw (gdT kw_297 kw_298 kw_299 kw_296) rfl rfl rfl hdX11_in ⟨(Nat.le_of_ble_eq_true rfl), (Nat.le_of_ble_eq_true rfl)⟩) (preS_S (wc := []) hKG hP [] rfl) rfl rfl hl.1 rfl (lv_room (Nat.le_of_ble_eq_true rfl)) dX11_isPlatform_12 ⟨(Nat.le_of_ble_eq_true rfl), (Nat.le_of_ble_eq_true rfl)⟩)) (fun r1 hr1 => ?_)
  rcases hr1 with ⟨rfl, c2, c3⟩ | ⟨rfl, c4⟩ | ⟨rfl, c5⟩
  · exact False.elim (by have z1 := c2; have z2 := c3; simp only [fa_lt, fa_le, fa_eq, fa_lt64, fa_le64, fa_eq64, Int32.toInt_toInt64, tcl_0, tcl_m1] at z1 z2 <;> omega)
  · exact W.zret (ty := .boolean) (v := 0) hx hb hr (by decide) (fun t ht hW => ⟨0, rfl, rfl, ht⟩) (fun _ h => absurd h List.not_mem_nil) dX11_isPlatform_15
  · exact W.zret (ty := .boolean) (v := 0) hx hb hr (by decide) (fun t ht hW => ⟨0, rfl, rfl, ht⟩) (fun _ h => absurd h List.not_mem_nil) dX11_isPlatform_15
set_option maxHeartbeats 4000000 in
set_option maxRecDepth 100000 in
theorem c_X11_isTrain (l : Launch) (G : KG) (m0 : Nat) (m_width : Nat) (m_many : Nat) (m_cells : Nat) (m_moved : Nat) (m_tape : Nat) (m_lines : Nat) (m_length : Nat) (m_rain : Nat) (m_has : Nat) (m_slope : Nat) (m_wet : Nat) (m_limit : Nat) (m_platform : Nat) (m_kind : Nat) (m_train : Nat) (m_coach : Nat) (m_isKept : Nat) (m_sum : Nat) (m_comes : Nat) (m_isStood : Nat) (m_front : Nat) (m_has0 : Nat) (m_isOn : Nat) (m_letTick : Nat) (m_letYard : Nat) (m_letSpeed : Nat) (m_where : Nat) (m_pace : Nat) (m_stood : Nat) (m_isOff : Nat) (m_off : Nat) (m_wrong : Nat) (m_endTick : Nat) (p0 : Int32) : Met l yX11_isTrain wgX11_isTrain ({ frames := 1, cells := 0, slots := 0, locals := 25 }) (preS G [.ref m0, .int p0] [(m0, .inr (11, [.int 0, .ref m_width, .ref m_many, .ref m_cells, .ref m_moved, .ref m_tape, .int 0, .int 0, .int 0, .int 0, .int 0, .long 0, .int 0, .int 0, .int 0, .int (-1), .ref m_lines, .ref m_length, .ref m_rain, .ref m_has, .ref m_slope, .ref m_wet, .ref m_limit, .ref m_platform, .ref m_kind, .ref m_train, .ref m_coach, .ref m_isKept, .ref m_sum, .int 0, .int 15, .ref m_comes, .ref m_isStood, .int 0, .int 0, .int 0, .ref m_front, .ref m_has0, .ref m_isOn, .ref m_letTick, .ref m_letYard, .ref m_letSpeed, .ref m_where, .ref m_pace, .ref m_stood, .ref m_isOff, .ref m_off, .ref m_wrong, .int 0, .int 0, .int 0, .int 0, .ref m_endTick, .int 0, .int 0, .int 0, .int 0, .long 0])), (m_length, .inl (G.2 0, 5, .inl (fun _ => 0))), (m_has, .inl (G.2 0, 35, .inl (fun _ => 0)))]) (vp_Si (fun (r : Int32) => (r = 0))) 0 0 (fun _ => False) := by
  refine Met.ofW (cc := cX11_isTrain) (maxL := 2) (ret := (some .boolean)) (by decide) rfl ?_
  intro p e s m args below meth c s₁ B hml hv
  obtain ⟨rfl, hP, hKG⟩ := hv
  obtain ⟨hK, hAO⟩ := id hKG
  have hx := B.exec
  have hb := B.bytes
  have hr := B.returns
  have hts := atoms_spec (ws := wgX11_isTrain) B.pre
  have hw : ∀ w ∈ wG, w.before _ s = true := fun w h => hts w (List.mem_cons_of_mem _ h)
  have hown : s.vm.findClass RX11 = some m.cls := findClass_of_methodNamed B.named
  have hlocks := B.notSynchronized
  have hl := lv_entry ([.ref m0, .int p0]) (n := 2) (Nat.le_of_ble_eq_true rfl)
  rw [lg_entry_eq]
  generalize (lg_sl ([.ref m0, .int p0]) ++ List.replicate (2 - (lg_sl ([.ref m0, .int p0])).length) Slot.unset).toArray = ls at hl ⊢
  have hl : lv_has ls 2 [(0, .ref m0), (1, .int p0)] := hl
  refine lv_iload_n hx hb dX11_isTrain_0 rfl (lv_at hl 1 rfl) ?_
  refine lv_i2l hx hb dX11_isTrain_1 rfl ?_
  refine lv_lconst (v := 0) hx hb dX11_isTrain_2 (by decide) ?_
  refine lv_aload_n hx hb dX11_isTrain_3 rfl (lv_at hl 0 rfl) ?_
  refine va_get (D := G.1) (ci := 11) (v := .ref m_has) (C := RX11) (T := TX11) (N := 58) hx hb hw inGX11 hown hK hP 0 rfl rfl 19 (by decide) (hw _ kw_305) (fun _ h9 => h9) rfl dX11_isTrain_4 ?_
  refine lv_iconst (v := 5) hx hb dX11_isTrain_7 (by decide) ?_
  refine va_iald hx hb hK hP 2 0 rfl rfl (vp_in_iff.mpr (by decide)) dX11_isTrain_8 ?_
  refine lv_cst (y := 0) rfl ?_
  refine lv_iconst (v := 1) hx hb dX11_isTrain_9 (by decide) ?_
  refine lv_isub hx hb dX11_isTrain_10 ?_
  refine lv_cst (y := (-1)) (by decide) ?_
  refine lv_i2l (v := (-1)) hx hb dX11_isTrain_11 (by decide) ?_
  refine vp_callSi (va_Run.run (va_runS (As := [.long p0.toInt64, .long 0, .long (-1)]) (rest := []) ⟨hx, hb, hml, hown, hw⟩ (c_in l G p0.toInt64 0 (-1)) (va_cwS 3 hw (gdT kw_297 kw_298 kw_299 kw_296) rfl rfl rfl hdX11_in ⟨(Nat.le_of_ble_eq_true rfl), (Nat.le_of_ble_eq_true rfl)⟩) (preS_S (wc := []) hKG hP [] rfl) rfl rfl hl.1 rfl (lv_room (Nat.le_of_ble_eq_true rfl)) dX11_isTrain_12 ⟨(Nat.le_of_ble_eq_true rfl), (Nat.le_of_ble_eq_true rfl)⟩)) (fun r1 hr1 => ?_)
  rcases hr1 with ⟨rfl, c2, c3⟩ | ⟨rfl, c4⟩ | ⟨rfl, c5⟩
  · exact False.elim (by have z1 := c2; have z2 := c3; simp only [fa_lt, fa_le, fa_eq, fa_lt64, fa_le64, fa_eq64, Int32.toInt_toInt64, tcl_0, tcl_m1] at z1 z2 <;> omega)
  · exact W.zret (ty := .boolean) (v := 0) hx hb hr (by decide) (fun t ht hW => ⟨0, rfl, rfl, ht⟩) (fun _ h => absurd h List.not_mem_nil) dX11_isTrain_15
  · exact W.zret (ty := .boolean) (v := 0) hx hb hr (by decide) (fun t ht hW => ⟨0, rfl, rfl, ht⟩) (fun _ h => absurd h List.not_mem_nil) dX11_isTrain_15
set_option maxHeartbeats 4000000 in
set_option maxRecDepth 100000 in
theorem c_X11_isCoach (l : Launch) (G : KG) (m0 : Nat) (m_width : Nat) (m_many : Nat) (m_cells : Nat) (m_moved : Nat) (m_tape : Nat) (m_lines : Nat) (m_length : Nat) (m_rain : Nat) (m_has : Nat) (m_slope : Nat) (m_wet : Nat) (m_limit : Nat) (m_platform : Nat) (m_kind : Nat) (m_train : Nat) (m_coach : Nat) (m_isKept : Nat) (m_sum : Nat) (m_comes : Nat) (m_isStood : Nat) (m_front : Nat) (m_has0 : Nat) (m_isOn : Nat) (m_letTick : Nat) (m_letYard : Nat) (m_letSpeed : Nat) (m_where : Nat) (m_pace : Nat) (m_stood : Nat) (m_isOff : Nat) (m_off : Nat) (m_wrong : Nat) (m_endTick : Nat) (p0 : Int32) : Met l yX11_isCoach wgX11_isCoach ({ frames := 1, cells := 0, slots := 0, locals := 25 }) (preS G [.ref m0, .int p0] [(m0, .inr (11, [.int 0, .ref m_width, .ref m_many, .ref m_cells, .ref m_moved, .ref m_tape, .int 0, .int 0, .int 0, .int 0, .int 0, .long 0, .int 0, .int 0, .int 0, .int (-1), .ref m_lines, .ref m_length, .ref m_rain, .ref m_has, .ref m_slope, .ref m_wet, .ref m_limit, .ref m_platform, .ref m_kind, .ref m_train, .ref m_coach, .ref m_isKept, .ref m_sum, .int 0, .int 15, .ref m_comes, .ref m_isStood, .int 0, .int 0, .int 0, .ref m_front, .ref m_has0, .ref m_isOn, .ref m_letTick, .ref m_letYard, .ref m_letSpeed, .ref m_where, .ref m_pace, .ref m_stood, .ref m_isOff, .ref m_off, .ref m_wrong, .int 0, .int 0, .int 0, .int 0, .ref m_endTick, .int 0, .int 0, .int 0, .int 0, .long 0])), (m_length, .inl (G.2 0, 5, .inl (fun _ => 0))), (m_has, .inl (G.2 0, 35, .inl (fun _ => 0)))]) (vp_Si (fun (r : Int32) => (r = 0))) 0 0 (fun _ => False) := by
  refine Met.ofW (cc := cX11_isCoach) (maxL := 2) (ret := (some .boolean)) (by decide) rfl ?_
  intro p e s m args below meth c s₁ B hml hv
  obtain ⟨rfl, hP, hKG⟩ := hv
  obtain ⟨hK, hAO⟩ := id hKG
  have hx := B.exec
  have hb := B.bytes
  have hr := B.returns
  have hts := atoms_spec (ws := wgX11_isCoach) B.pre
  have hw : ∀ w ∈ wG, w.before _ s = true := fun w h => hts w (List.mem_cons_of_mem _ h)
  have hown : s.vm.findClass RX11 = some m.cls := findClass_of_methodNamed B.named
  have hlocks := B.notSynchronized
  have hl := lv_entry ([.ref m0, .int p0]) (n := 2) (Nat.le_of_ble_eq_true rfl)
  rw [lg_entry_eq]
  generalize (lg_sl ([.ref m0, .int p0]) ++ List.replicate (2 - (lg_sl ([.ref m0, .int p0])).length) Slot.unset).toArray = ls at hl ⊢
  have hl : lv_has ls 2 [(0, .ref m0), (1, .int p0)] := hl
  refine lv_iload_n hx hb dX11_isCoach_0 rfl (lv_at hl 1 rfl) ?_
  refine lv_i2l hx hb dX11_isCoach_1 rfl ?_
  refine lv_lconst (v := 0) hx hb dX11_isCoach_2 (by decide) ?_
  refine lv_aload_n hx hb dX11_isCoach_3 rfl (lv_at hl 0 rfl) ?_
  refine va_get (D := G.1) (ci := 11) (v := .ref m_has) (C := RX11) (T := TX11) (N := 58) hx hb hw inGX11 hown hK hP 0 rfl rfl 19 (by decide) (hw _ kw_305) (fun _ h9 => h9) rfl dX11_isCoach_4 ?_
  refine lv_bipush (v := 6) hx hb dX11_isCoach_7 (by decide) ?_
  refine va_iald hx hb hK hP 2 0 rfl rfl (vp_in_iff.mpr (by decide)) dX11_isCoach_9 ?_
  refine lv_cst (y := 0) rfl ?_
  refine lv_iconst (v := 1) hx hb dX11_isCoach_10 (by decide) ?_
  refine lv_isub hx hb dX11_isCoach_11 ?_
  refine lv_cst (y := (-1)) (by decide) ?_
  refine lv_i2l (v := (-1)) hx hb dX11_isCoach_12 (by decide) ?_
  refine vp_callSi (va_Run.run (va_runS (As := [.long p0.toInt64, .long 0, .long (-1)]) (rest := []) ⟨hx, hb, hml, hown, hw⟩ (c_in l G p0.toInt64 0 (-1)) (va_cwS 3 hw (gdT kw_297 kw_298 kw_299 kw_296) rfl rfl rfl hdX11_in ⟨(Nat.le_of_ble_eq_true rfl), (Nat.le_of_ble_eq_true rfl)⟩) (preS_S (wc := []) hKG hP [] rfl) rfl rfl hl.1 rfl (lv_room (Nat.le_of_ble_eq_true rfl)) dX11_isCoach_13 ⟨(Nat.le_of_ble_eq_true rfl), (Nat.le_of_ble_eq_true rfl)⟩)) (fun r1 hr1 => ?_)
  rcases hr1 with ⟨rfl, c2, c3⟩ | ⟨rfl, c4⟩ | ⟨rfl, c5⟩
  · exact False.elim (by have z1 := c2; have z2 := c3; simp only [fa_lt, fa_le, fa_eq, fa_lt64, fa_le64, fa_eq64, Int32.toInt_toInt64, tcl_0, tcl_m1] at z1 z2 <;> omega)
  · exact W.zret (ty := .boolean) (v := 0) hx hb hr (by decide) (fun t ht hW => ⟨0, rfl, rfl, ht⟩) (fun _ h => absurd h List.not_mem_nil) dX11_isCoach_16
  · exact W.zret (ty := .boolean) (v := 0) hx hb hr (by decide) (fun t ht hW => ⟨0, rfl, rfl, ht⟩) (fun _ h => absurd h List.not_mem_nil) dX11_isCoach_16
set_option maxHeartbeats 4000000 in
set_option maxRecDepth 100000 in
theorem c_X11_isMoving (l : Launch) (G : KG) (m0 : Nat) (m_width : Nat) (m_many : Nat) (m_cells : Nat) (m_moved : Nat) (m_tape : Nat) (m_lines : Nat) (m_length : Nat) (m_rain : Nat) (m_has : Nat) (m_slope : Nat) (m_wet : Nat) (m_limit : Nat) (m_platform : Nat) (m_kind : Nat) (m_train : Nat) (m_coach : Nat) (m_isKept : Nat) (m_sum : Nat) (m_comes : Nat) (m_isStood : Nat) (m_front : Nat) (m_has0 : Nat) (m_isOn : Nat) (m_letTick : Nat) (m_letYard : Nat) (m_letSpeed : Nat) (m_where : Nat) (m_pace : Nat) (m_stood : Nat) (m_isOff : Nat) (m_off : Nat) (m_wrong : Nat) (m_endTick : Nat) (p0 : Int32) (p1 : Int32) (p2 : Int32) : Met l yX11_isMoving wgX11_isMoving ({ frames := 2, cells := 0, slots := 0, locals := 46 }) (preS G [.ref m0, .int p0, .int p1, .int p2] [(m0, .inr (11, [.int 0, .ref m_width, .ref m_many, .ref m_cells, .ref m_moved, .ref m_tape, .int 0, .int 0, .int 0, .int 0, .int 0, .long 0, .int 0, .int 0, .int 0, .int (-1), .ref m_lines, .ref m_length, .ref m_rain, .ref m_has, .ref m_slope, .ref m_wet, .ref m_limit, .ref m_platform, .ref m_kind, .ref m_train, .ref m_coach, .ref m_isKept, .ref m_sum, .int 0, .int 15, .ref m_comes, .ref m_isStood, .int 0, .int 0, .int 0, .ref m_front, .ref m_has0, .ref m_isOn, .ref m_letTick, .ref m_letYard, .ref m_letSpeed, .ref m_where, .ref m_pace, .ref m_stood, .ref m_isOff, .ref m_off, .ref m_wrong, .int 0, .int 0, .int 0, .int 0, .ref m_endTick, .int 0, .int 0, .int 0, .int 0, .long 0])), (m_length, .inl (G.2 0, 5, .inl (fun _ => 0))), (m_has, .inl (G.2 0, 35, .inl (fun _ => 0)))]) (vp_Si (fun (r : Int32) => (r = 0))) 0 0 (fun _ => False) := by
  refine Met.ofW (cc := cX11_isMoving) (maxL := 4) (ret := (some .boolean)) (by decide) rfl ?_
  intro p e s m args below meth c s₁ B hml hv
  obtain ⟨rfl, hP, hKG⟩ := hv
  obtain ⟨hK, hAO⟩ := id hKG
  have hx := B.exec
  have hb := B.bytes
  have hr := B.returns
  have hts := atoms_spec (ws := wgX11_isMoving) B.pre
  have hw : ∀ w ∈ wG, w.before _ s = true := fun w h => hts w (List.mem_cons_of_mem _ h)
  have hown : s.vm.findClass RX11 = some m.cls := findClass_of_methodNamed B.named
  have hlocks := B.notSynchronized
  have hl := lv_entry ([.ref m0, .int p0, .int p1, .int p2]) (n := 4) (Nat.le_of_ble_eq_true rfl)
  rw [lg_entry_eq]
  generalize (lg_sl ([.ref m0, .int p0, .int p1, .int p2]) ++ List.replicate (4 - (lg_sl ([.ref m0, .int p0, .int p1, .int p2])).length) Slot.unset).toArray = ls at hl ⊢
  have hl : lv_has ls 4 [(0, .ref m0), (1, .int p0), (2, .int p1), (3, .int p2)] := hl
  refine lv_aload_n hx hb dX11_isMoving_0 rfl (lv_at hl 0 rfl) ?_
  refine lv_iload_n hx hb dX11_isMoving_1 rfl (lv_at hl 1 rfl) ?_
  refine vp_callSi (va_Run.run (va_runV (As := [.int p0]) (rest := []) ⟨hx, hb, hml, hown, hw⟩ (c_X11_isKind l G m0 m_width m_many m_cells m_moved m_tape m_lines m_length m_rain m_has m_slope m_wet m_limit m_platform m_kind m_train m_coach m_isKept m_sum m_comes m_isStood m_front m_has0 m_isOn m_letTick m_letYard m_letSpeed m_where m_pace m_stood m_isOff m_off m_wrong m_endTick p0) (cwV 1 hw (gdV kw_307 kw_308 kw_309 kw_299 kw_306) rfl rfl rfl ⟨rfl, hdX11_isKind⟩ ⟨(Nat.le_of_ble_eq_true rfl), (Nat.le_of_ble_eq_true rfl)⟩) (preS_V (wc := [(m0, .inr (11, [.int 0, .ref m_width, .ref m_many, .ref m_cells, .ref m_moved, .ref m_tape, .int 0, .int 0, .int 0, .int 0, .int 0, .long 0, .int 0, .int 0, .int 0, .int (-1), .ref m_lines, .ref m_length, .ref m_rain, .ref m_has, .ref m_slope, .ref m_wet, .ref m_limit, .ref m_platform, .ref m_kind, .ref m_train, .ref m_coach, .ref m_isKept, .ref m_sum, .int 0, .int 15, .ref m_comes, .ref m_isStood, .int 0, .int 0, .int 0, .ref m_front, .ref m_has0, .ref m_isOn, .ref m_letTick, .ref m_letYard, .ref m_letSpeed, .ref m_where, .ref m_pace, .ref m_stood, .ref m_isOff, .ref m_off, .ref m_wrong, .int 0, .int 0, .int 0, .int 0, .ref m_endTick, .int 0, .int 0, .int 0, .int 0, .long 0])), (m_length, .inl (G.2 0, 5, .inl (fun _ => 0))), (m_has, .inl (G.2 0, 35, .inl (fun _ => 0)))]) (ci := 11) hKG hP [0, 1, 2] rfl rfl rfl) rfl rfl hl.1 rfl (lv_room (Nat.le_of_ble_eq_true rfl)) dX11_isMoving_2 ⟨(Nat.le_of_ble_eq_true rfl), (Nat.le_of_ble_eq_true rfl)⟩)) (fun r1 hr1 => ?_)
  subst hr1
  refine lv_if_eq (tgt := 32) hx hb dX11_isMoving_5 (by decide) (fun c2 => ?_) (fun c2 => absurd (by decide) c2)
  refine lv_iconst (v := 0) hx hb dX11_isMoving_32 (by decide) ?_
  exact W.zret (ty := .boolean) (v := 0) hx hb hr (by decide) (fun t ht hW => ⟨0, rfl, rfl, ht⟩) (fun _ h => absurd h List.not_mem_nil) dX11_isMoving_33
set_option maxHeartbeats 4000000 in
set_option maxRecDepth 100000 in
theorem c_X11_isHandled (l : Launch) (G : KG) (m0 : Nat) (m_width : Nat) (m_many : Nat) (m_cells : Nat) (m_moved : Nat) (m_tape : Nat) (m_lines : Nat) (m_length : Nat) (m_rain : Nat) (m_has : Nat) (m_slope : Nat) (m_wet : Nat) (m_limit : Nat) (m_platform : Nat) (m_kind : Nat) (m_train : Nat) (m_coach : Nat) (m_isKept : Nat) (m_sum : Nat) (m_comes : Nat) (m_isStood : Nat) (m_front : Nat) (m_has0 : Nat) (m_isOn : Nat) (m_letTick : Nat) (m_letYard : Nat) (m_letSpeed : Nat) (m_where : Nat) (m_pace : Nat) (m_stood : Nat) (m_isOff : Nat) (m_off : Nat) (m_wrong : Nat) (m_endTick : Nat) (p0 : Int32) (p1 : Int32) (p2 : Int32) (p3 : Int32) : Met l yX11_isHandled wgX11_isHandled ({ frames := 3, cells := 0, slots := 0, locals := 69 }) (preS G [.ref m0, .int p0, .int p1, .int p2, .int p3] [(m0, .inr (11, [.int 0, .ref m_width, .ref m_many, .ref m_cells, .ref m_moved, .ref m_tape, .int 0, .int 0, .int 0, .int 0, .int 0, .long 0, .int 0, .int 0, .int 0, .int (-1), .ref m_lines, .ref m_length, .ref m_rain, .ref m_has, .ref m_slope, .ref m_wet, .ref m_limit, .ref m_platform, .ref m_kind, .ref m_train, .ref m_coach, .ref m_isKept, .ref m_sum, .int 0, .int 15, .ref m_comes, .ref m_isStood, .int 0, .int 0, .int 0, .ref m_front, .ref m_has0, .ref m_isOn, .ref m_letTick, .ref m_letYard, .ref m_letSpeed, .ref m_where, .ref m_pace, .ref m_stood, .ref m_isOff, .ref m_off, .ref m_wrong, .int 0, .int 0, .int 0, .int 0, .ref m_endTick, .int 0, .int 0, .int 0, .int 0, .long 0])), (m_length, .inl (G.2 0, 5, .inl (fun _ => 0))), (m_has, .inl (G.2 0, 35, .inl (fun _ => 0)))]) (vp_Si (fun (r : Int32) => (r = 0))) 0 0 (fun _ => False) := by
  refine Met.ofW (cc := cX11_isHandled) (maxL := 5) (ret := (some .boolean)) (by decide) rfl ?_
  intro p e s m args below meth c s₁ B hml hv
  obtain ⟨rfl, hP, hKG⟩ := hv
  obtain ⟨hK, hAO⟩ := id hKG
  have hx := B.exec
  have hb := B.bytes
  have hr := B.returns
  have hts := atoms_spec (ws := wgX11_isHandled) B.pre
  have hw : ∀ w ∈ wG, w.before _ s = true := fun w h => hts w (List.mem_cons_of_mem _ h)
  have hown : s.vm.findClass RX11 = some m.cls := findClass_of_methodNamed B.named
  have hlocks := B.notSynchronized
  have hl := lv_entry ([.ref m0, .int p0, .int p1, .int p2, .int p3]) (n := 5) (Nat.le_of_ble_eq_true rfl)
  rw [lg_entry_eq]
  generalize (lg_sl ([.ref m0, .int p0, .int p1, .int p2, .int p3]) ++ List.replicate (5 - (lg_sl ([.ref m0, .int p0, .int p1, .int p2, .int p3])).length) Slot.unset).toArray = ls at hl ⊢
  have hl : lv_has ls 5 [(0, .ref m0), (1, .int p0), (2, .int p1), (3, .int p2), (4, .int p3)] := hl
  refine lv_aload_n hx hb dX11_isHandled_0 rfl (lv_at hl 0 rfl) ?_
  refine lv_iload_n hx hb dX11_isHandled_1 rfl (lv_at hl 1 rfl) ?_
  refine lv_iload_n hx hb dX11_isHandled_2 rfl (lv_at hl 3 rfl) ?_
  refine lv_iload hx hb dX11_isHandled_3 (lv_at hl 4 rfl) ?_
  refine vp_callSi (va_Run.run (va_runV (As := [.int p0, .int p2, .int p3]) (rest := []) ⟨hx, hb, hml, hown, hw⟩ (c_X11_isMoving l G m0 m_width m_many m_cells m_moved m_tape m_lines m_length m_rain m_has m_slope m_wet m_limit m_platform m_kind m_train m_coach m_isKept m_sum m_comes m_isStood m_front m_has0 m_isOn m_letTick m_letYard m_letSpeed m_where m_pace m_stood m_isOff m_off m_wrong m_endTick p0 p2 p3) (cwV 3 hw (gdV kw_311 kw_312 kw_313 kw_299 kw_310) rfl rfl rfl ⟨rfl, hdX11_isMoving⟩ ⟨(Nat.le_of_ble_eq_true rfl), (Nat.le_of_ble_eq_true rfl)⟩) (preS_V (wc := [(m0, .inr (11, [.int 0, .ref m_width, .ref m_many, .ref m_cells, .ref m_moved, .ref m_tape, .int 0, .int 0, .int 0, .int 0, .int 0, .long 0, .int 0, .int 0, .int 0, .int (-1), .ref m_lines, .ref m_length, .ref m_rain, .ref m_has, .ref m_slope, .ref m_wet, .ref m_limit, .ref m_platform, .ref m_kind, .ref m_train, .ref m_coach, .ref m_isKept, .ref m_sum, .int 0, .int 15, .ref m_comes, .ref m_isStood, .int 0, .int 0, .int 0, .ref m_front, .ref m_has0, .ref m_isOn, .ref m_letTick, .ref m_letYard, .ref m_letSpeed, .ref m_where, .ref m_pace, .ref m_stood, .ref m_isOff, .ref m_off, .ref m_wrong, .int 0, .int 0, .int 0, .int 0, .ref m_endTick, .int 0, .int 0, .int 0, .int 0, .long 0])), (m_length, .inl (G.2 0, 5, .inl (fun _ => 0))), (m_has, .inl (G.2 0, 35, .inl (fun _ => 0)))]) (ci := 11) hKG hP [0, 1, 2] rfl rfl rfl) rfl rfl hl.1 rfl (lv_room (Nat.le_of_ble_eq_true rfl)) dX11_isHandled_5 ⟨(Nat.le_of_ble_eq_true rfl), (Nat.le_of_ble_eq_true rfl)⟩)) (fun r1 hr1 => ?_)
  subst hr1
  refine lv_if_eq (tgt := 23) hx hb dX11_isHandled_8 (by decide) (fun c2 => ?_) (fun c2 => absurd (by decide) c2)
  refine lv_iconst (v := 0) hx hb dX11_isHandled_23 (by decide) ?_
  exact W.zret (ty := .boolean) (v := 0) hx hb hr (by decide) (fun t ht hW => ⟨0, rfl, rfl, ht⟩) (fun _ h => absurd h List.not_mem_nil) dX11_isHandled_24
set_option maxHeartbeats 4000000 in
set_option maxRecDepth 100000 in
theorem c_X11_isDay (l : Launch) (G : KG) (m0 : Nat) (m_width : Nat) (m_many : Nat) (m_cells : Nat) (m_moved : Nat) (m_tape : Nat) (m_lines : Nat) (m_length : Nat) (m_rain : Nat) (m_has : Nat) (m_slope : Nat) (m_wet : Nat) (m_limit : Nat) (m_platform : Nat) (m_kind : Nat) (m_train : Nat) (m_coach : Nat) (m_isKept : Nat) (m_sum : Nat) (m_comes : Nat) (m_isStood : Nat) (m_front : Nat) (m_has0 : Nat) (m_isOn : Nat) (m_letTick : Nat) (m_letYard : Nat) (m_letSpeed : Nat) (m_where : Nat) (m_pace : Nat) (m_stood : Nat) (m_isOff : Nat) (m_off : Nat) (m_wrong : Nat) (m_endTick : Nat) (p0 : Int32) (p1 : Int32) (p2 : Int32) : Met l yX11_isDay wgX11_isDay ({ frames := 1, cells := 0, slots := 0, locals := 20 }) (preS G [.ref m0, .int p0, .int p1, .int p2] [(m0, .inr (11, [.int 0, .ref m_width, .ref m_many, .ref m_cells, .ref m_moved, .ref m_tape, .int 0, .int 0, .int 0, .int 0, .int 0, .long 0, .int 0, .int 0, .int 0, .int (-1), .ref m_lines, .ref m_length, .ref m_rain, .ref m_has, .ref m_slope, .ref m_wet, .ref m_limit, .ref m_platform, .ref m_kind, .ref m_train, .ref m_coach, .ref m_isKept, .ref m_sum, .int 0, .int 15, .ref m_comes, .ref m_isStood, .int 0, .int 0, .int 0, .ref m_front, .ref m_has0, .ref m_isOn, .ref m_letTick, .ref m_letYard, .ref m_letSpeed, .ref m_where, .ref m_pace, .ref m_stood, .ref m_isOff, .ref m_off, .ref m_wrong, .int 0, .int 0, .int 0, .int 0, .ref m_endTick, .int 0, .int 0, .int 0, .int 0, .long 0])), (m_length, .inl (G.2 0, 5, .inl (fun _ => 0))), (m_has, .inl (G.2 0, 35, .inl (fun _ => 0)))]) (vp_Si (fun (r : Int32) => (r = 0))) 0 0 (fun _ => False) := by
  refine Met.ofW (cc := cX11_isDay) (maxL := 4) (ret := (some .boolean)) (by decide) rfl ?_
  intro p e s m args below meth c s₁ B hml hv
  obtain ⟨rfl, hP, hKG⟩ := hv
  obtain ⟨hK, hAO⟩ := id hKG
  have hx := B.exec
  have hb := B.bytes
  have hr := B.returns
  have hts := atoms_spec (ws := wgX11_isDay) B.pre
  have hw : ∀ w ∈ wG, w.before _ s = true := fun w h => hts w (List.mem_cons_of_mem _ h)
  have hown : s.vm.findClass RX11 = some m.cls := findClass_of_methodNamed B.named
  have hlocks := B.notSynchronized
  have hl := lv_entry ([.ref m0, .int p0, .int p1, .int p2]) (n := 4) (Nat.le_of_ble_eq_true rfl)
  rw [lg_entry_eq]
  generalize (lg_sl ([.ref m0, .int p0, .int p1, .int p2]) ++ List.replicate (4 - (lg_sl ([.ref m0, .int p0, .int p1, .int p2])).length) Slot.unset).toArray = ls at hl ⊢
  have hl : lv_has ls 4 [(0, .ref m0), (1, .int p0), (2, .int p1), (3, .int p2)] := hl
  refine lv_aload_n hx hb dX11_isDay_0 rfl (lv_at hl 0 rfl) ?_
  refine vp_callSi (va_Run.run (va_runV (As := []) (rest := []) ⟨hx, hb, hml, hown, hw⟩ (c_X11_isLine l G m0 m_width m_many m_cells m_moved m_tape m_lines m_length m_rain m_has m_slope m_wet m_limit m_platform m_kind m_train m_coach m_isKept m_sum m_comes m_isStood m_front m_has0 m_isOn m_letTick m_letYard m_letSpeed m_where m_pace m_stood m_isOff m_off m_wrong m_endTick) (cwV 0 hw (gdV kw_302 kw_303 kw_304 kw_299 kw_301) rfl rfl rfl ⟨rfl, hdX11_isLine⟩ ⟨(Nat.le_of_ble_eq_true rfl), (Nat.le_of_ble_eq_true rfl)⟩) (preS_V (wc := [(m0, .inr (11, [.int 0, .ref m_width, .ref m_many, .ref m_cells, .ref m_moved, .ref m_tape, .int 0, .int 0, .int 0, .int 0, .int 0, .long 0, .int 0, .int 0, .int 0, .int (-1), .ref m_lines, .ref m_length, .ref m_rain, .ref m_has, .ref m_slope, .ref m_wet, .ref m_limit, .ref m_platform, .ref m_kind, .ref m_train, .ref m_coach, .ref m_isKept, .ref m_sum, .int 0, .int 15, .ref m_comes, .ref m_isStood, .int 0, .int 0, .int 0, .ref m_front, .ref m_has0, .ref m_isOn, .ref m_letTick, .ref m_letYard, .ref m_letSpeed, .ref m_where, .ref m_pace, .ref m_stood, .ref m_isOff, .ref m_off, .ref m_wrong, .int 0, .int 0, .int 0, .int 0, .ref m_endTick, .int 0, .int 0, .int 0, .int 0, .long 0])), (m_length, .inl (G.2 0, 5, .inl (fun _ => 0))), (m_has, .inl (G.2 0, 35, .inl (fun _ => 0)))]) (ci := 11) hKG hP [0, 1, 2] rfl rfl rfl) rfl rfl hl.1 rfl (lv_room (Nat.le_of_ble_eq_true rfl)) dX11_isDay_1 ⟨(Nat.le_of_ble_eq_true rfl), (Nat.le_of_ble_eq_true rfl)⟩)) (fun r1 hr1 => ?_)
  subst hr1
  refine lv_if_eq (tgt := 47) hx hb dX11_isDay_4 (by decide) (fun c2 => ?_) (fun c2 => absurd (by decide) c2)
  refine lv_iconst (v := 0) hx hb dX11_isDay_47 (by decide) ?_
  exact W.zret (ty := .boolean) (v := 0) hx hb hr (by decide) (fun t ht hW => ⟨0, rfl, rfl, ht⟩) (fun _ h => absurd h List.not_mem_nil) dX11_isDay_48
set_option maxHeartbeats 4000000 in
set_option maxRecDepth 100000 in
theorem c_X11_yard_ (l : Launch) (G : KG) (m0 : Nat) (m_width : Nat) (m_many : Nat) (m_cells : Nat) (m_moved : Nat) (m_tape : Nat) (m_lines : Nat) (m_length : Nat) (m_rain : Nat) (m_has : Nat) (m_slope : Nat) (m_wet : Nat) (m_limit : Nat) (m_platform : Nat) (m_kind : Nat) (m_train : Nat) (m_coach : Nat) (m_isKept : Nat) (m_sum : Nat) (m_comes : Nat) (m_isStood : Nat) (m_front : Nat) (m_has0 : Nat) (m_isOn : Nat) (m_letTick : Nat) (m_letYard : Nat) (m_letSpeed : Nat) (m_where : Nat) (m_pace : Nat) (m_stood : Nat) (m_isOff : Nat) (m_off : Nat) (m_wrong : Nat) (m_endTick : Nat) (p0 : Int32) (p1 : Int32) (sz : Nat) : Met l yX11_yard_ wgX11_yard_ ({ frames := 2, cells := 0, slots := 0, locals := 41 }) (preQ G [.ref m0, .int p0, .int p1] sz [(m0, .inr (11, [.int 0, .ref m_width, .ref m_many, .ref m_cells, .ref m_moved, .ref m_tape, .int 0, .int 0, .int 0, .int 0, .int 0, .long 0, .int 0, .int 0, .int 0, .int (-1), .ref m_lines, .ref m_length, .ref m_rain, .ref m_has, .ref m_slope, .ref m_wet, .ref m_limit, .ref m_platform, .ref m_kind, .ref m_train, .ref m_coach, .ref m_isKept, .ref m_sum, .int 0, .int 15, .ref m_comes, .ref m_isStood, .int 0, .int 0, .int 0, .ref m_front, .ref m_has0, .ref m_isOn, .ref m_letTick, .ref m_letYard, .ref m_letSpeed, .ref m_where, .ref m_pace, .ref m_stood, .ref m_isOff, .ref m_off, .ref m_wrong, .int 0, .int 0, .int 0, .int 0, .ref m_endTick, .int 0, .int 0, .int 0, .int 0, .long 0])), (m_length, .inl (G.2 0, 5, .inl (fun _ => 0))), (m_has, .inl (G.2 0, 35, .inl (fun _ => 0)))]) (va_Qi (fun (r : Int32) (u : Unit) => (r = (-2))) (fun u t => atQ G (va_A [(m0, .inr (11, [.int 0, .ref m_width, .ref m_many, .ref m_cells, .ref m_moved, .ref m_tape, .int 0, .int 0, .int 0, .int 0, .int 0, .long 0, .int 0, .int 0, .int 0, .int (-1), .ref m_lines, .ref m_length, .ref m_rain, .ref m_has, .ref m_slope, .ref m_wet, .ref m_limit, .ref m_platform, .ref m_kind, .ref m_train, .ref m_coach, .ref m_isKept, .ref m_sum, .int 0, .int 15, .ref m_comes, .ref m_isStood, .int 0, .int 0, .int 0, .ref m_front, .ref m_has0, .ref m_isOn, .ref m_letTick, .ref m_letYard, .ref m_letSpeed, .ref m_where, .ref m_pace, .ref m_stood, .ref m_isOff, .ref m_off, .ref m_wrong, .int 0, .int 0, .int 0, .int 0, .ref m_endTick, .int 0, .int 0, .int 0, .int 0, .long 0])), (m_length, .inl (G.2 0, 5, .inl (fun _ => 0))), (m_has, .inl (G.2 0, 35, .inl (fun _ => 0)))] sz) [] t) (va_A [(m0, .inr (11, [.int 0, .ref m_width, .ref m_many, .ref m_cells, .ref m_moved, .ref m_tape, .int 0, .int 0, .int 0, .int 0, .int 0, .long 0, .int 0, .int 0, .int 0, .int (-1), .ref m_lines, .ref m_length, .ref m_rain, .ref m_has, .ref m_slope, .ref m_wet, .ref m_limit, .ref m_platform, .ref m_kind, .ref m_train, .ref m_coach, .ref m_isKept, .ref m_sum, .int 0, .int 15, .ref m_comes, .ref m_isStood, .int 0, .int 0, .int 0, .ref m_front, .ref m_has0, .ref m_isOn, .ref m_letTick, .ref m_letYard, .ref m_letSpeed, .ref m_where, .ref m_pace, .ref m_stood, .ref m_isOff, .ref m_off, .ref m_wrong, .int 0, .int 0, .int 0, .int 0, .ref m_endTick, .int 0, .int 0, .int 0, .int 0, .long 0])), (m_length, .inl (G.2 0, 5, .inl (fun _ => 0))), (m_has, .inl (G.2 0, 35, .inl (fun _ => 0)))] sz)) 0 0 (va_A [(m0, .inr (11, [.int 0, .ref m_width, .ref m_many, .ref m_cells, .ref m_moved, .ref m_tape, .int 0, .int 0, .int 0, .int 0, .int 0, .long 0, .int 0, .int 0, .int 0, .int (-1), .ref m_lines, .ref m_length, .ref m_rain, .ref m_has, .ref m_slope, .ref m_wet, .ref m_limit, .ref m_platform, .ref m_kind, .ref m_train, .ref m_coach, .ref m_isKept, .ref m_sum, .int 0, .int 15, .ref m_comes, .ref m_isStood, .int 0, .int 0, .int 0, .ref m_front, .ref m_has0, .ref m_isOn, .ref m_letTick, .ref m_letYard, .ref m_letSpeed, .ref m_where, .ref m_pace, .ref m_stood, .ref m_isOff, .ref m_off, .ref m_wrong, .int 0, .int 0, .int 0, .int 0, .ref m_endTick, .int 0, .int 0, .int 0, .int 0, .long 0])), (m_length, .inl (G.2 0, 5, .inl (fun _ => 0))), (m_has, .inl (G.2 0, 35, .inl (fun _ => 0)))] sz) := by
  refine Met.ofW (cc := cX11_yard_) (maxL := 3) (ret := (some .int)) (by decide) rfl ?_
  intro p e s m args below meth c s₁ B hml hv
  obtain ⟨rfl, hsz, hP, hKG, hD0⟩ := hv
  obtain ⟨hK, hAO⟩ := id hKG
  have hx := B.exec
  have hb := B.bytes
  have hr := B.returns
  have hts := atoms_spec (ws := wgX11_yard_) B.pre
  have hw : ∀ w ∈ wG, w.before _ s = true := fun w h => hts w (List.mem_cons_of_mem _ h)
  have hown : s.vm.findClass RX11 = some m.cls := findClass_of_methodNamed B.named
  have hlocks := B.notSynchronized
  subst hsz
  have hD := hD0.self (sz := s.heap.size)
  generalize hAe : va_A [(m0, .inr (11, [.int 0, .ref m_width, .ref m_many, .ref m_cells, .ref m_moved, .ref m_tape, .int 0, .int 0, .int 0, .int 0, .int 0, .long 0, .int 0, .int 0, .int 0, .int (-1), .ref m_lines, .ref m_length, .ref m_rain, .ref m_has, .ref m_slope, .ref m_wet, .ref m_limit, .ref m_platform, .ref m_kind, .ref m_train, .ref m_coach, .ref m_isKept, .ref m_sum, .int 0, .int 15, .ref m_comes, .ref m_isStood, .int 0, .int 0, .int 0, .ref m_front, .ref m_has0, .ref m_isOn, .ref m_letTick, .ref m_letYard, .ref m_letSpeed, .ref m_where, .ref m_pace, .ref m_stood, .ref m_isOff, .ref m_off, .ref m_wrong, .int 0, .int 0, .int 0, .int 0, .ref m_endTick, .int 0, .int 0, .int 0, .int 0, .long 0])), (m_length, .inl (G.2 0, 5, .inl (fun _ => 0))), (m_has, .inl (G.2 0, 35, .inl (fun _ => 0)))] s.heap.size = A at hD ⊢
  have hA : ∀ q : Nat, s.heap.size ≤ q → A q := fun q h => by rw [← hAe]; exact Or.inr h
  have hS : va_S A s.heap s.heap [] := va_S.rf
  have hl := lv_entry ([.ref m0, .int p0, .int p1]) (n := 3) (Nat.le_of_ble_eq_true rfl)
  rw [lg_entry_eq]
  generalize (lg_sl ([.ref m0, .int p0, .int p1]) ++ List.replicate (3 - (lg_sl ([.ref m0, .int p0, .int p1])).length) Slot.unset).toArray = ls at hl ⊢
  have hl : lv_has ls 3 [(0, .ref m0), (1, .int p0), (2, .int p1)] := hl
  refine lv_aload_n hx hb dX11_yard__0 rfl (lv_at hl 0 rfl) ?_
  refine lv_iconst (v := 0) hx hb dX11_yard__1 (by decide) ?_
  refine va_put (D := G.1) (ci := 11) (v := .int 0) (ty := .int) (C := RX11) (T := TX11) (N := 58) hx hb hw inGX11 tyX11 tyX11_ok nmX11 hown hK hP hD hS 0 rfl rfl 0 (by decide) (hw _ kw_314) (fun _ h9 => h9) rfl (by decide +kernel) rfl rfl (Nat.le_of_ble_eq_true rfl) dX11_yard__2 (fun H locs hP hD hS => ?_)
  have hP : va_P G.1 vwCl [(m0, .inr (11, [.int 0, .ref m_width, .ref m_many, .ref m_cells, .ref m_moved, .ref m_tape, .int 0, .int 0, .int 0, .int 0, .int 0, .long 0, .int 0, .int 0, .int 0, .int (-1), .ref m_lines, .ref m_length, .ref m_rain, .ref m_has, .ref m_slope, .ref m_wet, .ref m_limit, .ref m_platform, .ref m_kind, .ref m_train, .ref m_coach, .ref m_isKept, .ref m_sum, .int 0, .int 15, .ref m_comes, .ref m_isStood, .int 0, .int 0, .int 0, .ref m_front, .ref m_has0, .ref m_isOn, .ref m_letTick, .ref m_letYard, .ref m_letSpeed, .ref m_where, .ref m_pace, .ref m_stood, .ref m_isOff, .ref m_off, .ref m_wrong, .int 0, .int 0, .int 0, .int 0, .ref m_endTick, .int 0, .int 0, .int 0, .int 0, .long 0])), (m_length, .inl (G.2 0, 5, .inl (fun _ => 0))), (m_has, .inl (G.2 0, 35, .inl (fun _ => 0)))] H := hP
  have hD : va_D A [(m0, .inr (11, [.int 0, .ref m_width, .ref m_many, .ref m_cells, .ref m_moved, .ref m_tape, .int 0, .int 0, .int 0, .int 0, .int 0, .long 0, .int 0, .int 0, .int 0, .int (-1), .ref m_lines, .ref m_length, .ref m_rain, .ref m_has, .ref m_slope, .ref m_wet, .ref m_limit, .ref m_platform, .ref m_kind, .ref m_train, .ref m_coach, .ref m_isKept, .ref m_sum, .int 0, .int 15, .ref m_comes, .ref m_isStood, .int 0, .int 0, .int 0, .ref m_front, .ref m_has0, .ref m_isOn, .ref m_letTick, .ref m_letYard, .ref m_letSpeed, .ref m_where, .ref m_pace, .ref m_stood, .ref m_isOff, .ref m_off, .ref m_wrong, .int 0, .int 0, .int 0, .int 0, .ref m_endTick, .int 0, .int 0, .int 0, .int 0, .long 0])), (m_length, .inl (G.2 0, 5, .inl (fun _ => 0))), (m_has, .inl (G.2 0, 35, .inl (fun _ => 0)))] := hD
  refine lv_aload_n hx hb dX11_yard__5 rfl (lv_at hl 0 rfl) ?_
  refine lv_iload_n hx hb dX11_yard__6 rfl (lv_at hl 1 rfl) ?_
  refine vp_callSi (va_Run.run (va_runV (As := [.int p0]) (rest := []) ⟨hx, hb, hml, hown, hw⟩ (c_X11_isYard l G m0 m_width m_many m_cells m_moved m_tape m_lines m_length m_rain m_has m_slope m_wet m_limit m_platform m_kind m_train m_coach m_isKept m_sum m_comes m_isStood m_front m_has0 m_isOn m_letTick m_letYard m_letSpeed m_where m_pace m_stood m_isOff m_off m_wrong m_endTick p0) (cwV 1 hw (gdV kw_316 kw_317 kw_318 kw_299 kw_315) rfl rfl rfl ⟨rfl, hdX11_isYard⟩ ⟨(Nat.le_of_ble_eq_true rfl), (Nat.le_of_ble_eq_true rfl)⟩) (preS_V (wc := [(m0, .inr (11, [.int 0, .ref m_width, .ref m_many, .ref m_cells, .ref m_moved, .ref m_tape, .int 0, .int 0, .int 0, .int 0, .int 0, .long 0, .int 0, .int 0, .int 0, .int (-1), .ref m_lines, .ref m_length, .ref m_rain, .ref m_has, .ref m_slope, .ref m_wet, .ref m_limit, .ref m_platform, .ref m_kind, .ref m_train, .ref m_coach, .ref m_isKept, .ref m_sum, .int 0, .int 15, .ref m_comes, .ref m_isStood, .int 0, .int 0, .int 0, .ref m_front, .ref m_has0, .ref m_isOn, .ref m_letTick, .ref m_letYard, .ref m_letSpeed, .ref m_where, .ref m_pace, .ref m_stood, .ref m_isOff, .ref m_off, .ref m_wrong, .int 0, .int 0, .int 0, .int 0, .ref m_endTick, .int 0, .int 0, .int 0, .int 0, .long 0])), (m_length, .inl (G.2 0, 5, .inl (fun _ => 0))), (m_has, .inl (G.2 0, 35, .inl (fun _ => 0)))]) (ci := 11) hKG hP [0, 1, 2] rfl rfl rfl) rfl rfl hl.1 rfl (lv_room (Nat.le_of_ble_eq_true rfl)) dX11_yard__7 ⟨(Nat.le_of_ble_eq_true rfl), (Nat.le_of_ble_eq_true rfl)⟩)) (fun r1 hr1 => ?_)
  subst hr1
  refine lv_if_eq (tgt := 25) hx hb dX11_yard__10 (by decide) (fun c2 => ?_) (fun c2 => absurd (by decide) c2)
  refine lv_bipush (v := (-2)) hx hb dX11_yard__25 (by decide) ?_
  refine lv_goto (tgt := 63) hx hb dX11_yard__27 (by decide) ?_
  exact W.iret (v := (-2)) hx hb hr (fun t ht hW => ⟨⟨(-2), (), rfl, rfl, ⟨by rw [ht]; exact hP.sub [] rfl, hD.sub [] (by decide +kernel) rfl⟩⟩, hS.F ht⟩) hS.2.2 dX11_yard__63
set_option maxHeartbeats 4000000 in
set_option maxRecDepth 100000 in
theorem c_X11_coach (l : Launch) (G : KG) (m0 : Nat) (m_width : Nat) (m_many : Nat) (m_cells : Nat) (m_moved : Nat) (m_tape : Nat) (m_lines : Nat) (m_length : Nat) (m_rain : Nat) (m_has : Nat) (m_slope : Nat) (m_wet : Nat) (m_limit : Nat) (m_platform : Nat) (m_kind : Nat) (m_train : Nat) (m_coach : Nat) (m_isKept : Nat) (m_sum : Nat) (m_comes : Nat) (m_isStood : Nat) (m_front : Nat) (m_has0 : Nat) (m_isOn : Nat) (m_letTick : Nat) (m_letYard : Nat) (m_letSpeed : Nat) (m_where : Nat) (m_pace : Nat) (m_stood : Nat) (m_isOff : Nat) (m_off : Nat) (m_wrong : Nat) (m_endTick : Nat) (p0 : Int32) (p1 : Int32) (sz : Nat) : Met l yX11_coach wgX11_coach ({ frames := 2, cells := 0, slots := 0, locals := 46 }) (preQ G [.ref m0, .int p0, .int p1] sz [(m0, .inr (11, [.int 0, .ref m_width, .ref m_many, .ref m_cells, .ref m_moved, .ref m_tape, .int 0, .int 0, .int 0, .int 0, .int 0, .long 0, .int 0, .int 0, .int 0, .int (-1), .ref m_lines, .ref m_length, .ref m_rain, .ref m_has, .ref m_slope, .ref m_wet, .ref m_limit, .ref m_platform, .ref m_kind, .ref m_train, .ref m_coach, .ref m_isKept, .ref m_sum, .int 0, .int 15, .ref m_comes, .ref m_isStood, .int 0, .int 0, .int 0, .ref m_front, .ref m_has0, .ref m_isOn, .ref m_letTick, .ref m_letYard, .ref m_letSpeed, .ref m_where, .ref m_pace, .ref m_stood, .ref m_isOff, .ref m_off, .ref m_wrong, .int 0, .int 0, .int 0, .int 0, .ref m_endTick, .int 0, .int 0, .int 0, .int 0, .long 0])), (m_length, .inl (G.2 0, 5, .inl (fun _ => 0))), (m_has, .inl (G.2 0, 35, .inl (fun _ => 0)))]) (va_Qi (fun (r : Int32) (u : Unit) => (r = (-2))) (fun u t => atQ G (va_A [(m0, .inr (11, [.int 0, .ref m_width, .ref m_many, .ref m_cells, .ref m_moved, .ref m_tape, .int 0, .int 0, .int 0, .int 0, .int 0, .long 0, .int 0, .int 0, .int 0, .int (-1), .ref m_lines, .ref m_length, .ref m_rain, .ref m_has, .ref m_slope, .ref m_wet, .ref m_limit, .ref m_platform, .ref m_kind, .ref m_train, .ref m_coach, .ref m_isKept, .ref m_sum, .int 0, .int 15, .ref m_comes, .ref m_isStood, .int 0, .int 0, .int 0, .ref m_front, .ref m_has0, .ref m_isOn, .ref m_letTick, .ref m_letYard, .ref m_letSpeed, .ref m_where, .ref m_pace, .ref m_stood, .ref m_isOff, .ref m_off, .ref m_wrong, .int 0, .int 0, .int 0, .int 0, .ref m_endTick, .int 0, .int 0, .int 0, .int 0, .long 0])), (m_length, .inl (G.2 0, 5, .inl (fun _ => 0))), (m_has, .inl (G.2 0, 35, .inl (fun _ => 0)))] sz) [] t) (va_A [(m0, .inr (11, [.int 0, .ref m_width, .ref m_many, .ref m_cells, .ref m_moved, .ref m_tape, .int 0, .int 0, .int 0, .int 0, .int 0, .long 0, .int 0, .int 0, .int 0, .int (-1), .ref m_lines, .ref m_length, .ref m_rain, .ref m_has, .ref m_slope, .ref m_wet, .ref m_limit, .ref m_platform, .ref m_kind, .ref m_train, .ref m_coach, .ref m_isKept, .ref m_sum, .int 0, .int 15, .ref m_comes, .ref m_isStood, .int 0, .int 0, .int 0, .ref m_front, .ref m_has0, .ref m_isOn, .ref m_letTick, .ref m_letYard, .ref m_letSpeed, .ref m_where, .ref m_pace, .ref m_stood, .ref m_isOff, .ref m_off, .ref m_wrong, .int 0, .int 0, .int 0, .int 0, .ref m_endTick, .int 0, .int 0, .int 0, .int 0, .long 0])), (m_length, .inl (G.2 0, 5, .inl (fun _ => 0))), (m_has, .inl (G.2 0, 35, .inl (fun _ => 0)))] sz)) 0 0 (va_A [(m0, .inr (11, [.int 0, .ref m_width, .ref m_many, .ref m_cells, .ref m_moved, .ref m_tape, .int 0, .int 0, .int 0, .int 0, .int 0, .long 0, .int 0, .int 0, .int 0, .int (-1), .ref m_lines, .ref m_length, .ref m_rain, .ref m_has, .ref m_slope, .ref m_wet, .ref m_limit, .ref m_platform, .ref m_kind, .ref m_train, .ref m_coach, .ref m_isKept, .ref m_sum, .int 0, .int 15, .ref m_comes, .ref m_isStood, .int 0, .int 0, .int 0, .ref m_front, .ref m_has0, .ref m_isOn, .ref m_letTick, .ref m_letYard, .ref m_letSpeed, .ref m_where, .ref m_pace, .ref m_stood, .ref m_isOff, .ref m_off, .ref m_wrong, .int 0, .int 0, .int 0, .int 0, .ref m_endTick, .int 0, .int 0, .int 0, .int 0, .long 0])), (m_length, .inl (G.2 0, 5, .inl (fun _ => 0))), (m_has, .inl (G.2 0, 35, .inl (fun _ => 0)))] sz) := by
  refine Met.ofW (cc := cX11_coach) (maxL := 3) (ret := (some .int)) (by decide) rfl ?_
  intro p e s m args below meth c s₁ B hml hv
  obtain ⟨rfl, hsz, hP, hKG, hD0⟩ := hv
  obtain ⟨hK, hAO⟩ := id hKG
  have hx := B.exec
  have hb := B.bytes
  have hr := B.returns
  have hts := atoms_spec (ws := wgX11_coach) B.pre
  have hw : ∀ w ∈ wG, w.before _ s = true := fun w h => hts w (List.mem_cons_of_mem _ h)
  have hown : s.vm.findClass RX11 = some m.cls := findClass_of_methodNamed B.named
  have hlocks := B.notSynchronized
  subst hsz
  have hD := hD0.self (sz := s.heap.size)
  generalize hAe : va_A [(m0, .inr (11, [.int 0, .ref m_width, .ref m_many, .ref m_cells, .ref m_moved, .ref m_tape, .int 0, .int 0, .int 0, .int 0, .int 0, .long 0, .int 0, .int 0, .int 0, .int (-1), .ref m_lines, .ref m_length, .ref m_rain, .ref m_has, .ref m_slope, .ref m_wet, .ref m_limit, .ref m_platform, .ref m_kind, .ref m_train, .ref m_coach, .ref m_isKept, .ref m_sum, .int 0, .int 15, .ref m_comes, .ref m_isStood, .int 0, .int 0, .int 0, .ref m_front, .ref m_has0, .ref m_isOn, .ref m_letTick, .ref m_letYard, .ref m_letSpeed, .ref m_where, .ref m_pace, .ref m_stood, .ref m_isOff, .ref m_off, .ref m_wrong, .int 0, .int 0, .int 0, .int 0, .ref m_endTick, .int 0, .int 0, .int 0, .int 0, .long 0])), (m_length, .inl (G.2 0, 5, .inl (fun _ => 0))), (m_has, .inl (G.2 0, 35, .inl (fun _ => 0)))] s.heap.size = A at hD ⊢
  have hA : ∀ q : Nat, s.heap.size ≤ q → A q := fun q h => by rw [← hAe]; exact Or.inr h
  have hS : va_S A s.heap s.heap [] := va_S.rf
  have hl := lv_entry ([.ref m0, .int p0, .int p1]) (n := 3) (Nat.le_of_ble_eq_true rfl)
  rw [lg_entry_eq]
  generalize (lg_sl ([.ref m0, .int p0, .int p1]) ++ List.replicate (3 - (lg_sl ([.ref m0, .int p0, .int p1])).length) Slot.unset).toArray = ls at hl ⊢
  have hl : lv_has ls 3 [(0, .ref m0), (1, .int p0), (2, .int p1)] := hl
  refine lv_aload_n hx hb dX11_coach_0 rfl (lv_at hl 0 rfl) ?_
  refine lv_iconst (v := 0) hx hb dX11_coach_1 (by decide) ?_
  refine va_put (D := G.1) (ci := 11) (v := .int 0) (ty := .int) (C := RX11) (T := TX11) (N := 58) hx hb hw inGX11 tyX11 tyX11_ok nmX11 hown hK hP hD hS 0 rfl rfl 0 (by decide) (hw _ kw_314) (fun _ h9 => h9) rfl (by decide +kernel) rfl rfl (Nat.le_of_ble_eq_true rfl) dX11_coach_2 (fun H locs hP hD hS => ?_)
  have hP : va_P G.1 vwCl [(m0, .inr (11, [.int 0, .ref m_width, .ref m_many, .ref m_cells, .ref m_moved, .ref m_tape, .int 0, .int 0, .int 0, .int 0, .int 0, .long 0, .int 0, .int 0, .int 0, .int (-1), .ref m_lines, .ref m_length, .ref m_rain, .ref m_has, .ref m_slope, .ref m_wet, .ref m_limit, .ref m_platform, .ref m_kind, .ref m_train, .ref m_coach, .ref m_isKept, .ref m_sum, .int 0, .int 15, .ref m_comes, .ref m_isStood, .int 0, .int 0, .int 0, .ref m_front, .ref m_has0, .ref m_isOn, .ref m_letTick, .ref m_letYard, .ref m_letSpeed, .ref m_where, .ref m_pace, .ref m_stood, .ref m_isOff, .ref m_off, .ref m_wrong, .int 0, .int 0, .int 0, .int 0, .ref m_endTick, .int 0, .int 0, .int 0, .int 0, .long 0])), (m_length, .inl (G.2 0, 5, .inl (fun _ => 0))), (m_has, .inl (G.2 0, 35, .inl (fun _ => 0)))] H := hP
  have hD : va_D A [(m0, .inr (11, [.int 0, .ref m_width, .ref m_many, .ref m_cells, .ref m_moved, .ref m_tape, .int 0, .int 0, .int 0, .int 0, .int 0, .long 0, .int 0, .int 0, .int 0, .int (-1), .ref m_lines, .ref m_length, .ref m_rain, .ref m_has, .ref m_slope, .ref m_wet, .ref m_limit, .ref m_platform, .ref m_kind, .ref m_train, .ref m_coach, .ref m_isKept, .ref m_sum, .int 0, .int 15, .ref m_comes, .ref m_isStood, .int 0, .int 0, .int 0, .ref m_front, .ref m_has0, .ref m_isOn, .ref m_letTick, .ref m_letYard, .ref m_letSpeed, .ref m_where, .ref m_pace, .ref m_stood, .ref m_isOff, .ref m_off, .ref m_wrong, .int 0, .int 0, .int 0, .int 0, .ref m_endTick, .int 0, .int 0, .int 0, .int 0, .long 0])), (m_length, .inl (G.2 0, 5, .inl (fun _ => 0))), (m_has, .inl (G.2 0, 35, .inl (fun _ => 0)))] := hD
  refine lv_aload_n hx hb dX11_coach_5 rfl (lv_at hl 0 rfl) ?_
  refine lv_iload_n hx hb dX11_coach_6 rfl (lv_at hl 1 rfl) ?_
  refine vp_callSi (va_Run.run (va_runV (As := [.int p0]) (rest := []) ⟨hx, hb, hml, hown, hw⟩ (c_X11_isCoach l G m0 m_width m_many m_cells m_moved m_tape m_lines m_length m_rain m_has m_slope m_wet m_limit m_platform m_kind m_train m_coach m_isKept m_sum m_comes m_isStood m_front m_has0 m_isOn m_letTick m_letYard m_letSpeed m_where m_pace m_stood m_isOff m_off m_wrong m_endTick p0) (cwV 1 hw (gdV kw_320 kw_321 kw_322 kw_299 kw_319) rfl rfl rfl ⟨rfl, hdX11_isCoach⟩ ⟨(Nat.le_of_ble_eq_true rfl), (Nat.le_of_ble_eq_true rfl)⟩) (preS_V (wc := [(m0, .inr (11, [.int 0, .ref m_width, .ref m_many, .ref m_cells, .ref m_moved, .ref m_tape, .int 0, .int 0, .int 0, .int 0, .int 0, .long 0, .int 0, .int 0, .int 0, .int (-1), .ref m_lines, .ref m_length, .ref m_rain, .ref m_has, .ref m_slope, .ref m_wet, .ref m_limit, .ref m_platform, .ref m_kind, .ref m_train, .ref m_coach, .ref m_isKept, .ref m_sum, .int 0, .int 15, .ref m_comes, .ref m_isStood, .int 0, .int 0, .int 0, .ref m_front, .ref m_has0, .ref m_isOn, .ref m_letTick, .ref m_letYard, .ref m_letSpeed, .ref m_where, .ref m_pace, .ref m_stood, .ref m_isOff, .ref m_off, .ref m_wrong, .int 0, .int 0, .int 0, .int 0, .ref m_endTick, .int 0, .int 0, .int 0, .int 0, .long 0])), (m_length, .inl (G.2 0, 5, .inl (fun _ => 0))), (m_has, .inl (G.2 0, 35, .inl (fun _ => 0)))]) (ci := 11) hKG hP [0, 1, 2] rfl rfl rfl) rfl rfl hl.1 rfl (lv_room (Nat.le_of_ble_eq_true rfl)) dX11_coach_7 ⟨(Nat.le_of_ble_eq_true rfl), (Nat.le_of_ble_eq_true rfl)⟩)) (fun r1 hr1 => ?_)
  subst hr1
  refine lv_if_eq (tgt := 38) hx hb dX11_coach_10 (by decide) (fun c2 => ?_) (fun c2 => absurd (by decide) c2)
  refine lv_bipush (v := (-2)) hx hb dX11_coach_38 (by decide) ?_
  exact W.iret (v := (-2)) hx hb hr (fun t ht hW => ⟨⟨(-2), (), rfl, rfl, ⟨by rw [ht]; exact hP.sub [] rfl, hD.sub [] (by decide +kernel) rfl⟩⟩, hS.F ht⟩) hS.2.2 dX11_coach_40
set_option maxHeartbeats 4000000 in
set_option maxRecDepth 100000 in
theorem c_X11_rain (l : Launch) (G : KG) (m0 : Nat) (m_width : Nat) (m_many : Nat) (m_cells : Nat) (m_moved : Nat) (m_tape : Nat) (m_lines : Nat) (m_length : Nat) (m_rain : Nat) (m_has : Nat) (m_slope : Nat) (m_wet : Nat) (m_limit : Nat) (m_platform : Nat) (m_kind : Nat) (m_train : Nat) (m_coach : Nat) (m_isKept : Nat) (m_sum : Nat) (m_comes : Nat) (m_isStood : Nat) (m_front : Nat) (m_has0 : Nat) (m_isOn : Nat) (m_letTick : Nat) (m_letYard : Nat) (m_letSpeed : Nat) (m_where : Nat) (m_pace : Nat) (m_stood : Nat) (m_isOff : Nat) (m_off : Nat) (m_wrong : Nat) (m_endTick : Nat) (p0 : Int32) (sz : Nat) : Met l yX11_rain wgX11_rain ({ frames := 1, cells := 0, slots := 0, locals := 20 }) (preQ G [.ref m0, .int p0] sz [(m0, .inr (11, [.int 0, .ref m_width, .ref m_many, .ref m_cells, .ref m_moved, .ref m_tape, .int 0, .int 0, .int 0, .int 0, .int 0, .long 0, .int 0, .int 0, .int 0, .int (-1), .ref m_lines, .ref m_length, .ref m_rain, .ref m_has, .ref m_slope, .ref m_wet, .ref m_limit, .ref m_platform, .ref m_kind, .ref m_train, .ref m_coach, .ref m_isKept, .ref m_sum, .int 0, .int 15, .ref m_comes, .ref m_isStood, .int 0, .int 0, .int 0, .ref m_front, .ref m_has0, .ref m_isOn, .ref m_letTick, .ref m_letYard, .ref m_letSpeed, .ref m_where, .ref m_pace, .ref m_stood, .ref m_isOff, .ref m_off, .ref m_wrong, .int 0, .int 0, .int 0, .int 0, .ref m_endTick, .int 0, .int 0, .int 0, .int 0, .long 0])), (m_length, .inl (G.2 0, 5, .inl (fun _ => 0))), (m_has, .inl (G.2 0, 35, .inl (fun _ => 0)))]) (va_Qi (fun (r : Int32) (u : Unit) => (r = (-2))) (fun u t => atQ G (va_A [(m0, .inr (11, [.int 0, .ref m_width, .ref m_many, .ref m_cells, .ref m_moved, .ref m_tape, .int 0, .int 0, .int 0, .int 0, .int 0, .long 0, .int 0, .int 0, .int 0, .int (-1), .ref m_lines, .ref m_length, .ref m_rain, .ref m_has, .ref m_slope, .ref m_wet, .ref m_limit, .ref m_platform, .ref m_kind, .ref m_train, .ref m_coach, .ref m_isKept, .ref m_sum, .int 0, .int 15, .ref m_comes, .ref m_isStood, .int 0, .int 0, .int 0, .ref m_front, .ref m_has0, .ref m_isOn, .ref m_letTick, .ref m_letYard, .ref m_letSpeed, .ref m_where, .ref m_pace, .ref m_stood, .ref m_isOff, .ref m_off, .ref m_wrong, .int 0, .int 0, .int 0, .int 0, .ref m_endTick, .int 0, .int 0, .int 0, .int 0, .long 0])), (m_length, .inl (G.2 0, 5, .inl (fun _ => 0))), (m_has, .inl (G.2 0, 35, .inl (fun _ => 0)))] sz) [] t) (va_A [(m0, .inr (11, [.int 0, .ref m_width, .ref m_many, .ref m_cells, .ref m_moved, .ref m_tape, .int 0, .int 0, .int 0, .int 0, .int 0, .long 0, .int 0, .int 0, .int 0, .int (-1), .ref m_lines, .ref m_length, .ref m_rain, .ref m_has, .ref m_slope, .ref m_wet, .ref m_limit, .ref m_platform, .ref m_kind, .ref m_train, .ref m_coach, .ref m_isKept, .ref m_sum, .int 0, .int 15, .ref m_comes, .ref m_isStood, .int 0, .int 0, .int 0, .ref m_front, .ref m_has0, .ref m_isOn, .ref m_letTick, .ref m_letYard, .ref m_letSpeed, .ref m_where, .ref m_pace, .ref m_stood, .ref m_isOff, .ref m_off, .ref m_wrong, .int 0, .int 0, .int 0, .int 0, .ref m_endTick, .int 0, .int 0, .int 0, .int 0, .long 0])), (m_length, .inl (G.2 0, 5, .inl (fun _ => 0))), (m_has, .inl (G.2 0, 35, .inl (fun _ => 0)))] sz)) 0 0 (va_A [(m0, .inr (11, [.int 0, .ref m_width, .ref m_many, .ref m_cells, .ref m_moved, .ref m_tape, .int 0, .int 0, .int 0, .int 0, .int 0, .long 0, .int 0, .int 0, .int 0, .int (-1), .ref m_lines, .ref m_length, .ref m_rain, .ref m_has, .ref m_slope, .ref m_wet, .ref m_limit, .ref m_platform, .ref m_kind, .ref m_train, .ref m_coach, .ref m_isKept, .ref m_sum, .int 0, .int 15, .ref m_comes, .ref m_isStood, .int 0, .int 0, .int 0, .ref m_front, .ref m_has0, .ref m_isOn, .ref m_letTick, .ref m_letYard, .ref m_letSpeed, .ref m_where, .ref m_pace, .ref m_stood, .ref m_isOff, .ref m_off, .ref m_wrong, .int 0, .int 0, .int 0, .int 0, .ref m_endTick, .int 0, .int 0, .int 0, .int 0, .long 0])), (m_length, .inl (G.2 0, 5, .inl (fun _ => 0))), (m_has, .inl (G.2 0, 35, .inl (fun _ => 0)))] sz) := by
  refine Met.ofW (cc := cX11_rain) (maxL := 3) (ret := (some .int)) (by decide) rfl ?_
  intro p e s m args below meth c s₁ B hml hv
  obtain ⟨rfl, hsz, hP, hKG, hD0⟩ := hv
  obtain ⟨hK, hAO⟩ := id hKG
  have hx := B.exec
  have hb := B.bytes
  have hr := B.returns
  have hts := atoms_spec (ws := wgX11_rain) B.pre
  have hw : ∀ w ∈ wG, w.before _ s = true := fun w h => hts w (List.mem_cons_of_mem _ h)
  have hown : s.vm.findClass RX11 = some m.cls := findClass_of_methodNamed B.named
  have hlocks := B.notSynchronized
  subst hsz
  have hD := hD0.self (sz := s.heap.size)
  generalize hAe : va_A [(m0, .inr (11, [.int 0, .ref m_width, .ref m_many, .ref m_cells, .ref m_moved, .ref m_tape, .int 0, .int 0, .int 0, .int 0, .int 0, .long 0, .int 0, .int 0, .int 0, .int (-1), .ref m_lines, .ref m_length, .ref m_rain, .ref m_has, .ref m_slope, .ref m_wet, .ref m_limit, .ref m_platform, .ref m_kind, .ref m_train, .ref m_coach, .ref m_isKept, .ref m_sum, .int 0, .int 15, .ref m_comes, .ref m_isStood, .int 0, .int 0, .int 0, .ref m_front, .ref m_has0, .ref m_isOn, .ref m_letTick, .ref m_letYard, .ref m_letSpeed, .ref m_where, .ref m_pace, .ref m_stood, .ref m_isOff, .ref m_off, .ref m_wrong, .int 0, .int 0, .int 0, .int 0, .ref m_endTick, .int 0, .int 0, .int 0, .int 0, .long 0])), (m_length, .inl (G.2 0, 5, .inl (fun _ => 0))), (m_has, .inl (G.2 0, 35, .inl (fun _ => 0)))] s.heap.size = A at hD ⊢
  have hA : ∀ q : Nat, s.heap.size ≤ q → A q := fun q h => by rw [← hAe]; exact Or.inr h
  have hS : va_S A s.heap s.heap [] := va_S.rf
  have hl := lv_entry ([.ref m0, .int p0]) (n := 3) (Nat.le_of_ble_eq_true rfl)
  rw [lg_entry_eq]
  generalize (lg_sl ([.ref m0, .int p0]) ++ List.replicate (3 - (lg_sl ([.ref m0, .int p0])).length) Slot.unset).toArray = ls at hl ⊢
  have hl : lv_has ls 3 [(0, .ref m0), (1, .int p0)] := hl
  refine lv_aload_n hx hb dX11_rain_0 rfl (lv_at hl 0 rfl) ?_
  refine lv_iconst (v := 0) hx hb dX11_rain_1 (by decide) ?_
  refine va_put (D := G.1) (ci := 11) (v := .int 0) (ty := .int) (C := RX11) (T := TX11) (N := 58) hx hb hw inGX11 tyX11 tyX11_ok nmX11 hown hK hP hD hS 0 rfl rfl 0 (by decide) (hw _ kw_314) (fun _ h9 => h9) rfl (by decide +kernel) rfl rfl (Nat.le_of_ble_eq_true rfl) dX11_rain_2 (fun H locs hP hD hS => ?_)
  have hP : va_P G.1 vwCl [(m0, .inr (11, [.int 0, .ref m_width, .ref m_many, .ref m_cells, .ref m_moved, .ref m_tape, .int 0, .int 0, .int 0, .int 0, .int 0, .long 0, .int 0, .int 0, .int 0, .int (-1), .ref m_lines, .ref m_length, .ref m_rain, .ref m_has, .ref m_slope, .ref m_wet, .ref m_limit, .ref m_platform, .ref m_kind, .ref m_train, .ref m_coach, .ref m_isKept, .ref m_sum, .int 0, .int 15, .ref m_comes, .ref m_isStood, .int 0, .int 0, .int 0, .ref m_front, .ref m_has0, .ref m_isOn, .ref m_letTick, .ref m_letYard, .ref m_letSpeed, .ref m_where, .ref m_pace, .ref m_stood, .ref m_isOff, .ref m_off, .ref m_wrong, .int 0, .int 0, .int 0, .int 0, .ref m_endTick, .int 0, .int 0, .int 0, .int 0, .long 0])), (m_length, .inl (G.2 0, 5, .inl (fun _ => 0))), (m_has, .inl (G.2 0, 35, .inl (fun _ => 0)))] H := hP
  have hD : va_D A [(m0, .inr (11, [.int 0, .ref m_width, .ref m_many, .ref m_cells, .ref m_moved, .ref m_tape, .int 0, .int 0, .int 0, .int 0, .int 0, .long 0, .int 0, .int 0, .int 0, .int (-1), .ref m_lines, .ref m_length, .ref m_rain, .ref m_has, .ref m_slope, .ref m_wet, .ref m_limit, .ref m_platform, .ref m_kind, .ref m_train, .ref m_coach, .ref m_isKept, .ref m_sum, .int 0, .int 15, .ref m_comes, .ref m_isStood, .int 0, .int 0, .int 0, .ref m_front, .ref m_has0, .ref m_isOn, .ref m_letTick, .ref m_letYard, .ref m_letSpeed, .ref m_where, .ref m_pace, .ref m_stood, .ref m_isOff, .ref m_off, .ref m_wrong, .int 0, .int 0, .int 0, .int 0, .ref m_endTick, .int 0, .int 0, .int 0, .int 0, .long 0])), (m_length, .inl (G.2 0, 5, .inl (fun _ => 0))), (m_has, .inl (G.2 0, 35, .inl (fun _ => 0)))] := hD
  refine lv_aload_n hx hb dX11_rain_5 rfl (lv_at hl 0 rfl) ?_
  refine vp_callSi (va_Run.run (va_runV (As := []) (rest := []) ⟨hx, hb, hml, hown, hw⟩ (c_X11_isLine l G m0 m_width m_many m_cells m_moved m_tape m_lines m_length m_rain m_has m_slope m_wet m_limit m_platform m_kind m_train m_coach m_isKept m_sum m_comes m_isStood m_front m_has0 m_isOn m_letTick m_letYard m_letSpeed m_where m_pace m_stood m_isOff m_off m_wrong m_endTick) (cwV 0 hw (gdV kw_302 kw_303 kw_304 kw_299 kw_301) rfl rfl rfl ⟨rfl, hdX11_isLine⟩ ⟨(Nat.le_of_ble_eq_true rfl), (Nat.le_of_ble_eq_true rfl)⟩) (preS_V (wc := [(m0, .inr (11, [.int 0, .ref m_width, .ref m_many, .ref m_cells, .ref m_moved, .ref m_tape, .int 0, .int 0, .int 0, .int 0, .int 0, .long 0, .int 0, .int 0, .int 0, .int (-1), .ref m_lines, .ref m_length, .ref m_rain, .ref m_has, .ref m_slope, .ref m_wet, .ref m_limit, .ref m_platform, .ref m_kind, .ref m_train, .ref m_coach, .ref m_isKept, .ref m_sum, .int 0, .int 15, .ref m_comes, .ref m_isStood, .int 0, .int 0, .int 0, .ref m_front, .ref m_has0, .ref m_isOn, .ref m_letTick, .ref m_letYard, .ref m_letSpeed, .ref m_where, .ref m_pace, .ref m_stood, .ref m_isOff, .ref m_off, .ref m_wrong, .int 0, .int 0, .int 0, .int 0, .ref m_endTick, .int 0, .int 0, .int 0, .int 0, .long 0])), (m_length, .inl (G.2 0, 5, .inl (fun _ => 0))), (m_has, .inl (G.2 0, 35, .inl (fun _ => 0)))]) (ci := 11) hKG hP [0, 1, 2] rfl rfl rfl) rfl rfl hl.1 rfl (lv_room (Nat.le_of_ble_eq_true rfl)) dX11_rain_6 ⟨(Nat.le_of_ble_eq_true rfl), (Nat.le_of_ble_eq_true rfl)⟩)) (fun r1 hr1 => ?_)
  subst hr1
  refine lv_if_eq (tgt := 24) hx hb dX11_rain_9 (by decide) (fun c2 => ?_) (fun c2 => absurd (by decide) c2)
  refine lv_bipush (v := (-2)) hx hb dX11_rain_24 (by decide) ?_
  exact W.iret (v := (-2)) hx hb hr (fun t ht hW => ⟨⟨(-2), (), rfl, rfl, ⟨by rw [ht]; exact hP.sub [] rfl, hD.sub [] (by decide +kernel) rfl⟩⟩, hS.F ht⟩) hS.2.2 dX11_rain_26
set_option maxHeartbeats 4000000 in
set_option maxRecDepth 100000 in
theorem c_X11_post (l : Launch) (G : KG) (m0 : Nat) (m_width : Nat) (m_many : Nat) (m_cells : Nat) (m_moved : Nat) (m_tape : Nat) (m_lines : Nat) (m_length : Nat) (m_rain : Nat) (m_has : Nat) (m_slope : Nat) (m_wet : Nat) (m_limit : Nat) (m_platform : Nat) (m_kind : Nat) (m_train : Nat) (m_coach : Nat) (m_isKept : Nat) (m_sum : Nat) (m_comes : Nat) (m_isStood : Nat) (m_front : Nat) (m_has0 : Nat) (m_isOn : Nat) (m_letTick : Nat) (m_letYard : Nat) (m_letSpeed : Nat) (m_where : Nat) (m_pace : Nat) (m_stood : Nat) (m_isOff : Nat) (m_off : Nat) (m_wrong : Nat) (m_endTick : Nat) (p0 : Int32) (p1 : Int32) (sz : Nat) : Met l yX11_post wgX11_post ({ frames := 2, cells := 0, slots := 0, locals := 46 }) (preQ G [.ref m0, .int p0, .int p1] sz [(m0, .inr (11, [.int 0, .ref m_width, .ref m_many, .ref m_cells, .ref m_moved, .ref m_tape, .int 0, .int 0, .int 0, .int 0, .int 0, .long 0, .int 0, .int 0, .int 0, .int (-1), .ref m_lines, .ref m_length, .ref m_rain, .ref m_has, .ref m_slope, .ref m_wet, .ref m_limit, .ref m_platform, .ref m_kind, .ref m_train, .ref m_coach, .ref m_isKept, .ref m_sum, .int 0, .int 15, .ref m_comes, .ref m_isStood, .int 0, .int 0, .int 0, .ref m_front, .ref m_has0, .ref m_isOn, .ref m_letTick, .ref m_letYard, .ref m_letSpeed, .ref m_where, .ref m_pace, .ref m_stood, .ref m_isOff, .ref m_off, .ref m_wrong, .int 0, .int 0, .int 0, .int 0, .ref m_endTick, .int 0, .int 0, .int 0, .int 0, .long 0])), (m_length, .inl (G.2 0, 5, .inl (fun _ => 0))), (m_has, .inl (G.2 0, 35, .inl (fun _ => 0)))]) (va_Qi (fun (r : Int32) (u : Unit) => (r = (-2))) (fun u t => atQ G (va_A [(m0, .inr (11, [.int 0, .ref m_width, .ref m_many, .ref m_cells, .ref m_moved, .ref m_tape, .int 0, .int 0, .int 0, .int 0, .int 0, .long 0, .int 0, .int 0, .int 0, .int (-1), .ref m_lines, .ref m_length, .ref m_rain, .ref m_has, .ref m_slope, .ref m_wet, .ref m_limit, .ref m_platform, .ref m_kind, .ref m_train, .ref m_coach, .ref m_isKept, .ref m_sum, .int 0, .int 15, .ref m_comes, .ref m_isStood, .int 0, .int 0, .int 0, .ref m_front, .ref m_has0, .ref m_isOn, .ref m_letTick, .ref m_letYard, .ref m_letSpeed, .ref m_where, .ref m_pace, .ref m_stood, .ref m_isOff, .ref m_off, .ref m_wrong, .int 0, .int 0, .int 0, .int 0, .ref m_endTick, .int 0, .int 0, .int 0, .int 0, .long 0])), (m_length, .inl (G.2 0, 5, .inl (fun _ => 0))), (m_has, .inl (G.2 0, 35, .inl (fun _ => 0)))] sz) [] t) (va_A [(m0, .inr (11, [.int 0, .ref m_width, .ref m_many, .ref m_cells, .ref m_moved, .ref m_tape, .int 0, .int 0, .int 0, .int 0, .int 0, .long 0, .int 0, .int 0, .int 0, .int (-1), .ref m_lines, .ref m_length, .ref m_rain, .ref m_has, .ref m_slope, .ref m_wet, .ref m_limit, .ref m_platform, .ref m_kind, .ref m_train, .ref m_coach, .ref m_isKept, .ref m_sum, .int 0, .int 15, .ref m_comes, .ref m_isStood, .int 0, .int 0, .int 0, .ref m_front, .ref m_has0, .ref m_isOn, .ref m_letTick, .ref m_letYard, .ref m_letSpeed, .ref m_where, .ref m_pace, .ref m_stood, .ref m_isOff, .ref m_off, .ref m_wrong, .int 0, .int 0, .int 0, .int 0, .ref m_endTick, .int 0, .int 0, .int 0, .int 0, .long 0])), (m_length, .inl (G.2 0, 5, .inl (fun _ => 0))), (m_has, .inl (G.2 0, 35, .inl (fun _ => 0)))] sz)) 0 0 (va_A [(m0, .inr (11, [.int 0, .ref m_width, .ref m_many, .ref m_cells, .ref m_moved, .ref m_tape, .int 0, .int 0, .int 0, .int 0, .int 0, .long 0, .int 0, .int 0, .int 0, .int (-1), .ref m_lines, .ref m_length, .ref m_rain, .ref m_has, .ref m_slope, .ref m_wet, .ref m_limit, .ref m_platform, .ref m_kind, .ref m_train, .ref m_coach, .ref m_isKept, .ref m_sum, .int 0, .int 15, .ref m_comes, .ref m_isStood, .int 0, .int 0, .int 0, .ref m_front, .ref m_has0, .ref m_isOn, .ref m_letTick, .ref m_letYard, .ref m_letSpeed, .ref m_where, .ref m_pace, .ref m_stood, .ref m_isOff, .ref m_off, .ref m_wrong, .int 0, .int 0, .int 0, .int 0, .ref m_endTick, .int 0, .int 0, .int 0, .int 0, .long 0])), (m_length, .inl (G.2 0, 5, .inl (fun _ => 0))), (m_has, .inl (G.2 0, 35, .inl (fun _ => 0)))] sz) := by
  refine Met.ofW (cc := cX11_post) (maxL := 4) (ret := (some .int)) (by decide) rfl ?_
  intro p e s m args below meth c s₁ B hml hv
  obtain ⟨rfl, hsz, hP, hKG, hD0⟩ := hv
  obtain ⟨hK, hAO⟩ := id hKG
  have hx := B.exec
  have hb := B.bytes
  have hr := B.returns
  have hts := atoms_spec (ws := wgX11_post) B.pre
  have hw : ∀ w ∈ wG, w.before _ s = true := fun w h => hts w (List.mem_cons_of_mem _ h)
  have hown : s.vm.findClass RX11 = some m.cls := findClass_of_methodNamed B.named
  have hlocks := B.notSynchronized
  subst hsz
  have hD := hD0.self (sz := s.heap.size)
  generalize hAe : va_A [(m0, .inr (11, [.int 0, .ref m_width, .ref m_many, .ref m_cells, .ref m_moved, .ref m_tape, .int 0, .int 0, .int 0, .int 0, .int 0, .long 0, .int 0, .int 0, .int 0, .int (-1), .ref m_lines, .ref m_length, .ref m_rain, .ref m_has, .ref m_slope, .ref m_wet, .ref m_limit, .ref m_platform, .ref m_kind, .ref m_train, .ref m_coach, .ref m_isKept, .ref m_sum, .int 0, .int 15, .ref m_comes, .ref m_isStood, .int 0, .int 0, .int 0, .ref m_front, .ref m_has0, .ref m_isOn, .ref m_letTick, .ref m_letYard, .ref m_letSpeed, .ref m_where, .ref m_pace, .ref m_stood, .ref m_isOff, .ref m_off, .ref m_wrong, .int 0, .int 0, .int 0, .int 0, .ref m_endTick, .int 0, .int 0, .int 0, .int 0, .long 0])), (m_length, .inl (G.2 0, 5, .inl (fun _ => 0))), (m_has, .inl (G.2 0, 35, .inl (fun _ => 0)))] s.heap.size = A at hD ⊢
  have hA : ∀ q : Nat, s.heap.size ≤ q → A q := fun q h => by rw [← hAe]; exact Or.inr h
  have hS : va_S A s.heap s.heap [] := va_S.rf
  have hl := lv_entry ([.ref m0, .int p0, .int p1]) (n := 4) (Nat.le_of_ble_eq_true rfl)
  rw [lg_entry_eq]
  generalize (lg_sl ([.ref m0, .int p0, .int p1]) ++ List.replicate (4 - (lg_sl ([.ref m0, .int p0, .int p1])).length) Slot.unset).toArray = ls at hl ⊢
  have hl : lv_has ls 4 [(0, .ref m0), (1, .int p0), (2, .int p1)] := hl
  refine lv_aload_n hx hb dX11_post_0 rfl (lv_at hl 0 rfl) ?_
  refine lv_iconst (v := 0) hx hb dX11_post_1 (by decide) ?_
  refine va_put (D := G.1) (ci := 11) (v := .int 0) (ty := .int) (C := RX11) (T := TX11) (N := 58) hx hb hw inGX11 tyX11 tyX11_ok nmX11 hown hK hP hD hS 0 rfl rfl 0 (by decide) (hw _ kw_314) (fun _ h9 => h9) rfl (by decide +kernel) rfl rfl (Nat.le_of_ble_eq_true rfl) dX11_post_2 (fun H locs hP hD hS => ?_)
  have hP : va_P G.1 vwCl [(m0, .inr (11, [.int 0, .ref m_width, .ref m_many, .ref m_cells, .ref m_moved, .ref m_tape, .int 0, .int 0, .int 0, .int 0, .int 0, .long 0, .int 0, .int 0, .int 0, .int (-1), .ref m_lines, .ref m_length, .ref m_rain, .ref m_has, .ref m_slope, .ref m_wet, .ref m_limit, .ref m_platform, .ref m_kind, .ref m_train, .ref m_coach, .ref m_isKept, .ref m_sum, .int 0, .int 15, .ref m_comes, .ref m_isStood, .int 0, .int 0, .int 0, .ref m_front, .ref m_has0, .ref m_isOn, .ref m_letTick, .ref m_letYard, .ref m_letSpeed, .ref m_where, .ref m_pace, .ref m_stood, .ref m_isOff, .ref m_off, .ref m_wrong, .int 0, .int 0, .int 0, .int 0, .ref m_endTick, .int 0, .int 0, .int 0, .int 0, .long 0])), (m_length, .inl (G.2 0, 5, .inl (fun _ => 0))), (m_has, .inl (G.2 0, 35, .inl (fun _ => 0)))] H := hP
  have hD : va_D A [(m0, .inr (11, [.int 0, .ref m_width, .ref m_many, .ref m_cells, .ref m_moved, .ref m_tape, .int 0, .int 0, .int 0, .int 0, .int 0, .long 0, .int 0, .int 0, .int 0, .int (-1), .ref m_lines, .ref m_length, .ref m_rain, .ref m_has, .ref m_slope, .ref m_wet, .ref m_limit, .ref m_platform, .ref m_kind, .ref m_train, .ref m_coach, .ref m_isKept, .ref m_sum, .int 0, .int 15, .ref m_comes, .ref m_isStood, .int 0, .int 0, .int 0, .ref m_front, .ref m_has0, .ref m_isOn, .ref m_letTick, .ref m_letYard, .ref m_letSpeed, .ref m_where, .ref m_pace, .ref m_stood, .ref m_isOff, .ref m_off, .ref m_wrong, .int 0, .int 0, .int 0, .int 0, .ref m_endTick, .int 0, .int 0, .int 0, .int 0, .long 0])), (m_length, .inl (G.2 0, 5, .inl (fun _ => 0))), (m_has, .inl (G.2 0, 35, .inl (fun _ => 0)))] := hD
  refine lv_aload_n hx hb dX11_post_5 rfl (lv_at hl 0 rfl) ?_
  refine lv_iload_n hx hb dX11_post_6 rfl (lv_at hl 1 rfl) ?_
  refine vp_callSi (va_Run.run (va_runV (As := [.int p0]) (rest := []) ⟨hx, hb, hml, hown, hw⟩ (c_X11_isCoach l G m0 m_width m_many m_cells m_moved m_tape m_lines m_length m_rain m_has m_slope m_wet m_limit m_platform m_kind m_train m_coach m_isKept m_sum m_comes m_isStood m_front m_has0 m_isOn m_letTick m_letYard m_letSpeed m_where m_pace m_stood m_isOff m_off m_wrong m_endTick p0) (cwV 1 hw (gdV kw_320 kw_321 kw_322 kw_299 kw_319) rfl rfl rfl ⟨rfl, hdX11_isCoach⟩ ⟨(Nat.le_of_ble_eq_true rfl), (Nat.le_of_ble_eq_true rfl)⟩) (preS_V (wc := [(m0, .inr (11, [.int 0, .ref m_width, .ref m_many, .ref m_cells, .ref m_moved, .ref m_tape, .int 0, .int 0, .int 0, .int 0, .int 0, .long 0, .int 0, .int 0, .int 0, .int (-1), .ref m_lines, .ref m_length, .ref m_rain, .ref m_has, .ref m_slope, .ref m_wet, .ref m_limit, .ref m_platform, .ref m_kind, .ref m_train, .ref m_coach, .ref m_isKept, .ref m_sum, .int 0, .int 15, .ref m_comes, .ref m_isStood, .int 0, .int 0, .int 0, .ref m_front, .ref m_has0, .ref m_isOn, .ref m_letTick, .ref m_letYard, .ref m_letSpeed, .ref m_where, .ref m_pace, .ref m_stood, .ref m_isOff, .ref m_off, .ref m_wrong, .int 0, .int 0, .int 0, .int 0, .ref m_endTick, .int 0, .int 0, .int 0, .int 0, .long 0])), (m_length, .inl (G.2 0, 5, .inl (fun _ => 0))), (m_has, .inl (G.2 0, 35, .inl (fun _ => 0)))]) (ci := 11) hKG hP [0, 1, 2] rfl rfl rfl) rfl rfl hl.1 rfl (lv_room (Nat.le_of_ble_eq_true rfl)) dX11_post_7 ⟨(Nat.le_of_ble_eq_true rfl), (Nat.le_of_ble_eq_true rfl)⟩)) (fun r1 hr1 => ?_)
  subst hr1
  refine lv_if_eq (tgt := 21) hx hb dX11_post_10 (by decide) (fun c2 => ?_) (fun c2 => absurd (by decide) c2)
  refine lv_bipush (v := (-2)) hx hb dX11_post_21 (by decide) ?_
  exact W.iret (v := (-2)) hx hb hr (fun t ht hW => ⟨⟨(-2), (), rfl, rfl, ⟨by rw [ht]; exact hP.sub [] rfl, hD.sub [] (by decide +kernel) rfl⟩⟩, hS.F ht⟩) hS.2.2 dX11_post_23
set_option maxHeartbeats 4000000 in
set_option maxRecDepth 100000 in
theorem c_X11_shift (l : Launch) (G : KG) (m0 : Nat) (m_width : Nat) (m_many : Nat) (m_cells : Nat) (m_moved : Nat) (m_tape : Nat) (m_lines : Nat) (m_length : Nat) (m_rain : Nat) (m_has : Nat) (m_slope : Nat) (m_wet : Nat) (m_limit : Nat) (m_platform : Nat) (m_kind : Nat) (m_train : Nat) (m_coach : Nat) (m_isKept : Nat) (m_sum : Nat) (m_comes : Nat) (m_isStood : Nat) (m_front : Nat) (m_has0 : Nat) (m_isOn : Nat) (m_letTick : Nat) (m_letYard : Nat) (m_letSpeed : Nat) (m_where : Nat) (m_pace : Nat) (m_stood : Nat) (m_isOff : Nat) (m_off : Nat) (m_wrong : Nat) (m_endTick : Nat) (p0 : Int32) (p1 : Int32) (sz : Nat) : Met l yX11_shift wgX11_shift ({ frames := 2, cells := 0, slots := 0, locals := 46 }) (preQ G [.ref m0, .int p0, .int p1] sz [(m0, .inr (11, [.int 0, .ref m_width, .ref m_many, .ref m_cells, .ref m_moved, .ref m_tape, .int 0, .int 0, .int 0, .int 0, .int 0, .long 0, .int 0, .int 0, .int 0, .int (-1), .ref m_lines, .ref m_length, .ref m_rain, .ref m_has, .ref m_slope, .ref m_wet, .ref m_limit, .ref m_platform, .ref m_kind, .ref m_train, .ref m_coach, .ref m_isKept, .ref m_sum, .int 0, .int 15, .ref m_comes, .ref m_isStood, .int 0, .int 0, .int 0, .ref m_front, .ref m_has0, .ref m_isOn, .ref m_letTick, .ref m_letYard, .ref m_letSpeed, .ref m_where, .ref m_pace, .ref m_stood, .ref m_isOff, .ref m_off, .ref m_wrong, .int 0, .int 0, .int 0, .int 0, .ref m_endTick, .int 0, .int 0, .int 0, .int 0, .long 0])), (m_length, .inl (G.2 0, 5, .inl (fun _ => 0))), (m_has, .inl (G.2 0, 35, .inl (fun _ => 0)))]) (va_Qi (fun (r : Int32) (u : Unit) => (r = (-2))) (fun u t => atQ G (va_A [(m0, .inr (11, [.int 0, .ref m_width, .ref m_many, .ref m_cells, .ref m_moved, .ref m_tape, .int 0, .int 0, .int 0, .int 0, .int 0, .long 0, .int 0, .int 0, .int 0, .int (-1), .ref m_lines, .ref m_length, .ref m_rain, .ref m_has, .ref m_slope, .ref m_wet, .ref m_limit, .ref m_platform, .ref m_kind, .ref m_train, .ref m_coach, .ref m_isKept, .ref m_sum, .int 0, .int 15, .ref m_comes, .ref m_isStood, .int 0, .int 0, .int 0, .ref m_front, .ref m_has0, .ref m_isOn, .ref m_letTick, .ref m_letYard, .ref m_letSpeed, .ref m_where, .ref m_pace, .ref m_stood, .ref m_isOff, .ref m_off, .ref m_wrong, .int 0, .int 0, .int 0, .int 0, .ref m_endTick, .int 0, .int 0, .int 0, .int 0, .long 0])), (m_length, .inl (G.2 0, 5, .inl (fun _ => 0))), (m_has, .inl (G.2 0, 35, .inl (fun _ => 0)))] sz) [] t) (va_A [(m0, .inr (11, [.int 0, .ref m_width, .ref m_many, .ref m_cells, .ref m_moved, .ref m_tape, .int 0, .int 0, .int 0, .int 0, .int 0, .long 0, .int 0, .int 0, .int 0, .int (-1), .ref m_lines, .ref m_length, .ref m_rain, .ref m_has, .ref m_slope, .ref m_wet, .ref m_limit, .ref m_platform, .ref m_kind, .ref m_train, .ref m_coach, .ref m_isKept, .ref m_sum, .int 0, .int 15, .ref m_comes, .ref m_isStood, .int 0, .int 0, .int 0, .ref m_front, .ref m_has0, .ref m_isOn, .ref m_letTick, .ref m_letYard, .ref m_letSpeed, .ref m_where, .ref m_pace, .ref m_stood, .ref m_isOff, .ref m_off, .ref m_wrong, .int 0, .int 0, .int 0, .int 0, .ref m_endTick, .int 0, .int 0, .int 0, .int 0, .long 0])), (m_length, .inl (G.2 0, 5, .inl (fun _ => 0))), (m_has, .inl (G.2 0, 35, .inl (fun _ => 0)))] sz)) 0 0 (va_A [(m0, .inr (11, [.int 0, .ref m_width, .ref m_many, .ref m_cells, .ref m_moved, .ref m_tape, .int 0, .int 0, .int 0, .int 0, .int 0, .long 0, .int 0, .int 0, .int 0, .int (-1), .ref m_lines, .ref m_length, .ref m_rain, .ref m_has, .ref m_slope, .ref m_wet, .ref m_limit, .ref m_platform, .ref m_kind, .ref m_train, .ref m_coach, .ref m_isKept, .ref m_sum, .int 0, .int 15, .ref m_comes, .ref m_isStood, .int 0, .int 0, .int 0, .ref m_front, .ref m_has0, .ref m_isOn, .ref m_letTick, .ref m_letYard, .ref m_letSpeed, .ref m_where, .ref m_pace, .ref m_stood, .ref m_isOff, .ref m_off, .ref m_wrong, .int 0, .int 0, .int 0, .int 0, .ref m_endTick, .int 0, .int 0, .int 0, .int 0, .long 0])), (m_length, .inl (G.2 0, 5, .inl (fun _ => 0))), (m_has, .inl (G.2 0, 35, .inl (fun _ => 0)))] sz) := by
  refine Met.ofW (cc := cX11_shift) (maxL := 4) (ret := (some .int)) (by decide) rfl ?_
  intro p e s m args below meth c s₁ B hml hv
  obtain ⟨rfl, hsz, hP, hKG, hD0⟩ := hv
  obtain ⟨hK, hAO⟩ := id hKG
  have hx := B.exec
  have hb := B.bytes
  have hr := B.returns
  have hts := atoms_spec (ws := wgX11_shift) B.pre
  have hw : ∀ w ∈ wG, w.before _ s = true := fun w h => hts w (List.mem_cons_of_mem _ h)
  have hown : s.vm.findClass RX11 = some m.cls := findClass_of_methodNamed B.named
  have hlocks := B.notSynchronized
  subst hsz
  have hD := hD0.self (sz := s.heap.size)
  generalize hAe : va_A [(m0, .inr (11, [.int 0, .ref m_width, .ref m_many, .ref m_cells, .ref m_moved, .ref m_tape, .int 0, .int 0, .int 0, .int 0, .int 0, .long 0, .int 0, .int 0, .int 0, .int (-1), .ref m_lines, .ref m_length, .ref m_rain, .ref m_has, .ref m_slope, .ref m_wet, .ref m_limit, .ref m_platform, .ref m_kind, .ref m_train, .ref m_coach, .ref m_isKept, .ref m_sum, .int 0, .int 15, .ref m_comes, .ref m_isStood, .int 0, .int 0, .int 0, .ref m_front, .ref m_has0, .ref m_isOn, .ref m_letTick, .ref m_letYard, .ref m_letSpeed, .ref m_where, .ref m_pace, .ref m_stood, .ref m_isOff, .ref m_off, .ref m_wrong, .int 0, .int 0, .int 0, .int 0, .ref m_endTick, .int 0, .int 0, .int 0, .int 0, .long 0])), (m_length, .inl (G.2 0, 5, .inl (fun _ => 0))), (m_has, .inl (G.2 0, 35, .inl (fun _ => 0)))] s.heap.size = A at hD ⊢
  have hA : ∀ q : Nat, s.heap.size ≤ q → A q := fun q h => by rw [← hAe]; exact Or.inr h
  have hS : va_S A s.heap s.heap [] := va_S.rf
  have hl := lv_entry ([.ref m0, .int p0, .int p1]) (n := 4) (Nat.le_of_ble_eq_true rfl)
  rw [lg_entry_eq]
  generalize (lg_sl ([.ref m0, .int p0, .int p1]) ++ List.replicate (4 - (lg_sl ([.ref m0, .int p0, .int p1])).length) Slot.unset).toArray = ls at hl ⊢
  have hl : lv_has ls 4 [(0, .ref m0), (1, .int p0), (2, .int p1)] := hl
  refine lv_aload_n hx hb dX11_shift_0 rfl (lv_at hl 0 rfl) ?_
  refine lv_iconst (v := 0) hx hb dX11_shift_1 (by decide) ?_
  refine va_put (D := G.1) (ci := 11) (v := .int 0) (ty := .int) (C := RX11) (T := TX11) (N := 58) hx hb hw inGX11 tyX11 tyX11_ok nmX11 hown hK hP hD hS 0 rfl rfl 0 (by decide) (hw _ kw_314) (fun _ h9 => h9) rfl (by decide +kernel) rfl rfl (Nat.le_of_ble_eq_true rfl) dX11_shift_2 (fun H locs hP hD hS => ?_)
  have hP : va_P G.1 vwCl [(m0, .inr (11, [.int 0, .ref m_width, .ref m_many, .ref m_cells, .ref m_moved, .ref m_tape, .int 0, .int 0, .int 0, .int 0, .int 0, .long 0, .int 0, .int 0, .int 0, .int (-1), .ref m_lines, .ref m_length, .ref m_rain, .ref m_has, .ref m_slope, .ref m_wet, .ref m_limit, .ref m_platform, .ref m_kind, .ref m_train, .ref m_coach, .ref m_isKept, .ref m_sum, .int 0, .int 15, .ref m_comes, .ref m_isStood, .int 0, .int 0, .int 0, .ref m_front, .ref m_has0, .ref m_isOn, .ref m_letTick, .ref m_letYard, .ref m_letSpeed, .ref m_where, .ref m_pace, .ref m_stood, .ref m_isOff, .ref m_off, .ref m_wrong, .int 0, .int 0, .int 0, .int 0, .ref m_endTick, .int 0, .int 0, .int 0, .int 0, .long 0])), (m_length, .inl (G.2 0, 5, .inl (fun _ => 0))), (m_has, .inl (G.2 0, 35, .inl (fun _ => 0)))] H := hP
  have hD : va_D A [(m0, .inr (11, [.int 0, .ref m_width, .ref m_many, .ref m_cells, .ref m_moved, .ref m_tape, .int 0, .int 0, .int 0, .int 0, .int 0, .long 0, .int 0, .int 0, .int 0, .int (-1), .ref m_lines, .ref m_length, .ref m_rain, .ref m_has, .ref m_slope, .ref m_wet, .ref m_limit, .ref m_platform, .ref m_kind, .ref m_train, .ref m_coach, .ref m_isKept, .ref m_sum, .int 0, .int 15, .ref m_comes, .ref m_isStood, .int 0, .int 0, .int 0, .ref m_front, .ref m_has0, .ref m_isOn, .ref m_letTick, .ref m_letYard, .ref m_letSpeed, .ref m_where, .ref m_pace, .ref m_stood, .ref m_isOff, .ref m_off, .ref m_wrong, .int 0, .int 0, .int 0, .int 0, .ref m_endTick, .int 0, .int 0, .int 0, .int 0, .long 0])), (m_length, .inl (G.2 0, 5, .inl (fun _ => 0))), (m_has, .inl (G.2 0, 35, .inl (fun _ => 0)))] := hD
  refine lv_aload_n hx hb dX11_shift_5 rfl (lv_at hl 0 rfl) ?_
  refine lv_iload_n hx hb dX11_shift_6 rfl (lv_at hl 1 rfl) ?_
  refine vp_callSi (va_Run.run (va_runV (As := [.int p0]) (rest := []) ⟨hx, hb, hml, hown, hw⟩ (c_X11_isTrain l G m0 m_width m_many m_cells m_moved m_tape m_lines m_length m_rain m_has m_slope m_wet m_limit m_platform m_kind m_train m_coach m_isKept m_sum m_comes m_isStood m_front m_has0 m_isOn m_letTick m_letYard m_letSpeed m_where m_pace m_stood m_isOff m_off m_wrong m_endTick p0) (cwV 1 hw (gdV kw_324 kw_325 kw_326 kw_299 kw_323) rfl rfl rfl ⟨rfl, hdX11_isTrain⟩ ⟨(Nat.le_of_ble_eq_true rfl), (Nat.le_of_ble_eq_true rfl)⟩) (preS_V (wc := [(m0, .inr (11, [.int 0, .ref m_width, .ref m_many, .ref m_cells, .ref m_moved, .ref m_tape, .int 0, .int 0, .int 0, .int 0, .int 0, .long 0, .int 0, .int 0, .int 0, .int (-1), .ref m_lines, .ref m_length, .ref m_rain, .ref m_has, .ref m_slope, .ref m_wet, .ref m_limit, .ref m_platform, .ref m_kind, .ref m_train, .ref m_coach, .ref m_isKept, .ref m_sum, .int 0, .int 15, .ref m_comes, .ref m_isStood, .int 0, .int 0, .int 0, .ref m_front, .ref m_has0, .ref m_isOn, .ref m_letTick, .ref m_letYard, .ref m_letSpeed, .ref m_where, .ref m_pace, .ref m_stood, .ref m_isOff, .ref m_off, .ref m_wrong, .int 0, .int 0, .int 0, .int 0, .ref m_endTick, .int 0, .int 0, .int 0, .int 0, .long 0])), (m_length, .inl (G.2 0, 5, .inl (fun _ => 0))), (m_has, .inl (G.2 0, 35, .inl (fun _ => 0)))]) (ci := 11) hKG hP [0, 1, 2] rfl rfl rfl) rfl rfl hl.1 rfl (lv_room (Nat.le_of_ble_eq_true rfl)) dX11_shift_7 ⟨(Nat.le_of_ble_eq_true rfl), (Nat.le_of_ble_eq_true rfl)⟩)) (fun r1 hr1 => ?_)
  subst hr1
  refine lv_if_eq (tgt := 25) hx hb dX11_shift_10 (by decide) (fun c2 => ?_) (fun c2 => absurd (by decide) c2)
  refine lv_bipush (v := (-2)) hx hb dX11_shift_25 (by decide) ?_
  exact W.iret (v := (-2)) hx hb hr (fun t ht hW => ⟨⟨(-2), (), rfl, rfl, ⟨by rw [ht]; exact hP.sub [] rfl, hD.sub [] (by decide +kernel) rfl⟩⟩, hS.F ht⟩) hS.2.2 dX11_shift_27
