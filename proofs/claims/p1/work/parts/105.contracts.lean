set_option maxHeartbeats 4000000 in
set_option maxRecDepth 100000 in
theorem c_copyFrom_15 (l : Launch) (G : KG) (h0 : Nat) (mo : Int32) (wi : Int32) (ca : Nat) (h1 : Nat) (mo1 : Int32) (wi1 : Int32) (ca1 : Nat) (f0 : Nat → Int32) (f1 : Nat → Int32) (sz : Nat) : Met l yX6_copyFrom wsX6_copyFrom ({ frames := 1, cells := 0, slots := 0, locals := 64 }) (preQ G [.ref h0, .ref h1] sz [(h0, .inr (6, [.int mo, .int wi, .ref ca, .int 0])), (ca, .inl (G.2 0, 15, .inl f0)), (h1, .inr (6, [.int mo1, .int wi1, .ref ca1, .int 0])), (ca1, .inl (G.2 0, 15, .inl f1))]) (va_Qv (fun (u : Unit) => True) (fun u t => atQ G (va_A [(h0, .inr (6, [.int mo, .int wi, .ref ca, .int 0])), (ca, .inl (G.2 0, 15, .inl f0)), (h1, .inr (6, [.int mo1, .int wi1, .ref ca1, .int 0])), (ca1, .inl (G.2 0, 15, .inl f1))] sz) [] t) (va_A [(h0, .inr (6, [.int mo, .int wi, .ref ca, .int 0])), (ca, .inl (G.2 0, 15, .inl f0)), (h1, .inr (6, [.int mo1, .int wi1, .ref ca1, .int 0])), (ca1, .inl (G.2 0, 15, .inl f1))] sz)) 0 0 (va_A [(h0, .inr (6, [.int mo, .int wi, .ref ca, .int 0])), (ca, .inl (G.2 0, 15, .inl f0)), (h1, .inr (6, [.int mo1, .int wi1, .ref ca1, .int 0])), (ca1, .inl (G.2 0, 15, .inl f1))] sz) := by
  refine Met.ofW (cc := cX6_copyFrom) (maxL := 2) (ret := none) (by decide) rfl ?_
  intro p e s m args below meth c s₁ B hml hv
  obtain ⟨rfl, hsz, hP, hKG, hD0⟩ := hv
  obtain ⟨hK, hAO⟩ := id hKG
  have hx := B.exec
  have hb := B.bytes
  have hr := B.returns
  have hts := atoms_spec (ws := wsX6_copyFrom) B.pre
  have hown : s.vm.findClass RX6 = some m.cls := findClass_of_methodNamed B.named
  have hlocks := B.notSynchronized
  subst hsz
  have hD := hD0.self (sz := s.heap.size)
  generalize hAe : va_A [(h0, .inr (6, [.int mo, .int wi, .ref ca, .int 0])), (ca, .inl (G.2 0, 15, .inl f0)), (h1, .inr (6, [.int mo1, .int wi1, .ref ca1, .int 0])), (ca1, .inl (G.2 0, 15, .inl f1))] s.heap.size = A at hD ⊢
  have hA : ∀ q : Nat, s.heap.size ≤ q → A q := fun q h => by rw [← hAe]; exact Or.inr h
  have hS : va_S A s.heap s.heap [] := va_S.rf
  have hl := lv_entry ([.ref h0, .ref h1]) (n := 2) (Nat.le_of_ble_eq_true rfl)
  rw [lg_entry_eq]
  generalize (lg_sl ([.ref h0, .ref h1]) ++ List.replicate (2 - (lg_sl ([.ref h0, .ref h1])).length) Slot.unset).toArray = ls at hl ⊢
  have hl : lv_has ls 2 [(0, .ref h0), (1, .ref h1)] := hl
  refine lv_aload_n hx hb dX6_copyFrom_0 rfl (lv_at hl 0 rfl) ?_
  refine lv_aload_n hx hb dX6_copyFrom_1 rfl (lv_at hl 1 rfl) ?_
  refine va_get (D := G.1) (ci := 6) (v := .int 0) (C := RX6) (T := TX6) (N := 4) hx hb hts (fun w h => List.mem_cons_of_mem _ (List.mem_append_right _ h)) hown hK hP 2 rfl rfl 3 (by decide) (hts (.fieldLink RX6 9 "SlipCoach$Sheet" "count" "I") (by decide +kernel)) (fun _ h9 => h9) rfl dX6_copyFrom_2 ?_
  refine va_put (D := G.1) (ci := 6) (v := .int 0) (ty := .int) (C := RX6) (T := TX6) (N := 4) hx hb hts (fun w h => List.mem_cons_of_mem _ (List.mem_append_right _ h)) tyX6 tyX6_ok nmX6 hown hK hP hD hS 0 rfl rfl 3 (by decide) (hts (.fieldLink RX6 9 "SlipCoach$Sheet" "count" "I") (by decide +kernel)) (fun _ h9 => h9) rfl (by decide +kernel) rfl rfl (Nat.le_of_ble_eq_true rfl) dX6_copyFrom_5 (fun H locs hP hD hS => ?_)
  have hP : va_P G.1 vwCl [(h0, .inr (6, [.int mo, .int wi, .ref ca, .int 0])), (ca, .inl (G.2 0, 15, .inl f0)), (h1, .inr (6, [.int mo1, .int wi1, .ref ca1, .int 0])), (ca1, .inl (G.2 0, 15, .inl f1))] H := hP
  have hD : va_D A [(h0, .inr (6, [.int mo, .int wi, .ref ca, .int 0])), (ca, .inl (G.2 0, 15, .inl f0)), (h1, .inr (6, [.int mo1, .int wi1, .ref ca1, .int 0])), (ca1, .inl (G.2 0, 15, .inl f1))] := hD
  refine lv_aload_n hx hb dX6_copyFrom_8 rfl (lv_at hl 1 rfl) ?_
  refine va_get (D := G.1) (ci := 6) (v := .ref ca1) (C := RX6) (T := TX6) (N := 4) hx hb hts (fun w h => List.mem_cons_of_mem _ (List.mem_append_right _ h)) hown hK hP 2 rfl rfl 2 (by decide) (hts (.fieldLink RX6 21 "SlipCoach$Sheet" "cells" "[I") (by decide +kernel)) (fun _ h9 => h9) rfl dX6_copyFrom_9 ?_
  refine lv_iconst (v := 0) hx hb dX6_copyFrom_12 (by decide) ?_
  refine lv_aload_n hx hb dX6_copyFrom_13 rfl (lv_at hl 0 rfl) ?_
  refine va_get (D := G.1) (ci := 6) (v := .ref ca) (C := RX6) (T := TX6) (N := 4) hx hb hts (fun w h => List.mem_cons_of_mem _ (List.mem_append_right _ h)) hown hK hP 0 rfl rfl 2 (by decide) (hts (.fieldLink RX6 21 "SlipCoach$Sheet" "cells" "[I") (by decide +kernel)) (fun _ h9 => h9) rfl dX6_copyFrom_14 ?_
  refine lv_iconst (v := 0) hx hb dX6_copyFrom_17 (by decide) ?_
  refine lv_aload_n hx hb dX6_copyFrom_18 rfl (lv_at hl 0 rfl) ?_
  refine va_get (D := G.1) (ci := 6) (v := .ref ca) (C := RX6) (T := TX6) (N := 4) hx hb hts (fun w h => List.mem_cons_of_mem _ (List.mem_append_right _ h)) hown hK hP 0 rfl rfl 2 (by decide) (hts (.fieldLink RX6 21 "SlipCoach$Sheet" "cells" "[I") (by decide +kernel)) (fun _ h9 => h9) rfl dX6_copyFrom_19 ?_
  refine va_alen (v := 15) hx hb hK hP 1 0 rfl rfl rfl dX6_copyFrom_22 ?_
  refine lv_aload_n hx hb dX6_copyFrom_23 rfl (lv_at hl 1 rfl) ?_
  refine va_get (D := G.1) (ci := 6) (v := .ref ca1) (C := RX6) (T := TX6) (N := 4) hx hb hts (fun w h => List.mem_cons_of_mem _ (List.mem_append_right _ h)) hown hK hP 2 rfl rfl 2 (by decide) (hts (.fieldLink RX6 21 "SlipCoach$Sheet" "cells" "[I") (by decide +kernel)) (fun _ h9 => h9) rfl dX6_copyFrom_24 ?_
  refine va_alen (v := 15) hx hb hK hP 3 0 rfl rfl rfl dX6_copyFrom_27 ?_
  refine va_mmin hx hb (by rw [hml]; exact hl.1.symm) hown (hts (.methodLink RX6 29 Lib.Math.min.name) (by decide +kernel)) (hts (.static Lib.Math.min.name) (by decide +kernel)) (hts (.initialized "java/lang/Math") (by decide +kernel)) (hts (.code Lib.Math.min.name Lib.Math.min.code 2 (some .int)) (by decide +kernel)) (Nat.le_of_ble_eq_true rfl) (Nat.le_of_ble_eq_true rfl) (Nat.le_of_ble_eq_true rfl) (Nat.le_of_ble_eq_true rfl) dX6_copyFrom_28 ?_
  refine lv_cst (y := 15) (by decide) ?_
  refine va_copyi (ty := .int) hx hb (by rw [hml]; exact hl.1.symm) hown (hts (.methodLink RX6 35 arraycopyName) (by decide +kernel)) (hts (.native arraycopyName) (by decide +kernel)) (hts (.static arraycopyName) (by decide +kernel)) (hts (.initialized "java/lang/System") (by decide +kernel)) hK hP hD hS 3 1 0 0 rfl rfl rfl rfl rfl (by decide) (by decide) (by decide) (by decide) (by decide) (fun _ _ => rfl) (Nat.le_of_ble_eq_true rfl) (Nat.le_of_ble_eq_true rfl) dX6_copyFrom_31 (fun H locs hP hD hS => ?_)
  have hP : va_P G.1 vwCl [(h0, .inr (6, [.int mo, .int wi, .ref ca, .int 0])), (ca, .inl (G.2 0, 15, .inl (va_cpy f1 f0 (0 : Int32).toNatClampNeg (0 : Int32).toNatClampNeg (15 : Int32).toNatClampNeg))), (h1, .inr (6, [.int mo1, .int wi1, .ref ca1, .int 0])), (ca1, .inl (G.2 0, 15, .inl f1))] H := hP
  have hD : va_D A [(h0, .inr (6, [.int mo, .int wi, .ref ca, .int 0])), (ca, .inl (G.2 0, 15, .inl (va_cpy f1 f0 (0 : Int32).toNatClampNeg (0 : Int32).toNatClampNeg (15 : Int32).toNatClampNeg))), (h1, .inr (6, [.int mo1, .int wi1, .ref ca1, .int 0])), (ca1, .inl (G.2 0, 15, .inl f1))] := hD
  generalize (va_cpy f1 f0 (0 : Int32).toNatClampNeg (0 : Int32).toNatClampNeg (15 : Int32).toNatClampNeg) = f1 at hP hD
  exact W.vret hx hb hr (fun t ht hW => ⟨⟨(), rfl, trivial, ⟨by rw [ht]; exact hP.sub [] rfl, hD.sub [] (by decide +kernel) rfl⟩⟩, hS.F ht⟩) hS.2.2 dX6_copyFrom_34
set_option maxHeartbeats 4000000 in
set_option maxRecDepth 100000 in
theorem c_copyFrom_16 (l : Launch) (G : KG) (h0 : Nat) (mo : Int32) (wi : Int32) (ca : Nat) (h1 : Nat) (mo1 : Int32) (wi1 : Int32) (ca1 : Nat) (f0 : Nat → Int32) (f1 : Nat → Int32) (sz : Nat) : Met l yX6_copyFrom wsX6_copyFrom ({ frames := 1, cells := 0, slots := 0, locals := 64 }) (preQ G [.ref h0, .ref h1] sz [(h0, .inr (6, [.int mo, .int wi, .ref ca, .int 0])), (ca, .inl (G.2 0, 16, .inl f0)), (h1, .inr (6, [.int mo1, .int wi1, .ref ca1, .int 0])), (ca1, .inl (G.2 0, 16, .inl f1))]) (va_Qv (fun (u : Unit) => True) (fun u t => atQ G (va_A [(h0, .inr (6, [.int mo, .int wi, .ref ca, .int 0])), (ca, .inl (G.2 0, 16, .inl f0)), (h1, .inr (6, [.int mo1, .int wi1, .ref ca1, .int 0])), (ca1, .inl (G.2 0, 16, .inl f1))] sz) [] t) (va_A [(h0, .inr (6, [.int mo, .int wi, .ref ca, .int 0])), (ca, .inl (G.2 0, 16, .inl f0)), (h1, .inr (6, [.int mo1, .int wi1, .ref ca1, .int 0])), (ca1, .inl (G.2 0, 16, .inl f1))] sz)) 0 0 (va_A [(h0, .inr (6, [.int mo, .int wi, .ref ca, .int 0])), (ca, .inl (G.2 0, 16, .inl f0)), (h1, .inr (6, [.int mo1, .int wi1, .ref ca1, .int 0])), (ca1, .inl (G.2 0, 16, .inl f1))] sz) := by
  refine Met.ofW (cc := cX6_copyFrom) (maxL := 2) (ret := none) (by decide) rfl ?_
  intro p e s m args below meth c s₁ B hml hv
  obtain ⟨rfl, hsz, hP, hKG, hD0⟩ := hv
  obtain ⟨hK, hAO⟩ := id hKG
  have hx := B.exec
  have hb := B.bytes
  have hr := B.returns
  have hts := atoms_spec (ws := wsX6_copyFrom) B.pre
  have hown : s.vm.findClass RX6 = some m.cls := findClass_of_methodNamed B.named
  have hlocks := B.notSynchronized
  subst hsz
  have hD := hD0.self (sz := s.heap.size)
  generalize hAe : va_A [(h0, .inr (6, [.int mo, .int wi, .ref ca, .int 0])), (ca, .inl (G.2 0, 16, .inl f0)), (h1, .inr (6, [.int mo1, .int wi1, .ref ca1, .int 0])), (ca1, .inl (G.2 0, 16, .inl f1))] s.heap.size = A at hD ⊢
  have hA : ∀ q : Nat, s.heap.size ≤ q → A q := fun q h => by rw [← hAe]; exact Or.inr h
  have hS : va_S A s.heap s.heap [] := va_S.rf
  have hl := lv_entry ([.ref h0, .ref h1]) (n := 2) (Nat.le_of_ble_eq_true rfl)
  rw [lg_entry_eq]
  generalize (lg_sl ([.ref h0, .ref h1]) ++ List.replicate (2 - (lg_sl ([.ref h0, .ref h1])).length) Slot.unset).toArray = ls at hl ⊢
  have hl : lv_has ls 2 [(0, .ref h0), (1, .ref h1)] := hl
  refine lv_aload_n hx hb dX6_copyFrom_0 rfl (lv_at hl 0 rfl) ?_
  refine lv_aload_n hx hb dX6_copyFrom_1 rfl (lv_at hl 1 rfl) ?_
  refine va_get (D := G.1) (ci := 6) (v := .int 0) (C := RX6) (T := TX6) (N := 4) hx hb hts (fun w h => List.mem_cons_of_mem _ (List.mem_append_right _ h)) hown hK hP 2 rfl rfl 3 (by decide) (hts (.fieldLink RX6 9 "SlipCoach$Sheet" "count" "I") (by decide +kernel)) (fun _ h9 => h9) rfl dX6_copyFrom_2 ?_
  refine va_put (D := G.1) (ci := 6) (v := .int 0) (ty := .int) (C := RX6) (T := TX6) (N := 4) hx hb hts (fun w h => List.mem_cons_of_mem _ (List.mem_append_right _ h)) tyX6 tyX6_ok nmX6 hown hK hP hD hS 0 rfl rfl 3 (by decide) (hts (.fieldLink RX6 9 "SlipCoach$Sheet" "count" "I") (by decide +kernel)) (fun _ h9 => h9) rfl (by decide +kernel) rfl rfl (Nat.le_of_ble_eq_true rfl) dX6_copyFrom_5 (fun H locs hP hD hS => ?_)
  have hP : va_P G.1 vwCl [(h0, .inr (6, [.int mo, .int wi, .ref ca, .int 0])), (ca, .inl (G.2 0, 16, .inl f0)), (h1, .inr (6, [.int mo1, .int wi1, .ref ca1, .int 0])), (ca1, .inl (G.2 0, 16, .inl f1))] H := hP
  have hD : va_D A [(h0, .inr (6, [.int mo, .int wi, .ref ca, .int 0])), (ca, .inl (G.2 0, 16, .inl f0)), (h1, .inr (6, [.int mo1, .int wi1, .ref ca1, .int 0])), (ca1, .inl (G.2 0, 16, .inl f1))] := hD
  refine lv_aload_n hx hb dX6_copyFrom_8 rfl (lv_at hl 1 rfl) ?_
  refine va_get (D := G.1) (ci := 6) (v := .ref ca1) (C := RX6) (T := TX6) (N := 4) hx hb hts (fun w h => List.mem_cons_of_mem _ (List.mem_append_right _ h)) hown hK hP 2 rfl rfl 2 (by decide) (hts (.fieldLink RX6 21 "SlipCoach$Sheet" "cells" "[I") (by decide +kernel)) (fun _ h9 => h9) rfl dX6_copyFrom_9 ?_
  refine lv_iconst (v := 0) hx hb dX6_copyFrom_12 (by decide) ?_
  refine lv_aload_n hx hb dX6_copyFrom_13 rfl (lv_at hl 0 rfl) ?_
  refine va_get (D := G.1) (ci := 6) (v := .ref ca) (C := RX6) (T := TX6) (N := 4) hx hb hts (fun w h => List.mem_cons_of_mem _ (List.mem_append_right _ h)) hown hK hP 0 rfl rfl 2 (by decide) (hts (.fieldLink RX6 21 "SlipCoach$Sheet" "cells" "[I") (by decide +kernel)) (fun _ h9 => h9) rfl dX6_copyFrom_14 ?_
  refine lv_iconst (v := 0) hx hb dX6_copyFrom_17 (by decide) ?_
  refine lv_aload_n hx hb dX6_copyFrom_18 rfl (lv_at hl 0 rfl) ?_
  refine va_get (D := G.1) (ci := 6) (v := .ref ca) (C := RX6) (T := TX6) (N := 4) hx hb hts (fun w h => List.mem_cons_of_mem _ (List.mem_append_right _ h)) hown hK hP 0 rfl rfl 2 (by decide) (hts (.fieldLink RX6 21 "SlipCoach$Sheet" "cells" "[I") (by decide +kernel)) (fun _ h9 => h9) rfl dX6_copyFrom_19 ?_
  refine va_alen (v := 16) hx hb hK hP 1 0 rfl rfl rfl dX6_copyFrom_22 ?_
  refine lv_aload_n hx hb dX6_copyFrom_23 rfl (lv_at hl 1 rfl) ?_
  refine va_get (D := G.1) (ci := 6) (v := .ref ca1) (C := RX6) (T := TX6) (N := 4) hx hb hts (fun w h => List.mem_cons_of_mem _ (List.mem_append_right _ h)) hown hK hP 2 rfl rfl 2 (by decide) (hts (.fieldLink RX6 21 "SlipCoach$Sheet" "cells" "[I") (by decide +kernel)) (fun _ h9 => h9) rfl dX6_copyFrom_24 ?_
  refine va_alen (v := 16) hx hb hK hP 3 0 rfl rfl rfl dX6_copyFrom_27 ?_
  refine va_mmin hx hb (by rw [hml]; exact hl.1.symm) hown (hts (.methodLink RX6 29 Lib.Math.min.name) (by decide +kernel)) (hts (.static Lib.Math.min.name) (by decide +kernel)) (hts (.initialized "java/lang/Math") (by decide +kernel)) (hts (.code Lib.Math.min.name Lib.Math.min.code 2 (some .int)) (by decide +kernel)) (Nat.le_of_ble_eq_true rfl) (Nat.le_of_ble_eq_true rfl) (Nat.le_of_ble_eq_true rfl) (Nat.le_of_ble_eq_true rfl) dX6_copyFrom_28 ?_
  refine lv_cst (y := 16) (by decide) ?_
  refine va_copyi (ty := .int) hx hb (by rw [hml]; exact hl.1.symm) hown (hts (.methodLink RX6 35 arraycopyName) (by decide +kernel)) (hts (.native arraycopyName) (by decide +kernel)) (hts (.static arraycopyName) (by decide +kernel)) (hts (.initialized "java/lang/System") (by decide +kernel)) hK hP hD hS 3 1 0 0 rfl rfl rfl rfl rfl (by decide) (by decide) (by decide) (by decide) (by decide) (fun _ _ => rfl) (Nat.le_of_ble_eq_true rfl) (Nat.le_of_ble_eq_true rfl) dX6_copyFrom_31 (fun H locs hP hD hS => ?_)
  have hP : va_P G.1 vwCl [(h0, .inr (6, [.int mo, .int wi, .ref ca, .int 0])), (ca, .inl (G.2 0, 16, .inl (va_cpy f1 f0 (0 : Int32).toNatClampNeg (0 : Int32).toNatClampNeg (16 : Int32).toNatClampNeg))), (h1, .inr (6, [.int mo1, .int wi1, .ref ca1, .int 0])), (ca1, .inl (G.2 0, 16, .inl f1))] H := hP
  have hD : va_D A [(h0, .inr (6, [.int mo, .int wi, .ref ca, .int 0])), (ca, .inl (G.2 0, 16, .inl (va_cpy f1 f0 (0 : Int32).toNatClampNeg (0 : Int32).toNatClampNeg (16 : Int32).toNatClampNeg))), (h1, .inr (6, [.int mo1, .int wi1, .ref ca1, .int 0])), (ca1, .inl (G.2 0, 16, .inl f1))] := hD
  generalize (va_cpy f1 f0 (0 : Int32).toNatClampNeg (0 : Int32).toNatClampNeg (16 : Int32).toNatClampNeg) = f1 at hP hD
  exact W.vret hx hb hr (fun t ht hW => ⟨⟨(), rfl, trivial, ⟨by rw [ht]; exact hP.sub [] rfl, hD.sub [] (by decide +kernel) rfl⟩⟩, hS.F ht⟩) hS.2.2 dX6_copyFrom_34
set_option maxHeartbeats 4000000 in
set_option maxRecDepth 100000 in
theorem c_copyFrom_18 (l : Launch) (G : KG) (h0 : Nat) (mo : Int32) (wi : Int32) (ca : Nat) (h1 : Nat) (mo1 : Int32) (wi1 : Int32) (ca1 : Nat) (f0 : Nat → Int32) (f1 : Nat → Int32) (sz : Nat) : Met l yX6_copyFrom wsX6_copyFrom ({ frames := 1, cells := 0, slots := 0, locals := 64 }) (preQ G [.ref h0, .ref h1] sz [(h0, .inr (6, [.int mo, .int wi, .ref ca, .int 0])), (ca, .inl (G.2 0, 18, .inl f0)), (h1, .inr (6, [.int mo1, .int wi1, .ref ca1, .int 0])), (ca1, .inl (G.2 0, 18, .inl f1))]) (va_Qv (fun (u : Unit) => True) (fun u t => atQ G (va_A [(h0, .inr (6, [.int mo, .int wi, .ref ca, .int 0])), (ca, .inl (G.2 0, 18, .inl f0)), (h1, .inr (6, [.int mo1, .int wi1, .ref ca1, .int 0])), (ca1, .inl (G.2 0, 18, .inl f1))] sz) [] t) (va_A [(h0, .inr (6, [.int mo, .int wi, .ref ca, .int 0])), (ca, .inl (G.2 0, 18, .inl f0)), (h1, .inr (6, [.int mo1, .int wi1, .ref ca1, .int 0])), (ca1, .inl (G.2 0, 18, .inl f1))] sz)) 0 0 (va_A [(h0, .inr (6, [.int mo, .int wi, .ref ca, .int 0])), (ca, .inl (G.2 0, 18, .inl f0)), (h1, .inr (6, [.int mo1, .int wi1, .ref ca1, .int 0])), (ca1, .inl (G.2 0, 18, .inl f1))] sz) := by
  refine Met.ofW (cc := cX6_copyFrom) (maxL := 2) (ret := none) (by decide) rfl ?_
  intro p e s m args below meth c s₁ B hml hv
  obtain ⟨rfl, hsz, hP, hKG, hD0⟩ := hv
  obtain ⟨hK, hAO⟩ := id hKG
  have hx := B.exec
  have hb := B.bytes
  have hr := B.returns
  have hts := atoms_spec (ws := wsX6_copyFrom) B.pre
  have hown : s.vm.findClass RX6 = some m.cls := findClass_of_methodNamed B.named
  have hlocks := B.notSynchronized
  subst hsz
  have hD := hD0.self (sz := s.heap.size)
  generalize hAe : va_A [(h0, .inr (6, [.int mo, .int wi, .ref ca, .int 0])), (ca, .inl (G.2 0, 18, .inl f0)), (h1, .inr (6, [.int mo1, .int wi1, .ref ca1, .int 0])), (ca1, .inl (G.2 0, 18, .inl f1))] s.heap.size = A at hD ⊢
  have hA : ∀ q : Nat, s.heap.size ≤ q → A q := fun q h => by rw [← hAe]; exact Or.inr h
  have hS : va_S A s.heap s.heap [] := va_S.rf
  have hl := lv_entry ([.ref h0, .ref h1]) (n := 2) (Nat.le_of_ble_eq_true rfl)
  rw [lg_entry_eq]
  generalize (lg_sl ([.ref h0, .ref h1]) ++ List.replicate (2 - (lg_sl ([.ref h0, .ref h1])).length) Slot.unset).toArray = ls at hl ⊢
  have hl : lv_has ls 2 [(0, .ref h0), (1, .ref h1)] := hl
  refine lv_aload_n hx hb dX6_copyFrom_0 rfl (lv_at hl 0 rfl) ?_
  refine lv_aload_n hx hb dX6_copyFrom_1 rfl (lv_at hl 1 rfl) ?_
  refine va_get (D := G.1) (ci := 6) (v := .int 0) (C := RX6) (T := TX6) (N := 4) hx hb hts (fun w h => List.mem_cons_of_mem _ (List.mem_append_right _ h)) hown hK hP 2 rfl rfl 3 (by decide) (hts (.fieldLink RX6 9 "SlipCoach$Sheet" "count" "I") (by decide +kernel)) (fun _ h9 => h9) rfl dX6_copyFrom_2 ?_
  refine va_put (D := G.1) (ci := 6) (v := .int 0) (ty := .int) (C := RX6) (T := TX6) (N := 4) hx hb hts (fun w h => List.mem_cons_of_mem _ (List.mem_append_right _ h)) tyX6 tyX6_ok nmX6 hown hK hP hD hS 0 rfl rfl 3 (by decide) (hts (.fieldLink RX6 9 "SlipCoach$Sheet" "count" "I") (by decide +kernel)) (fun _ h9 => h9) rfl (by decide +kernel) rfl rfl (Nat.le_of_ble_eq_true rfl) dX6_copyFrom_5 (fun H locs hP hD hS => ?_)
  have hP : va_P G.1 vwCl [(h0, .inr (6, [.int mo, .int wi, .ref ca, .int 0])), (ca, .inl (G.2 0, 18, .inl f0)), (h1, .inr (6, [.int mo1, .int wi1, .ref ca1, .int 0])), (ca1, .inl (G.2 0, 18, .inl f1))] H := hP
  have hD : va_D A [(h0, .inr (6, [.int mo, .int wi, .ref ca, .int 0])), (ca, .inl (G.2 0, 18, .inl f0)), (h1, .inr (6, [.int mo1, .int wi1, .ref ca1, .int 0])), (ca1, .inl (G.2 0, 18, .inl f1))] := hD
  refine lv_aload_n hx hb dX6_copyFrom_8 rfl (lv_at hl 1 rfl) ?_
  refine va_get (D := G.1) (ci := 6) (v := .ref ca1) (C := RX6) (T := TX6) (N := 4) hx hb hts (fun w h => List.mem_cons_of_mem _ (List.mem_append_right _ h)) hown hK hP 2 rfl rfl 2 (by decide) (hts (.fieldLink RX6 21 "SlipCoach$Sheet" "cells" "[I") (by decide +kernel)) (fun _ h9 => h9) rfl dX6_copyFrom_9 ?_
  refine lv_iconst (v := 0) hx hb dX6_copyFrom_12 (by decide) ?_
  refine lv_aload_n hx hb dX6_copyFrom_13 rfl (lv_at hl 0 rfl) ?_
  refine va_get (D := G.1) (ci := 6) (v := .ref ca) (C := RX6) (T := TX6) (N := 4) hx hb hts (fun w h => List.mem_cons_of_mem _ (List.mem_append_right _ h)) hown hK hP 0 rfl rfl 2 (by decide) (hts (.fieldLink RX6 21 "SlipCoach$Sheet" "cells" "[I") (by decide +kernel)) (fun _ h9 => h9) rfl dX6_copyFrom_14 ?_
  refine lv_iconst (v := 0) hx hb dX6_copyFrom_17 (by decide) ?_
  refine lv_aload_n hx hb dX6_copyFrom_18 rfl (lv_at hl 0 rfl) ?_
  refine va_get (D := G.1) (ci := 6) (v := .ref ca) (C := RX6) (T := TX6) (N := 4) hx hb hts (fun w h => List.mem_cons_of_mem _ (List.mem_append_right _ h)) hown hK hP 0 rfl rfl 2 (by decide) (hts (.fieldLink RX6 21 "SlipCoach$Sheet" "cells" "[I") (by decide +kernel)) (fun _ h9 => h9) rfl dX6_copyFrom_19 ?_
  refine va_alen (v := 18) hx hb hK hP 1 0 rfl rfl rfl dX6_copyFrom_22 ?_
  refine lv_aload_n hx hb dX6_copyFrom_23 rfl (lv_at hl 1 rfl) ?_
  refine va_get (D := G.1) (ci := 6) (v := .ref ca1) (C := RX6) (T := TX6) (N := 4) hx hb hts (fun w h => List.mem_cons_of_mem _ (List.mem_append_right _ h)) hown hK hP 2 rfl rfl 2 (by decide) (hts (.fieldLink RX6 21 "SlipCoach$Sheet" "cells" "[I") (by decide +kernel)) (fun _ h9 => h9) rfl dX6_copyFrom_24 ?_
  refine va_alen (v := 18) hx hb hK hP 3 0 rfl rfl rfl dX6_copyFrom_27 ?_
  refine va_mmin hx hb (by rw [hml]; exact hl.1.symm) hown (hts (.methodLink RX6 29 Lib.Math.min.name) (by decide +kernel)) (hts (.static Lib.Math.min.name) (by decide +kernel)) (hts (.initialized "java/lang/Math") (by decide +kernel)) (hts (.code Lib.Math.min.name Lib.Math.min.code 2 (some .int)) (by decide +kernel)) (Nat.le_of_ble_eq_true rfl) (Nat.le_of_ble_eq_true rfl) (Nat.le_of_ble_eq_true rfl) (Nat.le_of_ble_eq_true rfl) dX6_copyFrom_28 ?_
  refine lv_cst (y := 18) (by decide) ?_
  refine va_copyi (ty := .int) hx hb (by rw [hml]; exact hl.1.symm) hown (hts (.methodLink RX6 35 arraycopyName) (by decide +kernel)) (hts (.native arraycopyName) (by decide +kernel)) (hts (.static arraycopyName) (by decide +kernel)) (hts (.initialized "java/lang/System") (by decide +kernel)) hK hP hD hS 3 1 0 0 rfl rfl rfl rfl rfl (by decide) (by decide) (by decide) (by decide) (by decide) (fun _ _ => rfl) (Nat.le_of_ble_eq_true rfl) (Nat.le_of_ble_eq_true rfl) dX6_copyFrom_31 (fun H locs hP hD hS => ?_)
  have hP : va_P G.1 vwCl [(h0, .inr (6, [.int mo, .int wi, .ref ca, .int 0])), (ca, .inl (G.2 0, 18, .inl (va_cpy f1 f0 (0 : Int32).toNatClampNeg (0 : Int32).toNatClampNeg (18 : Int32).toNatClampNeg))), (h1, .inr (6, [.int mo1, .int wi1, .ref ca1, .int 0])), (ca1, .inl (G.2 0, 18, .inl f1))] H := hP
  have hD : va_D A [(h0, .inr (6, [.int mo, .int wi, .ref ca, .int 0])), (ca, .inl (G.2 0, 18, .inl (va_cpy f1 f0 (0 : Int32).toNatClampNeg (0 : Int32).toNatClampNeg (18 : Int32).toNatClampNeg))), (h1, .inr (6, [.int mo1, .int wi1, .ref ca1, .int 0])), (ca1, .inl (G.2 0, 18, .inl f1))] := hD
  generalize (va_cpy f1 f0 (0 : Int32).toNatClampNeg (0 : Int32).toNatClampNeg (18 : Int32).toNatClampNeg) = f1 at hP hD
  exact W.vret hx hb hr (fun t ht hW => ⟨⟨(), rfl, trivial, ⟨by rw [ht]; exact hP.sub [] rfl, hD.sub [] (by decide +kernel) rfl⟩⟩, hS.F ht⟩) hS.2.2 dX6_copyFrom_34
set_option maxHeartbeats 4000000 in
set_option maxRecDepth 100000 in
theorem c_copyFrom_20 (l : Launch) (G : KG) (h0 : Nat) (mo : Int32) (wi : Int32) (ca : Nat) (h1 : Nat) (mo1 : Int32) (wi1 : Int32) (ca1 : Nat) (f0 : Nat → Int32) (f1 : Nat → Int32) (sz : Nat) : Met l yX6_copyFrom wsX6_copyFrom ({ frames := 1, cells := 0, slots := 0, locals := 64 }) (preQ G [.ref h0, .ref h1] sz [(h0, .inr (6, [.int mo, .int wi, .ref ca, .int 0])), (ca, .inl (G.2 0, 20, .inl f0)), (h1, .inr (6, [.int mo1, .int wi1, .ref ca1, .int 0])), (ca1, .inl (G.2 0, 20, .inl f1))]) (va_Qv (fun (u : Unit) => True) (fun u t => atQ G (va_A [(h0, .inr (6, [.int mo, .int wi, .ref ca, .int 0])), (ca, .inl (G.2 0, 20, .inl f0)), (h1, .inr (6, [.int mo1, .int wi1, .ref ca1, .int 0])), (ca1, .inl (G.2 0, 20, .inl f1))] sz) [] t) (va_A [(h0, .inr (6, [.int mo, .int wi, .ref ca, .int 0])), (ca, .inl (G.2 0, 20, .inl f0)), (h1, .inr (6, [.int mo1, .int wi1, .ref ca1, .int 0])), (ca1, .inl (G.2 0, 20, .inl f1))] sz)) 0 0 (va_A [(h0, .inr (6, [.int mo, .int wi, .ref ca, .int 0])), (ca, .inl (G.2 0, 20, .inl f0)), (h1, .inr (6, [.int mo1, .int wi1, .ref ca1, .int 0])), (ca1, .inl (G.2 0, 20, .inl f1))] sz) := by
  refine Met.ofW (cc := cX6_copyFrom) (maxL := 2) (ret := none) (by decide) rfl ?_
  intro p e s m args below meth c s₁ B hml hv
  obtain ⟨rfl, hsz, hP, hKG, hD0⟩ := hv
  obtain ⟨hK, hAO⟩ := id hKG
  have hx := B.exec
  have hb := B.bytes
  have hr := B.returns
  have hts := atoms_spec (ws := wsX6_copyFrom) B.pre
  have hown : s.vm.findClass RX6 = some m.cls := findClass_of_methodNamed B.named
  have hlocks := B.notSynchronized
  subst hsz
  have hD := hD0.self (sz := s.heap.size)
  generalize hAe : va_A [(h0, .inr (6, [.int mo, .int wi, .ref ca, .int 0])), (ca, .inl (G.2 0, 20, .inl f0)), (h1, .inr (6, [.int mo1, .int wi1, .ref ca1, .int 0])), (ca1, .inl (G.2 0, 20, .inl f1))] s.heap.size = A at hD ⊢
  have hA : ∀ q : Nat, s.heap.size ≤ q → A q := fun q h => by rw [← hAe]; exact Or.inr h
  have hS : va_S A s.heap s.heap [] := va_S.rf
  have hl := lv_entry ([.ref h0, .ref h1]) (n := 2) (Nat.le_of_ble_eq_true rfl)
  rw [lg_entry_eq]
  generalize (lg_sl ([.ref h0, .ref h1]) ++ List.replicate (2 - (lg_sl ([.ref h0, .ref h1])).length) Slot.unset).toArray = ls at hl ⊢
  have hl : lv_has ls 2 [(0, .ref h0), (1, .ref h1)] := hl
  refine lv_aload_n hx hb dX6_copyFrom_0 rfl (lv_at hl 0 rfl) ?_
  refine lv_aload_n hx hb dX6_copyFrom_1 rfl (lv_at hl 1 rfl) ?_
  refine va_get (D := G.1) (ci := 6) (v := .int 0) (C := RX6) (T := TX6) (N := 4) hx hb hts (fun w h => List.mem_cons_of_mem _ (List.mem_append_right _ h)) hown hK hP 2 rfl rfl 3 (by decide) (hts (.fieldLink RX6 9 "SlipCoach$Sheet" "count" "I") (by decide +kernel)) (fun _ h9 => h9) rfl dX6_copyFrom_2 ?_
  refine va_put (D := G.1) (ci := 6) (v := .int 0) (ty := .int) (C := RX6) (T := TX6) (N := 4) hx hb hts (fun w h => List.mem_cons_of_mem _ (List.mem_append_right _ h)) tyX6 tyX6_ok nmX6 hown hK hP hD hS 0 rfl rfl 3 (by decide) (hts (.fieldLink RX6 9 "SlipCoach$Sheet" "count" "I") (by decide +kernel)) (fun _ h9 => h9) rfl (by decide +kernel) rfl rfl (Nat.le_of_ble_eq_true rfl) dX6_copyFrom_5 (fun H locs hP hD hS => ?_)
  have hP : va_P G.1 vwCl [(h0, .inr (6, [.int mo, .int wi, .ref ca, .int 0])), (ca, .inl (G.2 0, 20, .inl f0)), (h1, .inr (6, [.int mo1, .int wi1, .ref ca1, .int 0])), (ca1, .inl (G.2 0, 20, .inl f1))] H := hP
  have hD : va_D A [(h0, .inr (6, [.int mo, .int wi, .ref ca, .int 0])), (ca, .inl (G.2 0, 20, .inl f0)), (h1, .inr (6, [.int mo1, .int wi1, .ref ca1, .int 0])), (ca1, .inl (G.2 0, 20, .inl f1))] := hD
  refine lv_aload_n hx hb dX6_copyFrom_8 rfl (lv_at hl 1 rfl) ?_
  refine va_get (D := G.1) (ci := 6) (v := .ref ca1) (C := RX6) (T := TX6) (N := 4) hx hb hts (fun w h => List.mem_cons_of_mem _ (List.mem_append_right _ h)) hown hK hP 2 rfl rfl 2 (by decide) (hts (.fieldLink RX6 21 "SlipCoach$Sheet" "cells" "[I") (by decide +kernel)) (fun _ h9 => h9) rfl dX6_copyFrom_9 ?_
  refine lv_iconst (v := 0) hx hb dX6_copyFrom_12 (by decide) ?_
  refine lv_aload_n hx hb dX6_copyFrom_13 rfl (lv_at hl 0 rfl) ?_
  refine va_get (D := G.1) (ci := 6) (v := .ref ca) (C := RX6) (T := TX6) (N := 4) hx hb hts (fun w h => List.mem_cons_of_mem _ (List.mem_append_right _ h)) hown hK hP 0 rfl rfl 2 (by decide) (hts (.fieldLink RX6 21 "SlipCoach$Sheet" "cells" "[I") (by decide +kernel)) (fun _ h9 => h9) rfl dX6_copyFrom_14 ?_
  refine lv_iconst (v := 0) hx hb dX6_copyFrom_17 (by decide) ?_
  refine lv_aload_n hx hb dX6_copyFrom_18 rfl (lv_at hl 0 rfl) ?_
  refine va_get (D := G.1) (ci := 6) (v := .ref ca) (C := RX6) (T := TX6) (N := 4) hx hb hts (fun w h => List.mem_cons_of_mem _ (List.mem_append_right _ h)) hown hK hP 0 rfl rfl 2 (by decide) (hts (.fieldLink RX6 21 "SlipCoach$Sheet" "cells" "[I") (by decide +kernel)) (fun _ h9 => h9) rfl dX6_copyFrom_19 ?_
  refine va_alen (v := 20) hx hb hK hP 1 0 rfl rfl rfl dX6_copyFrom_22 ?_
  refine lv_aload_n hx hb dX6_copyFrom_23 rfl (lv_at hl 1 rfl) ?_
  refine va_get (D := G.1) (ci := 6) (v := .ref ca1) (C := RX6) (T := TX6) (N := 4) hx hb hts (fun w h => List.mem_cons_of_mem _ (List.mem_append_right _ h)) hown hK hP 2 rfl rfl 2 (by decide) (hts (.fieldLink RX6 21 "SlipCoach$Sheet" "cells" "[I") (by decide +kernel)) (fun _ h9 => h9) rfl dX6_copyFrom_24 ?_
  refine va_alen (v := 20) hx hb hK hP 3 0 rfl rfl rfl dX6_copyFrom_27 ?_
  refine va_mmin hx hb (by rw [hml]; exact hl.1.symm) hown (hts (.methodLink RX6 29 Lib.Math.min.name) (by decide +kernel)) (hts (.static Lib.Math.min.name) (by decide +kernel)) (hts (.initialized "java/lang/Math") (by decide +kernel)) (hts (.code Lib.Math.min.name Lib.Math.min.code 2 (some .int)) (by decide +kernel)) (Nat.le_of_ble_eq_true rfl) (Nat.le_of_ble_eq_true rfl) (Nat.le_of_ble_eq_true rfl) (Nat.le_of_ble_eq_true rfl) dX6_copyFrom_28 ?_
  refine lv_cst (y := 20) (by decide) ?_
  refine va_copyi (ty := .int) hx hb (by rw [hml]; exact hl.1.symm) hown (hts (.methodLink RX6 35 arraycopyName) (by decide +kernel)) (hts (.native arraycopyName) (by decide +kernel)) (hts (.static arraycopyName) (by decide +kernel)) (hts (.initialized "java/lang/System") (by decide +kernel)) hK hP hD hS 3 1 0 0 rfl rfl rfl rfl rfl (by decide) (by decide) (by decide) (by decide) (by decide) (fun _ _ => rfl) (Nat.le_of_ble_eq_true rfl) (Nat.le_of_ble_eq_true rfl) dX6_copyFrom_31 (fun H locs hP hD hS => ?_)
  have hP : va_P G.1 vwCl [(h0, .inr (6, [.int mo, .int wi, .ref ca, .int 0])), (ca, .inl (G.2 0, 20, .inl (va_cpy f1 f0 (0 : Int32).toNatClampNeg (0 : Int32).toNatClampNeg (20 : Int32).toNatClampNeg))), (h1, .inr (6, [.int mo1, .int wi1, .ref ca1, .int 0])), (ca1, .inl (G.2 0, 20, .inl f1))] H := hP
  have hD : va_D A [(h0, .inr (6, [.int mo, .int wi, .ref ca, .int 0])), (ca, .inl (G.2 0, 20, .inl (va_cpy f1 f0 (0 : Int32).toNatClampNeg (0 : Int32).toNatClampNeg (20 : Int32).toNatClampNeg))), (h1, .inr (6, [.int mo1, .int wi1, .ref ca1, .int 0])), (ca1, .inl (G.2 0, 20, .inl f1))] := hD
  generalize (va_cpy f1 f0 (0 : Int32).toNatClampNeg (0 : Int32).toNatClampNeg (20 : Int32).toNatClampNeg) = f1 at hP hD
  exact W.vret hx hb hr (fun t ht hW => ⟨⟨(), rfl, trivial, ⟨by rw [ht]; exact hP.sub [] rfl, hD.sub [] (by decide +kernel) rfl⟩⟩, hS.F ht⟩) hS.2.2 dX6_copyFrom_34
set_option maxHeartbeats 4000000 in
set_option maxRecDepth 100000 in
theorem c_copyFrom_80 (l : Launch) (G : KG) (h0 : Nat) (mo : Int32) (wi : Int32) (ca : Nat) (h1 : Nat) (mo1 : Int32) (wi1 : Int32) (ca1 : Nat) (f0 : Nat → Int32) (f1 : Nat → Int32) (sz : Nat) : Met l yX6_copyFrom wsX6_copyFrom ({ frames := 1, cells := 0, slots := 0, locals := 64 }) (preQ G [.ref h0, .ref h1] sz [(h0, .inr (6, [.int mo, .int wi, .ref ca, .int 0])), (ca, .inl (G.2 0, 80, .inl f0)), (h1, .inr (6, [.int mo1, .int wi1, .ref ca1, .int 0])), (ca1, .inl (G.2 0, 80, .inl f1))]) (va_Qv (fun (u : Unit) => True) (fun u t => atQ G (va_A [(h0, .inr (6, [.int mo, .int wi, .ref ca, .int 0])), (ca, .inl (G.2 0, 80, .inl f0)), (h1, .inr (6, [.int mo1, .int wi1, .ref ca1, .int 0])), (ca1, .inl (G.2 0, 80, .inl f1))] sz) [] t) (va_A [(h0, .inr (6, [.int mo, .int wi, .ref ca, .int 0])), (ca, .inl (G.2 0, 80, .inl f0)), (h1, .inr (6, [.int mo1, .int wi1, .ref ca1, .int 0])), (ca1, .inl (G.2 0, 80, .inl f1))] sz)) 0 0 (va_A [(h0, .inr (6, [.int mo, .int wi, .ref ca, .int 0])), (ca, .inl (G.2 0, 80, .inl f0)), (h1, .inr (6, [.int mo1, .int wi1, .ref ca1, .int 0])), (ca1, .inl (G.2 0, 80, .inl f1))] sz) := by
  refine Met.ofW (cc := cX6_copyFrom) (maxL := 2) (ret := none) (by decide) rfl ?_
  intro p e s m args below meth c s₁ B hml hv
  obtain ⟨rfl, hsz, hP, hKG, hD0⟩ := hv
  obtain ⟨hK, hAO⟩ := id hKG
  have hx := B.exec
  have hb := B.bytes
  have hr := B.returns
  have hts := atoms_spec (ws := wsX6_copyFrom) B.pre
  have hown : s.vm.findClass RX6 = some m.cls := findClass_of_methodNamed B.named
  have hlocks := B.notSynchronized
  subst hsz
  have hD := hD0.self (sz := s.heap.size)
  generalize hAe : va_A [(h0, .inr (6, [.int mo, .int wi, .ref ca, .int 0])), (ca, .inl (G.2 0, 80, .inl f0)), (h1, .inr (6, [.int mo1, .int wi1, .ref ca1, .int 0])), (ca1, .inl (G.2 0, 80, .inl f1))] s.heap.size = A at hD ⊢
  have hA : ∀ q : Nat, s.heap.size ≤ q → A q := fun q h => by rw [← hAe]; exact Or.inr h
  have hS : va_S A s.heap s.heap [] := va_S.rf
  have hl := lv_entry ([.ref h0, .ref h1]) (n := 2) (Nat.le_of_ble_eq_true rfl)
  rw [lg_entry_eq]
  generalize (lg_sl ([.ref h0, .ref h1]) ++ List.replicate (2 - (lg_sl ([.ref h0, .ref h1])).length) Slot.unset).toArray = ls at hl ⊢
  have hl : lv_has ls 2 [(0, .ref h0), (1, .ref h1)] := hl
  refine lv_aload_n hx hb dX6_copyFrom_0 rfl (lv_at hl 0 rfl) ?_
  refine lv_aload_n hx hb dX6_copyFrom_1 rfl (lv_at hl 1 rfl) ?_
  refine va_get (D := G.1) (ci := 6) (v := .int 0) (C := RX6) (T := TX6) (N := 4) hx hb hts (fun w h => List.mem_cons_of_mem _ (List.mem_append_right _ h)) hown hK hP 2 rfl rfl 3 (by decide) (hts (.fieldLink RX6 9 "SlipCoach$Sheet" "count" "I") (by decide +kernel)) (fun _ h9 => h9) rfl dX6_copyFrom_2 ?_
  refine va_put (D := G.1) (ci := 6) (v := .int 0) (ty := .int) (C := RX6) (T := TX6) (N := 4) hx hb hts (fun w h => List.mem_cons_of_mem _ (List.mem_append_right _ h)) tyX6 tyX6_ok nmX6 hown hK hP hD hS 0 rfl rfl 3 (by decide) (hts (.fieldLink RX6 9 "SlipCoach$Sheet" "count" "I") (by decide +kernel)) (fun _ h9 => h9) rfl (by decide +kernel) rfl rfl (Nat.le_of_ble_eq_true rfl) dX6_copyFrom_5 (fun H locs hP hD hS => ?_)
  have hP : va_P G.1 vwCl [(h0, .inr (6, [.int mo, .int wi, .ref ca, .int 0])), (ca, .inl (G.2 0, 80, .inl f0)), (h1, .inr (6, [.int mo1, .int wi1, .ref ca1, .int 0])), (ca1, .inl (G.2 0, 80, .inl f1))] H := hP
  have hD : va_D A [(h0, .inr (6, [.int mo, .int wi, .ref ca, .int 0])), (ca, .inl (G.2 0, 80, .inl f0)), (h1, .inr (6, [.int mo1, .int wi1, .ref ca1, .int 0])), (ca1, .inl (G.2 0, 80, .inl f1))] := hD
  refine lv_aload_n hx hb dX6_copyFrom_8 rfl (lv_at hl 1 rfl) ?_
  refine va_get (D := G.1) (ci := 6) (v := .ref ca1) (C := RX6) (T := TX6) (N := 4) hx hb hts (fun w h => List.mem_cons_of_mem _ (List.mem_append_right _ h)) hown hK hP 2 rfl rfl 2 (by decide) (hts (.fieldLink RX6 21 "SlipCoach$Sheet" "cells" "[I") (by decide +kernel)) (fun _ h9 => h9) rfl dX6_copyFrom_9 ?_
  refine lv_iconst (v := 0) hx hb dX6_copyFrom_12 (by decide) ?_
  refine lv_aload_n hx hb dX6_copyFrom_13 rfl (lv_at hl 0 rfl) ?_
  refine va_get (D := G.1) (ci := 6) (v := .ref ca) (C := RX6) (T := TX6) (N := 4) hx hb hts (fun w h => List.mem_cons_of_mem _ (List.mem_append_right _ h)) hown hK hP 0 rfl rfl 2 (by decide) (hts (.fieldLink RX6 21 "SlipCoach$Sheet" "cells" "[I") (by decide +kernel)) (fun _ h9 => h9) rfl dX6_copyFrom_14 ?_
  refine lv_iconst (v := 0) hx hb dX6_copyFrom_17 (by decide) ?_
  refine lv_aload_n hx hb dX6_copyFrom_18 rfl (lv_at hl 0 rfl) ?_
  refine va_get (D := G.1) (ci := 6) (v := .ref ca) (C := RX6) (T := TX6) (N := 4) hx hb hts (fun w h => List.mem_cons_of_mem _ (List.mem_append_right _ h)) hown hK hP 0 rfl rfl 2 (by decide) (hts (.fieldLink RX6 21 "SlipCoach$Sheet" "cells" "[I") (by decide +kernel)) (fun _ h9 => h9) rfl dX6_copyFrom_19 ?_
  refine va_alen (v := 80) hx hb hK hP 1 0 rfl rfl rfl dX6_copyFrom_22 ?_
  refine lv_aload_n hx hb dX6_copyFrom_23 rfl (lv_at hl 1 rfl) ?_
  refine va_get (D := G.1) (ci := 6) (v := .ref ca1) (C := RX6) (T := TX6) (N := 4) hx hb hts (fun w h => List.mem_cons_of_mem _ (List.mem_append_right _ h)) hown hK hP 2 rfl rfl 2 (by decide) (hts (.fieldLink RX6 21 "SlipCoach$Sheet" "cells" "[I") (by decide +kernel)) (fun _ h9 => h9) rfl dX6_copyFrom_24 ?_
  refine va_alen (v := 80) hx hb hK hP 3 0 rfl rfl rfl dX6_copyFrom_27 ?_
  refine va_mmin hx hb (by rw [hml]; exact hl.1.symm) hown (hts (.methodLink RX6 29 Lib.Math.min.name) (by decide +kernel)) (hts (.static Lib.Math.min.name) (by decide +kernel)) (hts (.initialized "java/lang/Math") (by decide +kernel)) (hts (.code Lib.Math.min.name Lib.Math.min.code 2 (some .int)) (by decide +kernel)) (Nat.le_of_ble_eq_true rfl) (Nat.le_of_ble_eq_true rfl) (Nat.le_of_ble_eq_true rfl) (Nat.le_of_ble_eq_true rfl) dX6_copyFrom_28 ?_
  refine lv_cst (y := 80) (by decide) ?_
  refine va_copyi (ty := .int) hx hb (by rw [hml]; exact hl.1.symm) hown (hts (.methodLink RX6 35 arraycopyName) (by decide +kernel)) (hts (.native arraycopyName) (by decide +kernel)) (hts (.static arraycopyName) (by decide +kernel)) (hts (.initialized "java/lang/System") (by decide +kernel)) hK hP hD hS 3 1 0 0 rfl rfl rfl rfl rfl (by decide) (by decide) (by decide) (by decide) (by decide) (fun _ _ => rfl) (Nat.le_of_ble_eq_true rfl) (Nat.le_of_ble_eq_true rfl) dX6_copyFrom_31 (fun H locs hP hD hS => ?_)
  have hP : va_P G.1 vwCl [(h0, .inr (6, [.int mo, .int wi, .ref ca, .int 0])), (ca, .inl (G.2 0, 80, .inl (va_cpy f1 f0 (0 : Int32).toNatClampNeg (0 : Int32).toNatClampNeg (80 : Int32).toNatClampNeg))), (h1, .inr (6, [.int mo1, .int wi1, .ref ca1, .int 0])), (ca1, .inl (G.2 0, 80, .inl f1))] H := hP
  have hD : va_D A [(h0, .inr (6, [.int mo, .int wi, .ref ca, .int 0])), (ca, .inl (G.2 0, 80, .inl (va_cpy f1 f0 (0 : Int32).toNatClampNeg (0 : Int32).toNatClampNeg (80 : Int32).toNatClampNeg))), (h1, .inr (6, [.int mo1, .int wi1, .ref ca1, .int 0])), (ca1, .inl (G.2 0, 80, .inl f1))] := hD
  generalize (va_cpy f1 f0 (0 : Int32).toNatClampNeg (0 : Int32).toNatClampNeg (80 : Int32).toNatClampNeg) = f1 at hP hD
  exact W.vret hx hb hr (fun t ht hW => ⟨⟨(), rfl, trivial, ⟨by rw [ht]; exact hP.sub [] rfl, hD.sub [] (by decide +kernel) rfl⟩⟩, hS.F ht⟩) hS.2.2 dX6_copyFrom_34
set_option maxHeartbeats 4000000 in
set_option maxRecDepth 100000 in
theorem c_newSheet_4_5 (l : Launch) (G : KG) (h0 : Nat) (sz : Nat) : Met l yX6_init wsX6_init ({ frames := 1, cells := 1, slots := 20, locals := 20 }) (preQ G [.ref h0, .int 4, .int 5] sz [(h0, .inr (6, [.int 0, .int 0, .null, .int 0]))]) (va_Qv (fun (u : Nat) => True) (fun u t => atQ G (va_A [(h0, .inr (6, [.int 0, .int 0, .null, .int 0]))] sz) [(h0, .inr (6, [.int 4, .int 5, .ref u, .int 0])), (u, .inl (G.2 0, 20, .inl (fun _ => 0)))] t) (va_A [(h0, .inr (6, [.int 0, .int 0, .null, .int 0]))] sz)) 1 20 (va_A [(h0, .inr (6, [.int 0, .int 0, .null, .int 0]))] sz) := by
  refine Met.ofW (cc := cX6_init) (maxL := 3) (ret := none) (by decide) rfl ?_
  intro p e s m args below meth c s₁ B hml hv
  obtain ⟨rfl, hsz, hP, hKG, hD0⟩ := hv
  obtain ⟨hK, hAO⟩ := id hKG
  have hx := B.exec
  have hb := B.bytes
  have hr := B.returns
  have hts := atoms_spec (ws := wsX6_init) B.pre
  have hown : s.vm.findClass RX6 = some m.cls := findClass_of_methodNamed B.named
  have hlocks := B.notSynchronized
  have hin : meth.name = "<init>" := (name_of_methodNamed B.named B.method).1
  subst hsz
  have hD := hD0.self (sz := s.heap.size)
  generalize hAe : va_A [(h0, .inr (6, [.int 0, .int 0, .null, .int 0]))] s.heap.size = A at hD ⊢
  have hA : ∀ q : Nat, s.heap.size ≤ q → A q := fun q h => by rw [← hAe]; exact Or.inr h
  have hS : va_S A s.heap s.heap [] := va_S.rf
  have hl := lv_entry ([.ref h0, .int 4, .int 5]) (n := 3) (Nat.le_of_ble_eq_true rfl)
  rw [lg_entry_eq]
  generalize (lg_sl ([.ref h0, .int 4, .int 5]) ++ List.replicate (3 - (lg_sl ([.ref h0, .int 4, .int 5])).length) Slot.unset).toArray = ls at hl ⊢
  have hl : lv_has ls 3 [(0, .ref h0), (1, .int 4), (2, .int 5)] := hl
  refine lv_aload_n hx hb dX6_init_0 rfl (lv_at hl 0 rfl) ?_
  refine W.objInit hx hb hown (hts (.methodLink RX6 3 objectInit) (by decide +kernel)) (hts (.instanceMethod objectInit) (by decide +kernel)) (hts _ (List.mem_of_getElem? (i := 3) rfl)) rfl (by rw [hml]; exact hl.1) rfl dX6_init_1 (Nat.le_of_ble_eq_true rfl) (Nat.le_of_ble_eq_true rfl) ?_
  refine W.eq (g2 := F0 m 4 ls []) rfl ?_
  refine lv_aload_n hx hb dX6_init_4 rfl (lv_at hl 0 rfl) ?_
  refine lv_iconst (v := 0) hx hb dX6_init_5 (by decide) ?_
  refine va_put (D := G.1) (ci := 6) (v := .int 0) (ty := .int) (C := RX6) (T := TX6) (N := 4) hx hb hts (fun w h => List.mem_cons_of_mem _ (List.mem_append_right _ h)) tyX6 tyX6_ok nmX6 hown hK hP hD hS 0 rfl rfl 3 (by decide) (hts (.fieldLink RX6 9 "SlipCoach$Sheet" "count" "I") (by decide +kernel)) (fun _ h9 => h9) rfl (by decide +kernel) rfl rfl (Nat.le_of_ble_eq_true rfl) dX6_init_6 (fun H locs hP hD hS => ?_)
  have hP : va_P G.1 vwCl [(h0, .inr (6, [.int 0, .int 0, .null, .int 0]))] H := hP
  have hD : va_D A [(h0, .inr (6, [.int 0, .int 0, .null, .int 0]))] := hD
  refine lv_aload_n hx hb dX6_init_9 rfl (lv_at hl 0 rfl) ?_
  refine lv_iload_n hx hb dX6_init_10 rfl (lv_at hl 1 rfl) ?_
  refine va_putF (D := G.1) (ci := 6) (v := .int 4) (ty := .int) (C := RX6) (T := TX6) (N := 4) hx hb hts (fun w h => List.mem_cons_of_mem _ (List.mem_append_right _ h)) tyX6 tyX6_ok nmX6 hown hK hP hD hS 0 rfl rfl 0 (by decide) (hts (.fieldLink RX6 15 "SlipCoach$Sheet" "most" "I") (by decide +kernel)) (fun _ h9 => h9) rfl hin rfl (by decide +kernel) rfl rfl (Nat.le_of_ble_eq_true rfl) dX6_init_11 (fun H locs hP hD hS => ?_)
  have hP : va_P G.1 vwCl [(h0, .inr (6, [.int 4, .int 0, .null, .int 0]))] H := hP
  have hD : va_D A [(h0, .inr (6, [.int 4, .int 0, .null, .int 0]))] := hD
  refine lv_aload_n hx hb dX6_init_14 rfl (lv_at hl 0 rfl) ?_
  refine lv_iload_n hx hb dX6_init_15 rfl (lv_at hl 2 rfl) ?_
  refine va_putF (D := G.1) (ci := 6) (v := .int 5) (ty := .int) (C := RX6) (T := TX6) (N := 4) hx hb hts (fun w h => List.mem_cons_of_mem _ (List.mem_append_right _ h)) tyX6 tyX6_ok nmX6 hown hK hP hD hS 0 rfl rfl 1 (by decide) (hts (.fieldLink RX6 18 "SlipCoach$Sheet" "width" "I") (by decide +kernel)) (fun _ h9 => h9) rfl hin rfl (by decide +kernel) rfl rfl (Nat.le_of_ble_eq_true rfl) dX6_init_16 (fun H locs hP hD hS => ?_)
  have hP : va_P G.1 vwCl [(h0, .inr (6, [.int 4, .int 5, .null, .int 0]))] H := hP
  have hD : va_D A [(h0, .inr (6, [.int 4, .int 5, .null, .int 0]))] := hD
  refine lv_aload_n hx hb dX6_init_19 rfl (lv_at hl 0 rfl) ?_
  refine lv_iload_n hx hb dX6_init_20 rfl (lv_at hl 1 rfl) ?_
  refine lv_iload_n hx hb dX6_init_21 rfl (lv_at hl 2 rfl) ?_
  refine lv_imul hx hb dX6_init_22 ?_
  refine lv_cst (y := 20) (by decide) ?_
  refine wn_newa (atype := .int) (ty := .int) (n := 20) (N' := 20) (a0 := (20, .inl (fun _ => 0))) hx hb (hts (.arrayClass .int) (by decide +kernel)) rfl hK 0 rfl hP hD hS hA (fun _ => rfl) (by decide) (by decide) (by decide) (Nat.le_of_ble_eq_true rfl) (Nat.le_of_ble_eq_true rfl) dX6_init_23 (fun q1 H hP hD hS => ?_)
  have hP : va_P G.1 vwCl [(h0, .inr (6, [.int 4, .int 5, .null, .int 0])), (q1, .inl (G.2 0, 20, .inl (fun _ => 0)))] H := hP
  have hD : va_D A [(h0, .inr (6, [.int 4, .int 5, .null, .int 0])), (q1, .inl (G.2 0, 20, .inl (fun _ => 0)))] := hD
  refine W.widen (k := 1) (n := 20) (Nat.le_of_ble_eq_true rfl) (Nat.le_of_ble_eq_true rfl) ?_
  refine va_putF (D := G.1) (ci := 6) (v := .ref q1) (ty := (.array .int)) (C := RX6) (T := TX6) (N := 4) hx hb hts (fun w h => List.mem_cons_of_mem _ (List.mem_append_right _ h)) tyX6 tyX6_ok nmX6 hown hK hP hD hS 0 rfl rfl 2 (by decide) (hts (.fieldLink RX6 21 "SlipCoach$Sheet" "cells" "[I") (by decide +kernel)) (fun _ h9 => h9) rfl hin rfl (by decide +kernel) rfl rfl (Nat.le_of_ble_eq_true rfl) dX6_init_25 (fun H locs hP hD hS => ?_)
  have hP : va_P G.1 vwCl [(h0, .inr (6, [.int 4, .int 5, .ref q1, .int 0])), (q1, .inl (G.2 0, 20, .inl (fun _ => 0)))] H := hP
  have hD : va_D A [(h0, .inr (6, [.int 4, .int 5, .ref q1, .int 0])), (q1, .inl (G.2 0, 20, .inl (fun _ => 0)))] := hD
  refine W.widen (k := 1) (n := 20) (Nat.le_of_ble_eq_true rfl) (Nat.le_of_ble_eq_true rfl) ?_
  exact W.vret hx hb hr (fun t ht hW => ⟨⟨q1, rfl, trivial, ⟨by rw [ht]; exact hP.sub [0, 1] rfl, hD.sub [0, 1] (by decide +kernel) rfl⟩⟩, hS.F ht⟩) hS.2.2 dX6_init_28
set_option maxHeartbeats 4000000 in
set_option maxRecDepth 100000 in
theorem c_newSheet_5_3 (l : Launch) (G : KG) (h0 : Nat) (sz : Nat) : Met l yX6_init wsX6_init ({ frames := 1, cells := 1, slots := 15, locals := 20 }) (preQ G [.ref h0, .int 5, .int 3] sz [(h0, .inr (6, [.int 0, .int 0, .null, .int 0]))]) (va_Qv (fun (u : Nat) => True) (fun u t => atQ G (va_A [(h0, .inr (6, [.int 0, .int 0, .null, .int 0]))] sz) [(h0, .inr (6, [.int 5, .int 3, .ref u, .int 0])), (u, .inl (G.2 0, 15, .inl (fun _ => 0)))] t) (va_A [(h0, .inr (6, [.int 0, .int 0, .null, .int 0]))] sz)) 1 15 (va_A [(h0, .inr (6, [.int 0, .int 0, .null, .int 0]))] sz) := by
  refine Met.ofW (cc := cX6_init) (maxL := 3) (ret := none) (by decide) rfl ?_
  intro p e s m args below meth c s₁ B hml hv
  obtain ⟨rfl, hsz, hP, hKG, hD0⟩ := hv
  obtain ⟨hK, hAO⟩ := id hKG
  have hx := B.exec
  have hb := B.bytes
  have hr := B.returns
  have hts := atoms_spec (ws := wsX6_init) B.pre
  have hown : s.vm.findClass RX6 = some m.cls := findClass_of_methodNamed B.named
  have hlocks := B.notSynchronized
  have hin : meth.name = "<init>" := (name_of_methodNamed B.named B.method).1
  subst hsz
  have hD := hD0.self (sz := s.heap.size)
  generalize hAe : va_A [(h0, .inr (6, [.int 0, .int 0, .null, .int 0]))] s.heap.size = A at hD ⊢
  have hA : ∀ q : Nat, s.heap.size ≤ q → A q := fun q h => by rw [← hAe]; exact Or.inr h
  have hS : va_S A s.heap s.heap [] := va_S.rf
  have hl := lv_entry ([.ref h0, .int 5, .int 3]) (n := 3) (Nat.le_of_ble_eq_true rfl)
  rw [lg_entry_eq]
  generalize (lg_sl ([.ref h0, .int 5, .int 3]) ++ List.replicate (3 - (lg_sl ([.ref h0, .int 5, .int 3])).length) Slot.unset).toArray = ls at hl ⊢
  have hl : lv_has ls 3 [(0, .ref h0), (1, .int 5), (2, .int 3)] := hl
  refine lv_aload_n hx hb dX6_init_0 rfl (lv_at hl 0 rfl) ?_
  refine W.objInit hx hb hown (hts (.methodLink RX6 3 objectInit) (by decide +kernel)) (hts (.instanceMethod objectInit) (by decide +kernel)) (hts _ (List.mem_of_getElem? (i := 3) rfl)) rfl (by rw [hml]; exact hl.1) rfl dX6_init_1 (Nat.le_of_ble_eq_true rfl) (Nat.le_of_ble_eq_true rfl) ?_
  refine W.eq (g2 := F0 m 4 ls []) rfl ?_
  refine lv_aload_n hx hb dX6_init_4 rfl (lv_at hl 0 rfl) ?_
  refine lv_iconst (v := 0) hx hb dX6_init_5 (by decide) ?_
  refine va_put (D := G.1) (ci := 6) (v := .int 0) (ty := .int) (C := RX6) (T := TX6) (N := 4) hx hb hts (fun w h => List.mem_cons_of_mem _ (List.mem_append_right _ h)) tyX6 tyX6_ok nmX6 hown hK hP hD hS 0 rfl rfl 3 (by decide) (hts (.fieldLink RX6 9 "SlipCoach$Sheet" "count" "I") (by decide +kernel)) (fun _ h9 => h9) rfl (by decide +kernel) rfl rfl (Nat.le_of_ble_eq_true rfl) dX6_init_6 (fun H locs hP hD hS => ?_)
  have hP : va_P G.1 vwCl [(h0, .inr (6, [.int 0, .int 0, .null, .int 0]))] H := hP
  have hD : va_D A [(h0, .inr (6, [.int 0, .int 0, .null, .int 0]))] := hD
  refine lv_aload_n hx hb dX6_init_9 rfl (lv_at hl 0 rfl) ?_
  refine lv_iload_n hx hb dX6_init_10 rfl (lv_at hl 1 rfl) ?_
  refine va_putF (D := G.1) (ci := 6) (v := .int 5) (ty := .int) (C := RX6) (T := TX6) (N := 4) hx hb hts (fun w h => List.mem_cons_of_mem _ (List.mem_append_right _ h)) tyX6 tyX6_ok nmX6 hown hK hP hD hS 0 rfl rfl 0 (by decide) (hts (.fieldLink RX6 15 "SlipCoach$Sheet" "most" "I") (by decide +kernel)) (fun _ h9 => h9) rfl hin rfl (by decide +kernel) rfl rfl (Nat.le_of_ble_eq_true rfl) dX6_init_11 (fun H locs hP hD hS => ?_)
  have hP : va_P G.1 vwCl [(h0, .inr (6, [.int 5, .int 0, .null, .int 0]))] H := hP
  have hD : va_D A [(h0, .inr (6, [.int 5, .int 0, .null, .int 0]))] := hD
  refine lv_aload_n hx hb dX6_init_14 rfl (lv_at hl 0 rfl) ?_
  refine lv_iload_n hx hb dX6_init_15 rfl (lv_at hl 2 rfl) ?_
  refine va_putF (D := G.1) (ci := 6) (v := .int 3) (ty := .int) (C := RX6) (T := TX6) (N := 4) hx hb hts (fun w h => List.mem_cons_of_mem _ (List.mem_append_right _ h)) tyX6 tyX6_ok nmX6 hown hK hP hD hS 0 rfl rfl 1 (by decide) (hts (.fieldLink RX6 18 "SlipCoach$Sheet" "width" "I") (by decide +kernel)) (fun _ h9 => h9) rfl hin rfl (by decide +kernel) rfl rfl (Nat.le_of_ble_eq_true rfl) dX6_init_16 (fun H locs hP hD hS => ?_)
  have hP : va_P G.1 vwCl [(h0, .inr (6, [.int 5, .int 3, .null, .int 0]))] H := hP
  have hD : va_D A [(h0, .inr (6, [.int 5, .int 3, .null, .int 0]))] := hD
  refine lv_aload_n hx hb dX6_init_19 rfl (lv_at hl 0 rfl) ?_
  refine lv_iload_n hx hb dX6_init_20 rfl (lv_at hl 1 rfl) ?_
  refine lv_iload_n hx hb dX6_init_21 rfl (lv_at hl 2 rfl) ?_
  refine lv_imul hx hb dX6_init_22 ?_
  refine lv_cst (y := 15) (by decide) ?_
  refine wn_newa (atype := .int) (ty := .int) (n := 15) (N' := 15) (a0 := (15, .inl (fun _ => 0))) hx hb (hts (.arrayClass .int) (by decide +kernel)) rfl hK 0 rfl hP hD hS hA (fun _ => rfl) (by decide) (by decide) (by decide) (Nat.le_of_ble_eq_true rfl) (Nat.le_of_ble_eq_true rfl) dX6_init_23 (fun q1 H hP hD hS => ?_)
  have hP : va_P G.1 vwCl [(h0, .inr (6, [.int 5, .int 3, .null, .int 0])), (q1, .inl (G.2 0, 15, .inl (fun _ => 0)))] H := hP
  have hD : va_D A [(h0, .inr (6, [.int 5, .int 3, .null, .int 0])), (q1, .inl (G.2 0, 15, .inl (fun _ => 0)))] := hD
  refine W.widen (k := 1) (n := 15) (Nat.le_of_ble_eq_true rfl) (Nat.le_of_ble_eq_true rfl) ?_
  refine va_putF (D := G.1) (ci := 6) (v := .ref q1) (ty := (.array .int)) (C := RX6) (T := TX6) (N := 4) hx hb hts (fun w h => List.mem_cons_of_mem _ (List.mem_append_right _ h)) tyX6 tyX6_ok nmX6 hown hK hP hD hS 0 rfl rfl 2 (by decide) (hts (.fieldLink RX6 21 "SlipCoach$Sheet" "cells" "[I") (by decide +kernel)) (fun _ h9 => h9) rfl hin rfl (by decide +kernel) rfl rfl (Nat.le_of_ble_eq_true rfl) dX6_init_25 (fun H locs hP hD hS => ?_)
  have hP : va_P G.1 vwCl [(h0, .inr (6, [.int 5, .int 3, .ref q1, .int 0])), (q1, .inl (G.2 0, 15, .inl (fun _ => 0)))] H := hP
  have hD : va_D A [(h0, .inr (6, [.int 5, .int 3, .ref q1, .int 0])), (q1, .inl (G.2 0, 15, .inl (fun _ => 0)))] := hD
  refine W.widen (k := 1) (n := 15) (Nat.le_of_ble_eq_true rfl) (Nat.le_of_ble_eq_true rfl) ?_
  exact W.vret hx hb hr (fun t ht hW => ⟨⟨q1, rfl, trivial, ⟨by rw [ht]; exact hP.sub [0, 1] rfl, hD.sub [0, 1] (by decide +kernel) rfl⟩⟩, hS.F ht⟩) hS.2.2 dX6_init_28
set_option maxHeartbeats 4000000 in
set_option maxRecDepth 100000 in
theorem c_newSheet_6_2 (l : Launch) (G : KG) (h0 : Nat) (sz : Nat) : Met l yX6_init wsX6_init ({ frames := 1, cells := 1, slots := 12, locals := 20 }) (preQ G [.ref h0, .int 6, .int 2] sz [(h0, .inr (6, [.int 0, .int 0, .null, .int 0]))]) (va_Qv (fun (u : Nat) => True) (fun u t => atQ G (va_A [(h0, .inr (6, [.int 0, .int 0, .null, .int 0]))] sz) [(h0, .inr (6, [.int 6, .int 2, .ref u, .int 0])), (u, .inl (G.2 0, 12, .inl (fun _ => 0)))] t) (va_A [(h0, .inr (6, [.int 0, .int 0, .null, .int 0]))] sz)) 1 12 (va_A [(h0, .inr (6, [.int 0, .int 0, .null, .int 0]))] sz) := by
  refine Met.ofW (cc := cX6_init) (maxL := 3) (ret := none) (by decide) rfl ?_
  intro p e s m args below meth c s₁ B hml hv
  obtain ⟨rfl, hsz, hP, hKG, hD0⟩ := hv
  obtain ⟨hK, hAO⟩ := id hKG
  have hx := B.exec
  have hb := B.bytes
  have hr := B.returns
  have hts := atoms_spec (ws := wsX6_init) B.pre
  have hown : s.vm.findClass RX6 = some m.cls := findClass_of_methodNamed B.named
  have hlocks := B.notSynchronized
  have hin : meth.name = "<init>" := (name_of_methodNamed B.named B.method).1
  subst hsz
  have hD := hD0.self (sz := s.heap.size)
  generalize hAe : va_A [(h0, .inr (6, [.int 0, .int 0, .null, .int 0]))] s.heap.size = A at hD ⊢
  have hA : ∀ q : Nat, s.heap.size ≤ q → A q := fun q h => by rw [← hAe]; exact Or.inr h
  have hS : va_S A s.heap s.heap [] := va_S.rf
  have hl := lv_entry ([.ref h0, .int 6, .int 2]) (n := 3) (Nat.le_of_ble_eq_true rfl)
  rw [lg_entry_eq]
  generalize (lg_sl ([.ref h0, .int 6, .int 2]) ++ List.replicate (3 - (lg_sl ([.ref h0, .int 6, .int 2])).length) Slot.unset).toArray = ls at hl ⊢
  have hl : lv_has ls 3 [(0, .ref h0), (1, .int 6), (2, .int 2)] := hl
  refine lv_aload_n hx hb dX6_init_0 rfl (lv_at hl 0 rfl) ?_
  refine W.objInit hx hb hown (hts (.methodLink RX6 3 objectInit) (by decide +kernel)) (hts (.instanceMethod objectInit) (by decide +kernel)) (hts _ (List.mem_of_getElem? (i := 3) rfl)) rfl (by rw [hml]; exact hl.1) rfl dX6_init_1 (Nat.le_of_ble_eq_true rfl) (Nat.le_of_ble_eq_true rfl) ?_
  refine W.eq (g2 := F0 m 4 ls []) rfl ?_
  refine lv_aload_n hx hb dX6_init_4 rfl (lv_at hl 0 rfl) ?_
  refine lv_iconst (v := 0) hx hb dX6_init_5 (by decide) ?_
  refine va_put (D := G.1) (ci := 6) (v := .int 0) (ty := .int) (C := RX6) (T := TX6) (N := 4) hx hb hts (fun w h => List.mem_cons_of_mem _ (List.mem_append_right _ h)) tyX6 tyX6_ok nmX6 hown hK hP hD hS 0 rfl rfl 3 (by decide) (hts (.fieldLink RX6 9 "SlipCoach$Sheet" "count" "I") (by decide +kernel)) (fun _ h9 => h9) rfl (by decide +kernel) rfl rfl (Nat.le_of_ble_eq_true rfl) dX6_init_6 (fun H locs hP hD hS => ?_)
  have hP : va_P G.1 vwCl [(h0, .inr (6, [.int 0, .int 0, .null, .int 0]))] H := hP
  have hD : va_D A [(h0, .inr (6, [.int 0, .int 0, .null, .int 0]))] := hD
  refine lv_aload_n hx hb dX6_init_9 rfl (lv_at hl 0 rfl) ?_
  refine lv_iload_n hx hb dX6_init_10 rfl (lv_at hl 1 rfl) ?_
  refine va_putF (D := G.1) (ci := 6) (v := .int 6) (ty := .int) (C := RX6) (T := TX6) (N := 4) hx hb hts (fun w h => List.mem_cons_of_mem _ (List.mem_append_right _ h)) tyX6 tyX6_ok nmX6 hown hK hP hD hS 0 rfl rfl 0 (by decide) (hts (.fieldLink RX6 15 "SlipCoach$Sheet" "most" "I") (by decide +kernel)) (fun _ h9 => h9) rfl hin rfl (by decide +kernel) rfl rfl (Nat.le_of_ble_eq_true rfl) dX6_init_11 (fun H locs hP hD hS => ?_)
  have hP : va_P G.1 vwCl [(h0, .inr (6, [.int 6, .int 0, .null, .int 0]))] H := hP
  have hD : va_D A [(h0, .inr (6, [.int 6, .int 0, .null, .int 0]))] := hD
  refine lv_aload_n hx hb dX6_init_14 rfl (lv_at hl 0 rfl) ?_
  refine lv_iload_n hx hb dX6_init_15 rfl (lv_at hl 2 rfl) ?_
  refine va_putF (D := G.1) (ci := 6) (v := .int 2) (ty := .int) (C := RX6) (T := TX6) (N := 4) hx hb hts (fun w h => List.mem_cons_of_mem _ (List.mem_append_right _ h)) tyX6 tyX6_ok nmX6 hown hK hP hD hS 0 rfl rfl 1 (by decide) (hts (.fieldLink RX6 18 "SlipCoach$Sheet" "width" "I") (by decide +kernel)) (fun _ h9 => h9) rfl hin rfl (by decide +kernel) rfl rfl (Nat.le_of_ble_eq_true rfl) dX6_init_16 (fun H locs hP hD hS => ?_)
  have hP : va_P G.1 vwCl [(h0, .inr (6, [.int 6, .int 2, .null, .int 0]))] H := hP
  have hD : va_D A [(h0, .inr (6, [.int 6, .int 2, .null, .int 0]))] := hD
  refine lv_aload_n hx hb dX6_init_19 rfl (lv_at hl 0 rfl) ?_
  refine lv_iload_n hx hb dX6_init_20 rfl (lv_at hl 1 rfl) ?_
  refine lv_iload_n hx hb dX6_init_21 rfl (lv_at hl 2 rfl) ?_
  refine lv_imul hx hb dX6_init_22 ?_
  refine lv_cst (y := 12) (by decide) ?_
  refine wn_newa (atype := .int) (ty := .int) (n := 12) (N' := 12) (a0 := (12, .inl (fun _ => 0))) hx hb (hts (.arrayClass .int) (by decide +kernel)) rfl hK 0 rfl hP hD hS hA (fun _ => rfl) (by decide) (by decide) (by decide) (Nat.le_of_ble_eq_true rfl) (Nat.le_of_ble_eq_true rfl) dX6_init_23 (fun q1 H hP hD hS => ?_)
  have hP : va_P G.1 vwCl [(h0, .inr (6, [.int 6, .int 2, .null, .int 0])), (q1, .inl (G.2 0, 12, .inl (fun _ => 0)))] H := hP
  have hD : va_D A [(h0, .inr (6, [.int 6, .int 2, .null, .int 0])), (q1, .inl (G.2 0, 12, .inl (fun _ => 0)))] := hD
  refine W.widen (k := 1) (n := 12) (Nat.le_of_ble_eq_true rfl) (Nat.le_of_ble_eq_true rfl) ?_
  refine va_putF (D := G.1) (ci := 6) (v := .ref q1) (ty := (.array .int)) (C := RX6) (T := TX6) (N := 4) hx hb hts (fun w h => List.mem_cons_of_mem _ (List.mem_append_right _ h)) tyX6 tyX6_ok nmX6 hown hK hP hD hS 0 rfl rfl 2 (by decide) (hts (.fieldLink RX6 21 "SlipCoach$Sheet" "cells" "[I") (by decide +kernel)) (fun _ h9 => h9) rfl hin rfl (by decide +kernel) rfl rfl (Nat.le_of_ble_eq_true rfl) dX6_init_25 (fun H locs hP hD hS => ?_)
  have hP : va_P G.1 vwCl [(h0, .inr (6, [.int 6, .int 2, .ref q1, .int 0])), (q1, .inl (G.2 0, 12, .inl (fun _ => 0)))] H := hP
  have hD : va_D A [(h0, .inr (6, [.int 6, .int 2, .ref q1, .int 0])), (q1, .inl (G.2 0, 12, .inl (fun _ => 0)))] := hD
  refine W.widen (k := 1) (n := 12) (Nat.le_of_ble_eq_true rfl) (Nat.le_of_ble_eq_true rfl) ?_
  exact W.vret hx hb hr (fun t ht hW => ⟨⟨q1, rfl, trivial, ⟨by rw [ht]; exact hP.sub [0, 1] rfl, hD.sub [0, 1] (by decide +kernel) rfl⟩⟩, hS.F ht⟩) hS.2.2 dX6_init_28
set_option maxHeartbeats 4000000 in
set_option maxRecDepth 100000 in
theorem c_newSheet_6_3 (l : Launch) (G : KG) (h0 : Nat) (sz : Nat) : Met l yX6_init wsX6_init ({ frames := 1, cells := 1, slots := 18, locals := 20 }) (preQ G [.ref h0, .int 6, .int 3] sz [(h0, .inr (6, [.int 0, .int 0, .null, .int 0]))]) (va_Qv (fun (u : Nat) => True) (fun u t => atQ G (va_A [(h0, .inr (6, [.int 0, .int 0, .null, .int 0]))] sz) [(h0, .inr (6, [.int 6, .int 3, .ref u, .int 0])), (u, .inl (G.2 0, 18, .inl (fun _ => 0)))] t) (va_A [(h0, .inr (6, [.int 0, .int 0, .null, .int 0]))] sz)) 1 18 (va_A [(h0, .inr (6, [.int 0, .int 0, .null, .int 0]))] sz) := by
  refine Met.ofW (cc := cX6_init) (maxL := 3) (ret := none) (by decide) rfl ?_
  intro p e s m args below meth c s₁ B hml hv
  obtain ⟨rfl, hsz, hP, hKG, hD0⟩ := hv
  obtain ⟨hK, hAO⟩ := id hKG
  have hx := B.exec
  have hb := B.bytes
  have hr := B.returns
  have hts := atoms_spec (ws := wsX6_init) B.pre
  have hown : s.vm.findClass RX6 = some m.cls := findClass_of_methodNamed B.named
  have hlocks := B.notSynchronized
  have hin : meth.name = "<init>" := (name_of_methodNamed B.named B.method).1
  subst hsz
  have hD := hD0.self (sz := s.heap.size)
  generalize hAe : va_A [(h0, .inr (6, [.int 0, .int 0, .null, .int 0]))] s.heap.size = A at hD ⊢
  have hA : ∀ q : Nat, s.heap.size ≤ q → A q := fun q h => by rw [← hAe]; exact Or.inr h
  have hS : va_S A s.heap s.heap [] := va_S.rf
  have hl := lv_entry ([.ref h0, .int 6, .int 3]) (n := 3) (Nat.le_of_ble_eq_true rfl)
  rw [lg_entry_eq]
  generalize (lg_sl ([.ref h0, .int 6, .int 3]) ++ List.replicate (3 - (lg_sl ([.ref h0, .int 6, .int 3])).length) Slot.unset).toArray = ls at hl ⊢
  have hl : lv_has ls 3 [(0, .ref h0), (1, .int 6), (2, .int 3)] := hl
  refine lv_aload_n hx hb dX6_init_0 rfl (lv_at hl 0 rfl) ?_
  refine W.objInit hx hb hown (hts (.methodLink RX6 3 objectInit) (by decide +kernel)) (hts (.instanceMethod objectInit) (by decide +kernel)) (hts _ (List.mem_of_getElem? (i := 3) rfl)) rfl (by rw [hml]; exact hl.1) rfl dX6_init_1 (Nat.le_of_ble_eq_true rfl) (Nat.le_of_ble_eq_true rfl) ?_
  refine W.eq (g2 := F0 m 4 ls []) rfl ?_
  refine lv_aload_n hx hb dX6_init_4 rfl (lv_at hl 0 rfl) ?_
  refine lv_iconst (v := 0) hx hb dX6_init_5 (by decide) ?_
  refine va_put (D := G.1) (ci := 6) (v := .int 0) (ty := .int) (C := RX6) (T := TX6) (N := 4) hx hb hts (fun w h => List.mem_cons_of_mem _ (List.mem_append_right _ h)) tyX6 tyX6_ok nmX6 hown hK hP hD hS 0 rfl rfl 3 (by decide) (hts (.fieldLink RX6 9 "SlipCoach$Sheet" "count" "I") (by decide +kernel)) (fun _ h9 => h9) rfl (by decide +kernel) rfl rfl (Nat.le_of_ble_eq_true rfl) dX6_init_6 (fun H locs hP hD hS => ?_)
  have hP : va_P G.1 vwCl [(h0, .inr (6, [.int 0, .int 0, .null, .int 0]))] H := hP
  have hD : va_D A [(h0, .inr (6, [.int 0, .int 0, .null, .int 0]))] := hD
  refine lv_aload_n hx hb dX6_init_9 rfl (lv_at hl 0 rfl) ?_
  refine lv_iload_n hx hb dX6_init_10 rfl (lv_at hl 1 rfl) ?_
  refine va_putF (D := G.1) (ci := 6) (v := .int 6) (ty := .int) (C := RX6) (T := TX6) (N := 4) hx hb hts (fun w h => List.mem_cons_of_mem _ (List.mem_append_right _ h)) tyX6 tyX6_ok nmX6 hown hK hP hD hS 0 rfl rfl 0 (by decide) (hts (.fieldLink RX6 15 "SlipCoach$Sheet" "most" "I") (by decide +kernel)) (fun _ h9 => h9) rfl hin rfl (by decide +kernel) rfl rfl (Nat.le_of_ble_eq_true rfl) dX6_init_11 (fun H locs hP hD hS => ?_)
  have hP : va_P G.1 vwCl [(h0, .inr (6, [.int 6, .int 0, .null, .int 0]))] H := hP
  have hD : va_D A [(h0, .inr (6, [.int 6, .int 0, .null, .int 0]))] := hD
  refine lv_aload_n hx hb dX6_init_14 rfl (lv_at hl 0 rfl) ?_
  refine lv_iload_n hx hb dX6_init_15 rfl (lv_at hl 2 rfl) ?_
  refine va_putF (D := G.1) (ci := 6) (v := .int 3) (ty := .int) (C := RX6) (T := TX6) (N := 4) hx hb hts (fun w h => List.mem_cons_of_mem _ (List.mem_append_right _ h)) tyX6 tyX6_ok nmX6 hown hK hP hD hS 0 rfl rfl 1 (by decide) (hts (.fieldLink RX6 18 "SlipCoach$Sheet" "width" "I") (by decide +kernel)) (fun _ h9 => h9) rfl hin rfl (by decide +kernel) rfl rfl (Nat.le_of_ble_eq_true rfl) dX6_init_16 (fun H locs hP hD hS => ?_)
  have hP : va_P G.1 vwCl [(h0, .inr (6, [.int 6, .int 3, .null, .int 0]))] H := hP
  have hD : va_D A [(h0, .inr (6, [.int 6, .int 3, .null, .int 0]))] := hD
  refine lv_aload_n hx hb dX6_init_19 rfl (lv_at hl 0 rfl) ?_
  refine lv_iload_n hx hb dX6_init_20 rfl (lv_at hl 1 rfl) ?_
  refine lv_iload_n hx hb dX6_init_21 rfl (lv_at hl 2 rfl) ?_
  refine lv_imul hx hb dX6_init_22 ?_
  refine lv_cst (y := 18) (by decide) ?_
  refine wn_newa (atype := .int) (ty := .int) (n := 18) (N' := 18) (a0 := (18, .inl (fun _ => 0))) hx hb (hts (.arrayClass .int) (by decide +kernel)) rfl hK 0 rfl hP hD hS hA (fun _ => rfl) (by decide) (by decide) (by decide) (Nat.le_of_ble_eq_true rfl) (Nat.le_of_ble_eq_true rfl) dX6_init_23 (fun q1 H hP hD hS => ?_)
  have hP : va_P G.1 vwCl [(h0, .inr (6, [.int 6, .int 3, .null, .int 0])), (q1, .inl (G.2 0, 18, .inl (fun _ => 0)))] H := hP
  have hD : va_D A [(h0, .inr (6, [.int 6, .int 3, .null, .int 0])), (q1, .inl (G.2 0, 18, .inl (fun _ => 0)))] := hD
  refine W.widen (k := 1) (n := 18) (Nat.le_of_ble_eq_true rfl) (Nat.le_of_ble_eq_true rfl) ?_
  refine va_putF (D := G.1) (ci := 6) (v := .ref q1) (ty := (.array .int)) (C := RX6) (T := TX6) (N := 4) hx hb hts (fun w h => List.mem_cons_of_mem _ (List.mem_append_right _ h)) tyX6 tyX6_ok nmX6 hown hK hP hD hS 0 rfl rfl 2 (by decide) (hts (.fieldLink RX6 21 "SlipCoach$Sheet" "cells" "[I") (by decide +kernel)) (fun _ h9 => h9) rfl hin rfl (by decide +kernel) rfl rfl (Nat.le_of_ble_eq_true rfl) dX6_init_25 (fun H locs hP hD hS => ?_)
  have hP : va_P G.1 vwCl [(h0, .inr (6, [.int 6, .int 3, .ref q1, .int 0])), (q1, .inl (G.2 0, 18, .inl (fun _ => 0)))] H := hP
  have hD : va_D A [(h0, .inr (6, [.int 6, .int 3, .ref q1, .int 0])), (q1, .inl (G.2 0, 18, .inl (fun _ => 0)))] := hD
  refine W.widen (k := 1) (n := 18) (Nat.le_of_ble_eq_true rfl) (Nat.le_of_ble_eq_true rfl) ?_
  exact W.vret hx hb hr (fun t ht hW => ⟨⟨q1, rfl, trivial, ⟨by rw [ht]; exact hP.sub [0, 1] rfl, hD.sub [0, 1] (by decide +kernel) rfl⟩⟩, hS.F ht⟩) hS.2.2 dX6_init_28
set_option maxHeartbeats 4000000 in
set_option maxRecDepth 100000 in
theorem c_newSheet_8_2 (l : Launch) (G : KG) (h0 : Nat) (sz : Nat) : Met l yX6_init wsX6_init ({ frames := 1, cells := 1, slots := 16, locals := 20 }) (preQ G [.ref h0, .int 8, .int 2] sz [(h0, .inr (6, [.int 0, .int 0, .null, .int 0]))]) (va_Qv (fun (u : Nat) => True) (fun u t => atQ G (va_A [(h0, .inr (6, [.int 0, .int 0, .null, .int 0]))] sz) [(h0, .inr (6, [.int 8, .int 2, .ref u, .int 0])), (u, .inl (G.2 0, 16, .inl (fun _ => 0)))] t) (va_A [(h0, .inr (6, [.int 0, .int 0, .null, .int 0]))] sz)) 1 16 (va_A [(h0, .inr (6, [.int 0, .int 0, .null, .int 0]))] sz) := by
  refine Met.ofW (cc := cX6_init) (maxL := 3) (ret := none) (by decide) rfl ?_
  intro p e s m args below meth c s₁ B hml hv
  obtain ⟨rfl, hsz, hP, hKG, hD0⟩ := hv
  obtain ⟨hK, hAO⟩ := id hKG
  have hx := B.exec
  have hb := B.bytes
  have hr := B.returns
  have hts := atoms_spec (ws := wsX6_init) B.pre
  have hown : s.vm.findClass RX6 = some m.cls := findClass_of_methodNamed B.named
  have hlocks := B.notSynchronized
  have hin : meth.name = "<init>" := (name_of_methodNamed B.named B.method).1
  subst hsz
  have hD := hD0.self (sz := s.heap.size)
  generalize hAe : va_A [(h0, .inr (6, [.int 0, .int 0, .null, .int 0]))] s.heap.size = A at hD ⊢
  have hA : ∀ q : Nat, s.heap.size ≤ q → A q := fun q h => by rw [← hAe]; exact Or.inr h
  have hS : va_S A s.heap s.heap [] := va_S.rf
  have hl := lv_entry ([.ref h0, .int 8, .int 2]) (n := 3) (Nat.le_of_ble_eq_true rfl)
  rw [lg_entry_eq]
  generalize (lg_sl ([.ref h0, .int 8, .int 2]) ++ List.replicate (3 - (lg_sl ([.ref h0, .int 8, .int 2])).length) Slot.unset).toArray = ls at hl ⊢
  have hl : lv_has ls 3 [(0, .ref h0), (1, .int 8), (2, .int 2)] := hl
  refine lv_aload_n hx hb dX6_init_0 rfl (lv_at hl 0 rfl) ?_
  refine W.objInit hx hb hown (hts (.methodLink RX6 3 objectInit) (by decide +kernel)) (hts (.instanceMethod objectInit) (by decide +kernel)) (hts _ (List.mem_of_getElem? (i := 3) rfl)) rfl (by rw [hml]; exact hl.1) rfl dX6_init_1 (Nat.le_of_ble_eq_true rfl) (Nat.le_of_ble_eq_true rfl) ?_
  refine W.eq (g2 := F0 m 4 ls []) rfl ?_
  refine lv_aload_n hx hb dX6_init_4 rfl (lv_at hl 0 rfl) ?_
  refine lv_iconst (v := 0) hx hb dX6_init_5 (by decide) ?_
  refine va_put (D := G.1) (ci := 6) (v := .int 0) (ty := .int) (C := RX6) (T := TX6) (N := 4) hx hb hts (fun w h => List.mem_cons_of_mem _ (List.mem_append_right _ h)) tyX6 tyX6_ok nmX6 hown hK hP hD hS 0 rfl rfl 3 (by decide) (hts (.fieldLink RX6 9 "SlipCoach$Sheet" "count" "I") (by decide +kernel)) (fun _ h9 => h9) rfl (by decide +kernel) rfl rfl (Nat.le_of_ble_eq_true rfl) dX6_init_6 (fun H locs hP hD hS => ?_)
  have hP : va_P G.1 vwCl [(h0, .inr (6, [.int 0, .int 0, .null, .int 0]))] H := hP
  have hD : va_D A [(h0, .inr (6, [.int 0, .int 0, .null, .int 0]))] := hD
  refine lv_aload_n hx hb dX6_init_9 rfl (lv_at hl 0 rfl) ?_
  refine lv_iload_n hx hb dX6_init_10 rfl (lv_at hl 1 rfl) ?_
  refine va_putF (D := G.1) (ci := 6) (v := .int 8) (ty := .int) (C := RX6) (T := TX6) (N := 4) hx hb hts (fun w h => List.mem_cons_of_mem _ (List.mem_append_right _ h)) tyX6 tyX6_ok nmX6 hown hK hP hD hS 0 rfl rfl 0 (by decide) (hts (.fieldLink RX6 15 "SlipCoach$Sheet" "most" "I") (by decide +kernel)) (fun _ h9 => h9) rfl hin rfl (by decide +kernel) rfl rfl (Nat.le_of_ble_eq_true rfl) dX6_init_11 (fun H locs hP hD hS => ?_)
  have hP : va_P G.1 vwCl [(h0, .inr (6, [.int 8, .int 0, .null, .int 0]))] H := hP
  have hD : va_D A [(h0, .inr (6, [.int 8, .int 0, .null, .int 0]))] := hD
  refine lv_aload_n hx hb dX6_init_14 rfl (lv_at hl 0 rfl) ?_
  refine lv_iload_n hx hb dX6_init_15 rfl (lv_at hl 2 rfl) ?_
  refine va_putF (D := G.1) (ci := 6) (v := .int 2) (ty := .int) (C := RX6) (T := TX6) (N := 4) hx hb hts (fun w h => List.mem_cons_of_mem _ (List.mem_append_right _ h)) tyX6 tyX6_ok nmX6 hown hK hP hD hS 0 rfl rfl 1 (by decide) (hts (.fieldLink RX6 18 "SlipCoach$Sheet" "width" "I") (by decide +kernel)) (fun _ h9 => h9) rfl hin rfl (by decide +kernel) rfl rfl (Nat.le_of_ble_eq_true rfl) dX6_init_16 (fun H locs hP hD hS => ?_)
  have hP : va_P G.1 vwCl [(h0, .inr (6, [.int 8, .int 2, .null, .int 0]))] H := hP
  have hD : va_D A [(h0, .inr (6, [.int 8, .int 2, .null, .int 0]))] := hD
  refine lv_aload_n hx hb dX6_init_19 rfl (lv_at hl 0 rfl) ?_
  refine lv_iload_n hx hb dX6_init_20 rfl (lv_at hl 1 rfl) ?_
  refine lv_iload_n hx hb dX6_init_21 rfl (lv_at hl 2 rfl) ?_
  refine lv_imul hx hb dX6_init_22 ?_
  refine lv_cst (y := 16) (by decide) ?_
  refine wn_newa (atype := .int) (ty := .int) (n := 16) (N' := 16) (a0 := (16, .inl (fun _ => 0))) hx hb (hts (.arrayClass .int) (by decide +kernel)) rfl hK 0 rfl hP hD hS hA (fun _ => rfl) (by decide) (by decide) (by decide) (Nat.le_of_ble_eq_true rfl) (Nat.le_of_ble_eq_true rfl) dX6_init_23 (fun q1 H hP hD hS => ?_)
  have hP : va_P G.1 vwCl [(h0, .inr (6, [.int 8, .int 2, .null, .int 0])), (q1, .inl (G.2 0, 16, .inl (fun _ => 0)))] H := hP
  have hD : va_D A [(h0, .inr (6, [.int 8, .int 2, .null, .int 0])), (q1, .inl (G.2 0, 16, .inl (fun _ => 0)))] := hD
  refine W.widen (k := 1) (n := 16) (Nat.le_of_ble_eq_true rfl) (Nat.le_of_ble_eq_true rfl) ?_
  refine va_putF (D := G.1) (ci := 6) (v := .ref q1) (ty := (.array .int)) (C := RX6) (T := TX6) (N := 4) hx hb hts (fun w h => List.mem_cons_of_mem _ (List.mem_append_right _ h)) tyX6 tyX6_ok nmX6 hown hK hP hD hS 0 rfl rfl 2 (by decide) (hts (.fieldLink RX6 21 "SlipCoach$Sheet" "cells" "[I") (by decide +kernel)) (fun _ h9 => h9) rfl hin rfl (by decide +kernel) rfl rfl (Nat.le_of_ble_eq_true rfl) dX6_init_25 (fun H locs hP hD hS => ?_)
  have hP : va_P G.1 vwCl [(h0, .inr (6, [.int 8, .int 2, .ref q1, .int 0])), (q1, .inl (G.2 0, 16, .inl (fun _ => 0)))] H := hP
  have hD : va_D A [(h0, .inr (6, [.int 8, .int 2, .ref q1, .int 0])), (q1, .inl (G.2 0, 16, .inl (fun _ => 0)))] := hD
  refine W.widen (k := 1) (n := 16) (Nat.le_of_ble_eq_true rfl) (Nat.le_of_ble_eq_true rfl) ?_
  exact W.vret hx hb hr (fun t ht hW => ⟨⟨q1, rfl, trivial, ⟨by rw [ht]; exact hP.sub [0, 1] rfl, hD.sub [0, 1] (by decide +kernel) rfl⟩⟩, hS.F ht⟩) hS.2.2 dX6_init_28
set_option maxHeartbeats 4000000 in
set_option maxRecDepth 100000 in
theorem c_newSheet_16_5 (l : Launch) (G : KG) (h0 : Nat) (sz : Nat) : Met l yX6_init wsX6_init ({ frames := 1, cells := 1, slots := 80, locals := 20 }) (preQ G [.ref h0, .int 16, .int 5] sz [(h0, .inr (6, [.int 0, .int 0, .null, .int 0]))]) (va_Qv (fun (u : Nat) => True) (fun u t => atQ G (va_A [(h0, .inr (6, [.int 0, .int 0, .null, .int 0]))] sz) [(h0, .inr (6, [.int 16, .int 5, .ref u, .int 0])), (u, .inl (G.2 0, 80, .inl (fun _ => 0)))] t) (va_A [(h0, .inr (6, [.int 0, .int 0, .null, .int 0]))] sz)) 1 80 (va_A [(h0, .inr (6, [.int 0, .int 0, .null, .int 0]))] sz) := by
  refine Met.ofW (cc := cX6_init) (maxL := 3) (ret := none) (by decide) rfl ?_
  intro p e s m args below meth c s₁ B hml hv
  obtain ⟨rfl, hsz, hP, hKG, hD0⟩ := hv
  obtain ⟨hK, hAO⟩ := id hKG
  have hx := B.exec
  have hb := B.bytes
  have hr := B.returns
  have hts := atoms_spec (ws := wsX6_init) B.pre
  have hown : s.vm.findClass RX6 = some m.cls := findClass_of_methodNamed B.named
  have hlocks := B.notSynchronized
  have hin : meth.name = "<init>" := (name_of_methodNamed B.named B.method).1
  subst hsz
  have hD := hD0.self (sz := s.heap.size)
  generalize hAe : va_A [(h0, .inr (6, [.int 0, .int 0, .null, .int 0]))] s.heap.size = A at hD ⊢
  have hA : ∀ q : Nat, s.heap.size ≤ q → A q := fun q h => by rw [← hAe]; exact Or.inr h
  have hS : va_S A s.heap s.heap [] := va_S.rf
  have hl := lv_entry ([.ref h0, .int 16, .int 5]) (n := 3) (Nat.le_of_ble_eq_true rfl)
  rw [lg_entry_eq]
  generalize (lg_sl ([.ref h0, .int 16, .int 5]) ++ List.replicate (3 - (lg_sl ([.ref h0, .int 16, .int 5])).length) Slot.unset).toArray = ls at hl ⊢
  have hl : lv_has ls 3 [(0, .ref h0), (1, .int 16), (2, .int 5)] := hl
  refine lv_aload_n hx hb dX6_init_0 rfl (lv_at hl 0 rfl) ?_
  refine W.objInit hx hb hown (hts (.methodLink RX6 3 objectInit) (by decide +kernel)) (hts (.instanceMethod objectInit) (by decide +kernel)) (hts _ (List.mem_of_getElem? (i := 3) rfl)) rfl (by rw [hml]; exact hl.1) rfl dX6_init_1 (Nat.le_of_ble_eq_true rfl) (Nat.le_of_ble_eq_true rfl) ?_
  refine W.eq (g2 := F0 m 4 ls []) rfl ?_
  refine lv_aload_n hx hb dX6_init_4 rfl (lv_at hl 0 rfl) ?_
  refine lv_iconst (v := 0) hx hb dX6_init_5 (by decide) ?_
  refine va_put (D := G.1) (ci := 6) (v := .int 0) (ty := .int) (C := RX6) (T := TX6) (N := 4) hx hb hts (fun w h => List.mem_cons_of_mem _ (List.mem_append_right _ h)) tyX6 tyX6_ok nmX6 hown hK hP hD hS 0 rfl rfl 3 (by decide) (hts (.fieldLink RX6 9 "SlipCoach$Sheet" "count" "I") (by decide +kernel)) (fun _ h9 => h9) rfl (by decide +kernel) rfl rfl (Nat.le_of_ble_eq_true rfl) dX6_init_6 (fun H locs hP hD hS => ?_)
  have hP : va_P G.1 vwCl [(h0, .inr (6, [.int 0, .int 0, .null, .int 0]))] H := hP
  have hD : va_D A [(h0, .inr (6, [.int 0, .int 0, .null, .int 0]))] := hD
  refine lv_aload_n hx hb dX6_init_9 rfl (lv_at hl 0 rfl) ?_
  refine lv_iload_n hx hb dX6_init_10 rfl (lv_at hl 1 rfl) ?_
  refine va_putF (D := G.1) (ci := 6) (v := .int 16) (ty := .int) (C := RX6) (T := TX6) (N := 4) hx hb hts (fun w h => List.mem_cons_of_mem _ (List.mem_append_right _ h)) tyX6 tyX6_ok nmX6 hown hK hP hD hS 0 rfl rfl 0 (by decide) (hts (.fieldLink RX6 15 "SlipCoach$Sheet" "most" "I") (by decide +kernel)) (fun _ h9 => h9) rfl hin rfl (by decide +kernel) rfl rfl (Nat.le_of_ble_eq_true rfl) dX6_init_11 (fun H locs hP hD hS => ?_)
  have hP : va_P G.1 vwCl [(h0, .inr (6, [.int 16, .int 0, .null, .int 0]))] H := hP
  have hD : va_D A [(h0, .inr (6, [.int 16, .int 0, .null, .int 0]))] := hD
  refine lv_aload_n hx hb dX6_init_14 rfl (lv_at hl 0 rfl) ?_
  refine lv_iload_n hx hb dX6_init_15 rfl (lv_at hl 2 rfl) ?_
  refine va_putF (D := G.1) (ci := 6) (v := .int 5) (ty := .int) (C := RX6) (T := TX6) (N := 4) hx hb hts (fun w h => List.mem_cons_of_mem _ (List.mem_append_right _ h)) tyX6 tyX6_ok nmX6 hown hK hP hD hS 0 rfl rfl 1 (by decide) (hts (.fieldLink RX6 18 "SlipCoach$Sheet" "width" "I") (by decide +kernel)) (fun _ h9 => h9) rfl hin rfl (by decide +kernel) rfl rfl (Nat.le_of_ble_eq_true rfl) dX6_init_16 (fun H locs hP hD hS => ?_)
  have hP : va_P G.1 vwCl [(h0, .inr (6, [.int 16, .int 5, .null, .int 0]))] H := hP
  have hD : va_D A [(h0, .inr (6, [.int 16, .int 5, .null, .int 0]))] := hD
  refine lv_aload_n hx hb dX6_init_19 rfl (lv_at hl 0 rfl) ?_
  refine lv_iload_n hx hb dX6_init_20 rfl (lv_at hl 1 rfl) ?_
  refine lv_iload_n hx hb dX6_init_21 rfl (lv_at hl 2 rfl) ?_
  refine lv_imul hx hb dX6_init_22 ?_
  refine lv_cst (y := 80) (by decide) ?_
  refine wn_newa (atype := .int) (ty := .int) (n := 80) (N' := 80) (a0 := (80, .inl (fun _ => 0))) hx hb (hts (.arrayClass .int) (by decide +kernel)) rfl hK 0 rfl hP hD hS hA (fun _ => rfl) (by decide) (by decide) (by decide) (Nat.le_of_ble_eq_true rfl) (Nat.le_of_ble_eq_true rfl) dX6_init_23 (fun q1 H hP hD hS => ?_)
  have hP : va_P G.1 vwCl [(h0, .inr (6, [.int 16, .int 5, .null, .int 0])), (q1, .inl (G.2 0, 80, .inl (fun _ => 0)))] H := hP
  have hD : va_D A [(h0, .inr (6, [.int 16, .int 5, .null, .int 0])), (q1, .inl (G.2 0, 80, .inl (fun _ => 0)))] := hD
  refine W.widen (k := 1) (n := 80) (Nat.le_of_ble_eq_true rfl) (Nat.le_of_ble_eq_true rfl) ?_
  refine va_putF (D := G.1) (ci := 6) (v := .ref q1) (ty := (.array .int)) (C := RX6) (T := TX6) (N := 4) hx hb hts (fun w h => List.mem_cons_of_mem _ (List.mem_append_right _ h)) tyX6 tyX6_ok nmX6 hown hK hP hD hS 0 rfl rfl 2 (by decide) (hts (.fieldLink RX6 21 "SlipCoach$Sheet" "cells" "[I") (by decide +kernel)) (fun _ h9 => h9) rfl hin rfl (by decide +kernel) rfl rfl (Nat.le_of_ble_eq_true rfl) dX6_init_25 (fun H locs hP hD hS => ?_)
  have hP : va_P G.1 vwCl [(h0, .inr (6, [.int 16, .int 5, .ref q1, .int 0])), (q1, .inl (G.2 0, 80, .inl (fun _ => 0)))] H := hP
  have hD : va_D A [(h0, .inr (6, [.int 16, .int 5, .ref q1, .int 0])), (q1, .inl (G.2 0, 80, .inl (fun _ => 0)))] := hD
  refine W.widen (k := 1) (n := 80) (Nat.le_of_ble_eq_true rfl) (Nat.le_of_ble_eq_true rfl) ?_
  exact W.vret hx hb hr (fun t ht hW => ⟨⟨q1, rfl, trivial, ⟨by rw [ht]; exact hP.sub [0, 1] rfl, hD.sub [0, 1] (by decide +kernel) rfl⟩⟩, hS.F ht⟩) hS.2.2 dX6_init_28
set_option maxHeartbeats 4000000 in
set_option maxRecDepth 100000 in
theorem c_newLine (l : Launch) (G : KG) (ln : Nat) (sz : Nat) : Met l yX3_init wsX3_init ({ frames := 2, cells := 14, slots := 201, locals := 42 }) (preQ G [.ref ln] sz [(ln, .inr (3, [.int 0, .int 0, .null, .null, .null, .null, .null, .null, .null]))]) (va_Qv (fun (u : Nat × Nat × Nat × Nat × Nat × Nat × Nat × Nat × Nat × Nat × Nat × Nat × Nat × Nat) => True) (fun u t => atQ G (va_A [(ln, .inr (3, [.int 0, .int 0, .null, .null, .null, .null, .null, .null, .null]))] sz) [(ln, .inr (3, [.int 0, .int 0, .ref u.1, .ref u.2.1, .ref u.2.2.1, .ref u.2.2.2.1, .ref u.2.2.2.2.1, .ref u.2.2.2.2.2.1, .ref u.2.2.2.2.2.2.1])), (u.1, .inr (6, [.int 8, .int 2, .ref u.2.2.2.2.2.2.2.1, .int 0])), (u.2.1, .inr (6, [.int 6, .int 3, .ref u.2.2.2.2.2.2.2.2.1, .int 0])), (u.2.2.1, .inr (6, [.int 6, .int 2, .ref u.2.2.2.2.2.2.2.2.2.1, .int 0])), (u.2.2.2.1, .inr (6, [.int 6, .int 2, .ref u.2.2.2.2.2.2.2.2.2.2.1, .int 0])), (u.2.2.2.2.1, .inr (6, [.int 4, .int 5, .ref u.2.2.2.2.2.2.2.2.2.2.2.1, .int 0])), (u.2.2.2.2.2.1, .inr (6, [.int 5, .int 3, .ref u.2.2.2.2.2.2.2.2.2.2.2.2.1, .int 0])), (u.2.2.2.2.2.2.1, .inr (6, [.int 16, .int 5, .ref u.2.2.2.2.2.2.2.2.2.2.2.2.2, .int 0])), (u.2.2.2.2.2.2.2.1, .inl (G.2 0, 16, .inl (fun _ => 0))), (u.2.2.2.2.2.2.2.2.1, .inl (G.2 0, 18, .inl (fun _ => 0))), (u.2.2.2.2.2.2.2.2.2.1, .inl (G.2 0, 12, .inl (fun _ => 0))), (u.2.2.2.2.2.2.2.2.2.2.1, .inl (G.2 0, 12, .inl (fun _ => 0))), (u.2.2.2.2.2.2.2.2.2.2.2.1, .inl (G.2 0, 20, .inl (fun _ => 0))), (u.2.2.2.2.2.2.2.2.2.2.2.2.1, .inl (G.2 0, 15, .inl (fun _ => 0))), (u.2.2.2.2.2.2.2.2.2.2.2.2.2, .inl (G.2 0, 80, .inl (fun _ => 0)))] t) (va_A [(ln, .inr (3, [.int 0, .int 0, .null, .null, .null, .null, .null, .null, .null]))] sz)) 14 201 (va_A [(ln, .inr (3, [.int 0, .int 0, .null, .null, .null, .null, .null, .null, .null]))] sz) := by
  refine Met.ofW (cc := cX3_init) (maxL := 1) (ret := none) (by decide) rfl ?_
  intro p e s m args below meth c s₁ B hml hv
  obtain ⟨rfl, hsz, hP, hKG, hD0⟩ := hv
  obtain ⟨hK, hAO⟩ := id hKG
  have hx := B.exec
  have hb := B.bytes
  have hr := B.returns
  have hts := atoms_spec (ws := wsX3_init) B.pre
  have hown : s.vm.findClass RX3 = some m.cls := findClass_of_methodNamed B.named
  have hlocks := B.notSynchronized
  have hin : meth.name = "<init>" := (name_of_methodNamed B.named B.method).1
  subst hsz
  have hD := hD0.self (sz := s.heap.size)
  generalize hAe : va_A [(ln, .inr (3, [.int 0, .int 0, .null, .null, .null, .null, .null, .null, .null]))] s.heap.size = A at hD ⊢
  have hA : ∀ q : Nat, s.heap.size ≤ q → A q := fun q h => by rw [← hAe]; exact Or.inr h
  have hS : va_S A s.heap s.heap [] := va_S.rf
  have hl := lv_entry ([.ref ln]) (n := 1) (Nat.le_of_ble_eq_true rfl)
  rw [lg_entry_eq]
  generalize (lg_sl ([.ref ln]) ++ List.replicate (1 - (lg_sl ([.ref ln])).length) Slot.unset).toArray = ls at hl ⊢
  have hl : lv_has ls 1 [(0, .ref ln)] := hl
  refine lv_aload_n hx hb dX3_init_0 rfl (lv_at hl 0 rfl) ?_
  refine W.objInit hx hb hown (hts (.methodLink RX3 3 objectInit) (by decide +kernel)) (hts (.instanceMethod objectInit) (by decide +kernel)) (hts _ (List.mem_of_getElem? (i := 3) rfl)) rfl (by rw [hml]; exact hl.1) rfl dX3_init_1 (Nat.le_of_ble_eq_true rfl) (Nat.le_of_ble_eq_true rfl) ?_
  refine W.eq (g2 := F0 m 4 ls []) rfl ?_
  refine lv_aload_n hx hb dX3_init_4 rfl (lv_at hl 0 rfl) ?_
  refine lv_iconst (v := 0) hx hb dX3_init_5 (by decide) ?_
  refine va_put (D := G.1) (ci := 3) (v := .int 0) (ty := .int) (C := RX3) (T := TX3) (N := 9) hx hb hts (fun w h => List.mem_cons_of_mem _ (List.mem_append_left _ (List.mem_append_right _ h))) tyX3 tyX3_ok nmX3 hown hK hP hD hS 0 rfl rfl 0 (by decide) (hts (.fieldLink RX3 9 "SlipCoach$Line" "length" "I") (by decide +kernel)) (fun _ h9 => h9) rfl (by decide +kernel) rfl rfl (Nat.le_of_ble_eq_true rfl) dX3_init_6 (fun H locs hP hD hS => ?_)
  have hP : va_P G.1 vwCl [(ln, .inr (3, [.int 0, .int 0, .null, .null, .null, .null, .null, .null, .null]))] H := hP
  have hD : va_D A [(ln, .inr (3, [.int 0, .int 0, .null, .null, .null, .null, .null, .null, .null]))] := hD
  refine lv_aload_n hx hb dX3_init_9 rfl (lv_at hl 0 rfl) ?_
  refine lv_iconst (v := 0) hx hb dX3_init_10 (by decide) ?_
  refine va_put (D := G.1) (ci := 3) (v := .int 0) (ty := .int) (C := RX3) (T := TX3) (N := 9) hx hb hts (fun w h => List.mem_cons_of_mem _ (List.mem_append_left _ (List.mem_append_right _ h))) tyX3 tyX3_ok nmX3 hown hK hP hD hS 0 rfl rfl 1 (by decide) (hts (.fieldLink RX3 15 "SlipCoach$Line" "lines" "I") (by decide +kernel)) (fun _ h9 => h9) rfl (by decide +kernel) rfl rfl (Nat.le_of_ble_eq_true rfl) dX3_init_11 (fun H locs hP hD hS => ?_)
  have hP : va_P G.1 vwCl [(ln, .inr (3, [.int 0, .int 0, .null, .null, .null, .null, .null, .null, .null]))] H := hP
  have hD : va_D A [(ln, .inr (3, [.int 0, .int 0, .null, .null, .null, .null, .null, .null, .null]))] := hD
  refine lv_aload_n hx hb dX3_init_14 rfl (lv_at hl 0 rfl) ?_
  refine va_new (ci := 6) (fs := [.int 0, .int 0, .null, .int 0]) (C := RX6) (T := TX6) (N := 4) hx hb hts (fun w h => List.mem_cons_of_mem _ (List.mem_append_right _ h)) tyX6 tyX6_ok hown (hts (.classLink RX3 18 RX6) (by decide +kernel)) (hts (.instantiable RX6 4) (by decide +kernel)) (hts (.initialized RX6) (by decide +kernel)) hK hP hD hS hA rfl dfX6 (Nat.le_of_ble_eq_true rfl) (Nat.le_of_ble_eq_true rfl) dX3_init_15 (fun q1 H hP hD hS => ?_)
  have hP : va_P G.1 vwCl [(ln, .inr (3, [.int 0, .int 0, .null, .null, .null, .null, .null, .null, .null])), (q1, .inr (6, [.int 0, .int 0, .null, .int 0]))] H := hP
  have hD : va_D A [(ln, .inr (3, [.int 0, .int 0, .null, .null, .null, .null, .null, .null, .null])), (q1, .inr (6, [.int 0, .int 0, .null, .int 0]))] := hD
  refine W.widen (k := 1) (n := 4) (Nat.le_of_ble_eq_true rfl) (Nat.le_of_ble_eq_true rfl) ?_
  refine lv_dup hx hb dX3_init_18 rfl ?_
  refine lv_bipush (v := 8) hx hb dX3_init_19 (by decide) ?_
  refine lv_iconst (v := 2) hx hb dX3_init_21 (by decide) ?_
  refine wq_callv (wr := [(ln, .inr (3, [.int 0, .int 0, .null, .null, .null, .null, .null, .null, .null]))]) (va_runI (As := [.int 8, .int 2]) (rest := [.ref q1, .ref ln]) ⟨hx, hb, hml, hown, hts⟩ (c_newSheet_8_2 l G q1 H.size) (cwI 2 hts gX3_init_X6_init rfl rfl rfl (hts (.initialized RX6) (by decide +kernel)) (hts (.methodLink RX3 20 yX6_init) (by decide +kernel)) (hts (.instanceMethod yX6_init) (by decide +kernel)) rfl (by decide +kernel) ⟨(Nat.le_of_ble_eq_true rfl), (Nat.le_of_ble_eq_true rfl)⟩) (preQ_S (wc := [(q1, .inr (6, [.int 0, .int 0, .null, .int 0]))]) hKG hP hD [1] (by decide +kernel) rfl) rfl rfl hl.1 rfl (lv_room (Nat.le_of_ble_eq_true rfl)) dX3_init_22 ⟨(Nat.le_of_ble_eq_true rfl), (Nat.le_of_ble_eq_true rfl)⟩) hS hP hD hA [1] [0] rfl rfl (by decide +kernel) (by decide +kernel) (fun u4 H locs hr2 hP hD hS => ?_)
  obtain ⟨q_3, rfl⟩ : ∃ z, z = u4 := ⟨_, rfl⟩
  have hP : va_P G.1 vwCl [(ln, .inr (3, [.int 0, .int 0, .null, .null, .null, .null, .null, .null, .null])), (q1, .inr (6, [.int 8, .int 2, .ref q_3, .int 0])), (q_3, .inl (G.2 0, 16, .inl (fun _ => 0)))] H := hP
  have hD : va_D A [(ln, .inr (3, [.int 0, .int 0, .null, .null, .null, .null, .null, .null, .null])), (q1, .inr (6, [.int 8, .int 2, .ref q_3, .int 0])), (q_3, .inl (G.2 0, 16, .inl (fun _ => 0)))] := hD
  refine W.widen (k := 2) (n := 20) (Nat.le_of_ble_eq_true rfl) (Nat.le_of_ble_eq_true rfl) ?_
  refine va_putF (D := G.1) (ci := 3) (v := .ref q1) (ty := (.object "SlipCoach$Sheet")) (C := RX3) (T := TX3) (N := 9) hx hb hts (fun w h => List.mem_cons_of_mem _ (List.mem_append_left _ (List.mem_append_right _ h))) tyX3 tyX3_ok nmX3 hown hK hP hD hS 0 rfl rfl 2 (by decide) (hts (.fieldLink RX3 23 "SlipCoach$Line" "slopes" "LSlipCoach$Sheet;") (by decide +kernel)) (fun _ h9 => h9) rfl hin rfl (by decide +kernel) rfl rfl (Nat.le_of_ble_eq_true rfl) dX3_init_25 (fun H locs hP hD hS => ?_)
  have hP : va_P G.1 vwCl [(ln, .inr (3, [.int 0, .int 0, .ref q1, .null, .null, .null, .null, .null, .null])), (q1, .inr (6, [.int 8, .int 2, .ref q_3, .int 0])), (q_3, .inl (G.2 0, 16, .inl (fun _ => 0)))] H := hP
  have hD : va_D A [(ln, .inr (3, [.int 0, .int 0, .ref q1, .null, .null, .null, .null, .null, .null])), (q1, .inr (6, [.int 8, .int 2, .ref q_3, .int 0])), (q_3, .inl (G.2 0, 16, .inl (fun _ => 0)))] := hD
  refine lv_aload_n hx hb dX3_init_28 rfl (lv_at hl 0 rfl) ?_
  refine va_new (ci := 6) (fs := [.int 0, .int 0, .null, .int 0]) (C := RX6) (T := TX6) (N := 4) hx hb hts (fun w h => List.mem_cons_of_mem _ (List.mem_append_right _ h)) tyX6 tyX6_ok hown (hts (.classLink RX3 18 RX6) (by decide +kernel)) (hts (.instantiable RX6 4) (by decide +kernel)) (hts (.initialized RX6) (by decide +kernel)) hK hP hD hS hA rfl dfX6 (Nat.le_of_ble_eq_true rfl) (Nat.le_of_ble_eq_true rfl) dX3_init_29 (fun q5 H hP hD hS => ?_)
  have hP : va_P G.1 vwCl [(ln, .inr (3, [.int 0, .int 0, .ref q1, .null, .null, .null, .null, .null, .null])), (q1, .inr (6, [.int 8, .int 2, .ref q_3, .int 0])), (q_3, .inl (G.2 0, 16, .inl (fun _ => 0))), (q5, .inr (6, [.int 0, .int 0, .null, .int 0]))] H := hP
  have hD : va_D A [(ln, .inr (3, [.int 0, .int 0, .ref q1, .null, .null, .null, .null, .null, .null])), (q1, .inr (6, [.int 8, .int 2, .ref q_3, .int 0])), (q_3, .inl (G.2 0, 16, .inl (fun _ => 0))), (q5, .inr (6, [.int 0, .int 0, .null, .int 0]))] := hD
  refine W.widen (k := 3) (n := 24) (Nat.le_of_ble_eq_true rfl) (Nat.le_of_ble_eq_true rfl) ?_
  refine lv_dup hx hb dX3_init_32 rfl ?_
  refine lv_bipush (v := 6) hx hb dX3_init_33 (by decide) ?_
  refine lv_iconst (v := 3) hx hb dX3_init_35 (by decide) ?_
  refine wq_callv (wr := [(ln, .inr (3, [.int 0, .int 0, .ref q1, .null, .null, .null, .null, .null, .null])), (q1, .inr (6, [.int 8, .int 2, .ref q_3, .int 0])), (q_3, .inl (G.2 0, 16, .inl (fun _ => 0)))]) (va_runI (As := [.int 6, .int 3]) (rest := [.ref q5, .ref ln]) ⟨hx, hb, hml, hown, hts⟩ (c_newSheet_6_3 l G q5 H.size) (cwI 2 hts gX3_init_X6_init rfl rfl rfl (hts (.initialized RX6) (by decide +kernel)) (hts (.methodLink RX3 20 yX6_init) (by decide +kernel)) (hts (.instanceMethod yX6_init) (by decide +kernel)) rfl (by decide +kernel) ⟨(Nat.le_of_ble_eq_true rfl), (Nat.le_of_ble_eq_true rfl)⟩) (preQ_S (wc := [(q5, .inr (6, [.int 0, .int 0, .null, .int 0]))]) hKG hP hD [3] (by decide +kernel) rfl) rfl rfl hl.1 rfl (lv_room (Nat.le_of_ble_eq_true rfl)) dX3_init_36 ⟨(Nat.le_of_ble_eq_true rfl), (Nat.le_of_ble_eq_true rfl)⟩) hS hP hD hA [3] [0, 1, 2] rfl rfl (by decide +kernel) (by decide +kernel) (fun u8 H locs hr6 hP hD hS => ?_)
  obtain ⟨q_7, rfl⟩ : ∃ z, z = u8 := ⟨_, rfl⟩
  have hP : va_P G.1 vwCl [(ln, .inr (3, [.int 0, .int 0, .ref q1, .null, .null, .null, .null, .null, .null])), (q1, .inr (6, [.int 8, .int 2, .ref q_3, .int 0])), (q_3, .inl (G.2 0, 16, .inl (fun _ => 0))), (q5, .inr (6, [.int 6, .int 3, .ref q_7, .int 0])), (q_7, .inl (G.2 0, 18, .inl (fun _ => 0)))] H := hP
  have hD : va_D A [(ln, .inr (3, [.int 0, .int 0, .ref q1, .null, .null, .null, .null, .null, .null])), (q1, .inr (6, [.int 8, .int 2, .ref q_3, .int 0])), (q_3, .inl (G.2 0, 16, .inl (fun _ => 0))), (q5, .inr (6, [.int 6, .int 3, .ref q_7, .int 0])), (q_7, .inl (G.2 0, 18, .inl (fun _ => 0)))] := hD
  refine W.widen (k := 4) (n := 42) (Nat.le_of_ble_eq_true rfl) (Nat.le_of_ble_eq_true rfl) ?_
  refine va_putF (D := G.1) (ci := 3) (v := .ref q5) (ty := (.object "SlipCoach$Sheet")) (C := RX3) (T := TX3) (N := 9) hx hb hts (fun w h => List.mem_cons_of_mem _ (List.mem_append_left _ (List.mem_append_right _ h))) tyX3 tyX3_ok nmX3 hown hK hP hD hS 0 rfl rfl 3 (by decide) (hts (.fieldLink RX3 27 "SlipCoach$Line" "wets" "LSlipCoach$Sheet;") (by decide +kernel)) (fun _ h9 => h9) rfl hin rfl (by decide +kernel) rfl rfl (Nat.le_of_ble_eq_true rfl) dX3_init_39 (fun H locs hP hD hS => ?_)
  have hP : va_P G.1 vwCl [(ln, .inr (3, [.int 0, .int 0, .ref q1, .ref q5, .null, .null, .null, .null, .null])), (q1, .inr (6, [.int 8, .int 2, .ref q_3, .int 0])), (q_3, .inl (G.2 0, 16, .inl (fun _ => 0))), (q5, .inr (6, [.int 6, .int 3, .ref q_7, .int 0])), (q_7, .inl (G.2 0, 18, .inl (fun _ => 0)))] H := hP
  have hD : va_D A [(ln, .inr (3, [.int 0, .int 0, .ref q1, .ref q5, .null, .null, .null, .null, .null])), (q1, .inr (6, [.int 8, .int 2, .ref q_3, .int 0])), (q_3, .inl (G.2 0, 16, .inl (fun _ => 0))), (q5, .inr (6, [.int 6, .int 3, .ref q_7, .int 0])), (q_7, .inl (G.2 0, 18, .inl (fun _ => 0)))] := hD
  refine lv_aload_n hx hb dX3_init_42 rfl (lv_at hl 0 rfl) ?_
  refine va_new (ci := 6) (fs := [.int 0, .int 0, .null, .int 0]) (C := RX6) (T := TX6) (N := 4) hx hb hts (fun w h => List.mem_cons_of_mem _ (List.mem_append_right _ h)) tyX6 tyX6_ok hown (hts (.classLink RX3 18 RX6) (by decide +kernel)) (hts (.instantiable RX6 4) (by decide +kernel)) (hts (.initialized RX6) (by decide +kernel)) hK hP hD hS hA rfl dfX6 (Nat.le_of_ble_eq_true rfl) (Nat.le_of_ble_eq_true rfl) dX3_init_43 (fun q9 H hP hD hS => ?_)
  have hP : va_P G.1 vwCl [(ln, .inr (3, [.int 0, .int 0, .ref q1, .ref q5, .null, .null, .null, .null, .null])), (q1, .inr (6, [.int 8, .int 2, .ref q_3, .int 0])), (q_3, .inl (G.2 0, 16, .inl (fun _ => 0))), (q5, .inr (6, [.int 6, .int 3, .ref q_7, .int 0])), (q_7, .inl (G.2 0, 18, .inl (fun _ => 0))), (q9, .inr (6, [.int 0, .int 0, .null, .int 0]))] H := hP
  have hD : va_D A [(ln, .inr (3, [.int 0, .int 0, .ref q1, .ref q5, .null, .null, .null, .null, .null])), (q1, .inr (6, [.int 8, .int 2, .ref q_3, .int 0])), (q_3, .inl (G.2 0, 16, .inl (fun _ => 0))), (q5, .inr (6, [.int 6, .int 3, .ref q_7, .int 0])), (q_7, .inl (G.2 0, 18, .inl (fun _ => 0))), (q9, .inr (6, [.int 0, .int 0, .null, .int 0]))] := hD
  refine W.widen (k := 5) (n := 46) (Nat.le_of_ble_eq_true rfl) (Nat.le_of_ble_eq_true rfl) ?_
  refine lv_dup hx hb dX3_init_46 rfl ?_
  refine lv_bipush (v := 6) hx hb dX3_init_47 (by decide) ?_
  refine lv_iconst (v := 2) hx hb dX3_init_49 (by decide) ?_
  refine wq_callv (wr := [(ln, .inr (3, [.int 0, .int 0, .ref q1, .ref q5, .null, .null, .null, .null, .null])), (q1, .inr (6, [.int 8, .int 2, .ref q_3, .int 0])), (q_3, .inl (G.2 0, 16, .inl (fun _ => 0))), (q5, .inr (6, [.int 6, .int 3, .ref q_7, .int 0])), (q_7, .inl (G.2 0, 18, .inl (fun _ => 0)))]) (va_runI (As := [.int 6, .int 2]) (rest := [.ref q9, .ref ln]) ⟨hx, hb, hml, hown, hts⟩ (c_newSheet_6_2 l G q9 H.size) (cwI 2 hts gX3_init_X6_init rfl rfl rfl (hts (.initialized RX6) (by decide +kernel)) (hts (.methodLink RX3 20 yX6_init) (by decide +kernel)) (hts (.instanceMethod yX6_init) (by decide +kernel)) rfl (by decide +kernel) ⟨(Nat.le_of_ble_eq_true rfl), (Nat.le_of_ble_eq_true rfl)⟩) (preQ_S (wc := [(q9, .inr (6, [.int 0, .int 0, .null, .int 0]))]) hKG hP hD [5] (by decide +kernel) rfl) rfl rfl hl.1 rfl (lv_room (Nat.le_of_ble_eq_true rfl)) dX3_init_50 ⟨(Nat.le_of_ble_eq_true rfl), (Nat.le_of_ble_eq_true rfl)⟩) hS hP hD hA [5] [0, 1, 2, 3, 4] rfl rfl (by decide +kernel) (by decide +kernel) (fun u12 H locs hr10 hP hD hS => ?_)
  obtain ⟨q_11, rfl⟩ : ∃ z, z = u12 := ⟨_, rfl⟩
  have hP : va_P G.1 vwCl [(ln, .inr (3, [.int 0, .int 0, .ref q1, .ref q5, .null, .null, .null, .null, .null])), (q1, .inr (6, [.int 8, .int 2, .ref q_3, .int 0])), (q_3, .inl (G.2 0, 16, .inl (fun _ => 0))), (q5, .inr (6, [.int 6, .int 3, .ref q_7, .int 0])), (q_7, .inl (G.2 0, 18, .inl (fun _ => 0))), (q9, .inr (6, [.int 6, .int 2, .ref q_11, .int 0])), (q_11, .inl (G.2 0, 12, .inl (fun _ => 0)))] H := hP
  have hD : va_D A [(ln, .inr (3, [.int 0, .int 0, .ref q1, .ref q5, .null, .null, .null, .null, .null])), (q1, .inr (6, [.int 8, .int 2, .ref q_3, .int 0])), (q_3, .inl (G.2 0, 16, .inl (fun _ => 0))), (q5, .inr (6, [.int 6, .int 3, .ref q_7, .int 0])), (q_7, .inl (G.2 0, 18, .inl (fun _ => 0))), (q9, .inr (6, [.int 6, .int 2, .ref q_11, .int 0])), (q_11, .inl (G.2 0, 12, .inl (fun _ => 0)))] := hD
  refine W.widen (k := 6) (n := 58) (Nat.le_of_ble_eq_true rfl) (Nat.le_of_ble_eq_true rfl) ?_
  refine va_putF (D := G.1) (ci := 3) (v := .ref q9) (ty := (.object "SlipCoach$Sheet")) (C := RX3) (T := TX3) (N := 9) hx hb hts (fun w h => List.mem_cons_of_mem _ (List.mem_append_left _ (List.mem_append_right _ h))) tyX3 tyX3_ok nmX3 hown hK hP hD hS 0 rfl rfl 4 (by decide) (hts (.fieldLink RX3 30 "SlipCoach$Line" "limits" "LSlipCoach$Sheet;") (by decide +kernel)) (fun _ h9 => h9) rfl hin rfl (by decide +kernel) rfl rfl (Nat.le_of_ble_eq_true rfl) dX3_init_53 (fun H locs hP hD hS => ?_)
  have hP : va_P G.1 vwCl [(ln, .inr (3, [.int 0, .int 0, .ref q1, .ref q5, .ref q9, .null, .null, .null, .null])), (q1, .inr (6, [.int 8, .int 2, .ref q_3, .int 0])), (q_3, .inl (G.2 0, 16, .inl (fun _ => 0))), (q5, .inr (6, [.int 6, .int 3, .ref q_7, .int 0])), (q_7, .inl (G.2 0, 18, .inl (fun _ => 0))), (q9, .inr (6, [.int 6, .int 2, .ref q_11, .int 0])), (q_11, .inl (G.2 0, 12, .inl (fun _ => 0)))] H := hP
  have hD : va_D A [(ln, .inr (3, [.int 0, .int 0, .ref q1, .ref q5, .ref q9, .null, .null, .null, .null])), (q1, .inr (6, [.int 8, .int 2, .ref q_3, .int 0])), (q_3, .inl (G.2 0, 16, .inl (fun _ => 0))), (q5, .inr (6, [.int 6, .int 3, .ref q_7, .int 0])), (q_7, .inl (G.2 0, 18, .inl (fun _ => 0))), (q9, .inr (6, [.int 6, .int 2, .ref q_11, .int 0])), (q_11, .inl (G.2 0, 12, .inl (fun _ => 0)))] := hD
  refine lv_aload_n hx hb dX3_init_56 rfl (lv_at hl 0 rfl) ?_
  refine va_new (ci := 6) (fs := [.int 0, .int 0, .null, .int 0]) (C := RX6) (T := TX6) (N := 4) hx hb hts (fun w h => List.mem_cons_of_mem _ (List.mem_append_right _ h)) tyX6 tyX6_ok hown (hts (.classLink RX3 18 RX6) (by decide +kernel)) (hts (.instantiable RX6 4) (by decide +kernel)) (hts (.initialized RX6) (by decide +kernel)) hK hP hD hS hA rfl dfX6 (Nat.le_of_ble_eq_true rfl) (Nat.le_of_ble_eq_true rfl) dX3_init_57 (fun q13 H hP hD hS => ?_)
  have hP : va_P G.1 vwCl [(ln, .inr (3, [.int 0, .int 0, .ref q1, .ref q5, .ref q9, .null, .null, .null, .null])), (q1, .inr (6, [.int 8, .int 2, .ref q_3, .int 0])), (q_3, .inl (G.2 0, 16, .inl (fun _ => 0))), (q5, .inr (6, [.int 6, .int 3, .ref q_7, .int 0])), (q_7, .inl (G.2 0, 18, .inl (fun _ => 0))), (q9, .inr (6, [.int 6, .int 2, .ref q_11, .int 0])), (q_11, .inl (G.2 0, 12, .inl (fun _ => 0))), (q13, .inr (6, [.int 0, .int 0, .null, .int 0]))] H := hP
  have hD : va_D A [(ln, .inr (3, [.int 0, .int 0, .ref q1, .ref q5, .ref q9, .null, .null, .null, .null])), (q1, .inr (6, [.int 8, .int 2, .ref q_3, .int 0])), (q_3, .inl (G.2 0, 16, .inl (fun _ => 0))), (q5, .inr (6, [.int 6, .int 3, .ref q_7, .int 0])), (q_7, .inl (G.2 0, 18, .inl (fun _ => 0))), (q9, .inr (6, [.int 6, .int 2, .ref q_11, .int 0])), (q_11, .inl (G.2 0, 12, .inl (fun _ => 0))), (q13, .inr (6, [.int 0, .int 0, .null, .int 0]))] := hD
  refine W.widen (k := 7) (n := 62) (Nat.le_of_ble_eq_true rfl) (Nat.le_of_ble_eq_true rfl) ?_
  refine lv_dup hx hb dX3_init_60 rfl ?_
  refine lv_bipush (v := 6) hx hb dX3_init_61 (by decide) ?_
  refine lv_iconst (v := 2) hx hb dX3_init_63 (by decide) ?_
  refine wq_callv (wr := [(ln, .inr (3, [.int 0, .int 0, .ref q1, .ref q5, .ref q9, .null, .null, .null, .null])), (q1, .inr (6, [.int 8, .int 2, .ref q_3, .int 0])), (q_3, .inl (G.2 0, 16, .inl (fun _ => 0))), (q5, .inr (6, [.int 6, .int 3, .ref q_7, .int 0])), (q_7, .inl (G.2 0, 18, .inl (fun _ => 0))), (q9, .inr (6, [.int 6, .int 2, .ref q_11, .int 0])), (q_11, .inl (G.2 0, 12, .inl (fun _ => 0)))]) (va_runI (As := [.int 6, .int 2]) (rest := [.ref q13, .ref ln]) ⟨hx, hb, hml, hown, hts⟩ (c_newSheet_6_2 l G q13 H.size) (cwI 2 hts gX3_init_X6_init rfl rfl rfl (hts (.initialized RX6) (by decide +kernel)) (hts (.methodLink RX3 20 yX6_init) (by decide +kernel)) (hts (.instanceMethod yX6_init) (by decide +kernel)) rfl (by decide +kernel) ⟨(Nat.le_of_ble_eq_true rfl), (Nat.le_of_ble_eq_true rfl)⟩) (preQ_S (wc := [(q13, .inr (6, [.int 0, .int 0, .null, .int 0]))]) hKG hP hD [7] (by decide +kernel) rfl) rfl rfl hl.1 rfl (lv_room (Nat.le_of_ble_eq_true rfl)) dX3_init_64 ⟨(Nat.le_of_ble_eq_true rfl), (Nat.le_of_ble_eq_true rfl)⟩) hS hP hD hA [7] [0, 1, 2, 3, 4, 5, 6] rfl rfl (by decide +kernel) (by decide +kernel) (fun u16 H locs hr14 hP hD hS => ?_)
  obtain ⟨q_15, rfl⟩ : ∃ z, z = u16 := ⟨_, rfl⟩
  have hP : va_P G.1 vwCl [(ln, .inr (3, [.int 0, .int 0, .ref q1, .ref q5, .ref q9, .null, .null, .null, .null])), (q1, .inr (6, [.int 8, .int 2, .ref q_3, .int 0])), (q_3, .inl (G.2 0, 16, .inl (fun _ => 0))), (q5, .inr (6, [.int 6, .int 3, .ref q_7, .int 0])), (q_7, .inl (G.2 0, 18, .inl (fun _ => 0))), (q9, .inr (6, [.int 6, .int 2, .ref q_11, .int 0])), (q_11, .inl (G.2 0, 12, .inl (fun _ => 0))), (q13, .inr (6, [.int 6, .int 2, .ref q_15, .int 0])), (q_15, .inl (G.2 0, 12, .inl (fun _ => 0)))] H := hP
  have hD : va_D A [(ln, .inr (3, [.int 0, .int 0, .ref q1, .ref q5, .ref q9, .null, .null, .null, .null])), (q1, .inr (6, [.int 8, .int 2, .ref q_3, .int 0])), (q_3, .inl (G.2 0, 16, .inl (fun _ => 0))), (q5, .inr (6, [.int 6, .int 3, .ref q_7, .int 0])), (q_7, .inl (G.2 0, 18, .inl (fun _ => 0))), (q9, .inr (6, [.int 6, .int 2, .ref q_11, .int 0])), (q_11, .inl (G.2 0, 12, .inl (fun _ => 0))), (q13, .inr (6, [.int 6, .int 2, .ref q_15, .int 0])), (q_15, .inl (G.2 0, 12, .inl (fun _ => 0)))] := hD
  refine W.widen (k := 8) (n := 74) (Nat.le_of_ble_eq_true rfl) (Nat.le_of_ble_eq_true rfl) ?_
  refine va_putF (D := G.1) (ci := 3) (v := .ref q13) (ty := (.object "SlipCoach$Sheet")) (C := RX3) (T := TX3) (N := 9) hx hb hts (fun w h => List.mem_cons_of_mem _ (List.mem_append_left _ (List.mem_append_right _ h))) tyX3 tyX3_ok nmX3 hown hK hP hD hS 0 rfl rfl 5 (by decide) (hts (.fieldLink RX3 33 "SlipCoach$Line" "platforms" "LSlipCoach$Sheet;") (by decide +kernel)) (fun _ h9 => h9) rfl hin rfl (by decide +kernel) rfl rfl (Nat.le_of_ble_eq_true rfl) dX3_init_67 (fun H locs hP hD hS => ?_)
  have hP : va_P G.1 vwCl [(ln, .inr (3, [.int 0, .int 0, .ref q1, .ref q5, .ref q9, .ref q13, .null, .null, .null])), (q1, .inr (6, [.int 8, .int 2, .ref q_3, .int 0])), (q_3, .inl (G.2 0, 16, .inl (fun _ => 0))), (q5, .inr (6, [.int 6, .int 3, .ref q_7, .int 0])), (q_7, .inl (G.2 0, 18, .inl (fun _ => 0))), (q9, .inr (6, [.int 6, .int 2, .ref q_11, .int 0])), (q_11, .inl (G.2 0, 12, .inl (fun _ => 0))), (q13, .inr (6, [.int 6, .int 2, .ref q_15, .int 0])), (q_15, .inl (G.2 0, 12, .inl (fun _ => 0)))] H := hP
  have hD : va_D A [(ln, .inr (3, [.int 0, .int 0, .ref q1, .ref q5, .ref q9, .ref q13, .null, .null, .null])), (q1, .inr (6, [.int 8, .int 2, .ref q_3, .int 0])), (q_3, .inl (G.2 0, 16, .inl (fun _ => 0))), (q5, .inr (6, [.int 6, .int 3, .ref q_7, .int 0])), (q_7, .inl (G.2 0, 18, .inl (fun _ => 0))), (q9, .inr (6, [.int 6, .int 2, .ref q_11, .int 0])), (q_11, .inl (G.2 0, 12, .inl (fun _ => 0))), (q13, .inr (6, [.int 6, .int 2, .ref q_15, .int 0])), (q_15, .inl (G.2 0, 12, .inl (fun _ => 0)))] := hD
  refine lv_aload_n hx hb dX3_init_70 rfl (lv_at hl 0 rfl) ?_
  refine va_new (ci := 6) (fs := [.int 0, .int 0, .null, .int 0]) (C := RX6) (T := TX6) (N := 4) hx hb hts (fun w h => List.mem_cons_of_mem _ (List.mem_append_right _ h)) tyX6 tyX6_ok hown (hts (.classLink RX3 18 RX6) (by decide +kernel)) (hts (.instantiable RX6 4) (by decide +kernel)) (hts (.initialized RX6) (by decide +kernel)) hK hP hD hS hA rfl dfX6 (Nat.le_of_ble_eq_true rfl) (Nat.le_of_ble_eq_true rfl) dX3_init_71 (fun q17 H hP hD hS => ?_)
  have hP : va_P G.1 vwCl [(ln, .inr (3, [.int 0, .int 0, .ref q1, .ref q5, .ref q9, .ref q13, .null, .null, .null])), (q1, .inr (6, [.int 8, .int 2, .ref q_3, .int 0])), (q_3, .inl (G.2 0, 16, .inl (fun _ => 0))), (q5, .inr (6, [.int 6, .int 3, .ref q_7, .int 0])), (q_7, .inl (G.2 0, 18, .inl (fun _ => 0))), (q9, .inr (6, [.int 6, .int 2, .ref q_11, .int 0])), (q_11, .inl (G.2 0, 12, .inl (fun _ => 0))), (q13, .inr (6, [.int 6, .int 2, .ref q_15, .int 0])), (q_15, .inl (G.2 0, 12, .inl (fun _ => 0))), (q17, .inr (6, [.int 0, .int 0, .null, .int 0]))] H := hP
  have hD : va_D A [(ln, .inr (3, [.int 0, .int 0, .ref q1, .ref q5, .ref q9, .ref q13, .null, .null, .null])), (q1, .inr (6, [.int 8, .int 2, .ref q_3, .int 0])), (q_3, .inl (G.2 0, 16, .inl (fun _ => 0))), (q5, .inr (6, [.int 6, .int 3, .ref q_7, .int 0])), (q_7, .inl (G.2 0, 18, .inl (fun _ => 0))), (q9, .inr (6, [.int 6, .int 2, .ref q_11, .int 0])), (q_11, .inl (G.2 0, 12, .inl (fun _ => 0))), (q13, .inr (6, [.int 6, .int 2, .ref q_15, .int 0])), (q_15, .inl (G.2 0, 12, .inl (fun _ => 0))), (q17, .inr (6, [.int 0, .int 0, .null, .int 0]))] := hD
  refine W.widen (k := 9) (n := 78) (Nat.le_of_ble_eq_true rfl) (Nat.le_of_ble_eq_true rfl) ?_
  refine lv_dup hx hb dX3_init_74 rfl ?_
  refine lv_iconst (v := 4) hx hb dX3_init_75 (by decide) ?_
  refine lv_iconst (v := 5) hx hb dX3_init_76 (by decide) ?_
  refine wq_callv (wr := [(ln, .inr (3, [.int 0, .int 0, .ref q1, .ref q5, .ref q9, .ref q13, .null, .null, .null])), (q1, .inr (6, [.int 8, .int 2, .ref q_3, .int 0])), (q_3, .inl (G.2 0, 16, .inl (fun _ => 0))), (q5, .inr (6, [.int 6, .int 3, .ref q_7, .int 0])), (q_7, .inl (G.2 0, 18, .inl (fun _ => 0))), (q9, .inr (6, [.int 6, .int 2, .ref q_11, .int 0])), (q_11, .inl (G.2 0, 12, .inl (fun _ => 0))), (q13, .inr (6, [.int 6, .int 2, .ref q_15, .int 0])), (q_15, .inl (G.2 0, 12, .inl (fun _ => 0)))]) (va_runI (As := [.int 4, .int 5]) (rest := [.ref q17, .ref ln]) ⟨hx, hb, hml, hown, hts⟩ (c_newSheet_4_5 l G q17 H.size) (cwI 2 hts gX3_init_X6_init rfl rfl rfl (hts (.initialized RX6) (by decide +kernel)) (hts (.methodLink RX3 20 yX6_init) (by decide +kernel)) (hts (.instanceMethod yX6_init) (by decide +kernel)) rfl (by decide +kernel) ⟨(Nat.le_of_ble_eq_true rfl), (Nat.le_of_ble_eq_true rfl)⟩) (preQ_S (wc := [(q17, .inr (6, [.int 0, .int 0, .null, .int 0]))]) hKG hP hD [9] (by decide +kernel) rfl) rfl rfl hl.1 rfl (lv_room (Nat.le_of_ble_eq_true rfl)) dX3_init_77 ⟨(Nat.le_of_ble_eq_true rfl), (Nat.le_of_ble_eq_true rfl)⟩) hS hP hD hA [9] [0, 1, 2, 3, 4, 5, 6, 7, 8] rfl rfl (by decide +kernel) (by decide +kernel) (fun u20 H locs hr18 hP hD hS => ?_)
  obtain ⟨q_19, rfl⟩ : ∃ z, z = u20 := ⟨_, rfl⟩
  have hP : va_P G.1 vwCl [(ln, .inr (3, [.int 0, .int 0, .ref q1, .ref q5, .ref q9, .ref q13, .null, .null, .null])), (q1, .inr (6, [.int 8, .int 2, .ref q_3, .int 0])), (q_3, .inl (G.2 0, 16, .inl (fun _ => 0))), (q5, .inr (6, [.int 6, .int 3, .ref q_7, .int 0])), (q_7, .inl (G.2 0, 18, .inl (fun _ => 0))), (q9, .inr (6, [.int 6, .int 2, .ref q_11, .int 0])), (q_11, .inl (G.2 0, 12, .inl (fun _ => 0))), (q13, .inr (6, [.int 6, .int 2, .ref q_15, .int 0])), (q_15, .inl (G.2 0, 12, .inl (fun _ => 0))), (q17, .inr (6, [.int 4, .int 5, .ref q_19, .int 0])), (q_19, .inl (G.2 0, 20, .inl (fun _ => 0)))] H := hP
  have hD : va_D A [(ln, .inr (3, [.int 0, .int 0, .ref q1, .ref q5, .ref q9, .ref q13, .null, .null, .null])), (q1, .inr (6, [.int 8, .int 2, .ref q_3, .int 0])), (q_3, .inl (G.2 0, 16, .inl (fun _ => 0))), (q5, .inr (6, [.int 6, .int 3, .ref q_7, .int 0])), (q_7, .inl (G.2 0, 18, .inl (fun _ => 0))), (q9, .inr (6, [.int 6, .int 2, .ref q_11, .int 0])), (q_11, .inl (G.2 0, 12, .inl (fun _ => 0))), (q13, .inr (6, [.int 6, .int 2, .ref q_15, .int 0])), (q_15, .inl (G.2 0, 12, .inl (fun _ => 0))), (q17, .inr (6, [.int 4, .int 5, .ref q_19, .int 0])), (q_19, .inl (G.2 0, 20, .inl (fun _ => 0)))] := hD
  refine W.widen (k := 10) (n := 98) (Nat.le_of_ble_eq_true rfl) (Nat.le_of_ble_eq_true rfl) ?_
  refine va_putF (D := G.1) (ci := 3) (v := .ref q17) (ty := (.object "SlipCoach$Sheet")) (C := RX3) (T := TX3) (N := 9) hx hb hts (fun w h => List.mem_cons_of_mem _ (List.mem_append_left _ (List.mem_append_right _ h))) tyX3 tyX3_ok nmX3 hown hK hP hD hS 0 rfl rfl 6 (by decide) (hts (.fieldLink RX3 36 "SlipCoach$Line" "kinds" "LSlipCoach$Sheet;") (by decide +kernel)) (fun _ h9 => h9) rfl hin rfl (by decide +kernel) rfl rfl (Nat.le_of_ble_eq_true rfl) dX3_init_80 (fun H locs hP hD hS => ?_)
  have hP : va_P G.1 vwCl [(ln, .inr (3, [.int 0, .int 0, .ref q1, .ref q5, .ref q9, .ref q13, .ref q17, .null, .null])), (q1, .inr (6, [.int 8, .int 2, .ref q_3, .int 0])), (q_3, .inl (G.2 0, 16, .inl (fun _ => 0))), (q5, .inr (6, [.int 6, .int 3, .ref q_7, .int 0])), (q_7, .inl (G.2 0, 18, .inl (fun _ => 0))), (q9, .inr (6, [.int 6, .int 2, .ref q_11, .int 0])), (q_11, .inl (G.2 0, 12, .inl (fun _ => 0))), (q13, .inr (6, [.int 6, .int 2, .ref q_15, .int 0])), (q_15, .inl (G.2 0, 12, .inl (fun _ => 0))), (q17, .inr (6, [.int 4, .int 5, .ref q_19, .int 0])), (q_19, .inl (G.2 0, 20, .inl (fun _ => 0)))] H := hP
  have hD : va_D A [(ln, .inr (3, [.int 0, .int 0, .ref q1, .ref q5, .ref q9, .ref q13, .ref q17, .null, .null])), (q1, .inr (6, [.int 8, .int 2, .ref q_3, .int 0])), (q_3, .inl (G.2 0, 16, .inl (fun _ => 0))), (q5, .inr (6, [.int 6, .int 3, .ref q_7, .int 0])), (q_7, .inl (G.2 0, 18, .inl (fun _ => 0))), (q9, .inr (6, [.int 6, .int 2, .ref q_11, .int 0])), (q_11, .inl (G.2 0, 12, .inl (fun _ => 0))), (q13, .inr (6, [.int 6, .int 2, .ref q_15, .int 0])), (q_15, .inl (G.2 0, 12, .inl (fun _ => 0))), (q17, .inr (6, [.int 4, .int 5, .ref q_19, .int 0])), (q_19, .inl (G.2 0, 20, .inl (fun _ => 0)))] := hD
  refine lv_aload_n hx hb dX3_init_83 rfl (lv_at hl 0 rfl) ?_
  refine va_new (ci := 6) (fs := [.int 0, .int 0, .null, .int 0]) (C := RX6) (T := TX6) (N := 4) hx hb hts (fun w h => List.mem_cons_of_mem _ (List.mem_append_right _ h)) tyX6 tyX6_ok hown (hts (.classLink RX3 18 RX6) (by decide +kernel)) (hts (.instantiable RX6 4) (by decide +kernel)) (hts (.initialized RX6) (by decide +kernel)) hK hP hD hS hA rfl dfX6 (Nat.le_of_ble_eq_true rfl) (Nat.le_of_ble_eq_true rfl) dX3_init_84 (fun q21 H hP hD hS => ?_)
  have hP : va_P G.1 vwCl [(ln, .inr (3, [.int 0, .int 0, .ref q1, .ref q5, .ref q9, .ref q13, .ref q17, .null, .null])), (q1, .inr (6, [.int 8, .int 2, .ref q_3, .int 0])), (q_3, .inl (G.2 0, 16, .inl (fun _ => 0))), (q5, .inr (6, [.int 6, .int 3, .ref q_7, .int 0])), (q_7, .inl (G.2 0, 18, .inl (fun _ => 0))), (q9, .inr (6, [.int 6, .int 2, .ref q_11, .int 0])), (q_11, .inl (G.2 0, 12, .inl (fun _ => 0))), (q13, .inr (6, [.int 6, .int 2, .ref q_15, .int 0])), (q_15, .inl (G.2 0, 12, .inl (fun _ => 0))), (q17, .inr (6, [.int 4, .int 5, .ref q_19, .int 0])), (q_19, .inl (G.2 0, 20, .inl (fun _ => 0))), (q21, .inr (6, [.int 0, .int 0, .null, .int 0]))] H := hP
  have hD : va_D A [(ln, .inr (3, [.int 0, .int 0, .ref q1, .ref q5, .ref q9, .ref q13, .ref q17, .null, .null])), (q1, .inr (6, [.int 8, .int 2, .ref q_3, .int 0])), (q_3, .inl (G.2 0, 16, .inl (fun _ => 0))), (q5, .inr (6, [.int 6, .int 3, .ref q_7, .int 0])), (q_7, .inl (G.2 0, 18, .inl (fun _ => 0))), (q9, .inr (6, [.int 6, .int 2, .ref q_11, .int 0])), (q_11, .inl (G.2 0, 12, .inl (fun _ => 0))), (q13, .inr (6, [.int 6, .int 2, .ref q_15, .int 0])), (q_15, .inl (G.2 0, 12, .inl (fun _ => 0))), (q17, .inr (6, [.int 4, .int 5, .ref q_19, .int 0])), (q_19, .inl (G.2 0, 20, .inl (fun _ => 0))), (q21, .inr (6, [.int 0, .int 0, .null, .int 0]))] := hD
  refine W.widen (k := 11) (n := 102) (Nat.le_of_ble_eq_true rfl) (Nat.le_of_ble_eq_true rfl) ?_
  refine lv_dup hx hb dX3_init_87 rfl ?_
  refine lv_iconst (v := 5) hx hb dX3_init_88 (by decide) ?_
  refine lv_iconst (v := 3) hx hb dX3_init_89 (by decide) ?_
  refine wq_callv (wr := [(ln, .inr (3, [.int 0, .int 0, .ref q1, .ref q5, .ref q9, .ref q13, .ref q17, .null, .null])), (q1, .inr (6, [.int 8, .int 2, .ref q_3, .int 0])), (q_3, .inl (G.2 0, 16, .inl (fun _ => 0))), (q5, .inr (6, [.int 6, .int 3, .ref q_7, .int 0])), (q_7, .inl (G.2 0, 18, .inl (fun _ => 0))), (q9, .inr (6, [.int 6, .int 2, .ref q_11, .int 0])), (q_11, .inl (G.2 0, 12, .inl (fun _ => 0))), (q13, .inr (6, [.int 6, .int 2, .ref q_15, .int 0])), (q_15, .inl (G.2 0, 12, .inl (fun _ => 0))), (q17, .inr (6, [.int 4, .int 5, .ref q_19, .int 0])), (q_19, .inl (G.2 0, 20, .inl (fun _ => 0)))]) (va_runI (As := [.int 5, .int 3]) (rest := [.ref q21, .ref ln]) ⟨hx, hb, hml, hown, hts⟩ (c_newSheet_5_3 l G q21 H.size) (cwI 2 hts gX3_init_X6_init rfl rfl rfl (hts (.initialized RX6) (by decide +kernel)) (hts (.methodLink RX3 20 yX6_init) (by decide +kernel)) (hts (.instanceMethod yX6_init) (by decide +kernel)) rfl (by decide +kernel) ⟨(Nat.le_of_ble_eq_true rfl), (Nat.le_of_ble_eq_true rfl)⟩) (preQ_S (wc := [(q21, .inr (6, [.int 0, .int 0, .null, .int 0]))]) hKG hP hD [11] (by decide +kernel) rfl) rfl rfl hl.1 rfl (lv_room (Nat.le_of_ble_eq_true rfl)) dX3_init_90 ⟨(Nat.le_of_ble_eq_true rfl), (Nat.le_of_ble_eq_true rfl)⟩) hS hP hD hA [11] [0, 1, 2, 3, 4, 5, 6, 7, 8, 9, 10] rfl rfl (by decide +kernel) (by decide +kernel) (fun u24 H locs hr22 hP hD hS => ?_)
  obtain ⟨q_23, rfl⟩ : ∃ z, z = u24 := ⟨_, rfl⟩
  have hP : va_P G.1 vwCl [(ln, .inr (3, [.int 0, .int 0, .ref q1, .ref q5, .ref q9, .ref q13, .ref q17, .null, .null])), (q1, .inr (6, [.int 8, .int 2, .ref q_3, .int 0])), (q_3, .inl (G.2 0, 16, .inl (fun _ => 0))), (q5, .inr (6, [.int 6, .int 3, .ref q_7, .int 0])), (q_7, .inl (G.2 0, 18, .inl (fun _ => 0))), (q9, .inr (6, [.int 6, .int 2, .ref q_11, .int 0])), (q_11, .inl (G.2 0, 12, .inl (fun _ => 0))), (q13, .inr (6, [.int 6, .int 2, .ref q_15, .int 0])), (q_15, .inl (G.2 0, 12, .inl (fun _ => 0))), (q17, .inr (6, [.int 4, .int 5, .ref q_19, .int 0])), (q_19, .inl (G.2 0, 20, .inl (fun _ => 0))), (q21, .inr (6, [.int 5, .int 3, .ref q_23, .int 0])), (q_23, .inl (G.2 0, 15, .inl (fun _ => 0)))] H := hP
  have hD : va_D A [(ln, .inr (3, [.int 0, .int 0, .ref q1, .ref q5, .ref q9, .ref q13, .ref q17, .null, .null])), (q1, .inr (6, [.int 8, .int 2, .ref q_3, .int 0])), (q_3, .inl (G.2 0, 16, .inl (fun _ => 0))), (q5, .inr (6, [.int 6, .int 3, .ref q_7, .int 0])), (q_7, .inl (G.2 0, 18, .inl (fun _ => 0))), (q9, .inr (6, [.int 6, .int 2, .ref q_11, .int 0])), (q_11, .inl (G.2 0, 12, .inl (fun _ => 0))), (q13, .inr (6, [.int 6, .int 2, .ref q_15, .int 0])), (q_15, .inl (G.2 0, 12, .inl (fun _ => 0))), (q17, .inr (6, [.int 4, .int 5, .ref q_19, .int 0])), (q_19, .inl (G.2 0, 20, .inl (fun _ => 0))), (q21, .inr (6, [.int 5, .int 3, .ref q_23, .int 0])), (q_23, .inl (G.2 0, 15, .inl (fun _ => 0)))] := hD
  refine W.widen (k := 12) (n := 117) (Nat.le_of_ble_eq_true rfl) (Nat.le_of_ble_eq_true rfl) ?_
  refine va_putF (D := G.1) (ci := 3) (v := .ref q21) (ty := (.object "SlipCoach$Sheet")) (C := RX3) (T := TX3) (N := 9) hx hb hts (fun w h => List.mem_cons_of_mem _ (List.mem_append_left _ (List.mem_append_right _ h))) tyX3 tyX3_ok nmX3 hown hK hP hD hS 0 rfl rfl 7 (by decide) (hts (.fieldLink RX3 39 "SlipCoach$Line" "trains" "LSlipCoach$Sheet;") (by decide +kernel)) (fun _ h9 => h9) rfl hin rfl (by decide +kernel) rfl rfl (Nat.le_of_ble_eq_true rfl) dX3_init_93 (fun H locs hP hD hS => ?_)
  have hP : va_P G.1 vwCl [(ln, .inr (3, [.int 0, .int 0, .ref q1, .ref q5, .ref q9, .ref q13, .ref q17, .ref q21, .null])), (q1, .inr (6, [.int 8, .int 2, .ref q_3, .int 0])), (q_3, .inl (G.2 0, 16, .inl (fun _ => 0))), (q5, .inr (6, [.int 6, .int 3, .ref q_7, .int 0])), (q_7, .inl (G.2 0, 18, .inl (fun _ => 0))), (q9, .inr (6, [.int 6, .int 2, .ref q_11, .int 0])), (q_11, .inl (G.2 0, 12, .inl (fun _ => 0))), (q13, .inr (6, [.int 6, .int 2, .ref q_15, .int 0])), (q_15, .inl (G.2 0, 12, .inl (fun _ => 0))), (q17, .inr (6, [.int 4, .int 5, .ref q_19, .int 0])), (q_19, .inl (G.2 0, 20, .inl (fun _ => 0))), (q21, .inr (6, [.int 5, .int 3, .ref q_23, .int 0])), (q_23, .inl (G.2 0, 15, .inl (fun _ => 0)))] H := hP
  have hD : va_D A [(ln, .inr (3, [.int 0, .int 0, .ref q1, .ref q5, .ref q9, .ref q13, .ref q17, .ref q21, .null])), (q1, .inr (6, [.int 8, .int 2, .ref q_3, .int 0])), (q_3, .inl (G.2 0, 16, .inl (fun _ => 0))), (q5, .inr (6, [.int 6, .int 3, .ref q_7, .int 0])), (q_7, .inl (G.2 0, 18, .inl (fun _ => 0))), (q9, .inr (6, [.int 6, .int 2, .ref q_11, .int 0])), (q_11, .inl (G.2 0, 12, .inl (fun _ => 0))), (q13, .inr (6, [.int 6, .int 2, .ref q_15, .int 0])), (q_15, .inl (G.2 0, 12, .inl (fun _ => 0))), (q17, .inr (6, [.int 4, .int 5, .ref q_19, .int 0])), (q_19, .inl (G.2 0, 20, .inl (fun _ => 0))), (q21, .inr (6, [.int 5, .int 3, .ref q_23, .int 0])), (q_23, .inl (G.2 0, 15, .inl (fun _ => 0)))] := hD
  refine lv_aload_n hx hb dX3_init_96 rfl (lv_at hl 0 rfl) ?_
  refine va_new (ci := 6) (fs := [.int 0, .int 0, .null, .int 0]) (C := RX6) (T := TX6) (N := 4) hx hb hts (fun w h => List.mem_cons_of_mem _ (List.mem_append_right _ h)) tyX6 tyX6_ok hown (hts (.classLink RX3 18 RX6) (by decide +kernel)) (hts (.instantiable RX6 4) (by decide +kernel)) (hts (.initialized RX6) (by decide +kernel)) hK hP hD hS hA rfl dfX6 (Nat.le_of_ble_eq_true rfl) (Nat.le_of_ble_eq_true rfl) dX3_init_97 (fun q25 H hP hD hS => ?_)
  have hP : va_P G.1 vwCl [(ln, .inr (3, [.int 0, .int 0, .ref q1, .ref q5, .ref q9, .ref q13, .ref q17, .ref q21, .null])), (q1, .inr (6, [.int 8, .int 2, .ref q_3, .int 0])), (q_3, .inl (G.2 0, 16, .inl (fun _ => 0))), (q5, .inr (6, [.int 6, .int 3, .ref q_7, .int 0])), (q_7, .inl (G.2 0, 18, .inl (fun _ => 0))), (q9, .inr (6, [.int 6, .int 2, .ref q_11, .int 0])), (q_11, .inl (G.2 0, 12, .inl (fun _ => 0))), (q13, .inr (6, [.int 6, .int 2, .ref q_15, .int 0])), (q_15, .inl (G.2 0, 12, .inl (fun _ => 0))), (q17, .inr (6, [.int 4, .int 5, .ref q_19, .int 0])), (q_19, .inl (G.2 0, 20, .inl (fun _ => 0))), (q21, .inr (6, [.int 5, .int 3, .ref q_23, .int 0])), (q_23, .inl (G.2 0, 15, .inl (fun _ => 0))), (q25, .inr (6, [.int 0, .int 0, .null, .int 0]))] H := hP
  have hD : va_D A [(ln, .inr (3, [.int 0, .int 0, .ref q1, .ref q5, .ref q9, .ref q13, .ref q17, .ref q21, .null])), (q1, .inr (6, [.int 8, .int 2, .ref q_3, .int 0])), (q_3, .inl (G.2 0, 16, .inl (fun _ => 0))), (q5, .inr (6, [.int 6, .int 3, .ref q_7, .int 0])), (q_7, .inl (G.2 0, 18, .inl (fun _ => 0))), (q9, .inr (6, [.int 6, .int 2, .ref q_11, .int 0])), (q_11, .inl (G.2 0, 12, .inl (fun _ => 0))), (q13, .inr (6, [.int 6, .int 2, .ref q_15, .int 0])), (q_15, .inl (G.2 0, 12, .inl (fun _ => 0))), (q17, .inr (6, [.int 4, .int 5, .ref q_19, .int 0])), (q_19, .inl (G.2 0, 20, .inl (fun _ => 0))), (q21, .inr (6, [.int 5, .int 3, .ref q_23, .int 0])), (q_23, .inl (G.2 0, 15, .inl (fun _ => 0))), (q25, .inr (6, [.int 0, .int 0, .null, .int 0]))] := hD
  refine W.widen (k := 13) (n := 121) (Nat.le_of_ble_eq_true rfl) (Nat.le_of_ble_eq_true rfl) ?_
  refine lv_dup hx hb dX3_init_100 rfl ?_
  refine lv_bipush (v := 16) hx hb dX3_init_101 (by decide) ?_
  refine lv_iconst (v := 5) hx hb dX3_init_103 (by decide) ?_
  refine wq_callv (wr := [(ln, .inr (3, [.int 0, .int 0, .ref q1, .ref q5, .ref q9, .ref q13, .ref q17, .ref q21, .null])), (q1, .inr (6, [.int 8, .int 2, .ref q_3, .int 0])), (q_3, .inl (G.2 0, 16, .inl (fun _ => 0))), (q5, .inr (6, [.int 6, .int 3, .ref q_7, .int 0])), (q_7, .inl (G.2 0, 18, .inl (fun _ => 0))), (q9, .inr (6, [.int 6, .int 2, .ref q_11, .int 0])), (q_11, .inl (G.2 0, 12, .inl (fun _ => 0))), (q13, .inr (6, [.int 6, .int 2, .ref q_15, .int 0])), (q_15, .inl (G.2 0, 12, .inl (fun _ => 0))), (q17, .inr (6, [.int 4, .int 5, .ref q_19, .int 0])), (q_19, .inl (G.2 0, 20, .inl (fun _ => 0))), (q21, .inr (6, [.int 5, .int 3, .ref q_23, .int 0])), (q_23, .inl (G.2 0, 15, .inl (fun _ => 0)))]) (va_runI (As := [.int 16, .int 5]) (rest := [.ref q25, .ref ln]) ⟨hx, hb, hml, hown, hts⟩ (c_newSheet_16_5 l G q25 H.size) (cwI 2 hts gX3_init_X6_init rfl rfl rfl (hts (.initialized RX6) (by decide +kernel)) (hts (.methodLink RX3 20 yX6_init) (by decide +kernel)) (hts (.instanceMethod yX6_init) (by decide +kernel)) rfl (by decide +kernel) ⟨(Nat.le_of_ble_eq_true rfl), (Nat.le_of_ble_eq_true rfl)⟩) (preQ_S (wc := [(q25, .inr (6, [.int 0, .int 0, .null, .int 0]))]) hKG hP hD [13] (by decide +kernel) rfl) rfl rfl hl.1 rfl (lv_room (Nat.le_of_ble_eq_true rfl)) dX3_init_104 ⟨(Nat.le_of_ble_eq_true rfl), (Nat.le_of_ble_eq_true rfl)⟩) hS hP hD hA [13] [0, 1, 2, 3, 4, 5, 6, 7, 8, 9, 10, 11, 12] rfl rfl (by decide +kernel) (by decide +kernel) (fun u28 H locs hr26 hP hD hS => ?_)
  obtain ⟨q_27, rfl⟩ : ∃ z, z = u28 := ⟨_, rfl⟩
  have hP : va_P G.1 vwCl [(ln, .inr (3, [.int 0, .int 0, .ref q1, .ref q5, .ref q9, .ref q13, .ref q17, .ref q21, .null])), (q1, .inr (6, [.int 8, .int 2, .ref q_3, .int 0])), (q_3, .inl (G.2 0, 16, .inl (fun _ => 0))), (q5, .inr (6, [.int 6, .int 3, .ref q_7, .int 0])), (q_7, .inl (G.2 0, 18, .inl (fun _ => 0))), (q9, .inr (6, [.int 6, .int 2, .ref q_11, .int 0])), (q_11, .inl (G.2 0, 12, .inl (fun _ => 0))), (q13, .inr (6, [.int 6, .int 2, .ref q_15, .int 0])), (q_15, .inl (G.2 0, 12, .inl (fun _ => 0))), (q17, .inr (6, [.int 4, .int 5, .ref q_19, .int 0])), (q_19, .inl (G.2 0, 20, .inl (fun _ => 0))), (q21, .inr (6, [.int 5, .int 3, .ref q_23, .int 0])), (q_23, .inl (G.2 0, 15, .inl (fun _ => 0))), (q25, .inr (6, [.int 16, .int 5, .ref q_27, .int 0])), (q_27, .inl (G.2 0, 80, .inl (fun _ => 0)))] H := hP
  have hD : va_D A [(ln, .inr (3, [.int 0, .int 0, .ref q1, .ref q5, .ref q9, .ref q13, .ref q17, .ref q21, .null])), (q1, .inr (6, [.int 8, .int 2, .ref q_3, .int 0])), (q_3, .inl (G.2 0, 16, .inl (fun _ => 0))), (q5, .inr (6, [.int 6, .int 3, .ref q_7, .int 0])), (q_7, .inl (G.2 0, 18, .inl (fun _ => 0))), (q9, .inr (6, [.int 6, .int 2, .ref q_11, .int 0])), (q_11, .inl (G.2 0, 12, .inl (fun _ => 0))), (q13, .inr (6, [.int 6, .int 2, .ref q_15, .int 0])), (q_15, .inl (G.2 0, 12, .inl (fun _ => 0))), (q17, .inr (6, [.int 4, .int 5, .ref q_19, .int 0])), (q_19, .inl (G.2 0, 20, .inl (fun _ => 0))), (q21, .inr (6, [.int 5, .int 3, .ref q_23, .int 0])), (q_23, .inl (G.2 0, 15, .inl (fun _ => 0))), (q25, .inr (6, [.int 16, .int 5, .ref q_27, .int 0])), (q_27, .inl (G.2 0, 80, .inl (fun _ => 0)))] := hD
  refine W.widen (k := 14) (n := 201) (Nat.le_of_ble_eq_true rfl) (Nat.le_of_ble_eq_true rfl) ?_
  refine va_putF (D := G.1) (ci := 3) (v := .ref q25) (ty := (.object "SlipCoach$Sheet")) (C := RX3) (T := TX3) (N := 9) hx hb hts (fun w h => List.mem_cons_of_mem _ (List.mem_append_left _ (List.mem_append_right _ h))) tyX3 tyX3_ok nmX3 hown hK hP hD hS 0 rfl rfl 8 (by decide) (hts (.fieldLink RX3 42 "SlipCoach$Line" "coaches" "LSlipCoach$Sheet;") (by decide +kernel)) (fun _ h9 => h9) rfl hin rfl (by decide +kernel) rfl rfl (Nat.le_of_ble_eq_true rfl) dX3_init_107 (fun H locs hP hD hS => ?_)
  have hP : va_P G.1 vwCl [(ln, .inr (3, [.int 0, .int 0, .ref q1, .ref q5, .ref q9, .ref q13, .ref q17, .ref q21, .ref q25])), (q1, .inr (6, [.int 8, .int 2, .ref q_3, .int 0])), (q_3, .inl (G.2 0, 16, .inl (fun _ => 0))), (q5, .inr (6, [.int 6, .int 3, .ref q_7, .int 0])), (q_7, .inl (G.2 0, 18, .inl (fun _ => 0))), (q9, .inr (6, [.int 6, .int 2, .ref q_11, .int 0])), (q_11, .inl (G.2 0, 12, .inl (fun _ => 0))), (q13, .inr (6, [.int 6, .int 2, .ref q_15, .int 0])), (q_15, .inl (G.2 0, 12, .inl (fun _ => 0))), (q17, .inr (6, [.int 4, .int 5, .ref q_19, .int 0])), (q_19, .inl (G.2 0, 20, .inl (fun _ => 0))), (q21, .inr (6, [.int 5, .int 3, .ref q_23, .int 0])), (q_23, .inl (G.2 0, 15, .inl (fun _ => 0))), (q25, .inr (6, [.int 16, .int 5, .ref q_27, .int 0])), (q_27, .inl (G.2 0, 80, .inl (fun _ => 0)))] H := hP
  have hD : va_D A [(ln, .inr (3, [.int 0, .int 0, .ref q1, .ref q5, .ref q9, .ref q13, .ref q17, .ref q21, .ref q25])), (q1, .inr (6, [.int 8, .int 2, .ref q_3, .int 0])), (q_3, .inl (G.2 0, 16, .inl (fun _ => 0))), (q5, .inr (6, [.int 6, .int 3, .ref q_7, .int 0])), (q_7, .inl (G.2 0, 18, .inl (fun _ => 0))), (q9, .inr (6, [.int 6, .int 2, .ref q_11, .int 0])), (q_11, .inl (G.2 0, 12, .inl (fun _ => 0))), (q13, .inr (6, [.int 6, .int 2, .ref q_15, .int 0])), (q_15, .inl (G.2 0, 12, .inl (fun _ => 0))), (q17, .inr (6, [.int 4, .int 5, .ref q_19, .int 0])), (q_19, .inl (G.2 0, 20, .inl (fun _ => 0))), (q21, .inr (6, [.int 5, .int 3, .ref q_23, .int 0])), (q_23, .inl (G.2 0, 15, .inl (fun _ => 0))), (q25, .inr (6, [.int 16, .int 5, .ref q_27, .int 0])), (q_27, .inl (G.2 0, 80, .inl (fun _ => 0)))] := hD
  refine W.widen (k := 14) (n := 201) (Nat.le_of_ble_eq_true rfl) (Nat.le_of_ble_eq_true rfl) ?_
  exact W.vret hx hb hr (fun t ht hW => ⟨⟨(q1, q5, q9, q13, q17, q21, q25, q_3, q_7, q_11, q_15, q_19, q_23, q_27), rfl, trivial, ⟨by rw [ht]; exact hP.sub [0, 1, 3, 5, 7, 9, 11, 13, 2, 4, 6, 8, 10, 12, 14] rfl, hD.sub [0, 1, 3, 5, 7, 9, 11, 13, 2, 4, 6, 8, 10, 12, 14] (by decide +kernel) rfl⟩⟩, hS.F ht⟩) hS.2.2 dX3_init_110
