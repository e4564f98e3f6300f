set_option maxHeartbeats 4000000 in
set_option maxRecDepth 100000 in
theorem lp_fillJ {p : Program} {l : Launch} {e : Env} {R : Room} {s : State} {m : MethodId} {args : Array Value} {below : List Frame} {meth : Method} {c : Code} {A : Nat → Prop} {Q : State → Prop} {cells slots : Nat} (G : KG) (a0 : Nat) (n0 : Nat) (va0 : Int64) (hx : p.tables.exec = Jvm.exec) (hb : c.code = cJ7_fill_d0a16) (hw : ∀ w ∈ wG, w.before args s = true) (hown : s.vm.findClass RJ7 = some m.cls) (hK : va_K G.1 vwCl (tyG G) s) (hn0 : n0 ≤ 100000)
    (kk : ∀ (f : Nat → Int64) (H : Heap) (locs : List Loc), va_P G.1 vwCl [(a0, .inl (G.2 3, n0, .inr (.inl f)))] H → va_D A [(a0, .inl (G.2 3, n0, .inr (.inl f)))] → va_S A s.heap H locs → ∀ (ls : Array Slot), lv_has ls 5 [(0, .ref a0), (1, .long va0), (3, .int (nI n0)), (4, .int (nI n0))] → W p l e R s m args below meth c H locs cells slots Q (F0 m 22 ls [])) :
    ∀ (n i : Nat), i ≤ n0 → n0 < i + n → ∀ (f : Nat → Int64) (H : Heap) (locs : List Loc), va_P G.1 vwCl [(a0, .inl (G.2 3, n0, .inr (.inl f)))] H → va_D A [(a0, .inl (G.2 3, n0, .inr (.inl f)))] → va_S A s.heap H locs → ∀ (ls : Array Slot), lv_has ls 5 [(0, .ref a0), (1, .long va0), (3, .int (nI i)), (4, .int (nI n0))] → W p l e R s m args below meth c H locs cells slots Q (F0 m 6 ls []) := by
  intro n
  induction n with
  | zero => intro i h1 h2; exact absurd h2 (by omega)
  | succ n ih =>
    intro i hi hin f H locs hP hD hS ls hl
    refine lv_iload_n hx hb dJ7_fill_d0a16_6 rfl (lv_at hl 2 rfl) ?_
    refine lv_iload hx hb dJ7_fill_d0a16_7 (lv_at hl 3 rfl) ?_
    refine lv_icmp_ge (tgt := 22) hx hb dJ7_fill_d0a16_9 (by decide) (fun c1 => ?_) (fun c1 => ?_)
    · have c1 : n0 ≤ i := (nI_leI (a := n0) (b := i) (by omega) (by omega)).mp c1
      obtain rfl : i = n0 := by omega
      exact kk f _ _ hP hD hS ls (lv_sub hl [0, 1, 2, 3] rfl)
    · have c1 : ¬ (n0 ≤ i) := fun z => c1 ((nI_leI (a := n0) (b := i) (by omega) (by omega)).mpr z)
      refine lv_aload_n hx hb dJ7_fill_d0a16_12 rfl (lv_at hl 0 rfl) ?_
      refine lv_iload_n hx hb dJ7_fill_d0a16_13 rfl (lv_at hl 2 rfl) ?_
      refine lv_lload_n hx hb dJ7_fill_d0a16_14 rfl (lv_at hl 1 rfl) ?_
      refine va_last hx hb hK hP hD hS 0 3 rfl rfl (vp_in_nI (n := i) (N := n0) (by omega) (by omega)) dJ7_fill_d0a16_15 (fun H locs hP hD hS => ?_)
      have hP : va_P G.1 vwCl [(a0, .inl (G.2 3, n0, .inr (.inl (vp_updL f (nI i).toNatClampNeg va0))))] H := hP
      have hD : va_D A [(a0, .inl (G.2 3, n0, .inr (.inl (vp_updL f (nI i).toNatClampNeg va0))))] := hD
      generalize (vp_updL f (nI i).toNatClampNeg va0) = f2 at hP hD
      refine lv_iinc (v := nI (i + 1)) (lv' := [(3, .int (nI (i + 1))), (0, .ref a0), (1, .long va0), (4, .int (nI n0))]) hx hb dJ7_fill_d0a16_16 hl (k := 2) rfl (nI_1 _) (by decide) rfl (fun ls hl => ?_)
      refine lv_goto (tgt := 6) hx hb dJ7_fill_d0a16_19 (by decide) ?_
      exact ih (i + 1) (by omega) (by omega) f2 _ _ hP hD hS ls (lv_sub hl [1, 2, 0, 3] rfl)
set_option maxHeartbeats 4000000 in
set_option maxRecDepth 100000 in
theorem c_fillJ (l : Launch) (G : KG) (a0 : Nat) (n0 : Nat) (va0 : Int64) (f0 : Nat → Int64) (sz : Nat) (hn0 : n0 ≤ 100000) : Met l yJ7_fill_d0a16 wgJ7_fill_d0a16 ({ frames := 0, cells := 0, slots := 0, locals := 0 }) (preQ G [.ref a0, .long va0] sz [(a0, .inl (G.2 3, n0, .inr (.inl f0)))]) (va_Qv (fun (u : (Nat → Int64)) => True) (fun u t => atQ G (va_A [(a0, .inl (G.2 3, n0, .inr (.inl f0)))] sz) [(a0, .inl (G.2 3, n0, .inr (.inl u)))] t) (va_A [(a0, .inl (G.2 3, n0, .inr (.inl f0)))] sz)) 0 0 (va_A [(a0, .inl (G.2 3, n0, .inr (.inl f0)))] sz) := by
  refine Met.ofW (cc := cJ7_fill_d0a16) (maxL := 5) (ret := none) (by decide) rfl ?_
  intro p e s m args below meth c s₁ B hml hv
  obtain ⟨rfl, hsz, hP, hKG, hD0⟩ := hv
  obtain ⟨hK, hAO⟩ := id hKG
  have hx := B.exec
  have hb := B.bytes
  have hr := B.returns
  have hts := atoms_spec (ws := wgJ7_fill_d0a16) B.pre
  have hw : ∀ w ∈ wG, w.before _ s = true := fun w h => hts w (List.mem_cons_of_mem _ h)
  have hown : s.vm.findClass RJ7 = some m.cls := findClass_of_methodNamed B.named
  have hlocks := B.notSynchronized
  subst hsz
  have hD := hD0.self (sz := s.heap.size)
  generalize hAe : va_A [(a0, .inl (G.2 3, n0, .inr (.inl f0)))] s.heap.size = A at hD ⊢
  have hA : ∀ q : Nat, s.heap.size ≤ q → A q := fun q h => by rw [← hAe]; exact Or.inr h
  have hS : va_S A s.heap s.heap [] := va_S.rf
  have hl := lv_entry ([.ref a0, .long va0]) (n := 5) (Nat.le_of_ble_eq_true rfl)
  rw [lg_entry_eq]
  generalize (lg_sl ([.ref a0, .long va0]) ++ List.replicate (5 - (lg_sl ([.ref a0, .long va0])).length) Slot.unset).toArray = ls at hl ⊢
  have hl : lv_has ls 5 [(0, .ref a0), (1, .long va0)] := hl
  refine lv_iconst (v := 0) hx hb dJ7_fill_d0a16_0 (by decide) ?_
  refine lv_istore_n (lv' := [(3, .int 0), (0, .ref a0), (1, .long va0)]) hx hb dJ7_fill_d0a16_1 rfl hl (by decide) rfl (fun ls hl => ?_)
  refine lv_aload_n hx hb dJ7_fill_d0a16_2 rfl (lv_at hl 1 rfl) ?_
  refine va_alen (v := nI n0) hx hb hK hP 0 3 rfl rfl rfl dJ7_fill_d0a16_3 ?_
  refine lv_istore (lv' := [(4, .int (nI n0)), (3, .int 0), (0, .ref a0), (1, .long va0)]) hx hb dJ7_fill_d0a16_4 hl (by decide) rfl (fun ls hl => ?_)
  refine lp_fillJ G a0 n0 va0 hx hb hw hown hK hn0 (fun f1 H locs hP hD hS ls hl => ?_) (n0 + 1) 0 (by omega) (by omega) f0 _ _ (hP.sub [0] rfl) (hD.sub [0] (by decide +kernel) rfl) hS ls (lv_sub hl [2, 3, 1, 0] rfl)
  have hP : va_P G.1 vwCl [(a0, .inl (G.2 3, n0, .inr (.inl f1)))] H := hP
  have hD : va_D A [(a0, .inl (G.2 3, n0, .inr (.inl f1)))] := hD
  exact W.vret hx hb hr (fun t ht hW => ⟨⟨f1, rfl, trivial, ⟨by rw [ht]; exact hP.sub [0] rfl, hD.sub [0] (by decide +kernel) rfl⟩⟩, hS.F ht⟩) hS.2.2 dJ7_fill_d0a16_22
set_option maxHeartbeats 4000000 in
set_option maxRecDepth 100000 in
theorem lp_fillI {p : Program} {l : Launch} {e : Env} {R : Room} {s : State} {m : MethodId} {args : Array Value} {below : List Frame} {meth : Method} {c : Code} {A : Nat → Prop} {Q : State → Prop} {cells slots : Nat} (G : KG) (a0 : Nat) (n0 : Nat) (va0 : Int32) (hx : p.tables.exec = Jvm.exec) (hb : c.code = cJ7_fill_53178) (hw : ∀ w ∈ wG, w.before args s = true) (hown : s.vm.findClass RJ7 = some m.cls) (hK : va_K G.1 vwCl (tyG G) s) (hn0 : n0 ≤ 100000)
    (kk : ∀ (f : Nat → Int32) (H : Heap) (locs : List Loc), va_P G.1 vwCl [(a0, .inl (G.2 0, n0, .inl f))] H → va_D A [(a0, .inl (G.2 0, n0, .inl f))] → va_S A s.heap H locs → ∀ (ls : Array Slot), lv_has ls 4 [(0, .ref a0), (1, .int va0), (2, .int (nI n0)), (3, .int (nI n0))] → W p l e R s m args below meth c H locs cells slots Q (F0 m 20 ls [])) :
    ∀ (n i : Nat), i ≤ n0 → n0 < i + n → ∀ (f : Nat → Int32) (H : Heap) (locs : List Loc), va_P G.1 vwCl [(a0, .inl (G.2 0, n0, .inl f))] H → va_D A [(a0, .inl (G.2 0, n0, .inl f))] → va_S A s.heap H locs → ∀ (ls : Array Slot), lv_has ls 4 [(0, .ref a0), (1, .int va0), (2, .int (nI i)), (3, .int (nI n0))] → W p l e R s m args below meth c H locs cells slots Q (F0 m 5 ls []) := by
  intro n
  induction n with
  | zero => intro i h1 h2; exact absurd h2 (by omega)
  | succ n ih =>
    intro i hi hin f H locs hP hD hS ls hl
    refine lv_iload_n hx hb dJ7_fill_53178_5 rfl (lv_at hl 2 rfl) ?_
    refine lv_iload_n hx hb dJ7_fill_53178_6 rfl (lv_at hl 3 rfl) ?_
    refine lv_icmp_ge (tgt := 20) hx hb dJ7_fill_53178_7 (by decide) (fun c1 => ?_) (fun c1 => ?_)
    · have c1 : n0 ≤ i := (nI_leI (a := n0) (b := i) (by omega) (by omega)).mp c1
      obtain rfl : i = n0 := by omega
      exact kk f _ _ hP hD hS ls (lv_sub hl [0, 1, 2, 3] rfl)
    · have c1 : ¬ (n0 ≤ i) := fun z => c1 ((nI_leI (a := n0) (b := i) (by omega) (by omega)).mpr z)
      refine lv_aload_n hx hb dJ7_fill_53178_10 rfl (lv_at hl 0 rfl) ?_
      refine lv_iload_n hx hb dJ7_fill_53178_11 rfl (lv_at hl 2 rfl) ?_
      refine lv_iload_n hx hb dJ7_fill_53178_12 rfl (lv_at hl 1 rfl) ?_
      refine va_iast hx hb hK hP hD hS 0 0 rfl rfl (vp_in_nI (n := i) (N := n0) (by omega) (by omega)) dJ7_fill_53178_13 (fun H locs hP hD hS => ?_)
      have hP : va_P G.1 vwCl [(a0, .inl (G.2 0, n0, .inl (upd f (nI i).toNatClampNeg va0)))] H := hP
      have hD : va_D A [(a0, .inl (G.2 0, n0, .inl (upd f (nI i).toNatClampNeg va0)))] := hD
      generalize (upd f (nI i).toNatClampNeg va0) = f2 at hP hD
      refine lv_iinc (v := nI (i + 1)) (lv' := [(2, .int (nI (i + 1))), (0, .ref a0), (1, .int va0), (3, .int (nI n0))]) hx hb dJ7_fill_53178_14 hl (k := 2) rfl (nI_1 _) (by decide) rfl (fun ls hl => ?_)
      refine lv_goto (tgt := 5) hx hb dJ7_fill_53178_17 (by decide) ?_
      exact ih (i + 1) (by omega) (by omega) f2 _ _ hP hD hS ls (lv_sub hl [1, 2, 0, 3] rfl)
set_option maxHeartbeats 4000000 in
set_option maxRecDepth 100000 in
theorem c_fillI (l : Launch) (G : KG) (a0 : Nat) (n0 : Nat) (va0 : Int32) (f0 : Nat → Int32) (sz : Nat) (hn0 : n0 ≤ 100000) : Met l yJ7_fill_53178 wgJ7_fill_53178 ({ frames := 0, cells := 0, slots := 0, locals := 0 }) (preQ G [.ref a0, .int va0] sz [(a0, .inl (G.2 0, n0, .inl f0))]) (va_Qv (fun (u : (Nat → Int32)) => True) (fun u t => atQ G (va_A [(a0, .inl (G.2 0, n0, .inl f0))] sz) [(a0, .inl (G.2 0, n0, .inl u))] t) (va_A [(a0, .inl (G.2 0, n0, .inl f0))] sz)) 0 0 (va_A [(a0, .inl (G.2 0, n0, .inl f0))] sz) := by
  refine Met.ofW (cc := cJ7_fill_53178) (maxL := 4) (ret := none) (by decide) rfl ?_
  intro p e s m args below meth c s₁ B hml hv
  obtain ⟨rfl, hsz, hP, hKG, hD0⟩ := hv
  obtain ⟨hK, hAO⟩ := id hKG
  have hx := B.exec
  have hb := B.bytes
  have hr := B.returns
  have hts := atoms_spec (ws := wgJ7_fill_53178) B.pre
  have hw : ∀ w ∈ wG, w.before _ s = true := fun w h => hts w (List.mem_cons_of_mem _ h)
  have hown : s.vm.findClass RJ7 = some m.cls := findClass_of_methodNamed B.named
  have hlocks := B.notSynchronized
  subst hsz
  have hD := hD0.self (sz := s.heap.size)
  generalize hAe : va_A [(a0, .inl (G.2 0, n0, .inl f0))] s.heap.size = A at hD ⊢
  have hA : ∀ q : Nat, s.heap.size ≤ q → A q := fun q h => by rw [← hAe]; exact Or.inr h
  have hS : va_S A s.heap s.heap [] := va_S.rf
  have hl := lv_entry ([.ref a0, .int va0]) (n := 4) (Nat.le_of_ble_eq_true rfl)
  rw [lg_entry_eq]
  generalize (lg_sl ([.ref a0, .int va0]) ++ List.replicate (4 - (lg_sl ([.ref a0, .int va0])).length) Slot.unset).toArray = ls at hl ⊢
  have hl : lv_has ls 4 [(0, .ref a0), (1, .int va0)] := hl
  refine lv_iconst (v := 0) hx hb dJ7_fill_53178_0 (by decide) ?_
  refine lv_istore_n (lv' := [(2, .int 0), (0, .ref a0), (1, .int va0)]) hx hb dJ7_fill_53178_1 rfl hl (by decide) rfl (fun ls hl => ?_)
  refine lv_aload_n hx hb dJ7_fill_53178_2 rfl (lv_at hl 1 rfl) ?_
  refine va_alen (v := nI n0) hx hb hK hP 0 0 rfl rfl rfl dJ7_fill_53178_3 ?_
  refine lv_istore_n (lv' := [(3, .int (nI n0)), (2, .int 0), (0, .ref a0), (1, .int va0)]) hx hb dJ7_fill_53178_4 rfl hl (by decide) rfl (fun ls hl => ?_)
  refine lp_fillI G a0 n0 va0 hx hb hw hown hK hn0 (fun f1 H locs hP hD hS ls hl => ?_) (n0 + 1) 0 (by omega) (by omega) f0 _ _ (hP.sub [0] rfl) (hD.sub [0] (by decide +kernel) rfl) hS ls (lv_sub hl [2, 3, 1, 0] rfl)
  have hP : va_P G.1 vwCl [(a0, .inl (G.2 0, n0, .inl f1))] H := hP
  have hD : va_D A [(a0, .inl (G.2 0, n0, .inl f1))] := hD
  exact W.vret hx hb hr (fun t ht hW => ⟨⟨f1, rfl, trivial, ⟨by rw [ht]; exact hP.sub [0] rfl, hD.sub [0] (by decide +kernel) rfl⟩⟩, hS.F ht⟩) hS.2.2 dJ7_fill_53178_20
set_option maxHeartbeats 4000000 in
set_option maxRecDepth 100000 in
theorem c_hold (l : Launch) (G : KG) (h0 : Nat) (nu : Nat) (f0 : Nat → Int64) (p0 : Int32) (p1 : Int32) (sz : Nat) : Met l yX8_hold wgX8_hold ({ frames := 1, cells := 0, slots := 0, locals := 24 }) (preQ G [.ref h0, .int p0, .int p1] sz [(h0, .inr (8, [.ref nu, .int (-1), .int 0])), (nu, .inl (G.2 3, 60, .inr (.inl f0)))]) (va_Qv (fun (u : Unit) => True) (fun u t => atQ G (va_A [(h0, .inr (8, [.ref nu, .int (-1), .int 0])), (nu, .inl (G.2 3, 60, .inr (.inl f0)))] sz) [] t) (va_A [(h0, .inr (8, [.ref nu, .int (-1), .int 0])), (nu, .inl (G.2 3, 60, .inr (.inl f0)))] sz)) 0 0 (va_A [(h0, .inr (8, [.ref nu, .int (-1), .int 0])), (nu, .inl (G.2 3, 60, .inr (.inl f0)))] sz) := by
  refine Met.ofW (cc := cX8_hold) (maxL := 3) (ret := none) (by decide) rfl ?_
  intro p e s m args below meth c s₁ B hml hv
  obtain ⟨rfl, hsz, hP, hKG, hD0⟩ := hv
  obtain ⟨hK, hAO⟩ := id hKG
  have hx := B.exec
  have hb := B.bytes
  have hr := B.returns
  have hts := atoms_spec (ws := wgX8_hold) B.pre
  have hw : ∀ w ∈ wG, w.before _ s = true := fun w h => hts w (List.mem_cons_of_mem _ h)
  have hown : s.vm.findClass RX8 = some m.cls := findClass_of_methodNamed B.named
  have hlocks := B.notSynchronized
  subst hsz
  have hD := hD0.self (sz := s.heap.size)
  generalize hAe : va_A [(h0, .inr (8, [.ref nu, .int (-1), .int 0])), (nu, .inl (G.2 3, 60, .inr (.inl f0)))] s.heap.size = A at hD ⊢
  have hA : ∀ q : Nat, s.heap.size ≤ q → A q := fun q h => by rw [← hAe]; exact Or.inr h
  have hS : va_S A s.heap s.heap [] := va_S.rf
  have hl := lv_entry ([.ref h0, .int p0, .int p1]) (n := 3) (Nat.le_of_ble_eq_true rfl)
  rw [lg_entry_eq]
  generalize (lg_sl ([.ref h0, .int p0, .int p1]) ++ List.replicate (3 - (lg_sl ([.ref h0, .int p0, .int p1])).length) Slot.unset).toArray = ls at hl ⊢
  have hl : lv_has ls 3 [(0, .ref h0), (1, .int p0), (2, .int p1)] := hl
  refine lv_aload_n hx hb dX8_hold_0 rfl (lv_at hl 0 rfl) ?_
  refine lv_iload_n hx hb dX8_hold_1 rfl (lv_at hl 1 rfl) ?_
  refine va_put (D := G.1) (ci := 8) (v := .int p0) (ty := .int) (C := RX8) (T := TX8) (N := 3) hx hb hw inGX8 tyX8 tyX8_ok nmX8 hown hK hP hD hS 0 rfl rfl 1 (by decide) (hw _ kw_49) (fun _ h9 => h9) rfl (by decide +kernel) rfl rfl (Nat.le_of_ble_eq_true rfl) dX8_hold_2 (fun H locs hP hD hS => ?_)
  have hP : va_P G.1 vwCl [(h0, .inr (8, [.ref nu, .int p0, .int 0])), (nu, .inl (G.2 3, 60, .inr (.inl f0)))] H := hP
  have hD : va_D A [(h0, .inr (8, [.ref nu, .int p0, .int 0])), (nu, .inl (G.2 3, 60, .inr (.inl f0)))] := hD
  refine lv_aload_n hx hb dX8_hold_5 rfl (lv_at hl 0 rfl) ?_
  refine lv_iconst (v := 0) hx hb dX8_hold_6 (by decide) ?_
  refine lv_bipush (v := 60) hx hb dX8_hold_7 (by decide) ?_
  refine lv_iload_n hx hb dX8_hold_9 rfl (lv_at hl 2 rfl) ?_
  refine va_mmin hx hb (by rw [hml]; exact hl.1.symm) hown (hw _ kw_71) (hw _ kw_72) (hw _ kw_73) (hw _ kw_74) (Nat.le_of_ble_eq_true rfl) (Nat.le_of_ble_eq_true rfl) (Nat.le_of_ble_eq_true rfl) (Nat.le_of_ble_eq_true rfl) dX8_hold_10 ?_
  refine lv_topi (fun v1 ev1 => ?_)
  refine va_mmax hx hb (by rw [hml]; exact hl.1.symm) hown (hw _ kw_75) (hw _ kw_76) (hw _ kw_73) (hw _ kw_77) (Nat.le_of_ble_eq_true rfl) (Nat.le_of_ble_eq_true rfl) (Nat.le_of_ble_eq_true rfl) (Nat.le_of_ble_eq_true rfl) dX8_hold_13 ?_
  refine lv_topi (fun v2 ev2 => ?_)
  refine va_put (D := G.1) (ci := 8) (v := .int v2) (ty := .int) (C := RX8) (T := TX8) (N := 3) hx hb hw inGX8 tyX8 tyX8_ok nmX8 hown hK hP hD hS 0 rfl rfl 2 (by decide) (hw _ kw_78) (fun _ h9 => h9) rfl (by decide +kernel) rfl rfl (Nat.le_of_ble_eq_true rfl) dX8_hold_16 (fun H locs hP hD hS => ?_)
  have hP : va_P G.1 vwCl [(h0, .inr (8, [.ref nu, .int p0, .int v2])), (nu, .inl (G.2 3, 60, .inr (.inl f0)))] H := hP
  have hD : va_D A [(h0, .inr (8, [.ref nu, .int p0, .int v2])), (nu, .inl (G.2 3, 60, .inr (.inl f0)))] := hD
  refine lv_aload_n hx hb dX8_hold_19 rfl (lv_at hl 0 rfl) ?_
  refine va_get (D := G.1) (ci := 8) (v := .ref nu) (C := RX8) (T := TX8) (N := 3) hx hb hw inGX8 hown hK hP 0 rfl rfl 0 (by decide) (hw _ kw_79) (fun _ h9 => h9) rfl dX8_hold_20 ?_
  refine lv_lconst (v := 0) hx hb dX8_hold_23 (by decide) ?_
  refine wq_callv (wr := [(h0, .inr (8, [.ref nu, .int p0, .int v2]))]) (va_runS (As := [.ref nu, .long 0]) (rest := []) ⟨hx, hb, hml, hown, hw⟩ (c_fillJ l G nu 60 0 f0 H.size (by decide)) (va_cwS 2 hw (gdT kw_81 kw_82 kw_83 kw_80) rfl rfl rfl hdJ7_fill_d0a16 ⟨(Nat.le_of_ble_eq_true rfl), (Nat.le_of_ble_eq_true rfl)⟩) (preQ_S (wc := [(nu, .inl (G.2 3, 60, .inr (.inl f0)))]) hKG hP hD [1] (by decide +kernel) rfl) rfl rfl hl.1 rfl (lv_room (Nat.le_of_ble_eq_true rfl)) dX8_hold_24 ⟨(Nat.le_of_ble_eq_true rfl), (Nat.le_of_ble_eq_true rfl)⟩) hS hP hD hA [1] [0] rfl rfl (by decide +kernel) (by decide +kernel) (fun u5 H locs hr3 hP hD hS => ?_)
  obtain ⟨g_4, rfl⟩ : ∃ z, z = u5 := ⟨_, rfl⟩
  have hP : va_P G.1 vwCl [(h0, .inr (8, [.ref nu, .int p0, .int v2])), (nu, .inl (G.2 3, 60, .inr (.inl g_4)))] H := hP
  have hD : va_D A [(h0, .inr (8, [.ref nu, .int p0, .int v2])), (nu, .inl (G.2 3, 60, .inr (.inl g_4)))] := hD
  refine W.widen (k := 0) (n := 0) (Nat.le_of_ble_eq_true rfl) (Nat.le_of_ble_eq_true rfl) ?_
  exact W.vret hx hb hr (fun t ht hW => ⟨⟨(), rfl, trivial, ⟨by rw [ht]; exact hP.sub [] rfl, hD.sub [] (by decide +kernel) rfl⟩⟩, hS.F ht⟩) hS.2.2 dX8_hold_27
set_option maxHeartbeats 4000000 in
set_option maxRecDepth 100000 in
theorem c_X10_row (l : Launch) (G : KG) (x0 : Nat) (tp : Nat) (rd : Nat) (nw : Nat) (sp : Nat) (im : Nat) (ir : Nat) (kp : Nat) (sl : Nat) (tk : Nat) (hn : Nat) (rc : Nat) (jn : Nat) (br : Nat) (sh : Nat) (s0 : Nat) (s1 : Nat) (s2 : Nat) (s3 : Nat) (n0 : Nat) (n1 : Nat) (n2 : Nat) (n3 : Nat) (p0 : Int32) (p1 : Int32) (p2 : Int32) (sz : Nat) : Met l yX10_row wgX10_row ({ frames := 2, cells := 0, slots := 0, locals := 46 }) (preQ G [.ref x0, .int p0, .int p1, .int p2] sz [(x0, .inr (10, [.ref tp, .int 0, .ref rd, .ref nw, .ref sp, .ref im, .ref ir, .ref kp, .ref sl, .ref tk, .ref hn, .ref rc, .ref jn, .ref br, .ref sh])), (sl, .inl (G.2 5, 4, .inr (.inr (.inr (.inr (va_up (va_up (va_up (va_up (fun _ => none) 0 (some s0)) 1 (some s1)) 2 (some s2)) 3 (some s3))))))), (s0, .inr (8, [.ref n0, .int (-1), .int 0])), (s1, .inr (8, [.ref n1, .int (-1), .int 0])), (s2, .inr (8, [.ref n2, .int (-1), .int 0])), (s3, .inr (8, [.ref n3, .int (-1), .int 0])), (n0, .inl (G.2 3, 60, .inr (.inl (fun _ => 0)))), (n1, .inl (G.2 3, 60, .inr (.inl (fun _ => 0)))), (n2, .inl (G.2 3, 60, .inr (.inl (fun _ => 0)))), (n3, .inl (G.2 3, 60, .inr (.inl (fun _ => 0))))]) (va_Qi (fun (r : Int32) (u : Unit) => (r = 0 ∧ ¬ p0 < 0 ∧ ¬ 3 < p0 ∧ ¬ p1 < 0 ∧ ¬ 3 < p1 ∧ ¬ 60 < p2 ∧ ¬ p2 < 0) ∨ (r = (-3) ∧ ¬ p0 < 0 ∧ ¬ 3 < p0 ∧ ¬ p1 < 0 ∧ ¬ 3 < p1 ∧ p2 < 0) ∨ (r = (-2) ∧ p0 < 0) ∨ (r = (-2) ∧ 3 < p0) ∨ (r = (-2) ∧ p1 < 0) ∨ (r = (-2) ∧ 3 < p1) ∨ (r = (-2) ∧ 60 < p2)) (fun u t => atQ G (va_A [(x0, .inr (10, [.ref tp, .int 0, .ref rd, .ref nw, .ref sp, .ref im, .ref ir, .ref kp, .ref sl, .ref tk, .ref hn, .ref rc, .ref jn, .ref br, .ref sh])), (sl, .inl (G.2 5, 4, .inr (.inr (.inr (.inr (va_up (va_up (va_up (va_up (fun _ => none) 0 (some s0)) 1 (some s1)) 2 (some s2)) 3 (some s3))))))), (s0, .inr (8, [.ref n0, .int (-1), .int 0])), (s1, .inr (8, [.ref n1, .int (-1), .int 0])), (s2, .inr (8, [.ref n2, .int (-1), .int 0])), (s3, .inr (8, [.ref n3, .int (-1), .int 0])), (n0, .inl (G.2 3, 60, .inr (.inl (fun _ => 0)))), (n1, .inl (G.2 3, 60, .inr (.inl (fun _ => 0)))), (n2, .inl (G.2 3, 60, .inr (.inl (fun _ => 0)))), (n3, .inl (G.2 3, 60, .inr (.inl (fun _ => 0))))] sz) [] t) (va_A [(x0, .inr (10, [.ref tp, .int 0, .ref rd, .ref nw, .ref sp, .ref im, .ref ir, .ref kp, .ref sl, .ref tk, .ref hn, .ref rc, .ref jn, .ref br, .ref sh])), (sl, .inl (G.2 5, 4, .inr (.inr (.inr (.inr (va_up (va_up (va_up (va_up (fun _ => none) 0 (some s0)) 1 (some s1)) 2 (some s2)) 3 (some s3))))))), (s0, .inr (8, [.ref n0, .int (-1), .int 0])), (s1, .inr (8, [.ref n1, .int (-1), .int 0])), (s2, .inr (8, [.ref n2, .int (-1), .int 0])), (s3, .inr (8, [.ref n3, .int (-1), .int 0])), (n0, .inl (G.2 3, 60, .inr (.inl (fun _ => 0)))), (n1, .inl (G.2 3, 60, .inr (.inl (fun _ => 0)))), (n2, .inl (G.2 3, 60, .inr (.inl (fun _ => 0)))), (n3, .inl (G.2 3, 60, .inr (.inl (fun _ => 0))))] sz)) 0 0 (va_A [(x0, .inr (10, [.ref tp, .int 0, .ref rd, .ref nw, .ref sp, .ref im, .ref ir, .ref kp, .ref sl, .ref tk, .ref hn, .ref rc, .ref jn, .ref br, .ref sh])), (sl, .inl (G.2 5, 4, .inr (.inr (.inr (.inr (va_up (va_up (va_up (va_up (fun _ => none) 0 (some s0)) 1 (some s1)) 2 (some s2)) 3 (some s3))))))), (s0, .inr (8, [.ref n0, .int (-1), .int 0])), (s1, .inr (8, [.ref n1, .int (-1), .int 0])), (s2, .inr (8, [.ref n2, .int (-1), .int 0])), (s3, .inr (8, [.ref n3, .int (-1), .int 0])), (n0, .inl (G.2 3, 60, .inr (.inl (fun _ => 0)))), (n1, .inl (G.2 3, 60, .inr (.inl (fun _ => 0)))), (n2, .inl (G.2 3, 60, .inr (.inl (fun _ => 0)))), (n3, .inl (G.2 3, 60, .inr (.inl (fun _ => 0))))] sz) := by
  refine Met.ofW (cc := cX10_row) (maxL := 4) (ret := (some .int)) (by decide) rfl ?_
  intro p e s m args below meth c s₁ B hml hv
  obtain ⟨rfl, hsz, hP, hKG, hD0⟩ := hv
  obtain ⟨hK, hAO⟩ := id hKG
  have hx := B.exec
  have hb := B.bytes
  have hr := B.returns
  have hts := atoms_spec (ws := wgX10_row) B.pre
  have hw : ∀ w ∈ wG, w.before _ s = true := fun w h => hts w (List.mem_cons_of_mem _ h)
  have hown : s.vm.findClass RX10 = some m.cls := findClass_of_methodNamed B.named
  have hlocks := B.notSynchronized
  subst hsz
  have hD := hD0.self (sz := s.heap.size)
  generalize hAe : va_A [(x0, .inr (10, [.ref tp, .int 0, .ref rd, .ref nw, .ref sp, .ref im, .ref ir, .ref kp, .ref sl, .ref tk, .ref hn, .ref rc, .ref jn, .ref br, .ref sh])), (sl, .inl (G.2 5, 4, .inr (.inr (.inr (.inr (va_up (va_up (va_up (va_up (fun _ => none) 0 (some s0)) 1 (some s1)) 2 (some s2)) 3 (some s3))))))), (s0, .inr (8, [.ref n0, .int (-1), .int 0])), (s1, .inr (8, [.ref n1, .int (-1), .int 0])), (s2, .inr (8, [.ref n2, .int (-1), .int 0])), (s3, .inr (8, [.ref n3, .int (-1), .int 0])), (n0, .inl (G.2 3, 60, .inr (.inl (fun _ => 0)))), (n1, .inl (G.2 3, 60, .inr (.inl (fun _ => 0)))), (n2, .inl (G.2 3, 60, .inr (.inl (fun _ => 0)))), (n3, .inl (G.2 3, 60, .inr (.inl (fun _ => 0))))] s.heap.size = A at hD ⊢
  have hA : ∀ q : Nat, s.heap.size ≤ q → A q := fun q h => by rw [← hAe]; exact Or.inr h
  have hS : va_S A s.heap s.heap [] := va_S.rf
  have hl := lv_entry ([.ref x0, .int p0, .int p1, .int p2]) (n := 4) (Nat.le_of_ble_eq_true rfl)
  rw [lg_entry_eq]
  generalize (lg_sl ([.ref x0, .int p0, .int p1, .int p2]) ++ List.replicate (4 - (lg_sl ([.ref x0, .int p0, .int p1, .int p2])).length) Slot.unset).toArray = ls at hl ⊢
  have hl : lv_has ls 4 [(0, .ref x0), (1, .int p0), (2, .int p1), (3, .int p2)] := hl
  refine lv_iload_n hx hb dX10_row_0 rfl (lv_at hl 1 rfl) ?_
  refine lv_iconst (v := 0) hx hb dX10_row_1 (by decide) ?_
  refine lv_iconst (v := 3) hx hb dX10_row_2 (by decide) ?_
  refine vp_callSi (va_Run.run (va_runS (As := [.int p0, .int 0, .int 3]) (rest := []) ⟨hx, hb, hml, hown, hw⟩ (c_isAmong l G p0 0 3) (va_cwS 3 hw (gdT kw_38 kw_39 kw_8 kw_37) rfl rfl rfl hdX10_isAmong ⟨(Nat.le_of_ble_eq_true rfl), (Nat.le_of_ble_eq_true rfl)⟩) (preS_S (wc := []) hKG hP [] rfl) rfl rfl hl.1 rfl (lv_room (Nat.le_of_ble_eq_true rfl)) dX10_row_3 ⟨(Nat.le_of_ble_eq_true rfl), (Nat.le_of_ble_eq_true rfl)⟩)) (fun r1 hr1 => ?_)
  rcases hr1 with ⟨rfl, c2, c3⟩ | ⟨rfl, c4⟩ | ⟨rfl, c5⟩
  · refine lv_if_eq (tgt := 24) hx hb dX10_row_6 (by decide) (fun c6 => absurd c6 (by decide)) (fun c6 => ?_)
    refine lv_iload_n hx hb dX10_row_9 rfl (lv_at hl 2 rfl) ?_
    refine lv_iconst (v := 0) hx hb dX10_row_10 (by decide) ?_
    refine lv_iconst (v := 3) hx hb dX10_row_11 (by decide) ?_
    refine vp_callSi (va_Run.run (va_runS (As := [.int p1, .int 0, .int 3]) (rest := []) ⟨hx, hb, hml, hown, hw⟩ (c_isAmong l G p1 0 3) (va_cwS 3 hw (gdT kw_38 kw_39 kw_8 kw_37) rfl rfl rfl hdX10_isAmong ⟨(Nat.le_of_ble_eq_true rfl), (Nat.le_of_ble_eq_true rfl)⟩) (preS_S (wc := []) hKG hP [] rfl) rfl rfl hl.1 rfl (lv_room (Nat.le_of_ble_eq_true rfl)) dX10_row_12 ⟨(Nat.le_of_ble_eq_true rfl), (Nat.le_of_ble_eq_true rfl)⟩)) (fun r7 hr7 => ?_)
    rcases hr7 with ⟨rfl, c8, c9⟩ | ⟨rfl, c10⟩ | ⟨rfl, c11⟩
    · refine lv_if_eq (tgt := 24) hx hb dX10_row_15 (by decide) (fun c12 => absurd c12 (by decide)) (fun c12 => ?_)
      refine lv_iload_n hx hb dX10_row_18 rfl (lv_at hl 3 rfl) ?_
      refine lv_bipush (v := 60) hx hb dX10_row_19 (by decide) ?_
      refine lv_icmp_le (tgt := 27) hx hb dX10_row_21 (by decide) (fun c13 => ?_) (fun c13 => ?_)
      · refine lv_iload_n hx hb dX10_row_27 rfl (lv_at hl 3 rfl) ?_
        refine lv_if_ge (tgt := 34) hx hb dX10_row_28 (by decide) (fun c14 => ?_) (fun c14 => ?_)
        · refine lv_aload_n hx hb dX10_row_34 rfl (lv_at hl 0 rfl) ?_
          refine va_get (D := G.1) (ci := 10) (v := .ref sl) (C := RX10) (T := TX10) (N := 15) hx hb hw inGX10 hown hK hP 0 rfl rfl 8 (by decide) (hw _ kw_50) (fun _ h9 => h9) rfl dX10_row_35 ?_
          refine lv_iload_n hx hb dX10_row_38 rfl (lv_at hl 1 rfl) ?_
          rcases sw_0_3 p0 (by rintro (z0 | z0) <;> (have z9 : False := (by have z1 := c2; have z2 := c3; simp only [fa_lt, fa_le, fa_eq, fa_lt64, fa_le64, fa_eq64, Int32.toInt_toInt64, tc_0, tc_3] at z1 z2 <;> omega); exact z9)) with rfl | rfl | rfl | rfl
          · refine va_aldq hx hb hK hP 1 5 rfl rfl (vp_in_iff.mpr (by decide)) dX10_row_39 ?_
            refine W.eq (g2 := F0 m 40 ls [.ref s0]) rfl ?_
            refine lv_iload_n hx hb dX10_row_40 rfl (lv_at hl 2 rfl) ?_
            refine lv_iload_n hx hb dX10_row_41 rfl (lv_at hl 3 rfl) ?_
            refine wq_callv (wr := [(x0, .inr (10, [.ref tp, .int 0, .ref rd, .ref nw, .ref sp, .ref im, .ref ir, .ref kp, .ref sl, .ref tk, .ref hn, .ref rc, .ref jn, .ref br, .ref sh])), (sl, .inl (G.2 5, 4, .inr (.inr (.inr (.inr (va_up (va_up (va_up (va_up (fun _ => none) 0 (some s0)) 1 (some s1)) 2 (some s2)) 3 (some s3))))))), (s1, .inr (8, [.ref n1, .int (-1), .int 0])), (s2, .inr (8, [.ref n2, .int (-1), .int 0])), (s3, .inr (8, [.ref n3, .int (-1), .int 0])), (n1, .inl (G.2 3, 60, .inr (.inl (fun _ => 0)))), (n2, .inl (G.2 3, 60, .inr (.inl (fun _ => 0)))), (n3, .inl (G.2 3, 60, .inr (.inl (fun _ => 0))))]) (va_runV (As := [.int p1, .int p2]) (rest := []) ⟨hx, hb, hml, hown, hw⟩ (c_hold l G s0 n0 (fun _ => 0) p1 p2 s.heap.size) (cwV 2 hw (gdV kw_85 kw_86 kw_87 kw_55 kw_84) rfl rfl rfl ⟨rfl, hdX8_hold⟩ ⟨(Nat.le_of_ble_eq_true rfl), (Nat.le_of_ble_eq_true rfl)⟩) (preQ_V (wc := [(s0, .inr (8, [.ref n0, .int (-1), .int 0])), (n0, .inl (G.2 3, 60, .inr (.inl (fun _ => 0))))]) (ci := 8) hKG hP hD [2, 6] (by decide +kernel) rfl rfl rfl) rfl rfl hl.1 rfl (lv_room (Nat.le_of_ble_eq_true rfl)) dX10_row_42 ⟨(Nat.le_of_ble_eq_true rfl), (Nat.le_of_ble_eq_true rfl)⟩) hS hP hD hA [2, 6] [0, 1, 3, 4, 5, 7, 8, 9] rfl rfl (by decide +kernel) (by decide +kernel) (fun u17 H locs hr16 hP hD hS => ?_)
            have hP : va_P G.1 vwCl [(x0, .inr (10, [.ref tp, .int 0, .ref rd, .ref nw, .ref sp, .ref im, .ref ir, .ref kp, .ref sl, .ref tk, .ref hn, .ref rc, .ref jn, .ref br, .ref sh])), (sl, .inl (G.2 5, 4, .inr (.inr (.inr (.inr (va_up (va_up (va_up (va_up (fun _ => none) 0 (some s0)) 1 (some s1)) 2 (some s2)) 3 (some s3))))))), (s1, .inr (8, [.ref n1, .int (-1), .int 0])), (s2, .inr (8, [.ref n2, .int (-1), .int 0])), (s3, .inr (8, [.ref n3, .int (-1), .int 0])), (n1, .inl (G.2 3, 60, .inr (.inl (fun _ => 0)))), (n2, .inl (G.2 3, 60, .inr (.inl (fun _ => 0)))), (n3, .inl (G.2 3, 60, .inr (.inl (fun _ => 0))))] H := hP
            have hD : va_D A [(x0, .inr (10, [.ref tp, .int 0, .ref rd, .ref nw, .ref sp, .ref im, .ref ir, .ref kp, .ref sl, .ref tk, .ref hn, .ref rc, .ref jn, .ref br, .ref sh])), (sl, .inl (G.2 5, 4, .inr (.inr (.inr (.inr (va_up (va_up (va_up (va_up (fun _ => none) 0 (some s0)) 1 (some s1)) 2 (some s2)) 3 (some s3))))))), (s1, .inr (8, [.ref n1, .int (-1), .int 0])), (s2, .inr (8, [.ref n2, .int (-1), .int 0])), (s3, .inr (8, [.ref n3, .int (-1), .int 0])), (n1, .inl (G.2 3, 60, .inr (.inl (fun _ => 0)))), (n2, .inl (G.2 3, 60, .inr (.inl (fun _ => 0)))), (n3, .inl (G.2 3, 60, .inr (.inl (fun _ => 0))))] := hD
            refine W.widen (k := 0) (n := 0) (Nat.le_of_ble_eq_true rfl) (Nat.le_of_ble_eq_true rfl) ?_
            refine lv_iconst (v := 0) hx hb dX10_row_45 (by decide) ?_
            exact W.iret (v := 0) hx hb hr (fun t ht hW => ⟨⟨0, (), rfl, (Or.inl ⟨rfl, c2, c3, c8, c9, (fun zz => (by have z1 := c13; have z2 := c14; have z3 := zz; simp only [fa_lt, fa_le, fa_eq, fa_lt64, fa_le64, fa_eq64, Int32.toInt_toInt64, tc_0, tc_60] at z1 z2 z3 <;> omega)), (fun zz => (by have z1 := c13; have z2 := c14; have z3 := zz; simp only [fa_lt, fa_le, fa_eq, fa_lt64, fa_le64, fa_eq64, Int32.toInt_toInt64, tc_0, tc_60] at z1 z2 z3 <;> omega))⟩), ⟨by rw [ht]; exact hP.sub [] rfl, hD.sub [] (by decide +kernel) rfl⟩⟩, hS.F ht⟩) hS.2.2 dX10_row_46
          · refine va_aldq hx hb hK hP 1 5 rfl rfl (vp_in_iff.mpr (by decide)) dX10_row_39 ?_
            refine W.eq (g2 := F0 m 40 ls [.ref s1]) rfl ?_
            refine lv_iload_n hx hb dX10_row_40 rfl (lv_at hl 2 rfl) ?_
            refine lv_iload_n hx hb dX10_row_41 rfl (lv_at hl 3 rfl) ?_
            refine wq_callv (wr := [(x0, .inr (10, [.ref tp, .int 0, .ref rd, .ref nw, .ref sp, .ref im, .ref ir, .ref kp, .ref sl, .ref tk, .ref hn, .ref rc, .ref jn, .ref br, .ref sh])), (sl, .inl (G.2 5, 4, .inr (.inr (.inr (.inr (va_up (va_up (va_up (va_up (fun _ => none) 0 (some s0)) 1 (some s1)) 2 (some s2)) 3 (some s3))))))), (s0, .inr (8, [.ref n0, .int (-1), .int 0])), (s2, .inr (8, [.ref n2, .int (-1), .int 0])), (s3, .inr (8, [.ref n3, .int (-1), .int 0])), (n0, .inl (G.2 3, 60, .inr (.inl (fun _ => 0)))), (n2, .inl (G.2 3, 60, .inr (.inl (fun _ => 0)))), (n3, .inl (G.2 3, 60, .inr (.inl (fun _ => 0))))]) (va_runV (As := [.int p1, .int p2]) (rest := []) ⟨hx, hb, hml, hown, hw⟩ (c_hold l G s1 n1 (fun _ => 0) p1 p2 s.heap.size) (cwV 2 hw (gdV kw_85 kw_86 kw_87 kw_55 kw_84) rfl rfl rfl ⟨rfl, hdX8_hold⟩ ⟨(Nat.le_of_ble_eq_true rfl), (Nat.le_of_ble_eq_true rfl)⟩) (preQ_V (wc := [(s1, .inr (8, [.ref n1, .int (-1), .int 0])), (n1, .inl (G.2 3, 60, .inr (.inl (fun _ => 0))))]) (ci := 8) hKG hP hD [3, 7] (by decide +kernel) rfl rfl rfl) rfl rfl hl.1 rfl (lv_room (Nat.le_of_ble_eq_true rfl)) dX10_row_42 ⟨(Nat.le_of_ble_eq_true rfl), (Nat.le_of_ble_eq_true rfl)⟩) hS hP hD hA [3, 7] [0, 1, 2, 4, 5, 6, 8, 9] rfl rfl (by decide +kernel) (by decide +kernel) (fun u19 H locs hr18 hP hD hS => ?_)
            have hP : va_P G.1 vwCl [(x0, .inr (10, [.ref tp, .int 0, .ref rd, .ref nw, .ref sp, .ref im, .ref ir, .ref kp, .ref sl, .ref tk, .ref hn, .ref rc, .ref jn, .ref br, .ref sh])), (sl, .inl (G.2 5, 4, .inr (.inr (.inr (.inr (va_up (va_up (va_up (va_up (fun _ => none) 0 (some s0)) 1 (some s1)) 2 (some s2)) 3 (some s3))))))), (s0, .inr (8, [.ref n0, .int (-1), .int 0])), (s2, .inr (8, [.ref n2, .int (-1), .int 0])), (s3, .inr (8, [.ref n3, .int (-1), .int 0])), (n0, .inl (G.2 3, 60, .inr (.inl (fun _ => 0)))), (n2, .inl (G.2 3, 60, .inr (.inl (fun _ => 0)))), (n3, .inl (G.2 3, 60, .inr (.inl (fun _ => 0))))] H := hP
            have hD : va_D A [(x0, .inr (10, [.ref tp, .int 0, .ref rd, .ref nw, .ref sp, .ref im, .ref ir, .ref kp, .ref sl, .ref tk, .ref hn, .ref rc, .ref jn, .ref br, .ref sh])), (sl, .inl (G.2 5, 4, .inr (.inr (.inr (.inr (va_up (va_up (va_up (va_up (fun _ => none) 0 (some s0)) 1 (some s1)) 2 (some s2)) 3 (some s3))))))), (s0, .inr (8, [.ref n0, .int (-1), .int 0])), (s2, .inr (8, [.ref n2, .int (-1), .int 0])), (s3, .inr (8, [.ref n3, .int (-1), .int 0])), (n0, .inl (G.2 3, 60, .inr (.inl (fun _ => 0)))), (n2, .inl (G.2 3, 60, .inr (.inl (fun _ => 0)))), (n3, .inl (G.2 3, 60, .inr (.inl (fun _ => 0))))] := hD
            refine W.widen (k := 0) (n := 0) (Nat.le_of_ble_eq_true rfl) (Nat.le_of_ble_eq_true rfl) ?_
            refine lv_iconst (v := 0) hx hb dX10_row_45 (by decide) ?_
            exact W.iret (v := 0) hx hb hr (fun t ht hW => ⟨⟨0, (), rfl, (Or.inl ⟨rfl, c2, c3, c8, c9, (fun zz => (by have z1 := c13; have z2 := c14; have z3 := zz; simp only [fa_lt, fa_le, fa_eq, fa_lt64, fa_le64, fa_eq64, Int32.toInt_toInt64, tc_0, tc_60] at z1 z2 z3 <;> omega)), (fun zz => (by have z1 := c13; have z2 := c14; have z3 := zz; simp only [fa_lt, fa_le, fa_eq, fa_lt64, fa_le64, fa_eq64, Int32.toInt_toInt64, tc_0, tc_60] at z1 z2 z3 <;> omega))⟩), ⟨by rw [ht]; exact hP.sub [] rfl, hD.sub [] (by decide +kernel) rfl⟩⟩, hS.F ht⟩) hS.2.2 dX10_row_46
          · refine va_aldq hx hb hK hP 1 5 rfl rfl (vp_in_iff.mpr (by decide)) dX10_row_39 ?_
            refine W.eq (g2 := F0 m 40 ls [.ref s2]) rfl ?_
            refine lv_iload_n hx hb dX10_row_40 rfl (lv_at hl 2 rfl) ?_
            refine lv_iload_n hx hb dX10_row_41 rfl (lv_at hl 3 rfl) ?_
            refine wq_callv (wr := [(x0, .inr (10, [.ref tp, .int 0, .ref rd, .ref nw, .ref sp, .ref im, .ref ir, .ref kp, .ref sl, .ref tk, .ref hn, .ref rc, .ref jn, .ref br, .ref sh])), (sl, .inl (G.2 5, 4, .inr (.inr (.inr (.inr (va_up (va_up (va_up (va_up (fun _ => none) 0 (some s0)) 1 (some s1)) 2 (some s2)) 3 (some s3))))))), (s0, .inr (8, [.ref n0, .int (-1), .int 0])), (s1, .inr (8, [.ref n1, .int (-1), .int 0])), (s3, .inr (8, [.ref n3, .int (-1), .int 0])), (n0, .inl (G.2 3, 60, .inr (.inl (fun _ => 0)))), (n1, .inl (G.2 3, 60, .inr (.inl (fun _ => 0)))), (n3, .inl (G.2 3, 60, .inr (.inl (fun _ => 0))))]) (va_runV (As := [.int p1, .int p2]) (rest := []) ⟨hx, hb, hml, hown, hw⟩ (c_hold l G s2 n2 (fun _ => 0) p1 p2 s.heap.size) (cwV 2 hw (gdV kw_85 kw_86 kw_87 kw_55 kw_84) rfl rfl rfl ⟨rfl, hdX8_hold⟩ ⟨(Nat.le_of_ble_eq_true rfl), (Nat.le_of_ble_eq_true rfl)⟩) (preQ_V (wc := [(s2, .inr (8, [.ref n2, .int (-1), .int 0])), (n2, .inl (G.2 3, 60, .inr (.inl (fun _ => 0))))]) (ci := 8) hKG hP hD [4, 8] (by decide +kernel) rfl rfl rfl) rfl rfl hl.1 rfl (lv_room (Nat.le_of_ble_eq_true rfl)) dX10_row_42 ⟨(Nat.le_of_ble_eq_true rfl), (Nat.le_of_ble_eq_true rfl)⟩) hS hP hD hA [4, 8] [0, 1, 2, 3, 5, 6, 7, 9] rfl rfl (by decide +kernel) (by decide +kernel) (fun u21 H locs hr20 hP hD hS => ?_)
            have hP : va_P G.1 vwCl [(x0, .inr (10, [.ref tp, .int 0, .ref rd, .ref nw, .ref sp, .ref im, .ref ir, .ref kp, .ref sl, .ref tk, .ref hn, .ref rc, .ref jn, .ref br, .ref sh])), (sl, .inl (G.2 5, 4, .inr (.inr (.inr (.inr (va_up (va_up (va_up (va_up (fun _ => none) 0 (some s0)) 1 (some s1)) 2 (some s2)) 3 (some s3))))))), (s0, .inr (8, [.ref n0, .int (-1), .int 0])), (s1, .inr (8, [.ref n1, .int (-1), .int 0])), (s3, .inr (8, [.ref n3, .int (-1), .int 0])), (n0, .inl (G.2 3, 60, .inr (.inl (fun _ => 0)))), (n1, .inl (G.2 3, 60, .inr (.inl (fun _ => 0)))), (n3, .inl (G.2 3, 60, .inr (.inl (fun _ => 0))))] H := hP
            have hD : va_D A [(x0, .inr (10, [.ref tp, .int 0, .ref rd, .ref nw, .ref sp, .ref im, .ref ir, .ref kp, .ref sl, .ref tk, .ref hn, .ref rc, .ref jn, .ref br, .ref sh])), (sl, .inl (G.2 5, 4, .inr (.inr (.inr (.inr (va_up (va_up (va_up (va_up (fun _ => none) 0 (some s0)) 1 (some s1)) 2 (some s2)) 3 (some s3))))))), (s0, .inr (8, [.ref n0, .int (-1), .int 0])), (s1, .inr (8, [.ref n1, .int (-1), .int 0])), (s3, .inr (8, [.ref n3, .int (-1), .int 0])), (n0, .inl (G.2 3, 60, .inr (.inl (fun _ => 0)))), (n1, .inl (G.2 3, 60, .inr (.inl (fun _ => 0)))), (n3, .inl (G.2 3, 60, .inr (.inl (fun _ => 0))))] := hD
            refine W.widen (k := 0) (n := 0) (Nat.le_of_ble_eq_true rfl) (Nat.le_of_ble_eq_true rfl) ?_
            refine lv_iconst (v := 0) hx hb dX10_row_45 (by decide) ?_
            exact W.iret (v := 0) hx hb hr (fun t ht hW => ⟨⟨0, (), rfl, (Or.inl ⟨rfl, c2, c3, c8, c9, (fun zz => (by have z1 := c13; have z2 := c14; have z3 := zz; simp only [fa_lt, fa_le, fa_eq, fa_lt64, fa_le64, fa_eq64, Int32.toInt_toInt64, tc_0, tc_60] at z1 z2 z3 <;> omega)), (fun zz => (by have z1 := c13; have z2 := c14; have z3 := zz; simp only [fa_lt, fa_le, fa_eq, fa_lt64, fa_le64, fa_eq64, Int32.toInt_toInt64, tc_0, tc_60] at z1 z2 z3 <;> omega))⟩), ⟨by rw [ht]; exact hP.sub [] rfl, hD.sub [] (by decide +kernel) rfl⟩⟩, hS.F ht⟩) hS.2.2 dX10_row_46
          · refine va_aldq hx hb hK hP 1 5 rfl rfl (vp_in_iff.mpr (by decide)) dX10_row_39 ?_
            refine W.eq (g2 := F0 m 40 ls [.ref s3]) rfl ?_
            refine lv_iload_n hx hb dX10_row_40 rfl (lv_at hl 2 rfl) ?_
            refine lv_iload_n hx hb dX10_row_41 rfl (lv_at hl 3 rfl) ?_
            refine wq_callv (wr := [(x0, .inr (10, [.ref tp, .int 0, .ref rd, .ref nw, .ref sp, .ref im, .ref ir, .ref kp, .ref sl, .ref tk, .ref hn, .ref rc, .ref jn, .ref br, .ref sh])), (sl, .inl (G.2 5, 4, .inr (.inr (.inr (.inr (va_up (va_up (va_up (va_up (fun _ => none) 0 (some s0)) 1 (some s1)) 2 (some s2)) 3 (some s3))))))), (s0, .inr (8, [.ref n0, .int (-1), .int 0])), (s1, .inr (8, [.ref n1, .int (-1), .int 0])), (s2, .inr (8, [.ref n2, .int (-1), .int 0])), (n0, .inl (G.2 3, 60, .inr (.inl (fun _ => 0)))), (n1, .inl (G.2 3, 60, .inr (.inl (fun _ => 0)))), (n2, .inl (G.2 3, 60, .inr (.inl (fun _ => 0))))]) (va_runV (As := [.int p1, .int p2]) (rest := []) ⟨hx, hb, hml, hown, hw⟩ (c_hold l G s3 n3 (fun _ => 0) p1 p2 s.heap.size) (cwV 2 hw (gdV kw_85 kw_86 kw_87 kw_55 kw_84) rfl rfl rfl ⟨rfl, hdX8_hold⟩ ⟨(Nat.le_of_ble_eq_true rfl), (Nat.le_of_ble_eq_true rfl)⟩) (preQ_V (wc := [(s3, .inr (8, [.ref n3, .int (-1), .int 0])), (n3, .inl (G.2 3, 60, .inr (.inl (fun _ => 0))))]) (ci := 8) hKG hP hD [5, 9] (by decide +kernel) rfl rfl rfl) rfl rfl hl.1 rfl (lv_room (Nat.le_of_ble_eq_true rfl)) dX10_row_42 ⟨(Nat.le_of_ble_eq_true rfl), (Nat.le_of_ble_eq_true rfl)⟩) hS hP hD hA [5, 9] [0, 1, 2, 3, 4, 6, 7, 8] rfl rfl (by decide +kernel) (by decide +kernel) (fun u23 H locs hr22 hP hD hS => ?_)
            have hP : va_P G.1 vwCl [(x0, .inr (10, [.ref tp, .int 0, .ref rd, .ref nw, .ref sp, .ref im, .ref ir, .ref kp, .ref sl, .ref tk, .ref hn, .ref rc, .ref jn, .ref br, .ref sh])), (sl, .inl (G.2 5, 4, .inr (.inr (.inr (.inr (va_up (va_up (va_up (va_up (fun _ => none) 0 (some s0)) 1 (some s1)) 2 (some s2)) 3 (some s3))))))), (s0, .inr (8, [.ref n0, .int (-1), .int 0])), (s1, .inr (8, [.ref n1, .int (-1), .int 0])), (s2, .inr (8, [.ref n2, .int (-1), .int 0])), (n0, .inl (G.2 3, 60, .inr (.inl (fun _ => 0)))), (n1, .inl (G.2 3, 60, .inr (.inl (fun _ => 0)))), (n2, .inl (G.2 3, 60, .inr (.inl (fun _ => 0))))] H := hP
            have hD : va_D A [(x0, .inr (10, [.ref tp, .int 0, .ref rd, .ref nw, .ref sp, .ref im, .ref ir, .ref kp, .ref sl, .ref tk, .ref hn, .ref rc, .ref jn, .ref br, .ref sh])), (sl, .inl (G.2 5, 4, .inr (.inr (.inr (.inr (va_up (va_up (va_up (va_up (fun _ => none) 0 (some s0)) 1 (some s1)) 2 (some s2)) 3 (some s3))))))), (s0, .inr (8, [.ref n0, .int (-1), .int 0])), (s1, .inr (8, [.ref n1, .int (-1), .int 0])), (s2, .inr (8, [.ref n2, .int (-1), .int 0])), (n0, .inl (G.2 3, 60, .inr (.inl (fun _ => 0)))), (n1, .inl (G.2 3, 60, .inr (.inl (fun _ => 0)))), (n2, .inl (G.2 3, 60, .inr (.inl (fun _ => 0))))] := hD
            refine W.widen (k := 0) (n := 0) (Nat.le_of_ble_eq_true rfl) (Nat.le_of_ble_eq_true rfl) ?_
            refine lv_iconst (v := 0) hx hb dX10_row_45 (by decide) ?_
            exact W.iret (v := 0) hx hb hr (fun t ht hW => ⟨⟨0, (), rfl, (Or.inl ⟨rfl, c2, c3, c8, c9, (fun zz => (by have z1 := c13; have z2 := c14; have z3 := zz; simp only [fa_lt, fa_le, fa_eq, fa_lt64, fa_le64, fa_eq64, Int32.toInt_toInt64, tc_0, tc_60] at z1 z2 z3 <;> omega)), (fun zz => (by have z1 := c13; have z2 := c14; have z3 := zz; simp only [fa_lt, fa_le, fa_eq, fa_lt64, fa_le64, fa_eq64, Int32.toInt_toInt64, tc_0, tc_60] at z1 z2 z3 <;> omega))⟩), ⟨by rw [ht]; exact hP.sub [] rfl, hD.sub [] (by decide +kernel) rfl⟩⟩, hS.F ht⟩) hS.2.2 dX10_row_46
        · refine lv_bipush (v := (-3)) hx hb dX10_row_31 (by decide) ?_
          exact W.iret (v := (-3)) hx hb hr (fun t ht hW => ⟨⟨(-3), (), rfl, (Or.inr (Or.inl ⟨rfl, c2, c3, c8, c9, (Classical.byContradiction fun zz => (by have z1 := c13; have z2 := c14; have z3 := zz; simp only [fa_lt, fa_le, fa_eq, fa_lt64, fa_le64, fa_eq64, Int32.toInt_toInt64, tc_0, tc_60] at z1 z2 z3 <;> omega))⟩)), ⟨by rw [ht]; exact hP.sub [] rfl, hD.sub [] (by decide +kernel) rfl⟩⟩, hS.F ht⟩) hS.2.2 dX10_row_33
      · refine lv_bipush (v := (-2)) hx hb dX10_row_24 (by decide) ?_
        exact W.iret (v := (-2)) hx hb hr (fun t ht hW => ⟨⟨(-2), (), rfl, (Or.inr (Or.inr (Or.inr (Or.inr (Or.inr (Or.inr ⟨rfl, (Classical.byContradiction fun zz => (by have z1 := c13; have z2 := zz; simp only [fa_lt, fa_le, fa_eq, fa_lt64, fa_le64, fa_eq64, Int32.toInt_toInt64, tc_60] at z1 z2 <;> omega))⟩)))))), ⟨by rw [ht]; exact hP.sub [] rfl, hD.sub [] (by decide +kernel) rfl⟩⟩, hS.F ht⟩) hS.2.2 dX10_row_26
    · refine lv_if_eq (tgt := 24) hx hb dX10_row_15 (by decide) (fun c24 => ?_) (fun c24 => absurd (by decide) c24)
      refine lv_bipush (v := (-2)) hx hb dX10_row_24 (by decide) ?_
      exact W.iret (v := (-2)) hx hb hr (fun t ht hW => ⟨⟨(-2), (), rfl, (Or.inr (Or.inr (Or.inr (Or.inr (Or.inl ⟨rfl, c10⟩))))), ⟨by rw [ht]; exact hP.sub [] rfl, hD.sub [] (by decide +kernel) rfl⟩⟩, hS.F ht⟩) hS.2.2 dX10_row_26
    · refine lv_if_eq (tgt := 24) hx hb dX10_row_15 (by decide) (fun c25 => ?_) (fun c25 => absurd (by decide) c25)
      refine lv_bipush (v := (-2)) hx hb dX10_row_24 (by decide) ?_
      exact W.iret (v := (-2)) hx hb hr (fun t ht hW => ⟨⟨(-2), (), rfl, (Or.inr (Or.inr (Or.inr (Or.inr (Or.inr (Or.inl ⟨rfl, c11⟩)))))), ⟨by rw [ht]; exact hP.sub [] rfl, hD.sub [] (by decide +kernel) rfl⟩⟩, hS.F ht⟩) hS.2.2 dX10_row_26
  · refine lv_if_eq (tgt := 24) hx hb dX10_row_6 (by decide) (fun c26 => ?_) (fun c26 => absurd (by decide) c26)
    refine lv_bipush (v := (-2)) hx hb dX10_row_24 (by decide) ?_
    exact W.iret (v := (-2)) hx hb hr (fun t ht hW => ⟨⟨(-2), (), rfl, (Or.inr (Or.inr (Or.inl ⟨rfl, c4⟩))), ⟨by rw [ht]; exact hP.sub [] rfl, hD.sub [] (by decide +kernel) rfl⟩⟩, hS.F ht⟩) hS.2.2 dX10_row_26
  · refine lv_if_eq (tgt := 24) hx hb dX10_row_6 (by decide) (fun c27 => ?_) (fun c27 => absurd (by decide) c27)
    refine lv_bipush (v := (-2)) hx hb dX10_row_24 (by decide) ?_
    exact W.iret (v := (-2)) hx hb hr (fun t ht hW => ⟨⟨(-2), (), rfl, (Or.inr (Or.inr (Or.inr (Or.inl ⟨rfl, c5⟩)))), ⟨by rw [ht]; exact hP.sub [] rfl, hD.sub [] (by decide +kernel) rfl⟩⟩, hS.F ht⟩) hS.2.2 dX10_row_26
set_option maxHeartbeats 4000000 in
set_option maxRecDepth 100000 in
theorem c_empty (l : Launch) (G : KG) (ln : Nat) (ln_slopes : Nat) (ln_wets : Nat) (ln_limits : Nat) (ln_platforms : Nat) (ln_kinds : Nat) (ln_trains : Nat) (ln_coaches : Nat) (ln_slopes_c : Nat) (ln_wets_c : Nat) (ln_limits_c : Nat) (ln_platforms_c : Nat) (ln_kinds_c : Nat) (ln_trains_c : Nat) (ln_coaches_c : Nat) (sz : Nat) : Met l yX3_empty wgX3_empty ({ frames := 0, cells := 0, slots := 0, locals := 0 }) (preQ G [.ref ln] sz [(ln, .inr (3, [.int 0, .int 0, .ref ln_slopes, .ref ln_wets, .ref ln_limits, .ref ln_platforms, .ref ln_kinds, .ref ln_trains, .ref ln_coaches])), (ln_slopes, .inr (6, [.int 8, .int 2, .ref ln_slopes_c, .int 0])), (ln_wets, .inr (6, [.int 6, .int 3, .ref ln_wets_c, .int 0])), (ln_limits, .inr (6, [.int 6, .int 2, .ref ln_limits_c, .int 0])), (ln_platforms, .inr (6, [.int 6, .int 2, .ref ln_platforms_c, .int 0])), (ln_kinds, .inr (6, [.int 4, .int 5, .ref ln_kinds_c, .int 0])), (ln_trains, .inr (6, [.int 5, .int 3, .ref ln_trains_c, .int 0])), (ln_coaches, .inr (6, [.int 16, .int 5, .ref ln_coaches_c, .int 0]))]) (va_Qv (fun (u : Unit) => True) (fun u t => atQ G (va_A [(ln, .inr (3, [.int 0, .int 0, .ref ln_slopes, .ref ln_wets, .ref ln_limits, .ref ln_platforms, .ref ln_kinds, .ref ln_trains, .ref ln_coaches])), (ln_slopes, .inr (6, [.int 8, .int 2, .ref ln_slopes_c, .int 0])), (ln_wets, .inr (6, [.int 6, .int 3, .ref ln_wets_c, .int 0])), (ln_limits, .inr (6, [.int 6, .int 2, .ref ln_limits_c, .int 0])), (ln_platforms, .inr (6, [.int 6, .int 2, .ref ln_platforms_c, .int 0])), (ln_kinds, .inr (6, [.int 4, .int 5, .ref ln_kinds_c, .int 0])), (ln_trains, .inr (6, [.int 5, .int 3, .ref ln_trains_c, .int 0])), (ln_coaches, .inr (6, [.int 16, .int 5, .ref ln_coaches_c, .int 0]))] sz) [(ln, .inr (3, [.int 0, .int 0, .ref ln_slopes, .ref ln_wets, .ref ln_limits, .ref ln_platforms, .ref ln_kinds, .ref ln_trains, .ref ln_coaches])), (ln_slopes, .inr (6, [.int 8, .int 2, .ref ln_slopes_c, .int 0])), (ln_wets, .inr (6, [.int 6, .int 3, .ref ln_wets_c, .int 0])), (ln_limits, .inr (6, [.int 6, .int 2, .ref ln_limits_c, .int 0])), (ln_platforms, .inr (6, [.int 6, .int 2, .ref ln_platforms_c, .int 0])), (ln_kinds, .inr (6, [.int 4, .int 5, .ref ln_kinds_c, .int 0])), (ln_trains, .inr (6, [.int 5, .int 3, .ref ln_trains_c, .int 0])), (ln_coaches, .inr (6, [.int 16, .int 5, .ref ln_coaches_c, .int 0]))] t) (va_A [(ln, .inr (3, [.int 0, .int 0, .ref ln_slopes, .ref ln_wets, .ref ln_limits, .ref ln_platforms, .ref ln_kinds, .ref ln_trains, .ref ln_coaches])), (ln_slopes, .inr (6, [.int 8, .int 2, .ref ln_slopes_c, .int 0])), (ln_wets, .inr (6, [.int 6, .int 3, .ref ln_wets_c, .int 0])), (ln_limits, .inr (6, [.int 6, .int 2, .ref ln_limits_c, .int 0])), (ln_platforms, .inr (6, [.int 6, .int 2, .ref ln_platforms_c, .int 0])), (ln_kinds, .inr (6, [.int 4, .int 5, .ref ln_kinds_c, .int 0])), (ln_trains, .inr (6, [.int 5, .int 3, .ref ln_trains_c, .int 0])), (ln_coaches, .inr (6, [.int 16, .int 5, .ref ln_coaches_c, .int 0]))] sz)) 0 0 (va_A [(ln, .inr (3, [.int 0, .int 0, .ref ln_slopes, .ref ln_wets, .ref ln_limits, .ref ln_platforms, .ref ln_kinds, .ref ln_trains, .ref ln_coaches])), (ln_slopes, .inr (6, [.int 8, .int 2, .ref ln_slopes_c, .int 0])), (ln_wets, .inr (6, [.int 6, .int 3, .ref ln_wets_c, .int 0])), (ln_limits, .inr (6, [.int 6, .int 2, .ref ln_limits_c, .int 0])), (ln_platforms, .inr (6, [.int 6, .int 2, .ref ln_platforms_c, .int 0])), (ln_kinds, .inr (6, [.int 4, .int 5, .ref ln_kinds_c, .int 0])), (ln_trains, .inr (6, [.int 5, .int 3, .ref ln_trains_c, .int 0])), (ln_coaches, .inr (6, [.int 16, .int 5, .ref ln_coaches_c, .int 0]))] sz) := by
  refine Met.ofW (cc := cX3_empty) (maxL := 1) (ret := none) (by decide) rfl ?_
  intro p e s m args below meth c s₁ B hml hv
  obtain ⟨rfl, hsz, hP, hKG, hD0⟩ := hv
  obtain ⟨hK, hAO⟩ := id hKG
  have hx := B.exec
  have hb := B.bytes
  have hr := B.returns
  have hts := atoms_spec (ws := wgX3_empty) B.pre
  have hw : ∀ w ∈ wG, w.before _ s = true := fun w h => hts w (List.mem_cons_of_mem _ h)
  have hown : s.vm.findClass RX3 = some m.cls := findClass_of_methodNamed B.named
  have hlocks := B.notSynchronized
  subst hsz
  have hD := hD0.self (sz := s.heap.size)
  generalize hAe : va_A [(ln, .inr (3, [.int 0, .int 0, .ref ln_slopes, .ref ln_wets, .ref ln_limits, .ref ln_platforms, .ref ln_kinds, .ref ln_trains, .ref ln_coaches])), (ln_slopes, .inr (6, [.int 8, .int 2, .ref ln_slopes_c, .int 0])), (ln_wets, .inr (6, [.int 6, .int 3, .ref ln_wets_c, .int 0])), (ln_limits, .inr (6, [.int 6, .int 2, .ref ln_limits_c, .int 0])), (ln_platforms, .inr (6, [.int 6, .int 2, .ref ln_platforms_c, .int 0])), (ln_kinds, .inr (6, [.int 4, .int 5, .ref ln_kinds_c, .int 0])), (ln_trains, .inr (6, [.int 5, .int 3, .ref ln_trains_c, .int 0])), (ln_coaches, .inr (6, [.int 16, .int 5, .ref ln_coaches_c, .int 0]))] s.heap.size = A at hD ⊢
  have hA : ∀ q : Nat, s.heap.size ≤ q → A q := fun q h => by rw [← hAe]; exact Or.inr h
  have hS : va_S A s.heap s.heap [] := va_S.rf
  have hl := lv_entry ([.ref ln]) (n := 1) (Nat.le_of_ble_eq_true rfl)
  rw [lg_entry_eq]
  generalize (lg_sl ([.ref ln]) ++ List.replicate (1 - (lg_sl ([.ref ln])).length) Slot.unset).toArray = ls at hl ⊢
  have hl : lv_has ls 1 [(0, .ref ln)] := hl
  refine lv_aload_n hx hb dX3_empty_0 rfl (lv_at hl 0 rfl) ?_
  refine lv_iconst (v := 0) hx hb dX3_empty_1 (by decide) ?_
  refine va_put (D := G.1) (ci := 3) (v := .int 0) (ty := .int) (C := RX3) (T := TX3) (N := 9) hx hb hw inGX3 tyX3 tyX3_ok nmX3 hown hK hP hD hS 0 rfl rfl 0 (by decide) (hw _ kw_88) (fun _ h9 => h9) rfl (by decide +kernel) rfl rfl (Nat.le_of_ble_eq_true rfl) dX3_empty_2 (fun H locs hP hD hS => ?_)
  have hP : va_P G.1 vwCl [(ln, .inr (3, [.int 0, .int 0, .ref ln_slopes, .ref ln_wets, .ref ln_limits, .ref ln_platforms, .ref ln_kinds, .ref ln_trains, .ref ln_coaches])), (ln_slopes, .inr (6, [.int 8, .int 2, .ref ln_slopes_c, .int 0])), (ln_wets, .inr (6, [.int 6, .int 3, .ref ln_wets_c, .int 0])), (ln_limits, .inr (6, [.int 6, .int 2, .ref ln_limits_c, .int 0])), (ln_platforms, .inr (6, [.int 6, .int 2, .ref ln_platforms_c, .int 0])), (ln_kinds, .inr (6, [.int 4, .int 5, .ref ln_kinds_c, .int 0])), (ln_trains, .inr (6, [.int 5, .int 3, .ref ln_trains_c, .int 0])), (ln_coaches, .inr (6, [.int 16, .int 5, .ref ln_coaches_c, .int 0]))] H := hP
  have hD : va_D A [(ln, .inr (3, [.int 0, .int 0, .ref ln_slopes, .ref ln_wets, .ref ln_limits, .ref ln_platforms, .ref ln_kinds, .ref ln_trains, .ref ln_coaches])), (ln_slopes, .inr (6, [.int 8, .int 2, .ref ln_slopes_c, .int 0])), (ln_wets, .inr (6, [.int 6, .int 3, .ref ln_wets_c, .int 0])), (ln_limits, .inr (6, [.int 6, .int 2, .ref ln_limits_c, .int 0])), (ln_platforms, .inr (6, [.int 6, .int 2, .ref ln_platforms_c, .int 0])), (ln_kinds, .inr (6, [.int 4, .int 5, .ref ln_kinds_c, .int 0])), (ln_trains, .inr (6, [.int 5, .int 3, .ref ln_trains_c, .int 0])), (ln_coaches, .inr (6, [.int 16, .int 5, .ref ln_coaches_c, .int 0]))] := hD
  refine lv_aload_n hx hb dX3_empty_5 rfl (lv_at hl 0 rfl) ?_
  refine lv_iconst (v := 0) hx hb dX3_empty_6 (by decide) ?_
  refine va_put (D := G.1) (ci := 3) (v := .int 0) (ty := .int) (C := RX3) (T := TX3) (N := 9) hx hb hw inGX3 tyX3 tyX3_ok nmX3 hown hK hP hD hS 0 rfl rfl 1 (by decide) (hw _ kw_89) (fun _ h9 => h9) rfl (by decide +kernel) rfl rfl (Nat.le_of_ble_eq_true rfl) dX3_empty_7 (fun H locs hP hD hS => ?_)
  have hP : va_P G.1 vwCl [(ln, .inr (3, [.int 0, .int 0, .ref ln_slopes, .ref ln_wets, .ref ln_limits, .ref ln_platforms, .ref ln_kinds, .ref ln_trains, .ref ln_coaches])), (ln_slopes, .inr (6, [.int 8, .int 2, .ref ln_slopes_c, .int 0])), (ln_wets, .inr (6, [.int 6, .int 3, .ref ln_wets_c, .int 0])), (ln_limits, .inr (6, [.int 6, .int 2, .ref ln_limits_c, .int 0])), (ln_platforms, .inr (6, [.int 6, .int 2, .ref ln_platforms_c, .int 0])), (ln_kinds, .inr (6, [.int 4, .int 5, .ref ln_kinds_c, .int 0])), (ln_trains, .inr (6, [.int 5, .int 3, .ref ln_trains_c, .int 0])), (ln_coaches, .inr (6, [.int 16, .int 5, .ref ln_coaches_c, .int 0]))] H := hP
  have hD : va_D A [(ln, .inr (3, [.int 0, .int 0, .ref ln_slopes, .ref ln_wets, .ref ln_limits, .ref ln_platforms, .ref ln_kinds, .ref ln_trains, .ref ln_coaches])), (ln_slopes, .inr (6, [.int 8, .int 2, .ref ln_slopes_c, .int 0])), (ln_wets, .inr (6, [.int 6, .int 3, .ref ln_wets_c, .int 0])), (ln_limits, .inr (6, [.int 6, .int 2, .ref ln_limits_c, .int 0])), (ln_platforms, .inr (6, [.int 6, .int 2, .ref ln_platforms_c, .int 0])), (ln_kinds, .inr (6, [.int 4, .int 5, .ref ln_kinds_c, .int 0])), (ln_trains, .inr (6, [.int 5, .int 3, .ref ln_trains_c, .int 0])), (ln_coaches, .inr (6, [.int 16, .int 5, .ref ln_coaches_c, .int 0]))] := hD
  refine lv_aload_n hx hb dX3_empty_10 rfl (lv_at hl 0 rfl) ?_
  refine va_get (D := G.1) (ci := 3) (v := .ref ln_slopes) (C := RX3) (T := TX3) (N := 9) hx hb hw inGX3 hown hK hP 0 rfl rfl 2 (by decide) (hw _ kw_90) (fun _ h9 => h9) rfl dX3_empty_11 ?_
  refine lv_iconst (v := 0) hx hb dX3_empty_14 (by decide) ?_
  refine va_put (D := G.1) (ci := 6) (v := .int 0) (ty := .int) (C := RX6) (T := TX6) (N := 4) hx hb hw inGX6 tyX6 tyX6_ok nmX6 hown hK hP hD hS 1 rfl rfl 3 (by decide) (hw _ kw_91) (fun _ h9 => h9) rfl (by decide +kernel) rfl rfl (Nat.le_of_ble_eq_true rfl) dX3_empty_15 (fun H locs hP hD hS => ?_)
  have hP : va_P G.1 vwCl [(ln, .inr (3, [.int 0, .int 0, .ref ln_slopes, .ref ln_wets, .ref ln_limits, .ref ln_platforms, .ref ln_kinds, .ref ln_trains, .ref ln_coaches])), (ln_slopes, .inr (6, [.int 8, .int 2, .ref ln_slopes_c, .int 0])), (ln_wets, .inr (6, [.int 6, .int 3, .ref ln_wets_c, .int 0])), (ln_limits, .inr (6, [.int 6, .int 2, .ref ln_limits_c, .int 0])), (ln_platforms, .inr (6, [.int 6, .int 2, .ref ln_platforms_c, .int 0])), (ln_kinds, .inr (6, [.int 4, .int 5, .ref ln_kinds_c, .int 0])), (ln_trains, .inr (6, [.int 5, .int 3, .ref ln_trains_c, .int 0])), (ln_coaches, .inr (6, [.int 16, .int 5, .ref ln_coaches_c, .int 0]))] H := hP
  have hD : va_D A [(ln, .inr (3, [.int 0, .int 0, .ref ln_slopes, .ref ln_wets, .ref ln_limits, .ref ln_platforms, .ref ln_kinds, .ref ln_trains, .ref ln_coaches])), (ln_slopes, .inr (6, [.int 8, .int 2, .ref ln_slopes_c, .int 0])), (ln_wets, .inr (6, [.int 6, .int 3, .ref ln_wets_c, .int 0])), (ln_limits, .inr (6, [.int 6, .int 2, .ref ln_limits_c, .int 0])), (ln_platforms, .inr (6, [.int 6, .int 2, .ref ln_platforms_c, .int 0])), (ln_kinds, .inr (6, [.int 4, .int 5, .ref ln_kinds_c, .int 0])), (ln_trains, .inr (6, [.int 5, .int 3, .ref ln_trains_c, .int 0])), (ln_coaches, .inr (6, [.int 16, .int 5, .ref ln_coaches_c, .int 0]))] := hD
  refine lv_aload_n hx hb dX3_empty_18 rfl (lv_at hl 0 rfl) ?_
  refine va_get (D := G.1) (ci := 3) (v := .ref ln_wets) (C := RX3) (T := TX3) (N := 9) hx hb hw inGX3 hown hK hP 0 rfl rfl 3 (by decide) (hw _ kw_92) (fun _ h9 => h9) rfl dX3_empty_19 ?_
  refine lv_iconst (v := 0) hx hb dX3_empty_22 (by decide) ?_
  refine va_put (D := G.1) (ci := 6) (v := .int 0) (ty := .int) (C := RX6) (T := TX6) (N := 4) hx hb hw inGX6 tyX6 tyX6_ok nmX6 hown hK hP hD hS 2 rfl rfl 3 (by decide) (hw _ kw_91) (fun _ h9 => h9) rfl (by decide +kernel) rfl rfl (Nat.le_of_ble_eq_true rfl) dX3_empty_23 (fun H locs hP hD hS => ?_)
  have hP : va_P G.1 vwCl [(ln, .inr (3, [.int 0, .int 0, .ref ln_slopes, .ref ln_wets, .ref ln_limits, .ref ln_platforms, .ref ln_kinds, .ref ln_trains, .ref ln_coaches])), (ln_slopes, .inr (6, [.int 8, .int 2, .ref ln_slopes_c, .int 0])), (ln_wets, .inr (6, [.int 6, .int 3, .ref ln_wets_c, .int 0])), (ln_limits, .inr (6, [.int 6, .int 2, .ref ln_limits_c, .int 0])), (ln_platforms, .inr (6, [.int 6, .int 2, .ref ln_platforms_c, .int 0])), (ln_kinds, .inr (6, [.int 4, .int 5, .ref ln_kinds_c, .int 0])), (ln_trains, .inr (6, [.int 5, .int 3, .ref ln_trains_c, .int 0])), (ln_coaches, .inr (6, [.int 16, .int 5, .ref ln_coaches_c, .int 0]))] H := hP
  have hD : va_D A [(ln, .inr (3, [.int 0, .int 0, .ref ln_slopes, .ref ln_wets, .ref ln_limits, .ref ln_platforms, .ref ln_kinds, .ref ln_trains, .ref ln_coaches])), (ln_slopes, .inr (6, [.int 8, .int 2, .ref ln_slopes_c, .int 0])), (ln_wets, .inr (6, [.int 6, .int 3, .ref ln_wets_c, .int 0])), (ln_limits, .inr (6, [.int 6, .int 2, .ref ln_limits_c, .int 0])), (ln_platforms, .inr (6, [.int 6, .int 2, .ref ln_platforms_c, .int 0])), (ln_kinds, .inr (6, [.int 4, .int 5, .ref ln_kinds_c, .int 0])), (ln_trains, .inr (6, [.int 5, .int 3, .ref ln_trains_c, .int 0])), (ln_coaches, .inr (6, [.int 16, .int 5, .ref ln_coaches_c, .int 0]))] := hD
  refine lv_aload_n hx hb dX3_empty_26 rfl (lv_at hl 0 rfl) ?_
  refine va_get (D := G.1) (ci := 3) (v := .ref ln_limits) (C := RX3) (T := TX3) (N := 9) hx hb hw inGX3 hown hK hP 0 rfl rfl 4 (by decide) (hw _ kw_93) (fun _ h9 => h9) rfl dX3_empty_27 ?_
  refine lv_iconst (v := 0) hx hb dX3_empty_30 (by decide) ?_
  refine va_put (D := G.1) (ci := 6) (v := .int 0) (ty := .int) (C := RX6) (T := TX6) (N := 4) hx hb hw inGX6 tyX6 tyX6_ok nmX6 hown hK hP hD hS 3 rfl rfl 3 (by decide) (hw _ kw_91) (fun _ h9 => h9) rfl (by decide +kernel) rfl rfl (Nat.le_of_ble_eq_true rfl) dX3_empty_31 (fun H locs hP hD hS => ?_)
  have hP : va_P G.1 vwCl [(ln, .inr (3, [.int 0, .int 0, .ref ln_slopes, .ref ln_wets, .ref ln_limits, .ref ln_platforms, .ref ln_kinds, .ref ln_trains, .ref ln_coaches])), (ln_slopes, .inr (6, [.int 8, .int 2, .ref ln_slopes_c, .int 0])), (ln_wets, .inr (6, [.int 6, .int 3, .ref ln_wets_c, .int 0])), (ln_limits, .inr (6, [.int 6, .int 2, .ref ln_limits_c, .int 0])), (ln_platforms, .inr (6, [.int 6, .int 2, .ref ln_platforms_c, .int 0])), (ln_kinds, .inr (6, [.int 4, .int 5, .ref ln_kinds_c, .int 0])), (ln_trains, .inr (6, [.int 5, .int 3, .ref ln_trains_c, .int 0])), (ln_coaches, .inr (6, [.int 16, .int 5, .ref ln_coaches_c, .int 0]))] H := hP
  have hD : va_D A [(ln, .inr (3, [.int 0, .int 0, .ref ln_slopes, .ref ln_wets, .ref ln_limits, .ref ln_platforms, .ref ln_kinds, .ref ln_trains, .ref ln_coaches])), (ln_slopes, .inr (6, [.int 8, .int 2, .ref ln_slopes_c, .int 0])), (ln_wets, .inr (6, [.int 6, .int 3, .ref ln_wets_c, .int 0])), (ln_limits, .inr (6, [.int 6, .int 2, .ref ln_limits_c, .int 0])), (ln_platforms, .inr (6, [.int 6, .int 2, .ref ln_platforms_c, .int 0])), (ln_kinds, .inr (6, [.int 4, .int 5, .ref ln_kinds_c, .int 0])), (ln_trains, .inr (6, [.int 5, .int 3, .ref ln_trains_c, .int 0])), (ln_coaches, .inr (6, [.int 16, .int 5, .ref ln_coaches_c, .int 0]))] := hD
  refine lv_aload_n hx hb dX3_empty_34 rfl (lv_at hl 0 rfl) ?_
  refine va_get (D := G.1) (ci := 3) (v := .ref ln_platforms) (C := RX3) (T := TX3) (N := 9) hx hb hw inGX3 hown hK hP 0 rfl rfl 5 (by decide) (hw _ kw_94) (fun _ h9 => h9) rfl dX3_empty_35 ?_
  refine lv_iconst (v := 0) hx hb dX3_empty_38 (by decide) ?_
  refine va_put (D := G.1) (ci := 6) (v := .int 0) (ty := .int) (C := RX6) (T := TX6) (N := 4) hx hb hw inGX6 tyX6 tyX6_ok nmX6 hown hK hP hD hS 4 rfl rfl 3 (by decide) (hw _ kw_91) (fun _ h9 => h9) rfl (by decide +kernel) rfl rfl (Nat.le_of_ble_eq_true rfl) dX3_empty_39 (fun H locs hP hD hS => ?_)
  have hP : va_P G.1 vwCl [(ln, .inr (3, [.int 0, .int 0, .ref ln_slopes, .ref ln_wets, .ref ln_limits, .ref ln_platforms, .ref ln_kinds, .ref ln_trains, .ref ln_coaches])), (ln_slopes, .inr (6, [.int 8, .int 2, .ref ln_slopes_c, .int 0])), (ln_wets, .inr (6, [.int 6, .int 3, .ref ln_wets_c, .int 0])), (ln_limits, .inr (6, [.int 6, .int 2, .ref ln_limits_c, .int 0])), (ln_platforms, .inr (6, [.int 6, .int 2, .ref ln_platforms_c, .int 0])), (ln_kinds, .inr (6, [.int 4, .int 5, .ref ln_kinds_c, .int 0])), (ln_trains, .inr (6, [.int 5, .int 3, .ref ln_trains_c, .int 0])), (ln_coaches, .inr (6, [.int 16, .int 5, .ref ln_coaches_c, .int 0]))] H := hP
  have hD : va_D A [(ln, .inr (3, [.int 0, .int 0, .ref ln_slopes, .ref ln_wets, .ref ln_limits, .ref ln_platforms, .ref ln_kinds, .ref ln_trains, .ref ln_coaches])), (ln_slopes, .inr (6, [.int 8, .int 2, .ref ln_slopes_c, .int 0])), (ln_wets, .inr (6, [.int 6, .int 3, .ref ln_wets_c, .int 0])), (ln_limits, .inr (6, [.int 6, .int 2, .ref ln_limits_c, .int 0])), (ln_platforms, .inr (6, [.int 6, .int 2, .ref ln_platforms_c, .int 0])), (ln_kinds, .inr (6, [.int 4, .int 5, .ref ln_kinds_c, .int 0])), (ln_trains, .inr (6, [.int 5, .int 3, .ref ln_trains_c, .int 0])), (ln_coaches, .inr (6, [.int 16, .int 5, .ref ln_coaches_c, .int 0]))] := hD
  refine lv_aload_n hx hb dX3_empty_42 rfl (lv_at hl 0 rfl) ?_
  refine va_get (D := G.1) (ci := 3) (v := .ref ln_kinds) (C := RX3) (T := TX3) (N := 9) hx hb hw inGX3 hown hK hP 0 rfl rfl 6 (by decide) (hw _ kw_95) (fun _ h9 => h9) rfl dX3_empty_43 ?_
  refine lv_iconst (v := 0) hx hb dX3_empty_46 (by decide) ?_
  refine va_put (D := G.1) (ci := 6) (v := .int 0) (ty := .int) (C := RX6) (T := TX6) (N := 4) hx hb hw inGX6 tyX6 tyX6_ok nmX6 hown hK hP hD hS 5 rfl rfl 3 (by decide) (hw _ kw_91) (fun _ h9 => h9) rfl (by decide +kernel) rfl rfl (Nat.le_of_ble_eq_true rfl) dX3_empty_47 (fun H locs hP hD hS => ?_)
  have hP : va_P G.1 vwCl [(ln, .inr (3, [.int 0, .int 0, .ref ln_slopes, .ref ln_wets, .ref ln_limits, .ref ln_platforms, .ref ln_kinds, .ref ln_trains, .ref ln_coaches])), (ln_slopes, .inr (6, [.int 8, .int 2, .ref ln_slopes_c, .int 0])), (ln_wets, .inr (6, [.int 6, .int 3, .ref ln_wets_c, .int 0])), (ln_limits, .inr (6, [.int 6, .int 2, .ref ln_limits_c, .int 0])), (ln_platforms, .inr (6, [.int 6, .int 2, .ref ln_platforms_c, .int 0])), (ln_kinds, .inr (6, [.int 4, .int 5, .ref ln_kinds_c, .int 0])), (ln_trains, .inr (6, [.int 5, .int 3, .ref ln_trains_c, .int 0])), (ln_coaches, .inr (6, [.int 16, .int 5, .ref ln_coaches_c, .int 0]))] H := hP
  have hD : va_D A [(ln, .inr (3, [.int 0, .int 0, .ref ln_slopes, .ref ln_wets, .ref ln_limits, .ref ln_platforms, .ref ln_kinds, .ref ln_trains, .ref ln_coaches])), (ln_slopes, .inr (6, [.int 8, .int 2, .ref ln_slopes_c, .int 0])), (ln_wets, .inr (6, [.int 6, .int 3, .ref ln_wets_c, .int 0])), (ln_limits, .inr (6, [.int 6, .int 2, .ref ln_limits_c, .int 0])), (ln_platforms, .inr (6, [.int 6, .int 2, .ref ln_platforms_c, .int 0])), (ln_kinds, .inr (6, [.int 4, .int 5, .ref ln_kinds_c, .int 0])), (ln_trains, .inr (6, [.int 5, .int 3, .ref ln_trains_c, .int 0])), (ln_coaches, .inr (6, [.int 16, .int 5, .ref ln_coaches_c, .int 0]))] := hD
  refine lv_aload_n hx hb dX3_empty_50 rfl (lv_at hl 0 rfl) ?_
  refine va_get (D := G.1) (ci := 3) (v := .ref ln_trains) (C := RX3) (T := TX3) (N := 9) hx hb hw inGX3 hown hK hP 0 rfl rfl 7 (by decide) (hw _ kw_96) (fun _ h9 => h9) rfl dX3_empty_51 ?_
  refine lv_iconst (v := 0) hx hb dX3_empty_54 (by decide) ?_
  refine va_put (D := G.1) (ci := 6) (v := .int 0) (ty := .int) (C := RX6) (T := TX6) (N := 4) hx hb hw inGX6 tyX6 tyX6_ok nmX6 hown hK hP hD hS 6 rfl rfl 3 (by decide) (hw _ kw_91) (fun _ h9 => h9) rfl (by decide +kernel) rfl rfl (Nat.le_of_ble_eq_true rfl) dX3_empty_55 (fun H locs hP hD hS => ?_)
  have hP : va_P G.1 vwCl [(ln, .inr (3, [.int 0, .int 0, .ref ln_slopes, .ref ln_wets, .ref ln_limits, .ref ln_platforms, .ref ln_kinds, .ref ln_trains, .ref ln_coaches])), (ln_slopes, .inr (6, [.int 8, .int 2, .ref ln_slopes_c, .int 0])), (ln_wets, .inr (6, [.int 6, .int 3, .ref ln_wets_c, .int 0])), (ln_limits, .inr (6, [.int 6, .int 2, .ref ln_limits_c, .int 0])), (ln_platforms, .inr (6, [.int 6, .int 2, .ref ln_platforms_c, .int 0])), (ln_kinds, .inr (6, [.int 4, .int 5, .ref ln_kinds_c, .int 0])), (ln_trains, .inr (6, [.int 5, .int 3, .ref ln_trains_c, .int 0])), (ln_coaches, .inr (6, [.int 16, .int 5, .ref ln_coaches_c, .int 0]))] H := hP
  have hD : va_D A [(ln, .inr (3, [.int 0, .int 0, .ref ln_slopes, .ref ln_wets, .ref ln_limits, .ref ln_platforms, .ref ln_kinds, .ref ln_trains, .ref ln_coaches])), (ln_slopes, .inr (6, [.int 8, .int 2, .ref ln_slopes_c, .int 0])), (ln_wets, .inr (6, [.int 6, .int 3, .ref ln_wets_c, .int 0])), (ln_limits, .inr (6, [.int 6, .int 2, .ref ln_limits_c, .int 0])), (ln_platforms, .inr (6, [.int 6, .int 2, .ref ln_platforms_c, .int 0])), (ln_kinds, .inr (6, [.int 4, .int 5, .ref ln_kinds_c, .int 0])), (ln_trains, .inr (6, [.int 5, .int 3, .ref ln_trains_c, .int 0])), (ln_coaches, .inr (6, [.int 16, .int 5, .ref ln_coaches_c, .int 0]))] := hD
  refine lv_aload_n hx hb dX3_empty_58 rfl (lv_at hl 0 rfl) ?_
  refine va_get (D := G.1) (ci := 3) (v := .ref ln_coaches) (C := RX3) (T := TX3) (N := 9) hx hb hw inGX3 hown hK hP 0 rfl rfl 8 (by decide) (hw _ kw_97) (fun _ h9 => h9) rfl dX3_empty_59 ?_
  refine lv_iconst (v := 0) hx hb dX3_empty_62 (by decide) ?_
  refine va_put (D := G.1) (ci := 6) (v := .int 0) (ty := .int) (C := RX6) (T := TX6) (N := 4) hx hb hw inGX6 tyX6 tyX6_ok nmX6 hown hK hP hD hS 7 rfl rfl 3 (by decide) (hw _ kw_91) (fun _ h9 => h9) rfl (by decide +kernel) rfl rfl (Nat.le_of_ble_eq_true rfl) dX3_empty_63 (fun H locs hP hD hS => ?_)
  have hP : va_P G.1 vwCl [(ln, .inr (3, [.int 0, .int 0, .ref ln_slopes, .ref ln_wets, .ref ln_limits, .ref ln_platforms, .ref ln_kinds, .ref ln_trains, .ref ln_coaches])), (ln_slopes, .inr (6, [.int 8, .int 2, .ref ln_slopes_c, .int 0])), (ln_wets, .inr (6, [.int 6, .int 3, .ref ln_wets_c, .int 0])), (ln_limits, .inr (6, [.int 6, .int 2, .ref ln_limits_c, .int 0])), (ln_platforms, .inr (6, [.int 6, .int 2, .ref ln_platforms_c, .int 0])), (ln_kinds, .inr (6, [.int 4, .int 5, .ref ln_kinds_c, .int 0])), (ln_trains, .inr (6, [.int 5, .int 3, .ref ln_trains_c, .int 0])), (ln_coaches, .inr (6, [.int 16, .int 5, .ref ln_coaches_c, .int 0]))] H := hP
  have hD : va_D A [(ln, .inr (3, [.int 0, .int 0, .ref ln_slopes, .ref ln_wets, .ref ln_limits, .ref ln_platforms, .ref ln_kinds, .ref ln_trains, .ref ln_coaches])), (ln_slopes, .inr (6, [.int 8, .int 2, .ref ln_slopes_c, .int 0])), (ln_wets, .inr (6, [.int 6, .int 3, .ref ln_wets_c, .int 0])), (ln_limits, .inr (6, [.int 6, .int 2, .ref ln_limits_c, .int 0])), (ln_platforms, .inr (6, [.int 6, .int 2, .ref ln_platforms_c, .int 0])), (ln_kinds, .inr (6, [.int 4, .int 5, .ref ln_kinds_c, .int 0])), (ln_trains, .inr (6, [.int 5, .int 3, .ref ln_trains_c, .int 0])), (ln_coaches, .inr (6, [.int 16, .int 5, .ref ln_coaches_c, .int 0]))] := hD
  exact W.vret hx hb hr (fun t ht hW => ⟨⟨(), rfl, trivial, ⟨by rw [ht]; exact hP.sub [0, 1, 2, 3, 4, 5, 6, 7] rfl, hD.sub [0, 1, 2, 3, 4, 5, 6, 7] (by decide +kernel) rfl⟩⟩, hS.F ht⟩) hS.2.2 dX3_empty_66
set_option maxHeartbeats 4000000 in
set_option maxRecDepth 100000 in
theorem c_linesOfText0 (l : Launch) (G : KG) (rd : Nat) (rt : Nat) : Met l yX5_linesOfText wgX5_linesOfText ({ frames := 0, cells := 0, slots := 0, locals := 0 }) (preS G [.ref rd] [(rd, .inr (5, [.ref rt, .int 0, .int 0, .int 0, .int 0, .int 0, .int 0, .int (-1)]))]) (vp_Si (fun (r : Int32) => (r = 0))) 0 0 (fun _ => False) := by
  refine Met.ofW (cc := cX5_linesOfText) (maxL := 3) (ret := (some .int)) (by decide) rfl ?_
  intro p e s m args below meth c s₁ B hml hv
  obtain ⟨rfl, hP, hKG⟩ := hv
  obtain ⟨hK, hAO⟩ := id hKG
  have hx := B.exec
  have hb := B.bytes
  have hr := B.returns
  have hts := atoms_spec (ws := wgX5_linesOfText) B.pre
  have hw : ∀ w ∈ wG, w.before _ s = true := fun w h => hts w (List.mem_cons_of_mem _ h)
  have hown : s.vm.findClass RX5 = some m.cls := findClass_of_methodNamed B.named
  have hlocks := B.notSynchronized
  have hl := lv_entry ([.ref rd]) (n := 3) (Nat.le_of_ble_eq_true rfl)
  rw [lg_entry_eq]
  generalize (lg_sl ([.ref rd]) ++ List.replicate (3 - (lg_sl ([.ref rd])).length) Slot.unset).toArray = ls at hl ⊢
  have hl : lv_has ls 3 [(0, .ref rd)] := hl
  refine lv_iconst (v := 0) hx hb dX5_linesOfText_0 (by decide) ?_
  refine lv_istore_n (lv' := [(1, .int 0), (0, .ref rd)]) hx hb dX5_linesOfText_1 rfl hl (by decide) rfl (fun ls hl => ?_)
  refine lv_iconst (v := 0) hx hb dX5_linesOfText_2 (by decide) ?_
  refine lv_istore_n (lv' := [(2, .int 0), (1, .int 0), (0, .ref rd)]) hx hb dX5_linesOfText_3 rfl hl (by decide) rfl (fun ls hl => ?_)
  refine lv_iload_n hx hb dX5_linesOfText_4 rfl (lv_at hl 0 rfl) ?_
  refine lv_aload_n hx hb dX5_linesOfText_5 rfl (lv_at hl 2 rfl) ?_
  refine va_get (D := G.1) (ci := 5) (v := .int 0) (C := RX5) (T := TX5) (N := 8) hx hb hw inGX5 hown hK hP 0 rfl rfl 1 (by decide) (hw _ kw_98) (fun _ h9 => h9) rfl dX5_linesOfText_6 ?_
  refine lv_icmp_ge (tgt := 42) hx hb dX5_linesOfText_9 (by decide) (fun c1 => ?_) (fun c1 => absurd (by decide) c1)
  refine lv_iload_n hx hb dX5_linesOfText_42 rfl (lv_at hl 1 rfl) ?_
  exact W.iret (v := 0) hx hb hr (fun t ht hW => ⟨0, rfl, rfl, ht⟩) (fun _ h => absurd h List.not_mem_nil) dX5_linesOfText_43
set_option maxHeartbeats 4000000 in
set_option maxRecDepth 100000 in
theorem c_advance0 (l : Launch) (G : KG) (rd : Nat) (rt : Nat) (sz : Nat) : Met l yX5_advance wgX5_advance ({ frames := 0, cells := 0, slots := 0, locals := 0 }) (preQ G [.ref rd] sz [(rd, .inr (5, [.ref rt, .int 0, .int 0, .int 0, .int 0, .int 0, .int 0, .int (-1)]))]) (va_Qv (fun (u : Unit) => True) (fun u t => atQ G (va_A [(rd, .inr (5, [.ref rt, .int 0, .int 0, .int 0, .int 0, .int 0, .int 0, .int (-1)]))] sz) [(rd, .inr (5, [.ref rt, .int 0, .int 0, .int 0, .int 0, .int 0, .int 0, .int (-1)]))] t) (va_A [(rd, .inr (5, [.ref rt, .int 0, .int 0, .int 0, .int 0, .int 0, .int 0, .int (-1)]))] sz)) 0 0 (va_A [(rd, .inr (5, [.ref rt, .int 0, .int 0, .int 0, .int 0, .int 0, .int 0, .int (-1)]))] sz) := by
  refine Met.ofW (cc := cX5_advance) (maxL := 1) (ret := none) (by decide) rfl ?_
  intro p e s m args below meth c s₁ B hml hv
  obtain ⟨rfl, hsz, hP, hKG, hD0⟩ := hv
  obtain ⟨hK, hAO⟩ := id hKG
  have hx := B.exec
  have hb := B.bytes
  have hr := B.returns
  have hts := atoms_spec (ws := wgX5_advance) B.pre
  have hw : ∀ w ∈ wG, w.before _ s = true := fun w h => hts w (List.mem_cons_of_mem _ h)
  have hown : s.vm.findClass RX5 = some m.cls := findClass_of_methodNamed B.named
  have hlocks := B.notSynchronized
  subst hsz
  have hD := hD0.self (sz := s.heap.size)
  generalize hAe : va_A [(rd, .inr (5, [.ref rt, .int 0, .int 0, .int 0, .int 0, .int 0, .int 0, .int (-1)]))] s.heap.size = A at hD ⊢
  have hA : ∀ q : Nat, s.heap.size ≤ q → A q := fun q h => by rw [← hAe]; exact Or.inr h
  have hS : va_S A s.heap s.heap [] := va_S.rf
  have hl := lv_entry ([.ref rd]) (n := 1) (Nat.le_of_ble_eq_true rfl)
  rw [lg_entry_eq]
  generalize (lg_sl ([.ref rd]) ++ List.replicate (1 - (lg_sl ([.ref rd])).length) Slot.unset).toArray = ls at hl ⊢
  have hl : lv_has ls 1 [(0, .ref rd)] := hl
  refine lv_aload_n hx hb dX5_advance_0 rfl (lv_at hl 0 rfl) ?_
  refine lv_aload_n hx hb dX5_advance_1 rfl (lv_at hl 0 rfl) ?_
  refine va_get (D := G.1) (ci := 5) (v := .int 0) (C := RX5) (T := TX5) (N := 8) hx hb hw inGX5 hown hK hP 0 rfl rfl 3 (by decide) (hw _ kw_99) (fun _ h9 => h9) rfl dX5_advance_2 ?_
  refine va_put (D := G.1) (ci := 5) (v := .int 0) (ty := .int) (C := RX5) (T := TX5) (N := 8) hx hb hw inGX5 tyX5 tyX5_ok nmX5 hown hK hP hD hS 0 rfl rfl 2 (by decide) (hw _ kw_100) (fun _ h9 => h9) rfl (by decide +kernel) rfl rfl (Nat.le_of_ble_eq_true rfl) dX5_advance_5 (fun H locs hP hD hS => ?_)
  have hP : va_P G.1 vwCl [(rd, .inr (5, [.ref rt, .int 0, .int 0, .int 0, .int 0, .int 0, .int 0, .int (-1)]))] H := hP
  have hD : va_D A [(rd, .inr (5, [.ref rt, .int 0, .int 0, .int 0, .int 0, .int 0, .int 0, .int (-1)]))] := hD
  refine lv_aload_n hx hb dX5_advance_8 rfl (lv_at hl 0 rfl) ?_
  refine va_get (D := G.1) (ci := 5) (v := .int 0) (C := RX5) (T := TX5) (N := 8) hx hb hw inGX5 hown hK hP 0 rfl rfl 2 (by decide) (hw _ kw_100) (fun _ h9 => h9) rfl dX5_advance_9 ?_
  refine lv_aload_n hx hb dX5_advance_12 rfl (lv_at hl 0 rfl) ?_
  refine va_get (D := G.1) (ci := 5) (v := .int 0) (C := RX5) (T := TX5) (N := 8) hx hb hw inGX5 hown hK hP 0 rfl rfl 1 (by decide) (hw _ kw_98) (fun _ h9 => h9) rfl dX5_advance_13 ?_
  refine lv_icmp_ge (tgt := 47) hx hb dX5_advance_16 (by decide) (fun c1 => ?_) (fun c1 => absurd (by decide) c1)
  refine lv_aload_n hx hb dX5_advance_47 rfl (lv_at hl 0 rfl) ?_
  refine lv_aload_n hx hb dX5_advance_48 rfl (lv_at hl 0 rfl) ?_
  refine va_get (D := G.1) (ci := 5) (v := .int 0) (C := RX5) (T := TX5) (N := 8) hx hb hw inGX5 hown hK hP 0 rfl rfl 2 (by decide) (hw _ kw_100) (fun _ h9 => h9) rfl dX5_advance_49 ?_
  refine va_put (D := G.1) (ci := 5) (v := .int 0) (ty := .int) (C := RX5) (T := TX5) (N := 8) hx hb hw inGX5 tyX5 tyX5_ok nmX5 hown hK hP hD hS 0 rfl rfl 3 (by decide) (hw _ kw_99) (fun _ h9 => h9) rfl (by decide +kernel) rfl rfl (Nat.le_of_ble_eq_true rfl) dX5_advance_52 (fun H locs hP hD hS => ?_)
  have hP : va_P G.1 vwCl [(rd, .inr (5, [.ref rt, .int 0, .int 0, .int 0, .int 0, .int 0, .int 0, .int (-1)]))] H := hP
  have hD : va_D A [(rd, .inr (5, [.ref rt, .int 0, .int 0, .int 0, .int 0, .int 0, .int 0, .int (-1)]))] := hD
  refine lv_aload_n hx hb dX5_advance_55 rfl (lv_at hl 0 rfl) ?_
  refine va_get (D := G.1) (ci := 5) (v := .int 0) (C := RX5) (T := TX5) (N := 8) hx hb hw inGX5 hown hK hP 0 rfl rfl 2 (by decide) (hw _ kw_100) (fun _ h9 => h9) rfl dX5_advance_56 ?_
  refine lv_aload_n hx hb dX5_advance_59 rfl (lv_at hl 0 rfl) ?_
  refine va_get (D := G.1) (ci := 5) (v := .int 0) (C := RX5) (T := TX5) (N := 8) hx hb hw inGX5 hown hK hP 0 rfl rfl 1 (by decide) (hw _ kw_98) (fun _ h9 => h9) rfl dX5_advance_60 ?_
  refine lv_icmp_lt (tgt := 74) hx hb dX5_advance_63 (by decide) (fun c2 => absurd c2 (by decide)) (fun c2 => ?_)
  refine lv_aload_n hx hb dX5_advance_66 rfl (lv_at hl 0 rfl) ?_
  refine lv_iconst (v := 0) hx hb dX5_advance_67 (by decide) ?_
  refine va_put (D := G.1) (ci := 5) (v := .int 0) (ty := .int) (C := RX5) (T := TX5) (N := 8) hx hb hw inGX5 tyX5 tyX5_ok nmX5 hown hK hP hD hS 0 rfl rfl 4 (by decide) (hw _ kw_101) (fun _ h9 => h9) rfl (by decide +kernel) rfl rfl (Nat.le_of_ble_eq_true rfl) dX5_advance_68 (fun H locs hP hD hS => ?_)
  have hP : va_P G.1 vwCl [(rd, .inr (5, [.ref rt, .int 0, .int 0, .int 0, .int 0, .int 0, .int 0, .int (-1)]))] H := hP
  have hD : va_D A [(rd, .inr (5, [.ref rt, .int 0, .int 0, .int 0, .int 0, .int 0, .int 0, .int (-1)]))] := hD
  refine lv_goto (tgt := 193) hx hb dX5_advance_71 (by decide) ?_
  exact W.vret hx hb hr (fun t ht hW => ⟨⟨(), rfl, trivial, ⟨by rw [ht]; exact hP.sub [0] rfl, hD.sub [0] (by decide +kernel) rfl⟩⟩, hS.F ht⟩) hS.2.2 dX5_advance_193
set_option maxHeartbeats 4000000 in
set_option maxRecDepth 100000 in
theorem c_read0 (l : Launch) (G : KG) (rd : Nat) (rt : Nat) (tp : Nat) (ln : Nat) (ln_slopes : Nat) (ln_wets : Nat) (ln_limits : Nat) (ln_platforms : Nat) (ln_kinds : Nat) (ln_trains : Nat) (ln_coaches : Nat) (ln_slopes_c : Nat) (ln_wets_c : Nat) (ln_limits_c : Nat) (ln_platforms_c : Nat) (ln_kinds_c : Nat) (ln_trains_c : Nat) (ln_coaches_c : Nat) (sz : Nat) : Met l yX5_read wgX5_read ({ frames := 1, cells := 0, slots := 0, locals := 22 }) (preQ G [.ref rd, .ref ln, .ref tp, .int 0] sz [(rd, .inr (5, [.ref rt, .int 0, .int 0, .int 0, .int 0, .int 0, .int 0, .int (-1)])), (ln, .inr (3, [.int 0, .int 0, .ref ln_slopes, .ref ln_wets, .ref ln_limits, .ref ln_platforms, .ref ln_kinds, .ref ln_trains, .ref ln_coaches])), (ln_slopes, .inr (6, [.int 8, .int 2, .ref ln_slopes_c, .int 0])), (ln_wets, .inr (6, [.int 6, .int 3, .ref ln_wets_c, .int 0])), (ln_limits, .inr (6, [.int 6, .int 2, .ref ln_limits_c, .int 0])), (ln_platforms, .inr (6, [.int 6, .int 2, .ref ln_platforms_c, .int 0])), (ln_kinds, .inr (6, [.int 4, .int 5, .ref ln_kinds_c, .int 0])), (ln_trains, .inr (6, [.int 5, .int 3, .ref ln_trains_c, .int 0])), (ln_coaches, .inr (6, [.int 16, .int 5, .ref ln_coaches_c, .int 0])), (tp, .inl (G.2 1, 1600, .inl (fun _ => 0)))]) (va_Qv (fun (u : Unit) => True) (fun u t => atQ G (va_A [(rd, .inr (5, [.ref rt, .int 0, .int 0, .int 0, .int 0, .int 0, .int 0, .int (-1)])), (ln, .inr (3, [.int 0, .int 0, .ref ln_slopes, .ref ln_wets, .ref ln_limits, .ref ln_platforms, .ref ln_kinds, .ref ln_trains, .ref ln_coaches])), (ln_slopes, .inr (6, [.int 8, .int 2, .ref ln_slopes_c, .int 0])), (ln_wets, .inr (6, [.int 6, .int 3, .ref ln_wets_c, .int 0])), (ln_limits, .inr (6, [.int 6, .int 2, .ref ln_limits_c, .int 0])), (ln_platforms, .inr (6, [.int 6, .int 2, .ref ln_platforms_c, .int 0])), (ln_kinds, .inr (6, [.int 4, .int 5, .ref ln_kinds_c, .int 0])), (ln_trains, .inr (6, [.int 5, .int 3, .ref ln_trains_c, .int 0])), (ln_coaches, .inr (6, [.int 16, .int 5, .ref ln_coaches_c, .int 0])), (tp, .inl (G.2 1, 1600, .inl (fun _ => 0)))] sz) [(rd, .inr (5, [.ref tp, .int 0, .int 0, .int 0, .int 0, .int 0, .int 0, .int (-1)])), (ln, .inr (3, [.int 0, .int 0, .ref ln_slopes, .ref ln_wets, .ref ln_limits, .ref ln_platforms, .ref ln_kinds, .ref ln_trains, .ref ln_coaches])), (ln_slopes, .inr (6, [.int 8, .int 2, .ref ln_slopes_c, .int 0])), (ln_wets, .inr (6, [.int 6, .int 3, .ref ln_wets_c, .int 0])), (ln_limits, .inr (6, [.int 6, .int 2, .ref ln_limits_c, .int 0])), (ln_platforms, .inr (6, [.int 6, .int 2, .ref ln_platforms_c, .int 0])), (ln_kinds, .inr (6, [.int 4, .int 5, .ref ln_kinds_c, .int 0])), (ln_trains, .inr (6, [.int 5, .int 3, .ref ln_trains_c, .int 0])), (ln_coaches, .inr (6, [.int 16, .int 5, .ref ln_coaches_c, .int 0]))] t) (va_A [(rd, .inr (5, [.ref rt, .int 0, .int 0, .int 0, .int 0, .int 0, .int 0, .int (-1)])), (ln, .inr (3, [.int 0, .int 0, .ref ln_slopes, .ref ln_wets, .ref ln_limits, .ref ln_platforms, .ref ln_kinds, .ref ln_trains, .ref ln_coaches])), (ln_slopes, .inr (6, [.int 8, .int 2, .ref ln_slopes_c, .int 0])), (ln_wets, .inr (6, [.int 6, .int 3, .ref ln_wets_c, .int 0])), (ln_limits, .inr (6, [.int 6, .int 2, .ref ln_limits_c, .int 0])), (ln_platforms, .inr (6, [.int 6, .int 2, .ref ln_platforms_c, .int 0])), (ln_kinds, .inr (6, [.int 4, .int 5, .ref ln_kinds_c, .int 0])), (ln_trains, .inr (6, [.int 5, .int 3, .ref ln_trains_c, .int 0])), (ln_coaches, .inr (6, [.int 16, .int 5, .ref ln_coaches_c, .int 0])), (tp, .inl (G.2 1, 1600, .inl (fun _ => 0)))] sz)) 0 0 (va_A [(rd, .inr (5, [.ref rt, .int 0, .int 0, .int 0, .int 0, .int 0, .int 0, .int (-1)])), (ln, .inr (3, [.int 0, .int 0, .ref ln_slopes, .ref ln_wets, .ref ln_limits, .ref ln_platforms, .ref ln_kinds, .ref ln_trains, .ref ln_coaches])), (ln_slopes, .inr (6, [.int 8, .int 2, .ref ln_slopes_c, .int 0])), (ln_wets, .inr (6, [.int 6, .int 3, .ref ln_wets_c, .int 0])), (ln_limits, .inr (6, [.int 6, .int 2, .ref ln_limits_c, .int 0])), (ln_platforms, .inr (6, [.int 6, .int 2, .ref ln_platforms_c, .int 0])), (ln_kinds, .inr (6, [.int 4, .int 5, .ref ln_kinds_c, .int 0])), (ln_trains, .inr (6, [.int 5, .int 3, .ref ln_trains_c, .int 0])), (ln_coaches, .inr (6, [.int 16, .int 5, .ref ln_coaches_c, .int 0])), (tp, .inl (G.2 1, 1600, .inl (fun _ => 0)))] sz) := by
  refine Met.ofW (cc := cX5_read) (maxL := 5) (ret := none) (by decide) rfl ?_
  intro p e s m args below meth c s₁ B hml hv
  obtain ⟨rfl, hsz, hP, hKG, hD0⟩ := hv
  obtain ⟨hK, hAO⟩ := id hKG
  have hx := B.exec
  have hb := B.bytes
  have hr := B.returns
  have hts := atoms_spec (ws := wgX5_read) B.pre
  have hw : ∀ w ∈ wG, w.before _ s = true := fun w h => hts w (List.mem_cons_of_mem _ h)
  have hown : s.vm.findClass RX5 = some m.cls := findClass_of_methodNamed B.named
  have hlocks := B.notSynchronized
  subst hsz
  have hD := hD0.self (sz := s.heap.size)
  generalize hAe : va_A [(rd, .inr (5, [.ref rt, .int 0, .int 0, .int 0, .int 0, .int 0, .int 0, .int (-1)])), (ln, .inr (3, [.int 0, .int 0, .ref ln_slopes, .ref ln_wets, .ref ln_limits, .ref ln_platforms, .ref ln_kinds, .ref ln_trains, .ref ln_coaches])), (ln_slopes, .inr (6, [.int 8, .int 2, .ref ln_slopes_c, .int 0])), (ln_wets, .inr (6, [.int 6, .int 3, .ref ln_wets_c, .int 0])), (ln_limits, .inr (6, [.int 6, .int 2, .ref ln_limits_c, .int 0])), (ln_platforms, .inr (6, [.int 6, .int 2, .ref ln_platforms_c, .int 0])), (ln_kinds, .inr (6, [.int 4, .int 5, .ref ln_kinds_c, .int 0])), (ln_trains, .inr (6, [.int 5, .int 3, .ref ln_trains_c, .int 0])), (ln_coaches, .inr (6, [.int 16, .int 5, .ref ln_coaches_c, .int 0])), (tp, .inl (G.2 1, 1600, .inl (fun _ => 0)))] s.heap.size = A at hD ⊢
  have hA : ∀ q : Nat, s.heap.size ≤ q → A q := fun q h => by rw [← hAe]; exact Or.inr h
  have hS : va_S A s.heap s.heap [] := va_S.rf
  have hl := lv_entry ([.ref rd, .ref ln, .ref tp, .int 0]) (n := 5) (Nat.le_of_ble_eq_true rfl)
  rw [lg_entry_eq]
  generalize (lg_sl ([.ref rd, .ref ln, .ref tp, .int 0]) ++ List.replicate (5 - (lg_sl ([.ref rd, .ref ln, .ref tp, .int 0])).length) Slot.unset).toArray = ls at hl ⊢
  have hl : lv_has ls 5 [(0, .ref rd), (1, .ref ln), (2, .ref tp), (3, .int 0)] := hl
  refine lv_aload_n hx hb dX5_read_0 rfl (lv_at hl 0 rfl) ?_
  refine lv_aload_n hx hb dX5_read_1 rfl (lv_at hl 2 rfl) ?_
  refine va_put (D := G.1) (ci := 5) (v := .ref tp) (ty := (.array .byte)) (C := RX5) (T := TX5) (N := 8) hx hb hw inGX5 tyX5 tyX5_ok nmX5 hown hK hP hD hS 0 rfl rfl 0 (by decide) (hw _ kw_102) (fun _ h9 => h9) rfl (by decide +kernel) rfl rfl (Nat.le_of_ble_eq_true rfl) dX5_read_2 (fun H locs hP hD hS => ?_)
  have hP : va_P G.1 vwCl [(rd, .inr (5, [.ref tp, .int 0, .int 0, .int 0, .int 0, .int 0, .int 0, .int (-1)])), (ln, .inr (3, [.int 0, .int 0, .ref ln_slopes, .ref ln_wets, .ref ln_limits, .ref ln_platforms, .ref ln_kinds, .ref ln_trains, .ref ln_coaches])), (ln_slopes, .inr (6, [.int 8, .int 2, .ref ln_slopes_c, .int 0])), (ln_wets, .inr (6, [.int 6, .int 3, .ref ln_wets_c, .int 0])), (ln_limits, .inr (6, [.int 6, .int 2, .ref ln_limits_c, .int 0])), (ln_platforms, .inr (6, [.int 6, .int 2, .ref ln_platforms_c, .int 0])), (ln_kinds, .inr (6, [.int 4, .int 5, .ref ln_kinds_c, .int 0])), (ln_trains, .inr (6, [.int 5, .int 3, .ref ln_trains_c, .int 0])), (ln_coaches, .inr (6, [.int 16, .int 5, .ref ln_coaches_c, .int 0])), (tp, .inl (G.2 1, 1600, .inl (fun _ => 0)))] H := hP
  have hD : va_D A [(rd, .inr (5, [.ref tp, .int 0, .int 0, .int 0, .int 0, .int 0, .int 0, .int (-1)])), (ln, .inr (3, [.int 0, .int 0, .ref ln_slopes, .ref ln_wets, .ref ln_limits, .ref ln_platforms, .ref ln_kinds, .ref ln_trains, .ref ln_coaches])), (ln_slopes, .inr (6, [.int 8, .int 2, .ref ln_slopes_c, .int 0])), (ln_wets, .inr (6, [.int 6, .int 3, .ref ln_wets_c, .int 0])), (ln_limits, .inr (6, [.int 6, .int 2, .ref ln_limits_c, .int 0])), (ln_platforms, .inr (6, [.int 6, .int 2, .ref ln_platforms_c, .int 0])), (ln_kinds, .inr (6, [.int 4, .int 5, .ref ln_kinds_c, .int 0])), (ln_trains, .inr (6, [.int 5, .int 3, .ref ln_trains_c, .int 0])), (ln_coaches, .inr (6, [.int 16, .int 5, .ref ln_coaches_c, .int 0])), (tp, .inl (G.2 1, 1600, .inl (fun _ => 0)))] := hD
  refine lv_aload_n hx hb dX5_read_5 rfl (lv_at hl 0 rfl) ?_
  refine lv_iload_n hx hb dX5_read_6 rfl (lv_at hl 3 rfl) ?_
  refine lv_aload_n hx hb dX5_read_7 rfl (lv_at hl 2 rfl) ?_
  refine va_alen (v := 1600) hx hb hK hP 9 1 rfl rfl rfl dX5_read_8 ?_
  refine va_mmin hx hb (by rw [hml]; exact hl.1.symm) hown (hw _ kw_103) (hw _ kw_72) (hw _ kw_73) (hw _ kw_74) (Nat.le_of_ble_eq_true rfl) (Nat.le_of_ble_eq_true rfl) (Nat.le_of_ble_eq_true rfl) (Nat.le_of_ble_eq_true rfl) dX5_read_9 ?_
  refine lv_cst (y := 0) (by decide) ?_
  refine va_put (D := G.1) (ci := 5) (v := .int 0) (ty := .int) (C := RX5) (T := TX5) (N := 8) hx hb hw inGX5 tyX5 tyX5_ok nmX5 hown hK hP hD hS 0 rfl rfl 1 (by decide) (hw _ kw_98) (fun _ h9 => h9) rfl (by decide +kernel) rfl rfl (Nat.le_of_ble_eq_true rfl) dX5_read_12 (fun H locs hP hD hS => ?_)
  have hP : va_P G.1 vwCl [(rd, .inr (5, [.ref tp, .int 0, .int 0, .int 0, .int 0, .int 0, .int 0, .int (-1)])), (ln, .inr (3, [.int 0, .int 0, .ref ln_slopes, .ref ln_wets, .ref ln_limits, .ref ln_platforms, .ref ln_kinds, .ref ln_trains, .ref ln_coaches])), (ln_slopes, .inr (6, [.int 8, .int 2, .ref ln_slopes_c, .int 0])), (ln_wets, .inr (6, [.int 6, .int 3, .ref ln_wets_c, .int 0])), (ln_limits, .inr (6, [.int 6, .int 2, .ref ln_limits_c, .int 0])), (ln_platforms, .inr (6, [.int 6, .int 2, .ref ln_platforms_c, .int 0])), (ln_kinds, .inr (6, [.int 4, .int 5, .ref ln_kinds_c, .int 0])), (ln_trains, .inr (6, [.int 5, .int 3, .ref ln_trains_c, .int 0])), (ln_coaches, .inr (6, [.int 16, .int 5, .ref ln_coaches_c, .int 0])), (tp, .inl (G.2 1, 1600, .inl (fun _ => 0)))] H := hP
  have hD : va_D A [(rd, .inr (5, [.ref tp, .int 0, .int 0, .int 0, .int 0, .int 0, .int 0, .int (-1)])), (ln, .inr (3, [.int 0, .int 0, .ref ln_slopes, .ref ln_wets, .ref ln_limits, .ref ln_platforms, .ref ln_kinds, .ref ln_trains, .ref ln_coaches])), (ln_slopes, .inr (6, [.int 8, .int 2, .ref ln_slopes_c, .int 0])), (ln_wets, .inr (6, [.int 6, .int 3, .ref ln_wets_c, .int 0])), (ln_limits, .inr (6, [.int 6, .int 2, .ref ln_limits_c, .int 0])), (ln_platforms, .inr (6, [.int 6, .int 2, .ref ln_platforms_c, .int 0])), (ln_kinds, .inr (6, [.int 4, .int 5, .ref ln_kinds_c, .int 0])), (ln_trains, .inr (6, [.int 5, .int 3, .ref ln_trains_c, .int 0])), (ln_coaches, .inr (6, [.int 16, .int 5, .ref ln_coaches_c, .int 0])), (tp, .inl (G.2 1, 1600, .inl (fun _ => 0)))] := hD
  refine lv_aload_n hx hb dX5_read_15 rfl (lv_at hl 0 rfl) ?_
  refine lv_iconst (v := 0) hx hb dX5_read_16 (by decide) ?_
  refine va_put (D := G.1) (ci := 5) (v := .int 0) (ty := .int) (C := RX5) (T := TX5) (N := 8) hx hb hw inGX5 tyX5 tyX5_ok nmX5 hown hK hP hD hS 0 rfl rfl 3 (by decide) (hw _ kw_99) (fun _ h9 => h9) rfl (by decide +kernel) rfl rfl (Nat.le_of_ble_eq_true rfl) dX5_read_17 (fun H locs hP hD hS => ?_)
  have hP : va_P G.1 vwCl [(rd, .inr (5, [.ref tp, .int 0, .int 0, .int 0, .int 0, .int 0, .int 0, .int (-1)])), (ln, .inr (3, [.int 0, .int 0, .ref ln_slopes, .ref ln_wets, .ref ln_limits, .ref ln_platforms, .ref ln_kinds, .ref ln_trains, .ref ln_coaches])), (ln_slopes, .inr (6, [.int 8, .int 2, .ref ln_slopes_c, .int 0])), (ln_wets, .inr (6, [.int 6, .int 3, .ref ln_wets_c, .int 0])), (ln_limits, .inr (6, [.int 6, .int 2, .ref ln_limits_c, .int 0])), (ln_platforms, .inr (6, [.int 6, .int 2, .ref ln_platforms_c, .int 0])), (ln_kinds, .inr (6, [.int 4, .int 5, .ref ln_kinds_c, .int 0])), (ln_trains, .inr (6, [.int 5, .int 3, .ref ln_trains_c, .int 0])), (ln_coaches, .inr (6, [.int 16, .int 5, .ref ln_coaches_c, .int 0])), (tp, .inl (G.2 1, 1600, .inl (fun _ => 0)))] H := hP
  have hD : va_D A [(rd, .inr (5, [.ref tp, .int 0, .int 0, .int 0, .int 0, .int 0, .int 0, .int (-1)])), (ln, .inr (3, [.int 0, .int 0, .ref ln_slopes, .ref ln_wets, .ref ln_limits, .ref ln_platforms, .ref ln_kinds, .ref ln_trains, .ref ln_coaches])), (ln_slopes, .inr (6, [.int 8, .int 2, .ref ln_slopes_c, .int 0])), (ln_wets, .inr (6, [.int 6, .int 3, .ref ln_wets_c, .int 0])), (ln_limits, .inr (6, [.int 6, .int 2, .ref ln_limits_c, .int 0])), (ln_platforms, .inr (6, [.int 6, .int 2, .ref ln_platforms_c, .int 0])), (ln_kinds, .inr (6, [.int 4, .int 5, .ref ln_kinds_c, .int 0])), (ln_trains, .inr (6, [.int 5, .int 3, .ref ln_trains_c, .int 0])), (ln_coaches, .inr (6, [.int 16, .int 5, .ref ln_coaches_c, .int 0])), (tp, .inl (G.2 1, 1600, .inl (fun _ => 0)))] := hD
  refine lv_aload_n hx hb dX5_read_20 rfl (lv_at hl 0 rfl) ?_
  refine lv_iconst (v := 0) hx hb dX5_read_21 (by decide) ?_
  refine va_put (D := G.1) (ci := 5) (v := .int 0) (ty := .int) (C := RX5) (T := TX5) (N := 8) hx hb hw inGX5 tyX5 tyX5_ok nmX5 hown hK hP hD hS 0 rfl rfl 6 (by decide) (hw _ kw_104) (fun _ h9 => h9) rfl (by decide +kernel) rfl rfl (Nat.le_of_ble_eq_true rfl) dX5_read_22 (fun H locs hP hD hS => ?_)
  have hP : va_P G.1 vwCl [(rd, .inr (5, [.ref tp, .int 0, .int 0, .int 0, .int 0, .int 0, .int 0, .int (-1)])), (ln, .inr (3, [.int 0, .int 0, .ref ln_slopes, .ref ln_wets, .ref ln_limits, .ref ln_platforms, .ref ln_kinds, .ref ln_trains, .ref ln_coaches])), (ln_slopes, .inr (6, [.int 8, .int 2, .ref ln_slopes_c, .int 0])), (ln_wets, .inr (6, [.int 6, .int 3, .ref ln_wets_c, .int 0])), (ln_limits, .inr (6, [.int 6, .int 2, .ref ln_limits_c, .int 0])), (ln_platforms, .inr (6, [.int 6, .int 2, .ref ln_platforms_c, .int 0])), (ln_kinds, .inr (6, [.int 4, .int 5, .ref ln_kinds_c, .int 0])), (ln_trains, .inr (6, [.int 5, .int 3, .ref ln_trains_c, .int 0])), (ln_coaches, .inr (6, [.int 16, .int 5, .ref ln_coaches_c, .int 0])), (tp, .inl (G.2 1, 1600, .inl (fun _ => 0)))] H := hP
  have hD : va_D A [(rd, .inr (5, [.ref tp, .int 0, .int 0, .int 0, .int 0, .int 0, .int 0, .int (-1)])), (ln, .inr (3, [.int 0, .int 0, .ref ln_slopes, .ref ln_wets, .ref ln_limits, .ref ln_platforms, .ref ln_kinds, .ref ln_trains, .ref ln_coaches])), (ln_slopes, .inr (6, [.int 8, .int 2, .ref ln_slopes_c, .int 0])), (ln_wets, .inr (6, [.int 6, .int 3, .ref ln_wets_c, .int 0])), (ln_limits, .inr (6, [.int 6, .int 2, .ref ln_limits_c, .int 0])), (ln_platforms, .inr (6, [.int 6, .int 2, .ref ln_platforms_c, .int 0])), (ln_kinds, .inr (6, [.int 4, .int 5, .ref ln_kinds_c, .int 0])), (ln_trains, .inr (6, [.int 5, .int 3, .ref ln_trains_c, .int 0])), (ln_coaches, .inr (6, [.int 16, .int 5, .ref ln_coaches_c, .int 0])), (tp, .inl (G.2 1, 1600, .inl (fun _ => 0)))] := hD
  refine lv_aload_n hx hb dX5_read_25 rfl (lv_at hl 0 rfl) ?_
  refine lv_iconst (v := (-1)) hx hb dX5_read_26 (by decide) ?_
  refine va_put (D := G.1) (ci := 5) (v := .int (-1)) (ty := .int) (C := RX5) (T := TX5) (N := 8) hx hb hw inGX5 tyX5 tyX5_ok nmX5 hown hK hP hD hS 0 rfl rfl 7 (by decide) (hw _ kw_105) (fun _ h9 => h9) rfl (by decide +kernel) rfl rfl (Nat.le_of_ble_eq_true rfl) dX5_read_27 (fun H locs hP hD hS => ?_)
  have hP : va_P G.1 vwCl [(rd, .inr (5, [.ref tp, .int 0, .int 0, .int 0, .int 0, .int 0, .int 0, .int (-1)])), (ln, .inr (3, [.int 0, .int 0, .ref ln_slopes, .ref ln_wets, .ref ln_limits, .ref ln_platforms, .ref ln_kinds, .ref ln_trains, .ref ln_coaches])), (ln_slopes, .inr (6, [.int 8, .int 2, .ref ln_slopes_c, .int 0])), (ln_wets, .inr (6, [.int 6, .int 3, .ref ln_wets_c, .int 0])), (ln_limits, .inr (6, [.int 6, .int 2, .ref ln_limits_c, .int 0])), (ln_platforms, .inr (6, [.int 6, .int 2, .ref ln_platforms_c, .int 0])), (ln_kinds, .inr (6, [.int 4, .int 5, .ref ln_kinds_c, .int 0])), (ln_trains, .inr (6, [.int 5, .int 3, .ref ln_trains_c, .int 0])), (ln_coaches, .inr (6, [.int 16, .int 5, .ref ln_coaches_c, .int 0])), (tp, .inl (G.2 1, 1600, .inl (fun _ => 0)))] H := hP
  have hD : va_D A [(rd, .inr (5, [.ref tp, .int 0, .int 0, .int 0, .int 0, .int 0, .int 0, .int (-1)])), (ln, .inr (3, [.int 0, .int 0, .ref ln_slopes, .ref ln_wets, .ref ln_limits, .ref ln_platforms, .ref ln_kinds, .ref ln_trains, .ref ln_coaches])), (ln_slopes, .inr (6, [.int 8, .int 2, .ref ln_slopes_c, .int 0])), (ln_wets, .inr (6, [.int 6, .int 3, .ref ln_wets_c, .int 0])), (ln_limits, .inr (6, [.int 6, .int 2, .ref ln_limits_c, .int 0])), (ln_platforms, .inr (6, [.int 6, .int 2, .ref ln_platforms_c, .int 0])), (ln_kinds, .inr (6, [.int 4, .int 5, .ref ln_kinds_c, .int 0])), (ln_trains, .inr (6, [.int 5, .int 3, .ref ln_trains_c, .int 0])), (ln_coaches, .inr (6, [.int 16, .int 5, .ref ln_coaches_c, .int 0])), (tp, .inl (G.2 1, 1600, .inl (fun _ => 0)))] := hD
  refine lv_aload_n hx hb dX5_read_30 rfl (lv_at hl 1 rfl) ?_
  refine wq_callv (wr := [(rd, .inr (5, [.ref tp, .int 0, .int 0, .int 0, .int 0, .int 0, .int 0, .int (-1)])), (tp, .inl (G.2 1, 1600, .inl (fun _ => 0)))]) (va_runV (As := []) (rest := []) ⟨hx, hb, hml, hown, hw⟩ (c_empty l G ln ln_slopes ln_wets ln_limits ln_platforms ln_kinds ln_trains ln_coaches ln_slopes_c ln_wets_c ln_limits_c ln_platforms_c ln_kinds_c ln_trains_c ln_coaches_c H.size) (cwV 0 hw (gdV kw_107 kw_108 kw_109 kw_110 kw_106) rfl rfl rfl ⟨rfl, hdX3_empty⟩ ⟨(Nat.le_of_ble_eq_true rfl), (Nat.le_of_ble_eq_true rfl)⟩) (preQ_V (wc := [(ln, .inr (3, [.int 0, .int 0, .ref ln_slopes, .ref ln_wets, .ref ln_limits, .ref ln_platforms, .ref ln_kinds, .ref ln_trains, .ref ln_coaches])), (ln_slopes, .inr (6, [.int 8, .int 2, .ref ln_slopes_c, .int 0])), (ln_wets, .inr (6, [.int 6, .int 3, .ref ln_wets_c, .int 0])), (ln_limits, .inr (6, [.int 6, .int 2, .ref ln_limits_c, .int 0])), (ln_platforms, .inr (6, [.int 6, .int 2, .ref ln_platforms_c, .int 0])), (ln_kinds, .inr (6, [.int 4, .int 5, .ref ln_kinds_c, .int 0])), (ln_trains, .inr (6, [.int 5, .int 3, .ref ln_trains_c, .int 0])), (ln_coaches, .inr (6, [.int 16, .int 5, .ref ln_coaches_c, .int 0]))]) (ci := 3) hKG hP hD [1, 2, 3, 4, 5, 6, 7, 8] (by decide +kernel) rfl rfl rfl) rfl rfl hl.1 rfl (lv_room (Nat.le_of_ble_eq_true rfl)) dX5_read_31 ⟨(Nat.le_of_ble_eq_true rfl), (Nat.le_of_ble_eq_true rfl)⟩) hS hP hD hA [1, 2, 3, 4, 5, 6, 7, 8] [0, 9] rfl rfl (by decide +kernel) (by decide +kernel) (fun u2 H locs hr1 hP hD hS => ?_)
  have hP : va_P G.1 vwCl [(rd, .inr (5, [.ref tp, .int 0, .int 0, .int 0, .int 0, .int 0, .int 0, .int (-1)])), (tp, .inl (G.2 1, 1600, .inl (fun _ => 0))), (ln, .inr (3, [.int 0, .int 0, .ref ln_slopes, .ref ln_wets, .ref ln_limits, .ref ln_platforms, .ref ln_kinds, .ref ln_trains, .ref ln_coaches])), (ln_slopes, .inr (6, [.int 8, .int 2, .ref ln_slopes_c, .int 0])), (ln_wets, .inr (6, [.int 6, .int 3, .ref ln_wets_c, .int 0])), (ln_limits, .inr (6, [.int 6, .int 2, .ref ln_limits_c, .int 0])), (ln_platforms, .inr (6, [.int 6, .int 2, .ref ln_platforms_c, .int 0])), (ln_kinds, .inr (6, [.int 4, .int 5, .ref ln_kinds_c, .int 0])), (ln_trains, .inr (6, [.int 5, .int 3, .ref ln_trains_c, .int 0])), (ln_coaches, .inr (6, [.int 16, .int 5, .ref ln_coaches_c, .int 0]))] H := hP
  have hD : va_D A [(rd, .inr (5, [.ref tp, .int 0, .int 0, .int 0, .int 0, .int 0, .int 0, .int (-1)])), (tp, .inl (G.2 1, 1600, .inl (fun _ => 0))), (ln, .inr (3, [.int 0, .int 0, .ref ln_slopes, .ref ln_wets, .ref ln_limits, .ref ln_platforms, .ref ln_kinds, .ref ln_trains, .ref ln_coaches])), (ln_slopes, .inr (6, [.int 8, .int 2, .ref ln_slopes_c, .int 0])), (ln_wets, .inr (6, [.int 6, .int 3, .ref ln_wets_c, .int 0])), (ln_limits, .inr (6, [.int 6, .int 2, .ref ln_limits_c, .int 0])), (ln_platforms, .inr (6, [.int 6, .int 2, .ref ln_platforms_c, .int 0])), (ln_kinds, .inr (6, [.int 4, .int 5, .ref ln_kinds_c, .int 0])), (ln_trains, .inr (6, [.int 5, .int 3, .ref ln_trains_c, .int 0])), (ln_coaches, .inr (6, [.int 16, .int 5, .ref ln_coaches_c, .int 0]))] := hD
  refine W.widen (k := 0) (n := 0) (Nat.le_of_ble_eq_true rfl) (Nat.le_of_ble_eq_true rfl) ?_
  refine lv_aload_n hx hb dX5_read_34 rfl (lv_at hl 1 rfl) ?_
  refine lv_aload_n hx hb dX5_read_35 rfl (lv_at hl 0 rfl) ?_
  refine vp_callSi (va_Run.run (va_runV (As := []) (rest := [.ref ln]) ⟨hx, hb, hml, hown, hw⟩ (c_linesOfText0 l G rd tp) (cwV 0 hw (gdV kw_112 kw_113 kw_114 kw_115 kw_111) rfl rfl rfl ⟨rfl, hdX5_linesOfText⟩ ⟨(Nat.le_of_ble_eq_true rfl), (Nat.le_of_ble_eq_true rfl)⟩) (preS_V (wc := [(rd, .inr (5, [.ref tp, .int 0, .int 0, .int 0, .int 0, .int 0, .int 0, .int (-1)]))]) (ci := 5) hKG hP [0] rfl rfl rfl) rfl rfl hl.1 rfl (lv_room (Nat.le_of_ble_eq_true rfl)) dX5_read_36 ⟨(Nat.le_of_ble_eq_true rfl), (Nat.le_of_ble_eq_true rfl)⟩)) (fun r3 hr3 => ?_)
  subst hr3
  refine va_put (D := G.1) (ci := 3) (v := .int 0) (ty := .int) (C := RX3) (T := TX3) (N := 9) hx hb hw inGX3 tyX3 tyX3_ok nmX3 hown hK hP hD hS 2 rfl rfl 1 (by decide) (hw _ kw_116) (fun _ h9 => h9) rfl (by decide +kernel) rfl rfl (Nat.le_of_ble_eq_true rfl) dX5_read_39 (fun H locs hP hD hS => ?_)
  have hP : va_P G.1 vwCl [(rd, .inr (5, [.ref tp, .int 0, .int 0, .int 0, .int 0, .int 0, .int 0, .int (-1)])), (tp, .inl (G.2 1, 1600, .inl (fun _ => 0))), (ln, .inr (3, [.int 0, .int 0, .ref ln_slopes, .ref ln_wets, .ref ln_limits, .ref ln_platforms, .ref ln_kinds, .ref ln_trains, .ref ln_coaches])), (ln_slopes, .inr (6, [.int 8, .int 2, .ref ln_slopes_c, .int 0])), (ln_wets, .inr (6, [.int 6, .int 3, .ref ln_wets_c, .int 0])), (ln_limits, .inr (6, [.int 6, .int 2, .ref ln_limits_c, .int 0])), (ln_platforms, .inr (6, [.int 6, .int 2, .ref ln_platforms_c, .int 0])), (ln_kinds, .inr (6, [.int 4, .int 5, .ref ln_kinds_c, .int 0])), (ln_trains, .inr (6, [.int 5, .int 3, .ref ln_trains_c, .int 0])), (ln_coaches, .inr (6, [.int 16, .int 5, .ref ln_coaches_c, .int 0]))] H := hP
  have hD : va_D A [(rd, .inr (5, [.ref tp, .int 0, .int 0, .int 0, .int 0, .int 0, .int 0, .int (-1)])), (tp, .inl (G.2 1, 1600, .inl (fun _ => 0))), (ln, .inr (3, [.int 0, .int 0, .ref ln_slopes, .ref ln_wets, .ref ln_limits, .ref ln_platforms, .ref ln_kinds, .ref ln_trains, .ref ln_coaches])), (ln_slopes, .inr (6, [.int 8, .int 2, .ref ln_slopes_c, .int 0])), (ln_wets, .inr (6, [.int 6, .int 3, .ref ln_wets_c, .int 0])), (ln_limits, .inr (6, [.int 6, .int 2, .ref ln_limits_c, .int 0])), (ln_platforms, .inr (6, [.int 6, .int 2, .ref ln_platforms_c, .int 0])), (ln_kinds, .inr (6, [.int 4, .int 5, .ref ln_kinds_c, .int 0])), (ln_trains, .inr (6, [.int 5, .int 3, .ref ln_trains_c, .int 0])), (ln_coaches, .inr (6, [.int 16, .int 5, .ref ln_coaches_c, .int 0]))] := hD
  refine lv_aload_n hx hb dX5_read_42 rfl (lv_at hl 0 rfl) ?_
  refine wq_callv (wr := [(tp, .inl (G.2 1, 1600, .inl (fun _ => 0))), (ln, .inr (3, [.int 0, .int 0, .ref ln_slopes, .ref ln_wets, .ref ln_limits, .ref ln_platforms, .ref ln_kinds, .ref ln_trains, .ref ln_coaches])), (ln_slopes, .inr (6, [.int 8, .int 2, .ref ln_slopes_c, .int 0])), (ln_wets, .inr (6, [.int 6, .int 3, .ref ln_wets_c, .int 0])), (ln_limits, .inr (6, [.int 6, .int 2, .ref ln_limits_c, .int 0])), (ln_platforms, .inr (6, [.int 6, .int 2, .ref ln_platforms_c, .int 0])), (ln_kinds, .inr (6, [.int 4, .int 5, .ref ln_kinds_c, .int 0])), (ln_trains, .inr (6, [.int 5, .int 3, .ref ln_trains_c, .int 0])), (ln_coaches, .inr (6, [.int 16, .int 5, .ref ln_coaches_c, .int 0]))]) (va_runV (As := []) (rest := []) ⟨hx, hb, hml, hown, hw⟩ (c_advance0 l G rd tp H.size) (cwV 0 hw (gdV kw_118 kw_119 kw_120 kw_115 kw_117) rfl rfl rfl ⟨rfl, hdX5_advance⟩ ⟨(Nat.le_of_ble_eq_true rfl), (Nat.le_of_ble_eq_true rfl)⟩) (preQ_V (wc := [(rd, .inr (5, [.ref tp, .int 0, .int 0, .int 0, .int 0, .int 0, .int 0, .int (-1)]))]) (ci := 5) hKG hP hD [0] (by decide +kernel) rfl rfl rfl) rfl rfl hl.1 rfl (lv_room (Nat.le_of_ble_eq_true rfl)) dX5_read_43 ⟨(Nat.le_of_ble_eq_true rfl), (Nat.le_of_ble_eq_true rfl)⟩) hS hP hD hA [0] [1, 2, 3, 4, 5, 6, 7, 8, 9] rfl rfl (by decide +kernel) (by decide +kernel) (fun u5 H locs hr4 hP hD hS => ?_)
  have hP : va_P G.1 vwCl [(tp, .inl (G.2 1, 1600, .inl (fun _ => 0))), (ln, .inr (3, [.int 0, .int 0, .ref ln_slopes, .ref ln_wets, .ref ln_limits, .ref ln_platforms, .ref ln_kinds, .ref ln_trains, .ref ln_coaches])), (ln_slopes, .inr (6, [.int 8, .int 2, .ref ln_slopes_c, .int 0])), (ln_wets, .inr (6, [.int 6, .int 3, .ref ln_wets_c, .int 0])), (ln_limits, .inr (6, [.int 6, .int 2, .ref ln_limits_c, .int 0])), (ln_platforms, .inr (6, [.int 6, .int 2, .ref ln_platforms_c, .int 0])), (ln_kinds, .inr (6, [.int 4, .int 5, .ref ln_kinds_c, .int 0])), (ln_trains, .inr (6, [.int 5, .int 3, .ref ln_trains_c, .int 0])), (ln_coaches, .inr (6, [.int 16, .int 5, .ref ln_coaches_c, .int 0])), (rd, .inr (5, [.ref tp, .int 0, .int 0, .int 0, .int 0, .int 0, .int 0, .int (-1)]))] H := hP
  have hD : va_D A [(tp, .inl (G.2 1, 1600, .inl (fun _ => 0))), (ln, .inr (3, [.int 0, .int 0, .ref ln_slopes, .ref ln_wets, .ref ln_limits, .ref ln_platforms, .ref ln_kinds, .ref ln_trains, .ref ln_coaches])), (ln_slopes, .inr (6, [.int 8, .int 2, .ref ln_slopes_c, .int 0])), (ln_wets, .inr (6, [.int 6, .int 3, .ref ln_wets_c, .int 0])), (ln_limits, .inr (6, [.int 6, .int 2, .ref ln_limits_c, .int 0])), (ln_platforms, .inr (6, [.int 6, .int 2, .ref ln_platforms_c, .int 0])), (ln_kinds, .inr (6, [.int 4, .int 5, .ref ln_kinds_c, .int 0])), (ln_trains, .inr (6, [.int 5, .int 3, .ref ln_trains_c, .int 0])), (ln_coaches, .inr (6, [.int 16, .int 5, .ref ln_coaches_c, .int 0])), (rd, .inr (5, [.ref tp, .int 0, .int 0, .int 0, .int 0, .int 0, .int 0, .int (-1)]))] := hD
  refine W.widen (k := 0) (n := 0) (Nat.le_of_ble_eq_true rfl) (Nat.le_of_ble_eq_true rfl) ?_
  refine lv_aload_n hx hb dX5_read_46 rfl (lv_at hl 0 rfl) ?_
  refine va_get (D := G.1) (ci := 5) (v := .int 0) (C := RX5) (T := TX5) (N := 8) hx hb hw inGX5 hown hK hP 9 rfl rfl 4 (by decide) (hw _ kw_101) (fun _ h9 => h9) rfl dX5_read_47 ?_
  refine lv_if_eq (tgt := 58) hx hb dX5_read_50 (by decide) (fun c6 => ?_) (fun c6 => absurd (by decide) c6)
  refine lv_iconst (v := 0) hx hb dX5_read_58 (by decide) ?_
  refine lv_istore (lv' := [(4, .int 0), (0, .ref rd), (1, .ref ln), (2, .ref tp), (3, .int 0)]) hx hb dX5_read_59 hl (by decide) rfl (fun ls hl => ?_)
  refine lv_iload hx hb dX5_read_61 (lv_at hl 0 rfl) ?_
  refine lv_aload_n hx hb dX5_read_63 rfl (lv_at hl 1 rfl) ?_
  refine va_get (D := G.1) (ci := 5) (v := .int 0) (C := RX5) (T := TX5) (N := 8) hx hb hw inGX5 hown hK hP 9 rfl rfl 1 (by decide) (hw _ kw_98) (fun _ h9 => h9) rfl dX5_read_64 ?_
  refine lv_icmp_ge (tgt := 95) hx hb dX5_read_67 (by decide) (fun c7 => ?_) (fun c7 => absurd (by decide) c7)
  exact W.vret hx hb hr (fun t ht hW => ⟨⟨(), rfl, trivial, ⟨by rw [ht]; exact hP.sub [9, 1, 2, 3, 4, 5, 6, 7, 8] rfl, hD.sub [9, 1, 2, 3, 4, 5, 6, 7, 8] (by decide +kernel) rfl⟩⟩, hS.F ht⟩) hS.2.2 dX5_read_95
set_option maxHeartbeats 4000000 in
set_option maxRecDepth 100000 in
theorem c_lastTold0 (l : Launch) (G : KG) (h0 : Nat) (mo : Int32) (wi : Int32) (ca : Nat) (p1 : Int32) (p2 : Int32) (p3 : Int32) : Met l yX9_lastTold wgX9_lastTold ({ frames := 0, cells := 0, slots := 0, locals := 0 }) (preS G [.ref h0, .int p1, .int p2, .int p3] [(h0, .inr (6, [.int mo, .int wi, .ref ca, .int 0]))]) (vp_Si (fun (r : Int32) => (r = p3))) 0 0 (fun _ => False) := by
  refine Met.ofW (cc := cX9_lastTold) (maxL := 5) (ret := (some .int)) (by decide) rfl ?_
  intro p e s m args below meth c s₁ B hml hv
  obtain ⟨rfl, hP, hKG⟩ := hv
  obtain ⟨hK, hAO⟩ := id hKG
  have hx := B.exec
  have hb := B.bytes
  have hr := B.returns
  have hts := atoms_spec (ws := wgX9_lastTold) B.pre
  have hw : ∀ w ∈ wG, w.before _ s = true := fun w h => hts w (List.mem_cons_of_mem _ h)
  have hown : s.vm.findClass RX9 = some m.cls := findClass_of_methodNamed B.named
  have hlocks := B.notSynchronized
  have hl := lv_entry ([.ref h0, .int p1, .int p2, .int p3]) (n := 5) (Nat.le_of_ble_eq_true rfl)
  rw [lg_entry_eq]
  generalize (lg_sl ([.ref h0, .int p1, .int p2, .int p3]) ++ List.replicate (5 - (lg_sl ([.ref h0, .int p1, .int p2, .int p3])).length) Slot.unset).toArray = ls at hl ⊢
  have hl : lv_has ls 5 [(0, .ref h0), (1, .int p1), (2, .int p2), (3, .int p3)] := hl
  refine lv_aload_n hx hb dX9_lastTold_0 rfl (lv_at hl 0 rfl) ?_
  refine va_get (D := G.1) (ci := 6) (v := .int 0) (C := RX6) (T := TX6) (N := 4) hx hb hw inGX6 hown hK hP 0 rfl rfl 3 (by decide) (hw _ kw_121) (fun _ h9 => h9) rfl dX9_lastTold_1 ?_
  refine lv_iconst (v := 1) hx hb dX9_lastTold_4 (by decide) ?_
  refine lv_isub hx hb dX9_lastTold_5 ?_
  refine lv_cst (y := (-1)) (by decide) ?_
  refine lv_istore (lv' := [(4, .int (-1)), (0, .ref h0), (1, .int p1), (2, .int p2), (3, .int p3)]) hx hb dX9_lastTold_6 hl (by decide) rfl (fun ls hl => ?_)
  refine lv_iload hx hb dX9_lastTold_8 (lv_at hl 0 rfl) ?_
  refine lv_if_lt (tgt := 38) hx hb dX9_lastTold_10 (by decide) (fun c1 => ?_) (fun c1 => absurd (by decide) c1)
  refine lv_iload_n hx hb dX9_lastTold_38 rfl (lv_at hl 4 rfl) ?_
  exact W.iret (v := p3) hx hb hr (fun t ht hW => ⟨p3, rfl, rfl, ht⟩) (fun _ h => absurd h List.not_mem_nil) dX9_lastTold_39
set_option maxHeartbeats 4000000 in
set_option maxRecDepth 100000 in
theorem c_wettest0 (l : Launch) (G : KG) (h0 : Nat) (mo : Int32) (wi : Int32) (ca : Nat) (p1 : Int32) : Met l yX9_wettest wgX9_wettest ({ frames := 0, cells := 0, slots := 0, locals := 0 }) (preS G [.ref h0, .int p1] [(h0, .inr (6, [.int mo, .int wi, .ref ca, .int 0]))]) (vp_Si (fun (r : Int32) => (r = 0))) 0 0 (fun _ => False) := by
  refine Met.ofW (cc := cX9_wettest) (maxL := 4) (ret := (some .int)) (by decide) rfl ?_
  intro p e s m args below meth c s₁ B hml hv
  obtain ⟨rfl, hP, hKG⟩ := hv
  obtain ⟨hK, hAO⟩ := id hKG
  have hx := B.exec
  have hb := B.bytes
  have hr := B.returns
  have hts := atoms_spec (ws := wgX9_wettest) B.pre
  have hw : ∀ w ∈ wG, w.before _ s = true := fun w h => hts w (List.mem_cons_of_mem _ h)
  have hown : s.vm.findClass RX9 = some m.cls := findClass_of_methodNamed B.named
  have hlocks := B.notSynchronized
  have hl := lv_entry ([.ref h0, .int p1]) (n := 4) (Nat.le_of_ble_eq_true rfl)
  rw [lg_entry_eq]
  generalize (lg_sl ([.ref h0, .int p1]) ++ List.replicate (4 - (lg_sl ([.ref h0, .int p1])).length) Slot.unset).toArray = ls at hl ⊢
  have hl : lv_has ls 4 [(0, .ref h0), (1, .int p1)] := hl
  refine lv_iconst (v := 0) hx hb dX9_wettest_0 (by decide) ?_
  refine lv_istore_n (lv' := [(2, .int 0), (0, .ref h0), (1, .int p1)]) hx hb dX9_wettest_1 rfl hl (by decide) rfl (fun ls hl => ?_)
  refine lv_iconst (v := 0) hx hb dX9_wettest_2 (by decide) ?_
  refine lv_istore_n (lv' := [(3, .int 0), (2, .int 0), (0, .ref h0), (1, .int p1)]) hx hb dX9_wettest_3 rfl hl (by decide) rfl (fun ls hl => ?_)
  refine lv_iload_n hx hb dX9_wettest_4 rfl (lv_at hl 0 rfl) ?_
  refine lv_aload_n hx hb dX9_wettest_5 rfl (lv_at hl 2 rfl) ?_
  refine va_get (D := G.1) (ci := 6) (v := .int 0) (C := RX6) (T := TX6) (N := 4) hx hb hw inGX6 hown hK hP 0 rfl rfl 3 (by decide) (hw _ kw_121) (fun _ h9 => h9) rfl dX9_wettest_6 ?_
  refine lv_icmp_ge (tgt := 49) hx hb dX9_wettest_9 (by decide) (fun c1 => ?_) (fun c1 => absurd (by decide) c1)
  refine lv_iload_n hx hb dX9_wettest_49 rfl (lv_at hl 1 rfl) ?_
  exact W.iret (v := 0) hx hb hr (fun t ht hW => ⟨0, rfl, rfl, ht⟩) (fun _ h => absurd h List.not_mem_nil) dX9_wettest_50
set_option maxHeartbeats 4000000 in
set_option maxRecDepth 100000 in
theorem c_soak0 (l : Launch) (G : KG) (tk : Nat) (t0 : Nat) (t1 : Nat) (t2 : Nat) (t3 : Nat) (nw : Nat) (nw_slopes : Nat) (nw_wets : Nat) (nw_limits : Nat) (nw_platforms : Nat) (nw_kinds : Nat) (nw_trains : Nat) (nw_coaches : Nat) (nw_kinds_c : Nat) (sz : Nat) : Met l yX9_soak wgX9_soak ({ frames := 0, cells := 0, slots := 0, locals := 0 }) (preQ G [.ref tk, .int 0] sz [(tk, .inr (9, [.ref t0, .ref t1, .ref t2, .ref t3, .ref nw, .int 0])), (nw, .inr (3, [.int 0, .int 0, .ref nw_slopes, .ref nw_wets, .ref nw_limits, .ref nw_platforms, .ref nw_kinds, .ref nw_trains, .ref nw_coaches])), (nw_kinds, .inr (6, [.int 4, .int 5, .ref nw_kinds_c, .int 0]))]) (va_Qv (fun (u : Unit) => True) (fun u t => atQ G (va_A [(tk, .inr (9, [.ref t0, .ref t1, .ref t2, .ref t3, .ref nw, .int 0])), (nw, .inr (3, [.int 0, .int 0, .ref nw_slopes, .ref nw_wets, .ref nw_limits, .ref nw_platforms, .ref nw_kinds, .ref nw_trains, .ref nw_coaches])), (nw_kinds, .inr (6, [.int 4, .int 5, .ref nw_kinds_c, .int 0]))] sz) [(tk, .inr (9, [.ref t0, .ref t1, .ref t2, .ref t3, .ref nw, .int 0])), (nw, .inr (3, [.int 0, .int 0, .ref nw_slopes, .ref nw_wets, .ref nw_limits, .ref nw_platforms, .ref nw_kinds, .ref nw_trains, .ref nw_coaches])), (nw_kinds, .inr (6, [.int 4, .int 5, .ref nw_kinds_c, .int 0]))] t) (va_A [(tk, .inr (9, [.ref t0, .ref t1, .ref t2, .ref t3, .ref nw, .int 0])), (nw, .inr (3, [.int 0, .int 0, .ref nw_slopes, .ref nw_wets, .ref nw_limits, .ref nw_platforms, .ref nw_kinds, .ref nw_trains, .ref nw_coaches])), (nw_kinds, .inr (6, [.int 4, .int 5, .ref nw_kinds_c, .int 0]))] sz)) 0 0 (va_A [(tk, .inr (9, [.ref t0, .ref t1, .ref t2, .ref t3, .ref nw, .int 0])), (nw, .inr (3, [.int 0, .int 0, .ref nw_slopes, .ref nw_wets, .ref nw_limits, .ref nw_platforms, .ref nw_kinds, .ref nw_trains, .ref nw_coaches])), (nw_kinds, .inr (6, [.int 4, .int 5, .ref nw_kinds_c, .int 0]))] sz) := by
  refine Met.ofW (cc := cX9_soak) (maxL := 3) (ret := none) (by decide) rfl ?_
  intro p e s m args below meth c s₁ B hml hv
  obtain ⟨rfl, hsz, hP, hKG, hD0⟩ := hv
  obtain ⟨hK, hAO⟩ := id hKG
  have hx := B.exec
  have hb := B.bytes
  have hr := B.returns
  have hts := atoms_spec (ws := wgX9_soak) B.pre
  have hw : ∀ w ∈ wG, w.before _ s = true := fun w h => hts w (List.mem_cons_of_mem _ h)
  have hown : s.vm.findClass RX9 = some m.cls := findClass_of_methodNamed B.named
  have hlocks := B.notSynchronized
  subst hsz
  have hD := hD0.self (sz := s.heap.size)
  generalize hAe : va_A [(tk, .inr (9, [.ref t0, .ref t1, .ref t2, .ref t3, .ref nw, .int 0])), (nw, .inr (3, [.int 0, .int 0, .ref nw_slopes, .ref nw_wets, .ref nw_limits, .ref nw_platforms, .ref nw_kinds, .ref nw_trains, .ref nw_coaches])), (nw_kinds, .inr (6, [.int 4, .int 5, .ref nw_kinds_c, .int 0]))] s.heap.size = A at hD ⊢
  have hA : ∀ q : Nat, s.heap.size ≤ q → A q := fun q h => by rw [← hAe]; exact Or.inr h
  have hS : va_S A s.heap s.heap [] := va_S.rf
  have hl := lv_entry ([.ref tk, .int 0]) (n := 3) (Nat.le_of_ble_eq_true rfl)
  rw [lg_entry_eq]
  generalize (lg_sl ([.ref tk, .int 0]) ++ List.replicate (3 - (lg_sl ([.ref tk, .int 0])).length) Slot.unset).toArray = ls at hl ⊢
  have hl : lv_has ls 3 [(0, .ref tk), (1, .int 0)] := hl
  refine lv_iconst (v := 0) hx hb dX9_soak_0 (by decide) ?_
  refine lv_istore_n (lv' := [(2, .int 0), (0, .ref tk), (1, .int 0)]) hx hb dX9_soak_1 rfl hl (by decide) rfl (fun ls hl => ?_)
  refine lv_aload_n hx hb dX9_soak_2 rfl (lv_at hl 1 rfl) ?_
  refine va_get (D := G.1) (ci := 9) (v := .ref nw) (C := RX9) (T := TX9) (N := 6) hx hb hw inGX9 hown hK hP 0 rfl rfl 4 (by decide) (hw _ kw_122) (fun _ h9 => h9) rfl dX9_soak_3 ?_
  refine lv_ifnull hx hb dX9_soak_6 ?_
  refine lv_iload_n hx hb dX9_soak_9 rfl (lv_at hl 0 rfl) ?_
  refine lv_aload_n hx hb dX9_soak_10 rfl (lv_at hl 1 rfl) ?_
  refine va_get (D := G.1) (ci := 9) (v := .ref nw) (C := RX9) (T := TX9) (N := 6) hx hb hw inGX9 hown hK hP 0 rfl rfl 4 (by decide) (hw _ kw_122) (fun _ h9 => h9) rfl dX9_soak_11 ?_
  refine va_get (D := G.1) (ci := 3) (v := .ref nw_kinds) (C := RX3) (T := TX3) (N := 9) hx hb hw inGX3 hown hK hP 1 rfl rfl 6 (by decide) (hw _ kw_123) (fun _ h9 => h9) rfl dX9_soak_14 ?_
  refine va_get (D := G.1) (ci := 6) (v := .int 0) (C := RX6) (T := TX6) (N := 4) hx hb hw inGX6 hown hK hP 2 rfl rfl 3 (by decide) (hw _ kw_121) (fun _ h9 => h9) rfl dX9_soak_17 ?_
  refine lv_icmp_ge (tgt := 35) hx hb dX9_soak_20 (by decide) (fun c1 => ?_) (fun c1 => absurd (by decide) c1)
  refine lv_aload_n hx hb dX9_soak_35 rfl (lv_at hl 1 rfl) ?_
  refine lv_iload_n hx hb dX9_soak_36 rfl (lv_at hl 2 rfl) ?_
  refine va_put (D := G.1) (ci := 9) (v := .int 0) (ty := .int) (C := RX9) (T := TX9) (N := 6) hx hb hw inGX9 tyX9 tyX9_ok nmX9 hown hK hP hD hS 0 rfl rfl 5 (by decide) (hw _ kw_124) (fun _ h9 => h9) rfl (by decide +kernel) rfl rfl (Nat.le_of_ble_eq_true rfl) dX9_soak_37 (fun H locs hP hD hS => ?_)
  have hP : va_P G.1 vwCl [(tk, .inr (9, [.ref t0, .ref t1, .ref t2, .ref t3, .ref nw, .int 0])), (nw, .inr (3, [.int 0, .int 0, .ref nw_slopes, .ref nw_wets, .ref nw_limits, .ref nw_platforms, .ref nw_kinds, .ref nw_trains, .ref nw_coaches])), (nw_kinds, .inr (6, [.int 4, .int 5, .ref nw_kinds_c, .int 0]))] H := hP
  have hD : va_D A [(tk, .inr (9, [.ref t0, .ref t1, .ref t2, .ref t3, .ref nw, .int 0])), (nw, .inr (3, [.int 0, .int 0, .ref nw_slopes, .ref nw_wets, .ref nw_limits, .ref nw_platforms, .ref nw_kinds, .ref nw_trains, .ref nw_coaches])), (nw_kinds, .inr (6, [.int 4, .int 5, .ref nw_kinds_c, .int 0]))] := hD
  exact W.vret hx hb hr (fun t ht hW => ⟨⟨(), rfl, trivial, ⟨by rw [ht]; exact hP.sub [0, 1, 2] rfl, hD.sub [0, 1, 2] (by decide +kernel) rfl⟩⟩, hS.F ht⟩) hS.2.2 dX9_soak_40
set_option maxHeartbeats 4000000 in
set_option maxRecDepth 100000 in
theorem c_lay0a (l : Launch) (G : KG) (tk : Nat) (t0 : Nat) (t1 : Nat) (t2 : Nat) (t3 : Nat) (nw : Nat) (nw_slopes : Nat) (nw_wets : Nat) (nw_limits : Nat) (nw_platforms : Nat) (nw_kinds : Nat) (nw_trains : Nat) (nw_coaches : Nat) (nw_slopes_c : Nat) (nw_wets_c : Nat) (nw_limits_c : Nat) (nw_kinds_c : Nat) (f0 : Nat → Int32) (f1 : Nat → Int32) (f2 : Nat → Int32) (sz : Nat) : Met l yX9_lay wgX9_lay ({ frames := 1, cells := 0, slots := 0, locals := 24 }) (preQ G [.ref tk, .ref nw, .int 0] sz [(tk, .inr (9, [.ref t0, .ref t1, .ref t2, .ref t3, .null, .int 0])), (nw, .inr (3, [.int 0, .int 0, .ref nw_slopes, .ref nw_wets, .ref nw_limits, .ref nw_platforms, .ref nw_kinds, .ref nw_trains, .ref nw_coaches])), (nw_slopes, .inr (6, [.int 8, .int 2, .ref nw_slopes_c, .int 0])), (nw_wets, .inr (6, [.int 6, .int 3, .ref nw_wets_c, .int 0])), (nw_limits, .inr (6, [.int 6, .int 2, .ref nw_limits_c, .int 0])), (nw_kinds, .inr (6, [.int 4, .int 5, .ref nw_kinds_c, .int 0])), (t0, .inl (G.2 0, 401, .inl f0)), (t1, .inl (G.2 0, 401, .inl f1)), (t2, .inl (G.2 0, 401, .inl f2))]) (va_Qv (fun (u : (Nat → Int32) × (Nat → Int32) × (Nat → Int32)) => True) (fun u t => atQ G (va_A [(tk, .inr (9, [.ref t0, .ref t1, .ref t2, .ref t3, .null, .int 0])), (nw, .inr (3, [.int 0, .int 0, .ref nw_slopes, .ref nw_wets, .ref nw_limits, .ref nw_platforms, .ref nw_kinds, .ref nw_trains, .ref nw_coaches])), (nw_slopes, .inr (6, [.int 8, .int 2, .ref nw_slopes_c, .int 0])), (nw_wets, .inr (6, [.int 6, .int 3, .ref nw_wets_c, .int 0])), (nw_limits, .inr (6, [.int 6, .int 2, .ref nw_limits_c, .int 0])), (nw_kinds, .inr (6, [.int 4, .int 5, .ref nw_kinds_c, .int 0])), (t0, .inl (G.2 0, 401, .inl f0)), (t1, .inl (G.2 0, 401, .inl f1)), (t2, .inl (G.2 0, 401, .inl f2))] sz) [(tk, .inr (9, [.ref t0, .ref t1, .ref t2, .ref t3, .ref nw, .int 0])), (nw, .inr (3, [.int 0, .int 0, .ref nw_slopes, .ref nw_wets, .ref nw_limits, .ref nw_platforms, .ref nw_kinds, .ref nw_trains, .ref nw_coaches])), (nw_slopes, .inr (6, [.int 8, .int 2, .ref nw_slopes_c, .int 0])), (nw_wets, .inr (6, [.int 6, .int 3, .ref nw_wets_c, .int 0])), (nw_limits, .inr (6, [.int 6, .int 2, .ref nw_limits_c, .int 0])), (nw_kinds, .inr (6, [.int 4, .int 5, .ref nw_kinds_c, .int 0])), (t0, .inl (G.2 0, 401, .inl (u.1))), (t1, .inl (G.2 0, 401, .inl (u.2.1))), (t2, .inl (G.2 0, 401, .inl (u.2.2)))] t) (va_A [(tk, .inr (9, [.ref t0, .ref t1, .ref t2, .ref t3, .null, .int 0])), (nw, .inr (3, [.int 0, .int 0, .ref nw_slopes, .ref nw_wets, .ref nw_limits, .ref nw_platforms, .ref nw_kinds, .ref nw_trains, .ref nw_coaches])), (nw_slopes, .inr (6, [.int 8, .int 2, .ref nw_slopes_c, .int 0])), (nw_wets, .inr (6, [.int 6, .int 3, .ref nw_wets_c, .int 0])), (nw_limits, .inr (6, [.int 6, .int 2, .ref nw_limits_c, .int 0])), (nw_kinds, .inr (6, [.int 4, .int 5, .ref nw_kinds_c, .int 0])), (t0, .inl (G.2 0, 401, .inl f0)), (t1, .inl (G.2 0, 401, .inl f1)), (t2, .inl (G.2 0, 401, .inl f2))] sz)) 0 0 (va_A [(tk, .inr (9, [.ref t0, .ref t1, .ref t2, .ref t3, .null, .int 0])), (nw, .inr (3, [.int 0, .int 0, .ref nw_slopes, .ref nw_wets, .ref nw_limits, .ref nw_platforms, .ref nw_kinds, .ref nw_trains, .ref nw_coaches])), (nw_slopes, .inr (6, [.int 8, .int 2, .ref nw_slopes_c, .int 0])), (nw_wets, .inr (6, [.int 6, .int 3, .ref nw_wets_c, .int 0])), (nw_limits, .inr (6, [.int 6, .int 2, .ref nw_limits_c, .int 0])), (nw_kinds, .inr (6, [.int 4, .int 5, .ref nw_kinds_c, .int 0])), (t0, .inl (G.2 0, 401, .inl f0)), (t1, .inl (G.2 0, 401, .inl f1)), (t2, .inl (G.2 0, 401, .inl f2))] sz) := by
  refine Met.ofW (cc := cX9_lay) (maxL := 4) (ret := none) (by decide) rfl ?_
  intro p e s m args below meth c s₁ B hml hv
  obtain ⟨rfl, hsz, hP, hKG, hD0⟩ := hv
  obtain ⟨hK, hAO⟩ := id hKG
  have hx := B.exec
  have hb := B.bytes
  have hr := B.returns
  have hts := atoms_spec (ws := wgX9_lay) B.pre
  have hw : ∀ w ∈ wG, w.before _ s = true := fun w h => hts w (List.mem_cons_of_mem _ h)
  have hown : s.vm.findClass RX9 = some m.cls := findClass_of_methodNamed B.named
  have hlocks := B.notSynchronized
  subst hsz
  have hD := hD0.self (sz := s.heap.size)
  generalize hAe : va_A [(tk, .inr (9, [.ref t0, .ref t1, .ref t2, .ref t3, .null, .int 0])), (nw, .inr (3, [.int 0, .int 0, .ref nw_slopes, .ref nw_wets, .ref nw_limits, .ref nw_platforms, .ref nw_kinds, .ref nw_trains, .ref nw_coaches])), (nw_slopes, .inr (6, [.int 8, .int 2, .ref nw_slopes_c, .int 0])), (nw_wets, .inr (6, [.int 6, .int 3, .ref nw_wets_c, .int 0])), (nw_limits, .inr (6, [.int 6, .int 2, .ref nw_limits_c, .int 0])), (nw_kinds, .inr (6, [.int 4, .int 5, .ref nw_kinds_c, .int 0])), (t0, .inl (G.2 0, 401, .inl f0)), (t1, .inl (G.2 0, 401, .inl f1)), (t2, .inl (G.2 0, 401, .inl f2))] s.heap.size = A at hD ⊢
  have hA : ∀ q : Nat, s.heap.size ≤ q → A q := fun q h => by rw [← hAe]; exact Or.inr h
  have hS : va_S A s.heap s.heap [] := va_S.rf
  have hl := lv_entry ([.ref tk, .ref nw, .int 0]) (n := 4) (Nat.le_of_ble_eq_true rfl)
  rw [lg_entry_eq]
  generalize (lg_sl ([.ref tk, .ref nw, .int 0]) ++ List.replicate (4 - (lg_sl ([.ref tk, .ref nw, .int 0])).length) Slot.unset).toArray = ls at hl ⊢
  have hl : lv_has ls 4 [(0, .ref tk), (1, .ref nw), (2, .int 0)] := hl
  refine lv_aload_n hx hb dX9_lay_0 rfl (lv_at hl 0 rfl) ?_
  refine lv_aload_n hx hb dX9_lay_1 rfl (lv_at hl 1 rfl) ?_
  refine va_put (D := G.1) (ci := 9) (v := .ref nw) (ty := (.object "SlipCoach$Line")) (C := RX9) (T := TX9) (N := 6) hx hb hw inGX9 tyX9 tyX9_ok nmX9 hown hK hP hD hS 0 rfl rfl 4 (by decide) (hw _ kw_122) (fun _ h9 => h9) rfl (by decide +kernel) rfl rfl (Nat.le_of_ble_eq_true rfl) dX9_lay_2 (fun H locs hP hD hS => ?_)
  have hP : va_P G.1 vwCl [(tk, .inr (9, [.ref t0, .ref t1, .ref t2, .ref t3, .ref nw, .int 0])), (nw, .inr (3, [.int 0, .int 0, .ref nw_slopes, .ref nw_wets, .ref nw_limits, .ref nw_platforms, .ref nw_kinds, .ref nw_trains, .ref nw_coaches])), (nw_slopes, .inr (6, [.int 8, .int 2, .ref nw_slopes_c, .int 0])), (nw_wets, .inr (6, [.int 6, .int 3, .ref nw_wets_c, .int 0])), (nw_limits, .inr (6, [.int 6, .int 2, .ref nw_limits_c, .int 0])), (nw_kinds, .inr (6, [.int 4, .int 5, .ref nw_kinds_c, .int 0])), (t0, .inl (G.2 0, 401, .inl f0)), (t1, .inl (G.2 0, 401, .inl f1)), (t2, .inl (G.2 0, 401, .inl f2))] H := hP
  have hD : va_D A [(tk, .inr (9, [.ref t0, .ref t1, .ref t2, .ref t3, .ref nw, .int 0])), (nw, .inr (3, [.int 0, .int 0, .ref nw_slopes, .ref nw_wets, .ref nw_limits, .ref nw_platforms, .ref nw_kinds, .ref nw_trains, .ref nw_coaches])), (nw_slopes, .inr (6, [.int 8, .int 2, .ref nw_slopes_c, .int 0])), (nw_wets, .inr (6, [.int 6, .int 3, .ref nw_wets_c, .int 0])), (nw_limits, .inr (6, [.int 6, .int 2, .ref nw_limits_c, .int 0])), (nw_kinds, .inr (6, [.int 4, .int 5, .ref nw_kinds_c, .int 0])), (t0, .inl (G.2 0, 401, .inl f0)), (t1, .inl (G.2 0, 401, .inl f1)), (t2, .inl (G.2 0, 401, .inl f2))] := hD
  refine lv_iconst (v := 0) hx hb dX9_lay_5 (by decide) ?_
  refine lv_istore_n (lv' := [(3, .int 0), (0, .ref tk), (1, .ref nw), (2, .int 0)]) hx hb dX9_lay_6 rfl hl (by decide) rfl (fun ls hl => ?_)
  refine lv_iload_n hx hb dX9_lay_7 rfl (lv_at hl 0 rfl) ?_
  refine lv_aload_n hx hb dX9_lay_8 rfl (lv_at hl 2 rfl) ?_
  refine va_get (D := G.1) (ci := 3) (v := .int 0) (C := RX3) (T := TX3) (N := 9) hx hb hw inGX3 hown hK hP 1 rfl rfl 0 (by decide) (hw _ kw_125) (fun _ h9 => h9) rfl dX9_lay_9 ?_
  refine lv_icmp_gt (tgt := 75) hx hb dX9_lay_12 (by decide) (fun c1 => absurd c1 (by decide)) (fun c1 => ?_)
  refine lv_iload_n hx hb dX9_lay_15 rfl (lv_at hl 0 rfl) ?_
  refine lv_sipush (v := 401) hx hb dX9_lay_16 (by decide) ?_
  refine lv_icmp_ge (tgt := 75) hx hb dX9_lay_19 (by decide) (fun c2 => absurd c2 (by decide)) (fun c2 => ?_)
  refine lv_aload_n hx hb dX9_lay_22 rfl (lv_at hl 1 rfl) ?_
  refine va_get (D := G.1) (ci := 9) (v := .ref t0) (C := RX9) (T := TX9) (N := 6) hx hb hw inGX9 hown hK hP 0 rfl rfl 0 (by decide) (hw _ kw_126) (fun _ h9 => h9) rfl dX9_lay_23 ?_
  refine lv_iload_n hx hb dX9_lay_26 rfl (lv_at hl 0 rfl) ?_
  refine lv_aload_n hx hb dX9_lay_27 rfl (lv_at hl 2 rfl) ?_
  refine va_get (D := G.1) (ci := 3) (v := .ref nw_slopes) (C := RX3) (T := TX3) (N := 9) hx hb hw inGX3 hown hK hP 1 rfl rfl 2 (by decide) (hw _ kw_127) (fun _ h9 => h9) rfl dX9_lay_28 ?_
  refine lv_iconst (v := 1) hx hb dX9_lay_31 (by decide) ?_
  refine lv_iload_n hx hb dX9_lay_32 rfl (lv_at hl 0 rfl) ?_
  refine lv_iconst (v := 0) hx hb dX9_lay_33 (by decide) ?_
  refine vp_callSi (va_Run.run (va_runS (As := [.ref nw_slopes, .int 1, .int 0, .int 0]) (rest := [.int 0, .ref t0]) ⟨hx, hb, hml, hown, hw⟩ (c_lastTold0 l G nw_slopes 8 2 nw_slopes_c 1 0 0) (va_cwS 4 hw (gdT kw_129 kw_130 kw_131 kw_128) rfl rfl rfl hdX9_lastTold ⟨(Nat.le_of_ble_eq_true rfl), (Nat.le_of_ble_eq_true rfl)⟩) (preS_S (wc := [(nw_slopes, .inr (6, [.int 8, .int 2, .ref nw_slopes_c, .int 0]))]) hKG hP [2] rfl) rfl rfl hl.1 rfl (lv_room (Nat.le_of_ble_eq_true rfl)) dX9_lay_34 ⟨(Nat.le_of_ble_eq_true rfl), (Nat.le_of_ble_eq_true rfl)⟩)) (fun r3 hr3 => ?_)
  subst hr3
  refine va_iast hx hb hK hP hD hS 6 0 rfl rfl (vp_in_iff.mpr (by decide)) dX9_lay_37 (fun H locs hP hD hS => ?_)
  have hP : va_P G.1 vwCl [(tk, .inr (9, [.ref t0, .ref t1, .ref t2, .ref t3, .ref nw, .int 0])), (nw, .inr (3, [.int 0, .int 0, .ref nw_slopes, .ref nw_wets, .ref nw_limits, .ref nw_platforms, .ref nw_kinds, .ref nw_trains, .ref nw_coaches])), (nw_slopes, .inr (6, [.int 8, .int 2, .ref nw_slopes_c, .int 0])), (nw_wets, .inr (6, [.int 6, .int 3, .ref nw_wets_c, .int 0])), (nw_limits, .inr (6, [.int 6, .int 2, .ref nw_limits_c, .int 0])), (nw_kinds, .inr (6, [.int 4, .int 5, .ref nw_kinds_c, .int 0])), (t0, .inl (G.2 0, 401, .inl (upd f0 (0 : Int32).toNatClampNeg 0))), (t1, .inl (G.2 0, 401, .inl f1)), (t2, .inl (G.2 0, 401, .inl f2))] H := hP
  have hD : va_D A [(tk, .inr (9, [.ref t0, .ref t1, .ref t2, .ref t3, .ref nw, .int 0])), (nw, .inr (3, [.int 0, .int 0, .ref nw_slopes, .ref nw_wets, .ref nw_limits, .ref nw_platforms, .ref nw_kinds, .ref nw_trains, .ref nw_coaches])), (nw_slopes, .inr (6, [.int 8, .int 2, .ref nw_slopes_c, .int 0])), (nw_wets, .inr (6, [.int 6, .int 3, .ref nw_wets_c, .int 0])), (nw_limits, .inr (6, [.int 6, .int 2, .ref nw_limits_c, .int 0])), (nw_kinds, .inr (6, [.int 4, .int 5, .ref nw_kinds_c, .int 0])), (t0, .inl (G.2 0, 401, .inl (upd f0 (0 : Int32).toNatClampNeg 0))), (t1, .inl (G.2 0, 401, .inl f1)), (t2, .inl (G.2 0, 401, .inl f2))] := hD
  generalize (upd f0 (0 : Int32).toNatClampNeg 0) = f4 at hP hD
  refine lv_aload_n hx hb dX9_lay_38 rfl (lv_at hl 1 rfl) ?_
  refine va_get (D := G.1) (ci := 9) (v := .ref t1) (C := RX9) (T := TX9) (N := 6) hx hb hw inGX9 hown hK hP 0 rfl rfl 1 (by decide) (hw _ kw_132) (fun _ h9 => h9) rfl dX9_lay_39 ?_
  refine lv_iload_n hx hb dX9_lay_42 rfl (lv_at hl 0 rfl) ?_
  refine lv_aload_n hx hb dX9_lay_43 rfl (lv_at hl 2 rfl) ?_
  refine va_get (D := G.1) (ci := 3) (v := .ref nw_wets) (C := RX3) (T := TX3) (N := 9) hx hb hw inGX3 hown hK hP 1 rfl rfl 3 (by decide) (hw _ kw_133) (fun _ h9 => h9) rfl dX9_lay_44 ?_
  refine lv_iload_n hx hb dX9_lay_47 rfl (lv_at hl 0 rfl) ?_
  refine vp_callSi (va_Run.run (va_runS (As := [.ref nw_wets, .int 0]) (rest := [.int 0, .ref t1]) ⟨hx, hb, hml, hown, hw⟩ (c_wettest0 l G nw_wets 6 3 nw_wets_c 0) (va_cwS 2 hw (gdT kw_135 kw_136 kw_131 kw_134) rfl rfl rfl hdX9_wettest ⟨(Nat.le_of_ble_eq_true rfl), (Nat.le_of_ble_eq_true rfl)⟩) (preS_S (wc := [(nw_wets, .inr (6, [.int 6, .int 3, .ref nw_wets_c, .int 0]))]) hKG hP [3] rfl) rfl rfl hl.1 rfl (lv_room (Nat.le_of_ble_eq_true rfl)) dX9_lay_48 ⟨(Nat.le_of_ble_eq_true rfl), (Nat.le_of_ble_eq_true rfl)⟩)) (fun r5 hr5 => ?_)
  subst hr5
  refine va_iast hx hb hK hP hD hS 7 0 rfl rfl (vp_in_iff.mpr (by decide)) dX9_lay_51 (fun H locs hP hD hS => ?_)
  have hP : va_P G.1 vwCl [(tk, .inr (9, [.ref t0, .ref t1, .ref t2, .ref t3, .ref nw, .int 0])), (nw, .inr (3, [.int 0, .int 0, .ref nw_slopes, .ref nw_wets, .ref nw_limits, .ref nw_platforms, .ref nw_kinds, .ref nw_trains, .ref nw_coaches])), (nw_slopes, .inr (6, [.int 8, .int 2, .ref nw_slopes_c, .int 0])), (nw_wets, .inr (6, [.int 6, .int 3, .ref nw_wets_c, .int 0])), (nw_limits, .inr (6, [.int 6, .int 2, .ref nw_limits_c, .int 0])), (nw_kinds, .inr (6, [.int 4, .int 5, .ref nw_kinds_c, .int 0])), (t0, .inl (G.2 0, 401, .inl f4)), (t1, .inl (G.2 0, 401, .inl (upd f1 (0 : Int32).toNatClampNeg 0))), (t2, .inl (G.2 0, 401, .inl f2))] H := hP
  have hD : va_D A [(tk, .inr (9, [.ref t0, .ref t1, .ref t2, .ref t3, .ref nw, .int 0])), (nw, .inr (3, [.int 0, .int 0, .ref nw_slopes, .ref nw_wets, .ref nw_limits, .ref nw_platforms, .ref nw_kinds, .ref nw_trains, .ref nw_coaches])), (nw_slopes, .inr (6, [.int 8, .int 2, .ref nw_slopes_c, .int 0])), (nw_wets, .inr (6, [.int 6, .int 3, .ref nw_wets_c, .int 0])), (nw_limits, .inr (6, [.int 6, .int 2, .ref nw_limits_c, .int 0])), (nw_kinds, .inr (6, [.int 4, .int 5, .ref nw_kinds_c, .int 0])), (t0, .inl (G.2 0, 401, .inl f4)), (t1, .inl (G.2 0, 401, .inl (upd f1 (0 : Int32).toNatClampNeg 0))), (t2, .inl (G.2 0, 401, .inl f2))] := hD
  generalize (upd f1 (0 : Int32).toNatClampNeg 0) = f6 at hP hD
  refine lv_aload_n hx hb dX9_lay_52 rfl (lv_at hl 1 rfl) ?_
  refine va_get (D := G.1) (ci := 9) (v := .ref t2) (C := RX9) (T := TX9) (N := 6) hx hb hw inGX9 hown hK hP 0 rfl rfl 2 (by decide) (hw _ kw_137) (fun _ h9 => h9) rfl dX9_lay_53 ?_
  refine lv_iload_n hx hb dX9_lay_56 rfl (lv_at hl 0 rfl) ?_
  refine lv_aload_n hx hb dX9_lay_57 rfl (lv_at hl 2 rfl) ?_
  refine va_get (D := G.1) (ci := 3) (v := .ref nw_limits) (C := RX3) (T := TX3) (N := 9) hx hb hw inGX3 hown hK hP 1 rfl rfl 4 (by decide) (hw _ kw_138) (fun _ h9 => h9) rfl dX9_lay_58 ?_
  refine lv_iconst (v := 1) hx hb dX9_lay_61 (by decide) ?_
  refine lv_iload_n hx hb dX9_lay_62 rfl (lv_at hl 0 rfl) ?_
  refine lv_bipush (v := 15) hx hb dX9_lay_63 (by decide) ?_
  refine vp_callSi (va_Run.run (va_runS (As := [.ref nw_limits, .int 1, .int 0, .int 15]) (rest := [.int 0, .ref t2]) ⟨hx, hb, hml, hown, hw⟩ (c_lastTold0 l G nw_limits 6 2 nw_limits_c 1 0 15) (va_cwS 4 hw (gdT kw_129 kw_130 kw_131 kw_128) rfl rfl rfl hdX9_lastTold ⟨(Nat.le_of_ble_eq_true rfl), (Nat.le_of_ble_eq_true rfl)⟩) (preS_S (wc := [(nw_limits, .inr (6, [.int 6, .int 2, .ref nw_limits_c, .int 0]))]) hKG hP [4] rfl) rfl rfl hl.1 rfl (lv_room (Nat.le_of_ble_eq_true rfl)) dX9_lay_65 ⟨(Nat.le_of_ble_eq_true rfl), (Nat.le_of_ble_eq_true rfl)⟩)) (fun r7 hr7 => ?_)
  subst hr7
  refine va_iast hx hb hK hP hD hS 8 0 rfl rfl (vp_in_iff.mpr (by decide)) dX9_lay_68 (fun H locs hP hD hS => ?_)
  have hP : va_P G.1 vwCl [(tk, .inr (9, [.ref t0, .ref t1, .ref t2, .ref t3, .ref nw, .int 0])), (nw, .inr (3, [.int 0, .int 0, .ref nw_slopes, .ref nw_wets, .ref nw_limits, .ref nw_platforms, .ref nw_kinds, .ref nw_trains, .ref nw_coaches])), (nw_slopes, .inr (6, [.int 8, .int 2, .ref nw_slopes_c, .int 0])), (nw_wets, .inr (6, [.int 6, .int 3, .ref nw_wets_c, .int 0])), (nw_limits, .inr (6, [.int 6, .int 2, .ref nw_limits_c, .int 0])), (nw_kinds, .inr (6, [.int 4, .int 5, .ref nw_kinds_c, .int 0])), (t0, .inl (G.2 0, 401, .inl f4)), (t1, .inl (G.2 0, 401, .inl f6)), (t2, .inl (G.2 0, 401, .inl (upd f2 (0 : Int32).toNatClampNeg 15)))] H := hP
  have hD : va_D A [(tk, .inr (9, [.ref t0, .ref t1, .ref t2, .ref t3, .ref nw, .int 0])), (nw, .inr (3, [.int 0, .int 0, .ref nw_slopes, .ref nw_wets, .ref nw_limits, .ref nw_platforms, .ref nw_kinds, .ref nw_trains, .ref nw_coaches])), (nw_slopes, .inr (6, [.int 8, .int 2, .ref nw_slopes_c, .int 0])), (nw_wets, .inr (6, [.int 6, .int 3, .ref nw_wets_c, .int 0])), (nw_limits, .inr (6, [.int 6, .int 2, .ref nw_limits_c, .int 0])), (nw_kinds, .inr (6, [.int 4, .int 5, .ref nw_kinds_c, .int 0])), (t0, .inl (G.2 0, 401, .inl f4)), (t1, .inl (G.2 0, 401, .inl f6)), (t2, .inl (G.2 0, 401, .inl (upd f2 (0 : Int32).toNatClampNeg 15)))] := hD
  generalize (upd f2 (0 : Int32).toNatClampNeg 15) = f8 at hP hD
  refine lv_iinc (v := 1) (lv' := [(3, .int 1), (0, .ref tk), (1, .ref nw), (2, .int 0)]) hx hb dX9_lay_69 hl (k := 0) rfl (by decide) (by decide) rfl (fun ls hl => ?_)
  refine lv_goto (tgt := 7) hx hb dX9_lay_72 (by decide) ?_
  refine lv_iload_n hx hb dX9_lay_7 rfl (lv_at hl 0 rfl) ?_
  refine lv_aload_n hx hb dX9_lay_8 rfl (lv_at hl 2 rfl) ?_
  refine va_get (D := G.1) (ci := 3) (v := .int 0) (C := RX3) (T := TX3) (N := 9) hx hb hw inGX3 hown hK hP 1 rfl rfl 0 (by decide) (hw _ kw_125) (fun _ h9 => h9) rfl dX9_lay_9 ?_
  refine lv_icmp_gt (tgt := 75) hx hb dX9_lay_12 (by decide) (fun c9 => ?_) (fun c9 => absurd (by decide) c9)
  refine lv_aload_n hx hb dX9_lay_75 rfl (lv_at hl 1 rfl) ?_
  refine lv_iload_n hx hb dX9_lay_76 rfl (lv_at hl 3 rfl) ?_
  refine wq_callv (wr := [(nw_slopes, .inr (6, [.int 8, .int 2, .ref nw_slopes_c, .int 0])), (nw_wets, .inr (6, [.int 6, .int 3, .ref nw_wets_c, .int 0])), (nw_limits, .inr (6, [.int 6, .int 2, .ref nw_limits_c, .int 0])), (t0, .inl (G.2 0, 401, .inl f4)), (t1, .inl (G.2 0, 401, .inl f6)), (t2, .inl (G.2 0, 401, .inl f8))]) (va_runV (As := [.int 0]) (rest := []) ⟨hx, hb, hml, hown, hw⟩ (c_soak0 l G tk t0 t1 t2 t3 nw nw_slopes nw_wets nw_limits nw_platforms nw_kinds nw_trains nw_coaches nw_kinds_c H.size) (cwV 1 hw (gdV kw_140 kw_141 kw_142 kw_131 kw_139) rfl rfl rfl ⟨rfl, hdX9_soak⟩ ⟨(Nat.le_of_ble_eq_true rfl), (Nat.le_of_ble_eq_true rfl)⟩) (preQ_V (wc := [(tk, .inr (9, [.ref t0, .ref t1, .ref t2, .ref t3, .ref nw, .int 0])), (nw, .inr (3, [.int 0, .int 0, .ref nw_slopes, .ref nw_wets, .ref nw_limits, .ref nw_platforms, .ref nw_kinds, .ref nw_trains, .ref nw_coaches])), (nw_kinds, .inr (6, [.int 4, .int 5, .ref nw_kinds_c, .int 0]))]) (ci := 9) hKG hP hD [0, 1, 5] (by decide +kernel) rfl rfl rfl) rfl rfl hl.1 rfl (lv_room (Nat.le_of_ble_eq_true rfl)) dX9_lay_77 ⟨(Nat.le_of_ble_eq_true rfl), (Nat.le_of_ble_eq_true rfl)⟩) hS hP hD hA [0, 1, 5] [2, 3, 4, 6, 7, 8] rfl rfl (by decide +kernel) (by decide +kernel) (fun u11 H locs hr10 hP hD hS => ?_)
  have hP : va_P G.1 vwCl [(nw_slopes, .inr (6, [.int 8, .int 2, .ref nw_slopes_c, .int 0])), (nw_wets, .inr (6, [.int 6, .int 3, .ref nw_wets_c, .int 0])), (nw_limits, .inr (6, [.int 6, .int 2, .ref nw_limits_c, .int 0])), (t0, .inl (G.2 0, 401, .inl f4)), (t1, .inl (G.2 0, 401, .inl f6)), (t2, .inl (G.2 0, 401, .inl f8)), (tk, .inr (9, [.ref t0, .ref t1, .ref t2, .ref t3, .ref nw, .int 0])), (nw, .inr (3, [.int 0, .int 0, .ref nw_slopes, .ref nw_wets, .ref nw_limits, .ref nw_platforms, .ref nw_kinds, .ref nw_trains, .ref nw_coaches])), (nw_kinds, .inr (6, [.int 4, .int 5, .ref nw_kinds_c, .int 0]))] H := hP
  have hD : va_D A [(nw_slopes, .inr (6, [.int 8, .int 2, .ref nw_slopes_c, .int 0])), (nw_wets, .inr (6, [.int 6, .int 3, .ref nw_wets_c, .int 0])), (nw_limits, .inr (6, [.int 6, .int 2, .ref nw_limits_c, .int 0])), (t0, .inl (G.2 0, 401, .inl f4)), (t1, .inl (G.2 0, 401, .inl f6)), (t2, .inl (G.2 0, 401, .inl f8)), (tk, .inr (9, [.ref t0, .ref t1, .ref t2, .ref t3, .ref nw, .int 0])), (nw, .inr (3, [.int 0, .int 0, .ref nw_slopes, .ref nw_wets, .ref nw_limits, .ref nw_platforms, .ref nw_kinds, .ref nw_trains, .ref nw_coaches])), (nw_kinds, .inr (6, [.int 4, .int 5, .ref nw_kinds_c, .int 0]))] := hD
  refine W.widen (k := 0) (n := 0) (Nat.le_of_ble_eq_true rfl) (Nat.le_of_ble_eq_true rfl) ?_
  exact W.vret hx hb hr (fun t ht hW => ⟨⟨(f4, f6, f8), rfl, trivial, ⟨by rw [ht]; exact hP.sub [6, 7, 0, 1, 2, 8, 3, 4, 5] rfl, hD.sub [6, 7, 0, 1, 2, 8, 3, 4, 5] (by decide +kernel) rfl⟩⟩, hS.F ht⟩) hS.2.2 dX9_lay_80
