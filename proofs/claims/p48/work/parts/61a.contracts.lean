set_option maxHeartbeats 4000000 in
set_option maxRecDepth 100000 in
theorem lp_fillI {p : Program} {l : Launch} {e : Env} {R : Room} {s : State} {m : MethodId} {args : Array Value} {below : List Frame} {meth : Method} {c : Code} {A : Nat → Prop} {Q : State → Prop} {cells slots : Nat} (G : KG) (a0 : Nat) (n0 : Nat) (va0 : Int32) (hx : p.tables.exec = Jvm.exec) (hb : c.code = cJ7_fill_53178) (hw : ∀ w ∈ wG, w.before args s = true) (hown : s.vm.findClass RJ7 = some m.cls) (hK : va_K G.1 vwCl (mq_ty G) s) (hn0 : n0 ≤ 100000)
    (kk : ∀ (f : Nat → Int32) (H : Heap) (locs : List Loc), va_P G.1 vwCl [(a0, .inl (G.2 0, n0, .inl f))] H → va_D A [(a0, .inl (G.2 0, n0, .inl f))] → va_S A s.heap H locs → ∀ (ls : Array Slot), lv_has ls 4 [(0, .ref a0), (1, .int va0), (2, .int (nI n0)), (3, .int (nI n0))] → W p l e R s m args below meth c H locs cells slots Q (F0 m 20 ls [])) :
    ∀ (n i : Nat), i ≤ n0 → n0 < i + n → ∀ (f : Nat → Int32) (H : Heap) (locs : List Loc), va_P G.1 vwCl [(a0, .inl (G.2 0, n0, .inl f))] H → va_D A [(a0, .inl (G.2 0, n0, .inl f))] → va_S A s.heap H locs → ∀ (ls : Array Slot), lv_has ls 4 [(0, .ref a0), (1, .int va0), (2, .int (nI i)), (3, .int (nI n0))] → W p l e R s m args below meth c H locs cells slots Q (F0 m 5 ls []) := by
  intro n
  induction n with
  | zero => intro i h1 h2; exact absurd h2 (by omega)
  | succ n ih =>
    intro i hi hin f H locs hP hD hS ls hl
    refine lv_iload_n hx hb dJ7_fill_53178_5 rfl (lv_at hl 2 rfl) ?_
    refine lv_iload_n hx hb dJ7_fill_53178_6 rfl (lv_at hl 3 rfl) ?_
    refine lv_icmp_ge (tgt := 20) hx hb dJ7_fill_53178_7 (by decide) (fun c1 => ?_) (fun c1 => ?_)
    · have c1 : n0 ≤ i := (nI_leI (a := n0) (b := i) (by omega) (by omega)).mp c1
      obtain rfl : i = n0 := by omega
      exact kk f _ _ hP hD hS ls (lv_sub hl [0, 1, 2, 3] rfl)
    · have c1 : ¬ (n0 ≤ i) := fun z => c1 ((nI_leI (a := n0) (b := i) (by omega) (by omega)).mpr z)
      refine lv_aload_n hx hb dJ7_fill_53178_10 rfl (lv_at hl 0 rfl) ?_
      refine lv_iload_n hx hb dJ7_fill_53178_11 rfl (lv_at hl 2 rfl) ?_
      refine lv_iload_n hx hb dJ7_fill_53178_12 rfl (lv_at hl 1 rfl) ?_
      refine va_iast hx hb hK hP hD hS 0 0 rfl rfl (vp_in_nI (n := i) (N := n0) (by omega) (by omega)) dJ7_fill_53178_13 (fun H locs hP hD hS => ?_)
      have hP : va_P G.1 vwCl [(a0, .inl (G.2 0, n0, .inl (upd f (nI i).toNatClampNeg va0)))] H := hP
      have hD : va_D A [(a0, .inl (G.2 0, n0, .inl (upd f (nI i).toNatClampNeg va0)))] := hD
      generalize (upd f (nI i).toNatClampNeg va0) = f2 at hP hD
      refine lv_iinc (v := nI (i + 1)) (lv' := [(2, .int (nI (i + 1))), (0, .ref a0), (1, .int va0), (3, .int (nI n0))]) hx hb dJ7_fill_53178_14 hl (k := 2) rfl (nI_1 _) (by decide) rfl (fun ls hl => ?_)
      refine lv_goto (tgt := 5) hx hb dJ7_fill_53178_17 (by decide) ?_
      exact ih (i + 1) (by omega) (by omega) f2 _ _ hP hD hS ls (lv_sub hl [1, 2, 0, 3] rfl)
set_option maxHeartbeats 4000000 in
set_option maxRecDepth 100000 in
theorem c_fillI (l : Launch) (G : KG) (a0 : Nat) (n0 : Nat) (va0 : Int32) (f0 : Nat → Int32) (sz : Nat) (hn0 : n0 ≤ 100000) : Met l yJ7_fill_53178 wgJ7_fill_53178 ({ frames := 0, cells := 0, slots := 0, locals := 0 }) (mpreQ G [.ref a0, .int va0] sz [(a0, .inl (G.2 0, n0, .inl f0))]) (va_Qv (fun (u : (Nat → Int32)) => True) (fun u t => atQ G (va_A [(a0, .inl (G.2 0, n0, .inl f0))] sz) [(a0, .inl (G.2 0, n0, .inl u))] t) (va_A [(a0, .inl (G.2 0, n0, .inl f0))] sz)) 0 0 (va_A [(a0, .inl (G.2 0, n0, .inl f0))] sz) := by
  refine Met.ofW (cc := cJ7_fill_53178) (maxL := 4) (ret := none) (by decide) rfl ?_
  intro p e s m args below meth c s₁ B hml hv
  obtain ⟨rfl, hsz, hP, hKG, hD0⟩ := hv
  obtain ⟨hK, hAO⟩ := id hKG
  have hx := B.exec
  have hb := B.bytes
  have hr := B.returns
  have hts := atoms_spec (ws := wgJ7_fill_53178) B.pre
  have hw : ∀ w ∈ wG, w.before _ s = true := fun w h => hts w (List.mem_cons_of_mem _ h)
  have hown : s.vm.findClass RJ7 = some m.cls := findClass_of_methodNamed B.named
  have hlocks := B.notSynchronized
  subst hsz
  have hD := hD0.self (sz := s.heap.size)
  generalize hAe : va_A [(a0, .inl (G.2 0, n0, .inl f0))] s.heap.size = A at hD ⊢
  have hA : ∀ q : Nat, s.heap.size ≤ q → A q := fun q h => by rw [← hAe]; exact Or.inr h
  have hS : va_S A s.heap s.heap [] := va_S.rf
  have hl := lv_entry ([.ref a0, .int va0]) (n := 4) (Nat.le_of_ble_eq_true rfl)
  rw [lg_entry_eq]
  generalize (lg_sl ([.ref a0, .int va0]) ++ List.replicate (4 - (lg_sl ([.ref a0, .int va0])).length) Slot.unset).toArray = ls at hl ⊢
  have hl : lv_has ls 4 [(0, .ref a0), (1, .int va0)] := hl
  refine lv_iconst (v := 0) hx hb dJ7_fill_53178_0 (by decide) ?_
  refine lv_istore_n (lv' := [(2, .int 0), (0, .ref a0), (1, .int va0)]) hx hb dJ7_fill_53178_1 rfl hl (by decide) rfl (fun ls hl => ?_)
  refine lv_aload_n hx hb dJ7_fill_53178_2 rfl (lv_at hl 1 rfl) ?_
  refine va_alen (v := nI n0) hx hb hK hP 0 0 rfl rfl rfl dJ7_fill_53178_3 ?_
  refine lv_istore_n (lv' := [(3, .int (nI n0)), (2, .int 0), (0, .ref a0), (1, .int va0)]) hx hb dJ7_fill_53178_4 rfl hl (by decide) rfl (fun ls hl => ?_)
  refine lp_fillI G a0 n0 va0 hx hb hw hown hK hn0 (fun f1 H locs hP hD hS ls hl => ?_) (n0 + 1) 0 (by omega) (by omega) f0 _ _ (hP.sub [0] rfl) (hD.sub [0] (by decide +kernel) rfl) hS ls (lv_sub hl [2, 3, 1, 0] rfl)
  have hP : va_P G.1 vwCl [(a0, .inl (G.2 0, n0, .inl f1))] H := hP
  have hD : va_D A [(a0, .inl (G.2 0, n0, .inl f1))] := hD
  exact W.vret hx hb hr (fun t ht hW => ⟨⟨f1, rfl, trivial, ⟨by rw [ht]; exact hP.sub [0] rfl, hD.sub [0] (by decide +kernel) rfl⟩⟩, hS.F ht⟩) hS.2.2 dJ7_fill_53178_20
set_option maxHeartbeats 4000000 in
set_option maxRecDepth 100000 in
theorem c_lastTold0 (l : Launch) (G : KG) (h0 : Nat) (mo : Int32) (wi : Int32) (ca : Nat) (p1 : Int32) (p2 : Int32) (p3 : Int32) : Met l yX9_lastTold wgX9_lastTold ({ frames := 0, cells := 0, slots := 0, locals := 0 }) (mpreS G [.ref h0, .int p1, .int p2, .int p3] [(h0, .inr (6, [.int mo, .int wi, .ref ca, .int 0]))]) (vp_Si (fun (r : Int32) => (r = p3))) 0 0 (fun _ => False) := by
  refine Met.ofW (cc := cX9_lastTold) (maxL := 5) (ret := (some .int)) (by decide) rfl ?_
  intro p e s m args below meth c s₁ B hml hv
  obtain ⟨rfl, hP, hKG⟩ := hv
  obtain ⟨hK, hAO⟩ := id hKG
  have hx := B.exec
  have hb := B.bytes
  have hr := B.returns
  have hts := atoms_spec (ws := wgX9_lastTold) B.pre
  have hw : ∀ w ∈ wG, w.before _ s = true := fun w h => hts w (List.mem_cons_of_mem _ h)
  have hown : s.vm.findClass RX9 = some m.cls := findClass_of_methodNamed B.named
  have hlocks := B.notSynchronized
  have hl := lv_entry ([.ref h0, .int p1, .int p2, .int p3]) (n := 5) (Nat.le_of_ble_eq_true rfl)
  rw [lg_entry_eq]
  generalize (lg_sl ([.ref h0, .int p1, .int p2, .int p3]) ++ List.replicate (5 - (lg_sl ([.ref h0, .int p1, .int p2, .int p3])).length) Slot.unset).toArray = ls at hl ⊢
  have hl : lv_has ls 5 [(0, .ref h0), (1, .int p1), (2, .int p2), (3, .int p3)] := hl
  refine lv_aload_n hx hb dX9_lastTold_0 rfl (lv_at hl 0 rfl) ?_
  refine va_get (D := G.1) (ci := 6) (v := .int 0) (C := RX6) (T := TX6) (N := 4) hx hb hw inGX6 hown hK hP 0 rfl rfl 3 (by decide) (hw _ nk_1) (fun _ h9 => h9) rfl dX9_lastTold_1 ?_
  refine lv_iconst (v := 1) hx hb dX9_lastTold_4 (by decide) ?_
  refine lv_isub hx hb dX9_lastTold_5 ?_
  refine lv_cst (y := (-1)) (by decide) ?_
  refine lv_istore (lv' := [(4, .int (-1)), (0, .ref h0), (1, .int p1), (2, .int p2), (3, .int p3)]) hx hb dX9_lastTold_6 hl (by decide) rfl (fun ls hl => ?_)
  refine lv_iload hx hb dX9_lastTold_8 (lv_at hl 0 rfl) ?_
  refine lv_if_lt (tgt := 38) hx hb dX9_lastTold_10 (by decide) (fun c1 => ?_) (fun c1 => absurd (by decide) c1)
  refine lv_iload_n hx hb dX9_lastTold_38 rfl (lv_at hl 4 rfl) ?_
  exact W.iret (v := p3) hx hb hr (fun t ht hW => ⟨p3, rfl, rfl, ht⟩) (fun _ h => absurd h List.not_mem_nil) dX9_lastTold_39
set_option maxHeartbeats 4000000 in
set_option maxRecDepth 100000 in
theorem c_wettest0 (l : Launch) (G : KG) (h0 : Nat) (mo : Int32) (wi : Int32) (ca : Nat) (p1 : Int32) : Met l yX9_wettest wgX9_wettest ({ frames := 0, cells := 0, slots := 0, locals := 0 }) (mpreS G [.ref h0, .int p1] [(h0, .inr (6, [.int mo, .int wi, .ref ca, .int 0]))]) (vp_Si (fun (r : Int32) => (r = 0))) 0 0 (fun _ => False) := by
  refine Met.ofW (cc := cX9_wettest) (maxL := 4) (ret := (some .int)) (by decide) rfl ?_
  intro p e s m args below meth c s₁ B hml hv
  obtain ⟨rfl, hP, hKG⟩ := hv
  obtain ⟨hK, hAO⟩ := id hKG
  have hx := B.exec
  have hb := B.bytes
  have hr := B.returns
  have hts := atoms_spec (ws := wgX9_wettest) B.pre
  have hw : ∀ w ∈ wG, w.before _ s = true := fun w h => hts w (List.mem_cons_of_mem _ h)
  have hown : s.vm.findClass RX9 = some m.cls := findClass_of_methodNamed B.named
  have hlocks := B.notSynchronized
  have hl := lv_entry ([.ref h0, .int p1]) (n := 4) (Nat.le_of_ble_eq_true rfl)
  rw [lg_entry_eq]
  generalize (lg_sl ([.ref h0, .int p1]) ++ List.replicate (4 - (lg_sl ([.ref h0, .int p1])).length) Slot.unset).toArray = ls at hl ⊢
  have hl : lv_has ls 4 [(0, .ref h0), (1, .int p1)] := hl
  refine lv_iconst (v := 0) hx hb dX9_wettest_0 (by decide) ?_
  refine lv_istore_n (lv' := [(2, .int 0), (0, .ref h0), (1, .int p1)]) hx hb dX9_wettest_1 rfl hl (by decide) rfl (fun ls hl => ?_)
  refine lv_iconst (v := 0) hx hb dX9_wettest_2 (by decide) ?_
  refine lv_istore_n (lv' := [(3, .int 0), (2, .int 0), (0, .ref h0), (1, .int p1)]) hx hb dX9_wettest_3 rfl hl (by decide) rfl (fun ls hl => ?_)
  refine lv_iload_n hx hb dX9_wettest_4 rfl (lv_at hl 0 rfl) ?_
  refine lv_aload_n hx hb dX9_wettest_5 rfl (lv_at hl 2 rfl) ?_
  refine va_get (D := G.1) (ci := 6) (v := .int 0) (C := RX6) (T := TX6) (N := 4) hx hb hw inGX6 hown hK hP 0 rfl rfl 3 (by decide) (hw _ nk_1) (fun _ h9 => h9) rfl dX9_wettest_6 ?_
  refine lv_icmp_ge (tgt := 49) hx hb dX9_wettest_9 (by decide) (fun c1 => ?_) (fun c1 => absurd (by decide) c1)
  refine lv_iload_n hx hb dX9_wettest_49 rfl (lv_at hl 1 rfl) ?_
  exact W.iret (v := 0) hx hb hr (fun t ht hW => ⟨0, rfl, rfl, ht⟩) (fun _ h => absurd h List.not_mem_nil) dX9_wettest_50
set_option maxHeartbeats 4000000 in
set_option maxRecDepth 100000 in
theorem c_soak0 (l : Launch) (G : KG) (tk : Nat) (t0 : Nat) (t1 : Nat) (t2 : Nat) (t3 : Nat) (nw : Nat) (nw_slopes : Nat) (nw_wets : Nat) (nw_limits : Nat) (nw_platforms : Nat) (nw_kinds : Nat) (nw_trains : Nat) (nw_coaches : Nat) (nw_kinds_c : Nat) (sz : Nat) : Met l yX9_soak wgX9_soak ({ frames := 0, cells := 0, slots := 0, locals := 0 }) (mpreQ G [.ref tk, .int 0] sz [(tk, .inr (9, [.ref t0, .ref t1, .ref t2, .ref t3, .ref nw, .int 0])), (nw, .inr (3, [.int 0, .int 0, .ref nw_slopes, .ref nw_wets, .ref nw_limits, .ref nw_platforms, .ref nw_kinds, .ref nw_trains, .ref nw_coaches])), (nw_kinds, .inr (6, [.int 4, .int 5, .ref nw_kinds_c, .int 0]))]) (va_Qv (fun (u : Unit) => True) (fun u t => atQ G (va_A [(tk, .inr (9, [.ref t0, .ref t1, .ref t2, .ref t3, .ref nw, .int 0])), (nw, .inr (3, [.int 0, .int 0, .ref nw_slopes, .ref nw_wets, .ref nw_limits, .ref nw_platforms, .ref nw_kinds, .ref nw_trains, .ref nw_coaches])), (nw_kinds, .inr (6, [.int 4, .int 5, .ref nw_kinds_c, .int 0]))] sz) [(tk, .inr (9, [.ref t0, .ref t1, .ref t2, .ref t3, .ref nw, .int 0])), (nw, .inr (3, [.int 0, .int 0, .ref nw_slopes, .ref nw_wets, .ref nw_limits, .ref nw_platforms, .ref nw_kinds, .ref nw_trains, .ref nw_coaches])), (nw_kinds, .inr (6, [.int 4, .int 5, .ref nw_kinds_c, .int 0]))] t) (va_A [(tk, .inr (9, [.ref t0, .ref t1, .ref t2, .ref t3, .ref nw, .int 0])), (nw, .inr (3, [.int 0, .int 0, .ref nw_slopes, .ref nw_wets, .ref nw_limits, .ref nw_platforms, .ref nw_kinds, .ref nw_trains, .ref nw_coaches])), (nw_kinds, .inr (6, [.int 4, .int 5, .ref nw_kinds_c, .int 0]))] sz)) 0 0 (va_A [(tk, .inr (9, [.ref t0, .ref t1, .ref t2, .ref t3, .ref nw, .int 0])), (nw, .inr (3, [.int 0, .int 0, .ref nw_slopes, .ref nw_wets, .ref nw_limits, .ref nw_platforms, .ref nw_kinds, .ref nw_trains, .ref nw_coaches])), (nw_kinds, .inr (6, [.int 4, .int 5, .ref nw_kinds_c, .int 0]))] sz) := by
  refine Met.ofW (cc := cX9_soak) (maxL := 3) (ret := none) (by decide) rfl ?_
  intro p e s m args below meth c s₁ B hml hv
  obtain ⟨rfl, hsz, hP, hKG, hD0⟩ := hv
  obtain ⟨hK, hAO⟩ := id hKG
  have hx := B.exec
  have hb := B.bytes
  have hr := B.returns
  have hts := atoms_spec (ws := wgX9_soak) B.pre
  have hw : ∀ w ∈ wG, w.before _ s = true := fun w h => hts w (List.mem_cons_of_mem _ h)
  have hown : s.vm.findClass RX9 = some m.cls := findClass_of_methodNamed B.named
  have hlocks := B.notSynchronized
  subst hsz
  have hD := hD0.self (sz := s.heap.size)
  generalize hAe : va_A [(tk, .inr (9, [.ref t0, .ref t1, .ref t2, .ref t3, .ref nw, .int 0])), (nw, .inr (3, [.int 0, .int 0, .ref nw_slopes, .ref nw_wets, .ref nw_limits, .ref nw_platforms, .ref nw_kinds, .ref nw_trains, .ref nw_coaches])), (nw_kinds, .inr (6, [.int 4, .int 5, .ref nw_kinds_c, .int 0]))] s.heap.size = A at hD ⊢
  have hA : ∀ q : Nat, s.heap.size ≤ q → A q := fun q h => by rw [← hAe]; exact Or.inr h
  have hS : va_S A s.heap s.heap [] := va_S.rf
  have hl := lv_entry ([.ref tk, .int 0]) (n := 3) (Nat.le_of_ble_eq_true rfl)
  rw [lg_entry_eq]
  generalize (lg_sl ([.ref tk, .int 0]) ++ List.replicate (3 - (lg_sl ([.ref tk, .int 0])).length) Slot.unset).toArray = ls at hl ⊢
  have hl : lv_has ls 3 [(0, .ref tk), (1, .int 0)] := hl
  refine lv_iconst (v := 0) hx hb dX9_soak_0 (by decide) ?_
  refine lv_istore_n (lv' := [(2, .int 0), (0, .ref tk), (1, .int 0)]) hx hb dX9_soak_1 rfl hl (by decide) rfl (fun ls hl => ?_)
  refine lv_aload_n hx hb dX9_soak_2 rfl (lv_at hl 1 rfl) ?_
  refine va_get (D := G.1) (ci := 9) (v := .ref nw) (C := RX9) (T := TX9) (N := 6) hx hb hw inGX9 hown hK hP 0 rfl rfl 4 (by decide) (hw _ nk_2) (fun _ h9 => h9) rfl dX9_soak_3 ?_
  refine lv_ifnull hx hb dX9_soak_6 ?_
  refine lv_iload_n hx hb dX9_soak_9 rfl (lv_at hl 0 rfl) ?_
  refine lv_aload_n hx hb dX9_soak_10 rfl (lv_at hl 1 rfl) ?_
  refine va_get (D := G.1) (ci := 9) (v := .ref nw) (C := RX9) (T := TX9) (N := 6) hx hb hw inGX9 hown hK hP 0 rfl rfl 4 (by decide) (hw _ nk_2) (fun _ h9 => h9) rfl dX9_soak_11 ?_
  refine va_get (D := G.1) (ci := 3) (v := .ref nw_kinds) (C := RX3) (T := TX3) (N := 9) hx hb hw inGX3 hown hK hP 1 rfl rfl 6 (by decide) (hw _ nk_3) (fun _ h9 => h9) rfl dX9_soak_14 ?_
  refine va_get (D := G.1) (ci := 6) (v := .int 0) (C := RX6) (T := TX6) (N := 4) hx hb hw inGX6 hown hK hP 2 rfl rfl 3 (by decide) (hw _ nk_1) (fun _ h9 => h9) rfl dX9_soak_17 ?_
  refine lv_icmp_ge (tgt := 35) hx hb dX9_soak_20 (by decide) (fun c1 => ?_) (fun c1 => absurd (by decide) c1)
  refine lv_aload_n hx hb dX9_soak_35 rfl (lv_at hl 1 rfl) ?_
  refine lv_iload_n hx hb dX9_soak_36 rfl (lv_at hl 2 rfl) ?_
  refine va_put (D := G.1) (ci := 9) (v := .int 0) (ty := .int) (C := RX9) (T := TX9) (N := 6) hx hb hw inGX9 tyX9 tyX9_ok nmX9 hown hK hP hD hS 0 rfl rfl 5 (by decide) (hw _ nk_4) (fun _ h9 => h9) rfl (by decide +kernel) rfl rfl (Nat.le_of_ble_eq_true rfl) dX9_soak_37 (fun H locs hP hD hS => ?_)
  have hP : va_P G.1 vwCl [(tk, .inr (9, [.ref t0, .ref t1, .ref t2, .ref t3, .ref nw, .int 0])), (nw, .inr (3, [.int 0, .int 0, .ref nw_slopes, .ref nw_wets, .ref nw_limits, .ref nw_platforms, .ref nw_kinds, .ref nw_trains, .ref nw_coaches])), (nw_kinds, .inr (6, [.int 4, .int 5, .ref nw_kinds_c, .int 0]))] H := hP
  have hD : va_D A [(tk, .inr (9, [.ref t0, .ref t1, .ref t2, .ref t3, .ref nw, .int 0])), (nw, .inr (3, [.int 0, .int 0, .ref nw_slopes, .ref nw_wets, .ref nw_limits, .ref nw_platforms, .ref nw_kinds, .ref nw_trains, .ref nw_coaches])), (nw_kinds, .inr (6, [.int 4, .int 5, .ref nw_kinds_c, .int 0]))] := hD
  exact W.vret hx hb hr (fun t ht hW => ⟨⟨(), rfl, trivial, ⟨by rw [ht]; exact hP.sub [0, 1, 2] rfl, hD.sub [0, 1, 2] (by decide +kernel) rfl⟩⟩, hS.F ht⟩) hS.2.2 dX9_soak_40
set_option maxHeartbeats 4000000 in
set_option maxRecDepth 100000 in
theorem c_lay0a (l : Launch) (G : KG) (tk : Nat) (t0 : Nat) (t1 : Nat) (t2 : Nat) (t3 : Nat) (nw : Nat) (nw_slopes : Nat) (nw_wets : Nat) (nw_limits : Nat) (nw_platforms : Nat) (nw_kinds : Nat) (nw_trains : Nat) (nw_coaches : Nat) (nw_slopes_c : Nat) (nw_wets_c : Nat) (nw_limits_c : Nat) (nw_kinds_c : Nat) (sz : Nat) : Met l yX9_lay wgX9_lay ({ frames := 1, cells := 0, slots := 0, locals := 24 }) (mpreQ G [.ref tk, .ref nw, .int 0] sz [(tk, .inr (9, [.ref t0, .ref t1, .ref t2, .ref t3, .null, .int 0])), (nw, .inr (3, [.int 0, .int 0, .ref nw_slopes, .ref nw_wets, .ref nw_limits, .ref nw_platforms, .ref nw_kinds, .ref nw_trains, .ref nw_coaches])), (nw_slopes, .inr (6, [.int 8, .int 2, .ref nw_slopes_c, .int 0])), (nw_wets, .inr (6, [.int 6, .int 3, .ref nw_wets_c, .int 0])), (nw_limits, .inr (6, [.int 6, .int 2, .ref nw_limits_c, .int 0])), (nw_kinds, .inr (6, [.int 4, .int 5, .ref nw_kinds_c, .int 0])), (t0, .inl (G.2 0, 401, .inl (fun _ => 0))), (t1, .inl (G.2 0, 401, .inl (fun _ => 0))), (t2, .inl (G.2 0, 401, .inl (fun _ => 0)))]) (va_Qv (fun (u : Unit) => True) (fun u t => atQ G (va_A [(tk, .inr (9, [.ref t0, .ref t1, .ref t2, .ref t3, .null, .int 0])), (nw, .inr (3, [.int 0, .int 0, .ref nw_slopes, .ref nw_wets, .ref nw_limits, .ref nw_platforms, .ref nw_kinds, .ref nw_trains, .ref nw_coaches])), (nw_slopes, .inr (6, [.int 8, .int 2, .ref nw_slopes_c, .int 0])), (nw_wets, .inr (6, [.int 6, .int 3, .ref nw_wets_c, .int 0])), (nw_limits, .inr (6, [.int 6, .int 2, .ref nw_limits_c, .int 0])), (nw_kinds, .inr (6, [.int 4, .int 5, .ref nw_kinds_c, .int 0])), (t0, .inl (G.2 0, 401, .inl (fun _ => 0))), (t1, .inl (G.2 0, 401, .inl (fun _ => 0))), (t2, .inl (G.2 0, 401, .inl (fun _ => 0)))] sz) [(tk, .inr (9, [.ref t0, .ref t1, .ref t2, .ref t3, .ref nw, .int 0])), (nw, .inr (3, [.int 0, .int 0, .ref nw_slopes, .ref nw_wets, .ref nw_limits, .ref nw_platforms, .ref nw_kinds, .ref nw_trains, .ref nw_coaches])), (nw_slopes, .inr (6, [.int 8, .int 2, .ref nw_slopes_c, .int 0])), (nw_wets, .inr (6, [.int 6, .int 3, .ref nw_wets_c, .int 0])), (nw_limits, .inr (6, [.int 6, .int 2, .ref nw_limits_c, .int 0])), (nw_kinds, .inr (6, [.int 4, .int 5, .ref nw_kinds_c, .int 0])), (t0, .inl (G.2 0, 401, .inl (fun _ => 0))), (t1, .inl (G.2 0, 401, .inl (fun _ => 0))), (t2, .inl (G.2 0, 401, .inl (upd (fun _ => 0) (0 : Int32).toNatClampNeg 15)))] t) (va_A [(tk, .inr (9, [.ref t0, .ref t1, .ref t2, .ref t3, .null, .int 0])), (nw, .inr (3, [.int 0, .int 0, .ref nw_slopes, .ref nw_wets, .ref nw_limits, .ref nw_platforms, .ref nw_kinds, .ref nw_trains, .ref nw_coaches])), (nw_slopes, .inr (6, [.int 8, .int 2, .ref nw_slopes_c, .int 0])), (nw_wets, .inr (6, [.int 6, .int 3, .ref nw_wets_c, .int 0])), (nw_limits, .inr (6, [.int 6, .int 2, .ref nw_limits_c, .int 0])), (nw_kinds, .inr (6, [.int 4, .int 5, .ref nw_kinds_c, .int 0])), (t0, .inl (G.2 0, 401, .inl (fun _ => 0))), (t1, .inl (G.2 0, 401, .inl (fun _ => 0))), (t2, .inl (G.2 0, 401, .inl (fun _ => 0)))] sz)) 0 0 (va_A [(tk, .inr (9, [.ref t0, .ref t1, .ref t2, .ref t3, .null, .int 0])), (nw, .inr (3, [.int 0, .int 0, .ref nw_slopes, .ref nw_wets, .ref nw_limits, .ref nw_platforms, .ref nw_kinds, .ref nw_trains, .ref nw_coaches])), (nw_slopes, .inr (6, [.int 8, .int 2, .ref nw_slopes_c, .int 0])), (nw_wets, .inr (6, [.int 6, .int 3, .ref nw_wets_c, .int 0])), (nw_limits, .inr (6, [.int 6, .int 2, .ref nw_limits_c, .int 0])), (nw_kinds, .inr (6, [.int 4, .int 5, .ref nw_kinds_c, .int 0])), (t0, .inl (G.2 0, 401, .inl (fun _ => 0))), (t1, .inl (G.2 0, 401, .inl (fun _ => 0))), (t2, .inl (G.2 0, 401, .inl (fun _ => 0)))] sz) := by
  refine Met.ofW (cc := cX9_lay) (maxL := 4) (ret := none) (by decide) rfl ?_
  intro p e s m args below meth c s₁ B hml hv
  obtain ⟨rfl, hsz, hP, hKG, hD0⟩ := hv
  obtain ⟨hK, hAO⟩ := id hKG
  have hx := B.exec
  have hb := B.bytes
  have hr := B.returns
  have hts := atoms_spec (ws := wgX9_lay) B.pre
  have hw : ∀ w ∈ wG, w.before _ s = true := fun w h => hts w (List.mem_cons_of_mem _ h)
  have hown : s.vm.findClass RX9 = some m.cls := findClass_of_methodNamed B.named
  have hlocks := B.notSynchronized
  subst hsz
  have hD := hD0.self (sz := s.heap.size)
  generalize hAe : va_A [(tk, .inr (9, [.ref t0, .ref t1, .ref t2, .ref t3, .null, .int 0])), (nw, .inr (3, [.int 0, .int 0, .ref nw_slopes, .ref nw_wets, .ref nw_limits, .ref nw_platforms, .ref nw_kinds, .ref nw_trains, .ref nw_coaches])), (nw_slopes, .inr (6, [.int 8, .int 2, .ref nw_slopes_c, .int 0])), (nw_wets, .inr (6, [.int 6, .int 3, .ref nw_wets_c, .int 0])), (nw_limits, .inr (6, [.int 6, .int 2, .ref nw_limits_c, .int 0])), (nw_kinds, .inr (6, [.int 4, .int 5, .ref nw_kinds_c, .int 0])), (t0, .inl (G.2 0, 401, .inl (fun _ => 0))), (t1, .inl (G.2 0, 401, .inl (fun _ => 0))), (t2, .inl (G.2 0, 401, .inl (fun _ => 0)))] s.heap.size = A at hD ⊢
  have hA : ∀ q : Nat, s.heap.size ≤ q → A q := fun q h => by rw [← hAe]; exact Or.inr h
  have hS : va_S A s.heap s.heap [] := va_S.rf
  have hl := lv_entry ([.ref tk, .ref nw, .int 0]) (n := 4) (Nat.le_of_ble_eq_true rfl)
  rw [lg_entry_eq]
  generalize (lg_sl ([.ref tk, .ref nw, .int 0]) ++ List.replicate (4 - (lg_sl ([.ref tk, .ref nw, .int 0])).length) Slot.unset).toArray = ls at hl ⊢
  have hl : lv_has ls 4 [(0, .ref tk), (1, .ref nw), (2, .int 0)] := hl
  refine lv_aload_n hx hb dX9_lay_0 rfl (lv_at hl 0 rfl) ?_
  refine lv_aload_n hx hb dX9_lay_1 rfl (lv_at hl 1 rfl) ?_
  refine va_put (D := G.1) (ci := 9) (v := .ref nw) (ty := (.object "SlipCoach$Line")) (C := RX9) (T := TX9) (N := 6) hx hb hw inGX9 tyX9 tyX9_ok nmX9 hown hK hP hD hS 0 rfl rfl 4 (by decide) (hw _ nk_2) (fun _ h9 => h9) rfl (by decide +kernel) rfl rfl (Nat.le_of_ble_eq_true rfl) dX9_lay_2 (fun H locs hP hD hS => ?_)
  have hP : va_P G.1 vwCl [(tk, .inr (9, [.ref t0, .ref t1, .ref t2, .ref t3, .ref nw, .int 0])), (nw, .inr (3, [.int 0, .int 0, .ref nw_slopes, .ref nw_wets, .ref nw_limits, .ref nw_platforms, .ref nw_kinds, .ref nw_trains, .ref nw_coaches])), (nw_slopes, .inr (6, [.int 8, .int 2, .ref nw_slopes_c, .int 0])), (nw_wets, .inr (6, [.int 6, .int 3, .ref nw_wets_c, .int 0])), (nw_limits, .inr (6, [.int 6, .int 2, .ref nw_limits_c, .int 0])), (nw_kinds, .inr (6, [.int 4, .int 5, .ref nw_kinds_c, .int 0])), (t0, .inl (G.2 0, 401, .inl (fun _ => 0))), (t1, .inl (G.2 0, 401, .inl (fun _ => 0))), (t2, .inl (G.2 0, 401, .inl (fun _ => 0)))] H := hP
  have hD : va_D A [(tk, .inr (9, [.ref t0, .ref t1, .ref t2, .ref t3, .ref nw, .int 0])), (nw, .inr (3, [.int 0, .int 0, .ref nw_slopes, .ref nw_wets, .ref nw_limits, .ref nw_platforms, .ref nw_kinds, .ref nw_trains, .ref nw_coaches])), (nw_slopes, .inr (6, [.int 8, .int 2, .ref nw_slopes_c, .int 0])), (nw_wets, .inr (6, [.int 6, .int 3, .ref nw_wets_c, .int 0])), (nw_limits, .inr (6, [.int 6, .int 2, .ref nw_limits_c, .int 0])), (nw_kinds, .inr (6, [.int 4, .int 5, .ref nw_kinds_c, .int 0])), (t0, .inl (G.2 0, 401, .inl (fun _ => 0))), (t1, .inl (G.2 0, 401, .inl (fun _ => 0))), (t2, .inl (G.2 0, 401, .inl (fun _ => 0)))] := hD
  refine lv_iconst (v := 0) hx hb dX9_lay_5 (by decide) ?_
  refine lv_istore_n (lv' := [(3, .int 0), (0, .ref tk), (1, .ref nw), (2, .int 0)]) hx hb dX9_lay_6 rfl hl (by decide) rfl (fun ls hl => ?_)
  refine lv_iload_n hx hb dX9_lay_7 rfl (lv_at hl 0 rfl) ?_
  refine lv_aload_n hx hb dX9_lay_8 rfl (lv_at hl 2 rfl) ?_
  refine va_get (D := G.1) (ci := 3) (v := .int 0) (C := RX3) (T := TX3) (N := 9) hx hb hw inGX3 hown hK hP 1 rfl rfl 0 (by decide) (hw _ nk_5) (fun _ h9 => h9) rfl dX9_lay_9 ?_
  refine lv_icmp_gt (tgt := 75) hx hb dX9_lay_12 (by decide) (fun c1 => absurd c1 (by decide)) (fun c1 => ?_)
  refine lv_iload_n hx hb dX9_lay_15 rfl (lv_at hl 0 rfl) ?_
  refine lv_sipush (v := 401) hx hb dX9_lay_16 (by decide) ?_
  refine lv_icmp_ge (tgt := 75) hx hb dX9_lay_19 (by decide) (fun c2 => absurd c2 (by decide)) (fun c2 => ?_)
  refine lv_aload_n hx hb dX9_lay_22 rfl (lv_at hl 1 rfl) ?_
  refine va_get (D := G.1) (ci := 9) (v := .ref t0) (C := RX9) (T := TX9) (N := 6) hx hb hw inGX9 hown hK hP 0 rfl rfl 0 (by decide) (hw _ nk_6) (fun _ h9 => h9) rfl dX9_lay_23 ?_
  refine lv_iload_n hx hb dX9_lay_26 rfl (lv_at hl 0 rfl) ?_
  refine lv_aload_n hx hb dX9_lay_27 rfl (lv_at hl 2 rfl) ?_
  refine va_get (D := G.1) (ci := 3) (v := .ref nw_slopes) (C := RX3) (T := TX3) (N := 9) hx hb hw inGX3 hown hK hP 1 rfl rfl 2 (by decide) (hw _ nk_7) (fun _ h9 => h9) rfl dX9_lay_28 ?_
  refine lv_iconst (v := 1) hx hb dX9_lay_31 (by decide) ?_
  refine lv_iload_n hx hb dX9_lay_32 rfl (lv_at hl 0 rfl) ?_
  refine lv_iconst (v := 0) hx hb dX9_lay_33 (by decide) ?_
  refine vp_callSi (va_Run.run (va_runS (As := [.ref nw_slopes, .int 1, .int 0, .int 0]) (rest := [.int 0, .ref t0]) ⟨hx, hb, hml, hown, hw⟩ (c_lastTold0 l G nw_slopes 8 2 nw_slopes_c 1 0 0) (va_cwS 4 hw (gdT nk_9 nk_10 nk_11 nk_8) rfl rfl rfl hdX9_lastTold ⟨(Nat.le_of_ble_eq_true rfl), (Nat.le_of_ble_eq_true rfl)⟩) (mpreS_S (wc := [(nw_slopes, .inr (6, [.int 8, .int 2, .ref nw_slopes_c, .int 0]))]) hKG hP [2] rfl) rfl rfl hl.1 rfl (lv_room (Nat.le_of_ble_eq_true rfl)) dX9_lay_34 ⟨(Nat.le_of_ble_eq_true rfl), (Nat.le_of_ble_eq_true rfl)⟩)) (fun r3 hr3 => ?_)
  subst hr3
  refine va_iast hx hb hK hP hD hS 6 0 rfl rfl (vp_in_iff.mpr (by decide)) dX9_lay_37 (fun H locs hP hD hS => ?_)
  have hP : va_P G.1 vwCl [(tk, .inr (9, [.ref t0, .ref t1, .ref t2, .ref t3, .ref nw, .int 0])), (nw, .inr (3, [.int 0, .int 0, .ref nw_slopes, .ref nw_wets, .ref nw_limits, .ref nw_platforms, .ref nw_kinds, .ref nw_trains, .ref nw_coaches])), (nw_slopes, .inr (6, [.int 8, .int 2, .ref nw_slopes_c, .int 0])), (nw_wets, .inr (6, [.int 6, .int 3, .ref nw_wets_c, .int 0])), (nw_limits, .inr (6, [.int 6, .int 2, .ref nw_limits_c, .int 0])), (nw_kinds, .inr (6, [.int 4, .int 5, .ref nw_kinds_c, .int 0])), (t0, .inl (G.2 0, 401, .inl (upd (fun _ => 0) (0 : Int32).toNatClampNeg 0))), (t1, .inl (G.2 0, 401, .inl (fun _ => 0))), (t2, .inl (G.2 0, 401, .inl (fun _ => 0)))] H := hP
  have hD : va_D A [(tk, .inr (9, [.ref t0, .ref t1, .ref t2, .ref t3, .ref nw, .int 0])), (nw, .inr (3, [.int 0, .int 0, .ref nw_slopes, .ref nw_wets, .ref nw_limits, .ref nw_platforms, .ref nw_kinds, .ref nw_trains, .ref nw_coaches])), (nw_slopes, .inr (6, [.int 8, .int 2, .ref nw_slopes_c, .int 0])), (nw_wets, .inr (6, [.int 6, .int 3, .ref nw_wets_c, .int 0])), (nw_limits, .inr (6, [.int 6, .int 2, .ref nw_limits_c, .int 0])), (nw_kinds, .inr (6, [.int 4, .int 5, .ref nw_kinds_c, .int 0])), (t0, .inl (G.2 0, 401, .inl (upd (fun _ => 0) (0 : Int32).toNatClampNeg 0))), (t1, .inl (G.2 0, 401, .inl (fun _ => 0))), (t2, .inl (G.2 0, 401, .inl (fun _ => 0)))] := hD
  rw [up_zero] at hP hD
  refine lv_aload_n hx hb dX9_lay_38 rfl (lv_at hl 1 rfl) ?_
  refine va_get (D := G.1) (ci := 9) (v := .ref t1) (C := RX9) (T := TX9) (N := 6) hx hb hw inGX9 hown hK hP 0 rfl rfl 1 (by decide) (hw _ nk_12) (fun _ h9 => h9) rfl dX9_lay_39 ?_
  refine lv_iload_n hx hb dX9_lay_42 rfl (lv_at hl 0 rfl) ?_
  refine lv_aload_n hx hb dX9_lay_43 rfl (lv_at hl 2 rfl) ?_
  refine va_get (D := G.1) (ci := 3) (v := .ref nw_wets) (C := RX3) (T := TX3) (N := 9) hx hb hw inGX3 hown hK hP 1 rfl rfl 3 (by decide) (hw _ nk_13) (fun _ h9 => h9) rfl dX9_lay_44 ?_
  refine lv_iload_n hx hb dX9_lay_47 rfl (lv_at hl 0 rfl) ?_
  refine vp_callSi (va_Run.run (va_runS (As := [.ref nw_wets, .int 0]) (rest := [.int 0, .ref t1]) ⟨hx, hb, hml, hown, hw⟩ (c_wettest0 l G nw_wets 6 3 nw_wets_c 0) (va_cwS 2 hw (gdT nk_15 nk_16 nk_11 nk_14) rfl rfl rfl hdX9_wettest ⟨(Nat.le_of_ble_eq_true rfl), (Nat.le_of_ble_eq_true rfl)⟩) (mpreS_S (wc := [(nw_wets, .inr (6, [.int 6, .int 3, .ref nw_wets_c, .int 0]))]) hKG hP [3] rfl) rfl rfl hl.1 rfl (lv_room (Nat.le_of_ble_eq_true rfl)) dX9_lay_48 ⟨(Nat.le_of_ble_eq_true rfl), (Nat.le_of_ble_eq_true rfl)⟩)) (fun r4 hr4 => ?_)
  subst hr4
  refine va_iast hx hb hK hP hD hS 7 0 rfl rfl (vp_in_iff.mpr (by decide)) dX9_lay_51 (fun H locs hP hD hS => ?_)
  have hP : va_P G.1 vwCl [(tk, .inr (9, [.ref t0, .ref t1, .ref t2, .ref t3, .ref nw, .int 0])), (nw, .inr (3, [.int 0, .int 0, .ref nw_slopes, .ref nw_wets, .ref nw_limits, .ref nw_platforms, .ref nw_kinds, .ref nw_trains, .ref nw_coaches])), (nw_slopes, .inr (6, [.int 8, .int 2, .ref nw_slopes_c, .int 0])), (nw_wets, .inr (6, [.int 6, .int 3, .ref nw_wets_c, .int 0])), (nw_limits, .inr (6, [.int 6, .int 2, .ref nw_limits_c, .int 0])), (nw_kinds, .inr (6, [.int 4, .int 5, .ref nw_kinds_c, .int 0])), (t0, .inl (G.2 0, 401, .inl (fun _ => 0))), (t1, .inl (G.2 0, 401, .inl (upd (fun _ => 0) (0 : Int32).toNatClampNeg 0))), (t2, .inl (G.2 0, 401, .inl (fun _ => 0)))] H := hP
  have hD : va_D A [(tk, .inr (9, [.ref t0, .ref t1, .ref t2, .ref t3, .ref nw, .int 0])), (nw, .inr (3, [.int 0, .int 0, .ref nw_slopes, .ref nw_wets, .ref nw_limits, .ref nw_platforms, .ref nw_kinds, .ref nw_trains, .ref nw_coaches])), (nw_slopes, .inr (6, [.int 8, .int 2, .ref nw_slopes_c, .int 0])), (nw_wets, .inr (6, [.int 6, .int 3, .ref nw_wets_c, .int 0])), (nw_limits, .inr (6, [.int 6, .int 2, .ref nw_limits_c, .int 0])), (nw_kinds, .inr (6, [.int 4, .int 5, .ref nw_kinds_c, .int 0])), (t0, .inl (G.2 0, 401, .inl (fun _ => 0))), (t1, .inl (G.2 0, 401, .inl (upd (fun _ => 0) (0 : Int32).toNatClampNeg 0))), (t2, .inl (G.2 0, 401, .inl (fun _ => 0)))] := hD
  rw [up_zero] at hP hD
  refine lv_aload_n hx hb dX9_lay_52 rfl (lv_at hl 1 rfl) ?_
  refine va_get (D := G.1) (ci := 9) (v := .ref t2) (C := RX9) (T := TX9) (N := 6) hx hb hw inGX9 hown hK hP 0 rfl rfl 2 (by decide) (hw _ nk_17) (fun _ h9 => h9) rfl dX9_lay_53 ?_
  refine lv_iload_n hx hb dX9_lay_56 rfl (lv_at hl 0 rfl) ?_
  refine lv_aload_n hx hb dX9_lay_57 rfl (lv_at hl 2 rfl) ?_
  refine va_get (D := G.1) (ci := 3) (v := .ref nw_limits) (C := RX3) (T := TX3) (N := 9) hx hb hw inGX3 hown hK hP 1 rfl rfl 4 (by decide) (hw _ nk_18) (fun _ h9 => h9) rfl dX9_lay_58 ?_
  refine lv_iconst (v := 1) hx hb dX9_lay_61 (by decide) ?_
  refine lv_iload_n hx hb dX9_lay_62 rfl (lv_at hl 0 rfl) ?_
  refine lv_bipush (v := 15) hx hb dX9_lay_63 (by decide) ?_
  refine vp_callSi (va_Run.run (va_runS (As := [.ref nw_limits, .int 1, .int 0, .int 15]) (rest := [.int 0, .ref t2]) ⟨hx, hb, hml, hown, hw⟩ (c_lastTold0 l G nw_limits 6 2 nw_limits_c 1 0 15) (va_cwS 4 hw (gdT nk_9 nk_10 nk_11 nk_8) rfl rfl rfl hdX9_lastTold ⟨(Nat.le_of_ble_eq_true rfl), (Nat.le_of_ble_eq_true rfl)⟩) (mpreS_S (wc := [(nw_limits, .inr (6, [.int 6, .int 2, .ref nw_limits_c, .int 0]))]) hKG hP [4] rfl) rfl rfl hl.1 rfl (lv_room (Nat.le_of_ble_eq_true rfl)) dX9_lay_65 ⟨(Nat.le_of_ble_eq_true rfl), (Nat.le_of_ble_eq_true rfl)⟩)) (fun r5 hr5 => ?_)
  subst hr5
  refine va_iast hx hb hK hP hD hS 8 0 rfl rfl (vp_in_iff.mpr (by decide)) dX9_lay_68 (fun H locs hP hD hS => ?_)
  have hP : va_P G.1 vwCl [(tk, .inr (9, [.ref t0, .ref t1, .ref t2, .ref t3, .ref nw, .int 0])), (nw, .inr (3, [.int 0, .int 0, .ref nw_slopes, .ref nw_wets, .ref nw_limits, .ref nw_platforms, .ref nw_kinds, .ref nw_trains, .ref nw_coaches])), (nw_slopes, .inr (6, [.int 8, .int 2, .ref nw_slopes_c, .int 0])), (nw_wets, .inr (6, [.int 6, .int 3, .ref nw_wets_c, .int 0])), (nw_limits, .inr (6, [.int 6, .int 2, .ref nw_limits_c, .int 0])), (nw_kinds, .inr (6, [.int 4, .int 5, .ref nw_kinds_c, .int 0])), (t0, .inl (G.2 0, 401, .inl (fun _ => 0))), (t1, .inl (G.2 0, 401, .inl (fun _ => 0))), (t2, .inl (G.2 0, 401, .inl (upd (fun _ => 0) (0 : Int32).toNatClampNeg 15)))] H := hP
  have hD : va_D A [(tk, .inr (9, [.ref t0, .ref t1, .ref t2, .ref t3, .ref nw, .int 0])), (nw, .inr (3, [.int 0, .int 0, .ref nw_slopes, .ref nw_wets, .ref nw_limits, .ref nw_platforms, .ref nw_kinds, .ref nw_trains, .ref nw_coaches])), (nw_slopes, .inr (6, [.int 8, .int 2, .ref nw_slopes_c, .int 0])), (nw_wets, .inr (6, [.int 6, .int 3, .ref nw_wets_c, .int 0])), (nw_limits, .inr (6, [.int 6, .int 2, .ref nw_limits_c, .int 0])), (nw_kinds, .inr (6, [.int 4, .int 5, .ref nw_kinds_c, .int 0])), (t0, .inl (G.2 0, 401, .inl (fun _ => 0))), (t1, .inl (G.2 0, 401, .inl (fun _ => 0))), (t2, .inl (G.2 0, 401, .inl (upd (fun _ => 0) (0 : Int32).toNatClampNeg 15)))] := hD
  refine lv_iinc (v := 1) (lv' := [(3, .int 1), (0, .ref tk), (1, .ref nw), (2, .int 0)]) hx hb dX9_lay_69 hl (k := 0) rfl (by decide) (by decide) rfl (fun ls hl => ?_)
  refine lv_goto (tgt := 7) hx hb dX9_lay_72 (by decide) ?_
  refine lv_iload_n hx hb dX9_lay_7 rfl (lv_at hl 0 rfl) ?_
  refine lv_aload_n hx hb dX9_lay_8 rfl (lv_at hl 2 rfl) ?_
  refine va_get (D := G.1) (ci := 3) (v := .int 0) (C := RX3) (T := TX3) (N := 9) hx hb hw inGX3 hown hK hP 1 rfl rfl 0 (by decide) (hw _ nk_5) (fun _ h9 => h9) rfl dX9_lay_9 ?_
  refine lv_icmp_gt (tgt := 75) hx hb dX9_lay_12 (by decide) (fun c6 => ?_) (fun c6 => absurd (by decide) c6)
  refine lv_aload_n hx hb dX9_lay_75 rfl (lv_at hl 1 rfl) ?_
  refine lv_iload_n hx hb dX9_lay_76 rfl (lv_at hl 3 rfl) ?_
  refine wq_callv (wr := [(nw_slopes, .inr (6, [.int 8, .int 2, .ref nw_slopes_c, .int 0])), (nw_wets, .inr (6, [.int 6, .int 3, .ref nw_wets_c, .int 0])), (nw_limits, .inr (6, [.int 6, .int 2, .ref nw_limits_c, .int 0])), (t0, .inl (G.2 0, 401, .inl (fun _ => 0))), (t1, .inl (G.2 0, 401, .inl (fun _ => 0))), (t2, .inl (G.2 0, 401, .inl (upd (fun _ => 0) (0 : Int32).toNatClampNeg 15)))]) (va_runV (As := [.int 0]) (rest := []) ⟨hx, hb, hml, hown, hw⟩ (c_soak0 l G tk t0 t1 t2 t3 nw nw_slopes nw_wets nw_limits nw_platforms nw_kinds nw_trains nw_coaches nw_kinds_c H.size) (cwV 1 hw (gdV nk_20 nk_21 nk_22 nk_11 nk_19) rfl rfl rfl ⟨rfl, hdX9_soak⟩ ⟨(Nat.le_of_ble_eq_true rfl), (Nat.le_of_ble_eq_true rfl)⟩) (mpreQ_V (wc := [(tk, .inr (9, [.ref t0, .ref t1, .ref t2, .ref t3, .ref nw, .int 0])), (nw, .inr (3, [.int 0, .int 0, .ref nw_slopes, .ref nw_wets, .ref nw_limits, .ref nw_platforms, .ref nw_kinds, .ref nw_trains, .ref nw_coaches])), (nw_kinds, .inr (6, [.int 4, .int 5, .ref nw_kinds_c, .int 0]))]) (ci := 9) hKG hP hD [0, 1, 5] (by decide +kernel) rfl rfl rfl) rfl rfl hl.1 rfl (lv_room (Nat.le_of_ble_eq_true rfl)) dX9_lay_77 ⟨(Nat.le_of_ble_eq_true rfl), (Nat.le_of_ble_eq_true rfl)⟩) hS hP hD hA [0, 1, 5] [2, 3, 4, 6, 7, 8] rfl rfl (by decide +kernel) (by decide +kernel) (fun u8 H locs hr7 hP hD hS => ?_)
  have hP : va_P G.1 vwCl [(nw_slopes, .inr (6, [.int 8, .int 2, .ref nw_slopes_c, .int 0])), (nw_wets, .inr (6, [.int 6, .int 3, .ref nw_wets_c, .int 0])), (nw_limits, .inr (6, [.int 6, .int 2, .ref nw_limits_c, .int 0])), (t0, .inl (G.2 0, 401, .inl (fun _ => 0))), (t1, .inl (G.2 0, 401, .inl (fun _ => 0))), (t2, .inl (G.2 0, 401, .inl (upd (fun _ => 0) (0 : Int32).toNatClampNeg 15))), (tk, .inr (9, [.ref t0, .ref t1, .ref t2, .ref t3, .ref nw, .int 0])), (nw, .inr (3, [.int 0, .int 0, .ref nw_slopes, .ref nw_wets, .ref nw_limits, .ref nw_platforms, .ref nw_kinds, .ref nw_trains, .ref nw_coaches])), (nw_kinds, .inr (6, [.int 4, .int 5, .ref nw_kinds_c, .int 0]))] H := hP
  have hD : va_D A [(nw_slopes, .inr (6, [.int 8, .int 2, .ref nw_slopes_c, .int 0])), (nw_wets, .inr (6, [.int 6, .int 3, .ref nw_wets_c, .int 0])), (nw_limits, .inr (6, [.int 6, .int 2, .ref nw_limits_c, .int 0])), (t0, .inl (G.2 0, 401, .inl (fun _ => 0))), (t1, .inl (G.2 0, 401, .inl (fun _ => 0))), (t2, .inl (G.2 0, 401, .inl (upd (fun _ => 0) (0 : Int32).toNatClampNeg 15))), (tk, .inr (9, [.ref t0, .ref t1, .ref t2, .ref t3, .ref nw, .int 0])), (nw, .inr (3, [.int 0, .int 0, .ref nw_slopes, .ref nw_wets, .ref nw_limits, .ref nw_platforms, .ref nw_kinds, .ref nw_trains, .ref nw_coaches])), (nw_kinds, .inr (6, [.int 4, .int 5, .ref nw_kinds_c, .int 0]))] := hD
  refine W.widen (k := 0) (n := 0) (Nat.le_of_ble_eq_true rfl) (Nat.le_of_ble_eq_true rfl) ?_
  exact W.vret hx hb hr (fun t ht hW => ⟨⟨(), rfl, trivial, ⟨by rw [ht]; exact hP.sub [6, 7, 0, 1, 2, 8, 3, 4, 5] rfl, hD.sub [6, 7, 0, 1, 2, 8, 3, 4, 5] (by decide +kernel) rfl⟩⟩, hS.F ht⟩) hS.2.2 dX9_lay_80
set_option maxHeartbeats 4000000 in
set_option maxRecDepth 100000 in
theorem c_newSheet_4_5 (l : Launch) (G : KG) (h0 : Nat) (sz : Nat) : Met l yX6_init wgX6_init ({ frames := 1, cells := 1, slots := 20, locals := 20 }) (mpreQ G [.ref h0, .int 4, .int 5] sz [(h0, .inr (6, [.int 0, .int 0, .null, .int 0]))]) (va_Qv (fun (u : Nat) => True) (fun u t => atQ G (va_A [(h0, .inr (6, [.int 0, .int 0, .null, .int 0]))] sz) [(h0, .inr (6, [.int 4, .int 5, .ref u, .int 0])), (u, .inl (G.2 0, 20, .inl (fun _ => 0)))] t) (va_A [(h0, .inr (6, [.int 0, .int 0, .null, .int 0]))] sz)) 1 20 (va_A [(h0, .inr (6, [.int 0, .int 0, .null, .int 0]))] sz) := by
  refine Met.ofW (cc := cX6_init) (maxL := 3) (ret := none) (by decide) rfl ?_
  intro p e s m args below meth c s₁ B hml hv
  obtain ⟨rfl, hsz, hP, hKG, hD0⟩ := hv
  obtain ⟨hK, hAO⟩ := id hKG
  have hx := B.exec
  have hb := B.bytes
  have hr := B.returns
  have hts := atoms_spec (ws := wgX6_init) B.pre
  have hw : ∀ w ∈ wG, w.before _ s = true := fun w h => hts w (List.mem_cons_of_mem _ h)
  have hown : s.vm.findClass RX6 = some m.cls := findClass_of_methodNamed B.named
  have hlocks := B.notSynchronized
  have hin : meth.name = "<init>" := (name_of_methodNamed B.named B.method).1
  subst hsz
  have hD := hD0.self (sz := s.heap.size)
  generalize hAe : va_A [(h0, .inr (6, [.int 0, .int 0, .null, .int 0]))] s.heap.size = A at hD ⊢
  have hA : ∀ q : Nat, s.heap.size ≤ q → A q := fun q h => by rw [← hAe]; exact Or.inr h
  have hS : va_S A s.heap s.heap [] := va_S.rf
  have hl := lv_entry ([.ref h0, .int 4, .int 5]) (n := 3) (Nat.le_of_ble_eq_true rfl)
  rw [lg_entry_eq]
  generalize (lg_sl ([.ref h0, .int 4, .int 5]) ++ List.replicate (3 - (lg_sl ([.ref h0, .int 4, .int 5])).length) Slot.unset).toArray = ls at hl ⊢
  have hl : lv_has ls 3 [(0, .ref h0), (1, .int 4), (2, .int 5)] := hl
  refine lv_aload_n hx hb dX6_init_0 rfl (lv_at hl 0 rfl) ?_
  refine W.objInit hx hb hown (hw _ nk_23) (hw _ nk_24) (hw _ nk_25) rfl (by rw [hml]; exact hl.1) rfl dX6_init_1 (Nat.le_of_ble_eq_true rfl) (Nat.le_of_ble_eq_true rfl) ?_
  refine W.eq (g2 := F0 m 4 ls []) rfl ?_
  refine lv_aload_n hx hb dX6_init_4 rfl (lv_at hl 0 rfl) ?_
  refine lv_iconst (v := 0) hx hb dX6_init_5 (by decide) ?_
  refine va_put (D := G.1) (ci := 6) (v := .int 0) (ty := .int) (C := RX6) (T := TX6) (N := 4) hx hb hw inGX6 tyX6 tyX6_ok nmX6 hown hK hP hD hS 0 rfl rfl 3 (by decide) (hw _ nk_26) (fun _ h9 => h9) rfl (by decide +kernel) rfl rfl (Nat.le_of_ble_eq_true rfl) dX6_init_6 (fun H locs hP hD hS => ?_)
  have hP : va_P G.1 vwCl [(h0, .inr (6, [.int 0, .int 0, .null, .int 0]))] H := hP
  have hD : va_D A [(h0, .inr (6, [.int 0, .int 0, .null, .int 0]))] := hD
  refine lv_aload_n hx hb dX6_init_9 rfl (lv_at hl 0 rfl) ?_
  refine lv_iload_n hx hb dX6_init_10 rfl (lv_at hl 1 rfl) ?_
  refine va_putF (D := G.1) (ci := 6) (v := .int 4) (ty := .int) (C := RX6) (T := TX6) (N := 4) hx hb hw inGX6 tyX6 tyX6_ok nmX6 hown hK hP hD hS 0 rfl rfl 0 (by decide) (hw _ nk_27) (fun _ h9 => h9) rfl hin rfl (by decide +kernel) rfl rfl (Nat.le_of_ble_eq_true rfl) dX6_init_11 (fun H locs hP hD hS => ?_)
  have hP : va_P G.1 vwCl [(h0, .inr (6, [.int 4, .int 0, .null, .int 0]))] H := hP
  have hD : va_D A [(h0, .inr (6, [.int 4, .int 0, .null, .int 0]))] := hD
  refine lv_aload_n hx hb dX6_init_14 rfl (lv_at hl 0 rfl) ?_
  refine lv_iload_n hx hb dX6_init_15 rfl (lv_at hl 2 rfl) ?_
  refine va_putF (D := G.1) (ci := 6) (v := .int 5) (ty := .int) (C := RX6) (T := TX6) (N := 4) hx hb hw inGX6 tyX6 tyX6_ok nmX6 hown hK hP hD hS 0 rfl rfl 1 (by decide) (hw _ nk_28) (fun _ h9 => h9) rfl hin rfl (by decide +kernel) rfl rfl (Nat.le_of_ble_eq_true rfl) dX6_init_16 (fun H locs hP hD hS => ?_)
  have hP : va_P G.1 vwCl [(h0, .inr (6, [.int 4, .int 5, .null, .int 0]))] H := hP
  have hD : va_D A [(h0, .inr (6, [.int 4, .int 5, .null, .int 0]))] := hD
  refine lv_aload_n hx hb dX6_init_19 rfl (lv_at hl 0 rfl) ?_
  refine lv_iload_n hx hb dX6_init_20 rfl (lv_at hl 1 rfl) ?_
  refine lv_iload_n hx hb dX6_init_21 rfl (lv_at hl 2 rfl) ?_
  refine lv_imul hx hb dX6_init_22 ?_
  refine lv_cst (y := 20) (by decide) ?_
  refine wn_newa (atype := .int) (ty := .int) (n := 20) (N' := 20) (a0 := (20, .inl (fun _ => 0))) hx hb (hw _ nk_29) rfl hK 0 rfl hP hD hS hA (fun _ => rfl) (by decide) (by decide) (by decide) (Nat.le_of_ble_eq_true rfl) (Nat.le_of_ble_eq_true rfl) dX6_init_23 (fun q1 H hP hD hS => ?_)
  have hP : va_P G.1 vwCl [(h0, .inr (6, [.int 4, .int 5, .null, .int 0])), (q1, .inl (G.2 0, 20, .inl (fun _ => 0)))] H := hP
  have hD : va_D A [(h0, .inr (6, [.int 4, .int 5, .null, .int 0])), (q1, .inl (G.2 0, 20, .inl (fun _ => 0)))] := hD
  refine W.widen (k := 1) (n := 20) (Nat.le_of_ble_eq_true rfl) (Nat.le_of_ble_eq_true rfl) ?_
  refine va_putF (D := G.1) (ci := 6) (v := .ref q1) (ty := (.array .int)) (C := RX6) (T := TX6) (N := 4) hx hb hw inGX6 tyX6 tyX6_ok nmX6 hown hK hP hD hS 0 rfl rfl 2 (by decide) (hw _ nk_30) (fun _ h9 => h9) rfl hin rfl (by decide +kernel) rfl rfl (Nat.le_of_ble_eq_true rfl) dX6_init_25 (fun H locs hP hD hS => ?_)
  have hP : va_P G.1 vwCl [(h0, .inr (6, [.int 4, .int 5, .ref q1, .int 0])), (q1, .inl (G.2 0, 20, .inl (fun _ => 0)))] H := hP
  have hD : va_D A [(h0, .inr (6, [.int 4, .int 5, .ref q1, .int 0])), (q1, .inl (G.2 0, 20, .inl (fun _ => 0)))] := hD
  refine W.widen (k := 1) (n := 20) (Nat.le_of_ble_eq_true rfl) (Nat.le_of_ble_eq_true rfl) ?_
  exact W.vret hx hb hr (fun t ht hW => ⟨⟨q1, rfl, trivial, ⟨by rw [ht]; exact hP.sub [0, 1] rfl, hD.sub [0, 1] (by decide +kernel) rfl⟩⟩, hS.F ht⟩) hS.2.2 dX6_init_28
set_option maxHeartbeats 4000000 in
set_option maxRecDepth 100000 in
theorem c_newSheet_5_3 (l : Launch) (G : KG) (h0 : Nat) (sz : Nat) : Met l yX6_init wgX6_init ({ frames := 1, cells := 1, slots := 15, locals := 20 }) (mpreQ G [.ref h0, .int 5, .int 3] sz [(h0, .inr (6, [.int 0, .int 0, .null, .int 0]))]) (va_Qv (fun (u : Nat) => True) (fun u t => atQ G (va_A [(h0, .inr (6, [.int 0, .int 0, .null, .int 0]))] sz) [(h0, .inr (6, [.int 5, .int 3, .ref u, .int 0])), (u, .inl (G.2 0, 15, .inl (fun _ => 0)))] t) (va_A [(h0, .inr (6, [.int 0, .int 0, .null, .int 0]))] sz)) 1 15 (va_A [(h0, .inr (6, [.int 0, .int 0, .null, .int 0]))] sz) := by
  refine Met.ofW (cc := cX6_init) (maxL := 3) (ret := none) (by decide) rfl ?_
  intro p e s m args below meth c s₁ B hml hv
  obtain ⟨rfl, hsz, hP, hKG, hD0⟩ := hv
  obtain ⟨hK, hAO⟩ := id hKG
  have hx := B.exec
  have hb := B.bytes
  have hr := B.returns
  have hts := atoms_spec (ws := wgX6_init) B.pre
  have hw : ∀ w ∈ wG, w.before _ s = true := fun w h => hts w (List.mem_cons_of_mem _ h)
  have hown : s.vm.findClass RX6 = some m.cls := findClass_of_methodNamed B.named
  have hlocks := B.notSynchronized
  have hin : meth.name = "<init>" := (name_of_methodNamed B.named B.method).1
  subst hsz
  have hD := hD0.self (sz := s.heap.size)
  generalize hAe : va_A [(h0, .inr (6, [.int 0, .int 0, .null, .int 0]))] s.heap.size = A at hD ⊢
  have hA : ∀ q : Nat, s.heap.size ≤ q → A q := fun q h => by rw [← hAe]; exact Or.inr h
  have hS : va_S A s.heap s.heap [] := va_S.rf
  have hl := lv_entry ([.ref h0, .int 5, .int 3]) (n := 3) (Nat.le_of_ble_eq_true rfl)
  rw [lg_entry_eq]
  generalize (lg_sl ([.ref h0, .int 5, .int 3]) ++ List.replicate (3 - (lg_sl ([.ref h0, .int 5, .int 3])).length) Slot.unset).toArray = ls at hl ⊢
  have hl : lv_has ls 3 [(0, .ref h0), (1, .int 5), (2, .int 3)] := hl
  refine lv_aload_n hx hb dX6_init_0 rfl (lv_at hl 0 rfl) ?_
  refine W.objInit hx hb hown (hw _ nk_23) (hw _ nk_24) (hw _ nk_25) rfl (by rw [hml]; exact hl.1) rfl dX6_init_1 (Nat.le_of_ble_eq_true rfl) (Nat.le_of_ble_eq_true rfl) ?_
  refine W.eq (g2 := F0 m 4 ls []) rfl ?_
  refine lv_aload_n hx hb dX6_init_4 rfl (lv_at hl 0 rfl) ?_
  refine lv_iconst (v := 0) hx hb dX6_init_5 (by decide) ?_
  refine va_put (D := G.1) (ci := 6) (v := .int 0) (ty := .int) (C := RX6) (T := TX6) (N := 4) hx hb hw inGX6 tyX6 tyX6_ok nmX6 hown hK hP hD hS 0 rfl rfl 3 (by decide) (hw _ nk_26) (fun _ h9 => h9) rfl (by decide +kernel) rfl rfl (Nat.le_of_ble_eq_true rfl) dX6_init_6 (fun H locs hP hD hS => ?_)
  have hP : va_P G.1 vwCl [(h0, .inr (6, [.int 0, .int 0, .null, .int 0]))] H := hP
  have hD : va_D A [(h0, .inr (6, [.int 0, .int 0, .null, .int 0]))] := hD
  refine lv_aload_n hx hb dX6_init_9 rfl (lv_at hl 0 rfl) ?_
  refine lv_iload_n hx hb dX6_init_10 rfl (lv_at hl 1 rfl) ?_
  refine va_putF (D := G.1) (ci := 6) (v := .int 5) (ty := .int) (C := RX6) (T := TX6) (N := 4) hx hb hw inGX6 tyX6 tyX6_ok nmX6 hown hK hP hD hS 0 rfl rfl 0 (by decide) (hw _ nk_27) (fun _ h9 => h9) rfl hin rfl (by decide +kernel) rfl rfl (Nat.le_of_ble_eq_true rfl) dX6_init_11 (fun H locs hP hD hS => ?_)
  have hP : va_P G.1 vwCl [(h0, .inr (6, [.int 5, .int 0, .null, .int 0]))] H := hP
  have hD : va_D A [(h0, .inr (6, [.int 5, .int 0, .null, .int 0]))] := hD
  refine lv_aload_n hx hb dX6_init_14 rfl (lv_at hl 0 rfl) ?_
  refine lv_iload_n hx hb dX6_init_15 rfl (lv_at hl 2 rfl) ?_
  refine va_putF (D := G.1) (ci := 6) (v := .int 3) (ty := .int) (C := RX6) (T := TX6) (N := 4) hx hb hw inGX6 tyX6 tyX6_ok nmX6 hown hK hP hD hS 0 rfl rfl 1 (by decide) (hw _ nk_28) (fun _ h9 => h9) rfl hin rfl (by decide +kernel) rfl rfl (Nat.le_of_ble_eq_true rfl) dX6_init_16 (fun H locs hP hD hS => ?_)
  have hP : va_P G.1 vwCl [(h0, .inr (6, [.int 5, .int 3, .null, .int 0]))] H := hP
  have hD : va_D A [(h0, .inr (6, [.int 5, .int 3, .null, .int 0]))] := hD
  refine lv_aload_n hx hb dX6_init_19 rfl (lv_at hl 0 rfl) ?_
  refine lv_iload_n hx hb dX6_init_20 rfl (lv_at hl 1 rfl) ?_
  refine lv_iload_n hx hb dX6_init_21 rfl (lv_at hl 2 rfl) ?_
  refine lv_imul hx hb dX6_init_22 ?_
  refine lv_cst (y := 15) (by decide) ?_
  refine wn_newa (atype := .int) (ty := .int) (n := 15) (N' := 15) (a0 := (15, .inl (fun _ => 0))) hx hb (hw _ nk_29) rfl hK 0 rfl hP hD hS hA (fun _ => rfl) (by decide) (by decide) (by decide) (Nat.le_of_ble_eq_true rfl) (Nat.le_of_ble_eq_true rfl) dX6_init_23 (fun q1 H hP hD hS => ?_)
  have hP : va_P G.1 vwCl [(h0, .inr (6, [.int 5, .int 3, .null, .int 0])), (q1, .inl (G.2 0, 15, .inl (fun _ => 0)))] H := hP
  have hD : va_D A [(h0, .inr (6, [.int 5, .int 3, .null, .int 0])), (q1, .inl (G.2 0, 15, .inl (fun _ => 0)))] := hD
  refine W.widen (k := 1) (n := 15) (Nat.le_of_ble_eq_true rfl) (Nat.le_of_ble_eq_true rfl) ?_
  refine va_putF (D := G.1) (ci := 6) (v := .ref q1) (ty := (.array .int)) (C := RX6) (T := TX6) (N := 4) hx hb hw inGX6 tyX6 tyX6_ok nmX6 hown hK hP hD hS 0 rfl rfl 2 (by decide) (hw _ nk_30) (fun _ h9 => h9) rfl hin rfl (by decide +kernel) rfl rfl (Nat.le_of_ble_eq_true rfl) dX6_init_25 (fun H locs hP hD hS => ?_)
  have hP : va_P G.1 vwCl [(h0, .inr (6, [.int 5, .int 3, .ref q1, .int 0])), (q1, .inl (G.2 0, 15, .inl (fun _ => 0)))] H := hP
  have hD : va_D A [(h0, .inr (6, [.int 5, .int 3, .ref q1, .int 0])), (q1, .inl (G.2 0, 15, .inl (fun _ => 0)))] := hD
  refine W.widen (k := 1) (n := 15) (Nat.le_of_ble_eq_true rfl) (Nat.le_of_ble_eq_true rfl) ?_
  exact W.vret hx hb hr (fun t ht hW => ⟨⟨q1, rfl, trivial, ⟨by rw [ht]; exact hP.sub [0, 1] rfl, hD.sub [0, 1] (by decide +kernel) rfl⟩⟩, hS.F ht⟩) hS.2.2 dX6_init_28
set_option maxHeartbeats 4000000 in
set_option maxRecDepth 100000 in
theorem c_newSheet_6_2 (l : Launch) (G : KG) (h0 : Nat) (sz : Nat) : Met l yX6_init wgX6_init ({ frames := 1, cells := 1, slots := 12, locals := 20 }) (mpreQ G [.ref h0, .int 6, .int 2] sz [(h0, .inr (6, [.int 0, .int 0, .null, .int 0]))]) (va_Qv (fun (u : Nat) => True) (fun u t => atQ G (va_A [(h0, .inr (6, [.int 0, .int 0, .null, .int 0]))] sz) [(h0, .inr (6, [.int 6, .int 2, .ref u, .int 0])), (u, .inl (G.2 0, 12, .inl (fun _ => 0)))] t) (va_A [(h0, .inr (6, [.int 0, .int 0, .null, .int 0]))] sz)) 1 12 (va_A [(h0, .inr (6, [.int 0, .int 0, .null, .int 0]))] sz) := by
  refine Met.ofW (cc := cX6_init) (maxL := 3) (ret := none) (by decide) rfl ?_
  intro p e s m args below meth c s₁ B hml hv
  obtain ⟨rfl, hsz, hP, hKG, hD0⟩ := hv
  obtain ⟨hK, hAO⟩ := id hKG
  have hx := B.exec
  have hb := B.bytes
  have hr := B.returns
  have hts := atoms_spec (ws := wgX6_init) B.pre
  have hw : ∀ w ∈ wG, w.before _ s = true := fun w h => hts w (List.mem_cons_of_mem _ h)
  have hown : s.vm.findClass RX6 = some m.cls := findClass_of_methodNamed B.named
  have hlocks := B.notSynchronized
  have hin : meth.name = "<init>" := (name_of_methodNamed B.named B.method).1
  subst hsz
  have hD := hD0.self (sz := s.heap.size)
  generalize hAe : va_A [(h0, .inr (6, [.int 0, .int 0, .null, .int 0]))] s.heap.size = A at hD ⊢
  have hA : ∀ q : Nat, s.heap.size ≤ q → A q := fun q h => by rw [← hAe]; exact Or.inr h
  have hS : va_S A s.heap s.heap [] := va_S.rf
  have hl := lv_entry ([.ref h0, .int 6, .int 2]) (n := 3) (Nat.le_of_ble_eq_true rfl)
  rw [lg_entry_eq]
  generalize (lg_sl ([.ref h0, .int 6, .int 2]) ++ List.replicate (3 - (lg_sl ([.ref h0, .int 6, .int 2])).length) Slot.unset).toArray = ls at hl ⊢
  have hl : lv_has ls 3 [(0, .ref h0), (1, .int 6), (2, .int 2)] := hl
  refine lv_aload_n hx hb dX6_init_0 rfl (lv_at hl 0 rfl) ?_
  refine W.objInit hx hb hown (hw _ nk_23) (hw _ nk_24) (hw _ nk_25) rfl (by rw [hml]; exact hl.1) rfl dX6_init_1 (Nat.le_of_ble_eq_true rfl) (Nat.le_of_ble_eq_true rfl) ?_
  refine W.eq (g2 := F0 m 4 ls []) rfl ?_
  refine lv_aload_n hx hb dX6_init_4 rfl (lv_at hl 0 rfl) ?_
  refine lv_iconst (v := 0) hx hb dX6_init_5 (by decide) ?_
  refine va_put (D := G.1) (ci := 6) (v := .int 0) (ty := .int) (C := RX6) (T := TX6) (N := 4) hx hb hw inGX6 tyX6 tyX6_ok nmX6 hown hK hP hD hS 0 rfl rfl 3 (by decide) (hw _ nk_26) (fun _ h9 => h9) rfl (by decide +kernel) rfl rfl (Nat.le_of_ble_eq_true rfl) dX6_init_6 (fun H locs hP hD hS => ?_)
  have hP : va_P G.1 vwCl [(h0, .inr (6, [.int 0, .int 0, .null, .int 0]))] H := hP
  have hD : va_D A [(h0, .inr (6, [.int 0, .int 0, .null, .int 0]))] := hD
  refine lv_aload_n hx hb dX6_init_9 rfl (lv_at hl 0 rfl) ?_
  refine lv_iload_n hx hb dX6_init_10 rfl (lv_at hl 1 rfl) ?_
  refine va_putF (D := G.1) (ci := 6) (v := .int 6) (ty := .int) (C := RX6) (T := TX6) (N := 4) hx hb hw inGX6 tyX6 tyX6_ok nmX6 hown hK hP hD hS 0 rfl rfl 0 (by decide) (hw _ nk_27) (fun _ h9 => h9) rfl hin rfl (by decide +kernel) rfl rfl (Nat.le_of_ble_eq_true rfl) dX6_init_11 (fun H locs hP hD hS => ?_)
  have hP : va_P G.1 vwCl [(h0, .inr (6, [.int 6, .int 0, .null, .int 0]))] H := hP
  have hD : va_D A [(h0, .inr (6, [.int 6, .int 0, .null, .int 0]))] := hD
  refine lv_aload_n hx hb dX6_init_14 rfl (lv_at hl 0 rfl) ?_
  refine lv_iload_n hx hb dX6_init_15 rfl (lv_at hl 2 rfl) ?_
  refine va_putF (D := G.1) (ci := 6) (v := .int 2) (ty := .int) (C := RX6) (T := TX6) (N := 4) hx hb hw inGX6 tyX6 tyX6_ok nmX6 hown hK hP hD hS 0 rfl rfl 1 (by decide) (hw _ nk_28) (fun _ h9 => h9) rfl hin rfl (by decide +kernel) rfl rfl (Nat.le_of_ble_eq_true rfl) dX6_init_16 (fun H locs hP hD hS => ?_)
  have hP : va_P G.1 vwCl [(h0, .inr (6, [.int 6, .int 2, .null, .int 0]))] H := hP
  have hD : va_D A [(h0, .inr (6, [.int 6, .int 2, .null, .int 0]))] := hD
  refine lv_aload_n hx hb dX6_init_19 rfl (lv_at hl 0 rfl) ?_
  refine lv_iload_n hx hb dX6_init_20 rfl (lv_at hl 1 rfl) ?_
  refine lv_iload_n hx hb dX6_init_21 rfl (lv_at hl 2 rfl) ?_
  refine lv_imul hx hb dX6_init_22 ?_
  refine lv_cst (y := 12) (by decide) ?_
  refine wn_newa (atype := .int) (ty := .int) (n := 12) (N' := 12) (a0 := (12, .inl (fun _ => 0))) hx hb (hw _ nk_29) rfl hK 0 rfl hP hD hS hA (fun _ => rfl) (by decide) (by decide) (by decide) (Nat.le_of_ble_eq_true rfl) (Nat.le_of_ble_eq_true rfl) dX6_init_23 (fun q1 H hP hD hS => ?_)
  have hP : va_P G.1 vwCl [(h0, .inr (6, [.int 6, .int 2, .null, .int 0])), (q1, .inl (G.2 0, 12, .inl (fun _ => 0)))] H := hP
  have hD : va_D A [(h0, .inr (6, [.int 6, .int 2, .null, .int 0])), (q1, .inl (G.2 0, 12, .inl (fun _ => 0)))] := hD
  refine W.widen (k := 1) (n := 12) (Nat.le_of_ble_eq_true rfl) (Nat.le_of_ble_eq_true rfl) ?_
  refine va_putF (D := G.1) (ci := 6) (v := .ref q1) (ty := (.array .int)) (C := RX6) (T := TX6) (N := 4) hx hb hw inGX6 tyX6 tyX6_ok nmX6 hown hK hP hD hS 0 rfl rfl 2 (by decide) (hw _ nk_30) (fun _ h9 => h9) rfl hin rfl (by decide +kernel) rfl rfl (Nat.le_of_ble_eq_true rfl) dX6_init_25 (fun H locs hP hD hS => ?_)
  have hP : va_P G.1 vwCl [(h0, .inr (6, [.int 6, .int 2, .ref q1, .int 0])), (q1, .inl (G.2 0, 12, .inl (fun _ => 0)))] H := hP
  have hD : va_D A [(h0, .inr (6, [.int 6, .int 2, .ref q1, .int 0])), (q1, .inl (G.2 0, 12, .inl (fun _ => 0)))] := hD
  refine W.widen (k := 1) (n := 12) (Nat.le_of_ble_eq_true rfl) (Nat.le_of_ble_eq_true rfl) ?_
  exact W.vret hx hb hr (fun t ht hW => ⟨⟨q1, rfl, trivial, ⟨by rw [ht]; exact hP.sub [0, 1] rfl, hD.sub [0, 1] (by decide +kernel) rfl⟩⟩, hS.F ht⟩) hS.2.2 dX6_init_28
set_option maxHeartbeats 4000000 in
set_option maxRecDepth 100000 in
theorem c_newSheet_6_3 (l : Launch) (G : KG) (h0 : Nat) (sz : Nat) : Met l yX6_init wgX6_init ({ frames := 1, cells := 1, slots := 18, locals := 20 }) (mpreQ G [.ref h0, .int 6, .int 3] sz [(h0, .inr (6, [.int 0, .int 0, .null, .int 0]))]) (va_Qv (fun (u : Nat) => True) (fun u t => atQ G (va_A [(h0, .inr (6, [.int 0, .int 0, .null, .int 0]))] sz) [(h0, .inr (6, [.int 6, .int 3, .ref u, .int 0])), (u, .inl (G.2 0, 18, .inl (fun _ => 0)))] t) (va_A [(h0, .inr (6, [.int 0, .int 0, .null, .int 0]))] sz)) 1 18 (va_A [(h0, .inr (6, [.int 0, .int 0, .null, .int 0]))] sz) := by
  refine Met.ofW (cc := cX6_init) (maxL := 3) (ret := none) (by decide) rfl ?_
  intro p e s m args below meth c s₁ B hml hv
  obtain ⟨rfl, hsz, hP, hKG, hD0⟩ := hv
  obtain ⟨hK, hAO⟩ := id hKG
  have hx := B.exec
  have hb := B.bytes
  have hr := B.returns
  have hts := atoms_spec (ws := wgX6_init) B.pre
  have hw : ∀ w ∈ wG, w.before _ s = true := fun w h => hts w (List.mem_cons_of_mem _ h)
  have hown : s.vm.findClass RX6 = some m.cls := findClass_of_methodNamed B.named
  have hlocks := B.notSynchronized
  have hin : meth.name = "<init>" := (name_of_methodNamed B.named B.method).1
  subst hsz
  have hD := hD0.self (sz := s.heap.size)
  generalize hAe : va_A [(h0, .inr (6, [.int 0, .int 0, .null, .int 0]))] s.heap.size = A at hD ⊢
  have hA : ∀ q : Nat, s.heap.size ≤ q → A q := fun q h => by rw [← hAe]; exact Or.inr h
  have hS : va_S A s.heap s.heap [] := va_S.rf
  have hl := lv_entry ([.ref h0, .int 6, .int 3]) (n := 3) (Nat.le_of_ble_eq_true rfl)
  rw [lg_entry_eq]
  generalize (lg_sl ([.ref h0, .int 6, .int 3]) ++ List.replicate (3 - (lg_sl ([.ref h0, .int 6, .int 3])).length) Slot.unset).toArray = ls at hl ⊢
  have hl : lv_has ls 3 [(0, .ref h0), (1, .int 6), (2, .int 3)] := hl
  refine lv_aload_n hx hb dX6_init_0 rfl (lv_at hl 0 rfl) ?_
  refine W.objInit hx hb hown (hw _ nk_23) (hw _ nk_24) (hw _ nk_25) rfl (by rw [hml]; exact hl.1) rfl dX6_init_1 (Nat.le_of_ble_eq_true rfl) (Nat.le_of_ble_eq_true rfl) ?_
  refine W.eq (g2 := F0 m 4 ls []) rfl ?_
  refine lv_aload_n hx hb dX6_init_4 rfl (lv_at hl 0 rfl) ?_
  refine lv_iconst (v := 0) hx hb dX6_init_5 (by decide) ?_
  refine va_put (D := G.1) (ci := 6) (v := .int 0) (ty := .int) (C := RX6) (T := TX6) (N := 4) hx hb hw inGX6 tyX6 tyX6_ok nmX6 hown hK hP hD hS 0 rfl rfl 3 (by decide) (hw _ nk_26) (fun _ h9 => h9) rfl (by decide +kernel) rfl rfl (Nat.le_of_ble_eq_true rfl) dX6_init_6 (fun H locs hP hD hS => ?_)
  have hP : va_P G.1 vwCl [(h0, .inr (6, [.int 0, .int 0, .null, .int 0]))] H := hP
  have hD : va_D A [(h0, .inr (6, [.int 0, .int 0, .null, .int 0]))] := hD
  refine lv_aload_n hx hb dX6_init_9 rfl (lv_at hl 0 rfl) ?_
  refine lv_iload_n hx hb dX6_init_10 rfl (lv_at hl 1 rfl) ?_
  refine va_putF (D := G.1) (ci := 6) (v := .int 6) (ty := .int) (C := RX6) (T := TX6) (N := 4) hx hb hw inGX6 tyX6 tyX6_ok nmX6 hown hK hP hD hS 0 rfl rfl 0 (by decide) (hw _ nk_27) (fun _ h9 => h9) rfl hin rfl (by decide +kernel) rfl rfl (Nat.le_of_ble_eq_true rfl) dX6_init_11 (fun H locs hP hD hS => ?_)
  have hP : va_P G.1 vwCl [(h0, .inr (6, [.int 6, .int 0, .null, .int 0]))] H := hP
  have hD : va_D A [(h0, .inr (6, [.int 6, .int 0, .null, .int 0]))] := hD
  refine lv_aload_n hx hb dX6_init_14 rfl (lv_at hl 0 rfl) ?_
  refine lv_iload_n hx hb dX6_init_15 rfl (lv_at hl 2 rfl) ?_
  refine va_putF (D := G.1) (ci := 6) (v := .int 3) (ty := .int) (C := RX6) (T := TX6) (N := 4) hx hb hw inGX6 tyX6 tyX6_ok nmX6 hown hK hP hD hS 0 rfl rfl 1 (by decide) (hw _ nk_28) (fun _ h9 => h9) rfl hin rfl (by decide +kernel) rfl rfl (Nat.le_of_ble_eq_true rfl) dX6_init_16 (fun H locs hP hD hS => ?_)
  have hP : va_P G.1 vwCl [(h0, .inr (6, [.int 6, .int 3, .null, .int 0]))] H := hP
  have hD : va_D A [(h0, .inr (6, [.int 6, .int 3, .null, .int 0]))] := hD
  refine lv_aload_n hx hb dX6_init_19 rfl (lv_at hl 0 rfl) ?_
  refine lv_iload_n hx hb dX6_init_20 rfl (lv_at hl 1 rfl) ?_
  refine lv_iload_n hx hb dX6_init_21 rfl (lv_at hl 2 rfl) ?_
  refine lv_imul hx hb dX6_init_22 ?_
  refine lv_cst (y := 18) (by decide) ?_
  refine wn_newa (atype := .int) (ty := .int) (n := 18) (N' := 18) (a0 := (18, .inl (fun _ => 0))) hx hb (hw _ nk_29) rfl hK 0 rfl hP hD hS hA (fun _ => rfl) (by decide) (by decide) (by decide) (Nat.le_of_ble_eq_true rfl) (Nat.le_of_ble_eq_true rfl) dX6_init_23 (fun q1 H hP hD hS => ?_)
  have hP : va_P G.1 vwCl [(h0, .inr (6, [.int 6, .int 3, .null, .int 0])), (q1, .inl (G.2 0, 18, .inl (fun _ => 0)))] H := hP
  have hD : va_D A [(h0, .inr (6, [.int 6, .int 3, .null, .int 0])), (q1, .inl (G.2 0, 18, .inl (fun _ => 0)))] := hD
  refine W.widen (k := 1) (n := 18) (Nat.le_of_ble_eq_true rfl) (Nat.le_of_ble_eq_true rfl) ?_
  refine va_putF (D := G.1) (ci := 6) (v := .ref q1) (ty := (.array .int)) (C := RX6) (T := TX6) (N := 4) hx hb hw inGX6 tyX6 tyX6_ok nmX6 hown hK hP hD hS 0 rfl rfl 2 (by decide) (hw _ nk_30) (fun _ h9 => h9) rfl hin rfl (by decide +kernel) rfl rfl (Nat.le_of_ble_eq_true rfl) dX6_init_25 (fun H locs hP hD hS => ?_)
  have hP : va_P G.1 vwCl [(h0, .inr (6, [.int 6, .int 3, .ref q1, .int 0])), (q1, .inl (G.2 0, 18, .inl (fun _ => 0)))] H := hP
  have hD : va_D A [(h0, .inr (6, [.int 6, .int 3, .ref q1, .int 0])), (q1, .inl (G.2 0, 18, .inl (fun _ => 0)))] := hD
  refine W.widen (k := 1) (n := 18) (Nat.le_of_ble_eq_true rfl) (Nat.le_of_ble_eq_true rfl) ?_
  exact W.vret hx hb hr (fun t ht hW => ⟨⟨q1, rfl, trivial, ⟨by rw [ht]; exact hP.sub [0, 1] rfl, hD.sub [0, 1] (by decide +kernel) rfl⟩⟩, hS.F ht⟩) hS.2.2 dX6_init_28
set_option maxHeartbeats 4000000 in
set_option maxRecDepth 100000 in
theorem c_newSheet_8_2 (l : Launch) (G : KG) (h0 : Nat) (sz : Nat) : Met l yX6_init wgX6_init ({ frames := 1, cells := 1, slots := 16, locals := 20 }) (mpreQ G [.ref h0, .int 8, .int 2] sz [(h0, .inr (6, [.int 0, .int 0, .null, .int 0]))]) (va_Qv (fun (u : Nat) => True) (fun u t => atQ G (va_A [(h0, .inr (6, [.int 0, .int 0, .null, .int 0]))] sz) [(h0, .inr (6, [.int 8, .int 2, .ref u, .int 0])), (u, .inl (G.2 0, 16, .inl (fun _ => 0)))] t) (va_A [(h0, .inr (6, [.int 0, .int 0, .null, .int 0]))] sz)) 1 16 (va_A [(h0, .inr (6, [.int 0, .int 0, .null, .int 0]))] sz) := by
  refine Met.ofW (cc := cX6_init) (maxL := 3) (ret := none) (by decide) rfl ?_
  intro p e s m args below meth c s₁ B hml hv
  obtain ⟨rfl, hsz, hP, hKG, hD0⟩ := hv
  obtain ⟨hK, hAO⟩ := id hKG
  have hx := B.exec
  have hb := B.bytes
  have hr := B.returns
  have hts := atoms_spec (ws := wgX6_init) B.pre
  have hw : ∀ w ∈ wG, w.before _ s = true := fun w h => hts w (List.mem_cons_of_mem _ h)
  have hown : s.vm.findClass RX6 = some m.cls := findClass_of_methodNamed B.named
  have hlocks := B.notSynchronized
  have hin : meth.name = "<init>" := (name_of_methodNamed B.named B.method).1
  subst hsz
  have hD := hD0.self (sz := s.heap.size)
  generalize hAe : va_A [(h0, .inr (6, [.int 0, .int 0, .null, .int 0]))] s.heap.size = A at hD ⊢
  have hA : ∀ q : Nat, s.heap.size ≤ q → A q := fun q h => by rw [← hAe]; exact Or.inr h
  have hS : va_S A s.heap s.heap [] := va_S.rf
  have hl := lv_entry ([.ref h0, .int 8, .int 2]) (n := 3) (Nat.le_of_ble_eq_true rfl)
  rw [lg_entry_eq]
  generalize (lg_sl ([.ref h0, .int 8, .int 2]) ++ List.replicate (3 - (lg_sl ([.ref h0, .int 8, .int 2])).length) Slot.unset).toArray = ls at hl ⊢
  have hl : lv_has ls 3 [(0, .ref h0), (1, .int 8), (2, .int 2)] := hl
  refine lv_aload_n hx hb dX6_init_0 rfl (lv_at hl 0 rfl) ?_
  refine W.objInit hx hb hown (hw _ nk_23) (hw _ nk_24) (hw _ nk_25) rfl (by rw [hml]; exact hl.1) rfl dX6_init_1 (Nat.le_of_ble_eq_true rfl) (Nat.le_of_ble_eq_true rfl) ?_
  refine W.eq (g2 := F0 m 4 ls []) rfl ?_
  refine lv_aload_n hx hb dX6_init_4 rfl (lv_at hl 0 rfl) ?_
  refine lv_iconst (v := 0) hx hb dX6_init_5 (by decide) ?_
  refine va_put (D := G.1) (ci := 6) (v := .int 0) (ty := .int) (C := RX6) (T := TX6) (N := 4) hx hb hw inGX6 tyX6 tyX6_ok nmX6 hown hK hP hD hS 0 rfl rfl 3 (by decide) (hw _ nk_26) (fun _ h9 => h9) rfl (by decide +kernel) rfl rfl (Nat.le_of_ble_eq_true rfl) dX6_init_6 (fun H locs hP hD hS => ?_)
  have hP : va_P G.1 vwCl [(h0, .inr (6, [.int 0, .int 0, .null, .int 0]))] H := hP
  have hD : va_D A [(h0, .inr (6, [.int 0, .int 0, .null, .int 0]))] := hD
  refine lv_aload_n hx hb dX6_init_9 rfl (lv_at hl 0 rfl) ?_
  refine lv_iload_n hx hb dX6_init_10 rfl (lv_at hl 1 rfl) ?_
  refine va_putF (D := G.1) (ci := 6) (v := .int 8) (ty := .int) (C := RX6) (T := TX6) (N := 4) hx hb hw inGX6 tyX6 tyX6_ok nmX6 hown hK hP hD hS 0 rfl rfl 0 (by decide) (hw _ nk_27) (fun _ h9 => h9) rfl hin rfl (by decide +kernel) rfl rfl (Nat.le_of_ble_eq_true rfl) dX6_init_11 (fun H locs hP hD hS => ?_)
  have hP : va_P G.1 vwCl [(h0, .inr (6, [.int 8, .int 0, .null, .int 0]))] H := hP
  have hD : va_D A [(h0, .inr (6, [.int 8, .int 0, .null, .int 0]))] := hD
  refine lv_aload_n hx hb dX6_init_14 rfl (lv_at hl 0 rfl) ?_
  refine lv_iload_n hx hb dX6_init_15 rfl (lv_at hl 2 rfl) ?_
  refine va_putF (D := G.1) (ci := 6) (v := .int 2) (ty := .int) (C := RX6) (T := TX6) (N := 4) hx hb hw inGX6 tyX6 tyX6_ok nmX6 hown hK hP hD hS 0 rfl rfl 1 (by decide) (hw _ nk_28) (fun _ h9 => h9) rfl hin rfl (by decide +kernel) rfl rfl (Nat.le_of_ble_eq_true rfl) dX6_init_16 (fun H locs hP hD hS => ?_)
  have hP : va_P G.1 vwCl [(h0, .inr (6, [.int 8, .int 2, .null, .int 0]))] H := hP
  have hD : va_D A [(h0, .inr (6, [.int 8, .int 2, .null, .int 0]))] := hD
  refine lv_aload_n hx hb dX6_init_19 rfl (lv_at hl 0 rfl) ?_
  refine lv_iload_n hx hb dX6_init_20 rfl (lv_at hl 1 rfl) ?_
  refine lv_iload_n hx hb dX6_init_21 rfl (lv_at hl 2 rfl) ?_
  refine lv_imul hx hb dX6_init_22 ?_
  refine lv_cst (y := 16) (by decide) ?_
  refine wn_newa (atype := .int) (ty := .int) (n := 16) (N' := 16) (a0 := (16, .inl (fun _ => 0))) hx hb (hw _ nk_29) rfl hK 0 rfl hP hD hS hA (fun _ => rfl) (by decide) (by decide) (by decide) (Nat.le_of_ble_eq_true rfl) (Nat.le_of_ble_eq_true rfl) dX6_init_23 (fun q1 H hP hD hS => ?_)
  have hP : va_P G.1 vwCl [(h0, .inr (6, [.int 8, .int 2, .null, .int 0])), (q1, .inl (G.2 0, 16, .inl (fun _ => 0)))] H := hP
  have hD : va_D A [(h0, .inr (6, [.int 8, .int 2, .null, .int 0])), (q1, .inl (G.2 0, 16, .inl (fun _ => 0)))] := hD
  refine W.widen (k := 1) (n := 16) (Nat.le_of_ble_eq_true rfl) (Nat.le_of_ble_eq_true rfl) ?_
  refine va_putF (D := G.1) (ci := 6) (v := .ref q1) (ty := (.array .int)) (C := RX6) (T := TX6) (N := 4) hx hb hw inGX6 tyX6 tyX6_ok nmX6 hown hK hP hD hS 0 rfl rfl 2 (by decide) (hw _ nk_30) (fun _ h9 => h9) rfl hin rfl (by decide +kernel) rfl rfl (Nat.le_of_ble_eq_true rfl) dX6_init_25 (fun H locs hP hD hS => ?_)
  have hP : va_P G.1 vwCl [(h0, .inr (6, [.int 8, .int 2, .ref q1, .int 0])), (q1, .inl (G.2 0, 16, .inl (fun _ => 0)))] H := hP
  have hD : va_D A [(h0, .inr (6, [.int 8, .int 2, .ref q1, .int 0])), (q1, .inl (G.2 0, 16, .inl (fun _ => 0)))] := hD
  refine W.widen (k := 1) (n := 16) (Nat.le_of_ble_eq_true rfl) (Nat.le_of_ble_eq_true rfl) ?_
  exact W.vret hx hb hr (fun t ht hW => ⟨⟨q1, rfl, trivial, ⟨by rw [ht]; exact hP.sub [0, 1] rfl, hD.sub [0, 1] (by decide +kernel) rfl⟩⟩, hS.F ht⟩) hS.2.2 dX6_init_28
set_option maxHeartbeats 4000000 in
set_option maxRecDepth 100000 in
theorem c_newSheet_16_5 (l : Launch) (G : KG) (h0 : Nat) (sz : Nat) : Met l yX6_init wgX6_init ({ frames := 1, cells := 1, slots := 80, locals := 20 }) (mpreQ G [.ref h0, .int 16, .int 5] sz [(h0, .inr (6, [.int 0, .int 0, .null, .int 0]))]) (va_Qv (fun (u : Nat) => True) (fun u t => atQ G (va_A [(h0, .inr (6, [.int 0, .int 0, .null, .int 0]))] sz) [(h0, .inr (6, [.int 16, .int 5, .ref u, .int 0])), (u, .inl (G.2 0, 80, .inl (fun _ => 0)))] t) (va_A [(h0, .inr (6, [.int 0, .int 0, .null, .int 0]))] sz)) 1 80 (va_A [(h0, .inr (6, [.int 0, .int 0, .null, .int 0]))] sz) := by
  refine Met.ofW (cc := cX6_init) (maxL := 3) (ret := none) (by decide) rfl ?_
  intro p e s m args below meth c s₁ B hml hv
  obtain ⟨rfl, hsz, hP, hKG, hD0⟩ := hv
  obtain ⟨hK, hAO⟩ := id hKG
  have hx := B.exec
  have hb := B.bytes
  have hr := B.returns
  have hts := atoms_spec (ws := wgX6_init) B.pre
  have hw : ∀ w ∈ wG, w.before _ s = true := fun w h => hts w (List.mem_cons_of_mem _ h)
  have hown : s.vm.findClass RX6 = some m.cls := findClass_of_methodNamed B.named
  have hlocks := B.notSynchronized
  have hin : meth.name = "<init>" := (name_of_methodNamed B.named B.method).1
  subst hsz
  have hD := hD0.self (sz := s.heap.size)
  generalize hAe : va_A [(h0, .inr (6, [.int 0, .int 0, .null, .int 0]))] s.heap.size = A at hD ⊢
  have hA : ∀ q : Nat, s.heap.size ≤ q → A q := fun q h => by rw [← hAe]; exact Or.inr h
  have hS : va_S A s.heap s.heap [] := va_S.rf
  have hl := lv_entry ([.ref h0, .int 16, .int 5]) (n := 3) (Nat.le_of_ble_eq_true rfl)
  rw [lg_entry_eq]
  generalize (lg_sl ([.ref h0, .int 16, .int 5]) ++ List.replicate (3 - (lg_sl ([.ref h0, .int 16, .int 5])).length) Slot.unset).toArray = ls at hl ⊢
  have hl : lv_has ls 3 [(0, .ref h0), (1, .int 16), (2, .int 5)] := hl
  refine lv_aload_n hx hb dX6_init_0 rfl (lv_at hl 0 rfl) ?_
  refine W.objInit hx hb hown (hw _ nk_23) (hw _ nk_24) (hw _ nk_25) rfl (by rw [hml]; exact hl.1) rfl dX6_init_1 (Nat.le_of_ble_eq_true rfl) (Nat.le_of_ble_eq_true rfl) ?_
  refine W.eq (g2 := F0 m 4 ls []) rfl ?_
  refine lv_aload_n hx hb dX6_init_4 rfl (lv_at hl 0 rfl) ?_
  refine lv_iconst (v := 0) hx hb dX6_init_5 (by decide) ?_
  refine va_put (D := G.1) (ci := 6) (v := .int 0) (ty := .int) (C := RX6) (T := TX6) (N := 4) hx hb hw inGX6 tyX6 tyX6_ok nmX6 hown hK hP hD hS 0 rfl rfl 3 (by decide) (hw _ nk_26) (fun _ h9 => h9) rfl (by decide +kernel) rfl rfl (Nat.le_of_ble_eq_true rfl) dX6_init_6 (fun H locs hP hD hS => ?_)
  have hP : va_P G.1 vwCl [(h0, .inr (6, [.int 0, .int 0, .null, .int 0]))] H := hP
  have hD : va_D A [(h0, .inr (6, [.int 0, .int 0, .null, .int 0]))] := hD
  refine lv_aload_n hx hb dX6_init_9 rfl (lv_at hl 0 rfl) ?_
  refine lv_iload_n hx hb dX6_init_10 rfl (lv_at hl 1 rfl) ?_
  refine va_putF (D := G.1) (ci := 6) (v := .int 16) (ty := .int) (C := RX6) (T := TX6) (N := 4) hx hb hw inGX6 tyX6 tyX6_ok nmX6 hown hK hP hD hS 0 rfl rfl 0 (by decide) (hw _ nk_27) (fun _ h9 => h9) rfl hin rfl (by decide +kernel) rfl rfl (Nat.le_of_ble_eq_true rfl) dX6_init_11 (fun H locs hP hD hS => ?_)
  have hP : va_P G.1 vwCl [(h0, .inr (6, [.int 16, .int 0, .null, .int 0]))] H := hP
  have hD : va_D A [(h0, .inr (6, [.int 16, .int 0, .null, .int 0]))] := hD
  refine lv_aload_n hx hb dX6_init_14 rfl (lv_at hl 0 rfl) ?_
  refine lv_iload_n hx hb dX6_init_15 rfl (lv_at hl 2 rfl) ?_
  refine va_putF (D := G.1) (ci := 6) (v := .int 5) (ty := .int) (C := RX6) (T := TX6) (N := 4) hx hb hw inGX6 tyX6 tyX6_ok nmX6 hown hK hP hD hS 0 rfl rfl 1 (by decide) (hw _ nk_28) (fun _ h9 => h9) rfl hin rfl (by decide +kernel) rfl rfl (Nat.le_of_ble_eq_true rfl) dX6_init_16 (fun H locs hP hD hS => ?_)
  have hP : va_P G.1 vwCl [(h0, .inr (6, [.int 16, .int 5, .null, .int 0]))] H := hP
  have hD : va_D A [(h0, .inr (6, [.int 16, .int 5, .null, .int 0]))] := hD
  refine lv_aload_n hx hb dX6_init_19 rfl (lv_at hl 0 rfl) ?_
  refine lv_iload_n hx hb dX6_init_20 rfl (lv_at hl 1 rfl) ?_
  refine lv_iload_n hx hb dX6_init_21 rfl (lv_at hl 2 rfl) ?_
  refine lv_imul hx hb dX6_init_22 ?_
  refine lv_cst (y := 80) (by decide) ?_
  refine wn_newa (atype := .int) (ty := .int) (n := 80) (N' := 80) (a0 := (80, .inl (fun _ => 0))) hx hb (hw _ nk_29) rfl hK 0 rfl hP hD hS hA (fun _ => rfl) (by decide) (by decide) (by decide) (Nat.le_of_ble_eq_true rfl) (Nat.le_of_ble_eq_true rfl) dX6_init_23 (fun q1 H hP hD hS => ?_)
  have hP : va_P G.1 vwCl [(h0, .inr (6, [.int 16, .int 5, .null, .int 0])), (q1, .inl (G.2 0, 80, .inl (fun _ => 0)))] H := hP
  have hD : va_D A [(h0, .inr (6, [.int 16, .int 5, .null, .int 0])), (q1, .inl (G.2 0, 80, .inl (fun _ => 0)))] := hD
  refine W.widen (k := 1) (n := 80) (Nat.le_of_ble_eq_true rfl) (Nat.le_of_ble_eq_true rfl) ?_
  refine va_putF (D := G.1) (ci := 6) (v := .ref q1) (ty := (.array .int)) (C := RX6) (T := TX6) (N := 4) hx hb hw inGX6 tyX6 tyX6_ok nmX6 hown hK hP hD hS 0 rfl rfl 2 (by decide) (hw _ nk_30) (fun _ h9 => h9) rfl hin rfl (by decide +kernel) rfl rfl (Nat.le_of_ble_eq_true rfl) dX6_init_25 (fun H locs hP hD hS => ?_)
  have hP : va_P G.1 vwCl [(h0, .inr (6, [.int 16, .int 5, .ref q1, .int 0])), (q1, .inl (G.2 0, 80, .inl (fun _ => 0)))] H := hP
  have hD : va_D A [(h0, .inr (6, [.int 16, .int 5, .ref q1, .int 0])), (q1, .inl (G.2 0, 80, .inl (fun _ => 0)))] := hD
  refine W.widen (k := 1) (n := 80) (Nat.le_of_ble_eq_true rfl) (Nat.le_of_ble_eq_true rfl) ?_
  exact W.vret hx hb hr (fun t ht hW => ⟨⟨q1, rfl, trivial, ⟨by rw [ht]; exact hP.sub [0, 1] rfl, hD.sub [0, 1] (by decide +kernel) rfl⟩⟩, hS.F ht⟩) hS.2.2 dX6_init_28
set_option maxHeartbeats 4000000 in
set_option maxRecDepth 100000 in
theorem c_newLine (l : Launch) (G : KG) (ln : Nat) (sz : Nat) : Met l yX3_init wgX3_init ({ frames := 2, cells := 14, slots := 201, locals := 42 }) (mpreQ G [.ref ln] sz [(ln, .inr (3, [.int 0, .int 0, .null, .null, .null, .null, .null, .null, .null]))]) (va_Qv (fun (u : Nat × Nat × Nat × Nat × Nat × Nat × Nat × Nat × Nat × Nat × Nat × Nat × Nat × Nat) => True) (fun u t => atQ G (va_A [(ln, .inr (3, [.int 0, .int 0, .null, .null, .null, .null, .null, .null, .null]))] sz) [(ln, .inr (3, [.int 0, .int 0, .ref u.1, .ref u.2.1, .ref u.2.2.1, .ref u.2.2.2.1, .ref u.2.2.2.2.1, .ref u.2.2.2.2.2.1, .ref u.2.2.2.2.2.2.1])), (u.1, .inr (6, [.int 8, .int 2, .ref u.2.2.2.2.2.2.2.1, .int 0])), (u.2.1, .inr (6, [.int 6, .int 3, .ref u.2.2.2.2.2.2.2.2.1, .int 0])), (u.2.2.1, .inr (6, [.int 6, .int 2, .ref u.2.2.2.2.2.2.2.2.2.1, .int 0])), (u.2.2.2.1, .inr (6, [.int 6, .int 2, .ref u.2.2.2.2.2.2.2.2.2.2.1, .int 0])), (u.2.2.2.2.1, .inr (6, [.int 4, .int 5, .ref u.2.2.2.2.2.2.2.2.2.2.2.1, .int 0])), (u.2.2.2.2.2.1, .inr (6, [.int 5, .int 3, .ref u.2.2.2.2.2.2.2.2.2.2.2.2.1, .int 0])), (u.2.2.2.2.2.2.1, .inr (6, [.int 16, .int 5, .ref u.2.2.2.2.2.2.2.2.2.2.2.2.2, .int 0])), (u.2.2.2.2.2.2.2.1, .inl (G.2 0, 16, .inl (fun _ => 0))), (u.2.2.2.2.2.2.2.2.1, .inl (G.2 0, 18, .inl (fun _ => 0))), (u.2.2.2.2.2.2.2.2.2.1, .inl (G.2 0, 12, .inl (fun _ => 0))), (u.2.2.2.2.2.2.2.2.2.2.1, .inl (G.2 0, 12, .inl (fun _ => 0))), (u.2.2.2.2.2.2.2.2.2.2.2.1, .inl (G.2 0, 20, .inl (fun _ => 0))), (u.2.2.2.2.2.2.2.2.2.2.2.2.1, .inl (G.2 0, 15, .inl (fun _ => 0))), (u.2.2.2.2.2.2.2.2.2.2.2.2.2, .inl (G.2 0, 80, .inl (fun _ => 0)))] t) (va_A [(ln, .inr (3, [.int 0, .int 0, .null, .null, .null, .null, .null, .null, .null]))] sz)) 14 201 (va_A [(ln, .inr (3, [.int 0, .int 0, .null, .null, .null, .null, .null, .null, .null]))] sz) := by
  refine Met.ofW (cc := cX3_init) (maxL := 1) (ret := none) (by decide) rfl ?_
  intro p e s m args below meth c s₁ B hml hv
  obtain ⟨rfl, hsz, hP, hKG, hD0⟩ := hv
  obtain ⟨hK, hAO⟩ := id hKG
  have hx := B.exec
  have hb := B.bytes
  have hr := B.returns
  have hts := atoms_spec (ws := wgX3_init) B.pre
  have hw : ∀ w ∈ wG, w.before _ s = true := fun w h => hts w (List.mem_cons_of_mem _ h)
  have hown : s.vm.findClass RX3 = some m.cls := findClass_of_methodNamed B.named
  have hlocks := B.notSynchronized
  have hin : meth.name = "<init>" := (name_of_methodNamed B.named B.method).1
  subst hsz
  have hD := hD0.self (sz := s.heap.size)
  generalize hAe : va_A [(ln, .inr (3, [.int 0, .int 0, .null, .null, .null, .null, .null, .null, .null]))] s.heap.size = A at hD ⊢
  have hA : ∀ q : Nat, s.heap.size ≤ q → A q := fun q h => by rw [← hAe]; exact Or.inr h
  have hS : va_S A s.heap s.heap [] := va_S.rf
  have hl := lv_entry ([.ref ln]) (n := 1) (Nat.le_of_ble_eq_true rfl)
  rw [lg_entry_eq]
  generalize (lg_sl ([.ref ln]) ++ List.replicate (1 - (lg_sl ([.ref ln])).length) Slot.unset).toArray = ls at hl ⊢
  have hl : lv_has ls 1 [(0, .ref ln)] := hl
  refine lv_aload_n hx hb dX3_init_0 rfl (lv_at hl 0 rfl) ?_
  refine W.objInit hx hb hown (hw _ nk_31) (hw _ nk_24) (hw _ nk_25) rfl (by rw [hml]; exact hl.1) rfl dX3_init_1 (Nat.le_of_ble_eq_true rfl) (Nat.le_of_ble_eq_true rfl) ?_
  refine W.eq (g2 := F0 m 4 ls []) rfl ?_
  refine lv_aload_n hx hb dX3_init_4 rfl (lv_at hl 0 rfl) ?_
  refine lv_iconst (v := 0) hx hb dX3_init_5 (by decide) ?_
  refine va_put (D := G.1) (ci := 3) (v := .int 0) (ty := .int) (C := RX3) (T := TX3) (N := 9) hx hb hw inGX3 tyX3 tyX3_ok nmX3 hown hK hP hD hS 0 rfl rfl 0 (by decide) (hw _ nk_32) (fun _ h9 => h9) rfl (by decide +kernel) rfl rfl (Nat.le_of_ble_eq_true rfl) dX3_init_6 (fun H locs hP hD hS => ?_)
  have hP : va_P G.1 vwCl [(ln, .inr (3, [.int 0, .int 0, .null, .null, .null, .null, .null, .null, .null]))] H := hP
  have hD : va_D A [(ln, .inr (3, [.int 0, .int 0, .null, .null, .null, .null, .null, .null, .null]))] := hD
  refine lv_aload_n hx hb dX3_init_9 rfl (lv_at hl 0 rfl) ?_
  refine lv_iconst (v := 0) hx hb dX3_init_10 (by decide) ?_
  refine va_put (D := G.1) (ci := 3) (v := .int 0) (ty := .int) (C := RX3) (T := TX3) (N := 9) hx hb hw inGX3 tyX3 tyX3_ok nmX3 hown hK hP hD hS 0 rfl rfl 1 (by decide) (hw _ nk_33) (fun _ h9 => h9) rfl (by decide +kernel) rfl rfl (Nat.le_of_ble_eq_true rfl) dX3_init_11 (fun H locs hP hD hS => ?_)
  have hP : va_P G.1 vwCl [(ln, .inr (3, [.int 0, .int 0, .null, .null, .null, .null, .null, .null, .null]))] H := hP
  have hD : va_D A [(ln, .inr (3, [.int 0, .int 0, .null, .null, .null, .null, .null, .null, .null]))] := hD
  refine lv_aload_n hx hb dX3_init_14 rfl (lv_at hl 0 rfl) ?_
  refine va_new (ci := 6) (fs := [.int 0, .int 0, .null, .int 0]) (C := RX6) (T := TX6) (N := 4) hx hb hw inGX6 tyX6 tyX6_ok hown (hw _ nk_34) (hw _ nk_35) (hw _ nk_36) hK hP hD hS hA rfl dfX6 (Nat.le_of_ble_eq_true rfl) (Nat.le_of_ble_eq_true rfl) dX3_init_15 (fun q1 H hP hD hS => ?_)
  have hP : va_P G.1 vwCl [(ln, .inr (3, [.int 0, .int 0, .null, .null, .null, .null, .null, .null, .null])), (q1, .inr (6, [.int 0, .int 0, .null, .int 0]))] H := hP
  have hD : va_D A [(ln, .inr (3, [.int 0, .int 0, .null, .null, .null, .null, .null, .null, .null])), (q1, .inr (6, [.int 0, .int 0, .null, .int 0]))] := hD
  refine W.widen (k := 1) (n := 4) (Nat.le_of_ble_eq_true rfl) (Nat.le_of_ble_eq_true rfl) ?_
  refine lv_dup hx hb dX3_init_18 rfl ?_
  refine lv_bipush (v := 8) hx hb dX3_init_19 (by decide) ?_
  refine lv_iconst (v := 2) hx hb dX3_init_21 (by decide) ?_
  refine wq_callv (wr := [(ln, .inr (3, [.int 0, .int 0, .null, .null, .null, .null, .null, .null, .null]))]) (va_runI (As := [.int 8, .int 2]) (rest := [.ref q1, .ref ln]) ⟨hx, hb, hml, hown, hw⟩ (c_newSheet_8_2 l G q1 H.size) (cwI 2 hw (gdI nk_37) rfl rfl rfl (hw _ nk_36) (hw _ nk_38) (hw _ nk_39) rfl (by decide +kernel) ⟨(Nat.le_of_ble_eq_true rfl), (Nat.le_of_ble_eq_true rfl)⟩) (mpreQ_S (wc := [(q1, .inr (6, [.int 0, .int 0, .null, .int 0]))]) hKG hP hD [1] (by decide +kernel) rfl) rfl rfl hl.1 rfl (lv_room (Nat.le_of_ble_eq_true rfl)) dX3_init_22 ⟨(Nat.le_of_ble_eq_true rfl), (Nat.le_of_ble_eq_true rfl)⟩) hS hP hD hA [1] [0] rfl rfl (by decide +kernel) (by decide +kernel) (fun u4 H locs hr2 hP hD hS => ?_)
  obtain ⟨q_3, rfl⟩ : ∃ z, z = u4 := ⟨_, rfl⟩
  have hP : va_P G.1 vwCl [(ln, .inr (3, [.int 0, .int 0, .null, .null, .null, .null, .null, .null, .null])), (q1, .inr (6, [.int 8, .int 2, .ref q_3, .int 0])), (q_3, .inl (G.2 0, 16, .inl (fun _ => 0)))] H := hP
  have hD : va_D A [(ln, .inr (3, [.int 0, .int 0, .null, .null, .null, .null, .null, .null, .null])), (q1, .inr (6, [.int 8, .int 2, .ref q_3, .int 0])), (q_3, .inl (G.2 0, 16, .inl (fun _ => 0)))] := hD
  refine W.widen (k := 2) (n := 20) (Nat.le_of_ble_eq_true rfl) (Nat.le_of_ble_eq_true rfl) ?_
  refine va_putF (D := G.1) (ci := 3) (v := .ref q1) (ty := (.object "SlipCoach$Sheet")) (C := RX3) (T := TX3) (N := 9) hx hb hw inGX3 tyX3 tyX3_ok nmX3 hown hK hP hD hS 0 rfl rfl 2 (by decide) (hw _ nk_40) (fun _ h9 => h9) rfl hin rfl (by decide +kernel) rfl rfl (Nat.le_of_ble_eq_true rfl) dX3_init_25 (fun H locs hP hD hS => ?_)
  have hP : va_P G.1 vwCl [(ln, .inr (3, [.int 0, .int 0, .ref q1, .null, .null, .null, .null, .null, .null])), (q1, .inr (6, [.int 8, .int 2, .ref q_3, .int 0])), (q_3, .inl (G.2 0, 16, .inl (fun _ => 0)))] H := hP
  have hD : va_D A [(ln, .inr (3, [.int 0, .int 0, .ref q1, .null, .null, .null, .null, .null, .null])), (q1, .inr (6, [.int 8, .int 2, .ref q_3, .int 0])), (q_3, .inl (G.2 0, 16, .inl (fun _ => 0)))] := hD
  refine lv_aload_n hx hb dX3_init_28 rfl (lv_at hl 0 rfl) ?_
  refine va_new (ci := 6) (fs := [.int 0, .int 0, .null, .int 0]) (C := RX6) (T := TX6) (N := 4) hx hb hw inGX6 tyX6 tyX6_ok hown (hw _ nk_34) (hw _ nk_35) (hw _ nk_36) hK hP hD hS hA rfl dfX6 (Nat.le_of_ble_eq_true rfl) (Nat.le_of_ble_eq_true rfl) dX3_init_29 (fun q5 H hP hD hS => ?_)
  have hP : va_P G.1 vwCl [(ln, .inr (3, [.int 0, .int 0, .ref q1, .null, .null, .null, .null, .null, .null])), (q1, .inr (6, [.int 8, .int 2, .ref q_3, .int 0])), (q_3, .inl (G.2 0, 16, .inl (fun _ => 0))), (q5, .inr (6, [.int 0, .int 0, .null, .int 0]))] H := hP
  have hD : va_D A [(ln, .inr (3, [.int 0, .int 0, .ref q1, .null, .null, .null, .null, .null, .null])), (q1, .inr (6, [.int 8, .int 2, .ref q_3, .int 0])), (q_3, .inl (G.2 0, 16, .inl (fun _ => 0))), (q5, .inr (6, [.int 0, .int 0, .null, .int 0]))] := hD
  refine W.widen (k := 3) (n := 24) (Nat.le_of_ble_eq_true rfl) (Nat.le_of_ble_eq_true rfl) ?_
  refine lv_dup hx hb dX3_init_32 rfl ?_
  refine lv_bipush (v := 6) hx hb dX3_init_33 (by decide) ?_
  refine lv_iconst (v := 3) hx hb dX3_init_35 (by decide) ?_
  refine wq_callv (wr := [(ln, .inr (3, [.int 0, .int 0, .ref q1, .null, .null, .null, .null, .null, .null])), (q1, .inr (6, [.int 8, .int 2, .ref q_3, .int 0])), (q_3, .inl (G.2 0, 16, .inl (fun _ => 0)))]) (va_runI (As := [.int 6, .int 3]) (rest := [.ref q5, .ref ln]) ⟨hx, hb, hml, hown, hw⟩ (c_newSheet_6_3 l G q5 H.size) (cwI 2 hw (gdI nk_37) rfl rfl rfl (hw _ nk_36) (hw _ nk_38) (hw _ nk_39) rfl (by decide +kernel) ⟨(Nat.le_of_ble_eq_true rfl), (Nat.le_of_ble_eq_true rfl)⟩) (mpreQ_S (wc := [(q5, .inr (6, [.int 0, .int 0, .null, .int 0]))]) hKG hP hD [3] (by decide +kernel) rfl) rfl rfl hl.1 rfl (lv_room (Nat.le_of_ble_eq_true rfl)) dX3_init_36 ⟨(Nat.le_of_ble_eq_true rfl), (Nat.le_of_ble_eq_true rfl)⟩) hS hP hD hA [3] [0, 1, 2] rfl rfl (by decide +kernel) (by decide +kernel) (fun u8 H locs hr6 hP hD hS => ?_)
  obtain ⟨q_7, rfl⟩ : ∃ z, z = u8 := ⟨_, rfl⟩
  have hP : va_P G.1 vwCl [(ln, .inr (3, [.int 0, .int 0, .ref q1, .null, .null, .null, .null, .null, .null])), (q1, .inr (6, [.int 8, .int 2, .ref q_3, .int 0])), (q_3, .inl (G.2 0, 16, .inl (fun _ => 0))), (q5, .inr (6, [.int 6, .int 3, .ref q_7, .int 0])), (q_7, .inl (G.2 0, 18, .inl (fun _ => 0)))] H := hP
  have hD : va_D A [(ln, .inr (3, [.int 0, .int 0, .ref q1, .null, .null, .null, .null, .null, .null])), (q1, .inr (6, [.int 8, .int 2, .ref q_3, .int 0])), (q_3, .inl (G.2 0, 16, .inl (fun _ => 0))), (q5, .inr (6, [.int 6, .int 3, .ref q_7, .int 0])), (q_7, .inl (G.2 0, 18, .inl (fun _ => 0)))] := hD
  refine W.widen (k := 4) (n := 42) (Nat.le_of_ble_eq_true rfl) (Nat.le_of_ble_eq_true rfl) ?_
  refine va_putF (D := G.1) (ci := 3) (v := .ref q5) (ty := (.object "SlipCoach$Sheet")) (C := RX3) (T := TX3) (N := 9) hx hb hw inGX3 tyX3 tyX3_ok nmX3 hown hK hP hD hS 0 rfl rfl 3 (by decide) (hw _ nk_41) (fun _ h9 => h9) rfl hin rfl (by decide +kernel) rfl rfl (Nat.le_of_ble_eq_true rfl) dX3_init_39 (fun H locs hP hD hS => ?_)
  have hP : va_P G.1 vwCl [(ln, .inr (3, [.int 0, .int 0, .ref q1, .ref q5, .null, .null, .null, .null, .null])), (q1, .inr (6, [.int 8, .int 2, .ref q_3, .int 0])), (q_3, .inl (G.2 0, 16, .inl (fun _ => 0))), (q5, .inr (6, [.int 6, .int 3, .ref q_7, .int 0])), (q_7, .inl (G.2 0, 18, .inl (fun _ => 0)))] H := hP
  have hD : va_D A [(ln, .inr (3, [.int 0, .int 0, .ref q1, .ref q5, .null, .null, .null, .null, .null])), (q1, .inr (6, [.int 8, .int 2, .ref q_3, .int 0])), (q_3, .inl (G.2 0, 16, .inl (fun _ => 0))), (q5, .inr (6, [.int 6, .int 3, .ref q_7, .int 0])), (q_7, .inl (G.2 0, 18, .inl (fun _ => 0)))] := hD
  refine lv_aload_n hx hb dX3_init_42 rfl (lv_at hl 0 rfl) ?_
  refine va_new (ci := 6) (fs := [.int 0, .int 0, .null, .int 0]) (C := RX6) (T := TX6) (N := 4) hx hb hw inGX6 tyX6 tyX6_ok hown (hw _ nk_34) (hw _ nk_35) (hw _ nk_36) hK hP hD hS hA rfl dfX6 (Nat.le_of_ble_eq_true rfl) (Nat.le_of_ble_eq_true rfl) dX3_init_43 (fun q9 H hP hD hS => ?_)
  have hP : va_P G.1 vwCl [(ln, .inr (3, [.int 0, .int 0, .ref q1, .ref q5, .null, .null, .null, .null, .null])), (q1, .inr (6, [.int 8, .int 2, .ref q_3, .int 0])), (q_3, .inl (G.2 0, 16, .inl (fun _ => 0))), (q5, .inr (6, [.int 6, .int 3, .ref q_7, .int 0])), (q_7, .inl (G.2 0, 18, .inl (fun _ => 0))), (q9, .inr (6, [.int 0, .int 0, .null, .int 0]))] H := hP
  have hD : va_D A [(ln, .inr (3, [.int 0, .int 0, .ref q1, .ref q5, .null, .null, .null, .null, .null])), (q1, .inr (6, [.int 8, .int 2, .ref q_3, .int 0])), (q_3, .inl (G.2 0, 16, .inl (fun _ => 0))), (q5, .inr (6, [.int 6, .int 3, .ref q_7, .int 0])), (q_7, .inl (G.2 0, 18, .inl (fun _ => 0))), (q9, .inr (6, [.int 0, .int 0, .null, .int 0]))] := hD
  refine W.widen (k := 5) (n := 46) (Nat.le_of_ble_eq_true rfl) (Nat.le_of_ble_eq_true rfl) ?_
  refine lv_dup hx hb dX3_init_46 rfl ?_
  refine lv_bipush (v := 6) hx hb dX3_init_47 (by decide) ?_
  refine lv_iconst (v := 2) hx hb dX3_init_49 (by decide) ?_
  refine wq_callv (wr := [(ln, .inr (3, [.int 0, .int 0, .ref q1, .ref q5, .null, .null, .null, .null, .null])), (q1, .inr (6, [.int 8, .int 2, .ref q_3, .int 0])), (q_3, .inl (G.2 0, 16, .inl (fun _ => 0))), (q5, .inr (6, [.int 6, .int 3, .ref q_7, .int 0])), (q_7, .inl (G.2 0, 18, .inl (fun _ => 0)))]) (va_runI (As := [.int 6, .int 2]) (rest := [.ref q9, .ref ln]) ⟨hx, hb, hml, hown, hw⟩ (c_newSheet_6_2 l G q9 H.size) (cwI 2 hw (gdI nk_37) rfl rfl rfl (hw _ nk_36) (hw _ nk_38) (hw _ nk_39) rfl (by decide +kernel) ⟨(Nat.le_of_ble_eq_true rfl), (Nat.le_of_ble_eq_true rfl)⟩) (mpreQ_S (wc := [(q9, .inr (6, [.int 0, .int 0, .null, .int 0]))]) hKG hP hD [5] (by decide +kernel) rfl) rfl rfl hl.1 rfl (lv_room (Nat.le_of_ble_eq_true rfl)) dX3_init_50 ⟨(Nat.le_of_ble_eq_true rfl), (Nat.le_of_ble_eq_true rfl)⟩) hS hP hD hA [5] [0, 1, 2, 3, 4] rfl rfl (by decide +kernel) (by decide +kernel) (fun u12 H locs hr10 hP hD hS => ?_)
  obtain ⟨q_11, rfl⟩ : ∃ z, z = u12 := ⟨_, rfl⟩
  have hP : va_P G.1 vwCl [(ln, .inr (3, [.int 0, .int 0, .ref q1, .ref q5, .null, .null, .null, .null, .null])), (q1, .inr (6, [.int 8, .int 2, .ref q_3, .int 0])), (q_3, .inl (G.2 0, 16, .inl (fun _ => 0))), (q5, .inr (6, [.int 6, .int 3, .ref q_7, .int 0])), (q_7, .inl (G.2 0, 18, .inl (fun _ => 0))), (q9, .inr (6, [.int 6, .int 2, .ref q_11, .int 0])), (q_11, .inl (G.2 0, 12, .inl (fun _ => 0)))] H := hP
  have hD : va_D A [(ln, .inr (3, [.int 0, .int 0, .ref q1, .ref q5, .null, .null, .null, .null, .null])), (q1, .inr (6, [.int 8, .int 2, .ref q_3, .int 0])), (q_3, .inl (G.2 0, 16, .inl (fun _ => 0))), (q5, .inr (6, [.int 6, .int 3, .ref q_7, .int 0])), (q_7, .inl (G.2 0, 18, .inl (fun _ => 0))), (q9, .inr (6, [.int 6, .int 2, .ref q_11, .int 0])), (q_11, .inl (G.2 0, 12, .inl (fun _ => 0)))] := hD
  refine W.widen (k := 6) (n := 58) (Nat.le_of_ble_eq_true rfl) (Nat.le_of_ble_eq_true rfl) ?_
  refine va_putF (D := G.1) (ci := 3) (v := .ref q9) (ty := (.object "SlipCoach$Sheet")) (C := RX3) (T := TX3) (N := 9) hx hb hw inGX3 tyX3 tyX3_ok nmX3 hown hK hP hD hS 0 rfl rfl 4 (by decide) (hw _ nk_42) (fun _ h9 => h9) rfl hin rfl (by decide +kernel) rfl rfl (Nat.le_of_ble_eq_true rfl) dX3_init_53 (fun H locs hP hD hS => ?_)
  have hP : va_P G.1 vwCl [(ln, .inr (3, [.int 0, .int 0, .ref q1, .ref q5, .ref q9, .null, .null, .null, .null])), (q1, .inr (6, [.int 8, .int 2, .ref q_3, .int 0])), (q_3, .inl (G.2 0, 16, .inl (fun _ => 0))), (q5, .inr (6, [.int 6, .int 3, .ref q_7, .int 0])), (q_7, .inl (G.2 0, 18, .inl (fun _ => 0))), (q9, .inr (6, [.int 6, .int 2, .ref q_11, .int 0])), (q_11, .inl (G.2 0, 12, .inl (fun _ => 0)))] H := hP
  have hD : va_D A [(ln, .inr (3, [.int 0, .int 0, .ref q1, .ref q5, .ref q9, .null, .null, .null, .null])), (q1, .inr (6, [.int 8, .int 2, .ref q_3, .int 0])), (q_3, .inl (G.2 0, 16, .inl (fun _ => 0))), (q5, .inr (6, [.int 6, .int 3, .ref q_7, .int 0])), (q_7, .inl (G.2 0, 18, .inl (fun _ => 0))), (q9, .inr (6, [.int 6, .int 2, .ref q_11, .int 0])), (q_11, .inl (G.2 0, 12, .inl (fun _ => 0)))] := hD
  refine lv_aload_n hx hb dX3_init_56 rfl (lv_at hl 0 rfl) ?_
  refine va_new (ci := 6) (fs := [.int 0, .int 0, .null, .int 0]) (C := RX6) (T := TX6) (N := 4) hx hb hw inGX6 tyX6 tyX6_ok hown (hw _ nk_34) (hw _ nk_35) (hw _ nk_36) hK hP hD hS hA rfl dfX6 (Nat.le_of_ble_eq_true rfl) (Nat.le_of_ble_eq_true rfl) dX3_init_57 (fun q13 H hP hD hS => ?_)
  have hP : va_P G.1 vwCl [(ln, .inr (3, [.int 0, .int 0, .ref q1, .ref q5, .ref q9, .null, .null, .null, .null])), (q1, .inr (6, [.int 8, .int 2, .ref q_3, .int 0])), (q_3, .inl (G.2 0, 16, .inl (fun _ => 0))), (q5, .inr (6, [.int 6, .int 3, .ref q_7, .int 0])), (q_7, .inl (G.2 0, 18, .inl (fun _ => 0))), (q9, .inr (6, [.int 6, .int 2, .ref q_11, .int 0])), (q_11, .inl (G.2 0, 12, .inl (fun _ => 0))), (q13, .inr (6, [.int 0, .int 0, .null, .int 0]))] H := hP
  have hD : va_D A [(ln, .inr (3, [.int 0, .int 0, .ref q1, .ref q5, .ref q9, .null, .null, .null, .null])), (q1, .inr (6, [.int 8, .int 2, .ref q_3, .int 0])), (q_3, .inl (G.2 0, 16, .inl (fun _ => 0))), (q5, .inr (6, [.int 6, .int 3, .ref q_7, .int 0])), (q_7, .inl (G.2 0, 18, .inl (fun _ => 0))), (q9, .inr (6, [.int 6, .int 2, .ref q_11, .int 0])), (q_11, .inl (G.2 0, 12, .inl (fun _ => 0))), (q13, .inr (6, [.int 0, .int 0, .null, .int 0]))] := hD
  refine W.widen (k := 7) (n := 62) (Nat.le_of_ble_eq_true rfl) (Nat.le_of_ble_eq_true rfl) ?_
  refine lv_dup hx hb dX3_init_60 rfl ?_
  refine lv_bipush (v := 6) hx hb dX3_init_61 (by decide) ?_
  refine lv_iconst (v := 2) hx hb dX3_init_63 (by decide) ?_
  refine wq_callv (wr := [(ln, .inr (3, [.int 0, .int 0, .ref q1, .ref q5, .ref q9, .null, .null, .null, .null])), (q1, .inr (6, [.int 8, .int 2, .ref q_3, .int 0])), (q_3, .inl (G.2 0, 16, .inl (fun _ => 0))), (q5, .inr (6, [.int 6, .int 3, .ref q_7, .int 0])), (q_7, .inl (G.2 0, 18, .inl (fun _ => 0))), (q9, .inr (6, [.int 6, .int 2, .ref q_11, .int 0])), (q_11, .inl (G.2 0, 12, .inl (fun _ => 0)))]) (va_runI (As := [.int 6, .int 2]) (rest := [.ref q13, .ref ln]) ⟨hx, hb, hml, hown, hw⟩ (c_newSheet_6_2 l G q13 H.size) (cwI 2 hw (gdI nk_37) rfl rfl rfl (hw _ nk_36) (hw _ nk_38) (hw _ nk_39) rfl (by decide +kernel) ⟨(Nat.le_of_ble_eq_true rfl), (Nat.le_of_ble_eq_true rfl)⟩) (mpreQ_S (wc := [(q13, .inr (6, [.int 0, .int 0, .null, .int 0]))]) hKG hP hD [7] (by decide +kernel) rfl) rfl rfl hl.1 rfl (lv_room (Nat.le_of_ble_eq_true rfl)) dX3_init_64 ⟨(Nat.le_of_ble_eq_true rfl), (Nat.le_of_ble_eq_true rfl)⟩) hS hP hD hA [7] [0, 1, 2, 3, 4, 5, 6] rfl rfl (by decide +kernel) (by decide +kernel) (fun u16 H locs hr14 hP hD hS => ?_)
  obtain ⟨q_15, rfl⟩ : ∃ z, z = u16 := ⟨_, rfl⟩
  have hP : va_P G.1 vwCl [(ln, .inr (3, [.int 0, .int 0, .ref q1, .ref q5, .ref q9, .null, .null, .null, .null])), (q1, .inr (6, [.int 8, .int 2, .ref q_3, .int 0])), (q_3, .inl (G.2 0, 16, .inl (fun _ => 0))), (q5, .inr (6, [.int 6, .int 3, .ref q_7, .int 0])), (q_7, .inl (G.2 0, 18, .inl (fun _ => 0))), (q9, .inr (6, [.int 6, .int 2, .ref q_11, .int 0])), (q_11, .inl (G.2 0, 12, .inl (fun _ => 0))), (q13, .inr (6, [.int 6, .int 2, .ref q_15, .int 0])), (q_15, .inl (G.2 0, 12, .inl (fun _ => 0)))] H := hP
  have hD : va_D A [(ln, .inr (3, [.int 0, .int 0, .ref q1, .ref q5, .ref q9, .null, .null, .null, .null])), (q1, .inr (6, [.int 8, .int 2, .ref q_3, .int 0])), (q_3, .inl (G.2 0, 16, .inl (fun _ => 0))), (q5, .inr (6, [.int 6, .int 3, .ref q_7, .int 0])), (q_7, .inl (G.2 0, 18, .inl (fun _ => 0))), (q9, .inr (6, [.int 6, .int 2, .ref q_11, .int 0])), (q_11, .inl (G.2 0, 12, .inl (fun _ => 0))), (q13, .inr (6, [.int 6, .int 2, .ref q_15, .int 0])), (q_15, .inl (G.2 0, 12, .inl (fun _ => 0)))] := hD
  refine W.widen (k := 8) (n := 74) (Nat.le_of_ble_eq_true rfl) (Nat.le_of_ble_eq_true rfl) ?_
  refine va_putF (D := G.1) (ci := 3) (v := .ref q13) (ty := (.object "SlipCoach$Sheet")) (C := RX3) (T := TX3) (N := 9) hx hb hw inGX3 tyX3 tyX3_ok nmX3 hown hK hP hD hS 0 rfl rfl 5 (by decide) (hw _ nk_43) (fun _ h9 => h9) rfl hin rfl (by decide +kernel) rfl rfl (Nat.le_of_ble_eq_true rfl) dX3_init_67 (fun H locs hP hD hS => ?_)
  have hP : va_P G.1 vwCl [(ln, .inr (3, [.int 0, .int 0, .ref q1, .ref q5, .ref q9, .ref q13, .null, .null, .null])), (q1, .inr (6, [.int 8, .int 2, .ref q_3, .int 0])), (q_3, .inl (G.2 0, 16, .inl (fun _ => 0))), (q5, .inr (6, [.int 6, .int 3, .ref q_7, .int 0])), (q_7, .inl (G.2 0, 18, .inl (fun _ => 0))), (q9, .inr (6, [.int 6, .int 2, .ref q_11, .int 0])), (q_11, .inl (G.2 0, 12, .inl (fun _ => 0))), (q13, .inr (6, [.int 6, .int 2, .ref q_15, .int 0])), (q_15, .inl (G.2 0, 12, .inl (fun _ => 0)))] H := hP
  have hD : va_D A [(ln, .inr (3, [.int 0, .int 0, .ref q1, .ref q5, .ref q9, .ref q13, .null, .null, .null])), (q1, .inr (6, [.int 8, .int 2, .ref q_3, .int 0])), (q_3, .inl (G.2 0, 16, .inl (fun _ => 0))), (q5, .inr (6, [.int 6, .int 3, .ref q_7, .int 0])), (q_7, .inl (G.2 0, 18, .inl (fun _ => 0))), (q9, .inr (6, [.int 6, .int 2, .ref q_11, .int 0])), (q_11, .inl (G.2 0, 12, .inl (fun _ => 0))), (q13, .inr (6, [.int 6, .int 2, .ref q_15, .int 0])), (q_15, .inl (G.2 0, 12, .inl (fun _ => 0)))] := hD
  refine lv_aload_n hx hb dX3_init_70 rfl (lv_at hl 0 rfl) ?_
  refine va_new (ci := 6) (fs := [.int 0, .int 0, .null, .int 0]) (C := RX6) (T := TX6) (N := 4) hx hb hw inGX6 tyX6 tyX6_ok hown (hw _ nk_34) (hw _ nk_35) (hw _ nk_36) hK hP hD hS hA rfl dfX6 (Nat.le_of_ble_eq_true rfl) (Nat.le_of_ble_eq_true rfl) dX3_init_71 (fun q17 H hP hD hS => ?_)
  have hP : va_P G.1 vwCl [(ln, .inr (3, [.int 0, .int 0, .ref q1, .ref q5, .ref q9, .ref q13, .null, .null, .null])), (q1, .inr (6, [.int 8, .int 2, .ref q_3, .int 0])), (q_3, .inl (G.2 0, 16, .inl (fun _ => 0))), (q5, .inr (6, [.int 6, .int 3, .ref q_7, .int 0])), (q_7, .inl (G.2 0, 18, .inl (fun _ => 0))), (q9, .inr (6, [.int 6, .int 2, .ref q_11, .int 0])), (q_11, .inl (G.2 0, 12, .inl (fun _ => 0))), (q13, .inr (6, [.int 6, .int 2, .ref q_15, .int 0])), (q_15, .inl (G.2 0, 12, .inl (fun _ => 0))), (q17, .inr (6, [.int 0, .int 0, .null, .int 0]))] H := hP
  have hD : va_D A [(ln, .inr (3, [.int 0, .int 0, .ref q1, .ref q5, .ref q9, .ref q13, .null, .null, .null])), (q1, .inr (6, [.int 8, .int 2, .ref q_3, .int 0])), (q_3, .inl (G.2 0, 16, .inl (fun _ => 0))), (q5, .inr (6, [.int 6, .int 3, .ref q_7, .int 0])), (q_7, .inl (G.2 0, 18, .inl (fun _ => 0))), (q9, .inr (6, [.int 6, .int 2, .ref q_11, .int 0])), (q_11, .inl (G.2 0, 12, .inl (fun _ => 0))), (q13, .inr (6, [.int 6, .int 2, .ref q_15, .int 0])), (q_15, .inl (G.2 0, 12, .inl (fun _ => 0))), (q17, .inr (6, [.int 0, .int 0, .null, .int 0]))] := hD
  refine W.widen (k := 9) (n := 78) (Nat.le_of_ble_eq_true rfl) (Nat.le_of_ble_eq_true rfl) ?_
  refine lv_dup hx hb dX3_init_74 rfl ?_
  refine lv_iconst (v := 4) hx hb dX3_init_75 (by decide) ?_
  refine lv_iconst (v := 5) hx hb dX3_init_76 (by decide) ?_
  refine wq_callv (wr := [(ln, .inr (3, [.int 0, .int 0, .ref q1, .ref q5, .ref q9, .ref q13, .null, .null, .null])), (q1, .inr (6, [.int 8, .int 2, .ref q_3, .int 0])), (q_3, .inl (G.2 0, 16, .inl (fun _ => 0))), (q5, .inr (6, [.int 6, .int 3, .ref q_7, .int 0])), (q_7, .inl (G.2 0, 18, .inl (fun _ => 0))), (q9, .inr (6, [.int 6, .int 2, .ref q_11, .int 0])), (q_11, .inl (G.2 0, 12, .inl (fun _ => 0))), (q13, .inr (6, [.int 6, .int 2, .ref q_15, .int 0])), (q_15, .inl (G.2 0, 12, .inl (fun _ => 0)))]) (va_runI (As := [.int 4, .int 5]) (rest := [.ref q17, .ref ln]) ⟨hx, hb, hml, hown, hw⟩ (c_newSheet_4_5 l G q17 H.size) (cwI 2 hw (gdI nk_37) rfl rfl rfl (hw _ nk_36) (hw _ nk_38) (hw _ nk_39) rfl (by decide +kernel) ⟨(Nat.le_of_ble_eq_true rfl), (Nat.le_of_ble_eq_true rfl)⟩) (mpreQ_S (wc := [(q17, .inr (6, [.int 0, .int 0, .null, .int 0]))]) hKG hP hD [9] (by decide +kernel) rfl) rfl rfl hl.1 rfl (lv_room (Nat.le_of_ble_eq_true rfl)) dX3_init_77 ⟨(Nat.le_of_ble_eq_true rfl), (Nat.le_of_ble_eq_true rfl)⟩) hS hP hD hA [9] [0, 1, 2, 3, 4, 5, 6, 7, 8] rfl rfl (by decide +kernel) (by decide +kernel) (fun u20 H locs hr18 hP hD hS => ?_)
  obtain ⟨q_19, rfl⟩ : ∃ z, z = u20 := ⟨_, rfl⟩
  have hP : va_P G.1 vwCl [(ln, .inr (3, [.int 0, .int 0, .ref q1, .ref q5, .ref q9, .ref q13, .null, .null, .null])), (q1, .inr (6, [.int 8, .int 2, .ref q_3, .int 0])), (q_3, .inl (G.2 0, 16, .inl (fun _ => 0))), (q5, .inr (6, [.int 6, .int 3, .ref q_7, .int 0])), (q_7, .inl (G.2 0, 18, .inl (fun _ => 0))), (q9, .inr (6, [.int 6, .int 2, .ref q_11, .int 0])), (q_11, .inl (G.2 0, 12, .inl (fun _ => 0))), (q13, .inr (6, [.int 6, .int 2, .ref q_15, .int 0])), (q_15, .inl (G.2 0, 12, .inl (fun _ => 0))), (q17, .inr (6, [.int 4, .int 5, .ref q_19, .int 0])), (q_19, .inl (G.2 0, 20, .inl (fun _ => 0)))] H := hP
  have hD : va_D A [(ln, .inr (3, [.int 0, .int 0, .ref q1, .ref q5, .ref q9, .ref q13, .null, .null, .null])), (q1, .inr (6, [.int 8, .int 2, .ref q_3, .int 0])), (q_3, .inl (G.2 0, 16, .inl (fun _ => 0))), (q5, .inr (6, [.int 6, .int 3, .ref q_7, .int 0])), (q_7, .inl (G.2 0, 18, .inl (fun _ => 0))), (q9, .inr (6, [.int 6, .int 2, .ref q_11, .int 0])), (q_11, .inl (G.2 0, 12, .inl (fun _ => 0))), (q13, .inr (6, [.int 6, .int 2, .ref q_15, .int 0])), (q_15, .inl (G.2 0, 12, .inl (fun _ => 0))), (q17, .inr (6, [.int 4, .int 5, .ref q_19, .int 0])), (q_19, .inl (G.2 0, 20, .inl (fun _ => 0)))] := hD
  refine W.widen (k := 10) (n := 98) (Nat.le_of_ble_eq_true rfl) (Nat.le_of_ble_eq_true rfl) ?_
  refine va_putF (D := G.1) (ci := 3) (v := .ref q17) (ty := (.object "SlipCoach$Sheet")) (C := RX3) (T := TX3) (N := 9) hx hb hw inGX3 tyX3 tyX3_ok nmX3 hown hK hP hD hS 0 rfl rfl 6 (by decide) (hw _ nk_44) (fun _ h9 => h9) rfl hin rfl (by decide +kernel) rfl rfl (Nat.le_of_ble_eq_true rfl) dX3_init_80 (fun H locs hP hD hS => ?_)
  have hP : va_P G.1 vwCl [(ln, .inr (3, [.int 0, .int 0, .ref q1, .ref q5, .ref q9, .ref q13, .ref q17, .null, .null])), (q1, .inr (6, [.int 8, .int 2, .ref q_3, .int 0])), (q_3, .inl (G.2 0, 16, .inl (fun _ => 0))), (q5, .inr (6, [.int 6, .int 3, .ref q_7, .int 0])), (q_7, .inl (G.2 0, 18, .inl (fun _ => 0))), (q9, .inr (6, [.int 6, .int 2, .ref q_11, .int 0])), (q_11, .inl (G.2 0, 12, .inl (fun _ => 0))), (q13, .inr (6, [.int 6, .int 2, .ref q_15, .int 0])), (q_15, .inl (G.2 0, 12, .inl (fun _ => 0))), (q17, .inr (6, [.int 4, .int 5, .ref q_19, .int 0])), (q_19, .inl (G.2 0, 20, .inl (fun _ => 0)))] H := hP
  have hD : va_D A [(ln, .inr (3, [.int 0, .int 0, .ref q1, .ref q5, .ref q9, .ref q13, .ref q17, .null, .null])), (q1, .inr (6, [.int 8, .int 2, .ref q_3, .int 0])), (q_3, .inl (G.2 0, 16, .inl (fun _ => 0))), (q5, .inr (6, [.int 6, .int 3, .ref q_7, .int 0])), (q_7, .inl (G.2 0, 18, .inl (fun _ => 0))), (q9, .inr (6, [.int 6, .int 2, .ref q_11, .int 0])), (q_11, .inl (G.2 0, 12, .inl (fun _ => 0))), (q13, .inr (6, [.int 6, .int 2, .ref q_15, .int 0])), (q_15, .inl (G.2 0, 12, .inl (fun _ => 0))), (q17, .inr (6, [.int 4, .int 5, .ref q_19, .int 0])), (q_19, .inl (G.2 0, 20, .inl (fun _ => 0)))] := hD
  refine lv_aload_n hx hb dX3_init_83 rfl (lv_at hl 0 rfl) ?_
  refine va_new (ci := 6) (fs := [.int 0, .int 0, .null, .int 0]) (C := RX6) (T := TX6) (N := 4) hx hb hw inGX6 tyX6 tyX6_ok hown (hw _ nk_34) (hw _ nk_35) (hw _ nk_36) hK hP hD hS hA rfl dfX6 (Nat.le_of_ble_eq_true rfl) (Nat.le_of_ble_eq_true rfl) dX3_init_84 (fun q21 H hP hD hS => ?_)
  have hP : va_P G.1 vwCl [(ln, .inr (3, [.int 0, .int 0, .ref q1, .ref q5, .ref q9, .ref q13, .ref q17, .null, .null])), (q1, .inr (6, [.int 8, .int 2, .ref q_3, .int 0])), (q_3, .inl (G.2 0, 16, .inl (fun _ => 0))), (q5, .inr (6, [.int 6, .int 3, .ref q_7, .int 0])), (q_7, .inl (G.2 0, 18, .inl (fun _ => 0))), (q9, .inr (6, [.int 6, .int 2, .ref q_11, .int 0])), (q_11, .inl (G.2 0, 12, .inl (fun _ => 0))), (q13, .inr (6, [.int 6, .int 2, .ref q_15, .int 0])), (q_15, .inl (G.2 0, 12, .inl (fun _ => 0))), (q17, .inr (6, [.int 4, .int 5, .ref q_19, .int 0])), (q_19, .inl (G.2 0, 20, .inl (fun _ => 0))), (q21, .inr (6, [.int 0, .int 0, .null, .int 0]))] H := hP
  have hD : va_D A [(ln, .inr (3, [.int 0, .int 0, .ref q1, .ref q5, .ref q9, .ref q13, .ref q17, .null, .null])), (q1, .inr (6, [.int 8, .int 2, .ref q_3, .int 0])), (q_3, .inl (G.2 0, 16, .inl (fun _ => 0))), (q5, .inr (6, [.int 6, .int 3, .ref q_7, .int 0])), (q_7, .inl (G.2 0, 18, .inl (fun _ => 0))), (q9, .inr (6, [.int 6, .int 2, .ref q_11, .int 0])), (q_11, .inl (G.2 0, 12, .inl (fun _ => 0))), (q13, .inr (6, [.int 6, .int 2, .ref q_15, .int 0])), (q_15, .inl (G.2 0, 12, .inl (fun _ => 0))), (q17, .inr (6, [.int 4, .int 5, .ref q_19, .int 0])), (q_19, .inl (G.2 0, 20, .inl (fun _ => 0))), (q21, .inr (6, [.int 0, .int 0, .null, .int 0]))] := hD
  refine W.widen (k := 11) (n := 102) (Nat.le_of_ble_eq_true rfl) (Nat.le_of_ble_eq_true rfl) ?_
  refine lv_dup hx hb dX3_init_87 rfl ?_
  refine lv_iconst (v := 5) hx hb dX3_init_88 (by decide) ?_
  refine lv_iconst (v := 3) hx hb dX3_init_89 (by decide) ?_
  refine wq_callv (wr := [(ln, .inr (3, [.int 0, .int 0, .ref q1, .ref q5, .ref q9, .ref q13, .ref q17, .null, .null])), (q1, .inr (6, [.int 8, .int 2, .ref q_3, .int 0])), (q_3, .inl (G.2 0, 16, .inl (fun _ => 0))), (q5, .inr (6, [.int 6, .int 3, .ref q_7, .int 0])), (q_7, .inl (G.2 0, 18, .inl (fun _ => 0))), (q9, .inr (6, [.int 6, .int 2, .ref q_11, .int 0])), (q_11, .inl (G.2 0, 12, .inl (fun _ => 0))), (q13, .inr (6, [.int 6, .int 2, .ref q_15, .int 0])), (q_15, .inl (G.2 0, 12, .inl (fun _ => 0))), (q17, .inr (6, [.int 4, .int 5, .ref q_19, .int 0])), (q_19, .inl (G.2 0, 20, .inl (fun _ => 0)))]) (va_runI (As := [.int 5, .int 3]) (rest := [.ref q21, .ref ln]) ⟨hx, hb, hml, hown, hw⟩ (c_newSheet_5_3 l G q21 H.size) (cwI 2 hw (gdI nk_37) rfl rfl rfl (hw _ nk_36) (hw _ nk_38) (hw _ nk_39) rfl (by decide +kernel) ⟨(Nat.le_of_ble_eq_true rfl), (Nat.le_of_ble_eq_true rfl)⟩) (mpreQ_S (wc := [(q21, .inr (6, [.int 0, .int 0, .null, .int 0]))]) hKG hP hD [11] (by decide +kernel) rfl) rfl rfl hl.1 rfl (lv_room (Nat.le_of_ble_eq_true rfl)) dX3_init_90 ⟨(Nat.le_of_ble_eq_true rfl), (Nat.le_of_ble_eq_true rfl)⟩) hS hP hD hA [11] [0, 1, 2, 3, 4, 5, 6, 7, 8, 9, 10] rfl rfl (by decide +kernel) (by decide +kernel) (fun u24 H locs hr22 hP hD hS => ?_)
  obtain ⟨q_23, rfl⟩ : ∃ z, z = u24 := ⟨_, rfl⟩
  have hP : va_P G.1 vwCl [(ln, .inr (3, [.int 0, .int 0, .ref q1, .ref q5, .ref q9, .ref q13, .ref q17, .null, .null])), (q1, .inr (6, [.int 8, .int 2, .ref q_3, .int 0])), (q_3, .inl (G.2 0, 16, .inl (fun _ => 0))), (q5, .inr (6, [.int 6, .int 3, .ref q_7, .int 0])), (q_7, .inl (G.2 0, 18, .inl (fun _ => 0))), (q9, .inr (6, [.int 6, .int 2, .ref q_11, .int 0])), (q_11, .inl (G.2 0, 12, .inl (fun _ => 0))), (q13, .inr (6, [.int 6, .int 2, .ref q_15, .int 0])), (q_15, .inl (G.2 0, 12, .inl (fun _ => 0))), (q17, .inr (6, [.int 4, .int 5, .ref q_19, .int 0])), (q_19, .inl (G.2 0, 20, .inl (fun _ => 0))), (q21, .inr (6, [.int 5, .int 3, .ref q_23, .int 0])), (q_23, .inl (G.2 0, 15, .inl (fun _ => 0)))] H := hP
  have hD : va_D A [(ln, .inr (3, [.int 0, .int 0, .ref q1, .ref q5, .ref q9, .ref q13, .ref q17, .null, .null])), (q1, .inr (6, [.int 8, .int 2, .ref q_3, .int 0])), (q_3, .inl (G.2 0, 16, .inl (fun _ => 0))), (q5, .inr (6, [.int 6, .int 3, .ref q_7, .int 0])), (q_7, .inl (G.2 0, 18, .inl (fun _ => 0))), (q9, .inr (6, [.int 6, .int 2, .ref q_11, .int 0])), (q_11, .inl (G.2 0, 12, .inl (fun _ => 0))), (q13, .inr (6, [.int 6, .int 2, .ref q_15, .int 0])), (q_15, .inl (G.2 0, 12, .inl (fun _ => 0))), (q17, .inr (6, [.int 4, .int 5, .ref q_19, .int 0])), (q_19, .inl (G.2 0, 20, .inl (fun _ => 0))), (q21, .inr (6, [.int 5, .int 3, .ref q_23, .int 0])), (q_23, .inl (G.2 0, 15, .inl (fun _ => 0)))] := hD
  refine W.widen (k := 12) (n := 117) (Nat.le_of_ble_eq_true rfl) (Nat.le_of_ble_eq_true rfl) ?_
  refine va_putF (D := G.1) (ci := 3) (v := .ref q21) (ty := (.object "SlipCoach$Sheet")) (C := RX3) (T := TX3) (N := 9) hx hb hw inGX3 tyX3 tyX3_ok nmX3 hown hK hP hD hS 0 rfl rfl 7 (by decide) (hw _ nk_45) (fun _ h9 => h9) rfl hin rfl (by decide +kernel) rfl rfl (Nat.le_of_ble_eq_true rfl) dX3_init_93 (fun H locs hP hD hS => ?_)
  have hP : va_P G.1 vwCl [(ln, .inr (3, [.int 0, .int 0, .ref q1, .ref q5, .ref q9, .ref q13, .ref q17, .ref q21, .null])), (q1, .inr (6, [.int 8, .int 2, .ref q_3, .int 0])), (q_3, .inl (G.2 0, 16, .inl (fun _ => 0))), (q5, .inr (6, [.int 6, .int 3, .ref q_7, .int 0])), (q_7, .inl (G.2 0, 18, .inl (fun _ => 0))), (q9, .inr (6, [.int 6, .int 2, .ref q_11, .int 0])), (q_11, .inl (G.2 0, 12, .inl (fun _ => 0))), (q13, .inr (6, [.int 6, .int 2, .ref q_15, .int 0])), (q_15, .inl (G.2 0, 12, .inl (fun _ => 0))), (q17, .inr (6, [.int 4, .int 5, .ref q_19, .int 0])), (q_19, .inl (G.2 0, 20, .inl (fun _ => 0))), (q21, .inr (6, [.int 5, .int 3, .ref q_23, .int 0])), (q_23, .inl (G.2 0, 15, .inl (fun _ => 0)))] H := hP
  have hD : va_D A [(ln, .inr (3, [.int 0, .int 0, .ref q1, .ref q5, .ref q9, .ref q13, .ref q17, .ref q21, .null])), (q1, .inr (6, [.int 8, .int 2, .ref q_3, .int 0])), (q_3, .inl (G.2 0, 16, .inl (fun _ => 0))), (q5, .inr (6, [.int 6, .int 3, .ref q_7, .int 0])), (q_7, .inl (G.2 0, 18, .inl (fun _ => 0))), (q9, .inr (6, [.int 6, .int 2, .ref q_11, .int 0])), (q_11, .inl (G.2 0, 12, .inl (fun _ => 0))), (q13, .inr (6, [.int 6, .int 2, .ref q_15, .int 0])), (q_15, .inl (G.2 0, 12, .inl (fun _ => 0))), (q17, .inr (6, [.int 4, .int 5, .ref q_19, .int 0])), (q_19, .inl (G.2 0, 20, .inl (fun _ => 0))), (q21, .inr (6, [.int 5, .int 3, .ref q_23, .int 0])), (q_23, .inl (G.2 0, 15, .inl (fun _ => 0)))] := hD
  refine lv_aload_n hx hb dX3_init_96 rfl (lv_at hl 0 rfl) ?_
  refine va_new (ci := 6) (fs := [.int 0, .int 0, .null, .int 0]) (C := RX6) (T := TX6) (N := 4) hx hb hw inGX6 tyX6 tyX6_ok hown (hw _ nk_34) (hw _ nk_35) (hw _ nk_36) hK hP hD hS hA rfl dfX6 (Nat.le_of_ble_eq_true rfl) (Nat.le_of_ble_eq_true rfl) dX3_init_97 (fun q25 H hP hD hS => ?_)
  have hP : va_P G.1 vwCl [(ln, .inr (3, [.int 0, .int 0, .ref q1, .ref q5, .ref q9, .ref q13, .ref q17, .ref q21, .null])), (q1, .inr (6, [.int 8, .int 2, .ref q_3, .int 0])), (q_3, .inl (G.2 0, 16, .inl (fun _ => 0))), (q5, .inr (6, [.int 6, .int 3, .ref q_7, .int 0])), (q_7, .inl (G.2 0, 18, .inl (fun _ => 0))), (q9, .inr (6, [.int 6, .int 2, .ref q_11, .int 0])), (q_11, .inl (G.2 0, 12, .inl (fun _ => 0))), (q13, .inr (6, [.int 6, .int 2, .ref q_15, .int 0])), (q_15, .inl (G.2 0, 12, .inl (fun _ => 0))), (q17, .inr (6, [.int 4, .int 5, .ref q_19, .int 0])), (q_19, .inl (G.2 0, 20, .inl (fun _ => 0))), (q21, .inr (6, [.int 5, .int 3, .ref q_23, .int 0])), (q_23, .inl (G.2 0, 15, .inl (fun _ => 0))), (q25, .inr (6, [.int 0, .int 0, .null, .int 0]))] H := hP
  have hD : va_D A [(ln, .inr (3, [.int 0, .int 0, .ref q1, .ref q5, .ref q9, .ref q13, .ref q17, .ref q21, .null])), (q1, .inr (6, [.int 8, .int 2, .ref q_3, .int 0])), (q_3, .inl (G.2 0, 16, .inl (fun _ => 0))), (q5, .inr (6, [.int 6, .int 3, .ref q_7, .int 0])), (q_7, .inl (G.2 0, 18, .inl (fun _ => 0))), (q9, .inr (6, [.int 6, .int 2, .ref q_11, .int 0])), (q_11, .inl (G.2 0, 12, .inl (fun _ => 0))), (q13, .inr (6, [.int 6, .int 2, .ref q_15, .int 0])), (q_15, .inl (G.2 0, 12, .inl (fun _ => 0))), (q17, .inr (6, [.int 4, .int 5, .ref q_19, .int 0])), (q_19, .inl (G.2 0, 20, .inl (fun _ => 0))), (q21, .inr (6, [.int 5, .int 3, .ref q_23, .int 0])), (q_23, .inl (G.2 0, 15, .inl (fun _ => 0))), (q25, .inr (6, [.int 0, .int 0, .null, .int 0]))] := hD
  refine W.widen (k := 13) (n := 121) (Nat.le_of_ble_eq_true rfl) (Nat.le_of_ble_eq_true rfl) ?_
  refine lv_dup hx hb dX3_init_100 rfl ?_
  refine lv_bipush (v := 16) hx hb dX3_init_101 (by decide) ?_
  refine lv_iconst (v := 5) hx hb dX3_init_103 (by decide) ?_
  refine wq_callv (wr := [(ln, .inr (3, [.int 0, .int 0, .ref q1, .ref q5, .ref q9, .ref q13, .ref q17, .ref q21, .null])), (q1, .inr (6, [.int 8, .int 2, .ref q_3, .int 0])), (q_3, .inl (G.2 0, 16, .inl (fun _ => 0))), (q5, .inr (6, [.int 6, .int 3, .ref q_7, .int 0])), (q_7, .inl (G.2 0, 18, .inl (fun _ => 0))), (q9, .inr (6, [.int 6, .int 2, .ref q_11, .int 0])), (q_11, .inl (G.2 0, 12, .inl (fun _ => 0))), (q13, .inr (6, [.int 6, .int 2, .ref q_15, .int 0])), (q_15, .inl (G.2 0, 12, .inl (fun _ => 0))), (q17, .inr (6, [.int 4, .int 5, .ref q_19, .int 0])), (q_19, .inl (G.2 0, 20, .inl (fun _ => 0))), (q21, .inr (6, [.int 5, .int 3, .ref q_23, .int 0])), (q_23, .inl (G.2 0, 15, .inl (fun _ => 0)))]) (va_runI (As := [.int 16, .int 5]) (rest := [.ref q25, .ref ln]) ⟨hx, hb, hml, hown, hw⟩ (c_newSheet_16_5 l G q25 H.size) (cwI 2 hw (gdI nk_37) rfl rfl rfl (hw _ nk_36) (hw _ nk_38) (hw _ nk_39) rfl (by decide +kernel) ⟨(Nat.le_of_ble_eq_true rfl), (Nat.le_of_ble_eq_true rfl)⟩) (mpreQ_S (wc := [(q25, .inr (6, [.int 0, .int 0, .null, .int 0]))]) hKG hP hD [13] (by decide +kernel) rfl) rfl rfl hl.1 rfl (lv_room (Nat.le_of_ble_eq_true rfl)) dX3_init_104 ⟨(Nat.le_of_ble_eq_true rfl), (Nat.le_of_ble_eq_true rfl)⟩) hS hP hD hA [13] [0, 1, 2, 3, 4, 5, 6, 7, 8, 9, 10, 11, 12] rfl rfl (by decide +kernel) (by decide +kernel) (fun u28 H locs hr26 hP hD hS => ?_)
  obtain ⟨q_27, rfl⟩ : ∃ z, z = u28 := ⟨_, rfl⟩
  have hP : va_P G.1 vwCl [(ln, .inr (3, [.int 0, .int 0, .ref q1, .ref q5, .ref q9, .ref q13, .ref q17, .ref q21, .null])), (q1, .inr (6, [.int 8, .int 2, .ref q_3, .int 0])), (q_3, .inl (G.2 0, 16, .inl (fun _ => 0))), (q5, .inr (6, [.int 6, .int 3, .ref q_7, .int 0])), (q_7, .inl (G.2 0, 18, .inl (fun _ => 0))), (q9, .inr (6, [.int 6, .int 2, .ref q_11, .int 0])), (q_11, .inl (G.2 0, 12, .inl (fun _ => 0))), (q13, .inr (6, [.int 6, .int 2, .ref q_15, .int 0])), (q_15, .inl (G.2 0, 12, .inl (fun _ => 0))), (q17, .inr (6, [.int 4, .int 5, .ref q_19, .int 0])), (q_19, .inl (G.2 0, 20, .inl (fun _ => 0))), (q21, .inr (6, [.int 5, .int 3, .ref q_23, .int 0])), (q_23, .inl (G.2 0, 15, .inl (fun _ => 0))), (q25, .inr (6, [.int 16, .int 5, .ref q_27, .int 0])), (q_27, .inl (G.2 0, 80, .inl (fun _ => 0)))] H := hP
  have hD : va_D A [(ln, .inr (3, [.int 0, .int 0, .ref q1, .ref q5, .ref q9, .ref q13, .ref q17, .ref q21, .null])), (q1, .inr (6, [.int 8, .int 2, .ref q_3, .int 0])), (q_3, .inl (G.2 0, 16, .inl (fun _ => 0))), (q5, .inr (6, [.int 6, .int 3, .ref q_7, .int 0])), (q_7, .inl (G.2 0, 18, .inl (fun _ => 0))), (q9, .inr (6, [.int 6, .int 2, .ref q_11, .int 0])), (q_11, .inl (G.2 0, 12, .inl (fun _ => 0))), (q13, .inr (6, [.int 6, .int 2, .ref q_15, .int 0])), (q_15, .inl (G.2 0, 12, .inl (fun _ => 0))), (q17, .inr (6, [.int 4, .int 5, .ref q_19, .int 0])), (q_19, .inl (G.2 0, 20, .inl (fun _ => 0))), (q21, .inr (6, [.int 5, .int 3, .ref q_23, .int 0])), (q_23, .inl (G.2 0, 15, .inl (fun _ => 0))), (q25, .inr (6, [.int 16, .int 5, .ref q_27, .int 0])), (q_27, .inl (G.2 0, 80, .inl (fun _ => 0)))] := hD
  refine W.widen (k := 14) (n := 201) (Nat.le_of_ble_eq_true rfl) (Nat.le_of_ble_eq_true rfl) ?_
  refine va_putF (D := G.1) (ci := 3) (v := .ref q25) (ty := (.object "SlipCoach$Sheet")) (C := RX3) (T := TX3) (N := 9) hx hb hw inGX3 tyX3 tyX3_ok nmX3 hown hK hP hD hS 0 rfl rfl 8 (by decide) (hw _ nk_46) (fun _ h9 => h9) rfl hin rfl (by decide +kernel) rfl rfl (Nat.le_of_ble_eq_true rfl) dX3_init_107 (fun H locs hP hD hS => ?_)
  have hP : va_P G.1 vwCl [(ln, .inr (3, [.int 0, .int 0, .ref q1, .ref q5, .ref q9, .ref q13, .ref q17, .ref q21, .ref q25])), (q1, .inr (6, [.int 8, .int 2, .ref q_3, .int 0])), (q_3, .inl (G.2 0, 16, .inl (fun _ => 0))), (q5, .inr (6, [.int 6, .int 3, .ref q_7, .int 0])), (q_7, .inl (G.2 0, 18, .inl (fun _ => 0))), (q9, .inr (6, [.int 6, .int 2, .ref q_11, .int 0])), (q_11, .inl (G.2 0, 12, .inl (fun _ => 0))), (q13, .inr (6, [.int 6, .int 2, .ref q_15, .int 0])), (q_15, .inl (G.2 0, 12, .inl (fun _ => 0))), (q17, .inr (6, [.int 4, .int 5, .ref q_19, .int 0])), (q_19, .inl (G.2 0, 20, .inl (fun _ => 0))), (q21, .inr (6, [.int 5, .int 3, .ref q_23, .int 0])), (q_23, .inl (G.2 0, 15, .inl (fun _ => 0))), (q25, .inr (6, [.int 16, .int 5, .ref q_27, .int 0])), (q_27, .inl (G.2 0, 80, .inl (fun _ => 0)))] H := hP
  have hD : va_D A [(ln, .inr (3, [.int 0, .int 0, .ref q1, .ref q5, .ref q9, .ref q13, .ref q17, .ref q21, .ref q25])), (q1, .inr (6, [.int 8, .int 2, .ref q_3, .int 0])), (q_3, .inl (G.2 0, 16, .inl (fun _ => 0))), (q5, .inr (6, [.int 6, .int 3, .ref q_7, .int 0])), (q_7, .inl (G.2 0, 18, .inl (fun _ => 0))), (q9, .inr (6, [.int 6, .int 2, .ref q_11, .int 0])), (q_11, .inl (G.2 0, 12, .inl (fun _ => 0))), (q13, .inr (6, [.int 6, .int 2, .ref q_15, .int 0])), (q_15, .inl (G.2 0, 12, .inl (fun _ => 0))), (q17, .inr (6, [.int 4, .int 5, .ref q_19, .int 0])), (q_19, .inl (G.2 0, 20, .inl (fun _ => 0))), (q21, .inr (6, [.int 5, .int 3, .ref q_23, .int 0])), (q_23, .inl (G.2 0, 15, .inl (fun _ => 0))), (q25, .inr (6, [.int 16, .int 5, .ref q_27, .int 0])), (q_27, .inl (G.2 0, 80, .inl (fun _ => 0)))] := hD
  refine W.widen (k := 14) (n := 201) (Nat.le_of_ble_eq_true rfl) (Nat.le_of_ble_eq_true rfl) ?_
  exact W.vret hx hb hr (fun t ht hW => ⟨⟨(q1, q5, q9, q13, q17, q21, q25, q_3, q_7, q_11, q_15, q_19, q_23, q_27), rfl, trivial, ⟨by rw [ht]; exact hP.sub [0, 1, 3, 5, 7, 9, 11, 13, 2, 4, 6, 8, 10, 12, 14] rfl, hD.sub [0, 1, 3, 5, 7, 9, 11, 13, 2, 4, 6, 8, 10, 12, 14] (by decide +kernel) rfl⟩⟩, hS.F ht⟩) hS.2.2 dX3_init_110
set_option maxHeartbeats 4000000 in
set_option maxRecDepth 100000 in
theorem c_newSlot (l : Launch) (G : KG) (h0 : Nat) (sz : Nat) : Met l yX8_init wgX8_init ({ frames := 1, cells := 1, slots := 60, locals := 20 }) (mpreQ G [.ref h0] sz [(h0, .inr (8, [.null, .int 0, .int 0]))]) (va_Qv (fun (u : Nat) => True) (fun u t => atQ G (va_A [(h0, .inr (8, [.null, .int 0, .int 0]))] sz) [(h0, .inr (8, [.ref u, .int (-1), .int 0])), (u, .inl (G.2 3, 60, .inr (.inl (fun _ => 0))))] t) (va_A [(h0, .inr (8, [.null, .int 0, .int 0]))] sz)) 1 60 (va_A [(h0, .inr (8, [.null, .int 0, .int 0]))] sz) := by
  refine Met.ofW (cc := cX8_init) (maxL := 1) (ret := none) (by decide) rfl ?_
  intro p e s m args below meth c s₁ B hml hv
  obtain ⟨rfl, hsz, hP, hKG, hD0⟩ := hv
  obtain ⟨hK, hAO⟩ := id hKG
  have hx := B.exec
  have hb := B.bytes
  have hr := B.returns
  have hts := atoms_spec (ws := wgX8_init) B.pre
  have hw : ∀ w ∈ wG, w.before _ s = true := fun w h => hts w (List.mem_cons_of_mem _ h)
  have hown : s.vm.findClass RX8 = some m.cls := findClass_of_methodNamed B.named
  have hlocks := B.notSynchronized
  have hin : meth.name = "<init>" := (name_of_methodNamed B.named B.method).1
  subst hsz
  have hD := hD0.self (sz := s.heap.size)
  generalize hAe : va_A [(h0, .inr (8, [.null, .int 0, .int 0]))] s.heap.size = A at hD ⊢
  have hA : ∀ q : Nat, s.heap.size ≤ q → A q := fun q h => by rw [← hAe]; exact Or.inr h
  have hS : va_S A s.heap s.heap [] := va_S.rf
  have hl := lv_entry ([.ref h0]) (n := 1) (Nat.le_of_ble_eq_true rfl)
  rw [lg_entry_eq]
  generalize (lg_sl ([.ref h0]) ++ List.replicate (1 - (lg_sl ([.ref h0])).length) Slot.unset).toArray = ls at hl ⊢
  have hl : lv_has ls 1 [(0, .ref h0)] := hl
  refine lv_aload_n hx hb dX8_init_0 rfl (lv_at hl 0 rfl) ?_
  refine W.objInit hx hb hown (hw _ nk_47) (hw _ nk_24) (hw _ nk_25) rfl (by rw [hml]; exact hl.1) rfl dX8_init_1 (Nat.le_of_ble_eq_true rfl) (Nat.le_of_ble_eq_true rfl) ?_
  refine W.eq (g2 := F0 m 4 ls []) rfl ?_
  refine lv_aload_n hx hb dX8_init_4 rfl (lv_at hl 0 rfl) ?_
  refine lv_bipush (v := 60) hx hb dX8_init_5 (by decide) ?_
  refine wn_newa (atype := .long) (ty := .long) (n := 60) (N' := 60) (a0 := (60, .inr (.inl (fun _ => 0)))) hx hb (hw _ nk_48) rfl hK 3 rfl hP hD hS hA (fun _ => rfl) (by decide) (by decide) (by decide) (Nat.le_of_ble_eq_true rfl) (Nat.le_of_ble_eq_true rfl) dX8_init_7 (fun q1 H hP hD hS => ?_)
  have hP : va_P G.1 vwCl [(h0, .inr (8, [.null, .int 0, .int 0])), (q1, .inl (G.2 3, 60, .inr (.inl (fun _ => 0))))] H := hP
  have hD : va_D A [(h0, .inr (8, [.null, .int 0, .int 0])), (q1, .inl (G.2 3, 60, .inr (.inl (fun _ => 0))))] := hD
  refine W.widen (k := 1) (n := 60) (Nat.le_of_ble_eq_true rfl) (Nat.le_of_ble_eq_true rfl) ?_
  refine va_putF (D := G.1) (ci := 8) (v := .ref q1) (ty := (.array .long)) (C := RX8) (T := TX8) (N := 3) hx hb hw inGX8 tyX8 tyX8_ok nmX8 hown hK hP hD hS 0 rfl rfl 0 (by decide) (hw _ nk_49) (fun _ h9 => h9) rfl hin rfl (by decide +kernel) rfl rfl (Nat.le_of_ble_eq_true rfl) dX8_init_9 (fun H locs hP hD hS => ?_)
  have hP : va_P G.1 vwCl [(h0, .inr (8, [.ref q1, .int 0, .int 0])), (q1, .inl (G.2 3, 60, .inr (.inl (fun _ => 0))))] H := hP
  have hD : va_D A [(h0, .inr (8, [.ref q1, .int 0, .int 0])), (q1, .inl (G.2 3, 60, .inr (.inl (fun _ => 0))))] := hD
  refine lv_aload_n hx hb dX8_init_12 rfl (lv_at hl 0 rfl) ?_
  refine lv_iconst (v := (-1)) hx hb dX8_init_13 (by decide) ?_
  refine va_put (D := G.1) (ci := 8) (v := .int (-1)) (ty := .int) (C := RX8) (T := TX8) (N := 3) hx hb hw inGX8 tyX8 tyX8_ok nmX8 hown hK hP hD hS 0 rfl rfl 1 (by decide) (hw _ nk_50) (fun _ h9 => h9) rfl (by decide +kernel) rfl rfl (Nat.le_of_ble_eq_true rfl) dX8_init_14 (fun H locs hP hD hS => ?_)
  have hP : va_P G.1 vwCl [(h0, .inr (8, [.ref q1, .int (-1), .int 0])), (q1, .inl (G.2 3, 60, .inr (.inl (fun _ => 0))))] H := hP
  have hD : va_D A [(h0, .inr (8, [.ref q1, .int (-1), .int 0])), (q1, .inl (G.2 3, 60, .inr (.inl (fun _ => 0))))] := hD
  refine lv_aload_n hx hb dX8_init_17 rfl (lv_at hl 0 rfl) ?_
  refine lv_iconst (v := 0) hx hb dX8_init_18 (by decide) ?_
  refine va_put (D := G.1) (ci := 8) (v := .int 0) (ty := .int) (C := RX8) (T := TX8) (N := 3) hx hb hw inGX8 tyX8 tyX8_ok nmX8 hown hK hP hD hS 0 rfl rfl 2 (by decide) (hw _ nk_51) (fun _ h9 => h9) rfl (by decide +kernel) rfl rfl (Nat.le_of_ble_eq_true rfl) dX8_init_19 (fun H locs hP hD hS => ?_)
  have hP : va_P G.1 vwCl [(h0, .inr (8, [.ref q1, .int (-1), .int 0])), (q1, .inl (G.2 3, 60, .inr (.inl (fun _ => 0))))] H := hP
  have hD : va_D A [(h0, .inr (8, [.ref q1, .int (-1), .int 0])), (q1, .inl (G.2 3, 60, .inr (.inl (fun _ => 0))))] := hD
  refine W.widen (k := 1) (n := 60) (Nat.le_of_ble_eq_true rfl) (Nat.le_of_ble_eq_true rfl) ?_
  exact W.vret hx hb hr (fun t ht hW => ⟨⟨q1, rfl, trivial, ⟨by rw [ht]; exact hP.sub [0, 1] rfl, hD.sub [0, 1] (by decide +kernel) rfl⟩⟩, hS.F ht⟩) hS.2.2 dX8_init_22
set_option maxHeartbeats 4000000 in
set_option maxRecDepth 100000 in
theorem c_newReader (l : Launch) (G : KG) (rd : Nat) (sz : Nat) : Met l yX5_init wgX5_init ({ frames := 1, cells := 1, slots := 0, locals := 20 }) (mpreQ G [.ref rd] sz [(rd, .inr (5, [.null, .int 0, .int 0, .int 0, .int 0, .int 0, .int 0, .int 0]))]) (va_Qv (fun (u : Nat) => True) (fun u t => atQ G (va_A [(rd, .inr (5, [.null, .int 0, .int 0, .int 0, .int 0, .int 0, .int 0, .int 0]))] sz) [(rd, .inr (5, [.ref u, .int 0, .int 0, .int 0, .int 0, .int 0, .int 0, .int (-1)])), (u, .inl (G.2 1, 0, .inl (fun _ => 0)))] t) (va_A [(rd, .inr (5, [.null, .int 0, .int 0, .int 0, .int 0, .int 0, .int 0, .int 0]))] sz)) 1 0 (va_A [(rd, .inr (5, [.null, .int 0, .int 0, .int 0, .int 0, .int 0, .int 0, .int 0]))] sz) := by
  refine Met.ofW (cc := cX5_init) (maxL := 1) (ret := none) (by decide) rfl ?_
  intro p e s m args below meth c s₁ B hml hv
  obtain ⟨rfl, hsz, hP, hKG, hD0⟩ := hv
  obtain ⟨hK, hAO⟩ := id hKG
  have hx := B.exec
  have hb := B.bytes
  have hr := B.returns
  have hts := atoms_spec (ws := wgX5_init) B.pre
  have hw : ∀ w ∈ wG, w.before _ s = true := fun w h => hts w (List.mem_cons_of_mem _ h)
  have hown : s.vm.findClass RX5 = some m.cls := findClass_of_methodNamed B.named
  have hlocks := B.notSynchronized
  have hin : meth.name = "<init>" := (name_of_methodNamed B.named B.method).1
  subst hsz
  have hD := hD0.self (sz := s.heap.size)
  generalize hAe : va_A [(rd, .inr (5, [.null, .int 0, .int 0, .int 0, .int 0, .int 0, .int 0, .int 0]))] s.heap.size = A at hD ⊢
  have hA : ∀ q : Nat, s.heap.size ≤ q → A q := fun q h => by rw [← hAe]; exact Or.inr h
  have hS : va_S A s.heap s.heap [] := va_S.rf
  have hl := lv_entry ([.ref rd]) (n := 1) (Nat.le_of_ble_eq_true rfl)
  rw [lg_entry_eq]
  generalize (lg_sl ([.ref rd]) ++ List.replicate (1 - (lg_sl ([.ref rd])).length) Slot.unset).toArray = ls at hl ⊢
  have hl : lv_has ls 1 [(0, .ref rd)] := hl
  refine lv_aload_n hx hb dX5_init_0 rfl (lv_at hl 0 rfl) ?_
  refine W.objInit hx hb hown (hw _ nk_52) (hw _ nk_24) (hw _ nk_25) rfl (by rw [hml]; exact hl.1) rfl dX5_init_1 (Nat.le_of_ble_eq_true rfl) (Nat.le_of_ble_eq_true rfl) ?_
  refine W.eq (g2 := F0 m 4 ls []) rfl ?_
  refine lv_aload_n hx hb dX5_init_4 rfl (lv_at hl 0 rfl) ?_
  refine lv_iconst (v := 0) hx hb dX5_init_5 (by decide) ?_
  refine wn_newa (atype := .byte) (ty := .byte) (n := 0) (N' := 0) (a0 := (0, .inl (fun _ => 0))) hx hb (hw _ nk_53) rfl hK 1 rfl hP hD hS hA (fun _ => rfl) (by decide) (by decide) (by decide) (Nat.le_of_ble_eq_true rfl) (Nat.le_of_ble_eq_true rfl) dX5_init_6 (fun q1 H hP hD hS => ?_)
  have hP : va_P G.1 vwCl [(rd, .inr (5, [.null, .int 0, .int 0, .int 0, .int 0, .int 0, .int 0, .int 0])), (q1, .inl (G.2 1, 0, .inl (fun _ => 0)))] H := hP
  have hD : va_D A [(rd, .inr (5, [.null, .int 0, .int 0, .int 0, .int 0, .int 0, .int 0, .int 0])), (q1, .inl (G.2 1, 0, .inl (fun _ => 0)))] := hD
  refine W.widen (k := 1) (n := 0) (Nat.le_of_ble_eq_true rfl) (Nat.le_of_ble_eq_true rfl) ?_
  refine va_put (D := G.1) (ci := 5) (v := .ref q1) (ty := (.array .byte)) (C := RX5) (T := TX5) (N := 8) hx hb hw inGX5 tyX5 tyX5_ok nmX5 hown hK hP hD hS 0 rfl rfl 0 (by decide) (hw _ nk_54) (fun _ h9 => h9) rfl (by decide +kernel) rfl rfl (Nat.le_of_ble_eq_true rfl) dX5_init_8 (fun H locs hP hD hS => ?_)
  have hP : va_P G.1 vwCl [(rd, .inr (5, [.ref q1, .int 0, .int 0, .int 0, .int 0, .int 0, .int 0, .int 0])), (q1, .inl (G.2 1, 0, .inl (fun _ => 0)))] H := hP
  have hD : va_D A [(rd, .inr (5, [.ref q1, .int 0, .int 0, .int 0, .int 0, .int 0, .int 0, .int 0])), (q1, .inl (G.2 1, 0, .inl (fun _ => 0)))] := hD
  refine lv_aload_n hx hb dX5_init_11 rfl (lv_at hl 0 rfl) ?_
  refine lv_iconst (v := 0) hx hb dX5_init_12 (by decide) ?_
  refine va_put (D := G.1) (ci := 5) (v := .int 0) (ty := .int) (C := RX5) (T := TX5) (N := 8) hx hb hw inGX5 tyX5 tyX5_ok nmX5 hown hK hP hD hS 0 rfl rfl 1 (by decide) (hw _ nk_55) (fun _ h9 => h9) rfl (by decide +kernel) rfl rfl (Nat.le_of_ble_eq_true rfl) dX5_init_13 (fun H locs hP hD hS => ?_)
  have hP : va_P G.1 vwCl [(rd, .inr (5, [.ref q1, .int 0, .int 0, .int 0, .int 0, .int 0, .int 0, .int 0])), (q1, .inl (G.2 1, 0, .inl (fun _ => 0)))] H := hP
  have hD : va_D A [(rd, .inr (5, [.ref q1, .int 0, .int 0, .int 0, .int 0, .int 0, .int 0, .int 0])), (q1, .inl (G.2 1, 0, .inl (fun _ => 0)))] := hD
  refine lv_aload_n hx hb dX5_init_16 rfl (lv_at hl 0 rfl) ?_
  refine lv_iconst (v := 0) hx hb dX5_init_17 (by decide) ?_
  refine va_put (D := G.1) (ci := 5) (v := .int 0) (ty := .int) (C := RX5) (T := TX5) (N := 8) hx hb hw inGX5 tyX5 tyX5_ok nmX5 hown hK hP hD hS 0 rfl rfl 2 (by decide) (hw _ nk_56) (fun _ h9 => h9) rfl (by decide +kernel) rfl rfl (Nat.le_of_ble_eq_true rfl) dX5_init_18 (fun H locs hP hD hS => ?_)
  have hP : va_P G.1 vwCl [(rd, .inr (5, [.ref q1, .int 0, .int 0, .int 0, .int 0, .int 0, .int 0, .int 0])), (q1, .inl (G.2 1, 0, .inl (fun _ => 0)))] H := hP
  have hD : va_D A [(rd, .inr (5, [.ref q1, .int 0, .int 0, .int 0, .int 0, .int 0, .int 0, .int 0])), (q1, .inl (G.2 1, 0, .inl (fun _ => 0)))] := hD
  refine lv_aload_n hx hb dX5_init_21 rfl (lv_at hl 0 rfl) ?_
  refine lv_iconst (v := 0) hx hb dX5_init_22 (by decide) ?_
  refine va_put (D := G.1) (ci := 5) (v := .int 0) (ty := .int) (C := RX5) (T := TX5) (N := 8) hx hb hw inGX5 tyX5 tyX5_ok nmX5 hown hK hP hD hS 0 rfl rfl 3 (by decide) (hw _ nk_57) (fun _ h9 => h9) rfl (by decide +kernel) rfl rfl (Nat.le_of_ble_eq_true rfl) dX5_init_23 (fun H locs hP hD hS => ?_)
  have hP : va_P G.1 vwCl [(rd, .inr (5, [.ref q1, .int 0, .int 0, .int 0, .int 0, .int 0, .int 0, .int 0])), (q1, .inl (G.2 1, 0, .inl (fun _ => 0)))] H := hP
  have hD : va_D A [(rd, .inr (5, [.ref q1, .int 0, .int 0, .int 0, .int 0, .int 0, .int 0, .int 0])), (q1, .inl (G.2 1, 0, .inl (fun _ => 0)))] := hD
  refine lv_aload_n hx hb dX5_init_26 rfl (lv_at hl 0 rfl) ?_
  refine lv_iconst (v := 0) hx hb dX5_init_27 (by decide) ?_
  refine va_put (D := G.1) (ci := 5) (v := .int 0) (ty := .int) (C := RX5) (T := TX5) (N := 8) hx hb hw inGX5 tyX5 tyX5_ok nmX5 hown hK hP hD hS 0 rfl rfl 4 (by decide) (hw _ nk_58) (fun _ h9 => h9) rfl (by decide +kernel) rfl rfl (Nat.le_of_ble_eq_true rfl) dX5_init_28 (fun H locs hP hD hS => ?_)
  have hP : va_P G.1 vwCl [(rd, .inr (5, [.ref q1, .int 0, .int 0, .int 0, .int 0, .int 0, .int 0, .int 0])), (q1, .inl (G.2 1, 0, .inl (fun _ => 0)))] H := hP
  have hD : va_D A [(rd, .inr (5, [.ref q1, .int 0, .int 0, .int 0, .int 0, .int 0, .int 0, .int 0])), (q1, .inl (G.2 1, 0, .inl (fun _ => 0)))] := hD
  refine lv_aload_n hx hb dX5_init_31 rfl (lv_at hl 0 rfl) ?_
  refine lv_iconst (v := 0) hx hb dX5_init_32 (by decide) ?_
  refine va_put (D := G.1) (ci := 5) (v := .int 0) (ty := .int) (C := RX5) (T := TX5) (N := 8) hx hb hw inGX5 tyX5 tyX5_ok nmX5 hown hK hP hD hS 0 rfl rfl 5 (by decide) (hw _ nk_59) (fun _ h9 => h9) rfl (by decide +kernel) rfl rfl (Nat.le_of_ble_eq_true rfl) dX5_init_33 (fun H locs hP hD hS => ?_)
  have hP : va_P G.1 vwCl [(rd, .inr (5, [.ref q1, .int 0, .int 0, .int 0, .int 0, .int 0, .int 0, .int 0])), (q1, .inl (G.2 1, 0, .inl (fun _ => 0)))] H := hP
  have hD : va_D A [(rd, .inr (5, [.ref q1, .int 0, .int 0, .int 0, .int 0, .int 0, .int 0, .int 0])), (q1, .inl (G.2 1, 0, .inl (fun _ => 0)))] := hD
  refine lv_aload_n hx hb dX5_init_36 rfl (lv_at hl 0 rfl) ?_
  refine lv_iconst (v := 0) hx hb dX5_init_37 (by decide) ?_
  refine va_put (D := G.1) (ci := 5) (v := .int 0) (ty := .int) (C := RX5) (T := TX5) (N := 8) hx hb hw inGX5 tyX5 tyX5_ok nmX5 hown hK hP hD hS 0 rfl rfl 6 (by decide) (hw _ nk_60) (fun _ h9 => h9) rfl (by decide +kernel) rfl rfl (Nat.le_of_ble_eq_true rfl) dX5_init_38 (fun H locs hP hD hS => ?_)
  have hP : va_P G.1 vwCl [(rd, .inr (5, [.ref q1, .int 0, .int 0, .int 0, .int 0, .int 0, .int 0, .int 0])), (q1, .inl (G.2 1, 0, .inl (fun _ => 0)))] H := hP
  have hD : va_D A [(rd, .inr (5, [.ref q1, .int 0, .int 0, .int 0, .int 0, .int 0, .int 0, .int 0])), (q1, .inl (G.2 1, 0, .inl (fun _ => 0)))] := hD
  refine lv_aload_n hx hb dX5_init_41 rfl (lv_at hl 0 rfl) ?_
  refine lv_iconst (v := (-1)) hx hb dX5_init_42 (by decide) ?_
  refine va_put (D := G.1) (ci := 5) (v := .int (-1)) (ty := .int) (C := RX5) (T := TX5) (N := 8) hx hb hw inGX5 tyX5 tyX5_ok nmX5 hown hK hP hD hS 0 rfl rfl 7 (by decide) (hw _ nk_61) (fun _ h9 => h9) rfl (by decide +kernel) rfl rfl (Nat.le_of_ble_eq_true rfl) dX5_init_43 (fun H locs hP hD hS => ?_)
  have hP : va_P G.1 vwCl [(rd, .inr (5, [.ref q1, .int 0, .int 0, .int 0, .int 0, .int 0, .int 0, .int (-1)])), (q1, .inl (G.2 1, 0, .inl (fun _ => 0)))] H := hP
  have hD : va_D A [(rd, .inr (5, [.ref q1, .int 0, .int 0, .int 0, .int 0, .int 0, .int 0, .int (-1)])), (q1, .inl (G.2 1, 0, .inl (fun _ => 0)))] := hD
  refine W.widen (k := 1) (n := 0) (Nat.le_of_ble_eq_true rfl) (Nat.le_of_ble_eq_true rfl) ?_
  exact W.vret hx hb hr (fun t ht hW => ⟨⟨q1, rfl, trivial, ⟨by rw [ht]; exact hP.sub [0, 1] rfl, hD.sub [0, 1] (by decide +kernel) rfl⟩⟩, hS.F ht⟩) hS.2.2 dX5_init_46
set_option maxHeartbeats 4000000 in
set_option maxRecDepth 100000 in
theorem c_newTrack (l : Launch) (G : KG) (tk : Nat) (sz : Nat) : Met l yX9_init wgX9_init ({ frames := 1, cells := 4, slots := 7619, locals := 20 }) (mpreQ G [.ref tk] sz [(tk, .inr (9, [.null, .null, .null, .null, .null, .int 0]))]) (va_Qv (fun (u : Nat × Nat × Nat × Nat) => True) (fun u t => atQ G (va_A [(tk, .inr (9, [.null, .null, .null, .null, .null, .int 0]))] sz) [(tk, .inr (9, [.ref u.1, .ref u.2.1, .ref u.2.2.1, .ref u.2.2.2, .null, .int 0])), (u.1, .inl (G.2 0, 401, .inl (fun _ => 0))), (u.2.1, .inl (G.2 0, 401, .inl (fun _ => 0))), (u.2.2.1, .inl (G.2 0, 401, .inl (fun _ => 0))), (u.2.2.2, .inl (G.2 0, 6416, .inl (fun _ => 0)))] t) (va_A [(tk, .inr (9, [.null, .null, .null, .null, .null, .int 0]))] sz)) 4 7619 (va_A [(tk, .inr (9, [.null, .null, .null, .null, .null, .int 0]))] sz) := by
  refine Met.ofW (cc := cX9_init) (maxL := 1) (ret := none) (by decide) rfl ?_
  intro p e s m args below meth c s₁ B hml hv
  obtain ⟨rfl, hsz, hP, hKG, hD0⟩ := hv
  obtain ⟨hK, hAO⟩ := id hKG
  have hx := B.exec
  have hb := B.bytes
  have hr := B.returns
  have hts := atoms_spec (ws := wgX9_init) B.pre
  have hw : ∀ w ∈ wG, w.before _ s = true := fun w h => hts w (List.mem_cons_of_mem _ h)
  have hown : s.vm.findClass RX9 = some m.cls := findClass_of_methodNamed B.named
  have hlocks := B.notSynchronized
  have hin : meth.name = "<init>" := (name_of_methodNamed B.named B.method).1
  subst hsz
  have hD := hD0.self (sz := s.heap.size)
  generalize hAe : va_A [(tk, .inr (9, [.null, .null, .null, .null, .null, .int 0]))] s.heap.size = A at hD ⊢
  have hA : ∀ q : Nat, s.heap.size ≤ q → A q := fun q h => by rw [← hAe]; exact Or.inr h
  have hS : va_S A s.heap s.heap [] := va_S.rf
  have hl := lv_entry ([.ref tk]) (n := 1) (Nat.le_of_ble_eq_true rfl)
  rw [lg_entry_eq]
  generalize (lg_sl ([.ref tk]) ++ List.replicate (1 - (lg_sl ([.ref tk])).length) Slot.unset).toArray = ls at hl ⊢
  have hl : lv_has ls 1 [(0, .ref tk)] := hl
  refine lv_aload_n hx hb dX9_init_0 rfl (lv_at hl 0 rfl) ?_
  refine W.objInit hx hb hown (hw _ nk_62) (hw _ nk_24) (hw _ nk_25) rfl (by rw [hml]; exact hl.1) rfl dX9_init_1 (Nat.le_of_ble_eq_true rfl) (Nat.le_of_ble_eq_true rfl) ?_
  refine W.eq (g2 := F0 m 4 ls []) rfl ?_
  refine lv_aload_n hx hb dX9_init_4 rfl (lv_at hl 0 rfl) ?_
  refine lv_sipush (v := 401) hx hb dX9_init_5 (by decide) ?_
  refine wn_newa (atype := .int) (ty := .int) (n := 401) (N' := 401) (a0 := (401, .inl (fun _ => 0))) hx hb (hw _ nk_29) rfl hK 0 rfl hP hD hS hA (fun _ => rfl) (by decide) (by decide) (by decide) (Nat.le_of_ble_eq_true rfl) (Nat.le_of_ble_eq_true rfl) dX9_init_8 (fun q1 H hP hD hS => ?_)
  have hP : va_P G.1 vwCl [(tk, .inr (9, [.null, .null, .null, .null, .null, .int 0])), (q1, .inl (G.2 0, 401, .inl (fun _ => 0)))] H := hP
  have hD : va_D A [(tk, .inr (9, [.null, .null, .null, .null, .null, .int 0])), (q1, .inl (G.2 0, 401, .inl (fun _ => 0)))] := hD
  refine W.widen (k := 1) (n := 401) (Nat.le_of_ble_eq_true rfl) (Nat.le_of_ble_eq_true rfl) ?_
  refine va_putF (D := G.1) (ci := 9) (v := .ref q1) (ty := (.array .int)) (C := RX9) (T := TX9) (N := 6) hx hb hw inGX9 tyX9 tyX9_ok nmX9 hown hK hP hD hS 0 rfl rfl 0 (by decide) (hw _ nk_6) (fun _ h9 => h9) rfl hin rfl (by decide +kernel) rfl rfl (Nat.le_of_ble_eq_true rfl) dX9_init_10 (fun H locs hP hD hS => ?_)
  have hP : va_P G.1 vwCl [(tk, .inr (9, [.ref q1, .null, .null, .null, .null, .int 0])), (q1, .inl (G.2 0, 401, .inl (fun _ => 0)))] H := hP
  have hD : va_D A [(tk, .inr (9, [.ref q1, .null, .null, .null, .null, .int 0])), (q1, .inl (G.2 0, 401, .inl (fun _ => 0)))] := hD
  refine lv_aload_n hx hb dX9_init_13 rfl (lv_at hl 0 rfl) ?_
  refine lv_sipush (v := 401) hx hb dX9_init_14 (by decide) ?_
  refine wn_newa (atype := .int) (ty := .int) (n := 401) (N' := 401) (a0 := (401, .inl (fun _ => 0))) hx hb (hw _ nk_29) rfl hK 0 rfl hP hD hS hA (fun _ => rfl) (by decide) (by decide) (by decide) (Nat.le_of_ble_eq_true rfl) (Nat.le_of_ble_eq_true rfl) dX9_init_17 (fun q2 H hP hD hS => ?_)
  have hP : va_P G.1 vwCl [(tk, .inr (9, [.ref q1, .null, .null, .null, .null, .int 0])), (q1, .inl (G.2 0, 401, .inl (fun _ => 0))), (q2, .inl (G.2 0, 401, .inl (fun _ => 0)))] H := hP
  have hD : va_D A [(tk, .inr (9, [.ref q1, .null, .null, .null, .null, .int 0])), (q1, .inl (G.2 0, 401, .inl (fun _ => 0))), (q2, .inl (G.2 0, 401, .inl (fun _ => 0)))] := hD
  refine W.widen (k := 2) (n := 802) (Nat.le_of_ble_eq_true rfl) (Nat.le_of_ble_eq_true rfl) ?_
  refine va_putF (D := G.1) (ci := 9) (v := .ref q2) (ty := (.array .int)) (C := RX9) (T := TX9) (N := 6) hx hb hw inGX9 tyX9 tyX9_ok nmX9 hown hK hP hD hS 0 rfl rfl 1 (by decide) (hw _ nk_12) (fun _ h9 => h9) rfl hin rfl (by decide +kernel) rfl rfl (Nat.le_of_ble_eq_true rfl) dX9_init_19 (fun H locs hP hD hS => ?_)
  have hP : va_P G.1 vwCl [(tk, .inr (9, [.ref q1, .ref q2, .null, .null, .null, .int 0])), (q1, .inl (G.2 0, 401, .inl (fun _ => 0))), (q2, .inl (G.2 0, 401, .inl (fun _ => 0)))] H := hP
  have hD : va_D A [(tk, .inr (9, [.ref q1, .ref q2, .null, .null, .null, .int 0])), (q1, .inl (G.2 0, 401, .inl (fun _ => 0))), (q2, .inl (G.2 0, 401, .inl (fun _ => 0)))] := hD
  refine lv_aload_n hx hb dX9_init_22 rfl (lv_at hl 0 rfl) ?_
  refine lv_sipush (v := 401) hx hb dX9_init_23 (by decide) ?_
  refine wn_newa (atype := .int) (ty := .int) (n := 401) (N' := 401) (a0 := (401, .inl (fun _ => 0))) hx hb (hw _ nk_29) rfl hK 0 rfl hP hD hS hA (fun _ => rfl) (by decide) (by decide) (by decide) (Nat.le_of_ble_eq_true rfl) (Nat.le_of_ble_eq_true rfl) dX9_init_26 (fun q3 H hP hD hS => ?_)
  have hP : va_P G.1 vwCl [(tk, .inr (9, [.ref q1, .ref q2, .null, .null, .null, .int 0])), (q1, .inl (G.2 0, 401, .inl (fun _ => 0))), (q2, .inl (G.2 0, 401, .inl (fun _ => 0))), (q3, .inl (G.2 0, 401, .inl (fun _ => 0)))] H := hP
  have hD : va_D A [(tk, .inr (9, [.ref q1, .ref q2, .null, .null, .null, .int 0])), (q1, .inl (G.2 0, 401, .inl (fun _ => 0))), (q2, .inl (G.2 0, 401, .inl (fun _ => 0))), (q3, .inl (G.2 0, 401, .inl (fun _ => 0)))] := hD
  refine W.widen (k := 3) (n := 1203) (Nat.le_of_ble_eq_true rfl) (Nat.le_of_ble_eq_true rfl) ?_
  refine va_putF (D := G.1) (ci := 9) (v := .ref q3) (ty := (.array .int)) (C := RX9) (T := TX9) (N := 6) hx hb hw inGX9 tyX9 tyX9_ok nmX9 hown hK hP hD hS 0 rfl rfl 2 (by decide) (hw _ nk_17) (fun _ h9 => h9) rfl hin rfl (by decide +kernel) rfl rfl (Nat.le_of_ble_eq_true rfl) dX9_init_28 (fun H locs hP hD hS => ?_)
  have hP : va_P G.1 vwCl [(tk, .inr (9, [.ref q1, .ref q2, .ref q3, .null, .null, .int 0])), (q1, .inl (G.2 0, 401, .inl (fun _ => 0))), (q2, .inl (G.2 0, 401, .inl (fun _ => 0))), (q3, .inl (G.2 0, 401, .inl (fun _ => 0)))] H := hP
  have hD : va_D A [(tk, .inr (9, [.ref q1, .ref q2, .ref q3, .null, .null, .int 0])), (q1, .inl (G.2 0, 401, .inl (fun _ => 0))), (q2, .inl (G.2 0, 401, .inl (fun _ => 0))), (q3, .inl (G.2 0, 401, .inl (fun _ => 0)))] := hD
  refine lv_aload_n hx hb dX9_init_31 rfl (lv_at hl 0 rfl) ?_
  refine lv_sipush (v := 6416) hx hb dX9_init_32 (by decide) ?_
  refine wn_newa (atype := .int) (ty := .int) (n := 6416) (N' := 6416) (a0 := (6416, .inl (fun _ => 0))) hx hb (hw _ nk_29) rfl hK 0 rfl hP hD hS hA (fun _ => rfl) (by decide) (by decide) (by decide) (Nat.le_of_ble_eq_true rfl) (Nat.le_of_ble_eq_true rfl) dX9_init_35 (fun q4 H hP hD hS => ?_)
  have hP : va_P G.1 vwCl [(tk, .inr (9, [.ref q1, .ref q2, .ref q3, .null, .null, .int 0])), (q1, .inl (G.2 0, 401, .inl (fun _ => 0))), (q2, .inl (G.2 0, 401, .inl (fun _ => 0))), (q3, .inl (G.2 0, 401, .inl (fun _ => 0))), (q4, .inl (G.2 0, 6416, .inl (fun _ => 0)))] H := hP
  have hD : va_D A [(tk, .inr (9, [.ref q1, .ref q2, .ref q3, .null, .null, .int 0])), (q1, .inl (G.2 0, 401, .inl (fun _ => 0))), (q2, .inl (G.2 0, 401, .inl (fun _ => 0))), (q3, .inl (G.2 0, 401, .inl (fun _ => 0))), (q4, .inl (G.2 0, 6416, .inl (fun _ => 0)))] := hD
  refine W.widen (k := 4) (n := 7619) (Nat.le_of_ble_eq_true rfl) (Nat.le_of_ble_eq_true rfl) ?_
  refine va_putF (D := G.1) (ci := 9) (v := .ref q4) (ty := (.array .int)) (C := RX9) (T := TX9) (N := 6) hx hb hw inGX9 tyX9 tyX9_ok nmX9 hown hK hP hD hS 0 rfl rfl 3 (by decide) (hw _ nk_63) (fun _ h9 => h9) rfl hin rfl (by decide +kernel) rfl rfl (Nat.le_of_ble_eq_true rfl) dX9_init_37 (fun H locs hP hD hS => ?_)
  have hP : va_P G.1 vwCl [(tk, .inr (9, [.ref q1, .ref q2, .ref q3, .ref q4, .null, .int 0])), (q1, .inl (G.2 0, 401, .inl (fun _ => 0))), (q2, .inl (G.2 0, 401, .inl (fun _ => 0))), (q3, .inl (G.2 0, 401, .inl (fun _ => 0))), (q4, .inl (G.2 0, 6416, .inl (fun _ => 0)))] H := hP
  have hD : va_D A [(tk, .inr (9, [.ref q1, .ref q2, .ref q3, .ref q4, .null, .int 0])), (q1, .inl (G.2 0, 401, .inl (fun _ => 0))), (q2, .inl (G.2 0, 401, .inl (fun _ => 0))), (q3, .inl (G.2 0, 401, .inl (fun _ => 0))), (q4, .inl (G.2 0, 6416, .inl (fun _ => 0)))] := hD
  refine lv_aload_n hx hb dX9_init_40 rfl (lv_at hl 0 rfl) ?_
  refine lv_null hx hb dX9_init_41 ?_
  refine va_put (D := G.1) (ci := 9) (v := .null) (ty := (.object "SlipCoach$Line")) (C := RX9) (T := TX9) (N := 6) hx hb hw inGX9 tyX9 tyX9_ok nmX9 hown hK hP hD hS 0 rfl rfl 4 (by decide) (hw _ nk_2) (fun _ h9 => h9) rfl (by decide +kernel) rfl rfl (Nat.le_of_ble_eq_true rfl) dX9_init_42 (fun H locs hP hD hS => ?_)
  have hP : va_P G.1 vwCl [(tk, .inr (9, [.ref q1, .ref q2, .ref q3, .ref q4, .null, .int 0])), (q1, .inl (G.2 0, 401, .inl (fun _ => 0))), (q2, .inl (G.2 0, 401, .inl (fun _ => 0))), (q3, .inl (G.2 0, 401, .inl (fun _ => 0))), (q4, .inl (G.2 0, 6416, .inl (fun _ => 0)))] H := hP
  have hD : va_D A [(tk, .inr (9, [.ref q1, .ref q2, .ref q3, .ref q4, .null, .int 0])), (q1, .inl (G.2 0, 401, .inl (fun _ => 0))), (q2, .inl (G.2 0, 401, .inl (fun _ => 0))), (q3, .inl (G.2 0, 401, .inl (fun _ => 0))), (q4, .inl (G.2 0, 6416, .inl (fun _ => 0)))] := hD
  refine lv_aload_n hx hb dX9_init_45 rfl (lv_at hl 0 rfl) ?_
  refine lv_iconst (v := 0) hx hb dX9_init_46 (by decide) ?_
  refine va_put (D := G.1) (ci := 9) (v := .int 0) (ty := .int) (C := RX9) (T := TX9) (N := 6) hx hb hw inGX9 tyX9 tyX9_ok nmX9 hown hK hP hD hS 0 rfl rfl 5 (by decide) (hw _ nk_4) (fun _ h9 => h9) rfl (by decide +kernel) rfl rfl (Nat.le_of_ble_eq_true rfl) dX9_init_47 (fun H locs hP hD hS => ?_)
  have hP : va_P G.1 vwCl [(tk, .inr (9, [.ref q1, .ref q2, .ref q3, .ref q4, .null, .int 0])), (q1, .inl (G.2 0, 401, .inl (fun _ => 0))), (q2, .inl (G.2 0, 401, .inl (fun _ => 0))), (q3, .inl (G.2 0, 401, .inl (fun _ => 0))), (q4, .inl (G.2 0, 6416, .inl (fun _ => 0)))] H := hP
  have hD : va_D A [(tk, .inr (9, [.ref q1, .ref q2, .ref q3, .ref q4, .null, .int 0])), (q1, .inl (G.2 0, 401, .inl (fun _ => 0))), (q2, .inl (G.2 0, 401, .inl (fun _ => 0))), (q3, .inl (G.2 0, 401, .inl (fun _ => 0))), (q4, .inl (G.2 0, 6416, .inl (fun _ => 0)))] := hD
  refine W.widen (k := 4) (n := 7619) (Nat.le_of_ble_eq_true rfl) (Nat.le_of_ble_eq_true rfl) ?_
  exact W.vret hx hb hr (fun t ht hW => ⟨⟨(q1, q2, q3, q4), rfl, trivial, ⟨by rw [ht]; exact hP.sub [0, 1, 2, 3, 4] rfl, hD.sub [0, 1, 2, 3, 4] (by decide +kernel) rfl⟩⟩, hS.F ht⟩) hS.2.2 dX9_init_50
set_option maxHeartbeats 4000000 in
set_option maxRecDepth 100000 in
theorem c_newHandlings (l : Launch) (G : KG) (hn : Nat) (tk : Nat) (sz : Nat) : Met l yX1_init wgX1_init ({ frames := 1, cells := 3, slots := 6464, locals := 20 }) (mpreQ G [.ref hn, .ref tk] sz [(hn, .inr (1, [.null, .null, .null, .null, .int 0, .int 0, .int 0]))]) (va_Qv (fun (u : Nat × Nat × Nat) => True) (fun u t => atQ G (va_A [(hn, .inr (1, [.null, .null, .null, .null, .int 0, .int 0, .int 0]))] sz) [(hn, .inr (1, [.ref tk, .ref u.1, .ref u.2.1, .ref u.2.2, .int 0, .int 0, .int (-1)])), (u.1, .inl (G.2 6, 24, .inr (.inr (.inr (.inr (fun _ => none)))))), (u.2.1, .inl (G.2 2, 24, .inl (fun _ => 0))), (u.2.2, .inl (G.2 0, 6416, .inl (fun _ => 0)))] t) (va_A [(hn, .inr (1, [.null, .null, .null, .null, .int 0, .int 0, .int 0]))] sz)) 3 6464 (va_A [(hn, .inr (1, [.null, .null, .null, .null, .int 0, .int 0, .int 0]))] sz) := by
  refine Met.ofW (cc := cX1_init) (maxL := 2) (ret := none) (by decide) rfl ?_
  intro p e s m args below meth c s₁ B hml hv
  obtain ⟨rfl, hsz, hP, hKG, hD0⟩ := hv
  obtain ⟨hK, hAO⟩ := id hKG
  have hx := B.exec
  have hb := B.bytes
  have hr := B.returns
  have hts := atoms_spec (ws := wgX1_init) B.pre
  have hw : ∀ w ∈ wG, w.before _ s = true := fun w h => hts w (List.mem_cons_of_mem _ h)
  have hown : s.vm.findClass RX1 = some m.cls := findClass_of_methodNamed B.named
  have hlocks := B.notSynchronized
  have hin : meth.name = "<init>" := (name_of_methodNamed B.named B.method).1
  subst hsz
  have hD := hD0.self (sz := s.heap.size)
  generalize hAe : va_A [(hn, .inr (1, [.null, .null, .null, .null, .int 0, .int 0, .int 0]))] s.heap.size = A at hD ⊢
  have hA : ∀ q : Nat, s.heap.size ≤ q → A q := fun q h => by rw [← hAe]; exact Or.inr h
  have hS : va_S A s.heap s.heap [] := va_S.rf
  have hl := lv_entry ([.ref hn, .ref tk]) (n := 2) (Nat.le_of_ble_eq_true rfl)
  rw [lg_entry_eq]
  generalize (lg_sl ([.ref hn, .ref tk]) ++ List.replicate (2 - (lg_sl ([.ref hn, .ref tk])).length) Slot.unset).toArray = ls at hl ⊢
  have hl : lv_has ls 2 [(0, .ref hn), (1, .ref tk)] := hl
  refine lv_aload_n hx hb dX1_init_0 rfl (lv_at hl 0 rfl) ?_
  refine W.objInit hx hb hown (hw _ nk_64) (hw _ nk_24) (hw _ nk_25) rfl (by rw [hml]; exact hl.1) rfl dX1_init_1 (Nat.le_of_ble_eq_true rfl) (Nat.le_of_ble_eq_true rfl) ?_
  refine W.eq (g2 := F0 m 4 ls []) rfl ?_
  refine lv_aload_n hx hb dX1_init_4 rfl (lv_at hl 0 rfl) ?_
  refine lv_bipush (v := 24) hx hb dX1_init_5 (by decide) ?_
  refine wn_newAq (n := 24) (N' := 24) (c0 := G.2 6) hx hb hown (hw _ nk_65) hAO.2.2.1 (hK.2 6 _ rfl).2 hP hD hS hA (by decide) (by decide) (by decide) (Nat.le_of_ble_eq_true rfl) (Nat.le_of_ble_eq_true rfl) dX1_init_7 (fun q1 H hP hD hS => ?_)
  have hP : va_P G.1 vwCl [(hn, .inr (1, [.null, .null, .null, .null, .int 0, .int 0, .int 0])), (q1, .inl (G.2 6, 24, .inr (.inr (.inr (.inr (fun _ => none))))))] H := hP
  have hD : va_D A [(hn, .inr (1, [.null, .null, .null, .null, .int 0, .int 0, .int 0])), (q1, .inl (G.2 6, 24, .inr (.inr (.inr (.inr (fun _ => none))))))] := hD
  refine W.widen (k := 1) (n := 24) (Nat.le_of_ble_eq_true rfl) (Nat.le_of_ble_eq_true rfl) ?_
  refine va_putF (D := G.1) (ci := 1) (v := .ref q1) (ty := (.array (.array .byte))) (C := RX1) (T := TX1) (N := 7) hx hb hw inGX1 tyX1 tyX1_ok nmX1 hown hK hP hD hS 0 rfl rfl 1 (by decide) (hw _ nk_66) (fun _ h9 => h9) rfl hin rfl (by decide +kernel) rfl rfl (Nat.le_of_ble_eq_true rfl) dX1_init_10 (fun H locs hP hD hS => ?_)
  have hP : va_P G.1 vwCl [(hn, .inr (1, [.null, .ref q1, .null, .null, .int 0, .int 0, .int 0])), (q1, .inl (G.2 6, 24, .inr (.inr (.inr (.inr (fun _ => none))))))] H := hP
  have hD : va_D A [(hn, .inr (1, [.null, .ref q1, .null, .null, .int 0, .int 0, .int 0])), (q1, .inl (G.2 6, 24, .inr (.inr (.inr (.inr (fun _ => none))))))] := hD
  refine lv_aload_n hx hb dX1_init_13 rfl (lv_at hl 0 rfl) ?_
  refine lv_bipush (v := 24) hx hb dX1_init_14 (by decide) ?_
  refine wn_newa (atype := .boolean) (ty := .boolean) (n := 24) (N' := 24) (a0 := (24, .inl (fun _ => 0))) hx hb (hw _ nk_67) rfl hK 2 rfl hP hD hS hA (fun _ => rfl) (by decide) (by decide) (by decide) (Nat.le_of_ble_eq_true rfl) (Nat.le_of_ble_eq_true rfl) dX1_init_16 (fun q2 H hP hD hS => ?_)
  have hP : va_P G.1 vwCl [(hn, .inr (1, [.null, .ref q1, .null, .null, .int 0, .int 0, .int 0])), (q1, .inl (G.2 6, 24, .inr (.inr (.inr (.inr (fun _ => none)))))), (q2, .inl (G.2 2, 24, .inl (fun _ => 0)))] H := hP
  have hD : va_D A [(hn, .inr (1, [.null, .ref q1, .null, .null, .int 0, .int 0, .int 0])), (q1, .inl (G.2 6, 24, .inr (.inr (.inr (.inr (fun _ => none)))))), (q2, .inl (G.2 2, 24, .inl (fun _ => 0)))] := hD
  refine W.widen (k := 2) (n := 48) (Nat.le_of_ble_eq_true rfl) (Nat.le_of_ble_eq_true rfl) ?_
  refine va_putF (D := G.1) (ci := 1) (v := .ref q2) (ty := (.array .boolean)) (C := RX1) (T := TX1) (N := 7) hx hb hw inGX1 tyX1 tyX1_ok nmX1 hown hK hP hD hS 0 rfl rfl 2 (by decide) (hw _ nk_68) (fun _ h9 => h9) rfl hin rfl (by decide +kernel) rfl rfl (Nat.le_of_ble_eq_true rfl) dX1_init_18 (fun H locs hP hD hS => ?_)
  have hP : va_P G.1 vwCl [(hn, .inr (1, [.null, .ref q1, .ref q2, .null, .int 0, .int 0, .int 0])), (q1, .inl (G.2 6, 24, .inr (.inr (.inr (.inr (fun _ => none)))))), (q2, .inl (G.2 2, 24, .inl (fun _ => 0)))] H := hP
  have hD : va_D A [(hn, .inr (1, [.null, .ref q1, .ref q2, .null, .int 0, .int 0, .int 0])), (q1, .inl (G.2 6, 24, .inr (.inr (.inr (.inr (fun _ => none)))))), (q2, .inl (G.2 2, 24, .inl (fun _ => 0)))] := hD
  refine lv_aload_n hx hb dX1_init_21 rfl (lv_at hl 0 rfl) ?_
  refine lv_sipush (v := 6416) hx hb dX1_init_22 (by decide) ?_
  refine wn_newa (atype := .int) (ty := .int) (n := 6416) (N' := 6416) (a0 := (6416, .inl (fun _ => 0))) hx hb (hw _ nk_29) rfl hK 0 rfl hP hD hS hA (fun _ => rfl) (by decide) (by decide) (by decide) (Nat.le_of_ble_eq_true rfl) (Nat.le_of_ble_eq_true rfl) dX1_init_25 (fun q3 H hP hD hS => ?_)
  have hP : va_P G.1 vwCl [(hn, .inr (1, [.null, .ref q1, .ref q2, .null, .int 0, .int 0, .int 0])), (q1, .inl (G.2 6, 24, .inr (.inr (.inr (.inr (fun _ => none)))))), (q2, .inl (G.2 2, 24, .inl (fun _ => 0))), (q3, .inl (G.2 0, 6416, .inl (fun _ => 0)))] H := hP
  have hD : va_D A [(hn, .inr (1, [.null, .ref q1, .ref q2, .null, .int 0, .int 0, .int 0])), (q1, .inl (G.2 6, 24, .inr (.inr (.inr (.inr (fun _ => none)))))), (q2, .inl (G.2 2, 24, .inl (fun _ => 0))), (q3, .inl (G.2 0, 6416, .inl (fun _ => 0)))] := hD
  refine W.widen (k := 3) (n := 6464) (Nat.le_of_ble_eq_true rfl) (Nat.le_of_ble_eq_true rfl) ?_
  refine va_putF (D := G.1) (ci := 1) (v := .ref q3) (ty := (.array .int)) (C := RX1) (T := TX1) (N := 7) hx hb hw inGX1 tyX1 tyX1_ok nmX1 hown hK hP hD hS 0 rfl rfl 3 (by decide) (hw _ nk_69) (fun _ h9 => h9) rfl hin rfl (by decide +kernel) rfl rfl (Nat.le_of_ble_eq_true rfl) dX1_init_27 (fun H locs hP hD hS => ?_)
  have hP : va_P G.1 vwCl [(hn, .inr (1, [.null, .ref q1, .ref q2, .ref q3, .int 0, .int 0, .int 0])), (q1, .inl (G.2 6, 24, .inr (.inr (.inr (.inr (fun _ => none)))))), (q2, .inl (G.2 2, 24, .inl (fun _ => 0))), (q3, .inl (G.2 0, 6416, .inl (fun _ => 0)))] H := hP
  have hD : va_D A [(hn, .inr (1, [.null, .ref q1, .ref q2, .ref q3, .int 0, .int 0, .int 0])), (q1, .inl (G.2 6, 24, .inr (.inr (.inr (.inr (fun _ => none)))))), (q2, .inl (G.2 2, 24, .inl (fun _ => 0))), (q3, .inl (G.2 0, 6416, .inl (fun _ => 0)))] := hD
  refine lv_aload_n hx hb dX1_init_30 rfl (lv_at hl 0 rfl) ?_
  refine lv_iconst (v := 0) hx hb dX1_init_31 (by decide) ?_
  refine va_put (D := G.1) (ci := 1) (v := .int 0) (ty := .int) (C := RX1) (T := TX1) (N := 7) hx hb hw inGX1 tyX1 tyX1_ok nmX1 hown hK hP hD hS 0 rfl rfl 4 (by decide) (hw _ nk_70) (fun _ h9 => h9) rfl (by decide +kernel) rfl rfl (Nat.le_of_ble_eq_true rfl) dX1_init_32 (fun H locs hP hD hS => ?_)
  have hP : va_P G.1 vwCl [(hn, .inr (1, [.null, .ref q1, .ref q2, .ref q3, .int 0, .int 0, .int 0])), (q1, .inl (G.2 6, 24, .inr (.inr (.inr (.inr (fun _ => none)))))), (q2, .inl (G.2 2, 24, .inl (fun _ => 0))), (q3, .inl (G.2 0, 6416, .inl (fun _ => 0)))] H := hP
  have hD : va_D A [(hn, .inr (1, [.null, .ref q1, .ref q2, .ref q3, .int 0, .int 0, .int 0])), (q1, .inl (G.2 6, 24, .inr (.inr (.inr (.inr (fun _ => none)))))), (q2, .inl (G.2 2, 24, .inl (fun _ => 0))), (q3, .inl (G.2 0, 6416, .inl (fun _ => 0)))] := hD
  refine lv_aload_n hx hb dX1_init_35 rfl (lv_at hl 0 rfl) ?_
  refine lv_iconst (v := 0) hx hb dX1_init_36 (by decide) ?_
  refine va_put (D := G.1) (ci := 1) (v := .int 0) (ty := .int) (C := RX1) (T := TX1) (N := 7) hx hb hw inGX1 tyX1 tyX1_ok nmX1 hown hK hP hD hS 0 rfl rfl 5 (by decide) (hw _ nk_71) (fun _ h9 => h9) rfl (by decide +kernel) rfl rfl (Nat.le_of_ble_eq_true rfl) dX1_init_37 (fun H locs hP hD hS => ?_)
  have hP : va_P G.1 vwCl [(hn, .inr (1, [.null, .ref q1, .ref q2, .ref q3, .int 0, .int 0, .int 0])), (q1, .inl (G.2 6, 24, .inr (.inr (.inr (.inr (fun _ => none)))))), (q2, .inl (G.2 2, 24, .inl (fun _ => 0))), (q3, .inl (G.2 0, 6416, .inl (fun _ => 0)))] H := hP
  have hD : va_D A [(hn, .inr (1, [.null, .ref q1, .ref q2, .ref q3, .int 0, .int 0, .int 0])), (q1, .inl (G.2 6, 24, .inr (.inr (.inr (.inr (fun _ => none)))))), (q2, .inl (G.2 2, 24, .inl (fun _ => 0))), (q3, .inl (G.2 0, 6416, .inl (fun _ => 0)))] := hD
  refine lv_aload_n hx hb dX1_init_40 rfl (lv_at hl 0 rfl) ?_
  refine lv_iconst (v := (-1)) hx hb dX1_init_41 (by decide) ?_
  refine va_put (D := G.1) (ci := 1) (v := .int (-1)) (ty := .int) (C := RX1) (T := TX1) (N := 7) hx hb hw inGX1 tyX1 tyX1_ok nmX1 hown hK hP hD hS 0 rfl rfl 6 (by decide) (hw _ nk_72) (fun _ h9 => h9) rfl (by decide +kernel) rfl rfl (Nat.le_of_ble_eq_true rfl) dX1_init_42 (fun H locs hP hD hS => ?_)
  have hP : va_P G.1 vwCl [(hn, .inr (1, [.null, .ref q1, .ref q2, .ref q3, .int 0, .int 0, .int (-1)])), (q1, .inl (G.2 6, 24, .inr (.inr (.inr (.inr (fun _ => none)))))), (q2, .inl (G.2 2, 24, .inl (fun _ => 0))), (q3, .inl (G.2 0, 6416, .inl (fun _ => 0)))] H := hP
  have hD : va_D A [(hn, .inr (1, [.null, .ref q1, .ref q2, .ref q3, .int 0, .int 0, .int (-1)])), (q1, .inl (G.2 6, 24, .inr (.inr (.inr (.inr (fun _ => none)))))), (q2, .inl (G.2 2, 24, .inl (fun _ => 0))), (q3, .inl (G.2 0, 6416, .inl (fun _ => 0)))] := hD
  refine lv_aload_n hx hb dX1_init_45 rfl (lv_at hl 0 rfl) ?_
  refine lv_aload_n hx hb dX1_init_46 rfl (lv_at hl 1 rfl) ?_
  refine va_putF (D := G.1) (ci := 1) (v := .ref tk) (ty := (.object "SlipCoach$Track")) (C := RX1) (T := TX1) (N := 7) hx hb hw inGX1 tyX1 tyX1_ok nmX1 hown hK hP hD hS 0 rfl rfl 0 (by decide) (hw _ nk_73) (fun _ h9 => h9) rfl hin rfl (by decide +kernel) rfl rfl (Nat.le_of_ble_eq_true rfl) dX1_init_47 (fun H locs hP hD hS => ?_)
  have hP : va_P G.1 vwCl [(hn, .inr (1, [.ref tk, .ref q1, .ref q2, .ref q3, .int 0, .int 0, .int (-1)])), (q1, .inl (G.2 6, 24, .inr (.inr (.inr (.inr (fun _ => none)))))), (q2, .inl (G.2 2, 24, .inl (fun _ => 0))), (q3, .inl (G.2 0, 6416, .inl (fun _ => 0)))] H := hP
  have hD : va_D A [(hn, .inr (1, [.ref tk, .ref q1, .ref q2, .ref q3, .int 0, .int 0, .int (-1)])), (q1, .inl (G.2 6, 24, .inr (.inr (.inr (.inr (fun _ => none)))))), (q2, .inl (G.2 2, 24, .inl (fun _ => 0))), (q3, .inl (G.2 0, 6416, .inl (fun _ => 0)))] := hD
  refine W.widen (k := 3) (n := 6464) (Nat.le_of_ble_eq_true rfl) (Nat.le_of_ble_eq_true rfl) ?_
  exact W.vret hx hb hr (fun t ht hW => ⟨⟨(q1, q2, q3), rfl, trivial, ⟨by rw [ht]; exact hP.sub [0, 1, 2, 3] rfl, hD.sub [0, 1, 2, 3] (by decide +kernel) rfl⟩⟩, hS.F ht⟩) hS.2.2 dX1_init_50
set_option maxHeartbeats 4000000 in
set_option maxRecDepth 100000 in
theorem c_newReach (l : Launch) (G : KG) (h0 : Nat) (sz : Nat) : Met l yX4_init wgX4_init ({ frames := 1, cells := 2, slots := 6817, locals := 20 }) (mpreQ G [.ref h0] sz [(h0, .inr (4, [.null, .null, .int 0]))]) (va_Qv (fun (u : Nat × Nat) => True) (fun u t => atQ G (va_A [(h0, .inr (4, [.null, .null, .int 0]))] sz) [(h0, .inr (4, [.ref u.1, .ref u.2, .int 0])), (u.1, .inl (G.2 0, 6416, .inl (fun _ => 0))), (u.2, .inl (G.2 0, 401, .inl (fun _ => 0)))] t) (va_A [(h0, .inr (4, [.null, .null, .int 0]))] sz)) 2 6817 (va_A [(h0, .inr (4, [.null, .null, .int 0]))] sz) := by
  refine Met.ofW (cc := cX4_init) (maxL := 1) (ret := none) (by decide) rfl ?_
  intro p e s m args below meth c s₁ B hml hv
  obtain ⟨rfl, hsz, hP, hKG, hD0⟩ := hv
  obtain ⟨hK, hAO⟩ := id hKG
  have hx := B.exec
  have hb := B.bytes
  have hr := B.returns
  have hts := atoms_spec (ws := wgX4_init) B.pre
  have hw : ∀ w ∈ wG, w.before _ s = true := fun w h => hts w (List.mem_cons_of_mem _ h)
  have hown : s.vm.findClass RX4 = some m.cls := findClass_of_methodNamed B.named
  have hlocks := B.notSynchronized
  have hin : meth.name = "<init>" := (name_of_methodNamed B.named B.method).1
  subst hsz
  have hD := hD0.self (sz := s.heap.size)
  generalize hAe : va_A [(h0, .inr (4, [.null, .null, .int 0]))] s.heap.size = A at hD ⊢
  have hA : ∀ q : Nat, s.heap.size ≤ q → A q := fun q h => by rw [← hAe]; exact Or.inr h
  have hS : va_S A s.heap s.heap [] := va_S.rf
  have hl := lv_entry ([.ref h0]) (n := 1) (Nat.le_of_ble_eq_true rfl)
  rw [lg_entry_eq]
  generalize (lg_sl ([.ref h0]) ++ List.replicate (1 - (lg_sl ([.ref h0])).length) Slot.unset).toArray = ls at hl ⊢
  have hl : lv_has ls 1 [(0, .ref h0)] := hl
  refine lv_aload_n hx hb dX4_init_0 rfl (lv_at hl 0 rfl) ?_
  refine W.objInit hx hb hown (hw _ nk_74) (hw _ nk_24) (hw _ nk_25) rfl (by rw [hml]; exact hl.1) rfl dX4_init_1 (Nat.le_of_ble_eq_true rfl) (Nat.le_of_ble_eq_true rfl) ?_
  refine W.eq (g2 := F0 m 4 ls []) rfl ?_
  refine lv_aload_n hx hb dX4_init_4 rfl (lv_at hl 0 rfl) ?_
  refine lv_sipush (v := 6416) hx hb dX4_init_5 (by decide) ?_
  refine wn_newa (atype := .int) (ty := .int) (n := 6416) (N' := 6416) (a0 := (6416, .inl (fun _ => 0))) hx hb (hw _ nk_29) rfl hK 0 rfl hP hD hS hA (fun _ => rfl) (by decide) (by decide) (by decide) (Nat.le_of_ble_eq_true rfl) (Nat.le_of_ble_eq_true rfl) dX4_init_8 (fun q1 H hP hD hS => ?_)
  have hP : va_P G.1 vwCl [(h0, .inr (4, [.null, .null, .int 0])), (q1, .inl (G.2 0, 6416, .inl (fun _ => 0)))] H := hP
  have hD : va_D A [(h0, .inr (4, [.null, .null, .int 0])), (q1, .inl (G.2 0, 6416, .inl (fun _ => 0)))] := hD
  refine W.widen (k := 1) (n := 6416) (Nat.le_of_ble_eq_true rfl) (Nat.le_of_ble_eq_true rfl) ?_
  refine va_putF (D := G.1) (ci := 4) (v := .ref q1) (ty := (.array .int)) (C := RX4) (T := TX4) (N := 3) hx hb hw inGX4 tyX4 tyX4_ok nmX4 hown hK hP hD hS 0 rfl rfl 0 (by decide) (hw _ nk_75) (fun _ h9 => h9) rfl hin rfl (by decide +kernel) rfl rfl (Nat.le_of_ble_eq_true rfl) dX4_init_10 (fun H locs hP hD hS => ?_)
  have hP : va_P G.1 vwCl [(h0, .inr (4, [.ref q1, .null, .int 0])), (q1, .inl (G.2 0, 6416, .inl (fun _ => 0)))] H := hP
  have hD : va_D A [(h0, .inr (4, [.ref q1, .null, .int 0])), (q1, .inl (G.2 0, 6416, .inl (fun _ => 0)))] := hD
  refine lv_aload_n hx hb dX4_init_13 rfl (lv_at hl 0 rfl) ?_
  refine lv_sipush (v := 401) hx hb dX4_init_14 (by decide) ?_
  refine wn_newa (atype := .int) (ty := .int) (n := 401) (N' := 401) (a0 := (401, .inl (fun _ => 0))) hx hb (hw _ nk_29) rfl hK 0 rfl hP hD hS hA (fun _ => rfl) (by decide) (by decide) (by decide) (Nat.le_of_ble_eq_true rfl) (Nat.le_of_ble_eq_true rfl) dX4_init_17 (fun q2 H hP hD hS => ?_)
  have hP : va_P G.1 vwCl [(h0, .inr (4, [.ref q1, .null, .int 0])), (q1, .inl (G.2 0, 6416, .inl (fun _ => 0))), (q2, .inl (G.2 0, 401, .inl (fun _ => 0)))] H := hP
  have hD : va_D A [(h0, .inr (4, [.ref q1, .null, .int 0])), (q1, .inl (G.2 0, 6416, .inl (fun _ => 0))), (q2, .inl (G.2 0, 401, .inl (fun _ => 0)))] := hD
  refine W.widen (k := 2) (n := 6817) (Nat.le_of_ble_eq_true rfl) (Nat.le_of_ble_eq_true rfl) ?_
  refine va_putF (D := G.1) (ci := 4) (v := .ref q2) (ty := (.array .int)) (C := RX4) (T := TX4) (N := 3) hx hb hw inGX4 tyX4 tyX4_ok nmX4 hown hK hP hD hS 0 rfl rfl 1 (by decide) (hw _ nk_76) (fun _ h9 => h9) rfl hin rfl (by decide +kernel) rfl rfl (Nat.le_of_ble_eq_true rfl) dX4_init_19 (fun H locs hP hD hS => ?_)
  have hP : va_P G.1 vwCl [(h0, .inr (4, [.ref q1, .ref q2, .int 0])), (q1, .inl (G.2 0, 6416, .inl (fun _ => 0))), (q2, .inl (G.2 0, 401, .inl (fun _ => 0)))] H := hP
  have hD : va_D A [(h0, .inr (4, [.ref q1, .ref q2, .int 0])), (q1, .inl (G.2 0, 6416, .inl (fun _ => 0))), (q2, .inl (G.2 0, 401, .inl (fun _ => 0)))] := hD
  refine lv_aload_n hx hb dX4_init_22 rfl (lv_at hl 0 rfl) ?_
  refine lv_iconst (v := 0) hx hb dX4_init_23 (by decide) ?_
  refine va_put (D := G.1) (ci := 4) (v := .int 0) (ty := .int) (C := RX4) (T := TX4) (N := 3) hx hb hw inGX4 tyX4 tyX4_ok nmX4 hown hK hP hD hS 0 rfl rfl 2 (by decide) (hw _ nk_77) (fun _ h9 => h9) rfl (by decide +kernel) rfl rfl (Nat.le_of_ble_eq_true rfl) dX4_init_24 (fun H locs hP hD hS => ?_)
  have hP : va_P G.1 vwCl [(h0, .inr (4, [.ref q1, .ref q2, .int 0])), (q1, .inl (G.2 0, 6416, .inl (fun _ => 0))), (q2, .inl (G.2 0, 401, .inl (fun _ => 0)))] H := hP
  have hD : va_D A [(h0, .inr (4, [.ref q1, .ref q2, .int 0])), (q1, .inl (G.2 0, 6416, .inl (fun _ => 0))), (q2, .inl (G.2 0, 401, .inl (fun _ => 0)))] := hD
  refine W.widen (k := 2) (n := 6817) (Nat.le_of_ble_eq_true rfl) (Nat.le_of_ble_eq_true rfl) ?_
  exact W.vret hx hb hr (fun t ht hW => ⟨⟨(q1, q2), rfl, trivial, ⟨by rw [ht]; exact hP.sub [0, 1, 2] rfl, hD.sub [0, 1, 2] (by decide +kernel) rfl⟩⟩, hS.F ht⟩) hS.2.2 dX4_init_27
set_option maxHeartbeats 4000000 in
set_option maxRecDepth 100000 in
theorem c_newJourney (l : Launch) (G : KG) (h0 : Nat) (b0 : Nat) (b1 : Nat) (sz : Nat) : Met l yX2_init wgX2_init ({ frames := 1, cells := 12, slots := 10637, locals := 23 }) (mpreQ G [.ref h0, .ref b0, .ref b1] sz [(h0, .inr (2, [.null, .null, .null, .null, .null, .null, .null, .null, .null, .null, .null, .null, .null, .int 0, .null]))]) (va_Qv (fun (u : Nat × Nat × Nat × Nat × Nat × Nat × Nat × Nat × Nat × Nat × Nat × Nat × (Nat → Int32)) => True) (fun u t => atQ G (va_A [(h0, .inr (2, [.null, .null, .null, .null, .null, .null, .null, .null, .null, .null, .null, .null, .null, .int 0, .null]))] sz) [(h0, .inr (2, [.ref b0, .ref b1, .ref u.1, .ref u.2.1, .ref u.2.2.1, .ref u.2.2.2.1, .ref u.2.2.2.2.1, .ref u.2.2.2.2.2.1, .ref u.2.2.2.2.2.2.1, .ref u.2.2.2.2.2.2.2.1, .ref u.2.2.2.2.2.2.2.2.1, .ref u.2.2.2.2.2.2.2.2.2.1, .ref u.2.2.2.2.2.2.2.2.2.2.1, .int 0, .ref u.2.2.2.2.2.2.2.2.2.2.2.1])), (u.1, .inl (G.2 0, 2020, .inl (fun _ => 0))), (u.2.1, .inl (G.2 0, 2020, .inl (fun _ => 0))), (u.2.2.1, .inl (G.2 0, 5, .inl (fun _ => 0))), (u.2.2.2.1, .inl (G.2 0, 16, .inl (fun _ => 0))), (u.2.2.2.2.1, .inl (G.2 0, 16, .inl (fun _ => 0))), (u.2.2.2.2.2.1, .inl (G.2 0, 16, .inl (fun _ => 0))), (u.2.2.2.2.2.2.1, .inl (G.2 0, 6464, .inl (fun _ => 0))), (u.2.2.2.2.2.2.2.1, .inl (G.2 0, 16, .inl (fun _ => 0))), (u.2.2.2.2.2.2.2.2.1, .inl (G.2 2, 16, .inl (fun _ => 0))), (u.2.2.2.2.2.2.2.2.2.1, .inl (G.2 2, 16, .inl (fun _ => 0))), (u.2.2.2.2.2.2.2.2.2.2.1, .inl (G.2 0, 16, .inl (u.2.2.2.2.2.2.2.2.2.2.2.2))), (u.2.2.2.2.2.2.2.2.2.2.2.1, .inl (G.2 0, 16, .inl (fun _ => 0)))] t) (va_A [(h0, .inr (2, [.null, .null, .null, .null, .null, .null, .null, .null, .null, .null, .null, .null, .null, .int 0, .null]))] sz)) 12 10637 (va_A [(h0, .inr (2, [.null, .null, .null, .null, .null, .null, .null, .null, .null, .null, .null, .null, .null, .int 0, .null]))] sz) := by
  refine Met.ofW (cc := cX2_init) (maxL := 3) (ret := none) (by decide) rfl ?_
  intro p e s m args below meth c s₁ B hml hv
  obtain ⟨rfl, hsz, hP, hKG, hD0⟩ := hv
  obtain ⟨hK, hAO⟩ := id hKG
  have hx := B.exec
  have hb := B.bytes
  have hr := B.returns
  have hts := atoms_spec (ws := wgX2_init) B.pre
  have hw : ∀ w ∈ wG, w.before _ s = true := fun w h => hts w (List.mem_cons_of_mem _ h)
  have hown : s.vm.findClass RX2 = some m.cls := findClass_of_methodNamed B.named
  have hlocks := B.notSynchronized
  have hin : meth.name = "<init>" := (name_of_methodNamed B.named B.method).1
  subst hsz
  have hD := hD0.self (sz := s.heap.size)
  generalize hAe : va_A [(h0, .inr (2, [.null, .null, .null, .null, .null, .null, .null, .null, .null, .null, .null, .null, .null, .int 0, .null]))] s.heap.size = A at hD ⊢
  have hA : ∀ q : Nat, s.heap.size ≤ q → A q := fun q h => by rw [← hAe]; exact Or.inr h
  have hS : va_S A s.heap s.heap [] := va_S.rf
  have hl := lv_entry ([.ref h0, .ref b0, .ref b1]) (n := 3) (Nat.le_of_ble_eq_true rfl)
  rw [lg_entry_eq]
  generalize (lg_sl ([.ref h0, .ref b0, .ref b1]) ++ List.replicate (3 - (lg_sl ([.ref h0, .ref b0, .ref b1])).length) Slot.unset).toArray = ls at hl ⊢
  have hl : lv_has ls 3 [(0, .ref h0), (1, .ref b0), (2, .ref b1)] := hl
  refine lv_aload_n hx hb dX2_init_0 rfl (lv_at hl 0 rfl) ?_
  refine W.objInit hx hb hown (hw _ nk_78) (hw _ nk_24) (hw _ nk_25) rfl (by rw [hml]; exact hl.1) rfl dX2_init_1 (Nat.le_of_ble_eq_true rfl) (Nat.le_of_ble_eq_true rfl) ?_
  refine W.eq (g2 := F0 m 4 ls []) rfl ?_
  refine lv_aload_n hx hb dX2_init_4 rfl (lv_at hl 0 rfl) ?_
  refine lv_sipush (v := 2020) hx hb dX2_init_5 (by decide) ?_
  refine wn_newa (atype := .int) (ty := .int) (n := 2020) (N' := 2020) (a0 := (2020, .inl (fun _ => 0))) hx hb (hw _ nk_29) rfl hK 0 rfl hP hD hS hA (fun _ => rfl) (by decide) (by decide) (by decide) (Nat.le_of_ble_eq_true rfl) (Nat.le_of_ble_eq_true rfl) dX2_init_8 (fun q1 H hP hD hS => ?_)
  have hP : va_P G.1 vwCl [(h0, .inr (2, [.null, .null, .null, .null, .null, .null, .null, .null, .null, .null, .null, .null, .null, .int 0, .null])), (q1, .inl (G.2 0, 2020, .inl (fun _ => 0)))] H := hP
  have hD : va_D A [(h0, .inr (2, [.null, .null, .null, .null, .null, .null, .null, .null, .null, .null, .null, .null, .null, .int 0, .null])), (q1, .inl (G.2 0, 2020, .inl (fun _ => 0)))] := hD
  refine W.widen (k := 1) (n := 2020) (Nat.le_of_ble_eq_true rfl) (Nat.le_of_ble_eq_true rfl) ?_
  refine va_putF (D := G.1) (ci := 2) (v := .ref q1) (ty := (.array .int)) (C := RX2) (T := TX2) (N := 15) hx hb hw inGX2 tyX2 tyX2_ok nmX2 hown hK hP hD hS 0 rfl rfl 2 (by decide) (hw _ nk_79) (fun _ h9 => h9) rfl hin rfl (by decide +kernel) rfl rfl (Nat.le_of_ble_eq_true rfl) dX2_init_10 (fun H locs hP hD hS => ?_)
  have hP : va_P G.1 vwCl [(h0, .inr (2, [.null, .null, .ref q1, .null, .null, .null, .null, .null, .null, .null, .null, .null, .null, .int 0, .null])), (q1, .inl (G.2 0, 2020, .inl (fun _ => 0)))] H := hP
  have hD : va_D A [(h0, .inr (2, [.null, .null, .ref q1, .null, .null, .null, .null, .null, .null, .null, .null, .null, .null, .int 0, .null])), (q1, .inl (G.2 0, 2020, .inl (fun _ => 0)))] := hD
  refine lv_aload_n hx hb dX2_init_13 rfl (lv_at hl 0 rfl) ?_
  refine lv_sipush (v := 2020) hx hb dX2_init_14 (by decide) ?_
  refine wn_newa (atype := .int) (ty := .int) (n := 2020) (N' := 2020) (a0 := (2020, .inl (fun _ => 0))) hx hb (hw _ nk_29) rfl hK 0 rfl hP hD hS hA (fun _ => rfl) (by decide) (by decide) (by decide) (Nat.le_of_ble_eq_true rfl) (Nat.le_of_ble_eq_true rfl) dX2_init_17 (fun q2 H hP hD hS => ?_)
  have hP : va_P G.1 vwCl [(h0, .inr (2, [.null, .null, .ref q1, .null, .null, .null, .null, .null, .null, .null, .null, .null, .null, .int 0, .null])), (q1, .inl (G.2 0, 2020, .inl (fun _ => 0))), (q2, .inl (G.2 0, 2020, .inl (fun _ => 0)))] H := hP
  have hD : va_D A [(h0, .inr (2, [.null, .null, .ref q1, .null, .null, .null, .null, .null, .null, .null, .null, .null, .null, .int 0, .null])), (q1, .inl (G.2 0, 2020, .inl (fun _ => 0))), (q2, .inl (G.2 0, 2020, .inl (fun _ => 0)))] := hD
  refine W.widen (k := 2) (n := 4040) (Nat.le_of_ble_eq_true rfl) (Nat.le_of_ble_eq_true rfl) ?_
  refine va_putF (D := G.1) (ci := 2) (v := .ref q2) (ty := (.array .int)) (C := RX2) (T := TX2) (N := 15) hx hb hw inGX2 tyX2 tyX2_ok nmX2 hown hK hP hD hS 0 rfl rfl 3 (by decide) (hw _ nk_80) (fun _ h9 => h9) rfl hin rfl (by decide +kernel) rfl rfl (Nat.le_of_ble_eq_true rfl) dX2_init_19 (fun H locs hP hD hS => ?_)
  have hP : va_P G.1 vwCl [(h0, .inr (2, [.null, .null, .ref q1, .ref q2, .null, .null, .null, .null, .null, .null, .null, .null, .null, .int 0, .null])), (q1, .inl (G.2 0, 2020, .inl (fun _ => 0))), (q2, .inl (G.2 0, 2020, .inl (fun _ => 0)))] H := hP
  have hD : va_D A [(h0, .inr (2, [.null, .null, .ref q1, .ref q2, .null, .null, .null, .null, .null, .null, .null, .null, .null, .int 0, .null])), (q1, .inl (G.2 0, 2020, .inl (fun _ => 0))), (q2, .inl (G.2 0, 2020, .inl (fun _ => 0)))] := hD
  refine lv_aload_n hx hb dX2_init_22 rfl (lv_at hl 0 rfl) ?_
  refine lv_iconst (v := 5) hx hb dX2_init_23 (by decide) ?_
  refine wn_newa (atype := .int) (ty := .int) (n := 5) (N' := 5) (a0 := (5, .inl (fun _ => 0))) hx hb (hw _ nk_29) rfl hK 0 rfl hP hD hS hA (fun _ => rfl) (by decide) (by decide) (by decide) (Nat.le_of_ble_eq_true rfl) (Nat.le_of_ble_eq_true rfl) dX2_init_24 (fun q3 H hP hD hS => ?_)
  have hP : va_P G.1 vwCl [(h0, .inr (2, [.null, .null, .ref q1, .ref q2, .null, .null, .null, .null, .null, .null, .null, .null, .null, .int 0, .null])), (q1, .inl (G.2 0, 2020, .inl (fun _ => 0))), (q2, .inl (G.2 0, 2020, .inl (fun _ => 0))), (q3, .inl (G.2 0, 5, .inl (fun _ => 0)))] H := hP
  have hD : va_D A [(h0, .inr (2, [.null, .null, .ref q1, .ref q2, .null, .null, .null, .null, .null, .null, .null, .null, .null, .int 0, .null])), (q1, .inl (G.2 0, 2020, .inl (fun _ => 0))), (q2, .inl (G.2 0, 2020, .inl (fun _ => 0))), (q3, .inl (G.2 0, 5, .inl (fun _ => 0)))] := hD
  refine W.widen (k := 3) (n := 4045) (Nat.le_of_ble_eq_true rfl) (Nat.le_of_ble_eq_true rfl) ?_
  refine va_putF (D := G.1) (ci := 2) (v := .ref q3) (ty := (.array .int)) (C := RX2) (T := TX2) (N := 15) hx hb hw inGX2 tyX2 tyX2_ok nmX2 hown hK hP hD hS 0 rfl rfl 4 (by decide) (hw _ nk_81) (fun _ h9 => h9) rfl hin rfl (by decide +kernel) rfl rfl (Nat.le_of_ble_eq_true rfl) dX2_init_26 (fun H locs hP hD hS => ?_)
  have hP : va_P G.1 vwCl [(h0, .inr (2, [.null, .null, .ref q1, .ref q2, .ref q3, .null, .null, .null, .null, .null, .null, .null, .null, .int 0, .null])), (q1, .inl (G.2 0, 2020, .inl (fun _ => 0))), (q2, .inl (G.2 0, 2020, .inl (fun _ => 0))), (q3, .inl (G.2 0, 5, .inl (fun _ => 0)))] H := hP
  have hD : va_D A [(h0, .inr (2, [.null, .null, .ref q1, .ref q2, .ref q3, .null, .null, .null, .null, .null, .null, .null, .null, .int 0, .null])), (q1, .inl (G.2 0, 2020, .inl (fun _ => 0))), (q2, .inl (G.2 0, 2020, .inl (fun _ => 0))), (q3, .inl (G.2 0, 5, .inl (fun _ => 0)))] := hD
  refine lv_aload_n hx hb dX2_init_29 rfl (lv_at hl 0 rfl) ?_
  refine lv_bipush (v := 16) hx hb dX2_init_30 (by decide) ?_
  refine wn_newa (atype := .int) (ty := .int) (n := 16) (N' := 16) (a0 := (16, .inl (fun _ => 0))) hx hb (hw _ nk_29) rfl hK 0 rfl hP hD hS hA (fun _ => rfl) (by decide) (by decide) (by decide) (Nat.le_of_ble_eq_true rfl) (Nat.le_of_ble_eq_true rfl) dX2_init_32 (fun q4 H hP hD hS => ?_)
  have hP : va_P G.1 vwCl [(h0, .inr (2, [.null, .null, .ref q1, .ref q2, .ref q3, .null, .null, .null, .null, .null, .null, .null, .null, .int 0, .null])), (q1, .inl (G.2 0, 2020, .inl (fun _ => 0))), (q2, .inl (G.2 0, 2020, .inl (fun _ => 0))), (q3, .inl (G.2 0, 5, .inl (fun _ => 0))), (q4, .inl (G.2 0, 16, .inl (fun _ => 0)))] H := hP
  have hD : va_D A [(h0, .inr (2, [.null, .null, .ref q1, .ref q2, .ref q3, .null, .null, .null, .null, .null, .null, .null, .null, .int 0, .null])), (q1, .inl (G.2 0, 2020, .inl (fun _ => 0))), (q2, .inl (G.2 0, 2020, .inl (fun _ => 0))), (q3, .inl (G.2 0, 5, .inl (fun _ => 0))), (q4, .inl (G.2 0, 16, .inl (fun _ => 0)))] := hD
  refine W.widen (k := 4) (n := 4061) (Nat.le_of_ble_eq_true rfl) (Nat.le_of_ble_eq_true rfl) ?_
  refine va_putF (D := G.1) (ci := 2) (v := .ref q4) (ty := (.array .int)) (C := RX2) (T := TX2) (N := 15) hx hb hw inGX2 tyX2 tyX2_ok nmX2 hown hK hP hD hS 0 rfl rfl 5 (by decide) (hw _ nk_82) (fun _ h9 => h9) rfl hin rfl (by decide +kernel) rfl rfl (Nat.le_of_ble_eq_true rfl) dX2_init_34 (fun H locs hP hD hS => ?_)
  have hP : va_P G.1 vwCl [(h0, .inr (2, [.null, .null, .ref q1, .ref q2, .ref q3, .ref q4, .null, .null, .null, .null, .null, .null, .null, .int 0, .null])), (q1, .inl (G.2 0, 2020, .inl (fun _ => 0))), (q2, .inl (G.2 0, 2020, .inl (fun _ => 0))), (q3, .inl (G.2 0, 5, .inl (fun _ => 0))), (q4, .inl (G.2 0, 16, .inl (fun _ => 0)))] H := hP
  have hD : va_D A [(h0, .inr (2, [.null, .null, .ref q1, .ref q2, .ref q3, .ref q4, .null, .null, .null, .null, .null, .null, .null, .int 0, .null])), (q1, .inl (G.2 0, 2020, .inl (fun _ => 0))), (q2, .inl (G.2 0, 2020, .inl (fun _ => 0))), (q3, .inl (G.2 0, 5, .inl (fun _ => 0))), (q4, .inl (G.2 0, 16, .inl (fun _ => 0)))] := hD
  refine lv_aload_n hx hb dX2_init_37 rfl (lv_at hl 0 rfl) ?_
  refine lv_bipush (v := 16) hx hb dX2_init_38 (by decide) ?_
  refine wn_newa (atype := .int) (ty := .int) (n := 16) (N' := 16) (a0 := (16, .inl (fun _ => 0))) hx hb (hw _ nk_29) rfl hK 0 rfl hP hD hS hA (fun _ => rfl) (by decide) (by decide) (by decide) (Nat.le_of_ble_eq_true rfl) (Nat.le_of_ble_eq_true rfl) dX2_init_40 (fun q5 H hP hD hS => ?_)
  have hP : va_P G.1 vwCl [(h0, .inr (2, [.null, .null, .ref q1, .ref q2, .ref q3, .ref q4, .null, .null, .null, .null, .null, .null, .null, .int 0, .null])), (q1, .inl (G.2 0, 2020, .inl (fun _ => 0))), (q2, .inl (G.2 0, 2020, .inl (fun _ => 0))), (q3, .inl (G.2 0, 5, .inl (fun _ => 0))), (q4, .inl (G.2 0, 16, .inl (fun _ => 0))), (q5, .inl (G.2 0, 16, .inl (fun _ => 0)))] H := hP
  have hD : va_D A [(h0, .inr (2, [.null, .null, .ref q1, .ref q2, .ref q3, .ref q4, .null, .null, .null, .null, .null, .null, .null, .int 0, .null])), (q1, .inl (G.2 0, 2020, .inl (fun _ => 0))), (q2, .inl (G.2 0, 2020, .inl (fun _ => 0))), (q3, .inl (G.2 0, 5, .inl (fun _ => 0))), (q4, .inl (G.2 0, 16, .inl (fun _ => 0))), (q5, .inl (G.2 0, 16, .inl (fun _ => 0)))] := hD
  refine W.widen (k := 5) (n := 4077) (Nat.le_of_ble_eq_true rfl) (Nat.le_of_ble_eq_true rfl) ?_
  refine va_putF (D := G.1) (ci := 2) (v := .ref q5) (ty := (.array .int)) (C := RX2) (T := TX2) (N := 15) hx hb hw inGX2 tyX2 tyX2_ok nmX2 hown hK hP hD hS 0 rfl rfl 6 (by decide) (hw _ nk_83) (fun _ h9 => h9) rfl hin rfl (by decide +kernel) rfl rfl (Nat.le_of_ble_eq_true rfl) dX2_init_42 (fun H locs hP hD hS => ?_)
  have hP : va_P G.1 vwCl [(h0, .inr (2, [.null, .null, .ref q1, .ref q2, .ref q3, .ref q4, .ref q5, .null, .null, .null, .null, .null, .null, .int 0, .null])), (q1, .inl (G.2 0, 2020, .inl (fun _ => 0))), (q2, .inl (G.2 0, 2020, .inl (fun _ => 0))), (q3, .inl (G.2 0, 5, .inl (fun _ => 0))), (q4, .inl (G.2 0, 16, .inl (fun _ => 0))), (q5, .inl (G.2 0, 16, .inl (fun _ => 0)))] H := hP
  have hD : va_D A [(h0, .inr (2, [.null, .null, .ref q1, .ref q2, .ref q3, .ref q4, .ref q5, .null, .null, .null, .null, .null, .null, .int 0, .null])), (q1, .inl (G.2 0, 2020, .inl (fun _ => 0))), (q2, .inl (G.2 0, 2020, .inl (fun _ => 0))), (q3, .inl (G.2 0, 5, .inl (fun _ => 0))), (q4, .inl (G.2 0, 16, .inl (fun _ => 0))), (q5, .inl (G.2 0, 16, .inl (fun _ => 0)))] := hD
  refine lv_aload_n hx hb dX2_init_45 rfl (lv_at hl 0 rfl) ?_
  refine lv_bipush (v := 16) hx hb dX2_init_46 (by decide) ?_
  refine wn_newa (atype := .int) (ty := .int) (n := 16) (N' := 16) (a0 := (16, .inl (fun _ => 0))) hx hb (hw _ nk_29) rfl hK 0 rfl hP hD hS hA (fun _ => rfl) (by decide) (by decide) (by decide) (Nat.le_of_ble_eq_true rfl) (Nat.le_of_ble_eq_true rfl) dX2_init_48 (fun q6 H hP hD hS => ?_)
  have hP : va_P G.1 vwCl [(h0, .inr (2, [.null, .null, .ref q1, .ref q2, .ref q3, .ref q4, .ref q5, .null, .null, .null, .null, .null, .null, .int 0, .null])), (q1, .inl (G.2 0, 2020, .inl (fun _ => 0))), (q2, .inl (G.2 0, 2020, .inl (fun _ => 0))), (q3, .inl (G.2 0, 5, .inl (fun _ => 0))), (q4, .inl (G.2 0, 16, .inl (fun _ => 0))), (q5, .inl (G.2 0, 16, .inl (fun _ => 0))), (q6, .inl (G.2 0, 16, .inl (fun _ => 0)))] H := hP
  have hD : va_D A [(h0, .inr (2, [.null, .null, .ref q1, .ref q2, .ref q3, .ref q4, .ref q5, .null, .null, .null, .null, .null, .null, .int 0, .null])), (q1, .inl (G.2 0, 2020, .inl (fun _ => 0))), (q2, .inl (G.2 0, 2020, .inl (fun _ => 0))), (q3, .inl (G.2 0, 5, .inl (fun _ => 0))), (q4, .inl (G.2 0, 16, .inl (fun _ => 0))), (q5, .inl (G.2 0, 16, .inl (fun _ => 0))), (q6, .inl (G.2 0, 16, .inl (fun _ => 0)))] := hD
  refine W.widen (k := 6) (n := 4093) (Nat.le_of_ble_eq_true rfl) (Nat.le_of_ble_eq_true rfl) ?_
  refine va_putF (D := G.1) (ci := 2) (v := .ref q6) (ty := (.array .int)) (C := RX2) (T := TX2) (N := 15) hx hb hw inGX2 tyX2 tyX2_ok nmX2 hown hK hP hD hS 0 rfl rfl 7 (by decide) (hw _ nk_84) (fun _ h9 => h9) rfl hin rfl (by decide +kernel) rfl rfl (Nat.le_of_ble_eq_true rfl) dX2_init_50 (fun H locs hP hD hS => ?_)
  have hP : va_P G.1 vwCl [(h0, .inr (2, [.null, .null, .ref q1, .ref q2, .ref q3, .ref q4, .ref q5, .ref q6, .null, .null, .null, .null, .null, .int 0, .null])), (q1, .inl (G.2 0, 2020, .inl (fun _ => 0))), (q2, .inl (G.2 0, 2020, .inl (fun _ => 0))), (q3, .inl (G.2 0, 5, .inl (fun _ => 0))), (q4, .inl (G.2 0, 16, .inl (fun _ => 0))), (q5, .inl (G.2 0, 16, .inl (fun _ => 0))), (q6, .inl (G.2 0, 16, .inl (fun _ => 0)))] H := hP
  have hD : va_D A [(h0, .inr (2, [.null, .null, .ref q1, .ref q2, .ref q3, .ref q4, .ref q5, .ref q6, .null, .null, .null, .null, .null, .int 0, .null])), (q1, .inl (G.2 0, 2020, .inl (fun _ => 0))), (q2, .inl (G.2 0, 2020, .inl (fun _ => 0))), (q3, .inl (G.2 0, 5, .inl (fun _ => 0))), (q4, .inl (G.2 0, 16, .inl (fun _ => 0))), (q5, .inl (G.2 0, 16, .inl (fun _ => 0))), (q6, .inl (G.2 0, 16, .inl (fun _ => 0)))] := hD
  refine lv_aload_n hx hb dX2_init_53 rfl (lv_at hl 0 rfl) ?_
  refine lv_sipush (v := 6464) hx hb dX2_init_54 (by decide) ?_
  refine wn_newa (atype := .int) (ty := .int) (n := 6464) (N' := 6464) (a0 := (6464, .inl (fun _ => 0))) hx hb (hw _ nk_29) rfl hK 0 rfl hP hD hS hA (fun _ => rfl) (by decide) (by decide) (by decide) (Nat.le_of_ble_eq_true rfl) (Nat.le_of_ble_eq_true rfl) dX2_init_57 (fun q7 H hP hD hS => ?_)
  have hP : va_P G.1 vwCl [(h0, .inr (2, [.null, .null, .ref q1, .ref q2, .ref q3, .ref q4, .ref q5, .ref q6, .null, .null, .null, .null, .null, .int 0, .null])), (q1, .inl (G.2 0, 2020, .inl (fun _ => 0))), (q2, .inl (G.2 0, 2020, .inl (fun _ => 0))), (q3, .inl (G.2 0, 5, .inl (fun _ => 0))), (q4, .inl (G.2 0, 16, .inl (fun _ => 0))), (q5, .inl (G.2 0, 16, .inl (fun _ => 0))), (q6, .inl (G.2 0, 16, .inl (fun _ => 0))), (q7, .inl (G.2 0, 6464, .inl (fun _ => 0)))] H := hP
  have hD : va_D A [(h0, .inr (2, [.null, .null, .ref q1, .ref q2, .ref q3, .ref q4, .ref q5, .ref q6, .null, .null, .null, .null, .null, .int 0, .null])), (q1, .inl (G.2 0, 2020, .inl (fun _ => 0))), (q2, .inl (G.2 0, 2020, .inl (fun _ => 0))), (q3, .inl (G.2 0, 5, .inl (fun _ => 0))), (q4, .inl (G.2 0, 16, .inl (fun _ => 0))), (q5, .inl (G.2 0, 16, .inl (fun _ => 0))), (q6, .inl (G.2 0, 16, .inl (fun _ => 0))), (q7, .inl (G.2 0, 6464, .inl (fun _ => 0)))] := hD
  refine W.widen (k := 7) (n := 10557) (Nat.le_of_ble_eq_true rfl) (Nat.le_of_ble_eq_true rfl) ?_
  refine va_putF (D := G.1) (ci := 2) (v := .ref q7) (ty := (.array .int)) (C := RX2) (T := TX2) (N := 15) hx hb hw inGX2 tyX2 tyX2_ok nmX2 hown hK hP hD hS 0 rfl rfl 8 (by decide) (hw _ nk_85) (fun _ h9 => h9) rfl hin rfl (by decide +kernel) rfl rfl (Nat.le_of_ble_eq_true rfl) dX2_init_59 (fun H locs hP hD hS => ?_)
  have hP : va_P G.1 vwCl [(h0, .inr (2, [.null, .null, .ref q1, .ref q2, .ref q3, .ref q4, .ref q5, .ref q6, .ref q7, .null, .null, .null, .null, .int 0, .null])), (q1, .inl (G.2 0, 2020, .inl (fun _ => 0))), (q2, .inl (G.2 0, 2020, .inl (fun _ => 0))), (q3, .inl (G.2 0, 5, .inl (fun _ => 0))), (q4, .inl (G.2 0, 16, .inl (fun _ => 0))), (q5, .inl (G.2 0, 16, .inl (fun _ => 0))), (q6, .inl (G.2 0, 16, .inl (fun _ => 0))), (q7, .inl (G.2 0, 6464, .inl (fun _ => 0)))] H := hP
  have hD : va_D A [(h0, .inr (2, [.null, .null, .ref q1, .ref q2, .ref q3, .ref q4, .ref q5, .ref q6, .ref q7, .null, .null, .null, .null, .int 0, .null])), (q1, .inl (G.2 0, 2020, .inl (fun _ => 0))), (q2, .inl (G.2 0, 2020, .inl (fun _ => 0))), (q3, .inl (G.2 0, 5, .inl (fun _ => 0))), (q4, .inl (G.2 0, 16, .inl (fun _ => 0))), (q5, .inl (G.2 0, 16, .inl (fun _ => 0))), (q6, .inl (G.2 0, 16, .inl (fun _ => 0))), (q7, .inl (G.2 0, 6464, .inl (fun _ => 0)))] := hD
  refine lv_aload_n hx hb dX2_init_62 rfl (lv_at hl 0 rfl) ?_
  refine lv_bipush (v := 16) hx hb dX2_init_63 (by decide) ?_
  refine wn_newa (atype := .int) (ty := .int) (n := 16) (N' := 16) (a0 := (16, .inl (fun _ => 0))) hx hb (hw _ nk_29) rfl hK 0 rfl hP hD hS hA (fun _ => rfl) (by decide) (by decide) (by decide) (Nat.le_of_ble_eq_true rfl) (Nat.le_of_ble_eq_true rfl) dX2_init_65 (fun q8 H hP hD hS => ?_)
  have hP : va_P G.1 vwCl [(h0, .inr (2, [.null, .null, .ref q1, .ref q2, .ref q3, .ref q4, .ref q5, .ref q6, .ref q7, .null, .null, .null, .null, .int 0, .null])), (q1, .inl (G.2 0, 2020, .inl (fun _ => 0))), (q2, .inl (G.2 0, 2020, .inl (fun _ => 0))), (q3, .inl (G.2 0, 5, .inl (fun _ => 0))), (q4, .inl (G.2 0, 16, .inl (fun _ => 0))), (q5, .inl (G.2 0, 16, .inl (fun _ => 0))), (q6, .inl (G.2 0, 16, .inl (fun _ => 0))), (q7, .inl (G.2 0, 6464, .inl (fun _ => 0))), (q8, .inl (G.2 0, 16, .inl (fun _ => 0)))] H := hP
  have hD : va_D A [(h0, .inr (2, [.null, .null, .ref q1, .ref q2, .ref q3, .ref q4, .ref q5, .ref q6, .ref q7, .null, .null, .null, .null, .int 0, .null])), (q1, .inl (G.2 0, 2020, .inl (fun _ => 0))), (q2, .inl (G.2 0, 2020, .inl (fun _ => 0))), (q3, .inl (G.2 0, 5, .inl (fun _ => 0))), (q4, .inl (G.2 0, 16, .inl (fun _ => 0))), (q5, .inl (G.2 0, 16, .inl (fun _ => 0))), (q6, .inl (G.2 0, 16, .inl (fun _ => 0))), (q7, .inl (G.2 0, 6464, .inl (fun _ => 0))), (q8, .inl (G.2 0, 16, .inl (fun _ => 0)))] := hD
  refine W.widen (k := 8) (n := 10573) (Nat.le_of_ble_eq_true rfl) (Nat.le_of_ble_eq_true rfl) ?_
  refine va_putF (D := G.1) (ci := 2) (v := .ref q8) (ty := (.array .int)) (C := RX2) (T := TX2) (N := 15) hx hb hw inGX2 tyX2 tyX2_ok nmX2 hown hK hP hD hS 0 rfl rfl 9 (by decide) (hw _ nk_86) (fun _ h9 => h9) rfl hin rfl (by decide +kernel) rfl rfl (Nat.le_of_ble_eq_true rfl) dX2_init_67 (fun H locs hP hD hS => ?_)
  have hP : va_P G.1 vwCl [(h0, .inr (2, [.null, .null, .ref q1, .ref q2, .ref q3, .ref q4, .ref q5, .ref q6, .ref q7, .ref q8, .null, .null, .null, .int 0, .null])), (q1, .inl (G.2 0, 2020, .inl (fun _ => 0))), (q2, .inl (G.2 0, 2020, .inl (fun _ => 0))), (q3, .inl (G.2 0, 5, .inl (fun _ => 0))), (q4, .inl (G.2 0, 16, .inl (fun _ => 0))), (q5, .inl (G.2 0, 16, .inl (fun _ => 0))), (q6, .inl (G.2 0, 16, .inl (fun _ => 0))), (q7, .inl (G.2 0, 6464, .inl (fun _ => 0))), (q8, .inl (G.2 0, 16, .inl (fun _ => 0)))] H := hP
  have hD : va_D A [(h0, .inr (2, [.null, .null, .ref q1, .ref q2, .ref q3, .ref q4, .ref q5, .ref q6, .ref q7, .ref q8, .null, .null, .null, .int 0, .null])), (q1, .inl (G.2 0, 2020, .inl (fun _ => 0))), (q2, .inl (G.2 0, 2020, .inl (fun _ => 0))), (q3, .inl (G.2 0, 5, .inl (fun _ => 0))), (q4, .inl (G.2 0, 16, .inl (fun _ => 0))), (q5, .inl (G.2 0, 16, .inl (fun _ => 0))), (q6, .inl (G.2 0, 16, .inl (fun _ => 0))), (q7, .inl (G.2 0, 6464, .inl (fun _ => 0))), (q8, .inl (G.2 0, 16, .inl (fun _ => 0)))] := hD
  refine lv_aload_n hx hb dX2_init_70 rfl (lv_at hl 0 rfl) ?_
  refine lv_bipush (v := 16) hx hb dX2_init_71 (by decide) ?_
  refine wn_newa (atype := .boolean) (ty := .boolean) (n := 16) (N' := 16) (a0 := (16, .inl (fun _ => 0))) hx hb (hw _ nk_67) rfl hK 2 rfl hP hD hS hA (fun _ => rfl) (by decide) (by decide) (by decide) (Nat.le_of_ble_eq_true rfl) (Nat.le_of_ble_eq_true rfl) dX2_init_73 (fun q9 H hP hD hS => ?_)
  have hP : va_P G.1 vwCl [(h0, .inr (2, [.null, .null, .ref q1, .ref q2, .ref q3, .ref q4, .ref q5, .ref q6, .ref q7, .ref q8, .null, .null, .null, .int 0, .null])), (q1, .inl (G.2 0, 2020, .inl (fun _ => 0))), (q2, .inl (G.2 0, 2020, .inl (fun _ => 0))), (q3, .inl (G.2 0, 5, .inl (fun _ => 0))), (q4, .inl (G.2 0, 16, .inl (fun _ => 0))), (q5, .inl (G.2 0, 16, .inl (fun _ => 0))), (q6, .inl (G.2 0, 16, .inl (fun _ => 0))), (q7, .inl (G.2 0, 6464, .inl (fun _ => 0))), (q8, .inl (G.2 0, 16, .inl (fun _ => 0))), (q9, .inl (G.2 2, 16, .inl (fun _ => 0)))] H := hP
  have hD : va_D A [(h0, .inr (2, [.null, .null, .ref q1, .ref q2, .ref q3, .ref q4, .ref q5, .ref q6, .ref q7, .ref q8, .null, .null, .null, .int 0, .null])), (q1, .inl (G.2 0, 2020, .inl (fun _ => 0))), (q2, .inl (G.2 0, 2020, .inl (fun _ => 0))), (q3, .inl (G.2 0, 5, .inl (fun _ => 0))), (q4, .inl (G.2 0, 16, .inl (fun _ => 0))), (q5, .inl (G.2 0, 16, .inl (fun _ => 0))), (q6, .inl (G.2 0, 16, .inl (fun _ => 0))), (q7, .inl (G.2 0, 6464, .inl (fun _ => 0))), (q8, .inl (G.2 0, 16, .inl (fun _ => 0))), (q9, .inl (G.2 2, 16, .inl (fun _ => 0)))] := hD
  refine W.widen (k := 9) (n := 10589) (Nat.le_of_ble_eq_true rfl) (Nat.le_of_ble_eq_true rfl) ?_
  refine va_putF (D := G.1) (ci := 2) (v := .ref q9) (ty := (.array .boolean)) (C := RX2) (T := TX2) (N := 15) hx hb hw inGX2 tyX2 tyX2_ok nmX2 hown hK hP hD hS 0 rfl rfl 10 (by decide) (hw _ nk_87) (fun _ h9 => h9) rfl hin rfl (by decide +kernel) rfl rfl (Nat.le_of_ble_eq_true rfl) dX2_init_75 (fun H locs hP hD hS => ?_)
  have hP : va_P G.1 vwCl [(h0, .inr (2, [.null, .null, .ref q1, .ref q2, .ref q3, .ref q4, .ref q5, .ref q6, .ref q7, .ref q8, .ref q9, .null, .null, .int 0, .null])), (q1, .inl (G.2 0, 2020, .inl (fun _ => 0))), (q2, .inl (G.2 0, 2020, .inl (fun _ => 0))), (q3, .inl (G.2 0, 5, .inl (fun _ => 0))), (q4, .inl (G.2 0, 16, .inl (fun _ => 0))), (q5, .inl (G.2 0, 16, .inl (fun _ => 0))), (q6, .inl (G.2 0, 16, .inl (fun _ => 0))), (q7, .inl (G.2 0, 6464, .inl (fun _ => 0))), (q8, .inl (G.2 0, 16, .inl (fun _ => 0))), (q9, .inl (G.2 2, 16, .inl (fun _ => 0)))] H := hP
  have hD : va_D A [(h0, .inr (2, [.null, .null, .ref q1, .ref q2, .ref q3, .ref q4, .ref q5, .ref q6, .ref q7, .ref q8, .ref q9, .null, .null, .int 0, .null])), (q1, .inl (G.2 0, 2020, .inl (fun _ => 0))), (q2, .inl (G.2 0, 2020, .inl (fun _ => 0))), (q3, .inl (G.2 0, 5, .inl (fun _ => 0))), (q4, .inl (G.2 0, 16, .inl (fun _ => 0))), (q5, .inl (G.2 0, 16, .inl (fun _ => 0))), (q6, .inl (G.2 0, 16, .inl (fun _ => 0))), (q7, .inl (G.2 0, 6464, .inl (fun _ => 0))), (q8, .inl (G.2 0, 16, .inl (fun _ => 0))), (q9, .inl (G.2 2, 16, .inl (fun _ => 0)))] := hD
  refine lv_aload_n hx hb dX2_init_78 rfl (lv_at hl 0 rfl) ?_
  refine lv_bipush (v := 16) hx hb dX2_init_79 (by decide) ?_
  refine wn_newa (atype := .boolean) (ty := .boolean) (n := 16) (N' := 16) (a0 := (16, .inl (fun _ => 0))) hx hb (hw _ nk_67) rfl hK 2 rfl hP hD hS hA (fun _ => rfl) (by decide) (by decide) (by decide) (Nat.le_of_ble_eq_true rfl) (Nat.le_of_ble_eq_true rfl) dX2_init_81 (fun q10 H hP hD hS => ?_)
  have hP : va_P G.1 vwCl [(h0, .inr (2, [.null, .null, .ref q1, .ref q2, .ref q3, .ref q4, .ref q5, .ref q6, .ref q7, .ref q8, .ref q9, .null, .null, .int 0, .null])), (q1, .inl (G.2 0, 2020, .inl (fun _ => 0))), (q2, .inl (G.2 0, 2020, .inl (fun _ => 0))), (q3, .inl (G.2 0, 5, .inl (fun _ => 0))), (q4, .inl (G.2 0, 16, .inl (fun _ => 0))), (q5, .inl (G.2 0, 16, .inl (fun _ => 0))), (q6, .inl (G.2 0, 16, .inl (fun _ => 0))), (q7, .inl (G.2 0, 6464, .inl (fun _ => 0))), (q8, .inl (G.2 0, 16, .inl (fun _ => 0))), (q9, .inl (G.2 2, 16, .inl (fun _ => 0))), (q10, .inl (G.2 2, 16, .inl (fun _ => 0)))] H := hP
  have hD : va_D A [(h0, .inr (2, [.null, .null, .ref q1, .ref q2, .ref q3, .ref q4, .ref q5, .ref q6, .ref q7, .ref q8, .ref q9, .null, .null, .int 0, .null])), (q1, .inl (G.2 0, 2020, .inl (fun _ => 0))), (q2, .inl (G.2 0, 2020, .inl (fun _ => 0))), (q3, .inl (G.2 0, 5, .inl (fun _ => 0))), (q4, .inl (G.2 0, 16, .inl (fun _ => 0))), (q5, .inl (G.2 0, 16, .inl (fun _ => 0))), (q6, .inl (G.2 0, 16, .inl (fun _ => 0))), (q7, .inl (G.2 0, 6464, .inl (fun _ => 0))), (q8, .inl (G.2 0, 16, .inl (fun _ => 0))), (q9, .inl (G.2 2, 16, .inl (fun _ => 0))), (q10, .inl (G.2 2, 16, .inl (fun _ => 0)))] := hD
  refine W.widen (k := 10) (n := 10605) (Nat.le_of_ble_eq_true rfl) (Nat.le_of_ble_eq_true rfl) ?_
  refine va_putF (D := G.1) (ci := 2) (v := .ref q10) (ty := (.array .boolean)) (C := RX2) (T := TX2) (N := 15) hx hb hw inGX2 tyX2 tyX2_ok nmX2 hown hK hP hD hS 0 rfl rfl 11 (by decide) (hw _ nk_88) (fun _ h9 => h9) rfl hin rfl (by decide +kernel) rfl rfl (Nat.le_of_ble_eq_true rfl) dX2_init_83 (fun H locs hP hD hS => ?_)
  have hP : va_P G.1 vwCl [(h0, .inr (2, [.null, .null, .ref q1, .ref q2, .ref q3, .ref q4, .ref q5, .ref q6, .ref q7, .ref q8, .ref q9, .ref q10, .null, .int 0, .null])), (q1, .inl (G.2 0, 2020, .inl (fun _ => 0))), (q2, .inl (G.2 0, 2020, .inl (fun _ => 0))), (q3, .inl (G.2 0, 5, .inl (fun _ => 0))), (q4, .inl (G.2 0, 16, .inl (fun _ => 0))), (q5, .inl (G.2 0, 16, .inl (fun _ => 0))), (q6, .inl (G.2 0, 16, .inl (fun _ => 0))), (q7, .inl (G.2 0, 6464, .inl (fun _ => 0))), (q8, .inl (G.2 0, 16, .inl (fun _ => 0))), (q9, .inl (G.2 2, 16, .inl (fun _ => 0))), (q10, .inl (G.2 2, 16, .inl (fun _ => 0)))] H := hP
  have hD : va_D A [(h0, .inr (2, [.null, .null, .ref q1, .ref q2, .ref q3, .ref q4, .ref q5, .ref q6, .ref q7, .ref q8, .ref q9, .ref q10, .null, .int 0, .null])), (q1, .inl (G.2 0, 2020, .inl (fun _ => 0))), (q2, .inl (G.2 0, 2020, .inl (fun _ => 0))), (q3, .inl (G.2 0, 5, .inl (fun _ => 0))), (q4, .inl (G.2 0, 16, .inl (fun _ => 0))), (q5, .inl (G.2 0, 16, .inl (fun _ => 0))), (q6, .inl (G.2 0, 16, .inl (fun _ => 0))), (q7, .inl (G.2 0, 6464, .inl (fun _ => 0))), (q8, .inl (G.2 0, 16, .inl (fun _ => 0))), (q9, .inl (G.2 2, 16, .inl (fun _ => 0))), (q10, .inl (G.2 2, 16, .inl (fun _ => 0)))] := hD
  refine lv_aload_n hx hb dX2_init_86 rfl (lv_at hl 0 rfl) ?_
  refine lv_bipush (v := 16) hx hb dX2_init_87 (by decide) ?_
  refine wn_newa (atype := .int) (ty := .int) (n := 16) (N' := 16) (a0 := (16, .inl (fun _ => 0))) hx hb (hw _ nk_29) rfl hK 0 rfl hP hD hS hA (fun _ => rfl) (by decide) (by decide) (by decide) (Nat.le_of_ble_eq_true rfl) (Nat.le_of_ble_eq_true rfl) dX2_init_89 (fun q11 H hP hD hS => ?_)
  have hP : va_P G.1 vwCl [(h0, .inr (2, [.null, .null, .ref q1, .ref q2, .ref q3, .ref q4, .ref q5, .ref q6, .ref q7, .ref q8, .ref q9, .ref q10, .null, .int 0, .null])), (q1, .inl (G.2 0, 2020, .inl (fun _ => 0))), (q2, .inl (G.2 0, 2020, .inl (fun _ => 0))), (q3, .inl (G.2 0, 5, .inl (fun _ => 0))), (q4, .inl (G.2 0, 16, .inl (fun _ => 0))), (q5, .inl (G.2 0, 16, .inl (fun _ => 0))), (q6, .inl (G.2 0, 16, .inl (fun _ => 0))), (q7, .inl (G.2 0, 6464, .inl (fun _ => 0))), (q8, .inl (G.2 0, 16, .inl (fun _ => 0))), (q9, .inl (G.2 2, 16, .inl (fun _ => 0))), (q10, .inl (G.2 2, 16, .inl (fun _ => 0))), (q11, .inl (G.2 0, 16, .inl (fun _ => 0)))] H := hP
  have hD : va_D A [(h0, .inr (2, [.null, .null, .ref q1, .ref q2, .ref q3, .ref q4, .ref q5, .ref q6, .ref q7, .ref q8, .ref q9, .ref q10, .null, .int 0, .null])), (q1, .inl (G.2 0, 2020, .inl (fun _ => 0))), (q2, .inl (G.2 0, 2020, .inl (fun _ => 0))), (q3, .inl (G.2 0, 5, .inl (fun _ => 0))), (q4, .inl (G.2 0, 16, .inl (fun _ => 0))), (q5, .inl (G.2 0, 16, .inl (fun _ => 0))), (q6, .inl (G.2 0, 16, .inl (fun _ => 0))), (q7, .inl (G.2 0, 6464, .inl (fun _ => 0))), (q8, .inl (G.2 0, 16, .inl (fun _ => 0))), (q9, .inl (G.2 2, 16, .inl (fun _ => 0))), (q10, .inl (G.2 2, 16, .inl (fun _ => 0))), (q11, .inl (G.2 0, 16, .inl (fun _ => 0)))] := hD
  refine W.widen (k := 11) (n := 10621) (Nat.le_of_ble_eq_true rfl) (Nat.le_of_ble_eq_true rfl) ?_
  refine va_putF (D := G.1) (ci := 2) (v := .ref q11) (ty := (.array .int)) (C := RX2) (T := TX2) (N := 15) hx hb hw inGX2 tyX2 tyX2_ok nmX2 hown hK hP hD hS 0 rfl rfl 12 (by decide) (hw _ nk_89) (fun _ h9 => h9) rfl hin rfl (by decide +kernel) rfl rfl (Nat.le_of_ble_eq_true rfl) dX2_init_91 (fun H locs hP hD hS => ?_)
  have hP : va_P G.1 vwCl [(h0, .inr (2, [.null, .null, .ref q1, .ref q2, .ref q3, .ref q4, .ref q5, .ref q6, .ref q7, .ref q8, .ref q9, .ref q10, .ref q11, .int 0, .null])), (q1, .inl (G.2 0, 2020, .inl (fun _ => 0))), (q2, .inl (G.2 0, 2020, .inl (fun _ => 0))), (q3, .inl (G.2 0, 5, .inl (fun _ => 0))), (q4, .inl (G.2 0, 16, .inl (fun _ => 0))), (q5, .inl (G.2 0, 16, .inl (fun _ => 0))), (q6, .inl (G.2 0, 16, .inl (fun _ => 0))), (q7, .inl (G.2 0, 6464, .inl (fun _ => 0))), (q8, .inl (G.2 0, 16, .inl (fun _ => 0))), (q9, .inl (G.2 2, 16, .inl (fun _ => 0))), (q10, .inl (G.2 2, 16, .inl (fun _ => 0))), (q11, .inl (G.2 0, 16, .inl (fun _ => 0)))] H := hP
  have hD : va_D A [(h0, .inr (2, [.null, .null, .ref q1, .ref q2, .ref q3, .ref q4, .ref q5, .ref q6, .ref q7, .ref q8, .ref q9, .ref q10, .ref q11, .int 0, .null])), (q1, .inl (G.2 0, 2020, .inl (fun _ => 0))), (q2, .inl (G.2 0, 2020, .inl (fun _ => 0))), (q3, .inl (G.2 0, 5, .inl (fun _ => 0))), (q4, .inl (G.2 0, 16, .inl (fun _ => 0))), (q5, .inl (G.2 0, 16, .inl (fun _ => 0))), (q6, .inl (G.2 0, 16, .inl (fun _ => 0))), (q7, .inl (G.2 0, 6464, .inl (fun _ => 0))), (q8, .inl (G.2 0, 16, .inl (fun _ => 0))), (q9, .inl (G.2 2, 16, .inl (fun _ => 0))), (q10, .inl (G.2 2, 16, .inl (fun _ => 0))), (q11, .inl (G.2 0, 16, .inl (fun _ => 0)))] := hD
  refine lv_aload_n hx hb dX2_init_94 rfl (lv_at hl 0 rfl) ?_
  refine lv_iconst (v := 0) hx hb dX2_init_95 (by decide) ?_
  refine va_put (D := G.1) (ci := 2) (v := .int 0) (ty := .int) (C := RX2) (T := TX2) (N := 15) hx hb hw inGX2 tyX2 tyX2_ok nmX2 hown hK hP hD hS 0 rfl rfl 13 (by decide) (hw _ nk_90) (fun _ h9 => h9) rfl (by decide +kernel) rfl rfl (Nat.le_of_ble_eq_true rfl) dX2_init_96 (fun H locs hP hD hS => ?_)
  have hP : va_P G.1 vwCl [(h0, .inr (2, [.null, .null, .ref q1, .ref q2, .ref q3, .ref q4, .ref q5, .ref q6, .ref q7, .ref q8, .ref q9, .ref q10, .ref q11, .int 0, .null])), (q1, .inl (G.2 0, 2020, .inl (fun _ => 0))), (q2, .inl (G.2 0, 2020, .inl (fun _ => 0))), (q3, .inl (G.2 0, 5, .inl (fun _ => 0))), (q4, .inl (G.2 0, 16, .inl (fun _ => 0))), (q5, .inl (G.2 0, 16, .inl (fun _ => 0))), (q6, .inl (G.2 0, 16, .inl (fun _ => 0))), (q7, .inl (G.2 0, 6464, .inl (fun _ => 0))), (q8, .inl (G.2 0, 16, .inl (fun _ => 0))), (q9, .inl (G.2 2, 16, .inl (fun _ => 0))), (q10, .inl (G.2 2, 16, .inl (fun _ => 0))), (q11, .inl (G.2 0, 16, .inl (fun _ => 0)))] H := hP
  have hD : va_D A [(h0, .inr (2, [.null, .null, .ref q1, .ref q2, .ref q3, .ref q4, .ref q5, .ref q6, .ref q7, .ref q8, .ref q9, .ref q10, .ref q11, .int 0, .null])), (q1, .inl (G.2 0, 2020, .inl (fun _ => 0))), (q2, .inl (G.2 0, 2020, .inl (fun _ => 0))), (q3, .inl (G.2 0, 5, .inl (fun _ => 0))), (q4, .inl (G.2 0, 16, .inl (fun _ => 0))), (q5, .inl (G.2 0, 16, .inl (fun _ => 0))), (q6, .inl (G.2 0, 16, .inl (fun _ => 0))), (q7, .inl (G.2 0, 6464, .inl (fun _ => 0))), (q8, .inl (G.2 0, 16, .inl (fun _ => 0))), (q9, .inl (G.2 2, 16, .inl (fun _ => 0))), (q10, .inl (G.2 2, 16, .inl (fun _ => 0))), (q11, .inl (G.2 0, 16, .inl (fun _ => 0)))] := hD
  refine lv_aload_n hx hb dX2_init_99 rfl (lv_at hl 0 rfl) ?_
  refine lv_bipush (v := 16) hx hb dX2_init_100 (by decide) ?_
  refine wn_newa (atype := .int) (ty := .int) (n := 16) (N' := 16) (a0 := (16, .inl (fun _ => 0))) hx hb (hw _ nk_29) rfl hK 0 rfl hP hD hS hA (fun _ => rfl) (by decide) (by decide) (by decide) (Nat.le_of_ble_eq_true rfl) (Nat.le_of_ble_eq_true rfl) dX2_init_102 (fun q12 H hP hD hS => ?_)
  have hP : va_P G.1 vwCl [(h0, .inr (2, [.null, .null, .ref q1, .ref q2, .ref q3, .ref q4, .ref q5, .ref q6, .ref q7, .ref q8, .ref q9, .ref q10, .ref q11, .int 0, .null])), (q1, .inl (G.2 0, 2020, .inl (fun _ => 0))), (q2, .inl (G.2 0, 2020, .inl (fun _ => 0))), (q3, .inl (G.2 0, 5, .inl (fun _ => 0))), (q4, .inl (G.2 0, 16, .inl (fun _ => 0))), (q5, .inl (G.2 0, 16, .inl (fun _ => 0))), (q6, .inl (G.2 0, 16, .inl (fun _ => 0))), (q7, .inl (G.2 0, 6464, .inl (fun _ => 0))), (q8, .inl (G.2 0, 16, .inl (fun _ => 0))), (q9, .inl (G.2 2, 16, .inl (fun _ => 0))), (q10, .inl (G.2 2, 16, .inl (fun _ => 0))), (q11, .inl (G.2 0, 16, .inl (fun _ => 0))), (q12, .inl (G.2 0, 16, .inl (fun _ => 0)))] H := hP
  have hD : va_D A [(h0, .inr (2, [.null, .null, .ref q1, .ref q2, .ref q3, .ref q4, .ref q5, .ref q6, .ref q7, .ref q8, .ref q9, .ref q10, .ref q11, .int 0, .null])), (q1, .inl (G.2 0, 2020, .inl (fun _ => 0))), (q2, .inl (G.2 0, 2020, .inl (fun _ => 0))), (q3, .inl (G.2 0, 5, .inl (fun _ => 0))), (q4, .inl (G.2 0, 16, .inl (fun _ => 0))), (q5, .inl (G.2 0, 16, .inl (fun _ => 0))), (q6, .inl (G.2 0, 16, .inl (fun _ => 0))), (q7, .inl (G.2 0, 6464, .inl (fun _ => 0))), (q8, .inl (G.2 0, 16, .inl (fun _ => 0))), (q9, .inl (G.2 2, 16, .inl (fun _ => 0))), (q10, .inl (G.2 2, 16, .inl (fun _ => 0))), (q11, .inl (G.2 0, 16, .inl (fun _ => 0))), (q12, .inl (G.2 0, 16, .inl (fun _ => 0)))] := hD
  refine W.widen (k := 12) (n := 10637) (Nat.le_of_ble_eq_true rfl) (Nat.le_of_ble_eq_true rfl) ?_
  refine va_putF (D := G.1) (ci := 2) (v := .ref q12) (ty := (.array .int)) (C := RX2) (T := TX2) (N := 15) hx hb hw inGX2 tyX2 tyX2_ok nmX2 hown hK hP hD hS 0 rfl rfl 14 (by decide) (hw _ nk_91) (fun _ h9 => h9) rfl hin rfl (by decide +kernel) rfl rfl (Nat.le_of_ble_eq_true rfl) dX2_init_104 (fun H locs hP hD hS => ?_)
  have hP : va_P G.1 vwCl [(h0, .inr (2, [.null, .null, .ref q1, .ref q2, .ref q3, .ref q4, .ref q5, .ref q6, .ref q7, .ref q8, .ref q9, .ref q10, .ref q11, .int 0, .ref q12])), (q1, .inl (G.2 0, 2020, .inl (fun _ => 0))), (q2, .inl (G.2 0, 2020, .inl (fun _ => 0))), (q3, .inl (G.2 0, 5, .inl (fun _ => 0))), (q4, .inl (G.2 0, 16, .inl (fun _ => 0))), (q5, .inl (G.2 0, 16, .inl (fun _ => 0))), (q6, .inl (G.2 0, 16, .inl (fun _ => 0))), (q7, .inl (G.2 0, 6464, .inl (fun _ => 0))), (q8, .inl (G.2 0, 16, .inl (fun _ => 0))), (q9, .inl (G.2 2, 16, .inl (fun _ => 0))), (q10, .inl (G.2 2, 16, .inl (fun _ => 0))), (q11, .inl (G.2 0, 16, .inl (fun _ => 0))), (q12, .inl (G.2 0, 16, .inl (fun _ => 0)))] H := hP
  have hD : va_D A [(h0, .inr (2, [.null, .null, .ref q1, .ref q2, .ref q3, .ref q4, .ref q5, .ref q6, .ref q7, .ref q8, .ref q9, .ref q10, .ref q11, .int 0, .ref q12])), (q1, .inl (G.2 0, 2020, .inl (fun _ => 0))), (q2, .inl (G.2 0, 2020, .inl (fun _ => 0))), (q3, .inl (G.2 0, 5, .inl (fun _ => 0))), (q4, .inl (G.2 0, 16, .inl (fun _ => 0))), (q5, .inl (G.2 0, 16, .inl (fun _ => 0))), (q6, .inl (G.2 0, 16, .inl (fun _ => 0))), (q7, .inl (G.2 0, 6464, .inl (fun _ => 0))), (q8, .inl (G.2 0, 16, .inl (fun _ => 0))), (q9, .inl (G.2 2, 16, .inl (fun _ => 0))), (q10, .inl (G.2 2, 16, .inl (fun _ => 0))), (q11, .inl (G.2 0, 16, .inl (fun _ => 0))), (q12, .inl (G.2 0, 16, .inl (fun _ => 0)))] := hD
  refine lv_aload_n hx hb dX2_init_107 rfl (lv_at hl 0 rfl) ?_
  refine lv_aload_n hx hb dX2_init_108 rfl (lv_at hl 1 rfl) ?_
  refine va_putF (D := G.1) (ci := 2) (v := .ref b0) (ty := (.object "SlipCoach$Track")) (C := RX2) (T := TX2) (N := 15) hx hb hw inGX2 tyX2 tyX2_ok nmX2 hown hK hP hD hS 0 rfl rfl 0 (by decide) (hw _ nk_92) (fun _ h9 => h9) rfl hin rfl (by decide +kernel) rfl rfl (Nat.le_of_ble_eq_true rfl) dX2_init_109 (fun H locs hP hD hS => ?_)
  have hP : va_P G.1 vwCl [(h0, .inr (2, [.ref b0, .null, .ref q1, .ref q2, .ref q3, .ref q4, .ref q5, .ref q6, .ref q7, .ref q8, .ref q9, .ref q10, .ref q11, .int 0, .ref q12])), (q1, .inl (G.2 0, 2020, .inl (fun _ => 0))), (q2, .inl (G.2 0, 2020, .inl (fun _ => 0))), (q3, .inl (G.2 0, 5, .inl (fun _ => 0))), (q4, .inl (G.2 0, 16, .inl (fun _ => 0))), (q5, .inl (G.2 0, 16, .inl (fun _ => 0))), (q6, .inl (G.2 0, 16, .inl (fun _ => 0))), (q7, .inl (G.2 0, 6464, .inl (fun _ => 0))), (q8, .inl (G.2 0, 16, .inl (fun _ => 0))), (q9, .inl (G.2 2, 16, .inl (fun _ => 0))), (q10, .inl (G.2 2, 16, .inl (fun _ => 0))), (q11, .inl (G.2 0, 16, .inl (fun _ => 0))), (q12, .inl (G.2 0, 16, .inl (fun _ => 0)))] H := hP
  have hD : va_D A [(h0, .inr (2, [.ref b0, .null, .ref q1, .ref q2, .ref q3, .ref q4, .ref q5, .ref q6, .ref q7, .ref q8, .ref q9, .ref q10, .ref q11, .int 0, .ref q12])), (q1, .inl (G.2 0, 2020, .inl (fun _ => 0))), (q2, .inl (G.2 0, 2020, .inl (fun _ => 0))), (q3, .inl (G.2 0, 5, .inl (fun _ => 0))), (q4, .inl (G.2 0, 16, .inl (fun _ => 0))), (q5, .inl (G.2 0, 16, .inl (fun _ => 0))), (q6, .inl (G.2 0, 16, .inl (fun _ => 0))), (q7, .inl (G.2 0, 6464, .inl (fun _ => 0))), (q8, .inl (G.2 0, 16, .inl (fun _ => 0))), (q9, .inl (G.2 2, 16, .inl (fun _ => 0))), (q10, .inl (G.2 2, 16, .inl (fun _ => 0))), (q11, .inl (G.2 0, 16, .inl (fun _ => 0))), (q12, .inl (G.2 0, 16, .inl (fun _ => 0)))] := hD
  refine lv_aload_n hx hb dX2_init_112 rfl (lv_at hl 0 rfl) ?_
  refine lv_aload_n hx hb dX2_init_113 rfl (lv_at hl 2 rfl) ?_
  refine va_putF (D := G.1) (ci := 2) (v := .ref b1) (ty := (.object "SlipCoach$Handlings")) (C := RX2) (T := TX2) (N := 15) hx hb hw inGX2 tyX2 tyX2_ok nmX2 hown hK hP hD hS 0 rfl rfl 1 (by decide) (hw _ nk_93) (fun _ h9 => h9) rfl hin rfl (by decide +kernel) rfl rfl (Nat.le_of_ble_eq_true rfl) dX2_init_114 (fun H locs hP hD hS => ?_)
  have hP : va_P G.1 vwCl [(h0, .inr (2, [.ref b0, .ref b1, .ref q1, .ref q2, .ref q3, .ref q4, .ref q5, .ref q6, .ref q7, .ref q8, .ref q9, .ref q10, .ref q11, .int 0, .ref q12])), (q1, .inl (G.2 0, 2020, .inl (fun _ => 0))), (q2, .inl (G.2 0, 2020, .inl (fun _ => 0))), (q3, .inl (G.2 0, 5, .inl (fun _ => 0))), (q4, .inl (G.2 0, 16, .inl (fun _ => 0))), (q5, .inl (G.2 0, 16, .inl (fun _ => 0))), (q6, .inl (G.2 0, 16, .inl (fun _ => 0))), (q7, .inl (G.2 0, 6464, .inl (fun _ => 0))), (q8, .inl (G.2 0, 16, .inl (fun _ => 0))), (q9, .inl (G.2 2, 16, .inl (fun _ => 0))), (q10, .inl (G.2 2, 16, .inl (fun _ => 0))), (q11, .inl (G.2 0, 16, .inl (fun _ => 0))), (q12, .inl (G.2 0, 16, .inl (fun _ => 0)))] H := hP
  have hD : va_D A [(h0, .inr (2, [.ref b0, .ref b1, .ref q1, .ref q2, .ref q3, .ref q4, .ref q5, .ref q6, .ref q7, .ref q8, .ref q9, .ref q10, .ref q11, .int 0, .ref q12])), (q1, .inl (G.2 0, 2020, .inl (fun _ => 0))), (q2, .inl (G.2 0, 2020, .inl (fun _ => 0))), (q3, .inl (G.2 0, 5, .inl (fun _ => 0))), (q4, .inl (G.2 0, 16, .inl (fun _ => 0))), (q5, .inl (G.2 0, 16, .inl (fun _ => 0))), (q6, .inl (G.2 0, 16, .inl (fun _ => 0))), (q7, .inl (G.2 0, 6464, .inl (fun _ => 0))), (q8, .inl (G.2 0, 16, .inl (fun _ => 0))), (q9, .inl (G.2 2, 16, .inl (fun _ => 0))), (q10, .inl (G.2 2, 16, .inl (fun _ => 0))), (q11, .inl (G.2 0, 16, .inl (fun _ => 0))), (q12, .inl (G.2 0, 16, .inl (fun _ => 0)))] := hD
  refine lv_aload_n hx hb dX2_init_117 rfl (lv_at hl 0 rfl) ?_
  refine va_get (D := G.1) (ci := 2) (v := .ref q11) (C := RX2) (T := TX2) (N := 15) hx hb hw inGX2 hown hK hP 0 rfl rfl 12 (by decide) (hw _ nk_89) (fun _ h9 => h9) rfl dX2_init_118 ?_
  refine lv_iconst (v := (-1)) hx hb dX2_init_121 (by decide) ?_
  refine wq_callv (wr := [(h0, .inr (2, [.ref b0, .ref b1, .ref q1, .ref q2, .ref q3, .ref q4, .ref q5, .ref q6, .ref q7, .ref q8, .ref q9, .ref q10, .ref q11, .int 0, .ref q12])), (q1, .inl (G.2 0, 2020, .inl (fun _ => 0))), (q2, .inl (G.2 0, 2020, .inl (fun _ => 0))), (q3, .inl (G.2 0, 5, .inl (fun _ => 0))), (q4, .inl (G.2 0, 16, .inl (fun _ => 0))), (q5, .inl (G.2 0, 16, .inl (fun _ => 0))), (q6, .inl (G.2 0, 16, .inl (fun _ => 0))), (q7, .inl (G.2 0, 6464, .inl (fun _ => 0))), (q8, .inl (G.2 0, 16, .inl (fun _ => 0))), (q9, .inl (G.2 2, 16, .inl (fun _ => 0))), (q10, .inl (G.2 2, 16, .inl (fun _ => 0))), (q12, .inl (G.2 0, 16, .inl (fun _ => 0)))]) (va_runS (As := [.ref q11, .int (-1)]) (rest := []) ⟨hx, hb, hml, hown, hw⟩ (c_fillI l G q11 16 (-1) (fun _ => 0) H.size (by decide)) (va_cwS 2 hw (gdT nk_95 nk_96 nk_97 nk_94) rfl rfl rfl hdJ7_fill_53178 ⟨(Nat.le_of_ble_eq_true rfl), (Nat.le_of_ble_eq_true rfl)⟩) (mpreQ_S (wc := [(q11, .inl (G.2 0, 16, .inl (fun _ => 0)))]) hKG hP hD [11] (by decide +kernel) rfl) rfl rfl hl.1 rfl (lv_room (Nat.le_of_ble_eq_true rfl)) dX2_init_122 ⟨(Nat.le_of_ble_eq_true rfl), (Nat.le_of_ble_eq_true rfl)⟩) hS hP hD hA [11] [0, 1, 2, 3, 4, 5, 6, 7, 8, 9, 10, 12] rfl rfl (by decide +kernel) (by decide +kernel) (fun u15 H locs hr13 hP hD hS => ?_)
  obtain ⟨g_14, rfl⟩ : ∃ z, z = u15 := ⟨_, rfl⟩
  have hP : va_P G.1 vwCl [(h0, .inr (2, [.ref b0, .ref b1, .ref q1, .ref q2, .ref q3, .ref q4, .ref q5, .ref q6, .ref q7, .ref q8, .ref q9, .ref q10, .ref q11, .int 0, .ref q12])), (q1, .inl (G.2 0, 2020, .inl (fun _ => 0))), (q2, .inl (G.2 0, 2020, .inl (fun _ => 0))), (q3, .inl (G.2 0, 5, .inl (fun _ => 0))), (q4, .inl (G.2 0, 16, .inl (fun _ => 0))), (q5, .inl (G.2 0, 16, .inl (fun _ => 0))), (q6, .inl (G.2 0, 16, .inl (fun _ => 0))), (q7, .inl (G.2 0, 6464, .inl (fun _ => 0))), (q8, .inl (G.2 0, 16, .inl (fun _ => 0))), (q9, .inl (G.2 2, 16, .inl (fun _ => 0))), (q10, .inl (G.2 2, 16, .inl (fun _ => 0))), (q12, .inl (G.2 0, 16, .inl (fun _ => 0))), (q11, .inl (G.2 0, 16, .inl g_14))] H := hP
  have hD : va_D A [(h0, .inr (2, [.ref b0, .ref b1, .ref q1, .ref q2, .ref q3, .ref q4, .ref q5, .ref q6, .ref q7, .ref q8, .ref q9, .ref q10, .ref q11, .int 0, .ref q12])), (q1, .inl (G.2 0, 2020, .inl (fun _ => 0))), (q2, .inl (G.2 0, 2020, .inl (fun _ => 0))), (q3, .inl (G.2 0, 5, .inl (fun _ => 0))), (q4, .inl (G.2 0, 16, .inl (fun _ => 0))), (q5, .inl (G.2 0, 16, .inl (fun _ => 0))), (q6, .inl (G.2 0, 16, .inl (fun _ => 0))), (q7, .inl (G.2 0, 6464, .inl (fun _ => 0))), (q8, .inl (G.2 0, 16, .inl (fun _ => 0))), (q9, .inl (G.2 2, 16, .inl (fun _ => 0))), (q10, .inl (G.2 2, 16, .inl (fun _ => 0))), (q12, .inl (G.2 0, 16, .inl (fun _ => 0))), (q11, .inl (G.2 0, 16, .inl g_14))] := hD
  refine W.widen (k := 12) (n := 10637) (Nat.le_of_ble_eq_true rfl) (Nat.le_of_ble_eq_true rfl) ?_
  refine W.widen (k := 12) (n := 10637) (Nat.le_of_ble_eq_true rfl) (Nat.le_of_ble_eq_true rfl) ?_
  exact W.vret hx hb hr (fun t ht hW => ⟨⟨(q1, q2, q3, q4, q5, q6, q7, q8, q9, q10, q11, q12, g_14), rfl, trivial, ⟨by rw [ht]; exact hP.sub [0, 1, 2, 3, 4, 5, 6, 7, 8, 9, 10, 12, 11] rfl, hD.sub [0, 1, 2, 3, 4, 5, 6, 7, 8, 9, 10, 12, 11] (by decide +kernel) rfl⟩⟩, hS.F ht⟩) hS.2.2 dX2_init_125
set_option maxHeartbeats 4000000 in
set_option maxRecDepth 100000 in
theorem c_newBreach (l : Launch) (G : KG) (h0 : Nat) (b0 : Nat) (b1 : Nat) (sz : Nat) : Met l yX0_init wgX0_init ({ frames := 1, cells := 5, slots := 58, locals := 20 }) (mpreQ G [.ref h0, .ref b0, .ref b1] sz [(h0, .inr (0, [.null, .null, .null, .null, .null, .null, .int 0, .null, .int 0, .int 0, .int 0, .int 0]))]) (va_Qv (fun (u : Nat × Nat × Nat × Nat × Nat) => True) (fun u t => atQ G (va_A [(h0, .inr (0, [.null, .null, .null, .null, .null, .null, .int 0, .null, .int 0, .int 0, .int 0, .int 0]))] sz) [(h0, .inr (0, [.ref b0, .ref b1, .ref u.1, .ref u.2.1, .ref u.2.2.1, .ref u.2.2.2.1, .int 0, .ref u.2.2.2.2, .int 0, .int (-1), .int (-1), .int (-1)])), (u.1, .inl (G.2 0, 5, .inl (fun _ => 0))), (u.2.1, .inl (G.2 0, 16, .inl (fun _ => 0))), (u.2.2.1, .inl (G.2 0, 16, .inl (fun _ => 0))), (u.2.2.2.1, .inl (G.2 0, 16, .inl (fun _ => 0))), (u.2.2.2.2, .inl (G.2 0, 5, .inl (fun _ => 0)))] t) (va_A [(h0, .inr (0, [.null, .null, .null, .null, .null, .null, .int 0, .null, .int 0, .int 0, .int 0, .int 0]))] sz)) 5 58 (va_A [(h0, .inr (0, [.null, .null, .null, .null, .null, .null, .int 0, .null, .int 0, .int 0, .int 0, .int 0]))] sz) := by
  refine Met.ofW (cc := cX0_init) (maxL := 3) (ret := none) (by decide) rfl ?_
  intro p e s m args below meth c s₁ B hml hv
  obtain ⟨rfl, hsz, hP, hKG, hD0⟩ := hv
  obtain ⟨hK, hAO⟩ := id hKG
  have hx := B.exec
  have hb := B.bytes
  have hr := B.returns
  have hts := atoms_spec (ws := wgX0_init) B.pre
  have hw : ∀ w ∈ wG, w.before _ s = true := fun w h => hts w (List.mem_cons_of_mem _ h)
  have hown : s.vm.findClass RX0 = some m.cls := findClass_of_methodNamed B.named
  have hlocks := B.notSynchronized
  have hin : meth.name = "<init>" := (name_of_methodNamed B.named B.method).1
  subst hsz
  have hD := hD0.self (sz := s.heap.size)
  generalize hAe : va_A [(h0, .inr (0, [.null, .null, .null, .null, .null, .null, .int 0, .null, .int 0, .int 0, .int 0, .int 0]))] s.heap.size = A at hD ⊢
  have hA : ∀ q : Nat, s.heap.size ≤ q → A q := fun q h => by rw [← hAe]; exact Or.inr h
  have hS : va_S A s.heap s.heap [] := va_S.rf
  have hl := lv_entry ([.ref h0, .ref b0, .ref b1]) (n := 3) (Nat.le_of_ble_eq_true rfl)
  rw [lg_entry_eq]
  generalize (lg_sl ([.ref h0, .ref b0, .ref b1]) ++ List.replicate (3 - (lg_sl ([.ref h0, .ref b0, .ref b1])).length) Slot.unset).toArray = ls at hl ⊢
  have hl : lv_has ls 3 [(0, .ref h0), (1, .ref b0), (2, .ref b1)] := hl
  refine lv_aload_n hx hb dX0_init_0 rfl (lv_at hl 0 rfl) ?_
  refine W.objInit hx hb hown (hw _ nk_98) (hw _ nk_24) (hw _ nk_25) rfl (by rw [hml]; exact hl.1) rfl dX0_init_1 (Nat.le_of_ble_eq_true rfl) (Nat.le_of_ble_eq_true rfl) ?_
  refine W.eq (g2 := F0 m 4 ls []) rfl ?_
  refine lv_aload_n hx hb dX0_init_4 rfl (lv_at hl 0 rfl) ?_
  refine lv_iconst (v := 5) hx hb dX0_init_5 (by decide) ?_
  refine wn_newa (atype := .int) (ty := .int) (n := 5) (N' := 5) (a0 := (5, .inl (fun _ => 0))) hx hb (hw _ nk_29) rfl hK 0 rfl hP hD hS hA (fun _ => rfl) (by decide) (by decide) (by decide) (Nat.le_of_ble_eq_true rfl) (Nat.le_of_ble_eq_true rfl) dX0_init_6 (fun q1 H hP hD hS => ?_)
  have hP : va_P G.1 vwCl [(h0, .inr (0, [.null, .null, .null, .null, .null, .null, .int 0, .null, .int 0, .int 0, .int 0, .int 0])), (q1, .inl (G.2 0, 5, .inl (fun _ => 0)))] H := hP
  have hD : va_D A [(h0, .inr (0, [.null, .null, .null, .null, .null, .null, .int 0, .null, .int 0, .int 0, .int 0, .int 0])), (q1, .inl (G.2 0, 5, .inl (fun _ => 0)))] := hD
  refine W.widen (k := 1) (n := 5) (Nat.le_of_ble_eq_true rfl) (Nat.le_of_ble_eq_true rfl) ?_
  refine va_putF (D := G.1) (ci := 0) (v := .ref q1) (ty := (.array .int)) (C := RX0) (T := TX0) (N := 12) hx hb hw inGX0 tyX0 tyX0_ok nmX0 hown hK hP hD hS 0 rfl rfl 2 (by decide) (hw _ nk_99) (fun _ h9 => h9) rfl hin rfl (by decide +kernel) rfl rfl (Nat.le_of_ble_eq_true rfl) dX0_init_8 (fun H locs hP hD hS => ?_)
  have hP : va_P G.1 vwCl [(h0, .inr (0, [.null, .null, .ref q1, .null, .null, .null, .int 0, .null, .int 0, .int 0, .int 0, .int 0])), (q1, .inl (G.2 0, 5, .inl (fun _ => 0)))] H := hP
  have hD : va_D A [(h0, .inr (0, [.null, .null, .ref q1, .null, .null, .null, .int 0, .null, .int 0, .int 0, .int 0, .int 0])), (q1, .inl (G.2 0, 5, .inl (fun _ => 0)))] := hD
  refine lv_aload_n hx hb dX0_init_11 rfl (lv_at hl 0 rfl) ?_
  refine lv_bipush (v := 16) hx hb dX0_init_12 (by decide) ?_
  refine wn_newa (atype := .int) (ty := .int) (n := 16) (N' := 16) (a0 := (16, .inl (fun _ => 0))) hx hb (hw _ nk_29) rfl hK 0 rfl hP hD hS hA (fun _ => rfl) (by decide) (by decide) (by decide) (Nat.le_of_ble_eq_true rfl) (Nat.le_of_ble_eq_true rfl) dX0_init_14 (fun q2 H hP hD hS => ?_)
  have hP : va_P G.1 vwCl [(h0, .inr (0, [.null, .null, .ref q1, .null, .null, .null, .int 0, .null, .int 0, .int 0, .int 0, .int 0])), (q1, .inl (G.2 0, 5, .inl (fun _ => 0))), (q2, .inl (G.2 0, 16, .inl (fun _ => 0)))] H := hP
  have hD : va_D A [(h0, .inr (0, [.null, .null, .ref q1, .null, .null, .null, .int 0, .null, .int 0, .int 0, .int 0, .int 0])), (q1, .inl (G.2 0, 5, .inl (fun _ => 0))), (q2, .inl (G.2 0, 16, .inl (fun _ => 0)))] := hD
  refine W.widen (k := 2) (n := 21) (Nat.le_of_ble_eq_true rfl) (Nat.le_of_ble_eq_true rfl) ?_
  refine va_putF (D := G.1) (ci := 0) (v := .ref q2) (ty := (.array .int)) (C := RX0) (T := TX0) (N := 12) hx hb hw inGX0 tyX0 tyX0_ok nmX0 hown hK hP hD hS 0 rfl rfl 3 (by decide) (hw _ nk_100) (fun _ h9 => h9) rfl hin rfl (by decide +kernel) rfl rfl (Nat.le_of_ble_eq_true rfl) dX0_init_16 (fun H locs hP hD hS => ?_)
  have hP : va_P G.1 vwCl [(h0, .inr (0, [.null, .null, .ref q1, .ref q2, .null, .null, .int 0, .null, .int 0, .int 0, .int 0, .int 0])), (q1, .inl (G.2 0, 5, .inl (fun _ => 0))), (q2, .inl (G.2 0, 16, .inl (fun _ => 0)))] H := hP
  have hD : va_D A [(h0, .inr (0, [.null, .null, .ref q1, .ref q2, .null, .null, .int 0, .null, .int 0, .int 0, .int 0, .int 0])), (q1, .inl (G.2 0, 5, .inl (fun _ => 0))), (q2, .inl (G.2 0, 16, .inl (fun _ => 0)))] := hD
  refine lv_aload_n hx hb dX0_init_19 rfl (lv_at hl 0 rfl) ?_
  refine lv_bipush (v := 16) hx hb dX0_init_20 (by decide) ?_
  refine wn_newa (atype := .int) (ty := .int) (n := 16) (N' := 16) (a0 := (16, .inl (fun _ => 0))) hx hb (hw _ nk_29) rfl hK 0 rfl hP hD hS hA (fun _ => rfl) (by decide) (by decide) (by decide) (Nat.le_of_ble_eq_true rfl) (Nat.le_of_ble_eq_true rfl) dX0_init_22 (fun q3 H hP hD hS => ?_)
  have hP : va_P G.1 vwCl [(h0, .inr (0, [.null, .null, .ref q1, .ref q2, .null, .null, .int 0, .null, .int 0, .int 0, .int 0, .int 0])), (q1, .inl (G.2 0, 5, .inl (fun _ => 0))), (q2, .inl (G.2 0, 16, .inl (fun _ => 0))), (q3, .inl (G.2 0, 16, .inl (fun _ => 0)))] H := hP
  have hD : va_D A [(h0, .inr (0, [.null, .null, .ref q1, .ref q2, .null, .null, .int 0, .null, .int 0, .int 0, .int 0, .int 0])), (q1, .inl (G.2 0, 5, .inl (fun _ => 0))), (q2, .inl (G.2 0, 16, .inl (fun _ => 0))), (q3, .inl (G.2 0, 16, .inl (fun _ => 0)))] := hD
  refine W.widen (k := 3) (n := 37) (Nat.le_of_ble_eq_true rfl) (Nat.le_of_ble_eq_true rfl) ?_
  refine va_putF (D := G.1) (ci := 0) (v := .ref q3) (ty := (.array .int)) (C := RX0) (T := TX0) (N := 12) hx hb hw inGX0 tyX0 tyX0_ok nmX0 hown hK hP hD hS 0 rfl rfl 4 (by decide) (hw _ nk_101) (fun _ h9 => h9) rfl hin rfl (by decide +kernel) rfl rfl (Nat.le_of_ble_eq_true rfl) dX0_init_24 (fun H locs hP hD hS => ?_)
  have hP : va_P G.1 vwCl [(h0, .inr (0, [.null, .null, .ref q1, .ref q2, .ref q3, .null, .int 0, .null, .int 0, .int 0, .int 0, .int 0])), (q1, .inl (G.2 0, 5, .inl (fun _ => 0))), (q2, .inl (G.2 0, 16, .inl (fun _ => 0))), (q3, .inl (G.2 0, 16, .inl (fun _ => 0)))] H := hP
  have hD : va_D A [(h0, .inr (0, [.null, .null, .ref q1, .ref q2, .ref q3, .null, .int 0, .null, .int 0, .int 0, .int 0, .int 0])), (q1, .inl (G.2 0, 5, .inl (fun _ => 0))), (q2, .inl (G.2 0, 16, .inl (fun _ => 0))), (q3, .inl (G.2 0, 16, .inl (fun _ => 0)))] := hD
  refine lv_aload_n hx hb dX0_init_27 rfl (lv_at hl 0 rfl) ?_
  refine lv_bipush (v := 16) hx hb dX0_init_28 (by decide) ?_
  refine wn_newa (atype := .int) (ty := .int) (n := 16) (N' := 16) (a0 := (16, .inl (fun _ => 0))) hx hb (hw _ nk_29) rfl hK 0 rfl hP hD hS hA (fun _ => rfl) (by decide) (by decide) (by decide) (Nat.le_of_ble_eq_true rfl) (Nat.le_of_ble_eq_true rfl) dX0_init_30 (fun q4 H hP hD hS => ?_)
  have hP : va_P G.1 vwCl [(h0, .inr (0, [.null, .null, .ref q1, .ref q2, .ref q3, .null, .int 0, .null, .int 0, .int 0, .int 0, .int 0])), (q1, .inl (G.2 0, 5, .inl (fun _ => 0))), (q2, .inl (G.2 0, 16, .inl (fun _ => 0))), (q3, .inl (G.2 0, 16, .inl (fun _ => 0))), (q4, .inl (G.2 0, 16, .inl (fun _ => 0)))] H := hP
  have hD : va_D A [(h0, .inr (0, [.null, .null, .ref q1, .ref q2, .ref q3, .null, .int 0, .null, .int 0, .int 0, .int 0, .int 0])), (q1, .inl (G.2 0, 5, .inl (fun _ => 0))), (q2, .inl (G.2 0, 16, .inl (fun _ => 0))), (q3, .inl (G.2 0, 16, .inl (fun _ => 0))), (q4, .inl (G.2 0, 16, .inl (fun _ => 0)))] := hD
  refine W.widen (k := 4) (n := 53) (Nat.le_of_ble_eq_true rfl) (Nat.le_of_ble_eq_true rfl) ?_
  refine va_putF (D := G.1) (ci := 0) (v := .ref q4) (ty := (.array .int)) (C := RX0) (T := TX0) (N := 12) hx hb hw inGX0 tyX0 tyX0_ok nmX0 hown hK hP hD hS 0 rfl rfl 5 (by decide) (hw _ nk_102) (fun _ h9 => h9) rfl hin rfl (by decide +kernel) rfl rfl (Nat.le_of_ble_eq_true rfl) dX0_init_32 (fun H locs hP hD hS => ?_)
  have hP : va_P G.1 vwCl [(h0, .inr (0, [.null, .null, .ref q1, .ref q2, .ref q3, .ref q4, .int 0, .null, .int 0, .int 0, .int 0, .int 0])), (q1, .inl (G.2 0, 5, .inl (fun _ => 0))), (q2, .inl (G.2 0, 16, .inl (fun _ => 0))), (q3, .inl (G.2 0, 16, .inl (fun _ => 0))), (q4, .inl (G.2 0, 16, .inl (fun _ => 0)))] H := hP
  have hD : va_D A [(h0, .inr (0, [.null, .null, .ref q1, .ref q2, .ref q3, .ref q4, .int 0, .null, .int 0, .int 0, .int 0, .int 0])), (q1, .inl (G.2 0, 5, .inl (fun _ => 0))), (q2, .inl (G.2 0, 16, .inl (fun _ => 0))), (q3, .inl (G.2 0, 16, .inl (fun _ => 0))), (q4, .inl (G.2 0, 16, .inl (fun _ => 0)))] := hD
  refine lv_aload_n hx hb dX0_init_35 rfl (lv_at hl 0 rfl) ?_
  refine lv_iconst (v := 0) hx hb dX0_init_36 (by decide) ?_
  refine va_put (D := G.1) (ci := 0) (v := .int 0) (ty := .int) (C := RX0) (T := TX0) (N := 12) hx hb hw inGX0 tyX0 tyX0_ok nmX0 hown hK hP hD hS 0 rfl rfl 6 (by decide) (hw _ nk_103) (fun _ h9 => h9) rfl (by decide +kernel) rfl rfl (Nat.le_of_ble_eq_true rfl) dX0_init_37 (fun H locs hP hD hS => ?_)
  have hP : va_P G.1 vwCl [(h0, .inr (0, [.null, .null, .ref q1, .ref q2, .ref q3, .ref q4, .int 0, .null, .int 0, .int 0, .int 0, .int 0])), (q1, .inl (G.2 0, 5, .inl (fun _ => 0))), (q2, .inl (G.2 0, 16, .inl (fun _ => 0))), (q3, .inl (G.2 0, 16, .inl (fun _ => 0))), (q4, .inl (G.2 0, 16, .inl (fun _ => 0)))] H := hP
  have hD : va_D A [(h0, .inr (0, [.null, .null, .ref q1, .ref q2, .ref q3, .ref q4, .int 0, .null, .int 0, .int 0, .int 0, .int 0])), (q1, .inl (G.2 0, 5, .inl (fun _ => 0))), (q2, .inl (G.2 0, 16, .inl (fun _ => 0))), (q3, .inl (G.2 0, 16, .inl (fun _ => 0))), (q4, .inl (G.2 0, 16, .inl (fun _ => 0)))] := hD
  refine lv_aload_n hx hb dX0_init_40 rfl (lv_at hl 0 rfl) ?_
  refine lv_iconst (v := 5) hx hb dX0_init_41 (by decide) ?_
  refine wn_newa (atype := .int) (ty := .int) (n := 5) (N' := 5) (a0 := (5, .inl (fun _ => 0))) hx hb (hw _ nk_29) rfl hK 0 rfl hP hD hS hA (fun _ => rfl) (by decide) (by decide) (by decide) (Nat.le_of_ble_eq_true rfl) (Nat.le_of_ble_eq_true rfl) dX0_init_42 (fun q5 H hP hD hS => ?_)
  have hP : va_P G.1 vwCl [(h0, .inr (0, [.null, .null, .ref q1, .ref q2, .ref q3, .ref q4, .int 0, .null, .int 0, .int 0, .int 0, .int 0])), (q1, .inl (G.2 0, 5, .inl (fun _ => 0))), (q2, .inl (G.2 0, 16, .inl (fun _ => 0))), (q3, .inl (G.2 0, 16, .inl (fun _ => 0))), (q4, .inl (G.2 0, 16, .inl (fun _ => 0))), (q5, .inl (G.2 0, 5, .inl (fun _ => 0)))] H := hP
  have hD : va_D A [(h0, .inr (0, [.null, .null, .ref q1, .ref q2, .ref q3, .ref q4, .int 0, .null, .int 0, .int 0, .int 0, .int 0])), (q1, .inl (G.2 0, 5, .inl (fun _ => 0))), (q2, .inl (G.2 0, 16, .inl (fun _ => 0))), (q3, .inl (G.2 0, 16, .inl (fun _ => 0))), (q4, .inl (G.2 0, 16, .inl (fun _ => 0))), (q5, .inl (G.2 0, 5, .inl (fun _ => 0)))] := hD
  refine W.widen (k := 5) (n := 58) (Nat.le_of_ble_eq_true rfl) (Nat.le_of_ble_eq_true rfl) ?_
  refine va_putF (D := G.1) (ci := 0) (v := .ref q5) (ty := (.array .int)) (C := RX0) (T := TX0) (N := 12) hx hb hw inGX0 tyX0 tyX0_ok nmX0 hown hK hP hD hS 0 rfl rfl 7 (by decide) (hw _ nk_104) (fun _ h9 => h9) rfl hin rfl (by decide +kernel) rfl rfl (Nat.le_of_ble_eq_true rfl) dX0_init_44 (fun H locs hP hD hS => ?_)
  have hP : va_P G.1 vwCl [(h0, .inr (0, [.null, .null, .ref q1, .ref q2, .ref q3, .ref q4, .int 0, .ref q5, .int 0, .int 0, .int 0, .int 0])), (q1, .inl (G.2 0, 5, .inl (fun _ => 0))), (q2, .inl (G.2 0, 16, .inl (fun _ => 0))), (q3, .inl (G.2 0, 16, .inl (fun _ => 0))), (q4, .inl (G.2 0, 16, .inl (fun _ => 0))), (q5, .inl (G.2 0, 5, .inl (fun _ => 0)))] H := hP
  have hD : va_D A [(h0, .inr (0, [.null, .null, .ref q1, .ref q2, .ref q3, .ref q4, .int 0, .ref q5, .int 0, .int 0, .int 0, .int 0])), (q1, .inl (G.2 0, 5, .inl (fun _ => 0))), (q2, .inl (G.2 0, 16, .inl (fun _ => 0))), (q3, .inl (G.2 0, 16, .inl (fun _ => 0))), (q4, .inl (G.2 0, 16, .inl (fun _ => 0))), (q5, .inl (G.2 0, 5, .inl (fun _ => 0)))] := hD
  refine lv_aload_n hx hb dX0_init_47 rfl (lv_at hl 0 rfl) ?_
  refine lv_iconst (v := 0) hx hb dX0_init_48 (by decide) ?_
  refine va_put (D := G.1) (ci := 0) (v := .int 0) (ty := .int) (C := RX0) (T := TX0) (N := 12) hx hb hw inGX0 tyX0 tyX0_ok nmX0 hown hK hP hD hS 0 rfl rfl 8 (by decide) (hw _ nk_105) (fun _ h9 => h9) rfl (by decide +kernel) rfl rfl (Nat.le_of_ble_eq_true rfl) dX0_init_49 (fun H locs hP hD hS => ?_)
  have hP : va_P G.1 vwCl [(h0, .inr (0, [.null, .null, .ref q1, .ref q2, .ref q3, .ref q4, .int 0, .ref q5, .int 0, .int 0, .int 0, .int 0])), (q1, .inl (G.2 0, 5, .inl (fun _ => 0))), (q2, .inl (G.2 0, 16, .inl (fun _ => 0))), (q3, .inl (G.2 0, 16, .inl (fun _ => 0))), (q4, .inl (G.2 0, 16, .inl (fun _ => 0))), (q5, .inl (G.2 0, 5, .inl (fun _ => 0)))] H := hP
  have hD : va_D A [(h0, .inr (0, [.null, .null, .ref q1, .ref q2, .ref q3, .ref q4, .int 0, .ref q5, .int 0, .int 0, .int 0, .int 0])), (q1, .inl (G.2 0, 5, .inl (fun _ => 0))), (q2, .inl (G.2 0, 16, .inl (fun _ => 0))), (q3, .inl (G.2 0, 16, .inl (fun _ => 0))), (q4, .inl (G.2 0, 16, .inl (fun _ => 0))), (q5, .inl (G.2 0, 5, .inl (fun _ => 0)))] := hD
  refine lv_aload_n hx hb dX0_init_52 rfl (lv_at hl 0 rfl) ?_
  refine lv_iconst (v := (-1)) hx hb dX0_init_53 (by decide) ?_
  refine va_put (D := G.1) (ci := 0) (v := .int (-1)) (ty := .int) (C := RX0) (T := TX0) (N := 12) hx hb hw inGX0 tyX0 tyX0_ok nmX0 hown hK hP hD hS 0 rfl rfl 9 (by decide) (hw _ nk_106) (fun _ h9 => h9) rfl (by decide +kernel) rfl rfl (Nat.le_of_ble_eq_true rfl) dX0_init_54 (fun H locs hP hD hS => ?_)
  have hP : va_P G.1 vwCl [(h0, .inr (0, [.null, .null, .ref q1, .ref q2, .ref q3, .ref q4, .int 0, .ref q5, .int 0, .int (-1), .int 0, .int 0])), (q1, .inl (G.2 0, 5, .inl (fun _ => 0))), (q2, .inl (G.2 0, 16, .inl (fun _ => 0))), (q3, .inl (G.2 0, 16, .inl (fun _ => 0))), (q4, .inl (G.2 0, 16, .inl (fun _ => 0))), (q5, .inl (G.2 0, 5, .inl (fun _ => 0)))] H := hP
  have hD : va_D A [(h0, .inr (0, [.null, .null, .ref q1, .ref q2, .ref q3, .ref q4, .int 0, .ref q5, .int 0, .int (-1), .int 0, .int 0])), (q1, .inl (G.2 0, 5, .inl (fun _ => 0))), (q2, .inl (G.2 0, 16, .inl (fun _ => 0))), (q3, .inl (G.2 0, 16, .inl (fun _ => 0))), (q4, .inl (G.2 0, 16, .inl (fun _ => 0))), (q5, .inl (G.2 0, 5, .inl (fun _ => 0)))] := hD
  refine lv_aload_n hx hb dX0_init_57 rfl (lv_at hl 0 rfl) ?_
  refine lv_iconst (v := (-1)) hx hb dX0_init_58 (by decide) ?_
  refine va_put (D := G.1) (ci := 0) (v := .int (-1)) (ty := .int) (C := RX0) (T := TX0) (N := 12) hx hb hw inGX0 tyX0 tyX0_ok nmX0 hown hK hP hD hS 0 rfl rfl 10 (by decide) (hw _ nk_107) (fun _ h9 => h9) rfl (by decide +kernel) rfl rfl (Nat.le_of_ble_eq_true rfl) dX0_init_59 (fun H locs hP hD hS => ?_)
  have hP : va_P G.1 vwCl [(h0, .inr (0, [.null, .null, .ref q1, .ref q2, .ref q3, .ref q4, .int 0, .ref q5, .int 0, .int (-1), .int (-1), .int 0])), (q1, .inl (G.2 0, 5, .inl (fun _ => 0))), (q2, .inl (G.2 0, 16, .inl (fun _ => 0))), (q3, .inl (G.2 0, 16, .inl (fun _ => 0))), (q4, .inl (G.2 0, 16, .inl (fun _ => 0))), (q5, .inl (G.2 0, 5, .inl (fun _ => 0)))] H := hP
  have hD : va_D A [(h0, .inr (0, [.null, .null, .ref q1, .ref q2, .ref q3, .ref q4, .int 0, .ref q5, .int 0, .int (-1), .int (-1), .int 0])), (q1, .inl (G.2 0, 5, .inl (fun _ => 0))), (q2, .inl (G.2 0, 16, .inl (fun _ => 0))), (q3, .inl (G.2 0, 16, .inl (fun _ => 0))), (q4, .inl (G.2 0, 16, .inl (fun _ => 0))), (q5, .inl (G.2 0, 5, .inl (fun _ => 0)))] := hD
  refine lv_aload_n hx hb dX0_init_62 rfl (lv_at hl 0 rfl) ?_
  refine lv_iconst (v := (-1)) hx hb dX0_init_63 (by decide) ?_
  refine va_put (D := G.1) (ci := 0) (v := .int (-1)) (ty := .int) (C := RX0) (T := TX0) (N := 12) hx hb hw inGX0 tyX0 tyX0_ok nmX0 hown hK hP hD hS 0 rfl rfl 11 (by decide) (hw _ nk_108) (fun _ h9 => h9) rfl (by decide +kernel) rfl rfl (Nat.le_of_ble_eq_true rfl) dX0_init_64 (fun H locs hP hD hS => ?_)
  have hP : va_P G.1 vwCl [(h0, .inr (0, [.null, .null, .ref q1, .ref q2, .ref q3, .ref q4, .int 0, .ref q5, .int 0, .int (-1), .int (-1), .int (-1)])), (q1, .inl (G.2 0, 5, .inl (fun _ => 0))), (q2, .inl (G.2 0, 16, .inl (fun _ => 0))), (q3, .inl (G.2 0, 16, .inl (fun _ => 0))), (q4, .inl (G.2 0, 16, .inl (fun _ => 0))), (q5, .inl (G.2 0, 5, .inl (fun _ => 0)))] H := hP
  have hD : va_D A [(h0, .inr (0, [.null, .null, .ref q1, .ref q2, .ref q3, .ref q4, .int 0, .ref q5, .int 0, .int (-1), .int (-1), .int (-1)])), (q1, .inl (G.2 0, 5, .inl (fun _ => 0))), (q2, .inl (G.2 0, 16, .inl (fun _ => 0))), (q3, .inl (G.2 0, 16, .inl (fun _ => 0))), (q4, .inl (G.2 0, 16, .inl (fun _ => 0))), (q5, .inl (G.2 0, 5, .inl (fun _ => 0)))] := hD
  refine lv_aload_n hx hb dX0_init_67 rfl (lv_at hl 0 rfl) ?_
  refine lv_aload_n hx hb dX0_init_68 rfl (lv_at hl 1 rfl) ?_
  refine va_putF (D := G.1) (ci := 0) (v := .ref b0) (ty := (.object "SlipCoach$Track")) (C := RX0) (T := TX0) (N := 12) hx hb hw inGX0 tyX0 tyX0_ok nmX0 hown hK hP hD hS 0 rfl rfl 0 (by decide) (hw _ nk_109) (fun _ h9 => h9) rfl hin rfl (by decide +kernel) rfl rfl (Nat.le_of_ble_eq_true rfl) dX0_init_69 (fun H locs hP hD hS => ?_)
  have hP : va_P G.1 vwCl [(h0, .inr (0, [.ref b0, .null, .ref q1, .ref q2, .ref q3, .ref q4, .int 0, .ref q5, .int 0, .int (-1), .int (-1), .int (-1)])), (q1, .inl (G.2 0, 5, .inl (fun _ => 0))), (q2, .inl (G.2 0, 16, .inl (fun _ => 0))), (q3, .inl (G.2 0, 16, .inl (fun _ => 0))), (q4, .inl (G.2 0, 16, .inl (fun _ => 0))), (q5, .inl (G.2 0, 5, .inl (fun _ => 0)))] H := hP
  have hD : va_D A [(h0, .inr (0, [.ref b0, .null, .ref q1, .ref q2, .ref q3, .ref q4, .int 0, .ref q5, .int 0, .int (-1), .int (-1), .int (-1)])), (q1, .inl (G.2 0, 5, .inl (fun _ => 0))), (q2, .inl (G.2 0, 16, .inl (fun _ => 0))), (q3, .inl (G.2 0, 16, .inl (fun _ => 0))), (q4, .inl (G.2 0, 16, .inl (fun _ => 0))), (q5, .inl (G.2 0, 5, .inl (fun _ => 0)))] := hD
  refine lv_aload_n hx hb dX0_init_72 rfl (lv_at hl 0 rfl) ?_
  refine lv_aload_n hx hb dX0_init_73 rfl (lv_at hl 2 rfl) ?_
  refine va_putF (D := G.1) (ci := 0) (v := .ref b1) (ty := (.object "SlipCoach$Journey")) (C := RX0) (T := TX0) (N := 12) hx hb hw inGX0 tyX0 tyX0_ok nmX0 hown hK hP hD hS 0 rfl rfl 1 (by decide) (hw _ nk_110) (fun _ h9 => h9) rfl hin rfl (by decide +kernel) rfl rfl (Nat.le_of_ble_eq_true rfl) dX0_init_74 (fun H locs hP hD hS => ?_)
  have hP : va_P G.1 vwCl [(h0, .inr (0, [.ref b0, .ref b1, .ref q1, .ref q2, .ref q3, .ref q4, .int 0, .ref q5, .int 0, .int (-1), .int (-1), .int (-1)])), (q1, .inl (G.2 0, 5, .inl (fun _ => 0))), (q2, .inl (G.2 0, 16, .inl (fun _ => 0))), (q3, .inl (G.2 0, 16, .inl (fun _ => 0))), (q4, .inl (G.2 0, 16, .inl (fun _ => 0))), (q5, .inl (G.2 0, 5, .inl (fun _ => 0)))] H := hP
  have hD : va_D A [(h0, .inr (0, [.ref b0, .ref b1, .ref q1, .ref q2, .ref q3, .ref q4, .int 0, .ref q5, .int 0, .int (-1), .int (-1), .int (-1)])), (q1, .inl (G.2 0, 5, .inl (fun _ => 0))), (q2, .inl (G.2 0, 16, .inl (fun _ => 0))), (q3, .inl (G.2 0, 16, .inl (fun _ => 0))), (q4, .inl (G.2 0, 16, .inl (fun _ => 0))), (q5, .inl (G.2 0, 5, .inl (fun _ => 0)))] := hD
  refine W.widen (k := 5) (n := 58) (Nat.le_of_ble_eq_true rfl) (Nat.le_of_ble_eq_true rfl) ?_
  exact W.vret hx hb hr (fun t ht hW => ⟨⟨(q1, q2, q3, q4, q5), rfl, trivial, ⟨by rw [ht]; exact hP.sub [0, 1, 2, 3, 4, 5] rfl, hD.sub [0, 1, 2, 3, 4, 5] (by decide +kernel) rfl⟩⟩, hS.F ht⟩) hS.2.2 dX0_init_77
set_option maxHeartbeats 4000000 in
set_option maxRecDepth 100000 in
theorem c_newShunting (l : Launch) (G : KG) (h0 : Nat) (sz : Nat) : Met l yX7_init wgX7_init ({ frames := 1, cells := 2, slots := 32, locals := 20 }) (mpreQ G [.ref h0] sz [(h0, .inr (7, [.null, .null, .int 0]))]) (va_Qv (fun (u : Nat × Nat) => True) (fun u t => atQ G (va_A [(h0, .inr (7, [.null, .null, .int 0]))] sz) [(h0, .inr (7, [.ref u.1, .ref u.2, .int 0])), (u.1, .inl (G.2 0, 16, .inl (fun _ => 0))), (u.2, .inl (G.2 0, 16, .inl (fun _ => 0)))] t) (va_A [(h0, .inr (7, [.null, .null, .int 0]))] sz)) 2 32 (va_A [(h0, .inr (7, [.null, .null, .int 0]))] sz) := by
  refine Met.ofW (cc := cX7_init) (maxL := 1) (ret := none) (by decide) rfl ?_
  intro p e s m args below meth c s₁ B hml hv
  obtain ⟨rfl, hsz, hP, hKG, hD0⟩ := hv
  obtain ⟨hK, hAO⟩ := id hKG
  have hx := B.exec
  have hb := B.bytes
  have hr := B.returns
  have hts := atoms_spec (ws := wgX7_init) B.pre
  have hw : ∀ w ∈ wG, w.before _ s = true := fun w h => hts w (List.mem_cons_of_mem _ h)
  have hown : s.vm.findClass RX7 = some m.cls := findClass_of_methodNamed B.named
  have hlocks := B.notSynchronized
  have hin : meth.name = "<init>" := (name_of_methodNamed B.named B.method).1
  subst hsz
  have hD := hD0.self (sz := s.heap.size)
  generalize hAe : va_A [(h0, .inr (7, [.null, .null, .int 0]))] s.heap.size = A at hD ⊢
  have hA : ∀ q : Nat, s.heap.size ≤ q → A q := fun q h => by rw [← hAe]; exact Or.inr h
  have hS : va_S A s.heap s.heap [] := va_S.rf
  have hl := lv_entry ([.ref h0]) (n := 1) (Nat.le_of_ble_eq_true rfl)
  rw [lg_entry_eq]
  generalize (lg_sl ([.ref h0]) ++ List.replicate (1 - (lg_sl ([.ref h0])).length) Slot.unset).toArray = ls at hl ⊢
  have hl : lv_has ls 1 [(0, .ref h0)] := hl
  refine lv_aload_n hx hb dX7_init_0 rfl (lv_at hl 0 rfl) ?_
  refine W.objInit hx hb hown (hw _ nk_111) (hw _ nk_24) (hw _ nk_25) rfl (by rw [hml]; exact hl.1) rfl dX7_init_1 (Nat.le_of_ble_eq_true rfl) (Nat.le_of_ble_eq_true rfl) ?_
  refine W.eq (g2 := F0 m 4 ls []) rfl ?_
  refine lv_aload_n hx hb dX7_init_4 rfl (lv_at hl 0 rfl) ?_
  refine lv_bipush (v := 16) hx hb dX7_init_5 (by decide) ?_
  refine wn_newa (atype := .int) (ty := .int) (n := 16) (N' := 16) (a0 := (16, .inl (fun _ => 0))) hx hb (hw _ nk_29) rfl hK 0 rfl hP hD hS hA (fun _ => rfl) (by decide) (by decide) (by decide) (Nat.le_of_ble_eq_true rfl) (Nat.le_of_ble_eq_true rfl) dX7_init_7 (fun q1 H hP hD hS => ?_)
  have hP : va_P G.1 vwCl [(h0, .inr (7, [.null, .null, .int 0])), (q1, .inl (G.2 0, 16, .inl (fun _ => 0)))] H := hP
  have hD : va_D A [(h0, .inr (7, [.null, .null, .int 0])), (q1, .inl (G.2 0, 16, .inl (fun _ => 0)))] := hD
  refine W.widen (k := 1) (n := 16) (Nat.le_of_ble_eq_true rfl) (Nat.le_of_ble_eq_true rfl) ?_
  refine va_putF (D := G.1) (ci := 7) (v := .ref q1) (ty := (.array .int)) (C := RX7) (T := TX7) (N := 3) hx hb hw inGX7 tyX7 tyX7_ok nmX7 hown hK hP hD hS 0 rfl rfl 0 (by decide) (hw _ nk_112) (fun _ h9 => h9) rfl hin rfl (by decide +kernel) rfl rfl (Nat.le_of_ble_eq_true rfl) dX7_init_9 (fun H locs hP hD hS => ?_)
  have hP : va_P G.1 vwCl [(h0, .inr (7, [.ref q1, .null, .int 0])), (q1, .inl (G.2 0, 16, .inl (fun _ => 0)))] H := hP
  have hD : va_D A [(h0, .inr (7, [.ref q1, .null, .int 0])), (q1, .inl (G.2 0, 16, .inl (fun _ => 0)))] := hD
  refine lv_aload_n hx hb dX7_init_12 rfl (lv_at hl 0 rfl) ?_
  refine lv_bipush (v := 16) hx hb dX7_init_13 (by decide) ?_
  refine wn_newa (atype := .int) (ty := .int) (n := 16) (N' := 16) (a0 := (16, .inl (fun _ => 0))) hx hb (hw _ nk_29) rfl hK 0 rfl hP hD hS hA (fun _ => rfl) (by decide) (by decide) (by decide) (Nat.le_of_ble_eq_true rfl) (Nat.le_of_ble_eq_true rfl) dX7_init_15 (fun q2 H hP hD hS => ?_)
  have hP : va_P G.1 vwCl [(h0, .inr (7, [.ref q1, .null, .int 0])), (q1, .inl (G.2 0, 16, .inl (fun _ => 0))), (q2, .inl (G.2 0, 16, .inl (fun _ => 0)))] H := hP
  have hD : va_D A [(h0, .inr (7, [.ref q1, .null, .int 0])), (q1, .inl (G.2 0, 16, .inl (fun _ => 0))), (q2, .inl (G.2 0, 16, .inl (fun _ => 0)))] := hD
  refine W.widen (k := 2) (n := 32) (Nat.le_of_ble_eq_true rfl) (Nat.le_of_ble_eq_true rfl) ?_
  refine va_putF (D := G.1) (ci := 7) (v := .ref q2) (ty := (.array .int)) (C := RX7) (T := TX7) (N := 3) hx hb hw inGX7 tyX7 tyX7_ok nmX7 hown hK hP hD hS 0 rfl rfl 1 (by decide) (hw _ nk_113) (fun _ h9 => h9) rfl hin rfl (by decide +kernel) rfl rfl (Nat.le_of_ble_eq_true rfl) dX7_init_17 (fun H locs hP hD hS => ?_)
  have hP : va_P G.1 vwCl [(h0, .inr (7, [.ref q1, .ref q2, .int 0])), (q1, .inl (G.2 0, 16, .inl (fun _ => 0))), (q2, .inl (G.2 0, 16, .inl (fun _ => 0)))] H := hP
  have hD : va_D A [(h0, .inr (7, [.ref q1, .ref q2, .int 0])), (q1, .inl (G.2 0, 16, .inl (fun _ => 0))), (q2, .inl (G.2 0, 16, .inl (fun _ => 0)))] := hD
  refine lv_aload_n hx hb dX7_init_20 rfl (lv_at hl 0 rfl) ?_
  refine lv_iconst (v := 0) hx hb dX7_init_21 (by decide) ?_
  refine va_put (D := G.1) (ci := 7) (v := .int 0) (ty := .int) (C := RX7) (T := TX7) (N := 3) hx hb hw inGX7 tyX7 tyX7_ok nmX7 hown hK hP hD hS 0 rfl rfl 2 (by decide) (hw _ nk_114) (fun _ h9 => h9) rfl (by decide +kernel) rfl rfl (Nat.le_of_ble_eq_true rfl) dX7_init_22 (fun H locs hP hD hS => ?_)
  have hP : va_P G.1 vwCl [(h0, .inr (7, [.ref q1, .ref q2, .int 0])), (q1, .inl (G.2 0, 16, .inl (fun _ => 0))), (q2, .inl (G.2 0, 16, .inl (fun _ => 0)))] H := hP
  have hD : va_D A [(h0, .inr (7, [.ref q1, .ref q2, .int 0])), (q1, .inl (G.2 0, 16, .inl (fun _ => 0))), (q2, .inl (G.2 0, 16, .inl (fun _ => 0)))] := hD
  refine W.widen (k := 2) (n := 32) (Nat.le_of_ble_eq_true rfl) (Nat.le_of_ble_eq_true rfl) ?_
  exact W.vret hx hb hr (fun t ht hW => ⟨⟨(q1, q2), rfl, trivial, ⟨by rw [ht]; exact hP.sub [0, 1, 2] rfl, hD.sub [0, 1, 2] (by decide +kernel) rfl⟩⟩, hS.F ht⟩) hS.2.2 dX7_init_25
