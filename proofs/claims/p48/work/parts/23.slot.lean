def pq_isHeld : List mq_E := [(0, false, .aload 0), (1, false, .invokeinterface 8 1), (4, false, .iconst (-1)), (5, false, .if_icmp .eq (Int.ofNat 12)), (8, false, .iconst 1), (9, false, .goto (Int.ofNat 13)), (12, false, .iconst 0), (13, false, .ireturn)]
def cq_isHeld : mq_C := ((yX8_isHeld, cX8_isHeld, 1, (some .boolean), { frames := 0, cells := 0, slots := 0, locals := 0 }), (1, 1, 0, 0), 0, (fun as ρ μ => match ρ with
  | (nw, sp, tl, tx, al) => mq_pR as 17 fun S as => mq_p0 as (True)),
  (fun as ρ μ r ρ' μ' => match as, ρ, ρ' with
  | [.inr (.inr (some (_, S)))], (nw, sp, tl, tx, al), (nw', sp', tl', tx', al') => [(r = 1 ∧ ¬ μ (17, S) 1 = -1) ∨ (r = 0 ∧ μ (17, S) 1 = -1)]
  | _, _, _ => []))
def kq_isHeld : List mq_V → mq_R → mq_M → List mq_Cu := fun as ρ μ => match as, ρ with
  | [.inr (.inr (some (_, S)))], (nw, sp, tl, tx, al) => []
  | _, _ => []
set_option maxHeartbeats 16000000 in
set_option maxRecDepth 100000 in
theorem vq_isHeld (lc : Launch)  : mq_Ct lc cq_isHeld := by
  refine mq_method (lc := lc) (P := pq_isHeld) (cl := []) (T := ([(15, 8, 1)], [], [], [], [], [])) (fuel := 400) (cuts := kq_isHeld) (by decide) rfl ⟨rfl, rfl⟩ (fun _ h => absurd h List.not_mem_nil) ⟨(List.forall_mem_cons.mpr ⟨⟨_, rfl, by decide, kw_73⟩, (fun _ h => absurd h List.not_mem_nil)⟩), (fun _ h => absurd h List.not_mem_nil), (fun _ h => absurd h List.not_mem_nil), (fun _ h => absurd h List.not_mem_nil), (fun _ h => absurd h List.not_mem_nil), (fun _ h => absurd h List.not_mem_nil)⟩ (by decide +kernel) ⟨_, _, rfl⟩ ?_ ?_ ?_ ?_
  · intro as ρ μ h
    obtain ⟨nw, sp, tl, tx, al⟩ := ρ
    obtain ⟨S, as0, rfl, h0⟩ := mq_pR_spec h
    clear h
    obtain ⟨rfl, hp⟩ := mq_p0_spec h0
    clear h0
    rfl
  · intro as ρ μ h
    obtain ⟨nw, sp, tl, tx, al⟩ := ρ
    obtain ⟨S, as0, rfl, h0⟩ := mq_pR_spec h
    clear h
    obtain ⟨rfl, hp⟩ := mq_p0_spec h0
    clear h0
    intro hrg
    intro hbk
    have e0 : mq_l0 ([.inr (.inr (some (17, S)))] : List mq_V) 1 = [some (.inr (.inr (some (17, S))))] := rfl
    rw [e0]
    repeat' (first | refine And.intro ?_ ?_ | intro _)
    all_goals first | omega | rfl | exact trivial | (simp [mq_up] at * <;> omega)
  · intro as ρ μ h
    obtain ⟨nw, sp, tl, tx, al⟩ := ρ
    obtain ⟨S, as0, rfl, h0⟩ := mq_pR_spec h
    clear h
    obtain ⟨rfl, hp⟩ := mq_p0_spec h0
    clear h0
    exact fun _ h => absurd h List.not_mem_nil
  · intro as ρ μ h
    obtain ⟨nw, sp, tl, tx, al⟩ := ρ
    obtain ⟨S, as0, rfl, h0⟩ := mq_pR_spec h
    clear h
    obtain ⟨rfl, hp⟩ := mq_p0_spec h0
    clear h0
    intro hrg
    exact fun _ h => absurd h List.not_mem_nil
theorem mw0_isHeld : mq_mlA cq_isHeld 0 := ⟨kw_609, ⟨by decide +kernel, by decide +kernel⟩, by decide +kernel, kw_610, kw_611, kw_87, 17, by decide +kernel, fun as ρ μ h => by obtain ⟨nw, sp, tl, tx, al⟩ := ρ; obtain ⟨i, t, e, _⟩ := mq_pR_spec h; exact ⟨i, t, e⟩⟩
def pq_hold : List mq_E := [(0, false, .aload 0), (1, false, .iload 1), (2, false, .multianewarray 8 1), (5, false, .aload 0), (6, false, .iconst 0), (7, false, .iconst 60), (9, false, .iload 2), (10, false, .f2l), (13, false, .f2i), (16, false, .multianewarray 8 2), (19, false, .aload 0), (20, false, .invokeinterface 8 0), (23, false, .goto_w 0), (24, false, .invokestatic 0), (27, false, .return_)]
def cq_hold : mq_C := ((yX8_hold, cX8_hold, 3, none, { frames := 1, cells := 0, slots := 0, locals := 24 }), (3, 0, 0, 0), 393216, (fun as ρ μ => match ρ with
  | (nw, sp, tl, tx, al) => mq_pR as 17 fun S as => mq_pI as fun w as => mq_pI as fun n as => mq_p0 as (0 ≤ w ∧ w ≤ 3 ∧ 0 ≤ n ∧ n ≤ 60)),
  (fun as ρ μ r ρ' μ' => match as, ρ, ρ' with
  | [.inr (.inr (some (_, S))), .inl w, .inl n], (nw, sp, tl, tx, al), (nw', sp', tl', tx', al') => [μ' (17, S) 1 = w, μ' (17, S) 2 = n, ∀ j : mq_J, j.1 = 17 → j ≠ (17, S) → μ' j = μ j]
  | _, _, _ => []))
def kq_hold : List mq_V → mq_R → mq_M → List mq_Cu := fun as ρ μ => match as, ρ with
  | [.inr (.inr (some (_, S))), .inl w, .inl n], (nw, sp, tl, tx, al) => []
  | _, _ => []
set_option maxHeartbeats 16000000 in
set_option maxRecDepth 100000 in
theorem vq_hold (lc : Launch) (h_fill18 : mq_Ct lc cq_fill18) : mq_Ct lc cq_hold := by
  refine mq_method (lc := lc) (P := pq_hold) (cl := [cq_fill18]) (T := ([(15, 8, 1), (19, 8, 2), (11, 8, 0)], [], [], [(31, 0, 1)], [], [(22, false), (28, true)])) (fuel := 400) (cuts := kq_hold) (by decide) rfl ⟨rfl, rfl⟩ (List.forall_mem_cons.mpr ⟨h_fill18, (fun _ h => absurd h List.not_mem_nil)⟩) ⟨(List.forall_mem_cons.mpr ⟨⟨_, rfl, by decide, kw_73⟩, (List.forall_mem_cons.mpr ⟨⟨_, rfl, by decide, kw_74⟩, (List.forall_mem_cons.mpr ⟨⟨_, rfl, by decide, kw_75⟩, (fun _ h => absurd h List.not_mem_nil)⟩)⟩)⟩), (fun _ h => absurd h List.not_mem_nil), (fun _ h => absurd h List.not_mem_nil), (List.forall_mem_cons.mpr ⟨mq_ml1 rfl mw1_fill18 kw_79, (fun _ h => absurd h List.not_mem_nil)⟩), (fun _ h => absurd h List.not_mem_nil), (List.forall_mem_cons.mpr ⟨⟨kw_80, kw_43, kw_44, kw_45⟩, (List.forall_mem_cons.mpr ⟨⟨kw_81, kw_82, kw_44, kw_83⟩, (fun _ h => absurd h List.not_mem_nil)⟩)⟩)⟩ (by decide +kernel) ⟨_, _, rfl⟩ ?_ ?_ ?_ ?_
  · intro as ρ μ h
    obtain ⟨nw, sp, tl, tx, al⟩ := ρ
    obtain ⟨S, as0, rfl, h0⟩ := mq_pR_spec h
    clear h
    obtain ⟨w, as1, rfl, h1⟩ := mq_pI_spec h0
    clear h0
    obtain ⟨n, as2, rfl, h2⟩ := mq_pI_spec h1
    clear h1
    obtain ⟨rfl, hp⟩ := mq_p0_spec h2
    clear h2
    obtain ⟨hp0, hp1, hp2, hp3⟩ := hp
    rfl
  · intro as ρ μ h
    obtain ⟨nw, sp, tl, tx, al⟩ := ρ
    obtain ⟨S, as0, rfl, h0⟩ := mq_pR_spec h
    clear h
    obtain ⟨w, as1, rfl, h1⟩ := mq_pI_spec h0
    clear h0
    obtain ⟨n, as2, rfl, h2⟩ := mq_pI_spec h1
    clear h1
    obtain ⟨rfl, hp⟩ := mq_p0_spec h2
    clear h2
    obtain ⟨hp0, hp1, hp2, hp3⟩ := hp
    intro hrg
    obtain ⟨⟨ha1a, ha1b⟩, ⟨ha2a, ha2b⟩, -⟩ := hrg
    intro hbk
    have e0 : mq_l0 ([.inr (.inr (some (17, S))), .inl w, .inl n] : List mq_V) 3 = [some (.inr (.inr (some (17, S)))), some (.inl w), some (.inl n)] := rfl
    rw [e0]
    repeat' (first | refine And.intro ?_ ?_ | intro _)
    all_goals first | omega | rfl | exact trivial | (have hag := ‹mq_ag _ _ _›; rw [hag (17, S) (show Nat.testBit _ 17 = false by decide)]; simp [mq_up] <;> omega) | (have hag := ‹mq_ag _ _ _›; rename_i j hj1 hj2; rw [hag j (by rw [hj1]; decide), mq_up_ne _ _ _ hj2, mq_up_ne _ _ _ hj2])
  · intro as ρ μ h
    obtain ⟨nw, sp, tl, tx, al⟩ := ρ
    obtain ⟨S, as0, rfl, h0⟩ := mq_pR_spec h
    clear h
    obtain ⟨w, as1, rfl, h1⟩ := mq_pI_spec h0
    clear h0
    obtain ⟨n, as2, rfl, h2⟩ := mq_pI_spec h1
    clear h1
    obtain ⟨rfl, hp⟩ := mq_p0_spec h2
    clear h2
    obtain ⟨hp0, hp1, hp2, hp3⟩ := hp
    exact fun _ h => absurd h List.not_mem_nil
  · intro as ρ μ h
    obtain ⟨nw, sp, tl, tx, al⟩ := ρ
    obtain ⟨S, as0, rfl, h0⟩ := mq_pR_spec h
    clear h
    obtain ⟨w, as1, rfl, h1⟩ := mq_pI_spec h0
    clear h0
    obtain ⟨n, as2, rfl, h2⟩ := mq_pI_spec h1
    clear h1
    obtain ⟨rfl, hp⟩ := mq_p0_spec h2
    clear h2
    obtain ⟨hp0, hp1, hp2, hp3⟩ := hp
    intro hrg
    obtain ⟨⟨ha1a, ha1b⟩, ⟨ha2a, ha2b⟩, -⟩ := hrg
    exact fun _ h => absurd h List.not_mem_nil
theorem mw0_hold : mq_mlA cq_hold 0 := ⟨kw_753, ⟨by decide +kernel, by decide +kernel⟩, by decide +kernel, kw_754, kw_755, kw_87, 17, by decide +kernel, fun as ρ μ h => by obtain ⟨nw, sp, tl, tx, al⟩ := ρ; obtain ⟨i, t, e, _⟩ := mq_pR_spec h; exact ⟨i, t, e⟩⟩
def pq_slotGet : List mq_E := [(0, false, .iload 1), (1, false, .ifCond .lt (Int.ofNat 21)), (4, false, .iload 1), (5, false, .aload 0), (6, false, .invokeinterface 8 2), (9, false, .if_icmp .ge (Int.ofNat 21)), (12, false, .aload 0), (13, false, .invokeinterface 8 0), (16, false, .iload 1), (17, false, .laload), (18, false, .goto (Int.ofNat 22)), (21, false, .goto_w 0), (22, false, .lreturn)]
def cq_slotGet : mq_C := ((yX8_get, cX8_get, 2, (some .long), { frames := 0, cells := 0, slots := 0, locals := 0 }), (2, 2, 0, 0), 0, (fun as ρ μ => match ρ with
  | (nw, sp, tl, tx, al) => mq_pR as 17 fun S as => mq_pI as fun i as => mq_p0 as (True)),
  (fun as ρ μ r ρ' μ' => match as, ρ, ρ' with
  | [.inr (.inr (some (_, S))), .inl i], (nw, sp, tl, tx, al), (nw', sp', tl', tx', al') => []
  | _, _, _ => []))
def kq_slotGet : List mq_V → mq_R → mq_M → List mq_Cu := fun as ρ μ => match as, ρ with
  | [.inr (.inr (some (_, S))), .inl i], (nw, sp, tl, tx, al) => []
  | _, _ => []
set_option maxHeartbeats 16000000 in
set_option maxRecDepth 100000 in
theorem vq_slotGet (lc : Launch)  : mq_Ct lc cq_slotGet := by
  refine mq_method (lc := lc) (P := pq_slotGet) (cl := []) (T := ([(19, 8, 2), (11, 8, 0)], [], [], [], [], [])) (fuel := 400) (cuts := kq_slotGet) (by decide) rfl ⟨rfl, rfl⟩ (fun _ h => absurd h List.not_mem_nil) ⟨(List.forall_mem_cons.mpr ⟨⟨_, rfl, by decide, kw_74⟩, (List.forall_mem_cons.mpr ⟨⟨_, rfl, by decide, kw_75⟩, (fun _ h => absurd h List.not_mem_nil)⟩)⟩), (fun _ h => absurd h List.not_mem_nil), (fun _ h => absurd h List.not_mem_nil), (fun _ h => absurd h List.not_mem_nil), (fun _ h => absurd h List.not_mem_nil), (fun _ h => absurd h List.not_mem_nil)⟩ (by decide +kernel) ⟨_, _, rfl⟩ ?_ ?_ ?_ ?_
  · intro as ρ μ h
    obtain ⟨nw, sp, tl, tx, al⟩ := ρ
    obtain ⟨S, as0, rfl, h0⟩ := mq_pR_spec h
    clear h
    obtain ⟨i, as1, rfl, h1⟩ := mq_pI_spec h0
    clear h0
    obtain ⟨rfl, hp⟩ := mq_p0_spec h1
    clear h1
    rfl
  · intro as ρ μ h
    obtain ⟨nw, sp, tl, tx, al⟩ := ρ
    obtain ⟨S, as0, rfl, h0⟩ := mq_pR_spec h
    clear h
    obtain ⟨i, as1, rfl, h1⟩ := mq_pI_spec h0
    clear h0
    obtain ⟨rfl, hp⟩ := mq_p0_spec h1
    clear h1
    intro hrg
    obtain ⟨⟨ha1a, ha1b⟩, -⟩ := hrg
    intro hbk
    have e0 : mq_l0 ([.inr (.inr (some (17, S))), .inl i] : List mq_V) 2 = [some (.inr (.inr (some (17, S)))), some (.inl i)] := rfl
    rw [e0]
    repeat' (first | refine And.intro ?_ ?_ | intro _)
    all_goals first | omega | rfl | exact trivial | (simp [mq_up] at * <;> omega)
  · intro as ρ μ h
    obtain ⟨nw, sp, tl, tx, al⟩ := ρ
    obtain ⟨S, as0, rfl, h0⟩ := mq_pR_spec h
    clear h
    obtain ⟨i, as1, rfl, h1⟩ := mq_pI_spec h0
    clear h0
    obtain ⟨rfl, hp⟩ := mq_p0_spec h1
    clear h1
    exact fun _ h => absurd h List.not_mem_nil
  · intro as ρ μ h
    obtain ⟨nw, sp, tl, tx, al⟩ := ρ
    obtain ⟨S, as0, rfl, h0⟩ := mq_pR_spec h
    clear h
    obtain ⟨i, as1, rfl, h1⟩ := mq_pI_spec h0
    clear h0
    obtain ⟨rfl, hp⟩ := mq_p0_spec h1
    clear h1
    intro hrg
    obtain ⟨⟨ha1a, ha1b⟩, -⟩ := hrg
    exact fun _ h => absurd h List.not_mem_nil
theorem mw0_slotGet : mq_mlA cq_slotGet 0 := ⟨kw_613, ⟨by decide +kernel, by decide +kernel⟩, by decide +kernel, kw_614, kw_615, kw_87, 17, by decide +kernel, fun as ρ μ h => by obtain ⟨nw, sp, tl, tx, al⟩ := ρ; obtain ⟨i, t, e, _⟩ := mq_pR_spec h; exact ⟨i, t, e⟩⟩
def pq_cutTo : List mq_E := [(0, false, .aload 0), (1, false, .invokeinterface 8 1), (4, false, .tableswitch (Int.ofNat 46) 0 2 #[(Int.ofNat 32), (Int.ofNat 37), (Int.ofNat 42)]), (32, false, .lload 1), (33, false, .l2i), (34, false, .i2b), (35, false, .i2l), (36, false, .lreturn), (37, false, .lload 1), (38, false, .l2i), (39, false, .i2s), (40, false, .i2l), (41, false, .lreturn), (42, false, .lload 1), (43, false, .l2i), (44, false, .i2l), (45, false, .lreturn), (46, false, .lload 1), (47, false, .lreturn)]
def cq_cutTo : mq_C := ((yX8_cutTo, cX8_cutTo, 3, (some .long), { frames := 0, cells := 0, slots := 0, locals := 0 }), (2, 2, 0, 0), 0, (fun as ρ μ => match ρ with
  | (nw, sp, tl, tx, al) => mq_pR as 17 fun S as => mq_pL as fun v as => mq_p0 as (True)),
  (fun as ρ μ r ρ' μ' => match as, ρ, ρ' with
  | [.inr (.inr (some (_, S))), .inr (.inl v)], (nw, sp, tl, tx, al), (nw', sp', tl', tx', al') => []
  | _, _, _ => []))
def kq_cutTo : List mq_V → mq_R → mq_M → List mq_Cu := fun as ρ μ => match as, ρ with
  | [.inr (.inr (some (_, S))), .inr (.inl v)], (nw, sp, tl, tx, al) => []
  | _, _ => []
set_option maxHeartbeats 16000000 in
set_option maxRecDepth 100000 in
theorem vq_cutTo (lc : Launch)  : mq_Ct lc cq_cutTo := by
  refine mq_method (lc := lc) (P := pq_cutTo) (cl := []) (T := ([(15, 8, 1)], [], [], [], [], [])) (fuel := 400) (cuts := kq_cutTo) (by decide) rfl ⟨rfl, rfl⟩ (fun _ h => absurd h List.not_mem_nil) ⟨(List.forall_mem_cons.mpr ⟨⟨_, rfl, by decide, kw_73⟩, (fun _ h => absurd h List.not_mem_nil)⟩), (fun _ h => absurd h List.not_mem_nil), (fun _ h => absurd h List.not_mem_nil), (fun _ h => absurd h List.not_mem_nil), (fun _ h => absurd h List.not_mem_nil), (fun _ h => absurd h List.not_mem_nil)⟩ (by decide +kernel) ⟨_, _, rfl⟩ ?_ ?_ ?_ ?_
  · intro as ρ μ h
    obtain ⟨nw, sp, tl, tx, al⟩ := ρ
    obtain ⟨S, as0, rfl, h0⟩ := mq_pR_spec h
    clear h
    obtain ⟨v, as1, rfl, h1⟩ := mq_pL_spec h0
    clear h0
    obtain ⟨rfl, hp⟩ := mq_p0_spec h1
    clear h1
    rfl
  · intro as ρ μ h
    obtain ⟨nw, sp, tl, tx, al⟩ := ρ
    obtain ⟨S, as0, rfl, h0⟩ := mq_pR_spec h
    clear h
    obtain ⟨v, as1, rfl, h1⟩ := mq_pL_spec h0
    clear h0
    obtain ⟨rfl, hp⟩ := mq_p0_spec h1
    clear h1
    intro hrg
    obtain ⟨⟨ha1a, ha1b⟩, -⟩ := hrg
    intro hbk
    have e0 : mq_l0 ([.inr (.inr (some (17, S))), .inr (.inl v)] : List mq_V) 3 = [some (.inr (.inr (some (17, S)))), some (.inr (.inl v)), none] := rfl
    rw [e0]
    repeat' (first | refine And.intro ?_ ?_ | intro _)
    all_goals first | omega | rfl | exact trivial | (simp [mq_up] at * <;> omega)
  · intro as ρ μ h
    obtain ⟨nw, sp, tl, tx, al⟩ := ρ
    obtain ⟨S, as0, rfl, h0⟩ := mq_pR_spec h
    clear h
    obtain ⟨v, as1, rfl, h1⟩ := mq_pL_spec h0
    clear h0
    obtain ⟨rfl, hp⟩ := mq_p0_spec h1
    clear h1
    exact fun _ h => absurd h List.not_mem_nil
  · intro as ρ μ h
    obtain ⟨nw, sp, tl, tx, al⟩ := ρ
    obtain ⟨S, as0, rfl, h0⟩ := mq_pR_spec h
    clear h
    obtain ⟨v, as1, rfl, h1⟩ := mq_pL_spec h0
    clear h0
    obtain ⟨rfl, hp⟩ := mq_p0_spec h1
    clear h1
    intro hrg
    obtain ⟨⟨ha1a, ha1b⟩, -⟩ := hrg
    exact fun _ h => absurd h List.not_mem_nil
theorem mw0_cutTo : mq_mlA cq_cutTo 0 := ⟨kw_84, ⟨by decide +kernel, by decide +kernel⟩, by decide +kernel, kw_85, kw_86, kw_87, 17, by decide +kernel, fun as ρ μ h => by obtain ⟨nw, sp, tl, tx, al⟩ := ρ; obtain ⟨i, t, e, _⟩ := mq_pR_spec h; exact ⟨i, t, e⟩⟩
def pq_slotSet : List mq_E := [(0, false, .iload 1), (1, false, .ifCond .lt (Int.ofNat 23)), (4, false, .iload 1), (5, false, .aload 0), (6, false, .invokeinterface 8 2), (9, false, .if_icmp .ge (Int.ofNat 23)), (12, false, .aload 0), (13, false, .invokeinterface 8 0), (16, false, .iload 1), (17, false, .aload 0), (18, false, .lload 2), (19, false, .invokestatic 0), (22, false, .lastore), (23, false, .return_)]
def cq_slotSet : mq_C := ((yX8_set, cX8_set, 4, none, { frames := 1, cells := 0, slots := 0, locals := 22 }), (3, 0, 0, 0), 262144, (fun as ρ μ => match ρ with
  | (nw, sp, tl, tx, al) => mq_pR as 17 fun S as => mq_pI as fun i as => mq_pL as fun v as => mq_p0 as (True)),
  (fun as ρ μ r ρ' μ' => match as, ρ, ρ' with
  | [.inr (.inr (some (_, S))), .inl i, .inr (.inl v)], (nw, sp, tl, tx, al), (nw', sp', tl', tx', al') => []
  | _, _, _ => []))
def kq_slotSet : List mq_V → mq_R → mq_M → List mq_Cu := fun as ρ μ => match as, ρ with
  | [.inr (.inr (some (_, S))), .inl i, .inr (.inl v)], (nw, sp, tl, tx, al) => []
  | _, _ => []
set_option maxHeartbeats 16000000 in
set_option maxRecDepth 100000 in
theorem vq_slotSet (lc : Launch) (h_cutTo : mq_Ct lc cq_cutTo) : mq_Ct lc cq_slotSet := by
  refine mq_method (lc := lc) (P := pq_slotSet) (cl := [cq_cutTo]) (T := ([(19, 8, 2), (11, 8, 0)], [], [], [(37, 0, 0)], [], [])) (fuel := 400) (cuts := kq_slotSet) (by decide) rfl ⟨rfl, rfl⟩ (List.forall_mem_cons.mpr ⟨h_cutTo, (fun _ h => absurd h List.not_mem_nil)⟩) ⟨(List.forall_mem_cons.mpr ⟨⟨_, rfl, by decide, kw_74⟩, (List.forall_mem_cons.mpr ⟨⟨_, rfl, by decide, kw_75⟩, (fun _ h => absurd h List.not_mem_nil)⟩)⟩), (fun _ h => absurd h List.not_mem_nil), (fun _ h => absurd h List.not_mem_nil), (List.forall_mem_cons.mpr ⟨mq_ml0 rfl mw0_cutTo kw_88, (fun _ h => absurd h List.not_mem_nil)⟩), (fun _ h => absurd h List.not_mem_nil), (fun _ h => absurd h List.not_mem_nil)⟩ (by decide +kernel) ⟨_, _, rfl⟩ ?_ ?_ ?_ ?_
  · intro as ρ μ h
    obtain ⟨nw, sp, tl, tx, al⟩ := ρ
    obtain ⟨S, as0, rfl, h0⟩ := mq_pR_spec h
    clear h
    obtain ⟨i, as1, rfl, h1⟩ := mq_pI_spec h0
    clear h0
    obtain ⟨v, as2, rfl, h2⟩ := mq_pL_spec h1
    clear h1
    obtain ⟨rfl, hp⟩ := mq_p0_spec h2
    clear h2
    rfl
  · intro as ρ μ h
    obtain ⟨nw, sp, tl, tx, al⟩ := ρ
    obtain ⟨S, as0, rfl, h0⟩ := mq_pR_spec h
    clear h
    obtain ⟨i, as1, rfl, h1⟩ := mq_pI_spec h0
    clear h0
    obtain ⟨v, as2, rfl, h2⟩ := mq_pL_spec h1
    clear h1
    obtain ⟨rfl, hp⟩ := mq_p0_spec h2
    clear h2
    intro hrg
    obtain ⟨⟨ha1a, ha1b⟩, ⟨ha2a, ha2b⟩, -⟩ := hrg
    intro hbk
    have e0 : mq_l0 ([.inr (.inr (some (17, S))), .inl i, .inr (.inl v)] : List mq_V) 4 = [some (.inr (.inr (some (17, S)))), some (.inl i), some (.inr (.inl v)), none] := rfl
    rw [e0]
    repeat' (first | refine And.intro ?_ ?_ | intro _)
    all_goals first | omega | rfl | exact trivial | (simp [mq_up] at * <;> omega)
  · intro as ρ μ h
    obtain ⟨nw, sp, tl, tx, al⟩ := ρ
    obtain ⟨S, as0, rfl, h0⟩ := mq_pR_spec h
    clear h
    obtain ⟨i, as1, rfl, h1⟩ := mq_pI_spec h0
    clear h0
    obtain ⟨v, as2, rfl, h2⟩ := mq_pL_spec h1
    clear h1
    obtain ⟨rfl, hp⟩ := mq_p0_spec h2
    clear h2
    exact fun _ h => absurd h List.not_mem_nil
  · intro as ρ μ h
    obtain ⟨nw, sp, tl, tx, al⟩ := ρ
    obtain ⟨S, as0, rfl, h0⟩ := mq_pR_spec h
    clear h
    obtain ⟨i, as1, rfl, h1⟩ := mq_pI_spec h0
    clear h0
    obtain ⟨v, as2, rfl, h2⟩ := mq_pL_spec h1
    clear h1
    obtain ⟨rfl, hp⟩ := mq_p0_spec h2
    clear h2
    intro hrg
    obtain ⟨⟨ha1a, ha1b⟩, ⟨ha2a, ha2b⟩, -⟩ := hrg
    exact fun _ h => absurd h List.not_mem_nil
theorem mw0_slotSet : mq_mlA cq_slotSet 0 := ⟨kw_757, ⟨by decide +kernel, by decide +kernel⟩, by decide +kernel, kw_758, kw_759, kw_87, 17, by decide +kernel, fun as ρ μ h => by obtain ⟨nw, sp, tl, tx, al⟩ := ρ; obtain ⟨i, t, e, _⟩ := mq_pR_spec h; exact ⟨i, t, e⟩⟩
def pq_hasPart : List mq_E := [(0, false, .iload 1), (1, false, .ifCond .lt (Int.ofNat 30)), (4, false, .iload 2), (5, false, .ifCond .lt (Int.ofNat 30)), (8, false, .iload 1), (9, false, .aload 0), (10, false, .invokeinterface 8 2), (13, false, .if_icmp .gt (Int.ofNat 30)), (16, false, .iload 2), (17, false, .aload 0), (18, false, .invokeinterface 8 2), (21, false, .iload 1), (22, false, .fsub), (23, false, .if_icmp .gt (Int.ofNat 30)), (26, false, .iconst 1), (27, false, .goto (Int.ofNat 31)), (30, false, .iconst 0), (31, false, .ireturn)]
def cq_hasPart : mq_C := ((yX8_hasPart, cX8_hasPart, 3, (some .boolean), { frames := 0, cells := 0, slots := 0, locals := 0 }), (3, 1, 0, 0), 0, (fun as ρ μ => match ρ with
  | (nw, sp, tl, tx, al) => mq_pR as 17 fun S as => mq_pI as fun i as => mq_pI as fun n as => mq_p0 as (True)),
  (fun as ρ μ r ρ' μ' => match as, ρ, ρ' with
  | [.inr (.inr (some (_, S))), .inl i, .inl n], (nw, sp, tl, tx, al), (nw', sp', tl', tx', al') => [(r = 1 ∧ 0 ≤ i ∧ 0 ≤ n ∧ i + n ≤ μ (17, S) 2 ∧ i + n ≤ 60) ∨ (r = 0 ∧ ¬ (0 ≤ i ∧ 0 ≤ n ∧ i + n ≤ μ (17, S) 2))]
  | _, _, _ => []))
def kq_hasPart : List mq_V → mq_R → mq_M → List mq_Cu := fun as ρ μ => match as, ρ with
  | [.inr (.inr (some (_, S))), .inl i, .inl n], (nw, sp, tl, tx, al) => []
  | _, _ => []
set_option maxHeartbeats 16000000 in
set_option maxRecDepth 100000 in
theorem vq_hasPart (lc : Launch)  : mq_Ct lc cq_hasPart := by
  refine mq_method (lc := lc) (P := pq_hasPart) (cl := []) (T := ([(19, 8, 2)], [], [], [], [], [])) (fuel := 400) (cuts := kq_hasPart) (by decide) rfl ⟨rfl, rfl⟩ (fun _ h => absurd h List.not_mem_nil) ⟨(List.forall_mem_cons.mpr ⟨⟨_, rfl, by decide, kw_74⟩, (fun _ h => absurd h List.not_mem_nil)⟩), (fun _ h => absurd h List.not_mem_nil), (fun _ h => absurd h List.not_mem_nil), (fun _ h => absurd h List.not_mem_nil), (fun _ h => absurd h List.not_mem_nil), (fun _ h => absurd h List.not_mem_nil)⟩ (by decide +kernel) ⟨_, _, rfl⟩ ?_ ?_ ?_ ?_
  · intro as ρ μ h
    obtain ⟨nw, sp, tl, tx, al⟩ := ρ
    obtain ⟨S, as0, rfl, h0⟩ := mq_pR_spec h
    clear h
    obtain ⟨i, as1, rfl, h1⟩ := mq_pI_spec h0
    clear h0
    obtain ⟨n, as2, rfl, h2⟩ := mq_pI_spec h1
    clear h1
    obtain ⟨rfl, hp⟩ := mq_p0_spec h2
    clear h2
    rfl
  · intro as ρ μ h
    obtain ⟨nw, sp, tl, tx, al⟩ := ρ
    obtain ⟨S, as0, rfl, h0⟩ := mq_pR_spec h
    clear h
    obtain ⟨i, as1, rfl, h1⟩ := mq_pI_spec h0
    clear h0
    obtain ⟨n, as2, rfl, h2⟩ := mq_pI_spec h1
    clear h1
    obtain ⟨rfl, hp⟩ := mq_p0_spec h2
    clear h2
    intro hrg
    obtain ⟨⟨ha1a, ha1b⟩, ⟨ha2a, ha2b⟩, -⟩ := hrg
    intro hbk
    have e0 : mq_l0 ([.inr (.inr (some (17, S))), .inl i, .inl n] : List mq_V) 3 = [some (.inr (.inr (some (17, S)))), some (.inl i), some (.inl n)] := rfl
    rw [e0]
    repeat' (first | refine And.intro ?_ ?_ | intro _)
    all_goals first | omega | rfl | exact trivial | (simp [mq_up] at * <;> omega)
  · intro as ρ μ h
    obtain ⟨nw, sp, tl, tx, al⟩ := ρ
    obtain ⟨S, as0, rfl, h0⟩ := mq_pR_spec h
    clear h
    obtain ⟨i, as1, rfl, h1⟩ := mq_pI_spec h0
    clear h0
    obtain ⟨n, as2, rfl, h2⟩ := mq_pI_spec h1
    clear h1
    obtain ⟨rfl, hp⟩ := mq_p0_spec h2
    clear h2
    exact fun _ h => absurd h List.not_mem_nil
  · intro as ρ μ h
    obtain ⟨nw, sp, tl, tx, al⟩ := ρ
    obtain ⟨S, as0, rfl, h0⟩ := mq_pR_spec h
    clear h
    obtain ⟨i, as1, rfl, h1⟩ := mq_pI_spec h0
    clear h0
    obtain ⟨n, as2, rfl, h2⟩ := mq_pI_spec h1
    clear h1
    obtain ⟨rfl, hp⟩ := mq_p0_spec h2
    clear h2
    intro hrg
    obtain ⟨⟨ha1a, ha1b⟩, ⟨ha2a, ha2b⟩, -⟩ := hrg
    exact fun _ h => absurd h List.not_mem_nil
theorem mw0_hasPart : mq_mlA cq_hasPart 0 := ⟨kw_763, ⟨by decide +kernel, by decide +kernel⟩, by decide +kernel, kw_764, kw_765, kw_87, 17, by decide +kernel, fun as ρ μ h => by obtain ⟨nw, sp, tl, tx, al⟩ := ρ; obtain ⟨i, t, e, _⟩ := mq_pR_spec h; exact ⟨i, t, e⟩⟩
