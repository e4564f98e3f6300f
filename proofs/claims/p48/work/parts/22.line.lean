def pq_empty : List mq_E := [(0, false, .aload 0), (1, false, .iconst 0), (2, false, .multianewarray 3 0), (5, false, .aload 0), (6, false, .iconst 0), (7, false, .multianewarray 3 1), (10, false, .aload 0), (11, false, .invokeinterface 3 2), (14, false, .iconst 0), (15, false, .multianewarray 6 3), (18, false, .aload 0), (19, false, .invokeinterface 3 3), (22, false, .iconst 0), (23, false, .multianewarray 6 3), (26, false, .aload 0), (27, false, .invokeinterface 3 4), (30, false, .iconst 0), (31, false, .multianewarray 6 3), (34, false, .aload 0), (35, false, .invokeinterface 3 5), (38, false, .iconst 0), (39, false, .multianewarray 6 3), (42, false, .aload 0), (43, false, .invokeinterface 3 6), (46, false, .iconst 0), (47, false, .multianewarray 6 3), (50, false, .aload 0), (51, false, .invokeinterface 3 7), (54, false, .iconst 0), (55, false, .multianewarray 6 3), (58, false, .aload 0), (59, false, .invokeinterface 3 8), (62, false, .iconst 0), (63, false, .multianewarray 6 3), (66, false, .return_)]
def cq_empty : mq_C := ((yX3_empty, cX3_empty, 1, none, { frames := 0, cells := 0, slots := 0, locals := 0 }), (1, 0, 0, 0), 1020, (fun as ρ μ => match ρ with
  | (nw, sp, tl, tx, al) => mq_pR as 2 fun L as => mq_p0 as (True)),
  (fun as ρ μ r ρ' μ' => match as, ρ, ρ' with
  | [.inr (.inr (some (_, L)))], (nw, sp, tl, tx, al), (nw', sp', tl', tx', al') => []
  | _, _, _ => []))
def kq_empty : List mq_V → mq_R → mq_M → List mq_Cu := fun as ρ μ => match as, ρ with
  | [.inr (.inr (some (_, L)))], (nw, sp, tl, tx, al) => []
  | _, _ => []
set_option maxHeartbeats 16000000 in
set_option maxRecDepth 100000 in
theorem vq_empty (lc : Launch)  : mq_Ct lc cq_empty := by
  refine mq_method (lc := lc) (P := pq_empty) (cl := []) (T := ([(9, 3, 0), (15, 3, 1), (23, 3, 2), (45, 6, 3), (27, 3, 3), (30, 3, 4), (33, 3, 5), (36, 3, 6), (39, 3, 7), (42, 3, 8)], [], [], [], [], [])) (fuel := 400) (cuts := kq_empty) (by decide) rfl ⟨rfl, rfl⟩ (fun _ h => absurd h List.not_mem_nil) ⟨(List.forall_mem_cons.mpr ⟨⟨_, rfl, by decide, kw_46⟩, (List.forall_mem_cons.mpr ⟨⟨_, rfl, by decide, kw_47⟩, (List.forall_mem_cons.mpr ⟨⟨_, rfl, by decide, kw_48⟩, (List.forall_mem_cons.mpr ⟨⟨_, rfl, by decide, kw_49⟩, (List.forall_mem_cons.mpr ⟨⟨_, rfl, by decide, kw_50⟩, (List.forall_mem_cons.mpr ⟨⟨_, rfl, by decide, kw_51⟩, (List.forall_mem_cons.mpr ⟨⟨_, rfl, by decide, kw_52⟩, (List.forall_mem_cons.mpr ⟨⟨_, rfl, by decide, kw_53⟩, (List.forall_mem_cons.mpr ⟨⟨_, rfl, by decide, kw_54⟩, (List.forall_mem_cons.mpr ⟨⟨_, rfl, by decide, kw_55⟩, (fun _ h => absurd h List.not_mem_nil)⟩)⟩)⟩)⟩)⟩)⟩)⟩)⟩)⟩)⟩), (fun _ h => absurd h List.not_mem_nil), (fun _ h => absurd h List.not_mem_nil), (fun _ h => absurd h List.not_mem_nil), (fun _ h => absurd h List.not_mem_nil), (fun _ h => absurd h List.not_mem_nil)⟩ (by decide +kernel) ⟨_, _, rfl⟩ ?_ ?_ ?_ ?_
  · intro as ρ μ h
    obtain ⟨nw, sp, tl, tx, al⟩ := ρ
    obtain ⟨L, as0, rfl, h0⟩ := mq_pR_spec h
    clear h
    obtain ⟨rfl, hp⟩ := mq_p0_spec h0
    clear h0
    rfl
  · intro as ρ μ h
    obtain ⟨nw, sp, tl, tx, al⟩ := ρ
    obtain ⟨L, as0, rfl, h0⟩ := mq_pR_spec h
    clear h
    obtain ⟨rfl, hp⟩ := mq_p0_spec h0
    clear h0
    intro hrg
    intro hbk
    have e0 : mq_l0 ([.inr (.inr (some (2, L)))] : List mq_V) 1 = [some (.inr (.inr (some (2, L))))] := rfl
    rw [e0]
    repeat' (first | refine And.intro ?_ ?_ | intro _)
    all_goals first | omega | rfl | exact trivial | (simp [mq_up] at * <;> omega)
  · intro as ρ μ h
    obtain ⟨nw, sp, tl, tx, al⟩ := ρ
    obtain ⟨L, as0, rfl, h0⟩ := mq_pR_spec h
    clear h
    obtain ⟨rfl, hp⟩ := mq_p0_spec h0
    clear h0
    exact fun _ h => absurd h List.not_mem_nil
  · intro as ρ μ h
    obtain ⟨nw, sp, tl, tx, al⟩ := ρ
    obtain ⟨L, as0, rfl, h0⟩ := mq_pR_spec h
    clear h
    obtain ⟨rfl, hp⟩ := mq_p0_spec h0
    clear h0
    intro hrg
    exact fun _ h => absurd h List.not_mem_nil
theorem mw0_empty : mq_mlA cq_empty 0 := ⟨kw_491, ⟨by decide +kernel, by decide +kernel⟩, by decide +kernel, kw_492, kw_493, kw_67, 2, by decide +kernel, fun as ρ μ h => by obtain ⟨nw, sp, tl, tx, al⟩ := ρ; obtain ⟨i, t, e, _⟩ := mq_pR_spec h; exact ⟨i, t, e⟩⟩
def pq_copyLineX : List mq_E := [(0, false, .aload 0), (1, false, .aload 1), (2, false, .invokeinterface 3 0), (5, false, .multianewarray 3 0), (8, false, .aload 0), (9, false, .aload 1), (10, false, .invokeinterface 3 1), (13, false, .multianewarray 3 1), (16, false, .aload 0), (17, false, .invokeinterface 3 2), (20, false, .aload 1), (21, false, .invokeinterface 3 2), (24, false, .invokestatic 0), (27, false, .aload 0), (28, false, .invokeinterface 3 3), (31, false, .aload 1), (32, false, .invokeinterface 3 3), (35, false, .invokestatic 1), (38, false, .aload 0), (39, false, .invokeinterface 3 4), (42, false, .aload 1), (43, false, .invokeinterface 3 4), (46, false, .invokestatic 2), (49, false, .aload 0), (50, false, .invokeinterface 3 5), (53, false, .aload 1), (54, false, .invokeinterface 3 5), (57, false, .invokestatic 3), (60, false, .aload 0), (61, false, .invokeinterface 3 6), (64, false, .aload 1), (65, false, .invokeinterface 3 6), (68, false, .invokestatic 4), (71, false, .aload 0), (72, false, .invokeinterface 3 7), (75, false, .aload 1), (76, false, .invokeinterface 3 7), (79, false, .invokestatic 5), (82, false, .aload 0), (83, false, .invokeinterface 3 8), (86, false, .aload 1), (87, false, .invokeinterface 3 8), (90, false, .invokestatic 6), (93, false, .return_)]
def cq_copyLineX : mq_C := ((yX3_copyFrom, cX3_copyFrom, 2, none, { frames := 2, cells := 0, slots := 0, locals := 69 }), (2, 0, 0, 0), 131068, (fun as ρ μ => match ρ with
  | (nw, sp, tl, tx, al) => mq_pR as 2 fun L as => mq_pR as 2 fun M as => mq_p0 as (True)),
  (fun as ρ μ r ρ' μ' => match as, ρ, ρ' with
  | [.inr (.inr (some (_, L))), .inr (.inr (some (_, M)))], (nw, sp, tl, tx, al), (nw', sp', tl', tx', al') => []
  | _, _, _ => []))
def kq_copyLineX : List mq_V → mq_R → mq_M → List mq_Cu := fun as ρ μ => match as, ρ with
  | [.inr (.inr (some (_, L))), .inr (.inr (some (_, M)))], (nw, sp, tl, tx, al) => []
  | _, _ => []
set_option maxHeartbeats 16000000 in
set_option maxRecDepth 100000 in
theorem vq_copyLineX (lc : Launch) (h_copy_slopes : mq_Ct lc cq_copy_slopes) (h_copy_wets : mq_Ct lc cq_copy_wets) (h_copy_limits : mq_Ct lc cq_copy_limits) (h_copy_platforms : mq_Ct lc cq_copy_platforms) (h_copy_kinds : mq_Ct lc cq_copy_kinds) (h_copy_trains : mq_Ct lc cq_copy_trains) (h_copy_coaches : mq_Ct lc cq_copy_coaches) : mq_Ct lc cq_copyLineX := by
  refine mq_method (lc := lc) (P := pq_copyLineX) (cl := [cq_copy_slopes, cq_copy_wets, cq_copy_limits, cq_copy_platforms, cq_copy_kinds, cq_copy_trains, cq_copy_coaches]) (T := ([(9, 3, 0), (15, 3, 1), (23, 3, 2), (27, 3, 3), (30, 3, 4), (33, 3, 5), (36, 3, 6), (39, 3, 7), (42, 3, 8)], [], [], [(48, 0, 0), (48, 1, 0), (48, 2, 0), (48, 3, 0), (48, 4, 0), (48, 5, 0), (48, 6, 0)], [], [])) (fuel := 400) (cuts := kq_copyLineX) (by decide) rfl ⟨rfl, rfl⟩ (List.forall_mem_cons.mpr ⟨h_copy_slopes, (List.forall_mem_cons.mpr ⟨h_copy_wets, (List.forall_mem_cons.mpr ⟨h_copy_limits, (List.forall_mem_cons.mpr ⟨h_copy_platforms, (List.forall_mem_cons.mpr ⟨h_copy_kinds, (List.forall_mem_cons.mpr ⟨h_copy_trains, (List.forall_mem_cons.mpr ⟨h_copy_coaches, (fun _ h => absurd h List.not_mem_nil)⟩)⟩)⟩)⟩)⟩)⟩)⟩) ⟨(List.forall_mem_cons.mpr ⟨⟨_, rfl, by decide, kw_46⟩, (List.forall_mem_cons.mpr ⟨⟨_, rfl, by decide, kw_47⟩, (List.forall_mem_cons.mpr ⟨⟨_, rfl, by decide, kw_48⟩, (List.forall_mem_cons.mpr ⟨⟨_, rfl, by decide, kw_50⟩, (List.forall_mem_cons.mpr ⟨⟨_, rfl, by decide, kw_51⟩, (List.forall_mem_cons.mpr ⟨⟨_, rfl, by decide, kw_52⟩, (List.forall_mem_cons.mpr ⟨⟨_, rfl, by decide, kw_53⟩, (List.forall_mem_cons.mpr ⟨⟨_, rfl, by decide, kw_54⟩, (List.forall_mem_cons.mpr ⟨⟨_, rfl, by decide, kw_55⟩, (fun _ h => absurd h List.not_mem_nil)⟩)⟩)⟩)⟩)⟩)⟩)⟩)⟩)⟩), (fun _ h => absurd h List.not_mem_nil), (fun _ h => absurd h List.not_mem_nil), (List.forall_mem_cons.mpr ⟨mq_ml0 rfl mw0_copy_slopes kw_59, (List.forall_mem_cons.mpr ⟨mq_ml0 rfl mw0_copy_wets kw_59, (List.forall_mem_cons.mpr ⟨mq_ml0 rfl mw0_copy_limits kw_59, (List.forall_mem_cons.mpr ⟨mq_ml0 rfl mw0_copy_platforms kw_59, (List.forall_mem_cons.mpr ⟨mq_ml0 rfl mw0_copy_kinds kw_59, (List.forall_mem_cons.mpr ⟨mq_ml0 rfl mw0_copy_trains kw_59, (List.forall_mem_cons.mpr ⟨mq_ml0 rfl mw0_copy_coaches kw_59, (fun _ h => absurd h List.not_mem_nil)⟩)⟩)⟩)⟩)⟩)⟩)⟩), (fun _ h => absurd h List.not_mem_nil), (fun _ h => absurd h List.not_mem_nil)⟩ (by decide +kernel) ⟨_, _, rfl⟩ ?_ ?_ ?_ ?_
  · intro as ρ μ h
    obtain ⟨nw, sp, tl, tx, al⟩ := ρ
    obtain ⟨L, as0, rfl, h0⟩ := mq_pR_spec h
    clear h
    obtain ⟨M, as1, rfl, h1⟩ := mq_pR_spec h0
    clear h0
    obtain ⟨rfl, hp⟩ := mq_p0_spec h1
    clear h1
    rfl
  · intro as ρ μ h
    obtain ⟨nw, sp, tl, tx, al⟩ := ρ
    obtain ⟨L, as0, rfl, h0⟩ := mq_pR_spec h
    clear h
    obtain ⟨M, as1, rfl, h1⟩ := mq_pR_spec h0
    clear h0
    obtain ⟨rfl, hp⟩ := mq_p0_spec h1
    clear h1
    intro hrg
    intro hbk
    have e0 : mq_l0 ([.inr (.inr (some (2, L))), .inr (.inr (some (2, M)))] : List mq_V) 2 = [some (.inr (.inr (some (2, L)))), some (.inr (.inr (some (2, M))))] := rfl
    rw [e0]
    repeat' (first | refine And.intro ?_ ?_ | intro _)
    all_goals first | omega | rfl | exact trivial | (simp [mq_up] at * <;> omega)
  · intro as ρ μ h
    obtain ⟨nw, sp, tl, tx, al⟩ := ρ
    obtain ⟨L, as0, rfl, h0⟩ := mq_pR_spec h
    clear h
    obtain ⟨M, as1, rfl, h1⟩ := mq_pR_spec h0
    clear h0
    obtain ⟨rfl, hp⟩ := mq_p0_spec h1
    clear h1
    exact fun _ h => absurd h List.not_mem_nil
  · intro as ρ μ h
    obtain ⟨nw, sp, tl, tx, al⟩ := ρ
    obtain ⟨L, as0, rfl, h0⟩ := mq_pR_spec h
    clear h
    obtain ⟨M, as1, rfl, h1⟩ := mq_pR_spec h0
    clear h0
    obtain ⟨rfl, hp⟩ := mq_p0_spec h1
    clear h1
    intro hrg
    exact fun _ h => absurd h List.not_mem_nil
theorem mw0_copyLineX : mq_mlA cq_copyLineX 0 := ⟨kw_749, ⟨by decide +kernel, by decide +kernel⟩, by decide +kernel, kw_750, kw_751, kw_67, 2, by decide +kernel, fun as ρ μ h => by obtain ⟨nw, sp, tl, tx, al⟩ := ρ; obtain ⟨i, t, e, _⟩ := mq_pR_spec h; exact ⟨i, t, e⟩⟩
def pq_firstStand : List mq_E := [(0, false, .aload 0), (1, false, .invokeinterface 3 5), (4, false, .iload 2), (5, false, .iconst 0), (6, false, .invokestatic 0), (9, false, .aload 0), (10, false, .invokeinterface 3 6), (13, false, .iload 1), (14, false, .iconst 0), (15, false, .invokestatic 1), (18, false, .iadd), (19, false, .ireturn)]
def cq_firstStand : mq_C := ((yX3_firstStand, cX3_firstStand, 3, (some .int), { frames := 1, cells := 0, slots := 0, locals := 22 }), (3, 1, 0, 0), 0, (fun as ρ μ => match ρ with
  | (nw, sp, tl, tx, al) => mq_pR as 2 fun L as => mq_pI as fun k as => mq_pI as fun p as => mq_p0 as (True)),
  (fun as ρ μ r ρ' μ' => match as, ρ, ρ' with
  | [.inr (.inr (some (_, L))), .inl k, .inl p], (nw, sp, tl, tx, al), (nw', sp', tl', tx', al') => [0 ≤ r, r ≤ 430]
  | _, _, _ => []))
def kq_firstStand : List mq_V → mq_R → mq_M → List mq_Cu := fun as ρ μ => match as, ρ with
  | [.inr (.inr (some (_, L))), .inl k, .inl p], (nw, sp, tl, tx, al) => []
  | _, _ => []
set_option maxHeartbeats 16000000 in
set_option maxRecDepth 100000 in
theorem vq_firstStand (lc : Launch) (h_get_platforms : mq_Ct lc cq_get_platforms) (h_get_kinds : mq_Ct lc cq_get_kinds) : mq_Ct lc cq_firstStand := by
  refine mq_method (lc := lc) (P := pq_firstStand) (cl := [cq_get_platforms, cq_get_kinds]) (T := ([(33, 3, 5), (36, 3, 6)], [], [], [(52, 0, 0), (52, 1, 0)], [], [])) (fuel := 400) (cuts := kq_firstStand) (by decide) rfl ⟨rfl, rfl⟩ (List.forall_mem_cons.mpr ⟨h_get_platforms, (List.forall_mem_cons.mpr ⟨h_get_kinds, (fun _ h => absurd h List.not_mem_nil)⟩)⟩) ⟨(List.forall_mem_cons.mpr ⟨⟨_, rfl, by decide, kw_52⟩, (List.forall_mem_cons.mpr ⟨⟨_, rfl, by decide, kw_53⟩, (fun _ h => absurd h List.not_mem_nil)⟩)⟩), (fun _ h => absurd h List.not_mem_nil), (fun _ h => absurd h List.not_mem_nil), (List.forall_mem_cons.mpr ⟨mq_ml0 rfl mw0_get_platforms kw_63, (List.forall_mem_cons.mpr ⟨mq_ml0 rfl mw0_get_kinds kw_63, (fun _ h => absurd h List.not_mem_nil)⟩)⟩), (fun _ h => absurd h List.not_mem_nil), (fun _ h => absurd h List.not_mem_nil)⟩ (by decide +kernel) ⟨_, _, rfl⟩ ?_ ?_ ?_ ?_
  · intro as ρ μ h
    obtain ⟨nw, sp, tl, tx, al⟩ := ρ
    obtain ⟨L, as0, rfl, h0⟩ := mq_pR_spec h
    clear h
    obtain ⟨k, as1, rfl, h1⟩ := mq_pI_spec h0
    clear h0
    obtain ⟨p, as2, rfl, h2⟩ := mq_pI_spec h1
    clear h1
    obtain ⟨rfl, hp⟩ := mq_p0_spec h2
    clear h2
    rfl
  · intro as ρ μ h
    obtain ⟨nw, sp, tl, tx, al⟩ := ρ
    obtain ⟨L, as0, rfl, h0⟩ := mq_pR_spec h
    clear h
    obtain ⟨k, as1, rfl, h1⟩ := mq_pI_spec h0
    clear h0
    obtain ⟨p, as2, rfl, h2⟩ := mq_pI_spec h1
    clear h1
    obtain ⟨rfl, hp⟩ := mq_p0_spec h2
    clear h2
    intro hrg
    obtain ⟨⟨ha1a, ha1b⟩, ⟨ha2a, ha2b⟩, -⟩ := hrg
    intro hbk
    have e0 : mq_l0 ([.inr (.inr (some (2, L))), .inl k, .inl p] : List mq_V) 3 = [some (.inr (.inr (some (2, L)))), some (.inl k), some (.inl p)] := rfl
    rw [e0]
    repeat' (first | refine And.intro ?_ ?_ | intro _)
    all_goals first | omega | rfl | exact trivial | (simp [mq_up] at * <;> omega)
  · intro as ρ μ h
    obtain ⟨nw, sp, tl, tx, al⟩ := ρ
    obtain ⟨L, as0, rfl, h0⟩ := mq_pR_spec h
    clear h
    obtain ⟨k, as1, rfl, h1⟩ := mq_pI_spec h0
    clear h0
    obtain ⟨p, as2, rfl, h2⟩ := mq_pI_spec h1
    clear h1
    obtain ⟨rfl, hp⟩ := mq_p0_spec h2
    clear h2
    exact fun _ h => absurd h List.not_mem_nil
  · intro as ρ μ h
    obtain ⟨nw, sp, tl, tx, al⟩ := ρ
    obtain ⟨L, as0, rfl, h0⟩ := mq_pR_spec h
    clear h
    obtain ⟨k, as1, rfl, h1⟩ := mq_pI_spec h0
    clear h0
    obtain ⟨p, as2, rfl, h2⟩ := mq_pI_spec h1
    clear h1
    obtain ⟨rfl, hp⟩ := mq_p0_spec h2
    clear h2
    intro hrg
    obtain ⟨⟨ha1a, ha1b⟩, ⟨ha2a, ha2b⟩, -⟩ := hrg
    exact fun _ h => absurd h List.not_mem_nil
theorem mw0_firstStand : mq_mlA cq_firstStand 0 := ⟨kw_64, ⟨by decide +kernel, by decide +kernel⟩, by decide +kernel, kw_65, kw_66, kw_67, 2, by decide +kernel, fun as ρ μ h => by obtain ⟨nw, sp, tl, tx, al⟩ := ρ; obtain ⟨i, t, e, _⟩ := mq_pR_spec h; exact ⟨i, t, e⟩⟩
def pq_isInPlatform : List mq_E := [(0, false, .iload 3), (1, false, .aload 0), (2, false, .iload 1), (3, false, .iload 2), (4, false, .invokestatic 0), (7, false, .if_icmp .lt (Int.ofNat 27)), (10, false, .iload 3), (11, false, .aload 0), (12, false, .invokeinterface 3 5), (15, false, .iload 2), (16, false, .iconst 1), (17, false, .invokestatic 1), (20, false, .if_icmp .gt (Int.ofNat 27)), (23, false, .iconst 1), (24, false, .goto (Int.ofNat 28)), (27, false, .iconst 0), (28, false, .ireturn)]
def cq_isInPlatform : mq_C := ((yX3_isInPlatform, cX3_isInPlatform, 4, (some .boolean), { frames := 2, cells := 0, slots := 0, locals := 44 }), (4, 1, 0, 0), 0, (fun as ρ μ => match ρ with
  | (nw, sp, tl, tx, al) => mq_pR as 2 fun L as => mq_pI as fun k as => mq_pI as fun p as => mq_pI as fun y as => mq_p0 as (True)),
  (fun as ρ μ r ρ' μ' => match as, ρ, ρ' with
  | [.inr (.inr (some (_, L))), .inl k, .inl p, .inl y], (nw, sp, tl, tx, al), (nw', sp', tl', tx', al') => [0 ≤ r, r ≤ 1]
  | _, _, _ => []))
def kq_isInPlatform : List mq_V → mq_R → mq_M → List mq_Cu := fun as ρ μ => match as, ρ with
  | [.inr (.inr (some (_, L))), .inl k, .inl p, .inl y], (nw, sp, tl, tx, al) => []
  | _, _ => []
set_option maxHeartbeats 16000000 in
set_option maxRecDepth 100000 in
theorem vq_isInPlatform (lc : Launch) (h_firstStand : mq_Ct lc cq_firstStand) (h_get_platforms : mq_Ct lc cq_get_platforms) : mq_Ct lc cq_isInPlatform := by
  refine mq_method (lc := lc) (P := pq_isInPlatform) (cl := [cq_firstStand, cq_get_platforms]) (T := ([(33, 3, 5)], [], [], [(56, 0, 0), (52, 1, 0)], [], [])) (fuel := 400) (cuts := kq_isInPlatform) (by decide) rfl ⟨rfl, rfl⟩ (List.forall_mem_cons.mpr ⟨h_firstStand, (List.forall_mem_cons.mpr ⟨h_get_platforms, (fun _ h => absurd h List.not_mem_nil)⟩)⟩) ⟨(List.forall_mem_cons.mpr ⟨⟨_, rfl, by decide, kw_52⟩, (fun _ h => absurd h List.not_mem_nil)⟩), (fun _ h => absurd h List.not_mem_nil), (fun _ h => absurd h List.not_mem_nil), (List.forall_mem_cons.mpr ⟨mq_ml0 rfl mw0_firstStand kw_68, (List.forall_mem_cons.mpr ⟨mq_ml0 rfl mw0_get_platforms kw_63, (fun _ h => absurd h List.not_mem_nil)⟩)⟩), (fun _ h => absurd h List.not_mem_nil), (fun _ h => absurd h List.not_mem_nil)⟩ (by decide +kernel) ⟨_, _, rfl⟩ ?_ ?_ ?_ ?_
  · intro as ρ μ h
    obtain ⟨nw, sp, tl, tx, al⟩ := ρ
    obtain ⟨L, as0, rfl, h0⟩ := mq_pR_spec h
    clear h
    obtain ⟨k, as1, rfl, h1⟩ := mq_pI_spec h0
    clear h0
    obtain ⟨p, as2, rfl, h2⟩ := mq_pI_spec h1
    clear h1
    obtain ⟨y, as3, rfl, h3⟩ := mq_pI_spec h2
    clear h2
    obtain ⟨rfl, hp⟩ := mq_p0_spec h3
    clear h3
    rfl
  · intro as ρ μ h
    obtain ⟨nw, sp, tl, tx, al⟩ := ρ
    obtain ⟨L, as0, rfl, h0⟩ := mq_pR_spec h
    clear h
    obtain ⟨k, as1, rfl, h1⟩ := mq_pI_spec h0
    clear h0
    obtain ⟨p, as2, rfl, h2⟩ := mq_pI_spec h1
    clear h1
    obtain ⟨y, as3, rfl, h3⟩ := mq_pI_spec h2
    clear h2
    obtain ⟨rfl, hp⟩ := mq_p0_spec h3
    clear h3
    intro hrg
    obtain ⟨⟨ha1a, ha1b⟩, ⟨ha2a, ha2b⟩, ⟨ha3a, ha3b⟩, -⟩ := hrg
    intro hbk
    have e0 : mq_l0 ([.inr (.inr (some (2, L))), .inl k, .inl p, .inl y] : List mq_V) 4 = [some (.inr (.inr (some (2, L)))), some (.inl k), some (.inl p), some (.inl y)] := rfl
    rw [e0]
    repeat' (first | refine And.intro ?_ ?_ | intro _)
    all_goals first | omega | rfl | exact trivial | (simp [mq_up] at * <;> omega)
  · intro as ρ μ h
    obtain ⟨nw, sp, tl, tx, al⟩ := ρ
    obtain ⟨L, as0, rfl, h0⟩ := mq_pR_spec h
    clear h
    obtain ⟨k, as1, rfl, h1⟩ := mq_pI_spec h0
    clear h0
    obtain ⟨p, as2, rfl, h2⟩ := mq_pI_spec h1
    clear h1
    obtain ⟨y, as3, rfl, h3⟩ := mq_pI_spec h2
    clear h2
    obtain ⟨rfl, hp⟩ := mq_p0_spec h3
    clear h3
    exact fun _ h => absurd h List.not_mem_nil
  · intro as ρ μ h
    obtain ⟨nw, sp, tl, tx, al⟩ := ρ
    obtain ⟨L, as0, rfl, h0⟩ := mq_pR_spec h
    clear h
    obtain ⟨k, as1, rfl, h1⟩ := mq_pI_spec h0
    clear h0
    obtain ⟨p, as2, rfl, h2⟩ := mq_pI_spec h1
    clear h1
    obtain ⟨y, as3, rfl, h3⟩ := mq_pI_spec h2
    clear h2
    obtain ⟨rfl, hp⟩ := mq_p0_spec h3
    clear h3
    intro hrg
    obtain ⟨⟨ha1a, ha1b⟩, ⟨ha2a, ha2b⟩, ⟨ha3a, ha3b⟩, -⟩ := hrg
    exact fun _ h => absurd h List.not_mem_nil
theorem mw0_isInPlatform : mq_mlA cq_isInPlatform 0 := ⟨kw_258, ⟨by decide +kernel, by decide +kernel⟩, by decide +kernel, kw_259, kw_260, kw_67, 2, by decide +kernel, fun as ρ μ h => by obtain ⟨nw, sp, tl, tx, al⟩ := ρ; obtain ⟨i, t, e, _⟩ := mq_pR_spec h; exact ⟨i, t, e⟩⟩
def pq_lengthOf : List mq_E := [(0, false, .aload 0), (1, false, .invokeinterface 3 6), (4, false, .aload 0), (5, false, .invokeinterface 3 8), (8, false, .iload 1), (9, false, .iconst 1), (10, false, .invokestatic 0), (13, false, .iconst 0), (14, false, .invokestatic 1), (17, false, .ireturn)]
def cq_lengthOf : mq_C := ((yX3_lengthOf, cX3_lengthOf, 2, (some .int), { frames := 1, cells := 0, slots := 0, locals := 22 }), (2, 1, 0, 0), 0, (fun as ρ μ => match ρ with
  | (nw, sp, tl, tx, al) => mq_pR as 2 fun L as => mq_pI as fun c as => mq_p0 as (True)),
  (fun as ρ μ r ρ' μ' => match as, ρ, ρ' with
  | [.inr (.inr (some (_, L))), .inl c], (nw, sp, tl, tx, al), (nw', sp', tl', tx', al') => [0 ≤ r, r ≤ 30]
  | _, _, _ => []))
def kq_lengthOf : List mq_V → mq_R → mq_M → List mq_Cu := fun as ρ μ => match as, ρ with
  | [.inr (.inr (some (_, L))), .inl c], (nw, sp, tl, tx, al) => []
  | _, _ => []
set_option maxHeartbeats 16000000 in
set_option maxRecDepth 100000 in
theorem vq_lengthOf (lc : Launch) (h_get_coaches : mq_Ct lc cq_get_coaches) (h_get_kinds : mq_Ct lc cq_get_kinds) : mq_Ct lc cq_lengthOf := by
  refine mq_method (lc := lc) (P := pq_lengthOf) (cl := [cq_get_coaches, cq_get_kinds]) (T := ([(36, 3, 6), (42, 3, 8)], [], [], [(52, 0, 0), (52, 1, 0)], [], [])) (fuel := 400) (cuts := kq_lengthOf) (by decide) rfl ⟨rfl, rfl⟩ (List.forall_mem_cons.mpr ⟨h_get_coaches, (List.forall_mem_cons.mpr ⟨h_get_kinds, (fun _ h => absurd h List.not_mem_nil)⟩)⟩) ⟨(List.forall_mem_cons.mpr ⟨⟨_, rfl, by decide, kw_53⟩, (List.forall_mem_cons.mpr ⟨⟨_, rfl, by decide, kw_55⟩, (fun _ h => absurd h List.not_mem_nil)⟩)⟩), (fun _ h => absurd h List.not_mem_nil), (fun _ h => absurd h List.not_mem_nil), (List.forall_mem_cons.mpr ⟨mq_ml0 rfl mw0_get_coaches kw_63, (List.forall_mem_cons.mpr ⟨mq_ml0 rfl mw0_get_kinds kw_63, (fun _ h => absurd h List.not_mem_nil)⟩)⟩), (fun _ h => absurd h List.not_mem_nil), (fun _ h => absurd h List.not_mem_nil)⟩ (by decide +kernel) ⟨_, _, rfl⟩ ?_ ?_ ?_ ?_
  · intro as ρ μ h
    obtain ⟨nw, sp, tl, tx, al⟩ := ρ
    obtain ⟨L, as0, rfl, h0⟩ := mq_pR_spec h
    clear h
    obtain ⟨c, as1, rfl, h1⟩ := mq_pI_spec h0
    clear h0
    obtain ⟨rfl, hp⟩ := mq_p0_spec h1
    clear h1
    rfl
  · intro as ρ μ h
    obtain ⟨nw, sp, tl, tx, al⟩ := ρ
    obtain ⟨L, as0, rfl, h0⟩ := mq_pR_spec h
    clear h
    obtain ⟨c, as1, rfl, h1⟩ := mq_pI_spec h0
    clear h0
    obtain ⟨rfl, hp⟩ := mq_p0_spec h1
    clear h1
    intro hrg
    obtain ⟨⟨ha1a, ha1b⟩, -⟩ := hrg
    intro hbk
    have e0 : mq_l0 ([.inr (.inr (some (2, L))), .inl c] : List mq_V) 2 = [some (.inr (.inr (some (2, L)))), some (.inl c)] := rfl
    rw [e0]
    repeat' (first | refine And.intro ?_ ?_ | intro _)
    all_goals first | omega | rfl | exact trivial | (simp [mq_up] at * <;> omega)
  · intro as ρ μ h
    obtain ⟨nw, sp, tl, tx, al⟩ := ρ
    obtain ⟨L, as0, rfl, h0⟩ := mq_pR_spec h
    clear h
    obtain ⟨c, as1, rfl, h1⟩ := mq_pI_spec h0
    clear h0
    obtain ⟨rfl, hp⟩ := mq_p0_spec h1
    clear h1
    exact fun _ h => absurd h List.not_mem_nil
  · intro as ρ μ h
    obtain ⟨nw, sp, tl, tx, al⟩ := ρ
    obtain ⟨L, as0, rfl, h0⟩ := mq_pR_spec h
    clear h
    obtain ⟨c, as1, rfl, h1⟩ := mq_pI_spec h0
    clear h0
    obtain ⟨rfl, hp⟩ := mq_p0_spec h1
    clear h1
    intro hrg
    obtain ⟨⟨ha1a, ha1b⟩, -⟩ := hrg
    exact fun _ h => absurd h List.not_mem_nil
theorem mw0_lengthOf : mq_mlA cq_lengthOf 0 := ⟨kw_213, ⟨by decide +kernel, by decide +kernel⟩, by decide +kernel, kw_214, kw_215, kw_67, 2, by decide +kernel, fun as ρ μ h => by obtain ⟨nw, sp, tl, tx, al⟩ := ρ; obtain ⟨i, t, e, _⟩ := mq_pR_spec h; exact ⟨i, t, e⟩⟩
def pq_platformAtOf : List mq_E := [(0, false, .aload 0), (1, false, .invokeinterface 3 5), (4, false, .aload 0), (5, false, .invokeinterface 3 8), (8, false, .iload 1), (9, false, .iconst 2), (10, false, .invokestatic 0), (13, false, .iconst 0), (14, false, .invokestatic 1), (17, false, .ireturn)]
def cq_platformAtOf : mq_C := ((yX3_platformAtOf, cX3_platformAtOf, 2, (some .int), { frames := 1, cells := 0, slots := 0, locals := 22 }), (2, 1, 0, 0), 0, (fun as ρ μ => match ρ with
  | (nw, sp, tl, tx, al) => mq_pR as 2 fun L as => mq_pI as fun c as => mq_p0 as (True)),
  (fun as ρ μ r ρ' μ' => match as, ρ, ρ' with
  | [.inr (.inr (some (_, L))), .inl c], (nw, sp, tl, tx, al), (nw', sp', tl', tx', al') => [0 ≤ r, r ≤ 400]
  | _, _, _ => []))
def kq_platformAtOf : List mq_V → mq_R → mq_M → List mq_Cu := fun as ρ μ => match as, ρ with
  | [.inr (.inr (some (_, L))), .inl c], (nw, sp, tl, tx, al) => []
  | _, _ => []
set_option maxHeartbeats 16000000 in
set_option maxRecDepth 100000 in
theorem vq_platformAtOf (lc : Launch) (h_get_coaches : mq_Ct lc cq_get_coaches) (h_get_platforms : mq_Ct lc cq_get_platforms) : mq_Ct lc cq_platformAtOf := by
  refine mq_method (lc := lc) (P := pq_platformAtOf) (cl := [cq_get_coaches, cq_get_platforms]) (T := ([(33, 3, 5), (42, 3, 8)], [], [], [(52, 0, 0), (52, 1, 0)], [], [])) (fuel := 400) (cuts := kq_platformAtOf) (by decide) rfl ⟨rfl, rfl⟩ (List.forall_mem_cons.mpr ⟨h_get_coaches, (List.forall_mem_cons.mpr ⟨h_get_platforms, (fun _ h => absurd h List.not_mem_nil)⟩)⟩) ⟨(List.forall_mem_cons.mpr ⟨⟨_, rfl, by decide, kw_52⟩, (List.forall_mem_cons.mpr ⟨⟨_, rfl, by decide, kw_55⟩, (fun _ h => absurd h List.not_mem_nil)⟩)⟩), (fun _ h => absurd h List.not_mem_nil), (fun _ h => absurd h List.not_mem_nil), (List.forall_mem_cons.mpr ⟨mq_ml0 rfl mw0_get_coaches kw_63, (List.forall_mem_cons.mpr ⟨mq_ml0 rfl mw0_get_platforms kw_63, (fun _ h => absurd h List.not_mem_nil)⟩)⟩), (fun _ h => absurd h List.not_mem_nil), (fun _ h => absurd h List.not_mem_nil)⟩ (by decide +kernel) ⟨_, _, rfl⟩ ?_ ?_ ?_ ?_
  · intro as ρ μ h
    obtain ⟨nw, sp, tl, tx, al⟩ := ρ
    obtain ⟨L, as0, rfl, h0⟩ := mq_pR_spec h
    clear h
    obtain ⟨c, as1, rfl, h1⟩ := mq_pI_spec h0
    clear h0
    obtain ⟨rfl, hp⟩ := mq_p0_spec h1
    clear h1
    rfl
  · intro as ρ μ h
    obtain ⟨nw, sp, tl, tx, al⟩ := ρ
    obtain ⟨L, as0, rfl, h0⟩ := mq_pR_spec h
    clear h
    obtain ⟨c, as1, rfl, h1⟩ := mq_pI_spec h0
    clear h0
    obtain ⟨rfl, hp⟩ := mq_p0_spec h1
    clear h1
    intro hrg
    obtain ⟨⟨ha1a, ha1b⟩, -⟩ := hrg
    intro hbk
    have e0 : mq_l0 ([.inr (.inr (some (2, L))), .inl c] : List mq_V) 2 = [some (.inr (.inr (some (2, L)))), some (.inl c)] := rfl
    rw [e0]
    repeat' (first | refine And.intro ?_ ?_ | intro _)
    all_goals first | omega | rfl | exact trivial | (simp [mq_up] at * <;> omega)
  · intro as ρ μ h
    obtain ⟨nw, sp, tl, tx, al⟩ := ρ
    obtain ⟨L, as0, rfl, h0⟩ := mq_pR_spec h
    clear h
    obtain ⟨c, as1, rfl, h1⟩ := mq_pI_spec h0
    clear h0
    obtain ⟨rfl, hp⟩ := mq_p0_spec h1
    clear h1
    exact fun _ h => absurd h List.not_mem_nil
  · intro as ρ μ h
    obtain ⟨nw, sp, tl, tx, al⟩ := ρ
    obtain ⟨L, as0, rfl, h0⟩ := mq_pR_spec h
    clear h
    obtain ⟨c, as1, rfl, h1⟩ := mq_pI_spec h0
    clear h0
    obtain ⟨rfl, hp⟩ := mq_p0_spec h1
    clear h1
    intro hrg
    obtain ⟨⟨ha1a, ha1b⟩, -⟩ := hrg
    exact fun _ h => absurd h List.not_mem_nil
theorem mw0_platformAtOf : mq_mlA cq_platformAtOf 0 := ⟨kw_354, ⟨by decide +kernel, by decide +kernel⟩, by decide +kernel, kw_355, kw_356, kw_67, 2, by decide +kernel, fun as ρ μ h => by obtain ⟨nw, sp, tl, tx, al⟩ := ρ; obtain ⟨i, t, e, _⟩ := mq_pR_spec h; exact ⟨i, t, e⟩⟩
def pq_coachesOf : List mq_E := [(0, false, .iconst 0), (1, false, .istore 2), (2, false, .iconst 0), (3, false, .istore 3), (4, true, .iload 3), (5, false, .aload 0), (6, false, .invokeinterface 3 8), (9, false, .invokeinterface 6 3), (12, false, .if_icmp .ge (Int.ofNat 37)), (15, false, .aload 0), (16, false, .invokeinterface 3 8), (19, false, .iload 3), (20, false, .iconst 0), (21, false, .invokestatic 0), (24, false, .iload 1), (25, false, .if_icmp .ne (Int.ofNat 31)), (28, false, .iinc 2 1), (31, false, .iinc 3 1), (34, false, .goto (Int.ofNat 4)), (37, false, .iload 2), (38, false, .ireturn)]
def cq_coachesOf : mq_C := ((yX3_coachesOf, cX3_coachesOf, 4, (some .int), { frames := 1, cells := 0, slots := 0, locals := 22 }), (2, 1, 0, 0), 0, (fun as ρ μ => match ρ with
  | (nw, sp, tl, tx, al) => mq_pR as 2 fun L as => mq_pI as fun t as => mq_p0 as (True)),
  (fun as ρ μ r ρ' μ' => match as, ρ, ρ' with
  | [.inr (.inr (some (_, L))), .inl t], (nw, sp, tl, tx, al), (nw', sp', tl', tx', al') => [0 ≤ r, r ≤ 16]
  | _, _, _ => []))
def kq_coachesOf : List mq_V → mq_R → mq_M → List mq_Cu := fun as ρ μ => match as, ρ with
  | [.inr (.inr (some (_, L))), .inl t], (nw, sp, tl, tx, al) => [(4, [true, true, true, true], fun N l st ρ' μ' cs => mq_tR l 2 fun L0 l => mq_tI l fun v1 l => mq_tI l fun v2 l => mq_tI l fun v3 l => mq_t0 l (st = [] ∧ ρ' = (nw, sp, tl, tx, al) ∧ cs = 0 ∧ L0 = L ∧ v1 = t ∧ 0 ≤ v2 ∧ v2 ≤ v3 ∧ v3 ≤ 16 ∧ 0 ≤ (16 - v3 : Int) ∧ (16 - v3 : Int) < (N : Int)))]
  | _, _ => []
set_option maxHeartbeats 16000000 in
set_option maxRecDepth 100000 in
theorem vq_coachesOf (lc : Launch) (h_get_coaches : mq_Ct lc cq_get_coaches) : mq_Ct lc cq_coachesOf := by
  refine mq_method (lc := lc) (P := pq_coachesOf) (cl := [cq_get_coaches]) (T := ([(42, 3, 8), (45, 6, 3)], [], [], [(52, 0, 0)], [], [])) (fuel := 400) (cuts := kq_coachesOf) (by decide) rfl ⟨rfl, rfl⟩ (List.forall_mem_cons.mpr ⟨h_get_coaches, (fun _ h => absurd h List.not_mem_nil)⟩) ⟨(List.forall_mem_cons.mpr ⟨⟨_, rfl, by decide, kw_55⟩, (List.forall_mem_cons.mpr ⟨⟨_, rfl, by decide, kw_49⟩, (fun _ h => absurd h List.not_mem_nil)⟩)⟩), (fun _ h => absurd h List.not_mem_nil), (fun _ h => absurd h List.not_mem_nil), (List.forall_mem_cons.mpr ⟨mq_ml0 rfl mw0_get_coaches kw_63, (fun _ h => absurd h List.not_mem_nil)⟩), (fun _ h => absurd h List.not_mem_nil), (fun _ h => absurd h List.not_mem_nil)⟩ (by decide +kernel) ⟨_, _, rfl⟩ ?_ ?_ ?_ ?_
  · intro as ρ μ h
    obtain ⟨nw, sp, tl, tx, al⟩ := ρ
    obtain ⟨L, as0, rfl, h0⟩ := mq_pR_spec h
    clear h
    obtain ⟨t, as1, rfl, h1⟩ := mq_pI_spec h0
    clear h0
    obtain ⟨rfl, hp⟩ := mq_p0_spec h1
    clear h1
    rfl
  · intro as ρ μ h
    obtain ⟨nw, sp, tl, tx, al⟩ := ρ
    obtain ⟨L, as0, rfl, h0⟩ := mq_pR_spec h
    clear h
    obtain ⟨t, as1, rfl, h1⟩ := mq_pI_spec h0
    clear h0
    obtain ⟨rfl, hp⟩ := mq_p0_spec h1
    clear h1
    intro hrg
    obtain ⟨⟨ha1a, ha1b⟩, -⟩ := hrg
    intro hbk
    have e0 : mq_l0 ([.inr (.inr (some (2, L))), .inl t] : List mq_V) 4 = [some (.inr (.inr (some (2, L)))), some (.inl t), none, none] := rfl
    rw [e0]
    repeat' (first | refine And.intro ?_ ?_ | intro _)
    all_goals first | omega | rfl | exact trivial | (simp [mq_up] at * <;> omega)
  · intro as ρ μ h
    obtain ⟨nw, sp, tl, tx, al⟩ := ρ
    obtain ⟨L, as0, rfl, h0⟩ := mq_pR_spec h
    clear h
    obtain ⟨t, as1, rfl, h1⟩ := mq_pI_spec h0
    clear h0
    obtain ⟨rfl, hp⟩ := mq_p0_spec h1
    clear h1
    refine List.forall_mem_cons.mpr ⟨?_, ?_⟩
    · intro l st ρ' μ' cs hJ
      obtain ⟨L0, l0, rfl, hJ0⟩ := mq_tR_spec hJ
      clear hJ
      obtain ⟨v1, l1, rfl, hJ1⟩ := mq_tI_spec hJ0
      clear hJ0
      obtain ⟨v2, l2, rfl, hJ2⟩ := mq_tI_spec hJ1
      clear hJ1
      obtain ⟨v3, l3, rfl, hJ3⟩ := mq_tI_spec hJ2
      clear hJ2
      obtain ⟨rfl, hJz⟩ := mq_t0_spec hJ3
      clear hJ3
      obtain ⟨rfl, rfl, rfl, rfl, hc1, hc2, hc3, hc4, hm0, hm1⟩ := hJz
      omega
    exact fun _ h => absurd h List.not_mem_nil
  · intro as ρ μ h
    obtain ⟨nw, sp, tl, tx, al⟩ := ρ
    obtain ⟨L, as0, rfl, h0⟩ := mq_pR_spec h
    clear h
    obtain ⟨t, as1, rfl, h1⟩ := mq_pI_spec h0
    clear h0
    obtain ⟨rfl, hp⟩ := mq_p0_spec h1
    clear h1
    intro hrg
    obtain ⟨⟨ha1a, ha1b⟩, -⟩ := hrg
    refine List.forall_mem_cons.mpr ⟨?_, ?_⟩
    · intro N l st ρ' μ' cs hJ
      obtain ⟨L0, l0, rfl, hJ0⟩ := mq_tR_spec hJ
      clear hJ
      obtain ⟨v1, l1, rfl, hJ1⟩ := mq_tI_spec hJ0
      clear hJ0
      obtain ⟨v2, l2, rfl, hJ2⟩ := mq_tI_spec hJ1
      clear hJ1
      obtain ⟨v3, l3, rfl, hJ3⟩ := mq_tI_spec hJ2
      clear hJ2
      obtain ⟨rfl, hJz⟩ := mq_t0_spec hJ3
      clear hJ3
      obtain ⟨rfl, rfl, rfl, rfl, hc1, hc2, hc3, hc4, hm0, hm1⟩ := hJz
      intro hbk hrl
      obtain ⟨⟨hl1a, hl1b⟩, ⟨hl2a, hl2b⟩, ⟨hl3a, hl3b⟩, -⟩ := hrl
      repeat' (first | refine And.intro ?_ ?_ | intro _)
      all_goals first | omega | rfl | exact trivial | (simp [mq_up] at * <;> omega)
    exact fun _ h => absurd h List.not_mem_nil
theorem mw0_coachesOf : mq_mlA cq_coachesOf 0 := ⟨kw_458, ⟨by decide +kernel, by decide +kernel⟩, by decide +kernel, kw_459, kw_460, kw_67, 2, by decide +kernel, fun as ρ μ h => by obtain ⟨nw, sp, tl, tx, al⟩ := ρ; obtain ⟨i, t, e, _⟩ := mq_pR_spec h; exact ⟨i, t, e⟩⟩
def pq_coachAt : List mq_E := [(0, false, .iconst 0), (1, false, .istore 3), (2, true, .iload 3), (3, false, .aload 0), (4, false, .invokeinterface 3 8), (7, false, .invokeinterface 6 3), (10, false, .if_icmp .ge (Int.ofNat 47)), (13, false, .aload 0), (14, false, .invokeinterface 3 8), (17, false, .iload 3), (18, false, .iconst 0), (19, false, .invokestatic 0), (22, false, .iload 1), (23, false, .if_icmp .ne (Int.ofNat 41)), (26, false, .aload 0), (27, false, .invokeinterface 3 8), (30, false, .iload 3), (31, false, .iconst 4), (32, false, .invokestatic 0), (35, false, .iload 2), (36, false, .if_icmp .ne (Int.ofNat 41)), (39, false, .iload 3), (40, false, .ireturn), (41, false, .iinc 3 1), (44, false, .goto (Int.ofNat 2)), (47, false, .iconst (-1)), (48, false, .ireturn)]
def cq_coachAt : mq_C := ((yX3_coachAt, cX3_coachAt, 4, (some .int), { frames := 1, cells := 0, slots := 0, locals := 22 }), (3, 1, 0, 0), 0, (fun as ρ μ => match ρ with
  | (nw, sp, tl, tx, al) => mq_pR as 2 fun L as => mq_pI as fun t as => mq_pI as fun p as => mq_p0 as (True)),
  (fun as ρ μ r ρ' μ' => match as, ρ, ρ' with
  | [.inr (.inr (some (_, L))), .inl t, .inl p], (nw, sp, tl, tx, al), (nw', sp', tl', tx', al') => [-1 ≤ r, r ≤ 15]
  | _, _, _ => []))
def kq_coachAt : List mq_V → mq_R → mq_M → List mq_Cu := fun as ρ μ => match as, ρ with
  | [.inr (.inr (some (_, L))), .inl t, .inl p], (nw, sp, tl, tx, al) => [(2, [true, true, true, true], fun N l st ρ' μ' cs => mq_tR l 2 fun L0 l => mq_tI l fun v1 l => mq_tI l fun v2 l => mq_tI l fun v3 l => mq_t0 l (st = [] ∧ ρ' = (nw, sp, tl, tx, al) ∧ cs = 0 ∧ L0 = L ∧ v1 = t ∧ v2 = p ∧ 0 ≤ v3 ∧ v3 ≤ 16 ∧ 0 ≤ (16 - v3 : Int) ∧ (16 - v3 : Int) < (N : Int)))]
  | _, _ => []
set_option maxHeartbeats 16000000 in
set_option maxRecDepth 100000 in
theorem vq_coachAt (lc : Launch) (h_get_coaches : mq_Ct lc cq_get_coaches) : mq_Ct lc cq_coachAt := by
  refine mq_method (lc := lc) (P := pq_coachAt) (cl := [cq_get_coaches]) (T := ([(42, 3, 8), (45, 6, 3)], [], [], [(52, 0, 0)], [], [])) (fuel := 400) (cuts := kq_coachAt) (by decide) rfl ⟨rfl, rfl⟩ (List.forall_mem_cons.mpr ⟨h_get_coaches, (fun _ h => absurd h List.not_mem_nil)⟩) ⟨(List.forall_mem_cons.mpr ⟨⟨_, rfl, by decide, kw_55⟩, (List.forall_mem_cons.mpr ⟨⟨_, rfl, by decide, kw_49⟩, (fun _ h => absurd h List.not_mem_nil)⟩)⟩), (fun _ h => absurd h List.not_mem_nil), (fun _ h => absurd h List.not_mem_nil), (List.forall_mem_cons.mpr ⟨mq_ml0 rfl mw0_get_coaches kw_63, (fun _ h => absurd h List.not_mem_nil)⟩), (fun _ h => absurd h List.not_mem_nil), (fun _ h => absurd h List.not_mem_nil)⟩ (by decide +kernel) ⟨_, _, rfl⟩ ?_ ?_ ?_ ?_
  · intro as ρ μ h
    obtain ⟨nw, sp, tl, tx, al⟩ := ρ
    obtain ⟨L, as0, rfl, h0⟩ := mq_pR_spec h
    clear h
    obtain ⟨t, as1, rfl, h1⟩ := mq_pI_spec h0
    clear h0
    obtain ⟨p, as2, rfl, h2⟩ := mq_pI_spec h1
    clear h1
    obtain ⟨rfl, hp⟩ := mq_p0_spec h2
    clear h2
    rfl
  · intro as ρ μ h
    obtain ⟨nw, sp, tl, tx, al⟩ := ρ
    obtain ⟨L, as0, rfl, h0⟩ := mq_pR_spec h
    clear h
    obtain ⟨t, as1, rfl, h1⟩ := mq_pI_spec h0
    clear h0
    obtain ⟨p, as2, rfl, h2⟩ := mq_pI_spec h1
    clear h1
    obtain ⟨rfl, hp⟩ := mq_p0_spec h2
    clear h2
    intro hrg
    obtain ⟨⟨ha1a, ha1b⟩, ⟨ha2a, ha2b⟩, -⟩ := hrg
    intro hbk
    have e0 : mq_l0 ([.inr (.inr (some (2, L))), .inl t, .inl p] : List mq_V) 4 = [some (.inr (.inr (some (2, L)))), some (.inl t), some (.inl p), none] := rfl
    rw [e0]
    repeat' (first | refine And.intro ?_ ?_ | intro _)
    all_goals first | omega | rfl | exact trivial | (simp [mq_up] at * <;> omega)
  · intro as ρ μ h
    obtain ⟨nw, sp, tl, tx, al⟩ := ρ
    obtain ⟨L, as0, rfl, h0⟩ := mq_pR_spec h
    clear h
    obtain ⟨t, as1, rfl, h1⟩ := mq_pI_spec h0
    clear h0
    obtain ⟨p, as2, rfl, h2⟩ := mq_pI_spec h1
    clear h1
    obtain ⟨rfl, hp⟩ := mq_p0_spec h2
    clear h2
    refine List.forall_mem_cons.mpr ⟨?_, ?_⟩
    · intro l st ρ' μ' cs hJ
      obtain ⟨L0, l0, rfl, hJ0⟩ := mq_tR_spec hJ
      clear hJ
      obtain ⟨v1, l1, rfl, hJ1⟩ := mq_tI_spec hJ0
      clear hJ0
      obtain ⟨v2, l2, rfl, hJ2⟩ := mq_tI_spec hJ1
      clear hJ1
      obtain ⟨v3, l3, rfl, hJ3⟩ := mq_tI_spec hJ2
      clear hJ2
      obtain ⟨rfl, hJz⟩ := mq_t0_spec hJ3
      clear hJ3
      obtain ⟨rfl, rfl, rfl, rfl, hc1, hc2, hc3, hc4, hm0, hm1⟩ := hJz
      omega
    exact fun _ h => absurd h List.not_mem_nil
  · intro as ρ μ h
    obtain ⟨nw, sp, tl, tx, al⟩ := ρ
    obtain ⟨L, as0, rfl, h0⟩ := mq_pR_spec h
    clear h
    obtain ⟨t, as1, rfl, h1⟩ := mq_pI_spec h0
    clear h0
    obtain ⟨p, as2, rfl, h2⟩ := mq_pI_spec h1
    clear h1
    obtain ⟨rfl, hp⟩ := mq_p0_spec h2
    clear h2
    intro hrg
    obtain ⟨⟨ha1a, ha1b⟩, ⟨ha2a, ha2b⟩, -⟩ := hrg
    refine List.forall_mem_cons.mpr ⟨?_, ?_⟩
    · intro N l st ρ' μ' cs hJ
      obtain ⟨L0, l0, rfl, hJ0⟩ := mq_tR_spec hJ
      clear hJ
      obtain ⟨v1, l1, rfl, hJ1⟩ := mq_tI_spec hJ0
      clear hJ0
      obtain ⟨v2, l2, rfl, hJ2⟩ := mq_tI_spec hJ1
      clear hJ1
      obtain ⟨v3, l3, rfl, hJ3⟩ := mq_tI_spec hJ2
      clear hJ2
      obtain ⟨rfl, hJz⟩ := mq_t0_spec hJ3
      clear hJ3
      obtain ⟨rfl, rfl, rfl, rfl, hc1, hc2, hc3, hc4, hm0, hm1⟩ := hJz
      intro hbk hrl
      obtain ⟨⟨hl1a, hl1b⟩, ⟨hl2a, hl2b⟩, ⟨hl3a, hl3b⟩, -⟩ := hrl
      repeat' (first | refine And.intro ?_ ?_ | intro _)
      all_goals first | omega | rfl | exact trivial | (simp [mq_up] at * <;> omega)
    exact fun _ h => absurd h List.not_mem_nil
theorem mw0_coachAt : mq_mlA cq_coachAt 0 := ⟨kw_368, ⟨by decide +kernel, by decide +kernel⟩, by decide +kernel, kw_369, kw_370, kw_67, 2, by decide +kernel, fun as ρ μ h => by obtain ⟨nw, sp, tl, tx, al⟩ := ρ; obtain ⟨i, t, e, _⟩ := mq_pR_spec h; exact ⟨i, t, e⟩⟩
def pq_platformsOf : List mq_E := [(0, false, .iconst 0), (1, false, .istore 2), (2, false, .iconst 0), (3, false, .istore 3), (4, true, .iload 3), (5, false, .aload 0), (6, false, .invokeinterface 3 8), (9, false, .invokeinterface 6 3), (12, false, .if_icmp .ge (Int.ofNat 48)), (15, false, .aload 0), (16, false, .invokeinterface 3 8), (19, false, .iload 3), (20, false, .iconst 0), (21, false, .invokestatic 0), (24, false, .iload 1), (25, false, .if_icmp .ne (Int.ofNat 42)), (28, false, .iload 2), (29, false, .iconst 1), (30, false, .aload 0), (31, false, .invokeinterface 3 8), (34, false, .iload 3), (35, false, .iconst 2), (36, false, .invokestatic 0), (39, false, .ishl), (40, false, .ior), (41, false, .istore 2), (42, false, .iinc 3 1), (45, false, .goto (Int.ofNat 4)), (48, false, .iload 2), (49, false, .invokestatic 1), (52, false, .ireturn)]
def cq_platformsOf : mq_C := ((yX3_platformsOf, cX3_platformsOf, 4, (some .int), { frames := 1, cells := 0, slots := 0, locals := 22 }), (2, 1, 0, 0), 0, (fun as ρ μ => match ρ with
  | (nw, sp, tl, tx, al) => mq_pR as 2 fun L as => mq_pI as fun t as => mq_p0 as (True)),
  (fun as ρ μ r ρ' μ' => match as, ρ, ρ' with
  | [.inr (.inr (some (_, L))), .inl t], (nw, sp, tl, tx, al), (nw', sp', tl', tx', al') => []
  | _, _, _ => []))
def kq_platformsOf : List mq_V → mq_R → mq_M → List mq_Cu := fun as ρ μ => match as, ρ with
  | [.inr (.inr (some (_, L))), .inl t], (nw, sp, tl, tx, al) => [(4, [true, true, true, true], fun N l st ρ' μ' cs => mq_tR l 2 fun L0 l => mq_tI l fun v1 l => mq_tI l fun v2 l => mq_tI l fun v3 l => mq_t0 l (st = [] ∧ ρ' = (nw, sp, tl, tx, al) ∧ cs = 0 ∧ L0 = L ∧ v1 = t ∧ 0 ≤ v3 ∧ v3 ≤ 16 ∧ 0 ≤ (16 - v3 : Int) ∧ (16 - v3 : Int) < (N : Int)))]
  | _, _ => []
set_option maxHeartbeats 16000000 in
set_option maxRecDepth 100000 in
theorem vq_platformsOf (lc : Launch) (h_get_coaches : mq_Ct lc cq_get_coaches) (h_bitCount : mq_Ct lc cq_bitCount) : mq_Ct lc cq_platformsOf := by
  refine mq_method (lc := lc) (P := pq_platformsOf) (cl := [cq_get_coaches, cq_bitCount]) (T := ([(42, 3, 8), (45, 6, 3)], [], [], [(52, 0, 0), (59, 1, 1)], [], [])) (fuel := 400) (cuts := kq_platformsOf) (by decide) rfl ⟨rfl, rfl⟩ (List.forall_mem_cons.mpr ⟨h_get_coaches, (List.forall_mem_cons.mpr ⟨h_bitCount, (fun _ h => absurd h List.not_mem_nil)⟩)⟩) ⟨(List.forall_mem_cons.mpr ⟨⟨_, rfl, by decide, kw_55⟩, (List.forall_mem_cons.mpr ⟨⟨_, rfl, by decide, kw_49⟩, (fun _ h => absurd h List.not_mem_nil)⟩)⟩), (fun _ h => absurd h List.not_mem_nil), (fun _ h => absurd h List.not_mem_nil), (List.forall_mem_cons.mpr ⟨mq_ml0 rfl mw0_get_coaches kw_63, (List.forall_mem_cons.mpr ⟨mq_ml1 rfl mw1_bitCount kw_72, (fun _ h => absurd h List.not_mem_nil)⟩)⟩), (fun _ h => absurd h List.not_mem_nil), (fun _ h => absurd h List.not_mem_nil)⟩ (by decide +kernel) ⟨_, _, rfl⟩ ?_ ?_ ?_ ?_
  · intro as ρ μ h
    obtain ⟨nw, sp, tl, tx, al⟩ := ρ
    obtain ⟨L, as0, rfl, h0⟩ := mq_pR_spec h
    clear h
    obtain ⟨t, as1, rfl, h1⟩ := mq_pI_spec h0
    clear h0
    obtain ⟨rfl, hp⟩ := mq_p0_spec h1
    clear h1
    rfl
  · intro as ρ μ h
    obtain ⟨nw, sp, tl, tx, al⟩ := ρ
    obtain ⟨L, as0, rfl, h0⟩ := mq_pR_spec h
    clear h
    obtain ⟨t, as1, rfl, h1⟩ := mq_pI_spec h0
    clear h0
    obtain ⟨rfl, hp⟩ := mq_p0_spec h1
    clear h1
    intro hrg
    obtain ⟨⟨ha1a, ha1b⟩, -⟩ := hrg
    intro hbk
    have e0 : mq_l0 ([.inr (.inr (some (2, L))), .inl t] : List mq_V) 4 = [some (.inr (.inr (some (2, L)))), some (.inl t), none, none] := rfl
    rw [e0]
    repeat' (first | refine And.intro ?_ ?_ | intro _)
    all_goals first | omega | rfl | exact trivial | (simp [mq_up] at * <;> omega)
  · intro as ρ μ h
    obtain ⟨nw, sp, tl, tx, al⟩ := ρ
    obtain ⟨L, as0, rfl, h0⟩ := mq_pR_spec h
    clear h
    obtain ⟨t, as1, rfl, h1⟩ := mq_pI_spec h0
    clear h0
    obtain ⟨rfl, hp⟩ := mq_p0_spec h1
    clear h1
    refine List.forall_mem_cons.mpr ⟨?_, ?_⟩
    · intro l st ρ' μ' cs hJ
      obtain ⟨L0, l0, rfl, hJ0⟩ := mq_tR_spec hJ
      clear hJ
      obtain ⟨v1, l1, rfl, hJ1⟩ := mq_tI_spec hJ0
      clear hJ0
      obtain ⟨v2, l2, rfl, hJ2⟩ := mq_tI_spec hJ1
      clear hJ1
      obtain ⟨v3, l3, rfl, hJ3⟩ := mq_tI_spec hJ2
      clear hJ2
      obtain ⟨rfl, hJz⟩ := mq_t0_spec hJ3
      clear hJ3
      obtain ⟨rfl, rfl, rfl, rfl, hc1, hc2, hc3, hm0, hm1⟩ := hJz
      omega
    exact fun _ h => absurd h List.not_mem_nil
  · intro as ρ μ h
    obtain ⟨nw, sp, tl, tx, al⟩ := ρ
    obtain ⟨L, as0, rfl, h0⟩ := mq_pR_spec h
    clear h
    obtain ⟨t, as1, rfl, h1⟩ := mq_pI_spec h0
    clear h0
    obtain ⟨rfl, hp⟩ := mq_p0_spec h1
    clear h1
    intro hrg
    obtain ⟨⟨ha1a, ha1b⟩, -⟩ := hrg
    refine List.forall_mem_cons.mpr ⟨?_, ?_⟩
    · intro N l st ρ' μ' cs hJ
      obtain ⟨L0, l0, rfl, hJ0⟩ := mq_tR_spec hJ
      clear hJ
      obtain ⟨v1, l1, rfl, hJ1⟩ := mq_tI_spec hJ0
      clear hJ0
      obtain ⟨v2, l2, rfl, hJ2⟩ := mq_tI_spec hJ1
      clear hJ1
      obtain ⟨v3, l3, rfl, hJ3⟩ := mq_tI_spec hJ2
      clear hJ2
      obtain ⟨rfl, hJz⟩ := mq_t0_spec hJ3
      clear hJ3
      obtain ⟨rfl, rfl, rfl, rfl, hc1, hc2, hc3, hm0, hm1⟩ := hJz
      intro hbk hrl
      obtain ⟨⟨hl1a, hl1b⟩, ⟨hl2a, hl2b⟩, ⟨hl3a, hl3b⟩, -⟩ := hrl
      repeat' (first | refine And.intro ?_ ?_ | intro _)
      all_goals first | omega | rfl | exact trivial | (simp [mq_up] at * <;> omega)
    exact fun _ h => absurd h List.not_mem_nil
theorem mw0_platformsOf : mq_mlA cq_platformsOf 0 := ⟨kw_729, ⟨by decide +kernel, by decide +kernel⟩, by decide +kernel, kw_730, kw_731, kw_67, 2, by decide +kernel, fun as ρ μ h => by obtain ⟨nw, sp, tl, tx, al⟩ := ρ; obtain ⟨i, t, e, _⟩ := mq_pR_spec h; exact ⟨i, t, e⟩⟩
