def pq_rankOf : List mq_E := [(0, false, .iconst 0), (1, false, .istore 3), (2, false, .iconst 0), (3, false, .istore 4), (5, true, .iload 4), (7, false, .aload 1), (8, false, .invokeinterface 3 8), (11, false, .invokeinterface 6 3), (14, false, .if_icmp .ge (Int.ofNat 106)), (17, false, .aload 1), (18, false, .invokeinterface 3 8), (21, false, .iload 4), (23, false, .iconst 0), (24, false, .invokestatic 0), (27, false, .aload 1), (28, false, .invokeinterface 3 8), (31, false, .iload 2), (32, false, .iconst 0), (33, false, .invokestatic 0), (36, false, .if_icmp .ne (Int.ofNat 100)), (39, false, .aload 1), (40, false, .iload 4), (42, false, .invokestatic 1), (45, false, .aload 1), (46, false, .iload 2), (47, false, .invokestatic 1), (50, false, .isub), (51, false, .istore 5), (53, false, .aload 1), (54, false, .invokeinterface 3 8), (57, false, .iload 4), (59, false, .iconst 4), (60, false, .invokestatic 0), (63, false, .aload 1), (64, false, .invokeinterface 3 8), (67, false, .iload 2), (68, false, .iconst 4), (69, false, .invokestatic 0), (72, false, .if_icmp .ge (Int.ofNat 79)), (75, false, .iconst 1), (76, false, .goto (Int.ofNat 80)), (79, false, .iconst 0), (80, false, .istore 6), (82, false, .iload 5), (84, false, .ifCond .gt (Int.ofNat 97)), (87, false, .iload 5), (89, false, .ifCond .ne (Int.ofNat 100)), (92, false, .iload 6), (94, false, .ifCond .eq (Int.ofNat 100)), (97, false, .iinc 3 1), (100, false, .iinc 4 1), (103, false, .goto (Int.ofNat 5)), (106, false, .iload 3), (107, false, .ireturn)]
def cq_rankOf : mq_C := ((yX7_rankOf, cX7_rankOf, 7, (some .int), { frames := 2, cells := 0, slots := 0, locals := 43 }), (3, 1, 0, 0), 0, (fun as ρ μ => match ρ with
  | (nw, sp, tl, tx, al) => mq_pZ as 56 fun as => mq_pR as 2 fun L as => mq_pI as fun c as => mq_p0 as (True)),
  (fun as ρ μ r ρ' μ' => match as, ρ, ρ' with
  | [.inr (.inr (some (_, _))), .inr (.inr (some (_, L))), .inl c], (nw, sp, tl, tx, al), (nw', sp', tl', tx', al') => []
  | _, _, _ => []))
def kq_rankOf : List mq_V → mq_R → mq_M → List mq_Cu := fun as ρ μ => match as, ρ with
  | [.inr (.inr (some (_, _))), .inr (.inr (some (_, L))), .inl c], (nw, sp, tl, tx, al) => [(5, [true, true, true, true, true, false, false], fun N l st ρ' μ' cs => mq_tZ l 56 fun l => mq_tR l 2 fun L1 l => mq_tI l fun v2 l => mq_tI l fun v3 l => mq_tI l fun v4 l => mq_tN l fun l => mq_tN l fun l => mq_t0 l (st = [] ∧ ρ' = (nw, sp, tl, tx, al) ∧ cs = 0 ∧ L1 = L ∧ v2 = c ∧ 0 ≤ v4 ∧ v4 ≤ 16 ∧ 0 ≤ v3 ∧ v3 ≤ v4 ∧ 0 ≤ (16 - v4 : Int) ∧ (16 - v4 : Int) < (N : Int)))]
  | _, _ => []
set_option maxHeartbeats 16000000 in
set_option maxRecDepth 100000 in
theorem vq_rankOf (lc : Launch) (h_get_coaches : mq_Ct lc cq_get_coaches) (h_platformAtOf : mq_Ct lc cq_platformAtOf) : mq_Ct lc cq_rankOf := by
  refine mq_method (lc := lc) (P := pq_rankOf) (cl := [cq_get_coaches, cq_platformAtOf]) (T := ([(22, 3, 8), (28, 6, 3)], [], [], [(33, 0, 0), (37, 1, 0)], [], [])) (fuel := 400) (cuts := kq_rankOf) (by decide) rfl ⟨rfl, rfl⟩ (List.forall_mem_cons.mpr ⟨h_get_coaches, (List.forall_mem_cons.mpr ⟨h_platformAtOf, (fun _ h => absurd h List.not_mem_nil)⟩)⟩) ⟨(List.forall_mem_cons.mpr ⟨⟨_, rfl, by decide, kw_351⟩, (List.forall_mem_cons.mpr ⟨⟨_, rfl, by decide, kw_352⟩, (fun _ h => absurd h List.not_mem_nil)⟩)⟩), (fun _ h => absurd h List.not_mem_nil), (fun _ h => absurd h List.not_mem_nil), (List.forall_mem_cons.mpr ⟨mq_ml0 rfl mw0_get_coaches kw_353, (List.forall_mem_cons.mpr ⟨mq_ml0 rfl mw0_platformAtOf kw_357, (fun _ h => absurd h List.not_mem_nil)⟩)⟩), (fun _ h => absurd h List.not_mem_nil), (fun _ h => absurd h List.not_mem_nil)⟩ (by decide +kernel) ⟨_, _, rfl⟩ ?_ ?_ ?_ ?_
  · intro as ρ μ h
    obtain ⟨nw, sp, tl, tx, al⟩ := ρ
    obtain ⟨as0, rfl, h0⟩ := mq_pZ_spec h
    clear h
    obtain ⟨L, as1, rfl, h1⟩ := mq_pR_spec h0
    clear h0
    obtain ⟨c, as2, rfl, h2⟩ := mq_pI_spec h1
    clear h1
    obtain ⟨rfl, hp⟩ := mq_p0_spec h2
    clear h2
    rfl
  · intro as ρ μ h
    obtain ⟨nw, sp, tl, tx, al⟩ := ρ
    obtain ⟨as0, rfl, h0⟩ := mq_pZ_spec h
    clear h
    obtain ⟨L, as1, rfl, h1⟩ := mq_pR_spec h0
    clear h0
    obtain ⟨c, as2, rfl, h2⟩ := mq_pI_spec h1
    clear h1
    obtain ⟨rfl, hp⟩ := mq_p0_spec h2
    clear h2
    intro hrg
    obtain ⟨⟨ha2a, ha2b⟩, -⟩ := hrg
    intro hbk
    have e0 : mq_l0 ([.inr (.inr (some (56, 0))), .inr (.inr (some (2, L))), .inl c] : List mq_V) 7 = [some (.inr (.inr (some (56, 0)))), some (.inr (.inr (some (2, L)))), some (.inl c), none, none, none, none] := rfl
    rw [e0]
    repeat' (first | refine And.intro ?_ ?_ | intro _)
    all_goals first | omega | rfl | exact trivial | (simp [mq_up] at * <;> omega)
  · intro as ρ μ h
    obtain ⟨nw, sp, tl, tx, al⟩ := ρ
    obtain ⟨as0, rfl, h0⟩ := mq_pZ_spec h
    clear h
    obtain ⟨L, as1, rfl, h1⟩ := mq_pR_spec h0
    clear h0
    obtain ⟨c, as2, rfl, h2⟩ := mq_pI_spec h1
    clear h1
    obtain ⟨rfl, hp⟩ := mq_p0_spec h2
    clear h2
    refine List.forall_mem_cons.mpr ⟨?_, ?_⟩
    · intro l st ρ' μ' cs hJ
      obtain ⟨l0, rfl, hJ0⟩ := mq_tZ_spec hJ
      clear hJ
      obtain ⟨L1, l1, rfl, hJ1⟩ := mq_tR_spec hJ0
      clear hJ0
      obtain ⟨v2, l2, rfl, hJ2⟩ := mq_tI_spec hJ1
      clear hJ1
      obtain ⟨v3, l3, rfl, hJ3⟩ := mq_tI_spec hJ2
      clear hJ2
      obtain ⟨v4, l4, rfl, hJ4⟩ := mq_tI_spec hJ3
      clear hJ3
      obtain ⟨l5, rfl, hJ5⟩ := mq_tN_spec hJ4
      clear hJ4
      obtain ⟨l6, rfl, hJ6⟩ := mq_tN_spec hJ5
      clear hJ5
      obtain ⟨rfl, hJz⟩ := mq_t0_spec hJ6
      clear hJ6
      obtain ⟨rfl, rfl, rfl, rfl, hc1, hc2, hc3, hc4, hc5, hm0, hm1⟩ := hJz
      omega
    exact fun _ h => absurd h List.not_mem_nil
  · intro as ρ μ h
    obtain ⟨nw, sp, tl, tx, al⟩ := ρ
    obtain ⟨as0, rfl, h0⟩ := mq_pZ_spec h
    clear h
    obtain ⟨L, as1, rfl, h1⟩ := mq_pR_spec h0
    clear h0
    obtain ⟨c, as2, rfl, h2⟩ := mq_pI_spec h1
    clear h1
    obtain ⟨rfl, hp⟩ := mq_p0_spec h2
    clear h2
    intro hrg
    obtain ⟨⟨ha2a, ha2b⟩, -⟩ := hrg
    refine List.forall_mem_cons.mpr ⟨?_, ?_⟩
    · intro N l st ρ' μ' cs hJ
      obtain ⟨l0, rfl, hJ0⟩ := mq_tZ_spec hJ
      clear hJ
      obtain ⟨L1, l1, rfl, hJ1⟩ := mq_tR_spec hJ0
      clear hJ0
      obtain ⟨v2, l2, rfl, hJ2⟩ := mq_tI_spec hJ1
      clear hJ1
      obtain ⟨v3, l3, rfl, hJ3⟩ := mq_tI_spec hJ2
      clear hJ2
      obtain ⟨v4, l4, rfl, hJ4⟩ := mq_tI_spec hJ3
      clear hJ3
      obtain ⟨l5, rfl, hJ5⟩ := mq_tN_spec hJ4
      clear hJ4
      obtain ⟨l6, rfl, hJ6⟩ := mq_tN_spec hJ5
      clear hJ5
      obtain ⟨rfl, hJz⟩ := mq_t0_spec hJ6
      clear hJ6
      obtain ⟨rfl, rfl, rfl, rfl, hc1, hc2, hc3, hc4, hc5, hm0, hm1⟩ := hJz
      intro hbk hrl
      obtain ⟨⟨hl2a, hl2b⟩, ⟨hl3a, hl3b⟩, ⟨hl4a, hl4b⟩, -⟩ := hrl
      repeat' (first | refine And.intro ?_ ?_ | intro _)
      all_goals first | omega | rfl | exact trivial | (simp [mq_up] at * <;> omega)
    exact fun _ h => absurd h List.not_mem_nil
theorem mw0_rankOf : mq_mlA cq_rankOf 0 := ⟨kw_717, ⟨by decide +kernel, by decide +kernel⟩, by decide +kernel, kw_718, kw_719, kw_366, 56, by decide +kernel, fun as ρ μ h => by obtain ⟨nw, sp, tl, tx, al⟩ := ρ; obtain ⟨t, e, _⟩ := mq_pZ_spec h; exact ⟨0, t, e⟩⟩
def pq_fits : List mq_E := [(0, false, .iconst 0), (1, false, .istore 3), (2, true, .iload 3), (3, false, .aload 0), (4, false, .invokeinterface 7 2), (7, false, .if_icmp .ge (Int.ofNat 93)), (10, false, .iload 2), (11, false, .iload 3), (12, false, .ishr), (13, false, .iconst 1), (14, false, .iand), (15, false, .iconst 1), (16, false, .if_icmp .ne (Int.ofNat 87)), (19, false, .iload 3), (20, false, .iload 1), (21, false, .if_icmp .eq (Int.ofNat 87)), (24, false, .iload 3), (25, false, .iload 1), (26, false, .f2l), (29, false, .istore 4), (31, false, .iload 3), (32, false, .iload 1), (33, false, .f2i), (36, false, .istore 5), (38, false, .iload 4), (40, false, .iconst 0), (41, false, .aload 0), (42, false, .invokeinterface 7 2), (45, false, .iconst 1), (46, false, .isub), (47, false, .invokestatic 0), (50, false, .ifCond .eq (Int.ofNat 85)), (53, false, .iload 5), (55, false, .iconst 0), (56, false, .aload 0), (57, false, .invokeinterface 7 2), (60, false, .iconst 1), (61, false, .isub), (62, false, .invokestatic 0), (65, false, .ifCond .eq (Int.ofNat 85)), (68, false, .aload 0), (69, false, .invokeinterface 7 0), (72, false, .iload 4), (74, false, .iaload), (75, false, .aload 0), (76, false, .invokeinterface 7 0), (79, false, .iload 5), (81, false, .iaload), (82, false, .if_icmp .ge (Int.ofNat 87)), (85, false, .iconst 0), (86, false, .ireturn), (87, false, .iinc 3 1), (90, false, .goto (Int.ofNat 2)), (93, false, .iconst 1), (94, false, .ireturn)]
def cq_fits : mq_C := ((yX7_fits, cX7_fits, 6, (some .boolean), { frames := 1, cells := 0, slots := 0, locals := 22 }), (3, 1, 0, 0), 0, (fun as ρ μ => match ρ with
  | (nw, sp, tl, tx, al) => mq_pZ as 56 fun as => mq_pI as fun p as => mq_pI as fun m as => mq_p0 as (True)),
  (fun as ρ μ r ρ' μ' => match as, ρ, ρ' with
  | [.inr (.inr (some (_, _))), .inl p, .inl m], (nw, sp, tl, tx, al), (nw', sp', tl', tx', al') => [0 ≤ r, r ≤ 1]
  | _, _, _ => []))
def kq_fits : List mq_V → mq_R → mq_M → List mq_Cu := fun as ρ μ => match as, ρ with
  | [.inr (.inr (some (_, _))), .inl p, .inl m], (nw, sp, tl, tx, al) => [(2, [true, true, true, true, false, false], fun N l st ρ' μ' cs => mq_tZ l 56 fun l => mq_tI l fun v1 l => mq_tI l fun v2 l => mq_tI l fun v3 l => mq_tN l fun l => mq_tN l fun l => mq_t0 l (st = [] ∧ ρ' = (nw, sp, tl, tx, al) ∧ cs = 0 ∧ v1 = p ∧ v2 = m ∧ 0 ≤ v3 ∧ v3 ≤ 16 ∧ 0 ≤ (16 - v3 : Int) ∧ (16 - v3 : Int) < (N : Int)))]
  | _, _ => []
set_option maxHeartbeats 16000000 in
set_option maxRecDepth 100000 in
theorem vq_fits (lc : Launch) (h_isAmong : mq_Ct lc cq_isAmong) : mq_Ct lc cq_fits := by
  refine mq_method (lc := lc) (P := pq_fits) (cl := [cq_isAmong]) (T := ([(18, 7, 2), (9, 7, 0)], [], [], [(63, 0, 2)], [], [(60, false), (55, true)])) (fuel := 400) (cuts := kq_fits) (by decide) rfl ⟨rfl, rfl⟩ (List.forall_mem_cons.mpr ⟨h_isAmong, (fun _ h => absurd h List.not_mem_nil)⟩) ⟨(List.forall_mem_cons.mpr ⟨⟨_, rfl, by decide, kw_358⟩, (List.forall_mem_cons.mpr ⟨⟨_, rfl, by decide, kw_359⟩, (fun _ h => absurd h List.not_mem_nil)⟩)⟩), (fun _ h => absurd h List.not_mem_nil), (fun _ h => absurd h List.not_mem_nil), (List.forall_mem_cons.mpr ⟨mq_ml2 rfl mw1_isAmong 15 rfl, (fun _ h => absurd h List.not_mem_nil)⟩), (fun _ h => absurd h List.not_mem_nil), (List.forall_mem_cons.mpr ⟨⟨kw_360, kw_43, kw_44, kw_45⟩, (List.forall_mem_cons.mpr ⟨⟨kw_361, kw_82, kw_44, kw_83⟩, (fun _ h => absurd h List.not_mem_nil)⟩)⟩)⟩ (by decide +kernel) ⟨_, _, rfl⟩ ?_ ?_ ?_ ?_
  · intro as ρ μ h
    obtain ⟨nw, sp, tl, tx, al⟩ := ρ
    obtain ⟨as0, rfl, h0⟩ := mq_pZ_spec h
    clear h
    obtain ⟨p, as1, rfl, h1⟩ := mq_pI_spec h0
    clear h0
    obtain ⟨m, as2, rfl, h2⟩ := mq_pI_spec h1
    clear h1
    obtain ⟨rfl, hp⟩ := mq_p0_spec h2
    clear h2
    rfl
  · intro as ρ μ h
    obtain ⟨nw, sp, tl, tx, al⟩ := ρ
    obtain ⟨as0, rfl, h0⟩ := mq_pZ_spec h
    clear h
    obtain ⟨p, as1, rfl, h1⟩ := mq_pI_spec h0
    clear h0
    obtain ⟨m, as2, rfl, h2⟩ := mq_pI_spec h1
    clear h1
    obtain ⟨rfl, hp⟩ := mq_p0_spec h2
    clear h2
    intro hrg
    obtain ⟨⟨ha1a, ha1b⟩, ⟨ha2a, ha2b⟩, -⟩ := hrg
    intro hbk
    have e0 : mq_l0 ([.inr (.inr (some (56, 0))), .inl p, .inl m] : List mq_V) 6 = [some (.inr (.inr (some (56, 0)))), some (.inl p), some (.inl m), none, none, none] := rfl
    rw [e0]
    repeat' (first | refine And.intro ?_ ?_ | intro _)
    all_goals first | omega | rfl | exact trivial | (simp [mq_up] at * <;> omega)
  · intro as ρ μ h
    obtain ⟨nw, sp, tl, tx, al⟩ := ρ
    obtain ⟨as0, rfl, h0⟩ := mq_pZ_spec h
    clear h
    obtain ⟨p, as1, rfl, h1⟩ := mq_pI_spec h0
    clear h0
    obtain ⟨m, as2, rfl, h2⟩ := mq_pI_spec h1
    clear h1
    obtain ⟨rfl, hp⟩ := mq_p0_spec h2
    clear h2
    refine List.forall_mem_cons.mpr ⟨?_, ?_⟩
    · intro l st ρ' μ' cs hJ
      obtain ⟨l0, rfl, hJ0⟩ := mq_tZ_spec hJ
      clear hJ
      obtain ⟨v1, l1, rfl, hJ1⟩ := mq_tI_spec hJ0
      clear hJ0
      obtain ⟨v2, l2, rfl, hJ2⟩ := mq_tI_spec hJ1
      clear hJ1
      obtain ⟨v3, l3, rfl, hJ3⟩ := mq_tI_spec hJ2
      clear hJ2
      obtain ⟨l4, rfl, hJ4⟩ := mq_tN_spec hJ3
      clear hJ3
      obtain ⟨l5, rfl, hJ5⟩ := mq_tN_spec hJ4
      clear hJ4
      obtain ⟨rfl, hJz⟩ := mq_t0_spec hJ5
      clear hJ5
      obtain ⟨rfl, rfl, rfl, hc0, hc1, hc2, hc3, hm0, hm1⟩ := hJz
      omega
    exact fun _ h => absurd h List.not_mem_nil
  · intro as ρ μ h
    obtain ⟨nw, sp, tl, tx, al⟩ := ρ
    obtain ⟨as0, rfl, h0⟩ := mq_pZ_spec h
    clear h
    obtain ⟨p, as1, rfl, h1⟩ := mq_pI_spec h0
    clear h0
    obtain ⟨m, as2, rfl, h2⟩ := mq_pI_spec h1
    clear h1
    obtain ⟨rfl, hp⟩ := mq_p0_spec h2
    clear h2
    intro hrg
    obtain ⟨⟨ha1a, ha1b⟩, ⟨ha2a, ha2b⟩, -⟩ := hrg
    refine List.forall_mem_cons.mpr ⟨?_, ?_⟩
    · intro N l st ρ' μ' cs hJ
      obtain ⟨l0, rfl, hJ0⟩ := mq_tZ_spec hJ
      clear hJ
      obtain ⟨v1, l1, rfl, hJ1⟩ := mq_tI_spec hJ0
      clear hJ0
      obtain ⟨v2, l2, rfl, hJ2⟩ := mq_tI_spec hJ1
      clear hJ1
      obtain ⟨v3, l3, rfl, hJ3⟩ := mq_tI_spec hJ2
      clear hJ2
      obtain ⟨l4, rfl, hJ4⟩ := mq_tN_spec hJ3
      clear hJ3
      obtain ⟨l5, rfl, hJ5⟩ := mq_tN_spec hJ4
      clear hJ4
      obtain ⟨rfl, hJz⟩ := mq_t0_spec hJ5
      clear hJ5
      obtain ⟨rfl, rfl, rfl, hc0, hc1, hc2, hc3, hm0, hm1⟩ := hJz
      intro hbk hrl
      obtain ⟨⟨hl1a, hl1b⟩, ⟨hl2a, hl2b⟩, ⟨hl3a, hl3b⟩, -⟩ := hrl
      repeat' (first | refine And.intro ?_ ?_ | intro _)
      all_goals first | omega | rfl | exact trivial | (simp [mq_up] at * <;> omega)
    exact fun _ h => absurd h List.not_mem_nil
theorem mw0_fits : mq_mlA cq_fits 0 := ⟨kw_363, ⟨by decide +kernel, by decide +kernel⟩, by decide +kernel, kw_364, kw_365, kw_366, 56, by decide +kernel, fun as ρ μ h => by obtain ⟨nw, sp, tl, tx, al⟩ := ρ; obtain ⟨t, e, _⟩ := mq_pZ_spec h; exact ⟨0, t, e⟩⟩
def pq_longest : List mq_E := [(0, false, .iconst 0), (1, false, .istore 2), (2, false, .iconst 0), (3, false, .istore 3), (4, true, .iload 3), (5, false, .aload 0), (6, false, .invokeinterface 7 2), (9, false, .if_icmp .ge (Int.ofNat 101)), (12, false, .aload 0), (13, false, .invokeinterface 7 1), (16, false, .iload 3), (17, false, .iconst 0), (18, false, .iastore), (19, false, .aload 0), (20, false, .iload 3), (21, false, .iload 1), (22, false, .invokestatic 0), (25, false, .ifCond .eq (Int.ofNat 95)), (28, false, .iconst 0), (29, false, .istore 4), (31, false, .iconst 0), (32, false, .istore 5), (34, true, .iload 5), (36, false, .iload 3), (37, false, .if_icmp .ge (Int.ofNat 76)), (40, false, .aload 0), (41, false, .invokeinterface 7 0), (44, false, .iload 5), (46, false, .iaload), (47, false, .aload 0), (48, false, .invokeinterface 7 0), (51, false, .iload 3), (52, false, .iaload), (53, false, .if_icmp .lt (Int.ofNat 70)), (56, false, .iload 4), (58, false, .aload 0), (59, false, .invokeinterface 7 1), (62, false, .iload 5), (64, false, .iaload), (65, false, .f2i), (68, false, .istore 4), (70, false, .iinc 5 1), (73, false, .goto (Int.ofNat 34)), (76, false, .aload 0), (77, false, .invokeinterface 7 1), (80, false, .iload 3), (81, false, .iload 4), (83, false, .iconst 1), (84, false, .fadd), (85, false, .iastore), (86, false, .iload 2), (87, false, .iload 4), (89, false, .iconst 1), (90, false, .fadd), (91, false, .f2i), (94, false, .istore 2), (95, false, .iinc 3 1), (98, false, .goto (Int.ofNat 4)), (101, false, .iload 2), (102, false, .ireturn)]
def cq_longest : mq_C := ((yX7_longest, cX7_longest, 6, (some .int), { frames := 2, cells := 0, slots := 0, locals := 47 }), (2, 1, 0, 0), 288230376151711744, (fun as ρ μ => match ρ with
  | (nw, sp, tl, tx, al) => mq_pZ as 56 fun as => mq_pI as fun m as => mq_p0 as (True)),
  (fun as ρ μ r ρ' μ' => match as, ρ, ρ' with
  | [.inr (.inr (some (_, _))), .inl m], (nw, sp, tl, tx, al), (nw', sp', tl', tx', al') => []
  | _, _, _ => []))
def kq_longest : List mq_V → mq_R → mq_M → List mq_Cu := fun as ρ μ => match as, ρ with
  | [.inr (.inr (some (_, _))), .inl m], (nw, sp, tl, tx, al) => [(4, [true, true, true, true, false, false], fun N l st ρ' μ' cs => mq_tZ l 56 fun l => mq_tI l fun v1 l => mq_tI l fun v2 l => mq_tI l fun v3 l => mq_tN l fun l => mq_tN l fun l => mq_t0 l (st = [] ∧ ρ' = (nw, sp, tl, tx, al) ∧ cs = 0 ∧ v1 = m ∧ 0 ≤ v3 ∧ v3 ≤ 16 ∧ 0 ≤ (100 * (16 - v3) : Int) ∧ (100 * (16 - v3) : Int) < (N : Int))),
    (34, [true, true, true, true, true, true], fun N l st ρ' μ' cs => mq_tZ l 56 fun l => mq_tI l fun v1 l => mq_tI l fun v2 l => mq_tI l fun v3 l => mq_tI l fun v4 l => mq_tI l fun v5 l => mq_t0 l (st = [] ∧ ρ' = (nw, sp, tl, tx, al) ∧ cs = 0 ∧ v1 = m ∧ 0 ≤ v3 ∧ v3 ≤ 15 ∧ 0 ≤ v5 ∧ v5 ≤ v3 ∧ 0 ≤ (100 * (16 - v3) - 1 - v5 : Int) ∧ (100 * (16 - v3) - 1 - v5 : Int) < (N : Int)))]
  | _, _ => []
set_option maxHeartbeats 16000000 in
set_option maxRecDepth 100000 in
theorem vq_longest (lc : Launch) (h_fits : mq_Ct lc cq_fits) : mq_Ct lc cq_longest := by
  refine mq_method (lc := lc) (P := pq_longest) (cl := [cq_fits]) (T := ([(18, 7, 2), (15, 7, 1), (9, 7, 0)], [], [], [(48, 0, 0)], [], [(55, true)])) (fuel := 400) (cuts := kq_longest) (by decide) rfl ⟨rfl, rfl⟩ (List.forall_mem_cons.mpr ⟨h_fits, (fun _ h => absurd h List.not_mem_nil)⟩) ⟨(List.forall_mem_cons.mpr ⟨⟨_, rfl, by decide, kw_358⟩, (List.forall_mem_cons.mpr ⟨⟨_, rfl, by decide, kw_362⟩, (List.forall_mem_cons.mpr ⟨⟨_, rfl, by decide, kw_359⟩, (fun _ h => absurd h List.not_mem_nil)⟩)⟩)⟩), (fun _ h => absurd h List.not_mem_nil), (fun _ h => absurd h List.not_mem_nil), (List.forall_mem_cons.mpr ⟨mq_ml0 rfl mw0_fits kw_367, (fun _ h => absurd h List.not_mem_nil)⟩), (fun _ h => absurd h List.not_mem_nil), (List.forall_mem_cons.mpr ⟨⟨kw_361, kw_82, kw_44, kw_83⟩, (fun _ h => absurd h List.not_mem_nil)⟩)⟩ (by decide +kernel) ⟨_, _, rfl⟩ ?_ ?_ ?_ ?_
  · intro as ρ μ h
    obtain ⟨nw, sp, tl, tx, al⟩ := ρ
    obtain ⟨as0, rfl, h0⟩ := mq_pZ_spec h
    clear h
    obtain ⟨m, as1, rfl, h1⟩ := mq_pI_spec h0
    clear h0
    obtain ⟨rfl, hp⟩ := mq_p0_spec h1
    clear h1
    rfl
  · intro as ρ μ h
    obtain ⟨nw, sp, tl, tx, al⟩ := ρ
    obtain ⟨as0, rfl, h0⟩ := mq_pZ_spec h
    clear h
    obtain ⟨m, as1, rfl, h1⟩ := mq_pI_spec h0
    clear h0
    obtain ⟨rfl, hp⟩ := mq_p0_spec h1
    clear h1
    intro hrg
    obtain ⟨⟨ha1a, ha1b⟩, -⟩ := hrg
    intro hbk
    have e0 : mq_l0 ([.inr (.inr (some (56, 0))), .inl m] : List mq_V) 6 = [some (.inr (.inr (some (56, 0)))), some (.inl m), none, none, none, none] := rfl
    rw [e0]
    repeat' (first | refine And.intro ?_ ?_ | intro _)
    all_goals first | omega | rfl | exact trivial | (simp [mq_up] at * <;> omega)
  · intro as ρ μ h
    obtain ⟨nw, sp, tl, tx, al⟩ := ρ
    obtain ⟨as0, rfl, h0⟩ := mq_pZ_spec h
    clear h
    obtain ⟨m, as1, rfl, h1⟩ := mq_pI_spec h0
    clear h0
    obtain ⟨rfl, hp⟩ := mq_p0_spec h1
    clear h1
    refine List.forall_mem_cons.mpr ⟨?_, ?_⟩
    · intro l st ρ' μ' cs hJ
      obtain ⟨l0, rfl, hJ0⟩ := mq_tZ_spec hJ
      clear hJ
      obtain ⟨v1, l1, rfl, hJ1⟩ := mq_tI_spec hJ0
      clear hJ0
      obtain ⟨v2, l2, rfl, hJ2⟩ := mq_tI_spec hJ1
      clear hJ1
      obtain ⟨v3, l3, rfl, hJ3⟩ := mq_tI_spec hJ2
      clear hJ2
      obtain ⟨l4, rfl, hJ4⟩ := mq_tN_spec hJ3
      clear hJ3
      obtain ⟨l5, rfl, hJ5⟩ := mq_tN_spec hJ4
      clear hJ4
      obtain ⟨rfl, hJz⟩ := mq_t0_spec hJ5
      clear hJ5
      obtain ⟨rfl, rfl, rfl, hc0, hc1, hc2, hm0, hm1⟩ := hJz
      omega
    refine List.forall_mem_cons.mpr ⟨?_, ?_⟩
    · intro l st ρ' μ' cs hJ
      obtain ⟨l0, rfl, hJ0⟩ := mq_tZ_spec hJ
      clear hJ
      obtain ⟨v1, l1, rfl, hJ1⟩ := mq_tI_spec hJ0
      clear hJ0
      obtain ⟨v2, l2, rfl, hJ2⟩ := mq_tI_spec hJ1
      clear hJ1
      obtain ⟨v3, l3, rfl, hJ3⟩ := mq_tI_spec hJ2
      clear hJ2
      obtain ⟨v4, l4, rfl, hJ4⟩ := mq_tI_spec hJ3
      clear hJ3
      obtain ⟨v5, l5, rfl, hJ5⟩ := mq_tI_spec hJ4
      clear hJ4
      obtain ⟨rfl, hJz⟩ := mq_t0_spec hJ5
      clear hJ5
      obtain ⟨rfl, rfl, rfl, hc0, hc1, hc2, hc3, hc4, hm0, hm1⟩ := hJz
      omega
    exact fun _ h => absurd h List.not_mem_nil
  · intro as ρ μ h
    obtain ⟨nw, sp, tl, tx, al⟩ := ρ
    obtain ⟨as0, rfl, h0⟩ := mq_pZ_spec h
    clear h
    obtain ⟨m, as1, rfl, h1⟩ := mq_pI_spec h0
    clear h0
    obtain ⟨rfl, hp⟩ := mq_p0_spec h1
    clear h1
    intro hrg
    obtain ⟨⟨ha1a, ha1b⟩, -⟩ := hrg
    refine List.forall_mem_cons.mpr ⟨?_, ?_⟩
    · intro N l st ρ' μ' cs hJ
      obtain ⟨l0, rfl, hJ0⟩ := mq_tZ_spec hJ
      clear hJ
      obtain ⟨v1, l1, rfl, hJ1⟩ := mq_tI_spec hJ0
      clear hJ0
      obtain ⟨v2, l2, rfl, hJ2⟩ := mq_tI_spec hJ1
      clear hJ1
      obtain ⟨v3, l3, rfl, hJ3⟩ := mq_tI_spec hJ2
      clear hJ2
      obtain ⟨l4, rfl, hJ4⟩ := mq_tN_spec hJ3
      clear hJ3
      obtain ⟨l5, rfl, hJ5⟩ := mq_tN_spec hJ4
      clear hJ4
      obtain ⟨rfl, hJz⟩ := mq_t0_spec hJ5
      clear hJ5
      obtain ⟨rfl, rfl, rfl, hc0, hc1, hc2, hm0, hm1⟩ := hJz
      intro hbk hrl
      obtain ⟨⟨hl1a, hl1b⟩, ⟨hl2a, hl2b⟩, ⟨hl3a, hl3b⟩, -⟩ := hrl
      repeat' (first | refine And.intro ?_ ?_ | intro _)
      all_goals first | omega | rfl | exact trivial | (simp [mq_up] at * <;> omega)
    refine List.forall_mem_cons.mpr ⟨?_, ?_⟩
    · intro N l st ρ' μ' cs hJ
      obtain ⟨l0, rfl, hJ0⟩ := mq_tZ_spec hJ
      clear hJ
      obtain ⟨v1, l1, rfl, hJ1⟩ := mq_tI_spec hJ0
      clear hJ0
      obtain ⟨v2, l2, rfl, hJ2⟩ := mq_tI_spec hJ1
      clear hJ1
      obtain ⟨v3, l3, rfl, hJ3⟩ := mq_tI_spec hJ2
      clear hJ2
      obtain ⟨v4, l4, rfl, hJ4⟩ := mq_tI_spec hJ3
      clear hJ3
      obtain ⟨v5, l5, rfl, hJ5⟩ := mq_tI_spec hJ4
      clear hJ4
      obtain ⟨rfl, hJz⟩ := mq_t0_spec hJ5
      clear hJ5
      obtain ⟨rfl, rfl, rfl, hc0, hc1, hc2, hc3, hc4, hm0, hm1⟩ := hJz
      intro hbk hrl
      obtain ⟨⟨hl1a, hl1b⟩, ⟨hl2a, hl2b⟩, ⟨hl3a, hl3b⟩, ⟨hl4a, hl4b⟩, ⟨hl5a, hl5b⟩, -⟩ := hrl
      repeat' (first | refine And.intro ?_ ?_ | intro _)
      all_goals first | omega | rfl | exact trivial | (simp [mq_up] at * <;> omega)
    exact fun _ h => absurd h List.not_mem_nil
theorem mw0_longest : mq_mlA cq_longest 0 := ⟨kw_376, ⟨by decide +kernel, by decide +kernel⟩, by decide +kernel, kw_377, kw_378, kw_366, 56, by decide +kernel, fun as ρ μ h => by obtain ⟨nw, sp, tl, tx, al⟩ := ρ; obtain ⟨t, e, _⟩ := mq_pZ_spec h; exact ⟨0, t, e⟩⟩
def pq_lineUp : List mq_E := [(0, false, .aload 0), (1, false, .iconst 0), (2, false, .multianewarray 7 2), (5, false, .iconst 0), (6, false, .istore 3), (7, true, .iload 3), (8, false, .iconst 16), (10, false, .if_icmp .ge (Int.ofNat 52)), (13, false, .aload 1), (14, false, .iload 2), (15, false, .iload 3), (16, false, .invokestatic 0), (19, false, .istore 4), (21, false, .iload 4), (23, false, .iconst (-1)), (24, false, .if_icmp .eq (Int.ofNat 46)), (27, false, .aload 0), (28, false, .invokeinterface 7 0), (31, false, .iload 3), (32, false, .aload 1), (33, false, .iload 4), (35, false, .invokestatic 1), (38, false, .iastore), (39, false, .aload 0), (40, false, .iload 3), (41, false, .iconst 1), (42, false, .iadd), (43, false, .multianewarray 7 2), (46, false, .iinc 3 1), (49, false, .goto (Int.ofNat 7)), (52, false, .return_)]
def cq_lineUp : mq_C := ((yX7_lineUp, cX7_lineUp, 5, none, { frames := 2, cells := 0, slots := 0, locals := 45 }), (3, 0, 0, 0), 216172782113783808, (fun as ρ μ => match ρ with
  | (nw, sp, tl, tx, al) => mq_pZ as 56 fun as => mq_pR as 2 fun L as => mq_pI as fun t as => mq_p0 as (True)),
  (fun as ρ μ r ρ' μ' => match as, ρ, ρ' with
  | [.inr (.inr (some (_, _))), .inr (.inr (some (_, L))), .inl t], (nw, sp, tl, tx, al), (nw', sp', tl', tx', al') => []
  | _, _, _ => []))
def kq_lineUp : List mq_V → mq_R → mq_M → List mq_Cu := fun as ρ μ => match as, ρ with
  | [.inr (.inr (some (_, _))), .inr (.inr (some (_, L))), .inl t], (nw, sp, tl, tx, al) => [(7, [true, true, true, true, false], fun N l st ρ' μ' cs => mq_tZ l 56 fun l => mq_tR l 2 fun L1 l => mq_tI l fun v2 l => mq_tI l fun v3 l => mq_tN l fun l => mq_t0 l (st = [] ∧ ρ' = (nw, sp, tl, tx, al) ∧ cs = 0 ∧ L1 = L ∧ v2 = t ∧ 0 ≤ v3 ∧ v3 ≤ 16 ∧ 0 ≤ (16 - v3 : Int) ∧ (16 - v3 : Int) < (N : Int)))]
  | _, _ => []
set_option maxHeartbeats 16000000 in
set_option maxRecDepth 100000 in
theorem vq_lineUp (lc : Launch) (h_coachAt : mq_Ct lc cq_coachAt) (h_platformAtOf : mq_Ct lc cq_platformAtOf) : mq_Ct lc cq_lineUp := by
  refine mq_method (lc := lc) (P := pq_lineUp) (cl := [cq_coachAt, cq_platformAtOf]) (T := ([(18, 7, 2), (9, 7, 0)], [], [], [(52, 0, 0), (37, 1, 0)], [], [])) (fuel := 400) (cuts := kq_lineUp) (by decide) rfl ⟨rfl, rfl⟩ (List.forall_mem_cons.mpr ⟨h_coachAt, (List.forall_mem_cons.mpr ⟨h_platformAtOf, (fun _ h => absurd h List.not_mem_nil)⟩)⟩) ⟨(List.forall_mem_cons.mpr ⟨⟨_, rfl, by decide, kw_358⟩, (List.forall_mem_cons.mpr ⟨⟨_, rfl, by decide, kw_359⟩, (fun _ h => absurd h List.not_mem_nil)⟩)⟩), (fun _ h => absurd h List.not_mem_nil), (fun _ h => absurd h List.not_mem_nil), (List.forall_mem_cons.mpr ⟨mq_ml0 rfl mw0_coachAt kw_371, (List.forall_mem_cons.mpr ⟨mq_ml0 rfl mw0_platformAtOf kw_357, (fun _ h => absurd h List.not_mem_nil)⟩)⟩), (fun _ h => absurd h List.not_mem_nil), (fun _ h => absurd h List.not_mem_nil)⟩ (by decide +kernel) ⟨_, _, rfl⟩ ?_ ?_ ?_ ?_
  · intro as ρ μ h
    obtain ⟨nw, sp, tl, tx, al⟩ := ρ
    obtain ⟨as0, rfl, h0⟩ := mq_pZ_spec h
    clear h
    obtain ⟨L, as1, rfl, h1⟩ := mq_pR_spec h0
    clear h0
    obtain ⟨t, as2, rfl, h2⟩ := mq_pI_spec h1
    clear h1
    obtain ⟨rfl, hp⟩ := mq_p0_spec h2
    clear h2
    rfl
  · intro as ρ μ h
    obtain ⟨nw, sp, tl, tx, al⟩ := ρ
    obtain ⟨as0, rfl, h0⟩ := mq_pZ_spec h
    clear h
    obtain ⟨L, as1, rfl, h1⟩ := mq_pR_spec h0
    clear h0
    obtain ⟨t, as2, rfl, h2⟩ := mq_pI_spec h1
    clear h1
    obtain ⟨rfl, hp⟩ := mq_p0_spec h2
    clear h2
    intro hrg
    obtain ⟨⟨ha2a, ha2b⟩, -⟩ := hrg
    intro hbk
    have e0 : mq_l0 ([.inr (.inr (some (56, 0))), .inr (.inr (some (2, L))), .inl t] : List mq_V) 5 = [some (.inr (.inr (some (56, 0)))), some (.inr (.inr (some (2, L)))), some (.inl t), none, none] := rfl
    rw [e0]
    repeat' (first | refine And.intro ?_ ?_ | intro _)
    all_goals first | omega | rfl | exact trivial | (simp [mq_up] at * <;> omega)
  · intro as ρ μ h
    obtain ⟨nw, sp, tl, tx, al⟩ := ρ
    obtain ⟨as0, rfl, h0⟩ := mq_pZ_spec h
    clear h
    obtain ⟨L, as1, rfl, h1⟩ := mq_pR_spec h0
    clear h0
    obtain ⟨t, as2, rfl, h2⟩ := mq_pI_spec h1
    clear h1
    obtain ⟨rfl, hp⟩ := mq_p0_spec h2
    clear h2
    refine List.forall_mem_cons.mpr ⟨?_, ?_⟩
    · intro l st ρ' μ' cs hJ
      obtain ⟨l0, rfl, hJ0⟩ := mq_tZ_spec hJ
      clear hJ
      obtain ⟨L1, l1, rfl, hJ1⟩ := mq_tR_spec hJ0
      clear hJ0
      obtain ⟨v2, l2, rfl, hJ2⟩ := mq_tI_spec hJ1
      clear hJ1
      obtain ⟨v3, l3, rfl, hJ3⟩ := mq_tI_spec hJ2
      clear hJ2
      obtain ⟨l4, rfl, hJ4⟩ := mq_tN_spec hJ3
      clear hJ3
      obtain ⟨rfl, hJz⟩ := mq_t0_spec hJ4
      clear hJ4
      obtain ⟨rfl, rfl, rfl, rfl, hc1, hc2, hc3, hm0, hm1⟩ := hJz
      omega
    exact fun _ h => absurd h List.not_mem_nil
  · intro as ρ μ h
    obtain ⟨nw, sp, tl, tx, al⟩ := ρ
    obtain ⟨as0, rfl, h0⟩ := mq_pZ_spec h
    clear h
    obtain ⟨L, as1, rfl, h1⟩ := mq_pR_spec h0
    clear h0
    obtain ⟨t, as2, rfl, h2⟩ := mq_pI_spec h1
    clear h1
    obtain ⟨rfl, hp⟩ := mq_p0_spec h2
    clear h2
    intro hrg
    obtain ⟨⟨ha2a, ha2b⟩, -⟩ := hrg
    refine List.forall_mem_cons.mpr ⟨?_, ?_⟩
    · intro N l st ρ' μ' cs hJ
      obtain ⟨l0, rfl, hJ0⟩ := mq_tZ_spec hJ
      clear hJ
      obtain ⟨L1, l1, rfl, hJ1⟩ := mq_tR_spec hJ0
      clear hJ0
      obtain ⟨v2, l2, rfl, hJ2⟩ := mq_tI_spec hJ1
      clear hJ1
      obtain ⟨v3, l3, rfl, hJ3⟩ := mq_tI_spec hJ2
      clear hJ2
      obtain ⟨l4, rfl, hJ4⟩ := mq_tN_spec hJ3
      clear hJ3
      obtain ⟨rfl, hJz⟩ := mq_t0_spec hJ4
      clear hJ4
      obtain ⟨rfl, rfl, rfl, rfl, hc1, hc2, hc3, hm0, hm1⟩ := hJz
      intro hbk hrl
      obtain ⟨⟨hl2a, hl2b⟩, ⟨hl3a, hl3b⟩, -⟩ := hrl
      repeat' (first | refine And.intro ?_ ?_ | intro _)
      all_goals first | omega | rfl | exact trivial | (simp [mq_up] at * <;> omega)
    exact fun _ h => absurd h List.not_mem_nil
theorem mw0_lineUp : mq_mlA cq_lineUp 0 := ⟨kw_372, ⟨by decide +kernel, by decide +kernel⟩, by decide +kernel, kw_373, kw_374, kw_366, 56, by decide +kernel, fun as ρ μ h => by obtain ⟨nw, sp, tl, tx, al⟩ := ρ; obtain ⟨t, e, _⟩ := mq_pZ_spec h; exact ⟨0, t, e⟩⟩
def pq_leastSet : List mq_E := [(0, false, .aload 0), (1, false, .aload 1), (2, false, .iload 2), (3, false, .invokestatic 0), (6, false, .aload 0), (7, false, .iconst 0), (8, false, .invokestatic 1), (11, false, .istore 3), (12, false, .iconst 0), (13, false, .istore 4), (15, false, .iconst 0), (16, false, .istore 5), (18, false, .aload 1), (19, false, .invokeinterface 3 8), (22, false, .invokeinterface 6 3), (25, false, .iconst 1), (26, false, .isub), (27, false, .istore 6), (29, true, .iload 6), (31, false, .ifCond .lt (Int.ofNat 113)), (34, false, .aload 1), (35, false, .invokeinterface 3 8), (38, false, .iload 6), (40, false, .iconst 0), (41, false, .invokestatic 2), (44, false, .iload 2), (45, false, .if_icmp .ne (Int.ofNat 107)), (48, false, .aload 1), (49, false, .invokeinterface 3 8), (52, false, .iload 6), (54, false, .iconst 4), (55, false, .invokestatic 2), (58, false, .istore 7), (60, false, .aload 0), (61, false, .iload 7), (63, false, .iload 4), (65, false, .invokestatic 3), (68, false, .ifCond .eq (Int.ofNat 98)), (71, false, .aload 0), (72, false, .iload 4), (74, false, .iconst 1), (75, false, .iload 7), (77, false, .ishl), (78, false, .ior), (79, false, .invokestatic 1), (82, false, .iload 3), (83, false, .if_icmp .ne (Int.ofNat 98)), (86, false, .iload 4), (88, false, .iconst 1), (89, false, .iload 7), (91, false, .ishl), (92, false, .ior), (93, false, .istore 4), (95, false, .goto (Int.ofNat 107)), (98, false, .iload 5), (100, false, .iconst 1), (101, false, .iload 6), (103, false, .ishl), (104, false, .ior), (105, false, .istore 5), (107, false, .iinc 6 (-1)), (110, false, .goto (Int.ofNat 29)), (113, false, .iload 5), (115, false, .ireturn)]
def cq_leastSet : mq_C := ((yX7_leastSet, cX7_leastSet, 8, (some .int), { frames := 3, cells := 0, slots := 0, locals := 72 }), (3, 1, 0, 0), 504403158265495552, (fun as ρ μ => match ρ with
  | (nw, sp, tl, tx, al) => mq_pZ as 56 fun as => mq_pR as 2 fun L as => mq_pI as fun t as => mq_p0 as (True)),
  (fun as ρ μ r ρ' μ' => match as, ρ, ρ' with
  | [.inr (.inr (some (_, _))), .inr (.inr (some (_, L))), .inl t], (nw, sp, tl, tx, al), (nw', sp', tl', tx', al') => []
  | _, _, _ => []))
def kq_leastSet : List mq_V → mq_R → mq_M → List mq_Cu := fun as ρ μ => match as, ρ with
  | [.inr (.inr (some (_, _))), .inr (.inr (some (_, L))), .inl t], (nw, sp, tl, tx, al) => [(29, [true, true, true, true, true, true, true, false], fun N l st ρ' μ' cs => mq_tZ l 56 fun l => mq_tR l 2 fun L1 l => mq_tI l fun v2 l => mq_tI l fun v3 l => mq_tI l fun v4 l => mq_tI l fun v5 l => mq_tI l fun v6 l => mq_tN l fun l => mq_t0 l (st = [] ∧ ρ' = (nw, sp, tl, tx, al) ∧ cs = 0 ∧ L1 = L ∧ v2 = t ∧ -1 ≤ v6 ∧ v6 ≤ 15 ∧ 0 ≤ (v6 + 1 : Int) ∧ (v6 + 1 : Int) < (N : Int)))]
  | _, _ => []
set_option maxHeartbeats 16000000 in
set_option maxRecDepth 100000 in
theorem vq_leastSet (lc : Launch) (h_lineUp : mq_Ct lc cq_lineUp) (h_longest : mq_Ct lc cq_longest) (h_get_coaches : mq_Ct lc cq_get_coaches) (h_fits : mq_Ct lc cq_fits) : mq_Ct lc cq_leastSet := by
  refine mq_method (lc := lc) (P := pq_leastSet) (cl := [cq_lineUp, cq_longest, cq_get_coaches, cq_fits]) (T := ([(22, 3, 8), (28, 6, 3)], [], [], [(41, 0, 0), (45, 1, 0), (33, 2, 0), (48, 3, 0)], [], [])) (fuel := 400) (cuts := kq_leastSet) (by decide) rfl ⟨rfl, rfl⟩ (List.forall_mem_cons.mpr ⟨h_lineUp, (List.forall_mem_cons.mpr ⟨h_longest, (List.forall_mem_cons.mpr ⟨h_get_coaches, (List.forall_mem_cons.mpr ⟨h_fits, (fun _ h => absurd h List.not_mem_nil)⟩)⟩)⟩)⟩) ⟨(List.forall_mem_cons.mpr ⟨⟨_, rfl, by decide, kw_351⟩, (List.forall_mem_cons.mpr ⟨⟨_, rfl, by decide, kw_352⟩, (fun _ h => absurd h List.not_mem_nil)⟩)⟩), (fun _ h => absurd h List.not_mem_nil), (fun _ h => absurd h List.not_mem_nil), (List.forall_mem_cons.mpr ⟨mq_ml0 rfl mw0_lineUp kw_375, (List.forall_mem_cons.mpr ⟨mq_ml0 rfl mw0_longest kw_379, (List.forall_mem_cons.mpr ⟨mq_ml0 rfl mw0_get_coaches kw_353, (List.forall_mem_cons.mpr ⟨mq_ml0 rfl mw0_fits kw_367, (fun _ h => absurd h List.not_mem_nil)⟩)⟩)⟩)⟩), (fun _ h => absurd h List.not_mem_nil), (fun _ h => absurd h List.not_mem_nil)⟩ (by decide +kernel) ⟨_, _, rfl⟩ ?_ ?_ ?_ ?_
  · intro as ρ μ h
    obtain ⟨nw, sp, tl, tx, al⟩ := ρ
    obtain ⟨as0, rfl, h0⟩ := mq_pZ_spec h
    clear h
    obtain ⟨L, as1, rfl, h1⟩ := mq_pR_spec h0
    clear h0
    obtain ⟨t, as2, rfl, h2⟩ := mq_pI_spec h1
    clear h1
    obtain ⟨rfl, hp⟩ := mq_p0_spec h2
    clear h2
    rfl
  · intro as ρ μ h
    obtain ⟨nw, sp, tl, tx, al⟩ := ρ
    obtain ⟨as0, rfl, h0⟩ := mq_pZ_spec h
    clear h
    obtain ⟨L, as1, rfl, h1⟩ := mq_pR_spec h0
    clear h0
    obtain ⟨t, as2, rfl, h2⟩ := mq_pI_spec h1
    clear h1
    obtain ⟨rfl, hp⟩ := mq_p0_spec h2
    clear h2
    intro hrg
    obtain ⟨⟨ha2a, ha2b⟩, -⟩ := hrg
    intro hbk
    have e0 : mq_l0 ([.inr (.inr (some (56, 0))), .inr (.inr (some (2, L))), .inl t] : List mq_V) 8 = [some (.inr (.inr (some (56, 0)))), some (.inr (.inr (some (2, L)))), some (.inl t), none, none, none, none, none] := rfl
    rw [e0]
    repeat' (first | refine And.intro ?_ ?_ | intro _)
    all_goals first | omega | rfl | exact trivial | (simp [mq_up] at * <;> omega)
  · intro as ρ μ h
    obtain ⟨nw, sp, tl, tx, al⟩ := ρ
    obtain ⟨as0, rfl, h0⟩ := mq_pZ_spec h
    clear h
    obtain ⟨L, as1, rfl, h1⟩ := mq_pR_spec h0
    clear h0
    obtain ⟨t, as2, rfl, h2⟩ := mq_pI_spec h1
    clear h1
    obtain ⟨rfl, hp⟩ := mq_p0_spec h2
    clear h2
    refine List.forall_mem_cons.mpr ⟨?_, ?_⟩
    · intro l st ρ' μ' cs hJ
      obtain ⟨l0, rfl, hJ0⟩ := mq_tZ_spec hJ
      clear hJ
      obtain ⟨L1, l1, rfl, hJ1⟩ := mq_tR_spec hJ0
      clear hJ0
      obtain ⟨v2, l2, rfl, hJ2⟩ := mq_tI_spec hJ1
      clear hJ1
      obtain ⟨v3, l3, rfl, hJ3⟩ := mq_tI_spec hJ2
      clear hJ2
      obtain ⟨v4, l4, rfl, hJ4⟩ := mq_tI_spec hJ3
      clear hJ3
      obtain ⟨v5, l5, rfl, hJ5⟩ := mq_tI_spec hJ4
      clear hJ4
      obtain ⟨v6, l6, rfl, hJ6⟩ := mq_tI_spec hJ5
      clear hJ5
      obtain ⟨l7, rfl, hJ7⟩ := mq_tN_spec hJ6
      clear hJ6
      obtain ⟨rfl, hJz⟩ := mq_t0_spec hJ7
      clear hJ7
      obtain ⟨rfl, rfl, rfl, rfl, hc1, hc2, hc3, hm0, hm1⟩ := hJz
      omega
    exact fun _ h => absurd h List.not_mem_nil
  · intro as ρ μ h
    obtain ⟨nw, sp, tl, tx, al⟩ := ρ
    obtain ⟨as0, rfl, h0⟩ := mq_pZ_spec h
    clear h
    obtain ⟨L, as1, rfl, h1⟩ := mq_pR_spec h0
    clear h0
    obtain ⟨t, as2, rfl, h2⟩ := mq_pI_spec h1
    clear h1
    obtain ⟨rfl, hp⟩ := mq_p0_spec h2
    clear h2
    intro hrg
    obtain ⟨⟨ha2a, ha2b⟩, -⟩ := hrg
    refine List.forall_mem_cons.mpr ⟨?_, ?_⟩
    · intro N l st ρ' μ' cs hJ
      obtain ⟨l0, rfl, hJ0⟩ := mq_tZ_spec hJ
      clear hJ
      obtain ⟨L1, l1, rfl, hJ1⟩ := mq_tR_spec hJ0
      clear hJ0
      obtain ⟨v2, l2, rfl, hJ2⟩ := mq_tI_spec hJ1
      clear hJ1
      obtain ⟨v3, l3, rfl, hJ3⟩ := mq_tI_spec hJ2
      clear hJ2
      obtain ⟨v4, l4, rfl, hJ4⟩ := mq_tI_spec hJ3
      clear hJ3
      obtain ⟨v5, l5, rfl, hJ5⟩ := mq_tI_spec hJ4
      clear hJ4
      obtain ⟨v6, l6, rfl, hJ6⟩ := mq_tI_spec hJ5
      clear hJ5
      obtain ⟨l7, rfl, hJ7⟩ := mq_tN_spec hJ6
      clear hJ6
      obtain ⟨rfl, hJz⟩ := mq_t0_spec hJ7
      clear hJ7
      obtain ⟨rfl, rfl, rfl, rfl, hc1, hc2, hc3, hm0, hm1⟩ := hJz
      intro hbk hrl
      obtain ⟨⟨hl2a, hl2b⟩, ⟨hl3a, hl3b⟩, ⟨hl4a, hl4b⟩, ⟨hl5a, hl5b⟩, ⟨hl6a, hl6b⟩, -⟩ := hrl
      repeat' (first | refine And.intro ?_ ?_ | intro _)
      all_goals first | omega | rfl | exact trivial | (simp [mq_up] at * <;> omega)
    exact fun _ h => absurd h List.not_mem_nil
theorem mw0_leastSet : mq_mlA cq_leastSet 0 := ⟨kw_713, ⟨by decide +kernel, by decide +kernel⟩, by decide +kernel, kw_714, kw_715, kw_366, 56, by decide +kernel, fun as ρ μ h => by obtain ⟨nw, sp, tl, tx, al⟩ := ρ; obtain ⟨t, e, _⟩ := mq_pZ_spec h; exact ⟨0, t, e⟩⟩
