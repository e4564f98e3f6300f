def pq_isAheadX : List mq_E := [(0, false, .aload 0), (1, false, .invokeinterface 0 2), (4, false, .iload 1), (5, false, .iaload), (6, false, .aload 0), (7, false, .invokeinterface 0 2), (10, false, .iload 2), (11, false, .iaload), (12, false, .if_icmp .lt (Int.ofNat 35)), (15, false, .aload 0), (16, false, .invokeinterface 0 2), (19, false, .iload 1), (20, false, .iaload), (21, false, .aload 0), (22, false, .invokeinterface 0 2), (25, false, .iload 2), (26, false, .iaload), (27, false, .if_icmp .ne (Int.ofNat 39)), (30, false, .iload 1), (31, false, .iload 2), (32, false, .if_icmp .ge (Int.ofNat 39)), (35, false, .iconst 1), (36, false, .goto (Int.ofNat 40)), (39, false, .iconst 0), (40, false, .ireturn)]
def cq_isAheadX : mq_C := ((yX0_isAhead, cX0_isAhead, 3, (some .boolean), { frames := 0, cells := 0, slots := 0, locals := 0 }), (3, 1, 0, 0), 0, (fun as ρ μ => match ρ with
  | (nw, sp, tl, tx, al) => mq_pZ as 50 fun as => mq_pI as fun a as => mq_pI as fun b as => mq_p0 as (0 ≤ a ∧ a ≤ 4 ∧ 0 ≤ b ∧ b ≤ 4)),
  (fun as ρ μ r ρ' μ' => match as, ρ, ρ' with
  | [.inr (.inr (some (_, _))), .inl a, .inl b], (nw, sp, tl, tx, al), (nw', sp', tl', tx', al') => [0 ≤ r, r ≤ 1]
  | _, _, _ => []))
def kq_isAheadX : List mq_V → mq_R → mq_M → List mq_Cu := fun as ρ μ => match as, ρ with
  | [.inr (.inr (some (_, _))), .inl a, .inl b], (nw, sp, tl, tx, al) => []
  | _, _ => []
set_option maxHeartbeats 16000000 in
set_option maxRecDepth 100000 in
theorem vq_isAheadX (lc : Launch)  : mq_Ct lc cq_isAheadX := by
  refine mq_method (lc := lc) (P := pq_isAheadX) (cl := []) (T := ([(9, 0, 2)], [], [], [], [], [])) (fuel := 400) (cuts := kq_isAheadX) (by decide) rfl ⟨rfl, rfl⟩ (fun _ h => absurd h List.not_mem_nil) ⟨(List.forall_mem_cons.mpr ⟨⟨_, rfl, by decide, kw_282⟩, (fun _ h => absurd h List.not_mem_nil)⟩), (fun _ h => absurd h List.not_mem_nil), (fun _ h => absurd h List.not_mem_nil), (fun _ h => absurd h List.not_mem_nil), (fun _ h => absurd h List.not_mem_nil), (fun _ h => absurd h List.not_mem_nil)⟩ (by decide +kernel) ⟨_, _, rfl⟩ ?_ ?_ ?_ ?_
  · intro as ρ μ h
    obtain ⟨nw, sp, tl, tx, al⟩ := ρ
    obtain ⟨as0, rfl, h0⟩ := mq_pZ_spec h
    clear h
    obtain ⟨a, as1, rfl, h1⟩ := mq_pI_spec h0
    clear h0
    obtain ⟨b, as2, rfl, h2⟩ := mq_pI_spec h1
    clear h1
    obtain ⟨rfl, hp⟩ := mq_p0_spec h2
    clear h2
    obtain ⟨hp0, hp1, hp2, hp3⟩ := hp
    rfl
  · intro as ρ μ h
    obtain ⟨nw, sp, tl, tx, al⟩ := ρ
    obtain ⟨as0, rfl, h0⟩ := mq_pZ_spec h
    clear h
    obtain ⟨a, as1, rfl, h1⟩ := mq_pI_spec h0
    clear h0
    obtain ⟨b, as2, rfl, h2⟩ := mq_pI_spec h1
    clear h1
    obtain ⟨rfl, hp⟩ := mq_p0_spec h2
    clear h2
    obtain ⟨hp0, hp1, hp2, hp3⟩ := hp
    intro hrg
    obtain ⟨⟨ha1a, ha1b⟩, ⟨ha2a, ha2b⟩, -⟩ := hrg
    intro hbk
    have e0 : mq_l0 ([.inr (.inr (some (50, 0))), .inl a, .inl b] : List mq_V) 3 = [some (.inr (.inr (some (50, 0)))), some (.inl a), some (.inl b)] := rfl
    rw [e0]
    repeat' (first | refine And.intro ?_ ?_ | intro _)
    all_goals first | omega | rfl | exact trivial | (simp [mq_up] at * <;> omega)
  · intro as ρ μ h
    obtain ⟨nw, sp, tl, tx, al⟩ := ρ
    obtain ⟨as0, rfl, h0⟩ := mq_pZ_spec h
    clear h
    obtain ⟨a, as1, rfl, h1⟩ := mq_pI_spec h0
    clear h0
    obtain ⟨b, as2, rfl, h2⟩ := mq_pI_spec h1
    clear h1
    obtain ⟨rfl, hp⟩ := mq_p0_spec h2
    clear h2
    obtain ⟨hp0, hp1, hp2, hp3⟩ := hp
    exact fun _ h => absurd h List.not_mem_nil
  · intro as ρ μ h
    obtain ⟨nw, sp, tl, tx, al⟩ := ρ
    obtain ⟨as0, rfl, h0⟩ := mq_pZ_spec h
    clear h
    obtain ⟨a, as1, rfl, h1⟩ := mq_pI_spec h0
    clear h0
    obtain ⟨b, as2, rfl, h2⟩ := mq_pI_spec h1
    clear h1
    obtain ⟨rfl, hp⟩ := mq_p0_spec h2
    clear h2
    obtain ⟨hp0, hp1, hp2, hp3⟩ := hp
    intro hrg
    obtain ⟨⟨ha1a, ha1b⟩, ⟨ha2a, ha2b⟩, -⟩ := hrg
    exact fun _ h => absurd h List.not_mem_nil
theorem mw0_isAheadX : mq_mlA cq_isAheadX 0 := ⟨kw_295, ⟨by decide +kernel, by decide +kernel⟩, by decide +kernel, kw_296, kw_297, kw_298, 50, by decide +kernel, fun as ρ μ h => by obtain ⟨nw, sp, tl, tx, al⟩ := ρ; obtain ⟨t, e, _⟩ := mq_pZ_spec h; exact ⟨0, t, e⟩⟩
def pq_lookAhead : List mq_E := [(0, false, .aload 0), (1, false, .iconst 0), (2, false, .multianewarray 0 6), (5, false, .aload 0), (6, false, .iconst 0), (7, false, .multianewarray 0 8), (10, false, .iconst 0), (11, false, .istore 4), (13, true, .iload 4), (15, false, .aload 1), (16, false, .invokeinterface 3 8), (19, false, .invokeinterface 6 3), (22, false, .if_icmp .ge (Int.ofNat 97)), (25, false, .aload 0), (26, false, .aload 1), (27, false, .invokeinterface 3 8), (30, false, .iload 4), (32, false, .iconst 0), (33, false, .invokestatic 0), (36, false, .iload 2), (37, false, .invokestatic 1), (40, false, .ifCond .eq (Int.ofNat 91)), (43, false, .aload 0), (44, false, .invokeinterface 0 3), (47, false, .iload 4), (49, false, .iaload), (50, false, .iload 3), (51, false, .if_icmp .ge (Int.ofNat 91)), (54, false, .aload 0), (55, false, .invokeinterface 0 4), (58, false, .iload 4), (60, false, .iaload), (61, false, .aload 0), (62, false, .invokeinterface 0 2), (65, false, .iload 2), (66, false, .iaload), (67, false, .if_icmp .le (Int.ofNat 91)), (70, false, .aload 0), (71, false, .invokeinterface 0 5), (74, false, .aload 0), (75, false, .invokeinterface 0 6), (78, false, .iload 4), (80, false, .iastore), (81, false, .aload 0), (82, false, .dup), (83, false, .invokeinterface 0 6), (86, false, .iconst 1), (87, false, .iadd), (88, false, .multianewarray 0 6), (91, false, .iinc 4 1), (94, false, .goto (Int.ofNat 13)), (97, false, .iconst 0), (98, false, .istore 4), (100, true, .iload 4), (102, false, .aload 1), (103, false, .invokeinterface 3 7), (106, false, .invokeinterface 6 3), (109, false, .if_icmp .ge (Int.ofNat 176)), (112, false, .aload 0), (113, false, .iload 4), (115, false, .iload 2), (116, false, .invokestatic 1), (119, false, .ifCond .eq (Int.ofNat 170)), (122, false, .aload 0), (123, false, .invokeinterface 0 2), (126, false, .iload 4), (128, false, .iaload), (129, false, .aload 0), (130, false, .invokeinterface 0 1), (133, false, .invokeinterface 2 4), (136, false, .iload 4), (138, false, .iaload), (139, false, .fadd), (140, false, .aload 0), (141, false, .invokeinterface 0 2), (144, false, .iload 2), (145, false, .iaload), (146, false, .if_icmp .le (Int.ofNat 170)), (149, false, .aload 0), (150, false, .invokeinterface 0 7), (153, false, .aload 0), (154, false, .invokeinterface 0 8), (157, false, .iload 4), (159, false, .iastore), (160, false, .aload 0), (161, false, .dup), (162, false, .invokeinterface 0 8), (165, false, .iconst 1), (166, false, .iadd), (167, false, .multianewarray 0 8), (170, false, .iinc 4 1), (173, false, .goto (Int.ofNat 100)), (176, false, .return_)]
def cq_lookAhead : mq_C := ((yX0_lookAhead, cX0_lookAhead, 5, none, { frames := 1, cells := 0, slots := 0, locals := 22 }), (4, 0, 0, 0), 55169095435288576, (fun as ρ μ => match ρ with
  | (nw, sp, tl, tx, al) => mq_pZ as 50 fun as => mq_pR as 2 fun L as => mq_pI as fun t as => mq_pI as fun e as => mq_p0 as (0 ≤ t ∧ t ≤ 4)),
  (fun as ρ μ r ρ' μ' => match as, ρ, ρ' with
  | [.inr (.inr (some (_, _))), .inr (.inr (some (_, L))), .inl t, .inl e], (nw, sp, tl, tx, al), (nw', sp', tl', tx', al') => []
  | _, _, _ => []))
def kq_lookAhead : List mq_V → mq_R → mq_M → List mq_Cu := fun as ρ μ => match as, ρ with
  | [.inr (.inr (some (_, _))), .inr (.inr (some (_, L))), .inl t, .inl e], (nw, sp, tl, tx, al) => [(13, [true, true, true, true, true], fun N l st ρ' μ' cs => mq_tZ l 50 fun l => mq_tR l 2 fun L1 l => mq_tI l fun v2 l => mq_tI l fun v3 l => mq_tI l fun v4 l => mq_t0 l (st = [] ∧ ρ' = (nw, sp, tl, tx, al) ∧ cs = 0 ∧ L1 = L ∧ v2 = t ∧ v3 = e ∧ 0 ≤ v4 ∧ v4 ≤ 16 ∧ 0 ≤ μ' (50, 0) 6 ∧ μ' (50, 0) 6 ≤ v4 ∧ μ' (50, 0) 8 = 0 ∧ 0 ≤ (100 + 16 - v4 : Int) ∧ (100 + 16 - v4 : Int) < (N : Int))),
    (100, [true, true, true, true, true], fun N l st ρ' μ' cs => mq_tZ l 50 fun l => mq_tR l 2 fun L1 l => mq_tI l fun v2 l => mq_tI l fun v3 l => mq_tI l fun v4 l => mq_t0 l (st = [] ∧ ρ' = (nw, sp, tl, tx, al) ∧ cs = 0 ∧ L1 = L ∧ v2 = t ∧ v3 = e ∧ 0 ≤ v4 ∧ v4 ≤ 5 ∧ 0 ≤ μ' (50, 0) 8 ∧ μ' (50, 0) 8 ≤ v4 ∧ 0 ≤ (5 - v4 : Int) ∧ (5 - v4 : Int) < (N : Int)))]
  | _, _ => []
set_option maxHeartbeats 16000000 in
set_option maxRecDepth 100000 in
theorem vq_lookAhead (lc : Launch) (h_get_coaches : mq_Ct lc cq_get_coaches) (h_isAheadX : mq_Ct lc cq_isAheadX) : mq_Ct lc cq_lookAhead := by
  refine mq_method (lc := lc) (P := pq_lookAhead) (cl := [cq_get_coaches, cq_isAheadX]) (T := ([(24, 0, 6), (31, 0, 8), (98, 3, 8), (67, 6, 3), (15, 0, 3), (18, 0, 4), (9, 0, 2), (21, 0, 5), (62, 3, 7), (47, 0, 1), (76, 2, 4), (28, 0, 7)], [], [], [(100, 0, 0), (103, 1, 0)], [], [])) (fuel := 400) (cuts := kq_lookAhead) (by decide) rfl ⟨rfl, rfl⟩ (List.forall_mem_cons.mpr ⟨h_get_coaches, (List.forall_mem_cons.mpr ⟨h_isAheadX, (fun _ h => absurd h List.not_mem_nil)⟩)⟩) ⟨(List.forall_mem_cons.mpr ⟨⟨_, rfl, by decide, kw_283⟩, (List.forall_mem_cons.mpr ⟨⟨_, rfl, by decide, kw_284⟩, (List.forall_mem_cons.mpr ⟨⟨_, rfl, by decide, kw_285⟩, (List.forall_mem_cons.mpr ⟨⟨_, rfl, by decide, kw_286⟩, (List.forall_mem_cons.mpr ⟨⟨_, rfl, by decide, kw_287⟩, (List.forall_mem_cons.mpr ⟨⟨_, rfl, by decide, kw_288⟩, (List.forall_mem_cons.mpr ⟨⟨_, rfl, by decide, kw_282⟩, (List.forall_mem_cons.mpr ⟨⟨_, rfl, by decide, kw_289⟩, (List.forall_mem_cons.mpr ⟨⟨_, rfl, by decide, kw_290⟩, (List.forall_mem_cons.mpr ⟨⟨_, rfl, by decide, kw_291⟩, (List.forall_mem_cons.mpr ⟨⟨_, rfl, by decide, kw_292⟩, (List.forall_mem_cons.mpr ⟨⟨_, rfl, by decide, kw_293⟩, (fun _ h => absurd h List.not_mem_nil)⟩)⟩)⟩)⟩)⟩)⟩)⟩)⟩)⟩)⟩)⟩)⟩), (fun _ h => absurd h List.not_mem_nil), (fun _ h => absurd h List.not_mem_nil), (List.forall_mem_cons.mpr ⟨mq_ml0 rfl mw0_get_coaches kw_294, (List.forall_mem_cons.mpr ⟨mq_ml0 rfl mw0_isAheadX kw_299, (fun _ h => absurd h List.not_mem_nil)⟩)⟩), (fun _ h => absurd h List.not_mem_nil), (fun _ h => absurd h List.not_mem_nil)⟩ (by decide +kernel) ⟨_, _, rfl⟩ ?_ ?_ ?_ ?_
  · intro as ρ μ h
    obtain ⟨nw, sp, tl, tx, al⟩ := ρ
    obtain ⟨as0, rfl, h0⟩ := mq_pZ_spec h
    clear h
    obtain ⟨L, as1, rfl, h1⟩ := mq_pR_spec h0
    clear h0
    obtain ⟨t, as2, rfl, h2⟩ := mq_pI_spec h1
    clear h1
    obtain ⟨e, as3, rfl, h3⟩ := mq_pI_spec h2
    clear h2
    obtain ⟨rfl, hp⟩ := mq_p0_spec h3
    clear h3
    obtain ⟨hp0, hp1⟩ := hp
    rfl
  · intro as ρ μ h
    obtain ⟨nw, sp, tl, tx, al⟩ := ρ
    obtain ⟨as0, rfl, h0⟩ := mq_pZ_spec h
    clear h
    obtain ⟨L, as1, rfl, h1⟩ := mq_pR_spec h0
    clear h0
    obtain ⟨t, as2, rfl, h2⟩ := mq_pI_spec h1
    clear h1
    obtain ⟨e, as3, rfl, h3⟩ := mq_pI_spec h2
    clear h2
    obtain ⟨rfl, hp⟩ := mq_p0_spec h3
    clear h3
    obtain ⟨hp0, hp1⟩ := hp
    intro hrg
    obtain ⟨⟨ha2a, ha2b⟩, ⟨ha3a, ha3b⟩, -⟩ := hrg
    intro hbk
    have e0 : mq_l0 ([.inr (.inr (some (50, 0))), .inr (.inr (some (2, L))), .inl t, .inl e] : List mq_V) 5 = [some (.inr (.inr (some (50, 0)))), some (.inr (.inr (some (2, L)))), some (.inl t), some (.inl e), none] := rfl
    rw [e0]
    repeat' (first | refine And.intro ?_ ?_ | intro _)
    all_goals first | omega | rfl | exact trivial | (simp [mq_up] at * <;> omega)
  · intro as ρ μ h
    obtain ⟨nw, sp, tl, tx, al⟩ := ρ
    obtain ⟨as0, rfl, h0⟩ := mq_pZ_spec h
    clear h
    obtain ⟨L, as1, rfl, h1⟩ := mq_pR_spec h0
    clear h0
    obtain ⟨t, as2, rfl, h2⟩ := mq_pI_spec h1
    clear h1
    obtain ⟨e, as3, rfl, h3⟩ := mq_pI_spec h2
    clear h2
    obtain ⟨rfl, hp⟩ := mq_p0_spec h3
    clear h3
    obtain ⟨hp0, hp1⟩ := hp
    refine List.forall_mem_cons.mpr ⟨?_, ?_⟩
    · intro l st ρ' μ' cs hJ
      obtain ⟨l0, rfl, hJ0⟩ := mq_tZ_spec hJ
      clear hJ
      obtain ⟨L1, l1, rfl, hJ1⟩ := mq_tR_spec hJ0
      clear hJ0
      obtain ⟨v2, l2, rfl, hJ2⟩ := mq_tI_spec hJ1
      clear hJ1
      obtain ⟨v3, l3, rfl, hJ3⟩ := mq_tI_spec hJ2
      clear hJ2
      obtain ⟨v4, l4, rfl, hJ4⟩ := mq_tI_spec hJ3
      clear hJ3
      obtain ⟨rfl, hJz⟩ := mq_t0_spec hJ4
      clear hJ4
      obtain ⟨rfl, rfl, rfl, rfl, hc1, hc2, hc3, hc4, hc5, hc6, hc7, hm0, hm1⟩ := hJz
      omega
    refine List.forall_mem_cons.mpr ⟨?_, ?_⟩
    · intro l st ρ' μ' cs hJ
      obtain ⟨l0, rfl, hJ0⟩ := mq_tZ_spec hJ
      clear hJ
      obtain ⟨L1, l1, rfl, hJ1⟩ := mq_tR_spec hJ0
      clear hJ0
      obtain ⟨v2, l2, rfl, hJ2⟩ := mq_tI_spec hJ1
      clear hJ1
      obtain ⟨v3, l3, rfl, hJ3⟩ := mq_tI_spec hJ2
      clear hJ2
      obtain ⟨v4, l4, rfl, hJ4⟩ := mq_tI_spec hJ3
      clear hJ3
      obtain ⟨rfl, hJz⟩ := mq_t0_spec hJ4
      clear hJ4
      obtain ⟨rfl, rfl, rfl, rfl, hc1, hc2, hc3, hc4, hc5, hc6, hm0, hm1⟩ := hJz
      omega
    exact fun _ h => absurd h List.not_mem_nil
  · intro as ρ μ h
    obtain ⟨nw, sp, tl, tx, al⟩ := ρ
    obtain ⟨as0, rfl, h0⟩ := mq_pZ_spec h
    clear h
    obtain ⟨L, as1, rfl, h1⟩ := mq_pR_spec h0
    clear h0
    obtain ⟨t, as2, rfl, h2⟩ := mq_pI_spec h1
    clear h1
    obtain ⟨e, as3, rfl, h3⟩ := mq_pI_spec h2
    clear h2
    obtain ⟨rfl, hp⟩ := mq_p0_spec h3
    clear h3
    obtain ⟨hp0, hp1⟩ := hp
    intro hrg
    obtain ⟨⟨ha2a, ha2b⟩, ⟨ha3a, ha3b⟩, -⟩ := hrg
    refine List.forall_mem_cons.mpr ⟨?_, ?_⟩
    · intro N l st ρ' μ' cs hJ
      obtain ⟨l0, rfl, hJ0⟩ := mq_tZ_spec hJ
      clear hJ
      obtain ⟨L1, l1, rfl, hJ1⟩ := mq_tR_spec hJ0
      clear hJ0
      obtain ⟨v2, l2, rfl, hJ2⟩ := mq_tI_spec hJ1
      clear hJ1
      obtain ⟨v3, l3, rfl, hJ3⟩ := mq_tI_spec hJ2
      clear hJ2
      obtain ⟨v4, l4, rfl, hJ4⟩ := mq_tI_spec hJ3
      clear hJ3
      obtain ⟨rfl, hJz⟩ := mq_t0_spec hJ4
      clear hJ4
      obtain ⟨rfl, rfl, rfl, rfl, hc1, hc2, hc3, hc4, hc5, hc6, hc7, hm0, hm1⟩ := hJz
      intro hbk hrl
      obtain ⟨⟨hl2a, hl2b⟩, ⟨hl3a, hl3b⟩, ⟨hl4a, hl4b⟩, -⟩ := hrl
      repeat' (first | refine And.intro ?_ ?_ | intro _)
      all_goals first | omega | rfl | exact trivial | (simp [mq_up] at * <;> omega)
    refine List.forall_mem_cons.mpr ⟨?_, ?_⟩
    · intro N l st ρ' μ' cs hJ
      obtain ⟨l0, rfl, hJ0⟩ := mq_tZ_spec hJ
      clear hJ
      obtain ⟨L1, l1, rfl, hJ1⟩ := mq_tR_spec hJ0
      clear hJ0
      obtain ⟨v2, l2, rfl, hJ2⟩ := mq_tI_spec hJ1
      clear hJ1
      obtain ⟨v3, l3, rfl, hJ3⟩ := mq_tI_spec hJ2
      clear hJ2
      obtain ⟨v4, l4, rfl, hJ4⟩ := mq_tI_spec hJ3
      clear hJ3
      obtain ⟨rfl, hJz⟩ := mq_t0_spec hJ4
      clear hJ4
      obtain ⟨rfl, rfl, rfl, rfl, hc1, hc2, hc3, hc4, hc5, hc6, hm0, hm1⟩ := hJz
      intro hbk hrl
      obtain ⟨⟨hl2a, hl2b⟩, ⟨hl3a, hl3b⟩, ⟨hl4a, hl4b⟩, -⟩ := hrl
      repeat' (first | refine And.intro ?_ ?_ | intro _)
      all_goals first | omega | rfl | exact trivial | (simp [mq_up] at * <;> omega)
    exact fun _ h => absurd h List.not_mem_nil
theorem mw0_lookAhead : mq_mlA cq_lookAhead 0 := ⟨kw_327, ⟨by decide +kernel, by decide +kernel⟩, by decide +kernel, kw_328, kw_329, kw_298, 50, by decide +kernel, fun as ρ μ h => by obtain ⟨nw, sp, tl, tx, al⟩ := ρ; obtain ⟨t, e, _⟩ := mq_pZ_spec h; exact ⟨0, t, e⟩⟩
def pq_setTimes : List mq_E := [(0, false, .iconst 0), (1, false, .istore 2), (2, true, .iload 2), (3, false, .aload 1), (4, false, .invokeinterface 3 7), (7, false, .invokeinterface 6 3), (10, false, .if_icmp .ge (Int.ofNat 34)), (13, false, .aload 0), (14, false, .invokeinterface 0 2), (17, false, .iload 2), (18, false, .aload 1), (19, false, .invokeinterface 3 7), (22, false, .iload 2), (23, false, .iconst 0), (24, false, .invokestatic 0), (27, false, .iastore), (28, false, .iinc 2 1), (31, false, .goto (Int.ofNat 2)), (34, false, .iconst 0), (35, false, .istore 2), (36, true, .iload 2), (37, false, .aload 1), (38, false, .invokeinterface 3 8), (41, false, .invokeinterface 6 3), (44, false, .if_icmp .ge (Int.ofNat 145)), (47, false, .aload 1), (48, false, .invokeinterface 3 7), (51, false, .aload 1), (52, false, .invokeinterface 3 8), (55, false, .iload 2), (56, false, .iconst 0), (57, false, .invokestatic 1), (60, false, .iconst 0), (61, false, .invokestatic 0), (64, false, .istore 3), (65, false, .aload 0), (66, false, .invokeinterface 0 1), (69, false, .iload 2), (70, false, .invokestatic 2), (73, false, .istore 4), (75, false, .aload 0), (76, false, .invokeinterface 0 3), (79, false, .iload 2), (80, false, .iload 4), (82, false, .ifCond .eq (Int.ofNat 99)), (85, false, .iload 3), (86, false, .aload 0), (87, false, .invokeinterface 0 1), (90, false, .invokeinterface 2 5), (93, false, .iload 2), (94, false, .iaload), (95, false, .fadd), (96, false, .goto (Int.ofNat 101)), (99, false, .iconst 1000000), (101, false, .iastore), (102, false, .aload 0), (103, false, .invokeinterface 0 4), (106, false, .iload 2), (107, false, .iload 4), (109, false, .ifCond .eq (Int.ofNat 136)), (112, false, .aload 0), (113, false, .invokeinterface 0 1), (116, false, .iload 2), (117, false, .invokestatic 3), (120, false, .ifCond .ne (Int.ofNat 136)), (123, false, .iload 3), (124, false, .aload 0), (125, false, .invokeinterface 0 1), (128, false, .iload 2), (129, false, .invokestatic 4), (132, false, .fadd), (133, false, .goto (Int.ofNat 138)), (136, false, .iconst 1000000), (138, false, .iastore), (139, false, .iinc 2 1), (142, false, .goto (Int.ofNat 36)), (145, false, .return_)]
def cq_setTimes : mq_C := ((yX0_setTimes, cX0_setTimes, 5, none, { frames := 2, cells := 0, slots := 0, locals := 43 }), (2, 0, 0, 0), 15762598695796736, (fun as ρ μ => match ρ with
  | (nw, sp, tl, tx, al) => mq_pZ as 50 fun as => mq_pR as 2 fun L as => mq_p0 as (True)),
  (fun as ρ μ r ρ' μ' => match as, ρ, ρ' with
  | [.inr (.inr (some (_, _))), .inr (.inr (some (_, L)))], (nw, sp, tl, tx, al), (nw', sp', tl', tx', al') => []
  | _, _, _ => []))
def kq_setTimes : List mq_V → mq_R → mq_M → List mq_Cu := fun as ρ μ => match as, ρ with
  | [.inr (.inr (some (_, _))), .inr (.inr (some (_, L)))], (nw, sp, tl, tx, al) => [(2, [true, true, true, false, false], fun N l st ρ' μ' cs => mq_tZ l 50 fun l => mq_tR l 2 fun L1 l => mq_tI l fun v2 l => mq_tN l fun l => mq_tN l fun l => mq_t0 l (st = [] ∧ ρ' = (nw, sp, tl, tx, al) ∧ cs = 0 ∧ L1 = L ∧ 0 ≤ v2 ∧ v2 ≤ 5 ∧ 0 ≤ (100 + 5 - v2 : Int) ∧ (100 + 5 - v2 : Int) < (N : Int))),
    (36, [true, true, true, false, false], fun N l st ρ' μ' cs => mq_tZ l 50 fun l => mq_tR l 2 fun L1 l => mq_tI l fun v2 l => mq_tN l fun l => mq_tN l fun l => mq_t0 l (st = [] ∧ ρ' = (nw, sp, tl, tx, al) ∧ cs = 0 ∧ L1 = L ∧ 0 ≤ v2 ∧ v2 ≤ 16 ∧ 0 ≤ (16 - v2 : Int) ∧ (16 - v2 : Int) < (N : Int)))]
  | _, _ => []
set_option maxHeartbeats 16000000 in
set_option maxRecDepth 100000 in
theorem vq_setTimes (lc : Launch) (h_get_trains : mq_Ct lc cq_get_trains) (h_get_coaches : mq_Ct lc cq_get_coaches) (h_isLetGo : mq_Ct lc cq_isLetGo) (h_isForGood : mq_Ct lc cq_isForGood) (h_endTick : mq_Ct lc cq_endTick) : mq_Ct lc cq_setTimes := by
  refine mq_method (lc := lc) (P := pq_setTimes) (cl := [cq_get_trains, cq_get_coaches, cq_isLetGo, cq_isForGood, cq_endTick]) (T := ([(62, 3, 7), (67, 6, 3), (9, 0, 2), (98, 3, 8), (47, 0, 1), (15, 0, 3), (111, 2, 5), (18, 0, 4)], [(61, 1000000)], [], [(100, 0, 0), (100, 1, 0), (107, 2, 0), (114, 3, 0), (117, 4, 0)], [], [])) (fuel := 400) (cuts := kq_setTimes) (by decide) rfl ⟨rfl, rfl⟩ (List.forall_mem_cons.mpr ⟨h_get_trains, (List.forall_mem_cons.mpr ⟨h_get_coaches, (List.forall_mem_cons.mpr ⟨h_isLetGo, (List.forall_mem_cons.mpr ⟨h_isForGood, (List.forall_mem_cons.mpr ⟨h_endTick, (fun _ h => absurd h List.not_mem_nil)⟩)⟩)⟩)⟩)⟩) ⟨(List.forall_mem_cons.mpr ⟨⟨_, rfl, by decide, kw_290⟩, (List.forall_mem_cons.mpr ⟨⟨_, rfl, by decide, kw_286⟩, (List.forall_mem_cons.mpr ⟨⟨_, rfl, by decide, kw_282⟩, (List.forall_mem_cons.mpr ⟨⟨_, rfl, by decide, kw_285⟩, (List.forall_mem_cons.mpr ⟨⟨_, rfl, by decide, kw_291⟩, (List.forall_mem_cons.mpr ⟨⟨_, rfl, by decide, kw_287⟩, (List.forall_mem_cons.mpr ⟨⟨_, rfl, by decide, kw_300⟩, (List.forall_mem_cons.mpr ⟨⟨_, rfl, by decide, kw_288⟩, (fun _ h => absurd h List.not_mem_nil)⟩)⟩)⟩)⟩)⟩)⟩)⟩)⟩), (List.forall_mem_cons.mpr ⟨kw_301, (fun _ h => absurd h List.not_mem_nil)⟩), (fun _ h => absurd h List.not_mem_nil), (List.forall_mem_cons.mpr ⟨mq_ml0 rfl mw0_get_trains kw_294, (List.forall_mem_cons.mpr ⟨mq_ml0 rfl mw0_get_coaches kw_294, (List.forall_mem_cons.mpr ⟨mq_ml0 rfl mw0_isLetGo kw_302, (List.forall_mem_cons.mpr ⟨mq_ml0 rfl mw0_isForGood kw_306, (List.forall_mem_cons.mpr ⟨mq_ml0 rfl mw0_endTick kw_310, (fun _ h => absurd h List.not_mem_nil)⟩)⟩)⟩)⟩)⟩), (fun _ h => absurd h List.not_mem_nil), (fun _ h => absurd h List.not_mem_nil)⟩ (by decide +kernel) ⟨_, _, rfl⟩ ?_ ?_ ?_ ?_
  · intro as ρ μ h
    obtain ⟨nw, sp, tl, tx, al⟩ := ρ
    obtain ⟨as0, rfl, h0⟩ := mq_pZ_spec h
    clear h
    obtain ⟨L, as1, rfl, h1⟩ := mq_pR_spec h0
    clear h0
    obtain ⟨rfl, hp⟩ := mq_p0_spec h1
    clear h1
    rfl
  · intro as ρ μ h
    obtain ⟨nw, sp, tl, tx, al⟩ := ρ
    obtain ⟨as0, rfl, h0⟩ := mq_pZ_spec h
    clear h
    obtain ⟨L, as1, rfl, h1⟩ := mq_pR_spec h0
    clear h0
    obtain ⟨rfl, hp⟩ := mq_p0_spec h1
    clear h1
    intro hrg
    intro hbk
    have e0 : mq_l0 ([.inr (.inr (some (50, 0))), .inr (.inr (some (2, L)))] : List mq_V) 5 = [some (.inr (.inr (some (50, 0)))), some (.inr (.inr (some (2, L)))), none, none, none] := rfl
    rw [e0]
    repeat' (first | refine And.intro ?_ ?_ | intro _)
    all_goals first | omega | rfl | exact trivial | (simp [mq_up] at * <;> omega)
  · intro as ρ μ h
    obtain ⟨nw, sp, tl, tx, al⟩ := ρ
    obtain ⟨as0, rfl, h0⟩ := mq_pZ_spec h
    clear h
    obtain ⟨L, as1, rfl, h1⟩ := mq_pR_spec h0
    clear h0
    obtain ⟨rfl, hp⟩ := mq_p0_spec h1
    clear h1
    refine List.forall_mem_cons.mpr ⟨?_, ?_⟩
    · intro l st ρ' μ' cs hJ
      obtain ⟨l0, rfl, hJ0⟩ := mq_tZ_spec hJ
      clear hJ
      obtain ⟨L1, l1, rfl, hJ1⟩ := mq_tR_spec hJ0
      clear hJ0
      obtain ⟨v2, l2, rfl, hJ2⟩ := mq_tI_spec hJ1
      clear hJ1
      obtain ⟨l3, rfl, hJ3⟩ := mq_tN_spec hJ2
      clear hJ2
      obtain ⟨l4, rfl, hJ4⟩ := mq_tN_spec hJ3
      clear hJ3
      obtain ⟨rfl, hJz⟩ := mq_t0_spec hJ4
      clear hJ4
      obtain ⟨rfl, rfl, rfl, rfl, hc1, hc2, hm0, hm1⟩ := hJz
      omega
    refine List.forall_mem_cons.mpr ⟨?_, ?_⟩
    · intro l st ρ' μ' cs hJ
      obtain ⟨l0, rfl, hJ0⟩ := mq_tZ_spec hJ
      clear hJ
      obtain ⟨L1, l1, rfl, hJ1⟩ := mq_tR_spec hJ0
      clear hJ0
      obtain ⟨v2, l2, rfl, hJ2⟩ := mq_tI_spec hJ1
      clear hJ1
      obtain ⟨l3, rfl, hJ3⟩ := mq_tN_spec hJ2
      clear hJ2
      obtain ⟨l4, rfl, hJ4⟩ := mq_tN_spec hJ3
      clear hJ3
      obtain ⟨rfl, hJz⟩ := mq_t0_spec hJ4
      clear hJ4
      obtain ⟨rfl, rfl, rfl, rfl, hc1, hc2, hm0, hm1⟩ := hJz
      omega
    exact fun _ h => absurd h List.not_mem_nil
  · intro as ρ μ h
    obtain ⟨nw, sp, tl, tx, al⟩ := ρ
    obtain ⟨as0, rfl, h0⟩ := mq_pZ_spec h
    clear h
    obtain ⟨L, as1, rfl, h1⟩ := mq_pR_spec h0
    clear h0
    obtain ⟨rfl, hp⟩ := mq_p0_spec h1
    clear h1
    intro hrg
    refine List.forall_mem_cons.mpr ⟨?_, ?_⟩
    · intro N l st ρ' μ' cs hJ
      obtain ⟨l0, rfl, hJ0⟩ := mq_tZ_spec hJ
      clear hJ
      obtain ⟨L1, l1, rfl, hJ1⟩ := mq_tR_spec hJ0
      clear hJ0
      obtain ⟨v2, l2, rfl, hJ2⟩ := mq_tI_spec hJ1
      clear hJ1
      obtain ⟨l3, rfl, hJ3⟩ := mq_tN_spec hJ2
      clear hJ2
      obtain ⟨l4, rfl, hJ4⟩ := mq_tN_spec hJ3
      clear hJ3
      obtain ⟨rfl, hJz⟩ := mq_t0_spec hJ4
      clear hJ4
      obtain ⟨rfl, rfl, rfl, rfl, hc1, hc2, hm0, hm1⟩ := hJz
      intro hbk hrl
      obtain ⟨⟨hl2a, hl2b⟩, -⟩ := hrl
      repeat' (first | refine And.intro ?_ ?_ | intro _)
      all_goals first | omega | rfl | exact trivial | (simp [mq_up] at * <;> omega)
    refine List.forall_mem_cons.mpr ⟨?_, ?_⟩
    · intro N l st ρ' μ' cs hJ
      obtain ⟨l0, rfl, hJ0⟩ := mq_tZ_spec hJ
      clear hJ
      obtain ⟨L1, l1, rfl, hJ1⟩ := mq_tR_spec hJ0
      clear hJ0
      obtain ⟨v2, l2, rfl, hJ2⟩ := mq_tI_spec hJ1
      clear hJ1
      obtain ⟨l3, rfl, hJ3⟩ := mq_tN_spec hJ2
      clear hJ2
      obtain ⟨l4, rfl, hJ4⟩ := mq_tN_spec hJ3
      clear hJ3
      obtain ⟨rfl, hJz⟩ := mq_t0_spec hJ4
      clear hJ4
      obtain ⟨rfl, rfl, rfl, rfl, hc1, hc2, hm0, hm1⟩ := hJz
      intro hbk hrl
      obtain ⟨⟨hl2a, hl2b⟩, -⟩ := hrl
      repeat' (first | refine And.intro ?_ ?_ | intro _)
      all_goals first | omega | rfl | exact trivial | (simp [mq_up] at * <;> omega)
    exact fun _ h => absurd h List.not_mem_nil
theorem mw0_setTimes : mq_mlA cq_setTimes 0 := ⟨kw_342, ⟨by decide +kernel, by decide +kernel⟩, by decide +kernel, kw_343, kw_344, kw_298, 50, by decide +kernel, fun as ρ μ h => by obtain ⟨nw, sp, tl, tx, al⟩ := ρ; obtain ⟨t, e, _⟩ := mq_pZ_spec h; exact ⟨0, t, e⟩⟩
def pq_reachedAt : List mq_E := [(0, false, .iconst 0), (1, false, .istore 4), (3, true, .iload 4), (5, false, .aload 0), (6, false, .invokeinterface 0 6), (9, false, .if_icmp .ge (Int.ofNat 81)), (12, false, .aload 0), (13, false, .invokeinterface 0 5), (16, false, .iload 4), (18, false, .iaload), (19, false, .istore 5), (21, false, .iload 2), (22, false, .aload 0), (23, false, .invokeinterface 0 3), (26, false, .iload 5), (28, false, .iaload), (29, false, .if_icmp .lt (Int.ofNat 75)), (32, false, .iload 2), (33, false, .aload 0), (34, false, .invokeinterface 0 4), (37, false, .iload 5), (39, false, .iaload), (40, false, .if_icmp .ge (Int.ofNat 75)), (43, false, .iload 3), (44, false, .aload 0), (45, false, .invokeinterface 0 1), (48, false, .iload 5), (50, false, .iload 2), (51, false, .aload 0), (52, false, .invokeinterface 0 3), (55, false, .iload 5), (57, false, .iaload), (58, false, .fsub), (59, false, .invokestatic 0), (62, false, .aload 1), (63, false, .iload 5), (65, false, .invokestatic 1), (68, false, .fsub), (69, false, .if_icmp .lt (Int.ofNat 75)), (72, false, .iload 5), (74, false, .ireturn), (75, false, .iinc 4 1), (78, false, .goto (Int.ofNat 3)), (81, false, .iconst 0), (82, false, .istore 4), (84, true, .iload 4), (86, false, .aload 0), (87, false, .invokeinterface 0 8), (90, false, .if_icmp .ge (Int.ofNat 165)), (93, false, .iload 2), (94, false, .aload 0), (95, false, .invokeinterface 0 2), (98, false, .aload 0), (99, false, .invokeinterface 0 7), (102, false, .iload 4), (104, false, .iaload), (105, false, .iaload), (106, false, .fsub), (107, false, .istore 5), (109, false, .aload 0), (110, false, .invokeinterface 0 1), (113, false, .aload 0), (114, false, .invokeinterface 0 7), (117, false, .iload 4), (119, false, .iaload), (120, false, .iload 5), (122, false, .invokestatic 2), (125, false, .ifCond .eq (Int.ofNat 159)), (128, false, .iload 3), (129, false, .aload 0), (130, false, .invokeinterface 0 1), (133, false, .aload 0), (134, false, .invokeinterface 0 7), (137, false, .iload 4), (139, false, .iaload), (140, false, .iload 5), (142, false, .invokestatic 3), (145, false, .if_icmp .lt (Int.ofNat 159)), (148, false, .iconst 100), (150, false, .aload 0), (151, false, .invokeinterface 0 7), (154, false, .iload 4), (156, false, .iaload), (157, false, .iadd), (158, false, .ireturn), (159, false, .iinc 4 1), (162, false, .goto (Int.ofNat 84)), (165, false, .iconst (-1)), (166, false, .ireturn)]
def cq_reachedAt : mq_C := ((yX0_reachedAt, cX0_reachedAt, 6, (some .int), { frames := 2, cells := 0, slots := 0, locals := 44 }), (4, 1, 0, 0), 0, (fun as ρ μ => match ρ with
  | (nw, sp, tl, tx, al) => mq_pZ as 50 fun as => mq_pR as 2 fun L as => mq_pI as fun a as => mq_pI as fun f as => mq_p0 as (True)),
  (fun as ρ μ r ρ' μ' => match as, ρ, ρ' with
  | [.inr (.inr (some (_, _))), .inr (.inr (some (_, L))), .inl a, .inl f], (nw, sp, tl, tx, al), (nw', sp', tl', tx', al') => []
  | _, _, _ => []))
def kq_reachedAt : List mq_V → mq_R → mq_M → List mq_Cu := fun as ρ μ => match as, ρ with
  | [.inr (.inr (some (_, _))), .inr (.inr (some (_, L))), .inl a, .inl f], (nw, sp, tl, tx, al) => [(3, [true, true, true, true, true, false], fun N l st ρ' μ' cs => mq_tZ l 50 fun l => mq_tR l 2 fun L1 l => mq_tI l fun v2 l => mq_tI l fun v3 l => mq_tI l fun v4 l => mq_tN l fun l => mq_t0 l (st = [] ∧ ρ' = (nw, sp, tl, tx, al) ∧ cs = 0 ∧ L1 = L ∧ v2 = a ∧ v3 = f ∧ 0 ≤ v4 ∧ v4 ≤ 16 ∧ 0 ≤ (100 + 16 - v4 : Int) ∧ (100 + 16 - v4 : Int) < (N : Int))),
    (84, [true, true, true, true, true, false], fun N l st ρ' μ' cs => mq_tZ l 50 fun l => mq_tR l 2 fun L1 l => mq_tI l fun v2 l => mq_tI l fun v3 l => mq_tI l fun v4 l => mq_tN l fun l => mq_t0 l (st = [] ∧ ρ' = (nw, sp, tl, tx, al) ∧ cs = 0 ∧ L1 = L ∧ v2 = a ∧ v3 = f ∧ 0 ≤ v4 ∧ v4 ≤ 5 ∧ 0 ≤ (5 - v4 : Int) ∧ (5 - v4 : Int) < (N : Int)))]
  | _, _ => []
set_option maxHeartbeats 16000000 in
set_option maxRecDepth 100000 in
theorem vq_reachedAt (lc : Launch) (h_coachFront : mq_Ct lc cq_coachFront) (h_lengthOf : mq_Ct lc cq_lengthOf) (h_isTrainOnLine : mq_Ct lc cq_isTrainOnLine) (h_tailOf : mq_Ct lc cq_tailOf) : mq_Ct lc cq_reachedAt := by
  refine mq_method (lc := lc) (P := pq_reachedAt) (cl := [cq_coachFront, cq_lengthOf, cq_isTrainOnLine, cq_tailOf]) (T := ([(24, 0, 6), (21, 0, 5), (15, 0, 3), (18, 0, 4), (47, 0, 1), (31, 0, 8), (9, 0, 2), (28, 0, 7)], [], [], [(121, 0, 0), (124, 1, 0), (127, 2, 0), (130, 3, 0)], [], [])) (fuel := 400) (cuts := kq_reachedAt) (by decide) rfl ⟨rfl, rfl⟩ (List.forall_mem_cons.mpr ⟨h_coachFront, (List.forall_mem_cons.mpr ⟨h_lengthOf, (List.forall_mem_cons.mpr ⟨h_isTrainOnLine, (List.forall_mem_cons.mpr ⟨h_tailOf, (fun _ h => absurd h List.not_mem_nil)⟩)⟩)⟩)⟩) ⟨(List.forall_mem_cons.mpr ⟨⟨_, rfl, by decide, kw_283⟩, (List.forall_mem_cons.mpr ⟨⟨_, rfl, by decide, kw_289⟩, (List.forall_mem_cons.mpr ⟨⟨_, rfl, by decide, kw_287⟩, (List.forall_mem_cons.mpr ⟨⟨_, rfl, by decide, kw_288⟩, (List.forall_mem_cons.mpr ⟨⟨_, rfl, by decide, kw_291⟩, (List.forall_mem_cons.mpr ⟨⟨_, rfl, by decide, kw_284⟩, (List.forall_mem_cons.mpr ⟨⟨_, rfl, by decide, kw_282⟩, (List.forall_mem_cons.mpr ⟨⟨_, rfl, by decide, kw_293⟩, (fun _ h => absurd h List.not_mem_nil)⟩)⟩)⟩)⟩)⟩)⟩)⟩)⟩), (fun _ h => absurd h List.not_mem_nil), (fun _ h => absurd h List.not_mem_nil), (List.forall_mem_cons.mpr ⟨mq_ml0 rfl mw0_coachFront kw_314, (List.forall_mem_cons.mpr ⟨mq_ml0 rfl mw0_lengthOf kw_315, (List.forall_mem_cons.mpr ⟨mq_ml0 rfl mw0_isTrainOnLine kw_319, (List.forall_mem_cons.mpr ⟨mq_ml0 rfl mw0_tailOf kw_323, (fun _ h => absurd h List.not_mem_nil)⟩)⟩)⟩)⟩), (fun _ h => absurd h List.not_mem_nil), (fun _ h => absurd h List.not_mem_nil)⟩ (by decide +kernel) ⟨_, _, rfl⟩ ?_ ?_ ?_ ?_
  · intro as ρ μ h
    obtain ⟨nw, sp, tl, tx, al⟩ := ρ
    obtain ⟨as0, rfl, h0⟩ := mq_pZ_spec h
    clear h
    obtain ⟨L, as1, rfl, h1⟩ := mq_pR_spec h0
    clear h0
    obtain ⟨a, as2, rfl, h2⟩ := mq_pI_spec h1
    clear h1
    obtain ⟨f, as3, rfl, h3⟩ := mq_pI_spec h2
    clear h2
    obtain ⟨rfl, hp⟩ := mq_p0_spec h3
    clear h3
    rfl
  · intro as ρ μ h
    obtain ⟨nw, sp, tl, tx, al⟩ := ρ
    obtain ⟨as0, rfl, h0⟩ := mq_pZ_spec h
    clear h
    obtain ⟨L, as1, rfl, h1⟩ := mq_pR_spec h0
    clear h0
    obtain ⟨a, as2, rfl, h2⟩ := mq_pI_spec h1
    clear h1
    obtain ⟨f, as3, rfl, h3⟩ := mq_pI_spec h2
    clear h2
    obtain ⟨rfl, hp⟩ := mq_p0_spec h3
    clear h3
    intro hrg
    obtain ⟨⟨ha2a, ha2b⟩, ⟨ha3a, ha3b⟩, -⟩ := hrg
    intro hbk
    have e0 : mq_l0 ([.inr (.inr (some (50, 0))), .inr (.inr (some (2, L))), .inl a, .inl f] : List mq_V) 6 = [some (.inr (.inr (some (50, 0)))), some (.inr (.inr (some (2, L)))), some (.inl a), some (.inl f), none, none] := rfl
    rw [e0]
    repeat' (first | refine And.intro ?_ ?_ | intro _)
    all_goals first | omega | rfl | exact trivial | (simp [mq_up] at * <;> omega)
  · intro as ρ μ h
    obtain ⟨nw, sp, tl, tx, al⟩ := ρ
    obtain ⟨as0, rfl, h0⟩ := mq_pZ_spec h
    clear h
    obtain ⟨L, as1, rfl, h1⟩ := mq_pR_spec h0
    clear h0
    obtain ⟨a, as2, rfl, h2⟩ := mq_pI_spec h1
    clear h1
    obtain ⟨f, as3, rfl, h3⟩ := mq_pI_spec h2
    clear h2
    obtain ⟨rfl, hp⟩ := mq_p0_spec h3
    clear h3
    refine List.forall_mem_cons.mpr ⟨?_, ?_⟩
    · intro l st ρ' μ' cs hJ
      obtain ⟨l0, rfl, hJ0⟩ := mq_tZ_spec hJ
      clear hJ
      obtain ⟨L1, l1, rfl, hJ1⟩ := mq_tR_spec hJ0
      clear hJ0
      obtain ⟨v2, l2, rfl, hJ2⟩ := mq_tI_spec hJ1
      clear hJ1
      obtain ⟨v3, l3, rfl, hJ3⟩ := mq_tI_spec hJ2
      clear hJ2
      obtain ⟨v4, l4, rfl, hJ4⟩ := mq_tI_spec hJ3
      clear hJ3
      obtain ⟨l5, rfl, hJ5⟩ := mq_tN_spec hJ4
      clear hJ4
      obtain ⟨rfl, hJz⟩ := mq_t0_spec hJ5
      clear hJ5
      obtain ⟨rfl, rfl, rfl, rfl, hc1, hc2, hc3, hc4, hm0, hm1⟩ := hJz
      omega
    refine List.forall_mem_cons.mpr ⟨?_, ?_⟩
    · intro l st ρ' μ' cs hJ
      obtain ⟨l0, rfl, hJ0⟩ := mq_tZ_spec hJ
      clear hJ
      obtain ⟨L1, l1, rfl, hJ1⟩ := mq_tR_spec hJ0
      clear hJ0
      obtain ⟨v2, l2, rfl, hJ2⟩ := mq_tI_spec hJ1
      clear hJ1
      obtain ⟨v3, l3, rfl, hJ3⟩ := mq_tI_spec hJ2
      clear hJ2
      obtain ⟨v4, l4, rfl, hJ4⟩ := mq_tI_spec hJ3
      clear hJ3
      obtain ⟨l5, rfl, hJ5⟩ := mq_tN_spec hJ4
      clear hJ4
      obtain ⟨rfl, hJz⟩ := mq_t0_spec hJ5
      clear hJ5
      obtain ⟨rfl, rfl, rfl, rfl, hc1, hc2, hc3, hc4, hm0, hm1⟩ := hJz
      omega
    exact fun _ h => absurd h List.not_mem_nil
  · intro as ρ μ h
    obtain ⟨nw, sp, tl, tx, al⟩ := ρ
    obtain ⟨as0, rfl, h0⟩ := mq_pZ_spec h
    clear h
    obtain ⟨L, as1, rfl, h1⟩ := mq_pR_spec h0
    clear h0
    obtain ⟨a, as2, rfl, h2⟩ := mq_pI_spec h1
    clear h1
    obtain ⟨f, as3, rfl, h3⟩ := mq_pI_spec h2
    clear h2
    obtain ⟨rfl, hp⟩ := mq_p0_spec h3
    clear h3
    intro hrg
    obtain ⟨⟨ha2a, ha2b⟩, ⟨ha3a, ha3b⟩, -⟩ := hrg
    refine List.forall_mem_cons.mpr ⟨?_, ?_⟩
    · intro N l st ρ' μ' cs hJ
      obtain ⟨l0, rfl, hJ0⟩ := mq_tZ_spec hJ
      clear hJ
      obtain ⟨L1, l1, rfl, hJ1⟩ := mq_tR_spec hJ0
      clear hJ0
      obtain ⟨v2, l2, rfl, hJ2⟩ := mq_tI_spec hJ1
      clear hJ1
      obtain ⟨v3, l3, rfl, hJ3⟩ := mq_tI_spec hJ2
      clear hJ2
      obtain ⟨v4, l4, rfl, hJ4⟩ := mq_tI_spec hJ3
      clear hJ3
      obtain ⟨l5, rfl, hJ5⟩ := mq_tN_spec hJ4
      clear hJ4
      obtain ⟨rfl, hJz⟩ := mq_t0_spec hJ5
      clear hJ5
      obtain ⟨rfl, rfl, rfl, rfl, hc1, hc2, hc3, hc4, hm0, hm1⟩ := hJz
      intro hbk hrl
      obtain ⟨⟨hl2a, hl2b⟩, ⟨hl3a, hl3b⟩, ⟨hl4a, hl4b⟩, -⟩ := hrl
      repeat' (first | refine And.intro ?_ ?_ | intro _)
      all_goals first | omega | rfl | exact trivial | (simp [mq_up] at * <;> omega)
    refine List.forall_mem_cons.mpr ⟨?_, ?_⟩
    · intro N l st ρ' μ' cs hJ
      obtain ⟨l0, rfl, hJ0⟩ := mq_tZ_spec hJ
      clear hJ
      obtain ⟨L1, l1, rfl, hJ1⟩ := mq_tR_spec hJ0
      clear hJ0
      obtain ⟨v2, l2, rfl, hJ2⟩ := mq_tI_spec hJ1
      clear hJ1
      obtain ⟨v3, l3, rfl, hJ3⟩ := mq_tI_spec hJ2
      clear hJ2
      obtain ⟨v4, l4, rfl, hJ4⟩ := mq_tI_spec hJ3
      clear hJ3
      obtain ⟨l5, rfl, hJ5⟩ := mq_tN_spec hJ4
      clear hJ4
      obtain ⟨rfl, hJz⟩ := mq_t0_spec hJ5
      clear hJ5
      obtain ⟨rfl, rfl, rfl, rfl, hc1, hc2, hc3, hc4, hm0, hm1⟩ := hJz
      intro hbk hrl
      obtain ⟨⟨hl2a, hl2b⟩, ⟨hl3a, hl3b⟩, ⟨hl4a, hl4b⟩, -⟩ := hrl
      repeat' (first | refine And.intro ?_ ?_ | intro _)
      all_goals first | omega | rfl | exact trivial | (simp [mq_up] at * <;> omega)
    exact fun _ h => absurd h List.not_mem_nil
theorem mw0_reachedAt : mq_mlA cq_reachedAt 0 := ⟨kw_335, ⟨by decide +kernel, by decide +kernel⟩, by decide +kernel, kw_336, kw_337, kw_298, 50, by decide +kernel, fun as ρ μ h => by obtain ⟨nw, sp, tl, tx, al⟩ := ρ; obtain ⟨t, e, _⟩ := mq_pZ_spec h; exact ⟨0, t, e⟩⟩
def pq_followTrain : List mq_E := [(0, false, .aload 0), (1, false, .invokeinterface 0 1), (4, false, .invokeinterface 2 4), (7, false, .iload 2), (8, false, .iaload), (9, false, .aload 0), (10, false, .invokeinterface 0 9), (13, false, .aload 0), (14, false, .invokeinterface 0 2), (17, false, .iload 2), (18, false, .iaload), (19, false, .fsub), (20, false, .f2l), (23, false, .istore 3), (24, false, .aload 0), (25, false, .aload 1), (26, false, .iload 2), (27, false, .aload 0), (28, false, .invokeinterface 0 2), (31, false, .iload 2), (32, false, .iaload), (33, false, .iload 3), (34, false, .fadd), (35, false, .invokestatic 0), (38, false, .aload 0), (39, false, .invokeinterface 0 6), (42, false, .ifCond .ne (Int.ofNat 56)), (45, false, .aload 0), (46, false, .invokeinterface 0 8), (49, false, .ifCond .ne (Int.ofNat 56)), (52, false, .iconst 1), (53, false, .goto (Int.ofNat 57)), (56, false, .iconst 0), (57, false, .istore 4), (59, false, .iconst 0), (60, false, .istore 5), (62, true, .iload 5), (64, false, .iload 3), (65, false, .if_icmp .ge (Int.ofNat 136)), (68, false, .iload 4), (70, false, .ifCond .ne (Int.ofNat 136)), (73, false, .aload 0), (74, false, .aload 1), (75, false, .aload 0), (76, false, .invokeinterface 0 2), (79, false, .iload 2), (80, false, .iaload), (81, false, .iload 5), (83, false, .fadd), (84, false, .aload 0), (85, false, .invokeinterface 0 1), (88, false, .iload 2), (89, false, .iload 5), (91, false, .invokestatic 1), (94, false, .invokestatic 2), (97, false, .istore 6), (99, false, .iload 6), (101, false, .iconst (-1)), (102, false, .if_icmp .eq (Int.ofNat 130)), (105, false, .aload 0), (106, false, .aload 0), (107, false, .invokeinterface 0 2), (110, false, .iload 2), (111, false, .iaload), (112, false, .iload 5), (114, false, .fadd), (115, false, .multianewarray 0 9), (118, false, .aload 0), (119, false, .iload 2), (120, false, .multianewarray 0 10), (123, false, .aload 0), (124, false, .iload 6), (126, false, .multianewarray 0 11), (129, false, .return_), (130, false, .iinc 5 1), (133, false, .goto (Int.ofNat 62)), (136, false, .return_)]
def cq_followTrain : mq_C := ((yX0_followTrain, cX0_followTrain, 7, none, { frames := 3, cells := 0, slots := 0, locals := 69 }), (3, 0, 0, 0), 55169095435288576, (fun as ρ μ => match ρ with
  | (nw, sp, tl, tx, al) => mq_pZ as 50 fun as => mq_pR as 2 fun L as => mq_pI as fun t as => mq_p0 as (0 ≤ t ∧ t ≤ 4)),
  (fun as ρ μ r ρ' μ' => match as, ρ, ρ' with
  | [.inr (.inr (some (_, _))), .inr (.inr (some (_, L))), .inl t], (nw, sp, tl, tx, al), (nw', sp', tl', tx', al') => []
  | _, _, _ => []))
def kq_followTrain : List mq_V → mq_R → mq_M → List mq_Cu := fun as ρ μ => match as, ρ with
  | [.inr (.inr (some (_, _))), .inr (.inr (some (_, L))), .inl t], (nw, sp, tl, tx, al) => [(62, [true, true, true, true, true, true, false], fun N l st ρ' μ' cs => mq_tZ l 50 fun l => mq_tR l 2 fun L1 l => mq_tI l fun v2 l => mq_tI l fun v3 l => mq_tI l fun v4 l => mq_tI l fun v5 l => mq_tN l fun l => mq_t0 l (st = [] ∧ ρ' = (nw, sp, tl, tx, al) ∧ cs = 0 ∧ L1 = L ∧ v2 = t ∧ 0 ≤ v5 ∧ v5 ≤ 403 ∧ v3 ≤ 403 ∧ 0 ≤ (404 - v5 : Int) ∧ (404 - v5 : Int) < (N : Int)))]
  | _, _ => []
set_option maxHeartbeats 16000000 in
set_option maxRecDepth 100000 in
theorem vq_followTrain (lc : Launch) (h_lookAhead : mq_Ct lc cq_lookAhead) (h_frontOf : mq_Ct lc cq_frontOf) (h_reachedAt : mq_Ct lc cq_reachedAt) : mq_Ct lc cq_followTrain := by
  refine mq_method (lc := lc) (P := pq_followTrain) (cl := [cq_lookAhead, cq_frontOf, cq_reachedAt]) (T := ([(47, 0, 1), (76, 2, 4), (34, 0, 9), (9, 0, 2), (24, 0, 6), (31, 0, 8), (37, 0, 10), (40, 0, 11)], [], [], [(87, 0, 0), (91, 1, 0), (94, 2, 0)], [], [(81, false)])) (fuel := 400) (cuts := kq_followTrain) (by decide) rfl ⟨rfl, rfl⟩ (List.forall_mem_cons.mpr ⟨h_lookAhead, (List.forall_mem_cons.mpr ⟨h_frontOf, (List.forall_mem_cons.mpr ⟨h_reachedAt, (fun _ h => absurd h List.not_mem_nil)⟩)⟩)⟩) ⟨(List.forall_mem_cons.mpr ⟨⟨_, rfl, by decide, kw_291⟩, (List.forall_mem_cons.mpr ⟨⟨_, rfl, by decide, kw_292⟩, (List.forall_mem_cons.mpr ⟨⟨_, rfl, by decide, kw_324⟩, (List.forall_mem_cons.mpr ⟨⟨_, rfl, by decide, kw_282⟩, (List.forall_mem_cons.mpr ⟨⟨_, rfl, by decide, kw_283⟩, (List.forall_mem_cons.mpr ⟨⟨_, rfl, by decide, kw_284⟩, (List.forall_mem_cons.mpr ⟨⟨_, rfl, by decide, kw_325⟩, (List.forall_mem_cons.mpr ⟨⟨_, rfl, by decide, kw_326⟩, (fun _ h => absurd h List.not_mem_nil)⟩)⟩)⟩)⟩)⟩)⟩)⟩)⟩), (fun _ h => absurd h List.not_mem_nil), (fun _ h => absurd h List.not_mem_nil), (List.forall_mem_cons.mpr ⟨mq_ml0 rfl mw0_lookAhead kw_330, (List.forall_mem_cons.mpr ⟨mq_ml0 rfl mw0_frontOf kw_334, (List.forall_mem_cons.mpr ⟨mq_ml0 rfl mw0_reachedAt kw_338, (fun _ h => absurd h List.not_mem_nil)⟩)⟩)⟩), (fun _ h => absurd h List.not_mem_nil), (List.forall_mem_cons.mpr ⟨⟨kw_339, kw_43, kw_44, kw_45⟩, (fun _ h => absurd h List.not_mem_nil)⟩)⟩ (by decide +kernel) ⟨_, _, rfl⟩ ?_ ?_ ?_ ?_
  · intro as ρ μ h
    obtain ⟨nw, sp, tl, tx, al⟩ := ρ
    obtain ⟨as0, rfl, h0⟩ := mq_pZ_spec h
    clear h
    obtain ⟨L, as1, rfl, h1⟩ := mq_pR_spec h0
    clear h0
    obtain ⟨t, as2, rfl, h2⟩ := mq_pI_spec h1
    clear h1
    obtain ⟨rfl, hp⟩ := mq_p0_spec h2
    clear h2
    obtain ⟨hp0, hp1⟩ := hp
    rfl
  · intro as ρ μ h
    obtain ⟨nw, sp, tl, tx, al⟩ := ρ
    obtain ⟨as0, rfl, h0⟩ := mq_pZ_spec h
    clear h
    obtain ⟨L, as1, rfl, h1⟩ := mq_pR_spec h0
    clear h0
    obtain ⟨t, as2, rfl, h2⟩ := mq_pI_spec h1
    clear h1
    obtain ⟨rfl, hp⟩ := mq_p0_spec h2
    clear h2
    obtain ⟨hp0, hp1⟩ := hp
    intro hrg
    obtain ⟨⟨ha2a, ha2b⟩, -⟩ := hrg
    intro hbk
    have e0 : mq_l0 ([.inr (.inr (some (50, 0))), .inr (.inr (some (2, L))), .inl t] : List mq_V) 7 = [some (.inr (.inr (some (50, 0)))), some (.inr (.inr (some (2, L)))), some (.inl t), none, none, none, none] := rfl
    rw [e0]
    repeat' (first | refine And.intro ?_ ?_ | intro _)
    all_goals first | omega | rfl | exact trivial | (simp [mq_up] at * <;> omega)
  · intro as ρ μ h
    obtain ⟨nw, sp, tl, tx, al⟩ := ρ
    obtain ⟨as0, rfl, h0⟩ := mq_pZ_spec h
    clear h
    obtain ⟨L, as1, rfl, h1⟩ := mq_pR_spec h0
    clear h0
    obtain ⟨t, as2, rfl, h2⟩ := mq_pI_spec h1
    clear h1
    obtain ⟨rfl, hp⟩ := mq_p0_spec h2
    clear h2
    obtain ⟨hp0, hp1⟩ := hp
    refine List.forall_mem_cons.mpr ⟨?_, ?_⟩
    · intro l st ρ' μ' cs hJ
      obtain ⟨l0, rfl, hJ0⟩ := mq_tZ_spec hJ
      clear hJ
      obtain ⟨L1, l1, rfl, hJ1⟩ := mq_tR_spec hJ0
      clear hJ0
      obtain ⟨v2, l2, rfl, hJ2⟩ := mq_tI_spec hJ1
      clear hJ1
      obtain ⟨v3, l3, rfl, hJ3⟩ := mq_tI_spec hJ2
      clear hJ2
      obtain ⟨v4, l4, rfl, hJ4⟩ := mq_tI_spec hJ3
      clear hJ3
      obtain ⟨v5, l5, rfl, hJ5⟩ := mq_tI_spec hJ4
      clear hJ4
      obtain ⟨l6, rfl, hJ6⟩ := mq_tN_spec hJ5
      clear hJ5
      obtain ⟨rfl, hJz⟩ := mq_t0_spec hJ6
      clear hJ6
      obtain ⟨rfl, rfl, rfl, rfl, hc1, hc2, hc3, hc4, hm0, hm1⟩ := hJz
      omega
    exact fun _ h => absurd h List.not_mem_nil
  · intro as ρ μ h
    obtain ⟨nw, sp, tl, tx, al⟩ := ρ
    obtain ⟨as0, rfl, h0⟩ := mq_pZ_spec h
    clear h
    obtain ⟨L, as1, rfl, h1⟩ := mq_pR_spec h0
    clear h0
    obtain ⟨t, as2, rfl, h2⟩ := mq_pI_spec h1
    clear h1
    obtain ⟨rfl, hp⟩ := mq_p0_spec h2
    clear h2
    obtain ⟨hp0, hp1⟩ := hp
    intro hrg
    obtain ⟨⟨ha2a, ha2b⟩, -⟩ := hrg
    refine List.forall_mem_cons.mpr ⟨?_, ?_⟩
    · intro N l st ρ' μ' cs hJ
      obtain ⟨l0, rfl, hJ0⟩ := mq_tZ_spec hJ
      clear hJ
      obtain ⟨L1, l1, rfl, hJ1⟩ := mq_tR_spec hJ0
      clear hJ0
      obtain ⟨v2, l2, rfl, hJ2⟩ := mq_tI_spec hJ1
      clear hJ1
      obtain ⟨v3, l3, rfl, hJ3⟩ := mq_tI_spec hJ2
      clear hJ2
      obtain ⟨v4, l4, rfl, hJ4⟩ := mq_tI_spec hJ3
      clear hJ3
      obtain ⟨v5, l5, rfl, hJ5⟩ := mq_tI_spec hJ4
      clear hJ4
      obtain ⟨l6, rfl, hJ6⟩ := mq_tN_spec hJ5
      clear hJ5
      obtain ⟨rfl, hJz⟩ := mq_t0_spec hJ6
      clear hJ6
      obtain ⟨rfl, rfl, rfl, rfl, hc1, hc2, hc3, hc4, hm0, hm1⟩ := hJz
      intro hbk hrl
      obtain ⟨⟨hl2a, hl2b⟩, ⟨hl3a, hl3b⟩, ⟨hl4a, hl4b⟩, ⟨hl5a, hl5b⟩, -⟩ := hrl
      repeat' (first | refine And.intro ?_ ?_ | intro _)
      all_goals first | omega | rfl | exact trivial | (simp [mq_up] at * <;> omega)
    exact fun _ h => absurd h List.not_mem_nil
theorem mw0_followTrain : mq_mlA cq_followTrain 0 := ⟨kw_346, ⟨by decide +kernel, by decide +kernel⟩, by decide +kernel, kw_347, kw_348, kw_298, 50, by decide +kernel, fun as ρ μ h => by obtain ⟨nw, sp, tl, tx, al⟩ := ρ; obtain ⟨t, e, _⟩ := mq_pZ_spec h; exact ⟨0, t, e⟩⟩
def pq_find : List mq_E := [(0, false, .aload 0), (1, false, .invokeinterface 0 0), (4, false, .invokeinterface 9 4), (7, false, .astore 1), (8, false, .aload 1), (9, false, .ifnonnull (Int.ofNat 14)), (12, false, .iconst 0), (13, false, .ireturn), (14, false, .aload 0), (15, false, .aload 1), (16, false, .invokestatic 0), (19, false, .aload 0), (20, false, .iconst 1000000), (22, false, .multianewarray 0 9), (25, false, .iconst 0), (26, false, .istore 2), (27, true, .iload 2), (28, false, .aload 1), (29, false, .invokeinterface 3 7), (32, false, .invokeinterface 6 3), (35, false, .if_icmp .ge (Int.ofNat 50)), (38, false, .aload 0), (39, false, .aload 1), (40, false, .iload 2), (41, false, .invokestatic 1), (44, false, .iinc 2 1), (47, false, .goto (Int.ofNat 27)), (50, false, .aload 0), (51, false, .invokeinterface 0 9), (54, false, .iconst 1000000), (56, false, .if_icmp .eq (Int.ofNat 63)), (59, false, .iconst 1), (60, false, .goto (Int.ofNat 64)), (63, false, .iconst 0), (64, false, .ireturn)]
def cq_find : mq_C := ((yX0_find, cX0_find, 3, (some .boolean), { frames := 4, cells := 0, slots := 0, locals := 95 }), (1, 1, 0, 0), 70931694131085312, (fun as ρ μ => match ρ with
  | (nw, sp, tl, tx, al) => mq_pZ as 50 fun as => mq_p0 as (True)),
  (fun as ρ μ r ρ' μ' => match as, ρ, ρ' with
  | [.inr (.inr (some (_, _)))], (nw, sp, tl, tx, al), (nw', sp', tl', tx', al') => [0 ≤ r, r ≤ 1]
  | _, _, _ => []))
def kq_find : List mq_V → mq_R → mq_M → List mq_Cu := fun as ρ μ => match as, ρ with
  | [.inr (.inr (some (_, _)))], (nw, sp, tl, tx, al) => [(27, [true, true, true], fun N l st ρ' μ' cs => mq_tZ l 50 fun l => mq_tR l 2 fun L1 l => mq_tI l fun v2 l => mq_t0 l (st = [] ∧ ρ' = (nw, sp, tl, tx, al) ∧ cs = 0 ∧ 0 ≤ v2 ∧ v2 ≤ 5 ∧ 0 ≤ (5 - v2 : Int) ∧ (5 - v2 : Int) < (N : Int)))]
  | _, _ => []
set_option maxHeartbeats 16000000 in
set_option maxRecDepth 100000 in
theorem vq_find (lc : Launch) (h_setTimes : mq_Ct lc cq_setTimes) (h_followTrain : mq_Ct lc cq_followTrain) : mq_Ct lc cq_find := by
  refine mq_method (lc := lc) (P := pq_find) (cl := [cq_setTimes, cq_followTrain]) (T := ([(43, 0, 0), (51, 9, 4), (34, 0, 9), (62, 3, 7), (67, 6, 3)], [(61, 1000000)], [], [(57, 0, 0), (72, 1, 0)], [], [])) (fuel := 400) (cuts := kq_find) (by decide) rfl ⟨rfl, rfl⟩ (List.forall_mem_cons.mpr ⟨h_setTimes, (List.forall_mem_cons.mpr ⟨h_followTrain, (fun _ h => absurd h List.not_mem_nil)⟩)⟩) ⟨(List.forall_mem_cons.mpr ⟨⟨_, rfl, by decide, kw_340⟩, (List.forall_mem_cons.mpr ⟨⟨_, rfl, by decide, kw_341⟩, (List.forall_mem_cons.mpr ⟨⟨_, rfl, by decide, kw_324⟩, (List.forall_mem_cons.mpr ⟨⟨_, rfl, by decide, kw_290⟩, (List.forall_mem_cons.mpr ⟨⟨_, rfl, by decide, kw_286⟩, (fun _ h => absurd h List.not_mem_nil)⟩)⟩)⟩)⟩)⟩), (List.forall_mem_cons.mpr ⟨kw_301, (fun _ h => absurd h List.not_mem_nil)⟩), (fun _ h => absurd h List.not_mem_nil), (List.forall_mem_cons.mpr ⟨mq_ml0 rfl mw0_setTimes kw_345, (List.forall_mem_cons.mpr ⟨mq_ml0 rfl mw0_followTrain kw_349, (fun _ h => absurd h List.not_mem_nil)⟩)⟩), (fun _ h => absurd h List.not_mem_nil), (fun _ h => absurd h List.not_mem_nil)⟩ (by decide +kernel) ⟨_, _, rfl⟩ ?_ ?_ ?_ ?_
  · intro as ρ μ h
    obtain ⟨nw, sp, tl, tx, al⟩ := ρ
    obtain ⟨as0, rfl, h0⟩ := mq_pZ_spec h
    clear h
    obtain ⟨rfl, hp⟩ := mq_p0_spec h0
    clear h0
    rfl
  · intro as ρ μ h
    obtain ⟨nw, sp, tl, tx, al⟩ := ρ
    obtain ⟨as0, rfl, h0⟩ := mq_pZ_spec h
    clear h
    obtain ⟨rfl, hp⟩ := mq_p0_spec h0
    clear h0
    intro hrg
    intro hbk
    have e0 : mq_l0 ([.inr (.inr (some (50, 0)))] : List mq_V) 3 = [some (.inr (.inr (some (50, 0)))), none, none] := rfl
    rw [e0]
    repeat' (first | refine And.intro ?_ ?_ | intro _)
    all_goals first | omega | rfl | exact trivial | (simp [mq_up] at * <;> omega)
  · intro as ρ μ h
    obtain ⟨nw, sp, tl, tx, al⟩ := ρ
    obtain ⟨as0, rfl, h0⟩ := mq_pZ_spec h
    clear h
    obtain ⟨rfl, hp⟩ := mq_p0_spec h0
    clear h0
    refine List.forall_mem_cons.mpr ⟨?_, ?_⟩
    · intro l st ρ' μ' cs hJ
      obtain ⟨l0, rfl, hJ0⟩ := mq_tZ_spec hJ
      clear hJ
      obtain ⟨L1, l1, rfl, hJ1⟩ := mq_tR_spec hJ0
      clear hJ0
      obtain ⟨v2, l2, rfl, hJ2⟩ := mq_tI_spec hJ1
      clear hJ1
      obtain ⟨rfl, hJz⟩ := mq_t0_spec hJ2
      clear hJ2
      obtain ⟨rfl, rfl, rfl, hc0, hc1, hm0, hm1⟩ := hJz
      omega
    exact fun _ h => absurd h List.not_mem_nil
  · intro as ρ μ h
    obtain ⟨nw, sp, tl, tx, al⟩ := ρ
    obtain ⟨as0, rfl, h0⟩ := mq_pZ_spec h
    clear h
    obtain ⟨rfl, hp⟩ := mq_p0_spec h0
    clear h0
    intro hrg
    refine List.forall_mem_cons.mpr ⟨?_, ?_⟩
    · intro N l st ρ' μ' cs hJ
      obtain ⟨l0, rfl, hJ0⟩ := mq_tZ_spec hJ
      clear hJ
      obtain ⟨L1, l1, rfl, hJ1⟩ := mq_tR_spec hJ0
      clear hJ0
      obtain ⟨v2, l2, rfl, hJ2⟩ := mq_tI_spec hJ1
      clear hJ1
      obtain ⟨rfl, hJz⟩ := mq_t0_spec hJ2
      clear hJ2
      obtain ⟨rfl, rfl, rfl, hc0, hc1, hm0, hm1⟩ := hJz
      intro hbk hrl
      obtain ⟨⟨hl2a, hl2b⟩, -⟩ := hrl
      repeat' (first | refine And.intro ?_ ?_ | intro _)
      all_goals first | omega | rfl | exact trivial | (simp [mq_up] at * <;> omega)
    exact fun _ h => absurd h List.not_mem_nil
theorem mw0_find : mq_mlA cq_find 0 := ⟨kw_676, ⟨by decide +kernel, by decide +kernel⟩, by decide +kernel, kw_677, kw_678, kw_298, 50, by decide +kernel, fun as ρ μ h => by obtain ⟨nw, sp, tl, tx, al⟩ := ρ; obtain ⟨t, e, _⟩ := mq_pZ_spec h; exact ⟨0, t, e⟩⟩
def pq_concerns : List mq_E := [(0, false, .aload 0), (1, false, .invokeinterface 0 10), (4, false, .iload 1), (5, false, .if_icmp .eq (Int.ofNat 19)), (8, false, .aload 0), (9, false, .invokeinterface 0 11), (12, false, .iconst 100), (14, false, .iload 1), (15, false, .fadd), (16, false, .if_icmp .ne (Int.ofNat 21)), (19, false, .iconst 1), (20, false, .ireturn), (21, false, .aload 0), (22, false, .invokeinterface 0 0), (25, false, .invokeinterface 9 4), (28, false, .ifnull (Int.ofNat 77)), (31, false, .aload 0), (32, false, .invokeinterface 0 0), (35, false, .invokeinterface 9 4), (38, false, .invokeinterface 3 8), (41, false, .aload 0), (42, false, .invokeinterface 0 11), (45, false, .invokestatic 0), (48, false, .ifCond .eq (Int.ofNat 77)), (51, false, .aload 0), (52, false, .invokeinterface 0 0), (55, false, .invokeinterface 9 4), (58, false, .invokeinterface 3 8), (61, false, .aload 0), (62, false, .invokeinterface 0 11), (65, false, .iconst 0), (66, false, .invokestatic 1), (69, false, .iload 1), (70, false, .if_icmp .ne (Int.ofNat 77)), (73, false, .iconst 1), (74, false, .goto (Int.ofNat 78)), (77, false, .iconst 0), (78, false, .ireturn)]
def cq_concerns : mq_C := ((yX0_concerns, cX0_concerns, 2, (some .boolean), { frames := 1, cells := 0, slots := 0, locals := 22 }), (2, 1, 0, 0), 0, (fun as ρ μ => match ρ with
  | (nw, sp, tl, tx, al) => mq_pZ as 50 fun as => mq_pI as fun t as => mq_p0 as (True)),
  (fun as ρ μ r ρ' μ' => match as, ρ, ρ' with
  | [.inr (.inr (some (_, _))), .inl t], (nw, sp, tl, tx, al), (nw', sp', tl', tx', al') => [0 ≤ r, r ≤ 1]
  | _, _, _ => []))
def kq_concerns : List mq_V → mq_R → mq_M → List mq_Cu := fun as ρ μ => match as, ρ with
  | [.inr (.inr (some (_, _))), .inl t], (nw, sp, tl, tx, al) => []
  | _, _ => []
set_option maxHeartbeats 16000000 in
set_option maxRecDepth 100000 in
theorem vq_concerns (lc : Launch) (h_has_coaches : mq_Ct lc cq_has_coaches) (h_get_coaches : mq_Ct lc cq_get_coaches) : mq_Ct lc cq_concerns := by
  refine mq_method (lc := lc) (P := pq_concerns) (cl := [cq_has_coaches, cq_get_coaches]) (T := ([(37, 0, 10), (40, 0, 11), (43, 0, 0), (51, 9, 4), (98, 3, 8)], [], [], [(133, 0, 0), (100, 1, 0)], [], [])) (fuel := 400) (cuts := kq_concerns) (by decide) rfl ⟨rfl, rfl⟩ (List.forall_mem_cons.mpr ⟨h_has_coaches, (List.forall_mem_cons.mpr ⟨h_get_coaches, (fun _ h => absurd h List.not_mem_nil)⟩)⟩) ⟨(List.forall_mem_cons.mpr ⟨⟨_, rfl, by decide, kw_325⟩, (List.forall_mem_cons.mpr ⟨⟨_, rfl, by decide, kw_326⟩, (List.forall_mem_cons.mpr ⟨⟨_, rfl, by decide, kw_340⟩, (List.forall_mem_cons.mpr ⟨⟨_, rfl, by decide, kw_341⟩, (List.forall_mem_cons.mpr ⟨⟨_, rfl, by decide, kw_285⟩, (fun _ h => absurd h List.not_mem_nil)⟩)⟩)⟩)⟩)⟩), (fun _ h => absurd h List.not_mem_nil), (fun _ h => absurd h List.not_mem_nil), (List.forall_mem_cons.mpr ⟨mq_ml0 rfl mw0_has_coaches kw_350, (List.forall_mem_cons.mpr ⟨mq_ml0 rfl mw0_get_coaches kw_294, (fun _ h => absurd h List.not_mem_nil)⟩)⟩), (fun _ h => absurd h List.not_mem_nil), (fun _ h => absurd h List.not_mem_nil)⟩ (by decide +kernel) ⟨_, _, rfl⟩ ?_ ?_ ?_ ?_
  · intro as ρ μ h
    obtain ⟨nw, sp, tl, tx, al⟩ := ρ
    obtain ⟨as0, rfl, h0⟩ := mq_pZ_spec h
    clear h
    obtain ⟨t, as1, rfl, h1⟩ := mq_pI_spec h0
    clear h0
    obtain ⟨rfl, hp⟩ := mq_p0_spec h1
    clear h1
    rfl
  · intro as ρ μ h
    obtain ⟨nw, sp, tl, tx, al⟩ := ρ
    obtain ⟨as0, rfl, h0⟩ := mq_pZ_spec h
    clear h
    obtain ⟨t, as1, rfl, h1⟩ := mq_pI_spec h0
    clear h0
    obtain ⟨rfl, hp⟩ := mq_p0_spec h1
    clear h1
    intro hrg
    obtain ⟨⟨ha1a, ha1b⟩, -⟩ := hrg
    intro hbk
    have e0 : mq_l0 ([.inr (.inr (some (50, 0))), .inl t] : List mq_V) 2 = [some (.inr (.inr (some (50, 0)))), some (.inl t)] := rfl
    rw [e0]
    repeat' (first | refine And.intro ?_ ?_ | intro _)
    all_goals first | omega | rfl | exact trivial | (simp [mq_up] at * <;> omega)
  · intro as ρ μ h
    obtain ⟨nw, sp, tl, tx, al⟩ := ρ
    obtain ⟨as0, rfl, h0⟩ := mq_pZ_spec h
    clear h
    obtain ⟨t, as1, rfl, h1⟩ := mq_pI_spec h0
    clear h0
    obtain ⟨rfl, hp⟩ := mq_p0_spec h1
    clear h1
    exact fun _ h => absurd h List.not_mem_nil
  · intro as ρ μ h
    obtain ⟨nw, sp, tl, tx, al⟩ := ρ
    obtain ⟨as0, rfl, h0⟩ := mq_pZ_spec h
    clear h
    obtain ⟨t, as1, rfl, h1⟩ := mq_pI_spec h0
    clear h0
    obtain ⟨rfl, hp⟩ := mq_p0_spec h1
    clear h1
    intro hrg
    obtain ⟨⟨ha1a, ha1b⟩, -⟩ := hrg
    exact fun _ h => absurd h List.not_mem_nil
theorem mw0_concerns : mq_mlA cq_concerns 0 := ⟨kw_693, ⟨by decide +kernel, by decide +kernel⟩, by decide +kernel, kw_694, kw_695, kw_298, 50, by decide +kernel, fun as ρ μ h => by obtain ⟨nw, sp, tl, tx, al⟩ := ρ; obtain ⟨t, e, _⟩ := mq_pZ_spec h; exact ⟨0, t, e⟩⟩
