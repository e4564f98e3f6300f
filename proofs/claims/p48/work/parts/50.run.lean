def pq_m_reaches : List mq_E := [(0, false, .iconst 0), (1, false, .istore 2), (2, true, .iload 2), (3, false, .aload 0), (4, false, .invokeinterface 11 19), (7, false, .iconst 6), (9, false, .jsr 6), (10, false, .if_icmp .ge (Int.ofNat 70)), (13, false, .aload 0), (14, false, .aload 0), (15, false, .invokeinterface 11 26), (18, false, .iconst 5), (19, false, .iload 2), (20, false, .imul), (21, false, .jsr 0), (22, false, .iload 1), (23, false, .invokestatic 0), (26, false, .ifCond .eq (Int.ofNat 64)), (29, false, .aload 0), (30, false, .iload 2), (31, false, .invokestatic 1), (34, false, .ifCond .eq (Int.ofNat 64)), (37, false, .aload 0), (38, false, .invokeinterface 11 36), (41, false, .iload 1), (42, false, .iaload), (43, false, .aload 0), (44, false, .invokeinterface 11 42), (47, false, .iload 2), (48, false, .iaload), (49, false, .aload 0), (50, false, .aload 0), (51, false, .iload 2), (52, false, .invokestatic 2), (55, false, .invokestatic 3), (58, false, .isub), (59, false, .if_icmp .lt (Int.ofNat 64)), (62, false, .iload 2), (63, false, .ireturn), (64, false, .iinc 2 1), (67, false, .goto (Int.ofNat 2)), (70, false, .iconst 0), (71, false, .istore 2), (72, true, .iload 2), (73, false, .aload 0), (74, false, .invokeinterface 11 19), (77, false, .iconst 5), (78, false, .jsr 5), (79, false, .if_icmp .ge (Int.ofNat 138)), (82, false, .aload 0), (83, false, .invokeinterface 11 38), (86, false, .iload 2), (87, false, .baload), (88, false, .ifCond .eq (Int.ofNat 132)), (91, false, .aload 0), (92, false, .iload 2), (93, false, .iload 1), (94, false, .invokestatic 0), (97, false, .ifCond .eq (Int.ofNat 132)), (100, false, .aload 0), (101, false, .invokeinterface 11 36), (104, false, .iload 1), (105, false, .iaload), (106, false, .aload 0), (107, false, .invokeinterface 11 36), (110, false, .iload 2), (111, false, .iaload), (112, false, .aload 0), (113, false, .iload 2), (114, false, .aload 0), (115, false, .invokeinterface 11 37), (118, false, .iload 2), (119, false, .iaload), (120, false, .invokestatic 4), (123, false, .isub), (124, false, .if_icmp .lt (Int.ofNat 132)), (127, false, .iconst 100), (129, false, .iload 2), (130, false, .iadd), (131, false, .ireturn), (132, false, .iinc 2 1), (135, false, .goto (Int.ofNat 72)), (138, false, .iconst (-1)), (139, false, .ireturn)]
def cq_m_reaches : mq_C := ((yX11_reaches, cX11_reaches, 3, (some .int), { frames := 4, cells := 0, slots := 0, locals := 86 }), (2, 1, 0, 0), 0, (fun as ρ μ => match ρ with
  | (nw, sp, tl, tx, al) => mq_pZ as 60 fun as => mq_pI as fun t as => mq_p0 as (0 ≤ t ∧ t ≤ 4 ∧ sq_bx (sq_pl (μ (69, 0)) (μ (76, 0)) 0) ∧ sq_bx (sq_GT μ 5))),
  (fun as ρ μ r ρ' μ' => match as, ρ, ρ' with
  | [.inr (.inr (some (_, _))), .inl t], (nw, sp, tl, tx, al), (nw', sp', tl', tx', al') => [-1 ≤ r, r ≤ 104]
  | _, _, _ => []))
def kq_m_reaches : List mq_V → mq_R → mq_M → List mq_Cu := fun as ρ μ => match as, ρ with
  | [.inr (.inr (some (_, _))), .inl t], (nw, sp, tl, tx, al) => [(2, [true, true, true], fun N l st ρ' μ' cs => mq_tZ l 60 fun l => mq_tI l fun v1 l => mq_tI l fun v2 l => mq_t0 l (st = [] ∧ ρ' = (nw, sp, tl, tx, al) ∧ cs = 0 ∧ v1 = t ∧ μ = μ' ∧ 0 ≤ v2 ∧ v2 ≤ 16 ∧ 0 ≤ (100 + 16 - v2 : Int) ∧ (100 + 16 - v2 : Int) < (N : Int))),
    (72, [true, true, true], fun N l st ρ' μ' cs => mq_tZ l 60 fun l => mq_tI l fun v1 l => mq_tI l fun v2 l => mq_t0 l (st = [] ∧ ρ' = (nw, sp, tl, tx, al) ∧ cs = 0 ∧ v1 = t ∧ μ = μ' ∧ 0 ≤ v2 ∧ v2 ≤ 5 ∧ 0 ≤ (5 - v2 : Int) ∧ (5 - v2 : Int) < (N : Int)))]
  | _, _ => []
set_option maxHeartbeats 16000000 in
set_option maxRecDepth 100000 in
theorem vq_m_reaches (lc : Launch) (h_m_isAhead : mq_Ct lc cq_m_isAhead) (h_m_isOnLine : mq_Ct lc cq_m_isOnLine) (h_m_kindOf : mq_Ct lc cq_m_kindOf) (h_m_lengthOf : mq_Ct lc cq_m_lengthOf) (h_m_longOf : mq_Ct lc cq_m_longOf) : mq_Ct lc cq_m_reaches := by
  refine mq_method (lc := lc) (P := pq_m_reaches) (cl := [cq_m_isAhead, cq_m_isOnLine, cq_m_kindOf, cq_m_lengthOf, cq_m_longOf]) (T := ([(40, 11, 19), (61, 11, 26), (81, 11, 36), (99, 11, 42), (87, 11, 38), (84, 11, 37)], [], [], [(446, 0, 0), (450, 1, 0), (398, 2, 0), (331, 3, 0), (425, 4, 0)], [], [])) (fuel := 400) (cuts := kq_m_reaches) (by decide) rfl ⟨rfl, rfl⟩ (List.forall_mem_cons.mpr ⟨h_m_isAhead, (List.forall_mem_cons.mpr ⟨h_m_isOnLine, (List.forall_mem_cons.mpr ⟨h_m_kindOf, (List.forall_mem_cons.mpr ⟨h_m_lengthOf, (List.forall_mem_cons.mpr ⟨h_m_longOf, (fun _ h => absurd h List.not_mem_nil)⟩)⟩)⟩)⟩)⟩) ⟨(List.forall_mem_cons.mpr ⟨⟨_, rfl, by decide, kw_837⟩, (List.forall_mem_cons.mpr ⟨⟨_, rfl, by decide, kw_867⟩, (List.forall_mem_cons.mpr ⟨⟨_, rfl, by decide, kw_1006⟩, (List.forall_mem_cons.mpr ⟨⟨_, rfl, by decide, kw_995⟩, (List.forall_mem_cons.mpr ⟨⟨_, rfl, by decide, kw_1008⟩, (List.forall_mem_cons.mpr ⟨⟨_, rfl, by decide, kw_1004⟩, (fun _ h => absurd h List.not_mem_nil)⟩)⟩)⟩)⟩)⟩)⟩), (fun _ h => absurd h List.not_mem_nil), (fun _ h => absurd h List.not_mem_nil), (List.forall_mem_cons.mpr ⟨mq_ml0 rfl mw0_m_isAhead kw_1022, (List.forall_mem_cons.mpr ⟨mq_ml0 rfl mw0_m_isOnLine kw_1026, (List.forall_mem_cons.mpr ⟨mq_ml0 rfl mw0_m_kindOf kw_967, (List.forall_mem_cons.mpr ⟨mq_ml0 rfl mw0_m_lengthOf kw_899, (List.forall_mem_cons.mpr ⟨mq_ml0 rfl mw0_m_longOf kw_982, (fun _ h => absurd h List.not_mem_nil)⟩)⟩)⟩)⟩)⟩), (fun _ h => absurd h List.not_mem_nil), (fun _ h => absurd h List.not_mem_nil)⟩ (by decide +kernel) ⟨_, _, rfl⟩ ?_ ?_ ?_ ?_
  · intro as ρ μ h
    obtain ⟨nw, sp, tl, tx, al⟩ := ρ
    obtain ⟨as0, rfl, h0⟩ := mq_pZ_spec h
    clear h
    obtain ⟨t, as1, rfl, h1⟩ := mq_pI_spec h0
    clear h0
    obtain ⟨rfl, hp⟩ := mq_p0_spec h1
    clear h1
    obtain ⟨hp0, hp1, hp2, hp3⟩ := hp
    rfl
  · intro as ρ μ h
    obtain ⟨nw, sp, tl, tx, al⟩ := ρ
    obtain ⟨as0, rfl, h0⟩ := mq_pZ_spec h
    clear h
    obtain ⟨t, as1, rfl, h1⟩ := mq_pI_spec h0
    clear h0
    obtain ⟨rfl, hp⟩ := mq_p0_spec h1
    clear h1
    obtain ⟨hp0, hp1, hp2, hp3⟩ := hp
    intro hrg
    obtain ⟨⟨ha1a, ha1b⟩, -⟩ := hrg
    intro hbk
    have hk0 : 0 ≤ μ (69, 0) 6 ∧ μ (69, 0) 6 ≤ 16 := hbk (69, 0) 6
    have hk1 : 0 ≤ μ (69, 0) 5 ∧ μ (69, 0) 5 ≤ 5 := hbk (69, 0) 5
    have e0 : mq_l0 ([.inr (.inr (some (60, 0))), .inl t] : List mq_V) 3 = [some (.inr (.inr (some (60, 0)))), some (.inl t), none] := rfl
    rw [e0]
    repeat' (first | refine And.intro ?_ ?_ | intro _)
    all_goals try simp only [Int.reduceToNat, Int.reduceAdd, mq_up_f, mq_up_s, mq_up_e, ne_eq, Nat.reduceEqDiff, not_false_eq_true, true_and, and_true, false_and, and_false, false_or, or_false, true_or, or_true, true_implies] at *
    all_goals first | omega | rfl | exact trivial | assumption
  · intro as ρ μ h
    obtain ⟨nw, sp, tl, tx, al⟩ := ρ
    obtain ⟨as0, rfl, h0⟩ := mq_pZ_spec h
    clear h
    obtain ⟨t, as1, rfl, h1⟩ := mq_pI_spec h0
    clear h0
    obtain ⟨rfl, hp⟩ := mq_p0_spec h1
    clear h1
    obtain ⟨hp0, hp1, hp2, hp3⟩ := hp
    refine List.forall_mem_cons.mpr ⟨?_, ?_⟩
    · intro l st ρ' μ' cs hJ
      obtain ⟨l0, rfl, hJ0⟩ := mq_tZ_spec hJ
      clear hJ
      obtain ⟨v1, l1, rfl, hJ1⟩ := mq_tI_spec hJ0
      clear hJ0
      obtain ⟨v2, l2, rfl, hJ2⟩ := mq_tI_spec hJ1
      clear hJ1
      obtain ⟨rfl, hJz⟩ := mq_t0_spec hJ2
      clear hJ2
      obtain ⟨rfl, rfl, rfl, hc0, rfl, hc2, hc3, hm0, hm1⟩ := hJz
      omega
    refine List.forall_mem_cons.mpr ⟨?_, ?_⟩
    · intro l st ρ' μ' cs hJ
      obtain ⟨l0, rfl, hJ0⟩ := mq_tZ_spec hJ
      clear hJ
      obtain ⟨v1, l1, rfl, hJ1⟩ := mq_tI_spec hJ0
      clear hJ0
      obtain ⟨v2, l2, rfl, hJ2⟩ := mq_tI_spec hJ1
      clear hJ1
      obtain ⟨rfl, hJz⟩ := mq_t0_spec hJ2
      clear hJ2
      obtain ⟨rfl, rfl, rfl, hc0, rfl, hc2, hc3, hm0, hm1⟩ := hJz
      omega
    exact fun _ h => absurd h List.not_mem_nil
  · intro as ρ μ h
    obtain ⟨nw, sp, tl, tx, al⟩ := ρ
    obtain ⟨as0, rfl, h0⟩ := mq_pZ_spec h
    clear h
    obtain ⟨t, as1, rfl, h1⟩ := mq_pI_spec h0
    clear h0
    obtain ⟨rfl, hp⟩ := mq_p0_spec h1
    clear h1
    obtain ⟨hp0, hp1, hp2, hp3⟩ := hp
    intro hrg
    obtain ⟨⟨ha1a, ha1b⟩, -⟩ := hrg
    refine List.forall_mem_cons.mpr ⟨?_, ?_⟩
    · intro N l st ρ' μ' cs hJ
      obtain ⟨l0, rfl, hJ0⟩ := mq_tZ_spec hJ
      clear hJ
      obtain ⟨v1, l1, rfl, hJ1⟩ := mq_tI_spec hJ0
      clear hJ0
      obtain ⟨v2, l2, rfl, hJ2⟩ := mq_tI_spec hJ1
      clear hJ1
      obtain ⟨rfl, hJz⟩ := mq_t0_spec hJ2
      clear hJ2
      obtain ⟨rfl, rfl, rfl, hc0, rfl, hc2, hc3, hm0, hm1⟩ := hJz
      intro hbk hrl
      have hk0 : 0 ≤ μ (69, 0) 6 ∧ μ (69, 0) 6 ≤ 16 := hbk (69, 0) 6
      have hk1 : 0 ≤ μ (69, 0) 5 ∧ μ (69, 0) 5 ≤ 5 := hbk (69, 0) 5
      obtain ⟨⟨hl1a, hl1b⟩, ⟨hl2a, hl2b⟩, -⟩ := hrl
      subst hc0
      repeat' (first | refine And.intro ?_ ?_ | intro _)
      all_goals try simp only [Int.reduceToNat, Int.reduceAdd, mq_up_f, mq_up_s, mq_up_e, ne_eq, Nat.reduceEqDiff, not_false_eq_true, true_and, and_true, false_and, and_false, false_or, or_false, true_or, or_true, true_implies] at *
      all_goals first | omega | rfl | exact trivial | assumption
    refine List.forall_mem_cons.mpr ⟨?_, ?_⟩
    · intro N l st ρ' μ' cs hJ
      obtain ⟨l0, rfl, hJ0⟩ := mq_tZ_spec hJ
      clear hJ
      obtain ⟨v1, l1, rfl, hJ1⟩ := mq_tI_spec hJ0
      clear hJ0
      obtain ⟨v2, l2, rfl, hJ2⟩ := mq_tI_spec hJ1
      clear hJ1
      obtain ⟨rfl, hJz⟩ := mq_t0_spec hJ2
      clear hJ2
      obtain ⟨rfl, rfl, rfl, hc0, rfl, hc2, hc3, hm0, hm1⟩ := hJz
      intro hbk hrl
      have hk0 : 0 ≤ μ (69, 0) 6 ∧ μ (69, 0) 6 ≤ 16 := hbk (69, 0) 6
      have hk1 : 0 ≤ μ (69, 0) 5 ∧ μ (69, 0) 5 ≤ 5 := hbk (69, 0) 5
      obtain ⟨⟨hl1a, hl1b⟩, ⟨hl2a, hl2b⟩, -⟩ := hrl
      subst hc0
      repeat' (first | refine And.intro ?_ ?_ | intro _)
      all_goals try simp only [Int.reduceToNat, Int.reduceAdd, mq_up_f, mq_up_s, mq_up_e, ne_eq, Nat.reduceEqDiff, not_false_eq_true, true_and, and_true, false_and, and_false, false_or, or_false, true_or, or_true, true_implies] at *
      all_goals first | omega | rfl | exact trivial | assumption | (have h9 := (sq_g hp3 v2 (by omega) (by omega)).1; omega)
    exact fun _ h => absurd h List.not_mem_nil
theorem mw0_m_reaches : mq_mlA cq_m_reaches 0 := ⟨kw_1030, ⟨by decide +kernel, by decide +kernel⟩, by decide +kernel, kw_1031, kw_1032, kw_771, 60, by decide +kernel, fun as ρ μ h => by obtain ⟨nw, sp, tl, tx, al⟩ := ρ; obtain ⟨t, e, _⟩ := mq_pZ_spec h; exact ⟨0, t, e⟩⟩
def pq_m_looks : List mq_E := [(0, false, .iconst 0), (1, false, .istore 2), (2, true, .iload 2), (3, false, .aload 0), (4, false, .invokeinterface 11 19), (7, false, .iconst 5), (8, false, .jsr 5), (9, false, .if_icmp .ge (Int.ofNat 60)), (12, false, .aload 0), (13, false, .invokeinterface 11 38), (16, false, .iload 2), (17, false, .baload), (18, false, .ifCond .ne (Int.ofNat 24)), (21, false, .goto (Int.ofNat 54)), (24, false, .aload 0), (25, false, .iload 2), (26, false, .invokestatic 0), (29, false, .istore 3), (30, false, .iload 3), (31, false, .iconst (-1)), (32, false, .if_icmp .ne (Int.ofNat 38)), (35, false, .goto (Int.ofNat 54)), (38, false, .aload 0), (39, false, .iload 1), (40, false, .multianewarray 11 49), (43, false, .aload 0), (44, false, .iload 2), (45, false, .multianewarray 11 50), (48, false, .aload 0), (49, false, .iload 3), (50, false, .multianewarray 11 51), (53, false, .return_), (54, false, .iinc 2 1), (57, false, .goto (Int.ofNat 2)), (60, false, .return_)]
def cq_m_looks : mq_C := ((yX11_looks, cX11_looks, 4, none, { frames := 5, cells := 0, slots := 0, locals := 108 }), (2, 0, 0, 0), 1152921504606846976, (fun as ρ μ => match ρ with
  | (nw, sp, tl, tx, al) => mq_pZ as 60 fun as => mq_pI as fun k as => mq_p0 as (0 ≤ k ∧ k ≤ 1200 ∧ sq_bx (sq_pl (μ (69, 0)) (μ (76, 0)) 0) ∧ sq_bx (sq_GT μ 5))),
  (fun as ρ μ r ρ' μ' => match as, ρ, ρ' with
  | [.inr (.inr (some (_, _))), .inl k], (nw, sp, tl, tx, al), (nw', sp', tl', tx', al') => [μ' (60, 0) 29 = μ (60, 0) 29, μ' (60, 0) 30 = μ (60, 0) 30]
  | _, _, _ => []))
def kq_m_looks : List mq_V → mq_R → mq_M → List mq_Cu := fun as ρ μ => match as, ρ with
  | [.inr (.inr (some (_, _))), .inl k], (nw, sp, tl, tx, al) => [(2, [true, true, true, false], fun N l st ρ' μ' cs => mq_tZ l 60 fun l => mq_tI l fun v1 l => mq_tI l fun v2 l => mq_tN l fun l => mq_t0 l (st = [] ∧ ρ' = (nw, sp, tl, tx, al) ∧ cs = 0 ∧ v1 = k ∧ μ = μ' ∧ 0 ≤ v2 ∧ v2 ≤ 5 ∧ 0 ≤ (5 - v2 : Int) ∧ (5 - v2 : Int) < (N : Int)))]
  | _, _ => []
set_option maxHeartbeats 16000000 in
set_option maxRecDepth 100000 in
theorem vq_m_looks (lc : Launch) (h_m_reaches : mq_Ct lc cq_m_reaches) : mq_Ct lc cq_m_looks := by
  refine mq_method (lc := lc) (P := pq_m_looks) (cl := [cq_m_reaches]) (T := ([(40, 11, 19), (87, 11, 38), (401, 11, 49), (404, 11, 50), (407, 11, 51)], [], [], [(443, 0, 0)], [], [])) (fuel := 400) (cuts := kq_m_looks) (by decide) rfl ⟨rfl, rfl⟩ (List.forall_mem_cons.mpr ⟨h_m_reaches, (fun _ h => absurd h List.not_mem_nil)⟩) ⟨(List.forall_mem_cons.mpr ⟨⟨_, rfl, by decide, kw_837⟩, (List.forall_mem_cons.mpr ⟨⟨_, rfl, by decide, kw_1008⟩, (List.forall_mem_cons.mpr ⟨⟨_, rfl, by decide, kw_1027⟩, (List.forall_mem_cons.mpr ⟨⟨_, rfl, by decide, kw_1028⟩, (List.forall_mem_cons.mpr ⟨⟨_, rfl, by decide, kw_1029⟩, (fun _ h => absurd h List.not_mem_nil)⟩)⟩)⟩)⟩)⟩), (fun _ h => absurd h List.not_mem_nil), (fun _ h => absurd h List.not_mem_nil), (List.forall_mem_cons.mpr ⟨mq_ml0 rfl mw0_m_reaches kw_1033, (fun _ h => absurd h List.not_mem_nil)⟩), (fun _ h => absurd h List.not_mem_nil), (fun _ h => absurd h List.not_mem_nil)⟩ (by decide +kernel) ⟨_, _, rfl⟩ ?_ ?_ ?_ ?_
  · intro as ρ μ h
    obtain ⟨nw, sp, tl, tx, al⟩ := ρ
    obtain ⟨as0, rfl, h0⟩ := mq_pZ_spec h
    clear h
    obtain ⟨k, as1, rfl, h1⟩ := mq_pI_spec h0
    clear h0
    obtain ⟨rfl, hp⟩ := mq_p0_spec h1
    clear h1
    obtain ⟨hp0, hp1, hp2, hp3⟩ := hp
    rfl
  · intro as ρ μ h
    obtain ⟨nw, sp, tl, tx, al⟩ := ρ
    obtain ⟨as0, rfl, h0⟩ := mq_pZ_spec h
    clear h
    obtain ⟨k, as1, rfl, h1⟩ := mq_pI_spec h0
    clear h0
    obtain ⟨rfl, hp⟩ := mq_p0_spec h1
    clear h1
    obtain ⟨hp0, hp1, hp2, hp3⟩ := hp
    intro hrg
    obtain ⟨⟨ha1a, ha1b⟩, -⟩ := hrg
    intro hbk
    have hk0 : 0 ≤ μ (69, 0) 5 ∧ μ (69, 0) 5 ≤ 5 := hbk (69, 0) 5
    have e0 : mq_l0 ([.inr (.inr (some (60, 0))), .inl k] : List mq_V) 4 = [some (.inr (.inr (some (60, 0)))), some (.inl k), none, none] := rfl
    rw [e0]
    repeat' (first | refine And.intro ?_ ?_ | intro _)
    all_goals try simp only [Int.reduceToNat, Int.reduceAdd, mq_up_f, mq_up_s, mq_up_e, ne_eq, Nat.reduceEqDiff, not_false_eq_true, true_and, and_true, false_and, and_false, false_or, or_false, true_or, or_true, true_implies] at *
    all_goals first | omega | rfl | exact trivial | assumption
  · intro as ρ μ h
    obtain ⟨nw, sp, tl, tx, al⟩ := ρ
    obtain ⟨as0, rfl, h0⟩ := mq_pZ_spec h
    clear h
    obtain ⟨k, as1, rfl, h1⟩ := mq_pI_spec h0
    clear h0
    obtain ⟨rfl, hp⟩ := mq_p0_spec h1
    clear h1
    obtain ⟨hp0, hp1, hp2, hp3⟩ := hp
    refine List.forall_mem_cons.mpr ⟨?_, ?_⟩
    · intro l st ρ' μ' cs hJ
      obtain ⟨l0, rfl, hJ0⟩ := mq_tZ_spec hJ
      clear hJ
      obtain ⟨v1, l1, rfl, hJ1⟩ := mq_tI_spec hJ0
      clear hJ0
      obtain ⟨v2, l2, rfl, hJ2⟩ := mq_tI_spec hJ1
      clear hJ1
      obtain ⟨l3, rfl, hJ3⟩ := mq_tN_spec hJ2
      clear hJ2
      obtain ⟨rfl, hJz⟩ := mq_t0_spec hJ3
      clear hJ3
      obtain ⟨rfl, rfl, rfl, hc0, rfl, hc2, hc3, hm0, hm1⟩ := hJz
      omega
    exact fun _ h => absurd h List.not_mem_nil
  · intro as ρ μ h
    obtain ⟨nw, sp, tl, tx, al⟩ := ρ
    obtain ⟨as0, rfl, h0⟩ := mq_pZ_spec h
    clear h
    obtain ⟨k, as1, rfl, h1⟩ := mq_pI_spec h0
    clear h0
    obtain ⟨rfl, hp⟩ := mq_p0_spec h1
    clear h1
    obtain ⟨hp0, hp1, hp2, hp3⟩ := hp
    intro hrg
    obtain ⟨⟨ha1a, ha1b⟩, -⟩ := hrg
    refine List.forall_mem_cons.mpr ⟨?_, ?_⟩
    · intro N l st ρ' μ' cs hJ
      obtain ⟨l0, rfl, hJ0⟩ := mq_tZ_spec hJ
      clear hJ
      obtain ⟨v1, l1, rfl, hJ1⟩ := mq_tI_spec hJ0
      clear hJ0
      obtain ⟨v2, l2, rfl, hJ2⟩ := mq_tI_spec hJ1
      clear hJ1
      obtain ⟨l3, rfl, hJ3⟩ := mq_tN_spec hJ2
      clear hJ2
      obtain ⟨rfl, hJz⟩ := mq_t0_spec hJ3
      clear hJ3
      obtain ⟨rfl, rfl, rfl, hc0, rfl, hc2, hc3, hm0, hm1⟩ := hJz
      intro hbk hrl
      have hk0 : 0 ≤ μ (69, 0) 5 ∧ μ (69, 0) 5 ≤ 5 := hbk (69, 0) 5
      obtain ⟨⟨hl1a, hl1b⟩, ⟨hl2a, hl2b⟩, -⟩ := hrl
      subst hc0
      repeat' (first | refine And.intro ?_ ?_ | intro _)
      all_goals try simp only [Int.reduceToNat, Int.reduceAdd, mq_up_f, mq_up_s, mq_up_e, ne_eq, Nat.reduceEqDiff, not_false_eq_true, true_and, and_true, false_and, and_false, false_or, or_false, true_or, or_true, true_implies] at *
      all_goals first | omega | rfl | exact trivial | assumption
    exact fun _ h => absurd h List.not_mem_nil
theorem mw0_m_looks : mq_mlA cq_m_looks 0 := ⟨kw_1042, ⟨by decide +kernel, by decide +kernel⟩, by decide +kernel, kw_1043, kw_1044, kw_771, 60, by decide +kernel, fun as ρ μ h => by obtain ⟨nw, sp, tl, tx, al⟩ := ρ; obtain ⟨t, e, _⟩ := mq_pZ_spec h; exact ⟨0, t, e⟩⟩
def pq_m_isDone : List mq_E := [(0, false, .iconst 1), (1, false, .istore 1), (2, false, .iconst 0), (3, false, .istore 2), (4, true, .iload 2), (5, false, .aload 0), (6, false, .invokeinterface 11 19), (9, false, .iconst 5), (10, false, .jsr 5), (11, false, .if_icmp .ge (Int.ofNat 40)), (14, false, .iload 1), (15, false, .ifCond .eq (Int.ofNat 32)), (18, false, .aload 0), (19, false, .invokeinterface 11 52), (22, false, .iload 2), (23, false, .iaload), (24, false, .iconst (-1)), (25, false, .if_icmp .eq (Int.ofNat 32)), (28, false, .iconst 1), (29, false, .goto (Int.ofNat 33)), (32, false, .iconst 0), (33, false, .istore 1), (34, false, .iinc 2 1), (37, false, .goto (Int.ofNat 4)), (40, false, .iconst 0), (41, false, .istore 2), (42, true, .iload 2), (43, false, .aload 0), (44, false, .invokeinterface 11 19), (47, false, .iconst 6), (49, false, .jsr 6), (50, false, .if_icmp .ge (Int.ofNat 98)), (53, false, .iload 1), (54, false, .ifCond .eq (Int.ofNat 90)), (57, false, .aload 0), (58, false, .invokeinterface 11 39), (61, false, .iload 2), (62, false, .iaload), (63, false, .iconst (-1)), (64, false, .if_icmp .eq (Int.ofNat 86)), (67, false, .aload 0), (68, false, .invokeinterface 11 44), (71, false, .iload 2), (72, false, .iaload), (73, false, .iconst (-1)), (74, false, .if_icmp .ne (Int.ofNat 86)), (77, false, .aload 0), (78, false, .invokeinterface 11 45), (81, false, .iload 2), (82, false, .baload), (83, false, .ifCond .eq (Int.ofNat 90)), (86, false, .iconst 1), (87, false, .goto (Int.ofNat 91)), (90, false, .iconst 0), (91, false, .istore 1), (92, false, .iinc 2 1), (95, false, .goto (Int.ofNat 42)), (98, false, .iload 1), (99, false, .ireturn)]
def cq_m_isDone : mq_C := ((yX11_isDone, cX11_isDone, 3, (some .boolean), { frames := 0, cells := 0, slots := 0, locals := 0 }), (1, 1, 0, 0), 0, (fun as ρ μ => match ρ with
  | (nw, sp, tl, tx, al) => mq_pZ as 60 fun as => mq_p0 as (True)),
  (fun as ρ μ r ρ' μ' => match as, ρ, ρ' with
  | [.inr (.inr (some (_, _)))], (nw, sp, tl, tx, al), (nw', sp', tl', tx', al') => [0 ≤ r, r ≤ 1]
  | _, _, _ => []))
def kq_m_isDone : List mq_V → mq_R → mq_M → List mq_Cu := fun as ρ μ => match as, ρ with
  | [.inr (.inr (some (_, _)))], (nw, sp, tl, tx, al) => [(4, [true, true, true], fun N l st ρ' μ' cs => mq_tZ l 60 fun l => mq_tI l fun v1 l => mq_tI l fun v2 l => mq_t0 l (st = [] ∧ ρ' = (nw, sp, tl, tx, al) ∧ cs = 0 ∧ 0 ≤ v1 ∧ v1 ≤ 1 ∧ 0 ≤ v2 ∧ v2 ≤ 5 ∧ 0 ≤ (100 + 5 - v2 : Int) ∧ (100 + 5 - v2 : Int) < (N : Int))),
    (42, [true, true, true], fun N l st ρ' μ' cs => mq_tZ l 60 fun l => mq_tI l fun v1 l => mq_tI l fun v2 l => mq_t0 l (st = [] ∧ ρ' = (nw, sp, tl, tx, al) ∧ cs = 0 ∧ 0 ≤ v1 ∧ v1 ≤ 1 ∧ 0 ≤ v2 ∧ v2 ≤ 16 ∧ 0 ≤ (16 - v2 : Int) ∧ (16 - v2 : Int) < (N : Int)))]
  | _, _ => []
set_option maxHeartbeats 16000000 in
set_option maxRecDepth 100000 in
theorem vq_m_isDone (lc : Launch)  : mq_Ct lc cq_m_isDone := by
  refine mq_method (lc := lc) (P := pq_m_isDone) (cl := []) (T := ([(40, 11, 19), (117, 11, 52), (90, 11, 39), (105, 11, 44), (108, 11, 45)], [], [], [], [], [])) (fuel := 400) (cuts := kq_m_isDone) (by decide) rfl ⟨rfl, rfl⟩ (fun _ h => absurd h List.not_mem_nil) ⟨(List.forall_mem_cons.mpr ⟨⟨_, rfl, by decide, kw_837⟩, (List.forall_mem_cons.mpr ⟨⟨_, rfl, by decide, kw_1010⟩, (List.forall_mem_cons.mpr ⟨⟨_, rfl, by decide, kw_996⟩, (List.forall_mem_cons.mpr ⟨⟨_, rfl, by decide, kw_994⟩, (List.forall_mem_cons.mpr ⟨⟨_, rfl, by decide, kw_997⟩, (fun _ h => absurd h List.not_mem_nil)⟩)⟩)⟩)⟩)⟩), (fun _ h => absurd h List.not_mem_nil), (fun _ h => absurd h List.not_mem_nil), (fun _ h => absurd h List.not_mem_nil), (fun _ h => absurd h List.not_mem_nil), (fun _ h => absurd h List.not_mem_nil)⟩ (by decide +kernel) ⟨_, _, rfl⟩ ?_ ?_ ?_ ?_
  · intro as ρ μ h
    obtain ⟨nw, sp, tl, tx, al⟩ := ρ
    obtain ⟨as0, rfl, h0⟩ := mq_pZ_spec h
    clear h
    obtain ⟨rfl, hp⟩ := mq_p0_spec h0
    clear h0
    rfl
  · intro as ρ μ h
    obtain ⟨nw, sp, tl, tx, al⟩ := ρ
    obtain ⟨as0, rfl, h0⟩ := mq_pZ_spec h
    clear h
    obtain ⟨rfl, hp⟩ := mq_p0_spec h0
    clear h0
    intro hrg
    intro hbk
    have hk0 : 0 ≤ μ (69, 0) 6 ∧ μ (69, 0) 6 ≤ 16 := hbk (69, 0) 6
    have hk1 : 0 ≤ μ (69, 0) 5 ∧ μ (69, 0) 5 ≤ 5 := hbk (69, 0) 5
    have e0 : mq_l0 ([.inr (.inr (some (60, 0)))] : List mq_V) 3 = [some (.inr (.inr (some (60, 0)))), none, none] := rfl
    rw [e0]
    repeat' (first | refine And.intro ?_ ?_ | intro _)
    all_goals try simp only [Int.reduceToNat, Int.reduceAdd, mq_up_f, mq_up_s, mq_up_e, ne_eq, Nat.reduceEqDiff, not_false_eq_true, true_and, and_true, false_and, and_false, false_or, or_false, true_or, or_true, true_implies] at *
    all_goals first | omega | rfl | exact trivial | assumption
  · intro as ρ μ h
    obtain ⟨nw, sp, tl, tx, al⟩ := ρ
    obtain ⟨as0, rfl, h0⟩ := mq_pZ_spec h
    clear h
    obtain ⟨rfl, hp⟩ := mq_p0_spec h0
    clear h0
    refine List.forall_mem_cons.mpr ⟨?_, ?_⟩
    · intro l st ρ' μ' cs hJ
      obtain ⟨l0, rfl, hJ0⟩ := mq_tZ_spec hJ
      clear hJ
      obtain ⟨v1, l1, rfl, hJ1⟩ := mq_tI_spec hJ0
      clear hJ0
      obtain ⟨v2, l2, rfl, hJ2⟩ := mq_tI_spec hJ1
      clear hJ1
      obtain ⟨rfl, hJz⟩ := mq_t0_spec hJ2
      clear hJ2
      obtain ⟨rfl, rfl, rfl, hc0, hc1, hc2, hc3, hm0, hm1⟩ := hJz
      omega
    refine List.forall_mem_cons.mpr ⟨?_, ?_⟩
    · intro l st ρ' μ' cs hJ
      obtain ⟨l0, rfl, hJ0⟩ := mq_tZ_spec hJ
      clear hJ
      obtain ⟨v1, l1, rfl, hJ1⟩ := mq_tI_spec hJ0
      clear hJ0
      obtain ⟨v2, l2, rfl, hJ2⟩ := mq_tI_spec hJ1
      clear hJ1
      obtain ⟨rfl, hJz⟩ := mq_t0_spec hJ2
      clear hJ2
      obtain ⟨rfl, rfl, rfl, hc0, hc1, hc2, hc3, hm0, hm1⟩ := hJz
      omega
    exact fun _ h => absurd h List.not_mem_nil
  · intro as ρ μ h
    obtain ⟨nw, sp, tl, tx, al⟩ := ρ
    obtain ⟨as0, rfl, h0⟩ := mq_pZ_spec h
    clear h
    obtain ⟨rfl, hp⟩ := mq_p0_spec h0
    clear h0
    intro hrg
    refine List.forall_mem_cons.mpr ⟨?_, ?_⟩
    · intro N l st ρ' μ' cs hJ
      obtain ⟨l0, rfl, hJ0⟩ := mq_tZ_spec hJ
      clear hJ
      obtain ⟨v1, l1, rfl, hJ1⟩ := mq_tI_spec hJ0
      clear hJ0
      obtain ⟨v2, l2, rfl, hJ2⟩ := mq_tI_spec hJ1
      clear hJ1
      obtain ⟨rfl, hJz⟩ := mq_t0_spec hJ2
      clear hJ2
      obtain ⟨rfl, rfl, rfl, hc0, hc1, hc2, hc3, hm0, hm1⟩ := hJz
      intro hbk hrl
      have hk0 : 0 ≤ μ' (69, 0) 6 ∧ μ' (69, 0) 6 ≤ 16 := hbk (69, 0) 6
      have hk1 : 0 ≤ μ' (69, 0) 5 ∧ μ' (69, 0) 5 ≤ 5 := hbk (69, 0) 5
      obtain ⟨⟨hl1a, hl1b⟩, ⟨hl2a, hl2b⟩, -⟩ := hrl
      repeat' (first | refine And.intro ?_ ?_ | intro _)
      all_goals try simp only [Int.reduceToNat, Int.reduceAdd, mq_up_f, mq_up_s, mq_up_e, ne_eq, Nat.reduceEqDiff, not_false_eq_true, true_and, and_true, false_and, and_false, false_or, or_false, true_or, or_true, true_implies] at *
      all_goals first | omega | rfl | exact trivial | assumption
    refine List.forall_mem_cons.mpr ⟨?_, ?_⟩
    · intro N l st ρ' μ' cs hJ
      obtain ⟨l0, rfl, hJ0⟩ := mq_tZ_spec hJ
      clear hJ
      obtain ⟨v1, l1, rfl, hJ1⟩ := mq_tI_spec hJ0
      clear hJ0
      obtain ⟨v2, l2, rfl, hJ2⟩ := mq_tI_spec hJ1
      clear hJ1
      obtain ⟨rfl, hJz⟩ := mq_t0_spec hJ2
      clear hJ2
      obtain ⟨rfl, rfl, rfl, hc0, hc1, hc2, hc3, hm0, hm1⟩ := hJz
      intro hbk hrl
      have hk0 : 0 ≤ μ' (69, 0) 6 ∧ μ' (69, 0) 6 ≤ 16 := hbk (69, 0) 6
      have hk1 : 0 ≤ μ' (69, 0) 5 ∧ μ' (69, 0) 5 ≤ 5 := hbk (69, 0) 5
      obtain ⟨⟨hl1a, hl1b⟩, ⟨hl2a, hl2b⟩, -⟩ := hrl
      repeat' (first | refine And.intro ?_ ?_ | intro _)
      all_goals try simp only [Int.reduceToNat, Int.reduceAdd, mq_up_f, mq_up_s, mq_up_e, ne_eq, Nat.reduceEqDiff, not_false_eq_true, true_and, and_true, false_and, and_false, false_or, or_false, true_or, or_true, true_implies] at *
      all_goals first | omega | rfl | exact trivial | assumption
    exact fun _ h => absurd h List.not_mem_nil
theorem mw0_m_isDone : mq_mlA cq_m_isDone 0 := ⟨kw_1046, ⟨by decide +kernel, by decide +kernel⟩, by decide +kernel, kw_1047, kw_1048, kw_771, 60, by decide +kernel, fun as ρ μ h => by obtain ⟨nw, sp, tl, tx, al⟩ := ρ; obtain ⟨t, e, _⟩ := mq_pZ_spec h; exact ⟨0, t, e⟩⟩
def pq_m_right : List mq_E := [(0, false, .iconst 0), (1, false, .istore 1), (2, true, .iload 1), (3, false, .iconst 16), (5, false, .if_icmp .ge (Int.ofNat 21)), (8, false, .aload 0), (9, false, .invokeinterface 11 47), (12, false, .iload 1), (13, false, .iconst (-1)), (14, false, .iastore), (15, false, .iinc 1 1), (18, false, .goto (Int.ofNat 2)), (21, false, .return_)]
def cq_m_right : mq_C := ((yX11_right, cX11_right, 2, none, { frames := 0, cells := 0, slots := 0, locals := 0 }), (1, 0, 0, 0), 4951760157141521099596496896, (fun as ρ μ => match ρ with
  | (nw, sp, tl, tx, al) => mq_pZ as 60 fun as => mq_p0 as (True)),
  (fun as ρ μ r ρ' μ' => match as, ρ, ρ' with
  | [.inr (.inr (some (_, _)))], (nw, sp, tl, tx, al), (nw', sp', tl', tx', al') => []
  | _, _, _ => []))
def kq_m_right : List mq_V → mq_R → mq_M → List mq_Cu := fun as ρ μ => match as, ρ with
  | [.inr (.inr (some (_, _)))], (nw, sp, tl, tx, al) => [(2, [true, true], fun N l st ρ' μ' cs => mq_tZ l 60 fun l => mq_tI l fun v1 l => mq_t0 l (st = [] ∧ ρ' = (nw, sp, tl, tx, al) ∧ cs = 0 ∧ 0 ≤ v1 ∧ v1 ≤ 16 ∧ 0 ≤ (16 - v1 : Int) ∧ (16 - v1 : Int) < (N : Int)))]
  | _, _ => []
set_option maxHeartbeats 16000000 in
set_option maxRecDepth 100000 in
theorem vq_m_right (lc : Launch)  : mq_Ct lc cq_m_right := by
  refine mq_method (lc := lc) (P := pq_m_right) (cl := []) (T := ([(114, 11, 47)], [], [], [], [], [])) (fuel := 400) (cuts := kq_m_right) (by decide) rfl ⟨rfl, rfl⟩ (fun _ h => absurd h List.not_mem_nil) ⟨(List.forall_mem_cons.mpr ⟨⟨_, rfl, by decide, kw_968⟩, (fun _ h => absurd h List.not_mem_nil)⟩), (fun _ h => absurd h List.not_mem_nil), (fun _ h => absurd h List.not_mem_nil), (fun _ h => absurd h List.not_mem_nil), (fun _ h => absurd h List.not_mem_nil), (fun _ h => absurd h List.not_mem_nil)⟩ (by decide +kernel) ⟨_, _, rfl⟩ ?_ ?_ ?_ ?_
  · intro as ρ μ h
    obtain ⟨nw, sp, tl, tx, al⟩ := ρ
    obtain ⟨as0, rfl, h0⟩ := mq_pZ_spec h
    clear h
    obtain ⟨rfl, hp⟩ := mq_p0_spec h0
    clear h0
    rfl
  · intro as ρ μ h
    obtain ⟨nw, sp, tl, tx, al⟩ := ρ
    obtain ⟨as0, rfl, h0⟩ := mq_pZ_spec h
    clear h
    obtain ⟨rfl, hp⟩ := mq_p0_spec h0
    clear h0
    intro hrg
    intro hbk
    have e0 : mq_l0 ([.inr (.inr (some (60, 0)))] : List mq_V) 2 = [some (.inr (.inr (some (60, 0)))), none] := rfl
    rw [e0]
    repeat' (first | refine And.intro ?_ ?_ | intro _)
    all_goals first | omega | rfl | exact trivial | (simp [mq_up] at * <;> omega)
  · intro as ρ μ h
    obtain ⟨nw, sp, tl, tx, al⟩ := ρ
    obtain ⟨as0, rfl, h0⟩ := mq_pZ_spec h
    clear h
    obtain ⟨rfl, hp⟩ := mq_p0_spec h0
    clear h0
    refine List.forall_mem_cons.mpr ⟨?_, ?_⟩
    · intro l st ρ' μ' cs hJ
      obtain ⟨l0, rfl, hJ0⟩ := mq_tZ_spec hJ
      clear hJ
      obtain ⟨v1, l1, rfl, hJ1⟩ := mq_tI_spec hJ0
      clear hJ0
      obtain ⟨rfl, hJz⟩ := mq_t0_spec hJ1
      clear hJ1
      obtain ⟨rfl, rfl, rfl, hc0, hc1, hm0, hm1⟩ := hJz
      omega
    exact fun _ h => absurd h List.not_mem_nil
  · intro as ρ μ h
    obtain ⟨nw, sp, tl, tx, al⟩ := ρ
    obtain ⟨as0, rfl, h0⟩ := mq_pZ_spec h
    clear h
    obtain ⟨rfl, hp⟩ := mq_p0_spec h0
    clear h0
    intro hrg
    refine List.forall_mem_cons.mpr ⟨?_, ?_⟩
    · intro N l st ρ' μ' cs hJ
      obtain ⟨l0, rfl, hJ0⟩ := mq_tZ_spec hJ
      clear hJ
      obtain ⟨v1, l1, rfl, hJ1⟩ := mq_tI_spec hJ0
      clear hJ0
      obtain ⟨rfl, hJz⟩ := mq_t0_spec hJ1
      clear hJ1
      obtain ⟨rfl, rfl, rfl, hc0, hc1, hm0, hm1⟩ := hJz
      intro hbk hrl
      obtain ⟨⟨hl1a, hl1b⟩, -⟩ := hrl
      repeat' (first | refine And.intro ?_ ?_ | intro _)
      all_goals first | omega | rfl | exact trivial | (simp [mq_up] at * <;> omega)
    exact fun _ h => absurd h List.not_mem_nil
theorem mw0_m_right : mq_mlA cq_m_right 0 := ⟨kw_1054, ⟨by decide +kernel, by decide +kernel⟩, by decide +kernel, kw_1055, kw_1056, kw_771, 60, by decide +kernel, fun as ρ μ h => by obtain ⟨nw, sp, tl, tx, al⟩ := ρ; obtain ⟨t, e, _⟩ := mq_pZ_spec h; exact ⟨0, t, e⟩⟩
def pq_m_goes : List mq_E := [(0, false, .aload 0), (1, false, .iconst (-1)), (2, false, .multianewarray 11 49), (5, false, .aload 0), (6, false, .iconst (-1)), (7, false, .multianewarray 11 50), (10, false, .aload 0), (11, false, .iconst (-1)), (12, false, .multianewarray 11 51), (15, false, .iconst 0), (16, false, .istore 1), (17, true, .iload 1), (18, false, .iconst 5), (19, false, .if_icmp .ge (Int.ofNat 60)), (22, false, .aload 0), (23, false, .invokeinterface 11 36), (26, false, .iload 1), (27, false, .iconst (-1)), (28, false, .iastore), (29, false, .aload 0), (30, false, .invokeinterface 11 38), (33, false, .iload 1), (34, false, .iconst 0), (35, false, .bastore), (36, false, .aload 0), (37, false, .invokeinterface 11 37), (40, false, .iload 1), (41, false, .aload 0), (42, false, .iload 1), (43, false, .invokestatic 0), (46, false, .iastore), (47, false, .aload 0), (48, false, .invokeinterface 11 52), (51, false, .iload 1), (52, false, .iconst (-1)), (53, false, .iastore), (54, false, .iinc 1 1), (57, false, .goto (Int.ofNat 17)), (60, false, .iconst 0), (61, false, .istore 1), (62, true, .iload 1), (63, false, .iconst 16), (65, false, .if_icmp .ge (Int.ofNat 95)), (68, false, .aload 0), (69, false, .invokeinterface 11 39), (72, false, .iload 1), (73, false, .iconst (-1)), (74, false, .iastore), (75, false, .aload 0), (76, false, .invokeinterface 11 44), (79, false, .iload 1), (80, false, .iconst (-1)), (81, false, .iastore), (82, false, .aload 0), (83, false, .invokeinterface 11 45), (86, false, .iload 1), (87, false, .iconst 0), (88, false, .bastore), (89, false, .iinc 1 1), (92, false, .goto (Int.ofNat 62)), (95, false, .iconst 0), (96, false, .istore 1), (97, true, .iload 1), (98, false, .iconst 1200), (101, false, .if_icmp .gt (Int.ofNat 180)), (104, false, .iconst 0), (105, false, .istore 2), (106, true, .iload 2), (107, false, .aload 0), (108, false, .invokeinterface 11 19), (111, false, .iconst 6), (113, false, .jsr 6), (114, false, .if_icmp .ge (Int.ofNat 129)), (117, false, .aload 0), (118, false, .iload 2), (119, false, .iload 1), (120, false, .invokestatic 1), (123, false, .iinc 2 1), (126, false, .goto (Int.ofNat 106)), (129, false, .iconst 0), (130, false, .istore 2), (131, true, .iload 2), (132, false, .aload 0), (133, false, .invokeinterface 11 19), (136, false, .iconst 5), (137, false, .jsr 5), (138, false, .if_icmp .ge (Int.ofNat 153)), (141, false, .aload 0), (142, false, .iload 2), (143, false, .iload 1), (144, false, .invokestatic 2), (147, false, .iinc 2 1), (150, false, .goto (Int.ofNat 131)), (153, false, .aload 0), (154, false, .invokeinterface 11 49), (157, false, .iconst (-1)), (158, false, .if_icmp .ne (Int.ofNat 166)), (161, false, .aload 0), (162, false, .iload 1), (163, false, .invokestatic 3), (166, false, .aload 0), (167, false, .invokestatic 4), (170, false, .ifCond .eq (Int.ofNat 174)), (173, false, .return_), (174, false, .iinc 1 1), (177, false, .goto (Int.ofNat 97)), (180, false, .return_)]
def cq_m_goes : mq_C := ((yX11_goes, cX11_goes, 3, none, { frames := 6, cells := 0, slots := 0, locals := 153 }), (1, 0, 0, 0), 14852862620938255545046925312, (fun as ρ μ => match ρ with
  | (nw, sp, tl, tx, al) => mq_pZ as 60 fun as => mq_p0 as (sq_bx (sq_T μ) ∧ True)),
  (fun as ρ μ r ρ' μ' => match as, ρ, ρ' with
  | [.inr (.inr (some (_, _)))], (nw, sp, tl, tx, al), (nw', sp', tl', tx', al') => [sq_bx (sq_T μ'), sq_bx (sq_GC μ' 16)]
  | _, _, _ => []))
def kq_m_goes : List mq_V → mq_R → mq_M → List mq_Cu := fun as ρ μ => match as, ρ with
  | [.inr (.inr (some (_, _)))], (nw, sp, tl, tx, al) => [(17, [true, true, false], fun N l st ρ' μ' cs => mq_tZ l 60 fun l => mq_tI l fun v1 l => mq_tN l fun l => mq_t0 l (st = [] ∧ ρ' = (nw, sp, tl, tx, al) ∧ cs = 0 ∧ 0 ≤ v1 ∧ v1 ≤ 5 ∧ sq_bx (sq_T μ') ∧ sq_bx (sq_GT μ' v1) ∧ 0 ≤ (10000000 - v1 : Int) ∧ (10000000 - v1 : Int) < (N : Int))),
    (62, [true, true, false], fun N l st ρ' μ' cs => mq_tZ l 60 fun l => mq_tI l fun v1 l => mq_tN l fun l => mq_t0 l (st = [] ∧ ρ' = (nw, sp, tl, tx, al) ∧ cs = 0 ∧ 0 ≤ v1 ∧ v1 ≤ 16 ∧ sq_bx (sq_T μ') ∧ sq_bx (sq_GT μ' 5) ∧ sq_bx (sq_GC μ' v1) ∧ 0 ≤ (9000000 - v1 : Int) ∧ (9000000 - v1 : Int) < (N : Int))),
    (97, [true, true, false], fun N l st ρ' μ' cs => mq_tZ l 60 fun l => mq_tI l fun v1 l => mq_tN l fun l => mq_t0 l (st = [] ∧ ρ' = (nw, sp, tl, tx, al) ∧ cs = 0 ∧ 0 ≤ v1 ∧ v1 ≤ 1201 ∧ sq_bx (sq_T μ') ∧ sq_bx (sq_GT μ' 5) ∧ sq_bx (sq_GC μ' 16) ∧ 0 ≤ (1000 * (1201 - v1) + 500 : Int) ∧ (1000 * (1201 - v1) + 500 : Int) < (N : Int))),
    (106, [true, true, true], fun N l st ρ' μ' cs => mq_tZ l 60 fun l => mq_tI l fun v1 l => mq_tI l fun v2 l => mq_t0 l (st = [] ∧ ρ' = (nw, sp, tl, tx, al) ∧ cs = 0 ∧ 0 ≤ v1 ∧ v1 ≤ 1200 ∧ 0 ≤ v2 ∧ v2 ≤ 16 ∧ sq_bx (sq_T μ') ∧ sq_bx (sq_GT μ' 5) ∧ sq_bx (sq_GC μ' 16) ∧ 0 ≤ (1000 * (1201 - v1) + 400 - v2 : Int) ∧ (1000 * (1201 - v1) + 400 - v2 : Int) < (N : Int))),
    (131, [true, true, true], fun N l st ρ' μ' cs => mq_tZ l 60 fun l => mq_tI l fun v1 l => mq_tI l fun v2 l => mq_t0 l (st = [] ∧ ρ' = (nw, sp, tl, tx, al) ∧ cs = 0 ∧ 0 ≤ v1 ∧ v1 ≤ 1200 ∧ 0 ≤ v2 ∧ v2 ≤ 5 ∧ sq_bx (sq_T μ') ∧ sq_bx (sq_GT μ' 5) ∧ sq_bx (sq_GC μ' 16) ∧ 0 ≤ (1000 * (1201 - v1) + 300 - v2 : Int) ∧ (1000 * (1201 - v1) + 300 - v2 : Int) < (N : Int)))]
  | _, _ => []
set_option maxHeartbeats 16000000 in
set_option maxRecDepth 100000 in
theorem vq_m_goes (lc : Launch) (h_m_coachesOf : mq_Ct lc cq_m_coachesOf) (h_m_coachGoes : mq_Ct lc cq_m_coachGoes) (h_m_trainGoes : mq_Ct lc cq_m_trainGoes) (h_m_looks : mq_Ct lc cq_m_looks) (h_m_isDone : mq_Ct lc cq_m_isDone) : mq_Ct lc cq_m_goes := by
  refine mq_method (lc := lc) (P := pq_m_goes) (cl := [cq_m_coachesOf, cq_m_coachGoes, cq_m_trainGoes, cq_m_looks, cq_m_isDone]) (T := ([(401, 11, 49), (404, 11, 50), (407, 11, 51), (81, 11, 36), (87, 11, 38), (84, 11, 37), (117, 11, 52), (90, 11, 39), (105, 11, 44), (108, 11, 45), (40, 11, 19)], [], [], [(410, 0, 0), (413, 1, 0), (416, 2, 0), (419, 3, 0), (422, 4, 0)], [], [])) (fuel := 400) (cuts := kq_m_goes) (by decide) rfl ⟨rfl, rfl⟩ (List.forall_mem_cons.mpr ⟨h_m_coachesOf, (List.forall_mem_cons.mpr ⟨h_m_coachGoes, (List.forall_mem_cons.mpr ⟨h_m_trainGoes, (List.forall_mem_cons.mpr ⟨h_m_looks, (List.forall_mem_cons.mpr ⟨h_m_isDone, (fun _ h => absurd h List.not_mem_nil)⟩)⟩)⟩)⟩)⟩) ⟨(List.forall_mem_cons.mpr ⟨⟨_, rfl, by decide, kw_1027⟩, (List.forall_mem_cons.mpr ⟨⟨_, rfl, by decide, kw_1028⟩, (List.forall_mem_cons.mpr ⟨⟨_, rfl, by decide, kw_1029⟩, (List.forall_mem_cons.mpr ⟨⟨_, rfl, by decide, kw_1006⟩, (List.forall_mem_cons.mpr ⟨⟨_, rfl, by decide, kw_1008⟩, (List.forall_mem_cons.mpr ⟨⟨_, rfl, by decide, kw_1004⟩, (List.forall_mem_cons.mpr ⟨⟨_, rfl, by decide, kw_1010⟩, (List.forall_mem_cons.mpr ⟨⟨_, rfl, by decide, kw_996⟩, (List.forall_mem_cons.mpr ⟨⟨_, rfl, by decide, kw_994⟩, (List.forall_mem_cons.mpr ⟨⟨_, rfl, by decide, kw_997⟩, (List.forall_mem_cons.mpr ⟨⟨_, rfl, by decide, kw_837⟩, (fun _ h => absurd h List.not_mem_nil)⟩)⟩)⟩)⟩)⟩)⟩)⟩)⟩)⟩)⟩)⟩), (fun _ h => absurd h List.not_mem_nil), (fun _ h => absurd h List.not_mem_nil), (List.forall_mem_cons.mpr ⟨mq_ml0 rfl mw0_m_coachesOf kw_978, (List.forall_mem_cons.mpr ⟨mq_ml0 rfl mw0_m_coachGoes kw_1037, (List.forall_mem_cons.mpr ⟨mq_ml0 rfl mw0_m_trainGoes kw_1041, (List.forall_mem_cons.mpr ⟨mq_ml0 rfl mw0_m_looks kw_1045, (List.forall_mem_cons.mpr ⟨mq_ml0 rfl mw0_m_isDone kw_1049, (fun _ h => absurd h List.not_mem_nil)⟩)⟩)⟩)⟩)⟩), (fun _ h => absurd h List.not_mem_nil), (fun _ h => absurd h List.not_mem_nil)⟩ (by decide +kernel) ⟨_, _, rfl⟩ ?_ ?_ ?_ ?_
  · intro as ρ μ h
    obtain ⟨nw, sp, tl, tx, al⟩ := ρ
    obtain ⟨as0, rfl, h0⟩ := mq_pZ_spec h
    clear h
    obtain ⟨rfl, hp⟩ := mq_p0_spec h0
    clear h0
    obtain ⟨hp0, hp1⟩ := hp
    rfl
  · intro as ρ μ h
    obtain ⟨nw, sp, tl, tx, al⟩ := ρ
    obtain ⟨as0, rfl, h0⟩ := mq_pZ_spec h
    clear h
    obtain ⟨rfl, hp⟩ := mq_p0_spec h0
    clear h0
    obtain ⟨hp0, hp1⟩ := hp
    intro hrg
    intro hbk
    have hk0 : 0 ≤ μ (69, 0) 6 ∧ μ (69, 0) 6 ≤ 16 := hbk (69, 0) 6
    have hk1 : 0 ≤ μ (69, 0) 5 ∧ μ (69, 0) 5 ≤ 5 := hbk (69, 0) 5
    have hk2 : 0 ≤ μ (67, 0) 0 ∧ μ (67, 0) 0 ≤ 400 := hbk (67, 0) 0
    have e0 : mq_l0 ([.inr (.inr (some (60, 0)))] : List mq_V) 3 = [some (.inr (.inr (some (60, 0)))), none, none] := rfl
    rw [e0]
    repeat' (first | refine And.intro ?_ ?_ | intro _)
    all_goals try simp only [Int.reduceToNat, Int.reduceAdd, mq_up_f, mq_up_s, mq_up_e, ne_eq, Nat.reduceEqDiff, not_false_eq_true, true_and, and_true, false_and, and_false, false_or, or_false, true_or, or_true, true_implies] at *
    all_goals first | omega | rfl | exact trivial | assumption | exact sq_m (fun t a b => absurd b (by omega)) | exact sq_m (sq_T_ag (md := 2 ^ 60) (by repeat (first | exact mq_ag_rf _ _ | refine mq_ag_upn ?_ (by decide +kernel))) (by decide +kernel) (by simp [mq_up]) (by simp [mq_up]) (sq_g hp0))
  · intro as ρ μ h
    obtain ⟨nw, sp, tl, tx, al⟩ := ρ
    obtain ⟨as0, rfl, h0⟩ := mq_pZ_spec h
    clear h
    obtain ⟨rfl, hp⟩ := mq_p0_spec h0
    clear h0
    obtain ⟨hp0, hp1⟩ := hp
    refine List.forall_mem_cons.mpr ⟨?_, ?_⟩
    · intro l st ρ' μ' cs hJ
      obtain ⟨l0, rfl, hJ0⟩ := mq_tZ_spec hJ
      clear hJ
      obtain ⟨v1, l1, rfl, hJ1⟩ := mq_tI_spec hJ0
      clear hJ0
      obtain ⟨l2, rfl, hJ2⟩ := mq_tN_spec hJ1
      clear hJ1
      obtain ⟨rfl, hJz⟩ := mq_t0_spec hJ2
      clear hJ2
      obtain ⟨rfl, rfl, rfl, hc0, hc1, hc2, hc3, hm0, hm1⟩ := hJz
      omega
    refine List.forall_mem_cons.mpr ⟨?_, ?_⟩
    · intro l st ρ' μ' cs hJ
      obtain ⟨l0, rfl, hJ0⟩ := mq_tZ_spec hJ
      clear hJ
      obtain ⟨v1, l1, rfl, hJ1⟩ := mq_tI_spec hJ0
      clear hJ0
      obtain ⟨l2, rfl, hJ2⟩ := mq_tN_spec hJ1
      clear hJ1
      obtain ⟨rfl, hJz⟩ := mq_t0_spec hJ2
      clear hJ2
      obtain ⟨rfl, rfl, rfl, hc0, hc1, hc2, hc3, hc4, hm0, hm1⟩ := hJz
      omega
    refine List.forall_mem_cons.mpr ⟨?_, ?_⟩
    · intro l st ρ' μ' cs hJ
      obtain ⟨l0, rfl, hJ0⟩ := mq_tZ_spec hJ
      clear hJ
      obtain ⟨v1, l1, rfl, hJ1⟩ := mq_tI_spec hJ0
      clear hJ0
      obtain ⟨l2, rfl, hJ2⟩ := mq_tN_spec hJ1
      clear hJ1
      obtain ⟨rfl, hJz⟩ := mq_t0_spec hJ2
      clear hJ2
      obtain ⟨rfl, rfl, rfl, hc0, hc1, hc2, hc3, hc4, hm0, hm1⟩ := hJz
      omega
    refine List.forall_mem_cons.mpr ⟨?_, ?_⟩
    · intro l st ρ' μ' cs hJ
      obtain ⟨l0, rfl, hJ0⟩ := mq_tZ_spec hJ
      clear hJ
      obtain ⟨v1, l1, rfl, hJ1⟩ := mq_tI_spec hJ0
      clear hJ0
      obtain ⟨v2, l2, rfl, hJ2⟩ := mq_tI_spec hJ1
      clear hJ1
      obtain ⟨rfl, hJz⟩ := mq_t0_spec hJ2
      clear hJ2
      obtain ⟨rfl, rfl, rfl, hc0, hc1, hc2, hc3, hc4, hc5, hc6, hm0, hm1⟩ := hJz
      omega
    refine List.forall_mem_cons.mpr ⟨?_, ?_⟩
    · intro l st ρ' μ' cs hJ
      obtain ⟨l0, rfl, hJ0⟩ := mq_tZ_spec hJ
      clear hJ
      obtain ⟨v1, l1, rfl, hJ1⟩ := mq_tI_spec hJ0
      clear hJ0
      obtain ⟨v2, l2, rfl, hJ2⟩ := mq_tI_spec hJ1
      clear hJ1
      obtain ⟨rfl, hJz⟩ := mq_t0_spec hJ2
      clear hJ2
      obtain ⟨rfl, rfl, rfl, hc0, hc1, hc2, hc3, hc4, hc5, hc6, hm0, hm1⟩ := hJz
      omega
    exact fun _ h => absurd h List.not_mem_nil
  · intro as ρ μ h
    obtain ⟨nw, sp, tl, tx, al⟩ := ρ
    obtain ⟨as0, rfl, h0⟩ := mq_pZ_spec h
    clear h
    obtain ⟨rfl, hp⟩ := mq_p0_spec h0
    clear h0
    obtain ⟨hp0, hp1⟩ := hp
    intro hrg
    refine List.forall_mem_cons.mpr ⟨?_, ?_⟩
    · intro N l st ρ' μ' cs hJ
      obtain ⟨l0, rfl, hJ0⟩ := mq_tZ_spec hJ
      clear hJ
      obtain ⟨v1, l1, rfl, hJ1⟩ := mq_tI_spec hJ0
      clear hJ0
      obtain ⟨l2, rfl, hJ2⟩ := mq_tN_spec hJ1
      clear hJ1
      obtain ⟨rfl, hJz⟩ := mq_t0_spec hJ2
      clear hJ2
      obtain ⟨rfl, rfl, rfl, hc0, hc1, hc2, hc3, hm0, hm1⟩ := hJz
      intro hbk hrl
      have hk0 : 0 ≤ μ' (69, 0) 6 ∧ μ' (69, 0) 6 ≤ 16 := hbk (69, 0) 6
      have hk1 : 0 ≤ μ' (69, 0) 5 ∧ μ' (69, 0) 5 ≤ 5 := hbk (69, 0) 5
      have hk2 : 0 ≤ μ' (67, 0) 0 ∧ μ' (67, 0) 0 ≤ 400 := hbk (67, 0) 0
      obtain ⟨⟨hl1a, hl1b⟩, -⟩ := hrl
      repeat' (first | refine And.intro ?_ ?_ | intro _)
      all_goals try simp only [Int.reduceToNat, Int.reduceAdd, mq_up_f, mq_up_s, mq_up_e, ne_eq, Nat.reduceEqDiff, not_false_eq_true, true_and, and_true, false_and, and_false, false_or, or_false, true_or, or_true, true_implies] at *
      all_goals first | omega | rfl | exact trivial | assumption | exact sq_m (sq_T_ag0 (md := 2 ^ 81 + 2 ^ 82 + 2 ^ 83 + 2 ^ 93) (by repeat (first | exact mq_ag_rf _ _ | refine mq_ag_upn ?_ (by decide +kernel))) (by decide +kernel) (sq_g hc2)) | exact sq_m (fun d d0 d1 => sq_GT_set (t := v1) (n := v1) (fun t1 a1 b1 _ => sq_g hc3 t1 a1 b1) (by omega) (by simp [mq_up_f]) (by simp [mq_up_f]) (by simp [mq_up_f]) (by simp [mq_up_f]) (fun x hx => by simp [mq_up_f, mq_up_s, hx]) (by unfold sq_gt1; simp [mq_up_f, mq_up_e]; omega) d d0 (by omega)) | (obtain rfl : v1 = 5 := (by omega); exact hc3) | exact sq_m (fun d d0 d1 => absurd d1 (by omega))
    refine List.forall_mem_cons.mpr ⟨?_, ?_⟩
    · intro N l st ρ' μ' cs hJ
      obtain ⟨l0, rfl, hJ0⟩ := mq_tZ_spec hJ
      clear hJ
      obtain ⟨v1, l1, rfl, hJ1⟩ := mq_tI_spec hJ0
      clear hJ0
      obtain ⟨l2, rfl, hJ2⟩ := mq_tN_spec hJ1
      clear hJ1
      obtain ⟨rfl, hJz⟩ := mq_t0_spec hJ2
      clear hJ2
      obtain ⟨rfl, rfl, rfl, hc0, hc1, hc2, hc3, hc4, hm0, hm1⟩ := hJz
      intro hbk hrl
      have hk0 : 0 ≤ μ' (69, 0) 6 ∧ μ' (69, 0) 6 ≤ 16 := hbk (69, 0) 6
      have hk1 : 0 ≤ μ' (69, 0) 5 ∧ μ' (69, 0) 5 ≤ 5 := hbk (69, 0) 5
      have hk2 : 0 ≤ μ' (67, 0) 0 ∧ μ' (67, 0) 0 ≤ 400 := hbk (67, 0) 0
      obtain ⟨⟨hl1a, hl1b⟩, -⟩ := hrl
      repeat' (first | refine And.intro ?_ ?_ | intro _)
      all_goals try simp only [Int.reduceToNat, Int.reduceAdd, mq_up_f, mq_up_s, mq_up_e, ne_eq, Nat.reduceEqDiff, not_false_eq_true, true_and, and_true, false_and, and_false, false_or, or_false, true_or, or_true, true_implies] at *
      all_goals first | omega | rfl | exact trivial | assumption | exact sq_m (sq_T_ag0 (md := 2 ^ 84 + 2 ^ 89 + 2 ^ 90) (by repeat (first | exact mq_ag_rf _ _ | refine mq_ag_upn ?_ (by decide +kernel))) (by decide +kernel) (sq_g hc2)) | exact sq_m (sq_GT_ag (md := 2 ^ 84 + 2 ^ 89 + 2 ^ 90) (by repeat (first | exact mq_ag_rf _ _ | refine mq_ag_upn ?_ (by decide +kernel))) (by decide +kernel) (sq_g hc3)) | exact sq_m (fun d d0 d1 => sq_GC_set' (c := v1) (n := v1) (sq_g hc4) (by omega) (by simp [mq_up_f]) (fun x hx => by simp [mq_up_f, mq_up_s, hx]) (by unfold sq_gc1; simp [mq_up_f, mq_up_e]) d d0 (by omega)) | (obtain rfl : v1 = 16 := (by omega); exact hc4)
    refine List.forall_mem_cons.mpr ⟨?_, ?_⟩
    · intro N l st ρ' μ' cs hJ
      obtain ⟨l0, rfl, hJ0⟩ := mq_tZ_spec hJ
      clear hJ
      obtain ⟨v1, l1, rfl, hJ1⟩ := mq_tI_spec hJ0
      clear hJ0
      obtain ⟨l2, rfl, hJ2⟩ := mq_tN_spec hJ1
      clear hJ1
      obtain ⟨rfl, hJz⟩ := mq_t0_spec hJ2
      clear hJ2
      obtain ⟨rfl, rfl, rfl, hc0, hc1, hc2, hc3, hc4, hm0, hm1⟩ := hJz
      intro hbk hrl
      have hk0 : 0 ≤ μ' (69, 0) 6 ∧ μ' (69, 0) 6 ≤ 16 := hbk (69, 0) 6
      have hk1 : 0 ≤ μ' (69, 0) 5 ∧ μ' (69, 0) 5 ≤ 5 := hbk (69, 0) 5
      have hk2 : 0 ≤ μ' (67, 0) 0 ∧ μ' (67, 0) 0 ≤ 400 := hbk (67, 0) 0
      obtain ⟨⟨hl1a, hl1b⟩, -⟩ := hrl
      repeat' (first | refine And.intro ?_ ?_ | intro _)
      all_goals try simp only [Int.reduceToNat, Int.reduceAdd, mq_up_f, mq_up_s, mq_up_e, ne_eq, Nat.reduceEqDiff, not_false_eq_true, true_and, and_true, false_and, and_false, false_or, or_false, true_or, or_true, true_implies] at *
      all_goals first | omega | rfl | exact trivial | assumption
    refine List.forall_mem_cons.mpr ⟨?_, ?_⟩
    · intro N l st ρ' μ' cs hJ
      obtain ⟨l0, rfl, hJ0⟩ := mq_tZ_spec hJ
      clear hJ
      obtain ⟨v1, l1, rfl, hJ1⟩ := mq_tI_spec hJ0
      clear hJ0
      obtain ⟨v2, l2, rfl, hJ2⟩ := mq_tI_spec hJ1
      clear hJ1
      obtain ⟨rfl, hJz⟩ := mq_t0_spec hJ2
      clear hJ2
      obtain ⟨rfl, rfl, rfl, hc0, hc1, hc2, hc3, hc4, hc5, hc6, hm0, hm1⟩ := hJz
      intro hbk hrl
      have hk0 : 0 ≤ μ' (69, 0) 6 ∧ μ' (69, 0) 6 ≤ 16 := hbk (69, 0) 6
      have hk1 : 0 ≤ μ' (69, 0) 5 ∧ μ' (69, 0) 5 ≤ 5 := hbk (69, 0) 5
      have hk2 : 0 ≤ μ' (67, 0) 0 ∧ μ' (67, 0) 0 ≤ 400 := hbk (67, 0) 0
      obtain ⟨⟨hl1a, hl1b⟩, ⟨hl2a, hl2b⟩, -⟩ := hrl
      repeat' (first | refine And.intro ?_ ?_ | intro _)
      all_goals try simp only [Int.reduceToNat, Int.reduceAdd, mq_up_f, mq_up_s, mq_up_e, ne_eq, Nat.reduceEqDiff, not_false_eq_true, true_and, and_true, false_and, and_false, false_or, or_false, true_or, or_true, true_implies] at *
      all_goals first | omega | rfl | exact trivial | assumption | exact sq_m (sq_T_ag0 ‹mq_ag _ _ _› (by decide +kernel) (sq_g hc4)) | exact sq_m (sq_GT_ag ‹mq_ag _ _ _› (by decide +kernel) (sq_g hc5)) | exact sq_m (sq_GC_ag ‹mq_ag _ _ _› (by decide +kernel) (sq_g hc6))
    refine List.forall_mem_cons.mpr ⟨?_, ?_⟩
    · intro N l st ρ' μ' cs hJ
      obtain ⟨l0, rfl, hJ0⟩ := mq_tZ_spec hJ
      clear hJ
      obtain ⟨v1, l1, rfl, hJ1⟩ := mq_tI_spec hJ0
      clear hJ0
      obtain ⟨v2, l2, rfl, hJ2⟩ := mq_tI_spec hJ1
      clear hJ1
      obtain ⟨rfl, hJz⟩ := mq_t0_spec hJ2
      clear hJ2
      obtain ⟨rfl, rfl, rfl, hc0, hc1, hc2, hc3, hc4, hc5, hc6, hm0, hm1⟩ := hJz
      intro hbk hrl
      have hk0 : 0 ≤ μ' (69, 0) 6 ∧ μ' (69, 0) 6 ≤ 16 := hbk (69, 0) 6
      have hk1 : 0 ≤ μ' (69, 0) 5 ∧ μ' (69, 0) 5 ≤ 5 := hbk (69, 0) 5
      have hk2 : 0 ≤ μ' (67, 0) 0 ∧ μ' (67, 0) 0 ≤ 400 := hbk (67, 0) 0
      obtain ⟨⟨hl1a, hl1b⟩, ⟨hl2a, hl2b⟩, -⟩ := hrl
      repeat' (first | refine And.intro ?_ ?_ | intro _)
      all_goals try simp only [Int.reduceToNat, Int.reduceAdd, mq_up_f, mq_up_s, mq_up_e, ne_eq, Nat.reduceEqDiff, not_false_eq_true, true_and, and_true, false_and, and_false, false_or, or_false, true_or, or_true, true_implies] at *
      all_goals first | omega | rfl | exact trivial | assumption | exact sq_m (sq_g hc4).1 | exact sq_m (sq_T_ag0 ‹mq_ag _ _ _› (by decide +kernel) (sq_g hc4)) | exact sq_m (sq_GT_ag ‹mq_ag _ _ _› (by decide +kernel) (sq_g hc5)) | exact sq_m (sq_GC_ag ‹mq_ag _ _ _› (by decide +kernel) (sq_g hc6)) | exact sq_m (sq_T_ag ‹mq_ag _ _ _› (by decide +kernel) (by assumption) (by assumption) (sq_g hc4))
    exact fun _ h => absurd h List.not_mem_nil
theorem mw0_m_goes : mq_mlA cq_m_goes 0 := ⟨kw_1058, ⟨by decide +kernel, by decide +kernel⟩, by decide +kernel, kw_1059, kw_1060, kw_771, 60, by decide +kernel, fun as ρ μ h => by obtain ⟨nw, sp, tl, tx, al⟩ := ρ; obtain ⟨t, e, _⟩ := mq_pZ_spec h; exact ⟨0, t, e⟩⟩
def pq_m_laysCoaches : List mq_E := [(0, false, .iconst 0), (1, false, .istore 1), (2, true, .iload 1), (3, false, .aload 0), (4, false, .invokeinterface 11 19), (7, false, .iconst 6), (9, false, .jsr 6), (10, false, .if_icmp .ge (Int.ofNat 40)), (13, false, .aload 0), (14, false, .iload 1), (15, false, .aload 0), (16, false, .iload 1), (17, false, .invokestatic 0), (20, false, .aload 0), (21, false, .invokeinterface 11 26), (24, false, .iconst 5), (25, false, .iload 1), (26, false, .imul), (27, false, .iconst 2), (28, false, .iadd), (29, false, .jsr 2), (30, false, .iconst 3), (31, false, .invokestatic 1), (34, false, .iinc 1 1), (37, false, .goto (Int.ofNat 2)), (40, false, .return_)]
def cq_m_laysCoaches : mq_C := ((yX11_laysCoaches, cX11_laysCoaches, 2, none, { frames := 5, cells := 0, slots := 0, locals := 131 }), (1, 0, 0, 0), 302231454903657293676544, (fun as ρ μ => match ρ with
  | (nw, sp, tl, tx, al) => mq_pZ as 60 fun as => mq_p0 as (sq_bx (sq_pl (μ (69, 0)) (μ (76, 0)) 0) ∧ True)),
  (fun as ρ μ r ρ' μ' => match as, ρ, ρ' with
  | [.inr (.inr (some (_, _)))], (nw, sp, tl, tx, al), (nw', sp', tl', tx', al') => [sq_bx (sq_T μ')]
  | _, _, _ => []))
def kq_m_laysCoaches : List mq_V → mq_R → mq_M → List mq_Cu := fun as ρ μ => match as, ρ with
  | [.inr (.inr (some (_, _)))], (nw, sp, tl, tx, al) => [(2, [true, true], fun N l st ρ' μ' cs => mq_tZ l 60 fun l => mq_tI l fun v1 l => mq_t0 l (st = [] ∧ ρ' = (nw, sp, tl, tx, al) ∧ cs = 0 ∧ 0 ≤ v1 ∧ v1 ≤ 16 ∧ v1 ≤ μ' (69, 0) 6 ∧ sq_bx (sq_pl (μ' (69, 0)) (μ' (76, 0)) 0) ∧ sq_bx (sq_tabs (sq_li μ') (μ' (60, 0) 29) (μ' (60, 0) 30) (μ' (78, 0)) (μ' (76, 0)) v1) ∧ 0 ≤ (16 - v1 : Int) ∧ (16 - v1 : Int) < (N : Int)))]
  | _, _ => []
set_option maxHeartbeats 16000000 in
set_option maxRecDepth 100000 in
theorem vq_m_laysCoaches (lc : Launch) (h_m_kindOf : mq_Ct lc cq_m_kindOf) (h_m_lays : mq_Ct lc cq_m_lays) : mq_Ct lc cq_m_laysCoaches := by
  refine mq_method (lc := lc) (P := pq_m_laysCoaches) (cl := [cq_m_kindOf, cq_m_lays]) (T := ([(40, 11, 19), (61, 11, 26)], [], [], [(398, 0, 0), (359, 1, 0)], [], [])) (fuel := 400) (cuts := kq_m_laysCoaches) (by decide) rfl ⟨rfl, rfl⟩ (List.forall_mem_cons.mpr ⟨h_m_kindOf, (List.forall_mem_cons.mpr ⟨h_m_lays, (fun _ h => absurd h List.not_mem_nil)⟩)⟩) ⟨(List.forall_mem_cons.mpr ⟨⟨_, rfl, by decide, kw_837⟩, (List.forall_mem_cons.mpr ⟨⟨_, rfl, by decide, kw_867⟩, (fun _ h => absurd h List.not_mem_nil)⟩)⟩), (fun _ h => absurd h List.not_mem_nil), (fun _ h => absurd h List.not_mem_nil), (List.forall_mem_cons.mpr ⟨mq_ml0 rfl mw0_m_kindOf kw_967, (List.forall_mem_cons.mpr ⟨mq_ml0 rfl mw0_m_lays kw_929, (fun _ h => absurd h List.not_mem_nil)⟩)⟩), (fun _ h => absurd h List.not_mem_nil), (fun _ h => absurd h List.not_mem_nil)⟩ (by decide +kernel) ⟨_, _, rfl⟩ ?_ ?_ ?_ ?_
  · intro as ρ μ h
    obtain ⟨nw, sp, tl, tx, al⟩ := ρ
    obtain ⟨as0, rfl, h0⟩ := mq_pZ_spec h
    clear h
    obtain ⟨rfl, hp⟩ := mq_p0_spec h0
    clear h0
    obtain ⟨hp0, hp1⟩ := hp
    rfl
  · intro as ρ μ h
    obtain ⟨nw, sp, tl, tx, al⟩ := ρ
    obtain ⟨as0, rfl, h0⟩ := mq_pZ_spec h
    clear h
    obtain ⟨rfl, hp⟩ := mq_p0_spec h0
    clear h0
    obtain ⟨hp0, hp1⟩ := hp
    intro hrg
    intro hbk
    have hk0 : 0 ≤ μ (69, 0) 6 ∧ μ (69, 0) 6 ≤ 16 := hbk (69, 0) 6
    have hk1 : 0 ≤ μ (67, 0) 0 ∧ μ (67, 0) 0 ≤ 400 := hbk (67, 0) 0
    have e0 : mq_l0 ([.inr (.inr (some (60, 0)))] : List mq_V) 2 = [some (.inr (.inr (some (60, 0)))), none] := rfl
    rw [e0]
    repeat' (first | refine And.intro ?_ ?_ | intro _)
    all_goals try simp only [Int.reduceToNat, Int.reduceAdd, mq_up_f, mq_up_s, mq_up_e, ne_eq, Nat.reduceEqDiff, not_false_eq_true, true_and, and_true, false_and, and_false, false_or, or_false, true_or, or_true, true_implies] at *
    all_goals first | omega | rfl | exact trivial | assumption | exact sq_m sq_tabs_0
  · intro as ρ μ h
    obtain ⟨nw, sp, tl, tx, al⟩ := ρ
    obtain ⟨as0, rfl, h0⟩ := mq_pZ_spec h
    clear h
    obtain ⟨rfl, hp⟩ := mq_p0_spec h0
    clear h0
    obtain ⟨hp0, hp1⟩ := hp
    refine List.forall_mem_cons.mpr ⟨?_, ?_⟩
    · intro l st ρ' μ' cs hJ
      obtain ⟨l0, rfl, hJ0⟩ := mq_tZ_spec hJ
      clear hJ
      obtain ⟨v1, l1, rfl, hJ1⟩ := mq_tI_spec hJ0
      clear hJ0
      obtain ⟨rfl, hJz⟩ := mq_t0_spec hJ1
      clear hJ1
      obtain ⟨rfl, rfl, rfl, hc0, hc1, hc2, hc3, hc4, hm0, hm1⟩ := hJz
      omega
    exact fun _ h => absurd h List.not_mem_nil
  · intro as ρ μ h
    obtain ⟨nw, sp, tl, tx, al⟩ := ρ
    obtain ⟨as0, rfl, h0⟩ := mq_pZ_spec h
    clear h
    obtain ⟨rfl, hp⟩ := mq_p0_spec h0
    clear h0
    obtain ⟨hp0, hp1⟩ := hp
    intro hrg
    refine List.forall_mem_cons.mpr ⟨?_, ?_⟩
    · intro N l st ρ' μ' cs hJ
      obtain ⟨l0, rfl, hJ0⟩ := mq_tZ_spec hJ
      clear hJ
      obtain ⟨v1, l1, rfl, hJ1⟩ := mq_tI_spec hJ0
      clear hJ0
      obtain ⟨rfl, hJz⟩ := mq_t0_spec hJ1
      clear hJ1
      obtain ⟨rfl, rfl, rfl, hc0, hc1, hc2, hc3, hc4, hm0, hm1⟩ := hJz
      intro hbk hrl
      have hk0 : 0 ≤ μ' (69, 0) 6 ∧ μ' (69, 0) 6 ≤ 16 := hbk (69, 0) 6
      have hk1 : 0 ≤ μ' (67, 0) 0 ∧ μ' (67, 0) 0 ≤ 400 := hbk (67, 0) 0
      obtain ⟨⟨hl1a, hl1b⟩, -⟩ := hrl
      repeat' (first | refine And.intro ?_ ?_ | intro _)
      all_goals try simp only [Int.reduceToNat, Int.reduceAdd, mq_up_f, mq_up_s, mq_up_e, ne_eq, Nat.reduceEqDiff, not_false_eq_true, true_and, and_true, false_and, and_false, false_or, or_false, true_or, or_true, true_implies] at *
      all_goals first | omega | rfl | exact trivial | assumption | (obtain rfl : v1 = μ' (69, 0) 6 := (by omega); exact sq_m ⟨sq_g hc3, sq_g hc4⟩) | (have hag := ‹mq_ag _ _ _›; rw [mq_ag_at hag 69 0 (by decide +kernel)]; omega) | (have hag := ‹mq_ag _ _ _›; rw [mq_ag_at hag 69 0 (by decide +kernel), mq_ag_at hag 76 0 (by decide +kernel)]; exact hc3) | exact sq_m (sq_tabs_lay (sq_g hc4) ‹mq_ag _ _ _› (sq_g ‹_›) (by assumption) (by assumption) (sq_g ‹_›) (by omega))
    exact fun _ h => absurd h List.not_mem_nil
theorem mw0_m_laysCoaches : mq_mlA cq_m_laysCoaches 0 := ⟨kw_1050, ⟨by decide +kernel, by decide +kernel⟩, by decide +kernel, kw_1051, kw_1052, kw_771, 60, by decide +kernel, fun as ρ μ h => by obtain ⟨nw, sp, tl, tx, al⟩ := ρ; obtain ⟨t, e, _⟩ := mq_pZ_spec h; exact ⟨0, t, e⟩⟩
def pq_m_all : List mq_E := [(0, false, .aload 0), (1, false, .invokestatic 0), (4, false, .aload 0), (5, false, .invokestatic 1), (8, false, .aload 0), (9, false, .invokestatic 2), (12, false, .return_)]
def cq_m_all : mq_C := ((yX11_all, cX11_all, 1, none, { frames := 7, cells := 0, slots := 0, locals := 175 }), (1, 0, 0, 0), 19804925009534680301937098752, (fun as ρ μ => match ρ with
  | (nw, sp, tl, tx, al) => mq_pZ as 60 fun as => mq_p0 as (sq_bx (sq_pl (μ (69, 0)) (μ (76, 0)) 0) ∧ True)),
  (fun as ρ μ r ρ' μ' => match as, ρ, ρ' with
  | [.inr (.inr (some (_, _)))], (nw, sp, tl, tx, al), (nw', sp', tl', tx', al') => [sq_bx (sq_T μ'), sq_bx (sq_GC μ' 16)]
  | _, _, _ => []))
def kq_m_all : List mq_V → mq_R → mq_M → List mq_Cu := fun as ρ μ => match as, ρ with
  | [.inr (.inr (some (_, _)))], (nw, sp, tl, tx, al) => []
  | _, _ => []
set_option maxHeartbeats 16000000 in
set_option maxRecDepth 100000 in
theorem vq_m_all (lc : Launch) (h_m_laysCoaches : mq_Ct lc cq_m_laysCoaches) (h_m_right : mq_Ct lc cq_m_right) (h_m_goes : mq_Ct lc cq_m_goes) : mq_Ct lc cq_m_all := by
  refine mq_method (lc := lc) (P := pq_m_all) (cl := [cq_m_laysCoaches, cq_m_right, cq_m_goes]) (T := ([], [], [], [(455, 0, 0), (458, 1, 0), (461, 2, 0)], [], [])) (fuel := 400) (cuts := kq_m_all) (by decide) rfl ⟨rfl, rfl⟩ (List.forall_mem_cons.mpr ⟨h_m_laysCoaches, (List.forall_mem_cons.mpr ⟨h_m_right, (List.forall_mem_cons.mpr ⟨h_m_goes, (fun _ h => absurd h List.not_mem_nil)⟩)⟩)⟩) ⟨(fun _ h => absurd h List.not_mem_nil), (fun _ h => absurd h List.not_mem_nil), (fun _ h => absurd h List.not_mem_nil), (List.forall_mem_cons.mpr ⟨mq_ml0 rfl mw0_m_laysCoaches kw_1053, (List.forall_mem_cons.mpr ⟨mq_ml0 rfl mw0_m_right kw_1057, (List.forall_mem_cons.mpr ⟨mq_ml0 rfl mw0_m_goes kw_1061, (fun _ h => absurd h List.not_mem_nil)⟩)⟩)⟩), (fun _ h => absurd h List.not_mem_nil), (fun _ h => absurd h List.not_mem_nil)⟩ (by decide +kernel) ⟨_, _, rfl⟩ ?_ ?_ ?_ ?_
  · intro as ρ μ h
    obtain ⟨nw, sp, tl, tx, al⟩ := ρ
    obtain ⟨as0, rfl, h0⟩ := mq_pZ_spec h
    clear h
    obtain ⟨rfl, hp⟩ := mq_p0_spec h0
    clear h0
    obtain ⟨hp0, hp1⟩ := hp
    rfl
  · intro as ρ μ h
    obtain ⟨nw, sp, tl, tx, al⟩ := ρ
    obtain ⟨as0, rfl, h0⟩ := mq_pZ_spec h
    clear h
    obtain ⟨rfl, hp⟩ := mq_p0_spec h0
    clear h0
    obtain ⟨hp0, hp1⟩ := hp
    intro hrg
    intro hbk
    have e0 : mq_l0 ([.inr (.inr (some (60, 0)))] : List mq_V) 1 = [some (.inr (.inr (some (60, 0))))] := rfl
    rw [e0]
    repeat' (first | refine And.intro ?_ ?_ | intro _)
    all_goals try simp only [Int.reduceToNat, Int.reduceAdd, mq_up_f, mq_up_s, mq_up_e, ne_eq, Nat.reduceEqDiff, not_false_eq_true, true_and, and_true, false_and, and_false, false_or, or_false, true_or, or_true, true_implies] at *
    all_goals first | omega | rfl | exact trivial | assumption | exact sq_m (sq_T_ag0 ‹mq_ag _ _ _› (by decide +kernel) (sq_g ‹_›))
  · intro as ρ μ h
    obtain ⟨nw, sp, tl, tx, al⟩ := ρ
    obtain ⟨as0, rfl, h0⟩ := mq_pZ_spec h
    clear h
    obtain ⟨rfl, hp⟩ := mq_p0_spec h0
    clear h0
    obtain ⟨hp0, hp1⟩ := hp
    exact fun _ h => absurd h List.not_mem_nil
  · intro as ρ μ h
    obtain ⟨nw, sp, tl, tx, al⟩ := ρ
    obtain ⟨as0, rfl, h0⟩ := mq_pZ_spec h
    clear h
    obtain ⟨rfl, hp⟩ := mq_p0_spec h0
    clear h0
    obtain ⟨hp0, hp1⟩ := hp
    intro hrg
    exact fun _ h => absurd h List.not_mem_nil
theorem mw0_m_all : mq_mlA cq_m_all 0 := ⟨kw_1073, ⟨by decide +kernel, by decide +kernel⟩, by decide +kernel, kw_1074, kw_1075, kw_771, 60, by decide +kernel, fun as ρ μ h => by obtain ⟨nw, sp, tl, tx, al⟩ := ρ; obtain ⟨t, e, _⟩ := mq_pZ_spec h; exact ⟨0, t, e⟩⟩
def pq_m_isWrong : List mq_E := [(0, false, .aload 0), (1, false, .invokestatic 0), (4, false, .aload 0), (5, false, .invokeinterface 11 47), (8, false, .iload 1), (9, false, .iload 2), (10, false, .iastore), (11, false, .aload 0), (12, false, .iload 3), (13, false, .multianewarray 11 48), (16, false, .aload 0), (17, false, .invokestatic 1), (20, false, .aload 0), (21, false, .invokeinterface 11 49), (24, false, .iconst (-1)), (25, false, .if_icmp .eq (Int.ofNat 32)), (28, false, .iconst 1), (29, false, .goto (Int.ofNat 33)), (32, false, .iconst 0), (33, false, .ireturn)]
def cq_m_isWrong : mq_C := ((yX11_isWrong, cX11_isWrong, 4, (some .boolean), { frames := 7, cells := 0, slots := 0, locals := 175 }), (4, 1, 0, 0), 19804622778079776644643422208, (fun as ρ μ => match ρ with
  | (nw, sp, tl, tx, al) => mq_pZ as 60 fun as => mq_pI as fun c as => mq_pI as fun s as => mq_pI as fun n as => mq_p0 as (0 ≤ c ∧ c ≤ 15 ∧ 0 ≤ s ∧ s ≤ 2 ∧ 0 ≤ n ∧ n ≤ 99 ∧ sq_bx (sq_T μ))),
  (fun as ρ μ r ρ' μ' => match as, ρ, ρ' with
  | [.inr (.inr (some (_, _))), .inl c, .inl s, .inl n], (nw, sp, tl, tx, al), (nw', sp', tl', tx', al') => [0 ≤ r, r ≤ 1, sq_bx (sq_T μ')]
  | _, _, _ => []))
def kq_m_isWrong : List mq_V → mq_R → mq_M → List mq_Cu := fun as ρ μ => match as, ρ with
  | [.inr (.inr (some (_, _))), .inl c, .inl s, .inl n], (nw, sp, tl, tx, al) => []
  | _, _ => []
set_option maxHeartbeats 16000000 in
set_option maxRecDepth 100000 in
theorem vq_m_isWrong (lc : Launch) (h_m_right : mq_Ct lc cq_m_right) (h_m_goes : mq_Ct lc cq_m_goes) : mq_Ct lc cq_m_isWrong := by
  refine mq_method (lc := lc) (P := pq_m_isWrong) (cl := [cq_m_right, cq_m_goes]) (T := ([(114, 11, 47), (393, 11, 48), (401, 11, 49)], [], [], [(458, 0, 0), (461, 1, 0)], [], [])) (fuel := 400) (cuts := kq_m_isWrong) (by decide) rfl ⟨rfl, rfl⟩ (List.forall_mem_cons.mpr ⟨h_m_right, (List.forall_mem_cons.mpr ⟨h_m_goes, (fun _ h => absurd h List.not_mem_nil)⟩)⟩) ⟨(List.forall_mem_cons.mpr ⟨⟨_, rfl, by decide, kw_968⟩, (List.forall_mem_cons.mpr ⟨⟨_, rfl, by decide, kw_969⟩, (List.forall_mem_cons.mpr ⟨⟨_, rfl, by decide, kw_1027⟩, (fun _ h => absurd h List.not_mem_nil)⟩)⟩)⟩), (fun _ h => absurd h List.not_mem_nil), (fun _ h => absurd h List.not_mem_nil), (List.forall_mem_cons.mpr ⟨mq_ml0 rfl mw0_m_right kw_1057, (List.forall_mem_cons.mpr ⟨mq_ml0 rfl mw0_m_goes kw_1061, (fun _ h => absurd h List.not_mem_nil)⟩)⟩), (fun _ h => absurd h List.not_mem_nil), (fun _ h => absurd h List.not_mem_nil)⟩ (by decide +kernel) ⟨_, _, rfl⟩ ?_ ?_ ?_ ?_
  · intro as ρ μ h
    obtain ⟨nw, sp, tl, tx, al⟩ := ρ
    obtain ⟨as0, rfl, h0⟩ := mq_pZ_spec h
    clear h
    obtain ⟨c, as1, rfl, h1⟩ := mq_pI_spec h0
    clear h0
    obtain ⟨s, as2, rfl, h2⟩ := mq_pI_spec h1
    clear h1
    obtain ⟨n, as3, rfl, h3⟩ := mq_pI_spec h2
    clear h2
    obtain ⟨rfl, hp⟩ := mq_p0_spec h3
    clear h3
    obtain ⟨hp0, hp1, hp2, hp3, hp4, hp5, hp6⟩ := hp
    rfl
  · intro as ρ μ h
    obtain ⟨nw, sp, tl, tx, al⟩ := ρ
    obtain ⟨as0, rfl, h0⟩ := mq_pZ_spec h
    clear h
    obtain ⟨c, as1, rfl, h1⟩ := mq_pI_spec h0
    clear h0
    obtain ⟨s, as2, rfl, h2⟩ := mq_pI_spec h1
    clear h1
    obtain ⟨n, as3, rfl, h3⟩ := mq_pI_spec h2
    clear h2
    obtain ⟨rfl, hp⟩ := mq_p0_spec h3
    clear h3
    obtain ⟨hp0, hp1, hp2, hp3, hp4, hp5, hp6⟩ := hp
    intro hrg
    obtain ⟨⟨ha1a, ha1b⟩, ⟨ha2a, ha2b⟩, ⟨ha3a, ha3b⟩, -⟩ := hrg
    intro hbk
    have e0 : mq_l0 ([.inr (.inr (some (60, 0))), .inl c, .inl s, .inl n] : List mq_V) 4 = [some (.inr (.inr (some (60, 0)))), some (.inl c), some (.inl s), some (.inl n)] := rfl
    rw [e0]
    repeat' (first | refine And.intro ?_ ?_ | intro _)
    all_goals try simp only [Int.reduceToNat, Int.reduceAdd, mq_up_f, mq_up_s, mq_up_e, ne_eq, Nat.reduceEqDiff, not_false_eq_true, true_and, and_true, false_and, and_false, false_or, or_false, true_or, or_true, true_implies] at *
    all_goals first | omega | rfl | exact trivial | assumption | (have hT := sq_T_ag0 ‹mq_ag _ _ _› (by decide +kernel) (sq_g hp6); exact sq_m (sq_T_ag (md := 2 ^ 60 + 2 ^ 92) (by repeat (first | exact mq_ag_rf _ _ | refine mq_ag_upn ?_ (by decide +kernel))) (by decide +kernel) (by simp [mq_up]) (by simp [mq_up]) hT))
  · intro as ρ μ h
    obtain ⟨nw, sp, tl, tx, al⟩ := ρ
    obtain ⟨as0, rfl, h0⟩ := mq_pZ_spec h
    clear h
    obtain ⟨c, as1, rfl, h1⟩ := mq_pI_spec h0
    clear h0
    obtain ⟨s, as2, rfl, h2⟩ := mq_pI_spec h1
    clear h1
    obtain ⟨n, as3, rfl, h3⟩ := mq_pI_spec h2
    clear h2
    obtain ⟨rfl, hp⟩ := mq_p0_spec h3
    clear h3
    obtain ⟨hp0, hp1, hp2, hp3, hp4, hp5, hp6⟩ := hp
    exact fun _ h => absurd h List.not_mem_nil
  · intro as ρ μ h
    obtain ⟨nw, sp, tl, tx, al⟩ := ρ
    obtain ⟨as0, rfl, h0⟩ := mq_pZ_spec h
    clear h
    obtain ⟨c, as1, rfl, h1⟩ := mq_pI_spec h0
    clear h0
    obtain ⟨s, as2, rfl, h2⟩ := mq_pI_spec h1
    clear h1
    obtain ⟨n, as3, rfl, h3⟩ := mq_pI_spec h2
    clear h2
    obtain ⟨rfl, hp⟩ := mq_p0_spec h3
    clear h3
    obtain ⟨hp0, hp1, hp2, hp3, hp4, hp5, hp6⟩ := hp
    intro hrg
    obtain ⟨⟨ha1a, ha1b⟩, ⟨ha2a, ha2b⟩, ⟨ha3a, ha3b⟩, -⟩ := hrg
    exact fun _ h => absurd h List.not_mem_nil
theorem mw0_m_isWrong : mq_mlA cq_m_isWrong 0 := ⟨kw_1085, ⟨by decide +kernel, by decide +kernel⟩, by decide +kernel, kw_1086, kw_1087, kw_771, 60, by decide +kernel, fun as ρ μ h => by obtain ⟨nw, sp, tl, tx, al⟩ := ρ; obtain ⟨t, e, _⟩ := mq_pZ_spec h; exact ⟨0, t, e⟩⟩
def pq_m_needs : List mq_E := [(0, false, .aload 0), (1, false, .invokestatic 0), (4, false, .aload 0), (5, false, .iload 2), (6, false, .multianewarray 11 53), (9, false, .aload 0), (10, false, .invokestatic 1), (13, false, .aload 0), (14, false, .iconst 0), (15, false, .multianewarray 11 53), (18, false, .aload 0), (19, false, .invokeinterface 11 52), (22, false, .iload 1), (23, false, .iaload), (24, false, .aload 0), (25, false, .invokeinterface 11 25), (28, false, .iconst 3), (29, false, .iload 1), (30, false, .imul), (31, false, .jsr 0), (32, false, .isub), (33, false, .ireturn)]
def cq_m_needs : mq_C := ((yX11_needs, cX11_needs, 3, (some .int), { frames := 7, cells := 0, slots := 0, locals := 175 }), (3, 1, 0, 0), 19804622778079776644643422208, (fun as ρ μ => match ρ with
  | (nw, sp, tl, tx, al) => mq_pZ as 60 fun as => mq_pI as fun t as => mq_pI as fun b as => mq_p0 as (0 ≤ t ∧ t ≤ 4 ∧ 0 ≤ b ∧ b ≤ 1 ∧ sq_bx (sq_T μ))),
  (fun as ρ μ r ρ' μ' => match as, ρ, ρ' with
  | [.inr (.inr (some (_, _))), .inl t, .inl b], (nw, sp, tl, tx, al), (nw', sp', tl', tx', al') => [sq_bx (sq_T μ')]
  | _, _, _ => []))
def kq_m_needs : List mq_V → mq_R → mq_M → List mq_Cu := fun as ρ μ => match as, ρ with
  | [.inr (.inr (some (_, _))), .inl t, .inl b], (nw, sp, tl, tx, al) => []
  | _, _ => []
set_option maxHeartbeats 16000000 in
set_option maxRecDepth 100000 in
theorem vq_m_needs (lc : Launch) (h_m_right : mq_Ct lc cq_m_right) (h_m_goes : mq_Ct lc cq_m_goes) : mq_Ct lc cq_m_needs := by
  refine mq_method (lc := lc) (P := pq_m_needs) (cl := [cq_m_right, cq_m_goes]) (T := ([(431, 11, 53), (117, 11, 52), (58, 11, 25)], [], [], [(458, 0, 0), (461, 1, 0)], [], [])) (fuel := 400) (cuts := kq_m_needs) (by decide) rfl ⟨rfl, rfl⟩ (List.forall_mem_cons.mpr ⟨h_m_right, (List.forall_mem_cons.mpr ⟨h_m_goes, (fun _ h => absurd h List.not_mem_nil)⟩)⟩) ⟨(List.forall_mem_cons.mpr ⟨⟨_, rfl, by decide, kw_1009⟩, (List.forall_mem_cons.mpr ⟨⟨_, rfl, by decide, kw_1010⟩, (List.forall_mem_cons.mpr ⟨⟨_, rfl, by decide, kw_840⟩, (fun _ h => absurd h List.not_mem_nil)⟩)⟩)⟩), (fun _ h => absurd h List.not_mem_nil), (fun _ h => absurd h List.not_mem_nil), (List.forall_mem_cons.mpr ⟨mq_ml0 rfl mw0_m_right kw_1057, (List.forall_mem_cons.mpr ⟨mq_ml0 rfl mw0_m_goes kw_1061, (fun _ h => absurd h List.not_mem_nil)⟩)⟩), (fun _ h => absurd h List.not_mem_nil), (fun _ h => absurd h List.not_mem_nil)⟩ (by decide +kernel) ⟨_, _, rfl⟩ ?_ ?_ ?_ ?_
  · intro as ρ μ h
    obtain ⟨nw, sp, tl, tx, al⟩ := ρ
    obtain ⟨as0, rfl, h0⟩ := mq_pZ_spec h
    clear h
    obtain ⟨t, as1, rfl, h1⟩ := mq_pI_spec h0
    clear h0
    obtain ⟨b, as2, rfl, h2⟩ := mq_pI_spec h1
    clear h1
    obtain ⟨rfl, hp⟩ := mq_p0_spec h2
    clear h2
    obtain ⟨hp0, hp1, hp2, hp3, hp4⟩ := hp
    rfl
  · intro as ρ μ h
    obtain ⟨nw, sp, tl, tx, al⟩ := ρ
    obtain ⟨as0, rfl, h0⟩ := mq_pZ_spec h
    clear h
    obtain ⟨t, as1, rfl, h1⟩ := mq_pI_spec h0
    clear h0
    obtain ⟨b, as2, rfl, h2⟩ := mq_pI_spec h1
    clear h1
    obtain ⟨rfl, hp⟩ := mq_p0_spec h2
    clear h2
    obtain ⟨hp0, hp1, hp2, hp3, hp4⟩ := hp
    intro hrg
    obtain ⟨⟨ha1a, ha1b⟩, ⟨ha2a, ha2b⟩, -⟩ := hrg
    intro hbk
    have e0 : mq_l0 ([.inr (.inr (some (60, 0))), .inl t, .inl b] : List mq_V) 3 = [some (.inr (.inr (some (60, 0)))), some (.inl t), some (.inl b)] := rfl
    rw [e0]
    repeat' (first | refine And.intro ?_ ?_ | intro _)
    all_goals try simp only [Int.reduceToNat, Int.reduceAdd, mq_up_f, mq_up_s, mq_up_e, ne_eq, Nat.reduceEqDiff, not_false_eq_true, true_and, and_true, false_and, and_false, false_or, or_false, true_or, or_true, true_implies] at *
    all_goals first | omega | rfl | exact trivial | assumption | (have hT := sq_T_ag0 ‹mq_ag _ _ _› (by decide +kernel) (sq_g hp4); exact sq_m (sq_T_ag (md := 2 ^ 60) (by repeat (first | exact mq_ag_rf _ _ | refine mq_ag_upn ?_ (by decide +kernel))) (by decide +kernel) (by simp [mq_up]) (by simp [mq_up]) hT)) | (have hT := sq_g ‹sq_bx (sq_T _)›; exact sq_m (sq_T_ag (md := 2 ^ 60) (by repeat (first | exact mq_ag_rf _ _ | refine mq_ag_upn ?_ (by decide +kernel))) (by decide +kernel) (by simp [mq_up]) (by simp [mq_up]) hT))
  · intro as ρ μ h
    obtain ⟨nw, sp, tl, tx, al⟩ := ρ
    obtain ⟨as0, rfl, h0⟩ := mq_pZ_spec h
    clear h
    obtain ⟨t, as1, rfl, h1⟩ := mq_pI_spec h0
    clear h0
    obtain ⟨b, as2, rfl, h2⟩ := mq_pI_spec h1
    clear h1
    obtain ⟨rfl, hp⟩ := mq_p0_spec h2
    clear h2
    obtain ⟨hp0, hp1, hp2, hp3, hp4⟩ := hp
    exact fun _ h => absurd h List.not_mem_nil
  · intro as ρ μ h
    obtain ⟨nw, sp, tl, tx, al⟩ := ρ
    obtain ⟨as0, rfl, h0⟩ := mq_pZ_spec h
    clear h
    obtain ⟨t, as1, rfl, h1⟩ := mq_pI_spec h0
    clear h0
    obtain ⟨b, as2, rfl, h2⟩ := mq_pI_spec h1
    clear h1
    obtain ⟨rfl, hp⟩ := mq_p0_spec h2
    clear h2
    obtain ⟨hp0, hp1, hp2, hp3, hp4⟩ := hp
    intro hrg
    obtain ⟨⟨ha1a, ha1b⟩, ⟨ha2a, ha2b⟩, -⟩ := hrg
    exact fun _ h => absurd h List.not_mem_nil
theorem mw0_m_needs : mq_mlA cq_m_needs 0 := ⟨kw_1089, ⟨by decide +kernel, by decide +kernel⟩, by decide +kernel, kw_1090, kw_1091, kw_771, 60, by decide +kernel, fun as ρ μ h => by obtain ⟨nw, sp, tl, tx, al⟩ := ρ; obtain ⟨t, e, _⟩ := mq_pZ_spec h; exact ⟨0, t, e⟩⟩
def pq_m_draw : List mq_E := [(0, false, .aload 0), (1, false, .goto_w 1103515245), (4, false, .aload 0), (5, false, .invokeinterface 11 57), (8, false, .lmul), (9, false, .goto_w 12345), (12, false, .ladd), (13, false, .goto_w 2147483648), (16, false, .lrem), (17, false, .multianewarray 11 57), (20, false, .aload 0), (21, false, .invokeinterface 11 57), (24, false, .goto_w 65536), (27, false, .ldiv), (28, false, .goto_w 100), (31, false, .lrem), (32, false, .l2i), (33, false, .ireturn)]
def cq_m_draw : mq_C := ((yX11_draw, cX11_draw, 1, (some .int), { frames := 0, cells := 0, slots := 0, locals := 0 }), (1, 1, 0, 0), 1152921504606846976, (fun as ρ μ => match ρ with
  | (nw, sp, tl, tx, al) => mq_pZ as 60 fun as => mq_p0 as (sq_bx (sq_T μ) ∧ True)),
  (fun as ρ μ r ρ' μ' => match as, ρ, ρ' with
  | [.inr (.inr (some (_, _)))], (nw, sp, tl, tx, al), (nw', sp', tl', tx', al') => [0 ≤ r, r ≤ 99, sq_bx (sq_T μ')]
  | _, _, _ => []))
def kq_m_draw : List mq_V → mq_R → mq_M → List mq_Cu := fun as ρ μ => match as, ρ with
  | [.inr (.inr (some (_, _)))], (nw, sp, tl, tx, al) => []
  | _, _ => []
set_option maxHeartbeats 16000000 in
set_option maxRecDepth 100000 in
theorem vq_m_draw (lc : Launch)  : mq_Ct lc cq_m_draw := by
  refine mq_method (lc := lc) (P := pq_m_draw) (cl := []) (T := ([(505, 11, 57)], [], [(312, 100), (503, 1103515245), (508, 12345), (510, 2147483648), (512, 65536)], [], [], [])) (fuel := 400) (cuts := kq_m_draw) (by decide) rfl ⟨rfl, rfl⟩ (fun _ h => absurd h List.not_mem_nil) ⟨(List.forall_mem_cons.mpr ⟨⟨_, rfl, by decide, kw_1062⟩, (fun _ h => absurd h List.not_mem_nil)⟩), (fun _ h => absurd h List.not_mem_nil), (List.forall_mem_cons.mpr ⟨kw_839, (List.forall_mem_cons.mpr ⟨kw_1063, (List.forall_mem_cons.mpr ⟨kw_1064, (List.forall_mem_cons.mpr ⟨kw_1065, (List.forall_mem_cons.mpr ⟨kw_1066, (fun _ h => absurd h List.not_mem_nil)⟩)⟩)⟩)⟩)⟩), (fun _ h => absurd h List.not_mem_nil), (fun _ h => absurd h List.not_mem_nil), (fun _ h => absurd h List.not_mem_nil)⟩ (by decide +kernel) ⟨_, _, rfl⟩ ?_ ?_ ?_ ?_
  · intro as ρ μ h
    obtain ⟨nw, sp, tl, tx, al⟩ := ρ
    obtain ⟨as0, rfl, h0⟩ := mq_pZ_spec h
    clear h
    obtain ⟨rfl, hp⟩ := mq_p0_spec h0
    clear h0
    obtain ⟨hp0, hp1⟩ := hp
    rfl
  · intro as ρ μ h
    obtain ⟨nw, sp, tl, tx, al⟩ := ρ
    obtain ⟨as0, rfl, h0⟩ := mq_pZ_spec h
    clear h
    obtain ⟨rfl, hp⟩ := mq_p0_spec h0
    clear h0
    obtain ⟨hp0, hp1⟩ := hp
    intro hrg
    intro hbk
    have e0 : mq_l0 ([.inr (.inr (some (60, 0)))] : List mq_V) 1 = [some (.inr (.inr (some (60, 0))))] := rfl
    rw [e0]
    repeat' (first | refine And.intro ?_ ?_ | intro _)
    all_goals try simp only [Int.reduceToNat, Int.reduceAdd, mq_up_f, mq_up_s, mq_up_e, ne_eq, Nat.reduceEqDiff, not_false_eq_true, true_and, and_true, false_and, and_false, false_or, or_false, true_or, or_true, true_implies] at *
    all_goals first | omega | rfl | exact trivial | assumption | exact sq_m (sq_T_ag (md := 2 ^ 60) (by repeat (first | exact mq_ag_rf _ _ | refine mq_ag_upn ?_ (by decide +kernel))) (by decide +kernel) (by simp [mq_up]) (by simp [mq_up]) (sq_g hp0))
  · intro as ρ μ h
    obtain ⟨nw, sp, tl, tx, al⟩ := ρ
    obtain ⟨as0, rfl, h0⟩ := mq_pZ_spec h
    clear h
    obtain ⟨rfl, hp⟩ := mq_p0_spec h0
    clear h0
    obtain ⟨hp0, hp1⟩ := hp
    exact fun _ h => absurd h List.not_mem_nil
  · intro as ρ μ h
    obtain ⟨nw, sp, tl, tx, al⟩ := ρ
    obtain ⟨as0, rfl, h0⟩ := mq_pZ_spec h
    clear h
    obtain ⟨rfl, hp⟩ := mq_p0_spec h0
    clear h0
    obtain ⟨hp0, hp1⟩ := hp
    intro hrg
    exact fun _ h => absurd h List.not_mem_nil
theorem mw0_m_draw : mq_mlA cq_m_draw 0 := ⟨kw_1067, ⟨by decide +kernel, by decide +kernel⟩, by decide +kernel, kw_1068, kw_1069, kw_771, 60, by decide +kernel, fun as ρ μ h => by obtain ⟨nw, sp, tl, tx, al⟩ := ρ; obtain ⟨t, e, _⟩ := mq_pZ_spec h; exact ⟨0, t, e⟩⟩
def pq_m_goesBy : List mq_E := [(0, false, .aload 0), (1, false, .invokestatic 0), (4, false, .aload 0), (5, false, .lload 1), (6, false, .multianewarray 11 57), (9, false, .aload 0), (10, false, .iload 4), (12, false, .multianewarray 11 48), (15, false, .iconst 0), (16, false, .istore 5), (18, true, .iload 5), (20, false, .aload 0), (21, false, .invokeinterface 11 19), (24, false, .iconst 6), (26, false, .jsr 6), (27, false, .if_icmp .ge (Int.ofNat 61)), (30, false, .aload 0), (31, false, .invokeinterface 11 47), (34, false, .iload 5), (36, false, .aload 0), (37, false, .invokestatic 1), (40, false, .iload 3), (41, false, .if_icmp .ge (Int.ofNat 53)), (44, false, .aload 0), (45, false, .invokestatic 1), (48, false, .iconst 3), (49, false, .irem), (50, false, .goto (Int.ofNat 54)), (53, false, .iconst (-1)), (54, false, .iastore), (55, false, .iinc 5 1), (58, false, .goto (Int.ofNat 18)), (61, false, .aload 0), (62, false, .invokestatic 2), (65, false, .return_)]
def cq_m_goesBy : mq_C := ((yX11_goesBy, cX11_goesBy, 6, none, { frames := 7, cells := 0, slots := 0, locals := 175 }), (4, 0, 0, 0), 19804622778079776644643422208, (fun as ρ μ => match ρ with
  | (nw, sp, tl, tx, al) => mq_pZ as 60 fun as => mq_pL as fun x as => mq_pI as fun o as => mq_pI as fun y as => mq_p0 as (0 ≤ x ∧ x ≤ 2147483647 ∧ 0 ≤ y ∧ y ≤ 99 ∧ sq_bx (sq_T μ))),
  (fun as ρ μ r ρ' μ' => match as, ρ, ρ' with
  | [.inr (.inr (some (_, _))), .inr (.inl x), .inl o, .inl y], (nw, sp, tl, tx, al), (nw', sp', tl', tx', al') => [sq_bx (sq_T μ')]
  | _, _, _ => []))
def kq_m_goesBy : List mq_V → mq_R → mq_M → List mq_Cu := fun as ρ μ => match as, ρ with
  | [.inr (.inr (some (_, _))), .inr (.inl x), .inl o, .inl y], (nw, sp, tl, tx, al) => [(18, [true, true, false, true, true, true], fun N l st ρ' μ' cs => mq_tZ l 60 fun l => mq_tL l fun v1 l => mq_tN l fun l => mq_tI l fun v3 l => mq_tI l fun v4 l => mq_tI l fun v5 l => mq_t0 l (st = [] ∧ ρ' = (nw, sp, tl, tx, al) ∧ cs = 0 ∧ v1 = x ∧ v3 = o ∧ v4 = y ∧ 0 ≤ v5 ∧ v5 ≤ 16 ∧ sq_bx (sq_T μ') ∧ 0 ≤ (16 - v5 : Int) ∧ (16 - v5 : Int) < (N : Int)))]
  | _, _ => []
set_option maxHeartbeats 16000000 in
set_option maxRecDepth 100000 in
theorem vq_m_goesBy (lc : Launch) (h_m_right : mq_Ct lc cq_m_right) (h_m_draw : mq_Ct lc cq_m_draw) (h_m_goes : mq_Ct lc cq_m_goes) : mq_Ct lc cq_m_goesBy := by
  refine mq_method (lc := lc) (P := pq_m_goesBy) (cl := [cq_m_right, cq_m_draw, cq_m_goes]) (T := ([(505, 11, 57), (393, 11, 48), (40, 11, 19), (114, 11, 47)], [], [], [(458, 0, 0), (514, 1, 0), (461, 2, 0)], [], [])) (fuel := 400) (cuts := kq_m_goesBy) (by decide) rfl ⟨rfl, rfl⟩ (List.forall_mem_cons.mpr ⟨h_m_right, (List.forall_mem_cons.mpr ⟨h_m_draw, (List.forall_mem_cons.mpr ⟨h_m_goes, (fun _ h => absurd h List.not_mem_nil)⟩)⟩)⟩) ⟨(List.forall_mem_cons.mpr ⟨⟨_, rfl, by decide, kw_1062⟩, (List.forall_mem_cons.mpr ⟨⟨_, rfl, by decide, kw_969⟩, (List.forall_mem_cons.mpr ⟨⟨_, rfl, by decide, kw_837⟩, (List.forall_mem_cons.mpr ⟨⟨_, rfl, by decide, kw_968⟩, (fun _ h => absurd h List.not_mem_nil)⟩)⟩)⟩)⟩), (fun _ h => absurd h List.not_mem_nil), (fun _ h => absurd h List.not_mem_nil), (List.forall_mem_cons.mpr ⟨mq_ml0 rfl mw0_m_right kw_1057, (List.forall_mem_cons.mpr ⟨mq_ml0 rfl mw0_m_draw kw_1070, (List.forall_mem_cons.mpr ⟨mq_ml0 rfl mw0_m_goes kw_1061, (fun _ h => absurd h List.not_mem_nil)⟩)⟩)⟩), (fun _ h => absurd h List.not_mem_nil), (fun _ h => absurd h List.not_mem_nil)⟩ (by decide +kernel) ⟨_, _, rfl⟩ ?_ ?_ ?_ ?_
  · intro as ρ μ h
    obtain ⟨nw, sp, tl, tx, al⟩ := ρ
    obtain ⟨as0, rfl, h0⟩ := mq_pZ_spec h
    clear h
    obtain ⟨x, as1, rfl, h1⟩ := mq_pL_spec h0
    clear h0
    obtain ⟨o, as2, rfl, h2⟩ := mq_pI_spec h1
    clear h1
    obtain ⟨y, as3, rfl, h3⟩ := mq_pI_spec h2
    clear h2
    obtain ⟨rfl, hp⟩ := mq_p0_spec h3
    clear h3
    obtain ⟨hp0, hp1, hp2, hp3, hp4⟩ := hp
    rfl
  · intro as ρ μ h
    obtain ⟨nw, sp, tl, tx, al⟩ := ρ
    obtain ⟨as0, rfl, h0⟩ := mq_pZ_spec h
    clear h
    obtain ⟨x, as1, rfl, h1⟩ := mq_pL_spec h0
    clear h0
    obtain ⟨o, as2, rfl, h2⟩ := mq_pI_spec h1
    clear h1
    obtain ⟨y, as3, rfl, h3⟩ := mq_pI_spec h2
    clear h2
    obtain ⟨rfl, hp⟩ := mq_p0_spec h3
    clear h3
    obtain ⟨hp0, hp1, hp2, hp3, hp4⟩ := hp
    intro hrg
    obtain ⟨⟨ha1a, ha1b⟩, ⟨ha2a, ha2b⟩, ⟨ha3a, ha3b⟩, -⟩ := hrg
    intro hbk
    have hk0 : 0 ≤ μ (69, 0) 6 ∧ μ (69, 0) 6 ≤ 16 := hbk (69, 0) 6
    have e0 : mq_l0 ([.inr (.inr (some (60, 0))), .inr (.inl x), .inl o, .inl y] : List mq_V) 6 = [some (.inr (.inr (some (60, 0)))), some (.inr (.inl x)), none, some (.inl o), some (.inl y), none] := rfl
    rw [e0]
    repeat' (first | refine And.intro ?_ ?_ | intro _)
    all_goals try simp only [Int.reduceToNat, Int.reduceAdd, mq_up_f, mq_up_s, mq_up_e, ne_eq, Nat.reduceEqDiff, not_false_eq_true, true_and, and_true, false_and, and_false, false_or, or_false, true_or, or_true, true_implies] at *
    all_goals first | omega | rfl | exact trivial | assumption | (have hT := sq_T_ag0 ‹mq_ag _ _ _› (by decide +kernel) (sq_g hp4); exact sq_m (sq_T_ag (md := 2 ^ 60) (by repeat (first | exact mq_ag_rf _ _ | refine mq_ag_upn ?_ (by decide +kernel))) (by decide +kernel) (by simp [mq_up]) (by simp [mq_up]) hT))
  · intro as ρ μ h
    obtain ⟨nw, sp, tl, tx, al⟩ := ρ
    obtain ⟨as0, rfl, h0⟩ := mq_pZ_spec h
    clear h
    obtain ⟨x, as1, rfl, h1⟩ := mq_pL_spec h0
    clear h0
    obtain ⟨o, as2, rfl, h2⟩ := mq_pI_spec h1
    clear h1
    obtain ⟨y, as3, rfl, h3⟩ := mq_pI_spec h2
    clear h2
    obtain ⟨rfl, hp⟩ := mq_p0_spec h3
    clear h3
    obtain ⟨hp0, hp1, hp2, hp3, hp4⟩ := hp
    refine List.forall_mem_cons.mpr ⟨?_, ?_⟩
    · intro l st ρ' μ' cs hJ
      obtain ⟨l0, rfl, hJ0⟩ := mq_tZ_spec hJ
      clear hJ
      obtain ⟨v1, l1, rfl, hJ1⟩ := mq_tL_spec hJ0
      clear hJ0
      obtain ⟨l2, rfl, hJ2⟩ := mq_tN_spec hJ1
      clear hJ1
      obtain ⟨v3, l3, rfl, hJ3⟩ := mq_tI_spec hJ2
      clear hJ2
      obtain ⟨v4, l4, rfl, hJ4⟩ := mq_tI_spec hJ3
      clear hJ3
      obtain ⟨v5, l5, rfl, hJ5⟩ := mq_tI_spec hJ4
      clear hJ4
      obtain ⟨rfl, hJz⟩ := mq_t0_spec hJ5
      clear hJ5
      obtain ⟨rfl, rfl, rfl, hc0, hc1, hc2, hc3, hc4, hc5, hm0, hm1⟩ := hJz
      omega
    exact fun _ h => absurd h List.not_mem_nil
  · intro as ρ μ h
    obtain ⟨nw, sp, tl, tx, al⟩ := ρ
    obtain ⟨as0, rfl, h0⟩ := mq_pZ_spec h
    clear h
    obtain ⟨x, as1, rfl, h1⟩ := mq_pL_spec h0
    clear h0
    obtain ⟨o, as2, rfl, h2⟩ := mq_pI_spec h1
    clear h1
    obtain ⟨y, as3, rfl, h3⟩ := mq_pI_spec h2
    clear h2
    obtain ⟨rfl, hp⟩ := mq_p0_spec h3
    clear h3
    obtain ⟨hp0, hp1, hp2, hp3, hp4⟩ := hp
    intro hrg
    obtain ⟨⟨ha1a, ha1b⟩, ⟨ha2a, ha2b⟩, ⟨ha3a, ha3b⟩, -⟩ := hrg
    refine List.forall_mem_cons.mpr ⟨?_, ?_⟩
    · intro N l st ρ' μ' cs hJ
      obtain ⟨l0, rfl, hJ0⟩ := mq_tZ_spec hJ
      clear hJ
      obtain ⟨v1, l1, rfl, hJ1⟩ := mq_tL_spec hJ0
      clear hJ0
      obtain ⟨l2, rfl, hJ2⟩ := mq_tN_spec hJ1
      clear hJ1
      obtain ⟨v3, l3, rfl, hJ3⟩ := mq_tI_spec hJ2
      clear hJ2
      obtain ⟨v4, l4, rfl, hJ4⟩ := mq_tI_spec hJ3
      clear hJ3
      obtain ⟨v5, l5, rfl, hJ5⟩ := mq_tI_spec hJ4
      clear hJ4
      obtain ⟨rfl, hJz⟩ := mq_t0_spec hJ5
      clear hJ5
      obtain ⟨rfl, rfl, rfl, hc0, hc1, hc2, hc3, hc4, hc5, hm0, hm1⟩ := hJz
      intro hbk hrl
      have hk0 : 0 ≤ μ' (69, 0) 6 ∧ μ' (69, 0) 6 ≤ 16 := hbk (69, 0) 6
      obtain ⟨⟨hl1a, hl1b⟩, ⟨hl3a, hl3b⟩, ⟨hl4a, hl4b⟩, ⟨hl5a, hl5b⟩, -⟩ := hrl
      repeat' (first | refine And.intro ?_ ?_ | intro _)
      all_goals try simp only [Int.reduceToNat, Int.reduceAdd, mq_up_f, mq_up_s, mq_up_e, ne_eq, Nat.reduceEqDiff, not_false_eq_true, true_and, and_true, false_and, and_false, false_or, or_false, true_or, or_true, true_implies] at *
      all_goals first | omega | rfl | exact trivial | assumption | (have hT := sq_g ‹sq_bx (sq_T _)›; exact sq_m (sq_T_ag0 (md := 2 ^ 92) (by repeat (first | exact mq_ag_rf _ _ | refine mq_ag_upn ?_ (by decide +kernel))) (by decide +kernel) hT))
    exact fun _ h => absurd h List.not_mem_nil
theorem mw0_m_goesBy : mq_mlA cq_m_goesBy 0 := ⟨kw_1098, ⟨by decide +kernel, by decide +kernel⟩, by decide +kernel, kw_1099, kw_1100, kw_771, 60, by decide +kernel, fun as ρ μ h => by obtain ⟨nw, sp, tl, tx, al⟩ := ρ; obtain ⟨t, e, _⟩ := mq_pZ_spec h; exact ⟨0, t, e⟩⟩
def pq_m_isDay : List mq_E := [(0, false, .aload 0), (1, false, .invokestatic 0), (4, false, .ifCond .eq (Int.ofNat 47)), (7, false, .iload 1), (8, false, .i2l), (9, false, .goto_w 0), (10, false, .goto_w 2000000000), (13, false, .invokestatic 1), (16, false, .ifCond .eq (Int.ofNat 47)), (19, false, .iload 2), (20, false, .i2l), (21, false, .goto_w 0), (22, false, .goto_w 100), (25, false, .invokestatic 1), (28, false, .ifCond .eq (Int.ofNat 47)), (31, false, .iload 3), (32, false, .i2l), (33, false, .goto_w 0), (34, false, .goto_w 99), (37, false, .invokestatic 1), (40, false, .ifCond .eq (Int.ofNat 47)), (43, false, .iconst 1), (44, false, .goto (Int.ofNat 48)), (47, false, .iconst 0), (48, false, .ireturn)]
def cq_m_isDay : mq_C := ((yX11_isDay, cX11_isDay, 4, (some .boolean), { frames := 1, cells := 0, slots := 0, locals := 25 }), (4, 1, 0, 0), 0, (fun as ρ μ => match ρ with
  | (nw, sp, tl, tx, al) => mq_pZ as 60 fun as => mq_pI as fun s as => mq_pI as fun o as => mq_pI as fun y as => mq_p0 as (True)),
  (fun as ρ μ r ρ' μ' => match as, ρ, ρ' with
  | [.inr (.inr (some (_, _))), .inl s, .inl o, .inl y], (nw, sp, tl, tx, al), (nw', sp', tl', tx', al') => [(r = 1 ∧ 0 ≤ s ∧ s ≤ 2000000000 ∧ 0 ≤ y ∧ y ≤ 99) ∨ r = 0]
  | _, _, _ => []))
def kq_m_isDay : List mq_V → mq_R → mq_M → List mq_Cu := fun as ρ μ => match as, ρ with
  | [.inr (.inr (some (_, _))), .inl s, .inl o, .inl y], (nw, sp, tl, tx, al) => []
  | _, _ => []
set_option maxHeartbeats 16000000 in
set_option maxRecDepth 100000 in
theorem vq_m_isDay (lc : Launch) (h_m_isLine : mq_Ct lc cq_m_isLine) (h_m_in : mq_Ct lc cq_m_in) : mq_Ct lc cq_m_isDay := by
  refine mq_method (lc := lc) (P := pq_m_isDay) (cl := [cq_m_isLine, cq_m_in]) (T := ([], [], [(312, 100), (476, 99), (517, 2000000000)], [(290, 0, 0), (125, 1, 1)], [], [])) (fuel := 400) (cuts := kq_m_isDay) (by decide) rfl ⟨rfl, rfl⟩ (List.forall_mem_cons.mpr ⟨h_m_isLine, (List.forall_mem_cons.mpr ⟨h_m_in, (fun _ h => absurd h List.not_mem_nil)⟩)⟩) ⟨(fun _ h => absurd h List.not_mem_nil), (fun _ h => absurd h List.not_mem_nil), (List.forall_mem_cons.mpr ⟨kw_839, (List.forall_mem_cons.mpr ⟨kw_1071, (List.forall_mem_cons.mpr ⟨kw_1072, (fun _ h => absurd h List.not_mem_nil)⟩)⟩)⟩), (List.forall_mem_cons.mpr ⟨mq_ml0 rfl mw0_m_isLine kw_836, (List.forall_mem_cons.mpr ⟨mq_ml1 rfl mw1_m_in kw_772, (fun _ h => absurd h List.not_mem_nil)⟩)⟩), (fun _ h => absurd h List.not_mem_nil), (fun _ h => absurd h List.not_mem_nil)⟩ (by decide +kernel) ⟨_, _, rfl⟩ ?_ ?_ ?_ ?_
  · intro as ρ μ h
    obtain ⟨nw, sp, tl, tx, al⟩ := ρ
    obtain ⟨as0, rfl, h0⟩ := mq_pZ_spec h
    clear h
    obtain ⟨s, as1, rfl, h1⟩ := mq_pI_spec h0
    clear h0
    obtain ⟨o, as2, rfl, h2⟩ := mq_pI_spec h1
    clear h1
    obtain ⟨y, as3, rfl, h3⟩ := mq_pI_spec h2
    clear h2
    obtain ⟨rfl, hp⟩ := mq_p0_spec h3
    clear h3
    rfl
  · intro as ρ μ h
    obtain ⟨nw, sp, tl, tx, al⟩ := ρ
    obtain ⟨as0, rfl, h0⟩ := mq_pZ_spec h
    clear h
    obtain ⟨s, as1, rfl, h1⟩ := mq_pI_spec h0
    clear h0
    obtain ⟨o, as2, rfl, h2⟩ := mq_pI_spec h1
    clear h1
    obtain ⟨y, as3, rfl, h3⟩ := mq_pI_spec h2
    clear h2
    obtain ⟨rfl, hp⟩ := mq_p0_spec h3
    clear h3
    intro hrg
    obtain ⟨⟨ha1a, ha1b⟩, ⟨ha2a, ha2b⟩, ⟨ha3a, ha3b⟩, -⟩ := hrg
    intro hbk
    have e0 : mq_l0 ([.inr (.inr (some (60, 0))), .inl s, .inl o, .inl y] : List mq_V) 4 = [some (.inr (.inr (some (60, 0)))), some (.inl s), some (.inl o), some (.inl y)] := rfl
    rw [e0]
    repeat' (first | refine And.intro ?_ ?_ | intro _)
    all_goals try simp only [Int.reduceToNat, Int.reduceAdd, mq_up_f, mq_up_s, mq_up_e, ne_eq, Nat.reduceEqDiff, not_false_eq_true, true_and, and_true, false_and, and_false, false_or, or_false, true_or, or_true, true_implies] at *
    all_goals first | omega | rfl | exact trivial | assumption
  · intro as ρ μ h
    obtain ⟨nw, sp, tl, tx, al⟩ := ρ
    obtain ⟨as0, rfl, h0⟩ := mq_pZ_spec h
    clear h
    obtain ⟨s, as1, rfl, h1⟩ := mq_pI_spec h0
    clear h0
    obtain ⟨o, as2, rfl, h2⟩ := mq_pI_spec h1
    clear h1
    obtain ⟨y, as3, rfl, h3⟩ := mq_pI_spec h2
    clear h2
    obtain ⟨rfl, hp⟩ := mq_p0_spec h3
    clear h3
    exact fun _ h => absurd h List.not_mem_nil
  · intro as ρ μ h
    obtain ⟨nw, sp, tl, tx, al⟩ := ρ
    obtain ⟨as0, rfl, h0⟩ := mq_pZ_spec h
    clear h
    obtain ⟨s, as1, rfl, h1⟩ := mq_pI_spec h0
    clear h0
    obtain ⟨o, as2, rfl, h2⟩ := mq_pI_spec h1
    clear h1
    obtain ⟨y, as3, rfl, h3⟩ := mq_pI_spec h2
    clear h2
    obtain ⟨rfl, hp⟩ := mq_p0_spec h3
    clear h3
    intro hrg
    obtain ⟨⟨ha1a, ha1b⟩, ⟨ha2a, ha2b⟩, ⟨ha3a, ha3b⟩, -⟩ := hrg
    exact fun _ h => absurd h List.not_mem_nil
theorem mw0_m_isDay : mq_mlA cq_m_isDay 0 := ⟨kw_1094, ⟨by decide +kernel, by decide +kernel⟩, by decide +kernel, kw_1095, kw_1096, kw_771, 60, by decide +kernel, fun as ρ μ h => by obtain ⟨nw, sp, tl, tx, al⟩ := ρ; obtain ⟨t, e, _⟩ := mq_pZ_spec h; exact ⟨0, t, e⟩⟩
def pq_m_shortOf : List mq_E := [(0, false, .aload 0), (1, false, .invokeinterface 11 26), (4, false, .iconst 5), (5, false, .iload 1), (6, false, .imul), (7, false, .iconst 2), (8, false, .iadd), (9, false, .jsr 2), (10, false, .istore 2), (11, false, .aload 0), (12, false, .invokeinterface 11 23), (15, false, .iconst 2), (16, false, .iload 2), (17, false, .imul), (18, false, .iaload), (19, false, .aload 0), (20, false, .invokeinterface 11 42), (23, false, .iload 1), (24, false, .iaload), (25, false, .isub), (26, false, .aload 0), (27, false, .aload 0), (28, false, .iload 1), (29, false, .invokestatic 0), (32, false, .invokestatic 1), (35, false, .iadd), (36, false, .istore 3), (37, false, .iload 3), (38, false, .ifCond .le (Int.ofNat 43)), (41, false, .iload 3), (42, false, .ireturn), (43, false, .aload 0), (44, false, .invokeinterface 11 23), (47, false, .iconst 2), (48, false, .iload 2), (49, false, .imul), (50, false, .iconst 1), (51, false, .iadd), (52, false, .iaload), (53, false, .aload 0), (54, false, .invokeinterface 11 42), (57, false, .iload 1), (58, false, .iaload), (59, false, .if_icmp .ge (Int.ofNat 82)), (62, false, .aload 0), (63, false, .invokeinterface 11 23), (66, false, .iconst 2), (67, false, .iload 2), (68, false, .imul), (69, false, .iconst 1), (70, false, .iadd), (71, false, .iaload), (72, false, .aload 0), (73, false, .invokeinterface 11 42), (76, false, .iload 1), (77, false, .iaload), (78, false, .isub), (79, false, .goto (Int.ofNat 83)), (82, false, .iconst 0), (83, false, .ireturn)]
def cq_m_shortOf : mq_C := ((yX11_shortOf, cX11_shortOf, 4, (some .int), { frames := 1, cells := 0, slots := 0, locals := 21 }), (2, 1, 0, 0), 0, (fun as ρ μ => match ρ with
  | (nw, sp, tl, tx, al) => mq_pZ as 60 fun as => mq_pI as fun c as => mq_p0 as (0 ≤ c ∧ c ≤ 15)),
  (fun as ρ μ r ρ' μ' => match as, ρ, ρ' with
  | [.inr (.inr (some (_, _))), .inl c], (nw, sp, tl, tx, al), (nw', sp', tl', tx', al') => []
  | _, _, _ => []))
def kq_m_shortOf : List mq_V → mq_R → mq_M → List mq_Cu := fun as ρ μ => match as, ρ with
  | [.inr (.inr (some (_, _))), .inl c], (nw, sp, tl, tx, al) => []
  | _, _ => []
set_option maxHeartbeats 16000000 in
set_option maxRecDepth 100000 in
theorem vq_m_shortOf (lc : Launch) (h_m_kindOf : mq_Ct lc cq_m_kindOf) (h_m_lengthOf : mq_Ct lc cq_m_lengthOf) : mq_Ct lc cq_m_shortOf := by
  refine mq_method (lc := lc) (P := pq_m_shortOf) (cl := [cq_m_kindOf, cq_m_lengthOf]) (T := ([(61, 11, 26), (52, 11, 23), (99, 11, 42)], [], [], [(398, 0, 0), (331, 1, 0)], [], [])) (fuel := 400) (cuts := kq_m_shortOf) (by decide) rfl ⟨rfl, rfl⟩ (List.forall_mem_cons.mpr ⟨h_m_kindOf, (List.forall_mem_cons.mpr ⟨h_m_lengthOf, (fun _ h => absurd h List.not_mem_nil)⟩)⟩) ⟨(List.forall_mem_cons.mpr ⟨⟨_, rfl, by decide, kw_867⟩, (List.forall_mem_cons.mpr ⟨⟨_, rfl, by decide, kw_873⟩, (List.forall_mem_cons.mpr ⟨⟨_, rfl, by decide, kw_995⟩, (fun _ h => absurd h List.not_mem_nil)⟩)⟩)⟩), (fun _ h => absurd h List.not_mem_nil), (fun _ h => absurd h List.not_mem_nil), (List.forall_mem_cons.mpr ⟨mq_ml0 rfl mw0_m_kindOf kw_967, (List.forall_mem_cons.mpr ⟨mq_ml0 rfl mw0_m_lengthOf kw_899, (fun _ h => absurd h List.not_mem_nil)⟩)⟩), (fun _ h => absurd h List.not_mem_nil), (fun _ h => absurd h List.not_mem_nil)⟩ (by decide +kernel) ⟨_, _, rfl⟩ ?_ ?_ ?_ ?_
  · intro as ρ μ h
    obtain ⟨nw, sp, tl, tx, al⟩ := ρ
    obtain ⟨as0, rfl, h0⟩ := mq_pZ_spec h
    clear h
    obtain ⟨c, as1, rfl, h1⟩ := mq_pI_spec h0
    clear h0
    obtain ⟨rfl, hp⟩ := mq_p0_spec h1
    clear h1
    obtain ⟨hp0, hp1⟩ := hp
    rfl
  · intro as ρ μ h
    obtain ⟨nw, sp, tl, tx, al⟩ := ρ
    obtain ⟨as0, rfl, h0⟩ := mq_pZ_spec h
    clear h
    obtain ⟨c, as1, rfl, h1⟩ := mq_pI_spec h0
    clear h0
    obtain ⟨rfl, hp⟩ := mq_p0_spec h1
    clear h1
    obtain ⟨hp0, hp1⟩ := hp
    intro hrg
    obtain ⟨⟨ha1a, ha1b⟩, -⟩ := hrg
    intro hbk
    have e0 : mq_l0 ([.inr (.inr (some (60, 0))), .inl c] : List mq_V) 4 = [some (.inr (.inr (some (60, 0)))), some (.inl c), none, none] := rfl
    rw [e0]
    repeat' (first | refine And.intro ?_ ?_ | intro _)
    all_goals try simp only [Int.reduceToNat, Int.reduceAdd, mq_up_f, mq_up_s, mq_up_e, ne_eq, Nat.reduceEqDiff, not_false_eq_true, true_and, and_true, false_and, and_false, false_or, or_false, true_or, or_true, true_implies] at *
    all_goals first | omega | rfl | exact trivial | assumption
  · intro as ρ μ h
    obtain ⟨nw, sp, tl, tx, al⟩ := ρ
    obtain ⟨as0, rfl, h0⟩ := mq_pZ_spec h
    clear h
    obtain ⟨c, as1, rfl, h1⟩ := mq_pI_spec h0
    clear h0
    obtain ⟨rfl, hp⟩ := mq_p0_spec h1
    clear h1
    obtain ⟨hp0, hp1⟩ := hp
    exact fun _ h => absurd h List.not_mem_nil
  · intro as ρ μ h
    obtain ⟨nw, sp, tl, tx, al⟩ := ρ
    obtain ⟨as0, rfl, h0⟩ := mq_pZ_spec h
    clear h
    obtain ⟨c, as1, rfl, h1⟩ := mq_pI_spec h0
    clear h0
    obtain ⟨rfl, hp⟩ := mq_p0_spec h1
    clear h1
    obtain ⟨hp0, hp1⟩ := hp
    intro hrg
    obtain ⟨⟨ha1a, ha1b⟩, -⟩ := hrg
    exact fun _ h => absurd h List.not_mem_nil
theorem mw0_m_shortOf : mq_mlA cq_m_shortOf 0 := ⟨kw_1077, ⟨by decide +kernel, by decide +kernel⟩, by decide +kernel, kw_1078, kw_1079, kw_771, 60, by decide +kernel, fun as ρ μ h => by obtain ⟨nw, sp, tl, tx, al⟩ := ρ; obtain ⟨t, e, _⟩ := mq_pZ_spec h; exact ⟨0, t, e⟩⟩
def pq_m_inPlaces : List mq_E := [(0, false, .iconst 0), (1, false, .istore 1), (2, false, .iconst 0), (3, false, .istore 2), (4, true, .iload 2), (5, false, .aload 0), (6, false, .invokeinterface 11 19), (9, false, .iconst 6), (11, false, .jsr 6), (12, false, .if_icmp .ge (Int.ofNat 39)), (15, false, .iload 1), (16, false, .aload 0), (17, false, .iload 2), (18, false, .invokestatic 0), (21, false, .ifCond .eq (Int.ofNat 30)), (24, false, .iconst 1), (25, false, .iload 2), (26, false, .ishl), (27, false, .goto (Int.ofNat 31)), (30, false, .iconst 0), (31, false, .ior), (32, false, .istore 1), (33, false, .iinc 2 1), (36, false, .goto (Int.ofNat 4)), (39, false, .iload 1), (40, false, .ireturn)]
def cq_m_inPlaces : mq_C := ((yX11_inPlaces, cX11_inPlaces, 3, (some .int), { frames := 3, cells := 0, slots := 0, locals := 65 }), (1, 1, 0, 0), 0, (fun as ρ μ => match ρ with
  | (nw, sp, tl, tx, al) => mq_pZ as 60 fun as => mq_p0 as (True)),
  (fun as ρ μ r ρ' μ' => match as, ρ, ρ' with
  | [.inr (.inr (some (_, _)))], (nw, sp, tl, tx, al), (nw', sp', tl', tx', al') => []
  | _, _, _ => []))
def kq_m_inPlaces : List mq_V → mq_R → mq_M → List mq_Cu := fun as ρ μ => match as, ρ with
  | [.inr (.inr (some (_, _)))], (nw, sp, tl, tx, al) => [(4, [true, true, true], fun N l st ρ' μ' cs => mq_tZ l 60 fun l => mq_tI l fun v1 l => mq_tI l fun v2 l => mq_t0 l (st = [] ∧ ρ' = (nw, sp, tl, tx, al) ∧ cs = 0 ∧ 0 ≤ v2 ∧ v2 ≤ 16 ∧ 0 ≤ (16 - v2 : Int) ∧ (16 - v2 : Int) < (N : Int)))]
  | _, _ => []
set_option maxHeartbeats 16000000 in
set_option maxRecDepth 100000 in
theorem vq_m_inPlaces (lc : Launch) (h_m_isInPlace : mq_Ct lc cq_m_isInPlace) : mq_Ct lc cq_m_inPlaces := by
  refine mq_method (lc := lc) (P := pq_m_inPlaces) (cl := [cq_m_isInPlace]) (T := ([(40, 11, 19)], [], [], [(440, 0, 0)], [], [])) (fuel := 400) (cuts := kq_m_inPlaces) (by decide) rfl ⟨rfl, rfl⟩ (List.forall_mem_cons.mpr ⟨h_m_isInPlace, (fun _ h => absurd h List.not_mem_nil)⟩) ⟨(List.forall_mem_cons.mpr ⟨⟨_, rfl, by decide, kw_837⟩, (fun _ h => absurd h List.not_mem_nil)⟩), (fun _ h => absurd h List.not_mem_nil), (fun _ h => absurd h List.not_mem_nil), (List.forall_mem_cons.mpr ⟨mq_ml0 rfl mw0_m_isInPlace kw_1001, (fun _ h => absurd h List.not_mem_nil)⟩), (fun _ h => absurd h List.not_mem_nil), (fun _ h => absurd h List.not_mem_nil)⟩ (by decide +kernel) ⟨_, _, rfl⟩ ?_ ?_ ?_ ?_
  · intro as ρ μ h
    obtain ⟨nw, sp, tl, tx, al⟩ := ρ
    obtain ⟨as0, rfl, h0⟩ := mq_pZ_spec h
    clear h
    obtain ⟨rfl, hp⟩ := mq_p0_spec h0
    clear h0
    rfl
  · intro as ρ μ h
    obtain ⟨nw, sp, tl, tx, al⟩ := ρ
    obtain ⟨as0, rfl, h0⟩ := mq_pZ_spec h
    clear h
    obtain ⟨rfl, hp⟩ := mq_p0_spec h0
    clear h0
    intro hrg
    intro hbk
    have hk0 : 0 ≤ μ (69, 0) 6 ∧ μ (69, 0) 6 ≤ 16 := hbk (69, 0) 6
    have e0 : mq_l0 ([.inr (.inr (some (60, 0)))] : List mq_V) 3 = [some (.inr (.inr (some (60, 0)))), none, none] := rfl
    rw [e0]
    repeat' (first | refine And.intro ?_ ?_ | intro _)
    all_goals try simp only [Int.reduceToNat, Int.reduceAdd, mq_up_f, mq_up_s, mq_up_e, ne_eq, Nat.reduceEqDiff, not_false_eq_true, true_and, and_true, false_and, and_false, false_or, or_false, true_or, or_true, true_implies] at *
    all_goals first | omega | rfl | exact trivial | assumption
  · intro as ρ μ h
    obtain ⟨nw, sp, tl, tx, al⟩ := ρ
    obtain ⟨as0, rfl, h0⟩ := mq_pZ_spec h
    clear h
    obtain ⟨rfl, hp⟩ := mq_p0_spec h0
    clear h0
    refine List.forall_mem_cons.mpr ⟨?_, ?_⟩
    · intro l st ρ' μ' cs hJ
      obtain ⟨l0, rfl, hJ0⟩ := mq_tZ_spec hJ
      clear hJ
      obtain ⟨v1, l1, rfl, hJ1⟩ := mq_tI_spec hJ0
      clear hJ0
      obtain ⟨v2, l2, rfl, hJ2⟩ := mq_tI_spec hJ1
      clear hJ1
      obtain ⟨rfl, hJz⟩ := mq_t0_spec hJ2
      clear hJ2
      obtain ⟨rfl, rfl, rfl, hc0, hc1, hm0, hm1⟩ := hJz
      omega
    exact fun _ h => absurd h List.not_mem_nil
  · intro as ρ μ h
    obtain ⟨nw, sp, tl, tx, al⟩ := ρ
    obtain ⟨as0, rfl, h0⟩ := mq_pZ_spec h
    clear h
    obtain ⟨rfl, hp⟩ := mq_p0_spec h0
    clear h0
    intro hrg
    refine List.forall_mem_cons.mpr ⟨?_, ?_⟩
    · intro N l st ρ' μ' cs hJ
      obtain ⟨l0, rfl, hJ0⟩ := mq_tZ_spec hJ
      clear hJ
      obtain ⟨v1, l1, rfl, hJ1⟩ := mq_tI_spec hJ0
      clear hJ0
      obtain ⟨v2, l2, rfl, hJ2⟩ := mq_tI_spec hJ1
      clear hJ1
      obtain ⟨rfl, hJz⟩ := mq_t0_spec hJ2
      clear hJ2
      obtain ⟨rfl, rfl, rfl, hc0, hc1, hm0, hm1⟩ := hJz
      intro hbk hrl
      have hk0 : 0 ≤ μ' (69, 0) 6 ∧ μ' (69, 0) 6 ≤ 16 := hbk (69, 0) 6
      obtain ⟨⟨hl1a, hl1b⟩, ⟨hl2a, hl2b⟩, -⟩ := hrl
      repeat' (first | refine And.intro ?_ ?_ | intro _)
      all_goals try simp only [Int.reduceToNat, Int.reduceAdd, mq_up_f, mq_up_s, mq_up_e, ne_eq, Nat.reduceEqDiff, not_false_eq_true, true_and, and_true, false_and, and_false, false_or, or_false, true_or, or_true, true_implies] at *
      all_goals first | omega | rfl | exact trivial | assumption
    exact fun _ h => absurd h List.not_mem_nil
theorem mw0_m_inPlaces : mq_mlA cq_m_inPlaces 0 := ⟨kw_1081, ⟨by decide +kernel, by decide +kernel⟩, by decide +kernel, kw_1082, kw_1083, kw_771, 60, by decide +kernel, fun as ρ μ h => by obtain ⟨nw, sp, tl, tx, al⟩ := ρ; obtain ⟨t, e, _⟩ := mq_pZ_spec h; exact ⟨0, t, e⟩⟩
