def pq_m_lays : List mq_E := [(0, false, .aload 0), (1, false, .invokeinterface 11 17), (4, false, .iconst 0), (5, false, .iaload), (6, false, .istore 5), (8, true, .iload 5), (10, false, .ifCond .lt (Int.ofNat 96)), (13, false, .iconst 1), (14, false, .istore 6), (16, true, .iload 6), (18, false, .iconst 15), (20, false, .if_icmp .gt (Int.ofNat 90)), (23, false, .iconst 1000000), (25, false, .istore 7), (27, false, .iconst 0), (28, false, .istore 8), (30, true, .iload 8), (32, false, .iload 4), (34, false, .if_icmp .gt (Int.ofNat 63)), (37, false, .iload 7), (39, false, .aload 0), (40, false, .iload 1), (41, false, .iload 2), (42, false, .iload 3), (43, false, .iload 5), (45, false, .iload 6), (47, false, .iload 8), (49, false, .invokestatic 0), (52, false, .invokestatic 1), (55, false, .istore 7), (57, false, .iinc 8 1), (60, false, .goto (Int.ofNat 30)), (63, false, .aload 0), (64, false, .invokeinterface 11 28), (67, false, .iconst 6416), (70, false, .iload 1), (71, false, .imul), (72, false, .iconst 16), (74, false, .iload 5), (76, false, .imul), (77, false, .iadd), (78, false, .iload 6), (80, false, .iadd), (81, false, .iload 7), (83, false, .iastore), (84, false, .iinc 6 1), (87, false, .goto (Int.ofNat 16)), (90, false, .iinc 5 (-1)), (93, false, .goto (Int.ofNat 8)), (96, false, .return_)]
def cq_m_lays : mq_C := ((yX11_lays, cX11_lays, 9, none, { frames := 4, cells := 0, slots := 0, locals := 103 }), (5, 0, 0, 0), 302231454903657293676544, (fun as ρ μ => match ρ with
  | (nw, sp, tl, tx, al) => mq_pZ as 60 fun as => mq_pI as fun t as => mq_pI as fun k as => mq_pI as fun p as => mq_pI as fun h as => mq_p0 as (0 ≤ t ∧ t ≤ 16 ∧ 0 ≤ k ∧ k ≤ 3 ∧ 0 ≤ p ∧ p ≤ 5 ∧ 0 ≤ h ∧ h ≤ 3)),
  (fun as ρ μ r ρ' μ' => match as, ρ, ρ' with
  | [.inr (.inr (some (_, _))), .inl t, .inl k, .inl p, .inl h], (nw, sp, tl, tx, al), (nw', sp', tl', tx', al') => [sq_bx (sq_laid (sq_li μ') (μ' (60, 0) 29) (μ' (60, 0) 30) (μ' (78, 0)) t k p), sq_bx (sq_fr (μ (78, 0)) (μ' (78, 0)) t), μ' (67, 0) 0 = μ (67, 0) 0]
  | _, _, _ => []))
def kq_m_lays : List mq_V → mq_R → mq_M → List mq_Cu := fun as ρ μ => match as, ρ with
  | [.inr (.inr (some (_, _))), .inl t, .inl k, .inl p, .inl h], (nw, sp, tl, tx, al) => [(8, [true, true, true, true, true, true, false, false, false], fun N l st ρ' μ' cs => mq_tZ l 60 fun l => mq_tI l fun v1 l => mq_tI l fun v2 l => mq_tI l fun v3 l => mq_tI l fun v4 l => mq_tI l fun v5 l => mq_tN l fun l => mq_tN l fun l => mq_tN l fun l => mq_t0 l (st = [] ∧ ρ' = (nw, sp, tl, tx, al) ∧ cs = 0 ∧ v1 = t ∧ v2 = k ∧ v3 = p ∧ v4 = h ∧ v5 ≤ 400 ∧ v5 ≤ μ' (67, 0) 0 ∧ μ' (67, 0) 0 = μ (67, 0) 0 ∧ -1 ≤ v5 ∧ sq_bx (sq_laidF (sq_li μ') (μ' (60, 0) 29) (μ' (60, 0) 30) (μ' (78, 0)) t k p v5 1) ∧ sq_bx (sq_fr (μ (78, 0)) (μ' (78, 0)) t) ∧ 0 ≤ (10000 * (v5 + 1) : Int) ∧ (10000 * (v5 + 1) : Int) < (N : Int))),
    (16, [true, true, true, true, true, true, true, false, false], fun N l st ρ' μ' cs => mq_tZ l 60 fun l => mq_tI l fun v1 l => mq_tI l fun v2 l => mq_tI l fun v3 l => mq_tI l fun v4 l => mq_tI l fun v5 l => mq_tI l fun v6 l => mq_tN l fun l => mq_tN l fun l => mq_t0 l (st = [] ∧ ρ' = (nw, sp, tl, tx, al) ∧ cs = 0 ∧ v1 = t ∧ v2 = k ∧ v3 = p ∧ v4 = h ∧ v5 ≤ 400 ∧ v5 ≤ μ' (67, 0) 0 ∧ μ' (67, 0) 0 = μ (67, 0) 0 ∧ 0 ≤ v5 ∧ 1 ≤ v6 ∧ v6 ≤ 16 ∧ sq_bx (sq_laidF (sq_li μ') (μ' (60, 0) 29) (μ' (60, 0) 30) (μ' (78, 0)) t k p v5 v6) ∧ sq_bx (sq_fr (μ (78, 0)) (μ' (78, 0)) t) ∧ 0 ≤ (10000 * v5 + 9000 - 100 * v6 : Int) ∧ (10000 * v5 + 9000 - 100 * v6 : Int) < (N : Int))),
    (30, [true, true, true, true, true, true, true, true, true], fun N l st ρ' μ' cs => mq_tZ l 60 fun l => mq_tI l fun v1 l => mq_tI l fun v2 l => mq_tI l fun v3 l => mq_tI l fun v4 l => mq_tI l fun v5 l => mq_tI l fun v6 l => mq_tI l fun v7 l => mq_tI l fun v8 l => mq_t0 l (st = [] ∧ ρ' = (nw, sp, tl, tx, al) ∧ cs = 0 ∧ v1 = t ∧ v2 = k ∧ v3 = p ∧ v4 = h ∧ v5 ≤ 400 ∧ v5 ≤ μ' (67, 0) 0 ∧ μ' (67, 0) 0 = μ (67, 0) 0 ∧ 0 ≤ v5 ∧ 1 ≤ v6 ∧ v6 ≤ 15 ∧ sq_bx (sq_laidF (sq_li μ') (μ' (60, 0) 29) (μ' (60, 0) 30) (μ' (78, 0)) t k p v5 v6) ∧ sq_bx (sq_fr (μ (78, 0)) (μ' (78, 0)) t) ∧ 0 ≤ v8 ∧ v8 ≤ h + 1 ∧ 0 ≤ v7 ∧ v7 ≤ 1000000 ∧ sq_bx (v7 < 1000000 → ∃ s : Int, 0 ≤ s ∧ s ≤ 3 ∧ sq_sum (sq_li μ') (μ' (60, 0) 29) (μ' (60, 0) 30) (μ' (78, 0)) t k p v5 v6 s = v7) ∧ 0 ≤ (10000 * v5 + 9000 - 100 * v6 - 1 - v8 : Int) ∧ (10000 * v5 + 9000 - 100 * v6 - 1 - v8 : Int) < (N : Int)))]
  | _, _ => []
set_option maxHeartbeats 16000000 in
set_option maxRecDepth 100000 in
theorem vq_m_lays (lc : Launch) (h_m_sumBy : mq_Ct lc cq_m_sumBy) (h_m_lesser : mq_Ct lc cq_m_lesser) : mq_Ct lc cq_m_lays := by
  refine mq_method (lc := lc) (P := pq_m_lays) (cl := [cq_m_sumBy, cq_m_lesser]) (T := ([(34, 11, 17), (69, 11, 28)], [(171, 1000000)], [], [(341, 0, 0), (345, 1, 1)], [], [])) (fuel := 400) (cuts := kq_m_lays) (by decide) rfl ⟨rfl, rfl⟩ (List.forall_mem_cons.mpr ⟨h_m_sumBy, (List.forall_mem_cons.mpr ⟨h_m_lesser, (fun _ h => absurd h List.not_mem_nil)⟩)⟩) ⟨(List.forall_mem_cons.mpr ⟨⟨_, rfl, by decide, kw_832⟩, (List.forall_mem_cons.mpr ⟨⟨_, rfl, by decide, kw_902⟩, (fun _ h => absurd h List.not_mem_nil)⟩)⟩), (List.forall_mem_cons.mpr ⟨kw_796, (fun _ h => absurd h List.not_mem_nil)⟩), (fun _ h => absurd h List.not_mem_nil), (List.forall_mem_cons.mpr ⟨mq_ml0 rfl mw0_m_sumBy kw_910, (List.forall_mem_cons.mpr ⟨mq_ml1 rfl mw1_m_lesser kw_913, (fun _ h => absurd h List.not_mem_nil)⟩)⟩), (fun _ h => absurd h List.not_mem_nil), (fun _ h => absurd h List.not_mem_nil)⟩ (by decide +kernel) ⟨_, _, rfl⟩ ?_ ?_ ?_ ?_
  · intro as ρ μ h
    obtain ⟨nw, sp, tl, tx, al⟩ := ρ
    obtain ⟨as0, rfl, h0⟩ := mq_pZ_spec h
    clear h
    obtain ⟨t, as1, rfl, h1⟩ := mq_pI_spec h0
    clear h0
    obtain ⟨k, as2, rfl, h2⟩ := mq_pI_spec h1
    clear h1
    obtain ⟨p, as3, rfl, h3⟩ := mq_pI_spec h2
    clear h2
    obtain ⟨h, as4, rfl, h4⟩ := mq_pI_spec h3
    clear h3
    obtain ⟨rfl, hp⟩ := mq_p0_spec h4
    clear h4
    obtain ⟨hp0, hp1, hp2, hp3, hp4, hp5, hp6, hp7⟩ := hp
    rfl
  · intro as ρ μ h
    obtain ⟨nw, sp, tl, tx, al⟩ := ρ
    obtain ⟨as0, rfl, h0⟩ := mq_pZ_spec h
    clear h
    obtain ⟨t, as1, rfl, h1⟩ := mq_pI_spec h0
    clear h0
    obtain ⟨k, as2, rfl, h2⟩ := mq_pI_spec h1
    clear h1
    obtain ⟨p, as3, rfl, h3⟩ := mq_pI_spec h2
    clear h2
    obtain ⟨h, as4, rfl, h4⟩ := mq_pI_spec h3
    clear h3
    obtain ⟨rfl, hp⟩ := mq_p0_spec h4
    clear h4
    obtain ⟨hp0, hp1, hp2, hp3, hp4, hp5, hp6, hp7⟩ := hp
    intro hrg
    obtain ⟨⟨ha1a, ha1b⟩, ⟨ha2a, ha2b⟩, ⟨ha3a, ha3b⟩, ⟨ha4a, ha4b⟩, -⟩ := hrg
    intro hbk
    have hk0 : 0 ≤ μ (67, 0) 0 ∧ μ (67, 0) 0 ≤ 400 := hbk (67, 0) 0
    have e0 : mq_l0 ([.inr (.inr (some (60, 0))), .inl t, .inl k, .inl p, .inl h] : List mq_V) 9 = [some (.inr (.inr (some (60, 0)))), some (.inl t), some (.inl k), some (.inl p), some (.inl h), none, none, none, none] := rfl
    rw [e0]
    repeat' (first | refine And.intro ?_ ?_ | intro _)
    all_goals try simp only [Int.reduceToNat, Int.reduceAdd, mq_up_f, mq_up_s, mq_up_e, ne_eq, Nat.reduceEqDiff, not_false_eq_true, true_and, and_true, false_and, and_false, false_or, or_false, true_or, or_true, true_implies] at *
    all_goals first | omega | rfl | exact trivial | assumption | exact sq_m (sq_fr_rf _ _) | (subst_vars; exact sq_m sq_laidF_0)
  · intro as ρ μ h
    obtain ⟨nw, sp, tl, tx, al⟩ := ρ
    obtain ⟨as0, rfl, h0⟩ := mq_pZ_spec h
    clear h
    obtain ⟨t, as1, rfl, h1⟩ := mq_pI_spec h0
    clear h0
    obtain ⟨k, as2, rfl, h2⟩ := mq_pI_spec h1
    clear h1
    obtain ⟨p, as3, rfl, h3⟩ := mq_pI_spec h2
    clear h2
    obtain ⟨h, as4, rfl, h4⟩ := mq_pI_spec h3
    clear h3
    obtain ⟨rfl, hp⟩ := mq_p0_spec h4
    clear h4
    obtain ⟨hp0, hp1, hp2, hp3, hp4, hp5, hp6, hp7⟩ := hp
    refine List.forall_mem_cons.mpr ⟨?_, ?_⟩
    · intro l st ρ' μ' cs hJ
      obtain ⟨l0, rfl, hJ0⟩ := mq_tZ_spec hJ
      clear hJ
      obtain ⟨v1, l1, rfl, hJ1⟩ := mq_tI_spec hJ0
      clear hJ0
      obtain ⟨v2, l2, rfl, hJ2⟩ := mq_tI_spec hJ1
      clear hJ1
      obtain ⟨v3, l3, rfl, hJ3⟩ := mq_tI_spec hJ2
      clear hJ2
      obtain ⟨v4, l4, rfl, hJ4⟩ := mq_tI_spec hJ3
      clear hJ3
      obtain ⟨v5, l5, rfl, hJ5⟩ := mq_tI_spec hJ4
      clear hJ4
      obtain ⟨l6, rfl, hJ6⟩ := mq_tN_spec hJ5
      clear hJ5
      obtain ⟨l7, rfl, hJ7⟩ := mq_tN_spec hJ6
      clear hJ6
      obtain ⟨l8, rfl, hJ8⟩ := mq_tN_spec hJ7
      clear hJ7
      obtain ⟨rfl, hJz⟩ := mq_t0_spec hJ8
      clear hJ8
      obtain ⟨rfl, rfl, rfl, hc0, hc1, hc2, hc3, hc4, hc5, hc6, hc7, hc8, hc9, hm0, hm1⟩ := hJz
      omega
    refine List.forall_mem_cons.mpr ⟨?_, ?_⟩
    · intro l st ρ' μ' cs hJ
      obtain ⟨l0, rfl, hJ0⟩ := mq_tZ_spec hJ
      clear hJ
      obtain ⟨v1, l1, rfl, hJ1⟩ := mq_tI_spec hJ0
      clear hJ0
      obtain ⟨v2, l2, rfl, hJ2⟩ := mq_tI_spec hJ1
      clear hJ1
      obtain ⟨v3, l3, rfl, hJ3⟩ := mq_tI_spec hJ2
      clear hJ2
      obtain ⟨v4, l4, rfl, hJ4⟩ := mq_tI_spec hJ3
      clear hJ3
      obtain ⟨v5, l5, rfl, hJ5⟩ := mq_tI_spec hJ4
      clear hJ4
      obtain ⟨v6, l6, rfl, hJ6⟩ := mq_tI_spec hJ5
      clear hJ5
      obtain ⟨l7, rfl, hJ7⟩ := mq_tN_spec hJ6
      clear hJ6
      obtain ⟨l8, rfl, hJ8⟩ := mq_tN_spec hJ7
      clear hJ7
      obtain ⟨rfl, hJz⟩ := mq_t0_spec hJ8
      clear hJ8
      obtain ⟨rfl, rfl, rfl, hc0, hc1, hc2, hc3, hc4, hc5, hc6, hc7, hc8, hc9, hc10, hc11, hm0, hm1⟩ := hJz
      omega
    refine List.forall_mem_cons.mpr ⟨?_, ?_⟩
    · intro l st ρ' μ' cs hJ
      obtain ⟨l0, rfl, hJ0⟩ := mq_tZ_spec hJ
      clear hJ
      obtain ⟨v1, l1, rfl, hJ1⟩ := mq_tI_spec hJ0
      clear hJ0
      obtain ⟨v2, l2, rfl, hJ2⟩ := mq_tI_spec hJ1
      clear hJ1
      obtain ⟨v3, l3, rfl, hJ3⟩ := mq_tI_spec hJ2
      clear hJ2
      obtain ⟨v4, l4, rfl, hJ4⟩ := mq_tI_spec hJ3
      clear hJ3
      obtain ⟨v5, l5, rfl, hJ5⟩ := mq_tI_spec hJ4
      clear hJ4
      obtain ⟨v6, l6, rfl, hJ6⟩ := mq_tI_spec hJ5
      clear hJ5
      obtain ⟨v7, l7, rfl, hJ7⟩ := mq_tI_spec hJ6
      clear hJ6
      obtain ⟨v8, l8, rfl, hJ8⟩ := mq_tI_spec hJ7
      clear hJ7
      obtain ⟨rfl, hJz⟩ := mq_t0_spec hJ8
      clear hJ8
      obtain ⟨rfl, rfl, rfl, hc0, hc1, hc2, hc3, hc4, hc5, hc6, hc7, hc8, hc9, hc10, hc11, hc12, hc13, hc14, hc15, hc16, hm0, hm1⟩ := hJz
      omega
    exact fun _ h => absurd h List.not_mem_nil
  · intro as ρ μ h
    obtain ⟨nw, sp, tl, tx, al⟩ := ρ
    obtain ⟨as0, rfl, h0⟩ := mq_pZ_spec h
    clear h
    obtain ⟨t, as1, rfl, h1⟩ := mq_pI_spec h0
    clear h0
    obtain ⟨k, as2, rfl, h2⟩ := mq_pI_spec h1
    clear h1
    obtain ⟨p, as3, rfl, h3⟩ := mq_pI_spec h2
    clear h2
    obtain ⟨h, as4, rfl, h4⟩ := mq_pI_spec h3
    clear h3
    obtain ⟨rfl, hp⟩ := mq_p0_spec h4
    clear h4
    obtain ⟨hp0, hp1, hp2, hp3, hp4, hp5, hp6, hp7⟩ := hp
    intro hrg
    obtain ⟨⟨ha1a, ha1b⟩, ⟨ha2a, ha2b⟩, ⟨ha3a, ha3b⟩, ⟨ha4a, ha4b⟩, -⟩ := hrg
    refine List.forall_mem_cons.mpr ⟨?_, ?_⟩
    · intro N l st ρ' μ' cs hJ
      obtain ⟨l0, rfl, hJ0⟩ := mq_tZ_spec hJ
      clear hJ
      obtain ⟨v1, l1, rfl, hJ1⟩ := mq_tI_spec hJ0
      clear hJ0
      obtain ⟨v2, l2, rfl, hJ2⟩ := mq_tI_spec hJ1
      clear hJ1
      obtain ⟨v3, l3, rfl, hJ3⟩ := mq_tI_spec hJ2
      clear hJ2
      obtain ⟨v4, l4, rfl, hJ4⟩ := mq_tI_spec hJ3
      clear hJ3
      obtain ⟨v5, l5, rfl, hJ5⟩ := mq_tI_spec hJ4
      clear hJ4
      obtain ⟨l6, rfl, hJ6⟩ := mq_tN_spec hJ5
      clear hJ5
      obtain ⟨l7, rfl, hJ7⟩ := mq_tN_spec hJ6
      clear hJ6
      obtain ⟨l8, rfl, hJ8⟩ := mq_tN_spec hJ7
      clear hJ7
      obtain ⟨rfl, hJz⟩ := mq_t0_spec hJ8
      clear hJ8
      obtain ⟨rfl, rfl, rfl, hc0, hc1, hc2, hc3, hc4, hc5, hc6, hc7, hc8, hc9, hm0, hm1⟩ := hJz
      intro hbk hrl
      have hk0 : 0 ≤ μ' (67, 0) 0 ∧ μ' (67, 0) 0 ≤ 400 := hbk (67, 0) 0
      obtain ⟨⟨hl1a, hl1b⟩, ⟨hl2a, hl2b⟩, ⟨hl3a, hl3b⟩, ⟨hl4a, hl4b⟩, ⟨hl5a, hl5b⟩, -⟩ := hrl
      subst hc0 hc1 hc2 hc3
      repeat' (first | refine And.intro ?_ ?_ | intro _)
      all_goals try simp only [Int.reduceToNat, Int.reduceAdd, mq_up_f, mq_up_s, mq_up_e, ne_eq, Nat.reduceEqDiff, not_false_eq_true, true_and, and_true, false_and, and_false, false_or, or_false, true_or, or_true, true_implies] at *
      all_goals first | omega | rfl | exact trivial | assumption | exact sq_m (sq_laid_of (sq_g hc8) (by omega))
    refine List.forall_mem_cons.mpr ⟨?_, ?_⟩
    · intro N l st ρ' μ' cs hJ
      obtain ⟨l0, rfl, hJ0⟩ := mq_tZ_spec hJ
      clear hJ
      obtain ⟨v1, l1, rfl, hJ1⟩ := mq_tI_spec hJ0
      clear hJ0
      obtain ⟨v2, l2, rfl, hJ2⟩ := mq_tI_spec hJ1
      clear hJ1
      obtain ⟨v3, l3, rfl, hJ3⟩ := mq_tI_spec hJ2
      clear hJ2
      obtain ⟨v4, l4, rfl, hJ4⟩ := mq_tI_spec hJ3
      clear hJ3
      obtain ⟨v5, l5, rfl, hJ5⟩ := mq_tI_spec hJ4
      clear hJ4
      obtain ⟨v6, l6, rfl, hJ6⟩ := mq_tI_spec hJ5
      clear hJ5
      obtain ⟨l7, rfl, hJ7⟩ := mq_tN_spec hJ6
      clear hJ6
      obtain ⟨l8, rfl, hJ8⟩ := mq_tN_spec hJ7
      clear hJ7
      obtain ⟨rfl, hJz⟩ := mq_t0_spec hJ8
      clear hJ8
      obtain ⟨rfl, rfl, rfl, hc0, hc1, hc2, hc3, hc4, hc5, hc6, hc7, hc8, hc9, hc10, hc11, hm0, hm1⟩ := hJz
      intro hbk hrl
      have hk0 : 0 ≤ μ' (67, 0) 0 ∧ μ' (67, 0) 0 ≤ 400 := hbk (67, 0) 0
      obtain ⟨⟨hl1a, hl1b⟩, ⟨hl2a, hl2b⟩, ⟨hl3a, hl3b⟩, ⟨hl4a, hl4b⟩, ⟨hl5a, hl5b⟩, ⟨hl6a, hl6b⟩, -⟩ := hrl
      subst hc0 hc1 hc2 hc3
      repeat' (first | refine And.intro ?_ ?_ | intro _)
      all_goals try simp only [Int.reduceToNat, Int.reduceAdd, mq_up_f, mq_up_s, mq_up_e, ne_eq, Nat.reduceEqDiff, not_false_eq_true, true_and, and_true, false_and, and_false, false_or, or_false, true_or, or_true, true_implies] at *
      all_goals first | omega | rfl | exact trivial | assumption | exact sq_m (fun h => absurd h (by omega)) | (obtain rfl : v6 = 16 := (by omega); exact sq_m (sq_laidF_row (sq_g hc10)))
    refine List.forall_mem_cons.mpr ⟨?_, ?_⟩
    · intro N l st ρ' μ' cs hJ
      obtain ⟨l0, rfl, hJ0⟩ := mq_tZ_spec hJ
      clear hJ
      obtain ⟨v1, l1, rfl, hJ1⟩ := mq_tI_spec hJ0
      clear hJ0
      obtain ⟨v2, l2, rfl, hJ2⟩ := mq_tI_spec hJ1
      clear hJ1
      obtain ⟨v3, l3, rfl, hJ3⟩ := mq_tI_spec hJ2
      clear hJ2
      obtain ⟨v4, l4, rfl, hJ4⟩ := mq_tI_spec hJ3
      clear hJ3
      obtain ⟨v5, l5, rfl, hJ5⟩ := mq_tI_spec hJ4
      clear hJ4
      obtain ⟨v6, l6, rfl, hJ6⟩ := mq_tI_spec hJ5
      clear hJ5
      obtain ⟨v7, l7, rfl, hJ7⟩ := mq_tI_spec hJ6
      clear hJ6
      obtain ⟨v8, l8, rfl, hJ8⟩ := mq_tI_spec hJ7
      clear hJ7
      obtain ⟨rfl, hJz⟩ := mq_t0_spec hJ8
      clear hJ8
      obtain ⟨rfl, rfl, rfl, hc0, hc1, hc2, hc3, hc4, hc5, hc6, hc7, hc8, hc9, hc10, hc11, hc12, hc13, hc14, hc15, hc16, hm0, hm1⟩ := hJz
      intro hbk hrl
      have hk0 : 0 ≤ μ' (67, 0) 0 ∧ μ' (67, 0) 0 ≤ 400 := hbk (67, 0) 0
      obtain ⟨⟨hl1a, hl1b⟩, ⟨hl2a, hl2b⟩, ⟨hl3a, hl3b⟩, ⟨hl4a, hl4b⟩, ⟨hl5a, hl5b⟩, ⟨hl6a, hl6b⟩, ⟨hl7a, hl7b⟩, ⟨hl8a, hl8b⟩, -⟩ := hrl
      subst hc0 hc1 hc2 hc3
      repeat' (first | refine And.intro ?_ ?_ | intro _)
      all_goals try rw [sq_li_up (by decide)]
      all_goals try simp only [Int.reduceToNat, Int.reduceAdd, mq_up_f, mq_up_s, mq_up_e, ne_eq, Nat.reduceEqDiff, not_false_eq_true, true_and, and_true, false_and, and_false, false_or, or_false, true_or, or_true, true_implies] at *
      all_goals first | omega | rfl | exact trivial | assumption | exact sq_m (sq_wit_s (F := fun s => sq_sum (sq_li μ') (μ' (60, 0) 29) (μ' (60, 0) 30) (μ' (78, 0)) v1 v2 v3 v5 v6 s) (sq_g hc16) ‹_ = sq_sum _ _ _ _ _ _ _ _ _ _› (by omega) (by omega) (by omega)) | exact sq_m (sq_laidF_step (sq_g hc10) (by omega) hk0.2 (by omega) ⟨by omega, by omega⟩ (sq_g hc16) (mq_up_row _ _ _ _)) | exact sq_m (sq_fr_up (sq_g hc11) ⟨by omega, by omega⟩ (by omega) (mq_up_row _ _ _ _))
    exact fun _ h => absurd h List.not_mem_nil
theorem mw0_m_lays : mq_mlA cq_m_lays 0 := ⟨kw_926, ⟨by decide +kernel, by decide +kernel⟩, by decide +kernel, kw_927, kw_928, kw_771, 60, by decide +kernel, fun as ρ μ h => by obtain ⟨nw, sp, tl, tx, al⟩ := ρ; obtain ⟨t, e, _⟩ := mq_pZ_spec h; exact ⟨0, t, e⟩⟩
