def pq_m_coachClause : List mq_E := [(0, false, .aload 0), (1, false, .invokeinterface 11 26), (4, false, .iload 1), (5, false, .aload 0), (6, false, .iconst 5), (7, false, .invokestatic 0), (10, false, .iconst 1), (11, false, .isub), (12, false, .jsr_w 0), (13, true, .aload 0), (14, false, .invokeinterface 11 26), (17, false, .iload 1), (18, false, .iconst 1), (19, false, .iadd), (20, false, .aload 0), (21, false, .iconst 0), (22, false, .aload 0), (23, false, .iconst 4), (24, false, .invokestatic 0), (27, false, .iconst 1), (28, false, .isub), (29, false, .invokestatic 1), (32, false, .jsr_w 1), (33, true, .aload 0), (34, false, .invokeinterface 11 26), (37, false, .iload 1), (38, false, .iconst 2), (39, false, .iadd), (40, false, .aload 0), (41, false, .goto_w 4797), (44, false, .iconst 0), (45, false, .aload 0), (46, false, .iconst 3), (47, false, .invokestatic 0), (50, false, .iconst 1), (51, false, .isub), (52, false, .invokestatic 2), (55, false, .jsr_w 2), (56, true, .aload 0), (57, false, .goto_w 47), (60, false, .invokestatic 3), (63, true, .aload 0), (64, false, .invokeinterface 11 26), (67, false, .iload 1), (68, false, .iconst 3), (69, false, .iadd), (70, false, .aload 0), (71, false, .invokestatic 4), (74, false, .jsr_w 3), (75, false, .iconst 0), (76, false, .istore 2), (77, false, .iconst 0), (78, false, .istore 3), (79, true, .iload 3), (80, false, .aload 0), (81, false, .iconst 6), (83, false, .invokestatic 0), (86, false, .if_icmp .ge (Int.ofNat 124)), (89, false, .iload 2), (90, false, .aload 0), (91, false, .invokeinterface 11 26), (94, false, .iconst 320), (97, false, .iconst 5), (98, false, .iload 3), (99, false, .imul), (100, false, .iadd), (101, false, .jsr 0), (102, false, .aload 0), (103, false, .invokeinterface 11 26), (106, false, .iload 1), (107, false, .jsr 0), (108, false, .if_icmp .ne (Int.ofNat 115)), (111, false, .iconst 1), (112, false, .goto (Int.ofNat 116)), (115, false, .iconst 0), (116, false, .iadd), (117, false, .istore 2), (118, false, .iinc 3 1), (121, false, .goto (Int.ofNat 79)), (124, false, .aload 0), (125, false, .invokeinterface 11 26), (128, false, .iload 1), (129, false, .iconst 4), (130, false, .iadd), (131, false, .iload 2), (132, false, .jsr_w 4), (133, false, .return_)]
def cq_m_coachClause : mq_C := ((yX11_coachClause, cX11_coachClause, 4, none, { frames := 5, cells := 0, slots := 0, locals := 112 }), (2, 0, 0, 0), 75559016647418930266112, (fun as ρ μ => match ρ with
  | (nw, sp, tl, tx, al) => mq_pZ as 60 fun as => mq_pI as fun k as => mq_p0 as (k = 320 + 5 * μ (69, 0) 34 ∧ 0 ≤ μ (69, 0) 34 ∧ μ (69, 0) 34 ≤ 15 ∧ 1 ≤ μ (69, 0) 33 ∧ μ (60, 0) 7 ≤ μ (60, 0) 6 ∧ 0 ≤ μ (60, 0) 7 ∧ sq_bx (sq_pl (μ (69, 0)) (μ (76, 0)) 4) ∧ sq_bx (sq_inv (μ (69, 0)) (μ (76, 0))))),
  (fun as ρ μ r ρ' μ' => match as, ρ, ρ' with
  | [.inr (.inr (some (_, _))), .inl k], (nw, sp, tl, tx, al), (nw', sp', tl', tx', al') => [μ' (60, 0) 7 ≤ μ' (60, 0) 6, 0 ≤ μ' (60, 0) 7, μ (60, 0) 7 ≤ μ' (60, 0) 7, sq_bx (∀ h : sq_Ro, h 34 = μ (69, 0) 34 + 1 → sq_pl h (μ' (76, 0)) 4), sq_bx (sq_inv (μ' (69, 0)) (μ' (76, 0)))]
  | _, _, _ => []))
def kq_m_coachClause : List mq_V → mq_R → mq_M → List mq_Cu := fun as ρ μ => match as, ρ with
  | [.inr (.inr (some (_, _))), .inl k], (nw, sp, tl, tx, al) => [(13, [true, true, false, false], fun N l st ρ' μ' cs => mq_tZ l 60 fun l => mq_tI l fun v1 l => mq_tN l fun l => mq_tN l fun l => mq_t0 l (st = [] ∧ ρ' = (nw, sp, tl, tx, al) ∧ cs = 0 ∧ v1 = k ∧ μ' (60, 0) 7 ≤ μ' (60, 0) 6 ∧ 0 ≤ μ' (60, 0) 7 ∧ μ (60, 0) 7 ≤ μ' (60, 0) 7 ∧ μ' (69, 0) 34 = μ (69, 0) 34 ∧ μ' (69, 0) 33 = μ (69, 0) 33 ∧ μ' (76, 0) k.toNat = μ (69, 0) 33 - 1 ∧ sq_bx (sq_cc (μ (69, 0)) (μ (76, 0)) (μ' (69, 0)) (μ' (76, 0)) k) ∧ 0 ≤ (1000 : Int) ∧ (1000 : Int) < (N : Int))),
    (33, [true, true, false, false], fun N l st ρ' μ' cs => mq_tZ l 60 fun l => mq_tI l fun v1 l => mq_tN l fun l => mq_tN l fun l => mq_t0 l (st = [] ∧ ρ' = (nw, sp, tl, tx, al) ∧ cs = 0 ∧ v1 = k ∧ μ' (60, 0) 7 ≤ μ' (60, 0) 6 ∧ 0 ≤ μ' (60, 0) 7 ∧ μ (60, 0) 7 ≤ μ' (60, 0) 7 ∧ μ' (69, 0) 34 = μ (69, 0) 34 ∧ μ' (69, 0) 33 = μ (69, 0) 33 ∧ μ' (76, 0) k.toNat = μ (69, 0) 33 - 1 ∧ sq_bx (sq_cc (μ (69, 0)) (μ (76, 0)) (μ' (69, 0)) (μ' (76, 0)) k) ∧ 0 ≤ (900 : Int) ∧ (900 : Int) < (N : Int))),
    (56, [true, true, false, false], fun N l st ρ' μ' cs => mq_tZ l 60 fun l => mq_tI l fun v1 l => mq_tN l fun l => mq_tN l fun l => mq_t0 l (st = [] ∧ ρ' = (nw, sp, tl, tx, al) ∧ cs = 0 ∧ v1 = k ∧ μ' (60, 0) 7 ≤ μ' (60, 0) 6 ∧ 0 ≤ μ' (60, 0) 7 ∧ μ (60, 0) 7 ≤ μ' (60, 0) 7 ∧ μ' (69, 0) 34 = μ (69, 0) 34 ∧ μ' (69, 0) 33 = μ (69, 0) 33 ∧ μ' (76, 0) k.toNat = μ (69, 0) 33 - 1 ∧ sq_bx (sq_cc (μ (69, 0)) (μ (76, 0)) (μ' (69, 0)) (μ' (76, 0)) k) ∧ 0 ≤ (800 : Int) ∧ (800 : Int) < (N : Int))),
    (63, [true, true, false, false], fun N l st ρ' μ' cs => mq_tZ l 60 fun l => mq_tI l fun v1 l => mq_tN l fun l => mq_tN l fun l => mq_t0 l (st = [] ∧ ρ' = (nw, sp, tl, tx, al) ∧ cs = 0 ∧ v1 = k ∧ μ' (60, 0) 7 ≤ μ' (60, 0) 6 ∧ 0 ≤ μ' (60, 0) 7 ∧ μ (60, 0) 7 ≤ μ' (60, 0) 7 ∧ μ' (69, 0) 34 = μ (69, 0) 34 ∧ μ' (69, 0) 33 = μ (69, 0) 33 ∧ μ' (76, 0) k.toNat = μ (69, 0) 33 - 1 ∧ sq_bx (sq_cc (μ (69, 0)) (μ (76, 0)) (μ' (69, 0)) (μ' (76, 0)) k) ∧ 0 ≤ (700 : Int) ∧ (700 : Int) < (N : Int))),
    (79, [true, true, true, true], fun N l st ρ' μ' cs => mq_tZ l 60 fun l => mq_tI l fun v1 l => mq_tI l fun v2 l => mq_tI l fun v3 l => mq_t0 l (st = [] ∧ ρ' = (nw, sp, tl, tx, al) ∧ cs = 0 ∧ v1 = k ∧ μ' (60, 0) 7 ≤ μ' (60, 0) 6 ∧ 0 ≤ μ' (60, 0) 7 ∧ μ (60, 0) 7 ≤ μ' (60, 0) 7 ∧ μ' (69, 0) 34 = μ (69, 0) 34 ∧ μ' (69, 0) 33 = μ (69, 0) 33 ∧ μ' (76, 0) k.toNat = μ (69, 0) 33 - 1 ∧ sq_bx (sq_cc (μ (69, 0)) (μ (76, 0)) (μ' (69, 0)) (μ' (76, 0)) k) ∧ 0 ≤ v2 ∧ v2 ≤ v3 ∧ 0 ≤ v3 ∧ v3 ≤ μ (69, 0) 34 ∧ v2 = sq_cnt (μ' (76, 0)) 320 (μ (69, 0) 33 - 1) v3.toNat ∧ 0 ≤ (100 - v3 : Int) ∧ (100 - v3 : Int) < (N : Int)))]
  | _, _ => []
set_option maxHeartbeats 16000000 in
set_option maxRecDepth 100000 in
theorem vq_m_coachClause (lc : Launch) (h_m_many : mq_Ct lc cq_m_many) (h_m_number : mq_Ct lc cq_m_number) (h_m_number_ : mq_Ct lc cq_m_number_) (h_m_asks : mq_Ct lc cq_m_asks) (h_m_yard : mq_Ct lc cq_m_yard) : mq_Ct lc cq_m_coachClause := by
  refine mq_method (lc := lc) (P := pq_m_coachClause) (cl := [cq_m_many, cq_m_number, cq_m_number_, cq_m_asks, cq_m_yard]) (T := ([(61, 11, 26)], [], [(205, 47), (243, 4797)], [(202, 0, 0), (195, 1, 0), (221, 2, 0), (191, 3, 0), (207, 4, 0)], [], [])) (fuel := 400) (cuts := kq_m_coachClause) (by decide) rfl ⟨rfl, rfl⟩ (List.forall_mem_cons.mpr ⟨h_m_many, (List.forall_mem_cons.mpr ⟨h_m_number, (List.forall_mem_cons.mpr ⟨h_m_number_, (List.forall_mem_cons.mpr ⟨h_m_asks, (List.forall_mem_cons.mpr ⟨h_m_yard, (fun _ h => absurd h List.not_mem_nil)⟩)⟩)⟩)⟩)⟩) ⟨(List.forall_mem_cons.mpr ⟨⟨_, rfl, by decide, kw_867⟩, (fun _ h => absurd h List.not_mem_nil)⟩), (fun _ h => absurd h List.not_mem_nil), (List.forall_mem_cons.mpr ⟨kw_1109, (List.forall_mem_cons.mpr ⟨kw_1110, (fun _ h => absurd h List.not_mem_nil)⟩)⟩), (List.forall_mem_cons.mpr ⟨mq_ml0 rfl mw0_m_many kw_1114, (List.forall_mem_cons.mpr ⟨mq_ml0 rfl mw0_m_number kw_829, (List.forall_mem_cons.mpr ⟨mq_ml0 rfl mw0_m_number_ kw_1118, (List.forall_mem_cons.mpr ⟨mq_ml0 rfl mw0_m_asks kw_825, (List.forall_mem_cons.mpr ⟨mq_ml0 rfl mw0_m_yard kw_1122, (fun _ h => absurd h List.not_mem_nil)⟩)⟩)⟩)⟩)⟩), (fun _ h => absurd h List.not_mem_nil), (fun _ h => absurd h List.not_mem_nil)⟩ (by decide +kernel) ⟨_, _, rfl⟩ ?_ ?_ ?_ ?_
  · intro as ρ μ h
    obtain ⟨nw, sp, tl, tx, al⟩ := ρ
    obtain ⟨as0, rfl, h0⟩ := mq_pZ_spec h
    clear h
    obtain ⟨k, as1, rfl, h1⟩ := mq_pI_spec h0
    clear h0
    obtain ⟨rfl, hp⟩ := mq_p0_spec h1
    clear h1
    obtain ⟨hp0, hp1, hp2, hp3, hp4, hp5, hp6, hp7⟩ := hp
    rfl
  · intro as ρ μ h
    obtain ⟨nw, sp, tl, tx, al⟩ := ρ
    obtain ⟨as0, rfl, h0⟩ := mq_pZ_spec h
    clear h
    obtain ⟨k, as1, rfl, h1⟩ := mq_pI_spec h0
    clear h0
    obtain ⟨rfl, hp⟩ := mq_p0_spec h1
    clear h1
    obtain ⟨hp0, hp1, hp2, hp3, hp4, hp5, hp6, hp7⟩ := hp
    intro hrg
    obtain ⟨⟨ha1a, ha1b⟩, -⟩ := hrg
    intro hbk
    have e0 : mq_l0 ([.inr (.inr (some (60, 0))), .inl k] : List mq_V) 4 = [some (.inr (.inr (some (60, 0)))), some (.inl k), none, none] := rfl
    rw [e0]
    repeat' (first | refine And.intro ?_ ?_ | intro _)
    all_goals try simp only [Int.reduceToNat, Int.reduceAdd, mq_up_f, mq_up_s, mq_up_e, ne_eq, Nat.reduceEqDiff, not_false_eq_true, true_and, and_true, false_and, and_false, false_or, or_false, true_or, or_true, true_implies] at *
    all_goals first | omega | rfl | exact trivial | assumption | exact sq_m (sq_cc_up (sq_cc_rf _ _ _) rfl (mq_up_row _ _ _ _) (by omega) (by omega))
  · intro as ρ μ h
    obtain ⟨nw, sp, tl, tx, al⟩ := ρ
    obtain ⟨as0, rfl, h0⟩ := mq_pZ_spec h
    clear h
    obtain ⟨k, as1, rfl, h1⟩ := mq_pI_spec h0
    clear h0
    obtain ⟨rfl, hp⟩ := mq_p0_spec h1
    clear h1
    obtain ⟨hp0, hp1, hp2, hp3, hp4, hp5, hp6, hp7⟩ := hp
    refine List.forall_mem_cons.mpr ⟨?_, ?_⟩
    · intro l st ρ' μ' cs hJ
      obtain ⟨l0, rfl, hJ0⟩ := mq_tZ_spec hJ
      clear hJ
      obtain ⟨v1, l1, rfl, hJ1⟩ := mq_tI_spec hJ0
      clear hJ0
      obtain ⟨l2, rfl, hJ2⟩ := mq_tN_spec hJ1
      clear hJ1
      obtain ⟨l3, rfl, hJ3⟩ := mq_tN_spec hJ2
      clear hJ2
      obtain ⟨rfl, hJz⟩ := mq_t0_spec hJ3
      clear hJ3
      obtain ⟨rfl, rfl, rfl, hc0, hc1, hc2, hc3, hc4, hc5, hc6, hc7, hm0, hm1⟩ := hJz
      omega
    refine List.forall_mem_cons.mpr ⟨?_, ?_⟩
    · intro l st ρ' μ' cs hJ
      obtain ⟨l0, rfl, hJ0⟩ := mq_tZ_spec hJ
      clear hJ
      obtain ⟨v1, l1, rfl, hJ1⟩ := mq_tI_spec hJ0
      clear hJ0
      obtain ⟨l2, rfl, hJ2⟩ := mq_tN_spec hJ1
      clear hJ1
      obtain ⟨l3, rfl, hJ3⟩ := mq_tN_spec hJ2
      clear hJ2
      obtain ⟨rfl, hJz⟩ := mq_t0_spec hJ3
      clear hJ3
      obtain ⟨rfl, rfl, rfl, hc0, hc1, hc2, hc3, hc4, hc5, hc6, hc7, hm0, hm1⟩ := hJz
      omega
    refine List.forall_mem_cons.mpr ⟨?_, ?_⟩
    · intro l st ρ' μ' cs hJ
      obtain ⟨l0, rfl, hJ0⟩ := mq_tZ_spec hJ
      clear hJ
      obtain ⟨v1, l1, rfl, hJ1⟩ := mq_tI_spec hJ0
      clear hJ0
      obtain ⟨l2, rfl, hJ2⟩ := mq_tN_spec hJ1
      clear hJ1
      obtain ⟨l3, rfl, hJ3⟩ := mq_tN_spec hJ2
      clear hJ2
      obtain ⟨rfl, hJz⟩ := mq_t0_spec hJ3
      clear hJ3
      obtain ⟨rfl, rfl, rfl, hc0, hc1, hc2, hc3, hc4, hc5, hc6, hc7, hm0, hm1⟩ := hJz
      omega
    refine List.forall_mem_cons.mpr ⟨?_, ?_⟩
    · intro l st ρ' μ' cs hJ
      obtain ⟨l0, rfl, hJ0⟩ := mq_tZ_spec hJ
      clear hJ
      obtain ⟨v1, l1, rfl, hJ1⟩ := mq_tI_spec hJ0
      clear hJ0
      obtain ⟨l2, rfl, hJ2⟩ := mq_tN_spec hJ1
      clear hJ1
      obtain ⟨l3, rfl, hJ3⟩ := mq_tN_spec hJ2
      clear hJ2
      obtain ⟨rfl, hJz⟩ := mq_t0_spec hJ3
      clear hJ3
      obtain ⟨rfl, rfl, rfl, hc0, hc1, hc2, hc3, hc4, hc5, hc6, hc7, hm0, hm1⟩ := hJz
      omega
    refine List.forall_mem_cons.mpr ⟨?_, ?_⟩
    · intro l st ρ' μ' cs hJ
      obtain ⟨l0, rfl, hJ0⟩ := mq_tZ_spec hJ
      clear hJ
      obtain ⟨v1, l1, rfl, hJ1⟩ := mq_tI_spec hJ0
      clear hJ0
      obtain ⟨v2, l2, rfl, hJ2⟩ := mq_tI_spec hJ1
      clear hJ1
      obtain ⟨v3, l3, rfl, hJ3⟩ := mq_tI_spec hJ2
      clear hJ2
      obtain ⟨rfl, hJz⟩ := mq_t0_spec hJ3
      clear hJ3
      obtain ⟨rfl, rfl, rfl, hc0, hc1, hc2, hc3, hc4, hc5, hc6, hc7, hc8, hc9, hc10, hc11, hc12, hm0, hm1⟩ := hJz
      omega
    exact fun _ h => absurd h List.not_mem_nil
  · intro as ρ μ h
    obtain ⟨nw, sp, tl, tx, al⟩ := ρ
    obtain ⟨as0, rfl, h0⟩ := mq_pZ_spec h
    clear h
    obtain ⟨k, as1, rfl, h1⟩ := mq_pI_spec h0
    clear h0
    obtain ⟨rfl, hp⟩ := mq_p0_spec h1
    clear h1
    obtain ⟨hp0, hp1, hp2, hp3, hp4, hp5, hp6, hp7⟩ := hp
    intro hrg
    obtain ⟨⟨ha1a, ha1b⟩, -⟩ := hrg
    refine List.forall_mem_cons.mpr ⟨?_, ?_⟩
    · intro N l st ρ' μ' cs hJ
      obtain ⟨l0, rfl, hJ0⟩ := mq_tZ_spec hJ
      clear hJ
      obtain ⟨v1, l1, rfl, hJ1⟩ := mq_tI_spec hJ0
      clear hJ0
      obtain ⟨l2, rfl, hJ2⟩ := mq_tN_spec hJ1
      clear hJ1
      obtain ⟨l3, rfl, hJ3⟩ := mq_tN_spec hJ2
      clear hJ2
      obtain ⟨rfl, hJz⟩ := mq_t0_spec hJ3
      clear hJ3
      obtain ⟨rfl, rfl, rfl, hc0, hc1, hc2, hc3, hc4, hc5, hc6, hc7, hm0, hm1⟩ := hJz
      intro hbk hrl
      obtain ⟨⟨hl1a, hl1b⟩, -⟩ := hrl
      subst hc0
      repeat' (first | refine And.intro ?_ ?_ | intro _)
      all_goals try simp only [Int.reduceToNat, Int.reduceAdd, mq_up_f, mq_up_s, mq_up_e, ne_eq, Nat.reduceEqDiff, not_false_eq_true, true_and, and_true, false_and, and_false, false_or, or_false, true_or, or_true, true_implies] at *
      all_goals first | omega | rfl | exact trivial | assumption | (have hag := ‹mq_ag _ _ _›; rw [mq_ag_at hag 69 0 (by decide +kernel)]; omega) | (have hag := ‹mq_ag _ _ _›; rw [mq_ag_at hag 69 0 (by decide +kernel), mq_ag_at hag 76 0 (by decide +kernel)]; assumption) | (have hag := ‹mq_ag _ _ _›; rw [mq_ag_at hag 76 0 (by decide +kernel)]; omega) | (have hag := ‹mq_ag _ _ _›; rw [mq_up_row, if_neg (by omega), mq_ag_at hag 76 0 (by decide +kernel)]; omega) | (have hag := ‹mq_ag _ _ _›; exact sq_m (sq_cc_up (sq_g hc7) (mq_ag_at hag 69 0 (by decide +kernel)) (fun x => by rw [mq_up_row, mq_ag_at hag 76 0 (by decide +kernel)]) (by omega) (by omega)))
    refine List.forall_mem_cons.mpr ⟨?_, ?_⟩
    · intro N l st ρ' μ' cs hJ
      obtain ⟨l0, rfl, hJ0⟩ := mq_tZ_spec hJ
      clear hJ
      obtain ⟨v1, l1, rfl, hJ1⟩ := mq_tI_spec hJ0
      clear hJ0
      obtain ⟨l2, rfl, hJ2⟩ := mq_tN_spec hJ1
      clear hJ1
      obtain ⟨l3, rfl, hJ3⟩ := mq_tN_spec hJ2
      clear hJ2
      obtain ⟨rfl, hJz⟩ := mq_t0_spec hJ3
      clear hJ3
      obtain ⟨rfl, rfl, rfl, hc0, hc1, hc2, hc3, hc4, hc5, hc6, hc7, hm0, hm1⟩ := hJz
      intro hbk hrl
      obtain ⟨⟨hl1a, hl1b⟩, -⟩ := hrl
      subst hc0
      repeat' (first | refine And.intro ?_ ?_ | intro _)
      all_goals try simp only [Int.reduceToNat, Int.reduceAdd, mq_up_f, mq_up_s, mq_up_e, ne_eq, Nat.reduceEqDiff, not_false_eq_true, true_and, and_true, false_and, and_false, false_or, or_false, true_or, or_true, true_implies] at *
      all_goals first | omega | rfl | exact trivial | assumption | (have hag := ‹mq_ag _ _ _›; rw [mq_ag_at hag 69 0 (by decide +kernel)]; omega) | (have hag := ‹mq_ag _ _ _›; rw [mq_ag_at hag 69 0 (by decide +kernel), mq_ag_at hag 76 0 (by decide +kernel)]; assumption) | (have hag := ‹mq_ag _ _ _›; rw [mq_ag_at hag 76 0 (by decide +kernel)]; omega) | (have hag := ‹mq_ag _ _ _›; rw [mq_up_row, if_neg (by omega), mq_ag_at hag 76 0 (by decide +kernel)]; omega) | (have hag := ‹mq_ag _ _ _›; exact sq_m (sq_cc_up (sq_g hc7) (mq_ag_at hag 69 0 (by decide +kernel)) (fun x => by rw [mq_up_row, mq_ag_at hag 76 0 (by decide +kernel)]) (by omega) (by omega)))
    refine List.forall_mem_cons.mpr ⟨?_, ?_⟩
    · intro N l st ρ' μ' cs hJ
      obtain ⟨l0, rfl, hJ0⟩ := mq_tZ_spec hJ
      clear hJ
      obtain ⟨v1, l1, rfl, hJ1⟩ := mq_tI_spec hJ0
      clear hJ0
      obtain ⟨l2, rfl, hJ2⟩ := mq_tN_spec hJ1
      clear hJ1
      obtain ⟨l3, rfl, hJ3⟩ := mq_tN_spec hJ2
      clear hJ2
      obtain ⟨rfl, hJz⟩ := mq_t0_spec hJ3
      clear hJ3
      obtain ⟨rfl, rfl, rfl, hc0, hc1, hc2, hc3, hc4, hc5, hc6, hc7, hm0, hm1⟩ := hJz
      intro hbk hrl
      obtain ⟨⟨hl1a, hl1b⟩, -⟩ := hrl
      subst hc0
      repeat' (first | refine And.intro ?_ ?_ | intro _)
      all_goals try simp only [Int.reduceToNat, Int.reduceAdd, mq_up_f, mq_up_s, mq_up_e, ne_eq, Nat.reduceEqDiff, not_false_eq_true, true_and, and_true, false_and, and_false, false_or, or_false, true_or, or_true, true_implies] at *
      all_goals first | omega | rfl | exact trivial | assumption | (have hag := ‹mq_ag _ _ _›; rw [mq_ag_at hag 69 0 (by decide +kernel)]; omega) | (have hag := ‹mq_ag _ _ _›; rw [mq_ag_at hag 69 0 (by decide +kernel), mq_ag_at hag 76 0 (by decide +kernel)]; assumption) | (have hag := ‹mq_ag _ _ _›; rw [mq_ag_at hag 76 0 (by decide +kernel)]; omega) | (have hag := ‹mq_ag _ _ _›; rw [mq_up_row, if_neg (by omega), mq_ag_at hag 76 0 (by decide +kernel)]; omega) | (have hag := ‹mq_ag _ _ _›; exact sq_m (sq_cc_up (sq_g hc7) (mq_ag_at hag 69 0 (by decide +kernel)) (fun x => by rw [mq_up_row, mq_ag_at hag 76 0 (by decide +kernel)]) (by omega) (by omega)))
    refine List.forall_mem_cons.mpr ⟨?_, ?_⟩
    · intro N l st ρ' μ' cs hJ
      obtain ⟨l0, rfl, hJ0⟩ := mq_tZ_spec hJ
      clear hJ
      obtain ⟨v1, l1, rfl, hJ1⟩ := mq_tI_spec hJ0
      clear hJ0
      obtain ⟨l2, rfl, hJ2⟩ := mq_tN_spec hJ1
      clear hJ1
      obtain ⟨l3, rfl, hJ3⟩ := mq_tN_spec hJ2
      clear hJ2
      obtain ⟨rfl, hJz⟩ := mq_t0_spec hJ3
      clear hJ3
      obtain ⟨rfl, rfl, rfl, hc0, hc1, hc2, hc3, hc4, hc5, hc6, hc7, hm0, hm1⟩ := hJz
      intro hbk hrl
      obtain ⟨⟨hl1a, hl1b⟩, -⟩ := hrl
      subst hc0
      repeat' (first | refine And.intro ?_ ?_ | intro _)
      all_goals try simp only [Int.reduceToNat, Int.reduceAdd, mq_up_f, mq_up_s, mq_up_e, ne_eq, Nat.reduceEqDiff, not_false_eq_true, true_and, and_true, false_and, and_false, false_or, or_false, true_or, or_true, true_implies] at *
      all_goals first | omega | rfl | exact trivial | assumption | (have hag := ‹mq_ag _ _ _›; rw [mq_ag_at hag 69 0 (by decide +kernel)]; omega) | (have hag := ‹mq_ag _ _ _›; rw [mq_ag_at hag 69 0 (by decide +kernel), mq_ag_at hag 76 0 (by decide +kernel)]; assumption) | (have hag := ‹mq_ag _ _ _›; rw [mq_ag_at hag 76 0 (by decide +kernel)]; omega) | (have hag := ‹mq_ag _ _ _›; rw [mq_up_row, if_neg (by omega), mq_ag_at hag 76 0 (by decide +kernel)]; omega) | (have hag := ‹mq_ag _ _ _›; exact sq_m (sq_cc_up (sq_g hc7) (mq_ag_at hag 69 0 (by decide +kernel)) (fun x => by rw [mq_up_row, mq_ag_at hag 76 0 (by decide +kernel)]) (by omega) (by omega)))
    refine List.forall_mem_cons.mpr ⟨?_, ?_⟩
    · intro N l st ρ' μ' cs hJ
      obtain ⟨l0, rfl, hJ0⟩ := mq_tZ_spec hJ
      clear hJ
      obtain ⟨v1, l1, rfl, hJ1⟩ := mq_tI_spec hJ0
      clear hJ0
      obtain ⟨v2, l2, rfl, hJ2⟩ := mq_tI_spec hJ1
      clear hJ1
      obtain ⟨v3, l3, rfl, hJ3⟩ := mq_tI_spec hJ2
      clear hJ2
      obtain ⟨rfl, hJz⟩ := mq_t0_spec hJ3
      clear hJ3
      obtain ⟨rfl, rfl, rfl, hc0, hc1, hc2, hc3, hc4, hc5, hc6, hc7, hc8, hc9, hc10, hc11, hc12, hm0, hm1⟩ := hJz
      intro hbk hrl
      obtain ⟨⟨hl1a, hl1b⟩, ⟨hl2a, hl2b⟩, ⟨hl3a, hl3b⟩, -⟩ := hrl
      subst hc0
      repeat' (first | refine And.intro ?_ ?_ | intro _)
      all_goals try simp only [Int.reduceToNat, Int.reduceAdd, mq_up_f, mq_up_s, mq_up_e, ne_eq, Nat.reduceEqDiff, not_false_eq_true, true_and, and_true, false_and, and_false, false_or, or_false, true_or, or_true, true_implies] at *
      all_goals first | omega | rfl | exact trivial | assumption | (rw [sq_cnt_y (by omega) (by omega)]; omega) | (rw [sq_cnt_n (by omega) (by omega)]; omega) | exact sq_m (sq_pl_cc (n := μ (69, 0) 34) (T := μ (69, 0) 33 - 1) (sq_g hp6) rfl (by omega) (by omega) (by omega) (sq_g hc7) (by omega) (sq_end (F := sq_cnt _ _ _) hc12 (by omega)) (mq_up_row _ _ _ _)) | exact sq_m (sq_inv_cc (sq_g hp7) (fun d a b => by rw [← (sq_g hc7).1]; exact sq_has16 hbk d a b) (sq_g hc7) (by omega) (by omega) (mq_up_row _ _ _ _))
    exact fun _ h => absurd h List.not_mem_nil
theorem mw0_m_coachClause : mq_mlA cq_m_coachClause 0 := ⟨kw_1138, ⟨by decide +kernel, by decide +kernel⟩, by decide +kernel, kw_1139, kw_1140, kw_771, 60, by decide +kernel, fun as ρ μ h => by obtain ⟨nw, sp, tl, tx, al⟩ := ρ; obtain ⟨t, e, _⟩ := mq_pZ_spec h; exact ⟨0, t, e⟩⟩
def pq_m_clause : List mq_E := [(0, false, .aload 0), (1, false, .iload 1), (2, false, .invokestatic 0), (5, false, .istore 2), (6, false, .iload 1), (7, false, .tableswitch (Int.ofNat 476) 0 5 #[(Int.ofNat 44), (Int.ofNat 141), (Int.ofNat 218), (Int.ofNat 266), (Int.ofNat 320), (Int.ofNat 406)]), (44, true, .aload 0), (45, false, .goto_w 47), (48, false, .invokestatic 1), (51, true, .aload 0), (52, false, .invokeinterface 11 20), (55, false, .iconst 64), (57, false, .iconst 2), (58, false, .iload 2), (59, false, .imul), (60, false, .iadd), (61, false, .aload 0), (62, false, .invokestatic 2), (65, false, .iastore), (66, true, .aload 0), (67, false, .goto_w 583), (70, false, .invokestatic 3), (73, false, .istore 3), (74, false, .iload 3), (75, false, .ifCond .ne (Int.ofNat 93)), (78, false, .aload 0), (79, false, .goto_w 90302), (82, false, .invokestatic 3), (85, false, .ifCond .ne (Int.ofNat 93)), (88, false, .aload 0), (89, false, .iconst 1), (90, false, .invokestatic 4), (93, true, .aload 0), (94, false, .invokestatic 5), (97, false, .ifCond .eq (Int.ofNat 104)), (100, false, .aload 0), (101, false, .invokestatic 6), (104, true, .aload 0), (105, false, .iconst 0), (106, false, .iconst 9), (108, false, .invokestatic 7), (111, false, .istore 4), (113, true, .aload 0), (114, false, .invokeinterface 11 20), (117, false, .iconst 64), (119, false, .iconst 2), (120, false, .iload 2), (121, false, .imul), (122, false, .iadd), (123, false, .iconst 1), (124, false, .iadd), (125, false, .iload 3), (126, false, .ifCond .eq (Int.ofNat 134)), (129, false, .iload 4), (131, false, .goto (Int.ofNat 137)), (134, false, .iload 4), (136, false, .ineg), (137, false, .iastore), (138, false, .goto (Int.ofNat 487)), (141, true, .aload 0), (142, false, .goto_w 47), (145, false, .invokestatic 1), (148, true, .aload 0), (149, false, .invokestatic 2), (152, false, .istore 3), (153, true, .aload 0), (154, false, .invokeinterface 11 21), (157, false, .iconst 72), (159, false, .iconst 3), (160, false, .iload 2), (161, false, .imul), (162, false, .iadd), (163, false, .iload 3), (164, false, .jsr_w 0), (165, true, .aload 0), (166, false, .invokeinterface 11 21), (169, false, .iconst 72), (171, false, .iconst 3), (172, false, .iload 2), (173, false, .imul), (174, false, .iadd), (175, false, .iconst 1), (176, false, .iadd), (177, false, .aload 0), (178, false, .goto_w 555), (181, false, .iload 3), (182, false, .aload 0), (183, false, .invokeinterface 11 17), (186, false, .iconst 4), (187, false, .iaload), (188, false, .invokestatic 8), (191, false, .jsr_w 1), (192, true, .aload 0), (193, false, .invokeinterface 11 21), (196, false, .iconst 72), (198, false, .iconst 3), (199, false, .iload 2), (200, false, .imul), (201, false, .iadd), (202, false, .iconst 2), (203, false, .iadd), (204, false, .aload 0), (205, false, .goto_w 79), (208, false, .iconst 0), (209, false, .iconst 100), (211, false, .invokestatic 8), (214, false, .jsr_w 2), (215, false, .goto (Int.ofNat 487)), (218, true, .aload 0), (219, false, .goto_w 47), (222, false, .invokestatic 1), (225, true, .aload 0), (226, false, .invokeinterface 11 22), (229, false, .iconst 48), (231, false, .iconst 2), (232, false, .iload 2), (233, false, .imul), (234, false, .iadd), (235, false, .aload 0), (236, false, .invokestatic 2), (239, false, .iastore), (240, true, .aload 0), (241, false, .invokeinterface 11 22), (244, false, .iconst 48), (246, false, .iconst 2), (247, false, .iload 2), (248, false, .imul), (249, false, .iadd), (250, false, .iconst 1), (251, false, .iadd), (252, false, .aload 0), (253, false, .goto_w 411), (256, false, .iconst 1), (257, false, .iconst 15), (259, false, .invokestatic 8), (262, false, .iastore), (263, false, .goto (Int.ofNat 487)), (266, true, .aload 0), (267, false, .goto_w 47), (270, false, .invokestatic 1), (273, true, .aload 0), (274, false, .invokestatic 2), (277, false, .istore 3), (278, true, .aload 0), (279, false, .invokeinterface 11 23), (282, false, .iconst 48), (284, false, .iconst 2), (285, false, .iload 2), (286, false, .imul), (287, false, .iadd), (288, false, .iload 3), (289, false, .iastore), (290, true, .aload 0), (291, false, .invokeinterface 11 23), (294, false, .iconst 48), (296, false, .iconst 2), (297, false, .iload 2), (298, false, .imul), (299, false, .iadd), (300, false, .iconst 1), (301, false, .iadd), (302, false, .aload 0), (303, false, .goto_w 555), (306, false, .iload 3), (307, false, .aload 0), (308, false, .invokeinterface 11 17), (311, false, .iconst 4), (312, false, .iaload), (313, false, .invokestatic 8), (316, false, .iastore), (317, false, .goto (Int.ofNat 487)), (320, true, .aload 0), (321, false, .invokeinterface 11 24), (324, false, .iconst 80), (326, false, .iconst 5), (327, false, .iload 2), (328, false, .imul), (329, false, .iadd), (330, false, .aload 0), (331, false, .goto_w 247516), (334, false, .iconst 1), (335, false, .iconst 30), (337, false, .invokestatic 8), (340, false, .iastore), (341, true, .aload 0), (342, false, .invokeinterface 11 24), (345, false, .iconst 80), (347, false, .iconst 5), (348, false, .iload 2), (349, false, .imul), (350, false, .iadd), (351, false, .iconst 1), (352, false, .iadd), (353, false, .aload 0), (354, false, .goto_w 365565), (357, false, .iconst 0), (358, false, .iconst 3), (359, false, .invokestatic 8), (362, false, .iastore), (363, true, .aload 0), (364, false, .goto_w 38291608), (367, false, .invokestatic 1), (370, false, .iconst 2), (371, false, .istore 3), (372, true, .iload 3), (373, false, .iconst 5), (374, false, .if_icmp .ge (Int.ofNat 403)), (377, false, .aload 0), (378, false, .invokeinterface 11 24), (381, false, .iconst 80), (383, false, .iconst 5), (384, false, .iload 2), (385, false, .imul), (386, false, .iadd), (387, false, .iload 3), (388, false, .iadd), (389, false, .aload 0), (390, false, .iconst 1), (391, false, .iconst 9), (393, false, .invokestatic 7), (396, false, .iastore), (397, false, .iinc 3 1), (400, false, .goto (Int.ofNat 372)), (403, false, .goto (Int.ofNat 487)), (406, true, .aload 0), (407, false, .invokeinterface 11 25), (410, false, .iconst 60), (412, false, .iconst 3), (413, false, .iload 2), (414, false, .imul), (415, false, .iadd), (416, false, .aload 0), (417, false, .goto_w 283291417), (420, false, .iconst 0), (421, false, .iconst 300), (424, false, .invokestatic 8), (427, false, .jsr_w 0), (428, true, .aload 0), (429, false, .invokeinterface 11 25), (432, false, .iconst 60), (434, false, .iconst 3), (435, false, .iload 2), (436, false, .imul), (437, false, .iadd), (438, false, .iconst 1), (439, false, .iadd), (440, false, .aload 0), (441, false, .goto_w 10416091), (444, false, .iconst 1), (445, false, .iconst 15), (447, false, .invokestatic 8), (450, false, .jsr_w 1), (451, true, .aload 0), (452, false, .invokeinterface 11 25), (455, false, .iconst 60), (457, false, .iconst 3), (458, false, .iload 2), (459, false, .imul), (460, false, .iadd), (461, false, .iconst 2), (462, false, .iadd), (463, false, .aload 0), (464, false, .goto_w 6686542), (467, false, .iconst 0), (468, false, .iconst 5), (469, false, .invokestatic 8), (472, false, .jsr_w 2), (473, false, .goto (Int.ofNat 487)), (476, true, .aload 0), (477, false, .iconst 320), (480, false, .iconst 5), (481, false, .iload 2), (482, false, .imul), (483, false, .iadd), (484, false, .invokestatic 9), (487, true, .aload 0), (488, false, .invokeinterface 11 19), (491, false, .iconst 28), (493, false, .iload 1), (494, false, .iadd), (495, false, .dup2), (496, false, .iaload), (497, false, .iconst 1), (498, false, .iadd), (499, false, .iastore), (500, false, .return_)]
def cq_m_clause : mq_C := ((yX11_clause, cX11_clause, 5, none, { frames := 6, cells := 0, slots := 0, locals := 135 }), (2, 0, 0, 0), 150526584562974548033536, (fun as ρ μ => match ρ with
  | (nw, sp, tl, tx, al) => mq_pZ as 60 fun as => mq_pI as fun w as => mq_p0 as (0 ≤ w ∧ w ≤ 6 ∧ (w = 0 → μ (69, 0) 28 < 8) ∧ (w = 1 → μ (69, 0) 29 < 6) ∧ (w = 2 → μ (69, 0) 30 < 6) ∧ (w = 3 → μ (69, 0) 31 < 6) ∧ (w = 4 → μ (69, 0) 32 < 4) ∧ (w = 5 → μ (69, 0) 33 < 5) ∧ (w = 6 → μ (69, 0) 34 < 16) ∧ (w = 6 → 1 ≤ μ (69, 0) 33) ∧ μ (60, 0) 7 ≤ μ (60, 0) 6 ∧ 0 ≤ μ (60, 0) 7 ∧ sq_bx (sq_pl (μ (69, 0)) (μ (76, 0)) 4) ∧ sq_bx (sq_inv (μ (69, 0)) (μ (76, 0))))),
  (fun as ρ μ r ρ' μ' => match as, ρ, ρ' with
  | [.inr (.inr (some (_, _))), .inl w], (nw, sp, tl, tx, al), (nw', sp', tl', tx', al') => [μ' (60, 0) 7 ≤ μ' (60, 0) 6, 0 ≤ μ' (60, 0) 7, μ (60, 0) 7 ≤ μ' (60, 0) 7, sq_bx (sq_pl (μ' (69, 0)) (μ' (76, 0)) 4), sq_bx (sq_inv (μ' (69, 0)) (μ' (76, 0)))]
  | _, _, _ => []))
def kq_m_clause : List mq_V → mq_R → mq_M → List mq_Cu := fun as ρ μ => match as, ρ with
  | [.inr (.inr (some (_, _))), .inl w], (nw, sp, tl, tx, al) => [(44, [true, true, true, false, false], fun N l st ρ' μ' cs => mq_tZ l 60 fun l => mq_tI l fun v1 l => mq_tI l fun v2 l => mq_tN l fun l => mq_tN l fun l => mq_t0 l (st = [] ∧ ρ' = (nw, sp, tl, tx, al) ∧ cs = 0 ∧ v1 = w ∧ w = 0 ∧ 0 ≤ v2 ∧ v2 = μ' (69, 0) 28 ∧ v2 < 8 ∧ μ' (60, 0) 7 ≤ μ' (60, 0) 6 ∧ 0 ≤ μ' (60, 0) 7 ∧ μ (60, 0) 7 ≤ μ' (60, 0) 7 ∧ sq_bx (sq_pl (μ' (69, 0)) (μ' (76, 0)) 4) ∧ sq_bx (sq_inv (μ' (69, 0)) (μ' (76, 0))) ∧ 0 ≤ (1000 * (1000 - 44) : Int) ∧ (1000 * (1000 - 44) : Int) < (N : Int))),
    (51, [true, true, true, false, false], fun N l st ρ' μ' cs => mq_tZ l 60 fun l => mq_tI l fun v1 l => mq_tI l fun v2 l => mq_tN l fun l => mq_tN l fun l => mq_t0 l (st = [] ∧ ρ' = (nw, sp, tl, tx, al) ∧ cs = 0 ∧ v1 = w ∧ w = 0 ∧ 0 ≤ v2 ∧ v2 = μ' (69, 0) 28 ∧ v2 < 8 ∧ μ' (60, 0) 7 ≤ μ' (60, 0) 6 ∧ 0 ≤ μ' (60, 0) 7 ∧ μ (60, 0) 7 ≤ μ' (60, 0) 7 ∧ sq_bx (sq_pl (μ' (69, 0)) (μ' (76, 0)) 4) ∧ sq_bx (sq_inv (μ' (69, 0)) (μ' (76, 0))) ∧ 0 ≤ (1000 * (1000 - 51) : Int) ∧ (1000 * (1000 - 51) : Int) < (N : Int))),
    (66, [true, true, true, false, false], fun N l st ρ' μ' cs => mq_tZ l 60 fun l => mq_tI l fun v1 l => mq_tI l fun v2 l => mq_tN l fun l => mq_tN l fun l => mq_t0 l (st = [] ∧ ρ' = (nw, sp, tl, tx, al) ∧ cs = 0 ∧ v1 = w ∧ w = 0 ∧ 0 ≤ v2 ∧ v2 = μ' (69, 0) 28 ∧ v2 < 8 ∧ μ' (60, 0) 7 ≤ μ' (60, 0) 6 ∧ 0 ≤ μ' (60, 0) 7 ∧ μ (60, 0) 7 ≤ μ' (60, 0) 7 ∧ sq_bx (sq_pl (μ' (69, 0)) (μ' (76, 0)) 4) ∧ sq_bx (sq_inv (μ' (69, 0)) (μ' (76, 0))) ∧ 0 ≤ (1000 * (1000 - 66) : Int) ∧ (1000 * (1000 - 66) : Int) < (N : Int))),
    (93, [true, true, true, true, false], fun N l st ρ' μ' cs => mq_tZ l 60 fun l => mq_tI l fun v1 l => mq_tI l fun v2 l => mq_tI l fun v3 l => mq_tN l fun l => mq_t0 l (st = [] ∧ ρ' = (nw, sp, tl, tx, al) ∧ cs = 0 ∧ v1 = w ∧ w = 0 ∧ 0 ≤ v2 ∧ v2 = μ' (69, 0) 28 ∧ v2 < 8 ∧ μ' (60, 0) 7 ≤ μ' (60, 0) 6 ∧ 0 ≤ μ' (60, 0) 7 ∧ μ (60, 0) 7 ≤ μ' (60, 0) 7 ∧ sq_bx (sq_pl (μ' (69, 0)) (μ' (76, 0)) 4) ∧ sq_bx (sq_inv (μ' (69, 0)) (μ' (76, 0))) ∧ 0 ≤ (1000 * (1000 - 93) : Int) ∧ (1000 * (1000 - 93) : Int) < (N : Int))),
    (104, [true, true, true, true, false], fun N l st ρ' μ' cs => mq_tZ l 60 fun l => mq_tI l fun v1 l => mq_tI l fun v2 l => mq_tI l fun v3 l => mq_tN l fun l => mq_t0 l (st = [] ∧ ρ' = (nw, sp, tl, tx, al) ∧ cs = 0 ∧ v1 = w ∧ w = 0 ∧ 0 ≤ v2 ∧ v2 = μ' (69, 0) 28 ∧ v2 < 8 ∧ μ' (60, 0) 7 ≤ μ' (60, 0) 6 ∧ 0 ≤ μ' (60, 0) 7 ∧ μ (60, 0) 7 ≤ μ' (60, 0) 7 ∧ sq_bx (sq_pl (μ' (69, 0)) (μ' (76, 0)) 4) ∧ sq_bx (sq_inv (μ' (69, 0)) (μ' (76, 0))) ∧ 0 ≤ (1000 * (1000 - 104) : Int) ∧ (1000 * (1000 - 104) : Int) < (N : Int))),
    (113, [true, true, true, true, true], fun N l st ρ' μ' cs => mq_tZ l 60 fun l => mq_tI l fun v1 l => mq_tI l fun v2 l => mq_tI l fun v3 l => mq_tI l fun v4 l => mq_t0 l (st = [] ∧ ρ' = (nw, sp, tl, tx, al) ∧ cs = 0 ∧ v1 = w ∧ w = 0 ∧ 0 ≤ v2 ∧ v2 = μ' (69, 0) 28 ∧ v2 < 8 ∧ μ' (60, 0) 7 ≤ μ' (60, 0) 6 ∧ 0 ≤ μ' (60, 0) 7 ∧ μ (60, 0) 7 ≤ μ' (60, 0) 7 ∧ sq_bx (sq_pl (μ' (69, 0)) (μ' (76, 0)) 4) ∧ sq_bx (sq_inv (μ' (69, 0)) (μ' (76, 0))) ∧ 0 ≤ v4 ∧ v4 ≤ 9 ∧ 0 ≤ (1000 * (1000 - 113) : Int) ∧ (1000 * (1000 - 113) : Int) < (N : Int))),
    (141, [true, true, true, false, false], fun N l st ρ' μ' cs => mq_tZ l 60 fun l => mq_tI l fun v1 l => mq_tI l fun v2 l => mq_tN l fun l => mq_tN l fun l => mq_t0 l (st = [] ∧ ρ' = (nw, sp, tl, tx, al) ∧ cs = 0 ∧ v1 = w ∧ w = 1 ∧ 0 ≤ v2 ∧ v2 = μ' (69, 0) 29 ∧ v2 < 6 ∧ μ' (60, 0) 7 ≤ μ' (60, 0) 6 ∧ 0 ≤ μ' (60, 0) 7 ∧ μ (60, 0) 7 ≤ μ' (60, 0) 7 ∧ sq_bx (sq_pl (μ' (69, 0)) (μ' (76, 0)) 4) ∧ sq_bx (sq_inv (μ' (69, 0)) (μ' (76, 0))) ∧ 0 ≤ (1000 * (1000 - 141) : Int) ∧ (1000 * (1000 - 141) : Int) < (N : Int))),
    (148, [true, true, true, false, false], fun N l st ρ' μ' cs => mq_tZ l 60 fun l => mq_tI l fun v1 l => mq_tI l fun v2 l => mq_tN l fun l => mq_tN l fun l => mq_t0 l (st = [] ∧ ρ' = (nw, sp, tl, tx, al) ∧ cs = 0 ∧ v1 = w ∧ w = 1 ∧ 0 ≤ v2 ∧ v2 = μ' (69, 0) 29 ∧ v2 < 6 ∧ μ' (60, 0) 7 ≤ μ' (60, 0) 6 ∧ 0 ≤ μ' (60, 0) 7 ∧ μ (60, 0) 7 ≤ μ' (60, 0) 7 ∧ sq_bx (sq_pl (μ' (69, 0)) (μ' (76, 0)) 4) ∧ sq_bx (sq_inv (μ' (69, 0)) (μ' (76, 0))) ∧ 0 ≤ (1000 * (1000 - 148) : Int) ∧ (1000 * (1000 - 148) : Int) < (N : Int))),
    (153, [true, true, true, true, false], fun N l st ρ' μ' cs => mq_tZ l 60 fun l => mq_tI l fun v1 l => mq_tI l fun v2 l => mq_tI l fun v3 l => mq_tN l fun l => mq_t0 l (st = [] ∧ ρ' = (nw, sp, tl, tx, al) ∧ cs = 0 ∧ v1 = w ∧ w = 1 ∧ 0 ≤ v2 ∧ v2 = μ' (69, 0) 29 ∧ v2 < 6 ∧ μ' (60, 0) 7 ≤ μ' (60, 0) 6 ∧ 0 ≤ μ' (60, 0) 7 ∧ μ (60, 0) 7 ≤ μ' (60, 0) 7 ∧ sq_bx (sq_pl (μ' (69, 0)) (μ' (76, 0)) 4) ∧ sq_bx (sq_inv (μ' (69, 0)) (μ' (76, 0))) ∧ 0 ≤ v3 ∧ v3 ≤ 400 ∧ 0 ≤ (1000 * (1000 - 153) : Int) ∧ (1000 * (1000 - 153) : Int) < (N : Int))),
    (165, [true, true, true, true, false], fun N l st ρ' μ' cs => mq_tZ l 60 fun l => mq_tI l fun v1 l => mq_tI l fun v2 l => mq_tI l fun v3 l => mq_tN l fun l => mq_t0 l (st = [] ∧ ρ' = (nw, sp, tl, tx, al) ∧ cs = 0 ∧ v1 = w ∧ w = 1 ∧ 0 ≤ v2 ∧ v2 = μ' (69, 0) 29 ∧ v2 < 6 ∧ μ' (60, 0) 7 ≤ μ' (60, 0) 6 ∧ 0 ≤ μ' (60, 0) 7 ∧ μ (60, 0) 7 ≤ μ' (60, 0) 7 ∧ sq_bx (sq_pl (μ' (69, 0)) (μ' (76, 0)) 4) ∧ sq_bx (sq_inv (μ' (69, 0)) (μ' (76, 0))) ∧ 0 ≤ v3 ∧ v3 ≤ 400 ∧ 0 ≤ (1000 * (1000 - 165) : Int) ∧ (1000 * (1000 - 165) : Int) < (N : Int))),
    (192, [true, true, true, true, false], fun N l st ρ' μ' cs => mq_tZ l 60 fun l => mq_tI l fun v1 l => mq_tI l fun v2 l => mq_tI l fun v3 l => mq_tN l fun l => mq_t0 l (st = [] ∧ ρ' = (nw, sp, tl, tx, al) ∧ cs = 0 ∧ v1 = w ∧ w = 1 ∧ 0 ≤ v2 ∧ v2 = μ' (69, 0) 29 ∧ v2 < 6 ∧ μ' (60, 0) 7 ≤ μ' (60, 0) 6 ∧ 0 ≤ μ' (60, 0) 7 ∧ μ (60, 0) 7 ≤ μ' (60, 0) 7 ∧ sq_bx (sq_pl (μ' (69, 0)) (μ' (76, 0)) 4) ∧ sq_bx (sq_inv (μ' (69, 0)) (μ' (76, 0))) ∧ 0 ≤ (1000 * (1000 - 192) : Int) ∧ (1000 * (1000 - 192) : Int) < (N : Int))),
    (218, [true, true, true, false, false], fun N l st ρ' μ' cs => mq_tZ l 60 fun l => mq_tI l fun v1 l => mq_tI l fun v2 l => mq_tN l fun l => mq_tN l fun l => mq_t0 l (st = [] ∧ ρ' = (nw, sp, tl, tx, al) ∧ cs = 0 ∧ v1 = w ∧ w = 2 ∧ 0 ≤ v2 ∧ v2 = μ' (69, 0) 30 ∧ v2 < 6 ∧ μ' (60, 0) 7 ≤ μ' (60, 0) 6 ∧ 0 ≤ μ' (60, 0) 7 ∧ μ (60, 0) 7 ≤ μ' (60, 0) 7 ∧ sq_bx (sq_pl (μ' (69, 0)) (μ' (76, 0)) 4) ∧ sq_bx (sq_inv (μ' (69, 0)) (μ' (76, 0))) ∧ 0 ≤ (1000 * (1000 - 218) : Int) ∧ (1000 * (1000 - 218) : Int) < (N : Int))),
    (225, [true, true, true, false, false], fun N l st ρ' μ' cs => mq_tZ l 60 fun l => mq_tI l fun v1 l => mq_tI l fun v2 l => mq_tN l fun l => mq_tN l fun l => mq_t0 l (st = [] ∧ ρ' = (nw, sp, tl, tx, al) ∧ cs = 0 ∧ v1 = w ∧ w = 2 ∧ 0 ≤ v2 ∧ v2 = μ' (69, 0) 30 ∧ v2 < 6 ∧ μ' (60, 0) 7 ≤ μ' (60, 0) 6 ∧ 0 ≤ μ' (60, 0) 7 ∧ μ (60, 0) 7 ≤ μ' (60, 0) 7 ∧ sq_bx (sq_pl (μ' (69, 0)) (μ' (76, 0)) 4) ∧ sq_bx (sq_inv (μ' (69, 0)) (μ' (76, 0))) ∧ 0 ≤ (1000 * (1000 - 225) : Int) ∧ (1000 * (1000 - 225) : Int) < (N : Int))),
    (240, [true, true, true, false, false], fun N l st ρ' μ' cs => mq_tZ l 60 fun l => mq_tI l fun v1 l => mq_tI l fun v2 l => mq_tN l fun l => mq_tN l fun l => mq_t0 l (st = [] ∧ ρ' = (nw, sp, tl, tx, al) ∧ cs = 0 ∧ v1 = w ∧ w = 2 ∧ 0 ≤ v2 ∧ v2 = μ' (69, 0) 30 ∧ v2 < 6 ∧ μ' (60, 0) 7 ≤ μ' (60, 0) 6 ∧ 0 ≤ μ' (60, 0) 7 ∧ μ (60, 0) 7 ≤ μ' (60, 0) 7 ∧ sq_bx (sq_pl (μ' (69, 0)) (μ' (76, 0)) 4) ∧ sq_bx (sq_inv (μ' (69, 0)) (μ' (76, 0))) ∧ 0 ≤ (1000 * (1000 - 240) : Int) ∧ (1000 * (1000 - 240) : Int) < (N : Int))),
    (266, [true, true, true, false, false], fun N l st ρ' μ' cs => mq_tZ l 60 fun l => mq_tI l fun v1 l => mq_tI l fun v2 l => mq_tN l fun l => mq_tN l fun l => mq_t0 l (st = [] ∧ ρ' = (nw, sp, tl, tx, al) ∧ cs = 0 ∧ v1 = w ∧ w = 3 ∧ 0 ≤ v2 ∧ v2 = μ' (69, 0) 31 ∧ v2 < 6 ∧ μ' (60, 0) 7 ≤ μ' (60, 0) 6 ∧ 0 ≤ μ' (60, 0) 7 ∧ μ (60, 0) 7 ≤ μ' (60, 0) 7 ∧ sq_bx (sq_pl (μ' (69, 0)) (μ' (76, 0)) 4) ∧ sq_bx (sq_inv (μ' (69, 0)) (μ' (76, 0))) ∧ 0 ≤ (1000 * (1000 - 266) : Int) ∧ (1000 * (1000 - 266) : Int) < (N : Int))),
    (273, [true, true, true, false, false], fun N l st ρ' μ' cs => mq_tZ l 60 fun l => mq_tI l fun v1 l => mq_tI l fun v2 l => mq_tN l fun l => mq_tN l fun l => mq_t0 l (st = [] ∧ ρ' = (nw, sp, tl, tx, al) ∧ cs = 0 ∧ v1 = w ∧ w = 3 ∧ 0 ≤ v2 ∧ v2 = μ' (69, 0) 31 ∧ v2 < 6 ∧ μ' (60, 0) 7 ≤ μ' (60, 0) 6 ∧ 0 ≤ μ' (60, 0) 7 ∧ μ (60, 0) 7 ≤ μ' (60, 0) 7 ∧ sq_bx (sq_pl (μ' (69, 0)) (μ' (76, 0)) 4) ∧ sq_bx (sq_inv (μ' (69, 0)) (μ' (76, 0))) ∧ 0 ≤ (1000 * (1000 - 273) : Int) ∧ (1000 * (1000 - 273) : Int) < (N : Int))),
    (278, [true, true, true, true, false], fun N l st ρ' μ' cs => mq_tZ l 60 fun l => mq_tI l fun v1 l => mq_tI l fun v2 l => mq_tI l fun v3 l => mq_tN l fun l => mq_t0 l (st = [] ∧ ρ' = (nw, sp, tl, tx, al) ∧ cs = 0 ∧ v1 = w ∧ w = 3 ∧ 0 ≤ v2 ∧ v2 = μ' (69, 0) 31 ∧ v2 < 6 ∧ μ' (60, 0) 7 ≤ μ' (60, 0) 6 ∧ 0 ≤ μ' (60, 0) 7 ∧ μ (60, 0) 7 ≤ μ' (60, 0) 7 ∧ sq_bx (sq_pl (μ' (69, 0)) (μ' (76, 0)) 4) ∧ sq_bx (sq_inv (μ' (69, 0)) (μ' (76, 0))) ∧ 0 ≤ v3 ∧ v3 ≤ 400 ∧ 0 ≤ (1000 * (1000 - 278) : Int) ∧ (1000 * (1000 - 278) : Int) < (N : Int))),
    (290, [true, true, true, true, false], fun N l st ρ' μ' cs => mq_tZ l 60 fun l => mq_tI l fun v1 l => mq_tI l fun v2 l => mq_tI l fun v3 l => mq_tN l fun l => mq_t0 l (st = [] ∧ ρ' = (nw, sp, tl, tx, al) ∧ cs = 0 ∧ v1 = w ∧ w = 3 ∧ 0 ≤ v2 ∧ v2 = μ' (69, 0) 31 ∧ v2 < 6 ∧ μ' (60, 0) 7 ≤ μ' (60, 0) 6 ∧ 0 ≤ μ' (60, 0) 7 ∧ μ (60, 0) 7 ≤ μ' (60, 0) 7 ∧ sq_bx (sq_pl (μ' (69, 0)) (μ' (76, 0)) 4) ∧ sq_bx (sq_inv (μ' (69, 0)) (μ' (76, 0))) ∧ 0 ≤ v3 ∧ v3 ≤ 400 ∧ 0 ≤ (1000 * (1000 - 290) : Int) ∧ (1000 * (1000 - 290) : Int) < (N : Int))),
    (320, [true, true, true, false, false], fun N l st ρ' μ' cs => mq_tZ l 60 fun l => mq_tI l fun v1 l => mq_tI l fun v2 l => mq_tN l fun l => mq_tN l fun l => mq_t0 l (st = [] ∧ ρ' = (nw, sp, tl, tx, al) ∧ cs = 0 ∧ v1 = w ∧ w = 4 ∧ 0 ≤ v2 ∧ v2 = μ' (69, 0) 32 ∧ v2 < 4 ∧ μ' (60, 0) 7 ≤ μ' (60, 0) 6 ∧ 0 ≤ μ' (60, 0) 7 ∧ μ (60, 0) 7 ≤ μ' (60, 0) 7 ∧ sq_bx (sq_pl (μ' (69, 0)) (μ' (76, 0)) 4) ∧ sq_bx (sq_inv (μ' (69, 0)) (μ' (76, 0))) ∧ 0 ≤ (1000 * (1000 - 320) : Int) ∧ (1000 * (1000 - 320) : Int) < (N : Int))),
    (341, [true, true, true, false, false], fun N l st ρ' μ' cs => mq_tZ l 60 fun l => mq_tI l fun v1 l => mq_tI l fun v2 l => mq_tN l fun l => mq_tN l fun l => mq_t0 l (st = [] ∧ ρ' = (nw, sp, tl, tx, al) ∧ cs = 0 ∧ v1 = w ∧ w = 4 ∧ 0 ≤ v2 ∧ v2 = μ' (69, 0) 32 ∧ v2 < 4 ∧ μ' (60, 0) 7 ≤ μ' (60, 0) 6 ∧ 0 ≤ μ' (60, 0) 7 ∧ μ (60, 0) 7 ≤ μ' (60, 0) 7 ∧ sq_bx (sq_pl (μ' (69, 0)) (μ' (76, 0)) 4) ∧ sq_bx (sq_inv (μ' (69, 0)) (μ' (76, 0))) ∧ 0 ≤ (1000 * (1000 - 341) : Int) ∧ (1000 * (1000 - 341) : Int) < (N : Int))),
    (363, [true, true, true, false, false], fun N l st ρ' μ' cs => mq_tZ l 60 fun l => mq_tI l fun v1 l => mq_tI l fun v2 l => mq_tN l fun l => mq_tN l fun l => mq_t0 l (st = [] ∧ ρ' = (nw, sp, tl, tx, al) ∧ cs = 0 ∧ v1 = w ∧ w = 4 ∧ 0 ≤ v2 ∧ v2 = μ' (69, 0) 32 ∧ v2 < 4 ∧ μ' (60, 0) 7 ≤ μ' (60, 0) 6 ∧ 0 ≤ μ' (60, 0) 7 ∧ μ (60, 0) 7 ≤ μ' (60, 0) 7 ∧ sq_bx (sq_pl (μ' (69, 0)) (μ' (76, 0)) 4) ∧ sq_bx (sq_inv (μ' (69, 0)) (μ' (76, 0))) ∧ 0 ≤ (1000 * (1000 - 363) : Int) ∧ (1000 * (1000 - 363) : Int) < (N : Int))),
    (372, [true, true, true, true, false], fun N l st ρ' μ' cs => mq_tZ l 60 fun l => mq_tI l fun v1 l => mq_tI l fun v2 l => mq_tI l fun v3 l => mq_tN l fun l => mq_t0 l (st = [] ∧ ρ' = (nw, sp, tl, tx, al) ∧ cs = 0 ∧ v1 = w ∧ w = 4 ∧ 0 ≤ v2 ∧ v2 = μ' (69, 0) 32 ∧ v2 < 4 ∧ μ' (60, 0) 7 ≤ μ' (60, 0) 6 ∧ 0 ≤ μ' (60, 0) 7 ∧ μ (60, 0) 7 ≤ μ' (60, 0) 7 ∧ sq_bx (sq_pl (μ' (69, 0)) (μ' (76, 0)) 4) ∧ sq_bx (sq_inv (μ' (69, 0)) (μ' (76, 0))) ∧ 2 ≤ v3 ∧ v3 ≤ 5 ∧ 0 ≤ (1000 * (1000 - 372) + 5 - v3 : Int) ∧ (1000 * (1000 - 372) + 5 - v3 : Int) < (N : Int))),
    (406, [true, true, true, false, false], fun N l st ρ' μ' cs => mq_tZ l 60 fun l => mq_tI l fun v1 l => mq_tI l fun v2 l => mq_tN l fun l => mq_tN l fun l => mq_t0 l (st = [] ∧ ρ' = (nw, sp, tl, tx, al) ∧ cs = 0 ∧ v1 = w ∧ w = 5 ∧ 0 ≤ v2 ∧ v2 = μ' (69, 0) 33 ∧ v2 < 5 ∧ μ' (60, 0) 7 ≤ μ' (60, 0) 6 ∧ 0 ≤ μ' (60, 0) 7 ∧ μ (60, 0) 7 ≤ μ' (60, 0) 7 ∧ sq_bx (sq_pl (μ' (69, 0)) (μ' (76, 0)) 4) ∧ sq_bx (sq_inv (μ' (69, 0)) (μ' (76, 0))) ∧ 0 ≤ (1000 * (1000 - 406) : Int) ∧ (1000 * (1000 - 406) : Int) < (N : Int))),
    (428, [true, true, true, false, false], fun N l st ρ' μ' cs => mq_tZ l 60 fun l => mq_tI l fun v1 l => mq_tI l fun v2 l => mq_tN l fun l => mq_tN l fun l => mq_t0 l (st = [] ∧ ρ' = (nw, sp, tl, tx, al) ∧ cs = 0 ∧ v1 = w ∧ w = 5 ∧ 0 ≤ v2 ∧ v2 = μ' (69, 0) 33 ∧ v2 < 5 ∧ μ' (60, 0) 7 ≤ μ' (60, 0) 6 ∧ 0 ≤ μ' (60, 0) 7 ∧ μ (60, 0) 7 ≤ μ' (60, 0) 7 ∧ sq_bx (sq_pl (μ' (69, 0)) (μ' (76, 0)) 4) ∧ sq_bx (sq_inv (μ' (69, 0)) (μ' (76, 0))) ∧ 0 ≤ (1000 * (1000 - 428) : Int) ∧ (1000 * (1000 - 428) : Int) < (N : Int))),
    (451, [true, true, true, false, false], fun N l st ρ' μ' cs => mq_tZ l 60 fun l => mq_tI l fun v1 l => mq_tI l fun v2 l => mq_tN l fun l => mq_tN l fun l => mq_t0 l (st = [] ∧ ρ' = (nw, sp, tl, tx, al) ∧ cs = 0 ∧ v1 = w ∧ w = 5 ∧ 0 ≤ v2 ∧ v2 = μ' (69, 0) 33 ∧ v2 < 5 ∧ μ' (60, 0) 7 ≤ μ' (60, 0) 6 ∧ 0 ≤ μ' (60, 0) 7 ∧ μ (60, 0) 7 ≤ μ' (60, 0) 7 ∧ sq_bx (sq_pl (μ' (69, 0)) (μ' (76, 0)) 4) ∧ sq_bx (sq_inv (μ' (69, 0)) (μ' (76, 0))) ∧ 0 ≤ (1000 * (1000 - 451) : Int) ∧ (1000 * (1000 - 451) : Int) < (N : Int))),
    (476, [true, true, true, false, false], fun N l st ρ' μ' cs => mq_tZ l 60 fun l => mq_tI l fun v1 l => mq_tI l fun v2 l => mq_tN l fun l => mq_tN l fun l => mq_t0 l (st = [] ∧ ρ' = (nw, sp, tl, tx, al) ∧ cs = 0 ∧ v1 = w ∧ w = 6 ∧ 0 ≤ v2 ∧ v2 = μ' (69, 0) 34 ∧ v2 < 16 ∧ μ' (60, 0) 7 ≤ μ' (60, 0) 6 ∧ 0 ≤ μ' (60, 0) 7 ∧ μ (60, 0) 7 ≤ μ' (60, 0) 7 ∧ 1 ≤ μ' (69, 0) 33 ∧ sq_bx (sq_pl (μ' (69, 0)) (μ' (76, 0)) 4) ∧ sq_bx (sq_inv (μ' (69, 0)) (μ' (76, 0))) ∧ 0 ≤ (1000 * (1000 - 476) : Int) ∧ (1000 * (1000 - 476) : Int) < (N : Int))),
    (487, [true, true, true, false, false], fun N l st ρ' μ' cs => mq_tZ l 60 fun l => mq_tI l fun v1 l => mq_tI l fun v2 l => mq_tN l fun l => mq_tN l fun l => mq_t0 l (st = [] ∧ ρ' = (nw, sp, tl, tx, al) ∧ cs = 0 ∧ v1 = w ∧ 0 ≤ w ∧ w ≤ 6 ∧ v2 = μ' (69, 0) (28 + w).toNat ∧ 0 ≤ v2 ∧ (w = 0 → v2 < 8) ∧ (w = 1 → v2 < 6) ∧ (w = 2 → v2 < 6) ∧ (w = 3 → v2 < 6) ∧ (w = 4 → v2 < 4) ∧ (w = 5 → v2 < 5) ∧ (w = 6 → v2 < 16) ∧ μ' (60, 0) 7 ≤ μ' (60, 0) 6 ∧ 0 ≤ μ' (60, 0) 7 ∧ μ (60, 0) 7 ≤ μ' (60, 0) 7 ∧ sq_bx (∀ h : sq_Ro, (¬ w = 6 → h 34 = μ' (69, 0) 34) → (w = 6 → h 34 = v2 + 1) → sq_pl h (μ' (76, 0)) 4) ∧ sq_bx (sq_inv (μ' (69, 0)) (μ' (76, 0))) ∧ 0 ≤ (10 : Int) ∧ (10 : Int) < (N : Int)))]
  | _, _ => []
set_option maxHeartbeats 16000000 in
set_option maxRecDepth 100000 in
theorem vq_m_clause (lc : Launch) (h_m_many : mq_Ct lc cq_m_many) (h_m_asks : mq_Ct lc cq_m_asks) (h_m_yard : mq_Ct lc cq_m_yard) (h_m_is : mq_Ct lc cq_m_is) (h_m_fails : mq_Ct lc cq_m_fails) (h_m_isGood : mq_Ct lc cq_m_isGood) (h_m_next : mq_Ct lc cq_m_next) (h_m_number : mq_Ct lc cq_m_number) (h_m_number_ : mq_Ct lc cq_m_number_) (h_m_coachClause : mq_Ct lc cq_m_coachClause) : mq_Ct lc cq_m_clause := by
  refine mq_method (lc := lc) (P := pq_m_clause) (cl := [cq_m_many, cq_m_asks, cq_m_yard, cq_m_is, cq_m_fails, cq_m_isGood, cq_m_next, cq_m_number, cq_m_number_, cq_m_coachClause]) (T := ([(43, 11, 20), (46, 11, 21), (34, 11, 17), (49, 11, 22), (52, 11, 23), (55, 11, 24), (58, 11, 25), (40, 11, 19)], [], [(205, 47), (211, 583), (213, 90302), (219, 555), (224, 79), (226, 411), (228, 247516), (230, 365565), (232, 38291608), (234, 283291417), (236, 10416091), (238, 6686542)], [(202, 0, 0), (191, 1, 0), (207, 2, 0), (178, 3, 0), (188, 4, 0), (215, 5, 0), (182, 6, 0), (195, 7, 0), (221, 8, 0), (240, 9, 0)], [], [])) (fuel := 600) (cuts := kq_m_clause) (by decide) rfl ⟨rfl, rfl⟩ (List.forall_mem_cons.mpr ⟨h_m_many, (List.forall_mem_cons.mpr ⟨h_m_asks, (List.forall_mem_cons.mpr ⟨h_m_yard, (List.forall_mem_cons.mpr ⟨h_m_is, (List.forall_mem_cons.mpr ⟨h_m_fails, (List.forall_mem_cons.mpr ⟨h_m_isGood, (List.forall_mem_cons.mpr ⟨h_m_next, (List.forall_mem_cons.mpr ⟨h_m_number, (List.forall_mem_cons.mpr ⟨h_m_number_, (List.forall_mem_cons.mpr ⟨h_m_coachClause, (fun _ h => absurd h List.not_mem_nil)⟩)⟩)⟩)⟩)⟩)⟩)⟩)⟩)⟩)⟩) ⟨(List.forall_mem_cons.mpr ⟨⟨_, rfl, by decide, kw_847⟩, (List.forall_mem_cons.mpr ⟨⟨_, rfl, by decide, kw_848⟩, (List.forall_mem_cons.mpr ⟨⟨_, rfl, by decide, kw_832⟩, (List.forall_mem_cons.mpr ⟨⟨_, rfl, by decide, kw_849⟩, (List.forall_mem_cons.mpr ⟨⟨_, rfl, by decide, kw_873⟩, (List.forall_mem_cons.mpr ⟨⟨_, rfl, by decide, kw_874⟩, (List.forall_mem_cons.mpr ⟨⟨_, rfl, by decide, kw_840⟩, (List.forall_mem_cons.mpr ⟨⟨_, rfl, by decide, kw_837⟩, (fun _ h => absurd h List.not_mem_nil)⟩)⟩)⟩)⟩)⟩)⟩)⟩)⟩), (fun _ h => absurd h List.not_mem_nil), (List.forall_mem_cons.mpr ⟨kw_1109, (List.forall_mem_cons.mpr ⟨kw_1123, (List.forall_mem_cons.mpr ⟨kw_1124, (List.forall_mem_cons.mpr ⟨kw_1125, (List.forall_mem_cons.mpr ⟨kw_1126, (List.forall_mem_cons.mpr ⟨kw_1127, (List.forall_mem_cons.mpr ⟨kw_1128, (List.forall_mem_cons.mpr ⟨kw_1129, (List.forall_mem_cons.mpr ⟨kw_1130, (List.forall_mem_cons.mpr ⟨kw_1131, (List.forall_mem_cons.mpr ⟨kw_1132, (List.forall_mem_cons.mpr ⟨kw_1133, (fun _ h => absurd h List.not_mem_nil)⟩)⟩)⟩)⟩)⟩)⟩)⟩)⟩)⟩)⟩)⟩)⟩), (List.forall_mem_cons.mpr ⟨mq_ml0 rfl mw0_m_many kw_1114, (List.forall_mem_cons.mpr ⟨mq_ml0 rfl mw0_m_asks kw_825, (List.forall_mem_cons.mpr ⟨mq_ml0 rfl mw0_m_yard kw_1122, (List.forall_mem_cons.mpr ⟨mq_ml0 rfl mw0_m_is kw_809, (List.forall_mem_cons.mpr ⟨mq_ml0 rfl mw0_m_fails kw_821, (List.forall_mem_cons.mpr ⟨mq_ml0 rfl mw0_m_isGood kw_1137, (List.forall_mem_cons.mpr ⟨mq_ml0 rfl mw0_m_next kw_813, (List.forall_mem_cons.mpr ⟨mq_ml0 rfl mw0_m_number kw_829, (List.forall_mem_cons.mpr ⟨mq_ml0 rfl mw0_m_number_ kw_1118, (List.forall_mem_cons.mpr ⟨mq_ml0 rfl mw0_m_coachClause kw_1141, (fun _ h => absurd h List.not_mem_nil)⟩)⟩)⟩)⟩)⟩)⟩)⟩)⟩)⟩)⟩), (fun _ h => absurd h List.not_mem_nil), (fun _ h => absurd h List.not_mem_nil)⟩ (by decide +kernel) ⟨_, _, rfl⟩ ?_ ?_ ?_ ?_
  · intro as ρ μ h
    obtain ⟨nw, sp, tl, tx, al⟩ := ρ
    obtain ⟨as0, rfl, h0⟩ := mq_pZ_spec h
    clear h
    obtain ⟨w, as1, rfl, h1⟩ := mq_pI_spec h0
    clear h0
    obtain ⟨rfl, hp⟩ := mq_p0_spec h1
    clear h1
    obtain ⟨hp0, hp1, hp2, hp3, hp4, hp5, hp6, hp7, hp8, hp9, hp10, hp11, hp12, hp13⟩ := hp
    rfl
  · intro as ρ μ h
    obtain ⟨nw, sp, tl, tx, al⟩ := ρ
    obtain ⟨as0, rfl, h0⟩ := mq_pZ_spec h
    clear h
    obtain ⟨w, as1, rfl, h1⟩ := mq_pI_spec h0
    clear h0
    obtain ⟨rfl, hp⟩ := mq_p0_spec h1
    clear h1
    obtain ⟨hp0, hp1, hp2, hp3, hp4, hp5, hp6, hp7, hp8, hp9, hp10, hp11, hp12, hp13⟩ := hp
    intro hrg
    obtain ⟨⟨ha1a, ha1b⟩, -⟩ := hrg
    intro hbk
    have e0 : mq_l0 ([.inr (.inr (some (60, 0))), .inl w] : List mq_V) 5 = [some (.inr (.inr (some (60, 0)))), some (.inl w), none, none, none] := rfl
    rw [e0]
    rcases (show w = 0 ∨ w = 1 ∨ w = 2 ∨ w = 3 ∨ w = 4 ∨ w = 5 ∨ w = 6 by omega) with rfl | rfl | rfl | rfl | rfl | rfl | rfl
    all_goals repeat' (first | refine And.intro ?_ ?_ | intro _)
    all_goals try simp only [Int.reduceToNat, Int.reduceAdd, mq_up_f, mq_up_s, mq_up_e, ne_eq, Nat.reduceEqDiff, not_false_eq_true, true_and, and_true, false_and, and_false, false_or, or_false, true_or, or_true, true_implies] at *
    all_goals first | omega | rfl | exact trivial | assumption
  · intro as ρ μ h
    obtain ⟨nw, sp, tl, tx, al⟩ := ρ
    obtain ⟨as0, rfl, h0⟩ := mq_pZ_spec h
    clear h
    obtain ⟨w, as1, rfl, h1⟩ := mq_pI_spec h0
    clear h0
    obtain ⟨rfl, hp⟩ := mq_p0_spec h1
    clear h1
    obtain ⟨hp0, hp1, hp2, hp3, hp4, hp5, hp6, hp7, hp8, hp9, hp10, hp11, hp12, hp13⟩ := hp
    refine List.forall_mem_cons.mpr ⟨?_, ?_⟩
    · intro l st ρ' μ' cs hJ
      obtain ⟨l0, rfl, hJ0⟩ := mq_tZ_spec hJ
      clear hJ
      obtain ⟨v1, l1, rfl, hJ1⟩ := mq_tI_spec hJ0
      clear hJ0
      obtain ⟨v2, l2, rfl, hJ2⟩ := mq_tI_spec hJ1
      clear hJ1
      obtain ⟨l3, rfl, hJ3⟩ := mq_tN_spec hJ2
      clear hJ2
      obtain ⟨l4, rfl, hJ4⟩ := mq_tN_spec hJ3
      clear hJ3
      obtain ⟨rfl, hJz⟩ := mq_t0_spec hJ4
      clear hJ4
      obtain ⟨rfl, rfl, rfl, hc0, hc1, hc2, hc3, hc4, hc5, hc6, hc7, hc8, hc9, hm0, hm1⟩ := hJz
      omega
    refine List.forall_mem_cons.mpr ⟨?_, ?_⟩
    · intro l st ρ' μ' cs hJ
      obtain ⟨l0, rfl, hJ0⟩ := mq_tZ_spec hJ
      clear hJ
      obtain ⟨v1, l1, rfl, hJ1⟩ := mq_tI_spec hJ0
      clear hJ0
      obtain ⟨v2, l2, rfl, hJ2⟩ := mq_tI_spec hJ1
      clear hJ1
      obtain ⟨l3, rfl, hJ3⟩ := mq_tN_spec hJ2
      clear hJ2
      obtain ⟨l4, rfl, hJ4⟩ := mq_tN_spec hJ3
      clear hJ3
      obtain ⟨rfl, hJz⟩ := mq_t0_spec hJ4
      clear hJ4
      obtain ⟨rfl, rfl, rfl, hc0, hc1, hc2, hc3, hc4, hc5, hc6, hc7, hc8, hc9, hm0, hm1⟩ := hJz
      omega
    refine List.forall_mem_cons.mpr ⟨?_, ?_⟩
    · intro l st ρ' μ' cs hJ
      obtain ⟨l0, rfl, hJ0⟩ := mq_tZ_spec hJ
      clear hJ
      obtain ⟨v1, l1, rfl, hJ1⟩ := mq_tI_spec hJ0
      clear hJ0
      obtain ⟨v2, l2, rfl, hJ2⟩ := mq_tI_spec hJ1
      clear hJ1
      obtain ⟨l3, rfl, hJ3⟩ := mq_tN_spec hJ2
      clear hJ2
      obtain ⟨l4, rfl, hJ4⟩ := mq_tN_spec hJ3
      clear hJ3
      obtain ⟨rfl, hJz⟩ := mq_t0_spec hJ4
      clear hJ4
      obtain ⟨rfl, rfl, rfl, hc0, hc1, hc2, hc3, hc4, hc5, hc6, hc7, hc8, hc9, hm0, hm1⟩ := hJz
      omega
    refine List.forall_mem_cons.mpr ⟨?_, ?_⟩
    · intro l st ρ' μ' cs hJ
      obtain ⟨l0, rfl, hJ0⟩ := mq_tZ_spec hJ
      clear hJ
      obtain ⟨v1, l1, rfl, hJ1⟩ := mq_tI_spec hJ0
      clear hJ0
      obtain ⟨v2, l2, rfl, hJ2⟩ := mq_tI_spec hJ1
      clear hJ1
      obtain ⟨v3, l3, rfl, hJ3⟩ := mq_tI_spec hJ2
      clear hJ2
      obtain ⟨l4, rfl, hJ4⟩ := mq_tN_spec hJ3
      clear hJ3
      obtain ⟨rfl, hJz⟩ := mq_t0_spec hJ4
      clear hJ4
      obtain ⟨rfl, rfl, rfl, hc0, hc1, hc2, hc3, hc4, hc5, hc6, hc7, hc8, hc9, hm0, hm1⟩ := hJz
      omega
    refine List.forall_mem_cons.mpr ⟨?_, ?_⟩
    · intro l st ρ' μ' cs hJ
      obtain ⟨l0, rfl, hJ0⟩ := mq_tZ_spec hJ
      clear hJ
      obtain ⟨v1, l1, rfl, hJ1⟩ := mq_tI_spec hJ0
      clear hJ0
      obtain ⟨v2, l2, rfl, hJ2⟩ := mq_tI_spec hJ1
      clear hJ1
      obtain ⟨v3, l3, rfl, hJ3⟩ := mq_tI_spec hJ2
      clear hJ2
      obtain ⟨l4, rfl, hJ4⟩ := mq_tN_spec hJ3
      clear hJ3
      obtain ⟨rfl, hJz⟩ := mq_t0_spec hJ4
      clear hJ4
      obtain ⟨rfl, rfl, rfl, hc0, hc1, hc2, hc3, hc4, hc5, hc6, hc7, hc8, hc9, hm0, hm1⟩ := hJz
      omega
    refine List.forall_mem_cons.mpr ⟨?_, ?_⟩
    · intro l st ρ' μ' cs hJ
      obtain ⟨l0, rfl, hJ0⟩ := mq_tZ_spec hJ
      clear hJ
      obtain ⟨v1, l1, rfl, hJ1⟩ := mq_tI_spec hJ0
      clear hJ0
      obtain ⟨v2, l2, rfl, hJ2⟩ := mq_tI_spec hJ1
      clear hJ1
      obtain ⟨v3, l3, rfl, hJ3⟩ := mq_tI_spec hJ2
      clear hJ2
      obtain ⟨v4, l4, rfl, hJ4⟩ := mq_tI_spec hJ3
      clear hJ3
      obtain ⟨rfl, hJz⟩ := mq_t0_spec hJ4
      clear hJ4
      obtain ⟨rfl, rfl, rfl, hc0, hc1, hc2, hc3, hc4, hc5, hc6, hc7, hc8, hc9, hc10, hc11, hm0, hm1⟩ := hJz
      omega
    refine List.forall_mem_cons.mpr ⟨?_, ?_⟩
    · intro l st ρ' μ' cs hJ
      obtain ⟨l0, rfl, hJ0⟩ := mq_tZ_spec hJ
      clear hJ
      obtain ⟨v1, l1, rfl, hJ1⟩ := mq_tI_spec hJ0
      clear hJ0
      obtain ⟨v2, l2, rfl, hJ2⟩ := mq_tI_spec hJ1
      clear hJ1
      obtain ⟨l3, rfl, hJ3⟩ := mq_tN_spec hJ2
      clear hJ2
      obtain ⟨l4, rfl, hJ4⟩ := mq_tN_spec hJ3
      clear hJ3
      obtain ⟨rfl, hJz⟩ := mq_t0_spec hJ4
      clear hJ4
      obtain ⟨rfl, rfl, rfl, hc0, hc1, hc2, hc3, hc4, hc5, hc6, hc7, hc8, hc9, hm0, hm1⟩ := hJz
      omega
    refine List.forall_mem_cons.mpr ⟨?_, ?_⟩
    · intro l st ρ' μ' cs hJ
      obtain ⟨l0, rfl, hJ0⟩ := mq_tZ_spec hJ
      clear hJ
      obtain ⟨v1, l1, rfl, hJ1⟩ := mq_tI_spec hJ0
      clear hJ0
      obtain ⟨v2, l2, rfl, hJ2⟩ := mq_tI_spec hJ1
      clear hJ1
      obtain ⟨l3, rfl, hJ3⟩ := mq_tN_spec hJ2
      clear hJ2
      obtain ⟨l4, rfl, hJ4⟩ := mq_tN_spec hJ3
      clear hJ3
      obtain ⟨rfl, hJz⟩ := mq_t0_spec hJ4
      clear hJ4
      obtain ⟨rfl, rfl, rfl, hc0, hc1, hc2, hc3, hc4, hc5, hc6, hc7, hc8, hc9, hm0, hm1⟩ := hJz
      omega
    refine List.forall_mem_cons.mpr ⟨?_, ?_⟩
    · intro l st ρ' μ' cs hJ
      obtain ⟨l0, rfl, hJ0⟩ := mq_tZ_spec hJ
      clear hJ
      obtain ⟨v1, l1, rfl, hJ1⟩ := mq_tI_spec hJ0
      clear hJ0
      obtain ⟨v2, l2, rfl, hJ2⟩ := mq_tI_spec hJ1
      clear hJ1
      obtain ⟨v3, l3, rfl, hJ3⟩ := mq_tI_spec hJ2
      clear hJ2
      obtain ⟨l4, rfl, hJ4⟩ := mq_tN_spec hJ3
      clear hJ3
      obtain ⟨rfl, hJz⟩ := mq_t0_spec hJ4
      clear hJ4
      obtain ⟨rfl, rfl, rfl, hc0, hc1, hc2, hc3, hc4, hc5, hc6, hc7, hc8, hc9, hc10, hc11, hm0, hm1⟩ := hJz
      omega
    refine List.forall_mem_cons.mpr ⟨?_, ?_⟩
    · intro l st ρ' μ' cs hJ
      obtain ⟨l0, rfl, hJ0⟩ := mq_tZ_spec hJ
      clear hJ
      obtain ⟨v1, l1, rfl, hJ1⟩ := mq_tI_spec hJ0
      clear hJ0
      obtain ⟨v2, l2, rfl, hJ2⟩ := mq_tI_spec hJ1
      clear hJ1
      obtain ⟨v3, l3, rfl, hJ3⟩ := mq_tI_spec hJ2
      clear hJ2
      obtain ⟨l4, rfl, hJ4⟩ := mq_tN_spec hJ3
      clear hJ3
      obtain ⟨rfl, hJz⟩ := mq_t0_spec hJ4
      clear hJ4
      obtain ⟨rfl, rfl, rfl, hc0, hc1, hc2, hc3, hc4, hc5, hc6, hc7, hc8, hc9, hc10, hc11, hm0, hm1⟩ := hJz
      omega
    refine List.forall_mem_cons.mpr ⟨?_, ?_⟩
    · intro l st ρ' μ' cs hJ
      obtain ⟨l0, rfl, hJ0⟩ := mq_tZ_spec hJ
      clear hJ
      obtain ⟨v1, l1, rfl, hJ1⟩ := mq_tI_spec hJ0
      clear hJ0
      obtain ⟨v2, l2, rfl, hJ2⟩ := mq_tI_spec hJ1
      clear hJ1
      obtain ⟨v3, l3, rfl, hJ3⟩ := mq_tI_spec hJ2
      clear hJ2
      obtain ⟨l4, rfl, hJ4⟩ := mq_tN_spec hJ3
      clear hJ3
      obtain ⟨rfl, hJz⟩ := mq_t0_spec hJ4
      clear hJ4
      obtain ⟨rfl, rfl, rfl, hc0, hc1, hc2, hc3, hc4, hc5, hc6, hc7, hc8, hc9, hm0, hm1⟩ := hJz
      omega
    refine List.forall_mem_cons.mpr ⟨?_, ?_⟩
    · intro l st ρ' μ' cs hJ
      obtain ⟨l0, rfl, hJ0⟩ := mq_tZ_spec hJ
      clear hJ
      obtain ⟨v1, l1, rfl, hJ1⟩ := mq_tI_spec hJ0
      clear hJ0
      obtain ⟨v2, l2, rfl, hJ2⟩ := mq_tI_spec hJ1
      clear hJ1
      obtain ⟨l3, rfl, hJ3⟩ := mq_tN_spec hJ2
      clear hJ2
      obtain ⟨l4, rfl, hJ4⟩ := mq_tN_spec hJ3
      clear hJ3
      obtain ⟨rfl, hJz⟩ := mq_t0_spec hJ4
      clear hJ4
      obtain ⟨rfl, rfl, rfl, hc0, hc1, hc2, hc3, hc4, hc5, hc6, hc7, hc8, hc9, hm0, hm1⟩ := hJz
      omega
    refine List.forall_mem_cons.mpr ⟨?_, ?_⟩
    · intro l st ρ' μ' cs hJ
      obtain ⟨l0, rfl, hJ0⟩ := mq_tZ_spec hJ
      clear hJ
      obtain ⟨v1, l1, rfl, hJ1⟩ := mq_tI_spec hJ0
      clear hJ0
      obtain ⟨v2, l2, rfl, hJ2⟩ := mq_tI_spec hJ1
      clear hJ1
      obtain ⟨l3, rfl, hJ3⟩ := mq_tN_spec hJ2
      clear hJ2
      obtain ⟨l4, rfl, hJ4⟩ := mq_tN_spec hJ3
      clear hJ3
      obtain ⟨rfl, hJz⟩ := mq_t0_spec hJ4
      clear hJ4
      obtain ⟨rfl, rfl, rfl, hc0, hc1, hc2, hc3, hc4, hc5, hc6, hc7, hc8, hc9, hm0, hm1⟩ := hJz
      omega
    refine List.forall_mem_cons.mpr ⟨?_, ?_⟩
    · intro l st ρ' μ' cs hJ
      obtain ⟨l0, rfl, hJ0⟩ := mq_tZ_spec hJ
      clear hJ
      obtain ⟨v1, l1, rfl, hJ1⟩ := mq_tI_spec hJ0
      clear hJ0
      obtain ⟨v2, l2, rfl, hJ2⟩ := mq_tI_spec hJ1
      clear hJ1
      obtain ⟨l3, rfl, hJ3⟩ := mq_tN_spec hJ2
      clear hJ2
      obtain ⟨l4, rfl, hJ4⟩ := mq_tN_spec hJ3
      clear hJ3
      obtain ⟨rfl, hJz⟩ := mq_t0_spec hJ4
      clear hJ4
      obtain ⟨rfl, rfl, rfl, hc0, hc1, hc2, hc3, hc4, hc5, hc6, hc7, hc8, hc9, hm0, hm1⟩ := hJz
      omega
    refine List.forall_mem_cons.mpr ⟨?_, ?_⟩
    · intro l st ρ' μ' cs hJ
      obtain ⟨l0, rfl, hJ0⟩ := mq_tZ_spec hJ
      clear hJ
      obtain ⟨v1, l1, rfl, hJ1⟩ := mq_tI_spec hJ0
      clear hJ0
      obtain ⟨v2, l2, rfl, hJ2⟩ := mq_tI_spec hJ1
      clear hJ1
      obtain ⟨l3, rfl, hJ3⟩ := mq_tN_spec hJ2
      clear hJ2
      obtain ⟨l4, rfl, hJ4⟩ := mq_tN_spec hJ3
      clear hJ3
      obtain ⟨rfl, hJz⟩ := mq_t0_spec hJ4
      clear hJ4
      obtain ⟨rfl, rfl, rfl, hc0, hc1, hc2, hc3, hc4, hc5, hc6, hc7, hc8, hc9, hm0, hm1⟩ := hJz
      omega
    refine List.forall_mem_cons.mpr ⟨?_, ?_⟩
    · intro l st ρ' μ' cs hJ
      obtain ⟨l0, rfl, hJ0⟩ := mq_tZ_spec hJ
      clear hJ
      obtain ⟨v1, l1, rfl, hJ1⟩ := mq_tI_spec hJ0
      clear hJ0
      obtain ⟨v2, l2, rfl, hJ2⟩ := mq_tI_spec hJ1
      clear hJ1
      obtain ⟨l3, rfl, hJ3⟩ := mq_tN_spec hJ2
      clear hJ2
      obtain ⟨l4, rfl, hJ4⟩ := mq_tN_spec hJ3
      clear hJ3
      obtain ⟨rfl, hJz⟩ := mq_t0_spec hJ4
      clear hJ4
      obtain ⟨rfl, rfl, rfl, hc0, hc1, hc2, hc3, hc4, hc5, hc6, hc7, hc8, hc9, hm0, hm1⟩ := hJz
      omega
    refine List.forall_mem_cons.mpr ⟨?_, ?_⟩
    · intro l st ρ' μ' cs hJ
      obtain ⟨l0, rfl, hJ0⟩ := mq_tZ_spec hJ
      clear hJ
      obtain ⟨v1, l1, rfl, hJ1⟩ := mq_tI_spec hJ0
      clear hJ0
      obtain ⟨v2, l2, rfl, hJ2⟩ := mq_tI_spec hJ1
      clear hJ1
      obtain ⟨v3, l3, rfl, hJ3⟩ := mq_tI_spec hJ2
      clear hJ2
      obtain ⟨l4, rfl, hJ4⟩ := mq_tN_spec hJ3
      clear hJ3
      obtain ⟨rfl, hJz⟩ := mq_t0_spec hJ4
      clear hJ4
      obtain ⟨rfl, rfl, rfl, hc0, hc1, hc2, hc3, hc4, hc5, hc6, hc7, hc8, hc9, hc10, hc11, hm0, hm1⟩ := hJz
      omega
    refine List.forall_mem_cons.mpr ⟨?_, ?_⟩
    · intro l st ρ' μ' cs hJ
      obtain ⟨l0, rfl, hJ0⟩ := mq_tZ_spec hJ
      clear hJ
      obtain ⟨v1, l1, rfl, hJ1⟩ := mq_tI_spec hJ0
      clear hJ0
      obtain ⟨v2, l2, rfl, hJ2⟩ := mq_tI_spec hJ1
      clear hJ1
      obtain ⟨v3, l3, rfl, hJ3⟩ := mq_tI_spec hJ2
      clear hJ2
      obtain ⟨l4, rfl, hJ4⟩ := mq_tN_spec hJ3
      clear hJ3
      obtain ⟨rfl, hJz⟩ := mq_t0_spec hJ4
      clear hJ4
      obtain ⟨rfl, rfl, rfl, hc0, hc1, hc2, hc3, hc4, hc5, hc6, hc7, hc8, hc9, hc10, hc11, hm0, hm1⟩ := hJz
      omega
    refine List.forall_mem_cons.mpr ⟨?_, ?_⟩
    · intro l st ρ' μ' cs hJ
      obtain ⟨l0, rfl, hJ0⟩ := mq_tZ_spec hJ
      clear hJ
      obtain ⟨v1, l1, rfl, hJ1⟩ := mq_tI_spec hJ0
      clear hJ0
      obtain ⟨v2, l2, rfl, hJ2⟩ := mq_tI_spec hJ1
      clear hJ1
      obtain ⟨l3, rfl, hJ3⟩ := mq_tN_spec hJ2
      clear hJ2
      obtain ⟨l4, rfl, hJ4⟩ := mq_tN_spec hJ3
      clear hJ3
      obtain ⟨rfl, hJz⟩ := mq_t0_spec hJ4
      clear hJ4
      obtain ⟨rfl, rfl, rfl, hc0, hc1, hc2, hc3, hc4, hc5, hc6, hc7, hc8, hc9, hm0, hm1⟩ := hJz
      omega
    refine List.forall_mem_cons.mpr ⟨?_, ?_⟩
    · intro l st ρ' μ' cs hJ
      obtain ⟨l0, rfl, hJ0⟩ := mq_tZ_spec hJ
      clear hJ
      obtain ⟨v1, l1, rfl, hJ1⟩ := mq_tI_spec hJ0
      clear hJ0
      obtain ⟨v2, l2, rfl, hJ2⟩ := mq_tI_spec hJ1
      clear hJ1
      obtain ⟨l3, rfl, hJ3⟩ := mq_tN_spec hJ2
      clear hJ2
      obtain ⟨l4, rfl, hJ4⟩ := mq_tN_spec hJ3
      clear hJ3
      obtain ⟨rfl, hJz⟩ := mq_t0_spec hJ4
      clear hJ4
      obtain ⟨rfl, rfl, rfl, hc0, hc1, hc2, hc3, hc4, hc5, hc6, hc7, hc8, hc9, hm0, hm1⟩ := hJz
      omega
    refine List.forall_mem_cons.mpr ⟨?_, ?_⟩
    · intro l st ρ' μ' cs hJ
      obtain ⟨l0, rfl, hJ0⟩ := mq_tZ_spec hJ
      clear hJ
      obtain ⟨v1, l1, rfl, hJ1⟩ := mq_tI_spec hJ0
      clear hJ0
      obtain ⟨v2, l2, rfl, hJ2⟩ := mq_tI_spec hJ1
      clear hJ1
      obtain ⟨l3, rfl, hJ3⟩ := mq_tN_spec hJ2
      clear hJ2
      obtain ⟨l4, rfl, hJ4⟩ := mq_tN_spec hJ3
      clear hJ3
      obtain ⟨rfl, hJz⟩ := mq_t0_spec hJ4
      clear hJ4
      obtain ⟨rfl, rfl, rfl, hc0, hc1, hc2, hc3, hc4, hc5, hc6, hc7, hc8, hc9, hm0, hm1⟩ := hJz
      omega
    refine List.forall_mem_cons.mpr ⟨?_, ?_⟩
    · intro l st ρ' μ' cs hJ
      obtain ⟨l0, rfl, hJ0⟩ := mq_tZ_spec hJ
      clear hJ
      obtain ⟨v1, l1, rfl, hJ1⟩ := mq_tI_spec hJ0
      clear hJ0
      obtain ⟨v2, l2, rfl, hJ2⟩ := mq_tI_spec hJ1
      clear hJ1
      obtain ⟨v3, l3, rfl, hJ3⟩ := mq_tI_spec hJ2
      clear hJ2
      obtain ⟨l4, rfl, hJ4⟩ := mq_tN_spec hJ3
      clear hJ3
      obtain ⟨rfl, hJz⟩ := mq_t0_spec hJ4
      clear hJ4
      obtain ⟨rfl, rfl, rfl, hc0, hc1, hc2, hc3, hc4, hc5, hc6, hc7, hc8, hc9, hc10, hc11, hm0, hm1⟩ := hJz
      omega
    refine List.forall_mem_cons.mpr ⟨?_, ?_⟩
    · intro l st ρ' μ' cs hJ
      obtain ⟨l0, rfl, hJ0⟩ := mq_tZ_spec hJ
      clear hJ
      obtain ⟨v1, l1, rfl, hJ1⟩ := mq_tI_spec hJ0
      clear hJ0
      obtain ⟨v2, l2, rfl, hJ2⟩ := mq_tI_spec hJ1
      clear hJ1
      obtain ⟨l3, rfl, hJ3⟩ := mq_tN_spec hJ2
      clear hJ2
      obtain ⟨l4, rfl, hJ4⟩ := mq_tN_spec hJ3
      clear hJ3
      obtain ⟨rfl, hJz⟩ := mq_t0_spec hJ4
      clear hJ4
      obtain ⟨rfl, rfl, rfl, hc0, hc1, hc2, hc3, hc4, hc5, hc6, hc7, hc8, hc9, hm0, hm1⟩ := hJz
      omega
    refine List.forall_mem_cons.mpr ⟨?_, ?_⟩
    · intro l st ρ' μ' cs hJ
      obtain ⟨l0, rfl, hJ0⟩ := mq_tZ_spec hJ
      clear hJ
      obtain ⟨v1, l1, rfl, hJ1⟩ := mq_tI_spec hJ0
      clear hJ0
      obtain ⟨v2, l2, rfl, hJ2⟩ := mq_tI_spec hJ1
      clear hJ1
      obtain ⟨l3, rfl, hJ3⟩ := mq_tN_spec hJ2
      clear hJ2
      obtain ⟨l4, rfl, hJ4⟩ := mq_tN_spec hJ3
      clear hJ3
      obtain ⟨rfl, hJz⟩ := mq_t0_spec hJ4
      clear hJ4
      obtain ⟨rfl, rfl, rfl, hc0, hc1, hc2, hc3, hc4, hc5, hc6, hc7, hc8, hc9, hm0, hm1⟩ := hJz
      omega
    refine List.forall_mem_cons.mpr ⟨?_, ?_⟩
    · intro l st ρ' μ' cs hJ
      obtain ⟨l0, rfl, hJ0⟩ := mq_tZ_spec hJ
      clear hJ
      obtain ⟨v1, l1, rfl, hJ1⟩ := mq_tI_spec hJ0
      clear hJ0
      obtain ⟨v2, l2, rfl, hJ2⟩ := mq_tI_spec hJ1
      clear hJ1
      obtain ⟨l3, rfl, hJ3⟩ := mq_tN_spec hJ2
      clear hJ2
      obtain ⟨l4, rfl, hJ4⟩ := mq_tN_spec hJ3
      clear hJ3
      obtain ⟨rfl, hJz⟩ := mq_t0_spec hJ4
      clear hJ4
      obtain ⟨rfl, rfl, rfl, hc0, hc1, hc2, hc3, hc4, hc5, hc6, hc7, hc8, hc9, hm0, hm1⟩ := hJz
      omega
    refine List.forall_mem_cons.mpr ⟨?_, ?_⟩
    · intro l st ρ' μ' cs hJ
      obtain ⟨l0, rfl, hJ0⟩ := mq_tZ_spec hJ
      clear hJ
      obtain ⟨v1, l1, rfl, hJ1⟩ := mq_tI_spec hJ0
      clear hJ0
      obtain ⟨v2, l2, rfl, hJ2⟩ := mq_tI_spec hJ1
      clear hJ1
      obtain ⟨l3, rfl, hJ3⟩ := mq_tN_spec hJ2
      clear hJ2
      obtain ⟨l4, rfl, hJ4⟩ := mq_tN_spec hJ3
      clear hJ3
      obtain ⟨rfl, hJz⟩ := mq_t0_spec hJ4
      clear hJ4
      obtain ⟨rfl, rfl, rfl, hc0, hc1, hc2, hc3, hc4, hc5, hc6, hc7, hc8, hc9, hc10, hm0, hm1⟩ := hJz
      omega
    refine List.forall_mem_cons.mpr ⟨?_, ?_⟩
    · intro l st ρ' μ' cs hJ
      obtain ⟨l0, rfl, hJ0⟩ := mq_tZ_spec hJ
      clear hJ
      obtain ⟨v1, l1, rfl, hJ1⟩ := mq_tI_spec hJ0
      clear hJ0
      obtain ⟨v2, l2, rfl, hJ2⟩ := mq_tI_spec hJ1
      clear hJ1
      obtain ⟨l3, rfl, hJ3⟩ := mq_tN_spec hJ2
      clear hJ2
      obtain ⟨l4, rfl, hJ4⟩ := mq_tN_spec hJ3
      clear hJ3
      obtain ⟨rfl, hJz⟩ := mq_t0_spec hJ4
      clear hJ4
      obtain ⟨rfl, rfl, rfl, hc0, hc1, hc2, hc3, hc4, hc5, hc6, hc7, hc8, hc9, hc10, hc11, hc12, hc13, hc14, hc15, hc16, hm0, hm1⟩ := hJz
      omega
    exact fun _ h => absurd h List.not_mem_nil
  · intro as ρ μ h
    obtain ⟨nw, sp, tl, tx, al⟩ := ρ
    obtain ⟨as0, rfl, h0⟩ := mq_pZ_spec h
    clear h
    obtain ⟨w, as1, rfl, h1⟩ := mq_pI_spec h0
    clear h0
    obtain ⟨rfl, hp⟩ := mq_p0_spec h1
    clear h1
    obtain ⟨hp0, hp1, hp2, hp3, hp4, hp5, hp6, hp7, hp8, hp9, hp10, hp11, hp12, hp13⟩ := hp
    intro hrg
    obtain ⟨⟨ha1a, ha1b⟩, -⟩ := hrg
    refine List.forall_mem_cons.mpr ⟨?_, ?_⟩
    · intro N l st ρ' μ' cs hJ
      obtain ⟨l0, rfl, hJ0⟩ := mq_tZ_spec hJ
      clear hJ
      obtain ⟨v1, l1, rfl, hJ1⟩ := mq_tI_spec hJ0
      clear hJ0
      obtain ⟨v2, l2, rfl, hJ2⟩ := mq_tI_spec hJ1
      clear hJ1
      obtain ⟨l3, rfl, hJ3⟩ := mq_tN_spec hJ2
      clear hJ2
      obtain ⟨l4, rfl, hJ4⟩ := mq_tN_spec hJ3
      clear hJ3
      obtain ⟨rfl, hJz⟩ := mq_t0_spec hJ4
      clear hJ4
      obtain ⟨rfl, rfl, rfl, hc0, hc1, hc2, hc3, hc4, hc5, hc6, hc7, hc8, hc9, hm0, hm1⟩ := hJz
      intro hbk hrl
      obtain ⟨⟨hl1a, hl1b⟩, ⟨hl2a, hl2b⟩, -⟩ := hrl
      subst hc0
      subst hc1
      repeat' (first | refine And.intro ?_ ?_ | intro _)
      all_goals try simp only [Int.reduceToNat, Int.reduceAdd, mq_up_f, mq_up_s, mq_up_e, ne_eq, Nat.reduceEqDiff, not_false_eq_true, true_and, and_true, false_and, and_false, false_or, or_false, true_or, or_true, true_implies] at *
      all_goals first | omega | rfl | exact trivial | assumption | (have hag := ‹mq_ag _ _ _›; rw [mq_ag_at hag 69 0 (by decide +kernel)]; omega) | (have hag := ‹mq_ag _ _ _›; rw [mq_ag_at hag 69 0 (by decide +kernel), mq_ag_at hag 76 0 (by decide +kernel)]; assumption) | (have hag := ‹mq_ag _ _ _›; rw [mq_ag_at hag 76 0 (by decide +kernel)]; omega) | (have hag := ‹mq_ag _ _ _›; rw [mq_up_row, if_neg (by omega), mq_ag_at hag 76 0 (by decide +kernel)]; omega) | exact sq_m (fun h h1 _ => sq_pl4_same (sq_g hc8) (sq_has16 hbk 4 (by decide) (by decide)) (h1 (by decide))) | (have hag := ‹mq_ag _ _ _›; rw [mq_ag_at hag 69 0 (by decide +kernel), mq_ag_at hag 76 0 (by decide +kernel)]; exact sq_m (fun h h1 _ => sq_pl4_same (sq_g hc8) (sq_has16 hbk 4 (by decide) (by decide)) (h1 (by decide)))) | (have hx := sq_g (p := ∀ h : sq_Ro, h 34 = _ + 1 → sq_pl h _ 4) (by assumption); exact sq_m (fun h _ h2 => hx h (by first | omega | (have := h2 rfl; omega))))
    refine List.forall_mem_cons.mpr ⟨?_, ?_⟩
    · intro N l st ρ' μ' cs hJ
      obtain ⟨l0, rfl, hJ0⟩ := mq_tZ_spec hJ
      clear hJ
      obtain ⟨v1, l1, rfl, hJ1⟩ := mq_tI_spec hJ0
      clear hJ0
      obtain ⟨v2, l2, rfl, hJ2⟩ := mq_tI_spec hJ1
      clear hJ1
      obtain ⟨l3, rfl, hJ3⟩ := mq_tN_spec hJ2
      clear hJ2
      obtain ⟨l4, rfl, hJ4⟩ := mq_tN_spec hJ3
      clear hJ3
      obtain ⟨rfl, hJz⟩ := mq_t0_spec hJ4
      clear hJ4
      obtain ⟨rfl, rfl, rfl, hc0, hc1, hc2, hc3, hc4, hc5, hc6, hc7, hc8, hc9, hm0, hm1⟩ := hJz
      intro hbk hrl
      obtain ⟨⟨hl1a, hl1b⟩, ⟨hl2a, hl2b⟩, -⟩ := hrl
      subst hc0
      subst hc1
      repeat' (first | refine And.intro ?_ ?_ | intro _)
      all_goals try simp only [Int.reduceToNat, Int.reduceAdd, mq_up_f, mq_up_s, mq_up_e, ne_eq, Nat.reduceEqDiff, not_false_eq_true, true_and, and_true, false_and, and_false, false_or, or_false, true_or, or_true, true_implies] at *
      all_goals first | omega | rfl | exact trivial | assumption | (have hag := ‹mq_ag _ _ _›; rw [mq_ag_at hag 69 0 (by decide +kernel)]; omega) | (have hag := ‹mq_ag _ _ _›; rw [mq_ag_at hag 69 0 (by decide +kernel), mq_ag_at hag 76 0 (by decide +kernel)]; assumption) | (have hag := ‹mq_ag _ _ _›; rw [mq_ag_at hag 76 0 (by decide +kernel)]; omega) | (have hag := ‹mq_ag _ _ _›; rw [mq_up_row, if_neg (by omega), mq_ag_at hag 76 0 (by decide +kernel)]; omega) | exact sq_m (fun h h1 _ => sq_pl4_same (sq_g hc8) (sq_has16 hbk 4 (by decide) (by decide)) (h1 (by decide))) | (have hag := ‹mq_ag _ _ _›; rw [mq_ag_at hag 69 0 (by decide +kernel), mq_ag_at hag 76 0 (by decide +kernel)]; exact sq_m (fun h h1 _ => sq_pl4_same (sq_g hc8) (sq_has16 hbk 4 (by decide) (by decide)) (h1 (by decide)))) | (have hx := sq_g (p := ∀ h : sq_Ro, h 34 = _ + 1 → sq_pl h _ 4) (by assumption); exact sq_m (fun h _ h2 => hx h (by first | omega | (have := h2 rfl; omega))))
    refine List.forall_mem_cons.mpr ⟨?_, ?_⟩
    · intro N l st ρ' μ' cs hJ
      obtain ⟨l0, rfl, hJ0⟩ := mq_tZ_spec hJ
      clear hJ
      obtain ⟨v1, l1, rfl, hJ1⟩ := mq_tI_spec hJ0
      clear hJ0
      obtain ⟨v2, l2, rfl, hJ2⟩ := mq_tI_spec hJ1
      clear hJ1
      obtain ⟨l3, rfl, hJ3⟩ := mq_tN_spec hJ2
      clear hJ2
      obtain ⟨l4, rfl, hJ4⟩ := mq_tN_spec hJ3
      clear hJ3
      obtain ⟨rfl, hJz⟩ := mq_t0_spec hJ4
      clear hJ4
      obtain ⟨rfl, rfl, rfl, hc0, hc1, hc2, hc3, hc4, hc5, hc6, hc7, hc8, hc9, hm0, hm1⟩ := hJz
      intro hbk hrl
      obtain ⟨⟨hl1a, hl1b⟩, ⟨hl2a, hl2b⟩, -⟩ := hrl
      subst hc0
      subst hc1
      repeat' (first | refine And.intro ?_ ?_ | intro _)
      all_goals try simp only [Int.reduceToNat, Int.reduceAdd, mq_up_f, mq_up_s, mq_up_e, ne_eq, Nat.reduceEqDiff, not_false_eq_true, true_and, and_true, false_and, and_false, false_or, or_false, true_or, or_true, true_implies] at *
      all_goals first | omega | rfl | exact trivial | assumption | (have hag := ‹mq_ag _ _ _›; rw [mq_ag_at hag 69 0 (by decide +kernel)]; omega) | (have hag := ‹mq_ag _ _ _›; rw [mq_ag_at hag 69 0 (by decide +kernel), mq_ag_at hag 76 0 (by decide +kernel)]; assumption) | (have hag := ‹mq_ag _ _ _›; rw [mq_ag_at hag 76 0 (by decide +kernel)]; omega) | (have hag := ‹mq_ag _ _ _›; rw [mq_up_row, if_neg (by omega), mq_ag_at hag 76 0 (by decide +kernel)]; omega) | exact sq_m (fun h h1 _ => sq_pl4_same (sq_g hc8) (sq_has16 hbk 4 (by decide) (by decide)) (h1 (by decide))) | (have hag := ‹mq_ag _ _ _›; rw [mq_ag_at hag 69 0 (by decide +kernel), mq_ag_at hag 76 0 (by decide +kernel)]; exact sq_m (fun h h1 _ => sq_pl4_same (sq_g hc8) (sq_has16 hbk 4 (by decide) (by decide)) (h1 (by decide)))) | (have hx := sq_g (p := ∀ h : sq_Ro, h 34 = _ + 1 → sq_pl h _ 4) (by assumption); exact sq_m (fun h _ h2 => hx h (by first | omega | (have := h2 rfl; omega))))
    refine List.forall_mem_cons.mpr ⟨?_, ?_⟩
    · intro N l st ρ' μ' cs hJ
      obtain ⟨l0, rfl, hJ0⟩ := mq_tZ_spec hJ
      clear hJ
      obtain ⟨v1, l1, rfl, hJ1⟩ := mq_tI_spec hJ0
      clear hJ0
      obtain ⟨v2, l2, rfl, hJ2⟩ := mq_tI_spec hJ1
      clear hJ1
      obtain ⟨v3, l3, rfl, hJ3⟩ := mq_tI_spec hJ2
      clear hJ2
      obtain ⟨l4, rfl, hJ4⟩ := mq_tN_spec hJ3
      clear hJ3
      obtain ⟨rfl, hJz⟩ := mq_t0_spec hJ4
      clear hJ4
      obtain ⟨rfl, rfl, rfl, hc0, hc1, hc2, hc3, hc4, hc5, hc6, hc7, hc8, hc9, hm0, hm1⟩ := hJz
      intro hbk hrl
      obtain ⟨⟨hl1a, hl1b⟩, ⟨hl2a, hl2b⟩, ⟨hl3a, hl3b⟩, -⟩ := hrl
      subst hc0
      subst hc1
      repeat' (first | refine And.intro ?_ ?_ | intro _)
      all_goals try simp only [Int.reduceToNat, Int.reduceAdd, mq_up_f, mq_up_s, mq_up_e, ne_eq, Nat.reduceEqDiff, not_false_eq_true, true_and, and_true, false_and, and_false, false_or, or_false, true_or, or_true, true_implies] at *
      all_goals first | omega | rfl | exact trivial | assumption | (have hag := ‹mq_ag _ _ _›; rw [mq_ag_at hag 69 0 (by decide +kernel)]; omega) | (have hag := ‹mq_ag _ _ _›; rw [mq_ag_at hag 69 0 (by decide +kernel), mq_ag_at hag 76 0 (by decide +kernel)]; assumption) | (have hag := ‹mq_ag _ _ _›; rw [mq_ag_at hag 76 0 (by decide +kernel)]; omega) | (have hag := ‹mq_ag _ _ _›; rw [mq_up_row, if_neg (by omega), mq_ag_at hag 76 0 (by decide +kernel)]; omega) | exact sq_m (fun h h1 _ => sq_pl4_same (sq_g hc8) (sq_has16 hbk 4 (by decide) (by decide)) (h1 (by decide))) | (have hag := ‹mq_ag _ _ _›; rw [mq_ag_at hag 69 0 (by decide +kernel), mq_ag_at hag 76 0 (by decide +kernel)]; exact sq_m (fun h h1 _ => sq_pl4_same (sq_g hc8) (sq_has16 hbk 4 (by decide) (by decide)) (h1 (by decide)))) | (have hx := sq_g (p := ∀ h : sq_Ro, h 34 = _ + 1 → sq_pl h _ 4) (by assumption); exact sq_m (fun h _ h2 => hx h (by first | omega | (have := h2 rfl; omega))))
    refine List.forall_mem_cons.mpr ⟨?_, ?_⟩
    · intro N l st ρ' μ' cs hJ
      obtain ⟨l0, rfl, hJ0⟩ := mq_tZ_spec hJ
      clear hJ
      obtain ⟨v1, l1, rfl, hJ1⟩ := mq_tI_spec hJ0
      clear hJ0
      obtain ⟨v2, l2, rfl, hJ2⟩ := mq_tI_spec hJ1
      clear hJ1
      obtain ⟨v3, l3, rfl, hJ3⟩ := mq_tI_spec hJ2
      clear hJ2
      obtain ⟨l4, rfl, hJ4⟩ := mq_tN_spec hJ3
      clear hJ3
      obtain ⟨rfl, hJz⟩ := mq_t0_spec hJ4
      clear hJ4
      obtain ⟨rfl, rfl, rfl, hc0, hc1, hc2, hc3, hc4, hc5, hc6, hc7, hc8, hc9, hm0, hm1⟩ := hJz
      intro hbk hrl
      obtain ⟨⟨hl1a, hl1b⟩, ⟨hl2a, hl2b⟩, ⟨hl3a, hl3b⟩, -⟩ := hrl
      subst hc0
      subst hc1
      repeat' (first | refine And.intro ?_ ?_ | intro _)
      all_goals try simp only [Int.reduceToNat, Int.reduceAdd, mq_up_f, mq_up_s, mq_up_e, ne_eq, Nat.reduceEqDiff, not_false_eq_true, true_and, and_true, false_and, and_false, false_or, or_false, true_or, or_true, true_implies] at *
      all_goals first | omega | rfl | exact trivial | assumption | (have hag := ‹mq_ag _ _ _›; rw [mq_ag_at hag 69 0 (by decide +kernel)]; omega) | (have hag := ‹mq_ag _ _ _›; rw [mq_ag_at hag 69 0 (by decide +kernel), mq_ag_at hag 76 0 (by decide +kernel)]; assumption) | (have hag := ‹mq_ag _ _ _›; rw [mq_ag_at hag 76 0 (by decide +kernel)]; omega) | (have hag := ‹mq_ag _ _ _›; rw [mq_up_row, if_neg (by omega), mq_ag_at hag 76 0 (by decide +kernel)]; omega) | exact sq_m (fun h h1 _ => sq_pl4_same (sq_g hc8) (sq_has16 hbk 4 (by decide) (by decide)) (h1 (by decide))) | (have hag := ‹mq_ag _ _ _›; rw [mq_ag_at hag 69 0 (by decide +kernel), mq_ag_at hag 76 0 (by decide +kernel)]; exact sq_m (fun h h1 _ => sq_pl4_same (sq_g hc8) (sq_has16 hbk 4 (by decide) (by decide)) (h1 (by decide)))) | (have hx := sq_g (p := ∀ h : sq_Ro, h 34 = _ + 1 → sq_pl h _ 4) (by assumption); exact sq_m (fun h _ h2 => hx h (by first | omega | (have := h2 rfl; omega))))
    refine List.forall_mem_cons.mpr ⟨?_, ?_⟩
    · intro N l st ρ' μ' cs hJ
      obtain ⟨l0, rfl, hJ0⟩ := mq_tZ_spec hJ
      clear hJ
      obtain ⟨v1, l1, rfl, hJ1⟩ := mq_tI_spec hJ0
      clear hJ0
      obtain ⟨v2, l2, rfl, hJ2⟩ := mq_tI_spec hJ1
      clear hJ1
      obtain ⟨v3, l3, rfl, hJ3⟩ := mq_tI_spec hJ2
      clear hJ2
      obtain ⟨v4, l4, rfl, hJ4⟩ := mq_tI_spec hJ3
      clear hJ3
      obtain ⟨rfl, hJz⟩ := mq_t0_spec hJ4
      clear hJ4
      obtain ⟨rfl, rfl, rfl, hc0, hc1, hc2, hc3, hc4, hc5, hc6, hc7, hc8, hc9, hc10, hc11, hm0, hm1⟩ := hJz
      intro hbk hrl
      obtain ⟨⟨hl1a, hl1b⟩, ⟨hl2a, hl2b⟩, ⟨hl3a, hl3b⟩, ⟨hl4a, hl4b⟩, -⟩ := hrl
      subst hc0
      subst hc1
      repeat' (first | refine And.intro ?_ ?_ | intro _)
      all_goals try simp only [Int.reduceToNat, Int.reduceAdd, mq_up_f, mq_up_s, mq_up_e, ne_eq, Nat.reduceEqDiff, not_false_eq_true, true_and, and_true, false_and, and_false, false_or, or_false, true_or, or_true, true_implies] at *
      all_goals first | omega | rfl | exact trivial | assumption | (have hag := ‹mq_ag _ _ _›; rw [mq_ag_at hag 69 0 (by decide +kernel)]; omega) | (have hag := ‹mq_ag _ _ _›; rw [mq_ag_at hag 69 0 (by decide +kernel), mq_ag_at hag 76 0 (by decide +kernel)]; assumption) | (have hag := ‹mq_ag _ _ _›; rw [mq_ag_at hag 76 0 (by decide +kernel)]; omega) | (have hag := ‹mq_ag _ _ _›; rw [mq_up_row, if_neg (by omega), mq_ag_at hag 76 0 (by decide +kernel)]; omega) | exact sq_m (fun h h1 _ => sq_pl4_same (sq_g hc8) (sq_has16 hbk 4 (by decide) (by decide)) (h1 (by decide))) | (have hag := ‹mq_ag _ _ _›; rw [mq_ag_at hag 69 0 (by decide +kernel), mq_ag_at hag 76 0 (by decide +kernel)]; exact sq_m (fun h h1 _ => sq_pl4_same (sq_g hc8) (sq_has16 hbk 4 (by decide) (by decide)) (h1 (by decide)))) | (have hx := sq_g (p := ∀ h : sq_Ro, h 34 = _ + 1 → sq_pl h _ 4) (by assumption); exact sq_m (fun h _ h2 => hx h (by first | omega | (have := h2 rfl; omega))))
    refine List.forall_mem_cons.mpr ⟨?_, ?_⟩
    · intro N l st ρ' μ' cs hJ
      obtain ⟨l0, rfl, hJ0⟩ := mq_tZ_spec hJ
      clear hJ
      obtain ⟨v1, l1, rfl, hJ1⟩ := mq_tI_spec hJ0
      clear hJ0
      obtain ⟨v2, l2, rfl, hJ2⟩ := mq_tI_spec hJ1
      clear hJ1
      obtain ⟨l3, rfl, hJ3⟩ := mq_tN_spec hJ2
      clear hJ2
      obtain ⟨l4, rfl, hJ4⟩ := mq_tN_spec hJ3
      clear hJ3
      obtain ⟨rfl, hJz⟩ := mq_t0_spec hJ4
      clear hJ4
      obtain ⟨rfl, rfl, rfl, hc0, hc1, hc2, hc3, hc4, hc5, hc6, hc7, hc8, hc9, hm0, hm1⟩ := hJz
      intro hbk hrl
      obtain ⟨⟨hl1a, hl1b⟩, ⟨hl2a, hl2b⟩, -⟩ := hrl
      subst hc0
      subst hc1
      repeat' (first | refine And.intro ?_ ?_ | intro _)
      all_goals try simp only [Int.reduceToNat, Int.reduceAdd, mq_up_f, mq_up_s, mq_up_e, ne_eq, Nat.reduceEqDiff, not_false_eq_true, true_and, and_true, false_and, and_false, false_or, or_false, true_or, or_true, true_implies] at *
      all_goals first | omega | rfl | exact trivial | assumption | (have hag := ‹mq_ag _ _ _›; rw [mq_ag_at hag 69 0 (by decide +kernel)]; omega) | (have hag := ‹mq_ag _ _ _›; rw [mq_ag_at hag 69 0 (by decide +kernel), mq_ag_at hag 76 0 (by decide +kernel)]; assumption) | (have hag := ‹mq_ag _ _ _›; rw [mq_ag_at hag 76 0 (by decide +kernel)]; omega) | (have hag := ‹mq_ag _ _ _›; rw [mq_up_row, if_neg (by omega), mq_ag_at hag 76 0 (by decide +kernel)]; omega) | exact sq_m (fun h h1 _ => sq_pl4_same (sq_g hc8) (sq_has16 hbk 4 (by decide) (by decide)) (h1 (by decide))) | (have hag := ‹mq_ag _ _ _›; rw [mq_ag_at hag 69 0 (by decide +kernel), mq_ag_at hag 76 0 (by decide +kernel)]; exact sq_m (fun h h1 _ => sq_pl4_same (sq_g hc8) (sq_has16 hbk 4 (by decide) (by decide)) (h1 (by decide)))) | (have hx := sq_g (p := ∀ h : sq_Ro, h 34 = _ + 1 → sq_pl h _ 4) (by assumption); exact sq_m (fun h _ h2 => hx h (by first | omega | (have := h2 rfl; omega))))
    refine List.forall_mem_cons.mpr ⟨?_, ?_⟩
    · intro N l st ρ' μ' cs hJ
      obtain ⟨l0, rfl, hJ0⟩ := mq_tZ_spec hJ
      clear hJ
      obtain ⟨v1, l1, rfl, hJ1⟩ := mq_tI_spec hJ0
      clear hJ0
      obtain ⟨v2, l2, rfl, hJ2⟩ := mq_tI_spec hJ1
      clear hJ1
      obtain ⟨l3, rfl, hJ3⟩ := mq_tN_spec hJ2
      clear hJ2
      obtain ⟨l4, rfl, hJ4⟩ := mq_tN_spec hJ3
      clear hJ3
      obtain ⟨rfl, hJz⟩ := mq_t0_spec hJ4
      clear hJ4
      obtain ⟨rfl, rfl, rfl, hc0, hc1, hc2, hc3, hc4, hc5, hc6, hc7, hc8, hc9, hm0, hm1⟩ := hJz
      intro hbk hrl
      obtain ⟨⟨hl1a, hl1b⟩, ⟨hl2a, hl2b⟩, -⟩ := hrl
      subst hc0
      subst hc1
      repeat' (first | refine And.intro ?_ ?_ | intro _)
      all_goals try simp only [Int.reduceToNat, Int.reduceAdd, mq_up_f, mq_up_s, mq_up_e, ne_eq, Nat.reduceEqDiff, not_false_eq_true, true_and, and_true, false_and, and_false, false_or, or_false, true_or, or_true, true_implies] at *
      all_goals first | omega | rfl | exact trivial | assumption | (have hag := ‹mq_ag _ _ _›; rw [mq_ag_at hag 69 0 (by decide +kernel)]; omega) | (have hag := ‹mq_ag _ _ _›; rw [mq_ag_at hag 69 0 (by decide +kernel), mq_ag_at hag 76 0 (by decide +kernel)]; assumption) | (have hag := ‹mq_ag _ _ _›; rw [mq_ag_at hag 76 0 (by decide +kernel)]; omega) | (have hag := ‹mq_ag _ _ _›; rw [mq_up_row, if_neg (by omega), mq_ag_at hag 76 0 (by decide +kernel)]; omega) | exact sq_m (fun h h1 _ => sq_pl4_same (sq_g hc8) (sq_has16 hbk 4 (by decide) (by decide)) (h1 (by decide))) | (have hag := ‹mq_ag _ _ _›; rw [mq_ag_at hag 69 0 (by decide +kernel), mq_ag_at hag 76 0 (by decide +kernel)]; exact sq_m (fun h h1 _ => sq_pl4_same (sq_g hc8) (sq_has16 hbk 4 (by decide) (by decide)) (h1 (by decide)))) | (have hx := sq_g (p := ∀ h : sq_Ro, h 34 = _ + 1 → sq_pl h _ 4) (by assumption); exact sq_m (fun h _ h2 => hx h (by first | omega | (have := h2 rfl; omega))))
    refine List.forall_mem_cons.mpr ⟨?_, ?_⟩
    · intro N l st ρ' μ' cs hJ
      obtain ⟨l0, rfl, hJ0⟩ := mq_tZ_spec hJ
      clear hJ
      obtain ⟨v1, l1, rfl, hJ1⟩ := mq_tI_spec hJ0
      clear hJ0
      obtain ⟨v2, l2, rfl, hJ2⟩ := mq_tI_spec hJ1
      clear hJ1
      obtain ⟨v3, l3, rfl, hJ3⟩ := mq_tI_spec hJ2
      clear hJ2
      obtain ⟨l4, rfl, hJ4⟩ := mq_tN_spec hJ3
      clear hJ3
      obtain ⟨rfl, hJz⟩ := mq_t0_spec hJ4
      clear hJ4
      obtain ⟨rfl, rfl, rfl, hc0, hc1, hc2, hc3, hc4, hc5, hc6, hc7, hc8, hc9, hc10, hc11, hm0, hm1⟩ := hJz
      intro hbk hrl
      obtain ⟨⟨hl1a, hl1b⟩, ⟨hl2a, hl2b⟩, ⟨hl3a, hl3b⟩, -⟩ := hrl
      subst hc0
      subst hc1
      repeat' (first | refine And.intro ?_ ?_ | intro _)
      all_goals try simp only [Int.reduceToNat, Int.reduceAdd, mq_up_f, mq_up_s, mq_up_e, ne_eq, Nat.reduceEqDiff, not_false_eq_true, true_and, and_true, false_and, and_false, false_or, or_false, true_or, or_true, true_implies] at *
      all_goals first | omega | rfl | exact trivial | assumption | (have hag := ‹mq_ag _ _ _›; rw [mq_ag_at hag 69 0 (by decide +kernel)]; omega) | (have hag := ‹mq_ag _ _ _›; rw [mq_ag_at hag 69 0 (by decide +kernel), mq_ag_at hag 76 0 (by decide +kernel)]; assumption) | (have hag := ‹mq_ag _ _ _›; rw [mq_ag_at hag 76 0 (by decide +kernel)]; omega) | (have hag := ‹mq_ag _ _ _›; rw [mq_up_row, if_neg (by omega), mq_ag_at hag 76 0 (by decide +kernel)]; omega) | exact sq_m (fun h h1 _ => sq_pl4_same (sq_g hc8) (sq_has16 hbk 4 (by decide) (by decide)) (h1 (by decide))) | (have hag := ‹mq_ag _ _ _›; rw [mq_ag_at hag 69 0 (by decide +kernel), mq_ag_at hag 76 0 (by decide +kernel)]; exact sq_m (fun h h1 _ => sq_pl4_same (sq_g hc8) (sq_has16 hbk 4 (by decide) (by decide)) (h1 (by decide)))) | (have hx := sq_g (p := ∀ h : sq_Ro, h 34 = _ + 1 → sq_pl h _ 4) (by assumption); exact sq_m (fun h _ h2 => hx h (by first | omega | (have := h2 rfl; omega))))
    refine List.forall_mem_cons.mpr ⟨?_, ?_⟩
    · intro N l st ρ' μ' cs hJ
      obtain ⟨l0, rfl, hJ0⟩ := mq_tZ_spec hJ
      clear hJ
      obtain ⟨v1, l1, rfl, hJ1⟩ := mq_tI_spec hJ0
      clear hJ0
      obtain ⟨v2, l2, rfl, hJ2⟩ := mq_tI_spec hJ1
      clear hJ1
      obtain ⟨v3, l3, rfl, hJ3⟩ := mq_tI_spec hJ2
      clear hJ2
      obtain ⟨l4, rfl, hJ4⟩ := mq_tN_spec hJ3
      clear hJ3
      obtain ⟨rfl, hJz⟩ := mq_t0_spec hJ4
      clear hJ4
      obtain ⟨rfl, rfl, rfl, hc0, hc1, hc2, hc3, hc4, hc5, hc6, hc7, hc8, hc9, hc10, hc11, hm0, hm1⟩ := hJz
      intro hbk hrl
      obtain ⟨⟨hl1a, hl1b⟩, ⟨hl2a, hl2b⟩, ⟨hl3a, hl3b⟩, -⟩ := hrl
      subst hc0
      subst hc1
      repeat' (first | refine And.intro ?_ ?_ | intro _)
      all_goals try simp only [Int.reduceToNat, Int.reduceAdd, mq_up_f, mq_up_s, mq_up_e, ne_eq, Nat.reduceEqDiff, not_false_eq_true, true_and, and_true, false_and, and_false, false_or, or_false, true_or, or_true, true_implies] at *
      all_goals first | omega | rfl | exact trivial | assumption | (have hag := ‹mq_ag _ _ _›; rw [mq_ag_at hag 69 0 (by decide +kernel)]; omega) | (have hag := ‹mq_ag _ _ _›; rw [mq_ag_at hag 69 0 (by decide +kernel), mq_ag_at hag 76 0 (by decide +kernel)]; assumption) | (have hag := ‹mq_ag _ _ _›; rw [mq_ag_at hag 76 0 (by decide +kernel)]; omega) | (have hag := ‹mq_ag _ _ _›; rw [mq_up_row, if_neg (by omega), mq_ag_at hag 76 0 (by decide +kernel)]; omega) | exact sq_m (fun h h1 _ => sq_pl4_same (sq_g hc8) (sq_has16 hbk 4 (by decide) (by decide)) (h1 (by decide))) | (have hag := ‹mq_ag _ _ _›; rw [mq_ag_at hag 69 0 (by decide +kernel), mq_ag_at hag 76 0 (by decide +kernel)]; exact sq_m (fun h h1 _ => sq_pl4_same (sq_g hc8) (sq_has16 hbk 4 (by decide) (by decide)) (h1 (by decide)))) | (have hx := sq_g (p := ∀ h : sq_Ro, h 34 = _ + 1 → sq_pl h _ 4) (by assumption); exact sq_m (fun h _ h2 => hx h (by first | omega | (have := h2 rfl; omega))))
    refine List.forall_mem_cons.mpr ⟨?_, ?_⟩
    · intro N l st ρ' μ' cs hJ
      obtain ⟨l0, rfl, hJ0⟩ := mq_tZ_spec hJ
      clear hJ
      obtain ⟨v1, l1, rfl, hJ1⟩ := mq_tI_spec hJ0
      clear hJ0
      obtain ⟨v2, l2, rfl, hJ2⟩ := mq_tI_spec hJ1
      clear hJ1
      obtain ⟨v3, l3, rfl, hJ3⟩ := mq_tI_spec hJ2
      clear hJ2
      obtain ⟨l4, rfl, hJ4⟩ := mq_tN_spec hJ3
      clear hJ3
      obtain ⟨rfl, hJz⟩ := mq_t0_spec hJ4
      clear hJ4
      obtain ⟨rfl, rfl, rfl, hc0, hc1, hc2, hc3, hc4, hc5, hc6, hc7, hc8, hc9, hm0, hm1⟩ := hJz
      intro hbk hrl
      obtain ⟨⟨hl1a, hl1b⟩, ⟨hl2a, hl2b⟩, ⟨hl3a, hl3b⟩, -⟩ := hrl
      subst hc0
      subst hc1
      repeat' (first | refine And.intro ?_ ?_ | intro _)
      all_goals try simp only [Int.reduceToNat, Int.reduceAdd, mq_up_f, mq_up_s, mq_up_e, ne_eq, Nat.reduceEqDiff, not_false_eq_true, true_and, and_true, false_and, and_false, false_or, or_false, true_or, or_true, true_implies] at *
      all_goals first | omega | rfl | exact trivial | assumption | (have hag := ‹mq_ag _ _ _›; rw [mq_ag_at hag 69 0 (by decide +kernel)]; omega) | (have hag := ‹mq_ag _ _ _›; rw [mq_ag_at hag 69 0 (by decide +kernel), mq_ag_at hag 76 0 (by decide +kernel)]; assumption) | (have hag := ‹mq_ag _ _ _›; rw [mq_ag_at hag 76 0 (by decide +kernel)]; omega) | (have hag := ‹mq_ag _ _ _›; rw [mq_up_row, if_neg (by omega), mq_ag_at hag 76 0 (by decide +kernel)]; omega) | exact sq_m (fun h h1 _ => sq_pl4_same (sq_g hc8) (sq_has16 hbk 4 (by decide) (by decide)) (h1 (by decide))) | (have hag := ‹mq_ag _ _ _›; rw [mq_ag_at hag 69 0 (by decide +kernel), mq_ag_at hag 76 0 (by decide +kernel)]; exact sq_m (fun h h1 _ => sq_pl4_same (sq_g hc8) (sq_has16 hbk 4 (by decide) (by decide)) (h1 (by decide)))) | (have hx := sq_g (p := ∀ h : sq_Ro, h 34 = _ + 1 → sq_pl h _ 4) (by assumption); exact sq_m (fun h _ h2 => hx h (by first | omega | (have := h2 rfl; omega))))
    refine List.forall_mem_cons.mpr ⟨?_, ?_⟩
    · intro N l st ρ' μ' cs hJ
      obtain ⟨l0, rfl, hJ0⟩ := mq_tZ_spec hJ
      clear hJ
      obtain ⟨v1, l1, rfl, hJ1⟩ := mq_tI_spec hJ0
      clear hJ0
      obtain ⟨v2, l2, rfl, hJ2⟩ := mq_tI_spec hJ1
      clear hJ1
      obtain ⟨l3, rfl, hJ3⟩ := mq_tN_spec hJ2
      clear hJ2
      obtain ⟨l4, rfl, hJ4⟩ := mq_tN_spec hJ3
      clear hJ3
      obtain ⟨rfl, hJz⟩ := mq_t0_spec hJ4
      clear hJ4
      obtain ⟨rfl, rfl, rfl, hc0, hc1, hc2, hc3, hc4, hc5, hc6, hc7, hc8, hc9, hm0, hm1⟩ := hJz
      intro hbk hrl
      obtain ⟨⟨hl1a, hl1b⟩, ⟨hl2a, hl2b⟩, -⟩ := hrl
      subst hc0
      subst hc1
      repeat' (first | refine And.intro ?_ ?_ | intro _)
      all_goals try simp only [Int.reduceToNat, Int.reduceAdd, mq_up_f, mq_up_s, mq_up_e, ne_eq, Nat.reduceEqDiff, not_false_eq_true, true_and, and_true, false_and, and_false, false_or, or_false, true_or, or_true, true_implies] at *
      all_goals first | omega | rfl | exact trivial | assumption | (have hag := ‹mq_ag _ _ _›; rw [mq_ag_at hag 69 0 (by decide +kernel)]; omega) | (have hag := ‹mq_ag _ _ _›; rw [mq_ag_at hag 69 0 (by decide +kernel), mq_ag_at hag 76 0 (by decide +kernel)]; assumption) | (have hag := ‹mq_ag _ _ _›; rw [mq_ag_at hag 76 0 (by decide +kernel)]; omega) | (have hag := ‹mq_ag _ _ _›; rw [mq_up_row, if_neg (by omega), mq_ag_at hag 76 0 (by decide +kernel)]; omega) | exact sq_m (fun h h1 _ => sq_pl4_same (sq_g hc8) (sq_has16 hbk 4 (by decide) (by decide)) (h1 (by decide))) | (have hag := ‹mq_ag _ _ _›; rw [mq_ag_at hag 69 0 (by decide +kernel), mq_ag_at hag 76 0 (by decide +kernel)]; exact sq_m (fun h h1 _ => sq_pl4_same (sq_g hc8) (sq_has16 hbk 4 (by decide) (by decide)) (h1 (by decide)))) | (have hx := sq_g (p := ∀ h : sq_Ro, h 34 = _ + 1 → sq_pl h _ 4) (by assumption); exact sq_m (fun h _ h2 => hx h (by first | omega | (have := h2 rfl; omega))))
    refine List.forall_mem_cons.mpr ⟨?_, ?_⟩
    · intro N l st ρ' μ' cs hJ
      obtain ⟨l0, rfl, hJ0⟩ := mq_tZ_spec hJ
      clear hJ
      obtain ⟨v1, l1, rfl, hJ1⟩ := mq_tI_spec hJ0
      clear hJ0
      obtain ⟨v2, l2, rfl, hJ2⟩ := mq_tI_spec hJ1
      clear hJ1
      obtain ⟨l3, rfl, hJ3⟩ := mq_tN_spec hJ2
      clear hJ2
      obtain ⟨l4, rfl, hJ4⟩ := mq_tN_spec hJ3
      clear hJ3
      obtain ⟨rfl, hJz⟩ := mq_t0_spec hJ4
      clear hJ4
      obtain ⟨rfl, rfl, rfl, hc0, hc1, hc2, hc3, hc4, hc5, hc6, hc7, hc8, hc9, hm0, hm1⟩ := hJz
      intro hbk hrl
      obtain ⟨⟨hl1a, hl1b⟩, ⟨hl2a, hl2b⟩, -⟩ := hrl
      subst hc0
      subst hc1
      repeat' (first | refine And.intro ?_ ?_ | intro _)
      all_goals try simp only [Int.reduceToNat, Int.reduceAdd, mq_up_f, mq_up_s, mq_up_e, ne_eq, Nat.reduceEqDiff, not_false_eq_true, true_and, and_true, false_and, and_false, false_or, or_false, true_or, or_true, true_implies] at *
      all_goals first | omega | rfl | exact trivial | assumption | (have hag := ‹mq_ag _ _ _›; rw [mq_ag_at hag 69 0 (by decide +kernel)]; omega) | (have hag := ‹mq_ag _ _ _›; rw [mq_ag_at hag 69 0 (by decide +kernel), mq_ag_at hag 76 0 (by decide +kernel)]; assumption) | (have hag := ‹mq_ag _ _ _›; rw [mq_ag_at hag 76 0 (by decide +kernel)]; omega) | (have hag := ‹mq_ag _ _ _›; rw [mq_up_row, if_neg (by omega), mq_ag_at hag 76 0 (by decide +kernel)]; omega) | exact sq_m (fun h h1 _ => sq_pl4_same (sq_g hc8) (sq_has16 hbk 4 (by decide) (by decide)) (h1 (by decide))) | (have hag := ‹mq_ag _ _ _›; rw [mq_ag_at hag 69 0 (by decide +kernel), mq_ag_at hag 76 0 (by decide +kernel)]; exact sq_m (fun h h1 _ => sq_pl4_same (sq_g hc8) (sq_has16 hbk 4 (by decide) (by decide)) (h1 (by decide)))) | (have hx := sq_g (p := ∀ h : sq_Ro, h 34 = _ + 1 → sq_pl h _ 4) (by assumption); exact sq_m (fun h _ h2 => hx h (by first | omega | (have := h2 rfl; omega))))
    refine List.forall_mem_cons.mpr ⟨?_, ?_⟩
    · intro N l st ρ' μ' cs hJ
      obtain ⟨l0, rfl, hJ0⟩ := mq_tZ_spec hJ
      clear hJ
      obtain ⟨v1, l1, rfl, hJ1⟩ := mq_tI_spec hJ0
      clear hJ0
      obtain ⟨v2, l2, rfl, hJ2⟩ := mq_tI_spec hJ1
      clear hJ1
      obtain ⟨l3, rfl, hJ3⟩ := mq_tN_spec hJ2
      clear hJ2
      obtain ⟨l4, rfl, hJ4⟩ := mq_tN_spec hJ3
      clear hJ3
      obtain ⟨rfl, hJz⟩ := mq_t0_spec hJ4
      clear hJ4
      obtain ⟨rfl, rfl, rfl, hc0, hc1, hc2, hc3, hc4, hc5, hc6, hc7, hc8, hc9, hm0, hm1⟩ := hJz
      intro hbk hrl
      obtain ⟨⟨hl1a, hl1b⟩, ⟨hl2a, hl2b⟩, -⟩ := hrl
      subst hc0
      subst hc1
      repeat' (first | refine And.intro ?_ ?_ | intro _)
      all_goals try simp only [Int.reduceToNat, Int.reduceAdd, mq_up_f, mq_up_s, mq_up_e, ne_eq, Nat.reduceEqDiff, not_false_eq_true, true_and, and_true, false_and, and_false, false_or, or_false, true_or, or_true, true_implies] at *
      all_goals first | omega | rfl | exact trivial | assumption | (have hag := ‹mq_ag _ _ _›; rw [mq_ag_at hag 69 0 (by decide +kernel)]; omega) | (have hag := ‹mq_ag _ _ _›; rw [mq_ag_at hag 69 0 (by decide +kernel), mq_ag_at hag 76 0 (by decide +kernel)]; assumption) | (have hag := ‹mq_ag _ _ _›; rw [mq_ag_at hag 76 0 (by decide +kernel)]; omega) | (have hag := ‹mq_ag _ _ _›; rw [mq_up_row, if_neg (by omega), mq_ag_at hag 76 0 (by decide +kernel)]; omega) | exact sq_m (fun h h1 _ => sq_pl4_same (sq_g hc8) (sq_has16 hbk 4 (by decide) (by decide)) (h1 (by decide))) | (have hag := ‹mq_ag _ _ _›; rw [mq_ag_at hag 69 0 (by decide +kernel), mq_ag_at hag 76 0 (by decide +kernel)]; exact sq_m (fun h h1 _ => sq_pl4_same (sq_g hc8) (sq_has16 hbk 4 (by decide) (by decide)) (h1 (by decide)))) | (have hx := sq_g (p := ∀ h : sq_Ro, h 34 = _ + 1 → sq_pl h _ 4) (by assumption); exact sq_m (fun h _ h2 => hx h (by first | omega | (have := h2 rfl; omega))))
    refine List.forall_mem_cons.mpr ⟨?_, ?_⟩
    · intro N l st ρ' μ' cs hJ
      obtain ⟨l0, rfl, hJ0⟩ := mq_tZ_spec hJ
      clear hJ
      obtain ⟨v1, l1, rfl, hJ1⟩ := mq_tI_spec hJ0
      clear hJ0
      obtain ⟨v2, l2, rfl, hJ2⟩ := mq_tI_spec hJ1
      clear hJ1
      obtain ⟨l3, rfl, hJ3⟩ := mq_tN_spec hJ2
      clear hJ2
      obtain ⟨l4, rfl, hJ4⟩ := mq_tN_spec hJ3
      clear hJ3
      obtain ⟨rfl, hJz⟩ := mq_t0_spec hJ4
      clear hJ4
      obtain ⟨rfl, rfl, rfl, hc0, hc1, hc2, hc3, hc4, hc5, hc6, hc7, hc8, hc9, hm0, hm1⟩ := hJz
      intro hbk hrl
      obtain ⟨⟨hl1a, hl1b⟩, ⟨hl2a, hl2b⟩, -⟩ := hrl
      subst hc0
      subst hc1
      repeat' (first | refine And.intro ?_ ?_ | intro _)
      all_goals try simp only [Int.reduceToNat, Int.reduceAdd, mq_up_f, mq_up_s, mq_up_e, ne_eq, Nat.reduceEqDiff, not_false_eq_true, true_and, and_true, false_and, and_false, false_or, or_false, true_or, or_true, true_implies] at *
      all_goals first | omega | rfl | exact trivial | assumption | (have hag := ‹mq_ag _ _ _›; rw [mq_ag_at hag 69 0 (by decide +kernel)]; omega) | (have hag := ‹mq_ag _ _ _›; rw [mq_ag_at hag 69 0 (by decide +kernel), mq_ag_at hag 76 0 (by decide +kernel)]; assumption) | (have hag := ‹mq_ag _ _ _›; rw [mq_ag_at hag 76 0 (by decide +kernel)]; omega) | (have hag := ‹mq_ag _ _ _›; rw [mq_up_row, if_neg (by omega), mq_ag_at hag 76 0 (by decide +kernel)]; omega) | exact sq_m (fun h h1 _ => sq_pl4_same (sq_g hc8) (sq_has16 hbk 4 (by decide) (by decide)) (h1 (by decide))) | (have hag := ‹mq_ag _ _ _›; rw [mq_ag_at hag 69 0 (by decide +kernel), mq_ag_at hag 76 0 (by decide +kernel)]; exact sq_m (fun h h1 _ => sq_pl4_same (sq_g hc8) (sq_has16 hbk 4 (by decide) (by decide)) (h1 (by decide)))) | (have hx := sq_g (p := ∀ h : sq_Ro, h 34 = _ + 1 → sq_pl h _ 4) (by assumption); exact sq_m (fun h _ h2 => hx h (by first | omega | (have := h2 rfl; omega))))
    refine List.forall_mem_cons.mpr ⟨?_, ?_⟩
    · intro N l st ρ' μ' cs hJ
      obtain ⟨l0, rfl, hJ0⟩ := mq_tZ_spec hJ
      clear hJ
      obtain ⟨v1, l1, rfl, hJ1⟩ := mq_tI_spec hJ0
      clear hJ0
      obtain ⟨v2, l2, rfl, hJ2⟩ := mq_tI_spec hJ1
      clear hJ1
      obtain ⟨l3, rfl, hJ3⟩ := mq_tN_spec hJ2
      clear hJ2
      obtain ⟨l4, rfl, hJ4⟩ := mq_tN_spec hJ3
      clear hJ3
      obtain ⟨rfl, hJz⟩ := mq_t0_spec hJ4
      clear hJ4
      obtain ⟨rfl, rfl, rfl, hc0, hc1, hc2, hc3, hc4, hc5, hc6, hc7, hc8, hc9, hm0, hm1⟩ := hJz
      intro hbk hrl
      obtain ⟨⟨hl1a, hl1b⟩, ⟨hl2a, hl2b⟩, -⟩ := hrl
      subst hc0
      subst hc1
      repeat' (first | refine And.intro ?_ ?_ | intro _)
      all_goals try simp only [Int.reduceToNat, Int.reduceAdd, mq_up_f, mq_up_s, mq_up_e, ne_eq, Nat.reduceEqDiff, not_false_eq_true, true_and, and_true, false_and, and_false, false_or, or_false, true_or, or_true, true_implies] at *
      all_goals first | omega | rfl | exact trivial | assumption | (have hag := ‹mq_ag _ _ _›; rw [mq_ag_at hag 69 0 (by decide +kernel)]; omega) | (have hag := ‹mq_ag _ _ _›; rw [mq_ag_at hag 69 0 (by decide +kernel), mq_ag_at hag 76 0 (by decide +kernel)]; assumption) | (have hag := ‹mq_ag _ _ _›; rw [mq_ag_at hag 76 0 (by decide +kernel)]; omega) | (have hag := ‹mq_ag _ _ _›; rw [mq_up_row, if_neg (by omega), mq_ag_at hag 76 0 (by decide +kernel)]; omega) | exact sq_m (fun h h1 _ => sq_pl4_same (sq_g hc8) (sq_has16 hbk 4 (by decide) (by decide)) (h1 (by decide))) | (have hag := ‹mq_ag _ _ _›; rw [mq_ag_at hag 69 0 (by decide +kernel), mq_ag_at hag 76 0 (by decide +kernel)]; exact sq_m (fun h h1 _ => sq_pl4_same (sq_g hc8) (sq_has16 hbk 4 (by decide) (by decide)) (h1 (by decide)))) | (have hx := sq_g (p := ∀ h : sq_Ro, h 34 = _ + 1 → sq_pl h _ 4) (by assumption); exact sq_m (fun h _ h2 => hx h (by first | omega | (have := h2 rfl; omega))))
    refine List.forall_mem_cons.mpr ⟨?_, ?_⟩
    · intro N l st ρ' μ' cs hJ
      obtain ⟨l0, rfl, hJ0⟩ := mq_tZ_spec hJ
      clear hJ
      obtain ⟨v1, l1, rfl, hJ1⟩ := mq_tI_spec hJ0
      clear hJ0
      obtain ⟨v2, l2, rfl, hJ2⟩ := mq_tI_spec hJ1
      clear hJ1
      obtain ⟨v3, l3, rfl, hJ3⟩ := mq_tI_spec hJ2
      clear hJ2
      obtain ⟨l4, rfl, hJ4⟩ := mq_tN_spec hJ3
      clear hJ3
      obtain ⟨rfl, hJz⟩ := mq_t0_spec hJ4
      clear hJ4
      obtain ⟨rfl, rfl, rfl, hc0, hc1, hc2, hc3, hc4, hc5, hc6, hc7, hc8, hc9, hc10, hc11, hm0, hm1⟩ := hJz
      intro hbk hrl
      obtain ⟨⟨hl1a, hl1b⟩, ⟨hl2a, hl2b⟩, ⟨hl3a, hl3b⟩, -⟩ := hrl
      subst hc0
      subst hc1
      repeat' (first | refine And.intro ?_ ?_ | intro _)
      all_goals try simp only [Int.reduceToNat, Int.reduceAdd, mq_up_f, mq_up_s, mq_up_e, ne_eq, Nat.reduceEqDiff, not_false_eq_true, true_and, and_true, false_and, and_false, false_or, or_false, true_or, or_true, true_implies] at *
      all_goals first | omega | rfl | exact trivial | assumption | (have hag := ‹mq_ag _ _ _›; rw [mq_ag_at hag 69 0 (by decide +kernel)]; omega) | (have hag := ‹mq_ag _ _ _›; rw [mq_ag_at hag 69 0 (by decide +kernel), mq_ag_at hag 76 0 (by decide +kernel)]; assumption) | (have hag := ‹mq_ag _ _ _›; rw [mq_ag_at hag 76 0 (by decide +kernel)]; omega) | (have hag := ‹mq_ag _ _ _›; rw [mq_up_row, if_neg (by omega), mq_ag_at hag 76 0 (by decide +kernel)]; omega) | exact sq_m (fun h h1 _ => sq_pl4_same (sq_g hc8) (sq_has16 hbk 4 (by decide) (by decide)) (h1 (by decide))) | (have hag := ‹mq_ag _ _ _›; rw [mq_ag_at hag 69 0 (by decide +kernel), mq_ag_at hag 76 0 (by decide +kernel)]; exact sq_m (fun h h1 _ => sq_pl4_same (sq_g hc8) (sq_has16 hbk 4 (by decide) (by decide)) (h1 (by decide)))) | (have hx := sq_g (p := ∀ h : sq_Ro, h 34 = _ + 1 → sq_pl h _ 4) (by assumption); exact sq_m (fun h _ h2 => hx h (by first | omega | (have := h2 rfl; omega))))
    refine List.forall_mem_cons.mpr ⟨?_, ?_⟩
    · intro N l st ρ' μ' cs hJ
      obtain ⟨l0, rfl, hJ0⟩ := mq_tZ_spec hJ
      clear hJ
      obtain ⟨v1, l1, rfl, hJ1⟩ := mq_tI_spec hJ0
      clear hJ0
      obtain ⟨v2, l2, rfl, hJ2⟩ := mq_tI_spec hJ1
      clear hJ1
      obtain ⟨v3, l3, rfl, hJ3⟩ := mq_tI_spec hJ2
      clear hJ2
      obtain ⟨l4, rfl, hJ4⟩ := mq_tN_spec hJ3
      clear hJ3
      obtain ⟨rfl, hJz⟩ := mq_t0_spec hJ4
      clear hJ4
      obtain ⟨rfl, rfl, rfl, hc0, hc1, hc2, hc3, hc4, hc5, hc6, hc7, hc8, hc9, hc10, hc11, hm0, hm1⟩ := hJz
      intro hbk hrl
      obtain ⟨⟨hl1a, hl1b⟩, ⟨hl2a, hl2b⟩, ⟨hl3a, hl3b⟩, -⟩ := hrl
      subst hc0
      subst hc1
      repeat' (first | refine And.intro ?_ ?_ | intro _)
      all_goals try simp only [Int.reduceToNat, Int.reduceAdd, mq_up_f, mq_up_s, mq_up_e, ne_eq, Nat.reduceEqDiff, not_false_eq_true, true_and, and_true, false_and, and_false, false_or, or_false, true_or, or_true, true_implies] at *
      all_goals first | omega | rfl | exact trivial | assumption | (have hag := ‹mq_ag _ _ _›; rw [mq_ag_at hag 69 0 (by decide +kernel)]; omega) | (have hag := ‹mq_ag _ _ _›; rw [mq_ag_at hag 69 0 (by decide +kernel), mq_ag_at hag 76 0 (by decide +kernel)]; assumption) | (have hag := ‹mq_ag _ _ _›; rw [mq_ag_at hag 76 0 (by decide +kernel)]; omega) | (have hag := ‹mq_ag _ _ _›; rw [mq_up_row, if_neg (by omega), mq_ag_at hag 76 0 (by decide +kernel)]; omega) | exact sq_m (fun h h1 _ => sq_pl4_same (sq_g hc8) (sq_has16 hbk 4 (by decide) (by decide)) (h1 (by decide))) | (have hag := ‹mq_ag _ _ _›; rw [mq_ag_at hag 69 0 (by decide +kernel), mq_ag_at hag 76 0 (by decide +kernel)]; exact sq_m (fun h h1 _ => sq_pl4_same (sq_g hc8) (sq_has16 hbk 4 (by decide) (by decide)) (h1 (by decide)))) | (have hx := sq_g (p := ∀ h : sq_Ro, h 34 = _ + 1 → sq_pl h _ 4) (by assumption); exact sq_m (fun h _ h2 => hx h (by first | omega | (have := h2 rfl; omega))))
    refine List.forall_mem_cons.mpr ⟨?_, ?_⟩
    · intro N l st ρ' μ' cs hJ
      obtain ⟨l0, rfl, hJ0⟩ := mq_tZ_spec hJ
      clear hJ
      obtain ⟨v1, l1, rfl, hJ1⟩ := mq_tI_spec hJ0
      clear hJ0
      obtain ⟨v2, l2, rfl, hJ2⟩ := mq_tI_spec hJ1
      clear hJ1
      obtain ⟨l3, rfl, hJ3⟩ := mq_tN_spec hJ2
      clear hJ2
      obtain ⟨l4, rfl, hJ4⟩ := mq_tN_spec hJ3
      clear hJ3
      obtain ⟨rfl, hJz⟩ := mq_t0_spec hJ4
      clear hJ4
      obtain ⟨rfl, rfl, rfl, hc0, hc1, hc2, hc3, hc4, hc5, hc6, hc7, hc8, hc9, hm0, hm1⟩ := hJz
      intro hbk hrl
      obtain ⟨⟨hl1a, hl1b⟩, ⟨hl2a, hl2b⟩, -⟩ := hrl
      subst hc0
      subst hc1
      repeat' (first | refine And.intro ?_ ?_ | intro _)
      all_goals try simp only [Int.reduceToNat, Int.reduceAdd, mq_up_f, mq_up_s, mq_up_e, ne_eq, Nat.reduceEqDiff, not_false_eq_true, true_and, and_true, false_and, and_false, false_or, or_false, true_or, or_true, true_implies] at *
      all_goals first | omega | rfl | exact trivial | assumption | (have hag := ‹mq_ag _ _ _›; rw [mq_ag_at hag 69 0 (by decide +kernel)]; omega) | (have hag := ‹mq_ag _ _ _›; rw [mq_ag_at hag 69 0 (by decide +kernel), mq_ag_at hag 76 0 (by decide +kernel)]; assumption) | (have hag := ‹mq_ag _ _ _›; rw [mq_ag_at hag 76 0 (by decide +kernel)]; omega) | (have hag := ‹mq_ag _ _ _›; rw [mq_up_row, if_neg (by omega), mq_ag_at hag 76 0 (by decide +kernel)]; omega) | exact sq_m (fun h h1 _ => sq_pl4_same (sq_g hc8) (sq_has16 hbk 4 (by decide) (by decide)) (h1 (by decide))) | (have hag := ‹mq_ag _ _ _›; rw [mq_ag_at hag 69 0 (by decide +kernel), mq_ag_at hag 76 0 (by decide +kernel)]; exact sq_m (fun h h1 _ => sq_pl4_same (sq_g hc8) (sq_has16 hbk 4 (by decide) (by decide)) (h1 (by decide)))) | (have hx := sq_g (p := ∀ h : sq_Ro, h 34 = _ + 1 → sq_pl h _ 4) (by assumption); exact sq_m (fun h _ h2 => hx h (by first | omega | (have := h2 rfl; omega))))
    refine List.forall_mem_cons.mpr ⟨?_, ?_⟩
    · intro N l st ρ' μ' cs hJ
      obtain ⟨l0, rfl, hJ0⟩ := mq_tZ_spec hJ
      clear hJ
      obtain ⟨v1, l1, rfl, hJ1⟩ := mq_tI_spec hJ0
      clear hJ0
      obtain ⟨v2, l2, rfl, hJ2⟩ := mq_tI_spec hJ1
      clear hJ1
      obtain ⟨l3, rfl, hJ3⟩ := mq_tN_spec hJ2
      clear hJ2
      obtain ⟨l4, rfl, hJ4⟩ := mq_tN_spec hJ3
      clear hJ3
      obtain ⟨rfl, hJz⟩ := mq_t0_spec hJ4
      clear hJ4
      obtain ⟨rfl, rfl, rfl, hc0, hc1, hc2, hc3, hc4, hc5, hc6, hc7, hc8, hc9, hm0, hm1⟩ := hJz
      intro hbk hrl
      obtain ⟨⟨hl1a, hl1b⟩, ⟨hl2a, hl2b⟩, -⟩ := hrl
      subst hc0
      subst hc1
      repeat' (first | refine And.intro ?_ ?_ | intro _)
      all_goals try simp only [Int.reduceToNat, Int.reduceAdd, mq_up_f, mq_up_s, mq_up_e, ne_eq, Nat.reduceEqDiff, not_false_eq_true, true_and, and_true, false_and, and_false, false_or, or_false, true_or, or_true, true_implies] at *
      all_goals first | omega | rfl | exact trivial | assumption | (have hag := ‹mq_ag _ _ _›; rw [mq_ag_at hag 69 0 (by decide +kernel)]; omega) | (have hag := ‹mq_ag _ _ _›; rw [mq_ag_at hag 69 0 (by decide +kernel), mq_ag_at hag 76 0 (by decide +kernel)]; assumption) | (have hag := ‹mq_ag _ _ _›; rw [mq_ag_at hag 76 0 (by decide +kernel)]; omega) | (have hag := ‹mq_ag _ _ _›; rw [mq_up_row, if_neg (by omega), mq_ag_at hag 76 0 (by decide +kernel)]; omega) | exact sq_m (fun h h1 _ => sq_pl4_same (sq_g hc8) (sq_has16 hbk 4 (by decide) (by decide)) (h1 (by decide))) | (have hag := ‹mq_ag _ _ _›; rw [mq_ag_at hag 69 0 (by decide +kernel), mq_ag_at hag 76 0 (by decide +kernel)]; exact sq_m (fun h h1 _ => sq_pl4_same (sq_g hc8) (sq_has16 hbk 4 (by decide) (by decide)) (h1 (by decide)))) | (have hx := sq_g (p := ∀ h : sq_Ro, h 34 = _ + 1 → sq_pl h _ 4) (by assumption); exact sq_m (fun h _ h2 => hx h (by first | omega | (have := h2 rfl; omega))))
    refine List.forall_mem_cons.mpr ⟨?_, ?_⟩
    · intro N l st ρ' μ' cs hJ
      obtain ⟨l0, rfl, hJ0⟩ := mq_tZ_spec hJ
      clear hJ
      obtain ⟨v1, l1, rfl, hJ1⟩ := mq_tI_spec hJ0
      clear hJ0
      obtain ⟨v2, l2, rfl, hJ2⟩ := mq_tI_spec hJ1
      clear hJ1
      obtain ⟨l3, rfl, hJ3⟩ := mq_tN_spec hJ2
      clear hJ2
      obtain ⟨l4, rfl, hJ4⟩ := mq_tN_spec hJ3
      clear hJ3
      obtain ⟨rfl, hJz⟩ := mq_t0_spec hJ4
      clear hJ4
      obtain ⟨rfl, rfl, rfl, hc0, hc1, hc2, hc3, hc4, hc5, hc6, hc7, hc8, hc9, hm0, hm1⟩ := hJz
      intro hbk hrl
      obtain ⟨⟨hl1a, hl1b⟩, ⟨hl2a, hl2b⟩, -⟩ := hrl
      subst hc0
      subst hc1
      repeat' (first | refine And.intro ?_ ?_ | intro _)
      all_goals try simp only [Int.reduceToNat, Int.reduceAdd, mq_up_f, mq_up_s, mq_up_e, ne_eq, Nat.reduceEqDiff, not_false_eq_true, true_and, and_true, false_and, and_false, false_or, or_false, true_or, or_true, true_implies] at *
      all_goals first | omega | rfl | exact trivial | assumption | (have hag := ‹mq_ag _ _ _›; rw [mq_ag_at hag 69 0 (by decide +kernel)]; omega) | (have hag := ‹mq_ag _ _ _›; rw [mq_ag_at hag 69 0 (by decide +kernel), mq_ag_at hag 76 0 (by decide +kernel)]; assumption) | (have hag := ‹mq_ag _ _ _›; rw [mq_ag_at hag 76 0 (by decide +kernel)]; omega) | (have hag := ‹mq_ag _ _ _›; rw [mq_up_row, if_neg (by omega), mq_ag_at hag 76 0 (by decide +kernel)]; omega) | exact sq_m (fun h h1 _ => sq_pl4_same (sq_g hc8) (sq_has16 hbk 4 (by decide) (by decide)) (h1 (by decide))) | (have hag := ‹mq_ag _ _ _›; rw [mq_ag_at hag 69 0 (by decide +kernel), mq_ag_at hag 76 0 (by decide +kernel)]; exact sq_m (fun h h1 _ => sq_pl4_same (sq_g hc8) (sq_has16 hbk 4 (by decide) (by decide)) (h1 (by decide)))) | (have hx := sq_g (p := ∀ h : sq_Ro, h 34 = _ + 1 → sq_pl h _ 4) (by assumption); exact sq_m (fun h _ h2 => hx h (by first | omega | (have := h2 rfl; omega))))
    refine List.forall_mem_cons.mpr ⟨?_, ?_⟩
    · intro N l st ρ' μ' cs hJ
      obtain ⟨l0, rfl, hJ0⟩ := mq_tZ_spec hJ
      clear hJ
      obtain ⟨v1, l1, rfl, hJ1⟩ := mq_tI_spec hJ0
      clear hJ0
      obtain ⟨v2, l2, rfl, hJ2⟩ := mq_tI_spec hJ1
      clear hJ1
      obtain ⟨v3, l3, rfl, hJ3⟩ := mq_tI_spec hJ2
      clear hJ2
      obtain ⟨l4, rfl, hJ4⟩ := mq_tN_spec hJ3
      clear hJ3
      obtain ⟨rfl, hJz⟩ := mq_t0_spec hJ4
      clear hJ4
      obtain ⟨rfl, rfl, rfl, hc0, hc1, hc2, hc3, hc4, hc5, hc6, hc7, hc8, hc9, hc10, hc11, hm0, hm1⟩ := hJz
      intro hbk hrl
      obtain ⟨⟨hl1a, hl1b⟩, ⟨hl2a, hl2b⟩, ⟨hl3a, hl3b⟩, -⟩ := hrl
      subst hc0
      subst hc1
      repeat' (first | refine And.intro ?_ ?_ | intro _)
      all_goals try simp only [Int.reduceToNat, Int.reduceAdd, mq_up_f, mq_up_s, mq_up_e, ne_eq, Nat.reduceEqDiff, not_false_eq_true, true_and, and_true, false_and, and_false, false_or, or_false, true_or, or_true, true_implies] at *
      all_goals first | omega | rfl | exact trivial | assumption | (have hag := ‹mq_ag _ _ _›; rw [mq_ag_at hag 69 0 (by decide +kernel)]; omega) | (have hag := ‹mq_ag _ _ _›; rw [mq_ag_at hag 69 0 (by decide +kernel), mq_ag_at hag 76 0 (by decide +kernel)]; assumption) | (have hag := ‹mq_ag _ _ _›; rw [mq_ag_at hag 76 0 (by decide +kernel)]; omega) | (have hag := ‹mq_ag _ _ _›; rw [mq_up_row, if_neg (by omega), mq_ag_at hag 76 0 (by decide +kernel)]; omega) | exact sq_m (fun h h1 _ => sq_pl4_same (sq_g hc8) (sq_has16 hbk 4 (by decide) (by decide)) (h1 (by decide))) | (have hag := ‹mq_ag _ _ _›; rw [mq_ag_at hag 69 0 (by decide +kernel), mq_ag_at hag 76 0 (by decide +kernel)]; exact sq_m (fun h h1 _ => sq_pl4_same (sq_g hc8) (sq_has16 hbk 4 (by decide) (by decide)) (h1 (by decide)))) | (have hx := sq_g (p := ∀ h : sq_Ro, h 34 = _ + 1 → sq_pl h _ 4) (by assumption); exact sq_m (fun h _ h2 => hx h (by first | omega | (have := h2 rfl; omega))))
    refine List.forall_mem_cons.mpr ⟨?_, ?_⟩
    · intro N l st ρ' μ' cs hJ
      obtain ⟨l0, rfl, hJ0⟩ := mq_tZ_spec hJ
      clear hJ
      obtain ⟨v1, l1, rfl, hJ1⟩ := mq_tI_spec hJ0
      clear hJ0
      obtain ⟨v2, l2, rfl, hJ2⟩ := mq_tI_spec hJ1
      clear hJ1
      obtain ⟨l3, rfl, hJ3⟩ := mq_tN_spec hJ2
      clear hJ2
      obtain ⟨l4, rfl, hJ4⟩ := mq_tN_spec hJ3
      clear hJ3
      obtain ⟨rfl, hJz⟩ := mq_t0_spec hJ4
      clear hJ4
      obtain ⟨rfl, rfl, rfl, hc0, hc1, hc2, hc3, hc4, hc5, hc6, hc7, hc8, hc9, hm0, hm1⟩ := hJz
      intro hbk hrl
      obtain ⟨⟨hl1a, hl1b⟩, ⟨hl2a, hl2b⟩, -⟩ := hrl
      subst hc0
      subst hc1
      repeat' (first | refine And.intro ?_ ?_ | intro _)
      all_goals try simp only [Int.reduceToNat, Int.reduceAdd, mq_up_f, mq_up_s, mq_up_e, ne_eq, Nat.reduceEqDiff, not_false_eq_true, true_and, and_true, false_and, and_false, false_or, or_false, true_or, or_true, true_implies] at *
      all_goals first | omega | rfl | exact trivial | assumption | (have hag := ‹mq_ag _ _ _›; rw [mq_ag_at hag 69 0 (by decide +kernel)]; omega) | (have hag := ‹mq_ag _ _ _›; rw [mq_ag_at hag 69 0 (by decide +kernel), mq_ag_at hag 76 0 (by decide +kernel)]; assumption) | (have hag := ‹mq_ag _ _ _›; rw [mq_ag_at hag 76 0 (by decide +kernel)]; omega) | (have hag := ‹mq_ag _ _ _›; rw [mq_up_row, if_neg (by omega), mq_ag_at hag 76 0 (by decide +kernel)]; omega) | exact sq_m (fun h h1 _ => sq_pl4_same (sq_g hc8) (sq_has16 hbk 4 (by decide) (by decide)) (h1 (by decide))) | (have hag := ‹mq_ag _ _ _›; rw [mq_ag_at hag 69 0 (by decide +kernel), mq_ag_at hag 76 0 (by decide +kernel)]; exact sq_m (fun h h1 _ => sq_pl4_same (sq_g hc8) (sq_has16 hbk 4 (by decide) (by decide)) (h1 (by decide)))) | (have hx := sq_g (p := ∀ h : sq_Ro, h 34 = _ + 1 → sq_pl h _ 4) (by assumption); exact sq_m (fun h _ h2 => hx h (by first | omega | (have := h2 rfl; omega))))
    refine List.forall_mem_cons.mpr ⟨?_, ?_⟩
    · intro N l st ρ' μ' cs hJ
      obtain ⟨l0, rfl, hJ0⟩ := mq_tZ_spec hJ
      clear hJ
      obtain ⟨v1, l1, rfl, hJ1⟩ := mq_tI_spec hJ0
      clear hJ0
      obtain ⟨v2, l2, rfl, hJ2⟩ := mq_tI_spec hJ1
      clear hJ1
      obtain ⟨l3, rfl, hJ3⟩ := mq_tN_spec hJ2
      clear hJ2
      obtain ⟨l4, rfl, hJ4⟩ := mq_tN_spec hJ3
      clear hJ3
      obtain ⟨rfl, hJz⟩ := mq_t0_spec hJ4
      clear hJ4
      obtain ⟨rfl, rfl, rfl, hc0, hc1, hc2, hc3, hc4, hc5, hc6, hc7, hc8, hc9, hm0, hm1⟩ := hJz
      intro hbk hrl
      obtain ⟨⟨hl1a, hl1b⟩, ⟨hl2a, hl2b⟩, -⟩ := hrl
      subst hc0
      subst hc1
      repeat' (first | refine And.intro ?_ ?_ | intro _)
      all_goals try simp only [Int.reduceToNat, Int.reduceAdd, mq_up_f, mq_up_s, mq_up_e, ne_eq, Nat.reduceEqDiff, not_false_eq_true, true_and, and_true, false_and, and_false, false_or, or_false, true_or, or_true, true_implies] at *
      all_goals first | omega | rfl | exact trivial | assumption | (have hag := ‹mq_ag _ _ _›; rw [mq_ag_at hag 69 0 (by decide +kernel)]; omega) | (have hag := ‹mq_ag _ _ _›; rw [mq_ag_at hag 69 0 (by decide +kernel), mq_ag_at hag 76 0 (by decide +kernel)]; assumption) | (have hag := ‹mq_ag _ _ _›; rw [mq_ag_at hag 76 0 (by decide +kernel)]; omega) | (have hag := ‹mq_ag _ _ _›; rw [mq_up_row, if_neg (by omega), mq_ag_at hag 76 0 (by decide +kernel)]; omega) | exact sq_m (fun h h1 _ => sq_pl4_same (sq_g hc8) (sq_has16 hbk 4 (by decide) (by decide)) (h1 (by decide))) | (have hag := ‹mq_ag _ _ _›; rw [mq_ag_at hag 69 0 (by decide +kernel), mq_ag_at hag 76 0 (by decide +kernel)]; exact sq_m (fun h h1 _ => sq_pl4_same (sq_g hc8) (sq_has16 hbk 4 (by decide) (by decide)) (h1 (by decide)))) | (have hx := sq_g (p := ∀ h : sq_Ro, h 34 = _ + 1 → sq_pl h _ 4) (by assumption); exact sq_m (fun h _ h2 => hx h (by first | omega | (have := h2 rfl; omega))))
    refine List.forall_mem_cons.mpr ⟨?_, ?_⟩
    · intro N l st ρ' μ' cs hJ
      obtain ⟨l0, rfl, hJ0⟩ := mq_tZ_spec hJ
      clear hJ
      obtain ⟨v1, l1, rfl, hJ1⟩ := mq_tI_spec hJ0
      clear hJ0
      obtain ⟨v2, l2, rfl, hJ2⟩ := mq_tI_spec hJ1
      clear hJ1
      obtain ⟨l3, rfl, hJ3⟩ := mq_tN_spec hJ2
      clear hJ2
      obtain ⟨l4, rfl, hJ4⟩ := mq_tN_spec hJ3
      clear hJ3
      obtain ⟨rfl, hJz⟩ := mq_t0_spec hJ4
      clear hJ4
      obtain ⟨rfl, rfl, rfl, hc0, hc1, hc2, hc3, hc4, hc5, hc6, hc7, hc8, hc9, hm0, hm1⟩ := hJz
      intro hbk hrl
      obtain ⟨⟨hl1a, hl1b⟩, ⟨hl2a, hl2b⟩, -⟩ := hrl
      subst hc0
      subst hc1
      repeat' (first | refine And.intro ?_ ?_ | intro _)
      all_goals try simp only [Int.reduceToNat, Int.reduceAdd, mq_up_f, mq_up_s, mq_up_e, ne_eq, Nat.reduceEqDiff, not_false_eq_true, true_and, and_true, false_and, and_false, false_or, or_false, true_or, or_true, true_implies] at *
      all_goals first | omega | rfl | exact trivial | assumption | (have hag := ‹mq_ag _ _ _›; rw [mq_ag_at hag 69 0 (by decide +kernel)]; omega) | (have hag := ‹mq_ag _ _ _›; rw [mq_ag_at hag 69 0 (by decide +kernel), mq_ag_at hag 76 0 (by decide +kernel)]; assumption) | (have hag := ‹mq_ag _ _ _›; rw [mq_ag_at hag 76 0 (by decide +kernel)]; omega) | (have hag := ‹mq_ag _ _ _›; rw [mq_up_row, if_neg (by omega), mq_ag_at hag 76 0 (by decide +kernel)]; omega) | exact sq_m (fun h h1 _ => sq_pl4_same (sq_g hc8) (sq_has16 hbk 4 (by decide) (by decide)) (h1 (by decide))) | (have hag := ‹mq_ag _ _ _›; rw [mq_ag_at hag 69 0 (by decide +kernel), mq_ag_at hag 76 0 (by decide +kernel)]; exact sq_m (fun h h1 _ => sq_pl4_same (sq_g hc8) (sq_has16 hbk 4 (by decide) (by decide)) (h1 (by decide)))) | (have hx := sq_g (p := ∀ h : sq_Ro, h 34 = _ + 1 → sq_pl h _ 4) (by assumption); exact sq_m (fun h _ h2 => hx h (by first | omega | (have := h2 rfl; omega))))
    refine List.forall_mem_cons.mpr ⟨?_, ?_⟩
    · intro N l st ρ' μ' cs hJ
      obtain ⟨l0, rfl, hJ0⟩ := mq_tZ_spec hJ
      clear hJ
      obtain ⟨v1, l1, rfl, hJ1⟩ := mq_tI_spec hJ0
      clear hJ0
      obtain ⟨v2, l2, rfl, hJ2⟩ := mq_tI_spec hJ1
      clear hJ1
      obtain ⟨l3, rfl, hJ3⟩ := mq_tN_spec hJ2
      clear hJ2
      obtain ⟨l4, rfl, hJ4⟩ := mq_tN_spec hJ3
      clear hJ3
      obtain ⟨rfl, hJz⟩ := mq_t0_spec hJ4
      clear hJ4
      obtain ⟨rfl, rfl, rfl, hc0, hc1, hc2, hc3, hc4, hc5, hc6, hc7, hc8, hc9, hc10, hm0, hm1⟩ := hJz
      intro hbk hrl
      obtain ⟨⟨hl1a, hl1b⟩, ⟨hl2a, hl2b⟩, -⟩ := hrl
      subst hc0
      subst hc1
      repeat' (first | refine And.intro ?_ ?_ | intro _)
      all_goals try simp only [Int.reduceToNat, Int.reduceAdd, mq_up_f, mq_up_s, mq_up_e, ne_eq, Nat.reduceEqDiff, not_false_eq_true, true_and, and_true, false_and, and_false, false_or, or_false, true_or, or_true, true_implies] at *
      all_goals first | omega | rfl | exact trivial | assumption | (have hag := ‹mq_ag _ _ _›; rw [mq_ag_at hag 69 0 (by decide +kernel)]; omega) | (have hag := ‹mq_ag _ _ _›; rw [mq_ag_at hag 69 0 (by decide +kernel), mq_ag_at hag 76 0 (by decide +kernel)]; assumption) | (have hag := ‹mq_ag _ _ _›; rw [mq_ag_at hag 76 0 (by decide +kernel)]; omega) | (have hag := ‹mq_ag _ _ _›; rw [mq_up_row, if_neg (by omega), mq_ag_at hag 76 0 (by decide +kernel)]; omega) | exact sq_m (fun h h1 _ => sq_pl4_same (sq_g hc9) (sq_has16 hbk 4 (by decide) (by decide)) (h1 (by decide))) | (have hag := ‹mq_ag _ _ _›; rw [mq_ag_at hag 69 0 (by decide +kernel), mq_ag_at hag 76 0 (by decide +kernel)]; exact sq_m (fun h h1 _ => sq_pl4_same (sq_g hc9) (sq_has16 hbk 4 (by decide) (by decide)) (h1 (by decide)))) | (have hx := sq_g (p := ∀ h : sq_Ro, h 34 = _ + 1 → sq_pl h _ 4) (by assumption); exact sq_m (fun h _ h2 => hx h (by first | omega | (have := h2 rfl; omega))))
    refine List.forall_mem_cons.mpr ⟨?_, ?_⟩
    · intro N l st ρ' μ' cs hJ
      obtain ⟨l0, rfl, hJ0⟩ := mq_tZ_spec hJ
      clear hJ
      obtain ⟨v1, l1, rfl, hJ1⟩ := mq_tI_spec hJ0
      clear hJ0
      obtain ⟨v2, l2, rfl, hJ2⟩ := mq_tI_spec hJ1
      clear hJ1
      obtain ⟨l3, rfl, hJ3⟩ := mq_tN_spec hJ2
      clear hJ2
      obtain ⟨l4, rfl, hJ4⟩ := mq_tN_spec hJ3
      clear hJ3
      obtain ⟨rfl, hJz⟩ := mq_t0_spec hJ4
      clear hJ4
      obtain ⟨rfl, rfl, rfl, hc0, hc1, hc2, hc3, hc4, hc5, hc6, hc7, hc8, hc9, hc10, hc11, hc12, hc13, hc14, hc15, hc16, hm0, hm1⟩ := hJz
      intro hbk hrl
      obtain ⟨⟨hl1a, hl1b⟩, ⟨hl2a, hl2b⟩, -⟩ := hrl
      subst hc0
      repeat' (first | refine And.intro ?_ ?_ | intro _)
      all_goals try simp only [Int.reduceToNat, Int.reduceAdd, mq_up_f, mq_up_s, mq_up_e, ne_eq, Nat.reduceEqDiff, not_false_eq_true, true_and, and_true, false_and, and_false, false_or, or_false, true_or, or_true, true_implies] at *
      all_goals first | omega | rfl | exact trivial | assumption | exact sq_m (sq_g hc15 _ (fun h => by rw [mq_up_row, if_neg (by omega)]) (fun h => by rw [mq_up_row, if_pos (by omega)]; omega)) | exact sq_m (sq_inv_hi (sq_g hc16) (sq_has16 hbk) (fun x hx => by rw [mq_up_row, if_neg (by omega)]) (fun _ _ => rfl))
    exact fun _ h => absurd h List.not_mem_nil
theorem mw0_m_clause : mq_mlA cq_m_clause 0 := ⟨kw_1152, ⟨by decide +kernel, by decide +kernel⟩, by decide +kernel, kw_1153, kw_1154, kw_771, 60, by decide +kernel, fun as ρ μ h => by obtain ⟨nw, sp, tl, tx, al⟩ := ρ; obtain ⟨t, e, _⟩ := mq_pZ_spec h; exact ⟨0, t, e⟩⟩
def pq_m_line0 : List mq_E := [(0, false, .aload 0), (1, false, .goto_w 10344947), (4, false, .invokestatic 0), (7, false, .ifCond .eq (Int.ofNat 14)), (10, false, .iconst 0), (11, false, .goto (Int.ofNat 100)), (14, false, .aload 0), (15, false, .goto_w 16922), (18, false, .invokestatic 0), (21, false, .ifCond .eq (Int.ofNat 28)), (24, false, .iconst 1), (25, false, .goto (Int.ofNat 100)), (28, false, .aload 0), (29, false, .goto_w 6564179), (32, false, .invokestatic 0), (35, false, .ifCond .eq (Int.ofNat 42)), (38, false, .iconst 2), (39, false, .goto (Int.ofNat 100)), (42, false, .aload 0), (43, false, .goto_w 172039804375), (46, false, .invokestatic 0), (49, false, .ifCond .eq (Int.ofNat 56)), (52, false, .iconst 3), (53, false, .goto (Int.ofNat 100)), (56, false, .aload 0), (57, false, .goto_w 223456), (60, false, .invokestatic 0), (63, false, .ifCond .eq (Int.ofNat 70)), (66, false, .iconst 4), (67, false, .goto (Int.ofNat 100)), (70, false, .aload 0), (71, false, .goto_w 10984100), (74, false, .invokestatic 0), (77, false, .ifCond .eq (Int.ofNat 84)), (80, false, .iconst 5), (81, false, .goto (Int.ofNat 100)), (84, false, .aload 0), (85, false, .goto_w 1890386), (88, false, .invokestatic 0), (91, false, .ifCond .eq (Int.ofNat 99)), (94, false, .iconst 6), (96, false, .goto (Int.ofNat 100)), (99, false, .iconst (-1)), (100, false, .istore 1), (101, true, .iload 1), (102, false, .iconst (-1)), (103, false, .if_icmp .ne (Int.ofNat 111)), (106, false, .aload 0), (107, false, .iconst 1), (108, false, .invokestatic 1), (111, true, .iload 1), (112, false, .iconst 6), (114, false, .if_icmp .ne (Int.ofNat 130)), (117, false, .aload 0), (118, false, .iconst 5), (119, false, .invokestatic 2), (122, false, .ifCond .ne (Int.ofNat 130)), (125, false, .aload 0), (126, false, .iconst 2), (127, false, .invokestatic 1), (130, true, .aload 0), (131, false, .invokeinterface 11 12), (134, false, .ifCond .ne (Int.ofNat 154)), (137, false, .aload 0), (138, false, .iload 1), (139, false, .invokestatic 2), (142, false, .iload 1), (143, false, .invokestatic 3), (146, false, .if_icmp .ne (Int.ofNat 154)), (149, false, .aload 0), (150, false, .iconst 3), (151, false, .invokestatic 1), (154, true, .aload 0), (155, false, .invokeinterface 11 12), (158, false, .ifCond .eq (Int.ofNat 162)), (161, false, .return_), (162, false, .aload 0), (163, false, .invokestatic 4), (166, true, .aload 0), (167, false, .iload 1), (168, false, .invokestatic 5), (171, false, .return_)]
def cq_m_line0 : mq_C := ((yX11_line0, cX11_line0, 2, none, { frames := 7, cells := 0, slots := 0, locals := 159 }), (1, 0, 0, 0), 150526584562974548033536, (fun as ρ μ => match ρ with
  | (nw, sp, tl, tx, al) => mq_pZ as 60 fun as => mq_p0 as (μ (60, 0) 7 ≤ μ (60, 0) 6 ∧ 0 ≤ μ (60, 0) 7 ∧ sq_bx (sq_pl (μ (69, 0)) (μ (76, 0)) 4) ∧ sq_bx (sq_inv (μ (69, 0)) (μ (76, 0))))),
  (fun as ρ μ r ρ' μ' => match as, ρ, ρ' with
  | [.inr (.inr (some (_, _)))], (nw, sp, tl, tx, al), (nw', sp', tl', tx', al') => [μ' (60, 0) 7 ≤ μ' (60, 0) 6, 0 ≤ μ' (60, 0) 7, μ (60, 0) 7 ≤ μ' (60, 0) 7, sq_bx (sq_pl (μ' (69, 0)) (μ' (76, 0)) 4), sq_bx (sq_inv (μ' (69, 0)) (μ' (76, 0)))]
  | _, _, _ => []))
def kq_m_line0 : List mq_V → mq_R → mq_M → List mq_Cu := fun as ρ μ => match as, ρ with
  | [.inr (.inr (some (_, _)))], (nw, sp, tl, tx, al) => [(101, [true, true], fun N l st ρ' μ' cs => mq_tZ l 60 fun l => mq_tI l fun v1 l => mq_t0 l (st = [] ∧ ρ' = (nw, sp, tl, tx, al) ∧ cs = 0 ∧ μ = μ' ∧ -1 ≤ v1 ∧ v1 ≤ 6 ∧ 0 ≤ (900 : Int) ∧ (900 : Int) < (N : Int))),
    (111, [true, true], fun N l st ρ' μ' cs => mq_tZ l 60 fun l => mq_tI l fun v1 l => mq_t0 l (st = [] ∧ ρ' = (nw, sp, tl, tx, al) ∧ cs = 0 ∧ μ' (60, 0) 7 ≤ μ' (60, 0) 6 ∧ 0 ≤ μ' (60, 0) 7 ∧ μ (60, 0) 7 ≤ μ' (60, 0) 7 ∧ sq_bx (sq_pl (μ' (69, 0)) (μ' (76, 0)) 4) ∧ sq_bx (sq_inv (μ' (69, 0)) (μ' (76, 0))) ∧ -1 ≤ v1 ∧ v1 ≤ 6 ∧ (v1 = -1 → ¬ μ' (60, 0) 12 = 0) ∧ 0 ≤ (800 : Int) ∧ (800 : Int) < (N : Int))),
    (130, [true, true], fun N l st ρ' μ' cs => mq_tZ l 60 fun l => mq_tI l fun v1 l => mq_t0 l (st = [] ∧ ρ' = (nw, sp, tl, tx, al) ∧ cs = 0 ∧ μ' (60, 0) 7 ≤ μ' (60, 0) 6 ∧ 0 ≤ μ' (60, 0) 7 ∧ μ (60, 0) 7 ≤ μ' (60, 0) 7 ∧ sq_bx (sq_pl (μ' (69, 0)) (μ' (76, 0)) 4) ∧ sq_bx (sq_inv (μ' (69, 0)) (μ' (76, 0))) ∧ -1 ≤ v1 ∧ v1 ≤ 6 ∧ (v1 = -1 → ¬ μ' (60, 0) 12 = 0) ∧ (v1 = 6 → ¬ μ' (60, 0) 12 = 0 ∨ 1 ≤ μ' (69, 0) 33) ∧ 0 ≤ (700 : Int) ∧ (700 : Int) < (N : Int))),
    (154, [true, true], fun N l st ρ' μ' cs => mq_tZ l 60 fun l => mq_tI l fun v1 l => mq_t0 l (st = [] ∧ ρ' = (nw, sp, tl, tx, al) ∧ cs = 0 ∧ μ' (60, 0) 7 ≤ μ' (60, 0) 6 ∧ 0 ≤ μ' (60, 0) 7 ∧ μ (60, 0) 7 ≤ μ' (60, 0) 7 ∧ sq_bx (sq_pl (μ' (69, 0)) (μ' (76, 0)) 4) ∧ sq_bx (sq_inv (μ' (69, 0)) (μ' (76, 0))) ∧ -1 ≤ v1 ∧ v1 ≤ 6 ∧ (v1 = -1 → ¬ μ' (60, 0) 12 = 0) ∧ (v1 = 6 → ¬ μ' (60, 0) 12 = 0 ∨ 1 ≤ μ' (69, 0) 33) ∧ (¬ μ' (60, 0) 12 = 0 ∨ ((v1 = 0 → μ' (69, 0) 28 < 8) ∧ (v1 = 1 → μ' (69, 0) 29 < 6) ∧ (v1 = 2 → μ' (69, 0) 30 < 6) ∧ (v1 = 3 → μ' (69, 0) 31 < 6) ∧ (v1 = 4 → μ' (69, 0) 32 < 4) ∧ (v1 = 5 → μ' (69, 0) 33 < 5) ∧ (v1 = 6 → μ' (69, 0) 34 < 16))) ∧ 0 ≤ (600 : Int) ∧ (600 : Int) < (N : Int))),
    (166, [true, true], fun N l st ρ' μ' cs => mq_tZ l 60 fun l => mq_tI l fun v1 l => mq_t0 l (st = [] ∧ ρ' = (nw, sp, tl, tx, al) ∧ cs = 0 ∧ μ' (60, 0) 7 ≤ μ' (60, 0) 6 ∧ 0 ≤ μ' (60, 0) 7 ∧ μ (60, 0) 7 ≤ μ' (60, 0) 7 ∧ sq_bx (sq_pl (μ' (69, 0)) (μ' (76, 0)) 4) ∧ sq_bx (sq_inv (μ' (69, 0)) (μ' (76, 0))) ∧ 0 ≤ v1 ∧ v1 ≤ 6 ∧ (v1 = 6 → 1 ≤ μ' (69, 0) 33) ∧ (v1 = 0 → μ' (69, 0) 28 < 8) ∧ (v1 = 1 → μ' (69, 0) 29 < 6) ∧ (v1 = 2 → μ' (69, 0) 30 < 6) ∧ (v1 = 3 → μ' (69, 0) 31 < 6) ∧ (v1 = 4 → μ' (69, 0) 32 < 4) ∧ (v1 = 5 → μ' (69, 0) 33 < 5) ∧ (v1 = 6 → μ' (69, 0) 34 < 16) ∧ 0 ≤ (500 : Int) ∧ (500 : Int) < (N : Int)))]
  | _, _ => []
set_option maxHeartbeats 16000000 in
set_option maxRecDepth 100000 in
theorem vq_m_line0 (lc : Launch) (h_m_is : mq_Ct lc cq_m_is) (h_m_fails : mq_Ct lc cq_m_fails) (h_m_many : mq_Ct lc cq_m_many) (h_m_most : mq_Ct lc cq_m_most) (h_m_next : mq_Ct lc cq_m_next) (h_m_clause : mq_Ct lc cq_m_clause) : mq_Ct lc cq_m_line0 := by
  refine mq_method (lc := lc) (P := pq_m_line0) (cl := [cq_m_is, cq_m_fails, cq_m_many, cq_m_most, cq_m_next, cq_m_clause]) (T := ([(172, 11, 12)], [], [(245, 10344947), (247, 16922), (249, 6564179), (251, 172039804375), (253, 223456), (255, 10984100), (257, 1890386)], [(178, 0, 0), (188, 1, 0), (202, 2, 0), (259, 3, 1), (182, 4, 0), (262, 5, 0)], [], [])) (fuel := 400) (cuts := kq_m_line0) (by decide) rfl ⟨rfl, rfl⟩ (List.forall_mem_cons.mpr ⟨h_m_is, (List.forall_mem_cons.mpr ⟨h_m_fails, (List.forall_mem_cons.mpr ⟨h_m_many, (List.forall_mem_cons.mpr ⟨h_m_most, (List.forall_mem_cons.mpr ⟨h_m_next, (List.forall_mem_cons.mpr ⟨h_m_clause, (fun _ h => absurd h List.not_mem_nil)⟩)⟩)⟩)⟩)⟩)⟩) ⟨(List.forall_mem_cons.mpr ⟨⟨_, rfl, by decide, kw_804⟩, (fun _ h => absurd h List.not_mem_nil)⟩), (fun _ h => absurd h List.not_mem_nil), (List.forall_mem_cons.mpr ⟨kw_1142, (List.forall_mem_cons.mpr ⟨kw_1143, (List.forall_mem_cons.mpr ⟨kw_1144, (List.forall_mem_cons.mpr ⟨kw_1145, (List.forall_mem_cons.mpr ⟨kw_1146, (List.forall_mem_cons.mpr ⟨kw_1147, (List.forall_mem_cons.mpr ⟨kw_1148, (fun _ h => absurd h List.not_mem_nil)⟩)⟩)⟩)⟩)⟩)⟩)⟩), (List.forall_mem_cons.mpr ⟨mq_ml0 rfl mw0_m_is kw_809, (List.forall_mem_cons.mpr ⟨mq_ml0 rfl mw0_m_fails kw_821, (List.forall_mem_cons.mpr ⟨mq_ml0 rfl mw0_m_many kw_1114, (List.forall_mem_cons.mpr ⟨mq_ml1 rfl mw1_m_most kw_1151, (List.forall_mem_cons.mpr ⟨mq_ml0 rfl mw0_m_next kw_813, (List.forall_mem_cons.mpr ⟨mq_ml0 rfl mw0_m_clause kw_1155, (fun _ h => absurd h List.not_mem_nil)⟩)⟩)⟩)⟩)⟩)⟩), (fun _ h => absurd h List.not_mem_nil), (fun _ h => absurd h List.not_mem_nil)⟩ (by decide +kernel) ⟨_, _, rfl⟩ ?_ ?_ ?_ ?_
  · intro as ρ μ h
    obtain ⟨nw, sp, tl, tx, al⟩ := ρ
    obtain ⟨as0, rfl, h0⟩ := mq_pZ_spec h
    clear h
    obtain ⟨rfl, hp⟩ := mq_p0_spec h0
    clear h0
    obtain ⟨hp0, hp1, hp2, hp3⟩ := hp
    rfl
  · intro as ρ μ h
    obtain ⟨nw, sp, tl, tx, al⟩ := ρ
    obtain ⟨as0, rfl, h0⟩ := mq_pZ_spec h
    clear h
    obtain ⟨rfl, hp⟩ := mq_p0_spec h0
    clear h0
    obtain ⟨hp0, hp1, hp2, hp3⟩ := hp
    intro hrg
    intro hbk
    have hk0 : 0 ≤ μ (60, 0) 12 ∧ μ (60, 0) 12 ≤ 3 := hbk (60, 0) 12
    have hk1 : 0 ≤ μ (69, 0) 33 ∧ μ (69, 0) 33 ≤ 5 := hbk (69, 0) 33
    have hk2 : 0 ≤ μ (69, 0) 28 ∧ μ (69, 0) 28 ≤ 8 := hbk (69, 0) 28
    have hk3 : 0 ≤ μ (69, 0) 29 ∧ μ (69, 0) 29 ≤ 6 := hbk (69, 0) 29
    have hk4 : 0 ≤ μ (69, 0) 30 ∧ μ (69, 0) 30 ≤ 6 := hbk (69, 0) 30
    have hk5 : 0 ≤ μ (69, 0) 31 ∧ μ (69, 0) 31 ≤ 6 := hbk (69, 0) 31
    have hk6 : 0 ≤ μ (69, 0) 32 ∧ μ (69, 0) 32 ≤ 4 := hbk (69, 0) 32
    have hk7 : 0 ≤ μ (69, 0) 34 ∧ μ (69, 0) 34 ≤ 16 := hbk (69, 0) 34
    have e0 : mq_l0 ([.inr (.inr (some (60, 0)))] : List mq_V) 2 = [some (.inr (.inr (some (60, 0)))), none] := rfl
    rw [e0]
    repeat' (first | refine And.intro ?_ ?_ | intro _)
    all_goals try simp only [Int.reduceToNat, Int.reduceAdd, mq_up_f, mq_up_s, mq_up_e, ne_eq, Nat.reduceEqDiff, not_false_eq_true, true_and, and_true, false_and, and_false, false_or, or_false, true_or, or_true, true_implies] at *
    all_goals first | omega | rfl | exact trivial | assumption
  · intro as ρ μ h
    obtain ⟨nw, sp, tl, tx, al⟩ := ρ
    obtain ⟨as0, rfl, h0⟩ := mq_pZ_spec h
    clear h
    obtain ⟨rfl, hp⟩ := mq_p0_spec h0
    clear h0
    obtain ⟨hp0, hp1, hp2, hp3⟩ := hp
    refine List.forall_mem_cons.mpr ⟨?_, ?_⟩
    · intro l st ρ' μ' cs hJ
      obtain ⟨l0, rfl, hJ0⟩ := mq_tZ_spec hJ
      clear hJ
      obtain ⟨v1, l1, rfl, hJ1⟩ := mq_tI_spec hJ0
      clear hJ0
      obtain ⟨rfl, hJz⟩ := mq_t0_spec hJ1
      clear hJ1
      obtain ⟨rfl, rfl, rfl, rfl, hc1, hc2, hm0, hm1⟩ := hJz
      omega
    refine List.forall_mem_cons.mpr ⟨?_, ?_⟩
    · intro l st ρ' μ' cs hJ
      obtain ⟨l0, rfl, hJ0⟩ := mq_tZ_spec hJ
      clear hJ
      obtain ⟨v1, l1, rfl, hJ1⟩ := mq_tI_spec hJ0
      clear hJ0
      obtain ⟨rfl, hJz⟩ := mq_t0_spec hJ1
      clear hJ1
      obtain ⟨rfl, rfl, rfl, hc0, hc1, hc2, hc3, hc4, hc5, hc6, hc7, hm0, hm1⟩ := hJz
      omega
    refine List.forall_mem_cons.mpr ⟨?_, ?_⟩
    · intro l st ρ' μ' cs hJ
      obtain ⟨l0, rfl, hJ0⟩ := mq_tZ_spec hJ
      clear hJ
      obtain ⟨v1, l1, rfl, hJ1⟩ := mq_tI_spec hJ0
      clear hJ0
      obtain ⟨rfl, hJz⟩ := mq_t0_spec hJ1
      clear hJ1
      obtain ⟨rfl, rfl, rfl, hc0, hc1, hc2, hc3, hc4, hc5, hc6, hc7, hc8, hm0, hm1⟩ := hJz
      omega
    refine List.forall_mem_cons.mpr ⟨?_, ?_⟩
    · intro l st ρ' μ' cs hJ
      obtain ⟨l0, rfl, hJ0⟩ := mq_tZ_spec hJ
      clear hJ
      obtain ⟨v1, l1, rfl, hJ1⟩ := mq_tI_spec hJ0
      clear hJ0
      obtain ⟨rfl, hJz⟩ := mq_t0_spec hJ1
      clear hJ1
      obtain ⟨rfl, rfl, rfl, hc0, hc1, hc2, hc3, hc4, hc5, hc6, hc7, hc8, hc9, hm0, hm1⟩ := hJz
      omega
    refine List.forall_mem_cons.mpr ⟨?_, ?_⟩
    · intro l st ρ' μ' cs hJ
      obtain ⟨l0, rfl, hJ0⟩ := mq_tZ_spec hJ
      clear hJ
      obtain ⟨v1, l1, rfl, hJ1⟩ := mq_tI_spec hJ0
      clear hJ0
      obtain ⟨rfl, hJz⟩ := mq_t0_spec hJ1
      clear hJ1
      obtain ⟨rfl, rfl, rfl, hc0, hc1, hc2, hc3, hc4, hc5, hc6, hc7, hc8, hc9, hc10, hc11, hc12, hc13, hc14, hm0, hm1⟩ := hJz
      omega
    exact fun _ h => absurd h List.not_mem_nil
  · intro as ρ μ h
    obtain ⟨nw, sp, tl, tx, al⟩ := ρ
    obtain ⟨as0, rfl, h0⟩ := mq_pZ_spec h
    clear h
    obtain ⟨rfl, hp⟩ := mq_p0_spec h0
    clear h0
    obtain ⟨hp0, hp1, hp2, hp3⟩ := hp
    intro hrg
    refine List.forall_mem_cons.mpr ⟨?_, ?_⟩
    · intro N l st ρ' μ' cs hJ
      obtain ⟨l0, rfl, hJ0⟩ := mq_tZ_spec hJ
      clear hJ
      obtain ⟨v1, l1, rfl, hJ1⟩ := mq_tI_spec hJ0
      clear hJ0
      obtain ⟨rfl, hJz⟩ := mq_t0_spec hJ1
      clear hJ1
      obtain ⟨rfl, rfl, rfl, rfl, hc1, hc2, hm0, hm1⟩ := hJz
      intro hbk hrl
      have hk0 : 0 ≤ μ (60, 0) 12 ∧ μ (60, 0) 12 ≤ 3 := hbk (60, 0) 12
      have hk1 : 0 ≤ μ (69, 0) 33 ∧ μ (69, 0) 33 ≤ 5 := hbk (69, 0) 33
      have hk2 : 0 ≤ μ (69, 0) 28 ∧ μ (69, 0) 28 ≤ 8 := hbk (69, 0) 28
      have hk3 : 0 ≤ μ (69, 0) 29 ∧ μ (69, 0) 29 ≤ 6 := hbk (69, 0) 29
      have hk4 : 0 ≤ μ (69, 0) 30 ∧ μ (69, 0) 30 ≤ 6 := hbk (69, 0) 30
      have hk5 : 0 ≤ μ (69, 0) 31 ∧ μ (69, 0) 31 ≤ 6 := hbk (69, 0) 31
      have hk6 : 0 ≤ μ (69, 0) 32 ∧ μ (69, 0) 32 ≤ 4 := hbk (69, 0) 32
      have hk7 : 0 ≤ μ (69, 0) 34 ∧ μ (69, 0) 34 ≤ 16 := hbk (69, 0) 34
      obtain ⟨⟨hl1a, hl1b⟩, -⟩ := hrl
      repeat' (first | refine And.intro ?_ ?_ | intro _)
      all_goals try simp only [Int.reduceToNat, Int.reduceAdd, mq_up_f, mq_up_s, mq_up_e, ne_eq, Nat.reduceEqDiff, not_false_eq_true, true_and, and_true, false_and, and_false, false_or, or_false, true_or, or_true, true_implies] at *
      all_goals first | omega | rfl | exact trivial | assumption | (have hag := ‹mq_ag _ _ _›; rw [mq_ag_at hag 69 0 (by decide +kernel)]; omega) | (have hag := ‹mq_ag _ _ _›; rw [mq_ag_at hag 69 0 (by decide +kernel), mq_ag_at hag 76 0 (by decide +kernel)]; assumption) | (have hag := ‹mq_ag _ _ _›; rw [mq_ag_at hag 76 0 (by decide +kernel)]; omega) | (have hag := ‹mq_ag _ _ _›; rw [mq_up_row, if_neg (by omega), mq_ag_at hag 76 0 (by decide +kernel)]; omega)
    refine List.forall_mem_cons.mpr ⟨?_, ?_⟩
    · intro N l st ρ' μ' cs hJ
      obtain ⟨l0, rfl, hJ0⟩ := mq_tZ_spec hJ
      clear hJ
      obtain ⟨v1, l1, rfl, hJ1⟩ := mq_tI_spec hJ0
      clear hJ0
      obtain ⟨rfl, hJz⟩ := mq_t0_spec hJ1
      clear hJ1
      obtain ⟨rfl, rfl, rfl, hc0, hc1, hc2, hc3, hc4, hc5, hc6, hc7, hm0, hm1⟩ := hJz
      intro hbk hrl
      have hk0 : 0 ≤ μ' (60, 0) 12 ∧ μ' (60, 0) 12 ≤ 3 := hbk (60, 0) 12
      have hk1 : 0 ≤ μ' (69, 0) 33 ∧ μ' (69, 0) 33 ≤ 5 := hbk (69, 0) 33
      have hk2 : 0 ≤ μ' (69, 0) 28 ∧ μ' (69, 0) 28 ≤ 8 := hbk (69, 0) 28
      have hk3 : 0 ≤ μ' (69, 0) 29 ∧ μ' (69, 0) 29 ≤ 6 := hbk (69, 0) 29
      have hk4 : 0 ≤ μ' (69, 0) 30 ∧ μ' (69, 0) 30 ≤ 6 := hbk (69, 0) 30
      have hk5 : 0 ≤ μ' (69, 0) 31 ∧ μ' (69, 0) 31 ≤ 6 := hbk (69, 0) 31
      have hk6 : 0 ≤ μ' (69, 0) 32 ∧ μ' (69, 0) 32 ≤ 4 := hbk (69, 0) 32
      have hk7 : 0 ≤ μ' (69, 0) 34 ∧ μ' (69, 0) 34 ≤ 16 := hbk (69, 0) 34
      obtain ⟨⟨hl1a, hl1b⟩, -⟩ := hrl
      repeat' (first | refine And.intro ?_ ?_ | intro _)
      all_goals try simp only [Int.reduceToNat, Int.reduceAdd, mq_up_f, mq_up_s, mq_up_e, ne_eq, Nat.reduceEqDiff, not_false_eq_true, true_and, and_true, false_and, and_false, false_or, or_false, true_or, or_true, true_implies] at *
      all_goals first | omega | rfl | exact trivial | assumption | (have hag := ‹mq_ag _ _ _›; rw [mq_ag_at hag 69 0 (by decide +kernel)]; omega) | (have hag := ‹mq_ag _ _ _›; rw [mq_ag_at hag 69 0 (by decide +kernel), mq_ag_at hag 76 0 (by decide +kernel)]; assumption) | (have hag := ‹mq_ag _ _ _›; rw [mq_ag_at hag 76 0 (by decide +kernel)]; omega) | (have hag := ‹mq_ag _ _ _›; rw [mq_up_row, if_neg (by omega), mq_ag_at hag 76 0 (by decide +kernel)]; omega)
    refine List.forall_mem_cons.mpr ⟨?_, ?_⟩
    · intro N l st ρ' μ' cs hJ
      obtain ⟨l0, rfl, hJ0⟩ := mq_tZ_spec hJ
      clear hJ
      obtain ⟨v1, l1, rfl, hJ1⟩ := mq_tI_spec hJ0
      clear hJ0
      obtain ⟨rfl, hJz⟩ := mq_t0_spec hJ1
      clear hJ1
      obtain ⟨rfl, rfl, rfl, hc0, hc1, hc2, hc3, hc4, hc5, hc6, hc7, hc8, hm0, hm1⟩ := hJz
      intro hbk hrl
      have hk0 : 0 ≤ μ' (60, 0) 12 ∧ μ' (60, 0) 12 ≤ 3 := hbk (60, 0) 12
      have hk1 : 0 ≤ μ' (69, 0) 33 ∧ μ' (69, 0) 33 ≤ 5 := hbk (69, 0) 33
      have hk2 : 0 ≤ μ' (69, 0) 28 ∧ μ' (69, 0) 28 ≤ 8 := hbk (69, 0) 28
      have hk3 : 0 ≤ μ' (69, 0) 29 ∧ μ' (69, 0) 29 ≤ 6 := hbk (69, 0) 29
      have hk4 : 0 ≤ μ' (69, 0) 30 ∧ μ' (69, 0) 30 ≤ 6 := hbk (69, 0) 30
      have hk5 : 0 ≤ μ' (69, 0) 31 ∧ μ' (69, 0) 31 ≤ 6 := hbk (69, 0) 31
      have hk6 : 0 ≤ μ' (69, 0) 32 ∧ μ' (69, 0) 32 ≤ 4 := hbk (69, 0) 32
      have hk7 : 0 ≤ μ' (69, 0) 34 ∧ μ' (69, 0) 34 ≤ 16 := hbk (69, 0) 34
      obtain ⟨⟨hl1a, hl1b⟩, -⟩ := hrl
      rcases (show v1 = -1 ∨ v1 = 0 ∨ v1 = 1 ∨ v1 = 2 ∨ v1 = 3 ∨ v1 = 4 ∨ v1 = 5 ∨ v1 = 6 by omega) with rfl | rfl | rfl | rfl | rfl | rfl | rfl | rfl
      all_goals repeat' (first | refine And.intro ?_ ?_ | intro _)
      all_goals try simp only [Int.reduceToNat, Int.reduceAdd, mq_up_f, mq_up_s, mq_up_e, ne_eq, Nat.reduceEqDiff, not_false_eq_true, true_and, and_true, false_and, and_false, false_or, or_false, true_or, or_true, true_implies] at *
      all_goals first | omega | rfl | exact trivial | assumption | (have hag := ‹mq_ag _ _ _›; rw [mq_ag_at hag 69 0 (by decide +kernel)]; omega) | (have hag := ‹mq_ag _ _ _›; rw [mq_ag_at hag 69 0 (by decide +kernel), mq_ag_at hag 76 0 (by decide +kernel)]; assumption) | (have hag := ‹mq_ag _ _ _›; rw [mq_ag_at hag 76 0 (by decide +kernel)]; omega) | (have hag := ‹mq_ag _ _ _›; rw [mq_up_row, if_neg (by omega), mq_ag_at hag 76 0 (by decide +kernel)]; omega)
    refine List.forall_mem_cons.mpr ⟨?_, ?_⟩
    · intro N l st ρ' μ' cs hJ
      obtain ⟨l0, rfl, hJ0⟩ := mq_tZ_spec hJ
      clear hJ
      obtain ⟨v1, l1, rfl, hJ1⟩ := mq_tI_spec hJ0
      clear hJ0
      obtain ⟨rfl, hJz⟩ := mq_t0_spec hJ1
      clear hJ1
      obtain ⟨rfl, rfl, rfl, hc0, hc1, hc2, hc3, hc4, hc5, hc6, hc7, hc8, hc9, hm0, hm1⟩ := hJz
      intro hbk hrl
      have hk0 : 0 ≤ μ' (60, 0) 12 ∧ μ' (60, 0) 12 ≤ 3 := hbk (60, 0) 12
      have hk1 : 0 ≤ μ' (69, 0) 33 ∧ μ' (69, 0) 33 ≤ 5 := hbk (69, 0) 33
      have hk2 : 0 ≤ μ' (69, 0) 28 ∧ μ' (69, 0) 28 ≤ 8 := hbk (69, 0) 28
      have hk3 : 0 ≤ μ' (69, 0) 29 ∧ μ' (69, 0) 29 ≤ 6 := hbk (69, 0) 29
      have hk4 : 0 ≤ μ' (69, 0) 30 ∧ μ' (69, 0) 30 ≤ 6 := hbk (69, 0) 30
      have hk5 : 0 ≤ μ' (69, 0) 31 ∧ μ' (69, 0) 31 ≤ 6 := hbk (69, 0) 31
      have hk6 : 0 ≤ μ' (69, 0) 32 ∧ μ' (69, 0) 32 ≤ 4 := hbk (69, 0) 32
      have hk7 : 0 ≤ μ' (69, 0) 34 ∧ μ' (69, 0) 34 ≤ 16 := hbk (69, 0) 34
      obtain ⟨⟨hl1a, hl1b⟩, -⟩ := hrl
      repeat' (first | refine And.intro ?_ ?_ | intro _)
      all_goals try simp only [Int.reduceToNat, Int.reduceAdd, mq_up_f, mq_up_s, mq_up_e, ne_eq, Nat.reduceEqDiff, not_false_eq_true, true_and, and_true, false_and, and_false, false_or, or_false, true_or, or_true, true_implies] at *
      all_goals first | omega | rfl | exact trivial | assumption | (have hag := ‹mq_ag _ _ _›; rw [mq_ag_at hag 69 0 (by decide +kernel)]; omega) | (have hag := ‹mq_ag _ _ _›; rw [mq_ag_at hag 69 0 (by decide +kernel), mq_ag_at hag 76 0 (by decide +kernel)]; assumption) | (have hag := ‹mq_ag _ _ _›; rw [mq_ag_at hag 76 0 (by decide +kernel)]; omega) | (have hag := ‹mq_ag _ _ _›; rw [mq_up_row, if_neg (by omega), mq_ag_at hag 76 0 (by decide +kernel)]; omega)
    refine List.forall_mem_cons.mpr ⟨?_, ?_⟩
    · intro N l st ρ' μ' cs hJ
      obtain ⟨l0, rfl, hJ0⟩ := mq_tZ_spec hJ
      clear hJ
      obtain ⟨v1, l1, rfl, hJ1⟩ := mq_tI_spec hJ0
      clear hJ0
      obtain ⟨rfl, hJz⟩ := mq_t0_spec hJ1
      clear hJ1
      obtain ⟨rfl, rfl, rfl, hc0, hc1, hc2, hc3, hc4, hc5, hc6, hc7, hc8, hc9, hc10, hc11, hc12, hc13, hc14, hm0, hm1⟩ := hJz
      intro hbk hrl
      have hk0 : 0 ≤ μ' (60, 0) 12 ∧ μ' (60, 0) 12 ≤ 3 := hbk (60, 0) 12
      have hk1 : 0 ≤ μ' (69, 0) 33 ∧ μ' (69, 0) 33 ≤ 5 := hbk (69, 0) 33
      have hk2 : 0 ≤ μ' (69, 0) 28 ∧ μ' (69, 0) 28 ≤ 8 := hbk (69, 0) 28
      have hk3 : 0 ≤ μ' (69, 0) 29 ∧ μ' (69, 0) 29 ≤ 6 := hbk (69, 0) 29
      have hk4 : 0 ≤ μ' (69, 0) 30 ∧ μ' (69, 0) 30 ≤ 6 := hbk (69, 0) 30
      have hk5 : 0 ≤ μ' (69, 0) 31 ∧ μ' (69, 0) 31 ≤ 6 := hbk (69, 0) 31
      have hk6 : 0 ≤ μ' (69, 0) 32 ∧ μ' (69, 0) 32 ≤ 4 := hbk (69, 0) 32
      have hk7 : 0 ≤ μ' (69, 0) 34 ∧ μ' (69, 0) 34 ≤ 16 := hbk (69, 0) 34
      obtain ⟨⟨hl1a, hl1b⟩, -⟩ := hrl
      repeat' (first | refine And.intro ?_ ?_ | intro _)
      all_goals try simp only [Int.reduceToNat, Int.reduceAdd, mq_up_f, mq_up_s, mq_up_e, ne_eq, Nat.reduceEqDiff, not_false_eq_true, true_and, and_true, false_and, and_false, false_or, or_false, true_or, or_true, true_implies] at *
      all_goals first | omega | rfl | exact trivial | assumption | (have hag := ‹mq_ag _ _ _›; rw [mq_ag_at hag 69 0 (by decide +kernel)]; omega) | (have hag := ‹mq_ag _ _ _›; rw [mq_ag_at hag 69 0 (by decide +kernel), mq_ag_at hag 76 0 (by decide +kernel)]; assumption) | (have hag := ‹mq_ag _ _ _›; rw [mq_ag_at hag 76 0 (by decide +kernel)]; omega) | (have hag := ‹mq_ag _ _ _›; rw [mq_up_row, if_neg (by omega), mq_ag_at hag 76 0 (by decide +kernel)]; omega)
    exact fun _ h => absurd h List.not_mem_nil
theorem mw0_m_line0 : mq_mlA cq_m_line0 0 := ⟨kw_1165, ⟨by decide +kernel, by decide +kernel⟩, by decide +kernel, kw_1166, kw_1167, kw_771, 60, by decide +kernel, fun as ρ μ h => by obtain ⟨nw, sp, tl, tx, al⟩ := ρ; obtain ⟨t, e, _⟩ := mq_pZ_spec h; exact ⟨0, t, e⟩⟩
def pq_m_line : List mq_E := [(0, false, .aload 0), (1, false, .iconst 0), (2, false, .multianewarray 11 0), (5, false, .aload 0), (6, false, .invokestatic 0), (9, true, .aload 0), (10, false, .invokestatic 1), (13, true, .aload 0), (14, false, .invokestatic 2), (17, false, .ifCond .eq (Int.ofNat 92)), (20, false, .aload 0), (21, false, .invokeinterface 11 8), (24, false, .ifCond .eq (Int.ofNat 92)), (27, false, .aload 0), (28, false, .invokeinterface 11 16), (31, false, .iconst 4), (32, false, .iaload), (33, false, .ifCond .ne (Int.ofNat 64)), (36, false, .aload 0), (37, false, .goto_w 243140), (40, false, .invokestatic 3), (43, true, .aload 0), (44, false, .invokeinterface 11 17), (47, false, .iconst 4), (48, false, .aload 0), (49, false, .goto_w 247516), (52, false, .iconst 20), (54, false, .iconst 400), (57, false, .invokestatic 4), (60, false, .iastore), (61, false, .goto (Int.ofNat 68)), (64, false, .aload 0), (65, false, .invokestatic 5), (68, true, .aload 0), (69, false, .invokestatic 2), (72, false, .ifCond .eq (Int.ofNat 79)), (75, false, .aload 0), (76, false, .invokestatic 6), (79, false, .aload 0), (80, false, .invokeinterface 11 16), (83, false, .iconst 4), (84, false, .dup2), (85, false, .iaload), (86, false, .iconst 1), (87, false, .fadd), (88, false, .iastore), (89, false, .goto (Int.ofNat 13)), (92, false, .aload 0), (93, false, .invokestatic 7), (96, true, .aload 0), (97, false, .invokeinterface 11 12), (100, false, .ifCond .eq (Int.ofNat 106)), (103, false, .iconst (-4)), (105, false, .ireturn), (106, false, .aload 0), (107, false, .iconst 4), (108, false, .iconst 0), (109, false, .invokestatic 8), (112, false, .aload 0), (113, false, .invokeinterface 11 16), (116, false, .iconst 0), (117, false, .iaload), (118, false, .ireturn)]
def cq_m_line : mq_C := ((yX11_line, cX11_line, 1, (some .int), { frames := 8, cells := 0, slots := 0, locals := 180 }), (1, 1, 0, 0), 151043093397038415478784, (fun as ρ μ => match ρ with
  | (nw, sp, tl, tx, al) => mq_pZ as 60 fun as => mq_p0 as (sq_bx (sq_inv (μ (69, 0)) (μ (76, 0))) ∧ True)),
  (fun as ρ μ r ρ' μ' => match as, ρ, ρ' with
  | [.inr (.inr (some (_, _)))], (nw, sp, tl, tx, al), (nw', sp', tl', tx', al') => [sq_bx (sq_inv (μ' (69, 0)) (μ' (76, 0)))]
  | _, _, _ => []))
def kq_m_line : List mq_V → mq_R → mq_M → List mq_Cu := fun as ρ μ => match as, ρ with
  | [.inr (.inr (some (_, _)))], (nw, sp, tl, tx, al) => [(9, [true], fun N l st ρ' μ' cs => mq_tZ l 60 fun l => mq_t0 l (st = [] ∧ ρ' = (nw, sp, tl, tx, al) ∧ cs = 0 ∧ μ' (69, 0) 34 = 0 ∧ sq_bx (sq_inv (μ' (69, 0)) (μ' (76, 0))) ∧ 0 ≤ (1000000 : Int) ∧ (1000000 : Int) < (N : Int))),
    (13, [true], fun N l st ρ' μ' cs => mq_tZ l 60 fun l => mq_t0 l (st = [] ∧ ρ' = (nw, sp, tl, tx, al) ∧ cs = 0 ∧ μ' (60, 0) 7 ≤ μ' (60, 0) 6 ∧ 0 ≤ μ' (60, 0) 7 ∧ sq_bx (sq_pl (μ' (69, 0)) (μ' (76, 0)) 4) ∧ sq_bx (sq_inv (μ' (69, 0)) (μ' (76, 0))) ∧ 0 ≤ (((20 * (1600 - μ' (60, 0) 7) + 2000 + 4 * μ' (60, 0) 8 - 200 * μ' (60, 0) 12 : Int).toNat : Int) : Int) ∧ (((20 * (1600 - μ' (60, 0) 7) + 2000 + 4 * μ' (60, 0) 8 - 200 * μ' (60, 0) 12 : Int).toNat : Int) : Int) < (N : Int))),
    (43, [true], fun N l st ρ' μ' cs => mq_tZ l 60 fun l => mq_t0 l (st = [] ∧ ρ' = (nw, sp, tl, tx, al) ∧ cs = 0 ∧ μ' (60, 0) 7 ≤ μ' (60, 0) 6 ∧ 0 ≤ μ' (60, 0) 7 ∧ sq_bx (sq_pl (μ' (69, 0)) (μ' (76, 0)) 4) ∧ sq_bx (sq_inv (μ' (69, 0)) (μ' (76, 0))) ∧ 0 ≤ (((20 * (1600 - μ' (60, 0) 7) + 2000 + 3 : Int).toNat : Int) : Int) ∧ (((20 * (1600 - μ' (60, 0) 7) + 2000 + 3 : Int).toNat : Int) : Int) < (N : Int))),
    (68, [true], fun N l st ρ' μ' cs => mq_tZ l 60 fun l => mq_t0 l (st = [] ∧ ρ' = (nw, sp, tl, tx, al) ∧ cs = 0 ∧ μ' (60, 0) 7 ≤ μ' (60, 0) 6 ∧ 0 ≤ μ' (60, 0) 7 ∧ sq_bx (sq_pl (μ' (69, 0)) (μ' (76, 0)) 4) ∧ sq_bx (sq_inv (μ' (69, 0)) (μ' (76, 0))) ∧ 0 ≤ (((20 * (1600 - μ' (60, 0) 7) + 2000 + 2 : Int).toNat : Int) : Int) ∧ (((20 * (1600 - μ' (60, 0) 7) + 2000 + 2 : Int).toNat : Int) : Int) < (N : Int))),
    (96, [true], fun N l st ρ' μ' cs => mq_tZ l 60 fun l => mq_t0 l (st = [] ∧ ρ' = (nw, sp, tl, tx, al) ∧ cs = 0 ∧ sq_bx (sq_pl (μ' (69, 0)) (μ' (76, 0)) 4) ∧ sq_bx (sq_inv (μ' (69, 0)) (μ' (76, 0))) ∧ 0 ≤ (1 : Int) ∧ (1 : Int) < (N : Int)))]
  | _, _ => []
set_option maxHeartbeats 16000000 in
set_option maxRecDepth 100000 in
theorem vq_m_line (lc : Launch) (h_m_clears : mq_Ct lc cq_m_clears) (h_m_begins : mq_Ct lc cq_m_begins) (h_m_isGood : mq_Ct lc cq_m_isGood) (h_m_asks : mq_Ct lc cq_m_asks) (h_m_number_ : mq_Ct lc cq_m_number_) (h_m_line0 : mq_Ct lc cq_m_line0) (h_m_ends : mq_Ct lc cq_m_ends) (h_m_isOver : mq_Ct lc cq_m_isOver) (h_m_copyLine : mq_Ct lc cq_m_copyLine) : mq_Ct lc cq_m_line := by
  refine mq_method (lc := lc) (P := pq_m_line) (cl := [cq_m_clears, cq_m_begins, cq_m_isGood, cq_m_asks, cq_m_number_, cq_m_line0, cq_m_ends, cq_m_isOver, cq_m_copyLine]) (T := ([(120, 11, 0), (161, 11, 8), (31, 11, 16), (34, 11, 17), (172, 11, 12)], [], [(228, 247516), (271, 243140)], [(265, 0, 0), (268, 1, 0), (215, 2, 0), (191, 3, 0), (221, 4, 0), (273, 5, 0), (276, 6, 0), (279, 7, 0), (282, 8, 0)], [], [])) (fuel := 400) (cuts := kq_m_line) (by decide) rfl ⟨rfl, rfl⟩ (List.forall_mem_cons.mpr ⟨h_m_clears, (List.forall_mem_cons.mpr ⟨h_m_begins, (List.forall_mem_cons.mpr ⟨h_m_isGood, (List.forall_mem_cons.mpr ⟨h_m_asks, (List.forall_mem_cons.mpr ⟨h_m_number_, (List.forall_mem_cons.mpr ⟨h_m_line0, (List.forall_mem_cons.mpr ⟨h_m_ends, (List.forall_mem_cons.mpr ⟨h_m_isOver, (List.forall_mem_cons.mpr ⟨h_m_copyLine, (fun _ h => absurd h List.not_mem_nil)⟩)⟩)⟩)⟩)⟩)⟩)⟩)⟩)⟩) ⟨(List.forall_mem_cons.mpr ⟨⟨_, rfl, by decide, kw_773⟩, (List.forall_mem_cons.mpr ⟨⟨_, rfl, by decide, kw_794⟩, (List.forall_mem_cons.mpr ⟨⟨_, rfl, by decide, kw_846⟩, (List.forall_mem_cons.mpr ⟨⟨_, rfl, by decide, kw_832⟩, (List.forall_mem_cons.mpr ⟨⟨_, rfl, by decide, kw_804⟩, (fun _ h => absurd h List.not_mem_nil)⟩)⟩)⟩)⟩)⟩), (fun _ h => absurd h List.not_mem_nil), (List.forall_mem_cons.mpr ⟨kw_1128, (List.forall_mem_cons.mpr ⟨kw_1156, (fun _ h => absurd h List.not_mem_nil)⟩)⟩), (List.forall_mem_cons.mpr ⟨mq_ml0 rfl mw0_m_clears kw_1160, (List.forall_mem_cons.mpr ⟨mq_ml0 rfl mw0_m_begins kw_1164, (List.forall_mem_cons.mpr ⟨mq_ml0 rfl mw0_m_isGood kw_1137, (List.forall_mem_cons.mpr ⟨mq_ml0 rfl mw0_m_asks kw_825, (List.forall_mem_cons.mpr ⟨mq_ml0 rfl mw0_m_number_ kw_1118, (List.forall_mem_cons.mpr ⟨mq_ml0 rfl mw0_m_line0 kw_1168, (List.forall_mem_cons.mpr ⟨mq_ml0 rfl mw0_m_ends kw_1172, (List.forall_mem_cons.mpr ⟨mq_ml0 rfl mw0_m_isOver kw_1176, (List.forall_mem_cons.mpr ⟨mq_ml0 rfl mw0_m_copyLine kw_882, (fun _ h => absurd h List.not_mem_nil)⟩)⟩)⟩)⟩)⟩)⟩)⟩)⟩)⟩), (fun _ h => absurd h List.not_mem_nil), (fun _ h => absurd h List.not_mem_nil)⟩ (by decide +kernel) ⟨_, _, rfl⟩ ?_ ?_ ?_ ?_
  · intro as ρ μ h
    obtain ⟨nw, sp, tl, tx, al⟩ := ρ
    obtain ⟨as0, rfl, h0⟩ := mq_pZ_spec h
    clear h
    obtain ⟨rfl, hp⟩ := mq_p0_spec h0
    clear h0
    obtain ⟨hp0, hp1⟩ := hp
    rfl
  · intro as ρ μ h
    obtain ⟨nw, sp, tl, tx, al⟩ := ρ
    obtain ⟨as0, rfl, h0⟩ := mq_pZ_spec h
    clear h
    obtain ⟨rfl, hp⟩ := mq_p0_spec h0
    clear h0
    obtain ⟨hp0, hp1⟩ := hp
    intro hrg
    intro hbk
    have hk0 : 0 ≤ μ (60, 0) 12 ∧ μ (60, 0) 12 ≤ 3 := hbk (60, 0) 12
    have hk1 : 0 ≤ μ (60, 0) 8 ∧ μ (60, 0) 8 ≤ 4 := hbk (60, 0) 8
    have hk2 : 0 ≤ μ (60, 0) 7 ∧ μ (60, 0) 7 ≤ 1600 := hbk (60, 0) 7
    have e0 : mq_l0 ([.inr (.inr (some (60, 0)))] : List mq_V) 1 = [some (.inr (.inr (some (60, 0))))] := rfl
    rw [e0]
    repeat' (first | refine And.intro ?_ ?_ | intro _)
    all_goals try simp only [Int.reduceToNat, Int.reduceAdd, mq_up_f, mq_up_s, mq_up_e, ne_eq, Nat.reduceEqDiff, not_false_eq_true, true_and, and_true, false_and, and_false, false_or, or_false, true_or, or_true, true_implies] at *
    all_goals first | omega | rfl | exact trivial | assumption | (have hag := ‹mq_ag _ _ _›; exact sq_m (sq_inv_hi (sq_g hp0) (sq_has16 hbk) (sq_g (by assumption)) (fun x _ => by rw [mq_ag_at hag 76 0 (by decide +kernel)]; rfl)))
  · intro as ρ μ h
    obtain ⟨nw, sp, tl, tx, al⟩ := ρ
    obtain ⟨as0, rfl, h0⟩ := mq_pZ_spec h
    clear h
    obtain ⟨rfl, hp⟩ := mq_p0_spec h0
    clear h0
    obtain ⟨hp0, hp1⟩ := hp
    refine List.forall_mem_cons.mpr ⟨?_, ?_⟩
    · intro l st ρ' μ' cs hJ
      obtain ⟨l0, rfl, hJ0⟩ := mq_tZ_spec hJ
      clear hJ
      obtain ⟨rfl, hJz⟩ := mq_t0_spec hJ0
      clear hJ0
      obtain ⟨rfl, rfl, rfl, hc0, hc1, hm0, hm1⟩ := hJz
      omega
    refine List.forall_mem_cons.mpr ⟨?_, ?_⟩
    · intro l st ρ' μ' cs hJ
      obtain ⟨l0, rfl, hJ0⟩ := mq_tZ_spec hJ
      clear hJ
      obtain ⟨rfl, hJz⟩ := mq_t0_spec hJ0
      clear hJ0
      obtain ⟨rfl, rfl, rfl, hc0, hc1, hc2, hc3, hm0, hm1⟩ := hJz
      omega
    refine List.forall_mem_cons.mpr ⟨?_, ?_⟩
    · intro l st ρ' μ' cs hJ
      obtain ⟨l0, rfl, hJ0⟩ := mq_tZ_spec hJ
      clear hJ
      obtain ⟨rfl, hJz⟩ := mq_t0_spec hJ0
      clear hJ0
      obtain ⟨rfl, rfl, rfl, hc0, hc1, hc2, hc3, hm0, hm1⟩ := hJz
      omega
    refine List.forall_mem_cons.mpr ⟨?_, ?_⟩
    · intro l st ρ' μ' cs hJ
      obtain ⟨l0, rfl, hJ0⟩ := mq_tZ_spec hJ
      clear hJ
      obtain ⟨rfl, hJz⟩ := mq_t0_spec hJ0
      clear hJ0
      obtain ⟨rfl, rfl, rfl, hc0, hc1, hc2, hc3, hm0, hm1⟩ := hJz
      omega
    refine List.forall_mem_cons.mpr ⟨?_, ?_⟩
    · intro l st ρ' μ' cs hJ
      obtain ⟨l0, rfl, hJ0⟩ := mq_tZ_spec hJ
      clear hJ
      obtain ⟨rfl, hJz⟩ := mq_t0_spec hJ0
      clear hJ0
      obtain ⟨rfl, rfl, rfl, hc0, hc1, hm0, hm1⟩ := hJz
      omega
    exact fun _ h => absurd h List.not_mem_nil
  · intro as ρ μ h
    obtain ⟨nw, sp, tl, tx, al⟩ := ρ
    obtain ⟨as0, rfl, h0⟩ := mq_pZ_spec h
    clear h
    obtain ⟨rfl, hp⟩ := mq_p0_spec h0
    clear h0
    obtain ⟨hp0, hp1⟩ := hp
    intro hrg
    refine List.forall_mem_cons.mpr ⟨?_, ?_⟩
    · intro N l st ρ' μ' cs hJ
      obtain ⟨l0, rfl, hJ0⟩ := mq_tZ_spec hJ
      clear hJ
      obtain ⟨rfl, hJz⟩ := mq_t0_spec hJ0
      clear hJ0
      obtain ⟨rfl, rfl, rfl, hc0, hc1, hm0, hm1⟩ := hJz
      intro hbk hrl
      have hk0 : 0 ≤ μ' (60, 0) 12 ∧ μ' (60, 0) 12 ≤ 3 := hbk (60, 0) 12
      have hk1 : 0 ≤ μ' (60, 0) 8 ∧ μ' (60, 0) 8 ≤ 4 := hbk (60, 0) 8
      have hk2 : 0 ≤ μ' (60, 0) 7 ∧ μ' (60, 0) 7 ≤ 1600 := hbk (60, 0) 7
      repeat' (first | refine And.intro ?_ ?_ | intro _)
      all_goals try simp only [Int.reduceToNat, Int.reduceAdd, mq_up_f, mq_up_s, mq_up_e, ne_eq, Nat.reduceEqDiff, not_false_eq_true, true_and, and_true, false_and, and_false, false_or, or_false, true_or, or_true, true_implies] at *
      all_goals first | omega | rfl | exact trivial | assumption | (have hag := ‹mq_ag _ _ _›; rw [mq_ag_at hag 69 0 (by decide +kernel)]; omega) | (have hag := ‹mq_ag _ _ _›; rw [mq_ag_at hag 69 0 (by decide +kernel), mq_ag_at hag 76 0 (by decide +kernel)]; assumption) | (have hag := ‹mq_ag _ _ _›; rw [mq_ag_at hag 76 0 (by decide +kernel)]; omega) | (have hag := ‹mq_ag _ _ _›; rw [mq_up_row, if_neg (by omega), mq_ag_at hag 76 0 (by decide +kernel)]; omega) | (have hag := ‹mq_ag _ _ _›; rw [mq_ag_at hag 69 0 (by decide +kernel), mq_ag_at hag 76 0 (by decide +kernel)]; exact sq_m (sq_pl_none hc0))
    refine List.forall_mem_cons.mpr ⟨?_, ?_⟩
    · intro N l st ρ' μ' cs hJ
      obtain ⟨l0, rfl, hJ0⟩ := mq_tZ_spec hJ
      clear hJ
      obtain ⟨rfl, hJz⟩ := mq_t0_spec hJ0
      clear hJ0
      obtain ⟨rfl, rfl, rfl, hc0, hc1, hc2, hc3, hm0, hm1⟩ := hJz
      intro hbk hrl
      have hk0 : 0 ≤ μ' (60, 0) 12 ∧ μ' (60, 0) 12 ≤ 3 := hbk (60, 0) 12
      have hk1 : 0 ≤ μ' (60, 0) 8 ∧ μ' (60, 0) 8 ≤ 4 := hbk (60, 0) 8
      have hk2 : 0 ≤ μ' (60, 0) 7 ∧ μ' (60, 0) 7 ≤ 1600 := hbk (60, 0) 7
      repeat' (first | refine And.intro ?_ ?_ | intro _)
      all_goals try simp only [Int.reduceToNat, Int.reduceAdd, mq_up_f, mq_up_s, mq_up_e, ne_eq, Nat.reduceEqDiff, not_false_eq_true, true_and, and_true, false_and, and_false, false_or, or_false, true_or, or_true, true_implies] at *
      all_goals first | omega | rfl | exact trivial | assumption | (have hag := ‹mq_ag _ _ _›; rw [mq_ag_at hag 69 0 (by decide +kernel)]; omega) | (have hag := ‹mq_ag _ _ _›; rw [mq_ag_at hag 69 0 (by decide +kernel), mq_ag_at hag 76 0 (by decide +kernel)]; assumption) | (have hag := ‹mq_ag _ _ _›; rw [mq_ag_at hag 76 0 (by decide +kernel)]; omega) | (have hag := ‹mq_ag _ _ _›; rw [mq_up_row, if_neg (by omega), mq_ag_at hag 76 0 (by decide +kernel)]; omega)
    refine List.forall_mem_cons.mpr ⟨?_, ?_⟩
    · intro N l st ρ' μ' cs hJ
      obtain ⟨l0, rfl, hJ0⟩ := mq_tZ_spec hJ
      clear hJ
      obtain ⟨rfl, hJz⟩ := mq_t0_spec hJ0
      clear hJ0
      obtain ⟨rfl, rfl, rfl, hc0, hc1, hc2, hc3, hm0, hm1⟩ := hJz
      intro hbk hrl
      have hk0 : 0 ≤ μ' (60, 0) 12 ∧ μ' (60, 0) 12 ≤ 3 := hbk (60, 0) 12
      have hk1 : 0 ≤ μ' (60, 0) 8 ∧ μ' (60, 0) 8 ≤ 4 := hbk (60, 0) 8
      have hk2 : 0 ≤ μ' (60, 0) 7 ∧ μ' (60, 0) 7 ≤ 1600 := hbk (60, 0) 7
      repeat' (first | refine And.intro ?_ ?_ | intro _)
      all_goals try simp only [Int.reduceToNat, Int.reduceAdd, mq_up_f, mq_up_s, mq_up_e, ne_eq, Nat.reduceEqDiff, not_false_eq_true, true_and, and_true, false_and, and_false, false_or, or_false, true_or, or_true, true_implies] at *
      all_goals first | omega | rfl | exact trivial | assumption | (have hag := ‹mq_ag _ _ _›; rw [mq_ag_at hag 69 0 (by decide +kernel)]; omega) | (have hag := ‹mq_ag _ _ _›; rw [mq_ag_at hag 69 0 (by decide +kernel), mq_ag_at hag 76 0 (by decide +kernel)]; assumption) | (have hag := ‹mq_ag _ _ _›; rw [mq_ag_at hag 76 0 (by decide +kernel)]; omega) | (have hag := ‹mq_ag _ _ _›; rw [mq_up_row, if_neg (by omega), mq_ag_at hag 76 0 (by decide +kernel)]; omega)
    refine List.forall_mem_cons.mpr ⟨?_, ?_⟩
    · intro N l st ρ' μ' cs hJ
      obtain ⟨l0, rfl, hJ0⟩ := mq_tZ_spec hJ
      clear hJ
      obtain ⟨rfl, hJz⟩ := mq_t0_spec hJ0
      clear hJ0
      obtain ⟨rfl, rfl, rfl, hc0, hc1, hc2, hc3, hm0, hm1⟩ := hJz
      intro hbk hrl
      have hk0 : 0 ≤ μ' (60, 0) 12 ∧ μ' (60, 0) 12 ≤ 3 := hbk (60, 0) 12
      have hk1 : 0 ≤ μ' (60, 0) 8 ∧ μ' (60, 0) 8 ≤ 4 := hbk (60, 0) 8
      have hk2 : 0 ≤ μ' (60, 0) 7 ∧ μ' (60, 0) 7 ≤ 1600 := hbk (60, 0) 7
      repeat' (first | refine And.intro ?_ ?_ | intro _)
      all_goals try simp only [Int.reduceToNat, Int.reduceAdd, mq_up_f, mq_up_s, mq_up_e, ne_eq, Nat.reduceEqDiff, not_false_eq_true, true_and, and_true, false_and, and_false, false_or, or_false, true_or, or_true, true_implies] at *
      all_goals first | omega | rfl | exact trivial | assumption | (have hag := ‹mq_ag _ _ _›; rw [mq_ag_at hag 69 0 (by decide +kernel)]; omega) | (have hag := ‹mq_ag _ _ _›; rw [mq_ag_at hag 69 0 (by decide +kernel), mq_ag_at hag 76 0 (by decide +kernel)]; assumption) | (have hag := ‹mq_ag _ _ _›; rw [mq_ag_at hag 76 0 (by decide +kernel)]; omega) | (have hag := ‹mq_ag _ _ _›; rw [mq_up_row, if_neg (by omega), mq_ag_at hag 76 0 (by decide +kernel)]; omega)
    refine List.forall_mem_cons.mpr ⟨?_, ?_⟩
    · intro N l st ρ' μ' cs hJ
      obtain ⟨l0, rfl, hJ0⟩ := mq_tZ_spec hJ
      clear hJ
      obtain ⟨rfl, hJz⟩ := mq_t0_spec hJ0
      clear hJ0
      obtain ⟨rfl, rfl, rfl, hc0, hc1, hm0, hm1⟩ := hJz
      intro hbk hrl
      have hk0 : 0 ≤ μ' (60, 0) 12 ∧ μ' (60, 0) 12 ≤ 3 := hbk (60, 0) 12
      have hk1 : 0 ≤ μ' (60, 0) 8 ∧ μ' (60, 0) 8 ≤ 4 := hbk (60, 0) 8
      have hk2 : 0 ≤ μ' (60, 0) 7 ∧ μ' (60, 0) 7 ≤ 1600 := hbk (60, 0) 7
      repeat' (first | refine And.intro ?_ ?_ | intro _)
      all_goals try simp only [Int.reduceToNat, Int.reduceAdd, mq_up_f, mq_up_s, mq_up_e, ne_eq, Nat.reduceEqDiff, not_false_eq_true, true_and, and_true, false_and, and_false, false_or, or_false, true_or, or_true, true_implies] at *
      all_goals first | omega | rfl | exact trivial | assumption | exact sq_m (sq_inv_copy (a := 4) (b := 0) (sq_g hc1) (sq_g hc0) (sq_has16 hbk) ⟨by omega, by omega⟩ (by omega) (sq_g ‹_›) (sq_g ‹_›))
    exact fun _ h => absurd h List.not_mem_nil
