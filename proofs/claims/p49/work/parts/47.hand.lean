def pq_m_hard : List mq_E := [(0, false, .aload 0), (1, false, .iconst 0), (2, false, .multianewarray 11 0), (5, false, .aload 0), (6, false, .iload 1), (7, false, .iload 2), (8, false, .iload 3), (9, false, .iload 4), (11, false, .invokestatic 0), (14, false, .ifCond .ne (Int.ofNat 20)), (17, false, .iconst (-2)), (19, false, .ireturn), (20, false, .iconst 0), (21, false, .istore 5), (23, true, .iload 5), (25, false, .iconst 3), (26, false, .if_icmp .gt (Int.ofNat 62)), (29, false, .aload 0), (30, false, .iconst 16), (32, false, .iload 1), (33, false, .iload 2), (34, false, .iload 5), (36, false, .invokestatic 1), (39, false, .aload 0), (40, false, .iconst 16), (42, false, .iload 3), (43, false, .iload 4), (45, false, .invokestatic 2), (48, false, .iconst 1000000), (50, false, .if_icmp .ge (Int.ofNat 56)), (53, false, .iload 5), (55, false, .ireturn), (56, false, .iinc 5 1), (59, false, .goto (Int.ofNat 23)), (62, false, .iconst (-1)), (63, false, .ireturn)]
def cq_m_hard : mq_C := ((yX11_hard, cX11_hard, 6, (some .int), { frames := 5, cells := 0, slots := 0, locals := 131 }), (5, 1, 0, 0), 302232607825161900523520, (fun as ρ μ => match ρ with
  | (nw, sp, tl, tx, al) => mq_pZ as 60 fun as => mq_pI as fun k as => mq_pI as fun p as => mq_pI as fun y as => mq_pI as fun v as => mq_p0 as (True)),
  (fun as ρ μ r ρ' μ' => match as, ρ, ρ' with
  | [.inr (.inr (some (_, _))), .inl k, .inl p, .inl y, .inl v], (nw, sp, tl, tx, al), (nw', sp', tl', tx', al') => []
  | _, _, _ => []))
def kq_m_hard : List mq_V → mq_R → mq_M → List mq_Cu := fun as ρ μ => match as, ρ with
  | [.inr (.inr (some (_, _))), .inl k, .inl p, .inl y, .inl v], (nw, sp, tl, tx, al) => [(23, [true, true, true, true, true, true], fun N l st ρ' μ' cs => mq_tZ l 60 fun l => mq_tI l fun v1 l => mq_tI l fun v2 l => mq_tI l fun v3 l => mq_tI l fun v4 l => mq_tI l fun v5 l => mq_t0 l (st = [] ∧ ρ' = (nw, sp, tl, tx, al) ∧ cs = 0 ∧ v1 = k ∧ v2 = p ∧ v3 = y ∧ v4 = v ∧ 0 ≤ v5 ∧ v5 ≤ 4 ∧ 0 ≤ k ∧ k ≤ 3 ∧ 0 ≤ p ∧ p ≤ 5 ∧ 0 ≤ y ∧ y ≤ 400 ∧ 1 ≤ v ∧ v ≤ 15 ∧ 0 ≤ (4 - v5 : Int) ∧ (4 - v5 : Int) < (N : Int)))]
  | _, _ => []
set_option maxHeartbeats 16000000 in
set_option maxRecDepth 100000 in
theorem vq_m_hard (lc : Launch) (h_m_isHandled : mq_Ct lc cq_m_isHandled) (h_m_lays : mq_Ct lc cq_m_lays) (h_m_sumOf : mq_Ct lc cq_m_sumOf) : mq_Ct lc cq_m_hard := by
  refine mq_method (lc := lc) (P := pq_m_hard) (cl := [cq_m_isHandled, cq_m_lays, cq_m_sumOf]) (T := ([(120, 11, 0)], [(171, 1000000)], [], [(355, 0, 0), (359, 1, 0), (348, 2, 0)], [], [])) (fuel := 400) (cuts := kq_m_hard) (by decide) rfl ⟨rfl, rfl⟩ (List.forall_mem_cons.mpr ⟨h_m_isHandled, (List.forall_mem_cons.mpr ⟨h_m_lays, (List.forall_mem_cons.mpr ⟨h_m_sumOf, (fun _ h => absurd h List.not_mem_nil)⟩)⟩)⟩) ⟨(List.forall_mem_cons.mpr ⟨⟨_, rfl, by decide, kw_773⟩, (fun _ h => absurd h List.not_mem_nil)⟩), (List.forall_mem_cons.mpr ⟨kw_796, (fun _ h => absurd h List.not_mem_nil)⟩), (fun _ h => absurd h List.not_mem_nil), (List.forall_mem_cons.mpr ⟨mq_ml0 rfl mw0_m_isHandled kw_925, (List.forall_mem_cons.mpr ⟨mq_ml0 rfl mw0_m_lays kw_929, (List.forall_mem_cons.mpr ⟨mq_ml0 rfl mw0_m_sumOf kw_917, (fun _ h => absurd h List.not_mem_nil)⟩)⟩)⟩), (fun _ h => absurd h List.not_mem_nil), (fun _ h => absurd h List.not_mem_nil)⟩ (by decide +kernel) ⟨_, _, rfl⟩ ?_ ?_ ?_ ?_
  · intro as ρ μ h
    obtain ⟨nw, sp, tl, tx, al⟩ := ρ
    obtain ⟨as0, rfl, h0⟩ := mq_pZ_spec h
    clear h
    obtain ⟨k, as1, rfl, h1⟩ := mq_pI_spec h0
    clear h0
    obtain ⟨p, as2, rfl, h2⟩ := mq_pI_spec h1
    clear h1
    obtain ⟨y, as3, rfl, h3⟩ := mq_pI_spec h2
    clear h2
    obtain ⟨v, as4, rfl, h4⟩ := mq_pI_spec h3
    clear h3
    obtain ⟨rfl, hp⟩ := mq_p0_spec h4
    clear h4
    rfl
  · intro as ρ μ h
    obtain ⟨nw, sp, tl, tx, al⟩ := ρ
    obtain ⟨as0, rfl, h0⟩ := mq_pZ_spec h
    clear h
    obtain ⟨k, as1, rfl, h1⟩ := mq_pI_spec h0
    clear h0
    obtain ⟨p, as2, rfl, h2⟩ := mq_pI_spec h1
    clear h1
    obtain ⟨y, as3, rfl, h3⟩ := mq_pI_spec h2
    clear h2
    obtain ⟨v, as4, rfl, h4⟩ := mq_pI_spec h3
    clear h3
    obtain ⟨rfl, hp⟩ := mq_p0_spec h4
    clear h4
    intro hrg
    obtain ⟨⟨ha1a, ha1b⟩, ⟨ha2a, ha2b⟩, ⟨ha3a, ha3b⟩, ⟨ha4a, ha4b⟩, -⟩ := hrg
    intro hbk
    have e0 : mq_l0 ([.inr (.inr (some (60, 0))), .inl k, .inl p, .inl y, .inl v] : List mq_V) 6 = [some (.inr (.inr (some (60, 0)))), some (.inl k), some (.inl p), some (.inl y), some (.inl v), none] := rfl
    rw [e0]
    repeat' (first | refine And.intro ?_ ?_ | intro _)
    all_goals try simp only [Int.reduceToNat, Int.reduceAdd, mq_up_f, mq_up_s, mq_up_e, ne_eq, Nat.reduceEqDiff, not_false_eq_true, true_and, and_true, false_and, and_false, false_or, or_false, true_or, or_true, true_implies] at *
    all_goals first | omega | rfl | exact trivial | assumption
  · intro as ρ μ h
    obtain ⟨nw, sp, tl, tx, al⟩ := ρ
    obtain ⟨as0, rfl, h0⟩ := mq_pZ_spec h
    clear h
    obtain ⟨k, as1, rfl, h1⟩ := mq_pI_spec h0
    clear h0
    obtain ⟨p, as2, rfl, h2⟩ := mq_pI_spec h1
    clear h1
    obtain ⟨y, as3, rfl, h3⟩ := mq_pI_spec h2
    clear h2
    obtain ⟨v, as4, rfl, h4⟩ := mq_pI_spec h3
    clear h3
    obtain ⟨rfl, hp⟩ := mq_p0_spec h4
    clear h4
    refine List.forall_mem_cons.mpr ⟨?_, ?_⟩
    · intro l st ρ' μ' cs hJ
      obtain ⟨l0, rfl, hJ0⟩ := mq_tZ_spec hJ
      clear hJ
      obtain ⟨v1, l1, rfl, hJ1⟩ := mq_tI_spec hJ0
      clear hJ0
      obtain ⟨v2, l2, rfl, hJ2⟩ := mq_tI_spec hJ1
      clear hJ1
      obtain ⟨v3, l3, rfl, hJ3⟩ := mq_tI_spec hJ2
      clear hJ2
      obtain ⟨v4, l4, rfl, hJ4⟩ := mq_tI_spec hJ3
      clear hJ3
      obtain ⟨v5, l5, rfl, hJ5⟩ := mq_tI_spec hJ4
      clear hJ4
      obtain ⟨rfl, hJz⟩ := mq_t0_spec hJ5
      clear hJ5
      obtain ⟨rfl, rfl, rfl, hc0, hc1, hc2, hc3, hc4, hc5, hc6, hc7, hc8, hc9, hc10, hc11, hc12, hc13, hm0, hm1⟩ := hJz
      omega
    exact fun _ h => absurd h List.not_mem_nil
  · intro as ρ μ h
    obtain ⟨nw, sp, tl, tx, al⟩ := ρ
    obtain ⟨as0, rfl, h0⟩ := mq_pZ_spec h
    clear h
    obtain ⟨k, as1, rfl, h1⟩ := mq_pI_spec h0
    clear h0
    obtain ⟨p, as2, rfl, h2⟩ := mq_pI_spec h1
    clear h1
    obtain ⟨y, as3, rfl, h3⟩ := mq_pI_spec h2
    clear h2
    obtain ⟨v, as4, rfl, h4⟩ := mq_pI_spec h3
    clear h3
    obtain ⟨rfl, hp⟩ := mq_p0_spec h4
    clear h4
    intro hrg
    obtain ⟨⟨ha1a, ha1b⟩, ⟨ha2a, ha2b⟩, ⟨ha3a, ha3b⟩, ⟨ha4a, ha4b⟩, -⟩ := hrg
    refine List.forall_mem_cons.mpr ⟨?_, ?_⟩
    · intro N l st ρ' μ' cs hJ
      obtain ⟨l0, rfl, hJ0⟩ := mq_tZ_spec hJ
      clear hJ
      obtain ⟨v1, l1, rfl, hJ1⟩ := mq_tI_spec hJ0
      clear hJ0
      obtain ⟨v2, l2, rfl, hJ2⟩ := mq_tI_spec hJ1
      clear hJ1
      obtain ⟨v3, l3, rfl, hJ3⟩ := mq_tI_spec hJ2
      clear hJ2
      obtain ⟨v4, l4, rfl, hJ4⟩ := mq_tI_spec hJ3
      clear hJ3
      obtain ⟨v5, l5, rfl, hJ5⟩ := mq_tI_spec hJ4
      clear hJ4
      obtain ⟨rfl, hJz⟩ := mq_t0_spec hJ5
      clear hJ5
      obtain ⟨rfl, rfl, rfl, hc0, hc1, hc2, hc3, hc4, hc5, hc6, hc7, hc8, hc9, hc10, hc11, hc12, hc13, hm0, hm1⟩ := hJz
      intro hbk hrl
      obtain ⟨⟨hl1a, hl1b⟩, ⟨hl2a, hl2b⟩, ⟨hl3a, hl3b⟩, ⟨hl4a, hl4b⟩, ⟨hl5a, hl5b⟩, -⟩ := hrl
      repeat' (first | refine And.intro ?_ ?_ | intro _)
      all_goals try simp only [Int.reduceToNat, Int.reduceAdd, mq_up_f, mq_up_s, mq_up_e, ne_eq, Nat.reduceEqDiff, not_false_eq_true, true_and, and_true, false_and, and_false, false_or, or_false, true_or, or_true, true_implies] at *
      all_goals first | omega | rfl | exact trivial | assumption
    exact fun _ h => absurd h List.not_mem_nil
def pq_m_quick : List mq_E := [(0, false, .aload 0), (1, false, .iconst 0), (2, false, .multianewarray 11 0), (5, false, .aload 0), (6, false, .iload 1), (7, false, .iload 2), (8, false, .iload 3), (9, false, .iload 4), (11, false, .invokestatic 0), (14, false, .ifCond .ne (Int.ofNat 20)), (17, false, .iconst (-2)), (19, false, .ireturn), (20, false, .aload 0), (21, false, .iconst 1), (22, false, .multianewarray 11 29), (25, false, .aload 0), (26, false, .iconst 16), (28, false, .iload 1), (29, false, .iload 2), (30, false, .iconst 3), (31, false, .invokestatic 1), (34, false, .aload 0), (35, false, .iconst 0), (36, false, .multianewarray 11 29), (39, false, .aload 0), (40, false, .iconst 16), (42, false, .iload 3), (43, false, .iload 4), (45, false, .invokestatic 2), (48, false, .istore 5), (50, false, .iload 5), (52, false, .iconst 1000000), (54, false, .if_icmp .lt (Int.ofNat 61)), (57, false, .iconst (-1)), (58, false, .goto (Int.ofNat 63)), (61, false, .iload 5), (63, false, .ireturn)]
def cq_m_quick : mq_C := ((yX11_quick, cX11_quick, 6, (some .int), { frames := 5, cells := 0, slots := 0, locals := 131 }), (5, 1, 0, 0), 302232607825161900523520, (fun as ρ μ => match ρ with
  | (nw, sp, tl, tx, al) => mq_pZ as 60 fun as => mq_pI as fun k as => mq_pI as fun p as => mq_pI as fun y as => mq_pI as fun v as => mq_p0 as (True)),
  (fun as ρ μ r ρ' μ' => match as, ρ, ρ' with
  | [.inr (.inr (some (_, _))), .inl k, .inl p, .inl y, .inl v], (nw, sp, tl, tx, al), (nw', sp', tl', tx', al') => []
  | _, _, _ => []))
def kq_m_quick : List mq_V → mq_R → mq_M → List mq_Cu := fun as ρ μ => match as, ρ with
  | [.inr (.inr (some (_, _))), .inl k, .inl p, .inl y, .inl v], (nw, sp, tl, tx, al) => []
  | _, _ => []
set_option maxHeartbeats 16000000 in
set_option maxRecDepth 100000 in
theorem vq_m_quick (lc : Launch) (h_m_isHandled : mq_Ct lc cq_m_isHandled) (h_m_lays : mq_Ct lc cq_m_lays) (h_m_sumOf : mq_Ct lc cq_m_sumOf) : mq_Ct lc cq_m_quick := by
  refine mq_method (lc := lc) (P := pq_m_quick) (cl := [cq_m_isHandled, cq_m_lays, cq_m_sumOf]) (T := ([(120, 11, 0), (334, 11, 29)], [(171, 1000000)], [], [(355, 0, 0), (359, 1, 0), (348, 2, 0)], [], [])) (fuel := 400) (cuts := kq_m_quick) (by decide) rfl ⟨rfl, rfl⟩ (List.forall_mem_cons.mpr ⟨h_m_isHandled, (List.forall_mem_cons.mpr ⟨h_m_lays, (List.forall_mem_cons.mpr ⟨h_m_sumOf, (fun _ h => absurd h List.not_mem_nil)⟩)⟩)⟩) ⟨(List.forall_mem_cons.mpr ⟨⟨_, rfl, by decide, kw_773⟩, (List.forall_mem_cons.mpr ⟨⟨_, rfl, by decide, kw_900⟩, (fun _ h => absurd h List.not_mem_nil)⟩)⟩), (List.forall_mem_cons.mpr ⟨kw_796, (fun _ h => absurd h List.not_mem_nil)⟩), (fun _ h => absurd h List.not_mem_nil), (List.forall_mem_cons.mpr ⟨mq_ml0 rfl mw0_m_isHandled kw_925, (List.forall_mem_cons.mpr ⟨mq_ml0 rfl mw0_m_lays kw_929, (List.forall_mem_cons.mpr ⟨mq_ml0 rfl mw0_m_sumOf kw_917, (fun _ h => absurd h List.not_mem_nil)⟩)⟩)⟩), (fun _ h => absurd h List.not_mem_nil), (fun _ h => absurd h List.not_mem_nil)⟩ (by decide +kernel) ⟨_, _, rfl⟩ ?_ ?_ ?_ ?_
  · intro as ρ μ h
    obtain ⟨nw, sp, tl, tx, al⟩ := ρ
    obtain ⟨as0, rfl, h0⟩ := mq_pZ_spec h
    clear h
    obtain ⟨k, as1, rfl, h1⟩ := mq_pI_spec h0
    clear h0
    obtain ⟨p, as2, rfl, h2⟩ := mq_pI_spec h1
    clear h1
    obtain ⟨y, as3, rfl, h3⟩ := mq_pI_spec h2
    clear h2
    obtain ⟨v, as4, rfl, h4⟩ := mq_pI_spec h3
    clear h3
    obtain ⟨rfl, hp⟩ := mq_p0_spec h4
    clear h4
    rfl
  · intro as ρ μ h
    obtain ⟨nw, sp, tl, tx, al⟩ := ρ
    obtain ⟨as0, rfl, h0⟩ := mq_pZ_spec h
    clear h
    obtain ⟨k, as1, rfl, h1⟩ := mq_pI_spec h0
    clear h0
    obtain ⟨p, as2, rfl, h2⟩ := mq_pI_spec h1
    clear h1
    obtain ⟨y, as3, rfl, h3⟩ := mq_pI_spec h2
    clear h2
    obtain ⟨v, as4, rfl, h4⟩ := mq_pI_spec h3
    clear h3
    obtain ⟨rfl, hp⟩ := mq_p0_spec h4
    clear h4
    intro hrg
    obtain ⟨⟨ha1a, ha1b⟩, ⟨ha2a, ha2b⟩, ⟨ha3a, ha3b⟩, ⟨ha4a, ha4b⟩, -⟩ := hrg
    intro hbk
    have e0 : mq_l0 ([.inr (.inr (some (60, 0))), .inl k, .inl p, .inl y, .inl v] : List mq_V) 6 = [some (.inr (.inr (some (60, 0)))), some (.inl k), some (.inl p), some (.inl y), some (.inl v), none] := rfl
    rw [e0]
    repeat' (first | refine And.intro ?_ ?_ | intro _)
    all_goals try simp only [Int.reduceToNat, Int.reduceAdd, mq_up_f, mq_up_s, mq_up_e, ne_eq, Nat.reduceEqDiff, not_false_eq_true, true_and, and_true, false_and, and_false, false_or, or_false, true_or, or_true, true_implies] at *
    all_goals first | omega | rfl | exact trivial | assumption
  · intro as ρ μ h
    obtain ⟨nw, sp, tl, tx, al⟩ := ρ
    obtain ⟨as0, rfl, h0⟩ := mq_pZ_spec h
    clear h
    obtain ⟨k, as1, rfl, h1⟩ := mq_pI_spec h0
    clear h0
    obtain ⟨p, as2, rfl, h2⟩ := mq_pI_spec h1
    clear h1
    obtain ⟨y, as3, rfl, h3⟩ := mq_pI_spec h2
    clear h2
    obtain ⟨v, as4, rfl, h4⟩ := mq_pI_spec h3
    clear h3
    obtain ⟨rfl, hp⟩ := mq_p0_spec h4
    clear h4
    exact fun _ h => absurd h List.not_mem_nil
  · intro as ρ μ h
    obtain ⟨nw, sp, tl, tx, al⟩ := ρ
    obtain ⟨as0, rfl, h0⟩ := mq_pZ_spec h
    clear h
    obtain ⟨k, as1, rfl, h1⟩ := mq_pI_spec h0
    clear h0
    obtain ⟨p, as2, rfl, h2⟩ := mq_pI_spec h1
    clear h1
    obtain ⟨y, as3, rfl, h3⟩ := mq_pI_spec h2
    clear h2
    obtain ⟨v, as4, rfl, h4⟩ := mq_pI_spec h3
    clear h3
    obtain ⟨rfl, hp⟩ := mq_p0_spec h4
    clear h4
    intro hrg
    obtain ⟨⟨ha1a, ha1b⟩, ⟨ha2a, ha2b⟩, ⟨ha3a, ha3b⟩, ⟨ha4a, ha4b⟩, -⟩ := hrg
    exact fun _ h => absurd h List.not_mem_nil
def pq_m_jolt : List mq_E := [(0, false, .aload 0), (1, false, .iconst 0), (2, false, .multianewarray 11 0), (5, false, .aload 0), (6, false, .iload 1), (7, false, .iload 2), (8, false, .iload 3), (9, false, .iload 4), (11, false, .invokestatic 0), (14, false, .ifCond .ne (Int.ofNat 20)), (17, false, .iconst (-2)), (19, false, .ireturn), (20, false, .iconst (-1)), (21, false, .istore 5), (23, false, .iconst 0), (24, false, .istore 6), (26, true, .iload 6), (28, false, .iconst 15), (30, false, .if_icmp .gt (Int.ofNat 82)), (33, false, .iload 5), (35, false, .iconst (-1)), (36, false, .if_icmp .ne (Int.ofNat 82)), (39, false, .aload 0), (40, false, .iload 6), (42, false, .multianewarray 11 30), (45, false, .aload 0), (46, false, .iconst 16), (48, false, .iload 1), (49, false, .iload 2), (50, false, .iconst 3), (51, false, .invokestatic 1), (54, false, .aload 0), (55, false, .iconst 16), (57, false, .iload 3), (58, false, .iload 4), (60, false, .invokestatic 2), (63, false, .iconst 1000000), (65, false, .if_icmp .ge (Int.ofNat 73)), (68, false, .iload 6), (70, false, .goto (Int.ofNat 74)), (73, false, .iconst (-1)), (74, false, .istore 5), (76, false, .iinc 6 1), (79, false, .goto (Int.ofNat 26)), (82, false, .aload 0), (83, false, .iconst 15), (85, false, .multianewarray 11 30), (88, false, .iload 5), (90, false, .ireturn)]
def cq_m_jolt : mq_C := ((yX11_jolt, cX11_jolt, 7, (some .int), { frames := 5, cells := 0, slots := 0, locals := 131 }), (5, 1, 0, 0), 302232607825161900523520, (fun as ρ μ => match ρ with
  | (nw, sp, tl, tx, al) => mq_pZ as 60 fun as => mq_pI as fun k as => mq_pI as fun p as => mq_pI as fun y as => mq_pI as fun v as => mq_p0 as (True)),
  (fun as ρ μ r ρ' μ' => match as, ρ, ρ' with
  | [.inr (.inr (some (_, _))), .inl k, .inl p, .inl y, .inl v], (nw, sp, tl, tx, al), (nw', sp', tl', tx', al') => []
  | _, _, _ => []))
def kq_m_jolt : List mq_V → mq_R → mq_M → List mq_Cu := fun as ρ μ => match as, ρ with
  | [.inr (.inr (some (_, _))), .inl k, .inl p, .inl y, .inl v], (nw, sp, tl, tx, al) => [(26, [true, true, true, true, true, true, true], fun N l st ρ' μ' cs => mq_tZ l 60 fun l => mq_tI l fun v1 l => mq_tI l fun v2 l => mq_tI l fun v3 l => mq_tI l fun v4 l => mq_tI l fun v5 l => mq_tI l fun v6 l => mq_t0 l (st = [] ∧ ρ' = (nw, sp, tl, tx, al) ∧ cs = 0 ∧ v1 = k ∧ v2 = p ∧ v3 = y ∧ v4 = v ∧ 0 ≤ v6 ∧ v6 ≤ 16 ∧ -1 ≤ v5 ∧ v5 ≤ 15 ∧ 0 ≤ k ∧ k ≤ 3 ∧ 0 ≤ p ∧ p ≤ 5 ∧ 0 ≤ y ∧ y ≤ 400 ∧ 1 ≤ v ∧ v ≤ 15 ∧ 0 ≤ (16 - v6 : Int) ∧ (16 - v6 : Int) < (N : Int)))]
  | _, _ => []
set_option maxHeartbeats 16000000 in
set_option maxRecDepth 100000 in
theorem vq_m_jolt (lc : Launch) (h_m_isHandled : mq_Ct lc cq_m_isHandled) (h_m_lays : mq_Ct lc cq_m_lays) (h_m_sumOf : mq_Ct lc cq_m_sumOf) : mq_Ct lc cq_m_jolt := by
  refine mq_method (lc := lc) (P := pq_m_jolt) (cl := [cq_m_isHandled, cq_m_lays, cq_m_sumOf]) (T := ([(120, 11, 0), (72, 11, 30)], [(171, 1000000)], [], [(355, 0, 0), (359, 1, 0), (348, 2, 0)], [], [])) (fuel := 400) (cuts := kq_m_jolt) (by decide) rfl ⟨rfl, rfl⟩ (List.forall_mem_cons.mpr ⟨h_m_isHandled, (List.forall_mem_cons.mpr ⟨h_m_lays, (List.forall_mem_cons.mpr ⟨h_m_sumOf, (fun _ h => absurd h List.not_mem_nil)⟩)⟩)⟩) ⟨(List.forall_mem_cons.mpr ⟨⟨_, rfl, by decide, kw_773⟩, (List.forall_mem_cons.mpr ⟨⟨_, rfl, by decide, kw_901⟩, (fun _ h => absurd h List.not_mem_nil)⟩)⟩), (List.forall_mem_cons.mpr ⟨kw_796, (fun _ h => absurd h List.not_mem_nil)⟩), (fun _ h => absurd h List.not_mem_nil), (List.forall_mem_cons.mpr ⟨mq_ml0 rfl mw0_m_isHandled kw_925, (List.forall_mem_cons.mpr ⟨mq_ml0 rfl mw0_m_lays kw_929, (List.forall_mem_cons.mpr ⟨mq_ml0 rfl mw0_m_sumOf kw_917, (fun _ h => absurd h List.not_mem_nil)⟩)⟩)⟩), (fun _ h => absurd h List.not_mem_nil), (fun _ h => absurd h List.not_mem_nil)⟩ (by decide +kernel) ⟨_, _, rfl⟩ ?_ ?_ ?_ ?_
  · intro as ρ μ h
    obtain ⟨nw, sp, tl, tx, al⟩ := ρ
    obtain ⟨as0, rfl, h0⟩ := mq_pZ_spec h
    clear h
    obtain ⟨k, as1, rfl, h1⟩ := mq_pI_spec h0
    clear h0
    obtain ⟨p, as2, rfl, h2⟩ := mq_pI_spec h1
    clear h1
    obtain ⟨y, as3, rfl, h3⟩ := mq_pI_spec h2
    clear h2
    obtain ⟨v, as4, rfl, h4⟩ := mq_pI_spec h3
    clear h3
    obtain ⟨rfl, hp⟩ := mq_p0_spec h4
    clear h4
    rfl
  · intro as ρ μ h
    obtain ⟨nw, sp, tl, tx, al⟩ := ρ
    obtain ⟨as0, rfl, h0⟩ := mq_pZ_spec h
    clear h
    obtain ⟨k, as1, rfl, h1⟩ := mq_pI_spec h0
    clear h0
    obtain ⟨p, as2, rfl, h2⟩ := mq_pI_spec h1
    clear h1
    obtain ⟨y, as3, rfl, h3⟩ := mq_pI_spec h2
    clear h2
    obtain ⟨v, as4, rfl, h4⟩ := mq_pI_spec h3
    clear h3
    obtain ⟨rfl, hp⟩ := mq_p0_spec h4
    clear h4
    intro hrg
    obtain ⟨⟨ha1a, ha1b⟩, ⟨ha2a, ha2b⟩, ⟨ha3a, ha3b⟩, ⟨ha4a, ha4b⟩, -⟩ := hrg
    intro hbk
    have e0 : mq_l0 ([.inr (.inr (some (60, 0))), .inl k, .inl p, .inl y, .inl v] : List mq_V) 7 = [some (.inr (.inr (some (60, 0)))), some (.inl k), some (.inl p), some (.inl y), some (.inl v), none, none] := rfl
    rw [e0]
    repeat' (first | refine And.intro ?_ ?_ | intro _)
    all_goals try simp only [Int.reduceToNat, Int.reduceAdd, mq_up_f, mq_up_s, mq_up_e, ne_eq, Nat.reduceEqDiff, not_false_eq_true, true_and, and_true, false_and, and_false, false_or, or_false, true_or, or_true, true_implies] at *
    all_goals first | omega | rfl | exact trivial | assumption
  · intro as ρ μ h
    obtain ⟨nw, sp, tl, tx, al⟩ := ρ
    obtain ⟨as0, rfl, h0⟩ := mq_pZ_spec h
    clear h
    obtain ⟨k, as1, rfl, h1⟩ := mq_pI_spec h0
    clear h0
    obtain ⟨p, as2, rfl, h2⟩ := mq_pI_spec h1
    clear h1
    obtain ⟨y, as3, rfl, h3⟩ := mq_pI_spec h2
    clear h2
    obtain ⟨v, as4, rfl, h4⟩ := mq_pI_spec h3
    clear h3
    obtain ⟨rfl, hp⟩ := mq_p0_spec h4
    clear h4
    refine List.forall_mem_cons.mpr ⟨?_, ?_⟩
    · intro l st ρ' μ' cs hJ
      obtain ⟨l0, rfl, hJ0⟩ := mq_tZ_spec hJ
      clear hJ
      obtain ⟨v1, l1, rfl, hJ1⟩ := mq_tI_spec hJ0
      clear hJ0
      obtain ⟨v2, l2, rfl, hJ2⟩ := mq_tI_spec hJ1
      clear hJ1
      obtain ⟨v3, l3, rfl, hJ3⟩ := mq_tI_spec hJ2
      clear hJ2
      obtain ⟨v4, l4, rfl, hJ4⟩ := mq_tI_spec hJ3
      clear hJ3
      obtain ⟨v5, l5, rfl, hJ5⟩ := mq_tI_spec hJ4
      clear hJ4
      obtain ⟨v6, l6, rfl, hJ6⟩ := mq_tI_spec hJ5
      clear hJ5
      obtain ⟨rfl, hJz⟩ := mq_t0_spec hJ6
      clear hJ6
      obtain ⟨rfl, rfl, rfl, hc0, hc1, hc2, hc3, hc4, hc5, hc6, hc7, hc8, hc9, hc10, hc11, hc12, hc13, hc14, hc15, hm0, hm1⟩ := hJz
      omega
    exact fun _ h => absurd h List.not_mem_nil
  · intro as ρ μ h
    obtain ⟨nw, sp, tl, tx, al⟩ := ρ
    obtain ⟨as0, rfl, h0⟩ := mq_pZ_spec h
    clear h
    obtain ⟨k, as1, rfl, h1⟩ := mq_pI_spec h0
    clear h0
    obtain ⟨p, as2, rfl, h2⟩ := mq_pI_spec h1
    clear h1
    obtain ⟨y, as3, rfl, h3⟩ := mq_pI_spec h2
    clear h2
    obtain ⟨v, as4, rfl, h4⟩ := mq_pI_spec h3
    clear h3
    obtain ⟨rfl, hp⟩ := mq_p0_spec h4
    clear h4
    intro hrg
    obtain ⟨⟨ha1a, ha1b⟩, ⟨ha2a, ha2b⟩, ⟨ha3a, ha3b⟩, ⟨ha4a, ha4b⟩, -⟩ := hrg
    refine List.forall_mem_cons.mpr ⟨?_, ?_⟩
    · intro N l st ρ' μ' cs hJ
      obtain ⟨l0, rfl, hJ0⟩ := mq_tZ_spec hJ
      clear hJ
      obtain ⟨v1, l1, rfl, hJ1⟩ := mq_tI_spec hJ0
      clear hJ0
      obtain ⟨v2, l2, rfl, hJ2⟩ := mq_tI_spec hJ1
      clear hJ1
      obtain ⟨v3, l3, rfl, hJ3⟩ := mq_tI_spec hJ2
      clear hJ2
      obtain ⟨v4, l4, rfl, hJ4⟩ := mq_tI_spec hJ3
      clear hJ3
      obtain ⟨v5, l5, rfl, hJ5⟩ := mq_tI_spec hJ4
      clear hJ4
      obtain ⟨v6, l6, rfl, hJ6⟩ := mq_tI_spec hJ5
      clear hJ5
      obtain ⟨rfl, hJz⟩ := mq_t0_spec hJ6
      clear hJ6
      obtain ⟨rfl, rfl, rfl, hc0, hc1, hc2, hc3, hc4, hc5, hc6, hc7, hc8, hc9, hc10, hc11, hc12, hc13, hc14, hc15, hm0, hm1⟩ := hJz
      intro hbk hrl
      obtain ⟨⟨hl1a, hl1b⟩, ⟨hl2a, hl2b⟩, ⟨hl3a, hl3b⟩, ⟨hl4a, hl4b⟩, ⟨hl5a, hl5b⟩, ⟨hl6a, hl6b⟩, -⟩ := hrl
      repeat' (first | refine And.intro ?_ ?_ | intro _)
      all_goals try simp only [Int.reduceToNat, Int.reduceAdd, mq_up_f, mq_up_s, mq_up_e, ne_eq, Nat.reduceEqDiff, not_false_eq_true, true_and, and_true, false_and, and_false, false_or, or_false, true_or, or_true, true_implies] at *
      all_goals first | omega | rfl | exact trivial | assumption
    exact fun _ h => absurd h List.not_mem_nil
def pq_m_goesOn : List mq_E := [(0, false, .iconst 0), (1, false, .istore 4), (3, true, .iload 4), (5, false, .aload 0), (6, false, .invokeinterface 11 17), (9, false, .iconst 0), (10, false, .iaload), (11, false, .if_icmp .gt (Int.ofNat 48)), (14, false, .aload 0), (15, false, .invokeinterface 11 31), (18, false, .iload 4), (20, false, .iload 4), (22, false, .iload 2), (23, false, .if_icmp .ne (Int.ofNat 32)), (26, false, .iconst 1), (27, false, .iload 3), (28, false, .ishl), (29, false, .goto (Int.ofNat 33)), (32, false, .iconst 0), (33, false, .iastore), (34, false, .aload 0), (35, false, .invokeinterface 11 32), (38, false, .iload 4), (40, false, .iconst 0), (41, false, .bastore), (42, false, .iinc 4 1), (45, false, .goto (Int.ofNat 3)), (48, false, .iload 2), (49, false, .istore 4), (51, true, .iload 4), (53, false, .aload 0), (54, false, .invokeinterface 11 17), (57, false, .iconst 0), (58, false, .iaload), (59, false, .if_icmp .gt (Int.ofNat 177)), (62, false, .iconst 1), (63, false, .istore 5), (65, true, .iload 5), (67, false, .iconst 15), (69, false, .if_icmp .gt (Int.ofNat 171)), (72, false, .aload 0), (73, false, .invokeinterface 11 31), (76, false, .iload 4), (78, false, .iaload), (79, false, .iload 5), (81, false, .ishr), (82, false, .iconst 1), (83, false, .iand), (84, false, .ifCond .ne (Int.ofNat 90)), (87, false, .goto (Int.ofNat 165)), (90, false, .iconst 0), (91, false, .istore 6), (93, true, .iload 6), (95, false, .iconst 3), (96, false, .if_icmp .gt (Int.ofNat 165)), (99, false, .aload 0), (100, false, .iload 1), (101, false, .iload 4), (103, false, .iload 5), (105, false, .iload 6), (107, false, .invokestatic 0), (110, false, .istore 7), (112, false, .iload 7), (114, false, .ifCond .ne (Int.ofNat 128)), (117, false, .aload 0), (118, false, .invokeinterface 11 32), (121, false, .iload 4), (123, false, .iconst 1), (124, false, .bastore), (125, false, .goto (Int.ofNat 159)), (128, false, .iload 4), (130, false, .iload 7), (132, false, .iadd), (133, false, .aload 0), (134, false, .invokeinterface 11 17), (137, false, .iconst 0), (138, false, .iaload), (139, false, .if_icmp .gt (Int.ofNat 159)), (142, false, .aload 0), (143, false, .invokeinterface 11 31), (146, false, .iload 4), (148, false, .iload 7), (150, false, .iadd), (151, false, .dup2), (152, false, .iaload), (153, false, .iconst 1), (154, false, .iload 7), (156, false, .ishl), (157, false, .ior), (158, false, .iastore), (159, false, .iinc 6 1), (162, false, .goto (Int.ofNat 93)), (165, false, .iinc 5 1), (168, false, .goto (Int.ofNat 65)), (171, false, .iinc 4 1), (174, false, .goto (Int.ofNat 51)), (177, false, .return_)]
def cq_m_goesOn : mq_C := ((yX11_goesOn, cX11_goesOn, 8, none, { frames := 3, cells := 0, slots := 0, locals := 74 }), (4, 0, 0, 0), 1813388729421943762059264, (fun as ρ μ => match ρ with
  | (nw, sp, tl, tx, al) => mq_pZ as 60 fun as => mq_pI as fun k as => mq_pI as fun y as => mq_pI as fun v as => mq_p0 as (0 ≤ k ∧ k ≤ 3 ∧ 0 ≤ y ∧ y ≤ 400 ∧ 1 ≤ v ∧ v ≤ 15)),
  (fun as ρ μ r ρ' μ' => match as, ρ, ρ' with
  | [.inr (.inr (some (_, _))), .inl k, .inl y, .inl v], (nw, sp, tl, tx, al), (nw', sp', tl', tx', al') => []
  | _, _, _ => []))
def kq_m_goesOn : List mq_V → mq_R → mq_M → List mq_Cu := fun as ρ μ => match as, ρ with
  | [.inr (.inr (some (_, _))), .inl k, .inl y, .inl v], (nw, sp, tl, tx, al) => [(3, [true, true, true, true, true, false, false, false], fun N l st ρ' μ' cs => mq_tZ l 60 fun l => mq_tI l fun v1 l => mq_tI l fun v2 l => mq_tI l fun v3 l => mq_tI l fun v4 l => mq_tN l fun l => mq_tN l fun l => mq_tN l fun l => mq_t0 l (st = [] ∧ ρ' = (nw, sp, tl, tx, al) ∧ cs = 0 ∧ v1 = k ∧ v2 = y ∧ v3 = v ∧ 0 ≤ v4 ∧ v4 ≤ 401 ∧ 0 ≤ k ∧ k ≤ 3 ∧ 0 ≤ y ∧ y ≤ 400 ∧ 1 ≤ v ∧ v ≤ 15 ∧ 0 ≤ (1000000 + 401 - v4 : Int) ∧ (1000000 + 401 - v4 : Int) < (N : Int))),
    (51, [true, true, true, true, true, false, false, false], fun N l st ρ' μ' cs => mq_tZ l 60 fun l => mq_tI l fun v1 l => mq_tI l fun v2 l => mq_tI l fun v3 l => mq_tI l fun v4 l => mq_tN l fun l => mq_tN l fun l => mq_tN l fun l => mq_t0 l (st = [] ∧ ρ' = (nw, sp, tl, tx, al) ∧ cs = 0 ∧ v1 = k ∧ v2 = y ∧ v3 = v ∧ 0 ≤ v4 ∧ v4 ≤ 401 ∧ 0 ≤ k ∧ k ≤ 3 ∧ 0 ≤ y ∧ y ≤ 400 ∧ 1 ≤ v ∧ v ≤ 15 ∧ 0 ≤ (1000 * (401 - v4) : Int) ∧ (1000 * (401 - v4) : Int) < (N : Int))),
    (65, [true, true, true, true, true, true, false, false], fun N l st ρ' μ' cs => mq_tZ l 60 fun l => mq_tI l fun v1 l => mq_tI l fun v2 l => mq_tI l fun v3 l => mq_tI l fun v4 l => mq_tI l fun v5 l => mq_tN l fun l => mq_tN l fun l => mq_t0 l (st = [] ∧ ρ' = (nw, sp, tl, tx, al) ∧ cs = 0 ∧ v1 = k ∧ v2 = y ∧ v3 = v ∧ 0 ≤ v4 ∧ v4 ≤ 400 ∧ 0 ≤ k ∧ k ≤ 3 ∧ 0 ≤ y ∧ y ≤ 400 ∧ 1 ≤ v ∧ v ≤ 15 ∧ 1 ≤ v5 ∧ v5 ≤ 16 ∧ 0 ≤ (1000 * (401 - v4) - 1 - 20 * v5 : Int) ∧ (1000 * (401 - v4) - 1 - 20 * v5 : Int) < (N : Int))),
    (93, [true, true, true, true, true, true, true, false], fun N l st ρ' μ' cs => mq_tZ l 60 fun l => mq_tI l fun v1 l => mq_tI l fun v2 l => mq_tI l fun v3 l => mq_tI l fun v4 l => mq_tI l fun v5 l => mq_tI l fun v6 l => mq_tN l fun l => mq_t0 l (st = [] ∧ ρ' = (nw, sp, tl, tx, al) ∧ cs = 0 ∧ v1 = k ∧ v2 = y ∧ v3 = v ∧ 0 ≤ v4 ∧ v4 ≤ 400 ∧ 0 ≤ k ∧ k ≤ 3 ∧ 0 ≤ y ∧ y ≤ 400 ∧ 1 ≤ v ∧ v ≤ 15 ∧ 1 ≤ v5 ∧ v5 ≤ 15 ∧ 0 ≤ v6 ∧ v6 ≤ 4 ∧ 0 ≤ (1000 * (401 - v4) - 2 - 20 * v5 - v6 : Int) ∧ (1000 * (401 - v4) - 2 - 20 * v5 - v6 : Int) < (N : Int)))]
  | _, _ => []
set_option maxHeartbeats 16000000 in
set_option maxRecDepth 100000 in
theorem vq_m_goesOn (lc : Launch) (h_m_slowed : mq_Ct lc cq_m_slowed) : mq_Ct lc cq_m_goesOn := by
  refine mq_method (lc := lc) (P := pq_m_goesOn) (cl := [cq_m_slowed]) (T := ([(34, 11, 17), (75, 11, 31), (78, 11, 32)], [], [], [(327, 0, 0)], [], [])) (fuel := 400) (cuts := kq_m_goesOn) (by decide) rfl ⟨rfl, rfl⟩ (List.forall_mem_cons.mpr ⟨h_m_slowed, (fun _ h => absurd h List.not_mem_nil)⟩) ⟨(List.forall_mem_cons.mpr ⟨⟨_, rfl, by decide, kw_832⟩, (List.forall_mem_cons.mpr ⟨⟨_, rfl, by decide, kw_934⟩, (List.forall_mem_cons.mpr ⟨⟨_, rfl, by decide, kw_935⟩, (fun _ h => absurd h List.not_mem_nil)⟩)⟩)⟩), (fun _ h => absurd h List.not_mem_nil), (fun _ h => absurd h List.not_mem_nil), (List.forall_mem_cons.mpr ⟨mq_ml0 rfl mw0_m_slowed kw_895, (fun _ h => absurd h List.not_mem_nil)⟩), (fun _ h => absurd h List.not_mem_nil), (fun _ h => absurd h List.not_mem_nil)⟩ (by decide +kernel) ⟨_, _, rfl⟩ ?_ ?_ ?_ ?_
  · intro as ρ μ h
    obtain ⟨nw, sp, tl, tx, al⟩ := ρ
    obtain ⟨as0, rfl, h0⟩ := mq_pZ_spec h
    clear h
    obtain ⟨k, as1, rfl, h1⟩ := mq_pI_spec h0
    clear h0
    obtain ⟨y, as2, rfl, h2⟩ := mq_pI_spec h1
    clear h1
    obtain ⟨v, as3, rfl, h3⟩ := mq_pI_spec h2
    clear h2
    obtain ⟨rfl, hp⟩ := mq_p0_spec h3
    clear h3
    obtain ⟨hp0, hp1, hp2, hp3, hp4, hp5⟩ := hp
    rfl
  · intro as ρ μ h
    obtain ⟨nw, sp, tl, tx, al⟩ := ρ
    obtain ⟨as0, rfl, h0⟩ := mq_pZ_spec h
    clear h
    obtain ⟨k, as1, rfl, h1⟩ := mq_pI_spec h0
    clear h0
    obtain ⟨y, as2, rfl, h2⟩ := mq_pI_spec h1
    clear h1
    obtain ⟨v, as3, rfl, h3⟩ := mq_pI_spec h2
    clear h2
    obtain ⟨rfl, hp⟩ := mq_p0_spec h3
    clear h3
    obtain ⟨hp0, hp1, hp2, hp3, hp4, hp5⟩ := hp
    intro hrg
    obtain ⟨⟨ha1a, ha1b⟩, ⟨ha2a, ha2b⟩, ⟨ha3a, ha3b⟩, -⟩ := hrg
    intro hbk
    have hk0 : 0 ≤ μ (67, 0) 0 ∧ μ (67, 0) 0 ≤ 400 := hbk (67, 0) 0
    have e0 : mq_l0 ([.inr (.inr (some (60, 0))), .inl k, .inl y, .inl v] : List mq_V) 8 = [some (.inr (.inr (some (60, 0)))), some (.inl k), some (.inl y), some (.inl v), none, none, none, none] := rfl
    rw [e0]
    repeat' (first | refine And.intro ?_ ?_ | intro _)
    all_goals try simp only [Int.reduceToNat, Int.reduceAdd, mq_up_f, mq_up_s, mq_up_e, ne_eq, Nat.reduceEqDiff, not_false_eq_true, true_and, and_true, false_and, and_false, false_or, or_false, true_or, or_true, true_implies] at *
    all_goals first | omega | rfl | exact trivial | assumption
  · intro as ρ μ h
    obtain ⟨nw, sp, tl, tx, al⟩ := ρ
    obtain ⟨as0, rfl, h0⟩ := mq_pZ_spec h
    clear h
    obtain ⟨k, as1, rfl, h1⟩ := mq_pI_spec h0
    clear h0
    obtain ⟨y, as2, rfl, h2⟩ := mq_pI_spec h1
    clear h1
    obtain ⟨v, as3, rfl, h3⟩ := mq_pI_spec h2
    clear h2
    obtain ⟨rfl, hp⟩ := mq_p0_spec h3
    clear h3
    obtain ⟨hp0, hp1, hp2, hp3, hp4, hp5⟩ := hp
    refine List.forall_mem_cons.mpr ⟨?_, ?_⟩
    · intro l st ρ' μ' cs hJ
      obtain ⟨l0, rfl, hJ0⟩ := mq_tZ_spec hJ
      clear hJ
      obtain ⟨v1, l1, rfl, hJ1⟩ := mq_tI_spec hJ0
      clear hJ0
      obtain ⟨v2, l2, rfl, hJ2⟩ := mq_tI_spec hJ1
      clear hJ1
      obtain ⟨v3, l3, rfl, hJ3⟩ := mq_tI_spec hJ2
      clear hJ2
      obtain ⟨v4, l4, rfl, hJ4⟩ := mq_tI_spec hJ3
      clear hJ3
      obtain ⟨l5, rfl, hJ5⟩ := mq_tN_spec hJ4
      clear hJ4
      obtain ⟨l6, rfl, hJ6⟩ := mq_tN_spec hJ5
      clear hJ5
      obtain ⟨l7, rfl, hJ7⟩ := mq_tN_spec hJ6
      clear hJ6
      obtain ⟨rfl, hJz⟩ := mq_t0_spec hJ7
      clear hJ7
      obtain ⟨rfl, rfl, rfl, hc0, hc1, hc2, hc3, hc4, hc5, hc6, hc7, hc8, hc9, hc10, hm0, hm1⟩ := hJz
      omega
    refine List.forall_mem_cons.mpr ⟨?_, ?_⟩
    · intro l st ρ' μ' cs hJ
      obtain ⟨l0, rfl, hJ0⟩ := mq_tZ_spec hJ
      clear hJ
      obtain ⟨v1, l1, rfl, hJ1⟩ := mq_tI_spec hJ0
      clear hJ0
      obtain ⟨v2, l2, rfl, hJ2⟩ := mq_tI_spec hJ1
      clear hJ1
      obtain ⟨v3, l3, rfl, hJ3⟩ := mq_tI_spec hJ2
      clear hJ2
      obtain ⟨v4, l4, rfl, hJ4⟩ := mq_tI_spec hJ3
      clear hJ3
      obtain ⟨l5, rfl, hJ5⟩ := mq_tN_spec hJ4
      clear hJ4
      obtain ⟨l6, rfl, hJ6⟩ := mq_tN_spec hJ5
      clear hJ5
      obtain ⟨l7, rfl, hJ7⟩ := mq_tN_spec hJ6
      clear hJ6
      obtain ⟨rfl, hJz⟩ := mq_t0_spec hJ7
      clear hJ7
      obtain ⟨rfl, rfl, rfl, hc0, hc1, hc2, hc3, hc4, hc5, hc6, hc7, hc8, hc9, hc10, hm0, hm1⟩ := hJz
      omega
    refine List.forall_mem_cons.mpr ⟨?_, ?_⟩
    · intro l st ρ' μ' cs hJ
      obtain ⟨l0, rfl, hJ0⟩ := mq_tZ_spec hJ
      clear hJ
      obtain ⟨v1, l1, rfl, hJ1⟩ := mq_tI_spec hJ0
      clear hJ0
      obtain ⟨v2, l2, rfl, hJ2⟩ := mq_tI_spec hJ1
      clear hJ1
      obtain ⟨v3, l3, rfl, hJ3⟩ := mq_tI_spec hJ2
      clear hJ2
      obtain ⟨v4, l4, rfl, hJ4⟩ := mq_tI_spec hJ3
      clear hJ3
      obtain ⟨v5, l5, rfl, hJ5⟩ := mq_tI_spec hJ4
      clear hJ4
      obtain ⟨l6, rfl, hJ6⟩ := mq_tN_spec hJ5
      clear hJ5
      obtain ⟨l7, rfl, hJ7⟩ := mq_tN_spec hJ6
      clear hJ6
      obtain ⟨rfl, hJz⟩ := mq_t0_spec hJ7
      clear hJ7
      obtain ⟨rfl, rfl, rfl, hc0, hc1, hc2, hc3, hc4, hc5, hc6, hc7, hc8, hc9, hc10, hc11, hc12, hm0, hm1⟩ := hJz
      omega
    refine List.forall_mem_cons.mpr ⟨?_, ?_⟩
    · intro l st ρ' μ' cs hJ
      obtain ⟨l0, rfl, hJ0⟩ := mq_tZ_spec hJ
      clear hJ
      obtain ⟨v1, l1, rfl, hJ1⟩ := mq_tI_spec hJ0
      clear hJ0
      obtain ⟨v2, l2, rfl, hJ2⟩ := mq_tI_spec hJ1
      clear hJ1
      obtain ⟨v3, l3, rfl, hJ3⟩ := mq_tI_spec hJ2
      clear hJ2
      obtain ⟨v4, l4, rfl, hJ4⟩ := mq_tI_spec hJ3
      clear hJ3
      obtain ⟨v5, l5, rfl, hJ5⟩ := mq_tI_spec hJ4
      clear hJ4
      obtain ⟨v6, l6, rfl, hJ6⟩ := mq_tI_spec hJ5
      clear hJ5
      obtain ⟨l7, rfl, hJ7⟩ := mq_tN_spec hJ6
      clear hJ6
      obtain ⟨rfl, hJz⟩ := mq_t0_spec hJ7
      clear hJ7
      obtain ⟨rfl, rfl, rfl, hc0, hc1, hc2, hc3, hc4, hc5, hc6, hc7, hc8, hc9, hc10, hc11, hc12, hc13, hc14, hm0, hm1⟩ := hJz
      omega
    exact fun _ h => absurd h List.not_mem_nil
  · intro as ρ μ h
    obtain ⟨nw, sp, tl, tx, al⟩ := ρ
    obtain ⟨as0, rfl, h0⟩ := mq_pZ_spec h
    clear h
    obtain ⟨k, as1, rfl, h1⟩ := mq_pI_spec h0
    clear h0
    obtain ⟨y, as2, rfl, h2⟩ := mq_pI_spec h1
    clear h1
    obtain ⟨v, as3, rfl, h3⟩ := mq_pI_spec h2
    clear h2
    obtain ⟨rfl, hp⟩ := mq_p0_spec h3
    clear h3
    obtain ⟨hp0, hp1, hp2, hp3, hp4, hp5⟩ := hp
    intro hrg
    obtain ⟨⟨ha1a, ha1b⟩, ⟨ha2a, ha2b⟩, ⟨ha3a, ha3b⟩, -⟩ := hrg
    refine List.forall_mem_cons.mpr ⟨?_, ?_⟩
    · intro N l st ρ' μ' cs hJ
      obtain ⟨l0, rfl, hJ0⟩ := mq_tZ_spec hJ
      clear hJ
      obtain ⟨v1, l1, rfl, hJ1⟩ := mq_tI_spec hJ0
      clear hJ0
      obtain ⟨v2, l2, rfl, hJ2⟩ := mq_tI_spec hJ1
      clear hJ1
      obtain ⟨v3, l3, rfl, hJ3⟩ := mq_tI_spec hJ2
      clear hJ2
      obtain ⟨v4, l4, rfl, hJ4⟩ := mq_tI_spec hJ3
      clear hJ3
      obtain ⟨l5, rfl, hJ5⟩ := mq_tN_spec hJ4
      clear hJ4
      obtain ⟨l6, rfl, hJ6⟩ := mq_tN_spec hJ5
      clear hJ5
      obtain ⟨l7, rfl, hJ7⟩ := mq_tN_spec hJ6
      clear hJ6
      obtain ⟨rfl, hJz⟩ := mq_t0_spec hJ7
      clear hJ7
      obtain ⟨rfl, rfl, rfl, hc0, hc1, hc2, hc3, hc4, hc5, hc6, hc7, hc8, hc9, hc10, hm0, hm1⟩ := hJz
      intro hbk hrl
      have hk0 : 0 ≤ μ' (67, 0) 0 ∧ μ' (67, 0) 0 ≤ 400 := hbk (67, 0) 0
      obtain ⟨⟨hl1a, hl1b⟩, ⟨hl2a, hl2b⟩, ⟨hl3a, hl3b⟩, ⟨hl4a, hl4b⟩, -⟩ := hrl
      repeat' (first | refine And.intro ?_ ?_ | intro _)
      all_goals try simp only [Int.reduceToNat, Int.reduceAdd, mq_up_f, mq_up_s, mq_up_e, ne_eq, Nat.reduceEqDiff, not_false_eq_true, true_and, and_true, false_and, and_false, false_or, or_false, true_or, or_true, true_implies] at *
      all_goals first | omega | rfl | exact trivial | assumption
    refine List.forall_mem_cons.mpr ⟨?_, ?_⟩
    · intro N l st ρ' μ' cs hJ
      obtain ⟨l0, rfl, hJ0⟩ := mq_tZ_spec hJ
      clear hJ
      obtain ⟨v1, l1, rfl, hJ1⟩ := mq_tI_spec hJ0
      clear hJ0
      obtain ⟨v2, l2, rfl, hJ2⟩ := mq_tI_spec hJ1
      clear hJ1
      obtain ⟨v3, l3, rfl, hJ3⟩ := mq_tI_spec hJ2
      clear hJ2
      obtain ⟨v4, l4, rfl, hJ4⟩ := mq_tI_spec hJ3
      clear hJ3
      obtain ⟨l5, rfl, hJ5⟩ := mq_tN_spec hJ4
      clear hJ4
      obtain ⟨l6, rfl, hJ6⟩ := mq_tN_spec hJ5
      clear hJ5
      obtain ⟨l7, rfl, hJ7⟩ := mq_tN_spec hJ6
      clear hJ6
      obtain ⟨rfl, hJz⟩ := mq_t0_spec hJ7
      clear hJ7
      obtain ⟨rfl, rfl, rfl, hc0, hc1, hc2, hc3, hc4, hc5, hc6, hc7, hc8, hc9, hc10, hm0, hm1⟩ := hJz
      intro hbk hrl
      have hk0 : 0 ≤ μ' (67, 0) 0 ∧ μ' (67, 0) 0 ≤ 400 := hbk (67, 0) 0
      obtain ⟨⟨hl1a, hl1b⟩, ⟨hl2a, hl2b⟩, ⟨hl3a, hl3b⟩, ⟨hl4a, hl4b⟩, -⟩ := hrl
      repeat' (first | refine And.intro ?_ ?_ | intro _)
      all_goals try simp only [Int.reduceToNat, Int.reduceAdd, mq_up_f, mq_up_s, mq_up_e, ne_eq, Nat.reduceEqDiff, not_false_eq_true, true_and, and_true, false_and, and_false, false_or, or_false, true_or, or_true, true_implies] at *
      all_goals first | omega | rfl | exact trivial | assumption
    refine List.forall_mem_cons.mpr ⟨?_, ?_⟩
    · intro N l st ρ' μ' cs hJ
      obtain ⟨l0, rfl, hJ0⟩ := mq_tZ_spec hJ
      clear hJ
      obtain ⟨v1, l1, rfl, hJ1⟩ := mq_tI_spec hJ0
      clear hJ0
      obtain ⟨v2, l2, rfl, hJ2⟩ := mq_tI_spec hJ1
      clear hJ1
      obtain ⟨v3, l3, rfl, hJ3⟩ := mq_tI_spec hJ2
      clear hJ2
      obtain ⟨v4, l4, rfl, hJ4⟩ := mq_tI_spec hJ3
      clear hJ3
      obtain ⟨v5, l5, rfl, hJ5⟩ := mq_tI_spec hJ4
      clear hJ4
      obtain ⟨l6, rfl, hJ6⟩ := mq_tN_spec hJ5
      clear hJ5
      obtain ⟨l7, rfl, hJ7⟩ := mq_tN_spec hJ6
      clear hJ6
      obtain ⟨rfl, hJz⟩ := mq_t0_spec hJ7
      clear hJ7
      obtain ⟨rfl, rfl, rfl, hc0, hc1, hc2, hc3, hc4, hc5, hc6, hc7, hc8, hc9, hc10, hc11, hc12, hm0, hm1⟩ := hJz
      intro hbk hrl
      have hk0 : 0 ≤ μ' (67, 0) 0 ∧ μ' (67, 0) 0 ≤ 400 := hbk (67, 0) 0
      obtain ⟨⟨hl1a, hl1b⟩, ⟨hl2a, hl2b⟩, ⟨hl3a, hl3b⟩, ⟨hl4a, hl4b⟩, ⟨hl5a, hl5b⟩, -⟩ := hrl
      repeat' (first | refine And.intro ?_ ?_ | intro _)
      all_goals try simp only [Int.reduceToNat, Int.reduceAdd, mq_up_f, mq_up_s, mq_up_e, ne_eq, Nat.reduceEqDiff, not_false_eq_true, true_and, and_true, false_and, and_false, false_or, or_false, true_or, or_true, true_implies] at *
      all_goals first | omega | rfl | exact trivial | assumption
    refine List.forall_mem_cons.mpr ⟨?_, ?_⟩
    · intro N l st ρ' μ' cs hJ
      obtain ⟨l0, rfl, hJ0⟩ := mq_tZ_spec hJ
      clear hJ
      obtain ⟨v1, l1, rfl, hJ1⟩ := mq_tI_spec hJ0
      clear hJ0
      obtain ⟨v2, l2, rfl, hJ2⟩ := mq_tI_spec hJ1
      clear hJ1
      obtain ⟨v3, l3, rfl, hJ3⟩ := mq_tI_spec hJ2
      clear hJ2
      obtain ⟨v4, l4, rfl, hJ4⟩ := mq_tI_spec hJ3
      clear hJ3
      obtain ⟨v5, l5, rfl, hJ5⟩ := mq_tI_spec hJ4
      clear hJ4
      obtain ⟨v6, l6, rfl, hJ6⟩ := mq_tI_spec hJ5
      clear hJ5
      obtain ⟨l7, rfl, hJ7⟩ := mq_tN_spec hJ6
      clear hJ6
      obtain ⟨rfl, hJz⟩ := mq_t0_spec hJ7
      clear hJ7
      obtain ⟨rfl, rfl, rfl, hc0, hc1, hc2, hc3, hc4, hc5, hc6, hc7, hc8, hc9, hc10, hc11, hc12, hc13, hc14, hm0, hm1⟩ := hJz
      intro hbk hrl
      have hk0 : 0 ≤ μ' (67, 0) 0 ∧ μ' (67, 0) 0 ≤ 400 := hbk (67, 0) 0
      obtain ⟨⟨hl1a, hl1b⟩, ⟨hl2a, hl2b⟩, ⟨hl3a, hl3b⟩, ⟨hl4a, hl4b⟩, ⟨hl5a, hl5b⟩, ⟨hl6a, hl6b⟩, -⟩ := hrl
      repeat' (first | refine And.intro ?_ ?_ | intro _)
      all_goals try simp only [Int.reduceToNat, Int.reduceAdd, mq_up_f, mq_up_s, mq_up_e, ne_eq, Nat.reduceEqDiff, not_false_eq_true, true_and, and_true, false_and, and_false, false_or, or_false, true_or, or_true, true_implies] at *
      all_goals first | omega | rfl | exact trivial | assumption
    exact fun _ h => absurd h List.not_mem_nil
theorem mw0_m_goesOn : mq_mlA cq_m_goesOn 0 := ⟨kw_939, ⟨by decide +kernel, by decide +kernel⟩, by decide +kernel, kw_940, kw_941, kw_771, 60, by decide +kernel, fun as ρ μ h => by obtain ⟨nw, sp, tl, tx, al⟩ := ρ; obtain ⟨t, e, _⟩ := mq_pZ_spec h; exact ⟨0, t, e⟩⟩
def pq_m_counts : List mq_E := [(0, false, .aload 0), (1, false, .aload 0), (2, false, .invokeinterface 11 33), (5, false, .iconst (-1)), (6, false, .if_icmp .ne (Int.ofNat 13)), (9, false, .iload 1), (10, false, .goto (Int.ofNat 17)), (13, false, .aload 0), (14, false, .invokeinterface 11 33), (17, false, .multianewarray 11 33), (20, false, .aload 0), (21, false, .iload 1), (22, false, .multianewarray 11 34), (25, false, .aload 0), (26, false, .dup), (27, false, .invokeinterface 11 35), (30, false, .iconst 1), (31, false, .fadd), (32, false, .multianewarray 11 35), (35, false, .return_)]
def cq_m_counts : mq_C := ((yX11_counts, cX11_counts, 2, none, { frames := 0, cells := 0, slots := 0, locals := 0 }), (2, 0, 0, 0), 1152921504606846976, (fun as ρ μ => match ρ with
  | (nw, sp, tl, tx, al) => mq_pZ as 60 fun as => mq_pI as fun y as => mq_p0 as (True)),
  (fun as ρ μ r ρ' μ' => match as, ρ, ρ' with
  | [.inr (.inr (some (_, _))), .inl y], (nw, sp, tl, tx, al), (nw', sp', tl', tx', al') => []
  | _, _, _ => []))
def kq_m_counts : List mq_V → mq_R → mq_M → List mq_Cu := fun as ρ μ => match as, ρ with
  | [.inr (.inr (some (_, _))), .inl y], (nw, sp, tl, tx, al) => []
  | _, _ => []
set_option maxHeartbeats 16000000 in
set_option maxRecDepth 100000 in
theorem vq_m_counts (lc : Launch)  : mq_Ct lc cq_m_counts := by
  refine mq_method (lc := lc) (P := pq_m_counts) (cl := []) (T := ([(367, 11, 33), (370, 11, 34), (373, 11, 35)], [], [], [], [], [])) (fuel := 400) (cuts := kq_m_counts) (by decide) rfl ⟨rfl, rfl⟩ (fun _ h => absurd h List.not_mem_nil) ⟨(List.forall_mem_cons.mpr ⟨⟨_, rfl, by decide, kw_936⟩, (List.forall_mem_cons.mpr ⟨⟨_, rfl, by decide, kw_937⟩, (List.forall_mem_cons.mpr ⟨⟨_, rfl, by decide, kw_938⟩, (fun _ h => absurd h List.not_mem_nil)⟩)⟩)⟩), (fun _ h => absurd h List.not_mem_nil), (fun _ h => absurd h List.not_mem_nil), (fun _ h => absurd h List.not_mem_nil), (fun _ h => absurd h List.not_mem_nil), (fun _ h => absurd h List.not_mem_nil)⟩ (by decide +kernel) ⟨_, _, rfl⟩ ?_ ?_ ?_ ?_
  · intro as ρ μ h
    obtain ⟨nw, sp, tl, tx, al⟩ := ρ
    obtain ⟨as0, rfl, h0⟩ := mq_pZ_spec h
    clear h
    obtain ⟨y, as1, rfl, h1⟩ := mq_pI_spec h0
    clear h0
    obtain ⟨rfl, hp⟩ := mq_p0_spec h1
    clear h1
    rfl
  · intro as ρ μ h
    obtain ⟨nw, sp, tl, tx, al⟩ := ρ
    obtain ⟨as0, rfl, h0⟩ := mq_pZ_spec h
    clear h
    obtain ⟨y, as1, rfl, h1⟩ := mq_pI_spec h0
    clear h0
    obtain ⟨rfl, hp⟩ := mq_p0_spec h1
    clear h1
    intro hrg
    obtain ⟨⟨ha1a, ha1b⟩, -⟩ := hrg
    intro hbk
    have e0 : mq_l0 ([.inr (.inr (some (60, 0))), .inl y] : List mq_V) 2 = [some (.inr (.inr (some (60, 0)))), some (.inl y)] := rfl
    rw [e0]
    repeat' (first | refine And.intro ?_ ?_ | intro _)
    all_goals first | omega | rfl | exact trivial | (simp [mq_up] at * <;> omega)
  · intro as ρ μ h
    obtain ⟨nw, sp, tl, tx, al⟩ := ρ
    obtain ⟨as0, rfl, h0⟩ := mq_pZ_spec h
    clear h
    obtain ⟨y, as1, rfl, h1⟩ := mq_pI_spec h0
    clear h0
    obtain ⟨rfl, hp⟩ := mq_p0_spec h1
    clear h1
    exact fun _ h => absurd h List.not_mem_nil
  · intro as ρ μ h
    obtain ⟨nw, sp, tl, tx, al⟩ := ρ
    obtain ⟨as0, rfl, h0⟩ := mq_pZ_spec h
    clear h
    obtain ⟨y, as1, rfl, h1⟩ := mq_pI_spec h0
    clear h0
    obtain ⟨rfl, hp⟩ := mq_p0_spec h1
    clear h1
    intro hrg
    obtain ⟨⟨ha1a, ha1b⟩, -⟩ := hrg
    exact fun _ h => absurd h List.not_mem_nil
theorem mw0_m_counts : mq_mlA cq_m_counts 0 := ⟨kw_947, ⟨by decide +kernel, by decide +kernel⟩, by decide +kernel, kw_948, kw_949, kw_771, 60, by decide +kernel, fun as ρ μ h => by obtain ⟨nw, sp, tl, tx, al⟩ := ρ; obtain ⟨t, e, _⟩ := mq_pZ_spec h; exact ⟨0, t, e⟩⟩
def pq_m_countsNone : List mq_E := [(0, false, .aload 0), (1, false, .iconst (-1)), (2, false, .multianewarray 11 33), (5, false, .aload 0), (6, false, .iconst (-1)), (7, false, .multianewarray 11 34), (10, false, .aload 0), (11, false, .iconst 0), (12, false, .multianewarray 11 35), (15, false, .return_)]
def cq_m_countsNone : mq_C := ((yX11_countsNone, cX11_countsNone, 1, none, { frames := 0, cells := 0, slots := 0, locals := 0 }), (1, 0, 0, 0), 1152921504606846976, (fun as ρ μ => match ρ with
  | (nw, sp, tl, tx, al) => mq_pZ as 60 fun as => mq_p0 as (True)),
  (fun as ρ μ r ρ' μ' => match as, ρ, ρ' with
  | [.inr (.inr (some (_, _)))], (nw, sp, tl, tx, al), (nw', sp', tl', tx', al') => []
  | _, _, _ => []))
def kq_m_countsNone : List mq_V → mq_R → mq_M → List mq_Cu := fun as ρ μ => match as, ρ with
  | [.inr (.inr (some (_, _)))], (nw, sp, tl, tx, al) => []
  | _, _ => []
set_option maxHeartbeats 16000000 in
set_option maxRecDepth 100000 in
theorem vq_m_countsNone (lc : Launch)  : mq_Ct lc cq_m_countsNone := by
  refine mq_method (lc := lc) (P := pq_m_countsNone) (cl := []) (T := ([(367, 11, 33), (370, 11, 34), (373, 11, 35)], [], [], [], [], [])) (fuel := 400) (cuts := kq_m_countsNone) (by decide) rfl ⟨rfl, rfl⟩ (fun _ h => absurd h List.not_mem_nil) ⟨(List.forall_mem_cons.mpr ⟨⟨_, rfl, by decide, kw_936⟩, (List.forall_mem_cons.mpr ⟨⟨_, rfl, by decide, kw_937⟩, (List.forall_mem_cons.mpr ⟨⟨_, rfl, by decide, kw_938⟩, (fun _ h => absurd h List.not_mem_nil)⟩)⟩)⟩), (fun _ h => absurd h List.not_mem_nil), (fun _ h => absurd h List.not_mem_nil), (fun _ h => absurd h List.not_mem_nil), (fun _ h => absurd h List.not_mem_nil), (fun _ h => absurd h List.not_mem_nil)⟩ (by decide +kernel) ⟨_, _, rfl⟩ ?_ ?_ ?_ ?_
  · intro as ρ μ h
    obtain ⟨nw, sp, tl, tx, al⟩ := ρ
    obtain ⟨as0, rfl, h0⟩ := mq_pZ_spec h
    clear h
    obtain ⟨rfl, hp⟩ := mq_p0_spec h0
    clear h0
    rfl
  · intro as ρ μ h
    obtain ⟨nw, sp, tl, tx, al⟩ := ρ
    obtain ⟨as0, rfl, h0⟩ := mq_pZ_spec h
    clear h
    obtain ⟨rfl, hp⟩ := mq_p0_spec h0
    clear h0
    intro hrg
    intro hbk
    have e0 : mq_l0 ([.inr (.inr (some (60, 0)))] : List mq_V) 1 = [some (.inr (.inr (some (60, 0))))] := rfl
    rw [e0]
    repeat' (first | refine And.intro ?_ ?_ | intro _)
    all_goals first | omega | rfl | exact trivial | (simp [mq_up] at * <;> omega)
  · intro as ρ μ h
    obtain ⟨nw, sp, tl, tx, al⟩ := ρ
    obtain ⟨as0, rfl, h0⟩ := mq_pZ_spec h
    clear h
    obtain ⟨rfl, hp⟩ := mq_p0_spec h0
    clear h0
    exact fun _ h => absurd h List.not_mem_nil
  · intro as ρ μ h
    obtain ⟨nw, sp, tl, tx, al⟩ := ρ
    obtain ⟨as0, rfl, h0⟩ := mq_pZ_spec h
    clear h
    obtain ⟨rfl, hp⟩ := mq_p0_spec h0
    clear h0
    intro hrg
    exact fun _ h => absurd h List.not_mem_nil
theorem mw0_m_countsNone : mq_mlA cq_m_countsNone 0 := ⟨kw_943, ⟨by decide +kernel, by decide +kernel⟩, by decide +kernel, kw_944, kw_945, kw_771, 60, by decide +kernel, fun as ρ μ h => by obtain ⟨nw, sp, tl, tx, al⟩ := ρ; obtain ⟨t, e, _⟩ := mq_pZ_spec h; exact ⟨0, t, e⟩⟩
def pq_m_counted : List mq_E := [(0, false, .iload 1), (1, false, .ifCond .ne (Int.ofNat 11)), (4, false, .aload 0), (5, false, .invokeinterface 11 33), (8, false, .goto (Int.ofNat 27)), (11, false, .iload 1), (12, false, .iconst 1), (13, false, .if_icmp .ne (Int.ofNat 23)), (16, false, .aload 0), (17, false, .invokeinterface 11 34), (20, false, .goto (Int.ofNat 27)), (23, false, .aload 0), (24, false, .invokeinterface 11 35), (27, false, .ireturn)]
def cq_m_counted : mq_C := ((yX11_counted, cX11_counted, 2, (some .int), { frames := 0, cells := 0, slots := 0, locals := 0 }), (2, 1, 0, 0), 0, (fun as ρ μ => match ρ with
  | (nw, sp, tl, tx, al) => mq_pZ as 60 fun as => mq_pI as fun w as => mq_p0 as (True)),
  (fun as ρ μ r ρ' μ' => match as, ρ, ρ' with
  | [.inr (.inr (some (_, _))), .inl w], (nw, sp, tl, tx, al), (nw', sp', tl', tx', al') => []
  | _, _, _ => []))
def kq_m_counted : List mq_V → mq_R → mq_M → List mq_Cu := fun as ρ μ => match as, ρ with
  | [.inr (.inr (some (_, _))), .inl w], (nw, sp, tl, tx, al) => []
  | _, _ => []
set_option maxHeartbeats 16000000 in
set_option maxRecDepth 100000 in
theorem vq_m_counted (lc : Launch)  : mq_Ct lc cq_m_counted := by
  refine mq_method (lc := lc) (P := pq_m_counted) (cl := []) (T := ([(367, 11, 33), (370, 11, 34), (373, 11, 35)], [], [], [], [], [])) (fuel := 400) (cuts := kq_m_counted) (by decide) rfl ⟨rfl, rfl⟩ (fun _ h => absurd h List.not_mem_nil) ⟨(List.forall_mem_cons.mpr ⟨⟨_, rfl, by decide, kw_936⟩, (List.forall_mem_cons.mpr ⟨⟨_, rfl, by decide, kw_937⟩, (List.forall_mem_cons.mpr ⟨⟨_, rfl, by decide, kw_938⟩, (fun _ h => absurd h List.not_mem_nil)⟩)⟩)⟩), (fun _ h => absurd h List.not_mem_nil), (fun _ h => absurd h List.not_mem_nil), (fun _ h => absurd h List.not_mem_nil), (fun _ h => absurd h List.not_mem_nil), (fun _ h => absurd h List.not_mem_nil)⟩ (by decide +kernel) ⟨_, _, rfl⟩ ?_ ?_ ?_ ?_
  · intro as ρ μ h
    obtain ⟨nw, sp, tl, tx, al⟩ := ρ
    obtain ⟨as0, rfl, h0⟩ := mq_pZ_spec h
    clear h
    obtain ⟨w, as1, rfl, h1⟩ := mq_pI_spec h0
    clear h0
    obtain ⟨rfl, hp⟩ := mq_p0_spec h1
    clear h1
    rfl
  · intro as ρ μ h
    obtain ⟨nw, sp, tl, tx, al⟩ := ρ
    obtain ⟨as0, rfl, h0⟩ := mq_pZ_spec h
    clear h
    obtain ⟨w, as1, rfl, h1⟩ := mq_pI_spec h0
    clear h0
    obtain ⟨rfl, hp⟩ := mq_p0_spec h1
    clear h1
    intro hrg
    obtain ⟨⟨ha1a, ha1b⟩, -⟩ := hrg
    intro hbk
    have e0 : mq_l0 ([.inr (.inr (some (60, 0))), .inl w] : List mq_V) 2 = [some (.inr (.inr (some (60, 0)))), some (.inl w)] := rfl
    rw [e0]
    repeat' (first | refine And.intro ?_ ?_ | intro _)
    all_goals first | omega | rfl | exact trivial | (simp [mq_up] at * <;> omega)
  · intro as ρ μ h
    obtain ⟨nw, sp, tl, tx, al⟩ := ρ
    obtain ⟨as0, rfl, h0⟩ := mq_pZ_spec h
    clear h
    obtain ⟨w, as1, rfl, h1⟩ := mq_pI_spec h0
    clear h0
    obtain ⟨rfl, hp⟩ := mq_p0_spec h1
    clear h1
    exact fun _ h => absurd h List.not_mem_nil
  · intro as ρ μ h
    obtain ⟨nw, sp, tl, tx, al⟩ := ρ
    obtain ⟨as0, rfl, h0⟩ := mq_pZ_spec h
    clear h
    obtain ⟨w, as1, rfl, h1⟩ := mq_pI_spec h0
    clear h0
    obtain ⟨rfl, hp⟩ := mq_p0_spec h1
    clear h1
    intro hrg
    obtain ⟨⟨ha1a, ha1b⟩, -⟩ := hrg
    exact fun _ h => absurd h List.not_mem_nil
theorem mw0_m_counted : mq_mlA cq_m_counted 0 := ⟨kw_951, ⟨by decide +kernel, by decide +kernel⟩, by decide +kernel, kw_952, kw_953, kw_771, 60, by decide +kernel, fun as ρ μ h => by obtain ⟨nw, sp, tl, tx, al⟩ := ρ; obtain ⟨t, e, _⟩ := mq_pZ_spec h; exact ⟨0, t, e⟩⟩
def pq_m_stands : List mq_E := [(0, false, .aload 0), (1, false, .iconst 0), (2, false, .multianewarray 11 0), (5, false, .aload 0), (6, false, .iload 1), (7, false, .iload 2), (8, false, .iload 3), (9, false, .invokestatic 0), (12, false, .ifCond .eq (Int.ofNat 28)), (15, false, .iload 4), (17, false, .i2l), (18, false, .goto_w 0), (19, false, .goto_w 2), (22, false, .invokestatic 1), (25, false, .ifCond .ne (Int.ofNat 31)), (28, false, .iconst (-2)), (30, false, .ireturn), (31, false, .aload 0), (32, false, .iload 1), (33, false, .iload 2), (34, false, .iload 3), (35, false, .invokestatic 2), (38, false, .aload 0), (39, false, .invokestatic 3), (42, false, .iconst 0), (43, false, .istore 5), (45, true, .iload 5), (47, false, .aload 0), (48, false, .invokeinterface 11 17), (51, false, .iconst 0), (52, false, .iaload), (53, false, .if_icmp .gt (Int.ofNat 78)), (56, false, .aload 0), (57, false, .invokeinterface 11 32), (60, false, .iload 5), (62, false, .baload), (63, false, .ifCond .eq (Int.ofNat 72)), (66, false, .aload 0), (67, false, .iload 5), (69, false, .invokestatic 4), (72, false, .iinc 5 1), (75, false, .goto (Int.ofNat 45)), (78, false, .aload 0), (79, false, .iload 4), (81, false, .invokestatic 5), (84, false, .ireturn)]
def cq_m_stands : mq_C := ((yX11_stands, cX11_stands, 6, (some .int), { frames := 4, cells := 0, slots := 0, locals := 101 }), (5, 1, 0, 0), 1813389882343448368906240, (fun as ρ μ => match ρ with
  | (nw, sp, tl, tx, al) => mq_pZ as 60 fun as => mq_pI as fun k as => mq_pI as fun y as => mq_pI as fun v as => mq_pI as fun w as => mq_p0 as (True)),
  (fun as ρ μ r ρ' μ' => match as, ρ, ρ' with
  | [.inr (.inr (some (_, _))), .inl k, .inl y, .inl v, .inl w], (nw, sp, tl, tx, al), (nw', sp', tl', tx', al') => []
  | _, _, _ => []))
def kq_m_stands : List mq_V → mq_R → mq_M → List mq_Cu := fun as ρ μ => match as, ρ with
  | [.inr (.inr (some (_, _))), .inl k, .inl y, .inl v, .inl w], (nw, sp, tl, tx, al) => [(45, [true, true, true, true, true, true], fun N l st ρ' μ' cs => mq_tZ l 60 fun l => mq_tI l fun v1 l => mq_tI l fun v2 l => mq_tI l fun v3 l => mq_tI l fun v4 l => mq_tI l fun v5 l => mq_t0 l (st = [] ∧ ρ' = (nw, sp, tl, tx, al) ∧ cs = 0 ∧ v1 = k ∧ v2 = y ∧ v3 = v ∧ v4 = w ∧ 0 ≤ v5 ∧ v5 ≤ 401 ∧ 0 ≤ (401 - v5 : Int) ∧ (401 - v5 : Int) < (N : Int)))]
  | _, _ => []
set_option maxHeartbeats 16000000 in
set_option maxRecDepth 100000 in
theorem vq_m_stands (lc : Launch) (h_m_isMoving : mq_Ct lc cq_m_isMoving) (h_m_in : mq_Ct lc cq_m_in) (h_m_goesOn : mq_Ct lc cq_m_goesOn) (h_m_countsNone : mq_Ct lc cq_m_countsNone) (h_m_counts : mq_Ct lc cq_m_counts) (h_m_counted : mq_Ct lc cq_m_counted) : mq_Ct lc cq_m_stands := by
  refine mq_method (lc := lc) (P := pq_m_stands) (cl := [cq_m_isMoving, cq_m_in, cq_m_goesOn, cq_m_countsNone, cq_m_counts, cq_m_counted]) (T := ([(120, 11, 0), (34, 11, 17), (78, 11, 32)], [], [(296, 2)], [(324, 0, 0), (125, 1, 1), (376, 2, 0), (380, 3, 0), (383, 4, 0), (386, 5, 0)], [], [])) (fuel := 400) (cuts := kq_m_stands) (by decide) rfl ⟨rfl, rfl⟩ (List.forall_mem_cons.mpr ⟨h_m_isMoving, (List.forall_mem_cons.mpr ⟨h_m_in, (List.forall_mem_cons.mpr ⟨h_m_goesOn, (List.forall_mem_cons.mpr ⟨h_m_countsNone, (List.forall_mem_cons.mpr ⟨h_m_counts, (List.forall_mem_cons.mpr ⟨h_m_counted, (fun _ h => absurd h List.not_mem_nil)⟩)⟩)⟩)⟩)⟩)⟩) ⟨(List.forall_mem_cons.mpr ⟨⟨_, rfl, by decide, kw_773⟩, (List.forall_mem_cons.mpr ⟨⟨_, rfl, by decide, kw_832⟩, (List.forall_mem_cons.mpr ⟨⟨_, rfl, by decide, kw_935⟩, (fun _ h => absurd h List.not_mem_nil)⟩)⟩)⟩), (fun _ h => absurd h List.not_mem_nil), (List.forall_mem_cons.mpr ⟨kw_850, (fun _ h => absurd h List.not_mem_nil)⟩), (List.forall_mem_cons.mpr ⟨mq_ml0 rfl mw0_m_isMoving kw_891, (List.forall_mem_cons.mpr ⟨mq_ml1 rfl mw1_m_in kw_772, (List.forall_mem_cons.mpr ⟨mq_ml0 rfl mw0_m_goesOn kw_942, (List.forall_mem_cons.mpr ⟨mq_ml0 rfl mw0_m_countsNone kw_946, (List.forall_mem_cons.mpr ⟨mq_ml0 rfl mw0_m_counts kw_950, (List.forall_mem_cons.mpr ⟨mq_ml0 rfl mw0_m_counted kw_954, (fun _ h => absurd h List.not_mem_nil)⟩)⟩)⟩)⟩)⟩)⟩), (fun _ h => absurd h List.not_mem_nil), (fun _ h => absurd h List.not_mem_nil)⟩ (by decide +kernel) ⟨_, _, rfl⟩ ?_ ?_ ?_ ?_
  · intro as ρ μ h
    obtain ⟨nw, sp, tl, tx, al⟩ := ρ
    obtain ⟨as0, rfl, h0⟩ := mq_pZ_spec h
    clear h
    obtain ⟨k, as1, rfl, h1⟩ := mq_pI_spec h0
    clear h0
    obtain ⟨y, as2, rfl, h2⟩ := mq_pI_spec h1
    clear h1
    obtain ⟨v, as3, rfl, h3⟩ := mq_pI_spec h2
    clear h2
    obtain ⟨w, as4, rfl, h4⟩ := mq_pI_spec h3
    clear h3
    obtain ⟨rfl, hp⟩ := mq_p0_spec h4
    clear h4
    rfl
  · intro as ρ μ h
    obtain ⟨nw, sp, tl, tx, al⟩ := ρ
    obtain ⟨as0, rfl, h0⟩ := mq_pZ_spec h
    clear h
    obtain ⟨k, as1, rfl, h1⟩ := mq_pI_spec h0
    clear h0
    obtain ⟨y, as2, rfl, h2⟩ := mq_pI_spec h1
    clear h1
    obtain ⟨v, as3, rfl, h3⟩ := mq_pI_spec h2
    clear h2
    obtain ⟨w, as4, rfl, h4⟩ := mq_pI_spec h3
    clear h3
    obtain ⟨rfl, hp⟩ := mq_p0_spec h4
    clear h4
    intro hrg
    obtain ⟨⟨ha1a, ha1b⟩, ⟨ha2a, ha2b⟩, ⟨ha3a, ha3b⟩, ⟨ha4a, ha4b⟩, -⟩ := hrg
    intro hbk
    have hk0 : 0 ≤ μ (67, 0) 0 ∧ μ (67, 0) 0 ≤ 400 := hbk (67, 0) 0
    have e0 : mq_l0 ([.inr (.inr (some (60, 0))), .inl k, .inl y, .inl v, .inl w] : List mq_V) 6 = [some (.inr (.inr (some (60, 0)))), some (.inl k), some (.inl y), some (.inl v), some (.inl w), none] := rfl
    rw [e0]
    repeat' (first | refine And.intro ?_ ?_ | intro _)
    all_goals try simp only [Int.reduceToNat, Int.reduceAdd, mq_up_f, mq_up_s, mq_up_e, ne_eq, Nat.reduceEqDiff, not_false_eq_true, true_and, and_true, false_and, and_false, false_or, or_false, true_or, or_true, true_implies] at *
    all_goals first | omega | rfl | exact trivial | assumption
  · intro as ρ μ h
    obtain ⟨nw, sp, tl, tx, al⟩ := ρ
    obtain ⟨as0, rfl, h0⟩ := mq_pZ_spec h
    clear h
    obtain ⟨k, as1, rfl, h1⟩ := mq_pI_spec h0
    clear h0
    obtain ⟨y, as2, rfl, h2⟩ := mq_pI_spec h1
    clear h1
    obtain ⟨v, as3, rfl, h3⟩ := mq_pI_spec h2
    clear h2
    obtain ⟨w, as4, rfl, h4⟩ := mq_pI_spec h3
    clear h3
    obtain ⟨rfl, hp⟩ := mq_p0_spec h4
    clear h4
    refine List.forall_mem_cons.mpr ⟨?_, ?_⟩
    · intro l st ρ' μ' cs hJ
      obtain ⟨l0, rfl, hJ0⟩ := mq_tZ_spec hJ
      clear hJ
      obtain ⟨v1, l1, rfl, hJ1⟩ := mq_tI_spec hJ0
      clear hJ0
      obtain ⟨v2, l2, rfl, hJ2⟩ := mq_tI_spec hJ1
      clear hJ1
      obtain ⟨v3, l3, rfl, hJ3⟩ := mq_tI_spec hJ2
      clear hJ2
      obtain ⟨v4, l4, rfl, hJ4⟩ := mq_tI_spec hJ3
      clear hJ3
      obtain ⟨v5, l5, rfl, hJ5⟩ := mq_tI_spec hJ4
      clear hJ4
      obtain ⟨rfl, hJz⟩ := mq_t0_spec hJ5
      clear hJ5
      obtain ⟨rfl, rfl, rfl, hc0, hc1, hc2, hc3, hc4, hc5, hm0, hm1⟩ := hJz
      omega
    exact fun _ h => absurd h List.not_mem_nil
  · intro as ρ μ h
    obtain ⟨nw, sp, tl, tx, al⟩ := ρ
    obtain ⟨as0, rfl, h0⟩ := mq_pZ_spec h
    clear h
    obtain ⟨k, as1, rfl, h1⟩ := mq_pI_spec h0
    clear h0
    obtain ⟨y, as2, rfl, h2⟩ := mq_pI_spec h1
    clear h1
    obtain ⟨v, as3, rfl, h3⟩ := mq_pI_spec h2
    clear h2
    obtain ⟨w, as4, rfl, h4⟩ := mq_pI_spec h3
    clear h3
    obtain ⟨rfl, hp⟩ := mq_p0_spec h4
    clear h4
    intro hrg
    obtain ⟨⟨ha1a, ha1b⟩, ⟨ha2a, ha2b⟩, ⟨ha3a, ha3b⟩, ⟨ha4a, ha4b⟩, -⟩ := hrg
    refine List.forall_mem_cons.mpr ⟨?_, ?_⟩
    · intro N l st ρ' μ' cs hJ
      obtain ⟨l0, rfl, hJ0⟩ := mq_tZ_spec hJ
      clear hJ
      obtain ⟨v1, l1, rfl, hJ1⟩ := mq_tI_spec hJ0
      clear hJ0
      obtain ⟨v2, l2, rfl, hJ2⟩ := mq_tI_spec hJ1
      clear hJ1
      obtain ⟨v3, l3, rfl, hJ3⟩ := mq_tI_spec hJ2
      clear hJ2
      obtain ⟨v4, l4, rfl, hJ4⟩ := mq_tI_spec hJ3
      clear hJ3
      obtain ⟨v5, l5, rfl, hJ5⟩ := mq_tI_spec hJ4
      clear hJ4
      obtain ⟨rfl, hJz⟩ := mq_t0_spec hJ5
      clear hJ5
      obtain ⟨rfl, rfl, rfl, hc0, hc1, hc2, hc3, hc4, hc5, hm0, hm1⟩ := hJz
      intro hbk hrl
      have hk0 : 0 ≤ μ' (67, 0) 0 ∧ μ' (67, 0) 0 ≤ 400 := hbk (67, 0) 0
      obtain ⟨⟨hl1a, hl1b⟩, ⟨hl2a, hl2b⟩, ⟨hl3a, hl3b⟩, ⟨hl4a, hl4b⟩, ⟨hl5a, hl5b⟩, -⟩ := hrl
      repeat' (first | refine And.intro ?_ ?_ | intro _)
      all_goals try simp only [Int.reduceToNat, Int.reduceAdd, mq_up_f, mq_up_s, mq_up_e, ne_eq, Nat.reduceEqDiff, not_false_eq_true, true_and, and_true, false_and, and_false, false_or, or_false, true_or, or_true, true_implies] at *
      all_goals first | omega | rfl | exact trivial | assumption
    exact fun _ h => absurd h List.not_mem_nil
def pq_m_posts : List mq_E := [(0, false, .aload 0), (1, false, .iconst 0), (2, false, .multianewarray 11 0), (5, false, .aload 0), (6, false, .iload 1), (7, false, .invokestatic 0), (10, false, .ifCond .eq (Int.ofNat 46)), (13, false, .aload 0), (14, false, .iload 2), (15, false, .invokestatic 1), (18, false, .ifCond .eq (Int.ofNat 46)), (21, false, .iload 3), (22, false, .i2l), (23, false, .goto_w 1), (24, false, .goto_w 15), (27, false, .invokestatic 2), (30, false, .ifCond .eq (Int.ofNat 46)), (33, false, .iload 4), (35, false, .i2l), (36, false, .goto_w 0), (37, false, .goto_w 2), (40, false, .invokestatic 2), (43, false, .ifCond .ne (Int.ofNat 49)), (46, false, .iconst (-2)), (48, false, .ireturn), (49, false, .aload 0), (50, false, .iconst 16), (52, false, .iload 1), (53, false, .iload 2), (54, false, .iconst 3), (55, false, .invokestatic 3), (58, false, .aload 0), (59, false, .invokestatic 4), (62, false, .iconst 0), (63, false, .istore 5), (65, true, .iload 5), (67, false, .aload 0), (68, false, .invokeinterface 11 17), (71, false, .iconst 0), (72, false, .iaload), (73, false, .if_icmp .gt (Int.ofNat 102)), (76, false, .aload 0), (77, false, .iconst 16), (79, false, .iload 5), (81, false, .iload 3), (82, false, .invokestatic 5), (85, false, .iconst 1000000), (87, false, .if_icmp .ge (Int.ofNat 96)), (90, false, .aload 0), (91, false, .iload 5), (93, false, .invokestatic 6), (96, false, .iinc 5 1), (99, false, .goto (Int.ofNat 65)), (102, false, .aload 0), (103, false, .iload 4), (105, false, .invokestatic 7), (108, false, .ireturn)]
def cq_m_posts : mq_C := ((yX11_posts, cX11_posts, 6, (some .int), { frames := 5, cells := 0, slots := 0, locals := 131 }), (5, 1, 0, 0), 302232607825161900523520, (fun as ρ μ => match ρ with
  | (nw, sp, tl, tx, al) => mq_pZ as 60 fun as => mq_pI as fun k as => mq_pI as fun p as => mq_pI as fun v as => mq_pI as fun w as => mq_p0 as (True)),
  (fun as ρ μ r ρ' μ' => match as, ρ, ρ' with
  | [.inr (.inr (some (_, _))), .inl k, .inl p, .inl v, .inl w], (nw, sp, tl, tx, al), (nw', sp', tl', tx', al') => []
  | _, _, _ => []))
def kq_m_posts : List mq_V → mq_R → mq_M → List mq_Cu := fun as ρ μ => match as, ρ with
  | [.inr (.inr (some (_, _))), .inl k, .inl p, .inl v, .inl w], (nw, sp, tl, tx, al) => [(65, [true, true, true, true, true, true], fun N l st ρ' μ' cs => mq_tZ l 60 fun l => mq_tI l fun v1 l => mq_tI l fun v2 l => mq_tI l fun v3 l => mq_tI l fun v4 l => mq_tI l fun v5 l => mq_t0 l (st = [] ∧ ρ' = (nw, sp, tl, tx, al) ∧ cs = 0 ∧ v1 = k ∧ v2 = p ∧ v3 = v ∧ v4 = w ∧ 0 ≤ v5 ∧ v5 ≤ 401 ∧ 1 ≤ v ∧ v ≤ 15 ∧ 0 ≤ (401 - v5 : Int) ∧ (401 - v5 : Int) < (N : Int)))]
  | _, _ => []
set_option maxHeartbeats 16000000 in
set_option maxRecDepth 100000 in
theorem vq_m_posts (lc : Launch) (h_m_isKind : mq_Ct lc cq_m_isKind) (h_m_isPlatform : mq_Ct lc cq_m_isPlatform) (h_m_in : mq_Ct lc cq_m_in) (h_m_lays : mq_Ct lc cq_m_lays) (h_m_countsNone : mq_Ct lc cq_m_countsNone) (h_m_sumOf : mq_Ct lc cq_m_sumOf) (h_m_counts : mq_Ct lc cq_m_counts) (h_m_counted : mq_Ct lc cq_m_counted) : mq_Ct lc cq_m_posts := by
  refine mq_method (lc := lc) (P := pq_m_posts) (cl := [cq_m_isKind, cq_m_isPlatform, cq_m_in, cq_m_lays, cq_m_countsNone, cq_m_sumOf, cq_m_counts, cq_m_counted]) (T := ([(120, 11, 0), (34, 11, 17)], [(171, 1000000)], [(296, 2), (322, 15)], [(319, 0, 0), (352, 1, 0), (125, 2, 1), (359, 3, 0), (380, 4, 0), (348, 5, 0), (383, 6, 0), (386, 7, 0)], [], [])) (fuel := 400) (cuts := kq_m_posts) (by decide) rfl ⟨rfl, rfl⟩ (List.forall_mem_cons.mpr ⟨h_m_isKind, (List.forall_mem_cons.mpr ⟨h_m_isPlatform, (List.forall_mem_cons.mpr ⟨h_m_in, (List.forall_mem_cons.mpr ⟨h_m_lays, (List.forall_mem_cons.mpr ⟨h_m_countsNone, (List.forall_mem_cons.mpr ⟨h_m_sumOf, (List.forall_mem_cons.mpr ⟨h_m_counts, (List.forall_mem_cons.mpr ⟨h_m_counted, (fun _ h => absurd h List.not_mem_nil)⟩)⟩)⟩)⟩)⟩)⟩)⟩)⟩) ⟨(List.forall_mem_cons.mpr ⟨⟨_, rfl, by decide, kw_773⟩, (List.forall_mem_cons.mpr ⟨⟨_, rfl, by decide, kw_832⟩, (fun _ h => absurd h List.not_mem_nil)⟩)⟩), (List.forall_mem_cons.mpr ⟨kw_796, (fun _ h => absurd h List.not_mem_nil)⟩), (List.forall_mem_cons.mpr ⟨kw_850, (List.forall_mem_cons.mpr ⟨kw_883, (fun _ h => absurd h List.not_mem_nil)⟩)⟩), (List.forall_mem_cons.mpr ⟨mq_ml0 rfl mw0_m_isKind kw_887, (List.forall_mem_cons.mpr ⟨mq_ml0 rfl mw0_m_isPlatform kw_921, (List.forall_mem_cons.mpr ⟨mq_ml1 rfl mw1_m_in kw_772, (List.forall_mem_cons.mpr ⟨mq_ml0 rfl mw0_m_lays kw_929, (List.forall_mem_cons.mpr ⟨mq_ml0 rfl mw0_m_countsNone kw_946, (List.forall_mem_cons.mpr ⟨mq_ml0 rfl mw0_m_sumOf kw_917, (List.forall_mem_cons.mpr ⟨mq_ml0 rfl mw0_m_counts kw_950, (List.forall_mem_cons.mpr ⟨mq_ml0 rfl mw0_m_counted kw_954, (fun _ h => absurd h List.not_mem_nil)⟩)⟩)⟩)⟩)⟩)⟩)⟩)⟩), (fun _ h => absurd h List.not_mem_nil), (fun _ h => absurd h List.not_mem_nil)⟩ (by decide +kernel) ⟨_, _, rfl⟩ ?_ ?_ ?_ ?_
  · intro as ρ μ h
    obtain ⟨nw, sp, tl, tx, al⟩ := ρ
    obtain ⟨as0, rfl, h0⟩ := mq_pZ_spec h
    clear h
    obtain ⟨k, as1, rfl, h1⟩ := mq_pI_spec h0
    clear h0
    obtain ⟨p, as2, rfl, h2⟩ := mq_pI_spec h1
    clear h1
    obtain ⟨v, as3, rfl, h3⟩ := mq_pI_spec h2
    clear h2
    obtain ⟨w, as4, rfl, h4⟩ := mq_pI_spec h3
    clear h3
    obtain ⟨rfl, hp⟩ := mq_p0_spec h4
    clear h4
    rfl
  · intro as ρ μ h
    obtain ⟨nw, sp, tl, tx, al⟩ := ρ
    obtain ⟨as0, rfl, h0⟩ := mq_pZ_spec h
    clear h
    obtain ⟨k, as1, rfl, h1⟩ := mq_pI_spec h0
    clear h0
    obtain ⟨p, as2, rfl, h2⟩ := mq_pI_spec h1
    clear h1
    obtain ⟨v, as3, rfl, h3⟩ := mq_pI_spec h2
    clear h2
    obtain ⟨w, as4, rfl, h4⟩ := mq_pI_spec h3
    clear h3
    obtain ⟨rfl, hp⟩ := mq_p0_spec h4
    clear h4
    intro hrg
    obtain ⟨⟨ha1a, ha1b⟩, ⟨ha2a, ha2b⟩, ⟨ha3a, ha3b⟩, ⟨ha4a, ha4b⟩, -⟩ := hrg
    intro hbk
    have hk0 : 0 ≤ μ (67, 0) 0 ∧ μ (67, 0) 0 ≤ 400 := hbk (67, 0) 0
    have e0 : mq_l0 ([.inr (.inr (some (60, 0))), .inl k, .inl p, .inl v, .inl w] : List mq_V) 6 = [some (.inr (.inr (some (60, 0)))), some (.inl k), some (.inl p), some (.inl v), some (.inl w), none] := rfl
    rw [e0]
    repeat' (first | refine And.intro ?_ ?_ | intro _)
    all_goals try simp only [Int.reduceToNat, Int.reduceAdd, mq_up_f, mq_up_s, mq_up_e, ne_eq, Nat.reduceEqDiff, not_false_eq_true, true_and, and_true, false_and, and_false, false_or, or_false, true_or, or_true, true_implies] at *
    all_goals first | omega | rfl | exact trivial | assumption
  · intro as ρ μ h
    obtain ⟨nw, sp, tl, tx, al⟩ := ρ
    obtain ⟨as0, rfl, h0⟩ := mq_pZ_spec h
    clear h
    obtain ⟨k, as1, rfl, h1⟩ := mq_pI_spec h0
    clear h0
    obtain ⟨p, as2, rfl, h2⟩ := mq_pI_spec h1
    clear h1
    obtain ⟨v, as3, rfl, h3⟩ := mq_pI_spec h2
    clear h2
    obtain ⟨w, as4, rfl, h4⟩ := mq_pI_spec h3
    clear h3
    obtain ⟨rfl, hp⟩ := mq_p0_spec h4
    clear h4
    refine List.forall_mem_cons.mpr ⟨?_, ?_⟩
    · intro l st ρ' μ' cs hJ
      obtain ⟨l0, rfl, hJ0⟩ := mq_tZ_spec hJ
      clear hJ
      obtain ⟨v1, l1, rfl, hJ1⟩ := mq_tI_spec hJ0
      clear hJ0
      obtain ⟨v2, l2, rfl, hJ2⟩ := mq_tI_spec hJ1
      clear hJ1
      obtain ⟨v3, l3, rfl, hJ3⟩ := mq_tI_spec hJ2
      clear hJ2
      obtain ⟨v4, l4, rfl, hJ4⟩ := mq_tI_spec hJ3
      clear hJ3
      obtain ⟨v5, l5, rfl, hJ5⟩ := mq_tI_spec hJ4
      clear hJ4
      obtain ⟨rfl, hJz⟩ := mq_t0_spec hJ5
      clear hJ5
      obtain ⟨rfl, rfl, rfl, hc0, hc1, hc2, hc3, hc4, hc5, hc6, hc7, hm0, hm1⟩ := hJz
      omega
    exact fun _ h => absurd h List.not_mem_nil
  · intro as ρ μ h
    obtain ⟨nw, sp, tl, tx, al⟩ := ρ
    obtain ⟨as0, rfl, h0⟩ := mq_pZ_spec h
    clear h
    obtain ⟨k, as1, rfl, h1⟩ := mq_pI_spec h0
    clear h0
    obtain ⟨p, as2, rfl, h2⟩ := mq_pI_spec h1
    clear h1
    obtain ⟨v, as3, rfl, h3⟩ := mq_pI_spec h2
    clear h2
    obtain ⟨w, as4, rfl, h4⟩ := mq_pI_spec h3
    clear h3
    obtain ⟨rfl, hp⟩ := mq_p0_spec h4
    clear h4
    intro hrg
    obtain ⟨⟨ha1a, ha1b⟩, ⟨ha2a, ha2b⟩, ⟨ha3a, ha3b⟩, ⟨ha4a, ha4b⟩, -⟩ := hrg
    refine List.forall_mem_cons.mpr ⟨?_, ?_⟩
    · intro N l st ρ' μ' cs hJ
      obtain ⟨l0, rfl, hJ0⟩ := mq_tZ_spec hJ
      clear hJ
      obtain ⟨v1, l1, rfl, hJ1⟩ := mq_tI_spec hJ0
      clear hJ0
      obtain ⟨v2, l2, rfl, hJ2⟩ := mq_tI_spec hJ1
      clear hJ1
      obtain ⟨v3, l3, rfl, hJ3⟩ := mq_tI_spec hJ2
      clear hJ2
      obtain ⟨v4, l4, rfl, hJ4⟩ := mq_tI_spec hJ3
      clear hJ3
      obtain ⟨v5, l5, rfl, hJ5⟩ := mq_tI_spec hJ4
      clear hJ4
      obtain ⟨rfl, hJz⟩ := mq_t0_spec hJ5
      clear hJ5
      obtain ⟨rfl, rfl, rfl, hc0, hc1, hc2, hc3, hc4, hc5, hc6, hc7, hm0, hm1⟩ := hJz
      intro hbk hrl
      have hk0 : 0 ≤ μ' (67, 0) 0 ∧ μ' (67, 0) 0 ≤ 400 := hbk (67, 0) 0
      obtain ⟨⟨hl1a, hl1b⟩, ⟨hl2a, hl2b⟩, ⟨hl3a, hl3b⟩, ⟨hl4a, hl4b⟩, ⟨hl5a, hl5b⟩, -⟩ := hrl
      repeat' (first | refine And.intro ?_ ?_ | intro _)
      all_goals try simp only [Int.reduceToNat, Int.reduceAdd, mq_up_f, mq_up_s, mq_up_e, ne_eq, Nat.reduceEqDiff, not_false_eq_true, true_and, and_true, false_and, and_false, false_or, or_false, true_or, or_true, true_implies] at *
      all_goals first | omega | rfl | exact trivial | assumption
    exact fun _ h => absurd h List.not_mem_nil
def pq_m_speeds : List mq_E := [(0, false, .aload 0), (1, false, .iconst 0), (2, false, .multianewarray 11 0), (5, false, .aload 0), (6, false, .iload 1), (7, false, .invokestatic 0), (10, false, .ifCond .eq (Int.ofNat 29)), (13, false, .aload 0), (14, false, .iload 2), (15, false, .invokestatic 1), (18, false, .ifCond .eq (Int.ofNat 29)), (21, false, .aload 0), (22, false, .iload 3), (23, false, .invokestatic 2), (26, false, .ifCond .ne (Int.ofNat 32)), (29, false, .iconst (-2)), (31, false, .ireturn), (32, false, .aload 0), (33, false, .iconst 16), (35, false, .iload 1), (36, false, .iload 2), (37, false, .iconst 3), (38, false, .invokestatic 3), (41, false, .iconst 0), (42, false, .istore 4), (44, false, .iconst 1), (45, false, .istore 5), (47, true, .iload 5), (49, false, .iconst 15), (51, false, .if_icmp .gt (Int.ofNat 87)), (54, false, .iload 4), (56, false, .aload 0), (57, false, .iconst 16), (59, false, .iload 3), (60, false, .iload 5), (62, false, .invokestatic 4), (65, false, .iconst 1000000), (67, false, .if_icmp .ge (Int.ofNat 77)), (70, false, .iconst 1), (71, false, .iload 5), (73, false, .ishl), (74, false, .goto (Int.ofNat 78)), (77, false, .iconst 0), (78, false, .ior), (79, false, .istore 4), (81, false, .iinc 5 1), (84, false, .goto (Int.ofNat 47)), (87, false, .iload 4), (89, false, .ireturn)]
def cq_m_speeds : mq_C := ((yX11_speeds, cX11_speeds, 6, (some .int), { frames := 5, cells := 0, slots := 0, locals := 131 }), (4, 1, 0, 0), 302232607825161900523520, (fun as ρ μ => match ρ with
  | (nw, sp, tl, tx, al) => mq_pZ as 60 fun as => mq_pI as fun k as => mq_pI as fun p as => mq_pI as fun y as => mq_p0 as (True)),
  (fun as ρ μ r ρ' μ' => match as, ρ, ρ' with
  | [.inr (.inr (some (_, _))), .inl k, .inl p, .inl y], (nw, sp, tl, tx, al), (nw', sp', tl', tx', al') => []
  | _, _, _ => []))
def kq_m_speeds : List mq_V → mq_R → mq_M → List mq_Cu := fun as ρ μ => match as, ρ with
  | [.inr (.inr (some (_, _))), .inl k, .inl p, .inl y], (nw, sp, tl, tx, al) => [(47, [true, true, true, true, true, true], fun N l st ρ' μ' cs => mq_tZ l 60 fun l => mq_tI l fun v1 l => mq_tI l fun v2 l => mq_tI l fun v3 l => mq_tI l fun v4 l => mq_tI l fun v5 l => mq_t0 l (st = [] ∧ ρ' = (nw, sp, tl, tx, al) ∧ cs = 0 ∧ v1 = k ∧ v2 = p ∧ v3 = y ∧ 1 ≤ v5 ∧ v5 ≤ 16 ∧ 0 ≤ y ∧ y ≤ 400 ∧ 0 ≤ (16 - v5 : Int) ∧ (16 - v5 : Int) < (N : Int)))]
  | _, _ => []
set_option maxHeartbeats 16000000 in
set_option maxRecDepth 100000 in
theorem vq_m_speeds (lc : Launch) (h_m_isKind : mq_Ct lc cq_m_isKind) (h_m_isPlatform : mq_Ct lc cq_m_isPlatform) (h_m_isYard : mq_Ct lc cq_m_isYard) (h_m_lays : mq_Ct lc cq_m_lays) (h_m_sumOf : mq_Ct lc cq_m_sumOf) : mq_Ct lc cq_m_speeds := by
  refine mq_method (lc := lc) (P := pq_m_speeds) (cl := [cq_m_isKind, cq_m_isPlatform, cq_m_isYard, cq_m_lays, cq_m_sumOf]) (T := ([(120, 11, 0)], [(171, 1000000)], [], [(319, 0, 0), (352, 1, 0), (293, 2, 0), (359, 3, 0), (348, 4, 0)], [], [])) (fuel := 400) (cuts := kq_m_speeds) (by decide) rfl ⟨rfl, rfl⟩ (List.forall_mem_cons.mpr ⟨h_m_isKind, (List.forall_mem_cons.mpr ⟨h_m_isPlatform, (List.forall_mem_cons.mpr ⟨h_m_isYard, (List.forall_mem_cons.mpr ⟨h_m_lays, (List.forall_mem_cons.mpr ⟨h_m_sumOf, (fun _ h => absurd h List.not_mem_nil)⟩)⟩)⟩)⟩)⟩) ⟨(List.forall_mem_cons.mpr ⟨⟨_, rfl, by decide, kw_773⟩, (fun _ h => absurd h List.not_mem_nil)⟩), (List.forall_mem_cons.mpr ⟨kw_796, (fun _ h => absurd h List.not_mem_nil)⟩), (fun _ h => absurd h List.not_mem_nil), (List.forall_mem_cons.mpr ⟨mq_ml0 rfl mw0_m_isKind kw_887, (List.forall_mem_cons.mpr ⟨mq_ml0 rfl mw0_m_isPlatform kw_921, (List.forall_mem_cons.mpr ⟨mq_ml0 rfl mw0_m_isYard kw_854, (List.forall_mem_cons.mpr ⟨mq_ml0 rfl mw0_m_lays kw_929, (List.forall_mem_cons.mpr ⟨mq_ml0 rfl mw0_m_sumOf kw_917, (fun _ h => absurd h List.not_mem_nil)⟩)⟩)⟩)⟩)⟩), (fun _ h => absurd h List.not_mem_nil), (fun _ h => absurd h List.not_mem_nil)⟩ (by decide +kernel) ⟨_, _, rfl⟩ ?_ ?_ ?_ ?_
  · intro as ρ μ h
    obtain ⟨nw, sp, tl, tx, al⟩ := ρ
    obtain ⟨as0, rfl, h0⟩ := mq_pZ_spec h
    clear h
    obtain ⟨k, as1, rfl, h1⟩ := mq_pI_spec h0
    clear h0
    obtain ⟨p, as2, rfl, h2⟩ := mq_pI_spec h1
    clear h1
    obtain ⟨y, as3, rfl, h3⟩ := mq_pI_spec h2
    clear h2
    obtain ⟨rfl, hp⟩ := mq_p0_spec h3
    clear h3
    rfl
  · intro as ρ μ h
    obtain ⟨nw, sp, tl, tx, al⟩ := ρ
    obtain ⟨as0, rfl, h0⟩ := mq_pZ_spec h
    clear h
    obtain ⟨k, as1, rfl, h1⟩ := mq_pI_spec h0
    clear h0
    obtain ⟨p, as2, rfl, h2⟩ := mq_pI_spec h1
    clear h1
    obtain ⟨y, as3, rfl, h3⟩ := mq_pI_spec h2
    clear h2
    obtain ⟨rfl, hp⟩ := mq_p0_spec h3
    clear h3
    intro hrg
    obtain ⟨⟨ha1a, ha1b⟩, ⟨ha2a, ha2b⟩, ⟨ha3a, ha3b⟩, -⟩ := hrg
    intro hbk
    have e0 : mq_l0 ([.inr (.inr (some (60, 0))), .inl k, .inl p, .inl y] : List mq_V) 6 = [some (.inr (.inr (some (60, 0)))), some (.inl k), some (.inl p), some (.inl y), none, none] := rfl
    rw [e0]
    repeat' (first | refine And.intro ?_ ?_ | intro _)
    all_goals try simp only [Int.reduceToNat, Int.reduceAdd, mq_up_f, mq_up_s, mq_up_e, ne_eq, Nat.reduceEqDiff, not_false_eq_true, true_and, and_true, false_and, and_false, false_or, or_false, true_or, or_true, true_implies] at *
    all_goals first | omega | rfl | exact trivial | assumption
  · intro as ρ μ h
    obtain ⟨nw, sp, tl, tx, al⟩ := ρ
    obtain ⟨as0, rfl, h0⟩ := mq_pZ_spec h
    clear h
    obtain ⟨k, as1, rfl, h1⟩ := mq_pI_spec h0
    clear h0
    obtain ⟨p, as2, rfl, h2⟩ := mq_pI_spec h1
    clear h1
    obtain ⟨y, as3, rfl, h3⟩ := mq_pI_spec h2
    clear h2
    obtain ⟨rfl, hp⟩ := mq_p0_spec h3
    clear h3
    refine List.forall_mem_cons.mpr ⟨?_, ?_⟩
    · intro l st ρ' μ' cs hJ
      obtain ⟨l0, rfl, hJ0⟩ := mq_tZ_spec hJ
      clear hJ
      obtain ⟨v1, l1, rfl, hJ1⟩ := mq_tI_spec hJ0
      clear hJ0
      obtain ⟨v2, l2, rfl, hJ2⟩ := mq_tI_spec hJ1
      clear hJ1
      obtain ⟨v3, l3, rfl, hJ3⟩ := mq_tI_spec hJ2
      clear hJ2
      obtain ⟨v4, l4, rfl, hJ4⟩ := mq_tI_spec hJ3
      clear hJ3
      obtain ⟨v5, l5, rfl, hJ5⟩ := mq_tI_spec hJ4
      clear hJ4
      obtain ⟨rfl, hJz⟩ := mq_t0_spec hJ5
      clear hJ5
      obtain ⟨rfl, rfl, rfl, hc0, hc1, hc2, hc3, hc4, hc5, hc6, hm0, hm1⟩ := hJz
      omega
    exact fun _ h => absurd h List.not_mem_nil
  · intro as ρ μ h
    obtain ⟨nw, sp, tl, tx, al⟩ := ρ
    obtain ⟨as0, rfl, h0⟩ := mq_pZ_spec h
    clear h
    obtain ⟨k, as1, rfl, h1⟩ := mq_pI_spec h0
    clear h0
    obtain ⟨p, as2, rfl, h2⟩ := mq_pI_spec h1
    clear h1
    obtain ⟨y, as3, rfl, h3⟩ := mq_pI_spec h2
    clear h2
    obtain ⟨rfl, hp⟩ := mq_p0_spec h3
    clear h3
    intro hrg
    obtain ⟨⟨ha1a, ha1b⟩, ⟨ha2a, ha2b⟩, ⟨ha3a, ha3b⟩, -⟩ := hrg
    refine List.forall_mem_cons.mpr ⟨?_, ?_⟩
    · intro N l st ρ' μ' cs hJ
      obtain ⟨l0, rfl, hJ0⟩ := mq_tZ_spec hJ
      clear hJ
      obtain ⟨v1, l1, rfl, hJ1⟩ := mq_tI_spec hJ0
      clear hJ0
      obtain ⟨v2, l2, rfl, hJ2⟩ := mq_tI_spec hJ1
      clear hJ1
      obtain ⟨v3, l3, rfl, hJ3⟩ := mq_tI_spec hJ2
      clear hJ2
      obtain ⟨v4, l4, rfl, hJ4⟩ := mq_tI_spec hJ3
      clear hJ3
      obtain ⟨v5, l5, rfl, hJ5⟩ := mq_tI_spec hJ4
      clear hJ4
      obtain ⟨rfl, hJz⟩ := mq_t0_spec hJ5
      clear hJ5
      obtain ⟨rfl, rfl, rfl, hc0, hc1, hc2, hc3, hc4, hc5, hc6, hm0, hm1⟩ := hJz
      intro hbk hrl
      obtain ⟨⟨hl1a, hl1b⟩, ⟨hl2a, hl2b⟩, ⟨hl3a, hl3b⟩, ⟨hl4a, hl4b⟩, ⟨hl5a, hl5b⟩, -⟩ := hrl
      repeat' (first | refine And.intro ?_ ?_ | intro _)
      all_goals try simp only [Int.reduceToNat, Int.reduceAdd, mq_up_f, mq_up_s, mq_up_e, ne_eq, Nat.reduceEqDiff, not_false_eq_true, true_and, and_true, false_and, and_false, false_or, or_false, true_or, or_true, true_implies] at *
      all_goals first | omega | rfl | exact trivial | assumption
    exact fun _ h => absurd h List.not_mem_nil
def pq_m_wetter : List mq_E := [(0, false, .aload 0), (1, false, .iconst 0), (2, false, .multianewarray 11 0), (5, false, .aload 0), (6, false, .iload 1), (7, false, .iload 2), (8, false, .iload 3), (9, false, .iload 4), (11, false, .invokestatic 0), (14, false, .ifCond .ne (Int.ofNat 20)), (17, false, .iconst (-2)), (19, false, .ireturn), (20, false, .aload 0), (21, false, .invokeinterface 11 18), (24, false, .iconst 0), (25, false, .iaload), (26, false, .istore 5), (28, false, .iconst 0), (29, false, .istore 6), (31, false, .iconst 1), (32, false, .istore 7), (34, true, .iload 7), (36, false, .ifCond .eq (Int.ofNat 102)), (39, false, .iload 6), (41, false, .iconst 100), (43, false, .if_icmp .gt (Int.ofNat 102)), (46, false, .aload 0), (47, false, .invokeinterface 11 18), (50, false, .iconst 0), (51, false, .iload 6), (53, false, .iastore), (54, false, .aload 0), (55, false, .iconst 16), (57, false, .iload 1), (58, false, .iload 2), (59, false, .iconst 3), (60, false, .invokestatic 1), (63, false, .aload 0), (64, false, .iconst 16), (66, false, .iload 3), (67, false, .iload 4), (69, false, .invokestatic 2), (72, false, .iconst 1000000), (74, false, .if_icmp .ge (Int.ofNat 81)), (77, false, .iconst 1), (78, false, .goto (Int.ofNat 82)), (81, false, .iconst 0), (82, false, .istore 7), (84, false, .iload 6), (86, false, .iload 7), (88, false, .ifCond .eq (Int.ofNat 95)), (91, false, .iconst 1), (92, false, .goto (Int.ofNat 96)), (95, false, .iconst 0), (96, false, .iadd), (97, false, .istore 6), (99, false, .goto (Int.ofNat 34)), (102, false, .aload 0), (103, false, .invokeinterface 11 18), (106, false, .iconst 0), (107, false, .iload 5), (109, false, .iastore), (110, false, .iload 6), (112, false, .iconst 1), (113, false, .isub), (114, false, .ireturn)]
def cq_m_wetter : mq_C := ((yX11_wetter, cX11_wetter, 8, (some .int), { frames := 5, cells := 0, slots := 0, locals := 131 }), (5, 1, 0, 0), 302527755730341253349376, (fun as ρ μ => match ρ with
  | (nw, sp, tl, tx, al) => mq_pZ as 60 fun as => mq_pI as fun k as => mq_pI as fun p as => mq_pI as fun y as => mq_pI as fun v as => mq_p0 as (True)),
  (fun as ρ μ r ρ' μ' => match as, ρ, ρ' with
  | [.inr (.inr (some (_, _))), .inl k, .inl p, .inl y, .inl v], (nw, sp, tl, tx, al), (nw', sp', tl', tx', al') => []
  | _, _, _ => []))
def kq_m_wetter : List mq_V → mq_R → mq_M → List mq_Cu := fun as ρ μ => match as, ρ with
  | [.inr (.inr (some (_, _))), .inl k, .inl p, .inl y, .inl v], (nw, sp, tl, tx, al) => [(34, [true, true, true, true, true, true, true, true], fun N l st ρ' μ' cs => mq_tZ l 60 fun l => mq_tI l fun v1 l => mq_tI l fun v2 l => mq_tI l fun v3 l => mq_tI l fun v4 l => mq_tI l fun v5 l => mq_tI l fun v6 l => mq_tI l fun v7 l => mq_t0 l (st = [] ∧ ρ' = (nw, sp, tl, tx, al) ∧ cs = 0 ∧ v1 = k ∧ v2 = p ∧ v3 = y ∧ v4 = v ∧ 0 ≤ v5 ∧ v5 ≤ 100 ∧ 0 ≤ v6 ∧ v6 ≤ 101 ∧ 0 ≤ v7 ∧ v7 ≤ 1 ∧ 0 ≤ k ∧ k ≤ 3 ∧ 0 ≤ p ∧ p ≤ 5 ∧ 0 ≤ y ∧ y ≤ 400 ∧ 1 ≤ v ∧ v ≤ 15 ∧ 0 ≤ (2 * (101 - v6) + v7 : Int) ∧ (2 * (101 - v6) + v7 : Int) < (N : Int)))]
  | _, _ => []
set_option maxHeartbeats 16000000 in
set_option maxRecDepth 100000 in
theorem vq_m_wetter (lc : Launch) (h_m_isHandled : mq_Ct lc cq_m_isHandled) (h_m_lays : mq_Ct lc cq_m_lays) (h_m_sumOf : mq_Ct lc cq_m_sumOf) : mq_Ct lc cq_m_wetter := by
  refine mq_method (lc := lc) (P := pq_m_wetter) (cl := [cq_m_isHandled, cq_m_lays, cq_m_sumOf]) (T := ([(120, 11, 0), (37, 11, 18)], [(171, 1000000)], [], [(355, 0, 0), (359, 1, 0), (348, 2, 0)], [], [])) (fuel := 400) (cuts := kq_m_wetter) (by decide) rfl ⟨rfl, rfl⟩ (List.forall_mem_cons.mpr ⟨h_m_isHandled, (List.forall_mem_cons.mpr ⟨h_m_lays, (List.forall_mem_cons.mpr ⟨h_m_sumOf, (fun _ h => absurd h List.not_mem_nil)⟩)⟩)⟩) ⟨(List.forall_mem_cons.mpr ⟨⟨_, rfl, by decide, kw_773⟩, (List.forall_mem_cons.mpr ⟨⟨_, rfl, by decide, kw_838⟩, (fun _ h => absurd h List.not_mem_nil)⟩)⟩), (List.forall_mem_cons.mpr ⟨kw_796, (fun _ h => absurd h List.not_mem_nil)⟩), (fun _ h => absurd h List.not_mem_nil), (List.forall_mem_cons.mpr ⟨mq_ml0 rfl mw0_m_isHandled kw_925, (List.forall_mem_cons.mpr ⟨mq_ml0 rfl mw0_m_lays kw_929, (List.forall_mem_cons.mpr ⟨mq_ml0 rfl mw0_m_sumOf kw_917, (fun _ h => absurd h List.not_mem_nil)⟩)⟩)⟩), (fun _ h => absurd h List.not_mem_nil), (fun _ h => absurd h List.not_mem_nil)⟩ (by decide +kernel) ⟨_, _, rfl⟩ ?_ ?_ ?_ ?_
  · intro as ρ μ h
    obtain ⟨nw, sp, tl, tx, al⟩ := ρ
    obtain ⟨as0, rfl, h0⟩ := mq_pZ_spec h
    clear h
    obtain ⟨k, as1, rfl, h1⟩ := mq_pI_spec h0
    clear h0
    obtain ⟨p, as2, rfl, h2⟩ := mq_pI_spec h1
    clear h1
    obtain ⟨y, as3, rfl, h3⟩ := mq_pI_spec h2
    clear h2
    obtain ⟨v, as4, rfl, h4⟩ := mq_pI_spec h3
    clear h3
    obtain ⟨rfl, hp⟩ := mq_p0_spec h4
    clear h4
    rfl
  · intro as ρ μ h
    obtain ⟨nw, sp, tl, tx, al⟩ := ρ
    obtain ⟨as0, rfl, h0⟩ := mq_pZ_spec h
    clear h
    obtain ⟨k, as1, rfl, h1⟩ := mq_pI_spec h0
    clear h0
    obtain ⟨p, as2, rfl, h2⟩ := mq_pI_spec h1
    clear h1
    obtain ⟨y, as3, rfl, h3⟩ := mq_pI_spec h2
    clear h2
    obtain ⟨v, as4, rfl, h4⟩ := mq_pI_spec h3
    clear h3
    obtain ⟨rfl, hp⟩ := mq_p0_spec h4
    clear h4
    intro hrg
    obtain ⟨⟨ha1a, ha1b⟩, ⟨ha2a, ha2b⟩, ⟨ha3a, ha3b⟩, ⟨ha4a, ha4b⟩, -⟩ := hrg
    intro hbk
    have e0 : mq_l0 ([.inr (.inr (some (60, 0))), .inl k, .inl p, .inl y, .inl v] : List mq_V) 8 = [some (.inr (.inr (some (60, 0)))), some (.inl k), some (.inl p), some (.inl y), some (.inl v), none, none, none] := rfl
    rw [e0]
    repeat' (first | refine And.intro ?_ ?_ | intro _)
    all_goals try simp only [Int.reduceToNat, Int.reduceAdd, mq_up_f, mq_up_s, mq_up_e, ne_eq, Nat.reduceEqDiff, not_false_eq_true, true_and, and_true, false_and, and_false, false_or, or_false, true_or, or_true, true_implies] at *
    all_goals first | omega | rfl | exact trivial | assumption
  · intro as ρ μ h
    obtain ⟨nw, sp, tl, tx, al⟩ := ρ
    obtain ⟨as0, rfl, h0⟩ := mq_pZ_spec h
    clear h
    obtain ⟨k, as1, rfl, h1⟩ := mq_pI_spec h0
    clear h0
    obtain ⟨p, as2, rfl, h2⟩ := mq_pI_spec h1
    clear h1
    obtain ⟨y, as3, rfl, h3⟩ := mq_pI_spec h2
    clear h2
    obtain ⟨v, as4, rfl, h4⟩ := mq_pI_spec h3
    clear h3
    obtain ⟨rfl, hp⟩ := mq_p0_spec h4
    clear h4
    refine List.forall_mem_cons.mpr ⟨?_, ?_⟩
    · intro l st ρ' μ' cs hJ
      obtain ⟨l0, rfl, hJ0⟩ := mq_tZ_spec hJ
      clear hJ
      obtain ⟨v1, l1, rfl, hJ1⟩ := mq_tI_spec hJ0
      clear hJ0
      obtain ⟨v2, l2, rfl, hJ2⟩ := mq_tI_spec hJ1
      clear hJ1
      obtain ⟨v3, l3, rfl, hJ3⟩ := mq_tI_spec hJ2
      clear hJ2
      obtain ⟨v4, l4, rfl, hJ4⟩ := mq_tI_spec hJ3
      clear hJ3
      obtain ⟨v5, l5, rfl, hJ5⟩ := mq_tI_spec hJ4
      clear hJ4
      obtain ⟨v6, l6, rfl, hJ6⟩ := mq_tI_spec hJ5
      clear hJ5
      obtain ⟨v7, l7, rfl, hJ7⟩ := mq_tI_spec hJ6
      clear hJ6
      obtain ⟨rfl, hJz⟩ := mq_t0_spec hJ7
      clear hJ7
      obtain ⟨rfl, rfl, rfl, hc0, hc1, hc2, hc3, hc4, hc5, hc6, hc7, hc8, hc9, hc10, hc11, hc12, hc13, hc14, hc15, hc16, hc17, hm0, hm1⟩ := hJz
      omega
    exact fun _ h => absurd h List.not_mem_nil
  · intro as ρ μ h
    obtain ⟨nw, sp, tl, tx, al⟩ := ρ
    obtain ⟨as0, rfl, h0⟩ := mq_pZ_spec h
    clear h
    obtain ⟨k, as1, rfl, h1⟩ := mq_pI_spec h0
    clear h0
    obtain ⟨p, as2, rfl, h2⟩ := mq_pI_spec h1
    clear h1
    obtain ⟨y, as3, rfl, h3⟩ := mq_pI_spec h2
    clear h2
    obtain ⟨v, as4, rfl, h4⟩ := mq_pI_spec h3
    clear h3
    obtain ⟨rfl, hp⟩ := mq_p0_spec h4
    clear h4
    intro hrg
    obtain ⟨⟨ha1a, ha1b⟩, ⟨ha2a, ha2b⟩, ⟨ha3a, ha3b⟩, ⟨ha4a, ha4b⟩, -⟩ := hrg
    refine List.forall_mem_cons.mpr ⟨?_, ?_⟩
    · intro N l st ρ' μ' cs hJ
      obtain ⟨l0, rfl, hJ0⟩ := mq_tZ_spec hJ
      clear hJ
      obtain ⟨v1, l1, rfl, hJ1⟩ := mq_tI_spec hJ0
      clear hJ0
      obtain ⟨v2, l2, rfl, hJ2⟩ := mq_tI_spec hJ1
      clear hJ1
      obtain ⟨v3, l3, rfl, hJ3⟩ := mq_tI_spec hJ2
      clear hJ2
      obtain ⟨v4, l4, rfl, hJ4⟩ := mq_tI_spec hJ3
      clear hJ3
      obtain ⟨v5, l5, rfl, hJ5⟩ := mq_tI_spec hJ4
      clear hJ4
      obtain ⟨v6, l6, rfl, hJ6⟩ := mq_tI_spec hJ5
      clear hJ5
      obtain ⟨v7, l7, rfl, hJ7⟩ := mq_tI_spec hJ6
      clear hJ6
      obtain ⟨rfl, hJz⟩ := mq_t0_spec hJ7
      clear hJ7
      obtain ⟨rfl, rfl, rfl, hc0, hc1, hc2, hc3, hc4, hc5, hc6, hc7, hc8, hc9, hc10, hc11, hc12, hc13, hc14, hc15, hc16, hc17, hm0, hm1⟩ := hJz
      intro hbk hrl
      obtain ⟨⟨hl1a, hl1b⟩, ⟨hl2a, hl2b⟩, ⟨hl3a, hl3b⟩, ⟨hl4a, hl4b⟩, ⟨hl5a, hl5b⟩, ⟨hl6a, hl6b⟩, ⟨hl7a, hl7b⟩, -⟩ := hrl
      repeat' (first | refine And.intro ?_ ?_ | intro _)
      all_goals try simp only [Int.reduceToNat, Int.reduceAdd, mq_up_f, mq_up_s, mq_up_e, ne_eq, Nat.reduceEqDiff, not_false_eq_true, true_and, and_true, false_and, and_false, false_or, or_false, true_or, or_true, true_implies] at *
      all_goals first | omega | rfl | exact trivial | assumption
    exact fun _ h => absurd h List.not_mem_nil
def pq_m_room : List mq_E := [(0, false, .aload 0), (1, false, .iconst 0), (2, false, .multianewarray 11 0), (5, false, .aload 0), (6, false, .iload 1), (7, false, .invokestatic 0), (10, false, .ifCond .eq (Int.ofNat 49)), (13, false, .aload 0), (14, false, .iload 2), (15, false, .invokestatic 1), (18, false, .ifCond .eq (Int.ofNat 49)), (21, false, .aload 0), (22, false, .invokeinterface 11 23), (25, false, .iconst 2), (26, false, .iload 2), (27, false, .imul), (28, false, .iconst 1), (29, false, .iadd), (30, false, .iaload), (31, false, .aload 0), (32, false, .invokeinterface 11 23), (35, false, .iconst 2), (36, false, .iload 2), (37, false, .imul), (38, false, .iaload), (39, false, .isub), (40, false, .aload 0), (41, false, .iload 1), (42, false, .invokestatic 2), (45, false, .isub), (46, false, .goto (Int.ofNat 52)), (49, false, .iconst (-1000000)), (52, false, .ireturn)]
def cq_m_room : mq_C := ((yX11_room, cX11_room, 3, (some .int), { frames := 2, cells := 0, slots := 0, locals := 46 }), (3, 1, 0, 0), 1152921504606846976, (fun as ρ μ => match ρ with
  | (nw, sp, tl, tx, al) => mq_pZ as 60 fun as => mq_pI as fun k as => mq_pI as fun p as => mq_p0 as (True)),
  (fun as ρ μ r ρ' μ' => match as, ρ, ρ' with
  | [.inr (.inr (some (_, _))), .inl k, .inl p], (nw, sp, tl, tx, al), (nw', sp', tl', tx', al') => []
  | _, _, _ => []))
def kq_m_room : List mq_V → mq_R → mq_M → List mq_Cu := fun as ρ μ => match as, ρ with
  | [.inr (.inr (some (_, _))), .inl k, .inl p], (nw, sp, tl, tx, al) => []
  | _, _ => []
set_option maxHeartbeats 16000000 in
set_option maxRecDepth 100000 in
theorem vq_m_room (lc : Launch) (h_m_isKind : mq_Ct lc cq_m_isKind) (h_m_isPlatform : mq_Ct lc cq_m_isPlatform) (h_m_lengthOf : mq_Ct lc cq_m_lengthOf) : mq_Ct lc cq_m_room := by
  refine mq_method (lc := lc) (P := pq_m_room) (cl := [cq_m_isKind, cq_m_isPlatform, cq_m_lengthOf]) (T := ([(120, 11, 0), (52, 11, 23)], [(389, (-1000000))], [], [(319, 0, 0), (352, 1, 0), (331, 2, 0)], [], [])) (fuel := 400) (cuts := kq_m_room) (by decide) rfl ⟨rfl, rfl⟩ (List.forall_mem_cons.mpr ⟨h_m_isKind, (List.forall_mem_cons.mpr ⟨h_m_isPlatform, (List.forall_mem_cons.mpr ⟨h_m_lengthOf, (fun _ h => absurd h List.not_mem_nil)⟩)⟩)⟩) ⟨(List.forall_mem_cons.mpr ⟨⟨_, rfl, by decide, kw_773⟩, (List.forall_mem_cons.mpr ⟨⟨_, rfl, by decide, kw_873⟩, (fun _ h => absurd h List.not_mem_nil)⟩)⟩), (List.forall_mem_cons.mpr ⟨kw_955, (fun _ h => absurd h List.not_mem_nil)⟩), (fun _ h => absurd h List.not_mem_nil), (List.forall_mem_cons.mpr ⟨mq_ml0 rfl mw0_m_isKind kw_887, (List.forall_mem_cons.mpr ⟨mq_ml0 rfl mw0_m_isPlatform kw_921, (List.forall_mem_cons.mpr ⟨mq_ml0 rfl mw0_m_lengthOf kw_899, (fun _ h => absurd h List.not_mem_nil)⟩)⟩)⟩), (fun _ h => absurd h List.not_mem_nil), (fun _ h => absurd h List.not_mem_nil)⟩ (by decide +kernel) ⟨_, _, rfl⟩ ?_ ?_ ?_ ?_
  · intro as ρ μ h
    obtain ⟨nw, sp, tl, tx, al⟩ := ρ
    obtain ⟨as0, rfl, h0⟩ := mq_pZ_spec h
    clear h
    obtain ⟨k, as1, rfl, h1⟩ := mq_pI_spec h0
    clear h0
    obtain ⟨p, as2, rfl, h2⟩ := mq_pI_spec h1
    clear h1
    obtain ⟨rfl, hp⟩ := mq_p0_spec h2
    clear h2
    rfl
  · intro as ρ μ h
    obtain ⟨nw, sp, tl, tx, al⟩ := ρ
    obtain ⟨as0, rfl, h0⟩ := mq_pZ_spec h
    clear h
    obtain ⟨k, as1, rfl, h1⟩ := mq_pI_spec h0
    clear h0
    obtain ⟨p, as2, rfl, h2⟩ := mq_pI_spec h1
    clear h1
    obtain ⟨rfl, hp⟩ := mq_p0_spec h2
    clear h2
    intro hrg
    obtain ⟨⟨ha1a, ha1b⟩, ⟨ha2a, ha2b⟩, -⟩ := hrg
    intro hbk
    have e0 : mq_l0 ([.inr (.inr (some (60, 0))), .inl k, .inl p] : List mq_V) 3 = [some (.inr (.inr (some (60, 0)))), some (.inl k), some (.inl p)] := rfl
    rw [e0]
    repeat' (first | refine And.intro ?_ ?_ | intro _)
    all_goals try simp only [Int.reduceToNat, Int.reduceAdd, mq_up_f, mq_up_s, mq_up_e, ne_eq, Nat.reduceEqDiff, not_false_eq_true, true_and, and_true, false_and, and_false, false_or, or_false, true_or, or_true, true_implies] at *
    all_goals first | omega | rfl | exact trivial | assumption
  · intro as ρ μ h
    obtain ⟨nw, sp, tl, tx, al⟩ := ρ
    obtain ⟨as0, rfl, h0⟩ := mq_pZ_spec h
    clear h
    obtain ⟨k, as1, rfl, h1⟩ := mq_pI_spec h0
    clear h0
    obtain ⟨p, as2, rfl, h2⟩ := mq_pI_spec h1
    clear h1
    obtain ⟨rfl, hp⟩ := mq_p0_spec h2
    clear h2
    exact fun _ h => absurd h List.not_mem_nil
  · intro as ρ μ h
    obtain ⟨nw, sp, tl, tx, al⟩ := ρ
    obtain ⟨as0, rfl, h0⟩ := mq_pZ_spec h
    clear h
    obtain ⟨k, as1, rfl, h1⟩ := mq_pI_spec h0
    clear h0
    obtain ⟨p, as2, rfl, h2⟩ := mq_pI_spec h1
    clear h1
    obtain ⟨rfl, hp⟩ := mq_p0_spec h2
    clear h2
    intro hrg
    obtain ⟨⟨ha1a, ha1b⟩, ⟨ha2a, ha2b⟩, -⟩ := hrg
    exact fun _ h => absurd h List.not_mem_nil
def pq_m_whyNot : List mq_E := [(0, false, .iload 1), (1, false, .invokestatic 0), (4, false, .ifCond .ne (Int.ofNat 10)), (7, false, .iconst (-2)), (9, false, .ireturn), (10, false, .aload 0), (11, false, .invokeinterface 11 1), (14, false, .iload 1), (15, false, .iaload), (16, false, .iconst (-1)), (17, false, .if_icmp .ne (Int.ofNat 23)), (20, false, .iconst (-6)), (22, false, .ireturn), (23, false, .iconst 0), (24, false, .istore 2), (25, true, .iload 2), (26, false, .aload 0), (27, false, .invokeinterface 11 2), (30, false, .iload 1), (31, false, .iaload), (32, false, .if_icmp .ge (Int.ofNat 65)), (35, false, .aload 0), (36, false, .invokeinterface 11 3), (39, false, .iconst 60), (41, false, .iload 1), (42, false, .imul), (43, false, .iload 2), (44, false, .iadd), (45, false, .laload), (46, false, .goto_w 0), (47, false, .goto_w 3), (50, false, .invokestatic 1), (53, false, .ifCond .ne (Int.ofNat 59)), (56, false, .iconst (-2)), (58, false, .ireturn), (59, false, .iinc 2 1), (62, false, .goto (Int.ofNat 25)), (65, false, .iconst 0), (66, false, .ireturn)]
def cq_m_whyNot : mq_C := ((yX11_whyNot, cX11_whyNot, 3, (some .int), { frames := 2, cells := 0, slots := 0, locals := 45 }), (2, 1, 0, 0), 0, (fun as ρ μ => match ρ with
  | (nw, sp, tl, tx, al) => mq_pZ as 60 fun as => mq_pI as fun s as => mq_p0 as (True)),
  (fun as ρ μ r ρ' μ' => match as, ρ, ρ' with
  | [.inr (.inr (some (_, _))), .inl s], (nw, sp, tl, tx, al), (nw', sp', tl', tx', al') => [r = 0 → 0 ≤ s ∧ s ≤ 3, sq_bx (r = 0 → sq_cw (μ (62, 0)) (μ (63, 0)) s)]
  | _, _, _ => []))
def kq_m_whyNot : List mq_V → mq_R → mq_M → List mq_Cu := fun as ρ μ => match as, ρ with
  | [.inr (.inr (some (_, _))), .inl s], (nw, sp, tl, tx, al) => [(25, [true, true, true], fun N l st ρ' μ' cs => mq_tZ l 60 fun l => mq_tI l fun v1 l => mq_tI l fun v2 l => mq_t0 l (st = [] ∧ ρ' = (nw, sp, tl, tx, al) ∧ cs = 0 ∧ v1 = s ∧ μ = μ' ∧ 0 ≤ s ∧ s ≤ 3 ∧ 0 ≤ v2 ∧ v2 ≤ 60 ∧ v2 ≤ μ (62, 0) s.toNat ∧ sq_bx (0 ≤ s ∧ s ≤ 3 ∧ ∀ i : Int, 0 ≤ i → i < v2 → 0 ≤ μ (63, 0) (60 * s + i).toNat ∧ μ (63, 0) (60 * s + i).toNat ≤ 3) ∧ 0 ≤ (60 - v2 : Int) ∧ (60 - v2 : Int) < (N : Int)))]
  | _, _ => []
set_option maxHeartbeats 16000000 in
set_option maxRecDepth 100000 in
theorem vq_m_whyNot (lc : Launch) (h_m_isSlot : mq_Ct lc cq_m_isSlot) (h_m_in : mq_Ct lc cq_m_in) : mq_Ct lc cq_m_whyNot := by
  refine mq_method (lc := lc) (P := pq_m_whyNot) (cl := [cq_m_isSlot, cq_m_in]) (T := ([(7, 11, 1), (13, 11, 2), (16, 11, 3)], [], [(123, 3)], [(129, 0, 1), (125, 1, 1)], [], [])) (fuel := 400) (cuts := kq_m_whyNot) (by decide) rfl ⟨rfl, rfl⟩ (List.forall_mem_cons.mpr ⟨h_m_isSlot, (List.forall_mem_cons.mpr ⟨h_m_in, (fun _ h => absurd h List.not_mem_nil)⟩)⟩) ⟨(List.forall_mem_cons.mpr ⟨⟨_, rfl, by decide, kw_774⟩, (List.forall_mem_cons.mpr ⟨⟨_, rfl, by decide, kw_775⟩, (List.forall_mem_cons.mpr ⟨⟨_, rfl, by decide, kw_776⟩, (fun _ h => absurd h List.not_mem_nil)⟩)⟩)⟩), (fun _ h => absurd h List.not_mem_nil), (List.forall_mem_cons.mpr ⟨kw_768, (fun _ h => absurd h List.not_mem_nil)⟩), (List.forall_mem_cons.mpr ⟨mq_ml1 rfl mw1_m_isSlot kw_779, (List.forall_mem_cons.mpr ⟨mq_ml1 rfl mw1_m_in kw_772, (fun _ h => absurd h List.not_mem_nil)⟩)⟩), (fun _ h => absurd h List.not_mem_nil), (fun _ h => absurd h List.not_mem_nil)⟩ (by decide +kernel) ⟨_, _, rfl⟩ ?_ ?_ ?_ ?_
  · intro as ρ μ h
    obtain ⟨nw, sp, tl, tx, al⟩ := ρ
    obtain ⟨as0, rfl, h0⟩ := mq_pZ_spec h
    clear h
    obtain ⟨s, as1, rfl, h1⟩ := mq_pI_spec h0
    clear h0
    obtain ⟨rfl, hp⟩ := mq_p0_spec h1
    clear h1
    rfl
  · intro as ρ μ h
    obtain ⟨nw, sp, tl, tx, al⟩ := ρ
    obtain ⟨as0, rfl, h0⟩ := mq_pZ_spec h
    clear h
    obtain ⟨s, as1, rfl, h1⟩ := mq_pI_spec h0
    clear h0
    obtain ⟨rfl, hp⟩ := mq_p0_spec h1
    clear h1
    intro hrg
    obtain ⟨⟨ha1a, ha1b⟩, -⟩ := hrg
    intro hbk
    have e0 : mq_l0 ([.inr (.inr (some (60, 0))), .inl s] : List mq_V) 3 = [some (.inr (.inr (some (60, 0)))), some (.inl s), none] := rfl
    rw [e0]
    repeat' (first | refine And.intro ?_ ?_ | intro _)
    all_goals try simp only [Int.reduceToNat, Int.reduceAdd, mq_up_f, mq_up_s, mq_up_e, ne_eq, Nat.reduceEqDiff, not_false_eq_true, true_and, and_true, false_and, and_false, false_or, or_false, true_or, or_true, true_implies] at *
    all_goals first | omega | rfl | exact trivial | assumption | exact (mq_b1 hbk (f := 62) (i := 0) rfl _).1 | exact sq_m (fun h => absurd h (by decide)) | exact sq_m ⟨by omega, by omega, fun i h1 h2 => absurd h2 (by omega)⟩
  · intro as ρ μ h
    obtain ⟨nw, sp, tl, tx, al⟩ := ρ
    obtain ⟨as0, rfl, h0⟩ := mq_pZ_spec h
    clear h
    obtain ⟨s, as1, rfl, h1⟩ := mq_pI_spec h0
    clear h0
    obtain ⟨rfl, hp⟩ := mq_p0_spec h1
    clear h1
    refine List.forall_mem_cons.mpr ⟨?_, ?_⟩
    · intro l st ρ' μ' cs hJ
      obtain ⟨l0, rfl, hJ0⟩ := mq_tZ_spec hJ
      clear hJ
      obtain ⟨v1, l1, rfl, hJ1⟩ := mq_tI_spec hJ0
      clear hJ0
      obtain ⟨v2, l2, rfl, hJ2⟩ := mq_tI_spec hJ1
      clear hJ1
      obtain ⟨rfl, hJz⟩ := mq_t0_spec hJ2
      clear hJ2
      obtain ⟨rfl, rfl, rfl, hc0, rfl, hc2, hc3, hc4, hc5, hc6, hc7, hm0, hm1⟩ := hJz
      omega
    exact fun _ h => absurd h List.not_mem_nil
  · intro as ρ μ h
    obtain ⟨nw, sp, tl, tx, al⟩ := ρ
    obtain ⟨as0, rfl, h0⟩ := mq_pZ_spec h
    clear h
    obtain ⟨s, as1, rfl, h1⟩ := mq_pI_spec h0
    clear h0
    obtain ⟨rfl, hp⟩ := mq_p0_spec h1
    clear h1
    intro hrg
    obtain ⟨⟨ha1a, ha1b⟩, -⟩ := hrg
    refine List.forall_mem_cons.mpr ⟨?_, ?_⟩
    · intro N l st ρ' μ' cs hJ
      obtain ⟨l0, rfl, hJ0⟩ := mq_tZ_spec hJ
      clear hJ
      obtain ⟨v1, l1, rfl, hJ1⟩ := mq_tI_spec hJ0
      clear hJ0
      obtain ⟨v2, l2, rfl, hJ2⟩ := mq_tI_spec hJ1
      clear hJ1
      obtain ⟨rfl, hJz⟩ := mq_t0_spec hJ2
      clear hJ2
      obtain ⟨rfl, rfl, rfl, hc0, rfl, hc2, hc3, hc4, hc5, hc6, hc7, hm0, hm1⟩ := hJz
      intro hbk hrl
      obtain ⟨⟨hl1a, hl1b⟩, ⟨hl2a, hl2b⟩, -⟩ := hrl
      subst hc0
      repeat' (first | refine And.intro ?_ ?_ | intro _)
      all_goals try simp only [Int.reduceToNat, Int.reduceAdd, mq_up_f, mq_up_s, mq_up_e, ne_eq, Nat.reduceEqDiff, not_false_eq_true, true_and, and_true, false_and, and_false, false_or, or_false, true_or, or_true, true_implies] at *
      all_goals first | omega | rfl | exact trivial | assumption | exact sq_m (fun h => absurd h (by decide)) | (refine sq_m ⟨by omega, by omega, fun i h1 h2 => ?_⟩; by_cases hi : i = v2 <;> first | (subst hi; omega) | exact (sq_g hc7).2.2 i h1 (by omega)) | exact sq_m (fun _ => ⟨by omega, by omega, fun i h1 h2 => (sq_g hc7).2.2 i h1 (by omega)⟩)
    exact fun _ h => absurd h List.not_mem_nil
theorem mw0_m_whyNot : mq_mlA cq_m_whyNot 0 := ⟨kw_956, ⟨by decide +kernel, by decide +kernel⟩, by decide +kernel, kw_957, kw_958, kw_771, 60, by decide +kernel, fun as ρ μ h => by obtain ⟨nw, sp, tl, tx, al⟩ := ρ; obtain ⟨t, e, _⟩ := mq_pZ_spec h; exact ⟨0, t, e⟩⟩
def pq_m_told : List mq_E := [(0, false, .aload 0), (1, false, .iconst 0), (2, false, .multianewarray 11 0), (5, false, .aload 0), (6, false, .iload 2), (7, false, .iload 3), (8, false, .iload 4), (10, false, .invokestatic 0), (13, false, .ifCond .ne (Int.ofNat 19)), (16, false, .iconst (-2)), (18, false, .ireturn), (19, false, .aload 0), (20, false, .iload 1), (21, false, .invokestatic 1), (24, false, .istore 5), (26, false, .iload 5), (28, false, .ifCond .eq (Int.ofNat 34)), (31, false, .iload 5), (33, false, .ireturn), (34, false, .iload 3), (35, false, .istore 6), (37, false, .iload 4), (39, false, .istore 7), (41, false, .iconst 0), (42, false, .istore 8), (44, true, .iload 7), (46, false, .ifCond .le (Int.ofNat 114)), (49, false, .aload 0), (50, false, .iload 2), (51, false, .iload 6), (53, false, .iload 7), (55, false, .iload 8), (57, false, .aload 0), (58, false, .invokeinterface 11 2), (61, false, .iload 1), (62, false, .iaload), (63, false, .if_icmp .ge (Int.ofNat 82)), (66, false, .aload 0), (67, false, .invokeinterface 11 3), (70, false, .iconst 60), (72, false, .iload 1), (73, false, .imul), (74, false, .iload 8), (76, false, .iadd), (77, false, .laload), (78, false, .l2i), (79, false, .goto (Int.ofNat 83)), (82, false, .iconst 3), (83, false, .invokestatic 2), (86, false, .istore 7), (88, false, .iload 6), (90, false, .iload 7), (92, false, .iadd), (93, false, .istore 6), (95, false, .iload 6), (97, false, .aload 0), (98, false, .invokeinterface 11 17), (101, false, .iconst 0), (102, false, .iaload), (103, false, .if_icmp .le (Int.ofNat 108)), (106, false, .iconst (-1)), (107, false, .ireturn), (108, false, .iinc 8 1), (111, false, .goto (Int.ofNat 44)), (114, false, .iload 6), (116, false, .ireturn)]
def cq_m_told : mq_C := ((yX11_told, cX11_told, 9, (some .int), { frames := 3, cells := 0, slots := 0, locals := 74 }), (5, 1, 0, 0), 1152921504606846976, (fun as ρ μ => match ρ with
  | (nw, sp, tl, tx, al) => mq_pZ as 60 fun as => mq_pI as fun s as => mq_pI as fun k as => mq_pI as fun y as => mq_pI as fun v as => mq_p0 as (True)),
  (fun as ρ μ r ρ' μ' => match as, ρ, ρ' with
  | [.inr (.inr (some (_, _))), .inl s, .inl k, .inl y, .inl v], (nw, sp, tl, tx, al), (nw', sp', tl', tx', al') => []
  | _, _, _ => []))
def kq_m_told : List mq_V → mq_R → mq_M → List mq_Cu := fun as ρ μ => match as, ρ with
  | [.inr (.inr (some (_, _))), .inl s, .inl k, .inl y, .inl v], (nw, sp, tl, tx, al) => [(44, [true, true, true, true, true, true, true, true, true], fun N l st ρ' μ' cs => mq_tZ l 60 fun l => mq_tI l fun v1 l => mq_tI l fun v2 l => mq_tI l fun v3 l => mq_tI l fun v4 l => mq_tI l fun v5 l => mq_tI l fun v6 l => mq_tI l fun v7 l => mq_tI l fun v8 l => mq_t0 l (st = [] ∧ ρ' = (nw, sp, tl, tx, al) ∧ cs = 0 ∧ v1 = s ∧ v2 = k ∧ v3 = y ∧ v4 = v ∧ 0 ≤ v6 ∧ v6 ≤ 400 ∧ 0 ≤ v7 ∧ v7 ≤ 15 ∧ 0 ≤ v8 ∧ v8 ≤ v6 + 1 ∧ (0 < v7 → v8 ≤ v6) ∧ 0 ≤ k ∧ k ≤ 3 ∧ 0 ≤ s ∧ s ≤ 3 ∧ sq_bx (sq_cw (μ' (62, 0)) (μ' (63, 0)) s) ∧ 0 ≤ (20 * (401 - v6) + v7 : Int) ∧ (20 * (401 - v6) + v7 : Int) < (N : Int)))]
  | _, _ => []
set_option maxHeartbeats 16000000 in
set_option maxRecDepth 100000 in
theorem vq_m_told (lc : Launch) (h_m_isMoving : mq_Ct lc cq_m_isMoving) (h_m_whyNot : mq_Ct lc cq_m_whyNot) (h_m_slowed : mq_Ct lc cq_m_slowed) : mq_Ct lc cq_m_told := by
  refine mq_method (lc := lc) (P := pq_m_told) (cl := [cq_m_isMoving, cq_m_whyNot, cq_m_slowed]) (T := ([(120, 11, 0), (13, 11, 2), (16, 11, 3), (34, 11, 17)], [], [], [(324, 0, 0), (390, 1, 0), (327, 2, 0)], [], [])) (fuel := 400) (cuts := kq_m_told) (by decide) rfl ⟨rfl, rfl⟩ (List.forall_mem_cons.mpr ⟨h_m_isMoving, (List.forall_mem_cons.mpr ⟨h_m_whyNot, (List.forall_mem_cons.mpr ⟨h_m_slowed, (fun _ h => absurd h List.not_mem_nil)⟩)⟩)⟩) ⟨(List.forall_mem_cons.mpr ⟨⟨_, rfl, by decide, kw_773⟩, (List.forall_mem_cons.mpr ⟨⟨_, rfl, by decide, kw_775⟩, (List.forall_mem_cons.mpr ⟨⟨_, rfl, by decide, kw_776⟩, (List.forall_mem_cons.mpr ⟨⟨_, rfl, by decide, kw_832⟩, (fun _ h => absurd h List.not_mem_nil)⟩)⟩)⟩)⟩), (fun _ h => absurd h List.not_mem_nil), (fun _ h => absurd h List.not_mem_nil), (List.forall_mem_cons.mpr ⟨mq_ml0 rfl mw0_m_isMoving kw_891, (List.forall_mem_cons.mpr ⟨mq_ml0 rfl mw0_m_whyNot kw_959, (List.forall_mem_cons.mpr ⟨mq_ml0 rfl mw0_m_slowed kw_895, (fun _ h => absurd h List.not_mem_nil)⟩)⟩)⟩), (fun _ h => absurd h List.not_mem_nil), (fun _ h => absurd h List.not_mem_nil)⟩ (by decide +kernel) ⟨_, _, rfl⟩ ?_ ?_ ?_ ?_
  · intro as ρ μ h
    obtain ⟨nw, sp, tl, tx, al⟩ := ρ
    obtain ⟨as0, rfl, h0⟩ := mq_pZ_spec h
    clear h
    obtain ⟨s, as1, rfl, h1⟩ := mq_pI_spec h0
    clear h0
    obtain ⟨k, as2, rfl, h2⟩ := mq_pI_spec h1
    clear h1
    obtain ⟨y, as3, rfl, h3⟩ := mq_pI_spec h2
    clear h2
    obtain ⟨v, as4, rfl, h4⟩ := mq_pI_spec h3
    clear h3
    obtain ⟨rfl, hp⟩ := mq_p0_spec h4
    clear h4
    rfl
  · intro as ρ μ h
    obtain ⟨nw, sp, tl, tx, al⟩ := ρ
    obtain ⟨as0, rfl, h0⟩ := mq_pZ_spec h
    clear h
    obtain ⟨s, as1, rfl, h1⟩ := mq_pI_spec h0
    clear h0
    obtain ⟨k, as2, rfl, h2⟩ := mq_pI_spec h1
    clear h1
    obtain ⟨y, as3, rfl, h3⟩ := mq_pI_spec h2
    clear h2
    obtain ⟨v, as4, rfl, h4⟩ := mq_pI_spec h3
    clear h3
    obtain ⟨rfl, hp⟩ := mq_p0_spec h4
    clear h4
    intro hrg
    obtain ⟨⟨ha1a, ha1b⟩, ⟨ha2a, ha2b⟩, ⟨ha3a, ha3b⟩, ⟨ha4a, ha4b⟩, -⟩ := hrg
    intro hbk
    have hk0 : 0 ≤ μ (67, 0) 0 ∧ μ (67, 0) 0 ≤ 400 := hbk (67, 0) 0
    have e0 : mq_l0 ([.inr (.inr (some (60, 0))), .inl s, .inl k, .inl y, .inl v] : List mq_V) 9 = [some (.inr (.inr (some (60, 0)))), some (.inl s), some (.inl k), some (.inl y), some (.inl v), none, none, none, none] := rfl
    rw [e0]
    repeat' (first | refine And.intro ?_ ?_ | intro _)
    all_goals try simp only [Int.reduceToNat, Int.reduceAdd, mq_up_f, mq_up_s, mq_up_e, ne_eq, Nat.reduceEqDiff, not_false_eq_true, true_and, and_true, false_and, and_false, false_or, or_false, true_or, or_true, true_implies] at *
    all_goals first | omega | rfl | exact trivial | assumption | exact sq_m (sq_g ‹sq_bx ((_ : Int) = 0 → sq_cw _ _ _)› (by omega))
  · intro as ρ μ h
    obtain ⟨nw, sp, tl, tx, al⟩ := ρ
    obtain ⟨as0, rfl, h0⟩ := mq_pZ_spec h
    clear h
    obtain ⟨s, as1, rfl, h1⟩ := mq_pI_spec h0
    clear h0
    obtain ⟨k, as2, rfl, h2⟩ := mq_pI_spec h1
    clear h1
    obtain ⟨y, as3, rfl, h3⟩ := mq_pI_spec h2
    clear h2
    obtain ⟨v, as4, rfl, h4⟩ := mq_pI_spec h3
    clear h3
    obtain ⟨rfl, hp⟩ := mq_p0_spec h4
    clear h4
    refine List.forall_mem_cons.mpr ⟨?_, ?_⟩
    · intro l st ρ' μ' cs hJ
      obtain ⟨l0, rfl, hJ0⟩ := mq_tZ_spec hJ
      clear hJ
      obtain ⟨v1, l1, rfl, hJ1⟩ := mq_tI_spec hJ0
      clear hJ0
      obtain ⟨v2, l2, rfl, hJ2⟩ := mq_tI_spec hJ1
      clear hJ1
      obtain ⟨v3, l3, rfl, hJ3⟩ := mq_tI_spec hJ2
      clear hJ2
      obtain ⟨v4, l4, rfl, hJ4⟩ := mq_tI_spec hJ3
      clear hJ3
      obtain ⟨v5, l5, rfl, hJ5⟩ := mq_tI_spec hJ4
      clear hJ4
      obtain ⟨v6, l6, rfl, hJ6⟩ := mq_tI_spec hJ5
      clear hJ5
      obtain ⟨v7, l7, rfl, hJ7⟩ := mq_tI_spec hJ6
      clear hJ6
      obtain ⟨v8, l8, rfl, hJ8⟩ := mq_tI_spec hJ7
      clear hJ7
      obtain ⟨rfl, hJz⟩ := mq_t0_spec hJ8
      clear hJ8
      obtain ⟨rfl, rfl, rfl, hc0, hc1, hc2, hc3, hc4, hc5, hc6, hc7, hc8, hc9, hc10, hc11, hc12, hc13, hc14, hc15, hm0, hm1⟩ := hJz
      omega
    exact fun _ h => absurd h List.not_mem_nil
  · intro as ρ μ h
    obtain ⟨nw, sp, tl, tx, al⟩ := ρ
    obtain ⟨as0, rfl, h0⟩ := mq_pZ_spec h
    clear h
    obtain ⟨s, as1, rfl, h1⟩ := mq_pI_spec h0
    clear h0
    obtain ⟨k, as2, rfl, h2⟩ := mq_pI_spec h1
    clear h1
    obtain ⟨y, as3, rfl, h3⟩ := mq_pI_spec h2
    clear h2
    obtain ⟨v, as4, rfl, h4⟩ := mq_pI_spec h3
    clear h3
    obtain ⟨rfl, hp⟩ := mq_p0_spec h4
    clear h4
    intro hrg
    obtain ⟨⟨ha1a, ha1b⟩, ⟨ha2a, ha2b⟩, ⟨ha3a, ha3b⟩, ⟨ha4a, ha4b⟩, -⟩ := hrg
    refine List.forall_mem_cons.mpr ⟨?_, ?_⟩
    · intro N l st ρ' μ' cs hJ
      obtain ⟨l0, rfl, hJ0⟩ := mq_tZ_spec hJ
      clear hJ
      obtain ⟨v1, l1, rfl, hJ1⟩ := mq_tI_spec hJ0
      clear hJ0
      obtain ⟨v2, l2, rfl, hJ2⟩ := mq_tI_spec hJ1
      clear hJ1
      obtain ⟨v3, l3, rfl, hJ3⟩ := mq_tI_spec hJ2
      clear hJ2
      obtain ⟨v4, l4, rfl, hJ4⟩ := mq_tI_spec hJ3
      clear hJ3
      obtain ⟨v5, l5, rfl, hJ5⟩ := mq_tI_spec hJ4
      clear hJ4
      obtain ⟨v6, l6, rfl, hJ6⟩ := mq_tI_spec hJ5
      clear hJ5
      obtain ⟨v7, l7, rfl, hJ7⟩ := mq_tI_spec hJ6
      clear hJ6
      obtain ⟨v8, l8, rfl, hJ8⟩ := mq_tI_spec hJ7
      clear hJ7
      obtain ⟨rfl, hJz⟩ := mq_t0_spec hJ8
      clear hJ8
      obtain ⟨rfl, rfl, rfl, hc0, hc1, hc2, hc3, hc4, hc5, hc6, hc7, hc8, hc9, hc10, hc11, hc12, hc13, hc14, hc15, hm0, hm1⟩ := hJz
      intro hbk hrl
      have hk0 : 0 ≤ μ' (67, 0) 0 ∧ μ' (67, 0) 0 ≤ 400 := hbk (67, 0) 0
      obtain ⟨⟨hl1a, hl1b⟩, ⟨hl2a, hl2b⟩, ⟨hl3a, hl3b⟩, ⟨hl4a, hl4b⟩, ⟨hl5a, hl5b⟩, ⟨hl6a, hl6b⟩, ⟨hl7a, hl7b⟩, ⟨hl8a, hl8b⟩, -⟩ := hrl
      subst hc0
      repeat' (first | refine And.intro ?_ ?_ | intro _)
      all_goals try simp only [Int.reduceToNat, Int.reduceAdd, mq_up_f, mq_up_s, mq_up_e, ne_eq, Nat.reduceEqDiff, not_false_eq_true, true_and, and_true, false_and, and_false, false_or, or_false, true_or, or_true, true_implies] at *
      all_goals first | omega | rfl | exact trivial | assumption | (have h9 := (sq_g hc15).2.2 v8 (by omega) (by omega); omega)
    exact fun _ h => absurd h List.not_mem_nil
def pq_m_judge : List mq_E := [(0, false, .aload 0), (1, false, .iconst 0), (2, false, .multianewarray 11 0), (5, false, .aload 0), (6, false, .iload 2), (7, false, .iload 3), (8, false, .iload 4), (10, false, .iload 5), (12, false, .invokestatic 0), (15, false, .ifCond .ne (Int.ofNat 21)), (18, false, .iconst (-2)), (20, false, .ireturn), (21, false, .aload 0), (22, false, .iload 1), (23, false, .invokestatic 1), (26, false, .istore 6), (28, false, .iload 6), (30, false, .ifCond .eq (Int.ofNat 36)), (33, false, .iload 6), (35, false, .ireturn), (36, false, .aload 0), (37, false, .iconst 16), (39, false, .iload 2), (40, false, .iload 3), (41, false, .iconst 3), (42, false, .invokestatic 2), (45, false, .iload 4), (47, false, .istore 7), (49, false, .iload 5), (51, false, .istore 8), (53, false, .iconst 0), (54, false, .istore 9), (56, true, .iload 9), (58, false, .aload 0), (59, false, .invokeinterface 11 2), (62, false, .iload 1), (63, false, .iaload), (64, false, .if_icmp .ge (Int.ofNat 161)), (67, false, .aload 0), (68, false, .iload 2), (69, false, .iload 7), (71, false, .iload 8), (73, false, .aload 0), (74, false, .invokeinterface 11 3), (77, false, .iconst 60), (79, false, .iload 1), (80, false, .imul), (81, false, .iload 9), (83, false, .iadd), (84, false, .laload), (85, false, .l2i), (86, false, .invokestatic 3), (89, false, .istore 8), (91, false, .iload 7), (93, false, .iload 8), (95, false, .iadd), (96, false, .istore 7), (98, false, .iload 8), (100, false, .ifCond .ne (Int.ofNat 126)), (103, false, .aload 0), (104, false, .iload 2), (105, false, .iload 3), (106, false, .iload 7), (108, false, .invokestatic 4), (111, false, .ifCond .eq (Int.ofNat 123)), (114, false, .aload 0), (115, false, .invokeinterface 11 2), (118, false, .iload 1), (119, false, .iaload), (120, false, .goto (Int.ofNat 125)), (123, false, .iload 9), (125, false, .ireturn), (126, false, .iload 7), (128, false, .aload 0), (129, false, .invokeinterface 11 17), (132, false, .iconst 0), (133, false, .iaload), (134, false, .if_icmp .gt (Int.ofNat 152)), (137, false, .aload 0), (138, false, .iconst 16), (140, false, .iload 7), (142, false, .iload 8), (144, false, .invokestatic 5), (147, false, .iconst 1000000), (149, false, .if_icmp .lt (Int.ofNat 155)), (152, false, .iload 9), (154, false, .ireturn), (155, false, .iinc 9 1), (158, false, .goto (Int.ofNat 56)), (161, false, .aload 0), (162, false, .invokeinterface 11 2), (165, false, .iload 1), (166, false, .iaload), (167, false, .ireturn)]
def cq_m_judge : mq_C := ((yX11_judge, cX11_judge, 10, (some .int), { frames := 5, cells := 0, slots := 0, locals := 131 }), (6, 1, 0, 0), 302232607825161900523520, (fun as ρ μ => match ρ with
  | (nw, sp, tl, tx, al) => mq_pZ as 60 fun as => mq_pI as fun s as => mq_pI as fun k as => mq_pI as fun p as => mq_pI as fun y as => mq_pI as fun v as => mq_p0 as (True)),
  (fun as ρ μ r ρ' μ' => match as, ρ, ρ' with
  | [.inr (.inr (some (_, _))), .inl s, .inl k, .inl p, .inl y, .inl v], (nw, sp, tl, tx, al), (nw', sp', tl', tx', al') => []
  | _, _, _ => []))
def kq_m_judge : List mq_V → mq_R → mq_M → List mq_Cu := fun as ρ μ => match as, ρ with
  | [.inr (.inr (some (_, _))), .inl s, .inl k, .inl p, .inl y, .inl v], (nw, sp, tl, tx, al) => [(56, [true, true, true, true, true, true, true, true, true, true], fun N l st ρ' μ' cs => mq_tZ l 60 fun l => mq_tI l fun v1 l => mq_tI l fun v2 l => mq_tI l fun v3 l => mq_tI l fun v4 l => mq_tI l fun v5 l => mq_tI l fun v6 l => mq_tI l fun v7 l => mq_tI l fun v8 l => mq_tI l fun v9 l => mq_t0 l (st = [] ∧ ρ' = (nw, sp, tl, tx, al) ∧ cs = 0 ∧ v1 = s ∧ v2 = k ∧ v3 = p ∧ v4 = y ∧ v5 = v ∧ 0 ≤ v7 ∧ v7 ≤ 400 ∧ 0 ≤ v8 ∧ v8 ≤ 15 ∧ 0 ≤ v9 ∧ v9 ≤ 60 ∧ v9 ≤ μ' (62, 0) s.toNat ∧ 0 ≤ k ∧ k ≤ 3 ∧ 0 ≤ p ∧ p ≤ 5 ∧ 0 ≤ s ∧ s ≤ 3 ∧ sq_bx (sq_cw (μ' (62, 0)) (μ' (63, 0)) s) ∧ 0 ≤ (60 - v9 : Int) ∧ (60 - v9 : Int) < (N : Int)))]
  | _, _ => []
set_option maxHeartbeats 16000000 in
set_option maxRecDepth 100000 in
theorem vq_m_judge (lc : Launch) (h_m_isHandled : mq_Ct lc cq_m_isHandled) (h_m_whyNot : mq_Ct lc cq_m_whyNot) (h_m_lays : mq_Ct lc cq_m_lays) (h_m_slowed : mq_Ct lc cq_m_slowed) (h_m_isInside : mq_Ct lc cq_m_isInside) (h_m_sumOf : mq_Ct lc cq_m_sumOf) : mq_Ct lc cq_m_judge := by
  refine mq_method (lc := lc) (P := pq_m_judge) (cl := [cq_m_isHandled, cq_m_whyNot, cq_m_lays, cq_m_slowed, cq_m_isInside, cq_m_sumOf]) (T := ([(120, 11, 0), (13, 11, 2), (16, 11, 3), (34, 11, 17)], [(171, 1000000)], [], [(355, 0, 0), (390, 1, 0), (359, 2, 0), (327, 3, 0), (338, 4, 0), (348, 5, 0)], [], [])) (fuel := 400) (cuts := kq_m_judge) (by decide) rfl ⟨rfl, rfl⟩ (List.forall_mem_cons.mpr ⟨h_m_isHandled, (List.forall_mem_cons.mpr ⟨h_m_whyNot, (List.forall_mem_cons.mpr ⟨h_m_lays, (List.forall_mem_cons.mpr ⟨h_m_slowed, (List.forall_mem_cons.mpr ⟨h_m_isInside, (List.forall_mem_cons.mpr ⟨h_m_sumOf, (fun _ h => absurd h List.not_mem_nil)⟩)⟩)⟩)⟩)⟩)⟩) ⟨(List.forall_mem_cons.mpr ⟨⟨_, rfl, by decide, kw_773⟩, (List.forall_mem_cons.mpr ⟨⟨_, rfl, by decide, kw_775⟩, (List.forall_mem_cons.mpr ⟨⟨_, rfl, by decide, kw_776⟩, (List.forall_mem_cons.mpr ⟨⟨_, rfl, by decide, kw_832⟩, (fun _ h => absurd h List.not_mem_nil)⟩)⟩)⟩)⟩), (List.forall_mem_cons.mpr ⟨kw_796, (fun _ h => absurd h List.not_mem_nil)⟩), (fun _ h => absurd h List.not_mem_nil), (List.forall_mem_cons.mpr ⟨mq_ml0 rfl mw0_m_isHandled kw_925, (List.forall_mem_cons.mpr ⟨mq_ml0 rfl mw0_m_whyNot kw_959, (List.forall_mem_cons.mpr ⟨mq_ml0 rfl mw0_m_lays kw_929, (List.forall_mem_cons.mpr ⟨mq_ml0 rfl mw0_m_slowed kw_895, (List.forall_mem_cons.mpr ⟨mq_ml0 rfl mw0_m_isInside kw_906, (List.forall_mem_cons.mpr ⟨mq_ml0 rfl mw0_m_sumOf kw_917, (fun _ h => absurd h List.not_mem_nil)⟩)⟩)⟩)⟩)⟩)⟩), (fun _ h => absurd h List.not_mem_nil), (fun _ h => absurd h List.not_mem_nil)⟩ (by decide +kernel) ⟨_, _, rfl⟩ ?_ ?_ ?_ ?_
  · intro as ρ μ h
    obtain ⟨nw, sp, tl, tx, al⟩ := ρ
    obtain ⟨as0, rfl, h0⟩ := mq_pZ_spec h
    clear h
    obtain ⟨s, as1, rfl, h1⟩ := mq_pI_spec h0
    clear h0
    obtain ⟨k, as2, rfl, h2⟩ := mq_pI_spec h1
    clear h1
    obtain ⟨p, as3, rfl, h3⟩ := mq_pI_spec h2
    clear h2
    obtain ⟨y, as4, rfl, h4⟩ := mq_pI_spec h3
    clear h3
    obtain ⟨v, as5, rfl, h5⟩ := mq_pI_spec h4
    clear h4
    obtain ⟨rfl, hp⟩ := mq_p0_spec h5
    clear h5
    rfl
  · intro as ρ μ h
    obtain ⟨nw, sp, tl, tx, al⟩ := ρ
    obtain ⟨as0, rfl, h0⟩ := mq_pZ_spec h
    clear h
    obtain ⟨s, as1, rfl, h1⟩ := mq_pI_spec h0
    clear h0
    obtain ⟨k, as2, rfl, h2⟩ := mq_pI_spec h1
    clear h1
    obtain ⟨p, as3, rfl, h3⟩ := mq_pI_spec h2
    clear h2
    obtain ⟨y, as4, rfl, h4⟩ := mq_pI_spec h3
    clear h3
    obtain ⟨v, as5, rfl, h5⟩ := mq_pI_spec h4
    clear h4
    obtain ⟨rfl, hp⟩ := mq_p0_spec h5
    clear h5
    intro hrg
    obtain ⟨⟨ha1a, ha1b⟩, ⟨ha2a, ha2b⟩, ⟨ha3a, ha3b⟩, ⟨ha4a, ha4b⟩, ⟨ha5a, ha5b⟩, -⟩ := hrg
    intro hbk
    have hk0 : 0 ≤ μ (67, 0) 0 ∧ μ (67, 0) 0 ≤ 400 := hbk (67, 0) 0
    have e0 : mq_l0 ([.inr (.inr (some (60, 0))), .inl s, .inl k, .inl p, .inl y, .inl v] : List mq_V) 10 = [some (.inr (.inr (some (60, 0)))), some (.inl s), some (.inl k), some (.inl p), some (.inl y), some (.inl v), none, none, none, none] := rfl
    rw [e0]
    repeat' (first | refine And.intro ?_ ?_ | intro _)
    all_goals try simp only [Int.reduceToNat, Int.reduceAdd, mq_up_f, mq_up_s, mq_up_e, ne_eq, Nat.reduceEqDiff, not_false_eq_true, true_and, and_true, false_and, and_false, false_or, or_false, true_or, or_true, true_implies] at *
    all_goals first | omega | rfl | exact trivial | assumption | (have hag := ‹mq_ag _ _ _›; rw [mq_ag_at hag 62 0 (by decide +kernel), mq_ag_at hag 63 0 (by decide +kernel)]; exact sq_m (sq_g ‹sq_bx ((_ : Int) = 0 → sq_cw _ _ _)› (by omega))) | exact (mq_b1 (i := 0) (f := 62) ‹mq_bok _› rfl _).1 | (have hag := ‹mq_ag _ _ _›; rw [mq_ag_at hag 62 0 (by decide +kernel)]; exact (mq_b1 (i := 0) (f := 62) hbk rfl _).1)
  · intro as ρ μ h
    obtain ⟨nw, sp, tl, tx, al⟩ := ρ
    obtain ⟨as0, rfl, h0⟩ := mq_pZ_spec h
    clear h
    obtain ⟨s, as1, rfl, h1⟩ := mq_pI_spec h0
    clear h0
    obtain ⟨k, as2, rfl, h2⟩ := mq_pI_spec h1
    clear h1
    obtain ⟨p, as3, rfl, h3⟩ := mq_pI_spec h2
    clear h2
    obtain ⟨y, as4, rfl, h4⟩ := mq_pI_spec h3
    clear h3
    obtain ⟨v, as5, rfl, h5⟩ := mq_pI_spec h4
    clear h4
    obtain ⟨rfl, hp⟩ := mq_p0_spec h5
    clear h5
    refine List.forall_mem_cons.mpr ⟨?_, ?_⟩
    · intro l st ρ' μ' cs hJ
      obtain ⟨l0, rfl, hJ0⟩ := mq_tZ_spec hJ
      clear hJ
      obtain ⟨v1, l1, rfl, hJ1⟩ := mq_tI_spec hJ0
      clear hJ0
      obtain ⟨v2, l2, rfl, hJ2⟩ := mq_tI_spec hJ1
      clear hJ1
      obtain ⟨v3, l3, rfl, hJ3⟩ := mq_tI_spec hJ2
      clear hJ2
      obtain ⟨v4, l4, rfl, hJ4⟩ := mq_tI_spec hJ3
      clear hJ3
      obtain ⟨v5, l5, rfl, hJ5⟩ := mq_tI_spec hJ4
      clear hJ4
      obtain ⟨v6, l6, rfl, hJ6⟩ := mq_tI_spec hJ5
      clear hJ5
      obtain ⟨v7, l7, rfl, hJ7⟩ := mq_tI_spec hJ6
      clear hJ6
      obtain ⟨v8, l8, rfl, hJ8⟩ := mq_tI_spec hJ7
      clear hJ7
      obtain ⟨v9, l9, rfl, hJ9⟩ := mq_tI_spec hJ8
      clear hJ8
      obtain ⟨rfl, hJz⟩ := mq_t0_spec hJ9
      clear hJ9
      obtain ⟨rfl, rfl, rfl, hc0, hc1, hc2, hc3, hc4, hc5, hc6, hc7, hc8, hc9, hc10, hc11, hc12, hc13, hc14, hc15, hc16, hc17, hc18, hm0, hm1⟩ := hJz
      omega
    exact fun _ h => absurd h List.not_mem_nil
  · intro as ρ μ h
    obtain ⟨nw, sp, tl, tx, al⟩ := ρ
    obtain ⟨as0, rfl, h0⟩ := mq_pZ_spec h
    clear h
    obtain ⟨s, as1, rfl, h1⟩ := mq_pI_spec h0
    clear h0
    obtain ⟨k, as2, rfl, h2⟩ := mq_pI_spec h1
    clear h1
    obtain ⟨p, as3, rfl, h3⟩ := mq_pI_spec h2
    clear h2
    obtain ⟨y, as4, rfl, h4⟩ := mq_pI_spec h3
    clear h3
    obtain ⟨v, as5, rfl, h5⟩ := mq_pI_spec h4
    clear h4
    obtain ⟨rfl, hp⟩ := mq_p0_spec h5
    clear h5
    intro hrg
    obtain ⟨⟨ha1a, ha1b⟩, ⟨ha2a, ha2b⟩, ⟨ha3a, ha3b⟩, ⟨ha4a, ha4b⟩, ⟨ha5a, ha5b⟩, -⟩ := hrg
    refine List.forall_mem_cons.mpr ⟨?_, ?_⟩
    · intro N l st ρ' μ' cs hJ
      obtain ⟨l0, rfl, hJ0⟩ := mq_tZ_spec hJ
      clear hJ
      obtain ⟨v1, l1, rfl, hJ1⟩ := mq_tI_spec hJ0
      clear hJ0
      obtain ⟨v2, l2, rfl, hJ2⟩ := mq_tI_spec hJ1
      clear hJ1
      obtain ⟨v3, l3, rfl, hJ3⟩ := mq_tI_spec hJ2
      clear hJ2
      obtain ⟨v4, l4, rfl, hJ4⟩ := mq_tI_spec hJ3
      clear hJ3
      obtain ⟨v5, l5, rfl, hJ5⟩ := mq_tI_spec hJ4
      clear hJ4
      obtain ⟨v6, l6, rfl, hJ6⟩ := mq_tI_spec hJ5
      clear hJ5
      obtain ⟨v7, l7, rfl, hJ7⟩ := mq_tI_spec hJ6
      clear hJ6
      obtain ⟨v8, l8, rfl, hJ8⟩ := mq_tI_spec hJ7
      clear hJ7
      obtain ⟨v9, l9, rfl, hJ9⟩ := mq_tI_spec hJ8
      clear hJ8
      obtain ⟨rfl, hJz⟩ := mq_t0_spec hJ9
      clear hJ9
      obtain ⟨rfl, rfl, rfl, hc0, hc1, hc2, hc3, hc4, hc5, hc6, hc7, hc8, hc9, hc10, hc11, hc12, hc13, hc14, hc15, hc16, hc17, hc18, hm0, hm1⟩ := hJz
      intro hbk hrl
      have hk0 : 0 ≤ μ' (67, 0) 0 ∧ μ' (67, 0) 0 ≤ 400 := hbk (67, 0) 0
      obtain ⟨⟨hl1a, hl1b⟩, ⟨hl2a, hl2b⟩, ⟨hl3a, hl3b⟩, ⟨hl4a, hl4b⟩, ⟨hl5a, hl5b⟩, ⟨hl6a, hl6b⟩, ⟨hl7a, hl7b⟩, ⟨hl8a, hl8b⟩, ⟨hl9a, hl9b⟩, -⟩ := hrl
      subst hc0
      repeat' (first | refine And.intro ?_ ?_ | intro _)
      all_goals try simp only [Int.reduceToNat, Int.reduceAdd, mq_up_f, mq_up_s, mq_up_e, ne_eq, Nat.reduceEqDiff, not_false_eq_true, true_and, and_true, false_and, and_false, false_or, or_false, true_or, or_true, true_implies] at *
      all_goals first | omega | rfl | exact trivial | assumption | (have h9 := (sq_g hc18).2.2 v9 (by omega) (by omega); omega)
    exact fun _ h => absurd h List.not_mem_nil
