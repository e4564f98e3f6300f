def pq_m_stepOf : List mq_E := [(0, false, .aload 0), (1, false, .iload 1), (2, false, .iload 4), (4, false, .iload 5), (6, false, .invokestatic 0), (9, false, .istore 6), (11, false, .iload 6), (13, false, .iconst 1000000), (15, false, .if_icmp .lt (Int.ofNat 20)), (18, false, .iconst (-1)), (19, false, .ireturn), (20, false, .iconst 0), (21, false, .istore 7), (23, true, .aload 0), (24, false, .iload 1), (25, false, .iload 2), (26, false, .iload 3), (27, false, .iload 4), (29, false, .iload 5), (31, false, .iload 7), (33, false, .invokestatic 1), (36, false, .iload 6), (38, false, .if_icmp .eq (Int.ofNat 47)), (41, false, .iinc 7 1), (44, false, .goto (Int.ofNat 23)), (47, false, .iload 7), (49, false, .ireturn)]
def cq_m_stepOf : mq_C := ((yX11_stepOf, cX11_stepOf, 8, (some .int), { frames := 4, cells := 0, slots := 0, locals := 103 }), (6, 1, 0, 0), 0, (fun as ρ μ => match ρ with
  | (nw, sp, tl, tx, al) => mq_pZ as 60 fun as => mq_pI as fun t as => mq_pI as fun k as => mq_pI as fun p as => mq_pI as fun y as => mq_pI as fun v as => mq_p0 as (0 ≤ t ∧ t ≤ 16 ∧ 0 ≤ k ∧ k ≤ 3 ∧ 0 ≤ p ∧ p ≤ 5 ∧ 0 ≤ y ∧ y ≤ 400 ∧ y ≤ μ (67, 0) 0 ∧ 1 ≤ v ∧ v ≤ 15 ∧ sq_bx (sq_laid (sq_li μ) (μ (60, 0) 29) (μ (60, 0) 30) (μ (78, 0)) t k p))),
  (fun as ρ μ r ρ' μ' => match as, ρ, ρ' with
  | [.inr (.inr (some (_, _))), .inl t, .inl k, .inl p, .inl y, .inl v], (nw, sp, tl, tx, al), (nw', sp', tl', tx', al') => [-1 ≤ r, r ≤ 3, r = -1 → 1000000 ≤ μ (78, 0) (6416 * t + 16 * y + v).toNat, sq_bx (sq_nx (sq_li μ) (μ (78, 0)) t k y v r)]
  | _, _, _ => []))
def kq_m_stepOf : List mq_V → mq_R → mq_M → List mq_Cu := fun as ρ μ => match as, ρ with
  | [.inr (.inr (some (_, _))), .inl t, .inl k, .inl p, .inl y, .inl v], (nw, sp, tl, tx, al) => [(23, [true, true, true, true, true, true, true, true], fun N l st ρ' μ' cs => mq_tZ l 60 fun l => mq_tI l fun v1 l => mq_tI l fun v2 l => mq_tI l fun v3 l => mq_tI l fun v4 l => mq_tI l fun v5 l => mq_tI l fun v6 l => mq_tI l fun v7 l => mq_t0 l (st = [] ∧ ρ' = (nw, sp, tl, tx, al) ∧ cs = 0 ∧ v1 = t ∧ v2 = k ∧ v3 = p ∧ v4 = y ∧ v5 = v ∧ μ = μ' ∧ 0 ≤ v7 ∧ v7 ≤ 3 ∧ v6 = μ (78, 0) (6416 * t + 16 * y + v).toNat ∧ v6 < 1000000 ∧ sq_bx (∃ q : Int, v7 ≤ q ∧ q ≤ 3 ∧ sq_sum (sq_li μ) (μ (60, 0) 29) (μ (60, 0) 30) (μ (78, 0)) t k p y v q = v6) ∧ 0 ≤ (3 - v7 : Int) ∧ (3 - v7 : Int) < (N : Int)))]
  | _, _ => []
set_option maxHeartbeats 16000000 in
set_option maxRecDepth 100000 in
theorem vq_m_stepOf (lc : Launch) (h_m_sumOf : mq_Ct lc cq_m_sumOf) (h_m_sumBy : mq_Ct lc cq_m_sumBy) : mq_Ct lc cq_m_stepOf := by
  refine mq_method (lc := lc) (P := pq_m_stepOf) (cl := [cq_m_sumOf, cq_m_sumBy]) (T := ([], [(171, 1000000)], [], [(348, 0, 0), (341, 1, 0)], [], [])) (fuel := 400) (cuts := kq_m_stepOf) (by decide) rfl ⟨rfl, rfl⟩ (List.forall_mem_cons.mpr ⟨h_m_sumOf, (List.forall_mem_cons.mpr ⟨h_m_sumBy, (fun _ h => absurd h List.not_mem_nil)⟩)⟩) ⟨(fun _ h => absurd h List.not_mem_nil), (List.forall_mem_cons.mpr ⟨kw_796, (fun _ h => absurd h List.not_mem_nil)⟩), (fun _ h => absurd h List.not_mem_nil), (List.forall_mem_cons.mpr ⟨mq_ml0 rfl mw0_m_sumOf kw_917, (List.forall_mem_cons.mpr ⟨mq_ml0 rfl mw0_m_sumBy kw_910, (fun _ h => absurd h List.not_mem_nil)⟩)⟩), (fun _ h => absurd h List.not_mem_nil), (fun _ h => absurd h List.not_mem_nil)⟩ (by decide +kernel) ⟨_, _, rfl⟩ ?_ ?_ ?_ ?_
  · intro as ρ μ h
    obtain ⟨nw, sp, tl, tx, al⟩ := ρ
    obtain ⟨as0, rfl, h0⟩ := mq_pZ_spec h
    clear h
    obtain ⟨t, as1, rfl, h1⟩ := mq_pI_spec h0
    clear h0
    obtain ⟨k, as2, rfl, h2⟩ := mq_pI_spec h1
    clear h1
    obtain ⟨p, as3, rfl, h3⟩ := mq_pI_spec h2
    clear h2
    obtain ⟨y, as4, rfl, h4⟩ := mq_pI_spec h3
    clear h3
    obtain ⟨v, as5, rfl, h5⟩ := mq_pI_spec h4
    clear h4
    obtain ⟨rfl, hp⟩ := mq_p0_spec h5
    clear h5
    obtain ⟨hp0, hp1, hp2, hp3, hp4, hp5, hp6, hp7, hp8, hp9, hp10, hp11⟩ := hp
    rfl
  · intro as ρ μ h
    obtain ⟨nw, sp, tl, tx, al⟩ := ρ
    obtain ⟨as0, rfl, h0⟩ := mq_pZ_spec h
    clear h
    obtain ⟨t, as1, rfl, h1⟩ := mq_pI_spec h0
    clear h0
    obtain ⟨k, as2, rfl, h2⟩ := mq_pI_spec h1
    clear h1
    obtain ⟨p, as3, rfl, h3⟩ := mq_pI_spec h2
    clear h2
    obtain ⟨y, as4, rfl, h4⟩ := mq_pI_spec h3
    clear h3
    obtain ⟨v, as5, rfl, h5⟩ := mq_pI_spec h4
    clear h4
    obtain ⟨rfl, hp⟩ := mq_p0_spec h5
    clear h5
    obtain ⟨hp0, hp1, hp2, hp3, hp4, hp5, hp6, hp7, hp8, hp9, hp10, hp11⟩ := hp
    intro hrg
    obtain ⟨⟨ha1a, ha1b⟩, ⟨ha2a, ha2b⟩, ⟨ha3a, ha3b⟩, ⟨ha4a, ha4b⟩, ⟨ha5a, ha5b⟩, -⟩ := hrg
    intro hbk
    have e0 : mq_l0 ([.inr (.inr (some (60, 0))), .inl t, .inl k, .inl p, .inl y, .inl v] : List mq_V) 8 = [some (.inr (.inr (some (60, 0)))), some (.inl t), some (.inl k), some (.inl p), some (.inl y), some (.inl v), none, none] := rfl
    rw [e0]
    repeat' (first | refine And.intro ?_ ?_ | intro _)
    all_goals try simp only [Int.reduceToNat, Int.reduceAdd, mq_up_f, mq_up_s, mq_up_e, ne_eq, Nat.reduceEqDiff, not_false_eq_true, true_and, and_true, false_and, and_false, false_or, or_false, true_or, or_true, true_implies] at *
    all_goals first | omega | rfl | exact trivial | assumption | exact sq_m (fun h => absurd h (by decide)) | (obtain ⟨q, q1, q2, q3⟩ := sq_g hp11 y v (by omega) (by assumption) (by omega) (by omega) (by omega) (by omega); first | (subst_vars; exact sq_m ⟨q, by omega, by omega, by omega⟩))
  · intro as ρ μ h
    obtain ⟨nw, sp, tl, tx, al⟩ := ρ
    obtain ⟨as0, rfl, h0⟩ := mq_pZ_spec h
    clear h
    obtain ⟨t, as1, rfl, h1⟩ := mq_pI_spec h0
    clear h0
    obtain ⟨k, as2, rfl, h2⟩ := mq_pI_spec h1
    clear h1
    obtain ⟨p, as3, rfl, h3⟩ := mq_pI_spec h2
    clear h2
    obtain ⟨y, as4, rfl, h4⟩ := mq_pI_spec h3
    clear h3
    obtain ⟨v, as5, rfl, h5⟩ := mq_pI_spec h4
    clear h4
    obtain ⟨rfl, hp⟩ := mq_p0_spec h5
    clear h5
    obtain ⟨hp0, hp1, hp2, hp3, hp4, hp5, hp6, hp7, hp8, hp9, hp10, hp11⟩ := hp
    refine List.forall_mem_cons.mpr ⟨?_, ?_⟩
    · intro l st ρ' μ' cs hJ
      obtain ⟨l0, rfl, hJ0⟩ := mq_tZ_spec hJ
      clear hJ
      obtain ⟨v1, l1, rfl, hJ1⟩ := mq_tI_spec hJ0
      clear hJ0
      obtain ⟨v2, l2, rfl, hJ2⟩ := mq_tI_spec hJ1
      clear hJ1
      obtain ⟨v3, l3, rfl, hJ3⟩ := mq_tI_spec hJ2
      clear hJ2
      obtain ⟨v4, l4, rfl, hJ4⟩ := mq_tI_spec hJ3
      clear hJ3
      obtain ⟨v5, l5, rfl, hJ5⟩ := mq_tI_spec hJ4
      clear hJ4
      obtain ⟨v6, l6, rfl, hJ6⟩ := mq_tI_spec hJ5
      clear hJ5
      obtain ⟨v7, l7, rfl, hJ7⟩ := mq_tI_spec hJ6
      clear hJ6
      obtain ⟨rfl, hJz⟩ := mq_t0_spec hJ7
      clear hJ7
      obtain ⟨rfl, rfl, rfl, hc0, hc1, hc2, hc3, hc4, rfl, hc6, hc7, hc8, hc9, hc10, hm0, hm1⟩ := hJz
      omega
    exact fun _ h => absurd h List.not_mem_nil
  · intro as ρ μ h
    obtain ⟨nw, sp, tl, tx, al⟩ := ρ
    obtain ⟨as0, rfl, h0⟩ := mq_pZ_spec h
    clear h
    obtain ⟨t, as1, rfl, h1⟩ := mq_pI_spec h0
    clear h0
    obtain ⟨k, as2, rfl, h2⟩ := mq_pI_spec h1
    clear h1
    obtain ⟨p, as3, rfl, h3⟩ := mq_pI_spec h2
    clear h2
    obtain ⟨y, as4, rfl, h4⟩ := mq_pI_spec h3
    clear h3
    obtain ⟨v, as5, rfl, h5⟩ := mq_pI_spec h4
    clear h4
    obtain ⟨rfl, hp⟩ := mq_p0_spec h5
    clear h5
    obtain ⟨hp0, hp1, hp2, hp3, hp4, hp5, hp6, hp7, hp8, hp9, hp10, hp11⟩ := hp
    intro hrg
    obtain ⟨⟨ha1a, ha1b⟩, ⟨ha2a, ha2b⟩, ⟨ha3a, ha3b⟩, ⟨ha4a, ha4b⟩, ⟨ha5a, ha5b⟩, -⟩ := hrg
    refine List.forall_mem_cons.mpr ⟨?_, ?_⟩
    · intro N l st ρ' μ' cs hJ
      obtain ⟨l0, rfl, hJ0⟩ := mq_tZ_spec hJ
      clear hJ
      obtain ⟨v1, l1, rfl, hJ1⟩ := mq_tI_spec hJ0
      clear hJ0
      obtain ⟨v2, l2, rfl, hJ2⟩ := mq_tI_spec hJ1
      clear hJ1
      obtain ⟨v3, l3, rfl, hJ3⟩ := mq_tI_spec hJ2
      clear hJ2
      obtain ⟨v4, l4, rfl, hJ4⟩ := mq_tI_spec hJ3
      clear hJ3
      obtain ⟨v5, l5, rfl, hJ5⟩ := mq_tI_spec hJ4
      clear hJ4
      obtain ⟨v6, l6, rfl, hJ6⟩ := mq_tI_spec hJ5
      clear hJ5
      obtain ⟨v7, l7, rfl, hJ7⟩ := mq_tI_spec hJ6
      clear hJ6
      obtain ⟨rfl, hJz⟩ := mq_t0_spec hJ7
      clear hJ7
      obtain ⟨rfl, rfl, rfl, hc0, hc1, hc2, hc3, hc4, rfl, hc6, hc7, hc8, hc9, hc10, hm0, hm1⟩ := hJz
      intro hbk hrl
      obtain ⟨⟨hl1a, hl1b⟩, ⟨hl2a, hl2b⟩, ⟨hl3a, hl3b⟩, ⟨hl4a, hl4b⟩, ⟨hl5a, hl5b⟩, ⟨hl6a, hl6b⟩, ⟨hl7a, hl7b⟩, -⟩ := hrl
      subst hc0 hc1 hc2 hc3 hc4
      obtain ⟨q, q1, q2, q3⟩ := sq_g hc10
      repeat' (first | refine And.intro ?_ ?_ | intro _)
      all_goals try simp only [Int.reduceToNat, Int.reduceAdd, mq_up_f, mq_up_s, mq_up_e, ne_eq, Nat.reduceEqDiff, not_false_eq_true, true_and, and_true, false_and, and_false, false_or, or_false, true_or, or_true, true_implies] at *
      all_goals first | omega | rfl | exact trivial | assumption | (by_cases hq : v7 = q <;> first | (subst hq; omega) | omega) | exact sq_m ⟨q, by (by_cases hq : v7 = q <;> first | (subst hq; omega) | omega), q2, q3⟩ | exact sq_m (fun _ => sq_sum_next (l := sq_li μ) (bt := μ (60, 0) 29) (dr := μ (60, 0) 30) (p := v3) (by omega))
    exact fun _ h => absurd h List.not_mem_nil
theorem mw0_m_stepOf : mq_mlA cq_m_stepOf 0 := ⟨kw_930, ⟨by decide +kernel, by decide +kernel⟩, by decide +kernel, kw_931, kw_932, kw_771, 60, by decide +kernel, fun as ρ μ h => by obtain ⟨nw, sp, tl, tx, al⟩ := ρ; obtain ⟨t, e, _⟩ := mq_pZ_spec h; exact ⟨0, t, e⟩⟩
def pq_m_isHandled : List mq_E := [(0, false, .aload 0), (1, false, .iload 1), (2, false, .iload 3), (3, false, .iload 4), (5, false, .invokestatic 0), (8, false, .ifCond .eq (Int.ofNat 23)), (11, false, .aload 0), (12, false, .iload 2), (13, false, .invokestatic 1), (16, false, .ifCond .eq (Int.ofNat 23)), (19, false, .iconst 1), (20, false, .goto (Int.ofNat 24)), (23, false, .iconst 0), (24, false, .ireturn)]
def cq_m_isHandled : mq_C := ((yX11_isHandled, cX11_isHandled, 5, (some .boolean), { frames := 3, cells := 0, slots := 0, locals := 69 }), (5, 1, 0, 0), 0, (fun as ρ μ => match ρ with
  | (nw, sp, tl, tx, al) => mq_pZ as 60 fun as => mq_pI as fun k as => mq_pI as fun p as => mq_pI as fun y as => mq_pI as fun v as => mq_p0 as (True)),
  (fun as ρ μ r ρ' μ' => match as, ρ, ρ' with
  | [.inr (.inr (some (_, _))), .inl k, .inl p, .inl y, .inl v], (nw, sp, tl, tx, al), (nw', sp', tl', tx', al') => [(r = 1 ∧ 0 ≤ k ∧ k ≤ 3 ∧ 0 ≤ p ∧ p ≤ 5 ∧ 0 ≤ y ∧ y ≤ 400 ∧ y ≤ μ (67, 0) 0 ∧ 1 ≤ v ∧ v ≤ 15) ∨ r = 0]
  | _, _, _ => []))
def kq_m_isHandled : List mq_V → mq_R → mq_M → List mq_Cu := fun as ρ μ => match as, ρ with
  | [.inr (.inr (some (_, _))), .inl k, .inl p, .inl y, .inl v], (nw, sp, tl, tx, al) => []
  | _, _ => []
set_option maxHeartbeats 16000000 in
set_option maxRecDepth 100000 in
theorem vq_m_isHandled (lc : Launch) (h_m_isMoving : mq_Ct lc cq_m_isMoving) (h_m_isPlatform : mq_Ct lc cq_m_isPlatform) : mq_Ct lc cq_m_isHandled := by
  refine mq_method (lc := lc) (P := pq_m_isHandled) (cl := [cq_m_isMoving, cq_m_isPlatform]) (T := ([], [], [], [(324, 0, 0), (352, 1, 0)], [], [])) (fuel := 400) (cuts := kq_m_isHandled) (by decide) rfl ⟨rfl, rfl⟩ (List.forall_mem_cons.mpr ⟨h_m_isMoving, (List.forall_mem_cons.mpr ⟨h_m_isPlatform, (fun _ h => absurd h List.not_mem_nil)⟩)⟩) ⟨(fun _ h => absurd h List.not_mem_nil), (fun _ h => absurd h List.not_mem_nil), (fun _ h => absurd h List.not_mem_nil), (List.forall_mem_cons.mpr ⟨mq_ml0 rfl mw0_m_isMoving kw_891, (List.forall_mem_cons.mpr ⟨mq_ml0 rfl mw0_m_isPlatform kw_921, (fun _ h => absurd h List.not_mem_nil)⟩)⟩), (fun _ h => absurd h List.not_mem_nil), (fun _ h => absurd h List.not_mem_nil)⟩ (by decide +kernel) ⟨_, _, rfl⟩ ?_ ?_ ?_ ?_
  · intro as ρ μ h
    obtain ⟨nw, sp, tl, tx, al⟩ := ρ
    obtain ⟨as0, rfl, h0⟩ := mq_pZ_spec h
    clear h
    obtain ⟨k, as1, rfl, h1⟩ := mq_pI_spec h0
    clear h0
    obtain ⟨p, as2, rfl, h2⟩ := mq_pI_spec h1
    clear h1
    obtain ⟨y, as3, rfl, h3⟩ := mq_pI_spec h2
    clear h2
    obtain ⟨v, as4, rfl, h4⟩ := mq_pI_spec h3
    clear h3
    obtain ⟨rfl, hp⟩ := mq_p0_spec h4
    clear h4
    rfl
  · intro as ρ μ h
    obtain ⟨nw, sp, tl, tx, al⟩ := ρ
    obtain ⟨as0, rfl, h0⟩ := mq_pZ_spec h
    clear h
    obtain ⟨k, as1, rfl, h1⟩ := mq_pI_spec h0
    clear h0
    obtain ⟨p, as2, rfl, h2⟩ := mq_pI_spec h1
    clear h1
    obtain ⟨y, as3, rfl, h3⟩ := mq_pI_spec h2
    clear h2
    obtain ⟨v, as4, rfl, h4⟩ := mq_pI_spec h3
    clear h3
    obtain ⟨rfl, hp⟩ := mq_p0_spec h4
    clear h4
    intro hrg
    obtain ⟨⟨ha1a, ha1b⟩, ⟨ha2a, ha2b⟩, ⟨ha3a, ha3b⟩, ⟨ha4a, ha4b⟩, -⟩ := hrg
    intro hbk
    have e0 : mq_l0 ([.inr (.inr (some (60, 0))), .inl k, .inl p, .inl y, .inl v] : List mq_V) 5 = [some (.inr (.inr (some (60, 0)))), some (.inl k), some (.inl p), some (.inl y), some (.inl v)] := rfl
    rw [e0]
    repeat' (first | refine And.intro ?_ ?_ | intro _)
    all_goals first | omega | rfl | exact trivial | (simp [mq_up] at * <;> omega)
  · intro as ρ μ h
    obtain ⟨nw, sp, tl, tx, al⟩ := ρ
    obtain ⟨as0, rfl, h0⟩ := mq_pZ_spec h
    clear h
    obtain ⟨k, as1, rfl, h1⟩ := mq_pI_spec h0
    clear h0
    obtain ⟨p, as2, rfl, h2⟩ := mq_pI_spec h1
    clear h1
    obtain ⟨y, as3, rfl, h3⟩ := mq_pI_spec h2
    clear h2
    obtain ⟨v, as4, rfl, h4⟩ := mq_pI_spec h3
    clear h3
    obtain ⟨rfl, hp⟩ := mq_p0_spec h4
    clear h4
    exact fun _ h => absurd h List.not_mem_nil
  · intro as ρ μ h
    obtain ⟨nw, sp, tl, tx, al⟩ := ρ
    obtain ⟨as0, rfl, h0⟩ := mq_pZ_spec h
    clear h
    obtain ⟨k, as1, rfl, h1⟩ := mq_pI_spec h0
    clear h0
    obtain ⟨p, as2, rfl, h2⟩ := mq_pI_spec h1
    clear h1
    obtain ⟨y, as3, rfl, h3⟩ := mq_pI_spec h2
    clear h2
    obtain ⟨v, as4, rfl, h4⟩ := mq_pI_spec h3
    clear h3
    obtain ⟨rfl, hp⟩ := mq_p0_spec h4
    clear h4
    intro hrg
    obtain ⟨⟨ha1a, ha1b⟩, ⟨ha2a, ha2b⟩, ⟨ha3a, ha3b⟩, ⟨ha4a, ha4b⟩, -⟩ := hrg
    exact fun _ h => absurd h List.not_mem_nil
theorem mw0_m_isHandled : mq_mlA cq_m_isHandled 0 := ⟨kw_922, ⟨by decide +kernel, by decide +kernel⟩, by decide +kernel, kw_923, kw_924, kw_771, 60, by decide +kernel, fun as ρ μ h => by obtain ⟨nw, sp, tl, tx, al⟩ := ρ; obtain ⟨t, e, _⟩ := mq_pZ_spec h; exact ⟨0, t, e⟩⟩
def pq_m_can : List mq_E := [(0, false, .aload 0), (1, false, .iconst 0), (2, false, .multianewarray 11 0), (5, false, .aload 0), (6, false, .iload 1), (7, false, .iload 2), (8, false, .iload 3), (9, false, .iload 4), (11, false, .invokestatic 0), (14, false, .ifCond .ne (Int.ofNat 20)), (17, false, .iconst (-2)), (19, false, .ireturn), (20, false, .aload 0), (21, false, .iconst 16), (23, false, .iload 1), (24, false, .iload 2), (25, false, .iconst 3), (26, false, .invokestatic 1), (29, false, .aload 0), (30, false, .iconst 16), (32, false, .iload 3), (33, false, .iload 4), (35, false, .invokestatic 2), (38, false, .iconst 1000000), (40, false, .if_icmp .ge (Int.ofNat 47)), (43, false, .iconst 1), (44, false, .goto (Int.ofNat 48)), (47, false, .iconst 0), (48, false, .ireturn)]
def cq_m_can : mq_C := ((yX11_can, cX11_can, 5, (some .int), { frames := 5, cells := 0, slots := 0, locals := 131 }), (5, 1, 0, 0), 302232607825161900523520, (fun as ρ μ => match ρ with
  | (nw, sp, tl, tx, al) => mq_pZ as 60 fun as => mq_pI as fun k as => mq_pI as fun p as => mq_pI as fun y as => mq_pI as fun v as => mq_p0 as (True)),
  (fun as ρ μ r ρ' μ' => match as, ρ, ρ' with
  | [.inr (.inr (some (_, _))), .inl k, .inl p, .inl y, .inl v], (nw, sp, tl, tx, al), (nw', sp', tl', tx', al') => []
  | _, _, _ => []))
def kq_m_can : List mq_V → mq_R → mq_M → List mq_Cu := fun as ρ μ => match as, ρ with
  | [.inr (.inr (some (_, _))), .inl k, .inl p, .inl y, .inl v], (nw, sp, tl, tx, al) => []
  | _, _ => []
set_option maxHeartbeats 16000000 in
set_option maxRecDepth 100000 in
theorem vq_m_can (lc : Launch) (h_m_isHandled : mq_Ct lc cq_m_isHandled) (h_m_lays : mq_Ct lc cq_m_lays) (h_m_sumOf : mq_Ct lc cq_m_sumOf) : mq_Ct lc cq_m_can := by
  refine mq_method (lc := lc) (P := pq_m_can) (cl := [cq_m_isHandled, cq_m_lays, cq_m_sumOf]) (T := ([(120, 11, 0)], [(171, 1000000)], [], [(355, 0, 0), (359, 1, 0), (348, 2, 0)], [], [])) (fuel := 400) (cuts := kq_m_can) (by decide) rfl ⟨rfl, rfl⟩ (List.forall_mem_cons.mpr ⟨h_m_isHandled, (List.forall_mem_cons.mpr ⟨h_m_lays, (List.forall_mem_cons.mpr ⟨h_m_sumOf, (fun _ h => absurd h List.not_mem_nil)⟩)⟩)⟩) ⟨(List.forall_mem_cons.mpr ⟨⟨_, rfl, by decide, kw_773⟩, (fun _ h => absurd h List.not_mem_nil)⟩), (List.forall_mem_cons.mpr ⟨kw_796, (fun _ h => absurd h List.not_mem_nil)⟩), (fun _ h => absurd h List.not_mem_nil), (List.forall_mem_cons.mpr ⟨mq_ml0 rfl mw0_m_isHandled kw_925, (List.forall_mem_cons.mpr ⟨mq_ml0 rfl mw0_m_lays kw_929, (List.forall_mem_cons.mpr ⟨mq_ml0 rfl mw0_m_sumOf kw_917, (fun _ h => absurd h List.not_mem_nil)⟩)⟩)⟩), (fun _ h => absurd h List.not_mem_nil), (fun _ h => absurd h List.not_mem_nil)⟩ (by decide +kernel) ⟨_, _, rfl⟩ ?_ ?_ ?_ ?_
  · intro as ρ μ h
    obtain ⟨nw, sp, tl, tx, al⟩ := ρ
    obtain ⟨as0, rfl, h0⟩ := mq_pZ_spec h
    clear h
    obtain ⟨k, as1, rfl, h1⟩ := mq_pI_spec h0
    clear h0
    obtain ⟨p, as2, rfl, h2⟩ := mq_pI_spec h1
    clear h1
    obtain ⟨y, as3, rfl, h3⟩ := mq_pI_spec h2
    clear h2
    obtain ⟨v, as4, rfl, h4⟩ := mq_pI_spec h3
    clear h3
    obtain ⟨rfl, hp⟩ := mq_p0_spec h4
    clear h4
    rfl
  · intro as ρ μ h
    obtain ⟨nw, sp, tl, tx, al⟩ := ρ
    obtain ⟨as0, rfl, h0⟩ := mq_pZ_spec h
    clear h
    obtain ⟨k, as1, rfl, h1⟩ := mq_pI_spec h0
    clear h0
    obtain ⟨p, as2, rfl, h2⟩ := mq_pI_spec h1
    clear h1
    obtain ⟨y, as3, rfl, h3⟩ := mq_pI_spec h2
    clear h2
    obtain ⟨v, as4, rfl, h4⟩ := mq_pI_spec h3
    clear h3
    obtain ⟨rfl, hp⟩ := mq_p0_spec h4
    clear h4
    intro hrg
    obtain ⟨⟨ha1a, ha1b⟩, ⟨ha2a, ha2b⟩, ⟨ha3a, ha3b⟩, ⟨ha4a, ha4b⟩, -⟩ := hrg
    intro hbk
    have e0 : mq_l0 ([.inr (.inr (some (60, 0))), .inl k, .inl p, .inl y, .inl v] : List mq_V) 5 = [some (.inr (.inr (some (60, 0)))), some (.inl k), some (.inl p), some (.inl y), some (.inl v)] := rfl
    rw [e0]
    repeat' (first | refine And.intro ?_ ?_ | intro _)
    all_goals try simp only [Int.reduceToNat, Int.reduceAdd, mq_up_f, mq_up_s, mq_up_e, ne_eq, Nat.reduceEqDiff, not_false_eq_true, true_and, and_true, false_and, and_false, false_or, or_false, true_or, or_true, true_implies] at *
    all_goals first | omega | rfl | exact trivial | assumption
  · intro as ρ μ h
    obtain ⟨nw, sp, tl, tx, al⟩ := ρ
    obtain ⟨as0, rfl, h0⟩ := mq_pZ_spec h
    clear h
    obtain ⟨k, as1, rfl, h1⟩ := mq_pI_spec h0
    clear h0
    obtain ⟨p, as2, rfl, h2⟩ := mq_pI_spec h1
    clear h1
    obtain ⟨y, as3, rfl, h3⟩ := mq_pI_spec h2
    clear h2
    obtain ⟨v, as4, rfl, h4⟩ := mq_pI_spec h3
    clear h3
    obtain ⟨rfl, hp⟩ := mq_p0_spec h4
    clear h4
    exact fun _ h => absurd h List.not_mem_nil
  · intro as ρ μ h
    obtain ⟨nw, sp, tl, tx, al⟩ := ρ
    obtain ⟨as0, rfl, h0⟩ := mq_pZ_spec h
    clear h
    obtain ⟨k, as1, rfl, h1⟩ := mq_pI_spec h0
    clear h0
    obtain ⟨p, as2, rfl, h2⟩ := mq_pI_spec h1
    clear h1
    obtain ⟨y, as3, rfl, h3⟩ := mq_pI_spec h2
    clear h2
    obtain ⟨v, as4, rfl, h4⟩ := mq_pI_spec h3
    clear h3
    obtain ⟨rfl, hp⟩ := mq_p0_spec h4
    clear h4
    intro hrg
    obtain ⟨⟨ha1a, ha1b⟩, ⟨ha2a, ha2b⟩, ⟨ha3a, ha3b⟩, ⟨ha4a, ha4b⟩, -⟩ := hrg
    exact fun _ h => absurd h List.not_mem_nil
def pq_m_step : List mq_E := [(0, false, .aload 0), (1, false, .iconst 0), (2, false, .multianewarray 11 0), (5, false, .aload 0), (6, false, .iload 1), (7, false, .iload 2), (8, false, .iload 3), (9, false, .iload 4), (11, false, .invokestatic 0), (14, false, .ifCond .ne (Int.ofNat 20)), (17, false, .iconst (-2)), (19, false, .ireturn), (20, false, .aload 0), (21, false, .iconst 16), (23, false, .iload 1), (24, false, .iload 2), (25, false, .iconst 3), (26, false, .invokestatic 1), (29, false, .aload 0), (30, false, .iconst 16), (32, false, .iload 1), (33, false, .iload 2), (34, false, .iload 3), (35, false, .iload 4), (37, false, .invokestatic 2), (40, false, .ireturn)]
def cq_m_step : mq_C := ((yX11_step, cX11_step, 5, (some .int), { frames := 5, cells := 0, slots := 0, locals := 131 }), (5, 1, 0, 0), 302232607825161900523520, (fun as ρ μ => match ρ with
  | (nw, sp, tl, tx, al) => mq_pZ as 60 fun as => mq_pI as fun k as => mq_pI as fun p as => mq_pI as fun y as => mq_pI as fun v as => mq_p0 as (True)),
  (fun as ρ μ r ρ' μ' => match as, ρ, ρ' with
  | [.inr (.inr (some (_, _))), .inl k, .inl p, .inl y, .inl v], (nw, sp, tl, tx, al), (nw', sp', tl', tx', al') => []
  | _, _, _ => []))
def kq_m_step : List mq_V → mq_R → mq_M → List mq_Cu := fun as ρ μ => match as, ρ with
  | [.inr (.inr (some (_, _))), .inl k, .inl p, .inl y, .inl v], (nw, sp, tl, tx, al) => []
  | _, _ => []
set_option maxHeartbeats 16000000 in
set_option maxRecDepth 100000 in
theorem vq_m_step (lc : Launch) (h_m_isHandled : mq_Ct lc cq_m_isHandled) (h_m_lays : mq_Ct lc cq_m_lays) (h_m_stepOf : mq_Ct lc cq_m_stepOf) : mq_Ct lc cq_m_step := by
  refine mq_method (lc := lc) (P := pq_m_step) (cl := [cq_m_isHandled, cq_m_lays, cq_m_stepOf]) (T := ([(120, 11, 0)], [], [], [(355, 0, 0), (359, 1, 0), (363, 2, 0)], [], [])) (fuel := 400) (cuts := kq_m_step) (by decide) rfl ⟨rfl, rfl⟩ (List.forall_mem_cons.mpr ⟨h_m_isHandled, (List.forall_mem_cons.mpr ⟨h_m_lays, (List.forall_mem_cons.mpr ⟨h_m_stepOf, (fun _ h => absurd h List.not_mem_nil)⟩)⟩)⟩) ⟨(List.forall_mem_cons.mpr ⟨⟨_, rfl, by decide, kw_773⟩, (fun _ h => absurd h List.not_mem_nil)⟩), (fun _ h => absurd h List.not_mem_nil), (fun _ h => absurd h List.not_mem_nil), (List.forall_mem_cons.mpr ⟨mq_ml0 rfl mw0_m_isHandled kw_925, (List.forall_mem_cons.mpr ⟨mq_ml0 rfl mw0_m_lays kw_929, (List.forall_mem_cons.mpr ⟨mq_ml0 rfl mw0_m_stepOf kw_933, (fun _ h => absurd h List.not_mem_nil)⟩)⟩)⟩), (fun _ h => absurd h List.not_mem_nil), (fun _ h => absurd h List.not_mem_nil)⟩ (by decide +kernel) ⟨_, _, rfl⟩ ?_ ?_ ?_ ?_
  · intro as ρ μ h
    obtain ⟨nw, sp, tl, tx, al⟩ := ρ
    obtain ⟨as0, rfl, h0⟩ := mq_pZ_spec h
    clear h
    obtain ⟨k, as1, rfl, h1⟩ := mq_pI_spec h0
    clear h0
    obtain ⟨p, as2, rfl, h2⟩ := mq_pI_spec h1
    clear h1
    obtain ⟨y, as3, rfl, h3⟩ := mq_pI_spec h2
    clear h2
    obtain ⟨v, as4, rfl, h4⟩ := mq_pI_spec h3
    clear h3
    obtain ⟨rfl, hp⟩ := mq_p0_spec h4
    clear h4
    rfl
  · intro as ρ μ h
    obtain ⟨nw, sp, tl, tx, al⟩ := ρ
    obtain ⟨as0, rfl, h0⟩ := mq_pZ_spec h
    clear h
    obtain ⟨k, as1, rfl, h1⟩ := mq_pI_spec h0
    clear h0
    obtain ⟨p, as2, rfl, h2⟩ := mq_pI_spec h1
    clear h1
    obtain ⟨y, as3, rfl, h3⟩ := mq_pI_spec h2
    clear h2
    obtain ⟨v, as4, rfl, h4⟩ := mq_pI_spec h3
    clear h3
    obtain ⟨rfl, hp⟩ := mq_p0_spec h4
    clear h4
    intro hrg
    obtain ⟨⟨ha1a, ha1b⟩, ⟨ha2a, ha2b⟩, ⟨ha3a, ha3b⟩, ⟨ha4a, ha4b⟩, -⟩ := hrg
    intro hbk
    have hk0 : 0 ≤ μ (67, 0) 0 ∧ μ (67, 0) 0 ≤ 400 := hbk (67, 0) 0
    have e0 : mq_l0 ([.inr (.inr (some (60, 0))), .inl k, .inl p, .inl y, .inl v] : List mq_V) 5 = [some (.inr (.inr (some (60, 0)))), some (.inl k), some (.inl p), some (.inl y), some (.inl v)] := rfl
    rw [e0]
    repeat' (first | refine And.intro ?_ ?_ | intro _)
    all_goals try simp only [Int.reduceToNat, Int.reduceAdd, mq_up_f, mq_up_s, mq_up_e, ne_eq, Nat.reduceEqDiff, not_false_eq_true, true_and, and_true, false_and, and_false, false_or, or_false, true_or, or_true, true_implies] at *
    all_goals first | omega | rfl | exact trivial | assumption
  · intro as ρ μ h
    obtain ⟨nw, sp, tl, tx, al⟩ := ρ
    obtain ⟨as0, rfl, h0⟩ := mq_pZ_spec h
    clear h
    obtain ⟨k, as1, rfl, h1⟩ := mq_pI_spec h0
    clear h0
    obtain ⟨p, as2, rfl, h2⟩ := mq_pI_spec h1
    clear h1
    obtain ⟨y, as3, rfl, h3⟩ := mq_pI_spec h2
    clear h2
    obtain ⟨v, as4, rfl, h4⟩ := mq_pI_spec h3
    clear h3
    obtain ⟨rfl, hp⟩ := mq_p0_spec h4
    clear h4
    exact fun _ h => absurd h List.not_mem_nil
  · intro as ρ μ h
    obtain ⟨nw, sp, tl, tx, al⟩ := ρ
    obtain ⟨as0, rfl, h0⟩ := mq_pZ_spec h
    clear h
    obtain ⟨k, as1, rfl, h1⟩ := mq_pI_spec h0
    clear h0
    obtain ⟨p, as2, rfl, h2⟩ := mq_pI_spec h1
    clear h1
    obtain ⟨y, as3, rfl, h3⟩ := mq_pI_spec h2
    clear h2
    obtain ⟨v, as4, rfl, h4⟩ := mq_pI_spec h3
    clear h3
    obtain ⟨rfl, hp⟩ := mq_p0_spec h4
    clear h4
    intro hrg
    obtain ⟨⟨ha1a, ha1b⟩, ⟨ha2a, ha2b⟩, ⟨ha3a, ha3b⟩, ⟨ha4a, ha4b⟩, -⟩ := hrg
    exact fun _ h => absurd h List.not_mem_nil
def pq_m_handled : List mq_E := [(0, false, .aload 0), (1, false, .iconst 0), (2, false, .multianewarray 11 0), (5, false, .aload 0), (6, false, .iload 1), (7, false, .iload 2), (8, false, .iload 3), (9, false, .iload 4), (11, false, .invokestatic 0), (14, false, .ifCond .eq (Int.ofNat 30)), (17, false, .iload 5), (19, false, .i2l), (20, false, .goto_w 0), (21, false, .goto_w 2), (24, false, .invokestatic 1), (27, false, .ifCond .ne (Int.ofNat 33)), (30, false, .iconst (-2)), (32, false, .ireturn), (33, false, .aload 0), (34, false, .iconst 16), (36, false, .iload 1), (37, false, .iload 2), (38, false, .iconst 3), (39, false, .invokestatic 2), (42, false, .aload 0), (43, false, .iconst 16), (45, false, .iload 3), (46, false, .iload 4), (48, false, .invokestatic 3), (51, false, .iconst 1000000), (53, false, .if_icmp .lt (Int.ofNat 58)), (56, false, .iconst (-1)), (57, false, .ireturn), (58, false, .iload 5), (60, false, .ifCond .ne (Int.ofNat 73)), (63, false, .aload 0), (64, false, .iconst 16), (66, false, .iload 3), (67, false, .iload 4), (69, false, .invokestatic 3), (72, false, .ireturn), (73, false, .iload 3), (74, false, .istore 6), (76, false, .iload 4), (78, false, .istore 7), (80, false, .iconst 0), (81, false, .istore 8), (83, true, .iload 7), (85, false, .ifCond .le (Int.ofNat 124)), (88, false, .aload 0), (89, false, .iload 1), (90, false, .iload 6), (92, false, .iload 7), (94, false, .aload 0), (95, false, .iconst 16), (97, false, .iload 1), (98, false, .iload 2), (99, false, .iload 6), (101, false, .iload 7), (103, false, .invokestatic 4), (106, false, .invokestatic 5), (109, false, .istore 7), (111, false, .iload 6), (113, false, .iload 7), (115, false, .iadd), (116, false, .istore 6), (118, false, .iinc 8 1), (121, false, .goto (Int.ofNat 83)), (124, false, .iload 5), (126, false, .iconst 1), (127, false, .if_icmp .ne (Int.ofNat 135)), (130, false, .iload 8), (132, false, .goto (Int.ofNat 137)), (135, false, .iload 6), (137, false, .ireturn)]
def cq_m_handled : mq_C := ((yX11_handled, cX11_handled, 9, (some .int), { frames := 5, cells := 0, slots := 0, locals := 131 }), (6, 1, 0, 0), 302232607825161900523520, (fun as ρ μ => match ρ with
  | (nw, sp, tl, tx, al) => mq_pZ as 60 fun as => mq_pI as fun k as => mq_pI as fun p as => mq_pI as fun y as => mq_pI as fun v as => mq_pI as fun w as => mq_p0 as (True)),
  (fun as ρ μ r ρ' μ' => match as, ρ, ρ' with
  | [.inr (.inr (some (_, _))), .inl k, .inl p, .inl y, .inl v, .inl w], (nw, sp, tl, tx, al), (nw', sp', tl', tx', al') => []
  | _, _, _ => []))
def kq_m_handled : List mq_V → mq_R → mq_M → List mq_Cu := fun as ρ μ => match as, ρ with
  | [.inr (.inr (some (_, _))), .inl k, .inl p, .inl y, .inl v, .inl w], (nw, sp, tl, tx, al) => [(83, [true, true, true, true, true, true, true, true, true], fun N l st ρ' μ' cs => mq_tZ l 60 fun l => mq_tI l fun v1 l => mq_tI l fun v2 l => mq_tI l fun v3 l => mq_tI l fun v4 l => mq_tI l fun v5 l => mq_tI l fun v6 l => mq_tI l fun v7 l => mq_tI l fun v8 l => mq_t0 l (st = [] ∧ ρ' = (nw, sp, tl, tx, al) ∧ cs = 0 ∧ v1 = k ∧ v2 = p ∧ v3 = y ∧ v4 = v ∧ v5 = w ∧ 0 ≤ v6 ∧ v6 ≤ 400 ∧ v6 ≤ μ' (67, 0) 0 ∧ 0 ≤ v7 ∧ v7 ≤ 15 ∧ 0 ≤ v8 ∧ v8 ≤ v6 + 1 ∧ (0 < v7 → v8 ≤ v6) ∧ (0 < v7 → μ' (78, 0) (6416 * 16 + 16 * v6 + v7).toNat < 1000000) ∧ 0 ≤ k ∧ k ≤ 3 ∧ 0 ≤ p ∧ p ≤ 5 ∧ sq_bx (sq_laid (sq_li μ') (μ' (60, 0) 29) (μ' (60, 0) 30) (μ' (78, 0)) 16 k p) ∧ 0 ≤ (20 * (401 - v6) + v7 : Int) ∧ (20 * (401 - v6) + v7 : Int) < (N : Int)))]
  | _, _ => []
set_option maxHeartbeats 16000000 in
set_option maxRecDepth 100000 in
theorem vq_m_handled (lc : Launch) (h_m_isHandled : mq_Ct lc cq_m_isHandled) (h_m_in : mq_Ct lc cq_m_in) (h_m_lays : mq_Ct lc cq_m_lays) (h_m_sumOf : mq_Ct lc cq_m_sumOf) (h_m_stepOf : mq_Ct lc cq_m_stepOf) (h_m_slowed : mq_Ct lc cq_m_slowed) : mq_Ct lc cq_m_handled := by
  refine mq_method (lc := lc) (P := pq_m_handled) (cl := [cq_m_isHandled, cq_m_in, cq_m_lays, cq_m_sumOf, cq_m_stepOf, cq_m_slowed]) (T := ([(120, 11, 0)], [(171, 1000000)], [(296, 2)], [(355, 0, 0), (125, 1, 1), (359, 2, 0), (348, 3, 0), (363, 4, 0), (327, 5, 0)], [], [])) (fuel := 400) (cuts := kq_m_handled) (by decide) rfl ⟨rfl, rfl⟩ (List.forall_mem_cons.mpr ⟨h_m_isHandled, (List.forall_mem_cons.mpr ⟨h_m_in, (List.forall_mem_cons.mpr ⟨h_m_lays, (List.forall_mem_cons.mpr ⟨h_m_sumOf, (List.forall_mem_cons.mpr ⟨h_m_stepOf, (List.forall_mem_cons.mpr ⟨h_m_slowed, (fun _ h => absurd h List.not_mem_nil)⟩)⟩)⟩)⟩)⟩)⟩) ⟨(List.forall_mem_cons.mpr ⟨⟨_, rfl, by decide, kw_773⟩, (fun _ h => absurd h List.not_mem_nil)⟩), (List.forall_mem_cons.mpr ⟨kw_796, (fun _ h => absurd h List.not_mem_nil)⟩), (List.forall_mem_cons.mpr ⟨kw_850, (fun _ h => absurd h List.not_mem_nil)⟩), (List.forall_mem_cons.mpr ⟨mq_ml0 rfl mw0_m_isHandled kw_925, (List.forall_mem_cons.mpr ⟨mq_ml1 rfl mw1_m_in kw_772, (List.forall_mem_cons.mpr ⟨mq_ml0 rfl mw0_m_lays kw_929, (List.forall_mem_cons.mpr ⟨mq_ml0 rfl mw0_m_sumOf kw_917, (List.forall_mem_cons.mpr ⟨mq_ml0 rfl mw0_m_stepOf kw_933, (List.forall_mem_cons.mpr ⟨mq_ml0 rfl mw0_m_slowed kw_895, (fun _ h => absurd h List.not_mem_nil)⟩)⟩)⟩)⟩)⟩)⟩), (fun _ h => absurd h List.not_mem_nil), (fun _ h => absurd h List.not_mem_nil)⟩ (by decide +kernel) ⟨_, _, rfl⟩ ?_ ?_ ?_ ?_
  · intro as ρ μ h
    obtain ⟨nw, sp, tl, tx, al⟩ := ρ
    obtain ⟨as0, rfl, h0⟩ := mq_pZ_spec h
    clear h
    obtain ⟨k, as1, rfl, h1⟩ := mq_pI_spec h0
    clear h0
    obtain ⟨p, as2, rfl, h2⟩ := mq_pI_spec h1
    clear h1
    obtain ⟨y, as3, rfl, h3⟩ := mq_pI_spec h2
    clear h2
    obtain ⟨v, as4, rfl, h4⟩ := mq_pI_spec h3
    clear h3
    obtain ⟨w, as5, rfl, h5⟩ := mq_pI_spec h4
    clear h4
    obtain ⟨rfl, hp⟩ := mq_p0_spec h5
    clear h5
    rfl
  · intro as ρ μ h
    obtain ⟨nw, sp, tl, tx, al⟩ := ρ
    obtain ⟨as0, rfl, h0⟩ := mq_pZ_spec h
    clear h
    obtain ⟨k, as1, rfl, h1⟩ := mq_pI_spec h0
    clear h0
    obtain ⟨p, as2, rfl, h2⟩ := mq_pI_spec h1
    clear h1
    obtain ⟨y, as3, rfl, h3⟩ := mq_pI_spec h2
    clear h2
    obtain ⟨v, as4, rfl, h4⟩ := mq_pI_spec h3
    clear h3
    obtain ⟨w, as5, rfl, h5⟩ := mq_pI_spec h4
    clear h4
    obtain ⟨rfl, hp⟩ := mq_p0_spec h5
    clear h5
    intro hrg
    obtain ⟨⟨ha1a, ha1b⟩, ⟨ha2a, ha2b⟩, ⟨ha3a, ha3b⟩, ⟨ha4a, ha4b⟩, ⟨ha5a, ha5b⟩, -⟩ := hrg
    intro hbk
    have hk0 : 0 ≤ μ (67, 0) 0 ∧ μ (67, 0) 0 ≤ 400 := hbk (67, 0) 0
    have e0 : mq_l0 ([.inr (.inr (some (60, 0))), .inl k, .inl p, .inl y, .inl v, .inl w] : List mq_V) 9 = [some (.inr (.inr (some (60, 0)))), some (.inl k), some (.inl p), some (.inl y), some (.inl v), some (.inl w), none, none, none] := rfl
    rw [e0]
    repeat' (first | refine And.intro ?_ ?_ | intro _)
    all_goals try simp only [Int.reduceToNat, Int.reduceAdd, mq_up_f, mq_up_s, mq_up_e, ne_eq, Nat.reduceEqDiff, not_false_eq_true, true_and, and_true, false_and, and_false, false_or, or_false, true_or, or_true, true_implies] at *
    all_goals first | omega | rfl | exact trivial | assumption
  · intro as ρ μ h
    obtain ⟨nw, sp, tl, tx, al⟩ := ρ
    obtain ⟨as0, rfl, h0⟩ := mq_pZ_spec h
    clear h
    obtain ⟨k, as1, rfl, h1⟩ := mq_pI_spec h0
    clear h0
    obtain ⟨p, as2, rfl, h2⟩ := mq_pI_spec h1
    clear h1
    obtain ⟨y, as3, rfl, h3⟩ := mq_pI_spec h2
    clear h2
    obtain ⟨v, as4, rfl, h4⟩ := mq_pI_spec h3
    clear h3
    obtain ⟨w, as5, rfl, h5⟩ := mq_pI_spec h4
    clear h4
    obtain ⟨rfl, hp⟩ := mq_p0_spec h5
    clear h5
    refine List.forall_mem_cons.mpr ⟨?_, ?_⟩
    · intro l st ρ' μ' cs hJ
      obtain ⟨l0, rfl, hJ0⟩ := mq_tZ_spec hJ
      clear hJ
      obtain ⟨v1, l1, rfl, hJ1⟩ := mq_tI_spec hJ0
      clear hJ0
      obtain ⟨v2, l2, rfl, hJ2⟩ := mq_tI_spec hJ1
      clear hJ1
      obtain ⟨v3, l3, rfl, hJ3⟩ := mq_tI_spec hJ2
      clear hJ2
      obtain ⟨v4, l4, rfl, hJ4⟩ := mq_tI_spec hJ3
      clear hJ3
      obtain ⟨v5, l5, rfl, hJ5⟩ := mq_tI_spec hJ4
      clear hJ4
      obtain ⟨v6, l6, rfl, hJ6⟩ := mq_tI_spec hJ5
      clear hJ5
      obtain ⟨v7, l7, rfl, hJ7⟩ := mq_tI_spec hJ6
      clear hJ6
      obtain ⟨v8, l8, rfl, hJ8⟩ := mq_tI_spec hJ7
      clear hJ7
      obtain ⟨rfl, hJz⟩ := mq_t0_spec hJ8
      clear hJ8
      obtain ⟨rfl, rfl, rfl, hc0, hc1, hc2, hc3, hc4, hc5, hc6, hc7, hc8, hc9, hc10, hc11, hc12, hc13, hc14, hc15, hc16, hc17, hc18, hm0, hm1⟩ := hJz
      omega
    exact fun _ h => absurd h List.not_mem_nil
  · intro as ρ μ h
    obtain ⟨nw, sp, tl, tx, al⟩ := ρ
    obtain ⟨as0, rfl, h0⟩ := mq_pZ_spec h
    clear h
    obtain ⟨k, as1, rfl, h1⟩ := mq_pI_spec h0
    clear h0
    obtain ⟨p, as2, rfl, h2⟩ := mq_pI_spec h1
    clear h1
    obtain ⟨y, as3, rfl, h3⟩ := mq_pI_spec h2
    clear h2
    obtain ⟨v, as4, rfl, h4⟩ := mq_pI_spec h3
    clear h3
    obtain ⟨w, as5, rfl, h5⟩ := mq_pI_spec h4
    clear h4
    obtain ⟨rfl, hp⟩ := mq_p0_spec h5
    clear h5
    intro hrg
    obtain ⟨⟨ha1a, ha1b⟩, ⟨ha2a, ha2b⟩, ⟨ha3a, ha3b⟩, ⟨ha4a, ha4b⟩, ⟨ha5a, ha5b⟩, -⟩ := hrg
    refine List.forall_mem_cons.mpr ⟨?_, ?_⟩
    · intro N l st ρ' μ' cs hJ
      obtain ⟨l0, rfl, hJ0⟩ := mq_tZ_spec hJ
      clear hJ
      obtain ⟨v1, l1, rfl, hJ1⟩ := mq_tI_spec hJ0
      clear hJ0
      obtain ⟨v2, l2, rfl, hJ2⟩ := mq_tI_spec hJ1
      clear hJ1
      obtain ⟨v3, l3, rfl, hJ3⟩ := mq_tI_spec hJ2
      clear hJ2
      obtain ⟨v4, l4, rfl, hJ4⟩ := mq_tI_spec hJ3
      clear hJ3
      obtain ⟨v5, l5, rfl, hJ5⟩ := mq_tI_spec hJ4
      clear hJ4
      obtain ⟨v6, l6, rfl, hJ6⟩ := mq_tI_spec hJ5
      clear hJ5
      obtain ⟨v7, l7, rfl, hJ7⟩ := mq_tI_spec hJ6
      clear hJ6
      obtain ⟨v8, l8, rfl, hJ8⟩ := mq_tI_spec hJ7
      clear hJ7
      obtain ⟨rfl, hJz⟩ := mq_t0_spec hJ8
      clear hJ8
      obtain ⟨rfl, rfl, rfl, hc0, hc1, hc2, hc3, hc4, hc5, hc6, hc7, hc8, hc9, hc10, hc11, hc12, hc13, hc14, hc15, hc16, hc17, hc18, hm0, hm1⟩ := hJz
      intro hbk hrl
      have hk0 : 0 ≤ μ' (67, 0) 0 ∧ μ' (67, 0) 0 ≤ 400 := hbk (67, 0) 0
      obtain ⟨⟨hl1a, hl1b⟩, ⟨hl2a, hl2b⟩, ⟨hl3a, hl3b⟩, ⟨hl4a, hl4b⟩, ⟨hl5a, hl5b⟩, ⟨hl6a, hl6b⟩, ⟨hl7a, hl7b⟩, ⟨hl8a, hl8b⟩, -⟩ := hrl
      subst hc0 hc1 hc2
      repeat' (first | refine And.intro ?_ ?_ | intro _)
      all_goals try simp only [Int.reduceToNat, Int.reduceAdd, mq_up_f, mq_up_s, mq_up_e, ne_eq, Nat.reduceEqDiff, not_false_eq_true, true_and, and_true, false_and, and_false, false_or, or_false, true_or, or_true, true_implies] at *
      all_goals first | omega | rfl | exact trivial | assumption | (have h9 := sq_nx_use (sq_g ‹sq_bx (sq_nx _ _ _ _ _ _ _)›) (by omega) ‹_ = sq_slow _ _ _ _ _›; simp only [sq_li] at h9; omega)
    exact fun _ h => absurd h List.not_mem_nil
