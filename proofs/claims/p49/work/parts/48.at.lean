def pq_m_kindOf : List mq_E := [(0, false, .aload 0), (1, false, .invokeinterface 11 26), (4, false, .iconst 5), (5, false, .iload 1), (6, false, .imul), (7, false, .iconst 1), (8, false, .iadd), (9, false, .jsr 1), (10, false, .ireturn)]
def cq_m_kindOf : mq_C := ((yX11_kindOf, cX11_kindOf, 2, (some .int), { frames := 0, cells := 0, slots := 0, locals := 0 }), (2, 1, 0, 0), 0, (fun as ρ μ => match ρ with
  | (nw, sp, tl, tx, al) => mq_pZ as 60 fun as => mq_pI as fun c as => mq_p0 as (0 ≤ c ∧ c ≤ 15)),
  (fun as ρ μ r ρ' μ' => match as, ρ, ρ' with
  | [.inr (.inr (some (_, _))), .inl c], (nw, sp, tl, tx, al), (nw', sp', tl', tx', al') => [r = μ (76, 0) (5 * c + 1).toNat, 0 ≤ r, r ≤ 3]
  | _, _, _ => []))
def kq_m_kindOf : List mq_V → mq_R → mq_M → List mq_Cu := fun as ρ μ => match as, ρ with
  | [.inr (.inr (some (_, _))), .inl c], (nw, sp, tl, tx, al) => []
  | _, _ => []
set_option maxHeartbeats 16000000 in
set_option maxRecDepth 100000 in
theorem vq_m_kindOf (lc : Launch)  : mq_Ct lc cq_m_kindOf := by
  refine mq_method (lc := lc) (P := pq_m_kindOf) (cl := []) (T := ([(61, 11, 26)], [], [], [], [], [])) (fuel := 400) (cuts := kq_m_kindOf) (by decide) rfl ⟨rfl, rfl⟩ (fun _ h => absurd h List.not_mem_nil) ⟨(List.forall_mem_cons.mpr ⟨⟨_, rfl, by decide, kw_867⟩, (fun _ h => absurd h List.not_mem_nil)⟩), (fun _ h => absurd h List.not_mem_nil), (fun _ h => absurd h List.not_mem_nil), (fun _ h => absurd h List.not_mem_nil), (fun _ h => absurd h List.not_mem_nil), (fun _ h => absurd h List.not_mem_nil)⟩ (by decide +kernel) ⟨_, _, rfl⟩ ?_ ?_ ?_ ?_
  · intro as ρ μ h
    obtain ⟨nw, sp, tl, tx, al⟩ := ρ
    obtain ⟨as0, rfl, h0⟩ := mq_pZ_spec h
    clear h
    obtain ⟨c, as1, rfl, h1⟩ := mq_pI_spec h0
    clear h0
    obtain ⟨rfl, hp⟩ := mq_p0_spec h1
    clear h1
    obtain ⟨hp0, hp1⟩ := hp
    rfl
  · intro as ρ μ h
    obtain ⟨nw, sp, tl, tx, al⟩ := ρ
    obtain ⟨as0, rfl, h0⟩ := mq_pZ_spec h
    clear h
    obtain ⟨c, as1, rfl, h1⟩ := mq_pI_spec h0
    clear h0
    obtain ⟨rfl, hp⟩ := mq_p0_spec h1
    clear h1
    obtain ⟨hp0, hp1⟩ := hp
    intro hrg
    obtain ⟨⟨ha1a, ha1b⟩, -⟩ := hrg
    intro hbk
    have e0 : mq_l0 ([.inr (.inr (some (60, 0))), .inl c] : List mq_V) 2 = [some (.inr (.inr (some (60, 0)))), some (.inl c)] := rfl
    rw [e0]
    repeat' (first | refine And.intro ?_ ?_ | intro _)
    all_goals first | omega | rfl | exact trivial | (simp [mq_up] at * <;> omega)
  · intro as ρ μ h
    obtain ⟨nw, sp, tl, tx, al⟩ := ρ
    obtain ⟨as0, rfl, h0⟩ := mq_pZ_spec h
    clear h
    obtain ⟨c, as1, rfl, h1⟩ := mq_pI_spec h0
    clear h0
    obtain ⟨rfl, hp⟩ := mq_p0_spec h1
    clear h1
    obtain ⟨hp0, hp1⟩ := hp
    exact fun _ h => absurd h List.not_mem_nil
  · intro as ρ μ h
    obtain ⟨nw, sp, tl, tx, al⟩ := ρ
    obtain ⟨as0, rfl, h0⟩ := mq_pZ_spec h
    clear h
    obtain ⟨c, as1, rfl, h1⟩ := mq_pI_spec h0
    clear h0
    obtain ⟨rfl, hp⟩ := mq_p0_spec h1
    clear h1
    obtain ⟨hp0, hp1⟩ := hp
    intro hrg
    obtain ⟨⟨ha1a, ha1b⟩, -⟩ := hrg
    exact fun _ h => absurd h List.not_mem_nil
theorem mw0_m_kindOf : mq_mlA cq_m_kindOf 0 := ⟨kw_964, ⟨by decide +kernel, by decide +kernel⟩, by decide +kernel, kw_965, kw_966, kw_771, 60, by decide +kernel, fun as ρ μ h => by obtain ⟨nw, sp, tl, tx, al⟩ := ρ; obtain ⟨t, e, _⟩ := mq_pZ_spec h; exact ⟨0, t, e⟩⟩
def pq_m_platformAt : List mq_E := [(0, false, .aload 0), (1, false, .invokeinterface 11 23), (4, false, .iconst 2), (5, false, .aload 0), (6, false, .invokeinterface 11 26), (9, false, .iconst 5), (10, false, .iload 1), (11, false, .imul), (12, false, .iconst 2), (13, false, .iadd), (14, false, .jsr 2), (15, false, .imul), (16, false, .iaload), (17, false, .ireturn)]
def cq_m_platformAt : mq_C := ((yX11_platformAt, cX11_platformAt, 2, (some .int), { frames := 0, cells := 0, slots := 0, locals := 0 }), (2, 1, 0, 0), 0, (fun as ρ μ => match ρ with
  | (nw, sp, tl, tx, al) => mq_pZ as 60 fun as => mq_pI as fun c as => mq_p0 as (0 ≤ c ∧ c ≤ 15)),
  (fun as ρ μ r ρ' μ' => match as, ρ, ρ' with
  | [.inr (.inr (some (_, _))), .inl c], (nw, sp, tl, tx, al), (nw', sp', tl', tx', al') => [0 ≤ r, r ≤ 400]
  | _, _, _ => []))
def kq_m_platformAt : List mq_V → mq_R → mq_M → List mq_Cu := fun as ρ μ => match as, ρ with
  | [.inr (.inr (some (_, _))), .inl c], (nw, sp, tl, tx, al) => []
  | _, _ => []
set_option maxHeartbeats 16000000 in
set_option maxRecDepth 100000 in
theorem vq_m_platformAt (lc : Launch)  : mq_Ct lc cq_m_platformAt := by
  refine mq_method (lc := lc) (P := pq_m_platformAt) (cl := []) (T := ([(52, 11, 23), (61, 11, 26)], [], [], [], [], [])) (fuel := 400) (cuts := kq_m_platformAt) (by decide) rfl ⟨rfl, rfl⟩ (fun _ h => absurd h List.not_mem_nil) ⟨(List.forall_mem_cons.mpr ⟨⟨_, rfl, by decide, kw_873⟩, (List.forall_mem_cons.mpr ⟨⟨_, rfl, by decide, kw_867⟩, (fun _ h => absurd h List.not_mem_nil)⟩)⟩), (fun _ h => absurd h List.not_mem_nil), (fun _ h => absurd h List.not_mem_nil), (fun _ h => absurd h List.not_mem_nil), (fun _ h => absurd h List.not_mem_nil), (fun _ h => absurd h List.not_mem_nil)⟩ (by decide +kernel) ⟨_, _, rfl⟩ ?_ ?_ ?_ ?_
  · intro as ρ μ h
    obtain ⟨nw, sp, tl, tx, al⟩ := ρ
    obtain ⟨as0, rfl, h0⟩ := mq_pZ_spec h
    clear h
    obtain ⟨c, as1, rfl, h1⟩ := mq_pI_spec h0
    clear h0
    obtain ⟨rfl, hp⟩ := mq_p0_spec h1
    clear h1
    obtain ⟨hp0, hp1⟩ := hp
    rfl
  · intro as ρ μ h
    obtain ⟨nw, sp, tl, tx, al⟩ := ρ
    obtain ⟨as0, rfl, h0⟩ := mq_pZ_spec h
    clear h
    obtain ⟨c, as1, rfl, h1⟩ := mq_pI_spec h0
    clear h0
    obtain ⟨rfl, hp⟩ := mq_p0_spec h1
    clear h1
    obtain ⟨hp0, hp1⟩ := hp
    intro hrg
    obtain ⟨⟨ha1a, ha1b⟩, -⟩ := hrg
    intro hbk
    have e0 : mq_l0 ([.inr (.inr (some (60, 0))), .inl c] : List mq_V) 2 = [some (.inr (.inr (some (60, 0)))), some (.inl c)] := rfl
    rw [e0]
    repeat' (first | refine And.intro ?_ ?_ | intro _)
    all_goals first | omega | rfl | exact trivial | (simp [mq_up] at * <;> omega)
  · intro as ρ μ h
    obtain ⟨nw, sp, tl, tx, al⟩ := ρ
    obtain ⟨as0, rfl, h0⟩ := mq_pZ_spec h
    clear h
    obtain ⟨c, as1, rfl, h1⟩ := mq_pI_spec h0
    clear h0
    obtain ⟨rfl, hp⟩ := mq_p0_spec h1
    clear h1
    obtain ⟨hp0, hp1⟩ := hp
    exact fun _ h => absurd h List.not_mem_nil
  · intro as ρ μ h
    obtain ⟨nw, sp, tl, tx, al⟩ := ρ
    obtain ⟨as0, rfl, h0⟩ := mq_pZ_spec h
    clear h
    obtain ⟨c, as1, rfl, h1⟩ := mq_pI_spec h0
    clear h0
    obtain ⟨rfl, hp⟩ := mq_p0_spec h1
    clear h1
    obtain ⟨hp0, hp1⟩ := hp
    intro hrg
    obtain ⟨⟨ha1a, ha1b⟩, -⟩ := hrg
    exact fun _ h => absurd h List.not_mem_nil
theorem mw0_m_platformAt : mq_mlA cq_m_platformAt 0 := ⟨kw_983, ⟨by decide +kernel, by decide +kernel⟩, by decide +kernel, kw_984, kw_985, kw_771, 60, by decide +kernel, fun as ρ μ h => by obtain ⟨nw, sp, tl, tx, al⟩ := ρ; obtain ⟨t, e, _⟩ := mq_pZ_spec h; exact ⟨0, t, e⟩⟩
def pq_m_at : List mq_E := [(0, false, .iconst 0), (1, false, .istore 3), (2, true, .iload 3), (3, false, .aload 0), (4, false, .invokeinterface 11 19), (7, false, .iconst 6), (9, false, .jsr 6), (10, false, .if_icmp .ge (Int.ofNat 47)), (13, false, .aload 0), (14, false, .invokeinterface 11 26), (17, false, .iconst 5), (18, false, .iload 3), (19, false, .imul), (20, false, .jsr 0), (21, false, .iload 1), (22, false, .if_icmp .ne (Int.ofNat 41)), (25, false, .aload 0), (26, false, .invokeinterface 11 26), (29, false, .iconst 5), (30, false, .iload 3), (31, false, .imul), (32, false, .iconst 4), (33, false, .iadd), (34, false, .jsr 4), (35, false, .iload 2), (36, false, .if_icmp .ne (Int.ofNat 41)), (39, false, .iload 3), (40, false, .ireturn), (41, false, .iinc 3 1), (44, false, .goto (Int.ofNat 2)), (47, false, .iconst (-1)), (48, false, .ireturn)]
def cq_m_at : mq_C := ((yX11_at, cX11_at, 4, (some .int), { frames := 0, cells := 0, slots := 0, locals := 0 }), (3, 1, 0, 0), 0, (fun as ρ μ => match ρ with
  | (nw, sp, tl, tx, al) => mq_pZ as 60 fun as => mq_pI as fun t as => mq_pI as fun p as => mq_p0 as (True)),
  (fun as ρ μ r ρ' μ' => match as, ρ, ρ' with
  | [.inr (.inr (some (_, _))), .inl t, .inl p], (nw, sp, tl, tx, al), (nw', sp', tl', tx', al') => [-1 ≤ r, r ≤ 15, r = sq_at (μ (76, 0)) t p (μ (69, 0) 6).toNat]
  | _, _, _ => []))
def kq_m_at : List mq_V → mq_R → mq_M → List mq_Cu := fun as ρ μ => match as, ρ with
  | [.inr (.inr (some (_, _))), .inl t, .inl p], (nw, sp, tl, tx, al) => [(2, [true, true, true, true], fun N l st ρ' μ' cs => mq_tZ l 60 fun l => mq_tI l fun v1 l => mq_tI l fun v2 l => mq_tI l fun v3 l => mq_t0 l (st = [] ∧ ρ' = (nw, sp, tl, tx, al) ∧ cs = 0 ∧ v1 = t ∧ v2 = p ∧ μ = μ' ∧ 0 ≤ v3 ∧ v3 ≤ 16 ∧ v3 ≤ μ (69, 0) 6 ∧ sq_at (μ (76, 0)) t p v3.toNat = -1 ∧ 0 ≤ (16 - v3 : Int) ∧ (16 - v3 : Int) < (N : Int)))]
  | _, _ => []
set_option maxHeartbeats 16000000 in
set_option maxRecDepth 100000 in
theorem vq_m_at (lc : Launch)  : mq_Ct lc cq_m_at := by
  refine mq_method (lc := lc) (P := pq_m_at) (cl := []) (T := ([(40, 11, 19), (61, 11, 26)], [], [], [], [], [])) (fuel := 400) (cuts := kq_m_at) (by decide) rfl ⟨rfl, rfl⟩ (fun _ h => absurd h List.not_mem_nil) ⟨(List.forall_mem_cons.mpr ⟨⟨_, rfl, by decide, kw_837⟩, (List.forall_mem_cons.mpr ⟨⟨_, rfl, by decide, kw_867⟩, (fun _ h => absurd h List.not_mem_nil)⟩)⟩), (fun _ h => absurd h List.not_mem_nil), (fun _ h => absurd h List.not_mem_nil), (fun _ h => absurd h List.not_mem_nil), (fun _ h => absurd h List.not_mem_nil), (fun _ h => absurd h List.not_mem_nil)⟩ (by decide +kernel) ⟨_, _, rfl⟩ ?_ ?_ ?_ ?_
  · intro as ρ μ h
    obtain ⟨nw, sp, tl, tx, al⟩ := ρ
    obtain ⟨as0, rfl, h0⟩ := mq_pZ_spec h
    clear h
    obtain ⟨t, as1, rfl, h1⟩ := mq_pI_spec h0
    clear h0
    obtain ⟨p, as2, rfl, h2⟩ := mq_pI_spec h1
    clear h1
    obtain ⟨rfl, hp⟩ := mq_p0_spec h2
    clear h2
    rfl
  · intro as ρ μ h
    obtain ⟨nw, sp, tl, tx, al⟩ := ρ
    obtain ⟨as0, rfl, h0⟩ := mq_pZ_spec h
    clear h
    obtain ⟨t, as1, rfl, h1⟩ := mq_pI_spec h0
    clear h0
    obtain ⟨p, as2, rfl, h2⟩ := mq_pI_spec h1
    clear h1
    obtain ⟨rfl, hp⟩ := mq_p0_spec h2
    clear h2
    intro hrg
    obtain ⟨⟨ha1a, ha1b⟩, ⟨ha2a, ha2b⟩, -⟩ := hrg
    intro hbk
    have hk0 : 0 ≤ μ (69, 0) 6 ∧ μ (69, 0) 6 ≤ 16 := hbk (69, 0) 6
    have e0 : mq_l0 ([.inr (.inr (some (60, 0))), .inl t, .inl p] : List mq_V) 4 = [some (.inr (.inr (some (60, 0)))), some (.inl t), some (.inl p), none] := rfl
    rw [e0]
    repeat' (first | refine And.intro ?_ ?_ | intro _)
    all_goals try simp only [Int.reduceToNat, Int.reduceAdd, mq_up_f, mq_up_s, mq_up_e, ne_eq, Nat.reduceEqDiff, not_false_eq_true, true_and, and_true, false_and, and_false, false_or, or_false, true_or, or_true, true_implies] at *
    all_goals first | omega | rfl | exact trivial | assumption
  · intro as ρ μ h
    obtain ⟨nw, sp, tl, tx, al⟩ := ρ
    obtain ⟨as0, rfl, h0⟩ := mq_pZ_spec h
    clear h
    obtain ⟨t, as1, rfl, h1⟩ := mq_pI_spec h0
    clear h0
    obtain ⟨p, as2, rfl, h2⟩ := mq_pI_spec h1
    clear h1
    obtain ⟨rfl, hp⟩ := mq_p0_spec h2
    clear h2
    refine List.forall_mem_cons.mpr ⟨?_, ?_⟩
    · intro l st ρ' μ' cs hJ
      obtain ⟨l0, rfl, hJ0⟩ := mq_tZ_spec hJ
      clear hJ
      obtain ⟨v1, l1, rfl, hJ1⟩ := mq_tI_spec hJ0
      clear hJ0
      obtain ⟨v2, l2, rfl, hJ2⟩ := mq_tI_spec hJ1
      clear hJ1
      obtain ⟨v3, l3, rfl, hJ3⟩ := mq_tI_spec hJ2
      clear hJ2
      obtain ⟨rfl, hJz⟩ := mq_t0_spec hJ3
      clear hJ3
      obtain ⟨rfl, rfl, rfl, hc0, hc1, rfl, hc3, hc4, hc5, hc6, hm0, hm1⟩ := hJz
      omega
    exact fun _ h => absurd h List.not_mem_nil
  · intro as ρ μ h
    obtain ⟨nw, sp, tl, tx, al⟩ := ρ
    obtain ⟨as0, rfl, h0⟩ := mq_pZ_spec h
    clear h
    obtain ⟨t, as1, rfl, h1⟩ := mq_pI_spec h0
    clear h0
    obtain ⟨p, as2, rfl, h2⟩ := mq_pI_spec h1
    clear h1
    obtain ⟨rfl, hp⟩ := mq_p0_spec h2
    clear h2
    intro hrg
    obtain ⟨⟨ha1a, ha1b⟩, ⟨ha2a, ha2b⟩, -⟩ := hrg
    refine List.forall_mem_cons.mpr ⟨?_, ?_⟩
    · intro N l st ρ' μ' cs hJ
      obtain ⟨l0, rfl, hJ0⟩ := mq_tZ_spec hJ
      clear hJ
      obtain ⟨v1, l1, rfl, hJ1⟩ := mq_tI_spec hJ0
      clear hJ0
      obtain ⟨v2, l2, rfl, hJ2⟩ := mq_tI_spec hJ1
      clear hJ1
      obtain ⟨v3, l3, rfl, hJ3⟩ := mq_tI_spec hJ2
      clear hJ2
      obtain ⟨rfl, hJz⟩ := mq_t0_spec hJ3
      clear hJ3
      obtain ⟨rfl, rfl, rfl, hc0, hc1, rfl, hc3, hc4, hc5, hc6, hm0, hm1⟩ := hJz
      intro hbk hrl
      have hk0 : 0 ≤ μ (69, 0) 6 ∧ μ (69, 0) 6 ≤ 16 := hbk (69, 0) 6
      obtain ⟨⟨hl1a, hl1b⟩, ⟨hl2a, hl2b⟩, ⟨hl3a, hl3b⟩, -⟩ := hrl
      subst hc0 hc1
      repeat' (first | refine And.intro ?_ ?_ | intro _)
      all_goals try simp only [Int.reduceToNat, Int.reduceAdd, mq_up_f, mq_up_s, mq_up_e, ne_eq, Nat.reduceEqDiff, not_false_eq_true, true_and, and_true, false_and, and_false, false_or, or_false, true_or, or_true, true_implies] at *
      all_goals first | omega | rfl | exact trivial | assumption | exact sq_at_y (by omega) hc6 ⟨by omega, by omega⟩ (by omega) | exact sq_at_n (by omega) hc6 (by omega) | exact sq_end (F := sq_at _ _ _) hc6.symm (by omega)
    exact fun _ h => absurd h List.not_mem_nil
theorem mw0_m_at : mq_mlA cq_m_at 0 := ⟨kw_960, ⟨by decide +kernel, by decide +kernel⟩, by decide +kernel, kw_961, kw_962, kw_771, 60, by decide +kernel, fun as ρ μ h => by obtain ⟨nw, sp, tl, tx, al⟩ := ρ; obtain ⟨t, e, _⟩ := mq_pZ_spec h; exact ⟨0, t, e⟩⟩
def pq_m_coachesOf : List mq_E := [(0, false, .iconst 0), (1, false, .istore 2), (2, false, .iconst 0), (3, false, .istore 3), (4, true, .iload 3), (5, false, .aload 0), (6, false, .invokeinterface 11 19), (9, false, .iconst 6), (11, false, .jsr 6), (12, false, .if_icmp .ge (Int.ofNat 41)), (15, false, .iload 2), (16, false, .aload 0), (17, false, .invokeinterface 11 26), (20, false, .iconst 5), (21, false, .iload 3), (22, false, .imul), (23, false, .jsr 0), (24, false, .iload 1), (25, false, .if_icmp .ne (Int.ofNat 32)), (28, false, .iconst 1), (29, false, .goto (Int.ofNat 33)), (32, false, .iconst 0), (33, false, .iadd), (34, false, .istore 2), (35, false, .iinc 3 1), (38, false, .goto (Int.ofNat 4)), (41, false, .iload 2), (42, false, .ireturn)]
def cq_m_coachesOf : mq_C := ((yX11_coachesOf, cX11_coachesOf, 4, (some .int), { frames := 0, cells := 0, slots := 0, locals := 0 }), (2, 1, 0, 0), 0, (fun as ρ μ => match ρ with
  | (nw, sp, tl, tx, al) => mq_pZ as 60 fun as => mq_pI as fun t as => mq_p0 as (True)),
  (fun as ρ μ r ρ' μ' => match as, ρ, ρ' with
  | [.inr (.inr (some (_, _))), .inl t], (nw, sp, tl, tx, al), (nw', sp', tl', tx', al') => [0 ≤ r, r ≤ 16, r = sq_cnt (μ (76, 0)) 0 t (μ (69, 0) 6).toNat]
  | _, _, _ => []))
def kq_m_coachesOf : List mq_V → mq_R → mq_M → List mq_Cu := fun as ρ μ => match as, ρ with
  | [.inr (.inr (some (_, _))), .inl t], (nw, sp, tl, tx, al) => [(4, [true, true, true, true], fun N l st ρ' μ' cs => mq_tZ l 60 fun l => mq_tI l fun v1 l => mq_tI l fun v2 l => mq_tI l fun v3 l => mq_t0 l (st = [] ∧ ρ' = (nw, sp, tl, tx, al) ∧ cs = 0 ∧ v1 = t ∧ μ = μ' ∧ 0 ≤ v2 ∧ v2 ≤ v3 ∧ v3 ≤ 16 ∧ v3 ≤ μ (69, 0) 6 ∧ v2 = sq_cnt (μ (76, 0)) 0 t v3.toNat ∧ 0 ≤ (16 - v3 : Int) ∧ (16 - v3 : Int) < (N : Int)))]
  | _, _ => []
set_option maxHeartbeats 16000000 in
set_option maxRecDepth 100000 in
theorem vq_m_coachesOf (lc : Launch)  : mq_Ct lc cq_m_coachesOf := by
  refine mq_method (lc := lc) (P := pq_m_coachesOf) (cl := []) (T := ([(40, 11, 19), (61, 11, 26)], [], [], [], [], [])) (fuel := 400) (cuts := kq_m_coachesOf) (by decide) rfl ⟨rfl, rfl⟩ (fun _ h => absurd h List.not_mem_nil) ⟨(List.forall_mem_cons.mpr ⟨⟨_, rfl, by decide, kw_837⟩, (List.forall_mem_cons.mpr ⟨⟨_, rfl, by decide, kw_867⟩, (fun _ h => absurd h List.not_mem_nil)⟩)⟩), (fun _ h => absurd h List.not_mem_nil), (fun _ h => absurd h List.not_mem_nil), (fun _ h => absurd h List.not_mem_nil), (fun _ h => absurd h List.not_mem_nil), (fun _ h => absurd h List.not_mem_nil)⟩ (by decide +kernel) ⟨_, _, rfl⟩ ?_ ?_ ?_ ?_
  · intro as ρ μ h
    obtain ⟨nw, sp, tl, tx, al⟩ := ρ
    obtain ⟨as0, rfl, h0⟩ := mq_pZ_spec h
    clear h
    obtain ⟨t, as1, rfl, h1⟩ := mq_pI_spec h0
    clear h0
    obtain ⟨rfl, hp⟩ := mq_p0_spec h1
    clear h1
    rfl
  · intro as ρ μ h
    obtain ⟨nw, sp, tl, tx, al⟩ := ρ
    obtain ⟨as0, rfl, h0⟩ := mq_pZ_spec h
    clear h
    obtain ⟨t, as1, rfl, h1⟩ := mq_pI_spec h0
    clear h0
    obtain ⟨rfl, hp⟩ := mq_p0_spec h1
    clear h1
    intro hrg
    obtain ⟨⟨ha1a, ha1b⟩, -⟩ := hrg
    intro hbk
    have hk0 : 0 ≤ μ (69, 0) 6 ∧ μ (69, 0) 6 ≤ 16 := hbk (69, 0) 6
    have e0 : mq_l0 ([.inr (.inr (some (60, 0))), .inl t] : List mq_V) 4 = [some (.inr (.inr (some (60, 0)))), some (.inl t), none, none] := rfl
    rw [e0]
    repeat' (first | refine And.intro ?_ ?_ | intro _)
    all_goals try simp only [Int.reduceToNat, Int.reduceAdd, mq_up_f, mq_up_s, mq_up_e, ne_eq, Nat.reduceEqDiff, not_false_eq_true, true_and, and_true, false_and, and_false, false_or, or_false, true_or, or_true, true_implies] at *
    all_goals first | omega | rfl | exact trivial | assumption
  · intro as ρ μ h
    obtain ⟨nw, sp, tl, tx, al⟩ := ρ
    obtain ⟨as0, rfl, h0⟩ := mq_pZ_spec h
    clear h
    obtain ⟨t, as1, rfl, h1⟩ := mq_pI_spec h0
    clear h0
    obtain ⟨rfl, hp⟩ := mq_p0_spec h1
    clear h1
    refine List.forall_mem_cons.mpr ⟨?_, ?_⟩
    · intro l st ρ' μ' cs hJ
      obtain ⟨l0, rfl, hJ0⟩ := mq_tZ_spec hJ
      clear hJ
      obtain ⟨v1, l1, rfl, hJ1⟩ := mq_tI_spec hJ0
      clear hJ0
      obtain ⟨v2, l2, rfl, hJ2⟩ := mq_tI_spec hJ1
      clear hJ1
      obtain ⟨v3, l3, rfl, hJ3⟩ := mq_tI_spec hJ2
      clear hJ2
      obtain ⟨rfl, hJz⟩ := mq_t0_spec hJ3
      clear hJ3
      obtain ⟨rfl, rfl, rfl, hc0, rfl, hc2, hc3, hc4, hc5, hc6, hm0, hm1⟩ := hJz
      omega
    exact fun _ h => absurd h List.not_mem_nil
  · intro as ρ μ h
    obtain ⟨nw, sp, tl, tx, al⟩ := ρ
    obtain ⟨as0, rfl, h0⟩ := mq_pZ_spec h
    clear h
    obtain ⟨t, as1, rfl, h1⟩ := mq_pI_spec h0
    clear h0
    obtain ⟨rfl, hp⟩ := mq_p0_spec h1
    clear h1
    intro hrg
    obtain ⟨⟨ha1a, ha1b⟩, -⟩ := hrg
    refine List.forall_mem_cons.mpr ⟨?_, ?_⟩
    · intro N l st ρ' μ' cs hJ
      obtain ⟨l0, rfl, hJ0⟩ := mq_tZ_spec hJ
      clear hJ
      obtain ⟨v1, l1, rfl, hJ1⟩ := mq_tI_spec hJ0
      clear hJ0
      obtain ⟨v2, l2, rfl, hJ2⟩ := mq_tI_spec hJ1
      clear hJ1
      obtain ⟨v3, l3, rfl, hJ3⟩ := mq_tI_spec hJ2
      clear hJ2
      obtain ⟨rfl, hJz⟩ := mq_t0_spec hJ3
      clear hJ3
      obtain ⟨rfl, rfl, rfl, hc0, rfl, hc2, hc3, hc4, hc5, hc6, hm0, hm1⟩ := hJz
      intro hbk hrl
      have hk0 : 0 ≤ μ (69, 0) 6 ∧ μ (69, 0) 6 ≤ 16 := hbk (69, 0) 6
      obtain ⟨⟨hl1a, hl1b⟩, ⟨hl2a, hl2b⟩, ⟨hl3a, hl3b⟩, -⟩ := hrl
      subst hc0
      repeat' (first | refine And.intro ?_ ?_ | intro _)
      all_goals try simp only [Int.reduceToNat, Int.reduceAdd, mq_up_f, mq_up_s, mq_up_e, ne_eq, Nat.reduceEqDiff, not_false_eq_true, true_and, and_true, false_and, and_false, false_or, or_false, true_or, or_true, true_implies] at *
      all_goals first | omega | rfl | exact trivial | assumption | exact sq_end (F := sq_cnt _ _ _) hc6 (by omega) | (rw [sq_cnt_y0 (by omega) (by omega)]; omega) | (rw [sq_cnt_n0 (by omega) (by omega)]; omega)
    exact fun _ h => absurd h List.not_mem_nil
theorem mw0_m_coachesOf : mq_mlA cq_m_coachesOf 0 := ⟨kw_975, ⟨by decide +kernel, by decide +kernel⟩, by decide +kernel, kw_976, kw_977, kw_771, 60, by decide +kernel, fun as ρ μ h => by obtain ⟨nw, sp, tl, tx, al⟩ := ρ; obtain ⟨t, e, _⟩ := mq_pZ_spec h; exact ⟨0, t, e⟩⟩
def pq_m_longOf : List mq_E := [(0, false, .iconst 0), (1, false, .istore 3), (2, false, .iconst 0), (3, false, .istore 4), (5, true, .iload 4), (7, false, .iload 2), (8, false, .if_icmp .ge (Int.ofNat 35)), (11, false, .iload 3), (12, false, .aload 0), (13, false, .aload 0), (14, false, .aload 0), (15, false, .iload 1), (16, false, .iload 4), (18, false, .invokestatic 0), (21, false, .invokestatic 1), (24, false, .invokestatic 2), (27, false, .iadd), (28, false, .istore 3), (29, false, .iinc 4 1), (32, false, .goto (Int.ofNat 5)), (35, false, .iload 3), (36, false, .ireturn)]
def cq_m_longOf : mq_C := ((yX11_longOf, cX11_longOf, 5, (some .int), { frames := 1, cells := 0, slots := 0, locals := 23 }), (3, 1, 0, 0), 0, (fun as ρ μ => match ρ with
  | (nw, sp, tl, tx, al) => mq_pZ as 60 fun as => mq_pI as fun t as => mq_pI as fun n as => mq_p0 as (sq_bx (sq_pl (μ (69, 0)) (μ (76, 0)) 0) ∧ 0 ≤ n ∧ n ≤ 16 ∧ n ≤ sq_cnt (μ (76, 0)) 0 t (μ (69, 0) 6).toNat)),
  (fun as ρ μ r ρ' μ' => match as, ρ, ρ' with
  | [.inr (.inr (some (_, _))), .inl t, .inl n], (nw, sp, tl, tx, al), (nw', sp', tl', tx', al') => [0 ≤ r, r ≤ 480, r = sq_long (μ (74, 0)) (μ (76, 0)) (μ (69, 0) 6).toNat t n.toNat]
  | _, _, _ => []))
def kq_m_longOf : List mq_V → mq_R → mq_M → List mq_Cu := fun as ρ μ => match as, ρ with
  | [.inr (.inr (some (_, _))), .inl t, .inl n], (nw, sp, tl, tx, al) => [(5, [true, true, true, true, true], fun N l st ρ' μ' cs => mq_tZ l 60 fun l => mq_tI l fun v1 l => mq_tI l fun v2 l => mq_tI l fun v3 l => mq_tI l fun v4 l => mq_t0 l (st = [] ∧ ρ' = (nw, sp, tl, tx, al) ∧ cs = 0 ∧ v1 = t ∧ v2 = n ∧ μ = μ' ∧ 0 ≤ v4 ∧ v4 ≤ n ∧ 0 ≤ v3 ∧ v3 ≤ 30 * v4 ∧ v3 = sq_long (μ (74, 0)) (μ (76, 0)) (μ (69, 0) 6).toNat t v4.toNat ∧ 0 ≤ (n - v4 : Int) ∧ (n - v4 : Int) < (N : Int)))]
  | _, _ => []
set_option maxHeartbeats 16000000 in
set_option maxRecDepth 100000 in
theorem vq_m_longOf (lc : Launch) (h_m_at : mq_Ct lc cq_m_at) (h_m_kindOf : mq_Ct lc cq_m_kindOf) (h_m_lengthOf : mq_Ct lc cq_m_lengthOf) : mq_Ct lc cq_m_longOf := by
  refine mq_method (lc := lc) (P := pq_m_longOf) (cl := [cq_m_at, cq_m_kindOf, cq_m_lengthOf]) (T := ([], [], [], [(396, 0, 0), (398, 1, 0), (331, 2, 0)], [], [])) (fuel := 400) (cuts := kq_m_longOf) (by decide) rfl ⟨rfl, rfl⟩ (List.forall_mem_cons.mpr ⟨h_m_at, (List.forall_mem_cons.mpr ⟨h_m_kindOf, (List.forall_mem_cons.mpr ⟨h_m_lengthOf, (fun _ h => absurd h List.not_mem_nil)⟩)⟩)⟩) ⟨(fun _ h => absurd h List.not_mem_nil), (fun _ h => absurd h List.not_mem_nil), (fun _ h => absurd h List.not_mem_nil), (List.forall_mem_cons.mpr ⟨mq_ml0 rfl mw0_m_at kw_963, (List.forall_mem_cons.mpr ⟨mq_ml0 rfl mw0_m_kindOf kw_967, (List.forall_mem_cons.mpr ⟨mq_ml0 rfl mw0_m_lengthOf kw_899, (fun _ h => absurd h List.not_mem_nil)⟩)⟩)⟩), (fun _ h => absurd h List.not_mem_nil), (fun _ h => absurd h List.not_mem_nil)⟩ (by decide +kernel) ⟨_, _, rfl⟩ ?_ ?_ ?_ ?_
  · intro as ρ μ h
    obtain ⟨nw, sp, tl, tx, al⟩ := ρ
    obtain ⟨as0, rfl, h0⟩ := mq_pZ_spec h
    clear h
    obtain ⟨t, as1, rfl, h1⟩ := mq_pI_spec h0
    clear h0
    obtain ⟨n, as2, rfl, h2⟩ := mq_pI_spec h1
    clear h1
    obtain ⟨rfl, hp⟩ := mq_p0_spec h2
    clear h2
    obtain ⟨hp0, hp1, hp2, hp3⟩ := hp
    rfl
  · intro as ρ μ h
    obtain ⟨nw, sp, tl, tx, al⟩ := ρ
    obtain ⟨as0, rfl, h0⟩ := mq_pZ_spec h
    clear h
    obtain ⟨t, as1, rfl, h1⟩ := mq_pI_spec h0
    clear h0
    obtain ⟨n, as2, rfl, h2⟩ := mq_pI_spec h1
    clear h1
    obtain ⟨rfl, hp⟩ := mq_p0_spec h2
    clear h2
    obtain ⟨hp0, hp1, hp2, hp3⟩ := hp
    intro hrg
    obtain ⟨⟨ha1a, ha1b⟩, ⟨ha2a, ha2b⟩, -⟩ := hrg
    intro hbk
    have e0 : mq_l0 ([.inr (.inr (some (60, 0))), .inl t, .inl n] : List mq_V) 5 = [some (.inr (.inr (some (60, 0)))), some (.inl t), some (.inl n), none, none] := rfl
    rw [e0]
    repeat' (first | refine And.intro ?_ ?_ | intro _)
    all_goals try simp only [Int.reduceToNat, Int.reduceAdd, mq_up_f, mq_up_s, mq_up_e, ne_eq, Nat.reduceEqDiff, not_false_eq_true, true_and, and_true, false_and, and_false, false_or, or_false, true_or, or_true, true_implies] at *
    all_goals first | omega | rfl | exact trivial | assumption
  · intro as ρ μ h
    obtain ⟨nw, sp, tl, tx, al⟩ := ρ
    obtain ⟨as0, rfl, h0⟩ := mq_pZ_spec h
    clear h
    obtain ⟨t, as1, rfl, h1⟩ := mq_pI_spec h0
    clear h0
    obtain ⟨n, as2, rfl, h2⟩ := mq_pI_spec h1
    clear h1
    obtain ⟨rfl, hp⟩ := mq_p0_spec h2
    clear h2
    obtain ⟨hp0, hp1, hp2, hp3⟩ := hp
    refine List.forall_mem_cons.mpr ⟨?_, ?_⟩
    · intro l st ρ' μ' cs hJ
      obtain ⟨l0, rfl, hJ0⟩ := mq_tZ_spec hJ
      clear hJ
      obtain ⟨v1, l1, rfl, hJ1⟩ := mq_tI_spec hJ0
      clear hJ0
      obtain ⟨v2, l2, rfl, hJ2⟩ := mq_tI_spec hJ1
      clear hJ1
      obtain ⟨v3, l3, rfl, hJ3⟩ := mq_tI_spec hJ2
      clear hJ2
      obtain ⟨v4, l4, rfl, hJ4⟩ := mq_tI_spec hJ3
      clear hJ3
      obtain ⟨rfl, hJz⟩ := mq_t0_spec hJ4
      clear hJ4
      obtain ⟨rfl, rfl, rfl, hc0, hc1, rfl, hc3, hc4, hc5, hc6, hc7, hm0, hm1⟩ := hJz
      omega
    exact fun _ h => absurd h List.not_mem_nil
  · intro as ρ μ h
    obtain ⟨nw, sp, tl, tx, al⟩ := ρ
    obtain ⟨as0, rfl, h0⟩ := mq_pZ_spec h
    clear h
    obtain ⟨t, as1, rfl, h1⟩ := mq_pI_spec h0
    clear h0
    obtain ⟨n, as2, rfl, h2⟩ := mq_pI_spec h1
    clear h1
    obtain ⟨rfl, hp⟩ := mq_p0_spec h2
    clear h2
    obtain ⟨hp0, hp1, hp2, hp3⟩ := hp
    intro hrg
    obtain ⟨⟨ha1a, ha1b⟩, ⟨ha2a, ha2b⟩, -⟩ := hrg
    refine List.forall_mem_cons.mpr ⟨?_, ?_⟩
    · intro N l st ρ' μ' cs hJ
      obtain ⟨l0, rfl, hJ0⟩ := mq_tZ_spec hJ
      clear hJ
      obtain ⟨v1, l1, rfl, hJ1⟩ := mq_tI_spec hJ0
      clear hJ0
      obtain ⟨v2, l2, rfl, hJ2⟩ := mq_tI_spec hJ1
      clear hJ1
      obtain ⟨v3, l3, rfl, hJ3⟩ := mq_tI_spec hJ2
      clear hJ2
      obtain ⟨v4, l4, rfl, hJ4⟩ := mq_tI_spec hJ3
      clear hJ3
      obtain ⟨rfl, hJz⟩ := mq_t0_spec hJ4
      clear hJ4
      obtain ⟨rfl, rfl, rfl, hc0, hc1, rfl, hc3, hc4, hc5, hc6, hc7, hm0, hm1⟩ := hJz
      intro hbk hrl
      obtain ⟨⟨hl1a, hl1b⟩, ⟨hl2a, hl2b⟩, ⟨hl3a, hl3b⟩, ⟨hl4a, hl4b⟩, -⟩ := hrl
      subst hc0 hc1
      repeat' (first | refine And.intro ?_ ?_ | intro _)
      all_goals try simp only [Int.reduceToNat, Int.reduceAdd, mq_up_f, mq_up_s, mq_up_e, ne_eq, Nat.reduceEqDiff, not_false_eq_true, true_and, and_true, false_and, and_false, false_or, or_false, true_or, or_true, true_implies] at *
      all_goals first | omega | rfl | exact trivial | assumption | (have h9 := sq_at_pl (t := v1) (k := v4) (sq_g hp0) (by omega) (by omega); omega) | exact sq_end (F := sq_long _ _ _ _) hc7 (by omega) | (subst_vars; exact (sq_long_s (by omega)).symm)
    exact fun _ h => absurd h List.not_mem_nil
theorem mw0_m_longOf : mq_mlA cq_m_longOf 0 := ⟨kw_979, ⟨by decide +kernel, by decide +kernel⟩, by decide +kernel, kw_980, kw_981, kw_771, 60, by decide +kernel, fun as ρ μ h => by obtain ⟨nw, sp, tl, tx, al⟩ := ρ; obtain ⟨t, e, _⟩ := mq_pZ_spec h; exact ⟨0, t, e⟩⟩
def pq_m_laid : List mq_E := [(0, false, .aload 0), (1, false, .invokeinterface 11 26), (4, false, .iconst 5), (5, false, .iload 1), (6, false, .imul), (7, false, .iconst 3), (8, false, .iadd), (9, false, .jsr 3), (10, false, .istore 2), (11, false, .aload 0), (12, false, .invokeinterface 11 47), (15, false, .iload 1), (16, false, .iaload), (17, false, .ifCond .ne (Int.ofNat 40)), (20, false, .iload 2), (21, false, .aload 0), (22, false, .invokeinterface 11 48), (25, false, .isub), (26, false, .ifCond .ge (Int.ofNat 33)), (29, false, .iconst 0), (30, false, .goto (Int.ofNat 39)), (33, false, .iload 2), (34, false, .aload 0), (35, false, .invokeinterface 11 48), (38, false, .isub), (39, false, .ireturn), (40, false, .aload 0), (41, false, .invokeinterface 11 47), (44, false, .iload 1), (45, false, .iaload), (46, false, .iconst 1), (47, false, .if_icmp .ne (Int.ofNat 68)), (50, false, .iload 2), (51, false, .aload 0), (52, false, .invokeinterface 11 48), (55, false, .iadd), (56, false, .aload 0), (57, false, .invokeinterface 11 17), (60, false, .iconst 0), (61, false, .iaload), (62, false, .invokestatic 0), (65, false, .goto (Int.ofNat 69)), (68, false, .iload 2), (69, false, .ireturn)]
def cq_m_laid : mq_C := ((yX11_laid, cX11_laid, 3, (some .int), { frames := 1, cells := 0, slots := 0, locals := 21 }), (2, 1, 0, 0), 0, (fun as ρ μ => match ρ with
  | (nw, sp, tl, tx, al) => mq_pZ as 60 fun as => mq_pI as fun c as => mq_p0 as (0 ≤ c ∧ c ≤ 15)),
  (fun as ρ μ r ρ' μ' => match as, ρ, ρ' with
  | [.inr (.inr (some (_, _))), .inl c], (nw, sp, tl, tx, al), (nw', sp', tl', tx', al') => [0 ≤ r]
  | _, _, _ => []))
def kq_m_laid : List mq_V → mq_R → mq_M → List mq_Cu := fun as ρ μ => match as, ρ with
  | [.inr (.inr (some (_, _))), .inl c], (nw, sp, tl, tx, al) => []
  | _, _ => []
set_option maxHeartbeats 16000000 in
set_option maxRecDepth 100000 in
theorem vq_m_laid (lc : Launch) (h_m_lesser : mq_Ct lc cq_m_lesser) : mq_Ct lc cq_m_laid := by
  refine mq_method (lc := lc) (P := pq_m_laid) (cl := [cq_m_lesser]) (T := ([(61, 11, 26), (114, 11, 47), (393, 11, 48), (34, 11, 17)], [], [], [(345, 0, 1)], [], [])) (fuel := 400) (cuts := kq_m_laid) (by decide) rfl ⟨rfl, rfl⟩ (List.forall_mem_cons.mpr ⟨h_m_lesser, (fun _ h => absurd h List.not_mem_nil)⟩) ⟨(List.forall_mem_cons.mpr ⟨⟨_, rfl, by decide, kw_867⟩, (List.forall_mem_cons.mpr ⟨⟨_, rfl, by decide, kw_968⟩, (List.forall_mem_cons.mpr ⟨⟨_, rfl, by decide, kw_969⟩, (List.forall_mem_cons.mpr ⟨⟨_, rfl, by decide, kw_832⟩, (fun _ h => absurd h List.not_mem_nil)⟩)⟩)⟩)⟩), (fun _ h => absurd h List.not_mem_nil), (fun _ h => absurd h List.not_mem_nil), (List.forall_mem_cons.mpr ⟨mq_ml1 rfl mw1_m_lesser kw_913, (fun _ h => absurd h List.not_mem_nil)⟩), (fun _ h => absurd h List.not_mem_nil), (fun _ h => absurd h List.not_mem_nil)⟩ (by decide +kernel) ⟨_, _, rfl⟩ ?_ ?_ ?_ ?_
  · intro as ρ μ h
    obtain ⟨nw, sp, tl, tx, al⟩ := ρ
    obtain ⟨as0, rfl, h0⟩ := mq_pZ_spec h
    clear h
    obtain ⟨c, as1, rfl, h1⟩ := mq_pI_spec h0
    clear h0
    obtain ⟨rfl, hp⟩ := mq_p0_spec h1
    clear h1
    obtain ⟨hp0, hp1⟩ := hp
    rfl
  · intro as ρ μ h
    obtain ⟨nw, sp, tl, tx, al⟩ := ρ
    obtain ⟨as0, rfl, h0⟩ := mq_pZ_spec h
    clear h
    obtain ⟨c, as1, rfl, h1⟩ := mq_pI_spec h0
    clear h0
    obtain ⟨rfl, hp⟩ := mq_p0_spec h1
    clear h1
    obtain ⟨hp0, hp1⟩ := hp
    intro hrg
    obtain ⟨⟨ha1a, ha1b⟩, -⟩ := hrg
    intro hbk
    have e0 : mq_l0 ([.inr (.inr (some (60, 0))), .inl c] : List mq_V) 3 = [some (.inr (.inr (some (60, 0)))), some (.inl c), none] := rfl
    rw [e0]
    repeat' (first | refine And.intro ?_ ?_ | intro _)
    all_goals try simp only [Int.reduceToNat, Int.reduceAdd, mq_up_f, mq_up_s, mq_up_e, ne_eq, Nat.reduceEqDiff, not_false_eq_true, true_and, and_true, false_and, and_false, false_or, or_false, true_or, or_true, true_implies] at *
    all_goals first | omega | rfl | exact trivial | assumption
  · intro as ρ μ h
    obtain ⟨nw, sp, tl, tx, al⟩ := ρ
    obtain ⟨as0, rfl, h0⟩ := mq_pZ_spec h
    clear h
    obtain ⟨c, as1, rfl, h1⟩ := mq_pI_spec h0
    clear h0
    obtain ⟨rfl, hp⟩ := mq_p0_spec h1
    clear h1
    obtain ⟨hp0, hp1⟩ := hp
    exact fun _ h => absurd h List.not_mem_nil
  · intro as ρ μ h
    obtain ⟨nw, sp, tl, tx, al⟩ := ρ
    obtain ⟨as0, rfl, h0⟩ := mq_pZ_spec h
    clear h
    obtain ⟨c, as1, rfl, h1⟩ := mq_pI_spec h0
    clear h0
    obtain ⟨rfl, hp⟩ := mq_p0_spec h1
    clear h1
    obtain ⟨hp0, hp1⟩ := hp
    intro hrg
    obtain ⟨⟨ha1a, ha1b⟩, -⟩ := hrg
    exact fun _ h => absurd h List.not_mem_nil
theorem mw0_m_laid : mq_mlA cq_m_laid 0 := ⟨kw_1011, ⟨by decide +kernel, by decide +kernel⟩, by decide +kernel, kw_1012, kw_1013, kw_771, 60, by decide +kernel, fun as ρ μ h => by obtain ⟨nw, sp, tl, tx, al⟩ := ρ; obtain ⟨t, e, _⟩ := mq_pZ_spec h; exact ⟨0, t, e⟩⟩
def pq_m_pulled : List mq_E := [(0, false, .aload 0), (1, false, .invokeinterface 11 25), (4, false, .iconst 3), (5, false, .iload 1), (6, false, .imul), (7, false, .iconst 1), (8, false, .iadd), (9, false, .jsr 1), (10, false, .aload 0), (11, false, .invokeinterface 11 25), (14, false, .iconst 3), (15, false, .iload 1), (16, false, .imul), (17, false, .iconst 2), (18, false, .iadd), (19, false, .jsr 2), (20, false, .iload 3), (21, false, .imul), (22, false, .isub), (23, false, .istore 4), (25, false, .aload 0), (26, false, .iload 2), (27, false, .aload 0), (28, false, .invokeinterface 11 17), (31, false, .iconst 0), (32, false, .iaload), (33, false, .invokestatic 0), (36, false, .invokestatic 1), (39, false, .iload 4), (41, false, .invokestatic 0), (44, false, .istore 5), (46, false, .iload 5), (48, false, .iconst 1), (49, false, .if_icmp .ge (Int.ofNat 56)), (52, false, .iconst 1), (53, false, .goto (Int.ofNat 58)), (56, false, .iload 5), (58, false, .ireturn)]
def cq_m_pulled : mq_C := ((yX11_pulled, cX11_pulled, 6, (some .int), { frames := 1, cells := 0, slots := 0, locals := 23 }), (4, 1, 0, 0), 0, (fun as ρ μ => match ρ with
  | (nw, sp, tl, tx, al) => mq_pZ as 60 fun as => mq_pI as fun t as => mq_pI as fun y as => mq_pI as fun c as => mq_p0 as (0 ≤ t ∧ t ≤ 4 ∧ 0 ≤ c ∧ c ≤ 16)),
  (fun as ρ μ r ρ' μ' => match as, ρ, ρ' with
  | [.inr (.inr (some (_, _))), .inl t, .inl y, .inl c], (nw, sp, tl, tx, al), (nw', sp', tl', tx', al') => [1 ≤ r, r ≤ 15]
  | _, _, _ => []))
def kq_m_pulled : List mq_V → mq_R → mq_M → List mq_Cu := fun as ρ μ => match as, ρ with
  | [.inr (.inr (some (_, _))), .inl t, .inl y, .inl c], (nw, sp, tl, tx, al) => []
  | _, _ => []
set_option maxHeartbeats 16000000 in
set_option maxRecDepth 100000 in
theorem vq_m_pulled (lc : Launch) (h_m_lesser : mq_Ct lc cq_m_lesser) (h_m_limitAt : mq_Ct lc cq_m_limitAt) : mq_Ct lc cq_m_pulled := by
  refine mq_method (lc := lc) (P := pq_m_pulled) (cl := [cq_m_lesser, cq_m_limitAt]) (T := ([(58, 11, 25), (34, 11, 17)], [], [], [(345, 0, 1), (304, 1, 0)], [], [])) (fuel := 400) (cuts := kq_m_pulled) (by decide) rfl ⟨rfl, rfl⟩ (List.forall_mem_cons.mpr ⟨h_m_lesser, (List.forall_mem_cons.mpr ⟨h_m_limitAt, (fun _ h => absurd h List.not_mem_nil)⟩)⟩) ⟨(List.forall_mem_cons.mpr ⟨⟨_, rfl, by decide, kw_840⟩, (List.forall_mem_cons.mpr ⟨⟨_, rfl, by decide, kw_832⟩, (fun _ h => absurd h List.not_mem_nil)⟩)⟩), (fun _ h => absurd h List.not_mem_nil), (fun _ h => absurd h List.not_mem_nil), (List.forall_mem_cons.mpr ⟨mq_ml1 rfl mw1_m_lesser kw_913, (List.forall_mem_cons.mpr ⟨mq_ml0 rfl mw0_m_limitAt kw_866, (fun _ h => absurd h List.not_mem_nil)⟩)⟩), (fun _ h => absurd h List.not_mem_nil), (fun _ h => absurd h List.not_mem_nil)⟩ (by decide +kernel) ⟨_, _, rfl⟩ ?_ ?_ ?_ ?_
  · intro as ρ μ h
    obtain ⟨nw, sp, tl, tx, al⟩ := ρ
    obtain ⟨as0, rfl, h0⟩ := mq_pZ_spec h
    clear h
    obtain ⟨t, as1, rfl, h1⟩ := mq_pI_spec h0
    clear h0
    obtain ⟨y, as2, rfl, h2⟩ := mq_pI_spec h1
    clear h1
    obtain ⟨c, as3, rfl, h3⟩ := mq_pI_spec h2
    clear h2
    obtain ⟨rfl, hp⟩ := mq_p0_spec h3
    clear h3
    obtain ⟨hp0, hp1, hp2, hp3⟩ := hp
    rfl
  · intro as ρ μ h
    obtain ⟨nw, sp, tl, tx, al⟩ := ρ
    obtain ⟨as0, rfl, h0⟩ := mq_pZ_spec h
    clear h
    obtain ⟨t, as1, rfl, h1⟩ := mq_pI_spec h0
    clear h0
    obtain ⟨y, as2, rfl, h2⟩ := mq_pI_spec h1
    clear h1
    obtain ⟨c, as3, rfl, h3⟩ := mq_pI_spec h2
    clear h2
    obtain ⟨rfl, hp⟩ := mq_p0_spec h3
    clear h3
    obtain ⟨hp0, hp1, hp2, hp3⟩ := hp
    intro hrg
    obtain ⟨⟨ha1a, ha1b⟩, ⟨ha2a, ha2b⟩, ⟨ha3a, ha3b⟩, -⟩ := hrg
    intro hbk
    have e0 : mq_l0 ([.inr (.inr (some (60, 0))), .inl t, .inl y, .inl c] : List mq_V) 6 = [some (.inr (.inr (some (60, 0)))), some (.inl t), some (.inl y), some (.inl c), none, none] := rfl
    rw [e0]
    refine ⟨by omega, by omega, ⟨by omega, by omega⟩, by omega, ?_⟩
    intro o eo o0 o1
    refine ⟨by omega, by omega, ⟨by omega, by omega⟩, by omega, ?_⟩
    intro q eq q0 q1
    have h9 := sq_mul (a := q) (b := c) q0 (by omega) (by omega) (by omega)
    repeat' (first | refine And.intro ?_ ?_ | intro _)
    all_goals try simp only [Int.reduceToNat, Int.reduceAdd, mq_up_f, mq_up_s, mq_up_e, ne_eq, Nat.reduceEqDiff, not_false_eq_true, true_and, and_true, false_and, and_false, false_or, or_false, true_or, or_true, true_implies] at *
    all_goals first | omega | rfl | exact trivial | assumption
  · intro as ρ μ h
    obtain ⟨nw, sp, tl, tx, al⟩ := ρ
    obtain ⟨as0, rfl, h0⟩ := mq_pZ_spec h
    clear h
    obtain ⟨t, as1, rfl, h1⟩ := mq_pI_spec h0
    clear h0
    obtain ⟨y, as2, rfl, h2⟩ := mq_pI_spec h1
    clear h1
    obtain ⟨c, as3, rfl, h3⟩ := mq_pI_spec h2
    clear h2
    obtain ⟨rfl, hp⟩ := mq_p0_spec h3
    clear h3
    obtain ⟨hp0, hp1, hp2, hp3⟩ := hp
    exact fun _ h => absurd h List.not_mem_nil
  · intro as ρ μ h
    obtain ⟨nw, sp, tl, tx, al⟩ := ρ
    obtain ⟨as0, rfl, h0⟩ := mq_pZ_spec h
    clear h
    obtain ⟨t, as1, rfl, h1⟩ := mq_pI_spec h0
    clear h0
    obtain ⟨y, as2, rfl, h2⟩ := mq_pI_spec h1
    clear h1
    obtain ⟨c, as3, rfl, h3⟩ := mq_pI_spec h2
    clear h2
    obtain ⟨rfl, hp⟩ := mq_p0_spec h3
    clear h3
    obtain ⟨hp0, hp1, hp2, hp3⟩ := hp
    intro hrg
    obtain ⟨⟨ha1a, ha1b⟩, ⟨ha2a, ha2b⟩, ⟨ha3a, ha3b⟩, -⟩ := hrg
    exact fun _ h => absurd h List.not_mem_nil
theorem mw0_m_pulled : mq_mlA cq_m_pulled 0 := ⟨kw_971, ⟨by decide +kernel, by decide +kernel⟩, by decide +kernel, kw_972, kw_973, kw_771, 60, by decide +kernel, fun as ρ μ h => by obtain ⟨nw, sp, tl, tx, al⟩ := ρ; obtain ⟨t, e, _⟩ := mq_pZ_spec h; exact ⟨0, t, e⟩⟩
def pq_m_pulls : List mq_E := [(0, false, .aload 0), (1, false, .iconst 0), (2, false, .multianewarray 11 0), (5, false, .aload 0), (6, false, .iload 1), (7, false, .invokestatic 0), (10, false, .ifCond .eq (Int.ofNat 43)), (13, false, .aload 0), (14, false, .iload 2), (15, false, .invokestatic 1), (18, false, .ifCond .eq (Int.ofNat 43)), (21, false, .iload 3), (22, false, .i2l), (23, false, .goto_w 0), (24, false, .goto_w 16), (27, false, .invokestatic 2), (30, false, .ifCond .eq (Int.ofNat 43)), (33, false, .aload 0), (34, false, .iload 1), (35, false, .iload 2), (36, false, .iload 3), (37, false, .invokestatic 3), (40, false, .goto (Int.ofNat 45)), (43, false, .iconst (-2)), (45, false, .ireturn)]
def cq_m_pulls : mq_C := ((yX11_pulls, cX11_pulls, 4, (some .int), { frames := 2, cells := 0, slots := 0, locals := 48 }), (4, 1, 0, 0), 1152921504606846976, (fun as ρ μ => match ρ with
  | (nw, sp, tl, tx, al) => mq_pZ as 60 fun as => mq_pI as fun t as => mq_pI as fun y as => mq_pI as fun c as => mq_p0 as (True)),
  (fun as ρ μ r ρ' μ' => match as, ρ, ρ' with
  | [.inr (.inr (some (_, _))), .inl t, .inl y, .inl c], (nw, sp, tl, tx, al), (nw', sp', tl', tx', al') => []
  | _, _, _ => []))
def kq_m_pulls : List mq_V → mq_R → mq_M → List mq_Cu := fun as ρ μ => match as, ρ with
  | [.inr (.inr (some (_, _))), .inl t, .inl y, .inl c], (nw, sp, tl, tx, al) => []
  | _, _ => []
set_option maxHeartbeats 16000000 in
set_option maxRecDepth 100000 in
theorem vq_m_pulls (lc : Launch) (h_m_isTrain : mq_Ct lc cq_m_isTrain) (h_m_isYard : mq_Ct lc cq_m_isYard) (h_m_in : mq_Ct lc cq_m_in) (h_m_pulled : mq_Ct lc cq_m_pulled) : mq_Ct lc cq_m_pulls := by
  refine mq_method (lc := lc) (P := pq_m_pulls) (cl := [cq_m_isTrain, cq_m_isYard, cq_m_in, cq_m_pulled]) (T := ([(120, 11, 0)], [], [(453, 16)], [(314, 0, 0), (293, 1, 0), (125, 2, 1), (428, 3, 0)], [], [])) (fuel := 400) (cuts := kq_m_pulls) (by decide) rfl ⟨rfl, rfl⟩ (List.forall_mem_cons.mpr ⟨h_m_isTrain, (List.forall_mem_cons.mpr ⟨h_m_isYard, (List.forall_mem_cons.mpr ⟨h_m_in, (List.forall_mem_cons.mpr ⟨h_m_pulled, (fun _ h => absurd h List.not_mem_nil)⟩)⟩)⟩)⟩) ⟨(List.forall_mem_cons.mpr ⟨⟨_, rfl, by decide, kw_773⟩, (fun _ h => absurd h List.not_mem_nil)⟩), (fun _ h => absurd h List.not_mem_nil), (List.forall_mem_cons.mpr ⟨kw_970, (fun _ h => absurd h List.not_mem_nil)⟩), (List.forall_mem_cons.mpr ⟨mq_ml0 rfl mw0_m_isTrain kw_845, (List.forall_mem_cons.mpr ⟨mq_ml0 rfl mw0_m_isYard kw_854, (List.forall_mem_cons.mpr ⟨mq_ml1 rfl mw1_m_in kw_772, (List.forall_mem_cons.mpr ⟨mq_ml0 rfl mw0_m_pulled kw_974, (fun _ h => absurd h List.not_mem_nil)⟩)⟩)⟩)⟩), (fun _ h => absurd h List.not_mem_nil), (fun _ h => absurd h List.not_mem_nil)⟩ (by decide +kernel) ⟨_, _, rfl⟩ ?_ ?_ ?_ ?_
  · intro as ρ μ h
    obtain ⟨nw, sp, tl, tx, al⟩ := ρ
    obtain ⟨as0, rfl, h0⟩ := mq_pZ_spec h
    clear h
    obtain ⟨t, as1, rfl, h1⟩ := mq_pI_spec h0
    clear h0
    obtain ⟨y, as2, rfl, h2⟩ := mq_pI_spec h1
    clear h1
    obtain ⟨c, as3, rfl, h3⟩ := mq_pI_spec h2
    clear h2
    obtain ⟨rfl, hp⟩ := mq_p0_spec h3
    clear h3
    rfl
  · intro as ρ μ h
    obtain ⟨nw, sp, tl, tx, al⟩ := ρ
    obtain ⟨as0, rfl, h0⟩ := mq_pZ_spec h
    clear h
    obtain ⟨t, as1, rfl, h1⟩ := mq_pI_spec h0
    clear h0
    obtain ⟨y, as2, rfl, h2⟩ := mq_pI_spec h1
    clear h1
    obtain ⟨c, as3, rfl, h3⟩ := mq_pI_spec h2
    clear h2
    obtain ⟨rfl, hp⟩ := mq_p0_spec h3
    clear h3
    intro hrg
    obtain ⟨⟨ha1a, ha1b⟩, ⟨ha2a, ha2b⟩, ⟨ha3a, ha3b⟩, -⟩ := hrg
    intro hbk
    have e0 : mq_l0 ([.inr (.inr (some (60, 0))), .inl t, .inl y, .inl c] : List mq_V) 4 = [some (.inr (.inr (some (60, 0)))), some (.inl t), some (.inl y), some (.inl c)] := rfl
    rw [e0]
    repeat' (first | refine And.intro ?_ ?_ | intro _)
    all_goals try simp only [Int.reduceToNat, Int.reduceAdd, mq_up_f, mq_up_s, mq_up_e, ne_eq, Nat.reduceEqDiff, not_false_eq_true, true_and, and_true, false_and, and_false, false_or, or_false, true_or, or_true, true_implies] at *
    all_goals first | omega | rfl | exact trivial | assumption
  · intro as ρ μ h
    obtain ⟨nw, sp, tl, tx, al⟩ := ρ
    obtain ⟨as0, rfl, h0⟩ := mq_pZ_spec h
    clear h
    obtain ⟨t, as1, rfl, h1⟩ := mq_pI_spec h0
    clear h0
    obtain ⟨y, as2, rfl, h2⟩ := mq_pI_spec h1
    clear h1
    obtain ⟨c, as3, rfl, h3⟩ := mq_pI_spec h2
    clear h2
    obtain ⟨rfl, hp⟩ := mq_p0_spec h3
    clear h3
    exact fun _ h => absurd h List.not_mem_nil
  · intro as ρ μ h
    obtain ⟨nw, sp, tl, tx, al⟩ := ρ
    obtain ⟨as0, rfl, h0⟩ := mq_pZ_spec h
    clear h
    obtain ⟨t, as1, rfl, h1⟩ := mq_pI_spec h0
    clear h0
    obtain ⟨y, as2, rfl, h2⟩ := mq_pI_spec h1
    clear h1
    obtain ⟨c, as3, rfl, h3⟩ := mq_pI_spec h2
    clear h2
    obtain ⟨rfl, hp⟩ := mq_p0_spec h3
    clear h3
    intro hrg
    obtain ⟨⟨ha1a, ha1b⟩, ⟨ha2a, ha2b⟩, ⟨ha3a, ha3b⟩, -⟩ := hrg
    exact fun _ h => absurd h List.not_mem_nil
def pq_m_passes : List mq_E := [(0, false, .aload 0), (1, false, .iconst 0), (2, false, .multianewarray 11 0), (5, false, .aload 0), (6, false, .iload 1), (7, false, .invokestatic 0), (10, false, .ifCond .eq (Int.ofNat 21)), (13, false, .aload 0), (14, false, .iload 2), (15, false, .invokestatic 1), (18, false, .ifCond .ne (Int.ofNat 24)), (21, false, .iconst (-2)), (23, false, .ireturn), (24, false, .aload 0), (25, false, .iload 1), (26, false, .invokestatic 2), (29, false, .istore 3), (30, false, .aload 0), (31, false, .iload 1), (32, false, .iload 3), (33, false, .invokestatic 3), (36, false, .istore 4), (38, false, .aload 0), (39, false, .invokeinterface 11 25), (42, false, .iconst 3), (43, false, .iload 1), (44, false, .imul), (45, false, .jsr 0), (46, false, .istore 5), (48, true, .iload 4), (50, false, .iload 2), (51, false, .if_icmp .ge (Int.ofNat 102)), (54, false, .iload 4), (56, false, .aload 0), (57, false, .iload 1), (58, false, .iload 4), (60, false, .iload 3), (61, false, .invokestatic 4), (64, false, .iadd), (65, false, .istore 4), (67, false, .iinc 5 1), (70, true, .iload 3), (71, false, .ifCond .le (Int.ofNat 48)), (74, false, .aload 0), (75, false, .invokeinterface 11 26), (78, false, .iconst 5), (79, false, .aload 0), (80, false, .iload 1), (81, false, .iload 3), (82, false, .iconst 1), (83, false, .isub), (84, false, .invokestatic 5), (87, false, .imul), (88, false, .iconst 3), (89, false, .iadd), (90, false, .jsr 3), (91, false, .iload 4), (93, false, .if_icmp .gt (Int.ofNat 48)), (96, false, .iinc 3 (-1)), (99, false, .goto (Int.ofNat 70)), (102, false, .iload 5), (104, false, .ireturn)]
def cq_m_passes : mq_C := ((yX11_passes, cX11_passes, 6, (some .int), { frames := 2, cells := 0, slots := 0, locals := 48 }), (3, 1, 0, 0), 1152921504606846976, (fun as ρ μ => match ρ with
  | (nw, sp, tl, tx, al) => mq_pZ as 60 fun as => mq_pI as fun t as => mq_pI as fun y as => mq_p0 as (sq_bx (sq_inv (μ (69, 0)) (μ (76, 0))) ∧ True)),
  (fun as ρ μ r ρ' μ' => match as, ρ, ρ' with
  | [.inr (.inr (some (_, _))), .inl t, .inl y], (nw, sp, tl, tx, al), (nw', sp', tl', tx', al') => []
  | _, _, _ => []))
def kq_m_passes : List mq_V → mq_R → mq_M → List mq_Cu := fun as ρ μ => match as, ρ with
  | [.inr (.inr (some (_, _))), .inl t, .inl y], (nw, sp, tl, tx, al) => [(48, [true, true, true, true, true, true], fun N l st ρ' μ' cs => mq_tZ l 60 fun l => mq_tI l fun v1 l => mq_tI l fun v2 l => mq_tI l fun v3 l => mq_tI l fun v4 l => mq_tI l fun v5 l => mq_t0 l (st = [] ∧ ρ' = (nw, sp, tl, tx, al) ∧ cs = 0 ∧ v1 = t ∧ v2 = y ∧ sq_bx (sq_pl (μ' (69, 0)) (μ' (76, 0)) 0) ∧ 0 ≤ v3 ∧ v3 ≤ 16 ∧ v3 ≤ sq_cnt (μ' (76, 0)) 0 t (μ' (69, 0) 6).toNat ∧ 0 ≤ v4 ∧ v4 ≤ 480 ∧ 0 ≤ t ∧ t ≤ 4 ∧ y ≤ 400 ∧ 0 ≤ v5 ∧ v5 ≤ 300 + v4 ∧ 0 ≤ (100 * (500 - v4) : Int) ∧ (100 * (500 - v4) : Int) < (N : Int))),
    (70, [true, true, true, true, true, true], fun N l st ρ' μ' cs => mq_tZ l 60 fun l => mq_tI l fun v1 l => mq_tI l fun v2 l => mq_tI l fun v3 l => mq_tI l fun v4 l => mq_tI l fun v5 l => mq_t0 l (st = [] ∧ ρ' = (nw, sp, tl, tx, al) ∧ cs = 0 ∧ v1 = t ∧ v2 = y ∧ sq_bx (sq_pl (μ' (69, 0)) (μ' (76, 0)) 0) ∧ 0 ≤ v3 ∧ v3 ≤ 16 ∧ v3 ≤ sq_cnt (μ' (76, 0)) 0 t (μ' (69, 0) 6).toNat ∧ 0 ≤ v4 ∧ v4 ≤ 480 ∧ 0 ≤ t ∧ t ≤ 4 ∧ y ≤ 400 ∧ 0 ≤ v5 ∧ v5 ≤ 300 + v4 ∧ 0 ≤ (100 * (500 - v4) + 20 + v3 : Int) ∧ (100 * (500 - v4) + 20 + v3 : Int) < (N : Int)))]
  | _, _ => []
set_option maxHeartbeats 16000000 in
set_option maxRecDepth 100000 in
theorem vq_m_passes (lc : Launch) (h_m_isTrain : mq_Ct lc cq_m_isTrain) (h_m_isYard : mq_Ct lc cq_m_isYard) (h_m_coachesOf : mq_Ct lc cq_m_coachesOf) (h_m_longOf : mq_Ct lc cq_m_longOf) (h_m_pulled : mq_Ct lc cq_m_pulled) (h_m_at : mq_Ct lc cq_m_at) : mq_Ct lc cq_m_passes := by
  refine mq_method (lc := lc) (P := pq_m_passes) (cl := [cq_m_isTrain, cq_m_isYard, cq_m_coachesOf, cq_m_longOf, cq_m_pulled, cq_m_at]) (T := ([(120, 11, 0), (58, 11, 25), (61, 11, 26)], [], [], [(314, 0, 0), (293, 1, 0), (410, 2, 0), (425, 3, 0), (428, 4, 0), (396, 5, 0)], [], [])) (fuel := 400) (cuts := kq_m_passes) (by decide) rfl ⟨rfl, rfl⟩ (List.forall_mem_cons.mpr ⟨h_m_isTrain, (List.forall_mem_cons.mpr ⟨h_m_isYard, (List.forall_mem_cons.mpr ⟨h_m_coachesOf, (List.forall_mem_cons.mpr ⟨h_m_longOf, (List.forall_mem_cons.mpr ⟨h_m_pulled, (List.forall_mem_cons.mpr ⟨h_m_at, (fun _ h => absurd h List.not_mem_nil)⟩)⟩)⟩)⟩)⟩)⟩) ⟨(List.forall_mem_cons.mpr ⟨⟨_, rfl, by decide, kw_773⟩, (List.forall_mem_cons.mpr ⟨⟨_, rfl, by decide, kw_840⟩, (List.forall_mem_cons.mpr ⟨⟨_, rfl, by decide, kw_867⟩, (fun _ h => absurd h List.not_mem_nil)⟩)⟩)⟩), (fun _ h => absurd h List.not_mem_nil), (fun _ h => absurd h List.not_mem_nil), (List.forall_mem_cons.mpr ⟨mq_ml0 rfl mw0_m_isTrain kw_845, (List.forall_mem_cons.mpr ⟨mq_ml0 rfl mw0_m_isYard kw_854, (List.forall_mem_cons.mpr ⟨mq_ml0 rfl mw0_m_coachesOf kw_978, (List.forall_mem_cons.mpr ⟨mq_ml0 rfl mw0_m_longOf kw_982, (List.forall_mem_cons.mpr ⟨mq_ml0 rfl mw0_m_pulled kw_974, (List.forall_mem_cons.mpr ⟨mq_ml0 rfl mw0_m_at kw_963, (fun _ h => absurd h List.not_mem_nil)⟩)⟩)⟩)⟩)⟩)⟩), (fun _ h => absurd h List.not_mem_nil), (fun _ h => absurd h List.not_mem_nil)⟩ (by decide +kernel) ⟨_, _, rfl⟩ ?_ ?_ ?_ ?_
  · intro as ρ μ h
    obtain ⟨nw, sp, tl, tx, al⟩ := ρ
    obtain ⟨as0, rfl, h0⟩ := mq_pZ_spec h
    clear h
    obtain ⟨t, as1, rfl, h1⟩ := mq_pI_spec h0
    clear h0
    obtain ⟨y, as2, rfl, h2⟩ := mq_pI_spec h1
    clear h1
    obtain ⟨rfl, hp⟩ := mq_p0_spec h2
    clear h2
    obtain ⟨hp0, hp1⟩ := hp
    rfl
  · intro as ρ μ h
    obtain ⟨nw, sp, tl, tx, al⟩ := ρ
    obtain ⟨as0, rfl, h0⟩ := mq_pZ_spec h
    clear h
    obtain ⟨t, as1, rfl, h1⟩ := mq_pI_spec h0
    clear h0
    obtain ⟨y, as2, rfl, h2⟩ := mq_pI_spec h1
    clear h1
    obtain ⟨rfl, hp⟩ := mq_p0_spec h2
    clear h2
    obtain ⟨hp0, hp1⟩ := hp
    intro hrg
    obtain ⟨⟨ha1a, ha1b⟩, ⟨ha2a, ha2b⟩, -⟩ := hrg
    intro hbk
    have e0 : mq_l0 ([.inr (.inr (some (60, 0))), .inl t, .inl y] : List mq_V) 6 = [some (.inr (.inr (some (60, 0)))), some (.inl t), some (.inl y), none, none, none] := rfl
    rw [e0]
    repeat' (first | refine And.intro ?_ ?_ | intro _)
    all_goals try simp only [Int.reduceToNat, Int.reduceAdd, mq_up_f, mq_up_s, mq_up_e, ne_eq, Nat.reduceEqDiff, not_false_eq_true, true_and, and_true, false_and, and_false, false_or, or_false, true_or, or_true, true_implies] at *
    all_goals first | omega | rfl | exact trivial | assumption | exact sq_m (sq_g hp0 0 (by decide) (by decide))
  · intro as ρ μ h
    obtain ⟨nw, sp, tl, tx, al⟩ := ρ
    obtain ⟨as0, rfl, h0⟩ := mq_pZ_spec h
    clear h
    obtain ⟨t, as1, rfl, h1⟩ := mq_pI_spec h0
    clear h0
    obtain ⟨y, as2, rfl, h2⟩ := mq_pI_spec h1
    clear h1
    obtain ⟨rfl, hp⟩ := mq_p0_spec h2
    clear h2
    obtain ⟨hp0, hp1⟩ := hp
    refine List.forall_mem_cons.mpr ⟨?_, ?_⟩
    · intro l st ρ' μ' cs hJ
      obtain ⟨l0, rfl, hJ0⟩ := mq_tZ_spec hJ
      clear hJ
      obtain ⟨v1, l1, rfl, hJ1⟩ := mq_tI_spec hJ0
      clear hJ0
      obtain ⟨v2, l2, rfl, hJ2⟩ := mq_tI_spec hJ1
      clear hJ1
      obtain ⟨v3, l3, rfl, hJ3⟩ := mq_tI_spec hJ2
      clear hJ2
      obtain ⟨v4, l4, rfl, hJ4⟩ := mq_tI_spec hJ3
      clear hJ3
      obtain ⟨v5, l5, rfl, hJ5⟩ := mq_tI_spec hJ4
      clear hJ4
      obtain ⟨rfl, hJz⟩ := mq_t0_spec hJ5
      clear hJ5
      obtain ⟨rfl, rfl, rfl, hc0, hc1, hc2, hc3, hc4, hc5, hc6, hc7, hc8, hc9, hc10, hc11, hc12, hm0, hm1⟩ := hJz
      omega
    refine List.forall_mem_cons.mpr ⟨?_, ?_⟩
    · intro l st ρ' μ' cs hJ
      obtain ⟨l0, rfl, hJ0⟩ := mq_tZ_spec hJ
      clear hJ
      obtain ⟨v1, l1, rfl, hJ1⟩ := mq_tI_spec hJ0
      clear hJ0
      obtain ⟨v2, l2, rfl, hJ2⟩ := mq_tI_spec hJ1
      clear hJ1
      obtain ⟨v3, l3, rfl, hJ3⟩ := mq_tI_spec hJ2
      clear hJ2
      obtain ⟨v4, l4, rfl, hJ4⟩ := mq_tI_spec hJ3
      clear hJ3
      obtain ⟨v5, l5, rfl, hJ5⟩ := mq_tI_spec hJ4
      clear hJ4
      obtain ⟨rfl, hJz⟩ := mq_t0_spec hJ5
      clear hJ5
      obtain ⟨rfl, rfl, rfl, hc0, hc1, hc2, hc3, hc4, hc5, hc6, hc7, hc8, hc9, hc10, hc11, hc12, hm0, hm1⟩ := hJz
      omega
    exact fun _ h => absurd h List.not_mem_nil
  · intro as ρ μ h
    obtain ⟨nw, sp, tl, tx, al⟩ := ρ
    obtain ⟨as0, rfl, h0⟩ := mq_pZ_spec h
    clear h
    obtain ⟨t, as1, rfl, h1⟩ := mq_pI_spec h0
    clear h0
    obtain ⟨y, as2, rfl, h2⟩ := mq_pI_spec h1
    clear h1
    obtain ⟨rfl, hp⟩ := mq_p0_spec h2
    clear h2
    obtain ⟨hp0, hp1⟩ := hp
    intro hrg
    obtain ⟨⟨ha1a, ha1b⟩, ⟨ha2a, ha2b⟩, -⟩ := hrg
    refine List.forall_mem_cons.mpr ⟨?_, ?_⟩
    · intro N l st ρ' μ' cs hJ
      obtain ⟨l0, rfl, hJ0⟩ := mq_tZ_spec hJ
      clear hJ
      obtain ⟨v1, l1, rfl, hJ1⟩ := mq_tI_spec hJ0
      clear hJ0
      obtain ⟨v2, l2, rfl, hJ2⟩ := mq_tI_spec hJ1
      clear hJ1
      obtain ⟨v3, l3, rfl, hJ3⟩ := mq_tI_spec hJ2
      clear hJ2
      obtain ⟨v4, l4, rfl, hJ4⟩ := mq_tI_spec hJ3
      clear hJ3
      obtain ⟨v5, l5, rfl, hJ5⟩ := mq_tI_spec hJ4
      clear hJ4
      obtain ⟨rfl, hJz⟩ := mq_t0_spec hJ5
      clear hJ5
      obtain ⟨rfl, rfl, rfl, hc0, hc1, hc2, hc3, hc4, hc5, hc6, hc7, hc8, hc9, hc10, hc11, hc12, hm0, hm1⟩ := hJz
      intro hbk hrl
      obtain ⟨⟨hl1a, hl1b⟩, ⟨hl2a, hl2b⟩, ⟨hl3a, hl3b⟩, ⟨hl4a, hl4b⟩, ⟨hl5a, hl5b⟩, -⟩ := hrl
      subst hc0 hc1
      repeat' (first | refine And.intro ?_ ?_ | intro _)
      all_goals try simp only [Int.reduceToNat, Int.reduceAdd, mq_up_f, mq_up_s, mq_up_e, ne_eq, Nat.reduceEqDiff, not_false_eq_true, true_and, and_true, false_and, and_false, false_or, or_false, true_or, or_true, true_implies] at *
      all_goals first | omega | rfl | exact trivial | assumption
    refine List.forall_mem_cons.mpr ⟨?_, ?_⟩
    · intro N l st ρ' μ' cs hJ
      obtain ⟨l0, rfl, hJ0⟩ := mq_tZ_spec hJ
      clear hJ
      obtain ⟨v1, l1, rfl, hJ1⟩ := mq_tI_spec hJ0
      clear hJ0
      obtain ⟨v2, l2, rfl, hJ2⟩ := mq_tI_spec hJ1
      clear hJ1
      obtain ⟨v3, l3, rfl, hJ3⟩ := mq_tI_spec hJ2
      clear hJ2
      obtain ⟨v4, l4, rfl, hJ4⟩ := mq_tI_spec hJ3
      clear hJ3
      obtain ⟨v5, l5, rfl, hJ5⟩ := mq_tI_spec hJ4
      clear hJ4
      obtain ⟨rfl, hJz⟩ := mq_t0_spec hJ5
      clear hJ5
      obtain ⟨rfl, rfl, rfl, hc0, hc1, hc2, hc3, hc4, hc5, hc6, hc7, hc8, hc9, hc10, hc11, hc12, hm0, hm1⟩ := hJz
      intro hbk hrl
      obtain ⟨⟨hl1a, hl1b⟩, ⟨hl2a, hl2b⟩, ⟨hl3a, hl3b⟩, ⟨hl4a, hl4b⟩, ⟨hl5a, hl5b⟩, -⟩ := hrl
      subst hc0 hc1
      repeat' (first | refine And.intro ?_ ?_ | intro _)
      all_goals try simp only [Int.reduceToNat, Int.reduceAdd, mq_up_f, mq_up_s, mq_up_e, ne_eq, Nat.reduceEqDiff, not_false_eq_true, true_and, and_true, false_and, and_false, false_or, or_false, true_or, or_true, true_implies] at *
      all_goals first | omega | rfl | exact trivial | assumption | (have h9 := sq_at_pl (t := v1) (k := v3 - 1) (sq_g hc2) (by omega) (by omega); omega)
    exact fun _ h => absurd h List.not_mem_nil
def pq_m_isOrdered : List mq_E := [(0, false, .iconst 401), (3, false, .istore 3), (4, false, .iconst 0), (5, false, .istore 4), (7, true, .iload 4), (9, false, .aload 0), (10, false, .iload 1), (11, false, .invokestatic 0), (14, false, .if_icmp .ge (Int.ofNat 64)), (17, false, .aload 0), (18, false, .iload 1), (19, false, .iload 4), (21, false, .invokestatic 1), (24, false, .istore 5), (26, false, .iload 2), (27, false, .iload 5), (29, false, .ishr), (30, false, .iconst 1), (31, false, .iand), (32, false, .iconst 1), (33, false, .if_icmp .ne (Int.ofNat 39)), (36, false, .goto (Int.ofNat 58)), (39, false, .aload 0), (40, false, .iload 5), (42, false, .invokestatic 2), (45, false, .iload 3), (46, false, .if_icmp .le (Int.ofNat 51)), (49, false, .iconst 0), (50, false, .ireturn), (51, false, .aload 0), (52, false, .iload 5), (54, false, .invokestatic 2), (57, false, .istore 3), (58, false, .iinc 4 1), (61, false, .goto (Int.ofNat 7)), (64, false, .iconst 1), (65, false, .ireturn)]
def cq_m_isOrdered : mq_C := ((yX11_isOrdered, cX11_isOrdered, 6, (some .boolean), { frames := 1, cells := 0, slots := 0, locals := 23 }), (3, 1, 0, 0), 0, (fun as ρ μ => match ρ with
  | (nw, sp, tl, tx, al) => mq_pZ as 60 fun as => mq_pI as fun t as => mq_pI as fun s as => mq_p0 as (sq_bx (sq_pl (μ (69, 0)) (μ (76, 0)) 0) ∧ True)),
  (fun as ρ μ r ρ' μ' => match as, ρ, ρ' with
  | [.inr (.inr (some (_, _))), .inl t, .inl s], (nw, sp, tl, tx, al), (nw', sp', tl', tx', al') => [0 ≤ r, r ≤ 1]
  | _, _, _ => []))
def kq_m_isOrdered : List mq_V → mq_R → mq_M → List mq_Cu := fun as ρ μ => match as, ρ with
  | [.inr (.inr (some (_, _))), .inl t, .inl s], (nw, sp, tl, tx, al) => [(7, [true, true, true, true, true, false], fun N l st ρ' μ' cs => mq_tZ l 60 fun l => mq_tI l fun v1 l => mq_tI l fun v2 l => mq_tI l fun v3 l => mq_tI l fun v4 l => mq_tN l fun l => mq_t0 l (st = [] ∧ ρ' = (nw, sp, tl, tx, al) ∧ cs = 0 ∧ v1 = t ∧ v2 = s ∧ μ = μ' ∧ 0 ≤ v4 ∧ v4 ≤ 16 ∧ 0 ≤ (16 - v4 : Int) ∧ (16 - v4 : Int) < (N : Int)))]
  | _, _ => []
set_option maxHeartbeats 16000000 in
set_option maxRecDepth 100000 in
theorem vq_m_isOrdered (lc : Launch) (h_m_coachesOf : mq_Ct lc cq_m_coachesOf) (h_m_at : mq_Ct lc cq_m_at) (h_m_platformAt : mq_Ct lc cq_m_platformAt) : mq_Ct lc cq_m_isOrdered := by
  refine mq_method (lc := lc) (P := pq_m_isOrdered) (cl := [cq_m_coachesOf, cq_m_at, cq_m_platformAt]) (T := ([], [], [], [(410, 0, 0), (396, 1, 0), (481, 2, 0)], [], [])) (fuel := 400) (cuts := kq_m_isOrdered) (by decide) rfl ⟨rfl, rfl⟩ (List.forall_mem_cons.mpr ⟨h_m_coachesOf, (List.forall_mem_cons.mpr ⟨h_m_at, (List.forall_mem_cons.mpr ⟨h_m_platformAt, (fun _ h => absurd h List.not_mem_nil)⟩)⟩)⟩) ⟨(fun _ h => absurd h List.not_mem_nil), (fun _ h => absurd h List.not_mem_nil), (fun _ h => absurd h List.not_mem_nil), (List.forall_mem_cons.mpr ⟨mq_ml0 rfl mw0_m_coachesOf kw_978, (List.forall_mem_cons.mpr ⟨mq_ml0 rfl mw0_m_at kw_963, (List.forall_mem_cons.mpr ⟨mq_ml0 rfl mw0_m_platformAt kw_986, (fun _ h => absurd h List.not_mem_nil)⟩)⟩)⟩), (fun _ h => absurd h List.not_mem_nil), (fun _ h => absurd h List.not_mem_nil)⟩ (by decide +kernel) ⟨_, _, rfl⟩ ?_ ?_ ?_ ?_
  · intro as ρ μ h
    obtain ⟨nw, sp, tl, tx, al⟩ := ρ
    obtain ⟨as0, rfl, h0⟩ := mq_pZ_spec h
    clear h
    obtain ⟨t, as1, rfl, h1⟩ := mq_pI_spec h0
    clear h0
    obtain ⟨s, as2, rfl, h2⟩ := mq_pI_spec h1
    clear h1
    obtain ⟨rfl, hp⟩ := mq_p0_spec h2
    clear h2
    obtain ⟨hp0, hp1⟩ := hp
    rfl
  · intro as ρ μ h
    obtain ⟨nw, sp, tl, tx, al⟩ := ρ
    obtain ⟨as0, rfl, h0⟩ := mq_pZ_spec h
    clear h
    obtain ⟨t, as1, rfl, h1⟩ := mq_pI_spec h0
    clear h0
    obtain ⟨s, as2, rfl, h2⟩ := mq_pI_spec h1
    clear h1
    obtain ⟨rfl, hp⟩ := mq_p0_spec h2
    clear h2
    obtain ⟨hp0, hp1⟩ := hp
    intro hrg
    obtain ⟨⟨ha1a, ha1b⟩, ⟨ha2a, ha2b⟩, -⟩ := hrg
    intro hbk
    have e0 : mq_l0 ([.inr (.inr (some (60, 0))), .inl t, .inl s] : List mq_V) 6 = [some (.inr (.inr (some (60, 0)))), some (.inl t), some (.inl s), none, none, none] := rfl
    rw [e0]
    repeat' (first | refine And.intro ?_ ?_ | intro _)
    all_goals try simp only [Int.reduceToNat, Int.reduceAdd, mq_up_f, mq_up_s, mq_up_e, ne_eq, Nat.reduceEqDiff, not_false_eq_true, true_and, and_true, false_and, and_false, false_or, or_false, true_or, or_true, true_implies] at *
    all_goals first | omega | rfl | exact trivial | assumption
  · intro as ρ μ h
    obtain ⟨nw, sp, tl, tx, al⟩ := ρ
    obtain ⟨as0, rfl, h0⟩ := mq_pZ_spec h
    clear h
    obtain ⟨t, as1, rfl, h1⟩ := mq_pI_spec h0
    clear h0
    obtain ⟨s, as2, rfl, h2⟩ := mq_pI_spec h1
    clear h1
    obtain ⟨rfl, hp⟩ := mq_p0_spec h2
    clear h2
    obtain ⟨hp0, hp1⟩ := hp
    refine List.forall_mem_cons.mpr ⟨?_, ?_⟩
    · intro l st ρ' μ' cs hJ
      obtain ⟨l0, rfl, hJ0⟩ := mq_tZ_spec hJ
      clear hJ
      obtain ⟨v1, l1, rfl, hJ1⟩ := mq_tI_spec hJ0
      clear hJ0
      obtain ⟨v2, l2, rfl, hJ2⟩ := mq_tI_spec hJ1
      clear hJ1
      obtain ⟨v3, l3, rfl, hJ3⟩ := mq_tI_spec hJ2
      clear hJ2
      obtain ⟨v4, l4, rfl, hJ4⟩ := mq_tI_spec hJ3
      clear hJ3
      obtain ⟨l5, rfl, hJ5⟩ := mq_tN_spec hJ4
      clear hJ4
      obtain ⟨rfl, hJz⟩ := mq_t0_spec hJ5
      clear hJ5
      obtain ⟨rfl, rfl, rfl, hc0, hc1, rfl, hc3, hc4, hm0, hm1⟩ := hJz
      omega
    exact fun _ h => absurd h List.not_mem_nil
  · intro as ρ μ h
    obtain ⟨nw, sp, tl, tx, al⟩ := ρ
    obtain ⟨as0, rfl, h0⟩ := mq_pZ_spec h
    clear h
    obtain ⟨t, as1, rfl, h1⟩ := mq_pI_spec h0
    clear h0
    obtain ⟨s, as2, rfl, h2⟩ := mq_pI_spec h1
    clear h1
    obtain ⟨rfl, hp⟩ := mq_p0_spec h2
    clear h2
    obtain ⟨hp0, hp1⟩ := hp
    intro hrg
    obtain ⟨⟨ha1a, ha1b⟩, ⟨ha2a, ha2b⟩, -⟩ := hrg
    refine List.forall_mem_cons.mpr ⟨?_, ?_⟩
    · intro N l st ρ' μ' cs hJ
      obtain ⟨l0, rfl, hJ0⟩ := mq_tZ_spec hJ
      clear hJ
      obtain ⟨v1, l1, rfl, hJ1⟩ := mq_tI_spec hJ0
      clear hJ0
      obtain ⟨v2, l2, rfl, hJ2⟩ := mq_tI_spec hJ1
      clear hJ1
      obtain ⟨v3, l3, rfl, hJ3⟩ := mq_tI_spec hJ2
      clear hJ2
      obtain ⟨v4, l4, rfl, hJ4⟩ := mq_tI_spec hJ3
      clear hJ3
      obtain ⟨l5, rfl, hJ5⟩ := mq_tN_spec hJ4
      clear hJ4
      obtain ⟨rfl, hJz⟩ := mq_t0_spec hJ5
      clear hJ5
      obtain ⟨rfl, rfl, rfl, hc0, hc1, rfl, hc3, hc4, hm0, hm1⟩ := hJz
      intro hbk hrl
      obtain ⟨⟨hl1a, hl1b⟩, ⟨hl2a, hl2b⟩, ⟨hl3a, hl3b⟩, ⟨hl4a, hl4b⟩, -⟩ := hrl
      subst hc0 hc1
      repeat' (first | refine And.intro ?_ ?_ | intro _)
      all_goals try simp only [Int.reduceToNat, Int.reduceAdd, mq_up_f, mq_up_s, mq_up_e, ne_eq, Nat.reduceEqDiff, not_false_eq_true, true_and, and_true, false_and, and_false, false_or, or_false, true_or, or_true, true_implies] at *
      all_goals first | omega | rfl | exact trivial | assumption | (have h9 := sq_at_pl (t := v1) (k := v4) (sq_g hp0) (by omega) (by omega); omega)
    exact fun _ h => absurd h List.not_mem_nil
theorem mw0_m_isOrdered : mq_mlA cq_m_isOrdered 0 := ⟨kw_990, ⟨by decide +kernel, by decide +kernel⟩, by decide +kernel, kw_991, kw_992, kw_771, 60, by decide +kernel, fun as ρ μ h => by obtain ⟨nw, sp, tl, tx, al⟩ := ρ; obtain ⟨t, e, _⟩ := mq_pZ_spec h; exact ⟨0, t, e⟩⟩
def pq_m_sizeOf : List mq_E := [(0, false, .iconst 0), (1, false, .istore 1), (2, false, .iload 0), (3, false, .istore 2), (4, true, .iload 2), (5, false, .ifCond .eq (Int.ofNat 20)), (8, false, .ret 1), (11, false, .iload 2), (12, false, .iload 2), (13, false, .iconst 1), (14, false, .frem), (15, false, .iand), (16, false, .istore 2), (17, false, .goto (Int.ofNat 4)), (20, false, .iload 1), (21, false, .ireturn)]
def cq_m_sizeOf : mq_C := ((yX11_sizeOf, cX11_sizeOf, 3, (some .int), { frames := 0, cells := 0, slots := 0, locals := 0 }), (1, 1, 0, 0), 0, (fun as ρ μ => match ρ with
  | (nw, sp, tl, tx, al) => mq_pI as fun s as => mq_p0 as (True)),
  (fun as ρ μ r ρ' μ' => match as, ρ, ρ' with
  | [.inl s], (nw, sp, tl, tx, al), (nw', sp', tl', tx', al') => []
  | _, _, _ => []))
def kq_m_sizeOf : List mq_V → mq_R → mq_M → List mq_Cu := fun as ρ μ => match as, ρ with
  | [.inl s], (nw, sp, tl, tx, al) => [(4, [true, true, true], fun N l st ρ' μ' cs => mq_tI l fun v0 l => mq_tI l fun v1 l => mq_tI l fun v2 l => mq_t0 l (st = [] ∧ ρ' = (nw, sp, tl, tx, al) ∧ cs = 0 ∧ v0 = s ∧ 0 ≤ (v2 % 4294967296 : Int) ∧ (v2 % 4294967296 : Int) < (N : Int)))]
  | _, _ => []
set_option maxHeartbeats 16000000 in
set_option maxRecDepth 100000 in
theorem vq_m_sizeOf (lc : Launch)  : mq_Ct lc cq_m_sizeOf := by
  refine mq_method (lc := lc) (P := pq_m_sizeOf) (cl := []) (T := ([], [], [], [], [], [])) (fuel := 400) (cuts := kq_m_sizeOf) (by decide) rfl ⟨rfl, rfl⟩ (fun _ h => absurd h List.not_mem_nil) ⟨(fun _ h => absurd h List.not_mem_nil), (fun _ h => absurd h List.not_mem_nil), (fun _ h => absurd h List.not_mem_nil), (fun _ h => absurd h List.not_mem_nil), (fun _ h => absurd h List.not_mem_nil), (fun _ h => absurd h List.not_mem_nil)⟩ (by decide +kernel) ⟨_, _, rfl⟩ ?_ ?_ ?_ ?_
  · intro as ρ μ h
    obtain ⟨nw, sp, tl, tx, al⟩ := ρ
    obtain ⟨s, as0, rfl, h0⟩ := mq_pI_spec h
    clear h
    obtain ⟨rfl, hp⟩ := mq_p0_spec h0
    clear h0
    rfl
  · intro as ρ μ h
    obtain ⟨nw, sp, tl, tx, al⟩ := ρ
    obtain ⟨s, as0, rfl, h0⟩ := mq_pI_spec h
    clear h
    obtain ⟨rfl, hp⟩ := mq_p0_spec h0
    clear h0
    intro hrg
    obtain ⟨⟨ha0a, ha0b⟩, -⟩ := hrg
    intro hbk
    have e0 : mq_l0 ([.inl s] : List mq_V) 3 = [some (.inl s), none, none] := rfl
    rw [e0]
    repeat' (first | refine And.intro ?_ ?_ | intro _)
    all_goals try simp only [Int.reduceToNat, Int.reduceAdd, mq_up_f, mq_up_s, mq_up_e, ne_eq, Nat.reduceEqDiff, not_false_eq_true, true_and, and_true, false_and, and_false, false_or, or_false, true_or, or_true, true_implies] at *
    all_goals first | omega | rfl | exact trivial | assumption
  · intro as ρ μ h
    obtain ⟨nw, sp, tl, tx, al⟩ := ρ
    obtain ⟨s, as0, rfl, h0⟩ := mq_pI_spec h
    clear h
    obtain ⟨rfl, hp⟩ := mq_p0_spec h0
    clear h0
    refine List.forall_mem_cons.mpr ⟨?_, ?_⟩
    · intro l st ρ' μ' cs hJ
      obtain ⟨v0, l0, rfl, hJ0⟩ := mq_tI_spec hJ
      clear hJ
      obtain ⟨v1, l1, rfl, hJ1⟩ := mq_tI_spec hJ0
      clear hJ0
      obtain ⟨v2, l2, rfl, hJ2⟩ := mq_tI_spec hJ1
      clear hJ1
      obtain ⟨rfl, hJz⟩ := mq_t0_spec hJ2
      clear hJ2
      obtain ⟨rfl, rfl, rfl, hc0, hm0, hm1⟩ := hJz
      omega
    exact fun _ h => absurd h List.not_mem_nil
  · intro as ρ μ h
    obtain ⟨nw, sp, tl, tx, al⟩ := ρ
    obtain ⟨s, as0, rfl, h0⟩ := mq_pI_spec h
    clear h
    obtain ⟨rfl, hp⟩ := mq_p0_spec h0
    clear h0
    intro hrg
    obtain ⟨⟨ha0a, ha0b⟩, -⟩ := hrg
    refine List.forall_mem_cons.mpr ⟨?_, ?_⟩
    · intro N l st ρ' μ' cs hJ
      obtain ⟨v0, l0, rfl, hJ0⟩ := mq_tI_spec hJ
      clear hJ
      obtain ⟨v1, l1, rfl, hJ1⟩ := mq_tI_spec hJ0
      clear hJ0
      obtain ⟨v2, l2, rfl, hJ2⟩ := mq_tI_spec hJ1
      clear hJ1
      obtain ⟨rfl, hJz⟩ := mq_t0_spec hJ2
      clear hJ2
      obtain ⟨rfl, rfl, rfl, hc0, hm0, hm1⟩ := hJz
      intro hbk hrl
      obtain ⟨⟨hl0a, hl0b⟩, ⟨hl1a, hl1b⟩, ⟨hl2a, hl2b⟩, -⟩ := hrl
      repeat' (first | refine And.intro ?_ ?_ | intro _)
      all_goals try simp only [Int.reduceToNat, Int.reduceAdd, mq_up_f, mq_up_s, mq_up_e, ne_eq, Nat.reduceEqDiff, not_false_eq_true, true_and, and_true, false_and, and_false, false_or, or_false, true_or, or_true, true_implies] at *
      all_goals first | omega | rfl | exact trivial | assumption | (have h9 := sq_low ⟨by omega, by omega⟩ (by omega) ‹_ = (Int32.ofInt _ - _).toInt› ‹_ = (Int32.ofInt _ &&& _).toInt›; omega)
    exact fun _ h => absurd h List.not_mem_nil
theorem mw1_m_sizeOf : mq_mlA cq_m_sizeOf 1 := ⟨kw_987, ⟨by decide +kernel, by decide +kernel⟩, by decide +kernel, kw_988, kw_771⟩
def pq_m_shunts : List mq_E := [(0, false, .aload 0), (1, false, .iconst 0), (2, false, .multianewarray 11 0), (5, false, .aload 0), (6, false, .iload 1), (7, false, .invokestatic 0), (10, false, .ifCond .eq (Int.ofNat 23)), (13, false, .iload 2), (14, false, .i2l), (15, false, .goto_w 0), (16, false, .goto_w 1), (17, false, .invokestatic 1), (20, false, .ifCond .ne (Int.ofNat 26)), (23, false, .iconst (-2)), (25, false, .ireturn), (26, false, .iconst 0), (27, false, .istore 3), (28, false, .iconst 0), (29, false, .istore 4), (31, true, .iload 4), (33, false, .aload 0), (34, false, .invokeinterface 11 19), (37, false, .iconst 6), (39, false, .jsr 6), (40, false, .if_icmp .ge (Int.ofNat 73)), (43, false, .iload 3), (44, false, .aload 0), (45, false, .invokeinterface 11 26), (48, false, .iconst 5), (49, false, .iload 4), (51, false, .imul), (52, false, .jsr 0), (53, false, .iload 1), (54, false, .if_icmp .ne (Int.ofNat 64)), (57, false, .iconst 1), (58, false, .iload 4), (60, false, .ishl), (61, false, .goto (Int.ofNat 65)), (64, false, .iconst 0), (65, false, .ior), (66, false, .istore 3), (67, false, .iinc 4 1), (70, false, .goto (Int.ofNat 31)), (73, false, .iconst (-1)), (74, false, .istore 4), (76, false, .iconst 0), (77, false, .istore 5), (79, true, .iload 5), (81, false, .iload 3), (82, false, .if_icmp .gt (Int.ofNat 136)), (85, false, .iload 5), (87, false, .iload 3), (88, false, .iconst (-1)), (89, false, .ixor), (90, false, .iand), (91, false, .ifCond .ne (Int.ofNat 130)), (94, false, .iload 4), (96, false, .iconst (-1)), (97, false, .if_icmp .eq (Int.ofNat 113)), (100, false, .iload 5), (102, false, .invokestatic 2), (105, false, .iload 4), (107, false, .invokestatic 2), (110, false, .if_icmp .ge (Int.ofNat 130)), (113, false, .aload 0), (114, false, .iload 1), (115, false, .iload 5), (117, false, .invokestatic 3), (120, false, .ifCond .ne (Int.ofNat 126)), (123, false, .goto (Int.ofNat 130)), (126, false, .iload 5), (128, false, .istore 4), (130, false, .iinc 5 1), (133, false, .goto (Int.ofNat 79)), (136, false, .iload 2), (137, false, .iconst 1), (138, false, .if_icmp .ne (Int.ofNat 146)), (141, false, .iload 4), (143, false, .goto (Int.ofNat 151)), (146, false, .iload 4), (148, false, .invokestatic 2), (151, false, .ireturn)]
def cq_m_shunts : mq_C := ((yX11_shunts, cX11_shunts, 6, (some .int), { frames := 2, cells := 0, slots := 0, locals := 48 }), (3, 1, 0, 0), 1152921504606846976, (fun as ρ μ => match ρ with
  | (nw, sp, tl, tx, al) => mq_pZ as 60 fun as => mq_pI as fun t as => mq_pI as fun w as => mq_p0 as (sq_bx (sq_inv (μ (69, 0)) (μ (76, 0))) ∧ True)),
  (fun as ρ μ r ρ' μ' => match as, ρ, ρ' with
  | [.inr (.inr (some (_, _))), .inl t, .inl w], (nw, sp, tl, tx, al), (nw', sp', tl', tx', al') => []
  | _, _, _ => []))
def kq_m_shunts : List mq_V → mq_R → mq_M → List mq_Cu := fun as ρ μ => match as, ρ with
  | [.inr (.inr (some (_, _))), .inl t, .inl w], (nw, sp, tl, tx, al) => [(31, [true, true, true, true, true, false], fun N l st ρ' μ' cs => mq_tZ l 60 fun l => mq_tI l fun v1 l => mq_tI l fun v2 l => mq_tI l fun v3 l => mq_tI l fun v4 l => mq_tN l fun l => mq_t0 l (st = [] ∧ ρ' = (nw, sp, tl, tx, al) ∧ cs = 0 ∧ v1 = t ∧ v2 = w ∧ sq_bx (sq_pl (μ' (69, 0)) (μ' (76, 0)) 0) ∧ 0 ≤ v3 ∧ v3 ≤ 65535 ∧ 0 ≤ v4 ∧ v4 ≤ 16 ∧ 0 ≤ (1000000 + 16 - v4 : Int) ∧ (1000000 + 16 - v4 : Int) < (N : Int))),
    (79, [true, true, true, true, true, true], fun N l st ρ' μ' cs => mq_tZ l 60 fun l => mq_tI l fun v1 l => mq_tI l fun v2 l => mq_tI l fun v3 l => mq_tI l fun v4 l => mq_tI l fun v5 l => mq_t0 l (st = [] ∧ ρ' = (nw, sp, tl, tx, al) ∧ cs = 0 ∧ v1 = t ∧ v2 = w ∧ sq_bx (sq_pl (μ' (69, 0)) (μ' (76, 0)) 0) ∧ 0 ≤ v3 ∧ v3 ≤ 65535 ∧ 0 ≤ v5 ∧ v5 ≤ 65536 ∧ 0 ≤ (65536 - v5 : Int) ∧ (65536 - v5 : Int) < (N : Int)))]
  | _, _ => []
set_option maxHeartbeats 16000000 in
set_option maxRecDepth 100000 in
theorem vq_m_shunts (lc : Launch) (h_m_isTrain : mq_Ct lc cq_m_isTrain) (h_m_in : mq_Ct lc cq_m_in) (h_m_sizeOf : mq_Ct lc cq_m_sizeOf) (h_m_isOrdered : mq_Ct lc cq_m_isOrdered) : mq_Ct lc cq_m_shunts := by
  refine mq_method (lc := lc) (P := pq_m_shunts) (cl := [cq_m_isTrain, cq_m_in, cq_m_sizeOf, cq_m_isOrdered]) (T := ([(120, 11, 0), (40, 11, 19), (61, 11, 26)], [], [], [(314, 0, 0), (125, 1, 1), (473, 2, 1), (484, 3, 0)], [], [])) (fuel := 400) (cuts := kq_m_shunts) (by decide) rfl ⟨rfl, rfl⟩ (List.forall_mem_cons.mpr ⟨h_m_isTrain, (List.forall_mem_cons.mpr ⟨h_m_in, (List.forall_mem_cons.mpr ⟨h_m_sizeOf, (List.forall_mem_cons.mpr ⟨h_m_isOrdered, (fun _ h => absurd h List.not_mem_nil)⟩)⟩)⟩)⟩) ⟨(List.forall_mem_cons.mpr ⟨⟨_, rfl, by decide, kw_773⟩, (List.forall_mem_cons.mpr ⟨⟨_, rfl, by decide, kw_837⟩, (List.forall_mem_cons.mpr ⟨⟨_, rfl, by decide, kw_867⟩, (fun _ h => absurd h List.not_mem_nil)⟩)⟩)⟩), (fun _ h => absurd h List.not_mem_nil), (fun _ h => absurd h List.not_mem_nil), (List.forall_mem_cons.mpr ⟨mq_ml0 rfl mw0_m_isTrain kw_845, (List.forall_mem_cons.mpr ⟨mq_ml1 rfl mw1_m_in kw_772, (List.forall_mem_cons.mpr ⟨mq_ml1 rfl mw1_m_sizeOf kw_989, (List.forall_mem_cons.mpr ⟨mq_ml0 rfl mw0_m_isOrdered kw_993, (fun _ h => absurd h List.not_mem_nil)⟩)⟩)⟩)⟩), (fun _ h => absurd h List.not_mem_nil), (fun _ h => absurd h List.not_mem_nil)⟩ (by decide +kernel) ⟨_, _, rfl⟩ ?_ ?_ ?_ ?_
  · intro as ρ μ h
    obtain ⟨nw, sp, tl, tx, al⟩ := ρ
    obtain ⟨as0, rfl, h0⟩ := mq_pZ_spec h
    clear h
    obtain ⟨t, as1, rfl, h1⟩ := mq_pI_spec h0
    clear h0
    obtain ⟨w, as2, rfl, h2⟩ := mq_pI_spec h1
    clear h1
    obtain ⟨rfl, hp⟩ := mq_p0_spec h2
    clear h2
    obtain ⟨hp0, hp1⟩ := hp
    rfl
  · intro as ρ μ h
    obtain ⟨nw, sp, tl, tx, al⟩ := ρ
    obtain ⟨as0, rfl, h0⟩ := mq_pZ_spec h
    clear h
    obtain ⟨t, as1, rfl, h1⟩ := mq_pI_spec h0
    clear h0
    obtain ⟨w, as2, rfl, h2⟩ := mq_pI_spec h1
    clear h1
    obtain ⟨rfl, hp⟩ := mq_p0_spec h2
    clear h2
    obtain ⟨hp0, hp1⟩ := hp
    intro hrg
    obtain ⟨⟨ha1a, ha1b⟩, ⟨ha2a, ha2b⟩, -⟩ := hrg
    intro hbk
    have hk0 : 0 ≤ μ (69, 0) 6 ∧ μ (69, 0) 6 ≤ 16 := hbk (69, 0) 6
    have e0 : mq_l0 ([.inr (.inr (some (60, 0))), .inl t, .inl w] : List mq_V) 6 = [some (.inr (.inr (some (60, 0)))), some (.inl t), some (.inl w), none, none, none] := rfl
    rw [e0]
    repeat' (first | refine And.intro ?_ ?_ | intro _)
    all_goals try simp only [Int.reduceToNat, Int.reduceAdd, mq_up_f, mq_up_s, mq_up_e, ne_eq, Nat.reduceEqDiff, not_false_eq_true, true_and, and_true, false_and, and_false, false_or, or_false, true_or, or_true, true_implies] at *
    all_goals first | omega | rfl | exact trivial | assumption | exact sq_m (sq_g hp0 0 (by decide) (by decide))
  · intro as ρ μ h
    obtain ⟨nw, sp, tl, tx, al⟩ := ρ
    obtain ⟨as0, rfl, h0⟩ := mq_pZ_spec h
    clear h
    obtain ⟨t, as1, rfl, h1⟩ := mq_pI_spec h0
    clear h0
    obtain ⟨w, as2, rfl, h2⟩ := mq_pI_spec h1
    clear h1
    obtain ⟨rfl, hp⟩ := mq_p0_spec h2
    clear h2
    obtain ⟨hp0, hp1⟩ := hp
    refine List.forall_mem_cons.mpr ⟨?_, ?_⟩
    · intro l st ρ' μ' cs hJ
      obtain ⟨l0, rfl, hJ0⟩ := mq_tZ_spec hJ
      clear hJ
      obtain ⟨v1, l1, rfl, hJ1⟩ := mq_tI_spec hJ0
      clear hJ0
      obtain ⟨v2, l2, rfl, hJ2⟩ := mq_tI_spec hJ1
      clear hJ1
      obtain ⟨v3, l3, rfl, hJ3⟩ := mq_tI_spec hJ2
      clear hJ2
      obtain ⟨v4, l4, rfl, hJ4⟩ := mq_tI_spec hJ3
      clear hJ3
      obtain ⟨l5, rfl, hJ5⟩ := mq_tN_spec hJ4
      clear hJ4
      obtain ⟨rfl, hJz⟩ := mq_t0_spec hJ5
      clear hJ5
      obtain ⟨rfl, rfl, rfl, hc0, hc1, hc2, hc3, hc4, hc5, hc6, hm0, hm1⟩ := hJz
      omega
    refine List.forall_mem_cons.mpr ⟨?_, ?_⟩
    · intro l st ρ' μ' cs hJ
      obtain ⟨l0, rfl, hJ0⟩ := mq_tZ_spec hJ
      clear hJ
      obtain ⟨v1, l1, rfl, hJ1⟩ := mq_tI_spec hJ0
      clear hJ0
      obtain ⟨v2, l2, rfl, hJ2⟩ := mq_tI_spec hJ1
      clear hJ1
      obtain ⟨v3, l3, rfl, hJ3⟩ := mq_tI_spec hJ2
      clear hJ2
      obtain ⟨v4, l4, rfl, hJ4⟩ := mq_tI_spec hJ3
      clear hJ3
      obtain ⟨v5, l5, rfl, hJ5⟩ := mq_tI_spec hJ4
      clear hJ4
      obtain ⟨rfl, hJz⟩ := mq_t0_spec hJ5
      clear hJ5
      obtain ⟨rfl, rfl, rfl, hc0, hc1, hc2, hc3, hc4, hc5, hc6, hm0, hm1⟩ := hJz
      omega
    exact fun _ h => absurd h List.not_mem_nil
  · intro as ρ μ h
    obtain ⟨nw, sp, tl, tx, al⟩ := ρ
    obtain ⟨as0, rfl, h0⟩ := mq_pZ_spec h
    clear h
    obtain ⟨t, as1, rfl, h1⟩ := mq_pI_spec h0
    clear h0
    obtain ⟨w, as2, rfl, h2⟩ := mq_pI_spec h1
    clear h1
    obtain ⟨rfl, hp⟩ := mq_p0_spec h2
    clear h2
    obtain ⟨hp0, hp1⟩ := hp
    intro hrg
    obtain ⟨⟨ha1a, ha1b⟩, ⟨ha2a, ha2b⟩, -⟩ := hrg
    refine List.forall_mem_cons.mpr ⟨?_, ?_⟩
    · intro N l st ρ' μ' cs hJ
      obtain ⟨l0, rfl, hJ0⟩ := mq_tZ_spec hJ
      clear hJ
      obtain ⟨v1, l1, rfl, hJ1⟩ := mq_tI_spec hJ0
      clear hJ0
      obtain ⟨v2, l2, rfl, hJ2⟩ := mq_tI_spec hJ1
      clear hJ1
      obtain ⟨v3, l3, rfl, hJ3⟩ := mq_tI_spec hJ2
      clear hJ2
      obtain ⟨v4, l4, rfl, hJ4⟩ := mq_tI_spec hJ3
      clear hJ3
      obtain ⟨l5, rfl, hJ5⟩ := mq_tN_spec hJ4
      clear hJ4
      obtain ⟨rfl, hJz⟩ := mq_t0_spec hJ5
      clear hJ5
      obtain ⟨rfl, rfl, rfl, hc0, hc1, hc2, hc3, hc4, hc5, hc6, hm0, hm1⟩ := hJz
      intro hbk hrl
      have hk0 : 0 ≤ μ' (69, 0) 6 ∧ μ' (69, 0) 6 ≤ 16 := hbk (69, 0) 6
      obtain ⟨⟨hl1a, hl1b⟩, ⟨hl2a, hl2b⟩, ⟨hl3a, hl3b⟩, ⟨hl4a, hl4b⟩, -⟩ := hrl
      subst hc0 hc1
      repeat' (first | refine And.intro ?_ ?_ | intro _)
      all_goals try simp only [Int.reduceToNat, Int.reduceAdd, mq_up_f, mq_up_s, mq_up_e, ne_eq, Nat.reduceEqDiff, not_false_eq_true, true_and, and_true, false_and, and_false, false_or, or_false, true_or, or_true, true_implies] at *
      all_goals first | omega | rfl | exact trivial | assumption
    refine List.forall_mem_cons.mpr ⟨?_, ?_⟩
    · intro N l st ρ' μ' cs hJ
      obtain ⟨l0, rfl, hJ0⟩ := mq_tZ_spec hJ
      clear hJ
      obtain ⟨v1, l1, rfl, hJ1⟩ := mq_tI_spec hJ0
      clear hJ0
      obtain ⟨v2, l2, rfl, hJ2⟩ := mq_tI_spec hJ1
      clear hJ1
      obtain ⟨v3, l3, rfl, hJ3⟩ := mq_tI_spec hJ2
      clear hJ2
      obtain ⟨v4, l4, rfl, hJ4⟩ := mq_tI_spec hJ3
      clear hJ3
      obtain ⟨v5, l5, rfl, hJ5⟩ := mq_tI_spec hJ4
      clear hJ4
      obtain ⟨rfl, hJz⟩ := mq_t0_spec hJ5
      clear hJ5
      obtain ⟨rfl, rfl, rfl, hc0, hc1, hc2, hc3, hc4, hc5, hc6, hm0, hm1⟩ := hJz
      intro hbk hrl
      have hk0 : 0 ≤ μ' (69, 0) 6 ∧ μ' (69, 0) 6 ≤ 16 := hbk (69, 0) 6
      obtain ⟨⟨hl1a, hl1b⟩, ⟨hl2a, hl2b⟩, ⟨hl3a, hl3b⟩, ⟨hl4a, hl4b⟩, ⟨hl5a, hl5b⟩, -⟩ := hrl
      subst hc0 hc1
      repeat' (first | refine And.intro ?_ ?_ | intro _)
      all_goals try simp only [Int.reduceToNat, Int.reduceAdd, mq_up_f, mq_up_s, mq_up_e, ne_eq, Nat.reduceEqDiff, not_false_eq_true, true_and, and_true, false_and, and_false, false_or, or_false, true_or, or_true, true_implies] at *
      all_goals first | omega | rfl | exact trivial | assumption
    exact fun _ h => absurd h List.not_mem_nil
def pq_m_order : List mq_E := [(0, false, .aload 0), (1, false, .iconst 0), (2, false, .multianewarray 11 0), (5, false, .aload 0), (6, false, .iload 1), (7, false, .invokestatic 0), (10, false, .ifCond .ne (Int.ofNat 16)), (13, false, .iconst (-2)), (15, false, .ireturn), (16, false, .aload 0), (17, false, .iload 1), (18, false, .invokestatic 1), (21, false, .istore 3), (22, false, .iconst 0), (23, false, .istore 4), (25, true, .iload 4), (27, false, .aload 0), (28, false, .invokeinterface 11 19), (31, false, .iconst 6), (33, false, .jsr 6), (34, false, .if_icmp .ge (Int.ofNat 160)), (37, false, .aload 0), (38, false, .invokeinterface 11 26), (41, false, .iconst 5), (42, false, .iload 4), (44, false, .imul), (45, false, .jsr 0), (46, false, .iload 1), (47, false, .if_icmp .eq (Int.ofNat 53)), (50, false, .goto (Int.ofNat 154)), (53, false, .iconst 0), (54, false, .istore 5), (56, false, .iconst 0), (57, false, .istore 6), (59, true, .iload 6), (61, false, .iload 3), (62, false, .if_icmp .ge (Int.ofNat 145)), (65, false, .aload 0), (66, false, .iload 1), (67, false, .iload 6), (69, false, .invokestatic 2), (72, false, .istore 7), (74, false, .iload 5), (76, false, .aload 0), (77, false, .iload 7), (79, false, .invokestatic 3), (82, false, .aload 0), (83, false, .iload 4), (85, false, .invokestatic 3), (88, false, .if_icmp .gt (Int.ofNat 131)), (91, false, .aload 0), (92, false, .iload 7), (94, false, .invokestatic 3), (97, false, .aload 0), (98, false, .iload 4), (100, false, .invokestatic 3), (103, false, .if_icmp .ne (Int.ofNat 135)), (106, false, .aload 0), (107, false, .invokeinterface 11 26), (110, false, .iconst 5), (111, false, .iload 7), (113, false, .imul), (114, false, .iconst 4), (115, false, .iadd), (116, false, .jsr 4), (117, false, .aload 0), (118, false, .invokeinterface 11 26), (121, false, .iconst 5), (122, false, .iload 4), (124, false, .imul), (125, false, .iconst 4), (126, false, .iadd), (127, false, .jsr 4), (128, false, .if_icmp .ge (Int.ofNat 135)), (131, false, .iconst 1), (132, false, .goto (Int.ofNat 136)), (135, false, .iconst 0), (136, false, .iadd), (137, false, .istore 5), (139, false, .iinc 6 1), (142, false, .goto (Int.ofNat 59)), (145, false, .iload 5), (147, false, .iload 2), (148, false, .if_icmp .ne (Int.ofNat 154)), (151, false, .iload 4), (153, false, .ireturn), (154, false, .iinc 4 1), (157, false, .goto (Int.ofNat 25)), (160, false, .iconst (-1)), (161, false, .ireturn)]
def cq_m_order : mq_C := ((yX11_order, cX11_order, 8, (some .int), { frames := 2, cells := 0, slots := 0, locals := 46 }), (3, 1, 0, 0), 1152921504606846976, (fun as ρ μ => match ρ with
  | (nw, sp, tl, tx, al) => mq_pZ as 60 fun as => mq_pI as fun t as => mq_pI as fun i as => mq_p0 as (sq_bx (sq_inv (μ (69, 0)) (μ (76, 0))) ∧ True)),
  (fun as ρ μ r ρ' μ' => match as, ρ, ρ' with
  | [.inr (.inr (some (_, _))), .inl t, .inl i], (nw, sp, tl, tx, al), (nw', sp', tl', tx', al') => []
  | _, _, _ => []))
def kq_m_order : List mq_V → mq_R → mq_M → List mq_Cu := fun as ρ μ => match as, ρ with
  | [.inr (.inr (some (_, _))), .inl t, .inl i], (nw, sp, tl, tx, al) => [(25, [true, true, true, true, true, false, false, false], fun N l st ρ' μ' cs => mq_tZ l 60 fun l => mq_tI l fun v1 l => mq_tI l fun v2 l => mq_tI l fun v3 l => mq_tI l fun v4 l => mq_tN l fun l => mq_tN l fun l => mq_tN l fun l => mq_t0 l (st = [] ∧ ρ' = (nw, sp, tl, tx, al) ∧ cs = 0 ∧ v1 = t ∧ v2 = i ∧ sq_bx (sq_pl (μ' (69, 0)) (μ' (76, 0)) 0) ∧ 0 ≤ t ∧ t ≤ 4 ∧ 0 ≤ v3 ∧ v3 ≤ 16 ∧ v3 ≤ sq_cnt (μ' (76, 0)) 0 t (μ' (69, 0) 6).toNat ∧ 0 ≤ v4 ∧ v4 ≤ 16 ∧ 0 ≤ (100 * (16 - v4) : Int) ∧ (100 * (16 - v4) : Int) < (N : Int))),
    (59, [true, true, true, true, true, true, true, false], fun N l st ρ' μ' cs => mq_tZ l 60 fun l => mq_tI l fun v1 l => mq_tI l fun v2 l => mq_tI l fun v3 l => mq_tI l fun v4 l => mq_tI l fun v5 l => mq_tI l fun v6 l => mq_tN l fun l => mq_t0 l (st = [] ∧ ρ' = (nw, sp, tl, tx, al) ∧ cs = 0 ∧ v1 = t ∧ v2 = i ∧ sq_bx (sq_pl (μ' (69, 0)) (μ' (76, 0)) 0) ∧ 0 ≤ t ∧ t ≤ 4 ∧ 0 ≤ v3 ∧ v3 ≤ 16 ∧ v3 ≤ sq_cnt (μ' (76, 0)) 0 t (μ' (69, 0) 6).toNat ∧ 0 ≤ v4 ∧ v4 ≤ 15 ∧ 0 ≤ v5 ∧ v5 ≤ v6 ∧ 0 ≤ v6 ∧ v6 ≤ v3 ∧ 0 ≤ (100 * (16 - v4) - 1 - v6 : Int) ∧ (100 * (16 - v4) - 1 - v6 : Int) < (N : Int)))]
  | _, _ => []
set_option maxHeartbeats 16000000 in
set_option maxRecDepth 100000 in
theorem vq_m_order (lc : Launch) (h_m_isTrain : mq_Ct lc cq_m_isTrain) (h_m_coachesOf : mq_Ct lc cq_m_coachesOf) (h_m_at : mq_Ct lc cq_m_at) (h_m_platformAt : mq_Ct lc cq_m_platformAt) : mq_Ct lc cq_m_order := by
  refine mq_method (lc := lc) (P := pq_m_order) (cl := [cq_m_isTrain, cq_m_coachesOf, cq_m_at, cq_m_platformAt]) (T := ([(120, 11, 0), (40, 11, 19), (61, 11, 26)], [], [], [(314, 0, 0), (410, 1, 0), (396, 2, 0), (481, 3, 0)], [], [])) (fuel := 400) (cuts := kq_m_order) (by decide) rfl ⟨rfl, rfl⟩ (List.forall_mem_cons.mpr ⟨h_m_isTrain, (List.forall_mem_cons.mpr ⟨h_m_coachesOf, (List.forall_mem_cons.mpr ⟨h_m_at, (List.forall_mem_cons.mpr ⟨h_m_platformAt, (fun _ h => absurd h List.not_mem_nil)⟩)⟩)⟩)⟩) ⟨(List.forall_mem_cons.mpr ⟨⟨_, rfl, by decide, kw_773⟩, (List.forall_mem_cons.mpr ⟨⟨_, rfl, by decide, kw_837⟩, (List.forall_mem_cons.mpr ⟨⟨_, rfl, by decide, kw_867⟩, (fun _ h => absurd h List.not_mem_nil)⟩)⟩)⟩), (fun _ h => absurd h List.not_mem_nil), (fun _ h => absurd h List.not_mem_nil), (List.forall_mem_cons.mpr ⟨mq_ml0 rfl mw0_m_isTrain kw_845, (List.forall_mem_cons.mpr ⟨mq_ml0 rfl mw0_m_coachesOf kw_978, (List.forall_mem_cons.mpr ⟨mq_ml0 rfl mw0_m_at kw_963, (List.forall_mem_cons.mpr ⟨mq_ml0 rfl mw0_m_platformAt kw_986, (fun _ h => absurd h List.not_mem_nil)⟩)⟩)⟩)⟩), (fun _ h => absurd h List.not_mem_nil), (fun _ h => absurd h List.not_mem_nil)⟩ (by decide +kernel) ⟨_, _, rfl⟩ ?_ ?_ ?_ ?_
  · intro as ρ μ h
    obtain ⟨nw, sp, tl, tx, al⟩ := ρ
    obtain ⟨as0, rfl, h0⟩ := mq_pZ_spec h
    clear h
    obtain ⟨t, as1, rfl, h1⟩ := mq_pI_spec h0
    clear h0
    obtain ⟨i, as2, rfl, h2⟩ := mq_pI_spec h1
    clear h1
    obtain ⟨rfl, hp⟩ := mq_p0_spec h2
    clear h2
    obtain ⟨hp0, hp1⟩ := hp
    rfl
  · intro as ρ μ h
    obtain ⟨nw, sp, tl, tx, al⟩ := ρ
    obtain ⟨as0, rfl, h0⟩ := mq_pZ_spec h
    clear h
    obtain ⟨t, as1, rfl, h1⟩ := mq_pI_spec h0
    clear h0
    obtain ⟨i, as2, rfl, h2⟩ := mq_pI_spec h1
    clear h1
    obtain ⟨rfl, hp⟩ := mq_p0_spec h2
    clear h2
    obtain ⟨hp0, hp1⟩ := hp
    intro hrg
    obtain ⟨⟨ha1a, ha1b⟩, ⟨ha2a, ha2b⟩, -⟩ := hrg
    intro hbk
    have hk0 : 0 ≤ μ (69, 0) 6 ∧ μ (69, 0) 6 ≤ 16 := hbk (69, 0) 6
    have e0 : mq_l0 ([.inr (.inr (some (60, 0))), .inl t, .inl i] : List mq_V) 8 = [some (.inr (.inr (some (60, 0)))), some (.inl t), some (.inl i), none, none, none, none, none] := rfl
    rw [e0]
    repeat' (first | refine And.intro ?_ ?_ | intro _)
    all_goals try simp only [Int.reduceToNat, Int.reduceAdd, mq_up_f, mq_up_s, mq_up_e, ne_eq, Nat.reduceEqDiff, not_false_eq_true, true_and, and_true, false_and, and_false, false_or, or_false, true_or, or_true, true_implies] at *
    all_goals first | omega | rfl | exact trivial | assumption | exact sq_m (sq_g hp0 0 (by decide) (by decide))
  · intro as ρ μ h
    obtain ⟨nw, sp, tl, tx, al⟩ := ρ
    obtain ⟨as0, rfl, h0⟩ := mq_pZ_spec h
    clear h
    obtain ⟨t, as1, rfl, h1⟩ := mq_pI_spec h0
    clear h0
    obtain ⟨i, as2, rfl, h2⟩ := mq_pI_spec h1
    clear h1
    obtain ⟨rfl, hp⟩ := mq_p0_spec h2
    clear h2
    obtain ⟨hp0, hp1⟩ := hp
    refine List.forall_mem_cons.mpr ⟨?_, ?_⟩
    · intro l st ρ' μ' cs hJ
      obtain ⟨l0, rfl, hJ0⟩ := mq_tZ_spec hJ
      clear hJ
      obtain ⟨v1, l1, rfl, hJ1⟩ := mq_tI_spec hJ0
      clear hJ0
      obtain ⟨v2, l2, rfl, hJ2⟩ := mq_tI_spec hJ1
      clear hJ1
      obtain ⟨v3, l3, rfl, hJ3⟩ := mq_tI_spec hJ2
      clear hJ2
      obtain ⟨v4, l4, rfl, hJ4⟩ := mq_tI_spec hJ3
      clear hJ3
      obtain ⟨l5, rfl, hJ5⟩ := mq_tN_spec hJ4
      clear hJ4
      obtain ⟨l6, rfl, hJ6⟩ := mq_tN_spec hJ5
      clear hJ5
      obtain ⟨l7, rfl, hJ7⟩ := mq_tN_spec hJ6
      clear hJ6
      obtain ⟨rfl, hJz⟩ := mq_t0_spec hJ7
      clear hJ7
      obtain ⟨rfl, rfl, rfl, hc0, hc1, hc2, hc3, hc4, hc5, hc6, hc7, hc8, hc9, hm0, hm1⟩ := hJz
      omega
    refine List.forall_mem_cons.mpr ⟨?_, ?_⟩
    · intro l st ρ' μ' cs hJ
      obtain ⟨l0, rfl, hJ0⟩ := mq_tZ_spec hJ
      clear hJ
      obtain ⟨v1, l1, rfl, hJ1⟩ := mq_tI_spec hJ0
      clear hJ0
      obtain ⟨v2, l2, rfl, hJ2⟩ := mq_tI_spec hJ1
      clear hJ1
      obtain ⟨v3, l3, rfl, hJ3⟩ := mq_tI_spec hJ2
      clear hJ2
      obtain ⟨v4, l4, rfl, hJ4⟩ := mq_tI_spec hJ3
      clear hJ3
      obtain ⟨v5, l5, rfl, hJ5⟩ := mq_tI_spec hJ4
      clear hJ4
      obtain ⟨v6, l6, rfl, hJ6⟩ := mq_tI_spec hJ5
      clear hJ5
      obtain ⟨l7, rfl, hJ7⟩ := mq_tN_spec hJ6
      clear hJ6
      obtain ⟨rfl, hJz⟩ := mq_t0_spec hJ7
      clear hJ7
      obtain ⟨rfl, rfl, rfl, hc0, hc1, hc2, hc3, hc4, hc5, hc6, hc7, hc8, hc9, hc10, hc11, hc12, hc13, hm0, hm1⟩ := hJz
      omega
    exact fun _ h => absurd h List.not_mem_nil
  · intro as ρ μ h
    obtain ⟨nw, sp, tl, tx, al⟩ := ρ
    obtain ⟨as0, rfl, h0⟩ := mq_pZ_spec h
    clear h
    obtain ⟨t, as1, rfl, h1⟩ := mq_pI_spec h0
    clear h0
    obtain ⟨i, as2, rfl, h2⟩ := mq_pI_spec h1
    clear h1
    obtain ⟨rfl, hp⟩ := mq_p0_spec h2
    clear h2
    obtain ⟨hp0, hp1⟩ := hp
    intro hrg
    obtain ⟨⟨ha1a, ha1b⟩, ⟨ha2a, ha2b⟩, -⟩ := hrg
    refine List.forall_mem_cons.mpr ⟨?_, ?_⟩
    · intro N l st ρ' μ' cs hJ
      obtain ⟨l0, rfl, hJ0⟩ := mq_tZ_spec hJ
      clear hJ
      obtain ⟨v1, l1, rfl, hJ1⟩ := mq_tI_spec hJ0
      clear hJ0
      obtain ⟨v2, l2, rfl, hJ2⟩ := mq_tI_spec hJ1
      clear hJ1
      obtain ⟨v3, l3, rfl, hJ3⟩ := mq_tI_spec hJ2
      clear hJ2
      obtain ⟨v4, l4, rfl, hJ4⟩ := mq_tI_spec hJ3
      clear hJ3
      obtain ⟨l5, rfl, hJ5⟩ := mq_tN_spec hJ4
      clear hJ4
      obtain ⟨l6, rfl, hJ6⟩ := mq_tN_spec hJ5
      clear hJ5
      obtain ⟨l7, rfl, hJ7⟩ := mq_tN_spec hJ6
      clear hJ6
      obtain ⟨rfl, hJz⟩ := mq_t0_spec hJ7
      clear hJ7
      obtain ⟨rfl, rfl, rfl, hc0, hc1, hc2, hc3, hc4, hc5, hc6, hc7, hc8, hc9, hm0, hm1⟩ := hJz
      intro hbk hrl
      have hk0 : 0 ≤ μ' (69, 0) 6 ∧ μ' (69, 0) 6 ≤ 16 := hbk (69, 0) 6
      obtain ⟨⟨hl1a, hl1b⟩, ⟨hl2a, hl2b⟩, ⟨hl3a, hl3b⟩, ⟨hl4a, hl4b⟩, -⟩ := hrl
      subst hc0 hc1
      repeat' (first | refine And.intro ?_ ?_ | intro _)
      all_goals try simp only [Int.reduceToNat, Int.reduceAdd, mq_up_f, mq_up_s, mq_up_e, ne_eq, Nat.reduceEqDiff, not_false_eq_true, true_and, and_true, false_and, and_false, false_or, or_false, true_or, or_true, true_implies] at *
      all_goals first | omega | rfl | exact trivial | assumption
    refine List.forall_mem_cons.mpr ⟨?_, ?_⟩
    · intro N l st ρ' μ' cs hJ
      obtain ⟨l0, rfl, hJ0⟩ := mq_tZ_spec hJ
      clear hJ
      obtain ⟨v1, l1, rfl, hJ1⟩ := mq_tI_spec hJ0
      clear hJ0
      obtain ⟨v2, l2, rfl, hJ2⟩ := mq_tI_spec hJ1
      clear hJ1
      obtain ⟨v3, l3, rfl, hJ3⟩ := mq_tI_spec hJ2
      clear hJ2
      obtain ⟨v4, l4, rfl, hJ4⟩ := mq_tI_spec hJ3
      clear hJ3
      obtain ⟨v5, l5, rfl, hJ5⟩ := mq_tI_spec hJ4
      clear hJ4
      obtain ⟨v6, l6, rfl, hJ6⟩ := mq_tI_spec hJ5
      clear hJ5
      obtain ⟨l7, rfl, hJ7⟩ := mq_tN_spec hJ6
      clear hJ6
      obtain ⟨rfl, hJz⟩ := mq_t0_spec hJ7
      clear hJ7
      obtain ⟨rfl, rfl, rfl, hc0, hc1, hc2, hc3, hc4, hc5, hc6, hc7, hc8, hc9, hc10, hc11, hc12, hc13, hm0, hm1⟩ := hJz
      intro hbk hrl
      have hk0 : 0 ≤ μ' (69, 0) 6 ∧ μ' (69, 0) 6 ≤ 16 := hbk (69, 0) 6
      obtain ⟨⟨hl1a, hl1b⟩, ⟨hl2a, hl2b⟩, ⟨hl3a, hl3b⟩, ⟨hl4a, hl4b⟩, ⟨hl5a, hl5b⟩, ⟨hl6a, hl6b⟩, -⟩ := hrl
      subst hc0 hc1
      repeat' (first | refine And.intro ?_ ?_ | intro _)
      all_goals try simp only [Int.reduceToNat, Int.reduceAdd, mq_up_f, mq_up_s, mq_up_e, ne_eq, Nat.reduceEqDiff, not_false_eq_true, true_and, and_true, false_and, and_false, false_or, or_false, true_or, or_true, true_implies] at *
      all_goals first | omega | rfl | exact trivial | assumption | (have h9 := sq_at_pl (t := v1) (k := v6) (sq_g hc2) (by omega) (by omega); omega)
    exact fun _ h => absurd h List.not_mem_nil
def pq_m_blocked : List mq_E := [(0, false, .aload 0), (1, false, .iconst 0), (2, false, .multianewarray 11 0), (5, false, .aload 0), (6, false, .iload 1), (7, false, .invokestatic 0), (10, false, .ifCond .ne (Int.ofNat 16)), (13, false, .iconst (-2)), (15, false, .ireturn), (16, false, .iconst (-1)), (17, false, .istore 2), (18, false, .aload 0), (19, false, .iload 1), (20, false, .invokestatic 1), (23, false, .iconst 1), (24, false, .isub), (25, false, .istore 3), (26, true, .iload 3), (27, false, .ifCond .lt (Int.ofNat 93)), (30, false, .aload 0), (31, false, .iload 1), (32, false, .iload 3), (33, false, .invokestatic 2), (36, false, .istore 4), (38, false, .aload 0), (39, false, .invokeinterface 11 26), (42, false, .iconst 5), (43, false, .iload 4), (45, false, .imul), (46, false, .iconst 3), (47, false, .iadd), (48, false, .jsr 3), (49, false, .iload 2), (50, false, .if_icmp .ge (Int.ofNat 56)), (53, false, .iload 4), (55, false, .ireturn), (56, false, .aload 0), (57, false, .invokeinterface 11 26), (60, false, .iconst 5), (61, false, .iload 4), (63, false, .imul), (64, false, .iconst 3), (65, false, .iadd), (66, false, .jsr 3), (67, false, .iload 2), (68, false, .if_icmp .le (Int.ofNat 85)), (71, false, .aload 0), (72, false, .invokeinterface 11 26), (75, false, .iconst 5), (76, false, .iload 4), (78, false, .imul), (79, false, .iconst 3), (80, false, .iadd), (81, false, .jsr 3), (82, false, .goto (Int.ofNat 86)), (85, false, .iload 2), (86, false, .istore 2), (87, false, .iinc 3 (-1)), (90, false, .goto (Int.ofNat 26)), (93, false, .iconst (-1)), (94, false, .ireturn)]
def cq_m_blocked : mq_C := ((yX11_blocked, cX11_blocked, 5, (some .int), { frames := 2, cells := 0, slots := 0, locals := 46 }), (2, 1, 0, 0), 1152921504606846976, (fun as ρ μ => match ρ with
  | (nw, sp, tl, tx, al) => mq_pZ as 60 fun as => mq_pI as fun t as => mq_p0 as (sq_bx (sq_inv (μ (69, 0)) (μ (76, 0))) ∧ True)),
  (fun as ρ μ r ρ' μ' => match as, ρ, ρ' with
  | [.inr (.inr (some (_, _))), .inl t], (nw, sp, tl, tx, al), (nw', sp', tl', tx', al') => []
  | _, _, _ => []))
def kq_m_blocked : List mq_V → mq_R → mq_M → List mq_Cu := fun as ρ μ => match as, ρ with
  | [.inr (.inr (some (_, _))), .inl t], (nw, sp, tl, tx, al) => [(26, [true, true, true, true, false], fun N l st ρ' μ' cs => mq_tZ l 60 fun l => mq_tI l fun v1 l => mq_tI l fun v2 l => mq_tI l fun v3 l => mq_tN l fun l => mq_t0 l (st = [] ∧ ρ' = (nw, sp, tl, tx, al) ∧ cs = 0 ∧ v1 = t ∧ sq_bx (sq_pl (μ' (69, 0)) (μ' (76, 0)) 0) ∧ 0 ≤ t ∧ t ≤ 4 ∧ -1 ≤ v3 ∧ v3 ≤ 15 ∧ v3 < sq_cnt (μ' (76, 0)) 0 t (μ' (69, 0) 6).toNat ∧ 0 ≤ (v3 + 1 : Int) ∧ (v3 + 1 : Int) < (N : Int)))]
  | _, _ => []
set_option maxHeartbeats 16000000 in
set_option maxRecDepth 100000 in
theorem vq_m_blocked (lc : Launch) (h_m_isTrain : mq_Ct lc cq_m_isTrain) (h_m_coachesOf : mq_Ct lc cq_m_coachesOf) (h_m_at : mq_Ct lc cq_m_at) : mq_Ct lc cq_m_blocked := by
  refine mq_method (lc := lc) (P := pq_m_blocked) (cl := [cq_m_isTrain, cq_m_coachesOf, cq_m_at]) (T := ([(120, 11, 0), (61, 11, 26)], [], [], [(314, 0, 0), (410, 1, 0), (396, 2, 0)], [], [])) (fuel := 400) (cuts := kq_m_blocked) (by decide) rfl ⟨rfl, rfl⟩ (List.forall_mem_cons.mpr ⟨h_m_isTrain, (List.forall_mem_cons.mpr ⟨h_m_coachesOf, (List.forall_mem_cons.mpr ⟨h_m_at, (fun _ h => absurd h List.not_mem_nil)⟩)⟩)⟩) ⟨(List.forall_mem_cons.mpr ⟨⟨_, rfl, by decide, kw_773⟩, (List.forall_mem_cons.mpr ⟨⟨_, rfl, by decide, kw_867⟩, (fun _ h => absurd h List.not_mem_nil)⟩)⟩), (fun _ h => absurd h List.not_mem_nil), (fun _ h => absurd h List.not_mem_nil), (List.forall_mem_cons.mpr ⟨mq_ml0 rfl mw0_m_isTrain kw_845, (List.forall_mem_cons.mpr ⟨mq_ml0 rfl mw0_m_coachesOf kw_978, (List.forall_mem_cons.mpr ⟨mq_ml0 rfl mw0_m_at kw_963, (fun _ h => absurd h List.not_mem_nil)⟩)⟩)⟩), (fun _ h => absurd h List.not_mem_nil), (fun _ h => absurd h List.not_mem_nil)⟩ (by decide +kernel) ⟨_, _, rfl⟩ ?_ ?_ ?_ ?_
  · intro as ρ μ h
    obtain ⟨nw, sp, tl, tx, al⟩ := ρ
    obtain ⟨as0, rfl, h0⟩ := mq_pZ_spec h
    clear h
    obtain ⟨t, as1, rfl, h1⟩ := mq_pI_spec h0
    clear h0
    obtain ⟨rfl, hp⟩ := mq_p0_spec h1
    clear h1
    obtain ⟨hp0, hp1⟩ := hp
    rfl
  · intro as ρ μ h
    obtain ⟨nw, sp, tl, tx, al⟩ := ρ
    obtain ⟨as0, rfl, h0⟩ := mq_pZ_spec h
    clear h
    obtain ⟨t, as1, rfl, h1⟩ := mq_pI_spec h0
    clear h0
    obtain ⟨rfl, hp⟩ := mq_p0_spec h1
    clear h1
    obtain ⟨hp0, hp1⟩ := hp
    intro hrg
    obtain ⟨⟨ha1a, ha1b⟩, -⟩ := hrg
    intro hbk
    have e0 : mq_l0 ([.inr (.inr (some (60, 0))), .inl t] : List mq_V) 5 = [some (.inr (.inr (some (60, 0)))), some (.inl t), none, none, none] := rfl
    rw [e0]
    repeat' (first | refine And.intro ?_ ?_ | intro _)
    all_goals try simp only [Int.reduceToNat, Int.reduceAdd, mq_up_f, mq_up_s, mq_up_e, ne_eq, Nat.reduceEqDiff, not_false_eq_true, true_and, and_true, false_and, and_false, false_or, or_false, true_or, or_true, true_implies] at *
    all_goals first | omega | rfl | exact trivial | assumption | exact sq_m (sq_g hp0 0 (by decide) (by decide))
  · intro as ρ μ h
    obtain ⟨nw, sp, tl, tx, al⟩ := ρ
    obtain ⟨as0, rfl, h0⟩ := mq_pZ_spec h
    clear h
    obtain ⟨t, as1, rfl, h1⟩ := mq_pI_spec h0
    clear h0
    obtain ⟨rfl, hp⟩ := mq_p0_spec h1
    clear h1
    obtain ⟨hp0, hp1⟩ := hp
    refine List.forall_mem_cons.mpr ⟨?_, ?_⟩
    · intro l st ρ' μ' cs hJ
      obtain ⟨l0, rfl, hJ0⟩ := mq_tZ_spec hJ
      clear hJ
      obtain ⟨v1, l1, rfl, hJ1⟩ := mq_tI_spec hJ0
      clear hJ0
      obtain ⟨v2, l2, rfl, hJ2⟩ := mq_tI_spec hJ1
      clear hJ1
      obtain ⟨v3, l3, rfl, hJ3⟩ := mq_tI_spec hJ2
      clear hJ2
      obtain ⟨l4, rfl, hJ4⟩ := mq_tN_spec hJ3
      clear hJ3
      obtain ⟨rfl, hJz⟩ := mq_t0_spec hJ4
      clear hJ4
      obtain ⟨rfl, rfl, rfl, hc0, hc1, hc2, hc3, hc4, hc5, hc6, hm0, hm1⟩ := hJz
      omega
    exact fun _ h => absurd h List.not_mem_nil
  · intro as ρ μ h
    obtain ⟨nw, sp, tl, tx, al⟩ := ρ
    obtain ⟨as0, rfl, h0⟩ := mq_pZ_spec h
    clear h
    obtain ⟨t, as1, rfl, h1⟩ := mq_pI_spec h0
    clear h0
    obtain ⟨rfl, hp⟩ := mq_p0_spec h1
    clear h1
    obtain ⟨hp0, hp1⟩ := hp
    intro hrg
    obtain ⟨⟨ha1a, ha1b⟩, -⟩ := hrg
    refine List.forall_mem_cons.mpr ⟨?_, ?_⟩
    · intro N l st ρ' μ' cs hJ
      obtain ⟨l0, rfl, hJ0⟩ := mq_tZ_spec hJ
      clear hJ
      obtain ⟨v1, l1, rfl, hJ1⟩ := mq_tI_spec hJ0
      clear hJ0
      obtain ⟨v2, l2, rfl, hJ2⟩ := mq_tI_spec hJ1
      clear hJ1
      obtain ⟨v3, l3, rfl, hJ3⟩ := mq_tI_spec hJ2
      clear hJ2
      obtain ⟨l4, rfl, hJ4⟩ := mq_tN_spec hJ3
      clear hJ3
      obtain ⟨rfl, hJz⟩ := mq_t0_spec hJ4
      clear hJ4
      obtain ⟨rfl, rfl, rfl, hc0, hc1, hc2, hc3, hc4, hc5, hc6, hm0, hm1⟩ := hJz
      intro hbk hrl
      obtain ⟨⟨hl1a, hl1b⟩, ⟨hl2a, hl2b⟩, ⟨hl3a, hl3b⟩, -⟩ := hrl
      subst hc0
      repeat' (first | refine And.intro ?_ ?_ | intro _)
      all_goals try simp only [Int.reduceToNat, Int.reduceAdd, mq_up_f, mq_up_s, mq_up_e, ne_eq, Nat.reduceEqDiff, not_false_eq_true, true_and, and_true, false_and, and_false, false_or, or_false, true_or, or_true, true_implies] at *
      all_goals first | omega | rfl | exact trivial | assumption | (have h9 := sq_at_pl (t := v1) (k := v3) (sq_g hc1) (by omega) (by omega); omega)
    exact fun _ h => absurd h List.not_mem_nil
def pq_m_count : List mq_E := [(0, false, .aload 0), (1, false, .iconst 0), (2, false, .multianewarray 11 0), (5, false, .iconst 0), (6, false, .istore 2), (7, false, .iload 1), (8, false, .tableswitch (Int.ofNat 148) 0 8 #[(Int.ofNat 60), (Int.ofNat 67), (Int.ofNat 74), (Int.ofNat 81), (Int.ofNat 88), (Int.ofNat 96), (Int.ofNat 103), (Int.ofNat 108), (Int.ofNat 115)]), (60, false, .aload 0), (61, false, .invokeinterface 11 17), (64, false, .iconst 0), (65, false, .iaload), (66, false, .ireturn), (67, false, .aload 0), (68, false, .invokeinterface 11 19), (71, false, .iconst 4), (72, false, .jsr 4), (73, false, .ireturn), (74, false, .aload 0), (75, false, .invokeinterface 11 19), (78, false, .iconst 3), (79, false, .jsr 3), (80, false, .ireturn), (81, false, .aload 0), (82, false, .invokeinterface 11 19), (85, false, .iconst 5), (86, false, .jsr 5), (87, false, .ireturn), (88, false, .aload 0), (89, false, .invokeinterface 11 19), (92, false, .iconst 6), (94, false, .jsr 6), (95, false, .ireturn), (96, false, .aload 0), (97, false, .invokeinterface 11 16), (100, false, .iconst 0), (101, false, .iaload), (102, false, .ireturn), (103, false, .aload 0), (104, false, .invokeinterface 11 6), (107, false, .ireturn), (108, false, .aload 0), (109, false, .invokeinterface 11 18), (112, false, .iconst 0), (113, false, .iaload), (114, false, .ireturn), (115, false, .iconst 0), (116, false, .istore 3), (117, true, .iload 3), (118, false, .iconst 4), (119, false, .if_icmp .ge (Int.ofNat 146)), (122, false, .iload 2), (123, false, .aload 0), (124, false, .invokeinterface 11 1), (127, false, .iload 3), (128, false, .iaload), (129, false, .iconst (-1)), (130, false, .if_icmp .ne (Int.ofNat 137)), (133, false, .iconst 0), (134, false, .goto (Int.ofNat 138)), (137, false, .iconst 1), (138, false, .iadd), (139, false, .istore 2), (140, false, .iinc 3 1), (143, false, .goto (Int.ofNat 117)), (146, false, .iload 2), (147, false, .ireturn), (148, false, .iconst (-1)), (149, false, .ireturn)]
def cq_m_count : mq_C := ((yX11_count, cX11_count, 4, (some .int), { frames := 0, cells := 0, slots := 0, locals := 0 }), (2, 1, 0, 0), 1152921504606846976, (fun as ρ μ => match ρ with
  | (nw, sp, tl, tx, al) => mq_pZ as 60 fun as => mq_pI as fun w as => mq_p0 as (True)),
  (fun as ρ μ r ρ' μ' => match as, ρ, ρ' with
  | [.inr (.inr (some (_, _))), .inl w], (nw, sp, tl, tx, al), (nw', sp', tl', tx', al') => []
  | _, _, _ => []))
def kq_m_count : List mq_V → mq_R → mq_M → List mq_Cu := fun as ρ μ => match as, ρ with
  | [.inr (.inr (some (_, _))), .inl w], (nw, sp, tl, tx, al) => [(117, [true, true, true, true], fun N l st ρ' μ' cs => mq_tZ l 60 fun l => mq_tI l fun v1 l => mq_tI l fun v2 l => mq_tI l fun v3 l => mq_t0 l (st = [] ∧ ρ' = (nw, sp, tl, tx, al) ∧ cs = 0 ∧ v1 = w ∧ 0 ≤ v3 ∧ v3 ≤ 4 ∧ 0 ≤ v2 ∧ v2 ≤ v3 ∧ 0 ≤ (4 - v3 : Int) ∧ (4 - v3 : Int) < (N : Int)))]
  | _, _ => []
set_option maxHeartbeats 16000000 in
set_option maxRecDepth 100000 in
theorem vq_m_count (lc : Launch)  : mq_Ct lc cq_m_count := by
  refine mq_method (lc := lc) (P := pq_m_count) (cl := []) (T := ([(120, 11, 0), (34, 11, 17), (40, 11, 19), (31, 11, 16), (137, 11, 6), (37, 11, 18), (7, 11, 1)], [], [], [], [], [])) (fuel := 400) (cuts := kq_m_count) (by decide) rfl ⟨rfl, rfl⟩ (fun _ h => absurd h List.not_mem_nil) ⟨(List.forall_mem_cons.mpr ⟨⟨_, rfl, by decide, kw_773⟩, (List.forall_mem_cons.mpr ⟨⟨_, rfl, by decide, kw_832⟩, (List.forall_mem_cons.mpr ⟨⟨_, rfl, by decide, kw_837⟩, (List.forall_mem_cons.mpr ⟨⟨_, rfl, by decide, kw_846⟩, (List.forall_mem_cons.mpr ⟨⟨_, rfl, by decide, kw_785⟩, (List.forall_mem_cons.mpr ⟨⟨_, rfl, by decide, kw_838⟩, (List.forall_mem_cons.mpr ⟨⟨_, rfl, by decide, kw_774⟩, (fun _ h => absurd h List.not_mem_nil)⟩)⟩)⟩)⟩)⟩)⟩)⟩), (fun _ h => absurd h List.not_mem_nil), (fun _ h => absurd h List.not_mem_nil), (fun _ h => absurd h List.not_mem_nil), (fun _ h => absurd h List.not_mem_nil), (fun _ h => absurd h List.not_mem_nil)⟩ (by decide +kernel) ⟨_, _, rfl⟩ ?_ ?_ ?_ ?_
  · intro as ρ μ h
    obtain ⟨nw, sp, tl, tx, al⟩ := ρ
    obtain ⟨as0, rfl, h0⟩ := mq_pZ_spec h
    clear h
    obtain ⟨w, as1, rfl, h1⟩ := mq_pI_spec h0
    clear h0
    obtain ⟨rfl, hp⟩ := mq_p0_spec h1
    clear h1
    rfl
  · intro as ρ μ h
    obtain ⟨nw, sp, tl, tx, al⟩ := ρ
    obtain ⟨as0, rfl, h0⟩ := mq_pZ_spec h
    clear h
    obtain ⟨w, as1, rfl, h1⟩ := mq_pI_spec h0
    clear h0
    obtain ⟨rfl, hp⟩ := mq_p0_spec h1
    clear h1
    intro hrg
    obtain ⟨⟨ha1a, ha1b⟩, -⟩ := hrg
    intro hbk
    have e0 : mq_l0 ([.inr (.inr (some (60, 0))), .inl w] : List mq_V) 4 = [some (.inr (.inr (some (60, 0)))), some (.inl w), none, none] := rfl
    rw [e0]
    repeat' (first | refine And.intro ?_ ?_ | intro _)
    all_goals try simp only [Int.reduceToNat, Int.reduceAdd, mq_up_f, mq_up_s, mq_up_e, ne_eq, Nat.reduceEqDiff, not_false_eq_true, true_and, and_true, false_and, and_false, false_or, or_false, true_or, or_true, true_implies] at *
    all_goals first | omega | rfl | exact trivial | assumption
  · intro as ρ μ h
    obtain ⟨nw, sp, tl, tx, al⟩ := ρ
    obtain ⟨as0, rfl, h0⟩ := mq_pZ_spec h
    clear h
    obtain ⟨w, as1, rfl, h1⟩ := mq_pI_spec h0
    clear h0
    obtain ⟨rfl, hp⟩ := mq_p0_spec h1
    clear h1
    refine List.forall_mem_cons.mpr ⟨?_, ?_⟩
    · intro l st ρ' μ' cs hJ
      obtain ⟨l0, rfl, hJ0⟩ := mq_tZ_spec hJ
      clear hJ
      obtain ⟨v1, l1, rfl, hJ1⟩ := mq_tI_spec hJ0
      clear hJ0
      obtain ⟨v2, l2, rfl, hJ2⟩ := mq_tI_spec hJ1
      clear hJ1
      obtain ⟨v3, l3, rfl, hJ3⟩ := mq_tI_spec hJ2
      clear hJ2
      obtain ⟨rfl, hJz⟩ := mq_t0_spec hJ3
      clear hJ3
      obtain ⟨rfl, rfl, rfl, hc0, hc1, hc2, hc3, hc4, hm0, hm1⟩ := hJz
      omega
    exact fun _ h => absurd h List.not_mem_nil
  · intro as ρ μ h
    obtain ⟨nw, sp, tl, tx, al⟩ := ρ
    obtain ⟨as0, rfl, h0⟩ := mq_pZ_spec h
    clear h
    obtain ⟨w, as1, rfl, h1⟩ := mq_pI_spec h0
    clear h0
    obtain ⟨rfl, hp⟩ := mq_p0_spec h1
    clear h1
    intro hrg
    obtain ⟨⟨ha1a, ha1b⟩, -⟩ := hrg
    refine List.forall_mem_cons.mpr ⟨?_, ?_⟩
    · intro N l st ρ' μ' cs hJ
      obtain ⟨l0, rfl, hJ0⟩ := mq_tZ_spec hJ
      clear hJ
      obtain ⟨v1, l1, rfl, hJ1⟩ := mq_tI_spec hJ0
      clear hJ0
      obtain ⟨v2, l2, rfl, hJ2⟩ := mq_tI_spec hJ1
      clear hJ1
      obtain ⟨v3, l3, rfl, hJ3⟩ := mq_tI_spec hJ2
      clear hJ2
      obtain ⟨rfl, hJz⟩ := mq_t0_spec hJ3
      clear hJ3
      obtain ⟨rfl, rfl, rfl, hc0, hc1, hc2, hc3, hc4, hm0, hm1⟩ := hJz
      intro hbk hrl
      obtain ⟨⟨hl1a, hl1b⟩, ⟨hl2a, hl2b⟩, ⟨hl3a, hl3b⟩, -⟩ := hrl
      repeat' (first | refine And.intro ?_ ?_ | intro _)
      all_goals try simp only [Int.reduceToNat, Int.reduceAdd, mq_up_f, mq_up_s, mq_up_e, ne_eq, Nat.reduceEqDiff, not_false_eq_true, true_and, and_true, false_and, and_false, false_or, or_false, true_or, or_true, true_implies] at *
      all_goals first | omega | rfl | exact trivial | assumption
    exact fun _ h => absurd h List.not_mem_nil
