def pq_forget : List mq_E := [(0, false, .iconst 0), (1, false, .istore 1), (2, true, .iload 1), (3, false, .aload 0), (4, false, .invokeinterface 1 2), (7, false, .arraylength), (8, false, .if_icmp .ge (Int.ofNat 24)), (11, false, .aload 0), (12, false, .invokeinterface 1 2), (15, false, .iload 1), (16, false, .iconst 0), (17, false, .bastore), (18, false, .iinc 1 1), (21, false, .goto (Int.ofNat 2)), (24, false, .return_)]
def cq_forget : mq_C := ((yX1_forget, cX1_forget, 2, none, { frames := 0, cells := 0, slots := 0, locals := 0 }), (1, 0, 0, 0), 4294967296, (fun as ρ μ => match ρ with
  | (nw, sp, tl, tx, al) => mq_pZ as 30 fun as => mq_p0 as (True)),
  (fun as ρ μ r ρ' μ' => match as, ρ, ρ' with
  | [.inr (.inr (some (_, _)))], (nw, sp, tl, tx, al), (nw', sp', tl', tx', al') => []
  | _, _, _ => []))
def kq_forget : List mq_V → mq_R → mq_M → List mq_Cu := fun as ρ μ => match as, ρ with
  | [.inr (.inr (some (_, _)))], (nw, sp, tl, tx, al) => [(2, [true, true], fun N l st ρ' μ' cs => mq_tZ l 30 fun l => mq_tI l fun v1 l => mq_t0 l (st = [] ∧ ρ' = (nw, sp, tl, tx, al) ∧ cs = 0 ∧ 0 ≤ v1 ∧ v1 ≤ 24 ∧ 0 ≤ (24 - v1 : Int) ∧ (24 - v1 : Int) < (N : Int)))]
  | _, _ => []
set_option maxHeartbeats 16000000 in
set_option maxRecDepth 100000 in
theorem vq_forget (lc : Launch)  : mq_Ct lc cq_forget := by
  refine mq_method (lc := lc) (P := pq_forget) (cl := []) (T := ([(17, 1, 2)], [], [], [], [], [])) (fuel := 400) (cuts := kq_forget) (by decide) rfl ⟨rfl, rfl⟩ (fun _ h => absurd h List.not_mem_nil) ⟨(List.forall_mem_cons.mpr ⟨⟨_, rfl, by decide, kw_140⟩, (fun _ h => absurd h List.not_mem_nil)⟩), (fun _ h => absurd h List.not_mem_nil), (fun _ h => absurd h List.not_mem_nil), (fun _ h => absurd h List.not_mem_nil), (fun _ h => absurd h List.not_mem_nil), (fun _ h => absurd h List.not_mem_nil)⟩ (by decide +kernel) ⟨_, _, rfl⟩ ?_ ?_ ?_ ?_
  · intro as ρ μ h
    obtain ⟨nw, sp, tl, tx, al⟩ := ρ
    obtain ⟨as0, rfl, h0⟩ := mq_pZ_spec h
    clear h
    obtain ⟨rfl, hp⟩ := mq_p0_spec h0
    clear h0
    rfl
  · intro as ρ μ h
    obtain ⟨nw, sp, tl, tx, al⟩ := ρ
    obtain ⟨as0, rfl, h0⟩ := mq_pZ_spec h
    clear h
    obtain ⟨rfl, hp⟩ := mq_p0_spec h0
    clear h0
    intro hrg
    intro hbk
    have e0 : mq_l0 ([.inr (.inr (some (30, 0)))] : List mq_V) 2 = [some (.inr (.inr (some (30, 0)))), none] := rfl
    rw [e0]
    repeat' (first | refine And.intro ?_ ?_ | intro _)
    all_goals first | omega | rfl | exact trivial | (simp [mq_up] at * <;> omega)
  · intro as ρ μ h
    obtain ⟨nw, sp, tl, tx, al⟩ := ρ
    obtain ⟨as0, rfl, h0⟩ := mq_pZ_spec h
    clear h
    obtain ⟨rfl, hp⟩ := mq_p0_spec h0
    clear h0
    refine List.forall_mem_cons.mpr ⟨?_, ?_⟩
    · intro l st ρ' μ' cs hJ
      obtain ⟨l0, rfl, hJ0⟩ := mq_tZ_spec hJ
      clear hJ
      obtain ⟨v1, l1, rfl, hJ1⟩ := mq_tI_spec hJ0
      clear hJ0
      obtain ⟨rfl, hJz⟩ := mq_t0_spec hJ1
      clear hJ1
      obtain ⟨rfl, rfl, rfl, hc0, hc1, hm0, hm1⟩ := hJz
      omega
    exact fun _ h => absurd h List.not_mem_nil
  · intro as ρ μ h
    obtain ⟨nw, sp, tl, tx, al⟩ := ρ
    obtain ⟨as0, rfl, h0⟩ := mq_pZ_spec h
    clear h
    obtain ⟨rfl, hp⟩ := mq_p0_spec h0
    clear h0
    intro hrg
    refine List.forall_mem_cons.mpr ⟨?_, ?_⟩
    · intro N l st ρ' μ' cs hJ
      obtain ⟨l0, rfl, hJ0⟩ := mq_tZ_spec hJ
      clear hJ
      obtain ⟨v1, l1, rfl, hJ1⟩ := mq_tI_spec hJ0
      clear hJ0
      obtain ⟨rfl, hJz⟩ := mq_t0_spec hJ1
      clear hJ1
      obtain ⟨rfl, rfl, rfl, hc0, hc1, hm0, hm1⟩ := hJz
      intro hbk hrl
      obtain ⟨⟨hl1a, hl1b⟩, -⟩ := hrl
      repeat' (first | refine And.intro ?_ ?_ | intro _)
      all_goals first | omega | rfl | exact trivial | (simp [mq_up] at * <;> omega)
    exact fun _ h => absurd h List.not_mem_nil
theorem mw0_forget : mq_mlA cq_forget 0 := ⟨kw_520, ⟨by decide +kernel, by decide +kernel⟩, by decide +kernel, kw_521, kw_522, kw_157, 30, by decide +kernel, fun as ρ μ h => by obtain ⟨nw, sp, tl, tx, al⟩ := ρ; obtain ⟨t, e, _⟩ := mq_pZ_spec h; exact ⟨0, t, e⟩⟩
def pq_firstStep : List mq_E := [(0, false, .iload 1), (1, false, .iconst 0), (2, false, .iconst 3), (3, false, .invokestatic 0), (6, false, .ifCond .eq (Int.ofNat 40)), (9, false, .iload 2), (10, false, .iconst 0), (11, false, .iconst 5), (12, false, .invokestatic 0), (15, false, .ifCond .eq (Int.ofNat 40)), (18, false, .iload 3), (19, false, .iconst 0), (20, false, .iconst 400), (23, false, .invokestatic 0), (26, false, .ifCond .eq (Int.ofNat 40)), (29, false, .iload 4), (31, false, .iconst 1), (32, false, .iconst 15), (34, false, .invokestatic 0), (37, false, .ifCond .ne (Int.ofNat 42)), (40, false, .iconst (-1)), (41, false, .ireturn), (42, false, .aload 0), (43, false, .invokeinterface 1 1), (46, false, .iload 1), (47, false, .iconst 6), (49, false, .imul), (50, false, .iload 2), (51, false, .iadd), (52, false, .aaload), (53, false, .astore 5), (55, false, .aload 5), (57, false, .ifnonnull (Int.ofNat 64)), (60, false, .iconst (-1)), (61, false, .goto (Int.ofNat 73)), (64, false, .aload 5), (66, false, .iload 3), (67, false, .iload 4), (69, false, .invokestatic 1), (72, false, .baload), (73, false, .ireturn)]
def cq_firstStep : mq_C := ((yX1_firstStep, cX1_firstStep, 6, (some .int), { frames := 1, cells := 0, slots := 0, locals := 22 }), (5, 1, 0, 0), 0, (fun as ρ μ => match ρ with
  | (nw, sp, tl, tx, al) => mq_pZ as 30 fun as => mq_pI as fun k as => mq_pI as fun p as => mq_pI as fun y as => mq_pI as fun v as => mq_p0 as (True)),
  (fun as ρ μ r ρ' μ' => match as, ρ, ρ' with
  | [.inr (.inr (some (_, _))), .inl k, .inl p, .inl y, .inl v], (nw, sp, tl, tx, al), (nw', sp', tl', tx', al') => [-1 ≤ r, r ≤ 3]
  | _, _, _ => []))
def kq_firstStep : List mq_V → mq_R → mq_M → List mq_Cu := fun as ρ μ => match as, ρ with
  | [.inr (.inr (some (_, _))), .inl k, .inl p, .inl y, .inl v], (nw, sp, tl, tx, al) => []
  | _, _ => []
set_option maxHeartbeats 16000000 in
set_option maxRecDepth 100000 in
theorem vq_firstStep (lc : Launch) (h_isAmong : mq_Ct lc cq_isAmong) (h_cellOf : mq_Ct lc cq_cellOf) : mq_Ct lc cq_firstStep := by
  refine mq_method (lc := lc) (P := pq_firstStep) (cl := [cq_isAmong, cq_cellOf]) (T := ([(11, 1, 1)], [], [], [(39, 0, 2), (43, 1, 2)], [], [])) (fuel := 400) (cuts := kq_firstStep) (by decide) rfl ⟨rfl, rfl⟩ (List.forall_mem_cons.mpr ⟨h_isAmong, (List.forall_mem_cons.mpr ⟨h_cellOf, (fun _ h => absurd h List.not_mem_nil)⟩)⟩) ⟨(List.forall_mem_cons.mpr ⟨⟨_, rfl, by decide, kw_141⟩, (fun _ h => absurd h List.not_mem_nil)⟩), (fun _ h => absurd h List.not_mem_nil), (fun _ h => absurd h List.not_mem_nil), (List.forall_mem_cons.mpr ⟨mq_ml2 rfl mw1_isAmong 8 rfl, (List.forall_mem_cons.mpr ⟨mq_ml2 rfl mw1_cellOf 9 rfl, (fun _ h => absurd h List.not_mem_nil)⟩)⟩), (fun _ h => absurd h List.not_mem_nil), (fun _ h => absurd h List.not_mem_nil)⟩ (by decide +kernel) ⟨_, _, rfl⟩ ?_ ?_ ?_ ?_
  · intro as ρ μ h
    obtain ⟨nw, sp, tl, tx, al⟩ := ρ
    obtain ⟨as0, rfl, h0⟩ := mq_pZ_spec h
    clear h
    obtain ⟨k, as1, rfl, h1⟩ := mq_pI_spec h0
    clear h0
    obtain ⟨p, as2, rfl, h2⟩ := mq_pI_spec h1
    clear h1
    obtain ⟨y, as3, rfl, h3⟩ := mq_pI_spec h2
    clear h2
    obtain ⟨v, as4, rfl, h4⟩ := mq_pI_spec h3
    clear h3
    obtain ⟨rfl, hp⟩ := mq_p0_spec h4
    clear h4
    rfl
  · intro as ρ μ h
    obtain ⟨nw, sp, tl, tx, al⟩ := ρ
    obtain ⟨as0, rfl, h0⟩ := mq_pZ_spec h
    clear h
    obtain ⟨k, as1, rfl, h1⟩ := mq_pI_spec h0
    clear h0
    obtain ⟨p, as2, rfl, h2⟩ := mq_pI_spec h1
    clear h1
    obtain ⟨y, as3, rfl, h3⟩ := mq_pI_spec h2
    clear h2
    obtain ⟨v, as4, rfl, h4⟩ := mq_pI_spec h3
    clear h3
    obtain ⟨rfl, hp⟩ := mq_p0_spec h4
    clear h4
    intro hrg
    obtain ⟨⟨ha1a, ha1b⟩, ⟨ha2a, ha2b⟩, ⟨ha3a, ha3b⟩, ⟨ha4a, ha4b⟩, -⟩ := hrg
    intro hbk
    have e0 : mq_l0 ([.inr (.inr (some (30, 0))), .inl k, .inl p, .inl y, .inl v] : List mq_V) 6 = [some (.inr (.inr (some (30, 0)))), some (.inl k), some (.inl p), some (.inl y), some (.inl v), none] := rfl
    rw [e0]
    repeat' (first | refine And.intro ?_ ?_ | intro _)
    all_goals first | omega | rfl | exact trivial | (simp [mq_up] at * <;> omega)
  · intro as ρ μ h
    obtain ⟨nw, sp, tl, tx, al⟩ := ρ
    obtain ⟨as0, rfl, h0⟩ := mq_pZ_spec h
    clear h
    obtain ⟨k, as1, rfl, h1⟩ := mq_pI_spec h0
    clear h0
    obtain ⟨p, as2, rfl, h2⟩ := mq_pI_spec h1
    clear h1
    obtain ⟨y, as3, rfl, h3⟩ := mq_pI_spec h2
    clear h2
    obtain ⟨v, as4, rfl, h4⟩ := mq_pI_spec h3
    clear h3
    obtain ⟨rfl, hp⟩ := mq_p0_spec h4
    clear h4
    exact fun _ h => absurd h List.not_mem_nil
  · intro as ρ μ h
    obtain ⟨nw, sp, tl, tx, al⟩ := ρ
    obtain ⟨as0, rfl, h0⟩ := mq_pZ_spec h
    clear h
    obtain ⟨k, as1, rfl, h1⟩ := mq_pI_spec h0
    clear h0
    obtain ⟨p, as2, rfl, h2⟩ := mq_pI_spec h1
    clear h1
    obtain ⟨y, as3, rfl, h3⟩ := mq_pI_spec h2
    clear h2
    obtain ⟨v, as4, rfl, h4⟩ := mq_pI_spec h3
    clear h3
    obtain ⟨rfl, hp⟩ := mq_p0_spec h4
    clear h4
    intro hrg
    obtain ⟨⟨ha1a, ha1b⟩, ⟨ha2a, ha2b⟩, ⟨ha3a, ha3b⟩, ⟨ha4a, ha4b⟩, -⟩ := hrg
    exact fun _ h => absurd h List.not_mem_nil
theorem mw0_firstStep : mq_mlA cq_firstStep 0 := ⟨kw_167, ⟨by decide +kernel, by decide +kernel⟩, by decide +kernel, kw_168, kw_169, kw_157, 30, by decide +kernel, fun as ρ μ h => by obtain ⟨nw, sp, tl, tx, al⟩ := ρ; obtain ⟨t, e, _⟩ := mq_pZ_spec h; exact ⟨0, t, e⟩⟩
def pq_tryStep : List mq_E := [(0, false, .iconst 1), (1, false, .istore 7), (3, true, .iload 7), (5, false, .iconst 15), (7, false, .if_icmp .gt (Int.ofNat 121)), (10, false, .iload 7), (12, false, .iload 4), (14, false, .invokestatic 0), (17, false, .istore 8), (19, false, .iload 5), (21, false, .istore 9), (23, false, .iload 8), (25, false, .ifCond .le (Int.ofNat 58)), (28, false, .iload 2), (29, false, .iload 8), (31, false, .iadd), (32, false, .iload 6), (34, false, .if_icmp .le (Int.ofNat 41)), (37, false, .iconst (-1)), (38, false, .goto (Int.ofNat 56)), (41, false, .aload 0), (42, false, .invokeinterface 1 3), (45, false, .iload 2), (46, false, .iload 8), (48, false, .iadd), (49, false, .iconst 16), (51, false, .imul), (52, false, .iload 8), (54, false, .iadd), (55, false, .iaload), (56, false, .istore 9), (58, false, .iload 2), (59, false, .iconst 16), (61, false, .imul), (62, false, .iload 7), (64, false, .iadd), (65, false, .istore 10), (67, false, .iload 9), (69, false, .iconst (-1)), (70, false, .if_icmp .eq (Int.ofNat 115)), (73, false, .aload 0), (74, false, .invokeinterface 1 3), (77, false, .iload 10), (79, false, .iaload), (80, false, .iconst (-1)), (81, false, .if_icmp .eq (Int.ofNat 98)), (84, false, .iload 9), (86, false, .iload 3), (87, false, .fadd), (88, false, .aload 0), (89, false, .invokeinterface 1 3), (92, false, .iload 10), (94, false, .iaload), (95, false, .if_icmp .ge (Int.ofNat 115)), (98, false, .aload 0), (99, false, .invokeinterface 1 3), (102, false, .iload 10), (104, false, .iload 9), (106, false, .iload 3), (107, false, .fadd), (108, false, .iastore), (109, false, .aload 1), (110, false, .iload 10), (112, false, .iload 3), (113, false, .i2b), (114, false, .bastore), (115, false, .iinc 7 1), (118, false, .goto (Int.ofNat 3)), (121, false, .return_)]
def cq_tryStep : mq_C := ((yX1_tryStep, cX1_tryStep, 11, none, { frames := 1, cells := 0, slots := 0, locals := 22 }), (7, 0, 0, 0), 8589934594, (fun as ρ μ => match ρ with
  | (nw, sp, tl, tx, al) => mq_pZ as 30 fun as => mq_pR as 1 fun T as => mq_pI as fun y as => mq_pI as fun s as => mq_pI as fun t as => mq_pI as fun a as => mq_pI as fun la as => mq_p0 as (0 ≤ y ∧ y ≤ 400 ∧ 0 ≤ s ∧ s ≤ 3 ∧ la ≤ 400)),
  (fun as ρ μ r ρ' μ' => match as, ρ, ρ' with
  | [.inr (.inr (some (_, _))), .inr (.inr (some (_, T))), .inl y, .inl s, .inl t, .inl a, .inl la], (nw, sp, tl, tx, al), (nw', sp', tl', tx', al') => []
  | _, _, _ => []))
def kq_tryStep : List mq_V → mq_R → mq_M → List mq_Cu := fun as ρ μ => match as, ρ with
  | [.inr (.inr (some (_, _))), .inr (.inr (some (_, T))), .inl y, .inl s, .inl t, .inl a, .inl la], (nw, sp, tl, tx, al) => [(3, [true, true, true, true, true, true, true, true, false, false, false], fun N l st ρ' μ' cs => mq_tZ l 30 fun l => mq_tR l 1 fun L1 l => mq_tI l fun v2 l => mq_tI l fun v3 l => mq_tI l fun v4 l => mq_tI l fun v5 l => mq_tI l fun v6 l => mq_tI l fun v7 l => mq_tN l fun l => mq_tN l fun l => mq_tN l fun l => mq_t0 l (st = [] ∧ ρ' = (nw, sp, tl, tx, al) ∧ cs = 0 ∧ L1 = T ∧ v2 = y ∧ v3 = s ∧ v4 = t ∧ v5 = a ∧ v6 = la ∧ 1 ≤ v7 ∧ v7 ≤ 16 ∧ 0 ≤ (16 - v7 : Int) ∧ (16 - v7 : Int) < (N : Int)))]
  | _, _ => []
set_option maxHeartbeats 16000000 in
set_option maxRecDepth 100000 in
theorem vq_tryStep (lc : Launch) (h_speedLess : mq_Ct lc cq_speedLess) : mq_Ct lc cq_tryStep := by
  refine mq_method (lc := lc) (P := pq_tryStep) (cl := [cq_speedLess]) (T := ([(21, 1, 3)], [], [], [(90, 0, 2)], [], [])) (fuel := 400) (cuts := kq_tryStep) (by decide) rfl ⟨rfl, rfl⟩ (List.forall_mem_cons.mpr ⟨h_speedLess, (fun _ h => absurd h List.not_mem_nil)⟩) ⟨(List.forall_mem_cons.mpr ⟨⟨_, rfl, by decide, kw_144⟩, (fun _ h => absurd h List.not_mem_nil)⟩), (fun _ h => absurd h List.not_mem_nil), (fun _ h => absurd h List.not_mem_nil), (List.forall_mem_cons.mpr ⟨mq_ml2 rfl mw1_speedLess 10 rfl, (fun _ h => absurd h List.not_mem_nil)⟩), (fun _ h => absurd h List.not_mem_nil), (fun _ h => absurd h List.not_mem_nil)⟩ (by decide +kernel) ⟨_, _, rfl⟩ ?_ ?_ ?_ ?_
  · intro as ρ μ h
    obtain ⟨nw, sp, tl, tx, al⟩ := ρ
    obtain ⟨as0, rfl, h0⟩ := mq_pZ_spec h
    clear h
    obtain ⟨T, as1, rfl, h1⟩ := mq_pR_spec h0
    clear h0
    obtain ⟨y, as2, rfl, h2⟩ := mq_pI_spec h1
    clear h1
    obtain ⟨s, as3, rfl, h3⟩ := mq_pI_spec h2
    clear h2
    obtain ⟨t, as4, rfl, h4⟩ := mq_pI_spec h3
    clear h3
    obtain ⟨a, as5, rfl, h5⟩ := mq_pI_spec h4
    clear h4
    obtain ⟨la, as6, rfl, h6⟩ := mq_pI_spec h5
    clear h5
    obtain ⟨rfl, hp⟩ := mq_p0_spec h6
    clear h6
    obtain ⟨hp0, hp1, hp2, hp3, hp4⟩ := hp
    rfl
  · intro as ρ μ h
    obtain ⟨nw, sp, tl, tx, al⟩ := ρ
    obtain ⟨as0, rfl, h0⟩ := mq_pZ_spec h
    clear h
    obtain ⟨T, as1, rfl, h1⟩ := mq_pR_spec h0
    clear h0
    obtain ⟨y, as2, rfl, h2⟩ := mq_pI_spec h1
    clear h1
    obtain ⟨s, as3, rfl, h3⟩ := mq_pI_spec h2
    clear h2
    obtain ⟨t, as4, rfl, h4⟩ := mq_pI_spec h3
    clear h3
    obtain ⟨a, as5, rfl, h5⟩ := mq_pI_spec h4
    clear h4
    obtain ⟨la, as6, rfl, h6⟩ := mq_pI_spec h5
    clear h5
    obtain ⟨rfl, hp⟩ := mq_p0_spec h6
    clear h6
    obtain ⟨hp0, hp1, hp2, hp3, hp4⟩ := hp
    intro hrg
    obtain ⟨⟨ha2a, ha2b⟩, ⟨ha3a, ha3b⟩, ⟨ha4a, ha4b⟩, ⟨ha5a, ha5b⟩, ⟨ha6a, ha6b⟩, -⟩ := hrg
    intro hbk
    have e0 : mq_l0 ([.inr (.inr (some (30, 0))), .inr (.inr (some (1, T))), .inl y, .inl s, .inl t, .inl a, .inl la] : List mq_V) 11 = [some (.inr (.inr (some (30, 0)))), some (.inr (.inr (some (1, T)))), some (.inl y), some (.inl s), some (.inl t), some (.inl a), some (.inl la), none, none, none, none] := rfl
    rw [e0]
    repeat' (first | refine And.intro ?_ ?_ | intro _)
    all_goals first | omega | rfl | exact trivial | (simp [mq_up] at * <;> omega)
  · intro as ρ μ h
    obtain ⟨nw, sp, tl, tx, al⟩ := ρ
    obtain ⟨as0, rfl, h0⟩ := mq_pZ_spec h
    clear h
    obtain ⟨T, as1, rfl, h1⟩ := mq_pR_spec h0
    clear h0
    obtain ⟨y, as2, rfl, h2⟩ := mq_pI_spec h1
    clear h1
    obtain ⟨s, as3, rfl, h3⟩ := mq_pI_spec h2
    clear h2
    obtain ⟨t, as4, rfl, h4⟩ := mq_pI_spec h3
    clear h3
    obtain ⟨a, as5, rfl, h5⟩ := mq_pI_spec h4
    clear h4
    obtain ⟨la, as6, rfl, h6⟩ := mq_pI_spec h5
    clear h5
    obtain ⟨rfl, hp⟩ := mq_p0_spec h6
    clear h6
    obtain ⟨hp0, hp1, hp2, hp3, hp4⟩ := hp
    refine List.forall_mem_cons.mpr ⟨?_, ?_⟩
    · intro l st ρ' μ' cs hJ
      obtain ⟨l0, rfl, hJ0⟩ := mq_tZ_spec hJ
      clear hJ
      obtain ⟨L1, l1, rfl, hJ1⟩ := mq_tR_spec hJ0
      clear hJ0
      obtain ⟨v2, l2, rfl, hJ2⟩ := mq_tI_spec hJ1
      clear hJ1
      obtain ⟨v3, l3, rfl, hJ3⟩ := mq_tI_spec hJ2
      clear hJ2
      obtain ⟨v4, l4, rfl, hJ4⟩ := mq_tI_spec hJ3
      clear hJ3
      obtain ⟨v5, l5, rfl, hJ5⟩ := mq_tI_spec hJ4
      clear hJ4
      obtain ⟨v6, l6, rfl, hJ6⟩ := mq_tI_spec hJ5
      clear hJ5
      obtain ⟨v7, l7, rfl, hJ7⟩ := mq_tI_spec hJ6
      clear hJ6
      obtain ⟨l8, rfl, hJ8⟩ := mq_tN_spec hJ7
      clear hJ7
      obtain ⟨l9, rfl, hJ9⟩ := mq_tN_spec hJ8
      clear hJ8
      obtain ⟨l10, rfl, hJ10⟩ := mq_tN_spec hJ9
      clear hJ9
      obtain ⟨rfl, hJz⟩ := mq_t0_spec hJ10
      clear hJ10
      obtain ⟨rfl, rfl, rfl, rfl, hc1, hc2, hc3, hc4, hc5, hc6, hc7, hm0, hm1⟩ := hJz
      omega
    exact fun _ h => absurd h List.not_mem_nil
  · intro as ρ μ h
    obtain ⟨nw, sp, tl, tx, al⟩ := ρ
    obtain ⟨as0, rfl, h0⟩ := mq_pZ_spec h
    clear h
    obtain ⟨T, as1, rfl, h1⟩ := mq_pR_spec h0
    clear h0
    obtain ⟨y, as2, rfl, h2⟩ := mq_pI_spec h1
    clear h1
    obtain ⟨s, as3, rfl, h3⟩ := mq_pI_spec h2
    clear h2
    obtain ⟨t, as4, rfl, h4⟩ := mq_pI_spec h3
    clear h3
    obtain ⟨a, as5, rfl, h5⟩ := mq_pI_spec h4
    clear h4
    obtain ⟨la, as6, rfl, h6⟩ := mq_pI_spec h5
    clear h5
    obtain ⟨rfl, hp⟩ := mq_p0_spec h6
    clear h6
    obtain ⟨hp0, hp1, hp2, hp3, hp4⟩ := hp
    intro hrg
    obtain ⟨⟨ha2a, ha2b⟩, ⟨ha3a, ha3b⟩, ⟨ha4a, ha4b⟩, ⟨ha5a, ha5b⟩, ⟨ha6a, ha6b⟩, -⟩ := hrg
    refine List.forall_mem_cons.mpr ⟨?_, ?_⟩
    · intro N l st ρ' μ' cs hJ
      obtain ⟨l0, rfl, hJ0⟩ := mq_tZ_spec hJ
      clear hJ
      obtain ⟨L1, l1, rfl, hJ1⟩ := mq_tR_spec hJ0
      clear hJ0
      obtain ⟨v2, l2, rfl, hJ2⟩ := mq_tI_spec hJ1
      clear hJ1
      obtain ⟨v3, l3, rfl, hJ3⟩ := mq_tI_spec hJ2
      clear hJ2
      obtain ⟨v4, l4, rfl, hJ4⟩ := mq_tI_spec hJ3
      clear hJ3
      obtain ⟨v5, l5, rfl, hJ5⟩ := mq_tI_spec hJ4
      clear hJ4
      obtain ⟨v6, l6, rfl, hJ6⟩ := mq_tI_spec hJ5
      clear hJ5
      obtain ⟨v7, l7, rfl, hJ7⟩ := mq_tI_spec hJ6
      clear hJ6
      obtain ⟨l8, rfl, hJ8⟩ := mq_tN_spec hJ7
      clear hJ7
      obtain ⟨l9, rfl, hJ9⟩ := mq_tN_spec hJ8
      clear hJ8
      obtain ⟨l10, rfl, hJ10⟩ := mq_tN_spec hJ9
      clear hJ9
      obtain ⟨rfl, hJz⟩ := mq_t0_spec hJ10
      clear hJ10
      obtain ⟨rfl, rfl, rfl, rfl, hc1, hc2, hc3, hc4, hc5, hc6, hc7, hm0, hm1⟩ := hJz
      intro hbk hrl
      obtain ⟨⟨hl2a, hl2b⟩, ⟨hl3a, hl3b⟩, ⟨hl4a, hl4b⟩, ⟨hl5a, hl5b⟩, ⟨hl6a, hl6b⟩, ⟨hl7a, hl7b⟩, -⟩ := hrl
      repeat' (first | refine And.intro ?_ ?_ | intro _)
      all_goals first | omega | rfl | exact trivial | (simp [mq_up] at * <;> omega)
    exact fun _ h => absurd h List.not_mem_nil
theorem mw0_tryStep : mq_mlA cq_tryStep 0 := ⟨kw_154, ⟨by decide +kernel, by decide +kernel⟩, by decide +kernel, kw_155, kw_156, kw_157, 30, by decide +kernel, fun as ρ μ h => by obtain ⟨nw, sp, tl, tx, al⟩ := ρ; obtain ⟨t, e, _⟩ := mq_pZ_spec h; exact ⟨0, t, e⟩⟩
def pq_workOut : List mq_E := [(0, false, .aload 3), (1, false, .iconst (-1)), (2, false, .invokestatic 0), (5, false, .aload 0), (6, false, .invokeinterface 1 0), (9, false, .invokeinterface 9 4), (12, false, .astore 4), (14, false, .aload 4), (16, false, .ifnonnull (Int.ofNat 20)), (19, false, .return_), (20, false, .aload 4), (22, false, .iload 1), (23, false, .iload 2), (24, false, .invokestatic 1), (27, false, .istore 5), (29, false, .iconst 400), (32, false, .aload 4), (34, false, .invokeinterface 3 5), (37, false, .iload 2), (38, false, .iconst 1), (39, false, .invokestatic 2), (42, false, .f2l), (45, false, .istore 6), (47, false, .iload 6), (49, false, .istore 7), (51, true, .iload 7), (53, false, .ifCond .lt (Int.ofNat 152)), (56, false, .iload 5), (58, false, .iload 6), (60, false, .if_icmp .gt (Int.ofNat 152)), (63, false, .iconst 1), (64, false, .istore 8), (66, true, .iload 8), (68, false, .iconst 15), (70, false, .if_icmp .gt (Int.ofNat 92)), (73, false, .aload 0), (74, false, .invokeinterface 1 3), (77, false, .iload 7), (79, false, .iload 8), (81, false, .invokestatic 3), (84, false, .iconst (-1)), (85, false, .iastore), (86, false, .iinc 8 1), (89, false, .goto (Int.ofNat 66)), (92, false, .iload 7), (94, false, .iload 5), (96, false, .if_icmp .lt (Int.ofNat 103)), (99, false, .iconst 0), (100, false, .goto (Int.ofNat 104)), (103, false, .iconst (-1)), (104, false, .istore 8), (106, false, .iconst 0), (107, false, .istore 9), (109, true, .iload 9), (111, false, .iconst 4), (112, false, .if_icmp .ge (Int.ofNat 146)), (115, false, .aload 0), (116, false, .aload 3), (117, false, .iload 7), (119, false, .iload 9), (121, false, .aload 0), (122, false, .invokeinterface 1 0), (125, false, .iload 1), (126, false, .iload 7), (128, false, .iload 9), (130, false, .invokestatic 4), (133, false, .iload 8), (135, false, .iload 6), (137, false, .invokestatic 5), (140, false, .iinc 9 1), (143, false, .goto (Int.ofNat 109)), (146, false, .iinc 7 (-1)), (149, false, .goto (Int.ofNat 51)), (152, false, .return_)]
def cq_workOut : mq_C := ((yX1_workOut, cX1_workOut, 10, none, { frames := 2, cells := 0, slots := 0, locals := 52 }), (4, 0, 0, 0), 8589934594, (fun as ρ μ => match ρ with
  | (nw, sp, tl, tx, al) => mq_pZ as 30 fun as => mq_pI as fun k as => mq_pI as fun p as => mq_pR as 1 fun T as => mq_p0 as (True)),
  (fun as ρ μ r ρ' μ' => match as, ρ, ρ' with
  | [.inr (.inr (some (_, _))), .inl k, .inl p, .inr (.inr (some (_, T)))], (nw, sp, tl, tx, al), (nw', sp', tl', tx', al') => []
  | _, _, _ => []))
def kq_workOut : List mq_V → mq_R → mq_M → List mq_Cu := fun as ρ μ => match as, ρ with
  | [.inr (.inr (some (_, _))), .inl k, .inl p, .inr (.inr (some (_, T)))], (nw, sp, tl, tx, al) => [(51, [true, true, true, true, true, true, true, true, false, false], fun N l st ρ' μ' cs => mq_tZ l 30 fun l => mq_tI l fun v1 l => mq_tI l fun v2 l => mq_tR l 1 fun L3 l => mq_tR l 2 fun L4 l => mq_tI l fun v5 l => mq_tI l fun v6 l => mq_tI l fun v7 l => mq_tN l fun l => mq_tN l fun l => mq_t0 l (st = [] ∧ ρ' = (nw, sp, tl, tx, al) ∧ cs = 0 ∧ v1 = k ∧ v2 = p ∧ L3 = T ∧ -1 ≤ v7 ∧ v7 ≤ 400 ∧ v6 ≤ 400 ∧ 0 ≤ v6 ∧ 0 ≤ (1000 * (v7 + 1) : Int) ∧ (1000 * (v7 + 1) : Int) < (N : Int))),
    (66, [true, true, true, true, true, true, true, true, true, false], fun N l st ρ' μ' cs => mq_tZ l 30 fun l => mq_tI l fun v1 l => mq_tI l fun v2 l => mq_tR l 1 fun L3 l => mq_tR l 2 fun L4 l => mq_tI l fun v5 l => mq_tI l fun v6 l => mq_tI l fun v7 l => mq_tI l fun v8 l => mq_tN l fun l => mq_t0 l (st = [] ∧ ρ' = (nw, sp, tl, tx, al) ∧ cs = 0 ∧ v1 = k ∧ v2 = p ∧ L3 = T ∧ 0 ≤ v7 ∧ v7 ≤ 400 ∧ v6 ≤ 400 ∧ 0 ≤ v6 ∧ 1 ≤ v8 ∧ v8 ≤ 16 ∧ 0 ≤ (1000 * v7 + 900 - v8 : Int) ∧ (1000 * v7 + 900 - v8 : Int) < (N : Int))),
    (109, [true, true, true, true, true, true, true, true, true, true], fun N l st ρ' μ' cs => mq_tZ l 30 fun l => mq_tI l fun v1 l => mq_tI l fun v2 l => mq_tR l 1 fun L3 l => mq_tR l 2 fun L4 l => mq_tI l fun v5 l => mq_tI l fun v6 l => mq_tI l fun v7 l => mq_tI l fun v8 l => mq_tI l fun v9 l => mq_t0 l (st = [] ∧ ρ' = (nw, sp, tl, tx, al) ∧ cs = 0 ∧ v1 = k ∧ v2 = p ∧ L3 = T ∧ 0 ≤ v7 ∧ v7 ≤ 400 ∧ v6 ≤ 400 ∧ 0 ≤ v6 ∧ 0 ≤ v9 ∧ v9 ≤ 4 ∧ 0 ≤ (1000 * v7 + 500 - v9 : Int) ∧ (1000 * v7 + 500 - v9 : Int) < (N : Int)))]
  | _, _ => []
set_option maxHeartbeats 16000000 in
set_option maxRecDepth 100000 in
theorem vq_workOut (lc : Launch) (h_fill1 : mq_Ct lc cq_fill1) (h_firstStand : mq_Ct lc cq_firstStand) (h_get_platforms : mq_Ct lc cq_get_platforms) (h_cellOf : mq_Ct lc cq_cellOf) (h_takeOf : mq_Ct lc cq_takeOf) (h_tryStep : mq_Ct lc cq_tryStep) : mq_Ct lc cq_workOut := by
  refine mq_method (lc := lc) (P := pq_workOut) (cl := [cq_fill1, cq_firstStand, cq_get_platforms, cq_cellOf, cq_takeOf, cq_tryStep]) (T := ([(35, 1, 0), (57, 9, 4), (68, 3, 5), (21, 1, 3)], [], [], [(51, 0, 1), (63, 1, 0), (72, 2, 0), (43, 3, 2), (82, 4, 0), (86, 5, 0)], [], [(77, false)])) (fuel := 400) (cuts := kq_workOut) (by decide) rfl ⟨rfl, rfl⟩ (List.forall_mem_cons.mpr ⟨h_fill1, (List.forall_mem_cons.mpr ⟨h_firstStand, (List.forall_mem_cons.mpr ⟨h_get_platforms, (List.forall_mem_cons.mpr ⟨h_cellOf, (List.forall_mem_cons.mpr ⟨h_takeOf, (List.forall_mem_cons.mpr ⟨h_tryStep, (fun _ h => absurd h List.not_mem_nil)⟩)⟩)⟩)⟩)⟩)⟩) ⟨(List.forall_mem_cons.mpr ⟨⟨_, rfl, by decide, kw_145⟩, (List.forall_mem_cons.mpr ⟨⟨_, rfl, by decide, kw_146⟩, (List.forall_mem_cons.mpr ⟨⟨_, rfl, by decide, kw_147⟩, (List.forall_mem_cons.mpr ⟨⟨_, rfl, by decide, kw_144⟩, (fun _ h => absurd h List.not_mem_nil)⟩)⟩)⟩)⟩), (fun _ h => absurd h List.not_mem_nil), (fun _ h => absurd h List.not_mem_nil), (List.forall_mem_cons.mpr ⟨mq_ml1 rfl mw1_fill1 kw_150, (List.forall_mem_cons.mpr ⟨mq_ml0 rfl mw0_firstStand kw_151, (List.forall_mem_cons.mpr ⟨mq_ml0 rfl mw0_get_platforms kw_152, (List.forall_mem_cons.mpr ⟨mq_ml2 rfl mw1_cellOf 9 rfl, (List.forall_mem_cons.mpr ⟨mq_ml0 rfl mw0_takeOf kw_153, (List.forall_mem_cons.mpr ⟨mq_ml0 rfl mw0_tryStep kw_158, (fun _ h => absurd h List.not_mem_nil)⟩)⟩)⟩)⟩)⟩)⟩), (fun _ h => absurd h List.not_mem_nil), (List.forall_mem_cons.mpr ⟨⟨kw_159, kw_43, kw_44, kw_45⟩, (fun _ h => absurd h List.not_mem_nil)⟩)⟩ (by decide +kernel) ⟨_, _, rfl⟩ ?_ ?_ ?_ ?_
  · intro as ρ μ h
    obtain ⟨nw, sp, tl, tx, al⟩ := ρ
    obtain ⟨as0, rfl, h0⟩ := mq_pZ_spec h
    clear h
    obtain ⟨k, as1, rfl, h1⟩ := mq_pI_spec h0
    clear h0
    obtain ⟨p, as2, rfl, h2⟩ := mq_pI_spec h1
    clear h1
    obtain ⟨T, as3, rfl, h3⟩ := mq_pR_spec h2
    clear h2
    obtain ⟨rfl, hp⟩ := mq_p0_spec h3
    clear h3
    rfl
  · intro as ρ μ h
    obtain ⟨nw, sp, tl, tx, al⟩ := ρ
    obtain ⟨as0, rfl, h0⟩ := mq_pZ_spec h
    clear h
    obtain ⟨k, as1, rfl, h1⟩ := mq_pI_spec h0
    clear h0
    obtain ⟨p, as2, rfl, h2⟩ := mq_pI_spec h1
    clear h1
    obtain ⟨T, as3, rfl, h3⟩ := mq_pR_spec h2
    clear h2
    obtain ⟨rfl, hp⟩ := mq_p0_spec h3
    clear h3
    intro hrg
    obtain ⟨⟨ha1a, ha1b⟩, ⟨ha2a, ha2b⟩, -⟩ := hrg
    intro hbk
    have e0 : mq_l0 ([.inr (.inr (some (30, 0))), .inl k, .inl p, .inr (.inr (some (1, T)))] : List mq_V) 10 = [some (.inr (.inr (some (30, 0)))), some (.inl k), some (.inl p), some (.inr (.inr (some (1, T)))), none, none, none, none, none, none] := rfl
    rw [e0]
    repeat' (first | refine And.intro ?_ ?_ | intro _)
    all_goals first | omega | rfl | exact trivial | (simp [mq_up] at * <;> omega)
  · intro as ρ μ h
    obtain ⟨nw, sp, tl, tx, al⟩ := ρ
    obtain ⟨as0, rfl, h0⟩ := mq_pZ_spec h
    clear h
    obtain ⟨k, as1, rfl, h1⟩ := mq_pI_spec h0
    clear h0
    obtain ⟨p, as2, rfl, h2⟩ := mq_pI_spec h1
    clear h1
    obtain ⟨T, as3, rfl, h3⟩ := mq_pR_spec h2
    clear h2
    obtain ⟨rfl, hp⟩ := mq_p0_spec h3
    clear h3
    refine List.forall_mem_cons.mpr ⟨?_, ?_⟩
    · intro l st ρ' μ' cs hJ
      obtain ⟨l0, rfl, hJ0⟩ := mq_tZ_spec hJ
      clear hJ
      obtain ⟨v1, l1, rfl, hJ1⟩ := mq_tI_spec hJ0
      clear hJ0
      obtain ⟨v2, l2, rfl, hJ2⟩ := mq_tI_spec hJ1
      clear hJ1
      obtain ⟨L3, l3, rfl, hJ3⟩ := mq_tR_spec hJ2
      clear hJ2
      obtain ⟨L4, l4, rfl, hJ4⟩ := mq_tR_spec hJ3
      clear hJ3
      obtain ⟨v5, l5, rfl, hJ5⟩ := mq_tI_spec hJ4
      clear hJ4
      obtain ⟨v6, l6, rfl, hJ6⟩ := mq_tI_spec hJ5
      clear hJ5
      obtain ⟨v7, l7, rfl, hJ7⟩ := mq_tI_spec hJ6
      clear hJ6
      obtain ⟨l8, rfl, hJ8⟩ := mq_tN_spec hJ7
      clear hJ7
      obtain ⟨l9, rfl, hJ9⟩ := mq_tN_spec hJ8
      clear hJ8
      obtain ⟨rfl, hJz⟩ := mq_t0_spec hJ9
      clear hJ9
      obtain ⟨rfl, rfl, rfl, hc0, hc1, rfl, hc3, hc4, hc5, hc6, hm0, hm1⟩ := hJz
      omega
    refine List.forall_mem_cons.mpr ⟨?_, ?_⟩
    · intro l st ρ' μ' cs hJ
      obtain ⟨l0, rfl, hJ0⟩ := mq_tZ_spec hJ
      clear hJ
      obtain ⟨v1, l1, rfl, hJ1⟩ := mq_tI_spec hJ0
      clear hJ0
      obtain ⟨v2, l2, rfl, hJ2⟩ := mq_tI_spec hJ1
      clear hJ1
      obtain ⟨L3, l3, rfl, hJ3⟩ := mq_tR_spec hJ2
      clear hJ2
      obtain ⟨L4, l4, rfl, hJ4⟩ := mq_tR_spec hJ3
      clear hJ3
      obtain ⟨v5, l5, rfl, hJ5⟩ := mq_tI_spec hJ4
      clear hJ4
      obtain ⟨v6, l6, rfl, hJ6⟩ := mq_tI_spec hJ5
      clear hJ5
      obtain ⟨v7, l7, rfl, hJ7⟩ := mq_tI_spec hJ6
      clear hJ6
      obtain ⟨v8, l8, rfl, hJ8⟩ := mq_tI_spec hJ7
      clear hJ7
      obtain ⟨l9, rfl, hJ9⟩ := mq_tN_spec hJ8
      clear hJ8
      obtain ⟨rfl, hJz⟩ := mq_t0_spec hJ9
      clear hJ9
      obtain ⟨rfl, rfl, rfl, hc0, hc1, rfl, hc3, hc4, hc5, hc6, hc7, hc8, hm0, hm1⟩ := hJz
      omega
    refine List.forall_mem_cons.mpr ⟨?_, ?_⟩
    · intro l st ρ' μ' cs hJ
      obtain ⟨l0, rfl, hJ0⟩ := mq_tZ_spec hJ
      clear hJ
      obtain ⟨v1, l1, rfl, hJ1⟩ := mq_tI_spec hJ0
      clear hJ0
      obtain ⟨v2, l2, rfl, hJ2⟩ := mq_tI_spec hJ1
      clear hJ1
      obtain ⟨L3, l3, rfl, hJ3⟩ := mq_tR_spec hJ2
      clear hJ2
      obtain ⟨L4, l4, rfl, hJ4⟩ := mq_tR_spec hJ3
      clear hJ3
      obtain ⟨v5, l5, rfl, hJ5⟩ := mq_tI_spec hJ4
      clear hJ4
      obtain ⟨v6, l6, rfl, hJ6⟩ := mq_tI_spec hJ5
      clear hJ5
      obtain ⟨v7, l7, rfl, hJ7⟩ := mq_tI_spec hJ6
      clear hJ6
      obtain ⟨v8, l8, rfl, hJ8⟩ := mq_tI_spec hJ7
      clear hJ7
      obtain ⟨v9, l9, rfl, hJ9⟩ := mq_tI_spec hJ8
      clear hJ8
      obtain ⟨rfl, hJz⟩ := mq_t0_spec hJ9
      clear hJ9
      obtain ⟨rfl, rfl, rfl, hc0, hc1, rfl, hc3, hc4, hc5, hc6, hc7, hc8, hm0, hm1⟩ := hJz
      omega
    exact fun _ h => absurd h List.not_mem_nil
  · intro as ρ μ h
    obtain ⟨nw, sp, tl, tx, al⟩ := ρ
    obtain ⟨as0, rfl, h0⟩ := mq_pZ_spec h
    clear h
    obtain ⟨k, as1, rfl, h1⟩ := mq_pI_spec h0
    clear h0
    obtain ⟨p, as2, rfl, h2⟩ := mq_pI_spec h1
    clear h1
    obtain ⟨T, as3, rfl, h3⟩ := mq_pR_spec h2
    clear h2
    obtain ⟨rfl, hp⟩ := mq_p0_spec h3
    clear h3
    intro hrg
    obtain ⟨⟨ha1a, ha1b⟩, ⟨ha2a, ha2b⟩, -⟩ := hrg
    refine List.forall_mem_cons.mpr ⟨?_, ?_⟩
    · intro N l st ρ' μ' cs hJ
      obtain ⟨l0, rfl, hJ0⟩ := mq_tZ_spec hJ
      clear hJ
      obtain ⟨v1, l1, rfl, hJ1⟩ := mq_tI_spec hJ0
      clear hJ0
      obtain ⟨v2, l2, rfl, hJ2⟩ := mq_tI_spec hJ1
      clear hJ1
      obtain ⟨L3, l3, rfl, hJ3⟩ := mq_tR_spec hJ2
      clear hJ2
      obtain ⟨L4, l4, rfl, hJ4⟩ := mq_tR_spec hJ3
      clear hJ3
      obtain ⟨v5, l5, rfl, hJ5⟩ := mq_tI_spec hJ4
      clear hJ4
      obtain ⟨v6, l6, rfl, hJ6⟩ := mq_tI_spec hJ5
      clear hJ5
      obtain ⟨v7, l7, rfl, hJ7⟩ := mq_tI_spec hJ6
      clear hJ6
      obtain ⟨l8, rfl, hJ8⟩ := mq_tN_spec hJ7
      clear hJ7
      obtain ⟨l9, rfl, hJ9⟩ := mq_tN_spec hJ8
      clear hJ8
      obtain ⟨rfl, hJz⟩ := mq_t0_spec hJ9
      clear hJ9
      obtain ⟨rfl, rfl, rfl, hc0, hc1, rfl, hc3, hc4, hc5, hc6, hm0, hm1⟩ := hJz
      intro hbk hrl
      obtain ⟨⟨hl1a, hl1b⟩, ⟨hl2a, hl2b⟩, ⟨hl5a, hl5b⟩, ⟨hl6a, hl6b⟩, ⟨hl7a, hl7b⟩, -⟩ := hrl
      repeat' (first | refine And.intro ?_ ?_ | intro _)
      all_goals first | omega | rfl | exact trivial | (simp [mq_up] at * <;> omega)
    refine List.forall_mem_cons.mpr ⟨?_, ?_⟩
    · intro N l st ρ' μ' cs hJ
      obtain ⟨l0, rfl, hJ0⟩ := mq_tZ_spec hJ
      clear hJ
      obtain ⟨v1, l1, rfl, hJ1⟩ := mq_tI_spec hJ0
      clear hJ0
      obtain ⟨v2, l2, rfl, hJ2⟩ := mq_tI_spec hJ1
      clear hJ1
      obtain ⟨L3, l3, rfl, hJ3⟩ := mq_tR_spec hJ2
      clear hJ2
      obtain ⟨L4, l4, rfl, hJ4⟩ := mq_tR_spec hJ3
      clear hJ3
      obtain ⟨v5, l5, rfl, hJ5⟩ := mq_tI_spec hJ4
      clear hJ4
      obtain ⟨v6, l6, rfl, hJ6⟩ := mq_tI_spec hJ5
      clear hJ5
      obtain ⟨v7, l7, rfl, hJ7⟩ := mq_tI_spec hJ6
      clear hJ6
      obtain ⟨v8, l8, rfl, hJ8⟩ := mq_tI_spec hJ7
      clear hJ7
      obtain ⟨l9, rfl, hJ9⟩ := mq_tN_spec hJ8
      clear hJ8
      obtain ⟨rfl, hJz⟩ := mq_t0_spec hJ9
      clear hJ9
      obtain ⟨rfl, rfl, rfl, hc0, hc1, rfl, hc3, hc4, hc5, hc6, hc7, hc8, hm0, hm1⟩ := hJz
      intro hbk hrl
      obtain ⟨⟨hl1a, hl1b⟩, ⟨hl2a, hl2b⟩, ⟨hl5a, hl5b⟩, ⟨hl6a, hl6b⟩, ⟨hl7a, hl7b⟩, ⟨hl8a, hl8b⟩, -⟩ := hrl
      repeat' (first | refine And.intro ?_ ?_ | intro _)
      all_goals first | omega | rfl | exact trivial | (simp [mq_up] at * <;> omega)
    refine List.forall_mem_cons.mpr ⟨?_, ?_⟩
    · intro N l st ρ' μ' cs hJ
      obtain ⟨l0, rfl, hJ0⟩ := mq_tZ_spec hJ
      clear hJ
      obtain ⟨v1, l1, rfl, hJ1⟩ := mq_tI_spec hJ0
      clear hJ0
      obtain ⟨v2, l2, rfl, hJ2⟩ := mq_tI_spec hJ1
      clear hJ1
      obtain ⟨L3, l3, rfl, hJ3⟩ := mq_tR_spec hJ2
      clear hJ2
      obtain ⟨L4, l4, rfl, hJ4⟩ := mq_tR_spec hJ3
      clear hJ3
      obtain ⟨v5, l5, rfl, hJ5⟩ := mq_tI_spec hJ4
      clear hJ4
      obtain ⟨v6, l6, rfl, hJ6⟩ := mq_tI_spec hJ5
      clear hJ5
      obtain ⟨v7, l7, rfl, hJ7⟩ := mq_tI_spec hJ6
      clear hJ6
      obtain ⟨v8, l8, rfl, hJ8⟩ := mq_tI_spec hJ7
      clear hJ7
      obtain ⟨v9, l9, rfl, hJ9⟩ := mq_tI_spec hJ8
      clear hJ8
      obtain ⟨rfl, hJz⟩ := mq_t0_spec hJ9
      clear hJ9
      obtain ⟨rfl, rfl, rfl, hc0, hc1, rfl, hc3, hc4, hc5, hc6, hc7, hc8, hm0, hm1⟩ := hJz
      intro hbk hrl
      obtain ⟨⟨hl1a, hl1b⟩, ⟨hl2a, hl2b⟩, ⟨hl5a, hl5b⟩, ⟨hl6a, hl6b⟩, ⟨hl7a, hl7b⟩, ⟨hl8a, hl8b⟩, ⟨hl9a, hl9b⟩, -⟩ := hrl
      repeat' (first | refine And.intro ?_ ?_ | intro _)
      all_goals first | omega | rfl | exact trivial | (simp [mq_up] at * <;> omega)
    exact fun _ h => absurd h List.not_mem_nil
theorem mw0_workOut : mq_mlA cq_workOut 0 := ⟨kw_160, ⟨by decide +kernel, by decide +kernel⟩, by decide +kernel, kw_161, kw_162, kw_157, 30, by decide +kernel, fun as ρ μ h => by obtain ⟨nw, sp, tl, tx, al⟩ := ρ; obtain ⟨t, e, _⟩ := mq_pZ_spec h; exact ⟨0, t, e⟩⟩
def pq_prepare : List mq_E := [(0, false, .iload 1), (1, false, .iconst 0), (2, false, .iconst 3), (3, false, .invokestatic 0), (6, false, .ifCond .eq (Int.ofNat 18)), (9, false, .iload 2), (10, false, .iconst 0), (11, false, .iconst 5), (12, false, .invokestatic 0), (15, false, .ifCond .ne (Int.ofNat 19)), (18, false, .return_), (19, false, .iload 1), (20, false, .iconst 6), (22, false, .imul), (23, false, .iload 2), (24, false, .iadd), (25, false, .istore 3), (26, false, .aload 0), (27, false, .invokeinterface 1 1), (30, false, .iload 3), (31, false, .aaload), (32, false, .ifnonnull (Int.ofNat 46)), (35, false, .aload 0), (36, false, .invokeinterface 1 1), (39, false, .iload 3), (40, false, .iconst 6416), (43, false, .newarray .byte), (46, false, .aload 0), (47, false, .invokeinterface 1 2), (50, false, .iload 3), (51, false, .baload), (52, false, .ifCond .ne (Int.ofNat 74)), (55, false, .aload 0), (56, false, .iload 1), (57, false, .iload 2), (58, false, .aload 0), (59, false, .invokeinterface 1 1), (62, false, .iload 3), (63, false, .aaload), (64, false, .invokestatic 1), (67, false, .aload 0), (68, false, .invokeinterface 1 2), (71, false, .iload 3), (72, false, .iconst 1), (73, false, .bastore), (74, false, .return_)]
def cq_prepare : mq_C := ((yX1_prepare, cX1_prepare, 4, none, { frames := 3, cells := 16, slots := 6416, locals := 81 }), (3, 0, 1, 1), 12884901890, (fun as ρ μ => match ρ with
  | (nw, sp, tl, tx, al) => mq_pZ as 30 fun as => mq_pI as fun k as => mq_pI as fun p as => mq_p0 as (True)),
  (fun as ρ μ r ρ' μ' => match as, ρ, ρ' with
  | [.inr (.inr (some (_, _))), .inl k, .inl p], (nw, sp, tl, tx, al), (nw', sp', tl', tx', al') => []
  | _, _, _ => []))
def kq_prepare : List mq_V → mq_R → mq_M → List mq_Cu := fun as ρ μ => match as, ρ with
  | [.inr (.inr (some (_, _))), .inl k, .inl p], (nw, sp, tl, tx, al) => []
  | _, _ => []
set_option maxHeartbeats 16000000 in
set_option maxRecDepth 100000 in
theorem vq_prepare (lc : Launch) (h_isAmong : mq_Ct lc cq_isAmong) (h_workOut : mq_Ct lc cq_workOut) : mq_Ct lc cq_prepare := by
  refine mq_method (lc := lc) (P := pq_prepare) (cl := [cq_isAmong, cq_workOut]) (T := ([(11, 1, 1), (17, 1, 2)], [], [], [(39, 0, 2), (47, 1, 0)], [], [])) (fuel := 400) (cuts := kq_prepare) (by decide) rfl ⟨rfl, rfl⟩ (List.forall_mem_cons.mpr ⟨h_isAmong, (List.forall_mem_cons.mpr ⟨h_workOut, (fun _ h => absurd h List.not_mem_nil)⟩)⟩) ⟨(List.forall_mem_cons.mpr ⟨⟨_, rfl, by decide, kw_141⟩, (List.forall_mem_cons.mpr ⟨⟨_, rfl, by decide, kw_140⟩, (fun _ h => absurd h List.not_mem_nil)⟩)⟩), (fun _ h => absurd h List.not_mem_nil), (fun _ h => absurd h List.not_mem_nil), (List.forall_mem_cons.mpr ⟨mq_ml2 rfl mw1_isAmong 8 rfl, (List.forall_mem_cons.mpr ⟨mq_ml0 rfl mw0_workOut kw_163, (fun _ h => absurd h List.not_mem_nil)⟩)⟩), (fun _ h => absurd h List.not_mem_nil), (fun _ h => absurd h List.not_mem_nil)⟩ (by decide +kernel) ⟨_, _, rfl⟩ ?_ ?_ ?_ ?_
  · intro as ρ μ h
    obtain ⟨nw, sp, tl, tx, al⟩ := ρ
    obtain ⟨as0, rfl, h0⟩ := mq_pZ_spec h
    clear h
    obtain ⟨k, as1, rfl, h1⟩ := mq_pI_spec h0
    clear h0
    obtain ⟨p, as2, rfl, h2⟩ := mq_pI_spec h1
    clear h1
    obtain ⟨rfl, hp⟩ := mq_p0_spec h2
    clear h2
    rfl
  · intro as ρ μ h
    obtain ⟨nw, sp, tl, tx, al⟩ := ρ
    obtain ⟨as0, rfl, h0⟩ := mq_pZ_spec h
    clear h
    obtain ⟨k, as1, rfl, h1⟩ := mq_pI_spec h0
    clear h0
    obtain ⟨p, as2, rfl, h2⟩ := mq_pI_spec h1
    clear h1
    obtain ⟨rfl, hp⟩ := mq_p0_spec h2
    clear h2
    intro hrg
    obtain ⟨⟨ha1a, ha1b⟩, ⟨ha2a, ha2b⟩, -⟩ := hrg
    intro hbk
    have e0 : mq_l0 ([.inr (.inr (some (30, 0))), .inl k, .inl p] : List mq_V) 4 = [some (.inr (.inr (some (30, 0)))), some (.inl k), some (.inl p), none] := rfl
    rw [e0]
    repeat' (first | refine And.intro ?_ ?_ | intro _)
    all_goals first | omega | rfl | exact trivial | exact ⟨rfl, rfl, rfl, rfl⟩ | (simp_all [mq_alS] <;> omega) | (simp [mq_up, mq_new, mq_alS] at * <;> omega)
  · intro as ρ μ h
    obtain ⟨nw, sp, tl, tx, al⟩ := ρ
    obtain ⟨as0, rfl, h0⟩ := mq_pZ_spec h
    clear h
    obtain ⟨k, as1, rfl, h1⟩ := mq_pI_spec h0
    clear h0
    obtain ⟨p, as2, rfl, h2⟩ := mq_pI_spec h1
    clear h1
    obtain ⟨rfl, hp⟩ := mq_p0_spec h2
    clear h2
    exact fun _ h => absurd h List.not_mem_nil
  · intro as ρ μ h
    obtain ⟨nw, sp, tl, tx, al⟩ := ρ
    obtain ⟨as0, rfl, h0⟩ := mq_pZ_spec h
    clear h
    obtain ⟨k, as1, rfl, h1⟩ := mq_pI_spec h0
    clear h0
    obtain ⟨p, as2, rfl, h2⟩ := mq_pI_spec h1
    clear h1
    obtain ⟨rfl, hp⟩ := mq_p0_spec h2
    clear h2
    intro hrg
    obtain ⟨⟨ha1a, ha1b⟩, ⟨ha2a, ha2b⟩, -⟩ := hrg
    exact fun _ h => absurd h List.not_mem_nil
theorem mw0_prepare : mq_mlA cq_prepare 0 := ⟨kw_557, ⟨by decide +kernel, by decide +kernel⟩, by decide +kernel, kw_558, kw_559, kw_157, 30, by decide +kernel, fun as ρ μ h => by obtain ⟨nw, sp, tl, tx, al⟩ := ρ; obtain ⟨t, e, _⟩ := mq_pZ_spec h; exact ⟨0, t, e⟩⟩
def pq_follow : List mq_E := [(0, false, .aload 0), (1, false, .iconst 0), (2, false, .multianewarray 1 4), (5, false, .iload 3), (6, false, .istore 5), (8, false, .iload 4), (10, false, .istore 6), (12, false, .aload 0), (13, false, .iconst 1), (14, false, .multianewarray 1 5), (17, true, .aload 0), (18, false, .invokeinterface 1 5), (21, false, .iconst 404), (24, false, .if_icmp .ge (Int.ofNat 107)), (27, false, .aload 0), (28, false, .iload 1), (29, false, .iload 2), (30, false, .iload 5), (32, false, .iload 6), (34, false, .invokestatic 0), (37, false, .istore 7), (39, false, .iload 7), (41, false, .iconst (-1)), (42, false, .if_icmp .ne (Int.ofNat 47)), (45, false, .iconst 0), (46, false, .ireturn), (47, false, .aload 0), (48, false, .dup), (49, false, .invokeinterface 1 4), (52, false, .iload 7), (54, false, .fadd), (55, false, .multianewarray 1 4), (58, false, .aload 0), (59, false, .invokeinterface 1 0), (62, false, .iload 1), (63, false, .iload 5), (65, false, .iload 6), (67, false, .iload 7), (69, false, .invokestatic 1), (72, false, .istore 6), (74, false, .iload 5), (76, false, .iload 6), (78, false, .fadd), (79, false, .istore 5), (81, false, .iload 6), (83, false, .ifCond .ne (Int.ofNat 94)), (86, false, .aload 0), (87, false, .iload 5), (89, false, .multianewarray 1 6), (92, false, .iconst 1), (93, false, .ireturn), (94, false, .aload 0), (95, false, .dup), (96, false, .invokeinterface 1 5), (99, false, .iconst 1), (100, false, .iadd), (101, false, .multianewarray 1 5), (104, false, .goto (Int.ofNat 17)), (107, false, .iconst 0), (108, false, .ireturn)]
def cq_follow : mq_C := ((yX1_follow, cX1_follow, 8, (some .boolean), { frames := 2, cells := 0, slots := 0, locals := 47 }), (5, 1, 0, 0), 1073741824, (fun as ρ μ => match ρ with
  | (nw, sp, tl, tx, al) => mq_pZ as 30 fun as => mq_pI as fun k as => mq_pI as fun p as => mq_pI as fun y as => mq_pI as fun v as => mq_p0 as (True)),
  (fun as ρ μ r ρ' μ' => match as, ρ, ρ' with
  | [.inr (.inr (some (_, _))), .inl k, .inl p, .inl y, .inl v], (nw, sp, tl, tx, al), (nw', sp', tl', tx', al') => [0 ≤ r, r ≤ 1]
  | _, _, _ => []))
def kq_follow : List mq_V → mq_R → mq_M → List mq_Cu := fun as ρ μ => match as, ρ with
  | [.inr (.inr (some (_, _))), .inl k, .inl p, .inl y, .inl v], (nw, sp, tl, tx, al) => [(17, [true, true, true, true, true, true, true, false], fun N l st ρ' μ' cs => mq_tZ l 30 fun l => mq_tI l fun v1 l => mq_tI l fun v2 l => mq_tI l fun v3 l => mq_tI l fun v4 l => mq_tI l fun v5 l => mq_tI l fun v6 l => mq_tN l fun l => mq_t0 l (st = [] ∧ ρ' = (nw, sp, tl, tx, al) ∧ cs = 0 ∧ v1 = k ∧ v2 = p ∧ v3 = y ∧ v4 = v ∧ 1 ≤ μ' (30, 0) 5 ∧ μ' (30, 0) 5 ≤ 404 ∧ 0 ≤ (404 - μ' (30, 0) 5 : Int) ∧ (404 - μ' (30, 0) 5 : Int) < (N : Int)))]
  | _, _ => []
set_option maxHeartbeats 16000000 in
set_option maxRecDepth 100000 in
theorem vq_follow (lc : Launch) (h_firstStep : mq_Ct lc cq_firstStep) (h_slowed : mq_Ct lc cq_slowed) : mq_Ct lc cq_follow := by
  refine mq_method (lc := lc) (P := pq_follow) (cl := [cq_firstStep, cq_slowed]) (T := ([(25, 1, 4), (29, 1, 5), (35, 1, 0), (32, 1, 6)], [], [], [(93, 0, 0), (97, 1, 0)], [], [])) (fuel := 400) (cuts := kq_follow) (by decide) rfl ⟨rfl, rfl⟩ (List.forall_mem_cons.mpr ⟨h_firstStep, (List.forall_mem_cons.mpr ⟨h_slowed, (fun _ h => absurd h List.not_mem_nil)⟩)⟩) ⟨(List.forall_mem_cons.mpr ⟨⟨_, rfl, by decide, kw_164⟩, (List.forall_mem_cons.mpr ⟨⟨_, rfl, by decide, kw_165⟩, (List.forall_mem_cons.mpr ⟨⟨_, rfl, by decide, kw_145⟩, (List.forall_mem_cons.mpr ⟨⟨_, rfl, by decide, kw_166⟩, (fun _ h => absurd h List.not_mem_nil)⟩)⟩)⟩)⟩), (fun _ h => absurd h List.not_mem_nil), (fun _ h => absurd h List.not_mem_nil), (List.forall_mem_cons.mpr ⟨mq_ml0 rfl mw0_firstStep kw_170, (List.forall_mem_cons.mpr ⟨mq_ml0 rfl mw0_slowed kw_174, (fun _ h => absurd h List.not_mem_nil)⟩)⟩), (fun _ h => absurd h List.not_mem_nil), (fun _ h => absurd h List.not_mem_nil)⟩ (by decide +kernel) ⟨_, _, rfl⟩ ?_ ?_ ?_ ?_
  · intro as ρ μ h
    obtain ⟨nw, sp, tl, tx, al⟩ := ρ
    obtain ⟨as0, rfl, h0⟩ := mq_pZ_spec h
    clear h
    obtain ⟨k, as1, rfl, h1⟩ := mq_pI_spec h0
    clear h0
    obtain ⟨p, as2, rfl, h2⟩ := mq_pI_spec h1
    clear h1
    obtain ⟨y, as3, rfl, h3⟩ := mq_pI_spec h2
    clear h2
    obtain ⟨v, as4, rfl, h4⟩ := mq_pI_spec h3
    clear h3
    obtain ⟨rfl, hp⟩ := mq_p0_spec h4
    clear h4
    rfl
  · intro as ρ μ h
    obtain ⟨nw, sp, tl, tx, al⟩ := ρ
    obtain ⟨as0, rfl, h0⟩ := mq_pZ_spec h
    clear h
    obtain ⟨k, as1, rfl, h1⟩ := mq_pI_spec h0
    clear h0
    obtain ⟨p, as2, rfl, h2⟩ := mq_pI_spec h1
    clear h1
    obtain ⟨y, as3, rfl, h3⟩ := mq_pI_spec h2
    clear h2
    obtain ⟨v, as4, rfl, h4⟩ := mq_pI_spec h3
    clear h3
    obtain ⟨rfl, hp⟩ := mq_p0_spec h4
    clear h4
    intro hrg
    obtain ⟨⟨ha1a, ha1b⟩, ⟨ha2a, ha2b⟩, ⟨ha3a, ha3b⟩, ⟨ha4a, ha4b⟩, -⟩ := hrg
    intro hbk
    have e0 : mq_l0 ([.inr (.inr (some (30, 0))), .inl k, .inl p, .inl y, .inl v] : List mq_V) 8 = [some (.inr (.inr (some (30, 0)))), some (.inl k), some (.inl p), some (.inl y), some (.inl v), none, none, none] := rfl
    rw [e0]
    repeat' (first | refine And.intro ?_ ?_ | intro _)
    all_goals first | omega | rfl | exact trivial | (simp [mq_up] at * <;> omega)
  · intro as ρ μ h
    obtain ⟨nw, sp, tl, tx, al⟩ := ρ
    obtain ⟨as0, rfl, h0⟩ := mq_pZ_spec h
    clear h
    obtain ⟨k, as1, rfl, h1⟩ := mq_pI_spec h0
    clear h0
    obtain ⟨p, as2, rfl, h2⟩ := mq_pI_spec h1
    clear h1
    obtain ⟨y, as3, rfl, h3⟩ := mq_pI_spec h2
    clear h2
    obtain ⟨v, as4, rfl, h4⟩ := mq_pI_spec h3
    clear h3
    obtain ⟨rfl, hp⟩ := mq_p0_spec h4
    clear h4
    refine List.forall_mem_cons.mpr ⟨?_, ?_⟩
    · intro l st ρ' μ' cs hJ
      obtain ⟨l0, rfl, hJ0⟩ := mq_tZ_spec hJ
      clear hJ
      obtain ⟨v1, l1, rfl, hJ1⟩ := mq_tI_spec hJ0
      clear hJ0
      obtain ⟨v2, l2, rfl, hJ2⟩ := mq_tI_spec hJ1
      clear hJ1
      obtain ⟨v3, l3, rfl, hJ3⟩ := mq_tI_spec hJ2
      clear hJ2
      obtain ⟨v4, l4, rfl, hJ4⟩ := mq_tI_spec hJ3
      clear hJ3
      obtain ⟨v5, l5, rfl, hJ5⟩ := mq_tI_spec hJ4
      clear hJ4
      obtain ⟨v6, l6, rfl, hJ6⟩ := mq_tI_spec hJ5
      clear hJ5
      obtain ⟨l7, rfl, hJ7⟩ := mq_tN_spec hJ6
      clear hJ6
      obtain ⟨rfl, hJz⟩ := mq_t0_spec hJ7
      clear hJ7
      obtain ⟨rfl, rfl, rfl, hc0, hc1, hc2, hc3, hc4, hc5, hm0, hm1⟩ := hJz
      omega
    exact fun _ h => absurd h List.not_mem_nil
  · intro as ρ μ h
    obtain ⟨nw, sp, tl, tx, al⟩ := ρ
    obtain ⟨as0, rfl, h0⟩ := mq_pZ_spec h
    clear h
    obtain ⟨k, as1, rfl, h1⟩ := mq_pI_spec h0
    clear h0
    obtain ⟨p, as2, rfl, h2⟩ := mq_pI_spec h1
    clear h1
    obtain ⟨y, as3, rfl, h3⟩ := mq_pI_spec h2
    clear h2
    obtain ⟨v, as4, rfl, h4⟩ := mq_pI_spec h3
    clear h3
    obtain ⟨rfl, hp⟩ := mq_p0_spec h4
    clear h4
    intro hrg
    obtain ⟨⟨ha1a, ha1b⟩, ⟨ha2a, ha2b⟩, ⟨ha3a, ha3b⟩, ⟨ha4a, ha4b⟩, -⟩ := hrg
    refine List.forall_mem_cons.mpr ⟨?_, ?_⟩
    · intro N l st ρ' μ' cs hJ
      obtain ⟨l0, rfl, hJ0⟩ := mq_tZ_spec hJ
      clear hJ
      obtain ⟨v1, l1, rfl, hJ1⟩ := mq_tI_spec hJ0
      clear hJ0
      obtain ⟨v2, l2, rfl, hJ2⟩ := mq_tI_spec hJ1
      clear hJ1
      obtain ⟨v3, l3, rfl, hJ3⟩ := mq_tI_spec hJ2
      clear hJ2
      obtain ⟨v4, l4, rfl, hJ4⟩ := mq_tI_spec hJ3
      clear hJ3
      obtain ⟨v5, l5, rfl, hJ5⟩ := mq_tI_spec hJ4
      clear hJ4
      obtain ⟨v6, l6, rfl, hJ6⟩ := mq_tI_spec hJ5
      clear hJ5
      obtain ⟨l7, rfl, hJ7⟩ := mq_tN_spec hJ6
      clear hJ6
      obtain ⟨rfl, hJz⟩ := mq_t0_spec hJ7
      clear hJ7
      obtain ⟨rfl, rfl, rfl, hc0, hc1, hc2, hc3, hc4, hc5, hm0, hm1⟩ := hJz
      intro hbk hrl
      obtain ⟨⟨hl1a, hl1b⟩, ⟨hl2a, hl2b⟩, ⟨hl3a, hl3b⟩, ⟨hl4a, hl4b⟩, ⟨hl5a, hl5b⟩, ⟨hl6a, hl6b⟩, -⟩ := hrl
      repeat' (first | refine And.intro ?_ ?_ | intro _)
      all_goals first | omega | rfl | exact trivial | (simp [mq_up] at * <;> omega)
    exact fun _ h => absurd h List.not_mem_nil
theorem mw0_follow : mq_mlA cq_follow 0 := ⟨kw_266, ⟨by decide +kernel, by decide +kernel⟩, by decide +kernel, kw_267, kw_268, kw_157, 30, by decide +kernel, fun as ρ μ h => by obtain ⟨nw, sp, tl, tx, al⟩ := ρ; obtain ⟨t, e, _⟩ := mq_pZ_spec h; exact ⟨0, t, e⟩⟩
