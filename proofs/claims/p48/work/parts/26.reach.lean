def pq_lesserX : List mq_E := [(0, false, .iload 0), (1, false, .iconst (-1)), (2, false, .if_icmp .ne (Int.ofNat 9)), (5, false, .iload 1), (6, false, .goto (Int.ofNat 14)), (9, false, .iload 0), (10, false, .iload 1), (11, false, .f2l), (14, false, .ireturn)]
def cq_lesserX : mq_C := ((yX4_lesser, cX4_lesser, 2, (some .int), { frames := 1, cells := 0, slots := 0, locals := 21 }), (2, 1, 0, 0), 0, (fun as ρ μ => match ρ with
  | (nw, sp, tl, tx, al) => mq_pI as fun a as => mq_pI as fun b as => mq_p0 as (True)),
  (fun as ρ μ r ρ' μ' => match as, ρ, ρ' with
  | [.inl a, .inl b], (nw, sp, tl, tx, al), (nw', sp', tl', tx', al') => []
  | _, _, _ => []))
def kq_lesserX : List mq_V → mq_R → mq_M → List mq_Cu := fun as ρ μ => match as, ρ with
  | [.inl a, .inl b], (nw, sp, tl, tx, al) => []
  | _, _ => []
set_option maxHeartbeats 16000000 in
set_option maxRecDepth 100000 in
theorem vq_lesserX (lc : Launch)  : mq_Ct lc cq_lesserX := by
  refine mq_method (lc := lc) (P := pq_lesserX) (cl := []) (T := ([], [], [], [], [], [(32, false)])) (fuel := 400) (cuts := kq_lesserX) (by decide) rfl ⟨rfl, rfl⟩ (fun _ h => absurd h List.not_mem_nil) ⟨(fun _ h => absurd h List.not_mem_nil), (fun _ h => absurd h List.not_mem_nil), (fun _ h => absurd h List.not_mem_nil), (fun _ h => absurd h List.not_mem_nil), (fun _ h => absurd h List.not_mem_nil), (List.forall_mem_cons.mpr ⟨⟨kw_175, kw_43, kw_44, kw_45⟩, (fun _ h => absurd h List.not_mem_nil)⟩)⟩ (by decide +kernel) ⟨_, _, rfl⟩ ?_ ?_ ?_ ?_
  · intro as ρ μ h
    obtain ⟨nw, sp, tl, tx, al⟩ := ρ
    obtain ⟨a, as0, rfl, h0⟩ := mq_pI_spec h
    clear h
    obtain ⟨b, as1, rfl, h1⟩ := mq_pI_spec h0
    clear h0
    obtain ⟨rfl, hp⟩ := mq_p0_spec h1
    clear h1
    rfl
  · intro as ρ μ h
    obtain ⟨nw, sp, tl, tx, al⟩ := ρ
    obtain ⟨a, as0, rfl, h0⟩ := mq_pI_spec h
    clear h
    obtain ⟨b, as1, rfl, h1⟩ := mq_pI_spec h0
    clear h0
    obtain ⟨rfl, hp⟩ := mq_p0_spec h1
    clear h1
    intro hrg
    obtain ⟨⟨ha0a, ha0b⟩, ⟨ha1a, ha1b⟩, -⟩ := hrg
    intro hbk
    have e0 : mq_l0 ([.inl a, .inl b] : List mq_V) 2 = [some (.inl a), some (.inl b)] := rfl
    rw [e0]
    repeat' (first | refine And.intro ?_ ?_ | intro _)
    all_goals first | omega | rfl | exact trivial | (simp [mq_up] at * <;> omega)
  · intro as ρ μ h
    obtain ⟨nw, sp, tl, tx, al⟩ := ρ
    obtain ⟨a, as0, rfl, h0⟩ := mq_pI_spec h
    clear h
    obtain ⟨b, as1, rfl, h1⟩ := mq_pI_spec h0
    clear h0
    obtain ⟨rfl, hp⟩ := mq_p0_spec h1
    clear h1
    exact fun _ h => absurd h List.not_mem_nil
  · intro as ρ μ h
    obtain ⟨nw, sp, tl, tx, al⟩ := ρ
    obtain ⟨a, as0, rfl, h0⟩ := mq_pI_spec h
    clear h
    obtain ⟨b, as1, rfl, h1⟩ := mq_pI_spec h0
    clear h0
    obtain ⟨rfl, hp⟩ := mq_p0_spec h1
    clear h1
    intro hrg
    obtain ⟨⟨ha0a, ha0b⟩, ⟨ha1a, ha1b⟩, -⟩ := hrg
    exact fun _ h => absurd h List.not_mem_nil
theorem mw1_lesserX : mq_mlA cq_lesserX 1 := ⟨kw_180, ⟨by decide +kernel, by decide +kernel⟩, by decide +kernel, kw_181, kw_182⟩
def pq_grown : List mq_E := [(0, false, .iload 1), (1, false, .iconst 1), (2, false, .if_icmp .ne (Int.ofNat 9)), (5, false, .iload 0), (6, false, .iconst 1), (7, false, .fadd), (8, false, .ireturn), (9, false, .iload 0), (10, false, .iload 1), (11, false, .ifCond .ne (Int.ofNat 18)), (14, false, .iload 2), (15, false, .goto (Int.ofNat 19)), (18, false, .iload 3), (19, false, .f2i), (22, false, .ireturn)]
def cq_grown : mq_C := ((yX4_grown, cX4_grown, 4, (some .int), { frames := 1, cells := 0, slots := 0, locals := 21 }), (4, 1, 0, 0), 0, (fun as ρ μ => match ρ with
  | (nw, sp, tl, tx, al) => mq_pI as fun a as => mq_pI as fun b as => mq_pI as fun c as => mq_pI as fun d as => mq_p0 as (True)),
  (fun as ρ μ r ρ' μ' => match as, ρ, ρ' with
  | [.inl a, .inl b, .inl c, .inl d], (nw, sp, tl, tx, al), (nw', sp', tl', tx', al') => []
  | _, _, _ => []))
def kq_grown : List mq_V → mq_R → mq_M → List mq_Cu := fun as ρ μ => match as, ρ with
  | [.inl a, .inl b, .inl c, .inl d], (nw, sp, tl, tx, al) => []
  | _, _ => []
set_option maxHeartbeats 16000000 in
set_option maxRecDepth 100000 in
theorem vq_grown (lc : Launch)  : mq_Ct lc cq_grown := by
  refine mq_method (lc := lc) (P := pq_grown) (cl := []) (T := ([], [], [], [], [], [(62, true)])) (fuel := 400) (cuts := kq_grown) (by decide) rfl ⟨rfl, rfl⟩ (fun _ h => absurd h List.not_mem_nil) ⟨(fun _ h => absurd h List.not_mem_nil), (fun _ h => absurd h List.not_mem_nil), (fun _ h => absurd h List.not_mem_nil), (fun _ h => absurd h List.not_mem_nil), (fun _ h => absurd h List.not_mem_nil), (List.forall_mem_cons.mpr ⟨⟨kw_176, kw_82, kw_44, kw_83⟩, (fun _ h => absurd h List.not_mem_nil)⟩)⟩ (by decide +kernel) ⟨_, _, rfl⟩ ?_ ?_ ?_ ?_
  · intro as ρ μ h
    obtain ⟨nw, sp, tl, tx, al⟩ := ρ
    obtain ⟨a, as0, rfl, h0⟩ := mq_pI_spec h
    clear h
    obtain ⟨b, as1, rfl, h1⟩ := mq_pI_spec h0
    clear h0
    obtain ⟨c, as2, rfl, h2⟩ := mq_pI_spec h1
    clear h1
    obtain ⟨d, as3, rfl, h3⟩ := mq_pI_spec h2
    clear h2
    obtain ⟨rfl, hp⟩ := mq_p0_spec h3
    clear h3
    rfl
  · intro as ρ μ h
    obtain ⟨nw, sp, tl, tx, al⟩ := ρ
    obtain ⟨a, as0, rfl, h0⟩ := mq_pI_spec h
    clear h
    obtain ⟨b, as1, rfl, h1⟩ := mq_pI_spec h0
    clear h0
    obtain ⟨c, as2, rfl, h2⟩ := mq_pI_spec h1
    clear h1
    obtain ⟨d, as3, rfl, h3⟩ := mq_pI_spec h2
    clear h2
    obtain ⟨rfl, hp⟩ := mq_p0_spec h3
    clear h3
    intro hrg
    obtain ⟨⟨ha0a, ha0b⟩, ⟨ha1a, ha1b⟩, ⟨ha2a, ha2b⟩, ⟨ha3a, ha3b⟩, -⟩ := hrg
    intro hbk
    have e0 : mq_l0 ([.inl a, .inl b, .inl c, .inl d] : List mq_V) 4 = [some (.inl a), some (.inl b), some (.inl c), some (.inl d)] := rfl
    rw [e0]
    repeat' (first | refine And.intro ?_ ?_ | intro _)
    all_goals first | omega | rfl | exact trivial | (simp [mq_up] at * <;> omega)
  · intro as ρ μ h
    obtain ⟨nw, sp, tl, tx, al⟩ := ρ
    obtain ⟨a, as0, rfl, h0⟩ := mq_pI_spec h
    clear h
    obtain ⟨b, as1, rfl, h1⟩ := mq_pI_spec h0
    clear h0
    obtain ⟨c, as2, rfl, h2⟩ := mq_pI_spec h1
    clear h1
    obtain ⟨d, as3, rfl, h3⟩ := mq_pI_spec h2
    clear h2
    obtain ⟨rfl, hp⟩ := mq_p0_spec h3
    clear h3
    exact fun _ h => absurd h List.not_mem_nil
  · intro as ρ μ h
    obtain ⟨nw, sp, tl, tx, al⟩ := ρ
    obtain ⟨a, as0, rfl, h0⟩ := mq_pI_spec h
    clear h
    obtain ⟨b, as1, rfl, h1⟩ := mq_pI_spec h0
    clear h0
    obtain ⟨c, as2, rfl, h2⟩ := mq_pI_spec h1
    clear h1
    obtain ⟨d, as3, rfl, h3⟩ := mq_pI_spec h2
    clear h2
    obtain ⟨rfl, hp⟩ := mq_p0_spec h3
    clear h3
    intro hrg
    obtain ⟨⟨ha0a, ha0b⟩, ⟨ha1a, ha1b⟩, ⟨ha2a, ha2b⟩, ⟨ha3a, ha3b⟩, -⟩ := hrg
    exact fun _ h => absurd h List.not_mem_nil
theorem mw1_grown : mq_mlA cq_grown 1 := ⟨kw_184, ⟨by decide +kernel, by decide +kernel⟩, by decide +kernel, kw_185, kw_182⟩
def pq_arrive : List mq_E := [(0, false, .iload 1), (1, false, .iload 4), (3, false, .if_icmp .le (Int.ofNat 7)), (6, false, .return_), (7, false, .iload 2), (8, false, .ifCond .ne (Int.ofNat 30)), (11, false, .aload 0), (12, false, .invokeinterface 4 1), (15, false, .iload 1), (16, false, .aload 0), (17, false, .invokeinterface 4 1), (20, false, .iload 1), (21, false, .iaload), (22, false, .iload 3), (23, false, .invokestatic 0), (26, false, .iastore), (27, false, .goto (Int.ofNat 67)), (30, false, .iload 1), (31, false, .iload 2), (32, false, .invokestatic 1), (35, false, .istore 5), (37, false, .aload 0), (38, false, .invokeinterface 4 0), (41, false, .iload 5), (43, false, .aload 0), (44, false, .invokeinterface 4 0), (47, false, .iload 5), (49, false, .iaload), (50, false, .iload 3), (51, false, .invokestatic 0), (54, false, .iastore), (55, false, .aload 0), (56, false, .aload 0), (57, false, .invokeinterface 4 2), (60, false, .iload 1), (61, false, .f2i), (64, false, .multianewarray 4 2), (67, false, .return_)]
def cq_arrive : mq_C := ((yX4_arrive, cX4_arrive, 6, none, { frames := 2, cells := 0, slots := 0, locals := 42 }), (5, 0, 0, 0), 120259084288, (fun as ρ μ => match ρ with
  | (nw, sp, tl, tx, al) => mq_pZ as 34 fun as => mq_pI as fun y as => mq_pI as fun v as => mq_pI as fun c as => mq_pI as fun e as => mq_p0 as (0 ≤ y ∧ 0 ≤ v ∧ v ≤ 15 ∧ e ≤ 400)),
  (fun as ρ μ r ρ' μ' => match as, ρ, ρ' with
  | [.inr (.inr (some (_, _))), .inl y, .inl v, .inl c, .inl e], (nw, sp, tl, tx, al), (nw', sp', tl', tx', al') => []
  | _, _, _ => []))
def kq_arrive : List mq_V → mq_R → mq_M → List mq_Cu := fun as ρ μ => match as, ρ with
  | [.inr (.inr (some (_, _))), .inl y, .inl v, .inl c, .inl e], (nw, sp, tl, tx, al) => []
  | _, _ => []
set_option maxHeartbeats 16000000 in
set_option maxRecDepth 100000 in
theorem vq_arrive (lc : Launch) (h_lesserX : mq_Ct lc cq_lesserX) (h_cellOf : mq_Ct lc cq_cellOf) : mq_Ct lc cq_arrive := by
  refine mq_method (lc := lc) (P := pq_arrive) (cl := [cq_lesserX, cq_cellOf]) (T := ([(15, 4, 1), (9, 4, 0), (18, 4, 2)], [], [], [(65, 0, 1), (38, 1, 2)], [], [(62, true)])) (fuel := 400) (cuts := kq_arrive) (by decide) rfl ⟨rfl, rfl⟩ (List.forall_mem_cons.mpr ⟨h_lesserX, (List.forall_mem_cons.mpr ⟨h_cellOf, (fun _ h => absurd h List.not_mem_nil)⟩)⟩) ⟨(List.forall_mem_cons.mpr ⟨⟨_, rfl, by decide, kw_177⟩, (List.forall_mem_cons.mpr ⟨⟨_, rfl, by decide, kw_178⟩, (List.forall_mem_cons.mpr ⟨⟨_, rfl, by decide, kw_179⟩, (fun _ h => absurd h List.not_mem_nil)⟩)⟩)⟩), (fun _ h => absurd h List.not_mem_nil), (fun _ h => absurd h List.not_mem_nil), (List.forall_mem_cons.mpr ⟨mq_ml1 rfl mw1_lesserX kw_183, (List.forall_mem_cons.mpr ⟨mq_ml2 rfl mw1_cellOf 12 rfl, (fun _ h => absurd h List.not_mem_nil)⟩)⟩), (fun _ h => absurd h List.not_mem_nil), (List.forall_mem_cons.mpr ⟨⟨kw_176, kw_82, kw_44, kw_83⟩, (fun _ h => absurd h List.not_mem_nil)⟩)⟩ (by decide +kernel) ⟨_, _, rfl⟩ ?_ ?_ ?_ ?_
  · intro as ρ μ h
    obtain ⟨nw, sp, tl, tx, al⟩ := ρ
    obtain ⟨as0, rfl, h0⟩ := mq_pZ_spec h
    clear h
    obtain ⟨y, as1, rfl, h1⟩ := mq_pI_spec h0
    clear h0
    obtain ⟨v, as2, rfl, h2⟩ := mq_pI_spec h1
    clear h1
    obtain ⟨c, as3, rfl, h3⟩ := mq_pI_spec h2
    clear h2
    obtain ⟨e, as4, rfl, h4⟩ := mq_pI_spec h3
    clear h3
    obtain ⟨rfl, hp⟩ := mq_p0_spec h4
    clear h4
    obtain ⟨hp0, hp1, hp2, hp3⟩ := hp
    rfl
  · intro as ρ μ h
    obtain ⟨nw, sp, tl, tx, al⟩ := ρ
    obtain ⟨as0, rfl, h0⟩ := mq_pZ_spec h
    clear h
    obtain ⟨y, as1, rfl, h1⟩ := mq_pI_spec h0
    clear h0
    obtain ⟨v, as2, rfl, h2⟩ := mq_pI_spec h1
    clear h1
    obtain ⟨c, as3, rfl, h3⟩ := mq_pI_spec h2
    clear h2
    obtain ⟨e, as4, rfl, h4⟩ := mq_pI_spec h3
    clear h3
    obtain ⟨rfl, hp⟩ := mq_p0_spec h4
    clear h4
    obtain ⟨hp0, hp1, hp2, hp3⟩ := hp
    intro hrg
    obtain ⟨⟨ha1a, ha1b⟩, ⟨ha2a, ha2b⟩, ⟨ha3a, ha3b⟩, ⟨ha4a, ha4b⟩, -⟩ := hrg
    intro hbk
    have e0 : mq_l0 ([.inr (.inr (some (34, 0))), .inl y, .inl v, .inl c, .inl e] : List mq_V) 6 = [some (.inr (.inr (some (34, 0)))), some (.inl y), some (.inl v), some (.inl c), some (.inl e), none] := rfl
    rw [e0]
    repeat' (first | refine And.intro ?_ ?_ | intro _)
    all_goals first | omega | rfl | exact trivial | (simp [mq_up] at * <;> omega)
  · intro as ρ μ h
    obtain ⟨nw, sp, tl, tx, al⟩ := ρ
    obtain ⟨as0, rfl, h0⟩ := mq_pZ_spec h
    clear h
    obtain ⟨y, as1, rfl, h1⟩ := mq_pI_spec h0
    clear h0
    obtain ⟨v, as2, rfl, h2⟩ := mq_pI_spec h1
    clear h1
    obtain ⟨c, as3, rfl, h3⟩ := mq_pI_spec h2
    clear h2
    obtain ⟨e, as4, rfl, h4⟩ := mq_pI_spec h3
    clear h3
    obtain ⟨rfl, hp⟩ := mq_p0_spec h4
    clear h4
    obtain ⟨hp0, hp1, hp2, hp3⟩ := hp
    exact fun _ h => absurd h List.not_mem_nil
  · intro as ρ μ h
    obtain ⟨nw, sp, tl, tx, al⟩ := ρ
    obtain ⟨as0, rfl, h0⟩ := mq_pZ_spec h
    clear h
    obtain ⟨y, as1, rfl, h1⟩ := mq_pI_spec h0
    clear h0
    obtain ⟨v, as2, rfl, h2⟩ := mq_pI_spec h1
    clear h1
    obtain ⟨c, as3, rfl, h3⟩ := mq_pI_spec h2
    clear h2
    obtain ⟨e, as4, rfl, h4⟩ := mq_pI_spec h3
    clear h3
    obtain ⟨rfl, hp⟩ := mq_p0_spec h4
    clear h4
    obtain ⟨hp0, hp1, hp2, hp3⟩ := hp
    intro hrg
    obtain ⟨⟨ha1a, ha1b⟩, ⟨ha2a, ha2b⟩, ⟨ha3a, ha3b⟩, ⟨ha4a, ha4b⟩, -⟩ := hrg
    exact fun _ h => absurd h List.not_mem_nil
theorem mw0_arrive : mq_mlA cq_arrive 0 := ⟨kw_187, ⟨by decide +kernel, by decide +kernel⟩, by decide +kernel, kw_188, kw_189, kw_182, 34, by decide +kernel, fun as ρ μ h => by obtain ⟨nw, sp, tl, tx, al⟩ := ρ; obtain ⟨t, e, _⟩ := mq_pZ_spec h; exact ⟨0, t, e⟩⟩
def pq_goOn : List mq_E := [(0, false, .iconst 1), (1, false, .istore 6), (3, true, .iload 6), (5, false, .iconst 15), (7, false, .if_icmp .gt (Int.ofNat 68)), (10, false, .aload 0), (11, false, .invokeinterface 4 0), (14, false, .iload 1), (15, false, .iload 6), (17, false, .invokestatic 0), (20, false, .iaload), (21, false, .istore 7), (23, false, .iload 7), (25, false, .iconst (-1)), (26, false, .if_icmp .eq (Int.ofNat 62)), (29, false, .iload 6), (31, false, .iload 3), (32, false, .invokestatic 1), (35, false, .istore 8), (37, false, .aload 0), (38, false, .iload 1), (39, false, .iload 8), (41, false, .iadd), (42, false, .iload 8), (44, false, .iload 7), (46, false, .iload 4), (48, false, .iload 2), (49, false, .iload 6), (51, false, .iload 8), (53, false, .isub), (54, false, .invokestatic 2), (57, false, .iload 5), (59, false, .invokestatic 3), (62, false, .iinc 6 1), (65, false, .goto (Int.ofNat 3)), (68, false, .return_)]
def cq_goOn : mq_C := ((yX4_goOn, cX4_goOn, 9, none, { frames := 3, cells := 0, slots := 0, locals := 67 }), (6, 0, 0, 0), 120259084288, (fun as ρ μ => match ρ with
  | (nw, sp, tl, tx, al) => mq_pZ as 34 fun as => mq_pI as fun y as => mq_pI as fun s as => mq_pI as fun t as => mq_pI as fun m as => mq_pI as fun e as => mq_p0 as (0 ≤ y ∧ y ≤ 400 ∧ e ≤ 400)),
  (fun as ρ μ r ρ' μ' => match as, ρ, ρ' with
  | [.inr (.inr (some (_, _))), .inl y, .inl s, .inl t, .inl m, .inl e], (nw, sp, tl, tx, al), (nw', sp', tl', tx', al') => []
  | _, _, _ => []))
def kq_goOn : List mq_V → mq_R → mq_M → List mq_Cu := fun as ρ μ => match as, ρ with
  | [.inr (.inr (some (_, _))), .inl y, .inl s, .inl t, .inl m, .inl e], (nw, sp, tl, tx, al) => [(3, [true, true, true, true, true, true, true, false, false], fun N l st ρ' μ' cs => mq_tZ l 34 fun l => mq_tI l fun v1 l => mq_tI l fun v2 l => mq_tI l fun v3 l => mq_tI l fun v4 l => mq_tI l fun v5 l => mq_tI l fun v6 l => mq_tN l fun l => mq_tN l fun l => mq_t0 l (st = [] ∧ ρ' = (nw, sp, tl, tx, al) ∧ cs = 0 ∧ v1 = y ∧ v2 = s ∧ v3 = t ∧ v4 = m ∧ v5 = e ∧ 1 ≤ v6 ∧ v6 ≤ 16 ∧ 0 ≤ (16 - v6 : Int) ∧ (16 - v6 : Int) < (N : Int)))]
  | _, _ => []
set_option maxHeartbeats 16000000 in
set_option maxRecDepth 100000 in
theorem vq_goOn (lc : Launch) (h_cellOf : mq_Ct lc cq_cellOf) (h_speedLess : mq_Ct lc cq_speedLess) (h_grown : mq_Ct lc cq_grown) (h_arrive : mq_Ct lc cq_arrive) : mq_Ct lc cq_goOn := by
  refine mq_method (lc := lc) (P := pq_goOn) (cl := [cq_cellOf, cq_speedLess, cq_grown, cq_arrive]) (T := ([(9, 4, 0)], [], [], [(38, 0, 2), (51, 1, 2), (54, 2, 1), (58, 3, 0)], [], [])) (fuel := 400) (cuts := kq_goOn) (by decide) rfl ⟨rfl, rfl⟩ (List.forall_mem_cons.mpr ⟨h_cellOf, (List.forall_mem_cons.mpr ⟨h_speedLess, (List.forall_mem_cons.mpr ⟨h_grown, (List.forall_mem_cons.mpr ⟨h_arrive, (fun _ h => absurd h List.not_mem_nil)⟩)⟩)⟩)⟩) ⟨(List.forall_mem_cons.mpr ⟨⟨_, rfl, by decide, kw_178⟩, (fun _ h => absurd h List.not_mem_nil)⟩), (fun _ h => absurd h List.not_mem_nil), (fun _ h => absurd h List.not_mem_nil), (List.forall_mem_cons.mpr ⟨mq_ml2 rfl mw1_cellOf 12 rfl, (List.forall_mem_cons.mpr ⟨mq_ml2 rfl mw1_speedLess 13 rfl, (List.forall_mem_cons.mpr ⟨mq_ml1 rfl mw1_grown kw_186, (List.forall_mem_cons.mpr ⟨mq_ml0 rfl mw0_arrive kw_190, (fun _ h => absurd h List.not_mem_nil)⟩)⟩)⟩)⟩), (fun _ h => absurd h List.not_mem_nil), (fun _ h => absurd h List.not_mem_nil)⟩ (by decide +kernel) ⟨_, _, rfl⟩ ?_ ?_ ?_ ?_
  · intro as ρ μ h
    obtain ⟨nw, sp, tl, tx, al⟩ := ρ
    obtain ⟨as0, rfl, h0⟩ := mq_pZ_spec h
    clear h
    obtain ⟨y, as1, rfl, h1⟩ := mq_pI_spec h0
    clear h0
    obtain ⟨s, as2, rfl, h2⟩ := mq_pI_spec h1
    clear h1
    obtain ⟨t, as3, rfl, h3⟩ := mq_pI_spec h2
    clear h2
    obtain ⟨m, as4, rfl, h4⟩ := mq_pI_spec h3
    clear h3
    obtain ⟨e, as5, rfl, h5⟩ := mq_pI_spec h4
    clear h4
    obtain ⟨rfl, hp⟩ := mq_p0_spec h5
    clear h5
    obtain ⟨hp0, hp1, hp2⟩ := hp
    rfl
  · intro as ρ μ h
    obtain ⟨nw, sp, tl, tx, al⟩ := ρ
    obtain ⟨as0, rfl, h0⟩ := mq_pZ_spec h
    clear h
    obtain ⟨y, as1, rfl, h1⟩ := mq_pI_spec h0
    clear h0
    obtain ⟨s, as2, rfl, h2⟩ := mq_pI_spec h1
    clear h1
    obtain ⟨t, as3, rfl, h3⟩ := mq_pI_spec h2
    clear h2
    obtain ⟨m, as4, rfl, h4⟩ := mq_pI_spec h3
    clear h3
    obtain ⟨e, as5, rfl, h5⟩ := mq_pI_spec h4
    clear h4
    obtain ⟨rfl, hp⟩ := mq_p0_spec h5
    clear h5
    obtain ⟨hp0, hp1, hp2⟩ := hp
    intro hrg
    obtain ⟨⟨ha1a, ha1b⟩, ⟨ha2a, ha2b⟩, ⟨ha3a, ha3b⟩, ⟨ha4a, ha4b⟩, ⟨ha5a, ha5b⟩, -⟩ := hrg
    intro hbk
    have e0 : mq_l0 ([.inr (.inr (some (34, 0))), .inl y, .inl s, .inl t, .inl m, .inl e] : List mq_V) 9 = [some (.inr (.inr (some (34, 0)))), some (.inl y), some (.inl s), some (.inl t), some (.inl m), some (.inl e), none, none, none] := rfl
    rw [e0]
    repeat' (first | refine And.intro ?_ ?_ | intro _)
    all_goals first | omega | rfl | exact trivial | (simp [mq_up] at * <;> omega)
  · intro as ρ μ h
    obtain ⟨nw, sp, tl, tx, al⟩ := ρ
    obtain ⟨as0, rfl, h0⟩ := mq_pZ_spec h
    clear h
    obtain ⟨y, as1, rfl, h1⟩ := mq_pI_spec h0
    clear h0
    obtain ⟨s, as2, rfl, h2⟩ := mq_pI_spec h1
    clear h1
    obtain ⟨t, as3, rfl, h3⟩ := mq_pI_spec h2
    clear h2
    obtain ⟨m, as4, rfl, h4⟩ := mq_pI_spec h3
    clear h3
    obtain ⟨e, as5, rfl, h5⟩ := mq_pI_spec h4
    clear h4
    obtain ⟨rfl, hp⟩ := mq_p0_spec h5
    clear h5
    obtain ⟨hp0, hp1, hp2⟩ := hp
    refine List.forall_mem_cons.mpr ⟨?_, ?_⟩
    · intro l st ρ' μ' cs hJ
      obtain ⟨l0, rfl, hJ0⟩ := mq_tZ_spec hJ
      clear hJ
      obtain ⟨v1, l1, rfl, hJ1⟩ := mq_tI_spec hJ0
      clear hJ0
      obtain ⟨v2, l2, rfl, hJ2⟩ := mq_tI_spec hJ1
      clear hJ1
      obtain ⟨v3, l3, rfl, hJ3⟩ := mq_tI_spec hJ2
      clear hJ2
      obtain ⟨v4, l4, rfl, hJ4⟩ := mq_tI_spec hJ3
      clear hJ3
      obtain ⟨v5, l5, rfl, hJ5⟩ := mq_tI_spec hJ4
      clear hJ4
      obtain ⟨v6, l6, rfl, hJ6⟩ := mq_tI_spec hJ5
      clear hJ5
      obtain ⟨l7, rfl, hJ7⟩ := mq_tN_spec hJ6
      clear hJ6
      obtain ⟨l8, rfl, hJ8⟩ := mq_tN_spec hJ7
      clear hJ7
      obtain ⟨rfl, hJz⟩ := mq_t0_spec hJ8
      clear hJ8
      obtain ⟨rfl, rfl, rfl, hc0, hc1, hc2, hc3, hc4, hc5, hc6, hm0, hm1⟩ := hJz
      omega
    exact fun _ h => absurd h List.not_mem_nil
  · intro as ρ μ h
    obtain ⟨nw, sp, tl, tx, al⟩ := ρ
    obtain ⟨as0, rfl, h0⟩ := mq_pZ_spec h
    clear h
    obtain ⟨y, as1, rfl, h1⟩ := mq_pI_spec h0
    clear h0
    obtain ⟨s, as2, rfl, h2⟩ := mq_pI_spec h1
    clear h1
    obtain ⟨t, as3, rfl, h3⟩ := mq_pI_spec h2
    clear h2
    obtain ⟨m, as4, rfl, h4⟩ := mq_pI_spec h3
    clear h3
    obtain ⟨e, as5, rfl, h5⟩ := mq_pI_spec h4
    clear h4
    obtain ⟨rfl, hp⟩ := mq_p0_spec h5
    clear h5
    obtain ⟨hp0, hp1, hp2⟩ := hp
    intro hrg
    obtain ⟨⟨ha1a, ha1b⟩, ⟨ha2a, ha2b⟩, ⟨ha3a, ha3b⟩, ⟨ha4a, ha4b⟩, ⟨ha5a, ha5b⟩, -⟩ := hrg
    refine List.forall_mem_cons.mpr ⟨?_, ?_⟩
    · intro N l st ρ' μ' cs hJ
      obtain ⟨l0, rfl, hJ0⟩ := mq_tZ_spec hJ
      clear hJ
      obtain ⟨v1, l1, rfl, hJ1⟩ := mq_tI_spec hJ0
      clear hJ0
      obtain ⟨v2, l2, rfl, hJ2⟩ := mq_tI_spec hJ1
      clear hJ1
      obtain ⟨v3, l3, rfl, hJ3⟩ := mq_tI_spec hJ2
      clear hJ2
      obtain ⟨v4, l4, rfl, hJ4⟩ := mq_tI_spec hJ3
      clear hJ3
      obtain ⟨v5, l5, rfl, hJ5⟩ := mq_tI_spec hJ4
      clear hJ4
      obtain ⟨v6, l6, rfl, hJ6⟩ := mq_tI_spec hJ5
      clear hJ5
      obtain ⟨l7, rfl, hJ7⟩ := mq_tN_spec hJ6
      clear hJ6
      obtain ⟨l8, rfl, hJ8⟩ := mq_tN_spec hJ7
      clear hJ7
      obtain ⟨rfl, hJz⟩ := mq_t0_spec hJ8
      clear hJ8
      obtain ⟨rfl, rfl, rfl, hc0, hc1, hc2, hc3, hc4, hc5, hc6, hm0, hm1⟩ := hJz
      intro hbk hrl
      obtain ⟨⟨hl1a, hl1b⟩, ⟨hl2a, hl2b⟩, ⟨hl3a, hl3b⟩, ⟨hl4a, hl4b⟩, ⟨hl5a, hl5b⟩, ⟨hl6a, hl6b⟩, -⟩ := hrl
      repeat' (first | refine And.intro ?_ ?_ | intro _)
      all_goals first | omega | rfl | exact trivial | (simp [mq_up] at * <;> omega)
    exact fun _ h => absurd h List.not_mem_nil
theorem mw0_goOn : mq_mlA cq_goOn 0 := ⟨kw_195, ⟨by decide +kernel, by decide +kernel⟩, by decide +kernel, kw_196, kw_197, kw_182, 34, by decide +kernel, fun as ρ μ h => by obtain ⟨nw, sp, tl, tx, al⟩ := ρ; obtain ⟨t, e, _⟩ := mq_pZ_spec h; exact ⟨0, t, e⟩⟩
def pq_least : List mq_E := [(0, false, .iconst (-1)), (1, false, .istore 3), (2, false, .iconst 0), (3, false, .iload 1), (4, false, .f2i), (7, false, .istore 4), (9, true, .iload 4), (11, false, .iload 2), (12, false, .if_icmp .gt (Int.ofNat 52)), (15, false, .iload 4), (17, false, .iconst 401), (20, false, .if_icmp .ge (Int.ofNat 52)), (23, false, .aload 0), (24, false, .invokeinterface 4 1), (27, false, .iload 4), (29, false, .iaload), (30, false, .iconst (-1)), (31, false, .if_icmp .eq (Int.ofNat 46)), (34, false, .iload 3), (35, false, .aload 0), (36, false, .invokeinterface 4 1), (39, false, .iload 4), (41, false, .iaload), (42, false, .invokestatic 0), (45, false, .istore 3), (46, false, .iinc 4 1), (49, false, .goto (Int.ofNat 9)), (52, false, .iload 3), (53, false, .ireturn)]
def cq_least : mq_C := ((yX4_least, cX4_least, 5, (some .int), { frames := 2, cells := 0, slots := 0, locals := 42 }), (3, 1, 0, 0), 0, (fun as ρ μ => match ρ with
  | (nw, sp, tl, tx, al) => mq_pZ as 34 fun as => mq_pI as fun a as => mq_pI as fun b as => mq_p0 as (True)),
  (fun as ρ μ r ρ' μ' => match as, ρ, ρ' with
  | [.inr (.inr (some (_, _))), .inl a, .inl b], (nw, sp, tl, tx, al), (nw', sp', tl', tx', al') => []
  | _, _, _ => []))
def kq_least : List mq_V → mq_R → mq_M → List mq_Cu := fun as ρ μ => match as, ρ with
  | [.inr (.inr (some (_, _))), .inl a, .inl b], (nw, sp, tl, tx, al) => [(9, [true, true, true, true, true], fun N l st ρ' μ' cs => mq_tZ l 34 fun l => mq_tI l fun v1 l => mq_tI l fun v2 l => mq_tI l fun v3 l => mq_tI l fun v4 l => mq_t0 l (st = [] ∧ ρ' = (nw, sp, tl, tx, al) ∧ cs = 0 ∧ v1 = a ∧ v2 = b ∧ 0 ≤ v4 ∧ v4 ≤ 2147483647 ∧ 0 ≤ (2147483647 - v4 : Int) ∧ (2147483647 - v4 : Int) < (N : Int)))]
  | _, _ => []
set_option maxHeartbeats 16000000 in
set_option maxRecDepth 100000 in
theorem vq_least (lc : Launch) (h_lesserX : mq_Ct lc cq_lesserX) : mq_Ct lc cq_least := by
  refine mq_method (lc := lc) (P := pq_least) (cl := [cq_lesserX]) (T := ([(15, 4, 1)], [], [], [(65, 0, 1)], [], [(62, true)])) (fuel := 400) (cuts := kq_least) (by decide) rfl ⟨rfl, rfl⟩ (List.forall_mem_cons.mpr ⟨h_lesserX, (fun _ h => absurd h List.not_mem_nil)⟩) ⟨(List.forall_mem_cons.mpr ⟨⟨_, rfl, by decide, kw_177⟩, (fun _ h => absurd h List.not_mem_nil)⟩), (fun _ h => absurd h List.not_mem_nil), (fun _ h => absurd h List.not_mem_nil), (List.forall_mem_cons.mpr ⟨mq_ml1 rfl mw1_lesserX kw_183, (fun _ h => absurd h List.not_mem_nil)⟩), (fun _ h => absurd h List.not_mem_nil), (List.forall_mem_cons.mpr ⟨⟨kw_176, kw_82, kw_44, kw_83⟩, (fun _ h => absurd h List.not_mem_nil)⟩)⟩ (by decide +kernel) ⟨_, _, rfl⟩ ?_ ?_ ?_ ?_
  · intro as ρ μ h
    obtain ⟨nw, sp, tl, tx, al⟩ := ρ
    obtain ⟨as0, rfl, h0⟩ := mq_pZ_spec h
    clear h
    obtain ⟨a, as1, rfl, h1⟩ := mq_pI_spec h0
    clear h0
    obtain ⟨b, as2, rfl, h2⟩ := mq_pI_spec h1
    clear h1
    obtain ⟨rfl, hp⟩ := mq_p0_spec h2
    clear h2
    rfl
  · intro as ρ μ h
    obtain ⟨nw, sp, tl, tx, al⟩ := ρ
    obtain ⟨as0, rfl, h0⟩ := mq_pZ_spec h
    clear h
    obtain ⟨a, as1, rfl, h1⟩ := mq_pI_spec h0
    clear h0
    obtain ⟨b, as2, rfl, h2⟩ := mq_pI_spec h1
    clear h1
    obtain ⟨rfl, hp⟩ := mq_p0_spec h2
    clear h2
    intro hrg
    obtain ⟨⟨ha1a, ha1b⟩, ⟨ha2a, ha2b⟩, -⟩ := hrg
    intro hbk
    have e0 : mq_l0 ([.inr (.inr (some (34, 0))), .inl a, .inl b] : List mq_V) 5 = [some (.inr (.inr (some (34, 0)))), some (.inl a), some (.inl b), none, none] := rfl
    rw [e0]
    repeat' (first | refine And.intro ?_ ?_ | intro _)
    all_goals first | omega | rfl | exact trivial | (simp [mq_up] at * <;> omega)
  · intro as ρ μ h
    obtain ⟨nw, sp, tl, tx, al⟩ := ρ
    obtain ⟨as0, rfl, h0⟩ := mq_pZ_spec h
    clear h
    obtain ⟨a, as1, rfl, h1⟩ := mq_pI_spec h0
    clear h0
    obtain ⟨b, as2, rfl, h2⟩ := mq_pI_spec h1
    clear h1
    obtain ⟨rfl, hp⟩ := mq_p0_spec h2
    clear h2
    refine List.forall_mem_cons.mpr ⟨?_, ?_⟩
    · intro l st ρ' μ' cs hJ
      obtain ⟨l0, rfl, hJ0⟩ := mq_tZ_spec hJ
      clear hJ
      obtain ⟨v1, l1, rfl, hJ1⟩ := mq_tI_spec hJ0
      clear hJ0
      obtain ⟨v2, l2, rfl, hJ2⟩ := mq_tI_spec hJ1
      clear hJ1
      obtain ⟨v3, l3, rfl, hJ3⟩ := mq_tI_spec hJ2
      clear hJ2
      obtain ⟨v4, l4, rfl, hJ4⟩ := mq_tI_spec hJ3
      clear hJ3
      obtain ⟨rfl, hJz⟩ := mq_t0_spec hJ4
      clear hJ4
      obtain ⟨rfl, rfl, rfl, hc0, hc1, hc2, hc3, hm0, hm1⟩ := hJz
      omega
    exact fun _ h => absurd h List.not_mem_nil
  · intro as ρ μ h
    obtain ⟨nw, sp, tl, tx, al⟩ := ρ
    obtain ⟨as0, rfl, h0⟩ := mq_pZ_spec h
    clear h
    obtain ⟨a, as1, rfl, h1⟩ := mq_pI_spec h0
    clear h0
    obtain ⟨b, as2, rfl, h2⟩ := mq_pI_spec h1
    clear h1
    obtain ⟨rfl, hp⟩ := mq_p0_spec h2
    clear h2
    intro hrg
    obtain ⟨⟨ha1a, ha1b⟩, ⟨ha2a, ha2b⟩, -⟩ := hrg
    refine List.forall_mem_cons.mpr ⟨?_, ?_⟩
    · intro N l st ρ' μ' cs hJ
      obtain ⟨l0, rfl, hJ0⟩ := mq_tZ_spec hJ
      clear hJ
      obtain ⟨v1, l1, rfl, hJ1⟩ := mq_tI_spec hJ0
      clear hJ0
      obtain ⟨v2, l2, rfl, hJ2⟩ := mq_tI_spec hJ1
      clear hJ1
      obtain ⟨v3, l3, rfl, hJ3⟩ := mq_tI_spec hJ2
      clear hJ2
      obtain ⟨v4, l4, rfl, hJ4⟩ := mq_tI_spec hJ3
      clear hJ3
      obtain ⟨rfl, hJz⟩ := mq_t0_spec hJ4
      clear hJ4
      obtain ⟨rfl, rfl, rfl, hc0, hc1, hc2, hc3, hm0, hm1⟩ := hJz
      intro hbk hrl
      obtain ⟨⟨hl1a, hl1b⟩, ⟨hl2a, hl2b⟩, ⟨hl3a, hl3b⟩, ⟨hl4a, hl4b⟩, -⟩ := hrl
      repeat' (first | refine And.intro ?_ ?_ | intro _)
      all_goals first | omega | rfl | exact trivial | (simp [mq_up] at * <;> omega)
    exact fun _ h => absurd h List.not_mem_nil
theorem mw0_least : mq_mlA cq_least 0 := ⟨kw_590, ⟨by decide +kernel, by decide +kernel⟩, by decide +kernel, kw_591, kw_592, kw_182, 34, by decide +kernel, fun as ρ μ h => by obtain ⟨nw, sp, tl, tx, al⟩ := ρ; obtain ⟨t, e, _⟩ := mq_pZ_spec h; exact ⟨0, t, e⟩⟩
def pq_spread : List mq_E := [(0, false, .aload 0), (1, false, .invokeinterface 4 0), (4, false, .iconst (-1)), (5, false, .invokestatic 0), (8, false, .aload 0), (9, false, .invokeinterface 4 1), (12, false, .iconst (-1)), (13, false, .invokestatic 1), (16, false, .iload 3), (17, false, .iconst 0), (18, false, .iconst 400), (21, false, .invokestatic 2), (24, false, .ifCond .eq (Int.ofNat 38)), (27, false, .iload 4), (29, false, .iconst 1), (30, false, .iconst 15), (32, false, .invokestatic 2), (35, false, .ifCond .ne (Int.ofNat 39)), (38, false, .return_), (39, false, .iconst 400), (42, false, .iload 6), (44, false, .f2l), (47, false, .istore 7), (49, false, .aload 0), (50, false, .invokeinterface 4 0), (53, false, .iload 3), (54, false, .iload 4), (56, false, .invokestatic 3), (59, false, .iconst 0), (60, false, .iastore), (61, false, .aload 0), (62, false, .iload 3), (63, false, .multianewarray 4 2), (66, false, .iload 3), (67, false, .istore 8), (69, true, .iload 8), (71, false, .aload 0), (72, false, .invokeinterface 4 2), (75, false, .if_icmp .gt (Int.ofNat 127)), (78, false, .iload 8), (80, false, .iload 7), (82, false, .if_icmp .gt (Int.ofNat 127)), (85, false, .iconst 0), (86, false, .istore 9), (88, true, .iload 9), (90, false, .iconst 4), (91, false, .if_icmp .ge (Int.ofNat 121)), (94, false, .aload 0), (95, false, .iload 8), (97, false, .iload 9), (99, false, .aload 1), (100, false, .iload 2), (101, false, .iload 8), (103, false, .iload 9), (105, false, .invokestatic 4), (108, false, .iload 5), (110, false, .iload 7), (112, false, .invokestatic 5), (115, false, .iinc 9 1), (118, false, .goto (Int.ofNat 88)), (121, false, .iinc 8 1), (124, false, .goto (Int.ofNat 69)), (127, false, .return_)]
def cq_spread : mq_C := ((yX4_spread, cX4_spread, 10, none, { frames := 4, cells := 0, slots := 0, locals := 95 }), (7, 0, 0, 0), 120259084288, (fun as ρ μ => match ρ with
  | (nw, sp, tl, tx, al) => mq_pZ as 34 fun as => mq_pZ as 25 fun as => mq_pI as fun k as => mq_pI as fun y as => mq_pI as fun v as => mq_pI as fun m as => mq_pI as fun e as => mq_p0 as (True)),
  (fun as ρ μ r ρ' μ' => match as, ρ, ρ' with
  | [.inr (.inr (some (_, _))), .inr (.inr (some (_, _))), .inl k, .inl y, .inl v, .inl m, .inl e], (nw, sp, tl, tx, al), (nw', sp', tl', tx', al') => []
  | _, _, _ => []))
def kq_spread : List mq_V → mq_R → mq_M → List mq_Cu := fun as ρ μ => match as, ρ with
  | [.inr (.inr (some (_, _))), .inr (.inr (some (_, _))), .inl k, .inl y, .inl v, .inl m, .inl e], (nw, sp, tl, tx, al) => [(69, [true, true, true, true, true, true, true, true, true, false], fun N l st ρ' μ' cs => mq_tZ l 34 fun l => mq_tZ l 25 fun l => mq_tI l fun v2 l => mq_tI l fun v3 l => mq_tI l fun v4 l => mq_tI l fun v5 l => mq_tI l fun v6 l => mq_tI l fun v7 l => mq_tI l fun v8 l => mq_tN l fun l => mq_t0 l (st = [] ∧ ρ' = (nw, sp, tl, tx, al) ∧ cs = 0 ∧ v2 = k ∧ v3 = y ∧ v4 = v ∧ v5 = m ∧ v6 = e ∧ 0 ≤ v8 ∧ v8 ≤ 401 ∧ v7 ≤ 400 ∧ 0 ≤ (10 * (401 - v8) : Int) ∧ (10 * (401 - v8) : Int) < (N : Int))),
    (88, [true, true, true, true, true, true, true, true, true, true], fun N l st ρ' μ' cs => mq_tZ l 34 fun l => mq_tZ l 25 fun l => mq_tI l fun v2 l => mq_tI l fun v3 l => mq_tI l fun v4 l => mq_tI l fun v5 l => mq_tI l fun v6 l => mq_tI l fun v7 l => mq_tI l fun v8 l => mq_tI l fun v9 l => mq_t0 l (st = [] ∧ ρ' = (nw, sp, tl, tx, al) ∧ cs = 0 ∧ v2 = k ∧ v3 = y ∧ v4 = v ∧ v5 = m ∧ v6 = e ∧ 0 ≤ v8 ∧ v8 ≤ 400 ∧ v7 ≤ 400 ∧ 0 ≤ v9 ∧ v9 ≤ 4 ∧ 0 ≤ (10 * (401 - v8) - 1 - v9 : Int) ∧ (10 * (401 - v8) - 1 - v9 : Int) < (N : Int)))]
  | _, _ => []
set_option maxHeartbeats 16000000 in
set_option maxRecDepth 100000 in
theorem vq_spread (lc : Launch) (h_fill35 : mq_Ct lc cq_fill35) (h_fill36 : mq_Ct lc cq_fill36) (h_isAmong : mq_Ct lc cq_isAmong) (h_cellOf : mq_Ct lc cq_cellOf) (h_takeOf : mq_Ct lc cq_takeOf) (h_goOn : mq_Ct lc cq_goOn) : mq_Ct lc cq_spread := by
  refine mq_method (lc := lc) (P := pq_spread) (cl := [cq_fill35, cq_fill36, cq_isAmong, cq_cellOf, cq_takeOf, cq_goOn]) (T := ([(9, 4, 0), (15, 4, 1), (18, 4, 2)], [], [], [(22, 0, 1), (22, 1, 1), (28, 2, 2), (38, 3, 2), (41, 4, 0), (47, 5, 0)], [], [(32, false)])) (fuel := 400) (cuts := kq_spread) (by decide) rfl ⟨rfl, rfl⟩ (List.forall_mem_cons.mpr ⟨h_fill35, (List.forall_mem_cons.mpr ⟨h_fill36, (List.forall_mem_cons.mpr ⟨h_isAmong, (List.forall_mem_cons.mpr ⟨h_cellOf, (List.forall_mem_cons.mpr ⟨h_takeOf, (List.forall_mem_cons.mpr ⟨h_goOn, (fun _ h => absurd h List.not_mem_nil)⟩)⟩)⟩)⟩)⟩)⟩) ⟨(List.forall_mem_cons.mpr ⟨⟨_, rfl, by decide, kw_178⟩, (List.forall_mem_cons.mpr ⟨⟨_, rfl, by decide, kw_177⟩, (List.forall_mem_cons.mpr ⟨⟨_, rfl, by decide, kw_179⟩, (fun _ h => absurd h List.not_mem_nil)⟩)⟩)⟩), (fun _ h => absurd h List.not_mem_nil), (fun _ h => absurd h List.not_mem_nil), (List.forall_mem_cons.mpr ⟨mq_ml1 rfl mw1_fill35 kw_193, (List.forall_mem_cons.mpr ⟨mq_ml1 rfl mw1_fill36 kw_193, (List.forall_mem_cons.mpr ⟨mq_ml2 rfl mw1_isAmong 11 rfl, (List.forall_mem_cons.mpr ⟨mq_ml2 rfl mw1_cellOf 12 rfl, (List.forall_mem_cons.mpr ⟨mq_ml0 rfl mw0_takeOf kw_194, (List.forall_mem_cons.mpr ⟨mq_ml0 rfl mw0_goOn kw_198, (fun _ h => absurd h List.not_mem_nil)⟩)⟩)⟩)⟩)⟩)⟩), (fun _ h => absurd h List.not_mem_nil), (List.forall_mem_cons.mpr ⟨⟨kw_175, kw_43, kw_44, kw_45⟩, (fun _ h => absurd h List.not_mem_nil)⟩)⟩ (by decide +kernel) ⟨_, _, rfl⟩ ?_ ?_ ?_ ?_
  · intro as ρ μ h
    obtain ⟨nw, sp, tl, tx, al⟩ := ρ
    obtain ⟨as0, rfl, h0⟩ := mq_pZ_spec h
    clear h
    obtain ⟨as1, rfl, h1⟩ := mq_pZ_spec h0
    clear h0
    obtain ⟨k, as2, rfl, h2⟩ := mq_pI_spec h1
    clear h1
    obtain ⟨y, as3, rfl, h3⟩ := mq_pI_spec h2
    clear h2
    obtain ⟨v, as4, rfl, h4⟩ := mq_pI_spec h3
    clear h3
    obtain ⟨m, as5, rfl, h5⟩ := mq_pI_spec h4
    clear h4
    obtain ⟨e, as6, rfl, h6⟩ := mq_pI_spec h5
    clear h5
    obtain ⟨rfl, hp⟩ := mq_p0_spec h6
    clear h6
    rfl
  · intro as ρ μ h
    obtain ⟨nw, sp, tl, tx, al⟩ := ρ
    obtain ⟨as0, rfl, h0⟩ := mq_pZ_spec h
    clear h
    obtain ⟨as1, rfl, h1⟩ := mq_pZ_spec h0
    clear h0
    obtain ⟨k, as2, rfl, h2⟩ := mq_pI_spec h1
    clear h1
    obtain ⟨y, as3, rfl, h3⟩ := mq_pI_spec h2
    clear h2
    obtain ⟨v, as4, rfl, h4⟩ := mq_pI_spec h3
    clear h3
    obtain ⟨m, as5, rfl, h5⟩ := mq_pI_spec h4
    clear h4
    obtain ⟨e, as6, rfl, h6⟩ := mq_pI_spec h5
    clear h5
    obtain ⟨rfl, hp⟩ := mq_p0_spec h6
    clear h6
    intro hrg
    obtain ⟨⟨ha2a, ha2b⟩, ⟨ha3a, ha3b⟩, ⟨ha4a, ha4b⟩, ⟨ha5a, ha5b⟩, ⟨ha6a, ha6b⟩, -⟩ := hrg
    intro hbk
    have e0 : mq_l0 ([.inr (.inr (some (34, 0))), .inr (.inr (some (25, 0))), .inl k, .inl y, .inl v, .inl m, .inl e] : List mq_V) 10 = [some (.inr (.inr (some (34, 0)))), some (.inr (.inr (some (25, 0)))), some (.inl k), some (.inl y), some (.inl v), some (.inl m), some (.inl e), none, none, none] := rfl
    rw [e0]
    repeat' (first | refine And.intro ?_ ?_ | intro _)
    all_goals first | omega | rfl | exact trivial | (simp [mq_up] at * <;> omega)
  · intro as ρ μ h
    obtain ⟨nw, sp, tl, tx, al⟩ := ρ
    obtain ⟨as0, rfl, h0⟩ := mq_pZ_spec h
    clear h
    obtain ⟨as1, rfl, h1⟩ := mq_pZ_spec h0
    clear h0
    obtain ⟨k, as2, rfl, h2⟩ := mq_pI_spec h1
    clear h1
    obtain ⟨y, as3, rfl, h3⟩ := mq_pI_spec h2
    clear h2
    obtain ⟨v, as4, rfl, h4⟩ := mq_pI_spec h3
    clear h3
    obtain ⟨m, as5, rfl, h5⟩ := mq_pI_spec h4
    clear h4
    obtain ⟨e, as6, rfl, h6⟩ := mq_pI_spec h5
    clear h5
    obtain ⟨rfl, hp⟩ := mq_p0_spec h6
    clear h6
    refine List.forall_mem_cons.mpr ⟨?_, ?_⟩
    · intro l st ρ' μ' cs hJ
      obtain ⟨l0, rfl, hJ0⟩ := mq_tZ_spec hJ
      clear hJ
      obtain ⟨l1, rfl, hJ1⟩ := mq_tZ_spec hJ0
      clear hJ0
      obtain ⟨v2, l2, rfl, hJ2⟩ := mq_tI_spec hJ1
      clear hJ1
      obtain ⟨v3, l3, rfl, hJ3⟩ := mq_tI_spec hJ2
      clear hJ2
      obtain ⟨v4, l4, rfl, hJ4⟩ := mq_tI_spec hJ3
      clear hJ3
      obtain ⟨v5, l5, rfl, hJ5⟩ := mq_tI_spec hJ4
      clear hJ4
      obtain ⟨v6, l6, rfl, hJ6⟩ := mq_tI_spec hJ5
      clear hJ5
      obtain ⟨v7, l7, rfl, hJ7⟩ := mq_tI_spec hJ6
      clear hJ6
      obtain ⟨v8, l8, rfl, hJ8⟩ := mq_tI_spec hJ7
      clear hJ7
      obtain ⟨l9, rfl, hJ9⟩ := mq_tN_spec hJ8
      clear hJ8
      obtain ⟨rfl, hJz⟩ := mq_t0_spec hJ9
      clear hJ9
      obtain ⟨rfl, rfl, rfl, hc0, hc1, hc2, hc3, hc4, hc5, hc6, hc7, hm0, hm1⟩ := hJz
      omega
    refine List.forall_mem_cons.mpr ⟨?_, ?_⟩
    · intro l st ρ' μ' cs hJ
      obtain ⟨l0, rfl, hJ0⟩ := mq_tZ_spec hJ
      clear hJ
      obtain ⟨l1, rfl, hJ1⟩ := mq_tZ_spec hJ0
      clear hJ0
      obtain ⟨v2, l2, rfl, hJ2⟩ := mq_tI_spec hJ1
      clear hJ1
      obtain ⟨v3, l3, rfl, hJ3⟩ := mq_tI_spec hJ2
      clear hJ2
      obtain ⟨v4, l4, rfl, hJ4⟩ := mq_tI_spec hJ3
      clear hJ3
      obtain ⟨v5, l5, rfl, hJ5⟩ := mq_tI_spec hJ4
      clear hJ4
      obtain ⟨v6, l6, rfl, hJ6⟩ := mq_tI_spec hJ5
      clear hJ5
      obtain ⟨v7, l7, rfl, hJ7⟩ := mq_tI_spec hJ6
      clear hJ6
      obtain ⟨v8, l8, rfl, hJ8⟩ := mq_tI_spec hJ7
      clear hJ7
      obtain ⟨v9, l9, rfl, hJ9⟩ := mq_tI_spec hJ8
      clear hJ8
      obtain ⟨rfl, hJz⟩ := mq_t0_spec hJ9
      clear hJ9
      obtain ⟨rfl, rfl, rfl, hc0, hc1, hc2, hc3, hc4, hc5, hc6, hc7, hc8, hc9, hm0, hm1⟩ := hJz
      omega
    exact fun _ h => absurd h List.not_mem_nil
  · intro as ρ μ h
    obtain ⟨nw, sp, tl, tx, al⟩ := ρ
    obtain ⟨as0, rfl, h0⟩ := mq_pZ_spec h
    clear h
    obtain ⟨as1, rfl, h1⟩ := mq_pZ_spec h0
    clear h0
    obtain ⟨k, as2, rfl, h2⟩ := mq_pI_spec h1
    clear h1
    obtain ⟨y, as3, rfl, h3⟩ := mq_pI_spec h2
    clear h2
    obtain ⟨v, as4, rfl, h4⟩ := mq_pI_spec h3
    clear h3
    obtain ⟨m, as5, rfl, h5⟩ := mq_pI_spec h4
    clear h4
    obtain ⟨e, as6, rfl, h6⟩ := mq_pI_spec h5
    clear h5
    obtain ⟨rfl, hp⟩ := mq_p0_spec h6
    clear h6
    intro hrg
    obtain ⟨⟨ha2a, ha2b⟩, ⟨ha3a, ha3b⟩, ⟨ha4a, ha4b⟩, ⟨ha5a, ha5b⟩, ⟨ha6a, ha6b⟩, -⟩ := hrg
    refine List.forall_mem_cons.mpr ⟨?_, ?_⟩
    · intro N l st ρ' μ' cs hJ
      obtain ⟨l0, rfl, hJ0⟩ := mq_tZ_spec hJ
      clear hJ
      obtain ⟨l1, rfl, hJ1⟩ := mq_tZ_spec hJ0
      clear hJ0
      obtain ⟨v2, l2, rfl, hJ2⟩ := mq_tI_spec hJ1
      clear hJ1
      obtain ⟨v3, l3, rfl, hJ3⟩ := mq_tI_spec hJ2
      clear hJ2
      obtain ⟨v4, l4, rfl, hJ4⟩ := mq_tI_spec hJ3
      clear hJ3
      obtain ⟨v5, l5, rfl, hJ5⟩ := mq_tI_spec hJ4
      clear hJ4
      obtain ⟨v6, l6, rfl, hJ6⟩ := mq_tI_spec hJ5
      clear hJ5
      obtain ⟨v7, l7, rfl, hJ7⟩ := mq_tI_spec hJ6
      clear hJ6
      obtain ⟨v8, l8, rfl, hJ8⟩ := mq_tI_spec hJ7
      clear hJ7
      obtain ⟨l9, rfl, hJ9⟩ := mq_tN_spec hJ8
      clear hJ8
      obtain ⟨rfl, hJz⟩ := mq_t0_spec hJ9
      clear hJ9
      obtain ⟨rfl, rfl, rfl, hc0, hc1, hc2, hc3, hc4, hc5, hc6, hc7, hm0, hm1⟩ := hJz
      intro hbk hrl
      obtain ⟨⟨hl2a, hl2b⟩, ⟨hl3a, hl3b⟩, ⟨hl4a, hl4b⟩, ⟨hl5a, hl5b⟩, ⟨hl6a, hl6b⟩, ⟨hl7a, hl7b⟩, ⟨hl8a, hl8b⟩, -⟩ := hrl
      repeat' (first | refine And.intro ?_ ?_ | intro _)
      all_goals first | omega | rfl | exact trivial | (simp [mq_up] at * <;> omega)
    refine List.forall_mem_cons.mpr ⟨?_, ?_⟩
    · intro N l st ρ' μ' cs hJ
      obtain ⟨l0, rfl, hJ0⟩ := mq_tZ_spec hJ
      clear hJ
      obtain ⟨l1, rfl, hJ1⟩ := mq_tZ_spec hJ0
      clear hJ0
      obtain ⟨v2, l2, rfl, hJ2⟩ := mq_tI_spec hJ1
      clear hJ1
      obtain ⟨v3, l3, rfl, hJ3⟩ := mq_tI_spec hJ2
      clear hJ2
      obtain ⟨v4, l4, rfl, hJ4⟩ := mq_tI_spec hJ3
      clear hJ3
      obtain ⟨v5, l5, rfl, hJ5⟩ := mq_tI_spec hJ4
      clear hJ4
      obtain ⟨v6, l6, rfl, hJ6⟩ := mq_tI_spec hJ5
      clear hJ5
      obtain ⟨v7, l7, rfl, hJ7⟩ := mq_tI_spec hJ6
      clear hJ6
      obtain ⟨v8, l8, rfl, hJ8⟩ := mq_tI_spec hJ7
      clear hJ7
      obtain ⟨v9, l9, rfl, hJ9⟩ := mq_tI_spec hJ8
      clear hJ8
      obtain ⟨rfl, hJz⟩ := mq_t0_spec hJ9
      clear hJ9
      obtain ⟨rfl, rfl, rfl, hc0, hc1, hc2, hc3, hc4, hc5, hc6, hc7, hc8, hc9, hm0, hm1⟩ := hJz
      intro hbk hrl
      obtain ⟨⟨hl2a, hl2b⟩, ⟨hl3a, hl3b⟩, ⟨hl4a, hl4b⟩, ⟨hl5a, hl5b⟩, ⟨hl6a, hl6b⟩, ⟨hl7a, hl7b⟩, ⟨hl8a, hl8b⟩, ⟨hl9a, hl9b⟩, -⟩ := hrl
      repeat' (first | refine And.intro ?_ ?_ | intro _)
      all_goals first | omega | rfl | exact trivial | (simp [mq_up] at * <;> omega)
    exact fun _ h => absurd h List.not_mem_nil
theorem mw0_spread : mq_mlA cq_spread 0 := ⟨kw_585, ⟨by decide +kernel, by decide +kernel⟩, by decide +kernel, kw_586, kw_587, kw_182, 34, by decide +kernel, fun as ρ μ h => by obtain ⟨nw, sp, tl, tx, al⟩ := ρ; obtain ⟨t, e, _⟩ := mq_pZ_spec h; exact ⟨0, t, e⟩⟩
