def pq_m_isAhead : List mq_E := [(0, false, .aload 0), (1, false, .invokeinterface 11 25), (4, false, .iconst 3), (5, false, .iload 1), (6, false, .imul), (7, false, .jsr 0), (8, false, .aload 0), (9, false, .invokeinterface 11 25), (12, false, .iconst 3), (13, false, .iload 2), (14, false, .imul), (15, false, .jsr 0), (16, false, .if_icmp .lt (Int.ofNat 43)), (19, false, .aload 0), (20, false, .invokeinterface 11 25), (23, false, .iconst 3), (24, false, .iload 1), (25, false, .imul), (26, false, .jsr 0), (27, false, .aload 0), (28, false, .invokeinterface 11 25), (31, false, .iconst 3), (32, false, .iload 2), (33, false, .imul), (34, false, .jsr 0), (35, false, .if_icmp .ne (Int.ofNat 47)), (38, false, .iload 1), (39, false, .iload 2), (40, false, .if_icmp .ge (Int.ofNat 47)), (43, false, .iconst 1), (44, false, .goto (Int.ofNat 48)), (47, false, .iconst 0), (48, false, .ireturn)]
def cq_m_isAhead : mq_C := ((yX11_isAhead, cX11_isAhead, 3, (some .boolean), { frames := 0, cells := 0, slots := 0, locals := 0 }), (3, 1, 0, 0), 0, (fun as ρ μ => match ρ with
  | (nw, sp, tl, tx, al) => mq_pZ as 60 fun as => mq_pI as fun t as => mq_pI as fun o as => mq_p0 as (0 ≤ t ∧ t ≤ 4 ∧ 0 ≤ o ∧ o ≤ 4)),
  (fun as ρ μ r ρ' μ' => match as, ρ, ρ' with
  | [.inr (.inr (some (_, _))), .inl t, .inl o], (nw, sp, tl, tx, al), (nw', sp', tl', tx', al') => [0 ≤ r, r ≤ 1]
  | _, _, _ => []))
def kq_m_isAhead : List mq_V → mq_R → mq_M → List mq_Cu := fun as ρ μ => match as, ρ with
  | [.inr (.inr (some (_, _))), .inl t, .inl o], (nw, sp, tl, tx, al) => []
  | _, _ => []
set_option maxHeartbeats 16000000 in
set_option maxRecDepth 100000 in
theorem vq_m_isAhead (lc : Launch)  : mq_Ct lc cq_m_isAhead := by
  refine mq_method (lc := lc) (P := pq_m_isAhead) (cl := []) (T := ([(58, 11, 25)], [], [], [], [], [])) (fuel := 400) (cuts := kq_m_isAhead) (by decide) rfl ⟨rfl, rfl⟩ (fun _ h => absurd h List.not_mem_nil) ⟨(List.forall_mem_cons.mpr ⟨⟨_, rfl, by decide, kw_840⟩, (fun _ h => absurd h List.not_mem_nil)⟩), (fun _ h => absurd h List.not_mem_nil), (fun _ h => absurd h List.not_mem_nil), (fun _ h => absurd h List.not_mem_nil), (fun _ h => absurd h List.not_mem_nil), (fun _ h => absurd h List.not_mem_nil)⟩ (by decide +kernel) ⟨_, _, rfl⟩ ?_ ?_ ?_ ?_
  · intro as ρ μ h
    obtain ⟨nw, sp, tl, tx, al⟩ := ρ
    obtain ⟨as0, rfl, h0⟩ := mq_pZ_spec h
    clear h
    obtain ⟨t, as1, rfl, h1⟩ := mq_pI_spec h0
    clear h0
    obtain ⟨o, as2, rfl, h2⟩ := mq_pI_spec h1
    clear h1
    obtain ⟨rfl, hp⟩ := mq_p0_spec h2
    clear h2
    obtain ⟨hp0, hp1, hp2, hp3⟩ := hp
    rfl
  · intro as ρ μ h
    obtain ⟨nw, sp, tl, tx, al⟩ := ρ
    obtain ⟨as0, rfl, h0⟩ := mq_pZ_spec h
    clear h
    obtain ⟨t, as1, rfl, h1⟩ := mq_pI_spec h0
    clear h0
    obtain ⟨o, as2, rfl, h2⟩ := mq_pI_spec h1
    clear h1
    obtain ⟨rfl, hp⟩ := mq_p0_spec h2
    clear h2
    obtain ⟨hp0, hp1, hp2, hp3⟩ := hp
    intro hrg
    obtain ⟨⟨ha1a, ha1b⟩, ⟨ha2a, ha2b⟩, -⟩ := hrg
    intro hbk
    have e0 : mq_l0 ([.inr (.inr (some (60, 0))), .inl t, .inl o] : List mq_V) 3 = [some (.inr (.inr (some (60, 0)))), some (.inl t), some (.inl o)] := rfl
    rw [e0]
    repeat' (first | refine And.intro ?_ ?_ | intro _)
    all_goals try simp only [Int.reduceToNat, Int.reduceAdd, mq_up_f, mq_up_s, mq_up_e, ne_eq, Nat.reduceEqDiff, not_false_eq_true, true_and, and_true, false_and, and_false, false_or, or_false, true_or, or_true, true_implies] at *
    all_goals first | omega | rfl | exact trivial | assumption
  · intro as ρ μ h
    obtain ⟨nw, sp, tl, tx, al⟩ := ρ
    obtain ⟨as0, rfl, h0⟩ := mq_pZ_spec h
    clear h
    obtain ⟨t, as1, rfl, h1⟩ := mq_pI_spec h0
    clear h0
    obtain ⟨o, as2, rfl, h2⟩ := mq_pI_spec h1
    clear h1
    obtain ⟨rfl, hp⟩ := mq_p0_spec h2
    clear h2
    obtain ⟨hp0, hp1, hp2, hp3⟩ := hp
    exact fun _ h => absurd h List.not_mem_nil
  · intro as ρ μ h
    obtain ⟨nw, sp, tl, tx, al⟩ := ρ
    obtain ⟨as0, rfl, h0⟩ := mq_pZ_spec h
    clear h
    obtain ⟨t, as1, rfl, h1⟩ := mq_pI_spec h0
    clear h0
    obtain ⟨o, as2, rfl, h2⟩ := mq_pI_spec h1
    clear h1
    obtain ⟨rfl, hp⟩ := mq_p0_spec h2
    clear h2
    obtain ⟨hp0, hp1, hp2, hp3⟩ := hp
    intro hrg
    obtain ⟨⟨ha1a, ha1b⟩, ⟨ha2a, ha2b⟩, -⟩ := hrg
    exact fun _ h => absurd h List.not_mem_nil
theorem mw0_m_isAhead : mq_mlA cq_m_isAhead 0 := ⟨kw_1019, ⟨by decide +kernel, by decide +kernel⟩, by decide +kernel, kw_1020, kw_1021, kw_771, 60, by decide +kernel, fun as ρ μ h => by obtain ⟨nw, sp, tl, tx, al⟩ := ρ; obtain ⟨t, e, _⟩ := mq_pZ_spec h; exact ⟨0, t, e⟩⟩
def pq_m_isInPlace : List mq_E := [(0, false, .aload 0), (1, false, .invokeinterface 11 44), (4, false, .iload 1), (5, false, .iaload), (6, false, .iconst (-1)), (7, false, .if_icmp .eq (Int.ofNat 42)), (10, false, .aload 0), (11, false, .aload 0), (12, false, .iload 1), (13, false, .invokestatic 0), (16, false, .aload 0), (17, false, .invokeinterface 11 26), (20, false, .iconst 5), (21, false, .iload 1), (22, false, .imul), (23, false, .iconst 2), (24, false, .iadd), (25, false, .jsr 2), (26, false, .aload 0), (27, false, .invokeinterface 11 42), (30, false, .iload 1), (31, false, .iaload), (32, false, .invokestatic 1), (35, false, .ifCond .eq (Int.ofNat 42)), (38, false, .iconst 1), (39, false, .goto (Int.ofNat 43)), (42, false, .iconst 0), (43, false, .ireturn)]
def cq_m_isInPlace : mq_C := ((yX11_isInPlace, cX11_isInPlace, 2, (some .boolean), { frames := 2, cells := 0, slots := 0, locals := 44 }), (2, 1, 0, 0), 0, (fun as ρ μ => match ρ with
  | (nw, sp, tl, tx, al) => mq_pZ as 60 fun as => mq_pI as fun c as => mq_p0 as (0 ≤ c ∧ c ≤ 15)),
  (fun as ρ μ r ρ' μ' => match as, ρ, ρ' with
  | [.inr (.inr (some (_, _))), .inl c], (nw, sp, tl, tx, al), (nw', sp', tl', tx', al') => [(r = 1 ∧ ¬ μ (89, 0) c.toNat = -1 ∧ μ (87, 0) c.toNat ≤ 400) ∨ r = 0]
  | _, _, _ => []))
def kq_m_isInPlace : List mq_V → mq_R → mq_M → List mq_Cu := fun as ρ μ => match as, ρ with
  | [.inr (.inr (some (_, _))), .inl c], (nw, sp, tl, tx, al) => []
  | _, _ => []
set_option maxHeartbeats 16000000 in
set_option maxRecDepth 100000 in
theorem vq_m_isInPlace (lc : Launch) (h_m_kindOf : mq_Ct lc cq_m_kindOf) (h_m_isInside : mq_Ct lc cq_m_isInside) : mq_Ct lc cq_m_isInPlace := by
  refine mq_method (lc := lc) (P := pq_m_isInPlace) (cl := [cq_m_kindOf, cq_m_isInside]) (T := ([(105, 11, 44), (61, 11, 26), (99, 11, 42)], [], [], [(398, 0, 0), (338, 1, 0)], [], [])) (fuel := 400) (cuts := kq_m_isInPlace) (by decide) rfl ⟨rfl, rfl⟩ (List.forall_mem_cons.mpr ⟨h_m_kindOf, (List.forall_mem_cons.mpr ⟨h_m_isInside, (fun _ h => absurd h List.not_mem_nil)⟩)⟩) ⟨(List.forall_mem_cons.mpr ⟨⟨_, rfl, by decide, kw_994⟩, (List.forall_mem_cons.mpr ⟨⟨_, rfl, by decide, kw_867⟩, (List.forall_mem_cons.mpr ⟨⟨_, rfl, by decide, kw_995⟩, (fun _ h => absurd h List.not_mem_nil)⟩)⟩)⟩), (fun _ h => absurd h List.not_mem_nil), (fun _ h => absurd h List.not_mem_nil), (List.forall_mem_cons.mpr ⟨mq_ml0 rfl mw0_m_kindOf kw_967, (List.forall_mem_cons.mpr ⟨mq_ml0 rfl mw0_m_isInside kw_906, (fun _ h => absurd h List.not_mem_nil)⟩)⟩), (fun _ h => absurd h List.not_mem_nil), (fun _ h => absurd h List.not_mem_nil)⟩ (by decide +kernel) ⟨_, _, rfl⟩ ?_ ?_ ?_ ?_
  · intro as ρ μ h
    obtain ⟨nw, sp, tl, tx, al⟩ := ρ
    obtain ⟨as0, rfl, h0⟩ := mq_pZ_spec h
    clear h
    obtain ⟨c, as1, rfl, h1⟩ := mq_pI_spec h0
    clear h0
    obtain ⟨rfl, hp⟩ := mq_p0_spec h1
    clear h1
    obtain ⟨hp0, hp1⟩ := hp
    rfl
  · intro as ρ μ h
    obtain ⟨nw, sp, tl, tx, al⟩ := ρ
    obtain ⟨as0, rfl, h0⟩ := mq_pZ_spec h
    clear h
    obtain ⟨c, as1, rfl, h1⟩ := mq_pI_spec h0
    clear h0
    obtain ⟨rfl, hp⟩ := mq_p0_spec h1
    clear h1
    obtain ⟨hp0, hp1⟩ := hp
    intro hrg
    obtain ⟨⟨ha1a, ha1b⟩, -⟩ := hrg
    intro hbk
    have e0 : mq_l0 ([.inr (.inr (some (60, 0))), .inl c] : List mq_V) 2 = [some (.inr (.inr (some (60, 0)))), some (.inl c)] := rfl
    rw [e0]
    repeat' (first | refine And.intro ?_ ?_ | intro _)
    all_goals try simp only [Int.reduceToNat, Int.reduceAdd, mq_up_f, mq_up_s, mq_up_e, ne_eq, Nat.reduceEqDiff, not_false_eq_true, true_and, and_true, false_and, and_false, false_or, or_false, true_or, or_true, true_implies] at *
    all_goals first | omega | rfl | exact trivial | assumption
  · intro as ρ μ h
    obtain ⟨nw, sp, tl, tx, al⟩ := ρ
    obtain ⟨as0, rfl, h0⟩ := mq_pZ_spec h
    clear h
    obtain ⟨c, as1, rfl, h1⟩ := mq_pI_spec h0
    clear h0
    obtain ⟨rfl, hp⟩ := mq_p0_spec h1
    clear h1
    obtain ⟨hp0, hp1⟩ := hp
    exact fun _ h => absurd h List.not_mem_nil
  · intro as ρ μ h
    obtain ⟨nw, sp, tl, tx, al⟩ := ρ
    obtain ⟨as0, rfl, h0⟩ := mq_pZ_spec h
    clear h
    obtain ⟨c, as1, rfl, h1⟩ := mq_pI_spec h0
    clear h0
    obtain ⟨rfl, hp⟩ := mq_p0_spec h1
    clear h1
    obtain ⟨hp0, hp1⟩ := hp
    intro hrg
    obtain ⟨⟨ha1a, ha1b⟩, -⟩ := hrg
    exact fun _ h => absurd h List.not_mem_nil
theorem mw0_m_isInPlace : mq_mlA cq_m_isInPlace 0 := ⟨kw_998, ⟨by decide +kernel, by decide +kernel⟩, by decide +kernel, kw_999, kw_1000, kw_771, 60, by decide +kernel, fun as ρ μ h => by obtain ⟨nw, sp, tl, tx, al⟩ := ρ; obtain ⟨t, e, _⟩ := mq_pZ_spec h; exact ⟨0, t, e⟩⟩
def pq_m_isOnLine : List mq_E := [(0, false, .aload 0), (1, false, .invokeinterface 11 39), (4, false, .iload 1), (5, false, .iaload), (6, false, .iconst (-1)), (7, false, .if_icmp .eq (Int.ofNat 31)), (10, false, .aload 0), (11, false, .invokeinterface 11 45), (14, false, .iload 1), (15, false, .baload), (16, false, .ifCond .ne (Int.ofNat 31)), (19, false, .aload 0), (20, false, .iload 1), (21, false, .invokestatic 0), (24, false, .ifCond .ne (Int.ofNat 31)), (27, false, .iconst 1), (28, false, .goto (Int.ofNat 32)), (31, false, .iconst 0), (32, false, .ireturn)]
def cq_m_isOnLine : mq_C := ((yX11_isOnLine, cX11_isOnLine, 2, (some .boolean), { frames := 3, cells := 0, slots := 0, locals := 65 }), (2, 1, 0, 0), 0, (fun as ρ μ => match ρ with
  | (nw, sp, tl, tx, al) => mq_pZ as 60 fun as => mq_pI as fun c as => mq_p0 as (0 ≤ c ∧ c ≤ 15)),
  (fun as ρ μ r ρ' μ' => match as, ρ, ρ' with
  | [.inr (.inr (some (_, _))), .inl c], (nw, sp, tl, tx, al), (nw', sp', tl', tx', al') => [0 ≤ r, r ≤ 1]
  | _, _, _ => []))
def kq_m_isOnLine : List mq_V → mq_R → mq_M → List mq_Cu := fun as ρ μ => match as, ρ with
  | [.inr (.inr (some (_, _))), .inl c], (nw, sp, tl, tx, al) => []
  | _, _ => []
set_option maxHeartbeats 16000000 in
set_option maxRecDepth 100000 in
theorem vq_m_isOnLine (lc : Launch) (h_m_isInPlace : mq_Ct lc cq_m_isInPlace) : mq_Ct lc cq_m_isOnLine := by
  refine mq_method (lc := lc) (P := pq_m_isOnLine) (cl := [cq_m_isInPlace]) (T := ([(90, 11, 39), (108, 11, 45)], [], [], [(440, 0, 0)], [], [])) (fuel := 400) (cuts := kq_m_isOnLine) (by decide) rfl ⟨rfl, rfl⟩ (List.forall_mem_cons.mpr ⟨h_m_isInPlace, (fun _ h => absurd h List.not_mem_nil)⟩) ⟨(List.forall_mem_cons.mpr ⟨⟨_, rfl, by decide, kw_996⟩, (List.forall_mem_cons.mpr ⟨⟨_, rfl, by decide, kw_997⟩, (fun _ h => absurd h List.not_mem_nil)⟩)⟩), (fun _ h => absurd h List.not_mem_nil), (fun _ h => absurd h List.not_mem_nil), (List.forall_mem_cons.mpr ⟨mq_ml0 rfl mw0_m_isInPlace kw_1001, (fun _ h => absurd h List.not_mem_nil)⟩), (fun _ h => absurd h List.not_mem_nil), (fun _ h => absurd h List.not_mem_nil)⟩ (by decide +kernel) ⟨_, _, rfl⟩ ?_ ?_ ?_ ?_
  · intro as ρ μ h
    obtain ⟨nw, sp, tl, tx, al⟩ := ρ
    obtain ⟨as0, rfl, h0⟩ := mq_pZ_spec h
    clear h
    obtain ⟨c, as1, rfl, h1⟩ := mq_pI_spec h0
    clear h0
    obtain ⟨rfl, hp⟩ := mq_p0_spec h1
    clear h1
    obtain ⟨hp0, hp1⟩ := hp
    rfl
  · intro as ρ μ h
    obtain ⟨nw, sp, tl, tx, al⟩ := ρ
    obtain ⟨as0, rfl, h0⟩ := mq_pZ_spec h
    clear h
    obtain ⟨c, as1, rfl, h1⟩ := mq_pI_spec h0
    clear h0
    obtain ⟨rfl, hp⟩ := mq_p0_spec h1
    clear h1
    obtain ⟨hp0, hp1⟩ := hp
    intro hrg
    obtain ⟨⟨ha1a, ha1b⟩, -⟩ := hrg
    intro hbk
    have e0 : mq_l0 ([.inr (.inr (some (60, 0))), .inl c] : List mq_V) 2 = [some (.inr (.inr (some (60, 0)))), some (.inl c)] := rfl
    rw [e0]
    repeat' (first | refine And.intro ?_ ?_ | intro _)
    all_goals try simp only [Int.reduceToNat, Int.reduceAdd, mq_up_f, mq_up_s, mq_up_e, ne_eq, Nat.reduceEqDiff, not_false_eq_true, true_and, and_true, false_and, and_false, false_or, or_false, true_or, or_true, true_implies] at *
    all_goals first | omega | rfl | exact trivial | assumption
  · intro as ρ μ h
    obtain ⟨nw, sp, tl, tx, al⟩ := ρ
    obtain ⟨as0, rfl, h0⟩ := mq_pZ_spec h
    clear h
    obtain ⟨c, as1, rfl, h1⟩ := mq_pI_spec h0
    clear h0
    obtain ⟨rfl, hp⟩ := mq_p0_spec h1
    clear h1
    obtain ⟨hp0, hp1⟩ := hp
    exact fun _ h => absurd h List.not_mem_nil
  · intro as ρ μ h
    obtain ⟨nw, sp, tl, tx, al⟩ := ρ
    obtain ⟨as0, rfl, h0⟩ := mq_pZ_spec h
    clear h
    obtain ⟨c, as1, rfl, h1⟩ := mq_pI_spec h0
    clear h0
    obtain ⟨rfl, hp⟩ := mq_p0_spec h1
    clear h1
    obtain ⟨hp0, hp1⟩ := hp
    intro hrg
    obtain ⟨⟨ha1a, ha1b⟩, -⟩ := hrg
    exact fun _ h => absurd h List.not_mem_nil
theorem mw0_m_isOnLine : mq_mlA cq_m_isOnLine 0 := ⟨kw_1023, ⟨by decide +kernel, by decide +kernel⟩, by decide +kernel, kw_1024, kw_1025, kw_771, 60, by decide +kernel, fun as ρ μ h => by obtain ⟨nw, sp, tl, tx, al⟩ := ρ; obtain ⟨t, e, _⟩ := mq_pZ_spec h; exact ⟨0, t, e⟩⟩
def pq_m_coachGoes : List mq_E := [(0, false, .aload 0), (1, false, .invokeinterface 11 39), (4, false, .iload 1), (5, false, .iaload), (6, false, .iconst (-1)), (7, false, .if_icmp .eq (Int.ofNat 29)), (10, false, .aload 0), (11, false, .invokeinterface 11 44), (14, false, .iload 1), (15, false, .iaload), (16, false, .iconst (-1)), (17, false, .if_icmp .ne (Int.ofNat 29)), (20, false, .aload 0), (21, false, .invokeinterface 11 45), (24, false, .iload 1), (25, false, .baload), (26, false, .ifCond .eq (Int.ofNat 30)), (29, false, .return_), (30, false, .aload 0), (31, false, .iload 1), (32, false, .aload 0), (33, false, .iload 1), (34, false, .invokestatic 0), (37, false, .aload 0), (38, false, .invokeinterface 11 26), (41, false, .iconst 5), (42, false, .iload 1), (43, false, .imul), (44, false, .iconst 2), (45, false, .iadd), (46, false, .jsr 2), (47, false, .aload 0), (48, false, .invokeinterface 11 42), (51, false, .iload 1), (52, false, .iaload), (53, false, .aload 0), (54, false, .invokeinterface 11 43), (57, false, .iload 1), (58, false, .iaload), (59, false, .invokestatic 1), (62, false, .istore 3), (63, false, .iload 3), (64, false, .iconst (-1)), (65, false, .if_icmp .ne (Int.ofNat 72)), (68, false, .iconst 3), (69, false, .goto (Int.ofNat 73)), (72, false, .iload 3), (73, false, .istore 3), (74, false, .aload 0), (75, false, .invokeinterface 11 43), (78, false, .iload 1), (79, false, .aload 0), (80, false, .aload 0), (81, false, .iload 1), (82, false, .invokestatic 0), (85, false, .aload 0), (86, false, .invokeinterface 11 42), (89, false, .iload 1), (90, false, .iaload), (91, false, .aload 0), (92, false, .invokeinterface 11 43), (95, false, .iload 1), (96, false, .iaload), (97, false, .aload 0), (98, false, .invokeinterface 11 47), (101, false, .iload 1), (102, false, .iaload), (103, false, .iconst 2), (104, false, .if_icmp .ne (Int.ofNat 113)), (107, false, .iload 3), (108, false, .iconst 1), (109, false, .isub), (110, false, .goto (Int.ofNat 114)), (113, false, .iload 3), (114, false, .invokestatic 2), (117, false, .iastore), (118, false, .aload 0), (119, false, .invokeinterface 11 42), (122, false, .iload 1), (123, false, .dup2), (124, false, .iaload), (125, false, .aload 0), (126, false, .invokeinterface 11 43), (129, false, .iload 1), (130, false, .iaload), (131, false, .iadd), (132, false, .iastore), (133, false, .aload 0), (134, false, .invokeinterface 11 43), (137, false, .iload 1), (138, false, .iaload), (139, false, .ifCond .ne (Int.ofNat 149)), (142, false, .aload 0), (143, false, .invokeinterface 11 44), (146, false, .iload 1), (147, false, .iload 2), (148, false, .iastore), (149, false, .aload 0), (150, false, .invokeinterface 11 45), (153, false, .iload 1), (154, false, .aload 0), (155, false, .invokeinterface 11 42), (158, false, .iload 1), (159, false, .iaload), (160, false, .aload 0), (161, false, .invokeinterface 11 17), (164, false, .iconst 0), (165, false, .iaload), (166, false, .if_icmp .le (Int.ofNat 173)), (169, false, .iconst 1), (170, false, .goto (Int.ofNat 174)), (173, false, .iconst 0), (174, false, .bastore), (175, false, .aload 0), (176, false, .invokeinterface 11 45), (179, false, .iload 1), (180, false, .baload), (181, false, .ifCond .eq (Int.ofNat 191)), (184, false, .aload 0), (185, false, .invokeinterface 11 46), (188, false, .iload 1), (189, false, .iload 2), (190, false, .iastore), (191, false, .return_)]
def cq_m_coachGoes : mq_C := ((yX11_coachGoes, cX11_coachGoes, 4, none, { frames := 5, cells := 0, slots := 0, locals := 130 }), (3, 0, 0, 0), 4797017652230848565234106368, (fun as ρ μ => match ρ with
  | (nw, sp, tl, tx, al) => mq_pZ as 60 fun as => mq_pI as fun c as => mq_pI as fun k as => mq_p0 as (0 ≤ c ∧ c ≤ 15 ∧ c < μ (69, 0) 6 ∧ 0 ≤ k ∧ k ≤ 1200 ∧ sq_bx (sq_T μ) ∧ sq_bx (sq_GC μ 16))),
  (fun as ρ μ r ρ' μ' => match as, ρ, ρ' with
  | [.inr (.inr (some (_, _))), .inl c, .inl k], (nw, sp, tl, tx, al), (nw', sp', tl', tx', al') => [sq_bx (sq_GC μ' 16)]
  | _, _, _ => []))
def kq_m_coachGoes : List mq_V → mq_R → mq_M → List mq_Cu := fun as ρ μ => match as, ρ with
  | [.inr (.inr (some (_, _))), .inl c, .inl k], (nw, sp, tl, tx, al) => []
  | _, _ => []
set_option maxHeartbeats 16000000 in
set_option maxRecDepth 100000 in
theorem vq_m_coachGoes (lc : Launch) (h_m_kindOf : mq_Ct lc cq_m_kindOf) (h_m_stepOf : mq_Ct lc cq_m_stepOf) (h_m_slowed : mq_Ct lc cq_m_slowed) : mq_Ct lc cq_m_coachGoes := by
  refine mq_method (lc := lc) (P := pq_m_coachGoes) (cl := [cq_m_kindOf, cq_m_stepOf, cq_m_slowed]) (T := ([(90, 11, 39), (105, 11, 44), (108, 11, 45), (61, 11, 26), (99, 11, 42), (102, 11, 43), (114, 11, 47), (34, 11, 17), (111, 11, 46)], [], [], [(398, 0, 0), (363, 1, 0), (327, 2, 0)], [], [])) (fuel := 400) (cuts := kq_m_coachGoes) (by decide) rfl ⟨rfl, rfl⟩ (List.forall_mem_cons.mpr ⟨h_m_kindOf, (List.forall_mem_cons.mpr ⟨h_m_stepOf, (List.forall_mem_cons.mpr ⟨h_m_slowed, (fun _ h => absurd h List.not_mem_nil)⟩)⟩)⟩) ⟨(List.forall_mem_cons.mpr ⟨⟨_, rfl, by decide, kw_996⟩, (List.forall_mem_cons.mpr ⟨⟨_, rfl, by decide, kw_994⟩, (List.forall_mem_cons.mpr ⟨⟨_, rfl, by decide, kw_997⟩, (List.forall_mem_cons.mpr ⟨⟨_, rfl, by decide, kw_867⟩, (List.forall_mem_cons.mpr ⟨⟨_, rfl, by decide, kw_995⟩, (List.forall_mem_cons.mpr ⟨⟨_, rfl, by decide, kw_1002⟩, (List.forall_mem_cons.mpr ⟨⟨_, rfl, by decide, kw_968⟩, (List.forall_mem_cons.mpr ⟨⟨_, rfl, by decide, kw_832⟩, (List.forall_mem_cons.mpr ⟨⟨_, rfl, by decide, kw_1003⟩, (fun _ h => absurd h List.not_mem_nil)⟩)⟩)⟩)⟩)⟩)⟩)⟩)⟩)⟩), (fun _ h => absurd h List.not_mem_nil), (fun _ h => absurd h List.not_mem_nil), (List.forall_mem_cons.mpr ⟨mq_ml0 rfl mw0_m_kindOf kw_967, (List.forall_mem_cons.mpr ⟨mq_ml0 rfl mw0_m_stepOf kw_933, (List.forall_mem_cons.mpr ⟨mq_ml0 rfl mw0_m_slowed kw_895, (fun _ h => absurd h List.not_mem_nil)⟩)⟩)⟩), (fun _ h => absurd h List.not_mem_nil), (fun _ h => absurd h List.not_mem_nil)⟩ (by decide +kernel) ⟨_, _, rfl⟩ ?_ ?_ ?_ ?_
  · intro as ρ μ h
    obtain ⟨nw, sp, tl, tx, al⟩ := ρ
    obtain ⟨as0, rfl, h0⟩ := mq_pZ_spec h
    clear h
    obtain ⟨c, as1, rfl, h1⟩ := mq_pI_spec h0
    clear h0
    obtain ⟨k, as2, rfl, h2⟩ := mq_pI_spec h1
    clear h1
    obtain ⟨rfl, hp⟩ := mq_p0_spec h2
    clear h2
    obtain ⟨hp0, hp1, hp2, hp3, hp4, hp5, hp6⟩ := hp
    rfl
  · intro as ρ μ h
    obtain ⟨nw, sp, tl, tx, al⟩ := ρ
    obtain ⟨as0, rfl, h0⟩ := mq_pZ_spec h
    clear h
    obtain ⟨c, as1, rfl, h1⟩ := mq_pI_spec h0
    clear h0
    obtain ⟨k, as2, rfl, h2⟩ := mq_pI_spec h1
    clear h1
    obtain ⟨rfl, hp⟩ := mq_p0_spec h2
    clear h2
    obtain ⟨hp0, hp1, hp2, hp3, hp4, hp5, hp6⟩ := hp
    intro hrg
    obtain ⟨⟨ha1a, ha1b⟩, ⟨ha2a, ha2b⟩, -⟩ := hrg
    intro hbk
    have hk0 : 0 ≤ μ (67, 0) 0 ∧ μ (67, 0) 0 ≤ 400 := hbk (67, 0) 0
    have e0 : mq_l0 ([.inr (.inr (some (60, 0))), .inl c, .inl k] : List mq_V) 4 = [some (.inr (.inr (some (60, 0)))), some (.inl c), some (.inl k), none] := rfl
    rw [e0]
    have h0 := sq_g hp6 c (by omega) (by omega)
    have hT := (sq_g hp5).2 c (by omega) (by omega)
    unfold sq_gc1 at h0
    repeat' (first | refine And.intro ?_ ?_ | intro _)
    all_goals try simp only [Int.reduceToNat, Int.reduceAdd, mq_up_f, mq_up_s, mq_up_e, ne_eq, Nat.reduceEqDiff, not_false_eq_true, true_and, and_true, false_and, and_false, false_or, or_false, true_or, or_true, true_implies] at *
    all_goals first | omega | rfl | exact trivial | assumption | (subst_vars; exact sq_m hT) | exact sq_m (fun d d0 d1 => sq_GC_set' (c := c) (sq_g hp6) (by omega) (by simp [mq_up_f]) (fun x hx => by simp [mq_up_f, mq_up_s, hx]) (by unfold sq_gc1; simp only [mq_up_f, mq_up_e, ne_eq, Nat.reduceEqDiff, not_false_eq_true]; omega) d d0 (Or.inl d1))
  · intro as ρ μ h
    obtain ⟨nw, sp, tl, tx, al⟩ := ρ
    obtain ⟨as0, rfl, h0⟩ := mq_pZ_spec h
    clear h
    obtain ⟨c, as1, rfl, h1⟩ := mq_pI_spec h0
    clear h0
    obtain ⟨k, as2, rfl, h2⟩ := mq_pI_spec h1
    clear h1
    obtain ⟨rfl, hp⟩ := mq_p0_spec h2
    clear h2
    obtain ⟨hp0, hp1, hp2, hp3, hp4, hp5, hp6⟩ := hp
    exact fun _ h => absurd h List.not_mem_nil
  · intro as ρ μ h
    obtain ⟨nw, sp, tl, tx, al⟩ := ρ
    obtain ⟨as0, rfl, h0⟩ := mq_pZ_spec h
    clear h
    obtain ⟨c, as1, rfl, h1⟩ := mq_pI_spec h0
    clear h0
    obtain ⟨k, as2, rfl, h2⟩ := mq_pI_spec h1
    clear h1
    obtain ⟨rfl, hp⟩ := mq_p0_spec h2
    clear h2
    obtain ⟨hp0, hp1, hp2, hp3, hp4, hp5, hp6⟩ := hp
    intro hrg
    obtain ⟨⟨ha1a, ha1b⟩, ⟨ha2a, ha2b⟩, -⟩ := hrg
    exact fun _ h => absurd h List.not_mem_nil
theorem mw0_m_coachGoes : mq_mlA cq_m_coachGoes 0 := ⟨kw_1034, ⟨by decide +kernel, by decide +kernel⟩, by decide +kernel, kw_1035, kw_1036, kw_771, 60, by decide +kernel, fun as ρ μ h => by obtain ⟨nw, sp, tl, tx, al⟩ := ρ; obtain ⟨t, e, _⟩ := mq_pZ_spec h; exact ⟨0, t, e⟩⟩
def pq_m_letsGo : List mq_E := [(0, false, .aload 0), (1, false, .invokeinterface 11 37), (4, false, .iload 2), (5, false, .dup2), (6, false, .iaload), (7, false, .iconst 1), (8, false, .isub), (9, false, .iastore), (10, false, .aload 0), (11, false, .invokeinterface 11 39), (14, false, .iload 1), (15, false, .iload 3), (16, false, .iastore), (17, false, .aload 0), (18, false, .invokeinterface 11 40), (21, false, .iload 1), (22, false, .aload 0), (23, false, .invokeinterface 11 36), (26, false, .iload 2), (27, false, .iaload), (28, false, .aload 0), (29, false, .iload 2), (30, false, .aload 0), (31, false, .invokeinterface 11 37), (34, false, .iload 2), (35, false, .iaload), (36, false, .invokestatic 0), (39, false, .isub), (40, false, .iastore), (41, false, .aload 0), (42, false, .invokeinterface 11 41), (45, false, .iload 1), (46, false, .iload 4), (48, false, .iastore), (49, false, .aload 0), (50, false, .invokeinterface 11 42), (53, false, .iload 1), (54, false, .aload 0), (55, false, .invokeinterface 11 40), (58, false, .iload 1), (59, false, .iaload), (60, false, .iastore), (61, false, .aload 0), (62, false, .invokeinterface 11 43), (65, false, .iload 1), (66, false, .iload 4), (68, false, .iastore), (69, false, .aload 0), (70, false, .invokeinterface 11 45), (73, false, .iload 1), (74, false, .aload 0), (75, false, .invokeinterface 11 42), (78, false, .iload 1), (79, false, .iaload), (80, false, .aload 0), (81, false, .invokeinterface 11 17), (84, false, .iconst 0), (85, false, .iaload), (86, false, .if_icmp .le (Int.ofNat 93)), (89, false, .iconst 1), (90, false, .goto (Int.ofNat 94)), (93, false, .iconst 0), (94, false, .bastore), (95, false, .aload 0), (96, false, .invokeinterface 11 46), (99, false, .iload 1), (100, false, .iload 3), (101, false, .iastore), (102, false, .return_)]
def cq_m_letsGo : mq_C := ((yX11_letsGo, cX11_letsGo, 5, none, { frames := 2, cells := 0, slots := 0, locals := 47 }), (5, 0, 0, 0), 4318283027663455412050460672, (fun as ρ μ => match ρ with
  | (nw, sp, tl, tx, al) => mq_pZ as 60 fun as => mq_pI as fun c as => mq_pI as fun t as => mq_pI as fun k as => mq_pI as fun v as => mq_p0 as (0 ≤ c ∧ c ≤ 15 ∧ 0 ≤ t ∧ t ≤ 4 ∧ 0 ≤ k ∧ k ≤ 1200 ∧ 1 ≤ v ∧ v ≤ 15 ∧ 1 ≤ μ (82, 0) t.toNat ∧ sq_bx (sq_J μ t))),
  (fun as ρ μ r ρ' μ' => match as, ρ, ρ' with
  | [.inr (.inr (some (_, _))), .inl c, .inl t, .inl k, .inl v], (nw, sp, tl, tx, al), (nw', sp', tl', tx', al') => [μ' (82, 0) t.toNat = μ (82, 0) t.toNat - 1, sq_bx (sq_J μ' t)]
  | _, _, _ => []))
def kq_m_letsGo : List mq_V → mq_R → mq_M → List mq_Cu := fun as ρ μ => match as, ρ with
  | [.inr (.inr (some (_, _))), .inl c, .inl t, .inl k, .inl v], (nw, sp, tl, tx, al) => []
  | _, _ => []
set_option maxHeartbeats 16000000 in
set_option maxRecDepth 100000 in
theorem vq_m_letsGo (lc : Launch) (h_m_longOf : mq_Ct lc cq_m_longOf) : mq_Ct lc cq_m_letsGo := by
  refine mq_method (lc := lc) (P := pq_m_letsGo) (cl := [cq_m_longOf]) (T := ([(84, 11, 37), (90, 11, 39), (93, 11, 40), (81, 11, 36), (96, 11, 41), (99, 11, 42), (102, 11, 43), (108, 11, 45), (34, 11, 17), (111, 11, 46)], [], [], [(425, 0, 0)], [], [])) (fuel := 400) (cuts := kq_m_letsGo) (by decide) rfl ⟨rfl, rfl⟩ (List.forall_mem_cons.mpr ⟨h_m_longOf, (fun _ h => absurd h List.not_mem_nil)⟩) ⟨(List.forall_mem_cons.mpr ⟨⟨_, rfl, by decide, kw_1004⟩, (List.forall_mem_cons.mpr ⟨⟨_, rfl, by decide, kw_996⟩, (List.forall_mem_cons.mpr ⟨⟨_, rfl, by decide, kw_1005⟩, (List.forall_mem_cons.mpr ⟨⟨_, rfl, by decide, kw_1006⟩, (List.forall_mem_cons.mpr ⟨⟨_, rfl, by decide, kw_1007⟩, (List.forall_mem_cons.mpr ⟨⟨_, rfl, by decide, kw_995⟩, (List.forall_mem_cons.mpr ⟨⟨_, rfl, by decide, kw_1002⟩, (List.forall_mem_cons.mpr ⟨⟨_, rfl, by decide, kw_997⟩, (List.forall_mem_cons.mpr ⟨⟨_, rfl, by decide, kw_832⟩, (List.forall_mem_cons.mpr ⟨⟨_, rfl, by decide, kw_1003⟩, (fun _ h => absurd h List.not_mem_nil)⟩)⟩)⟩)⟩)⟩)⟩)⟩)⟩)⟩)⟩), (fun _ h => absurd h List.not_mem_nil), (fun _ h => absurd h List.not_mem_nil), (List.forall_mem_cons.mpr ⟨mq_ml0 rfl mw0_m_longOf kw_982, (fun _ h => absurd h List.not_mem_nil)⟩), (fun _ h => absurd h List.not_mem_nil), (fun _ h => absurd h List.not_mem_nil)⟩ (by decide +kernel) ⟨_, _, rfl⟩ ?_ ?_ ?_ ?_
  · intro as ρ μ h
    obtain ⟨nw, sp, tl, tx, al⟩ := ρ
    obtain ⟨as0, rfl, h0⟩ := mq_pZ_spec h
    clear h
    obtain ⟨c, as1, rfl, h1⟩ := mq_pI_spec h0
    clear h0
    obtain ⟨t, as2, rfl, h2⟩ := mq_pI_spec h1
    clear h1
    obtain ⟨k, as3, rfl, h3⟩ := mq_pI_spec h2
    clear h2
    obtain ⟨v, as4, rfl, h4⟩ := mq_pI_spec h3
    clear h3
    obtain ⟨rfl, hp⟩ := mq_p0_spec h4
    clear h4
    obtain ⟨hp0, hp1, hp2, hp3, hp4, hp5, hp6, hp7, hp8, hp9⟩ := hp
    rfl
  · intro as ρ μ h
    obtain ⟨nw, sp, tl, tx, al⟩ := ρ
    obtain ⟨as0, rfl, h0⟩ := mq_pZ_spec h
    clear h
    obtain ⟨c, as1, rfl, h1⟩ := mq_pI_spec h0
    clear h0
    obtain ⟨t, as2, rfl, h2⟩ := mq_pI_spec h1
    clear h1
    obtain ⟨k, as3, rfl, h3⟩ := mq_pI_spec h2
    clear h2
    obtain ⟨v, as4, rfl, h4⟩ := mq_pI_spec h3
    clear h3
    obtain ⟨rfl, hp⟩ := mq_p0_spec h4
    clear h4
    obtain ⟨hp0, hp1, hp2, hp3, hp4, hp5, hp6, hp7, hp8, hp9⟩ := hp
    intro hrg
    obtain ⟨⟨ha1a, ha1b⟩, ⟨ha2a, ha2b⟩, ⟨ha3a, ha3b⟩, ⟨ha4a, ha4b⟩, -⟩ := hrg
    intro hbk
    have hk0 : 0 ≤ μ (67, 0) 0 ∧ μ (67, 0) 0 ≤ 400 := hbk (67, 0) 0
    have e0 : mq_l0 ([.inr (.inr (some (60, 0))), .inl c, .inl t, .inl k, .inl v] : List mq_V) 5 = [some (.inr (.inr (some (60, 0)))), some (.inl c), some (.inl t), some (.inl k), some (.inl v)] := rfl
    rw [e0]
    have hJ := sq_g hp9
    obtain ⟨j1, -, -, j4, j5, -⟩ := hJ
    have hki : ∀ x, 0 ≤ μ (74, 0) x := fun x => (mq_b1 hbk (f := 74) (i := 0) rfl x).1
    have hlp := sq_long_p (co := μ (76, 0)) (n := (μ (69, 0) 6).toNat) (t := t) (k := μ (82, 0) t.toNat) hki (by omega)
    repeat' (first | refine And.intro ?_ ?_ | intro _)
    all_goals try simp only [Int.reduceToNat, Int.reduceAdd, mq_up_f, mq_up_s, mq_up_e, ne_eq, Nat.reduceEqDiff, not_false_eq_true, true_and, and_true, false_and, and_false, false_or, or_false, true_or, or_true, true_implies] at *
    all_goals first | omega | rfl | exact trivial | assumption | exact sq_m j1 | (subst_vars; omega) | exact sq_m (sq_J_lets (sq_g hp9) hki (by omega) ⟨by omega, by omega⟩ (by omega) (by omega) (by omega) (by assumption) (by assumption) (by omega))
  · intro as ρ μ h
    obtain ⟨nw, sp, tl, tx, al⟩ := ρ
    obtain ⟨as0, rfl, h0⟩ := mq_pZ_spec h
    clear h
    obtain ⟨c, as1, rfl, h1⟩ := mq_pI_spec h0
    clear h0
    obtain ⟨t, as2, rfl, h2⟩ := mq_pI_spec h1
    clear h1
    obtain ⟨k, as3, rfl, h3⟩ := mq_pI_spec h2
    clear h2
    obtain ⟨v, as4, rfl, h4⟩ := mq_pI_spec h3
    clear h3
    obtain ⟨rfl, hp⟩ := mq_p0_spec h4
    clear h4
    obtain ⟨hp0, hp1, hp2, hp3, hp4, hp5, hp6, hp7, hp8, hp9⟩ := hp
    exact fun _ h => absurd h List.not_mem_nil
  · intro as ρ μ h
    obtain ⟨nw, sp, tl, tx, al⟩ := ρ
    obtain ⟨as0, rfl, h0⟩ := mq_pZ_spec h
    clear h
    obtain ⟨c, as1, rfl, h1⟩ := mq_pI_spec h0
    clear h0
    obtain ⟨t, as2, rfl, h2⟩ := mq_pI_spec h1
    clear h1
    obtain ⟨k, as3, rfl, h3⟩ := mq_pI_spec h2
    clear h2
    obtain ⟨v, as4, rfl, h4⟩ := mq_pI_spec h3
    clear h3
    obtain ⟨rfl, hp⟩ := mq_p0_spec h4
    clear h4
    obtain ⟨hp0, hp1, hp2, hp3, hp4, hp5, hp6, hp7, hp8, hp9⟩ := hp
    intro hrg
    obtain ⟨⟨ha1a, ha1b⟩, ⟨ha2a, ha2b⟩, ⟨ha3a, ha3b⟩, ⟨ha4a, ha4b⟩, -⟩ := hrg
    exact fun _ h => absurd h List.not_mem_nil
theorem mw0_m_letsGo : mq_mlA cq_m_letsGo 0 := ⟨kw_1015, ⟨by decide +kernel, by decide +kernel⟩, by decide +kernel, kw_1016, kw_1017, kw_771, 60, by decide +kernel, fun as ρ μ h => by obtain ⟨nw, sp, tl, tx, al⟩ := ρ; obtain ⟨t, e, _⟩ := mq_pZ_spec h; exact ⟨0, t, e⟩⟩
def pq_m_trainGoes : List mq_E := [(0, false, .iload 2), (1, false, .aload 0), (2, false, .invokeinterface 11 25), (5, false, .iconst 3), (6, false, .iload 1), (7, false, .imul), (8, false, .jsr 0), (9, false, .if_icmp .ne (Int.ofNat 39)), (12, false, .aload 0), (13, false, .invokeinterface 11 36), (16, false, .iload 1), (17, false, .aload 0), (18, false, .iload 1), (19, false, .aload 0), (20, false, .invokeinterface 11 37), (23, false, .iload 1), (24, false, .iaload), (25, false, .invokestatic 0), (28, false, .iastore), (29, false, .aload 0), (30, false, .invokeinterface 11 38), (33, false, .iload 1), (34, false, .iconst 1), (35, false, .bastore), (36, false, .goto (Int.ofNat 141)), (39, false, .aload 0), (40, false, .invokeinterface 11 38), (43, false, .iload 1), (44, false, .baload), (45, false, .ifCond .eq (Int.ofNat 141)), (48, false, .aload 0), (49, false, .iload 1), (50, false, .aload 0), (51, false, .invokeinterface 11 36), (54, false, .iload 1), (55, false, .iaload), (56, false, .aload 0), (57, false, .invokeinterface 11 37), (60, false, .iload 1), (61, false, .iaload), (62, false, .invokestatic 1), (65, false, .istore 3), (66, false, .aload 0), (67, false, .invokeinterface 11 36), (70, false, .iload 1), (71, false, .dup2), (72, false, .iaload), (73, false, .iload 3), (74, false, .iadd), (75, false, .iastore), (76, true, .aload 0), (77, false, .invokeinterface 11 37), (80, false, .iload 1), (81, false, .iaload), (82, false, .ifCond .le (Int.ofNat 141)), (85, false, .aload 0), (86, false, .invokeinterface 11 53), (89, false, .ifCond .ne (Int.ofNat 141)), (92, false, .aload 0), (93, false, .aload 0), (94, false, .iload 1), (95, false, .aload 0), (96, false, .invokeinterface 11 37), (99, false, .iload 1), (100, false, .iaload), (101, false, .iconst 1), (102, false, .isub), (103, false, .invokestatic 2), (106, false, .invokestatic 3), (109, false, .aload 0), (110, false, .invokeinterface 11 36), (113, false, .iload 1), (114, false, .iaload), (115, false, .if_icmp .gt (Int.ofNat 141)), (118, false, .aload 0), (119, false, .aload 0), (120, false, .iload 1), (121, false, .aload 0), (122, false, .invokeinterface 11 37), (125, false, .iload 1), (126, false, .iaload), (127, false, .iconst 1), (128, false, .isub), (129, false, .invokestatic 2), (132, false, .iload 1), (133, false, .iload 2), (134, false, .iload 3), (135, false, .invokestatic 4), (138, false, .goto (Int.ofNat 76)), (141, false, .aload 0), (142, false, .invokeinterface 11 38), (145, false, .iload 1), (146, false, .baload), (147, false, .ifCond .eq (Int.ofNat 165)), (150, false, .aload 0), (151, false, .invokeinterface 11 36), (154, false, .iload 1), (155, false, .iaload), (156, false, .aload 0), (157, false, .invokeinterface 11 17), (160, false, .iconst 0), (161, false, .iaload), (162, false, .if_icmp .ge (Int.ofNat 166)), (165, false, .return_), (166, false, .aload 0), (167, false, .invokeinterface 11 38), (170, false, .iload 1), (171, false, .iconst 0), (172, false, .bastore), (173, false, .aload 0), (174, false, .invokeinterface 11 52), (177, false, .iload 1), (178, false, .iload 2), (179, false, .iastore), (180, false, .return_)]
def cq_m_trainGoes : mq_C := ((yX11_trainGoes, cX11_trainGoes, 4, none, { frames := 3, cells := 0, slots := 0, locals := 71 }), (3, 0, 0, 0), 14233892600142643902990516224, (fun as ρ μ => match ρ with
  | (nw, sp, tl, tx, al) => mq_pZ as 60 fun as => mq_pI as fun t as => mq_pI as fun k as => mq_p0 as (0 ≤ t ∧ t ≤ 4 ∧ 0 ≤ k ∧ k ≤ 1200 ∧ sq_bx (sq_pl (μ (69, 0)) (μ (76, 0)) 0) ∧ sq_bx (sq_GT μ 5) ∧ sq_bx (sq_GC μ 16))),
  (fun as ρ μ r ρ' μ' => match as, ρ, ρ' with
  | [.inr (.inr (some (_, _))), .inl t, .inl k], (nw, sp, tl, tx, al), (nw', sp', tl', tx', al') => [sq_bx (sq_GT μ' 5), sq_bx (sq_GC μ' 16)]
  | _, _, _ => []))
def kq_m_trainGoes : List mq_V → mq_R → mq_M → List mq_Cu := fun as ρ μ => match as, ρ with
  | [.inr (.inr (some (_, _))), .inl t, .inl k], (nw, sp, tl, tx, al) => [(76, [true, true, true, true], fun N l st ρ' μ' cs => mq_tZ l 60 fun l => mq_tI l fun v1 l => mq_tI l fun v2 l => mq_tI l fun v3 l => mq_t0 l (st = [] ∧ ρ' = (nw, sp, tl, tx, al) ∧ cs = 0 ∧ v1 = t ∧ v2 = k ∧ 0 ≤ t ∧ t ≤ 4 ∧ 0 ≤ k ∧ k ≤ 1200 ∧ 1 ≤ v3 ∧ v3 ≤ 15 ∧ sq_bx (sq_J μ' t) ∧ 0 ≤ (μ' (82, 0) t.toNat : Int) ∧ (μ' (82, 0) t.toNat : Int) < (N : Int)))]
  | _, _ => []
set_option maxHeartbeats 16000000 in
set_option maxRecDepth 100000 in
theorem vq_m_trainGoes (lc : Launch) (h_m_longOf : mq_Ct lc cq_m_longOf) (h_m_pulled : mq_Ct lc cq_m_pulled) (h_m_at : mq_Ct lc cq_m_at) (h_m_laid : mq_Ct lc cq_m_laid) (h_m_letsGo : mq_Ct lc cq_m_letsGo) : mq_Ct lc cq_m_trainGoes := by
  refine mq_method (lc := lc) (P := pq_m_trainGoes) (cl := [cq_m_longOf, cq_m_pulled, cq_m_at, cq_m_laid, cq_m_letsGo]) (T := ([(58, 11, 25), (81, 11, 36), (84, 11, 37), (87, 11, 38), (431, 11, 53), (34, 11, 17), (117, 11, 52)], [], [], [(425, 0, 0), (428, 1, 0), (396, 2, 0), (434, 3, 0), (437, 4, 0)], [], [])) (fuel := 400) (cuts := kq_m_trainGoes) (by decide) rfl ⟨rfl, rfl⟩ (List.forall_mem_cons.mpr ⟨h_m_longOf, (List.forall_mem_cons.mpr ⟨h_m_pulled, (List.forall_mem_cons.mpr ⟨h_m_at, (List.forall_mem_cons.mpr ⟨h_m_laid, (List.forall_mem_cons.mpr ⟨h_m_letsGo, (fun _ h => absurd h List.not_mem_nil)⟩)⟩)⟩)⟩)⟩) ⟨(List.forall_mem_cons.mpr ⟨⟨_, rfl, by decide, kw_840⟩, (List.forall_mem_cons.mpr ⟨⟨_, rfl, by decide, kw_1006⟩, (List.forall_mem_cons.mpr ⟨⟨_, rfl, by decide, kw_1004⟩, (List.forall_mem_cons.mpr ⟨⟨_, rfl, by decide, kw_1008⟩, (List.forall_mem_cons.mpr ⟨⟨_, rfl, by decide, kw_1009⟩, (List.forall_mem_cons.mpr ⟨⟨_, rfl, by decide, kw_832⟩, (List.forall_mem_cons.mpr ⟨⟨_, rfl, by decide, kw_1010⟩, (fun _ h => absurd h List.not_mem_nil)⟩)⟩)⟩)⟩)⟩)⟩)⟩), (fun _ h => absurd h List.not_mem_nil), (fun _ h => absurd h List.not_mem_nil), (List.forall_mem_cons.mpr ⟨mq_ml0 rfl mw0_m_longOf kw_982, (List.forall_mem_cons.mpr ⟨mq_ml0 rfl mw0_m_pulled kw_974, (List.forall_mem_cons.mpr ⟨mq_ml0 rfl mw0_m_at kw_963, (List.forall_mem_cons.mpr ⟨mq_ml0 rfl mw0_m_laid kw_1014, (List.forall_mem_cons.mpr ⟨mq_ml0 rfl mw0_m_letsGo kw_1018, (fun _ h => absurd h List.not_mem_nil)⟩)⟩)⟩)⟩)⟩), (fun _ h => absurd h List.not_mem_nil), (fun _ h => absurd h List.not_mem_nil)⟩ (by decide +kernel) ⟨_, _, rfl⟩ ?_ ?_ ?_ ?_
  · intro as ρ μ h
    obtain ⟨nw, sp, tl, tx, al⟩ := ρ
    obtain ⟨as0, rfl, h0⟩ := mq_pZ_spec h
    clear h
    obtain ⟨t, as1, rfl, h1⟩ := mq_pI_spec h0
    clear h0
    obtain ⟨k, as2, rfl, h2⟩ := mq_pI_spec h1
    clear h1
    obtain ⟨rfl, hp⟩ := mq_p0_spec h2
    clear h2
    obtain ⟨hp0, hp1, hp2, hp3, hp4, hp5, hp6⟩ := hp
    rfl
  · intro as ρ μ h
    obtain ⟨nw, sp, tl, tx, al⟩ := ρ
    obtain ⟨as0, rfl, h0⟩ := mq_pZ_spec h
    clear h
    obtain ⟨t, as1, rfl, h1⟩ := mq_pI_spec h0
    clear h0
    obtain ⟨k, as2, rfl, h2⟩ := mq_pI_spec h1
    clear h1
    obtain ⟨rfl, hp⟩ := mq_p0_spec h2
    clear h2
    obtain ⟨hp0, hp1, hp2, hp3, hp4, hp5, hp6⟩ := hp
    intro hrg
    obtain ⟨⟨ha1a, ha1b⟩, ⟨ha2a, ha2b⟩, -⟩ := hrg
    intro hbk
    have hk0 : 0 ≤ μ (67, 0) 0 ∧ μ (67, 0) 0 ≤ 400 := hbk (67, 0) 0
    have e0 : mq_l0 ([.inr (.inr (some (60, 0))), .inl t, .inl k] : List mq_V) 4 = [some (.inr (.inr (some (60, 0)))), some (.inl t), some (.inl k), none] := rfl
    rw [e0]
    have hg := sq_g hp5 t (by omega) (by omega)
    unfold sq_gt1 at hg
    repeat' (first | refine And.intro ?_ ?_ | intro _)
    all_goals try simp only [Int.reduceToNat, Int.reduceAdd, mq_up_f, mq_up_s, mq_up_e, ne_eq, Nat.reduceEqDiff, not_false_eq_true, true_and, and_true, false_and, and_false, false_or, or_false, true_or, or_true, true_implies] at *
    all_goals first | omega | rfl | exact trivial | assumption | exact sq_m (fun d d0 d1 => sq_GT_set (t := t) (fun t1 a1 b1 _ => sq_g hp5 t1 a1 b1) (by omega) (by simp [mq_up_f]) (by simp [mq_up_f]) (by simp [mq_up_f]) (by simp [mq_up_f]) (fun x hx => by simp [mq_up_f, mq_up_s, hx]) (by unfold sq_gt1; first | omega | (simp only [mq_up_f, mq_up_e, ne_eq, Nat.reduceEqDiff, not_false_eq_true]; first | omega | (subst_vars; omega)) | (simp [mq_up_f, mq_up_e]; omega)) d d0 (Or.inl d1)) | exact sq_m (sq_GC_ag (md := 2 ^ 81 + 2 ^ 83 + 2 ^ 93) (by repeat (first | exact mq_ag_rf _ _ | refine mq_ag_upn ?_ (by decide +kernel))) (by decide +kernel) (sq_g hp6)) | exact sq_m (sq_J_front (sq_g hp4) (sq_g hp5) (sq_g hp6) ⟨by omega, by omega⟩ (by omega) (by omega) (by omega)) | exact (mq_b1 hbk (f := 82) (i := 0) rfl _).1
  · intro as ρ μ h
    obtain ⟨nw, sp, tl, tx, al⟩ := ρ
    obtain ⟨as0, rfl, h0⟩ := mq_pZ_spec h
    clear h
    obtain ⟨t, as1, rfl, h1⟩ := mq_pI_spec h0
    clear h0
    obtain ⟨k, as2, rfl, h2⟩ := mq_pI_spec h1
    clear h1
    obtain ⟨rfl, hp⟩ := mq_p0_spec h2
    clear h2
    obtain ⟨hp0, hp1, hp2, hp3, hp4, hp5, hp6⟩ := hp
    refine List.forall_mem_cons.mpr ⟨?_, ?_⟩
    · intro l st ρ' μ' cs hJ
      obtain ⟨l0, rfl, hJ0⟩ := mq_tZ_spec hJ
      clear hJ
      obtain ⟨v1, l1, rfl, hJ1⟩ := mq_tI_spec hJ0
      clear hJ0
      obtain ⟨v2, l2, rfl, hJ2⟩ := mq_tI_spec hJ1
      clear hJ1
      obtain ⟨v3, l3, rfl, hJ3⟩ := mq_tI_spec hJ2
      clear hJ2
      obtain ⟨rfl, hJz⟩ := mq_t0_spec hJ3
      clear hJ3
      obtain ⟨rfl, rfl, rfl, hc0, hc1, hc2, hc3, hc4, hc5, hc6, hc7, hc8, hm0, hm1⟩ := hJz
      omega
    exact fun _ h => absurd h List.not_mem_nil
  · intro as ρ μ h
    obtain ⟨nw, sp, tl, tx, al⟩ := ρ
    obtain ⟨as0, rfl, h0⟩ := mq_pZ_spec h
    clear h
    obtain ⟨t, as1, rfl, h1⟩ := mq_pI_spec h0
    clear h0
    obtain ⟨k, as2, rfl, h2⟩ := mq_pI_spec h1
    clear h1
    obtain ⟨rfl, hp⟩ := mq_p0_spec h2
    clear h2
    obtain ⟨hp0, hp1, hp2, hp3, hp4, hp5, hp6⟩ := hp
    intro hrg
    obtain ⟨⟨ha1a, ha1b⟩, ⟨ha2a, ha2b⟩, -⟩ := hrg
    refine List.forall_mem_cons.mpr ⟨?_, ?_⟩
    · intro N l st ρ' μ' cs hJ
      obtain ⟨l0, rfl, hJ0⟩ := mq_tZ_spec hJ
      clear hJ
      obtain ⟨v1, l1, rfl, hJ1⟩ := mq_tI_spec hJ0
      clear hJ0
      obtain ⟨v2, l2, rfl, hJ2⟩ := mq_tI_spec hJ1
      clear hJ1
      obtain ⟨v3, l3, rfl, hJ3⟩ := mq_tI_spec hJ2
      clear hJ2
      obtain ⟨rfl, hJz⟩ := mq_t0_spec hJ3
      clear hJ3
      obtain ⟨rfl, rfl, rfl, hc0, hc1, hc2, hc3, hc4, hc5, hc6, hc7, hc8, hm0, hm1⟩ := hJz
      intro hbk hrl
      have hk0 : 0 ≤ μ' (67, 0) 0 ∧ μ' (67, 0) 0 ≤ 400 := hbk (67, 0) 0
      obtain ⟨⟨hl1a, hl1b⟩, ⟨hl2a, hl2b⟩, ⟨hl3a, hl3b⟩, -⟩ := hrl
      subst hc0 hc1
      obtain ⟨j1, j2, j3, j4, j5, j6⟩ := sq_g hc8
      repeat' (first | refine And.intro ?_ ?_ | intro _)
      all_goals try simp only [Int.reduceToNat, Int.reduceAdd, mq_up_f, mq_up_s, mq_up_e, ne_eq, Nat.reduceEqDiff, not_false_eq_true, true_and, and_true, false_and, and_false, false_or, or_false, true_or, or_true, true_implies] at *
      all_goals first | omega | rfl | exact trivial | assumption | (have h9 := sq_at_pl (t := v1) (k := μ' (82, 0) v1.toNat - 1) (sq_g (sq_m j1)) (by omega) (by omega); omega) | exact sq_m (fun d d0 d1 => sq_GT_set (t := v1) (j2) (by omega) (by simp [mq_up_f]) (by simp [mq_up_f]) (by simp [mq_up_f]) (by simp [mq_up_f]) (fun x hx => by simp [mq_up_f, mq_up_s, hx]) (by unfold sq_gt1; first | omega | (simp only [mq_up_f, mq_up_e, ne_eq, Nat.reduceEqDiff, not_false_eq_true]; omega) | (simp [mq_up_f, mq_up_e]; omega)) d d0 (Or.inl d1)) | exact sq_m (sq_GC_ag (md := 2 ^ 81 + 2 ^ 83 + 2 ^ 93) (by repeat (first | exact mq_ag_rf _ _ | refine mq_ag_upn ?_ (by decide +kernel))) (by decide +kernel) (j3)) | (subst_vars; have h9 := sq_at_pl (t := v1) (k := μ' (82, 0) v1.toNat - 1) j1 (by omega) (by omega); omega)
    exact fun _ h => absurd h List.not_mem_nil
theorem mw0_m_trainGoes : mq_mlA cq_m_trainGoes 0 := ⟨kw_1038, ⟨by decide +kernel, by decide +kernel⟩, by decide +kernel, kw_1039, kw_1040, kw_771, 60, by decide +kernel, fun as ρ μ h => by obtain ⟨nw, sp, tl, tx, al⟩ := ρ; obtain ⟨t, e, _⟩ := mq_pZ_spec h; exact ⟨0, t, e⟩⟩
