def pq_m_lets : List mq_E := [(0, false, .aload 0), (1, false, .iconst 0), (2, false, .multianewarray 11 0), (5, false, .aload 0), (6, false, .iload 1), (7, false, .invokestatic 0), (10, false, .ifCond .eq (Int.ofNat 25)), (13, false, .iload 2), (14, false, .i2l), (15, false, .goto_w 0), (16, false, .goto_w 2), (19, false, .invokestatic 1), (22, false, .ifCond .ne (Int.ofNat 28)), (25, false, .iconst (-2)), (27, false, .ireturn), (28, false, .aload 0), (29, false, .invokestatic 2), (32, false, .aload 0), (33, false, .invokeinterface 11 39), (36, false, .iload 1), (37, false, .iaload), (38, false, .iconst (-1)), (39, false, .if_icmp .ne (Int.ofNat 46)), (42, false, .iconst (-1)), (43, false, .goto (Int.ofNat 79)), (46, false, .iload 2), (47, false, .ifCond .ne (Int.ofNat 59)), (50, false, .aload 0), (51, false, .invokeinterface 11 39), (54, false, .iload 1), (55, false, .iaload), (56, false, .goto (Int.ofNat 79)), (59, false, .iload 2), (60, false, .iconst 1), (61, false, .if_icmp .ne (Int.ofNat 73)), (64, false, .aload 0), (65, false, .invokeinterface 11 40), (68, false, .iload 1), (69, false, .iaload), (70, false, .goto (Int.ofNat 79)), (73, false, .aload 0), (74, false, .invokeinterface 11 41), (77, false, .iload 1), (78, false, .iaload), (79, false, .ireturn)]
def cq_m_lets : mq_C := ((yX11_lets, cX11_lets, 3, (some .int), { frames := 8, cells := 0, slots := 0, locals := 195 }), (3, 1, 0, 0), 19804925009534680301937098752, (fun as ρ μ => match ρ with
  | (nw, sp, tl, tx, al) => mq_pZ as 60 fun as => mq_pI as fun c as => mq_pI as fun w as => mq_p0 as (sq_bx (sq_inv (μ (69, 0)) (μ (76, 0))) ∧ True)),
  (fun as ρ μ r ρ' μ' => match as, ρ, ρ' with
  | [.inr (.inr (some (_, _))), .inl c, .inl w], (nw, sp, tl, tx, al), (nw', sp', tl', tx', al') => []
  | _, _, _ => []))
def kq_m_lets : List mq_V → mq_R → mq_M → List mq_Cu := fun as ρ μ => match as, ρ with
  | [.inr (.inr (some (_, _))), .inl c, .inl w], (nw, sp, tl, tx, al) => []
  | _, _ => []
set_option maxHeartbeats 16000000 in
set_option maxRecDepth 100000 in
theorem vq_m_lets (lc : Launch) (h_m_isCoach : mq_Ct lc cq_m_isCoach) (h_m_in : mq_Ct lc cq_m_in) (h_m_all : mq_Ct lc cq_m_all) : mq_Ct lc cq_m_lets := by
  refine mq_method (lc := lc) (P := pq_m_lets) (cl := [cq_m_isCoach, cq_m_in, cq_m_all]) (T := ([(120, 11, 0), (90, 11, 39), (93, 11, 40), (96, 11, 41)], [], [(296, 2)], [(307, 0, 0), (125, 1, 1), (464, 2, 0)], [], [])) (fuel := 400) (cuts := kq_m_lets) (by decide) rfl ⟨rfl, rfl⟩ (List.forall_mem_cons.mpr ⟨h_m_isCoach, (List.forall_mem_cons.mpr ⟨h_m_in, (List.forall_mem_cons.mpr ⟨h_m_all, (fun _ h => absurd h List.not_mem_nil)⟩)⟩)⟩) ⟨(List.forall_mem_cons.mpr ⟨⟨_, rfl, by decide, kw_773⟩, (List.forall_mem_cons.mpr ⟨⟨_, rfl, by decide, kw_996⟩, (List.forall_mem_cons.mpr ⟨⟨_, rfl, by decide, kw_1005⟩, (List.forall_mem_cons.mpr ⟨⟨_, rfl, by decide, kw_1007⟩, (fun _ h => absurd h List.not_mem_nil)⟩)⟩)⟩)⟩), (fun _ h => absurd h List.not_mem_nil), (List.forall_mem_cons.mpr ⟨kw_850, (fun _ h => absurd h List.not_mem_nil)⟩), (List.forall_mem_cons.mpr ⟨mq_ml0 rfl mw0_m_isCoach kw_872, (List.forall_mem_cons.mpr ⟨mq_ml1 rfl mw1_m_in kw_772, (List.forall_mem_cons.mpr ⟨mq_ml0 rfl mw0_m_all kw_1076, (fun _ h => absurd h List.not_mem_nil)⟩)⟩)⟩), (fun _ h => absurd h List.not_mem_nil), (fun _ h => absurd h List.not_mem_nil)⟩ (by decide +kernel) ⟨_, _, rfl⟩ ?_ ?_ ?_ ?_
  · intro as ρ μ h
    obtain ⟨nw, sp, tl, tx, al⟩ := ρ
    obtain ⟨as0, rfl, h0⟩ := mq_pZ_spec h
    clear h
    obtain ⟨c, as1, rfl, h1⟩ := mq_pI_spec h0
    clear h0
    obtain ⟨w, as2, rfl, h2⟩ := mq_pI_spec h1
    clear h1
    obtain ⟨rfl, hp⟩ := mq_p0_spec h2
    clear h2
    obtain ⟨hp0, hp1⟩ := hp
    rfl
  · intro as ρ μ h
    obtain ⟨nw, sp, tl, tx, al⟩ := ρ
    obtain ⟨as0, rfl, h0⟩ := mq_pZ_spec h
    clear h
    obtain ⟨c, as1, rfl, h1⟩ := mq_pI_spec h0
    clear h0
    obtain ⟨w, as2, rfl, h2⟩ := mq_pI_spec h1
    clear h1
    obtain ⟨rfl, hp⟩ := mq_p0_spec h2
    clear h2
    obtain ⟨hp0, hp1⟩ := hp
    intro hrg
    obtain ⟨⟨ha1a, ha1b⟩, ⟨ha2a, ha2b⟩, -⟩ := hrg
    intro hbk
    have e0 : mq_l0 ([.inr (.inr (some (60, 0))), .inl c, .inl w] : List mq_V) 3 = [some (.inr (.inr (some (60, 0)))), some (.inl c), some (.inl w)] := rfl
    rw [e0]
    repeat' (first | refine And.intro ?_ ?_ | intro _)
    all_goals try simp only [Int.reduceToNat, Int.reduceAdd, mq_up_f, mq_up_s, mq_up_e, ne_eq, Nat.reduceEqDiff, not_false_eq_true, true_and, and_true, false_and, and_false, false_or, or_false, true_or, or_true, true_implies] at *
    all_goals first | omega | rfl | exact trivial | assumption | exact sq_m (sq_g hp0 0 (by decide) (by decide))
  · intro as ρ μ h
    obtain ⟨nw, sp, tl, tx, al⟩ := ρ
    obtain ⟨as0, rfl, h0⟩ := mq_pZ_spec h
    clear h
    obtain ⟨c, as1, rfl, h1⟩ := mq_pI_spec h0
    clear h0
    obtain ⟨w, as2, rfl, h2⟩ := mq_pI_spec h1
    clear h1
    obtain ⟨rfl, hp⟩ := mq_p0_spec h2
    clear h2
    obtain ⟨hp0, hp1⟩ := hp
    exact fun _ h => absurd h List.not_mem_nil
  · intro as ρ μ h
    obtain ⟨nw, sp, tl, tx, al⟩ := ρ
    obtain ⟨as0, rfl, h0⟩ := mq_pZ_spec h
    clear h
    obtain ⟨c, as1, rfl, h1⟩ := mq_pI_spec h0
    clear h0
    obtain ⟨w, as2, rfl, h2⟩ := mq_pI_spec h1
    clear h1
    obtain ⟨rfl, hp⟩ := mq_p0_spec h2
    clear h2
    obtain ⟨hp0, hp1⟩ := hp
    intro hrg
    obtain ⟨⟨ha1a, ha1b⟩, ⟨ha2a, ha2b⟩, -⟩ := hrg
    exact fun _ h => absurd h List.not_mem_nil
def pq_m_comes : List mq_E := [(0, false, .aload 0), (1, false, .iconst 0), (2, false, .multianewarray 11 0), (5, false, .aload 0), (6, false, .iload 1), (7, false, .invokestatic 0), (10, false, .ifCond .eq (Int.ofNat 25)), (13, false, .iload 2), (14, false, .i2l), (15, false, .goto_w 0), (16, false, .goto_w 2), (19, false, .invokestatic 1), (22, false, .ifCond .ne (Int.ofNat 28)), (25, false, .iconst (-2)), (27, false, .ireturn), (28, false, .aload 0), (29, false, .invokestatic 2), (32, false, .aload 0), (33, false, .invokeinterface 11 39), (36, false, .iload 1), (37, false, .iaload), (38, false, .iconst (-1)), (39, false, .if_icmp .eq (Int.ofNat 52)), (42, false, .aload 0), (43, false, .invokeinterface 11 44), (46, false, .iload 1), (47, false, .iaload), (48, false, .iconst (-1)), (49, false, .if_icmp .ne (Int.ofNat 65)), (52, false, .iload 2), (53, false, .iconst 2), (54, false, .if_icmp .ne (Int.ofNat 63)), (57, false, .iconst (-1000000)), (60, false, .goto (Int.ofNat 64)), (63, false, .iconst (-1)), (64, false, .ireturn), (65, false, .iload 2), (66, false, .ifCond .ne (Int.ofNat 78)), (69, false, .aload 0), (70, false, .invokeinterface 11 42), (73, false, .iload 1), (74, false, .iaload), (75, false, .goto (Int.ofNat 97)), (78, false, .iload 2), (79, false, .iconst 1), (80, false, .if_icmp .ne (Int.ofNat 92)), (83, false, .aload 0), (84, false, .invokeinterface 11 44), (87, false, .iload 1), (88, false, .iaload), (89, false, .goto (Int.ofNat 97)), (92, false, .aload 0), (93, false, .iload 1), (94, false, .invokestatic 3), (97, false, .ireturn)]
def cq_m_comes : mq_C := ((yX11_comes, cX11_comes, 3, (some .int), { frames := 8, cells := 0, slots := 0, locals := 195 }), (3, 1, 0, 0), 19804925009534680301937098752, (fun as ρ μ => match ρ with
  | (nw, sp, tl, tx, al) => mq_pZ as 60 fun as => mq_pI as fun c as => mq_pI as fun w as => mq_p0 as (sq_bx (sq_inv (μ (69, 0)) (μ (76, 0))) ∧ True)),
  (fun as ρ μ r ρ' μ' => match as, ρ, ρ' with
  | [.inr (.inr (some (_, _))), .inl c, .inl w], (nw, sp, tl, tx, al), (nw', sp', tl', tx', al') => []
  | _, _, _ => []))
def kq_m_comes : List mq_V → mq_R → mq_M → List mq_Cu := fun as ρ μ => match as, ρ with
  | [.inr (.inr (some (_, _))), .inl c, .inl w], (nw, sp, tl, tx, al) => []
  | _, _ => []
set_option maxHeartbeats 16000000 in
set_option maxRecDepth 100000 in
theorem vq_m_comes (lc : Launch) (h_m_isCoach : mq_Ct lc cq_m_isCoach) (h_m_in : mq_Ct lc cq_m_in) (h_m_all : mq_Ct lc cq_m_all) (h_m_shortOf : mq_Ct lc cq_m_shortOf) : mq_Ct lc cq_m_comes := by
  refine mq_method (lc := lc) (P := pq_m_comes) (cl := [cq_m_isCoach, cq_m_in, cq_m_all, cq_m_shortOf]) (T := ([(120, 11, 0), (90, 11, 39), (105, 11, 44), (99, 11, 42)], [(389, (-1000000))], [(296, 2)], [(307, 0, 0), (125, 1, 1), (464, 2, 0), (467, 3, 0)], [], [])) (fuel := 400) (cuts := kq_m_comes) (by decide) rfl ⟨rfl, rfl⟩ (List.forall_mem_cons.mpr ⟨h_m_isCoach, (List.forall_mem_cons.mpr ⟨h_m_in, (List.forall_mem_cons.mpr ⟨h_m_all, (List.forall_mem_cons.mpr ⟨h_m_shortOf, (fun _ h => absurd h List.not_mem_nil)⟩)⟩)⟩)⟩) ⟨(List.forall_mem_cons.mpr ⟨⟨_, rfl, by decide, kw_773⟩, (List.forall_mem_cons.mpr ⟨⟨_, rfl, by decide, kw_996⟩, (List.forall_mem_cons.mpr ⟨⟨_, rfl, by decide, kw_994⟩, (List.forall_mem_cons.mpr ⟨⟨_, rfl, by decide, kw_995⟩, (fun _ h => absurd h List.not_mem_nil)⟩)⟩)⟩)⟩), (List.forall_mem_cons.mpr ⟨kw_955, (fun _ h => absurd h List.not_mem_nil)⟩), (List.forall_mem_cons.mpr ⟨kw_850, (fun _ h => absurd h List.not_mem_nil)⟩), (List.forall_mem_cons.mpr ⟨mq_ml0 rfl mw0_m_isCoach kw_872, (List.forall_mem_cons.mpr ⟨mq_ml1 rfl mw1_m_in kw_772, (List.forall_mem_cons.mpr ⟨mq_ml0 rfl mw0_m_all kw_1076, (List.forall_mem_cons.mpr ⟨mq_ml0 rfl mw0_m_shortOf kw_1080, (fun _ h => absurd h List.not_mem_nil)⟩)⟩)⟩)⟩), (fun _ h => absurd h List.not_mem_nil), (fun _ h => absurd h List.not_mem_nil)⟩ (by decide +kernel) ⟨_, _, rfl⟩ ?_ ?_ ?_ ?_
  · intro as ρ μ h
    obtain ⟨nw, sp, tl, tx, al⟩ := ρ
    obtain ⟨as0, rfl, h0⟩ := mq_pZ_spec h
    clear h
    obtain ⟨c, as1, rfl, h1⟩ := mq_pI_spec h0
    clear h0
    obtain ⟨w, as2, rfl, h2⟩ := mq_pI_spec h1
    clear h1
    obtain ⟨rfl, hp⟩ := mq_p0_spec h2
    clear h2
    obtain ⟨hp0, hp1⟩ := hp
    rfl
  · intro as ρ μ h
    obtain ⟨nw, sp, tl, tx, al⟩ := ρ
    obtain ⟨as0, rfl, h0⟩ := mq_pZ_spec h
    clear h
    obtain ⟨c, as1, rfl, h1⟩ := mq_pI_spec h0
    clear h0
    obtain ⟨w, as2, rfl, h2⟩ := mq_pI_spec h1
    clear h1
    obtain ⟨rfl, hp⟩ := mq_p0_spec h2
    clear h2
    obtain ⟨hp0, hp1⟩ := hp
    intro hrg
    obtain ⟨⟨ha1a, ha1b⟩, ⟨ha2a, ha2b⟩, -⟩ := hrg
    intro hbk
    have e0 : mq_l0 ([.inr (.inr (some (60, 0))), .inl c, .inl w] : List mq_V) 3 = [some (.inr (.inr (some (60, 0)))), some (.inl c), some (.inl w)] := rfl
    rw [e0]
    repeat' (first | refine And.intro ?_ ?_ | intro _)
    all_goals try simp only [Int.reduceToNat, Int.reduceAdd, mq_up_f, mq_up_s, mq_up_e, ne_eq, Nat.reduceEqDiff, not_false_eq_true, true_and, and_true, false_and, and_false, false_or, or_false, true_or, or_true, true_implies] at *
    all_goals first | omega | rfl | exact trivial | assumption | exact sq_m (sq_g hp0 0 (by decide) (by decide))
  · intro as ρ μ h
    obtain ⟨nw, sp, tl, tx, al⟩ := ρ
    obtain ⟨as0, rfl, h0⟩ := mq_pZ_spec h
    clear h
    obtain ⟨c, as1, rfl, h1⟩ := mq_pI_spec h0
    clear h0
    obtain ⟨w, as2, rfl, h2⟩ := mq_pI_spec h1
    clear h1
    obtain ⟨rfl, hp⟩ := mq_p0_spec h2
    clear h2
    obtain ⟨hp0, hp1⟩ := hp
    exact fun _ h => absurd h List.not_mem_nil
  · intro as ρ μ h
    obtain ⟨nw, sp, tl, tx, al⟩ := ρ
    obtain ⟨as0, rfl, h0⟩ := mq_pZ_spec h
    clear h
    obtain ⟨c, as1, rfl, h1⟩ := mq_pI_spec h0
    clear h0
    obtain ⟨w, as2, rfl, h2⟩ := mq_pI_spec h1
    clear h1
    obtain ⟨rfl, hp⟩ := mq_p0_spec h2
    clear h2
    obtain ⟨hp0, hp1⟩ := hp
    intro hrg
    obtain ⟨⟨ha1a, ha1b⟩, ⟨ha2a, ha2b⟩, -⟩ := hrg
    exact fun _ h => absurd h List.not_mem_nil
def pq_m_clear : List mq_E := [(0, false, .aload 0), (1, false, .iconst 0), (2, false, .multianewarray 11 0), (5, false, .aload 0), (6, false, .iload 1), (7, false, .invokestatic 0), (10, false, .ifCond .ne (Int.ofNat 16)), (13, false, .iconst (-2)), (15, false, .ireturn), (16, false, .aload 0), (17, false, .invokestatic 1), (20, false, .aload 0), (21, false, .invokeinterface 11 39), (24, false, .iload 1), (25, false, .iaload), (26, false, .iconst (-1)), (27, false, .if_icmp .ne (Int.ofNat 34)), (30, false, .iconst (-1)), (31, false, .goto (Int.ofNat 70)), (34, false, .aload 0), (35, false, .invokeinterface 11 45), (38, false, .iload 1), (39, false, .baload), (40, false, .ifCond .eq (Int.ofNat 52)), (43, false, .aload 0), (44, false, .invokeinterface 11 46), (47, false, .iload 1), (48, false, .iaload), (49, false, .goto (Int.ofNat 70)), (52, false, .aload 0), (53, false, .iload 1), (54, false, .invokestatic 2), (57, false, .ifCond .eq (Int.ofNat 69)), (60, false, .aload 0), (61, false, .invokeinterface 11 44), (64, false, .iload 1), (65, false, .iaload), (66, false, .goto (Int.ofNat 70)), (69, false, .iconst (-1)), (70, false, .ireturn)]
def cq_m_clear : mq_C := ((yX11_clear, cX11_clear, 2, (some .int), { frames := 8, cells := 0, slots := 0, locals := 195 }), (2, 1, 0, 0), 19804925009534680301937098752, (fun as ρ μ => match ρ with
  | (nw, sp, tl, tx, al) => mq_pZ as 60 fun as => mq_pI as fun c as => mq_p0 as (sq_bx (sq_inv (μ (69, 0)) (μ (76, 0))) ∧ True)),
  (fun as ρ μ r ρ' μ' => match as, ρ, ρ' with
  | [.inr (.inr (some (_, _))), .inl c], (nw, sp, tl, tx, al), (nw', sp', tl', tx', al') => []
  | _, _, _ => []))
def kq_m_clear : List mq_V → mq_R → mq_M → List mq_Cu := fun as ρ μ => match as, ρ with
  | [.inr (.inr (some (_, _))), .inl c], (nw, sp, tl, tx, al) => []
  | _, _ => []
set_option maxHeartbeats 16000000 in
set_option maxRecDepth 100000 in
theorem vq_m_clear (lc : Launch) (h_m_isCoach : mq_Ct lc cq_m_isCoach) (h_m_all : mq_Ct lc cq_m_all) (h_m_isInPlace : mq_Ct lc cq_m_isInPlace) : mq_Ct lc cq_m_clear := by
  refine mq_method (lc := lc) (P := pq_m_clear) (cl := [cq_m_isCoach, cq_m_all, cq_m_isInPlace]) (T := ([(120, 11, 0), (90, 11, 39), (108, 11, 45), (111, 11, 46), (105, 11, 44)], [], [], [(307, 0, 0), (464, 1, 0), (440, 2, 0)], [], [])) (fuel := 400) (cuts := kq_m_clear) (by decide) rfl ⟨rfl, rfl⟩ (List.forall_mem_cons.mpr ⟨h_m_isCoach, (List.forall_mem_cons.mpr ⟨h_m_all, (List.forall_mem_cons.mpr ⟨h_m_isInPlace, (fun _ h => absurd h List.not_mem_nil)⟩)⟩)⟩) ⟨(List.forall_mem_cons.mpr ⟨⟨_, rfl, by decide, kw_773⟩, (List.forall_mem_cons.mpr ⟨⟨_, rfl, by decide, kw_996⟩, (List.forall_mem_cons.mpr ⟨⟨_, rfl, by decide, kw_997⟩, (List.forall_mem_cons.mpr ⟨⟨_, rfl, by decide, kw_1003⟩, (List.forall_mem_cons.mpr ⟨⟨_, rfl, by decide, kw_994⟩, (fun _ h => absurd h List.not_mem_nil)⟩)⟩)⟩)⟩)⟩), (fun _ h => absurd h List.not_mem_nil), (fun _ h => absurd h List.not_mem_nil), (List.forall_mem_cons.mpr ⟨mq_ml0 rfl mw0_m_isCoach kw_872, (List.forall_mem_cons.mpr ⟨mq_ml0 rfl mw0_m_all kw_1076, (List.forall_mem_cons.mpr ⟨mq_ml0 rfl mw0_m_isInPlace kw_1001, (fun _ h => absurd h List.not_mem_nil)⟩)⟩)⟩), (fun _ h => absurd h List.not_mem_nil), (fun _ h => absurd h List.not_mem_nil)⟩ (by decide +kernel) ⟨_, _, rfl⟩ ?_ ?_ ?_ ?_
  · intro as ρ μ h
    obtain ⟨nw, sp, tl, tx, al⟩ := ρ
    obtain ⟨as0, rfl, h0⟩ := mq_pZ_spec h
    clear h
    obtain ⟨c, as1, rfl, h1⟩ := mq_pI_spec h0
    clear h0
    obtain ⟨rfl, hp⟩ := mq_p0_spec h1
    clear h1
    obtain ⟨hp0, hp1⟩ := hp
    rfl
  · intro as ρ μ h
    obtain ⟨nw, sp, tl, tx, al⟩ := ρ
    obtain ⟨as0, rfl, h0⟩ := mq_pZ_spec h
    clear h
    obtain ⟨c, as1, rfl, h1⟩ := mq_pI_spec h0
    clear h0
    obtain ⟨rfl, hp⟩ := mq_p0_spec h1
    clear h1
    obtain ⟨hp0, hp1⟩ := hp
    intro hrg
    obtain ⟨⟨ha1a, ha1b⟩, -⟩ := hrg
    intro hbk
    have e0 : mq_l0 ([.inr (.inr (some (60, 0))), .inl c] : List mq_V) 2 = [some (.inr (.inr (some (60, 0)))), some (.inl c)] := rfl
    rw [e0]
    repeat' (first | refine And.intro ?_ ?_ | intro _)
    all_goals try simp only [Int.reduceToNat, Int.reduceAdd, mq_up_f, mq_up_s, mq_up_e, ne_eq, Nat.reduceEqDiff, not_false_eq_true, true_and, and_true, false_and, and_false, false_or, or_false, true_or, or_true, true_implies] at *
    all_goals first | omega | rfl | exact trivial | assumption | exact sq_m (sq_g hp0 0 (by decide) (by decide))
  · intro as ρ μ h
    obtain ⟨nw, sp, tl, tx, al⟩ := ρ
    obtain ⟨as0, rfl, h0⟩ := mq_pZ_spec h
    clear h
    obtain ⟨c, as1, rfl, h1⟩ := mq_pI_spec h0
    clear h0
    obtain ⟨rfl, hp⟩ := mq_p0_spec h1
    clear h1
    obtain ⟨hp0, hp1⟩ := hp
    exact fun _ h => absurd h List.not_mem_nil
  · intro as ρ μ h
    obtain ⟨nw, sp, tl, tx, al⟩ := ρ
    obtain ⟨as0, rfl, h0⟩ := mq_pZ_spec h
    clear h
    obtain ⟨c, as1, rfl, h1⟩ := mq_pI_spec h0
    clear h0
    obtain ⟨rfl, hp⟩ := mq_p0_spec h1
    clear h1
    obtain ⟨hp0, hp1⟩ := hp
    intro hrg
    obtain ⟨⟨ha1a, ha1b⟩, -⟩ := hrg
    exact fun _ h => absurd h List.not_mem_nil
def pq_m_good : List mq_E := [(0, false, .aload 0), (1, false, .iconst 0), (2, false, .multianewarray 11 0), (5, false, .aload 0), (6, false, .invokestatic 0), (9, false, .ifCond .ne (Int.ofNat 14)), (12, false, .iconst (-1)), (13, false, .ireturn), (14, false, .aload 0), (15, false, .invokestatic 1), (18, false, .aload 0), (19, false, .invokestatic 2), (22, false, .invokestatic 3), (25, false, .ireturn)]
def cq_m_good : mq_C := ((yX11_good, cX11_good, 1, (some .int), { frames := 8, cells := 0, slots := 0, locals := 195 }), (1, 1, 0, 0), 19804925009534680301937098752, (fun as ρ μ => match ρ with
  | (nw, sp, tl, tx, al) => mq_pZ as 60 fun as => mq_p0 as (sq_bx (sq_inv (μ (69, 0)) (μ (76, 0))) ∧ True)),
  (fun as ρ μ r ρ' μ' => match as, ρ, ρ' with
  | [.inr (.inr (some (_, _)))], (nw, sp, tl, tx, al), (nw', sp', tl', tx', al') => []
  | _, _, _ => []))
def kq_m_good : List mq_V → mq_R → mq_M → List mq_Cu := fun as ρ μ => match as, ρ with
  | [.inr (.inr (some (_, _)))], (nw, sp, tl, tx, al) => []
  | _, _ => []
set_option maxHeartbeats 16000000 in
set_option maxRecDepth 100000 in
theorem vq_m_good (lc : Launch) (h_m_isLine : mq_Ct lc cq_m_isLine) (h_m_all : mq_Ct lc cq_m_all) (h_m_inPlaces : mq_Ct lc cq_m_inPlaces) (h_m_sizeOf : mq_Ct lc cq_m_sizeOf) : mq_Ct lc cq_m_good := by
  refine mq_method (lc := lc) (P := pq_m_good) (cl := [cq_m_isLine, cq_m_all, cq_m_inPlaces, cq_m_sizeOf]) (T := ([(120, 11, 0)], [], [], [(290, 0, 0), (464, 1, 0), (470, 2, 0), (473, 3, 1)], [], [])) (fuel := 400) (cuts := kq_m_good) (by decide) rfl ⟨rfl, rfl⟩ (List.forall_mem_cons.mpr ⟨h_m_isLine, (List.forall_mem_cons.mpr ⟨h_m_all, (List.forall_mem_cons.mpr ⟨h_m_inPlaces, (List.forall_mem_cons.mpr ⟨h_m_sizeOf, (fun _ h => absurd h List.not_mem_nil)⟩)⟩)⟩)⟩) ⟨(List.forall_mem_cons.mpr ⟨⟨_, rfl, by decide, kw_773⟩, (fun _ h => absurd h List.not_mem_nil)⟩), (fun _ h => absurd h List.not_mem_nil), (fun _ h => absurd h List.not_mem_nil), (List.forall_mem_cons.mpr ⟨mq_ml0 rfl mw0_m_isLine kw_836, (List.forall_mem_cons.mpr ⟨mq_ml0 rfl mw0_m_all kw_1076, (List.forall_mem_cons.mpr ⟨mq_ml0 rfl mw0_m_inPlaces kw_1084, (List.forall_mem_cons.mpr ⟨mq_ml1 rfl mw1_m_sizeOf kw_989, (fun _ h => absurd h List.not_mem_nil)⟩)⟩)⟩)⟩), (fun _ h => absurd h List.not_mem_nil), (fun _ h => absurd h List.not_mem_nil)⟩ (by decide +kernel) ⟨_, _, rfl⟩ ?_ ?_ ?_ ?_
  · intro as ρ μ h
    obtain ⟨nw, sp, tl, tx, al⟩ := ρ
    obtain ⟨as0, rfl, h0⟩ := mq_pZ_spec h
    clear h
    obtain ⟨rfl, hp⟩ := mq_p0_spec h0
    clear h0
    obtain ⟨hp0, hp1⟩ := hp
    rfl
  · intro as ρ μ h
    obtain ⟨nw, sp, tl, tx, al⟩ := ρ
    obtain ⟨as0, rfl, h0⟩ := mq_pZ_spec h
    clear h
    obtain ⟨rfl, hp⟩ := mq_p0_spec h0
    clear h0
    obtain ⟨hp0, hp1⟩ := hp
    intro hrg
    intro hbk
    have e0 : mq_l0 ([.inr (.inr (some (60, 0)))] : List mq_V) 1 = [some (.inr (.inr (some (60, 0))))] := rfl
    rw [e0]
    repeat' (first | refine And.intro ?_ ?_ | intro _)
    all_goals try simp only [Int.reduceToNat, Int.reduceAdd, mq_up_f, mq_up_s, mq_up_e, ne_eq, Nat.reduceEqDiff, not_false_eq_true, true_and, and_true, false_and, and_false, false_or, or_false, true_or, or_true, true_implies] at *
    all_goals first | omega | rfl | exact trivial | assumption | exact sq_m (sq_g hp0 0 (by decide) (by decide))
  · intro as ρ μ h
    obtain ⟨nw, sp, tl, tx, al⟩ := ρ
    obtain ⟨as0, rfl, h0⟩ := mq_pZ_spec h
    clear h
    obtain ⟨rfl, hp⟩ := mq_p0_spec h0
    clear h0
    obtain ⟨hp0, hp1⟩ := hp
    exact fun _ h => absurd h List.not_mem_nil
  · intro as ρ μ h
    obtain ⟨nw, sp, tl, tx, al⟩ := ρ
    obtain ⟨as0, rfl, h0⟩ := mq_pZ_spec h
    clear h
    obtain ⟨rfl, hp⟩ := mq_p0_spec h0
    clear h0
    obtain ⟨hp0, hp1⟩ := hp
    intro hrg
    exact fun _ h => absurd h List.not_mem_nil
def pq_m_breach : List mq_E := [(0, false, .aload 0), (1, false, .iconst 0), (2, false, .multianewarray 11 0), (5, false, .aload 0), (6, false, .invokestatic 0), (9, false, .ifCond .eq (Int.ofNat 24)), (12, false, .iload 1), (13, false, .i2l), (14, false, .goto_w 0), (15, false, .goto_w 2), (18, false, .invokestatic 1), (21, false, .ifCond .ne (Int.ofNat 27)), (24, false, .iconst (-2)), (26, false, .ireturn), (27, false, .aload 0), (28, false, .invokestatic 2), (31, false, .iload 1), (32, false, .ifCond .ne (Int.ofNat 42)), (35, false, .aload 0), (36, false, .invokeinterface 11 49), (39, false, .goto (Int.ofNat 58)), (42, false, .iload 1), (43, false, .iconst 1), (44, false, .if_icmp .ne (Int.ofNat 54)), (47, false, .aload 0), (48, false, .invokeinterface 11 50), (51, false, .goto (Int.ofNat 58)), (54, false, .aload 0), (55, false, .invokeinterface 11 51), (58, false, .ireturn)]
def cq_m_breach : mq_C := ((yX11_breach, cX11_breach, 2, (some .int), { frames := 8, cells := 0, slots := 0, locals := 195 }), (2, 1, 0, 0), 19804925009534680301937098752, (fun as ρ μ => match ρ with
  | (nw, sp, tl, tx, al) => mq_pZ as 60 fun as => mq_pI as fun w as => mq_p0 as (sq_bx (sq_inv (μ (69, 0)) (μ (76, 0))) ∧ True)),
  (fun as ρ μ r ρ' μ' => match as, ρ, ρ' with
  | [.inr (.inr (some (_, _))), .inl w], (nw, sp, tl, tx, al), (nw', sp', tl', tx', al') => []
  | _, _, _ => []))
def kq_m_breach : List mq_V → mq_R → mq_M → List mq_Cu := fun as ρ μ => match as, ρ with
  | [.inr (.inr (some (_, _))), .inl w], (nw, sp, tl, tx, al) => []
  | _, _ => []
set_option maxHeartbeats 16000000 in
set_option maxRecDepth 100000 in
theorem vq_m_breach (lc : Launch) (h_m_isLine : mq_Ct lc cq_m_isLine) (h_m_in : mq_Ct lc cq_m_in) (h_m_all : mq_Ct lc cq_m_all) : mq_Ct lc cq_m_breach := by
  refine mq_method (lc := lc) (P := pq_m_breach) (cl := [cq_m_isLine, cq_m_in, cq_m_all]) (T := ([(120, 11, 0), (401, 11, 49), (404, 11, 50), (407, 11, 51)], [], [(296, 2)], [(290, 0, 0), (125, 1, 1), (464, 2, 0)], [], [])) (fuel := 400) (cuts := kq_m_breach) (by decide) rfl ⟨rfl, rfl⟩ (List.forall_mem_cons.mpr ⟨h_m_isLine, (List.forall_mem_cons.mpr ⟨h_m_in, (List.forall_mem_cons.mpr ⟨h_m_all, (fun _ h => absurd h List.not_mem_nil)⟩)⟩)⟩) ⟨(List.forall_mem_cons.mpr ⟨⟨_, rfl, by decide, kw_773⟩, (List.forall_mem_cons.mpr ⟨⟨_, rfl, by decide, kw_1027⟩, (List.forall_mem_cons.mpr ⟨⟨_, rfl, by decide, kw_1028⟩, (List.forall_mem_cons.mpr ⟨⟨_, rfl, by decide, kw_1029⟩, (fun _ h => absurd h List.not_mem_nil)⟩)⟩)⟩)⟩), (fun _ h => absurd h List.not_mem_nil), (List.forall_mem_cons.mpr ⟨kw_850, (fun _ h => absurd h List.not_mem_nil)⟩), (List.forall_mem_cons.mpr ⟨mq_ml0 rfl mw0_m_isLine kw_836, (List.forall_mem_cons.mpr ⟨mq_ml1 rfl mw1_m_in kw_772, (List.forall_mem_cons.mpr ⟨mq_ml0 rfl mw0_m_all kw_1076, (fun _ h => absurd h List.not_mem_nil)⟩)⟩)⟩), (fun _ h => absurd h List.not_mem_nil), (fun _ h => absurd h List.not_mem_nil)⟩ (by decide +kernel) ⟨_, _, rfl⟩ ?_ ?_ ?_ ?_
  · intro as ρ μ h
    obtain ⟨nw, sp, tl, tx, al⟩ := ρ
    obtain ⟨as0, rfl, h0⟩ := mq_pZ_spec h
    clear h
    obtain ⟨w, as1, rfl, h1⟩ := mq_pI_spec h0
    clear h0
    obtain ⟨rfl, hp⟩ := mq_p0_spec h1
    clear h1
    obtain ⟨hp0, hp1⟩ := hp
    rfl
  · intro as ρ μ h
    obtain ⟨nw, sp, tl, tx, al⟩ := ρ
    obtain ⟨as0, rfl, h0⟩ := mq_pZ_spec h
    clear h
    obtain ⟨w, as1, rfl, h1⟩ := mq_pI_spec h0
    clear h0
    obtain ⟨rfl, hp⟩ := mq_p0_spec h1
    clear h1
    obtain ⟨hp0, hp1⟩ := hp
    intro hrg
    obtain ⟨⟨ha1a, ha1b⟩, -⟩ := hrg
    intro hbk
    have e0 : mq_l0 ([.inr (.inr (some (60, 0))), .inl w] : List mq_V) 2 = [some (.inr (.inr (some (60, 0)))), some (.inl w)] := rfl
    rw [e0]
    repeat' (first | refine And.intro ?_ ?_ | intro _)
    all_goals try simp only [Int.reduceToNat, Int.reduceAdd, mq_up_f, mq_up_s, mq_up_e, ne_eq, Nat.reduceEqDiff, not_false_eq_true, true_and, and_true, false_and, and_false, false_or, or_false, true_or, or_true, true_implies] at *
    all_goals first | omega | rfl | exact trivial | assumption | exact sq_m (sq_g hp0 0 (by decide) (by decide))
  · intro as ρ μ h
    obtain ⟨nw, sp, tl, tx, al⟩ := ρ
    obtain ⟨as0, rfl, h0⟩ := mq_pZ_spec h
    clear h
    obtain ⟨w, as1, rfl, h1⟩ := mq_pI_spec h0
    clear h0
    obtain ⟨rfl, hp⟩ := mq_p0_spec h1
    clear h1
    obtain ⟨hp0, hp1⟩ := hp
    exact fun _ h => absurd h List.not_mem_nil
  · intro as ρ μ h
    obtain ⟨nw, sp, tl, tx, al⟩ := ρ
    obtain ⟨as0, rfl, h0⟩ := mq_pZ_spec h
    clear h
    obtain ⟨w, as1, rfl, h1⟩ := mq_pI_spec h0
    clear h0
    obtain ⟨rfl, hp⟩ := mq_p0_spec h1
    clear h1
    obtain ⟨hp0, hp1⟩ := hp
    intro hrg
    obtain ⟨⟨ha1a, ha1b⟩, -⟩ := hrg
    exact fun _ h => absurd h List.not_mem_nil
def pq_m_mistake : List mq_E := [(0, false, .aload 0), (1, false, .iconst 0), (2, false, .multianewarray 11 0), (5, false, .aload 0), (6, false, .invokestatic 0), (9, false, .ifCond .eq (Int.ofNat 36)), (12, false, .iload 1), (13, false, .i2l), (14, false, .goto_w 0), (15, false, .goto_w 2), (18, false, .invokestatic 1), (21, false, .ifCond .eq (Int.ofNat 36)), (24, false, .iload 2), (25, false, .i2l), (26, false, .goto_w 0), (27, false, .goto_w 99), (30, false, .invokestatic 1), (33, false, .ifCond .ne (Int.ofNat 39)), (36, false, .iconst (-2)), (38, false, .ireturn), (39, false, .aload 0), (40, false, .invokestatic 2), (43, false, .iconst 0), (44, false, .istore 3), (45, true, .iload 3), (46, false, .aload 0), (47, false, .invokeinterface 11 19), (50, false, .iconst 6), (52, false, .jsr 6), (53, false, .if_icmp .ge (Int.ofNat 74)), (56, false, .aload 0), (57, false, .iload 3), (58, false, .iload 1), (59, false, .iload 2), (60, false, .invokestatic 3), (63, false, .ifCond .eq (Int.ofNat 68)), (66, false, .iload 3), (67, false, .ireturn), (68, false, .iinc 3 1), (71, false, .goto (Int.ofNat 45)), (74, false, .iconst (-1)), (75, false, .ireturn)]
def cq_m_mistake : mq_C := ((yX11_mistake, cX11_mistake, 4, (some .int), { frames := 8, cells := 0, slots := 0, locals := 198 }), (3, 1, 0, 0), 19804925009534680301937098752, (fun as ρ μ => match ρ with
  | (nw, sp, tl, tx, al) => mq_pZ as 60 fun as => mq_pI as fun s as => mq_pI as fun n as => mq_p0 as (sq_bx (sq_inv (μ (69, 0)) (μ (76, 0))) ∧ True)),
  (fun as ρ μ r ρ' μ' => match as, ρ, ρ' with
  | [.inr (.inr (some (_, _))), .inl s, .inl n], (nw, sp, tl, tx, al), (nw', sp', tl', tx', al') => []
  | _, _, _ => []))
def kq_m_mistake : List mq_V → mq_R → mq_M → List mq_Cu := fun as ρ μ => match as, ρ with
  | [.inr (.inr (some (_, _))), .inl s, .inl n], (nw, sp, tl, tx, al) => [(45, [true, true, true, true], fun N l st ρ' μ' cs => mq_tZ l 60 fun l => mq_tI l fun v1 l => mq_tI l fun v2 l => mq_tI l fun v3 l => mq_t0 l (st = [] ∧ ρ' = (nw, sp, tl, tx, al) ∧ cs = 0 ∧ v1 = s ∧ v2 = n ∧ 0 ≤ v3 ∧ v3 ≤ 16 ∧ 0 ≤ s ∧ s ≤ 2 ∧ 0 ≤ n ∧ n ≤ 99 ∧ sq_bx (sq_T μ') ∧ 0 ≤ (16 - v3 : Int) ∧ (16 - v3 : Int) < (N : Int)))]
  | _, _ => []
set_option maxHeartbeats 16000000 in
set_option maxRecDepth 100000 in
theorem vq_m_mistake (lc : Launch) (h_m_isLine : mq_Ct lc cq_m_isLine) (h_m_in : mq_Ct lc cq_m_in) (h_m_laysCoaches : mq_Ct lc cq_m_laysCoaches) (h_m_isWrong : mq_Ct lc cq_m_isWrong) : mq_Ct lc cq_m_mistake := by
  refine mq_method (lc := lc) (P := pq_m_mistake) (cl := [cq_m_isLine, cq_m_in, cq_m_laysCoaches, cq_m_isWrong]) (T := ([(120, 11, 0), (40, 11, 19)], [], [(296, 2), (476, 99)], [(290, 0, 0), (125, 1, 1), (455, 2, 0), (478, 3, 0)], [], [])) (fuel := 400) (cuts := kq_m_mistake) (by decide) rfl ⟨rfl, rfl⟩ (List.forall_mem_cons.mpr ⟨h_m_isLine, (List.forall_mem_cons.mpr ⟨h_m_in, (List.forall_mem_cons.mpr ⟨h_m_laysCoaches, (List.forall_mem_cons.mpr ⟨h_m_isWrong, (fun _ h => absurd h List.not_mem_nil)⟩)⟩)⟩)⟩) ⟨(List.forall_mem_cons.mpr ⟨⟨_, rfl, by decide, kw_773⟩, (List.forall_mem_cons.mpr ⟨⟨_, rfl, by decide, kw_837⟩, (fun _ h => absurd h List.not_mem_nil)⟩)⟩), (fun _ h => absurd h List.not_mem_nil), (List.forall_mem_cons.mpr ⟨kw_850, (List.forall_mem_cons.mpr ⟨kw_1071, (fun _ h => absurd h List.not_mem_nil)⟩)⟩), (List.forall_mem_cons.mpr ⟨mq_ml0 rfl mw0_m_isLine kw_836, (List.forall_mem_cons.mpr ⟨mq_ml1 rfl mw1_m_in kw_772, (List.forall_mem_cons.mpr ⟨mq_ml0 rfl mw0_m_laysCoaches kw_1053, (List.forall_mem_cons.mpr ⟨mq_ml0 rfl mw0_m_isWrong kw_1088, (fun _ h => absurd h List.not_mem_nil)⟩)⟩)⟩)⟩), (fun _ h => absurd h List.not_mem_nil), (fun _ h => absurd h List.not_mem_nil)⟩ (by decide +kernel) ⟨_, _, rfl⟩ ?_ ?_ ?_ ?_
  · intro as ρ μ h
    obtain ⟨nw, sp, tl, tx, al⟩ := ρ
    obtain ⟨as0, rfl, h0⟩ := mq_pZ_spec h
    clear h
    obtain ⟨s, as1, rfl, h1⟩ := mq_pI_spec h0
    clear h0
    obtain ⟨n, as2, rfl, h2⟩ := mq_pI_spec h1
    clear h1
    obtain ⟨rfl, hp⟩ := mq_p0_spec h2
    clear h2
    obtain ⟨hp0, hp1⟩ := hp
    rfl
  · intro as ρ μ h
    obtain ⟨nw, sp, tl, tx, al⟩ := ρ
    obtain ⟨as0, rfl, h0⟩ := mq_pZ_spec h
    clear h
    obtain ⟨s, as1, rfl, h1⟩ := mq_pI_spec h0
    clear h0
    obtain ⟨n, as2, rfl, h2⟩ := mq_pI_spec h1
    clear h1
    obtain ⟨rfl, hp⟩ := mq_p0_spec h2
    clear h2
    obtain ⟨hp0, hp1⟩ := hp
    intro hrg
    obtain ⟨⟨ha1a, ha1b⟩, ⟨ha2a, ha2b⟩, -⟩ := hrg
    intro hbk
    have hk0 : 0 ≤ μ (69, 0) 6 ∧ μ (69, 0) 6 ≤ 16 := hbk (69, 0) 6
    have e0 : mq_l0 ([.inr (.inr (some (60, 0))), .inl s, .inl n] : List mq_V) 4 = [some (.inr (.inr (some (60, 0)))), some (.inl s), some (.inl n), none] := rfl
    rw [e0]
    repeat' (first | refine And.intro ?_ ?_ | intro _)
    all_goals try simp only [Int.reduceToNat, Int.reduceAdd, mq_up_f, mq_up_s, mq_up_e, ne_eq, Nat.reduceEqDiff, not_false_eq_true, true_and, and_true, false_and, and_false, false_or, or_false, true_or, or_true, true_implies] at *
    all_goals first | omega | rfl | exact trivial | assumption | exact sq_m (sq_g hp0 0 (by decide) (by decide))
  · intro as ρ μ h
    obtain ⟨nw, sp, tl, tx, al⟩ := ρ
    obtain ⟨as0, rfl, h0⟩ := mq_pZ_spec h
    clear h
    obtain ⟨s, as1, rfl, h1⟩ := mq_pI_spec h0
    clear h0
    obtain ⟨n, as2, rfl, h2⟩ := mq_pI_spec h1
    clear h1
    obtain ⟨rfl, hp⟩ := mq_p0_spec h2
    clear h2
    obtain ⟨hp0, hp1⟩ := hp
    refine List.forall_mem_cons.mpr ⟨?_, ?_⟩
    · intro l st ρ' μ' cs hJ
      obtain ⟨l0, rfl, hJ0⟩ := mq_tZ_spec hJ
      clear hJ
      obtain ⟨v1, l1, rfl, hJ1⟩ := mq_tI_spec hJ0
      clear hJ0
      obtain ⟨v2, l2, rfl, hJ2⟩ := mq_tI_spec hJ1
      clear hJ1
      obtain ⟨v3, l3, rfl, hJ3⟩ := mq_tI_spec hJ2
      clear hJ2
      obtain ⟨rfl, hJz⟩ := mq_t0_spec hJ3
      clear hJ3
      obtain ⟨rfl, rfl, rfl, hc0, hc1, hc2, hc3, hc4, hc5, hc6, hc7, hc8, hm0, hm1⟩ := hJz
      omega
    exact fun _ h => absurd h List.not_mem_nil
  · intro as ρ μ h
    obtain ⟨nw, sp, tl, tx, al⟩ := ρ
    obtain ⟨as0, rfl, h0⟩ := mq_pZ_spec h
    clear h
    obtain ⟨s, as1, rfl, h1⟩ := mq_pI_spec h0
    clear h0
    obtain ⟨n, as2, rfl, h2⟩ := mq_pI_spec h1
    clear h1
    obtain ⟨rfl, hp⟩ := mq_p0_spec h2
    clear h2
    obtain ⟨hp0, hp1⟩ := hp
    intro hrg
    obtain ⟨⟨ha1a, ha1b⟩, ⟨ha2a, ha2b⟩, -⟩ := hrg
    refine List.forall_mem_cons.mpr ⟨?_, ?_⟩
    · intro N l st ρ' μ' cs hJ
      obtain ⟨l0, rfl, hJ0⟩ := mq_tZ_spec hJ
      clear hJ
      obtain ⟨v1, l1, rfl, hJ1⟩ := mq_tI_spec hJ0
      clear hJ0
      obtain ⟨v2, l2, rfl, hJ2⟩ := mq_tI_spec hJ1
      clear hJ1
      obtain ⟨v3, l3, rfl, hJ3⟩ := mq_tI_spec hJ2
      clear hJ2
      obtain ⟨rfl, hJz⟩ := mq_t0_spec hJ3
      clear hJ3
      obtain ⟨rfl, rfl, rfl, hc0, hc1, hc2, hc3, hc4, hc5, hc6, hc7, hc8, hm0, hm1⟩ := hJz
      intro hbk hrl
      have hk0 : 0 ≤ μ' (69, 0) 6 ∧ μ' (69, 0) 6 ≤ 16 := hbk (69, 0) 6
      obtain ⟨⟨hl1a, hl1b⟩, ⟨hl2a, hl2b⟩, ⟨hl3a, hl3b⟩, -⟩ := hrl
      repeat' (first | refine And.intro ?_ ?_ | intro _)
      all_goals try simp only [Int.reduceToNat, Int.reduceAdd, mq_up_f, mq_up_s, mq_up_e, ne_eq, Nat.reduceEqDiff, not_false_eq_true, true_and, and_true, false_and, and_false, false_or, or_false, true_or, or_true, true_implies] at *
      all_goals first | omega | rfl | exact trivial | assumption
    exact fun _ h => absurd h List.not_mem_nil
def pq_m_weak : List mq_E := [(0, false, .aload 0), (1, false, .iconst 0), (2, false, .multianewarray 11 0), (5, false, .aload 0), (6, false, .invokestatic 0), (9, false, .ifCond .eq (Int.ofNat 24)), (12, false, .iload 1), (13, false, .i2l), (14, false, .goto_w 0), (15, false, .goto_w 99), (18, false, .invokestatic 1), (21, false, .ifCond .ne (Int.ofNat 27)), (24, false, .iconst (-2)), (26, false, .ireturn), (27, false, .aload 0), (28, false, .invokestatic 2), (31, false, .iconst 0), (32, false, .istore 2), (33, false, .iconst 0), (34, false, .istore 3), (35, true, .iload 3), (36, false, .aload 0), (37, false, .invokeinterface 11 19), (40, false, .iconst 6), (42, false, .jsr 6), (43, false, .if_icmp .ge (Int.ofNat 86)), (46, false, .iconst 0), (47, false, .istore 4), (49, true, .iload 4), (51, false, .iconst 3), (52, false, .if_icmp .ge (Int.ofNat 80)), (55, false, .iload 2), (56, false, .aload 0), (57, false, .iload 3), (58, false, .iload 4), (60, false, .iload 1), (61, false, .invokestatic 3), (64, false, .ifCond .eq (Int.ofNat 71)), (67, false, .iconst 1), (68, false, .goto (Int.ofNat 72)), (71, false, .iconst 0), (72, false, .iadd), (73, false, .istore 2), (74, false, .iinc 4 1), (77, false, .goto (Int.ofNat 49)), (80, false, .iinc 3 1), (83, false, .goto (Int.ofNat 35)), (86, false, .iload 2), (87, false, .ireturn)]
def cq_m_weak : mq_C := ((yX11_weak, cX11_weak, 5, (some .int), { frames := 8, cells := 0, slots := 0, locals := 198 }), (2, 1, 0, 0), 19804925009534680301937098752, (fun as ρ μ => match ρ with
  | (nw, sp, tl, tx, al) => mq_pZ as 60 fun as => mq_pI as fun n as => mq_p0 as (sq_bx (sq_inv (μ (69, 0)) (μ (76, 0))) ∧ True)),
  (fun as ρ μ r ρ' μ' => match as, ρ, ρ' with
  | [.inr (.inr (some (_, _))), .inl n], (nw, sp, tl, tx, al), (nw', sp', tl', tx', al') => []
  | _, _, _ => []))
def kq_m_weak : List mq_V → mq_R → mq_M → List mq_Cu := fun as ρ μ => match as, ρ with
  | [.inr (.inr (some (_, _))), .inl n], (nw, sp, tl, tx, al) => [(35, [true, true, true, true, false], fun N l st ρ' μ' cs => mq_tZ l 60 fun l => mq_tI l fun v1 l => mq_tI l fun v2 l => mq_tI l fun v3 l => mq_tN l fun l => mq_t0 l (st = [] ∧ ρ' = (nw, sp, tl, tx, al) ∧ cs = 0 ∧ v1 = n ∧ 0 ≤ v3 ∧ v3 ≤ 16 ∧ 0 ≤ v2 ∧ v2 ≤ 3 * v3 ∧ 0 ≤ n ∧ n ≤ 99 ∧ sq_bx (sq_T μ') ∧ 0 ≤ (10 * (16 - v3) : Int) ∧ (10 * (16 - v3) : Int) < (N : Int))),
    (49, [true, true, true, true, true], fun N l st ρ' μ' cs => mq_tZ l 60 fun l => mq_tI l fun v1 l => mq_tI l fun v2 l => mq_tI l fun v3 l => mq_tI l fun v4 l => mq_t0 l (st = [] ∧ ρ' = (nw, sp, tl, tx, al) ∧ cs = 0 ∧ v1 = n ∧ 0 ≤ v3 ∧ v3 ≤ 15 ∧ 0 ≤ v4 ∧ v4 ≤ 3 ∧ 0 ≤ v2 ∧ v2 ≤ 3 * v3 + v4 ∧ 0 ≤ n ∧ n ≤ 99 ∧ sq_bx (sq_T μ') ∧ 0 ≤ (10 * (16 - v3) - 1 - v4 : Int) ∧ (10 * (16 - v3) - 1 - v4 : Int) < (N : Int)))]
  | _, _ => []
set_option maxHeartbeats 16000000 in
set_option maxRecDepth 100000 in
theorem vq_m_weak (lc : Launch) (h_m_isLine : mq_Ct lc cq_m_isLine) (h_m_in : mq_Ct lc cq_m_in) (h_m_laysCoaches : mq_Ct lc cq_m_laysCoaches) (h_m_isWrong : mq_Ct lc cq_m_isWrong) : mq_Ct lc cq_m_weak := by
  refine mq_method (lc := lc) (P := pq_m_weak) (cl := [cq_m_isLine, cq_m_in, cq_m_laysCoaches, cq_m_isWrong]) (T := ([(120, 11, 0), (40, 11, 19)], [], [(476, 99)], [(290, 0, 0), (125, 1, 1), (455, 2, 0), (478, 3, 0)], [], [])) (fuel := 400) (cuts := kq_m_weak) (by decide) rfl ⟨rfl, rfl⟩ (List.forall_mem_cons.mpr ⟨h_m_isLine, (List.forall_mem_cons.mpr ⟨h_m_in, (List.forall_mem_cons.mpr ⟨h_m_laysCoaches, (List.forall_mem_cons.mpr ⟨h_m_isWrong, (fun _ h => absurd h List.not_mem_nil)⟩)⟩)⟩)⟩) ⟨(List.forall_mem_cons.mpr ⟨⟨_, rfl, by decide, kw_773⟩, (List.forall_mem_cons.mpr ⟨⟨_, rfl, by decide, kw_837⟩, (fun _ h => absurd h List.not_mem_nil)⟩)⟩), (fun _ h => absurd h List.not_mem_nil), (List.forall_mem_cons.mpr ⟨kw_1071, (fun _ h => absurd h List.not_mem_nil)⟩), (List.forall_mem_cons.mpr ⟨mq_ml0 rfl mw0_m_isLine kw_836, (List.forall_mem_cons.mpr ⟨mq_ml1 rfl mw1_m_in kw_772, (List.forall_mem_cons.mpr ⟨mq_ml0 rfl mw0_m_laysCoaches kw_1053, (List.forall_mem_cons.mpr ⟨mq_ml0 rfl mw0_m_isWrong kw_1088, (fun _ h => absurd h List.not_mem_nil)⟩)⟩)⟩)⟩), (fun _ h => absurd h List.not_mem_nil), (fun _ h => absurd h List.not_mem_nil)⟩ (by decide +kernel) ⟨_, _, rfl⟩ ?_ ?_ ?_ ?_
  · intro as ρ μ h
    obtain ⟨nw, sp, tl, tx, al⟩ := ρ
    obtain ⟨as0, rfl, h0⟩ := mq_pZ_spec h
    clear h
    obtain ⟨n, as1, rfl, h1⟩ := mq_pI_spec h0
    clear h0
    obtain ⟨rfl, hp⟩ := mq_p0_spec h1
    clear h1
    obtain ⟨hp0, hp1⟩ := hp
    rfl
  · intro as ρ μ h
    obtain ⟨nw, sp, tl, tx, al⟩ := ρ
    obtain ⟨as0, rfl, h0⟩ := mq_pZ_spec h
    clear h
    obtain ⟨n, as1, rfl, h1⟩ := mq_pI_spec h0
    clear h0
    obtain ⟨rfl, hp⟩ := mq_p0_spec h1
    clear h1
    obtain ⟨hp0, hp1⟩ := hp
    intro hrg
    obtain ⟨⟨ha1a, ha1b⟩, -⟩ := hrg
    intro hbk
    have hk0 : 0 ≤ μ (69, 0) 6 ∧ μ (69, 0) 6 ≤ 16 := hbk (69, 0) 6
    have e0 : mq_l0 ([.inr (.inr (some (60, 0))), .inl n] : List mq_V) 5 = [some (.inr (.inr (some (60, 0)))), some (.inl n), none, none, none] := rfl
    rw [e0]
    repeat' (first | refine And.intro ?_ ?_ | intro _)
    all_goals try simp only [Int.reduceToNat, Int.reduceAdd, mq_up_f, mq_up_s, mq_up_e, ne_eq, Nat.reduceEqDiff, not_false_eq_true, true_and, and_true, false_and, and_false, false_or, or_false, true_or, or_true, true_implies] at *
    all_goals first | omega | rfl | exact trivial | assumption | exact sq_m (sq_g hp0 0 (by decide) (by decide))
  · intro as ρ μ h
    obtain ⟨nw, sp, tl, tx, al⟩ := ρ
    obtain ⟨as0, rfl, h0⟩ := mq_pZ_spec h
    clear h
    obtain ⟨n, as1, rfl, h1⟩ := mq_pI_spec h0
    clear h0
    obtain ⟨rfl, hp⟩ := mq_p0_spec h1
    clear h1
    obtain ⟨hp0, hp1⟩ := hp
    refine List.forall_mem_cons.mpr ⟨?_, ?_⟩
    · intro l st ρ' μ' cs hJ
      obtain ⟨l0, rfl, hJ0⟩ := mq_tZ_spec hJ
      clear hJ
      obtain ⟨v1, l1, rfl, hJ1⟩ := mq_tI_spec hJ0
      clear hJ0
      obtain ⟨v2, l2, rfl, hJ2⟩ := mq_tI_spec hJ1
      clear hJ1
      obtain ⟨v3, l3, rfl, hJ3⟩ := mq_tI_spec hJ2
      clear hJ2
      obtain ⟨l4, rfl, hJ4⟩ := mq_tN_spec hJ3
      clear hJ3
      obtain ⟨rfl, hJz⟩ := mq_t0_spec hJ4
      clear hJ4
      obtain ⟨rfl, rfl, rfl, hc0, hc1, hc2, hc3, hc4, hc5, hc6, hc7, hm0, hm1⟩ := hJz
      omega
    refine List.forall_mem_cons.mpr ⟨?_, ?_⟩
    · intro l st ρ' μ' cs hJ
      obtain ⟨l0, rfl, hJ0⟩ := mq_tZ_spec hJ
      clear hJ
      obtain ⟨v1, l1, rfl, hJ1⟩ := mq_tI_spec hJ0
      clear hJ0
      obtain ⟨v2, l2, rfl, hJ2⟩ := mq_tI_spec hJ1
      clear hJ1
      obtain ⟨v3, l3, rfl, hJ3⟩ := mq_tI_spec hJ2
      clear hJ2
      obtain ⟨v4, l4, rfl, hJ4⟩ := mq_tI_spec hJ3
      clear hJ3
      obtain ⟨rfl, hJz⟩ := mq_t0_spec hJ4
      clear hJ4
      obtain ⟨rfl, rfl, rfl, hc0, hc1, hc2, hc3, hc4, hc5, hc6, hc7, hc8, hc9, hm0, hm1⟩ := hJz
      omega
    exact fun _ h => absurd h List.not_mem_nil
  · intro as ρ μ h
    obtain ⟨nw, sp, tl, tx, al⟩ := ρ
    obtain ⟨as0, rfl, h0⟩ := mq_pZ_spec h
    clear h
    obtain ⟨n, as1, rfl, h1⟩ := mq_pI_spec h0
    clear h0
    obtain ⟨rfl, hp⟩ := mq_p0_spec h1
    clear h1
    obtain ⟨hp0, hp1⟩ := hp
    intro hrg
    obtain ⟨⟨ha1a, ha1b⟩, -⟩ := hrg
    refine List.forall_mem_cons.mpr ⟨?_, ?_⟩
    · intro N l st ρ' μ' cs hJ
      obtain ⟨l0, rfl, hJ0⟩ := mq_tZ_spec hJ
      clear hJ
      obtain ⟨v1, l1, rfl, hJ1⟩ := mq_tI_spec hJ0
      clear hJ0
      obtain ⟨v2, l2, rfl, hJ2⟩ := mq_tI_spec hJ1
      clear hJ1
      obtain ⟨v3, l3, rfl, hJ3⟩ := mq_tI_spec hJ2
      clear hJ2
      obtain ⟨l4, rfl, hJ4⟩ := mq_tN_spec hJ3
      clear hJ3
      obtain ⟨rfl, hJz⟩ := mq_t0_spec hJ4
      clear hJ4
      obtain ⟨rfl, rfl, rfl, hc0, hc1, hc2, hc3, hc4, hc5, hc6, hc7, hm0, hm1⟩ := hJz
      intro hbk hrl
      have hk0 : 0 ≤ μ' (69, 0) 6 ∧ μ' (69, 0) 6 ≤ 16 := hbk (69, 0) 6
      obtain ⟨⟨hl1a, hl1b⟩, ⟨hl2a, hl2b⟩, ⟨hl3a, hl3b⟩, -⟩ := hrl
      repeat' (first | refine And.intro ?_ ?_ | intro _)
      all_goals try simp only [Int.reduceToNat, Int.reduceAdd, mq_up_f, mq_up_s, mq_up_e, ne_eq, Nat.reduceEqDiff, not_false_eq_true, true_and, and_true, false_and, and_false, false_or, or_false, true_or, or_true, true_implies] at *
      all_goals first | omega | rfl | exact trivial | assumption
    refine List.forall_mem_cons.mpr ⟨?_, ?_⟩
    · intro N l st ρ' μ' cs hJ
      obtain ⟨l0, rfl, hJ0⟩ := mq_tZ_spec hJ
      clear hJ
      obtain ⟨v1, l1, rfl, hJ1⟩ := mq_tI_spec hJ0
      clear hJ0
      obtain ⟨v2, l2, rfl, hJ2⟩ := mq_tI_spec hJ1
      clear hJ1
      obtain ⟨v3, l3, rfl, hJ3⟩ := mq_tI_spec hJ2
      clear hJ2
      obtain ⟨v4, l4, rfl, hJ4⟩ := mq_tI_spec hJ3
      clear hJ3
      obtain ⟨rfl, hJz⟩ := mq_t0_spec hJ4
      clear hJ4
      obtain ⟨rfl, rfl, rfl, hc0, hc1, hc2, hc3, hc4, hc5, hc6, hc7, hc8, hc9, hm0, hm1⟩ := hJz
      intro hbk hrl
      have hk0 : 0 ≤ μ' (69, 0) 6 ∧ μ' (69, 0) 6 ≤ 16 := hbk (69, 0) 6
      obtain ⟨⟨hl1a, hl1b⟩, ⟨hl2a, hl2b⟩, ⟨hl3a, hl3b⟩, ⟨hl4a, hl4b⟩, -⟩ := hrl
      repeat' (first | refine And.intro ?_ ?_ | intro _)
      all_goals try simp only [Int.reduceToNat, Int.reduceAdd, mq_up_f, mq_up_s, mq_up_e, ne_eq, Nat.reduceEqDiff, not_false_eq_true, true_and, and_true, false_and, and_false, false_or, or_false, true_or, or_true, true_implies] at *
      all_goals first | omega | rfl | exact trivial | assumption
    exact fun _ h => absurd h List.not_mem_nil
def pq_m_start : List mq_E := [(0, false, .aload 0), (1, false, .iconst 0), (2, false, .multianewarray 11 0), (5, false, .aload 0), (6, false, .iload 1), (7, false, .invokestatic 0), (10, false, .ifCond .ne (Int.ofNat 16)), (13, false, .iconst (-2)), (15, false, .ireturn), (16, false, .aload 0), (17, false, .invokestatic 1), (20, false, .aload 0), (21, false, .invokestatic 2), (24, false, .aload 0), (25, false, .invokeinterface 11 25), (28, false, .iconst 3), (29, false, .iload 1), (30, false, .imul), (31, false, .jsr 0), (32, false, .istore 2), (33, false, .iconst (-1)), (34, false, .istore 3), (35, false, .iconst 0), (36, false, .istore 4), (38, true, .iload 4), (40, false, .iconst 300), (43, false, .if_icmp .gt (Int.ofNat 86)), (46, false, .iload 3), (47, false, .iconst (-1)), (48, false, .if_icmp .ne (Int.ofNat 86)), (51, false, .aload 0), (52, false, .invokeinterface 11 25), (55, false, .iconst 3), (56, false, .iload 1), (57, false, .imul), (58, false, .iload 4), (60, false, .jsr_w 0), (61, false, .aload 0), (62, false, .invokestatic 3), (65, false, .aload 0), (66, false, .invokeinterface 11 49), (69, false, .iconst (-1)), (70, false, .if_icmp .ne (Int.ofNat 78)), (73, false, .iload 4), (75, false, .goto (Int.ofNat 79)), (78, false, .iconst (-1)), (79, false, .istore 3), (80, false, .iinc 4 1), (83, false, .goto (Int.ofNat 38)), (86, false, .aload 0), (87, false, .invokeinterface 11 25), (90, false, .iconst 3), (91, false, .iload 1), (92, false, .imul), (93, false, .iload 2), (94, false, .jsr_w 0), (95, false, .iload 3), (96, false, .ireturn)]
def cq_m_start : mq_C := ((yX11_start, cX11_start, 5, (some .int), { frames := 7, cells := 0, slots := 0, locals := 175 }), (2, 1, 0, 0), 19804962788466543259098808320, (fun as ρ μ => match ρ with
  | (nw, sp, tl, tx, al) => mq_pZ as 60 fun as => mq_pI as fun t as => mq_p0 as (sq_bx (sq_inv (μ (69, 0)) (μ (76, 0))) ∧ True)),
  (fun as ρ μ r ρ' μ' => match as, ρ, ρ' with
  | [.inr (.inr (some (_, _))), .inl t], (nw, sp, tl, tx, al), (nw', sp', tl', tx', al') => []
  | _, _, _ => []))
def kq_m_start : List mq_V → mq_R → mq_M → List mq_Cu := fun as ρ μ => match as, ρ with
  | [.inr (.inr (some (_, _))), .inl t], (nw, sp, tl, tx, al) => [(38, [true, true, true, true, true], fun N l st ρ' μ' cs => mq_tZ l 60 fun l => mq_tI l fun v1 l => mq_tI l fun v2 l => mq_tI l fun v3 l => mq_tI l fun v4 l => mq_t0 l (st = [] ∧ ρ' = (nw, sp, tl, tx, al) ∧ cs = 0 ∧ v1 = t ∧ -1 ≤ v3 ∧ v3 ≤ 300 ∧ 0 ≤ v4 ∧ v4 ≤ 301 ∧ 0 ≤ v2 ∧ v2 ≤ 300 ∧ 0 ≤ t ∧ t ≤ 4 ∧ sq_bx (sq_T μ') ∧ 0 ≤ (301 - v4 : Int) ∧ (301 - v4 : Int) < (N : Int)))]
  | _, _ => []
set_option maxHeartbeats 16000000 in
set_option maxRecDepth 100000 in
theorem vq_m_start (lc : Launch) (h_m_isTrain : mq_Ct lc cq_m_isTrain) (h_m_laysCoaches : mq_Ct lc cq_m_laysCoaches) (h_m_right : mq_Ct lc cq_m_right) (h_m_goes : mq_Ct lc cq_m_goes) : mq_Ct lc cq_m_start := by
  refine mq_method (lc := lc) (P := pq_m_start) (cl := [cq_m_isTrain, cq_m_laysCoaches, cq_m_right, cq_m_goes]) (T := ([(120, 11, 0), (58, 11, 25), (401, 11, 49)], [], [], [(314, 0, 0), (455, 1, 0), (458, 2, 0), (461, 3, 0)], [], [])) (fuel := 400) (cuts := kq_m_start) (by decide) rfl ⟨rfl, rfl⟩ (List.forall_mem_cons.mpr ⟨h_m_isTrain, (List.forall_mem_cons.mpr ⟨h_m_laysCoaches, (List.forall_mem_cons.mpr ⟨h_m_right, (List.forall_mem_cons.mpr ⟨h_m_goes, (fun _ h => absurd h List.not_mem_nil)⟩)⟩)⟩)⟩) ⟨(List.forall_mem_cons.mpr ⟨⟨_, rfl, by decide, kw_773⟩, (List.forall_mem_cons.mpr ⟨⟨_, rfl, by decide, kw_840⟩, (List.forall_mem_cons.mpr ⟨⟨_, rfl, by decide, kw_1027⟩, (fun _ h => absurd h List.not_mem_nil)⟩)⟩)⟩), (fun _ h => absurd h List.not_mem_nil), (fun _ h => absurd h List.not_mem_nil), (List.forall_mem_cons.mpr ⟨mq_ml0 rfl mw0_m_isTrain kw_845, (List.forall_mem_cons.mpr ⟨mq_ml0 rfl mw0_m_laysCoaches kw_1053, (List.forall_mem_cons.mpr ⟨mq_ml0 rfl mw0_m_right kw_1057, (List.forall_mem_cons.mpr ⟨mq_ml0 rfl mw0_m_goes kw_1061, (fun _ h => absurd h List.not_mem_nil)⟩)⟩)⟩)⟩), (fun _ h => absurd h List.not_mem_nil), (fun _ h => absurd h List.not_mem_nil)⟩ (by decide +kernel) ⟨_, _, rfl⟩ ?_ ?_ ?_ ?_
  · intro as ρ μ h
    obtain ⟨nw, sp, tl, tx, al⟩ := ρ
    obtain ⟨as0, rfl, h0⟩ := mq_pZ_spec h
    clear h
    obtain ⟨t, as1, rfl, h1⟩ := mq_pI_spec h0
    clear h0
    obtain ⟨rfl, hp⟩ := mq_p0_spec h1
    clear h1
    obtain ⟨hp0, hp1⟩ := hp
    rfl
  · intro as ρ μ h
    obtain ⟨nw, sp, tl, tx, al⟩ := ρ
    obtain ⟨as0, rfl, h0⟩ := mq_pZ_spec h
    clear h
    obtain ⟨t, as1, rfl, h1⟩ := mq_pI_spec h0
    clear h0
    obtain ⟨rfl, hp⟩ := mq_p0_spec h1
    clear h1
    obtain ⟨hp0, hp1⟩ := hp
    intro hrg
    obtain ⟨⟨ha1a, ha1b⟩, -⟩ := hrg
    intro hbk
    have e0 : mq_l0 ([.inr (.inr (some (60, 0))), .inl t] : List mq_V) 5 = [some (.inr (.inr (some (60, 0)))), some (.inl t), none, none, none] := rfl
    rw [e0]
    repeat' (first | refine And.intro ?_ ?_ | intro _)
    all_goals try simp only [Int.reduceToNat, Int.reduceAdd, mq_up_f, mq_up_s, mq_up_e, ne_eq, Nat.reduceEqDiff, not_false_eq_true, true_and, and_true, false_and, and_false, false_or, or_false, true_or, or_true, true_implies] at *
    all_goals first | omega | rfl | exact trivial | assumption | exact sq_m (sq_g hp0 0 (by decide) (by decide)) | exact sq_m (sq_T_ag0 ‹mq_ag _ _ _› (by decide +kernel) (sq_g ‹_›))
  · intro as ρ μ h
    obtain ⟨nw, sp, tl, tx, al⟩ := ρ
    obtain ⟨as0, rfl, h0⟩ := mq_pZ_spec h
    clear h
    obtain ⟨t, as1, rfl, h1⟩ := mq_pI_spec h0
    clear h0
    obtain ⟨rfl, hp⟩ := mq_p0_spec h1
    clear h1
    obtain ⟨hp0, hp1⟩ := hp
    refine List.forall_mem_cons.mpr ⟨?_, ?_⟩
    · intro l st ρ' μ' cs hJ
      obtain ⟨l0, rfl, hJ0⟩ := mq_tZ_spec hJ
      clear hJ
      obtain ⟨v1, l1, rfl, hJ1⟩ := mq_tI_spec hJ0
      clear hJ0
      obtain ⟨v2, l2, rfl, hJ2⟩ := mq_tI_spec hJ1
      clear hJ1
      obtain ⟨v3, l3, rfl, hJ3⟩ := mq_tI_spec hJ2
      clear hJ2
      obtain ⟨v4, l4, rfl, hJ4⟩ := mq_tI_spec hJ3
      clear hJ3
      obtain ⟨rfl, hJz⟩ := mq_t0_spec hJ4
      clear hJ4
      obtain ⟨rfl, rfl, rfl, hc0, hc1, hc2, hc3, hc4, hc5, hc6, hc7, hc8, hc9, hm0, hm1⟩ := hJz
      omega
    exact fun _ h => absurd h List.not_mem_nil
  · intro as ρ μ h
    obtain ⟨nw, sp, tl, tx, al⟩ := ρ
    obtain ⟨as0, rfl, h0⟩ := mq_pZ_spec h
    clear h
    obtain ⟨t, as1, rfl, h1⟩ := mq_pI_spec h0
    clear h0
    obtain ⟨rfl, hp⟩ := mq_p0_spec h1
    clear h1
    obtain ⟨hp0, hp1⟩ := hp
    intro hrg
    obtain ⟨⟨ha1a, ha1b⟩, -⟩ := hrg
    refine List.forall_mem_cons.mpr ⟨?_, ?_⟩
    · intro N l st ρ' μ' cs hJ
      obtain ⟨l0, rfl, hJ0⟩ := mq_tZ_spec hJ
      clear hJ
      obtain ⟨v1, l1, rfl, hJ1⟩ := mq_tI_spec hJ0
      clear hJ0
      obtain ⟨v2, l2, rfl, hJ2⟩ := mq_tI_spec hJ1
      clear hJ1
      obtain ⟨v3, l3, rfl, hJ3⟩ := mq_tI_spec hJ2
      clear hJ2
      obtain ⟨v4, l4, rfl, hJ4⟩ := mq_tI_spec hJ3
      clear hJ3
      obtain ⟨rfl, hJz⟩ := mq_t0_spec hJ4
      clear hJ4
      obtain ⟨rfl, rfl, rfl, hc0, hc1, hc2, hc3, hc4, hc5, hc6, hc7, hc8, hc9, hm0, hm1⟩ := hJz
      intro hbk hrl
      obtain ⟨⟨hl1a, hl1b⟩, ⟨hl2a, hl2b⟩, ⟨hl3a, hl3b⟩, ⟨hl4a, hl4b⟩, -⟩ := hrl
      subst hc0
      repeat' (first | refine And.intro ?_ ?_ | intro _)
      all_goals try simp only [Int.reduceToNat, Int.reduceAdd, mq_up_f, mq_up_s, mq_up_e, ne_eq, Nat.reduceEqDiff, not_false_eq_true, true_and, and_true, false_and, and_false, false_or, or_false, true_or, or_true, true_implies] at *
      all_goals first | omega | rfl | exact trivial | assumption | exact sq_m (sq_T_ag0 (md := 2 ^ 75) (by repeat (first | exact mq_ag_rf _ _ | refine mq_ag_upn ?_ (by decide +kernel))) (by decide +kernel) (sq_g hc9))
    exact fun _ h => absurd h List.not_mem_nil
def pq_m_saved : List mq_E := [(0, false, .aload 0), (1, false, .iconst 0), (2, false, .multianewarray 11 0), (5, false, .aload 0), (6, false, .iload 1), (7, false, .invokestatic 0), (10, false, .ifCond .eq (Int.ofNat 25)), (13, false, .iload 2), (14, false, .i2l), (15, false, .goto_w 0), (16, false, .goto_w 99), (19, false, .invokestatic 1), (22, false, .ifCond .ne (Int.ofNat 29)), (25, false, .iconst (-1000000)), (28, false, .ireturn), (29, false, .iconst 0), (30, false, .istore 3), (31, false, .iconst 0), (32, false, .istore 4), (34, true, .iload 4), (36, false, .aload 0), (37, false, .invokeinterface 11 19), (40, false, .iconst 6), (42, false, .jsr 6), (43, false, .if_icmp .ge (Int.ofNat 81)), (46, false, .aload 0), (47, false, .invokeinterface 11 26), (50, false, .iconst 5), (51, false, .iload 4), (53, false, .imul), (54, false, .jsr 0), (55, false, .iload 1), (56, false, .if_icmp .ne (Int.ofNat 75)), (59, false, .iload 3), (60, false, .iconst 1), (61, false, .aload 0), (62, false, .invokeinterface 11 26), (65, false, .iconst 5), (66, false, .iload 4), (68, false, .imul), (69, false, .iconst 2), (70, false, .iadd), (71, false, .jsr 2), (72, false, .ishl), (73, false, .ior), (74, false, .istore 3), (75, false, .iinc 4 1), (78, false, .goto (Int.ofNat 34)), (81, false, .aload 0), (82, false, .invokestatic 2), (85, false, .aload 0), (86, false, .iload 1), (87, false, .iconst 1), (88, false, .invokestatic 3), (91, false, .iload 2), (92, false, .iload 3), (93, false, .invokestatic 4), (96, false, .fmul), (97, false, .fadd), (98, false, .aload 0), (99, false, .iload 1), (100, false, .iconst 0), (101, false, .invokestatic 3), (104, false, .fsub), (105, false, .ireturn)]
def cq_m_saved : mq_C := ((yX11_saved, cX11_saved, 5, (some .int), { frames := 8, cells := 0, slots := 0, locals := 197 }), (3, 1, 0, 0), 19804925009534680301937098752, (fun as ρ μ => match ρ with
  | (nw, sp, tl, tx, al) => mq_pZ as 60 fun as => mq_pI as fun t as => mq_pI as fun n as => mq_p0 as (sq_bx (sq_inv (μ (69, 0)) (μ (76, 0))) ∧ True)),
  (fun as ρ μ r ρ' μ' => match as, ρ, ρ' with
  | [.inr (.inr (some (_, _))), .inl t, .inl n], (nw, sp, tl, tx, al), (nw', sp', tl', tx', al') => []
  | _, _, _ => []))
def kq_m_saved : List mq_V → mq_R → mq_M → List mq_Cu := fun as ρ μ => match as, ρ with
  | [.inr (.inr (some (_, _))), .inl t, .inl n], (nw, sp, tl, tx, al) => [(34, [true, true, true, true, true], fun N l st ρ' μ' cs => mq_tZ l 60 fun l => mq_tI l fun v1 l => mq_tI l fun v2 l => mq_tI l fun v3 l => mq_tI l fun v4 l => mq_t0 l (st = [] ∧ ρ' = (nw, sp, tl, tx, al) ∧ cs = 0 ∧ v1 = t ∧ v2 = n ∧ 0 ≤ v4 ∧ v4 ≤ 16 ∧ 0 ≤ t ∧ t ≤ 4 ∧ sq_bx (sq_pl (μ' (69, 0)) (μ' (76, 0)) 0) ∧ 0 ≤ (16 - v4 : Int) ∧ (16 - v4 : Int) < (N : Int)))]
  | _, _ => []
set_option maxHeartbeats 16000000 in
set_option maxRecDepth 100000 in
theorem vq_m_saved (lc : Launch) (h_m_isTrain : mq_Ct lc cq_m_isTrain) (h_m_in : mq_Ct lc cq_m_in) (h_m_laysCoaches : mq_Ct lc cq_m_laysCoaches) (h_m_needs : mq_Ct lc cq_m_needs) (h_m_sizeOf : mq_Ct lc cq_m_sizeOf) : mq_Ct lc cq_m_saved := by
  refine mq_method (lc := lc) (P := pq_m_saved) (cl := [cq_m_isTrain, cq_m_in, cq_m_laysCoaches, cq_m_needs, cq_m_sizeOf]) (T := ([(120, 11, 0), (40, 11, 19), (61, 11, 26)], [(389, (-1000000))], [(476, 99)], [(314, 0, 0), (125, 1, 1), (455, 2, 0), (487, 3, 0), (473, 4, 1)], [], [])) (fuel := 400) (cuts := kq_m_saved) (by decide) rfl ⟨rfl, rfl⟩ (List.forall_mem_cons.mpr ⟨h_m_isTrain, (List.forall_mem_cons.mpr ⟨h_m_in, (List.forall_mem_cons.mpr ⟨h_m_laysCoaches, (List.forall_mem_cons.mpr ⟨h_m_needs, (List.forall_mem_cons.mpr ⟨h_m_sizeOf, (fun _ h => absurd h List.not_mem_nil)⟩)⟩)⟩)⟩)⟩) ⟨(List.forall_mem_cons.mpr ⟨⟨_, rfl, by decide, kw_773⟩, (List.forall_mem_cons.mpr ⟨⟨_, rfl, by decide, kw_837⟩, (List.forall_mem_cons.mpr ⟨⟨_, rfl, by decide, kw_867⟩, (fun _ h => absurd h List.not_mem_nil)⟩)⟩)⟩), (List.forall_mem_cons.mpr ⟨kw_955, (fun _ h => absurd h List.not_mem_nil)⟩), (List.forall_mem_cons.mpr ⟨kw_1071, (fun _ h => absurd h List.not_mem_nil)⟩), (List.forall_mem_cons.mpr ⟨mq_ml0 rfl mw0_m_isTrain kw_845, (List.forall_mem_cons.mpr ⟨mq_ml1 rfl mw1_m_in kw_772, (List.forall_mem_cons.mpr ⟨mq_ml0 rfl mw0_m_laysCoaches kw_1053, (List.forall_mem_cons.mpr ⟨mq_ml0 rfl mw0_m_needs kw_1092, (List.forall_mem_cons.mpr ⟨mq_ml1 rfl mw1_m_sizeOf kw_989, (fun _ h => absurd h List.not_mem_nil)⟩)⟩)⟩)⟩)⟩), (fun _ h => absurd h List.not_mem_nil), (fun _ h => absurd h List.not_mem_nil)⟩ (by decide +kernel) ⟨_, _, rfl⟩ ?_ ?_ ?_ ?_
  · intro as ρ μ h
    obtain ⟨nw, sp, tl, tx, al⟩ := ρ
    obtain ⟨as0, rfl, h0⟩ := mq_pZ_spec h
    clear h
    obtain ⟨t, as1, rfl, h1⟩ := mq_pI_spec h0
    clear h0
    obtain ⟨n, as2, rfl, h2⟩ := mq_pI_spec h1
    clear h1
    obtain ⟨rfl, hp⟩ := mq_p0_spec h2
    clear h2
    obtain ⟨hp0, hp1⟩ := hp
    rfl
  · intro as ρ μ h
    obtain ⟨nw, sp, tl, tx, al⟩ := ρ
    obtain ⟨as0, rfl, h0⟩ := mq_pZ_spec h
    clear h
    obtain ⟨t, as1, rfl, h1⟩ := mq_pI_spec h0
    clear h0
    obtain ⟨n, as2, rfl, h2⟩ := mq_pI_spec h1
    clear h1
    obtain ⟨rfl, hp⟩ := mq_p0_spec h2
    clear h2
    obtain ⟨hp0, hp1⟩ := hp
    intro hrg
    obtain ⟨⟨ha1a, ha1b⟩, ⟨ha2a, ha2b⟩, -⟩ := hrg
    intro hbk
    have hk0 : 0 ≤ μ (69, 0) 6 ∧ μ (69, 0) 6 ≤ 16 := hbk (69, 0) 6
    have e0 : mq_l0 ([.inr (.inr (some (60, 0))), .inl t, .inl n] : List mq_V) 5 = [some (.inr (.inr (some (60, 0)))), some (.inl t), some (.inl n), none, none] := rfl
    rw [e0]
    repeat' (first | refine And.intro ?_ ?_ | intro _)
    all_goals try simp only [Int.reduceToNat, Int.reduceAdd, mq_up_f, mq_up_s, mq_up_e, ne_eq, Nat.reduceEqDiff, not_false_eq_true, true_and, and_true, false_and, and_false, false_or, or_false, true_or, or_true, true_implies] at *
    all_goals first | omega | rfl | exact trivial | assumption | exact sq_m (sq_g hp0 0 (by decide) (by decide))
  · intro as ρ μ h
    obtain ⟨nw, sp, tl, tx, al⟩ := ρ
    obtain ⟨as0, rfl, h0⟩ := mq_pZ_spec h
    clear h
    obtain ⟨t, as1, rfl, h1⟩ := mq_pI_spec h0
    clear h0
    obtain ⟨n, as2, rfl, h2⟩ := mq_pI_spec h1
    clear h1
    obtain ⟨rfl, hp⟩ := mq_p0_spec h2
    clear h2
    obtain ⟨hp0, hp1⟩ := hp
    refine List.forall_mem_cons.mpr ⟨?_, ?_⟩
    · intro l st ρ' μ' cs hJ
      obtain ⟨l0, rfl, hJ0⟩ := mq_tZ_spec hJ
      clear hJ
      obtain ⟨v1, l1, rfl, hJ1⟩ := mq_tI_spec hJ0
      clear hJ0
      obtain ⟨v2, l2, rfl, hJ2⟩ := mq_tI_spec hJ1
      clear hJ1
      obtain ⟨v3, l3, rfl, hJ3⟩ := mq_tI_spec hJ2
      clear hJ2
      obtain ⟨v4, l4, rfl, hJ4⟩ := mq_tI_spec hJ3
      clear hJ3
      obtain ⟨rfl, hJz⟩ := mq_t0_spec hJ4
      clear hJ4
      obtain ⟨rfl, rfl, rfl, hc0, hc1, hc2, hc3, hc4, hc5, hc6, hm0, hm1⟩ := hJz
      omega
    exact fun _ h => absurd h List.not_mem_nil
  · intro as ρ μ h
    obtain ⟨nw, sp, tl, tx, al⟩ := ρ
    obtain ⟨as0, rfl, h0⟩ := mq_pZ_spec h
    clear h
    obtain ⟨t, as1, rfl, h1⟩ := mq_pI_spec h0
    clear h0
    obtain ⟨n, as2, rfl, h2⟩ := mq_pI_spec h1
    clear h1
    obtain ⟨rfl, hp⟩ := mq_p0_spec h2
    clear h2
    obtain ⟨hp0, hp1⟩ := hp
    intro hrg
    obtain ⟨⟨ha1a, ha1b⟩, ⟨ha2a, ha2b⟩, -⟩ := hrg
    refine List.forall_mem_cons.mpr ⟨?_, ?_⟩
    · intro N l st ρ' μ' cs hJ
      obtain ⟨l0, rfl, hJ0⟩ := mq_tZ_spec hJ
      clear hJ
      obtain ⟨v1, l1, rfl, hJ1⟩ := mq_tI_spec hJ0
      clear hJ0
      obtain ⟨v2, l2, rfl, hJ2⟩ := mq_tI_spec hJ1
      clear hJ1
      obtain ⟨v3, l3, rfl, hJ3⟩ := mq_tI_spec hJ2
      clear hJ2
      obtain ⟨v4, l4, rfl, hJ4⟩ := mq_tI_spec hJ3
      clear hJ3
      obtain ⟨rfl, hJz⟩ := mq_t0_spec hJ4
      clear hJ4
      obtain ⟨rfl, rfl, rfl, hc0, hc1, hc2, hc3, hc4, hc5, hc6, hm0, hm1⟩ := hJz
      intro hbk hrl
      have hk0 : 0 ≤ μ' (69, 0) 6 ∧ μ' (69, 0) 6 ≤ 16 := hbk (69, 0) 6
      obtain ⟨⟨hl1a, hl1b⟩, ⟨hl2a, hl2b⟩, ⟨hl3a, hl3b⟩, ⟨hl4a, hl4b⟩, -⟩ := hrl
      repeat' (first | refine And.intro ?_ ?_ | intro _)
      all_goals try simp only [Int.reduceToNat, Int.reduceAdd, mq_up_f, mq_up_s, mq_up_e, ne_eq, Nat.reduceEqDiff, not_false_eq_true, true_and, and_true, false_and, and_false, false_or, or_false, true_or, or_true, true_implies] at *
      all_goals first | omega | rfl | exact trivial | assumption
    exact fun _ h => absurd h List.not_mem_nil
def pq_m_days : List mq_E := [(0, false, .aload 0), (1, false, .iconst 0), (2, false, .multianewarray 11 0), (5, false, .aload 0), (6, false, .iload 1), (7, false, .iload 3), (8, false, .iload 4), (10, false, .invokestatic 0), (13, false, .ifCond .eq (Int.ofNat 28)), (16, false, .iload 2), (17, false, .i2l), (18, false, .goto_w 1), (19, false, .goto_w 20), (22, false, .invokestatic 1), (25, false, .ifCond .ne (Int.ofNat 31)), (28, false, .iconst (-2)), (30, false, .ireturn), (31, false, .aload 0), (32, false, .invokestatic 2), (35, false, .iconst 0), (36, false, .istore 5), (38, false, .iconst 0), (39, false, .istore 6), (41, true, .iload 6), (43, false, .iload 2), (44, false, .if_icmp .ge (Int.ofNat 84)), (47, false, .aload 0), (48, false, .iload 1), (49, false, .i2l), (50, false, .iload 6), (52, false, .i2l), (53, false, .ladd), (54, false, .iload 3), (55, false, .iload 4), (57, false, .invokestatic 3), (60, false, .iload 5), (62, false, .aload 0), (63, false, .invokeinterface 11 49), (66, false, .iconst (-1)), (67, false, .if_icmp .eq (Int.ofNat 74)), (70, false, .iconst 1), (71, false, .goto (Int.ofNat 75)), (74, false, .iconst 0), (75, false, .iadd), (76, false, .istore 5), (78, false, .iinc 6 1), (81, false, .goto (Int.ofNat 41)), (84, false, .iload 5), (86, false, .ireturn)]
def cq_m_days : mq_C := ((yX11_days, cX11_days, 7, (some .int), { frames := 8, cells := 0, slots := 0, locals := 200 }), (5, 1, 0, 0), 19804925009534680301937098752, (fun as ρ μ => match ρ with
  | (nw, sp, tl, tx, al) => mq_pZ as 60 fun as => mq_pI as fun s as => mq_pI as fun n as => mq_pI as fun o as => mq_pI as fun y as => mq_p0 as (sq_bx (sq_inv (μ (69, 0)) (μ (76, 0))) ∧ True)),
  (fun as ρ μ r ρ' μ' => match as, ρ, ρ' with
  | [.inr (.inr (some (_, _))), .inl s, .inl n, .inl o, .inl y], (nw, sp, tl, tx, al), (nw', sp', tl', tx', al') => []
  | _, _, _ => []))
def kq_m_days : List mq_V → mq_R → mq_M → List mq_Cu := fun as ρ μ => match as, ρ with
  | [.inr (.inr (some (_, _))), .inl s, .inl n, .inl o, .inl y], (nw, sp, tl, tx, al) => [(41, [true, true, true, true, true, true, true], fun N l st ρ' μ' cs => mq_tZ l 60 fun l => mq_tI l fun v1 l => mq_tI l fun v2 l => mq_tI l fun v3 l => mq_tI l fun v4 l => mq_tI l fun v5 l => mq_tI l fun v6 l => mq_t0 l (st = [] ∧ ρ' = (nw, sp, tl, tx, al) ∧ cs = 0 ∧ v1 = s ∧ v2 = n ∧ v3 = o ∧ v4 = y ∧ 0 ≤ v6 ∧ v6 ≤ 20 ∧ v6 ≤ n ∧ n ≤ 20 ∧ 0 ≤ v5 ∧ v5 ≤ v6 ∧ 0 ≤ s ∧ s ≤ 2000000000 ∧ 0 ≤ y ∧ y ≤ 99 ∧ sq_bx (sq_T μ') ∧ 0 ≤ (20 - v6 : Int) ∧ (20 - v6 : Int) < (N : Int)))]
  | _, _ => []
set_option maxHeartbeats 16000000 in
set_option maxRecDepth 100000 in
theorem vq_m_days (lc : Launch) (h_m_isDay : mq_Ct lc cq_m_isDay) (h_m_in : mq_Ct lc cq_m_in) (h_m_laysCoaches : mq_Ct lc cq_m_laysCoaches) (h_m_goesBy : mq_Ct lc cq_m_goesBy) : mq_Ct lc cq_m_days := by
  refine mq_method (lc := lc) (P := pq_m_days) (cl := [cq_m_isDay, cq_m_in, cq_m_laysCoaches, cq_m_goesBy]) (T := ([(120, 11, 0), (401, 11, 49)], [], [(522, 20)], [(519, 0, 0), (125, 1, 1), (455, 2, 0), (524, 3, 0)], [], [])) (fuel := 400) (cuts := kq_m_days) (by decide) rfl ⟨rfl, rfl⟩ (List.forall_mem_cons.mpr ⟨h_m_isDay, (List.forall_mem_cons.mpr ⟨h_m_in, (List.forall_mem_cons.mpr ⟨h_m_laysCoaches, (List.forall_mem_cons.mpr ⟨h_m_goesBy, (fun _ h => absurd h List.not_mem_nil)⟩)⟩)⟩)⟩) ⟨(List.forall_mem_cons.mpr ⟨⟨_, rfl, by decide, kw_773⟩, (List.forall_mem_cons.mpr ⟨⟨_, rfl, by decide, kw_1027⟩, (fun _ h => absurd h List.not_mem_nil)⟩)⟩), (fun _ h => absurd h List.not_mem_nil), (List.forall_mem_cons.mpr ⟨kw_1093, (fun _ h => absurd h List.not_mem_nil)⟩), (List.forall_mem_cons.mpr ⟨mq_ml0 rfl mw0_m_isDay kw_1097, (List.forall_mem_cons.mpr ⟨mq_ml1 rfl mw1_m_in kw_772, (List.forall_mem_cons.mpr ⟨mq_ml0 rfl mw0_m_laysCoaches kw_1053, (List.forall_mem_cons.mpr ⟨mq_ml0 rfl mw0_m_goesBy kw_1101, (fun _ h => absurd h List.not_mem_nil)⟩)⟩)⟩)⟩), (fun _ h => absurd h List.not_mem_nil), (fun _ h => absurd h List.not_mem_nil)⟩ (by decide +kernel) ⟨_, _, rfl⟩ ?_ ?_ ?_ ?_
  · intro as ρ μ h
    obtain ⟨nw, sp, tl, tx, al⟩ := ρ
    obtain ⟨as0, rfl, h0⟩ := mq_pZ_spec h
    clear h
    obtain ⟨s, as1, rfl, h1⟩ := mq_pI_spec h0
    clear h0
    obtain ⟨n, as2, rfl, h2⟩ := mq_pI_spec h1
    clear h1
    obtain ⟨o, as3, rfl, h3⟩ := mq_pI_spec h2
    clear h2
    obtain ⟨y, as4, rfl, h4⟩ := mq_pI_spec h3
    clear h3
    obtain ⟨rfl, hp⟩ := mq_p0_spec h4
    clear h4
    obtain ⟨hp0, hp1⟩ := hp
    rfl
  · intro as ρ μ h
    obtain ⟨nw, sp, tl, tx, al⟩ := ρ
    obtain ⟨as0, rfl, h0⟩ := mq_pZ_spec h
    clear h
    obtain ⟨s, as1, rfl, h1⟩ := mq_pI_spec h0
    clear h0
    obtain ⟨n, as2, rfl, h2⟩ := mq_pI_spec h1
    clear h1
    obtain ⟨o, as3, rfl, h3⟩ := mq_pI_spec h2
    clear h2
    obtain ⟨y, as4, rfl, h4⟩ := mq_pI_spec h3
    clear h3
    obtain ⟨rfl, hp⟩ := mq_p0_spec h4
    clear h4
    obtain ⟨hp0, hp1⟩ := hp
    intro hrg
    obtain ⟨⟨ha1a, ha1b⟩, ⟨ha2a, ha2b⟩, ⟨ha3a, ha3b⟩, ⟨ha4a, ha4b⟩, -⟩ := hrg
    intro hbk
    have e0 : mq_l0 ([.inr (.inr (some (60, 0))), .inl s, .inl n, .inl o, .inl y] : List mq_V) 7 = [some (.inr (.inr (some (60, 0)))), some (.inl s), some (.inl n), some (.inl o), some (.inl y), none, none] := rfl
    rw [e0]
    repeat' (first | refine And.intro ?_ ?_ | intro _)
    all_goals try simp only [Int.reduceToNat, Int.reduceAdd, mq_up_f, mq_up_s, mq_up_e, ne_eq, Nat.reduceEqDiff, not_false_eq_true, true_and, and_true, false_and, and_false, false_or, or_false, true_or, or_true, true_implies] at *
    all_goals first | omega | rfl | exact trivial | assumption | exact sq_m (sq_g hp0 0 (by decide) (by decide))
  · intro as ρ μ h
    obtain ⟨nw, sp, tl, tx, al⟩ := ρ
    obtain ⟨as0, rfl, h0⟩ := mq_pZ_spec h
    clear h
    obtain ⟨s, as1, rfl, h1⟩ := mq_pI_spec h0
    clear h0
    obtain ⟨n, as2, rfl, h2⟩ := mq_pI_spec h1
    clear h1
    obtain ⟨o, as3, rfl, h3⟩ := mq_pI_spec h2
    clear h2
    obtain ⟨y, as4, rfl, h4⟩ := mq_pI_spec h3
    clear h3
    obtain ⟨rfl, hp⟩ := mq_p0_spec h4
    clear h4
    obtain ⟨hp0, hp1⟩ := hp
    refine List.forall_mem_cons.mpr ⟨?_, ?_⟩
    · intro l st ρ' μ' cs hJ
      obtain ⟨l0, rfl, hJ0⟩ := mq_tZ_spec hJ
      clear hJ
      obtain ⟨v1, l1, rfl, hJ1⟩ := mq_tI_spec hJ0
      clear hJ0
      obtain ⟨v2, l2, rfl, hJ2⟩ := mq_tI_spec hJ1
      clear hJ1
      obtain ⟨v3, l3, rfl, hJ3⟩ := mq_tI_spec hJ2
      clear hJ2
      obtain ⟨v4, l4, rfl, hJ4⟩ := mq_tI_spec hJ3
      clear hJ3
      obtain ⟨v5, l5, rfl, hJ5⟩ := mq_tI_spec hJ4
      clear hJ4
      obtain ⟨v6, l6, rfl, hJ6⟩ := mq_tI_spec hJ5
      clear hJ5
      obtain ⟨rfl, hJz⟩ := mq_t0_spec hJ6
      clear hJ6
      obtain ⟨rfl, rfl, rfl, hc0, hc1, hc2, hc3, hc4, hc5, hc6, hc7, hc8, hc9, hc10, hc11, hc12, hc13, hc14, hm0, hm1⟩ := hJz
      omega
    exact fun _ h => absurd h List.not_mem_nil
  · intro as ρ μ h
    obtain ⟨nw, sp, tl, tx, al⟩ := ρ
    obtain ⟨as0, rfl, h0⟩ := mq_pZ_spec h
    clear h
    obtain ⟨s, as1, rfl, h1⟩ := mq_pI_spec h0
    clear h0
    obtain ⟨n, as2, rfl, h2⟩ := mq_pI_spec h1
    clear h1
    obtain ⟨o, as3, rfl, h3⟩ := mq_pI_spec h2
    clear h2
    obtain ⟨y, as4, rfl, h4⟩ := mq_pI_spec h3
    clear h3
    obtain ⟨rfl, hp⟩ := mq_p0_spec h4
    clear h4
    obtain ⟨hp0, hp1⟩ := hp
    intro hrg
    obtain ⟨⟨ha1a, ha1b⟩, ⟨ha2a, ha2b⟩, ⟨ha3a, ha3b⟩, ⟨ha4a, ha4b⟩, -⟩ := hrg
    refine List.forall_mem_cons.mpr ⟨?_, ?_⟩
    · intro N l st ρ' μ' cs hJ
      obtain ⟨l0, rfl, hJ0⟩ := mq_tZ_spec hJ
      clear hJ
      obtain ⟨v1, l1, rfl, hJ1⟩ := mq_tI_spec hJ0
      clear hJ0
      obtain ⟨v2, l2, rfl, hJ2⟩ := mq_tI_spec hJ1
      clear hJ1
      obtain ⟨v3, l3, rfl, hJ3⟩ := mq_tI_spec hJ2
      clear hJ2
      obtain ⟨v4, l4, rfl, hJ4⟩ := mq_tI_spec hJ3
      clear hJ3
      obtain ⟨v5, l5, rfl, hJ5⟩ := mq_tI_spec hJ4
      clear hJ4
      obtain ⟨v6, l6, rfl, hJ6⟩ := mq_tI_spec hJ5
      clear hJ5
      obtain ⟨rfl, hJz⟩ := mq_t0_spec hJ6
      clear hJ6
      obtain ⟨rfl, rfl, rfl, hc0, hc1, hc2, hc3, hc4, hc5, hc6, hc7, hc8, hc9, hc10, hc11, hc12, hc13, hc14, hm0, hm1⟩ := hJz
      intro hbk hrl
      obtain ⟨⟨hl1a, hl1b⟩, ⟨hl2a, hl2b⟩, ⟨hl3a, hl3b⟩, ⟨hl4a, hl4b⟩, ⟨hl5a, hl5b⟩, ⟨hl6a, hl6b⟩, -⟩ := hrl
      repeat' (first | refine And.intro ?_ ?_ | intro _)
      all_goals try simp only [Int.reduceToNat, Int.reduceAdd, mq_up_f, mq_up_s, mq_up_e, ne_eq, Nat.reduceEqDiff, not_false_eq_true, true_and, and_true, false_and, and_false, false_or, or_false, true_or, or_true, true_implies] at *
      all_goals first | omega | rfl | exact trivial | assumption
    exact fun _ h => absurd h List.not_mem_nil
def pq_m_day : List mq_E := [(0, false, .aload 0), (1, false, .iconst 0), (2, false, .multianewarray 11 0), (5, false, .aload 0), (6, false, .iload 1), (7, false, .iload 2), (8, false, .iload 3), (9, false, .invokestatic 0), (12, false, .ifCond .ne (Int.ofNat 18)), (15, false, .iconst (-2)), (17, false, .ireturn), (18, false, .aload 0), (19, false, .invokestatic 1), (22, false, .aload 0), (23, false, .iload 1), (24, false, .i2l), (25, false, .iload 2), (26, false, .iload 3), (27, false, .invokestatic 2), (30, false, .aload 0), (31, false, .invokestatic 3), (34, false, .ireturn)]
def cq_m_day : mq_C := ((yX11_day, cX11_day, 4, (some .int), { frames := 8, cells := 0, slots := 0, locals := 200 }), (4, 1, 0, 0), 19804925009534680301937098752, (fun as ρ μ => match ρ with
  | (nw, sp, tl, tx, al) => mq_pZ as 60 fun as => mq_pI as fun s as => mq_pI as fun o as => mq_pI as fun y as => mq_p0 as (sq_bx (sq_inv (μ (69, 0)) (μ (76, 0))) ∧ True)),
  (fun as ρ μ r ρ' μ' => match as, ρ, ρ' with
  | [.inr (.inr (some (_, _))), .inl s, .inl o, .inl y], (nw, sp, tl, tx, al), (nw', sp', tl', tx', al') => []
  | _, _, _ => []))
def kq_m_day : List mq_V → mq_R → mq_M → List mq_Cu := fun as ρ μ => match as, ρ with
  | [.inr (.inr (some (_, _))), .inl s, .inl o, .inl y], (nw, sp, tl, tx, al) => []
  | _, _ => []
set_option maxHeartbeats 16000000 in
set_option maxRecDepth 100000 in
theorem vq_m_day (lc : Launch) (h_m_isDay : mq_Ct lc cq_m_isDay) (h_m_laysCoaches : mq_Ct lc cq_m_laysCoaches) (h_m_goesBy : mq_Ct lc cq_m_goesBy) (h_m_inPlaces : mq_Ct lc cq_m_inPlaces) : mq_Ct lc cq_m_day := by
  refine mq_method (lc := lc) (P := pq_m_day) (cl := [cq_m_isDay, cq_m_laysCoaches, cq_m_goesBy, cq_m_inPlaces]) (T := ([(120, 11, 0)], [], [], [(519, 0, 0), (455, 1, 0), (524, 2, 0), (470, 3, 0)], [], [])) (fuel := 400) (cuts := kq_m_day) (by decide) rfl ⟨rfl, rfl⟩ (List.forall_mem_cons.mpr ⟨h_m_isDay, (List.forall_mem_cons.mpr ⟨h_m_laysCoaches, (List.forall_mem_cons.mpr ⟨h_m_goesBy, (List.forall_mem_cons.mpr ⟨h_m_inPlaces, (fun _ h => absurd h List.not_mem_nil)⟩)⟩)⟩)⟩) ⟨(List.forall_mem_cons.mpr ⟨⟨_, rfl, by decide, kw_773⟩, (fun _ h => absurd h List.not_mem_nil)⟩), (fun _ h => absurd h List.not_mem_nil), (fun _ h => absurd h List.not_mem_nil), (List.forall_mem_cons.mpr ⟨mq_ml0 rfl mw0_m_isDay kw_1097, (List.forall_mem_cons.mpr ⟨mq_ml0 rfl mw0_m_laysCoaches kw_1053, (List.forall_mem_cons.mpr ⟨mq_ml0 rfl mw0_m_goesBy kw_1101, (List.forall_mem_cons.mpr ⟨mq_ml0 rfl mw0_m_inPlaces kw_1084, (fun _ h => absurd h List.not_mem_nil)⟩)⟩)⟩)⟩), (fun _ h => absurd h List.not_mem_nil), (fun _ h => absurd h List.not_mem_nil)⟩ (by decide +kernel) ⟨_, _, rfl⟩ ?_ ?_ ?_ ?_
  · intro as ρ μ h
    obtain ⟨nw, sp, tl, tx, al⟩ := ρ
    obtain ⟨as0, rfl, h0⟩ := mq_pZ_spec h
    clear h
    obtain ⟨s, as1, rfl, h1⟩ := mq_pI_spec h0
    clear h0
    obtain ⟨o, as2, rfl, h2⟩ := mq_pI_spec h1
    clear h1
    obtain ⟨y, as3, rfl, h3⟩ := mq_pI_spec h2
    clear h2
    obtain ⟨rfl, hp⟩ := mq_p0_spec h3
    clear h3
    obtain ⟨hp0, hp1⟩ := hp
    rfl
  · intro as ρ μ h
    obtain ⟨nw, sp, tl, tx, al⟩ := ρ
    obtain ⟨as0, rfl, h0⟩ := mq_pZ_spec h
    clear h
    obtain ⟨s, as1, rfl, h1⟩ := mq_pI_spec h0
    clear h0
    obtain ⟨o, as2, rfl, h2⟩ := mq_pI_spec h1
    clear h1
    obtain ⟨y, as3, rfl, h3⟩ := mq_pI_spec h2
    clear h2
    obtain ⟨rfl, hp⟩ := mq_p0_spec h3
    clear h3
    obtain ⟨hp0, hp1⟩ := hp
    intro hrg
    obtain ⟨⟨ha1a, ha1b⟩, ⟨ha2a, ha2b⟩, ⟨ha3a, ha3b⟩, -⟩ := hrg
    intro hbk
    have e0 : mq_l0 ([.inr (.inr (some (60, 0))), .inl s, .inl o, .inl y] : List mq_V) 4 = [some (.inr (.inr (some (60, 0)))), some (.inl s), some (.inl o), some (.inl y)] := rfl
    rw [e0]
    repeat' (first | refine And.intro ?_ ?_ | intro _)
    all_goals try simp only [Int.reduceToNat, Int.reduceAdd, mq_up_f, mq_up_s, mq_up_e, ne_eq, Nat.reduceEqDiff, not_false_eq_true, true_and, and_true, false_and, and_false, false_or, or_false, true_or, or_true, true_implies] at *
    all_goals first | omega | rfl | exact trivial | assumption | exact sq_m (sq_g hp0 0 (by decide) (by decide))
  · intro as ρ μ h
    obtain ⟨nw, sp, tl, tx, al⟩ := ρ
    obtain ⟨as0, rfl, h0⟩ := mq_pZ_spec h
    clear h
    obtain ⟨s, as1, rfl, h1⟩ := mq_pI_spec h0
    clear h0
    obtain ⟨o, as2, rfl, h2⟩ := mq_pI_spec h1
    clear h1
    obtain ⟨y, as3, rfl, h3⟩ := mq_pI_spec h2
    clear h2
    obtain ⟨rfl, hp⟩ := mq_p0_spec h3
    clear h3
    obtain ⟨hp0, hp1⟩ := hp
    exact fun _ h => absurd h List.not_mem_nil
  · intro as ρ μ h
    obtain ⟨nw, sp, tl, tx, al⟩ := ρ
    obtain ⟨as0, rfl, h0⟩ := mq_pZ_spec h
    clear h
    obtain ⟨s, as1, rfl, h1⟩ := mq_pI_spec h0
    clear h0
    obtain ⟨o, as2, rfl, h2⟩ := mq_pI_spec h1
    clear h1
    obtain ⟨y, as3, rfl, h3⟩ := mq_pI_spec h2
    clear h2
    obtain ⟨rfl, hp⟩ := mq_p0_spec h3
    clear h3
    obtain ⟨hp0, hp1⟩ := hp
    intro hrg
    obtain ⟨⟨ha1a, ha1b⟩, ⟨ha2a, ha2b⟩, ⟨ha3a, ha3b⟩, -⟩ := hrg
    exact fun _ h => absurd h List.not_mem_nil
def pq_m_tries : List mq_E := [(0, false, .aload 0), (1, false, .invokestatic 0), (4, false, .aload 0), (5, false, .invokestatic 1), (8, false, .aload 0), (9, false, .invokeinterface 11 26), (12, false, .iconst 5), (13, false, .iload 1), (14, false, .imul), (15, false, .iconst 3), (16, false, .iadd), (17, false, .jsr 3), (18, false, .istore 2), (19, false, .iconst 1000000), (21, false, .istore 3), (22, false, .aload 0), (23, false, .iconst (-1)), (24, false, .multianewarray 11 54), (27, false, .aload 0), (28, false, .iconst (-1)), (29, false, .multianewarray 11 55), (32, false, .aload 0), (33, false, .iconst (-1)), (34, false, .multianewarray 11 56), (37, false, .iconst 0), (38, false, .istore 4), (40, true, .iload 4), (42, false, .aload 0), (43, false, .invokeinterface 11 17), (46, false, .iconst 0), (47, false, .iaload), (48, false, .if_icmp .gt (Int.ofNat 159)), (51, false, .aload 0), (52, false, .invokeinterface 11 26), (55, false, .iconst 5), (56, false, .iload 1), (57, false, .imul), (58, false, .iconst 3), (59, false, .iadd), (60, false, .iload 4), (62, false, .jsr_w 3), (63, false, .aload 0), (64, false, .invokestatic 2), (67, false, .aload 0), (68, false, .iload 1), (69, false, .invokestatic 3), (72, false, .ifCond .ne (Int.ofNat 78)), (75, false, .goto (Int.ofNat 153)), (78, false, .aload 0), (79, false, .aload 0), (80, false, .invokeinterface 11 55), (83, false, .iconst (-1)), (84, false, .if_icmp .ne (Int.ofNat 92)), (87, false, .iload 4), (89, false, .goto (Int.ofNat 96)), (92, false, .aload 0), (93, false, .invokeinterface 11 55), (96, false, .multianewarray 11 55), (99, false, .aload 0), (100, false, .iload 4), (102, false, .multianewarray 11 56), (105, false, .aload 0), (106, false, .iload 1), (107, false, .aload 0), (108, false, .invokeinterface 11 40), (111, false, .iload 1), (112, false, .iaload), (113, false, .aload 0), (114, false, .invokeinterface 11 41), (117, false, .iload 1), (118, false, .iaload), (119, false, .invokestatic 4), (122, false, .iload 3), (123, false, .if_icmp .lt (Int.ofNat 129)), (126, false, .goto (Int.ofNat 153)), (129, false, .aload 0), (130, false, .iload 1), (131, false, .aload 0), (132, false, .invokeinterface 11 40), (135, false, .iload 1), (136, false, .iaload), (137, false, .aload 0), (138, false, .invokeinterface 11 41), (141, false, .iload 1), (142, false, .iaload), (143, false, .invokestatic 4), (146, false, .istore 3), (147, false, .aload 0), (148, false, .iload 4), (150, false, .multianewarray 11 54), (153, false, .iinc 4 1), (156, false, .goto (Int.ofNat 40)), (159, false, .aload 0), (160, false, .invokeinterface 11 26), (163, false, .iconst 5), (164, false, .iload 1), (165, false, .imul), (166, false, .iconst 3), (167, false, .iadd), (168, false, .iload 2), (169, false, .jsr_w 3), (170, false, .return_)]
def cq_m_tries : mq_C := ((yX11_tries, cX11_tries, 5, none, { frames := 7, cells := 0, slots := 0, locals := 175 }), (2, 0, 0, 0), 19805000567398406216260517888, (fun as ρ μ => match ρ with
  | (nw, sp, tl, tx, al) => mq_pZ as 60 fun as => mq_pI as fun c as => mq_p0 as (0 ≤ c ∧ c ≤ 15 ∧ sq_bx (sq_inv (μ (69, 0)) (μ (76, 0))))),
  (fun as ρ μ r ρ' μ' => match as, ρ, ρ' with
  | [.inr (.inr (some (_, _))), .inl c], (nw, sp, tl, tx, al), (nw', sp', tl', tx', al') => [sq_bx (sq_inv (μ' (69, 0)) (μ' (76, 0)))]
  | _, _, _ => []))
def kq_m_tries : List mq_V → mq_R → mq_M → List mq_Cu := fun as ρ μ => match as, ρ with
  | [.inr (.inr (some (_, _))), .inl c], (nw, sp, tl, tx, al) => [(40, [true, true, true, true, true], fun N l st ρ' μ' cs => mq_tZ l 60 fun l => mq_tI l fun v1 l => mq_tI l fun v2 l => mq_tI l fun v3 l => mq_tI l fun v4 l => mq_t0 l (st = [] ∧ ρ' = (nw, sp, tl, tx, al) ∧ cs = 0 ∧ v1 = c ∧ 0 ≤ v4 ∧ v4 ≤ 401 ∧ 0 ≤ v2 ∧ v2 ≤ 400 ∧ 0 ≤ c ∧ c ≤ 15 ∧ sq_bx (sq_T μ') ∧ sq_bx (sq_inv (μ' (69, 0)) (μ' (76, 0))) ∧ 0 ≤ (401 - v4 : Int) ∧ (401 - v4 : Int) < (N : Int)))]
  | _, _ => []
set_option maxHeartbeats 16000000 in
set_option maxRecDepth 100000 in
theorem vq_m_tries (lc : Launch) (h_m_laysCoaches : mq_Ct lc cq_m_laysCoaches) (h_m_right : mq_Ct lc cq_m_right) (h_m_goes : mq_Ct lc cq_m_goes) (h_m_isInPlace : mq_Ct lc cq_m_isInPlace) (h_m_sumOf : mq_Ct lc cq_m_sumOf) : mq_Ct lc cq_m_tries := by
  refine mq_method (lc := lc) (P := pq_m_tries) (cl := [cq_m_laysCoaches, cq_m_right, cq_m_goes, cq_m_isInPlace, cq_m_sumOf]) (T := ([(61, 11, 26), (491, 11, 54), (494, 11, 55), (497, 11, 56), (34, 11, 17), (93, 11, 40), (96, 11, 41)], [(171, 1000000)], [], [(455, 0, 0), (458, 1, 0), (461, 2, 0), (440, 3, 0), (348, 4, 0)], [], [])) (fuel := 400) (cuts := kq_m_tries) (by decide) rfl ⟨rfl, rfl⟩ (List.forall_mem_cons.mpr ⟨h_m_laysCoaches, (List.forall_mem_cons.mpr ⟨h_m_right, (List.forall_mem_cons.mpr ⟨h_m_goes, (List.forall_mem_cons.mpr ⟨h_m_isInPlace, (List.forall_mem_cons.mpr ⟨h_m_sumOf, (fun _ h => absurd h List.not_mem_nil)⟩)⟩)⟩)⟩)⟩) ⟨(List.forall_mem_cons.mpr ⟨⟨_, rfl, by decide, kw_867⟩, (List.forall_mem_cons.mpr ⟨⟨_, rfl, by decide, kw_1102⟩, (List.forall_mem_cons.mpr ⟨⟨_, rfl, by decide, kw_1103⟩, (List.forall_mem_cons.mpr ⟨⟨_, rfl, by decide, kw_1104⟩, (List.forall_mem_cons.mpr ⟨⟨_, rfl, by decide, kw_832⟩, (List.forall_mem_cons.mpr ⟨⟨_, rfl, by decide, kw_1005⟩, (List.forall_mem_cons.mpr ⟨⟨_, rfl, by decide, kw_1007⟩, (fun _ h => absurd h List.not_mem_nil)⟩)⟩)⟩)⟩)⟩)⟩)⟩), (List.forall_mem_cons.mpr ⟨kw_796, (fun _ h => absurd h List.not_mem_nil)⟩), (fun _ h => absurd h List.not_mem_nil), (List.forall_mem_cons.mpr ⟨mq_ml0 rfl mw0_m_laysCoaches kw_1053, (List.forall_mem_cons.mpr ⟨mq_ml0 rfl mw0_m_right kw_1057, (List.forall_mem_cons.mpr ⟨mq_ml0 rfl mw0_m_goes kw_1061, (List.forall_mem_cons.mpr ⟨mq_ml0 rfl mw0_m_isInPlace kw_1001, (List.forall_mem_cons.mpr ⟨mq_ml0 rfl mw0_m_sumOf kw_917, (fun _ h => absurd h List.not_mem_nil)⟩)⟩)⟩)⟩)⟩), (fun _ h => absurd h List.not_mem_nil), (fun _ h => absurd h List.not_mem_nil)⟩ (by decide +kernel) ⟨_, _, rfl⟩ ?_ ?_ ?_ ?_
  · intro as ρ μ h
    obtain ⟨nw, sp, tl, tx, al⟩ := ρ
    obtain ⟨as0, rfl, h0⟩ := mq_pZ_spec h
    clear h
    obtain ⟨c, as1, rfl, h1⟩ := mq_pI_spec h0
    clear h0
    obtain ⟨rfl, hp⟩ := mq_p0_spec h1
    clear h1
    obtain ⟨hp0, hp1, hp2⟩ := hp
    rfl
  · intro as ρ μ h
    obtain ⟨nw, sp, tl, tx, al⟩ := ρ
    obtain ⟨as0, rfl, h0⟩ := mq_pZ_spec h
    clear h
    obtain ⟨c, as1, rfl, h1⟩ := mq_pI_spec h0
    clear h0
    obtain ⟨rfl, hp⟩ := mq_p0_spec h1
    clear h1
    obtain ⟨hp0, hp1, hp2⟩ := hp
    intro hrg
    obtain ⟨⟨ha1a, ha1b⟩, -⟩ := hrg
    intro hbk
    have hk0 : 0 ≤ μ (67, 0) 0 ∧ μ (67, 0) 0 ≤ 400 := hbk (67, 0) 0
    have e0 : mq_l0 ([.inr (.inr (some (60, 0))), .inl c] : List mq_V) 5 = [some (.inr (.inr (some (60, 0)))), some (.inl c), none, none, none] := rfl
    rw [e0]
    refine ⟨⟨sq_m (sq_g hp2 0 (by decide) (by decide)), trivial⟩, ?_⟩
    intro m1 a1 r1 g1 p1
    refine ⟨trivial, ?_⟩
    intro m2 a2 r2 g2
    have e69 : m2 (69, 0) = μ (69, 0) := (mq_ag_at a2 69 0 (by decide +kernel)).trans (mq_ag_at a1 69 0 (by decide +kernel))
    have e76 : m2 (76, 0) = μ (76, 0) := (mq_ag_at a2 76 0 (by decide +kernel)).trans (mq_ag_at a1 76 0 (by decide +kernel))
    have hT := sq_T_ag0 a2 (by decide +kernel) (sq_g p1)
    repeat' (first | refine And.intro ?_ ?_ | intro _)
    all_goals try simp only [Int.reduceToNat, Int.reduceAdd, mq_up_f, mq_up_s, mq_up_e, ne_eq, Nat.reduceEqDiff, not_false_eq_true, true_and, and_true, false_and, and_false, false_or, or_false, true_or, or_true, true_implies] at *
    all_goals first | omega | rfl | exact trivial | assumption | exact sq_m (sq_T_ag (md := 2 ^ 60) (by repeat (first | exact mq_ag_rf _ _ | refine mq_ag_upn ?_ (by decide +kernel))) (by decide +kernel) (by simp [mq_up]) (by simp [mq_up]) hT) | (rw [e69, e76]; exact hp2)
  · intro as ρ μ h
    obtain ⟨nw, sp, tl, tx, al⟩ := ρ
    obtain ⟨as0, rfl, h0⟩ := mq_pZ_spec h
    clear h
    obtain ⟨c, as1, rfl, h1⟩ := mq_pI_spec h0
    clear h0
    obtain ⟨rfl, hp⟩ := mq_p0_spec h1
    clear h1
    obtain ⟨hp0, hp1, hp2⟩ := hp
    refine List.forall_mem_cons.mpr ⟨?_, ?_⟩
    · intro l st ρ' μ' cs hJ
      obtain ⟨l0, rfl, hJ0⟩ := mq_tZ_spec hJ
      clear hJ
      obtain ⟨v1, l1, rfl, hJ1⟩ := mq_tI_spec hJ0
      clear hJ0
      obtain ⟨v2, l2, rfl, hJ2⟩ := mq_tI_spec hJ1
      clear hJ1
      obtain ⟨v3, l3, rfl, hJ3⟩ := mq_tI_spec hJ2
      clear hJ2
      obtain ⟨v4, l4, rfl, hJ4⟩ := mq_tI_spec hJ3
      clear hJ3
      obtain ⟨rfl, hJz⟩ := mq_t0_spec hJ4
      clear hJ4
      obtain ⟨rfl, rfl, rfl, hc0, hc1, hc2, hc3, hc4, hc5, hc6, hc7, hc8, hm0, hm1⟩ := hJz
      omega
    exact fun _ h => absurd h List.not_mem_nil
  · intro as ρ μ h
    obtain ⟨nw, sp, tl, tx, al⟩ := ρ
    obtain ⟨as0, rfl, h0⟩ := mq_pZ_spec h
    clear h
    obtain ⟨c, as1, rfl, h1⟩ := mq_pI_spec h0
    clear h0
    obtain ⟨rfl, hp⟩ := mq_p0_spec h1
    clear h1
    obtain ⟨hp0, hp1, hp2⟩ := hp
    intro hrg
    obtain ⟨⟨ha1a, ha1b⟩, -⟩ := hrg
    refine List.forall_mem_cons.mpr ⟨?_, ?_⟩
    · intro N l st ρ' μ' cs hJ
      obtain ⟨l0, rfl, hJ0⟩ := mq_tZ_spec hJ
      clear hJ
      obtain ⟨v1, l1, rfl, hJ1⟩ := mq_tI_spec hJ0
      clear hJ0
      obtain ⟨v2, l2, rfl, hJ2⟩ := mq_tI_spec hJ1
      clear hJ1
      obtain ⟨v3, l3, rfl, hJ3⟩ := mq_tI_spec hJ2
      clear hJ2
      obtain ⟨v4, l4, rfl, hJ4⟩ := mq_tI_spec hJ3
      clear hJ3
      obtain ⟨rfl, hJz⟩ := mq_t0_spec hJ4
      clear hJ4
      obtain ⟨rfl, rfl, rfl, hc0, hc1, hc2, hc3, hc4, hc5, hc6, hc7, hc8, hm0, hm1⟩ := hJz
      intro hbk hrl
      have hk0 : 0 ≤ μ' (67, 0) 0 ∧ μ' (67, 0) 0 ≤ 400 := hbk (67, 0) 0
      obtain ⟨⟨hl1a, hl1b⟩, ⟨hl2a, hl2b⟩, ⟨hl3a, hl3b⟩, ⟨hl4a, hl4b⟩, -⟩ := hrl
      subst hc0
      repeat' (first | refine And.intro ?_ ?_ | intro _)
      all_goals try simp only [Int.reduceToNat, Int.reduceAdd, mq_up_f, mq_up_s, mq_up_e, ne_eq, Nat.reduceEqDiff, not_false_eq_true, true_and, and_true, false_and, and_false, false_or, or_false, true_or, or_true, true_implies] at *
      all_goals first | omega | rfl | exact trivial | assumption | exact sq_m (sq_T_col3 (sq_g hc7) hbk (by omega)) | exact sq_m (sq_inv_col3 (sq_g hc8) (sq_has16 hbk) (fun z hz => by rw [mq_up_row, if_neg (by omega)])) | (have h9 := sq_g ‹sq_bx (sq_GC _ _)› v1 (by omega) (by omega); unfold sq_gc1 at h9; omega) | (have hT := sq_g ‹sq_bx (sq_T _)›; exact sq_m (sq_T_ag (md := 2 ^ 60) (by repeat (first | exact mq_ag_rf _ _ | refine mq_ag_upn ?_ (by decide +kernel))) (by decide +kernel) (by simp [mq_up]) (by simp [mq_up]) hT)) | (have hag := ‹mq_ag _ _ _›; rw [mq_ag_at hag 69 0 (by decide +kernel), mq_ag_at hag 76 0 (by decide +kernel), mq_up_f _ 69 _ _ _ _ _ (by decide)]; exact sq_m (sq_inv_col3 (sq_g hc8) (sq_has16 hbk) (fun z hz => by rw [mq_up_row, if_neg (by omega)])))
    exact fun _ h => absurd h List.not_mem_nil
theorem mw0_m_tries : mq_mlA cq_m_tries 0 := ⟨kw_1105, ⟨by decide +kernel, by decide +kernel⟩, by decide +kernel, kw_1106, kw_1107, kw_771, 60, by decide +kernel, fun as ρ μ h => by obtain ⟨nw, sp, tl, tx, al⟩ := ρ; obtain ⟨t, e, _⟩ := mq_pZ_spec h; exact ⟨0, t, e⟩⟩
def pq_m_best : List mq_E := [(0, false, .aload 0), (1, false, .iconst 0), (2, false, .multianewarray 11 0), (5, false, .aload 0), (6, false, .iload 1), (7, false, .invokestatic 0), (10, false, .ifCond .ne (Int.ofNat 16)), (13, false, .iconst (-2)), (15, false, .ireturn), (16, false, .aload 0), (17, false, .iload 1), (18, false, .invokestatic 1), (21, false, .aload 0), (22, false, .invokeinterface 11 54), (25, false, .ireturn)]
def cq_m_best : mq_C := ((yX11_best, cX11_best, 2, (some .int), { frames := 8, cells := 0, slots := 0, locals := 199 }), (2, 1, 0, 0), 19805000567398406216260517888, (fun as ρ μ => match ρ with
  | (nw, sp, tl, tx, al) => mq_pZ as 60 fun as => mq_pI as fun c as => mq_p0 as (sq_bx (sq_inv (μ (69, 0)) (μ (76, 0))) ∧ True)),
  (fun as ρ μ r ρ' μ' => match as, ρ, ρ' with
  | [.inr (.inr (some (_, _))), .inl c], (nw, sp, tl, tx, al), (nw', sp', tl', tx', al') => [sq_bx (sq_inv (μ' (69, 0)) (μ' (76, 0)))]
  | _, _, _ => []))
def kq_m_best : List mq_V → mq_R → mq_M → List mq_Cu := fun as ρ μ => match as, ρ with
  | [.inr (.inr (some (_, _))), .inl c], (nw, sp, tl, tx, al) => []
  | _, _ => []
set_option maxHeartbeats 16000000 in
set_option maxRecDepth 100000 in
theorem vq_m_best (lc : Launch) (h_m_isCoach : mq_Ct lc cq_m_isCoach) (h_m_tries : mq_Ct lc cq_m_tries) : mq_Ct lc cq_m_best := by
  refine mq_method (lc := lc) (P := pq_m_best) (cl := [cq_m_isCoach, cq_m_tries]) (T := ([(120, 11, 0), (491, 11, 54)], [], [], [(307, 0, 0), (500, 1, 0)], [], [])) (fuel := 400) (cuts := kq_m_best) (by decide) rfl ⟨rfl, rfl⟩ (List.forall_mem_cons.mpr ⟨h_m_isCoach, (List.forall_mem_cons.mpr ⟨h_m_tries, (fun _ h => absurd h List.not_mem_nil)⟩)⟩) ⟨(List.forall_mem_cons.mpr ⟨⟨_, rfl, by decide, kw_773⟩, (List.forall_mem_cons.mpr ⟨⟨_, rfl, by decide, kw_1102⟩, (fun _ h => absurd h List.not_mem_nil)⟩)⟩), (fun _ h => absurd h List.not_mem_nil), (fun _ h => absurd h List.not_mem_nil), (List.forall_mem_cons.mpr ⟨mq_ml0 rfl mw0_m_isCoach kw_872, (List.forall_mem_cons.mpr ⟨mq_ml0 rfl mw0_m_tries kw_1108, (fun _ h => absurd h List.not_mem_nil)⟩)⟩), (fun _ h => absurd h List.not_mem_nil), (fun _ h => absurd h List.not_mem_nil)⟩ (by decide +kernel) ⟨_, _, rfl⟩ ?_ ?_ ?_ ?_
  · intro as ρ μ h
    obtain ⟨nw, sp, tl, tx, al⟩ := ρ
    obtain ⟨as0, rfl, h0⟩ := mq_pZ_spec h
    clear h
    obtain ⟨c, as1, rfl, h1⟩ := mq_pI_spec h0
    clear h0
    obtain ⟨rfl, hp⟩ := mq_p0_spec h1
    clear h1
    obtain ⟨hp0, hp1⟩ := hp
    rfl
  · intro as ρ μ h
    obtain ⟨nw, sp, tl, tx, al⟩ := ρ
    obtain ⟨as0, rfl, h0⟩ := mq_pZ_spec h
    clear h
    obtain ⟨c, as1, rfl, h1⟩ := mq_pI_spec h0
    clear h0
    obtain ⟨rfl, hp⟩ := mq_p0_spec h1
    clear h1
    obtain ⟨hp0, hp1⟩ := hp
    intro hrg
    obtain ⟨⟨ha1a, ha1b⟩, -⟩ := hrg
    intro hbk
    have e0 : mq_l0 ([.inr (.inr (some (60, 0))), .inl c] : List mq_V) 2 = [some (.inr (.inr (some (60, 0)))), some (.inl c)] := rfl
    rw [e0]
    repeat' (first | refine And.intro ?_ ?_ | intro _)
    all_goals try simp only [Int.reduceToNat, Int.reduceAdd, mq_up_f, mq_up_s, mq_up_e, ne_eq, Nat.reduceEqDiff, not_false_eq_true, true_and, and_true, false_and, and_false, false_or, or_false, true_or, or_true, true_implies] at *
    all_goals first | omega | rfl | exact trivial | assumption
  · intro as ρ μ h
    obtain ⟨nw, sp, tl, tx, al⟩ := ρ
    obtain ⟨as0, rfl, h0⟩ := mq_pZ_spec h
    clear h
    obtain ⟨c, as1, rfl, h1⟩ := mq_pI_spec h0
    clear h0
    obtain ⟨rfl, hp⟩ := mq_p0_spec h1
    clear h1
    obtain ⟨hp0, hp1⟩ := hp
    exact fun _ h => absurd h List.not_mem_nil
  · intro as ρ μ h
    obtain ⟨nw, sp, tl, tx, al⟩ := ρ
    obtain ⟨as0, rfl, h0⟩ := mq_pZ_spec h
    clear h
    obtain ⟨c, as1, rfl, h1⟩ := mq_pI_spec h0
    clear h0
    obtain ⟨rfl, hp⟩ := mq_p0_spec h1
    clear h1
    obtain ⟨hp0, hp1⟩ := hp
    intro hrg
    obtain ⟨⟨ha1a, ha1b⟩, -⟩ := hrg
    exact fun _ h => absurd h List.not_mem_nil
def pq_m_margin : List mq_E := [(0, false, .aload 0), (1, false, .iconst 0), (2, false, .multianewarray 11 0), (5, false, .aload 0), (6, false, .iload 1), (7, false, .invokestatic 0), (10, false, .ifCond .eq (Int.ofNat 23)), (13, false, .iload 2), (14, false, .i2l), (15, false, .goto_w 0), (16, false, .goto_w 1), (17, false, .invokestatic 1), (20, false, .ifCond .ne (Int.ofNat 26)), (23, false, .iconst (-2)), (25, false, .ireturn), (26, false, .aload 0), (27, false, .iload 1), (28, false, .invokestatic 2), (31, false, .iload 2), (32, false, .ifCond .ne (Int.ofNat 42)), (35, false, .aload 0), (36, false, .invokeinterface 11 55), (39, false, .goto (Int.ofNat 46)), (42, false, .aload 0), (43, false, .invokeinterface 11 56), (46, false, .ireturn)]
def cq_m_margin : mq_C := ((yX11_margin, cX11_margin, 3, (some .int), { frames := 8, cells := 0, slots := 0, locals := 199 }), (3, 1, 0, 0), 19805000567398406216260517888, (fun as ρ μ => match ρ with
  | (nw, sp, tl, tx, al) => mq_pZ as 60 fun as => mq_pI as fun c as => mq_pI as fun w as => mq_p0 as (sq_bx (sq_inv (μ (69, 0)) (μ (76, 0))) ∧ True)),
  (fun as ρ μ r ρ' μ' => match as, ρ, ρ' with
  | [.inr (.inr (some (_, _))), .inl c, .inl w], (nw, sp, tl, tx, al), (nw', sp', tl', tx', al') => [sq_bx (sq_inv (μ' (69, 0)) (μ' (76, 0)))]
  | _, _, _ => []))
def kq_m_margin : List mq_V → mq_R → mq_M → List mq_Cu := fun as ρ μ => match as, ρ with
  | [.inr (.inr (some (_, _))), .inl c, .inl w], (nw, sp, tl, tx, al) => []
  | _, _ => []
set_option maxHeartbeats 16000000 in
set_option maxRecDepth 100000 in
theorem vq_m_margin (lc : Launch) (h_m_isCoach : mq_Ct lc cq_m_isCoach) (h_m_in : mq_Ct lc cq_m_in) (h_m_tries : mq_Ct lc cq_m_tries) : mq_Ct lc cq_m_margin := by
  refine mq_method (lc := lc) (P := pq_m_margin) (cl := [cq_m_isCoach, cq_m_in, cq_m_tries]) (T := ([(120, 11, 0), (494, 11, 55), (497, 11, 56)], [], [], [(307, 0, 0), (125, 1, 1), (500, 2, 0)], [], [])) (fuel := 400) (cuts := kq_m_margin) (by decide) rfl ⟨rfl, rfl⟩ (List.forall_mem_cons.mpr ⟨h_m_isCoach, (List.forall_mem_cons.mpr ⟨h_m_in, (List.forall_mem_cons.mpr ⟨h_m_tries, (fun _ h => absurd h List.not_mem_nil)⟩)⟩)⟩) ⟨(List.forall_mem_cons.mpr ⟨⟨_, rfl, by decide, kw_773⟩, (List.forall_mem_cons.mpr ⟨⟨_, rfl, by decide, kw_1103⟩, (List.forall_mem_cons.mpr ⟨⟨_, rfl, by decide, kw_1104⟩, (fun _ h => absurd h List.not_mem_nil)⟩)⟩)⟩), (fun _ h => absurd h List.not_mem_nil), (fun _ h => absurd h List.not_mem_nil), (List.forall_mem_cons.mpr ⟨mq_ml0 rfl mw0_m_isCoach kw_872, (List.forall_mem_cons.mpr ⟨mq_ml1 rfl mw1_m_in kw_772, (List.forall_mem_cons.mpr ⟨mq_ml0 rfl mw0_m_tries kw_1108, (fun _ h => absurd h List.not_mem_nil)⟩)⟩)⟩), (fun _ h => absurd h List.not_mem_nil), (fun _ h => absurd h List.not_mem_nil)⟩ (by decide +kernel) ⟨_, _, rfl⟩ ?_ ?_ ?_ ?_
  · intro as ρ μ h
    obtain ⟨nw, sp, tl, tx, al⟩ := ρ
    obtain ⟨as0, rfl, h0⟩ := mq_pZ_spec h
    clear h
    obtain ⟨c, as1, rfl, h1⟩ := mq_pI_spec h0
    clear h0
    obtain ⟨w, as2, rfl, h2⟩ := mq_pI_spec h1
    clear h1
    obtain ⟨rfl, hp⟩ := mq_p0_spec h2
    clear h2
    obtain ⟨hp0, hp1⟩ := hp
    rfl
  · intro as ρ μ h
    obtain ⟨nw, sp, tl, tx, al⟩ := ρ
    obtain ⟨as0, rfl, h0⟩ := mq_pZ_spec h
    clear h
    obtain ⟨c, as1, rfl, h1⟩ := mq_pI_spec h0
    clear h0
    obtain ⟨w, as2, rfl, h2⟩ := mq_pI_spec h1
    clear h1
    obtain ⟨rfl, hp⟩ := mq_p0_spec h2
    clear h2
    obtain ⟨hp0, hp1⟩ := hp
    intro hrg
    obtain ⟨⟨ha1a, ha1b⟩, ⟨ha2a, ha2b⟩, -⟩ := hrg
    intro hbk
    have e0 : mq_l0 ([.inr (.inr (some (60, 0))), .inl c, .inl w] : List mq_V) 3 = [some (.inr (.inr (some (60, 0)))), some (.inl c), some (.inl w)] := rfl
    rw [e0]
    repeat' (first | refine And.intro ?_ ?_ | intro _)
    all_goals try simp only [Int.reduceToNat, Int.reduceAdd, mq_up_f, mq_up_s, mq_up_e, ne_eq, Nat.reduceEqDiff, not_false_eq_true, true_and, and_true, false_and, and_false, false_or, or_false, true_or, or_true, true_implies] at *
    all_goals first | omega | rfl | exact trivial | assumption
  · intro as ρ μ h
    obtain ⟨nw, sp, tl, tx, al⟩ := ρ
    obtain ⟨as0, rfl, h0⟩ := mq_pZ_spec h
    clear h
    obtain ⟨c, as1, rfl, h1⟩ := mq_pI_spec h0
    clear h0
    obtain ⟨w, as2, rfl, h2⟩ := mq_pI_spec h1
    clear h1
    obtain ⟨rfl, hp⟩ := mq_p0_spec h2
    clear h2
    obtain ⟨hp0, hp1⟩ := hp
    exact fun _ h => absurd h List.not_mem_nil
  · intro as ρ μ h
    obtain ⟨nw, sp, tl, tx, al⟩ := ρ
    obtain ⟨as0, rfl, h0⟩ := mq_pZ_spec h
    clear h
    obtain ⟨c, as1, rfl, h1⟩ := mq_pI_spec h0
    clear h0
    obtain ⟨w, as2, rfl, h2⟩ := mq_pI_spec h1
    clear h1
    obtain ⟨rfl, hp⟩ := mq_p0_spec h2
    clear h2
    obtain ⟨hp0, hp1⟩ := hp
    intro hrg
    obtain ⟨⟨ha1a, ha1b⟩, ⟨ha2a, ha2b⟩, -⟩ := hrg
    exact fun _ h => absurd h List.not_mem_nil
