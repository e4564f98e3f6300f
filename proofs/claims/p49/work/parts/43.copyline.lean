def pq_m_copyLine : List mq_E := [(0, false, .aload 0), (1, false, .invokeinterface 11 16), (4, false, .iconst 1), (5, false, .iload 1), (6, false, .iload 2), (7, false, .invokestatic 0), (10, false, .aload 0), (11, false, .invokeinterface 11 17), (14, false, .iconst 1), (15, false, .iload 1), (16, false, .iload 2), (17, false, .invokestatic 1), (20, false, .aload 0), (21, false, .invokeinterface 11 18), (24, false, .iconst 1), (25, false, .iload 1), (26, false, .iload 2), (27, false, .invokestatic 2), (30, false, .aload 0), (31, false, .invokeinterface 11 19), (34, false, .iconst 7), (36, false, .iload 1), (37, false, .iload 2), (38, false, .invokestatic 3), (41, false, .aload 0), (42, false, .invokeinterface 11 20), (45, false, .iconst 16), (47, false, .iload 1), (48, false, .iload 2), (49, false, .invokestatic 4), (52, false, .aload 0), (53, false, .invokeinterface 11 21), (56, false, .iconst 18), (58, false, .iload 1), (59, false, .iload 2), (60, false, .invokestatic 5), (63, false, .aload 0), (64, false, .invokeinterface 11 22), (67, false, .iconst 12), (69, false, .iload 1), (70, false, .iload 2), (71, false, .invokestatic 6), (74, false, .aload 0), (75, false, .invokeinterface 11 23), (78, false, .iconst 12), (80, false, .iload 1), (81, false, .iload 2), (82, false, .invokestatic 7), (85, false, .aload 0), (86, false, .invokeinterface 11 24), (89, false, .iconst 20), (91, false, .iload 1), (92, false, .iload 2), (93, false, .invokestatic 8), (96, false, .aload 0), (97, false, .invokeinterface 11 25), (100, false, .iconst 15), (102, false, .iload 1), (103, false, .iload 2), (104, false, .invokestatic 9), (107, false, .aload 0), (108, false, .invokeinterface 11 26), (111, false, .iconst 80), (113, false, .iload 1), (114, false, .iload 2), (115, false, .invokestatic 10), (118, false, .return_)]
def cq_m_copyLine : mq_C := ((yX11_copyLine, cX11_copyLine, 3, none, { frames := 1, cells := 0, slots := 0, locals := 24 }), (3, 0, 0, 0), 151041940475533808631808, (fun as ρ μ => match ρ with
  | (nw, sp, tl, tx, al) => mq_pZ as 60 fun as => mq_pI as fun a as => mq_pI as fun b as => mq_p0 as (0 ≤ a ∧ a ≤ 4 ∧ 0 ≤ b ∧ b ≤ 4 ∧ ¬ a = b)),
  (fun as ρ μ r ρ' μ' => match as, ρ, ρ' with
  | [.inr (.inr (some (_, _))), .inl a, .inl b], (nw, sp, tl, tx, al), (nw', sp', tl', tx', al') => [sq_bx (sq_cp (μ (69, 0)) (μ' (69, 0)) 7 a b 7), sq_bx (sq_cp (μ (76, 0)) (μ' (76, 0)) 80 a b 80)]
  | _, _, _ => []))
def kq_m_copyLine : List mq_V → mq_R → mq_M → List mq_Cu := fun as ρ μ => match as, ρ with
  | [.inr (.inr (some (_, _))), .inl a, .inl b], (nw, sp, tl, tx, al) => []
  | _, _ => []
set_option maxHeartbeats 16000000 in
set_option maxRecDepth 100000 in
theorem vq_m_copyLine (lc : Launch) (h_m_copy_lines : mq_Ct lc cq_m_copy_lines) (h_m_copy_length : mq_Ct lc cq_m_copy_length) (h_m_copy_rain : mq_Ct lc cq_m_copy_rain) (h_m_copy_has : mq_Ct lc cq_m_copy_has) (h_m_copy_slope : mq_Ct lc cq_m_copy_slope) (h_m_copy_wet : mq_Ct lc cq_m_copy_wet) (h_m_copy_limit : mq_Ct lc cq_m_copy_limit) (h_m_copy_platform : mq_Ct lc cq_m_copy_platform) (h_m_copy_kind : mq_Ct lc cq_m_copy_kind) (h_m_copy_train : mq_Ct lc cq_m_copy_train) (h_m_copy_coach : mq_Ct lc cq_m_copy_coach) : mq_Ct lc cq_m_copyLine := by
  refine mq_method (lc := lc) (P := pq_m_copyLine) (cl := [cq_m_copy_lines, cq_m_copy_length, cq_m_copy_rain, cq_m_copy_has, cq_m_copy_slope, cq_m_copy_wet, cq_m_copy_limit, cq_m_copy_platform, cq_m_copy_kind, cq_m_copy_train, cq_m_copy_coach]) (T := ([(31, 11, 16), (34, 11, 17), (37, 11, 18), (40, 11, 19), (43, 11, 20), (46, 11, 21), (49, 11, 22), (52, 11, 23), (55, 11, 24), (58, 11, 25), (61, 11, 26)], [], [], [(286, 0, 1), (286, 1, 1), (286, 2, 1), (286, 3, 1), (286, 4, 1), (286, 5, 1), (286, 6, 1), (286, 7, 1), (286, 8, 1), (286, 9, 1), (286, 10, 1)], [], [])) (fuel := 400) (cuts := kq_m_copyLine) (by decide) rfl ⟨rfl, rfl⟩ (List.forall_mem_cons.mpr ⟨h_m_copy_lines, (List.forall_mem_cons.mpr ⟨h_m_copy_length, (List.forall_mem_cons.mpr ⟨h_m_copy_rain, (List.forall_mem_cons.mpr ⟨h_m_copy_has, (List.forall_mem_cons.mpr ⟨h_m_copy_slope, (List.forall_mem_cons.mpr ⟨h_m_copy_wet, (List.forall_mem_cons.mpr ⟨h_m_copy_limit, (List.forall_mem_cons.mpr ⟨h_m_copy_platform, (List.forall_mem_cons.mpr ⟨h_m_copy_kind, (List.forall_mem_cons.mpr ⟨h_m_copy_train, (List.forall_mem_cons.mpr ⟨h_m_copy_coach, (fun _ h => absurd h List.not_mem_nil)⟩)⟩)⟩)⟩)⟩)⟩)⟩)⟩)⟩)⟩)⟩) ⟨(List.forall_mem_cons.mpr ⟨⟨_, rfl, by decide, kw_846⟩, (List.forall_mem_cons.mpr ⟨⟨_, rfl, by decide, kw_832⟩, (List.forall_mem_cons.mpr ⟨⟨_, rfl, by decide, kw_838⟩, (List.forall_mem_cons.mpr ⟨⟨_, rfl, by decide, kw_837⟩, (List.forall_mem_cons.mpr ⟨⟨_, rfl, by decide, kw_847⟩, (List.forall_mem_cons.mpr ⟨⟨_, rfl, by decide, kw_848⟩, (List.forall_mem_cons.mpr ⟨⟨_, rfl, by decide, kw_849⟩, (List.forall_mem_cons.mpr ⟨⟨_, rfl, by decide, kw_873⟩, (List.forall_mem_cons.mpr ⟨⟨_, rfl, by decide, kw_874⟩, (List.forall_mem_cons.mpr ⟨⟨_, rfl, by decide, kw_840⟩, (List.forall_mem_cons.mpr ⟨⟨_, rfl, by decide, kw_867⟩, (fun _ h => absurd h List.not_mem_nil)⟩)⟩)⟩)⟩)⟩)⟩)⟩)⟩)⟩)⟩)⟩), (fun _ h => absurd h List.not_mem_nil), (fun _ h => absurd h List.not_mem_nil), (List.forall_mem_cons.mpr ⟨mq_ml1 rfl mw1_m_copy_lines kw_877, (List.forall_mem_cons.mpr ⟨mq_ml1 rfl mw1_m_copy_length kw_877, (List.forall_mem_cons.mpr ⟨mq_ml1 rfl mw1_m_copy_rain kw_877, (List.forall_mem_cons.mpr ⟨mq_ml1 rfl mw1_m_copy_has kw_877, (List.forall_mem_cons.mpr ⟨mq_ml1 rfl mw1_m_copy_slope kw_877, (List.forall_mem_cons.mpr ⟨mq_ml1 rfl mw1_m_copy_wet kw_877, (List.forall_mem_cons.mpr ⟨mq_ml1 rfl mw1_m_copy_limit kw_877, (List.forall_mem_cons.mpr ⟨mq_ml1 rfl mw1_m_copy_platform kw_877, (List.forall_mem_cons.mpr ⟨mq_ml1 rfl mw1_m_copy_kind kw_877, (List.forall_mem_cons.mpr ⟨mq_ml1 rfl mw1_m_copy_train kw_877, (List.forall_mem_cons.mpr ⟨mq_ml1 rfl mw1_m_copy_coach kw_877, (fun _ h => absurd h List.not_mem_nil)⟩)⟩)⟩)⟩)⟩)⟩)⟩)⟩)⟩)⟩)⟩), (fun _ h => absurd h List.not_mem_nil), (fun _ h => absurd h List.not_mem_nil)⟩ (by decide +kernel) ⟨_, _, rfl⟩ ?_ ?_ ?_ ?_
  · intro as ρ μ h
    obtain ⟨nw, sp, tl, tx, al⟩ := ρ
    obtain ⟨as0, rfl, h0⟩ := mq_pZ_spec h
    clear h
    obtain ⟨a, as1, rfl, h1⟩ := mq_pI_spec h0
    clear h0
    obtain ⟨b, as2, rfl, h2⟩ := mq_pI_spec h1
    clear h1
    obtain ⟨rfl, hp⟩ := mq_p0_spec h2
    clear h2
    obtain ⟨hp0, hp1, hp2, hp3, hp4⟩ := hp
    rfl
  · intro as ρ μ h
    obtain ⟨nw, sp, tl, tx, al⟩ := ρ
    obtain ⟨as0, rfl, h0⟩ := mq_pZ_spec h
    clear h
    obtain ⟨a, as1, rfl, h1⟩ := mq_pI_spec h0
    clear h0
    obtain ⟨b, as2, rfl, h2⟩ := mq_pI_spec h1
    clear h1
    obtain ⟨rfl, hp⟩ := mq_p0_spec h2
    clear h2
    obtain ⟨hp0, hp1, hp2, hp3, hp4⟩ := hp
    intro hrg
    obtain ⟨⟨ha1a, ha1b⟩, ⟨ha2a, ha2b⟩, -⟩ := hrg
    intro hbk
    have e0 : mq_l0 ([.inr (.inr (some (60, 0))), .inl a, .inl b] : List mq_V) 3 = [some (.inr (.inr (some (60, 0)))), some (.inl a), some (.inl b)] := rfl
    rw [e0]
    refine ⟨⟨rfl, by omega, by omega, by omega, by omega, by omega⟩, ?_⟩
    intro m0 a0 r0 g0 p0
    refine ⟨⟨rfl, by omega, by omega, by omega, by omega, by omega⟩, ?_⟩
    intro m1 a1 r1 g1 p1
    refine ⟨⟨rfl, by omega, by omega, by omega, by omega, by omega⟩, ?_⟩
    intro m2 a2 r2 g2 p2
    refine ⟨⟨rfl, by omega, by omega, by omega, by omega, by omega⟩, ?_⟩
    intro m3 a3 r3 g3 p3
    refine ⟨⟨rfl, by omega, by omega, by omega, by omega, by omega⟩, ?_⟩
    intro m4 a4 r4 g4 p4
    refine ⟨⟨rfl, by omega, by omega, by omega, by omega, by omega⟩, ?_⟩
    intro m5 a5 r5 g5 p5
    refine ⟨⟨rfl, by omega, by omega, by omega, by omega, by omega⟩, ?_⟩
    intro m6 a6 r6 g6 p6
    refine ⟨⟨rfl, by omega, by omega, by omega, by omega, by omega⟩, ?_⟩
    intro m7 a7 r7 g7 p7
    refine ⟨⟨rfl, by omega, by omega, by omega, by omega, by omega⟩, ?_⟩
    intro m8 a8 r8 g8 p8
    refine ⟨⟨rfl, by omega, by omega, by omega, by omega, by omega⟩, ?_⟩
    intro m9 a9 r9 g9 p9
    refine ⟨⟨rfl, by omega, by omega, by omega, by omega, by omega⟩, ?_⟩
    intro m10 a10 r10 g10 p10
    have e3 : m2 (69, 0) = μ (69, 0) := (mq_ag_at a2 69 0 (by decide)).trans ((mq_ag_at a1 69 0 (by decide)).trans (mq_ag_at a0 69 0 (by decide)))
    have e9 : m9 (76, 0) = μ (76, 0) := (mq_ag_at a9 76 0 (by decide)).trans ((mq_ag_at a8 76 0 (by decide)).trans ((mq_ag_at a7 76 0 (by decide)).trans ((mq_ag_at a6 76 0 (by decide)).trans ((mq_ag_at a5 76 0 (by decide)).trans ((mq_ag_at a4 76 0 (by decide)).trans ((mq_ag_at a3 76 0 (by decide)).trans ((mq_ag_at a2 76 0 (by decide)).trans ((mq_ag_at a1 76 0 (by decide)).trans (mq_ag_at a0 76 0 (by decide))))))))))
    have e10 : m10 (69, 0) = m3 (69, 0) := (mq_ag_at a10 69 0 (by decide)).trans ((mq_ag_at a9 69 0 (by decide)).trans ((mq_ag_at a8 69 0 (by decide)).trans ((mq_ag_at a7 69 0 (by decide)).trans ((mq_ag_at a6 69 0 (by decide)).trans ((mq_ag_at a5 69 0 (by decide)).trans (mq_ag_at a4 69 0 (by decide)))))))
    rw [e3] at p3
    rw [e9] at p10
    rw [← e10] at p3
    refine ⟨?_, ⟨p3, p10, trivial⟩, Nat.le_refl _, rfl⟩
    first | rfl | exact trivial
  · intro as ρ μ h
    obtain ⟨nw, sp, tl, tx, al⟩ := ρ
    obtain ⟨as0, rfl, h0⟩ := mq_pZ_spec h
    clear h
    obtain ⟨a, as1, rfl, h1⟩ := mq_pI_spec h0
    clear h0
    obtain ⟨b, as2, rfl, h2⟩ := mq_pI_spec h1
    clear h1
    obtain ⟨rfl, hp⟩ := mq_p0_spec h2
    clear h2
    obtain ⟨hp0, hp1, hp2, hp3, hp4⟩ := hp
    exact fun _ h => absurd h List.not_mem_nil
  · intro as ρ μ h
    obtain ⟨nw, sp, tl, tx, al⟩ := ρ
    obtain ⟨as0, rfl, h0⟩ := mq_pZ_spec h
    clear h
    obtain ⟨a, as1, rfl, h1⟩ := mq_pI_spec h0
    clear h0
    obtain ⟨b, as2, rfl, h2⟩ := mq_pI_spec h1
    clear h1
    obtain ⟨rfl, hp⟩ := mq_p0_spec h2
    clear h2
    obtain ⟨hp0, hp1, hp2, hp3, hp4⟩ := hp
    intro hrg
    obtain ⟨⟨ha1a, ha1b⟩, ⟨ha2a, ha2b⟩, -⟩ := hrg
    exact fun _ h => absurd h List.not_mem_nil
theorem mw0_m_copyLine : mq_mlA cq_m_copyLine 0 := ⟨kw_879, ⟨by decide +kernel, by decide +kernel⟩, by decide +kernel, kw_880, kw_881, kw_771, 60, by decide +kernel, fun as ρ μ h => by obtain ⟨nw, sp, tl, tx, al⟩ := ρ; obtain ⟨t, e, _⟩ := mq_pZ_spec h; exact ⟨0, t, e⟩⟩
def pq_m_keep : List mq_E := [(0, false, .aload 0), (1, false, .iconst 0), (2, false, .multianewarray 11 0), (5, false, .iload 1), (6, false, .i2l), (7, false, .goto_w 0), (8, false, .goto_w 2), (11, false, .invokestatic 0), (14, false, .ifCond .ne (Int.ofNat 20)), (17, false, .iconst (-2)), (19, false, .ireturn), (20, false, .aload 0), (21, false, .iconst 0), (22, false, .iconst 1), (23, false, .iload 1), (24, false, .iadd), (25, false, .invokestatic 1), (28, false, .aload 0), (29, false, .invokeinterface 11 27), (32, false, .iload 1), (33, false, .iconst 1), (34, false, .bastore), (35, false, .iconst 0), (36, false, .ireturn)]
def cq_m_keep : mq_C := ((yX11_keep, cX11_keep, 2, (some .int), { frames := 2, cells := 0, slots := 0, locals := 46 }), (2, 1, 0, 0), 302158820848867062317056, (fun as ρ μ => match ρ with
  | (nw, sp, tl, tx, al) => mq_pZ as 60 fun as => mq_pI as fun k as => mq_p0 as (sq_bx (sq_inv (μ (69, 0)) (μ (76, 0))) ∧ True)),
  (fun as ρ μ r ρ' μ' => match as, ρ, ρ' with
  | [.inr (.inr (some (_, _))), .inl k], (nw, sp, tl, tx, al), (nw', sp', tl', tx', al') => [(r = -2 ∧ ¬ (0 ≤ k ∧ k ≤ 2)) ∨ (r = 0 ∧ 0 ≤ k ∧ k ≤ 2), sq_bx (∀ x : Nat, (r = 0 ∧ (x : Int) = k → μ' (77, 0) x = 1) ∧ (¬ (r = 0 ∧ (x : Int) = k) → μ' (77, 0) x = μ (77, 0) x)), sq_bx (sq_inv (μ' (69, 0)) (μ' (76, 0)))]
  | _, _, _ => []))
def kq_m_keep : List mq_V → mq_R → mq_M → List mq_Cu := fun as ρ μ => match as, ρ with
  | [.inr (.inr (some (_, _))), .inl k], (nw, sp, tl, tx, al) => []
  | _, _ => []
set_option maxHeartbeats 16000000 in
set_option maxRecDepth 100000 in
theorem vq_m_keep (lc : Launch) (h_m_in : mq_Ct lc cq_m_in) (h_m_copyLine : mq_Ct lc cq_m_copyLine) : mq_Ct lc cq_m_keep := by
  refine mq_method (lc := lc) (P := pq_m_keep) (cl := [cq_m_in, cq_m_copyLine]) (T := ([(120, 11, 0), (64, 11, 27)], [], [(296, 2)], [(125, 0, 1), (282, 1, 0)], [], [])) (fuel := 400) (cuts := kq_m_keep) (by decide) rfl ⟨rfl, rfl⟩ (List.forall_mem_cons.mpr ⟨h_m_in, (List.forall_mem_cons.mpr ⟨h_m_copyLine, (fun _ h => absurd h List.not_mem_nil)⟩)⟩) ⟨(List.forall_mem_cons.mpr ⟨⟨_, rfl, by decide, kw_773⟩, (List.forall_mem_cons.mpr ⟨⟨_, rfl, by decide, kw_878⟩, (fun _ h => absurd h List.not_mem_nil)⟩)⟩), (fun _ h => absurd h List.not_mem_nil), (List.forall_mem_cons.mpr ⟨kw_850, (fun _ h => absurd h List.not_mem_nil)⟩), (List.forall_mem_cons.mpr ⟨mq_ml1 rfl mw1_m_in kw_772, (List.forall_mem_cons.mpr ⟨mq_ml0 rfl mw0_m_copyLine kw_882, (fun _ h => absurd h List.not_mem_nil)⟩)⟩), (fun _ h => absurd h List.not_mem_nil), (fun _ h => absurd h List.not_mem_nil)⟩ (by decide +kernel) ⟨_, _, rfl⟩ ?_ ?_ ?_ ?_
  · intro as ρ μ h
    obtain ⟨nw, sp, tl, tx, al⟩ := ρ
    obtain ⟨as0, rfl, h0⟩ := mq_pZ_spec h
    clear h
    obtain ⟨k, as1, rfl, h1⟩ := mq_pI_spec h0
    clear h0
    obtain ⟨rfl, hp⟩ := mq_p0_spec h1
    clear h1
    obtain ⟨hp0, hp1⟩ := hp
    rfl
  · intro as ρ μ h
    obtain ⟨nw, sp, tl, tx, al⟩ := ρ
    obtain ⟨as0, rfl, h0⟩ := mq_pZ_spec h
    clear h
    obtain ⟨k, as1, rfl, h1⟩ := mq_pI_spec h0
    clear h0
    obtain ⟨rfl, hp⟩ := mq_p0_spec h1
    clear h1
    obtain ⟨hp0, hp1⟩ := hp
    intro hrg
    obtain ⟨⟨ha1a, ha1b⟩, -⟩ := hrg
    intro hbk
    have e0 : mq_l0 ([.inr (.inr (some (60, 0))), .inl k] : List mq_V) 2 = [some (.inr (.inr (some (60, 0)))), some (.inl k)] := rfl
    rw [e0]
    repeat' (first | refine And.intro ?_ ?_ | intro _)
    all_goals try first | exact sq_m (fun x => ⟨fun h => absurd h.1 (by decide), fun _ => rfl⟩) | (have hag := ‹mq_ag _ _ _›; exact sq_m (sq_kept_up (μ := μ) (k := k) ((mq_ag_at hag 77 0 (by decide +kernel)).trans (mq_up_f _ _ _ _ _ _ _ (by decide))) (by omega)))
    all_goals try simp only [Int.reduceToNat, Int.reduceAdd, mq_up_f, mq_up_s, mq_up_e, ne_eq, Nat.reduceEqDiff, not_false_eq_true, true_and, and_true, false_and, and_false, false_or, or_false, true_or, or_true, true_implies] at *
    all_goals first | omega | rfl | exact trivial | assumption | exact hp0 | exact sq_m (sq_inv_copy (a := 0) (b := 1 + k) (sq_g hp0) (sq_g hp0 _ (by omega) (by omega)) (sq_has16 hbk) ⟨by omega, by omega⟩ (by omega) (sq_g ‹_›) (sq_g ‹_›))
  · intro as ρ μ h
    obtain ⟨nw, sp, tl, tx, al⟩ := ρ
    obtain ⟨as0, rfl, h0⟩ := mq_pZ_spec h
    clear h
    obtain ⟨k, as1, rfl, h1⟩ := mq_pI_spec h0
    clear h0
    obtain ⟨rfl, hp⟩ := mq_p0_spec h1
    clear h1
    obtain ⟨hp0, hp1⟩ := hp
    exact fun _ h => absurd h List.not_mem_nil
  · intro as ρ μ h
    obtain ⟨nw, sp, tl, tx, al⟩ := ρ
    obtain ⟨as0, rfl, h0⟩ := mq_pZ_spec h
    clear h
    obtain ⟨k, as1, rfl, h1⟩ := mq_pI_spec h0
    clear h0
    obtain ⟨rfl, hp⟩ := mq_p0_spec h1
    clear h1
    obtain ⟨hp0, hp1⟩ := hp
    intro hrg
    obtain ⟨⟨ha1a, ha1b⟩, -⟩ := hrg
    exact fun _ h => absurd h List.not_mem_nil
def pq_m_back : List mq_E := [(0, false, .aload 0), (1, false, .iconst 0), (2, false, .multianewarray 11 0), (5, false, .iload 1), (6, false, .i2l), (7, false, .goto_w 0), (8, false, .goto_w 2), (11, false, .invokestatic 0), (14, false, .ifCond .ne (Int.ofNat 20)), (17, false, .iconst (-2)), (19, false, .ireturn), (20, false, .aload 0), (21, false, .invokeinterface 11 27), (24, false, .iload 1), (25, false, .baload), (26, false, .ifCond .ne (Int.ofNat 32)), (29, false, .iconst (-6)), (31, false, .ireturn), (32, false, .aload 0), (33, false, .iconst 1), (34, false, .iload 1), (35, false, .iadd), (36, false, .iconst 0), (37, false, .invokestatic 1), (40, false, .iconst 0), (41, false, .ireturn)]
def cq_m_back : mq_C := ((yX11_back, cX11_back, 2, (some .int), { frames := 2, cells := 0, slots := 0, locals := 46 }), (2, 1, 0, 0), 151043093397038415478784, (fun as ρ μ => match ρ with
  | (nw, sp, tl, tx, al) => mq_pZ as 60 fun as => mq_pI as fun k as => mq_p0 as (sq_bx (sq_inv (μ (69, 0)) (μ (76, 0))) ∧ True)),
  (fun as ρ μ r ρ' μ' => match as, ρ, ρ' with
  | [.inr (.inr (some (_, _))), .inl k], (nw, sp, tl, tx, al), (nw', sp', tl', tx', al') => [(r = -2 ∧ ¬ (0 ≤ k ∧ k ≤ 2)) ∨ (0 ≤ k ∧ k ≤ 2 ∧ ((r = -6 ∧ μ (77, 0) k.toNat = 0) ∨ (r = 0 ∧ ¬ μ (77, 0) k.toNat = 0))), sq_bx (sq_inv (μ' (69, 0)) (μ' (76, 0)))]
  | _, _, _ => []))
def kq_m_back : List mq_V → mq_R → mq_M → List mq_Cu := fun as ρ μ => match as, ρ with
  | [.inr (.inr (some (_, _))), .inl k], (nw, sp, tl, tx, al) => []
  | _, _ => []
set_option maxHeartbeats 16000000 in
set_option maxRecDepth 100000 in
theorem vq_m_back (lc : Launch) (h_m_in : mq_Ct lc cq_m_in) (h_m_copyLine : mq_Ct lc cq_m_copyLine) : mq_Ct lc cq_m_back := by
  refine mq_method (lc := lc) (P := pq_m_back) (cl := [cq_m_in, cq_m_copyLine]) (T := ([(120, 11, 0), (64, 11, 27)], [], [(296, 2)], [(125, 0, 1), (282, 1, 0)], [], [])) (fuel := 400) (cuts := kq_m_back) (by decide) rfl ⟨rfl, rfl⟩ (List.forall_mem_cons.mpr ⟨h_m_in, (List.forall_mem_cons.mpr ⟨h_m_copyLine, (fun _ h => absurd h List.not_mem_nil)⟩)⟩) ⟨(List.forall_mem_cons.mpr ⟨⟨_, rfl, by decide, kw_773⟩, (List.forall_mem_cons.mpr ⟨⟨_, rfl, by decide, kw_878⟩, (fun _ h => absurd h List.not_mem_nil)⟩)⟩), (fun _ h => absurd h List.not_mem_nil), (List.forall_mem_cons.mpr ⟨kw_850, (fun _ h => absurd h List.not_mem_nil)⟩), (List.forall_mem_cons.mpr ⟨mq_ml1 rfl mw1_m_in kw_772, (List.forall_mem_cons.mpr ⟨mq_ml0 rfl mw0_m_copyLine kw_882, (fun _ h => absurd h List.not_mem_nil)⟩)⟩), (fun _ h => absurd h List.not_mem_nil), (fun _ h => absurd h List.not_mem_nil)⟩ (by decide +kernel) ⟨_, _, rfl⟩ ?_ ?_ ?_ ?_
  · intro as ρ μ h
    obtain ⟨nw, sp, tl, tx, al⟩ := ρ
    obtain ⟨as0, rfl, h0⟩ := mq_pZ_spec h
    clear h
    obtain ⟨k, as1, rfl, h1⟩ := mq_pI_spec h0
    clear h0
    obtain ⟨rfl, hp⟩ := mq_p0_spec h1
    clear h1
    obtain ⟨hp0, hp1⟩ := hp
    rfl
  · intro as ρ μ h
    obtain ⟨nw, sp, tl, tx, al⟩ := ρ
    obtain ⟨as0, rfl, h0⟩ := mq_pZ_spec h
    clear h
    obtain ⟨k, as1, rfl, h1⟩ := mq_pI_spec h0
    clear h0
    obtain ⟨rfl, hp⟩ := mq_p0_spec h1
    clear h1
    obtain ⟨hp0, hp1⟩ := hp
    intro hrg
    obtain ⟨⟨ha1a, ha1b⟩, -⟩ := hrg
    intro hbk
    have e0 : mq_l0 ([.inr (.inr (some (60, 0))), .inl k] : List mq_V) 2 = [some (.inr (.inr (some (60, 0)))), some (.inl k)] := rfl
    rw [e0]
    repeat' (first | refine And.intro ?_ ?_ | intro _)
    all_goals try simp only [Int.reduceToNat, Int.reduceAdd, mq_up_f, mq_up_s, mq_up_e, ne_eq, Nat.reduceEqDiff, not_false_eq_true, true_and, and_true, false_and, and_false, false_or, or_false, true_or, or_true, true_implies] at *
    all_goals first | omega | rfl | exact trivial | assumption | exact hp0 | exact sq_m (sq_inv_copy (a := 1 + k) (b := 0) (sq_g hp0) (sq_g hp0 _ (by omega) (by omega)) (sq_has16 hbk) ⟨by omega, by omega⟩ (by omega) (sq_g ‹_›) (sq_g ‹_›))
  · intro as ρ μ h
    obtain ⟨nw, sp, tl, tx, al⟩ := ρ
    obtain ⟨as0, rfl, h0⟩ := mq_pZ_spec h
    clear h
    obtain ⟨k, as1, rfl, h1⟩ := mq_pI_spec h0
    clear h0
    obtain ⟨rfl, hp⟩ := mq_p0_spec h1
    clear h1
    obtain ⟨hp0, hp1⟩ := hp
    exact fun _ h => absurd h List.not_mem_nil
  · intro as ρ μ h
    obtain ⟨nw, sp, tl, tx, al⟩ := ρ
    obtain ⟨as0, rfl, h0⟩ := mq_pZ_spec h
    clear h
    obtain ⟨k, as1, rfl, h1⟩ := mq_pI_spec h0
    clear h0
    obtain ⟨rfl, hp⟩ := mq_p0_spec h1
    clear h1
    obtain ⟨hp0, hp1⟩ := hp
    intro hrg
    obtain ⟨⟨ha1a, ha1b⟩, -⟩ := hrg
    exact fun _ h => absurd h List.not_mem_nil
def pq_m_swap : List mq_E := [(0, false, .aload 0), (1, false, .iconst 0), (2, false, .multianewarray 11 0), (5, false, .aload 0), (6, false, .iload 1), (7, false, .invokestatic 0), (10, false, .ifCond .eq (Int.ofNat 45)), (13, false, .aload 0), (14, false, .iload 2), (15, false, .invokestatic 0), (18, false, .ifCond .eq (Int.ofNat 45)), (21, false, .iload 1), (22, false, .iload 2), (23, false, .if_icmp .eq (Int.ofNat 45)), (26, false, .aload 0), (27, false, .invokeinterface 11 26), (30, false, .iconst 5), (31, false, .iload 1), (32, false, .imul), (33, false, .jsr 0), (34, false, .aload 0), (35, false, .invokeinterface 11 26), (38, false, .iconst 5), (39, false, .iload 2), (40, false, .imul), (41, false, .jsr 0), (42, false, .if_icmp .eq (Int.ofNat 48)), (45, false, .iconst (-2)), (47, false, .ireturn), (48, false, .aload 0), (49, false, .invokeinterface 11 26), (52, false, .iconst 5), (53, false, .iload 1), (54, false, .imul), (55, false, .iconst 4), (56, false, .iadd), (57, false, .jsr 4), (58, false, .istore 3), (59, false, .aload 0), (60, false, .invokeinterface 11 26), (63, false, .iconst 5), (64, false, .iload 1), (65, false, .imul), (66, false, .iconst 4), (67, false, .iadd), (68, false, .aload 0), (69, false, .invokeinterface 11 26), (72, false, .iconst 5), (73, false, .iload 2), (74, false, .imul), (75, false, .iconst 4), (76, false, .iadd), (77, false, .jsr 4), (78, false, .jsr_w 4), (79, false, .aload 0), (80, false, .invokeinterface 11 26), (83, false, .iconst 5), (84, false, .iload 2), (85, false, .imul), (86, false, .iconst 4), (87, false, .iadd), (88, false, .iload 3), (89, false, .jsr_w 4), (90, false, .iconst 0), (91, false, .ireturn)]
def cq_m_swap : mq_C := ((yX11_swap, cX11_swap, 4, (some .int), { frames := 2, cells := 0, slots := 0, locals := 46 }), (3, 1, 0, 0), 75559016647418930266112, (fun as ρ μ => match ρ with
  | (nw, sp, tl, tx, al) => mq_pZ as 60 fun as => mq_pI as fun a as => mq_pI as fun b as => mq_p0 as (sq_bx (sq_inv (μ (69, 0)) (μ (76, 0))) ∧ True)),
  (fun as ρ μ r ρ' μ' => match as, ρ, ρ' with
  | [.inr (.inr (some (_, _))), .inl a, .inl b], (nw, sp, tl, tx, al), (nw', sp', tl', tx', al') => [sq_bx (sq_inv (μ' (69, 0)) (μ' (76, 0)))]
  | _, _, _ => []))
def kq_m_swap : List mq_V → mq_R → mq_M → List mq_Cu := fun as ρ μ => match as, ρ with
  | [.inr (.inr (some (_, _))), .inl a, .inl b], (nw, sp, tl, tx, al) => []
  | _, _ => []
set_option maxHeartbeats 16000000 in
set_option maxRecDepth 100000 in
theorem vq_m_swap (lc : Launch) (h_m_isCoach : mq_Ct lc cq_m_isCoach) : mq_Ct lc cq_m_swap := by
  refine mq_method (lc := lc) (P := pq_m_swap) (cl := [cq_m_isCoach]) (T := ([(120, 11, 0), (61, 11, 26)], [], [], [(307, 0, 0)], [], [])) (fuel := 400) (cuts := kq_m_swap) (by decide) rfl ⟨rfl, rfl⟩ (List.forall_mem_cons.mpr ⟨h_m_isCoach, (fun _ h => absurd h List.not_mem_nil)⟩) ⟨(List.forall_mem_cons.mpr ⟨⟨_, rfl, by decide, kw_773⟩, (List.forall_mem_cons.mpr ⟨⟨_, rfl, by decide, kw_867⟩, (fun _ h => absurd h List.not_mem_nil)⟩)⟩), (fun _ h => absurd h List.not_mem_nil), (fun _ h => absurd h List.not_mem_nil), (List.forall_mem_cons.mpr ⟨mq_ml0 rfl mw0_m_isCoach kw_872, (fun _ h => absurd h List.not_mem_nil)⟩), (fun _ h => absurd h List.not_mem_nil), (fun _ h => absurd h List.not_mem_nil)⟩ (by decide +kernel) ⟨_, _, rfl⟩ ?_ ?_ ?_ ?_
  · intro as ρ μ h
    obtain ⟨nw, sp, tl, tx, al⟩ := ρ
    obtain ⟨as0, rfl, h0⟩ := mq_pZ_spec h
    clear h
    obtain ⟨a, as1, rfl, h1⟩ := mq_pI_spec h0
    clear h0
    obtain ⟨b, as2, rfl, h2⟩ := mq_pI_spec h1
    clear h1
    obtain ⟨rfl, hp⟩ := mq_p0_spec h2
    clear h2
    obtain ⟨hp0, hp1⟩ := hp
    rfl
  · intro as ρ μ h
    obtain ⟨nw, sp, tl, tx, al⟩ := ρ
    obtain ⟨as0, rfl, h0⟩ := mq_pZ_spec h
    clear h
    obtain ⟨a, as1, rfl, h1⟩ := mq_pI_spec h0
    clear h0
    obtain ⟨b, as2, rfl, h2⟩ := mq_pI_spec h1
    clear h1
    obtain ⟨rfl, hp⟩ := mq_p0_spec h2
    clear h2
    obtain ⟨hp0, hp1⟩ := hp
    intro hrg
    obtain ⟨⟨ha1a, ha1b⟩, ⟨ha2a, ha2b⟩, -⟩ := hrg
    intro hbk
    have e0 : mq_l0 ([.inr (.inr (some (60, 0))), .inl a, .inl b] : List mq_V) 4 = [some (.inr (.inr (some (60, 0)))), some (.inl a), some (.inl b), none] := rfl
    rw [e0]
    repeat' (first | refine And.intro ?_ ?_ | intro _)
    all_goals try simp only [Int.reduceToNat, Int.reduceAdd, mq_up_f, mq_up_s, mq_up_e, ne_eq, Nat.reduceEqDiff, not_false_eq_true, true_and, and_true, false_and, and_false, false_or, or_false, true_or, or_true, true_implies] at *
    all_goals first | omega | rfl | exact trivial | assumption | exact hp0 | exact sq_m (sq_inv_swap (x := a) (y := b) (sq_g hp0) (sq_has16 hbk) ⟨by omega, by omega⟩ ⟨by omega, by omega⟩ (by omega) (by omega) (by omega) (by omega) (fun z => by rw [mq_up_row, mq_up_row]; first | done | rfl))
  · intro as ρ μ h
    obtain ⟨nw, sp, tl, tx, al⟩ := ρ
    obtain ⟨as0, rfl, h0⟩ := mq_pZ_spec h
    clear h
    obtain ⟨a, as1, rfl, h1⟩ := mq_pI_spec h0
    clear h0
    obtain ⟨b, as2, rfl, h2⟩ := mq_pI_spec h1
    clear h1
    obtain ⟨rfl, hp⟩ := mq_p0_spec h2
    clear h2
    obtain ⟨hp0, hp1⟩ := hp
    exact fun _ h => absurd h List.not_mem_nil
  · intro as ρ μ h
    obtain ⟨nw, sp, tl, tx, al⟩ := ρ
    obtain ⟨as0, rfl, h0⟩ := mq_pZ_spec h
    clear h
    obtain ⟨a, as1, rfl, h1⟩ := mq_pI_spec h0
    clear h0
    obtain ⟨b, as2, rfl, h2⟩ := mq_pI_spec h1
    clear h1
    obtain ⟨rfl, hp⟩ := mq_p0_spec h2
    clear h2
    obtain ⟨hp0, hp1⟩ := hp
    intro hrg
    obtain ⟨⟨ha1a, ha1b⟩, ⟨ha2a, ha2b⟩, -⟩ := hrg
    exact fun _ h => absurd h List.not_mem_nil
def pq_m_post : List mq_E := [(0, false, .aload 0), (1, false, .iconst 0), (2, false, .multianewarray 11 0), (5, false, .aload 0), (6, false, .iload 1), (7, false, .invokestatic 0), (10, false, .ifCond .eq (Int.ofNat 21)), (13, false, .aload 0), (14, false, .iload 2), (15, false, .invokestatic 1), (18, false, .ifCond .ne (Int.ofNat 24)), (21, false, .iconst (-2)), (23, false, .ireturn), (24, false, .aload 0), (25, false, .invokeinterface 11 26), (28, false, .iconst 5), (29, false, .iload 1), (30, false, .imul), (31, false, .iconst 3), (32, false, .iadd), (33, false, .jsr 3), (34, false, .istore 3), (35, false, .aload 0), (36, false, .invokeinterface 11 26), (39, false, .iconst 5), (40, false, .iload 1), (41, false, .imul), (42, false, .iconst 3), (43, false, .iadd), (44, false, .iload 2), (45, false, .jsr_w 3), (46, false, .iload 3), (47, false, .ireturn)]
def cq_m_post : mq_C := ((yX11_post, cX11_post, 4, (some .int), { frames := 2, cells := 0, slots := 0, locals := 46 }), (3, 1, 0, 0), 75559016647418930266112, (fun as ρ μ => match ρ with
  | (nw, sp, tl, tx, al) => mq_pZ as 60 fun as => mq_pI as fun c as => mq_pI as fun y as => mq_p0 as (sq_bx (sq_inv (μ (69, 0)) (μ (76, 0))) ∧ True)),
  (fun as ρ μ r ρ' μ' => match as, ρ, ρ' with
  | [.inr (.inr (some (_, _))), .inl c, .inl y], (nw, sp, tl, tx, al), (nw', sp', tl', tx', al') => [sq_bx (sq_inv (μ' (69, 0)) (μ' (76, 0)))]
  | _, _, _ => []))
def kq_m_post : List mq_V → mq_R → mq_M → List mq_Cu := fun as ρ μ => match as, ρ with
  | [.inr (.inr (some (_, _))), .inl c, .inl y], (nw, sp, tl, tx, al) => []
  | _, _ => []
set_option maxHeartbeats 16000000 in
set_option maxRecDepth 100000 in
theorem vq_m_post (lc : Launch) (h_m_isCoach : mq_Ct lc cq_m_isCoach) (h_m_isYard : mq_Ct lc cq_m_isYard) : mq_Ct lc cq_m_post := by
  refine mq_method (lc := lc) (P := pq_m_post) (cl := [cq_m_isCoach, cq_m_isYard]) (T := ([(120, 11, 0), (61, 11, 26)], [], [], [(307, 0, 0), (293, 1, 0)], [], [])) (fuel := 400) (cuts := kq_m_post) (by decide) rfl ⟨rfl, rfl⟩ (List.forall_mem_cons.mpr ⟨h_m_isCoach, (List.forall_mem_cons.mpr ⟨h_m_isYard, (fun _ h => absurd h List.not_mem_nil)⟩)⟩) ⟨(List.forall_mem_cons.mpr ⟨⟨_, rfl, by decide, kw_773⟩, (List.forall_mem_cons.mpr ⟨⟨_, rfl, by decide, kw_867⟩, (fun _ h => absurd h List.not_mem_nil)⟩)⟩), (fun _ h => absurd h List.not_mem_nil), (fun _ h => absurd h List.not_mem_nil), (List.forall_mem_cons.mpr ⟨mq_ml0 rfl mw0_m_isCoach kw_872, (List.forall_mem_cons.mpr ⟨mq_ml0 rfl mw0_m_isYard kw_854, (fun _ h => absurd h List.not_mem_nil)⟩)⟩), (fun _ h => absurd h List.not_mem_nil), (fun _ h => absurd h List.not_mem_nil)⟩ (by decide +kernel) ⟨_, _, rfl⟩ ?_ ?_ ?_ ?_
  · intro as ρ μ h
    obtain ⟨nw, sp, tl, tx, al⟩ := ρ
    obtain ⟨as0, rfl, h0⟩ := mq_pZ_spec h
    clear h
    obtain ⟨c, as1, rfl, h1⟩ := mq_pI_spec h0
    clear h0
    obtain ⟨y, as2, rfl, h2⟩ := mq_pI_spec h1
    clear h1
    obtain ⟨rfl, hp⟩ := mq_p0_spec h2
    clear h2
    obtain ⟨hp0, hp1⟩ := hp
    rfl
  · intro as ρ μ h
    obtain ⟨nw, sp, tl, tx, al⟩ := ρ
    obtain ⟨as0, rfl, h0⟩ := mq_pZ_spec h
    clear h
    obtain ⟨c, as1, rfl, h1⟩ := mq_pI_spec h0
    clear h0
    obtain ⟨y, as2, rfl, h2⟩ := mq_pI_spec h1
    clear h1
    obtain ⟨rfl, hp⟩ := mq_p0_spec h2
    clear h2
    obtain ⟨hp0, hp1⟩ := hp
    intro hrg
    obtain ⟨⟨ha1a, ha1b⟩, ⟨ha2a, ha2b⟩, -⟩ := hrg
    intro hbk
    have e0 : mq_l0 ([.inr (.inr (some (60, 0))), .inl c, .inl y] : List mq_V) 4 = [some (.inr (.inr (some (60, 0)))), some (.inl c), some (.inl y), none] := rfl
    rw [e0]
    repeat' (first | refine And.intro ?_ ?_ | intro _)
    all_goals try simp only [Int.reduceToNat, Int.reduceAdd, mq_up_f, mq_up_s, mq_up_e, ne_eq, Nat.reduceEqDiff, not_false_eq_true, true_and, and_true, false_and, and_false, false_or, or_false, true_or, or_true, true_implies] at *
    all_goals first | omega | rfl | exact trivial | assumption | exact hp0 | exact sq_m (sq_inv_col3 (sq_g hp0) (sq_has16 hbk) (fun z hz => by rw [mq_up_row, if_neg (by omega)]; first | done | rfl))
  · intro as ρ μ h
    obtain ⟨nw, sp, tl, tx, al⟩ := ρ
    obtain ⟨as0, rfl, h0⟩ := mq_pZ_spec h
    clear h
    obtain ⟨c, as1, rfl, h1⟩ := mq_pI_spec h0
    clear h0
    obtain ⟨y, as2, rfl, h2⟩ := mq_pI_spec h1
    clear h1
    obtain ⟨rfl, hp⟩ := mq_p0_spec h2
    clear h2
    obtain ⟨hp0, hp1⟩ := hp
    exact fun _ h => absurd h List.not_mem_nil
  · intro as ρ μ h
    obtain ⟨nw, sp, tl, tx, al⟩ := ρ
    obtain ⟨as0, rfl, h0⟩ := mq_pZ_spec h
    clear h
    obtain ⟨c, as1, rfl, h1⟩ := mq_pI_spec h0
    clear h0
    obtain ⟨y, as2, rfl, h2⟩ := mq_pI_spec h1
    clear h1
    obtain ⟨rfl, hp⟩ := mq_p0_spec h2
    clear h2
    obtain ⟨hp0, hp1⟩ := hp
    intro hrg
    obtain ⟨⟨ha1a, ha1b⟩, ⟨ha2a, ha2b⟩, -⟩ := hrg
    exact fun _ h => absurd h List.not_mem_nil
