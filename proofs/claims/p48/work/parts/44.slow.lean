def pq_m_lesser : List mq_E := [(0, false, .iload 0), (1, false, .iload 1), (2, false, .if_icmp .ge (Int.ofNat 9)), (5, false, .iload 0), (6, false, .goto (Int.ofNat 10)), (9, false, .iload 1), (10, false, .ireturn)]
def cq_m_lesser : mq_C := ((yX11_lesser, cX11_lesser, 2, (some .int), { frames := 0, cells := 0, slots := 0, locals := 0 }), (2, 1, 0, 0), 0, (fun as ρ μ => match ρ with
  | (nw, sp, tl, tx, al) => mq_pI as fun a as => mq_pI as fun b as => mq_p0 as (True)),
  (fun as ρ μ r ρ' μ' => match as, ρ, ρ' with
  | [.inl a, .inl b], (nw, sp, tl, tx, al), (nw', sp', tl', tx', al') => [(r = a ∧ a < b) ∨ (r = b ∧ b ≤ a)]
  | _, _, _ => []))
def kq_m_lesser : List mq_V → mq_R → mq_M → List mq_Cu := fun as ρ μ => match as, ρ with
  | [.inl a, .inl b], (nw, sp, tl, tx, al) => []
  | _, _ => []
set_option maxHeartbeats 16000000 in
set_option maxRecDepth 100000 in
theorem vq_m_lesser (lc : Launch)  : mq_Ct lc cq_m_lesser := by
  refine mq_method (lc := lc) (P := pq_m_lesser) (cl := []) (T := ([], [], [], [], [], [])) (fuel := 400) (cuts := kq_m_lesser) (by decide) rfl ⟨rfl, rfl⟩ (fun _ h => absurd h List.not_mem_nil) ⟨(fun _ h => absurd h List.not_mem_nil), (fun _ h => absurd h List.not_mem_nil), (fun _ h => absurd h List.not_mem_nil), (fun _ h => absurd h List.not_mem_nil), (fun _ h => absurd h List.not_mem_nil), (fun _ h => absurd h List.not_mem_nil)⟩ (by decide +kernel) ⟨_, _, rfl⟩ ?_ ?_ ?_ ?_
  · intro as ρ μ h
    obtain ⟨nw, sp, tl, tx, al⟩ := ρ
    obtain ⟨a, as0, rfl, h0⟩ := mq_pI_spec h
    clear h
    obtain ⟨b, as1, rfl, h1⟩ := mq_pI_spec h0
    clear h0
    obtain ⟨rfl, hp⟩ := mq_p0_spec h1
    clear h1
    rfl
  · intro as ρ μ h
    obtain ⟨nw, sp, tl, tx, al⟩ := ρ
    obtain ⟨a, as0, rfl, h0⟩ := mq_pI_spec h
    clear h
    obtain ⟨b, as1, rfl, h1⟩ := mq_pI_spec h0
    clear h0
    obtain ⟨rfl, hp⟩ := mq_p0_spec h1
    clear h1
    intro hrg
    obtain ⟨⟨ha0a, ha0b⟩, ⟨ha1a, ha1b⟩, -⟩ := hrg
    intro hbk
    have e0 : mq_l0 ([.inl a, .inl b] : List mq_V) 2 = [some (.inl a), some (.inl b)] := rfl
    rw [e0]
    repeat' (first | refine And.intro ?_ ?_ | intro _)
    all_goals first | omega | rfl | exact trivial | (simp [mq_up] at * <;> omega)
  · intro as ρ μ h
    obtain ⟨nw, sp, tl, tx, al⟩ := ρ
    obtain ⟨a, as0, rfl, h0⟩ := mq_pI_spec h
    clear h
    obtain ⟨b, as1, rfl, h1⟩ := mq_pI_spec h0
    clear h0
    obtain ⟨rfl, hp⟩ := mq_p0_spec h1
    clear h1
    exact fun _ h => absurd h List.not_mem_nil
  · intro as ρ μ h
    obtain ⟨nw, sp, tl, tx, al⟩ := ρ
    obtain ⟨a, as0, rfl, h0⟩ := mq_pI_spec h
    clear h
    obtain ⟨b, as1, rfl, h1⟩ := mq_pI_spec h0
    clear h0
    obtain ⟨rfl, hp⟩ := mq_p0_spec h1
    clear h1
    intro hrg
    obtain ⟨⟨ha0a, ha0b⟩, ⟨ha1a, ha1b⟩, -⟩ := hrg
    exact fun _ h => absurd h List.not_mem_nil
theorem mw1_m_lesser : mq_mlA cq_m_lesser 1 := ⟨kw_911, ⟨by decide +kernel, by decide +kernel⟩, by decide +kernel, kw_912, kw_771⟩
def pq_m_lengthOf : List mq_E := [(0, false, .aload 0), (1, false, .invokeinterface 11 24), (4, false, .iconst 5), (5, false, .iload 1), (6, false, .imul), (7, false, .iaload), (8, false, .ireturn)]
def cq_m_lengthOf : mq_C := ((yX11_lengthOf, cX11_lengthOf, 2, (some .int), { frames := 0, cells := 0, slots := 0, locals := 0 }), (2, 1, 0, 0), 0, (fun as ρ μ => match ρ with
  | (nw, sp, tl, tx, al) => mq_pZ as 60 fun as => mq_pI as fun k as => mq_p0 as (0 ≤ k ∧ k ≤ 3)),
  (fun as ρ μ r ρ' μ' => match as, ρ, ρ' with
  | [.inr (.inr (some (_, _))), .inl k], (nw, sp, tl, tx, al), (nw', sp', tl', tx', al') => [r = μ (74, 0) (5 * k).toNat, 0 ≤ r, r ≤ 30]
  | _, _, _ => []))
def kq_m_lengthOf : List mq_V → mq_R → mq_M → List mq_Cu := fun as ρ μ => match as, ρ with
  | [.inr (.inr (some (_, _))), .inl k], (nw, sp, tl, tx, al) => []
  | _, _ => []
set_option maxHeartbeats 16000000 in
set_option maxRecDepth 100000 in
theorem vq_m_lengthOf (lc : Launch)  : mq_Ct lc cq_m_lengthOf := by
  refine mq_method (lc := lc) (P := pq_m_lengthOf) (cl := []) (T := ([(55, 11, 24)], [], [], [], [], [])) (fuel := 400) (cuts := kq_m_lengthOf) (by decide) rfl ⟨rfl, rfl⟩ (fun _ h => absurd h List.not_mem_nil) ⟨(List.forall_mem_cons.mpr ⟨⟨_, rfl, by decide, kw_874⟩, (fun _ h => absurd h List.not_mem_nil)⟩), (fun _ h => absurd h List.not_mem_nil), (fun _ h => absurd h List.not_mem_nil), (fun _ h => absurd h List.not_mem_nil), (fun _ h => absurd h List.not_mem_nil), (fun _ h => absurd h List.not_mem_nil)⟩ (by decide +kernel) ⟨_, _, rfl⟩ ?_ ?_ ?_ ?_
  · intro as ρ μ h
    obtain ⟨nw, sp, tl, tx, al⟩ := ρ
    obtain ⟨as0, rfl, h0⟩ := mq_pZ_spec h
    clear h
    obtain ⟨k, as1, rfl, h1⟩ := mq_pI_spec h0
    clear h0
    obtain ⟨rfl, hp⟩ := mq_p0_spec h1
    clear h1
    obtain ⟨hp0, hp1⟩ := hp
    rfl
  · intro as ρ μ h
    obtain ⟨nw, sp, tl, tx, al⟩ := ρ
    obtain ⟨as0, rfl, h0⟩ := mq_pZ_spec h
    clear h
    obtain ⟨k, as1, rfl, h1⟩ := mq_pI_spec h0
    clear h0
    obtain ⟨rfl, hp⟩ := mq_p0_spec h1
    clear h1
    obtain ⟨hp0, hp1⟩ := hp
    intro hrg
    obtain ⟨⟨ha1a, ha1b⟩, -⟩ := hrg
    intro hbk
    have e0 : mq_l0 ([.inr (.inr (some (60, 0))), .inl k] : List mq_V) 2 = [some (.inr (.inr (some (60, 0)))), some (.inl k)] := rfl
    rw [e0]
    repeat' (first | refine And.intro ?_ ?_ | intro _)
    all_goals first | omega | rfl | exact trivial | (simp [mq_up] at * <;> omega)
  · intro as ρ μ h
    obtain ⟨nw, sp, tl, tx, al⟩ := ρ
    obtain ⟨as0, rfl, h0⟩ := mq_pZ_spec h
    clear h
    obtain ⟨k, as1, rfl, h1⟩ := mq_pI_spec h0
    clear h0
    obtain ⟨rfl, hp⟩ := mq_p0_spec h1
    clear h1
    obtain ⟨hp0, hp1⟩ := hp
    exact fun _ h => absurd h List.not_mem_nil
  · intro as ρ μ h
    obtain ⟨nw, sp, tl, tx, al⟩ := ρ
    obtain ⟨as0, rfl, h0⟩ := mq_pZ_spec h
    clear h
    obtain ⟨k, as1, rfl, h1⟩ := mq_pI_spec h0
    clear h0
    obtain ⟨rfl, hp⟩ := mq_p0_spec h1
    clear h1
    obtain ⟨hp0, hp1⟩ := hp
    intro hrg
    obtain ⟨⟨ha1a, ha1b⟩, -⟩ := hrg
    exact fun _ h => absurd h List.not_mem_nil
theorem mw0_m_lengthOf : mq_mlA cq_m_lengthOf 0 := ⟨kw_896, ⟨by decide +kernel, by decide +kernel⟩, by decide +kernel, kw_897, kw_898, kw_771, 60, by decide +kernel, fun as ρ μ h => by obtain ⟨nw, sp, tl, tx, al⟩ := ρ; obtain ⟨t, e, _⟩ := mq_pZ_spec h; exact ⟨0, t, e⟩⟩
def pq_m_slowed : List mq_E := [(0, false, .iload 4), (2, false, .iconst 1), (3, false, .if_icmp .ge (Int.ofNat 10)), (6, false, .iconst 0), (7, false, .goto (Int.ofNat 35)), (10, false, .aload 0), (11, false, .invokeinterface 11 24), (14, false, .iconst 5), (15, false, .iload 1), (16, false, .imul), (17, false, .iconst 1), (18, false, .iadd), (19, false, .iload 4), (21, false, .iadd), (22, false, .iaload), (23, false, .iconst 100), (25, false, .aload 0), (26, false, .iload 2), (27, false, .invokestatic 0), (30, false, .isub), (31, false, .imul), (32, false, .iconst 100), (34, false, .idiv), (35, false, .istore 5), (37, false, .iload 3), (38, false, .aload 0), (39, false, .invokeinterface 11 24), (42, false, .iconst 5), (43, false, .iload 1), (44, false, .imul), (45, false, .iconst 1), (46, false, .iadd), (47, false, .iaload), (48, false, .isub), (49, false, .iload 5), (51, false, .isub), (52, false, .aload 0), (53, false, .iload 2), (54, false, .invokestatic 1), (57, false, .isub), (58, false, .istore 6), (60, false, .iload 6), (62, false, .ifCond .ge (Int.ofNat 69)), (65, false, .iconst 0), (66, false, .goto (Int.ofNat 83)), (69, false, .iload 6), (71, false, .iconst 15), (73, false, .if_icmp .le (Int.ofNat 81)), (76, false, .iconst 15), (78, false, .goto (Int.ofNat 83)), (81, false, .iload 6), (83, false, .ireturn)]
def cq_m_slowed : mq_C := ((yX11_slowed, cX11_slowed, 7, (some .int), { frames := 2, cells := 0, slots := 0, locals := 48 }), (5, 1, 0, 0), 0, (fun as ρ μ => match ρ with
  | (nw, sp, tl, tx, al) => mq_pZ as 60 fun as => mq_pI as fun k as => mq_pI as fun y as => mq_pI as fun v as => mq_pI as fun s as => mq_p0 as (0 ≤ k ∧ k ≤ 3 ∧ s ≤ 3 ∧ 0 ≤ v ∧ v ≤ 15)),
  (fun as ρ μ r ρ' μ' => match as, ρ, ρ' with
  | [.inr (.inr (some (_, _))), .inl k, .inl y, .inl v, .inl s], (nw, sp, tl, tx, al), (nw', sp', tl', tx', al') => [0 ≤ r, r ≤ 15, r = sq_slow (sq_li μ) k y v s]
  | _, _, _ => []))
def kq_m_slowed : List mq_V → mq_R → mq_M → List mq_Cu := fun as ρ μ => match as, ρ with
  | [.inr (.inr (some (_, _))), .inl k, .inl y, .inl v, .inl s], (nw, sp, tl, tx, al) => []
  | _, _ => []
set_option maxHeartbeats 16000000 in
set_option maxRecDepth 100000 in
theorem vq_m_slowed (lc : Launch) (h_m_wetAt : mq_Ct lc cq_m_wetAt) (h_m_slopeAt : mq_Ct lc cq_m_slopeAt) : mq_Ct lc cq_m_slowed := by
  refine mq_method (lc := lc) (P := pq_m_slowed) (cl := [cq_m_wetAt, cq_m_slopeAt]) (T := ([(55, 11, 24)], [], [], [(301, 0, 0), (298, 1, 0)], [], [])) (fuel := 400) (cuts := kq_m_slowed) (by decide) rfl ⟨rfl, rfl⟩ (List.forall_mem_cons.mpr ⟨h_m_wetAt, (List.forall_mem_cons.mpr ⟨h_m_slopeAt, (fun _ h => absurd h List.not_mem_nil)⟩)⟩) ⟨(List.forall_mem_cons.mpr ⟨⟨_, rfl, by decide, kw_874⟩, (fun _ h => absurd h List.not_mem_nil)⟩), (fun _ h => absurd h List.not_mem_nil), (fun _ h => absurd h List.not_mem_nil), (List.forall_mem_cons.mpr ⟨mq_ml0 rfl mw0_m_wetAt kw_862, (List.forall_mem_cons.mpr ⟨mq_ml0 rfl mw0_m_slopeAt kw_858, (fun _ h => absurd h List.not_mem_nil)⟩)⟩), (fun _ h => absurd h List.not_mem_nil), (fun _ h => absurd h List.not_mem_nil)⟩ (by decide +kernel) ⟨_, _, rfl⟩ ?_ ?_ ?_ ?_
  · intro as ρ μ h
    obtain ⟨nw, sp, tl, tx, al⟩ := ρ
    obtain ⟨as0, rfl, h0⟩ := mq_pZ_spec h
    clear h
    obtain ⟨k, as1, rfl, h1⟩ := mq_pI_spec h0
    clear h0
    obtain ⟨y, as2, rfl, h2⟩ := mq_pI_spec h1
    clear h1
    obtain ⟨v, as3, rfl, h3⟩ := mq_pI_spec h2
    clear h2
    obtain ⟨s, as4, rfl, h4⟩ := mq_pI_spec h3
    clear h3
    obtain ⟨rfl, hp⟩ := mq_p0_spec h4
    clear h4
    obtain ⟨hp0, hp1, hp2, hp3, hp4⟩ := hp
    rfl
  · intro as ρ μ h
    obtain ⟨nw, sp, tl, tx, al⟩ := ρ
    obtain ⟨as0, rfl, h0⟩ := mq_pZ_spec h
    clear h
    obtain ⟨k, as1, rfl, h1⟩ := mq_pI_spec h0
    clear h0
    obtain ⟨y, as2, rfl, h2⟩ := mq_pI_spec h1
    clear h1
    obtain ⟨v, as3, rfl, h3⟩ := mq_pI_spec h2
    clear h2
    obtain ⟨s, as4, rfl, h4⟩ := mq_pI_spec h3
    clear h3
    obtain ⟨rfl, hp⟩ := mq_p0_spec h4
    clear h4
    obtain ⟨hp0, hp1, hp2, hp3, hp4⟩ := hp
    intro hrg
    obtain ⟨⟨ha1a, ha1b⟩, ⟨ha2a, ha2b⟩, ⟨ha3a, ha3b⟩, ⟨ha4a, ha4b⟩, -⟩ := hrg
    intro hbk
    have e0 : mq_l0 ([.inr (.inr (some (60, 0))), .inl k, .inl y, .inl v, .inl s] : List mq_V) 7 = [some (.inr (.inr (some (60, 0)))), some (.inl k), some (.inl y), some (.inl v), some (.inl s), none, none] := rfl
    rw [e0]
    refine ⟨fun hs => ?_, fun hs => ?_⟩
    · refine ⟨by omega, by omega, by omega, ⟨by omega, by omega⟩, ?_⟩
      intro kb ekb kb0 kb1
      refine ⟨trivial, ?_⟩
      intro w hw w0 w1 ew
      refine ⟨by omega, ?_⟩
      have h9 := sq_mul (a := kb) (b := 100 - w) kb0 kb1 (by omega) (by omega)
      refine ⟨by omega, ?_⟩
      refine ⟨by decide, ?_⟩
      intro b hb eb bb
      have h8 := bb h9.1 (by decide)
      repeat' (first | refine And.intro ?_ ?_ | intro _)
      all_goals first | omega | rfl | exact trivial | assumption | exact sq_slow_eq (l := sq_li μ) (b := b) ‹_› (fun h => by omega) (fun _ => by rw [eb, ekb, ew]; rfl) ‹_› rfl (by omega)
    · repeat' (first | refine And.intro ?_ ?_ | intro _)
      all_goals first | omega | rfl | exact trivial | assumption | exact sq_slow_eq (l := sq_li μ) (b := 0) ‹_› (fun _ => rfl) (fun h => by omega) ‹_› rfl (by omega)
  · intro as ρ μ h
    obtain ⟨nw, sp, tl, tx, al⟩ := ρ
    obtain ⟨as0, rfl, h0⟩ := mq_pZ_spec h
    clear h
    obtain ⟨k, as1, rfl, h1⟩ := mq_pI_spec h0
    clear h0
    obtain ⟨y, as2, rfl, h2⟩ := mq_pI_spec h1
    clear h1
    obtain ⟨v, as3, rfl, h3⟩ := mq_pI_spec h2
    clear h2
    obtain ⟨s, as4, rfl, h4⟩ := mq_pI_spec h3
    clear h3
    obtain ⟨rfl, hp⟩ := mq_p0_spec h4
    clear h4
    obtain ⟨hp0, hp1, hp2, hp3, hp4⟩ := hp
    exact fun _ h => absurd h List.not_mem_nil
  · intro as ρ μ h
    obtain ⟨nw, sp, tl, tx, al⟩ := ρ
    obtain ⟨as0, rfl, h0⟩ := mq_pZ_spec h
    clear h
    obtain ⟨k, as1, rfl, h1⟩ := mq_pI_spec h0
    clear h0
    obtain ⟨y, as2, rfl, h2⟩ := mq_pI_spec h1
    clear h1
    obtain ⟨v, as3, rfl, h3⟩ := mq_pI_spec h2
    clear h2
    obtain ⟨s, as4, rfl, h4⟩ := mq_pI_spec h3
    clear h3
    obtain ⟨rfl, hp⟩ := mq_p0_spec h4
    clear h4
    obtain ⟨hp0, hp1, hp2, hp3, hp4⟩ := hp
    intro hrg
    obtain ⟨⟨ha1a, ha1b⟩, ⟨ha2a, ha2b⟩, ⟨ha3a, ha3b⟩, ⟨ha4a, ha4b⟩, -⟩ := hrg
    exact fun _ h => absurd h List.not_mem_nil
theorem mw0_m_slowed : mq_mlA cq_m_slowed 0 := ⟨kw_892, ⟨by decide +kernel, by decide +kernel⟩, by decide +kernel, kw_893, kw_894, kw_771, 60, by decide +kernel, fun as ρ μ h => by obtain ⟨nw, sp, tl, tx, al⟩ := ρ; obtain ⟨t, e, _⟩ := mq_pZ_spec h; exact ⟨0, t, e⟩⟩
def pq_m_isMoving : List mq_E := [(0, false, .aload 0), (1, false, .iload 1), (2, false, .invokestatic 0), (5, false, .ifCond .eq (Int.ofNat 32)), (8, false, .aload 0), (9, false, .iload 2), (10, false, .invokestatic 1), (13, false, .ifCond .eq (Int.ofNat 32)), (16, false, .iload 3), (17, false, .i2l), (18, false, .goto_w 1), (19, false, .goto_w 15), (22, false, .invokestatic 2), (25, false, .ifCond .eq (Int.ofNat 32)), (28, false, .iconst 1), (29, false, .goto (Int.ofNat 33)), (32, false, .iconst 0), (33, false, .ireturn)]
def cq_m_isMoving : mq_C := ((yX11_isMoving, cX11_isMoving, 4, (some .boolean), { frames := 2, cells := 0, slots := 0, locals := 46 }), (4, 1, 0, 0), 0, (fun as ρ μ => match ρ with
  | (nw, sp, tl, tx, al) => mq_pZ as 60 fun as => mq_pI as fun k as => mq_pI as fun y as => mq_pI as fun v as => mq_p0 as (True)),
  (fun as ρ μ r ρ' μ' => match as, ρ, ρ' with
  | [.inr (.inr (some (_, _))), .inl k, .inl y, .inl v], (nw, sp, tl, tx, al), (nw', sp', tl', tx', al') => [(r = 1 ∧ 0 ≤ k ∧ k ≤ 3 ∧ 0 ≤ y ∧ y ≤ 400 ∧ y ≤ μ (67, 0) 0 ∧ 1 ≤ v ∧ v ≤ 15) ∨ r = 0]
  | _, _, _ => []))
def kq_m_isMoving : List mq_V → mq_R → mq_M → List mq_Cu := fun as ρ μ => match as, ρ with
  | [.inr (.inr (some (_, _))), .inl k, .inl y, .inl v], (nw, sp, tl, tx, al) => []
  | _, _ => []
set_option maxHeartbeats 16000000 in
set_option maxRecDepth 100000 in
theorem vq_m_isMoving (lc : Launch) (h_m_isKind : mq_Ct lc cq_m_isKind) (h_m_isYard : mq_Ct lc cq_m_isYard) (h_m_in : mq_Ct lc cq_m_in) : mq_Ct lc cq_m_isMoving := by
  refine mq_method (lc := lc) (P := pq_m_isMoving) (cl := [cq_m_isKind, cq_m_isYard, cq_m_in]) (T := ([], [], [(322, 15)], [(319, 0, 0), (293, 1, 0), (125, 2, 1)], [], [])) (fuel := 400) (cuts := kq_m_isMoving) (by decide) rfl ⟨rfl, rfl⟩ (List.forall_mem_cons.mpr ⟨h_m_isKind, (List.forall_mem_cons.mpr ⟨h_m_isYard, (List.forall_mem_cons.mpr ⟨h_m_in, (fun _ h => absurd h List.not_mem_nil)⟩)⟩)⟩) ⟨(fun _ h => absurd h List.not_mem_nil), (fun _ h => absurd h List.not_mem_nil), (List.forall_mem_cons.mpr ⟨kw_883, (fun _ h => absurd h List.not_mem_nil)⟩), (List.forall_mem_cons.mpr ⟨mq_ml0 rfl mw0_m_isKind kw_887, (List.forall_mem_cons.mpr ⟨mq_ml0 rfl mw0_m_isYard kw_854, (List.forall_mem_cons.mpr ⟨mq_ml1 rfl mw1_m_in kw_772, (fun _ h => absurd h List.not_mem_nil)⟩)⟩)⟩), (fun _ h => absurd h List.not_mem_nil), (fun _ h => absurd h List.not_mem_nil)⟩ (by decide +kernel) ⟨_, _, rfl⟩ ?_ ?_ ?_ ?_
  · intro as ρ μ h
    obtain ⟨nw, sp, tl, tx, al⟩ := ρ
    obtain ⟨as0, rfl, h0⟩ := mq_pZ_spec h
    clear h
    obtain ⟨k, as1, rfl, h1⟩ := mq_pI_spec h0
    clear h0
    obtain ⟨y, as2, rfl, h2⟩ := mq_pI_spec h1
    clear h1
    obtain ⟨v, as3, rfl, h3⟩ := mq_pI_spec h2
    clear h2
    obtain ⟨rfl, hp⟩ := mq_p0_spec h3
    clear h3
    rfl
  · intro as ρ μ h
    obtain ⟨nw, sp, tl, tx, al⟩ := ρ
    obtain ⟨as0, rfl, h0⟩ := mq_pZ_spec h
    clear h
    obtain ⟨k, as1, rfl, h1⟩ := mq_pI_spec h0
    clear h0
    obtain ⟨y, as2, rfl, h2⟩ := mq_pI_spec h1
    clear h1
    obtain ⟨v, as3, rfl, h3⟩ := mq_pI_spec h2
    clear h2
    obtain ⟨rfl, hp⟩ := mq_p0_spec h3
    clear h3
    intro hrg
    obtain ⟨⟨ha1a, ha1b⟩, ⟨ha2a, ha2b⟩, ⟨ha3a, ha3b⟩, -⟩ := hrg
    intro hbk
    have e0 : mq_l0 ([.inr (.inr (some (60, 0))), .inl k, .inl y, .inl v] : List mq_V) 4 = [some (.inr (.inr (some (60, 0)))), some (.inl k), some (.inl y), some (.inl v)] := rfl
    rw [e0]
    repeat' (first | refine And.intro ?_ ?_ | intro _)
    all_goals first | omega | rfl | exact trivial | (simp [mq_up] at * <;> omega)
  · intro as ρ μ h
    obtain ⟨nw, sp, tl, tx, al⟩ := ρ
    obtain ⟨as0, rfl, h0⟩ := mq_pZ_spec h
    clear h
    obtain ⟨k, as1, rfl, h1⟩ := mq_pI_spec h0
    clear h0
    obtain ⟨y, as2, rfl, h2⟩ := mq_pI_spec h1
    clear h1
    obtain ⟨v, as3, rfl, h3⟩ := mq_pI_spec h2
    clear h2
    obtain ⟨rfl, hp⟩ := mq_p0_spec h3
    clear h3
    exact fun _ h => absurd h List.not_mem_nil
  · intro as ρ μ h
    obtain ⟨nw, sp, tl, tx, al⟩ := ρ
    obtain ⟨as0, rfl, h0⟩ := mq_pZ_spec h
    clear h
    obtain ⟨k, as1, rfl, h1⟩ := mq_pI_spec h0
    clear h0
    obtain ⟨y, as2, rfl, h2⟩ := mq_pI_spec h1
    clear h1
    obtain ⟨v, as3, rfl, h3⟩ := mq_pI_spec h2
    clear h2
    obtain ⟨rfl, hp⟩ := mq_p0_spec h3
    clear h3
    intro hrg
    obtain ⟨⟨ha1a, ha1b⟩, ⟨ha2a, ha2b⟩, ⟨ha3a, ha3b⟩, -⟩ := hrg
    exact fun _ h => absurd h List.not_mem_nil
theorem mw0_m_isMoving : mq_mlA cq_m_isMoving 0 := ⟨kw_888, ⟨by decide +kernel, by decide +kernel⟩, by decide +kernel, kw_889, kw_890, kw_771, 60, by decide +kernel, fun as ρ μ h => by obtain ⟨nw, sp, tl, tx, al⟩ := ρ; obtain ⟨t, e, _⟩ := mq_pZ_spec h; exact ⟨0, t, e⟩⟩
def pq_m_tick : List mq_E := [(0, false, .aload 0), (1, false, .iconst 0), (2, false, .multianewarray 11 0), (5, false, .aload 0), (6, false, .iload 1), (7, false, .iload 2), (8, false, .iload 3), (9, false, .invokestatic 0), (12, false, .ifCond .eq (Int.ofNat 39)), (15, false, .iload 4), (17, false, .i2l), (18, false, .goto_w 0), (19, false, .goto_w 3), (22, false, .invokestatic 1), (25, false, .ifCond .eq (Int.ofNat 39)), (28, false, .iload 5), (30, false, .i2l), (31, false, .goto_w 0), (32, false, .goto_w 1), (33, false, .invokestatic 1), (36, false, .ifCond .ne (Int.ofNat 42)), (39, false, .iconst (-2)), (41, false, .ireturn), (42, false, .aload 0), (43, false, .iload 1), (44, false, .iload 2), (45, false, .iload 3), (46, false, .iload 4), (48, false, .invokestatic 2), (51, false, .istore 6), (53, false, .iload 5), (55, false, .iconst 1), (56, false, .if_icmp .ne (Int.ofNat 64)), (59, false, .iload 6), (61, false, .goto (Int.ofNat 68)), (64, false, .iload 2), (65, false, .iload 6), (67, false, .iadd), (68, false, .ireturn)]
def cq_m_tick : mq_C := ((yX11_tick, cX11_tick, 7, (some .int), { frames := 3, cells := 0, slots := 0, locals := 74 }), (6, 1, 0, 0), 1152921504606846976, (fun as ρ μ => match ρ with
  | (nw, sp, tl, tx, al) => mq_pZ as 60 fun as => mq_pI as fun k as => mq_pI as fun y as => mq_pI as fun v as => mq_pI as fun s as => mq_pI as fun w as => mq_p0 as (True)),
  (fun as ρ μ r ρ' μ' => match as, ρ, ρ' with
  | [.inr (.inr (some (_, _))), .inl k, .inl y, .inl v, .inl s, .inl w], (nw, sp, tl, tx, al), (nw', sp', tl', tx', al') => []
  | _, _, _ => []))
def kq_m_tick : List mq_V → mq_R → mq_M → List mq_Cu := fun as ρ μ => match as, ρ with
  | [.inr (.inr (some (_, _))), .inl k, .inl y, .inl v, .inl s, .inl w], (nw, sp, tl, tx, al) => []
  | _, _ => []
set_option maxHeartbeats 16000000 in
set_option maxRecDepth 100000 in
theorem vq_m_tick (lc : Launch) (h_m_isMoving : mq_Ct lc cq_m_isMoving) (h_m_in : mq_Ct lc cq_m_in) (h_m_slowed : mq_Ct lc cq_m_slowed) : mq_Ct lc cq_m_tick := by
  refine mq_method (lc := lc) (P := pq_m_tick) (cl := [cq_m_isMoving, cq_m_in, cq_m_slowed]) (T := ([(120, 11, 0)], [], [(123, 3)], [(324, 0, 0), (125, 1, 1), (327, 2, 0)], [], [])) (fuel := 400) (cuts := kq_m_tick) (by decide) rfl ⟨rfl, rfl⟩ (List.forall_mem_cons.mpr ⟨h_m_isMoving, (List.forall_mem_cons.mpr ⟨h_m_in, (List.forall_mem_cons.mpr ⟨h_m_slowed, (fun _ h => absurd h List.not_mem_nil)⟩)⟩)⟩) ⟨(List.forall_mem_cons.mpr ⟨⟨_, rfl, by decide, kw_773⟩, (fun _ h => absurd h List.not_mem_nil)⟩), (fun _ h => absurd h List.not_mem_nil), (List.forall_mem_cons.mpr ⟨kw_768, (fun _ h => absurd h List.not_mem_nil)⟩), (List.forall_mem_cons.mpr ⟨mq_ml0 rfl mw0_m_isMoving kw_891, (List.forall_mem_cons.mpr ⟨mq_ml1 rfl mw1_m_in kw_772, (List.forall_mem_cons.mpr ⟨mq_ml0 rfl mw0_m_slowed kw_895, (fun _ h => absurd h List.not_mem_nil)⟩)⟩)⟩), (fun _ h => absurd h List.not_mem_nil), (fun _ h => absurd h List.not_mem_nil)⟩ (by decide +kernel) ⟨_, _, rfl⟩ ?_ ?_ ?_ ?_
  · intro as ρ μ h
    obtain ⟨nw, sp, tl, tx, al⟩ := ρ
    obtain ⟨as0, rfl, h0⟩ := mq_pZ_spec h
    clear h
    obtain ⟨k, as1, rfl, h1⟩ := mq_pI_spec h0
    clear h0
    obtain ⟨y, as2, rfl, h2⟩ := mq_pI_spec h1
    clear h1
    obtain ⟨v, as3, rfl, h3⟩ := mq_pI_spec h2
    clear h2
    obtain ⟨s, as4, rfl, h4⟩ := mq_pI_spec h3
    clear h3
    obtain ⟨w, as5, rfl, h5⟩ := mq_pI_spec h4
    clear h4
    obtain ⟨rfl, hp⟩ := mq_p0_spec h5
    clear h5
    rfl
  · intro as ρ μ h
    obtain ⟨nw, sp, tl, tx, al⟩ := ρ
    obtain ⟨as0, rfl, h0⟩ := mq_pZ_spec h
    clear h
    obtain ⟨k, as1, rfl, h1⟩ := mq_pI_spec h0
    clear h0
    obtain ⟨y, as2, rfl, h2⟩ := mq_pI_spec h1
    clear h1
    obtain ⟨v, as3, rfl, h3⟩ := mq_pI_spec h2
    clear h2
    obtain ⟨s, as4, rfl, h4⟩ := mq_pI_spec h3
    clear h3
    obtain ⟨w, as5, rfl, h5⟩ := mq_pI_spec h4
    clear h4
    obtain ⟨rfl, hp⟩ := mq_p0_spec h5
    clear h5
    intro hrg
    obtain ⟨⟨ha1a, ha1b⟩, ⟨ha2a, ha2b⟩, ⟨ha3a, ha3b⟩, ⟨ha4a, ha4b⟩, ⟨ha5a, ha5b⟩, -⟩ := hrg
    intro hbk
    have e0 : mq_l0 ([.inr (.inr (some (60, 0))), .inl k, .inl y, .inl v, .inl s, .inl w] : List mq_V) 7 = [some (.inr (.inr (some (60, 0)))), some (.inl k), some (.inl y), some (.inl v), some (.inl s), some (.inl w), none] := rfl
    rw [e0]
    repeat' (first | refine And.intro ?_ ?_ | intro _)
    all_goals try simp only [Int.reduceToNat, Int.reduceAdd, mq_up_f, mq_up_s, mq_up_e, ne_eq, Nat.reduceEqDiff, not_false_eq_true, true_and, and_true, false_and, and_false, false_or, or_false, true_or, or_true, true_implies] at *
    all_goals first | omega | rfl | exact trivial | assumption
  · intro as ρ μ h
    obtain ⟨nw, sp, tl, tx, al⟩ := ρ
    obtain ⟨as0, rfl, h0⟩ := mq_pZ_spec h
    clear h
    obtain ⟨k, as1, rfl, h1⟩ := mq_pI_spec h0
    clear h0
    obtain ⟨y, as2, rfl, h2⟩ := mq_pI_spec h1
    clear h1
    obtain ⟨v, as3, rfl, h3⟩ := mq_pI_spec h2
    clear h2
    obtain ⟨s, as4, rfl, h4⟩ := mq_pI_spec h3
    clear h3
    obtain ⟨w, as5, rfl, h5⟩ := mq_pI_spec h4
    clear h4
    obtain ⟨rfl, hp⟩ := mq_p0_spec h5
    clear h5
    exact fun _ h => absurd h List.not_mem_nil
  · intro as ρ μ h
    obtain ⟨nw, sp, tl, tx, al⟩ := ρ
    obtain ⟨as0, rfl, h0⟩ := mq_pZ_spec h
    clear h
    obtain ⟨k, as1, rfl, h1⟩ := mq_pI_spec h0
    clear h0
    obtain ⟨y, as2, rfl, h2⟩ := mq_pI_spec h1
    clear h1
    obtain ⟨v, as3, rfl, h3⟩ := mq_pI_spec h2
    clear h2
    obtain ⟨s, as4, rfl, h4⟩ := mq_pI_spec h3
    clear h3
    obtain ⟨w, as5, rfl, h5⟩ := mq_pI_spec h4
    clear h4
    obtain ⟨rfl, hp⟩ := mq_p0_spec h5
    clear h5
    intro hrg
    obtain ⟨⟨ha1a, ha1b⟩, ⟨ha2a, ha2b⟩, ⟨ha3a, ha3b⟩, ⟨ha4a, ha4b⟩, ⟨ha5a, ha5b⟩, -⟩ := hrg
    exact fun _ h => absurd h List.not_mem_nil
def pq_m_isInside : List mq_E := [(0, false, .iload 3), (1, false, .aload 0), (2, false, .invokeinterface 11 23), (5, false, .iconst 2), (6, false, .iload 2), (7, false, .imul), (8, false, .iconst 1), (9, false, .iadd), (10, false, .iaload), (11, false, .if_icmp .gt (Int.ofNat 36)), (14, false, .iload 3), (15, false, .aload 0), (16, false, .iload 1), (17, false, .invokestatic 0), (20, false, .isub), (21, false, .aload 0), (22, false, .invokeinterface 11 23), (25, false, .iconst 2), (26, false, .iload 2), (27, false, .imul), (28, false, .iaload), (29, false, .if_icmp .lt (Int.ofNat 36)), (32, false, .iconst 1), (33, false, .goto (Int.ofNat 37)), (36, false, .iconst 0), (37, false, .ireturn)]
def cq_m_isInside : mq_C := ((yX11_isInside, cX11_isInside, 4, (some .boolean), { frames := 1, cells := 0, slots := 0, locals := 21 }), (4, 1, 0, 0), 0, (fun as ρ μ => match ρ with
  | (nw, sp, tl, tx, al) => mq_pZ as 60 fun as => mq_pI as fun k as => mq_pI as fun p as => mq_pI as fun y as => mq_p0 as (0 ≤ k ∧ k ≤ 3 ∧ 0 ≤ p ∧ p ≤ 5 ∧ 0 ≤ y ∧ y ≤ 1000)),
  (fun as ρ μ r ρ' μ' => match as, ρ, ρ' with
  | [.inr (.inr (some (_, _))), .inl k, .inl p, .inl y], (nw, sp, tl, tx, al), (nw', sp', tl', tx', al') => [(r = 1 ∧ y ≤ μ (73, 0) (2 * p + 1).toNat ∧ μ (73, 0) (2 * p).toNat ≤ y - μ (74, 0) (5 * k).toNat) ∨ (r = 0 ∧ ¬ (y ≤ μ (73, 0) (2 * p + 1).toNat ∧ μ (73, 0) (2 * p).toNat ≤ y - μ (74, 0) (5 * k).toNat)), r = 1 → y ≤ 400]
  | _, _, _ => []))
def kq_m_isInside : List mq_V → mq_R → mq_M → List mq_Cu := fun as ρ μ => match as, ρ with
  | [.inr (.inr (some (_, _))), .inl k, .inl p, .inl y], (nw, sp, tl, tx, al) => []
  | _, _ => []
set_option maxHeartbeats 16000000 in
set_option maxRecDepth 100000 in
theorem vq_m_isInside (lc : Launch) (h_m_lengthOf : mq_Ct lc cq_m_lengthOf) : mq_Ct lc cq_m_isInside := by
  refine mq_method (lc := lc) (P := pq_m_isInside) (cl := [cq_m_lengthOf]) (T := ([(52, 11, 23)], [], [], [(331, 0, 0)], [], [])) (fuel := 400) (cuts := kq_m_isInside) (by decide) rfl ⟨rfl, rfl⟩ (List.forall_mem_cons.mpr ⟨h_m_lengthOf, (fun _ h => absurd h List.not_mem_nil)⟩) ⟨(List.forall_mem_cons.mpr ⟨⟨_, rfl, by decide, kw_873⟩, (fun _ h => absurd h List.not_mem_nil)⟩), (fun _ h => absurd h List.not_mem_nil), (fun _ h => absurd h List.not_mem_nil), (List.forall_mem_cons.mpr ⟨mq_ml0 rfl mw0_m_lengthOf kw_899, (fun _ h => absurd h List.not_mem_nil)⟩), (fun _ h => absurd h List.not_mem_nil), (fun _ h => absurd h List.not_mem_nil)⟩ (by decide +kernel) ⟨_, _, rfl⟩ ?_ ?_ ?_ ?_
  · intro as ρ μ h
    obtain ⟨nw, sp, tl, tx, al⟩ := ρ
    obtain ⟨as0, rfl, h0⟩ := mq_pZ_spec h
    clear h
    obtain ⟨k, as1, rfl, h1⟩ := mq_pI_spec h0
    clear h0
    obtain ⟨p, as2, rfl, h2⟩ := mq_pI_spec h1
    clear h1
    obtain ⟨y, as3, rfl, h3⟩ := mq_pI_spec h2
    clear h2
    obtain ⟨rfl, hp⟩ := mq_p0_spec h3
    clear h3
    obtain ⟨hp0, hp1, hp2, hp3, hp4, hp5⟩ := hp
    rfl
  · intro as ρ μ h
    obtain ⟨nw, sp, tl, tx, al⟩ := ρ
    obtain ⟨as0, rfl, h0⟩ := mq_pZ_spec h
    clear h
    obtain ⟨k, as1, rfl, h1⟩ := mq_pI_spec h0
    clear h0
    obtain ⟨p, as2, rfl, h2⟩ := mq_pI_spec h1
    clear h1
    obtain ⟨y, as3, rfl, h3⟩ := mq_pI_spec h2
    clear h2
    obtain ⟨rfl, hp⟩ := mq_p0_spec h3
    clear h3
    obtain ⟨hp0, hp1, hp2, hp3, hp4, hp5⟩ := hp
    intro hrg
    obtain ⟨⟨ha1a, ha1b⟩, ⟨ha2a, ha2b⟩, ⟨ha3a, ha3b⟩, -⟩ := hrg
    intro hbk
    have e0 : mq_l0 ([.inr (.inr (some (60, 0))), .inl k, .inl p, .inl y] : List mq_V) 4 = [some (.inr (.inr (some (60, 0)))), some (.inl k), some (.inl p), some (.inl y)] := rfl
    rw [e0]
    repeat' (first | refine And.intro ?_ ?_ | intro _)
    all_goals first | omega | rfl | exact trivial | (simp [mq_up] at * <;> omega)
  · intro as ρ μ h
    obtain ⟨nw, sp, tl, tx, al⟩ := ρ
    obtain ⟨as0, rfl, h0⟩ := mq_pZ_spec h
    clear h
    obtain ⟨k, as1, rfl, h1⟩ := mq_pI_spec h0
    clear h0
    obtain ⟨p, as2, rfl, h2⟩ := mq_pI_spec h1
    clear h1
    obtain ⟨y, as3, rfl, h3⟩ := mq_pI_spec h2
    clear h2
    obtain ⟨rfl, hp⟩ := mq_p0_spec h3
    clear h3
    obtain ⟨hp0, hp1, hp2, hp3, hp4, hp5⟩ := hp
    exact fun _ h => absurd h List.not_mem_nil
  · intro as ρ μ h
    obtain ⟨nw, sp, tl, tx, al⟩ := ρ
    obtain ⟨as0, rfl, h0⟩ := mq_pZ_spec h
    clear h
    obtain ⟨k, as1, rfl, h1⟩ := mq_pI_spec h0
    clear h0
    obtain ⟨p, as2, rfl, h2⟩ := mq_pI_spec h1
    clear h1
    obtain ⟨y, as3, rfl, h3⟩ := mq_pI_spec h2
    clear h2
    obtain ⟨rfl, hp⟩ := mq_p0_spec h3
    clear h3
    obtain ⟨hp0, hp1, hp2, hp3, hp4, hp5⟩ := hp
    intro hrg
    obtain ⟨⟨ha1a, ha1b⟩, ⟨ha2a, ha2b⟩, ⟨ha3a, ha3b⟩, -⟩ := hrg
    exact fun _ h => absurd h List.not_mem_nil
theorem mw0_m_isInside : mq_mlA cq_m_isInside 0 := ⟨kw_903, ⟨by decide +kernel, by decide +kernel⟩, by decide +kernel, kw_904, kw_905, kw_771, 60, by decide +kernel, fun as ρ μ h => by obtain ⟨nw, sp, tl, tx, al⟩ := ρ; obtain ⟨t, e, _⟩ := mq_pZ_spec h; exact ⟨0, t, e⟩⟩
def pq_m_sumBy : List mq_E := [(0, false, .aload 0), (1, false, .iload 2), (2, false, .iload 4), (4, false, .iload 5), (6, false, .iload 6), (8, false, .invokestatic 0), (11, false, .istore 7), (13, false, .aload 0), (14, false, .invokeinterface 11 29), (17, false, .ifCond .eq (Int.ofNat 24)), (20, false, .iconst 1), (21, false, .goto (Int.ofNat 26)), (24, false, .iload 6), (26, false, .istore 8), (28, false, .iload 5), (30, false, .iload 7), (32, false, .isub), (33, false, .aload 0), (34, false, .invokeinterface 11 30), (37, false, .if_icmp .gt (Int.ofNat 54)), (40, false, .iload 4), (42, false, .iload 7), (44, false, .iadd), (45, false, .aload 0), (46, false, .invokeinterface 11 17), (49, false, .iconst 0), (50, false, .iaload), (51, false, .if_icmp .le (Int.ofNat 57)), (54, false, .iconst 1000000), (56, false, .ireturn), (57, false, .iload 7), (59, false, .ifCond .ne (Int.ofNat 81)), (62, false, .aload 0), (63, false, .iload 2), (64, false, .iload 3), (65, false, .iload 4), (67, false, .invokestatic 1), (70, false, .ifCond .eq (Int.ofNat 78)), (73, false, .iload 8), (75, false, .goto (Int.ofNat 80)), (78, false, .iconst 1000000), (80, false, .ireturn), (81, false, .aload 0), (82, false, .invokeinterface 11 28), (85, false, .iconst 6416), (88, false, .iload 1), (89, false, .imul), (90, false, .iconst 16), (92, false, .iload 4), (94, false, .iload 7), (96, false, .iadd), (97, false, .imul), (98, false, .iadd), (99, false, .iload 7), (101, false, .iadd), (102, false, .iaload), (103, false, .istore 9), (105, false, .iload 9), (107, false, .iconst 1000000), (109, false, .if_icmp .lt (Int.ofNat 117)), (112, false, .iconst 1000000), (114, false, .goto (Int.ofNat 122)), (117, false, .iload 8), (119, false, .iload 9), (121, false, .iadd), (122, false, .ireturn)]
def cq_m_sumBy : mq_C := ((yX11_sumBy, cX11_sumBy, 10, (some .int), { frames := 3, cells := 0, slots := 0, locals := 74 }), (7, 1, 0, 0), 0, (fun as ρ μ => match ρ with
  | (nw, sp, tl, tx, al) => mq_pZ as 60 fun as => mq_pI as fun t as => mq_pI as fun k as => mq_pI as fun p as => mq_pI as fun y as => mq_pI as fun v as => mq_pI as fun s as => mq_p0 as (0 ≤ t ∧ t ≤ 16 ∧ 0 ≤ k ∧ k ≤ 3 ∧ 0 ≤ p ∧ p ≤ 5 ∧ 0 ≤ y ∧ y ≤ 400 ∧ 0 ≤ v ∧ v ≤ 15 ∧ 0 ≤ s ∧ s ≤ 3)),
  (fun as ρ μ r ρ' μ' => match as, ρ, ρ' with
  | [.inr (.inr (some (_, _))), .inl t, .inl k, .inl p, .inl y, .inl v, .inl s], (nw, sp, tl, tx, al), (nw', sp', tl', tx', al') => [0 ≤ r, r ≤ 1000003, r = sq_sum (sq_li μ) (μ (60, 0) 29) (μ (60, 0) 30) (μ (78, 0)) t k p y v s]
  | _, _, _ => []))
def kq_m_sumBy : List mq_V → mq_R → mq_M → List mq_Cu := fun as ρ μ => match as, ρ with
  | [.inr (.inr (some (_, _))), .inl t, .inl k, .inl p, .inl y, .inl v, .inl s], (nw, sp, tl, tx, al) => []
  | _, _ => []
set_option maxHeartbeats 16000000 in
set_option maxRecDepth 100000 in
theorem vq_m_sumBy (lc : Launch) (h_m_slowed : mq_Ct lc cq_m_slowed) (h_m_isInside : mq_Ct lc cq_m_isInside) : mq_Ct lc cq_m_sumBy := by
  refine mq_method (lc := lc) (P := pq_m_sumBy) (cl := [cq_m_slowed, cq_m_isInside]) (T := ([(334, 11, 29), (72, 11, 30), (34, 11, 17), (69, 11, 28)], [(171, 1000000)], [], [(327, 0, 0), (338, 1, 0)], [], [])) (fuel := 400) (cuts := kq_m_sumBy) (by decide) rfl ⟨rfl, rfl⟩ (List.forall_mem_cons.mpr ⟨h_m_slowed, (List.forall_mem_cons.mpr ⟨h_m_isInside, (fun _ h => absurd h List.not_mem_nil)⟩)⟩) ⟨(List.forall_mem_cons.mpr ⟨⟨_, rfl, by decide, kw_900⟩, (List.forall_mem_cons.mpr ⟨⟨_, rfl, by decide, kw_901⟩, (List.forall_mem_cons.mpr ⟨⟨_, rfl, by decide, kw_832⟩, (List.forall_mem_cons.mpr ⟨⟨_, rfl, by decide, kw_902⟩, (fun _ h => absurd h List.not_mem_nil)⟩)⟩)⟩)⟩), (List.forall_mem_cons.mpr ⟨kw_796, (fun _ h => absurd h List.not_mem_nil)⟩), (fun _ h => absurd h List.not_mem_nil), (List.forall_mem_cons.mpr ⟨mq_ml0 rfl mw0_m_slowed kw_895, (List.forall_mem_cons.mpr ⟨mq_ml0 rfl mw0_m_isInside kw_906, (fun _ h => absurd h List.not_mem_nil)⟩)⟩), (fun _ h => absurd h List.not_mem_nil), (fun _ h => absurd h List.not_mem_nil)⟩ (by decide +kernel) ⟨_, _, rfl⟩ ?_ ?_ ?_ ?_
  · intro as ρ μ h
    obtain ⟨nw, sp, tl, tx, al⟩ := ρ
    obtain ⟨as0, rfl, h0⟩ := mq_pZ_spec h
    clear h
    obtain ⟨t, as1, rfl, h1⟩ := mq_pI_spec h0
    clear h0
    obtain ⟨k, as2, rfl, h2⟩ := mq_pI_spec h1
    clear h1
    obtain ⟨p, as3, rfl, h3⟩ := mq_pI_spec h2
    clear h2
    obtain ⟨y, as4, rfl, h4⟩ := mq_pI_spec h3
    clear h3
    obtain ⟨v, as5, rfl, h5⟩ := mq_pI_spec h4
    clear h4
    obtain ⟨s, as6, rfl, h6⟩ := mq_pI_spec h5
    clear h5
    obtain ⟨rfl, hp⟩ := mq_p0_spec h6
    clear h6
    obtain ⟨hp0, hp1, hp2, hp3, hp4, hp5, hp6, hp7, hp8, hp9, hp10, hp11⟩ := hp
    rfl
  · intro as ρ μ h
    obtain ⟨nw, sp, tl, tx, al⟩ := ρ
    obtain ⟨as0, rfl, h0⟩ := mq_pZ_spec h
    clear h
    obtain ⟨t, as1, rfl, h1⟩ := mq_pI_spec h0
    clear h0
    obtain ⟨k, as2, rfl, h2⟩ := mq_pI_spec h1
    clear h1
    obtain ⟨p, as3, rfl, h3⟩ := mq_pI_spec h2
    clear h2
    obtain ⟨y, as4, rfl, h4⟩ := mq_pI_spec h3
    clear h3
    obtain ⟨v, as5, rfl, h5⟩ := mq_pI_spec h4
    clear h4
    obtain ⟨s, as6, rfl, h6⟩ := mq_pI_spec h5
    clear h5
    obtain ⟨rfl, hp⟩ := mq_p0_spec h6
    clear h6
    obtain ⟨hp0, hp1, hp2, hp3, hp4, hp5, hp6, hp7, hp8, hp9, hp10, hp11⟩ := hp
    intro hrg
    obtain ⟨⟨ha1a, ha1b⟩, ⟨ha2a, ha2b⟩, ⟨ha3a, ha3b⟩, ⟨ha4a, ha4b⟩, ⟨ha5a, ha5b⟩, ⟨ha6a, ha6b⟩, -⟩ := hrg
    intro hbk
    have hk0 : 0 ≤ μ (67, 0) 0 ∧ μ (67, 0) 0 ≤ 400 := hbk (67, 0) 0
    have e0 : mq_l0 ([.inr (.inr (some (60, 0))), .inl t, .inl k, .inl p, .inl y, .inl v, .inl s] : List mq_V) 10 = [some (.inr (.inr (some (60, 0)))), some (.inl t), some (.inl k), some (.inl p), some (.inl y), some (.inl v), some (.inl s), none, none, none] := rfl
    rw [e0]
    repeat' (first | refine And.intro ?_ ?_ | intro _)
    all_goals try simp only [Int.reduceToNat, Int.reduceAdd, mq_up_f, mq_up_s, mq_up_e, ne_eq, Nat.reduceEqDiff, not_false_eq_true, true_and, and_true, false_and, and_false, false_or, or_false, true_or, or_true, true_implies] at *
    all_goals first | omega | rfl | exact trivial | assumption | exact sq_sum_eq (l := sq_li μ) (pr := 1) ‹_› (Or.inr ⟨by omega, rfl⟩) (by simp only [sq_li, and_true, true_and, or_true, true_or, false_or, or_false, and_false, false_and] <;> omega) | exact sq_sum_eq (l := sq_li μ) (pr := s) ‹_› (Or.inl ⟨by omega, rfl⟩) (by simp only [sq_li, and_true, true_and, or_true, true_or, false_or, or_false, and_false, false_and] <;> omega)
  · intro as ρ μ h
    obtain ⟨nw, sp, tl, tx, al⟩ := ρ
    obtain ⟨as0, rfl, h0⟩ := mq_pZ_spec h
    clear h
    obtain ⟨t, as1, rfl, h1⟩ := mq_pI_spec h0
    clear h0
    obtain ⟨k, as2, rfl, h2⟩ := mq_pI_spec h1
    clear h1
    obtain ⟨p, as3, rfl, h3⟩ := mq_pI_spec h2
    clear h2
    obtain ⟨y, as4, rfl, h4⟩ := mq_pI_spec h3
    clear h3
    obtain ⟨v, as5, rfl, h5⟩ := mq_pI_spec h4
    clear h4
    obtain ⟨s, as6, rfl, h6⟩ := mq_pI_spec h5
    clear h5
    obtain ⟨rfl, hp⟩ := mq_p0_spec h6
    clear h6
    obtain ⟨hp0, hp1, hp2, hp3, hp4, hp5, hp6, hp7, hp8, hp9, hp10, hp11⟩ := hp
    exact fun _ h => absurd h List.not_mem_nil
  · intro as ρ μ h
    obtain ⟨nw, sp, tl, tx, al⟩ := ρ
    obtain ⟨as0, rfl, h0⟩ := mq_pZ_spec h
    clear h
    obtain ⟨t, as1, rfl, h1⟩ := mq_pI_spec h0
    clear h0
    obtain ⟨k, as2, rfl, h2⟩ := mq_pI_spec h1
    clear h1
    obtain ⟨p, as3, rfl, h3⟩ := mq_pI_spec h2
    clear h2
    obtain ⟨y, as4, rfl, h4⟩ := mq_pI_spec h3
    clear h3
    obtain ⟨v, as5, rfl, h5⟩ := mq_pI_spec h4
    clear h4
    obtain ⟨s, as6, rfl, h6⟩ := mq_pI_spec h5
    clear h5
    obtain ⟨rfl, hp⟩ := mq_p0_spec h6
    clear h6
    obtain ⟨hp0, hp1, hp2, hp3, hp4, hp5, hp6, hp7, hp8, hp9, hp10, hp11⟩ := hp
    intro hrg
    obtain ⟨⟨ha1a, ha1b⟩, ⟨ha2a, ha2b⟩, ⟨ha3a, ha3b⟩, ⟨ha4a, ha4b⟩, ⟨ha5a, ha5b⟩, ⟨ha6a, ha6b⟩, -⟩ := hrg
    exact fun _ h => absurd h List.not_mem_nil
theorem mw0_m_sumBy : mq_mlA cq_m_sumBy 0 := ⟨kw_907, ⟨by decide +kernel, by decide +kernel⟩, by decide +kernel, kw_908, kw_909, kw_771, 60, by decide +kernel, fun as ρ μ h => by obtain ⟨nw, sp, tl, tx, al⟩ := ρ; obtain ⟨t, e, _⟩ := mq_pZ_spec h; exact ⟨0, t, e⟩⟩
def pq_m_sumOf : List mq_E := [(0, false, .aload 0), (1, false, .invokeinterface 11 28), (4, false, .iconst 6416), (7, false, .iload 1), (8, false, .imul), (9, false, .iconst 16), (11, false, .iload 2), (12, false, .imul), (13, false, .iadd), (14, false, .iload 3), (15, false, .iadd), (16, false, .iaload), (17, false, .ireturn)]
def cq_m_sumOf : mq_C := ((yX11_sumOf, cX11_sumOf, 4, (some .int), { frames := 0, cells := 0, slots := 0, locals := 0 }), (4, 1, 0, 0), 0, (fun as ρ μ => match ρ with
  | (nw, sp, tl, tx, al) => mq_pZ as 60 fun as => mq_pI as fun t as => mq_pI as fun y as => mq_pI as fun v as => mq_p0 as (0 ≤ t ∧ t ≤ 16 ∧ 0 ≤ y ∧ y ≤ 400 ∧ 0 ≤ v ∧ v ≤ 15)),
  (fun as ρ μ r ρ' μ' => match as, ρ, ρ' with
  | [.inr (.inr (some (_, _))), .inl t, .inl y, .inl v], (nw, sp, tl, tx, al), (nw', sp', tl', tx', al') => [r = μ (78, 0) (6416 * t + 16 * y + v).toNat, 0 ≤ r, r ≤ 1000000]
  | _, _, _ => []))
def kq_m_sumOf : List mq_V → mq_R → mq_M → List mq_Cu := fun as ρ μ => match as, ρ with
  | [.inr (.inr (some (_, _))), .inl t, .inl y, .inl v], (nw, sp, tl, tx, al) => []
  | _, _ => []
set_option maxHeartbeats 16000000 in
set_option maxRecDepth 100000 in
theorem vq_m_sumOf (lc : Launch)  : mq_Ct lc cq_m_sumOf := by
  refine mq_method (lc := lc) (P := pq_m_sumOf) (cl := []) (T := ([(69, 11, 28)], [], [], [], [], [])) (fuel := 400) (cuts := kq_m_sumOf) (by decide) rfl ⟨rfl, rfl⟩ (fun _ h => absurd h List.not_mem_nil) ⟨(List.forall_mem_cons.mpr ⟨⟨_, rfl, by decide, kw_902⟩, (fun _ h => absurd h List.not_mem_nil)⟩), (fun _ h => absurd h List.not_mem_nil), (fun _ h => absurd h List.not_mem_nil), (fun _ h => absurd h List.not_mem_nil), (fun _ h => absurd h List.not_mem_nil), (fun _ h => absurd h List.not_mem_nil)⟩ (by decide +kernel) ⟨_, _, rfl⟩ ?_ ?_ ?_ ?_
  · intro as ρ μ h
    obtain ⟨nw, sp, tl, tx, al⟩ := ρ
    obtain ⟨as0, rfl, h0⟩ := mq_pZ_spec h
    clear h
    obtain ⟨t, as1, rfl, h1⟩ := mq_pI_spec h0
    clear h0
    obtain ⟨y, as2, rfl, h2⟩ := mq_pI_spec h1
    clear h1
    obtain ⟨v, as3, rfl, h3⟩ := mq_pI_spec h2
    clear h2
    obtain ⟨rfl, hp⟩ := mq_p0_spec h3
    clear h3
    obtain ⟨hp0, hp1, hp2, hp3, hp4, hp5⟩ := hp
    rfl
  · intro as ρ μ h
    obtain ⟨nw, sp, tl, tx, al⟩ := ρ
    obtain ⟨as0, rfl, h0⟩ := mq_pZ_spec h
    clear h
    obtain ⟨t, as1, rfl, h1⟩ := mq_pI_spec h0
    clear h0
    obtain ⟨y, as2, rfl, h2⟩ := mq_pI_spec h1
    clear h1
    obtain ⟨v, as3, rfl, h3⟩ := mq_pI_spec h2
    clear h2
    obtain ⟨rfl, hp⟩ := mq_p0_spec h3
    clear h3
    obtain ⟨hp0, hp1, hp2, hp3, hp4, hp5⟩ := hp
    intro hrg
    obtain ⟨⟨ha1a, ha1b⟩, ⟨ha2a, ha2b⟩, ⟨ha3a, ha3b⟩, -⟩ := hrg
    intro hbk
    have e0 : mq_l0 ([.inr (.inr (some (60, 0))), .inl t, .inl y, .inl v] : List mq_V) 4 = [some (.inr (.inr (some (60, 0)))), some (.inl t), some (.inl y), some (.inl v)] := rfl
    rw [e0]
    repeat' (first | refine And.intro ?_ ?_ | intro _)
    all_goals first | omega | rfl | exact trivial | (simp [mq_up] at * <;> omega)
  · intro as ρ μ h
    obtain ⟨nw, sp, tl, tx, al⟩ := ρ
    obtain ⟨as0, rfl, h0⟩ := mq_pZ_spec h
    clear h
    obtain ⟨t, as1, rfl, h1⟩ := mq_pI_spec h0
    clear h0
    obtain ⟨y, as2, rfl, h2⟩ := mq_pI_spec h1
    clear h1
    obtain ⟨v, as3, rfl, h3⟩ := mq_pI_spec h2
    clear h2
    obtain ⟨rfl, hp⟩ := mq_p0_spec h3
    clear h3
    obtain ⟨hp0, hp1, hp2, hp3, hp4, hp5⟩ := hp
    exact fun _ h => absurd h List.not_mem_nil
  · intro as ρ μ h
    obtain ⟨nw, sp, tl, tx, al⟩ := ρ
    obtain ⟨as0, rfl, h0⟩ := mq_pZ_spec h
    clear h
    obtain ⟨t, as1, rfl, h1⟩ := mq_pI_spec h0
    clear h0
    obtain ⟨y, as2, rfl, h2⟩ := mq_pI_spec h1
    clear h1
    obtain ⟨v, as3, rfl, h3⟩ := mq_pI_spec h2
    clear h2
    obtain ⟨rfl, hp⟩ := mq_p0_spec h3
    clear h3
    obtain ⟨hp0, hp1, hp2, hp3, hp4, hp5⟩ := hp
    intro hrg
    obtain ⟨⟨ha1a, ha1b⟩, ⟨ha2a, ha2b⟩, ⟨ha3a, ha3b⟩, -⟩ := hrg
    exact fun _ h => absurd h List.not_mem_nil
theorem mw0_m_sumOf : mq_mlA cq_m_sumOf 0 := ⟨kw_914, ⟨by decide +kernel, by decide +kernel⟩, by decide +kernel, kw_915, kw_916, kw_771, 60, by decide +kernel, fun as ρ μ h => by obtain ⟨nw, sp, tl, tx, al⟩ := ρ; obtain ⟨t, e, _⟩ := mq_pZ_spec h; exact ⟨0, t, e⟩⟩
