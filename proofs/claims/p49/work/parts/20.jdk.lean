def pq_coder : List mq_E := [(0, false, .getstatic 0), (3, false, .ifCond .eq (Int.ofNat 13)), (6, false, .aload 0), (7, false, .instanceof 1), (10, false, .goto (Int.ofNat 14)), (13, false, .iconst 1), (14, false, .ireturn)]
def cq_coder : mq_C := ((yJ0_coder_7d493, cJ0_coder_7d493, 1, (some .byte), { frames := 0, cells := 0, slots := 0, locals := 0 }), (1, 1, 0, 0), 0, (fun as ρ μ => match ρ with
  | (nw, sp, tl, tx, al) => mq_pR as 99 fun W as => mq_p0 as (True)),
  (fun as ρ μ r ρ' μ' => match as, ρ, ρ' with
  | [.inr (.inr (some (_, W)))], (nw, sp, tl, tx, al), (nw', sp', tl', tx', al') => [r = 0]
  | _, _, _ => []))
def kq_coder : List mq_V → mq_R → mq_M → List mq_Cu := fun as ρ μ => match as, ρ with
  | [.inr (.inr (some (_, W)))], (nw, sp, tl, tx, al) => []
  | _, _ => []
set_option maxHeartbeats 16000000 in
set_option maxRecDepth 100000 in
theorem vq_coder (lc : Launch)  : mq_Ct lc cq_coder := by
  refine mq_method (lc := lc) (P := pq_coder) (cl := []) (T := ([], [], [], [], [], [])) (fuel := 400) (cuts := kq_coder) (by decide) rfl ⟨rfl, rfl⟩ (fun _ h => absurd h List.not_mem_nil) ⟨(fun _ h => absurd h List.not_mem_nil), (fun _ h => absurd h List.not_mem_nil), (fun _ h => absurd h List.not_mem_nil), (fun _ h => absurd h List.not_mem_nil), (fun _ h => absurd h List.not_mem_nil), (fun _ h => absurd h List.not_mem_nil)⟩ (by decide +kernel) ⟨_, _, rfl⟩ ?_ ?_ ?_ ?_
  · intro as ρ μ h
    obtain ⟨nw, sp, tl, tx, al⟩ := ρ
    obtain ⟨W, as0, rfl, h0⟩ := mq_pR_spec h
    clear h
    obtain ⟨rfl, hp⟩ := mq_p0_spec h0
    clear h0
    rfl
  · intro as ρ μ h
    obtain ⟨nw, sp, tl, tx, al⟩ := ρ
    obtain ⟨W, as0, rfl, h0⟩ := mq_pR_spec h
    clear h
    obtain ⟨rfl, hp⟩ := mq_p0_spec h0
    clear h0
    intro hrg
    intro hbk
    have e0 : mq_l0 ([.inr (.inr (some (99, W)))] : List mq_V) 1 = [some (.inr (.inr (some (99, W))))] := rfl
    rw [e0]
    repeat' (first | refine And.intro ?_ ?_ | intro _)
    all_goals first | omega | rfl | exact trivial | (have h9 := mq_sl_le W; omega) | (subst_vars; omega)
  · intro as ρ μ h
    obtain ⟨nw, sp, tl, tx, al⟩ := ρ
    obtain ⟨W, as0, rfl, h0⟩ := mq_pR_spec h
    clear h
    obtain ⟨rfl, hp⟩ := mq_p0_spec h0
    clear h0
    exact fun _ h => absurd h List.not_mem_nil
  · intro as ρ μ h
    obtain ⟨nw, sp, tl, tx, al⟩ := ρ
    obtain ⟨W, as0, rfl, h0⟩ := mq_pR_spec h
    clear h
    obtain ⟨rfl, hp⟩ := mq_p0_spec h0
    clear h0
    intro hrg
    exact fun _ h => absurd h List.not_mem_nil
theorem mw0_coder : mq_mlA cq_coder 0 := ⟨kw_1, ⟨by decide +kernel, by decide +kernel⟩, by decide +kernel, kw_2, kw_3, kw_4, 99, by decide +kernel, fun as ρ μ h => by obtain ⟨nw, sp, tl, tx, al⟩ := ρ; obtain ⟨i, t, e, _⟩ := mq_pR_spec h; exact ⟨i, t, e⟩⟩
def pq_isLatin1 : List mq_E := [(0, false, .getstatic 0), (3, false, .ifCond .eq (Int.ofNat 17)), (6, false, .aload 0), (7, false, .instanceof 1), (10, false, .ifCond .ne (Int.ofNat 17)), (13, false, .iconst 1), (14, false, .goto (Int.ofNat 18)), (17, false, .iconst 0), (18, false, .ireturn)]
def cq_isLatin1 : mq_C := ((yJ0_isLatin1_aae02, cJ0_isLatin1_aae02, 1, (some .boolean), { frames := 0, cells := 0, slots := 0, locals := 0 }), (1, 1, 0, 0), 0, (fun as ρ μ => match ρ with
  | (nw, sp, tl, tx, al) => mq_pR as 99 fun W as => mq_p0 as (True)),
  (fun as ρ μ r ρ' μ' => match as, ρ, ρ' with
  | [.inr (.inr (some (_, W)))], (nw, sp, tl, tx, al), (nw', sp', tl', tx', al') => [r = 1]
  | _, _, _ => []))
def kq_isLatin1 : List mq_V → mq_R → mq_M → List mq_Cu := fun as ρ μ => match as, ρ with
  | [.inr (.inr (some (_, W)))], (nw, sp, tl, tx, al) => []
  | _, _ => []
set_option maxHeartbeats 16000000 in
set_option maxRecDepth 100000 in
theorem vq_isLatin1 (lc : Launch)  : mq_Ct lc cq_isLatin1 := by
  refine mq_method (lc := lc) (P := pq_isLatin1) (cl := []) (T := ([], [], [], [], [], [])) (fuel := 400) (cuts := kq_isLatin1) (by decide) rfl ⟨rfl, rfl⟩ (fun _ h => absurd h List.not_mem_nil) ⟨(fun _ h => absurd h List.not_mem_nil), (fun _ h => absurd h List.not_mem_nil), (fun _ h => absurd h List.not_mem_nil), (fun _ h => absurd h List.not_mem_nil), (fun _ h => absurd h List.not_mem_nil), (fun _ h => absurd h List.not_mem_nil)⟩ (by decide +kernel) ⟨_, _, rfl⟩ ?_ ?_ ?_ ?_
  · intro as ρ μ h
    obtain ⟨nw, sp, tl, tx, al⟩ := ρ
    obtain ⟨W, as0, rfl, h0⟩ := mq_pR_spec h
    clear h
    obtain ⟨rfl, hp⟩ := mq_p0_spec h0
    clear h0
    rfl
  · intro as ρ μ h
    obtain ⟨nw, sp, tl, tx, al⟩ := ρ
    obtain ⟨W, as0, rfl, h0⟩ := mq_pR_spec h
    clear h
    obtain ⟨rfl, hp⟩ := mq_p0_spec h0
    clear h0
    intro hrg
    intro hbk
    have e0 : mq_l0 ([.inr (.inr (some (99, W)))] : List mq_V) 1 = [some (.inr (.inr (some (99, W))))] := rfl
    rw [e0]
    repeat' (first | refine And.intro ?_ ?_ | intro _)
    all_goals first | omega | rfl | exact trivial | (have h9 := mq_sl_le W; omega) | (subst_vars; omega)
  · intro as ρ μ h
    obtain ⟨nw, sp, tl, tx, al⟩ := ρ
    obtain ⟨W, as0, rfl, h0⟩ := mq_pR_spec h
    clear h
    obtain ⟨rfl, hp⟩ := mq_p0_spec h0
    clear h0
    exact fun _ h => absurd h List.not_mem_nil
  · intro as ρ μ h
    obtain ⟨nw, sp, tl, tx, al⟩ := ρ
    obtain ⟨W, as0, rfl, h0⟩ := mq_pR_spec h
    clear h
    obtain ⟨rfl, hp⟩ := mq_p0_spec h0
    clear h0
    intro hrg
    exact fun _ h => absurd h List.not_mem_nil
theorem mw0_isLatin1 : mq_mlA cq_isLatin1 0 := ⟨kw_13, ⟨by decide +kernel, by decide +kernel⟩, by decide +kernel, kw_14, kw_15, kw_4, 99, by decide +kernel, fun as ρ μ h => by obtain ⟨nw, sp, tl, tx, al⟩ := ρ; obtain ⟨i, t, e, _⟩ := mq_pR_spec h; exact ⟨i, t, e⟩⟩
def pq_strLen : List mq_E := [(0, false, .aload 0), (1, false, .instanceof 0), (4, false, .checkcast 0), (5, false, .aload 0), (6, false, .invokestatic 0), (9, false, .ishr), (10, false, .ireturn)]
def cq_strLen : mq_C := ((yJ0_length_8abf5, cJ0_length_8abf5, 1, (some .int), { frames := 1, cells := 0, slots := 0, locals := 20 }), (1, 1, 0, 0), 0, (fun as ρ μ => match ρ with
  | (nw, sp, tl, tx, al) => mq_pR as 99 fun W as => mq_p0 as (True)),
  (fun as ρ μ r ρ' μ' => match as, ρ, ρ' with
  | [.inr (.inr (some (_, W)))], (nw, sp, tl, tx, al), (nw', sp', tl', tx', al') => [r = mq_sl W, 0 ≤ r, r ≤ 8]
  | _, _, _ => []))
def kq_strLen : List mq_V → mq_R → mq_M → List mq_Cu := fun as ρ μ => match as, ρ with
  | [.inr (.inr (some (_, W)))], (nw, sp, tl, tx, al) => []
  | _, _ => []
set_option maxHeartbeats 16000000 in
set_option maxRecDepth 100000 in
theorem vq_strLen (lc : Launch) (h_coder : mq_Ct lc cq_coder) : mq_Ct lc cq_strLen := by
  refine mq_method (lc := lc) (P := pq_strLen) (cl := [cq_coder]) (T := ([], [], [], [(335, 0, 0)], [], [])) (fuel := 400) (cuts := kq_strLen) (by decide) rfl ⟨rfl, rfl⟩ (List.forall_mem_cons.mpr ⟨h_coder, (fun _ h => absurd h List.not_mem_nil)⟩) ⟨(fun _ h => absurd h List.not_mem_nil), (fun _ h => absurd h List.not_mem_nil), (fun _ h => absurd h List.not_mem_nil), (List.forall_mem_cons.mpr ⟨mq_ml0 rfl mw0_coder kw_5, (fun _ h => absurd h List.not_mem_nil)⟩), (fun _ h => absurd h List.not_mem_nil), (fun _ h => absurd h List.not_mem_nil)⟩ (by decide +kernel) ⟨_, _, rfl⟩ ?_ ?_ ?_ ?_
  · intro as ρ μ h
    obtain ⟨nw, sp, tl, tx, al⟩ := ρ
    obtain ⟨W, as0, rfl, h0⟩ := mq_pR_spec h
    clear h
    obtain ⟨rfl, hp⟩ := mq_p0_spec h0
    clear h0
    rfl
  · intro as ρ μ h
    obtain ⟨nw, sp, tl, tx, al⟩ := ρ
    obtain ⟨W, as0, rfl, h0⟩ := mq_pR_spec h
    clear h
    obtain ⟨rfl, hp⟩ := mq_p0_spec h0
    clear h0
    intro hrg
    intro hbk
    have e0 : mq_l0 ([.inr (.inr (some (99, W)))] : List mq_V) 1 = [some (.inr (.inr (some (99, W))))] := rfl
    rw [e0]
    repeat' (first | refine And.intro ?_ ?_ | intro _)
    all_goals first | omega | rfl | exact trivial | (have h9 := mq_sl_le W; omega) | (subst_vars; omega)
  · intro as ρ μ h
    obtain ⟨nw, sp, tl, tx, al⟩ := ρ
    obtain ⟨W, as0, rfl, h0⟩ := mq_pR_spec h
    clear h
    obtain ⟨rfl, hp⟩ := mq_p0_spec h0
    clear h0
    exact fun _ h => absurd h List.not_mem_nil
  · intro as ρ μ h
    obtain ⟨nw, sp, tl, tx, al⟩ := ρ
    obtain ⟨W, as0, rfl, h0⟩ := mq_pR_spec h
    clear h
    obtain ⟨rfl, hp⟩ := mq_p0_spec h0
    clear h0
    intro hrg
    exact fun _ h => absurd h List.not_mem_nil
theorem mw0_strLen : mq_mlA cq_strLen 0 := ⟨kw_404, ⟨by decide +kernel, by decide +kernel⟩, by decide +kernel, kw_405, kw_406, kw_4, 99, by decide +kernel, fun as ρ μ h => by obtain ⟨nw, sp, tl, tx, al⟩ := ρ; obtain ⟨i, t, e, _⟩ := mq_pR_spec h; exact ⟨i, t, e⟩⟩
def pq_ckI3 : List mq_E := [(0, false, .iload 0), (1, false, .ifCond .lt (Int.ofNat 9)), (4, false, .iload 0), (5, false, .iload 1), (6, false, .if_icmp .lt (Int.ofNat 16)), (9, false, .aload 2), (10, false, .iload 0), (11, false, .iload 1), (12, false, .nop), (16, false, .iload 0), (17, false, .ireturn)]
def cq_ckI3 : mq_C := ((yJ3_checkIndex_8e157, cJ3_checkIndex_8e157, 3, (some .int), { frames := 0, cells := 0, slots := 0, locals := 0 }), (3, 1, 0, 0), 0, (fun as ρ μ => match ρ with
  | (nw, sp, tl, tx, al) => mq_pI as fun i as => mq_pI as fun n as => mq_pA as fun o2 as => mq_p0 as (0 ≤ i ∧ i < n)),
  (fun as ρ μ r ρ' μ' => match as, ρ, ρ' with
  | [.inl i, .inl n, .inr (.inr _)], (nw, sp, tl, tx, al), (nw', sp', tl', tx', al') => []
  | _, _, _ => []))
def kq_ckI3 : List mq_V → mq_R → mq_M → List mq_Cu := fun as ρ μ => match as, ρ with
  | [.inl i, .inl n, .inr (.inr _)], (nw, sp, tl, tx, al) => []
  | _, _ => []
set_option maxHeartbeats 16000000 in
set_option maxRecDepth 100000 in
theorem vq_ckI3 (lc : Launch)  : mq_Ct lc cq_ckI3 := by
  refine mq_method (lc := lc) (P := pq_ckI3) (cl := []) (T := ([], [], [], [], [], [])) (fuel := 400) (cuts := kq_ckI3) (by decide) rfl ⟨rfl, rfl⟩ (fun _ h => absurd h List.not_mem_nil) ⟨(fun _ h => absurd h List.not_mem_nil), (fun _ h => absurd h List.not_mem_nil), (fun _ h => absurd h List.not_mem_nil), (fun _ h => absurd h List.not_mem_nil), (fun _ h => absurd h List.not_mem_nil), (fun _ h => absurd h List.not_mem_nil)⟩ (by decide +kernel) ⟨_, _, rfl⟩ ?_ ?_ ?_ ?_
  · intro as ρ μ h
    obtain ⟨nw, sp, tl, tx, al⟩ := ρ
    obtain ⟨i, as0, rfl, h0⟩ := mq_pI_spec h
    clear h
    obtain ⟨n, as1, rfl, h1⟩ := mq_pI_spec h0
    clear h0
    obtain ⟨o2, as2, rfl, h2⟩ := mq_pA_spec h1
    clear h1
    obtain ⟨rfl, hp⟩ := mq_p0_spec h2
    clear h2
    obtain ⟨hp0, hp1⟩ := hp
    rfl
  · intro as ρ μ h
    obtain ⟨nw, sp, tl, tx, al⟩ := ρ
    obtain ⟨i, as0, rfl, h0⟩ := mq_pI_spec h
    clear h
    obtain ⟨n, as1, rfl, h1⟩ := mq_pI_spec h0
    clear h0
    obtain ⟨o2, as2, rfl, h2⟩ := mq_pA_spec h1
    clear h1
    obtain ⟨rfl, hp⟩ := mq_p0_spec h2
    clear h2
    obtain ⟨hp0, hp1⟩ := hp
    intro hrg
    obtain ⟨⟨ha0a, ha0b⟩, ⟨ha1a, ha1b⟩, -⟩ := hrg
    intro hbk
    have e0 : mq_l0 ([.inl i, .inl n, .inr (.inr o2)] : List mq_V) 3 = [some (.inl i), some (.inl n), some (.inr (.inr o2))] := rfl
    rw [e0]
    repeat' (first | refine And.intro ?_ ?_ | intro _)
    all_goals first | omega | rfl | exact trivial | (have h9 := mq_sl_le W; omega) | (subst_vars; omega)
  · intro as ρ μ h
    obtain ⟨nw, sp, tl, tx, al⟩ := ρ
    obtain ⟨i, as0, rfl, h0⟩ := mq_pI_spec h
    clear h
    obtain ⟨n, as1, rfl, h1⟩ := mq_pI_spec h0
    clear h0
    obtain ⟨o2, as2, rfl, h2⟩ := mq_pA_spec h1
    clear h1
    obtain ⟨rfl, hp⟩ := mq_p0_spec h2
    clear h2
    obtain ⟨hp0, hp1⟩ := hp
    exact fun _ h => absurd h List.not_mem_nil
  · intro as ρ μ h
    obtain ⟨nw, sp, tl, tx, al⟩ := ρ
    obtain ⟨i, as0, rfl, h0⟩ := mq_pI_spec h
    clear h
    obtain ⟨n, as1, rfl, h1⟩ := mq_pI_spec h0
    clear h0
    obtain ⟨o2, as2, rfl, h2⟩ := mq_pA_spec h1
    clear h1
    obtain ⟨rfl, hp⟩ := mq_p0_spec h2
    clear h2
    obtain ⟨hp0, hp1⟩ := hp
    intro hrg
    obtain ⟨⟨ha0a, ha0b⟩, ⟨ha1a, ha1b⟩, -⟩ := hrg
    exact fun _ h => absurd h List.not_mem_nil
theorem mw1_ckI3 : mq_mlA cq_ckI3 1 := ⟨kw_6, ⟨by decide +kernel, by decide +kernel⟩, by decide +kernel, kw_7, kw_8⟩
def pq_ckI0 : List mq_E := [(0, false, .iload 0), (1, false, .iload 1), (2, false, .getstatic 1), (5, false, .invokestatic 0), (8, false, .pop), (9, false, .return_)]
def cq_ckI0 : mq_C := ((yJ0_checkIndex_df160, cJ0_checkIndex_df160, 2, none, { frames := 1, cells := 0, slots := 0, locals := 22 }), (2, 0, 0, 0), 0, (fun as ρ μ => match ρ with
  | (nw, sp, tl, tx, al) => mq_pI as fun i as => mq_pI as fun n as => mq_p0 as (0 ≤ i ∧ i < n)),
  (fun as ρ μ r ρ' μ' => match as, ρ, ρ' with
  | [.inl i, .inl n], (nw, sp, tl, tx, al), (nw', sp', tl', tx', al') => []
  | _, _, _ => []))
def kq_ckI0 : List mq_V → mq_R → mq_M → List mq_Cu := fun as ρ μ => match as, ρ with
  | [.inl i, .inl n], (nw, sp, tl, tx, al) => []
  | _, _ => []
set_option maxHeartbeats 16000000 in
set_option maxRecDepth 100000 in
theorem vq_ckI0 (lc : Launch) (h_ckI3 : mq_Ct lc cq_ckI3) : mq_Ct lc cq_ckI0 := by
  refine mq_method (lc := lc) (P := pq_ckI0) (cl := [cq_ckI3]) (T := ([], [], [], [(1059, 0, 1)], [], [])) (fuel := 400) (cuts := kq_ckI0) (by decide) rfl ⟨rfl, rfl⟩ (List.forall_mem_cons.mpr ⟨h_ckI3, (fun _ h => absurd h List.not_mem_nil)⟩) ⟨(fun _ h => absurd h List.not_mem_nil), (fun _ h => absurd h List.not_mem_nil), (fun _ h => absurd h List.not_mem_nil), (List.forall_mem_cons.mpr ⟨mq_ml1 rfl mw1_ckI3 kw_9, (fun _ h => absurd h List.not_mem_nil)⟩), (fun _ h => absurd h List.not_mem_nil), (fun _ h => absurd h List.not_mem_nil)⟩ (by decide +kernel) ⟨_, _, rfl⟩ ?_ ?_ ?_ ?_
  · intro as ρ μ h
    obtain ⟨nw, sp, tl, tx, al⟩ := ρ
    obtain ⟨i, as0, rfl, h0⟩ := mq_pI_spec h
    clear h
    obtain ⟨n, as1, rfl, h1⟩ := mq_pI_spec h0
    clear h0
    obtain ⟨rfl, hp⟩ := mq_p0_spec h1
    clear h1
    obtain ⟨hp0, hp1⟩ := hp
    rfl
  · intro as ρ μ h
    obtain ⟨nw, sp, tl, tx, al⟩ := ρ
    obtain ⟨i, as0, rfl, h0⟩ := mq_pI_spec h
    clear h
    obtain ⟨n, as1, rfl, h1⟩ := mq_pI_spec h0
    clear h0
    obtain ⟨rfl, hp⟩ := mq_p0_spec h1
    clear h1
    obtain ⟨hp0, hp1⟩ := hp
    intro hrg
    obtain ⟨⟨ha0a, ha0b⟩, ⟨ha1a, ha1b⟩, -⟩ := hrg
    intro hbk
    have e0 : mq_l0 ([.inl i, .inl n] : List mq_V) 2 = [some (.inl i), some (.inl n)] := rfl
    rw [e0]
    repeat' (first | refine And.intro ?_ ?_ | intro _)
    all_goals first | omega | rfl | exact trivial | (have h9 := mq_sl_le W; omega) | (subst_vars; omega)
  · intro as ρ μ h
    obtain ⟨nw, sp, tl, tx, al⟩ := ρ
    obtain ⟨i, as0, rfl, h0⟩ := mq_pI_spec h
    clear h
    obtain ⟨n, as1, rfl, h1⟩ := mq_pI_spec h0
    clear h0
    obtain ⟨rfl, hp⟩ := mq_p0_spec h1
    clear h1
    obtain ⟨hp0, hp1⟩ := hp
    exact fun _ h => absurd h List.not_mem_nil
  · intro as ρ μ h
    obtain ⟨nw, sp, tl, tx, al⟩ := ρ
    obtain ⟨i, as0, rfl, h0⟩ := mq_pI_spec h
    clear h
    obtain ⟨n, as1, rfl, h1⟩ := mq_pI_spec h0
    clear h0
    obtain ⟨rfl, hp⟩ := mq_p0_spec h1
    clear h1
    obtain ⟨hp0, hp1⟩ := hp
    intro hrg
    obtain ⟨⟨ha0a, ha0b⟩, ⟨ha1a, ha1b⟩, -⟩ := hrg
    exact fun _ h => absurd h List.not_mem_nil
theorem mw1_ckI0 : mq_mlA cq_ckI0 1 := ⟨kw_10, ⟨by decide +kernel, by decide +kernel⟩, by decide +kernel, kw_11, kw_4⟩
def pq_latCharAt : List mq_E := [(0, false, .iload 1), (1, false, .aload 0), (2, false, .checkcast 0), (3, false, .invokestatic 0), (6, false, .aload 0), (7, false, .iload 1), (8, false, .caload), (9, false, .iconst 255), (12, false, .iand), (13, false, .i2c), (14, false, .ireturn)]
def cq_latCharAt : mq_C := ((yJ1_charAt_3b067, cJ1_charAt_3b067, 2, (some .char), { frames := 2, cells := 0, slots := 0, locals := 43 }), (2, 1, 0, 0), 0, (fun as ρ μ => match ρ with
  | (nw, sp, tl, tx, al) => mq_pR as 98 fun W as => mq_pI as fun i as => mq_p0 as (0 ≤ i ∧ i < mq_sl W)),
  (fun as ρ μ r ρ' μ' => match as, ρ, ρ' with
  | [.inr (.inr (some (_, W))), .inl i], (nw, sp, tl, tx, al), (nw', sp', tl', tx', al') => [0 ≤ r, r ≤ 65535]
  | _, _, _ => []))
def kq_latCharAt : List mq_V → mq_R → mq_M → List mq_Cu := fun as ρ μ => match as, ρ with
  | [.inr (.inr (some (_, W))), .inl i], (nw, sp, tl, tx, al) => []
  | _, _ => []
set_option maxHeartbeats 16000000 in
set_option maxRecDepth 100000 in
theorem vq_latCharAt (lc : Launch) (h_ckI0 : mq_Ct lc cq_ckI0) : mq_Ct lc cq_latCharAt := by
  refine mq_method (lc := lc) (P := pq_latCharAt) (cl := [cq_ckI0]) (T := ([], [], [], [(9, 0, 1)], [], [])) (fuel := 400) (cuts := kq_latCharAt) (by decide) rfl ⟨rfl, rfl⟩ (List.forall_mem_cons.mpr ⟨h_ckI0, (fun _ h => absurd h List.not_mem_nil)⟩) ⟨(fun _ h => absurd h List.not_mem_nil), (fun _ h => absurd h List.not_mem_nil), (fun _ h => absurd h List.not_mem_nil), (List.forall_mem_cons.mpr ⟨mq_ml1 rfl mw1_ckI0 kw_12, (fun _ h => absurd h List.not_mem_nil)⟩), (fun _ h => absurd h List.not_mem_nil), (fun _ h => absurd h List.not_mem_nil)⟩ (by decide +kernel) ⟨_, _, rfl⟩ ?_ ?_ ?_ ?_
  · intro as ρ μ h
    obtain ⟨nw, sp, tl, tx, al⟩ := ρ
    obtain ⟨W, as0, rfl, h0⟩ := mq_pR_spec h
    clear h
    obtain ⟨i, as1, rfl, h1⟩ := mq_pI_spec h0
    clear h0
    obtain ⟨rfl, hp⟩ := mq_p0_spec h1
    clear h1
    obtain ⟨hp0, hp1⟩ := hp
    rfl
  · intro as ρ μ h
    obtain ⟨nw, sp, tl, tx, al⟩ := ρ
    obtain ⟨W, as0, rfl, h0⟩ := mq_pR_spec h
    clear h
    obtain ⟨i, as1, rfl, h1⟩ := mq_pI_spec h0
    clear h0
    obtain ⟨rfl, hp⟩ := mq_p0_spec h1
    clear h1
    obtain ⟨hp0, hp1⟩ := hp
    intro hrg
    obtain ⟨⟨ha1a, ha1b⟩, -⟩ := hrg
    intro hbk
    have e0 : mq_l0 ([.inr (.inr (some (98, W))), .inl i] : List mq_V) 2 = [some (.inr (.inr (some (98, W)))), some (.inl i)] := rfl
    rw [e0]
    repeat' (first | refine And.intro ?_ ?_ | intro _)
    all_goals first | omega | rfl | exact trivial | (have h9 := mq_sl_le W; omega) | (subst_vars; omega)
  · intro as ρ μ h
    obtain ⟨nw, sp, tl, tx, al⟩ := ρ
    obtain ⟨W, as0, rfl, h0⟩ := mq_pR_spec h
    clear h
    obtain ⟨i, as1, rfl, h1⟩ := mq_pI_spec h0
    clear h0
    obtain ⟨rfl, hp⟩ := mq_p0_spec h1
    clear h1
    obtain ⟨hp0, hp1⟩ := hp
    exact fun _ h => absurd h List.not_mem_nil
  · intro as ρ μ h
    obtain ⟨nw, sp, tl, tx, al⟩ := ρ
    obtain ⟨W, as0, rfl, h0⟩ := mq_pR_spec h
    clear h
    obtain ⟨i, as1, rfl, h1⟩ := mq_pI_spec h0
    clear h0
    obtain ⟨rfl, hp⟩ := mq_p0_spec h1
    clear h1
    obtain ⟨hp0, hp1⟩ := hp
    intro hrg
    obtain ⟨⟨ha1a, ha1b⟩, -⟩ := hrg
    exact fun _ h => absurd h List.not_mem_nil
theorem mw1_latCharAt : mq_mlA cq_latCharAt 1 := ⟨kw_17, ⟨by decide +kernel, by decide +kernel⟩, by decide +kernel, kw_18, kw_19⟩
def pq_charAt : List mq_E := [(0, false, .aload 0), (1, false, .invokestatic 0), (4, false, .ifCond .eq (Int.ofNat 16)), (7, false, .aload 0), (8, false, .instanceof 0), (11, false, .iload 1), (12, false, .invokestatic 1), (15, false, .ireturn), (16, false, .aload 0), (17, false, .instanceof 0), (20, false, .iload 1), (21, false, .nop)]
def cq_charAt : mq_C := ((yJ0_charAt_5068e, cJ0_charAt_5068e, 2, (some .char), { frames := 3, cells := 0, slots := 0, locals := 64 }), (2, 1, 0, 0), 0, (fun as ρ μ => match ρ with
  | (nw, sp, tl, tx, al) => mq_pR as 99 fun W as => mq_pI as fun i as => mq_p0 as (0 ≤ i ∧ i < mq_sl W)),
  (fun as ρ μ r ρ' μ' => match as, ρ, ρ' with
  | [.inr (.inr (some (_, W))), .inl i], (nw, sp, tl, tx, al), (nw', sp', tl', tx', al') => []
  | _, _, _ => []))
def kq_charAt : List mq_V → mq_R → mq_M → List mq_Cu := fun as ρ μ => match as, ρ with
  | [.inr (.inr (some (_, W))), .inl i], (nw, sp, tl, tx, al) => []
  | _, _ => []
set_option maxHeartbeats 16000000 in
set_option maxRecDepth 100000 in
theorem vq_charAt (lc : Launch) (h_isLatin1 : mq_Ct lc cq_isLatin1) (h_latCharAt : mq_Ct lc cq_latCharAt) : mq_Ct lc cq_charAt := by
  refine mq_method (lc := lc) (P := pq_charAt) (cl := [cq_isLatin1, cq_latCharAt]) (T := ([], [], [], [(492, 0, 0), (495, 1, 1)], [], [])) (fuel := 400) (cuts := kq_charAt) (by decide) rfl ⟨rfl, rfl⟩ (List.forall_mem_cons.mpr ⟨h_isLatin1, (List.forall_mem_cons.mpr ⟨h_latCharAt, (fun _ h => absurd h List.not_mem_nil)⟩)⟩) ⟨(fun _ h => absurd h List.not_mem_nil), (fun _ h => absurd h List.not_mem_nil), (fun _ h => absurd h List.not_mem_nil), (List.forall_mem_cons.mpr ⟨mq_ml0 rfl mw0_isLatin1 kw_16, (List.forall_mem_cons.mpr ⟨mq_ml1 rfl mw1_latCharAt kw_20, (fun _ h => absurd h List.not_mem_nil)⟩)⟩), (fun _ h => absurd h List.not_mem_nil), (fun _ h => absurd h List.not_mem_nil)⟩ (by decide +kernel) ⟨_, _, rfl⟩ ?_ ?_ ?_ ?_
  · intro as ρ μ h
    obtain ⟨nw, sp, tl, tx, al⟩ := ρ
    obtain ⟨W, as0, rfl, h0⟩ := mq_pR_spec h
    clear h
    obtain ⟨i, as1, rfl, h1⟩ := mq_pI_spec h0
    clear h0
    obtain ⟨rfl, hp⟩ := mq_p0_spec h1
    clear h1
    obtain ⟨hp0, hp1⟩ := hp
    rfl
  · intro as ρ μ h
    obtain ⟨nw, sp, tl, tx, al⟩ := ρ
    obtain ⟨W, as0, rfl, h0⟩ := mq_pR_spec h
    clear h
    obtain ⟨i, as1, rfl, h1⟩ := mq_pI_spec h0
    clear h0
    obtain ⟨rfl, hp⟩ := mq_p0_spec h1
    clear h1
    obtain ⟨hp0, hp1⟩ := hp
    intro hrg
    obtain ⟨⟨ha1a, ha1b⟩, -⟩ := hrg
    intro hbk
    have e0 : mq_l0 ([.inr (.inr (some (99, W))), .inl i] : List mq_V) 2 = [some (.inr (.inr (some (99, W)))), some (.inl i)] := rfl
    rw [e0]
    repeat' (first | refine And.intro ?_ ?_ | intro _)
    all_goals first | omega | rfl | exact trivial | (have h9 := mq_sl_le W; omega) | (subst_vars; omega)
  · intro as ρ μ h
    obtain ⟨nw, sp, tl, tx, al⟩ := ρ
    obtain ⟨W, as0, rfl, h0⟩ := mq_pR_spec h
    clear h
    obtain ⟨i, as1, rfl, h1⟩ := mq_pI_spec h0
    clear h0
    obtain ⟨rfl, hp⟩ := mq_p0_spec h1
    clear h1
    obtain ⟨hp0, hp1⟩ := hp
    exact fun _ h => absurd h List.not_mem_nil
  · intro as ρ μ h
    obtain ⟨nw, sp, tl, tx, al⟩ := ρ
    obtain ⟨W, as0, rfl, h0⟩ := mq_pR_spec h
    clear h
    obtain ⟨i, as1, rfl, h1⟩ := mq_pI_spec h0
    clear h0
    obtain ⟨rfl, hp⟩ := mq_p0_spec h1
    clear h1
    obtain ⟨hp0, hp1⟩ := hp
    intro hrg
    obtain ⟨⟨ha1a, ha1b⟩, -⟩ := hrg
    exact fun _ h => absurd h List.not_mem_nil
theorem mw0_charAt : mq_mlA cq_charAt 0 := ⟨kw_408, ⟨by decide +kernel, by decide +kernel⟩, by decide +kernel, kw_409, kw_410, kw_4, 99, by decide +kernel, fun as ρ μ h => by obtain ⟨nw, sp, tl, tx, al⟩ := ρ; obtain ⟨i, t, e, _⟩ := mq_pR_spec h; exact ⟨i, t, e⟩⟩
def pq_bitCount : List mq_E := [(0, false, .iload 0), (1, false, .iload 0), (2, false, .iconst 1), (3, false, .iushr), (4, false, .iconst 1431655765), (7, false, .iand), (8, false, .fsub), (9, false, .istore 0), (10, false, .iload 0), (11, false, .iconst 858993459), (14, false, .iand), (15, false, .iload 0), (16, false, .iconst 2), (17, false, .iushr), (18, false, .iconst 858993459), (21, false, .iand), (22, false, .fadd), (23, false, .istore 0), (24, false, .iload 0), (25, false, .iload 0), (26, false, .iconst 4), (27, false, .iushr), (28, false, .fadd), (29, false, .iconst 252645135), (32, false, .iand), (33, false, .istore 0), (34, false, .iload 0), (35, false, .iload 0), (36, false, .iconst 8), (38, false, .iushr), (39, false, .fadd), (40, false, .istore 0), (41, false, .iload 0), (42, false, .iload 0), (43, false, .iconst 16), (45, false, .iushr), (46, false, .fadd), (47, false, .istore 0), (48, false, .iload 0), (49, false, .iconst 63), (51, false, .iand), (52, false, .ireturn)]
def cq_bitCount : mq_C := ((yJ6_bitCount_0f7a4, cJ6_bitCount_0f7a4, 1, (some .int), { frames := 0, cells := 0, slots := 0, locals := 0 }), (1, 1, 0, 0), 0, (fun as ρ μ => match ρ with
  | (nw, sp, tl, tx, al) => mq_pI as fun a as => mq_p0 as (True)),
  (fun as ρ μ r ρ' μ' => match as, ρ, ρ' with
  | [.inl a], (nw, sp, tl, tx, al), (nw', sp', tl', tx', al') => []
  | _, _, _ => []))
def kq_bitCount : List mq_V → mq_R → mq_M → List mq_Cu := fun as ρ μ => match as, ρ with
  | [.inl a], (nw, sp, tl, tx, al) => []
  | _, _ => []
set_option maxHeartbeats 16000000 in
set_option maxRecDepth 100000 in
theorem vq_bitCount (lc : Launch)  : mq_Ct lc cq_bitCount := by
  refine mq_method (lc := lc) (P := pq_bitCount) (cl := []) (T := ([], [(265, 1431655765), (266, 858993459), (267, 252645135)], [], [], [], [])) (fuel := 400) (cuts := kq_bitCount) (by decide) rfl ⟨rfl, rfl⟩ (fun _ h => absurd h List.not_mem_nil) ⟨(fun _ h => absurd h List.not_mem_nil), (List.forall_mem_cons.mpr ⟨kw_21, (List.forall_mem_cons.mpr ⟨kw_22, (List.forall_mem_cons.mpr ⟨kw_23, (fun _ h => absurd h List.not_mem_nil)⟩)⟩)⟩), (fun _ h => absurd h List.not_mem_nil), (fun _ h => absurd h List.not_mem_nil), (fun _ h => absurd h List.not_mem_nil), (fun _ h => absurd h List.not_mem_nil)⟩ (by decide +kernel) ⟨_, _, rfl⟩ ?_ ?_ ?_ ?_
  · intro as ρ μ h
    obtain ⟨nw, sp, tl, tx, al⟩ := ρ
    obtain ⟨a, as0, rfl, h0⟩ := mq_pI_spec h
    clear h
    obtain ⟨rfl, hp⟩ := mq_p0_spec h0
    clear h0
    rfl
  · intro as ρ μ h
    obtain ⟨nw, sp, tl, tx, al⟩ := ρ
    obtain ⟨a, as0, rfl, h0⟩ := mq_pI_spec h
    clear h
    obtain ⟨rfl, hp⟩ := mq_p0_spec h0
    clear h0
    intro hrg
    obtain ⟨⟨ha0a, ha0b⟩, -⟩ := hrg
    intro hbk
    have e0 : mq_l0 ([.inl a] : List mq_V) 1 = [some (.inl a)] := rfl
    rw [e0]
    repeat' (first | refine And.intro ?_ ?_ | intro _)
    all_goals first | omega | rfl | exact trivial | (simp [mq_up] at * <;> omega)
  · intro as ρ μ h
    obtain ⟨nw, sp, tl, tx, al⟩ := ρ
    obtain ⟨a, as0, rfl, h0⟩ := mq_pI_spec h
    clear h
    obtain ⟨rfl, hp⟩ := mq_p0_spec h0
    clear h0
    exact fun _ h => absurd h List.not_mem_nil
  · intro as ρ μ h
    obtain ⟨nw, sp, tl, tx, al⟩ := ρ
    obtain ⟨a, as0, rfl, h0⟩ := mq_pI_spec h
    clear h
    obtain ⟨rfl, hp⟩ := mq_p0_spec h0
    clear h0
    intro hrg
    obtain ⟨⟨ha0a, ha0b⟩, -⟩ := hrg
    exact fun _ h => absurd h List.not_mem_nil
theorem mw1_bitCount : mq_mlA cq_bitCount 1 := ⟨kw_69, ⟨by decide +kernel, by decide +kernel⟩, by decide +kernel, kw_70, kw_71⟩
def pq_fill35 : List mq_E := [(0, false, .iconst 0), (1, false, .istore 2), (2, false, .aload 0), (3, false, .arraylength), (4, false, .istore 3), (5, true, .iload 2), (6, false, .iload 3), (7, false, .if_icmp .ge (Int.ofNat 20)), (10, false, .aload 0), (11, false, .iload 2), (12, false, .iload 1), (13, false, .iastore), (14, false, .iinc 2 1), (17, false, .goto (Int.ofNat 5)), (20, false, .return_)]
def cq_fill35 : mq_C := ((yJ7_fill_53178, cJ7_fill_53178, 4, none, { frames := 0, cells := 0, slots := 0, locals := 0 }), (2, 0, 0, 0), 34359738368, (fun as ρ μ => match ρ with
  | (nw, sp, tl, tx, al) => mq_pZ as 35 fun as => mq_pI as fun a as => mq_p0 as (True)),
  (fun as ρ μ r ρ' μ' => match as, ρ, ρ' with
  | [.inr (.inr (some (_, _))), .inl a], (nw, sp, tl, tx, al), (nw', sp', tl', tx', al') => []
  | _, _, _ => []))
def kq_fill35 : List mq_V → mq_R → mq_M → List mq_Cu := fun as ρ μ => match as, ρ with
  | [.inr (.inr (some (_, _))), .inl a], (nw, sp, tl, tx, al) => [(5, [true, true, true, true], fun N l st ρ' μ' cs => mq_tZ l 35 fun l => mq_tI l fun v1 l => mq_tI l fun v2 l => mq_tI l fun v3 l => mq_t0 l (st = [] ∧ ρ' = (nw, sp, tl, tx, al) ∧ cs = 0 ∧ v1 = a ∧ 0 ≤ v2 ∧ v3 = 6416 ∧ v2 ≤ 6416 ∧ 0 ≤ (6416 - v2 : Int) ∧ (6416 - v2 : Int) < (N : Int)))]
  | _, _ => []
set_option maxHeartbeats 16000000 in
set_option maxRecDepth 100000 in
theorem vq_fill35 (lc : Launch)  : mq_Ct lc cq_fill35 := by
  refine mq_method (lc := lc) (P := pq_fill35) (cl := []) (T := ([], [], [], [], [], [])) (fuel := 400) (cuts := kq_fill35) (by decide) rfl ⟨rfl, rfl⟩ (fun _ h => absurd h List.not_mem_nil) ⟨(fun _ h => absurd h List.not_mem_nil), (fun _ h => absurd h List.not_mem_nil), (fun _ h => absurd h List.not_mem_nil), (fun _ h => absurd h List.not_mem_nil), (fun _ h => absurd h List.not_mem_nil), (fun _ h => absurd h List.not_mem_nil)⟩ (by decide +kernel) ⟨_, _, rfl⟩ ?_ ?_ ?_ ?_
  · intro as ρ μ h
    obtain ⟨nw, sp, tl, tx, al⟩ := ρ
    obtain ⟨as0, rfl, h0⟩ := mq_pZ_spec h
    clear h
    obtain ⟨a, as1, rfl, h1⟩ := mq_pI_spec h0
    clear h0
    obtain ⟨rfl, hp⟩ := mq_p0_spec h1
    clear h1
    rfl
  · intro as ρ μ h
    obtain ⟨nw, sp, tl, tx, al⟩ := ρ
    obtain ⟨as0, rfl, h0⟩ := mq_pZ_spec h
    clear h
    obtain ⟨a, as1, rfl, h1⟩ := mq_pI_spec h0
    clear h0
    obtain ⟨rfl, hp⟩ := mq_p0_spec h1
    clear h1
    intro hrg
    obtain ⟨⟨ha1a, ha1b⟩, -⟩ := hrg
    intro hbk
    have e0 : mq_l0 ([.inr (.inr (some (35, 0))), .inl a] : List mq_V) 4 = [some (.inr (.inr (some (35, 0)))), some (.inl a), none, none] := rfl
    rw [e0]
    repeat' (first | refine And.intro ?_ ?_ | intro _)
    all_goals first | omega | rfl | exact trivial | (simp [mq_up] at * <;> omega)
  · intro as ρ μ h
    obtain ⟨nw, sp, tl, tx, al⟩ := ρ
    obtain ⟨as0, rfl, h0⟩ := mq_pZ_spec h
    clear h
    obtain ⟨a, as1, rfl, h1⟩ := mq_pI_spec h0
    clear h0
    obtain ⟨rfl, hp⟩ := mq_p0_spec h1
    clear h1
    refine List.forall_mem_cons.mpr ⟨?_, ?_⟩
    · intro l st ρ' μ' cs hJ
      obtain ⟨l0, rfl, hJ0⟩ := mq_tZ_spec hJ
      clear hJ
      obtain ⟨v1, l1, rfl, hJ1⟩ := mq_tI_spec hJ0
      clear hJ0
      obtain ⟨v2, l2, rfl, hJ2⟩ := mq_tI_spec hJ1
      clear hJ1
      obtain ⟨v3, l3, rfl, hJ3⟩ := mq_tI_spec hJ2
      clear hJ2
      obtain ⟨rfl, hJz⟩ := mq_t0_spec hJ3
      clear hJ3
      obtain ⟨rfl, rfl, rfl, hc0, hc1, hc2, hc3, hm0, hm1⟩ := hJz
      omega
    exact fun _ h => absurd h List.not_mem_nil
  · intro as ρ μ h
    obtain ⟨nw, sp, tl, tx, al⟩ := ρ
    obtain ⟨as0, rfl, h0⟩ := mq_pZ_spec h
    clear h
    obtain ⟨a, as1, rfl, h1⟩ := mq_pI_spec h0
    clear h0
    obtain ⟨rfl, hp⟩ := mq_p0_spec h1
    clear h1
    intro hrg
    obtain ⟨⟨ha1a, ha1b⟩, -⟩ := hrg
    refine List.forall_mem_cons.mpr ⟨?_, ?_⟩
    · intro N l st ρ' μ' cs hJ
      obtain ⟨l0, rfl, hJ0⟩ := mq_tZ_spec hJ
      clear hJ
      obtain ⟨v1, l1, rfl, hJ1⟩ := mq_tI_spec hJ0
      clear hJ0
      obtain ⟨v2, l2, rfl, hJ2⟩ := mq_tI_spec hJ1
      clear hJ1
      obtain ⟨v3, l3, rfl, hJ3⟩ := mq_tI_spec hJ2
      clear hJ2
      obtain ⟨rfl, hJz⟩ := mq_t0_spec hJ3
      clear hJ3
      obtain ⟨rfl, rfl, rfl, hc0, hc1, hc2, hc3, hm0, hm1⟩ := hJz
      intro hbk hrl
      obtain ⟨⟨hl1a, hl1b⟩, ⟨hl2a, hl2b⟩, ⟨hl3a, hl3b⟩, -⟩ := hrl
      repeat' (first | refine And.intro ?_ ?_ | intro _)
      all_goals first | omega | rfl | exact trivial | (simp [mq_up] at * <;> omega)
    exact fun _ h => absurd h List.not_mem_nil
theorem mw1_fill35 : mq_mlA cq_fill35 1 := ⟨kw_191, ⟨by decide +kernel, by decide +kernel⟩, by decide +kernel, kw_192, kw_78⟩
def pq_fill36 : List mq_E := [(0, false, .iconst 0), (1, false, .istore 2), (2, false, .aload 0), (3, false, .arraylength), (4, false, .istore 3), (5, true, .iload 2), (6, false, .iload 3), (7, false, .if_icmp .ge (Int.ofNat 20)), (10, false, .aload 0), (11, false, .iload 2), (12, false, .iload 1), (13, false, .iastore), (14, false, .iinc 2 1), (17, false, .goto (Int.ofNat 5)), (20, false, .return_)]
def cq_fill36 : mq_C := ((yJ7_fill_53178, cJ7_fill_53178, 4, none, { frames := 0, cells := 0, slots := 0, locals := 0 }), (2, 0, 0, 0), 68719476736, (fun as ρ μ => match ρ with
  | (nw, sp, tl, tx, al) => mq_pZ as 36 fun as => mq_pI as fun a as => mq_p0 as (True)),
  (fun as ρ μ r ρ' μ' => match as, ρ, ρ' with
  | [.inr (.inr (some (_, _))), .inl a], (nw, sp, tl, tx, al), (nw', sp', tl', tx', al') => []
  | _, _, _ => []))
def kq_fill36 : List mq_V → mq_R → mq_M → List mq_Cu := fun as ρ μ => match as, ρ with
  | [.inr (.inr (some (_, _))), .inl a], (nw, sp, tl, tx, al) => [(5, [true, true, true, true], fun N l st ρ' μ' cs => mq_tZ l 36 fun l => mq_tI l fun v1 l => mq_tI l fun v2 l => mq_tI l fun v3 l => mq_t0 l (st = [] ∧ ρ' = (nw, sp, tl, tx, al) ∧ cs = 0 ∧ v1 = a ∧ 0 ≤ v2 ∧ v3 = 401 ∧ v2 ≤ 401 ∧ 0 ≤ (401 - v2 : Int) ∧ (401 - v2 : Int) < (N : Int)))]
  | _, _ => []
set_option maxHeartbeats 16000000 in
set_option maxRecDepth 100000 in
theorem vq_fill36 (lc : Launch)  : mq_Ct lc cq_fill36 := by
  refine mq_method (lc := lc) (P := pq_fill36) (cl := []) (T := ([], [], [], [], [], [])) (fuel := 400) (cuts := kq_fill36) (by decide) rfl ⟨rfl, rfl⟩ (fun _ h => absurd h List.not_mem_nil) ⟨(fun _ h => absurd h List.not_mem_nil), (fun _ h => absurd h List.not_mem_nil), (fun _ h => absurd h List.not_mem_nil), (fun _ h => absurd h List.not_mem_nil), (fun _ h => absurd h List.not_mem_nil), (fun _ h => absurd h List.not_mem_nil)⟩ (by decide +kernel) ⟨_, _, rfl⟩ ?_ ?_ ?_ ?_
  · intro as ρ μ h
    obtain ⟨nw, sp, tl, tx, al⟩ := ρ
    obtain ⟨as0, rfl, h0⟩ := mq_pZ_spec h
    clear h
    obtain ⟨a, as1, rfl, h1⟩ := mq_pI_spec h0
    clear h0
    obtain ⟨rfl, hp⟩ := mq_p0_spec h1
    clear h1
    rfl
  · intro as ρ μ h
    obtain ⟨nw, sp, tl, tx, al⟩ := ρ
    obtain ⟨as0, rfl, h0⟩ := mq_pZ_spec h
    clear h
    obtain ⟨a, as1, rfl, h1⟩ := mq_pI_spec h0
    clear h0
    obtain ⟨rfl, hp⟩ := mq_p0_spec h1
    clear h1
    intro hrg
    obtain ⟨⟨ha1a, ha1b⟩, -⟩ := hrg
    intro hbk
    have e0 : mq_l0 ([.inr (.inr (some (36, 0))), .inl a] : List mq_V) 4 = [some (.inr (.inr (some (36, 0)))), some (.inl a), none, none] := rfl
    rw [e0]
    repeat' (first | refine And.intro ?_ ?_ | intro _)
    all_goals first | omega | rfl | exact trivial | (simp [mq_up] at * <;> omega)
  · intro as ρ μ h
    obtain ⟨nw, sp, tl, tx, al⟩ := ρ
    obtain ⟨as0, rfl, h0⟩ := mq_pZ_spec h
    clear h
    obtain ⟨a, as1, rfl, h1⟩ := mq_pI_spec h0
    clear h0
    obtain ⟨rfl, hp⟩ := mq_p0_spec h1
    clear h1
    refine List.forall_mem_cons.mpr ⟨?_, ?_⟩
    · intro l st ρ' μ' cs hJ
      obtain ⟨l0, rfl, hJ0⟩ := mq_tZ_spec hJ
      clear hJ
      obtain ⟨v1, l1, rfl, hJ1⟩ := mq_tI_spec hJ0
      clear hJ0
      obtain ⟨v2, l2, rfl, hJ2⟩ := mq_tI_spec hJ1
      clear hJ1
      obtain ⟨v3, l3, rfl, hJ3⟩ := mq_tI_spec hJ2
      clear hJ2
      obtain ⟨rfl, hJz⟩ := mq_t0_spec hJ3
      clear hJ3
      obtain ⟨rfl, rfl, rfl, hc0, hc1, hc2, hc3, hm0, hm1⟩ := hJz
      omega
    exact fun _ h => absurd h List.not_mem_nil
  · intro as ρ μ h
    obtain ⟨nw, sp, tl, tx, al⟩ := ρ
    obtain ⟨as0, rfl, h0⟩ := mq_pZ_spec h
    clear h
    obtain ⟨a, as1, rfl, h1⟩ := mq_pI_spec h0
    clear h0
    obtain ⟨rfl, hp⟩ := mq_p0_spec h1
    clear h1
    intro hrg
    obtain ⟨⟨ha1a, ha1b⟩, -⟩ := hrg
    refine List.forall_mem_cons.mpr ⟨?_, ?_⟩
    · intro N l st ρ' μ' cs hJ
      obtain ⟨l0, rfl, hJ0⟩ := mq_tZ_spec hJ
      clear hJ
      obtain ⟨v1, l1, rfl, hJ1⟩ := mq_tI_spec hJ0
      clear hJ0
      obtain ⟨v2, l2, rfl, hJ2⟩ := mq_tI_spec hJ1
      clear hJ1
      obtain ⟨v3, l3, rfl, hJ3⟩ := mq_tI_spec hJ2
      clear hJ2
      obtain ⟨rfl, hJz⟩ := mq_t0_spec hJ3
      clear hJ3
      obtain ⟨rfl, rfl, rfl, hc0, hc1, hc2, hc3, hm0, hm1⟩ := hJz
      intro hbk hrl
      obtain ⟨⟨hl1a, hl1b⟩, ⟨hl2a, hl2b⟩, ⟨hl3a, hl3b⟩, -⟩ := hrl
      repeat' (first | refine And.intro ?_ ?_ | intro _)
      all_goals first | omega | rfl | exact trivial | (simp [mq_up] at * <;> omega)
    exact fun _ h => absurd h List.not_mem_nil
theorem mw1_fill36 : mq_mlA cq_fill36 1 := ⟨kw_191, ⟨by decide +kernel, by decide +kernel⟩, by decide +kernel, kw_192, kw_78⟩
def pq_fill48 : List mq_E := [(0, false, .iconst 0), (1, false, .istore 2), (2, false, .aload 0), (3, false, .arraylength), (4, false, .istore 3), (5, true, .iload 2), (6, false, .iload 3), (7, false, .if_icmp .ge (Int.ofNat 20)), (10, false, .aload 0), (11, false, .iload 2), (12, false, .iload 1), (13, false, .iastore), (14, false, .iinc 2 1), (17, false, .goto (Int.ofNat 5)), (20, false, .return_)]
def cq_fill48 : mq_C := ((yJ7_fill_53178, cJ7_fill_53178, 4, none, { frames := 0, cells := 0, slots := 0, locals := 0 }), (2, 0, 0, 0), 281474976710656, (fun as ρ μ => match ρ with
  | (nw, sp, tl, tx, al) => mq_pZ as 48 fun as => mq_pI as fun a as => mq_p0 as (True)),
  (fun as ρ μ r ρ' μ' => match as, ρ, ρ' with
  | [.inr (.inr (some (_, _))), .inl a], (nw, sp, tl, tx, al), (nw', sp', tl', tx', al') => []
  | _, _, _ => []))
def kq_fill48 : List mq_V → mq_R → mq_M → List mq_Cu := fun as ρ μ => match as, ρ with
  | [.inr (.inr (some (_, _))), .inl a], (nw, sp, tl, tx, al) => [(5, [true, true, true, true], fun N l st ρ' μ' cs => mq_tZ l 48 fun l => mq_tI l fun v1 l => mq_tI l fun v2 l => mq_tI l fun v3 l => mq_t0 l (st = [] ∧ ρ' = (nw, sp, tl, tx, al) ∧ cs = 0 ∧ v1 = a ∧ 0 ≤ v2 ∧ v3 = 16 ∧ v2 ≤ 16 ∧ 0 ≤ (16 - v2 : Int) ∧ (16 - v2 : Int) < (N : Int)))]
  | _, _ => []
set_option maxHeartbeats 16000000 in
set_option maxRecDepth 100000 in
theorem vq_fill48 (lc : Launch)  : mq_Ct lc cq_fill48 := by
  refine mq_method (lc := lc) (P := pq_fill48) (cl := []) (T := ([], [], [], [], [], [])) (fuel := 400) (cuts := kq_fill48) (by decide) rfl ⟨rfl, rfl⟩ (fun _ h => absurd h List.not_mem_nil) ⟨(fun _ h => absurd h List.not_mem_nil), (fun _ h => absurd h List.not_mem_nil), (fun _ h => absurd h List.not_mem_nil), (fun _ h => absurd h List.not_mem_nil), (fun _ h => absurd h List.not_mem_nil), (fun _ h => absurd h List.not_mem_nil)⟩ (by decide +kernel) ⟨_, _, rfl⟩ ?_ ?_ ?_ ?_
  · intro as ρ μ h
    obtain ⟨nw, sp, tl, tx, al⟩ := ρ
    obtain ⟨as0, rfl, h0⟩ := mq_pZ_spec h
    clear h
    obtain ⟨a, as1, rfl, h1⟩ := mq_pI_spec h0
    clear h0
    obtain ⟨rfl, hp⟩ := mq_p0_spec h1
    clear h1
    rfl
  · intro as ρ μ h
    obtain ⟨nw, sp, tl, tx, al⟩ := ρ
    obtain ⟨as0, rfl, h0⟩ := mq_pZ_spec h
    clear h
    obtain ⟨a, as1, rfl, h1⟩ := mq_pI_spec h0
    clear h0
    obtain ⟨rfl, hp⟩ := mq_p0_spec h1
    clear h1
    intro hrg
    obtain ⟨⟨ha1a, ha1b⟩, -⟩ := hrg
    intro hbk
    have e0 : mq_l0 ([.inr (.inr (some (48, 0))), .inl a] : List mq_V) 4 = [some (.inr (.inr (some (48, 0)))), some (.inl a), none, none] := rfl
    rw [e0]
    repeat' (first | refine And.intro ?_ ?_ | intro _)
    all_goals first | omega | rfl | exact trivial | (simp [mq_up] at * <;> omega)
  · intro as ρ μ h
    obtain ⟨nw, sp, tl, tx, al⟩ := ρ
    obtain ⟨as0, rfl, h0⟩ := mq_pZ_spec h
    clear h
    obtain ⟨a, as1, rfl, h1⟩ := mq_pI_spec h0
    clear h0
    obtain ⟨rfl, hp⟩ := mq_p0_spec h1
    clear h1
    refine List.forall_mem_cons.mpr ⟨?_, ?_⟩
    · intro l st ρ' μ' cs hJ
      obtain ⟨l0, rfl, hJ0⟩ := mq_tZ_spec hJ
      clear hJ
      obtain ⟨v1, l1, rfl, hJ1⟩ := mq_tI_spec hJ0
      clear hJ0
      obtain ⟨v2, l2, rfl, hJ2⟩ := mq_tI_spec hJ1
      clear hJ1
      obtain ⟨v3, l3, rfl, hJ3⟩ := mq_tI_spec hJ2
      clear hJ2
      obtain ⟨rfl, hJz⟩ := mq_t0_spec hJ3
      clear hJ3
      obtain ⟨rfl, rfl, rfl, hc0, hc1, hc2, hc3, hm0, hm1⟩ := hJz
      omega
    exact fun _ h => absurd h List.not_mem_nil
  · intro as ρ μ h
    obtain ⟨nw, sp, tl, tx, al⟩ := ρ
    obtain ⟨as0, rfl, h0⟩ := mq_pZ_spec h
    clear h
    obtain ⟨a, as1, rfl, h1⟩ := mq_pI_spec h0
    clear h0
    obtain ⟨rfl, hp⟩ := mq_p0_spec h1
    clear h1
    intro hrg
    obtain ⟨⟨ha1a, ha1b⟩, -⟩ := hrg
    refine List.forall_mem_cons.mpr ⟨?_, ?_⟩
    · intro N l st ρ' μ' cs hJ
      obtain ⟨l0, rfl, hJ0⟩ := mq_tZ_spec hJ
      clear hJ
      obtain ⟨v1, l1, rfl, hJ1⟩ := mq_tI_spec hJ0
      clear hJ0
      obtain ⟨v2, l2, rfl, hJ2⟩ := mq_tI_spec hJ1
      clear hJ1
      obtain ⟨v3, l3, rfl, hJ3⟩ := mq_tI_spec hJ2
      clear hJ2
      obtain ⟨rfl, hJz⟩ := mq_t0_spec hJ3
      clear hJ3
      obtain ⟨rfl, rfl, rfl, hc0, hc1, hc2, hc3, hm0, hm1⟩ := hJz
      intro hbk hrl
      obtain ⟨⟨hl1a, hl1b⟩, ⟨hl2a, hl2b⟩, ⟨hl3a, hl3b⟩, -⟩ := hrl
      repeat' (first | refine And.intro ?_ ?_ | intro _)
      all_goals first | omega | rfl | exact trivial | (simp [mq_up] at * <;> omega)
    exact fun _ h => absurd h List.not_mem_nil
theorem mw1_fill48 : mq_mlA cq_fill48 1 := ⟨kw_191, ⟨by decide +kernel, by decide +kernel⟩, by decide +kernel, kw_192, kw_78⟩
def pq_fill1 : List mq_E := [(0, false, .iconst 0), (1, false, .istore 2), (2, false, .aload 0), (3, false, .arraylength), (4, false, .istore 3), (5, true, .iload 2), (6, false, .iload 3), (7, false, .if_icmp .ge (Int.ofNat 20)), (10, false, .aload 0), (11, false, .iload 2), (12, false, .iload 1), (13, false, .bastore), (14, false, .iinc 2 1), (17, false, .goto (Int.ofNat 5)), (20, false, .return_)]
def cq_fill1 : mq_C := ((yJ7_fill_031fb, cJ7_fill_031fb, 4, none, { frames := 0, cells := 0, slots := 0, locals := 0 }), (2, 0, 0, 0), 2, (fun as ρ μ => match ρ with
  | (nw, sp, tl, tx, al) => mq_pR as 1 fun T as => mq_pI as fun a as => mq_p0 as (-1 ≤ a ∧ a ≤ 3)),
  (fun as ρ μ r ρ' μ' => match as, ρ, ρ' with
  | [.inr (.inr (some (_, T))), .inl a], (nw, sp, tl, tx, al), (nw', sp', tl', tx', al') => []
  | _, _, _ => []))
def kq_fill1 : List mq_V → mq_R → mq_M → List mq_Cu := fun as ρ μ => match as, ρ with
  | [.inr (.inr (some (_, T))), .inl a], (nw, sp, tl, tx, al) => [(5, [true, true, true, true], fun N l st ρ' μ' cs => mq_tR l 1 fun L0 l => mq_tI l fun v1 l => mq_tI l fun v2 l => mq_tI l fun v3 l => mq_t0 l (st = [] ∧ ρ' = (nw, sp, tl, tx, al) ∧ cs = 0 ∧ L0 = T ∧ v1 = a ∧ 0 ≤ v2 ∧ v3 = 6416 ∧ v2 ≤ 6416 ∧ 0 ≤ (6416 - v2 : Int) ∧ (6416 - v2 : Int) < (N : Int)))]
  | _, _ => []
set_option maxHeartbeats 16000000 in
set_option maxRecDepth 100000 in
theorem vq_fill1 (lc : Launch)  : mq_Ct lc cq_fill1 := by
  refine mq_method (lc := lc) (P := pq_fill1) (cl := []) (T := ([], [], [], [], [], [])) (fuel := 400) (cuts := kq_fill1) (by decide) rfl ⟨rfl, rfl⟩ (fun _ h => absurd h List.not_mem_nil) ⟨(fun _ h => absurd h List.not_mem_nil), (fun _ h => absurd h List.not_mem_nil), (fun _ h => absurd h List.not_mem_nil), (fun _ h => absurd h List.not_mem_nil), (fun _ h => absurd h List.not_mem_nil), (fun _ h => absurd h List.not_mem_nil)⟩ (by decide +kernel) ⟨_, _, rfl⟩ ?_ ?_ ?_ ?_
  · intro as ρ μ h
    obtain ⟨nw, sp, tl, tx, al⟩ := ρ
    obtain ⟨T, as0, rfl, h0⟩ := mq_pR_spec h
    clear h
    obtain ⟨a, as1, rfl, h1⟩ := mq_pI_spec h0
    clear h0
    obtain ⟨rfl, hp⟩ := mq_p0_spec h1
    clear h1
    obtain ⟨hp0, hp1⟩ := hp
    rfl
  · intro as ρ μ h
    obtain ⟨nw, sp, tl, tx, al⟩ := ρ
    obtain ⟨T, as0, rfl, h0⟩ := mq_pR_spec h
    clear h
    obtain ⟨a, as1, rfl, h1⟩ := mq_pI_spec h0
    clear h0
    obtain ⟨rfl, hp⟩ := mq_p0_spec h1
    clear h1
    obtain ⟨hp0, hp1⟩ := hp
    intro hrg
    obtain ⟨⟨ha1a, ha1b⟩, -⟩ := hrg
    intro hbk
    have e0 : mq_l0 ([.inr (.inr (some (1, T))), .inl a] : List mq_V) 4 = [some (.inr (.inr (some (1, T)))), some (.inl a), none, none] := rfl
    rw [e0]
    repeat' (first | refine And.intro ?_ ?_ | intro _)
    all_goals first | omega | rfl | exact trivial | (simp [mq_up] at * <;> omega)
  · intro as ρ μ h
    obtain ⟨nw, sp, tl, tx, al⟩ := ρ
    obtain ⟨T, as0, rfl, h0⟩ := mq_pR_spec h
    clear h
    obtain ⟨a, as1, rfl, h1⟩ := mq_pI_spec h0
    clear h0
    obtain ⟨rfl, hp⟩ := mq_p0_spec h1
    clear h1
    obtain ⟨hp0, hp1⟩ := hp
    refine List.forall_mem_cons.mpr ⟨?_, ?_⟩
    · intro l st ρ' μ' cs hJ
      obtain ⟨L0, l0, rfl, hJ0⟩ := mq_tR_spec hJ
      clear hJ
      obtain ⟨v1, l1, rfl, hJ1⟩ := mq_tI_spec hJ0
      clear hJ0
      obtain ⟨v2, l2, rfl, hJ2⟩ := mq_tI_spec hJ1
      clear hJ1
      obtain ⟨v3, l3, rfl, hJ3⟩ := mq_tI_spec hJ2
      clear hJ2
      obtain ⟨rfl, hJz⟩ := mq_t0_spec hJ3
      clear hJ3
      obtain ⟨rfl, rfl, rfl, rfl, hc1, hc2, hc3, hc4, hm0, hm1⟩ := hJz
      omega
    exact fun _ h => absurd h List.not_mem_nil
  · intro as ρ μ h
    obtain ⟨nw, sp, tl, tx, al⟩ := ρ
    obtain ⟨T, as0, rfl, h0⟩ := mq_pR_spec h
    clear h
    obtain ⟨a, as1, rfl, h1⟩ := mq_pI_spec h0
    clear h0
    obtain ⟨rfl, hp⟩ := mq_p0_spec h1
    clear h1
    obtain ⟨hp0, hp1⟩ := hp
    intro hrg
    obtain ⟨⟨ha1a, ha1b⟩, -⟩ := hrg
    refine List.forall_mem_cons.mpr ⟨?_, ?_⟩
    · intro N l st ρ' μ' cs hJ
      obtain ⟨L0, l0, rfl, hJ0⟩ := mq_tR_spec hJ
      clear hJ
      obtain ⟨v1, l1, rfl, hJ1⟩ := mq_tI_spec hJ0
      clear hJ0
      obtain ⟨v2, l2, rfl, hJ2⟩ := mq_tI_spec hJ1
      clear hJ1
      obtain ⟨v3, l3, rfl, hJ3⟩ := mq_tI_spec hJ2
      clear hJ2
      obtain ⟨rfl, hJz⟩ := mq_t0_spec hJ3
      clear hJ3
      obtain ⟨rfl, rfl, rfl, rfl, hc1, hc2, hc3, hc4, hm0, hm1⟩ := hJz
      intro hbk hrl
      obtain ⟨⟨hl1a, hl1b⟩, ⟨hl2a, hl2b⟩, ⟨hl3a, hl3b⟩, -⟩ := hrl
      repeat' (first | refine And.intro ?_ ?_ | intro _)
      all_goals first | omega | rfl | exact trivial | (simp [mq_up] at * <;> omega)
    exact fun _ h => absurd h List.not_mem_nil
theorem mw1_fill1 : mq_mlA cq_fill1 1 := ⟨kw_148, ⟨by decide +kernel, by decide +kernel⟩, by decide +kernel, kw_149, kw_78⟩
def pq_fill18 : List mq_E := [(0, false, .iconst 0), (1, false, .istore 3), (2, false, .aload 0), (3, false, .arraylength), (4, false, .istore 4), (6, true, .iload 3), (7, false, .iload 4), (9, false, .if_icmp .ge (Int.ofNat 22)), (12, false, .aload 0), (13, false, .iload 3), (14, false, .lload 1), (15, false, .lastore), (16, false, .iinc 3 1), (19, false, .goto (Int.ofNat 6)), (22, false, .return_)]
def cq_fill18 : mq_C := ((yJ7_fill_d0a16, cJ7_fill_d0a16, 5, none, { frames := 0, cells := 0, slots := 0, locals := 0 }), (2, 0, 0, 0), 262144, (fun as ρ μ => match ρ with
  | (nw, sp, tl, tx, al) => mq_pR as 18 fun S as => mq_pL as fun a as => mq_p0 as (True)),
  (fun as ρ μ r ρ' μ' => match as, ρ, ρ' with
  | [.inr (.inr (some (_, S))), .inr (.inl a)], (nw, sp, tl, tx, al), (nw', sp', tl', tx', al') => []
  | _, _, _ => []))
def kq_fill18 : List mq_V → mq_R → mq_M → List mq_Cu := fun as ρ μ => match as, ρ with
  | [.inr (.inr (some (_, S))), .inr (.inl a)], (nw, sp, tl, tx, al) => [(6, [true, true, false, true, true], fun N l st ρ' μ' cs => mq_tR l 18 fun L0 l => mq_tL l fun v1 l => mq_tN l fun l => mq_tI l fun v3 l => mq_tI l fun v4 l => mq_t0 l (st = [] ∧ ρ' = (nw, sp, tl, tx, al) ∧ cs = 0 ∧ L0 = S ∧ v1 = a ∧ 0 ≤ v3 ∧ v4 = 60 ∧ v3 ≤ 60 ∧ 0 ≤ (60 - v3 : Int) ∧ (60 - v3 : Int) < (N : Int)))]
  | _, _ => []
set_option maxHeartbeats 16000000 in
set_option maxRecDepth 100000 in
theorem vq_fill18 (lc : Launch)  : mq_Ct lc cq_fill18 := by
  refine mq_method (lc := lc) (P := pq_fill18) (cl := []) (T := ([], [], [], [], [], [])) (fuel := 400) (cuts := kq_fill18) (by decide) rfl ⟨rfl, rfl⟩ (fun _ h => absurd h List.not_mem_nil) ⟨(fun _ h => absurd h List.not_mem_nil), (fun _ h => absurd h List.not_mem_nil), (fun _ h => absurd h List.not_mem_nil), (fun _ h => absurd h List.not_mem_nil), (fun _ h => absurd h List.not_mem_nil), (fun _ h => absurd h List.not_mem_nil)⟩ (by decide +kernel) ⟨_, _, rfl⟩ ?_ ?_ ?_ ?_
  · intro as ρ μ h
    obtain ⟨nw, sp, tl, tx, al⟩ := ρ
    obtain ⟨S, as0, rfl, h0⟩ := mq_pR_spec h
    clear h
    obtain ⟨a, as1, rfl, h1⟩ := mq_pL_spec h0
    clear h0
    obtain ⟨rfl, hp⟩ := mq_p0_spec h1
    clear h1
    rfl
  · intro as ρ μ h
    obtain ⟨nw, sp, tl, tx, al⟩ := ρ
    obtain ⟨S, as0, rfl, h0⟩ := mq_pR_spec h
    clear h
    obtain ⟨a, as1, rfl, h1⟩ := mq_pL_spec h0
    clear h0
    obtain ⟨rfl, hp⟩ := mq_p0_spec h1
    clear h1
    intro hrg
    obtain ⟨⟨ha1a, ha1b⟩, -⟩ := hrg
    intro hbk
    have e0 : mq_l0 ([.inr (.inr (some (18, S))), .inr (.inl a)] : List mq_V) 5 = [some (.inr (.inr (some (18, S)))), some (.inr (.inl a)), none, none, none] := rfl
    rw [e0]
    repeat' (first | refine And.intro ?_ ?_ | intro _)
    all_goals first | omega | rfl | exact trivial | (simp [mq_up] at * <;> omega)
  · intro as ρ μ h
    obtain ⟨nw, sp, tl, tx, al⟩ := ρ
    obtain ⟨S, as0, rfl, h0⟩ := mq_pR_spec h
    clear h
    obtain ⟨a, as1, rfl, h1⟩ := mq_pL_spec h0
    clear h0
    obtain ⟨rfl, hp⟩ := mq_p0_spec h1
    clear h1
    refine List.forall_mem_cons.mpr ⟨?_, ?_⟩
    · intro l st ρ' μ' cs hJ
      obtain ⟨L0, l0, rfl, hJ0⟩ := mq_tR_spec hJ
      clear hJ
      obtain ⟨v1, l1, rfl, hJ1⟩ := mq_tL_spec hJ0
      clear hJ0
      obtain ⟨l2, rfl, hJ2⟩ := mq_tN_spec hJ1
      clear hJ1
      obtain ⟨v3, l3, rfl, hJ3⟩ := mq_tI_spec hJ2
      clear hJ2
      obtain ⟨v4, l4, rfl, hJ4⟩ := mq_tI_spec hJ3
      clear hJ3
      obtain ⟨rfl, hJz⟩ := mq_t0_spec hJ4
      clear hJ4
      obtain ⟨rfl, rfl, rfl, rfl, hc1, hc2, hc3, hc4, hm0, hm1⟩ := hJz
      omega
    exact fun _ h => absurd h List.not_mem_nil
  · intro as ρ μ h
    obtain ⟨nw, sp, tl, tx, al⟩ := ρ
    obtain ⟨S, as0, rfl, h0⟩ := mq_pR_spec h
    clear h
    obtain ⟨a, as1, rfl, h1⟩ := mq_pL_spec h0
    clear h0
    obtain ⟨rfl, hp⟩ := mq_p0_spec h1
    clear h1
    intro hrg
    obtain ⟨⟨ha1a, ha1b⟩, -⟩ := hrg
    refine List.forall_mem_cons.mpr ⟨?_, ?_⟩
    · intro N l st ρ' μ' cs hJ
      obtain ⟨L0, l0, rfl, hJ0⟩ := mq_tR_spec hJ
      clear hJ
      obtain ⟨v1, l1, rfl, hJ1⟩ := mq_tL_spec hJ0
      clear hJ0
      obtain ⟨l2, rfl, hJ2⟩ := mq_tN_spec hJ1
      clear hJ1
      obtain ⟨v3, l3, rfl, hJ3⟩ := mq_tI_spec hJ2
      clear hJ2
      obtain ⟨v4, l4, rfl, hJ4⟩ := mq_tI_spec hJ3
      clear hJ3
      obtain ⟨rfl, hJz⟩ := mq_t0_spec hJ4
      clear hJ4
      obtain ⟨rfl, rfl, rfl, rfl, hc1, hc2, hc3, hc4, hm0, hm1⟩ := hJz
      intro hbk hrl
      obtain ⟨⟨hl1a, hl1b⟩, ⟨hl3a, hl3b⟩, ⟨hl4a, hl4b⟩, -⟩ := hrl
      repeat' (first | refine And.intro ?_ ?_ | intro _)
      all_goals first | omega | rfl | exact trivial | (simp [mq_up] at * <;> omega)
    exact fun _ h => absurd h List.not_mem_nil
theorem mw1_fill18 : mq_mlA cq_fill18 1 := ⟨kw_76, ⟨by decide +kernel, by decide +kernel⟩, by decide +kernel, kw_77, kw_78⟩
