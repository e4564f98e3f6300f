def pq_putBytes : List mq_E := [(0, false, .iconst 24), (2, false, .istore 2), (3, true, .iload 2), (4, false, .ifCond .lt (Int.ofNat 46)), (7, false, .aload 0), (8, false, .invokeinterface 10 1), (11, false, .iconst 1600), (14, false, .if_icmp .ge (Int.ofNat 46)), (17, false, .aload 0), (18, false, .invokeinterface 10 0), (21, false, .aload 0), (22, false, .invokeinterface 10 1), (25, false, .iload 1), (26, false, .iload 2), (27, false, .iushr), (28, false, .i2b), (29, false, .bastore), (30, false, .aload 0), (31, false, .dup), (32, false, .invokeinterface 10 1), (35, false, .iconst 1), (36, false, .iadd), (37, false, .multianewarray 10 1), (40, false, .iinc 2 (-8)), (43, false, .goto (Int.ofNat 3)), (46, false, .return_)]
def cq_putBytes : mq_C := ((yX10_putBytes, cX10_putBytes, 3, none, { frames := 0, cells := 0, slots := 0, locals := 0 }), (2, 0, 0, 0), 524289, (fun as ρ μ => match ρ with
  | (nw, sp, tl, tx, al) => mq_pZ as 0 fun as => mq_pI as fun a as => mq_p0 as (True)),
  (fun as ρ μ r ρ' μ' => match as, ρ, ρ' with
  | [.inr (.inr (some (_, _))), .inl a], (nw, sp, tl, tx, al), (nw', sp', tl', tx', al') => []
  | _, _, _ => []))
def kq_putBytes : List mq_V → mq_R → mq_M → List mq_Cu := fun as ρ μ => match as, ρ with
  | [.inr (.inr (some (_, _))), .inl a], (nw, sp, tl, tx, al) => [(3, [true, true, true], fun N l st ρ' μ' cs => mq_tZ l 0 fun l => mq_tI l fun v1 l => mq_tI l fun v2 l => mq_t0 l (st = [] ∧ ρ' = (nw, sp, tl, tx, al) ∧ cs = 0 ∧ v1 = a ∧ -8 ≤ v2 ∧ v2 ≤ 24 ∧ 0 ≤ (v2 + 8 : Int) ∧ (v2 + 8 : Int) < (N : Int)))]
  | _, _ => []
set_option maxHeartbeats 16000000 in
set_option maxRecDepth 100000 in
theorem vq_putBytes (lc : Launch)  : mq_Ct lc cq_putBytes := by
  refine mq_method (lc := lc) (P := pq_putBytes) (cl := []) (T := ([(13, 10, 1), (9, 10, 0)], [], [], [], [], [])) (fuel := 400) (cuts := kq_putBytes) (by decide) rfl ⟨rfl, rfl⟩ (fun _ h => absurd h List.not_mem_nil) ⟨(List.forall_mem_cons.mpr ⟨⟨_, rfl, by decide, kw_507⟩, (List.forall_mem_cons.mpr ⟨⟨_, rfl, by decide, kw_508⟩, (fun _ h => absurd h List.not_mem_nil)⟩)⟩), (fun _ h => absurd h List.not_mem_nil), (fun _ h => absurd h List.not_mem_nil), (fun _ h => absurd h List.not_mem_nil), (fun _ h => absurd h List.not_mem_nil), (fun _ h => absurd h List.not_mem_nil)⟩ (by decide +kernel) ⟨_, _, rfl⟩ ?_ ?_ ?_ ?_
  · intro as ρ μ h
    obtain ⟨nw, sp, tl, tx, al⟩ := ρ
    obtain ⟨as0, rfl, h0⟩ := mq_pZ_spec h
    clear h
    obtain ⟨a, as1, rfl, h1⟩ := mq_pI_spec h0
    clear h0
    obtain ⟨rfl, hp⟩ := mq_p0_spec h1
    clear h1
    rfl
  · intro as ρ μ h
    obtain ⟨nw, sp, tl, tx, al⟩ := ρ
    obtain ⟨as0, rfl, h0⟩ := mq_pZ_spec h
    clear h
    obtain ⟨a, as1, rfl, h1⟩ := mq_pI_spec h0
    clear h0
    obtain ⟨rfl, hp⟩ := mq_p0_spec h1
    clear h1
    intro hrg
    obtain ⟨⟨ha1a, ha1b⟩, -⟩ := hrg
    intro hbk
    have e0 : mq_l0 ([.inr (.inr (some (0, 0))), .inl a] : List mq_V) 3 = [some (.inr (.inr (some (0, 0)))), some (.inl a), none] := rfl
    rw [e0]
    repeat' (first | refine And.intro ?_ ?_ | intro _)
    all_goals first | omega | rfl | exact trivial | (simp [mq_up] at * <;> omega)
  · intro as ρ μ h
    obtain ⟨nw, sp, tl, tx, al⟩ := ρ
    obtain ⟨as0, rfl, h0⟩ := mq_pZ_spec h
    clear h
    obtain ⟨a, as1, rfl, h1⟩ := mq_pI_spec h0
    clear h0
    obtain ⟨rfl, hp⟩ := mq_p0_spec h1
    clear h1
    refine List.forall_mem_cons.mpr ⟨?_, ?_⟩
    · intro l st ρ' μ' cs hJ
      obtain ⟨l0, rfl, hJ0⟩ := mq_tZ_spec hJ
      clear hJ
      obtain ⟨v1, l1, rfl, hJ1⟩ := mq_tI_spec hJ0
      clear hJ0
      obtain ⟨v2, l2, rfl, hJ2⟩ := mq_tI_spec hJ1
      clear hJ1
      obtain ⟨rfl, hJz⟩ := mq_t0_spec hJ2
      clear hJ2
      obtain ⟨rfl, rfl, rfl, hc0, hc1, hc2, hm0, hm1⟩ := hJz
      omega
    exact fun _ h => absurd h List.not_mem_nil
  · intro as ρ μ h
    obtain ⟨nw, sp, tl, tx, al⟩ := ρ
    obtain ⟨as0, rfl, h0⟩ := mq_pZ_spec h
    clear h
    obtain ⟨a, as1, rfl, h1⟩ := mq_pI_spec h0
    clear h0
    obtain ⟨rfl, hp⟩ := mq_p0_spec h1
    clear h1
    intro hrg
    obtain ⟨⟨ha1a, ha1b⟩, -⟩ := hrg
    refine List.forall_mem_cons.mpr ⟨?_, ?_⟩
    · intro N l st ρ' μ' cs hJ
      obtain ⟨l0, rfl, hJ0⟩ := mq_tZ_spec hJ
      clear hJ
      obtain ⟨v1, l1, rfl, hJ1⟩ := mq_tI_spec hJ0
      clear hJ0
      obtain ⟨v2, l2, rfl, hJ2⟩ := mq_tI_spec hJ1
      clear hJ1
      obtain ⟨rfl, hJz⟩ := mq_t0_spec hJ2
      clear hJ2
      obtain ⟨rfl, rfl, rfl, hc0, hc1, hc2, hm0, hm1⟩ := hJz
      intro hbk hrl
      obtain ⟨⟨hl1a, hl1b⟩, ⟨hl2a, hl2b⟩, -⟩ := hrl
      repeat' (first | refine And.intro ?_ ?_ | intro _)
      all_goals first | omega | rfl | exact trivial | (simp [mq_up] at * <;> omega)
    exact fun _ h => absurd h List.not_mem_nil
theorem mw0_putBytes : mq_mlA cq_putBytes 0 := ⟨kw_509, ⟨by decide +kernel, by decide +kernel⟩, by decide +kernel, kw_510, kw_511, kw_95, 0, by decide +kernel, fun as ρ μ h => by obtain ⟨nw, sp, tl, tx, al⟩ := ρ; obtain ⟨t, e, _⟩ := mq_pZ_spec h; exact ⟨0, t, e⟩⟩
def pq_feed : List mq_E := [(0, false, .aload 0), (1, false, .invokeinterface 10 1), (4, false, .iconst 1580), (7, false, .if_icmp .le (Int.ofNat 12)), (10, false, .iconst (-1)), (11, false, .ireturn), (12, false, .aload 0), (13, false, .iload 1), (14, false, .invokestatic 0), (17, false, .aload 0), (18, false, .iload 2), (19, false, .invokestatic 0), (22, false, .aload 0), (23, false, .iload 3), (24, false, .invokestatic 0), (27, false, .aload 0), (28, false, .iload 4), (30, false, .invokestatic 0), (33, false, .aload 0), (34, false, .iload 5), (36, false, .invokestatic 0), (39, false, .aload 0), (40, false, .invokeinterface 10 1), (43, false, .ireturn)]
def cq_feed : mq_C := ((yX10_feed, cX10_feed, 6, (some .int), { frames := 1, cells := 0, slots := 0, locals := 22 }), (6, 1, 0, 0), 524289, (fun as ρ μ => match ρ with
  | (nw, sp, tl, tx, al) => mq_pZ as 0 fun as => mq_pI as fun a as => mq_pI as fun b as => mq_pI as fun c as => mq_pI as fun d as => mq_pI as fun e as => mq_p0 as (True)),
  (fun as ρ μ r ρ' μ' => match as, ρ, ρ' with
  | [.inr (.inr (some (_, _))), .inl a, .inl b, .inl c, .inl d, .inl e], (nw, sp, tl, tx, al), (nw', sp', tl', tx', al') => []
  | _, _, _ => []))
def kq_feed : List mq_V → mq_R → mq_M → List mq_Cu := fun as ρ μ => match as, ρ with
  | [.inr (.inr (some (_, _))), .inl a, .inl b, .inl c, .inl d, .inl e], (nw, sp, tl, tx, al) => []
  | _, _ => []
set_option maxHeartbeats 16000000 in
set_option maxRecDepth 100000 in
theorem vq_feed (lc : Launch) (h_putBytes : mq_Ct lc cq_putBytes) : mq_Ct lc cq_feed := by
  refine mq_method (lc := lc) (P := pq_feed) (cl := [cq_putBytes]) (T := ([(13, 10, 1)], [], [], [(105, 0, 0)], [], [])) (fuel := 400) (cuts := kq_feed) (by decide) rfl ⟨rfl, rfl⟩ (List.forall_mem_cons.mpr ⟨h_putBytes, (fun _ h => absurd h List.not_mem_nil)⟩) ⟨(List.forall_mem_cons.mpr ⟨⟨_, rfl, by decide, kw_507⟩, (fun _ h => absurd h List.not_mem_nil)⟩), (fun _ h => absurd h List.not_mem_nil), (fun _ h => absurd h List.not_mem_nil), (List.forall_mem_cons.mpr ⟨mq_ml0 rfl mw0_putBytes kw_512, (fun _ h => absurd h List.not_mem_nil)⟩), (fun _ h => absurd h List.not_mem_nil), (fun _ h => absurd h List.not_mem_nil)⟩ (by decide +kernel) ⟨_, _, rfl⟩ ?_ ?_ ?_ ?_
  · intro as ρ μ h
    obtain ⟨nw, sp, tl, tx, al⟩ := ρ
    obtain ⟨as0, rfl, h0⟩ := mq_pZ_spec h
    clear h
    obtain ⟨a, as1, rfl, h1⟩ := mq_pI_spec h0
    clear h0
    obtain ⟨b, as2, rfl, h2⟩ := mq_pI_spec h1
    clear h1
    obtain ⟨c, as3, rfl, h3⟩ := mq_pI_spec h2
    clear h2
    obtain ⟨d, as4, rfl, h4⟩ := mq_pI_spec h3
    clear h3
    obtain ⟨e, as5, rfl, h5⟩ := mq_pI_spec h4
    clear h4
    obtain ⟨rfl, hp⟩ := mq_p0_spec h5
    clear h5
    rfl
  · intro as ρ μ h
    obtain ⟨nw, sp, tl, tx, al⟩ := ρ
    obtain ⟨as0, rfl, h0⟩ := mq_pZ_spec h
    clear h
    obtain ⟨a, as1, rfl, h1⟩ := mq_pI_spec h0
    clear h0
    obtain ⟨b, as2, rfl, h2⟩ := mq_pI_spec h1
    clear h1
    obtain ⟨c, as3, rfl, h3⟩ := mq_pI_spec h2
    clear h2
    obtain ⟨d, as4, rfl, h4⟩ := mq_pI_spec h3
    clear h3
    obtain ⟨e, as5, rfl, h5⟩ := mq_pI_spec h4
    clear h4
    obtain ⟨rfl, hp⟩ := mq_p0_spec h5
    clear h5
    intro hrg
    obtain ⟨⟨ha1a, ha1b⟩, ⟨ha2a, ha2b⟩, ⟨ha3a, ha3b⟩, ⟨ha4a, ha4b⟩, ⟨ha5a, ha5b⟩, -⟩ := hrg
    intro hbk
    have e0 : mq_l0 ([.inr (.inr (some (0, 0))), .inl a, .inl b, .inl c, .inl d, .inl e] : List mq_V) 6 = [some (.inr (.inr (some (0, 0)))), some (.inl a), some (.inl b), some (.inl c), some (.inl d), some (.inl e)] := rfl
    rw [e0]
    repeat' (first | refine And.intro ?_ ?_ | intro _)
    all_goals first | omega | rfl | exact trivial | (simp [mq_up] at * <;> omega)
  · intro as ρ μ h
    obtain ⟨nw, sp, tl, tx, al⟩ := ρ
    obtain ⟨as0, rfl, h0⟩ := mq_pZ_spec h
    clear h
    obtain ⟨a, as1, rfl, h1⟩ := mq_pI_spec h0
    clear h0
    obtain ⟨b, as2, rfl, h2⟩ := mq_pI_spec h1
    clear h1
    obtain ⟨c, as3, rfl, h3⟩ := mq_pI_spec h2
    clear h2
    obtain ⟨d, as4, rfl, h4⟩ := mq_pI_spec h3
    clear h3
    obtain ⟨e, as5, rfl, h5⟩ := mq_pI_spec h4
    clear h4
    obtain ⟨rfl, hp⟩ := mq_p0_spec h5
    clear h5
    exact fun _ h => absurd h List.not_mem_nil
  · intro as ρ μ h
    obtain ⟨nw, sp, tl, tx, al⟩ := ρ
    obtain ⟨as0, rfl, h0⟩ := mq_pZ_spec h
    clear h
    obtain ⟨a, as1, rfl, h1⟩ := mq_pI_spec h0
    clear h0
    obtain ⟨b, as2, rfl, h2⟩ := mq_pI_spec h1
    clear h1
    obtain ⟨c, as3, rfl, h3⟩ := mq_pI_spec h2
    clear h2
    obtain ⟨d, as4, rfl, h4⟩ := mq_pI_spec h3
    clear h3
    obtain ⟨e, as5, rfl, h5⟩ := mq_pI_spec h4
    clear h4
    obtain ⟨rfl, hp⟩ := mq_p0_spec h5
    clear h5
    intro hrg
    obtain ⟨⟨ha1a, ha1b⟩, ⟨ha2a, ha2b⟩, ⟨ha3a, ha3b⟩, ⟨ha4a, ha4b⟩, ⟨ha5a, ha5b⟩, -⟩ := hrg
    exact fun _ h => absurd h List.not_mem_nil
def pq_end : List mq_E := [(0, false, .iload 1), (1, false, .ifCond .lt (Int.ofNat 12)), (4, false, .iload 1), (5, false, .aload 0), (6, false, .invokeinterface 10 1), (9, false, .if_icmp .le (Int.ofNat 14)), (12, false, .iconst (-1)), (13, false, .ireturn), (14, false, .aload 0), (15, false, .iload 1), (16, false, .multianewarray 10 1), (19, false, .iload 1), (20, false, .ireturn)]
def cq_end : mq_C := ((yX10_end, cX10_end, 2, (some .int), { frames := 0, cells := 0, slots := 0, locals := 0 }), (2, 1, 0, 0), 1, (fun as ρ μ => match ρ with
  | (nw, sp, tl, tx, al) => mq_pZ as 0 fun as => mq_pI as fun n as => mq_p0 as (True)),
  (fun as ρ μ r ρ' μ' => match as, ρ, ρ' with
  | [.inr (.inr (some (_, _))), .inl n], (nw, sp, tl, tx, al), (nw', sp', tl', tx', al') => []
  | _, _, _ => []))
def kq_end : List mq_V → mq_R → mq_M → List mq_Cu := fun as ρ μ => match as, ρ with
  | [.inr (.inr (some (_, _))), .inl n], (nw, sp, tl, tx, al) => []
  | _, _ => []
set_option maxHeartbeats 16000000 in
set_option maxRecDepth 100000 in
theorem vq_end (lc : Launch)  : mq_Ct lc cq_end := by
  refine mq_method (lc := lc) (P := pq_end) (cl := []) (T := ([(13, 10, 1)], [], [], [], [], [])) (fuel := 400) (cuts := kq_end) (by decide) rfl ⟨rfl, rfl⟩ (fun _ h => absurd h List.not_mem_nil) ⟨(List.forall_mem_cons.mpr ⟨⟨_, rfl, by decide, kw_507⟩, (fun _ h => absurd h List.not_mem_nil)⟩), (fun _ h => absurd h List.not_mem_nil), (fun _ h => absurd h List.not_mem_nil), (fun _ h => absurd h List.not_mem_nil), (fun _ h => absurd h List.not_mem_nil), (fun _ h => absurd h List.not_mem_nil)⟩ (by decide +kernel) ⟨_, _, rfl⟩ ?_ ?_ ?_ ?_
  · intro as ρ μ h
    obtain ⟨nw, sp, tl, tx, al⟩ := ρ
    obtain ⟨as0, rfl, h0⟩ := mq_pZ_spec h
    clear h
    obtain ⟨n, as1, rfl, h1⟩ := mq_pI_spec h0
    clear h0
    obtain ⟨rfl, hp⟩ := mq_p0_spec h1
    clear h1
    rfl
  · intro as ρ μ h
    obtain ⟨nw, sp, tl, tx, al⟩ := ρ
    obtain ⟨as0, rfl, h0⟩ := mq_pZ_spec h
    clear h
    obtain ⟨n, as1, rfl, h1⟩ := mq_pI_spec h0
    clear h0
    obtain ⟨rfl, hp⟩ := mq_p0_spec h1
    clear h1
    intro hrg
    obtain ⟨⟨ha1a, ha1b⟩, -⟩ := hrg
    intro hbk
    have e0 : mq_l0 ([.inr (.inr (some (0, 0))), .inl n] : List mq_V) 2 = [some (.inr (.inr (some (0, 0)))), some (.inl n)] := rfl
    rw [e0]
    repeat' (first | refine And.intro ?_ ?_ | intro _)
    all_goals first | omega | rfl | exact trivial | (simp [mq_up] at * <;> omega)
  · intro as ρ μ h
    obtain ⟨nw, sp, tl, tx, al⟩ := ρ
    obtain ⟨as0, rfl, h0⟩ := mq_pZ_spec h
    clear h
    obtain ⟨n, as1, rfl, h1⟩ := mq_pI_spec h0
    clear h0
    obtain ⟨rfl, hp⟩ := mq_p0_spec h1
    clear h1
    exact fun _ h => absurd h List.not_mem_nil
  · intro as ρ μ h
    obtain ⟨nw, sp, tl, tx, al⟩ := ρ
    obtain ⟨as0, rfl, h0⟩ := mq_pZ_spec h
    clear h
    obtain ⟨n, as1, rfl, h1⟩ := mq_pI_spec h0
    clear h0
    obtain ⟨rfl, hp⟩ := mq_p0_spec h1
    clear h1
    intro hrg
    obtain ⟨⟨ha1a, ha1b⟩, -⟩ := hrg
    exact fun _ h => absurd h List.not_mem_nil
def pq_layTrack : List mq_E := [(0, false, .aload 0), (1, false, .invokeinterface 10 9), (4, false, .aload 0), (5, false, .invokeinterface 10 3), (8, false, .iload 1), (9, false, .invokestatic 0), (12, false, .aload 0), (13, false, .invokeinterface 10 10), (16, false, .invokestatic 1), (19, false, .return_)]
def cq_layTrack : mq_C := ((yX10_layTrack, cX10_layTrack, 2, none, { frames := 5, cells := 0, slots := 0, locals := 115 }), (2, 0, 2, 0), 5335154688, (fun as ρ μ => match ρ with
  | (nw, sp, tl, tx, al) => mq_pZ as 0 fun as => mq_pI as fun n as => mq_p0 as (0 ≤ n ∧ n ≤ 100)),
  (fun as ρ μ r ρ' μ' => match as, ρ, ρ' with
  | [.inr (.inr (some (_, _))), .inl n], (nw, sp, tl, tx, al), (nw', sp', tl', tx', al') => [nw' = nw, sp' = sp, tl' = nw, tx' = tx]
  | _, _, _ => []))
def kq_layTrack : List mq_V → mq_R → mq_M → List mq_Cu := fun as ρ μ => match as, ρ with
  | [.inr (.inr (some (_, _))), .inl n], (nw, sp, tl, tx, al) => []
  | _, _ => []
set_option maxHeartbeats 16000000 in
set_option maxRecDepth 100000 in
theorem vq_layTrack (lc : Launch) (h_lay : mq_Ct lc cq_lay) (h_forget : mq_Ct lc cq_forget) : mq_Ct lc cq_layTrack := by
  refine mq_method (lc := lc) (P := pq_layTrack) (cl := [cq_lay, cq_forget]) (T := ([(55, 10, 9), (27, 10, 3), (64, 10, 10)], [], [], [(101, 0, 0), (122, 1, 0)], [], [])) (fuel := 400) (cuts := kq_layTrack) (by decide) rfl ⟨rfl, rfl⟩ (List.forall_mem_cons.mpr ⟨h_lay, (List.forall_mem_cons.mpr ⟨h_forget, (fun _ h => absurd h List.not_mem_nil)⟩)⟩) ⟨(List.forall_mem_cons.mpr ⟨⟨_, rfl, by decide, kw_513⟩, (List.forall_mem_cons.mpr ⟨⟨_, rfl, by decide, kw_514⟩, (List.forall_mem_cons.mpr ⟨⟨_, rfl, by decide, kw_515⟩, (fun _ h => absurd h List.not_mem_nil)⟩)⟩)⟩), (fun _ h => absurd h List.not_mem_nil), (fun _ h => absurd h List.not_mem_nil), (List.forall_mem_cons.mpr ⟨mq_ml0 rfl mw0_lay kw_519, (List.forall_mem_cons.mpr ⟨mq_ml0 rfl mw0_forget kw_523, (fun _ h => absurd h List.not_mem_nil)⟩)⟩), (fun _ h => absurd h List.not_mem_nil), (fun _ h => absurd h List.not_mem_nil)⟩ (by decide +kernel) ⟨_, _, rfl⟩ ?_ ?_ ?_ ?_
  · intro as ρ μ h
    obtain ⟨nw, sp, tl, tx, al⟩ := ρ
    obtain ⟨as0, rfl, h0⟩ := mq_pZ_spec h
    clear h
    obtain ⟨n, as1, rfl, h1⟩ := mq_pI_spec h0
    clear h0
    obtain ⟨rfl, hp⟩ := mq_p0_spec h1
    clear h1
    obtain ⟨hp0, hp1⟩ := hp
    rfl
  · intro as ρ μ h
    obtain ⟨nw, sp, tl, tx, al⟩ := ρ
    obtain ⟨as0, rfl, h0⟩ := mq_pZ_spec h
    clear h
    obtain ⟨n, as1, rfl, h1⟩ := mq_pI_spec h0
    clear h0
    obtain ⟨rfl, hp⟩ := mq_p0_spec h1
    clear h1
    obtain ⟨hp0, hp1⟩ := hp
    intro hrg
    obtain ⟨⟨ha1a, ha1b⟩, -⟩ := hrg
    intro hbk
    have e0 : mq_l0 ([.inr (.inr (some (0, 0))), .inl n] : List mq_V) 2 = [some (.inr (.inr (some (0, 0)))), some (.inl n)] := rfl
    rw [e0]
    repeat' (first | refine And.intro ?_ ?_ | intro _)
    all_goals first | omega | rfl | exact trivial | (simp [mq_up] at * <;> omega)
  · intro as ρ μ h
    obtain ⟨nw, sp, tl, tx, al⟩ := ρ
    obtain ⟨as0, rfl, h0⟩ := mq_pZ_spec h
    clear h
    obtain ⟨n, as1, rfl, h1⟩ := mq_pI_spec h0
    clear h0
    obtain ⟨rfl, hp⟩ := mq_p0_spec h1
    clear h1
    obtain ⟨hp0, hp1⟩ := hp
    exact fun _ h => absurd h List.not_mem_nil
  · intro as ρ μ h
    obtain ⟨nw, sp, tl, tx, al⟩ := ρ
    obtain ⟨as0, rfl, h0⟩ := mq_pZ_spec h
    clear h
    obtain ⟨n, as1, rfl, h1⟩ := mq_pI_spec h0
    clear h0
    obtain ⟨rfl, hp⟩ := mq_p0_spec h1
    clear h1
    obtain ⟨hp0, hp1⟩ := hp
    intro hrg
    obtain ⟨⟨ha1a, ha1b⟩, -⟩ := hrg
    exact fun _ h => absurd h List.not_mem_nil
theorem mw0_layTrack : mq_mlA cq_layTrack 0 := ⟨kw_532, ⟨by decide +kernel, by decide +kernel⟩, by decide +kernel, kw_533, kw_534, kw_95, 0, by decide +kernel, fun as ρ μ h => by obtain ⟨nw, sp, tl, tx, al⟩ := ρ; obtain ⟨t, e, _⟩ := mq_pZ_spec h; exact ⟨0, t, e⟩⟩
def pq_line : List mq_E := [(0, false, .aload 0), (1, false, .invokeinterface 10 2), (4, false, .aload 0), (5, false, .invokeinterface 10 4), (8, false, .aload 0), (9, false, .invokeinterface 10 0), (12, false, .aload 0), (13, false, .invokeinterface 10 1), (16, false, .invokestatic 0), (19, false, .aload 0), (20, false, .invokeinterface 10 2), (23, false, .invokeinterface 5 6), (26, false, .ifCond .eq (Int.ofNat 32)), (29, false, .iconst (-4)), (31, false, .ireturn), (32, false, .aload 0), (33, false, .invokeinterface 10 3), (36, false, .astore 1), (37, false, .aload 0), (38, false, .aload 0), (39, false, .invokeinterface 10 4), (42, false, .multianewarray 10 3), (45, false, .aload 0), (46, false, .aload 1), (47, false, .multianewarray 10 4), (50, false, .aload 0), (51, false, .iconst 0), (52, false, .multianewarray 10 1), (55, false, .aload 0), (56, false, .iconst 0), (57, false, .invokestatic 1), (60, false, .aload 0), (61, false, .invokeinterface 10 3), (64, false, .invokeinterface 3 1), (67, false, .ireturn)]
def cq_line : mq_C := ((yX10_line, cX10_line, 2, (some .int), { frames := 9, cells := 0, slots := 0, locals := 197 }), (1, 1, 2, 0), 5336334333, (fun as ρ μ => match ρ with
  | (nw, sp, tl, tx, al) => mq_pZ as 0 fun as => mq_p0 as (True)),
  (fun as ρ μ r ρ' μ' => match as, ρ, ρ' with
  | [.inr (.inr (some (_, _)))], (nw, sp, tl, tx, al), (nw', sp', tl', tx', al') => []
  | _, _, _ => []))
def kq_line : List mq_V → mq_R → mq_M → List mq_Cu := fun as ρ μ => match as, ρ with
  | [.inr (.inr (some (_, _)))], (nw, sp, tl, tx, al) => []
  | _, _ => []
set_option maxHeartbeats 16000000 in
set_option maxRecDepth 100000 in
theorem vq_line (lc : Launch) (h_read : mq_Ct lc cq_read) (h_layTrack : mq_Ct lc cq_layTrack) : mq_Ct lc cq_line := by
  refine mq_method (lc := lc) (P := pq_line) (cl := [cq_read, cq_layTrack]) (T := ([(20, 10, 2), (31, 10, 4), (9, 10, 0), (13, 10, 1), (113, 5, 6), (27, 10, 3), (119, 3, 1)], [], [], [(109, 0, 0), (116, 1, 0)], [], [])) (fuel := 400) (cuts := kq_line) (by decide) rfl ⟨rfl, rfl⟩ (List.forall_mem_cons.mpr ⟨h_read, (List.forall_mem_cons.mpr ⟨h_layTrack, (fun _ h => absurd h List.not_mem_nil)⟩)⟩) ⟨(List.forall_mem_cons.mpr ⟨⟨_, rfl, by decide, kw_524⟩, (List.forall_mem_cons.mpr ⟨⟨_, rfl, by decide, kw_525⟩, (List.forall_mem_cons.mpr ⟨⟨_, rfl, by decide, kw_508⟩, (List.forall_mem_cons.mpr ⟨⟨_, rfl, by decide, kw_507⟩, (List.forall_mem_cons.mpr ⟨⟨_, rfl, by decide, kw_526⟩, (List.forall_mem_cons.mpr ⟨⟨_, rfl, by decide, kw_514⟩, (List.forall_mem_cons.mpr ⟨⟨_, rfl, by decide, kw_527⟩, (fun _ h => absurd h List.not_mem_nil)⟩)⟩)⟩)⟩)⟩)⟩)⟩), (fun _ h => absurd h List.not_mem_nil), (fun _ h => absurd h List.not_mem_nil), (List.forall_mem_cons.mpr ⟨mq_ml0 rfl mw0_read kw_531, (List.forall_mem_cons.mpr ⟨mq_ml0 rfl mw0_layTrack kw_535, (fun _ h => absurd h List.not_mem_nil)⟩)⟩), (fun _ h => absurd h List.not_mem_nil), (fun _ h => absurd h List.not_mem_nil)⟩ (by decide +kernel) ⟨_, _, rfl⟩ ?_ ?_ ?_ ?_
  · intro as ρ μ h
    obtain ⟨nw, sp, tl, tx, al⟩ := ρ
    obtain ⟨as0, rfl, h0⟩ := mq_pZ_spec h
    clear h
    obtain ⟨rfl, hp⟩ := mq_p0_spec h0
    clear h0
    rfl
  · intro as ρ μ h
    obtain ⟨nw, sp, tl, tx, al⟩ := ρ
    obtain ⟨as0, rfl, h0⟩ := mq_pZ_spec h
    clear h
    obtain ⟨rfl, hp⟩ := mq_p0_spec h0
    clear h0
    intro hrg
    intro hbk
    have e0 : mq_l0 ([.inr (.inr (some (0, 0)))] : List mq_V) 2 = [some (.inr (.inr (some (0, 0)))), none] := rfl
    rw [e0]
    repeat' (first | refine And.intro ?_ ?_ | intro _)
    all_goals first | omega | rfl | exact trivial | (simp [mq_up] at * <;> omega)
  · intro as ρ μ h
    obtain ⟨nw, sp, tl, tx, al⟩ := ρ
    obtain ⟨as0, rfl, h0⟩ := mq_pZ_spec h
    clear h
    obtain ⟨rfl, hp⟩ := mq_p0_spec h0
    clear h0
    exact fun _ h => absurd h List.not_mem_nil
  · intro as ρ μ h
    obtain ⟨nw, sp, tl, tx, al⟩ := ρ
    obtain ⟨as0, rfl, h0⟩ := mq_pZ_spec h
    clear h
    obtain ⟨rfl, hp⟩ := mq_p0_spec h0
    clear h0
    intro hrg
    exact fun _ h => absurd h List.not_mem_nil
def pq_fault : List mq_E := [(0, false, .iload 1), (1, false, .ifCond .ne (Int.ofNat 12)), (4, false, .aload 0), (5, false, .invokeinterface 10 2), (8, false, .invokeinterface 5 6), (11, false, .ireturn), (12, false, .iload 1), (13, false, .iconst 1), (14, false, .if_icmp .ne (Int.ofNat 27)), (17, false, .aload 0), (18, false, .invokeinterface 10 2), (21, false, .invokeinterface 5 7), (24, false, .goto (Int.ofNat 28)), (27, false, .iconst (-1)), (28, false, .ireturn)]
def cq_fault : mq_C := ((yX10_fault, cX10_fault, 2, (some .int), { frames := 0, cells := 0, slots := 0, locals := 0 }), (2, 1, 0, 0), 0, (fun as ρ μ => match ρ with
  | (nw, sp, tl, tx, al) => mq_pZ as 0 fun as => mq_pI as fun w as => mq_p0 as (True)),
  (fun as ρ μ r ρ' μ' => match as, ρ, ρ' with
  | [.inr (.inr (some (_, _))), .inl w], (nw, sp, tl, tx, al), (nw', sp', tl', tx', al') => []
  | _, _, _ => []))
def kq_fault : List mq_V → mq_R → mq_M → List mq_Cu := fun as ρ μ => match as, ρ with
  | [.inr (.inr (some (_, _))), .inl w], (nw, sp, tl, tx, al) => []
  | _, _ => []
set_option maxHeartbeats 16000000 in
set_option maxRecDepth 100000 in
theorem vq_fault (lc : Launch)  : mq_Ct lc cq_fault := by
  refine mq_method (lc := lc) (P := pq_fault) (cl := []) (T := ([(20, 10, 2), (113, 5, 6), (125, 5, 7)], [], [], [], [], [])) (fuel := 400) (cuts := kq_fault) (by decide) rfl ⟨rfl, rfl⟩ (fun _ h => absurd h List.not_mem_nil) ⟨(List.forall_mem_cons.mpr ⟨⟨_, rfl, by decide, kw_524⟩, (List.forall_mem_cons.mpr ⟨⟨_, rfl, by decide, kw_526⟩, (List.forall_mem_cons.mpr ⟨⟨_, rfl, by decide, kw_536⟩, (fun _ h => absurd h List.not_mem_nil)⟩)⟩)⟩), (fun _ h => absurd h List.not_mem_nil), (fun _ h => absurd h List.not_mem_nil), (fun _ h => absurd h List.not_mem_nil), (fun _ h => absurd h List.not_mem_nil), (fun _ h => absurd h List.not_mem_nil)⟩ (by decide +kernel) ⟨_, _, rfl⟩ ?_ ?_ ?_ ?_
  · intro as ρ μ h
    obtain ⟨nw, sp, tl, tx, al⟩ := ρ
    obtain ⟨as0, rfl, h0⟩ := mq_pZ_spec h
    clear h
    obtain ⟨w, as1, rfl, h1⟩ := mq_pI_spec h0
    clear h0
    obtain ⟨rfl, hp⟩ := mq_p0_spec h1
    clear h1
    rfl
  · intro as ρ μ h
    obtain ⟨nw, sp, tl, tx, al⟩ := ρ
    obtain ⟨as0, rfl, h0⟩ := mq_pZ_spec h
    clear h
    obtain ⟨w, as1, rfl, h1⟩ := mq_pI_spec h0
    clear h0
    obtain ⟨rfl, hp⟩ := mq_p0_spec h1
    clear h1
    intro hrg
    obtain ⟨⟨ha1a, ha1b⟩, -⟩ := hrg
    intro hbk
    have e0 : mq_l0 ([.inr (.inr (some (0, 0))), .inl w] : List mq_V) 2 = [some (.inr (.inr (some (0, 0)))), some (.inl w)] := rfl
    rw [e0]
    repeat' (first | refine And.intro ?_ ?_ | intro _)
    all_goals first | omega | rfl | exact trivial | (simp [mq_up] at * <;> omega)
  · intro as ρ μ h
    obtain ⟨nw, sp, tl, tx, al⟩ := ρ
    obtain ⟨as0, rfl, h0⟩ := mq_pZ_spec h
    clear h
    obtain ⟨w, as1, rfl, h1⟩ := mq_pI_spec h0
    clear h0
    obtain ⟨rfl, hp⟩ := mq_p0_spec h1
    clear h1
    exact fun _ h => absurd h List.not_mem_nil
  · intro as ρ μ h
    obtain ⟨nw, sp, tl, tx, al⟩ := ρ
    obtain ⟨as0, rfl, h0⟩ := mq_pZ_spec h
    clear h
    obtain ⟨w, as1, rfl, h1⟩ := mq_pI_spec h0
    clear h0
    obtain ⟨rfl, hp⟩ := mq_p0_spec h1
    clear h1
    intro hrg
    obtain ⟨⟨ha1a, ha1b⟩, -⟩ := hrg
    exact fun _ h => absurd h List.not_mem_nil
def pq_hasLine : List mq_E := [(0, false, .aload 0), (1, false, .invokeinterface 10 3), (4, false, .invokeinterface 3 0), (7, false, .ifCond .le (Int.ofNat 14)), (10, false, .iconst 1), (11, false, .goto (Int.ofNat 15)), (14, false, .iconst 0), (15, false, .ireturn)]
def cq_hasLine : mq_C := ((yX10_hasLine, cX10_hasLine, 1, (some .boolean), { frames := 0, cells := 0, slots := 0, locals := 0 }), (1, 1, 0, 0), 0, (fun as ρ μ => match ρ with
  | (nw, sp, tl, tx, al) => mq_pZ as 0 fun as => mq_p0 as (True)),
  (fun as ρ μ r ρ' μ' => match as, ρ, ρ' with
  | [.inr (.inr (some (_, _)))], (nw, sp, tl, tx, al), (nw', sp', tl', tx', al') => [0 ≤ r, r ≤ 1]
  | _, _, _ => []))
def kq_hasLine : List mq_V → mq_R → mq_M → List mq_Cu := fun as ρ μ => match as, ρ with
  | [.inr (.inr (some (_, _)))], (nw, sp, tl, tx, al) => []
  | _, _ => []
set_option maxHeartbeats 16000000 in
set_option maxRecDepth 100000 in
theorem vq_hasLine (lc : Launch)  : mq_Ct lc cq_hasLine := by
  refine mq_method (lc := lc) (P := pq_hasLine) (cl := []) (T := ([(27, 10, 3), (128, 3, 0)], [], [], [], [], [])) (fuel := 400) (cuts := kq_hasLine) (by decide) rfl ⟨rfl, rfl⟩ (fun _ h => absurd h List.not_mem_nil) ⟨(List.forall_mem_cons.mpr ⟨⟨_, rfl, by decide, kw_514⟩, (List.forall_mem_cons.mpr ⟨⟨_, rfl, by decide, kw_537⟩, (fun _ h => absurd h List.not_mem_nil)⟩)⟩), (fun _ h => absurd h List.not_mem_nil), (fun _ h => absurd h List.not_mem_nil), (fun _ h => absurd h List.not_mem_nil), (fun _ h => absurd h List.not_mem_nil), (fun _ h => absurd h List.not_mem_nil)⟩ (by decide +kernel) ⟨_, _, rfl⟩ ?_ ?_ ?_ ?_
  · intro as ρ μ h
    obtain ⟨nw, sp, tl, tx, al⟩ := ρ
    obtain ⟨as0, rfl, h0⟩ := mq_pZ_spec h
    clear h
    obtain ⟨rfl, hp⟩ := mq_p0_spec h0
    clear h0
    rfl
  · intro as ρ μ h
    obtain ⟨nw, sp, tl, tx, al⟩ := ρ
    obtain ⟨as0, rfl, h0⟩ := mq_pZ_spec h
    clear h
    obtain ⟨rfl, hp⟩ := mq_p0_spec h0
    clear h0
    intro hrg
    intro hbk
    have e0 : mq_l0 ([.inr (.inr (some (0, 0)))] : List mq_V) 1 = [some (.inr (.inr (some (0, 0))))] := rfl
    rw [e0]
    repeat' (first | refine And.intro ?_ ?_ | intro _)
    all_goals first | omega | rfl | exact trivial | (simp [mq_up] at * <;> omega)
  · intro as ρ μ h
    obtain ⟨nw, sp, tl, tx, al⟩ := ρ
    obtain ⟨as0, rfl, h0⟩ := mq_pZ_spec h
    clear h
    obtain ⟨rfl, hp⟩ := mq_p0_spec h0
    clear h0
    exact fun _ h => absurd h List.not_mem_nil
  · intro as ρ μ h
    obtain ⟨nw, sp, tl, tx, al⟩ := ρ
    obtain ⟨as0, rfl, h0⟩ := mq_pZ_spec h
    clear h
    obtain ⟨rfl, hp⟩ := mq_p0_spec h0
    clear h0
    intro hrg
    exact fun _ h => absurd h List.not_mem_nil
theorem mw0_hasLine : mq_mlA cq_hasLine 0 := ⟨kw_538, ⟨by decide +kernel, by decide +kernel⟩, by decide +kernel, kw_539, kw_540, kw_95, 0, by decide +kernel, fun as ρ μ h => by obtain ⟨nw, sp, tl, tx, al⟩ := ρ; obtain ⟨t, e, _⟩ := mq_pZ_spec h; exact ⟨0, t, e⟩⟩
def pq_hasYard : List mq_E := [(0, false, .aload 0), (1, false, .invokestatic 0), (4, false, .ifCond .eq (Int.ofNat 26)), (7, false, .iload 1), (8, false, .ifCond .lt (Int.ofNat 26)), (11, false, .iload 1), (12, false, .aload 0), (13, false, .invokeinterface 10 3), (16, false, .invokeinterface 3 0), (19, false, .if_icmp .gt (Int.ofNat 26)), (22, false, .iconst 1), (23, false, .goto (Int.ofNat 27)), (26, false, .iconst 0), (27, false, .ireturn)]
def cq_hasYard : mq_C := ((yX10_hasYard, cX10_hasYard, 2, (some .boolean), { frames := 1, cells := 0, slots := 0, locals := 20 }), (2, 1, 0, 0), 0, (fun as ρ μ => match ρ with
  | (nw, sp, tl, tx, al) => mq_pZ as 0 fun as => mq_pI as fun y as => mq_p0 as (True)),
  (fun as ρ μ r ρ' μ' => match as, ρ, ρ' with
  | [.inr (.inr (some (_, _))), .inl y], (nw, sp, tl, tx, al), (nw', sp', tl', tx', al') => [(r = 1 ∧ 0 ≤ y ∧ y ≤ 400) ∨ r = 0]
  | _, _, _ => []))
def kq_hasYard : List mq_V → mq_R → mq_M → List mq_Cu := fun as ρ μ => match as, ρ with
  | [.inr (.inr (some (_, _))), .inl y], (nw, sp, tl, tx, al) => []
  | _, _ => []
set_option maxHeartbeats 16000000 in
set_option maxRecDepth 100000 in
theorem vq_hasYard (lc : Launch) (h_hasLine : mq_Ct lc cq_hasLine) : mq_Ct lc cq_hasYard := by
  refine mq_method (lc := lc) (P := pq_hasYard) (cl := [cq_hasLine]) (T := ([(27, 10, 3), (128, 3, 0)], [], [], [(131, 0, 0)], [], [])) (fuel := 400) (cuts := kq_hasYard) (by decide) rfl ⟨rfl, rfl⟩ (List.forall_mem_cons.mpr ⟨h_hasLine, (fun _ h => absurd h List.not_mem_nil)⟩) ⟨(List.forall_mem_cons.mpr ⟨⟨_, rfl, by decide, kw_514⟩, (List.forall_mem_cons.mpr ⟨⟨_, rfl, by decide, kw_537⟩, (fun _ h => absurd h List.not_mem_nil)⟩)⟩), (fun _ h => absurd h List.not_mem_nil), (fun _ h => absurd h List.not_mem_nil), (List.forall_mem_cons.mpr ⟨mq_ml0 rfl mw0_hasLine kw_541, (fun _ h => absurd h List.not_mem_nil)⟩), (fun _ h => absurd h List.not_mem_nil), (fun _ h => absurd h List.not_mem_nil)⟩ (by decide +kernel) ⟨_, _, rfl⟩ ?_ ?_ ?_ ?_
  · intro as ρ μ h
    obtain ⟨nw, sp, tl, tx, al⟩ := ρ
    obtain ⟨as0, rfl, h0⟩ := mq_pZ_spec h
    clear h
    obtain ⟨y, as1, rfl, h1⟩ := mq_pI_spec h0
    clear h0
    obtain ⟨rfl, hp⟩ := mq_p0_spec h1
    clear h1
    rfl
  · intro as ρ μ h
    obtain ⟨nw, sp, tl, tx, al⟩ := ρ
    obtain ⟨as0, rfl, h0⟩ := mq_pZ_spec h
    clear h
    obtain ⟨y, as1, rfl, h1⟩ := mq_pI_spec h0
    clear h0
    obtain ⟨rfl, hp⟩ := mq_p0_spec h1
    clear h1
    intro hrg
    obtain ⟨⟨ha1a, ha1b⟩, -⟩ := hrg
    intro hbk
    have e0 : mq_l0 ([.inr (.inr (some (0, 0))), .inl y] : List mq_V) 2 = [some (.inr (.inr (some (0, 0)))), some (.inl y)] := rfl
    rw [e0]
    repeat' (first | refine And.intro ?_ ?_ | intro _)
    all_goals first | omega | rfl | exact trivial | (simp [mq_up] at * <;> omega)
  · intro as ρ μ h
    obtain ⟨nw, sp, tl, tx, al⟩ := ρ
    obtain ⟨as0, rfl, h0⟩ := mq_pZ_spec h
    clear h
    obtain ⟨y, as1, rfl, h1⟩ := mq_pI_spec h0
    clear h0
    obtain ⟨rfl, hp⟩ := mq_p0_spec h1
    clear h1
    exact fun _ h => absurd h List.not_mem_nil
  · intro as ρ μ h
    obtain ⟨nw, sp, tl, tx, al⟩ := ρ
    obtain ⟨as0, rfl, h0⟩ := mq_pZ_spec h
    clear h
    obtain ⟨y, as1, rfl, h1⟩ := mq_pI_spec h0
    clear h0
    obtain ⟨rfl, hp⟩ := mq_p0_spec h1
    clear h1
    intro hrg
    obtain ⟨⟨ha1a, ha1b⟩, -⟩ := hrg
    exact fun _ h => absurd h List.not_mem_nil
theorem mw0_hasYard : mq_mlA cq_hasYard 0 := ⟨kw_544, ⟨by decide +kernel, by decide +kernel⟩, by decide +kernel, kw_545, kw_546, kw_95, 0, by decide +kernel, fun as ρ μ h => by obtain ⟨nw, sp, tl, tx, al⟩ := ρ; obtain ⟨t, e, _⟩ := mq_pZ_spec h; exact ⟨0, t, e⟩⟩
def pq_hasRun : List mq_E := [(0, false, .aload 0), (1, false, .invokeinterface 10 3), (4, false, .invokeinterface 3 6), (7, false, .iload 1), (8, false, .invokestatic 0), (11, false, .ifCond .eq (Int.ofNat 37)), (14, false, .aload 0), (15, false, .iload 2), (16, false, .invokestatic 1), (19, false, .ifCond .eq (Int.ofNat 37)), (22, false, .iload 3), (23, false, .iconst 1), (24, false, .if_icmp .lt (Int.ofNat 37)), (27, false, .iload 3), (28, false, .iconst 15), (30, false, .if_icmp .gt (Int.ofNat 37)), (33, false, .iconst 1), (34, false, .goto (Int.ofNat 38)), (37, false, .iconst 0), (38, false, .ireturn)]
def cq_hasRun : mq_C := ((yX10_hasRun, cX10_hasRun, 4, (some .boolean), { frames := 2, cells := 0, slots := 0, locals := 41 }), (4, 1, 0, 0), 0, (fun as ρ μ => match ρ with
  | (nw, sp, tl, tx, al) => mq_pZ as 0 fun as => mq_pI as fun k as => mq_pI as fun y as => mq_pI as fun v as => mq_p0 as (True)),
  (fun as ρ μ r ρ' μ' => match as, ρ, ρ' with
  | [.inr (.inr (some (_, _))), .inl k, .inl y, .inl v], (nw, sp, tl, tx, al), (nw', sp', tl', tx', al') => [(r = 1 ∧ 0 ≤ k ∧ k ≤ 3 ∧ 0 ≤ y ∧ y ≤ 400 ∧ 1 ≤ v ∧ v ≤ 15) ∨ r = 0]
  | _, _, _ => []))
def kq_hasRun : List mq_V → mq_R → mq_M → List mq_Cu := fun as ρ μ => match as, ρ with
  | [.inr (.inr (some (_, _))), .inl k, .inl y, .inl v], (nw, sp, tl, tx, al) => []
  | _, _ => []
set_option maxHeartbeats 16000000 in
set_option maxRecDepth 100000 in
theorem vq_hasRun (lc : Launch) (h_has_kinds : mq_Ct lc cq_has_kinds) (h_hasYard : mq_Ct lc cq_hasYard) : mq_Ct lc cq_hasRun := by
  refine mq_method (lc := lc) (P := pq_hasRun) (cl := [cq_has_kinds, cq_hasYard]) (T := ([(27, 10, 3), (135, 3, 6)], [], [], [(139, 0, 0), (145, 1, 0)], [], [])) (fuel := 400) (cuts := kq_hasRun) (by decide) rfl ⟨rfl, rfl⟩ (List.forall_mem_cons.mpr ⟨h_has_kinds, (List.forall_mem_cons.mpr ⟨h_hasYard, (fun _ h => absurd h List.not_mem_nil)⟩)⟩) ⟨(List.forall_mem_cons.mpr ⟨⟨_, rfl, by decide, kw_514⟩, (List.forall_mem_cons.mpr ⟨⟨_, rfl, by decide, kw_542⟩, (fun _ h => absurd h List.not_mem_nil)⟩)⟩), (fun _ h => absurd h List.not_mem_nil), (fun _ h => absurd h List.not_mem_nil), (List.forall_mem_cons.mpr ⟨mq_ml0 rfl mw0_has_kinds kw_543, (List.forall_mem_cons.mpr ⟨mq_ml0 rfl mw0_hasYard kw_547, (fun _ h => absurd h List.not_mem_nil)⟩)⟩), (fun _ h => absurd h List.not_mem_nil), (fun _ h => absurd h List.not_mem_nil)⟩ (by decide +kernel) ⟨_, _, rfl⟩ ?_ ?_ ?_ ?_
  · intro as ρ μ h
    obtain ⟨nw, sp, tl, tx, al⟩ := ρ
    obtain ⟨as0, rfl, h0⟩ := mq_pZ_spec h
    clear h
    obtain ⟨k, as1, rfl, h1⟩ := mq_pI_spec h0
    clear h0
    obtain ⟨y, as2, rfl, h2⟩ := mq_pI_spec h1
    clear h1
    obtain ⟨v, as3, rfl, h3⟩ := mq_pI_spec h2
    clear h2
    obtain ⟨rfl, hp⟩ := mq_p0_spec h3
    clear h3
    rfl
  · intro as ρ μ h
    obtain ⟨nw, sp, tl, tx, al⟩ := ρ
    obtain ⟨as0, rfl, h0⟩ := mq_pZ_spec h
    clear h
    obtain ⟨k, as1, rfl, h1⟩ := mq_pI_spec h0
    clear h0
    obtain ⟨y, as2, rfl, h2⟩ := mq_pI_spec h1
    clear h1
    obtain ⟨v, as3, rfl, h3⟩ := mq_pI_spec h2
    clear h2
    obtain ⟨rfl, hp⟩ := mq_p0_spec h3
    clear h3
    intro hrg
    obtain ⟨⟨ha1a, ha1b⟩, ⟨ha2a, ha2b⟩, ⟨ha3a, ha3b⟩, -⟩ := hrg
    intro hbk
    have e0 : mq_l0 ([.inr (.inr (some (0, 0))), .inl k, .inl y, .inl v] : List mq_V) 4 = [some (.inr (.inr (some (0, 0)))), some (.inl k), some (.inl y), some (.inl v)] := rfl
    rw [e0]
    repeat' (first | refine And.intro ?_ ?_ | intro _)
    all_goals first | omega | rfl | exact trivial | (simp [mq_up] at * <;> omega)
  · intro as ρ μ h
    obtain ⟨nw, sp, tl, tx, al⟩ := ρ
    obtain ⟨as0, rfl, h0⟩ := mq_pZ_spec h
    clear h
    obtain ⟨k, as1, rfl, h1⟩ := mq_pI_spec h0
    clear h0
    obtain ⟨y, as2, rfl, h2⟩ := mq_pI_spec h1
    clear h1
    obtain ⟨v, as3, rfl, h3⟩ := mq_pI_spec h2
    clear h2
    obtain ⟨rfl, hp⟩ := mq_p0_spec h3
    clear h3
    exact fun _ h => absurd h List.not_mem_nil
  · intro as ρ μ h
    obtain ⟨nw, sp, tl, tx, al⟩ := ρ
    obtain ⟨as0, rfl, h0⟩ := mq_pZ_spec h
    clear h
    obtain ⟨k, as1, rfl, h1⟩ := mq_pI_spec h0
    clear h0
    obtain ⟨y, as2, rfl, h2⟩ := mq_pI_spec h1
    clear h1
    obtain ⟨v, as3, rfl, h3⟩ := mq_pI_spec h2
    clear h2
    obtain ⟨rfl, hp⟩ := mq_p0_spec h3
    clear h3
    intro hrg
    obtain ⟨⟨ha1a, ha1b⟩, ⟨ha2a, ha2b⟩, ⟨ha3a, ha3b⟩, -⟩ := hrg
    exact fun _ h => absurd h List.not_mem_nil
theorem mw0_hasRun : mq_mlA cq_hasRun 0 := ⟨kw_549, ⟨by decide +kernel, by decide +kernel⟩, by decide +kernel, kw_550, kw_551, kw_95, 0, by decide +kernel, fun as ρ μ h => by obtain ⟨nw, sp, tl, tx, al⟩ := ρ; obtain ⟨t, e, _⟩ := mq_pZ_spec h; exact ⟨0, t, e⟩⟩
def pq_hasAim : List mq_E := [(0, false, .aload 0), (1, false, .iload 1), (2, false, .iload 3), (3, false, .iload 4), (5, false, .invokestatic 0), (8, false, .ifCond .eq (Int.ofNat 29)), (11, false, .aload 0), (12, false, .invokeinterface 10 3), (15, false, .invokeinterface 3 5), (18, false, .iload 2), (19, false, .invokestatic 1), (22, false, .ifCond .eq (Int.ofNat 29)), (25, false, .iconst 1), (26, false, .goto (Int.ofNat 30)), (29, false, .iconst 0), (30, false, .ireturn)]
def cq_hasAim : mq_C := ((yX10_hasAim, cX10_hasAim, 5, (some .boolean), { frames := 3, cells := 0, slots := 0, locals := 64 }), (5, 1, 0, 0), 0, (fun as ρ μ => match ρ with
  | (nw, sp, tl, tx, al) => mq_pZ as 0 fun as => mq_pI as fun k as => mq_pI as fun p as => mq_pI as fun y as => mq_pI as fun v as => mq_p0 as (True)),
  (fun as ρ μ r ρ' μ' => match as, ρ, ρ' with
  | [.inr (.inr (some (_, _))), .inl k, .inl p, .inl y, .inl v], (nw, sp, tl, tx, al), (nw', sp', tl', tx', al') => [(r = 1 ∧ 0 ≤ k ∧ k ≤ 3 ∧ 0 ≤ p ∧ p ≤ 5 ∧ 0 ≤ y ∧ y ≤ 400 ∧ 1 ≤ v ∧ v ≤ 15) ∨ r = 0]
  | _, _, _ => []))
def kq_hasAim : List mq_V → mq_R → mq_M → List mq_Cu := fun as ρ μ => match as, ρ with
  | [.inr (.inr (some (_, _))), .inl k, .inl p, .inl y, .inl v], (nw, sp, tl, tx, al) => []
  | _, _ => []
set_option maxHeartbeats 16000000 in
set_option maxRecDepth 100000 in
theorem vq_hasAim (lc : Launch) (h_hasRun : mq_Ct lc cq_hasRun) (h_has_platforms : mq_Ct lc cq_has_platforms) : mq_Ct lc cq_hasAim := by
  refine mq_method (lc := lc) (P := pq_hasAim) (cl := [cq_hasRun, cq_has_platforms]) (T := ([(27, 10, 3), (152, 3, 5)], [], [], [(148, 0, 0), (139, 1, 0)], [], [])) (fuel := 400) (cuts := kq_hasAim) (by decide) rfl ⟨rfl, rfl⟩ (List.forall_mem_cons.mpr ⟨h_hasRun, (List.forall_mem_cons.mpr ⟨h_has_platforms, (fun _ h => absurd h List.not_mem_nil)⟩)⟩) ⟨(List.forall_mem_cons.mpr ⟨⟨_, rfl, by decide, kw_514⟩, (List.forall_mem_cons.mpr ⟨⟨_, rfl, by decide, kw_548⟩, (fun _ h => absurd h List.not_mem_nil)⟩)⟩), (fun _ h => absurd h List.not_mem_nil), (fun _ h => absurd h List.not_mem_nil), (List.forall_mem_cons.mpr ⟨mq_ml0 rfl mw0_hasRun kw_552, (List.forall_mem_cons.mpr ⟨mq_ml0 rfl mw0_has_platforms kw_543, (fun _ h => absurd h List.not_mem_nil)⟩)⟩), (fun _ h => absurd h List.not_mem_nil), (fun _ h => absurd h List.not_mem_nil)⟩ (by decide +kernel) ⟨_, _, rfl⟩ ?_ ?_ ?_ ?_
  · intro as ρ μ h
    obtain ⟨nw, sp, tl, tx, al⟩ := ρ
    obtain ⟨as0, rfl, h0⟩ := mq_pZ_spec h
    clear h
    obtain ⟨k, as1, rfl, h1⟩ := mq_pI_spec h0
    clear h0
    obtain ⟨p, as2, rfl, h2⟩ := mq_pI_spec h1
    clear h1
    obtain ⟨y, as3, rfl, h3⟩ := mq_pI_spec h2
    clear h2
    obtain ⟨v, as4, rfl, h4⟩ := mq_pI_spec h3
    clear h3
    obtain ⟨rfl, hp⟩ := mq_p0_spec h4
    clear h4
    rfl
  · intro as ρ μ h
    obtain ⟨nw, sp, tl, tx, al⟩ := ρ
    obtain ⟨as0, rfl, h0⟩ := mq_pZ_spec h
    clear h
    obtain ⟨k, as1, rfl, h1⟩ := mq_pI_spec h0
    clear h0
    obtain ⟨p, as2, rfl, h2⟩ := mq_pI_spec h1
    clear h1
    obtain ⟨y, as3, rfl, h3⟩ := mq_pI_spec h2
    clear h2
    obtain ⟨v, as4, rfl, h4⟩ := mq_pI_spec h3
    clear h3
    obtain ⟨rfl, hp⟩ := mq_p0_spec h4
    clear h4
    intro hrg
    obtain ⟨⟨ha1a, ha1b⟩, ⟨ha2a, ha2b⟩, ⟨ha3a, ha3b⟩, ⟨ha4a, ha4b⟩, -⟩ := hrg
    intro hbk
    have e0 : mq_l0 ([.inr (.inr (some (0, 0))), .inl k, .inl p, .inl y, .inl v] : List mq_V) 5 = [some (.inr (.inr (some (0, 0)))), some (.inl k), some (.inl p), some (.inl y), some (.inl v)] := rfl
    rw [e0]
    repeat' (first | refine And.intro ?_ ?_ | intro _)
    all_goals first | omega | rfl | exact trivial | (simp [mq_up] at * <;> omega)
  · intro as ρ μ h
    obtain ⟨nw, sp, tl, tx, al⟩ := ρ
    obtain ⟨as0, rfl, h0⟩ := mq_pZ_spec h
    clear h
    obtain ⟨k, as1, rfl, h1⟩ := mq_pI_spec h0
    clear h0
    obtain ⟨p, as2, rfl, h2⟩ := mq_pI_spec h1
    clear h1
    obtain ⟨y, as3, rfl, h3⟩ := mq_pI_spec h2
    clear h2
    obtain ⟨v, as4, rfl, h4⟩ := mq_pI_spec h3
    clear h3
    obtain ⟨rfl, hp⟩ := mq_p0_spec h4
    clear h4
    exact fun _ h => absurd h List.not_mem_nil
  · intro as ρ μ h
    obtain ⟨nw, sp, tl, tx, al⟩ := ρ
    obtain ⟨as0, rfl, h0⟩ := mq_pZ_spec h
    clear h
    obtain ⟨k, as1, rfl, h1⟩ := mq_pI_spec h0
    clear h0
    obtain ⟨p, as2, rfl, h2⟩ := mq_pI_spec h1
    clear h1
    obtain ⟨y, as3, rfl, h3⟩ := mq_pI_spec h2
    clear h2
    obtain ⟨v, as4, rfl, h4⟩ := mq_pI_spec h3
    clear h3
    obtain ⟨rfl, hp⟩ := mq_p0_spec h4
    clear h4
    intro hrg
    obtain ⟨⟨ha1a, ha1b⟩, ⟨ha2a, ha2b⟩, ⟨ha3a, ha3b⟩, ⟨ha4a, ha4b⟩, -⟩ := hrg
    exact fun _ h => absurd h List.not_mem_nil
theorem mw0_hasAim : mq_mlA cq_hasAim 0 := ⟨kw_553, ⟨by decide +kernel, by decide +kernel⟩, by decide +kernel, kw_554, kw_555, kw_95, 0, by decide +kernel, fun as ρ μ h => by obtain ⟨nw, sp, tl, tx, al⟩ := ρ; obtain ⟨t, e, _⟩ := mq_pZ_spec h; exact ⟨0, t, e⟩⟩
def pq_takesAim : List mq_E := [(0, false, .aload 0), (1, false, .iload 1), (2, false, .iload 2), (3, false, .iload 3), (4, false, .iload 4), (6, false, .invokestatic 0), (9, false, .istore 5), (11, false, .iload 5), (13, false, .ifCond .eq (Int.ofNat 25)), (16, false, .aload 0), (17, false, .invokeinterface 10 10), (20, false, .iload 1), (21, false, .iload 2), (22, false, .invokestatic 1), (25, false, .iload 5), (27, false, .ireturn)]
def cq_takesAim : mq_C := ((yX10_takesAim, cX10_takesAim, 6, (some .boolean), { frames := 4, cells := 16, slots := 6416, locals := 104 }), (5, 1, 1, 1), 12884901890, (fun as ρ μ => match ρ with
  | (nw, sp, tl, tx, al) => mq_pZ as 0 fun as => mq_pI as fun k as => mq_pI as fun p as => mq_pI as fun y as => mq_pI as fun v as => mq_p0 as (True)),
  (fun as ρ μ r ρ' μ' => match as, ρ, ρ' with
  | [.inr (.inr (some (_, _))), .inl k, .inl p, .inl y, .inl v], (nw, sp, tl, tx, al), (nw', sp', tl', tx', al') => [(r = 1 ∧ 0 ≤ k ∧ k ≤ 3 ∧ 0 ≤ p ∧ p ≤ 5 ∧ 0 ≤ y ∧ y ≤ 400 ∧ 1 ≤ v ∧ v ≤ 15) ∨ r = 0]
  | _, _, _ => []))
def kq_takesAim : List mq_V → mq_R → mq_M → List mq_Cu := fun as ρ μ => match as, ρ with
  | [.inr (.inr (some (_, _))), .inl k, .inl p, .inl y, .inl v], (nw, sp, tl, tx, al) => []
  | _, _ => []
set_option maxHeartbeats 16000000 in
set_option maxRecDepth 100000 in
theorem vq_takesAim (lc : Launch) (h_hasAim : mq_Ct lc cq_hasAim) (h_prepare : mq_Ct lc cq_prepare) : mq_Ct lc cq_takesAim := by
  refine mq_method (lc := lc) (P := pq_takesAim) (cl := [cq_hasAim, cq_prepare]) (T := ([(64, 10, 10)], [], [], [(155, 0, 0), (159, 1, 0)], [], [])) (fuel := 400) (cuts := kq_takesAim) (by decide) rfl ⟨rfl, rfl⟩ (List.forall_mem_cons.mpr ⟨h_hasAim, (List.forall_mem_cons.mpr ⟨h_prepare, (fun _ h => absurd h List.not_mem_nil)⟩)⟩) ⟨(List.forall_mem_cons.mpr ⟨⟨_, rfl, by decide, kw_515⟩, (fun _ h => absurd h List.not_mem_nil)⟩), (fun _ h => absurd h List.not_mem_nil), (fun _ h => absurd h List.not_mem_nil), (List.forall_mem_cons.mpr ⟨mq_ml0 rfl mw0_hasAim kw_556, (List.forall_mem_cons.mpr ⟨mq_ml0 rfl mw0_prepare kw_560, (fun _ h => absurd h List.not_mem_nil)⟩)⟩), (fun _ h => absurd h List.not_mem_nil), (fun _ h => absurd h List.not_mem_nil)⟩ (by decide +kernel) ⟨_, _, rfl⟩ ?_ ?_ ?_ ?_
  · intro as ρ μ h
    obtain ⟨nw, sp, tl, tx, al⟩ := ρ
    obtain ⟨as0, rfl, h0⟩ := mq_pZ_spec h
    clear h
    obtain ⟨k, as1, rfl, h1⟩ := mq_pI_spec h0
    clear h0
    obtain ⟨p, as2, rfl, h2⟩ := mq_pI_spec h1
    clear h1
    obtain ⟨y, as3, rfl, h3⟩ := mq_pI_spec h2
    clear h2
    obtain ⟨v, as4, rfl, h4⟩ := mq_pI_spec h3
    clear h3
    obtain ⟨rfl, hp⟩ := mq_p0_spec h4
    clear h4
    rfl
  · intro as ρ μ h
    obtain ⟨nw, sp, tl, tx, al⟩ := ρ
    obtain ⟨as0, rfl, h0⟩ := mq_pZ_spec h
    clear h
    obtain ⟨k, as1, rfl, h1⟩ := mq_pI_spec h0
    clear h0
    obtain ⟨p, as2, rfl, h2⟩ := mq_pI_spec h1
    clear h1
    obtain ⟨y, as3, rfl, h3⟩ := mq_pI_spec h2
    clear h2
    obtain ⟨v, as4, rfl, h4⟩ := mq_pI_spec h3
    clear h3
    obtain ⟨rfl, hp⟩ := mq_p0_spec h4
    clear h4
    intro hrg
    obtain ⟨⟨ha1a, ha1b⟩, ⟨ha2a, ha2b⟩, ⟨ha3a, ha3b⟩, ⟨ha4a, ha4b⟩, -⟩ := hrg
    intro hbk
    have e0 : mq_l0 ([.inr (.inr (some (0, 0))), .inl k, .inl p, .inl y, .inl v] : List mq_V) 6 = [some (.inr (.inr (some (0, 0)))), some (.inl k), some (.inl p), some (.inl y), some (.inl v), none] := rfl
    rw [e0]
    repeat' (first | refine And.intro ?_ ?_ | intro _)
    all_goals first | omega | rfl | exact trivial | (simp [mq_up] at * <;> omega)
  · intro as ρ μ h
    obtain ⟨nw, sp, tl, tx, al⟩ := ρ
    obtain ⟨as0, rfl, h0⟩ := mq_pZ_spec h
    clear h
    obtain ⟨k, as1, rfl, h1⟩ := mq_pI_spec h0
    clear h0
    obtain ⟨p, as2, rfl, h2⟩ := mq_pI_spec h1
    clear h1
    obtain ⟨y, as3, rfl, h3⟩ := mq_pI_spec h2
    clear h2
    obtain ⟨v, as4, rfl, h4⟩ := mq_pI_spec h3
    clear h3
    obtain ⟨rfl, hp⟩ := mq_p0_spec h4
    clear h4
    exact fun _ h => absurd h List.not_mem_nil
  · intro as ρ μ h
    obtain ⟨nw, sp, tl, tx, al⟩ := ρ
    obtain ⟨as0, rfl, h0⟩ := mq_pZ_spec h
    clear h
    obtain ⟨k, as1, rfl, h1⟩ := mq_pI_spec h0
    clear h0
    obtain ⟨p, as2, rfl, h2⟩ := mq_pI_spec h1
    clear h1
    obtain ⟨y, as3, rfl, h3⟩ := mq_pI_spec h2
    clear h2
    obtain ⟨v, as4, rfl, h4⟩ := mq_pI_spec h3
    clear h3
    obtain ⟨rfl, hp⟩ := mq_p0_spec h4
    clear h4
    intro hrg
    obtain ⟨⟨ha1a, ha1b⟩, ⟨ha2a, ha2b⟩, ⟨ha3a, ha3b⟩, ⟨ha4a, ha4b⟩, -⟩ := hrg
    exact fun _ h => absurd h List.not_mem_nil
theorem mw0_takesAim : mq_mlA cq_takesAim 0 := ⟨kw_575, ⟨by decide +kernel, by decide +kernel⟩, by decide +kernel, kw_576, kw_577, kw_95, 0, by decide +kernel, fun as ρ μ h => by obtain ⟨nw, sp, tl, tx, al⟩ := ρ; obtain ⟨t, e, _⟩ := mq_pZ_spec h; exact ⟨0, t, e⟩⟩
def pq_yard : List mq_E := [(0, false, .aload 0), (1, false, .iload 1), (2, false, .invokestatic 0), (5, false, .ifCond .ne (Int.ofNat 11)), (8, false, .iconst (-2)), (10, false, .ireturn), (11, false, .iload 2), (12, false, .tableswitch (Int.ofNat 70) 0 2 #[(Int.ofNat 40), (Int.ofNat 52), (Int.ofNat 61)]), (40, false, .aload 0), (41, false, .invokeinterface 10 9), (44, false, .iload 1), (45, false, .invokestatic 1), (48, false, .iconst 10), (50, false, .iadd), (51, false, .ireturn), (52, false, .aload 0), (53, false, .invokeinterface 10 9), (56, false, .iload 1), (57, false, .invokestatic 2), (60, false, .ireturn), (61, false, .aload 0), (62, false, .invokeinterface 10 9), (65, false, .iload 1), (66, false, .invokestatic 3), (69, false, .ireturn), (70, false, .iconst (-2)), (72, false, .ireturn)]
def cq_yard : mq_C := ((yX10_yard, cX10_yard, 3, (some .int), { frames := 2, cells := 0, slots := 0, locals := 43 }), (3, 1, 0, 0), 0, (fun as ρ μ => match ρ with
  | (nw, sp, tl, tx, al) => mq_pZ as 0 fun as => mq_pI as fun y as => mq_pI as fun w as => mq_p0 as (True)),
  (fun as ρ μ r ρ' μ' => match as, ρ, ρ' with
  | [.inr (.inr (some (_, _))), .inl y, .inl w], (nw, sp, tl, tx, al), (nw', sp', tl', tx', al') => []
  | _, _, _ => []))
def kq_yard : List mq_V → mq_R → mq_M → List mq_Cu := fun as ρ μ => match as, ρ with
  | [.inr (.inr (some (_, _))), .inl y, .inl w], (nw, sp, tl, tx, al) => []
  | _, _ => []
set_option maxHeartbeats 16000000 in
set_option maxRecDepth 100000 in
theorem vq_yard (lc : Launch) (h_hasYard : mq_Ct lc cq_hasYard) (h_slopeOf : mq_Ct lc cq_slopeOf) (h_wetOf : mq_Ct lc cq_wetOf) (h_limitOf : mq_Ct lc cq_limitOf) : mq_Ct lc cq_yard := by
  refine mq_method (lc := lc) (P := pq_yard) (cl := [cq_hasYard, cq_slopeOf, cq_wetOf, cq_limitOf]) (T := ([(55, 10, 9)], [], [], [(145, 0, 0), (163, 1, 0), (167, 2, 0), (170, 3, 0)], [], [])) (fuel := 400) (cuts := kq_yard) (by decide) rfl ⟨rfl, rfl⟩ (List.forall_mem_cons.mpr ⟨h_hasYard, (List.forall_mem_cons.mpr ⟨h_slopeOf, (List.forall_mem_cons.mpr ⟨h_wetOf, (List.forall_mem_cons.mpr ⟨h_limitOf, (fun _ h => absurd h List.not_mem_nil)⟩)⟩)⟩)⟩) ⟨(List.forall_mem_cons.mpr ⟨⟨_, rfl, by decide, kw_513⟩, (fun _ h => absurd h List.not_mem_nil)⟩), (fun _ h => absurd h List.not_mem_nil), (fun _ h => absurd h List.not_mem_nil), (List.forall_mem_cons.mpr ⟨mq_ml0 rfl mw0_hasYard kw_547, (List.forall_mem_cons.mpr ⟨mq_ml0 rfl mw0_slopeOf kw_564, (List.forall_mem_cons.mpr ⟨mq_ml0 rfl mw0_wetOf kw_565, (List.forall_mem_cons.mpr ⟨mq_ml0 rfl mw0_limitOf kw_566, (fun _ h => absurd h List.not_mem_nil)⟩)⟩)⟩)⟩), (fun _ h => absurd h List.not_mem_nil), (fun _ h => absurd h List.not_mem_nil)⟩ (by decide +kernel) ⟨_, _, rfl⟩ ?_ ?_ ?_ ?_
  · intro as ρ μ h
    obtain ⟨nw, sp, tl, tx, al⟩ := ρ
    obtain ⟨as0, rfl, h0⟩ := mq_pZ_spec h
    clear h
    obtain ⟨y, as1, rfl, h1⟩ := mq_pI_spec h0
    clear h0
    obtain ⟨w, as2, rfl, h2⟩ := mq_pI_spec h1
    clear h1
    obtain ⟨rfl, hp⟩ := mq_p0_spec h2
    clear h2
    rfl
  · intro as ρ μ h
    obtain ⟨nw, sp, tl, tx, al⟩ := ρ
    obtain ⟨as0, rfl, h0⟩ := mq_pZ_spec h
    clear h
    obtain ⟨y, as1, rfl, h1⟩ := mq_pI_spec h0
    clear h0
    obtain ⟨w, as2, rfl, h2⟩ := mq_pI_spec h1
    clear h1
    obtain ⟨rfl, hp⟩ := mq_p0_spec h2
    clear h2
    intro hrg
    obtain ⟨⟨ha1a, ha1b⟩, ⟨ha2a, ha2b⟩, -⟩ := hrg
    intro hbk
    have e0 : mq_l0 ([.inr (.inr (some (0, 0))), .inl y, .inl w] : List mq_V) 3 = [some (.inr (.inr (some (0, 0)))), some (.inl y), some (.inl w)] := rfl
    rw [e0]
    repeat' (first | refine And.intro ?_ ?_ | intro _)
    all_goals first | omega | rfl | exact trivial | (simp [mq_up] at * <;> omega)
  · intro as ρ μ h
    obtain ⟨nw, sp, tl, tx, al⟩ := ρ
    obtain ⟨as0, rfl, h0⟩ := mq_pZ_spec h
    clear h
    obtain ⟨y, as1, rfl, h1⟩ := mq_pI_spec h0
    clear h0
    obtain ⟨w, as2, rfl, h2⟩ := mq_pI_spec h1
    clear h1
    obtain ⟨rfl, hp⟩ := mq_p0_spec h2
    clear h2
    exact fun _ h => absurd h List.not_mem_nil
  · intro as ρ μ h
    obtain ⟨nw, sp, tl, tx, al⟩ := ρ
    obtain ⟨as0, rfl, h0⟩ := mq_pZ_spec h
    clear h
    obtain ⟨y, as1, rfl, h1⟩ := mq_pI_spec h0
    clear h0
    obtain ⟨w, as2, rfl, h2⟩ := mq_pI_spec h1
    clear h1
    obtain ⟨rfl, hp⟩ := mq_p0_spec h2
    clear h2
    intro hrg
    obtain ⟨⟨ha1a, ha1b⟩, ⟨ha2a, ha2b⟩, -⟩ := hrg
    exact fun _ h => absurd h List.not_mem_nil
def pq_coach : List mq_E := [(0, false, .aload 0), (1, false, .invokeinterface 10 3), (4, false, .invokeinterface 3 8), (7, false, .iload 1), (8, false, .invokestatic 0), (11, false, .ifCond .eq (Int.ofNat 23)), (14, false, .iload 2), (15, false, .iconst 0), (16, false, .iconst 4), (17, false, .invokestatic 1), (20, false, .ifCond .ne (Int.ofNat 26)), (23, false, .iconst (-2)), (25, false, .ireturn), (26, false, .aload 0), (27, false, .invokeinterface 10 3), (30, false, .invokeinterface 3 8), (33, false, .iload 1), (34, false, .iload 2), (35, false, .invokestatic 2), (38, false, .ireturn)]
def cq_coach : mq_C := ((yX10_coach, cX10_coach, 3, (some .int), { frames := 1, cells := 0, slots := 0, locals := 22 }), (3, 1, 0, 0), 0, (fun as ρ μ => match ρ with
  | (nw, sp, tl, tx, al) => mq_pZ as 0 fun as => mq_pI as fun c as => mq_pI as fun w as => mq_p0 as (True)),
  (fun as ρ μ r ρ' μ' => match as, ρ, ρ' with
  | [.inr (.inr (some (_, _))), .inl c, .inl w], (nw, sp, tl, tx, al), (nw', sp', tl', tx', al') => []
  | _, _, _ => []))
def kq_coach : List mq_V → mq_R → mq_M → List mq_Cu := fun as ρ μ => match as, ρ with
  | [.inr (.inr (some (_, _))), .inl c, .inl w], (nw, sp, tl, tx, al) => []
  | _, _ => []
set_option maxHeartbeats 16000000 in
set_option maxRecDepth 100000 in
theorem vq_coach (lc : Launch) (h_has_coaches : mq_Ct lc cq_has_coaches) (h_isAmong : mq_Ct lc cq_isAmong) (h_get_coaches : mq_Ct lc cq_get_coaches) : mq_Ct lc cq_coach := by
  refine mq_method (lc := lc) (P := pq_coach) (cl := [cq_has_coaches, cq_isAmong, cq_get_coaches]) (T := ([(27, 10, 3), (173, 3, 8)], [], [], [(139, 0, 0), (176, 1, 1), (179, 2, 0)], [], [])) (fuel := 400) (cuts := kq_coach) (by decide) rfl ⟨rfl, rfl⟩ (List.forall_mem_cons.mpr ⟨h_has_coaches, (List.forall_mem_cons.mpr ⟨h_isAmong, (List.forall_mem_cons.mpr ⟨h_get_coaches, (fun _ h => absurd h List.not_mem_nil)⟩)⟩)⟩) ⟨(List.forall_mem_cons.mpr ⟨⟨_, rfl, by decide, kw_514⟩, (List.forall_mem_cons.mpr ⟨⟨_, rfl, by decide, kw_567⟩, (fun _ h => absurd h List.not_mem_nil)⟩)⟩), (fun _ h => absurd h List.not_mem_nil), (fun _ h => absurd h List.not_mem_nil), (List.forall_mem_cons.mpr ⟨mq_ml0 rfl mw0_has_coaches kw_543, (List.forall_mem_cons.mpr ⟨mq_ml1 rfl mw1_isAmong kw_568, (List.forall_mem_cons.mpr ⟨mq_ml0 rfl mw0_get_coaches kw_569, (fun _ h => absurd h List.not_mem_nil)⟩)⟩)⟩), (fun _ h => absurd h List.not_mem_nil), (fun _ h => absurd h List.not_mem_nil)⟩ (by decide +kernel) ⟨_, _, rfl⟩ ?_ ?_ ?_ ?_
  · intro as ρ μ h
    obtain ⟨nw, sp, tl, tx, al⟩ := ρ
    obtain ⟨as0, rfl, h0⟩ := mq_pZ_spec h
    clear h
    obtain ⟨c, as1, rfl, h1⟩ := mq_pI_spec h0
    clear h0
    obtain ⟨w, as2, rfl, h2⟩ := mq_pI_spec h1
    clear h1
    obtain ⟨rfl, hp⟩ := mq_p0_spec h2
    clear h2
    rfl
  · intro as ρ μ h
    obtain ⟨nw, sp, tl, tx, al⟩ := ρ
    obtain ⟨as0, rfl, h0⟩ := mq_pZ_spec h
    clear h
    obtain ⟨c, as1, rfl, h1⟩ := mq_pI_spec h0
    clear h0
    obtain ⟨w, as2, rfl, h2⟩ := mq_pI_spec h1
    clear h1
    obtain ⟨rfl, hp⟩ := mq_p0_spec h2
    clear h2
    intro hrg
    obtain ⟨⟨ha1a, ha1b⟩, ⟨ha2a, ha2b⟩, -⟩ := hrg
    intro hbk
    have e0 : mq_l0 ([.inr (.inr (some (0, 0))), .inl c, .inl w] : List mq_V) 3 = [some (.inr (.inr (some (0, 0)))), some (.inl c), some (.inl w)] := rfl
    rw [e0]
    repeat' (first | refine And.intro ?_ ?_ | intro _)
    all_goals first | omega | rfl | exact trivial | (simp [mq_up] at * <;> omega)
  · intro as ρ μ h
    obtain ⟨nw, sp, tl, tx, al⟩ := ρ
    obtain ⟨as0, rfl, h0⟩ := mq_pZ_spec h
    clear h
    obtain ⟨c, as1, rfl, h1⟩ := mq_pI_spec h0
    clear h0
    obtain ⟨w, as2, rfl, h2⟩ := mq_pI_spec h1
    clear h1
    obtain ⟨rfl, hp⟩ := mq_p0_spec h2
    clear h2
    exact fun _ h => absurd h List.not_mem_nil
  · intro as ρ μ h
    obtain ⟨nw, sp, tl, tx, al⟩ := ρ
    obtain ⟨as0, rfl, h0⟩ := mq_pZ_spec h
    clear h
    obtain ⟨c, as1, rfl, h1⟩ := mq_pI_spec h0
    clear h0
    obtain ⟨w, as2, rfl, h2⟩ := mq_pI_spec h1
    clear h1
    obtain ⟨rfl, hp⟩ := mq_p0_spec h2
    clear h2
    intro hrg
    obtain ⟨⟨ha1a, ha1b⟩, ⟨ha2a, ha2b⟩, -⟩ := hrg
    exact fun _ h => absurd h List.not_mem_nil
def pq_rain : List mq_E := [(0, false, .aload 0), (1, false, .invokestatic 0), (4, false, .ifCond .eq (Int.ofNat 17)), (7, false, .iload 1), (8, false, .iconst 0), (9, false, .iconst 100), (11, false, .invokestatic 1), (14, false, .ifCond .ne (Int.ofNat 20)), (17, false, .iconst (-2)), (19, false, .ireturn), (20, false, .aload 0), (21, false, .invokeinterface 10 9), (24, false, .invokeinterface 9 5), (27, false, .istore 2), (28, false, .iload 1), (29, false, .iload 2), (30, false, .if_icmp .eq (Int.ofNat 48)), (33, false, .aload 0), (34, false, .invokeinterface 10 9), (37, false, .iload 1), (38, false, .invokestatic 2), (41, false, .aload 0), (42, false, .invokeinterface 10 10), (45, false, .invokestatic 3), (48, false, .iload 2), (49, false, .ireturn)]
def cq_rain : mq_C := ((yX10_rain, cX10_rain, 3, (some .int), { frames := 4, cells := 0, slots := 0, locals := 92 }), (2, 1, 0, 0), 4865392640, (fun as ρ μ => match ρ with
  | (nw, sp, tl, tx, al) => mq_pZ as 0 fun as => mq_pI as fun n as => mq_p0 as (True)),
  (fun as ρ μ r ρ' μ' => match as, ρ, ρ' with
  | [.inr (.inr (some (_, _))), .inl n], (nw, sp, tl, tx, al), (nw', sp', tl', tx', al') => []
  | _, _, _ => []))
def kq_rain : List mq_V → mq_R → mq_M → List mq_Cu := fun as ρ μ => match as, ρ with
  | [.inr (.inr (some (_, _))), .inl n], (nw, sp, tl, tx, al) => []
  | _, _ => []
set_option maxHeartbeats 16000000 in
set_option maxRecDepth 100000 in
theorem vq_rain (lc : Launch) (h_hasLine : mq_Ct lc cq_hasLine) (h_isAmong : mq_Ct lc cq_isAmong) (h_soak : mq_Ct lc cq_soak) (h_forget : mq_Ct lc cq_forget) : mq_Ct lc cq_rain := by
  refine mq_method (lc := lc) (P := pq_rain) (cl := [cq_hasLine, cq_isAmong, cq_soak, cq_forget]) (T := ([(55, 10, 9), (183, 9, 5), (64, 10, 10)], [], [], [(131, 0, 0), (176, 1, 1), (186, 2, 0), (122, 3, 0)], [], [])) (fuel := 400) (cuts := kq_rain) (by decide) rfl ⟨rfl, rfl⟩ (List.forall_mem_cons.mpr ⟨h_hasLine, (List.forall_mem_cons.mpr ⟨h_isAmong, (List.forall_mem_cons.mpr ⟨h_soak, (List.forall_mem_cons.mpr ⟨h_forget, (fun _ h => absurd h List.not_mem_nil)⟩)⟩)⟩)⟩) ⟨(List.forall_mem_cons.mpr ⟨⟨_, rfl, by decide, kw_513⟩, (List.forall_mem_cons.mpr ⟨⟨_, rfl, by decide, kw_570⟩, (List.forall_mem_cons.mpr ⟨⟨_, rfl, by decide, kw_515⟩, (fun _ h => absurd h List.not_mem_nil)⟩)⟩)⟩), (fun _ h => absurd h List.not_mem_nil), (fun _ h => absurd h List.not_mem_nil), (List.forall_mem_cons.mpr ⟨mq_ml0 rfl mw0_hasLine kw_541, (List.forall_mem_cons.mpr ⟨mq_ml1 rfl mw1_isAmong kw_568, (List.forall_mem_cons.mpr ⟨mq_ml0 rfl mw0_soak kw_571, (List.forall_mem_cons.mpr ⟨mq_ml0 rfl mw0_forget kw_523, (fun _ h => absurd h List.not_mem_nil)⟩)⟩)⟩)⟩), (fun _ h => absurd h List.not_mem_nil), (fun _ h => absurd h List.not_mem_nil)⟩ (by decide +kernel) ⟨_, _, rfl⟩ ?_ ?_ ?_ ?_
  · intro as ρ μ h
    obtain ⟨nw, sp, tl, tx, al⟩ := ρ
    obtain ⟨as0, rfl, h0⟩ := mq_pZ_spec h
    clear h
    obtain ⟨n, as1, rfl, h1⟩ := mq_pI_spec h0
    clear h0
    obtain ⟨rfl, hp⟩ := mq_p0_spec h1
    clear h1
    rfl
  · intro as ρ μ h
    obtain ⟨nw, sp, tl, tx, al⟩ := ρ
    obtain ⟨as0, rfl, h0⟩ := mq_pZ_spec h
    clear h
    obtain ⟨n, as1, rfl, h1⟩ := mq_pI_spec h0
    clear h0
    obtain ⟨rfl, hp⟩ := mq_p0_spec h1
    clear h1
    intro hrg
    obtain ⟨⟨ha1a, ha1b⟩, -⟩ := hrg
    intro hbk
    have e0 : mq_l0 ([.inr (.inr (some (0, 0))), .inl n] : List mq_V) 3 = [some (.inr (.inr (some (0, 0)))), some (.inl n), none] := rfl
    rw [e0]
    repeat' (first | refine And.intro ?_ ?_ | intro _)
    all_goals first | omega | rfl | exact trivial | (simp [mq_up] at * <;> omega)
  · intro as ρ μ h
    obtain ⟨nw, sp, tl, tx, al⟩ := ρ
    obtain ⟨as0, rfl, h0⟩ := mq_pZ_spec h
    clear h
    obtain ⟨n, as1, rfl, h1⟩ := mq_pI_spec h0
    clear h0
    obtain ⟨rfl, hp⟩ := mq_p0_spec h1
    clear h1
    exact fun _ h => absurd h List.not_mem_nil
  · intro as ρ μ h
    obtain ⟨nw, sp, tl, tx, al⟩ := ρ
    obtain ⟨as0, rfl, h0⟩ := mq_pZ_spec h
    clear h
    obtain ⟨n, as1, rfl, h1⟩ := mq_pI_spec h0
    clear h0
    obtain ⟨rfl, hp⟩ := mq_p0_spec h1
    clear h1
    intro hrg
    obtain ⟨⟨ha1a, ha1b⟩, -⟩ := hrg
    exact fun _ h => absurd h List.not_mem_nil
def pq_post : List mq_E := [(0, false, .aload 0), (1, false, .invokeinterface 10 3), (4, false, .invokeinterface 3 8), (7, false, .iload 1), (8, false, .invokestatic 0), (11, false, .ifCond .eq (Int.ofNat 22)), (14, false, .aload 0), (15, false, .iload 2), (16, false, .invokestatic 1), (19, false, .ifCond .ne (Int.ofNat 25)), (22, false, .iconst (-2)), (24, false, .ireturn), (25, false, .aload 0), (26, false, .invokeinterface 10 3), (29, false, .invokeinterface 3 8), (32, false, .iload 1), (33, false, .iconst 3), (34, false, .invokestatic 2), (37, false, .istore 3), (38, false, .aload 0), (39, false, .invokeinterface 10 3), (42, false, .invokeinterface 3 8), (45, false, .iload 1), (46, false, .iconst 3), (47, false, .iload 2), (48, false, .invokestatic 3), (51, false, .iload 3), (52, false, .ireturn)]
def cq_post : mq_C := ((yX10_post, cX10_post, 4, (some .int), { frames := 2, cells := 0, slots := 0, locals := 41 }), (3, 1, 0, 0), 65536, (fun as ρ μ => match ρ with
  | (nw, sp, tl, tx, al) => mq_pZ as 0 fun as => mq_pI as fun c as => mq_pI as fun y as => mq_p0 as (True)),
  (fun as ρ μ r ρ' μ' => match as, ρ, ρ' with
  | [.inr (.inr (some (_, _))), .inl c, .inl y], (nw, sp, tl, tx, al), (nw', sp', tl', tx', al') => []
  | _, _, _ => []))
def kq_post : List mq_V → mq_R → mq_M → List mq_Cu := fun as ρ μ => match as, ρ with
  | [.inr (.inr (some (_, _))), .inl c, .inl y], (nw, sp, tl, tx, al) => []
  | _, _ => []
set_option maxHeartbeats 16000000 in
set_option maxRecDepth 100000 in
theorem vq_post (lc : Launch) (h_has_coaches : mq_Ct lc cq_has_coaches) (h_hasYard : mq_Ct lc cq_hasYard) (h_get_coaches : mq_Ct lc cq_get_coaches) (h_set_coaches : mq_Ct lc cq_set_coaches) : mq_Ct lc cq_post := by
  refine mq_method (lc := lc) (P := pq_post) (cl := [cq_has_coaches, cq_hasYard, cq_get_coaches, cq_set_coaches]) (T := ([(27, 10, 3), (173, 3, 8)], [], [], [(139, 0, 0), (145, 1, 0), (179, 2, 0), (189, 3, 0)], [], [])) (fuel := 400) (cuts := kq_post) (by decide) rfl ⟨rfl, rfl⟩ (List.forall_mem_cons.mpr ⟨h_has_coaches, (List.forall_mem_cons.mpr ⟨h_hasYard, (List.forall_mem_cons.mpr ⟨h_get_coaches, (List.forall_mem_cons.mpr ⟨h_set_coaches, (fun _ h => absurd h List.not_mem_nil)⟩)⟩)⟩)⟩) ⟨(List.forall_mem_cons.mpr ⟨⟨_, rfl, by decide, kw_514⟩, (List.forall_mem_cons.mpr ⟨⟨_, rfl, by decide, kw_567⟩, (fun _ h => absurd h List.not_mem_nil)⟩)⟩), (fun _ h => absurd h List.not_mem_nil), (fun _ h => absurd h List.not_mem_nil), (List.forall_mem_cons.mpr ⟨mq_ml0 rfl mw0_has_coaches kw_543, (List.forall_mem_cons.mpr ⟨mq_ml0 rfl mw0_hasYard kw_547, (List.forall_mem_cons.mpr ⟨mq_ml0 rfl mw0_get_coaches kw_569, (List.forall_mem_cons.mpr ⟨mq_ml0 rfl mw0_set_coaches kw_572, (fun _ h => absurd h List.not_mem_nil)⟩)⟩)⟩)⟩), (fun _ h => absurd h List.not_mem_nil), (fun _ h => absurd h List.not_mem_nil)⟩ (by decide +kernel) ⟨_, _, rfl⟩ ?_ ?_ ?_ ?_
  · intro as ρ μ h
    obtain ⟨nw, sp, tl, tx, al⟩ := ρ
    obtain ⟨as0, rfl, h0⟩ := mq_pZ_spec h
    clear h
    obtain ⟨c, as1, rfl, h1⟩ := mq_pI_spec h0
    clear h0
    obtain ⟨y, as2, rfl, h2⟩ := mq_pI_spec h1
    clear h1
    obtain ⟨rfl, hp⟩ := mq_p0_spec h2
    clear h2
    rfl
  · intro as ρ μ h
    obtain ⟨nw, sp, tl, tx, al⟩ := ρ
    obtain ⟨as0, rfl, h0⟩ := mq_pZ_spec h
    clear h
    obtain ⟨c, as1, rfl, h1⟩ := mq_pI_spec h0
    clear h0
    obtain ⟨y, as2, rfl, h2⟩ := mq_pI_spec h1
    clear h1
    obtain ⟨rfl, hp⟩ := mq_p0_spec h2
    clear h2
    intro hrg
    obtain ⟨⟨ha1a, ha1b⟩, ⟨ha2a, ha2b⟩, -⟩ := hrg
    intro hbk
    have e0 : mq_l0 ([.inr (.inr (some (0, 0))), .inl c, .inl y] : List mq_V) 4 = [some (.inr (.inr (some (0, 0)))), some (.inl c), some (.inl y), none] := rfl
    rw [e0]
    repeat' (first | refine And.intro ?_ ?_ | intro _)
    all_goals first | omega | rfl | exact trivial | (simp [mq_up] at * <;> omega)
  · intro as ρ μ h
    obtain ⟨nw, sp, tl, tx, al⟩ := ρ
    obtain ⟨as0, rfl, h0⟩ := mq_pZ_spec h
    clear h
    obtain ⟨c, as1, rfl, h1⟩ := mq_pI_spec h0
    clear h0
    obtain ⟨y, as2, rfl, h2⟩ := mq_pI_spec h1
    clear h1
    obtain ⟨rfl, hp⟩ := mq_p0_spec h2
    clear h2
    exact fun _ h => absurd h List.not_mem_nil
  · intro as ρ μ h
    obtain ⟨nw, sp, tl, tx, al⟩ := ρ
    obtain ⟨as0, rfl, h0⟩ := mq_pZ_spec h
    clear h
    obtain ⟨c, as1, rfl, h1⟩ := mq_pI_spec h0
    clear h0
    obtain ⟨y, as2, rfl, h2⟩ := mq_pI_spec h1
    clear h1
    obtain ⟨rfl, hp⟩ := mq_p0_spec h2
    clear h2
    intro hrg
    obtain ⟨⟨ha1a, ha1b⟩, ⟨ha2a, ha2b⟩, -⟩ := hrg
    exact fun _ h => absurd h List.not_mem_nil
def pq_shift : List mq_E := [(0, false, .aload 0), (1, false, .invokeinterface 10 3), (4, false, .invokeinterface 3 7), (7, false, .iload 1), (8, false, .invokestatic 0), (11, false, .ifCond .eq (Int.ofNat 25)), (14, false, .iload 2), (15, false, .iconst 0), (16, false, .iconst 300), (19, false, .invokestatic 1), (22, false, .ifCond .ne (Int.ofNat 28)), (25, false, .iconst (-2)), (27, false, .ireturn), (28, false, .aload 0), (29, false, .invokeinterface 10 3), (32, false, .invokeinterface 3 7), (35, false, .iload 1), (36, false, .iconst 0), (37, false, .invokestatic 2), (40, false, .istore 3), (41, false, .aload 0), (42, false, .invokeinterface 10 3), (45, false, .invokeinterface 3 7), (48, false, .iload 1), (49, false, .iconst 0), (50, false, .iload 2), (51, false, .invokestatic 3), (54, false, .iload 3), (55, false, .ireturn)]
def cq_shift : mq_C := ((yX10_shift, cX10_shift, 4, (some .int), { frames := 1, cells := 0, slots := 0, locals := 23 }), (3, 1, 0, 0), 32768, (fun as ρ μ => match ρ with
  | (nw, sp, tl, tx, al) => mq_pZ as 0 fun as => mq_pI as fun t as => mq_pI as fun k as => mq_p0 as (True)),
  (fun as ρ μ r ρ' μ' => match as, ρ, ρ' with
  | [.inr (.inr (some (_, _))), .inl t, .inl k], (nw, sp, tl, tx, al), (nw', sp', tl', tx', al') => []
  | _, _, _ => []))
def kq_shift : List mq_V → mq_R → mq_M → List mq_Cu := fun as ρ μ => match as, ρ with
  | [.inr (.inr (some (_, _))), .inl t, .inl k], (nw, sp, tl, tx, al) => []
  | _, _ => []
set_option maxHeartbeats 16000000 in
set_option maxRecDepth 100000 in
theorem vq_shift (lc : Launch) (h_has_trains : mq_Ct lc cq_has_trains) (h_isAmong : mq_Ct lc cq_isAmong) (h_get_trains : mq_Ct lc cq_get_trains) (h_set_trains : mq_Ct lc cq_set_trains) : mq_Ct lc cq_shift := by
  refine mq_method (lc := lc) (P := pq_shift) (cl := [cq_has_trains, cq_isAmong, cq_get_trains, cq_set_trains]) (T := ([(27, 10, 3), (193, 3, 7)], [], [], [(139, 0, 0), (176, 1, 1), (179, 2, 0), (189, 3, 0)], [], [])) (fuel := 400) (cuts := kq_shift) (by decide) rfl ⟨rfl, rfl⟩ (List.forall_mem_cons.mpr ⟨h_has_trains, (List.forall_mem_cons.mpr ⟨h_isAmong, (List.forall_mem_cons.mpr ⟨h_get_trains, (List.forall_mem_cons.mpr ⟨h_set_trains, (fun _ h => absurd h List.not_mem_nil)⟩)⟩)⟩)⟩) ⟨(List.forall_mem_cons.mpr ⟨⟨_, rfl, by decide, kw_514⟩, (List.forall_mem_cons.mpr ⟨⟨_, rfl, by decide, kw_573⟩, (fun _ h => absurd h List.not_mem_nil)⟩)⟩), (fun _ h => absurd h List.not_mem_nil), (fun _ h => absurd h List.not_mem_nil), (List.forall_mem_cons.mpr ⟨mq_ml0 rfl mw0_has_trains kw_543, (List.forall_mem_cons.mpr ⟨mq_ml1 rfl mw1_isAmong kw_568, (List.forall_mem_cons.mpr ⟨mq_ml0 rfl mw0_get_trains kw_569, (List.forall_mem_cons.mpr ⟨mq_ml0 rfl mw0_set_trains kw_572, (fun _ h => absurd h List.not_mem_nil)⟩)⟩)⟩)⟩), (fun _ h => absurd h List.not_mem_nil), (fun _ h => absurd h List.not_mem_nil)⟩ (by decide +kernel) ⟨_, _, rfl⟩ ?_ ?_ ?_ ?_
  · intro as ρ μ h
    obtain ⟨nw, sp, tl, tx, al⟩ := ρ
    obtain ⟨as0, rfl, h0⟩ := mq_pZ_spec h
    clear h
    obtain ⟨t, as1, rfl, h1⟩ := mq_pI_spec h0
    clear h0
    obtain ⟨k, as2, rfl, h2⟩ := mq_pI_spec h1
    clear h1
    obtain ⟨rfl, hp⟩ := mq_p0_spec h2
    clear h2
    rfl
  · intro as ρ μ h
    obtain ⟨nw, sp, tl, tx, al⟩ := ρ
    obtain ⟨as0, rfl, h0⟩ := mq_pZ_spec h
    clear h
    obtain ⟨t, as1, rfl, h1⟩ := mq_pI_spec h0
    clear h0
    obtain ⟨k, as2, rfl, h2⟩ := mq_pI_spec h1
    clear h1
    obtain ⟨rfl, hp⟩ := mq_p0_spec h2
    clear h2
    intro hrg
    obtain ⟨⟨ha1a, ha1b⟩, ⟨ha2a, ha2b⟩, -⟩ := hrg
    intro hbk
    have e0 : mq_l0 ([.inr (.inr (some (0, 0))), .inl t, .inl k] : List mq_V) 4 = [some (.inr (.inr (some (0, 0)))), some (.inl t), some (.inl k), none] := rfl
    rw [e0]
    repeat' (first | refine And.intro ?_ ?_ | intro _)
    all_goals first | omega | rfl | exact trivial | (simp [mq_up] at * <;> omega)
  · intro as ρ μ h
    obtain ⟨nw, sp, tl, tx, al⟩ := ρ
    obtain ⟨as0, rfl, h0⟩ := mq_pZ_spec h
    clear h
    obtain ⟨t, as1, rfl, h1⟩ := mq_pI_spec h0
    clear h0
    obtain ⟨k, as2, rfl, h2⟩ := mq_pI_spec h1
    clear h1
    obtain ⟨rfl, hp⟩ := mq_p0_spec h2
    clear h2
    exact fun _ h => absurd h List.not_mem_nil
  · intro as ρ μ h
    obtain ⟨nw, sp, tl, tx, al⟩ := ρ
    obtain ⟨as0, rfl, h0⟩ := mq_pZ_spec h
    clear h
    obtain ⟨t, as1, rfl, h1⟩ := mq_pI_spec h0
    clear h0
    obtain ⟨k, as2, rfl, h2⟩ := mq_pI_spec h1
    clear h1
    obtain ⟨rfl, hp⟩ := mq_p0_spec h2
    clear h2
    intro hrg
    obtain ⟨⟨ha1a, ha1b⟩, ⟨ha2a, ha2b⟩, -⟩ := hrg
    exact fun _ h => absurd h List.not_mem_nil
def pq_swap : List mq_E := [(0, false, .aload 0), (1, false, .invokeinterface 10 3), (4, false, .invokeinterface 3 8), (7, false, .astore 3), (8, false, .aload 3), (9, false, .iload 1), (10, false, .invokestatic 0), (13, false, .ifCond .eq (Int.ofNat 44)), (16, false, .aload 3), (17, false, .iload 2), (18, false, .invokestatic 0), (21, false, .ifCond .eq (Int.ofNat 44)), (24, false, .iload 1), (25, false, .iload 2), (26, false, .if_icmp .eq (Int.ofNat 44)), (29, false, .aload 3), (30, false, .iload 1), (31, false, .iconst 0), (32, false, .invokestatic 1), (35, false, .aload 3), (36, false, .iload 2), (37, false, .iconst 0), (38, false, .invokestatic 1), (41, false, .if_icmp .eq (Int.ofNat 47)), (44, false, .iconst (-2)), (46, false, .ireturn), (47, false, .aload 3), (48, false, .iload 1), (49, false, .iconst 4), (50, false, .invokestatic 1), (53, false, .istore 4), (55, false, .aload 3), (56, false, .iload 1), (57, false, .iconst 4), (58, false, .aload 3), (59, false, .iload 2), (60, false, .iconst 4), (61, false, .invokestatic 1), (64, false, .invokestatic 2), (67, false, .aload 3), (68, false, .iload 2), (69, false, .iconst 4), (70, false, .iload 4), (72, false, .invokestatic 2), (75, false, .iconst 0), (76, false, .ireturn)]
def cq_swap : mq_C := ((yX10_swap, cX10_swap, 5, (some .int), { frames := 1, cells := 0, slots := 0, locals := 23 }), (3, 1, 0, 0), 65536, (fun as ρ μ => match ρ with
  | (nw, sp, tl, tx, al) => mq_pZ as 0 fun as => mq_pI as fun a as => mq_pI as fun b as => mq_p0 as (True)),
  (fun as ρ μ r ρ' μ' => match as, ρ, ρ' with
  | [.inr (.inr (some (_, _))), .inl a, .inl b], (nw, sp, tl, tx, al), (nw', sp', tl', tx', al') => []
  | _, _, _ => []))
def kq_swap : List mq_V → mq_R → mq_M → List mq_Cu := fun as ρ μ => match as, ρ with
  | [.inr (.inr (some (_, _))), .inl a, .inl b], (nw, sp, tl, tx, al) => []
  | _, _ => []
set_option maxHeartbeats 16000000 in
set_option maxRecDepth 100000 in
theorem vq_swap (lc : Launch) (h_has_coaches : mq_Ct lc cq_has_coaches) (h_get_coaches : mq_Ct lc cq_get_coaches) (h_set_coaches : mq_Ct lc cq_set_coaches) : mq_Ct lc cq_swap := by
  refine mq_method (lc := lc) (P := pq_swap) (cl := [cq_has_coaches, cq_get_coaches, cq_set_coaches]) (T := ([(27, 10, 3), (173, 3, 8)], [], [], [(139, 0, 0), (179, 1, 0), (189, 2, 0)], [], [])) (fuel := 400) (cuts := kq_swap) (by decide) rfl ⟨rfl, rfl⟩ (List.forall_mem_cons.mpr ⟨h_has_coaches, (List.forall_mem_cons.mpr ⟨h_get_coaches, (List.forall_mem_cons.mpr ⟨h_set_coaches, (fun _ h => absurd h List.not_mem_nil)⟩)⟩)⟩) ⟨(List.forall_mem_cons.mpr ⟨⟨_, rfl, by decide, kw_514⟩, (List.forall_mem_cons.mpr ⟨⟨_, rfl, by decide, kw_567⟩, (fun _ h => absurd h List.not_mem_nil)⟩)⟩), (fun _ h => absurd h List.not_mem_nil), (fun _ h => absurd h List.not_mem_nil), (List.forall_mem_cons.mpr ⟨mq_ml0 rfl mw0_has_coaches kw_543, (List.forall_mem_cons.mpr ⟨mq_ml0 rfl mw0_get_coaches kw_569, (List.forall_mem_cons.mpr ⟨mq_ml0 rfl mw0_set_coaches kw_572, (fun _ h => absurd h List.not_mem_nil)⟩)⟩)⟩), (fun _ h => absurd h List.not_mem_nil), (fun _ h => absurd h List.not_mem_nil)⟩ (by decide +kernel) ⟨_, _, rfl⟩ ?_ ?_ ?_ ?_
  · intro as ρ μ h
    obtain ⟨nw, sp, tl, tx, al⟩ := ρ
    obtain ⟨as0, rfl, h0⟩ := mq_pZ_spec h
    clear h
    obtain ⟨a, as1, rfl, h1⟩ := mq_pI_spec h0
    clear h0
    obtain ⟨b, as2, rfl, h2⟩ := mq_pI_spec h1
    clear h1
    obtain ⟨rfl, hp⟩ := mq_p0_spec h2
    clear h2
    rfl
  · intro as ρ μ h
    obtain ⟨nw, sp, tl, tx, al⟩ := ρ
    obtain ⟨as0, rfl, h0⟩ := mq_pZ_spec h
    clear h
    obtain ⟨a, as1, rfl, h1⟩ := mq_pI_spec h0
    clear h0
    obtain ⟨b, as2, rfl, h2⟩ := mq_pI_spec h1
    clear h1
    obtain ⟨rfl, hp⟩ := mq_p0_spec h2
    clear h2
    intro hrg
    obtain ⟨⟨ha1a, ha1b⟩, ⟨ha2a, ha2b⟩, -⟩ := hrg
    intro hbk
    have e0 : mq_l0 ([.inr (.inr (some (0, 0))), .inl a, .inl b] : List mq_V) 5 = [some (.inr (.inr (some (0, 0)))), some (.inl a), some (.inl b), none, none] := rfl
    rw [e0]
    repeat' (first | refine And.intro ?_ ?_ | intro _)
    all_goals first | omega | rfl | exact trivial | (simp [mq_up] at * <;> omega)
  · intro as ρ μ h
    obtain ⟨nw, sp, tl, tx, al⟩ := ρ
    obtain ⟨as0, rfl, h0⟩ := mq_pZ_spec h
    clear h
    obtain ⟨a, as1, rfl, h1⟩ := mq_pI_spec h0
    clear h0
    obtain ⟨b, as2, rfl, h2⟩ := mq_pI_spec h1
    clear h1
    obtain ⟨rfl, hp⟩ := mq_p0_spec h2
    clear h2
    exact fun _ h => absurd h List.not_mem_nil
  · intro as ρ μ h
    obtain ⟨nw, sp, tl, tx, al⟩ := ρ
    obtain ⟨as0, rfl, h0⟩ := mq_pZ_spec h
    clear h
    obtain ⟨a, as1, rfl, h1⟩ := mq_pI_spec h0
    clear h0
    obtain ⟨b, as2, rfl, h2⟩ := mq_pI_spec h1
    clear h1
    obtain ⟨rfl, hp⟩ := mq_p0_spec h2
    clear h2
    intro hrg
    obtain ⟨⟨ha1a, ha1b⟩, ⟨ha2a, ha2b⟩, -⟩ := hrg
    exact fun _ h => absurd h List.not_mem_nil
def pq_tick : List mq_E := [(0, false, .aload 0), (1, false, .iload 1), (2, false, .iload 2), (3, false, .iload 3), (4, false, .invokestatic 0), (7, false, .ifCond .eq (Int.ofNat 30)), (10, false, .iload 4), (12, false, .iconst 0), (13, false, .iconst 3), (14, false, .invokestatic 1), (17, false, .ifCond .eq (Int.ofNat 30)), (20, false, .iload 5), (22, false, .iconst 0), (23, false, .iconst 1), (24, false, .invokestatic 1), (27, false, .ifCond .ne (Int.ofNat 33)), (30, false, .iconst (-2)), (32, false, .ireturn), (33, false, .aload 0), (34, false, .invokeinterface 10 9), (37, false, .iload 1), (38, false, .iload 2), (39, false, .iload 3), (40, false, .iload 4), (42, false, .invokestatic 2), (45, false, .istore 6), (47, false, .iload 5), (49, false, .ifCond .ne (Int.ofNat 59)), (52, false, .iload 2), (53, false, .iload 6), (55, false, .iadd), (56, false, .goto (Int.ofNat 61)), (59, false, .iload 6), (61, false, .ireturn)]
def cq_tick : mq_C := ((yX10_tick, cX10_tick, 7, (some .int), { frames := 3, cells := 0, slots := 0, locals := 64 }), (6, 1, 0, 0), 0, (fun as ρ μ => match ρ with
  | (nw, sp, tl, tx, al) => mq_pZ as 0 fun as => mq_pI as fun k as => mq_pI as fun y as => mq_pI as fun v as => mq_pI as fun s as => mq_pI as fun w as => mq_p0 as (True)),
  (fun as ρ μ r ρ' μ' => match as, ρ, ρ' with
  | [.inr (.inr (some (_, _))), .inl k, .inl y, .inl v, .inl s, .inl w], (nw, sp, tl, tx, al), (nw', sp', tl', tx', al') => []
  | _, _, _ => []))
def kq_tick : List mq_V → mq_R → mq_M → List mq_Cu := fun as ρ μ => match as, ρ with
  | [.inr (.inr (some (_, _))), .inl k, .inl y, .inl v, .inl s, .inl w], (nw, sp, tl, tx, al) => []
  | _, _ => []
set_option maxHeartbeats 16000000 in
set_option maxRecDepth 100000 in
theorem vq_tick (lc : Launch) (h_hasRun : mq_Ct lc cq_hasRun) (h_isAmong : mq_Ct lc cq_isAmong) (h_slowed : mq_Ct lc cq_slowed) : mq_Ct lc cq_tick := by
  refine mq_method (lc := lc) (P := pq_tick) (cl := [cq_hasRun, cq_isAmong, cq_slowed]) (T := ([(55, 10, 9)], [], [], [(148, 0, 0), (176, 1, 1), (196, 2, 0)], [], [])) (fuel := 400) (cuts := kq_tick) (by decide) rfl ⟨rfl, rfl⟩ (List.forall_mem_cons.mpr ⟨h_hasRun, (List.forall_mem_cons.mpr ⟨h_isAmong, (List.forall_mem_cons.mpr ⟨h_slowed, (fun _ h => absurd h List.not_mem_nil)⟩)⟩)⟩) ⟨(List.forall_mem_cons.mpr ⟨⟨_, rfl, by decide, kw_513⟩, (fun _ h => absurd h List.not_mem_nil)⟩), (fun _ h => absurd h List.not_mem_nil), (fun _ h => absurd h List.not_mem_nil), (List.forall_mem_cons.mpr ⟨mq_ml0 rfl mw0_hasRun kw_552, (List.forall_mem_cons.mpr ⟨mq_ml1 rfl mw1_isAmong kw_568, (List.forall_mem_cons.mpr ⟨mq_ml0 rfl mw0_slowed kw_574, (fun _ h => absurd h List.not_mem_nil)⟩)⟩)⟩), (fun _ h => absurd h List.not_mem_nil), (fun _ h => absurd h List.not_mem_nil)⟩ (by decide +kernel) ⟨_, _, rfl⟩ ?_ ?_ ?_ ?_
  · intro as ρ μ h
    obtain ⟨nw, sp, tl, tx, al⟩ := ρ
    obtain ⟨as0, rfl, h0⟩ := mq_pZ_spec h
    clear h
    obtain ⟨k, as1, rfl, h1⟩ := mq_pI_spec h0
    clear h0
    obtain ⟨y, as2, rfl, h2⟩ := mq_pI_spec h1
    clear h1
    obtain ⟨v, as3, rfl, h3⟩ := mq_pI_spec h2
    clear h2
    obtain ⟨s, as4, rfl, h4⟩ := mq_pI_spec h3
    clear h3
    obtain ⟨w, as5, rfl, h5⟩ := mq_pI_spec h4
    clear h4
    obtain ⟨rfl, hp⟩ := mq_p0_spec h5
    clear h5
    rfl
  · intro as ρ μ h
    obtain ⟨nw, sp, tl, tx, al⟩ := ρ
    obtain ⟨as0, rfl, h0⟩ := mq_pZ_spec h
    clear h
    obtain ⟨k, as1, rfl, h1⟩ := mq_pI_spec h0
    clear h0
    obtain ⟨y, as2, rfl, h2⟩ := mq_pI_spec h1
    clear h1
    obtain ⟨v, as3, rfl, h3⟩ := mq_pI_spec h2
    clear h2
    obtain ⟨s, as4, rfl, h4⟩ := mq_pI_spec h3
    clear h3
    obtain ⟨w, as5, rfl, h5⟩ := mq_pI_spec h4
    clear h4
    obtain ⟨rfl, hp⟩ := mq_p0_spec h5
    clear h5
    intro hrg
    obtain ⟨⟨ha1a, ha1b⟩, ⟨ha2a, ha2b⟩, ⟨ha3a, ha3b⟩, ⟨ha4a, ha4b⟩, ⟨ha5a, ha5b⟩, -⟩ := hrg
    intro hbk
    have e0 : mq_l0 ([.inr (.inr (some (0, 0))), .inl k, .inl y, .inl v, .inl s, .inl w] : List mq_V) 7 = [some (.inr (.inr (some (0, 0)))), some (.inl k), some (.inl y), some (.inl v), some (.inl s), some (.inl w), none] := rfl
    rw [e0]
    repeat' (first | refine And.intro ?_ ?_ | intro _)
    all_goals first | omega | rfl | exact trivial | (simp [mq_up] at * <;> omega)
  · intro as ρ μ h
    obtain ⟨nw, sp, tl, tx, al⟩ := ρ
    obtain ⟨as0, rfl, h0⟩ := mq_pZ_spec h
    clear h
    obtain ⟨k, as1, rfl, h1⟩ := mq_pI_spec h0
    clear h0
    obtain ⟨y, as2, rfl, h2⟩ := mq_pI_spec h1
    clear h1
    obtain ⟨v, as3, rfl, h3⟩ := mq_pI_spec h2
    clear h2
    obtain ⟨s, as4, rfl, h4⟩ := mq_pI_spec h3
    clear h3
    obtain ⟨w, as5, rfl, h5⟩ := mq_pI_spec h4
    clear h4
    obtain ⟨rfl, hp⟩ := mq_p0_spec h5
    clear h5
    exact fun _ h => absurd h List.not_mem_nil
  · intro as ρ μ h
    obtain ⟨nw, sp, tl, tx, al⟩ := ρ
    obtain ⟨as0, rfl, h0⟩ := mq_pZ_spec h
    clear h
    obtain ⟨k, as1, rfl, h1⟩ := mq_pI_spec h0
    clear h0
    obtain ⟨y, as2, rfl, h2⟩ := mq_pI_spec h1
    clear h1
    obtain ⟨v, as3, rfl, h3⟩ := mq_pI_spec h2
    clear h2
    obtain ⟨s, as4, rfl, h4⟩ := mq_pI_spec h3
    clear h3
    obtain ⟨w, as5, rfl, h5⟩ := mq_pI_spec h4
    clear h4
    obtain ⟨rfl, hp⟩ := mq_p0_spec h5
    clear h5
    intro hrg
    obtain ⟨⟨ha1a, ha1b⟩, ⟨ha2a, ha2b⟩, ⟨ha3a, ha3b⟩, ⟨ha4a, ha4b⟩, ⟨ha5a, ha5b⟩, -⟩ := hrg
    exact fun _ h => absurd h List.not_mem_nil
def pq_can : List mq_E := [(0, false, .aload 0), (1, false, .iload 1), (2, false, .iload 2), (3, false, .iload 3), (4, false, .iload 4), (6, false, .invokestatic 0), (9, false, .ifCond .ne (Int.ofNat 15)), (12, false, .iconst (-2)), (14, false, .ireturn), (15, false, .aload 0), (16, false, .invokeinterface 10 10), (19, false, .iload 1), (20, false, .iload 2), (21, false, .iload 3), (22, false, .iload 4), (24, false, .invokestatic 1), (27, false, .iconst (-1)), (28, false, .if_icmp .ne (Int.ofNat 35)), (31, false, .iconst 0), (32, false, .goto (Int.ofNat 36)), (35, false, .iconst 1), (36, false, .ireturn)]
def cq_can : mq_C := ((yX10_can, cX10_can, 5, (some .int), { frames := 5, cells := 16, slots := 6416, locals := 129 }), (5, 1, 1, 1), 12884901890, (fun as ρ μ => match ρ with
  | (nw, sp, tl, tx, al) => mq_pZ as 0 fun as => mq_pI as fun k as => mq_pI as fun p as => mq_pI as fun y as => mq_pI as fun v as => mq_p0 as (True)),
  (fun as ρ μ r ρ' μ' => match as, ρ, ρ' with
  | [.inr (.inr (some (_, _))), .inl k, .inl p, .inl y, .inl v], (nw, sp, tl, tx, al), (nw', sp', tl', tx', al') => []
  | _, _, _ => []))
def kq_can : List mq_V → mq_R → mq_M → List mq_Cu := fun as ρ μ => match as, ρ with
  | [.inr (.inr (some (_, _))), .inl k, .inl p, .inl y, .inl v], (nw, sp, tl, tx, al) => []
  | _, _ => []
set_option maxHeartbeats 16000000 in
set_option maxRecDepth 100000 in
theorem vq_can (lc : Launch) (h_takesAim : mq_Ct lc cq_takesAim) (h_firstStep : mq_Ct lc cq_firstStep) : mq_Ct lc cq_can := by
  refine mq_method (lc := lc) (P := pq_can) (cl := [cq_takesAim, cq_firstStep]) (T := ([(64, 10, 10)], [], [], [(200, 0, 0), (203, 1, 0)], [], [])) (fuel := 400) (cuts := kq_can) (by decide) rfl ⟨rfl, rfl⟩ (List.forall_mem_cons.mpr ⟨h_takesAim, (List.forall_mem_cons.mpr ⟨h_firstStep, (fun _ h => absurd h List.not_mem_nil)⟩)⟩) ⟨(List.forall_mem_cons.mpr ⟨⟨_, rfl, by decide, kw_515⟩, (fun _ h => absurd h List.not_mem_nil)⟩), (fun _ h => absurd h List.not_mem_nil), (fun _ h => absurd h List.not_mem_nil), (List.forall_mem_cons.mpr ⟨mq_ml0 rfl mw0_takesAim kw_578, (List.forall_mem_cons.mpr ⟨mq_ml0 rfl mw0_firstStep kw_579, (fun _ h => absurd h List.not_mem_nil)⟩)⟩), (fun _ h => absurd h List.not_mem_nil), (fun _ h => absurd h List.not_mem_nil)⟩ (by decide +kernel) ⟨_, _, rfl⟩ ?_ ?_ ?_ ?_
  · intro as ρ μ h
    obtain ⟨nw, sp, tl, tx, al⟩ := ρ
    obtain ⟨as0, rfl, h0⟩ := mq_pZ_spec h
    clear h
    obtain ⟨k, as1, rfl, h1⟩ := mq_pI_spec h0
    clear h0
    obtain ⟨p, as2, rfl, h2⟩ := mq_pI_spec h1
    clear h1
    obtain ⟨y, as3, rfl, h3⟩ := mq_pI_spec h2
    clear h2
    obtain ⟨v, as4, rfl, h4⟩ := mq_pI_spec h3
    clear h3
    obtain ⟨rfl, hp⟩ := mq_p0_spec h4
    clear h4
    rfl
  · intro as ρ μ h
    obtain ⟨nw, sp, tl, tx, al⟩ := ρ
    obtain ⟨as0, rfl, h0⟩ := mq_pZ_spec h
    clear h
    obtain ⟨k, as1, rfl, h1⟩ := mq_pI_spec h0
    clear h0
    obtain ⟨p, as2, rfl, h2⟩ := mq_pI_spec h1
    clear h1
    obtain ⟨y, as3, rfl, h3⟩ := mq_pI_spec h2
    clear h2
    obtain ⟨v, as4, rfl, h4⟩ := mq_pI_spec h3
    clear h3
    obtain ⟨rfl, hp⟩ := mq_p0_spec h4
    clear h4
    intro hrg
    obtain ⟨⟨ha1a, ha1b⟩, ⟨ha2a, ha2b⟩, ⟨ha3a, ha3b⟩, ⟨ha4a, ha4b⟩, -⟩ := hrg
    intro hbk
    have e0 : mq_l0 ([.inr (.inr (some (0, 0))), .inl k, .inl p, .inl y, .inl v] : List mq_V) 5 = [some (.inr (.inr (some (0, 0)))), some (.inl k), some (.inl p), some (.inl y), some (.inl v)] := rfl
    rw [e0]
    repeat' (first | refine And.intro ?_ ?_ | intro _)
    all_goals first | omega | rfl | exact trivial | (simp [mq_up] at * <;> omega)
  · intro as ρ μ h
    obtain ⟨nw, sp, tl, tx, al⟩ := ρ
    obtain ⟨as0, rfl, h0⟩ := mq_pZ_spec h
    clear h
    obtain ⟨k, as1, rfl, h1⟩ := mq_pI_spec h0
    clear h0
    obtain ⟨p, as2, rfl, h2⟩ := mq_pI_spec h1
    clear h1
    obtain ⟨y, as3, rfl, h3⟩ := mq_pI_spec h2
    clear h2
    obtain ⟨v, as4, rfl, h4⟩ := mq_pI_spec h3
    clear h3
    obtain ⟨rfl, hp⟩ := mq_p0_spec h4
    clear h4
    exact fun _ h => absurd h List.not_mem_nil
  · intro as ρ μ h
    obtain ⟨nw, sp, tl, tx, al⟩ := ρ
    obtain ⟨as0, rfl, h0⟩ := mq_pZ_spec h
    clear h
    obtain ⟨k, as1, rfl, h1⟩ := mq_pI_spec h0
    clear h0
    obtain ⟨p, as2, rfl, h2⟩ := mq_pI_spec h1
    clear h1
    obtain ⟨y, as3, rfl, h3⟩ := mq_pI_spec h2
    clear h2
    obtain ⟨v, as4, rfl, h4⟩ := mq_pI_spec h3
    clear h3
    obtain ⟨rfl, hp⟩ := mq_p0_spec h4
    clear h4
    intro hrg
    obtain ⟨⟨ha1a, ha1b⟩, ⟨ha2a, ha2b⟩, ⟨ha3a, ha3b⟩, ⟨ha4a, ha4b⟩, -⟩ := hrg
    exact fun _ h => absurd h List.not_mem_nil
def pq_step : List mq_E := [(0, false, .aload 0), (1, false, .iload 1), (2, false, .iload 2), (3, false, .iload 3), (4, false, .iload 4), (6, false, .invokestatic 0), (9, false, .ifCond .ne (Int.ofNat 15)), (12, false, .iconst (-2)), (14, false, .ireturn), (15, false, .aload 0), (16, false, .invokeinterface 10 10), (19, false, .iload 1), (20, false, .iload 2), (21, false, .iload 3), (22, false, .iload 4), (24, false, .invokestatic 1), (27, false, .ireturn)]
def cq_step : mq_C := ((yX10_step, cX10_step, 5, (some .int), { frames := 5, cells := 16, slots := 6416, locals := 129 }), (5, 1, 1, 1), 12884901890, (fun as ρ μ => match ρ with
  | (nw, sp, tl, tx, al) => mq_pZ as 0 fun as => mq_pI as fun k as => mq_pI as fun p as => mq_pI as fun y as => mq_pI as fun v as => mq_p0 as (True)),
  (fun as ρ μ r ρ' μ' => match as, ρ, ρ' with
  | [.inr (.inr (some (_, _))), .inl k, .inl p, .inl y, .inl v], (nw, sp, tl, tx, al), (nw', sp', tl', tx', al') => []
  | _, _, _ => []))
def kq_step : List mq_V → mq_R → mq_M → List mq_Cu := fun as ρ μ => match as, ρ with
  | [.inr (.inr (some (_, _))), .inl k, .inl p, .inl y, .inl v], (nw, sp, tl, tx, al) => []
  | _, _ => []
set_option maxHeartbeats 16000000 in
set_option maxRecDepth 100000 in
theorem vq_step (lc : Launch) (h_takesAim : mq_Ct lc cq_takesAim) (h_firstStep : mq_Ct lc cq_firstStep) : mq_Ct lc cq_step := by
  refine mq_method (lc := lc) (P := pq_step) (cl := [cq_takesAim, cq_firstStep]) (T := ([(64, 10, 10)], [], [], [(200, 0, 0), (203, 1, 0)], [], [])) (fuel := 400) (cuts := kq_step) (by decide) rfl ⟨rfl, rfl⟩ (List.forall_mem_cons.mpr ⟨h_takesAim, (List.forall_mem_cons.mpr ⟨h_firstStep, (fun _ h => absurd h List.not_mem_nil)⟩)⟩) ⟨(List.forall_mem_cons.mpr ⟨⟨_, rfl, by decide, kw_515⟩, (fun _ h => absurd h List.not_mem_nil)⟩), (fun _ h => absurd h List.not_mem_nil), (fun _ h => absurd h List.not_mem_nil), (List.forall_mem_cons.mpr ⟨mq_ml0 rfl mw0_takesAim kw_578, (List.forall_mem_cons.mpr ⟨mq_ml0 rfl mw0_firstStep kw_579, (fun _ h => absurd h List.not_mem_nil)⟩)⟩), (fun _ h => absurd h List.not_mem_nil), (fun _ h => absurd h List.not_mem_nil)⟩ (by decide +kernel) ⟨_, _, rfl⟩ ?_ ?_ ?_ ?_
  · intro as ρ μ h
    obtain ⟨nw, sp, tl, tx, al⟩ := ρ
    obtain ⟨as0, rfl, h0⟩ := mq_pZ_spec h
    clear h
    obtain ⟨k, as1, rfl, h1⟩ := mq_pI_spec h0
    clear h0
    obtain ⟨p, as2, rfl, h2⟩ := mq_pI_spec h1
    clear h1
    obtain ⟨y, as3, rfl, h3⟩ := mq_pI_spec h2
    clear h2
    obtain ⟨v, as4, rfl, h4⟩ := mq_pI_spec h3
    clear h3
    obtain ⟨rfl, hp⟩ := mq_p0_spec h4
    clear h4
    rfl
  · intro as ρ μ h
    obtain ⟨nw, sp, tl, tx, al⟩ := ρ
    obtain ⟨as0, rfl, h0⟩ := mq_pZ_spec h
    clear h
    obtain ⟨k, as1, rfl, h1⟩ := mq_pI_spec h0
    clear h0
    obtain ⟨p, as2, rfl, h2⟩ := mq_pI_spec h1
    clear h1
    obtain ⟨y, as3, rfl, h3⟩ := mq_pI_spec h2
    clear h2
    obtain ⟨v, as4, rfl, h4⟩ := mq_pI_spec h3
    clear h3
    obtain ⟨rfl, hp⟩ := mq_p0_spec h4
    clear h4
    intro hrg
    obtain ⟨⟨ha1a, ha1b⟩, ⟨ha2a, ha2b⟩, ⟨ha3a, ha3b⟩, ⟨ha4a, ha4b⟩, -⟩ := hrg
    intro hbk
    have e0 : mq_l0 ([.inr (.inr (some (0, 0))), .inl k, .inl p, .inl y, .inl v] : List mq_V) 5 = [some (.inr (.inr (some (0, 0)))), some (.inl k), some (.inl p), some (.inl y), some (.inl v)] := rfl
    rw [e0]
    repeat' (first | refine And.intro ?_ ?_ | intro _)
    all_goals first | omega | rfl | exact trivial | (simp [mq_up] at * <;> omega)
  · intro as ρ μ h
    obtain ⟨nw, sp, tl, tx, al⟩ := ρ
    obtain ⟨as0, rfl, h0⟩ := mq_pZ_spec h
    clear h
    obtain ⟨k, as1, rfl, h1⟩ := mq_pI_spec h0
    clear h0
    obtain ⟨p, as2, rfl, h2⟩ := mq_pI_spec h1
    clear h1
    obtain ⟨y, as3, rfl, h3⟩ := mq_pI_spec h2
    clear h2
    obtain ⟨v, as4, rfl, h4⟩ := mq_pI_spec h3
    clear h3
    obtain ⟨rfl, hp⟩ := mq_p0_spec h4
    clear h4
    exact fun _ h => absurd h List.not_mem_nil
  · intro as ρ μ h
    obtain ⟨nw, sp, tl, tx, al⟩ := ρ
    obtain ⟨as0, rfl, h0⟩ := mq_pZ_spec h
    clear h
    obtain ⟨k, as1, rfl, h1⟩ := mq_pI_spec h0
    clear h0
    obtain ⟨p, as2, rfl, h2⟩ := mq_pI_spec h1
    clear h1
    obtain ⟨y, as3, rfl, h3⟩ := mq_pI_spec h2
    clear h2
    obtain ⟨v, as4, rfl, h4⟩ := mq_pI_spec h3
    clear h3
    obtain ⟨rfl, hp⟩ := mq_p0_spec h4
    clear h4
    intro hrg
    obtain ⟨⟨ha1a, ha1b⟩, ⟨ha2a, ha2b⟩, ⟨ha3a, ha3b⟩, ⟨ha4a, ha4b⟩, -⟩ := hrg
    exact fun _ h => absurd h List.not_mem_nil
def pq_handled : List mq_E := [(0, false, .aload 0), (1, false, .iload 1), (2, false, .iload 2), (3, false, .iload 3), (4, false, .iload 4), (6, false, .invokestatic 0), (9, false, .ifCond .eq (Int.ofNat 22)), (12, false, .iload 5), (14, false, .iconst 0), (15, false, .iconst 2), (16, false, .invokestatic 1), (19, false, .ifCond .ne (Int.ofNat 25)), (22, false, .iconst (-2)), (24, false, .ireturn), (25, false, .aload 0), (26, false, .invokeinterface 10 10), (29, false, .iload 1), (30, false, .iload 2), (31, false, .iload 3), (32, false, .iload 4), (34, false, .invokestatic 2), (37, false, .ifCond .ne (Int.ofNat 42)), (40, false, .iconst (-1)), (41, false, .ireturn), (42, false, .iload 5), (44, false, .ifCond .ne (Int.ofNat 55)), (47, false, .aload 0), (48, false, .invokeinterface 10 10), (51, false, .invokeinterface 1 4), (54, false, .ireturn), (55, false, .iload 5), (57, false, .iconst 1), (58, false, .if_icmp .ne (Int.ofNat 71)), (61, false, .aload 0), (62, false, .invokeinterface 10 10), (65, false, .invokeinterface 1 5), (68, false, .goto (Int.ofNat 78)), (71, false, .aload 0), (72, false, .invokeinterface 10 10), (75, false, .invokeinterface 1 6), (78, false, .ireturn)]
def cq_handled : mq_C := ((yX10_handled, cX10_handled, 6, (some .int), { frames := 5, cells := 16, slots := 6416, locals := 129 }), (6, 1, 1, 1), 13958643714, (fun as ρ μ => match ρ with
  | (nw, sp, tl, tx, al) => mq_pZ as 0 fun as => mq_pI as fun k as => mq_pI as fun p as => mq_pI as fun y as => mq_pI as fun v as => mq_pI as fun w as => mq_p0 as (True)),
  (fun as ρ μ r ρ' μ' => match as, ρ, ρ' with
  | [.inr (.inr (some (_, _))), .inl k, .inl p, .inl y, .inl v, .inl w], (nw, sp, tl, tx, al), (nw', sp', tl', tx', al') => []
  | _, _, _ => []))
def kq_handled : List mq_V → mq_R → mq_M → List mq_Cu := fun as ρ μ => match as, ρ with
  | [.inr (.inr (some (_, _))), .inl k, .inl p, .inl y, .inl v, .inl w], (nw, sp, tl, tx, al) => []
  | _, _ => []
set_option maxHeartbeats 16000000 in
set_option maxRecDepth 100000 in
theorem vq_handled (lc : Launch) (h_takesAim : mq_Ct lc cq_takesAim) (h_isAmong : mq_Ct lc cq_isAmong) (h_follow : mq_Ct lc cq_follow) : mq_Ct lc cq_handled := by
  refine mq_method (lc := lc) (P := pq_handled) (cl := [cq_takesAim, cq_isAmong, cq_follow]) (T := ([(64, 10, 10), (209, 1, 4), (212, 1, 5), (215, 1, 6)], [], [], [(200, 0, 0), (176, 1, 1), (206, 2, 0)], [], [])) (fuel := 400) (cuts := kq_handled) (by decide) rfl ⟨rfl, rfl⟩ (List.forall_mem_cons.mpr ⟨h_takesAim, (List.forall_mem_cons.mpr ⟨h_isAmong, (List.forall_mem_cons.mpr ⟨h_follow, (fun _ h => absurd h List.not_mem_nil)⟩)⟩)⟩) ⟨(List.forall_mem_cons.mpr ⟨⟨_, rfl, by decide, kw_515⟩, (List.forall_mem_cons.mpr ⟨⟨_, rfl, by decide, kw_580⟩, (List.forall_mem_cons.mpr ⟨⟨_, rfl, by decide, kw_581⟩, (List.forall_mem_cons.mpr ⟨⟨_, rfl, by decide, kw_582⟩, (fun _ h => absurd h List.not_mem_nil)⟩)⟩)⟩)⟩), (fun _ h => absurd h List.not_mem_nil), (fun _ h => absurd h List.not_mem_nil), (List.forall_mem_cons.mpr ⟨mq_ml0 rfl mw0_takesAim kw_578, (List.forall_mem_cons.mpr ⟨mq_ml1 rfl mw1_isAmong kw_568, (List.forall_mem_cons.mpr ⟨mq_ml0 rfl mw0_follow kw_583, (fun _ h => absurd h List.not_mem_nil)⟩)⟩)⟩), (fun _ h => absurd h List.not_mem_nil), (fun _ h => absurd h List.not_mem_nil)⟩ (by decide +kernel) ⟨_, _, rfl⟩ ?_ ?_ ?_ ?_
  · intro as ρ μ h
    obtain ⟨nw, sp, tl, tx, al⟩ := ρ
    obtain ⟨as0, rfl, h0⟩ := mq_pZ_spec h
    clear h
    obtain ⟨k, as1, rfl, h1⟩ := mq_pI_spec h0
    clear h0
    obtain ⟨p, as2, rfl, h2⟩ := mq_pI_spec h1
    clear h1
    obtain ⟨y, as3, rfl, h3⟩ := mq_pI_spec h2
    clear h2
    obtain ⟨v, as4, rfl, h4⟩ := mq_pI_spec h3
    clear h3
    obtain ⟨w, as5, rfl, h5⟩ := mq_pI_spec h4
    clear h4
    obtain ⟨rfl, hp⟩ := mq_p0_spec h5
    clear h5
    rfl
  · intro as ρ μ h
    obtain ⟨nw, sp, tl, tx, al⟩ := ρ
    obtain ⟨as0, rfl, h0⟩ := mq_pZ_spec h
    clear h
    obtain ⟨k, as1, rfl, h1⟩ := mq_pI_spec h0
    clear h0
    obtain ⟨p, as2, rfl, h2⟩ := mq_pI_spec h1
    clear h1
    obtain ⟨y, as3, rfl, h3⟩ := mq_pI_spec h2
    clear h2
    obtain ⟨v, as4, rfl, h4⟩ := mq_pI_spec h3
    clear h3
    obtain ⟨w, as5, rfl, h5⟩ := mq_pI_spec h4
    clear h4
    obtain ⟨rfl, hp⟩ := mq_p0_spec h5
    clear h5
    intro hrg
    obtain ⟨⟨ha1a, ha1b⟩, ⟨ha2a, ha2b⟩, ⟨ha3a, ha3b⟩, ⟨ha4a, ha4b⟩, ⟨ha5a, ha5b⟩, -⟩ := hrg
    intro hbk
    have e0 : mq_l0 ([.inr (.inr (some (0, 0))), .inl k, .inl p, .inl y, .inl v, .inl w] : List mq_V) 6 = [some (.inr (.inr (some (0, 0)))), some (.inl k), some (.inl p), some (.inl y), some (.inl v), some (.inl w)] := rfl
    rw [e0]
    repeat' (first | refine And.intro ?_ ?_ | intro _)
    all_goals first | omega | rfl | exact trivial | (simp [mq_up] at * <;> omega)
  · intro as ρ μ h
    obtain ⟨nw, sp, tl, tx, al⟩ := ρ
    obtain ⟨as0, rfl, h0⟩ := mq_pZ_spec h
    clear h
    obtain ⟨k, as1, rfl, h1⟩ := mq_pI_spec h0
    clear h0
    obtain ⟨p, as2, rfl, h2⟩ := mq_pI_spec h1
    clear h1
    obtain ⟨y, as3, rfl, h3⟩ := mq_pI_spec h2
    clear h2
    obtain ⟨v, as4, rfl, h4⟩ := mq_pI_spec h3
    clear h3
    obtain ⟨w, as5, rfl, h5⟩ := mq_pI_spec h4
    clear h4
    obtain ⟨rfl, hp⟩ := mq_p0_spec h5
    clear h5
    exact fun _ h => absurd h List.not_mem_nil
  · intro as ρ μ h
    obtain ⟨nw, sp, tl, tx, al⟩ := ρ
    obtain ⟨as0, rfl, h0⟩ := mq_pZ_spec h
    clear h
    obtain ⟨k, as1, rfl, h1⟩ := mq_pI_spec h0
    clear h0
    obtain ⟨p, as2, rfl, h2⟩ := mq_pI_spec h1
    clear h1
    obtain ⟨y, as3, rfl, h3⟩ := mq_pI_spec h2
    clear h2
    obtain ⟨v, as4, rfl, h4⟩ := mq_pI_spec h3
    clear h3
    obtain ⟨w, as5, rfl, h5⟩ := mq_pI_spec h4
    clear h4
    obtain ⟨rfl, hp⟩ := mq_p0_spec h5
    clear h5
    intro hrg
    obtain ⟨⟨ha1a, ha1b⟩, ⟨ha2a, ha2b⟩, ⟨ha3a, ha3b⟩, ⟨ha4a, ha4b⟩, ⟨ha5a, ha5b⟩, -⟩ := hrg
    exact fun _ h => absurd h List.not_mem_nil
def pq_leastMeasure : List mq_E := [(0, false, .aload 0), (1, false, .iload 1), (2, false, .iload 2), (3, false, .iload 3), (4, false, .iload 4), (6, false, .invokestatic 0), (9, false, .ifCond .ne (Int.ofNat 15)), (12, false, .iconst (-2)), (14, false, .ireturn), (15, false, .aload 0), (16, false, .invokeinterface 10 3), (19, false, .invokeinterface 3 5), (22, false, .iload 2), (23, false, .iconst 1), (24, false, .invokestatic 1), (27, false, .istore 6), (29, false, .aload 0), (30, false, .invokeinterface 10 11), (33, false, .aload 0), (34, false, .invokeinterface 10 9), (37, false, .iload 1), (38, false, .iload 3), (39, false, .iload 4), (41, false, .iload 5), (43, false, .iload 6), (45, false, .invokestatic 2), (48, false, .aload 0), (49, false, .invokeinterface 10 11), (52, false, .aload 0), (53, false, .invokeinterface 10 3), (56, false, .iload 1), (57, false, .iload 2), (58, false, .invokestatic 3), (61, false, .iload 6), (63, false, .invokestatic 4), (66, false, .ireturn)]
def cq_leastMeasure : mq_C := ((yX10_leastMeasure, cX10_leastMeasure, 7, (some .int), { frames := 5, cells := 0, slots := 0, locals := 124 }), (6, 1, 0, 0), 120259084288, (fun as ρ μ => match ρ with
  | (nw, sp, tl, tx, al) => mq_pZ as 0 fun as => mq_pI as fun k as => mq_pI as fun p as => mq_pI as fun y as => mq_pI as fun v as => mq_pI as fun m as => mq_p0 as (True)),
  (fun as ρ μ r ρ' μ' => match as, ρ, ρ' with
  | [.inr (.inr (some (_, _))), .inl k, .inl p, .inl y, .inl v, .inl m], (nw, sp, tl, tx, al), (nw', sp', tl', tx', al') => []
  | _, _, _ => []))
def kq_leastMeasure : List mq_V → mq_R → mq_M → List mq_Cu := fun as ρ μ => match as, ρ with
  | [.inr (.inr (some (_, _))), .inl k, .inl p, .inl y, .inl v, .inl m], (nw, sp, tl, tx, al) => []
  | _, _ => []
set_option maxHeartbeats 16000000 in
set_option maxRecDepth 100000 in
theorem vq_leastMeasure (lc : Launch) (h_hasAim : mq_Ct lc cq_hasAim) (h_get_platforms : mq_Ct lc cq_get_platforms) (h_spread : mq_Ct lc cq_spread) (h_firstStand : mq_Ct lc cq_firstStand) (h_least : mq_Ct lc cq_least) : mq_Ct lc cq_leastMeasure := by
  refine mq_method (lc := lc) (P := pq_leastMeasure) (cl := [cq_hasAim, cq_get_platforms, cq_spread, cq_firstStand, cq_least]) (T := ([(27, 10, 3), (152, 3, 5), (71, 10, 11), (55, 10, 9)], [], [], [(155, 0, 0), (179, 1, 0), (222, 2, 0), (226, 3, 0), (229, 4, 0)], [], [])) (fuel := 400) (cuts := kq_leastMeasure) (by decide) rfl ⟨rfl, rfl⟩ (List.forall_mem_cons.mpr ⟨h_hasAim, (List.forall_mem_cons.mpr ⟨h_get_platforms, (List.forall_mem_cons.mpr ⟨h_spread, (List.forall_mem_cons.mpr ⟨h_firstStand, (List.forall_mem_cons.mpr ⟨h_least, (fun _ h => absurd h List.not_mem_nil)⟩)⟩)⟩)⟩)⟩) ⟨(List.forall_mem_cons.mpr ⟨⟨_, rfl, by decide, kw_514⟩, (List.forall_mem_cons.mpr ⟨⟨_, rfl, by decide, kw_548⟩, (List.forall_mem_cons.mpr ⟨⟨_, rfl, by decide, kw_584⟩, (List.forall_mem_cons.mpr ⟨⟨_, rfl, by decide, kw_513⟩, (fun _ h => absurd h List.not_mem_nil)⟩)⟩)⟩)⟩), (fun _ h => absurd h List.not_mem_nil), (fun _ h => absurd h List.not_mem_nil), (List.forall_mem_cons.mpr ⟨mq_ml0 rfl mw0_hasAim kw_556, (List.forall_mem_cons.mpr ⟨mq_ml0 rfl mw0_get_platforms kw_569, (List.forall_mem_cons.mpr ⟨mq_ml0 rfl mw0_spread kw_588, (List.forall_mem_cons.mpr ⟨mq_ml0 rfl mw0_firstStand kw_589, (List.forall_mem_cons.mpr ⟨mq_ml0 rfl mw0_least kw_593, (fun _ h => absurd h List.not_mem_nil)⟩)⟩)⟩)⟩)⟩), (fun _ h => absurd h List.not_mem_nil), (fun _ h => absurd h List.not_mem_nil)⟩ (by decide +kernel) ⟨_, _, rfl⟩ ?_ ?_ ?_ ?_
  · intro as ρ μ h
    obtain ⟨nw, sp, tl, tx, al⟩ := ρ
    obtain ⟨as0, rfl, h0⟩ := mq_pZ_spec h
    clear h
    obtain ⟨k, as1, rfl, h1⟩ := mq_pI_spec h0
    clear h0
    obtain ⟨p, as2, rfl, h2⟩ := mq_pI_spec h1
    clear h1
    obtain ⟨y, as3, rfl, h3⟩ := mq_pI_spec h2
    clear h2
    obtain ⟨v, as4, rfl, h4⟩ := mq_pI_spec h3
    clear h3
    obtain ⟨m, as5, rfl, h5⟩ := mq_pI_spec h4
    clear h4
    obtain ⟨rfl, hp⟩ := mq_p0_spec h5
    clear h5
    rfl
  · intro as ρ μ h
    obtain ⟨nw, sp, tl, tx, al⟩ := ρ
    obtain ⟨as0, rfl, h0⟩ := mq_pZ_spec h
    clear h
    obtain ⟨k, as1, rfl, h1⟩ := mq_pI_spec h0
    clear h0
    obtain ⟨p, as2, rfl, h2⟩ := mq_pI_spec h1
    clear h1
    obtain ⟨y, as3, rfl, h3⟩ := mq_pI_spec h2
    clear h2
    obtain ⟨v, as4, rfl, h4⟩ := mq_pI_spec h3
    clear h3
    obtain ⟨m, as5, rfl, h5⟩ := mq_pI_spec h4
    clear h4
    obtain ⟨rfl, hp⟩ := mq_p0_spec h5
    clear h5
    intro hrg
    obtain ⟨⟨ha1a, ha1b⟩, ⟨ha2a, ha2b⟩, ⟨ha3a, ha3b⟩, ⟨ha4a, ha4b⟩, ⟨ha5a, ha5b⟩, -⟩ := hrg
    intro hbk
    have e0 : mq_l0 ([.inr (.inr (some (0, 0))), .inl k, .inl p, .inl y, .inl v, .inl m] : List mq_V) 7 = [some (.inr (.inr (some (0, 0)))), some (.inl k), some (.inl p), some (.inl y), some (.inl v), some (.inl m), none] := rfl
    rw [e0]
    repeat' (first | refine And.intro ?_ ?_ | intro _)
    all_goals first | omega | rfl | exact trivial | (simp [mq_up] at * <;> omega)
  · intro as ρ μ h
    obtain ⟨nw, sp, tl, tx, al⟩ := ρ
    obtain ⟨as0, rfl, h0⟩ := mq_pZ_spec h
    clear h
    obtain ⟨k, as1, rfl, h1⟩ := mq_pI_spec h0
    clear h0
    obtain ⟨p, as2, rfl, h2⟩ := mq_pI_spec h1
    clear h1
    obtain ⟨y, as3, rfl, h3⟩ := mq_pI_spec h2
    clear h2
    obtain ⟨v, as4, rfl, h4⟩ := mq_pI_spec h3
    clear h3
    obtain ⟨m, as5, rfl, h5⟩ := mq_pI_spec h4
    clear h4
    obtain ⟨rfl, hp⟩ := mq_p0_spec h5
    clear h5
    exact fun _ h => absurd h List.not_mem_nil
  · intro as ρ μ h
    obtain ⟨nw, sp, tl, tx, al⟩ := ρ
    obtain ⟨as0, rfl, h0⟩ := mq_pZ_spec h
    clear h
    obtain ⟨k, as1, rfl, h1⟩ := mq_pI_spec h0
    clear h0
    obtain ⟨p, as2, rfl, h2⟩ := mq_pI_spec h1
    clear h1
    obtain ⟨y, as3, rfl, h3⟩ := mq_pI_spec h2
    clear h2
    obtain ⟨v, as4, rfl, h4⟩ := mq_pI_spec h3
    clear h3
    obtain ⟨m, as5, rfl, h5⟩ := mq_pI_spec h4
    clear h4
    obtain ⟨rfl, hp⟩ := mq_p0_spec h5
    clear h5
    intro hrg
    obtain ⟨⟨ha1a, ha1b⟩, ⟨ha2a, ha2b⟩, ⟨ha3a, ha3b⟩, ⟨ha4a, ha4b⟩, ⟨ha5a, ha5b⟩, -⟩ := hrg
    exact fun _ h => absurd h List.not_mem_nil
theorem mw0_leastMeasure : mq_mlA cq_leastMeasure 0 := ⟨kw_594, ⟨by decide +kernel, by decide +kernel⟩, by decide +kernel, kw_595, kw_596, kw_95, 0, by decide +kernel, fun as ρ μ h => by obtain ⟨nw, sp, tl, tx, al⟩ := ρ; obtain ⟨t, e, _⟩ := mq_pZ_spec h; exact ⟨0, t, e⟩⟩
def pq_hard : List mq_E := [(0, false, .aload 0), (1, false, .iload 1), (2, false, .iload 2), (3, false, .iload 3), (4, false, .iload 4), (6, false, .iconst 0), (7, false, .invokestatic 0), (10, false, .ireturn)]
def cq_hard : mq_C := ((yX10_hard, cX10_hard, 5, (some .int), { frames := 6, cells := 0, slots := 0, locals := 150 }), (5, 1, 0, 0), 120259084288, (fun as ρ μ => match ρ with
  | (nw, sp, tl, tx, al) => mq_pZ as 0 fun as => mq_pI as fun k as => mq_pI as fun p as => mq_pI as fun y as => mq_pI as fun v as => mq_p0 as (True)),
  (fun as ρ μ r ρ' μ' => match as, ρ, ρ' with
  | [.inr (.inr (some (_, _))), .inl k, .inl p, .inl y, .inl v], (nw, sp, tl, tx, al), (nw', sp', tl', tx', al') => []
  | _, _, _ => []))
def kq_hard : List mq_V → mq_R → mq_M → List mq_Cu := fun as ρ μ => match as, ρ with
  | [.inr (.inr (some (_, _))), .inl k, .inl p, .inl y, .inl v], (nw, sp, tl, tx, al) => []
  | _, _ => []
set_option maxHeartbeats 16000000 in
set_option maxRecDepth 100000 in
theorem vq_hard (lc : Launch) (h_leastMeasure : mq_Ct lc cq_leastMeasure) : mq_Ct lc cq_hard := by
  refine mq_method (lc := lc) (P := pq_hard) (cl := [cq_leastMeasure]) (T := ([], [], [], [(218, 0, 0)], [], [])) (fuel := 400) (cuts := kq_hard) (by decide) rfl ⟨rfl, rfl⟩ (List.forall_mem_cons.mpr ⟨h_leastMeasure, (fun _ h => absurd h List.not_mem_nil)⟩) ⟨(fun _ h => absurd h List.not_mem_nil), (fun _ h => absurd h List.not_mem_nil), (fun _ h => absurd h List.not_mem_nil), (List.forall_mem_cons.mpr ⟨mq_ml0 rfl mw0_leastMeasure kw_597, (fun _ h => absurd h List.not_mem_nil)⟩), (fun _ h => absurd h List.not_mem_nil), (fun _ h => absurd h List.not_mem_nil)⟩ (by decide +kernel) ⟨_, _, rfl⟩ ?_ ?_ ?_ ?_
  · intro as ρ μ h
    obtain ⟨nw, sp, tl, tx, al⟩ := ρ
    obtain ⟨as0, rfl, h0⟩ := mq_pZ_spec h
    clear h
    obtain ⟨k, as1, rfl, h1⟩ := mq_pI_spec h0
    clear h0
    obtain ⟨p, as2, rfl, h2⟩ := mq_pI_spec h1
    clear h1
    obtain ⟨y, as3, rfl, h3⟩ := mq_pI_spec h2
    clear h2
    obtain ⟨v, as4, rfl, h4⟩ := mq_pI_spec h3
    clear h3
    obtain ⟨rfl, hp⟩ := mq_p0_spec h4
    clear h4
    rfl
  · intro as ρ μ h
    obtain ⟨nw, sp, tl, tx, al⟩ := ρ
    obtain ⟨as0, rfl, h0⟩ := mq_pZ_spec h
    clear h
    obtain ⟨k, as1, rfl, h1⟩ := mq_pI_spec h0
    clear h0
    obtain ⟨p, as2, rfl, h2⟩ := mq_pI_spec h1
    clear h1
    obtain ⟨y, as3, rfl, h3⟩ := mq_pI_spec h2
    clear h2
    obtain ⟨v, as4, rfl, h4⟩ := mq_pI_spec h3
    clear h3
    obtain ⟨rfl, hp⟩ := mq_p0_spec h4
    clear h4
    intro hrg
    obtain ⟨⟨ha1a, ha1b⟩, ⟨ha2a, ha2b⟩, ⟨ha3a, ha3b⟩, ⟨ha4a, ha4b⟩, -⟩ := hrg
    intro hbk
    have e0 : mq_l0 ([.inr (.inr (some (0, 0))), .inl k, .inl p, .inl y, .inl v] : List mq_V) 5 = [some (.inr (.inr (some (0, 0)))), some (.inl k), some (.inl p), some (.inl y), some (.inl v)] := rfl
    rw [e0]
    repeat' (first | refine And.intro ?_ ?_ | intro _)
    all_goals first | omega | rfl | exact trivial | (simp [mq_up] at * <;> omega)
  · intro as ρ μ h
    obtain ⟨nw, sp, tl, tx, al⟩ := ρ
    obtain ⟨as0, rfl, h0⟩ := mq_pZ_spec h
    clear h
    obtain ⟨k, as1, rfl, h1⟩ := mq_pI_spec h0
    clear h0
    obtain ⟨p, as2, rfl, h2⟩ := mq_pI_spec h1
    clear h1
    obtain ⟨y, as3, rfl, h3⟩ := mq_pI_spec h2
    clear h2
    obtain ⟨v, as4, rfl, h4⟩ := mq_pI_spec h3
    clear h3
    obtain ⟨rfl, hp⟩ := mq_p0_spec h4
    clear h4
    exact fun _ h => absurd h List.not_mem_nil
  · intro as ρ μ h
    obtain ⟨nw, sp, tl, tx, al⟩ := ρ
    obtain ⟨as0, rfl, h0⟩ := mq_pZ_spec h
    clear h
    obtain ⟨k, as1, rfl, h1⟩ := mq_pI_spec h0
    clear h0
    obtain ⟨p, as2, rfl, h2⟩ := mq_pI_spec h1
    clear h1
    obtain ⟨y, as3, rfl, h3⟩ := mq_pI_spec h2
    clear h2
    obtain ⟨v, as4, rfl, h4⟩ := mq_pI_spec h3
    clear h3
    obtain ⟨rfl, hp⟩ := mq_p0_spec h4
    clear h4
    intro hrg
    obtain ⟨⟨ha1a, ha1b⟩, ⟨ha2a, ha2b⟩, ⟨ha3a, ha3b⟩, ⟨ha4a, ha4b⟩, -⟩ := hrg
    exact fun _ h => absurd h List.not_mem_nil
def pq_quick : List mq_E := [(0, false, .aload 0), (1, false, .iload 1), (2, false, .iload 2), (3, false, .iload 3), (4, false, .iload 4), (6, false, .iconst 1), (7, false, .invokestatic 0), (10, false, .ireturn)]
def cq_quick : mq_C := ((yX10_quick, cX10_quick, 5, (some .int), { frames := 6, cells := 0, slots := 0, locals := 150 }), (5, 1, 0, 0), 120259084288, (fun as ρ μ => match ρ with
  | (nw, sp, tl, tx, al) => mq_pZ as 0 fun as => mq_pI as fun k as => mq_pI as fun p as => mq_pI as fun y as => mq_pI as fun v as => mq_p0 as (True)),
  (fun as ρ μ r ρ' μ' => match as, ρ, ρ' with
  | [.inr (.inr (some (_, _))), .inl k, .inl p, .inl y, .inl v], (nw, sp, tl, tx, al), (nw', sp', tl', tx', al') => []
  | _, _, _ => []))
def kq_quick : List mq_V → mq_R → mq_M → List mq_Cu := fun as ρ μ => match as, ρ with
  | [.inr (.inr (some (_, _))), .inl k, .inl p, .inl y, .inl v], (nw, sp, tl, tx, al) => []
  | _, _ => []
set_option maxHeartbeats 16000000 in
set_option maxRecDepth 100000 in
theorem vq_quick (lc : Launch) (h_leastMeasure : mq_Ct lc cq_leastMeasure) : mq_Ct lc cq_quick := by
  refine mq_method (lc := lc) (P := pq_quick) (cl := [cq_leastMeasure]) (T := ([], [], [], [(218, 0, 0)], [], [])) (fuel := 400) (cuts := kq_quick) (by decide) rfl ⟨rfl, rfl⟩ (List.forall_mem_cons.mpr ⟨h_leastMeasure, (fun _ h => absurd h List.not_mem_nil)⟩) ⟨(fun _ h => absurd h List.not_mem_nil), (fun _ h => absurd h List.not_mem_nil), (fun _ h => absurd h List.not_mem_nil), (List.forall_mem_cons.mpr ⟨mq_ml0 rfl mw0_leastMeasure kw_597, (fun _ h => absurd h List.not_mem_nil)⟩), (fun _ h => absurd h List.not_mem_nil), (fun _ h => absurd h List.not_mem_nil)⟩ (by decide +kernel) ⟨_, _, rfl⟩ ?_ ?_ ?_ ?_
  · intro as ρ μ h
    obtain ⟨nw, sp, tl, tx, al⟩ := ρ
    obtain ⟨as0, rfl, h0⟩ := mq_pZ_spec h
    clear h
    obtain ⟨k, as1, rfl, h1⟩ := mq_pI_spec h0
    clear h0
    obtain ⟨p, as2, rfl, h2⟩ := mq_pI_spec h1
    clear h1
    obtain ⟨y, as3, rfl, h3⟩ := mq_pI_spec h2
    clear h2
    obtain ⟨v, as4, rfl, h4⟩ := mq_pI_spec h3
    clear h3
    obtain ⟨rfl, hp⟩ := mq_p0_spec h4
    clear h4
    rfl
  · intro as ρ μ h
    obtain ⟨nw, sp, tl, tx, al⟩ := ρ
    obtain ⟨as0, rfl, h0⟩ := mq_pZ_spec h
    clear h
    obtain ⟨k, as1, rfl, h1⟩ := mq_pI_spec h0
    clear h0
    obtain ⟨p, as2, rfl, h2⟩ := mq_pI_spec h1
    clear h1
    obtain ⟨y, as3, rfl, h3⟩ := mq_pI_spec h2
    clear h2
    obtain ⟨v, as4, rfl, h4⟩ := mq_pI_spec h3
    clear h3
    obtain ⟨rfl, hp⟩ := mq_p0_spec h4
    clear h4
    intro hrg
    obtain ⟨⟨ha1a, ha1b⟩, ⟨ha2a, ha2b⟩, ⟨ha3a, ha3b⟩, ⟨ha4a, ha4b⟩, -⟩ := hrg
    intro hbk
    have e0 : mq_l0 ([.inr (.inr (some (0, 0))), .inl k, .inl p, .inl y, .inl v] : List mq_V) 5 = [some (.inr (.inr (some (0, 0)))), some (.inl k), some (.inl p), some (.inl y), some (.inl v)] := rfl
    rw [e0]
    repeat' (first | refine And.intro ?_ ?_ | intro _)
    all_goals first | omega | rfl | exact trivial | (simp [mq_up] at * <;> omega)
  · intro as ρ μ h
    obtain ⟨nw, sp, tl, tx, al⟩ := ρ
    obtain ⟨as0, rfl, h0⟩ := mq_pZ_spec h
    clear h
    obtain ⟨k, as1, rfl, h1⟩ := mq_pI_spec h0
    clear h0
    obtain ⟨p, as2, rfl, h2⟩ := mq_pI_spec h1
    clear h1
    obtain ⟨y, as3, rfl, h3⟩ := mq_pI_spec h2
    clear h2
    obtain ⟨v, as4, rfl, h4⟩ := mq_pI_spec h3
    clear h3
    obtain ⟨rfl, hp⟩ := mq_p0_spec h4
    clear h4
    exact fun _ h => absurd h List.not_mem_nil
  · intro as ρ μ h
    obtain ⟨nw, sp, tl, tx, al⟩ := ρ
    obtain ⟨as0, rfl, h0⟩ := mq_pZ_spec h
    clear h
    obtain ⟨k, as1, rfl, h1⟩ := mq_pI_spec h0
    clear h0
    obtain ⟨p, as2, rfl, h2⟩ := mq_pI_spec h1
    clear h1
    obtain ⟨y, as3, rfl, h3⟩ := mq_pI_spec h2
    clear h2
    obtain ⟨v, as4, rfl, h4⟩ := mq_pI_spec h3
    clear h3
    obtain ⟨rfl, hp⟩ := mq_p0_spec h4
    clear h4
    intro hrg
    obtain ⟨⟨ha1a, ha1b⟩, ⟨ha2a, ha2b⟩, ⟨ha3a, ha3b⟩, ⟨ha4a, ha4b⟩, -⟩ := hrg
    exact fun _ h => absurd h List.not_mem_nil
def pq_jolt : List mq_E := [(0, false, .aload 0), (1, false, .iload 1), (2, false, .iload 2), (3, false, .iload 3), (4, false, .iload 4), (6, false, .iconst 2), (7, false, .invokestatic 0), (10, false, .ireturn)]
def cq_jolt : mq_C := ((yX10_jolt, cX10_jolt, 5, (some .int), { frames := 6, cells := 0, slots := 0, locals := 150 }), (5, 1, 0, 0), 120259084288, (fun as ρ μ => match ρ with
  | (nw, sp, tl, tx, al) => mq_pZ as 0 fun as => mq_pI as fun k as => mq_pI as fun p as => mq_pI as fun y as => mq_pI as fun v as => mq_p0 as (True)),
  (fun as ρ μ r ρ' μ' => match as, ρ, ρ' with
  | [.inr (.inr (some (_, _))), .inl k, .inl p, .inl y, .inl v], (nw, sp, tl, tx, al), (nw', sp', tl', tx', al') => []
  | _, _, _ => []))
def kq_jolt : List mq_V → mq_R → mq_M → List mq_Cu := fun as ρ μ => match as, ρ with
  | [.inr (.inr (some (_, _))), .inl k, .inl p, .inl y, .inl v], (nw, sp, tl, tx, al) => []
  | _, _ => []
set_option maxHeartbeats 16000000 in
set_option maxRecDepth 100000 in
theorem vq_jolt (lc : Launch) (h_leastMeasure : mq_Ct lc cq_leastMeasure) : mq_Ct lc cq_jolt := by
  refine mq_method (lc := lc) (P := pq_jolt) (cl := [cq_leastMeasure]) (T := ([], [], [], [(218, 0, 0)], [], [])) (fuel := 400) (cuts := kq_jolt) (by decide) rfl ⟨rfl, rfl⟩ (List.forall_mem_cons.mpr ⟨h_leastMeasure, (fun _ h => absurd h List.not_mem_nil)⟩) ⟨(fun _ h => absurd h List.not_mem_nil), (fun _ h => absurd h List.not_mem_nil), (fun _ h => absurd h List.not_mem_nil), (List.forall_mem_cons.mpr ⟨mq_ml0 rfl mw0_leastMeasure kw_597, (fun _ h => absurd h List.not_mem_nil)⟩), (fun _ h => absurd h List.not_mem_nil), (fun _ h => absurd h List.not_mem_nil)⟩ (by decide +kernel) ⟨_, _, rfl⟩ ?_ ?_ ?_ ?_
  · intro as ρ μ h
    obtain ⟨nw, sp, tl, tx, al⟩ := ρ
    obtain ⟨as0, rfl, h0⟩ := mq_pZ_spec h
    clear h
    obtain ⟨k, as1, rfl, h1⟩ := mq_pI_spec h0
    clear h0
    obtain ⟨p, as2, rfl, h2⟩ := mq_pI_spec h1
    clear h1
    obtain ⟨y, as3, rfl, h3⟩ := mq_pI_spec h2
    clear h2
    obtain ⟨v, as4, rfl, h4⟩ := mq_pI_spec h3
    clear h3
    obtain ⟨rfl, hp⟩ := mq_p0_spec h4
    clear h4
    rfl
  · intro as ρ μ h
    obtain ⟨nw, sp, tl, tx, al⟩ := ρ
    obtain ⟨as0, rfl, h0⟩ := mq_pZ_spec h
    clear h
    obtain ⟨k, as1, rfl, h1⟩ := mq_pI_spec h0
    clear h0
    obtain ⟨p, as2, rfl, h2⟩ := mq_pI_spec h1
    clear h1
    obtain ⟨y, as3, rfl, h3⟩ := mq_pI_spec h2
    clear h2
    obtain ⟨v, as4, rfl, h4⟩ := mq_pI_spec h3
    clear h3
    obtain ⟨rfl, hp⟩ := mq_p0_spec h4
    clear h4
    intro hrg
    obtain ⟨⟨ha1a, ha1b⟩, ⟨ha2a, ha2b⟩, ⟨ha3a, ha3b⟩, ⟨ha4a, ha4b⟩, -⟩ := hrg
    intro hbk
    have e0 : mq_l0 ([.inr (.inr (some (0, 0))), .inl k, .inl p, .inl y, .inl v] : List mq_V) 5 = [some (.inr (.inr (some (0, 0)))), some (.inl k), some (.inl p), some (.inl y), some (.inl v)] := rfl
    rw [e0]
    repeat' (first | refine And.intro ?_ ?_ | intro _)
    all_goals first | omega | rfl | exact trivial | (simp [mq_up] at * <;> omega)
  · intro as ρ μ h
    obtain ⟨nw, sp, tl, tx, al⟩ := ρ
    obtain ⟨as0, rfl, h0⟩ := mq_pZ_spec h
    clear h
    obtain ⟨k, as1, rfl, h1⟩ := mq_pI_spec h0
    clear h0
    obtain ⟨p, as2, rfl, h2⟩ := mq_pI_spec h1
    clear h1
    obtain ⟨y, as3, rfl, h3⟩ := mq_pI_spec h2
    clear h2
    obtain ⟨v, as4, rfl, h4⟩ := mq_pI_spec h3
    clear h3
    obtain ⟨rfl, hp⟩ := mq_p0_spec h4
    clear h4
    exact fun _ h => absurd h List.not_mem_nil
  · intro as ρ μ h
    obtain ⟨nw, sp, tl, tx, al⟩ := ρ
    obtain ⟨as0, rfl, h0⟩ := mq_pZ_spec h
    clear h
    obtain ⟨k, as1, rfl, h1⟩ := mq_pI_spec h0
    clear h0
    obtain ⟨p, as2, rfl, h2⟩ := mq_pI_spec h1
    clear h1
    obtain ⟨y, as3, rfl, h3⟩ := mq_pI_spec h2
    clear h2
    obtain ⟨v, as4, rfl, h4⟩ := mq_pI_spec h3
    clear h3
    obtain ⟨rfl, hp⟩ := mq_p0_spec h4
    clear h4
    intro hrg
    obtain ⟨⟨ha1a, ha1b⟩, ⟨ha2a, ha2b⟩, ⟨ha3a, ha3b⟩, ⟨ha4a, ha4b⟩, -⟩ := hrg
    exact fun _ h => absurd h List.not_mem_nil
def pq_stands : List mq_E := [(0, false, .aload 0), (1, false, .iload 1), (2, false, .iload 2), (3, false, .iload 3), (4, false, .invokestatic 0), (7, false, .ifCond .eq (Int.ofNat 20)), (10, false, .iload 4), (12, false, .iconst 0), (13, false, .iconst 2), (14, false, .invokestatic 1), (17, false, .ifCond .ne (Int.ofNat 23)), (20, false, .iconst (-2)), (22, false, .ireturn), (23, false, .aload 0), (24, false, .invokeinterface 10 11), (27, false, .aload 0), (28, false, .invokeinterface 10 9), (31, false, .iload 1), (32, false, .iload 2), (33, false, .iload 3), (34, false, .iconst 1), (35, false, .aload 0), (36, false, .invokeinterface 10 3), (39, false, .invokeinterface 3 0), (42, false, .invokestatic 2), (45, false, .iconst (-1)), (46, false, .istore 5), (48, false, .iconst (-1)), (49, false, .istore 6), (51, false, .iconst 0), (52, false, .istore 7), (54, false, .iload 2), (55, false, .istore 8), (57, true, .iload 8), (59, false, .aload 0), (60, false, .invokeinterface 10 3), (63, false, .invokeinterface 3 0), (66, false, .if_icmp .gt (Int.ofNat 112)), (69, false, .aload 0), (70, false, .invokeinterface 10 11), (73, false, .iload 8), (75, false, .iload 8), (77, false, .invokestatic 3), (80, false, .iconst (-1)), (81, false, .if_icmp .eq (Int.ofNat 106)), (84, false, .iload 5), (86, false, .iconst (-1)), (87, false, .if_icmp .ne (Int.ofNat 95)), (90, false, .iload 8), (92, false, .goto (Int.ofNat 97)), (95, false, .iload 5), (97, false, .istore 5), (99, false, .iload 8), (101, false, .istore 6), (103, false, .iinc 7 1), (106, false, .iinc 8 1), (109, false, .goto (Int.ofNat 57)), (112, false, .iload 5), (114, false, .iload 6), (116, false, .iload 7), (118, false, .iload 4), (120, false, .invokestatic 4), (123, false, .ireturn)]
def cq_stands : mq_C := ((yX10_stands, cX10_stands, 9, (some .int), { frames := 5, cells := 0, slots := 0, locals := 124 }), (5, 1, 0, 0), 120259084288, (fun as ρ μ => match ρ with
  | (nw, sp, tl, tx, al) => mq_pZ as 0 fun as => mq_pI as fun k as => mq_pI as fun y as => mq_pI as fun v as => mq_pI as fun w as => mq_p0 as (True)),
  (fun as ρ μ r ρ' μ' => match as, ρ, ρ' with
  | [.inr (.inr (some (_, _))), .inl k, .inl y, .inl v, .inl w], (nw, sp, tl, tx, al), (nw', sp', tl', tx', al') => []
  | _, _, _ => []))
def kq_stands : List mq_V → mq_R → mq_M → List mq_Cu := fun as ρ μ => match as, ρ with
  | [.inr (.inr (some (_, _))), .inl k, .inl y, .inl v, .inl w], (nw, sp, tl, tx, al) => [(57, [true, true, true, true, true, true, true, true, true], fun N l st ρ' μ' cs => mq_tZ l 0 fun l => mq_tI l fun v1 l => mq_tI l fun v2 l => mq_tI l fun v3 l => mq_tI l fun v4 l => mq_tI l fun v5 l => mq_tI l fun v6 l => mq_tI l fun v7 l => mq_tI l fun v8 l => mq_t0 l (st = [] ∧ ρ' = (nw, sp, tl, tx, al) ∧ cs = 0 ∧ v1 = k ∧ v2 = y ∧ v3 = v ∧ v4 = w ∧ 0 ≤ v8 ∧ v8 ≤ 401 ∧ 0 ≤ v7 ∧ v7 ≤ v8 ∧ 0 ≤ (401 - v8 : Int) ∧ (401 - v8 : Int) < (N : Int)))]
  | _, _ => []
set_option maxHeartbeats 16000000 in
set_option maxRecDepth 100000 in
theorem vq_stands (lc : Launch) (h_hasRun : mq_Ct lc cq_hasRun) (h_isAmong : mq_Ct lc cq_isAmong) (h_spread : mq_Ct lc cq_spread) (h_least : mq_Ct lc cq_least) (h_firstLastMany : mq_Ct lc cq_firstLastMany) : mq_Ct lc cq_stands := by
  refine mq_method (lc := lc) (P := pq_stands) (cl := [cq_hasRun, cq_isAmong, cq_spread, cq_least, cq_firstLastMany]) (T := ([(71, 10, 11), (55, 10, 9), (27, 10, 3), (128, 3, 0)], [], [], [(148, 0, 0), (176, 1, 1), (222, 2, 0), (229, 3, 0), (232, 4, 1)], [], [])) (fuel := 400) (cuts := kq_stands) (by decide) rfl ⟨rfl, rfl⟩ (List.forall_mem_cons.mpr ⟨h_hasRun, (List.forall_mem_cons.mpr ⟨h_isAmong, (List.forall_mem_cons.mpr ⟨h_spread, (List.forall_mem_cons.mpr ⟨h_least, (List.forall_mem_cons.mpr ⟨h_firstLastMany, (fun _ h => absurd h List.not_mem_nil)⟩)⟩)⟩)⟩)⟩) ⟨(List.forall_mem_cons.mpr ⟨⟨_, rfl, by decide, kw_584⟩, (List.forall_mem_cons.mpr ⟨⟨_, rfl, by decide, kw_513⟩, (List.forall_mem_cons.mpr ⟨⟨_, rfl, by decide, kw_514⟩, (List.forall_mem_cons.mpr ⟨⟨_, rfl, by decide, kw_537⟩, (fun _ h => absurd h List.not_mem_nil)⟩)⟩)⟩)⟩), (fun _ h => absurd h List.not_mem_nil), (fun _ h => absurd h List.not_mem_nil), (List.forall_mem_cons.mpr ⟨mq_ml0 rfl mw0_hasRun kw_552, (List.forall_mem_cons.mpr ⟨mq_ml1 rfl mw1_isAmong kw_568, (List.forall_mem_cons.mpr ⟨mq_ml0 rfl mw0_spread kw_588, (List.forall_mem_cons.mpr ⟨mq_ml0 rfl mw0_least kw_593, (List.forall_mem_cons.mpr ⟨mq_ml1 rfl mw1_firstLastMany kw_600, (fun _ h => absurd h List.not_mem_nil)⟩)⟩)⟩)⟩)⟩), (fun _ h => absurd h List.not_mem_nil), (fun _ h => absurd h List.not_mem_nil)⟩ (by decide +kernel) ⟨_, _, rfl⟩ ?_ ?_ ?_ ?_
  · intro as ρ μ h
    obtain ⟨nw, sp, tl, tx, al⟩ := ρ
    obtain ⟨as0, rfl, h0⟩ := mq_pZ_spec h
    clear h
    obtain ⟨k, as1, rfl, h1⟩ := mq_pI_spec h0
    clear h0
    obtain ⟨y, as2, rfl, h2⟩ := mq_pI_spec h1
    clear h1
    obtain ⟨v, as3, rfl, h3⟩ := mq_pI_spec h2
    clear h2
    obtain ⟨w, as4, rfl, h4⟩ := mq_pI_spec h3
    clear h3
    obtain ⟨rfl, hp⟩ := mq_p0_spec h4
    clear h4
    rfl
  · intro as ρ μ h
    obtain ⟨nw, sp, tl, tx, al⟩ := ρ
    obtain ⟨as0, rfl, h0⟩ := mq_pZ_spec h
    clear h
    obtain ⟨k, as1, rfl, h1⟩ := mq_pI_spec h0
    clear h0
    obtain ⟨y, as2, rfl, h2⟩ := mq_pI_spec h1
    clear h1
    obtain ⟨v, as3, rfl, h3⟩ := mq_pI_spec h2
    clear h2
    obtain ⟨w, as4, rfl, h4⟩ := mq_pI_spec h3
    clear h3
    obtain ⟨rfl, hp⟩ := mq_p0_spec h4
    clear h4
    intro hrg
    obtain ⟨⟨ha1a, ha1b⟩, ⟨ha2a, ha2b⟩, ⟨ha3a, ha3b⟩, ⟨ha4a, ha4b⟩, -⟩ := hrg
    intro hbk
    have e0 : mq_l0 ([.inr (.inr (some (0, 0))), .inl k, .inl y, .inl v, .inl w] : List mq_V) 9 = [some (.inr (.inr (some (0, 0)))), some (.inl k), some (.inl y), some (.inl v), some (.inl w), none, none, none, none] := rfl
    rw [e0]
    repeat' (first | refine And.intro ?_ ?_ | intro _)
    all_goals first | omega | rfl | exact trivial | (simp [mq_up] at * <;> omega)
  · intro as ρ μ h
    obtain ⟨nw, sp, tl, tx, al⟩ := ρ
    obtain ⟨as0, rfl, h0⟩ := mq_pZ_spec h
    clear h
    obtain ⟨k, as1, rfl, h1⟩ := mq_pI_spec h0
    clear h0
    obtain ⟨y, as2, rfl, h2⟩ := mq_pI_spec h1
    clear h1
    obtain ⟨v, as3, rfl, h3⟩ := mq_pI_spec h2
    clear h2
    obtain ⟨w, as4, rfl, h4⟩ := mq_pI_spec h3
    clear h3
    obtain ⟨rfl, hp⟩ := mq_p0_spec h4
    clear h4
    refine List.forall_mem_cons.mpr ⟨?_, ?_⟩
    · intro l st ρ' μ' cs hJ
      obtain ⟨l0, rfl, hJ0⟩ := mq_tZ_spec hJ
      clear hJ
      obtain ⟨v1, l1, rfl, hJ1⟩ := mq_tI_spec hJ0
      clear hJ0
      obtain ⟨v2, l2, rfl, hJ2⟩ := mq_tI_spec hJ1
      clear hJ1
      obtain ⟨v3, l3, rfl, hJ3⟩ := mq_tI_spec hJ2
      clear hJ2
      obtain ⟨v4, l4, rfl, hJ4⟩ := mq_tI_spec hJ3
      clear hJ3
      obtain ⟨v5, l5, rfl, hJ5⟩ := mq_tI_spec hJ4
      clear hJ4
      obtain ⟨v6, l6, rfl, hJ6⟩ := mq_tI_spec hJ5
      clear hJ5
      obtain ⟨v7, l7, rfl, hJ7⟩ := mq_tI_spec hJ6
      clear hJ6
      obtain ⟨v8, l8, rfl, hJ8⟩ := mq_tI_spec hJ7
      clear hJ7
      obtain ⟨rfl, hJz⟩ := mq_t0_spec hJ8
      clear hJ8
      obtain ⟨rfl, rfl, rfl, hc0, hc1, hc2, hc3, hc4, hc5, hc6, hc7, hm0, hm1⟩ := hJz
      omega
    exact fun _ h => absurd h List.not_mem_nil
  · intro as ρ μ h
    obtain ⟨nw, sp, tl, tx, al⟩ := ρ
    obtain ⟨as0, rfl, h0⟩ := mq_pZ_spec h
    clear h
    obtain ⟨k, as1, rfl, h1⟩ := mq_pI_spec h0
    clear h0
    obtain ⟨y, as2, rfl, h2⟩ := mq_pI_spec h1
    clear h1
    obtain ⟨v, as3, rfl, h3⟩ := mq_pI_spec h2
    clear h2
    obtain ⟨w, as4, rfl, h4⟩ := mq_pI_spec h3
    clear h3
    obtain ⟨rfl, hp⟩ := mq_p0_spec h4
    clear h4
    intro hrg
    obtain ⟨⟨ha1a, ha1b⟩, ⟨ha2a, ha2b⟩, ⟨ha3a, ha3b⟩, ⟨ha4a, ha4b⟩, -⟩ := hrg
    refine List.forall_mem_cons.mpr ⟨?_, ?_⟩
    · intro N l st ρ' μ' cs hJ
      obtain ⟨l0, rfl, hJ0⟩ := mq_tZ_spec hJ
      clear hJ
      obtain ⟨v1, l1, rfl, hJ1⟩ := mq_tI_spec hJ0
      clear hJ0
      obtain ⟨v2, l2, rfl, hJ2⟩ := mq_tI_spec hJ1
      clear hJ1
      obtain ⟨v3, l3, rfl, hJ3⟩ := mq_tI_spec hJ2
      clear hJ2
      obtain ⟨v4, l4, rfl, hJ4⟩ := mq_tI_spec hJ3
      clear hJ3
      obtain ⟨v5, l5, rfl, hJ5⟩ := mq_tI_spec hJ4
      clear hJ4
      obtain ⟨v6, l6, rfl, hJ6⟩ := mq_tI_spec hJ5
      clear hJ5
      obtain ⟨v7, l7, rfl, hJ7⟩ := mq_tI_spec hJ6
      clear hJ6
      obtain ⟨v8, l8, rfl, hJ8⟩ := mq_tI_spec hJ7
      clear hJ7
      obtain ⟨rfl, hJz⟩ := mq_t0_spec hJ8
      clear hJ8
      obtain ⟨rfl, rfl, rfl, hc0, hc1, hc2, hc3, hc4, hc5, hc6, hc7, hm0, hm1⟩ := hJz
      intro hbk hrl
      obtain ⟨⟨hl1a, hl1b⟩, ⟨hl2a, hl2b⟩, ⟨hl3a, hl3b⟩, ⟨hl4a, hl4b⟩, ⟨hl5a, hl5b⟩, ⟨hl6a, hl6b⟩, ⟨hl7a, hl7b⟩, ⟨hl8a, hl8b⟩, -⟩ := hrl
      repeat' (first | refine And.intro ?_ ?_ | intro _)
      all_goals first | omega | rfl | exact trivial | (simp [mq_up] at * <;> omega)
    exact fun _ h => absurd h List.not_mem_nil
def pq_posts : List mq_E := [(0, false, .aload 0), (1, false, .iload 1), (2, false, .iload 2), (3, false, .iconst 0), (4, false, .iload 3), (5, false, .invokestatic 0), (8, false, .ifCond .eq (Int.ofNat 21)), (11, false, .iload 4), (13, false, .iconst 0), (14, false, .iconst 2), (15, false, .invokestatic 1), (18, false, .ifCond .ne (Int.ofNat 24)), (21, false, .iconst (-2)), (23, false, .ireturn), (24, false, .iconst (-1)), (25, false, .istore 5), (27, false, .iconst (-1)), (28, false, .istore 6), (30, false, .iconst 0), (31, false, .istore 7), (33, false, .iconst 0), (34, false, .istore 8), (36, true, .iload 8), (38, false, .aload 0), (39, false, .invokeinterface 10 3), (42, false, .invokeinterface 3 0), (45, false, .if_icmp .gt (Int.ofNat 92)), (48, false, .aload 0), (49, false, .invokeinterface 10 10), (52, false, .iload 1), (53, false, .iload 2), (54, false, .iload 8), (56, false, .iload 3), (57, false, .invokestatic 2), (60, false, .iconst (-1)), (61, false, .if_icmp .eq (Int.ofNat 86)), (64, false, .iload 5), (66, false, .iconst (-1)), (67, false, .if_icmp .ne (Int.ofNat 75)), (70, false, .iload 8), (72, false, .goto (Int.ofNat 77)), (75, false, .iload 5), (77, false, .istore 5), (79, false, .iload 8), (81, false, .istore 6), (83, false, .iinc 7 1), (86, false, .iinc 8 1), (89, false, .goto (Int.ofNat 36)), (92, false, .iload 5), (94, false, .iload 6), (96, false, .iload 7), (98, false, .iload 4), (100, false, .invokestatic 3), (103, false, .ireturn)]
def cq_posts : mq_C := ((yX10_posts, cX10_posts, 9, (some .int), { frames := 5, cells := 16, slots := 6416, locals := 129 }), (5, 1, 1, 1), 12884901890, (fun as ρ μ => match ρ with
  | (nw, sp, tl, tx, al) => mq_pZ as 0 fun as => mq_pI as fun k as => mq_pI as fun p as => mq_pI as fun v as => mq_pI as fun w as => mq_p0 as (True)),
  (fun as ρ μ r ρ' μ' => match as, ρ, ρ' with
  | [.inr (.inr (some (_, _))), .inl k, .inl p, .inl v, .inl w], (nw, sp, tl, tx, al), (nw', sp', tl', tx', al') => []
  | _, _, _ => []))
def kq_posts : List mq_V → mq_R → mq_M → List mq_Cu := fun as ρ μ => match as, ρ with
  | [.inr (.inr (some (_, _))), .inl k, .inl p, .inl v, .inl w], (nw, sp, tl, tx, al) => [(36, [true, true, true, true, true, true, true, true, true], fun N l st ρ' μ' cs => mq_tZ l 0 fun l => mq_tI l fun v1 l => mq_tI l fun v2 l => mq_tI l fun v3 l => mq_tI l fun v4 l => mq_tI l fun v5 l => mq_tI l fun v6 l => mq_tI l fun v7 l => mq_tI l fun v8 l => mq_t0 l (st = [] ∧ (ρ'.1 = nw ∧ ρ'.2.1 = sp ∧ ρ'.2.2.1 = tl ∧ ρ'.2.2.2.1 = tx) ∧ cs = 1 ∧ v1 = k ∧ v2 = p ∧ v3 = v ∧ v4 = w ∧ 0 ≤ v8 ∧ v8 ≤ 401 ∧ 0 ≤ v7 ∧ v7 ≤ v8 ∧ 0 ≤ (401 - v8 : Int) ∧ (401 - v8 : Int) < (N : Int)))]
  | _, _ => []
set_option maxHeartbeats 16000000 in
set_option maxRecDepth 100000 in
theorem vq_posts (lc : Launch) (h_takesAim : mq_Ct lc cq_takesAim) (h_isAmong : mq_Ct lc cq_isAmong) (h_firstStep : mq_Ct lc cq_firstStep) (h_firstLastMany : mq_Ct lc cq_firstLastMany) : mq_Ct lc cq_posts := by
  refine mq_method (lc := lc) (P := pq_posts) (cl := [cq_takesAim, cq_isAmong, cq_firstStep, cq_firstLastMany]) (T := ([(27, 10, 3), (128, 3, 0), (64, 10, 10)], [], [], [(200, 0, 0), (176, 1, 1), (203, 2, 0), (232, 3, 1)], [], [])) (fuel := 400) (cuts := kq_posts) (by decide) rfl ⟨rfl, rfl⟩ (List.forall_mem_cons.mpr ⟨h_takesAim, (List.forall_mem_cons.mpr ⟨h_isAmong, (List.forall_mem_cons.mpr ⟨h_firstStep, (List.forall_mem_cons.mpr ⟨h_firstLastMany, (fun _ h => absurd h List.not_mem_nil)⟩)⟩)⟩)⟩) ⟨(List.forall_mem_cons.mpr ⟨⟨_, rfl, by decide, kw_514⟩, (List.forall_mem_cons.mpr ⟨⟨_, rfl, by decide, kw_537⟩, (List.forall_mem_cons.mpr ⟨⟨_, rfl, by decide, kw_515⟩, (fun _ h => absurd h List.not_mem_nil)⟩)⟩)⟩), (fun _ h => absurd h List.not_mem_nil), (fun _ h => absurd h List.not_mem_nil), (List.forall_mem_cons.mpr ⟨mq_ml0 rfl mw0_takesAim kw_578, (List.forall_mem_cons.mpr ⟨mq_ml1 rfl mw1_isAmong kw_568, (List.forall_mem_cons.mpr ⟨mq_ml0 rfl mw0_firstStep kw_579, (List.forall_mem_cons.mpr ⟨mq_ml1 rfl mw1_firstLastMany kw_600, (fun _ h => absurd h List.not_mem_nil)⟩)⟩)⟩)⟩), (fun _ h => absurd h List.not_mem_nil), (fun _ h => absurd h List.not_mem_nil)⟩ (by decide +kernel) ⟨_, _, rfl⟩ ?_ ?_ ?_ ?_
  · intro as ρ μ h
    obtain ⟨nw, sp, tl, tx, al⟩ := ρ
    obtain ⟨as0, rfl, h0⟩ := mq_pZ_spec h
    clear h
    obtain ⟨k, as1, rfl, h1⟩ := mq_pI_spec h0
    clear h0
    obtain ⟨p, as2, rfl, h2⟩ := mq_pI_spec h1
    clear h1
    obtain ⟨v, as3, rfl, h3⟩ := mq_pI_spec h2
    clear h2
    obtain ⟨w, as4, rfl, h4⟩ := mq_pI_spec h3
    clear h3
    obtain ⟨rfl, hp⟩ := mq_p0_spec h4
    clear h4
    rfl
  · intro as ρ μ h
    obtain ⟨nw, sp, tl, tx, al⟩ := ρ
    obtain ⟨as0, rfl, h0⟩ := mq_pZ_spec h
    clear h
    obtain ⟨k, as1, rfl, h1⟩ := mq_pI_spec h0
    clear h0
    obtain ⟨p, as2, rfl, h2⟩ := mq_pI_spec h1
    clear h1
    obtain ⟨v, as3, rfl, h3⟩ := mq_pI_spec h2
    clear h2
    obtain ⟨w, as4, rfl, h4⟩ := mq_pI_spec h3
    clear h3
    obtain ⟨rfl, hp⟩ := mq_p0_spec h4
    clear h4
    intro hrg
    obtain ⟨⟨ha1a, ha1b⟩, ⟨ha2a, ha2b⟩, ⟨ha3a, ha3b⟩, ⟨ha4a, ha4b⟩, -⟩ := hrg
    intro hbk
    have e0 : mq_l0 ([.inr (.inr (some (0, 0))), .inl k, .inl p, .inl v, .inl w] : List mq_V) 9 = [some (.inr (.inr (some (0, 0)))), some (.inl k), some (.inl p), some (.inl v), some (.inl w), none, none, none, none] := rfl
    rw [e0]
    repeat' (first | refine And.intro ?_ ?_ | intro _)
    all_goals first | omega | rfl | exact trivial | (simp [mq_up] at * <;> omega)
  · intro as ρ μ h
    obtain ⟨nw, sp, tl, tx, al⟩ := ρ
    obtain ⟨as0, rfl, h0⟩ := mq_pZ_spec h
    clear h
    obtain ⟨k, as1, rfl, h1⟩ := mq_pI_spec h0
    clear h0
    obtain ⟨p, as2, rfl, h2⟩ := mq_pI_spec h1
    clear h1
    obtain ⟨v, as3, rfl, h3⟩ := mq_pI_spec h2
    clear h2
    obtain ⟨w, as4, rfl, h4⟩ := mq_pI_spec h3
    clear h3
    obtain ⟨rfl, hp⟩ := mq_p0_spec h4
    clear h4
    refine List.forall_mem_cons.mpr ⟨?_, ?_⟩
    · intro l st ρ' μ' cs hJ
      obtain ⟨nw2, sp2, tl2, tx2, al2⟩ := ρ'
      obtain ⟨l0, rfl, hJ0⟩ := mq_tZ_spec hJ
      clear hJ
      obtain ⟨v1, l1, rfl, hJ1⟩ := mq_tI_spec hJ0
      clear hJ0
      obtain ⟨v2, l2, rfl, hJ2⟩ := mq_tI_spec hJ1
      clear hJ1
      obtain ⟨v3, l3, rfl, hJ3⟩ := mq_tI_spec hJ2
      clear hJ2
      obtain ⟨v4, l4, rfl, hJ4⟩ := mq_tI_spec hJ3
      clear hJ3
      obtain ⟨v5, l5, rfl, hJ5⟩ := mq_tI_spec hJ4
      clear hJ4
      obtain ⟨v6, l6, rfl, hJ6⟩ := mq_tI_spec hJ5
      clear hJ5
      obtain ⟨v7, l7, rfl, hJ7⟩ := mq_tI_spec hJ6
      clear hJ6
      obtain ⟨v8, l8, rfl, hJ8⟩ := mq_tI_spec hJ7
      clear hJ7
      obtain ⟨rfl, hJz⟩ := mq_t0_spec hJ8
      clear hJ8
      obtain ⟨rfl, ⟨e1, e2, e3, e4⟩, rfl, hc0, hc1, hc2, hc3, hc4, hc5, hc6, hc7, hm0, hm1⟩ := hJz
      dsimp only at e1 e2 e3 e4
      subst e1 e2 e3 e4
      omega
    exact fun _ h => absurd h List.not_mem_nil
  · intro as ρ μ h
    obtain ⟨nw, sp, tl, tx, al⟩ := ρ
    obtain ⟨as0, rfl, h0⟩ := mq_pZ_spec h
    clear h
    obtain ⟨k, as1, rfl, h1⟩ := mq_pI_spec h0
    clear h0
    obtain ⟨p, as2, rfl, h2⟩ := mq_pI_spec h1
    clear h1
    obtain ⟨v, as3, rfl, h3⟩ := mq_pI_spec h2
    clear h2
    obtain ⟨w, as4, rfl, h4⟩ := mq_pI_spec h3
    clear h3
    obtain ⟨rfl, hp⟩ := mq_p0_spec h4
    clear h4
    intro hrg
    obtain ⟨⟨ha1a, ha1b⟩, ⟨ha2a, ha2b⟩, ⟨ha3a, ha3b⟩, ⟨ha4a, ha4b⟩, -⟩ := hrg
    refine List.forall_mem_cons.mpr ⟨?_, ?_⟩
    · intro N l st ρ' μ' cs hJ
      obtain ⟨nw2, sp2, tl2, tx2, al2⟩ := ρ'
      obtain ⟨l0, rfl, hJ0⟩ := mq_tZ_spec hJ
      clear hJ
      obtain ⟨v1, l1, rfl, hJ1⟩ := mq_tI_spec hJ0
      clear hJ0
      obtain ⟨v2, l2, rfl, hJ2⟩ := mq_tI_spec hJ1
      clear hJ1
      obtain ⟨v3, l3, rfl, hJ3⟩ := mq_tI_spec hJ2
      clear hJ2
      obtain ⟨v4, l4, rfl, hJ4⟩ := mq_tI_spec hJ3
      clear hJ3
      obtain ⟨v5, l5, rfl, hJ5⟩ := mq_tI_spec hJ4
      clear hJ4
      obtain ⟨v6, l6, rfl, hJ6⟩ := mq_tI_spec hJ5
      clear hJ5
      obtain ⟨v7, l7, rfl, hJ7⟩ := mq_tI_spec hJ6
      clear hJ6
      obtain ⟨v8, l8, rfl, hJ8⟩ := mq_tI_spec hJ7
      clear hJ7
      obtain ⟨rfl, hJz⟩ := mq_t0_spec hJ8
      clear hJ8
      obtain ⟨rfl, ⟨e1, e2, e3, e4⟩, rfl, hc0, hc1, hc2, hc3, hc4, hc5, hc6, hc7, hm0, hm1⟩ := hJz
      dsimp only at e1 e2 e3 e4
      subst e1 e2 e3 e4
      intro hbk hrl
      obtain ⟨⟨hl1a, hl1b⟩, ⟨hl2a, hl2b⟩, ⟨hl3a, hl3b⟩, ⟨hl4a, hl4b⟩, ⟨hl5a, hl5b⟩, ⟨hl6a, hl6b⟩, ⟨hl7a, hl7b⟩, ⟨hl8a, hl8b⟩, -⟩ := hrl
      repeat' (first | refine And.intro ?_ ?_ | intro _)
      all_goals first | omega | rfl | exact trivial | (simp [mq_up] at * <;> omega)
    exact fun _ h => absurd h List.not_mem_nil
def pq_speeds : List mq_E := [(0, false, .aload 0), (1, false, .iload 1), (2, false, .iload 2), (3, false, .iload 3), (4, false, .iconst 1), (5, false, .invokestatic 0), (8, false, .ifCond .ne (Int.ofNat 14)), (11, false, .iconst (-2)), (13, false, .ireturn), (14, false, .iconst 0), (15, false, .istore 4), (17, false, .iconst 1), (18, false, .istore 5), (20, true, .iload 5), (22, false, .iconst 15), (24, false, .if_icmp .gt (Int.ofNat 58)), (27, false, .aload 0), (28, false, .invokeinterface 10 10), (31, false, .iload 1), (32, false, .iload 2), (33, false, .iload 3), (34, false, .iload 5), (36, false, .invokestatic 1), (39, false, .iconst (-1)), (40, false, .if_icmp .eq (Int.ofNat 52)), (43, false, .iload 4), (45, false, .iconst 1), (46, false, .iload 5), (48, false, .ishl), (49, false, .ior), (50, false, .istore 4), (52, false, .iinc 5 1), (55, false, .goto (Int.ofNat 20)), (58, false, .iload 4), (60, false, .ireturn)]
def cq_speeds : mq_C := ((yX10_speeds, cX10_speeds, 6, (some .int), { frames := 5, cells := 16, slots := 6416, locals := 129 }), (4, 1, 1, 1), 12884901890, (fun as ρ μ => match ρ with
  | (nw, sp, tl, tx, al) => mq_pZ as 0 fun as => mq_pI as fun k as => mq_pI as fun p as => mq_pI as fun y as => mq_p0 as (True)),
  (fun as ρ μ r ρ' μ' => match as, ρ, ρ' with
  | [.inr (.inr (some (_, _))), .inl k, .inl p, .inl y], (nw, sp, tl, tx, al), (nw', sp', tl', tx', al') => []
  | _, _, _ => []))
def kq_speeds : List mq_V → mq_R → mq_M → List mq_Cu := fun as ρ μ => match as, ρ with
  | [.inr (.inr (some (_, _))), .inl k, .inl p, .inl y], (nw, sp, tl, tx, al) => [(20, [true, true, true, true, true, true], fun N l st ρ' μ' cs => mq_tZ l 0 fun l => mq_tI l fun v1 l => mq_tI l fun v2 l => mq_tI l fun v3 l => mq_tI l fun v4 l => mq_tI l fun v5 l => mq_t0 l (st = [] ∧ (ρ'.1 = nw ∧ ρ'.2.1 = sp ∧ ρ'.2.2.1 = tl ∧ ρ'.2.2.2.1 = tx) ∧ cs = 1 ∧ v1 = k ∧ v2 = p ∧ v3 = y ∧ 1 ≤ v5 ∧ v5 ≤ 16 ∧ 0 ≤ (16 - v5 : Int) ∧ (16 - v5 : Int) < (N : Int)))]
  | _, _ => []
set_option maxHeartbeats 16000000 in
set_option maxRecDepth 100000 in
theorem vq_speeds (lc : Launch) (h_takesAim : mq_Ct lc cq_takesAim) (h_firstStep : mq_Ct lc cq_firstStep) : mq_Ct lc cq_speeds := by
  refine mq_method (lc := lc) (P := pq_speeds) (cl := [cq_takesAim, cq_firstStep]) (T := ([(64, 10, 10)], [], [], [(200, 0, 0), (203, 1, 0)], [], [])) (fuel := 400) (cuts := kq_speeds) (by decide) rfl ⟨rfl, rfl⟩ (List.forall_mem_cons.mpr ⟨h_takesAim, (List.forall_mem_cons.mpr ⟨h_firstStep, (fun _ h => absurd h List.not_mem_nil)⟩)⟩) ⟨(List.forall_mem_cons.mpr ⟨⟨_, rfl, by decide, kw_515⟩, (fun _ h => absurd h List.not_mem_nil)⟩), (fun _ h => absurd h List.not_mem_nil), (fun _ h => absurd h List.not_mem_nil), (List.forall_mem_cons.mpr ⟨mq_ml0 rfl mw0_takesAim kw_578, (List.forall_mem_cons.mpr ⟨mq_ml0 rfl mw0_firstStep kw_579, (fun _ h => absurd h List.not_mem_nil)⟩)⟩), (fun _ h => absurd h List.not_mem_nil), (fun _ h => absurd h List.not_mem_nil)⟩ (by decide +kernel) ⟨_, _, rfl⟩ ?_ ?_ ?_ ?_
  · intro as ρ μ h
    obtain ⟨nw, sp, tl, tx, al⟩ := ρ
    obtain ⟨as0, rfl, h0⟩ := mq_pZ_spec h
    clear h
    obtain ⟨k, as1, rfl, h1⟩ := mq_pI_spec h0
    clear h0
    obtain ⟨p, as2, rfl, h2⟩ := mq_pI_spec h1
    clear h1
    obtain ⟨y, as3, rfl, h3⟩ := mq_pI_spec h2
    clear h2
    obtain ⟨rfl, hp⟩ := mq_p0_spec h3
    clear h3
    rfl
  · intro as ρ μ h
    obtain ⟨nw, sp, tl, tx, al⟩ := ρ
    obtain ⟨as0, rfl, h0⟩ := mq_pZ_spec h
    clear h
    obtain ⟨k, as1, rfl, h1⟩ := mq_pI_spec h0
    clear h0
    obtain ⟨p, as2, rfl, h2⟩ := mq_pI_spec h1
    clear h1
    obtain ⟨y, as3, rfl, h3⟩ := mq_pI_spec h2
    clear h2
    obtain ⟨rfl, hp⟩ := mq_p0_spec h3
    clear h3
    intro hrg
    obtain ⟨⟨ha1a, ha1b⟩, ⟨ha2a, ha2b⟩, ⟨ha3a, ha3b⟩, -⟩ := hrg
    intro hbk
    have e0 : mq_l0 ([.inr (.inr (some (0, 0))), .inl k, .inl p, .inl y] : List mq_V) 6 = [some (.inr (.inr (some (0, 0)))), some (.inl k), some (.inl p), some (.inl y), none, none] := rfl
    rw [e0]
    repeat' (first | refine And.intro ?_ ?_ | intro _)
    all_goals first | omega | rfl | exact trivial | (simp [mq_up] at * <;> omega)
  · intro as ρ μ h
    obtain ⟨nw, sp, tl, tx, al⟩ := ρ
    obtain ⟨as0, rfl, h0⟩ := mq_pZ_spec h
    clear h
    obtain ⟨k, as1, rfl, h1⟩ := mq_pI_spec h0
    clear h0
    obtain ⟨p, as2, rfl, h2⟩ := mq_pI_spec h1
    clear h1
    obtain ⟨y, as3, rfl, h3⟩ := mq_pI_spec h2
    clear h2
    obtain ⟨rfl, hp⟩ := mq_p0_spec h3
    clear h3
    refine List.forall_mem_cons.mpr ⟨?_, ?_⟩
    · intro l st ρ' μ' cs hJ
      obtain ⟨nw2, sp2, tl2, tx2, al2⟩ := ρ'
      obtain ⟨l0, rfl, hJ0⟩ := mq_tZ_spec hJ
      clear hJ
      obtain ⟨v1, l1, rfl, hJ1⟩ := mq_tI_spec hJ0
      clear hJ0
      obtain ⟨v2, l2, rfl, hJ2⟩ := mq_tI_spec hJ1
      clear hJ1
      obtain ⟨v3, l3, rfl, hJ3⟩ := mq_tI_spec hJ2
      clear hJ2
      obtain ⟨v4, l4, rfl, hJ4⟩ := mq_tI_spec hJ3
      clear hJ3
      obtain ⟨v5, l5, rfl, hJ5⟩ := mq_tI_spec hJ4
      clear hJ4
      obtain ⟨rfl, hJz⟩ := mq_t0_spec hJ5
      clear hJ5
      obtain ⟨rfl, ⟨e1, e2, e3, e4⟩, rfl, hc0, hc1, hc2, hc3, hc4, hm0, hm1⟩ := hJz
      dsimp only at e1 e2 e3 e4
      subst e1 e2 e3 e4
      omega
    exact fun _ h => absurd h List.not_mem_nil
  · intro as ρ μ h
    obtain ⟨nw, sp, tl, tx, al⟩ := ρ
    obtain ⟨as0, rfl, h0⟩ := mq_pZ_spec h
    clear h
    obtain ⟨k, as1, rfl, h1⟩ := mq_pI_spec h0
    clear h0
    obtain ⟨p, as2, rfl, h2⟩ := mq_pI_spec h1
    clear h1
    obtain ⟨y, as3, rfl, h3⟩ := mq_pI_spec h2
    clear h2
    obtain ⟨rfl, hp⟩ := mq_p0_spec h3
    clear h3
    intro hrg
    obtain ⟨⟨ha1a, ha1b⟩, ⟨ha2a, ha2b⟩, ⟨ha3a, ha3b⟩, -⟩ := hrg
    refine List.forall_mem_cons.mpr ⟨?_, ?_⟩
    · intro N l st ρ' μ' cs hJ
      obtain ⟨nw2, sp2, tl2, tx2, al2⟩ := ρ'
      obtain ⟨l0, rfl, hJ0⟩ := mq_tZ_spec hJ
      clear hJ
      obtain ⟨v1, l1, rfl, hJ1⟩ := mq_tI_spec hJ0
      clear hJ0
      obtain ⟨v2, l2, rfl, hJ2⟩ := mq_tI_spec hJ1
      clear hJ1
      obtain ⟨v3, l3, rfl, hJ3⟩ := mq_tI_spec hJ2
      clear hJ2
      obtain ⟨v4, l4, rfl, hJ4⟩ := mq_tI_spec hJ3
      clear hJ3
      obtain ⟨v5, l5, rfl, hJ5⟩ := mq_tI_spec hJ4
      clear hJ4
      obtain ⟨rfl, hJz⟩ := mq_t0_spec hJ5
      clear hJ5
      obtain ⟨rfl, ⟨e1, e2, e3, e4⟩, rfl, hc0, hc1, hc2, hc3, hc4, hm0, hm1⟩ := hJz
      dsimp only at e1 e2 e3 e4
      subst e1 e2 e3 e4
      intro hbk hrl
      obtain ⟨⟨hl1a, hl1b⟩, ⟨hl2a, hl2b⟩, ⟨hl3a, hl3b⟩, ⟨hl4a, hl4b⟩, ⟨hl5a, hl5b⟩, -⟩ := hrl
      repeat' (first | refine And.intro ?_ ?_ | intro _)
      all_goals first | omega | rfl | exact trivial | (simp [mq_up] at * <;> omega)
    exact fun _ h => absurd h List.not_mem_nil
def pq_wetter : List mq_E := [(0, false, .aload 0), (1, false, .iload 1), (2, false, .iload 2), (3, false, .iload 3), (4, false, .iload 4), (6, false, .invokestatic 0), (9, false, .ifCond .ne (Int.ofNat 15)), (12, false, .iconst (-2)), (14, false, .ireturn), (15, false, .aload 0), (16, false, .invokeinterface 10 9), (19, false, .invokeinterface 9 5), (22, false, .istore 5), (24, false, .iconst (-1)), (25, false, .istore 6), (27, false, .iconst 0), (28, false, .istore 7), (30, true, .iload 7), (32, false, .iconst 100), (34, false, .if_icmp .gt (Int.ofNat 92)), (37, false, .iload 7), (39, false, .ifCond .eq (Int.ofNat 55)), (42, false, .aload 0), (43, false, .invokeinterface 10 9), (46, false, .iload 1), (47, false, .iload 7), (49, false, .invokestatic 1), (52, false, .ifCond .eq (Int.ofNat 82)), (55, false, .aload 0), (56, false, .invokeinterface 10 9), (59, false, .iload 1), (60, false, .iload 7), (62, false, .invokestatic 2), (65, false, .aload 0), (66, false, .iload 1), (67, false, .iload 2), (68, false, .iload 3), (69, false, .iload 4), (71, false, .iconst 1), (72, false, .invokestatic 3), (75, false, .iconst (-1)), (76, false, .if_icmp .ne (Int.ofNat 82)), (79, false, .goto (Int.ofNat 92)), (82, false, .iload 7), (84, false, .istore 6), (86, false, .iinc 7 1), (89, false, .goto (Int.ofNat 30)), (92, false, .aload 0), (93, false, .invokeinterface 10 9), (96, false, .iload 1), (97, false, .iload 5), (99, false, .invokestatic 2), (102, false, .iload 6), (104, false, .ireturn)]
def cq_wetter : mq_C := ((yX10_wetter, cX10_wetter, 8, (some .int), { frames := 6, cells := 0, slots := 0, locals := 150 }), (5, 1, 0, 0), 120829509632, (fun as ρ μ => match ρ with
  | (nw, sp, tl, tx, al) => mq_pZ as 0 fun as => mq_pI as fun k as => mq_pI as fun p as => mq_pI as fun y as => mq_pI as fun v as => mq_p0 as (True)),
  (fun as ρ μ r ρ' μ' => match as, ρ, ρ' with
  | [.inr (.inr (some (_, _))), .inl k, .inl p, .inl y, .inl v], (nw, sp, tl, tx, al), (nw', sp', tl', tx', al') => []
  | _, _, _ => []))
def kq_wetter : List mq_V → mq_R → mq_M → List mq_Cu := fun as ρ μ => match as, ρ with
  | [.inr (.inr (some (_, _))), .inl k, .inl p, .inl y, .inl v], (nw, sp, tl, tx, al) => [(30, [true, true, true, true, true, true, true, true], fun N l st ρ' μ' cs => mq_tZ l 0 fun l => mq_tI l fun v1 l => mq_tI l fun v2 l => mq_tI l fun v3 l => mq_tI l fun v4 l => mq_tI l fun v5 l => mq_tI l fun v6 l => mq_tI l fun v7 l => mq_t0 l (st = [] ∧ ρ' = (nw, sp, tl, tx, al) ∧ cs = 0 ∧ v1 = k ∧ v2 = p ∧ v3 = y ∧ v4 = v ∧ 0 ≤ v7 ∧ v7 ≤ 101 ∧ 0 ≤ v5 ∧ v5 ≤ 100 ∧ 0 ≤ (101 - v7 : Int) ∧ (101 - v7 : Int) < (N : Int)))]
  | _, _ => []
set_option maxHeartbeats 16000000 in
set_option maxRecDepth 100000 in
theorem vq_wetter (lc : Launch) (h_hasAim : mq_Ct lc cq_hasAim) (h_brakesDiffer : mq_Ct lc cq_brakesDiffer) (h_soakKind : mq_Ct lc cq_soakKind) (h_leastMeasure : mq_Ct lc cq_leastMeasure) : mq_Ct lc cq_wetter := by
  refine mq_method (lc := lc) (P := pq_wetter) (cl := [cq_hasAim, cq_brakesDiffer, cq_soakKind, cq_leastMeasure]) (T := ([(55, 10, 9), (183, 9, 5)], [], [], [(155, 0, 0), (235, 1, 0), (239, 2, 0), (218, 3, 0)], [], [])) (fuel := 400) (cuts := kq_wetter) (by decide) rfl ⟨rfl, rfl⟩ (List.forall_mem_cons.mpr ⟨h_hasAim, (List.forall_mem_cons.mpr ⟨h_brakesDiffer, (List.forall_mem_cons.mpr ⟨h_soakKind, (List.forall_mem_cons.mpr ⟨h_leastMeasure, (fun _ h => absurd h List.not_mem_nil)⟩)⟩)⟩)⟩) ⟨(List.forall_mem_cons.mpr ⟨⟨_, rfl, by decide, kw_513⟩, (List.forall_mem_cons.mpr ⟨⟨_, rfl, by decide, kw_570⟩, (fun _ h => absurd h List.not_mem_nil)⟩)⟩), (fun _ h => absurd h List.not_mem_nil), (fun _ h => absurd h List.not_mem_nil), (List.forall_mem_cons.mpr ⟨mq_ml0 rfl mw0_hasAim kw_556, (List.forall_mem_cons.mpr ⟨mq_ml0 rfl mw0_brakesDiffer kw_604, (List.forall_mem_cons.mpr ⟨mq_ml0 rfl mw0_soakKind kw_605, (List.forall_mem_cons.mpr ⟨mq_ml0 rfl mw0_leastMeasure kw_597, (fun _ h => absurd h List.not_mem_nil)⟩)⟩)⟩)⟩), (fun _ h => absurd h List.not_mem_nil), (fun _ h => absurd h List.not_mem_nil)⟩ (by decide +kernel) ⟨_, _, rfl⟩ ?_ ?_ ?_ ?_
  · intro as ρ μ h
    obtain ⟨nw, sp, tl, tx, al⟩ := ρ
    obtain ⟨as0, rfl, h0⟩ := mq_pZ_spec h
    clear h
    obtain ⟨k, as1, rfl, h1⟩ := mq_pI_spec h0
    clear h0
    obtain ⟨p, as2, rfl, h2⟩ := mq_pI_spec h1
    clear h1
    obtain ⟨y, as3, rfl, h3⟩ := mq_pI_spec h2
    clear h2
    obtain ⟨v, as4, rfl, h4⟩ := mq_pI_spec h3
    clear h3
    obtain ⟨rfl, hp⟩ := mq_p0_spec h4
    clear h4
    rfl
  · intro as ρ μ h
    obtain ⟨nw, sp, tl, tx, al⟩ := ρ
    obtain ⟨as0, rfl, h0⟩ := mq_pZ_spec h
    clear h
    obtain ⟨k, as1, rfl, h1⟩ := mq_pI_spec h0
    clear h0
    obtain ⟨p, as2, rfl, h2⟩ := mq_pI_spec h1
    clear h1
    obtain ⟨y, as3, rfl, h3⟩ := mq_pI_spec h2
    clear h2
    obtain ⟨v, as4, rfl, h4⟩ := mq_pI_spec h3
    clear h3
    obtain ⟨rfl, hp⟩ := mq_p0_spec h4
    clear h4
    intro hrg
    obtain ⟨⟨ha1a, ha1b⟩, ⟨ha2a, ha2b⟩, ⟨ha3a, ha3b⟩, ⟨ha4a, ha4b⟩, -⟩ := hrg
    intro hbk
    have e0 : mq_l0 ([.inr (.inr (some (0, 0))), .inl k, .inl p, .inl y, .inl v] : List mq_V) 8 = [some (.inr (.inr (some (0, 0)))), some (.inl k), some (.inl p), some (.inl y), some (.inl v), none, none, none] := rfl
    rw [e0]
    repeat' (first | refine And.intro ?_ ?_ | intro _)
    all_goals first | omega | rfl | exact trivial | (simp [mq_up] at * <;> omega)
  · intro as ρ μ h
    obtain ⟨nw, sp, tl, tx, al⟩ := ρ
    obtain ⟨as0, rfl, h0⟩ := mq_pZ_spec h
    clear h
    obtain ⟨k, as1, rfl, h1⟩ := mq_pI_spec h0
    clear h0
    obtain ⟨p, as2, rfl, h2⟩ := mq_pI_spec h1
    clear h1
    obtain ⟨y, as3, rfl, h3⟩ := mq_pI_spec h2
    clear h2
    obtain ⟨v, as4, rfl, h4⟩ := mq_pI_spec h3
    clear h3
    obtain ⟨rfl, hp⟩ := mq_p0_spec h4
    clear h4
    refine List.forall_mem_cons.mpr ⟨?_, ?_⟩
    · intro l st ρ' μ' cs hJ
      obtain ⟨l0, rfl, hJ0⟩ := mq_tZ_spec hJ
      clear hJ
      obtain ⟨v1, l1, rfl, hJ1⟩ := mq_tI_spec hJ0
      clear hJ0
      obtain ⟨v2, l2, rfl, hJ2⟩ := mq_tI_spec hJ1
      clear hJ1
      obtain ⟨v3, l3, rfl, hJ3⟩ := mq_tI_spec hJ2
      clear hJ2
      obtain ⟨v4, l4, rfl, hJ4⟩ := mq_tI_spec hJ3
      clear hJ3
      obtain ⟨v5, l5, rfl, hJ5⟩ := mq_tI_spec hJ4
      clear hJ4
      obtain ⟨v6, l6, rfl, hJ6⟩ := mq_tI_spec hJ5
      clear hJ5
      obtain ⟨v7, l7, rfl, hJ7⟩ := mq_tI_spec hJ6
      clear hJ6
      obtain ⟨rfl, hJz⟩ := mq_t0_spec hJ7
      clear hJ7
      obtain ⟨rfl, rfl, rfl, hc0, hc1, hc2, hc3, hc4, hc5, hc6, hc7, hm0, hm1⟩ := hJz
      omega
    exact fun _ h => absurd h List.not_mem_nil
  · intro as ρ μ h
    obtain ⟨nw, sp, tl, tx, al⟩ := ρ
    obtain ⟨as0, rfl, h0⟩ := mq_pZ_spec h
    clear h
    obtain ⟨k, as1, rfl, h1⟩ := mq_pI_spec h0
    clear h0
    obtain ⟨p, as2, rfl, h2⟩ := mq_pI_spec h1
    clear h1
    obtain ⟨y, as3, rfl, h3⟩ := mq_pI_spec h2
    clear h2
    obtain ⟨v, as4, rfl, h4⟩ := mq_pI_spec h3
    clear h3
    obtain ⟨rfl, hp⟩ := mq_p0_spec h4
    clear h4
    intro hrg
    obtain ⟨⟨ha1a, ha1b⟩, ⟨ha2a, ha2b⟩, ⟨ha3a, ha3b⟩, ⟨ha4a, ha4b⟩, -⟩ := hrg
    refine List.forall_mem_cons.mpr ⟨?_, ?_⟩
    · intro N l st ρ' μ' cs hJ
      obtain ⟨l0, rfl, hJ0⟩ := mq_tZ_spec hJ
      clear hJ
      obtain ⟨v1, l1, rfl, hJ1⟩ := mq_tI_spec hJ0
      clear hJ0
      obtain ⟨v2, l2, rfl, hJ2⟩ := mq_tI_spec hJ1
      clear hJ1
      obtain ⟨v3, l3, rfl, hJ3⟩ := mq_tI_spec hJ2
      clear hJ2
      obtain ⟨v4, l4, rfl, hJ4⟩ := mq_tI_spec hJ3
      clear hJ3
      obtain ⟨v5, l5, rfl, hJ5⟩ := mq_tI_spec hJ4
      clear hJ4
      obtain ⟨v6, l6, rfl, hJ6⟩ := mq_tI_spec hJ5
      clear hJ5
      obtain ⟨v7, l7, rfl, hJ7⟩ := mq_tI_spec hJ6
      clear hJ6
      obtain ⟨rfl, hJz⟩ := mq_t0_spec hJ7
      clear hJ7
      obtain ⟨rfl, rfl, rfl, hc0, hc1, hc2, hc3, hc4, hc5, hc6, hc7, hm0, hm1⟩ := hJz
      intro hbk hrl
      obtain ⟨⟨hl1a, hl1b⟩, ⟨hl2a, hl2b⟩, ⟨hl3a, hl3b⟩, ⟨hl4a, hl4b⟩, ⟨hl5a, hl5b⟩, ⟨hl6a, hl6b⟩, ⟨hl7a, hl7b⟩, -⟩ := hrl
      repeat' (first | refine And.intro ?_ ?_ | intro _)
      all_goals first | omega | rfl | exact trivial | (simp [mq_up] at * <;> omega)
    exact fun _ h => absurd h List.not_mem_nil
def pq_room : List mq_E := [(0, false, .aload 0), (1, false, .invokeinterface 10 3), (4, false, .invokeinterface 3 6), (7, false, .iload 1), (8, false, .invokestatic 0), (11, false, .ifCond .eq (Int.ofNat 28)), (14, false, .aload 0), (15, false, .invokeinterface 10 3), (18, false, .invokeinterface 3 5), (21, false, .iload 2), (22, false, .invokestatic 1), (25, false, .ifCond .ne (Int.ofNat 31)), (28, false, .iconst (-1000000)), (30, false, .ireturn), (31, false, .aload 0), (32, false, .invokeinterface 10 3), (35, false, .invokeinterface 3 5), (38, false, .iload 2), (39, false, .iconst 1), (40, false, .invokestatic 2), (43, false, .aload 0), (44, false, .invokeinterface 10 3), (47, false, .iload 1), (48, false, .iload 2), (49, false, .invokestatic 3), (52, false, .isub), (53, false, .ireturn)]
def cq_room : mq_C := ((yX10_room, cX10_room, 3, (some .int), { frames := 2, cells := 0, slots := 0, locals := 44 }), (3, 1, 0, 0), 0, (fun as ρ μ => match ρ with
  | (nw, sp, tl, tx, al) => mq_pZ as 0 fun as => mq_pI as fun k as => mq_pI as fun p as => mq_p0 as (True)),
  (fun as ρ μ r ρ' μ' => match as, ρ, ρ' with
  | [.inr (.inr (some (_, _))), .inl k, .inl p], (nw, sp, tl, tx, al), (nw', sp', tl', tx', al') => []
  | _, _, _ => []))
def kq_room : List mq_V → mq_R → mq_M → List mq_Cu := fun as ρ μ => match as, ρ with
  | [.inr (.inr (some (_, _))), .inl k, .inl p], (nw, sp, tl, tx, al) => []
  | _, _ => []
set_option maxHeartbeats 16000000 in
set_option maxRecDepth 100000 in
theorem vq_room (lc : Launch) (h_has_kinds : mq_Ct lc cq_has_kinds) (h_has_platforms : mq_Ct lc cq_has_platforms) (h_get_platforms : mq_Ct lc cq_get_platforms) (h_firstStand : mq_Ct lc cq_firstStand) : mq_Ct lc cq_room := by
  refine mq_method (lc := lc) (P := pq_room) (cl := [cq_has_kinds, cq_has_platforms, cq_get_platforms, cq_firstStand]) (T := ([(27, 10, 3), (135, 3, 6), (152, 3, 5)], [(242, (-1000000))], [], [(139, 0, 0), (139, 1, 0), (179, 2, 0), (226, 3, 0)], [], [])) (fuel := 400) (cuts := kq_room) (by decide) rfl ⟨rfl, rfl⟩ (List.forall_mem_cons.mpr ⟨h_has_kinds, (List.forall_mem_cons.mpr ⟨h_has_platforms, (List.forall_mem_cons.mpr ⟨h_get_platforms, (List.forall_mem_cons.mpr ⟨h_firstStand, (fun _ h => absurd h List.not_mem_nil)⟩)⟩)⟩)⟩) ⟨(List.forall_mem_cons.mpr ⟨⟨_, rfl, by decide, kw_514⟩, (List.forall_mem_cons.mpr ⟨⟨_, rfl, by decide, kw_542⟩, (List.forall_mem_cons.mpr ⟨⟨_, rfl, by decide, kw_548⟩, (fun _ h => absurd h List.not_mem_nil)⟩)⟩)⟩), (List.forall_mem_cons.mpr ⟨kw_606, (fun _ h => absurd h List.not_mem_nil)⟩), (fun _ h => absurd h List.not_mem_nil), (List.forall_mem_cons.mpr ⟨mq_ml0 rfl mw0_has_kinds kw_543, (List.forall_mem_cons.mpr ⟨mq_ml0 rfl mw0_has_platforms kw_543, (List.forall_mem_cons.mpr ⟨mq_ml0 rfl mw0_get_platforms kw_569, (List.forall_mem_cons.mpr ⟨mq_ml0 rfl mw0_firstStand kw_589, (fun _ h => absurd h List.not_mem_nil)⟩)⟩)⟩)⟩), (fun _ h => absurd h List.not_mem_nil), (fun _ h => absurd h List.not_mem_nil)⟩ (by decide +kernel) ⟨_, _, rfl⟩ ?_ ?_ ?_ ?_
  · intro as ρ μ h
    obtain ⟨nw, sp, tl, tx, al⟩ := ρ
    obtain ⟨as0, rfl, h0⟩ := mq_pZ_spec h
    clear h
    obtain ⟨k, as1, rfl, h1⟩ := mq_pI_spec h0
    clear h0
    obtain ⟨p, as2, rfl, h2⟩ := mq_pI_spec h1
    clear h1
    obtain ⟨rfl, hp⟩ := mq_p0_spec h2
    clear h2
    rfl
  · intro as ρ μ h
    obtain ⟨nw, sp, tl, tx, al⟩ := ρ
    obtain ⟨as0, rfl, h0⟩ := mq_pZ_spec h
    clear h
    obtain ⟨k, as1, rfl, h1⟩ := mq_pI_spec h0
    clear h0
    obtain ⟨p, as2, rfl, h2⟩ := mq_pI_spec h1
    clear h1
    obtain ⟨rfl, hp⟩ := mq_p0_spec h2
    clear h2
    intro hrg
    obtain ⟨⟨ha1a, ha1b⟩, ⟨ha2a, ha2b⟩, -⟩ := hrg
    intro hbk
    have e0 : mq_l0 ([.inr (.inr (some (0, 0))), .inl k, .inl p] : List mq_V) 3 = [some (.inr (.inr (some (0, 0)))), some (.inl k), some (.inl p)] := rfl
    rw [e0]
    repeat' (first | refine And.intro ?_ ?_ | intro _)
    all_goals first | omega | rfl | exact trivial | (simp [mq_up] at * <;> omega)
  · intro as ρ μ h
    obtain ⟨nw, sp, tl, tx, al⟩ := ρ
    obtain ⟨as0, rfl, h0⟩ := mq_pZ_spec h
    clear h
    obtain ⟨k, as1, rfl, h1⟩ := mq_pI_spec h0
    clear h0
    obtain ⟨p, as2, rfl, h2⟩ := mq_pI_spec h1
    clear h1
    obtain ⟨rfl, hp⟩ := mq_p0_spec h2
    clear h2
    exact fun _ h => absurd h List.not_mem_nil
  · intro as ρ μ h
    obtain ⟨nw, sp, tl, tx, al⟩ := ρ
    obtain ⟨as0, rfl, h0⟩ := mq_pZ_spec h
    clear h
    obtain ⟨k, as1, rfl, h1⟩ := mq_pI_spec h0
    clear h0
    obtain ⟨p, as2, rfl, h2⟩ := mq_pI_spec h1
    clear h1
    obtain ⟨rfl, hp⟩ := mq_p0_spec h2
    clear h2
    intro hrg
    obtain ⟨⟨ha1a, ha1b⟩, ⟨ha2a, ha2b⟩, -⟩ := hrg
    exact fun _ h => absurd h List.not_mem_nil
def pq_wrongSteps : List mq_E := [(0, false, .aload 0), (1, false, .invokestatic 0), (4, false, .ifCond .ne (Int.ofNat 10)), (7, false, .iconst (-6)), (9, false, .ireturn), (10, false, .iconst 0), (11, false, .istore 1), (12, true, .iload 1), (13, false, .aload 0), (14, false, .invokeinterface 8 2), (17, false, .if_icmp .ge (Int.ofNat 51)), (20, false, .aload 0), (21, false, .iload 1), (22, false, .invokestatic 1), (25, false, .goto_w 0), (26, false, .lcmp), (27, false, .ifCond .lt (Int.ofNat 42)), (30, false, .aload 0), (31, false, .iload 1), (32, false, .invokestatic 1), (35, false, .goto_w 3), (38, false, .lcmp), (39, false, .ifCond .le (Int.ofNat 45)), (42, false, .iconst (-2)), (44, false, .ireturn), (45, false, .iinc 1 1), (48, false, .goto (Int.ofNat 12)), (51, false, .iconst 0), (52, false, .ireturn)]
def cq_wrongSteps : mq_C := ((yX10_wrongSteps, cX10_wrongSteps, 2, (some .int), { frames := 1, cells := 0, slots := 0, locals := 21 }), (1, 1, 0, 0), 0, (fun as ρ μ => match ρ with
  | (nw, sp, tl, tx, al) => mq_pR as 17 fun S as => mq_p0 as (True)),
  (fun as ρ μ r ρ' μ' => match as, ρ, ρ' with
  | [.inr (.inr (some (_, S)))], (nw, sp, tl, tx, al), (nw', sp', tl', tx', al') => []
  | _, _, _ => []))
def kq_wrongSteps : List mq_V → mq_R → mq_M → List mq_Cu := fun as ρ μ => match as, ρ with
  | [.inr (.inr (some (_, S)))], (nw, sp, tl, tx, al) => [(12, [true, true], fun N l st ρ' μ' cs => mq_tR l 17 fun L0 l => mq_tI l fun v1 l => mq_t0 l (st = [] ∧ ρ' = (nw, sp, tl, tx, al) ∧ cs = 0 ∧ L0 = S ∧ 0 ≤ v1 ∧ v1 ≤ 60 ∧ 0 ≤ (60 - v1 : Int) ∧ (60 - v1 : Int) < (N : Int)))]
  | _, _ => []
set_option maxHeartbeats 16000000 in
set_option maxRecDepth 100000 in
theorem vq_wrongSteps (lc : Launch) (h_isHeld : mq_Ct lc cq_isHeld) (h_slotGet : mq_Ct lc cq_slotGet) : mq_Ct lc cq_wrongSteps := by
  refine mq_method (lc := lc) (P := pq_wrongSteps) (cl := [cq_isHeld, cq_slotGet]) (T := ([(247, 8, 2)], [], [(256, 3)], [(253, 0, 0), (250, 1, 0)], [], [])) (fuel := 400) (cuts := kq_wrongSteps) (by decide) rfl ⟨rfl, rfl⟩ (List.forall_mem_cons.mpr ⟨h_isHeld, (List.forall_mem_cons.mpr ⟨h_slotGet, (fun _ h => absurd h List.not_mem_nil)⟩)⟩) ⟨(List.forall_mem_cons.mpr ⟨⟨_, rfl, by decide, kw_607⟩, (fun _ h => absurd h List.not_mem_nil)⟩), (fun _ h => absurd h List.not_mem_nil), (List.forall_mem_cons.mpr ⟨kw_608, (fun _ h => absurd h List.not_mem_nil)⟩), (List.forall_mem_cons.mpr ⟨mq_ml0 rfl mw0_isHeld kw_612, (List.forall_mem_cons.mpr ⟨mq_ml0 rfl mw0_slotGet kw_616, (fun _ h => absurd h List.not_mem_nil)⟩)⟩), (fun _ h => absurd h List.not_mem_nil), (fun _ h => absurd h List.not_mem_nil)⟩ (by decide +kernel) ⟨_, _, rfl⟩ ?_ ?_ ?_ ?_
  · intro as ρ μ h
    obtain ⟨nw, sp, tl, tx, al⟩ := ρ
    obtain ⟨S, as0, rfl, h0⟩ := mq_pR_spec h
    clear h
    obtain ⟨rfl, hp⟩ := mq_p0_spec h0
    clear h0
    rfl
  · intro as ρ μ h
    obtain ⟨nw, sp, tl, tx, al⟩ := ρ
    obtain ⟨S, as0, rfl, h0⟩ := mq_pR_spec h
    clear h
    obtain ⟨rfl, hp⟩ := mq_p0_spec h0
    clear h0
    intro hrg
    intro hbk
    have e0 : mq_l0 ([.inr (.inr (some (17, S)))] : List mq_V) 2 = [some (.inr (.inr (some (17, S)))), none] := rfl
    rw [e0]
    repeat' (first | refine And.intro ?_ ?_ | intro _)
    all_goals first | omega | rfl | exact trivial | (simp [mq_up] at * <;> omega)
  · intro as ρ μ h
    obtain ⟨nw, sp, tl, tx, al⟩ := ρ
    obtain ⟨S, as0, rfl, h0⟩ := mq_pR_spec h
    clear h
    obtain ⟨rfl, hp⟩ := mq_p0_spec h0
    clear h0
    refine List.forall_mem_cons.mpr ⟨?_, ?_⟩
    · intro l st ρ' μ' cs hJ
      obtain ⟨L0, l0, rfl, hJ0⟩ := mq_tR_spec hJ
      clear hJ
      obtain ⟨v1, l1, rfl, hJ1⟩ := mq_tI_spec hJ0
      clear hJ0
      obtain ⟨rfl, hJz⟩ := mq_t0_spec hJ1
      clear hJ1
      obtain ⟨rfl, rfl, rfl, rfl, hc1, hc2, hm0, hm1⟩ := hJz
      omega
    exact fun _ h => absurd h List.not_mem_nil
  · intro as ρ μ h
    obtain ⟨nw, sp, tl, tx, al⟩ := ρ
    obtain ⟨S, as0, rfl, h0⟩ := mq_pR_spec h
    clear h
    obtain ⟨rfl, hp⟩ := mq_p0_spec h0
    clear h0
    intro hrg
    refine List.forall_mem_cons.mpr ⟨?_, ?_⟩
    · intro N l st ρ' μ' cs hJ
      obtain ⟨L0, l0, rfl, hJ0⟩ := mq_tR_spec hJ
      clear hJ
      obtain ⟨v1, l1, rfl, hJ1⟩ := mq_tI_spec hJ0
      clear hJ0
      obtain ⟨rfl, hJz⟩ := mq_t0_spec hJ1
      clear hJ1
      obtain ⟨rfl, rfl, rfl, rfl, hc1, hc2, hm0, hm1⟩ := hJz
      intro hbk hrl
      obtain ⟨⟨hl1a, hl1b⟩, -⟩ := hrl
      repeat' (first | refine And.intro ?_ ?_ | intro _)
      all_goals first | omega | rfl | exact trivial | (simp [mq_up] at * <;> omega)
    exact fun _ h => absurd h List.not_mem_nil
theorem mw1_wrongSteps : mq_mlA cq_wrongSteps 1 := ⟨kw_618, ⟨by decide +kernel, by decide +kernel⟩, by decide +kernel, kw_619, kw_95⟩
def pq_told : List mq_E := [(0, false, .iload 1), (1, false, .iconst 0), (2, false, .iconst 3), (3, false, .invokestatic 0), (6, false, .ifCond .eq (Int.ofNat 20)), (9, false, .aload 0), (10, false, .iload 2), (11, false, .iload 3), (12, false, .iload 4), (14, false, .invokestatic 1), (17, false, .ifCond .ne (Int.ofNat 23)), (20, false, .iconst (-2)), (22, false, .ireturn), (23, false, .aload 0), (24, false, .invokeinterface 10 8), (27, false, .iload 1), (28, false, .aaload), (29, false, .invokestatic 2), (32, false, .istore 5), (34, false, .iload 5), (36, false, .ifCond .eq (Int.ofNat 42)), (39, false, .iload 5), (41, false, .ireturn), (42, false, .iload 3), (43, false, .istore 6), (45, false, .iload 4), (47, false, .istore 7), (49, false, .iconst 0), (50, false, .istore 8), (52, true, .iload 8), (54, false, .iconst 404), (57, false, .if_icmp .ge (Int.ofNat 141)), (60, false, .iload 6), (62, false, .aload 0), (63, false, .invokeinterface 10 3), (66, false, .invokeinterface 3 0), (69, false, .if_icmp .gt (Int.ofNat 141)), (72, false, .iload 8), (74, false, .aload 0), (75, false, .invokeinterface 10 8), (78, false, .iload 1), (79, false, .aaload), (80, false, .invokeinterface 8 2), (83, false, .if_icmp .ge (Int.ofNat 101)), (86, false, .aload 0), (87, false, .invokeinterface 10 8), (90, false, .iload 1), (91, false, .aaload), (92, false, .iload 8), (94, false, .invokestatic 3), (97, false, .l2i), (98, false, .goto (Int.ofNat 102)), (101, false, .iconst 3), (102, false, .istore 9), (104, false, .aload 0), (105, false, .invokeinterface 10 9), (108, false, .iload 2), (109, false, .iload 6), (111, false, .iload 7), (113, false, .iload 9), (115, false, .invokestatic 4), (118, false, .istore 7), (120, false, .iload 7), (122, false, .ifCond .ne (Int.ofNat 128)), (125, false, .iload 6), (127, false, .ireturn), (128, false, .iload 6), (130, false, .iload 7), (132, false, .fadd), (133, false, .istore 6), (135, false, .iinc 8 1), (138, false, .goto (Int.ofNat 52)), (141, false, .iconst (-1)), (142, false, .ireturn)]
def cq_told : mq_C := ((yX10_told, cX10_told, 10, (some .int), { frames := 3, cells := 0, slots := 0, locals := 64 }), (5, 1, 0, 0), 0, (fun as ρ μ => match ρ with
  | (nw, sp, tl, tx, al) => mq_pZ as 0 fun as => mq_pI as fun s as => mq_pI as fun k as => mq_pI as fun y as => mq_pI as fun v as => mq_p0 as (True)),
  (fun as ρ μ r ρ' μ' => match as, ρ, ρ' with
  | [.inr (.inr (some (_, _))), .inl s, .inl k, .inl y, .inl v], (nw, sp, tl, tx, al), (nw', sp', tl', tx', al') => []
  | _, _, _ => []))
def kq_told : List mq_V → mq_R → mq_M → List mq_Cu := fun as ρ μ => match as, ρ with
  | [.inr (.inr (some (_, _))), .inl s, .inl k, .inl y, .inl v], (nw, sp, tl, tx, al) => [(52, [true, true, true, true, true, true, true, true, true, false], fun N l st ρ' μ' cs => mq_tZ l 0 fun l => mq_tI l fun v1 l => mq_tI l fun v2 l => mq_tI l fun v3 l => mq_tI l fun v4 l => mq_tI l fun v5 l => mq_tI l fun v6 l => mq_tI l fun v7 l => mq_tI l fun v8 l => mq_tN l fun l => mq_t0 l (st = [] ∧ ρ' = (nw, sp, tl, tx, al) ∧ cs = 0 ∧ v1 = s ∧ v2 = k ∧ v3 = y ∧ v4 = v ∧ 0 ≤ s ∧ s ≤ 3 ∧ 0 ≤ v8 ∧ v8 ≤ 404 ∧ 0 ≤ (404 - v8 : Int) ∧ (404 - v8 : Int) < (N : Int)))]
  | _, _ => []
set_option maxHeartbeats 16000000 in
set_option maxRecDepth 100000 in
theorem vq_told (lc : Launch) (h_isAmong : mq_Ct lc cq_isAmong) (h_hasRun : mq_Ct lc cq_hasRun) (h_wrongSteps : mq_Ct lc cq_wrongSteps) (h_slotGet : mq_Ct lc cq_slotGet) (h_slowed : mq_Ct lc cq_slowed) : mq_Ct lc cq_told := by
  refine mq_method (lc := lc) (P := pq_told) (cl := [cq_isAmong, cq_hasRun, cq_wrongSteps, cq_slotGet, cq_slowed]) (T := ([(48, 10, 8), (27, 10, 3), (128, 3, 0), (247, 8, 2), (55, 10, 9)], [], [], [(176, 0, 1), (148, 1, 0), (243, 2, 1), (250, 3, 0), (196, 4, 0)], [], [])) (fuel := 400) (cuts := kq_told) (by decide) rfl ⟨rfl, rfl⟩ (List.forall_mem_cons.mpr ⟨h_isAmong, (List.forall_mem_cons.mpr ⟨h_hasRun, (List.forall_mem_cons.mpr ⟨h_wrongSteps, (List.forall_mem_cons.mpr ⟨h_slotGet, (List.forall_mem_cons.mpr ⟨h_slowed, (fun _ h => absurd h List.not_mem_nil)⟩)⟩)⟩)⟩)⟩) ⟨(List.forall_mem_cons.mpr ⟨⟨_, rfl, by decide, kw_617⟩, (List.forall_mem_cons.mpr ⟨⟨_, rfl, by decide, kw_514⟩, (List.forall_mem_cons.mpr ⟨⟨_, rfl, by decide, kw_537⟩, (List.forall_mem_cons.mpr ⟨⟨_, rfl, by decide, kw_607⟩, (List.forall_mem_cons.mpr ⟨⟨_, rfl, by decide, kw_513⟩, (fun _ h => absurd h List.not_mem_nil)⟩)⟩)⟩)⟩)⟩), (fun _ h => absurd h List.not_mem_nil), (fun _ h => absurd h List.not_mem_nil), (List.forall_mem_cons.mpr ⟨mq_ml1 rfl mw1_isAmong kw_568, (List.forall_mem_cons.mpr ⟨mq_ml0 rfl mw0_hasRun kw_552, (List.forall_mem_cons.mpr ⟨mq_ml1 rfl mw1_wrongSteps kw_620, (List.forall_mem_cons.mpr ⟨mq_ml0 rfl mw0_slotGet kw_616, (List.forall_mem_cons.mpr ⟨mq_ml0 rfl mw0_slowed kw_574, (fun _ h => absurd h List.not_mem_nil)⟩)⟩)⟩)⟩)⟩), (fun _ h => absurd h List.not_mem_nil), (fun _ h => absurd h List.not_mem_nil)⟩ (by decide +kernel) ⟨_, _, rfl⟩ ?_ ?_ ?_ ?_
  · intro as ρ μ h
    obtain ⟨nw, sp, tl, tx, al⟩ := ρ
    obtain ⟨as0, rfl, h0⟩ := mq_pZ_spec h
    clear h
    obtain ⟨s, as1, rfl, h1⟩ := mq_pI_spec h0
    clear h0
    obtain ⟨k, as2, rfl, h2⟩ := mq_pI_spec h1
    clear h1
    obtain ⟨y, as3, rfl, h3⟩ := mq_pI_spec h2
    clear h2
    obtain ⟨v, as4, rfl, h4⟩ := mq_pI_spec h3
    clear h3
    obtain ⟨rfl, hp⟩ := mq_p0_spec h4
    clear h4
    rfl
  · intro as ρ μ h
    obtain ⟨nw, sp, tl, tx, al⟩ := ρ
    obtain ⟨as0, rfl, h0⟩ := mq_pZ_spec h
    clear h
    obtain ⟨s, as1, rfl, h1⟩ := mq_pI_spec h0
    clear h0
    obtain ⟨k, as2, rfl, h2⟩ := mq_pI_spec h1
    clear h1
    obtain ⟨y, as3, rfl, h3⟩ := mq_pI_spec h2
    clear h2
    obtain ⟨v, as4, rfl, h4⟩ := mq_pI_spec h3
    clear h3
    obtain ⟨rfl, hp⟩ := mq_p0_spec h4
    clear h4
    intro hrg
    obtain ⟨⟨ha1a, ha1b⟩, ⟨ha2a, ha2b⟩, ⟨ha3a, ha3b⟩, ⟨ha4a, ha4b⟩, -⟩ := hrg
    intro hbk
    have e0 : mq_l0 ([.inr (.inr (some (0, 0))), .inl s, .inl k, .inl y, .inl v] : List mq_V) 10 = [some (.inr (.inr (some (0, 0)))), some (.inl s), some (.inl k), some (.inl y), some (.inl v), none, none, none, none, none] := rfl
    rw [e0]
    repeat' (first | refine And.intro ?_ ?_ | intro _)
    all_goals first | omega | rfl | exact trivial | (simp [mq_up] at * <;> omega)
  · intro as ρ μ h
    obtain ⟨nw, sp, tl, tx, al⟩ := ρ
    obtain ⟨as0, rfl, h0⟩ := mq_pZ_spec h
    clear h
    obtain ⟨s, as1, rfl, h1⟩ := mq_pI_spec h0
    clear h0
    obtain ⟨k, as2, rfl, h2⟩ := mq_pI_spec h1
    clear h1
    obtain ⟨y, as3, rfl, h3⟩ := mq_pI_spec h2
    clear h2
    obtain ⟨v, as4, rfl, h4⟩ := mq_pI_spec h3
    clear h3
    obtain ⟨rfl, hp⟩ := mq_p0_spec h4
    clear h4
    refine List.forall_mem_cons.mpr ⟨?_, ?_⟩
    · intro l st ρ' μ' cs hJ
      obtain ⟨l0, rfl, hJ0⟩ := mq_tZ_spec hJ
      clear hJ
      obtain ⟨v1, l1, rfl, hJ1⟩ := mq_tI_spec hJ0
      clear hJ0
      obtain ⟨v2, l2, rfl, hJ2⟩ := mq_tI_spec hJ1
      clear hJ1
      obtain ⟨v3, l3, rfl, hJ3⟩ := mq_tI_spec hJ2
      clear hJ2
      obtain ⟨v4, l4, rfl, hJ4⟩ := mq_tI_spec hJ3
      clear hJ3
      obtain ⟨v5, l5, rfl, hJ5⟩ := mq_tI_spec hJ4
      clear hJ4
      obtain ⟨v6, l6, rfl, hJ6⟩ := mq_tI_spec hJ5
      clear hJ5
      obtain ⟨v7, l7, rfl, hJ7⟩ := mq_tI_spec hJ6
      clear hJ6
      obtain ⟨v8, l8, rfl, hJ8⟩ := mq_tI_spec hJ7
      clear hJ7
      obtain ⟨l9, rfl, hJ9⟩ := mq_tN_spec hJ8
      clear hJ8
      obtain ⟨rfl, hJz⟩ := mq_t0_spec hJ9
      clear hJ9
      obtain ⟨rfl, rfl, rfl, hc0, hc1, hc2, hc3, hc4, hc5, hc6, hc7, hm0, hm1⟩ := hJz
      omega
    exact fun _ h => absurd h List.not_mem_nil
  · intro as ρ μ h
    obtain ⟨nw, sp, tl, tx, al⟩ := ρ
    obtain ⟨as0, rfl, h0⟩ := mq_pZ_spec h
    clear h
    obtain ⟨s, as1, rfl, h1⟩ := mq_pI_spec h0
    clear h0
    obtain ⟨k, as2, rfl, h2⟩ := mq_pI_spec h1
    clear h1
    obtain ⟨y, as3, rfl, h3⟩ := mq_pI_spec h2
    clear h2
    obtain ⟨v, as4, rfl, h4⟩ := mq_pI_spec h3
    clear h3
    obtain ⟨rfl, hp⟩ := mq_p0_spec h4
    clear h4
    intro hrg
    obtain ⟨⟨ha1a, ha1b⟩, ⟨ha2a, ha2b⟩, ⟨ha3a, ha3b⟩, ⟨ha4a, ha4b⟩, -⟩ := hrg
    refine List.forall_mem_cons.mpr ⟨?_, ?_⟩
    · intro N l st ρ' μ' cs hJ
      obtain ⟨l0, rfl, hJ0⟩ := mq_tZ_spec hJ
      clear hJ
      obtain ⟨v1, l1, rfl, hJ1⟩ := mq_tI_spec hJ0
      clear hJ0
      obtain ⟨v2, l2, rfl, hJ2⟩ := mq_tI_spec hJ1
      clear hJ1
      obtain ⟨v3, l3, rfl, hJ3⟩ := mq_tI_spec hJ2
      clear hJ2
      obtain ⟨v4, l4, rfl, hJ4⟩ := mq_tI_spec hJ3
      clear hJ3
      obtain ⟨v5, l5, rfl, hJ5⟩ := mq_tI_spec hJ4
      clear hJ4
      obtain ⟨v6, l6, rfl, hJ6⟩ := mq_tI_spec hJ5
      clear hJ5
      obtain ⟨v7, l7, rfl, hJ7⟩ := mq_tI_spec hJ6
      clear hJ6
      obtain ⟨v8, l8, rfl, hJ8⟩ := mq_tI_spec hJ7
      clear hJ7
      obtain ⟨l9, rfl, hJ9⟩ := mq_tN_spec hJ8
      clear hJ8
      obtain ⟨rfl, hJz⟩ := mq_t0_spec hJ9
      clear hJ9
      obtain ⟨rfl, rfl, rfl, hc0, hc1, hc2, hc3, hc4, hc5, hc6, hc7, hm0, hm1⟩ := hJz
      intro hbk hrl
      obtain ⟨⟨hl1a, hl1b⟩, ⟨hl2a, hl2b⟩, ⟨hl3a, hl3b⟩, ⟨hl4a, hl4b⟩, ⟨hl5a, hl5b⟩, ⟨hl6a, hl6b⟩, ⟨hl7a, hl7b⟩, ⟨hl8a, hl8b⟩, -⟩ := hrl
      repeat' (first | refine And.intro ?_ ?_ | intro _)
      all_goals first | omega | rfl | exact trivial | (simp [mq_up] at * <;> omega)
    exact fun _ h => absurd h List.not_mem_nil
def pq_judge : List mq_E := [(0, false, .iload 1), (1, false, .iconst 0), (2, false, .iconst 3), (3, false, .invokestatic 0), (6, false, .ifCond .eq (Int.ofNat 22)), (9, false, .aload 0), (10, false, .iload 2), (11, false, .iload 3), (12, false, .iload 4), (14, false, .iload 5), (16, false, .invokestatic 1), (19, false, .ifCond .ne (Int.ofNat 25)), (22, false, .iconst (-2)), (24, false, .ireturn), (25, false, .aload 0), (26, false, .invokeinterface 10 8), (29, false, .iload 1), (30, false, .aaload), (31, false, .invokestatic 2), (34, false, .istore 6), (36, false, .iload 6), (38, false, .ifCond .eq (Int.ofNat 44)), (41, false, .iload 6), (43, false, .ireturn), (44, false, .aload 0), (45, false, .invokeinterface 10 8), (48, false, .iload 1), (49, false, .aaload), (50, false, .invokeinterface 8 2), (53, false, .istore 7), (55, false, .iload 4), (57, false, .istore 8), (59, false, .iload 5), (61, false, .istore 9), (63, false, .iconst 0), (64, false, .istore 10), (66, true, .iload 10), (68, false, .iload 7), (70, false, .if_icmp .ge (Int.ofNat 159)), (73, false, .aload 0), (74, false, .invokeinterface 10 9), (77, false, .iload 2), (78, false, .iload 8), (80, false, .iload 9), (82, false, .aload 0), (83, false, .invokeinterface 10 8), (86, false, .iload 1), (87, false, .aaload), (88, false, .iload 10), (90, false, .invokestatic 3), (93, false, .l2i), (94, false, .invokestatic 4), (97, false, .istore 9), (99, false, .iload 8), (101, false, .iload 9), (103, false, .fadd), (104, false, .istore 8), (106, false, .iload 9), (108, false, .ifCond .ne (Int.ofNat 133)), (111, false, .aload 0), (112, false, .invokeinterface 10 3), (115, false, .iload 2), (116, false, .iload 3), (117, false, .iload 8), (119, false, .invokestatic 5), (122, false, .ifCond .eq (Int.ofNat 130)), (125, false, .iload 7), (127, false, .goto (Int.ofNat 132)), (130, false, .iload 10), (132, false, .ireturn), (133, false, .aload 0), (134, false, .invokeinterface 10 10), (137, false, .iload 2), (138, false, .iload 3), (139, false, .iload 8), (141, false, .iload 9), (143, false, .invokestatic 6), (146, false, .iconst (-1)), (147, false, .if_icmp .ne (Int.ofNat 153)), (150, false, .iload 10), (152, false, .ireturn), (153, false, .iinc 10 1), (156, false, .goto (Int.ofNat 66)), (159, false, .iload 7), (161, false, .ireturn)]
def cq_judge : mq_C := ((yX10_judge, cX10_judge, 11, (some .int), { frames := 5, cells := 16, slots := 6416, locals := 129 }), (6, 1, 1, 1), 12884901890, (fun as ρ μ => match ρ with
  | (nw, sp, tl, tx, al) => mq_pZ as 0 fun as => mq_pI as fun s as => mq_pI as fun k as => mq_pI as fun p as => mq_pI as fun y as => mq_pI as fun v as => mq_p0 as (True)),
  (fun as ρ μ r ρ' μ' => match as, ρ, ρ' with
  | [.inr (.inr (some (_, _))), .inl s, .inl k, .inl p, .inl y, .inl v], (nw, sp, tl, tx, al), (nw', sp', tl', tx', al') => []
  | _, _, _ => []))
def kq_judge : List mq_V → mq_R → mq_M → List mq_Cu := fun as ρ μ => match as, ρ with
  | [.inr (.inr (some (_, _))), .inl s, .inl k, .inl p, .inl y, .inl v], (nw, sp, tl, tx, al) => [(66, [true, true, true, true, true, true, true, true, true, true, true], fun N l st ρ' μ' cs => mq_tZ l 0 fun l => mq_tI l fun v1 l => mq_tI l fun v2 l => mq_tI l fun v3 l => mq_tI l fun v4 l => mq_tI l fun v5 l => mq_tI l fun v6 l => mq_tI l fun v7 l => mq_tI l fun v8 l => mq_tI l fun v9 l => mq_tI l fun v10 l => mq_t0 l (st = [] ∧ (ρ'.1 = nw ∧ ρ'.2.1 = sp ∧ ρ'.2.2.1 = tl ∧ ρ'.2.2.2.1 = tx) ∧ cs = 1 ∧ v1 = s ∧ v2 = k ∧ v3 = p ∧ v4 = y ∧ v5 = v ∧ 0 ≤ s ∧ s ≤ 3 ∧ 0 ≤ v10 ∧ v10 ≤ 60 ∧ v7 ≤ 60 ∧ 0 ≤ (60 - v10 : Int) ∧ (60 - v10 : Int) < (N : Int)))]
  | _, _ => []
set_option maxHeartbeats 16000000 in
set_option maxRecDepth 100000 in
theorem vq_judge (lc : Launch) (h_isAmong : mq_Ct lc cq_isAmong) (h_takesAim : mq_Ct lc cq_takesAim) (h_wrongSteps : mq_Ct lc cq_wrongSteps) (h_slotGet : mq_Ct lc cq_slotGet) (h_slowed : mq_Ct lc cq_slowed) (h_isInPlatform : mq_Ct lc cq_isInPlatform) (h_firstStep : mq_Ct lc cq_firstStep) : mq_Ct lc cq_judge := by
  refine mq_method (lc := lc) (P := pq_judge) (cl := [cq_isAmong, cq_takesAim, cq_wrongSteps, cq_slotGet, cq_slowed, cq_isInPlatform, cq_firstStep]) (T := ([(48, 10, 8), (247, 8, 2), (55, 10, 9), (27, 10, 3), (64, 10, 10)], [], [], [(176, 0, 1), (200, 1, 0), (243, 2, 1), (250, 3, 0), (196, 4, 0), (258, 5, 0), (203, 6, 0)], [], [])) (fuel := 400) (cuts := kq_judge) (by decide) rfl ⟨rfl, rfl⟩ (List.forall_mem_cons.mpr ⟨h_isAmong, (List.forall_mem_cons.mpr ⟨h_takesAim, (List.forall_mem_cons.mpr ⟨h_wrongSteps, (List.forall_mem_cons.mpr ⟨h_slotGet, (List.forall_mem_cons.mpr ⟨h_slowed, (List.forall_mem_cons.mpr ⟨h_isInPlatform, (List.forall_mem_cons.mpr ⟨h_firstStep, (fun _ h => absurd h List.not_mem_nil)⟩)⟩)⟩)⟩)⟩)⟩)⟩) ⟨(List.forall_mem_cons.mpr ⟨⟨_, rfl, by decide, kw_617⟩, (List.forall_mem_cons.mpr ⟨⟨_, rfl, by decide, kw_607⟩, (List.forall_mem_cons.mpr ⟨⟨_, rfl, by decide, kw_513⟩, (List.forall_mem_cons.mpr ⟨⟨_, rfl, by decide, kw_514⟩, (List.forall_mem_cons.mpr ⟨⟨_, rfl, by decide, kw_515⟩, (fun _ h => absurd h List.not_mem_nil)⟩)⟩)⟩)⟩)⟩), (fun _ h => absurd h List.not_mem_nil), (fun _ h => absurd h List.not_mem_nil), (List.forall_mem_cons.mpr ⟨mq_ml1 rfl mw1_isAmong kw_568, (List.forall_mem_cons.mpr ⟨mq_ml0 rfl mw0_takesAim kw_578, (List.forall_mem_cons.mpr ⟨mq_ml1 rfl mw1_wrongSteps kw_620, (List.forall_mem_cons.mpr ⟨mq_ml0 rfl mw0_slotGet kw_616, (List.forall_mem_cons.mpr ⟨mq_ml0 rfl mw0_slowed kw_574, (List.forall_mem_cons.mpr ⟨mq_ml0 rfl mw0_isInPlatform kw_621, (List.forall_mem_cons.mpr ⟨mq_ml0 rfl mw0_firstStep kw_579, (fun _ h => absurd h List.not_mem_nil)⟩)⟩)⟩)⟩)⟩)⟩)⟩), (fun _ h => absurd h List.not_mem_nil), (fun _ h => absurd h List.not_mem_nil)⟩ (by decide +kernel) ⟨_, _, rfl⟩ ?_ ?_ ?_ ?_
  · intro as ρ μ h
    obtain ⟨nw, sp, tl, tx, al⟩ := ρ
    obtain ⟨as0, rfl, h0⟩ := mq_pZ_spec h
    clear h
    obtain ⟨s, as1, rfl, h1⟩ := mq_pI_spec h0
    clear h0
    obtain ⟨k, as2, rfl, h2⟩ := mq_pI_spec h1
    clear h1
    obtain ⟨p, as3, rfl, h3⟩ := mq_pI_spec h2
    clear h2
    obtain ⟨y, as4, rfl, h4⟩ := mq_pI_spec h3
    clear h3
    obtain ⟨v, as5, rfl, h5⟩ := mq_pI_spec h4
    clear h4
    obtain ⟨rfl, hp⟩ := mq_p0_spec h5
    clear h5
    rfl
  · intro as ρ μ h
    obtain ⟨nw, sp, tl, tx, al⟩ := ρ
    obtain ⟨as0, rfl, h0⟩ := mq_pZ_spec h
    clear h
    obtain ⟨s, as1, rfl, h1⟩ := mq_pI_spec h0
    clear h0
    obtain ⟨k, as2, rfl, h2⟩ := mq_pI_spec h1
    clear h1
    obtain ⟨p, as3, rfl, h3⟩ := mq_pI_spec h2
    clear h2
    obtain ⟨y, as4, rfl, h4⟩ := mq_pI_spec h3
    clear h3
    obtain ⟨v, as5, rfl, h5⟩ := mq_pI_spec h4
    clear h4
    obtain ⟨rfl, hp⟩ := mq_p0_spec h5
    clear h5
    intro hrg
    obtain ⟨⟨ha1a, ha1b⟩, ⟨ha2a, ha2b⟩, ⟨ha3a, ha3b⟩, ⟨ha4a, ha4b⟩, ⟨ha5a, ha5b⟩, -⟩ := hrg
    intro hbk
    have e0 : mq_l0 ([.inr (.inr (some (0, 0))), .inl s, .inl k, .inl p, .inl y, .inl v] : List mq_V) 11 = [some (.inr (.inr (some (0, 0)))), some (.inl s), some (.inl k), some (.inl p), some (.inl y), some (.inl v), none, none, none, none, none] := rfl
    rw [e0]
    repeat' (first | refine And.intro ?_ ?_ | intro _)
    all_goals first | omega | rfl | exact trivial | (simp [mq_up] at * <;> omega)
  · intro as ρ μ h
    obtain ⟨nw, sp, tl, tx, al⟩ := ρ
    obtain ⟨as0, rfl, h0⟩ := mq_pZ_spec h
    clear h
    obtain ⟨s, as1, rfl, h1⟩ := mq_pI_spec h0
    clear h0
    obtain ⟨k, as2, rfl, h2⟩ := mq_pI_spec h1
    clear h1
    obtain ⟨p, as3, rfl, h3⟩ := mq_pI_spec h2
    clear h2
    obtain ⟨y, as4, rfl, h4⟩ := mq_pI_spec h3
    clear h3
    obtain ⟨v, as5, rfl, h5⟩ := mq_pI_spec h4
    clear h4
    obtain ⟨rfl, hp⟩ := mq_p0_spec h5
    clear h5
    refine List.forall_mem_cons.mpr ⟨?_, ?_⟩
    · intro l st ρ' μ' cs hJ
      obtain ⟨nw2, sp2, tl2, tx2, al2⟩ := ρ'
      obtain ⟨l0, rfl, hJ0⟩ := mq_tZ_spec hJ
      clear hJ
      obtain ⟨v1, l1, rfl, hJ1⟩ := mq_tI_spec hJ0
      clear hJ0
      obtain ⟨v2, l2, rfl, hJ2⟩ := mq_tI_spec hJ1
      clear hJ1
      obtain ⟨v3, l3, rfl, hJ3⟩ := mq_tI_spec hJ2
      clear hJ2
      obtain ⟨v4, l4, rfl, hJ4⟩ := mq_tI_spec hJ3
      clear hJ3
      obtain ⟨v5, l5, rfl, hJ5⟩ := mq_tI_spec hJ4
      clear hJ4
      obtain ⟨v6, l6, rfl, hJ6⟩ := mq_tI_spec hJ5
      clear hJ5
      obtain ⟨v7, l7, rfl, hJ7⟩ := mq_tI_spec hJ6
      clear hJ6
      obtain ⟨v8, l8, rfl, hJ8⟩ := mq_tI_spec hJ7
      clear hJ7
      obtain ⟨v9, l9, rfl, hJ9⟩ := mq_tI_spec hJ8
      clear hJ8
      obtain ⟨v10, l10, rfl, hJ10⟩ := mq_tI_spec hJ9
      clear hJ9
      obtain ⟨rfl, hJz⟩ := mq_t0_spec hJ10
      clear hJ10
      obtain ⟨rfl, ⟨e1, e2, e3, e4⟩, rfl, hc0, hc1, hc2, hc3, hc4, hc5, hc6, hc7, hc8, hc9, hm0, hm1⟩ := hJz
      dsimp only at e1 e2 e3 e4
      subst e1 e2 e3 e4
      omega
    exact fun _ h => absurd h List.not_mem_nil
  · intro as ρ μ h
    obtain ⟨nw, sp, tl, tx, al⟩ := ρ
    obtain ⟨as0, rfl, h0⟩ := mq_pZ_spec h
    clear h
    obtain ⟨s, as1, rfl, h1⟩ := mq_pI_spec h0
    clear h0
    obtain ⟨k, as2, rfl, h2⟩ := mq_pI_spec h1
    clear h1
    obtain ⟨p, as3, rfl, h3⟩ := mq_pI_spec h2
    clear h2
    obtain ⟨y, as4, rfl, h4⟩ := mq_pI_spec h3
    clear h3
    obtain ⟨v, as5, rfl, h5⟩ := mq_pI_spec h4
    clear h4
    obtain ⟨rfl, hp⟩ := mq_p0_spec h5
    clear h5
    intro hrg
    obtain ⟨⟨ha1a, ha1b⟩, ⟨ha2a, ha2b⟩, ⟨ha3a, ha3b⟩, ⟨ha4a, ha4b⟩, ⟨ha5a, ha5b⟩, -⟩ := hrg
    refine List.forall_mem_cons.mpr ⟨?_, ?_⟩
    · intro N l st ρ' μ' cs hJ
      obtain ⟨nw2, sp2, tl2, tx2, al2⟩ := ρ'
      obtain ⟨l0, rfl, hJ0⟩ := mq_tZ_spec hJ
      clear hJ
      obtain ⟨v1, l1, rfl, hJ1⟩ := mq_tI_spec hJ0
      clear hJ0
      obtain ⟨v2, l2, rfl, hJ2⟩ := mq_tI_spec hJ1
      clear hJ1
      obtain ⟨v3, l3, rfl, hJ3⟩ := mq_tI_spec hJ2
      clear hJ2
      obtain ⟨v4, l4, rfl, hJ4⟩ := mq_tI_spec hJ3
      clear hJ3
      obtain ⟨v5, l5, rfl, hJ5⟩ := mq_tI_spec hJ4
      clear hJ4
      obtain ⟨v6, l6, rfl, hJ6⟩ := mq_tI_spec hJ5
      clear hJ5
      obtain ⟨v7, l7, rfl, hJ7⟩ := mq_tI_spec hJ6
      clear hJ6
      obtain ⟨v8, l8, rfl, hJ8⟩ := mq_tI_spec hJ7
      clear hJ7
      obtain ⟨v9, l9, rfl, hJ9⟩ := mq_tI_spec hJ8
      clear hJ8
      obtain ⟨v10, l10, rfl, hJ10⟩ := mq_tI_spec hJ9
      clear hJ9
      obtain ⟨rfl, hJz⟩ := mq_t0_spec hJ10
      clear hJ10
      obtain ⟨rfl, ⟨e1, e2, e3, e4⟩, rfl, hc0, hc1, hc2, hc3, hc4, hc5, hc6, hc7, hc8, hc9, hm0, hm1⟩ := hJz
      dsimp only at e1 e2 e3 e4
      subst e1 e2 e3 e4
      intro hbk hrl
      obtain ⟨⟨hl1a, hl1b⟩, ⟨hl2a, hl2b⟩, ⟨hl3a, hl3b⟩, ⟨hl4a, hl4b⟩, ⟨hl5a, hl5b⟩, ⟨hl6a, hl6b⟩, ⟨hl7a, hl7b⟩, ⟨hl8a, hl8b⟩, ⟨hl9a, hl9b⟩, ⟨hl10a, hl10b⟩, -⟩ := hrl
      repeat' (first | refine And.intro ?_ ?_ | intro _)
      all_goals first | omega | rfl | exact trivial | (simp [mq_up] at * <;> omega)
    exact fun _ h => absurd h List.not_mem_nil
def pq_pulls : List mq_E := [(0, false, .aload 0), (1, false, .invokeinterface 10 3), (4, false, .invokeinterface 3 7), (7, false, .iload 1), (8, false, .invokestatic 0), (11, false, .ifCond .eq (Int.ofNat 32)), (14, false, .aload 0), (15, false, .iload 2), (16, false, .invokestatic 1), (19, false, .ifCond .eq (Int.ofNat 32)), (22, false, .iload 3), (23, false, .iconst 0), (24, false, .iconst 16), (26, false, .invokestatic 2), (29, false, .ifCond .ne (Int.ofNat 35)), (32, false, .iconst (-2)), (34, false, .ireturn), (35, false, .aload 0), (36, false, .invokeinterface 10 9), (39, false, .iload 1), (40, false, .iload 2), (41, false, .iload 3), (42, false, .invokestatic 3), (45, false, .ireturn)]
def cq_pulls : mq_C := ((yX10_pulls, cX10_pulls, 4, (some .int), { frames := 3, cells := 0, slots := 0, locals := 67 }), (4, 1, 0, 0), 0, (fun as ρ μ => match ρ with
  | (nw, sp, tl, tx, al) => mq_pZ as 0 fun as => mq_pI as fun t as => mq_pI as fun y as => mq_pI as fun c as => mq_p0 as (True)),
  (fun as ρ μ r ρ' μ' => match as, ρ, ρ' with
  | [.inr (.inr (some (_, _))), .inl t, .inl y, .inl c], (nw, sp, tl, tx, al), (nw', sp', tl', tx', al') => []
  | _, _, _ => []))
def kq_pulls : List mq_V → mq_R → mq_M → List mq_Cu := fun as ρ μ => match as, ρ with
  | [.inr (.inr (some (_, _))), .inl t, .inl y, .inl c], (nw, sp, tl, tx, al) => []
  | _, _ => []
set_option maxHeartbeats 16000000 in
set_option maxRecDepth 100000 in
theorem vq_pulls (lc : Launch) (h_has_trains : mq_Ct lc cq_has_trains) (h_hasYard : mq_Ct lc cq_hasYard) (h_isAmong : mq_Ct lc cq_isAmong) (h_pulled : mq_Ct lc cq_pulled) : mq_Ct lc cq_pulls := by
  refine mq_method (lc := lc) (P := pq_pulls) (cl := [cq_has_trains, cq_hasYard, cq_isAmong, cq_pulled]) (T := ([(27, 10, 3), (193, 3, 7), (55, 10, 9)], [], [], [(139, 0, 0), (145, 1, 0), (176, 2, 1), (261, 3, 0)], [], [])) (fuel := 400) (cuts := kq_pulls) (by decide) rfl ⟨rfl, rfl⟩ (List.forall_mem_cons.mpr ⟨h_has_trains, (List.forall_mem_cons.mpr ⟨h_hasYard, (List.forall_mem_cons.mpr ⟨h_isAmong, (List.forall_mem_cons.mpr ⟨h_pulled, (fun _ h => absurd h List.not_mem_nil)⟩)⟩)⟩)⟩) ⟨(List.forall_mem_cons.mpr ⟨⟨_, rfl, by decide, kw_514⟩, (List.forall_mem_cons.mpr ⟨⟨_, rfl, by decide, kw_573⟩, (List.forall_mem_cons.mpr ⟨⟨_, rfl, by decide, kw_513⟩, (fun _ h => absurd h List.not_mem_nil)⟩)⟩)⟩), (fun _ h => absurd h List.not_mem_nil), (fun _ h => absurd h List.not_mem_nil), (List.forall_mem_cons.mpr ⟨mq_ml0 rfl mw0_has_trains kw_543, (List.forall_mem_cons.mpr ⟨mq_ml0 rfl mw0_hasYard kw_547, (List.forall_mem_cons.mpr ⟨mq_ml1 rfl mw1_isAmong kw_568, (List.forall_mem_cons.mpr ⟨mq_ml0 rfl mw0_pulled kw_622, (fun _ h => absurd h List.not_mem_nil)⟩)⟩)⟩)⟩), (fun _ h => absurd h List.not_mem_nil), (fun _ h => absurd h List.not_mem_nil)⟩ (by decide +kernel) ⟨_, _, rfl⟩ ?_ ?_ ?_ ?_
  · intro as ρ μ h
    obtain ⟨nw, sp, tl, tx, al⟩ := ρ
    obtain ⟨as0, rfl, h0⟩ := mq_pZ_spec h
    clear h
    obtain ⟨t, as1, rfl, h1⟩ := mq_pI_spec h0
    clear h0
    obtain ⟨y, as2, rfl, h2⟩ := mq_pI_spec h1
    clear h1
    obtain ⟨c, as3, rfl, h3⟩ := mq_pI_spec h2
    clear h2
    obtain ⟨rfl, hp⟩ := mq_p0_spec h3
    clear h3
    rfl
  · intro as ρ μ h
    obtain ⟨nw, sp, tl, tx, al⟩ := ρ
    obtain ⟨as0, rfl, h0⟩ := mq_pZ_spec h
    clear h
    obtain ⟨t, as1, rfl, h1⟩ := mq_pI_spec h0
    clear h0
    obtain ⟨y, as2, rfl, h2⟩ := mq_pI_spec h1
    clear h1
    obtain ⟨c, as3, rfl, h3⟩ := mq_pI_spec h2
    clear h2
    obtain ⟨rfl, hp⟩ := mq_p0_spec h3
    clear h3
    intro hrg
    obtain ⟨⟨ha1a, ha1b⟩, ⟨ha2a, ha2b⟩, ⟨ha3a, ha3b⟩, -⟩ := hrg
    intro hbk
    have e0 : mq_l0 ([.inr (.inr (some (0, 0))), .inl t, .inl y, .inl c] : List mq_V) 4 = [some (.inr (.inr (some (0, 0)))), some (.inl t), some (.inl y), some (.inl c)] := rfl
    rw [e0]
    repeat' (first | refine And.intro ?_ ?_ | intro _)
    all_goals first | omega | rfl | exact trivial | (simp [mq_up] at * <;> omega)
  · intro as ρ μ h
    obtain ⟨nw, sp, tl, tx, al⟩ := ρ
    obtain ⟨as0, rfl, h0⟩ := mq_pZ_spec h
    clear h
    obtain ⟨t, as1, rfl, h1⟩ := mq_pI_spec h0
    clear h0
    obtain ⟨y, as2, rfl, h2⟩ := mq_pI_spec h1
    clear h1
    obtain ⟨c, as3, rfl, h3⟩ := mq_pI_spec h2
    clear h2
    obtain ⟨rfl, hp⟩ := mq_p0_spec h3
    clear h3
    exact fun _ h => absurd h List.not_mem_nil
  · intro as ρ μ h
    obtain ⟨nw, sp, tl, tx, al⟩ := ρ
    obtain ⟨as0, rfl, h0⟩ := mq_pZ_spec h
    clear h
    obtain ⟨t, as1, rfl, h1⟩ := mq_pI_spec h0
    clear h0
    obtain ⟨y, as2, rfl, h2⟩ := mq_pI_spec h1
    clear h1
    obtain ⟨c, as3, rfl, h3⟩ := mq_pI_spec h2
    clear h2
    obtain ⟨rfl, hp⟩ := mq_p0_spec h3
    clear h3
    intro hrg
    obtain ⟨⟨ha1a, ha1b⟩, ⟨ha2a, ha2b⟩, ⟨ha3a, ha3b⟩, -⟩ := hrg
    exact fun _ h => absurd h List.not_mem_nil
def pq_passes : List mq_E := [(0, false, .aload 0), (1, false, .invokeinterface 10 3), (4, false, .invokeinterface 3 7), (7, false, .iload 1), (8, false, .invokestatic 0), (11, false, .ifCond .eq (Int.ofNat 22)), (14, false, .aload 0), (15, false, .iload 2), (16, false, .invokestatic 1), (19, false, .ifCond .ne (Int.ofNat 25)), (22, false, .iconst (-2)), (24, false, .ireturn), (25, false, .aload 0), (26, false, .invokeinterface 10 12), (29, false, .iload 1), (30, false, .invokestatic 2), (33, false, .aload 0), (34, false, .invokeinterface 10 3), (37, false, .invokeinterface 3 7), (40, false, .iload 1), (41, false, .iconst 0), (42, false, .invokestatic 3), (45, false, .aload 0), (46, false, .invokeinterface 10 12), (49, false, .iload 1), (50, false, .iload 2), (51, false, .invokestatic 4), (54, false, .iadd), (55, false, .ireturn)]
def cq_passes : mq_C := ((yX10_passes, cX10_passes, 3, (some .int), { frames := 4, cells := 0, slots := 0, locals := 95 }), (3, 1, 0, 0), 580267261558784, (fun as ρ μ => match ρ with
  | (nw, sp, tl, tx, al) => mq_pZ as 0 fun as => mq_pI as fun t as => mq_pI as fun y as => mq_p0 as (True)),
  (fun as ρ μ r ρ' μ' => match as, ρ, ρ' with
  | [.inr (.inr (some (_, _))), .inl t, .inl y], (nw, sp, tl, tx, al), (nw', sp', tl', tx', al') => []
  | _, _, _ => []))
def kq_passes : List mq_V → mq_R → mq_M → List mq_Cu := fun as ρ μ => match as, ρ with
  | [.inr (.inr (some (_, _))), .inl t, .inl y], (nw, sp, tl, tx, al) => []
  | _, _ => []
set_option maxHeartbeats 16000000 in
set_option maxRecDepth 100000 in
theorem vq_passes (lc : Launch) (h_has_trains : mq_Ct lc cq_has_trains) (h_hasYard : mq_Ct lc cq_hasYard) (h_runTrain : mq_Ct lc cq_runTrain) (h_get_trains : mq_Ct lc cq_get_trains) (h_firstAt : mq_Ct lc cq_firstAt) : mq_Ct lc cq_passes := by
  refine mq_method (lc := lc) (P := pq_passes) (cl := [cq_has_trains, cq_hasYard, cq_runTrain, cq_get_trains, cq_firstAt]) (T := ([(27, 10, 3), (193, 3, 7), (80, 10, 12)], [], [], [(139, 0, 0), (145, 1, 0), (265, 2, 0), (179, 3, 0), (268, 4, 0)], [], [])) (fuel := 400) (cuts := kq_passes) (by decide) rfl ⟨rfl, rfl⟩ (List.forall_mem_cons.mpr ⟨h_has_trains, (List.forall_mem_cons.mpr ⟨h_hasYard, (List.forall_mem_cons.mpr ⟨h_runTrain, (List.forall_mem_cons.mpr ⟨h_get_trains, (List.forall_mem_cons.mpr ⟨h_firstAt, (fun _ h => absurd h List.not_mem_nil)⟩)⟩)⟩)⟩)⟩) ⟨(List.forall_mem_cons.mpr ⟨⟨_, rfl, by decide, kw_514⟩, (List.forall_mem_cons.mpr ⟨⟨_, rfl, by decide, kw_573⟩, (List.forall_mem_cons.mpr ⟨⟨_, rfl, by decide, kw_623⟩, (fun _ h => absurd h List.not_mem_nil)⟩)⟩)⟩), (fun _ h => absurd h List.not_mem_nil), (fun _ h => absurd h List.not_mem_nil), (List.forall_mem_cons.mpr ⟨mq_ml0 rfl mw0_has_trains kw_543, (List.forall_mem_cons.mpr ⟨mq_ml0 rfl mw0_hasYard kw_547, (List.forall_mem_cons.mpr ⟨mq_ml0 rfl mw0_runTrain kw_624, (List.forall_mem_cons.mpr ⟨mq_ml0 rfl mw0_get_trains kw_569, (List.forall_mem_cons.mpr ⟨mq_ml0 rfl mw0_firstAt kw_628, (fun _ h => absurd h List.not_mem_nil)⟩)⟩)⟩)⟩)⟩), (fun _ h => absurd h List.not_mem_nil), (fun _ h => absurd h List.not_mem_nil)⟩ (by decide +kernel) ⟨_, _, rfl⟩ ?_ ?_ ?_ ?_
  · intro as ρ μ h
    obtain ⟨nw, sp, tl, tx, al⟩ := ρ
    obtain ⟨as0, rfl, h0⟩ := mq_pZ_spec h
    clear h
    obtain ⟨t, as1, rfl, h1⟩ := mq_pI_spec h0
    clear h0
    obtain ⟨y, as2, rfl, h2⟩ := mq_pI_spec h1
    clear h1
    obtain ⟨rfl, hp⟩ := mq_p0_spec h2
    clear h2
    rfl
  · intro as ρ μ h
    obtain ⟨nw, sp, tl, tx, al⟩ := ρ
    obtain ⟨as0, rfl, h0⟩ := mq_pZ_spec h
    clear h
    obtain ⟨t, as1, rfl, h1⟩ := mq_pI_spec h0
    clear h0
    obtain ⟨y, as2, rfl, h2⟩ := mq_pI_spec h1
    clear h1
    obtain ⟨rfl, hp⟩ := mq_p0_spec h2
    clear h2
    intro hrg
    obtain ⟨⟨ha1a, ha1b⟩, ⟨ha2a, ha2b⟩, -⟩ := hrg
    intro hbk
    have e0 : mq_l0 ([.inr (.inr (some (0, 0))), .inl t, .inl y] : List mq_V) 3 = [some (.inr (.inr (some (0, 0)))), some (.inl t), some (.inl y)] := rfl
    rw [e0]
    repeat' (first | refine And.intro ?_ ?_ | intro _)
    all_goals first | omega | rfl | exact trivial | (simp [mq_up] at * <;> omega)
  · intro as ρ μ h
    obtain ⟨nw, sp, tl, tx, al⟩ := ρ
    obtain ⟨as0, rfl, h0⟩ := mq_pZ_spec h
    clear h
    obtain ⟨t, as1, rfl, h1⟩ := mq_pI_spec h0
    clear h0
    obtain ⟨y, as2, rfl, h2⟩ := mq_pI_spec h1
    clear h1
    obtain ⟨rfl, hp⟩ := mq_p0_spec h2
    clear h2
    exact fun _ h => absurd h List.not_mem_nil
  · intro as ρ μ h
    obtain ⟨nw, sp, tl, tx, al⟩ := ρ
    obtain ⟨as0, rfl, h0⟩ := mq_pZ_spec h
    clear h
    obtain ⟨t, as1, rfl, h1⟩ := mq_pI_spec h0
    clear h0
    obtain ⟨y, as2, rfl, h2⟩ := mq_pI_spec h1
    clear h1
    obtain ⟨rfl, hp⟩ := mq_p0_spec h2
    clear h2
    intro hrg
    obtain ⟨⟨ha1a, ha1b⟩, ⟨ha2a, ha2b⟩, -⟩ := hrg
    exact fun _ h => absurd h List.not_mem_nil
def pq_lets : List mq_E := [(0, false, .aload 0), (1, false, .invokeinterface 10 3), (4, false, .invokeinterface 3 8), (7, false, .iload 1), (8, false, .invokestatic 0), (11, false, .ifCond .eq (Int.ofNat 23)), (14, false, .iload 2), (15, false, .iconst 0), (16, false, .iconst 2), (17, false, .invokestatic 1), (20, false, .ifCond .ne (Int.ofNat 26)), (23, false, .iconst (-2)), (25, false, .ireturn), (26, false, .aload 0), (27, false, .invokeinterface 10 3), (30, false, .invokeinterface 3 8), (33, false, .iload 1), (34, false, .iconst 0), (35, false, .invokestatic 2), (38, false, .istore 3), (39, false, .aload 0), (40, false, .invokeinterface 10 12), (43, false, .iload 3), (44, false, .invokestatic 3), (47, false, .aload 0), (48, false, .invokeinterface 10 12), (51, false, .iload 1), (52, false, .invokestatic 4), (55, false, .ifCond .ne (Int.ofNat 60)), (58, false, .iconst (-1)), (59, false, .ireturn), (60, false, .iload 2), (61, false, .ifCond .ne (Int.ofNat 87)), (64, false, .aload 0), (65, false, .invokeinterface 10 3), (68, false, .invokeinterface 3 7), (71, false, .iload 3), (72, false, .iconst 0), (73, false, .invokestatic 5), (76, false, .aload 0), (77, false, .invokeinterface 10 12), (80, false, .invokeinterface 2 5), (83, false, .iload 1), (84, false, .iaload), (85, false, .iadd), (86, false, .ireturn), (87, false, .iload 2), (88, false, .iconst 1), (89, false, .if_icmp .ne (Int.ofNat 104)), (92, false, .aload 0), (93, false, .invokeinterface 10 12), (96, false, .invokeinterface 2 6), (99, false, .iload 1), (100, false, .iaload), (101, false, .goto (Int.ofNat 113)), (104, false, .aload 0), (105, false, .invokeinterface 10 12), (108, false, .invokeinterface 2 7), (111, false, .iload 1), (112, false, .iaload), (113, false, .ireturn)]
def cq_lets : mq_C := ((yX10_lets, cX10_lets, 4, (some .int), { frames := 4, cells := 0, slots := 0, locals := 95 }), (3, 1, 0, 0), 580267261558784, (fun as ρ μ => match ρ with
  | (nw, sp, tl, tx, al) => mq_pZ as 0 fun as => mq_pI as fun c as => mq_pI as fun w as => mq_p0 as (True)),
  (fun as ρ μ r ρ' μ' => match as, ρ, ρ' with
  | [.inr (.inr (some (_, _))), .inl c, .inl w], (nw, sp, tl, tx, al), (nw', sp', tl', tx', al') => []
  | _, _, _ => []))
def kq_lets : List mq_V → mq_R → mq_M → List mq_Cu := fun as ρ μ => match as, ρ with
  | [.inr (.inr (some (_, _))), .inl c, .inl w], (nw, sp, tl, tx, al) => []
  | _, _ => []
set_option maxHeartbeats 16000000 in
set_option maxRecDepth 100000 in
theorem vq_lets (lc : Launch) (h_has_coaches : mq_Ct lc cq_has_coaches) (h_isAmong : mq_Ct lc cq_isAmong) (h_get_coaches : mq_Ct lc cq_get_coaches) (h_runTrain : mq_Ct lc cq_runTrain) (h_isLetGo : mq_Ct lc cq_isLetGo) (h_get_trains : mq_Ct lc cq_get_trains) : mq_Ct lc cq_lets := by
  refine mq_method (lc := lc) (P := pq_lets) (cl := [cq_has_coaches, cq_isAmong, cq_get_coaches, cq_runTrain, cq_isLetGo, cq_get_trains]) (T := ([(27, 10, 3), (173, 3, 8), (80, 10, 12), (193, 3, 7), (274, 2, 5), (277, 2, 6), (280, 2, 7)], [], [], [(139, 0, 0), (176, 1, 1), (179, 2, 0), (265, 3, 0), (271, 4, 0), (179, 5, 0)], [], [])) (fuel := 400) (cuts := kq_lets) (by decide) rfl ⟨rfl, rfl⟩ (List.forall_mem_cons.mpr ⟨h_has_coaches, (List.forall_mem_cons.mpr ⟨h_isAmong, (List.forall_mem_cons.mpr ⟨h_get_coaches, (List.forall_mem_cons.mpr ⟨h_runTrain, (List.forall_mem_cons.mpr ⟨h_isLetGo, (List.forall_mem_cons.mpr ⟨h_get_trains, (fun _ h => absurd h List.not_mem_nil)⟩)⟩)⟩)⟩)⟩)⟩) ⟨(List.forall_mem_cons.mpr ⟨⟨_, rfl, by decide, kw_514⟩, (List.forall_mem_cons.mpr ⟨⟨_, rfl, by decide, kw_567⟩, (List.forall_mem_cons.mpr ⟨⟨_, rfl, by decide, kw_623⟩, (List.forall_mem_cons.mpr ⟨⟨_, rfl, by decide, kw_573⟩, (List.forall_mem_cons.mpr ⟨⟨_, rfl, by decide, kw_629⟩, (List.forall_mem_cons.mpr ⟨⟨_, rfl, by decide, kw_630⟩, (List.forall_mem_cons.mpr ⟨⟨_, rfl, by decide, kw_631⟩, (fun _ h => absurd h List.not_mem_nil)⟩)⟩)⟩)⟩)⟩)⟩)⟩), (fun _ h => absurd h List.not_mem_nil), (fun _ h => absurd h List.not_mem_nil), (List.forall_mem_cons.mpr ⟨mq_ml0 rfl mw0_has_coaches kw_543, (List.forall_mem_cons.mpr ⟨mq_ml1 rfl mw1_isAmong kw_568, (List.forall_mem_cons.mpr ⟨mq_ml0 rfl mw0_get_coaches kw_569, (List.forall_mem_cons.mpr ⟨mq_ml0 rfl mw0_runTrain kw_624, (List.forall_mem_cons.mpr ⟨mq_ml0 rfl mw0_isLetGo kw_632, (List.forall_mem_cons.mpr ⟨mq_ml0 rfl mw0_get_trains kw_569, (fun _ h => absurd h List.not_mem_nil)⟩)⟩)⟩)⟩)⟩)⟩), (fun _ h => absurd h List.not_mem_nil), (fun _ h => absurd h List.not_mem_nil)⟩ (by decide +kernel) ⟨_, _, rfl⟩ ?_ ?_ ?_ ?_
  · intro as ρ μ h
    obtain ⟨nw, sp, tl, tx, al⟩ := ρ
    obtain ⟨as0, rfl, h0⟩ := mq_pZ_spec h
    clear h
    obtain ⟨c, as1, rfl, h1⟩ := mq_pI_spec h0
    clear h0
    obtain ⟨w, as2, rfl, h2⟩ := mq_pI_spec h1
    clear h1
    obtain ⟨rfl, hp⟩ := mq_p0_spec h2
    clear h2
    rfl
  · intro as ρ μ h
    obtain ⟨nw, sp, tl, tx, al⟩ := ρ
    obtain ⟨as0, rfl, h0⟩ := mq_pZ_spec h
    clear h
    obtain ⟨c, as1, rfl, h1⟩ := mq_pI_spec h0
    clear h0
    obtain ⟨w, as2, rfl, h2⟩ := mq_pI_spec h1
    clear h1
    obtain ⟨rfl, hp⟩ := mq_p0_spec h2
    clear h2
    intro hrg
    obtain ⟨⟨ha1a, ha1b⟩, ⟨ha2a, ha2b⟩, -⟩ := hrg
    intro hbk
    have e0 : mq_l0 ([.inr (.inr (some (0, 0))), .inl c, .inl w] : List mq_V) 4 = [some (.inr (.inr (some (0, 0)))), some (.inl c), some (.inl w), none] := rfl
    rw [e0]
    repeat' (first | refine And.intro ?_ ?_ | intro _)
    all_goals first | omega | rfl | exact trivial | (simp [mq_up] at * <;> omega)
  · intro as ρ μ h
    obtain ⟨nw, sp, tl, tx, al⟩ := ρ
    obtain ⟨as0, rfl, h0⟩ := mq_pZ_spec h
    clear h
    obtain ⟨c, as1, rfl, h1⟩ := mq_pI_spec h0
    clear h0
    obtain ⟨w, as2, rfl, h2⟩ := mq_pI_spec h1
    clear h1
    obtain ⟨rfl, hp⟩ := mq_p0_spec h2
    clear h2
    exact fun _ h => absurd h List.not_mem_nil
  · intro as ρ μ h
    obtain ⟨nw, sp, tl, tx, al⟩ := ρ
    obtain ⟨as0, rfl, h0⟩ := mq_pZ_spec h
    clear h
    obtain ⟨c, as1, rfl, h1⟩ := mq_pI_spec h0
    clear h0
    obtain ⟨w, as2, rfl, h2⟩ := mq_pI_spec h1
    clear h1
    obtain ⟨rfl, hp⟩ := mq_p0_spec h2
    clear h2
    intro hrg
    obtain ⟨⟨ha1a, ha1b⟩, ⟨ha2a, ha2b⟩, -⟩ := hrg
    exact fun _ h => absurd h List.not_mem_nil
def pq_prepareFor : List mq_E := [(0, false, .aload 0), (1, false, .invokeinterface 10 10), (4, false, .aload 0), (5, false, .invokeinterface 10 3), (8, false, .invokeinterface 3 8), (11, false, .iload 1), (12, false, .iconst 1), (13, false, .invokestatic 0), (16, false, .aload 0), (17, false, .invokeinterface 10 3), (20, false, .invokeinterface 3 8), (23, false, .iload 1), (24, false, .iconst 2), (25, false, .invokestatic 0), (28, false, .invokestatic 1), (31, false, .return_)]
def cq_prepareFor : mq_C := ((yX10_prepareFor, cX10_prepareFor, 2, none, { frames := 4, cells := 16, slots := 6416, locals := 104 }), (2, 0, 1, 1), 12884901890, (fun as ρ μ => match ρ with
  | (nw, sp, tl, tx, al) => mq_pZ as 0 fun as => mq_pI as fun c as => mq_p0 as (True)),
  (fun as ρ μ r ρ' μ' => match as, ρ, ρ' with
  | [.inr (.inr (some (_, _))), .inl c], (nw, sp, tl, tx, al), (nw', sp', tl', tx', al') => []
  | _, _, _ => []))
def kq_prepareFor : List mq_V → mq_R → mq_M → List mq_Cu := fun as ρ μ => match as, ρ with
  | [.inr (.inr (some (_, _))), .inl c], (nw, sp, tl, tx, al) => []
  | _, _ => []
set_option maxHeartbeats 16000000 in
set_option maxRecDepth 100000 in
theorem vq_prepareFor (lc : Launch) (h_get_coaches : mq_Ct lc cq_get_coaches) (h_prepare : mq_Ct lc cq_prepare) : mq_Ct lc cq_prepareFor := by
  refine mq_method (lc := lc) (P := pq_prepareFor) (cl := [cq_get_coaches, cq_prepare]) (T := ([(64, 10, 10), (27, 10, 3), (173, 3, 8)], [], [], [(179, 0, 0), (159, 1, 0)], [], [])) (fuel := 400) (cuts := kq_prepareFor) (by decide) rfl ⟨rfl, rfl⟩ (List.forall_mem_cons.mpr ⟨h_get_coaches, (List.forall_mem_cons.mpr ⟨h_prepare, (fun _ h => absurd h List.not_mem_nil)⟩)⟩) ⟨(List.forall_mem_cons.mpr ⟨⟨_, rfl, by decide, kw_515⟩, (List.forall_mem_cons.mpr ⟨⟨_, rfl, by decide, kw_514⟩, (List.forall_mem_cons.mpr ⟨⟨_, rfl, by decide, kw_567⟩, (fun _ h => absurd h List.not_mem_nil)⟩)⟩)⟩), (fun _ h => absurd h List.not_mem_nil), (fun _ h => absurd h List.not_mem_nil), (List.forall_mem_cons.mpr ⟨mq_ml0 rfl mw0_get_coaches kw_569, (List.forall_mem_cons.mpr ⟨mq_ml0 rfl mw0_prepare kw_560, (fun _ h => absurd h List.not_mem_nil)⟩)⟩), (fun _ h => absurd h List.not_mem_nil), (fun _ h => absurd h List.not_mem_nil)⟩ (by decide +kernel) ⟨_, _, rfl⟩ ?_ ?_ ?_ ?_
  · intro as ρ μ h
    obtain ⟨nw, sp, tl, tx, al⟩ := ρ
    obtain ⟨as0, rfl, h0⟩ := mq_pZ_spec h
    clear h
    obtain ⟨c, as1, rfl, h1⟩ := mq_pI_spec h0
    clear h0
    obtain ⟨rfl, hp⟩ := mq_p0_spec h1
    clear h1
    rfl
  · intro as ρ μ h
    obtain ⟨nw, sp, tl, tx, al⟩ := ρ
    obtain ⟨as0, rfl, h0⟩ := mq_pZ_spec h
    clear h
    obtain ⟨c, as1, rfl, h1⟩ := mq_pI_spec h0
    clear h0
    obtain ⟨rfl, hp⟩ := mq_p0_spec h1
    clear h1
    intro hrg
    obtain ⟨⟨ha1a, ha1b⟩, -⟩ := hrg
    intro hbk
    have e0 : mq_l0 ([.inr (.inr (some (0, 0))), .inl c] : List mq_V) 2 = [some (.inr (.inr (some (0, 0)))), some (.inl c)] := rfl
    rw [e0]
    repeat' (first | refine And.intro ?_ ?_ | intro _)
    all_goals first | omega | rfl | exact trivial | (simp [mq_up] at * <;> omega)
  · intro as ρ μ h
    obtain ⟨nw, sp, tl, tx, al⟩ := ρ
    obtain ⟨as0, rfl, h0⟩ := mq_pZ_spec h
    clear h
    obtain ⟨c, as1, rfl, h1⟩ := mq_pI_spec h0
    clear h0
    obtain ⟨rfl, hp⟩ := mq_p0_spec h1
    clear h1
    exact fun _ h => absurd h List.not_mem_nil
  · intro as ρ μ h
    obtain ⟨nw, sp, tl, tx, al⟩ := ρ
    obtain ⟨as0, rfl, h0⟩ := mq_pZ_spec h
    clear h
    obtain ⟨c, as1, rfl, h1⟩ := mq_pI_spec h0
    clear h0
    obtain ⟨rfl, hp⟩ := mq_p0_spec h1
    clear h1
    intro hrg
    obtain ⟨⟨ha1a, ha1b⟩, -⟩ := hrg
    exact fun _ h => absurd h List.not_mem_nil
theorem mw0_prepareFor : mq_mlA cq_prepareFor 0 := ⟨kw_634, ⟨by decide +kernel, by decide +kernel⟩, by decide +kernel, kw_635, kw_636, kw_95, 0, by decide +kernel, fun as ρ μ h => by obtain ⟨nw, sp, tl, tx, al⟩ := ρ; obtain ⟨t, e, _⟩ := mq_pZ_spec h; exact ⟨0, t, e⟩⟩
def pq_prepareAll : List mq_E := [(0, false, .iconst 0), (1, false, .istore 1), (2, true, .iload 1), (3, false, .aload 0), (4, false, .invokeinterface 10 3), (7, false, .invokeinterface 3 8), (10, false, .invokeinterface 6 3), (13, false, .if_icmp .ge (Int.ofNat 27)), (16, false, .aload 0), (17, false, .iload 1), (18, false, .invokestatic 0), (21, false, .iinc 1 1), (24, false, .goto (Int.ofNat 2)), (27, false, .return_)]
def cq_prepareAll : mq_C := ((yX10_prepareAll, cX10_prepareAll, 2, none, { frames := 5, cells := 256, slots := 102656, locals := 125 }), (1, 0, 1, 16), 12884901890, (fun as ρ μ => match ρ with
  | (nw, sp, tl, tx, al) => mq_pZ as 0 fun as => mq_p0 as (True)),
  (fun as ρ μ r ρ' μ' => match as, ρ, ρ' with
  | [.inr (.inr (some (_, _)))], (nw, sp, tl, tx, al), (nw', sp', tl', tx', al') => []
  | _, _, _ => []))
def kq_prepareAll : List mq_V → mq_R → mq_M → List mq_Cu := fun as ρ μ => match as, ρ with
  | [.inr (.inr (some (_, _)))], (nw, sp, tl, tx, al) => [(2, [true, true], fun N l st ρ' μ' cs => mq_tZ l 0 fun l => mq_tI l fun v1 l => mq_t0 l (st = [] ∧ (ρ'.1 = nw ∧ ρ'.2.1 = sp ∧ ρ'.2.2.1 = tl ∧ ρ'.2.2.2.1 = tx) ∧ (cs : Int) ≤ v1 ∧ 0 ≤ v1 ∧ v1 ≤ 16 ∧ 0 ≤ (16 - v1 : Int) ∧ (16 - v1 : Int) < (N : Int)))]
  | _, _ => []
set_option maxHeartbeats 16000000 in
set_option maxRecDepth 100000 in
theorem vq_prepareAll (lc : Launch) (h_prepareFor : mq_Ct lc cq_prepareFor) : mq_Ct lc cq_prepareAll := by
  refine mq_method (lc := lc) (P := pq_prepareAll) (cl := [cq_prepareFor]) (T := ([(27, 10, 3), (173, 3, 8), (283, 6, 3)], [], [], [(286, 0, 0)], [], [])) (fuel := 400) (cuts := kq_prepareAll) (by decide) rfl ⟨rfl, rfl⟩ (List.forall_mem_cons.mpr ⟨h_prepareFor, (fun _ h => absurd h List.not_mem_nil)⟩) ⟨(List.forall_mem_cons.mpr ⟨⟨_, rfl, by decide, kw_514⟩, (List.forall_mem_cons.mpr ⟨⟨_, rfl, by decide, kw_567⟩, (List.forall_mem_cons.mpr ⟨⟨_, rfl, by decide, kw_633⟩, (fun _ h => absurd h List.not_mem_nil)⟩)⟩)⟩), (fun _ h => absurd h List.not_mem_nil), (fun _ h => absurd h List.not_mem_nil), (List.forall_mem_cons.mpr ⟨mq_ml0 rfl mw0_prepareFor kw_637, (fun _ h => absurd h List.not_mem_nil)⟩), (fun _ h => absurd h List.not_mem_nil), (fun _ h => absurd h List.not_mem_nil)⟩ (by decide +kernel) ⟨_, _, rfl⟩ ?_ ?_ ?_ ?_
  · intro as ρ μ h
    obtain ⟨nw, sp, tl, tx, al⟩ := ρ
    obtain ⟨as0, rfl, h0⟩ := mq_pZ_spec h
    clear h
    obtain ⟨rfl, hp⟩ := mq_p0_spec h0
    clear h0
    rfl
  · intro as ρ μ h
    obtain ⟨nw, sp, tl, tx, al⟩ := ρ
    obtain ⟨as0, rfl, h0⟩ := mq_pZ_spec h
    clear h
    obtain ⟨rfl, hp⟩ := mq_p0_spec h0
    clear h0
    intro hrg
    intro hbk
    have e0 : mq_l0 ([.inr (.inr (some (0, 0)))] : List mq_V) 2 = [some (.inr (.inr (some (0, 0)))), none] := rfl
    rw [e0]
    repeat' (first | refine And.intro ?_ ?_ | intro _)
    all_goals first | omega | rfl | exact trivial | (simp [mq_up] at * <;> omega)
  · intro as ρ μ h
    obtain ⟨nw, sp, tl, tx, al⟩ := ρ
    obtain ⟨as0, rfl, h0⟩ := mq_pZ_spec h
    clear h
    obtain ⟨rfl, hp⟩ := mq_p0_spec h0
    clear h0
    refine List.forall_mem_cons.mpr ⟨?_, ?_⟩
    · intro l st ρ' μ' cs hJ
      obtain ⟨nw2, sp2, tl2, tx2, al2⟩ := ρ'
      obtain ⟨l0, rfl, hJ0⟩ := mq_tZ_spec hJ
      clear hJ
      obtain ⟨v1, l1, rfl, hJ1⟩ := mq_tI_spec hJ0
      clear hJ0
      obtain ⟨rfl, hJz⟩ := mq_t0_spec hJ1
      clear hJ1
      obtain ⟨rfl, ⟨e1, e2, e3, e4⟩, hcs, hc0, hc1, hm0, hm1⟩ := hJz
      dsimp only at e1 e2 e3 e4
      subst e1 e2 e3 e4
      omega
    exact fun _ h => absurd h List.not_mem_nil
  · intro as ρ μ h
    obtain ⟨nw, sp, tl, tx, al⟩ := ρ
    obtain ⟨as0, rfl, h0⟩ := mq_pZ_spec h
    clear h
    obtain ⟨rfl, hp⟩ := mq_p0_spec h0
    clear h0
    intro hrg
    refine List.forall_mem_cons.mpr ⟨?_, ?_⟩
    · intro N l st ρ' μ' cs hJ
      obtain ⟨nw2, sp2, tl2, tx2, al2⟩ := ρ'
      obtain ⟨l0, rfl, hJ0⟩ := mq_tZ_spec hJ
      clear hJ
      obtain ⟨v1, l1, rfl, hJ1⟩ := mq_tI_spec hJ0
      clear hJ0
      obtain ⟨rfl, hJz⟩ := mq_t0_spec hJ1
      clear hJ1
      obtain ⟨rfl, ⟨e1, e2, e3, e4⟩, hcs, hc0, hc1, hm0, hm1⟩ := hJz
      dsimp only at e1 e2 e3 e4
      subst e1 e2 e3 e4
      intro hbk hrl
      obtain ⟨⟨hl1a, hl1b⟩, -⟩ := hrl
      repeat' (first | refine And.intro ?_ ?_ | intro _)
      all_goals first | omega | rfl | exact trivial | (simp [mq_up] at * <;> omega)
    exact fun _ h => absurd h List.not_mem_nil
theorem mw0_prepareAll : mq_mlA cq_prepareAll 0 := ⟨kw_659, ⟨by decide +kernel, by decide +kernel⟩, by decide +kernel, kw_660, kw_661, kw_95, 0, by decide +kernel, fun as ρ μ h => by obtain ⟨nw, sp, tl, tx, al⟩ := ρ; obtain ⟨t, e, _⟩ := mq_pZ_spec h; exact ⟨0, t, e⟩⟩
def pq_runAlone : List mq_E := [(0, false, .aload 0), (1, false, .iload 1), (2, false, .invokestatic 0), (5, false, .aload 0), (6, false, .invokeinterface 10 12), (9, false, .aload 0), (10, false, .invokeinterface 10 3), (13, false, .invokeinterface 3 8), (16, false, .iload 1), (17, false, .iconst 0), (18, false, .invokestatic 1), (21, false, .invokestatic 2), (24, false, .aload 0), (25, false, .invokeinterface 10 12), (28, false, .iload 1), (29, false, .invokestatic 3), (32, false, .return_)]
def cq_runAlone : mq_C := ((yX10_runAlone, cX10_runAlone, 2, none, { frames := 5, cells := 16, slots := 6416, locals := 125 }), (2, 0, 1, 1), 844162937126914, (fun as ρ μ => match ρ with
  | (nw, sp, tl, tx, al) => mq_pZ as 0 fun as => mq_pI as fun c as => mq_p0 as (True)),
  (fun as ρ μ r ρ' μ' => match as, ρ, ρ' with
  | [.inr (.inr (some (_, _))), .inl c], (nw, sp, tl, tx, al), (nw', sp', tl', tx', al') => []
  | _, _, _ => []))
def kq_runAlone : List mq_V → mq_R → mq_M → List mq_Cu := fun as ρ μ => match as, ρ with
  | [.inr (.inr (some (_, _))), .inl c], (nw, sp, tl, tx, al) => []
  | _, _ => []
set_option maxHeartbeats 16000000 in
set_option maxRecDepth 100000 in
theorem vq_runAlone (lc : Launch) (h_prepareFor : mq_Ct lc cq_prepareFor) (h_get_coaches : mq_Ct lc cq_get_coaches) (h_runTrain : mq_Ct lc cq_runTrain) (h_runCoach : mq_Ct lc cq_runCoach) : mq_Ct lc cq_runAlone := by
  refine mq_method (lc := lc) (P := pq_runAlone) (cl := [cq_prepareFor, cq_get_coaches, cq_runTrain, cq_runCoach]) (T := ([(80, 10, 12), (27, 10, 3), (173, 3, 8)], [], [], [(286, 0, 0), (179, 1, 0), (265, 2, 0), (289, 3, 0)], [], [])) (fuel := 400) (cuts := kq_runAlone) (by decide) rfl ⟨rfl, rfl⟩ (List.forall_mem_cons.mpr ⟨h_prepareFor, (List.forall_mem_cons.mpr ⟨h_get_coaches, (List.forall_mem_cons.mpr ⟨h_runTrain, (List.forall_mem_cons.mpr ⟨h_runCoach, (fun _ h => absurd h List.not_mem_nil)⟩)⟩)⟩)⟩) ⟨(List.forall_mem_cons.mpr ⟨⟨_, rfl, by decide, kw_623⟩, (List.forall_mem_cons.mpr ⟨⟨_, rfl, by decide, kw_514⟩, (List.forall_mem_cons.mpr ⟨⟨_, rfl, by decide, kw_567⟩, (fun _ h => absurd h List.not_mem_nil)⟩)⟩)⟩), (fun _ h => absurd h List.not_mem_nil), (fun _ h => absurd h List.not_mem_nil), (List.forall_mem_cons.mpr ⟨mq_ml0 rfl mw0_prepareFor kw_637, (List.forall_mem_cons.mpr ⟨mq_ml0 rfl mw0_get_coaches kw_569, (List.forall_mem_cons.mpr ⟨mq_ml0 rfl mw0_runTrain kw_624, (List.forall_mem_cons.mpr ⟨mq_ml0 rfl mw0_runCoach kw_638, (fun _ h => absurd h List.not_mem_nil)⟩)⟩)⟩)⟩), (fun _ h => absurd h List.not_mem_nil), (fun _ h => absurd h List.not_mem_nil)⟩ (by decide +kernel) ⟨_, _, rfl⟩ ?_ ?_ ?_ ?_
  · intro as ρ μ h
    obtain ⟨nw, sp, tl, tx, al⟩ := ρ
    obtain ⟨as0, rfl, h0⟩ := mq_pZ_spec h
    clear h
    obtain ⟨c, as1, rfl, h1⟩ := mq_pI_spec h0
    clear h0
    obtain ⟨rfl, hp⟩ := mq_p0_spec h1
    clear h1
    rfl
  · intro as ρ μ h
    obtain ⟨nw, sp, tl, tx, al⟩ := ρ
    obtain ⟨as0, rfl, h0⟩ := mq_pZ_spec h
    clear h
    obtain ⟨c, as1, rfl, h1⟩ := mq_pI_spec h0
    clear h0
    obtain ⟨rfl, hp⟩ := mq_p0_spec h1
    clear h1
    intro hrg
    obtain ⟨⟨ha1a, ha1b⟩, -⟩ := hrg
    intro hbk
    have e0 : mq_l0 ([.inr (.inr (some (0, 0))), .inl c] : List mq_V) 2 = [some (.inr (.inr (some (0, 0)))), some (.inl c)] := rfl
    rw [e0]
    repeat' (first | refine And.intro ?_ ?_ | intro _)
    all_goals first | omega | rfl | exact trivial | (simp [mq_up] at * <;> omega)
  · intro as ρ μ h
    obtain ⟨nw, sp, tl, tx, al⟩ := ρ
    obtain ⟨as0, rfl, h0⟩ := mq_pZ_spec h
    clear h
    obtain ⟨c, as1, rfl, h1⟩ := mq_pI_spec h0
    clear h0
    obtain ⟨rfl, hp⟩ := mq_p0_spec h1
    clear h1
    exact fun _ h => absurd h List.not_mem_nil
  · intro as ρ μ h
    obtain ⟨nw, sp, tl, tx, al⟩ := ρ
    obtain ⟨as0, rfl, h0⟩ := mq_pZ_spec h
    clear h
    obtain ⟨c, as1, rfl, h1⟩ := mq_pI_spec h0
    clear h0
    obtain ⟨rfl, hp⟩ := mq_p0_spec h1
    clear h1
    intro hrg
    obtain ⟨⟨ha1a, ha1b⟩, -⟩ := hrg
    exact fun _ h => absurd h List.not_mem_nil
theorem mw0_runAlone : mq_mlA cq_runAlone 0 := ⟨kw_641, ⟨by decide +kernel, by decide +kernel⟩, by decide +kernel, kw_642, kw_643, kw_95, 0, by decide +kernel, fun as ρ μ h => by obtain ⟨nw, sp, tl, tx, al⟩ := ρ; obtain ⟨t, e, _⟩ := mq_pZ_spec h; exact ⟨0, t, e⟩⟩
def pq_startOf : List mq_E := [(0, false, .aload 0), (1, false, .invokeinterface 10 3), (4, false, .invokeinterface 3 7), (7, false, .aload 0), (8, false, .invokeinterface 10 3), (11, false, .invokeinterface 3 8), (14, false, .iload 1), (15, false, .iconst 0), (16, false, .invokestatic 0), (19, false, .iconst 0), (20, false, .invokestatic 1), (23, false, .ireturn)]
def cq_startOf : mq_C := ((yX10_startOf, cX10_startOf, 2, (some .int), { frames := 1, cells := 0, slots := 0, locals := 22 }), (2, 1, 0, 0), 0, (fun as ρ μ => match ρ with
  | (nw, sp, tl, tx, al) => mq_pZ as 0 fun as => mq_pI as fun c as => mq_p0 as (True)),
  (fun as ρ μ r ρ' μ' => match as, ρ, ρ' with
  | [.inr (.inr (some (_, _))), .inl c], (nw, sp, tl, tx, al), (nw', sp', tl', tx', al') => [0 ≤ r, r ≤ 300]
  | _, _, _ => []))
def kq_startOf : List mq_V → mq_R → mq_M → List mq_Cu := fun as ρ μ => match as, ρ with
  | [.inr (.inr (some (_, _))), .inl c], (nw, sp, tl, tx, al) => []
  | _, _ => []
set_option maxHeartbeats 16000000 in
set_option maxRecDepth 100000 in
theorem vq_startOf (lc : Launch) (h_get_coaches : mq_Ct lc cq_get_coaches) (h_get_trains : mq_Ct lc cq_get_trains) : mq_Ct lc cq_startOf := by
  refine mq_method (lc := lc) (P := pq_startOf) (cl := [cq_get_coaches, cq_get_trains]) (T := ([(27, 10, 3), (193, 3, 7), (173, 3, 8)], [], [], [(179, 0, 0), (179, 1, 0)], [], [])) (fuel := 400) (cuts := kq_startOf) (by decide) rfl ⟨rfl, rfl⟩ (List.forall_mem_cons.mpr ⟨h_get_coaches, (List.forall_mem_cons.mpr ⟨h_get_trains, (fun _ h => absurd h List.not_mem_nil)⟩)⟩) ⟨(List.forall_mem_cons.mpr ⟨⟨_, rfl, by decide, kw_514⟩, (List.forall_mem_cons.mpr ⟨⟨_, rfl, by decide, kw_573⟩, (List.forall_mem_cons.mpr ⟨⟨_, rfl, by decide, kw_567⟩, (fun _ h => absurd h List.not_mem_nil)⟩)⟩)⟩), (fun _ h => absurd h List.not_mem_nil), (fun _ h => absurd h List.not_mem_nil), (List.forall_mem_cons.mpr ⟨mq_ml0 rfl mw0_get_coaches kw_569, (List.forall_mem_cons.mpr ⟨mq_ml0 rfl mw0_get_trains kw_569, (fun _ h => absurd h List.not_mem_nil)⟩)⟩), (fun _ h => absurd h List.not_mem_nil), (fun _ h => absurd h List.not_mem_nil)⟩ (by decide +kernel) ⟨_, _, rfl⟩ ?_ ?_ ?_ ?_
  · intro as ρ μ h
    obtain ⟨nw, sp, tl, tx, al⟩ := ρ
    obtain ⟨as0, rfl, h0⟩ := mq_pZ_spec h
    clear h
    obtain ⟨c, as1, rfl, h1⟩ := mq_pI_spec h0
    clear h0
    obtain ⟨rfl, hp⟩ := mq_p0_spec h1
    clear h1
    rfl
  · intro as ρ μ h
    obtain ⟨nw, sp, tl, tx, al⟩ := ρ
    obtain ⟨as0, rfl, h0⟩ := mq_pZ_spec h
    clear h
    obtain ⟨c, as1, rfl, h1⟩ := mq_pI_spec h0
    clear h0
    obtain ⟨rfl, hp⟩ := mq_p0_spec h1
    clear h1
    intro hrg
    obtain ⟨⟨ha1a, ha1b⟩, -⟩ := hrg
    intro hbk
    have e0 : mq_l0 ([.inr (.inr (some (0, 0))), .inl c] : List mq_V) 2 = [some (.inr (.inr (some (0, 0)))), some (.inl c)] := rfl
    rw [e0]
    repeat' (first | refine And.intro ?_ ?_ | intro _)
    all_goals first | omega | rfl | exact trivial | (simp [mq_up] at * <;> omega)
  · intro as ρ μ h
    obtain ⟨nw, sp, tl, tx, al⟩ := ρ
    obtain ⟨as0, rfl, h0⟩ := mq_pZ_spec h
    clear h
    obtain ⟨c, as1, rfl, h1⟩ := mq_pI_spec h0
    clear h0
    obtain ⟨rfl, hp⟩ := mq_p0_spec h1
    clear h1
    exact fun _ h => absurd h List.not_mem_nil
  · intro as ρ μ h
    obtain ⟨nw, sp, tl, tx, al⟩ := ρ
    obtain ⟨as0, rfl, h0⟩ := mq_pZ_spec h
    clear h
    obtain ⟨c, as1, rfl, h1⟩ := mq_pI_spec h0
    clear h0
    obtain ⟨rfl, hp⟩ := mq_p0_spec h1
    clear h1
    intro hrg
    obtain ⟨⟨ha1a, ha1b⟩, -⟩ := hrg
    exact fun _ h => absurd h List.not_mem_nil
theorem mw0_startOf : mq_mlA cq_startOf 0 := ⟨kw_645, ⟨by decide +kernel, by decide +kernel⟩, by decide +kernel, kw_646, kw_647, kw_95, 0, by decide +kernel, fun as ρ μ h => by obtain ⟨nw, sp, tl, tx, al⟩ := ρ; obtain ⟨t, e, _⟩ := mq_pZ_spec h; exact ⟨0, t, e⟩⟩
def pq_shortOf : List mq_E := [(0, false, .aload 0), (1, false, .invokeinterface 10 3), (4, false, .invokeinterface 3 8), (7, false, .iload 1), (8, false, .iconst 2), (9, false, .invokestatic 0), (12, false, .istore 3), (13, false, .aload 0), (14, false, .invokeinterface 10 3), (17, false, .aload 0), (18, false, .invokeinterface 10 3), (21, false, .invokeinterface 3 8), (24, false, .iload 1), (25, false, .iconst 1), (26, false, .invokestatic 0), (29, false, .iload 3), (30, false, .invokestatic 1), (33, false, .istore 4), (35, false, .iload 2), (36, false, .iload 4), (38, false, .if_icmp .ge (Int.ofNat 46)), (41, false, .iload 4), (43, false, .iload 2), (44, false, .fsub), (45, false, .ireturn), (46, false, .iconst 0), (47, false, .aload 0), (48, false, .invokeinterface 10 3), (51, false, .invokeinterface 3 5), (54, false, .iload 3), (55, false, .iconst 1), (56, false, .invokestatic 2), (59, false, .iload 2), (60, false, .fsub), (61, false, .f2l), (64, false, .ireturn)]
def cq_shortOf : mq_C := ((yX10_shortOf, cX10_shortOf, 5, (some .int), { frames := 2, cells := 0, slots := 0, locals := 44 }), (3, 1, 0, 0), 0, (fun as ρ μ => match ρ with
  | (nw, sp, tl, tx, al) => mq_pZ as 0 fun as => mq_pI as fun c as => mq_pI as fun f as => mq_p0 as (True)),
  (fun as ρ μ r ρ' μ' => match as, ρ, ρ' with
  | [.inr (.inr (some (_, _))), .inl c, .inl f], (nw, sp, tl, tx, al), (nw', sp', tl', tx', al') => []
  | _, _, _ => []))
def kq_shortOf : List mq_V → mq_R → mq_M → List mq_Cu := fun as ρ μ => match as, ρ with
  | [.inr (.inr (some (_, _))), .inl c, .inl f], (nw, sp, tl, tx, al) => []
  | _, _ => []
set_option maxHeartbeats 16000000 in
set_option maxRecDepth 100000 in
theorem vq_shortOf (lc : Launch) (h_get_coaches : mq_Ct lc cq_get_coaches) (h_firstStand : mq_Ct lc cq_firstStand) (h_get_platforms : mq_Ct lc cq_get_platforms) : mq_Ct lc cq_shortOf := by
  refine mq_method (lc := lc) (P := pq_shortOf) (cl := [cq_get_coaches, cq_firstStand, cq_get_platforms]) (T := ([(27, 10, 3), (173, 3, 8), (152, 3, 5)], [], [], [(179, 0, 0), (226, 1, 0), (179, 2, 0)], [], [(310, false)])) (fuel := 400) (cuts := kq_shortOf) (by decide) rfl ⟨rfl, rfl⟩ (List.forall_mem_cons.mpr ⟨h_get_coaches, (List.forall_mem_cons.mpr ⟨h_firstStand, (List.forall_mem_cons.mpr ⟨h_get_platforms, (fun _ h => absurd h List.not_mem_nil)⟩)⟩)⟩) ⟨(List.forall_mem_cons.mpr ⟨⟨_, rfl, by decide, kw_514⟩, (List.forall_mem_cons.mpr ⟨⟨_, rfl, by decide, kw_567⟩, (List.forall_mem_cons.mpr ⟨⟨_, rfl, by decide, kw_548⟩, (fun _ h => absurd h List.not_mem_nil)⟩)⟩)⟩), (fun _ h => absurd h List.not_mem_nil), (fun _ h => absurd h List.not_mem_nil), (List.forall_mem_cons.mpr ⟨mq_ml0 rfl mw0_get_coaches kw_569, (List.forall_mem_cons.mpr ⟨mq_ml0 rfl mw0_firstStand kw_589, (List.forall_mem_cons.mpr ⟨mq_ml0 rfl mw0_get_platforms kw_569, (fun _ h => absurd h List.not_mem_nil)⟩)⟩)⟩), (fun _ h => absurd h List.not_mem_nil), (List.forall_mem_cons.mpr ⟨⟨kw_639, kw_43, kw_44, kw_45⟩, (fun _ h => absurd h List.not_mem_nil)⟩)⟩ (by decide +kernel) ⟨_, _, rfl⟩ ?_ ?_ ?_ ?_
  · intro as ρ μ h
    obtain ⟨nw, sp, tl, tx, al⟩ := ρ
    obtain ⟨as0, rfl, h0⟩ := mq_pZ_spec h
    clear h
    obtain ⟨c, as1, rfl, h1⟩ := mq_pI_spec h0
    clear h0
    obtain ⟨f, as2, rfl, h2⟩ := mq_pI_spec h1
    clear h1
    obtain ⟨rfl, hp⟩ := mq_p0_spec h2
    clear h2
    rfl
  · intro as ρ μ h
    obtain ⟨nw, sp, tl, tx, al⟩ := ρ
    obtain ⟨as0, rfl, h0⟩ := mq_pZ_spec h
    clear h
    obtain ⟨c, as1, rfl, h1⟩ := mq_pI_spec h0
    clear h0
    obtain ⟨f, as2, rfl, h2⟩ := mq_pI_spec h1
    clear h1
    obtain ⟨rfl, hp⟩ := mq_p0_spec h2
    clear h2
    intro hrg
    obtain ⟨⟨ha1a, ha1b⟩, ⟨ha2a, ha2b⟩, -⟩ := hrg
    intro hbk
    have e0 : mq_l0 ([.inr (.inr (some (0, 0))), .inl c, .inl f] : List mq_V) 5 = [some (.inr (.inr (some (0, 0)))), some (.inl c), some (.inl f), none, none] := rfl
    rw [e0]
    repeat' (first | refine And.intro ?_ ?_ | intro _)
    all_goals first | omega | rfl | exact trivial | (simp [mq_up] at * <;> omega)
  · intro as ρ μ h
    obtain ⟨nw, sp, tl, tx, al⟩ := ρ
    obtain ⟨as0, rfl, h0⟩ := mq_pZ_spec h
    clear h
    obtain ⟨c, as1, rfl, h1⟩ := mq_pI_spec h0
    clear h0
    obtain ⟨f, as2, rfl, h2⟩ := mq_pI_spec h1
    clear h1
    obtain ⟨rfl, hp⟩ := mq_p0_spec h2
    clear h2
    exact fun _ h => absurd h List.not_mem_nil
  · intro as ρ μ h
    obtain ⟨nw, sp, tl, tx, al⟩ := ρ
    obtain ⟨as0, rfl, h0⟩ := mq_pZ_spec h
    clear h
    obtain ⟨c, as1, rfl, h1⟩ := mq_pI_spec h0
    clear h0
    obtain ⟨f, as2, rfl, h2⟩ := mq_pI_spec h1
    clear h1
    obtain ⟨rfl, hp⟩ := mq_p0_spec h2
    clear h2
    intro hrg
    obtain ⟨⟨ha1a, ha1b⟩, ⟨ha2a, ha2b⟩, -⟩ := hrg
    exact fun _ h => absurd h List.not_mem_nil
theorem mw0_shortOf : mq_mlA cq_shortOf 0 := ⟨kw_654, ⟨by decide +kernel, by decide +kernel⟩, by decide +kernel, kw_655, kw_656, kw_95, 0, by decide +kernel, fun as ρ μ h => by obtain ⟨nw, sp, tl, tx, al⟩ := ρ; obtain ⟨t, e, _⟩ := mq_pZ_spec h; exact ⟨0, t, e⟩⟩
def pq_comes : List mq_E := [(0, false, .aload 0), (1, false, .invokeinterface 10 3), (4, false, .invokeinterface 3 8), (7, false, .iload 1), (8, false, .invokestatic 0), (11, false, .ifCond .eq (Int.ofNat 23)), (14, false, .iload 2), (15, false, .iconst 0), (16, false, .iconst 2), (17, false, .invokestatic 1), (20, false, .ifCond .ne (Int.ofNat 26)), (23, false, .iconst (-2)), (25, false, .ireturn), (26, false, .aload 0), (27, false, .iload 1), (28, false, .invokestatic 2), (31, false, .aload 0), (32, false, .invokeinterface 10 12), (35, false, .invokeinterface 2 10), (38, false, .iload 1), (39, false, .baload), (40, false, .ifCond .ne (Int.ofNat 55)), (43, false, .iload 2), (44, false, .iconst 2), (45, false, .if_icmp .ne (Int.ofNat 53)), (48, false, .iconst (-1000000)), (50, false, .goto (Int.ofNat 54)), (53, false, .iconst (-1)), (54, false, .ireturn), (55, false, .iload 2), (56, false, .iconst 1), (57, false, .if_icmp .ne (Int.ofNat 75)), (60, false, .aload 0), (61, false, .iload 1), (62, false, .invokestatic 3), (65, false, .aload 0), (66, false, .invokeinterface 10 12), (69, false, .iload 1), (70, false, .invokestatic 4), (73, false, .iadd), (74, false, .ireturn), (75, false, .aload 0), (76, false, .invokeinterface 10 12), (79, false, .iload 1), (80, false, .invokestatic 5), (83, false, .istore 3), (84, false, .iload 2), (85, false, .ifCond .ne (Int.ofNat 92)), (88, false, .iload 3), (89, false, .goto (Int.ofNat 98)), (92, false, .aload 0), (93, false, .iload 1), (94, false, .iload 3), (95, false, .invokestatic 6), (98, false, .ireturn)]
def cq_comes : mq_C := ((yX10_comes, cX10_comes, 4, (some .int), { frames := 6, cells := 16, slots := 6416, locals := 146 }), (3, 1, 1, 1), 844162937126914, (fun as ρ μ => match ρ with
  | (nw, sp, tl, tx, al) => mq_pZ as 0 fun as => mq_pI as fun c as => mq_pI as fun w as => mq_p0 as (True)),
  (fun as ρ μ r ρ' μ' => match as, ρ, ρ' with
  | [.inr (.inr (some (_, _))), .inl c, .inl w], (nw, sp, tl, tx, al), (nw', sp', tl', tx', al') => []
  | _, _, _ => []))
def kq_comes : List mq_V → mq_R → mq_M → List mq_Cu := fun as ρ μ => match as, ρ with
  | [.inr (.inr (some (_, _))), .inl c, .inl w], (nw, sp, tl, tx, al) => []
  | _, _ => []
set_option maxHeartbeats 16000000 in
set_option maxRecDepth 100000 in
theorem vq_comes (lc : Launch) (h_has_coaches : mq_Ct lc cq_has_coaches) (h_isAmong : mq_Ct lc cq_isAmong) (h_runAlone : mq_Ct lc cq_runAlone) (h_startOf : mq_Ct lc cq_startOf) (h_endTick : mq_Ct lc cq_endTick) (h_endYard : mq_Ct lc cq_endYard) (h_shortOf : mq_Ct lc cq_shortOf) : mq_Ct lc cq_comes := by
  refine mq_method (lc := lc) (P := pq_comes) (cl := [cq_has_coaches, cq_isAmong, cq_runAlone, cq_startOf, cq_endTick, cq_endYard, cq_shortOf]) (T := ([(27, 10, 3), (173, 3, 8), (80, 10, 12), (295, 2, 10)], [(242, (-1000000))], [], [(139, 0, 0), (176, 1, 1), (292, 2, 0), (298, 3, 0), (301, 4, 0), (304, 5, 0), (307, 6, 0)], [], [])) (fuel := 400) (cuts := kq_comes) (by decide) rfl ⟨rfl, rfl⟩ (List.forall_mem_cons.mpr ⟨h_has_coaches, (List.forall_mem_cons.mpr ⟨h_isAmong, (List.forall_mem_cons.mpr ⟨h_runAlone, (List.forall_mem_cons.mpr ⟨h_startOf, (List.forall_mem_cons.mpr ⟨h_endTick, (List.forall_mem_cons.mpr ⟨h_endYard, (List.forall_mem_cons.mpr ⟨h_shortOf, (fun _ h => absurd h List.not_mem_nil)⟩)⟩)⟩)⟩)⟩)⟩)⟩) ⟨(List.forall_mem_cons.mpr ⟨⟨_, rfl, by decide, kw_514⟩, (List.forall_mem_cons.mpr ⟨⟨_, rfl, by decide, kw_567⟩, (List.forall_mem_cons.mpr ⟨⟨_, rfl, by decide, kw_623⟩, (List.forall_mem_cons.mpr ⟨⟨_, rfl, by decide, kw_640⟩, (fun _ h => absurd h List.not_mem_nil)⟩)⟩)⟩)⟩), (List.forall_mem_cons.mpr ⟨kw_606, (fun _ h => absurd h List.not_mem_nil)⟩), (fun _ h => absurd h List.not_mem_nil), (List.forall_mem_cons.mpr ⟨mq_ml0 rfl mw0_has_coaches kw_543, (List.forall_mem_cons.mpr ⟨mq_ml1 rfl mw1_isAmong kw_568, (List.forall_mem_cons.mpr ⟨mq_ml0 rfl mw0_runAlone kw_644, (List.forall_mem_cons.mpr ⟨mq_ml0 rfl mw0_startOf kw_648, (List.forall_mem_cons.mpr ⟨mq_ml0 rfl mw0_endTick kw_649, (List.forall_mem_cons.mpr ⟨mq_ml0 rfl mw0_endYard kw_653, (List.forall_mem_cons.mpr ⟨mq_ml0 rfl mw0_shortOf kw_657, (fun _ h => absurd h List.not_mem_nil)⟩)⟩)⟩)⟩)⟩)⟩)⟩), (fun _ h => absurd h List.not_mem_nil), (fun _ h => absurd h List.not_mem_nil)⟩ (by decide +kernel) ⟨_, _, rfl⟩ ?_ ?_ ?_ ?_
  · intro as ρ μ h
    obtain ⟨nw, sp, tl, tx, al⟩ := ρ
    obtain ⟨as0, rfl, h0⟩ := mq_pZ_spec h
    clear h
    obtain ⟨c, as1, rfl, h1⟩ := mq_pI_spec h0
    clear h0
    obtain ⟨w, as2, rfl, h2⟩ := mq_pI_spec h1
    clear h1
    obtain ⟨rfl, hp⟩ := mq_p0_spec h2
    clear h2
    rfl
  · intro as ρ μ h
    obtain ⟨nw, sp, tl, tx, al⟩ := ρ
    obtain ⟨as0, rfl, h0⟩ := mq_pZ_spec h
    clear h
    obtain ⟨c, as1, rfl, h1⟩ := mq_pI_spec h0
    clear h0
    obtain ⟨w, as2, rfl, h2⟩ := mq_pI_spec h1
    clear h1
    obtain ⟨rfl, hp⟩ := mq_p0_spec h2
    clear h2
    intro hrg
    obtain ⟨⟨ha1a, ha1b⟩, ⟨ha2a, ha2b⟩, -⟩ := hrg
    intro hbk
    have e0 : mq_l0 ([.inr (.inr (some (0, 0))), .inl c, .inl w] : List mq_V) 4 = [some (.inr (.inr (some (0, 0)))), some (.inl c), some (.inl w), none] := rfl
    rw [e0]
    repeat' (first | refine And.intro ?_ ?_ | intro _)
    all_goals first | omega | rfl | exact trivial | (simp [mq_up] at * <;> omega)
  · intro as ρ μ h
    obtain ⟨nw, sp, tl, tx, al⟩ := ρ
    obtain ⟨as0, rfl, h0⟩ := mq_pZ_spec h
    clear h
    obtain ⟨c, as1, rfl, h1⟩ := mq_pI_spec h0
    clear h0
    obtain ⟨w, as2, rfl, h2⟩ := mq_pI_spec h1
    clear h1
    obtain ⟨rfl, hp⟩ := mq_p0_spec h2
    clear h2
    exact fun _ h => absurd h List.not_mem_nil
  · intro as ρ μ h
    obtain ⟨nw, sp, tl, tx, al⟩ := ρ
    obtain ⟨as0, rfl, h0⟩ := mq_pZ_spec h
    clear h
    obtain ⟨c, as1, rfl, h1⟩ := mq_pI_spec h0
    clear h0
    obtain ⟨w, as2, rfl, h2⟩ := mq_pI_spec h1
    clear h1
    obtain ⟨rfl, hp⟩ := mq_p0_spec h2
    clear h2
    intro hrg
    obtain ⟨⟨ha1a, ha1b⟩, ⟨ha2a, ha2b⟩, -⟩ := hrg
    exact fun _ h => absurd h List.not_mem_nil
def pq_clear : List mq_E := [(0, false, .aload 0), (1, false, .invokeinterface 10 3), (4, false, .invokeinterface 3 8), (7, false, .iload 1), (8, false, .invokestatic 0), (11, false, .ifCond .ne (Int.ofNat 17)), (14, false, .iconst (-2)), (16, false, .ireturn), (17, false, .aload 0), (18, false, .iload 1), (19, false, .invokestatic 1), (22, false, .aload 0), (23, false, .invokeinterface 10 12), (26, false, .iload 1), (27, false, .invokestatic 2), (30, false, .ifCond .eq (Int.ofNat 44)), (33, false, .aload 0), (34, false, .invokeinterface 10 12), (37, false, .iload 1), (38, false, .invokestatic 3), (41, false, .ifCond .eq (Int.ofNat 46)), (44, false, .iconst (-1)), (45, false, .ireturn), (46, false, .aload 0), (47, false, .iload 1), (48, false, .invokestatic 4), (51, false, .aload 0), (52, false, .invokeinterface 10 12), (55, false, .iload 1), (56, false, .invokestatic 5), (59, false, .iadd), (60, false, .ireturn)]
def cq_clear : mq_C := ((yX10_clear, cX10_clear, 2, (some .int), { frames := 6, cells := 16, slots := 6416, locals := 146 }), (2, 1, 1, 1), 844162937126914, (fun as ρ μ => match ρ with
  | (nw, sp, tl, tx, al) => mq_pZ as 0 fun as => mq_pI as fun c as => mq_p0 as (True)),
  (fun as ρ μ r ρ' μ' => match as, ρ, ρ' with
  | [.inr (.inr (some (_, _))), .inl c], (nw, sp, tl, tx, al), (nw', sp', tl', tx', al') => []
  | _, _, _ => []))
def kq_clear : List mq_V → mq_R → mq_M → List mq_Cu := fun as ρ μ => match as, ρ with
  | [.inr (.inr (some (_, _))), .inl c], (nw, sp, tl, tx, al) => []
  | _, _ => []
set_option maxHeartbeats 16000000 in
set_option maxRecDepth 100000 in
theorem vq_clear (lc : Launch) (h_has_coaches : mq_Ct lc cq_has_coaches) (h_runAlone : mq_Ct lc cq_runAlone) (h_isLetGo : mq_Ct lc cq_isLetGo) (h_isForGood : mq_Ct lc cq_isForGood) (h_startOf : mq_Ct lc cq_startOf) (h_endTick : mq_Ct lc cq_endTick) : mq_Ct lc cq_clear := by
  refine mq_method (lc := lc) (P := pq_clear) (cl := [cq_has_coaches, cq_runAlone, cq_isLetGo, cq_isForGood, cq_startOf, cq_endTick]) (T := ([(27, 10, 3), (173, 3, 8), (80, 10, 12)], [], [], [(139, 0, 0), (292, 1, 0), (271, 2, 0), (315, 3, 0), (298, 4, 0), (301, 5, 0)], [], [])) (fuel := 400) (cuts := kq_clear) (by decide) rfl ⟨rfl, rfl⟩ (List.forall_mem_cons.mpr ⟨h_has_coaches, (List.forall_mem_cons.mpr ⟨h_runAlone, (List.forall_mem_cons.mpr ⟨h_isLetGo, (List.forall_mem_cons.mpr ⟨h_isForGood, (List.forall_mem_cons.mpr ⟨h_startOf, (List.forall_mem_cons.mpr ⟨h_endTick, (fun _ h => absurd h List.not_mem_nil)⟩)⟩)⟩)⟩)⟩)⟩) ⟨(List.forall_mem_cons.mpr ⟨⟨_, rfl, by decide, kw_514⟩, (List.forall_mem_cons.mpr ⟨⟨_, rfl, by decide, kw_567⟩, (List.forall_mem_cons.mpr ⟨⟨_, rfl, by decide, kw_623⟩, (fun _ h => absurd h List.not_mem_nil)⟩)⟩)⟩), (fun _ h => absurd h List.not_mem_nil), (fun _ h => absurd h List.not_mem_nil), (List.forall_mem_cons.mpr ⟨mq_ml0 rfl mw0_has_coaches kw_543, (List.forall_mem_cons.mpr ⟨mq_ml0 rfl mw0_runAlone kw_644, (List.forall_mem_cons.mpr ⟨mq_ml0 rfl mw0_isLetGo kw_632, (List.forall_mem_cons.mpr ⟨mq_ml0 rfl mw0_isForGood kw_658, (List.forall_mem_cons.mpr ⟨mq_ml0 rfl mw0_startOf kw_648, (List.forall_mem_cons.mpr ⟨mq_ml0 rfl mw0_endTick kw_649, (fun _ h => absurd h List.not_mem_nil)⟩)⟩)⟩)⟩)⟩)⟩), (fun _ h => absurd h List.not_mem_nil), (fun _ h => absurd h List.not_mem_nil)⟩ (by decide +kernel) ⟨_, _, rfl⟩ ?_ ?_ ?_ ?_
  · intro as ρ μ h
    obtain ⟨nw, sp, tl, tx, al⟩ := ρ
    obtain ⟨as0, rfl, h0⟩ := mq_pZ_spec h
    clear h
    obtain ⟨c, as1, rfl, h1⟩ := mq_pI_spec h0
    clear h0
    obtain ⟨rfl, hp⟩ := mq_p0_spec h1
    clear h1
    rfl
  · intro as ρ μ h
    obtain ⟨nw, sp, tl, tx, al⟩ := ρ
    obtain ⟨as0, rfl, h0⟩ := mq_pZ_spec h
    clear h
    obtain ⟨c, as1, rfl, h1⟩ := mq_pI_spec h0
    clear h0
    obtain ⟨rfl, hp⟩ := mq_p0_spec h1
    clear h1
    intro hrg
    obtain ⟨⟨ha1a, ha1b⟩, -⟩ := hrg
    intro hbk
    have e0 : mq_l0 ([.inr (.inr (some (0, 0))), .inl c] : List mq_V) 2 = [some (.inr (.inr (some (0, 0)))), some (.inl c)] := rfl
    rw [e0]
    repeat' (first | refine And.intro ?_ ?_ | intro _)
    all_goals first | omega | rfl | exact trivial | (simp [mq_up] at * <;> omega)
  · intro as ρ μ h
    obtain ⟨nw, sp, tl, tx, al⟩ := ρ
    obtain ⟨as0, rfl, h0⟩ := mq_pZ_spec h
    clear h
    obtain ⟨c, as1, rfl, h1⟩ := mq_pI_spec h0
    clear h0
    obtain ⟨rfl, hp⟩ := mq_p0_spec h1
    clear h1
    exact fun _ h => absurd h List.not_mem_nil
  · intro as ρ μ h
    obtain ⟨nw, sp, tl, tx, al⟩ := ρ
    obtain ⟨as0, rfl, h0⟩ := mq_pZ_spec h
    clear h
    obtain ⟨c, as1, rfl, h1⟩ := mq_pI_spec h0
    clear h0
    obtain ⟨rfl, hp⟩ := mq_p0_spec h1
    clear h1
    intro hrg
    obtain ⟨⟨ha1a, ha1b⟩, -⟩ := hrg
    exact fun _ h => absurd h List.not_mem_nil
def pq_good : List mq_E := [(0, false, .aload 0), (1, false, .invokestatic 0), (4, false, .ifCond .ne (Int.ofNat 9)), (7, false, .iconst (-1)), (8, false, .ireturn), (9, false, .aload 0), (10, false, .invokestatic 1), (13, false, .aload 0), (14, false, .invokeinterface 10 12), (17, false, .invokestatic 2), (20, false, .aload 0), (21, false, .invokeinterface 10 12), (24, false, .invokestatic 3), (27, false, .invokestatic 4), (30, false, .ireturn)]
def cq_good : mq_C := ((yX10_good, cX10_good, 1, (some .int), { frames := 6, cells := 256, slots := 102656, locals := 146 }), (1, 1, 1, 16), 844162937126914, (fun as ρ μ => match ρ with
  | (nw, sp, tl, tx, al) => mq_pZ as 0 fun as => mq_p0 as (True)),
  (fun as ρ μ r ρ' μ' => match as, ρ, ρ' with
  | [.inr (.inr (some (_, _)))], (nw, sp, tl, tx, al), (nw', sp', tl', tx', al') => []
  | _, _, _ => []))
def kq_good : List mq_V → mq_R → mq_M → List mq_Cu := fun as ρ μ => match as, ρ with
  | [.inr (.inr (some (_, _)))], (nw, sp, tl, tx, al) => []
  | _, _ => []
set_option maxHeartbeats 16000000 in
set_option maxRecDepth 100000 in
theorem vq_good (lc : Launch) (h_hasLine : mq_Ct lc cq_hasLine) (h_prepareAll : mq_Ct lc cq_prepareAll) (h_runAll : mq_Ct lc cq_runAll) (h_inPlatforms : mq_Ct lc cq_inPlatforms) (h_bitCount : mq_Ct lc cq_bitCount) : mq_Ct lc cq_good := by
  refine mq_method (lc := lc) (P := pq_good) (cl := [cq_hasLine, cq_prepareAll, cq_runAll, cq_inPlatforms, cq_bitCount]) (T := ([(80, 10, 12)], [], [], [(131, 0, 0), (318, 1, 0), (321, 2, 0), (324, 3, 0), (328, 4, 1)], [], [])) (fuel := 400) (cuts := kq_good) (by decide) rfl ⟨rfl, rfl⟩ (List.forall_mem_cons.mpr ⟨h_hasLine, (List.forall_mem_cons.mpr ⟨h_prepareAll, (List.forall_mem_cons.mpr ⟨h_runAll, (List.forall_mem_cons.mpr ⟨h_inPlatforms, (List.forall_mem_cons.mpr ⟨h_bitCount, (fun _ h => absurd h List.not_mem_nil)⟩)⟩)⟩)⟩)⟩) ⟨(List.forall_mem_cons.mpr ⟨⟨_, rfl, by decide, kw_623⟩, (fun _ h => absurd h List.not_mem_nil)⟩), (fun _ h => absurd h List.not_mem_nil), (fun _ h => absurd h List.not_mem_nil), (List.forall_mem_cons.mpr ⟨mq_ml0 rfl mw0_hasLine kw_541, (List.forall_mem_cons.mpr ⟨mq_ml0 rfl mw0_prepareAll kw_662, (List.forall_mem_cons.mpr ⟨mq_ml0 rfl mw0_runAll kw_666, (List.forall_mem_cons.mpr ⟨mq_ml0 rfl mw0_inPlatforms kw_670, (List.forall_mem_cons.mpr ⟨mq_ml1 rfl mw1_bitCount kw_671, (fun _ h => absurd h List.not_mem_nil)⟩)⟩)⟩)⟩)⟩), (fun _ h => absurd h List.not_mem_nil), (fun _ h => absurd h List.not_mem_nil)⟩ (by decide +kernel) ⟨_, _, rfl⟩ ?_ ?_ ?_ ?_
  · intro as ρ μ h
    obtain ⟨nw, sp, tl, tx, al⟩ := ρ
    obtain ⟨as0, rfl, h0⟩ := mq_pZ_spec h
    clear h
    obtain ⟨rfl, hp⟩ := mq_p0_spec h0
    clear h0
    rfl
  · intro as ρ μ h
    obtain ⟨nw, sp, tl, tx, al⟩ := ρ
    obtain ⟨as0, rfl, h0⟩ := mq_pZ_spec h
    clear h
    obtain ⟨rfl, hp⟩ := mq_p0_spec h0
    clear h0
    intro hrg
    intro hbk
    have e0 : mq_l0 ([.inr (.inr (some (0, 0)))] : List mq_V) 1 = [some (.inr (.inr (some (0, 0))))] := rfl
    rw [e0]
    repeat' (first | refine And.intro ?_ ?_ | intro _)
    all_goals first | omega | rfl | exact trivial | (simp [mq_up] at * <;> omega)
  · intro as ρ μ h
    obtain ⟨nw, sp, tl, tx, al⟩ := ρ
    obtain ⟨as0, rfl, h0⟩ := mq_pZ_spec h
    clear h
    obtain ⟨rfl, hp⟩ := mq_p0_spec h0
    clear h0
    exact fun _ h => absurd h List.not_mem_nil
  · intro as ρ μ h
    obtain ⟨nw, sp, tl, tx, al⟩ := ρ
    obtain ⟨as0, rfl, h0⟩ := mq_pZ_spec h
    clear h
    obtain ⟨rfl, hp⟩ := mq_p0_spec h0
    clear h0
    intro hrg
    exact fun _ h => absurd h List.not_mem_nil
def pq_breach : List mq_E := [(0, false, .aload 0), (1, false, .invokestatic 0), (4, false, .ifCond .eq (Int.ofNat 16)), (7, false, .iload 1), (8, false, .iconst 0), (9, false, .iconst 2), (10, false, .invokestatic 1), (13, false, .ifCond .ne (Int.ofNat 19)), (16, false, .iconst (-2)), (18, false, .ireturn), (19, false, .aload 0), (20, false, .invokestatic 2), (23, false, .aload 0), (24, false, .invokeinterface 10 12), (27, false, .invokestatic 3), (30, false, .aload 0), (31, false, .invokeinterface 10 13), (34, false, .invokestatic 4), (37, false, .ifCond .ne (Int.ofNat 42)), (40, false, .iconst (-1)), (41, false, .ireturn), (42, false, .iload 1), (43, false, .ifCond .ne (Int.ofNat 54)), (46, false, .aload 0), (47, false, .invokeinterface 10 13), (50, false, .invokeinterface 0 9), (53, false, .ireturn), (54, false, .iload 1), (55, false, .iconst 1), (56, false, .if_icmp .ne (Int.ofNat 69)), (59, false, .aload 0), (60, false, .invokeinterface 10 13), (63, false, .invokeinterface 0 10), (66, false, .goto (Int.ofNat 76)), (69, false, .aload 0), (70, false, .invokeinterface 10 13), (73, false, .invokeinterface 0 11), (76, false, .ireturn)]
def cq_breach : mq_C := ((yX10_breach, cX10_breach, 2, (some .int), { frames := 6, cells := 256, slots := 102656, locals := 146 }), (2, 1, 1, 16), 71775857068212226, (fun as ρ μ => match ρ with
  | (nw, sp, tl, tx, al) => mq_pZ as 0 fun as => mq_pI as fun w as => mq_p0 as (True)),
  (fun as ρ μ r ρ' μ' => match as, ρ, ρ' with
  | [.inr (.inr (some (_, _))), .inl w], (nw, sp, tl, tx, al), (nw', sp', tl', tx', al') => []
  | _, _, _ => []))
def kq_breach : List mq_V → mq_R → mq_M → List mq_Cu := fun as ρ μ => match as, ρ with
  | [.inr (.inr (some (_, _))), .inl w], (nw, sp, tl, tx, al) => []
  | _, _ => []
set_option maxHeartbeats 16000000 in
set_option maxRecDepth 100000 in
theorem vq_breach (lc : Launch) (h_hasLine : mq_Ct lc cq_hasLine) (h_isAmong : mq_Ct lc cq_isAmong) (h_prepareAll : mq_Ct lc cq_prepareAll) (h_runAll : mq_Ct lc cq_runAll) (h_find : mq_Ct lc cq_find) : mq_Ct lc cq_breach := by
  refine mq_method (lc := lc) (P := pq_breach) (cl := [cq_hasLine, cq_isAmong, cq_prepareAll, cq_runAll, cq_find]) (T := ([(80, 10, 12), (89, 10, 13), (336, 0, 9), (339, 0, 10), (342, 0, 11)], [], [], [(131, 0, 0), (176, 1, 1), (318, 2, 0), (321, 3, 0), (333, 4, 0)], [], [])) (fuel := 400) (cuts := kq_breach) (by decide) rfl ⟨rfl, rfl⟩ (List.forall_mem_cons.mpr ⟨h_hasLine, (List.forall_mem_cons.mpr ⟨h_isAmong, (List.forall_mem_cons.mpr ⟨h_prepareAll, (List.forall_mem_cons.mpr ⟨h_runAll, (List.forall_mem_cons.mpr ⟨h_find, (fun _ h => absurd h List.not_mem_nil)⟩)⟩)⟩)⟩)⟩) ⟨(List.forall_mem_cons.mpr ⟨⟨_, rfl, by decide, kw_623⟩, (List.forall_mem_cons.mpr ⟨⟨_, rfl, by decide, kw_672⟩, (List.forall_mem_cons.mpr ⟨⟨_, rfl, by decide, kw_673⟩, (List.forall_mem_cons.mpr ⟨⟨_, rfl, by decide, kw_674⟩, (List.forall_mem_cons.mpr ⟨⟨_, rfl, by decide, kw_675⟩, (fun _ h => absurd h List.not_mem_nil)⟩)⟩)⟩)⟩)⟩), (fun _ h => absurd h List.not_mem_nil), (fun _ h => absurd h List.not_mem_nil), (List.forall_mem_cons.mpr ⟨mq_ml0 rfl mw0_hasLine kw_541, (List.forall_mem_cons.mpr ⟨mq_ml1 rfl mw1_isAmong kw_568, (List.forall_mem_cons.mpr ⟨mq_ml0 rfl mw0_prepareAll kw_662, (List.forall_mem_cons.mpr ⟨mq_ml0 rfl mw0_runAll kw_666, (List.forall_mem_cons.mpr ⟨mq_ml0 rfl mw0_find kw_679, (fun _ h => absurd h List.not_mem_nil)⟩)⟩)⟩)⟩)⟩), (fun _ h => absurd h List.not_mem_nil), (fun _ h => absurd h List.not_mem_nil)⟩ (by decide +kernel) ⟨_, _, rfl⟩ ?_ ?_ ?_ ?_
  · intro as ρ μ h
    obtain ⟨nw, sp, tl, tx, al⟩ := ρ
    obtain ⟨as0, rfl, h0⟩ := mq_pZ_spec h
    clear h
    obtain ⟨w, as1, rfl, h1⟩ := mq_pI_spec h0
    clear h0
    obtain ⟨rfl, hp⟩ := mq_p0_spec h1
    clear h1
    rfl
  · intro as ρ μ h
    obtain ⟨nw, sp, tl, tx, al⟩ := ρ
    obtain ⟨as0, rfl, h0⟩ := mq_pZ_spec h
    clear h
    obtain ⟨w, as1, rfl, h1⟩ := mq_pI_spec h0
    clear h0
    obtain ⟨rfl, hp⟩ := mq_p0_spec h1
    clear h1
    intro hrg
    obtain ⟨⟨ha1a, ha1b⟩, -⟩ := hrg
    intro hbk
    have e0 : mq_l0 ([.inr (.inr (some (0, 0))), .inl w] : List mq_V) 2 = [some (.inr (.inr (some (0, 0)))), some (.inl w)] := rfl
    rw [e0]
    repeat' (first | refine And.intro ?_ ?_ | intro _)
    all_goals first | omega | rfl | exact trivial | (simp [mq_up] at * <;> omega)
  · intro as ρ μ h
    obtain ⟨nw, sp, tl, tx, al⟩ := ρ
    obtain ⟨as0, rfl, h0⟩ := mq_pZ_spec h
    clear h
    obtain ⟨w, as1, rfl, h1⟩ := mq_pI_spec h0
    clear h0
    obtain ⟨rfl, hp⟩ := mq_p0_spec h1
    clear h1
    exact fun _ h => absurd h List.not_mem_nil
  · intro as ρ μ h
    obtain ⟨nw, sp, tl, tx, al⟩ := ρ
    obtain ⟨as0, rfl, h0⟩ := mq_pZ_spec h
    clear h
    obtain ⟨w, as1, rfl, h1⟩ := mq_pI_spec h0
    clear h0
    obtain ⟨rfl, hp⟩ := mq_p0_spec h1
    clear h1
    intro hrg
    obtain ⟨⟨ha1a, ha1b⟩, -⟩ := hrg
    exact fun _ h => absurd h List.not_mem_nil
def pq_leadsToBreach : List mq_E := [(0, false, .aload 0), (1, false, .invokeinterface 10 3), (4, false, .invokeinterface 3 8), (7, false, .iload 1), (8, false, .iconst 0), (9, false, .invokestatic 0), (12, false, .istore 4), (14, false, .aload 0), (15, false, .invokeinterface 10 12), (18, false, .iload 1), (19, false, .iload 2), (20, false, .iload 3), (21, false, .invokestatic 1), (24, false, .aload 0), (25, false, .invokeinterface 10 12), (28, false, .iload 4), (30, false, .invokestatic 2), (33, false, .aload 0), (34, false, .invokeinterface 10 13), (37, false, .invokestatic 3), (40, false, .istore 5), (42, false, .aload 0), (43, false, .invokeinterface 10 12), (46, false, .invokestatic 4), (49, false, .aload 0), (50, false, .invokeinterface 10 12), (53, false, .iload 4), (55, false, .invokestatic 2), (58, false, .iload 5), (60, false, .ireturn)]
def cq_leadsToBreach : mq_C := ((yX10_leadsToBreach, cX10_leadsToBreach, 6, (some .boolean), { frames := 5, cells := 0, slots := 0, locals := 120 }), (4, 1, 0, 0), 72057456598974464, (fun as ρ μ => match ρ with
  | (nw, sp, tl, tx, al) => mq_pZ as 0 fun as => mq_pI as fun c as => mq_pI as fun s as => mq_pI as fun n as => mq_p0 as (True)),
  (fun as ρ μ r ρ' μ' => match as, ρ, ρ' with
  | [.inr (.inr (some (_, _))), .inl c, .inl s, .inl n], (nw, sp, tl, tx, al), (nw', sp', tl', tx', al') => [0 ≤ r, r ≤ 1]
  | _, _, _ => []))
def kq_leadsToBreach : List mq_V → mq_R → mq_M → List mq_Cu := fun as ρ μ => match as, ρ with
  | [.inr (.inr (some (_, _))), .inl c, .inl s, .inl n], (nw, sp, tl, tx, al) => []
  | _, _ => []
set_option maxHeartbeats 16000000 in
set_option maxRecDepth 100000 in
theorem vq_leadsToBreach (lc : Launch) (h_get_coaches : mq_Ct lc cq_get_coaches) (h_err : mq_Ct lc cq_err) (h_runWhole : mq_Ct lc cq_runWhole) (h_find : mq_Ct lc cq_find) (h_errNot : mq_Ct lc cq_errNot) : mq_Ct lc cq_leadsToBreach := by
  refine mq_method (lc := lc) (P := pq_leadsToBreach) (cl := [cq_get_coaches, cq_err, cq_runWhole, cq_find, cq_errNot]) (T := ([(27, 10, 3), (173, 3, 8), (80, 10, 12), (89, 10, 13)], [], [], [(179, 0, 0), (348, 1, 0), (351, 2, 0), (333, 3, 0), (354, 4, 0)], [], [])) (fuel := 400) (cuts := kq_leadsToBreach) (by decide) rfl ⟨rfl, rfl⟩ (List.forall_mem_cons.mpr ⟨h_get_coaches, (List.forall_mem_cons.mpr ⟨h_err, (List.forall_mem_cons.mpr ⟨h_runWhole, (List.forall_mem_cons.mpr ⟨h_find, (List.forall_mem_cons.mpr ⟨h_errNot, (fun _ h => absurd h List.not_mem_nil)⟩)⟩)⟩)⟩)⟩) ⟨(List.forall_mem_cons.mpr ⟨⟨_, rfl, by decide, kw_514⟩, (List.forall_mem_cons.mpr ⟨⟨_, rfl, by decide, kw_567⟩, (List.forall_mem_cons.mpr ⟨⟨_, rfl, by decide, kw_623⟩, (List.forall_mem_cons.mpr ⟨⟨_, rfl, by decide, kw_672⟩, (fun _ h => absurd h List.not_mem_nil)⟩)⟩)⟩)⟩), (fun _ h => absurd h List.not_mem_nil), (fun _ h => absurd h List.not_mem_nil), (List.forall_mem_cons.mpr ⟨mq_ml0 rfl mw0_get_coaches kw_569, (List.forall_mem_cons.mpr ⟨mq_ml0 rfl mw0_err kw_683, (List.forall_mem_cons.mpr ⟨mq_ml0 rfl mw0_runWhole kw_684, (List.forall_mem_cons.mpr ⟨mq_ml0 rfl mw0_find kw_679, (List.forall_mem_cons.mpr ⟨mq_ml0 rfl mw0_errNot kw_688, (fun _ h => absurd h List.not_mem_nil)⟩)⟩)⟩)⟩)⟩), (fun _ h => absurd h List.not_mem_nil), (fun _ h => absurd h List.not_mem_nil)⟩ (by decide +kernel) ⟨_, _, rfl⟩ ?_ ?_ ?_ ?_
  · intro as ρ μ h
    obtain ⟨nw, sp, tl, tx, al⟩ := ρ
    obtain ⟨as0, rfl, h0⟩ := mq_pZ_spec h
    clear h
    obtain ⟨c, as1, rfl, h1⟩ := mq_pI_spec h0
    clear h0
    obtain ⟨s, as2, rfl, h2⟩ := mq_pI_spec h1
    clear h1
    obtain ⟨n, as3, rfl, h3⟩ := mq_pI_spec h2
    clear h2
    obtain ⟨rfl, hp⟩ := mq_p0_spec h3
    clear h3
    rfl
  · intro as ρ μ h
    obtain ⟨nw, sp, tl, tx, al⟩ := ρ
    obtain ⟨as0, rfl, h0⟩ := mq_pZ_spec h
    clear h
    obtain ⟨c, as1, rfl, h1⟩ := mq_pI_spec h0
    clear h0
    obtain ⟨s, as2, rfl, h2⟩ := mq_pI_spec h1
    clear h1
    obtain ⟨n, as3, rfl, h3⟩ := mq_pI_spec h2
    clear h2
    obtain ⟨rfl, hp⟩ := mq_p0_spec h3
    clear h3
    intro hrg
    obtain ⟨⟨ha1a, ha1b⟩, ⟨ha2a, ha2b⟩, ⟨ha3a, ha3b⟩, -⟩ := hrg
    intro hbk
    have e0 : mq_l0 ([.inr (.inr (some (0, 0))), .inl c, .inl s, .inl n] : List mq_V) 6 = [some (.inr (.inr (some (0, 0)))), some (.inl c), some (.inl s), some (.inl n), none, none] := rfl
    rw [e0]
    repeat' (first | refine And.intro ?_ ?_ | intro _)
    all_goals first | omega | rfl | exact trivial | (simp [mq_up] at * <;> omega)
  · intro as ρ μ h
    obtain ⟨nw, sp, tl, tx, al⟩ := ρ
    obtain ⟨as0, rfl, h0⟩ := mq_pZ_spec h
    clear h
    obtain ⟨c, as1, rfl, h1⟩ := mq_pI_spec h0
    clear h0
    obtain ⟨s, as2, rfl, h2⟩ := mq_pI_spec h1
    clear h1
    obtain ⟨n, as3, rfl, h3⟩ := mq_pI_spec h2
    clear h2
    obtain ⟨rfl, hp⟩ := mq_p0_spec h3
    clear h3
    exact fun _ h => absurd h List.not_mem_nil
  · intro as ρ μ h
    obtain ⟨nw, sp, tl, tx, al⟩ := ρ
    obtain ⟨as0, rfl, h0⟩ := mq_pZ_spec h
    clear h
    obtain ⟨c, as1, rfl, h1⟩ := mq_pI_spec h0
    clear h0
    obtain ⟨s, as2, rfl, h2⟩ := mq_pI_spec h1
    clear h1
    obtain ⟨n, as3, rfl, h3⟩ := mq_pI_spec h2
    clear h2
    obtain ⟨rfl, hp⟩ := mq_p0_spec h3
    clear h3
    intro hrg
    obtain ⟨⟨ha1a, ha1b⟩, ⟨ha2a, ha2b⟩, ⟨ha3a, ha3b⟩, -⟩ := hrg
    exact fun _ h => absurd h List.not_mem_nil
theorem mw0_leadsToBreach : mq_mlA cq_leadsToBreach 0 := ⟨kw_689, ⟨by decide +kernel, by decide +kernel⟩, by decide +kernel, kw_690, kw_691, kw_95, 0, by decide +kernel, fun as ρ μ h => by obtain ⟨nw, sp, tl, tx, al⟩ := ρ; obtain ⟨t, e, _⟩ := mq_pZ_spec h; exact ⟨0, t, e⟩⟩
def pq_mistake : List mq_E := [(0, false, .aload 0), (1, false, .invokestatic 0), (4, false, .ifCond .eq (Int.ofNat 26)), (7, false, .iload 1), (8, false, .iconst 0), (9, false, .iconst 2), (10, false, .invokestatic 1), (13, false, .ifCond .eq (Int.ofNat 26)), (16, false, .iload 2), (17, false, .iconst 0), (18, false, .iconst 99), (20, false, .invokestatic 1), (23, false, .ifCond .ne (Int.ofNat 29)), (26, false, .iconst (-2)), (28, false, .ireturn), (29, false, .aload 0), (30, false, .invokestatic 2), (33, false, .aload 0), (34, false, .invokeinterface 10 12), (37, false, .invokestatic 3), (40, false, .iconst 0), (41, false, .istore 3), (42, true, .iload 3), (43, false, .aload 0), (44, false, .invokeinterface 10 3), (47, false, .invokeinterface 3 8), (50, false, .invokeinterface 6 3), (53, false, .if_icmp .ge (Int.ofNat 74)), (56, false, .aload 0), (57, false, .iload 3), (58, false, .iload 1), (59, false, .iload 2), (60, false, .invokestatic 4), (63, false, .ifCond .eq (Int.ofNat 68)), (66, false, .iload 3), (67, false, .ireturn), (68, false, .iinc 3 1), (71, false, .goto (Int.ofNat 42)), (74, false, .iconst (-1)), (75, false, .ireturn)]
def cq_mistake : mq_C := ((yX10_mistake, cX10_mistake, 4, (some .int), { frames := 6, cells := 256, slots := 102656, locals := 146 }), (3, 1, 1, 16), 72057469483876354, (fun as ρ μ => match ρ with
  | (nw, sp, tl, tx, al) => mq_pZ as 0 fun as => mq_pI as fun s as => mq_pI as fun n as => mq_p0 as (True)),
  (fun as ρ μ r ρ' μ' => match as, ρ, ρ' with
  | [.inr (.inr (some (_, _))), .inl s, .inl n], (nw, sp, tl, tx, al), (nw', sp', tl', tx', al') => []
  | _, _, _ => []))
def kq_mistake : List mq_V → mq_R → mq_M → List mq_Cu := fun as ρ μ => match as, ρ with
  | [.inr (.inr (some (_, _))), .inl s, .inl n], (nw, sp, tl, tx, al) => [(42, [true, true, true, true], fun N l st ρ' μ' cs => mq_tZ l 0 fun l => mq_tI l fun v1 l => mq_tI l fun v2 l => mq_tI l fun v3 l => mq_t0 l (st = [] ∧ (ρ'.1 = nw ∧ ρ'.2.1 = sp ∧ ρ'.2.2.1 = tl ∧ ρ'.2.2.2.1 = tx) ∧ cs = 16 ∧ v1 = s ∧ v2 = n ∧ 0 ≤ v3 ∧ v3 ≤ 16 ∧ 0 ≤ (16 - v3 : Int) ∧ (16 - v3 : Int) < (N : Int)))]
  | _, _ => []
set_option maxHeartbeats 16000000 in
set_option maxRecDepth 100000 in
theorem vq_mistake (lc : Launch) (h_hasLine : mq_Ct lc cq_hasLine) (h_isAmong : mq_Ct lc cq_isAmong) (h_prepareAll : mq_Ct lc cq_prepareAll) (h_runAll : mq_Ct lc cq_runAll) (h_leadsToBreach : mq_Ct lc cq_leadsToBreach) : mq_Ct lc cq_mistake := by
  refine mq_method (lc := lc) (P := pq_mistake) (cl := [cq_hasLine, cq_isAmong, cq_prepareAll, cq_runAll, cq_leadsToBreach]) (T := ([(80, 10, 12), (27, 10, 3), (173, 3, 8), (283, 6, 3)], [], [], [(131, 0, 0), (176, 1, 1), (318, 2, 0), (321, 3, 0), (345, 4, 0)], [], [])) (fuel := 400) (cuts := kq_mistake) (by decide) rfl ⟨rfl, rfl⟩ (List.forall_mem_cons.mpr ⟨h_hasLine, (List.forall_mem_cons.mpr ⟨h_isAmong, (List.forall_mem_cons.mpr ⟨h_prepareAll, (List.forall_mem_cons.mpr ⟨h_runAll, (List.forall_mem_cons.mpr ⟨h_leadsToBreach, (fun _ h => absurd h List.not_mem_nil)⟩)⟩)⟩)⟩)⟩) ⟨(List.forall_mem_cons.mpr ⟨⟨_, rfl, by decide, kw_623⟩, (List.forall_mem_cons.mpr ⟨⟨_, rfl, by decide, kw_514⟩, (List.forall_mem_cons.mpr ⟨⟨_, rfl, by decide, kw_567⟩, (List.forall_mem_cons.mpr ⟨⟨_, rfl, by decide, kw_633⟩, (fun _ h => absurd h List.not_mem_nil)⟩)⟩)⟩)⟩), (fun _ h => absurd h List.not_mem_nil), (fun _ h => absurd h List.not_mem_nil), (List.forall_mem_cons.mpr ⟨mq_ml0 rfl mw0_hasLine kw_541, (List.forall_mem_cons.mpr ⟨mq_ml1 rfl mw1_isAmong kw_568, (List.forall_mem_cons.mpr ⟨mq_ml0 rfl mw0_prepareAll kw_662, (List.forall_mem_cons.mpr ⟨mq_ml0 rfl mw0_runAll kw_666, (List.forall_mem_cons.mpr ⟨mq_ml0 rfl mw0_leadsToBreach kw_692, (fun _ h => absurd h List.not_mem_nil)⟩)⟩)⟩)⟩)⟩), (fun _ h => absurd h List.not_mem_nil), (fun _ h => absurd h List.not_mem_nil)⟩ (by decide +kernel) ⟨_, _, rfl⟩ ?_ ?_ ?_ ?_
  · intro as ρ μ h
    obtain ⟨nw, sp, tl, tx, al⟩ := ρ
    obtain ⟨as0, rfl, h0⟩ := mq_pZ_spec h
    clear h
    obtain ⟨s, as1, rfl, h1⟩ := mq_pI_spec h0
    clear h0
    obtain ⟨n, as2, rfl, h2⟩ := mq_pI_spec h1
    clear h1
    obtain ⟨rfl, hp⟩ := mq_p0_spec h2
    clear h2
    rfl
  · intro as ρ μ h
    obtain ⟨nw, sp, tl, tx, al⟩ := ρ
    obtain ⟨as0, rfl, h0⟩ := mq_pZ_spec h
    clear h
    obtain ⟨s, as1, rfl, h1⟩ := mq_pI_spec h0
    clear h0
    obtain ⟨n, as2, rfl, h2⟩ := mq_pI_spec h1
    clear h1
    obtain ⟨rfl, hp⟩ := mq_p0_spec h2
    clear h2
    intro hrg
    obtain ⟨⟨ha1a, ha1b⟩, ⟨ha2a, ha2b⟩, -⟩ := hrg
    intro hbk
    have e0 : mq_l0 ([.inr (.inr (some (0, 0))), .inl s, .inl n] : List mq_V) 4 = [some (.inr (.inr (some (0, 0)))), some (.inl s), some (.inl n), none] := rfl
    rw [e0]
    repeat' (first | refine And.intro ?_ ?_ | intro _)
    all_goals first | omega | rfl | exact trivial | (simp [mq_up] at * <;> omega)
  · intro as ρ μ h
    obtain ⟨nw, sp, tl, tx, al⟩ := ρ
    obtain ⟨as0, rfl, h0⟩ := mq_pZ_spec h
    clear h
    obtain ⟨s, as1, rfl, h1⟩ := mq_pI_spec h0
    clear h0
    obtain ⟨n, as2, rfl, h2⟩ := mq_pI_spec h1
    clear h1
    obtain ⟨rfl, hp⟩ := mq_p0_spec h2
    clear h2
    refine List.forall_mem_cons.mpr ⟨?_, ?_⟩
    · intro l st ρ' μ' cs hJ
      obtain ⟨nw2, sp2, tl2, tx2, al2⟩ := ρ'
      obtain ⟨l0, rfl, hJ0⟩ := mq_tZ_spec hJ
      clear hJ
      obtain ⟨v1, l1, rfl, hJ1⟩ := mq_tI_spec hJ0
      clear hJ0
      obtain ⟨v2, l2, rfl, hJ2⟩ := mq_tI_spec hJ1
      clear hJ1
      obtain ⟨v3, l3, rfl, hJ3⟩ := mq_tI_spec hJ2
      clear hJ2
      obtain ⟨rfl, hJz⟩ := mq_t0_spec hJ3
      clear hJ3
      obtain ⟨rfl, ⟨e1, e2, e3, e4⟩, rfl, hc0, hc1, hc2, hc3, hm0, hm1⟩ := hJz
      dsimp only at e1 e2 e3 e4
      subst e1 e2 e3 e4
      omega
    exact fun _ h => absurd h List.not_mem_nil
  · intro as ρ μ h
    obtain ⟨nw, sp, tl, tx, al⟩ := ρ
    obtain ⟨as0, rfl, h0⟩ := mq_pZ_spec h
    clear h
    obtain ⟨s, as1, rfl, h1⟩ := mq_pI_spec h0
    clear h0
    obtain ⟨n, as2, rfl, h2⟩ := mq_pI_spec h1
    clear h1
    obtain ⟨rfl, hp⟩ := mq_p0_spec h2
    clear h2
    intro hrg
    obtain ⟨⟨ha1a, ha1b⟩, ⟨ha2a, ha2b⟩, -⟩ := hrg
    refine List.forall_mem_cons.mpr ⟨?_, ?_⟩
    · intro N l st ρ' μ' cs hJ
      obtain ⟨nw2, sp2, tl2, tx2, al2⟩ := ρ'
      obtain ⟨l0, rfl, hJ0⟩ := mq_tZ_spec hJ
      clear hJ
      obtain ⟨v1, l1, rfl, hJ1⟩ := mq_tI_spec hJ0
      clear hJ0
      obtain ⟨v2, l2, rfl, hJ2⟩ := mq_tI_spec hJ1
      clear hJ1
      obtain ⟨v3, l3, rfl, hJ3⟩ := mq_tI_spec hJ2
      clear hJ2
      obtain ⟨rfl, hJz⟩ := mq_t0_spec hJ3
      clear hJ3
      obtain ⟨rfl, ⟨e1, e2, e3, e4⟩, rfl, hc0, hc1, hc2, hc3, hm0, hm1⟩ := hJz
      dsimp only at e1 e2 e3 e4
      subst e1 e2 e3 e4
      intro hbk hrl
      obtain ⟨⟨hl1a, hl1b⟩, ⟨hl2a, hl2b⟩, ⟨hl3a, hl3b⟩, -⟩ := hrl
      repeat' (first | refine And.intro ?_ ?_ | intro _)
      all_goals first | omega | rfl | exact trivial | (simp [mq_up] at * <;> omega)
    exact fun _ h => absurd h List.not_mem_nil
def pq_weak : List mq_E := [(0, false, .aload 0), (1, false, .invokestatic 0), (4, false, .ifCond .eq (Int.ofNat 17)), (7, false, .iload 1), (8, false, .iconst 0), (9, false, .iconst 99), (11, false, .invokestatic 1), (14, false, .ifCond .ne (Int.ofNat 20)), (17, false, .iconst (-2)), (19, false, .ireturn), (20, false, .aload 0), (21, false, .invokestatic 2), (24, false, .aload 0), (25, false, .invokeinterface 10 12), (28, false, .invokestatic 3), (31, false, .iconst 0), (32, false, .istore 2), (33, false, .iconst 0), (34, false, .istore 3), (35, true, .iload 3), (36, false, .aload 0), (37, false, .invokeinterface 10 3), (40, false, .invokeinterface 3 8), (43, false, .invokeinterface 6 3), (46, false, .if_icmp .ge (Int.ofNat 84)), (49, false, .iconst 0), (50, false, .istore 4), (52, true, .iload 4), (54, false, .iconst 3), (55, false, .if_icmp .ge (Int.ofNat 78)), (58, false, .aload 0), (59, false, .iload 3), (60, false, .iload 4), (62, false, .iload 1), (63, false, .invokestatic 4), (66, false, .ifCond .eq (Int.ofNat 72)), (69, false, .iinc 2 1), (72, false, .iinc 4 1), (75, false, .goto (Int.ofNat 52)), (78, false, .iinc 3 1), (81, false, .goto (Int.ofNat 35)), (84, false, .iload 2), (85, false, .ireturn)]
def cq_weak : mq_C := ((yX10_weak, cX10_weak, 5, (some .int), { frames := 6, cells := 256, slots := 102656, locals := 146 }), (2, 1, 1, 16), 72057469483876354, (fun as ρ μ => match ρ with
  | (nw, sp, tl, tx, al) => mq_pZ as 0 fun as => mq_pI as fun n as => mq_p0 as (True)),
  (fun as ρ μ r ρ' μ' => match as, ρ, ρ' with
  | [.inr (.inr (some (_, _))), .inl n], (nw, sp, tl, tx, al), (nw', sp', tl', tx', al') => []
  | _, _, _ => []))
def kq_weak : List mq_V → mq_R → mq_M → List mq_Cu := fun as ρ μ => match as, ρ with
  | [.inr (.inr (some (_, _))), .inl n], (nw, sp, tl, tx, al) => [(35, [true, true, true, true, false], fun N l st ρ' μ' cs => mq_tZ l 0 fun l => mq_tI l fun v1 l => mq_tI l fun v2 l => mq_tI l fun v3 l => mq_tN l fun l => mq_t0 l (st = [] ∧ (ρ'.1 = nw ∧ ρ'.2.1 = sp ∧ ρ'.2.2.1 = tl ∧ ρ'.2.2.2.1 = tx) ∧ cs = 16 ∧ v1 = n ∧ 0 ≤ v3 ∧ v3 ≤ 16 ∧ 0 ≤ v2 ∧ v2 ≤ 3 * v3 ∧ 0 ≤ (10 * (16 - v3) : Int) ∧ (10 * (16 - v3) : Int) < (N : Int))),
    (52, [true, true, true, true, true], fun N l st ρ' μ' cs => mq_tZ l 0 fun l => mq_tI l fun v1 l => mq_tI l fun v2 l => mq_tI l fun v3 l => mq_tI l fun v4 l => mq_t0 l (st = [] ∧ (ρ'.1 = nw ∧ ρ'.2.1 = sp ∧ ρ'.2.2.1 = tl ∧ ρ'.2.2.2.1 = tx) ∧ cs = 16 ∧ v1 = n ∧ 0 ≤ v3 ∧ v3 ≤ 15 ∧ 0 ≤ v4 ∧ v4 ≤ 3 ∧ 0 ≤ v2 ∧ v2 ≤ 3 * v3 + v4 ∧ 0 ≤ (10 * (16 - v3) - 1 - v4 : Int) ∧ (10 * (16 - v3) - 1 - v4 : Int) < (N : Int)))]
  | _, _ => []
set_option maxHeartbeats 16000000 in
set_option maxRecDepth 100000 in
theorem vq_weak (lc : Launch) (h_hasLine : mq_Ct lc cq_hasLine) (h_isAmong : mq_Ct lc cq_isAmong) (h_prepareAll : mq_Ct lc cq_prepareAll) (h_runAll : mq_Ct lc cq_runAll) (h_leadsToBreach : mq_Ct lc cq_leadsToBreach) : mq_Ct lc cq_weak := by
  refine mq_method (lc := lc) (P := pq_weak) (cl := [cq_hasLine, cq_isAmong, cq_prepareAll, cq_runAll, cq_leadsToBreach]) (T := ([(80, 10, 12), (27, 10, 3), (173, 3, 8), (283, 6, 3)], [], [], [(131, 0, 0), (176, 1, 1), (318, 2, 0), (321, 3, 0), (345, 4, 0)], [], [])) (fuel := 400) (cuts := kq_weak) (by decide) rfl ⟨rfl, rfl⟩ (List.forall_mem_cons.mpr ⟨h_hasLine, (List.forall_mem_cons.mpr ⟨h_isAmong, (List.forall_mem_cons.mpr ⟨h_prepareAll, (List.forall_mem_cons.mpr ⟨h_runAll, (List.forall_mem_cons.mpr ⟨h_leadsToBreach, (fun _ h => absurd h List.not_mem_nil)⟩)⟩)⟩)⟩)⟩) ⟨(List.forall_mem_cons.mpr ⟨⟨_, rfl, by decide, kw_623⟩, (List.forall_mem_cons.mpr ⟨⟨_, rfl, by decide, kw_514⟩, (List.forall_mem_cons.mpr ⟨⟨_, rfl, by decide, kw_567⟩, (List.forall_mem_cons.mpr ⟨⟨_, rfl, by decide, kw_633⟩, (fun _ h => absurd h List.not_mem_nil)⟩)⟩)⟩)⟩), (fun _ h => absurd h List.not_mem_nil), (fun _ h => absurd h List.not_mem_nil), (List.forall_mem_cons.mpr ⟨mq_ml0 rfl mw0_hasLine kw_541, (List.forall_mem_cons.mpr ⟨mq_ml1 rfl mw1_isAmong kw_568, (List.forall_mem_cons.mpr ⟨mq_ml0 rfl mw0_prepareAll kw_662, (List.forall_mem_cons.mpr ⟨mq_ml0 rfl mw0_runAll kw_666, (List.forall_mem_cons.mpr ⟨mq_ml0 rfl mw0_leadsToBreach kw_692, (fun _ h => absurd h List.not_mem_nil)⟩)⟩)⟩)⟩)⟩), (fun _ h => absurd h List.not_mem_nil), (fun _ h => absurd h List.not_mem_nil)⟩ (by decide +kernel) ⟨_, _, rfl⟩ ?_ ?_ ?_ ?_
  · intro as ρ μ h
    obtain ⟨nw, sp, tl, tx, al⟩ := ρ
    obtain ⟨as0, rfl, h0⟩ := mq_pZ_spec h
    clear h
    obtain ⟨n, as1, rfl, h1⟩ := mq_pI_spec h0
    clear h0
    obtain ⟨rfl, hp⟩ := mq_p0_spec h1
    clear h1
    rfl
  · intro as ρ μ h
    obtain ⟨nw, sp, tl, tx, al⟩ := ρ
    obtain ⟨as0, rfl, h0⟩ := mq_pZ_spec h
    clear h
    obtain ⟨n, as1, rfl, h1⟩ := mq_pI_spec h0
    clear h0
    obtain ⟨rfl, hp⟩ := mq_p0_spec h1
    clear h1
    intro hrg
    obtain ⟨⟨ha1a, ha1b⟩, -⟩ := hrg
    intro hbk
    have e0 : mq_l0 ([.inr (.inr (some (0, 0))), .inl n] : List mq_V) 5 = [some (.inr (.inr (some (0, 0)))), some (.inl n), none, none, none] := rfl
    rw [e0]
    repeat' (first | refine And.intro ?_ ?_ | intro _)
    all_goals first | omega | rfl | exact trivial | (simp [mq_up] at * <;> omega)
  · intro as ρ μ h
    obtain ⟨nw, sp, tl, tx, al⟩ := ρ
    obtain ⟨as0, rfl, h0⟩ := mq_pZ_spec h
    clear h
    obtain ⟨n, as1, rfl, h1⟩ := mq_pI_spec h0
    clear h0
    obtain ⟨rfl, hp⟩ := mq_p0_spec h1
    clear h1
    refine List.forall_mem_cons.mpr ⟨?_, ?_⟩
    · intro l st ρ' μ' cs hJ
      obtain ⟨nw2, sp2, tl2, tx2, al2⟩ := ρ'
      obtain ⟨l0, rfl, hJ0⟩ := mq_tZ_spec hJ
      clear hJ
      obtain ⟨v1, l1, rfl, hJ1⟩ := mq_tI_spec hJ0
      clear hJ0
      obtain ⟨v2, l2, rfl, hJ2⟩ := mq_tI_spec hJ1
      clear hJ1
      obtain ⟨v3, l3, rfl, hJ3⟩ := mq_tI_spec hJ2
      clear hJ2
      obtain ⟨l4, rfl, hJ4⟩ := mq_tN_spec hJ3
      clear hJ3
      obtain ⟨rfl, hJz⟩ := mq_t0_spec hJ4
      clear hJ4
      obtain ⟨rfl, ⟨e1, e2, e3, e4⟩, rfl, hc0, hc1, hc2, hc3, hc4, hm0, hm1⟩ := hJz
      dsimp only at e1 e2 e3 e4
      subst e1 e2 e3 e4
      omega
    refine List.forall_mem_cons.mpr ⟨?_, ?_⟩
    · intro l st ρ' μ' cs hJ
      obtain ⟨nw2, sp2, tl2, tx2, al2⟩ := ρ'
      obtain ⟨l0, rfl, hJ0⟩ := mq_tZ_spec hJ
      clear hJ
      obtain ⟨v1, l1, rfl, hJ1⟩ := mq_tI_spec hJ0
      clear hJ0
      obtain ⟨v2, l2, rfl, hJ2⟩ := mq_tI_spec hJ1
      clear hJ1
      obtain ⟨v3, l3, rfl, hJ3⟩ := mq_tI_spec hJ2
      clear hJ2
      obtain ⟨v4, l4, rfl, hJ4⟩ := mq_tI_spec hJ3
      clear hJ3
      obtain ⟨rfl, hJz⟩ := mq_t0_spec hJ4
      clear hJ4
      obtain ⟨rfl, ⟨e1, e2, e3, e4⟩, rfl, hc0, hc1, hc2, hc3, hc4, hc5, hc6, hm0, hm1⟩ := hJz
      dsimp only at e1 e2 e3 e4
      subst e1 e2 e3 e4
      omega
    exact fun _ h => absurd h List.not_mem_nil
  · intro as ρ μ h
    obtain ⟨nw, sp, tl, tx, al⟩ := ρ
    obtain ⟨as0, rfl, h0⟩ := mq_pZ_spec h
    clear h
    obtain ⟨n, as1, rfl, h1⟩ := mq_pI_spec h0
    clear h0
    obtain ⟨rfl, hp⟩ := mq_p0_spec h1
    clear h1
    intro hrg
    obtain ⟨⟨ha1a, ha1b⟩, -⟩ := hrg
    refine List.forall_mem_cons.mpr ⟨?_, ?_⟩
    · intro N l st ρ' μ' cs hJ
      obtain ⟨nw2, sp2, tl2, tx2, al2⟩ := ρ'
      obtain ⟨l0, rfl, hJ0⟩ := mq_tZ_spec hJ
      clear hJ
      obtain ⟨v1, l1, rfl, hJ1⟩ := mq_tI_spec hJ0
      clear hJ0
      obtain ⟨v2, l2, rfl, hJ2⟩ := mq_tI_spec hJ1
      clear hJ1
      obtain ⟨v3, l3, rfl, hJ3⟩ := mq_tI_spec hJ2
      clear hJ2
      obtain ⟨l4, rfl, hJ4⟩ := mq_tN_spec hJ3
      clear hJ3
      obtain ⟨rfl, hJz⟩ := mq_t0_spec hJ4
      clear hJ4
      obtain ⟨rfl, ⟨e1, e2, e3, e4⟩, rfl, hc0, hc1, hc2, hc3, hc4, hm0, hm1⟩ := hJz
      dsimp only at e1 e2 e3 e4
      subst e1 e2 e3 e4
      intro hbk hrl
      obtain ⟨⟨hl1a, hl1b⟩, ⟨hl2a, hl2b⟩, ⟨hl3a, hl3b⟩, -⟩ := hrl
      repeat' (first | refine And.intro ?_ ?_ | intro _)
      all_goals first | omega | rfl | exact trivial | (simp [mq_up] at * <;> omega)
    refine List.forall_mem_cons.mpr ⟨?_, ?_⟩
    · intro N l st ρ' μ' cs hJ
      obtain ⟨nw2, sp2, tl2, tx2, al2⟩ := ρ'
      obtain ⟨l0, rfl, hJ0⟩ := mq_tZ_spec hJ
      clear hJ
      obtain ⟨v1, l1, rfl, hJ1⟩ := mq_tI_spec hJ0
      clear hJ0
      obtain ⟨v2, l2, rfl, hJ2⟩ := mq_tI_spec hJ1
      clear hJ1
      obtain ⟨v3, l3, rfl, hJ3⟩ := mq_tI_spec hJ2
      clear hJ2
      obtain ⟨v4, l4, rfl, hJ4⟩ := mq_tI_spec hJ3
      clear hJ3
      obtain ⟨rfl, hJz⟩ := mq_t0_spec hJ4
      clear hJ4
      obtain ⟨rfl, ⟨e1, e2, e3, e4⟩, rfl, hc0, hc1, hc2, hc3, hc4, hc5, hc6, hm0, hm1⟩ := hJz
      dsimp only at e1 e2 e3 e4
      subst e1 e2 e3 e4
      intro hbk hrl
      obtain ⟨⟨hl1a, hl1b⟩, ⟨hl2a, hl2b⟩, ⟨hl3a, hl3b⟩, ⟨hl4a, hl4b⟩, -⟩ := hrl
      repeat' (first | refine And.intro ?_ ?_ | intro _)
      all_goals first | omega | rfl | exact trivial | (simp [mq_up] at * <;> omega)
    exact fun _ h => absurd h List.not_mem_nil
def pq_start : List mq_E := [(0, false, .aload 0), (1, false, .invokeinterface 10 3), (4, false, .invokeinterface 3 7), (7, false, .iload 1), (8, false, .invokestatic 0), (11, false, .ifCond .ne (Int.ofNat 17)), (14, false, .iconst (-2)), (16, false, .ireturn), (17, false, .aload 0), (18, false, .invokestatic 1), (21, false, .aload 0), (22, false, .invokeinterface 10 12), (25, false, .invokestatic 2), (28, false, .aload 0), (29, false, .invokeinterface 10 3), (32, false, .invokeinterface 3 7), (35, false, .iload 1), (36, false, .iconst 0), (37, false, .invokestatic 3), (40, false, .istore 2), (41, false, .iconst (-1)), (42, false, .istore 3), (43, false, .iconst 0), (44, false, .istore 4), (46, false, .iconst 0), (47, false, .istore 5), (49, true, .iload 5), (51, false, .iconst 300), (54, false, .if_icmp .gt (Int.ofNat 121)), (57, false, .iload 3), (58, false, .iconst (-1)), (59, false, .if_icmp .ne (Int.ofNat 121)), (62, false, .iload 4), (64, false, .ifCond .ne (Int.ofNat 121)), (67, false, .aload 0), (68, false, .invokeinterface 10 3), (71, false, .invokeinterface 3 7), (74, false, .iload 1), (75, false, .iconst 0), (76, false, .iload 5), (78, false, .invokestatic 4), (81, false, .aload 0), (82, false, .invokeinterface 10 13), (85, false, .invokestatic 5), (88, false, .ifCond .eq (Int.ofNat 112)), (91, false, .aload 0), (92, false, .invokeinterface 10 13), (95, false, .iload 1), (96, false, .invokestatic 6), (99, false, .ifCond .ne (Int.ofNat 106)), (102, false, .iconst 1), (103, false, .goto (Int.ofNat 107)), (106, false, .iconst 0), (107, false, .istore 4), (109, false, .goto (Int.ofNat 115)), (112, false, .iload 5), (114, false, .istore 3), (115, false, .iinc 5 1), (118, false, .goto (Int.ofNat 49)), (121, false, .aload 0), (122, false, .invokeinterface 10 3), (125, false, .invokeinterface 3 7), (128, false, .iload 1), (129, false, .iconst 0), (130, false, .iload 2), (131, false, .invokestatic 4), (134, false, .iload 3), (135, false, .ireturn)]
def cq_start : mq_C := ((yX10_start, cX10_start, 6, (some .int), { frames := 6, cells := 256, slots := 102656, locals := 146 }), (2, 1, 1, 16), 71775857068244994, (fun as ρ μ => match ρ with
  | (nw, sp, tl, tx, al) => mq_pZ as 0 fun as => mq_pI as fun t as => mq_p0 as (True)),
  (fun as ρ μ r ρ' μ' => match as, ρ, ρ' with
  | [.inr (.inr (some (_, _))), .inl t], (nw, sp, tl, tx, al), (nw', sp', tl', tx', al') => []
  | _, _, _ => []))
def kq_start : List mq_V → mq_R → mq_M → List mq_Cu := fun as ρ μ => match as, ρ with
  | [.inr (.inr (some (_, _))), .inl t], (nw, sp, tl, tx, al) => [(49, [true, true, true, true, true, true], fun N l st ρ' μ' cs => mq_tZ l 0 fun l => mq_tI l fun v1 l => mq_tI l fun v2 l => mq_tI l fun v3 l => mq_tI l fun v4 l => mq_tI l fun v5 l => mq_t0 l (st = [] ∧ (ρ'.1 = nw ∧ ρ'.2.1 = sp ∧ ρ'.2.2.1 = tl ∧ ρ'.2.2.2.1 = tx) ∧ cs = 16 ∧ v1 = t ∧ 0 ≤ v2 ∧ v2 ≤ 300 ∧ 0 ≤ v5 ∧ v5 ≤ 301 ∧ 0 ≤ (301 - v5 : Int) ∧ (301 - v5 : Int) < (N : Int)))]
  | _, _ => []
set_option maxHeartbeats 16000000 in
set_option maxRecDepth 100000 in
theorem vq_start (lc : Launch) (h_has_trains : mq_Ct lc cq_has_trains) (h_prepareAll : mq_Ct lc cq_prepareAll) (h_runAll : mq_Ct lc cq_runAll) (h_get_trains : mq_Ct lc cq_get_trains) (h_set_trains : mq_Ct lc cq_set_trains) (h_find : mq_Ct lc cq_find) (h_concerns : mq_Ct lc cq_concerns) : mq_Ct lc cq_start := by
  refine mq_method (lc := lc) (P := pq_start) (cl := [cq_has_trains, cq_prepareAll, cq_runAll, cq_get_trains, cq_set_trains, cq_find, cq_concerns]) (T := ([(27, 10, 3), (193, 3, 7), (80, 10, 12), (89, 10, 13)], [], [], [(139, 0, 0), (318, 1, 0), (321, 2, 0), (179, 3, 0), (189, 4, 0), (333, 5, 0), (357, 6, 0)], [], [])) (fuel := 400) (cuts := kq_start) (by decide) rfl ⟨rfl, rfl⟩ (List.forall_mem_cons.mpr ⟨h_has_trains, (List.forall_mem_cons.mpr ⟨h_prepareAll, (List.forall_mem_cons.mpr ⟨h_runAll, (List.forall_mem_cons.mpr ⟨h_get_trains, (List.forall_mem_cons.mpr ⟨h_set_trains, (List.forall_mem_cons.mpr ⟨h_find, (List.forall_mem_cons.mpr ⟨h_concerns, (fun _ h => absurd h List.not_mem_nil)⟩)⟩)⟩)⟩)⟩)⟩)⟩) ⟨(List.forall_mem_cons.mpr ⟨⟨_, rfl, by decide, kw_514⟩, (List.forall_mem_cons.mpr ⟨⟨_, rfl, by decide, kw_573⟩, (List.forall_mem_cons.mpr ⟨⟨_, rfl, by decide, kw_623⟩, (List.forall_mem_cons.mpr ⟨⟨_, rfl, by decide, kw_672⟩, (fun _ h => absurd h List.not_mem_nil)⟩)⟩)⟩)⟩), (fun _ h => absurd h List.not_mem_nil), (fun _ h => absurd h List.not_mem_nil), (List.forall_mem_cons.mpr ⟨mq_ml0 rfl mw0_has_trains kw_543, (List.forall_mem_cons.mpr ⟨mq_ml0 rfl mw0_prepareAll kw_662, (List.forall_mem_cons.mpr ⟨mq_ml0 rfl mw0_runAll kw_666, (List.forall_mem_cons.mpr ⟨mq_ml0 rfl mw0_get_trains kw_569, (List.forall_mem_cons.mpr ⟨mq_ml0 rfl mw0_set_trains kw_572, (List.forall_mem_cons.mpr ⟨mq_ml0 rfl mw0_find kw_679, (List.forall_mem_cons.mpr ⟨mq_ml0 rfl mw0_concerns kw_696, (fun _ h => absurd h List.not_mem_nil)⟩)⟩)⟩)⟩)⟩)⟩)⟩), (fun _ h => absurd h List.not_mem_nil), (fun _ h => absurd h List.not_mem_nil)⟩ (by decide +kernel) ⟨_, _, rfl⟩ ?_ ?_ ?_ ?_
  · intro as ρ μ h
    obtain ⟨nw, sp, tl, tx, al⟩ := ρ
    obtain ⟨as0, rfl, h0⟩ := mq_pZ_spec h
    clear h
    obtain ⟨t, as1, rfl, h1⟩ := mq_pI_spec h0
    clear h0
    obtain ⟨rfl, hp⟩ := mq_p0_spec h1
    clear h1
    rfl
  · intro as ρ μ h
    obtain ⟨nw, sp, tl, tx, al⟩ := ρ
    obtain ⟨as0, rfl, h0⟩ := mq_pZ_spec h
    clear h
    obtain ⟨t, as1, rfl, h1⟩ := mq_pI_spec h0
    clear h0
    obtain ⟨rfl, hp⟩ := mq_p0_spec h1
    clear h1
    intro hrg
    obtain ⟨⟨ha1a, ha1b⟩, -⟩ := hrg
    intro hbk
    have e0 : mq_l0 ([.inr (.inr (some (0, 0))), .inl t] : List mq_V) 6 = [some (.inr (.inr (some (0, 0)))), some (.inl t), none, none, none, none] := rfl
    rw [e0]
    repeat' (first | refine And.intro ?_ ?_ | intro _)
    all_goals first | omega | rfl | exact trivial | (simp [mq_up] at * <;> omega)
  · intro as ρ μ h
    obtain ⟨nw, sp, tl, tx, al⟩ := ρ
    obtain ⟨as0, rfl, h0⟩ := mq_pZ_spec h
    clear h
    obtain ⟨t, as1, rfl, h1⟩ := mq_pI_spec h0
    clear h0
    obtain ⟨rfl, hp⟩ := mq_p0_spec h1
    clear h1
    refine List.forall_mem_cons.mpr ⟨?_, ?_⟩
    · intro l st ρ' μ' cs hJ
      obtain ⟨nw2, sp2, tl2, tx2, al2⟩ := ρ'
      obtain ⟨l0, rfl, hJ0⟩ := mq_tZ_spec hJ
      clear hJ
      obtain ⟨v1, l1, rfl, hJ1⟩ := mq_tI_spec hJ0
      clear hJ0
      obtain ⟨v2, l2, rfl, hJ2⟩ := mq_tI_spec hJ1
      clear hJ1
      obtain ⟨v3, l3, rfl, hJ3⟩ := mq_tI_spec hJ2
      clear hJ2
      obtain ⟨v4, l4, rfl, hJ4⟩ := mq_tI_spec hJ3
      clear hJ3
      obtain ⟨v5, l5, rfl, hJ5⟩ := mq_tI_spec hJ4
      clear hJ4
      obtain ⟨rfl, hJz⟩ := mq_t0_spec hJ5
      clear hJ5
      obtain ⟨rfl, ⟨e1, e2, e3, e4⟩, rfl, hc0, hc1, hc2, hc3, hc4, hm0, hm1⟩ := hJz
      dsimp only at e1 e2 e3 e4
      subst e1 e2 e3 e4
      omega
    exact fun _ h => absurd h List.not_mem_nil
  · intro as ρ μ h
    obtain ⟨nw, sp, tl, tx, al⟩ := ρ
    obtain ⟨as0, rfl, h0⟩ := mq_pZ_spec h
    clear h
    obtain ⟨t, as1, rfl, h1⟩ := mq_pI_spec h0
    clear h0
    obtain ⟨rfl, hp⟩ := mq_p0_spec h1
    clear h1
    intro hrg
    obtain ⟨⟨ha1a, ha1b⟩, -⟩ := hrg
    refine List.forall_mem_cons.mpr ⟨?_, ?_⟩
    · intro N l st ρ' μ' cs hJ
      obtain ⟨nw2, sp2, tl2, tx2, al2⟩ := ρ'
      obtain ⟨l0, rfl, hJ0⟩ := mq_tZ_spec hJ
      clear hJ
      obtain ⟨v1, l1, rfl, hJ1⟩ := mq_tI_spec hJ0
      clear hJ0
      obtain ⟨v2, l2, rfl, hJ2⟩ := mq_tI_spec hJ1
      clear hJ1
      obtain ⟨v3, l3, rfl, hJ3⟩ := mq_tI_spec hJ2
      clear hJ2
      obtain ⟨v4, l4, rfl, hJ4⟩ := mq_tI_spec hJ3
      clear hJ3
      obtain ⟨v5, l5, rfl, hJ5⟩ := mq_tI_spec hJ4
      clear hJ4
      obtain ⟨rfl, hJz⟩ := mq_t0_spec hJ5
      clear hJ5
      obtain ⟨rfl, ⟨e1, e2, e3, e4⟩, rfl, hc0, hc1, hc2, hc3, hc4, hm0, hm1⟩ := hJz
      dsimp only at e1 e2 e3 e4
      subst e1 e2 e3 e4
      intro hbk hrl
      obtain ⟨⟨hl1a, hl1b⟩, ⟨hl2a, hl2b⟩, ⟨hl3a, hl3b⟩, ⟨hl4a, hl4b⟩, ⟨hl5a, hl5b⟩, -⟩ := hrl
      repeat' (first | refine And.intro ?_ ?_ | intro _)
      all_goals first | omega | rfl | exact trivial | (simp [mq_up] at * <;> omega)
    exact fun _ h => absurd h List.not_mem_nil
def pq_hasDay : List mq_E := [(0, false, .aload 0), (1, false, .invokestatic 0), (4, false, .ifCond .eq (Int.ofNat 42)), (7, false, .iload 1), (8, false, .iconst 0), (9, false, .iconst 2000000000), (12, false, .invokestatic 1), (15, false, .ifCond .eq (Int.ofNat 42)), (18, false, .iload 2), (19, false, .iconst 0), (20, false, .iconst 100), (22, false, .invokestatic 1), (25, false, .ifCond .eq (Int.ofNat 42)), (28, false, .iload 3), (29, false, .iconst 0), (30, false, .iconst 99), (32, false, .invokestatic 1), (35, false, .ifCond .eq (Int.ofNat 42)), (38, false, .iconst 1), (39, false, .goto (Int.ofNat 43)), (42, false, .iconst 0), (43, false, .ireturn)]
def cq_hasDay : mq_C := ((yX10_hasDay, cX10_hasDay, 4, (some .boolean), { frames := 1, cells := 0, slots := 0, locals := 22 }), (4, 1, 0, 0), 0, (fun as ρ μ => match ρ with
  | (nw, sp, tl, tx, al) => mq_pZ as 0 fun as => mq_pI as fun s as => mq_pI as fun o as => mq_pI as fun y as => mq_p0 as (True)),
  (fun as ρ μ r ρ' μ' => match as, ρ, ρ' with
  | [.inr (.inr (some (_, _))), .inl s, .inl o, .inl y], (nw, sp, tl, tx, al), (nw', sp', tl', tx', al') => [(r = 1 ∧ 0 ≤ s ∧ s ≤ 2000000000) ∨ r = 0]
  | _, _, _ => []))
def kq_hasDay : List mq_V → mq_R → mq_M → List mq_Cu := fun as ρ μ => match as, ρ with
  | [.inr (.inr (some (_, _))), .inl s, .inl o, .inl y], (nw, sp, tl, tx, al) => []
  | _, _ => []
set_option maxHeartbeats 16000000 in
set_option maxRecDepth 100000 in
theorem vq_hasDay (lc : Launch) (h_hasLine : mq_Ct lc cq_hasLine) (h_isAmong : mq_Ct lc cq_isAmong) : mq_Ct lc cq_hasDay := by
  refine mq_method (lc := lc) (P := pq_hasDay) (cl := [cq_hasLine, cq_isAmong]) (T := ([], [(366, 2000000000)], [], [(131, 0, 0), (176, 1, 1)], [], [])) (fuel := 400) (cuts := kq_hasDay) (by decide) rfl ⟨rfl, rfl⟩ (List.forall_mem_cons.mpr ⟨h_hasLine, (List.forall_mem_cons.mpr ⟨h_isAmong, (fun _ h => absurd h List.not_mem_nil)⟩)⟩) ⟨(fun _ h => absurd h List.not_mem_nil), (List.forall_mem_cons.mpr ⟨kw_697, (fun _ h => absurd h List.not_mem_nil)⟩), (fun _ h => absurd h List.not_mem_nil), (List.forall_mem_cons.mpr ⟨mq_ml0 rfl mw0_hasLine kw_541, (List.forall_mem_cons.mpr ⟨mq_ml1 rfl mw1_isAmong kw_568, (fun _ h => absurd h List.not_mem_nil)⟩)⟩), (fun _ h => absurd h List.not_mem_nil), (fun _ h => absurd h List.not_mem_nil)⟩ (by decide +kernel) ⟨_, _, rfl⟩ ?_ ?_ ?_ ?_
  · intro as ρ μ h
    obtain ⟨nw, sp, tl, tx, al⟩ := ρ
    obtain ⟨as0, rfl, h0⟩ := mq_pZ_spec h
    clear h
    obtain ⟨s, as1, rfl, h1⟩ := mq_pI_spec h0
    clear h0
    obtain ⟨o, as2, rfl, h2⟩ := mq_pI_spec h1
    clear h1
    obtain ⟨y, as3, rfl, h3⟩ := mq_pI_spec h2
    clear h2
    obtain ⟨rfl, hp⟩ := mq_p0_spec h3
    clear h3
    rfl
  · intro as ρ μ h
    obtain ⟨nw, sp, tl, tx, al⟩ := ρ
    obtain ⟨as0, rfl, h0⟩ := mq_pZ_spec h
    clear h
    obtain ⟨s, as1, rfl, h1⟩ := mq_pI_spec h0
    clear h0
    obtain ⟨o, as2, rfl, h2⟩ := mq_pI_spec h1
    clear h1
    obtain ⟨y, as3, rfl, h3⟩ := mq_pI_spec h2
    clear h2
    obtain ⟨rfl, hp⟩ := mq_p0_spec h3
    clear h3
    intro hrg
    obtain ⟨⟨ha1a, ha1b⟩, ⟨ha2a, ha2b⟩, ⟨ha3a, ha3b⟩, -⟩ := hrg
    intro hbk
    have e0 : mq_l0 ([.inr (.inr (some (0, 0))), .inl s, .inl o, .inl y] : List mq_V) 4 = [some (.inr (.inr (some (0, 0)))), some (.inl s), some (.inl o), some (.inl y)] := rfl
    rw [e0]
    repeat' (first | refine And.intro ?_ ?_ | intro _)
    all_goals first | omega | rfl | exact trivial | (simp [mq_up] at * <;> omega)
  · intro as ρ μ h
    obtain ⟨nw, sp, tl, tx, al⟩ := ρ
    obtain ⟨as0, rfl, h0⟩ := mq_pZ_spec h
    clear h
    obtain ⟨s, as1, rfl, h1⟩ := mq_pI_spec h0
    clear h0
    obtain ⟨o, as2, rfl, h2⟩ := mq_pI_spec h1
    clear h1
    obtain ⟨y, as3, rfl, h3⟩ := mq_pI_spec h2
    clear h2
    obtain ⟨rfl, hp⟩ := mq_p0_spec h3
    clear h3
    exact fun _ h => absurd h List.not_mem_nil
  · intro as ρ μ h
    obtain ⟨nw, sp, tl, tx, al⟩ := ρ
    obtain ⟨as0, rfl, h0⟩ := mq_pZ_spec h
    clear h
    obtain ⟨s, as1, rfl, h1⟩ := mq_pI_spec h0
    clear h0
    obtain ⟨o, as2, rfl, h2⟩ := mq_pI_spec h1
    clear h1
    obtain ⟨y, as3, rfl, h3⟩ := mq_pI_spec h2
    clear h2
    obtain ⟨rfl, hp⟩ := mq_p0_spec h3
    clear h3
    intro hrg
    obtain ⟨⟨ha1a, ha1b⟩, ⟨ha2a, ha2b⟩, ⟨ha3a, ha3b⟩, -⟩ := hrg
    exact fun _ h => absurd h List.not_mem_nil
theorem mw0_hasDay : mq_mlA cq_hasDay 0 := ⟨kw_704, ⟨by decide +kernel, by decide +kernel⟩, by decide +kernel, kw_705, kw_706, kw_95, 0, by decide +kernel, fun as ρ μ h => by obtain ⟨nw, sp, tl, tx, al⟩ := ρ; obtain ⟨t, e, _⟩ := mq_pZ_spec h; exact ⟨0, t, e⟩⟩
def pq_drawDay : List mq_E := [(0, false, .iload 1), (1, false, .i2l), (2, false, .lstore 4), (4, false, .aload 0), (5, false, .invokeinterface 10 12), (8, false, .invokestatic 0), (11, false, .iconst 0), (12, false, .istore 6), (14, true, .iload 6), (16, false, .aload 0), (17, false, .invokeinterface 10 3), (20, false, .invokeinterface 3 8), (23, false, .invokeinterface 6 3), (26, false, .if_icmp .ge (Int.ofNat 75)), (29, false, .lload 4), (31, false, .invokestatic 1), (34, false, .lstore 4), (36, false, .lload 4), (38, false, .invokestatic 2), (41, false, .iload 2), (42, false, .if_icmp .ge (Int.ofNat 69)), (45, false, .lload 4), (47, false, .invokestatic 1), (50, false, .lstore 4), (52, false, .aload 0), (53, false, .invokeinterface 10 12), (56, false, .iload 6), (58, false, .lload 4), (60, false, .invokestatic 2), (63, false, .iconst 3), (64, false, .irem), (65, false, .iload 3), (66, false, .invokestatic 3), (69, false, .iinc 6 1), (72, false, .goto (Int.ofNat 14)), (75, false, .return_)]
def cq_drawDay : mq_C := ((yX10_drawDay, cX10_drawDay, 7, none, { frames := 2, cells := 0, slots := 0, locals := 45 }), (4, 0, 0, 0), 281612415664128, (fun as ρ μ => match ρ with
  | (nw, sp, tl, tx, al) => mq_pZ as 0 fun as => mq_pI as fun s as => mq_pI as fun o as => mq_pI as fun y as => mq_p0 as (0 ≤ s ∧ True)),
  (fun as ρ μ r ρ' μ' => match as, ρ, ρ' with
  | [.inr (.inr (some (_, _))), .inl s, .inl o, .inl y], (nw, sp, tl, tx, al), (nw', sp', tl', tx', al') => []
  | _, _, _ => []))
def kq_drawDay : List mq_V → mq_R → mq_M → List mq_Cu := fun as ρ μ => match as, ρ with
  | [.inr (.inr (some (_, _))), .inl s, .inl o, .inl y], (nw, sp, tl, tx, al) => [(14, [true, true, true, true, true, false, true], fun N l st ρ' μ' cs => mq_tZ l 0 fun l => mq_tI l fun v1 l => mq_tI l fun v2 l => mq_tI l fun v3 l => mq_tL l fun v4 l => mq_tN l fun l => mq_tI l fun v6 l => mq_t0 l (st = [] ∧ ρ' = (nw, sp, tl, tx, al) ∧ cs = 0 ∧ v1 = s ∧ v2 = o ∧ v3 = y ∧ 0 ≤ v4 ∧ v4 ≤ 2147483647 ∧ 0 ≤ v6 ∧ v6 ≤ 16 ∧ 0 ≤ (16 - v6 : Int) ∧ (16 - v6 : Int) < (N : Int)))]
  | _, _ => []
set_option maxHeartbeats 16000000 in
set_option maxRecDepth 100000 in
theorem vq_drawDay (lc : Launch) (h_errNot : mq_Ct lc cq_errNot) (h_drawNext : mq_Ct lc cq_drawNext) (h_drawOf : mq_Ct lc cq_drawOf) (h_err : mq_Ct lc cq_err) : mq_Ct lc cq_drawDay := by
  refine mq_method (lc := lc) (P := pq_drawDay) (cl := [cq_errNot, cq_drawNext, cq_drawOf, cq_err]) (T := ([(80, 10, 12), (27, 10, 3), (173, 3, 8), (283, 6, 3)], [], [], [(354, 0, 0), (367, 1, 1), (371, 2, 1), (348, 3, 0)], [], [])) (fuel := 400) (cuts := kq_drawDay) (by decide) rfl ⟨rfl, rfl⟩ (List.forall_mem_cons.mpr ⟨h_errNot, (List.forall_mem_cons.mpr ⟨h_drawNext, (List.forall_mem_cons.mpr ⟨h_drawOf, (List.forall_mem_cons.mpr ⟨h_err, (fun _ h => absurd h List.not_mem_nil)⟩)⟩)⟩)⟩) ⟨(List.forall_mem_cons.mpr ⟨⟨_, rfl, by decide, kw_623⟩, (List.forall_mem_cons.mpr ⟨⟨_, rfl, by decide, kw_514⟩, (List.forall_mem_cons.mpr ⟨⟨_, rfl, by decide, kw_567⟩, (List.forall_mem_cons.mpr ⟨⟨_, rfl, by decide, kw_633⟩, (fun _ h => absurd h List.not_mem_nil)⟩)⟩)⟩)⟩), (fun _ h => absurd h List.not_mem_nil), (fun _ h => absurd h List.not_mem_nil), (List.forall_mem_cons.mpr ⟨mq_ml0 rfl mw0_errNot kw_688, (List.forall_mem_cons.mpr ⟨mq_ml1 rfl mw1_drawNext kw_700, (List.forall_mem_cons.mpr ⟨mq_ml1 rfl mw1_drawOf kw_703, (List.forall_mem_cons.mpr ⟨mq_ml0 rfl mw0_err kw_683, (fun _ h => absurd h List.not_mem_nil)⟩)⟩)⟩)⟩), (fun _ h => absurd h List.not_mem_nil), (fun _ h => absurd h List.not_mem_nil)⟩ (by decide +kernel) ⟨_, _, rfl⟩ ?_ ?_ ?_ ?_
  · intro as ρ μ h
    obtain ⟨nw, sp, tl, tx, al⟩ := ρ
    obtain ⟨as0, rfl, h0⟩ := mq_pZ_spec h
    clear h
    obtain ⟨s, as1, rfl, h1⟩ := mq_pI_spec h0
    clear h0
    obtain ⟨o, as2, rfl, h2⟩ := mq_pI_spec h1
    clear h1
    obtain ⟨y, as3, rfl, h3⟩ := mq_pI_spec h2
    clear h2
    obtain ⟨rfl, hp⟩ := mq_p0_spec h3
    clear h3
    obtain ⟨hp0, hp1⟩ := hp
    rfl
  · intro as ρ μ h
    obtain ⟨nw, sp, tl, tx, al⟩ := ρ
    obtain ⟨as0, rfl, h0⟩ := mq_pZ_spec h
    clear h
    obtain ⟨s, as1, rfl, h1⟩ := mq_pI_spec h0
    clear h0
    obtain ⟨o, as2, rfl, h2⟩ := mq_pI_spec h1
    clear h1
    obtain ⟨y, as3, rfl, h3⟩ := mq_pI_spec h2
    clear h2
    obtain ⟨rfl, hp⟩ := mq_p0_spec h3
    clear h3
    obtain ⟨hp0, hp1⟩ := hp
    intro hrg
    obtain ⟨⟨ha1a, ha1b⟩, ⟨ha2a, ha2b⟩, ⟨ha3a, ha3b⟩, -⟩ := hrg
    intro hbk
    have e0 : mq_l0 ([.inr (.inr (some (0, 0))), .inl s, .inl o, .inl y] : List mq_V) 7 = [some (.inr (.inr (some (0, 0)))), some (.inl s), some (.inl o), some (.inl y), none, none, none] := rfl
    rw [e0]
    repeat' (first | refine And.intro ?_ ?_ | intro _)
    all_goals first | omega | rfl | exact trivial | (simp [mq_up] at * <;> omega)
  · intro as ρ μ h
    obtain ⟨nw, sp, tl, tx, al⟩ := ρ
    obtain ⟨as0, rfl, h0⟩ := mq_pZ_spec h
    clear h
    obtain ⟨s, as1, rfl, h1⟩ := mq_pI_spec h0
    clear h0
    obtain ⟨o, as2, rfl, h2⟩ := mq_pI_spec h1
    clear h1
    obtain ⟨y, as3, rfl, h3⟩ := mq_pI_spec h2
    clear h2
    obtain ⟨rfl, hp⟩ := mq_p0_spec h3
    clear h3
    obtain ⟨hp0, hp1⟩ := hp
    refine List.forall_mem_cons.mpr ⟨?_, ?_⟩
    · intro l st ρ' μ' cs hJ
      obtain ⟨l0, rfl, hJ0⟩ := mq_tZ_spec hJ
      clear hJ
      obtain ⟨v1, l1, rfl, hJ1⟩ := mq_tI_spec hJ0
      clear hJ0
      obtain ⟨v2, l2, rfl, hJ2⟩ := mq_tI_spec hJ1
      clear hJ1
      obtain ⟨v3, l3, rfl, hJ3⟩ := mq_tI_spec hJ2
      clear hJ2
      obtain ⟨v4, l4, rfl, hJ4⟩ := mq_tL_spec hJ3
      clear hJ3
      obtain ⟨l5, rfl, hJ5⟩ := mq_tN_spec hJ4
      clear hJ4
      obtain ⟨v6, l6, rfl, hJ6⟩ := mq_tI_spec hJ5
      clear hJ5
      obtain ⟨rfl, hJz⟩ := mq_t0_spec hJ6
      clear hJ6
      obtain ⟨rfl, rfl, rfl, hc0, hc1, hc2, hc3, hc4, hc5, hc6, hm0, hm1⟩ := hJz
      omega
    exact fun _ h => absurd h List.not_mem_nil
  · intro as ρ μ h
    obtain ⟨nw, sp, tl, tx, al⟩ := ρ
    obtain ⟨as0, rfl, h0⟩ := mq_pZ_spec h
    clear h
    obtain ⟨s, as1, rfl, h1⟩ := mq_pI_spec h0
    clear h0
    obtain ⟨o, as2, rfl, h2⟩ := mq_pI_spec h1
    clear h1
    obtain ⟨y, as3, rfl, h3⟩ := mq_pI_spec h2
    clear h2
    obtain ⟨rfl, hp⟩ := mq_p0_spec h3
    clear h3
    obtain ⟨hp0, hp1⟩ := hp
    intro hrg
    obtain ⟨⟨ha1a, ha1b⟩, ⟨ha2a, ha2b⟩, ⟨ha3a, ha3b⟩, -⟩ := hrg
    refine List.forall_mem_cons.mpr ⟨?_, ?_⟩
    · intro N l st ρ' μ' cs hJ
      obtain ⟨l0, rfl, hJ0⟩ := mq_tZ_spec hJ
      clear hJ
      obtain ⟨v1, l1, rfl, hJ1⟩ := mq_tI_spec hJ0
      clear hJ0
      obtain ⟨v2, l2, rfl, hJ2⟩ := mq_tI_spec hJ1
      clear hJ1
      obtain ⟨v3, l3, rfl, hJ3⟩ := mq_tI_spec hJ2
      clear hJ2
      obtain ⟨v4, l4, rfl, hJ4⟩ := mq_tL_spec hJ3
      clear hJ3
      obtain ⟨l5, rfl, hJ5⟩ := mq_tN_spec hJ4
      clear hJ4
      obtain ⟨v6, l6, rfl, hJ6⟩ := mq_tI_spec hJ5
      clear hJ5
      obtain ⟨rfl, hJz⟩ := mq_t0_spec hJ6
      clear hJ6
      obtain ⟨rfl, rfl, rfl, hc0, hc1, hc2, hc3, hc4, hc5, hc6, hm0, hm1⟩ := hJz
      intro hbk hrl
      obtain ⟨⟨hl1a, hl1b⟩, ⟨hl2a, hl2b⟩, ⟨hl3a, hl3b⟩, ⟨hl4a, hl4b⟩, ⟨hl6a, hl6b⟩, -⟩ := hrl
      repeat' (first | refine And.intro ?_ ?_ | intro _)
      all_goals first | omega | rfl | exact trivial | (simp [mq_up] at * <;> omega)
    exact fun _ h => absurd h List.not_mem_nil
theorem mw0_drawDay : mq_mlA cq_drawDay 0 := ⟨kw_708, ⟨by decide +kernel, by decide +kernel⟩, by decide +kernel, kw_709, kw_710, kw_95, 0, by decide +kernel, fun as ρ μ h => by obtain ⟨nw, sp, tl, tx, al⟩ := ρ; obtain ⟨t, e, _⟩ := mq_pZ_spec h; exact ⟨0, t, e⟩⟩
def pq_days : List mq_E := [(0, false, .aload 0), (1, false, .iload 1), (2, false, .iload 3), (3, false, .iload 4), (5, false, .invokestatic 0), (8, false, .ifCond .eq (Int.ofNat 21)), (11, false, .iload 2), (12, false, .iconst 1), (13, false, .iconst 20), (15, false, .invokestatic 1), (18, false, .ifCond .ne (Int.ofNat 24)), (21, false, .iconst (-2)), (23, false, .ireturn), (24, false, .aload 0), (25, false, .invokestatic 2), (28, false, .iconst 0), (29, false, .istore 5), (31, false, .iconst 0), (32, false, .istore 6), (34, true, .iload 6), (36, false, .iload 2), (37, false, .if_icmp .ge (Int.ofNat 77)), (40, false, .aload 0), (41, false, .iload 1), (42, false, .iload 6), (44, false, .iadd), (45, false, .iload 3), (46, false, .iload 4), (48, false, .invokestatic 3), (51, false, .aload 0), (52, false, .invokeinterface 10 12), (55, false, .invokestatic 4), (58, false, .aload 0), (59, false, .invokeinterface 10 13), (62, false, .invokestatic 5), (65, false, .ifCond .eq (Int.ofNat 71)), (68, false, .iinc 5 1), (71, false, .iinc 6 1), (74, false, .goto (Int.ofNat 34)), (77, false, .aload 0), (78, false, .invokeinterface 10 12), (81, false, .invokestatic 6), (84, false, .iload 5), (86, false, .ireturn)]
def cq_days : mq_C := ((yX10_days, cX10_days, 7, (some .int), { frames := 6, cells := 256, slots := 102656, locals := 146 }), (5, 1, 1, 16), 72057469483876354, (fun as ρ μ => match ρ with
  | (nw, sp, tl, tx, al) => mq_pZ as 0 fun as => mq_pI as fun s as => mq_pI as fun n as => mq_pI as fun o as => mq_pI as fun y as => mq_p0 as (True)),
  (fun as ρ μ r ρ' μ' => match as, ρ, ρ' with
  | [.inr (.inr (some (_, _))), .inl s, .inl n, .inl o, .inl y], (nw, sp, tl, tx, al), (nw', sp', tl', tx', al') => []
  | _, _, _ => []))
def kq_days : List mq_V → mq_R → mq_M → List mq_Cu := fun as ρ μ => match as, ρ with
  | [.inr (.inr (some (_, _))), .inl s, .inl n, .inl o, .inl y], (nw, sp, tl, tx, al) => [(34, [true, true, true, true, true, true, true], fun N l st ρ' μ' cs => mq_tZ l 0 fun l => mq_tI l fun v1 l => mq_tI l fun v2 l => mq_tI l fun v3 l => mq_tI l fun v4 l => mq_tI l fun v5 l => mq_tI l fun v6 l => mq_t0 l (st = [] ∧ (ρ'.1 = nw ∧ ρ'.2.1 = sp ∧ ρ'.2.2.1 = tl ∧ ρ'.2.2.2.1 = tx) ∧ cs = 16 ∧ v1 = s ∧ v2 = n ∧ v3 = o ∧ v4 = y ∧ 0 ≤ s ∧ s ≤ 2000000000 ∧ n ≤ 20 ∧ 0 ≤ v6 ∧ v6 ≤ 20 ∧ 0 ≤ v5 ∧ v5 ≤ v6 ∧ 0 ≤ (20 - v6 : Int) ∧ (20 - v6 : Int) < (N : Int)))]
  | _, _ => []
set_option maxHeartbeats 16000000 in
set_option maxRecDepth 100000 in
theorem vq_days (lc : Launch) (h_hasDay : mq_Ct lc cq_hasDay) (h_isAmong : mq_Ct lc cq_isAmong) (h_prepareAll : mq_Ct lc cq_prepareAll) (h_drawDay : mq_Ct lc cq_drawDay) (h_runAll : mq_Ct lc cq_runAll) (h_find : mq_Ct lc cq_find) (h_errNot : mq_Ct lc cq_errNot) : mq_Ct lc cq_days := by
  refine mq_method (lc := lc) (P := pq_days) (cl := [cq_hasDay, cq_isAmong, cq_prepareAll, cq_drawDay, cq_runAll, cq_find, cq_errNot]) (T := ([(80, 10, 12), (89, 10, 13)], [], [], [(360, 0, 0), (176, 1, 1), (318, 2, 0), (363, 3, 0), (321, 4, 0), (333, 5, 0), (354, 6, 0)], [], [])) (fuel := 400) (cuts := kq_days) (by decide) rfl ⟨rfl, rfl⟩ (List.forall_mem_cons.mpr ⟨h_hasDay, (List.forall_mem_cons.mpr ⟨h_isAmong, (List.forall_mem_cons.mpr ⟨h_prepareAll, (List.forall_mem_cons.mpr ⟨h_drawDay, (List.forall_mem_cons.mpr ⟨h_runAll, (List.forall_mem_cons.mpr ⟨h_find, (List.forall_mem_cons.mpr ⟨h_errNot, (fun _ h => absurd h List.not_mem_nil)⟩)⟩)⟩)⟩)⟩)⟩)⟩) ⟨(List.forall_mem_cons.mpr ⟨⟨_, rfl, by decide, kw_623⟩, (List.forall_mem_cons.mpr ⟨⟨_, rfl, by decide, kw_672⟩, (fun _ h => absurd h List.not_mem_nil)⟩)⟩), (fun _ h => absurd h List.not_mem_nil), (fun _ h => absurd h List.not_mem_nil), (List.forall_mem_cons.mpr ⟨mq_ml0 rfl mw0_hasDay kw_707, (List.forall_mem_cons.mpr ⟨mq_ml1 rfl mw1_isAmong kw_568, (List.forall_mem_cons.mpr ⟨mq_ml0 rfl mw0_prepareAll kw_662, (List.forall_mem_cons.mpr ⟨mq_ml0 rfl mw0_drawDay kw_711, (List.forall_mem_cons.mpr ⟨mq_ml0 rfl mw0_runAll kw_666, (List.forall_mem_cons.mpr ⟨mq_ml0 rfl mw0_find kw_679, (List.forall_mem_cons.mpr ⟨mq_ml0 rfl mw0_errNot kw_688, (fun _ h => absurd h List.not_mem_nil)⟩)⟩)⟩)⟩)⟩)⟩)⟩), (fun _ h => absurd h List.not_mem_nil), (fun _ h => absurd h List.not_mem_nil)⟩ (by decide +kernel) ⟨_, _, rfl⟩ ?_ ?_ ?_ ?_
  · intro as ρ μ h
    obtain ⟨nw, sp, tl, tx, al⟩ := ρ
    obtain ⟨as0, rfl, h0⟩ := mq_pZ_spec h
    clear h
    obtain ⟨s, as1, rfl, h1⟩ := mq_pI_spec h0
    clear h0
    obtain ⟨n, as2, rfl, h2⟩ := mq_pI_spec h1
    clear h1
    obtain ⟨o, as3, rfl, h3⟩ := mq_pI_spec h2
    clear h2
    obtain ⟨y, as4, rfl, h4⟩ := mq_pI_spec h3
    clear h3
    obtain ⟨rfl, hp⟩ := mq_p0_spec h4
    clear h4
    rfl
  · intro as ρ μ h
    obtain ⟨nw, sp, tl, tx, al⟩ := ρ
    obtain ⟨as0, rfl, h0⟩ := mq_pZ_spec h
    clear h
    obtain ⟨s, as1, rfl, h1⟩ := mq_pI_spec h0
    clear h0
    obtain ⟨n, as2, rfl, h2⟩ := mq_pI_spec h1
    clear h1
    obtain ⟨o, as3, rfl, h3⟩ := mq_pI_spec h2
    clear h2
    obtain ⟨y, as4, rfl, h4⟩ := mq_pI_spec h3
    clear h3
    obtain ⟨rfl, hp⟩ := mq_p0_spec h4
    clear h4
    intro hrg
    obtain ⟨⟨ha1a, ha1b⟩, ⟨ha2a, ha2b⟩, ⟨ha3a, ha3b⟩, ⟨ha4a, ha4b⟩, -⟩ := hrg
    intro hbk
    have e0 : mq_l0 ([.inr (.inr (some (0, 0))), .inl s, .inl n, .inl o, .inl y] : List mq_V) 7 = [some (.inr (.inr (some (0, 0)))), some (.inl s), some (.inl n), some (.inl o), some (.inl y), none, none] := rfl
    rw [e0]
    repeat' (first | refine And.intro ?_ ?_ | intro _)
    all_goals first | omega | rfl | exact trivial | (simp [mq_up] at * <;> omega)
  · intro as ρ μ h
    obtain ⟨nw, sp, tl, tx, al⟩ := ρ
    obtain ⟨as0, rfl, h0⟩ := mq_pZ_spec h
    clear h
    obtain ⟨s, as1, rfl, h1⟩ := mq_pI_spec h0
    clear h0
    obtain ⟨n, as2, rfl, h2⟩ := mq_pI_spec h1
    clear h1
    obtain ⟨o, as3, rfl, h3⟩ := mq_pI_spec h2
    clear h2
    obtain ⟨y, as4, rfl, h4⟩ := mq_pI_spec h3
    clear h3
    obtain ⟨rfl, hp⟩ := mq_p0_spec h4
    clear h4
    refine List.forall_mem_cons.mpr ⟨?_, ?_⟩
    · intro l st ρ' μ' cs hJ
      obtain ⟨nw2, sp2, tl2, tx2, al2⟩ := ρ'
      obtain ⟨l0, rfl, hJ0⟩ := mq_tZ_spec hJ
      clear hJ
      obtain ⟨v1, l1, rfl, hJ1⟩ := mq_tI_spec hJ0
      clear hJ0
      obtain ⟨v2, l2, rfl, hJ2⟩ := mq_tI_spec hJ1
      clear hJ1
      obtain ⟨v3, l3, rfl, hJ3⟩ := mq_tI_spec hJ2
      clear hJ2
      obtain ⟨v4, l4, rfl, hJ4⟩ := mq_tI_spec hJ3
      clear hJ3
      obtain ⟨v5, l5, rfl, hJ5⟩ := mq_tI_spec hJ4
      clear hJ4
      obtain ⟨v6, l6, rfl, hJ6⟩ := mq_tI_spec hJ5
      clear hJ5
      obtain ⟨rfl, hJz⟩ := mq_t0_spec hJ6
      clear hJ6
      obtain ⟨rfl, ⟨e1, e2, e3, e4⟩, rfl, hc0, hc1, hc2, hc3, hc4, hc5, hc6, hc7, hc8, hc9, hc10, hm0, hm1⟩ := hJz
      dsimp only at e1 e2 e3 e4
      subst e1 e2 e3 e4
      omega
    exact fun _ h => absurd h List.not_mem_nil
  · intro as ρ μ h
    obtain ⟨nw, sp, tl, tx, al⟩ := ρ
    obtain ⟨as0, rfl, h0⟩ := mq_pZ_spec h
    clear h
    obtain ⟨s, as1, rfl, h1⟩ := mq_pI_spec h0
    clear h0
    obtain ⟨n, as2, rfl, h2⟩ := mq_pI_spec h1
    clear h1
    obtain ⟨o, as3, rfl, h3⟩ := mq_pI_spec h2
    clear h2
    obtain ⟨y, as4, rfl, h4⟩ := mq_pI_spec h3
    clear h3
    obtain ⟨rfl, hp⟩ := mq_p0_spec h4
    clear h4
    intro hrg
    obtain ⟨⟨ha1a, ha1b⟩, ⟨ha2a, ha2b⟩, ⟨ha3a, ha3b⟩, ⟨ha4a, ha4b⟩, -⟩ := hrg
    refine List.forall_mem_cons.mpr ⟨?_, ?_⟩
    · intro N l st ρ' μ' cs hJ
      obtain ⟨nw2, sp2, tl2, tx2, al2⟩ := ρ'
      obtain ⟨l0, rfl, hJ0⟩ := mq_tZ_spec hJ
      clear hJ
      obtain ⟨v1, l1, rfl, hJ1⟩ := mq_tI_spec hJ0
      clear hJ0
      obtain ⟨v2, l2, rfl, hJ2⟩ := mq_tI_spec hJ1
      clear hJ1
      obtain ⟨v3, l3, rfl, hJ3⟩ := mq_tI_spec hJ2
      clear hJ2
      obtain ⟨v4, l4, rfl, hJ4⟩ := mq_tI_spec hJ3
      clear hJ3
      obtain ⟨v5, l5, rfl, hJ5⟩ := mq_tI_spec hJ4
      clear hJ4
      obtain ⟨v6, l6, rfl, hJ6⟩ := mq_tI_spec hJ5
      clear hJ5
      obtain ⟨rfl, hJz⟩ := mq_t0_spec hJ6
      clear hJ6
      obtain ⟨rfl, ⟨e1, e2, e3, e4⟩, rfl, hc0, hc1, hc2, hc3, hc4, hc5, hc6, hc7, hc8, hc9, hc10, hm0, hm1⟩ := hJz
      dsimp only at e1 e2 e3 e4
      subst e1 e2 e3 e4
      intro hbk hrl
      obtain ⟨⟨hl1a, hl1b⟩, ⟨hl2a, hl2b⟩, ⟨hl3a, hl3b⟩, ⟨hl4a, hl4b⟩, ⟨hl5a, hl5b⟩, ⟨hl6a, hl6b⟩, -⟩ := hrl
      repeat' (first | refine And.intro ?_ ?_ | intro _)
      all_goals first | omega | rfl | exact trivial | (simp [mq_up] at * <;> omega)
    exact fun _ h => absurd h List.not_mem_nil
def pq_day : List mq_E := [(0, false, .aload 0), (1, false, .iload 1), (2, false, .iload 2), (3, false, .iload 3), (4, false, .invokestatic 0), (7, false, .ifCond .ne (Int.ofNat 13)), (10, false, .iconst (-2)), (12, false, .ireturn), (13, false, .aload 0), (14, false, .invokestatic 1), (17, false, .aload 0), (18, false, .iload 1), (19, false, .iload 2), (20, false, .iload 3), (21, false, .invokestatic 2), (24, false, .aload 0), (25, false, .invokeinterface 10 12), (28, false, .invokestatic 3), (31, false, .aload 0), (32, false, .invokeinterface 10 12), (35, false, .invokestatic 4), (38, false, .aload 0), (39, false, .invokeinterface 10 12), (42, false, .invokestatic 5), (45, false, .ireturn)]
def cq_day : mq_C := ((yX10_day, cX10_day, 4, (some .int), { frames := 6, cells := 256, slots := 102656, locals := 146 }), (4, 1, 1, 16), 1125775352791042, (fun as ρ μ => match ρ with
  | (nw, sp, tl, tx, al) => mq_pZ as 0 fun as => mq_pI as fun s as => mq_pI as fun o as => mq_pI as fun y as => mq_p0 as (True)),
  (fun as ρ μ r ρ' μ' => match as, ρ, ρ' with
  | [.inr (.inr (some (_, _))), .inl s, .inl o, .inl y], (nw, sp, tl, tx, al), (nw', sp', tl', tx', al') => []
  | _, _, _ => []))
def kq_day : List mq_V → mq_R → mq_M → List mq_Cu := fun as ρ μ => match as, ρ with
  | [.inr (.inr (some (_, _))), .inl s, .inl o, .inl y], (nw, sp, tl, tx, al) => []
  | _, _ => []
set_option maxHeartbeats 16000000 in
set_option maxRecDepth 100000 in
theorem vq_day (lc : Launch) (h_hasDay : mq_Ct lc cq_hasDay) (h_prepareAll : mq_Ct lc cq_prepareAll) (h_drawDay : mq_Ct lc cq_drawDay) (h_runAll : mq_Ct lc cq_runAll) (h_errNot : mq_Ct lc cq_errNot) (h_inPlatforms : mq_Ct lc cq_inPlatforms) : mq_Ct lc cq_day := by
  refine mq_method (lc := lc) (P := pq_day) (cl := [cq_hasDay, cq_prepareAll, cq_drawDay, cq_runAll, cq_errNot, cq_inPlatforms]) (T := ([(80, 10, 12)], [], [], [(360, 0, 0), (318, 1, 0), (363, 2, 0), (321, 3, 0), (354, 4, 0), (324, 5, 0)], [], [])) (fuel := 400) (cuts := kq_day) (by decide) rfl ⟨rfl, rfl⟩ (List.forall_mem_cons.mpr ⟨h_hasDay, (List.forall_mem_cons.mpr ⟨h_prepareAll, (List.forall_mem_cons.mpr ⟨h_drawDay, (List.forall_mem_cons.mpr ⟨h_runAll, (List.forall_mem_cons.mpr ⟨h_errNot, (List.forall_mem_cons.mpr ⟨h_inPlatforms, (fun _ h => absurd h List.not_mem_nil)⟩)⟩)⟩)⟩)⟩)⟩) ⟨(List.forall_mem_cons.mpr ⟨⟨_, rfl, by decide, kw_623⟩, (fun _ h => absurd h List.not_mem_nil)⟩), (fun _ h => absurd h List.not_mem_nil), (fun _ h => absurd h List.not_mem_nil), (List.forall_mem_cons.mpr ⟨mq_ml0 rfl mw0_hasDay kw_707, (List.forall_mem_cons.mpr ⟨mq_ml0 rfl mw0_prepareAll kw_662, (List.forall_mem_cons.mpr ⟨mq_ml0 rfl mw0_drawDay kw_711, (List.forall_mem_cons.mpr ⟨mq_ml0 rfl mw0_runAll kw_666, (List.forall_mem_cons.mpr ⟨mq_ml0 rfl mw0_errNot kw_688, (List.forall_mem_cons.mpr ⟨mq_ml0 rfl mw0_inPlatforms kw_670, (fun _ h => absurd h List.not_mem_nil)⟩)⟩)⟩)⟩)⟩)⟩), (fun _ h => absurd h List.not_mem_nil), (fun _ h => absurd h List.not_mem_nil)⟩ (by decide +kernel) ⟨_, _, rfl⟩ ?_ ?_ ?_ ?_
  · intro as ρ μ h
    obtain ⟨nw, sp, tl, tx, al⟩ := ρ
    obtain ⟨as0, rfl, h0⟩ := mq_pZ_spec h
    clear h
    obtain ⟨s, as1, rfl, h1⟩ := mq_pI_spec h0
    clear h0
    obtain ⟨o, as2, rfl, h2⟩ := mq_pI_spec h1
    clear h1
    obtain ⟨y, as3, rfl, h3⟩ := mq_pI_spec h2
    clear h2
    obtain ⟨rfl, hp⟩ := mq_p0_spec h3
    clear h3
    rfl
  · intro as ρ μ h
    obtain ⟨nw, sp, tl, tx, al⟩ := ρ
    obtain ⟨as0, rfl, h0⟩ := mq_pZ_spec h
    clear h
    obtain ⟨s, as1, rfl, h1⟩ := mq_pI_spec h0
    clear h0
    obtain ⟨o, as2, rfl, h2⟩ := mq_pI_spec h1
    clear h1
    obtain ⟨y, as3, rfl, h3⟩ := mq_pI_spec h2
    clear h2
    obtain ⟨rfl, hp⟩ := mq_p0_spec h3
    clear h3
    intro hrg
    obtain ⟨⟨ha1a, ha1b⟩, ⟨ha2a, ha2b⟩, ⟨ha3a, ha3b⟩, -⟩ := hrg
    intro hbk
    have e0 : mq_l0 ([.inr (.inr (some (0, 0))), .inl s, .inl o, .inl y] : List mq_V) 4 = [some (.inr (.inr (some (0, 0)))), some (.inl s), some (.inl o), some (.inl y)] := rfl
    rw [e0]
    repeat' (first | refine And.intro ?_ ?_ | intro _)
    all_goals first | omega | rfl | exact trivial | (simp [mq_up] at * <;> omega)
  · intro as ρ μ h
    obtain ⟨nw, sp, tl, tx, al⟩ := ρ
    obtain ⟨as0, rfl, h0⟩ := mq_pZ_spec h
    clear h
    obtain ⟨s, as1, rfl, h1⟩ := mq_pI_spec h0
    clear h0
    obtain ⟨o, as2, rfl, h2⟩ := mq_pI_spec h1
    clear h1
    obtain ⟨y, as3, rfl, h3⟩ := mq_pI_spec h2
    clear h2
    obtain ⟨rfl, hp⟩ := mq_p0_spec h3
    clear h3
    exact fun _ h => absurd h List.not_mem_nil
  · intro as ρ μ h
    obtain ⟨nw, sp, tl, tx, al⟩ := ρ
    obtain ⟨as0, rfl, h0⟩ := mq_pZ_spec h
    clear h
    obtain ⟨s, as1, rfl, h1⟩ := mq_pI_spec h0
    clear h0
    obtain ⟨o, as2, rfl, h2⟩ := mq_pI_spec h1
    clear h1
    obtain ⟨y, as3, rfl, h3⟩ := mq_pI_spec h2
    clear h2
    obtain ⟨rfl, hp⟩ := mq_p0_spec h3
    clear h3
    intro hrg
    obtain ⟨⟨ha1a, ha1b⟩, ⟨ha2a, ha2b⟩, ⟨ha3a, ha3b⟩, -⟩ := hrg
    exact fun _ h => absurd h List.not_mem_nil
def pq_shunts : List mq_E := [(0, false, .aload 0), (1, false, .invokeinterface 10 3), (4, false, .invokeinterface 3 7), (7, false, .iload 1), (8, false, .invokestatic 0), (11, false, .ifCond .eq (Int.ofNat 23)), (14, false, .iload 2), (15, false, .iconst 0), (16, false, .iconst 1), (17, false, .invokestatic 1), (20, false, .ifCond .ne (Int.ofNat 26)), (23, false, .iconst (-2)), (25, false, .ireturn), (26, false, .aload 0), (27, false, .invokeinterface 10 14), (30, false, .aload 0), (31, false, .invokeinterface 10 3), (34, false, .iload 1), (35, false, .invokestatic 2), (38, false, .istore 3), (39, false, .iload 2), (40, false, .ifCond .ne (Int.ofNat 50)), (43, false, .iload 3), (44, false, .invokestatic 3), (47, false, .goto (Int.ofNat 51)), (50, false, .iload 3), (51, false, .ireturn)]
def cq_shunts : mq_C := ((yX10_shunts, cX10_shunts, 4, (some .int), { frames := 4, cells := 0, slots := 0, locals := 99 }), (3, 1, 0, 0), 504403158265495552, (fun as ρ μ => match ρ with
  | (nw, sp, tl, tx, al) => mq_pZ as 0 fun as => mq_pI as fun t as => mq_pI as fun w as => mq_p0 as (True)),
  (fun as ρ μ r ρ' μ' => match as, ρ, ρ' with
  | [.inr (.inr (some (_, _))), .inl t, .inl w], (nw, sp, tl, tx, al), (nw', sp', tl', tx', al') => []
  | _, _, _ => []))
def kq_shunts : List mq_V → mq_R → mq_M → List mq_Cu := fun as ρ μ => match as, ρ with
  | [.inr (.inr (some (_, _))), .inl t, .inl w], (nw, sp, tl, tx, al) => []
  | _, _ => []
set_option maxHeartbeats 16000000 in
set_option maxRecDepth 100000 in
theorem vq_shunts (lc : Launch) (h_has_trains : mq_Ct lc cq_has_trains) (h_isAmong : mq_Ct lc cq_isAmong) (h_leastSet : mq_Ct lc cq_leastSet) (h_bitCount : mq_Ct lc cq_bitCount) : mq_Ct lc cq_shunts := by
  refine mq_method (lc := lc) (P := pq_shunts) (cl := [cq_has_trains, cq_isAmong, cq_leastSet, cq_bitCount]) (T := ([(27, 10, 3), (193, 3, 7), (96, 10, 14)], [], [], [(139, 0, 0), (176, 1, 1), (385, 2, 0), (328, 3, 1)], [], [])) (fuel := 400) (cuts := kq_shunts) (by decide) rfl ⟨rfl, rfl⟩ (List.forall_mem_cons.mpr ⟨h_has_trains, (List.forall_mem_cons.mpr ⟨h_isAmong, (List.forall_mem_cons.mpr ⟨h_leastSet, (List.forall_mem_cons.mpr ⟨h_bitCount, (fun _ h => absurd h List.not_mem_nil)⟩)⟩)⟩)⟩) ⟨(List.forall_mem_cons.mpr ⟨⟨_, rfl, by decide, kw_514⟩, (List.forall_mem_cons.mpr ⟨⟨_, rfl, by decide, kw_573⟩, (List.forall_mem_cons.mpr ⟨⟨_, rfl, by decide, kw_712⟩, (fun _ h => absurd h List.not_mem_nil)⟩)⟩)⟩), (fun _ h => absurd h List.not_mem_nil), (fun _ h => absurd h List.not_mem_nil), (List.forall_mem_cons.mpr ⟨mq_ml0 rfl mw0_has_trains kw_543, (List.forall_mem_cons.mpr ⟨mq_ml1 rfl mw1_isAmong kw_568, (List.forall_mem_cons.mpr ⟨mq_ml0 rfl mw0_leastSet kw_716, (List.forall_mem_cons.mpr ⟨mq_ml1 rfl mw1_bitCount kw_671, (fun _ h => absurd h List.not_mem_nil)⟩)⟩)⟩)⟩), (fun _ h => absurd h List.not_mem_nil), (fun _ h => absurd h List.not_mem_nil)⟩ (by decide +kernel) ⟨_, _, rfl⟩ ?_ ?_ ?_ ?_
  · intro as ρ μ h
    obtain ⟨nw, sp, tl, tx, al⟩ := ρ
    obtain ⟨as0, rfl, h0⟩ := mq_pZ_spec h
    clear h
    obtain ⟨t, as1, rfl, h1⟩ := mq_pI_spec h0
    clear h0
    obtain ⟨w, as2, rfl, h2⟩ := mq_pI_spec h1
    clear h1
    obtain ⟨rfl, hp⟩ := mq_p0_spec h2
    clear h2
    rfl
  · intro as ρ μ h
    obtain ⟨nw, sp, tl, tx, al⟩ := ρ
    obtain ⟨as0, rfl, h0⟩ := mq_pZ_spec h
    clear h
    obtain ⟨t, as1, rfl, h1⟩ := mq_pI_spec h0
    clear h0
    obtain ⟨w, as2, rfl, h2⟩ := mq_pI_spec h1
    clear h1
    obtain ⟨rfl, hp⟩ := mq_p0_spec h2
    clear h2
    intro hrg
    obtain ⟨⟨ha1a, ha1b⟩, ⟨ha2a, ha2b⟩, -⟩ := hrg
    intro hbk
    have e0 : mq_l0 ([.inr (.inr (some (0, 0))), .inl t, .inl w] : List mq_V) 4 = [some (.inr (.inr (some (0, 0)))), some (.inl t), some (.inl w), none] := rfl
    rw [e0]
    repeat' (first | refine And.intro ?_ ?_ | intro _)
    all_goals first | omega | rfl | exact trivial | (simp [mq_up] at * <;> omega)
  · intro as ρ μ h
    obtain ⟨nw, sp, tl, tx, al⟩ := ρ
    obtain ⟨as0, rfl, h0⟩ := mq_pZ_spec h
    clear h
    obtain ⟨t, as1, rfl, h1⟩ := mq_pI_spec h0
    clear h0
    obtain ⟨w, as2, rfl, h2⟩ := mq_pI_spec h1
    clear h1
    obtain ⟨rfl, hp⟩ := mq_p0_spec h2
    clear h2
    exact fun _ h => absurd h List.not_mem_nil
  · intro as ρ μ h
    obtain ⟨nw, sp, tl, tx, al⟩ := ρ
    obtain ⟨as0, rfl, h0⟩ := mq_pZ_spec h
    clear h
    obtain ⟨t, as1, rfl, h1⟩ := mq_pI_spec h0
    clear h0
    obtain ⟨w, as2, rfl, h2⟩ := mq_pI_spec h1
    clear h1
    obtain ⟨rfl, hp⟩ := mq_p0_spec h2
    clear h2
    intro hrg
    obtain ⟨⟨ha1a, ha1b⟩, ⟨ha2a, ha2b⟩, -⟩ := hrg
    exact fun _ h => absurd h List.not_mem_nil
def pq_order : List mq_E := [(0, false, .aload 0), (1, false, .invokeinterface 10 3), (4, false, .invokeinterface 3 7), (7, false, .iload 1), (8, false, .invokestatic 0), (11, false, .ifCond .ne (Int.ofNat 17)), (14, false, .iconst (-2)), (16, false, .ireturn), (17, false, .iconst 0), (18, false, .istore 3), (19, true, .iload 3), (20, false, .aload 0), (21, false, .invokeinterface 10 3), (24, false, .invokeinterface 3 8), (27, false, .invokeinterface 6 3), (30, false, .if_icmp .ge (Int.ofNat 73)), (33, false, .aload 0), (34, false, .invokeinterface 10 3), (37, false, .invokeinterface 3 8), (40, false, .iload 3), (41, false, .iconst 0), (42, false, .invokestatic 1), (45, false, .iload 1), (46, false, .if_icmp .ne (Int.ofNat 67)), (49, false, .aload 0), (50, false, .invokeinterface 10 14), (53, false, .aload 0), (54, false, .invokeinterface 10 3), (57, false, .iload 3), (58, false, .invokestatic 2), (61, false, .iload 2), (62, false, .if_icmp .ne (Int.ofNat 67)), (65, false, .iload 3), (66, false, .ireturn), (67, false, .iinc 3 1), (70, false, .goto (Int.ofNat 19)), (73, false, .iconst (-1)), (74, false, .ireturn)]
def cq_order : mq_C := ((yX10_order, cX10_order, 4, (some .int), { frames := 3, cells := 0, slots := 0, locals := 69 }), (3, 1, 0, 0), 0, (fun as ρ μ => match ρ with
  | (nw, sp, tl, tx, al) => mq_pZ as 0 fun as => mq_pI as fun t as => mq_pI as fun i as => mq_p0 as (True)),
  (fun as ρ μ r ρ' μ' => match as, ρ, ρ' with
  | [.inr (.inr (some (_, _))), .inl t, .inl i], (nw, sp, tl, tx, al), (nw', sp', tl', tx', al') => []
  | _, _, _ => []))
def kq_order : List mq_V → mq_R → mq_M → List mq_Cu := fun as ρ μ => match as, ρ with
  | [.inr (.inr (some (_, _))), .inl t, .inl i], (nw, sp, tl, tx, al) => [(19, [true, true, true, true], fun N l st ρ' μ' cs => mq_tZ l 0 fun l => mq_tI l fun v1 l => mq_tI l fun v2 l => mq_tI l fun v3 l => mq_t0 l (st = [] ∧ ρ' = (nw, sp, tl, tx, al) ∧ cs = 0 ∧ v1 = t ∧ v2 = i ∧ 0 ≤ v3 ∧ v3 ≤ 16 ∧ 0 ≤ (16 - v3 : Int) ∧ (16 - v3 : Int) < (N : Int)))]
  | _, _ => []
set_option maxHeartbeats 16000000 in
set_option maxRecDepth 100000 in
theorem vq_order (lc : Launch) (h_has_trains : mq_Ct lc cq_has_trains) (h_get_coaches : mq_Ct lc cq_get_coaches) (h_rankOf : mq_Ct lc cq_rankOf) : mq_Ct lc cq_order := by
  refine mq_method (lc := lc) (P := pq_order) (cl := [cq_has_trains, cq_get_coaches, cq_rankOf]) (T := ([(27, 10, 3), (193, 3, 7), (173, 3, 8), (283, 6, 3), (96, 10, 14)], [], [], [(139, 0, 0), (179, 1, 0), (389, 2, 0)], [], [])) (fuel := 400) (cuts := kq_order) (by decide) rfl ⟨rfl, rfl⟩ (List.forall_mem_cons.mpr ⟨h_has_trains, (List.forall_mem_cons.mpr ⟨h_get_coaches, (List.forall_mem_cons.mpr ⟨h_rankOf, (fun _ h => absurd h List.not_mem_nil)⟩)⟩)⟩) ⟨(List.forall_mem_cons.mpr ⟨⟨_, rfl, by decide, kw_514⟩, (List.forall_mem_cons.mpr ⟨⟨_, rfl, by decide, kw_573⟩, (List.forall_mem_cons.mpr ⟨⟨_, rfl, by decide, kw_567⟩, (List.forall_mem_cons.mpr ⟨⟨_, rfl, by decide, kw_633⟩, (List.forall_mem_cons.mpr ⟨⟨_, rfl, by decide, kw_712⟩, (fun _ h => absurd h List.not_mem_nil)⟩)⟩)⟩)⟩)⟩), (fun _ h => absurd h List.not_mem_nil), (fun _ h => absurd h List.not_mem_nil), (List.forall_mem_cons.mpr ⟨mq_ml0 rfl mw0_has_trains kw_543, (List.forall_mem_cons.mpr ⟨mq_ml0 rfl mw0_get_coaches kw_569, (List.forall_mem_cons.mpr ⟨mq_ml0 rfl mw0_rankOf kw_720, (fun _ h => absurd h List.not_mem_nil)⟩)⟩)⟩), (fun _ h => absurd h List.not_mem_nil), (fun _ h => absurd h List.not_mem_nil)⟩ (by decide +kernel) ⟨_, _, rfl⟩ ?_ ?_ ?_ ?_
  · intro as ρ μ h
    obtain ⟨nw, sp, tl, tx, al⟩ := ρ
    obtain ⟨as0, rfl, h0⟩ := mq_pZ_spec h
    clear h
    obtain ⟨t, as1, rfl, h1⟩ := mq_pI_spec h0
    clear h0
    obtain ⟨i, as2, rfl, h2⟩ := mq_pI_spec h1
    clear h1
    obtain ⟨rfl, hp⟩ := mq_p0_spec h2
    clear h2
    rfl
  · intro as ρ μ h
    obtain ⟨nw, sp, tl, tx, al⟩ := ρ
    obtain ⟨as0, rfl, h0⟩ := mq_pZ_spec h
    clear h
    obtain ⟨t, as1, rfl, h1⟩ := mq_pI_spec h0
    clear h0
    obtain ⟨i, as2, rfl, h2⟩ := mq_pI_spec h1
    clear h1
    obtain ⟨rfl, hp⟩ := mq_p0_spec h2
    clear h2
    intro hrg
    obtain ⟨⟨ha1a, ha1b⟩, ⟨ha2a, ha2b⟩, -⟩ := hrg
    intro hbk
    have e0 : mq_l0 ([.inr (.inr (some (0, 0))), .inl t, .inl i] : List mq_V) 4 = [some (.inr (.inr (some (0, 0)))), some (.inl t), some (.inl i), none] := rfl
    rw [e0]
    repeat' (first | refine And.intro ?_ ?_ | intro _)
    all_goals first | omega | rfl | exact trivial | (simp [mq_up] at * <;> omega)
  · intro as ρ μ h
    obtain ⟨nw, sp, tl, tx, al⟩ := ρ
    obtain ⟨as0, rfl, h0⟩ := mq_pZ_spec h
    clear h
    obtain ⟨t, as1, rfl, h1⟩ := mq_pI_spec h0
    clear h0
    obtain ⟨i, as2, rfl, h2⟩ := mq_pI_spec h1
    clear h1
    obtain ⟨rfl, hp⟩ := mq_p0_spec h2
    clear h2
    refine List.forall_mem_cons.mpr ⟨?_, ?_⟩
    · intro l st ρ' μ' cs hJ
      obtain ⟨l0, rfl, hJ0⟩ := mq_tZ_spec hJ
      clear hJ
      obtain ⟨v1, l1, rfl, hJ1⟩ := mq_tI_spec hJ0
      clear hJ0
      obtain ⟨v2, l2, rfl, hJ2⟩ := mq_tI_spec hJ1
      clear hJ1
      obtain ⟨v3, l3, rfl, hJ3⟩ := mq_tI_spec hJ2
      clear hJ2
      obtain ⟨rfl, hJz⟩ := mq_t0_spec hJ3
      clear hJ3
      obtain ⟨rfl, rfl, rfl, hc0, hc1, hc2, hc3, hm0, hm1⟩ := hJz
      omega
    exact fun _ h => absurd h List.not_mem_nil
  · intro as ρ μ h
    obtain ⟨nw, sp, tl, tx, al⟩ := ρ
    obtain ⟨as0, rfl, h0⟩ := mq_pZ_spec h
    clear h
    obtain ⟨t, as1, rfl, h1⟩ := mq_pI_spec h0
    clear h0
    obtain ⟨i, as2, rfl, h2⟩ := mq_pI_spec h1
    clear h1
    obtain ⟨rfl, hp⟩ := mq_p0_spec h2
    clear h2
    intro hrg
    obtain ⟨⟨ha1a, ha1b⟩, ⟨ha2a, ha2b⟩, -⟩ := hrg
    refine List.forall_mem_cons.mpr ⟨?_, ?_⟩
    · intro N l st ρ' μ' cs hJ
      obtain ⟨l0, rfl, hJ0⟩ := mq_tZ_spec hJ
      clear hJ
      obtain ⟨v1, l1, rfl, hJ1⟩ := mq_tI_spec hJ0
      clear hJ0
      obtain ⟨v2, l2, rfl, hJ2⟩ := mq_tI_spec hJ1
      clear hJ1
      obtain ⟨v3, l3, rfl, hJ3⟩ := mq_tI_spec hJ2
      clear hJ2
      obtain ⟨rfl, hJz⟩ := mq_t0_spec hJ3
      clear hJ3
      obtain ⟨rfl, rfl, rfl, hc0, hc1, hc2, hc3, hm0, hm1⟩ := hJz
      intro hbk hrl
      obtain ⟨⟨hl1a, hl1b⟩, ⟨hl2a, hl2b⟩, ⟨hl3a, hl3b⟩, -⟩ := hrl
      repeat' (first | refine And.intro ?_ ?_ | intro _)
      all_goals first | omega | rfl | exact trivial | (simp [mq_up] at * <;> omega)
    exact fun _ h => absurd h List.not_mem_nil
def pq_blocked : List mq_E := [(0, false, .aload 0), (1, false, .invokeinterface 10 3), (4, false, .invokeinterface 3 7), (7, false, .iload 1), (8, false, .invokestatic 0), (11, false, .ifCond .ne (Int.ofNat 17)), (14, false, .iconst (-2)), (16, false, .ireturn), (17, false, .iconst (-1)), (18, false, .istore 2), (19, false, .aload 0), (20, false, .invokeinterface 10 3), (23, false, .iload 1), (24, false, .invokestatic 1), (27, false, .iconst 1), (28, false, .isub), (29, false, .istore 3), (30, true, .iload 3), (31, false, .ifCond .lt (Int.ofNat 82)), (34, false, .aload 0), (35, false, .invokeinterface 10 3), (38, false, .iload 1), (39, false, .iload 3), (40, false, .invokestatic 2), (43, false, .istore 4), (45, false, .aload 0), (46, false, .invokeinterface 10 3), (49, false, .invokeinterface 3 8), (52, false, .iload 4), (54, false, .iconst 3), (55, false, .invokestatic 3), (58, false, .istore 5), (60, false, .iload 5), (62, false, .iload 2), (63, false, .if_icmp .ge (Int.ofNat 69)), (66, false, .iload 4), (68, false, .ireturn), (69, false, .iload 2), (70, false, .iload 5), (72, false, .f2i), (75, false, .istore 2), (76, false, .iinc 3 (-1)), (79, false, .goto (Int.ofNat 30)), (82, false, .iconst (-1)), (83, false, .ireturn)]
def cq_blocked : mq_C := ((yX10_blocked, cX10_blocked, 6, (some .int), { frames := 2, cells := 0, slots := 0, locals := 45 }), (2, 1, 0, 0), 0, (fun as ρ μ => match ρ with
  | (nw, sp, tl, tx, al) => mq_pZ as 0 fun as => mq_pI as fun t as => mq_p0 as (True)),
  (fun as ρ μ r ρ' μ' => match as, ρ, ρ' with
  | [.inr (.inr (some (_, _))), .inl t], (nw, sp, tl, tx, al), (nw', sp', tl', tx', al') => []
  | _, _, _ => []))
def kq_blocked : List mq_V → mq_R → mq_M → List mq_Cu := fun as ρ μ => match as, ρ with
  | [.inr (.inr (some (_, _))), .inl t], (nw, sp, tl, tx, al) => [(30, [true, true, true, true, false, false], fun N l st ρ' μ' cs => mq_tZ l 0 fun l => mq_tI l fun v1 l => mq_tI l fun v2 l => mq_tI l fun v3 l => mq_tN l fun l => mq_tN l fun l => mq_t0 l (st = [] ∧ ρ' = (nw, sp, tl, tx, al) ∧ cs = 0 ∧ v1 = t ∧ -1 ≤ v3 ∧ v3 ≤ 15 ∧ 0 ≤ (v3 + 1 : Int) ∧ (v3 + 1 : Int) < (N : Int)))]
  | _, _ => []
set_option maxHeartbeats 16000000 in
set_option maxRecDepth 100000 in
theorem vq_blocked (lc : Launch) (h_has_trains : mq_Ct lc cq_has_trains) (h_coachesOf : mq_Ct lc cq_coachesOf) (h_coachAt : mq_Ct lc cq_coachAt) (h_get_coaches : mq_Ct lc cq_get_coaches) : mq_Ct lc cq_blocked := by
  refine mq_method (lc := lc) (P := pq_blocked) (cl := [cq_has_trains, cq_coachesOf, cq_coachAt, cq_get_coaches]) (T := ([(27, 10, 3), (193, 3, 7), (173, 3, 8)], [], [], [(139, 0, 0), (392, 1, 0), (395, 2, 0), (179, 3, 0)], [], [(398, true)])) (fuel := 400) (cuts := kq_blocked) (by decide) rfl ⟨rfl, rfl⟩ (List.forall_mem_cons.mpr ⟨h_has_trains, (List.forall_mem_cons.mpr ⟨h_coachesOf, (List.forall_mem_cons.mpr ⟨h_coachAt, (List.forall_mem_cons.mpr ⟨h_get_coaches, (fun _ h => absurd h List.not_mem_nil)⟩)⟩)⟩)⟩) ⟨(List.forall_mem_cons.mpr ⟨⟨_, rfl, by decide, kw_514⟩, (List.forall_mem_cons.mpr ⟨⟨_, rfl, by decide, kw_573⟩, (List.forall_mem_cons.mpr ⟨⟨_, rfl, by decide, kw_567⟩, (fun _ h => absurd h List.not_mem_nil)⟩)⟩)⟩), (fun _ h => absurd h List.not_mem_nil), (fun _ h => absurd h List.not_mem_nil), (List.forall_mem_cons.mpr ⟨mq_ml0 rfl mw0_has_trains kw_543, (List.forall_mem_cons.mpr ⟨mq_ml0 rfl mw0_coachesOf kw_721, (List.forall_mem_cons.mpr ⟨mq_ml0 rfl mw0_coachAt kw_722, (List.forall_mem_cons.mpr ⟨mq_ml0 rfl mw0_get_coaches kw_569, (fun _ h => absurd h List.not_mem_nil)⟩)⟩)⟩)⟩), (fun _ h => absurd h List.not_mem_nil), (List.forall_mem_cons.mpr ⟨⟨kw_723, kw_82, kw_44, kw_83⟩, (fun _ h => absurd h List.not_mem_nil)⟩)⟩ (by decide +kernel) ⟨_, _, rfl⟩ ?_ ?_ ?_ ?_
  · intro as ρ μ h
    obtain ⟨nw, sp, tl, tx, al⟩ := ρ
    obtain ⟨as0, rfl, h0⟩ := mq_pZ_spec h
    clear h
    obtain ⟨t, as1, rfl, h1⟩ := mq_pI_spec h0
    clear h0
    obtain ⟨rfl, hp⟩ := mq_p0_spec h1
    clear h1
    rfl
  · intro as ρ μ h
    obtain ⟨nw, sp, tl, tx, al⟩ := ρ
    obtain ⟨as0, rfl, h0⟩ := mq_pZ_spec h
    clear h
    obtain ⟨t, as1, rfl, h1⟩ := mq_pI_spec h0
    clear h0
    obtain ⟨rfl, hp⟩ := mq_p0_spec h1
    clear h1
    intro hrg
    obtain ⟨⟨ha1a, ha1b⟩, -⟩ := hrg
    intro hbk
    have e0 : mq_l0 ([.inr (.inr (some (0, 0))), .inl t] : List mq_V) 6 = [some (.inr (.inr (some (0, 0)))), some (.inl t), none, none, none, none] := rfl
    rw [e0]
    repeat' (first | refine And.intro ?_ ?_ | intro _)
    all_goals first | omega | rfl | exact trivial | (simp [mq_up] at * <;> omega)
  · intro as ρ μ h
    obtain ⟨nw, sp, tl, tx, al⟩ := ρ
    obtain ⟨as0, rfl, h0⟩ := mq_pZ_spec h
    clear h
    obtain ⟨t, as1, rfl, h1⟩ := mq_pI_spec h0
    clear h0
    obtain ⟨rfl, hp⟩ := mq_p0_spec h1
    clear h1
    refine List.forall_mem_cons.mpr ⟨?_, ?_⟩
    · intro l st ρ' μ' cs hJ
      obtain ⟨l0, rfl, hJ0⟩ := mq_tZ_spec hJ
      clear hJ
      obtain ⟨v1, l1, rfl, hJ1⟩ := mq_tI_spec hJ0
      clear hJ0
      obtain ⟨v2, l2, rfl, hJ2⟩ := mq_tI_spec hJ1
      clear hJ1
      obtain ⟨v3, l3, rfl, hJ3⟩ := mq_tI_spec hJ2
      clear hJ2
      obtain ⟨l4, rfl, hJ4⟩ := mq_tN_spec hJ3
      clear hJ3
      obtain ⟨l5, rfl, hJ5⟩ := mq_tN_spec hJ4
      clear hJ4
      obtain ⟨rfl, hJz⟩ := mq_t0_spec hJ5
      clear hJ5
      obtain ⟨rfl, rfl, rfl, hc0, hc1, hc2, hm0, hm1⟩ := hJz
      omega
    exact fun _ h => absurd h List.not_mem_nil
  · intro as ρ μ h
    obtain ⟨nw, sp, tl, tx, al⟩ := ρ
    obtain ⟨as0, rfl, h0⟩ := mq_pZ_spec h
    clear h
    obtain ⟨t, as1, rfl, h1⟩ := mq_pI_spec h0
    clear h0
    obtain ⟨rfl, hp⟩ := mq_p0_spec h1
    clear h1
    intro hrg
    obtain ⟨⟨ha1a, ha1b⟩, -⟩ := hrg
    refine List.forall_mem_cons.mpr ⟨?_, ?_⟩
    · intro N l st ρ' μ' cs hJ
      obtain ⟨l0, rfl, hJ0⟩ := mq_tZ_spec hJ
      clear hJ
      obtain ⟨v1, l1, rfl, hJ1⟩ := mq_tI_spec hJ0
      clear hJ0
      obtain ⟨v2, l2, rfl, hJ2⟩ := mq_tI_spec hJ1
      clear hJ1
      obtain ⟨v3, l3, rfl, hJ3⟩ := mq_tI_spec hJ2
      clear hJ2
      obtain ⟨l4, rfl, hJ4⟩ := mq_tN_spec hJ3
      clear hJ3
      obtain ⟨l5, rfl, hJ5⟩ := mq_tN_spec hJ4
      clear hJ4
      obtain ⟨rfl, hJz⟩ := mq_t0_spec hJ5
      clear hJ5
      obtain ⟨rfl, rfl, rfl, hc0, hc1, hc2, hm0, hm1⟩ := hJz
      intro hbk hrl
      obtain ⟨⟨hl1a, hl1b⟩, ⟨hl2a, hl2b⟩, ⟨hl3a, hl3b⟩, -⟩ := hrl
      repeat' (first | refine And.intro ?_ ?_ | intro _)
      all_goals first | omega | rfl | exact trivial | (simp [mq_up] at * <;> omega)
    exact fun _ h => absurd h List.not_mem_nil
def pq_saved : List mq_E := [(0, false, .aload 0), (1, false, .invokeinterface 10 3), (4, false, .invokeinterface 3 7), (7, false, .iload 1), (8, false, .invokestatic 0), (11, false, .ifCond .eq (Int.ofNat 24)), (14, false, .iload 2), (15, false, .iconst 0), (16, false, .iconst 99), (18, false, .invokestatic 1), (21, false, .ifCond .ne (Int.ofNat 27)), (24, false, .iconst (-1000000)), (26, false, .ireturn), (27, false, .aload 0), (28, false, .invokeinterface 10 12), (31, false, .iload 1), (32, false, .invokestatic 2), (35, false, .aload 0), (36, false, .invokeinterface 10 12), (39, false, .iload 1), (40, false, .invokestatic 3), (43, false, .iload 2), (44, false, .aload 0), (45, false, .invokeinterface 10 3), (48, false, .iload 1), (49, false, .invokestatic 4), (52, false, .fmul), (53, false, .fadd), (54, false, .aload 0), (55, false, .invokeinterface 10 12), (58, false, .invokeinterface 2 4), (61, false, .iload 1), (62, false, .iaload), (63, false, .fsub), (64, false, .ireturn)]
def cq_saved : mq_C := ((yX10_saved, cX10_saved, 3, (some .int), { frames := 4, cells := 0, slots := 0, locals := 95 }), (3, 1, 0, 0), 580267261558784, (fun as ρ μ => match ρ with
  | (nw, sp, tl, tx, al) => mq_pZ as 0 fun as => mq_pI as fun t as => mq_pI as fun n as => mq_p0 as (True)),
  (fun as ρ μ r ρ' μ' => match as, ρ, ρ' with
  | [.inr (.inr (some (_, _))), .inl t, .inl n], (nw, sp, tl, tx, al), (nw', sp', tl', tx', al') => []
  | _, _, _ => []))
def kq_saved : List mq_V → mq_R → mq_M → List mq_Cu := fun as ρ μ => match as, ρ with
  | [.inr (.inr (some (_, _))), .inl t, .inl n], (nw, sp, tl, tx, al) => []
  | _, _ => []
set_option maxHeartbeats 16000000 in
set_option maxRecDepth 100000 in
theorem vq_saved (lc : Launch) (h_has_trains : mq_Ct lc cq_has_trains) (h_isAmong : mq_Ct lc cq_isAmong) (h_runTrain : mq_Ct lc cq_runTrain) (h_ticksKeepingAll : mq_Ct lc cq_ticksKeepingAll) (h_platformsOf : mq_Ct lc cq_platformsOf) : mq_Ct lc cq_saved := by
  refine mq_method (lc := lc) (P := pq_saved) (cl := [cq_has_trains, cq_isAmong, cq_runTrain, cq_ticksKeepingAll, cq_platformsOf]) (T := ([(27, 10, 3), (193, 3, 7), (80, 10, 12), (407, 2, 4)], [(242, (-1000000))], [], [(139, 0, 0), (176, 1, 1), (265, 2, 0), (401, 3, 0), (404, 4, 0)], [], [])) (fuel := 400) (cuts := kq_saved) (by decide) rfl ⟨rfl, rfl⟩ (List.forall_mem_cons.mpr ⟨h_has_trains, (List.forall_mem_cons.mpr ⟨h_isAmong, (List.forall_mem_cons.mpr ⟨h_runTrain, (List.forall_mem_cons.mpr ⟨h_ticksKeepingAll, (List.forall_mem_cons.mpr ⟨h_platformsOf, (fun _ h => absurd h List.not_mem_nil)⟩)⟩)⟩)⟩)⟩) ⟨(List.forall_mem_cons.mpr ⟨⟨_, rfl, by decide, kw_514⟩, (List.forall_mem_cons.mpr ⟨⟨_, rfl, by decide, kw_573⟩, (List.forall_mem_cons.mpr ⟨⟨_, rfl, by decide, kw_623⟩, (List.forall_mem_cons.mpr ⟨⟨_, rfl, by decide, kw_724⟩, (fun _ h => absurd h List.not_mem_nil)⟩)⟩)⟩)⟩), (List.forall_mem_cons.mpr ⟨kw_606, (fun _ h => absurd h List.not_mem_nil)⟩), (fun _ h => absurd h List.not_mem_nil), (List.forall_mem_cons.mpr ⟨mq_ml0 rfl mw0_has_trains kw_543, (List.forall_mem_cons.mpr ⟨mq_ml1 rfl mw1_isAmong kw_568, (List.forall_mem_cons.mpr ⟨mq_ml0 rfl mw0_runTrain kw_624, (List.forall_mem_cons.mpr ⟨mq_ml0 rfl mw0_ticksKeepingAll kw_728, (List.forall_mem_cons.mpr ⟨mq_ml0 rfl mw0_platformsOf kw_732, (fun _ h => absurd h List.not_mem_nil)⟩)⟩)⟩)⟩)⟩), (fun _ h => absurd h List.not_mem_nil), (fun _ h => absurd h List.not_mem_nil)⟩ (by decide +kernel) ⟨_, _, rfl⟩ ?_ ?_ ?_ ?_
  · intro as ρ μ h
    obtain ⟨nw, sp, tl, tx, al⟩ := ρ
    obtain ⟨as0, rfl, h0⟩ := mq_pZ_spec h
    clear h
    obtain ⟨t, as1, rfl, h1⟩ := mq_pI_spec h0
    clear h0
    obtain ⟨n, as2, rfl, h2⟩ := mq_pI_spec h1
    clear h1
    obtain ⟨rfl, hp⟩ := mq_p0_spec h2
    clear h2
    rfl
  · intro as ρ μ h
    obtain ⟨nw, sp, tl, tx, al⟩ := ρ
    obtain ⟨as0, rfl, h0⟩ := mq_pZ_spec h
    clear h
    obtain ⟨t, as1, rfl, h1⟩ := mq_pI_spec h0
    clear h0
    obtain ⟨n, as2, rfl, h2⟩ := mq_pI_spec h1
    clear h1
    obtain ⟨rfl, hp⟩ := mq_p0_spec h2
    clear h2
    intro hrg
    obtain ⟨⟨ha1a, ha1b⟩, ⟨ha2a, ha2b⟩, -⟩ := hrg
    intro hbk
    have e0 : mq_l0 ([.inr (.inr (some (0, 0))), .inl t, .inl n] : List mq_V) 3 = [some (.inr (.inr (some (0, 0)))), some (.inl t), some (.inl n)] := rfl
    rw [e0]
    repeat' (first | refine And.intro ?_ ?_ | intro _)
    all_goals first | omega | rfl | exact trivial | (simp [mq_up] at * <;> omega)
  · intro as ρ μ h
    obtain ⟨nw, sp, tl, tx, al⟩ := ρ
    obtain ⟨as0, rfl, h0⟩ := mq_pZ_spec h
    clear h
    obtain ⟨t, as1, rfl, h1⟩ := mq_pI_spec h0
    clear h0
    obtain ⟨n, as2, rfl, h2⟩ := mq_pI_spec h1
    clear h1
    obtain ⟨rfl, hp⟩ := mq_p0_spec h2
    clear h2
    exact fun _ h => absurd h List.not_mem_nil
  · intro as ρ μ h
    obtain ⟨nw, sp, tl, tx, al⟩ := ρ
    obtain ⟨as0, rfl, h0⟩ := mq_pZ_spec h
    clear h
    obtain ⟨t, as1, rfl, h1⟩ := mq_pI_spec h0
    clear h0
    obtain ⟨n, as2, rfl, h2⟩ := mq_pI_spec h1
    clear h1
    obtain ⟨rfl, hp⟩ := mq_p0_spec h2
    clear h2
    intro hrg
    obtain ⟨⟨ha1a, ha1b⟩, ⟨ha2a, ha2b⟩, -⟩ := hrg
    exact fun _ h => absurd h List.not_mem_nil
def pq_tryPost : List mq_E := [(0, false, .aload 0), (1, false, .invokeinterface 10 3), (4, false, .invokeinterface 3 8), (7, false, .iload 1), (8, false, .iconst 0), (9, false, .invokestatic 0), (12, false, .istore 3), (13, false, .aload 0), (14, false, .invokeinterface 10 3), (17, false, .invokeinterface 3 8), (20, false, .iload 1), (21, false, .iconst 3), (22, false, .iload 2), (23, false, .invokestatic 1), (26, false, .aload 0), (27, false, .invokeinterface 10 12), (30, false, .iload 3), (31, false, .invokestatic 2), (34, false, .aload 0), (35, false, .invokeinterface 10 12), (38, false, .iload 1), (39, false, .invokestatic 3), (42, false, .ifCond .ne (Int.ofNat 53)), (45, false, .aload 0), (46, false, .invokeinterface 10 3), (49, false, .invokeinterface 3 0), (52, false, .ireturn), (53, false, .aload 0), (54, false, .invokeinterface 10 12), (57, false, .iload 3), (58, false, .aload 0), (59, false, .invokeinterface 10 12), (62, false, .invokeinterface 2 5), (65, false, .iload 1), (66, false, .iaload), (67, false, .invokestatic 4), (70, false, .ireturn)]
def cq_tryPost : mq_C := ((yX10_tryPost, cX10_tryPost, 4, (some .int), { frames := 4, cells := 0, slots := 0, locals := 95 }), (3, 1, 0, 0), 580267261624320, (fun as ρ μ => match ρ with
  | (nw, sp, tl, tx, al) => mq_pZ as 0 fun as => mq_pI as fun c as => mq_pI as fun y as => mq_p0 as (0 ≤ y ∧ y ≤ 400)),
  (fun as ρ μ r ρ' μ' => match as, ρ, ρ' with
  | [.inr (.inr (some (_, _))), .inl c, .inl y], (nw, sp, tl, tx, al), (nw', sp', tl', tx', al') => []
  | _, _, _ => []))
def kq_tryPost : List mq_V → mq_R → mq_M → List mq_Cu := fun as ρ μ => match as, ρ with
  | [.inr (.inr (some (_, _))), .inl c, .inl y], (nw, sp, tl, tx, al) => []
  | _, _ => []
set_option maxHeartbeats 16000000 in
set_option maxRecDepth 100000 in
theorem vq_tryPost (lc : Launch) (h_get_coaches : mq_Ct lc cq_get_coaches) (h_set_coaches : mq_Ct lc cq_set_coaches) (h_runTrain : mq_Ct lc cq_runTrain) (h_isLetGo : mq_Ct lc cq_isLetGo) (h_frontOf : mq_Ct lc cq_frontOf) : mq_Ct lc cq_tryPost := by
  refine mq_method (lc := lc) (P := pq_tryPost) (cl := [cq_get_coaches, cq_set_coaches, cq_runTrain, cq_isLetGo, cq_frontOf]) (T := ([(27, 10, 3), (173, 3, 8), (80, 10, 12), (128, 3, 0), (274, 2, 5)], [], [], [(179, 0, 0), (189, 1, 0), (265, 2, 0), (271, 3, 0), (416, 4, 0)], [], [])) (fuel := 400) (cuts := kq_tryPost) (by decide) rfl ⟨rfl, rfl⟩ (List.forall_mem_cons.mpr ⟨h_get_coaches, (List.forall_mem_cons.mpr ⟨h_set_coaches, (List.forall_mem_cons.mpr ⟨h_runTrain, (List.forall_mem_cons.mpr ⟨h_isLetGo, (List.forall_mem_cons.mpr ⟨h_frontOf, (fun _ h => absurd h List.not_mem_nil)⟩)⟩)⟩)⟩)⟩) ⟨(List.forall_mem_cons.mpr ⟨⟨_, rfl, by decide, kw_514⟩, (List.forall_mem_cons.mpr ⟨⟨_, rfl, by decide, kw_567⟩, (List.forall_mem_cons.mpr ⟨⟨_, rfl, by decide, kw_623⟩, (List.forall_mem_cons.mpr ⟨⟨_, rfl, by decide, kw_537⟩, (List.forall_mem_cons.mpr ⟨⟨_, rfl, by decide, kw_629⟩, (fun _ h => absurd h List.not_mem_nil)⟩)⟩)⟩)⟩)⟩), (fun _ h => absurd h List.not_mem_nil), (fun _ h => absurd h List.not_mem_nil), (List.forall_mem_cons.mpr ⟨mq_ml0 rfl mw0_get_coaches kw_569, (List.forall_mem_cons.mpr ⟨mq_ml0 rfl mw0_set_coaches kw_572, (List.forall_mem_cons.mpr ⟨mq_ml0 rfl mw0_runTrain kw_624, (List.forall_mem_cons.mpr ⟨mq_ml0 rfl mw0_isLetGo kw_632, (List.forall_mem_cons.mpr ⟨mq_ml0 rfl mw0_frontOf kw_733, (fun _ h => absurd h List.not_mem_nil)⟩)⟩)⟩)⟩)⟩), (fun _ h => absurd h List.not_mem_nil), (fun _ h => absurd h List.not_mem_nil)⟩ (by decide +kernel) ⟨_, _, rfl⟩ ?_ ?_ ?_ ?_
  · intro as ρ μ h
    obtain ⟨nw, sp, tl, tx, al⟩ := ρ
    obtain ⟨as0, rfl, h0⟩ := mq_pZ_spec h
    clear h
    obtain ⟨c, as1, rfl, h1⟩ := mq_pI_spec h0
    clear h0
    obtain ⟨y, as2, rfl, h2⟩ := mq_pI_spec h1
    clear h1
    obtain ⟨rfl, hp⟩ := mq_p0_spec h2
    clear h2
    obtain ⟨hp0, hp1⟩ := hp
    rfl
  · intro as ρ μ h
    obtain ⟨nw, sp, tl, tx, al⟩ := ρ
    obtain ⟨as0, rfl, h0⟩ := mq_pZ_spec h
    clear h
    obtain ⟨c, as1, rfl, h1⟩ := mq_pI_spec h0
    clear h0
    obtain ⟨y, as2, rfl, h2⟩ := mq_pI_spec h1
    clear h1
    obtain ⟨rfl, hp⟩ := mq_p0_spec h2
    clear h2
    obtain ⟨hp0, hp1⟩ := hp
    intro hrg
    obtain ⟨⟨ha1a, ha1b⟩, ⟨ha2a, ha2b⟩, -⟩ := hrg
    intro hbk
    have e0 : mq_l0 ([.inr (.inr (some (0, 0))), .inl c, .inl y] : List mq_V) 4 = [some (.inr (.inr (some (0, 0)))), some (.inl c), some (.inl y), none] := rfl
    rw [e0]
    repeat' (first | refine And.intro ?_ ?_ | intro _)
    all_goals first | omega | rfl | exact trivial | (simp [mq_up] at * <;> omega)
  · intro as ρ μ h
    obtain ⟨nw, sp, tl, tx, al⟩ := ρ
    obtain ⟨as0, rfl, h0⟩ := mq_pZ_spec h
    clear h
    obtain ⟨c, as1, rfl, h1⟩ := mq_pI_spec h0
    clear h0
    obtain ⟨y, as2, rfl, h2⟩ := mq_pI_spec h1
    clear h1
    obtain ⟨rfl, hp⟩ := mq_p0_spec h2
    clear h2
    obtain ⟨hp0, hp1⟩ := hp
    exact fun _ h => absurd h List.not_mem_nil
  · intro as ρ μ h
    obtain ⟨nw, sp, tl, tx, al⟩ := ρ
    obtain ⟨as0, rfl, h0⟩ := mq_pZ_spec h
    clear h
    obtain ⟨c, as1, rfl, h1⟩ := mq_pI_spec h0
    clear h0
    obtain ⟨y, as2, rfl, h2⟩ := mq_pI_spec h1
    clear h1
    obtain ⟨rfl, hp⟩ := mq_p0_spec h2
    clear h2
    obtain ⟨hp0, hp1⟩ := hp
    intro hrg
    obtain ⟨⟨ha1a, ha1b⟩, ⟨ha2a, ha2b⟩, -⟩ := hrg
    exact fun _ h => absurd h List.not_mem_nil
theorem mw0_tryPost : mq_mlA cq_tryPost 0 := ⟨kw_734, ⟨by decide +kernel, by decide +kernel⟩, by decide +kernel, kw_735, kw_736, kw_95, 0, by decide +kernel, fun as ρ μ h => by obtain ⟨nw, sp, tl, tx, al⟩ := ρ; obtain ⟨t, e, _⟩ := mq_pZ_spec h; exact ⟨0, t, e⟩⟩
def pq_best : List mq_E := [(0, false, .aload 0), (1, false, .invokeinterface 10 3), (4, false, .invokeinterface 3 8), (7, false, .iload 1), (8, false, .invokestatic 0), (11, false, .ifCond .ne (Int.ofNat 17)), (14, false, .iconst (-2)), (16, false, .ireturn), (17, false, .aload 0), (18, false, .iload 1), (19, false, .invokestatic 1), (22, false, .aload 0), (23, false, .invokeinterface 10 3), (26, false, .invokeinterface 3 8), (29, false, .iload 1), (30, false, .iconst 3), (31, false, .invokestatic 2), (34, false, .istore 2), (35, false, .iconst (-1)), (36, false, .istore 3), (37, false, .iconst 0), (38, false, .istore 4), (40, false, .iconst (-1)), (41, false, .istore 5), (43, false, .iconst 0), (44, false, .istore 6), (46, true, .iload 6), (48, false, .aload 0), (49, false, .invokeinterface 10 3), (52, false, .invokeinterface 3 0), (55, false, .if_icmp .gt (Int.ofNat 120)), (58, false, .iload 6), (60, false, .iload 5), (62, false, .if_icmp .le (Int.ofNat 114)), (65, false, .aload 0), (66, false, .iload 1), (67, false, .iload 6), (69, false, .invokestatic 3), (72, false, .istore 5), (74, false, .aload 0), (75, false, .invokeinterface 10 12), (78, false, .iload 1), (79, false, .invokestatic 4), (82, false, .ifCond .eq (Int.ofNat 114)), (85, false, .iload 3), (86, false, .iconst (-1)), (87, false, .if_icmp .eq (Int.ofNat 102)), (90, false, .aload 0), (91, false, .invokeinterface 10 10), (94, false, .invokeinterface 1 4), (97, false, .iload 4), (99, false, .if_icmp .ge (Int.ofNat 114)), (102, false, .iload 6), (104, false, .istore 3), (105, false, .aload 0), (106, false, .invokeinterface 10 10), (109, false, .invokeinterface 1 4), (112, false, .istore 4), (114, false, .iinc 6 1), (117, false, .goto (Int.ofNat 46)), (120, false, .aload 0), (121, false, .invokeinterface 10 3), (124, false, .invokeinterface 3 8), (127, false, .iload 1), (128, false, .iconst 3), (129, false, .iload 2), (130, false, .invokestatic 5), (133, false, .iload 3), (134, false, .ireturn)]
def cq_best : mq_C := ((yX10_best, cX10_best, 7, (some .int), { frames := 5, cells := 16, slots := 6416, locals := 125 }), (2, 1, 1, 1), 580281220268034, (fun as ρ μ => match ρ with
  | (nw, sp, tl, tx, al) => mq_pZ as 0 fun as => mq_pI as fun c as => mq_p0 as (True)),
  (fun as ρ μ r ρ' μ' => match as, ρ, ρ' with
  | [.inr (.inr (some (_, _))), .inl c], (nw, sp, tl, tx, al), (nw', sp', tl', tx', al') => []
  | _, _, _ => []))
def kq_best : List mq_V → mq_R → mq_M → List mq_Cu := fun as ρ μ => match as, ρ with
  | [.inr (.inr (some (_, _))), .inl c], (nw, sp, tl, tx, al) => [(46, [true, true, true, true, true, true, true], fun N l st ρ' μ' cs => mq_tZ l 0 fun l => mq_tI l fun v1 l => mq_tI l fun v2 l => mq_tI l fun v3 l => mq_tI l fun v4 l => mq_tI l fun v5 l => mq_tI l fun v6 l => mq_t0 l (st = [] ∧ (ρ'.1 = nw ∧ ρ'.2.1 = sp ∧ ρ'.2.2.1 = tl ∧ ρ'.2.2.2.1 = tx) ∧ cs = 1 ∧ v1 = c ∧ 0 ≤ v2 ∧ v2 ≤ 400 ∧ 0 ≤ v6 ∧ v6 ≤ 401 ∧ 0 ≤ (401 - v6 : Int) ∧ (401 - v6 : Int) < (N : Int)))]
  | _, _ => []
set_option maxHeartbeats 16000000 in
set_option maxRecDepth 100000 in
theorem vq_best (lc : Launch) (h_has_coaches : mq_Ct lc cq_has_coaches) (h_prepareFor : mq_Ct lc cq_prepareFor) (h_get_coaches : mq_Ct lc cq_get_coaches) (h_tryPost : mq_Ct lc cq_tryPost) (h_followHandling : mq_Ct lc cq_followHandling) (h_set_coaches : mq_Ct lc cq_set_coaches) : mq_Ct lc cq_best := by
  refine mq_method (lc := lc) (P := pq_best) (cl := [cq_has_coaches, cq_prepareFor, cq_get_coaches, cq_tryPost, cq_followHandling, cq_set_coaches]) (T := ([(27, 10, 3), (173, 3, 8), (128, 3, 0), (80, 10, 12), (64, 10, 10), (209, 1, 4)], [], [], [(139, 0, 0), (286, 1, 0), (179, 2, 0), (410, 3, 0), (413, 4, 0), (189, 5, 0)], [], [])) (fuel := 400) (cuts := kq_best) (by decide) rfl ⟨rfl, rfl⟩ (List.forall_mem_cons.mpr ⟨h_has_coaches, (List.forall_mem_cons.mpr ⟨h_prepareFor, (List.forall_mem_cons.mpr ⟨h_get_coaches, (List.forall_mem_cons.mpr ⟨h_tryPost, (List.forall_mem_cons.mpr ⟨h_followHandling, (List.forall_mem_cons.mpr ⟨h_set_coaches, (fun _ h => absurd h List.not_mem_nil)⟩)⟩)⟩)⟩)⟩)⟩) ⟨(List.forall_mem_cons.mpr ⟨⟨_, rfl, by decide, kw_514⟩, (List.forall_mem_cons.mpr ⟨⟨_, rfl, by decide, kw_567⟩, (List.forall_mem_cons.mpr ⟨⟨_, rfl, by decide, kw_537⟩, (List.forall_mem_cons.mpr ⟨⟨_, rfl, by decide, kw_623⟩, (List.forall_mem_cons.mpr ⟨⟨_, rfl, by decide, kw_515⟩, (List.forall_mem_cons.mpr ⟨⟨_, rfl, by decide, kw_580⟩, (fun _ h => absurd h List.not_mem_nil)⟩)⟩)⟩)⟩)⟩)⟩), (fun _ h => absurd h List.not_mem_nil), (fun _ h => absurd h List.not_mem_nil), (List.forall_mem_cons.mpr ⟨mq_ml0 rfl mw0_has_coaches kw_543, (List.forall_mem_cons.mpr ⟨mq_ml0 rfl mw0_prepareFor kw_637, (List.forall_mem_cons.mpr ⟨mq_ml0 rfl mw0_get_coaches kw_569, (List.forall_mem_cons.mpr ⟨mq_ml0 rfl mw0_tryPost kw_737, (List.forall_mem_cons.mpr ⟨mq_ml0 rfl mw0_followHandling kw_741, (List.forall_mem_cons.mpr ⟨mq_ml0 rfl mw0_set_coaches kw_572, (fun _ h => absurd h List.not_mem_nil)⟩)⟩)⟩)⟩)⟩)⟩), (fun _ h => absurd h List.not_mem_nil), (fun _ h => absurd h List.not_mem_nil)⟩ (by decide +kernel) ⟨_, _, rfl⟩ ?_ ?_ ?_ ?_
  · intro as ρ μ h
    obtain ⟨nw, sp, tl, tx, al⟩ := ρ
    obtain ⟨as0, rfl, h0⟩ := mq_pZ_spec h
    clear h
    obtain ⟨c, as1, rfl, h1⟩ := mq_pI_spec h0
    clear h0
    obtain ⟨rfl, hp⟩ := mq_p0_spec h1
    clear h1
    rfl
  · intro as ρ μ h
    obtain ⟨nw, sp, tl, tx, al⟩ := ρ
    obtain ⟨as0, rfl, h0⟩ := mq_pZ_spec h
    clear h
    obtain ⟨c, as1, rfl, h1⟩ := mq_pI_spec h0
    clear h0
    obtain ⟨rfl, hp⟩ := mq_p0_spec h1
    clear h1
    intro hrg
    obtain ⟨⟨ha1a, ha1b⟩, -⟩ := hrg
    intro hbk
    have e0 : mq_l0 ([.inr (.inr (some (0, 0))), .inl c] : List mq_V) 7 = [some (.inr (.inr (some (0, 0)))), some (.inl c), none, none, none, none, none] := rfl
    rw [e0]
    repeat' (first | refine And.intro ?_ ?_ | intro _)
    all_goals first | omega | rfl | exact trivial | (simp [mq_up] at * <;> omega)
  · intro as ρ μ h
    obtain ⟨nw, sp, tl, tx, al⟩ := ρ
    obtain ⟨as0, rfl, h0⟩ := mq_pZ_spec h
    clear h
    obtain ⟨c, as1, rfl, h1⟩ := mq_pI_spec h0
    clear h0
    obtain ⟨rfl, hp⟩ := mq_p0_spec h1
    clear h1
    refine List.forall_mem_cons.mpr ⟨?_, ?_⟩
    · intro l st ρ' μ' cs hJ
      obtain ⟨nw2, sp2, tl2, tx2, al2⟩ := ρ'
      obtain ⟨l0, rfl, hJ0⟩ := mq_tZ_spec hJ
      clear hJ
      obtain ⟨v1, l1, rfl, hJ1⟩ := mq_tI_spec hJ0
      clear hJ0
      obtain ⟨v2, l2, rfl, hJ2⟩ := mq_tI_spec hJ1
      clear hJ1
      obtain ⟨v3, l3, rfl, hJ3⟩ := mq_tI_spec hJ2
      clear hJ2
      obtain ⟨v4, l4, rfl, hJ4⟩ := mq_tI_spec hJ3
      clear hJ3
      obtain ⟨v5, l5, rfl, hJ5⟩ := mq_tI_spec hJ4
      clear hJ4
      obtain ⟨v6, l6, rfl, hJ6⟩ := mq_tI_spec hJ5
      clear hJ5
      obtain ⟨rfl, hJz⟩ := mq_t0_spec hJ6
      clear hJ6
      obtain ⟨rfl, ⟨e1, e2, e3, e4⟩, rfl, hc0, hc1, hc2, hc3, hc4, hm0, hm1⟩ := hJz
      dsimp only at e1 e2 e3 e4
      subst e1 e2 e3 e4
      omega
    exact fun _ h => absurd h List.not_mem_nil
  · intro as ρ μ h
    obtain ⟨nw, sp, tl, tx, al⟩ := ρ
    obtain ⟨as0, rfl, h0⟩ := mq_pZ_spec h
    clear h
    obtain ⟨c, as1, rfl, h1⟩ := mq_pI_spec h0
    clear h0
    obtain ⟨rfl, hp⟩ := mq_p0_spec h1
    clear h1
    intro hrg
    obtain ⟨⟨ha1a, ha1b⟩, -⟩ := hrg
    refine List.forall_mem_cons.mpr ⟨?_, ?_⟩
    · intro N l st ρ' μ' cs hJ
      obtain ⟨nw2, sp2, tl2, tx2, al2⟩ := ρ'
      obtain ⟨l0, rfl, hJ0⟩ := mq_tZ_spec hJ
      clear hJ
      obtain ⟨v1, l1, rfl, hJ1⟩ := mq_tI_spec hJ0
      clear hJ0
      obtain ⟨v2, l2, rfl, hJ2⟩ := mq_tI_spec hJ1
      clear hJ1
      obtain ⟨v3, l3, rfl, hJ3⟩ := mq_tI_spec hJ2
      clear hJ2
      obtain ⟨v4, l4, rfl, hJ4⟩ := mq_tI_spec hJ3
      clear hJ3
      obtain ⟨v5, l5, rfl, hJ5⟩ := mq_tI_spec hJ4
      clear hJ4
      obtain ⟨v6, l6, rfl, hJ6⟩ := mq_tI_spec hJ5
      clear hJ5
      obtain ⟨rfl, hJz⟩ := mq_t0_spec hJ6
      clear hJ6
      obtain ⟨rfl, ⟨e1, e2, e3, e4⟩, rfl, hc0, hc1, hc2, hc3, hc4, hm0, hm1⟩ := hJz
      dsimp only at e1 e2 e3 e4
      subst e1 e2 e3 e4
      intro hbk hrl
      obtain ⟨⟨hl1a, hl1b⟩, ⟨hl2a, hl2b⟩, ⟨hl3a, hl3b⟩, ⟨hl4a, hl4b⟩, ⟨hl5a, hl5b⟩, ⟨hl6a, hl6b⟩, -⟩ := hrl
      repeat' (first | refine And.intro ?_ ?_ | intro _)
      all_goals first | omega | rfl | exact trivial | (simp [mq_up] at * <;> omega)
    exact fun _ h => absurd h List.not_mem_nil
def pq_margin : List mq_E := [(0, false, .aload 0), (1, false, .invokeinterface 10 3), (4, false, .invokeinterface 3 8), (7, false, .iload 1), (8, false, .invokestatic 0), (11, false, .ifCond .eq (Int.ofNat 23)), (14, false, .iload 2), (15, false, .iconst 0), (16, false, .iconst 1), (17, false, .invokestatic 1), (20, false, .ifCond .ne (Int.ofNat 26)), (23, false, .iconst (-2)), (25, false, .ireturn), (26, false, .aload 0), (27, false, .iload 1), (28, false, .invokestatic 2), (31, false, .aload 0), (32, false, .invokeinterface 10 3), (35, false, .invokeinterface 3 8), (38, false, .iload 1), (39, false, .iconst 3), (40, false, .invokestatic 3), (43, false, .istore 3), (44, false, .iconst (-1)), (45, false, .istore 4), (47, false, .iconst (-1)), (48, false, .istore 5), (50, false, .iconst (-1)), (51, false, .istore 6), (53, false, .iconst 0), (54, false, .istore 7), (56, false, .iconst 0), (57, false, .istore 8), (59, true, .iload 8), (61, false, .aload 0), (62, false, .invokeinterface 10 3), (65, false, .invokeinterface 3 0), (68, false, .if_icmp .gt (Int.ofNat 127)), (71, false, .iload 8), (73, false, .iload 6), (75, false, .if_icmp .le (Int.ofNat 97)), (78, false, .aload 0), (79, false, .iload 1), (80, false, .iload 8), (82, false, .invokestatic 4), (85, false, .istore 6), (87, false, .aload 0), (88, false, .invokeinterface 10 12), (91, false, .iload 1), (92, false, .invokestatic 5), (95, false, .istore 7), (97, false, .iload 7), (99, false, .ifCond .eq (Int.ofNat 121)), (102, false, .iload 4), (104, false, .iconst (-1)), (105, false, .if_icmp .ne (Int.ofNat 113)), (108, false, .iload 8), (110, false, .goto (Int.ofNat 115)), (113, false, .iload 4), (115, false, .istore 4), (117, false, .iload 8), (119, false, .istore 5), (121, false, .iinc 8 1), (124, false, .goto (Int.ofNat 59)), (127, false, .aload 0), (128, false, .invokeinterface 10 3), (131, false, .invokeinterface 3 8), (134, false, .iload 1), (135, false, .iconst 3), (136, false, .iload 3), (137, false, .invokestatic 6), (140, false, .iload 2), (141, false, .ifCond .ne (Int.ofNat 149)), (144, false, .iload 4), (146, false, .goto (Int.ofNat 151)), (149, false, .iload 5), (151, false, .ireturn)]
def cq_margin : mq_C := ((yX10_margin, cX10_margin, 9, (some .int), { frames := 5, cells := 16, slots := 6416, locals := 125 }), (3, 1, 1, 1), 580281220268034, (fun as ρ μ => match ρ with
  | (nw, sp, tl, tx, al) => mq_pZ as 0 fun as => mq_pI as fun c as => mq_pI as fun w as => mq_p0 as (True)),
  (fun as ρ μ r ρ' μ' => match as, ρ, ρ' with
  | [.inr (.inr (some (_, _))), .inl c, .inl w], (nw, sp, tl, tx, al), (nw', sp', tl', tx', al') => []
  | _, _, _ => []))
def kq_margin : List mq_V → mq_R → mq_M → List mq_Cu := fun as ρ μ => match as, ρ with
  | [.inr (.inr (some (_, _))), .inl c, .inl w], (nw, sp, tl, tx, al) => [(59, [true, true, true, true, true, true, true, true, true], fun N l st ρ' μ' cs => mq_tZ l 0 fun l => mq_tI l fun v1 l => mq_tI l fun v2 l => mq_tI l fun v3 l => mq_tI l fun v4 l => mq_tI l fun v5 l => mq_tI l fun v6 l => mq_tI l fun v7 l => mq_tI l fun v8 l => mq_t0 l (st = [] ∧ (ρ'.1 = nw ∧ ρ'.2.1 = sp ∧ ρ'.2.2.1 = tl ∧ ρ'.2.2.2.1 = tx) ∧ cs = 1 ∧ v1 = c ∧ v2 = w ∧ 0 ≤ v3 ∧ v3 ≤ 400 ∧ 0 ≤ v8 ∧ v8 ≤ 401 ∧ 0 ≤ (401 - v8 : Int) ∧ (401 - v8 : Int) < (N : Int)))]
  | _, _ => []
set_option maxHeartbeats 16000000 in
set_option maxRecDepth 100000 in
theorem vq_margin (lc : Launch) (h_has_coaches : mq_Ct lc cq_has_coaches) (h_isAmong : mq_Ct lc cq_isAmong) (h_prepareFor : mq_Ct lc cq_prepareFor) (h_get_coaches : mq_Ct lc cq_get_coaches) (h_tryPost : mq_Ct lc cq_tryPost) (h_followHandling : mq_Ct lc cq_followHandling) (h_set_coaches : mq_Ct lc cq_set_coaches) : mq_Ct lc cq_margin := by
  refine mq_method (lc := lc) (P := pq_margin) (cl := [cq_has_coaches, cq_isAmong, cq_prepareFor, cq_get_coaches, cq_tryPost, cq_followHandling, cq_set_coaches]) (T := ([(27, 10, 3), (173, 3, 8), (128, 3, 0), (80, 10, 12)], [], [], [(139, 0, 0), (176, 1, 1), (286, 2, 0), (179, 3, 0), (410, 4, 0), (413, 5, 0), (189, 6, 0)], [], [])) (fuel := 400) (cuts := kq_margin) (by decide) rfl ⟨rfl, rfl⟩ (List.forall_mem_cons.mpr ⟨h_has_coaches, (List.forall_mem_cons.mpr ⟨h_isAmong, (List.forall_mem_cons.mpr ⟨h_prepareFor, (List.forall_mem_cons.mpr ⟨h_get_coaches, (List.forall_mem_cons.mpr ⟨h_tryPost, (List.forall_mem_cons.mpr ⟨h_followHandling, (List.forall_mem_cons.mpr ⟨h_set_coaches, (fun _ h => absurd h List.not_mem_nil)⟩)⟩)⟩)⟩)⟩)⟩)⟩) ⟨(List.forall_mem_cons.mpr ⟨⟨_, rfl, by decide, kw_514⟩, (List.forall_mem_cons.mpr ⟨⟨_, rfl, by decide, kw_567⟩, (List.forall_mem_cons.mpr ⟨⟨_, rfl, by decide, kw_537⟩, (List.forall_mem_cons.mpr ⟨⟨_, rfl, by decide, kw_623⟩, (fun _ h => absurd h List.not_mem_nil)⟩)⟩)⟩)⟩), (fun _ h => absurd h List.not_mem_nil), (fun _ h => absurd h List.not_mem_nil), (List.forall_mem_cons.mpr ⟨mq_ml0 rfl mw0_has_coaches kw_543, (List.forall_mem_cons.mpr ⟨mq_ml1 rfl mw1_isAmong kw_568, (List.forall_mem_cons.mpr ⟨mq_ml0 rfl mw0_prepareFor kw_637, (List.forall_mem_cons.mpr ⟨mq_ml0 rfl mw0_get_coaches kw_569, (List.forall_mem_cons.mpr ⟨mq_ml0 rfl mw0_tryPost kw_737, (List.forall_mem_cons.mpr ⟨mq_ml0 rfl mw0_followHandling kw_741, (List.forall_mem_cons.mpr ⟨mq_ml0 rfl mw0_set_coaches kw_572, (fun _ h => absurd h List.not_mem_nil)⟩)⟩)⟩)⟩)⟩)⟩)⟩), (fun _ h => absurd h List.not_mem_nil), (fun _ h => absurd h List.not_mem_nil)⟩ (by decide +kernel) ⟨_, _, rfl⟩ ?_ ?_ ?_ ?_
  · intro as ρ μ h
    obtain ⟨nw, sp, tl, tx, al⟩ := ρ
    obtain ⟨as0, rfl, h0⟩ := mq_pZ_spec h
    clear h
    obtain ⟨c, as1, rfl, h1⟩ := mq_pI_spec h0
    clear h0
    obtain ⟨w, as2, rfl, h2⟩ := mq_pI_spec h1
    clear h1
    obtain ⟨rfl, hp⟩ := mq_p0_spec h2
    clear h2
    rfl
  · intro as ρ μ h
    obtain ⟨nw, sp, tl, tx, al⟩ := ρ
    obtain ⟨as0, rfl, h0⟩ := mq_pZ_spec h
    clear h
    obtain ⟨c, as1, rfl, h1⟩ := mq_pI_spec h0
    clear h0
    obtain ⟨w, as2, rfl, h2⟩ := mq_pI_spec h1
    clear h1
    obtain ⟨rfl, hp⟩ := mq_p0_spec h2
    clear h2
    intro hrg
    obtain ⟨⟨ha1a, ha1b⟩, ⟨ha2a, ha2b⟩, -⟩ := hrg
    intro hbk
    have e0 : mq_l0 ([.inr (.inr (some (0, 0))), .inl c, .inl w] : List mq_V) 9 = [some (.inr (.inr (some (0, 0)))), some (.inl c), some (.inl w), none, none, none, none, none, none] := rfl
    rw [e0]
    repeat' (first | refine And.intro ?_ ?_ | intro _)
    all_goals first | omega | rfl | exact trivial | (simp [mq_up] at * <;> omega)
  · intro as ρ μ h
    obtain ⟨nw, sp, tl, tx, al⟩ := ρ
    obtain ⟨as0, rfl, h0⟩ := mq_pZ_spec h
    clear h
    obtain ⟨c, as1, rfl, h1⟩ := mq_pI_spec h0
    clear h0
    obtain ⟨w, as2, rfl, h2⟩ := mq_pI_spec h1
    clear h1
    obtain ⟨rfl, hp⟩ := mq_p0_spec h2
    clear h2
    refine List.forall_mem_cons.mpr ⟨?_, ?_⟩
    · intro l st ρ' μ' cs hJ
      obtain ⟨nw2, sp2, tl2, tx2, al2⟩ := ρ'
      obtain ⟨l0, rfl, hJ0⟩ := mq_tZ_spec hJ
      clear hJ
      obtain ⟨v1, l1, rfl, hJ1⟩ := mq_tI_spec hJ0
      clear hJ0
      obtain ⟨v2, l2, rfl, hJ2⟩ := mq_tI_spec hJ1
      clear hJ1
      obtain ⟨v3, l3, rfl, hJ3⟩ := mq_tI_spec hJ2
      clear hJ2
      obtain ⟨v4, l4, rfl, hJ4⟩ := mq_tI_spec hJ3
      clear hJ3
      obtain ⟨v5, l5, rfl, hJ5⟩ := mq_tI_spec hJ4
      clear hJ4
      obtain ⟨v6, l6, rfl, hJ6⟩ := mq_tI_spec hJ5
      clear hJ5
      obtain ⟨v7, l7, rfl, hJ7⟩ := mq_tI_spec hJ6
      clear hJ6
      obtain ⟨v8, l8, rfl, hJ8⟩ := mq_tI_spec hJ7
      clear hJ7
      obtain ⟨rfl, hJz⟩ := mq_t0_spec hJ8
      clear hJ8
      obtain ⟨rfl, ⟨e1, e2, e3, e4⟩, rfl, hc0, hc1, hc2, hc3, hc4, hc5, hm0, hm1⟩ := hJz
      dsimp only at e1 e2 e3 e4
      subst e1 e2 e3 e4
      omega
    exact fun _ h => absurd h List.not_mem_nil
  · intro as ρ μ h
    obtain ⟨nw, sp, tl, tx, al⟩ := ρ
    obtain ⟨as0, rfl, h0⟩ := mq_pZ_spec h
    clear h
    obtain ⟨c, as1, rfl, h1⟩ := mq_pI_spec h0
    clear h0
    obtain ⟨w, as2, rfl, h2⟩ := mq_pI_spec h1
    clear h1
    obtain ⟨rfl, hp⟩ := mq_p0_spec h2
    clear h2
    intro hrg
    obtain ⟨⟨ha1a, ha1b⟩, ⟨ha2a, ha2b⟩, -⟩ := hrg
    refine List.forall_mem_cons.mpr ⟨?_, ?_⟩
    · intro N l st ρ' μ' cs hJ
      obtain ⟨nw2, sp2, tl2, tx2, al2⟩ := ρ'
      obtain ⟨l0, rfl, hJ0⟩ := mq_tZ_spec hJ
      clear hJ
      obtain ⟨v1, l1, rfl, hJ1⟩ := mq_tI_spec hJ0
      clear hJ0
      obtain ⟨v2, l2, rfl, hJ2⟩ := mq_tI_spec hJ1
      clear hJ1
      obtain ⟨v3, l3, rfl, hJ3⟩ := mq_tI_spec hJ2
      clear hJ2
      obtain ⟨v4, l4, rfl, hJ4⟩ := mq_tI_spec hJ3
      clear hJ3
      obtain ⟨v5, l5, rfl, hJ5⟩ := mq_tI_spec hJ4
      clear hJ4
      obtain ⟨v6, l6, rfl, hJ6⟩ := mq_tI_spec hJ5
      clear hJ5
      obtain ⟨v7, l7, rfl, hJ7⟩ := mq_tI_spec hJ6
      clear hJ6
      obtain ⟨v8, l8, rfl, hJ8⟩ := mq_tI_spec hJ7
      clear hJ7
      obtain ⟨rfl, hJz⟩ := mq_t0_spec hJ8
      clear hJ8
      obtain ⟨rfl, ⟨e1, e2, e3, e4⟩, rfl, hc0, hc1, hc2, hc3, hc4, hc5, hm0, hm1⟩ := hJz
      dsimp only at e1 e2 e3 e4
      subst e1 e2 e3 e4
      intro hbk hrl
      obtain ⟨⟨hl1a, hl1b⟩, ⟨hl2a, hl2b⟩, ⟨hl3a, hl3b⟩, ⟨hl4a, hl4b⟩, ⟨hl5a, hl5b⟩, ⟨hl6a, hl6b⟩, ⟨hl7a, hl7b⟩, ⟨hl8a, hl8b⟩, -⟩ := hrl
      repeat' (first | refine And.intro ?_ ?_ | intro _)
      all_goals first | omega | rfl | exact trivial | (simp [mq_up] at * <;> omega)
    exact fun _ h => absurd h List.not_mem_nil
def pq_slotsHeld : List mq_E := [(0, false, .iconst 0), (1, false, .istore 1), (2, false, .iconst 0), (3, false, .istore 2), (4, true, .iload 2), (5, false, .iconst 4), (6, false, .if_icmp .ge (Int.ofNat 30)), (9, false, .aload 0), (10, false, .invokeinterface 10 8), (13, false, .iload 2), (14, false, .aaload), (15, false, .invokestatic 0), (18, false, .ifCond .eq (Int.ofNat 24)), (21, false, .iinc 1 1), (24, false, .iinc 2 1), (27, false, .goto (Int.ofNat 4)), (30, false, .iload 1), (31, false, .ireturn)]
def cq_slotsHeld : mq_C := ((yX10_slotsHeld, cX10_slotsHeld, 3, (some .int), { frames := 1, cells := 0, slots := 0, locals := 20 }), (1, 1, 0, 0), 0, (fun as ρ μ => match ρ with
  | (nw, sp, tl, tx, al) => mq_pZ as 0 fun as => mq_p0 as (True)),
  (fun as ρ μ r ρ' μ' => match as, ρ, ρ' with
  | [.inr (.inr (some (_, _)))], (nw, sp, tl, tx, al), (nw', sp', tl', tx', al') => []
  | _, _, _ => []))
def kq_slotsHeld : List mq_V → mq_R → mq_M → List mq_Cu := fun as ρ μ => match as, ρ with
  | [.inr (.inr (some (_, _)))], (nw, sp, tl, tx, al) => [(4, [true, true, true], fun N l st ρ' μ' cs => mq_tZ l 0 fun l => mq_tI l fun v1 l => mq_tI l fun v2 l => mq_t0 l (st = [] ∧ ρ' = (nw, sp, tl, tx, al) ∧ cs = 0 ∧ 0 ≤ v2 ∧ v2 ≤ 4 ∧ 0 ≤ v1 ∧ v1 ≤ v2 ∧ 0 ≤ (4 - v2 : Int) ∧ (4 - v2 : Int) < (N : Int)))]
  | _, _ => []
set_option maxHeartbeats 16000000 in
set_option maxRecDepth 100000 in
theorem vq_slotsHeld (lc : Launch) (h_isHeld : mq_Ct lc cq_isHeld) : mq_Ct lc cq_slotsHeld := by
  refine mq_method (lc := lc) (P := pq_slotsHeld) (cl := [cq_isHeld]) (T := ([(48, 10, 8)], [], [], [(253, 0, 0)], [], [])) (fuel := 400) (cuts := kq_slotsHeld) (by decide) rfl ⟨rfl, rfl⟩ (List.forall_mem_cons.mpr ⟨h_isHeld, (fun _ h => absurd h List.not_mem_nil)⟩) ⟨(List.forall_mem_cons.mpr ⟨⟨_, rfl, by decide, kw_617⟩, (fun _ h => absurd h List.not_mem_nil)⟩), (fun _ h => absurd h List.not_mem_nil), (fun _ h => absurd h List.not_mem_nil), (List.forall_mem_cons.mpr ⟨mq_ml0 rfl mw0_isHeld kw_612, (fun _ h => absurd h List.not_mem_nil)⟩), (fun _ h => absurd h List.not_mem_nil), (fun _ h => absurd h List.not_mem_nil)⟩ (by decide +kernel) ⟨_, _, rfl⟩ ?_ ?_ ?_ ?_
  · intro as ρ μ h
    obtain ⟨nw, sp, tl, tx, al⟩ := ρ
    obtain ⟨as0, rfl, h0⟩ := mq_pZ_spec h
    clear h
    obtain ⟨rfl, hp⟩ := mq_p0_spec h0
    clear h0
    rfl
  · intro as ρ μ h
    obtain ⟨nw, sp, tl, tx, al⟩ := ρ
    obtain ⟨as0, rfl, h0⟩ := mq_pZ_spec h
    clear h
    obtain ⟨rfl, hp⟩ := mq_p0_spec h0
    clear h0
    intro hrg
    intro hbk
    have e0 : mq_l0 ([.inr (.inr (some (0, 0)))] : List mq_V) 3 = [some (.inr (.inr (some (0, 0)))), none, none] := rfl
    rw [e0]
    repeat' (first | refine And.intro ?_ ?_ | intro _)
    all_goals first | omega | rfl | exact trivial | (simp [mq_up] at * <;> omega)
  · intro as ρ μ h
    obtain ⟨nw, sp, tl, tx, al⟩ := ρ
    obtain ⟨as0, rfl, h0⟩ := mq_pZ_spec h
    clear h
    obtain ⟨rfl, hp⟩ := mq_p0_spec h0
    clear h0
    refine List.forall_mem_cons.mpr ⟨?_, ?_⟩
    · intro l st ρ' μ' cs hJ
      obtain ⟨l0, rfl, hJ0⟩ := mq_tZ_spec hJ
      clear hJ
      obtain ⟨v1, l1, rfl, hJ1⟩ := mq_tI_spec hJ0
      clear hJ0
      obtain ⟨v2, l2, rfl, hJ2⟩ := mq_tI_spec hJ1
      clear hJ1
      obtain ⟨rfl, hJz⟩ := mq_t0_spec hJ2
      clear hJ2
      obtain ⟨rfl, rfl, rfl, hc0, hc1, hc2, hc3, hm0, hm1⟩ := hJz
      omega
    exact fun _ h => absurd h List.not_mem_nil
  · intro as ρ μ h
    obtain ⟨nw, sp, tl, tx, al⟩ := ρ
    obtain ⟨as0, rfl, h0⟩ := mq_pZ_spec h
    clear h
    obtain ⟨rfl, hp⟩ := mq_p0_spec h0
    clear h0
    intro hrg
    refine List.forall_mem_cons.mpr ⟨?_, ?_⟩
    · intro N l st ρ' μ' cs hJ
      obtain ⟨l0, rfl, hJ0⟩ := mq_tZ_spec hJ
      clear hJ
      obtain ⟨v1, l1, rfl, hJ1⟩ := mq_tI_spec hJ0
      clear hJ0
      obtain ⟨v2, l2, rfl, hJ2⟩ := mq_tI_spec hJ1
      clear hJ1
      obtain ⟨rfl, hJz⟩ := mq_t0_spec hJ2
      clear hJ2
      obtain ⟨rfl, rfl, rfl, hc0, hc1, hc2, hc3, hm0, hm1⟩ := hJz
      intro hbk hrl
      obtain ⟨⟨hl1a, hl1b⟩, ⟨hl2a, hl2b⟩, -⟩ := hrl
      repeat' (first | refine And.intro ?_ ?_ | intro _)
      all_goals first | omega | rfl | exact trivial | (simp [mq_up] at * <;> omega)
    exact fun _ h => absurd h List.not_mem_nil
theorem mw0_slotsHeld : mq_mlA cq_slotsHeld 0 := ⟨kw_742, ⟨by decide +kernel, by decide +kernel⟩, by decide +kernel, kw_743, kw_744, kw_95, 0, by decide +kernel, fun as ρ μ h => by obtain ⟨nw, sp, tl, tx, al⟩ := ρ; obtain ⟨t, e, _⟩ := mq_pZ_spec h; exact ⟨0, t, e⟩⟩
def pq_count : List mq_E := [(0, false, .iload 1), (1, false, .tableswitch (Int.ofNat 130) 0 8 #[(Int.ofNat 52), (Int.ofNat 60), (Int.ofNat 71), (Int.ofNat 82), (Int.ofNat 93), (Int.ofNat 104), (Int.ofNat 112), (Int.ofNat 117), (Int.ofNat 125)]), (52, false, .aload 0), (53, false, .invokeinterface 10 3), (56, false, .invokeinterface 3 0), (59, false, .ireturn), (60, false, .aload 0), (61, false, .invokeinterface 10 3), (64, false, .invokeinterface 3 6), (67, false, .invokeinterface 6 3), (70, false, .ireturn), (71, false, .aload 0), (72, false, .invokeinterface 10 3), (75, false, .invokeinterface 3 5), (78, false, .invokeinterface 6 3), (81, false, .ireturn), (82, false, .aload 0), (83, false, .invokeinterface 10 3), (86, false, .invokeinterface 3 7), (89, false, .invokeinterface 6 3), (92, false, .ireturn), (93, false, .aload 0), (94, false, .invokeinterface 10 3), (97, false, .invokeinterface 3 8), (100, false, .invokeinterface 6 3), (103, false, .ireturn), (104, false, .aload 0), (105, false, .invokeinterface 10 3), (108, false, .invokeinterface 3 1), (111, false, .ireturn), (112, false, .aload 0), (113, false, .invokeinterface 10 1), (116, false, .ireturn), (117, false, .aload 0), (118, false, .invokeinterface 10 9), (121, false, .invokeinterface 9 5), (124, false, .ireturn), (125, false, .aload 0), (126, false, .invokestatic 0), (129, false, .ireturn), (130, false, .iconst (-1)), (131, false, .ireturn)]
def cq_count : mq_C := ((yX10_count, cX10_count, 2, (some .int), { frames := 2, cells := 0, slots := 0, locals := 42 }), (2, 1, 0, 0), 0, (fun as ρ μ => match ρ with
  | (nw, sp, tl, tx, al) => mq_pZ as 0 fun as => mq_pI as fun w as => mq_p0 as (True)),
  (fun as ρ μ r ρ' μ' => match as, ρ, ρ' with
  | [.inr (.inr (some (_, _))), .inl w], (nw, sp, tl, tx, al), (nw', sp', tl', tx', al') => []
  | _, _, _ => []))
def kq_count : List mq_V → mq_R → mq_M → List mq_Cu := fun as ρ μ => match as, ρ with
  | [.inr (.inr (some (_, _))), .inl w], (nw, sp, tl, tx, al) => []
  | _, _ => []
set_option maxHeartbeats 16000000 in
set_option maxRecDepth 100000 in
theorem vq_count (lc : Launch) (h_slotsHeld : mq_Ct lc cq_slotsHeld) : mq_Ct lc cq_count := by
  refine mq_method (lc := lc) (P := pq_count) (cl := [cq_slotsHeld]) (T := ([(27, 10, 3), (128, 3, 0), (135, 3, 6), (283, 6, 3), (152, 3, 5), (193, 3, 7), (173, 3, 8), (119, 3, 1), (13, 10, 1), (55, 10, 9), (183, 9, 5)], [], [], [(419, 0, 0)], [], [])) (fuel := 400) (cuts := kq_count) (by decide) rfl ⟨rfl, rfl⟩ (List.forall_mem_cons.mpr ⟨h_slotsHeld, (fun _ h => absurd h List.not_mem_nil)⟩) ⟨(List.forall_mem_cons.mpr ⟨⟨_, rfl, by decide, kw_514⟩, (List.forall_mem_cons.mpr ⟨⟨_, rfl, by decide, kw_537⟩, (List.forall_mem_cons.mpr ⟨⟨_, rfl, by decide, kw_542⟩, (List.forall_mem_cons.mpr ⟨⟨_, rfl, by decide, kw_633⟩, (List.forall_mem_cons.mpr ⟨⟨_, rfl, by decide, kw_548⟩, (List.forall_mem_cons.mpr ⟨⟨_, rfl, by decide, kw_573⟩, (List.forall_mem_cons.mpr ⟨⟨_, rfl, by decide, kw_567⟩, (List.forall_mem_cons.mpr ⟨⟨_, rfl, by decide, kw_527⟩, (List.forall_mem_cons.mpr ⟨⟨_, rfl, by decide, kw_507⟩, (List.forall_mem_cons.mpr ⟨⟨_, rfl, by decide, kw_513⟩, (List.forall_mem_cons.mpr ⟨⟨_, rfl, by decide, kw_570⟩, (fun _ h => absurd h List.not_mem_nil)⟩)⟩)⟩)⟩)⟩)⟩)⟩)⟩)⟩)⟩)⟩), (fun _ h => absurd h List.not_mem_nil), (fun _ h => absurd h List.not_mem_nil), (List.forall_mem_cons.mpr ⟨mq_ml0 rfl mw0_slotsHeld kw_745, (fun _ h => absurd h List.not_mem_nil)⟩), (fun _ h => absurd h List.not_mem_nil), (fun _ h => absurd h List.not_mem_nil)⟩ (by decide +kernel) ⟨_, _, rfl⟩ ?_ ?_ ?_ ?_
  · intro as ρ μ h
    obtain ⟨nw, sp, tl, tx, al⟩ := ρ
    obtain ⟨as0, rfl, h0⟩ := mq_pZ_spec h
    clear h
    obtain ⟨w, as1, rfl, h1⟩ := mq_pI_spec h0
    clear h0
    obtain ⟨rfl, hp⟩ := mq_p0_spec h1
    clear h1
    rfl
  · intro as ρ μ h
    obtain ⟨nw, sp, tl, tx, al⟩ := ρ
    obtain ⟨as0, rfl, h0⟩ := mq_pZ_spec h
    clear h
    obtain ⟨w, as1, rfl, h1⟩ := mq_pI_spec h0
    clear h0
    obtain ⟨rfl, hp⟩ := mq_p0_spec h1
    clear h1
    intro hrg
    obtain ⟨⟨ha1a, ha1b⟩, -⟩ := hrg
    intro hbk
    have e0 : mq_l0 ([.inr (.inr (some (0, 0))), .inl w] : List mq_V) 2 = [some (.inr (.inr (some (0, 0)))), some (.inl w)] := rfl
    rw [e0]
    repeat' (first | refine And.intro ?_ ?_ | intro _)
    all_goals first | omega | rfl | exact trivial | (simp [mq_up] at * <;> omega)
  · intro as ρ μ h
    obtain ⟨nw, sp, tl, tx, al⟩ := ρ
    obtain ⟨as0, rfl, h0⟩ := mq_pZ_spec h
    clear h
    obtain ⟨w, as1, rfl, h1⟩ := mq_pI_spec h0
    clear h0
    obtain ⟨rfl, hp⟩ := mq_p0_spec h1
    clear h1
    exact fun _ h => absurd h List.not_mem_nil
  · intro as ρ μ h
    obtain ⟨nw, sp, tl, tx, al⟩ := ρ
    obtain ⟨as0, rfl, h0⟩ := mq_pZ_spec h
    clear h
    obtain ⟨w, as1, rfl, h1⟩ := mq_pI_spec h0
    clear h0
    obtain ⟨rfl, hp⟩ := mq_p0_spec h1
    clear h1
    intro hrg
    obtain ⟨⟨ha1a, ha1b⟩, -⟩ := hrg
    exact fun _ h => absurd h List.not_mem_nil
def pq_keep : List mq_E := [(0, false, .iload 1), (1, false, .iconst 0), (2, false, .iconst 2), (3, false, .invokestatic 0), (6, false, .ifCond .ne (Int.ofNat 12)), (9, false, .iconst (-2)), (11, false, .ireturn), (12, false, .aload 0), (13, false, .invokeinterface 10 5), (16, false, .iload 1), (17, false, .aaload), (18, false, .aload 0), (19, false, .invokeinterface 10 3), (22, false, .invokestatic 1), (25, false, .aload 0), (26, false, .invokeinterface 10 6), (29, false, .iload 1), (30, false, .aload 0), (31, false, .invokeinterface 10 9), (34, false, .invokeinterface 9 5), (37, false, .iastore), (38, false, .aload 0), (39, false, .invokeinterface 10 7), (42, false, .iload 1), (43, false, .iconst 1), (44, false, .bastore), (45, false, .iconst 0), (46, false, .ireturn)]
def cq_keep : mq_C := ((yX10_keep, cX10_keep, 2, (some .int), { frames := 3, cells := 0, slots := 0, locals := 90 }), (2, 1, 0, 0), 12713980, (fun as ρ μ => match ρ with
  | (nw, sp, tl, tx, al) => mq_pZ as 0 fun as => mq_pI as fun k as => mq_p0 as (True)),
  (fun as ρ μ r ρ' μ' => match as, ρ, ρ' with
  | [.inr (.inr (some (_, _))), .inl k], (nw, sp, tl, tx, al), (nw', sp', tl', tx', al') => [(r = -2 ∧ ¬ (0 ≤ k ∧ k ≤ 2)) ∨ (r = 0 ∧ 0 ≤ k ∧ k ≤ 2), ∀ x : Nat, (r = 0 ∧ (x : Int) = k → μ' (23, 0) x = 1) ∧ (¬ (r = 0 ∧ (x : Int) = k) → μ' (23, 0) x = μ (23, 0) x)]
  | _, _, _ => []))
def kq_keep : List mq_V → mq_R → mq_M → List mq_Cu := fun as ρ μ => match as, ρ with
  | [.inr (.inr (some (_, _))), .inl k], (nw, sp, tl, tx, al) => []
  | _, _ => []
set_option maxHeartbeats 16000000 in
set_option maxRecDepth 100000 in
theorem vq_keep (lc : Launch) (h_isAmong : mq_Ct lc cq_isAmong) (h_copyLineX : mq_Ct lc cq_copyLineX) : mq_Ct lc cq_keep := by
  refine mq_method (lc := lc) (P := pq_keep) (cl := [cq_isAmong, cq_copyLineX]) (T := ([(34, 10, 5), (27, 10, 3), (38, 10, 6), (55, 10, 9), (183, 9, 5), (42, 10, 7)], [], [], [(176, 0, 1), (422, 1, 0)], [], [])) (fuel := 400) (cuts := kq_keep) (by decide) rfl ⟨rfl, rfl⟩ (List.forall_mem_cons.mpr ⟨h_isAmong, (List.forall_mem_cons.mpr ⟨h_copyLineX, (fun _ h => absurd h List.not_mem_nil)⟩)⟩) ⟨(List.forall_mem_cons.mpr ⟨⟨_, rfl, by decide, kw_746⟩, (List.forall_mem_cons.mpr ⟨⟨_, rfl, by decide, kw_514⟩, (List.forall_mem_cons.mpr ⟨⟨_, rfl, by decide, kw_747⟩, (List.forall_mem_cons.mpr ⟨⟨_, rfl, by decide, kw_513⟩, (List.forall_mem_cons.mpr ⟨⟨_, rfl, by decide, kw_570⟩, (List.forall_mem_cons.mpr ⟨⟨_, rfl, by decide, kw_748⟩, (fun _ h => absurd h List.not_mem_nil)⟩)⟩)⟩)⟩)⟩)⟩), (fun _ h => absurd h List.not_mem_nil), (fun _ h => absurd h List.not_mem_nil), (List.forall_mem_cons.mpr ⟨mq_ml1 rfl mw1_isAmong kw_568, (List.forall_mem_cons.mpr ⟨mq_ml0 rfl mw0_copyLineX kw_752, (fun _ h => absurd h List.not_mem_nil)⟩)⟩), (fun _ h => absurd h List.not_mem_nil), (fun _ h => absurd h List.not_mem_nil)⟩ (by decide +kernel) ⟨_, _, rfl⟩ ?_ ?_ ?_ ?_
  · intro as ρ μ h
    obtain ⟨nw, sp, tl, tx, al⟩ := ρ
    obtain ⟨as0, rfl, h0⟩ := mq_pZ_spec h
    clear h
    obtain ⟨k, as1, rfl, h1⟩ := mq_pI_spec h0
    clear h0
    obtain ⟨rfl, hp⟩ := mq_p0_spec h1
    clear h1
    rfl
  · intro as ρ μ h
    obtain ⟨nw, sp, tl, tx, al⟩ := ρ
    obtain ⟨as0, rfl, h0⟩ := mq_pZ_spec h
    clear h
    obtain ⟨k, as1, rfl, h1⟩ := mq_pI_spec h0
    clear h0
    obtain ⟨rfl, hp⟩ := mq_p0_spec h1
    clear h1
    intro hrg
    obtain ⟨⟨ha1a, ha1b⟩, -⟩ := hrg
    intro hbk
    have e0 : mq_l0 ([.inr (.inr (some (0, 0))), .inl k] : List mq_V) 2 = [some (.inr (.inr (some (0, 0)))), some (.inl k)] := rfl
    rw [e0]
    repeat' (first | refine And.intro ?_ ?_ | intro _)
    all_goals first | omega | rfl | exact trivial | (have hag := ‹mq_ag _ _ _›; rw [mq_up_ne _ _ _ (by simp), hag (23, 0) (by decide +kernel)]; simp [mq_up] <;> omega) | (have hag := ‹mq_ag _ _ _›; simp only [mq_up]; split <;> first | omega | (simp [hag (23, 0) (show Nat.testBit _ 23 = false by decide +kernel)] <;> omega) | rfl) | (simp [mq_up] at * <;> omega)
  · intro as ρ μ h
    obtain ⟨nw, sp, tl, tx, al⟩ := ρ
    obtain ⟨as0, rfl, h0⟩ := mq_pZ_spec h
    clear h
    obtain ⟨k, as1, rfl, h1⟩ := mq_pI_spec h0
    clear h0
    obtain ⟨rfl, hp⟩ := mq_p0_spec h1
    clear h1
    exact fun _ h => absurd h List.not_mem_nil
  · intro as ρ μ h
    obtain ⟨nw, sp, tl, tx, al⟩ := ρ
    obtain ⟨as0, rfl, h0⟩ := mq_pZ_spec h
    clear h
    obtain ⟨k, as1, rfl, h1⟩ := mq_pI_spec h0
    clear h0
    obtain ⟨rfl, hp⟩ := mq_p0_spec h1
    clear h1
    intro hrg
    obtain ⟨⟨ha1a, ha1b⟩, -⟩ := hrg
    exact fun _ h => absurd h List.not_mem_nil
def pq_back : List mq_E := [(0, false, .iload 1), (1, false, .iconst 0), (2, false, .iconst 2), (3, false, .invokestatic 0), (6, false, .ifCond .ne (Int.ofNat 12)), (9, false, .iconst (-2)), (11, false, .ireturn), (12, false, .aload 0), (13, false, .invokeinterface 10 7), (16, false, .iload 1), (17, false, .baload), (18, false, .ifCond .ne (Int.ofNat 24)), (21, false, .iconst (-6)), (23, false, .ireturn), (24, false, .aload 0), (25, false, .invokeinterface 10 3), (28, false, .aload 0), (29, false, .invokeinterface 10 5), (32, false, .iload 1), (33, false, .aaload), (34, false, .invokestatic 1), (37, false, .aload 0), (38, false, .aload 0), (39, false, .invokeinterface 10 6), (42, false, .iload 1), (43, false, .iaload), (44, false, .invokestatic 2), (47, false, .iconst 0), (48, false, .ireturn)]
def cq_back : mq_C := ((yX10_back, cX10_back, 2, (some .int), { frames := 6, cells := 0, slots := 0, locals := 136 }), (2, 1, 2, 0), 5335285756, (fun as ρ μ => match ρ with
  | (nw, sp, tl, tx, al) => mq_pZ as 0 fun as => mq_pI as fun k as => mq_p0 as (True)),
  (fun as ρ μ r ρ' μ' => match as, ρ, ρ' with
  | [.inr (.inr (some (_, _))), .inl k], (nw, sp, tl, tx, al), (nw', sp', tl', tx', al') => [(r = -2 ∧ ¬ (0 ≤ k ∧ k ≤ 2)) ∨ (0 ≤ k ∧ k ≤ 2 ∧ ((r = -6 ∧ μ (23, 0) k.toNat = 0) ∨ (r = 0 ∧ ¬ μ (23, 0) k.toNat = 0)))]
  | _, _, _ => []))
def kq_back : List mq_V → mq_R → mq_M → List mq_Cu := fun as ρ μ => match as, ρ with
  | [.inr (.inr (some (_, _))), .inl k], (nw, sp, tl, tx, al) => []
  | _, _ => []
set_option maxHeartbeats 16000000 in
set_option maxRecDepth 100000 in
theorem vq_back (lc : Launch) (h_isAmong : mq_Ct lc cq_isAmong) (h_copyLineX : mq_Ct lc cq_copyLineX) (h_layTrack : mq_Ct lc cq_layTrack) : mq_Ct lc cq_back := by
  refine mq_method (lc := lc) (P := pq_back) (cl := [cq_isAmong, cq_copyLineX, cq_layTrack]) (T := ([(42, 10, 7), (27, 10, 3), (34, 10, 5), (38, 10, 6)], [], [], [(176, 0, 1), (422, 1, 0), (116, 2, 0)], [], [])) (fuel := 400) (cuts := kq_back) (by decide) rfl ⟨rfl, rfl⟩ (List.forall_mem_cons.mpr ⟨h_isAmong, (List.forall_mem_cons.mpr ⟨h_copyLineX, (List.forall_mem_cons.mpr ⟨h_layTrack, (fun _ h => absurd h List.not_mem_nil)⟩)⟩)⟩) ⟨(List.forall_mem_cons.mpr ⟨⟨_, rfl, by decide, kw_748⟩, (List.forall_mem_cons.mpr ⟨⟨_, rfl, by decide, kw_514⟩, (List.forall_mem_cons.mpr ⟨⟨_, rfl, by decide, kw_746⟩, (List.forall_mem_cons.mpr ⟨⟨_, rfl, by decide, kw_747⟩, (fun _ h => absurd h List.not_mem_nil)⟩)⟩)⟩)⟩), (fun _ h => absurd h List.not_mem_nil), (fun _ h => absurd h List.not_mem_nil), (List.forall_mem_cons.mpr ⟨mq_ml1 rfl mw1_isAmong kw_568, (List.forall_mem_cons.mpr ⟨mq_ml0 rfl mw0_copyLineX kw_752, (List.forall_mem_cons.mpr ⟨mq_ml0 rfl mw0_layTrack kw_535, (fun _ h => absurd h List.not_mem_nil)⟩)⟩)⟩), (fun _ h => absurd h List.not_mem_nil), (fun _ h => absurd h List.not_mem_nil)⟩ (by decide +kernel) ⟨_, _, rfl⟩ ?_ ?_ ?_ ?_
  · intro as ρ μ h
    obtain ⟨nw, sp, tl, tx, al⟩ := ρ
    obtain ⟨as0, rfl, h0⟩ := mq_pZ_spec h
    clear h
    obtain ⟨k, as1, rfl, h1⟩ := mq_pI_spec h0
    clear h0
    obtain ⟨rfl, hp⟩ := mq_p0_spec h1
    clear h1
    rfl
  · intro as ρ μ h
    obtain ⟨nw, sp, tl, tx, al⟩ := ρ
    obtain ⟨as0, rfl, h0⟩ := mq_pZ_spec h
    clear h
    obtain ⟨k, as1, rfl, h1⟩ := mq_pI_spec h0
    clear h0
    obtain ⟨rfl, hp⟩ := mq_p0_spec h1
    clear h1
    intro hrg
    obtain ⟨⟨ha1a, ha1b⟩, -⟩ := hrg
    intro hbk
    have e0 : mq_l0 ([.inr (.inr (some (0, 0))), .inl k] : List mq_V) 2 = [some (.inr (.inr (some (0, 0)))), some (.inl k)] := rfl
    rw [e0]
    repeat' (first | refine And.intro ?_ ?_ | intro _)
    all_goals first | omega | rfl | exact trivial | (simp [mq_up] at * <;> omega)
  · intro as ρ μ h
    obtain ⟨nw, sp, tl, tx, al⟩ := ρ
    obtain ⟨as0, rfl, h0⟩ := mq_pZ_spec h
    clear h
    obtain ⟨k, as1, rfl, h1⟩ := mq_pI_spec h0
    clear h0
    obtain ⟨rfl, hp⟩ := mq_p0_spec h1
    clear h1
    exact fun _ h => absurd h List.not_mem_nil
  · intro as ρ μ h
    obtain ⟨nw, sp, tl, tx, al⟩ := ρ
    obtain ⟨as0, rfl, h0⟩ := mq_pZ_spec h
    clear h
    obtain ⟨k, as1, rfl, h1⟩ := mq_pI_spec h0
    clear h0
    obtain ⟨rfl, hp⟩ := mq_p0_spec h1
    clear h1
    intro hrg
    obtain ⟨⟨ha1a, ha1b⟩, -⟩ := hrg
    exact fun _ h => absurd h List.not_mem_nil
def pq_row : List mq_E := [(0, false, .iload 1), (1, false, .iconst 0), (2, false, .iconst 3), (3, false, .invokestatic 0), (6, false, .ifCond .eq (Int.ofNat 24)), (9, false, .iload 2), (10, false, .iconst 0), (11, false, .iconst 3), (12, false, .invokestatic 0), (15, false, .ifCond .eq (Int.ofNat 24)), (18, false, .iload 3), (19, false, .iconst 60), (21, false, .if_icmp .le (Int.ofNat 27)), (24, false, .iconst (-2)), (26, false, .ireturn), (27, false, .iload 3), (28, false, .ifCond .ge (Int.ofNat 34)), (31, false, .iconst (-3)), (33, false, .ireturn), (34, false, .aload 0), (35, false, .invokeinterface 10 8), (38, false, .iload 1), (39, false, .aaload), (40, false, .iload 2), (41, false, .iload 3), (42, false, .invokestatic 1), (45, false, .iconst 0), (46, false, .ireturn)]
def cq_row : mq_C := ((yX10_row, cX10_row, 4, (some .int), { frames := 2, cells := 0, slots := 0, locals := 46 }), (4, 1, 0, 0), 393216, (fun as ρ μ => match ρ with
  | (nw, sp, tl, tx, al) => mq_pZ as 0 fun as => mq_pI as fun s as => mq_pI as fun w as => mq_pI as fun n as => mq_p0 as (True)),
  (fun as ρ μ r ρ' μ' => match as, ρ, ρ' with
  | [.inr (.inr (some (_, _))), .inl s, .inl w, .inl n], (nw, sp, tl, tx, al), (nw', sp', tl', tx', al') => [(r = -2 ∧ ¬ (0 ≤ s ∧ s ≤ 3 ∧ 0 ≤ w ∧ w ≤ 3 ∧ n ≤ 60)) ∨ (0 ≤ s ∧ s ≤ 3 ∧ 0 ≤ w ∧ w ≤ 3 ∧ n ≤ 60 ∧ ((r = -3 ∧ n < 0) ∨ (r = 0 ∧ 0 ≤ n))), ∀ j : mq_J, j.1 = 17 → ¬ (r = 0 ∧ j = (17, s.toNat)) → μ' j = μ j, r = 0 → μ' (17, s.toNat) 1 = w ∧ μ' (17, s.toNat) 2 = n]
  | _, _, _ => []))
def kq_row : List mq_V → mq_R → mq_M → List mq_Cu := fun as ρ μ => match as, ρ with
  | [.inr (.inr (some (_, _))), .inl s, .inl w, .inl n], (nw, sp, tl, tx, al) => []
  | _, _ => []
set_option maxHeartbeats 16000000 in
set_option maxRecDepth 100000 in
theorem vq_row (lc : Launch) (h_isAmong : mq_Ct lc cq_isAmong) (h_hold : mq_Ct lc cq_hold) : mq_Ct lc cq_row := by
  refine mq_method (lc := lc) (P := pq_row) (cl := [cq_isAmong, cq_hold]) (T := ([(48, 10, 8)], [], [], [(176, 0, 1), (426, 1, 0)], [], [])) (fuel := 400) (cuts := kq_row) (by decide) rfl ⟨rfl, rfl⟩ (List.forall_mem_cons.mpr ⟨h_isAmong, (List.forall_mem_cons.mpr ⟨h_hold, (fun _ h => absurd h List.not_mem_nil)⟩)⟩) ⟨(List.forall_mem_cons.mpr ⟨⟨_, rfl, by decide, kw_617⟩, (fun _ h => absurd h List.not_mem_nil)⟩), (fun _ h => absurd h List.not_mem_nil), (fun _ h => absurd h List.not_mem_nil), (List.forall_mem_cons.mpr ⟨mq_ml1 rfl mw1_isAmong kw_568, (List.forall_mem_cons.mpr ⟨mq_ml0 rfl mw0_hold kw_756, (fun _ h => absurd h List.not_mem_nil)⟩)⟩), (fun _ h => absurd h List.not_mem_nil), (fun _ h => absurd h List.not_mem_nil)⟩ (by decide +kernel) ⟨_, _, rfl⟩ ?_ ?_ ?_ ?_
  · intro as ρ μ h
    obtain ⟨nw, sp, tl, tx, al⟩ := ρ
    obtain ⟨as0, rfl, h0⟩ := mq_pZ_spec h
    clear h
    obtain ⟨s, as1, rfl, h1⟩ := mq_pI_spec h0
    clear h0
    obtain ⟨w, as2, rfl, h2⟩ := mq_pI_spec h1
    clear h1
    obtain ⟨n, as3, rfl, h3⟩ := mq_pI_spec h2
    clear h2
    obtain ⟨rfl, hp⟩ := mq_p0_spec h3
    clear h3
    rfl
  · intro as ρ μ h
    obtain ⟨nw, sp, tl, tx, al⟩ := ρ
    obtain ⟨as0, rfl, h0⟩ := mq_pZ_spec h
    clear h
    obtain ⟨s, as1, rfl, h1⟩ := mq_pI_spec h0
    clear h0
    obtain ⟨w, as2, rfl, h2⟩ := mq_pI_spec h1
    clear h1
    obtain ⟨n, as3, rfl, h3⟩ := mq_pI_spec h2
    clear h2
    obtain ⟨rfl, hp⟩ := mq_p0_spec h3
    clear h3
    intro hrg
    obtain ⟨⟨ha1a, ha1b⟩, ⟨ha2a, ha2b⟩, ⟨ha3a, ha3b⟩, -⟩ := hrg
    intro hbk
    have e0 : mq_l0 ([.inr (.inr (some (0, 0))), .inl s, .inl w, .inl n] : List mq_V) 4 = [some (.inr (.inr (some (0, 0)))), some (.inl s), some (.inl w), some (.inl n)] := rfl
    rw [e0]
    repeat' (first | refine And.intro ?_ ?_ | intro _)
    all_goals first | omega | rfl | exact trivial | assumption | (rename_i h9 j hj hn; exact h9 j hj (fun q => hn ⟨rfl, q⟩)) | (simp [mq_up] at * <;> omega)
  · intro as ρ μ h
    obtain ⟨nw, sp, tl, tx, al⟩ := ρ
    obtain ⟨as0, rfl, h0⟩ := mq_pZ_spec h
    clear h
    obtain ⟨s, as1, rfl, h1⟩ := mq_pI_spec h0
    clear h0
    obtain ⟨w, as2, rfl, h2⟩ := mq_pI_spec h1
    clear h1
    obtain ⟨n, as3, rfl, h3⟩ := mq_pI_spec h2
    clear h2
    obtain ⟨rfl, hp⟩ := mq_p0_spec h3
    clear h3
    exact fun _ h => absurd h List.not_mem_nil
  · intro as ρ μ h
    obtain ⟨nw, sp, tl, tx, al⟩ := ρ
    obtain ⟨as0, rfl, h0⟩ := mq_pZ_spec h
    clear h
    obtain ⟨s, as1, rfl, h1⟩ := mq_pI_spec h0
    clear h0
    obtain ⟨w, as2, rfl, h2⟩ := mq_pI_spec h1
    clear h1
    obtain ⟨n, as3, rfl, h3⟩ := mq_pI_spec h2
    clear h2
    obtain ⟨rfl, hp⟩ := mq_p0_spec h3
    clear h3
    intro hrg
    obtain ⟨⟨ha1a, ha1b⟩, ⟨ha2a, ha2b⟩, ⟨ha3a, ha3b⟩, -⟩ := hrg
    exact fun _ h => absurd h List.not_mem_nil
def pq_write : List mq_E := [(0, false, .iload 1), (1, false, .iconst 0), (2, false, .iconst 3), (3, false, .invokestatic 0), (6, false, .ifCond .ne (Int.ofNat 12)), (9, false, .iconst (-2)), (11, false, .ireturn), (12, false, .aload 0), (13, false, .invokeinterface 10 8), (16, false, .iload 1), (17, false, .aaload), (18, false, .invokestatic 1), (21, false, .ifCond .ne (Int.ofNat 27)), (24, false, .iconst (-6)), (26, false, .ireturn), (27, false, .iload 2), (28, false, .ifCond .lt (Int.ofNat 44)), (31, false, .iload 2), (32, false, .aload 0), (33, false, .invokeinterface 10 8), (36, false, .iload 1), (37, false, .aaload), (38, false, .invokeinterface 8 2), (41, false, .if_icmp .lt (Int.ofNat 47)), (44, false, .iconst (-7)), (46, false, .ireturn), (47, false, .aload 0), (48, false, .invokeinterface 10 8), (51, false, .iload 1), (52, false, .aaload), (53, false, .iload 2), (54, false, .lload 3), (55, false, .invokestatic 2), (58, false, .iconst 0), (59, false, .ireturn)]
def cq_write : mq_C := ((yX10_write, cX10_write, 5, (some .int), { frames := 2, cells := 0, slots := 0, locals := 45 }), (4, 1, 0, 0), 262144, (fun as ρ μ => match ρ with
  | (nw, sp, tl, tx, al) => mq_pZ as 0 fun as => mq_pI as fun s as => mq_pI as fun i as => mq_pL as fun v as => mq_p0 as (True)),
  (fun as ρ μ r ρ' μ' => match as, ρ, ρ' with
  | [.inr (.inr (some (_, _))), .inl s, .inl i, .inr (.inl v)], (nw, sp, tl, tx, al), (nw', sp', tl', tx', al') => [(r = -2 ∧ ¬ (0 ≤ s ∧ s ≤ 3)) ∨ (0 ≤ s ∧ s ≤ 3 ∧ ((r = -6 ∧ μ (17, s.toNat) 1 = -1) ∨ (¬ μ (17, s.toNat) 1 = -1 ∧ ((r = -7 ∧ ¬ (0 ≤ i ∧ i < μ (17, s.toNat) 2)) ∨ (r = 0 ∧ 0 ≤ i ∧ i < μ (17, s.toNat) 2)))))]
  | _, _, _ => []))
def kq_write : List mq_V → mq_R → mq_M → List mq_Cu := fun as ρ μ => match as, ρ with
  | [.inr (.inr (some (_, _))), .inl s, .inl i, .inr (.inl v)], (nw, sp, tl, tx, al) => []
  | _, _ => []
set_option maxHeartbeats 16000000 in
set_option maxRecDepth 100000 in
theorem vq_write (lc : Launch) (h_isAmong : mq_Ct lc cq_isAmong) (h_isHeld : mq_Ct lc cq_isHeld) (h_slotSet : mq_Ct lc cq_slotSet) : mq_Ct lc cq_write := by
  refine mq_method (lc := lc) (P := pq_write) (cl := [cq_isAmong, cq_isHeld, cq_slotSet]) (T := ([(48, 10, 8), (247, 8, 2)], [], [], [(176, 0, 1), (253, 1, 0), (429, 2, 0)], [], [])) (fuel := 400) (cuts := kq_write) (by decide) rfl ⟨rfl, rfl⟩ (List.forall_mem_cons.mpr ⟨h_isAmong, (List.forall_mem_cons.mpr ⟨h_isHeld, (List.forall_mem_cons.mpr ⟨h_slotSet, (fun _ h => absurd h List.not_mem_nil)⟩)⟩)⟩) ⟨(List.forall_mem_cons.mpr ⟨⟨_, rfl, by decide, kw_617⟩, (List.forall_mem_cons.mpr ⟨⟨_, rfl, by decide, kw_607⟩, (fun _ h => absurd h List.not_mem_nil)⟩)⟩), (fun _ h => absurd h List.not_mem_nil), (fun _ h => absurd h List.not_mem_nil), (List.forall_mem_cons.mpr ⟨mq_ml1 rfl mw1_isAmong kw_568, (List.forall_mem_cons.mpr ⟨mq_ml0 rfl mw0_isHeld kw_612, (List.forall_mem_cons.mpr ⟨mq_ml0 rfl mw0_slotSet kw_760, (fun _ h => absurd h List.not_mem_nil)⟩)⟩)⟩), (fun _ h => absurd h List.not_mem_nil), (fun _ h => absurd h List.not_mem_nil)⟩ (by decide +kernel) ⟨_, _, rfl⟩ ?_ ?_ ?_ ?_
  · intro as ρ μ h
    obtain ⟨nw, sp, tl, tx, al⟩ := ρ
    obtain ⟨as0, rfl, h0⟩ := mq_pZ_spec h
    clear h
    obtain ⟨s, as1, rfl, h1⟩ := mq_pI_spec h0
    clear h0
    obtain ⟨i, as2, rfl, h2⟩ := mq_pI_spec h1
    clear h1
    obtain ⟨v, as3, rfl, h3⟩ := mq_pL_spec h2
    clear h2
    obtain ⟨rfl, hp⟩ := mq_p0_spec h3
    clear h3
    rfl
  · intro as ρ μ h
    obtain ⟨nw, sp, tl, tx, al⟩ := ρ
    obtain ⟨as0, rfl, h0⟩ := mq_pZ_spec h
    clear h
    obtain ⟨s, as1, rfl, h1⟩ := mq_pI_spec h0
    clear h0
    obtain ⟨i, as2, rfl, h2⟩ := mq_pI_spec h1
    clear h1
    obtain ⟨v, as3, rfl, h3⟩ := mq_pL_spec h2
    clear h2
    obtain ⟨rfl, hp⟩ := mq_p0_spec h3
    clear h3
    intro hrg
    obtain ⟨⟨ha1a, ha1b⟩, ⟨ha2a, ha2b⟩, ⟨ha3a, ha3b⟩, -⟩ := hrg
    intro hbk
    have e0 : mq_l0 ([.inr (.inr (some (0, 0))), .inl s, .inl i, .inr (.inl v)] : List mq_V) 5 = [some (.inr (.inr (some (0, 0)))), some (.inl s), some (.inl i), some (.inr (.inl v)), none] := rfl
    rw [e0]
    repeat' (first | refine And.intro ?_ ?_ | intro _)
    all_goals first | omega | rfl | exact trivial | (simp [mq_up] at * <;> omega)
  · intro as ρ μ h
    obtain ⟨nw, sp, tl, tx, al⟩ := ρ
    obtain ⟨as0, rfl, h0⟩ := mq_pZ_spec h
    clear h
    obtain ⟨s, as1, rfl, h1⟩ := mq_pI_spec h0
    clear h0
    obtain ⟨i, as2, rfl, h2⟩ := mq_pI_spec h1
    clear h1
    obtain ⟨v, as3, rfl, h3⟩ := mq_pL_spec h2
    clear h2
    obtain ⟨rfl, hp⟩ := mq_p0_spec h3
    clear h3
    exact fun _ h => absurd h List.not_mem_nil
  · intro as ρ μ h
    obtain ⟨nw, sp, tl, tx, al⟩ := ρ
    obtain ⟨as0, rfl, h0⟩ := mq_pZ_spec h
    clear h
    obtain ⟨s, as1, rfl, h1⟩ := mq_pI_spec h0
    clear h0
    obtain ⟨i, as2, rfl, h2⟩ := mq_pI_spec h1
    clear h1
    obtain ⟨v, as3, rfl, h3⟩ := mq_pL_spec h2
    clear h2
    obtain ⟨rfl, hp⟩ := mq_p0_spec h3
    clear h3
    intro hrg
    obtain ⟨⟨ha1a, ha1b⟩, ⟨ha2a, ha2b⟩, ⟨ha3a, ha3b⟩, -⟩ := hrg
    exact fun _ h => absurd h List.not_mem_nil
def pq_paste : List mq_E := [(0, false, .iload 1), (1, false, .iconst 0), (2, false, .iconst 3), (3, false, .invokestatic 0), (6, false, .ifCond .eq (Int.ofNat 18)), (9, false, .iload 3), (10, false, .iconst 0), (11, false, .iconst 3), (12, false, .invokestatic 0), (15, false, .ifCond .ne (Int.ofNat 21)), (18, false, .iconst (-2)), (20, false, .ireturn), (21, false, .aload 0), (22, false, .invokeinterface 10 8), (25, false, .iload 1), (26, false, .aaload), (27, false, .astore 6), (29, false, .aload 0), (30, false, .invokeinterface 10 8), (33, false, .iload 3), (34, false, .aaload), (35, false, .astore 7), (37, false, .aload 6), (39, false, .invokestatic 1), (42, false, .ifCond .eq (Int.ofNat 53)), (45, false, .aload 7), (47, false, .invokestatic 1), (50, false, .ifCond .ne (Int.ofNat 56)), (53, false, .iconst (-6)), (55, false, .ireturn), (56, false, .aload 6), (58, false, .invokeinterface 8 1), (61, false, .aload 7), (63, false, .invokeinterface 8 1), (66, false, .if_icmp .eq (Int.ofNat 72)), (69, false, .iconst (-8)), (71, false, .ireturn), (72, false, .aload 6), (74, false, .iload 2), (75, false, .iload 5), (77, false, .invokestatic 2), (80, false, .ifCond .eq (Int.ofNat 95)), (83, false, .aload 7), (85, false, .iload 4), (87, false, .iload 5), (89, false, .invokestatic 2), (92, false, .ifCond .ne (Int.ofNat 98)), (95, false, .iconst (-7)), (97, false, .ireturn), (98, false, .aload 6), (100, false, .invokeinterface 8 0), (103, false, .iload 2), (104, false, .aload 7), (106, false, .invokeinterface 8 0), (109, false, .iload 4), (111, false, .iload 5), (113, false, .athrow), (116, false, .iconst 0), (117, false, .ireturn)]
def cq_paste : mq_C := ((yX10_paste, cX10_paste, 8, (some .int), { frames := 1, cells := 0, slots := 0, locals := 48 }), (6, 1, 0, 0), 262144, (fun as ρ μ => match ρ with
  | (nw, sp, tl, tx, al) => mq_pZ as 0 fun as => mq_pI as fun s as => mq_pI as fun i as => mq_pI as fun t as => mq_pI as fun k as => mq_pI as fun n as => mq_p0 as (True)),
  (fun as ρ μ r ρ' μ' => match as, ρ, ρ' with
  | [.inr (.inr (some (_, _))), .inl s, .inl i, .inl t, .inl k, .inl n], (nw, sp, tl, tx, al), (nw', sp', tl', tx', al') => [(r = -2 ∧ ¬ (0 ≤ s ∧ s ≤ 3 ∧ 0 ≤ t ∧ t ≤ 3)) ∨ (0 ≤ s ∧ s ≤ 3 ∧ 0 ≤ t ∧ t ≤ 3 ∧ ((r = -6 ∧ (μ (17, s.toNat) 1 = -1 ∨ μ (17, t.toNat) 1 = -1)) ∨ (¬ μ (17, s.toNat) 1 = -1 ∧ ¬ μ (17, t.toNat) 1 = -1 ∧ ((r = -8 ∧ ¬ μ (17, s.toNat) 1 = μ (17, t.toNat) 1) ∨ (μ (17, s.toNat) 1 = μ (17, t.toNat) 1 ∧ ((r = -7 ∧ ¬ (0 ≤ i ∧ 0 ≤ n ∧ i + n ≤ μ (17, s.toNat) 2 ∧ 0 ≤ k ∧ k + n ≤ μ (17, t.toNat) 2)) ∨ (r = 0 ∧ 0 ≤ i ∧ 0 ≤ n ∧ i + n ≤ μ (17, s.toNat) 2 ∧ 0 ≤ k ∧ k + n ≤ μ (17, t.toNat) 2)))))))]
  | _, _, _ => []))
def kq_paste : List mq_V → mq_R → mq_M → List mq_Cu := fun as ρ μ => match as, ρ with
  | [.inr (.inr (some (_, _))), .inl s, .inl i, .inl t, .inl k, .inl n], (nw, sp, tl, tx, al) => []
  | _, _ => []
set_option maxHeartbeats 16000000 in
set_option maxRecDepth 100000 in
theorem vq_paste (lc : Launch) (h_isAmong : mq_Ct lc cq_isAmong) (h_isHeld : mq_Ct lc cq_isHeld) (h_hasPart : mq_Ct lc cq_hasPart) : mq_Ct lc cq_paste := by
  refine mq_method (lc := lc) (P := pq_paste) (cl := [cq_isAmong, cq_isHeld, cq_hasPart]) (T := ([(48, 10, 8), (432, 8, 1), (438, 8, 0)], [], [], [(176, 0, 1), (253, 1, 0), (435, 2, 0)], [442], [])) (fuel := 400) (cuts := kq_paste) (by decide) rfl ⟨rfl, rfl⟩ (List.forall_mem_cons.mpr ⟨h_isAmong, (List.forall_mem_cons.mpr ⟨h_isHeld, (List.forall_mem_cons.mpr ⟨h_hasPart, (fun _ h => absurd h List.not_mem_nil)⟩)⟩)⟩) ⟨(List.forall_mem_cons.mpr ⟨⟨_, rfl, by decide, kw_617⟩, (List.forall_mem_cons.mpr ⟨⟨_, rfl, by decide, kw_761⟩, (List.forall_mem_cons.mpr ⟨⟨_, rfl, by decide, kw_762⟩, (fun _ h => absurd h List.not_mem_nil)⟩)⟩)⟩), (fun _ h => absurd h List.not_mem_nil), (fun _ h => absurd h List.not_mem_nil), (List.forall_mem_cons.mpr ⟨mq_ml1 rfl mw1_isAmong kw_568, (List.forall_mem_cons.mpr ⟨mq_ml0 rfl mw0_isHeld kw_612, (List.forall_mem_cons.mpr ⟨mq_ml0 rfl mw0_hasPart kw_766, (fun _ h => absurd h List.not_mem_nil)⟩)⟩)⟩), (List.forall_mem_cons.mpr ⟨⟨kw_767, kw_39, kw_40, kw_41⟩, (fun _ h => absurd h List.not_mem_nil)⟩), (fun _ h => absurd h List.not_mem_nil)⟩ (by decide +kernel) ⟨_, _, rfl⟩ ?_ ?_ ?_ ?_
  · intro as ρ μ h
    obtain ⟨nw, sp, tl, tx, al⟩ := ρ
    obtain ⟨as0, rfl, h0⟩ := mq_pZ_spec h
    clear h
    obtain ⟨s, as1, rfl, h1⟩ := mq_pI_spec h0
    clear h0
    obtain ⟨i, as2, rfl, h2⟩ := mq_pI_spec h1
    clear h1
    obtain ⟨t, as3, rfl, h3⟩ := mq_pI_spec h2
    clear h2
    obtain ⟨k, as4, rfl, h4⟩ := mq_pI_spec h3
    clear h3
    obtain ⟨n, as5, rfl, h5⟩ := mq_pI_spec h4
    clear h4
    obtain ⟨rfl, hp⟩ := mq_p0_spec h5
    clear h5
    rfl
  · intro as ρ μ h
    obtain ⟨nw, sp, tl, tx, al⟩ := ρ
    obtain ⟨as0, rfl, h0⟩ := mq_pZ_spec h
    clear h
    obtain ⟨s, as1, rfl, h1⟩ := mq_pI_spec h0
    clear h0
    obtain ⟨i, as2, rfl, h2⟩ := mq_pI_spec h1
    clear h1
    obtain ⟨t, as3, rfl, h3⟩ := mq_pI_spec h2
    clear h2
    obtain ⟨k, as4, rfl, h4⟩ := mq_pI_spec h3
    clear h3
    obtain ⟨n, as5, rfl, h5⟩ := mq_pI_spec h4
    clear h4
    obtain ⟨rfl, hp⟩ := mq_p0_spec h5
    clear h5
    intro hrg
    obtain ⟨⟨ha1a, ha1b⟩, ⟨ha2a, ha2b⟩, ⟨ha3a, ha3b⟩, ⟨ha4a, ha4b⟩, ⟨ha5a, ha5b⟩, -⟩ := hrg
    intro hbk
    have e0 : mq_l0 ([.inr (.inr (some (0, 0))), .inl s, .inl i, .inl t, .inl k, .inl n] : List mq_V) 8 = [some (.inr (.inr (some (0, 0)))), some (.inl s), some (.inl i), some (.inl t), some (.inl k), some (.inl n), none, none] := rfl
    rw [e0]
    repeat' (first | refine And.intro ?_ ?_ | intro _)
    all_goals first | omega | rfl | exact trivial | (simp [mq_up] at * <;> omega)
  · intro as ρ μ h
    obtain ⟨nw, sp, tl, tx, al⟩ := ρ
    obtain ⟨as0, rfl, h0⟩ := mq_pZ_spec h
    clear h
    obtain ⟨s, as1, rfl, h1⟩ := mq_pI_spec h0
    clear h0
    obtain ⟨i, as2, rfl, h2⟩ := mq_pI_spec h1
    clear h1
    obtain ⟨t, as3, rfl, h3⟩ := mq_pI_spec h2
    clear h2
    obtain ⟨k, as4, rfl, h4⟩ := mq_pI_spec h3
    clear h3
    obtain ⟨n, as5, rfl, h5⟩ := mq_pI_spec h4
    clear h4
    obtain ⟨rfl, hp⟩ := mq_p0_spec h5
    clear h5
    exact fun _ h => absurd h List.not_mem_nil
  · intro as ρ μ h
    obtain ⟨nw, sp, tl, tx, al⟩ := ρ
    obtain ⟨as0, rfl, h0⟩ := mq_pZ_spec h
    clear h
    obtain ⟨s, as1, rfl, h1⟩ := mq_pI_spec h0
    clear h0
    obtain ⟨i, as2, rfl, h2⟩ := mq_pI_spec h1
    clear h1
    obtain ⟨t, as3, rfl, h3⟩ := mq_pI_spec h2
    clear h2
    obtain ⟨k, as4, rfl, h4⟩ := mq_pI_spec h3
    clear h3
    obtain ⟨n, as5, rfl, h5⟩ := mq_pI_spec h4
    clear h4
    obtain ⟨rfl, hp⟩ := mq_p0_spec h5
    clear h5
    intro hrg
    obtain ⟨⟨ha1a, ha1b⟩, ⟨ha2a, ha2b⟩, ⟨ha3a, ha3b⟩, ⟨ha4a, ha4b⟩, ⟨ha5a, ha5b⟩, -⟩ := hrg
    exact fun _ h => absurd h List.not_mem_nil
