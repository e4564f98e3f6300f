def pq_lastTold_slopes : List mq_E := [(0, false, .aload 0), (1, false, .invokeinterface 6 3), (4, false, .iconst 1), (5, false, .isub), (6, false, .istore 4), (8, true, .iload 4), (10, false, .ifCond .lt (Int.ofNat 38)), (13, false, .aload 0), (14, false, .iload 4), (16, false, .iconst 0), (17, false, .invokestatic 0), (20, false, .iload 2), (21, false, .if_icmp .gt (Int.ofNat 32)), (24, false, .aload 0), (25, false, .iload 4), (27, false, .iload 1), (28, false, .invokestatic 0), (31, false, .ireturn), (32, false, .iinc 4 (-1)), (35, false, .goto (Int.ofNat 8)), (38, false, .iload 3), (39, false, .ireturn)]
def cq_lastTold_slopes : mq_C := ((yX9_lastTold, cX9_lastTold, 5, (some .int), { frames := 1, cells := 0, slots := 0, locals := 22 }), (4, 1, 0, 0), 0, (fun as ρ μ => match ρ with
  | (nw, sp, tl, tx, al) => mq_pR as 3 fun L as => mq_pI as fun c as => mq_pI as fun y as => mq_pI as fun w as => mq_p0 as (-9 ≤ w ∧ w ≤ 400)),
  (fun as ρ μ r ρ' μ' => match as, ρ, ρ' with
  | [.inr (.inr (some (_, L))), .inl c, .inl y, .inl w], (nw, sp, tl, tx, al), (nw', sp', tl', tx', al') => [-9 ≤ r, r ≤ 400]
  | _, _, _ => []))
def kq_lastTold_slopes : List mq_V → mq_R → mq_M → List mq_Cu := fun as ρ μ => match as, ρ with
  | [.inr (.inr (some (_, L))), .inl c, .inl y, .inl w], (nw, sp, tl, tx, al) => [(8, [true, true, true, true, true], fun N l st ρ' μ' cs => mq_tR l 3 fun L0 l => mq_tI l fun v1 l => mq_tI l fun v2 l => mq_tI l fun v3 l => mq_tI l fun v4 l => mq_t0 l (st = [] ∧ ρ' = (nw, sp, tl, tx, al) ∧ cs = 0 ∧ L0 = L ∧ v1 = c ∧ v2 = y ∧ v3 = w ∧ -1 ≤ v4 ∧ v4 ≤ 15 ∧ 0 ≤ (v4 + 1 : Int) ∧ (v4 + 1 : Int) < (N : Int)))]
  | _, _ => []
set_option maxHeartbeats 16000000 in
set_option maxRecDepth 100000 in
theorem vq_lastTold_slopes (lc : Launch) (h_get_slopes : mq_Ct lc cq_get_slopes) : mq_Ct lc cq_lastTold_slopes := by
  refine mq_method (lc := lc) (P := pq_lastTold_slopes) (cl := [cq_get_slopes]) (T := ([(59, 6, 3)], [], [], [(68, 0, 0)], [], [])) (fuel := 400) (cuts := kq_lastTold_slopes) (by decide) rfl ⟨rfl, rfl⟩ (List.forall_mem_cons.mpr ⟨h_get_slopes, (fun _ h => absurd h List.not_mem_nil)⟩) ⟨(List.forall_mem_cons.mpr ⟨⟨_, rfl, by decide, kw_89⟩, (fun _ h => absurd h List.not_mem_nil)⟩), (fun _ h => absurd h List.not_mem_nil), (fun _ h => absurd h List.not_mem_nil), (List.forall_mem_cons.mpr ⟨mq_ml0 rfl mw0_get_slopes kw_90, (fun _ h => absurd h List.not_mem_nil)⟩), (fun _ h => absurd h List.not_mem_nil), (fun _ h => absurd h List.not_mem_nil)⟩ (by decide +kernel) ⟨_, _, rfl⟩ ?_ ?_ ?_ ?_
  · intro as ρ μ h
    obtain ⟨nw, sp, tl, tx, al⟩ := ρ
    obtain ⟨L, as0, rfl, h0⟩ := mq_pR_spec h
    clear h
    obtain ⟨c, as1, rfl, h1⟩ := mq_pI_spec h0
    clear h0
    obtain ⟨y, as2, rfl, h2⟩ := mq_pI_spec h1
    clear h1
    obtain ⟨w, as3, rfl, h3⟩ := mq_pI_spec h2
    clear h2
    obtain ⟨rfl, hp⟩ := mq_p0_spec h3
    clear h3
    obtain ⟨hp0, hp1⟩ := hp
    rfl
  · intro as ρ μ h
    obtain ⟨nw, sp, tl, tx, al⟩ := ρ
    obtain ⟨L, as0, rfl, h0⟩ := mq_pR_spec h
    clear h
    obtain ⟨c, as1, rfl, h1⟩ := mq_pI_spec h0
    clear h0
    obtain ⟨y, as2, rfl, h2⟩ := mq_pI_spec h1
    clear h1
    obtain ⟨w, as3, rfl, h3⟩ := mq_pI_spec h2
    clear h2
    obtain ⟨rfl, hp⟩ := mq_p0_spec h3
    clear h3
    obtain ⟨hp0, hp1⟩ := hp
    intro hrg
    obtain ⟨⟨ha1a, ha1b⟩, ⟨ha2a, ha2b⟩, ⟨ha3a, ha3b⟩, -⟩ := hrg
    intro hbk
    have e0 : mq_l0 ([.inr (.inr (some (3, L))), .inl c, .inl y, .inl w] : List mq_V) 5 = [some (.inr (.inr (some (3, L)))), some (.inl c), some (.inl y), some (.inl w), none] := rfl
    rw [e0]
    repeat' (first | refine And.intro ?_ ?_ | intro _)
    all_goals first | omega | rfl | exact trivial | (simp [mq_up] at * <;> omega)
  · intro as ρ μ h
    obtain ⟨nw, sp, tl, tx, al⟩ := ρ
    obtain ⟨L, as0, rfl, h0⟩ := mq_pR_spec h
    clear h
    obtain ⟨c, as1, rfl, h1⟩ := mq_pI_spec h0
    clear h0
    obtain ⟨y, as2, rfl, h2⟩ := mq_pI_spec h1
    clear h1
    obtain ⟨w, as3, rfl, h3⟩ := mq_pI_spec h2
    clear h2
    obtain ⟨rfl, hp⟩ := mq_p0_spec h3
    clear h3
    obtain ⟨hp0, hp1⟩ := hp
    refine List.forall_mem_cons.mpr ⟨?_, ?_⟩
    · intro l st ρ' μ' cs hJ
      obtain ⟨L0, l0, rfl, hJ0⟩ := mq_tR_spec hJ
      clear hJ
      obtain ⟨v1, l1, rfl, hJ1⟩ := mq_tI_spec hJ0
      clear hJ0
      obtain ⟨v2, l2, rfl, hJ2⟩ := mq_tI_spec hJ1
      clear hJ1
      obtain ⟨v3, l3, rfl, hJ3⟩ := mq_tI_spec hJ2
      clear hJ2
      obtain ⟨v4, l4, rfl, hJ4⟩ := mq_tI_spec hJ3
      clear hJ3
      obtain ⟨rfl, hJz⟩ := mq_t0_spec hJ4
      clear hJ4
      obtain ⟨rfl, rfl, rfl, rfl, hc1, hc2, hc3, hc4, hc5, hm0, hm1⟩ := hJz
      omega
    exact fun _ h => absurd h List.not_mem_nil
  · intro as ρ μ h
    obtain ⟨nw, sp, tl, tx, al⟩ := ρ
    obtain ⟨L, as0, rfl, h0⟩ := mq_pR_spec h
    clear h
    obtain ⟨c, as1, rfl, h1⟩ := mq_pI_spec h0
    clear h0
    obtain ⟨y, as2, rfl, h2⟩ := mq_pI_spec h1
    clear h1
    obtain ⟨w, as3, rfl, h3⟩ := mq_pI_spec h2
    clear h2
    obtain ⟨rfl, hp⟩ := mq_p0_spec h3
    clear h3
    obtain ⟨hp0, hp1⟩ := hp
    intro hrg
    obtain ⟨⟨ha1a, ha1b⟩, ⟨ha2a, ha2b⟩, ⟨ha3a, ha3b⟩, -⟩ := hrg
    refine List.forall_mem_cons.mpr ⟨?_, ?_⟩
    · intro N l st ρ' μ' cs hJ
      obtain ⟨L0, l0, rfl, hJ0⟩ := mq_tR_spec hJ
      clear hJ
      obtain ⟨v1, l1, rfl, hJ1⟩ := mq_tI_spec hJ0
      clear hJ0
      obtain ⟨v2, l2, rfl, hJ2⟩ := mq_tI_spec hJ1
      clear hJ1
      obtain ⟨v3, l3, rfl, hJ3⟩ := mq_tI_spec hJ2
      clear hJ2
      obtain ⟨v4, l4, rfl, hJ4⟩ := mq_tI_spec hJ3
      clear hJ3
      obtain ⟨rfl, hJz⟩ := mq_t0_spec hJ4
      clear hJ4
      obtain ⟨rfl, rfl, rfl, rfl, hc1, hc2, hc3, hc4, hc5, hm0, hm1⟩ := hJz
      intro hbk hrl
      obtain ⟨⟨hl1a, hl1b⟩, ⟨hl2a, hl2b⟩, ⟨hl3a, hl3b⟩, ⟨hl4a, hl4b⟩, -⟩ := hrl
      repeat' (first | refine And.intro ?_ ?_ | intro _)
      all_goals first | omega | rfl | exact trivial | (simp [mq_up] at * <;> omega)
    exact fun _ h => absurd h List.not_mem_nil
theorem mw1_lastTold_slopes : mq_mlA cq_lastTold_slopes 1 := ⟨kw_130, ⟨by decide +kernel, by decide +kernel⟩, by decide +kernel, kw_131, kw_105⟩
def pq_lastTold_limits : List mq_E := [(0, false, .aload 0), (1, false, .invokeinterface 6 3), (4, false, .iconst 1), (5, false, .isub), (6, false, .istore 4), (8, true, .iload 4), (10, false, .ifCond .lt (Int.ofNat 38)), (13, false, .aload 0), (14, false, .iload 4), (16, false, .iconst 0), (17, false, .invokestatic 0), (20, false, .iload 2), (21, false, .if_icmp .gt (Int.ofNat 32)), (24, false, .aload 0), (25, false, .iload 4), (27, false, .iload 1), (28, false, .invokestatic 0), (31, false, .ireturn), (32, false, .iinc 4 (-1)), (35, false, .goto (Int.ofNat 8)), (38, false, .iload 3), (39, false, .ireturn)]
def cq_lastTold_limits : mq_C := ((yX9_lastTold, cX9_lastTold, 5, (some .int), { frames := 1, cells := 0, slots := 0, locals := 22 }), (4, 1, 0, 0), 0, (fun as ρ μ => match ρ with
  | (nw, sp, tl, tx, al) => mq_pR as 5 fun L as => mq_pI as fun c as => mq_pI as fun y as => mq_pI as fun w as => mq_p0 as (0 ≤ w ∧ w ≤ 400)),
  (fun as ρ μ r ρ' μ' => match as, ρ, ρ' with
  | [.inr (.inr (some (_, L))), .inl c, .inl y, .inl w], (nw, sp, tl, tx, al), (nw', sp', tl', tx', al') => [0 ≤ r, r ≤ 400]
  | _, _, _ => []))
def kq_lastTold_limits : List mq_V → mq_R → mq_M → List mq_Cu := fun as ρ μ => match as, ρ with
  | [.inr (.inr (some (_, L))), .inl c, .inl y, .inl w], (nw, sp, tl, tx, al) => [(8, [true, true, true, true, true], fun N l st ρ' μ' cs => mq_tR l 5 fun L0 l => mq_tI l fun v1 l => mq_tI l fun v2 l => mq_tI l fun v3 l => mq_tI l fun v4 l => mq_t0 l (st = [] ∧ ρ' = (nw, sp, tl, tx, al) ∧ cs = 0 ∧ L0 = L ∧ v1 = c ∧ v2 = y ∧ v3 = w ∧ -1 ≤ v4 ∧ v4 ≤ 15 ∧ 0 ≤ (v4 + 1 : Int) ∧ (v4 + 1 : Int) < (N : Int)))]
  | _, _ => []
set_option maxHeartbeats 16000000 in
set_option maxRecDepth 100000 in
theorem vq_lastTold_limits (lc : Launch) (h_get_limits : mq_Ct lc cq_get_limits) : mq_Ct lc cq_lastTold_limits := by
  refine mq_method (lc := lc) (P := pq_lastTold_limits) (cl := [cq_get_limits]) (T := ([(59, 6, 3)], [], [], [(68, 0, 0)], [], [])) (fuel := 400) (cuts := kq_lastTold_limits) (by decide) rfl ⟨rfl, rfl⟩ (List.forall_mem_cons.mpr ⟨h_get_limits, (fun _ h => absurd h List.not_mem_nil)⟩) ⟨(List.forall_mem_cons.mpr ⟨⟨_, rfl, by decide, kw_89⟩, (fun _ h => absurd h List.not_mem_nil)⟩), (fun _ h => absurd h List.not_mem_nil), (fun _ h => absurd h List.not_mem_nil), (List.forall_mem_cons.mpr ⟨mq_ml0 rfl mw0_get_limits kw_90, (fun _ h => absurd h List.not_mem_nil)⟩), (fun _ h => absurd h List.not_mem_nil), (fun _ h => absurd h List.not_mem_nil)⟩ (by decide +kernel) ⟨_, _, rfl⟩ ?_ ?_ ?_ ?_
  · intro as ρ μ h
    obtain ⟨nw, sp, tl, tx, al⟩ := ρ
    obtain ⟨L, as0, rfl, h0⟩ := mq_pR_spec h
    clear h
    obtain ⟨c, as1, rfl, h1⟩ := mq_pI_spec h0
    clear h0
    obtain ⟨y, as2, rfl, h2⟩ := mq_pI_spec h1
    clear h1
    obtain ⟨w, as3, rfl, h3⟩ := mq_pI_spec h2
    clear h2
    obtain ⟨rfl, hp⟩ := mq_p0_spec h3
    clear h3
    obtain ⟨hp0, hp1⟩ := hp
    rfl
  · intro as ρ μ h
    obtain ⟨nw, sp, tl, tx, al⟩ := ρ
    obtain ⟨L, as0, rfl, h0⟩ := mq_pR_spec h
    clear h
    obtain ⟨c, as1, rfl, h1⟩ := mq_pI_spec h0
    clear h0
    obtain ⟨y, as2, rfl, h2⟩ := mq_pI_spec h1
    clear h1
    obtain ⟨w, as3, rfl, h3⟩ := mq_pI_spec h2
    clear h2
    obtain ⟨rfl, hp⟩ := mq_p0_spec h3
    clear h3
    obtain ⟨hp0, hp1⟩ := hp
    intro hrg
    obtain ⟨⟨ha1a, ha1b⟩, ⟨ha2a, ha2b⟩, ⟨ha3a, ha3b⟩, -⟩ := hrg
    intro hbk
    have e0 : mq_l0 ([.inr (.inr (some (5, L))), .inl c, .inl y, .inl w] : List mq_V) 5 = [some (.inr (.inr (some (5, L)))), some (.inl c), some (.inl y), some (.inl w), none] := rfl
    rw [e0]
    repeat' (first | refine And.intro ?_ ?_ | intro _)
    all_goals first | omega | rfl | exact trivial | (simp [mq_up] at * <;> omega)
  · intro as ρ μ h
    obtain ⟨nw, sp, tl, tx, al⟩ := ρ
    obtain ⟨L, as0, rfl, h0⟩ := mq_pR_spec h
    clear h
    obtain ⟨c, as1, rfl, h1⟩ := mq_pI_spec h0
    clear h0
    obtain ⟨y, as2, rfl, h2⟩ := mq_pI_spec h1
    clear h1
    obtain ⟨w, as3, rfl, h3⟩ := mq_pI_spec h2
    clear h2
    obtain ⟨rfl, hp⟩ := mq_p0_spec h3
    clear h3
    obtain ⟨hp0, hp1⟩ := hp
    refine List.forall_mem_cons.mpr ⟨?_, ?_⟩
    · intro l st ρ' μ' cs hJ
      obtain ⟨L0, l0, rfl, hJ0⟩ := mq_tR_spec hJ
      clear hJ
      obtain ⟨v1, l1, rfl, hJ1⟩ := mq_tI_spec hJ0
      clear hJ0
      obtain ⟨v2, l2, rfl, hJ2⟩ := mq_tI_spec hJ1
      clear hJ1
      obtain ⟨v3, l3, rfl, hJ3⟩ := mq_tI_spec hJ2
      clear hJ2
      obtain ⟨v4, l4, rfl, hJ4⟩ := mq_tI_spec hJ3
      clear hJ3
      obtain ⟨rfl, hJz⟩ := mq_t0_spec hJ4
      clear hJ4
      obtain ⟨rfl, rfl, rfl, rfl, hc1, hc2, hc3, hc4, hc5, hm0, hm1⟩ := hJz
      omega
    exact fun _ h => absurd h List.not_mem_nil
  · intro as ρ μ h
    obtain ⟨nw, sp, tl, tx, al⟩ := ρ
    obtain ⟨L, as0, rfl, h0⟩ := mq_pR_spec h
    clear h
    obtain ⟨c, as1, rfl, h1⟩ := mq_pI_spec h0
    clear h0
    obtain ⟨y, as2, rfl, h2⟩ := mq_pI_spec h1
    clear h1
    obtain ⟨w, as3, rfl, h3⟩ := mq_pI_spec h2
    clear h2
    obtain ⟨rfl, hp⟩ := mq_p0_spec h3
    clear h3
    obtain ⟨hp0, hp1⟩ := hp
    intro hrg
    obtain ⟨⟨ha1a, ha1b⟩, ⟨ha2a, ha2b⟩, ⟨ha3a, ha3b⟩, -⟩ := hrg
    refine List.forall_mem_cons.mpr ⟨?_, ?_⟩
    · intro N l st ρ' μ' cs hJ
      obtain ⟨L0, l0, rfl, hJ0⟩ := mq_tR_spec hJ
      clear hJ
      obtain ⟨v1, l1, rfl, hJ1⟩ := mq_tI_spec hJ0
      clear hJ0
      obtain ⟨v2, l2, rfl, hJ2⟩ := mq_tI_spec hJ1
      clear hJ1
      obtain ⟨v3, l3, rfl, hJ3⟩ := mq_tI_spec hJ2
      clear hJ2
      obtain ⟨v4, l4, rfl, hJ4⟩ := mq_tI_spec hJ3
      clear hJ3
      obtain ⟨rfl, hJz⟩ := mq_t0_spec hJ4
      clear hJ4
      obtain ⟨rfl, rfl, rfl, rfl, hc1, hc2, hc3, hc4, hc5, hm0, hm1⟩ := hJz
      intro hbk hrl
      obtain ⟨⟨hl1a, hl1b⟩, ⟨hl2a, hl2b⟩, ⟨hl3a, hl3b⟩, ⟨hl4a, hl4b⟩, -⟩ := hrl
      repeat' (first | refine And.intro ?_ ?_ | intro _)
      all_goals first | omega | rfl | exact trivial | (simp [mq_up] at * <;> omega)
    exact fun _ h => absurd h List.not_mem_nil
theorem mw1_lastTold_limits : mq_mlA cq_lastTold_limits 1 := ⟨kw_130, ⟨by decide +kernel, by decide +kernel⟩, by decide +kernel, kw_131, kw_105⟩
def pq_wettest : List mq_E := [(0, false, .iconst 0), (1, false, .istore 2), (2, false, .iconst 0), (3, false, .istore 3), (4, true, .iload 3), (5, false, .aload 0), (6, false, .invokeinterface 6 3), (9, false, .if_icmp .ge (Int.ofNat 49)), (12, false, .aload 0), (13, false, .iload 3), (14, false, .iconst 0), (15, false, .invokestatic 0), (18, false, .iload 1), (19, false, .if_icmp .gt (Int.ofNat 43)), (22, false, .iload 1), (23, false, .aload 0), (24, false, .iload 3), (25, false, .iconst 1), (26, false, .invokestatic 0), (29, false, .if_icmp .gt (Int.ofNat 43)), (32, false, .iload 2), (33, false, .aload 0), (34, false, .iload 3), (35, false, .iconst 2), (36, false, .invokestatic 0), (39, false, .f2i), (42, false, .istore 2), (43, false, .iinc 3 1), (46, false, .goto (Int.ofNat 4)), (49, false, .iload 2), (50, false, .ireturn)]
def cq_wettest : mq_C := ((yX9_wettest, cX9_wettest, 4, (some .int), { frames := 1, cells := 0, slots := 0, locals := 22 }), (2, 1, 0, 0), 0, (fun as ρ μ => match ρ with
  | (nw, sp, tl, tx, al) => mq_pR as 4 fun L as => mq_pI as fun y as => mq_p0 as (True)),
  (fun as ρ μ r ρ' μ' => match as, ρ, ρ' with
  | [.inr (.inr (some (_, L))), .inl y], (nw, sp, tl, tx, al), (nw', sp', tl', tx', al') => [0 ≤ r, r ≤ 400]
  | _, _, _ => []))
def kq_wettest : List mq_V → mq_R → mq_M → List mq_Cu := fun as ρ μ => match as, ρ with
  | [.inr (.inr (some (_, L))), .inl y], (nw, sp, tl, tx, al) => [(4, [true, true, true, true], fun N l st ρ' μ' cs => mq_tR l 4 fun L0 l => mq_tI l fun v1 l => mq_tI l fun v2 l => mq_tI l fun v3 l => mq_t0 l (st = [] ∧ ρ' = (nw, sp, tl, tx, al) ∧ cs = 0 ∧ L0 = L ∧ v1 = y ∧ 0 ≤ v2 ∧ v2 ≤ 400 ∧ 0 ≤ v3 ∧ v3 ≤ 6 ∧ 0 ≤ (6 - v3 : Int) ∧ (6 - v3 : Int) < (N : Int)))]
  | _, _ => []
set_option maxHeartbeats 16000000 in
set_option maxRecDepth 100000 in
theorem vq_wettest (lc : Launch) (h_get_wets : mq_Ct lc cq_get_wets) : mq_Ct lc cq_wettest := by
  refine mq_method (lc := lc) (P := pq_wettest) (cl := [cq_get_wets]) (T := ([(59, 6, 3)], [], [], [(68, 0, 0)], [], [(83, true)])) (fuel := 400) (cuts := kq_wettest) (by decide) rfl ⟨rfl, rfl⟩ (List.forall_mem_cons.mpr ⟨h_get_wets, (fun _ h => absurd h List.not_mem_nil)⟩) ⟨(List.forall_mem_cons.mpr ⟨⟨_, rfl, by decide, kw_89⟩, (fun _ h => absurd h List.not_mem_nil)⟩), (fun _ h => absurd h List.not_mem_nil), (fun _ h => absurd h List.not_mem_nil), (List.forall_mem_cons.mpr ⟨mq_ml0 rfl mw0_get_wets kw_90, (fun _ h => absurd h List.not_mem_nil)⟩), (fun _ h => absurd h List.not_mem_nil), (List.forall_mem_cons.mpr ⟨⟨kw_91, kw_82, kw_44, kw_83⟩, (fun _ h => absurd h List.not_mem_nil)⟩)⟩ (by decide +kernel) ⟨_, _, rfl⟩ ?_ ?_ ?_ ?_
  · intro as ρ μ h
    obtain ⟨nw, sp, tl, tx, al⟩ := ρ
    obtain ⟨L, as0, rfl, h0⟩ := mq_pR_spec h
    clear h
    obtain ⟨y, as1, rfl, h1⟩ := mq_pI_spec h0
    clear h0
    obtain ⟨rfl, hp⟩ := mq_p0_spec h1
    clear h1
    rfl
  · intro as ρ μ h
    obtain ⟨nw, sp, tl, tx, al⟩ := ρ
    obtain ⟨L, as0, rfl, h0⟩ := mq_pR_spec h
    clear h
    obtain ⟨y, as1, rfl, h1⟩ := mq_pI_spec h0
    clear h0
    obtain ⟨rfl, hp⟩ := mq_p0_spec h1
    clear h1
    intro hrg
    obtain ⟨⟨ha1a, ha1b⟩, -⟩ := hrg
    intro hbk
    have e0 : mq_l0 ([.inr (.inr (some (4, L))), .inl y] : List mq_V) 4 = [some (.inr (.inr (some (4, L)))), some (.inl y), none, none] := rfl
    rw [e0]
    repeat' (first | refine And.intro ?_ ?_ | intro _)
    all_goals first | omega | rfl | exact trivial | (simp [mq_up] at * <;> omega)
  · intro as ρ μ h
    obtain ⟨nw, sp, tl, tx, al⟩ := ρ
    obtain ⟨L, as0, rfl, h0⟩ := mq_pR_spec h
    clear h
    obtain ⟨y, as1, rfl, h1⟩ := mq_pI_spec h0
    clear h0
    obtain ⟨rfl, hp⟩ := mq_p0_spec h1
    clear h1
    refine List.forall_mem_cons.mpr ⟨?_, ?_⟩
    · intro l st ρ' μ' cs hJ
      obtain ⟨L0, l0, rfl, hJ0⟩ := mq_tR_spec hJ
      clear hJ
      obtain ⟨v1, l1, rfl, hJ1⟩ := mq_tI_spec hJ0
      clear hJ0
      obtain ⟨v2, l2, rfl, hJ2⟩ := mq_tI_spec hJ1
      clear hJ1
      obtain ⟨v3, l3, rfl, hJ3⟩ := mq_tI_spec hJ2
      clear hJ2
      obtain ⟨rfl, hJz⟩ := mq_t0_spec hJ3
      clear hJ3
      obtain ⟨rfl, rfl, rfl, rfl, hc1, hc2, hc3, hc4, hc5, hm0, hm1⟩ := hJz
      omega
    exact fun _ h => absurd h List.not_mem_nil
  · intro as ρ μ h
    obtain ⟨nw, sp, tl, tx, al⟩ := ρ
    obtain ⟨L, as0, rfl, h0⟩ := mq_pR_spec h
    clear h
    obtain ⟨y, as1, rfl, h1⟩ := mq_pI_spec h0
    clear h0
    obtain ⟨rfl, hp⟩ := mq_p0_spec h1
    clear h1
    intro hrg
    obtain ⟨⟨ha1a, ha1b⟩, -⟩ := hrg
    refine List.forall_mem_cons.mpr ⟨?_, ?_⟩
    · intro N l st ρ' μ' cs hJ
      obtain ⟨L0, l0, rfl, hJ0⟩ := mq_tR_spec hJ
      clear hJ
      obtain ⟨v1, l1, rfl, hJ1⟩ := mq_tI_spec hJ0
      clear hJ0
      obtain ⟨v2, l2, rfl, hJ2⟩ := mq_tI_spec hJ1
      clear hJ1
      obtain ⟨v3, l3, rfl, hJ3⟩ := mq_tI_spec hJ2
      clear hJ2
      obtain ⟨rfl, hJz⟩ := mq_t0_spec hJ3
      clear hJ3
      obtain ⟨rfl, rfl, rfl, rfl, hc1, hc2, hc3, hc4, hc5, hm0, hm1⟩ := hJz
      intro hbk hrl
      obtain ⟨⟨hl1a, hl1b⟩, ⟨hl2a, hl2b⟩, ⟨hl3a, hl3b⟩, -⟩ := hrl
      repeat' (first | refine And.intro ?_ ?_ | intro _)
      all_goals first | omega | rfl | exact trivial | (simp [mq_up] at * <;> omega)
    exact fun _ h => absurd h List.not_mem_nil
theorem mw1_wettest : mq_mlA cq_wettest 1 := ⟨kw_133, ⟨by decide +kernel, by decide +kernel⟩, by decide +kernel, kw_134, kw_105⟩
def pq_slopeOf : List mq_E := [(0, false, .iload 1), (1, false, .iconst 0), (2, false, .iconst 400), (5, false, .invokestatic 0), (8, false, .ifCond .eq (Int.ofNat 20)), (11, false, .aload 0), (12, false, .invokeinterface 9 0), (15, false, .iload 1), (16, false, .iaload), (17, false, .goto (Int.ofNat 21)), (20, false, .iconst 0), (21, false, .ireturn)]
def cq_slopeOf : mq_C := ((yX9_slopeOf, cX9_slopeOf, 2, (some .int), { frames := 1, cells := 0, slots := 0, locals := 22 }), (2, 1, 0, 0), 0, (fun as ρ μ => match ρ with
  | (nw, sp, tl, tx, al) => mq_pZ as 25 fun as => mq_pI as fun y as => mq_p0 as (True)),
  (fun as ρ μ r ρ' μ' => match as, ρ, ρ' with
  | [.inr (.inr (some (_, _))), .inl y], (nw, sp, tl, tx, al), (nw', sp', tl', tx', al') => [-9 ≤ r, r ≤ 400]
  | _, _, _ => []))
def kq_slopeOf : List mq_V → mq_R → mq_M → List mq_Cu := fun as ρ μ => match as, ρ with
  | [.inr (.inr (some (_, _))), .inl y], (nw, sp, tl, tx, al) => []
  | _, _ => []
set_option maxHeartbeats 16000000 in
set_option maxRecDepth 100000 in
theorem vq_slopeOf (lc : Launch) (h_isAmong : mq_Ct lc cq_isAmong) : mq_Ct lc cq_slopeOf := by
  refine mq_method (lc := lc) (P := pq_slopeOf) (cl := [cq_isAmong]) (T := ([(9, 9, 0)], [], [], [(72, 0, 2)], [], [])) (fuel := 400) (cuts := kq_slopeOf) (by decide) rfl ⟨rfl, rfl⟩ (List.forall_mem_cons.mpr ⟨h_isAmong, (fun _ h => absurd h List.not_mem_nil)⟩) ⟨(List.forall_mem_cons.mpr ⟨⟨_, rfl, by decide, kw_92⟩, (fun _ h => absurd h List.not_mem_nil)⟩), (fun _ h => absurd h List.not_mem_nil), (fun _ h => absurd h List.not_mem_nil), (List.forall_mem_cons.mpr ⟨mq_ml2 rfl mw1_isAmong 6 rfl, (fun _ h => absurd h List.not_mem_nil)⟩), (fun _ h => absurd h List.not_mem_nil), (fun _ h => absurd h List.not_mem_nil)⟩ (by decide +kernel) ⟨_, _, rfl⟩ ?_ ?_ ?_ ?_
  · intro as ρ μ h
    obtain ⟨nw, sp, tl, tx, al⟩ := ρ
    obtain ⟨as0, rfl, h0⟩ := mq_pZ_spec h
    clear h
    obtain ⟨y, as1, rfl, h1⟩ := mq_pI_spec h0
    clear h0
    obtain ⟨rfl, hp⟩ := mq_p0_spec h1
    clear h1
    rfl
  · intro as ρ μ h
    obtain ⟨nw, sp, tl, tx, al⟩ := ρ
    obtain ⟨as0, rfl, h0⟩ := mq_pZ_spec h
    clear h
    obtain ⟨y, as1, rfl, h1⟩ := mq_pI_spec h0
    clear h0
    obtain ⟨rfl, hp⟩ := mq_p0_spec h1
    clear h1
    intro hrg
    obtain ⟨⟨ha1a, ha1b⟩, -⟩ := hrg
    intro hbk
    have e0 : mq_l0 ([.inr (.inr (some (25, 0))), .inl y] : List mq_V) 2 = [some (.inr (.inr (some (25, 0)))), some (.inl y)] := rfl
    rw [e0]
    repeat' (first | refine And.intro ?_ ?_ | intro _)
    all_goals first | omega | rfl | exact trivial | (simp [mq_up] at * <;> omega)
  · intro as ρ μ h
    obtain ⟨nw, sp, tl, tx, al⟩ := ρ
    obtain ⟨as0, rfl, h0⟩ := mq_pZ_spec h
    clear h
    obtain ⟨y, as1, rfl, h1⟩ := mq_pI_spec h0
    clear h0
    obtain ⟨rfl, hp⟩ := mq_p0_spec h1
    clear h1
    exact fun _ h => absurd h List.not_mem_nil
  · intro as ρ μ h
    obtain ⟨nw, sp, tl, tx, al⟩ := ρ
    obtain ⟨as0, rfl, h0⟩ := mq_pZ_spec h
    clear h
    obtain ⟨y, as1, rfl, h1⟩ := mq_pI_spec h0
    clear h0
    obtain ⟨rfl, hp⟩ := mq_p0_spec h1
    clear h1
    intro hrg
    obtain ⟨⟨ha1a, ha1b⟩, -⟩ := hrg
    exact fun _ h => absurd h List.not_mem_nil
theorem mw0_slopeOf : mq_mlA cq_slopeOf 0 := ⟨kw_561, ⟨by decide +kernel, by decide +kernel⟩, by decide +kernel, kw_562, kw_563, kw_105, 25, by decide +kernel, fun as ρ μ h => by obtain ⟨nw, sp, tl, tx, al⟩ := ρ; obtain ⟨t, e, _⟩ := mq_pZ_spec h; exact ⟨0, t, e⟩⟩
def pq_wetOf : List mq_E := [(0, false, .iload 1), (1, false, .iconst 0), (2, false, .iconst 400), (5, false, .invokestatic 0), (8, false, .ifCond .eq (Int.ofNat 27)), (11, false, .aload 0), (12, false, .invokeinterface 9 5), (15, false, .aload 0), (16, false, .invokeinterface 9 1), (19, false, .iload 1), (20, false, .iaload), (21, false, .f2i), (24, false, .goto (Int.ofNat 31)), (27, false, .aload 0), (28, false, .invokeinterface 9 5), (31, false, .ireturn)]
def cq_wetOf : mq_C := ((yX9_wetOf, cX9_wetOf, 2, (some .int), { frames := 1, cells := 0, slots := 0, locals := 22 }), (2, 1, 0, 0), 0, (fun as ρ μ => match ρ with
  | (nw, sp, tl, tx, al) => mq_pZ as 25 fun as => mq_pI as fun y as => mq_p0 as (True)),
  (fun as ρ μ r ρ' μ' => match as, ρ, ρ' with
  | [.inr (.inr (some (_, _))), .inl y], (nw, sp, tl, tx, al), (nw', sp', tl', tx', al') => [0 ≤ r, r ≤ 400]
  | _, _, _ => []))
def kq_wetOf : List mq_V → mq_R → mq_M → List mq_Cu := fun as ρ μ => match as, ρ with
  | [.inr (.inr (some (_, _))), .inl y], (nw, sp, tl, tx, al) => []
  | _, _ => []
set_option maxHeartbeats 16000000 in
set_option maxRecDepth 100000 in
theorem vq_wetOf (lc : Launch) (h_isAmong : mq_Ct lc cq_isAmong) : mq_Ct lc cq_wetOf := by
  refine mq_method (lc := lc) (P := pq_wetOf) (cl := [cq_isAmong]) (T := ([(28, 9, 5), (15, 9, 1)], [], [], [(72, 0, 2)], [], [(83, true)])) (fuel := 400) (cuts := kq_wetOf) (by decide) rfl ⟨rfl, rfl⟩ (List.forall_mem_cons.mpr ⟨h_isAmong, (fun _ h => absurd h List.not_mem_nil)⟩) ⟨(List.forall_mem_cons.mpr ⟨⟨_, rfl, by decide, kw_96⟩, (List.forall_mem_cons.mpr ⟨⟨_, rfl, by decide, kw_97⟩, (fun _ h => absurd h List.not_mem_nil)⟩)⟩), (fun _ h => absurd h List.not_mem_nil), (fun _ h => absurd h List.not_mem_nil), (List.forall_mem_cons.mpr ⟨mq_ml2 rfl mw1_isAmong 6 rfl, (fun _ h => absurd h List.not_mem_nil)⟩), (fun _ h => absurd h List.not_mem_nil), (List.forall_mem_cons.mpr ⟨⟨kw_91, kw_82, kw_44, kw_83⟩, (fun _ h => absurd h List.not_mem_nil)⟩)⟩ (by decide +kernel) ⟨_, _, rfl⟩ ?_ ?_ ?_ ?_
  · intro as ρ μ h
    obtain ⟨nw, sp, tl, tx, al⟩ := ρ
    obtain ⟨as0, rfl, h0⟩ := mq_pZ_spec h
    clear h
    obtain ⟨y, as1, rfl, h1⟩ := mq_pI_spec h0
    clear h0
    obtain ⟨rfl, hp⟩ := mq_p0_spec h1
    clear h1
    rfl
  · intro as ρ μ h
    obtain ⟨nw, sp, tl, tx, al⟩ := ρ
    obtain ⟨as0, rfl, h0⟩ := mq_pZ_spec h
    clear h
    obtain ⟨y, as1, rfl, h1⟩ := mq_pI_spec h0
    clear h0
    obtain ⟨rfl, hp⟩ := mq_p0_spec h1
    clear h1
    intro hrg
    obtain ⟨⟨ha1a, ha1b⟩, -⟩ := hrg
    intro hbk
    have e0 : mq_l0 ([.inr (.inr (some (25, 0))), .inl y] : List mq_V) 2 = [some (.inr (.inr (some (25, 0)))), some (.inl y)] := rfl
    rw [e0]
    repeat' (first | refine And.intro ?_ ?_ | intro _)
    all_goals first | omega | rfl | exact trivial | (simp [mq_up] at * <;> omega)
  · intro as ρ μ h
    obtain ⟨nw, sp, tl, tx, al⟩ := ρ
    obtain ⟨as0, rfl, h0⟩ := mq_pZ_spec h
    clear h
    obtain ⟨y, as1, rfl, h1⟩ := mq_pI_spec h0
    clear h0
    obtain ⟨rfl, hp⟩ := mq_p0_spec h1
    clear h1
    exact fun _ h => absurd h List.not_mem_nil
  · intro as ρ μ h
    obtain ⟨nw, sp, tl, tx, al⟩ := ρ
    obtain ⟨as0, rfl, h0⟩ := mq_pZ_spec h
    clear h
    obtain ⟨y, as1, rfl, h1⟩ := mq_pI_spec h0
    clear h0
    obtain ⟨rfl, hp⟩ := mq_p0_spec h1
    clear h1
    intro hrg
    obtain ⟨⟨ha1a, ha1b⟩, -⟩ := hrg
    exact fun _ h => absurd h List.not_mem_nil
theorem mw0_wetOf : mq_mlA cq_wetOf 0 := ⟨kw_119, ⟨by decide +kernel, by decide +kernel⟩, by decide +kernel, kw_120, kw_121, kw_105, 25, by decide +kernel, fun as ρ μ h => by obtain ⟨nw, sp, tl, tx, al⟩ := ρ; obtain ⟨t, e, _⟩ := mq_pZ_spec h; exact ⟨0, t, e⟩⟩
def pq_limitOf : List mq_E := [(0, false, .iload 1), (1, false, .iconst 0), (2, false, .iconst 400), (5, false, .invokestatic 0), (8, false, .ifCond .eq (Int.ofNat 20)), (11, false, .aload 0), (12, false, .invokeinterface 9 2), (15, false, .iload 1), (16, false, .iaload), (17, false, .goto (Int.ofNat 22)), (20, false, .iconst 15), (22, false, .ireturn)]
def cq_limitOf : mq_C := ((yX9_limitOf, cX9_limitOf, 2, (some .int), { frames := 1, cells := 0, slots := 0, locals := 22 }), (2, 1, 0, 0), 0, (fun as ρ μ => match ρ with
  | (nw, sp, tl, tx, al) => mq_pZ as 25 fun as => mq_pI as fun y as => mq_p0 as (True)),
  (fun as ρ μ r ρ' μ' => match as, ρ, ρ' with
  | [.inr (.inr (some (_, _))), .inl y], (nw, sp, tl, tx, al), (nw', sp', tl', tx', al') => [0 ≤ r, r ≤ 400]
  | _, _, _ => []))
def kq_limitOf : List mq_V → mq_R → mq_M → List mq_Cu := fun as ρ μ => match as, ρ with
  | [.inr (.inr (some (_, _))), .inl y], (nw, sp, tl, tx, al) => []
  | _, _ => []
set_option maxHeartbeats 16000000 in
set_option maxRecDepth 100000 in
theorem vq_limitOf (lc : Launch) (h_isAmong : mq_Ct lc cq_isAmong) : mq_Ct lc cq_limitOf := by
  refine mq_method (lc := lc) (P := pq_limitOf) (cl := [cq_isAmong]) (T := ([(18, 9, 2)], [], [], [(72, 0, 2)], [], [])) (fuel := 400) (cuts := kq_limitOf) (by decide) rfl ⟨rfl, rfl⟩ (List.forall_mem_cons.mpr ⟨h_isAmong, (fun _ h => absurd h List.not_mem_nil)⟩) ⟨(List.forall_mem_cons.mpr ⟨⟨_, rfl, by decide, kw_98⟩, (fun _ h => absurd h List.not_mem_nil)⟩), (fun _ h => absurd h List.not_mem_nil), (fun _ h => absurd h List.not_mem_nil), (List.forall_mem_cons.mpr ⟨mq_ml2 rfl mw1_isAmong 6 rfl, (fun _ h => absurd h List.not_mem_nil)⟩), (fun _ h => absurd h List.not_mem_nil), (fun _ h => absurd h List.not_mem_nil)⟩ (by decide +kernel) ⟨_, _, rfl⟩ ?_ ?_ ?_ ?_
  · intro as ρ μ h
    obtain ⟨nw, sp, tl, tx, al⟩ := ρ
    obtain ⟨as0, rfl, h0⟩ := mq_pZ_spec h
    clear h
    obtain ⟨y, as1, rfl, h1⟩ := mq_pI_spec h0
    clear h0
    obtain ⟨rfl, hp⟩ := mq_p0_spec h1
    clear h1
    rfl
  · intro as ρ μ h
    obtain ⟨nw, sp, tl, tx, al⟩ := ρ
    obtain ⟨as0, rfl, h0⟩ := mq_pZ_spec h
    clear h
    obtain ⟨y, as1, rfl, h1⟩ := mq_pI_spec h0
    clear h0
    obtain ⟨rfl, hp⟩ := mq_p0_spec h1
    clear h1
    intro hrg
    obtain ⟨⟨ha1a, ha1b⟩, -⟩ := hrg
    intro hbk
    have e0 : mq_l0 ([.inr (.inr (some (25, 0))), .inl y] : List mq_V) 2 = [some (.inr (.inr (some (25, 0)))), some (.inl y)] := rfl
    rw [e0]
    repeat' (first | refine And.intro ?_ ?_ | intro _)
    all_goals first | omega | rfl | exact trivial | (simp [mq_up] at * <;> omega)
  · intro as ρ μ h
    obtain ⟨nw, sp, tl, tx, al⟩ := ρ
    obtain ⟨as0, rfl, h0⟩ := mq_pZ_spec h
    clear h
    obtain ⟨y, as1, rfl, h1⟩ := mq_pI_spec h0
    clear h0
    obtain ⟨rfl, hp⟩ := mq_p0_spec h1
    clear h1
    exact fun _ h => absurd h List.not_mem_nil
  · intro as ρ μ h
    obtain ⟨nw, sp, tl, tx, al⟩ := ρ
    obtain ⟨as0, rfl, h0⟩ := mq_pZ_spec h
    clear h
    obtain ⟨y, as1, rfl, h1⟩ := mq_pI_spec h0
    clear h0
    obtain ⟨rfl, hp⟩ := mq_p0_spec h1
    clear h1
    intro hrg
    obtain ⟨⟨ha1a, ha1b⟩, -⟩ := hrg
    exact fun _ h => absurd h List.not_mem_nil
theorem mw0_limitOf : mq_mlA cq_limitOf 0 := ⟨kw_102, ⟨by decide +kernel, by decide +kernel⟩, by decide +kernel, kw_103, kw_104, kw_105, 25, by decide +kernel, fun as ρ μ h => by obtain ⟨nw, sp, tl, tx, al⟩ := ρ; obtain ⟨t, e, _⟩ := mq_pZ_spec h; exact ⟨0, t, e⟩⟩
def pq_pulled : List mq_E := [(0, false, .aload 0), (1, false, .invokeinterface 9 4), (4, false, .ifnonnull (Int.ofNat 9)), (7, false, .iconst 1), (8, false, .ireturn), (9, false, .aload 0), (10, false, .invokeinterface 9 4), (13, false, .invokeinterface 3 7), (16, false, .iload 1), (17, false, .iconst 1), (18, false, .invokestatic 0), (21, false, .aload 0), (22, false, .invokeinterface 9 4), (25, false, .invokeinterface 3 7), (28, false, .iload 1), (29, false, .iconst 2), (30, false, .invokestatic 0), (33, false, .iload 3), (34, false, .fmul), (35, false, .fsub), (36, false, .istore 4), (38, false, .iconst 1), (39, false, .iload 4), (41, false, .aload 0), (42, false, .iload 2), (43, false, .aload 0), (44, false, .invokeinterface 9 4), (47, false, .invokeinterface 3 0), (50, false, .f2l), (53, false, .invokestatic 1), (56, false, .f2l), (59, false, .f2i), (62, false, .ireturn)]
def cq_pulled : mq_C := ((yX9_pulled, cX9_pulled, 5, (some .int), { frames := 2, cells := 0, slots := 0, locals := 43 }), (4, 1, 0, 0), 0, (fun as ρ μ => match ρ with
  | (nw, sp, tl, tx, al) => mq_pZ as 25 fun as => mq_pI as fun t as => mq_pI as fun y as => mq_pI as fun c as => mq_p0 as (True)),
  (fun as ρ μ r ρ' μ' => match as, ρ, ρ' with
  | [.inr (.inr (some (_, _))), .inl t, .inl y, .inl c], (nw, sp, tl, tx, al), (nw', sp', tl', tx', al') => [1 ≤ r, r ≤ 400]
  | _, _, _ => []))
def kq_pulled : List mq_V → mq_R → mq_M → List mq_Cu := fun as ρ μ => match as, ρ with
  | [.inr (.inr (some (_, _))), .inl t, .inl y, .inl c], (nw, sp, tl, tx, al) => []
  | _, _ => []
set_option maxHeartbeats 16000000 in
set_option maxRecDepth 100000 in
theorem vq_pulled (lc : Launch) (h_get_trains : mq_Ct lc cq_get_trains) (h_limitOf : mq_Ct lc cq_limitOf) : mq_Ct lc cq_pulled := by
  refine mq_method (lc := lc) (P := pq_pulled) (cl := [cq_get_trains, cq_limitOf]) (T := ([(24, 9, 4), (88, 3, 7), (32, 3, 0)], [], [], [(68, 0, 0), (94, 1, 0)], [], [(91, false), (83, true)])) (fuel := 400) (cuts := kq_pulled) (by decide) rfl ⟨rfl, rfl⟩ (List.forall_mem_cons.mpr ⟨h_get_trains, (List.forall_mem_cons.mpr ⟨h_limitOf, (fun _ h => absurd h List.not_mem_nil)⟩)⟩) ⟨(List.forall_mem_cons.mpr ⟨⟨_, rfl, by decide, kw_99⟩, (List.forall_mem_cons.mpr ⟨⟨_, rfl, by decide, kw_100⟩, (List.forall_mem_cons.mpr ⟨⟨_, rfl, by decide, kw_101⟩, (fun _ h => absurd h List.not_mem_nil)⟩)⟩)⟩), (fun _ h => absurd h List.not_mem_nil), (fun _ h => absurd h List.not_mem_nil), (List.forall_mem_cons.mpr ⟨mq_ml0 rfl mw0_get_trains kw_90, (List.forall_mem_cons.mpr ⟨mq_ml0 rfl mw0_limitOf kw_106, (fun _ h => absurd h List.not_mem_nil)⟩)⟩), (fun _ h => absurd h List.not_mem_nil), (List.forall_mem_cons.mpr ⟨⟨kw_107, kw_43, kw_44, kw_45⟩, (List.forall_mem_cons.mpr ⟨⟨kw_91, kw_82, kw_44, kw_83⟩, (fun _ h => absurd h List.not_mem_nil)⟩)⟩)⟩ (by decide +kernel) ⟨_, _, rfl⟩ ?_ ?_ ?_ ?_
  · intro as ρ μ h
    obtain ⟨nw, sp, tl, tx, al⟩ := ρ
    obtain ⟨as0, rfl, h0⟩ := mq_pZ_spec h
    clear h
    obtain ⟨t, as1, rfl, h1⟩ := mq_pI_spec h0
    clear h0
    obtain ⟨y, as2, rfl, h2⟩ := mq_pI_spec h1
    clear h1
    obtain ⟨c, as3, rfl, h3⟩ := mq_pI_spec h2
    clear h2
    obtain ⟨rfl, hp⟩ := mq_p0_spec h3
    clear h3
    rfl
  · intro as ρ μ h
    obtain ⟨nw, sp, tl, tx, al⟩ := ρ
    obtain ⟨as0, rfl, h0⟩ := mq_pZ_spec h
    clear h
    obtain ⟨t, as1, rfl, h1⟩ := mq_pI_spec h0
    clear h0
    obtain ⟨y, as2, rfl, h2⟩ := mq_pI_spec h1
    clear h1
    obtain ⟨c, as3, rfl, h3⟩ := mq_pI_spec h2
    clear h2
    obtain ⟨rfl, hp⟩ := mq_p0_spec h3
    clear h3
    intro hrg
    obtain ⟨⟨ha1a, ha1b⟩, ⟨ha2a, ha2b⟩, ⟨ha3a, ha3b⟩, -⟩ := hrg
    intro hbk
    have e0 : mq_l0 ([.inr (.inr (some (25, 0))), .inl t, .inl y, .inl c] : List mq_V) 5 = [some (.inr (.inr (some (25, 0)))), some (.inl t), some (.inl y), some (.inl c), none] := rfl
    rw [e0]
    repeat' (first | refine And.intro ?_ ?_ | intro _)
    all_goals first | omega | rfl | exact trivial | (simp [mq_up] at * <;> omega)
  · intro as ρ μ h
    obtain ⟨nw, sp, tl, tx, al⟩ := ρ
    obtain ⟨as0, rfl, h0⟩ := mq_pZ_spec h
    clear h
    obtain ⟨t, as1, rfl, h1⟩ := mq_pI_spec h0
    clear h0
    obtain ⟨y, as2, rfl, h2⟩ := mq_pI_spec h1
    clear h1
    obtain ⟨c, as3, rfl, h3⟩ := mq_pI_spec h2
    clear h2
    obtain ⟨rfl, hp⟩ := mq_p0_spec h3
    clear h3
    exact fun _ h => absurd h List.not_mem_nil
  · intro as ρ μ h
    obtain ⟨nw, sp, tl, tx, al⟩ := ρ
    obtain ⟨as0, rfl, h0⟩ := mq_pZ_spec h
    clear h
    obtain ⟨t, as1, rfl, h1⟩ := mq_pI_spec h0
    clear h0
    obtain ⟨y, as2, rfl, h2⟩ := mq_pI_spec h1
    clear h1
    obtain ⟨c, as3, rfl, h3⟩ := mq_pI_spec h2
    clear h2
    obtain ⟨rfl, hp⟩ := mq_p0_spec h3
    clear h3
    intro hrg
    obtain ⟨⟨ha1a, ha1b⟩, ⟨ha2a, ha2b⟩, ⟨ha3a, ha3b⟩, -⟩ := hrg
    exact fun _ h => absurd h List.not_mem_nil
theorem mw0_pulled : mq_mlA cq_pulled 0 := ⟨kw_228, ⟨by decide +kernel, by decide +kernel⟩, by decide +kernel, kw_229, kw_230, kw_105, 25, by decide +kernel, fun as ρ μ h => by obtain ⟨nw, sp, tl, tx, al⟩ := ρ; obtain ⟨t, e, _⟩ := mq_pZ_spec h; exact ⟨0, t, e⟩⟩
def pq_taken : List mq_E := [(0, false, .iload 0), (1, false, .iconst 100), (3, false, .iload 1), (4, false, .fsub), (5, false, .fmul), (6, false, .iconst 100), (8, false, .idiv), (9, false, .ireturn)]
def cq_taken : mq_C := ((yX9_taken, cX9_taken, 2, (some .int), { frames := 0, cells := 0, slots := 0, locals := 0 }), (2, 1, 0, 0), 0, (fun as ρ μ => match ρ with
  | (nw, sp, tl, tx, al) => mq_pI as fun b as => mq_pI as fun w as => mq_p0 as (True)),
  (fun as ρ μ r ρ' μ' => match as, ρ, ρ' with
  | [.inl b, .inl w], (nw, sp, tl, tx, al), (nw', sp', tl', tx', al') => []
  | _, _, _ => []))
def kq_taken : List mq_V → mq_R → mq_M → List mq_Cu := fun as ρ μ => match as, ρ with
  | [.inl b, .inl w], (nw, sp, tl, tx, al) => []
  | _, _ => []
set_option maxHeartbeats 16000000 in
set_option maxRecDepth 100000 in
theorem vq_taken (lc : Launch)  : mq_Ct lc cq_taken := by
  refine mq_method (lc := lc) (P := pq_taken) (cl := []) (T := ([], [], [], [], [], [])) (fuel := 400) (cuts := kq_taken) (by decide) rfl ⟨rfl, rfl⟩ (fun _ h => absurd h List.not_mem_nil) ⟨(fun _ h => absurd h List.not_mem_nil), (fun _ h => absurd h List.not_mem_nil), (fun _ h => absurd h List.not_mem_nil), (fun _ h => absurd h List.not_mem_nil), (fun _ h => absurd h List.not_mem_nil), (fun _ h => absurd h List.not_mem_nil)⟩ (by decide +kernel) ⟨_, _, rfl⟩ ?_ ?_ ?_ ?_
  · intro as ρ μ h
    obtain ⟨nw, sp, tl, tx, al⟩ := ρ
    obtain ⟨b, as0, rfl, h0⟩ := mq_pI_spec h
    clear h
    obtain ⟨w, as1, rfl, h1⟩ := mq_pI_spec h0
    clear h0
    obtain ⟨rfl, hp⟩ := mq_p0_spec h1
    clear h1
    rfl
  · intro as ρ μ h
    obtain ⟨nw, sp, tl, tx, al⟩ := ρ
    obtain ⟨b, as0, rfl, h0⟩ := mq_pI_spec h
    clear h
    obtain ⟨w, as1, rfl, h1⟩ := mq_pI_spec h0
    clear h0
    obtain ⟨rfl, hp⟩ := mq_p0_spec h1
    clear h1
    intro hrg
    obtain ⟨⟨ha0a, ha0b⟩, ⟨ha1a, ha1b⟩, -⟩ := hrg
    intro hbk
    have e0 : mq_l0 ([.inl b, .inl w] : List mq_V) 2 = [some (.inl b), some (.inl w)] := rfl
    rw [e0]
    repeat' (first | refine And.intro ?_ ?_ | intro _)
    all_goals first | omega | rfl | exact trivial | (simp [mq_up] at * <;> omega)
  · intro as ρ μ h
    obtain ⟨nw, sp, tl, tx, al⟩ := ρ
    obtain ⟨b, as0, rfl, h0⟩ := mq_pI_spec h
    clear h
    obtain ⟨w, as1, rfl, h1⟩ := mq_pI_spec h0
    clear h0
    obtain ⟨rfl, hp⟩ := mq_p0_spec h1
    clear h1
    exact fun _ h => absurd h List.not_mem_nil
  · intro as ρ μ h
    obtain ⟨nw, sp, tl, tx, al⟩ := ρ
    obtain ⟨b, as0, rfl, h0⟩ := mq_pI_spec h
    clear h
    obtain ⟨w, as1, rfl, h1⟩ := mq_pI_spec h0
    clear h0
    obtain ⟨rfl, hp⟩ := mq_p0_spec h1
    clear h1
    intro hrg
    obtain ⟨⟨ha0a, ha0b⟩, ⟨ha1a, ha1b⟩, -⟩ := hrg
    exact fun _ h => absurd h List.not_mem_nil
theorem mw1_taken : mq_mlA cq_taken 1 := ⟨kw_116, ⟨by decide +kernel, by decide +kernel⟩, by decide +kernel, kw_117, kw_105⟩
def pq_takeOf : List mq_E := [(0, false, .iload 1), (1, false, .ifCond .lt (Int.ofNat 29)), (4, false, .iload 1), (5, false, .iconst 4), (6, false, .if_icmp .ge (Int.ofNat 29)), (9, false, .iload 2), (10, false, .ifCond .lt (Int.ofNat 29)), (13, false, .iload 2), (14, false, .iconst 400), (17, false, .if_icmp .gt (Int.ofNat 29)), (20, false, .iload 3), (21, false, .ifCond .lt (Int.ofNat 29)), (24, false, .iload 3), (25, false, .iconst 4), (26, false, .if_icmp .lt (Int.ofNat 32)), (29, false, .iconst 15), (31, false, .ireturn), (32, false, .aload 0), (33, false, .invokeinterface 9 3), (36, false, .iload 1), (37, false, .iconst 4), (38, false, .imul), (39, false, .iload 3), (40, false, .iadd), (41, false, .iconst 401), (44, false, .imul), (45, false, .iload 2), (46, false, .iadd), (47, false, .iaload), (48, false, .ireturn)]
def cq_takeOf : mq_C := ((yX9_takeOf, cX9_takeOf, 4, (some .int), { frames := 0, cells := 0, slots := 0, locals := 0 }), (4, 1, 0, 0), 0, (fun as ρ μ => match ρ with
  | (nw, sp, tl, tx, al) => mq_pZ as 25 fun as => mq_pI as fun k as => mq_pI as fun y as => mq_pI as fun s as => mq_p0 as (True)),
  (fun as ρ μ r ρ' μ' => match as, ρ, ρ' with
  | [.inr (.inr (some (_, _))), .inl k, .inl y, .inl s], (nw, sp, tl, tx, al), (nw', sp', tl', tx', al') => []
  | _, _, _ => []))
def kq_takeOf : List mq_V → mq_R → mq_M → List mq_Cu := fun as ρ μ => match as, ρ with
  | [.inr (.inr (some (_, _))), .inl k, .inl y, .inl s], (nw, sp, tl, tx, al) => []
  | _, _ => []
set_option maxHeartbeats 16000000 in
set_option maxRecDepth 100000 in
theorem vq_takeOf (lc : Launch)  : mq_Ct lc cq_takeOf := by
  refine mq_method (lc := lc) (P := pq_takeOf) (cl := []) (T := ([(21, 9, 3)], [], [], [], [], [])) (fuel := 400) (cuts := kq_takeOf) (by decide) rfl ⟨rfl, rfl⟩ (fun _ h => absurd h List.not_mem_nil) ⟨(List.forall_mem_cons.mpr ⟨⟨_, rfl, by decide, kw_108⟩, (fun _ h => absurd h List.not_mem_nil)⟩), (fun _ h => absurd h List.not_mem_nil), (fun _ h => absurd h List.not_mem_nil), (fun _ h => absurd h List.not_mem_nil), (fun _ h => absurd h List.not_mem_nil), (fun _ h => absurd h List.not_mem_nil)⟩ (by decide +kernel) ⟨_, _, rfl⟩ ?_ ?_ ?_ ?_
  · intro as ρ μ h
    obtain ⟨nw, sp, tl, tx, al⟩ := ρ
    obtain ⟨as0, rfl, h0⟩ := mq_pZ_spec h
    clear h
    obtain ⟨k, as1, rfl, h1⟩ := mq_pI_spec h0
    clear h0
    obtain ⟨y, as2, rfl, h2⟩ := mq_pI_spec h1
    clear h1
    obtain ⟨s, as3, rfl, h3⟩ := mq_pI_spec h2
    clear h2
    obtain ⟨rfl, hp⟩ := mq_p0_spec h3
    clear h3
    rfl
  · intro as ρ μ h
    obtain ⟨nw, sp, tl, tx, al⟩ := ρ
    obtain ⟨as0, rfl, h0⟩ := mq_pZ_spec h
    clear h
    obtain ⟨k, as1, rfl, h1⟩ := mq_pI_spec h0
    clear h0
    obtain ⟨y, as2, rfl, h2⟩ := mq_pI_spec h1
    clear h1
    obtain ⟨s, as3, rfl, h3⟩ := mq_pI_spec h2
    clear h2
    obtain ⟨rfl, hp⟩ := mq_p0_spec h3
    clear h3
    intro hrg
    obtain ⟨⟨ha1a, ha1b⟩, ⟨ha2a, ha2b⟩, ⟨ha3a, ha3b⟩, -⟩ := hrg
    intro hbk
    have e0 : mq_l0 ([.inr (.inr (some (25, 0))), .inl k, .inl y, .inl s] : List mq_V) 4 = [some (.inr (.inr (some (25, 0)))), some (.inl k), some (.inl y), some (.inl s)] := rfl
    rw [e0]
    repeat' (first | refine And.intro ?_ ?_ | intro _)
    all_goals first | omega | rfl | exact trivial | (simp [mq_up] at * <;> omega)
  · intro as ρ μ h
    obtain ⟨nw, sp, tl, tx, al⟩ := ρ
    obtain ⟨as0, rfl, h0⟩ := mq_pZ_spec h
    clear h
    obtain ⟨k, as1, rfl, h1⟩ := mq_pI_spec h0
    clear h0
    obtain ⟨y, as2, rfl, h2⟩ := mq_pI_spec h1
    clear h1
    obtain ⟨s, as3, rfl, h3⟩ := mq_pI_spec h2
    clear h2
    obtain ⟨rfl, hp⟩ := mq_p0_spec h3
    clear h3
    exact fun _ h => absurd h List.not_mem_nil
  · intro as ρ μ h
    obtain ⟨nw, sp, tl, tx, al⟩ := ρ
    obtain ⟨as0, rfl, h0⟩ := mq_pZ_spec h
    clear h
    obtain ⟨k, as1, rfl, h1⟩ := mq_pI_spec h0
    clear h0
    obtain ⟨y, as2, rfl, h2⟩ := mq_pI_spec h1
    clear h1
    obtain ⟨s, as3, rfl, h3⟩ := mq_pI_spec h2
    clear h2
    obtain ⟨rfl, hp⟩ := mq_p0_spec h3
    clear h3
    intro hrg
    obtain ⟨⟨ha1a, ha1b⟩, ⟨ha2a, ha2b⟩, ⟨ha3a, ha3b⟩, -⟩ := hrg
    exact fun _ h => absurd h List.not_mem_nil
theorem mw0_takeOf : mq_mlA cq_takeOf 0 := ⟨kw_109, ⟨by decide +kernel, by decide +kernel⟩, by decide +kernel, kw_110, kw_111, kw_105, 25, by decide +kernel, fun as ρ μ h => by obtain ⟨nw, sp, tl, tx, al⟩ := ρ; obtain ⟨t, e, _⟩ := mq_pZ_spec h; exact ⟨0, t, e⟩⟩
def pq_slowed : List mq_E := [(0, false, .iload 3), (1, false, .aload 0), (2, false, .iload 1), (3, false, .iload 2), (4, false, .iload 4), (6, false, .invokestatic 0), (9, false, .invokestatic 1), (12, false, .ireturn)]
def cq_slowed : mq_C := ((yX9_slowed, cX9_slowed, 5, (some .int), { frames := 1, cells := 0, slots := 0, locals := 23 }), (5, 1, 0, 0), 0, (fun as ρ μ => match ρ with
  | (nw, sp, tl, tx, al) => mq_pZ as 25 fun as => mq_pI as fun k as => mq_pI as fun y as => mq_pI as fun v as => mq_pI as fun s as => mq_p0 as (True)),
  (fun as ρ μ r ρ' μ' => match as, ρ, ρ' with
  | [.inr (.inr (some (_, _))), .inl k, .inl y, .inl v, .inl s], (nw, sp, tl, tx, al), (nw', sp', tl', tx', al') => [0 ≤ r, r ≤ 15]
  | _, _, _ => []))
def kq_slowed : List mq_V → mq_R → mq_M → List mq_Cu := fun as ρ μ => match as, ρ with
  | [.inr (.inr (some (_, _))), .inl k, .inl y, .inl v, .inl s], (nw, sp, tl, tx, al) => []
  | _, _ => []
set_option maxHeartbeats 16000000 in
set_option maxRecDepth 100000 in
theorem vq_slowed (lc : Launch) (h_takeOf : mq_Ct lc cq_takeOf) (h_speedLess : mq_Ct lc cq_speedLess) : mq_Ct lc cq_slowed := by
  refine mq_method (lc := lc) (P := pq_slowed) (cl := [cq_takeOf, cq_speedLess]) (T := ([], [], [], [(97, 0, 0), (101, 1, 2)], [], [])) (fuel := 400) (cuts := kq_slowed) (by decide) rfl ⟨rfl, rfl⟩ (List.forall_mem_cons.mpr ⟨h_takeOf, (List.forall_mem_cons.mpr ⟨h_speedLess, (fun _ h => absurd h List.not_mem_nil)⟩)⟩) ⟨(fun _ h => absurd h List.not_mem_nil), (fun _ h => absurd h List.not_mem_nil), (fun _ h => absurd h List.not_mem_nil), (List.forall_mem_cons.mpr ⟨mq_ml0 rfl mw0_takeOf kw_112, (List.forall_mem_cons.mpr ⟨mq_ml2 rfl mw1_speedLess 7 rfl, (fun _ h => absurd h List.not_mem_nil)⟩)⟩), (fun _ h => absurd h List.not_mem_nil), (fun _ h => absurd h List.not_mem_nil)⟩ (by decide +kernel) ⟨_, _, rfl⟩ ?_ ?_ ?_ ?_
  · intro as ρ μ h
    obtain ⟨nw, sp, tl, tx, al⟩ := ρ
    obtain ⟨as0, rfl, h0⟩ := mq_pZ_spec h
    clear h
    obtain ⟨k, as1, rfl, h1⟩ := mq_pI_spec h0
    clear h0
    obtain ⟨y, as2, rfl, h2⟩ := mq_pI_spec h1
    clear h1
    obtain ⟨v, as3, rfl, h3⟩ := mq_pI_spec h2
    clear h2
    obtain ⟨s, as4, rfl, h4⟩ := mq_pI_spec h3
    clear h3
    obtain ⟨rfl, hp⟩ := mq_p0_spec h4
    clear h4
    rfl
  · intro as ρ μ h
    obtain ⟨nw, sp, tl, tx, al⟩ := ρ
    obtain ⟨as0, rfl, h0⟩ := mq_pZ_spec h
    clear h
    obtain ⟨k, as1, rfl, h1⟩ := mq_pI_spec h0
    clear h0
    obtain ⟨y, as2, rfl, h2⟩ := mq_pI_spec h1
    clear h1
    obtain ⟨v, as3, rfl, h3⟩ := mq_pI_spec h2
    clear h2
    obtain ⟨s, as4, rfl, h4⟩ := mq_pI_spec h3
    clear h3
    obtain ⟨rfl, hp⟩ := mq_p0_spec h4
    clear h4
    intro hrg
    obtain ⟨⟨ha1a, ha1b⟩, ⟨ha2a, ha2b⟩, ⟨ha3a, ha3b⟩, ⟨ha4a, ha4b⟩, -⟩ := hrg
    intro hbk
    have e0 : mq_l0 ([.inr (.inr (some (25, 0))), .inl k, .inl y, .inl v, .inl s] : List mq_V) 5 = [some (.inr (.inr (some (25, 0)))), some (.inl k), some (.inl y), some (.inl v), some (.inl s)] := rfl
    rw [e0]
    repeat' (first | refine And.intro ?_ ?_ | intro _)
    all_goals first | omega | rfl | exact trivial | (simp [mq_up] at * <;> omega)
  · intro as ρ μ h
    obtain ⟨nw, sp, tl, tx, al⟩ := ρ
    obtain ⟨as0, rfl, h0⟩ := mq_pZ_spec h
    clear h
    obtain ⟨k, as1, rfl, h1⟩ := mq_pI_spec h0
    clear h0
    obtain ⟨y, as2, rfl, h2⟩ := mq_pI_spec h1
    clear h1
    obtain ⟨v, as3, rfl, h3⟩ := mq_pI_spec h2
    clear h2
    obtain ⟨s, as4, rfl, h4⟩ := mq_pI_spec h3
    clear h3
    obtain ⟨rfl, hp⟩ := mq_p0_spec h4
    clear h4
    exact fun _ h => absurd h List.not_mem_nil
  · intro as ρ μ h
    obtain ⟨nw, sp, tl, tx, al⟩ := ρ
    obtain ⟨as0, rfl, h0⟩ := mq_pZ_spec h
    clear h
    obtain ⟨k, as1, rfl, h1⟩ := mq_pI_spec h0
    clear h0
    obtain ⟨y, as2, rfl, h2⟩ := mq_pI_spec h1
    clear h1
    obtain ⟨v, as3, rfl, h3⟩ := mq_pI_spec h2
    clear h2
    obtain ⟨s, as4, rfl, h4⟩ := mq_pI_spec h3
    clear h3
    obtain ⟨rfl, hp⟩ := mq_p0_spec h4
    clear h4
    intro hrg
    obtain ⟨⟨ha1a, ha1b⟩, ⟨ha2a, ha2b⟩, ⟨ha3a, ha3b⟩, ⟨ha4a, ha4b⟩, -⟩ := hrg
    exact fun _ h => absurd h List.not_mem_nil
theorem mw0_slowed : mq_mlA cq_slowed 0 := ⟨kw_171, ⟨by decide +kernel, by decide +kernel⟩, by decide +kernel, kw_172, kw_173, kw_105, 25, by decide +kernel, fun as ρ μ h => by obtain ⟨nw, sp, tl, tx, al⟩ := ρ; obtain ⟨t, e, _⟩ := mq_pZ_spec h; exact ⟨0, t, e⟩⟩
def pq_brakesDiffer : List mq_E := [(0, false, .iconst 0), (1, false, .istore 3), (2, true, .aload 0), (3, false, .invokeinterface 9 4), (6, false, .ifnull (Int.ofNat 55)), (9, false, .iload 3), (10, false, .iconst 3), (11, false, .if_icmp .ge (Int.ofNat 55)), (14, false, .aload 0), (15, false, .invokeinterface 9 4), (18, false, .invokeinterface 3 6), (21, false, .iload 1), (22, false, .iconst 2), (23, false, .iload 3), (24, false, .fadd), (25, false, .invokestatic 0), (28, false, .istore 4), (30, false, .iload 4), (32, false, .iload 2), (33, false, .invokestatic 1), (36, false, .iload 4), (38, false, .iload 2), (39, false, .iconst 1), (40, false, .fsub), (41, false, .invokestatic 1), (44, false, .if_icmp .eq (Int.ofNat 49)), (47, false, .iconst 1), (48, false, .ireturn), (49, false, .iinc 3 1), (52, false, .goto (Int.ofNat 2)), (55, false, .iconst 0), (56, false, .ireturn)]
def cq_brakesDiffer : mq_C := ((yX9_brakesDiffer, cX9_brakesDiffer, 5, (some .boolean), { frames := 1, cells := 0, slots := 0, locals := 22 }), (3, 1, 0, 0), 0, (fun as ρ μ => match ρ with
  | (nw, sp, tl, tx, al) => mq_pZ as 25 fun as => mq_pI as fun k as => mq_pI as fun n as => mq_p0 as (True)),
  (fun as ρ μ r ρ' μ' => match as, ρ, ρ' with
  | [.inr (.inr (some (_, _))), .inl k, .inl n], (nw, sp, tl, tx, al), (nw', sp', tl', tx', al') => [0 ≤ r, r ≤ 1]
  | _, _, _ => []))
def kq_brakesDiffer : List mq_V → mq_R → mq_M → List mq_Cu := fun as ρ μ => match as, ρ with
  | [.inr (.inr (some (_, _))), .inl k, .inl n], (nw, sp, tl, tx, al) => [(2, [true, true, true, true, false], fun N l st ρ' μ' cs => mq_tZ l 25 fun l => mq_tI l fun v1 l => mq_tI l fun v2 l => mq_tI l fun v3 l => mq_tN l fun l => mq_t0 l (st = [] ∧ ρ' = (nw, sp, tl, tx, al) ∧ cs = 0 ∧ v1 = k ∧ v2 = n ∧ 0 ≤ v3 ∧ v3 ≤ 3 ∧ 0 ≤ (3 - v3 : Int) ∧ (3 - v3 : Int) < (N : Int)))]
  | _, _ => []
set_option maxHeartbeats 16000000 in
set_option maxRecDepth 100000 in
theorem vq_brakesDiffer (lc : Launch) (h_get_kinds : mq_Ct lc cq_get_kinds) (h_taken : mq_Ct lc cq_taken) : mq_Ct lc cq_brakesDiffer := by
  refine mq_method (lc := lc) (P := pq_brakesDiffer) (cl := [cq_get_kinds, cq_taken]) (T := ([(24, 9, 4), (56, 3, 6)], [], [], [(68, 0, 0), (80, 1, 1)], [], [])) (fuel := 400) (cuts := kq_brakesDiffer) (by decide) rfl ⟨rfl, rfl⟩ (List.forall_mem_cons.mpr ⟨h_get_kinds, (List.forall_mem_cons.mpr ⟨h_taken, (fun _ h => absurd h List.not_mem_nil)⟩)⟩) ⟨(List.forall_mem_cons.mpr ⟨⟨_, rfl, by decide, kw_99⟩, (List.forall_mem_cons.mpr ⟨⟨_, rfl, by decide, kw_115⟩, (fun _ h => absurd h List.not_mem_nil)⟩)⟩), (fun _ h => absurd h List.not_mem_nil), (fun _ h => absurd h List.not_mem_nil), (List.forall_mem_cons.mpr ⟨mq_ml0 rfl mw0_get_kinds kw_90, (List.forall_mem_cons.mpr ⟨mq_ml1 rfl mw1_taken kw_118, (fun _ h => absurd h List.not_mem_nil)⟩)⟩), (fun _ h => absurd h List.not_mem_nil), (fun _ h => absurd h List.not_mem_nil)⟩ (by decide +kernel) ⟨_, _, rfl⟩ ?_ ?_ ?_ ?_
  · intro as ρ μ h
    obtain ⟨nw, sp, tl, tx, al⟩ := ρ
    obtain ⟨as0, rfl, h0⟩ := mq_pZ_spec h
    clear h
    obtain ⟨k, as1, rfl, h1⟩ := mq_pI_spec h0
    clear h0
    obtain ⟨n, as2, rfl, h2⟩ := mq_pI_spec h1
    clear h1
    obtain ⟨rfl, hp⟩ := mq_p0_spec h2
    clear h2
    rfl
  · intro as ρ μ h
    obtain ⟨nw, sp, tl, tx, al⟩ := ρ
    obtain ⟨as0, rfl, h0⟩ := mq_pZ_spec h
    clear h
    obtain ⟨k, as1, rfl, h1⟩ := mq_pI_spec h0
    clear h0
    obtain ⟨n, as2, rfl, h2⟩ := mq_pI_spec h1
    clear h1
    obtain ⟨rfl, hp⟩ := mq_p0_spec h2
    clear h2
    intro hrg
    obtain ⟨⟨ha1a, ha1b⟩, ⟨ha2a, ha2b⟩, -⟩ := hrg
    intro hbk
    have e0 : mq_l0 ([.inr (.inr (some (25, 0))), .inl k, .inl n] : List mq_V) 5 = [some (.inr (.inr (some (25, 0)))), some (.inl k), some (.inl n), none, none] := rfl
    rw [e0]
    repeat' (first | refine And.intro ?_ ?_ | intro _)
    all_goals first | omega | rfl | exact trivial | (simp [mq_up] at * <;> omega)
  · intro as ρ μ h
    obtain ⟨nw, sp, tl, tx, al⟩ := ρ
    obtain ⟨as0, rfl, h0⟩ := mq_pZ_spec h
    clear h
    obtain ⟨k, as1, rfl, h1⟩ := mq_pI_spec h0
    clear h0
    obtain ⟨n, as2, rfl, h2⟩ := mq_pI_spec h1
    clear h1
    obtain ⟨rfl, hp⟩ := mq_p0_spec h2
    clear h2
    refine List.forall_mem_cons.mpr ⟨?_, ?_⟩
    · intro l st ρ' μ' cs hJ
      obtain ⟨l0, rfl, hJ0⟩ := mq_tZ_spec hJ
      clear hJ
      obtain ⟨v1, l1, rfl, hJ1⟩ := mq_tI_spec hJ0
      clear hJ0
      obtain ⟨v2, l2, rfl, hJ2⟩ := mq_tI_spec hJ1
      clear hJ1
      obtain ⟨v3, l3, rfl, hJ3⟩ := mq_tI_spec hJ2
      clear hJ2
      obtain ⟨l4, rfl, hJ4⟩ := mq_tN_spec hJ3
      clear hJ3
      obtain ⟨rfl, hJz⟩ := mq_t0_spec hJ4
      clear hJ4
      obtain ⟨rfl, rfl, rfl, hc0, hc1, hc2, hc3, hm0, hm1⟩ := hJz
      omega
    exact fun _ h => absurd h List.not_mem_nil
  · intro as ρ μ h
    obtain ⟨nw, sp, tl, tx, al⟩ := ρ
    obtain ⟨as0, rfl, h0⟩ := mq_pZ_spec h
    clear h
    obtain ⟨k, as1, rfl, h1⟩ := mq_pI_spec h0
    clear h0
    obtain ⟨n, as2, rfl, h2⟩ := mq_pI_spec h1
    clear h1
    obtain ⟨rfl, hp⟩ := mq_p0_spec h2
    clear h2
    intro hrg
    obtain ⟨⟨ha1a, ha1b⟩, ⟨ha2a, ha2b⟩, -⟩ := hrg
    refine List.forall_mem_cons.mpr ⟨?_, ?_⟩
    · intro N l st ρ' μ' cs hJ
      obtain ⟨l0, rfl, hJ0⟩ := mq_tZ_spec hJ
      clear hJ
      obtain ⟨v1, l1, rfl, hJ1⟩ := mq_tI_spec hJ0
      clear hJ0
      obtain ⟨v2, l2, rfl, hJ2⟩ := mq_tI_spec hJ1
      clear hJ1
      obtain ⟨v3, l3, rfl, hJ3⟩ := mq_tI_spec hJ2
      clear hJ2
      obtain ⟨l4, rfl, hJ4⟩ := mq_tN_spec hJ3
      clear hJ3
      obtain ⟨rfl, hJz⟩ := mq_t0_spec hJ4
      clear hJ4
      obtain ⟨rfl, rfl, rfl, hc0, hc1, hc2, hc3, hm0, hm1⟩ := hJz
      intro hbk hrl
      obtain ⟨⟨hl1a, hl1b⟩, ⟨hl2a, hl2b⟩, ⟨hl3a, hl3b⟩, -⟩ := hrl
      repeat' (first | refine And.intro ?_ ?_ | intro _)
      all_goals first | omega | rfl | exact trivial | (simp [mq_up] at * <;> omega)
    exact fun _ h => absurd h List.not_mem_nil
theorem mw0_brakesDiffer : mq_mlA cq_brakesDiffer 0 := ⟨kw_601, ⟨by decide +kernel, by decide +kernel⟩, by decide +kernel, kw_602, kw_603, kw_105, 25, by decide +kernel, fun as ρ μ h => by obtain ⟨nw, sp, tl, tx, al⟩ := ρ; obtain ⟨t, e, _⟩ := mq_pZ_spec h; exact ⟨0, t, e⟩⟩
def pq_soakKind : List mq_E := [(0, false, .aload 0), (1, false, .iload 2), (2, false, .multianewarray 9 5), (5, false, .aload 0), (6, false, .invokeinterface 9 4), (9, false, .ifnonnull (Int.ofNat 16)), (12, false, .iconst 0), (13, false, .goto (Int.ofNat 28)), (16, false, .aload 0), (17, false, .invokeinterface 9 4), (20, false, .invokeinterface 3 6), (23, false, .iload 1), (24, false, .iconst 1), (25, false, .invokestatic 0), (28, false, .istore 3), (29, false, .iconst 0), (30, false, .istore 4), (32, true, .aload 0), (33, false, .invokeinterface 9 4), (36, false, .ifnull (Int.ofNat 160)), (39, false, .iload 1), (40, false, .iconst 0), (41, false, .iconst 3), (42, false, .invokestatic 1), (45, false, .ifCond .eq (Int.ofNat 160)), (48, false, .iload 4), (50, false, .iconst 4), (51, false, .if_icmp .ge (Int.ofNat 160)), (54, false, .iload 4), (56, false, .ifCond .ne (Int.ofNat 63)), (59, false, .iconst 0), (60, false, .goto (Int.ofNat 80)), (63, false, .aload 0), (64, false, .invokeinterface 9 4), (67, false, .invokeinterface 3 6), (70, false, .iload 1), (71, false, .iconst 2), (72, false, .iload 4), (74, false, .iadd), (75, false, .iconst 1), (76, false, .isub), (77, false, .invokestatic 0), (80, false, .istore 5), (82, false, .iload 1), (83, false, .iconst 4), (84, false, .imul), (85, false, .iload 4), (87, false, .iadd), (88, false, .iconst 401), (91, false, .imul), (92, false, .istore 6), (94, false, .iconst 0), (95, false, .istore 7), (97, true, .iload 7), (99, false, .aload 0), (100, false, .invokeinterface 9 4), (103, false, .invokeinterface 3 0), (106, false, .if_icmp .gt (Int.ofNat 154)), (109, false, .iload 7), (111, false, .iconst 401), (114, false, .if_icmp .ge (Int.ofNat 154)), (117, false, .aload 0), (118, false, .invokeinterface 9 3), (121, false, .iload 6), (123, false, .iload 7), (125, false, .fadd), (126, false, .iload 3), (127, false, .iload 5), (129, false, .aload 0), (130, false, .iload 7), (132, false, .invokestatic 2), (135, false, .invokestatic 3), (138, false, .fadd), (139, false, .aload 0), (140, false, .invokeinterface 9 0), (143, false, .iload 7), (145, false, .iaload), (146, false, .fadd), (147, false, .iastore), (148, false, .iinc 7 1), (151, false, .goto (Int.ofNat 97)), (154, false, .iinc 4 1), (157, false, .goto (Int.ofNat 32)), (160, false, .return_)]
def cq_soakKind : mq_C := ((yX9_soakKind, cX9_soakKind, 8, none, { frames := 2, cells := 0, slots := 0, locals := 43 }), (3, 0, 0, 0), 570425344, (fun as ρ μ => match ρ with
  | (nw, sp, tl, tx, al) => mq_pZ as 25 fun as => mq_pI as fun k as => mq_pI as fun n as => mq_p0 as (0 ≤ n ∧ n ≤ 100)),
  (fun as ρ μ r ρ' μ' => match as, ρ, ρ' with
  | [.inr (.inr (some (_, _))), .inl k, .inl n], (nw, sp, tl, tx, al), (nw', sp', tl', tx', al') => []
  | _, _, _ => []))
def kq_soakKind : List mq_V → mq_R → mq_M → List mq_Cu := fun as ρ μ => match as, ρ with
  | [.inr (.inr (some (_, _))), .inl k, .inl n], (nw, sp, tl, tx, al) => [(32, [true, true, true, true, true, false, false, false], fun N l st ρ' μ' cs => mq_tZ l 25 fun l => mq_tI l fun v1 l => mq_tI l fun v2 l => mq_tI l fun v3 l => mq_tI l fun v4 l => mq_tN l fun l => mq_tN l fun l => mq_tN l fun l => mq_t0 l (st = [] ∧ ρ' = (nw, sp, tl, tx, al) ∧ cs = 0 ∧ v1 = k ∧ v2 = n ∧ 0 ≤ v4 ∧ v4 ≤ 4 ∧ 0 ≤ (1000 * (4 - v4) : Int) ∧ (1000 * (4 - v4) : Int) < (N : Int))),
    (97, [true, true, true, true, true, true, true, true], fun N l st ρ' μ' cs => mq_tZ l 25 fun l => mq_tI l fun v1 l => mq_tI l fun v2 l => mq_tI l fun v3 l => mq_tI l fun v4 l => mq_tI l fun v5 l => mq_tI l fun v6 l => mq_tI l fun v7 l => mq_t0 l (st = [] ∧ ρ' = (nw, sp, tl, tx, al) ∧ cs = 0 ∧ v1 = k ∧ v2 = n ∧ 0 ≤ v4 ∧ v4 ≤ 3 ∧ 0 ≤ v1 ∧ v1 ≤ 3 ∧ v6 = 401 * (4 * v1 + v4) ∧ 0 ≤ v7 ∧ v7 ≤ 401 ∧ 0 ≤ (1000 * (4 - v4) - 402 + (401 - v7) : Int) ∧ (1000 * (4 - v4) - 402 + (401 - v7) : Int) < (N : Int)))]
  | _, _ => []
set_option maxHeartbeats 16000000 in
set_option maxRecDepth 100000 in
theorem vq_soakKind (lc : Launch) (h_get_kinds : mq_Ct lc cq_get_kinds) (h_isAmong : mq_Ct lc cq_isAmong) (h_wetOf : mq_Ct lc cq_wetOf) (h_taken : mq_Ct lc cq_taken) : mq_Ct lc cq_soakKind := by
  refine mq_method (lc := lc) (P := pq_soakKind) (cl := [cq_get_kinds, cq_isAmong, cq_wetOf, cq_taken]) (T := ([(28, 9, 5), (24, 9, 4), (56, 3, 6), (32, 3, 0), (21, 9, 3), (9, 9, 0)], [], [], [(68, 0, 0), (72, 1, 2), (76, 2, 0), (80, 3, 1)], [], [])) (fuel := 400) (cuts := kq_soakKind) (by decide) rfl ⟨rfl, rfl⟩ (List.forall_mem_cons.mpr ⟨h_get_kinds, (List.forall_mem_cons.mpr ⟨h_isAmong, (List.forall_mem_cons.mpr ⟨h_wetOf, (List.forall_mem_cons.mpr ⟨h_taken, (fun _ h => absurd h List.not_mem_nil)⟩)⟩)⟩)⟩) ⟨(List.forall_mem_cons.mpr ⟨⟨_, rfl, by decide, kw_96⟩, (List.forall_mem_cons.mpr ⟨⟨_, rfl, by decide, kw_99⟩, (List.forall_mem_cons.mpr ⟨⟨_, rfl, by decide, kw_115⟩, (List.forall_mem_cons.mpr ⟨⟨_, rfl, by decide, kw_101⟩, (List.forall_mem_cons.mpr ⟨⟨_, rfl, by decide, kw_108⟩, (List.forall_mem_cons.mpr ⟨⟨_, rfl, by decide, kw_92⟩, (fun _ h => absurd h List.not_mem_nil)⟩)⟩)⟩)⟩)⟩)⟩), (fun _ h => absurd h List.not_mem_nil), (fun _ h => absurd h List.not_mem_nil), (List.forall_mem_cons.mpr ⟨mq_ml0 rfl mw0_get_kinds kw_90, (List.forall_mem_cons.mpr ⟨mq_ml2 rfl mw1_isAmong 6 rfl, (List.forall_mem_cons.mpr ⟨mq_ml0 rfl mw0_wetOf kw_122, (List.forall_mem_cons.mpr ⟨mq_ml1 rfl mw1_taken kw_118, (fun _ h => absurd h List.not_mem_nil)⟩)⟩)⟩)⟩), (fun _ h => absurd h List.not_mem_nil), (fun _ h => absurd h List.not_mem_nil)⟩ (by decide +kernel) ⟨_, _, rfl⟩ ?_ ?_ ?_ ?_
  · intro as ρ μ h
    obtain ⟨nw, sp, tl, tx, al⟩ := ρ
    obtain ⟨as0, rfl, h0⟩ := mq_pZ_spec h
    clear h
    obtain ⟨k, as1, rfl, h1⟩ := mq_pI_spec h0
    clear h0
    obtain ⟨n, as2, rfl, h2⟩ := mq_pI_spec h1
    clear h1
    obtain ⟨rfl, hp⟩ := mq_p0_spec h2
    clear h2
    obtain ⟨hp0, hp1⟩ := hp
    rfl
  · intro as ρ μ h
    obtain ⟨nw, sp, tl, tx, al⟩ := ρ
    obtain ⟨as0, rfl, h0⟩ := mq_pZ_spec h
    clear h
    obtain ⟨k, as1, rfl, h1⟩ := mq_pI_spec h0
    clear h0
    obtain ⟨n, as2, rfl, h2⟩ := mq_pI_spec h1
    clear h1
    obtain ⟨rfl, hp⟩ := mq_p0_spec h2
    clear h2
    obtain ⟨hp0, hp1⟩ := hp
    intro hrg
    obtain ⟨⟨ha1a, ha1b⟩, ⟨ha2a, ha2b⟩, -⟩ := hrg
    intro hbk
    have e0 : mq_l0 ([.inr (.inr (some (25, 0))), .inl k, .inl n] : List mq_V) 8 = [some (.inr (.inr (some (25, 0)))), some (.inl k), some (.inl n), none, none, none, none, none] := rfl
    rw [e0]
    repeat' (first | refine And.intro ?_ ?_ | intro _)
    all_goals first | omega | rfl | exact trivial | (simp [mq_up] at * <;> omega)
  · intro as ρ μ h
    obtain ⟨nw, sp, tl, tx, al⟩ := ρ
    obtain ⟨as0, rfl, h0⟩ := mq_pZ_spec h
    clear h
    obtain ⟨k, as1, rfl, h1⟩ := mq_pI_spec h0
    clear h0
    obtain ⟨n, as2, rfl, h2⟩ := mq_pI_spec h1
    clear h1
    obtain ⟨rfl, hp⟩ := mq_p0_spec h2
    clear h2
    obtain ⟨hp0, hp1⟩ := hp
    refine List.forall_mem_cons.mpr ⟨?_, ?_⟩
    · intro l st ρ' μ' cs hJ
      obtain ⟨l0, rfl, hJ0⟩ := mq_tZ_spec hJ
      clear hJ
      obtain ⟨v1, l1, rfl, hJ1⟩ := mq_tI_spec hJ0
      clear hJ0
      obtain ⟨v2, l2, rfl, hJ2⟩ := mq_tI_spec hJ1
      clear hJ1
      obtain ⟨v3, l3, rfl, hJ3⟩ := mq_tI_spec hJ2
      clear hJ2
      obtain ⟨v4, l4, rfl, hJ4⟩ := mq_tI_spec hJ3
      clear hJ3
      obtain ⟨l5, rfl, hJ5⟩ := mq_tN_spec hJ4
      clear hJ4
      obtain ⟨l6, rfl, hJ6⟩ := mq_tN_spec hJ5
      clear hJ5
      obtain ⟨l7, rfl, hJ7⟩ := mq_tN_spec hJ6
      clear hJ6
      obtain ⟨rfl, hJz⟩ := mq_t0_spec hJ7
      clear hJ7
      obtain ⟨rfl, rfl, rfl, hc0, hc1, hc2, hc3, hm0, hm1⟩ := hJz
      omega
    refine List.forall_mem_cons.mpr ⟨?_, ?_⟩
    · intro l st ρ' μ' cs hJ
      obtain ⟨l0, rfl, hJ0⟩ := mq_tZ_spec hJ
      clear hJ
      obtain ⟨v1, l1, rfl, hJ1⟩ := mq_tI_spec hJ0
      clear hJ0
      obtain ⟨v2, l2, rfl, hJ2⟩ := mq_tI_spec hJ1
      clear hJ1
      obtain ⟨v3, l3, rfl, hJ3⟩ := mq_tI_spec hJ2
      clear hJ2
      obtain ⟨v4, l4, rfl, hJ4⟩ := mq_tI_spec hJ3
      clear hJ3
      obtain ⟨v5, l5, rfl, hJ5⟩ := mq_tI_spec hJ4
      clear hJ4
      obtain ⟨v6, l6, rfl, hJ6⟩ := mq_tI_spec hJ5
      clear hJ5
      obtain ⟨v7, l7, rfl, hJ7⟩ := mq_tI_spec hJ6
      clear hJ6
      obtain ⟨rfl, hJz⟩ := mq_t0_spec hJ7
      clear hJ7
      obtain ⟨rfl, rfl, rfl, hc0, hc1, hc2, hc3, hc4, hc5, hc6, hc7, hc8, hm0, hm1⟩ := hJz
      omega
    exact fun _ h => absurd h List.not_mem_nil
  · intro as ρ μ h
    obtain ⟨nw, sp, tl, tx, al⟩ := ρ
    obtain ⟨as0, rfl, h0⟩ := mq_pZ_spec h
    clear h
    obtain ⟨k, as1, rfl, h1⟩ := mq_pI_spec h0
    clear h0
    obtain ⟨n, as2, rfl, h2⟩ := mq_pI_spec h1
    clear h1
    obtain ⟨rfl, hp⟩ := mq_p0_spec h2
    clear h2
    obtain ⟨hp0, hp1⟩ := hp
    intro hrg
    obtain ⟨⟨ha1a, ha1b⟩, ⟨ha2a, ha2b⟩, -⟩ := hrg
    refine List.forall_mem_cons.mpr ⟨?_, ?_⟩
    · intro N l st ρ' μ' cs hJ
      obtain ⟨l0, rfl, hJ0⟩ := mq_tZ_spec hJ
      clear hJ
      obtain ⟨v1, l1, rfl, hJ1⟩ := mq_tI_spec hJ0
      clear hJ0
      obtain ⟨v2, l2, rfl, hJ2⟩ := mq_tI_spec hJ1
      clear hJ1
      obtain ⟨v3, l3, rfl, hJ3⟩ := mq_tI_spec hJ2
      clear hJ2
      obtain ⟨v4, l4, rfl, hJ4⟩ := mq_tI_spec hJ3
      clear hJ3
      obtain ⟨l5, rfl, hJ5⟩ := mq_tN_spec hJ4
      clear hJ4
      obtain ⟨l6, rfl, hJ6⟩ := mq_tN_spec hJ5
      clear hJ5
      obtain ⟨l7, rfl, hJ7⟩ := mq_tN_spec hJ6
      clear hJ6
      obtain ⟨rfl, hJz⟩ := mq_t0_spec hJ7
      clear hJ7
      obtain ⟨rfl, rfl, rfl, hc0, hc1, hc2, hc3, hm0, hm1⟩ := hJz
      intro hbk hrl
      obtain ⟨⟨hl1a, hl1b⟩, ⟨hl2a, hl2b⟩, ⟨hl3a, hl3b⟩, ⟨hl4a, hl4b⟩, -⟩ := hrl
      repeat' (first | refine And.intro ?_ ?_ | intro _)
      all_goals first | omega | rfl | exact trivial | (simp [mq_up] at * <;> omega)
    refine List.forall_mem_cons.mpr ⟨?_, ?_⟩
    · intro N l st ρ' μ' cs hJ
      obtain ⟨l0, rfl, hJ0⟩ := mq_tZ_spec hJ
      clear hJ
      obtain ⟨v1, l1, rfl, hJ1⟩ := mq_tI_spec hJ0
      clear hJ0
      obtain ⟨v2, l2, rfl, hJ2⟩ := mq_tI_spec hJ1
      clear hJ1
      obtain ⟨v3, l3, rfl, hJ3⟩ := mq_tI_spec hJ2
      clear hJ2
      obtain ⟨v4, l4, rfl, hJ4⟩ := mq_tI_spec hJ3
      clear hJ3
      obtain ⟨v5, l5, rfl, hJ5⟩ := mq_tI_spec hJ4
      clear hJ4
      obtain ⟨v6, l6, rfl, hJ6⟩ := mq_tI_spec hJ5
      clear hJ5
      obtain ⟨v7, l7, rfl, hJ7⟩ := mq_tI_spec hJ6
      clear hJ6
      obtain ⟨rfl, hJz⟩ := mq_t0_spec hJ7
      clear hJ7
      obtain ⟨rfl, rfl, rfl, hc0, hc1, hc2, hc3, hc4, hc5, hc6, hc7, hc8, hm0, hm1⟩ := hJz
      intro hbk hrl
      obtain ⟨⟨hl1a, hl1b⟩, ⟨hl2a, hl2b⟩, ⟨hl3a, hl3b⟩, ⟨hl4a, hl4b⟩, ⟨hl5a, hl5b⟩, ⟨hl6a, hl6b⟩, ⟨hl7a, hl7b⟩, -⟩ := hrl
      repeat' (first | refine And.intro ?_ ?_ | intro _)
      all_goals first | omega | rfl | exact trivial | (simp [mq_up] at * <;> omega)
    exact fun _ h => absurd h List.not_mem_nil
theorem mw0_soakKind : mq_mlA cq_soakKind 0 := ⟨kw_123, ⟨by decide +kernel, by decide +kernel⟩, by decide +kernel, kw_124, kw_125, kw_105, 25, by decide +kernel, fun as ρ μ h => by obtain ⟨nw, sp, tl, tx, al⟩ := ρ; obtain ⟨t, e, _⟩ := mq_pZ_spec h; exact ⟨0, t, e⟩⟩
def pq_soak : List mq_E := [(0, false, .iconst 0), (1, false, .istore 2), (2, true, .aload 0), (3, false, .invokeinterface 9 4), (6, false, .ifnull (Int.ofNat 35)), (9, false, .iload 2), (10, false, .aload 0), (11, false, .invokeinterface 9 4), (14, false, .invokeinterface 3 6), (17, false, .invokeinterface 6 3), (20, false, .if_icmp .ge (Int.ofNat 35)), (23, false, .aload 0), (24, false, .iload 2), (25, false, .iload 1), (26, false, .invokestatic 0), (29, false, .iinc 2 1), (32, false, .goto (Int.ofNat 2)), (35, false, .aload 0), (36, false, .iload 1), (37, false, .multianewarray 9 5), (40, false, .return_)]
def cq_soak : mq_C := ((yX9_soak, cX9_soak, 3, none, { frames := 3, cells := 0, slots := 0, locals := 70 }), (2, 0, 0, 0), 570425344, (fun as ρ μ => match ρ with
  | (nw, sp, tl, tx, al) => mq_pZ as 25 fun as => mq_pI as fun n as => mq_p0 as (0 ≤ n ∧ n ≤ 100)),
  (fun as ρ μ r ρ' μ' => match as, ρ, ρ' with
  | [.inr (.inr (some (_, _))), .inl n], (nw, sp, tl, tx, al), (nw', sp', tl', tx', al') => []
  | _, _, _ => []))
def kq_soak : List mq_V → mq_R → mq_M → List mq_Cu := fun as ρ μ => match as, ρ with
  | [.inr (.inr (some (_, _))), .inl n], (nw, sp, tl, tx, al) => [(2, [true, true, true], fun N l st ρ' μ' cs => mq_tZ l 25 fun l => mq_tI l fun v1 l => mq_tI l fun v2 l => mq_t0 l (st = [] ∧ ρ' = (nw, sp, tl, tx, al) ∧ cs = 0 ∧ v1 = n ∧ 0 ≤ v2 ∧ v2 ≤ 4 ∧ 0 ≤ (4 - v2 : Int) ∧ (4 - v2 : Int) < (N : Int)))]
  | _, _ => []
set_option maxHeartbeats 16000000 in
set_option maxRecDepth 100000 in
theorem vq_soak (lc : Launch) (h_soakKind : mq_Ct lc cq_soakKind) : mq_Ct lc cq_soak := by
  refine mq_method (lc := lc) (P := pq_soak) (cl := [cq_soakKind]) (T := ([(24, 9, 4), (56, 3, 6), (59, 6, 3), (28, 9, 5)], [], [], [(64, 0, 0)], [], [])) (fuel := 400) (cuts := kq_soak) (by decide) rfl ⟨rfl, rfl⟩ (List.forall_mem_cons.mpr ⟨h_soakKind, (fun _ h => absurd h List.not_mem_nil)⟩) ⟨(List.forall_mem_cons.mpr ⟨⟨_, rfl, by decide, kw_99⟩, (List.forall_mem_cons.mpr ⟨⟨_, rfl, by decide, kw_115⟩, (List.forall_mem_cons.mpr ⟨⟨_, rfl, by decide, kw_89⟩, (List.forall_mem_cons.mpr ⟨⟨_, rfl, by decide, kw_96⟩, (fun _ h => absurd h List.not_mem_nil)⟩)⟩)⟩)⟩), (fun _ h => absurd h List.not_mem_nil), (fun _ h => absurd h List.not_mem_nil), (List.forall_mem_cons.mpr ⟨mq_ml0 rfl mw0_soakKind kw_126, (fun _ h => absurd h List.not_mem_nil)⟩), (fun _ h => absurd h List.not_mem_nil), (fun _ h => absurd h List.not_mem_nil)⟩ (by decide +kernel) ⟨_, _, rfl⟩ ?_ ?_ ?_ ?_
  · intro as ρ μ h
    obtain ⟨nw, sp, tl, tx, al⟩ := ρ
    obtain ⟨as0, rfl, h0⟩ := mq_pZ_spec h
    clear h
    obtain ⟨n, as1, rfl, h1⟩ := mq_pI_spec h0
    clear h0
    obtain ⟨rfl, hp⟩ := mq_p0_spec h1
    clear h1
    obtain ⟨hp0, hp1⟩ := hp
    rfl
  · intro as ρ μ h
    obtain ⟨nw, sp, tl, tx, al⟩ := ρ
    obtain ⟨as0, rfl, h0⟩ := mq_pZ_spec h
    clear h
    obtain ⟨n, as1, rfl, h1⟩ := mq_pI_spec h0
    clear h0
    obtain ⟨rfl, hp⟩ := mq_p0_spec h1
    clear h1
    obtain ⟨hp0, hp1⟩ := hp
    intro hrg
    obtain ⟨⟨ha1a, ha1b⟩, -⟩ := hrg
    intro hbk
    have e0 : mq_l0 ([.inr (.inr (some (25, 0))), .inl n] : List mq_V) 3 = [some (.inr (.inr (some (25, 0)))), some (.inl n), none] := rfl
    rw [e0]
    repeat' (first | refine And.intro ?_ ?_ | intro _)
    all_goals first | omega | rfl | exact trivial | (simp [mq_up] at * <;> omega)
  · intro as ρ μ h
    obtain ⟨nw, sp, tl, tx, al⟩ := ρ
    obtain ⟨as0, rfl, h0⟩ := mq_pZ_spec h
    clear h
    obtain ⟨n, as1, rfl, h1⟩ := mq_pI_spec h0
    clear h0
    obtain ⟨rfl, hp⟩ := mq_p0_spec h1
    clear h1
    obtain ⟨hp0, hp1⟩ := hp
    refine List.forall_mem_cons.mpr ⟨?_, ?_⟩
    · intro l st ρ' μ' cs hJ
      obtain ⟨l0, rfl, hJ0⟩ := mq_tZ_spec hJ
      clear hJ
      obtain ⟨v1, l1, rfl, hJ1⟩ := mq_tI_spec hJ0
      clear hJ0
      obtain ⟨v2, l2, rfl, hJ2⟩ := mq_tI_spec hJ1
      clear hJ1
      obtain ⟨rfl, hJz⟩ := mq_t0_spec hJ2
      clear hJ2
      obtain ⟨rfl, rfl, rfl, hc0, hc1, hc2, hm0, hm1⟩ := hJz
      omega
    exact fun _ h => absurd h List.not_mem_nil
  · intro as ρ μ h
    obtain ⟨nw, sp, tl, tx, al⟩ := ρ
    obtain ⟨as0, rfl, h0⟩ := mq_pZ_spec h
    clear h
    obtain ⟨n, as1, rfl, h1⟩ := mq_pI_spec h0
    clear h0
    obtain ⟨rfl, hp⟩ := mq_p0_spec h1
    clear h1
    obtain ⟨hp0, hp1⟩ := hp
    intro hrg
    obtain ⟨⟨ha1a, ha1b⟩, -⟩ := hrg
    refine List.forall_mem_cons.mpr ⟨?_, ?_⟩
    · intro N l st ρ' μ' cs hJ
      obtain ⟨l0, rfl, hJ0⟩ := mq_tZ_spec hJ
      clear hJ
      obtain ⟨v1, l1, rfl, hJ1⟩ := mq_tI_spec hJ0
      clear hJ0
      obtain ⟨v2, l2, rfl, hJ2⟩ := mq_tI_spec hJ1
      clear hJ1
      obtain ⟨rfl, hJz⟩ := mq_t0_spec hJ2
      clear hJ2
      obtain ⟨rfl, rfl, rfl, hc0, hc1, hc2, hm0, hm1⟩ := hJz
      intro hbk hrl
      obtain ⟨⟨hl1a, hl1b⟩, ⟨hl2a, hl2b⟩, -⟩ := hrl
      repeat' (first | refine And.intro ?_ ?_ | intro _)
      all_goals first | omega | rfl | exact trivial | (simp [mq_up] at * <;> omega)
    exact fun _ h => absurd h List.not_mem_nil
theorem mw0_soak : mq_mlA cq_soak 0 := ⟨kw_136, ⟨by decide +kernel, by decide +kernel⟩, by decide +kernel, kw_137, kw_138, kw_105, 25, by decide +kernel, fun as ρ μ h => by obtain ⟨nw, sp, tl, tx, al⟩ := ρ; obtain ⟨t, e, _⟩ := mq_pZ_spec h; exact ⟨0, t, e⟩⟩
def pq_lay : List mq_E := [(0, false, .aload 0), (1, false, .aload 1), (2, false, .multianewarray 9 4), (5, false, .iconst 0), (6, false, .istore 3), (7, true, .iload 3), (8, false, .aload 1), (9, false, .invokeinterface 3 0), (12, false, .if_icmp .gt (Int.ofNat 75)), (15, false, .iload 3), (16, false, .iconst 401), (19, false, .if_icmp .ge (Int.ofNat 75)), (22, false, .aload 0), (23, false, .invokeinterface 9 0), (26, false, .iload 3), (27, false, .aload 1), (28, false, .invokeinterface 3 2), (31, false, .iconst 1), (32, false, .iload 3), (33, false, .iconst 0), (34, false, .invokestatic 0), (37, false, .iastore), (38, false, .aload 0), (39, false, .invokeinterface 9 1), (42, false, .iload 3), (43, false, .aload 1), (44, false, .invokeinterface 3 3), (47, false, .iload 3), (48, false, .invokestatic 1), (51, false, .iastore), (52, false, .aload 0), (53, false, .invokeinterface 9 2), (56, false, .iload 3), (57, false, .aload 1), (58, false, .invokeinterface 3 4), (61, false, .iconst 1), (62, false, .iload 3), (63, false, .iconst 15), (65, false, .invokestatic 2), (68, false, .iastore), (69, false, .iinc 3 1), (72, false, .goto (Int.ofNat 7)), (75, false, .aload 0), (76, false, .iload 2), (77, false, .invokestatic 3), (80, false, .return_)]
def cq_lay : mq_C := ((yX9_lay, cX9_lay, 4, none, { frames := 4, cells := 0, slots := 0, locals := 92 }), (3, 0, 2, 0), 1040187392, (fun as ρ μ => match ρ with
  | (nw, sp, tl, tx, al) => mq_pZ as 25 fun as => mq_pR as 2 fun L as => mq_pI as fun n as => mq_p0 as (0 ≤ n ∧ n ≤ 100)),
  (fun as ρ μ r ρ' μ' => match as, ρ, ρ' with
  | [.inr (.inr (some (_, _))), .inr (.inr (some (_, L))), .inl n], (nw, sp, tl, tx, al), (nw', sp', tl', tx', al') => [nw' = nw, sp' = sp, tl' = L, tx' = tx]
  | _, _, _ => []))
def kq_lay : List mq_V → mq_R → mq_M → List mq_Cu := fun as ρ μ => match as, ρ with
  | [.inr (.inr (some (_, _))), .inr (.inr (some (_, L))), .inl n], (nw, sp, tl, tx, al) => [(7, [true, true, true, true], fun N l st ρ' μ' cs => mq_tZ l 25 fun l => mq_tR l 2 fun L1 l => mq_tI l fun v2 l => mq_tI l fun v3 l => mq_t0 l (st = [] ∧ ρ' = (nw, sp, L, tx, al) ∧ cs = 0 ∧ L1 = L ∧ v2 = n ∧ 0 ≤ v3 ∧ v3 ≤ 401 ∧ 0 ≤ (401 - v3 : Int) ∧ (401 - v3 : Int) < (N : Int)))]
  | _, _ => []
set_option maxHeartbeats 16000000 in
set_option maxRecDepth 100000 in
theorem vq_lay (lc : Launch) (h_lastTold_slopes : mq_Ct lc cq_lastTold_slopes) (h_wettest : mq_Ct lc cq_wettest) (h_lastTold_limits : mq_Ct lc cq_lastTold_limits) (h_soak : mq_Ct lc cq_soak) : mq_Ct lc cq_lay := by
  refine mq_method (lc := lc) (P := pq_lay) (cl := [cq_lastTold_slopes, cq_wettest, cq_lastTold_limits, cq_soak]) (T := ([(24, 9, 4), (32, 3, 0), (9, 9, 0), (37, 3, 2), (15, 9, 1), (44, 3, 3), (18, 9, 2), (50, 3, 4)], [], [], [(40, 0, 1), (46, 1, 1), (40, 2, 1), (52, 3, 0)], [], [])) (fuel := 400) (cuts := kq_lay) (by decide) rfl ⟨rfl, rfl⟩ (List.forall_mem_cons.mpr ⟨h_lastTold_slopes, (List.forall_mem_cons.mpr ⟨h_wettest, (List.forall_mem_cons.mpr ⟨h_lastTold_limits, (List.forall_mem_cons.mpr ⟨h_soak, (fun _ h => absurd h List.not_mem_nil)⟩)⟩)⟩)⟩) ⟨(List.forall_mem_cons.mpr ⟨⟨_, rfl, by decide, kw_99⟩, (List.forall_mem_cons.mpr ⟨⟨_, rfl, by decide, kw_101⟩, (List.forall_mem_cons.mpr ⟨⟨_, rfl, by decide, kw_92⟩, (List.forall_mem_cons.mpr ⟨⟨_, rfl, by decide, kw_127⟩, (List.forall_mem_cons.mpr ⟨⟨_, rfl, by decide, kw_97⟩, (List.forall_mem_cons.mpr ⟨⟨_, rfl, by decide, kw_128⟩, (List.forall_mem_cons.mpr ⟨⟨_, rfl, by decide, kw_98⟩, (List.forall_mem_cons.mpr ⟨⟨_, rfl, by decide, kw_129⟩, (fun _ h => absurd h List.not_mem_nil)⟩)⟩)⟩)⟩)⟩)⟩)⟩)⟩), (fun _ h => absurd h List.not_mem_nil), (fun _ h => absurd h List.not_mem_nil), (List.forall_mem_cons.mpr ⟨mq_ml1 rfl mw1_lastTold_slopes kw_132, (List.forall_mem_cons.mpr ⟨mq_ml1 rfl mw1_wettest kw_135, (List.forall_mem_cons.mpr ⟨mq_ml1 rfl mw1_lastTold_limits kw_132, (List.forall_mem_cons.mpr ⟨mq_ml0 rfl mw0_soak kw_139, (fun _ h => absurd h List.not_mem_nil)⟩)⟩)⟩)⟩), (fun _ h => absurd h List.not_mem_nil), (fun _ h => absurd h List.not_mem_nil)⟩ (by decide +kernel) ⟨_, _, rfl⟩ ?_ ?_ ?_ ?_
  · intro as ρ μ h
    obtain ⟨nw, sp, tl, tx, al⟩ := ρ
    obtain ⟨as0, rfl, h0⟩ := mq_pZ_spec h
    clear h
    obtain ⟨L, as1, rfl, h1⟩ := mq_pR_spec h0
    clear h0
    obtain ⟨n, as2, rfl, h2⟩ := mq_pI_spec h1
    clear h1
    obtain ⟨rfl, hp⟩ := mq_p0_spec h2
    clear h2
    obtain ⟨hp0, hp1⟩ := hp
    rfl
  · intro as ρ μ h
    obtain ⟨nw, sp, tl, tx, al⟩ := ρ
    obtain ⟨as0, rfl, h0⟩ := mq_pZ_spec h
    clear h
    obtain ⟨L, as1, rfl, h1⟩ := mq_pR_spec h0
    clear h0
    obtain ⟨n, as2, rfl, h2⟩ := mq_pI_spec h1
    clear h1
    obtain ⟨rfl, hp⟩ := mq_p0_spec h2
    clear h2
    obtain ⟨hp0, hp1⟩ := hp
    intro hrg
    obtain ⟨⟨ha2a, ha2b⟩, -⟩ := hrg
    intro hbk
    have e0 : mq_l0 ([.inr (.inr (some (25, 0))), .inr (.inr (some (2, L))), .inl n] : List mq_V) 4 = [some (.inr (.inr (some (25, 0)))), some (.inr (.inr (some (2, L)))), some (.inl n), none] := rfl
    rw [e0]
    repeat' (first | refine And.intro ?_ ?_ | intro _)
    all_goals first | omega | rfl | exact trivial | (simp [mq_up] at * <;> omega)
  · intro as ρ μ h
    obtain ⟨nw, sp, tl, tx, al⟩ := ρ
    obtain ⟨as0, rfl, h0⟩ := mq_pZ_spec h
    clear h
    obtain ⟨L, as1, rfl, h1⟩ := mq_pR_spec h0
    clear h0
    obtain ⟨n, as2, rfl, h2⟩ := mq_pI_spec h1
    clear h1
    obtain ⟨rfl, hp⟩ := mq_p0_spec h2
    clear h2
    obtain ⟨hp0, hp1⟩ := hp
    refine List.forall_mem_cons.mpr ⟨?_, ?_⟩
    · intro l st ρ' μ' cs hJ
      obtain ⟨l0, rfl, hJ0⟩ := mq_tZ_spec hJ
      clear hJ
      obtain ⟨L1, l1, rfl, hJ1⟩ := mq_tR_spec hJ0
      clear hJ0
      obtain ⟨v2, l2, rfl, hJ2⟩ := mq_tI_spec hJ1
      clear hJ1
      obtain ⟨v3, l3, rfl, hJ3⟩ := mq_tI_spec hJ2
      clear hJ2
      obtain ⟨rfl, hJz⟩ := mq_t0_spec hJ3
      clear hJ3
      obtain ⟨rfl, rfl, rfl, rfl, hc1, hc2, hc3, hm0, hm1⟩ := hJz
      omega
    exact fun _ h => absurd h List.not_mem_nil
  · intro as ρ μ h
    obtain ⟨nw, sp, tl, tx, al⟩ := ρ
    obtain ⟨as0, rfl, h0⟩ := mq_pZ_spec h
    clear h
    obtain ⟨L, as1, rfl, h1⟩ := mq_pR_spec h0
    clear h0
    obtain ⟨n, as2, rfl, h2⟩ := mq_pI_spec h1
    clear h1
    obtain ⟨rfl, hp⟩ := mq_p0_spec h2
    clear h2
    obtain ⟨hp0, hp1⟩ := hp
    intro hrg
    obtain ⟨⟨ha2a, ha2b⟩, -⟩ := hrg
    refine List.forall_mem_cons.mpr ⟨?_, ?_⟩
    · intro N l st ρ' μ' cs hJ
      obtain ⟨l0, rfl, hJ0⟩ := mq_tZ_spec hJ
      clear hJ
      obtain ⟨L1, l1, rfl, hJ1⟩ := mq_tR_spec hJ0
      clear hJ0
      obtain ⟨v2, l2, rfl, hJ2⟩ := mq_tI_spec hJ1
      clear hJ1
      obtain ⟨v3, l3, rfl, hJ3⟩ := mq_tI_spec hJ2
      clear hJ2
      obtain ⟨rfl, hJz⟩ := mq_t0_spec hJ3
      clear hJ3
      obtain ⟨rfl, rfl, rfl, rfl, hc1, hc2, hc3, hm0, hm1⟩ := hJz
      intro hbk hrl
      obtain ⟨⟨hl2a, hl2b⟩, ⟨hl3a, hl3b⟩, -⟩ := hrl
      repeat' (first | refine And.intro ?_ ?_ | intro _)
      all_goals first | omega | rfl | exact trivial | (simp [mq_up] at * <;> omega)
    exact fun _ h => absurd h List.not_mem_nil
theorem mw0_lay : mq_mlA cq_lay 0 := ⟨kw_516, ⟨by decide +kernel, by decide +kernel⟩, by decide +kernel, kw_517, kw_518, kw_105, 25, by decide +kernel, fun as ρ μ h => by obtain ⟨nw, sp, tl, tx, al⟩ := ρ; obtain ⟨t, e, _⟩ := mq_pZ_spec h; exact ⟨0, t, e⟩⟩
