def pq_m_copy_lines : List mq_E := [(0, false, .iconst 0), (1, false, .istore 4), (3, true, .iload 4), (5, false, .iload 1), (6, false, .if_icmp .ge (Int.ofNat 31)), (9, false, .aload 0), (10, false, .iload 1), (11, false, .iload 3), (12, false, .imul), (13, false, .iload 4), (15, false, .iadd), (16, false, .aload 0), (17, false, .iload 1), (18, false, .iload 2), (19, false, .imul), (20, false, .iload 4), (22, false, .iadd), (23, false, .iaload), (24, false, .iastore), (25, false, .iinc 4 1), (28, false, .goto (Int.ofNat 3)), (31, false, .return_)]
def cq_m_copy_lines : mq_C := ((yX11_copyRow, cX11_copyRow, 5, none, { frames := 0, cells := 0, slots := 0, locals := 0 }), (4, 0, 0, 0), 73786976294838206464, (fun as ρ μ => match ρ with
  | (nw, sp, tl, tx, al) => mq_pZ as 66 fun as => mq_pI as fun n as => mq_pI as fun a as => mq_pI as fun b as => mq_p0 as (n = 1 ∧ 0 ≤ a ∧ a ≤ 4 ∧ 0 ≤ b ∧ b ≤ 4 ∧ ¬ a = b)),
  (fun as ρ μ r ρ' μ' => match as, ρ, ρ' with
  | [.inr (.inr (some (_, _))), .inl n, .inl a, .inl b], (nw, sp, tl, tx, al), (nw', sp', tl', tx', al') => [sq_bx (sq_cp (μ (66, 0)) (μ' (66, 0)) 1 a b 1)]
  | _, _, _ => []))
def kq_m_copy_lines : List mq_V → mq_R → mq_M → List mq_Cu := fun as ρ μ => match as, ρ with
  | [.inr (.inr (some (_, _))), .inl n, .inl a, .inl b], (nw, sp, tl, tx, al) => [(3, [true, true, true, true, true], fun N l st ρ' μ' cs => mq_tZ l 66 fun l => mq_tI l fun v1 l => mq_tI l fun v2 l => mq_tI l fun v3 l => mq_tI l fun v4 l => mq_t0 l (st = [] ∧ ρ' = (nw, sp, tl, tx, al) ∧ cs = 0 ∧ v1 = n ∧ v2 = a ∧ v3 = b ∧ 0 ≤ v4 ∧ v4 ≤ 1 ∧ sq_bx (sq_cp (μ (66, 0)) (μ' (66, 0)) 1 a b v4) ∧ 0 ≤ (1 - v4 : Int) ∧ (1 - v4 : Int) < (N : Int)))]
  | _, _ => []
set_option maxHeartbeats 16000000 in
set_option maxRecDepth 100000 in
theorem vq_m_copy_lines (lc : Launch)  : mq_Ct lc cq_m_copy_lines := by
  refine mq_method (lc := lc) (P := pq_m_copy_lines) (cl := []) (T := ([], [], [], [], [], [])) (fuel := 400) (cuts := kq_m_copy_lines) (by decide) rfl ⟨rfl, rfl⟩ (fun _ h => absurd h List.not_mem_nil) ⟨(fun _ h => absurd h List.not_mem_nil), (fun _ h => absurd h List.not_mem_nil), (fun _ h => absurd h List.not_mem_nil), (fun _ h => absurd h List.not_mem_nil), (fun _ h => absurd h List.not_mem_nil), (fun _ h => absurd h List.not_mem_nil)⟩ (by decide +kernel) ⟨_, _, rfl⟩ ?_ ?_ ?_ ?_
  · intro as ρ μ h
    obtain ⟨nw, sp, tl, tx, al⟩ := ρ
    obtain ⟨as0, rfl, h0⟩ := mq_pZ_spec h
    clear h
    obtain ⟨n, as1, rfl, h1⟩ := mq_pI_spec h0
    clear h0
    obtain ⟨a, as2, rfl, h2⟩ := mq_pI_spec h1
    clear h1
    obtain ⟨b, as3, rfl, h3⟩ := mq_pI_spec h2
    clear h2
    obtain ⟨rfl, hp⟩ := mq_p0_spec h3
    clear h3
    obtain ⟨hp0, hp1, hp2, hp3, hp4, hp5⟩ := hp
    rfl
  · intro as ρ μ h
    obtain ⟨nw, sp, tl, tx, al⟩ := ρ
    obtain ⟨as0, rfl, h0⟩ := mq_pZ_spec h
    clear h
    obtain ⟨n, as1, rfl, h1⟩ := mq_pI_spec h0
    clear h0
    obtain ⟨a, as2, rfl, h2⟩ := mq_pI_spec h1
    clear h1
    obtain ⟨b, as3, rfl, h3⟩ := mq_pI_spec h2
    clear h2
    obtain ⟨rfl, hp⟩ := mq_p0_spec h3
    clear h3
    obtain ⟨hp0, hp1, hp2, hp3, hp4, hp5⟩ := hp
    intro hrg
    obtain ⟨⟨ha1a, ha1b⟩, ⟨ha2a, ha2b⟩, ⟨ha3a, ha3b⟩, -⟩ := hrg
    intro hbk
    have e0 : mq_l0 ([.inr (.inr (some (66, 0))), .inl n, .inl a, .inl b] : List mq_V) 5 = [some (.inr (.inr (some (66, 0)))), some (.inl n), some (.inl a), some (.inl b), none] := rfl
    rw [e0]
    subst hp0
    repeat' (first | refine And.intro ?_ ?_ | intro _)
    all_goals first | omega | rfl | exact trivial | assumption | exact sq_m (sq_cp_0 _ _ _ _)
  · intro as ρ μ h
    obtain ⟨nw, sp, tl, tx, al⟩ := ρ
    obtain ⟨as0, rfl, h0⟩ := mq_pZ_spec h
    clear h
    obtain ⟨n, as1, rfl, h1⟩ := mq_pI_spec h0
    clear h0
    obtain ⟨a, as2, rfl, h2⟩ := mq_pI_spec h1
    clear h1
    obtain ⟨b, as3, rfl, h3⟩ := mq_pI_spec h2
    clear h2
    obtain ⟨rfl, hp⟩ := mq_p0_spec h3
    clear h3
    obtain ⟨hp0, hp1, hp2, hp3, hp4, hp5⟩ := hp
    refine List.forall_mem_cons.mpr ⟨?_, ?_⟩
    · intro l st ρ' μ' cs hJ
      obtain ⟨l0, rfl, hJ0⟩ := mq_tZ_spec hJ
      clear hJ
      obtain ⟨v1, l1, rfl, hJ1⟩ := mq_tI_spec hJ0
      clear hJ0
      obtain ⟨v2, l2, rfl, hJ2⟩ := mq_tI_spec hJ1
      clear hJ1
      obtain ⟨v3, l3, rfl, hJ3⟩ := mq_tI_spec hJ2
      clear hJ2
      obtain ⟨v4, l4, rfl, hJ4⟩ := mq_tI_spec hJ3
      clear hJ3
      obtain ⟨rfl, hJz⟩ := mq_t0_spec hJ4
      clear hJ4
      obtain ⟨rfl, rfl, rfl, hc0, hc1, hc2, hc3, hc4, hc5, hm0, hm1⟩ := hJz
      omega
    exact fun _ h => absurd h List.not_mem_nil
  · intro as ρ μ h
    obtain ⟨nw, sp, tl, tx, al⟩ := ρ
    obtain ⟨as0, rfl, h0⟩ := mq_pZ_spec h
    clear h
    obtain ⟨n, as1, rfl, h1⟩ := mq_pI_spec h0
    clear h0
    obtain ⟨a, as2, rfl, h2⟩ := mq_pI_spec h1
    clear h1
    obtain ⟨b, as3, rfl, h3⟩ := mq_pI_spec h2
    clear h2
    obtain ⟨rfl, hp⟩ := mq_p0_spec h3
    clear h3
    obtain ⟨hp0, hp1, hp2, hp3, hp4, hp5⟩ := hp
    intro hrg
    obtain ⟨⟨ha1a, ha1b⟩, ⟨ha2a, ha2b⟩, ⟨ha3a, ha3b⟩, -⟩ := hrg
    refine List.forall_mem_cons.mpr ⟨?_, ?_⟩
    · intro N l st ρ' μ' cs hJ
      obtain ⟨l0, rfl, hJ0⟩ := mq_tZ_spec hJ
      clear hJ
      obtain ⟨v1, l1, rfl, hJ1⟩ := mq_tI_spec hJ0
      clear hJ0
      obtain ⟨v2, l2, rfl, hJ2⟩ := mq_tI_spec hJ1
      clear hJ1
      obtain ⟨v3, l3, rfl, hJ3⟩ := mq_tI_spec hJ2
      clear hJ2
      obtain ⟨v4, l4, rfl, hJ4⟩ := mq_tI_spec hJ3
      clear hJ3
      obtain ⟨rfl, hJz⟩ := mq_t0_spec hJ4
      clear hJ4
      obtain ⟨rfl, rfl, rfl, hc0, hc1, hc2, hc3, hc4, hc5, hm0, hm1⟩ := hJz
      intro hbk hrl
      obtain ⟨⟨hl1a, hl1b⟩, ⟨hl2a, hl2b⟩, ⟨hl3a, hl3b⟩, ⟨hl4a, hl4b⟩, -⟩ := hrl
      subst hc0 hc1 hc2 hp0
      repeat' (first | refine And.intro ?_ ?_ | intro _)
      all_goals first | omega | rfl | exact trivial | assumption | (rw [show v4 = 1 by omega] at hc5; exact hc5) | exact sq_m (sq_cp_s (sq_g hc5) (by omega) (by omega) (by omega) (by omega) (by omega) ‹_› (mq_up_row _ _ _ _))
    exact fun _ h => absurd h List.not_mem_nil
theorem mw1_m_copy_lines : mq_mlA cq_m_copy_lines 1 := ⟨kw_875, ⟨by decide +kernel, by decide +kernel⟩, by decide +kernel, kw_876, kw_771⟩
def pq_m_copy_length : List mq_E := [(0, false, .iconst 0), (1, false, .istore 4), (3, true, .iload 4), (5, false, .iload 1), (6, false, .if_icmp .ge (Int.ofNat 31)), (9, false, .aload 0), (10, false, .iload 1), (11, false, .iload 3), (12, false, .imul), (13, false, .iload 4), (15, false, .iadd), (16, false, .aload 0), (17, false, .iload 1), (18, false, .iload 2), (19, false, .imul), (20, false, .iload 4), (22, false, .iadd), (23, false, .iaload), (24, false, .iastore), (25, false, .iinc 4 1), (28, false, .goto (Int.ofNat 3)), (31, false, .return_)]
def cq_m_copy_length : mq_C := ((yX11_copyRow, cX11_copyRow, 5, none, { frames := 0, cells := 0, slots := 0, locals := 0 }), (4, 0, 0, 0), 147573952589676412928, (fun as ρ μ => match ρ with
  | (nw, sp, tl, tx, al) => mq_pZ as 67 fun as => mq_pI as fun n as => mq_pI as fun a as => mq_pI as fun b as => mq_p0 as (n = 1 ∧ 0 ≤ a ∧ a ≤ 4 ∧ 0 ≤ b ∧ b ≤ 4 ∧ ¬ a = b)),
  (fun as ρ μ r ρ' μ' => match as, ρ, ρ' with
  | [.inr (.inr (some (_, _))), .inl n, .inl a, .inl b], (nw, sp, tl, tx, al), (nw', sp', tl', tx', al') => [sq_bx (sq_cp (μ (67, 0)) (μ' (67, 0)) 1 a b 1)]
  | _, _, _ => []))
def kq_m_copy_length : List mq_V → mq_R → mq_M → List mq_Cu := fun as ρ μ => match as, ρ with
  | [.inr (.inr (some (_, _))), .inl n, .inl a, .inl b], (nw, sp, tl, tx, al) => [(3, [true, true, true, true, true], fun N l st ρ' μ' cs => mq_tZ l 67 fun l => mq_tI l fun v1 l => mq_tI l fun v2 l => mq_tI l fun v3 l => mq_tI l fun v4 l => mq_t0 l (st = [] ∧ ρ' = (nw, sp, tl, tx, al) ∧ cs = 0 ∧ v1 = n ∧ v2 = a ∧ v3 = b ∧ 0 ≤ v4 ∧ v4 ≤ 1 ∧ sq_bx (sq_cp (μ (67, 0)) (μ' (67, 0)) 1 a b v4) ∧ 0 ≤ (1 - v4 : Int) ∧ (1 - v4 : Int) < (N : Int)))]
  | _, _ => []
set_option maxHeartbeats 16000000 in
set_option maxRecDepth 100000 in
theorem vq_m_copy_length (lc : Launch)  : mq_Ct lc cq_m_copy_length := by
  refine mq_method (lc := lc) (P := pq_m_copy_length) (cl := []) (T := ([], [], [], [], [], [])) (fuel := 400) (cuts := kq_m_copy_length) (by decide) rfl ⟨rfl, rfl⟩ (fun _ h => absurd h List.not_mem_nil) ⟨(fun _ h => absurd h List.not_mem_nil), (fun _ h => absurd h List.not_mem_nil), (fun _ h => absurd h List.not_mem_nil), (fun _ h => absurd h List.not_mem_nil), (fun _ h => absurd h List.not_mem_nil), (fun _ h => absurd h List.not_mem_nil)⟩ (by decide +kernel) ⟨_, _, rfl⟩ ?_ ?_ ?_ ?_
  · intro as ρ μ h
    obtain ⟨nw, sp, tl, tx, al⟩ := ρ
    obtain ⟨as0, rfl, h0⟩ := mq_pZ_spec h
    clear h
    obtain ⟨n, as1, rfl, h1⟩ := mq_pI_spec h0
    clear h0
    obtain ⟨a, as2, rfl, h2⟩ := mq_pI_spec h1
    clear h1
    obtain ⟨b, as3, rfl, h3⟩ := mq_pI_spec h2
    clear h2
    obtain ⟨rfl, hp⟩ := mq_p0_spec h3
    clear h3
    obtain ⟨hp0, hp1, hp2, hp3, hp4, hp5⟩ := hp
    rfl
  · intro as ρ μ h
    obtain ⟨nw, sp, tl, tx, al⟩ := ρ
    obtain ⟨as0, rfl, h0⟩ := mq_pZ_spec h
    clear h
    obtain ⟨n, as1, rfl, h1⟩ := mq_pI_spec h0
    clear h0
    obtain ⟨a, as2, rfl, h2⟩ := mq_pI_spec h1
    clear h1
    obtain ⟨b, as3, rfl, h3⟩ := mq_pI_spec h2
    clear h2
    obtain ⟨rfl, hp⟩ := mq_p0_spec h3
    clear h3
    obtain ⟨hp0, hp1, hp2, hp3, hp4, hp5⟩ := hp
    intro hrg
    obtain ⟨⟨ha1a, ha1b⟩, ⟨ha2a, ha2b⟩, ⟨ha3a, ha3b⟩, -⟩ := hrg
    intro hbk
    have e0 : mq_l0 ([.inr (.inr (some (67, 0))), .inl n, .inl a, .inl b] : List mq_V) 5 = [some (.inr (.inr (some (67, 0)))), some (.inl n), some (.inl a), some (.inl b), none] := rfl
    rw [e0]
    subst hp0
    repeat' (first | refine And.intro ?_ ?_ | intro _)
    all_goals first | omega | rfl | exact trivial | assumption | exact sq_m (sq_cp_0 _ _ _ _)
  · intro as ρ μ h
    obtain ⟨nw, sp, tl, tx, al⟩ := ρ
    obtain ⟨as0, rfl, h0⟩ := mq_pZ_spec h
    clear h
    obtain ⟨n, as1, rfl, h1⟩ := mq_pI_spec h0
    clear h0
    obtain ⟨a, as2, rfl, h2⟩ := mq_pI_spec h1
    clear h1
    obtain ⟨b, as3, rfl, h3⟩ := mq_pI_spec h2
    clear h2
    obtain ⟨rfl, hp⟩ := mq_p0_spec h3
    clear h3
    obtain ⟨hp0, hp1, hp2, hp3, hp4, hp5⟩ := hp
    refine List.forall_mem_cons.mpr ⟨?_, ?_⟩
    · intro l st ρ' μ' cs hJ
      obtain ⟨l0, rfl, hJ0⟩ := mq_tZ_spec hJ
      clear hJ
      obtain ⟨v1, l1, rfl, hJ1⟩ := mq_tI_spec hJ0
      clear hJ0
      obtain ⟨v2, l2, rfl, hJ2⟩ := mq_tI_spec hJ1
      clear hJ1
      obtain ⟨v3, l3, rfl, hJ3⟩ := mq_tI_spec hJ2
      clear hJ2
      obtain ⟨v4, l4, rfl, hJ4⟩ := mq_tI_spec hJ3
      clear hJ3
      obtain ⟨rfl, hJz⟩ := mq_t0_spec hJ4
      clear hJ4
      obtain ⟨rfl, rfl, rfl, hc0, hc1, hc2, hc3, hc4, hc5, hm0, hm1⟩ := hJz
      omega
    exact fun _ h => absurd h List.not_mem_nil
  · intro as ρ μ h
    obtain ⟨nw, sp, tl, tx, al⟩ := ρ
    obtain ⟨as0, rfl, h0⟩ := mq_pZ_spec h
    clear h
    obtain ⟨n, as1, rfl, h1⟩ := mq_pI_spec h0
    clear h0
    obtain ⟨a, as2, rfl, h2⟩ := mq_pI_spec h1
    clear h1
    obtain ⟨b, as3, rfl, h3⟩ := mq_pI_spec h2
    clear h2
    obtain ⟨rfl, hp⟩ := mq_p0_spec h3
    clear h3
    obtain ⟨hp0, hp1, hp2, hp3, hp4, hp5⟩ := hp
    intro hrg
    obtain ⟨⟨ha1a, ha1b⟩, ⟨ha2a, ha2b⟩, ⟨ha3a, ha3b⟩, -⟩ := hrg
    refine List.forall_mem_cons.mpr ⟨?_, ?_⟩
    · intro N l st ρ' μ' cs hJ
      obtain ⟨l0, rfl, hJ0⟩ := mq_tZ_spec hJ
      clear hJ
      obtain ⟨v1, l1, rfl, hJ1⟩ := mq_tI_spec hJ0
      clear hJ0
      obtain ⟨v2, l2, rfl, hJ2⟩ := mq_tI_spec hJ1
      clear hJ1
      obtain ⟨v3, l3, rfl, hJ3⟩ := mq_tI_spec hJ2
      clear hJ2
      obtain ⟨v4, l4, rfl, hJ4⟩ := mq_tI_spec hJ3
      clear hJ3
      obtain ⟨rfl, hJz⟩ := mq_t0_spec hJ4
      clear hJ4
      obtain ⟨rfl, rfl, rfl, hc0, hc1, hc2, hc3, hc4, hc5, hm0, hm1⟩ := hJz
      intro hbk hrl
      obtain ⟨⟨hl1a, hl1b⟩, ⟨hl2a, hl2b⟩, ⟨hl3a, hl3b⟩, ⟨hl4a, hl4b⟩, -⟩ := hrl
      subst hc0 hc1 hc2 hp0
      repeat' (first | refine And.intro ?_ ?_ | intro _)
      all_goals first | omega | rfl | exact trivial | assumption | (rw [show v4 = 1 by omega] at hc5; exact hc5) | exact sq_m (sq_cp_s (sq_g hc5) (by omega) (by omega) (by omega) (by omega) (by omega) ‹_› (mq_up_row _ _ _ _))
    exact fun _ h => absurd h List.not_mem_nil
theorem mw1_m_copy_length : mq_mlA cq_m_copy_length 1 := ⟨kw_875, ⟨by decide +kernel, by decide +kernel⟩, by decide +kernel, kw_876, kw_771⟩
def pq_m_copy_rain : List mq_E := [(0, false, .iconst 0), (1, false, .istore 4), (3, true, .iload 4), (5, false, .iload 1), (6, false, .if_icmp .ge (Int.ofNat 31)), (9, false, .aload 0), (10, false, .iload 1), (11, false, .iload 3), (12, false, .imul), (13, false, .iload 4), (15, false, .iadd), (16, false, .aload 0), (17, false, .iload 1), (18, false, .iload 2), (19, false, .imul), (20, false, .iload 4), (22, false, .iadd), (23, false, .iaload), (24, false, .iastore), (25, false, .iinc 4 1), (28, false, .goto (Int.ofNat 3)), (31, false, .return_)]
def cq_m_copy_rain : mq_C := ((yX11_copyRow, cX11_copyRow, 5, none, { frames := 0, cells := 0, slots := 0, locals := 0 }), (4, 0, 0, 0), 295147905179352825856, (fun as ρ μ => match ρ with
  | (nw, sp, tl, tx, al) => mq_pZ as 68 fun as => mq_pI as fun n as => mq_pI as fun a as => mq_pI as fun b as => mq_p0 as (n = 1 ∧ 0 ≤ a ∧ a ≤ 4 ∧ 0 ≤ b ∧ b ≤ 4 ∧ ¬ a = b)),
  (fun as ρ μ r ρ' μ' => match as, ρ, ρ' with
  | [.inr (.inr (some (_, _))), .inl n, .inl a, .inl b], (nw, sp, tl, tx, al), (nw', sp', tl', tx', al') => [sq_bx (sq_cp (μ (68, 0)) (μ' (68, 0)) 1 a b 1)]
  | _, _, _ => []))
def kq_m_copy_rain : List mq_V → mq_R → mq_M → List mq_Cu := fun as ρ μ => match as, ρ with
  | [.inr (.inr (some (_, _))), .inl n, .inl a, .inl b], (nw, sp, tl, tx, al) => [(3, [true, true, true, true, true], fun N l st ρ' μ' cs => mq_tZ l 68 fun l => mq_tI l fun v1 l => mq_tI l fun v2 l => mq_tI l fun v3 l => mq_tI l fun v4 l => mq_t0 l (st = [] ∧ ρ' = (nw, sp, tl, tx, al) ∧ cs = 0 ∧ v1 = n ∧ v2 = a ∧ v3 = b ∧ 0 ≤ v4 ∧ v4 ≤ 1 ∧ sq_bx (sq_cp (μ (68, 0)) (μ' (68, 0)) 1 a b v4) ∧ 0 ≤ (1 - v4 : Int) ∧ (1 - v4 : Int) < (N : Int)))]
  | _, _ => []
set_option maxHeartbeats 16000000 in
set_option maxRecDepth 100000 in
theorem vq_m_copy_rain (lc : Launch)  : mq_Ct lc cq_m_copy_rain := by
  refine mq_method (lc := lc) (P := pq_m_copy_rain) (cl := []) (T := ([], [], [], [], [], [])) (fuel := 400) (cuts := kq_m_copy_rain) (by decide) rfl ⟨rfl, rfl⟩ (fun _ h => absurd h List.not_mem_nil) ⟨(fun _ h => absurd h List.not_mem_nil), (fun _ h => absurd h List.not_mem_nil), (fun _ h => absurd h List.not_mem_nil), (fun _ h => absurd h List.not_mem_nil), (fun _ h => absurd h List.not_mem_nil), (fun _ h => absurd h List.not_mem_nil)⟩ (by decide +kernel) ⟨_, _, rfl⟩ ?_ ?_ ?_ ?_
  · intro as ρ μ h
    obtain ⟨nw, sp, tl, tx, al⟩ := ρ
    obtain ⟨as0, rfl, h0⟩ := mq_pZ_spec h
    clear h
    obtain ⟨n, as1, rfl, h1⟩ := mq_pI_spec h0
    clear h0
    obtain ⟨a, as2, rfl, h2⟩ := mq_pI_spec h1
    clear h1
    obtain ⟨b, as3, rfl, h3⟩ := mq_pI_spec h2
    clear h2
    obtain ⟨rfl, hp⟩ := mq_p0_spec h3
    clear h3
    obtain ⟨hp0, hp1, hp2, hp3, hp4, hp5⟩ := hp
    rfl
  · intro as ρ μ h
    obtain ⟨nw, sp, tl, tx, al⟩ := ρ
    obtain ⟨as0, rfl, h0⟩ := mq_pZ_spec h
    clear h
    obtain ⟨n, as1, rfl, h1⟩ := mq_pI_spec h0
    clear h0
    obtain ⟨a, as2, rfl, h2⟩ := mq_pI_spec h1
    clear h1
    obtain ⟨b, as3, rfl, h3⟩ := mq_pI_spec h2
    clear h2
    obtain ⟨rfl, hp⟩ := mq_p0_spec h3
    clear h3
    obtain ⟨hp0, hp1, hp2, hp3, hp4, hp5⟩ := hp
    intro hrg
    obtain ⟨⟨ha1a, ha1b⟩, ⟨ha2a, ha2b⟩, ⟨ha3a, ha3b⟩, -⟩ := hrg
    intro hbk
    have e0 : mq_l0 ([.inr (.inr (some (68, 0))), .inl n, .inl a, .inl b] : List mq_V) 5 = [some (.inr (.inr (some (68, 0)))), some (.inl n), some (.inl a), some (.inl b), none] := rfl
    rw [e0]
    subst hp0
    repeat' (first | refine And.intro ?_ ?_ | intro _)
    all_goals first | omega | rfl | exact trivial | assumption | exact sq_m (sq_cp_0 _ _ _ _)
  · intro as ρ μ h
    obtain ⟨nw, sp, tl, tx, al⟩ := ρ
    obtain ⟨as0, rfl, h0⟩ := mq_pZ_spec h
    clear h
    obtain ⟨n, as1, rfl, h1⟩ := mq_pI_spec h0
    clear h0
    obtain ⟨a, as2, rfl, h2⟩ := mq_pI_spec h1
    clear h1
    obtain ⟨b, as3, rfl, h3⟩ := mq_pI_spec h2
    clear h2
    obtain ⟨rfl, hp⟩ := mq_p0_spec h3
    clear h3
    obtain ⟨hp0, hp1, hp2, hp3, hp4, hp5⟩ := hp
    refine List.forall_mem_cons.mpr ⟨?_, ?_⟩
    · intro l st ρ' μ' cs hJ
      obtain ⟨l0, rfl, hJ0⟩ := mq_tZ_spec hJ
      clear hJ
      obtain ⟨v1, l1, rfl, hJ1⟩ := mq_tI_spec hJ0
      clear hJ0
      obtain ⟨v2, l2, rfl, hJ2⟩ := mq_tI_spec hJ1
      clear hJ1
      obtain ⟨v3, l3, rfl, hJ3⟩ := mq_tI_spec hJ2
      clear hJ2
      obtain ⟨v4, l4, rfl, hJ4⟩ := mq_tI_spec hJ3
      clear hJ3
      obtain ⟨rfl, hJz⟩ := mq_t0_spec hJ4
      clear hJ4
      obtain ⟨rfl, rfl, rfl, hc0, hc1, hc2, hc3, hc4, hc5, hm0, hm1⟩ := hJz
      omega
    exact fun _ h => absurd h List.not_mem_nil
  · intro as ρ μ h
    obtain ⟨nw, sp, tl, tx, al⟩ := ρ
    obtain ⟨as0, rfl, h0⟩ := mq_pZ_spec h
    clear h
    obtain ⟨n, as1, rfl, h1⟩ := mq_pI_spec h0
    clear h0
    obtain ⟨a, as2, rfl, h2⟩ := mq_pI_spec h1
    clear h1
    obtain ⟨b, as3, rfl, h3⟩ := mq_pI_spec h2
    clear h2
    obtain ⟨rfl, hp⟩ := mq_p0_spec h3
    clear h3
    obtain ⟨hp0, hp1, hp2, hp3, hp4, hp5⟩ := hp
    intro hrg
    obtain ⟨⟨ha1a, ha1b⟩, ⟨ha2a, ha2b⟩, ⟨ha3a, ha3b⟩, -⟩ := hrg
    refine List.forall_mem_cons.mpr ⟨?_, ?_⟩
    · intro N l st ρ' μ' cs hJ
      obtain ⟨l0, rfl, hJ0⟩ := mq_tZ_spec hJ
      clear hJ
      obtain ⟨v1, l1, rfl, hJ1⟩ := mq_tI_spec hJ0
      clear hJ0
      obtain ⟨v2, l2, rfl, hJ2⟩ := mq_tI_spec hJ1
      clear hJ1
      obtain ⟨v3, l3, rfl, hJ3⟩ := mq_tI_spec hJ2
      clear hJ2
      obtain ⟨v4, l4, rfl, hJ4⟩ := mq_tI_spec hJ3
      clear hJ3
      obtain ⟨rfl, hJz⟩ := mq_t0_spec hJ4
      clear hJ4
      obtain ⟨rfl, rfl, rfl, hc0, hc1, hc2, hc3, hc4, hc5, hm0, hm1⟩ := hJz
      intro hbk hrl
      obtain ⟨⟨hl1a, hl1b⟩, ⟨hl2a, hl2b⟩, ⟨hl3a, hl3b⟩, ⟨hl4a, hl4b⟩, -⟩ := hrl
      subst hc0 hc1 hc2 hp0
      repeat' (first | refine And.intro ?_ ?_ | intro _)
      all_goals first | omega | rfl | exact trivial | assumption | (rw [show v4 = 1 by omega] at hc5; exact hc5) | exact sq_m (sq_cp_s (sq_g hc5) (by omega) (by omega) (by omega) (by omega) (by omega) ‹_› (mq_up_row _ _ _ _))
    exact fun _ h => absurd h List.not_mem_nil
theorem mw1_m_copy_rain : mq_mlA cq_m_copy_rain 1 := ⟨kw_875, ⟨by decide +kernel, by decide +kernel⟩, by decide +kernel, kw_876, kw_771⟩
def pq_m_copy_has : List mq_E := [(0, false, .iconst 0), (1, false, .istore 4), (3, true, .iload 4), (5, false, .iload 1), (6, false, .if_icmp .ge (Int.ofNat 31)), (9, false, .aload 0), (10, false, .iload 1), (11, false, .iload 3), (12, false, .imul), (13, false, .iload 4), (15, false, .iadd), (16, false, .aload 0), (17, false, .iload 1), (18, false, .iload 2), (19, false, .imul), (20, false, .iload 4), (22, false, .iadd), (23, false, .iaload), (24, false, .iastore), (25, false, .iinc 4 1), (28, false, .goto (Int.ofNat 3)), (31, false, .return_)]
def cq_m_copy_has : mq_C := ((yX11_copyRow, cX11_copyRow, 5, none, { frames := 0, cells := 0, slots := 0, locals := 0 }), (4, 0, 0, 0), 590295810358705651712, (fun as ρ μ => match ρ with
  | (nw, sp, tl, tx, al) => mq_pZ as 69 fun as => mq_pI as fun n as => mq_pI as fun a as => mq_pI as fun b as => mq_p0 as (n = 7 ∧ 0 ≤ a ∧ a ≤ 4 ∧ 0 ≤ b ∧ b ≤ 4 ∧ ¬ a = b)),
  (fun as ρ μ r ρ' μ' => match as, ρ, ρ' with
  | [.inr (.inr (some (_, _))), .inl n, .inl a, .inl b], (nw, sp, tl, tx, al), (nw', sp', tl', tx', al') => [sq_bx (sq_cp (μ (69, 0)) (μ' (69, 0)) 7 a b 7)]
  | _, _, _ => []))
def kq_m_copy_has : List mq_V → mq_R → mq_M → List mq_Cu := fun as ρ μ => match as, ρ with
  | [.inr (.inr (some (_, _))), .inl n, .inl a, .inl b], (nw, sp, tl, tx, al) => [(3, [true, true, true, true, true], fun N l st ρ' μ' cs => mq_tZ l 69 fun l => mq_tI l fun v1 l => mq_tI l fun v2 l => mq_tI l fun v3 l => mq_tI l fun v4 l => mq_t0 l (st = [] ∧ ρ' = (nw, sp, tl, tx, al) ∧ cs = 0 ∧ v1 = n ∧ v2 = a ∧ v3 = b ∧ 0 ≤ v4 ∧ v4 ≤ 7 ∧ sq_bx (sq_cp (μ (69, 0)) (μ' (69, 0)) 7 a b v4) ∧ 0 ≤ (7 - v4 : Int) ∧ (7 - v4 : Int) < (N : Int)))]
  | _, _ => []
set_option maxHeartbeats 16000000 in
set_option maxRecDepth 100000 in
theorem vq_m_copy_has (lc : Launch)  : mq_Ct lc cq_m_copy_has := by
  refine mq_method (lc := lc) (P := pq_m_copy_has) (cl := []) (T := ([], [], [], [], [], [])) (fuel := 400) (cuts := kq_m_copy_has) (by decide) rfl ⟨rfl, rfl⟩ (fun _ h => absurd h List.not_mem_nil) ⟨(fun _ h => absurd h List.not_mem_nil), (fun _ h => absurd h List.not_mem_nil), (fun _ h => absurd h List.not_mem_nil), (fun _ h => absurd h List.not_mem_nil), (fun _ h => absurd h List.not_mem_nil), (fun _ h => absurd h List.not_mem_nil)⟩ (by decide +kernel) ⟨_, _, rfl⟩ ?_ ?_ ?_ ?_
  · intro as ρ μ h
    obtain ⟨nw, sp, tl, tx, al⟩ := ρ
    obtain ⟨as0, rfl, h0⟩ := mq_pZ_spec h
    clear h
    obtain ⟨n, as1, rfl, h1⟩ := mq_pI_spec h0
    clear h0
    obtain ⟨a, as2, rfl, h2⟩ := mq_pI_spec h1
    clear h1
    obtain ⟨b, as3, rfl, h3⟩ := mq_pI_spec h2
    clear h2
    obtain ⟨rfl, hp⟩ := mq_p0_spec h3
    clear h3
    obtain ⟨hp0, hp1, hp2, hp3, hp4, hp5⟩ := hp
    rfl
  · intro as ρ μ h
    obtain ⟨nw, sp, tl, tx, al⟩ := ρ
    obtain ⟨as0, rfl, h0⟩ := mq_pZ_spec h
    clear h
    obtain ⟨n, as1, rfl, h1⟩ := mq_pI_spec h0
    clear h0
    obtain ⟨a, as2, rfl, h2⟩ := mq_pI_spec h1
    clear h1
    obtain ⟨b, as3, rfl, h3⟩ := mq_pI_spec h2
    clear h2
    obtain ⟨rfl, hp⟩ := mq_p0_spec h3
    clear h3
    obtain ⟨hp0, hp1, hp2, hp3, hp4, hp5⟩ := hp
    intro hrg
    obtain ⟨⟨ha1a, ha1b⟩, ⟨ha2a, ha2b⟩, ⟨ha3a, ha3b⟩, -⟩ := hrg
    intro hbk
    have e0 : mq_l0 ([.inr (.inr (some (69, 0))), .inl n, .inl a, .inl b] : List mq_V) 5 = [some (.inr (.inr (some (69, 0)))), some (.inl n), some (.inl a), some (.inl b), none] := rfl
    rw [e0]
    subst hp0
    repeat' (first | refine And.intro ?_ ?_ | intro _)
    all_goals first | omega | rfl | exact trivial | assumption | exact sq_m (sq_cp_0 _ _ _ _)
  · intro as ρ μ h
    obtain ⟨nw, sp, tl, tx, al⟩ := ρ
    obtain ⟨as0, rfl, h0⟩ := mq_pZ_spec h
    clear h
    obtain ⟨n, as1, rfl, h1⟩ := mq_pI_spec h0
    clear h0
    obtain ⟨a, as2, rfl, h2⟩ := mq_pI_spec h1
    clear h1
    obtain ⟨b, as3, rfl, h3⟩ := mq_pI_spec h2
    clear h2
    obtain ⟨rfl, hp⟩ := mq_p0_spec h3
    clear h3
    obtain ⟨hp0, hp1, hp2, hp3, hp4, hp5⟩ := hp
    refine List.forall_mem_cons.mpr ⟨?_, ?_⟩
    · intro l st ρ' μ' cs hJ
      obtain ⟨l0, rfl, hJ0⟩ := mq_tZ_spec hJ
      clear hJ
      obtain ⟨v1, l1, rfl, hJ1⟩ := mq_tI_spec hJ0
      clear hJ0
      obtain ⟨v2, l2, rfl, hJ2⟩ := mq_tI_spec hJ1
      clear hJ1
      obtain ⟨v3, l3, rfl, hJ3⟩ := mq_tI_spec hJ2
      clear hJ2
      obtain ⟨v4, l4, rfl, hJ4⟩ := mq_tI_spec hJ3
      clear hJ3
      obtain ⟨rfl, hJz⟩ := mq_t0_spec hJ4
      clear hJ4
      obtain ⟨rfl, rfl, rfl, hc0, hc1, hc2, hc3, hc4, hc5, hm0, hm1⟩ := hJz
      omega
    exact fun _ h => absurd h List.not_mem_nil
  · intro as ρ μ h
    obtain ⟨nw, sp, tl, tx, al⟩ := ρ
    obtain ⟨as0, rfl, h0⟩ := mq_pZ_spec h
    clear h
    obtain ⟨n, as1, rfl, h1⟩ := mq_pI_spec h0
    clear h0
    obtain ⟨a, as2, rfl, h2⟩ := mq_pI_spec h1
    clear h1
    obtain ⟨b, as3, rfl, h3⟩ := mq_pI_spec h2
    clear h2
    obtain ⟨rfl, hp⟩ := mq_p0_spec h3
    clear h3
    obtain ⟨hp0, hp1, hp2, hp3, hp4, hp5⟩ := hp
    intro hrg
    obtain ⟨⟨ha1a, ha1b⟩, ⟨ha2a, ha2b⟩, ⟨ha3a, ha3b⟩, -⟩ := hrg
    refine List.forall_mem_cons.mpr ⟨?_, ?_⟩
    · intro N l st ρ' μ' cs hJ
      obtain ⟨l0, rfl, hJ0⟩ := mq_tZ_spec hJ
      clear hJ
      obtain ⟨v1, l1, rfl, hJ1⟩ := mq_tI_spec hJ0
      clear hJ0
      obtain ⟨v2, l2, rfl, hJ2⟩ := mq_tI_spec hJ1
      clear hJ1
      obtain ⟨v3, l3, rfl, hJ3⟩ := mq_tI_spec hJ2
      clear hJ2
      obtain ⟨v4, l4, rfl, hJ4⟩ := mq_tI_spec hJ3
      clear hJ3
      obtain ⟨rfl, hJz⟩ := mq_t0_spec hJ4
      clear hJ4
      obtain ⟨rfl, rfl, rfl, hc0, hc1, hc2, hc3, hc4, hc5, hm0, hm1⟩ := hJz
      intro hbk hrl
      obtain ⟨⟨hl1a, hl1b⟩, ⟨hl2a, hl2b⟩, ⟨hl3a, hl3b⟩, ⟨hl4a, hl4b⟩, -⟩ := hrl
      subst hc0 hc1 hc2 hp0
      repeat' (first | refine And.intro ?_ ?_ | intro _)
      all_goals first | omega | rfl | exact trivial | assumption | (rw [show v4 = 7 by omega] at hc5; exact hc5) | exact sq_m (sq_cp_s (sq_g hc5) (by omega) (by omega) (by omega) (by omega) (by omega) ‹_› (mq_up_row _ _ _ _))
    exact fun _ h => absurd h List.not_mem_nil
theorem mw1_m_copy_has : mq_mlA cq_m_copy_has 1 := ⟨kw_875, ⟨by decide +kernel, by decide +kernel⟩, by decide +kernel, kw_876, kw_771⟩
def pq_m_copy_slope : List mq_E := [(0, false, .iconst 0), (1, false, .istore 4), (3, true, .iload 4), (5, false, .iload 1), (6, false, .if_icmp .ge (Int.ofNat 31)), (9, false, .aload 0), (10, false, .iload 1), (11, false, .iload 3), (12, false, .imul), (13, false, .iload 4), (15, false, .iadd), (16, false, .aload 0), (17, false, .iload 1), (18, false, .iload 2), (19, false, .imul), (20, false, .iload 4), (22, false, .iadd), (23, false, .iaload), (24, false, .iastore), (25, false, .iinc 4 1), (28, false, .goto (Int.ofNat 3)), (31, false, .return_)]
def cq_m_copy_slope : mq_C := ((yX11_copyRow, cX11_copyRow, 5, none, { frames := 0, cells := 0, slots := 0, locals := 0 }), (4, 0, 0, 0), 1180591620717411303424, (fun as ρ μ => match ρ with
  | (nw, sp, tl, tx, al) => mq_pZ as 70 fun as => mq_pI as fun n as => mq_pI as fun a as => mq_pI as fun b as => mq_p0 as (n = 16 ∧ 0 ≤ a ∧ a ≤ 4 ∧ 0 ≤ b ∧ b ≤ 4 ∧ ¬ a = b)),
  (fun as ρ μ r ρ' μ' => match as, ρ, ρ' with
  | [.inr (.inr (some (_, _))), .inl n, .inl a, .inl b], (nw, sp, tl, tx, al), (nw', sp', tl', tx', al') => [sq_bx (sq_cp (μ (70, 0)) (μ' (70, 0)) 16 a b 16)]
  | _, _, _ => []))
def kq_m_copy_slope : List mq_V → mq_R → mq_M → List mq_Cu := fun as ρ μ => match as, ρ with
  | [.inr (.inr (some (_, _))), .inl n, .inl a, .inl b], (nw, sp, tl, tx, al) => [(3, [true, true, true, true, true], fun N l st ρ' μ' cs => mq_tZ l 70 fun l => mq_tI l fun v1 l => mq_tI l fun v2 l => mq_tI l fun v3 l => mq_tI l fun v4 l => mq_t0 l (st = [] ∧ ρ' = (nw, sp, tl, tx, al) ∧ cs = 0 ∧ v1 = n ∧ v2 = a ∧ v3 = b ∧ 0 ≤ v4 ∧ v4 ≤ 16 ∧ sq_bx (sq_cp (μ (70, 0)) (μ' (70, 0)) 16 a b v4) ∧ 0 ≤ (16 - v4 : Int) ∧ (16 - v4 : Int) < (N : Int)))]
  | _, _ => []
set_option maxHeartbeats 16000000 in
set_option maxRecDepth 100000 in
theorem vq_m_copy_slope (lc : Launch)  : mq_Ct lc cq_m_copy_slope := by
  refine mq_method (lc := lc) (P := pq_m_copy_slope) (cl := []) (T := ([], [], [], [], [], [])) (fuel := 400) (cuts := kq_m_copy_slope) (by decide) rfl ⟨rfl, rfl⟩ (fun _ h => absurd h List.not_mem_nil) ⟨(fun _ h => absurd h List.not_mem_nil), (fun _ h => absurd h List.not_mem_nil), (fun _ h => absurd h List.not_mem_nil), (fun _ h => absurd h List.not_mem_nil), (fun _ h => absurd h List.not_mem_nil), (fun _ h => absurd h List.not_mem_nil)⟩ (by decide +kernel) ⟨_, _, rfl⟩ ?_ ?_ ?_ ?_
  · intro as ρ μ h
    obtain ⟨nw, sp, tl, tx, al⟩ := ρ
    obtain ⟨as0, rfl, h0⟩ := mq_pZ_spec h
    clear h
    obtain ⟨n, as1, rfl, h1⟩ := mq_pI_spec h0
    clear h0
    obtain ⟨a, as2, rfl, h2⟩ := mq_pI_spec h1
    clear h1
    obtain ⟨b, as3, rfl, h3⟩ := mq_pI_spec h2
    clear h2
    obtain ⟨rfl, hp⟩ := mq_p0_spec h3
    clear h3
    obtain ⟨hp0, hp1, hp2, hp3, hp4, hp5⟩ := hp
    rfl
  · intro as ρ μ h
    obtain ⟨nw, sp, tl, tx, al⟩ := ρ
    obtain ⟨as0, rfl, h0⟩ := mq_pZ_spec h
    clear h
    obtain ⟨n, as1, rfl, h1⟩ := mq_pI_spec h0
    clear h0
    obtain ⟨a, as2, rfl, h2⟩ := mq_pI_spec h1
    clear h1
    obtain ⟨b, as3, rfl, h3⟩ := mq_pI_spec h2
    clear h2
    obtain ⟨rfl, hp⟩ := mq_p0_spec h3
    clear h3
    obtain ⟨hp0, hp1, hp2, hp3, hp4, hp5⟩ := hp
    intro hrg
    obtain ⟨⟨ha1a, ha1b⟩, ⟨ha2a, ha2b⟩, ⟨ha3a, ha3b⟩, -⟩ := hrg
    intro hbk
    have e0 : mq_l0 ([.inr (.inr (some (70, 0))), .inl n, .inl a, .inl b] : List mq_V) 5 = [some (.inr (.inr (some (70, 0)))), some (.inl n), some (.inl a), some (.inl b), none] := rfl
    rw [e0]
    subst hp0
    repeat' (first | refine And.intro ?_ ?_ | intro _)
    all_goals first | omega | rfl | exact trivial | assumption | exact sq_m (sq_cp_0 _ _ _ _)
  · intro as ρ μ h
    obtain ⟨nw, sp, tl, tx, al⟩ := ρ
    obtain ⟨as0, rfl, h0⟩ := mq_pZ_spec h
    clear h
    obtain ⟨n, as1, rfl, h1⟩ := mq_pI_spec h0
    clear h0
    obtain ⟨a, as2, rfl, h2⟩ := mq_pI_spec h1
    clear h1
    obtain ⟨b, as3, rfl, h3⟩ := mq_pI_spec h2
    clear h2
    obtain ⟨rfl, hp⟩ := mq_p0_spec h3
    clear h3
    obtain ⟨hp0, hp1, hp2, hp3, hp4, hp5⟩ := hp
    refine List.forall_mem_cons.mpr ⟨?_, ?_⟩
    · intro l st ρ' μ' cs hJ
      obtain ⟨l0, rfl, hJ0⟩ := mq_tZ_spec hJ
      clear hJ
      obtain ⟨v1, l1, rfl, hJ1⟩ := mq_tI_spec hJ0
      clear hJ0
      obtain ⟨v2, l2, rfl, hJ2⟩ := mq_tI_spec hJ1
      clear hJ1
      obtain ⟨v3, l3, rfl, hJ3⟩ := mq_tI_spec hJ2
      clear hJ2
      obtain ⟨v4, l4, rfl, hJ4⟩ := mq_tI_spec hJ3
      clear hJ3
      obtain ⟨rfl, hJz⟩ := mq_t0_spec hJ4
      clear hJ4
      obtain ⟨rfl, rfl, rfl, hc0, hc1, hc2, hc3, hc4, hc5, hm0, hm1⟩ := hJz
      omega
    exact fun _ h => absurd h List.not_mem_nil
  · intro as ρ μ h
    obtain ⟨nw, sp, tl, tx, al⟩ := ρ
    obtain ⟨as0, rfl, h0⟩ := mq_pZ_spec h
    clear h
    obtain ⟨n, as1, rfl, h1⟩ := mq_pI_spec h0
    clear h0
    obtain ⟨a, as2, rfl, h2⟩ := mq_pI_spec h1
    clear h1
    obtain ⟨b, as3, rfl, h3⟩ := mq_pI_spec h2
    clear h2
    obtain ⟨rfl, hp⟩ := mq_p0_spec h3
    clear h3
    obtain ⟨hp0, hp1, hp2, hp3, hp4, hp5⟩ := hp
    intro hrg
    obtain ⟨⟨ha1a, ha1b⟩, ⟨ha2a, ha2b⟩, ⟨ha3a, ha3b⟩, -⟩ := hrg
    refine List.forall_mem_cons.mpr ⟨?_, ?_⟩
    · intro N l st ρ' μ' cs hJ
      obtain ⟨l0, rfl, hJ0⟩ := mq_tZ_spec hJ
      clear hJ
      obtain ⟨v1, l1, rfl, hJ1⟩ := mq_tI_spec hJ0
      clear hJ0
      obtain ⟨v2, l2, rfl, hJ2⟩ := mq_tI_spec hJ1
      clear hJ1
      obtain ⟨v3, l3, rfl, hJ3⟩ := mq_tI_spec hJ2
      clear hJ2
      obtain ⟨v4, l4, rfl, hJ4⟩ := mq_tI_spec hJ3
      clear hJ3
      obtain ⟨rfl, hJz⟩ := mq_t0_spec hJ4
      clear hJ4
      obtain ⟨rfl, rfl, rfl, hc0, hc1, hc2, hc3, hc4, hc5, hm0, hm1⟩ := hJz
      intro hbk hrl
      obtain ⟨⟨hl1a, hl1b⟩, ⟨hl2a, hl2b⟩, ⟨hl3a, hl3b⟩, ⟨hl4a, hl4b⟩, -⟩ := hrl
      subst hc0 hc1 hc2 hp0
      repeat' (first | refine And.intro ?_ ?_ | intro _)
      all_goals first | omega | rfl | exact trivial | assumption | (rw [show v4 = 16 by omega] at hc5; exact hc5) | exact sq_m (sq_cp_s (sq_g hc5) (by omega) (by omega) (by omega) (by omega) (by omega) ‹_› (mq_up_row _ _ _ _))
    exact fun _ h => absurd h List.not_mem_nil
theorem mw1_m_copy_slope : mq_mlA cq_m_copy_slope 1 := ⟨kw_875, ⟨by decide +kernel, by decide +kernel⟩, by decide +kernel, kw_876, kw_771⟩
def pq_m_copy_wet : List mq_E := [(0, false, .iconst 0), (1, false, .istore 4), (3, true, .iload 4), (5, false, .iload 1), (6, false, .if_icmp .ge (Int.ofNat 31)), (9, false, .aload 0), (10, false, .iload 1), (11, false, .iload 3), (12, false, .imul), (13, false, .iload 4), (15, false, .iadd), (16, false, .aload 0), (17, false, .iload 1), (18, false, .iload 2), (19, false, .imul), (20, false, .iload 4), (22, false, .iadd), (23, false, .iaload), (24, false, .iastore), (25, false, .iinc 4 1), (28, false, .goto (Int.ofNat 3)), (31, false, .return_)]
def cq_m_copy_wet : mq_C := ((yX11_copyRow, cX11_copyRow, 5, none, { frames := 0, cells := 0, slots := 0, locals := 0 }), (4, 0, 0, 0), 2361183241434822606848, (fun as ρ μ => match ρ with
  | (nw, sp, tl, tx, al) => mq_pZ as 71 fun as => mq_pI as fun n as => mq_pI as fun a as => mq_pI as fun b as => mq_p0 as (n = 18 ∧ 0 ≤ a ∧ a ≤ 4 ∧ 0 ≤ b ∧ b ≤ 4 ∧ ¬ a = b)),
  (fun as ρ μ r ρ' μ' => match as, ρ, ρ' with
  | [.inr (.inr (some (_, _))), .inl n, .inl a, .inl b], (nw, sp, tl, tx, al), (nw', sp', tl', tx', al') => [sq_bx (sq_cp (μ (71, 0)) (μ' (71, 0)) 18 a b 18)]
  | _, _, _ => []))
def kq_m_copy_wet : List mq_V → mq_R → mq_M → List mq_Cu := fun as ρ μ => match as, ρ with
  | [.inr (.inr (some (_, _))), .inl n, .inl a, .inl b], (nw, sp, tl, tx, al) => [(3, [true, true, true, true, true], fun N l st ρ' μ' cs => mq_tZ l 71 fun l => mq_tI l fun v1 l => mq_tI l fun v2 l => mq_tI l fun v3 l => mq_tI l fun v4 l => mq_t0 l (st = [] ∧ ρ' = (nw, sp, tl, tx, al) ∧ cs = 0 ∧ v1 = n ∧ v2 = a ∧ v3 = b ∧ 0 ≤ v4 ∧ v4 ≤ 18 ∧ sq_bx (sq_cp (μ (71, 0)) (μ' (71, 0)) 18 a b v4) ∧ 0 ≤ (18 - v4 : Int) ∧ (18 - v4 : Int) < (N : Int)))]
  | _, _ => []
set_option maxHeartbeats 16000000 in
set_option maxRecDepth 100000 in
theorem vq_m_copy_wet (lc : Launch)  : mq_Ct lc cq_m_copy_wet := by
  refine mq_method (lc := lc) (P := pq_m_copy_wet) (cl := []) (T := ([], [], [], [], [], [])) (fuel := 400) (cuts := kq_m_copy_wet) (by decide) rfl ⟨rfl, rfl⟩ (fun _ h => absurd h List.not_mem_nil) ⟨(fun _ h => absurd h List.not_mem_nil), (fun _ h => absurd h List.not_mem_nil), (fun _ h => absurd h List.not_mem_nil), (fun _ h => absurd h List.not_mem_nil), (fun _ h => absurd h List.not_mem_nil), (fun _ h => absurd h List.not_mem_nil)⟩ (by decide +kernel) ⟨_, _, rfl⟩ ?_ ?_ ?_ ?_
  · intro as ρ μ h
    obtain ⟨nw, sp, tl, tx, al⟩ := ρ
    obtain ⟨as0, rfl, h0⟩ := mq_pZ_spec h
    clear h
    obtain ⟨n, as1, rfl, h1⟩ := mq_pI_spec h0
    clear h0
    obtain ⟨a, as2, rfl, h2⟩ := mq_pI_spec h1
    clear h1
    obtain ⟨b, as3, rfl, h3⟩ := mq_pI_spec h2
    clear h2
    obtain ⟨rfl, hp⟩ := mq_p0_spec h3
    clear h3
    obtain ⟨hp0, hp1, hp2, hp3, hp4, hp5⟩ := hp
    rfl
  · intro as ρ μ h
    obtain ⟨nw, sp, tl, tx, al⟩ := ρ
    obtain ⟨as0, rfl, h0⟩ := mq_pZ_spec h
    clear h
    obtain ⟨n, as1, rfl, h1⟩ := mq_pI_spec h0
    clear h0
    obtain ⟨a, as2, rfl, h2⟩ := mq_pI_spec h1
    clear h1
    obtain ⟨b, as3, rfl, h3⟩ := mq_pI_spec h2
    clear h2
    obtain ⟨rfl, hp⟩ := mq_p0_spec h3
    clear h3
    obtain ⟨hp0, hp1, hp2, hp3, hp4, hp5⟩ := hp
    intro hrg
    obtain ⟨⟨ha1a, ha1b⟩, ⟨ha2a, ha2b⟩, ⟨ha3a, ha3b⟩, -⟩ := hrg
    intro hbk
    have e0 : mq_l0 ([.inr (.inr (some (71, 0))), .inl n, .inl a, .inl b] : List mq_V) 5 = [some (.inr (.inr (some (71, 0)))), some (.inl n), some (.inl a), some (.inl b), none] := rfl
    rw [e0]
    subst hp0
    repeat' (first | refine And.intro ?_ ?_ | intro _)
    all_goals first | omega | rfl | exact trivial | assumption | exact sq_m (sq_cp_0 _ _ _ _)
  · intro as ρ μ h
    obtain ⟨nw, sp, tl, tx, al⟩ := ρ
    obtain ⟨as0, rfl, h0⟩ := mq_pZ_spec h
    clear h
    obtain ⟨n, as1, rfl, h1⟩ := mq_pI_spec h0
    clear h0
    obtain ⟨a, as2, rfl, h2⟩ := mq_pI_spec h1
    clear h1
    obtain ⟨b, as3, rfl, h3⟩ := mq_pI_spec h2
    clear h2
    obtain ⟨rfl, hp⟩ := mq_p0_spec h3
    clear h3
    obtain ⟨hp0, hp1, hp2, hp3, hp4, hp5⟩ := hp
    refine List.forall_mem_cons.mpr ⟨?_, ?_⟩
    · intro l st ρ' μ' cs hJ
      obtain ⟨l0, rfl, hJ0⟩ := mq_tZ_spec hJ
      clear hJ
      obtain ⟨v1, l1, rfl, hJ1⟩ := mq_tI_spec hJ0
      clear hJ0
      obtain ⟨v2, l2, rfl, hJ2⟩ := mq_tI_spec hJ1
      clear hJ1
      obtain ⟨v3, l3, rfl, hJ3⟩ := mq_tI_spec hJ2
      clear hJ2
      obtain ⟨v4, l4, rfl, hJ4⟩ := mq_tI_spec hJ3
      clear hJ3
      obtain ⟨rfl, hJz⟩ := mq_t0_spec hJ4
      clear hJ4
      obtain ⟨rfl, rfl, rfl, hc0, hc1, hc2, hc3, hc4, hc5, hm0, hm1⟩ := hJz
      omega
    exact fun _ h => absurd h List.not_mem_nil
  · intro as ρ μ h
    obtain ⟨nw, sp, tl, tx, al⟩ := ρ
    obtain ⟨as0, rfl, h0⟩ := mq_pZ_spec h
    clear h
    obtain ⟨n, as1, rfl, h1⟩ := mq_pI_spec h0
    clear h0
    obtain ⟨a, as2, rfl, h2⟩ := mq_pI_spec h1
    clear h1
    obtain ⟨b, as3, rfl, h3⟩ := mq_pI_spec h2
    clear h2
    obtain ⟨rfl, hp⟩ := mq_p0_spec h3
    clear h3
    obtain ⟨hp0, hp1, hp2, hp3, hp4, hp5⟩ := hp
    intro hrg
    obtain ⟨⟨ha1a, ha1b⟩, ⟨ha2a, ha2b⟩, ⟨ha3a, ha3b⟩, -⟩ := hrg
    refine List.forall_mem_cons.mpr ⟨?_, ?_⟩
    · intro N l st ρ' μ' cs hJ
      obtain ⟨l0, rfl, hJ0⟩ := mq_tZ_spec hJ
      clear hJ
      obtain ⟨v1, l1, rfl, hJ1⟩ := mq_tI_spec hJ0
      clear hJ0
      obtain ⟨v2, l2, rfl, hJ2⟩ := mq_tI_spec hJ1
      clear hJ1
      obtain ⟨v3, l3, rfl, hJ3⟩ := mq_tI_spec hJ2
      clear hJ2
      obtain ⟨v4, l4, rfl, hJ4⟩ := mq_tI_spec hJ3
      clear hJ3
      obtain ⟨rfl, hJz⟩ := mq_t0_spec hJ4
      clear hJ4
      obtain ⟨rfl, rfl, rfl, hc0, hc1, hc2, hc3, hc4, hc5, hm0, hm1⟩ := hJz
      intro hbk hrl
      obtain ⟨⟨hl1a, hl1b⟩, ⟨hl2a, hl2b⟩, ⟨hl3a, hl3b⟩, ⟨hl4a, hl4b⟩, -⟩ := hrl
      subst hc0 hc1 hc2 hp0
      repeat' (first | refine And.intro ?_ ?_ | intro _)
      all_goals first | omega | rfl | exact trivial | assumption | (rw [show v4 = 18 by omega] at hc5; exact hc5) | exact sq_m (sq_cp_s (sq_g hc5) (by omega) (by omega) (by omega) (by omega) (by omega) ‹_› (mq_up_row _ _ _ _))
    exact fun _ h => absurd h List.not_mem_nil
theorem mw1_m_copy_wet : mq_mlA cq_m_copy_wet 1 := ⟨kw_875, ⟨by decide +kernel, by decide +kernel⟩, by decide +kernel, kw_876, kw_771⟩
def pq_m_copy_limit : List mq_E := [(0, false, .iconst 0), (1, false, .istore 4), (3, true, .iload 4), (5, false, .iload 1), (6, false, .if_icmp .ge (Int.ofNat 31)), (9, false, .aload 0), (10, false, .iload 1), (11, false, .iload 3), (12, false, .imul), (13, false, .iload 4), (15, false, .iadd), (16, false, .aload 0), (17, false, .iload 1), (18, false, .iload 2), (19, false, .imul), (20, false, .iload 4), (22, false, .iadd), (23, false, .iaload), (24, false, .iastore), (25, false, .iinc 4 1), (28, false, .goto (Int.ofNat 3)), (31, false, .return_)]
def cq_m_copy_limit : mq_C := ((yX11_copyRow, cX11_copyRow, 5, none, { frames := 0, cells := 0, slots := 0, locals := 0 }), (4, 0, 0, 0), 4722366482869645213696, (fun as ρ μ => match ρ with
  | (nw, sp, tl, tx, al) => mq_pZ as 72 fun as => mq_pI as fun n as => mq_pI as fun a as => mq_pI as fun b as => mq_p0 as (n = 12 ∧ 0 ≤ a ∧ a ≤ 4 ∧ 0 ≤ b ∧ b ≤ 4 ∧ ¬ a = b)),
  (fun as ρ μ r ρ' μ' => match as, ρ, ρ' with
  | [.inr (.inr (some (_, _))), .inl n, .inl a, .inl b], (nw, sp, tl, tx, al), (nw', sp', tl', tx', al') => [sq_bx (sq_cp (μ (72, 0)) (μ' (72, 0)) 12 a b 12)]
  | _, _, _ => []))
def kq_m_copy_limit : List mq_V → mq_R → mq_M → List mq_Cu := fun as ρ μ => match as, ρ with
  | [.inr (.inr (some (_, _))), .inl n, .inl a, .inl b], (nw, sp, tl, tx, al) => [(3, [true, true, true, true, true], fun N l st ρ' μ' cs => mq_tZ l 72 fun l => mq_tI l fun v1 l => mq_tI l fun v2 l => mq_tI l fun v3 l => mq_tI l fun v4 l => mq_t0 l (st = [] ∧ ρ' = (nw, sp, tl, tx, al) ∧ cs = 0 ∧ v1 = n ∧ v2 = a ∧ v3 = b ∧ 0 ≤ v4 ∧ v4 ≤ 12 ∧ sq_bx (sq_cp (μ (72, 0)) (μ' (72, 0)) 12 a b v4) ∧ 0 ≤ (12 - v4 : Int) ∧ (12 - v4 : Int) < (N : Int)))]
  | _, _ => []
set_option maxHeartbeats 16000000 in
set_option maxRecDepth 100000 in
theorem vq_m_copy_limit (lc : Launch)  : mq_Ct lc cq_m_copy_limit := by
  refine mq_method (lc := lc) (P := pq_m_copy_limit) (cl := []) (T := ([], [], [], [], [], [])) (fuel := 400) (cuts := kq_m_copy_limit) (by decide) rfl ⟨rfl, rfl⟩ (fun _ h => absurd h List.not_mem_nil) ⟨(fun _ h => absurd h List.not_mem_nil), (fun _ h => absurd h List.not_mem_nil), (fun _ h => absurd h List.not_mem_nil), (fun _ h => absurd h List.not_mem_nil), (fun _ h => absurd h List.not_mem_nil), (fun _ h => absurd h List.not_mem_nil)⟩ (by decide +kernel) ⟨_, _, rfl⟩ ?_ ?_ ?_ ?_
  · intro as ρ μ h
    obtain ⟨nw, sp, tl, tx, al⟩ := ρ
    obtain ⟨as0, rfl, h0⟩ := mq_pZ_spec h
    clear h
    obtain ⟨n, as1, rfl, h1⟩ := mq_pI_spec h0
    clear h0
    obtain ⟨a, as2, rfl, h2⟩ := mq_pI_spec h1
    clear h1
    obtain ⟨b, as3, rfl, h3⟩ := mq_pI_spec h2
    clear h2
    obtain ⟨rfl, hp⟩ := mq_p0_spec h3
    clear h3
    obtain ⟨hp0, hp1, hp2, hp3, hp4, hp5⟩ := hp
    rfl
  · intro as ρ μ h
    obtain ⟨nw, sp, tl, tx, al⟩ := ρ
    obtain ⟨as0, rfl, h0⟩ := mq_pZ_spec h
    clear h
    obtain ⟨n, as1, rfl, h1⟩ := mq_pI_spec h0
    clear h0
    obtain ⟨a, as2, rfl, h2⟩ := mq_pI_spec h1
    clear h1
    obtain ⟨b, as3, rfl, h3⟩ := mq_pI_spec h2
    clear h2
    obtain ⟨rfl, hp⟩ := mq_p0_spec h3
    clear h3
    obtain ⟨hp0, hp1, hp2, hp3, hp4, hp5⟩ := hp
    intro hrg
    obtain ⟨⟨ha1a, ha1b⟩, ⟨ha2a, ha2b⟩, ⟨ha3a, ha3b⟩, -⟩ := hrg
    intro hbk
    have e0 : mq_l0 ([.inr (.inr (some (72, 0))), .inl n, .inl a, .inl b] : List mq_V) 5 = [some (.inr (.inr (some (72, 0)))), some (.inl n), some (.inl a), some (.inl b), none] := rfl
    rw [e0]
    subst hp0
    repeat' (first | refine And.intro ?_ ?_ | intro _)
    all_goals first | omega | rfl | exact trivial | assumption | exact sq_m (sq_cp_0 _ _ _ _)
  · intro as ρ μ h
    obtain ⟨nw, sp, tl, tx, al⟩ := ρ
    obtain ⟨as0, rfl, h0⟩ := mq_pZ_spec h
    clear h
    obtain ⟨n, as1, rfl, h1⟩ := mq_pI_spec h0
    clear h0
    obtain ⟨a, as2, rfl, h2⟩ := mq_pI_spec h1
    clear h1
    obtain ⟨b, as3, rfl, h3⟩ := mq_pI_spec h2
    clear h2
    obtain ⟨rfl, hp⟩ := mq_p0_spec h3
    clear h3
    obtain ⟨hp0, hp1, hp2, hp3, hp4, hp5⟩ := hp
    refine List.forall_mem_cons.mpr ⟨?_, ?_⟩
    · intro l st ρ' μ' cs hJ
      obtain ⟨l0, rfl, hJ0⟩ := mq_tZ_spec hJ
      clear hJ
      obtain ⟨v1, l1, rfl, hJ1⟩ := mq_tI_spec hJ0
      clear hJ0
      obtain ⟨v2, l2, rfl, hJ2⟩ := mq_tI_spec hJ1
      clear hJ1
      obtain ⟨v3, l3, rfl, hJ3⟩ := mq_tI_spec hJ2
      clear hJ2
      obtain ⟨v4, l4, rfl, hJ4⟩ := mq_tI_spec hJ3
      clear hJ3
      obtain ⟨rfl, hJz⟩ := mq_t0_spec hJ4
      clear hJ4
      obtain ⟨rfl, rfl, rfl, hc0, hc1, hc2, hc3, hc4, hc5, hm0, hm1⟩ := hJz
      omega
    exact fun _ h => absurd h List.not_mem_nil
  · intro as ρ μ h
    obtain ⟨nw, sp, tl, tx, al⟩ := ρ
    obtain ⟨as0, rfl, h0⟩ := mq_pZ_spec h
    clear h
    obtain ⟨n, as1, rfl, h1⟩ := mq_pI_spec h0
    clear h0
    obtain ⟨a, as2, rfl, h2⟩ := mq_pI_spec h1
    clear h1
    obtain ⟨b, as3, rfl, h3⟩ := mq_pI_spec h2
    clear h2
    obtain ⟨rfl, hp⟩ := mq_p0_spec h3
    clear h3
    obtain ⟨hp0, hp1, hp2, hp3, hp4, hp5⟩ := hp
    intro hrg
    obtain ⟨⟨ha1a, ha1b⟩, ⟨ha2a, ha2b⟩, ⟨ha3a, ha3b⟩, -⟩ := hrg
    refine List.forall_mem_cons.mpr ⟨?_, ?_⟩
    · intro N l st ρ' μ' cs hJ
      obtain ⟨l0, rfl, hJ0⟩ := mq_tZ_spec hJ
      clear hJ
      obtain ⟨v1, l1, rfl, hJ1⟩ := mq_tI_spec hJ0
      clear hJ0
      obtain ⟨v2, l2, rfl, hJ2⟩ := mq_tI_spec hJ1
      clear hJ1
      obtain ⟨v3, l3, rfl, hJ3⟩ := mq_tI_spec hJ2
      clear hJ2
      obtain ⟨v4, l4, rfl, hJ4⟩ := mq_tI_spec hJ3
      clear hJ3
      obtain ⟨rfl, hJz⟩ := mq_t0_spec hJ4
      clear hJ4
      obtain ⟨rfl, rfl, rfl, hc0, hc1, hc2, hc3, hc4, hc5, hm0, hm1⟩ := hJz
      intro hbk hrl
      obtain ⟨⟨hl1a, hl1b⟩, ⟨hl2a, hl2b⟩, ⟨hl3a, hl3b⟩, ⟨hl4a, hl4b⟩, -⟩ := hrl
      subst hc0 hc1 hc2 hp0
      repeat' (first | refine And.intro ?_ ?_ | intro _)
      all_goals first | omega | rfl | exact trivial | assumption | (rw [show v4 = 12 by omega] at hc5; exact hc5) | exact sq_m (sq_cp_s (sq_g hc5) (by omega) (by omega) (by omega) (by omega) (by omega) ‹_› (mq_up_row _ _ _ _))
    exact fun _ h => absurd h List.not_mem_nil
theorem mw1_m_copy_limit : mq_mlA cq_m_copy_limit 1 := ⟨kw_875, ⟨by decide +kernel, by decide +kernel⟩, by decide +kernel, kw_876, kw_771⟩
def pq_m_copy_platform : List mq_E := [(0, false, .iconst 0), (1, false, .istore 4), (3, true, .iload 4), (5, false, .iload 1), (6, false, .if_icmp .ge (Int.ofNat 31)), (9, false, .aload 0), (10, false, .iload 1), (11, false, .iload 3), (12, false, .imul), (13, false, .iload 4), (15, false, .iadd), (16, false, .aload 0), (17, false, .iload 1), (18, false, .iload 2), (19, false, .imul), (20, false, .iload 4), (22, false, .iadd), (23, false, .iaload), (24, false, .iastore), (25, false, .iinc 4 1), (28, false, .goto (Int.ofNat 3)), (31, false, .return_)]
def cq_m_copy_platform : mq_C := ((yX11_copyRow, cX11_copyRow, 5, none, { frames := 0, cells := 0, slots := 0, locals := 0 }), (4, 0, 0, 0), 9444732965739290427392, (fun as ρ μ => match ρ with
  | (nw, sp, tl, tx, al) => mq_pZ as 73 fun as => mq_pI as fun n as => mq_pI as fun a as => mq_pI as fun b as => mq_p0 as (n = 12 ∧ 0 ≤ a ∧ a ≤ 4 ∧ 0 ≤ b ∧ b ≤ 4 ∧ ¬ a = b)),
  (fun as ρ μ r ρ' μ' => match as, ρ, ρ' with
  | [.inr (.inr (some (_, _))), .inl n, .inl a, .inl b], (nw, sp, tl, tx, al), (nw', sp', tl', tx', al') => [sq_bx (sq_cp (μ (73, 0)) (μ' (73, 0)) 12 a b 12)]
  | _, _, _ => []))
def kq_m_copy_platform : List mq_V → mq_R → mq_M → List mq_Cu := fun as ρ μ => match as, ρ with
  | [.inr (.inr (some (_, _))), .inl n, .inl a, .inl b], (nw, sp, tl, tx, al) => [(3, [true, true, true, true, true], fun N l st ρ' μ' cs => mq_tZ l 73 fun l => mq_tI l fun v1 l => mq_tI l fun v2 l => mq_tI l fun v3 l => mq_tI l fun v4 l => mq_t0 l (st = [] ∧ ρ' = (nw, sp, tl, tx, al) ∧ cs = 0 ∧ v1 = n ∧ v2 = a ∧ v3 = b ∧ 0 ≤ v4 ∧ v4 ≤ 12 ∧ sq_bx (sq_cp (μ (73, 0)) (μ' (73, 0)) 12 a b v4) ∧ 0 ≤ (12 - v4 : Int) ∧ (12 - v4 : Int) < (N : Int)))]
  | _, _ => []
set_option maxHeartbeats 16000000 in
set_option maxRecDepth 100000 in
theorem vq_m_copy_platform (lc : Launch)  : mq_Ct lc cq_m_copy_platform := by
  refine mq_method (lc := lc) (P := pq_m_copy_platform) (cl := []) (T := ([], [], [], [], [], [])) (fuel := 400) (cuts := kq_m_copy_platform) (by decide) rfl ⟨rfl, rfl⟩ (fun _ h => absurd h List.not_mem_nil) ⟨(fun _ h => absurd h List.not_mem_nil), (fun _ h => absurd h List.not_mem_nil), (fun _ h => absurd h List.not_mem_nil), (fun _ h => absurd h List.not_mem_nil), (fun _ h => absurd h List.not_mem_nil), (fun _ h => absurd h List.not_mem_nil)⟩ (by decide +kernel) ⟨_, _, rfl⟩ ?_ ?_ ?_ ?_
  · intro as ρ μ h
    obtain ⟨nw, sp, tl, tx, al⟩ := ρ
    obtain ⟨as0, rfl, h0⟩ := mq_pZ_spec h
    clear h
    obtain ⟨n, as1, rfl, h1⟩ := mq_pI_spec h0
    clear h0
    obtain ⟨a, as2, rfl, h2⟩ := mq_pI_spec h1
    clear h1
    obtain ⟨b, as3, rfl, h3⟩ := mq_pI_spec h2
    clear h2
    obtain ⟨rfl, hp⟩ := mq_p0_spec h3
    clear h3
    obtain ⟨hp0, hp1, hp2, hp3, hp4, hp5⟩ := hp
    rfl
  · intro as ρ μ h
    obtain ⟨nw, sp, tl, tx, al⟩ := ρ
    obtain ⟨as0, rfl, h0⟩ := mq_pZ_spec h
    clear h
    obtain ⟨n, as1, rfl, h1⟩ := mq_pI_spec h0
    clear h0
    obtain ⟨a, as2, rfl, h2⟩ := mq_pI_spec h1
    clear h1
    obtain ⟨b, as3, rfl, h3⟩ := mq_pI_spec h2
    clear h2
    obtain ⟨rfl, hp⟩ := mq_p0_spec h3
    clear h3
    obtain ⟨hp0, hp1, hp2, hp3, hp4, hp5⟩ := hp
    intro hrg
    obtain ⟨⟨ha1a, ha1b⟩, ⟨ha2a, ha2b⟩, ⟨ha3a, ha3b⟩, -⟩ := hrg
    intro hbk
    have e0 : mq_l0 ([.inr (.inr (some (73, 0))), .inl n, .inl a, .inl b] : List mq_V) 5 = [some (.inr (.inr (some (73, 0)))), some (.inl n), some (.inl a), some (.inl b), none] := rfl
    rw [e0]
    subst hp0
    repeat' (first | refine And.intro ?_ ?_ | intro _)
    all_goals first | omega | rfl | exact trivial | assumption | exact sq_m (sq_cp_0 _ _ _ _)
  · intro as ρ μ h
    obtain ⟨nw, sp, tl, tx, al⟩ := ρ
    obtain ⟨as0, rfl, h0⟩ := mq_pZ_spec h
    clear h
    obtain ⟨n, as1, rfl, h1⟩ := mq_pI_spec h0
    clear h0
    obtain ⟨a, as2, rfl, h2⟩ := mq_pI_spec h1
    clear h1
    obtain ⟨b, as3, rfl, h3⟩ := mq_pI_spec h2
    clear h2
    obtain ⟨rfl, hp⟩ := mq_p0_spec h3
    clear h3
    obtain ⟨hp0, hp1, hp2, hp3, hp4, hp5⟩ := hp
    refine List.forall_mem_cons.mpr ⟨?_, ?_⟩
    · intro l st ρ' μ' cs hJ
      obtain ⟨l0, rfl, hJ0⟩ := mq_tZ_spec hJ
      clear hJ
      obtain ⟨v1, l1, rfl, hJ1⟩ := mq_tI_spec hJ0
      clear hJ0
      obtain ⟨v2, l2, rfl, hJ2⟩ := mq_tI_spec hJ1
      clear hJ1
      obtain ⟨v3, l3, rfl, hJ3⟩ := mq_tI_spec hJ2
      clear hJ2
      obtain ⟨v4, l4, rfl, hJ4⟩ := mq_tI_spec hJ3
      clear hJ3
      obtain ⟨rfl, hJz⟩ := mq_t0_spec hJ4
      clear hJ4
      obtain ⟨rfl, rfl, rfl, hc0, hc1, hc2, hc3, hc4, hc5, hm0, hm1⟩ := hJz
      omega
    exact fun _ h => absurd h List.not_mem_nil
  · intro as ρ μ h
    obtain ⟨nw, sp, tl, tx, al⟩ := ρ
    obtain ⟨as0, rfl, h0⟩ := mq_pZ_spec h
    clear h
    obtain ⟨n, as1, rfl, h1⟩ := mq_pI_spec h0
    clear h0
    obtain ⟨a, as2, rfl, h2⟩ := mq_pI_spec h1
    clear h1
    obtain ⟨b, as3, rfl, h3⟩ := mq_pI_spec h2
    clear h2
    obtain ⟨rfl, hp⟩ := mq_p0_spec h3
    clear h3
    obtain ⟨hp0, hp1, hp2, hp3, hp4, hp5⟩ := hp
    intro hrg
    obtain ⟨⟨ha1a, ha1b⟩, ⟨ha2a, ha2b⟩, ⟨ha3a, ha3b⟩, -⟩ := hrg
    refine List.forall_mem_cons.mpr ⟨?_, ?_⟩
    · intro N l st ρ' μ' cs hJ
      obtain ⟨l0, rfl, hJ0⟩ := mq_tZ_spec hJ
      clear hJ
      obtain ⟨v1, l1, rfl, hJ1⟩ := mq_tI_spec hJ0
      clear hJ0
      obtain ⟨v2, l2, rfl, hJ2⟩ := mq_tI_spec hJ1
      clear hJ1
      obtain ⟨v3, l3, rfl, hJ3⟩ := mq_tI_spec hJ2
      clear hJ2
      obtain ⟨v4, l4, rfl, hJ4⟩ := mq_tI_spec hJ3
      clear hJ3
      obtain ⟨rfl, hJz⟩ := mq_t0_spec hJ4
      clear hJ4
      obtain ⟨rfl, rfl, rfl, hc0, hc1, hc2, hc3, hc4, hc5, hm0, hm1⟩ := hJz
      intro hbk hrl
      obtain ⟨⟨hl1a, hl1b⟩, ⟨hl2a, hl2b⟩, ⟨hl3a, hl3b⟩, ⟨hl4a, hl4b⟩, -⟩ := hrl
      subst hc0 hc1 hc2 hp0
      repeat' (first | refine And.intro ?_ ?_ | intro _)
      all_goals first | omega | rfl | exact trivial | assumption | (rw [show v4 = 12 by omega] at hc5; exact hc5) | exact sq_m (sq_cp_s (sq_g hc5) (by omega) (by omega) (by omega) (by omega) (by omega) ‹_› (mq_up_row _ _ _ _))
    exact fun _ h => absurd h List.not_mem_nil
theorem mw1_m_copy_platform : mq_mlA cq_m_copy_platform 1 := ⟨kw_875, ⟨by decide +kernel, by decide +kernel⟩, by decide +kernel, kw_876, kw_771⟩
def pq_m_copy_kind : List mq_E := [(0, false, .iconst 0), (1, false, .istore 4), (3, true, .iload 4), (5, false, .iload 1), (6, false, .if_icmp .ge (Int.ofNat 31)), (9, false, .aload 0), (10, false, .iload 1), (11, false, .iload 3), (12, false, .imul), (13, false, .iload 4), (15, false, .iadd), (16, false, .aload 0), (17, false, .iload 1), (18, false, .iload 2), (19, false, .imul), (20, false, .iload 4), (22, false, .iadd), (23, false, .iaload), (24, false, .iastore), (25, false, .iinc 4 1), (28, false, .goto (Int.ofNat 3)), (31, false, .return_)]
def cq_m_copy_kind : mq_C := ((yX11_copyRow, cX11_copyRow, 5, none, { frames := 0, cells := 0, slots := 0, locals := 0 }), (4, 0, 0, 0), 18889465931478580854784, (fun as ρ μ => match ρ with
  | (nw, sp, tl, tx, al) => mq_pZ as 74 fun as => mq_pI as fun n as => mq_pI as fun a as => mq_pI as fun b as => mq_p0 as (n = 20 ∧ 0 ≤ a ∧ a ≤ 4 ∧ 0 ≤ b ∧ b ≤ 4 ∧ ¬ a = b)),
  (fun as ρ μ r ρ' μ' => match as, ρ, ρ' with
  | [.inr (.inr (some (_, _))), .inl n, .inl a, .inl b], (nw, sp, tl, tx, al), (nw', sp', tl', tx', al') => [sq_bx (sq_cp (μ (74, 0)) (μ' (74, 0)) 20 a b 20)]
  | _, _, _ => []))
def kq_m_copy_kind : List mq_V → mq_R → mq_M → List mq_Cu := fun as ρ μ => match as, ρ with
  | [.inr (.inr (some (_, _))), .inl n, .inl a, .inl b], (nw, sp, tl, tx, al) => [(3, [true, true, true, true, true], fun N l st ρ' μ' cs => mq_tZ l 74 fun l => mq_tI l fun v1 l => mq_tI l fun v2 l => mq_tI l fun v3 l => mq_tI l fun v4 l => mq_t0 l (st = [] ∧ ρ' = (nw, sp, tl, tx, al) ∧ cs = 0 ∧ v1 = n ∧ v2 = a ∧ v3 = b ∧ 0 ≤ v4 ∧ v4 ≤ 20 ∧ sq_bx (sq_cp (μ (74, 0)) (μ' (74, 0)) 20 a b v4) ∧ 0 ≤ (20 - v4 : Int) ∧ (20 - v4 : Int) < (N : Int)))]
  | _, _ => []
set_option maxHeartbeats 16000000 in
set_option maxRecDepth 100000 in
theorem vq_m_copy_kind (lc : Launch)  : mq_Ct lc cq_m_copy_kind := by
  refine mq_method (lc := lc) (P := pq_m_copy_kind) (cl := []) (T := ([], [], [], [], [], [])) (fuel := 400) (cuts := kq_m_copy_kind) (by decide) rfl ⟨rfl, rfl⟩ (fun _ h => absurd h List.not_mem_nil) ⟨(fun _ h => absurd h List.not_mem_nil), (fun _ h => absurd h List.not_mem_nil), (fun _ h => absurd h List.not_mem_nil), (fun _ h => absurd h List.not_mem_nil), (fun _ h => absurd h List.not_mem_nil), (fun _ h => absurd h List.not_mem_nil)⟩ (by decide +kernel) ⟨_, _, rfl⟩ ?_ ?_ ?_ ?_
  · intro as ρ μ h
    obtain ⟨nw, sp, tl, tx, al⟩ := ρ
    obtain ⟨as0, rfl, h0⟩ := mq_pZ_spec h
    clear h
    obtain ⟨n, as1, rfl, h1⟩ := mq_pI_spec h0
    clear h0
    obtain ⟨a, as2, rfl, h2⟩ := mq_pI_spec h1
    clear h1
    obtain ⟨b, as3, rfl, h3⟩ := mq_pI_spec h2
    clear h2
    obtain ⟨rfl, hp⟩ := mq_p0_spec h3
    clear h3
    obtain ⟨hp0, hp1, hp2, hp3, hp4, hp5⟩ := hp
    rfl
  · intro as ρ μ h
    obtain ⟨nw, sp, tl, tx, al⟩ := ρ
    obtain ⟨as0, rfl, h0⟩ := mq_pZ_spec h
    clear h
    obtain ⟨n, as1, rfl, h1⟩ := mq_pI_spec h0
    clear h0
    obtain ⟨a, as2, rfl, h2⟩ := mq_pI_spec h1
    clear h1
    obtain ⟨b, as3, rfl, h3⟩ := mq_pI_spec h2
    clear h2
    obtain ⟨rfl, hp⟩ := mq_p0_spec h3
    clear h3
    obtain ⟨hp0, hp1, hp2, hp3, hp4, hp5⟩ := hp
    intro hrg
    obtain ⟨⟨ha1a, ha1b⟩, ⟨ha2a, ha2b⟩, ⟨ha3a, ha3b⟩, -⟩ := hrg
    intro hbk
    have e0 : mq_l0 ([.inr (.inr (some (74, 0))), .inl n, .inl a, .inl b] : List mq_V) 5 = [some (.inr (.inr (some (74, 0)))), some (.inl n), some (.inl a), some (.inl b), none] := rfl
    rw [e0]
    subst hp0
    repeat' (first | refine And.intro ?_ ?_ | intro _)
    all_goals first | omega | rfl | exact trivial | assumption | exact sq_m (sq_cp_0 _ _ _ _)
  · intro as ρ μ h
    obtain ⟨nw, sp, tl, tx, al⟩ := ρ
    obtain ⟨as0, rfl, h0⟩ := mq_pZ_spec h
    clear h
    obtain ⟨n, as1, rfl, h1⟩ := mq_pI_spec h0
    clear h0
    obtain ⟨a, as2, rfl, h2⟩ := mq_pI_spec h1
    clear h1
    obtain ⟨b, as3, rfl, h3⟩ := mq_pI_spec h2
    clear h2
    obtain ⟨rfl, hp⟩ := mq_p0_spec h3
    clear h3
    obtain ⟨hp0, hp1, hp2, hp3, hp4, hp5⟩ := hp
    refine List.forall_mem_cons.mpr ⟨?_, ?_⟩
    · intro l st ρ' μ' cs hJ
      obtain ⟨l0, rfl, hJ0⟩ := mq_tZ_spec hJ
      clear hJ
      obtain ⟨v1, l1, rfl, hJ1⟩ := mq_tI_spec hJ0
      clear hJ0
      obtain ⟨v2, l2, rfl, hJ2⟩ := mq_tI_spec hJ1
      clear hJ1
      obtain ⟨v3, l3, rfl, hJ3⟩ := mq_tI_spec hJ2
      clear hJ2
      obtain ⟨v4, l4, rfl, hJ4⟩ := mq_tI_spec hJ3
      clear hJ3
      obtain ⟨rfl, hJz⟩ := mq_t0_spec hJ4
      clear hJ4
      obtain ⟨rfl, rfl, rfl, hc0, hc1, hc2, hc3, hc4, hc5, hm0, hm1⟩ := hJz
      omega
    exact fun _ h => absurd h List.not_mem_nil
  · intro as ρ μ h
    obtain ⟨nw, sp, tl, tx, al⟩ := ρ
    obtain ⟨as0, rfl, h0⟩ := mq_pZ_spec h
    clear h
    obtain ⟨n, as1, rfl, h1⟩ := mq_pI_spec h0
    clear h0
    obtain ⟨a, as2, rfl, h2⟩ := mq_pI_spec h1
    clear h1
    obtain ⟨b, as3, rfl, h3⟩ := mq_pI_spec h2
    clear h2
    obtain ⟨rfl, hp⟩ := mq_p0_spec h3
    clear h3
    obtain ⟨hp0, hp1, hp2, hp3, hp4, hp5⟩ := hp
    intro hrg
    obtain ⟨⟨ha1a, ha1b⟩, ⟨ha2a, ha2b⟩, ⟨ha3a, ha3b⟩, -⟩ := hrg
    refine List.forall_mem_cons.mpr ⟨?_, ?_⟩
    · intro N l st ρ' μ' cs hJ
      obtain ⟨l0, rfl, hJ0⟩ := mq_tZ_spec hJ
      clear hJ
      obtain ⟨v1, l1, rfl, hJ1⟩ := mq_tI_spec hJ0
      clear hJ0
      obtain ⟨v2, l2, rfl, hJ2⟩ := mq_tI_spec hJ1
      clear hJ1
      obtain ⟨v3, l3, rfl, hJ3⟩ := mq_tI_spec hJ2
      clear hJ2
      obtain ⟨v4, l4, rfl, hJ4⟩ := mq_tI_spec hJ3
      clear hJ3
      obtain ⟨rfl, hJz⟩ := mq_t0_spec hJ4
      clear hJ4
      obtain ⟨rfl, rfl, rfl, hc0, hc1, hc2, hc3, hc4, hc5, hm0, hm1⟩ := hJz
      intro hbk hrl
      obtain ⟨⟨hl1a, hl1b⟩, ⟨hl2a, hl2b⟩, ⟨hl3a, hl3b⟩, ⟨hl4a, hl4b⟩, -⟩ := hrl
      subst hc0 hc1 hc2 hp0
      repeat' (first | refine And.intro ?_ ?_ | intro _)
      all_goals first | omega | rfl | exact trivial | assumption | (rw [show v4 = 20 by omega] at hc5; exact hc5) | exact sq_m (sq_cp_s (sq_g hc5) (by omega) (by omega) (by omega) (by omega) (by omega) ‹_› (mq_up_row _ _ _ _))
    exact fun _ h => absurd h List.not_mem_nil
theorem mw1_m_copy_kind : mq_mlA cq_m_copy_kind 1 := ⟨kw_875, ⟨by decide +kernel, by decide +kernel⟩, by decide +kernel, kw_876, kw_771⟩
def pq_m_copy_train : List mq_E := [(0, false, .iconst 0), (1, false, .istore 4), (3, true, .iload 4), (5, false, .iload 1), (6, false, .if_icmp .ge (Int.ofNat 31)), (9, false, .aload 0), (10, false, .iload 1), (11, false, .iload 3), (12, false, .imul), (13, false, .iload 4), (15, false, .iadd), (16, false, .aload 0), (17, false, .iload 1), (18, false, .iload 2), (19, false, .imul), (20, false, .iload 4), (22, false, .iadd), (23, false, .iaload), (24, false, .iastore), (25, false, .iinc 4 1), (28, false, .goto (Int.ofNat 3)), (31, false, .return_)]
def cq_m_copy_train : mq_C := ((yX11_copyRow, cX11_copyRow, 5, none, { frames := 0, cells := 0, slots := 0, locals := 0 }), (4, 0, 0, 0), 37778931862957161709568, (fun as ρ μ => match ρ with
  | (nw, sp, tl, tx, al) => mq_pZ as 75 fun as => mq_pI as fun n as => mq_pI as fun a as => mq_pI as fun b as => mq_p0 as (n = 15 ∧ 0 ≤ a ∧ a ≤ 4 ∧ 0 ≤ b ∧ b ≤ 4 ∧ ¬ a = b)),
  (fun as ρ μ r ρ' μ' => match as, ρ, ρ' with
  | [.inr (.inr (some (_, _))), .inl n, .inl a, .inl b], (nw, sp, tl, tx, al), (nw', sp', tl', tx', al') => [sq_bx (sq_cp (μ (75, 0)) (μ' (75, 0)) 15 a b 15)]
  | _, _, _ => []))
def kq_m_copy_train : List mq_V → mq_R → mq_M → List mq_Cu := fun as ρ μ => match as, ρ with
  | [.inr (.inr (some (_, _))), .inl n, .inl a, .inl b], (nw, sp, tl, tx, al) => [(3, [true, true, true, true, true], fun N l st ρ' μ' cs => mq_tZ l 75 fun l => mq_tI l fun v1 l => mq_tI l fun v2 l => mq_tI l fun v3 l => mq_tI l fun v4 l => mq_t0 l (st = [] ∧ ρ' = (nw, sp, tl, tx, al) ∧ cs = 0 ∧ v1 = n ∧ v2 = a ∧ v3 = b ∧ 0 ≤ v4 ∧ v4 ≤ 15 ∧ sq_bx (sq_cp (μ (75, 0)) (μ' (75, 0)) 15 a b v4) ∧ 0 ≤ (15 - v4 : Int) ∧ (15 - v4 : Int) < (N : Int)))]
  | _, _ => []
set_option maxHeartbeats 16000000 in
set_option maxRecDepth 100000 in
theorem vq_m_copy_train (lc : Launch)  : mq_Ct lc cq_m_copy_train := by
  refine mq_method (lc := lc) (P := pq_m_copy_train) (cl := []) (T := ([], [], [], [], [], [])) (fuel := 400) (cuts := kq_m_copy_train) (by decide) rfl ⟨rfl, rfl⟩ (fun _ h => absurd h List.not_mem_nil) ⟨(fun _ h => absurd h List.not_mem_nil), (fun _ h => absurd h List.not_mem_nil), (fun _ h => absurd h List.not_mem_nil), (fun _ h => absurd h List.not_mem_nil), (fun _ h => absurd h List.not_mem_nil), (fun _ h => absurd h List.not_mem_nil)⟩ (by decide +kernel) ⟨_, _, rfl⟩ ?_ ?_ ?_ ?_
  · intro as ρ μ h
    obtain ⟨nw, sp, tl, tx, al⟩ := ρ
    obtain ⟨as0, rfl, h0⟩ := mq_pZ_spec h
    clear h
    obtain ⟨n, as1, rfl, h1⟩ := mq_pI_spec h0
    clear h0
    obtain ⟨a, as2, rfl, h2⟩ := mq_pI_spec h1
    clear h1
    obtain ⟨b, as3, rfl, h3⟩ := mq_pI_spec h2
    clear h2
    obtain ⟨rfl, hp⟩ := mq_p0_spec h3
    clear h3
    obtain ⟨hp0, hp1, hp2, hp3, hp4, hp5⟩ := hp
    rfl
  · intro as ρ μ h
    obtain ⟨nw, sp, tl, tx, al⟩ := ρ
    obtain ⟨as0, rfl, h0⟩ := mq_pZ_spec h
    clear h
    obtain ⟨n, as1, rfl, h1⟩ := mq_pI_spec h0
    clear h0
    obtain ⟨a, as2, rfl, h2⟩ := mq_pI_spec h1
    clear h1
    obtain ⟨b, as3, rfl, h3⟩ := mq_pI_spec h2
    clear h2
    obtain ⟨rfl, hp⟩ := mq_p0_spec h3
    clear h3
    obtain ⟨hp0, hp1, hp2, hp3, hp4, hp5⟩ := hp
    intro hrg
    obtain ⟨⟨ha1a, ha1b⟩, ⟨ha2a, ha2b⟩, ⟨ha3a, ha3b⟩, -⟩ := hrg
    intro hbk
    have e0 : mq_l0 ([.inr (.inr (some (75, 0))), .inl n, .inl a, .inl b] : List mq_V) 5 = [some (.inr (.inr (some (75, 0)))), some (.inl n), some (.inl a), some (.inl b), none] := rfl
    rw [e0]
    subst hp0
    repeat' (first | refine And.intro ?_ ?_ | intro _)
    all_goals first | omega | rfl | exact trivial | assumption | exact sq_m (sq_cp_0 _ _ _ _)
  · intro as ρ μ h
    obtain ⟨nw, sp, tl, tx, al⟩ := ρ
    obtain ⟨as0, rfl, h0⟩ := mq_pZ_spec h
    clear h
    obtain ⟨n, as1, rfl, h1⟩ := mq_pI_spec h0
    clear h0
    obtain ⟨a, as2, rfl, h2⟩ := mq_pI_spec h1
    clear h1
    obtain ⟨b, as3, rfl, h3⟩ := mq_pI_spec h2
    clear h2
    obtain ⟨rfl, hp⟩ := mq_p0_spec h3
    clear h3
    obtain ⟨hp0, hp1, hp2, hp3, hp4, hp5⟩ := hp
    refine List.forall_mem_cons.mpr ⟨?_, ?_⟩
    · intro l st ρ' μ' cs hJ
      obtain ⟨l0, rfl, hJ0⟩ := mq_tZ_spec hJ
      clear hJ
      obtain ⟨v1, l1, rfl, hJ1⟩ := mq_tI_spec hJ0
      clear hJ0
      obtain ⟨v2, l2, rfl, hJ2⟩ := mq_tI_spec hJ1
      clear hJ1
      obtain ⟨v3, l3, rfl, hJ3⟩ := mq_tI_spec hJ2
      clear hJ2
      obtain ⟨v4, l4, rfl, hJ4⟩ := mq_tI_spec hJ3
      clear hJ3
      obtain ⟨rfl, hJz⟩ := mq_t0_spec hJ4
      clear hJ4
      obtain ⟨rfl, rfl, rfl, hc0, hc1, hc2, hc3, hc4, hc5, hm0, hm1⟩ := hJz
      omega
    exact fun _ h => absurd h List.not_mem_nil
  · intro as ρ μ h
    obtain ⟨nw, sp, tl, tx, al⟩ := ρ
    obtain ⟨as0, rfl, h0⟩ := mq_pZ_spec h
    clear h
    obtain ⟨n, as1, rfl, h1⟩ := mq_pI_spec h0
    clear h0
    obtain ⟨a, as2, rfl, h2⟩ := mq_pI_spec h1
    clear h1
    obtain ⟨b, as3, rfl, h3⟩ := mq_pI_spec h2
    clear h2
    obtain ⟨rfl, hp⟩ := mq_p0_spec h3
    clear h3
    obtain ⟨hp0, hp1, hp2, hp3, hp4, hp5⟩ := hp
    intro hrg
    obtain ⟨⟨ha1a, ha1b⟩, ⟨ha2a, ha2b⟩, ⟨ha3a, ha3b⟩, -⟩ := hrg
    refine List.forall_mem_cons.mpr ⟨?_, ?_⟩
    · intro N l st ρ' μ' cs hJ
      obtain ⟨l0, rfl, hJ0⟩ := mq_tZ_spec hJ
      clear hJ
      obtain ⟨v1, l1, rfl, hJ1⟩ := mq_tI_spec hJ0
      clear hJ0
      obtain ⟨v2, l2, rfl, hJ2⟩ := mq_tI_spec hJ1
      clear hJ1
      obtain ⟨v3, l3, rfl, hJ3⟩ := mq_tI_spec hJ2
      clear hJ2
      obtain ⟨v4, l4, rfl, hJ4⟩ := mq_tI_spec hJ3
      clear hJ3
      obtain ⟨rfl, hJz⟩ := mq_t0_spec hJ4
      clear hJ4
      obtain ⟨rfl, rfl, rfl, hc0, hc1, hc2, hc3, hc4, hc5, hm0, hm1⟩ := hJz
      intro hbk hrl
      obtain ⟨⟨hl1a, hl1b⟩, ⟨hl2a, hl2b⟩, ⟨hl3a, hl3b⟩, ⟨hl4a, hl4b⟩, -⟩ := hrl
      subst hc0 hc1 hc2 hp0
      repeat' (first | refine And.intro ?_ ?_ | intro _)
      all_goals first | omega | rfl | exact trivial | assumption | (rw [show v4 = 15 by omega] at hc5; exact hc5) | exact sq_m (sq_cp_s (sq_g hc5) (by omega) (by omega) (by omega) (by omega) (by omega) ‹_› (mq_up_row _ _ _ _))
    exact fun _ h => absurd h List.not_mem_nil
theorem mw1_m_copy_train : mq_mlA cq_m_copy_train 1 := ⟨kw_875, ⟨by decide +kernel, by decide +kernel⟩, by decide +kernel, kw_876, kw_771⟩
def pq_m_copy_coach : List mq_E := [(0, false, .iconst 0), (1, false, .istore 4), (3, true, .iload 4), (5, false, .iload 1), (6, false, .if_icmp .ge (Int.ofNat 31)), (9, false, .aload 0), (10, false, .iload 1), (11, false, .iload 3), (12, false, .imul), (13, false, .iload 4), (15, false, .iadd), (16, false, .aload 0), (17, false, .iload 1), (18, false, .iload 2), (19, false, .imul), (20, false, .iload 4), (22, false, .iadd), (23, false, .iaload), (24, false, .iastore), (25, false, .iinc 4 1), (28, false, .goto (Int.ofNat 3)), (31, false, .return_)]
def cq_m_copy_coach : mq_C := ((yX11_copyRow, cX11_copyRow, 5, none, { frames := 0, cells := 0, slots := 0, locals := 0 }), (4, 0, 0, 0), 75557863725914323419136, (fun as ρ μ => match ρ with
  | (nw, sp, tl, tx, al) => mq_pZ as 76 fun as => mq_pI as fun n as => mq_pI as fun a as => mq_pI as fun b as => mq_p0 as (n = 80 ∧ 0 ≤ a ∧ a ≤ 4 ∧ 0 ≤ b ∧ b ≤ 4 ∧ ¬ a = b)),
  (fun as ρ μ r ρ' μ' => match as, ρ, ρ' with
  | [.inr (.inr (some (_, _))), .inl n, .inl a, .inl b], (nw, sp, tl, tx, al), (nw', sp', tl', tx', al') => [sq_bx (sq_cp (μ (76, 0)) (μ' (76, 0)) 80 a b 80)]
  | _, _, _ => []))
def kq_m_copy_coach : List mq_V → mq_R → mq_M → List mq_Cu := fun as ρ μ => match as, ρ with
  | [.inr (.inr (some (_, _))), .inl n, .inl a, .inl b], (nw, sp, tl, tx, al) => [(3, [true, true, true, true, true], fun N l st ρ' μ' cs => mq_tZ l 76 fun l => mq_tI l fun v1 l => mq_tI l fun v2 l => mq_tI l fun v3 l => mq_tI l fun v4 l => mq_t0 l (st = [] ∧ ρ' = (nw, sp, tl, tx, al) ∧ cs = 0 ∧ v1 = n ∧ v2 = a ∧ v3 = b ∧ 0 ≤ v4 ∧ v4 ≤ 80 ∧ sq_bx (sq_cp (μ (76, 0)) (μ' (76, 0)) 80 a b v4) ∧ 0 ≤ (80 - v4 : Int) ∧ (80 - v4 : Int) < (N : Int)))]
  | _, _ => []
set_option maxHeartbeats 16000000 in
set_option maxRecDepth 100000 in
theorem vq_m_copy_coach (lc : Launch)  : mq_Ct lc cq_m_copy_coach := by
  refine mq_method (lc := lc) (P := pq_m_copy_coach) (cl := []) (T := ([], [], [], [], [], [])) (fuel := 400) (cuts := kq_m_copy_coach) (by decide) rfl ⟨rfl, rfl⟩ (fun _ h => absurd h List.not_mem_nil) ⟨(fun _ h => absurd h List.not_mem_nil), (fun _ h => absurd h List.not_mem_nil), (fun _ h => absurd h List.not_mem_nil), (fun _ h => absurd h List.not_mem_nil), (fun _ h => absurd h List.not_mem_nil), (fun _ h => absurd h List.not_mem_nil)⟩ (by decide +kernel) ⟨_, _, rfl⟩ ?_ ?_ ?_ ?_
  · intro as ρ μ h
    obtain ⟨nw, sp, tl, tx, al⟩ := ρ
    obtain ⟨as0, rfl, h0⟩ := mq_pZ_spec h
    clear h
    obtain ⟨n, as1, rfl, h1⟩ := mq_pI_spec h0
    clear h0
    obtain ⟨a, as2, rfl, h2⟩ := mq_pI_spec h1
    clear h1
    obtain ⟨b, as3, rfl, h3⟩ := mq_pI_spec h2
    clear h2
    obtain ⟨rfl, hp⟩ := mq_p0_spec h3
    clear h3
    obtain ⟨hp0, hp1, hp2, hp3, hp4, hp5⟩ := hp
    rfl
  · intro as ρ μ h
    obtain ⟨nw, sp, tl, tx, al⟩ := ρ
    obtain ⟨as0, rfl, h0⟩ := mq_pZ_spec h
    clear h
    obtain ⟨n, as1, rfl, h1⟩ := mq_pI_spec h0
    clear h0
    obtain ⟨a, as2, rfl, h2⟩ := mq_pI_spec h1
    clear h1
    obtain ⟨b, as3, rfl, h3⟩ := mq_pI_spec h2
    clear h2
    obtain ⟨rfl, hp⟩ := mq_p0_spec h3
    clear h3
    obtain ⟨hp0, hp1, hp2, hp3, hp4, hp5⟩ := hp
    intro hrg
    obtain ⟨⟨ha1a, ha1b⟩, ⟨ha2a, ha2b⟩, ⟨ha3a, ha3b⟩, -⟩ := hrg
    intro hbk
    have e0 : mq_l0 ([.inr (.inr (some (76, 0))), .inl n, .inl a, .inl b] : List mq_V) 5 = [some (.inr (.inr (some (76, 0)))), some (.inl n), some (.inl a), some (.inl b), none] := rfl
    rw [e0]
    subst hp0
    repeat' (first | refine And.intro ?_ ?_ | intro _)
    all_goals first | omega | rfl | exact trivial | assumption | exact sq_m (sq_cp_0 _ _ _ _)
  · intro as ρ μ h
    obtain ⟨nw, sp, tl, tx, al⟩ := ρ
    obtain ⟨as0, rfl, h0⟩ := mq_pZ_spec h
    clear h
    obtain ⟨n, as1, rfl, h1⟩ := mq_pI_spec h0
    clear h0
    obtain ⟨a, as2, rfl, h2⟩ := mq_pI_spec h1
    clear h1
    obtain ⟨b, as3, rfl, h3⟩ := mq_pI_spec h2
    clear h2
    obtain ⟨rfl, hp⟩ := mq_p0_spec h3
    clear h3
    obtain ⟨hp0, hp1, hp2, hp3, hp4, hp5⟩ := hp
    refine List.forall_mem_cons.mpr ⟨?_, ?_⟩
    · intro l st ρ' μ' cs hJ
      obtain ⟨l0, rfl, hJ0⟩ := mq_tZ_spec hJ
      clear hJ
      obtain ⟨v1, l1, rfl, hJ1⟩ := mq_tI_spec hJ0
      clear hJ0
      obtain ⟨v2, l2, rfl, hJ2⟩ := mq_tI_spec hJ1
      clear hJ1
      obtain ⟨v3, l3, rfl, hJ3⟩ := mq_tI_spec hJ2
      clear hJ2
      obtain ⟨v4, l4, rfl, hJ4⟩ := mq_tI_spec hJ3
      clear hJ3
      obtain ⟨rfl, hJz⟩ := mq_t0_spec hJ4
      clear hJ4
      obtain ⟨rfl, rfl, rfl, hc0, hc1, hc2, hc3, hc4, hc5, hm0, hm1⟩ := hJz
      omega
    exact fun _ h => absurd h List.not_mem_nil
  · intro as ρ μ h
    obtain ⟨nw, sp, tl, tx, al⟩ := ρ
    obtain ⟨as0, rfl, h0⟩ := mq_pZ_spec h
    clear h
    obtain ⟨n, as1, rfl, h1⟩ := mq_pI_spec h0
    clear h0
    obtain ⟨a, as2, rfl, h2⟩ := mq_pI_spec h1
    clear h1
    obtain ⟨b, as3, rfl, h3⟩ := mq_pI_spec h2
    clear h2
    obtain ⟨rfl, hp⟩ := mq_p0_spec h3
    clear h3
    obtain ⟨hp0, hp1, hp2, hp3, hp4, hp5⟩ := hp
    intro hrg
    obtain ⟨⟨ha1a, ha1b⟩, ⟨ha2a, ha2b⟩, ⟨ha3a, ha3b⟩, -⟩ := hrg
    refine List.forall_mem_cons.mpr ⟨?_, ?_⟩
    · intro N l st ρ' μ' cs hJ
      obtain ⟨l0, rfl, hJ0⟩ := mq_tZ_spec hJ
      clear hJ
      obtain ⟨v1, l1, rfl, hJ1⟩ := mq_tI_spec hJ0
      clear hJ0
      obtain ⟨v2, l2, rfl, hJ2⟩ := mq_tI_spec hJ1
      clear hJ1
      obtain ⟨v3, l3, rfl, hJ3⟩ := mq_tI_spec hJ2
      clear hJ2
      obtain ⟨v4, l4, rfl, hJ4⟩ := mq_tI_spec hJ3
      clear hJ3
      obtain ⟨rfl, hJz⟩ := mq_t0_spec hJ4
      clear hJ4
      obtain ⟨rfl, rfl, rfl, hc0, hc1, hc2, hc3, hc4, hc5, hm0, hm1⟩ := hJz
      intro hbk hrl
      obtain ⟨⟨hl1a, hl1b⟩, ⟨hl2a, hl2b⟩, ⟨hl3a, hl3b⟩, ⟨hl4a, hl4b⟩, -⟩ := hrl
      subst hc0 hc1 hc2 hp0
      repeat' (first | refine And.intro ?_ ?_ | intro _)
      all_goals first | omega | rfl | exact trivial | assumption | (rw [show v4 = 80 by omega] at hc5; exact hc5) | exact sq_m (sq_cp_s (sq_g hc5) (by omega) (by omega) (by omega) (by omega) (by omega) ‹_› (mq_up_row _ _ _ _))
    exact fun _ h => absurd h List.not_mem_nil
theorem mw1_m_copy_coach : mq_mlA cq_m_copy_coach 1 := ⟨kw_875, ⟨by decide +kernel, by decide +kernel⟩, by decide +kernel, kw_876, kw_771⟩
