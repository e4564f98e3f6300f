def pq_m_in : List mq_E := [(0, false, .lload 0), (1, false, .lload 2), (2, false, .lcmp), (3, false, .ifCond .lt (Int.ofNat 17)), (6, false, .lload 0), (7, false, .lload 4), (9, false, .lcmp), (10, false, .ifCond .gt (Int.ofNat 17)), (13, false, .iconst 1), (14, false, .goto (Int.ofNat 18)), (17, false, .iconst 0), (18, false, .ireturn)]
def cq_m_in : mq_C := ((yX11_in, cX11_in, 6, (some .boolean), { frames := 0, cells := 0, slots := 0, locals := 0 }), (3, 1, 0, 0), 0, (fun as ρ μ => match ρ with
  | (nw, sp, tl, tx, al) => mq_pL as fun x as => mq_pL as fun lo as => mq_pL as fun hi as => mq_p0 as (True)),
  (fun as ρ μ r ρ' μ' => match as, ρ, ρ' with
  | [.inr (.inl x), .inr (.inl lo), .inr (.inl hi)], (nw, sp, tl, tx, al), (nw', sp', tl', tx', al') => [(r = 1 ∧ lo ≤ x ∧ x ≤ hi) ∨ (r = 0 ∧ (x < lo ∨ hi < x))]
  | _, _, _ => []))
def kq_m_in : List mq_V → mq_R → mq_M → List mq_Cu := fun as ρ μ => match as, ρ with
  | [.inr (.inl x), .inr (.inl lo), .inr (.inl hi)], (nw, sp, tl, tx, al) => []
  | _, _ => []
set_option maxHeartbeats 16000000 in
set_option maxRecDepth 100000 in
theorem vq_m_in (lc : Launch)  : mq_Ct lc cq_m_in := by
  refine mq_method (lc := lc) (P := pq_m_in) (cl := []) (T := ([], [], [], [], [], [])) (fuel := 400) (cuts := kq_m_in) (by decide) rfl ⟨rfl, rfl⟩ (fun _ h => absurd h List.not_mem_nil) ⟨(fun _ h => absurd h List.not_mem_nil), (fun _ h => absurd h List.not_mem_nil), (fun _ h => absurd h List.not_mem_nil), (fun _ h => absurd h List.not_mem_nil), (fun _ h => absurd h List.not_mem_nil), (fun _ h => absurd h List.not_mem_nil)⟩ (by decide +kernel) ⟨_, _, rfl⟩ ?_ ?_ ?_ ?_
  · intro as ρ μ h
    obtain ⟨nw, sp, tl, tx, al⟩ := ρ
    obtain ⟨x, as0, rfl, h0⟩ := mq_pL_spec h
    clear h
    obtain ⟨lo, as1, rfl, h1⟩ := mq_pL_spec h0
    clear h0
    obtain ⟨hi, as2, rfl, h2⟩ := mq_pL_spec h1
    clear h1
    obtain ⟨rfl, hp⟩ := mq_p0_spec h2
    clear h2
    rfl
  · intro as ρ μ h
    obtain ⟨nw, sp, tl, tx, al⟩ := ρ
    obtain ⟨x, as0, rfl, h0⟩ := mq_pL_spec h
    clear h
    obtain ⟨lo, as1, rfl, h1⟩ := mq_pL_spec h0
    clear h0
    obtain ⟨hi, as2, rfl, h2⟩ := mq_pL_spec h1
    clear h1
    obtain ⟨rfl, hp⟩ := mq_p0_spec h2
    clear h2
    intro hrg
    obtain ⟨⟨ha0a, ha0b⟩, ⟨ha1a, ha1b⟩, ⟨ha2a, ha2b⟩, -⟩ := hrg
    intro hbk
    have e0 : mq_l0 ([.inr (.inl x), .inr (.inl lo), .inr (.inl hi)] : List mq_V) 6 = [some (.inr (.inl x)), none, some (.inr (.inl lo)), none, some (.inr (.inl hi)), none] := rfl
    rw [e0]
    repeat' (first | refine And.intro ?_ ?_ | intro _)
    all_goals first | omega | rfl | exact trivial | (simp [mq_up] at * <;> omega)
  · intro as ρ μ h
    obtain ⟨nw, sp, tl, tx, al⟩ := ρ
    obtain ⟨x, as0, rfl, h0⟩ := mq_pL_spec h
    clear h
    obtain ⟨lo, as1, rfl, h1⟩ := mq_pL_spec h0
    clear h0
    obtain ⟨hi, as2, rfl, h2⟩ := mq_pL_spec h1
    clear h1
    obtain ⟨rfl, hp⟩ := mq_p0_spec h2
    clear h2
    exact fun _ h => absurd h List.not_mem_nil
  · intro as ρ μ h
    obtain ⟨nw, sp, tl, tx, al⟩ := ρ
    obtain ⟨x, as0, rfl, h0⟩ := mq_pL_spec h
    clear h
    obtain ⟨lo, as1, rfl, h1⟩ := mq_pL_spec h0
    clear h0
    obtain ⟨hi, as2, rfl, h2⟩ := mq_pL_spec h1
    clear h1
    obtain ⟨rfl, hp⟩ := mq_p0_spec h2
    clear h2
    intro hrg
    obtain ⟨⟨ha0a, ha0b⟩, ⟨ha1a, ha1b⟩, ⟨ha2a, ha2b⟩, -⟩ := hrg
    exact fun _ h => absurd h List.not_mem_nil
theorem mw1_m_in : mq_mlA cq_m_in 1 := ⟨kw_769, ⟨by decide +kernel, by decide +kernel⟩, by decide +kernel, kw_770, kw_771⟩
def pq_m_isSlot : List mq_E := [(0, false, .iload 0), (1, false, .i2l), (2, false, .goto_w 0), (3, false, .goto_w 3), (6, false, .invokestatic 0), (9, false, .ireturn)]
def cq_m_isSlot : mq_C := ((yX11_isSlot, cX11_isSlot, 1, (some .boolean), { frames := 1, cells := 0, slots := 0, locals := 25 }), (1, 1, 0, 0), 0, (fun as ρ μ => match ρ with
  | (nw, sp, tl, tx, al) => mq_pI as fun s as => mq_p0 as (True)),
  (fun as ρ μ r ρ' μ' => match as, ρ, ρ' with
  | [.inl s], (nw, sp, tl, tx, al), (nw', sp', tl', tx', al') => [(r = 1 ∧ 0 ≤ s ∧ s ≤ 3) ∨ (r = 0 ∧ (s < 0 ∨ 3 < s))]
  | _, _, _ => []))
def kq_m_isSlot : List mq_V → mq_R → mq_M → List mq_Cu := fun as ρ μ => match as, ρ with
  | [.inl s], (nw, sp, tl, tx, al) => []
  | _, _ => []
set_option maxHeartbeats 16000000 in
set_option maxRecDepth 100000 in
theorem vq_m_isSlot (lc : Launch) (h_m_in : mq_Ct lc cq_m_in) : mq_Ct lc cq_m_isSlot := by
  refine mq_method (lc := lc) (P := pq_m_isSlot) (cl := [cq_m_in]) (T := ([], [], [(123, 3)], [(125, 0, 1)], [], [])) (fuel := 400) (cuts := kq_m_isSlot) (by decide) rfl ⟨rfl, rfl⟩ (List.forall_mem_cons.mpr ⟨h_m_in, (fun _ h => absurd h List.not_mem_nil)⟩) ⟨(fun _ h => absurd h List.not_mem_nil), (fun _ h => absurd h List.not_mem_nil), (List.forall_mem_cons.mpr ⟨kw_768, (fun _ h => absurd h List.not_mem_nil)⟩), (List.forall_mem_cons.mpr ⟨mq_ml1 rfl mw1_m_in kw_772, (fun _ h => absurd h List.not_mem_nil)⟩), (fun _ h => absurd h List.not_mem_nil), (fun _ h => absurd h List.not_mem_nil)⟩ (by decide +kernel) ⟨_, _, rfl⟩ ?_ ?_ ?_ ?_
  · intro as ρ μ h
    obtain ⟨nw, sp, tl, tx, al⟩ := ρ
    obtain ⟨s, as0, rfl, h0⟩ := mq_pI_spec h
    clear h
    obtain ⟨rfl, hp⟩ := mq_p0_spec h0
    clear h0
    rfl
  · intro as ρ μ h
    obtain ⟨nw, sp, tl, tx, al⟩ := ρ
    obtain ⟨s, as0, rfl, h0⟩ := mq_pI_spec h
    clear h
    obtain ⟨rfl, hp⟩ := mq_p0_spec h0
    clear h0
    intro hrg
    obtain ⟨⟨ha0a, ha0b⟩, -⟩ := hrg
    intro hbk
    have e0 : mq_l0 ([.inl s] : List mq_V) 1 = [some (.inl s)] := rfl
    rw [e0]
    repeat' (first | refine And.intro ?_ ?_ | intro _)
    all_goals first | omega | rfl | exact trivial | (simp [mq_up] at * <;> omega)
  · intro as ρ μ h
    obtain ⟨nw, sp, tl, tx, al⟩ := ρ
    obtain ⟨s, as0, rfl, h0⟩ := mq_pI_spec h
    clear h
    obtain ⟨rfl, hp⟩ := mq_p0_spec h0
    clear h0
    exact fun _ h => absurd h List.not_mem_nil
  · intro as ρ μ h
    obtain ⟨nw, sp, tl, tx, al⟩ := ρ
    obtain ⟨s, as0, rfl, h0⟩ := mq_pI_spec h
    clear h
    obtain ⟨rfl, hp⟩ := mq_p0_spec h0
    clear h0
    intro hrg
    obtain ⟨⟨ha0a, ha0b⟩, -⟩ := hrg
    exact fun _ h => absurd h List.not_mem_nil
theorem mw1_m_isSlot : mq_mlA cq_m_isSlot 1 := ⟨kw_777, ⟨by decide +kernel, by decide +kernel⟩, by decide +kernel, kw_778, kw_771⟩
def pq_m_cut : List mq_E := [(0, false, .iload 2), (1, false, .ifCond .ne (Int.ofNat 11)), (4, false, .lload 0), (5, false, .l2i), (6, false, .i2b), (7, false, .i2l), (8, false, .goto (Int.ofNat 35)), (11, false, .iload 2), (12, false, .iconst 1), (13, false, .if_icmp .ne (Int.ofNat 23)), (16, false, .lload 0), (17, false, .l2i), (18, false, .i2s), (19, false, .i2l), (20, false, .goto (Int.ofNat 35)), (23, false, .iload 2), (24, false, .iconst 2), (25, false, .if_icmp .ne (Int.ofNat 34)), (28, false, .lload 0), (29, false, .l2i), (30, false, .i2l), (31, false, .goto (Int.ofNat 35)), (34, false, .lload 0), (35, false, .lreturn)]
def cq_m_cut : mq_C := ((yX11_cut, cX11_cut, 3, (some .long), { frames := 0, cells := 0, slots := 0, locals := 0 }), (2, 2, 0, 0), 0, (fun as ρ μ => match ρ with
  | (nw, sp, tl, tx, al) => mq_pL as fun x as => mq_pI as fun w as => mq_p0 as (True)),
  (fun as ρ μ r ρ' μ' => match as, ρ, ρ' with
  | [.inr (.inl x), .inl w], (nw, sp, tl, tx, al), (nw', sp', tl', tx', al') => []
  | _, _, _ => []))
def kq_m_cut : List mq_V → mq_R → mq_M → List mq_Cu := fun as ρ μ => match as, ρ with
  | [.inr (.inl x), .inl w], (nw, sp, tl, tx, al) => []
  | _, _ => []
set_option maxHeartbeats 16000000 in
set_option maxRecDepth 100000 in
theorem vq_m_cut (lc : Launch)  : mq_Ct lc cq_m_cut := by
  refine mq_method (lc := lc) (P := pq_m_cut) (cl := []) (T := ([], [], [], [], [], [])) (fuel := 400) (cuts := kq_m_cut) (by decide) rfl ⟨rfl, rfl⟩ (fun _ h => absurd h List.not_mem_nil) ⟨(fun _ h => absurd h List.not_mem_nil), (fun _ h => absurd h List.not_mem_nil), (fun _ h => absurd h List.not_mem_nil), (fun _ h => absurd h List.not_mem_nil), (fun _ h => absurd h List.not_mem_nil), (fun _ h => absurd h List.not_mem_nil)⟩ (by decide +kernel) ⟨_, _, rfl⟩ ?_ ?_ ?_ ?_
  · intro as ρ μ h
    obtain ⟨nw, sp, tl, tx, al⟩ := ρ
    obtain ⟨x, as0, rfl, h0⟩ := mq_pL_spec h
    clear h
    obtain ⟨w, as1, rfl, h1⟩ := mq_pI_spec h0
    clear h0
    obtain ⟨rfl, hp⟩ := mq_p0_spec h1
    clear h1
    rfl
  · intro as ρ μ h
    obtain ⟨nw, sp, tl, tx, al⟩ := ρ
    obtain ⟨x, as0, rfl, h0⟩ := mq_pL_spec h
    clear h
    obtain ⟨w, as1, rfl, h1⟩ := mq_pI_spec h0
    clear h0
    obtain ⟨rfl, hp⟩ := mq_p0_spec h1
    clear h1
    intro hrg
    obtain ⟨⟨ha0a, ha0b⟩, ⟨ha1a, ha1b⟩, -⟩ := hrg
    intro hbk
    have e0 : mq_l0 ([.inr (.inl x), .inl w] : List mq_V) 3 = [some (.inr (.inl x)), none, some (.inl w)] := rfl
    rw [e0]
    repeat' (first | refine And.intro ?_ ?_ | intro _)
    all_goals first | omega | rfl | exact trivial | (simp [mq_up] at * <;> omega)
  · intro as ρ μ h
    obtain ⟨nw, sp, tl, tx, al⟩ := ρ
    obtain ⟨x, as0, rfl, h0⟩ := mq_pL_spec h
    clear h
    obtain ⟨w, as1, rfl, h1⟩ := mq_pI_spec h0
    clear h0
    obtain ⟨rfl, hp⟩ := mq_p0_spec h1
    clear h1
    exact fun _ h => absurd h List.not_mem_nil
  · intro as ρ μ h
    obtain ⟨nw, sp, tl, tx, al⟩ := ρ
    obtain ⟨x, as0, rfl, h0⟩ := mq_pL_spec h
    clear h
    obtain ⟨w, as1, rfl, h1⟩ := mq_pI_spec h0
    clear h0
    obtain ⟨rfl, hp⟩ := mq_p0_spec h1
    clear h1
    intro hrg
    obtain ⟨⟨ha0a, ha0b⟩, ⟨ha1a, ha1b⟩, -⟩ := hrg
    exact fun _ h => absurd h List.not_mem_nil
theorem mw1_m_cut : mq_mlA cq_m_cut 1 := ⟨kw_780, ⟨by decide +kernel, by decide +kernel⟩, by decide +kernel, kw_781, kw_771⟩
def pq_m_row : List mq_E := [(0, false, .aload 0), (1, false, .iconst 0), (2, false, .multianewarray 11 0), (5, false, .iload 1), (6, false, .invokestatic 0), (9, false, .ifCond .eq (Int.ofNat 30)), (12, false, .iload 2), (13, false, .i2l), (14, false, .goto_w 0), (15, false, .goto_w 3), (18, false, .invokestatic 1), (21, false, .ifCond .eq (Int.ofNat 30)), (24, false, .iload 3), (25, false, .iconst 60), (27, false, .if_icmp .le (Int.ofNat 33)), (30, false, .iconst (-2)), (32, false, .ireturn), (33, false, .iload 3), (34, false, .ifCond .ge (Int.ofNat 40)), (37, false, .iconst (-3)), (39, false, .ireturn), (40, false, .aload 0), (41, false, .invokeinterface 11 1), (44, false, .iload 1), (45, false, .iload 2), (46, false, .iastore), (47, false, .aload 0), (48, false, .invokeinterface 11 2), (51, false, .iload 1), (52, false, .iload 3), (53, false, .iastore), (54, false, .iconst 0), (55, false, .istore 4), (57, true, .iload 4), (59, false, .iload 3), (60, false, .if_icmp .ge (Int.ofNat 82)), (63, false, .aload 0), (64, false, .invokeinterface 11 3), (67, false, .iconst 60), (69, false, .iload 1), (70, false, .imul), (71, false, .iload 4), (73, false, .iadd), (74, false, .goto_w 0), (75, false, .lastore), (76, false, .iinc 4 1), (79, false, .goto (Int.ofNat 57)), (82, false, .iconst 0), (83, false, .ireturn)]
def cq_m_row : mq_C := ((yX11_row, cX11_row, 5, (some .int), { frames := 2, cells := 0, slots := 0, locals := 45 }), (4, 1, 0, 0), 17293822569102704640, (fun as ρ μ => match ρ with
  | (nw, sp, tl, tx, al) => mq_pZ as 60 fun as => mq_pI as fun s as => mq_pI as fun w as => mq_pI as fun n as => mq_p0 as (True)),
  (fun as ρ μ r ρ' μ' => match as, ρ, ρ' with
  | [.inr (.inr (some (_, _))), .inl s, .inl w, .inl n], (nw, sp, tl, tx, al), (nw', sp', tl', tx', al') => [(r = -2 ∧ ¬ (0 ≤ s ∧ s ≤ 3 ∧ 0 ≤ w ∧ w ≤ 3 ∧ n ≤ 60)) ∨ (0 ≤ s ∧ s ≤ 3 ∧ 0 ≤ w ∧ w ≤ 3 ∧ n ≤ 60 ∧ ((r = -3 ∧ n < 0) ∨ (r = 0 ∧ 0 ≤ n))), ∀ x : Nat, ¬ (r = 0 ∧ (x : Int) = s) → μ' (61, 0) x = μ (61, 0) x ∧ μ' (62, 0) x = μ (62, 0) x, r = 0 → μ' (61, 0) s.toNat = w ∧ μ' (62, 0) s.toNat = n]
  | _, _, _ => []))
def kq_m_row : List mq_V → mq_R → mq_M → List mq_Cu := fun as ρ μ => match as, ρ with
  | [.inr (.inr (some (_, _))), .inl s, .inl w, .inl n], (nw, sp, tl, tx, al) => [(57, [true, true, true, true, true], fun N l st ρ' μ' cs => mq_tZ l 60 fun l => mq_tI l fun v1 l => mq_tI l fun v2 l => mq_tI l fun v3 l => mq_tI l fun v4 l => mq_t0 l (st = [] ∧ ρ' = (nw, sp, tl, tx, al) ∧ cs = 0 ∧ v1 = s ∧ v2 = w ∧ v3 = n ∧ 0 ≤ s ∧ s ≤ 3 ∧ 0 ≤ w ∧ w ≤ 3 ∧ 0 ≤ n ∧ n ≤ 60 ∧ 0 ≤ v4 ∧ v4 ≤ n ∧ μ' (61, 0) s.toNat = w ∧ μ' (62, 0) s.toNat = n ∧ (∀ x : Nat, ¬ (x : Int) = s → μ' (61, 0) x = μ (61, 0) x ∧ μ' (62, 0) x = μ (62, 0) x) ∧ 0 ≤ (60 - v4 : Int) ∧ (60 - v4 : Int) < (N : Int)))]
  | _, _ => []
set_option maxHeartbeats 16000000 in
set_option maxRecDepth 100000 in
theorem vq_m_row (lc : Launch) (h_m_isSlot : mq_Ct lc cq_m_isSlot) (h_m_in : mq_Ct lc cq_m_in) : mq_Ct lc cq_m_row := by
  refine mq_method (lc := lc) (P := pq_m_row) (cl := [cq_m_isSlot, cq_m_in]) (T := ([(120, 11, 0), (7, 11, 1), (13, 11, 2), (16, 11, 3)], [], [(123, 3)], [(129, 0, 1), (125, 1, 1)], [], [])) (fuel := 400) (cuts := kq_m_row) (by decide) rfl ⟨rfl, rfl⟩ (List.forall_mem_cons.mpr ⟨h_m_isSlot, (List.forall_mem_cons.mpr ⟨h_m_in, (fun _ h => absurd h List.not_mem_nil)⟩)⟩) ⟨(List.forall_mem_cons.mpr ⟨⟨_, rfl, by decide, kw_773⟩, (List.forall_mem_cons.mpr ⟨⟨_, rfl, by decide, kw_774⟩, (List.forall_mem_cons.mpr ⟨⟨_, rfl, by decide, kw_775⟩, (List.forall_mem_cons.mpr ⟨⟨_, rfl, by decide, kw_776⟩, (fun _ h => absurd h List.not_mem_nil)⟩)⟩)⟩)⟩), (fun _ h => absurd h List.not_mem_nil), (List.forall_mem_cons.mpr ⟨kw_768, (fun _ h => absurd h List.not_mem_nil)⟩), (List.forall_mem_cons.mpr ⟨mq_ml1 rfl mw1_m_isSlot kw_779, (List.forall_mem_cons.mpr ⟨mq_ml1 rfl mw1_m_in kw_772, (fun _ h => absurd h List.not_mem_nil)⟩)⟩), (fun _ h => absurd h List.not_mem_nil), (fun _ h => absurd h List.not_mem_nil)⟩ (by decide +kernel) ⟨_, _, rfl⟩ ?_ ?_ ?_ ?_
  · intro as ρ μ h
    obtain ⟨nw, sp, tl, tx, al⟩ := ρ
    obtain ⟨as0, rfl, h0⟩ := mq_pZ_spec h
    clear h
    obtain ⟨s, as1, rfl, h1⟩ := mq_pI_spec h0
    clear h0
    obtain ⟨w, as2, rfl, h2⟩ := mq_pI_spec h1
    clear h1
    obtain ⟨n, as3, rfl, h3⟩ := mq_pI_spec h2
    clear h2
    obtain ⟨rfl, hp⟩ := mq_p0_spec h3
    clear h3
    rfl
  · intro as ρ μ h
    obtain ⟨nw, sp, tl, tx, al⟩ := ρ
    obtain ⟨as0, rfl, h0⟩ := mq_pZ_spec h
    clear h
    obtain ⟨s, as1, rfl, h1⟩ := mq_pI_spec h0
    clear h0
    obtain ⟨w, as2, rfl, h2⟩ := mq_pI_spec h1
    clear h1
    obtain ⟨n, as3, rfl, h3⟩ := mq_pI_spec h2
    clear h2
    obtain ⟨rfl, hp⟩ := mq_p0_spec h3
    clear h3
    intro hrg
    obtain ⟨⟨ha1a, ha1b⟩, ⟨ha2a, ha2b⟩, ⟨ha3a, ha3b⟩, -⟩ := hrg
    intro hbk
    have e0 : mq_l0 ([.inr (.inr (some (60, 0))), .inl s, .inl w, .inl n] : List mq_V) 5 = [some (.inr (.inr (some (60, 0)))), some (.inl s), some (.inl w), some (.inl n), none] := rfl
    rw [e0]
    repeat' (first | refine And.intro ?_ ?_ | intro _)
    all_goals first | omega | rfl | exact trivial | (simp [mq_up] <;> intros <;> omega) | (simp [mq_up] at * <;> omega)
  · intro as ρ μ h
    obtain ⟨nw, sp, tl, tx, al⟩ := ρ
    obtain ⟨as0, rfl, h0⟩ := mq_pZ_spec h
    clear h
    obtain ⟨s, as1, rfl, h1⟩ := mq_pI_spec h0
    clear h0
    obtain ⟨w, as2, rfl, h2⟩ := mq_pI_spec h1
    clear h1
    obtain ⟨n, as3, rfl, h3⟩ := mq_pI_spec h2
    clear h2
    obtain ⟨rfl, hp⟩ := mq_p0_spec h3
    clear h3
    refine List.forall_mem_cons.mpr ⟨?_, ?_⟩
    · intro l st ρ' μ' cs hJ
      obtain ⟨l0, rfl, hJ0⟩ := mq_tZ_spec hJ
      clear hJ
      obtain ⟨v1, l1, rfl, hJ1⟩ := mq_tI_spec hJ0
      clear hJ0
      obtain ⟨v2, l2, rfl, hJ2⟩ := mq_tI_spec hJ1
      clear hJ1
      obtain ⟨v3, l3, rfl, hJ3⟩ := mq_tI_spec hJ2
      clear hJ2
      obtain ⟨v4, l4, rfl, hJ4⟩ := mq_tI_spec hJ3
      clear hJ3
      obtain ⟨rfl, hJz⟩ := mq_t0_spec hJ4
      clear hJ4
      obtain ⟨rfl, rfl, rfl, hc0, hc1, hc2, hc3, hc4, hc5, hc6, hc7, hc8, hc9, hc10, hc11, hc12, hc13, hm0, hm1⟩ := hJz
      omega
    exact fun _ h => absurd h List.not_mem_nil
  · intro as ρ μ h
    obtain ⟨nw, sp, tl, tx, al⟩ := ρ
    obtain ⟨as0, rfl, h0⟩ := mq_pZ_spec h
    clear h
    obtain ⟨s, as1, rfl, h1⟩ := mq_pI_spec h0
    clear h0
    obtain ⟨w, as2, rfl, h2⟩ := mq_pI_spec h1
    clear h1
    obtain ⟨n, as3, rfl, h3⟩ := mq_pI_spec h2
    clear h2
    obtain ⟨rfl, hp⟩ := mq_p0_spec h3
    clear h3
    intro hrg
    obtain ⟨⟨ha1a, ha1b⟩, ⟨ha2a, ha2b⟩, ⟨ha3a, ha3b⟩, -⟩ := hrg
    refine List.forall_mem_cons.mpr ⟨?_, ?_⟩
    · intro N l st ρ' μ' cs hJ
      obtain ⟨l0, rfl, hJ0⟩ := mq_tZ_spec hJ
      clear hJ
      obtain ⟨v1, l1, rfl, hJ1⟩ := mq_tI_spec hJ0
      clear hJ0
      obtain ⟨v2, l2, rfl, hJ2⟩ := mq_tI_spec hJ1
      clear hJ1
      obtain ⟨v3, l3, rfl, hJ3⟩ := mq_tI_spec hJ2
      clear hJ2
      obtain ⟨v4, l4, rfl, hJ4⟩ := mq_tI_spec hJ3
      clear hJ3
      obtain ⟨rfl, hJz⟩ := mq_t0_spec hJ4
      clear hJ4
      obtain ⟨rfl, rfl, rfl, hc0, hc1, hc2, hc3, hc4, hc5, hc6, hc7, hc8, hc9, hc10, hc11, hc12, hc13, hm0, hm1⟩ := hJz
      intro hbk hrl
      obtain ⟨⟨hl1a, hl1b⟩, ⟨hl2a, hl2b⟩, ⟨hl3a, hl3b⟩, ⟨hl4a, hl4b⟩, -⟩ := hrl
      repeat' (first | refine And.intro ?_ ?_ | intro _)
      all_goals first | omega | rfl | exact trivial | (rename_i x hx; have h9 := hc13 x (by omega); first | exact h9.1 | exact h9.2 | (simp [mq_up]; first | exact h9.1 | exact h9.2)) | (simp [mq_up] at * <;> omega)
    exact fun _ h => absurd h List.not_mem_nil
def pq_m_write : List mq_E := [(0, false, .aload 0), (1, false, .iconst 0), (2, false, .multianewarray 11 0), (5, false, .iload 1), (6, false, .invokestatic 0), (9, false, .ifCond .ne (Int.ofNat 15)), (12, false, .iconst (-2)), (14, false, .ireturn), (15, false, .aload 0), (16, false, .invokeinterface 11 1), (19, false, .iload 1), (20, false, .iaload), (21, false, .iconst (-1)), (22, false, .if_icmp .ne (Int.ofNat 28)), (25, false, .iconst (-6)), (27, false, .ireturn), (28, false, .iload 2), (29, false, .i2l), (30, false, .goto_w 0), (31, false, .aload 0), (32, false, .invokeinterface 11 2), (35, false, .iload 1), (36, false, .iaload), (37, false, .iconst 1), (38, false, .isub), (39, false, .i2l), (40, false, .invokestatic 1), (43, false, .ifCond .ne (Int.ofNat 49)), (46, false, .iconst (-7)), (48, false, .ireturn), (49, false, .aload 0), (50, false, .invokeinterface 11 3), (53, false, .iconst 60), (55, false, .iload 1), (56, false, .imul), (57, false, .iload 2), (58, false, .iadd), (59, false, .lload 3), (60, false, .aload 0), (61, false, .invokeinterface 11 1), (64, false, .iload 1), (65, false, .iaload), (66, false, .invokestatic 2), (69, false, .lastore), (70, false, .iconst 0), (71, false, .ireturn)]
def cq_m_write : mq_C := ((yX11_write, cX11_write, 5, (some .int), { frames := 2, cells := 0, slots := 0, locals := 45 }), (4, 1, 0, 0), 10376293541461622784, (fun as ρ μ => match ρ with
  | (nw, sp, tl, tx, al) => mq_pZ as 60 fun as => mq_pI as fun s as => mq_pI as fun i as => mq_pL as fun v as => mq_p0 as (True)),
  (fun as ρ μ r ρ' μ' => match as, ρ, ρ' with
  | [.inr (.inr (some (_, _))), .inl s, .inl i, .inr (.inl v)], (nw, sp, tl, tx, al), (nw', sp', tl', tx', al') => [(r = -2 ∧ ¬ (0 ≤ s ∧ s ≤ 3)) ∨ (0 ≤ s ∧ s ≤ 3 ∧ ((r = -6 ∧ μ (61, 0) s.toNat = -1) ∨ (¬ μ (61, 0) s.toNat = -1 ∧ ((r = -7 ∧ ¬ (0 ≤ i ∧ i < μ (62, 0) s.toNat)) ∨ (r = 0 ∧ 0 ≤ i ∧ i < μ (62, 0) s.toNat)))))]
  | _, _, _ => []))
def kq_m_write : List mq_V → mq_R → mq_M → List mq_Cu := fun as ρ μ => match as, ρ with
  | [.inr (.inr (some (_, _))), .inl s, .inl i, .inr (.inl v)], (nw, sp, tl, tx, al) => []
  | _, _ => []
set_option maxHeartbeats 16000000 in
set_option maxRecDepth 100000 in
theorem vq_m_write (lc : Launch) (h_m_isSlot : mq_Ct lc cq_m_isSlot) (h_m_in : mq_Ct lc cq_m_in) (h_m_cut : mq_Ct lc cq_m_cut) : mq_Ct lc cq_m_write := by
  refine mq_method (lc := lc) (P := pq_m_write) (cl := [cq_m_isSlot, cq_m_in, cq_m_cut]) (T := ([(120, 11, 0), (7, 11, 1), (13, 11, 2), (16, 11, 3)], [], [], [(129, 0, 1), (125, 1, 1), (133, 2, 1)], [], [])) (fuel := 400) (cuts := kq_m_write) (by decide) rfl ⟨rfl, rfl⟩ (List.forall_mem_cons.mpr ⟨h_m_isSlot, (List.forall_mem_cons.mpr ⟨h_m_in, (List.forall_mem_cons.mpr ⟨h_m_cut, (fun _ h => absurd h List.not_mem_nil)⟩)⟩)⟩) ⟨(List.forall_mem_cons.mpr ⟨⟨_, rfl, by decide, kw_773⟩, (List.forall_mem_cons.mpr ⟨⟨_, rfl, by decide, kw_774⟩, (List.forall_mem_cons.mpr ⟨⟨_, rfl, by decide, kw_775⟩, (List.forall_mem_cons.mpr ⟨⟨_, rfl, by decide, kw_776⟩, (fun _ h => absurd h List.not_mem_nil)⟩)⟩)⟩)⟩), (fun _ h => absurd h List.not_mem_nil), (fun _ h => absurd h List.not_mem_nil), (List.forall_mem_cons.mpr ⟨mq_ml1 rfl mw1_m_isSlot kw_779, (List.forall_mem_cons.mpr ⟨mq_ml1 rfl mw1_m_in kw_772, (List.forall_mem_cons.mpr ⟨mq_ml1 rfl mw1_m_cut kw_782, (fun _ h => absurd h List.not_mem_nil)⟩)⟩)⟩), (fun _ h => absurd h List.not_mem_nil), (fun _ h => absurd h List.not_mem_nil)⟩ (by decide +kernel) ⟨_, _, rfl⟩ ?_ ?_ ?_ ?_
  · intro as ρ μ h
    obtain ⟨nw, sp, tl, tx, al⟩ := ρ
    obtain ⟨as0, rfl, h0⟩ := mq_pZ_spec h
    clear h
    obtain ⟨s, as1, rfl, h1⟩ := mq_pI_spec h0
    clear h0
    obtain ⟨i, as2, rfl, h2⟩ := mq_pI_spec h1
    clear h1
    obtain ⟨v, as3, rfl, h3⟩ := mq_pL_spec h2
    clear h2
    obtain ⟨rfl, hp⟩ := mq_p0_spec h3
    clear h3
    rfl
  · intro as ρ μ h
    obtain ⟨nw, sp, tl, tx, al⟩ := ρ
    obtain ⟨as0, rfl, h0⟩ := mq_pZ_spec h
    clear h
    obtain ⟨s, as1, rfl, h1⟩ := mq_pI_spec h0
    clear h0
    obtain ⟨i, as2, rfl, h2⟩ := mq_pI_spec h1
    clear h1
    obtain ⟨v, as3, rfl, h3⟩ := mq_pL_spec h2
    clear h2
    obtain ⟨rfl, hp⟩ := mq_p0_spec h3
    clear h3
    intro hrg
    obtain ⟨⟨ha1a, ha1b⟩, ⟨ha2a, ha2b⟩, ⟨ha3a, ha3b⟩, -⟩ := hrg
    intro hbk
    have e0 : mq_l0 ([.inr (.inr (some (60, 0))), .inl s, .inl i, .inr (.inl v)] : List mq_V) 5 = [some (.inr (.inr (some (60, 0)))), some (.inl s), some (.inl i), some (.inr (.inl v)), none] := rfl
    rw [e0]
    repeat' (first | refine And.intro ?_ ?_ | intro _)
    all_goals first | omega | rfl | exact trivial | (simp [mq_up] at * <;> omega)
  · intro as ρ μ h
    obtain ⟨nw, sp, tl, tx, al⟩ := ρ
    obtain ⟨as0, rfl, h0⟩ := mq_pZ_spec h
    clear h
    obtain ⟨s, as1, rfl, h1⟩ := mq_pI_spec h0
    clear h0
    obtain ⟨i, as2, rfl, h2⟩ := mq_pI_spec h1
    clear h1
    obtain ⟨v, as3, rfl, h3⟩ := mq_pL_spec h2
    clear h2
    obtain ⟨rfl, hp⟩ := mq_p0_spec h3
    clear h3
    exact fun _ h => absurd h List.not_mem_nil
  · intro as ρ μ h
    obtain ⟨nw, sp, tl, tx, al⟩ := ρ
    obtain ⟨as0, rfl, h0⟩ := mq_pZ_spec h
    clear h
    obtain ⟨s, as1, rfl, h1⟩ := mq_pI_spec h0
    clear h0
    obtain ⟨i, as2, rfl, h2⟩ := mq_pI_spec h1
    clear h1
    obtain ⟨v, as3, rfl, h3⟩ := mq_pL_spec h2
    clear h2
    obtain ⟨rfl, hp⟩ := mq_p0_spec h3
    clear h3
    intro hrg
    obtain ⟨⟨ha1a, ha1b⟩, ⟨ha2a, ha2b⟩, ⟨ha3a, ha3b⟩, -⟩ := hrg
    exact fun _ h => absurd h List.not_mem_nil
def pq_m_paste : List mq_E := [(0, false, .aload 0), (1, false, .iconst 0), (2, false, .multianewarray 11 0), (5, false, .iload 1), (6, false, .invokestatic 0), (9, false, .ifCond .eq (Int.ofNat 19)), (12, false, .iload 3), (13, false, .invokestatic 0), (16, false, .ifCond .ne (Int.ofNat 22)), (19, false, .iconst (-2)), (21, false, .ireturn), (22, false, .aload 0), (23, false, .invokeinterface 11 1), (26, false, .iload 1), (27, false, .iaload), (28, false, .iconst (-1)), (29, false, .if_icmp .eq (Int.ofNat 42)), (32, false, .aload 0), (33, false, .invokeinterface 11 1), (36, false, .iload 3), (37, false, .iaload), (38, false, .iconst (-1)), (39, false, .if_icmp .ne (Int.ofNat 45)), (42, false, .iconst (-6)), (44, false, .ireturn), (45, false, .aload 0), (46, false, .invokeinterface 11 1), (49, false, .iload 1), (50, false, .iaload), (51, false, .aload 0), (52, false, .invokeinterface 11 1), (55, false, .iload 3), (56, false, .iaload), (57, false, .if_icmp .eq (Int.ofNat 63)), (60, false, .iconst (-8)), (62, false, .ireturn), (63, false, .iload 2), (64, false, .ifCond .lt (Int.ofNat 112)), (67, false, .iload 4), (69, false, .ifCond .lt (Int.ofNat 112)), (72, false, .iload 5), (74, false, .ifCond .lt (Int.ofNat 112)), (77, false, .iload 2), (78, false, .i2l), (79, false, .iload 5), (81, false, .i2l), (82, false, .ladd), (83, false, .aload 0), (84, false, .invokeinterface 11 2), (87, false, .iload 1), (88, false, .iaload), (89, false, .i2l), (90, false, .lcmp), (91, false, .ifCond .gt (Int.ofNat 112)), (94, false, .iload 4), (96, false, .i2l), (97, false, .iload 5), (99, false, .i2l), (100, false, .ladd), (101, false, .aload 0), (102, false, .invokeinterface 11 2), (105, false, .iload 3), (106, false, .iaload), (107, false, .i2l), (108, false, .lcmp), (109, false, .ifCond .le (Int.ofNat 115)), (112, false, .iconst (-7)), (114, false, .ireturn), (115, false, .iconst 0), (116, false, .istore 6), (118, true, .iload 6), (120, false, .iload 5), (122, false, .if_icmp .ge (Int.ofNat 152)), (125, false, .aload 0), (126, false, .invokeinterface 11 4), (129, false, .iload 6), (131, false, .aload 0), (132, false, .invokeinterface 11 3), (135, false, .iconst 60), (137, false, .iload 1), (138, false, .imul), (139, false, .iload 2), (140, false, .iadd), (141, false, .iload 6), (143, false, .iadd), (144, false, .laload), (145, false, .lastore), (146, false, .iinc 6 1), (149, false, .goto (Int.ofNat 118)), (152, false, .iconst 0), (153, false, .istore 6), (155, true, .iload 6), (157, false, .iload 5), (159, false, .if_icmp .ge (Int.ofNat 190)), (162, false, .aload 0), (163, false, .invokeinterface 11 3), (166, false, .iconst 60), (168, false, .iload 3), (169, false, .imul), (170, false, .iload 4), (172, false, .iadd), (173, false, .iload 6), (175, false, .iadd), (176, false, .aload 0), (177, false, .invokeinterface 11 4), (180, false, .iload 6), (182, false, .laload), (183, false, .lastore), (184, false, .iinc 6 1), (187, false, .goto (Int.ofNat 155)), (190, false, .iconst 0), (191, false, .ireturn)]
def cq_m_paste : mq_C := ((yX11_paste, cX11_paste, 7, (some .int), { frames := 2, cells := 0, slots := 0, locals := 45 }), (6, 1, 0, 0), 28823037615171174400, (fun as ρ μ => match ρ with
  | (nw, sp, tl, tx, al) => mq_pZ as 60 fun as => mq_pI as fun s as => mq_pI as fun i as => mq_pI as fun t as => mq_pI as fun k as => mq_pI as fun n as => mq_p0 as (True)),
  (fun as ρ μ r ρ' μ' => match as, ρ, ρ' with
  | [.inr (.inr (some (_, _))), .inl s, .inl i, .inl t, .inl k, .inl n], (nw, sp, tl, tx, al), (nw', sp', tl', tx', al') => [(r = -2 ∧ ¬ (0 ≤ s ∧ s ≤ 3 ∧ 0 ≤ t ∧ t ≤ 3)) ∨ (0 ≤ s ∧ s ≤ 3 ∧ 0 ≤ t ∧ t ≤ 3 ∧ ((r = -6 ∧ (μ (61, 0) s.toNat = -1 ∨ μ (61, 0) t.toNat = -1)) ∨ (¬ μ (61, 0) s.toNat = -1 ∧ ¬ μ (61, 0) t.toNat = -1 ∧ ((r = -8 ∧ ¬ μ (61, 0) s.toNat = μ (61, 0) t.toNat) ∨ (μ (61, 0) s.toNat = μ (61, 0) t.toNat ∧ ((r = -7 ∧ ¬ (0 ≤ i ∧ 0 ≤ n ∧ i + n ≤ μ (62, 0) s.toNat ∧ 0 ≤ k ∧ k + n ≤ μ (62, 0) t.toNat)) ∨ (r = 0 ∧ 0 ≤ i ∧ 0 ≤ n ∧ i + n ≤ μ (62, 0) s.toNat ∧ 0 ≤ k ∧ k + n ≤ μ (62, 0) t.toNat)))))))]
  | _, _, _ => []))
def kq_m_paste : List mq_V → mq_R → mq_M → List mq_Cu := fun as ρ μ => match as, ρ with
  | [.inr (.inr (some (_, _))), .inl s, .inl i, .inl t, .inl k, .inl n], (nw, sp, tl, tx, al) => [(118, [true, true, true, true, true, true, true], fun N l st ρ' μ' cs => mq_tZ l 60 fun l => mq_tI l fun v1 l => mq_tI l fun v2 l => mq_tI l fun v3 l => mq_tI l fun v4 l => mq_tI l fun v5 l => mq_tI l fun v6 l => mq_t0 l (st = [] ∧ ρ' = (nw, sp, tl, tx, al) ∧ cs = 0 ∧ v1 = s ∧ v2 = i ∧ v3 = t ∧ v4 = k ∧ v5 = n ∧ 0 ≤ s ∧ s ≤ 3 ∧ 0 ≤ t ∧ t ≤ 3 ∧ ¬ μ (61, 0) s.toNat = -1 ∧ ¬ μ (61, 0) t.toNat = -1 ∧ μ (61, 0) s.toNat = μ (61, 0) t.toNat ∧ 0 ≤ i ∧ 0 ≤ n ∧ i + n ≤ μ (62, 0) s.toNat ∧ 0 ≤ k ∧ k + n ≤ μ (62, 0) t.toNat ∧ i + n ≤ 60 ∧ k + n ≤ 60 ∧ 0 ≤ v6 ∧ v6 ≤ n ∧ 0 ≤ (100 + 60 - v6 : Int) ∧ (100 + 60 - v6 : Int) < (N : Int))),
    (155, [true, true, true, true, true, true, true], fun N l st ρ' μ' cs => mq_tZ l 60 fun l => mq_tI l fun v1 l => mq_tI l fun v2 l => mq_tI l fun v3 l => mq_tI l fun v4 l => mq_tI l fun v5 l => mq_tI l fun v6 l => mq_t0 l (st = [] ∧ ρ' = (nw, sp, tl, tx, al) ∧ cs = 0 ∧ v1 = s ∧ v2 = i ∧ v3 = t ∧ v4 = k ∧ v5 = n ∧ 0 ≤ s ∧ s ≤ 3 ∧ 0 ≤ t ∧ t ≤ 3 ∧ ¬ μ (61, 0) s.toNat = -1 ∧ ¬ μ (61, 0) t.toNat = -1 ∧ μ (61, 0) s.toNat = μ (61, 0) t.toNat ∧ 0 ≤ i ∧ 0 ≤ n ∧ i + n ≤ μ (62, 0) s.toNat ∧ 0 ≤ k ∧ k + n ≤ μ (62, 0) t.toNat ∧ i + n ≤ 60 ∧ k + n ≤ 60 ∧ 0 ≤ v6 ∧ v6 ≤ n ∧ 0 ≤ (60 - v6 : Int) ∧ (60 - v6 : Int) < (N : Int)))]
  | _, _ => []
set_option maxHeartbeats 16000000 in
set_option maxRecDepth 100000 in
theorem vq_m_paste (lc : Launch) (h_m_isSlot : mq_Ct lc cq_m_isSlot) : mq_Ct lc cq_m_paste := by
  refine mq_method (lc := lc) (P := pq_m_paste) (cl := [cq_m_isSlot]) (T := ([(120, 11, 0), (7, 11, 1), (13, 11, 2), (20, 11, 4), (16, 11, 3)], [], [], [(129, 0, 1)], [], [])) (fuel := 400) (cuts := kq_m_paste) (by decide) rfl ⟨rfl, rfl⟩ (List.forall_mem_cons.mpr ⟨h_m_isSlot, (fun _ h => absurd h List.not_mem_nil)⟩) ⟨(List.forall_mem_cons.mpr ⟨⟨_, rfl, by decide, kw_773⟩, (List.forall_mem_cons.mpr ⟨⟨_, rfl, by decide, kw_774⟩, (List.forall_mem_cons.mpr ⟨⟨_, rfl, by decide, kw_775⟩, (List.forall_mem_cons.mpr ⟨⟨_, rfl, by decide, kw_783⟩, (List.forall_mem_cons.mpr ⟨⟨_, rfl, by decide, kw_776⟩, (fun _ h => absurd h List.not_mem_nil)⟩)⟩)⟩)⟩)⟩), (fun _ h => absurd h List.not_mem_nil), (fun _ h => absurd h List.not_mem_nil), (List.forall_mem_cons.mpr ⟨mq_ml1 rfl mw1_m_isSlot kw_779, (fun _ h => absurd h List.not_mem_nil)⟩), (fun _ h => absurd h List.not_mem_nil), (fun _ h => absurd h List.not_mem_nil)⟩ (by decide +kernel) ⟨_, _, rfl⟩ ?_ ?_ ?_ ?_
  · intro as ρ μ h
    obtain ⟨nw, sp, tl, tx, al⟩ := ρ
    obtain ⟨as0, rfl, h0⟩ := mq_pZ_spec h
    clear h
    obtain ⟨s, as1, rfl, h1⟩ := mq_pI_spec h0
    clear h0
    obtain ⟨i, as2, rfl, h2⟩ := mq_pI_spec h1
    clear h1
    obtain ⟨t, as3, rfl, h3⟩ := mq_pI_spec h2
    clear h2
    obtain ⟨k, as4, rfl, h4⟩ := mq_pI_spec h3
    clear h3
    obtain ⟨n, as5, rfl, h5⟩ := mq_pI_spec h4
    clear h4
    obtain ⟨rfl, hp⟩ := mq_p0_spec h5
    clear h5
    rfl
  · intro as ρ μ h
    obtain ⟨nw, sp, tl, tx, al⟩ := ρ
    obtain ⟨as0, rfl, h0⟩ := mq_pZ_spec h
    clear h
    obtain ⟨s, as1, rfl, h1⟩ := mq_pI_spec h0
    clear h0
    obtain ⟨i, as2, rfl, h2⟩ := mq_pI_spec h1
    clear h1
    obtain ⟨t, as3, rfl, h3⟩ := mq_pI_spec h2
    clear h2
    obtain ⟨k, as4, rfl, h4⟩ := mq_pI_spec h3
    clear h3
    obtain ⟨n, as5, rfl, h5⟩ := mq_pI_spec h4
    clear h4
    obtain ⟨rfl, hp⟩ := mq_p0_spec h5
    clear h5
    intro hrg
    obtain ⟨⟨ha1a, ha1b⟩, ⟨ha2a, ha2b⟩, ⟨ha3a, ha3b⟩, ⟨ha4a, ha4b⟩, ⟨ha5a, ha5b⟩, -⟩ := hrg
    intro hbk
    have e0 : mq_l0 ([.inr (.inr (some (60, 0))), .inl s, .inl i, .inl t, .inl k, .inl n] : List mq_V) 7 = [some (.inr (.inr (some (60, 0)))), some (.inl s), some (.inl i), some (.inl t), some (.inl k), some (.inl n), none] := rfl
    rw [e0]
    repeat' (first | refine And.intro ?_ ?_ | intro _)
    all_goals first | omega | rfl | exact trivial | (simp [mq_up] at * <;> omega)
  · intro as ρ μ h
    obtain ⟨nw, sp, tl, tx, al⟩ := ρ
    obtain ⟨as0, rfl, h0⟩ := mq_pZ_spec h
    clear h
    obtain ⟨s, as1, rfl, h1⟩ := mq_pI_spec h0
    clear h0
    obtain ⟨i, as2, rfl, h2⟩ := mq_pI_spec h1
    clear h1
    obtain ⟨t, as3, rfl, h3⟩ := mq_pI_spec h2
    clear h2
    obtain ⟨k, as4, rfl, h4⟩ := mq_pI_spec h3
    clear h3
    obtain ⟨n, as5, rfl, h5⟩ := mq_pI_spec h4
    clear h4
    obtain ⟨rfl, hp⟩ := mq_p0_spec h5
    clear h5
    refine List.forall_mem_cons.mpr ⟨?_, ?_⟩
    · intro l st ρ' μ' cs hJ
      obtain ⟨l0, rfl, hJ0⟩ := mq_tZ_spec hJ
      clear hJ
      obtain ⟨v1, l1, rfl, hJ1⟩ := mq_tI_spec hJ0
      clear hJ0
      obtain ⟨v2, l2, rfl, hJ2⟩ := mq_tI_spec hJ1
      clear hJ1
      obtain ⟨v3, l3, rfl, hJ3⟩ := mq_tI_spec hJ2
      clear hJ2
      obtain ⟨v4, l4, rfl, hJ4⟩ := mq_tI_spec hJ3
      clear hJ3
      obtain ⟨v5, l5, rfl, hJ5⟩ := mq_tI_spec hJ4
      clear hJ4
      obtain ⟨v6, l6, rfl, hJ6⟩ := mq_tI_spec hJ5
      clear hJ5
      obtain ⟨rfl, hJz⟩ := mq_t0_spec hJ6
      clear hJ6
      obtain ⟨rfl, rfl, rfl, hc0, hc1, hc2, hc3, hc4, hc5, hc6, hc7, hc8, hc9, hc10, hc11, hc12, hc13, hc14, hc15, hc16, hc17, hc18, hc19, hc20, hm0, hm1⟩ := hJz
      omega
    refine List.forall_mem_cons.mpr ⟨?_, ?_⟩
    · intro l st ρ' μ' cs hJ
      obtain ⟨l0, rfl, hJ0⟩ := mq_tZ_spec hJ
      clear hJ
      obtain ⟨v1, l1, rfl, hJ1⟩ := mq_tI_spec hJ0
      clear hJ0
      obtain ⟨v2, l2, rfl, hJ2⟩ := mq_tI_spec hJ1
      clear hJ1
      obtain ⟨v3, l3, rfl, hJ3⟩ := mq_tI_spec hJ2
      clear hJ2
      obtain ⟨v4, l4, rfl, hJ4⟩ := mq_tI_spec hJ3
      clear hJ3
      obtain ⟨v5, l5, rfl, hJ5⟩ := mq_tI_spec hJ4
      clear hJ4
      obtain ⟨v6, l6, rfl, hJ6⟩ := mq_tI_spec hJ5
      clear hJ5
      obtain ⟨rfl, hJz⟩ := mq_t0_spec hJ6
      clear hJ6
      obtain ⟨rfl, rfl, rfl, hc0, hc1, hc2, hc3, hc4, hc5, hc6, hc7, hc8, hc9, hc10, hc11, hc12, hc13, hc14, hc15, hc16, hc17, hc18, hc19, hc20, hm0, hm1⟩ := hJz
      omega
    exact fun _ h => absurd h List.not_mem_nil
  · intro as ρ μ h
    obtain ⟨nw, sp, tl, tx, al⟩ := ρ
    obtain ⟨as0, rfl, h0⟩ := mq_pZ_spec h
    clear h
    obtain ⟨s, as1, rfl, h1⟩ := mq_pI_spec h0
    clear h0
    obtain ⟨i, as2, rfl, h2⟩ := mq_pI_spec h1
    clear h1
    obtain ⟨t, as3, rfl, h3⟩ := mq_pI_spec h2
    clear h2
    obtain ⟨k, as4, rfl, h4⟩ := mq_pI_spec h3
    clear h3
    obtain ⟨n, as5, rfl, h5⟩ := mq_pI_spec h4
    clear h4
    obtain ⟨rfl, hp⟩ := mq_p0_spec h5
    clear h5
    intro hrg
    obtain ⟨⟨ha1a, ha1b⟩, ⟨ha2a, ha2b⟩, ⟨ha3a, ha3b⟩, ⟨ha4a, ha4b⟩, ⟨ha5a, ha5b⟩, -⟩ := hrg
    refine List.forall_mem_cons.mpr ⟨?_, ?_⟩
    · intro N l st ρ' μ' cs hJ
      obtain ⟨l0, rfl, hJ0⟩ := mq_tZ_spec hJ
      clear hJ
      obtain ⟨v1, l1, rfl, hJ1⟩ := mq_tI_spec hJ0
      clear hJ0
      obtain ⟨v2, l2, rfl, hJ2⟩ := mq_tI_spec hJ1
      clear hJ1
      obtain ⟨v3, l3, rfl, hJ3⟩ := mq_tI_spec hJ2
      clear hJ2
      obtain ⟨v4, l4, rfl, hJ4⟩ := mq_tI_spec hJ3
      clear hJ3
      obtain ⟨v5, l5, rfl, hJ5⟩ := mq_tI_spec hJ4
      clear hJ4
      obtain ⟨v6, l6, rfl, hJ6⟩ := mq_tI_spec hJ5
      clear hJ5
      obtain ⟨rfl, hJz⟩ := mq_t0_spec hJ6
      clear hJ6
      obtain ⟨rfl, rfl, rfl, hc0, hc1, hc2, hc3, hc4, hc5, hc6, hc7, hc8, hc9, hc10, hc11, hc12, hc13, hc14, hc15, hc16, hc17, hc18, hc19, hc20, hm0, hm1⟩ := hJz
      intro hbk hrl
      obtain ⟨⟨hl1a, hl1b⟩, ⟨hl2a, hl2b⟩, ⟨hl3a, hl3b⟩, ⟨hl4a, hl4b⟩, ⟨hl5a, hl5b⟩, ⟨hl6a, hl6b⟩, -⟩ := hrl
      repeat' (first | refine And.intro ?_ ?_ | intro _)
      all_goals first | omega | rfl | exact trivial | (simp [mq_up] at * <;> omega)
    refine List.forall_mem_cons.mpr ⟨?_, ?_⟩
    · intro N l st ρ' μ' cs hJ
      obtain ⟨l0, rfl, hJ0⟩ := mq_tZ_spec hJ
      clear hJ
      obtain ⟨v1, l1, rfl, hJ1⟩ := mq_tI_spec hJ0
      clear hJ0
      obtain ⟨v2, l2, rfl, hJ2⟩ := mq_tI_spec hJ1
      clear hJ1
      obtain ⟨v3, l3, rfl, hJ3⟩ := mq_tI_spec hJ2
      clear hJ2
      obtain ⟨v4, l4, rfl, hJ4⟩ := mq_tI_spec hJ3
      clear hJ3
      obtain ⟨v5, l5, rfl, hJ5⟩ := mq_tI_spec hJ4
      clear hJ4
      obtain ⟨v6, l6, rfl, hJ6⟩ := mq_tI_spec hJ5
      clear hJ5
      obtain ⟨rfl, hJz⟩ := mq_t0_spec hJ6
      clear hJ6
      obtain ⟨rfl, rfl, rfl, hc0, hc1, hc2, hc3, hc4, hc5, hc6, hc7, hc8, hc9, hc10, hc11, hc12, hc13, hc14, hc15, hc16, hc17, hc18, hc19, hc20, hm0, hm1⟩ := hJz
      intro hbk hrl
      obtain ⟨⟨hl1a, hl1b⟩, ⟨hl2a, hl2b⟩, ⟨hl3a, hl3b⟩, ⟨hl4a, hl4b⟩, ⟨hl5a, hl5b⟩, ⟨hl6a, hl6b⟩, -⟩ := hrl
      repeat' (first | refine And.intro ?_ ?_ | intro _)
      all_goals first | omega | rfl | exact trivial | (simp [mq_up] at * <;> omega)
    exact fun _ h => absurd h List.not_mem_nil
def pq_m_four : List mq_E := [(0, false, .iconst 24), (2, false, .istore 2), (3, true, .iload 2), (4, false, .ifCond .lt (Int.ofNat 36)), (7, false, .aload 0), (8, false, .invokeinterface 11 5), (11, false, .aload 0), (12, false, .invokeinterface 11 6), (15, false, .iload 1), (16, false, .iload 2), (17, false, .ishr), (18, false, .i2b), (19, false, .bastore), (20, false, .aload 0), (21, false, .dup), (22, false, .invokeinterface 11 6), (25, false, .iconst 1), (26, false, .iadd), (27, false, .multianewarray 11 6), (30, false, .iinc 2 (-8)), (33, false, .goto (Int.ofNat 3)), (36, false, .return_)]
def cq_m_four : mq_C := ((yX11_four, cX11_four, 3, none, { frames := 0, cells := 0, slots := 0, locals := 0 }), (2, 0, 0, 0), 38046409652025950208, (fun as ρ μ => match ρ with
  | (nw, sp, tl, tx, al) => mq_pZ as 60 fun as => mq_pI as fun v as => mq_p0 as (μ (60, 0) 6 + 4 ≤ 1600 ∧ 0 ≤ μ (60, 0) 6)),
  (fun as ρ μ r ρ' μ' => match as, ρ, ρ' with
  | [.inr (.inr (some (_, _))), .inl v], (nw, sp, tl, tx, al), (nw', sp', tl', tx', al') => [μ' (60, 0) 6 = μ (60, 0) 6 + 4]
  | _, _, _ => []))
def kq_m_four : List mq_V → mq_R → mq_M → List mq_Cu := fun as ρ μ => match as, ρ with
  | [.inr (.inr (some (_, _))), .inl v], (nw, sp, tl, tx, al) => [(3, [true, true, true], fun N l st ρ' μ' cs => mq_tZ l 60 fun l => mq_tI l fun v1 l => mq_tI l fun v2 l => mq_t0 l (st = [] ∧ ρ' = (nw, sp, tl, tx, al) ∧ cs = 0 ∧ v1 = v ∧ -8 ≤ v2 ∧ v2 ≤ 24 ∧ v2 % 8 = 0 ∧ 8 * μ' (60, 0) 6 = 8 * μ (60, 0) 6 + 24 - v2 ∧ 0 ≤ (v2 + 8 : Int) ∧ (v2 + 8 : Int) < (N : Int)))]
  | _, _ => []
set_option maxHeartbeats 16000000 in
set_option maxRecDepth 100000 in
theorem vq_m_four (lc : Launch)  : mq_Ct lc cq_m_four := by
  refine mq_method (lc := lc) (P := pq_m_four) (cl := []) (T := ([(23, 11, 5), (137, 11, 6)], [], [], [], [], [])) (fuel := 400) (cuts := kq_m_four) (by decide) rfl ⟨rfl, rfl⟩ (fun _ h => absurd h List.not_mem_nil) ⟨(List.forall_mem_cons.mpr ⟨⟨_, rfl, by decide, kw_784⟩, (List.forall_mem_cons.mpr ⟨⟨_, rfl, by decide, kw_785⟩, (fun _ h => absurd h List.not_mem_nil)⟩)⟩), (fun _ h => absurd h List.not_mem_nil), (fun _ h => absurd h List.not_mem_nil), (fun _ h => absurd h List.not_mem_nil), (fun _ h => absurd h List.not_mem_nil), (fun _ h => absurd h List.not_mem_nil)⟩ (by decide +kernel) ⟨_, _, rfl⟩ ?_ ?_ ?_ ?_
  · intro as ρ μ h
    obtain ⟨nw, sp, tl, tx, al⟩ := ρ
    obtain ⟨as0, rfl, h0⟩ := mq_pZ_spec h
    clear h
    obtain ⟨v, as1, rfl, h1⟩ := mq_pI_spec h0
    clear h0
    obtain ⟨rfl, hp⟩ := mq_p0_spec h1
    clear h1
    obtain ⟨hp0, hp1⟩ := hp
    rfl
  · intro as ρ μ h
    obtain ⟨nw, sp, tl, tx, al⟩ := ρ
    obtain ⟨as0, rfl, h0⟩ := mq_pZ_spec h
    clear h
    obtain ⟨v, as1, rfl, h1⟩ := mq_pI_spec h0
    clear h0
    obtain ⟨rfl, hp⟩ := mq_p0_spec h1
    clear h1
    obtain ⟨hp0, hp1⟩ := hp
    intro hrg
    obtain ⟨⟨ha1a, ha1b⟩, -⟩ := hrg
    intro hbk
    have e0 : mq_l0 ([.inr (.inr (some (60, 0))), .inl v] : List mq_V) 3 = [some (.inr (.inr (some (60, 0)))), some (.inl v), none] := rfl
    rw [e0]
    repeat' (first | refine And.intro ?_ ?_ | intro _)
    all_goals first | omega | rfl | exact trivial | (simp [mq_up] at * <;> omega)
  · intro as ρ μ h
    obtain ⟨nw, sp, tl, tx, al⟩ := ρ
    obtain ⟨as0, rfl, h0⟩ := mq_pZ_spec h
    clear h
    obtain ⟨v, as1, rfl, h1⟩ := mq_pI_spec h0
    clear h0
    obtain ⟨rfl, hp⟩ := mq_p0_spec h1
    clear h1
    obtain ⟨hp0, hp1⟩ := hp
    refine List.forall_mem_cons.mpr ⟨?_, ?_⟩
    · intro l st ρ' μ' cs hJ
      obtain ⟨l0, rfl, hJ0⟩ := mq_tZ_spec hJ
      clear hJ
      obtain ⟨v1, l1, rfl, hJ1⟩ := mq_tI_spec hJ0
      clear hJ0
      obtain ⟨v2, l2, rfl, hJ2⟩ := mq_tI_spec hJ1
      clear hJ1
      obtain ⟨rfl, hJz⟩ := mq_t0_spec hJ2
      clear hJ2
      obtain ⟨rfl, rfl, rfl, hc0, hc1, hc2, hc3, hc4, hm0, hm1⟩ := hJz
      omega
    exact fun _ h => absurd h List.not_mem_nil
  · intro as ρ μ h
    obtain ⟨nw, sp, tl, tx, al⟩ := ρ
    obtain ⟨as0, rfl, h0⟩ := mq_pZ_spec h
    clear h
    obtain ⟨v, as1, rfl, h1⟩ := mq_pI_spec h0
    clear h0
    obtain ⟨rfl, hp⟩ := mq_p0_spec h1
    clear h1
    obtain ⟨hp0, hp1⟩ := hp
    intro hrg
    obtain ⟨⟨ha1a, ha1b⟩, -⟩ := hrg
    refine List.forall_mem_cons.mpr ⟨?_, ?_⟩
    · intro N l st ρ' μ' cs hJ
      obtain ⟨l0, rfl, hJ0⟩ := mq_tZ_spec hJ
      clear hJ
      obtain ⟨v1, l1, rfl, hJ1⟩ := mq_tI_spec hJ0
      clear hJ0
      obtain ⟨v2, l2, rfl, hJ2⟩ := mq_tI_spec hJ1
      clear hJ1
      obtain ⟨rfl, hJz⟩ := mq_t0_spec hJ2
      clear hJ2
      obtain ⟨rfl, rfl, rfl, hc0, hc1, hc2, hc3, hc4, hm0, hm1⟩ := hJz
      intro hbk hrl
      obtain ⟨⟨hl1a, hl1b⟩, ⟨hl2a, hl2b⟩, -⟩ := hrl
      repeat' (first | refine And.intro ?_ ?_ | intro _)
      all_goals first | omega | rfl | exact trivial | (simp [mq_up] at * <;> omega)
    exact fun _ h => absurd h List.not_mem_nil
theorem mw0_m_four : mq_mlA cq_m_four 0 := ⟨kw_786, ⟨by decide +kernel, by decide +kernel⟩, by decide +kernel, kw_787, kw_788, kw_771, 60, by decide +kernel, fun as ρ μ h => by obtain ⟨nw, sp, tl, tx, al⟩ := ρ; obtain ⟨t, e, _⟩ := mq_pZ_spec h; exact ⟨0, t, e⟩⟩
def pq_m_feed : List mq_E := [(0, false, .aload 0), (1, false, .iconst 0), (2, false, .multianewarray 11 0), (5, false, .aload 0), (6, false, .invokeinterface 11 6), (9, false, .iconst 20), (11, false, .iadd), (12, false, .iconst 1600), (15, false, .if_icmp .le (Int.ofNat 20)), (18, false, .iconst (-1)), (19, false, .ireturn), (20, false, .aload 0), (21, false, .iload 1), (22, false, .invokestatic 0), (25, false, .aload 0), (26, false, .iload 2), (27, false, .invokestatic 0), (30, false, .aload 0), (31, false, .iload 3), (32, false, .invokestatic 0), (35, false, .aload 0), (36, false, .iload 4), (38, false, .invokestatic 0), (41, false, .aload 0), (42, false, .iload 5), (44, false, .invokestatic 0), (47, false, .aload 0), (48, false, .invokeinterface 11 6), (51, false, .ireturn)]
def cq_m_feed : mq_C := ((yX11_feed, cX11_feed, 6, (some .int), { frames := 1, cells := 0, slots := 0, locals := 22 }), (6, 1, 0, 0), 38046409652025950208, (fun as ρ μ => match ρ with
  | (nw, sp, tl, tx, al) => mq_pZ as 60 fun as => mq_pI as fun a as => mq_pI as fun b as => mq_pI as fun c as => mq_pI as fun d as => mq_pI as fun e as => mq_p0 as (True)),
  (fun as ρ μ r ρ' μ' => match as, ρ, ρ' with
  | [.inr (.inr (some (_, _))), .inl a, .inl b, .inl c, .inl d, .inl e], (nw, sp, tl, tx, al), (nw', sp', tl', tx', al') => []
  | _, _, _ => []))
def kq_m_feed : List mq_V → mq_R → mq_M → List mq_Cu := fun as ρ μ => match as, ρ with
  | [.inr (.inr (some (_, _))), .inl a, .inl b, .inl c, .inl d, .inl e], (nw, sp, tl, tx, al) => []
  | _, _ => []
set_option maxHeartbeats 16000000 in
set_option maxRecDepth 100000 in
theorem vq_m_feed (lc : Launch) (h_m_four : mq_Ct lc cq_m_four) : mq_Ct lc cq_m_feed := by
  refine mq_method (lc := lc) (P := pq_m_feed) (cl := [cq_m_four]) (T := ([(120, 11, 0), (137, 11, 6)], [], [], [(140, 0, 0)], [], [])) (fuel := 400) (cuts := kq_m_feed) (by decide) rfl ⟨rfl, rfl⟩ (List.forall_mem_cons.mpr ⟨h_m_four, (fun _ h => absurd h List.not_mem_nil)⟩) ⟨(List.forall_mem_cons.mpr ⟨⟨_, rfl, by decide, kw_773⟩, (List.forall_mem_cons.mpr ⟨⟨_, rfl, by decide, kw_785⟩, (fun _ h => absurd h List.not_mem_nil)⟩)⟩), (fun _ h => absurd h List.not_mem_nil), (fun _ h => absurd h List.not_mem_nil), (List.forall_mem_cons.mpr ⟨mq_ml0 rfl mw0_m_four kw_789, (fun _ h => absurd h List.not_mem_nil)⟩), (fun _ h => absurd h List.not_mem_nil), (fun _ h => absurd h List.not_mem_nil)⟩ (by decide +kernel) ⟨_, _, rfl⟩ ?_ ?_ ?_ ?_
  · intro as ρ μ h
    obtain ⟨nw, sp, tl, tx, al⟩ := ρ
    obtain ⟨as0, rfl, h0⟩ := mq_pZ_spec h
    clear h
    obtain ⟨a, as1, rfl, h1⟩ := mq_pI_spec h0
    clear h0
    obtain ⟨b, as2, rfl, h2⟩ := mq_pI_spec h1
    clear h1
    obtain ⟨c, as3, rfl, h3⟩ := mq_pI_spec h2
    clear h2
    obtain ⟨d, as4, rfl, h4⟩ := mq_pI_spec h3
    clear h3
    obtain ⟨e, as5, rfl, h5⟩ := mq_pI_spec h4
    clear h4
    obtain ⟨rfl, hp⟩ := mq_p0_spec h5
    clear h5
    rfl
  · intro as ρ μ h
    obtain ⟨nw, sp, tl, tx, al⟩ := ρ
    obtain ⟨as0, rfl, h0⟩ := mq_pZ_spec h
    clear h
    obtain ⟨a, as1, rfl, h1⟩ := mq_pI_spec h0
    clear h0
    obtain ⟨b, as2, rfl, h2⟩ := mq_pI_spec h1
    clear h1
    obtain ⟨c, as3, rfl, h3⟩ := mq_pI_spec h2
    clear h2
    obtain ⟨d, as4, rfl, h4⟩ := mq_pI_spec h3
    clear h3
    obtain ⟨e, as5, rfl, h5⟩ := mq_pI_spec h4
    clear h4
    obtain ⟨rfl, hp⟩ := mq_p0_spec h5
    clear h5
    intro hrg
    obtain ⟨⟨ha1a, ha1b⟩, ⟨ha2a, ha2b⟩, ⟨ha3a, ha3b⟩, ⟨ha4a, ha4b⟩, ⟨ha5a, ha5b⟩, -⟩ := hrg
    intro hbk
    have hk0 : 0 ≤ μ (60, 0) 6 ∧ μ (60, 0) 6 ≤ 1600 := hbk (60, 0) 6
    have e0 : mq_l0 ([.inr (.inr (some (60, 0))), .inl a, .inl b, .inl c, .inl d, .inl e] : List mq_V) 6 = [some (.inr (.inr (some (60, 0)))), some (.inl a), some (.inl b), some (.inl c), some (.inl d), some (.inl e)] := rfl
    rw [e0]
    repeat' (first | refine And.intro ?_ ?_ | intro _)
    all_goals first | omega | rfl | exact trivial | (simp [mq_up] at * <;> omega)
  · intro as ρ μ h
    obtain ⟨nw, sp, tl, tx, al⟩ := ρ
    obtain ⟨as0, rfl, h0⟩ := mq_pZ_spec h
    clear h
    obtain ⟨a, as1, rfl, h1⟩ := mq_pI_spec h0
    clear h0
    obtain ⟨b, as2, rfl, h2⟩ := mq_pI_spec h1
    clear h1
    obtain ⟨c, as3, rfl, h3⟩ := mq_pI_spec h2
    clear h2
    obtain ⟨d, as4, rfl, h4⟩ := mq_pI_spec h3
    clear h3
    obtain ⟨e, as5, rfl, h5⟩ := mq_pI_spec h4
    clear h4
    obtain ⟨rfl, hp⟩ := mq_p0_spec h5
    clear h5
    exact fun _ h => absurd h List.not_mem_nil
  · intro as ρ μ h
    obtain ⟨nw, sp, tl, tx, al⟩ := ρ
    obtain ⟨as0, rfl, h0⟩ := mq_pZ_spec h
    clear h
    obtain ⟨a, as1, rfl, h1⟩ := mq_pI_spec h0
    clear h0
    obtain ⟨b, as2, rfl, h2⟩ := mq_pI_spec h1
    clear h1
    obtain ⟨c, as3, rfl, h3⟩ := mq_pI_spec h2
    clear h2
    obtain ⟨d, as4, rfl, h4⟩ := mq_pI_spec h3
    clear h3
    obtain ⟨e, as5, rfl, h5⟩ := mq_pI_spec h4
    clear h4
    obtain ⟨rfl, hp⟩ := mq_p0_spec h5
    clear h5
    intro hrg
    obtain ⟨⟨ha1a, ha1b⟩, ⟨ha2a, ha2b⟩, ⟨ha3a, ha3b⟩, ⟨ha4a, ha4b⟩, ⟨ha5a, ha5b⟩, -⟩ := hrg
    exact fun _ h => absurd h List.not_mem_nil
def pq_m_end : List mq_E := [(0, false, .aload 0), (1, false, .iconst 0), (2, false, .multianewarray 11 0), (5, false, .iload 1), (6, false, .i2l), (7, false, .goto_w 0), (8, false, .aload 0), (9, false, .invokeinterface 11 6), (12, false, .i2l), (13, false, .invokestatic 0), (16, false, .ifCond .ne (Int.ofNat 21)), (19, false, .iconst (-1)), (20, false, .ireturn), (21, false, .aload 0), (22, false, .iload 1), (23, false, .multianewarray 11 6), (26, false, .iload 1), (27, false, .ireturn)]
def cq_m_end : mq_C := ((yX11_end, cX11_end, 2, (some .int), { frames := 1, cells := 0, slots := 0, locals := 25 }), (2, 1, 0, 0), 1152921504606846976, (fun as ρ μ => match ρ with
  | (nw, sp, tl, tx, al) => mq_pZ as 60 fun as => mq_pI as fun n as => mq_p0 as (True)),
  (fun as ρ μ r ρ' μ' => match as, ρ, ρ' with
  | [.inr (.inr (some (_, _))), .inl n], (nw, sp, tl, tx, al), (nw', sp', tl', tx', al') => []
  | _, _, _ => []))
def kq_m_end : List mq_V → mq_R → mq_M → List mq_Cu := fun as ρ μ => match as, ρ with
  | [.inr (.inr (some (_, _))), .inl n], (nw, sp, tl, tx, al) => []
  | _, _ => []
set_option maxHeartbeats 16000000 in
set_option maxRecDepth 100000 in
theorem vq_m_end (lc : Launch) (h_m_in : mq_Ct lc cq_m_in) : mq_Ct lc cq_m_end := by
  refine mq_method (lc := lc) (P := pq_m_end) (cl := [cq_m_in]) (T := ([(120, 11, 0), (137, 11, 6)], [], [], [(125, 0, 1)], [], [])) (fuel := 400) (cuts := kq_m_end) (by decide) rfl ⟨rfl, rfl⟩ (List.forall_mem_cons.mpr ⟨h_m_in, (fun _ h => absurd h List.not_mem_nil)⟩) ⟨(List.forall_mem_cons.mpr ⟨⟨_, rfl, by decide, kw_773⟩, (List.forall_mem_cons.mpr ⟨⟨_, rfl, by decide, kw_785⟩, (fun _ h => absurd h List.not_mem_nil)⟩)⟩), (fun _ h => absurd h List.not_mem_nil), (fun _ h => absurd h List.not_mem_nil), (List.forall_mem_cons.mpr ⟨mq_ml1 rfl mw1_m_in kw_772, (fun _ h => absurd h List.not_mem_nil)⟩), (fun _ h => absurd h List.not_mem_nil), (fun _ h => absurd h List.not_mem_nil)⟩ (by decide +kernel) ⟨_, _, rfl⟩ ?_ ?_ ?_ ?_
  · intro as ρ μ h
    obtain ⟨nw, sp, tl, tx, al⟩ := ρ
    obtain ⟨as0, rfl, h0⟩ := mq_pZ_spec h
    clear h
    obtain ⟨n, as1, rfl, h1⟩ := mq_pI_spec h0
    clear h0
    obtain ⟨rfl, hp⟩ := mq_p0_spec h1
    clear h1
    rfl
  · intro as ρ μ h
    obtain ⟨nw, sp, tl, tx, al⟩ := ρ
    obtain ⟨as0, rfl, h0⟩ := mq_pZ_spec h
    clear h
    obtain ⟨n, as1, rfl, h1⟩ := mq_pI_spec h0
    clear h0
    obtain ⟨rfl, hp⟩ := mq_p0_spec h1
    clear h1
    intro hrg
    obtain ⟨⟨ha1a, ha1b⟩, -⟩ := hrg
    intro hbk
    have e0 : mq_l0 ([.inr (.inr (some (60, 0))), .inl n] : List mq_V) 2 = [some (.inr (.inr (some (60, 0)))), some (.inl n)] := rfl
    rw [e0]
    repeat' (first | refine And.intro ?_ ?_ | intro _)
    all_goals first | omega | rfl | exact trivial | (simp [mq_up] at * <;> omega)
  · intro as ρ μ h
    obtain ⟨nw, sp, tl, tx, al⟩ := ρ
    obtain ⟨as0, rfl, h0⟩ := mq_pZ_spec h
    clear h
    obtain ⟨n, as1, rfl, h1⟩ := mq_pI_spec h0
    clear h0
    obtain ⟨rfl, hp⟩ := mq_p0_spec h1
    clear h1
    exact fun _ h => absurd h List.not_mem_nil
  · intro as ρ μ h
    obtain ⟨nw, sp, tl, tx, al⟩ := ρ
    obtain ⟨as0, rfl, h0⟩ := mq_pZ_spec h
    clear h
    obtain ⟨n, as1, rfl, h1⟩ := mq_pI_spec h0
    clear h0
    obtain ⟨rfl, hp⟩ := mq_p0_spec h1
    clear h1
    intro hrg
    obtain ⟨⟨ha1a, ha1b⟩, -⟩ := hrg
    exact fun _ h => absurd h List.not_mem_nil
def pq_m_isByte : List mq_E := [(0, false, .iload 1), (1, false, .aload 0), (2, false, .invokeinterface 11 6), (5, false, .if_icmp .ge (Int.ofNat 32)), (8, false, .aload 0), (9, false, .invokeinterface 11 5), (12, false, .iload 1), (13, false, .baload), (14, false, .iload 2), (15, false, .if_icmp .lt (Int.ofNat 32)), (18, false, .aload 0), (19, false, .invokeinterface 11 5), (22, false, .iload 1), (23, false, .baload), (24, false, .iload 3), (25, false, .if_icmp .gt (Int.ofNat 32)), (28, false, .iconst 1), (29, false, .goto (Int.ofNat 33)), (32, false, .iconst 0), (33, false, .ireturn)]
def cq_m_isByte : mq_C := ((yX11_isByte, cX11_isByte, 4, (some .boolean), { frames := 0, cells := 0, slots := 0, locals := 0 }), (4, 1, 0, 0), 0, (fun as ρ μ => match ρ with
  | (nw, sp, tl, tx, al) => mq_pZ as 60 fun as => mq_pI as fun k as => mq_pI as fun lo as => mq_pI as fun hi as => mq_p0 as (0 ≤ k ∧ k ≤ 1600)),
  (fun as ρ μ r ρ' μ' => match as, ρ, ρ' with
  | [.inr (.inr (some (_, _))), .inl k, .inl lo, .inl hi], (nw, sp, tl, tx, al), (nw', sp', tl', tx', al') => [(r = 1 ∧ k < μ (60, 0) 6 ∧ lo ≤ μ (65, 0) k.toNat ∧ μ (65, 0) k.toNat ≤ hi) ∨ (r = 0 ∧ ¬ (k < μ (60, 0) 6 ∧ lo ≤ μ (65, 0) k.toNat ∧ μ (65, 0) k.toNat ≤ hi))]
  | _, _, _ => []))
def kq_m_isByte : List mq_V → mq_R → mq_M → List mq_Cu := fun as ρ μ => match as, ρ with
  | [.inr (.inr (some (_, _))), .inl k, .inl lo, .inl hi], (nw, sp, tl, tx, al) => []
  | _, _ => []
set_option maxHeartbeats 16000000 in
set_option maxRecDepth 100000 in
theorem vq_m_isByte (lc : Launch)  : mq_Ct lc cq_m_isByte := by
  refine mq_method (lc := lc) (P := pq_m_isByte) (cl := []) (T := ([(137, 11, 6), (23, 11, 5)], [], [], [], [], [])) (fuel := 400) (cuts := kq_m_isByte) (by decide) rfl ⟨rfl, rfl⟩ (fun _ h => absurd h List.not_mem_nil) ⟨(List.forall_mem_cons.mpr ⟨⟨_, rfl, by decide, kw_785⟩, (List.forall_mem_cons.mpr ⟨⟨_, rfl, by decide, kw_784⟩, (fun _ h => absurd h List.not_mem_nil)⟩)⟩), (fun _ h => absurd h List.not_mem_nil), (fun _ h => absurd h List.not_mem_nil), (fun _ h => absurd h List.not_mem_nil), (fun _ h => absurd h List.not_mem_nil), (fun _ h => absurd h List.not_mem_nil)⟩ (by decide +kernel) ⟨_, _, rfl⟩ ?_ ?_ ?_ ?_
  · intro as ρ μ h
    obtain ⟨nw, sp, tl, tx, al⟩ := ρ
    obtain ⟨as0, rfl, h0⟩ := mq_pZ_spec h
    clear h
    obtain ⟨k, as1, rfl, h1⟩ := mq_pI_spec h0
    clear h0
    obtain ⟨lo, as2, rfl, h2⟩ := mq_pI_spec h1
    clear h1
    obtain ⟨hi, as3, rfl, h3⟩ := mq_pI_spec h2
    clear h2
    obtain ⟨rfl, hp⟩ := mq_p0_spec h3
    clear h3
    obtain ⟨hp0, hp1⟩ := hp
    rfl
  · intro as ρ μ h
    obtain ⟨nw, sp, tl, tx, al⟩ := ρ
    obtain ⟨as0, rfl, h0⟩ := mq_pZ_spec h
    clear h
    obtain ⟨k, as1, rfl, h1⟩ := mq_pI_spec h0
    clear h0
    obtain ⟨lo, as2, rfl, h2⟩ := mq_pI_spec h1
    clear h1
    obtain ⟨hi, as3, rfl, h3⟩ := mq_pI_spec h2
    clear h2
    obtain ⟨rfl, hp⟩ := mq_p0_spec h3
    clear h3
    obtain ⟨hp0, hp1⟩ := hp
    intro hrg
    obtain ⟨⟨ha1a, ha1b⟩, ⟨ha2a, ha2b⟩, ⟨ha3a, ha3b⟩, -⟩ := hrg
    intro hbk
    have hk0 : 0 ≤ μ (60, 0) 6 ∧ μ (60, 0) 6 ≤ 1600 := hbk (60, 0) 6
    have e0 : mq_l0 ([.inr (.inr (some (60, 0))), .inl k, .inl lo, .inl hi] : List mq_V) 4 = [some (.inr (.inr (some (60, 0)))), some (.inl k), some (.inl lo), some (.inl hi)] := rfl
    rw [e0]
    repeat' (first | refine And.intro ?_ ?_ | intro _)
    all_goals first | omega | rfl | exact trivial | (simp [mq_up] at * <;> omega)
  · intro as ρ μ h
    obtain ⟨nw, sp, tl, tx, al⟩ := ρ
    obtain ⟨as0, rfl, h0⟩ := mq_pZ_spec h
    clear h
    obtain ⟨k, as1, rfl, h1⟩ := mq_pI_spec h0
    clear h0
    obtain ⟨lo, as2, rfl, h2⟩ := mq_pI_spec h1
    clear h1
    obtain ⟨hi, as3, rfl, h3⟩ := mq_pI_spec h2
    clear h2
    obtain ⟨rfl, hp⟩ := mq_p0_spec h3
    clear h3
    obtain ⟨hp0, hp1⟩ := hp
    exact fun _ h => absurd h List.not_mem_nil
  · intro as ρ μ h
    obtain ⟨nw, sp, tl, tx, al⟩ := ρ
    obtain ⟨as0, rfl, h0⟩ := mq_pZ_spec h
    clear h
    obtain ⟨k, as1, rfl, h1⟩ := mq_pI_spec h0
    clear h0
    obtain ⟨lo, as2, rfl, h2⟩ := mq_pI_spec h1
    clear h1
    obtain ⟨hi, as3, rfl, h3⟩ := mq_pI_spec h2
    clear h2
    obtain ⟨rfl, hp⟩ := mq_p0_spec h3
    clear h3
    obtain ⟨hp0, hp1⟩ := hp
    intro hrg
    obtain ⟨⟨ha1a, ha1b⟩, ⟨ha2a, ha2b⟩, ⟨ha3a, ha3b⟩, -⟩ := hrg
    exact fun _ h => absurd h List.not_mem_nil
theorem mw0_m_isByte : mq_mlA cq_m_isByte 0 := ⟨kw_800, ⟨by decide +kernel, by decide +kernel⟩, by decide +kernel, kw_801, kw_802, kw_771, 60, by decide +kernel, fun as ρ μ h => by obtain ⟨nw, sp, tl, tx, al⟩ := ρ; obtain ⟨t, e, _⟩ := mq_pZ_spec h; exact ⟨0, t, e⟩⟩
def pq_m_next : List mq_E := [(0, false, .aload 0), (1, false, .aload 0), (2, false, .invokeinterface 11 7), (5, false, .iconst 32), (7, false, .iconst 32), (9, false, .invokestatic 0), (12, false, .ifCond .ne (Int.ofNat 30)), (15, false, .aload 0), (16, false, .aload 0), (17, false, .invokeinterface 11 7), (20, false, .iconst 10), (22, false, .iconst 10), (24, false, .invokestatic 0), (27, false, .ifCond .eq (Int.ofNat 43)), (30, true, .aload 0), (31, false, .dup), (32, false, .invokeinterface 11 7), (35, false, .iconst 1), (36, false, .iadd), (37, false, .multianewarray 11 7), (40, false, .goto (Int.ofNat 0)), (43, true, .aload 0), (44, false, .aload 0), (45, false, .invokeinterface 11 7), (48, false, .multianewarray 11 9), (51, false, .aload 0), (52, false, .iconst 0), (53, false, .multianewarray 11 10), (56, false, .aload 0), (57, false, .goto_w 0), (58, false, .multianewarray 11 11), (61, false, .aload 0), (62, false, .invokeinterface 11 7), (65, false, .aload 0), (66, false, .invokeinterface 11 6), (69, false, .if_icmp .ne (Int.ofNat 80)), (72, false, .aload 0), (73, false, .iconst 0), (74, false, .multianewarray 11 8), (77, false, .goto (Int.ofNat 307)), (80, false, .aload 0), (81, false, .aload 0), (82, false, .invokeinterface 11 7), (85, false, .iconst 97), (87, false, .iconst 122), (89, false, .invokestatic 0), (92, false, .ifCond .eq (Int.ofNat 188)), (95, false, .aload 0), (96, false, .iconst 1), (97, false, .multianewarray 11 8), (100, false, .iconst 0), (101, false, .istore 1), (102, true, .aload 0), (103, false, .aload 0), (104, false, .invokeinterface 11 7), (107, false, .iconst 97), (109, false, .iconst 122), (111, false, .invokestatic 0), (114, false, .ifCond .eq (Int.ofNat 185)), (117, false, .aload 0), (118, false, .iload 1), (119, false, .iconst 11), (121, false, .if_icmp .le (Int.ofNat 130)), (124, false, .goto_w (-1)), (127, false, .goto (Int.ofNat 153)), (130, false, .goto_w 27), (133, false, .aload 0), (134, false, .invokeinterface 11 11), (137, false, .dmul), (138, false, .aload 0), (139, false, .invokeinterface 11 5), (142, false, .aload 0), (143, false, .invokeinterface 11 7), (146, false, .baload), (147, false, .i2l), (148, false, .dadd), (149, false, .goto_w 96), (152, false, .dsub), (153, false, .multianewarray 11 11), (156, false, .iload 1), (157, false, .iconst 11), (159, false, .if_icmp .le (Int.ofNat 169)), (162, false, .aload 0), (163, false, .goto_w (-1)), (166, false, .multianewarray 11 11), (169, false, .aload 0), (170, false, .dup), (171, false, .invokeinterface 11 7), (174, false, .iconst 1), (175, false, .iadd), (176, false, .multianewarray 11 7), (179, false, .iinc 1 1), (182, false, .goto (Int.ofNat 102)), (185, false, .goto (Int.ofNat 307)), (188, false, .aload 0), (189, false, .aload 0), (190, false, .invokeinterface 11 7), (193, false, .iconst 48), (195, false, .iconst 57), (197, false, .invokestatic 0), (200, false, .ifCond .eq (Int.ofNat 274)), (203, false, .aload 0), (204, false, .iconst 2), (205, false, .multianewarray 11 8), (208, true, .aload 0), (209, false, .aload 0), (210, false, .invokeinterface 11 7), (213, false, .iconst 48), (215, false, .iconst 57), (217, false, .invokestatic 0), (220, false, .ifCond .eq (Int.ofNat 307)), (223, false, .aload 0), (224, false, .aload 0), (225, false, .invokeinterface 11 10), (228, false, .iconst 100000), (230, false, .if_icmp .le (Int.ofNat 238)), (233, false, .iconst 1000000), (235, false, .goto (Int.ofNat 258)), (238, false, .iconst 10), (240, false, .aload 0), (241, false, .invokeinterface 11 10), (244, false, .imul), (245, false, .aload 0), (246, false, .invokeinterface 11 5), (249, false, .aload 0), (250, false, .invokeinterface 11 7), (253, false, .baload), (254, false, .iadd), (255, false, .iconst 48), (257, false, .isub), (258, false, .multianewarray 11 10), (261, false, .aload 0), (262, false, .dup), (263, false, .invokeinterface 11 7), (266, false, .iconst 1), (267, false, .iadd), (268, false, .multianewarray 11 7), (271, false, .goto (Int.ofNat 208)), (274, false, .aload 0), (275, false, .aload 0), (276, false, .invokeinterface 11 5), (279, false, .aload 0), (280, false, .invokeinterface 11 7), (283, false, .baload), (284, false, .iconst 59), (286, false, .if_icmp .ne (Int.ofNat 293)), (289, false, .iconst 3), (290, false, .goto (Int.ofNat 294)), (293, false, .iconst 4), (294, false, .multianewarray 11 8), (297, false, .aload 0), (298, false, .dup), (299, false, .invokeinterface 11 7), (302, false, .iconst 1), (303, false, .iadd), (304, false, .multianewarray 11 7), (307, false, .return_)]
def cq_m_next : mq_C := ((yX11_next, cX11_next, 2, none, { frames := 1, cells := 0, slots := 0, locals := 23 }), (1, 0, 0, 0), 1152921504606846976, (fun as ρ μ => match ρ with
  | (nw, sp, tl, tx, al) => mq_pZ as 60 fun as => mq_p0 as (μ (60, 0) 7 ≤ μ (60, 0) 6 ∧ 0 ≤ μ (60, 0) 7)),
  (fun as ρ μ r ρ' μ' => match as, ρ, ρ' with
  | [.inr (.inr (some (_, _)))], (nw, sp, tl, tx, al), (nw', sp', tl', tx', al') => [μ' (60, 0) 7 ≤ μ' (60, 0) 6, 0 ≤ μ' (60, 0) 7, μ (60, 0) 7 ≤ μ' (60, 0) 7, μ' (60, 0) 8 = 0 ∨ μ (60, 0) 7 < μ' (60, 0) 7, 0 ≤ μ' (60, 0) 8, μ' (60, 0) 8 ≤ 4, μ' (60, 0) 12 = μ (60, 0) 12]
  | _, _, _ => []))
def kq_m_next : List mq_V → mq_R → mq_M → List mq_Cu := fun as ρ μ => match as, ρ with
  | [.inr (.inr (some (_, _)))], (nw, sp, tl, tx, al) => [(30, [true, false], fun N l st ρ' μ' cs => mq_tZ l 60 fun l => mq_tN l fun l => mq_t0 l (st = [] ∧ ρ' = (nw, sp, tl, tx, al) ∧ cs = 0 ∧ μ' (60, 0) 7 < μ' (60, 0) 6 ∧ μ (60, 0) 7 ≤ μ' (60, 0) 7 ∧ μ' (60, 0) 12 = μ (60, 0) 12 ∧ 0 ≤ (10000 - μ' (60, 0) 7 : Int) ∧ (10000 - μ' (60, 0) 7 : Int) < (N : Int))),
    (43, [true, false], fun N l st ρ' μ' cs => mq_tZ l 60 fun l => mq_tN l fun l => mq_t0 l (st = [] ∧ ρ' = (nw, sp, tl, tx, al) ∧ cs = 0 ∧ μ' (60, 0) 7 ≤ μ' (60, 0) 6 ∧ μ (60, 0) 7 ≤ μ' (60, 0) 7 ∧ μ' (60, 0) 12 = μ (60, 0) 12 ∧ 0 ≤ (6000 - μ' (60, 0) 7 : Int) ∧ (6000 - μ' (60, 0) 7 : Int) < (N : Int))),
    (102, [true, true], fun N l st ρ' μ' cs => mq_tZ l 60 fun l => mq_tI l fun v1 l => mq_t0 l (st = [] ∧ ρ' = (nw, sp, tl, tx, al) ∧ cs = 0 ∧ 0 ≤ v1 ∧ v1 ≤ μ' (60, 0) 7 ∧ μ' (60, 0) 12 = μ (60, 0) 12 ∧ μ' (60, 0) 7 ≤ μ' (60, 0) 6 ∧ μ (60, 0) 7 ≤ μ' (60, 0) 7 ∧ (μ (60, 0) 7 < μ' (60, 0) 7 ∨ (μ' (60, 0) 7 < μ' (60, 0) 6 ∧ 97 ≤ μ' (65, 0) (μ' (60, 0) 7).toNat ∧ μ' (65, 0) (μ' (60, 0) 7).toNat ≤ 122)) ∧ 0 ≤ (5000 - μ' (60, 0) 7 : Int) ∧ (5000 - μ' (60, 0) 7 : Int) < (N : Int))),
    (208, [true, false], fun N l st ρ' μ' cs => mq_tZ l 60 fun l => mq_tN l fun l => mq_t0 l (st = [] ∧ ρ' = (nw, sp, tl, tx, al) ∧ cs = 0 ∧ μ' (60, 0) 12 = μ (60, 0) 12 ∧ μ' (60, 0) 7 ≤ μ' (60, 0) 6 ∧ μ (60, 0) 7 ≤ μ' (60, 0) 7 ∧ (μ (60, 0) 7 < μ' (60, 0) 7 ∨ (μ' (60, 0) 7 < μ' (60, 0) 6 ∧ 48 ≤ μ' (65, 0) (μ' (60, 0) 7).toNat ∧ μ' (65, 0) (μ' (60, 0) 7).toNat ≤ 57)) ∧ 0 ≤ (5000 - μ' (60, 0) 7 : Int) ∧ (5000 - μ' (60, 0) 7 : Int) < (N : Int)))]
  | _, _ => []
set_option maxHeartbeats 16000000 in
set_option maxRecDepth 100000 in
theorem vq_m_next (lc : Launch) (h_m_isByte : mq_Ct lc cq_m_isByte) : mq_Ct lc cq_m_next := by
  refine mq_method (lc := lc) (P := pq_m_next) (cl := [cq_m_isByte]) (T := ([(144, 11, 7), (151, 11, 9), (154, 11, 10), (157, 11, 11), (137, 11, 6), (161, 11, 8), (23, 11, 5)], [(170, 100000), (171, 1000000)], [(164, (-1)), (166, 27), (168, 96)], [(147, 0, 0)], [], [])) (fuel := 400) (cuts := kq_m_next) (by decide) rfl ⟨rfl, rfl⟩ (List.forall_mem_cons.mpr ⟨h_m_isByte, (fun _ h => absurd h List.not_mem_nil)⟩) ⟨(List.forall_mem_cons.mpr ⟨⟨_, rfl, by decide, kw_790⟩, (List.forall_mem_cons.mpr ⟨⟨_, rfl, by decide, kw_791⟩, (List.forall_mem_cons.mpr ⟨⟨_, rfl, by decide, kw_792⟩, (List.forall_mem_cons.mpr ⟨⟨_, rfl, by decide, kw_793⟩, (List.forall_mem_cons.mpr ⟨⟨_, rfl, by decide, kw_785⟩, (List.forall_mem_cons.mpr ⟨⟨_, rfl, by decide, kw_794⟩, (List.forall_mem_cons.mpr ⟨⟨_, rfl, by decide, kw_784⟩, (fun _ h => absurd h List.not_mem_nil)⟩)⟩)⟩)⟩)⟩)⟩)⟩), (List.forall_mem_cons.mpr ⟨kw_795, (List.forall_mem_cons.mpr ⟨kw_796, (fun _ h => absurd h List.not_mem_nil)⟩)⟩), (List.forall_mem_cons.mpr ⟨kw_797, (List.forall_mem_cons.mpr ⟨kw_798, (List.forall_mem_cons.mpr ⟨kw_799, (fun _ h => absurd h List.not_mem_nil)⟩)⟩)⟩), (List.forall_mem_cons.mpr ⟨mq_ml0 rfl mw0_m_isByte kw_803, (fun _ h => absurd h List.not_mem_nil)⟩), (fun _ h => absurd h List.not_mem_nil), (fun _ h => absurd h List.not_mem_nil)⟩ (by decide +kernel) ⟨_, _, rfl⟩ ?_ ?_ ?_ ?_
  · intro as ρ μ h
    obtain ⟨nw, sp, tl, tx, al⟩ := ρ
    obtain ⟨as0, rfl, h0⟩ := mq_pZ_spec h
    clear h
    obtain ⟨rfl, hp⟩ := mq_p0_spec h0
    clear h0
    obtain ⟨hp0, hp1⟩ := hp
    rfl
  · intro as ρ μ h
    obtain ⟨nw, sp, tl, tx, al⟩ := ρ
    obtain ⟨as0, rfl, h0⟩ := mq_pZ_spec h
    clear h
    obtain ⟨rfl, hp⟩ := mq_p0_spec h0
    clear h0
    obtain ⟨hp0, hp1⟩ := hp
    intro hrg
    intro hbk
    have hk0 : 0 ≤ μ (60, 0) 6 ∧ μ (60, 0) 6 ≤ 1600 := hbk (60, 0) 6
    have hk1 : 0 ≤ μ (60, 0) 7 ∧ μ (60, 0) 7 ≤ 1600 := hbk (60, 0) 7
    have hk2 : 0 ≤ μ (60, 0) 10 ∧ μ (60, 0) 10 ≤ 1000009 := hbk (60, 0) 10
    have hk3 : 0 ≤ μ (60, 0) 8 ∧ μ (60, 0) 8 ≤ 4 := hbk (60, 0) 8
    have e0 : mq_l0 ([.inr (.inr (some (60, 0)))] : List mq_V) 2 = [some (.inr (.inr (some (60, 0)))), none] := rfl
    rw [e0]
    repeat' (first | refine And.intro ?_ ?_ | intro _)
    all_goals try simp only [Int.reduceToNat, Int.reduceAdd, mq_up_f, mq_up_s, mq_up_e, ne_eq, Nat.reduceEqDiff, not_false_eq_true, true_and, and_true, false_and, and_false, false_or, or_false, true_or, or_true, true_implies] at *
    all_goals first | omega | rfl | exact trivial | assumption | (subst_vars; omega)
  · intro as ρ μ h
    obtain ⟨nw, sp, tl, tx, al⟩ := ρ
    obtain ⟨as0, rfl, h0⟩ := mq_pZ_spec h
    clear h
    obtain ⟨rfl, hp⟩ := mq_p0_spec h0
    clear h0
    obtain ⟨hp0, hp1⟩ := hp
    refine List.forall_mem_cons.mpr ⟨?_, ?_⟩
    · intro l st ρ' μ' cs hJ
      obtain ⟨l0, rfl, hJ0⟩ := mq_tZ_spec hJ
      clear hJ
      obtain ⟨l1, rfl, hJ1⟩ := mq_tN_spec hJ0
      clear hJ0
      obtain ⟨rfl, hJz⟩ := mq_t0_spec hJ1
      clear hJ1
      obtain ⟨rfl, rfl, rfl, hc0, hc1, hc2, hm0, hm1⟩ := hJz
      omega
    refine List.forall_mem_cons.mpr ⟨?_, ?_⟩
    · intro l st ρ' μ' cs hJ
      obtain ⟨l0, rfl, hJ0⟩ := mq_tZ_spec hJ
      clear hJ
      obtain ⟨l1, rfl, hJ1⟩ := mq_tN_spec hJ0
      clear hJ0
      obtain ⟨rfl, hJz⟩ := mq_t0_spec hJ1
      clear hJ1
      obtain ⟨rfl, rfl, rfl, hc0, hc1, hc2, hm0, hm1⟩ := hJz
      omega
    refine List.forall_mem_cons.mpr ⟨?_, ?_⟩
    · intro l st ρ' μ' cs hJ
      obtain ⟨l0, rfl, hJ0⟩ := mq_tZ_spec hJ
      clear hJ
      obtain ⟨v1, l1, rfl, hJ1⟩ := mq_tI_spec hJ0
      clear hJ0
      obtain ⟨rfl, hJz⟩ := mq_t0_spec hJ1
      clear hJ1
      obtain ⟨rfl, rfl, rfl, hc0, hc1, hc2, hc3, hc4, hc5, hm0, hm1⟩ := hJz
      omega
    refine List.forall_mem_cons.mpr ⟨?_, ?_⟩
    · intro l st ρ' μ' cs hJ
      obtain ⟨l0, rfl, hJ0⟩ := mq_tZ_spec hJ
      clear hJ
      obtain ⟨l1, rfl, hJ1⟩ := mq_tN_spec hJ0
      clear hJ0
      obtain ⟨rfl, hJz⟩ := mq_t0_spec hJ1
      clear hJ1
      obtain ⟨rfl, rfl, rfl, hc0, hc1, hc2, hc3, hm0, hm1⟩ := hJz
      omega
    exact fun _ h => absurd h List.not_mem_nil
  · intro as ρ μ h
    obtain ⟨nw, sp, tl, tx, al⟩ := ρ
    obtain ⟨as0, rfl, h0⟩ := mq_pZ_spec h
    clear h
    obtain ⟨rfl, hp⟩ := mq_p0_spec h0
    clear h0
    obtain ⟨hp0, hp1⟩ := hp
    intro hrg
    refine List.forall_mem_cons.mpr ⟨?_, ?_⟩
    · intro N l st ρ' μ' cs hJ
      obtain ⟨l0, rfl, hJ0⟩ := mq_tZ_spec hJ
      clear hJ
      obtain ⟨l1, rfl, hJ1⟩ := mq_tN_spec hJ0
      clear hJ0
      obtain ⟨rfl, hJz⟩ := mq_t0_spec hJ1
      clear hJ1
      obtain ⟨rfl, rfl, rfl, hc0, hc1, hc2, hm0, hm1⟩ := hJz
      intro hbk hrl
      have hk0 : 0 ≤ μ' (60, 0) 6 ∧ μ' (60, 0) 6 ≤ 1600 := hbk (60, 0) 6
      have hk1 : 0 ≤ μ' (60, 0) 7 ∧ μ' (60, 0) 7 ≤ 1600 := hbk (60, 0) 7
      have hk2 : 0 ≤ μ' (60, 0) 10 ∧ μ' (60, 0) 10 ≤ 1000009 := hbk (60, 0) 10
      have hk3 : 0 ≤ μ' (60, 0) 8 ∧ μ' (60, 0) 8 ≤ 4 := hbk (60, 0) 8
      repeat' (first | refine And.intro ?_ ?_ | intro _)
      all_goals try simp only [Int.reduceToNat, Int.reduceAdd, mq_up_f, mq_up_s, mq_up_e, ne_eq, Nat.reduceEqDiff, not_false_eq_true, true_and, and_true, false_and, and_false, false_or, or_false, true_or, or_true, true_implies] at *
      all_goals first | omega | rfl | exact trivial | assumption | (subst_vars; omega)
    refine List.forall_mem_cons.mpr ⟨?_, ?_⟩
    · intro N l st ρ' μ' cs hJ
      obtain ⟨l0, rfl, hJ0⟩ := mq_tZ_spec hJ
      clear hJ
      obtain ⟨l1, rfl, hJ1⟩ := mq_tN_spec hJ0
      clear hJ0
      obtain ⟨rfl, hJz⟩ := mq_t0_spec hJ1
      clear hJ1
      obtain ⟨rfl, rfl, rfl, hc0, hc1, hc2, hm0, hm1⟩ := hJz
      intro hbk hrl
      have hk0 : 0 ≤ μ' (60, 0) 6 ∧ μ' (60, 0) 6 ≤ 1600 := hbk (60, 0) 6
      have hk1 : 0 ≤ μ' (60, 0) 7 ∧ μ' (60, 0) 7 ≤ 1600 := hbk (60, 0) 7
      have hk2 : 0 ≤ μ' (60, 0) 10 ∧ μ' (60, 0) 10 ≤ 1000009 := hbk (60, 0) 10
      have hk3 : 0 ≤ μ' (60, 0) 8 ∧ μ' (60, 0) 8 ≤ 4 := hbk (60, 0) 8
      repeat' (first | refine And.intro ?_ ?_ | intro _)
      all_goals try simp only [Int.reduceToNat, Int.reduceAdd, mq_up_f, mq_up_s, mq_up_e, ne_eq, Nat.reduceEqDiff, not_false_eq_true, true_and, and_true, false_and, and_false, false_or, or_false, true_or, or_true, true_implies] at *
      all_goals first | omega | rfl | exact trivial | assumption | (subst_vars; omega)
    refine List.forall_mem_cons.mpr ⟨?_, ?_⟩
    · intro N l st ρ' μ' cs hJ
      obtain ⟨l0, rfl, hJ0⟩ := mq_tZ_spec hJ
      clear hJ
      obtain ⟨v1, l1, rfl, hJ1⟩ := mq_tI_spec hJ0
      clear hJ0
      obtain ⟨rfl, hJz⟩ := mq_t0_spec hJ1
      clear hJ1
      obtain ⟨rfl, rfl, rfl, hc0, hc1, hc2, hc3, hc4, hc5, hm0, hm1⟩ := hJz
      intro hbk hrl
      have hk0 : 0 ≤ μ' (60, 0) 6 ∧ μ' (60, 0) 6 ≤ 1600 := hbk (60, 0) 6
      have hk1 : 0 ≤ μ' (60, 0) 7 ∧ μ' (60, 0) 7 ≤ 1600 := hbk (60, 0) 7
      have hk2 : 0 ≤ μ' (60, 0) 10 ∧ μ' (60, 0) 10 ≤ 1000009 := hbk (60, 0) 10
      have hk3 : 0 ≤ μ' (60, 0) 8 ∧ μ' (60, 0) 8 ≤ 4 := hbk (60, 0) 8
      obtain ⟨⟨hl1a, hl1b⟩, -⟩ := hrl
      repeat' (first | refine And.intro ?_ ?_ | intro _)
      all_goals try simp only [Int.reduceToNat, Int.reduceAdd, mq_up_f, mq_up_s, mq_up_e, ne_eq, Nat.reduceEqDiff, not_false_eq_true, true_and, and_true, false_and, and_false, false_or, or_false, true_or, or_true, true_implies] at *
      all_goals first | omega | rfl | exact trivial | assumption | (subst_vars; omega)
    refine List.forall_mem_cons.mpr ⟨?_, ?_⟩
    · intro N l st ρ' μ' cs hJ
      obtain ⟨l0, rfl, hJ0⟩ := mq_tZ_spec hJ
      clear hJ
      obtain ⟨l1, rfl, hJ1⟩ := mq_tN_spec hJ0
      clear hJ0
      obtain ⟨rfl, hJz⟩ := mq_t0_spec hJ1
      clear hJ1
      obtain ⟨rfl, rfl, rfl, hc0, hc1, hc2, hc3, hm0, hm1⟩ := hJz
      intro hbk hrl
      have hk0 : 0 ≤ μ' (60, 0) 6 ∧ μ' (60, 0) 6 ≤ 1600 := hbk (60, 0) 6
      have hk1 : 0 ≤ μ' (60, 0) 7 ∧ μ' (60, 0) 7 ≤ 1600 := hbk (60, 0) 7
      have hk2 : 0 ≤ μ' (60, 0) 10 ∧ μ' (60, 0) 10 ≤ 1000009 := hbk (60, 0) 10
      have hk3 : 0 ≤ μ' (60, 0) 8 ∧ μ' (60, 0) 8 ≤ 4 := hbk (60, 0) 8
      repeat' (first | refine And.intro ?_ ?_ | intro _)
      all_goals try simp only [Int.reduceToNat, Int.reduceAdd, mq_up_f, mq_up_s, mq_up_e, ne_eq, Nat.reduceEqDiff, not_false_eq_true, true_and, and_true, false_and, and_false, false_or, or_false, true_or, or_true, true_implies] at *
      all_goals first | omega | rfl | exact trivial | assumption | (subst_vars; omega)
    exact fun _ h => absurd h List.not_mem_nil
theorem mw0_m_next : mq_mlA cq_m_next 0 := ⟨kw_810, ⟨by decide +kernel, by decide +kernel⟩, by decide +kernel, kw_811, kw_812, kw_771, 60, by decide +kernel, fun as ρ μ h => by obtain ⟨nw, sp, tl, tx, al⟩ := ρ; obtain ⟨t, e, _⟩ := mq_pZ_spec h; exact ⟨0, t, e⟩⟩
def pq_m_isGood : List mq_E := [(0, false, .aload 0), (1, false, .invokeinterface 11 12), (4, false, .ifCond .ne (Int.ofNat 11)), (7, false, .iconst 1), (8, false, .goto (Int.ofNat 12)), (11, false, .iconst 0), (12, false, .ireturn)]
def cq_m_isGood : mq_C := ((yX11_isGood, cX11_isGood, 1, (some .boolean), { frames := 0, cells := 0, slots := 0, locals := 0 }), (1, 1, 0, 0), 0, (fun as ρ μ => match ρ with
  | (nw, sp, tl, tx, al) => mq_pZ as 60 fun as => mq_p0 as (True)),
  (fun as ρ μ r ρ' μ' => match as, ρ, ρ' with
  | [.inr (.inr (some (_, _)))], (nw, sp, tl, tx, al), (nw', sp', tl', tx', al') => [(r = 1 ∧ μ (60, 0) 12 = 0) ∨ (r = 0 ∧ ¬ μ (60, 0) 12 = 0)]
  | _, _, _ => []))
def kq_m_isGood : List mq_V → mq_R → mq_M → List mq_Cu := fun as ρ μ => match as, ρ with
  | [.inr (.inr (some (_, _)))], (nw, sp, tl, tx, al) => []
  | _, _ => []
set_option maxHeartbeats 16000000 in
set_option maxRecDepth 100000 in
theorem vq_m_isGood (lc : Launch)  : mq_Ct lc cq_m_isGood := by
  refine mq_method (lc := lc) (P := pq_m_isGood) (cl := []) (T := ([(172, 11, 12)], [], [], [], [], [])) (fuel := 400) (cuts := kq_m_isGood) (by decide) rfl ⟨rfl, rfl⟩ (fun _ h => absurd h List.not_mem_nil) ⟨(List.forall_mem_cons.mpr ⟨⟨_, rfl, by decide, kw_804⟩, (fun _ h => absurd h List.not_mem_nil)⟩), (fun _ h => absurd h List.not_mem_nil), (fun _ h => absurd h List.not_mem_nil), (fun _ h => absurd h List.not_mem_nil), (fun _ h => absurd h List.not_mem_nil), (fun _ h => absurd h List.not_mem_nil)⟩ (by decide +kernel) ⟨_, _, rfl⟩ ?_ ?_ ?_ ?_
  · intro as ρ μ h
    obtain ⟨nw, sp, tl, tx, al⟩ := ρ
    obtain ⟨as0, rfl, h0⟩ := mq_pZ_spec h
    clear h
    obtain ⟨rfl, hp⟩ := mq_p0_spec h0
    clear h0
    rfl
  · intro as ρ μ h
    obtain ⟨nw, sp, tl, tx, al⟩ := ρ
    obtain ⟨as0, rfl, h0⟩ := mq_pZ_spec h
    clear h
    obtain ⟨rfl, hp⟩ := mq_p0_spec h0
    clear h0
    intro hrg
    intro hbk
    have e0 : mq_l0 ([.inr (.inr (some (60, 0)))] : List mq_V) 1 = [some (.inr (.inr (some (60, 0))))] := rfl
    rw [e0]
    repeat' (first | refine And.intro ?_ ?_ | intro _)
    all_goals first | omega | rfl | exact trivial | (simp [mq_up] at * <;> omega)
  · intro as ρ μ h
    obtain ⟨nw, sp, tl, tx, al⟩ := ρ
    obtain ⟨as0, rfl, h0⟩ := mq_pZ_spec h
    clear h
    obtain ⟨rfl, hp⟩ := mq_p0_spec h0
    clear h0
    exact fun _ h => absurd h List.not_mem_nil
  · intro as ρ μ h
    obtain ⟨nw, sp, tl, tx, al⟩ := ρ
    obtain ⟨as0, rfl, h0⟩ := mq_pZ_spec h
    clear h
    obtain ⟨rfl, hp⟩ := mq_p0_spec h0
    clear h0
    intro hrg
    exact fun _ h => absurd h List.not_mem_nil
theorem mw0_m_isGood : mq_mlA cq_m_isGood 0 := ⟨kw_1134, ⟨by decide +kernel, by decide +kernel⟩, by decide +kernel, kw_1135, kw_1136, kw_771, 60, by decide +kernel, fun as ρ μ h => by obtain ⟨nw, sp, tl, tx, al⟩ := ρ; obtain ⟨t, e, _⟩ := mq_pZ_spec h; exact ⟨0, t, e⟩⟩
def pq_m_fails : List mq_E := [(0, false, .aload 0), (1, false, .invokeinterface 11 12), (4, false, .ifCond .eq (Int.ofNat 8)), (7, false, .return_), (8, false, .aload 0), (9, false, .iload 1), (10, false, .multianewarray 11 12), (13, false, .aload 0), (14, false, .aload 0), (15, false, .invokeinterface 11 9), (18, false, .multianewarray 11 13), (21, false, .return_)]
def cq_m_fails : mq_C := ((yX11_fails, cX11_fails, 2, none, { frames := 0, cells := 0, slots := 0, locals := 0 }), (2, 0, 0, 0), 1152921504606846976, (fun as ρ μ => match ρ with
  | (nw, sp, tl, tx, al) => mq_pZ as 60 fun as => mq_pI as fun k as => mq_p0 as (1 ≤ k ∧ k ≤ 3)),
  (fun as ρ μ r ρ' μ' => match as, ρ, ρ' with
  | [.inr (.inr (some (_, _))), .inl k], (nw, sp, tl, tx, al), (nw', sp', tl', tx', al') => [¬ μ' (60, 0) 12 = 0, 0 ≤ μ' (60, 0) 12, μ' (60, 0) 7 = μ (60, 0) 7, μ' (60, 0) 6 = μ (60, 0) 6, μ' (60, 0) 8 = μ (60, 0) 8]
  | _, _, _ => []))
def kq_m_fails : List mq_V → mq_R → mq_M → List mq_Cu := fun as ρ μ => match as, ρ with
  | [.inr (.inr (some (_, _))), .inl k], (nw, sp, tl, tx, al) => []
  | _, _ => []
set_option maxHeartbeats 16000000 in
set_option maxRecDepth 100000 in
theorem vq_m_fails (lc : Launch)  : mq_Ct lc cq_m_fails := by
  refine mq_method (lc := lc) (P := pq_m_fails) (cl := []) (T := ([(172, 11, 12), (151, 11, 9), (175, 11, 13)], [], [], [], [], [])) (fuel := 400) (cuts := kq_m_fails) (by decide) rfl ⟨rfl, rfl⟩ (fun _ h => absurd h List.not_mem_nil) ⟨(List.forall_mem_cons.mpr ⟨⟨_, rfl, by decide, kw_804⟩, (List.forall_mem_cons.mpr ⟨⟨_, rfl, by decide, kw_791⟩, (List.forall_mem_cons.mpr ⟨⟨_, rfl, by decide, kw_805⟩, (fun _ h => absurd h List.not_mem_nil)⟩)⟩)⟩), (fun _ h => absurd h List.not_mem_nil), (fun _ h => absurd h List.not_mem_nil), (fun _ h => absurd h List.not_mem_nil), (fun _ h => absurd h List.not_mem_nil), (fun _ h => absurd h List.not_mem_nil)⟩ (by decide +kernel) ⟨_, _, rfl⟩ ?_ ?_ ?_ ?_
  · intro as ρ μ h
    obtain ⟨nw, sp, tl, tx, al⟩ := ρ
    obtain ⟨as0, rfl, h0⟩ := mq_pZ_spec h
    clear h
    obtain ⟨k, as1, rfl, h1⟩ := mq_pI_spec h0
    clear h0
    obtain ⟨rfl, hp⟩ := mq_p0_spec h1
    clear h1
    obtain ⟨hp0, hp1⟩ := hp
    rfl
  · intro as ρ μ h
    obtain ⟨nw, sp, tl, tx, al⟩ := ρ
    obtain ⟨as0, rfl, h0⟩ := mq_pZ_spec h
    clear h
    obtain ⟨k, as1, rfl, h1⟩ := mq_pI_spec h0
    clear h0
    obtain ⟨rfl, hp⟩ := mq_p0_spec h1
    clear h1
    obtain ⟨hp0, hp1⟩ := hp
    intro hrg
    obtain ⟨⟨ha1a, ha1b⟩, -⟩ := hrg
    intro hbk
    have e0 : mq_l0 ([.inr (.inr (some (60, 0))), .inl k] : List mq_V) 2 = [some (.inr (.inr (some (60, 0)))), some (.inl k)] := rfl
    rw [e0]
    repeat' (first | refine And.intro ?_ ?_ | intro _)
    all_goals try simp only [Int.reduceToNat, Int.reduceAdd, mq_up_f, mq_up_s, mq_up_e, ne_eq, Nat.reduceEqDiff, not_false_eq_true, true_and, and_true, false_and, and_false, false_or, or_false, true_or, or_true, true_implies] at *
    all_goals first | omega | rfl | exact trivial | assumption
  · intro as ρ μ h
    obtain ⟨nw, sp, tl, tx, al⟩ := ρ
    obtain ⟨as0, rfl, h0⟩ := mq_pZ_spec h
    clear h
    obtain ⟨k, as1, rfl, h1⟩ := mq_pI_spec h0
    clear h0
    obtain ⟨rfl, hp⟩ := mq_p0_spec h1
    clear h1
    obtain ⟨hp0, hp1⟩ := hp
    exact fun _ h => absurd h List.not_mem_nil
  · intro as ρ μ h
    obtain ⟨nw, sp, tl, tx, al⟩ := ρ
    obtain ⟨as0, rfl, h0⟩ := mq_pZ_spec h
    clear h
    obtain ⟨k, as1, rfl, h1⟩ := mq_pI_spec h0
    clear h0
    obtain ⟨rfl, hp⟩ := mq_p0_spec h1
    clear h1
    obtain ⟨hp0, hp1⟩ := hp
    intro hrg
    obtain ⟨⟨ha1a, ha1b⟩, -⟩ := hrg
    exact fun _ h => absurd h List.not_mem_nil
theorem mw0_m_fails : mq_mlA cq_m_fails 0 := ⟨kw_818, ⟨by decide +kernel, by decide +kernel⟩, by decide +kernel, kw_819, kw_820, kw_771, 60, by decide +kernel, fun as ρ μ h => by obtain ⟨nw, sp, tl, tx, al⟩ := ρ; obtain ⟨t, e, _⟩ := mq_pZ_spec h; exact ⟨0, t, e⟩⟩
def pq_m_is : List mq_E := [(0, false, .aload 0), (1, false, .invokeinterface 11 12), (4, false, .ifCond .ne (Int.ofNat 28)), (7, false, .aload 0), (8, false, .invokeinterface 11 8), (11, false, .iconst 1), (12, false, .if_icmp .ne (Int.ofNat 28)), (15, false, .aload 0), (16, false, .invokeinterface 11 11), (19, false, .lload 1), (20, false, .lcmp), (21, false, .ifCond .ne (Int.ofNat 28)), (24, false, .iconst 1), (25, false, .goto (Int.ofNat 29)), (28, false, .iconst 0), (29, false, .ireturn)]
def cq_m_is : mq_C := ((yX11_is, cX11_is, 3, (some .boolean), { frames := 0, cells := 0, slots := 0, locals := 0 }), (2, 1, 0, 0), 0, (fun as ρ μ => match ρ with
  | (nw, sp, tl, tx, al) => mq_pZ as 60 fun as => mq_pL as fun w as => mq_p0 as (True)),
  (fun as ρ μ r ρ' μ' => match as, ρ, ρ' with
  | [.inr (.inr (some (_, _))), .inr (.inl w)], (nw, sp, tl, tx, al), (nw', sp', tl', tx', al') => [0 ≤ r, r ≤ 1]
  | _, _, _ => []))
def kq_m_is : List mq_V → mq_R → mq_M → List mq_Cu := fun as ρ μ => match as, ρ with
  | [.inr (.inr (some (_, _))), .inr (.inl w)], (nw, sp, tl, tx, al) => []
  | _, _ => []
set_option maxHeartbeats 16000000 in
set_option maxRecDepth 100000 in
theorem vq_m_is (lc : Launch)  : mq_Ct lc cq_m_is := by
  refine mq_method (lc := lc) (P := pq_m_is) (cl := []) (T := ([(172, 11, 12), (161, 11, 8), (157, 11, 11)], [], [], [], [], [])) (fuel := 400) (cuts := kq_m_is) (by decide) rfl ⟨rfl, rfl⟩ (fun _ h => absurd h List.not_mem_nil) ⟨(List.forall_mem_cons.mpr ⟨⟨_, rfl, by decide, kw_804⟩, (List.forall_mem_cons.mpr ⟨⟨_, rfl, by decide, kw_794⟩, (List.forall_mem_cons.mpr ⟨⟨_, rfl, by decide, kw_793⟩, (fun _ h => absurd h List.not_mem_nil)⟩)⟩)⟩), (fun _ h => absurd h List.not_mem_nil), (fun _ h => absurd h List.not_mem_nil), (fun _ h => absurd h List.not_mem_nil), (fun _ h => absurd h List.not_mem_nil), (fun _ h => absurd h List.not_mem_nil)⟩ (by decide +kernel) ⟨_, _, rfl⟩ ?_ ?_ ?_ ?_
  · intro as ρ μ h
    obtain ⟨nw, sp, tl, tx, al⟩ := ρ
    obtain ⟨as0, rfl, h0⟩ := mq_pZ_spec h
    clear h
    obtain ⟨w, as1, rfl, h1⟩ := mq_pL_spec h0
    clear h0
    obtain ⟨rfl, hp⟩ := mq_p0_spec h1
    clear h1
    rfl
  · intro as ρ μ h
    obtain ⟨nw, sp, tl, tx, al⟩ := ρ
    obtain ⟨as0, rfl, h0⟩ := mq_pZ_spec h
    clear h
    obtain ⟨w, as1, rfl, h1⟩ := mq_pL_spec h0
    clear h0
    obtain ⟨rfl, hp⟩ := mq_p0_spec h1
    clear h1
    intro hrg
    obtain ⟨⟨ha1a, ha1b⟩, -⟩ := hrg
    intro hbk
    have e0 : mq_l0 ([.inr (.inr (some (60, 0))), .inr (.inl w)] : List mq_V) 3 = [some (.inr (.inr (some (60, 0)))), some (.inr (.inl w)), none] := rfl
    rw [e0]
    repeat' (first | refine And.intro ?_ ?_ | intro _)
    all_goals first | omega | rfl | exact trivial | (simp [mq_up] at * <;> omega)
  · intro as ρ μ h
    obtain ⟨nw, sp, tl, tx, al⟩ := ρ
    obtain ⟨as0, rfl, h0⟩ := mq_pZ_spec h
    clear h
    obtain ⟨w, as1, rfl, h1⟩ := mq_pL_spec h0
    clear h0
    obtain ⟨rfl, hp⟩ := mq_p0_spec h1
    clear h1
    exact fun _ h => absurd h List.not_mem_nil
  · intro as ρ μ h
    obtain ⟨nw, sp, tl, tx, al⟩ := ρ
    obtain ⟨as0, rfl, h0⟩ := mq_pZ_spec h
    clear h
    obtain ⟨w, as1, rfl, h1⟩ := mq_pL_spec h0
    clear h0
    obtain ⟨rfl, hp⟩ := mq_p0_spec h1
    clear h1
    intro hrg
    obtain ⟨⟨ha1a, ha1b⟩, -⟩ := hrg
    exact fun _ h => absurd h List.not_mem_nil
theorem mw0_m_is : mq_mlA cq_m_is 0 := ⟨kw_806, ⟨by decide +kernel, by decide +kernel⟩, by decide +kernel, kw_807, kw_808, kw_771, 60, by decide +kernel, fun as ρ μ h => by obtain ⟨nw, sp, tl, tx, al⟩ := ρ; obtain ⟨t, e, _⟩ := mq_pZ_spec h; exact ⟨0, t, e⟩⟩
def pq_m_takes : List mq_E := [(0, false, .aload 0), (1, false, .lload 1), (2, false, .invokestatic 0), (5, false, .ifCond .ne (Int.ofNat 10)), (8, false, .iconst 0), (9, false, .ireturn), (10, false, .aload 0), (11, false, .invokestatic 1), (14, false, .iconst 1), (15, false, .ireturn)]
def cq_m_takes : mq_C := ((yX11_takes, cX11_takes, 3, (some .boolean), { frames := 2, cells := 0, slots := 0, locals := 44 }), (2, 1, 0, 0), 1152921504606846976, (fun as ρ μ => match ρ with
  | (nw, sp, tl, tx, al) => mq_pZ as 60 fun as => mq_pL as fun w as => mq_p0 as (μ (60, 0) 7 ≤ μ (60, 0) 6 ∧ 0 ≤ μ (60, 0) 7)),
  (fun as ρ μ r ρ' μ' => match as, ρ, ρ' with
  | [.inr (.inr (some (_, _))), .inr (.inl w)], (nw, sp, tl, tx, al), (nw', sp', tl', tx', al') => [0 ≤ r, r ≤ 1, μ' (60, 0) 7 ≤ μ' (60, 0) 6, 0 ≤ μ' (60, 0) 7, μ (60, 0) 7 ≤ μ' (60, 0) 7]
  | _, _, _ => []))
def kq_m_takes : List mq_V → mq_R → mq_M → List mq_Cu := fun as ρ μ => match as, ρ with
  | [.inr (.inr (some (_, _))), .inr (.inl w)], (nw, sp, tl, tx, al) => []
  | _, _ => []
set_option maxHeartbeats 16000000 in
set_option maxRecDepth 100000 in
theorem vq_m_takes (lc : Launch) (h_m_is : mq_Ct lc cq_m_is) (h_m_next : mq_Ct lc cq_m_next) : mq_Ct lc cq_m_takes := by
  refine mq_method (lc := lc) (P := pq_m_takes) (cl := [cq_m_is, cq_m_next]) (T := ([], [], [], [(178, 0, 0), (182, 1, 0)], [], [])) (fuel := 400) (cuts := kq_m_takes) (by decide) rfl ⟨rfl, rfl⟩ (List.forall_mem_cons.mpr ⟨h_m_is, (List.forall_mem_cons.mpr ⟨h_m_next, (fun _ h => absurd h List.not_mem_nil)⟩)⟩) ⟨(fun _ h => absurd h List.not_mem_nil), (fun _ h => absurd h List.not_mem_nil), (fun _ h => absurd h List.not_mem_nil), (List.forall_mem_cons.mpr ⟨mq_ml0 rfl mw0_m_is kw_809, (List.forall_mem_cons.mpr ⟨mq_ml0 rfl mw0_m_next kw_813, (fun _ h => absurd h List.not_mem_nil)⟩)⟩), (fun _ h => absurd h List.not_mem_nil), (fun _ h => absurd h List.not_mem_nil)⟩ (by decide +kernel) ⟨_, _, rfl⟩ ?_ ?_ ?_ ?_
  · intro as ρ μ h
    obtain ⟨nw, sp, tl, tx, al⟩ := ρ
    obtain ⟨as0, rfl, h0⟩ := mq_pZ_spec h
    clear h
    obtain ⟨w, as1, rfl, h1⟩ := mq_pL_spec h0
    clear h0
    obtain ⟨rfl, hp⟩ := mq_p0_spec h1
    clear h1
    obtain ⟨hp0, hp1⟩ := hp
    rfl
  · intro as ρ μ h
    obtain ⟨nw, sp, tl, tx, al⟩ := ρ
    obtain ⟨as0, rfl, h0⟩ := mq_pZ_spec h
    clear h
    obtain ⟨w, as1, rfl, h1⟩ := mq_pL_spec h0
    clear h0
    obtain ⟨rfl, hp⟩ := mq_p0_spec h1
    clear h1
    obtain ⟨hp0, hp1⟩ := hp
    intro hrg
    obtain ⟨⟨ha1a, ha1b⟩, -⟩ := hrg
    intro hbk
    have hk0 : 0 ≤ μ (60, 0) 6 ∧ μ (60, 0) 6 ≤ 1600 := hbk (60, 0) 6
    have hk1 : 0 ≤ μ (60, 0) 7 ∧ μ (60, 0) 7 ≤ 1600 := hbk (60, 0) 7
    have hk2 : 0 ≤ μ (60, 0) 10 ∧ μ (60, 0) 10 ≤ 1000009 := hbk (60, 0) 10
    have e0 : mq_l0 ([.inr (.inr (some (60, 0))), .inr (.inl w)] : List mq_V) 3 = [some (.inr (.inr (some (60, 0)))), some (.inr (.inl w)), none] := rfl
    rw [e0]
    repeat' (first | refine And.intro ?_ ?_ | intro _)
    all_goals first | omega | rfl | exact trivial | (simp [mq_up] at * <;> omega)
  · intro as ρ μ h
    obtain ⟨nw, sp, tl, tx, al⟩ := ρ
    obtain ⟨as0, rfl, h0⟩ := mq_pZ_spec h
    clear h
    obtain ⟨w, as1, rfl, h1⟩ := mq_pL_spec h0
    clear h0
    obtain ⟨rfl, hp⟩ := mq_p0_spec h1
    clear h1
    obtain ⟨hp0, hp1⟩ := hp
    exact fun _ h => absurd h List.not_mem_nil
  · intro as ρ μ h
    obtain ⟨nw, sp, tl, tx, al⟩ := ρ
    obtain ⟨as0, rfl, h0⟩ := mq_pZ_spec h
    clear h
    obtain ⟨w, as1, rfl, h1⟩ := mq_pL_spec h0
    clear h0
    obtain ⟨rfl, hp⟩ := mq_p0_spec h1
    clear h1
    obtain ⟨hp0, hp1⟩ := hp
    intro hrg
    obtain ⟨⟨ha1a, ha1b⟩, -⟩ := hrg
    exact fun _ h => absurd h List.not_mem_nil
theorem mw0_m_takes : mq_mlA cq_m_takes 0 := ⟨kw_814, ⟨by decide +kernel, by decide +kernel⟩, by decide +kernel, kw_815, kw_816, kw_771, 60, by decide +kernel, fun as ρ μ h => by obtain ⟨nw, sp, tl, tx, al⟩ := ρ; obtain ⟨t, e, _⟩ := mq_pZ_spec h; exact ⟨0, t, e⟩⟩
def pq_m_asks : List mq_E := [(0, false, .aload 0), (1, false, .lload 1), (2, false, .invokestatic 0), (5, false, .ifCond .ne (Int.ofNat 13)), (8, false, .aload 0), (9, false, .iconst 1), (10, false, .invokestatic 1), (13, false, .return_)]
def cq_m_asks : mq_C := ((yX11_asks, cX11_asks, 3, none, { frames := 3, cells := 0, slots := 0, locals := 66 }), (2, 0, 0, 0), 1152921504606846976, (fun as ρ μ => match ρ with
  | (nw, sp, tl, tx, al) => mq_pZ as 60 fun as => mq_pL as fun w as => mq_p0 as (μ (60, 0) 7 ≤ μ (60, 0) 6 ∧ 0 ≤ μ (60, 0) 7)),
  (fun as ρ μ r ρ' μ' => match as, ρ, ρ' with
  | [.inr (.inr (some (_, _))), .inr (.inl w)], (nw, sp, tl, tx, al), (nw', sp', tl', tx', al') => [μ' (60, 0) 7 ≤ μ' (60, 0) 6, 0 ≤ μ' (60, 0) 7, μ (60, 0) 7 ≤ μ' (60, 0) 7]
  | _, _, _ => []))
def kq_m_asks : List mq_V → mq_R → mq_M → List mq_Cu := fun as ρ μ => match as, ρ with
  | [.inr (.inr (some (_, _))), .inr (.inl w)], (nw, sp, tl, tx, al) => []
  | _, _ => []
set_option maxHeartbeats 16000000 in
set_option maxRecDepth 100000 in
theorem vq_m_asks (lc : Launch) (h_m_takes : mq_Ct lc cq_m_takes) (h_m_fails : mq_Ct lc cq_m_fails) : mq_Ct lc cq_m_asks := by
  refine mq_method (lc := lc) (P := pq_m_asks) (cl := [cq_m_takes, cq_m_fails]) (T := ([], [], [], [(185, 0, 0), (188, 1, 0)], [], [])) (fuel := 400) (cuts := kq_m_asks) (by decide) rfl ⟨rfl, rfl⟩ (List.forall_mem_cons.mpr ⟨h_m_takes, (List.forall_mem_cons.mpr ⟨h_m_fails, (fun _ h => absurd h List.not_mem_nil)⟩)⟩) ⟨(fun _ h => absurd h List.not_mem_nil), (fun _ h => absurd h List.not_mem_nil), (fun _ h => absurd h List.not_mem_nil), (List.forall_mem_cons.mpr ⟨mq_ml0 rfl mw0_m_takes kw_817, (List.forall_mem_cons.mpr ⟨mq_ml0 rfl mw0_m_fails kw_821, (fun _ h => absurd h List.not_mem_nil)⟩)⟩), (fun _ h => absurd h List.not_mem_nil), (fun _ h => absurd h List.not_mem_nil)⟩ (by decide +kernel) ⟨_, _, rfl⟩ ?_ ?_ ?_ ?_
  · intro as ρ μ h
    obtain ⟨nw, sp, tl, tx, al⟩ := ρ
    obtain ⟨as0, rfl, h0⟩ := mq_pZ_spec h
    clear h
    obtain ⟨w, as1, rfl, h1⟩ := mq_pL_spec h0
    clear h0
    obtain ⟨rfl, hp⟩ := mq_p0_spec h1
    clear h1
    obtain ⟨hp0, hp1⟩ := hp
    rfl
  · intro as ρ μ h
    obtain ⟨nw, sp, tl, tx, al⟩ := ρ
    obtain ⟨as0, rfl, h0⟩ := mq_pZ_spec h
    clear h
    obtain ⟨w, as1, rfl, h1⟩ := mq_pL_spec h0
    clear h0
    obtain ⟨rfl, hp⟩ := mq_p0_spec h1
    clear h1
    obtain ⟨hp0, hp1⟩ := hp
    intro hrg
    obtain ⟨⟨ha1a, ha1b⟩, -⟩ := hrg
    intro hbk
    have e0 : mq_l0 ([.inr (.inr (some (60, 0))), .inr (.inl w)] : List mq_V) 3 = [some (.inr (.inr (some (60, 0)))), some (.inr (.inl w)), none] := rfl
    rw [e0]
    repeat' (first | refine And.intro ?_ ?_ | intro _)
    all_goals first | omega | rfl | exact trivial | (simp [mq_up] at * <;> omega)
  · intro as ρ μ h
    obtain ⟨nw, sp, tl, tx, al⟩ := ρ
    obtain ⟨as0, rfl, h0⟩ := mq_pZ_spec h
    clear h
    obtain ⟨w, as1, rfl, h1⟩ := mq_pL_spec h0
    clear h0
    obtain ⟨rfl, hp⟩ := mq_p0_spec h1
    clear h1
    obtain ⟨hp0, hp1⟩ := hp
    exact fun _ h => absurd h List.not_mem_nil
  · intro as ρ μ h
    obtain ⟨nw, sp, tl, tx, al⟩ := ρ
    obtain ⟨as0, rfl, h0⟩ := mq_pZ_spec h
    clear h
    obtain ⟨w, as1, rfl, h1⟩ := mq_pL_spec h0
    clear h0
    obtain ⟨rfl, hp⟩ := mq_p0_spec h1
    clear h1
    obtain ⟨hp0, hp1⟩ := hp
    intro hrg
    obtain ⟨⟨ha1a, ha1b⟩, -⟩ := hrg
    exact fun _ h => absurd h List.not_mem_nil
theorem mw0_m_asks : mq_mlA cq_m_asks 0 := ⟨kw_822, ⟨by decide +kernel, by decide +kernel⟩, by decide +kernel, kw_823, kw_824, kw_771, 60, by decide +kernel, fun as ρ μ h => by obtain ⟨nw, sp, tl, tx, al⟩ := ρ; obtain ⟨t, e, _⟩ := mq_pZ_spec h; exact ⟨0, t, e⟩⟩
def pq_m_number : List mq_E := [(0, false, .aload 0), (1, false, .invokeinterface 11 12), (4, false, .ifCond .eq (Int.ofNat 9)), (7, false, .iload 1), (8, false, .ireturn), (9, false, .aload 0), (10, false, .invokeinterface 11 8), (13, false, .iconst 2), (14, false, .if_icmp .eq (Int.ofNat 24)), (17, false, .aload 0), (18, false, .iconst 1), (19, false, .invokestatic 0), (22, false, .iload 1), (23, false, .ireturn), (24, false, .aload 0), (25, false, .invokeinterface 11 10), (28, false, .i2l), (29, false, .iload 1), (30, false, .i2l), (31, false, .iload 2), (32, false, .i2l), (33, false, .invokestatic 1), (36, false, .ifCond .ne (Int.ofNat 46)), (39, false, .aload 0), (40, false, .iconst 2), (41, false, .invokestatic 0), (44, false, .iload 1), (45, false, .ireturn), (46, false, .aload 0), (47, false, .invokeinterface 11 10), (50, false, .istore 3), (51, false, .aload 0), (52, false, .invokestatic 2), (55, false, .iload 3), (56, false, .ireturn)]
def cq_m_number : mq_C := ((yX11_number, cX11_number, 4, (some .int), { frames := 2, cells := 0, slots := 0, locals := 44 }), (3, 1, 0, 0), 1152921504606846976, (fun as ρ μ => match ρ with
  | (nw, sp, tl, tx, al) => mq_pZ as 60 fun as => mq_pI as fun lo as => mq_pI as fun hi as => mq_p0 as (μ (60, 0) 7 ≤ μ (60, 0) 6 ∧ 0 ≤ μ (60, 0) 7)),
  (fun as ρ μ r ρ' μ' => match as, ρ, ρ' with
  | [.inr (.inr (some (_, _))), .inl lo, .inl hi], (nw, sp, tl, tx, al), (nw', sp', tl', tx', al') => [r = lo ∨ (lo ≤ r ∧ r ≤ hi), μ' (60, 0) 7 ≤ μ' (60, 0) 6, 0 ≤ μ' (60, 0) 7, μ (60, 0) 7 ≤ μ' (60, 0) 7]
  | _, _, _ => []))
def kq_m_number : List mq_V → mq_R → mq_M → List mq_Cu := fun as ρ μ => match as, ρ with
  | [.inr (.inr (some (_, _))), .inl lo, .inl hi], (nw, sp, tl, tx, al) => []
  | _, _ => []
set_option maxHeartbeats 16000000 in
set_option maxRecDepth 100000 in
theorem vq_m_number (lc : Launch) (h_m_fails : mq_Ct lc cq_m_fails) (h_m_in : mq_Ct lc cq_m_in) (h_m_next : mq_Ct lc cq_m_next) : mq_Ct lc cq_m_number := by
  refine mq_method (lc := lc) (P := pq_m_number) (cl := [cq_m_fails, cq_m_in, cq_m_next]) (T := ([(172, 11, 12), (161, 11, 8), (154, 11, 10)], [], [], [(188, 0, 0), (125, 1, 1), (182, 2, 0)], [], [])) (fuel := 400) (cuts := kq_m_number) (by decide) rfl ⟨rfl, rfl⟩ (List.forall_mem_cons.mpr ⟨h_m_fails, (List.forall_mem_cons.mpr ⟨h_m_in, (List.forall_mem_cons.mpr ⟨h_m_next, (fun _ h => absurd h List.not_mem_nil)⟩)⟩)⟩) ⟨(List.forall_mem_cons.mpr ⟨⟨_, rfl, by decide, kw_804⟩, (List.forall_mem_cons.mpr ⟨⟨_, rfl, by decide, kw_794⟩, (List.forall_mem_cons.mpr ⟨⟨_, rfl, by decide, kw_792⟩, (fun _ h => absurd h List.not_mem_nil)⟩)⟩)⟩), (fun _ h => absurd h List.not_mem_nil), (fun _ h => absurd h List.not_mem_nil), (List.forall_mem_cons.mpr ⟨mq_ml0 rfl mw0_m_fails kw_821, (List.forall_mem_cons.mpr ⟨mq_ml1 rfl mw1_m_in kw_772, (List.forall_mem_cons.mpr ⟨mq_ml0 rfl mw0_m_next kw_813, (fun _ h => absurd h List.not_mem_nil)⟩)⟩)⟩), (fun _ h => absurd h List.not_mem_nil), (fun _ h => absurd h List.not_mem_nil)⟩ (by decide +kernel) ⟨_, _, rfl⟩ ?_ ?_ ?_ ?_
  · intro as ρ μ h
    obtain ⟨nw, sp, tl, tx, al⟩ := ρ
    obtain ⟨as0, rfl, h0⟩ := mq_pZ_spec h
    clear h
    obtain ⟨lo, as1, rfl, h1⟩ := mq_pI_spec h0
    clear h0
    obtain ⟨hi, as2, rfl, h2⟩ := mq_pI_spec h1
    clear h1
    obtain ⟨rfl, hp⟩ := mq_p0_spec h2
    clear h2
    obtain ⟨hp0, hp1⟩ := hp
    rfl
  · intro as ρ μ h
    obtain ⟨nw, sp, tl, tx, al⟩ := ρ
    obtain ⟨as0, rfl, h0⟩ := mq_pZ_spec h
    clear h
    obtain ⟨lo, as1, rfl, h1⟩ := mq_pI_spec h0
    clear h0
    obtain ⟨hi, as2, rfl, h2⟩ := mq_pI_spec h1
    clear h1
    obtain ⟨rfl, hp⟩ := mq_p0_spec h2
    clear h2
    obtain ⟨hp0, hp1⟩ := hp
    intro hrg
    obtain ⟨⟨ha1a, ha1b⟩, ⟨ha2a, ha2b⟩, -⟩ := hrg
    intro hbk
    have e0 : mq_l0 ([.inr (.inr (some (60, 0))), .inl lo, .inl hi] : List mq_V) 4 = [some (.inr (.inr (some (60, 0)))), some (.inl lo), some (.inl hi), none] := rfl
    rw [e0]
    repeat' (first | refine And.intro ?_ ?_ | intro _)
    all_goals first | omega | rfl | exact trivial | (simp [mq_up] at * <;> omega)
  · intro as ρ μ h
    obtain ⟨nw, sp, tl, tx, al⟩ := ρ
    obtain ⟨as0, rfl, h0⟩ := mq_pZ_spec h
    clear h
    obtain ⟨lo, as1, rfl, h1⟩ := mq_pI_spec h0
    clear h0
    obtain ⟨hi, as2, rfl, h2⟩ := mq_pI_spec h1
    clear h1
    obtain ⟨rfl, hp⟩ := mq_p0_spec h2
    clear h2
    obtain ⟨hp0, hp1⟩ := hp
    exact fun _ h => absurd h List.not_mem_nil
  · intro as ρ μ h
    obtain ⟨nw, sp, tl, tx, al⟩ := ρ
    obtain ⟨as0, rfl, h0⟩ := mq_pZ_spec h
    clear h
    obtain ⟨lo, as1, rfl, h1⟩ := mq_pI_spec h0
    clear h0
    obtain ⟨hi, as2, rfl, h2⟩ := mq_pI_spec h1
    clear h1
    obtain ⟨rfl, hp⟩ := mq_p0_spec h2
    clear h2
    obtain ⟨hp0, hp1⟩ := hp
    intro hrg
    obtain ⟨⟨ha1a, ha1b⟩, ⟨ha2a, ha2b⟩, -⟩ := hrg
    exact fun _ h => absurd h List.not_mem_nil
theorem mw0_m_number : mq_mlA cq_m_number 0 := ⟨kw_826, ⟨by decide +kernel, by decide +kernel⟩, by decide +kernel, kw_827, kw_828, kw_771, 60, by decide +kernel, fun as ρ μ h => by obtain ⟨nw, sp, tl, tx, al⟩ := ρ; obtain ⟨t, e, _⟩ := mq_pZ_spec h; exact ⟨0, t, e⟩⟩
def pq_m_number_ : List mq_E := [(0, false, .aload 0), (1, false, .lload 1), (2, false, .invokestatic 0), (5, false, .aload 0), (6, false, .iload 3), (7, false, .iload 4), (9, false, .invokestatic 1), (12, false, .ireturn)]
def cq_m_number_ : mq_C := ((yX11_number_, cX11_number_, 5, (some .int), { frames := 4, cells := 0, slots := 0, locals := 88 }), (4, 1, 0, 0), 1152921504606846976, (fun as ρ μ => match ρ with
  | (nw, sp, tl, tx, al) => mq_pZ as 60 fun as => mq_pL as fun w as => mq_pI as fun lo as => mq_pI as fun hi as => mq_p0 as (μ (60, 0) 7 ≤ μ (60, 0) 6 ∧ 0 ≤ μ (60, 0) 7)),
  (fun as ρ μ r ρ' μ' => match as, ρ, ρ' with
  | [.inr (.inr (some (_, _))), .inr (.inl w), .inl lo, .inl hi], (nw, sp, tl, tx, al), (nw', sp', tl', tx', al') => [r = lo ∨ (lo ≤ r ∧ r ≤ hi), μ' (60, 0) 7 ≤ μ' (60, 0) 6, 0 ≤ μ' (60, 0) 7, μ (60, 0) 7 ≤ μ' (60, 0) 7]
  | _, _, _ => []))
def kq_m_number_ : List mq_V → mq_R → mq_M → List mq_Cu := fun as ρ μ => match as, ρ with
  | [.inr (.inr (some (_, _))), .inr (.inl w), .inl lo, .inl hi], (nw, sp, tl, tx, al) => []
  | _, _ => []
set_option maxHeartbeats 16000000 in
set_option maxRecDepth 100000 in
theorem vq_m_number_ (lc : Launch) (h_m_asks : mq_Ct lc cq_m_asks) (h_m_number : mq_Ct lc cq_m_number) : mq_Ct lc cq_m_number_ := by
  refine mq_method (lc := lc) (P := pq_m_number_) (cl := [cq_m_asks, cq_m_number]) (T := ([], [], [], [(191, 0, 0), (195, 1, 0)], [], [])) (fuel := 400) (cuts := kq_m_number_) (by decide) rfl ⟨rfl, rfl⟩ (List.forall_mem_cons.mpr ⟨h_m_asks, (List.forall_mem_cons.mpr ⟨h_m_number, (fun _ h => absurd h List.not_mem_nil)⟩)⟩) ⟨(fun _ h => absurd h List.not_mem_nil), (fun _ h => absurd h List.not_mem_nil), (fun _ h => absurd h List.not_mem_nil), (List.forall_mem_cons.mpr ⟨mq_ml0 rfl mw0_m_asks kw_825, (List.forall_mem_cons.mpr ⟨mq_ml0 rfl mw0_m_number kw_829, (fun _ h => absurd h List.not_mem_nil)⟩)⟩), (fun _ h => absurd h List.not_mem_nil), (fun _ h => absurd h List.not_mem_nil)⟩ (by decide +kernel) ⟨_, _, rfl⟩ ?_ ?_ ?_ ?_
  · intro as ρ μ h
    obtain ⟨nw, sp, tl, tx, al⟩ := ρ
    obtain ⟨as0, rfl, h0⟩ := mq_pZ_spec h
    clear h
    obtain ⟨w, as1, rfl, h1⟩ := mq_pL_spec h0
    clear h0
    obtain ⟨lo, as2, rfl, h2⟩ := mq_pI_spec h1
    clear h1
    obtain ⟨hi, as3, rfl, h3⟩ := mq_pI_spec h2
    clear h2
    obtain ⟨rfl, hp⟩ := mq_p0_spec h3
    clear h3
    obtain ⟨hp0, hp1⟩ := hp
    rfl
  · intro as ρ μ h
    obtain ⟨nw, sp, tl, tx, al⟩ := ρ
    obtain ⟨as0, rfl, h0⟩ := mq_pZ_spec h
    clear h
    obtain ⟨w, as1, rfl, h1⟩ := mq_pL_spec h0
    clear h0
    obtain ⟨lo, as2, rfl, h2⟩ := mq_pI_spec h1
    clear h1
    obtain ⟨hi, as3, rfl, h3⟩ := mq_pI_spec h2
    clear h2
    obtain ⟨rfl, hp⟩ := mq_p0_spec h3
    clear h3
    obtain ⟨hp0, hp1⟩ := hp
    intro hrg
    obtain ⟨⟨ha1a, ha1b⟩, ⟨ha2a, ha2b⟩, ⟨ha3a, ha3b⟩, -⟩ := hrg
    intro hbk
    have e0 : mq_l0 ([.inr (.inr (some (60, 0))), .inr (.inl w), .inl lo, .inl hi] : List mq_V) 5 = [some (.inr (.inr (some (60, 0)))), some (.inr (.inl w)), none, some (.inl lo), some (.inl hi)] := rfl
    rw [e0]
    repeat' (first | refine And.intro ?_ ?_ | intro _)
    all_goals first | omega | rfl | exact trivial | (simp [mq_up] at * <;> omega)
  · intro as ρ μ h
    obtain ⟨nw, sp, tl, tx, al⟩ := ρ
    obtain ⟨as0, rfl, h0⟩ := mq_pZ_spec h
    clear h
    obtain ⟨w, as1, rfl, h1⟩ := mq_pL_spec h0
    clear h0
    obtain ⟨lo, as2, rfl, h2⟩ := mq_pI_spec h1
    clear h1
    obtain ⟨hi, as3, rfl, h3⟩ := mq_pI_spec h2
    clear h2
    obtain ⟨rfl, hp⟩ := mq_p0_spec h3
    clear h3
    obtain ⟨hp0, hp1⟩ := hp
    exact fun _ h => absurd h List.not_mem_nil
  · intro as ρ μ h
    obtain ⟨nw, sp, tl, tx, al⟩ := ρ
    obtain ⟨as0, rfl, h0⟩ := mq_pZ_spec h
    clear h
    obtain ⟨w, as1, rfl, h1⟩ := mq_pL_spec h0
    clear h0
    obtain ⟨lo, as2, rfl, h2⟩ := mq_pI_spec h1
    clear h1
    obtain ⟨hi, as3, rfl, h3⟩ := mq_pI_spec h2
    clear h2
    obtain ⟨rfl, hp⟩ := mq_p0_spec h3
    clear h3
    obtain ⟨hp0, hp1⟩ := hp
    intro hrg
    obtain ⟨⟨ha1a, ha1b⟩, ⟨ha2a, ha2b⟩, ⟨ha3a, ha3b⟩, -⟩ := hrg
    exact fun _ h => absurd h List.not_mem_nil
theorem mw0_m_number_ : mq_mlA cq_m_number_ 0 := ⟨kw_1115, ⟨by decide +kernel, by decide +kernel⟩, by decide +kernel, kw_1116, kw_1117, kw_771, 60, by decide +kernel, fun as ρ μ h => by obtain ⟨nw, sp, tl, tx, al⟩ := ρ; obtain ⟨t, e, _⟩ := mq_pZ_spec h; exact ⟨0, t, e⟩⟩
def pq_m_ends : List mq_E := [(0, false, .aload 0), (1, false, .invokeinterface 11 8), (4, false, .iconst 3), (5, false, .if_icmp .eq (Int.ofNat 13)), (8, false, .aload 0), (9, false, .iconst 1), (10, false, .invokestatic 0), (13, false, .aload 0), (14, false, .invokeinterface 11 12), (17, false, .ifCond .ne (Int.ofNat 24)), (20, false, .aload 0), (21, false, .invokestatic 1), (24, false, .return_)]
def cq_m_ends : mq_C := ((yX11_ends, cX11_ends, 1, none, { frames := 2, cells := 0, slots := 0, locals := 44 }), (1, 0, 0, 0), 1152921504606846976, (fun as ρ μ => match ρ with
  | (nw, sp, tl, tx, al) => mq_pZ as 60 fun as => mq_p0 as (μ (60, 0) 7 ≤ μ (60, 0) 6 ∧ 0 ≤ μ (60, 0) 7)),
  (fun as ρ μ r ρ' μ' => match as, ρ, ρ' with
  | [.inr (.inr (some (_, _)))], (nw, sp, tl, tx, al), (nw', sp', tl', tx', al') => [μ' (60, 0) 7 ≤ μ' (60, 0) 6, 0 ≤ μ' (60, 0) 7, μ (60, 0) 7 ≤ μ' (60, 0) 7, ¬ μ' (60, 0) 12 = 0 ∨ μ' (60, 0) 8 = 0 ∨ μ (60, 0) 7 < μ' (60, 0) 7, 0 ≤ μ' (60, 0) 8, μ' (60, 0) 8 ≤ 4, 0 ≤ μ' (60, 0) 12]
  | _, _, _ => []))
def kq_m_ends : List mq_V → mq_R → mq_M → List mq_Cu := fun as ρ μ => match as, ρ with
  | [.inr (.inr (some (_, _)))], (nw, sp, tl, tx, al) => []
  | _, _ => []
set_option maxHeartbeats 16000000 in
set_option maxRecDepth 100000 in
theorem vq_m_ends (lc : Launch) (h_m_fails : mq_Ct lc cq_m_fails) (h_m_next : mq_Ct lc cq_m_next) : mq_Ct lc cq_m_ends := by
  refine mq_method (lc := lc) (P := pq_m_ends) (cl := [cq_m_fails, cq_m_next]) (T := ([(161, 11, 8), (172, 11, 12)], [], [], [(188, 0, 0), (182, 1, 0)], [], [])) (fuel := 400) (cuts := kq_m_ends) (by decide) rfl ⟨rfl, rfl⟩ (List.forall_mem_cons.mpr ⟨h_m_fails, (List.forall_mem_cons.mpr ⟨h_m_next, (fun _ h => absurd h List.not_mem_nil)⟩)⟩) ⟨(List.forall_mem_cons.mpr ⟨⟨_, rfl, by decide, kw_794⟩, (List.forall_mem_cons.mpr ⟨⟨_, rfl, by decide, kw_804⟩, (fun _ h => absurd h List.not_mem_nil)⟩)⟩), (fun _ h => absurd h List.not_mem_nil), (fun _ h => absurd h List.not_mem_nil), (List.forall_mem_cons.mpr ⟨mq_ml0 rfl mw0_m_fails kw_821, (List.forall_mem_cons.mpr ⟨mq_ml0 rfl mw0_m_next kw_813, (fun _ h => absurd h List.not_mem_nil)⟩)⟩), (fun _ h => absurd h List.not_mem_nil), (fun _ h => absurd h List.not_mem_nil)⟩ (by decide +kernel) ⟨_, _, rfl⟩ ?_ ?_ ?_ ?_
  · intro as ρ μ h
    obtain ⟨nw, sp, tl, tx, al⟩ := ρ
    obtain ⟨as0, rfl, h0⟩ := mq_pZ_spec h
    clear h
    obtain ⟨rfl, hp⟩ := mq_p0_spec h0
    clear h0
    obtain ⟨hp0, hp1⟩ := hp
    rfl
  · intro as ρ μ h
    obtain ⟨nw, sp, tl, tx, al⟩ := ρ
    obtain ⟨as0, rfl, h0⟩ := mq_pZ_spec h
    clear h
    obtain ⟨rfl, hp⟩ := mq_p0_spec h0
    clear h0
    obtain ⟨hp0, hp1⟩ := hp
    intro hrg
    intro hbk
    have hk0 : 0 ≤ μ (60, 0) 8 ∧ μ (60, 0) 8 ≤ 4 := hbk (60, 0) 8
    have hk1 : 0 ≤ μ (60, 0) 12 ∧ μ (60, 0) 12 ≤ 3 := hbk (60, 0) 12
    have e0 : mq_l0 ([.inr (.inr (some (60, 0)))] : List mq_V) 1 = [some (.inr (.inr (some (60, 0))))] := rfl
    rw [e0]
    repeat' (first | refine And.intro ?_ ?_ | intro _)
    all_goals try simp only [Int.reduceToNat, Int.reduceAdd, mq_up_f, mq_up_s, mq_up_e, ne_eq, Nat.reduceEqDiff, not_false_eq_true, true_and, and_true, false_and, and_false, false_or, or_false, true_or, or_true, true_implies] at *
    all_goals first | omega | rfl | exact trivial | assumption
  · intro as ρ μ h
    obtain ⟨nw, sp, tl, tx, al⟩ := ρ
    obtain ⟨as0, rfl, h0⟩ := mq_pZ_spec h
    clear h
    obtain ⟨rfl, hp⟩ := mq_p0_spec h0
    clear h0
    obtain ⟨hp0, hp1⟩ := hp
    exact fun _ h => absurd h List.not_mem_nil
  · intro as ρ μ h
    obtain ⟨nw, sp, tl, tx, al⟩ := ρ
    obtain ⟨as0, rfl, h0⟩ := mq_pZ_spec h
    clear h
    obtain ⟨rfl, hp⟩ := mq_p0_spec h0
    clear h0
    obtain ⟨hp0, hp1⟩ := hp
    intro hrg
    exact fun _ h => absurd h List.not_mem_nil
theorem mw0_m_ends : mq_mlA cq_m_ends 0 := ⟨kw_1169, ⟨by decide +kernel, by decide +kernel⟩, by decide +kernel, kw_1170, kw_1171, kw_771, 60, by decide +kernel, fun as ρ μ h => by obtain ⟨nw, sp, tl, tx, al⟩ := ρ; obtain ⟨t, e, _⟩ := mq_pZ_spec h; exact ⟨0, t, e⟩⟩
def pq_m_begins : List mq_E := [(0, false, .aload 0), (1, false, .iconst 0), (2, false, .multianewarray 11 12), (5, false, .aload 0), (6, false, .iconst (-1)), (7, false, .multianewarray 11 13), (10, false, .aload 0), (11, false, .iconst 0), (12, false, .multianewarray 11 7), (15, false, .aload 0), (16, false, .invokestatic 0), (19, false, .return_)]
def cq_m_begins : mq_C := ((yX11_begins, cX11_begins, 1, none, { frames := 2, cells := 0, slots := 0, locals := 44 }), (1, 0, 0, 0), 1152921504606846976, (fun as ρ μ => match ρ with
  | (nw, sp, tl, tx, al) => mq_pZ as 60 fun as => mq_p0 as (True)),
  (fun as ρ μ r ρ' μ' => match as, ρ, ρ' with
  | [.inr (.inr (some (_, _)))], (nw, sp, tl, tx, al), (nw', sp', tl', tx', al') => [μ' (60, 0) 7 ≤ μ' (60, 0) 6, 0 ≤ μ' (60, 0) 7, 0 ≤ μ' (60, 0) 8, μ' (60, 0) 8 ≤ 4, μ' (60, 0) 12 = 0]
  | _, _, _ => []))
def kq_m_begins : List mq_V → mq_R → mq_M → List mq_Cu := fun as ρ μ => match as, ρ with
  | [.inr (.inr (some (_, _)))], (nw, sp, tl, tx, al) => []
  | _, _ => []
set_option maxHeartbeats 16000000 in
set_option maxRecDepth 100000 in
theorem vq_m_begins (lc : Launch) (h_m_next : mq_Ct lc cq_m_next) : mq_Ct lc cq_m_begins := by
  refine mq_method (lc := lc) (P := pq_m_begins) (cl := [cq_m_next]) (T := ([(172, 11, 12), (175, 11, 13), (144, 11, 7)], [], [], [(182, 0, 0)], [], [])) (fuel := 400) (cuts := kq_m_begins) (by decide) rfl ⟨rfl, rfl⟩ (List.forall_mem_cons.mpr ⟨h_m_next, (fun _ h => absurd h List.not_mem_nil)⟩) ⟨(List.forall_mem_cons.mpr ⟨⟨_, rfl, by decide, kw_804⟩, (List.forall_mem_cons.mpr ⟨⟨_, rfl, by decide, kw_805⟩, (List.forall_mem_cons.mpr ⟨⟨_, rfl, by decide, kw_790⟩, (fun _ h => absurd h List.not_mem_nil)⟩)⟩)⟩), (fun _ h => absurd h List.not_mem_nil), (fun _ h => absurd h List.not_mem_nil), (List.forall_mem_cons.mpr ⟨mq_ml0 rfl mw0_m_next kw_813, (fun _ h => absurd h List.not_mem_nil)⟩), (fun _ h => absurd h List.not_mem_nil), (fun _ h => absurd h List.not_mem_nil)⟩ (by decide +kernel) ⟨_, _, rfl⟩ ?_ ?_ ?_ ?_
  · intro as ρ μ h
    obtain ⟨nw, sp, tl, tx, al⟩ := ρ
    obtain ⟨as0, rfl, h0⟩ := mq_pZ_spec h
    clear h
    obtain ⟨rfl, hp⟩ := mq_p0_spec h0
    clear h0
    rfl
  · intro as ρ μ h
    obtain ⟨nw, sp, tl, tx, al⟩ := ρ
    obtain ⟨as0, rfl, h0⟩ := mq_pZ_spec h
    clear h
    obtain ⟨rfl, hp⟩ := mq_p0_spec h0
    clear h0
    intro hrg
    intro hbk
    have hk0 : 0 ≤ μ (60, 0) 6 ∧ μ (60, 0) 6 ≤ 1600 := hbk (60, 0) 6
    have hk1 : 0 ≤ μ (60, 0) 7 ∧ μ (60, 0) 7 ≤ 1600 := hbk (60, 0) 7
    have hk2 : 0 ≤ μ (60, 0) 10 ∧ μ (60, 0) 10 ≤ 1000009 := hbk (60, 0) 10
    have e0 : mq_l0 ([.inr (.inr (some (60, 0)))] : List mq_V) 1 = [some (.inr (.inr (some (60, 0))))] := rfl
    rw [e0]
    repeat' (first | refine And.intro ?_ ?_ | intro _)
    all_goals try simp only [Int.reduceToNat, Int.reduceAdd, mq_up_f, mq_up_s, mq_up_e, ne_eq, Nat.reduceEqDiff, not_false_eq_true, true_and, and_true, false_and, and_false, false_or, or_false, true_or, or_true, true_implies] at *
    all_goals first | omega | rfl | exact trivial | assumption
  · intro as ρ μ h
    obtain ⟨nw, sp, tl, tx, al⟩ := ρ
    obtain ⟨as0, rfl, h0⟩ := mq_pZ_spec h
    clear h
    obtain ⟨rfl, hp⟩ := mq_p0_spec h0
    clear h0
    exact fun _ h => absurd h List.not_mem_nil
  · intro as ρ μ h
    obtain ⟨nw, sp, tl, tx, al⟩ := ρ
    obtain ⟨as0, rfl, h0⟩ := mq_pZ_spec h
    clear h
    obtain ⟨rfl, hp⟩ := mq_p0_spec h0
    clear h0
    intro hrg
    exact fun _ h => absurd h List.not_mem_nil
theorem mw0_m_begins : mq_mlA cq_m_begins 0 := ⟨kw_1161, ⟨by decide +kernel, by decide +kernel⟩, by decide +kernel, kw_1162, kw_1163, kw_771, 60, by decide +kernel, fun as ρ μ h => by obtain ⟨nw, sp, tl, tx, al⟩ := ρ; obtain ⟨t, e, _⟩ := mq_pZ_spec h; exact ⟨0, t, e⟩⟩
def pq_m_isOver : List mq_E := [(0, false, .aload 0), (1, false, .iconst 0), (2, false, .multianewarray 11 6), (5, false, .aload 0), (6, false, .aload 0), (7, false, .invokeinterface 11 12), (10, false, .multianewarray 11 14), (13, false, .aload 0), (14, false, .aload 0), (15, false, .invokeinterface 11 12), (18, false, .ifCond .ne (Int.ofNat 25)), (21, false, .iconst (-1)), (22, false, .goto (Int.ofNat 29)), (25, false, .aload 0), (26, false, .invokeinterface 11 13), (29, false, .multianewarray 11 15), (32, false, .return_)]
def cq_m_isOver : mq_C := ((yX11_isOver, cX11_isOver, 1, none, { frames := 0, cells := 0, slots := 0, locals := 0 }), (1, 0, 0, 0), 1152921504606846976, (fun as ρ μ => match ρ with
  | (nw, sp, tl, tx, al) => mq_pZ as 60 fun as => mq_p0 as (True)),
  (fun as ρ μ r ρ' μ' => match as, ρ, ρ' with
  | [.inr (.inr (some (_, _)))], (nw, sp, tl, tx, al), (nw', sp', tl', tx', al') => []
  | _, _, _ => []))
def kq_m_isOver : List mq_V → mq_R → mq_M → List mq_Cu := fun as ρ μ => match as, ρ with
  | [.inr (.inr (some (_, _)))], (nw, sp, tl, tx, al) => []
  | _, _ => []
set_option maxHeartbeats 16000000 in
set_option maxRecDepth 100000 in
theorem vq_m_isOver (lc : Launch)  : mq_Ct lc cq_m_isOver := by
  refine mq_method (lc := lc) (P := pq_m_isOver) (cl := []) (T := ([(137, 11, 6), (172, 11, 12), (199, 11, 14), (175, 11, 13), (27, 11, 15)], [], [], [], [], [])) (fuel := 400) (cuts := kq_m_isOver) (by decide) rfl ⟨rfl, rfl⟩ (fun _ h => absurd h List.not_mem_nil) ⟨(List.forall_mem_cons.mpr ⟨⟨_, rfl, by decide, kw_785⟩, (List.forall_mem_cons.mpr ⟨⟨_, rfl, by decide, kw_804⟩, (List.forall_mem_cons.mpr ⟨⟨_, rfl, by decide, kw_830⟩, (List.forall_mem_cons.mpr ⟨⟨_, rfl, by decide, kw_805⟩, (List.forall_mem_cons.mpr ⟨⟨_, rfl, by decide, kw_831⟩, (fun _ h => absurd h List.not_mem_nil)⟩)⟩)⟩)⟩)⟩), (fun _ h => absurd h List.not_mem_nil), (fun _ h => absurd h List.not_mem_nil), (fun _ h => absurd h List.not_mem_nil), (fun _ h => absurd h List.not_mem_nil), (fun _ h => absurd h List.not_mem_nil)⟩ (by decide +kernel) ⟨_, _, rfl⟩ ?_ ?_ ?_ ?_
  · intro as ρ μ h
    obtain ⟨nw, sp, tl, tx, al⟩ := ρ
    obtain ⟨as0, rfl, h0⟩ := mq_pZ_spec h
    clear h
    obtain ⟨rfl, hp⟩ := mq_p0_spec h0
    clear h0
    rfl
  · intro as ρ μ h
    obtain ⟨nw, sp, tl, tx, al⟩ := ρ
    obtain ⟨as0, rfl, h0⟩ := mq_pZ_spec h
    clear h
    obtain ⟨rfl, hp⟩ := mq_p0_spec h0
    clear h0
    intro hrg
    intro hbk
    have e0 : mq_l0 ([.inr (.inr (some (60, 0)))] : List mq_V) 1 = [some (.inr (.inr (some (60, 0))))] := rfl
    rw [e0]
    repeat' (first | refine And.intro ?_ ?_ | intro _)
    all_goals first | omega | rfl | exact trivial | (simp [mq_up] at * <;> omega)
  · intro as ρ μ h
    obtain ⟨nw, sp, tl, tx, al⟩ := ρ
    obtain ⟨as0, rfl, h0⟩ := mq_pZ_spec h
    clear h
    obtain ⟨rfl, hp⟩ := mq_p0_spec h0
    clear h0
    exact fun _ h => absurd h List.not_mem_nil
  · intro as ρ μ h
    obtain ⟨nw, sp, tl, tx, al⟩ := ρ
    obtain ⟨as0, rfl, h0⟩ := mq_pZ_spec h
    clear h
    obtain ⟨rfl, hp⟩ := mq_p0_spec h0
    clear h0
    intro hrg
    exact fun _ h => absurd h List.not_mem_nil
theorem mw0_m_isOver : mq_mlA cq_m_isOver 0 := ⟨kw_1173, ⟨by decide +kernel, by decide +kernel⟩, by decide +kernel, kw_1174, kw_1175, kw_771, 60, by decide +kernel, fun as ρ μ h => by obtain ⟨nw, sp, tl, tx, al⟩ := ρ; obtain ⟨t, e, _⟩ := mq_pZ_spec h; exact ⟨0, t, e⟩⟩
def pq_m_fault : List mq_E := [(0, false, .aload 0), (1, false, .iconst 0), (2, false, .multianewarray 11 0), (5, false, .iload 1), (6, false, .ifCond .ne (Int.ofNat 16)), (9, false, .aload 0), (10, false, .invokeinterface 11 14), (13, false, .goto (Int.ofNat 29)), (16, false, .iload 1), (17, false, .iconst 1), (18, false, .if_icmp .ne (Int.ofNat 28)), (21, false, .aload 0), (22, false, .invokeinterface 11 15), (25, false, .goto (Int.ofNat 29)), (28, false, .iconst (-1)), (29, false, .ireturn)]
def cq_m_fault : mq_C := ((yX11_fault, cX11_fault, 2, (some .int), { frames := 0, cells := 0, slots := 0, locals := 0 }), (2, 1, 0, 0), 1152921504606846976, (fun as ρ μ => match ρ with
  | (nw, sp, tl, tx, al) => mq_pZ as 60 fun as => mq_pI as fun w as => mq_p0 as (True)),
  (fun as ρ μ r ρ' μ' => match as, ρ, ρ' with
  | [.inr (.inr (some (_, _))), .inl w], (nw, sp, tl, tx, al), (nw', sp', tl', tx', al') => []
  | _, _, _ => []))
def kq_m_fault : List mq_V → mq_R → mq_M → List mq_Cu := fun as ρ μ => match as, ρ with
  | [.inr (.inr (some (_, _))), .inl w], (nw, sp, tl, tx, al) => []
  | _, _ => []
set_option maxHeartbeats 16000000 in
set_option maxRecDepth 100000 in
theorem vq_m_fault (lc : Launch)  : mq_Ct lc cq_m_fault := by
  refine mq_method (lc := lc) (P := pq_m_fault) (cl := []) (T := ([(120, 11, 0), (199, 11, 14), (27, 11, 15)], [], [], [], [], [])) (fuel := 400) (cuts := kq_m_fault) (by decide) rfl ⟨rfl, rfl⟩ (fun _ h => absurd h List.not_mem_nil) ⟨(List.forall_mem_cons.mpr ⟨⟨_, rfl, by decide, kw_773⟩, (List.forall_mem_cons.mpr ⟨⟨_, rfl, by decide, kw_830⟩, (List.forall_mem_cons.mpr ⟨⟨_, rfl, by decide, kw_831⟩, (fun _ h => absurd h List.not_mem_nil)⟩)⟩)⟩), (fun _ h => absurd h List.not_mem_nil), (fun _ h => absurd h List.not_mem_nil), (fun _ h => absurd h List.not_mem_nil), (fun _ h => absurd h List.not_mem_nil), (fun _ h => absurd h List.not_mem_nil)⟩ (by decide +kernel) ⟨_, _, rfl⟩ ?_ ?_ ?_ ?_
  · intro as ρ μ h
    obtain ⟨nw, sp, tl, tx, al⟩ := ρ
    obtain ⟨as0, rfl, h0⟩ := mq_pZ_spec h
    clear h
    obtain ⟨w, as1, rfl, h1⟩ := mq_pI_spec h0
    clear h0
    obtain ⟨rfl, hp⟩ := mq_p0_spec h1
    clear h1
    rfl
  · intro as ρ μ h
    obtain ⟨nw, sp, tl, tx, al⟩ := ρ
    obtain ⟨as0, rfl, h0⟩ := mq_pZ_spec h
    clear h
    obtain ⟨w, as1, rfl, h1⟩ := mq_pI_spec h0
    clear h0
    obtain ⟨rfl, hp⟩ := mq_p0_spec h1
    clear h1
    intro hrg
    obtain ⟨⟨ha1a, ha1b⟩, -⟩ := hrg
    intro hbk
    have e0 : mq_l0 ([.inr (.inr (some (60, 0))), .inl w] : List mq_V) 2 = [some (.inr (.inr (some (60, 0)))), some (.inl w)] := rfl
    rw [e0]
    repeat' (first | refine And.intro ?_ ?_ | intro _)
    all_goals first | omega | rfl | exact trivial | (simp [mq_up] at * <;> omega)
  · intro as ρ μ h
    obtain ⟨nw, sp, tl, tx, al⟩ := ρ
    obtain ⟨as0, rfl, h0⟩ := mq_pZ_spec h
    clear h
    obtain ⟨w, as1, rfl, h1⟩ := mq_pI_spec h0
    clear h0
    obtain ⟨rfl, hp⟩ := mq_p0_spec h1
    clear h1
    exact fun _ h => absurd h List.not_mem_nil
  · intro as ρ μ h
    obtain ⟨nw, sp, tl, tx, al⟩ := ρ
    obtain ⟨as0, rfl, h0⟩ := mq_pZ_spec h
    clear h
    obtain ⟨w, as1, rfl, h1⟩ := mq_pI_spec h0
    clear h0
    obtain ⟨rfl, hp⟩ := mq_p0_spec h1
    clear h1
    intro hrg
    obtain ⟨⟨ha1a, ha1b⟩, -⟩ := hrg
    exact fun _ h => absurd h List.not_mem_nil
