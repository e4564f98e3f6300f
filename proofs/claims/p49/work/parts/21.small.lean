def pq_isAmong : List mq_E := [(0, false, .iload 0), (1, false, .iload 1), (2, false, .if_icmp .lt (Int.ofNat 14)), (5, false, .iload 0), (6, false, .iload 2), (7, false, .if_icmp .gt (Int.ofNat 14)), (10, false, .iconst 1), (11, false, .goto (Int.ofNat 15)), (14, false, .iconst 0), (15, false, .ireturn)]
def cq_isAmong : mq_C := ((yX10_isAmong, cX10_isAmong, 3, (some .boolean), { frames := 0, cells := 0, slots := 0, locals := 0 }), (3, 1, 0, 0), 0, (fun as ρ μ => match ρ with
  | (nw, sp, tl, tx, al) => mq_pI as fun x as => mq_pI as fun lo as => mq_pI as fun hi as => mq_p0 as (True)),
  (fun as ρ μ r ρ' μ' => match as, ρ, ρ' with
  | [.inl x, .inl lo, .inl hi], (nw, sp, tl, tx, al), (nw', sp', tl', tx', al') => [(r = 1 ∧ lo ≤ x ∧ x ≤ hi) ∨ (r = 0 ∧ (x < lo ∨ hi < x))]
  | _, _, _ => []))
def kq_isAmong : List mq_V → mq_R → mq_M → List mq_Cu := fun as ρ μ => match as, ρ with
  | [.inl x, .inl lo, .inl hi], (nw, sp, tl, tx, al) => []
  | _, _ => []
set_option maxHeartbeats 16000000 in
set_option maxRecDepth 100000 in
theorem vq_isAmong (lc : Launch)  : mq_Ct lc cq_isAmong := by
  refine mq_method (lc := lc) (P := pq_isAmong) (cl := []) (T := ([], [], [], [], [], [])) (fuel := 400) (cuts := kq_isAmong) (by decide) rfl ⟨rfl, rfl⟩ (fun _ h => absurd h List.not_mem_nil) ⟨(fun _ h => absurd h List.not_mem_nil), (fun _ h => absurd h List.not_mem_nil), (fun _ h => absurd h List.not_mem_nil), (fun _ h => absurd h List.not_mem_nil), (fun _ h => absurd h List.not_mem_nil), (fun _ h => absurd h List.not_mem_nil)⟩ (by decide +kernel) ⟨_, _, rfl⟩ ?_ ?_ ?_ ?_
  · intro as ρ μ h
    obtain ⟨nw, sp, tl, tx, al⟩ := ρ
    obtain ⟨x, as0, rfl, h0⟩ := mq_pI_spec h
    clear h
    obtain ⟨lo, as1, rfl, h1⟩ := mq_pI_spec h0
    clear h0
    obtain ⟨hi, as2, rfl, h2⟩ := mq_pI_spec h1
    clear h1
    obtain ⟨rfl, hp⟩ := mq_p0_spec h2
    clear h2
    rfl
  · intro as ρ μ h
    obtain ⟨nw, sp, tl, tx, al⟩ := ρ
    obtain ⟨x, as0, rfl, h0⟩ := mq_pI_spec h
    clear h
    obtain ⟨lo, as1, rfl, h1⟩ := mq_pI_spec h0
    clear h0
    obtain ⟨hi, as2, rfl, h2⟩ := mq_pI_spec h1
    clear h1
    obtain ⟨rfl, hp⟩ := mq_p0_spec h2
    clear h2
    intro hrg
    obtain ⟨⟨ha0a, ha0b⟩, ⟨ha1a, ha1b⟩, ⟨ha2a, ha2b⟩, -⟩ := hrg
    intro hbk
    have e0 : mq_l0 ([.inl x, .inl lo, .inl hi] : List mq_V) 3 = [some (.inl x), some (.inl lo), some (.inl hi)] := rfl
    rw [e0]
    repeat' (first | refine And.intro ?_ ?_ | intro _)
    all_goals first | omega | rfl | exact trivial | (simp [mq_up] at * <;> omega)
  · intro as ρ μ h
    obtain ⟨nw, sp, tl, tx, al⟩ := ρ
    obtain ⟨x, as0, rfl, h0⟩ := mq_pI_spec h
    clear h
    obtain ⟨lo, as1, rfl, h1⟩ := mq_pI_spec h0
    clear h0
    obtain ⟨hi, as2, rfl, h2⟩ := mq_pI_spec h1
    clear h1
    obtain ⟨rfl, hp⟩ := mq_p0_spec h2
    clear h2
    exact fun _ h => absurd h List.not_mem_nil
  · intro as ρ μ h
    obtain ⟨nw, sp, tl, tx, al⟩ := ρ
    obtain ⟨x, as0, rfl, h0⟩ := mq_pI_spec h
    clear h
    obtain ⟨lo, as1, rfl, h1⟩ := mq_pI_spec h0
    clear h0
    obtain ⟨hi, as2, rfl, h2⟩ := mq_pI_spec h1
    clear h1
    obtain ⟨rfl, hp⟩ := mq_p0_spec h2
    clear h2
    intro hrg
    obtain ⟨⟨ha0a, ha0b⟩, ⟨ha1a, ha1b⟩, ⟨ha2a, ha2b⟩, -⟩ := hrg
    exact fun _ h => absurd h List.not_mem_nil
theorem mw1_isAmong : mq_mlA cq_isAmong 1 := ⟨kw_93, ⟨by decide +kernel, by decide +kernel⟩, by decide +kernel, kw_94, kw_95⟩
def pq_cellOf : List mq_E := [(0, false, .iload 0), (1, false, .iconst 16), (3, false, .imul), (4, false, .iload 1), (5, false, .iadd), (6, false, .ireturn)]
def cq_cellOf : mq_C := ((yX10_cellOf, cX10_cellOf, 2, (some .int), { frames := 0, cells := 0, slots := 0, locals := 0 }), (2, 1, 0, 0), 0, (fun as ρ μ => match ρ with
  | (nw, sp, tl, tx, al) => mq_pI as fun y as => mq_pI as fun v as => mq_p0 as (0 ≤ y ∧ y ≤ 400 ∧ 0 ≤ v ∧ v ≤ 15)),
  (fun as ρ μ r ρ' μ' => match as, ρ, ρ' with
  | [.inl y, .inl v], (nw, sp, tl, tx, al), (nw', sp', tl', tx', al') => [r = 16 * y + v]
  | _, _, _ => []))
def kq_cellOf : List mq_V → mq_R → mq_M → List mq_Cu := fun as ρ μ => match as, ρ with
  | [.inl y, .inl v], (nw, sp, tl, tx, al) => []
  | _, _ => []
set_option maxHeartbeats 16000000 in
set_option maxRecDepth 100000 in
theorem vq_cellOf (lc : Launch)  : mq_Ct lc cq_cellOf := by
  refine mq_method (lc := lc) (P := pq_cellOf) (cl := []) (T := ([], [], [], [], [], [])) (fuel := 400) (cuts := kq_cellOf) (by decide) rfl ⟨rfl, rfl⟩ (fun _ h => absurd h List.not_mem_nil) ⟨(fun _ h => absurd h List.not_mem_nil), (fun _ h => absurd h List.not_mem_nil), (fun _ h => absurd h List.not_mem_nil), (fun _ h => absurd h List.not_mem_nil), (fun _ h => absurd h List.not_mem_nil), (fun _ h => absurd h List.not_mem_nil)⟩ (by decide +kernel) ⟨_, _, rfl⟩ ?_ ?_ ?_ ?_
  · intro as ρ μ h
    obtain ⟨nw, sp, tl, tx, al⟩ := ρ
    obtain ⟨y, as0, rfl, h0⟩ := mq_pI_spec h
    clear h
    obtain ⟨v, as1, rfl, h1⟩ := mq_pI_spec h0
    clear h0
    obtain ⟨rfl, hp⟩ := mq_p0_spec h1
    clear h1
    obtain ⟨hp0, hp1, hp2, hp3⟩ := hp
    rfl
  · intro as ρ μ h
    obtain ⟨nw, sp, tl, tx, al⟩ := ρ
    obtain ⟨y, as0, rfl, h0⟩ := mq_pI_spec h
    clear h
    obtain ⟨v, as1, rfl, h1⟩ := mq_pI_spec h0
    clear h0
    obtain ⟨rfl, hp⟩ := mq_p0_spec h1
    clear h1
    obtain ⟨hp0, hp1, hp2, hp3⟩ := hp
    intro hrg
    obtain ⟨⟨ha0a, ha0b⟩, ⟨ha1a, ha1b⟩, -⟩ := hrg
    intro hbk
    have e0 : mq_l0 ([.inl y, .inl v] : List mq_V) 2 = [some (.inl y), some (.inl v)] := rfl
    rw [e0]
    repeat' (first | refine And.intro ?_ ?_ | intro _)
    all_goals first | omega | rfl | exact trivial | (simp [mq_up] at * <;> omega)
  · intro as ρ μ h
    obtain ⟨nw, sp, tl, tx, al⟩ := ρ
    obtain ⟨y, as0, rfl, h0⟩ := mq_pI_spec h
    clear h
    obtain ⟨v, as1, rfl, h1⟩ := mq_pI_spec h0
    clear h0
    obtain ⟨rfl, hp⟩ := mq_p0_spec h1
    clear h1
    obtain ⟨hp0, hp1, hp2, hp3⟩ := hp
    exact fun _ h => absurd h List.not_mem_nil
  · intro as ρ μ h
    obtain ⟨nw, sp, tl, tx, al⟩ := ρ
    obtain ⟨y, as0, rfl, h0⟩ := mq_pI_spec h
    clear h
    obtain ⟨v, as1, rfl, h1⟩ := mq_pI_spec h0
    clear h0
    obtain ⟨rfl, hp⟩ := mq_p0_spec h1
    clear h1
    obtain ⟨hp0, hp1, hp2, hp3⟩ := hp
    intro hrg
    obtain ⟨⟨ha0a, ha0b⟩, ⟨ha1a, ha1b⟩, -⟩ := hrg
    exact fun _ h => absurd h List.not_mem_nil
theorem mw1_cellOf : mq_mlA cq_cellOf 1 := ⟨kw_142, ⟨by decide +kernel, by decide +kernel⟩, by decide +kernel, kw_143, kw_95⟩
def pq_speedLess : List mq_E := [(0, false, .iload 0), (1, false, .iload 1), (2, false, .fsub), (3, false, .istore 2), (4, false, .iload 2), (5, false, .ifCond .ge (Int.ofNat 10)), (8, false, .iconst 0), (9, false, .ireturn), (10, false, .iload 2), (11, false, .iconst 15), (13, false, .if_icmp .le (Int.ofNat 21)), (16, false, .iconst 15), (18, false, .goto (Int.ofNat 22)), (21, false, .iload 2), (22, false, .ireturn)]
def cq_speedLess : mq_C := ((yX10_speedLess, cX10_speedLess, 3, (some .int), { frames := 0, cells := 0, slots := 0, locals := 0 }), (2, 1, 0, 0), 0, (fun as ρ μ => match ρ with
  | (nw, sp, tl, tx, al) => mq_pI as fun v as => mq_pI as fun t as => mq_p0 as (True)),
  (fun as ρ μ r ρ' μ' => match as, ρ, ρ' with
  | [.inl v, .inl t], (nw, sp, tl, tx, al), (nw', sp', tl', tx', al') => [0 ≤ r, r ≤ 15]
  | _, _, _ => []))
def kq_speedLess : List mq_V → mq_R → mq_M → List mq_Cu := fun as ρ μ => match as, ρ with
  | [.inl v, .inl t], (nw, sp, tl, tx, al) => []
  | _, _ => []
set_option maxHeartbeats 16000000 in
set_option maxRecDepth 100000 in
theorem vq_speedLess (lc : Launch)  : mq_Ct lc cq_speedLess := by
  refine mq_method (lc := lc) (P := pq_speedLess) (cl := []) (T := ([], [], [], [], [], [])) (fuel := 400) (cuts := kq_speedLess) (by decide) rfl ⟨rfl, rfl⟩ (fun _ h => absurd h List.not_mem_nil) ⟨(fun _ h => absurd h List.not_mem_nil), (fun _ h => absurd h List.not_mem_nil), (fun _ h => absurd h List.not_mem_nil), (fun _ h => absurd h List.not_mem_nil), (fun _ h => absurd h List.not_mem_nil), (fun _ h => absurd h List.not_mem_nil)⟩ (by decide +kernel) ⟨_, _, rfl⟩ ?_ ?_ ?_ ?_
  · intro as ρ μ h
    obtain ⟨nw, sp, tl, tx, al⟩ := ρ
    obtain ⟨v, as0, rfl, h0⟩ := mq_pI_spec h
    clear h
    obtain ⟨t, as1, rfl, h1⟩ := mq_pI_spec h0
    clear h0
    obtain ⟨rfl, hp⟩ := mq_p0_spec h1
    clear h1
    rfl
  · intro as ρ μ h
    obtain ⟨nw, sp, tl, tx, al⟩ := ρ
    obtain ⟨v, as0, rfl, h0⟩ := mq_pI_spec h
    clear h
    obtain ⟨t, as1, rfl, h1⟩ := mq_pI_spec h0
    clear h0
    obtain ⟨rfl, hp⟩ := mq_p0_spec h1
    clear h1
    intro hrg
    obtain ⟨⟨ha0a, ha0b⟩, ⟨ha1a, ha1b⟩, -⟩ := hrg
    intro hbk
    have e0 : mq_l0 ([.inl v, .inl t] : List mq_V) 3 = [some (.inl v), some (.inl t), none] := rfl
    rw [e0]
    repeat' (first | refine And.intro ?_ ?_ | intro _)
    all_goals first | omega | rfl | exact trivial | (simp [mq_up] at * <;> omega)
  · intro as ρ μ h
    obtain ⟨nw, sp, tl, tx, al⟩ := ρ
    obtain ⟨v, as0, rfl, h0⟩ := mq_pI_spec h
    clear h
    obtain ⟨t, as1, rfl, h1⟩ := mq_pI_spec h0
    clear h0
    obtain ⟨rfl, hp⟩ := mq_p0_spec h1
    clear h1
    exact fun _ h => absurd h List.not_mem_nil
  · intro as ρ μ h
    obtain ⟨nw, sp, tl, tx, al⟩ := ρ
    obtain ⟨v, as0, rfl, h0⟩ := mq_pI_spec h
    clear h
    obtain ⟨t, as1, rfl, h1⟩ := mq_pI_spec h0
    clear h0
    obtain ⟨rfl, hp⟩ := mq_p0_spec h1
    clear h1
    intro hrg
    obtain ⟨⟨ha0a, ha0b⟩, ⟨ha1a, ha1b⟩, -⟩ := hrg
    exact fun _ h => absurd h List.not_mem_nil
theorem mw1_speedLess : mq_mlA cq_speedLess 1 := ⟨kw_113, ⟨by decide +kernel, by decide +kernel⟩, by decide +kernel, kw_114, kw_95⟩
def pq_firstLastMany : List mq_E := [(0, false, .iload 3), (1, false, .ifCond .ne (Int.ofNat 6)), (4, false, .iload 0), (5, false, .ireturn), (6, false, .iload 3), (7, false, .iconst 1), (8, false, .if_icmp .ne (Int.ofNat 15)), (11, false, .iload 1), (12, false, .goto (Int.ofNat 16)), (15, false, .iload 2), (16, false, .ireturn)]
def cq_firstLastMany : mq_C := ((yX10_firstLastMany, cX10_firstLastMany, 4, (some .int), { frames := 0, cells := 0, slots := 0, locals := 0 }), (4, 1, 0, 0), 0, (fun as ρ μ => match ρ with
  | (nw, sp, tl, tx, al) => mq_pI as fun a as => mq_pI as fun b as => mq_pI as fun c as => mq_pI as fun d as => mq_p0 as (True)),
  (fun as ρ μ r ρ' μ' => match as, ρ, ρ' with
  | [.inl a, .inl b, .inl c, .inl d], (nw, sp, tl, tx, al), (nw', sp', tl', tx', al') => []
  | _, _, _ => []))
def kq_firstLastMany : List mq_V → mq_R → mq_M → List mq_Cu := fun as ρ μ => match as, ρ with
  | [.inl a, .inl b, .inl c, .inl d], (nw, sp, tl, tx, al) => []
  | _, _ => []
set_option maxHeartbeats 16000000 in
set_option maxRecDepth 100000 in
theorem vq_firstLastMany (lc : Launch)  : mq_Ct lc cq_firstLastMany := by
  refine mq_method (lc := lc) (P := pq_firstLastMany) (cl := []) (T := ([], [], [], [], [], [])) (fuel := 400) (cuts := kq_firstLastMany) (by decide) rfl ⟨rfl, rfl⟩ (fun _ h => absurd h List.not_mem_nil) ⟨(fun _ h => absurd h List.not_mem_nil), (fun _ h => absurd h List.not_mem_nil), (fun _ h => absurd h List.not_mem_nil), (fun _ h => absurd h List.not_mem_nil), (fun _ h => absurd h List.not_mem_nil), (fun _ h => absurd h List.not_mem_nil)⟩ (by decide +kernel) ⟨_, _, rfl⟩ ?_ ?_ ?_ ?_
  · intro as ρ μ h
    obtain ⟨nw, sp, tl, tx, al⟩ := ρ
    obtain ⟨a, as0, rfl, h0⟩ := mq_pI_spec h
    clear h
    obtain ⟨b, as1, rfl, h1⟩ := mq_pI_spec h0
    clear h0
    obtain ⟨c, as2, rfl, h2⟩ := mq_pI_spec h1
    clear h1
    obtain ⟨d, as3, rfl, h3⟩ := mq_pI_spec h2
    clear h2
    obtain ⟨rfl, hp⟩ := mq_p0_spec h3
    clear h3
    rfl
  · intro as ρ μ h
    obtain ⟨nw, sp, tl, tx, al⟩ := ρ
    obtain ⟨a, as0, rfl, h0⟩ := mq_pI_spec h
    clear h
    obtain ⟨b, as1, rfl, h1⟩ := mq_pI_spec h0
    clear h0
    obtain ⟨c, as2, rfl, h2⟩ := mq_pI_spec h1
    clear h1
    obtain ⟨d, as3, rfl, h3⟩ := mq_pI_spec h2
    clear h2
    obtain ⟨rfl, hp⟩ := mq_p0_spec h3
    clear h3
    intro hrg
    obtain ⟨⟨ha0a, ha0b⟩, ⟨ha1a, ha1b⟩, ⟨ha2a, ha2b⟩, ⟨ha3a, ha3b⟩, -⟩ := hrg
    intro hbk
    have e0 : mq_l0 ([.inl a, .inl b, .inl c, .inl d] : List mq_V) 4 = [some (.inl a), some (.inl b), some (.inl c), some (.inl d)] := rfl
    rw [e0]
    repeat' (first | refine And.intro ?_ ?_ | intro _)
    all_goals first | omega | rfl | exact trivial | (simp [mq_up] at * <;> omega)
  · intro as ρ μ h
    obtain ⟨nw, sp, tl, tx, al⟩ := ρ
    obtain ⟨a, as0, rfl, h0⟩ := mq_pI_spec h
    clear h
    obtain ⟨b, as1, rfl, h1⟩ := mq_pI_spec h0
    clear h0
    obtain ⟨c, as2, rfl, h2⟩ := mq_pI_spec h1
    clear h1
    obtain ⟨d, as3, rfl, h3⟩ := mq_pI_spec h2
    clear h2
    obtain ⟨rfl, hp⟩ := mq_p0_spec h3
    clear h3
    exact fun _ h => absurd h List.not_mem_nil
  · intro as ρ μ h
    obtain ⟨nw, sp, tl, tx, al⟩ := ρ
    obtain ⟨a, as0, rfl, h0⟩ := mq_pI_spec h
    clear h
    obtain ⟨b, as1, rfl, h1⟩ := mq_pI_spec h0
    clear h0
    obtain ⟨c, as2, rfl, h2⟩ := mq_pI_spec h1
    clear h1
    obtain ⟨d, as3, rfl, h3⟩ := mq_pI_spec h2
    clear h2
    obtain ⟨rfl, hp⟩ := mq_p0_spec h3
    clear h3
    intro hrg
    obtain ⟨⟨ha0a, ha0b⟩, ⟨ha1a, ha1b⟩, ⟨ha2a, ha2b⟩, ⟨ha3a, ha3b⟩, -⟩ := hrg
    exact fun _ h => absurd h List.not_mem_nil
theorem mw1_firstLastMany : mq_mlA cq_firstLastMany 1 := ⟨kw_598, ⟨by decide +kernel, by decide +kernel⟩, by decide +kernel, kw_599, kw_95⟩
def pq_drawNext : List mq_E := [(0, false, .goto_w 1103515245), (3, false, .lload 0), (4, false, .lmul), (5, false, .goto_w 12345), (8, false, .ladd), (9, false, .goto_w 2147483648), (12, false, .lrem), (13, false, .lreturn)]
def cq_drawNext : mq_C := ((yX10_drawNext, cX10_drawNext, 2, (some .long), { frames := 0, cells := 0, slots := 0, locals := 0 }), (1, 2, 0, 0), 0, (fun as ρ μ => match ρ with
  | (nw, sp, tl, tx, al) => mq_pL as fun x as => mq_p0 as (0 ≤ x ∧ x ≤ 2147483647)),
  (fun as ρ μ r ρ' μ' => match as, ρ, ρ' with
  | [.inr (.inl x)], (nw, sp, tl, tx, al), (nw', sp', tl', tx', al') => [0 ≤ r, r ≤ 2147483647]
  | _, _, _ => []))
def kq_drawNext : List mq_V → mq_R → mq_M → List mq_Cu := fun as ρ μ => match as, ρ with
  | [.inr (.inl x)], (nw, sp, tl, tx, al) => []
  | _, _ => []
set_option maxHeartbeats 16000000 in
set_option maxRecDepth 100000 in
theorem vq_drawNext (lc : Launch)  : mq_Ct lc cq_drawNext := by
  refine mq_method (lc := lc) (P := pq_drawNext) (cl := []) (T := ([], [], [(375, 1103515245), (377, 12345), (379, 2147483648)], [], [], [])) (fuel := 400) (cuts := kq_drawNext) (by decide) rfl ⟨rfl, rfl⟩ (fun _ h => absurd h List.not_mem_nil) ⟨(fun _ h => absurd h List.not_mem_nil), (fun _ h => absurd h List.not_mem_nil), (List.forall_mem_cons.mpr ⟨kw_24, (List.forall_mem_cons.mpr ⟨kw_25, (List.forall_mem_cons.mpr ⟨kw_26, (fun _ h => absurd h List.not_mem_nil)⟩)⟩)⟩), (fun _ h => absurd h List.not_mem_nil), (fun _ h => absurd h List.not_mem_nil), (fun _ h => absurd h List.not_mem_nil)⟩ (by decide +kernel) ⟨_, _, rfl⟩ ?_ ?_ ?_ ?_
  · intro as ρ μ h
    obtain ⟨nw, sp, tl, tx, al⟩ := ρ
    obtain ⟨x, as0, rfl, h0⟩ := mq_pL_spec h
    clear h
    obtain ⟨rfl, hp⟩ := mq_p0_spec h0
    clear h0
    obtain ⟨hp0, hp1⟩ := hp
    rfl
  · intro as ρ μ h
    obtain ⟨nw, sp, tl, tx, al⟩ := ρ
    obtain ⟨x, as0, rfl, h0⟩ := mq_pL_spec h
    clear h
    obtain ⟨rfl, hp⟩ := mq_p0_spec h0
    clear h0
    obtain ⟨hp0, hp1⟩ := hp
    intro hrg
    obtain ⟨⟨ha0a, ha0b⟩, -⟩ := hrg
    intro hbk
    have e0 : mq_l0 ([.inr (.inl x)] : List mq_V) 2 = [some (.inr (.inl x)), none] := rfl
    rw [e0]
    repeat' (first | refine And.intro ?_ ?_ | intro _)
    all_goals first | omega | rfl | exact trivial | (simp [mq_up] at * <;> omega)
  · intro as ρ μ h
    obtain ⟨nw, sp, tl, tx, al⟩ := ρ
    obtain ⟨x, as0, rfl, h0⟩ := mq_pL_spec h
    clear h
    obtain ⟨rfl, hp⟩ := mq_p0_spec h0
    clear h0
    obtain ⟨hp0, hp1⟩ := hp
    exact fun _ h => absurd h List.not_mem_nil
  · intro as ρ μ h
    obtain ⟨nw, sp, tl, tx, al⟩ := ρ
    obtain ⟨x, as0, rfl, h0⟩ := mq_pL_spec h
    clear h
    obtain ⟨rfl, hp⟩ := mq_p0_spec h0
    clear h0
    obtain ⟨hp0, hp1⟩ := hp
    intro hrg
    obtain ⟨⟨ha0a, ha0b⟩, -⟩ := hrg
    exact fun _ h => absurd h List.not_mem_nil
theorem mw1_drawNext : mq_mlA cq_drawNext 1 := ⟨kw_698, ⟨by decide +kernel, by decide +kernel⟩, by decide +kernel, kw_699, kw_95⟩
def pq_drawOf : List mq_E := [(0, false, .lload 0), (1, false, .goto_w 65536), (4, false, .ldiv), (5, false, .goto_w 100), (8, false, .lrem), (9, false, .l2i), (10, false, .ireturn)]
def cq_drawOf : mq_C := ((yX10_drawOf, cX10_drawOf, 2, (some .int), { frames := 0, cells := 0, slots := 0, locals := 0 }), (1, 1, 0, 0), 0, (fun as ρ μ => match ρ with
  | (nw, sp, tl, tx, al) => mq_pL as fun x as => mq_p0 as (0 ≤ x ∧ x ≤ 2147483647)),
  (fun as ρ μ r ρ' μ' => match as, ρ, ρ' with
  | [.inr (.inl x)], (nw, sp, tl, tx, al), (nw', sp', tl', tx', al') => [0 ≤ r, r ≤ 99]
  | _, _, _ => []))
def kq_drawOf : List mq_V → mq_R → mq_M → List mq_Cu := fun as ρ μ => match as, ρ with
  | [.inr (.inl x)], (nw, sp, tl, tx, al) => []
  | _, _ => []
set_option maxHeartbeats 16000000 in
set_option maxRecDepth 100000 in
theorem vq_drawOf (lc : Launch)  : mq_Ct lc cq_drawOf := by
  refine mq_method (lc := lc) (P := pq_drawOf) (cl := []) (T := ([], [], [(381, 65536), (383, 100)], [], [], [])) (fuel := 400) (cuts := kq_drawOf) (by decide) rfl ⟨rfl, rfl⟩ (fun _ h => absurd h List.not_mem_nil) ⟨(fun _ h => absurd h List.not_mem_nil), (fun _ h => absurd h List.not_mem_nil), (List.forall_mem_cons.mpr ⟨kw_27, (List.forall_mem_cons.mpr ⟨kw_28, (fun _ h => absurd h List.not_mem_nil)⟩)⟩), (fun _ h => absurd h List.not_mem_nil), (fun _ h => absurd h List.not_mem_nil), (fun _ h => absurd h List.not_mem_nil)⟩ (by decide +kernel) ⟨_, _, rfl⟩ ?_ ?_ ?_ ?_
  · intro as ρ μ h
    obtain ⟨nw, sp, tl, tx, al⟩ := ρ
    obtain ⟨x, as0, rfl, h0⟩ := mq_pL_spec h
    clear h
    obtain ⟨rfl, hp⟩ := mq_p0_spec h0
    clear h0
    obtain ⟨hp0, hp1⟩ := hp
    rfl
  · intro as ρ μ h
    obtain ⟨nw, sp, tl, tx, al⟩ := ρ
    obtain ⟨x, as0, rfl, h0⟩ := mq_pL_spec h
    clear h
    obtain ⟨rfl, hp⟩ := mq_p0_spec h0
    clear h0
    obtain ⟨hp0, hp1⟩ := hp
    intro hrg
    obtain ⟨⟨ha0a, ha0b⟩, -⟩ := hrg
    intro hbk
    have e0 : mq_l0 ([.inr (.inl x)] : List mq_V) 2 = [some (.inr (.inl x)), none] := rfl
    rw [e0]
    repeat' (first | refine And.intro ?_ ?_ | intro _)
    all_goals first | omega | rfl | exact trivial | (simp [mq_up] at * <;> omega)
  · intro as ρ μ h
    obtain ⟨nw, sp, tl, tx, al⟩ := ρ
    obtain ⟨x, as0, rfl, h0⟩ := mq_pL_spec h
    clear h
    obtain ⟨rfl, hp⟩ := mq_p0_spec h0
    clear h0
    obtain ⟨hp0, hp1⟩ := hp
    exact fun _ h => absurd h List.not_mem_nil
  · intro as ρ μ h
    obtain ⟨nw, sp, tl, tx, al⟩ := ρ
    obtain ⟨x, as0, rfl, h0⟩ := mq_pL_spec h
    clear h
    obtain ⟨rfl, hp⟩ := mq_p0_spec h0
    clear h0
    obtain ⟨hp0, hp1⟩ := hp
    intro hrg
    obtain ⟨⟨ha0a, ha0b⟩, -⟩ := hrg
    exact fun _ h => absurd h List.not_mem_nil
theorem mw1_drawOf : mq_mlA cq_drawOf 1 := ⟨kw_701, ⟨by decide +kernel, by decide +kernel⟩, by decide +kernel, kw_702, kw_95⟩
def pq_has_slopes : List mq_E := [(0, false, .iload 1), (1, false, .ifCond .lt (Int.ofNat 16)), (4, false, .iload 1), (5, false, .aload 0), (6, false, .invokeinterface 6 3), (9, false, .if_icmp .ge (Int.ofNat 16)), (12, false, .iconst 1), (13, false, .goto (Int.ofNat 17)), (16, false, .iconst 0), (17, false, .ireturn)]
def cq_has_slopes : mq_C := ((yX6_has, cX6_has, 2, (some .boolean), { frames := 0, cells := 0, slots := 0, locals := 0 }), (2, 1, 0, 0), 0, (fun as ρ μ => match ρ with
  | (nw, sp, tl, tx, al) => mq_pR as 3 fun L as => mq_pI as fun x as => mq_p0 as (True)),
  (fun as ρ μ r ρ' μ' => match as, ρ, ρ' with
  | [.inr (.inr (some (_, L))), .inl x], (nw, sp, tl, tx, al), (nw', sp', tl', tx', al') => [(r = 1 ∧ 0 ≤ x ∧ x < 8) ∨ r = 0]
  | _, _, _ => []))
def kq_has_slopes : List mq_V → mq_R → mq_M → List mq_Cu := fun as ρ μ => match as, ρ with
  | [.inr (.inr (some (_, L))), .inl x], (nw, sp, tl, tx, al) => []
  | _, _ => []
set_option maxHeartbeats 16000000 in
set_option maxRecDepth 100000 in
theorem vq_has_slopes (lc : Launch)  : mq_Ct lc cq_has_slopes := by
  refine mq_method (lc := lc) (P := pq_has_slopes) (cl := []) (T := ([(9, 6, 3)], [], [], [], [], [])) (fuel := 400) (cuts := kq_has_slopes) (by decide) rfl ⟨rfl, rfl⟩ (fun _ h => absurd h List.not_mem_nil) ⟨(List.forall_mem_cons.mpr ⟨⟨_, rfl, by decide, kw_29⟩, (fun _ h => absurd h List.not_mem_nil)⟩), (fun _ h => absurd h List.not_mem_nil), (fun _ h => absurd h List.not_mem_nil), (fun _ h => absurd h List.not_mem_nil), (fun _ h => absurd h List.not_mem_nil), (fun _ h => absurd h List.not_mem_nil)⟩ (by decide +kernel) ⟨_, _, rfl⟩ ?_ ?_ ?_ ?_
  · intro as ρ μ h
    obtain ⟨nw, sp, tl, tx, al⟩ := ρ
    obtain ⟨L, as0, rfl, h0⟩ := mq_pR_spec h
    clear h
    obtain ⟨x, as1, rfl, h1⟩ := mq_pI_spec h0
    clear h0
    obtain ⟨rfl, hp⟩ := mq_p0_spec h1
    clear h1
    rfl
  · intro as ρ μ h
    obtain ⟨nw, sp, tl, tx, al⟩ := ρ
    obtain ⟨L, as0, rfl, h0⟩ := mq_pR_spec h
    clear h
    obtain ⟨x, as1, rfl, h1⟩ := mq_pI_spec h0
    clear h0
    obtain ⟨rfl, hp⟩ := mq_p0_spec h1
    clear h1
    intro hrg
    obtain ⟨⟨ha1a, ha1b⟩, -⟩ := hrg
    intro hbk
    have e0 : mq_l0 ([.inr (.inr (some (3, L))), .inl x] : List mq_V) 2 = [some (.inr (.inr (some (3, L)))), some (.inl x)] := rfl
    rw [e0]
    repeat' (first | refine And.intro ?_ ?_ | intro _)
    all_goals first | omega | rfl | exact trivial | (simp [mq_up] at * <;> omega)
  · intro as ρ μ h
    obtain ⟨nw, sp, tl, tx, al⟩ := ρ
    obtain ⟨L, as0, rfl, h0⟩ := mq_pR_spec h
    clear h
    obtain ⟨x, as1, rfl, h1⟩ := mq_pI_spec h0
    clear h0
    obtain ⟨rfl, hp⟩ := mq_p0_spec h1
    clear h1
    exact fun _ h => absurd h List.not_mem_nil
  · intro as ρ μ h
    obtain ⟨nw, sp, tl, tx, al⟩ := ρ
    obtain ⟨L, as0, rfl, h0⟩ := mq_pR_spec h
    clear h
    obtain ⟨x, as1, rfl, h1⟩ := mq_pI_spec h0
    clear h0
    obtain ⟨rfl, hp⟩ := mq_p0_spec h1
    clear h1
    intro hrg
    obtain ⟨⟨ha1a, ha1b⟩, -⟩ := hrg
    exact fun _ h => absurd h List.not_mem_nil
def pq_isFull_slopes : List mq_E := [(0, false, .aload 0), (1, false, .invokeinterface 6 3), (4, false, .aload 0), (5, false, .invokeinterface 6 0), (8, false, .if_icmp .lt (Int.ofNat 15)), (11, false, .iconst 1), (12, false, .goto (Int.ofNat 16)), (15, false, .iconst 0), (16, false, .ireturn)]
def cq_isFull_slopes : mq_C := ((yX6_isFull, cX6_isFull, 1, (some .boolean), { frames := 0, cells := 0, slots := 0, locals := 0 }), (1, 1, 0, 0), 0, (fun as ρ μ => match ρ with
  | (nw, sp, tl, tx, al) => mq_pR as 3 fun L as => mq_p0 as (True)),
  (fun as ρ μ r ρ' μ' => match as, ρ, ρ' with
  | [.inr (.inr (some (_, L)))], (nw, sp, tl, tx, al), (nw', sp', tl', tx', al') => [r = 1 ∨ (r = 0 ∧ μ (3, L) 3 < 8)]
  | _, _, _ => []))
def kq_isFull_slopes : List mq_V → mq_R → mq_M → List mq_Cu := fun as ρ μ => match as, ρ with
  | [.inr (.inr (some (_, L)))], (nw, sp, tl, tx, al) => []
  | _, _ => []
set_option maxHeartbeats 16000000 in
set_option maxRecDepth 100000 in
theorem vq_isFull_slopes (lc : Launch)  : mq_Ct lc cq_isFull_slopes := by
  refine mq_method (lc := lc) (P := pq_isFull_slopes) (cl := []) (T := ([(9, 6, 3), (15, 6, 0)], [], [], [], [], [])) (fuel := 400) (cuts := kq_isFull_slopes) (by decide) rfl ⟨rfl, rfl⟩ (fun _ h => absurd h List.not_mem_nil) ⟨(List.forall_mem_cons.mpr ⟨⟨_, rfl, by decide, kw_29⟩, (List.forall_mem_cons.mpr ⟨⟨_, rfl, by decide, kw_30⟩, (fun _ h => absurd h List.not_mem_nil)⟩)⟩), (fun _ h => absurd h List.not_mem_nil), (fun _ h => absurd h List.not_mem_nil), (fun _ h => absurd h List.not_mem_nil), (fun _ h => absurd h List.not_mem_nil), (fun _ h => absurd h List.not_mem_nil)⟩ (by decide +kernel) ⟨_, _, rfl⟩ ?_ ?_ ?_ ?_
  · intro as ρ μ h
    obtain ⟨nw, sp, tl, tx, al⟩ := ρ
    obtain ⟨L, as0, rfl, h0⟩ := mq_pR_spec h
    clear h
    obtain ⟨rfl, hp⟩ := mq_p0_spec h0
    clear h0
    rfl
  · intro as ρ μ h
    obtain ⟨nw, sp, tl, tx, al⟩ := ρ
    obtain ⟨L, as0, rfl, h0⟩ := mq_pR_spec h
    clear h
    obtain ⟨rfl, hp⟩ := mq_p0_spec h0
    clear h0
    intro hrg
    intro hbk
    have e0 : mq_l0 ([.inr (.inr (some (3, L)))] : List mq_V) 1 = [some (.inr (.inr (some (3, L))))] := rfl
    rw [e0]
    repeat' (first | refine And.intro ?_ ?_ | intro _)
    all_goals first | omega | rfl | exact trivial | (simp [mq_up] at * <;> omega)
  · intro as ρ μ h
    obtain ⟨nw, sp, tl, tx, al⟩ := ρ
    obtain ⟨L, as0, rfl, h0⟩ := mq_pR_spec h
    clear h
    obtain ⟨rfl, hp⟩ := mq_p0_spec h0
    clear h0
    exact fun _ h => absurd h List.not_mem_nil
  · intro as ρ μ h
    obtain ⟨nw, sp, tl, tx, al⟩ := ρ
    obtain ⟨L, as0, rfl, h0⟩ := mq_pR_spec h
    clear h
    obtain ⟨rfl, hp⟩ := mq_p0_spec h0
    clear h0
    intro hrg
    exact fun _ h => absurd h List.not_mem_nil
theorem mw0_isFull_slopes : mq_mlA cq_isFull_slopes 0 := ⟨kw_31, ⟨by decide +kernel, by decide +kernel⟩, by decide +kernel, kw_32, kw_33, kw_34, 3, by decide +kernel, fun as ρ μ h => by obtain ⟨nw, sp, tl, tx, al⟩ := ρ; obtain ⟨i, t, e, _⟩ := mq_pR_spec h; exact ⟨i, t, e⟩⟩
def pq_add_slopes : List mq_E := [(0, false, .aload 0), (1, false, .invokestatic 0), (4, false, .ifCond .eq (Int.ofNat 9)), (7, false, .iconst (-1)), (8, false, .ireturn), (9, false, .aload 0), (10, false, .dup), (11, false, .invokeinterface 6 3), (14, false, .iconst 1), (15, false, .iadd), (16, false, .multianewarray 6 3), (19, false, .aload 0), (20, false, .invokeinterface 6 3), (23, false, .iconst 1), (24, false, .isub), (25, false, .ireturn)]
def cq_add_slopes : mq_C := ((yX6_add, cX6_add, 1, (some .int), { frames := 1, cells := 0, slots := 0, locals := 20 }), (1, 1, 0, 0), 8, (fun as ρ μ => match ρ with
  | (nw, sp, tl, tx, al) => mq_pR as 3 fun L as => mq_p0 as (True)),
  (fun as ρ μ r ρ' μ' => match as, ρ, ρ' with
  | [.inr (.inr (some (_, L)))], (nw, sp, tl, tx, al), (nw', sp', tl', tx', al') => [-1 ≤ r, r < 8]
  | _, _, _ => []))
def kq_add_slopes : List mq_V → mq_R → mq_M → List mq_Cu := fun as ρ μ => match as, ρ with
  | [.inr (.inr (some (_, L)))], (nw, sp, tl, tx, al) => []
  | _, _ => []
set_option maxHeartbeats 16000000 in
set_option maxRecDepth 100000 in
theorem vq_add_slopes (lc : Launch) (h_isFull_slopes : mq_Ct lc cq_isFull_slopes) : mq_Ct lc cq_add_slopes := by
  refine mq_method (lc := lc) (P := pq_add_slopes) (cl := [cq_isFull_slopes]) (T := ([(9, 6, 3)], [], [], [(25, 0, 0)], [], [])) (fuel := 400) (cuts := kq_add_slopes) (by decide) rfl ⟨rfl, rfl⟩ (List.forall_mem_cons.mpr ⟨h_isFull_slopes, (fun _ h => absurd h List.not_mem_nil)⟩) ⟨(List.forall_mem_cons.mpr ⟨⟨_, rfl, by decide, kw_29⟩, (fun _ h => absurd h List.not_mem_nil)⟩), (fun _ h => absurd h List.not_mem_nil), (fun _ h => absurd h List.not_mem_nil), (List.forall_mem_cons.mpr ⟨mq_ml0 rfl mw0_isFull_slopes kw_35, (fun _ h => absurd h List.not_mem_nil)⟩), (fun _ h => absurd h List.not_mem_nil), (fun _ h => absurd h List.not_mem_nil)⟩ (by decide +kernel) ⟨_, _, rfl⟩ ?_ ?_ ?_ ?_
  · intro as ρ μ h
    obtain ⟨nw, sp, tl, tx, al⟩ := ρ
    obtain ⟨L, as0, rfl, h0⟩ := mq_pR_spec h
    clear h
    obtain ⟨rfl, hp⟩ := mq_p0_spec h0
    clear h0
    rfl
  · intro as ρ μ h
    obtain ⟨nw, sp, tl, tx, al⟩ := ρ
    obtain ⟨L, as0, rfl, h0⟩ := mq_pR_spec h
    clear h
    obtain ⟨rfl, hp⟩ := mq_p0_spec h0
    clear h0
    intro hrg
    intro hbk
    have e0 : mq_l0 ([.inr (.inr (some (3, L)))] : List mq_V) 1 = [some (.inr (.inr (some (3, L))))] := rfl
    rw [e0]
    repeat' (first | refine And.intro ?_ ?_ | intro _)
    all_goals first | omega | rfl | exact trivial | (simp [mq_up] at * <;> omega)
  · intro as ρ μ h
    obtain ⟨nw, sp, tl, tx, al⟩ := ρ
    obtain ⟨L, as0, rfl, h0⟩ := mq_pR_spec h
    clear h
    obtain ⟨rfl, hp⟩ := mq_p0_spec h0
    clear h0
    exact fun _ h => absurd h List.not_mem_nil
  · intro as ρ μ h
    obtain ⟨nw, sp, tl, tx, al⟩ := ρ
    obtain ⟨L, as0, rfl, h0⟩ := mq_pR_spec h
    clear h
    obtain ⟨rfl, hp⟩ := mq_p0_spec h0
    clear h0
    intro hrg
    exact fun _ h => absurd h List.not_mem_nil
theorem mw0_add_slopes : mq_mlA cq_add_slopes 0 := ⟨kw_425, ⟨by decide +kernel, by decide +kernel⟩, by decide +kernel, kw_426, kw_427, kw_34, 3, by decide +kernel, fun as ρ μ h => by obtain ⟨nw, sp, tl, tx, al⟩ := ρ; obtain ⟨i, t, e, _⟩ := mq_pR_spec h; exact ⟨i, t, e⟩⟩
def pq_get_slopes : List mq_E := [(0, false, .iload 1), (1, false, .ifCond .lt (Int.ofNat 24)), (4, false, .iload 1), (5, false, .aload 0), (6, false, .invokeinterface 6 0), (9, false, .if_icmp .ge (Int.ofNat 24)), (12, false, .iload 2), (13, false, .ifCond .lt (Int.ofNat 24)), (16, false, .iload 2), (17, false, .aload 0), (18, false, .invokeinterface 6 1), (21, false, .if_icmp .lt (Int.ofNat 26)), (24, false, .iconst 0), (25, false, .ireturn), (26, false, .aload 0), (27, false, .invokeinterface 6 2), (30, false, .iload 1), (31, false, .aload 0), (32, false, .invokeinterface 6 1), (35, false, .imul), (36, false, .iload 2), (37, false, .iadd), (38, false, .iaload), (39, false, .ireturn)]
def cq_get_slopes : mq_C := ((yX6_get, cX6_get, 3, (some .int), { frames := 0, cells := 0, slots := 0, locals := 0 }), (3, 1, 0, 0), 0, (fun as ρ μ => match ρ with
  | (nw, sp, tl, tx, al) => mq_pR as 3 fun L as => mq_pI as fun x as => mq_pI as fun y as => mq_p0 as (True)),
  (fun as ρ μ r ρ' μ' => match as, ρ, ρ' with
  | [.inr (.inr (some (_, L))), .inl x, .inl y], (nw, sp, tl, tx, al), (nw', sp', tl', tx', al') => [-9 ≤ r, r ≤ 400]
  | _, _, _ => []))
def kq_get_slopes : List mq_V → mq_R → mq_M → List mq_Cu := fun as ρ μ => match as, ρ with
  | [.inr (.inr (some (_, L))), .inl x, .inl y], (nw, sp, tl, tx, al) => []
  | _, _ => []
set_option maxHeartbeats 16000000 in
set_option maxRecDepth 100000 in
theorem vq_get_slopes (lc : Launch)  : mq_Ct lc cq_get_slopes := by
  refine mq_method (lc := lc) (P := pq_get_slopes) (cl := []) (T := ([(15, 6, 0), (18, 6, 1), (21, 6, 2)], [], [], [], [], [])) (fuel := 400) (cuts := kq_get_slopes) (by decide) rfl ⟨rfl, rfl⟩ (fun _ h => absurd h List.not_mem_nil) ⟨(List.forall_mem_cons.mpr ⟨⟨_, rfl, by decide, kw_30⟩, (List.forall_mem_cons.mpr ⟨⟨_, rfl, by decide, kw_36⟩, (List.forall_mem_cons.mpr ⟨⟨_, rfl, by decide, kw_37⟩, (fun _ h => absurd h List.not_mem_nil)⟩)⟩)⟩), (fun _ h => absurd h List.not_mem_nil), (fun _ h => absurd h List.not_mem_nil), (fun _ h => absurd h List.not_mem_nil), (fun _ h => absurd h List.not_mem_nil), (fun _ h => absurd h List.not_mem_nil)⟩ (by decide +kernel) ⟨_, _, rfl⟩ ?_ ?_ ?_ ?_
  · intro as ρ μ h
    obtain ⟨nw, sp, tl, tx, al⟩ := ρ
    obtain ⟨L, as0, rfl, h0⟩ := mq_pR_spec h
    clear h
    obtain ⟨x, as1, rfl, h1⟩ := mq_pI_spec h0
    clear h0
    obtain ⟨y, as2, rfl, h2⟩ := mq_pI_spec h1
    clear h1
    obtain ⟨rfl, hp⟩ := mq_p0_spec h2
    clear h2
    rfl
  · intro as ρ μ h
    obtain ⟨nw, sp, tl, tx, al⟩ := ρ
    obtain ⟨L, as0, rfl, h0⟩ := mq_pR_spec h
    clear h
    obtain ⟨x, as1, rfl, h1⟩ := mq_pI_spec h0
    clear h0
    obtain ⟨y, as2, rfl, h2⟩ := mq_pI_spec h1
    clear h1
    obtain ⟨rfl, hp⟩ := mq_p0_spec h2
    clear h2
    intro hrg
    obtain ⟨⟨ha1a, ha1b⟩, ⟨ha2a, ha2b⟩, -⟩ := hrg
    intro hbk
    have e0 : mq_l0 ([.inr (.inr (some (3, L))), .inl x, .inl y] : List mq_V) 3 = [some (.inr (.inr (some (3, L)))), some (.inl x), some (.inl y)] := rfl
    rw [e0]
    repeat' (first | refine And.intro ?_ ?_ | intro _)
    all_goals first | omega | rfl | exact trivial | (simp [mq_up] at * <;> omega)
  · intro as ρ μ h
    obtain ⟨nw, sp, tl, tx, al⟩ := ρ
    obtain ⟨L, as0, rfl, h0⟩ := mq_pR_spec h
    clear h
    obtain ⟨x, as1, rfl, h1⟩ := mq_pI_spec h0
    clear h0
    obtain ⟨y, as2, rfl, h2⟩ := mq_pI_spec h1
    clear h1
    obtain ⟨rfl, hp⟩ := mq_p0_spec h2
    clear h2
    exact fun _ h => absurd h List.not_mem_nil
  · intro as ρ μ h
    obtain ⟨nw, sp, tl, tx, al⟩ := ρ
    obtain ⟨L, as0, rfl, h0⟩ := mq_pR_spec h
    clear h
    obtain ⟨x, as1, rfl, h1⟩ := mq_pI_spec h0
    clear h0
    obtain ⟨y, as2, rfl, h2⟩ := mq_pI_spec h1
    clear h1
    obtain ⟨rfl, hp⟩ := mq_p0_spec h2
    clear h2
    intro hrg
    obtain ⟨⟨ha1a, ha1b⟩, ⟨ha2a, ha2b⟩, -⟩ := hrg
    exact fun _ h => absurd h List.not_mem_nil
theorem mw0_get_slopes : mq_mlA cq_get_slopes 0 := ⟨kw_60, ⟨by decide +kernel, by decide +kernel⟩, by decide +kernel, kw_61, kw_62, kw_34, 3, by decide +kernel, fun as ρ μ h => by obtain ⟨nw, sp, tl, tx, al⟩ := ρ; obtain ⟨i, t, e, _⟩ := mq_pR_spec h; exact ⟨i, t, e⟩⟩
def pq_set_slopes : List mq_E := [(0, false, .iload 1), (1, false, .ifCond .lt (Int.ofNat 38)), (4, false, .iload 1), (5, false, .aload 0), (6, false, .invokeinterface 6 0), (9, false, .if_icmp .ge (Int.ofNat 38)), (12, false, .iload 2), (13, false, .ifCond .lt (Int.ofNat 38)), (16, false, .iload 2), (17, false, .aload 0), (18, false, .invokeinterface 6 1), (21, false, .if_icmp .ge (Int.ofNat 38)), (24, false, .aload 0), (25, false, .invokeinterface 6 2), (28, false, .iload 1), (29, false, .aload 0), (30, false, .invokeinterface 6 1), (33, false, .imul), (34, false, .iload 2), (35, false, .iadd), (36, false, .iload 3), (37, false, .iastore), (38, false, .return_)]
def cq_set_slopes : mq_C := ((yX6_set, cX6_set, 4, none, { frames := 0, cells := 0, slots := 0, locals := 0 }), (4, 0, 0, 0), 1024, (fun as ρ μ => match ρ with
  | (nw, sp, tl, tx, al) => mq_pR as 3 fun L as => mq_pI as fun x as => mq_pI as fun y as => mq_pI as fun v as => mq_p0 as (-9 ≤ v ∧ v ≤ 400)),
  (fun as ρ μ r ρ' μ' => match as, ρ, ρ' with
  | [.inr (.inr (some (_, L))), .inl x, .inl y, .inl v], (nw, sp, tl, tx, al), (nw', sp', tl', tx', al') => []
  | _, _, _ => []))
def kq_set_slopes : List mq_V → mq_R → mq_M → List mq_Cu := fun as ρ μ => match as, ρ with
  | [.inr (.inr (some (_, L))), .inl x, .inl y, .inl v], (nw, sp, tl, tx, al) => []
  | _, _ => []
set_option maxHeartbeats 16000000 in
set_option maxRecDepth 100000 in
theorem vq_set_slopes (lc : Launch)  : mq_Ct lc cq_set_slopes := by
  refine mq_method (lc := lc) (P := pq_set_slopes) (cl := []) (T := ([(15, 6, 0), (18, 6, 1), (21, 6, 2)], [], [], [], [], [])) (fuel := 400) (cuts := kq_set_slopes) (by decide) rfl ⟨rfl, rfl⟩ (fun _ h => absurd h List.not_mem_nil) ⟨(List.forall_mem_cons.mpr ⟨⟨_, rfl, by decide, kw_30⟩, (List.forall_mem_cons.mpr ⟨⟨_, rfl, by decide, kw_36⟩, (List.forall_mem_cons.mpr ⟨⟨_, rfl, by decide, kw_37⟩, (fun _ h => absurd h List.not_mem_nil)⟩)⟩)⟩), (fun _ h => absurd h List.not_mem_nil), (fun _ h => absurd h List.not_mem_nil), (fun _ h => absurd h List.not_mem_nil), (fun _ h => absurd h List.not_mem_nil), (fun _ h => absurd h List.not_mem_nil)⟩ (by decide +kernel) ⟨_, _, rfl⟩ ?_ ?_ ?_ ?_
  · intro as ρ μ h
    obtain ⟨nw, sp, tl, tx, al⟩ := ρ
    obtain ⟨L, as0, rfl, h0⟩ := mq_pR_spec h
    clear h
    obtain ⟨x, as1, rfl, h1⟩ := mq_pI_spec h0
    clear h0
    obtain ⟨y, as2, rfl, h2⟩ := mq_pI_spec h1
    clear h1
    obtain ⟨v, as3, rfl, h3⟩ := mq_pI_spec h2
    clear h2
    obtain ⟨rfl, hp⟩ := mq_p0_spec h3
    clear h3
    obtain ⟨hp0, hp1⟩ := hp
    rfl
  · intro as ρ μ h
    obtain ⟨nw, sp, tl, tx, al⟩ := ρ
    obtain ⟨L, as0, rfl, h0⟩ := mq_pR_spec h
    clear h
    obtain ⟨x, as1, rfl, h1⟩ := mq_pI_spec h0
    clear h0
    obtain ⟨y, as2, rfl, h2⟩ := mq_pI_spec h1
    clear h1
    obtain ⟨v, as3, rfl, h3⟩ := mq_pI_spec h2
    clear h2
    obtain ⟨rfl, hp⟩ := mq_p0_spec h3
    clear h3
    obtain ⟨hp0, hp1⟩ := hp
    intro hrg
    obtain ⟨⟨ha1a, ha1b⟩, ⟨ha2a, ha2b⟩, ⟨ha3a, ha3b⟩, -⟩ := hrg
    intro hbk
    have e0 : mq_l0 ([.inr (.inr (some (3, L))), .inl x, .inl y, .inl v] : List mq_V) 4 = [some (.inr (.inr (some (3, L)))), some (.inl x), some (.inl y), some (.inl v)] := rfl
    rw [e0]
    repeat' (first | refine And.intro ?_ ?_ | intro _)
    all_goals first | omega | rfl | exact trivial | (simp [mq_up] at * <;> omega)
  · intro as ρ μ h
    obtain ⟨nw, sp, tl, tx, al⟩ := ρ
    obtain ⟨L, as0, rfl, h0⟩ := mq_pR_spec h
    clear h
    obtain ⟨x, as1, rfl, h1⟩ := mq_pI_spec h0
    clear h0
    obtain ⟨y, as2, rfl, h2⟩ := mq_pI_spec h1
    clear h1
    obtain ⟨v, as3, rfl, h3⟩ := mq_pI_spec h2
    clear h2
    obtain ⟨rfl, hp⟩ := mq_p0_spec h3
    clear h3
    obtain ⟨hp0, hp1⟩ := hp
    exact fun _ h => absurd h List.not_mem_nil
  · intro as ρ μ h
    obtain ⟨nw, sp, tl, tx, al⟩ := ρ
    obtain ⟨L, as0, rfl, h0⟩ := mq_pR_spec h
    clear h
    obtain ⟨x, as1, rfl, h1⟩ := mq_pI_spec h0
    clear h0
    obtain ⟨y, as2, rfl, h2⟩ := mq_pI_spec h1
    clear h1
    obtain ⟨v, as3, rfl, h3⟩ := mq_pI_spec h2
    clear h2
    obtain ⟨rfl, hp⟩ := mq_p0_spec h3
    clear h3
    obtain ⟨hp0, hp1⟩ := hp
    intro hrg
    obtain ⟨⟨ha1a, ha1b⟩, ⟨ha2a, ha2b⟩, ⟨ha3a, ha3b⟩, -⟩ := hrg
    exact fun _ h => absurd h List.not_mem_nil
theorem mw0_set_slopes : mq_mlA cq_set_slopes 0 := ⟨kw_447, ⟨by decide +kernel, by decide +kernel⟩, by decide +kernel, kw_448, kw_449, kw_34, 3, by decide +kernel, fun as ρ μ h => by obtain ⟨nw, sp, tl, tx, al⟩ := ρ; obtain ⟨i, t, e, _⟩ := mq_pR_spec h; exact ⟨i, t, e⟩⟩
def pq_copy_slopes : List mq_E := [(0, false, .aload 0), (1, false, .aload 1), (2, false, .invokeinterface 6 3), (5, false, .multianewarray 6 3), (8, false, .aload 1), (9, false, .invokeinterface 6 2), (12, false, .iconst 0), (13, false, .aload 0), (14, false, .invokeinterface 6 2), (17, false, .iconst 0), (18, false, .aload 0), (19, false, .invokeinterface 6 2), (22, false, .arraylength), (23, false, .aload 1), (24, false, .invokeinterface 6 2), (27, false, .arraylength), (28, false, .f2l), (31, false, .athrow), (34, false, .return_)]
def cq_copy_slopes : mq_C := ((yX6_copyFrom, cX6_copyFrom, 2, none, { frames := 1, cells := 0, slots := 0, locals := 48 }), (2, 0, 0, 0), 1032, (fun as ρ μ => match ρ with
  | (nw, sp, tl, tx, al) => mq_pR as 3 fun L as => mq_pR as 3 fun M as => mq_p0 as (True)),
  (fun as ρ μ r ρ' μ' => match as, ρ, ρ' with
  | [.inr (.inr (some (_, L))), .inr (.inr (some (_, M)))], (nw, sp, tl, tx, al), (nw', sp', tl', tx', al') => []
  | _, _, _ => []))
def kq_copy_slopes : List mq_V → mq_R → mq_M → List mq_Cu := fun as ρ μ => match as, ρ with
  | [.inr (.inr (some (_, L))), .inr (.inr (some (_, M)))], (nw, sp, tl, tx, al) => []
  | _, _ => []
set_option maxHeartbeats 16000000 in
set_option maxRecDepth 100000 in
theorem vq_copy_slopes (lc : Launch)  : mq_Ct lc cq_copy_slopes := by
  refine mq_method (lc := lc) (P := pq_copy_slopes) (cl := []) (T := ([(9, 6, 3), (21, 6, 2)], [], [], [], [35], [(29, false)])) (fuel := 400) (cuts := kq_copy_slopes) (by decide) rfl ⟨rfl, rfl⟩ (fun _ h => absurd h List.not_mem_nil) ⟨(List.forall_mem_cons.mpr ⟨⟨_, rfl, by decide, kw_29⟩, (List.forall_mem_cons.mpr ⟨⟨_, rfl, by decide, kw_37⟩, (fun _ h => absurd h List.not_mem_nil)⟩)⟩), (fun _ h => absurd h List.not_mem_nil), (fun _ h => absurd h List.not_mem_nil), (fun _ h => absurd h List.not_mem_nil), (List.forall_mem_cons.mpr ⟨⟨kw_38, kw_39, kw_40, kw_41⟩, (fun _ h => absurd h List.not_mem_nil)⟩), (List.forall_mem_cons.mpr ⟨⟨kw_42, kw_43, kw_44, kw_45⟩, (fun _ h => absurd h List.not_mem_nil)⟩)⟩ (by decide +kernel) ⟨_, _, rfl⟩ ?_ ?_ ?_ ?_
  · intro as ρ μ h
    obtain ⟨nw, sp, tl, tx, al⟩ := ρ
    obtain ⟨L, as0, rfl, h0⟩ := mq_pR_spec h
    clear h
    obtain ⟨M, as1, rfl, h1⟩ := mq_pR_spec h0
    clear h0
    obtain ⟨rfl, hp⟩ := mq_p0_spec h1
    clear h1
    rfl
  · intro as ρ μ h
    obtain ⟨nw, sp, tl, tx, al⟩ := ρ
    obtain ⟨L, as0, rfl, h0⟩ := mq_pR_spec h
    clear h
    obtain ⟨M, as1, rfl, h1⟩ := mq_pR_spec h0
    clear h0
    obtain ⟨rfl, hp⟩ := mq_p0_spec h1
    clear h1
    intro hrg
    intro hbk
    have e0 : mq_l0 ([.inr (.inr (some (3, L))), .inr (.inr (some (3, M)))] : List mq_V) 2 = [some (.inr (.inr (some (3, L)))), some (.inr (.inr (some (3, M))))] := rfl
    rw [e0]
    repeat' (first | refine And.intro ?_ ?_ | intro _)
    all_goals first | omega | rfl | exact trivial | (simp [mq_up] at * <;> omega)
  · intro as ρ μ h
    obtain ⟨nw, sp, tl, tx, al⟩ := ρ
    obtain ⟨L, as0, rfl, h0⟩ := mq_pR_spec h
    clear h
    obtain ⟨M, as1, rfl, h1⟩ := mq_pR_spec h0
    clear h0
    obtain ⟨rfl, hp⟩ := mq_p0_spec h1
    clear h1
    exact fun _ h => absurd h List.not_mem_nil
  · intro as ρ μ h
    obtain ⟨nw, sp, tl, tx, al⟩ := ρ
    obtain ⟨L, as0, rfl, h0⟩ := mq_pR_spec h
    clear h
    obtain ⟨M, as1, rfl, h1⟩ := mq_pR_spec h0
    clear h0
    obtain ⟨rfl, hp⟩ := mq_p0_spec h1
    clear h1
    intro hrg
    exact fun _ h => absurd h List.not_mem_nil
theorem mw0_copy_slopes : mq_mlA cq_copy_slopes 0 := ⟨kw_56, ⟨by decide +kernel, by decide +kernel⟩, by decide +kernel, kw_57, kw_58, kw_34, 3, by decide +kernel, fun as ρ μ h => by obtain ⟨nw, sp, tl, tx, al⟩ := ρ; obtain ⟨i, t, e, _⟩ := mq_pR_spec h; exact ⟨i, t, e⟩⟩
def pq_has_wets : List mq_E := [(0, false, .iload 1), (1, false, .ifCond .lt (Int.ofNat 16)), (4, false, .iload 1), (5, false, .aload 0), (6, false, .invokeinterface 6 3), (9, false, .if_icmp .ge (Int.ofNat 16)), (12, false, .iconst 1), (13, false, .goto (Int.ofNat 17)), (16, false, .iconst 0), (17, false, .ireturn)]
def cq_has_wets : mq_C := ((yX6_has, cX6_has, 2, (some .boolean), { frames := 0, cells := 0, slots := 0, locals := 0 }), (2, 1, 0, 0), 0, (fun as ρ μ => match ρ with
  | (nw, sp, tl, tx, al) => mq_pR as 4 fun L as => mq_pI as fun x as => mq_p0 as (True)),
  (fun as ρ μ r ρ' μ' => match as, ρ, ρ' with
  | [.inr (.inr (some (_, L))), .inl x], (nw, sp, tl, tx, al), (nw', sp', tl', tx', al') => [(r = 1 ∧ 0 ≤ x ∧ x < 6) ∨ r = 0]
  | _, _, _ => []))
def kq_has_wets : List mq_V → mq_R → mq_M → List mq_Cu := fun as ρ μ => match as, ρ with
  | [.inr (.inr (some (_, L))), .inl x], (nw, sp, tl, tx, al) => []
  | _, _ => []
set_option maxHeartbeats 16000000 in
set_option maxRecDepth 100000 in
theorem vq_has_wets (lc : Launch)  : mq_Ct lc cq_has_wets := by
  refine mq_method (lc := lc) (P := pq_has_wets) (cl := []) (T := ([(9, 6, 3)], [], [], [], [], [])) (fuel := 400) (cuts := kq_has_wets) (by decide) rfl ⟨rfl, rfl⟩ (fun _ h => absurd h List.not_mem_nil) ⟨(List.forall_mem_cons.mpr ⟨⟨_, rfl, by decide, kw_29⟩, (fun _ h => absurd h List.not_mem_nil)⟩), (fun _ h => absurd h List.not_mem_nil), (fun _ h => absurd h List.not_mem_nil), (fun _ h => absurd h List.not_mem_nil), (fun _ h => absurd h List.not_mem_nil), (fun _ h => absurd h List.not_mem_nil)⟩ (by decide +kernel) ⟨_, _, rfl⟩ ?_ ?_ ?_ ?_
  · intro as ρ μ h
    obtain ⟨nw, sp, tl, tx, al⟩ := ρ
    obtain ⟨L, as0, rfl, h0⟩ := mq_pR_spec h
    clear h
    obtain ⟨x, as1, rfl, h1⟩ := mq_pI_spec h0
    clear h0
    obtain ⟨rfl, hp⟩ := mq_p0_spec h1
    clear h1
    rfl
  · intro as ρ μ h
    obtain ⟨nw, sp, tl, tx, al⟩ := ρ
    obtain ⟨L, as0, rfl, h0⟩ := mq_pR_spec h
    clear h
    obtain ⟨x, as1, rfl, h1⟩ := mq_pI_spec h0
    clear h0
    obtain ⟨rfl, hp⟩ := mq_p0_spec h1
    clear h1
    intro hrg
    obtain ⟨⟨ha1a, ha1b⟩, -⟩ := hrg
    intro hbk
    have e0 : mq_l0 ([.inr (.inr (some (4, L))), .inl x] : List mq_V) 2 = [some (.inr (.inr (some (4, L)))), some (.inl x)] := rfl
    rw [e0]
    repeat' (first | refine And.intro ?_ ?_ | intro _)
    all_goals first | omega | rfl | exact trivial | (simp [mq_up] at * <;> omega)
  · intro as ρ μ h
    obtain ⟨nw, sp, tl, tx, al⟩ := ρ
    obtain ⟨L, as0, rfl, h0⟩ := mq_pR_spec h
    clear h
    obtain ⟨x, as1, rfl, h1⟩ := mq_pI_spec h0
    clear h0
    obtain ⟨rfl, hp⟩ := mq_p0_spec h1
    clear h1
    exact fun _ h => absurd h List.not_mem_nil
  · intro as ρ μ h
    obtain ⟨nw, sp, tl, tx, al⟩ := ρ
    obtain ⟨L, as0, rfl, h0⟩ := mq_pR_spec h
    clear h
    obtain ⟨x, as1, rfl, h1⟩ := mq_pI_spec h0
    clear h0
    obtain ⟨rfl, hp⟩ := mq_p0_spec h1
    clear h1
    intro hrg
    obtain ⟨⟨ha1a, ha1b⟩, -⟩ := hrg
    exact fun _ h => absurd h List.not_mem_nil
def pq_isFull_wets : List mq_E := [(0, false, .aload 0), (1, false, .invokeinterface 6 3), (4, false, .aload 0), (5, false, .invokeinterface 6 0), (8, false, .if_icmp .lt (Int.ofNat 15)), (11, false, .iconst 1), (12, false, .goto (Int.ofNat 16)), (15, false, .iconst 0), (16, false, .ireturn)]
def cq_isFull_wets : mq_C := ((yX6_isFull, cX6_isFull, 1, (some .boolean), { frames := 0, cells := 0, slots := 0, locals := 0 }), (1, 1, 0, 0), 0, (fun as ρ μ => match ρ with
  | (nw, sp, tl, tx, al) => mq_pR as 4 fun L as => mq_p0 as (True)),
  (fun as ρ μ r ρ' μ' => match as, ρ, ρ' with
  | [.inr (.inr (some (_, L)))], (nw, sp, tl, tx, al), (nw', sp', tl', tx', al') => [r = 1 ∨ (r = 0 ∧ μ (4, L) 3 < 6)]
  | _, _, _ => []))
def kq_isFull_wets : List mq_V → mq_R → mq_M → List mq_Cu := fun as ρ μ => match as, ρ with
  | [.inr (.inr (some (_, L)))], (nw, sp, tl, tx, al) => []
  | _, _ => []
set_option maxHeartbeats 16000000 in
set_option maxRecDepth 100000 in
theorem vq_isFull_wets (lc : Launch)  : mq_Ct lc cq_isFull_wets := by
  refine mq_method (lc := lc) (P := pq_isFull_wets) (cl := []) (T := ([(9, 6, 3), (15, 6, 0)], [], [], [], [], [])) (fuel := 400) (cuts := kq_isFull_wets) (by decide) rfl ⟨rfl, rfl⟩ (fun _ h => absurd h List.not_mem_nil) ⟨(List.forall_mem_cons.mpr ⟨⟨_, rfl, by decide, kw_29⟩, (List.forall_mem_cons.mpr ⟨⟨_, rfl, by decide, kw_30⟩, (fun _ h => absurd h List.not_mem_nil)⟩)⟩), (fun _ h => absurd h List.not_mem_nil), (fun _ h => absurd h List.not_mem_nil), (fun _ h => absurd h List.not_mem_nil), (fun _ h => absurd h List.not_mem_nil), (fun _ h => absurd h List.not_mem_nil)⟩ (by decide +kernel) ⟨_, _, rfl⟩ ?_ ?_ ?_ ?_
  · intro as ρ μ h
    obtain ⟨nw, sp, tl, tx, al⟩ := ρ
    obtain ⟨L, as0, rfl, h0⟩ := mq_pR_spec h
    clear h
    obtain ⟨rfl, hp⟩ := mq_p0_spec h0
    clear h0
    rfl
  · intro as ρ μ h
    obtain ⟨nw, sp, tl, tx, al⟩ := ρ
    obtain ⟨L, as0, rfl, h0⟩ := mq_pR_spec h
    clear h
    obtain ⟨rfl, hp⟩ := mq_p0_spec h0
    clear h0
    intro hrg
    intro hbk
    have e0 : mq_l0 ([.inr (.inr (some (4, L)))] : List mq_V) 1 = [some (.inr (.inr (some (4, L))))] := rfl
    rw [e0]
    repeat' (first | refine And.intro ?_ ?_ | intro _)
    all_goals first | omega | rfl | exact trivial | (simp [mq_up] at * <;> omega)
  · intro as ρ μ h
    obtain ⟨nw, sp, tl, tx, al⟩ := ρ
    obtain ⟨L, as0, rfl, h0⟩ := mq_pR_spec h
    clear h
    obtain ⟨rfl, hp⟩ := mq_p0_spec h0
    clear h0
    exact fun _ h => absurd h List.not_mem_nil
  · intro as ρ μ h
    obtain ⟨nw, sp, tl, tx, al⟩ := ρ
    obtain ⟨L, as0, rfl, h0⟩ := mq_pR_spec h
    clear h
    obtain ⟨rfl, hp⟩ := mq_p0_spec h0
    clear h0
    intro hrg
    exact fun _ h => absurd h List.not_mem_nil
theorem mw0_isFull_wets : mq_mlA cq_isFull_wets 0 := ⟨kw_31, ⟨by decide +kernel, by decide +kernel⟩, by decide +kernel, kw_32, kw_33, kw_34, 4, by decide +kernel, fun as ρ μ h => by obtain ⟨nw, sp, tl, tx, al⟩ := ρ; obtain ⟨i, t, e, _⟩ := mq_pR_spec h; exact ⟨i, t, e⟩⟩
def pq_add_wets : List mq_E := [(0, false, .aload 0), (1, false, .invokestatic 0), (4, false, .ifCond .eq (Int.ofNat 9)), (7, false, .iconst (-1)), (8, false, .ireturn), (9, false, .aload 0), (10, false, .dup), (11, false, .invokeinterface 6 3), (14, false, .iconst 1), (15, false, .iadd), (16, false, .multianewarray 6 3), (19, false, .aload 0), (20, false, .invokeinterface 6 3), (23, false, .iconst 1), (24, false, .isub), (25, false, .ireturn)]
def cq_add_wets : mq_C := ((yX6_add, cX6_add, 1, (some .int), { frames := 1, cells := 0, slots := 0, locals := 20 }), (1, 1, 0, 0), 16, (fun as ρ μ => match ρ with
  | (nw, sp, tl, tx, al) => mq_pR as 4 fun L as => mq_p0 as (True)),
  (fun as ρ μ r ρ' μ' => match as, ρ, ρ' with
  | [.inr (.inr (some (_, L)))], (nw, sp, tl, tx, al), (nw', sp', tl', tx', al') => [-1 ≤ r, r < 6]
  | _, _, _ => []))
def kq_add_wets : List mq_V → mq_R → mq_M → List mq_Cu := fun as ρ μ => match as, ρ with
  | [.inr (.inr (some (_, L)))], (nw, sp, tl, tx, al) => []
  | _, _ => []
set_option maxHeartbeats 16000000 in
set_option maxRecDepth 100000 in
theorem vq_add_wets (lc : Launch) (h_isFull_wets : mq_Ct lc cq_isFull_wets) : mq_Ct lc cq_add_wets := by
  refine mq_method (lc := lc) (P := pq_add_wets) (cl := [cq_isFull_wets]) (T := ([(9, 6, 3)], [], [], [(25, 0, 0)], [], [])) (fuel := 400) (cuts := kq_add_wets) (by decide) rfl ⟨rfl, rfl⟩ (List.forall_mem_cons.mpr ⟨h_isFull_wets, (fun _ h => absurd h List.not_mem_nil)⟩) ⟨(List.forall_mem_cons.mpr ⟨⟨_, rfl, by decide, kw_29⟩, (fun _ h => absurd h List.not_mem_nil)⟩), (fun _ h => absurd h List.not_mem_nil), (fun _ h => absurd h List.not_mem_nil), (List.forall_mem_cons.mpr ⟨mq_ml0 rfl mw0_isFull_wets kw_35, (fun _ h => absurd h List.not_mem_nil)⟩), (fun _ h => absurd h List.not_mem_nil), (fun _ h => absurd h List.not_mem_nil)⟩ (by decide +kernel) ⟨_, _, rfl⟩ ?_ ?_ ?_ ?_
  · intro as ρ μ h
    obtain ⟨nw, sp, tl, tx, al⟩ := ρ
    obtain ⟨L, as0, rfl, h0⟩ := mq_pR_spec h
    clear h
    obtain ⟨rfl, hp⟩ := mq_p0_spec h0
    clear h0
    rfl
  · intro as ρ μ h
    obtain ⟨nw, sp, tl, tx, al⟩ := ρ
    obtain ⟨L, as0, rfl, h0⟩ := mq_pR_spec h
    clear h
    obtain ⟨rfl, hp⟩ := mq_p0_spec h0
    clear h0
    intro hrg
    intro hbk
    have e0 : mq_l0 ([.inr (.inr (some (4, L)))] : List mq_V) 1 = [some (.inr (.inr (some (4, L))))] := rfl
    rw [e0]
    repeat' (first | refine And.intro ?_ ?_ | intro _)
    all_goals first | omega | rfl | exact trivial | (simp [mq_up] at * <;> omega)
  · intro as ρ μ h
    obtain ⟨nw, sp, tl, tx, al⟩ := ρ
    obtain ⟨L, as0, rfl, h0⟩ := mq_pR_spec h
    clear h
    obtain ⟨rfl, hp⟩ := mq_p0_spec h0
    clear h0
    exact fun _ h => absurd h List.not_mem_nil
  · intro as ρ μ h
    obtain ⟨nw, sp, tl, tx, al⟩ := ρ
    obtain ⟨L, as0, rfl, h0⟩ := mq_pR_spec h
    clear h
    obtain ⟨rfl, hp⟩ := mq_p0_spec h0
    clear h0
    intro hrg
    exact fun _ h => absurd h List.not_mem_nil
theorem mw0_add_wets : mq_mlA cq_add_wets 0 := ⟨kw_425, ⟨by decide +kernel, by decide +kernel⟩, by decide +kernel, kw_426, kw_427, kw_34, 4, by decide +kernel, fun as ρ μ h => by obtain ⟨nw, sp, tl, tx, al⟩ := ρ; obtain ⟨i, t, e, _⟩ := mq_pR_spec h; exact ⟨i, t, e⟩⟩
def pq_get_wets : List mq_E := [(0, false, .iload 1), (1, false, .ifCond .lt (Int.ofNat 24)), (4, false, .iload 1), (5, false, .aload 0), (6, false, .invokeinterface 6 0), (9, false, .if_icmp .ge (Int.ofNat 24)), (12, false, .iload 2), (13, false, .ifCond .lt (Int.ofNat 24)), (16, false, .iload 2), (17, false, .aload 0), (18, false, .invokeinterface 6 1), (21, false, .if_icmp .lt (Int.ofNat 26)), (24, false, .iconst 0), (25, false, .ireturn), (26, false, .aload 0), (27, false, .invokeinterface 6 2), (30, false, .iload 1), (31, false, .aload 0), (32, false, .invokeinterface 6 1), (35, false, .imul), (36, false, .iload 2), (37, false, .iadd), (38, false, .iaload), (39, false, .ireturn)]
def cq_get_wets : mq_C := ((yX6_get, cX6_get, 3, (some .int), { frames := 0, cells := 0, slots := 0, locals := 0 }), (3, 1, 0, 0), 0, (fun as ρ μ => match ρ with
  | (nw, sp, tl, tx, al) => mq_pR as 4 fun L as => mq_pI as fun x as => mq_pI as fun y as => mq_p0 as (True)),
  (fun as ρ μ r ρ' μ' => match as, ρ, ρ' with
  | [.inr (.inr (some (_, L))), .inl x, .inl y], (nw, sp, tl, tx, al), (nw', sp', tl', tx', al') => [0 ≤ r, r ≤ 400]
  | _, _, _ => []))
def kq_get_wets : List mq_V → mq_R → mq_M → List mq_Cu := fun as ρ μ => match as, ρ with
  | [.inr (.inr (some (_, L))), .inl x, .inl y], (nw, sp, tl, tx, al) => []
  | _, _ => []
set_option maxHeartbeats 16000000 in
set_option maxRecDepth 100000 in
theorem vq_get_wets (lc : Launch)  : mq_Ct lc cq_get_wets := by
  refine mq_method (lc := lc) (P := pq_get_wets) (cl := []) (T := ([(15, 6, 0), (18, 6, 1), (21, 6, 2)], [], [], [], [], [])) (fuel := 400) (cuts := kq_get_wets) (by decide) rfl ⟨rfl, rfl⟩ (fun _ h => absurd h List.not_mem_nil) ⟨(List.forall_mem_cons.mpr ⟨⟨_, rfl, by decide, kw_30⟩, (List.forall_mem_cons.mpr ⟨⟨_, rfl, by decide, kw_36⟩, (List.forall_mem_cons.mpr ⟨⟨_, rfl, by decide, kw_37⟩, (fun _ h => absurd h List.not_mem_nil)⟩)⟩)⟩), (fun _ h => absurd h List.not_mem_nil), (fun _ h => absurd h List.not_mem_nil), (fun _ h => absurd h List.not_mem_nil), (fun _ h => absurd h List.not_mem_nil), (fun _ h => absurd h List.not_mem_nil)⟩ (by decide +kernel) ⟨_, _, rfl⟩ ?_ ?_ ?_ ?_
  · intro as ρ μ h
    obtain ⟨nw, sp, tl, tx, al⟩ := ρ
    obtain ⟨L, as0, rfl, h0⟩ := mq_pR_spec h
    clear h
    obtain ⟨x, as1, rfl, h1⟩ := mq_pI_spec h0
    clear h0
    obtain ⟨y, as2, rfl, h2⟩ := mq_pI_spec h1
    clear h1
    obtain ⟨rfl, hp⟩ := mq_p0_spec h2
    clear h2
    rfl
  · intro as ρ μ h
    obtain ⟨nw, sp, tl, tx, al⟩ := ρ
    obtain ⟨L, as0, rfl, h0⟩ := mq_pR_spec h
    clear h
    obtain ⟨x, as1, rfl, h1⟩ := mq_pI_spec h0
    clear h0
    obtain ⟨y, as2, rfl, h2⟩ := mq_pI_spec h1
    clear h1
    obtain ⟨rfl, hp⟩ := mq_p0_spec h2
    clear h2
    intro hrg
    obtain ⟨⟨ha1a, ha1b⟩, ⟨ha2a, ha2b⟩, -⟩ := hrg
    intro hbk
    have e0 : mq_l0 ([.inr (.inr (some (4, L))), .inl x, .inl y] : List mq_V) 3 = [some (.inr (.inr (some (4, L)))), some (.inl x), some (.inl y)] := rfl
    rw [e0]
    repeat' (first | refine And.intro ?_ ?_ | intro _)
    all_goals first | omega | rfl | exact trivial | (simp [mq_up] at * <;> omega)
  · intro as ρ μ h
    obtain ⟨nw, sp, tl, tx, al⟩ := ρ
    obtain ⟨L, as0, rfl, h0⟩ := mq_pR_spec h
    clear h
    obtain ⟨x, as1, rfl, h1⟩ := mq_pI_spec h0
    clear h0
    obtain ⟨y, as2, rfl, h2⟩ := mq_pI_spec h1
    clear h1
    obtain ⟨rfl, hp⟩ := mq_p0_spec h2
    clear h2
    exact fun _ h => absurd h List.not_mem_nil
  · intro as ρ μ h
    obtain ⟨nw, sp, tl, tx, al⟩ := ρ
    obtain ⟨L, as0, rfl, h0⟩ := mq_pR_spec h
    clear h
    obtain ⟨x, as1, rfl, h1⟩ := mq_pI_spec h0
    clear h0
    obtain ⟨y, as2, rfl, h2⟩ := mq_pI_spec h1
    clear h1
    obtain ⟨rfl, hp⟩ := mq_p0_spec h2
    clear h2
    intro hrg
    obtain ⟨⟨ha1a, ha1b⟩, ⟨ha2a, ha2b⟩, -⟩ := hrg
    exact fun _ h => absurd h List.not_mem_nil
theorem mw0_get_wets : mq_mlA cq_get_wets 0 := ⟨kw_60, ⟨by decide +kernel, by decide +kernel⟩, by decide +kernel, kw_61, kw_62, kw_34, 4, by decide +kernel, fun as ρ μ h => by obtain ⟨nw, sp, tl, tx, al⟩ := ρ; obtain ⟨i, t, e, _⟩ := mq_pR_spec h; exact ⟨i, t, e⟩⟩
def pq_set_wets : List mq_E := [(0, false, .iload 1), (1, false, .ifCond .lt (Int.ofNat 38)), (4, false, .iload 1), (5, false, .aload 0), (6, false, .invokeinterface 6 0), (9, false, .if_icmp .ge (Int.ofNat 38)), (12, false, .iload 2), (13, false, .ifCond .lt (Int.ofNat 38)), (16, false, .iload 2), (17, false, .aload 0), (18, false, .invokeinterface 6 1), (21, false, .if_icmp .ge (Int.ofNat 38)), (24, false, .aload 0), (25, false, .invokeinterface 6 2), (28, false, .iload 1), (29, false, .aload 0), (30, false, .invokeinterface 6 1), (33, false, .imul), (34, false, .iload 2), (35, false, .iadd), (36, false, .iload 3), (37, false, .iastore), (38, false, .return_)]
def cq_set_wets : mq_C := ((yX6_set, cX6_set, 4, none, { frames := 0, cells := 0, slots := 0, locals := 0 }), (4, 0, 0, 0), 2048, (fun as ρ μ => match ρ with
  | (nw, sp, tl, tx, al) => mq_pR as 4 fun L as => mq_pI as fun x as => mq_pI as fun y as => mq_pI as fun v as => mq_p0 as (0 ≤ v ∧ v ≤ 400)),
  (fun as ρ μ r ρ' μ' => match as, ρ, ρ' with
  | [.inr (.inr (some (_, L))), .inl x, .inl y, .inl v], (nw, sp, tl, tx, al), (nw', sp', tl', tx', al') => []
  | _, _, _ => []))
def kq_set_wets : List mq_V → mq_R → mq_M → List mq_Cu := fun as ρ μ => match as, ρ with
  | [.inr (.inr (some (_, L))), .inl x, .inl y, .inl v], (nw, sp, tl, tx, al) => []
  | _, _ => []
set_option maxHeartbeats 16000000 in
set_option maxRecDepth 100000 in
theorem vq_set_wets (lc : Launch)  : mq_Ct lc cq_set_wets := by
  refine mq_method (lc := lc) (P := pq_set_wets) (cl := []) (T := ([(15, 6, 0), (18, 6, 1), (21, 6, 2)], [], [], [], [], [])) (fuel := 400) (cuts := kq_set_wets) (by decide) rfl ⟨rfl, rfl⟩ (fun _ h => absurd h List.not_mem_nil) ⟨(List.forall_mem_cons.mpr ⟨⟨_, rfl, by decide, kw_30⟩, (List.forall_mem_cons.mpr ⟨⟨_, rfl, by decide, kw_36⟩, (List.forall_mem_cons.mpr ⟨⟨_, rfl, by decide, kw_37⟩, (fun _ h => absurd h List.not_mem_nil)⟩)⟩)⟩), (fun _ h => absurd h List.not_mem_nil), (fun _ h => absurd h List.not_mem_nil), (fun _ h => absurd h List.not_mem_nil), (fun _ h => absurd h List.not_mem_nil), (fun _ h => absurd h List.not_mem_nil)⟩ (by decide +kernel) ⟨_, _, rfl⟩ ?_ ?_ ?_ ?_
  · intro as ρ μ h
    obtain ⟨nw, sp, tl, tx, al⟩ := ρ
    obtain ⟨L, as0, rfl, h0⟩ := mq_pR_spec h
    clear h
    obtain ⟨x, as1, rfl, h1⟩ := mq_pI_spec h0
    clear h0
    obtain ⟨y, as2, rfl, h2⟩ := mq_pI_spec h1
    clear h1
    obtain ⟨v, as3, rfl, h3⟩ := mq_pI_spec h2
    clear h2
    obtain ⟨rfl, hp⟩ := mq_p0_spec h3
    clear h3
    obtain ⟨hp0, hp1⟩ := hp
    rfl
  · intro as ρ μ h
    obtain ⟨nw, sp, tl, tx, al⟩ := ρ
    obtain ⟨L, as0, rfl, h0⟩ := mq_pR_spec h
    clear h
    obtain ⟨x, as1, rfl, h1⟩ := mq_pI_spec h0
    clear h0
    obtain ⟨y, as2, rfl, h2⟩ := mq_pI_spec h1
    clear h1
    obtain ⟨v, as3, rfl, h3⟩ := mq_pI_spec h2
    clear h2
    obtain ⟨rfl, hp⟩ := mq_p0_spec h3
    clear h3
    obtain ⟨hp0, hp1⟩ := hp
    intro hrg
    obtain ⟨⟨ha1a, ha1b⟩, ⟨ha2a, ha2b⟩, ⟨ha3a, ha3b⟩, -⟩ := hrg
    intro hbk
    have e0 : mq_l0 ([.inr (.inr (some (4, L))), .inl x, .inl y, .inl v] : List mq_V) 4 = [some (.inr (.inr (some (4, L)))), some (.inl x), some (.inl y), some (.inl v)] := rfl
    rw [e0]
    repeat' (first | refine And.intro ?_ ?_ | intro _)
    all_goals first | omega | rfl | exact trivial | (simp [mq_up] at * <;> omega)
  · intro as ρ μ h
    obtain ⟨nw, sp, tl, tx, al⟩ := ρ
    obtain ⟨L, as0, rfl, h0⟩ := mq_pR_spec h
    clear h
    obtain ⟨x, as1, rfl, h1⟩ := mq_pI_spec h0
    clear h0
    obtain ⟨y, as2, rfl, h2⟩ := mq_pI_spec h1
    clear h1
    obtain ⟨v, as3, rfl, h3⟩ := mq_pI_spec h2
    clear h2
    obtain ⟨rfl, hp⟩ := mq_p0_spec h3
    clear h3
    obtain ⟨hp0, hp1⟩ := hp
    exact fun _ h => absurd h List.not_mem_nil
  · intro as ρ μ h
    obtain ⟨nw, sp, tl, tx, al⟩ := ρ
    obtain ⟨L, as0, rfl, h0⟩ := mq_pR_spec h
    clear h
    obtain ⟨x, as1, rfl, h1⟩ := mq_pI_spec h0
    clear h0
    obtain ⟨y, as2, rfl, h2⟩ := mq_pI_spec h1
    clear h1
    obtain ⟨v, as3, rfl, h3⟩ := mq_pI_spec h2
    clear h2
    obtain ⟨rfl, hp⟩ := mq_p0_spec h3
    clear h3
    obtain ⟨hp0, hp1⟩ := hp
    intro hrg
    obtain ⟨⟨ha1a, ha1b⟩, ⟨ha2a, ha2b⟩, ⟨ha3a, ha3b⟩, -⟩ := hrg
    exact fun _ h => absurd h List.not_mem_nil
theorem mw0_set_wets : mq_mlA cq_set_wets 0 := ⟨kw_447, ⟨by decide +kernel, by decide +kernel⟩, by decide +kernel, kw_448, kw_449, kw_34, 4, by decide +kernel, fun as ρ μ h => by obtain ⟨nw, sp, tl, tx, al⟩ := ρ; obtain ⟨i, t, e, _⟩ := mq_pR_spec h; exact ⟨i, t, e⟩⟩
def pq_copy_wets : List mq_E := [(0, false, .aload 0), (1, false, .aload 1), (2, false, .invokeinterface 6 3), (5, false, .multianewarray 6 3), (8, false, .aload 1), (9, false, .invokeinterface 6 2), (12, false, .iconst 0), (13, false, .aload 0), (14, false, .invokeinterface 6 2), (17, false, .iconst 0), (18, false, .aload 0), (19, false, .invokeinterface 6 2), (22, false, .arraylength), (23, false, .aload 1), (24, false, .invokeinterface 6 2), (27, false, .arraylength), (28, false, .f2l), (31, false, .athrow), (34, false, .return_)]
def cq_copy_wets : mq_C := ((yX6_copyFrom, cX6_copyFrom, 2, none, { frames := 1, cells := 0, slots := 0, locals := 48 }), (2, 0, 0, 0), 2064, (fun as ρ μ => match ρ with
  | (nw, sp, tl, tx, al) => mq_pR as 4 fun L as => mq_pR as 4 fun M as => mq_p0 as (True)),
  (fun as ρ μ r ρ' μ' => match as, ρ, ρ' with
  | [.inr (.inr (some (_, L))), .inr (.inr (some (_, M)))], (nw, sp, tl, tx, al), (nw', sp', tl', tx', al') => []
  | _, _, _ => []))
def kq_copy_wets : List mq_V → mq_R → mq_M → List mq_Cu := fun as ρ μ => match as, ρ with
  | [.inr (.inr (some (_, L))), .inr (.inr (some (_, M)))], (nw, sp, tl, tx, al) => []
  | _, _ => []
set_option maxHeartbeats 16000000 in
set_option maxRecDepth 100000 in
theorem vq_copy_wets (lc : Launch)  : mq_Ct lc cq_copy_wets := by
  refine mq_method (lc := lc) (P := pq_copy_wets) (cl := []) (T := ([(9, 6, 3), (21, 6, 2)], [], [], [], [35], [(29, false)])) (fuel := 400) (cuts := kq_copy_wets) (by decide) rfl ⟨rfl, rfl⟩ (fun _ h => absurd h List.not_mem_nil) ⟨(List.forall_mem_cons.mpr ⟨⟨_, rfl, by decide, kw_29⟩, (List.forall_mem_cons.mpr ⟨⟨_, rfl, by decide, kw_37⟩, (fun _ h => absurd h List.not_mem_nil)⟩)⟩), (fun _ h => absurd h List.not_mem_nil), (fun _ h => absurd h List.not_mem_nil), (fun _ h => absurd h List.not_mem_nil), (List.forall_mem_cons.mpr ⟨⟨kw_38, kw_39, kw_40, kw_41⟩, (fun _ h => absurd h List.not_mem_nil)⟩), (List.forall_mem_cons.mpr ⟨⟨kw_42, kw_43, kw_44, kw_45⟩, (fun _ h => absurd h List.not_mem_nil)⟩)⟩ (by decide +kernel) ⟨_, _, rfl⟩ ?_ ?_ ?_ ?_
  · intro as ρ μ h
    obtain ⟨nw, sp, tl, tx, al⟩ := ρ
    obtain ⟨L, as0, rfl, h0⟩ := mq_pR_spec h
    clear h
    obtain ⟨M, as1, rfl, h1⟩ := mq_pR_spec h0
    clear h0
    obtain ⟨rfl, hp⟩ := mq_p0_spec h1
    clear h1
    rfl
  · intro as ρ μ h
    obtain ⟨nw, sp, tl, tx, al⟩ := ρ
    obtain ⟨L, as0, rfl, h0⟩ := mq_pR_spec h
    clear h
    obtain ⟨M, as1, rfl, h1⟩ := mq_pR_spec h0
    clear h0
    obtain ⟨rfl, hp⟩ := mq_p0_spec h1
    clear h1
    intro hrg
    intro hbk
    have e0 : mq_l0 ([.inr (.inr (some (4, L))), .inr (.inr (some (4, M)))] : List mq_V) 2 = [some (.inr (.inr (some (4, L)))), some (.inr (.inr (some (4, M))))] := rfl
    rw [e0]
    repeat' (first | refine And.intro ?_ ?_ | intro _)
    all_goals first | omega | rfl | exact trivial | (simp [mq_up] at * <;> omega)
  · intro as ρ μ h
    obtain ⟨nw, sp, tl, tx, al⟩ := ρ
    obtain ⟨L, as0, rfl, h0⟩ := mq_pR_spec h
    clear h
    obtain ⟨M, as1, rfl, h1⟩ := mq_pR_spec h0
    clear h0
    obtain ⟨rfl, hp⟩ := mq_p0_spec h1
    clear h1
    exact fun _ h => absurd h List.not_mem_nil
  · intro as ρ μ h
    obtain ⟨nw, sp, tl, tx, al⟩ := ρ
    obtain ⟨L, as0, rfl, h0⟩ := mq_pR_spec h
    clear h
    obtain ⟨M, as1, rfl, h1⟩ := mq_pR_spec h0
    clear h0
    obtain ⟨rfl, hp⟩ := mq_p0_spec h1
    clear h1
    intro hrg
    exact fun _ h => absurd h List.not_mem_nil
theorem mw0_copy_wets : mq_mlA cq_copy_wets 0 := ⟨kw_56, ⟨by decide +kernel, by decide +kernel⟩, by decide +kernel, kw_57, kw_58, kw_34, 4, by decide +kernel, fun as ρ μ h => by obtain ⟨nw, sp, tl, tx, al⟩ := ρ; obtain ⟨i, t, e, _⟩ := mq_pR_spec h; exact ⟨i, t, e⟩⟩
def pq_has_limits : List mq_E := [(0, false, .iload 1), (1, false, .ifCond .lt (Int.ofNat 16)), (4, false, .iload 1), (5, false, .aload 0), (6, false, .invokeinterface 6 3), (9, false, .if_icmp .ge (Int.ofNat 16)), (12, false, .iconst 1), (13, false, .goto (Int.ofNat 17)), (16, false, .iconst 0), (17, false, .ireturn)]
def cq_has_limits : mq_C := ((yX6_has, cX6_has, 2, (some .boolean), { frames := 0, cells := 0, slots := 0, locals := 0 }), (2, 1, 0, 0), 0, (fun as ρ μ => match ρ with
  | (nw, sp, tl, tx, al) => mq_pR as 5 fun L as => mq_pI as fun x as => mq_p0 as (True)),
  (fun as ρ μ r ρ' μ' => match as, ρ, ρ' with
  | [.inr (.inr (some (_, L))), .inl x], (nw, sp, tl, tx, al), (nw', sp', tl', tx', al') => [(r = 1 ∧ 0 ≤ x ∧ x < 6) ∨ r = 0]
  | _, _, _ => []))
def kq_has_limits : List mq_V → mq_R → mq_M → List mq_Cu := fun as ρ μ => match as, ρ with
  | [.inr (.inr (some (_, L))), .inl x], (nw, sp, tl, tx, al) => []
  | _, _ => []
set_option maxHeartbeats 16000000 in
set_option maxRecDepth 100000 in
theorem vq_has_limits (lc : Launch)  : mq_Ct lc cq_has_limits := by
  refine mq_method (lc := lc) (P := pq_has_limits) (cl := []) (T := ([(9, 6, 3)], [], [], [], [], [])) (fuel := 400) (cuts := kq_has_limits) (by decide) rfl ⟨rfl, rfl⟩ (fun _ h => absurd h List.not_mem_nil) ⟨(List.forall_mem_cons.mpr ⟨⟨_, rfl, by decide, kw_29⟩, (fun _ h => absurd h List.not_mem_nil)⟩), (fun _ h => absurd h List.not_mem_nil), (fun _ h => absurd h List.not_mem_nil), (fun _ h => absurd h List.not_mem_nil), (fun _ h => absurd h List.not_mem_nil), (fun _ h => absurd h List.not_mem_nil)⟩ (by decide +kernel) ⟨_, _, rfl⟩ ?_ ?_ ?_ ?_
  · intro as ρ μ h
    obtain ⟨nw, sp, tl, tx, al⟩ := ρ
    obtain ⟨L, as0, rfl, h0⟩ := mq_pR_spec h
    clear h
    obtain ⟨x, as1, rfl, h1⟩ := mq_pI_spec h0
    clear h0
    obtain ⟨rfl, hp⟩ := mq_p0_spec h1
    clear h1
    rfl
  · intro as ρ μ h
    obtain ⟨nw, sp, tl, tx, al⟩ := ρ
    obtain ⟨L, as0, rfl, h0⟩ := mq_pR_spec h
    clear h
    obtain ⟨x, as1, rfl, h1⟩ := mq_pI_spec h0
    clear h0
    obtain ⟨rfl, hp⟩ := mq_p0_spec h1
    clear h1
    intro hrg
    obtain ⟨⟨ha1a, ha1b⟩, -⟩ := hrg
    intro hbk
    have e0 : mq_l0 ([.inr (.inr (some (5, L))), .inl x] : List mq_V) 2 = [some (.inr (.inr (some (5, L)))), some (.inl x)] := rfl
    rw [e0]
    repeat' (first | refine And.intro ?_ ?_ | intro _)
    all_goals first | omega | rfl | exact trivial | (simp [mq_up] at * <;> omega)
  · intro as ρ μ h
    obtain ⟨nw, sp, tl, tx, al⟩ := ρ
    obtain ⟨L, as0, rfl, h0⟩ := mq_pR_spec h
    clear h
    obtain ⟨x, as1, rfl, h1⟩ := mq_pI_spec h0
    clear h0
    obtain ⟨rfl, hp⟩ := mq_p0_spec h1
    clear h1
    exact fun _ h => absurd h List.not_mem_nil
  · intro as ρ μ h
    obtain ⟨nw, sp, tl, tx, al⟩ := ρ
    obtain ⟨L, as0, rfl, h0⟩ := mq_pR_spec h
    clear h
    obtain ⟨x, as1, rfl, h1⟩ := mq_pI_spec h0
    clear h0
    obtain ⟨rfl, hp⟩ := mq_p0_spec h1
    clear h1
    intro hrg
    obtain ⟨⟨ha1a, ha1b⟩, -⟩ := hrg
    exact fun _ h => absurd h List.not_mem_nil
def pq_isFull_limits : List mq_E := [(0, false, .aload 0), (1, false, .invokeinterface 6 3), (4, false, .aload 0), (5, false, .invokeinterface 6 0), (8, false, .if_icmp .lt (Int.ofNat 15)), (11, false, .iconst 1), (12, false, .goto (Int.ofNat 16)), (15, false, .iconst 0), (16, false, .ireturn)]
def cq_isFull_limits : mq_C := ((yX6_isFull, cX6_isFull, 1, (some .boolean), { frames := 0, cells := 0, slots := 0, locals := 0 }), (1, 1, 0, 0), 0, (fun as ρ μ => match ρ with
  | (nw, sp, tl, tx, al) => mq_pR as 5 fun L as => mq_p0 as (True)),
  (fun as ρ μ r ρ' μ' => match as, ρ, ρ' with
  | [.inr (.inr (some (_, L)))], (nw, sp, tl, tx, al), (nw', sp', tl', tx', al') => [r = 1 ∨ (r = 0 ∧ μ (5, L) 3 < 6)]
  | _, _, _ => []))
def kq_isFull_limits : List mq_V → mq_R → mq_M → List mq_Cu := fun as ρ μ => match as, ρ with
  | [.inr (.inr (some (_, L)))], (nw, sp, tl, tx, al) => []
  | _, _ => []
set_option maxHeartbeats 16000000 in
set_option maxRecDepth 100000 in
theorem vq_isFull_limits (lc : Launch)  : mq_Ct lc cq_isFull_limits := by
  refine mq_method (lc := lc) (P := pq_isFull_limits) (cl := []) (T := ([(9, 6, 3), (15, 6, 0)], [], [], [], [], [])) (fuel := 400) (cuts := kq_isFull_limits) (by decide) rfl ⟨rfl, rfl⟩ (fun _ h => absurd h List.not_mem_nil) ⟨(List.forall_mem_cons.mpr ⟨⟨_, rfl, by decide, kw_29⟩, (List.forall_mem_cons.mpr ⟨⟨_, rfl, by decide, kw_30⟩, (fun _ h => absurd h List.not_mem_nil)⟩)⟩), (fun _ h => absurd h List.not_mem_nil), (fun _ h => absurd h List.not_mem_nil), (fun _ h => absurd h List.not_mem_nil), (fun _ h => absurd h List.not_mem_nil), (fun _ h => absurd h List.not_mem_nil)⟩ (by decide +kernel) ⟨_, _, rfl⟩ ?_ ?_ ?_ ?_
  · intro as ρ μ h
    obtain ⟨nw, sp, tl, tx, al⟩ := ρ
    obtain ⟨L, as0, rfl, h0⟩ := mq_pR_spec h
    clear h
    obtain ⟨rfl, hp⟩ := mq_p0_spec h0
    clear h0
    rfl
  · intro as ρ μ h
    obtain ⟨nw, sp, tl, tx, al⟩ := ρ
    obtain ⟨L, as0, rfl, h0⟩ := mq_pR_spec h
    clear h
    obtain ⟨rfl, hp⟩ := mq_p0_spec h0
    clear h0
    intro hrg
    intro hbk
    have e0 : mq_l0 ([.inr (.inr (some (5, L)))] : List mq_V) 1 = [some (.inr (.inr (some (5, L))))] := rfl
    rw [e0]
    repeat' (first | refine And.intro ?_ ?_ | intro _)
    all_goals first | omega | rfl | exact trivial | (simp [mq_up] at * <;> omega)
  · intro as ρ μ h
    obtain ⟨nw, sp, tl, tx, al⟩ := ρ
    obtain ⟨L, as0, rfl, h0⟩ := mq_pR_spec h
    clear h
    obtain ⟨rfl, hp⟩ := mq_p0_spec h0
    clear h0
    exact fun _ h => absurd h List.not_mem_nil
  · intro as ρ μ h
    obtain ⟨nw, sp, tl, tx, al⟩ := ρ
    obtain ⟨L, as0, rfl, h0⟩ := mq_pR_spec h
    clear h
    obtain ⟨rfl, hp⟩ := mq_p0_spec h0
    clear h0
    intro hrg
    exact fun _ h => absurd h List.not_mem_nil
theorem mw0_isFull_limits : mq_mlA cq_isFull_limits 0 := ⟨kw_31, ⟨by decide +kernel, by decide +kernel⟩, by decide +kernel, kw_32, kw_33, kw_34, 5, by decide +kernel, fun as ρ μ h => by obtain ⟨nw, sp, tl, tx, al⟩ := ρ; obtain ⟨i, t, e, _⟩ := mq_pR_spec h; exact ⟨i, t, e⟩⟩
def pq_add_limits : List mq_E := [(0, false, .aload 0), (1, false, .invokestatic 0), (4, false, .ifCond .eq (Int.ofNat 9)), (7, false, .iconst (-1)), (8, false, .ireturn), (9, false, .aload 0), (10, false, .dup), (11, false, .invokeinterface 6 3), (14, false, .iconst 1), (15, false, .iadd), (16, false, .multianewarray 6 3), (19, false, .aload 0), (20, false, .invokeinterface 6 3), (23, false, .iconst 1), (24, false, .isub), (25, false, .ireturn)]
def cq_add_limits : mq_C := ((yX6_add, cX6_add, 1, (some .int), { frames := 1, cells := 0, slots := 0, locals := 20 }), (1, 1, 0, 0), 32, (fun as ρ μ => match ρ with
  | (nw, sp, tl, tx, al) => mq_pR as 5 fun L as => mq_p0 as (True)),
  (fun as ρ μ r ρ' μ' => match as, ρ, ρ' with
  | [.inr (.inr (some (_, L)))], (nw, sp, tl, tx, al), (nw', sp', tl', tx', al') => [-1 ≤ r, r < 6]
  | _, _, _ => []))
def kq_add_limits : List mq_V → mq_R → mq_M → List mq_Cu := fun as ρ μ => match as, ρ with
  | [.inr (.inr (some (_, L)))], (nw, sp, tl, tx, al) => []
  | _, _ => []
set_option maxHeartbeats 16000000 in
set_option maxRecDepth 100000 in
theorem vq_add_limits (lc : Launch) (h_isFull_limits : mq_Ct lc cq_isFull_limits) : mq_Ct lc cq_add_limits := by
  refine mq_method (lc := lc) (P := pq_add_limits) (cl := [cq_isFull_limits]) (T := ([(9, 6, 3)], [], [], [(25, 0, 0)], [], [])) (fuel := 400) (cuts := kq_add_limits) (by decide) rfl ⟨rfl, rfl⟩ (List.forall_mem_cons.mpr ⟨h_isFull_limits, (fun _ h => absurd h List.not_mem_nil)⟩) ⟨(List.forall_mem_cons.mpr ⟨⟨_, rfl, by decide, kw_29⟩, (fun _ h => absurd h List.not_mem_nil)⟩), (fun _ h => absurd h List.not_mem_nil), (fun _ h => absurd h List.not_mem_nil), (List.forall_mem_cons.mpr ⟨mq_ml0 rfl mw0_isFull_limits kw_35, (fun _ h => absurd h List.not_mem_nil)⟩), (fun _ h => absurd h List.not_mem_nil), (fun _ h => absurd h List.not_mem_nil)⟩ (by decide +kernel) ⟨_, _, rfl⟩ ?_ ?_ ?_ ?_
  · intro as ρ μ h
    obtain ⟨nw, sp, tl, tx, al⟩ := ρ
    obtain ⟨L, as0, rfl, h0⟩ := mq_pR_spec h
    clear h
    obtain ⟨rfl, hp⟩ := mq_p0_spec h0
    clear h0
    rfl
  · intro as ρ μ h
    obtain ⟨nw, sp, tl, tx, al⟩ := ρ
    obtain ⟨L, as0, rfl, h0⟩ := mq_pR_spec h
    clear h
    obtain ⟨rfl, hp⟩ := mq_p0_spec h0
    clear h0
    intro hrg
    intro hbk
    have e0 : mq_l0 ([.inr (.inr (some (5, L)))] : List mq_V) 1 = [some (.inr (.inr (some (5, L))))] := rfl
    rw [e0]
    repeat' (first | refine And.intro ?_ ?_ | intro _)
    all_goals first | omega | rfl | exact trivial | (simp [mq_up] at * <;> omega)
  · intro as ρ μ h
    obtain ⟨nw, sp, tl, tx, al⟩ := ρ
    obtain ⟨L, as0, rfl, h0⟩ := mq_pR_spec h
    clear h
    obtain ⟨rfl, hp⟩ := mq_p0_spec h0
    clear h0
    exact fun _ h => absurd h List.not_mem_nil
  · intro as ρ μ h
    obtain ⟨nw, sp, tl, tx, al⟩ := ρ
    obtain ⟨L, as0, rfl, h0⟩ := mq_pR_spec h
    clear h
    obtain ⟨rfl, hp⟩ := mq_p0_spec h0
    clear h0
    intro hrg
    exact fun _ h => absurd h List.not_mem_nil
theorem mw0_add_limits : mq_mlA cq_add_limits 0 := ⟨kw_425, ⟨by decide +kernel, by decide +kernel⟩, by decide +kernel, kw_426, kw_427, kw_34, 5, by decide +kernel, fun as ρ μ h => by obtain ⟨nw, sp, tl, tx, al⟩ := ρ; obtain ⟨i, t, e, _⟩ := mq_pR_spec h; exact ⟨i, t, e⟩⟩
def pq_get_limits : List mq_E := [(0, false, .iload 1), (1, false, .ifCond .lt (Int.ofNat 24)), (4, false, .iload 1), (5, false, .aload 0), (6, false, .invokeinterface 6 0), (9, false, .if_icmp .ge (Int.ofNat 24)), (12, false, .iload 2), (13, false, .ifCond .lt (Int.ofNat 24)), (16, false, .iload 2), (17, false, .aload 0), (18, false, .invokeinterface 6 1), (21, false, .if_icmp .lt (Int.ofNat 26)), (24, false, .iconst 0), (25, false, .ireturn), (26, false, .aload 0), (27, false, .invokeinterface 6 2), (30, false, .iload 1), (31, false, .aload 0), (32, false, .invokeinterface 6 1), (35, false, .imul), (36, false, .iload 2), (37, false, .iadd), (38, false, .iaload), (39, false, .ireturn)]
def cq_get_limits : mq_C := ((yX6_get, cX6_get, 3, (some .int), { frames := 0, cells := 0, slots := 0, locals := 0 }), (3, 1, 0, 0), 0, (fun as ρ μ => match ρ with
  | (nw, sp, tl, tx, al) => mq_pR as 5 fun L as => mq_pI as fun x as => mq_pI as fun y as => mq_p0 as (True)),
  (fun as ρ μ r ρ' μ' => match as, ρ, ρ' with
  | [.inr (.inr (some (_, L))), .inl x, .inl y], (nw, sp, tl, tx, al), (nw', sp', tl', tx', al') => [0 ≤ r, r ≤ 400]
  | _, _, _ => []))
def kq_get_limits : List mq_V → mq_R → mq_M → List mq_Cu := fun as ρ μ => match as, ρ with
  | [.inr (.inr (some (_, L))), .inl x, .inl y], (nw, sp, tl, tx, al) => []
  | _, _ => []
set_option maxHeartbeats 16000000 in
set_option maxRecDepth 100000 in
theorem vq_get_limits (lc : Launch)  : mq_Ct lc cq_get_limits := by
  refine mq_method (lc := lc) (P := pq_get_limits) (cl := []) (T := ([(15, 6, 0), (18, 6, 1), (21, 6, 2)], [], [], [], [], [])) (fuel := 400) (cuts := kq_get_limits) (by decide) rfl ⟨rfl, rfl⟩ (fun _ h => absurd h List.not_mem_nil) ⟨(List.forall_mem_cons.mpr ⟨⟨_, rfl, by decide, kw_30⟩, (List.forall_mem_cons.mpr ⟨⟨_, rfl, by decide, kw_36⟩, (List.forall_mem_cons.mpr ⟨⟨_, rfl, by decide, kw_37⟩, (fun _ h => absurd h List.not_mem_nil)⟩)⟩)⟩), (fun _ h => absurd h List.not_mem_nil), (fun _ h => absurd h List.not_mem_nil), (fun _ h => absurd h List.not_mem_nil), (fun _ h => absurd h List.not_mem_nil), (fun _ h => absurd h List.not_mem_nil)⟩ (by decide +kernel) ⟨_, _, rfl⟩ ?_ ?_ ?_ ?_
  · intro as ρ μ h
    obtain ⟨nw, sp, tl, tx, al⟩ := ρ
    obtain ⟨L, as0, rfl, h0⟩ := mq_pR_spec h
    clear h
    obtain ⟨x, as1, rfl, h1⟩ := mq_pI_spec h0
    clear h0
    obtain ⟨y, as2, rfl, h2⟩ := mq_pI_spec h1
    clear h1
    obtain ⟨rfl, hp⟩ := mq_p0_spec h2
    clear h2
    rfl
  · intro as ρ μ h
    obtain ⟨nw, sp, tl, tx, al⟩ := ρ
    obtain ⟨L, as0, rfl, h0⟩ := mq_pR_spec h
    clear h
    obtain ⟨x, as1, rfl, h1⟩ := mq_pI_spec h0
    clear h0
    obtain ⟨y, as2, rfl, h2⟩ := mq_pI_spec h1
    clear h1
    obtain ⟨rfl, hp⟩ := mq_p0_spec h2
    clear h2
    intro hrg
    obtain ⟨⟨ha1a, ha1b⟩, ⟨ha2a, ha2b⟩, -⟩ := hrg
    intro hbk
    have e0 : mq_l0 ([.inr (.inr (some (5, L))), .inl x, .inl y] : List mq_V) 3 = [some (.inr (.inr (some (5, L)))), some (.inl x), some (.inl y)] := rfl
    rw [e0]
    repeat' (first | refine And.intro ?_ ?_ | intro _)
    all_goals first | omega | rfl | exact trivial | (simp [mq_up] at * <;> omega)
  · intro as ρ μ h
    obtain ⟨nw, sp, tl, tx, al⟩ := ρ
    obtain ⟨L, as0, rfl, h0⟩ := mq_pR_spec h
    clear h
    obtain ⟨x, as1, rfl, h1⟩ := mq_pI_spec h0
    clear h0
    obtain ⟨y, as2, rfl, h2⟩ := mq_pI_spec h1
    clear h1
    obtain ⟨rfl, hp⟩ := mq_p0_spec h2
    clear h2
    exact fun _ h => absurd h List.not_mem_nil
  · intro as ρ μ h
    obtain ⟨nw, sp, tl, tx, al⟩ := ρ
    obtain ⟨L, as0, rfl, h0⟩ := mq_pR_spec h
    clear h
    obtain ⟨x, as1, rfl, h1⟩ := mq_pI_spec h0
    clear h0
    obtain ⟨y, as2, rfl, h2⟩ := mq_pI_spec h1
    clear h1
    obtain ⟨rfl, hp⟩ := mq_p0_spec h2
    clear h2
    intro hrg
    obtain ⟨⟨ha1a, ha1b⟩, ⟨ha2a, ha2b⟩, -⟩ := hrg
    exact fun _ h => absurd h List.not_mem_nil
theorem mw0_get_limits : mq_mlA cq_get_limits 0 := ⟨kw_60, ⟨by decide +kernel, by decide +kernel⟩, by decide +kernel, kw_61, kw_62, kw_34, 5, by decide +kernel, fun as ρ μ h => by obtain ⟨nw, sp, tl, tx, al⟩ := ρ; obtain ⟨i, t, e, _⟩ := mq_pR_spec h; exact ⟨i, t, e⟩⟩
def pq_set_limits : List mq_E := [(0, false, .iload 1), (1, false, .ifCond .lt (Int.ofNat 38)), (4, false, .iload 1), (5, false, .aload 0), (6, false, .invokeinterface 6 0), (9, false, .if_icmp .ge (Int.ofNat 38)), (12, false, .iload 2), (13, false, .ifCond .lt (Int.ofNat 38)), (16, false, .iload 2), (17, false, .aload 0), (18, false, .invokeinterface 6 1), (21, false, .if_icmp .ge (Int.ofNat 38)), (24, false, .aload 0), (25, false, .invokeinterface 6 2), (28, false, .iload 1), (29, false, .aload 0), (30, false, .invokeinterface 6 1), (33, false, .imul), (34, false, .iload 2), (35, false, .iadd), (36, false, .iload 3), (37, false, .iastore), (38, false, .return_)]
def cq_set_limits : mq_C := ((yX6_set, cX6_set, 4, none, { frames := 0, cells := 0, slots := 0, locals := 0 }), (4, 0, 0, 0), 4096, (fun as ρ μ => match ρ with
  | (nw, sp, tl, tx, al) => mq_pR as 5 fun L as => mq_pI as fun x as => mq_pI as fun y as => mq_pI as fun v as => mq_p0 as (0 ≤ v ∧ v ≤ 400)),
  (fun as ρ μ r ρ' μ' => match as, ρ, ρ' with
  | [.inr (.inr (some (_, L))), .inl x, .inl y, .inl v], (nw, sp, tl, tx, al), (nw', sp', tl', tx', al') => []
  | _, _, _ => []))
def kq_set_limits : List mq_V → mq_R → mq_M → List mq_Cu := fun as ρ μ => match as, ρ with
  | [.inr (.inr (some (_, L))), .inl x, .inl y, .inl v], (nw, sp, tl, tx, al) => []
  | _, _ => []
set_option maxHeartbeats 16000000 in
set_option maxRecDepth 100000 in
theorem vq_set_limits (lc : Launch)  : mq_Ct lc cq_set_limits := by
  refine mq_method (lc := lc) (P := pq_set_limits) (cl := []) (T := ([(15, 6, 0), (18, 6, 1), (21, 6, 2)], [], [], [], [], [])) (fuel := 400) (cuts := kq_set_limits) (by decide) rfl ⟨rfl, rfl⟩ (fun _ h => absurd h List.not_mem_nil) ⟨(List.forall_mem_cons.mpr ⟨⟨_, rfl, by decide, kw_30⟩, (List.forall_mem_cons.mpr ⟨⟨_, rfl, by decide, kw_36⟩, (List.forall_mem_cons.mpr ⟨⟨_, rfl, by decide, kw_37⟩, (fun _ h => absurd h List.not_mem_nil)⟩)⟩)⟩), (fun _ h => absurd h List.not_mem_nil), (fun _ h => absurd h List.not_mem_nil), (fun _ h => absurd h List.not_mem_nil), (fun _ h => absurd h List.not_mem_nil), (fun _ h => absurd h List.not_mem_nil)⟩ (by decide +kernel) ⟨_, _, rfl⟩ ?_ ?_ ?_ ?_
  · intro as ρ μ h
    obtain ⟨nw, sp, tl, tx, al⟩ := ρ
    obtain ⟨L, as0, rfl, h0⟩ := mq_pR_spec h
    clear h
    obtain ⟨x, as1, rfl, h1⟩ := mq_pI_spec h0
    clear h0
    obtain ⟨y, as2, rfl, h2⟩ := mq_pI_spec h1
    clear h1
    obtain ⟨v, as3, rfl, h3⟩ := mq_pI_spec h2
    clear h2
    obtain ⟨rfl, hp⟩ := mq_p0_spec h3
    clear h3
    obtain ⟨hp0, hp1⟩ := hp
    rfl
  · intro as ρ μ h
    obtain ⟨nw, sp, tl, tx, al⟩ := ρ
    obtain ⟨L, as0, rfl, h0⟩ := mq_pR_spec h
    clear h
    obtain ⟨x, as1, rfl, h1⟩ := mq_pI_spec h0
    clear h0
    obtain ⟨y, as2, rfl, h2⟩ := mq_pI_spec h1
    clear h1
    obtain ⟨v, as3, rfl, h3⟩ := mq_pI_spec h2
    clear h2
    obtain ⟨rfl, hp⟩ := mq_p0_spec h3
    clear h3
    obtain ⟨hp0, hp1⟩ := hp
    intro hrg
    obtain ⟨⟨ha1a, ha1b⟩, ⟨ha2a, ha2b⟩, ⟨ha3a, ha3b⟩, -⟩ := hrg
    intro hbk
    have e0 : mq_l0 ([.inr (.inr (some (5, L))), .inl x, .inl y, .inl v] : List mq_V) 4 = [some (.inr (.inr (some (5, L)))), some (.inl x), some (.inl y), some (.inl v)] := rfl
    rw [e0]
    repeat' (first | refine And.intro ?_ ?_ | intro _)
    all_goals first | omega | rfl | exact trivial | (simp [mq_up] at * <;> omega)
  · intro as ρ μ h
    obtain ⟨nw, sp, tl, tx, al⟩ := ρ
    obtain ⟨L, as0, rfl, h0⟩ := mq_pR_spec h
    clear h
    obtain ⟨x, as1, rfl, h1⟩ := mq_pI_spec h0
    clear h0
    obtain ⟨y, as2, rfl, h2⟩ := mq_pI_spec h1
    clear h1
    obtain ⟨v, as3, rfl, h3⟩ := mq_pI_spec h2
    clear h2
    obtain ⟨rfl, hp⟩ := mq_p0_spec h3
    clear h3
    obtain ⟨hp0, hp1⟩ := hp
    exact fun _ h => absurd h List.not_mem_nil
  · intro as ρ μ h
    obtain ⟨nw, sp, tl, tx, al⟩ := ρ
    obtain ⟨L, as0, rfl, h0⟩ := mq_pR_spec h
    clear h
    obtain ⟨x, as1, rfl, h1⟩ := mq_pI_spec h0
    clear h0
    obtain ⟨y, as2, rfl, h2⟩ := mq_pI_spec h1
    clear h1
    obtain ⟨v, as3, rfl, h3⟩ := mq_pI_spec h2
    clear h2
    obtain ⟨rfl, hp⟩ := mq_p0_spec h3
    clear h3
    obtain ⟨hp0, hp1⟩ := hp
    intro hrg
    obtain ⟨⟨ha1a, ha1b⟩, ⟨ha2a, ha2b⟩, ⟨ha3a, ha3b⟩, -⟩ := hrg
    exact fun _ h => absurd h List.not_mem_nil
theorem mw0_set_limits : mq_mlA cq_set_limits 0 := ⟨kw_447, ⟨by decide +kernel, by decide +kernel⟩, by decide +kernel, kw_448, kw_449, kw_34, 5, by decide +kernel, fun as ρ μ h => by obtain ⟨nw, sp, tl, tx, al⟩ := ρ; obtain ⟨i, t, e, _⟩ := mq_pR_spec h; exact ⟨i, t, e⟩⟩
def pq_copy_limits : List mq_E := [(0, false, .aload 0), (1, false, .aload 1), (2, false, .invokeinterface 6 3), (5, false, .multianewarray 6 3), (8, false, .aload 1), (9, false, .invokeinterface 6 2), (12, false, .iconst 0), (13, false, .aload 0), (14, false, .invokeinterface 6 2), (17, false, .iconst 0), (18, false, .aload 0), (19, false, .invokeinterface 6 2), (22, false, .arraylength), (23, false, .aload 1), (24, false, .invokeinterface 6 2), (27, false, .arraylength), (28, false, .f2l), (31, false, .athrow), (34, false, .return_)]
def cq_copy_limits : mq_C := ((yX6_copyFrom, cX6_copyFrom, 2, none, { frames := 1, cells := 0, slots := 0, locals := 48 }), (2, 0, 0, 0), 4128, (fun as ρ μ => match ρ with
  | (nw, sp, tl, tx, al) => mq_pR as 5 fun L as => mq_pR as 5 fun M as => mq_p0 as (True)),
  (fun as ρ μ r ρ' μ' => match as, ρ, ρ' with
  | [.inr (.inr (some (_, L))), .inr (.inr (some (_, M)))], (nw, sp, tl, tx, al), (nw', sp', tl', tx', al') => []
  | _, _, _ => []))
def kq_copy_limits : List mq_V → mq_R → mq_M → List mq_Cu := fun as ρ μ => match as, ρ with
  | [.inr (.inr (some (_, L))), .inr (.inr (some (_, M)))], (nw, sp, tl, tx, al) => []
  | _, _ => []
set_option maxHeartbeats 16000000 in
set_option maxRecDepth 100000 in
theorem vq_copy_limits (lc : Launch)  : mq_Ct lc cq_copy_limits := by
  refine mq_method (lc := lc) (P := pq_copy_limits) (cl := []) (T := ([(9, 6, 3), (21, 6, 2)], [], [], [], [35], [(29, false)])) (fuel := 400) (cuts := kq_copy_limits) (by decide) rfl ⟨rfl, rfl⟩ (fun _ h => absurd h List.not_mem_nil) ⟨(List.forall_mem_cons.mpr ⟨⟨_, rfl, by decide, kw_29⟩, (List.forall_mem_cons.mpr ⟨⟨_, rfl, by decide, kw_37⟩, (fun _ h => absurd h List.not_mem_nil)⟩)⟩), (fun _ h => absurd h List.not_mem_nil), (fun _ h => absurd h List.not_mem_nil), (fun _ h => absurd h List.not_mem_nil), (List.forall_mem_cons.mpr ⟨⟨kw_38, kw_39, kw_40, kw_41⟩, (fun _ h => absurd h List.not_mem_nil)⟩), (List.forall_mem_cons.mpr ⟨⟨kw_42, kw_43, kw_44, kw_45⟩, (fun _ h => absurd h List.not_mem_nil)⟩)⟩ (by decide +kernel) ⟨_, _, rfl⟩ ?_ ?_ ?_ ?_
  · intro as ρ μ h
    obtain ⟨nw, sp, tl, tx, al⟩ := ρ
    obtain ⟨L, as0, rfl, h0⟩ := mq_pR_spec h
    clear h
    obtain ⟨M, as1, rfl, h1⟩ := mq_pR_spec h0
    clear h0
    obtain ⟨rfl, hp⟩ := mq_p0_spec h1
    clear h1
    rfl
  · intro as ρ μ h
    obtain ⟨nw, sp, tl, tx, al⟩ := ρ
    obtain ⟨L, as0, rfl, h0⟩ := mq_pR_spec h
    clear h
    obtain ⟨M, as1, rfl, h1⟩ := mq_pR_spec h0
    clear h0
    obtain ⟨rfl, hp⟩ := mq_p0_spec h1
    clear h1
    intro hrg
    intro hbk
    have e0 : mq_l0 ([.inr (.inr (some (5, L))), .inr (.inr (some (5, M)))] : List mq_V) 2 = [some (.inr (.inr (some (5, L)))), some (.inr (.inr (some (5, M))))] := rfl
    rw [e0]
    repeat' (first | refine And.intro ?_ ?_ | intro _)
    all_goals first | omega | rfl | exact trivial | (simp [mq_up] at * <;> omega)
  · intro as ρ μ h
    obtain ⟨nw, sp, tl, tx, al⟩ := ρ
    obtain ⟨L, as0, rfl, h0⟩ := mq_pR_spec h
    clear h
    obtain ⟨M, as1, rfl, h1⟩ := mq_pR_spec h0
    clear h0
    obtain ⟨rfl, hp⟩ := mq_p0_spec h1
    clear h1
    exact fun _ h => absurd h List.not_mem_nil
  · intro as ρ μ h
    obtain ⟨nw, sp, tl, tx, al⟩ := ρ
    obtain ⟨L, as0, rfl, h0⟩ := mq_pR_spec h
    clear h
    obtain ⟨M, as1, rfl, h1⟩ := mq_pR_spec h0
    clear h0
    obtain ⟨rfl, hp⟩ := mq_p0_spec h1
    clear h1
    intro hrg
    exact fun _ h => absurd h List.not_mem_nil
theorem mw0_copy_limits : mq_mlA cq_copy_limits 0 := ⟨kw_56, ⟨by decide +kernel, by decide +kernel⟩, by decide +kernel, kw_57, kw_58, kw_34, 5, by decide +kernel, fun as ρ μ h => by obtain ⟨nw, sp, tl, tx, al⟩ := ρ; obtain ⟨i, t, e, _⟩ := mq_pR_spec h; exact ⟨i, t, e⟩⟩
def pq_has_platforms : List mq_E := [(0, false, .iload 1), (1, false, .ifCond .lt (Int.ofNat 16)), (4, false, .iload 1), (5, false, .aload 0), (6, false, .invokeinterface 6 3), (9, false, .if_icmp .ge (Int.ofNat 16)), (12, false, .iconst 1), (13, false, .goto (Int.ofNat 17)), (16, false, .iconst 0), (17, false, .ireturn)]
def cq_has_platforms : mq_C := ((yX6_has, cX6_has, 2, (some .boolean), { frames := 0, cells := 0, slots := 0, locals := 0 }), (2, 1, 0, 0), 0, (fun as ρ μ => match ρ with
  | (nw, sp, tl, tx, al) => mq_pR as 6 fun L as => mq_pI as fun x as => mq_p0 as (True)),
  (fun as ρ μ r ρ' μ' => match as, ρ, ρ' with
  | [.inr (.inr (some (_, L))), .inl x], (nw, sp, tl, tx, al), (nw', sp', tl', tx', al') => [(r = 1 ∧ 0 ≤ x ∧ x < 6) ∨ r = 0]
  | _, _, _ => []))
def kq_has_platforms : List mq_V → mq_R → mq_M → List mq_Cu := fun as ρ μ => match as, ρ with
  | [.inr (.inr (some (_, L))), .inl x], (nw, sp, tl, tx, al) => []
  | _, _ => []
set_option maxHeartbeats 16000000 in
set_option maxRecDepth 100000 in
theorem vq_has_platforms (lc : Launch)  : mq_Ct lc cq_has_platforms := by
  refine mq_method (lc := lc) (P := pq_has_platforms) (cl := []) (T := ([(9, 6, 3)], [], [], [], [], [])) (fuel := 400) (cuts := kq_has_platforms) (by decide) rfl ⟨rfl, rfl⟩ (fun _ h => absurd h List.not_mem_nil) ⟨(List.forall_mem_cons.mpr ⟨⟨_, rfl, by decide, kw_29⟩, (fun _ h => absurd h List.not_mem_nil)⟩), (fun _ h => absurd h List.not_mem_nil), (fun _ h => absurd h List.not_mem_nil), (fun _ h => absurd h List.not_mem_nil), (fun _ h => absurd h List.not_mem_nil), (fun _ h => absurd h List.not_mem_nil)⟩ (by decide +kernel) ⟨_, _, rfl⟩ ?_ ?_ ?_ ?_
  · intro as ρ μ h
    obtain ⟨nw, sp, tl, tx, al⟩ := ρ
    obtain ⟨L, as0, rfl, h0⟩ := mq_pR_spec h
    clear h
    obtain ⟨x, as1, rfl, h1⟩ := mq_pI_spec h0
    clear h0
    obtain ⟨rfl, hp⟩ := mq_p0_spec h1
    clear h1
    rfl
  · intro as ρ μ h
    obtain ⟨nw, sp, tl, tx, al⟩ := ρ
    obtain ⟨L, as0, rfl, h0⟩ := mq_pR_spec h
    clear h
    obtain ⟨x, as1, rfl, h1⟩ := mq_pI_spec h0
    clear h0
    obtain ⟨rfl, hp⟩ := mq_p0_spec h1
    clear h1
    intro hrg
    obtain ⟨⟨ha1a, ha1b⟩, -⟩ := hrg
    intro hbk
    have e0 : mq_l0 ([.inr (.inr (some (6, L))), .inl x] : List mq_V) 2 = [some (.inr (.inr (some (6, L)))), some (.inl x)] := rfl
    rw [e0]
    repeat' (first | refine And.intro ?_ ?_ | intro _)
    all_goals first | omega | rfl | exact trivial | (simp [mq_up] at * <;> omega)
  · intro as ρ μ h
    obtain ⟨nw, sp, tl, tx, al⟩ := ρ
    obtain ⟨L, as0, rfl, h0⟩ := mq_pR_spec h
    clear h
    obtain ⟨x, as1, rfl, h1⟩ := mq_pI_spec h0
    clear h0
    obtain ⟨rfl, hp⟩ := mq_p0_spec h1
    clear h1
    exact fun _ h => absurd h List.not_mem_nil
  · intro as ρ μ h
    obtain ⟨nw, sp, tl, tx, al⟩ := ρ
    obtain ⟨L, as0, rfl, h0⟩ := mq_pR_spec h
    clear h
    obtain ⟨x, as1, rfl, h1⟩ := mq_pI_spec h0
    clear h0
    obtain ⟨rfl, hp⟩ := mq_p0_spec h1
    clear h1
    intro hrg
    obtain ⟨⟨ha1a, ha1b⟩, -⟩ := hrg
    exact fun _ h => absurd h List.not_mem_nil
theorem mw0_has_platforms : mq_mlA cq_has_platforms 0 := ⟨kw_235, ⟨by decide +kernel, by decide +kernel⟩, by decide +kernel, kw_236, kw_237, kw_34, 6, by decide +kernel, fun as ρ μ h => by obtain ⟨nw, sp, tl, tx, al⟩ := ρ; obtain ⟨i, t, e, _⟩ := mq_pR_spec h; exact ⟨i, t, e⟩⟩
def pq_isFull_platforms : List mq_E := [(0, false, .aload 0), (1, false, .invokeinterface 6 3), (4, false, .aload 0), (5, false, .invokeinterface 6 0), (8, false, .if_icmp .lt (Int.ofNat 15)), (11, false, .iconst 1), (12, false, .goto (Int.ofNat 16)), (15, false, .iconst 0), (16, false, .ireturn)]
def cq_isFull_platforms : mq_C := ((yX6_isFull, cX6_isFull, 1, (some .boolean), { frames := 0, cells := 0, slots := 0, locals := 0 }), (1, 1, 0, 0), 0, (fun as ρ μ => match ρ with
  | (nw, sp, tl, tx, al) => mq_pR as 6 fun L as => mq_p0 as (True)),
  (fun as ρ μ r ρ' μ' => match as, ρ, ρ' with
  | [.inr (.inr (some (_, L)))], (nw, sp, tl, tx, al), (nw', sp', tl', tx', al') => [r = 1 ∨ (r = 0 ∧ μ (6, L) 3 < 6)]
  | _, _, _ => []))
def kq_isFull_platforms : List mq_V → mq_R → mq_M → List mq_Cu := fun as ρ μ => match as, ρ with
  | [.inr (.inr (some (_, L)))], (nw, sp, tl, tx, al) => []
  | _, _ => []
set_option maxHeartbeats 16000000 in
set_option maxRecDepth 100000 in
theorem vq_isFull_platforms (lc : Launch)  : mq_Ct lc cq_isFull_platforms := by
  refine mq_method (lc := lc) (P := pq_isFull_platforms) (cl := []) (T := ([(9, 6, 3), (15, 6, 0)], [], [], [], [], [])) (fuel := 400) (cuts := kq_isFull_platforms) (by decide) rfl ⟨rfl, rfl⟩ (fun _ h => absurd h List.not_mem_nil) ⟨(List.forall_mem_cons.mpr ⟨⟨_, rfl, by decide, kw_29⟩, (List.forall_mem_cons.mpr ⟨⟨_, rfl, by decide, kw_30⟩, (fun _ h => absurd h List.not_mem_nil)⟩)⟩), (fun _ h => absurd h List.not_mem_nil), (fun _ h => absurd h List.not_mem_nil), (fun _ h => absurd h List.not_mem_nil), (fun _ h => absurd h List.not_mem_nil), (fun _ h => absurd h List.not_mem_nil)⟩ (by decide +kernel) ⟨_, _, rfl⟩ ?_ ?_ ?_ ?_
  · intro as ρ μ h
    obtain ⟨nw, sp, tl, tx, al⟩ := ρ
    obtain ⟨L, as0, rfl, h0⟩ := mq_pR_spec h
    clear h
    obtain ⟨rfl, hp⟩ := mq_p0_spec h0
    clear h0
    rfl
  · intro as ρ μ h
    obtain ⟨nw, sp, tl, tx, al⟩ := ρ
    obtain ⟨L, as0, rfl, h0⟩ := mq_pR_spec h
    clear h
    obtain ⟨rfl, hp⟩ := mq_p0_spec h0
    clear h0
    intro hrg
    intro hbk
    have e0 : mq_l0 ([.inr (.inr (some (6, L)))] : List mq_V) 1 = [some (.inr (.inr (some (6, L))))] := rfl
    rw [e0]
    repeat' (first | refine And.intro ?_ ?_ | intro _)
    all_goals first | omega | rfl | exact trivial | (simp [mq_up] at * <;> omega)
  · intro as ρ μ h
    obtain ⟨nw, sp, tl, tx, al⟩ := ρ
    obtain ⟨L, as0, rfl, h0⟩ := mq_pR_spec h
    clear h
    obtain ⟨rfl, hp⟩ := mq_p0_spec h0
    clear h0
    exact fun _ h => absurd h List.not_mem_nil
  · intro as ρ μ h
    obtain ⟨nw, sp, tl, tx, al⟩ := ρ
    obtain ⟨L, as0, rfl, h0⟩ := mq_pR_spec h
    clear h
    obtain ⟨rfl, hp⟩ := mq_p0_spec h0
    clear h0
    intro hrg
    exact fun _ h => absurd h List.not_mem_nil
theorem mw0_isFull_platforms : mq_mlA cq_isFull_platforms 0 := ⟨kw_31, ⟨by decide +kernel, by decide +kernel⟩, by decide +kernel, kw_32, kw_33, kw_34, 6, by decide +kernel, fun as ρ μ h => by obtain ⟨nw, sp, tl, tx, al⟩ := ρ; obtain ⟨i, t, e, _⟩ := mq_pR_spec h; exact ⟨i, t, e⟩⟩
def pq_add_platforms : List mq_E := [(0, false, .aload 0), (1, false, .invokestatic 0), (4, false, .ifCond .eq (Int.ofNat 9)), (7, false, .iconst (-1)), (8, false, .ireturn), (9, false, .aload 0), (10, false, .dup), (11, false, .invokeinterface 6 3), (14, false, .iconst 1), (15, false, .iadd), (16, false, .multianewarray 6 3), (19, false, .aload 0), (20, false, .invokeinterface 6 3), (23, false, .iconst 1), (24, false, .isub), (25, false, .ireturn)]
def cq_add_platforms : mq_C := ((yX6_add, cX6_add, 1, (some .int), { frames := 1, cells := 0, slots := 0, locals := 20 }), (1, 1, 0, 0), 64, (fun as ρ μ => match ρ with
  | (nw, sp, tl, tx, al) => mq_pR as 6 fun L as => mq_p0 as (True)),
  (fun as ρ μ r ρ' μ' => match as, ρ, ρ' with
  | [.inr (.inr (some (_, L)))], (nw, sp, tl, tx, al), (nw', sp', tl', tx', al') => [-1 ≤ r, r < 6]
  | _, _, _ => []))
def kq_add_platforms : List mq_V → mq_R → mq_M → List mq_Cu := fun as ρ μ => match as, ρ with
  | [.inr (.inr (some (_, L)))], (nw, sp, tl, tx, al) => []
  | _, _ => []
set_option maxHeartbeats 16000000 in
set_option maxRecDepth 100000 in
theorem vq_add_platforms (lc : Launch) (h_isFull_platforms : mq_Ct lc cq_isFull_platforms) : mq_Ct lc cq_add_platforms := by
  refine mq_method (lc := lc) (P := pq_add_platforms) (cl := [cq_isFull_platforms]) (T := ([(9, 6, 3)], [], [], [(25, 0, 0)], [], [])) (fuel := 400) (cuts := kq_add_platforms) (by decide) rfl ⟨rfl, rfl⟩ (List.forall_mem_cons.mpr ⟨h_isFull_platforms, (fun _ h => absurd h List.not_mem_nil)⟩) ⟨(List.forall_mem_cons.mpr ⟨⟨_, rfl, by decide, kw_29⟩, (fun _ h => absurd h List.not_mem_nil)⟩), (fun _ h => absurd h List.not_mem_nil), (fun _ h => absurd h List.not_mem_nil), (List.forall_mem_cons.mpr ⟨mq_ml0 rfl mw0_isFull_platforms kw_35, (fun _ h => absurd h List.not_mem_nil)⟩), (fun _ h => absurd h List.not_mem_nil), (fun _ h => absurd h List.not_mem_nil)⟩ (by decide +kernel) ⟨_, _, rfl⟩ ?_ ?_ ?_ ?_
  · intro as ρ μ h
    obtain ⟨nw, sp, tl, tx, al⟩ := ρ
    obtain ⟨L, as0, rfl, h0⟩ := mq_pR_spec h
    clear h
    obtain ⟨rfl, hp⟩ := mq_p0_spec h0
    clear h0
    rfl
  · intro as ρ μ h
    obtain ⟨nw, sp, tl, tx, al⟩ := ρ
    obtain ⟨L, as0, rfl, h0⟩ := mq_pR_spec h
    clear h
    obtain ⟨rfl, hp⟩ := mq_p0_spec h0
    clear h0
    intro hrg
    intro hbk
    have e0 : mq_l0 ([.inr (.inr (some (6, L)))] : List mq_V) 1 = [some (.inr (.inr (some (6, L))))] := rfl
    rw [e0]
    repeat' (first | refine And.intro ?_ ?_ | intro _)
    all_goals first | omega | rfl | exact trivial | (simp [mq_up] at * <;> omega)
  · intro as ρ μ h
    obtain ⟨nw, sp, tl, tx, al⟩ := ρ
    obtain ⟨L, as0, rfl, h0⟩ := mq_pR_spec h
    clear h
    obtain ⟨rfl, hp⟩ := mq_p0_spec h0
    clear h0
    exact fun _ h => absurd h List.not_mem_nil
  · intro as ρ μ h
    obtain ⟨nw, sp, tl, tx, al⟩ := ρ
    obtain ⟨L, as0, rfl, h0⟩ := mq_pR_spec h
    clear h
    obtain ⟨rfl, hp⟩ := mq_p0_spec h0
    clear h0
    intro hrg
    exact fun _ h => absurd h List.not_mem_nil
theorem mw0_add_platforms : mq_mlA cq_add_platforms 0 := ⟨kw_425, ⟨by decide +kernel, by decide +kernel⟩, by decide +kernel, kw_426, kw_427, kw_34, 6, by decide +kernel, fun as ρ μ h => by obtain ⟨nw, sp, tl, tx, al⟩ := ρ; obtain ⟨i, t, e, _⟩ := mq_pR_spec h; exact ⟨i, t, e⟩⟩
def pq_get_platforms : List mq_E := [(0, false, .iload 1), (1, false, .ifCond .lt (Int.ofNat 24)), (4, false, .iload 1), (5, false, .aload 0), (6, false, .invokeinterface 6 0), (9, false, .if_icmp .ge (Int.ofNat 24)), (12, false, .iload 2), (13, false, .ifCond .lt (Int.ofNat 24)), (16, false, .iload 2), (17, false, .aload 0), (18, false, .invokeinterface 6 1), (21, false, .if_icmp .lt (Int.ofNat 26)), (24, false, .iconst 0), (25, false, .ireturn), (26, false, .aload 0), (27, false, .invokeinterface 6 2), (30, false, .iload 1), (31, false, .aload 0), (32, false, .invokeinterface 6 1), (35, false, .imul), (36, false, .iload 2), (37, false, .iadd), (38, false, .iaload), (39, false, .ireturn)]
def cq_get_platforms : mq_C := ((yX6_get, cX6_get, 3, (some .int), { frames := 0, cells := 0, slots := 0, locals := 0 }), (3, 1, 0, 0), 0, (fun as ρ μ => match ρ with
  | (nw, sp, tl, tx, al) => mq_pR as 6 fun L as => mq_pI as fun x as => mq_pI as fun y as => mq_p0 as (True)),
  (fun as ρ μ r ρ' μ' => match as, ρ, ρ' with
  | [.inr (.inr (some (_, L))), .inl x, .inl y], (nw, sp, tl, tx, al), (nw', sp', tl', tx', al') => [0 ≤ r, r ≤ 400]
  | _, _, _ => []))
def kq_get_platforms : List mq_V → mq_R → mq_M → List mq_Cu := fun as ρ μ => match as, ρ with
  | [.inr (.inr (some (_, L))), .inl x, .inl y], (nw, sp, tl, tx, al) => []
  | _, _ => []
set_option maxHeartbeats 16000000 in
set_option maxRecDepth 100000 in
theorem vq_get_platforms (lc : Launch)  : mq_Ct lc cq_get_platforms := by
  refine mq_method (lc := lc) (P := pq_get_platforms) (cl := []) (T := ([(15, 6, 0), (18, 6, 1), (21, 6, 2)], [], [], [], [], [])) (fuel := 400) (cuts := kq_get_platforms) (by decide) rfl ⟨rfl, rfl⟩ (fun _ h => absurd h List.not_mem_nil) ⟨(List.forall_mem_cons.mpr ⟨⟨_, rfl, by decide, kw_30⟩, (List.forall_mem_cons.mpr ⟨⟨_, rfl, by decide, kw_36⟩, (List.forall_mem_cons.mpr ⟨⟨_, rfl, by decide, kw_37⟩, (fun _ h => absurd h List.not_mem_nil)⟩)⟩)⟩), (fun _ h => absurd h List.not_mem_nil), (fun _ h => absurd h List.not_mem_nil), (fun _ h => absurd h List.not_mem_nil), (fun _ h => absurd h List.not_mem_nil), (fun _ h => absurd h List.not_mem_nil)⟩ (by decide +kernel) ⟨_, _, rfl⟩ ?_ ?_ ?_ ?_
  · intro as ρ μ h
    obtain ⟨nw, sp, tl, tx, al⟩ := ρ
    obtain ⟨L, as0, rfl, h0⟩ := mq_pR_spec h
    clear h
    obtain ⟨x, as1, rfl, h1⟩ := mq_pI_spec h0
    clear h0
    obtain ⟨y, as2, rfl, h2⟩ := mq_pI_spec h1
    clear h1
    obtain ⟨rfl, hp⟩ := mq_p0_spec h2
    clear h2
    rfl
  · intro as ρ μ h
    obtain ⟨nw, sp, tl, tx, al⟩ := ρ
    obtain ⟨L, as0, rfl, h0⟩ := mq_pR_spec h
    clear h
    obtain ⟨x, as1, rfl, h1⟩ := mq_pI_spec h0
    clear h0
    obtain ⟨y, as2, rfl, h2⟩ := mq_pI_spec h1
    clear h1
    obtain ⟨rfl, hp⟩ := mq_p0_spec h2
    clear h2
    intro hrg
    obtain ⟨⟨ha1a, ha1b⟩, ⟨ha2a, ha2b⟩, -⟩ := hrg
    intro hbk
    have e0 : mq_l0 ([.inr (.inr (some (6, L))), .inl x, .inl y] : List mq_V) 3 = [some (.inr (.inr (some (6, L)))), some (.inl x), some (.inl y)] := rfl
    rw [e0]
    repeat' (first | refine And.intro ?_ ?_ | intro _)
    all_goals first | omega | rfl | exact trivial | (simp [mq_up] at * <;> omega)
  · intro as ρ μ h
    obtain ⟨nw, sp, tl, tx, al⟩ := ρ
    obtain ⟨L, as0, rfl, h0⟩ := mq_pR_spec h
    clear h
    obtain ⟨x, as1, rfl, h1⟩ := mq_pI_spec h0
    clear h0
    obtain ⟨y, as2, rfl, h2⟩ := mq_pI_spec h1
    clear h1
    obtain ⟨rfl, hp⟩ := mq_p0_spec h2
    clear h2
    exact fun _ h => absurd h List.not_mem_nil
  · intro as ρ μ h
    obtain ⟨nw, sp, tl, tx, al⟩ := ρ
    obtain ⟨L, as0, rfl, h0⟩ := mq_pR_spec h
    clear h
    obtain ⟨x, as1, rfl, h1⟩ := mq_pI_spec h0
    clear h0
    obtain ⟨y, as2, rfl, h2⟩ := mq_pI_spec h1
    clear h1
    obtain ⟨rfl, hp⟩ := mq_p0_spec h2
    clear h2
    intro hrg
    obtain ⟨⟨ha1a, ha1b⟩, ⟨ha2a, ha2b⟩, -⟩ := hrg
    exact fun _ h => absurd h List.not_mem_nil
theorem mw0_get_platforms : mq_mlA cq_get_platforms 0 := ⟨kw_60, ⟨by decide +kernel, by decide +kernel⟩, by decide +kernel, kw_61, kw_62, kw_34, 6, by decide +kernel, fun as ρ μ h => by obtain ⟨nw, sp, tl, tx, al⟩ := ρ; obtain ⟨i, t, e, _⟩ := mq_pR_spec h; exact ⟨i, t, e⟩⟩
def pq_set_platforms : List mq_E := [(0, false, .iload 1), (1, false, .ifCond .lt (Int.ofNat 38)), (4, false, .iload 1), (5, false, .aload 0), (6, false, .invokeinterface 6 0), (9, false, .if_icmp .ge (Int.ofNat 38)), (12, false, .iload 2), (13, false, .ifCond .lt (Int.ofNat 38)), (16, false, .iload 2), (17, false, .aload 0), (18, false, .invokeinterface 6 1), (21, false, .if_icmp .ge (Int.ofNat 38)), (24, false, .aload 0), (25, false, .invokeinterface 6 2), (28, false, .iload 1), (29, false, .aload 0), (30, false, .invokeinterface 6 1), (33, false, .imul), (34, false, .iload 2), (35, false, .iadd), (36, false, .iload 3), (37, false, .iastore), (38, false, .return_)]
def cq_set_platforms : mq_C := ((yX6_set, cX6_set, 4, none, { frames := 0, cells := 0, slots := 0, locals := 0 }), (4, 0, 0, 0), 8192, (fun as ρ μ => match ρ with
  | (nw, sp, tl, tx, al) => mq_pR as 6 fun L as => mq_pI as fun x as => mq_pI as fun y as => mq_pI as fun v as => mq_p0 as (0 ≤ v ∧ v ≤ 400)),
  (fun as ρ μ r ρ' μ' => match as, ρ, ρ' with
  | [.inr (.inr (some (_, L))), .inl x, .inl y, .inl v], (nw, sp, tl, tx, al), (nw', sp', tl', tx', al') => []
  | _, _, _ => []))
def kq_set_platforms : List mq_V → mq_R → mq_M → List mq_Cu := fun as ρ μ => match as, ρ with
  | [.inr (.inr (some (_, L))), .inl x, .inl y, .inl v], (nw, sp, tl, tx, al) => []
  | _, _ => []
set_option maxHeartbeats 16000000 in
set_option maxRecDepth 100000 in
theorem vq_set_platforms (lc : Launch)  : mq_Ct lc cq_set_platforms := by
  refine mq_method (lc := lc) (P := pq_set_platforms) (cl := []) (T := ([(15, 6, 0), (18, 6, 1), (21, 6, 2)], [], [], [], [], [])) (fuel := 400) (cuts := kq_set_platforms) (by decide) rfl ⟨rfl, rfl⟩ (fun _ h => absurd h List.not_mem_nil) ⟨(List.forall_mem_cons.mpr ⟨⟨_, rfl, by decide, kw_30⟩, (List.forall_mem_cons.mpr ⟨⟨_, rfl, by decide, kw_36⟩, (List.forall_mem_cons.mpr ⟨⟨_, rfl, by decide, kw_37⟩, (fun _ h => absurd h List.not_mem_nil)⟩)⟩)⟩), (fun _ h => absurd h List.not_mem_nil), (fun _ h => absurd h List.not_mem_nil), (fun _ h => absurd h List.not_mem_nil), (fun _ h => absurd h List.not_mem_nil), (fun _ h => absurd h List.not_mem_nil)⟩ (by decide +kernel) ⟨_, _, rfl⟩ ?_ ?_ ?_ ?_
  · intro as ρ μ h
    obtain ⟨nw, sp, tl, tx, al⟩ := ρ
    obtain ⟨L, as0, rfl, h0⟩ := mq_pR_spec h
    clear h
    obtain ⟨x, as1, rfl, h1⟩ := mq_pI_spec h0
    clear h0
    obtain ⟨y, as2, rfl, h2⟩ := mq_pI_spec h1
    clear h1
    obtain ⟨v, as3, rfl, h3⟩ := mq_pI_spec h2
    clear h2
    obtain ⟨rfl, hp⟩ := mq_p0_spec h3
    clear h3
    obtain ⟨hp0, hp1⟩ := hp
    rfl
  · intro as ρ μ h
    obtain ⟨nw, sp, tl, tx, al⟩ := ρ
    obtain ⟨L, as0, rfl, h0⟩ := mq_pR_spec h
    clear h
    obtain ⟨x, as1, rfl, h1⟩ := mq_pI_spec h0
    clear h0
    obtain ⟨y, as2, rfl, h2⟩ := mq_pI_spec h1
    clear h1
    obtain ⟨v, as3, rfl, h3⟩ := mq_pI_spec h2
    clear h2
    obtain ⟨rfl, hp⟩ := mq_p0_spec h3
    clear h3
    obtain ⟨hp0, hp1⟩ := hp
    intro hrg
    obtain ⟨⟨ha1a, ha1b⟩, ⟨ha2a, ha2b⟩, ⟨ha3a, ha3b⟩, -⟩ := hrg
    intro hbk
    have e0 : mq_l0 ([.inr (.inr (some (6, L))), .inl x, .inl y, .inl v] : List mq_V) 4 = [some (.inr (.inr (some (6, L)))), some (.inl x), some (.inl y), some (.inl v)] := rfl
    rw [e0]
    repeat' (first | refine And.intro ?_ ?_ | intro _)
    all_goals first | omega | rfl | exact trivial | (simp [mq_up] at * <;> omega)
  · intro as ρ μ h
    obtain ⟨nw, sp, tl, tx, al⟩ := ρ
    obtain ⟨L, as0, rfl, h0⟩ := mq_pR_spec h
    clear h
    obtain ⟨x, as1, rfl, h1⟩ := mq_pI_spec h0
    clear h0
    obtain ⟨y, as2, rfl, h2⟩ := mq_pI_spec h1
    clear h1
    obtain ⟨v, as3, rfl, h3⟩ := mq_pI_spec h2
    clear h2
    obtain ⟨rfl, hp⟩ := mq_p0_spec h3
    clear h3
    obtain ⟨hp0, hp1⟩ := hp
    exact fun _ h => absurd h List.not_mem_nil
  · intro as ρ μ h
    obtain ⟨nw, sp, tl, tx, al⟩ := ρ
    obtain ⟨L, as0, rfl, h0⟩ := mq_pR_spec h
    clear h
    obtain ⟨x, as1, rfl, h1⟩ := mq_pI_spec h0
    clear h0
    obtain ⟨y, as2, rfl, h2⟩ := mq_pI_spec h1
    clear h1
    obtain ⟨v, as3, rfl, h3⟩ := mq_pI_spec h2
    clear h2
    obtain ⟨rfl, hp⟩ := mq_p0_spec h3
    clear h3
    obtain ⟨hp0, hp1⟩ := hp
    intro hrg
    obtain ⟨⟨ha1a, ha1b⟩, ⟨ha2a, ha2b⟩, ⟨ha3a, ha3b⟩, -⟩ := hrg
    exact fun _ h => absurd h List.not_mem_nil
theorem mw0_set_platforms : mq_mlA cq_set_platforms 0 := ⟨kw_447, ⟨by decide +kernel, by decide +kernel⟩, by decide +kernel, kw_448, kw_449, kw_34, 6, by decide +kernel, fun as ρ μ h => by obtain ⟨nw, sp, tl, tx, al⟩ := ρ; obtain ⟨i, t, e, _⟩ := mq_pR_spec h; exact ⟨i, t, e⟩⟩
def pq_copy_platforms : List mq_E := [(0, false, .aload 0), (1, false, .aload 1), (2, false, .invokeinterface 6 3), (5, false, .multianewarray 6 3), (8, false, .aload 1), (9, false, .invokeinterface 6 2), (12, false, .iconst 0), (13, false, .aload 0), (14, false, .invokeinterface 6 2), (17, false, .iconst 0), (18, false, .aload 0), (19, false, .invokeinterface 6 2), (22, false, .arraylength), (23, false, .aload 1), (24, false, .invokeinterface 6 2), (27, false, .arraylength), (28, false, .f2l), (31, false, .athrow), (34, false, .return_)]
def cq_copy_platforms : mq_C := ((yX6_copyFrom, cX6_copyFrom, 2, none, { frames := 1, cells := 0, slots := 0, locals := 48 }), (2, 0, 0, 0), 8256, (fun as ρ μ => match ρ with
  | (nw, sp, tl, tx, al) => mq_pR as 6 fun L as => mq_pR as 6 fun M as => mq_p0 as (True)),
  (fun as ρ μ r ρ' μ' => match as, ρ, ρ' with
  | [.inr (.inr (some (_, L))), .inr (.inr (some (_, M)))], (nw, sp, tl, tx, al), (nw', sp', tl', tx', al') => []
  | _, _, _ => []))
def kq_copy_platforms : List mq_V → mq_R → mq_M → List mq_Cu := fun as ρ μ => match as, ρ with
  | [.inr (.inr (some (_, L))), .inr (.inr (some (_, M)))], (nw, sp, tl, tx, al) => []
  | _, _ => []
set_option maxHeartbeats 16000000 in
set_option maxRecDepth 100000 in
theorem vq_copy_platforms (lc : Launch)  : mq_Ct lc cq_copy_platforms := by
  refine mq_method (lc := lc) (P := pq_copy_platforms) (cl := []) (T := ([(9, 6, 3), (21, 6, 2)], [], [], [], [35], [(29, false)])) (fuel := 400) (cuts := kq_copy_platforms) (by decide) rfl ⟨rfl, rfl⟩ (fun _ h => absurd h List.not_mem_nil) ⟨(List.forall_mem_cons.mpr ⟨⟨_, rfl, by decide, kw_29⟩, (List.forall_mem_cons.mpr ⟨⟨_, rfl, by decide, kw_37⟩, (fun _ h => absurd h List.not_mem_nil)⟩)⟩), (fun _ h => absurd h List.not_mem_nil), (fun _ h => absurd h List.not_mem_nil), (fun _ h => absurd h List.not_mem_nil), (List.forall_mem_cons.mpr ⟨⟨kw_38, kw_39, kw_40, kw_41⟩, (fun _ h => absurd h List.not_mem_nil)⟩), (List.forall_mem_cons.mpr ⟨⟨kw_42, kw_43, kw_44, kw_45⟩, (fun _ h => absurd h List.not_mem_nil)⟩)⟩ (by decide +kernel) ⟨_, _, rfl⟩ ?_ ?_ ?_ ?_
  · intro as ρ μ h
    obtain ⟨nw, sp, tl, tx, al⟩ := ρ
    obtain ⟨L, as0, rfl, h0⟩ := mq_pR_spec h
    clear h
    obtain ⟨M, as1, rfl, h1⟩ := mq_pR_spec h0
    clear h0
    obtain ⟨rfl, hp⟩ := mq_p0_spec h1
    clear h1
    rfl
  · intro as ρ μ h
    obtain ⟨nw, sp, tl, tx, al⟩ := ρ
    obtain ⟨L, as0, rfl, h0⟩ := mq_pR_spec h
    clear h
    obtain ⟨M, as1, rfl, h1⟩ := mq_pR_spec h0
    clear h0
    obtain ⟨rfl, hp⟩ := mq_p0_spec h1
    clear h1
    intro hrg
    intro hbk
    have e0 : mq_l0 ([.inr (.inr (some (6, L))), .inr (.inr (some (6, M)))] : List mq_V) 2 = [some (.inr (.inr (some (6, L)))), some (.inr (.inr (some (6, M))))] := rfl
    rw [e0]
    repeat' (first | refine And.intro ?_ ?_ | intro _)
    all_goals first | omega | rfl | exact trivial | (simp [mq_up] at * <;> omega)
  · intro as ρ μ h
    obtain ⟨nw, sp, tl, tx, al⟩ := ρ
    obtain ⟨L, as0, rfl, h0⟩ := mq_pR_spec h
    clear h
    obtain ⟨M, as1, rfl, h1⟩ := mq_pR_spec h0
    clear h0
    obtain ⟨rfl, hp⟩ := mq_p0_spec h1
    clear h1
    exact fun _ h => absurd h List.not_mem_nil
  · intro as ρ μ h
    obtain ⟨nw, sp, tl, tx, al⟩ := ρ
    obtain ⟨L, as0, rfl, h0⟩ := mq_pR_spec h
    clear h
    obtain ⟨M, as1, rfl, h1⟩ := mq_pR_spec h0
    clear h0
    obtain ⟨rfl, hp⟩ := mq_p0_spec h1
    clear h1
    intro hrg
    exact fun _ h => absurd h List.not_mem_nil
theorem mw0_copy_platforms : mq_mlA cq_copy_platforms 0 := ⟨kw_56, ⟨by decide +kernel, by decide +kernel⟩, by decide +kernel, kw_57, kw_58, kw_34, 6, by decide +kernel, fun as ρ μ h => by obtain ⟨nw, sp, tl, tx, al⟩ := ρ; obtain ⟨i, t, e, _⟩ := mq_pR_spec h; exact ⟨i, t, e⟩⟩
def pq_has_kinds : List mq_E := [(0, false, .iload 1), (1, false, .ifCond .lt (Int.ofNat 16)), (4, false, .iload 1), (5, false, .aload 0), (6, false, .invokeinterface 6 3), (9, false, .if_icmp .ge (Int.ofNat 16)), (12, false, .iconst 1), (13, false, .goto (Int.ofNat 17)), (16, false, .iconst 0), (17, false, .ireturn)]
def cq_has_kinds : mq_C := ((yX6_has, cX6_has, 2, (some .boolean), { frames := 0, cells := 0, slots := 0, locals := 0 }), (2, 1, 0, 0), 0, (fun as ρ μ => match ρ with
  | (nw, sp, tl, tx, al) => mq_pR as 7 fun L as => mq_pI as fun x as => mq_p0 as (True)),
  (fun as ρ μ r ρ' μ' => match as, ρ, ρ' with
  | [.inr (.inr (some (_, L))), .inl x], (nw, sp, tl, tx, al), (nw', sp', tl', tx', al') => [(r = 1 ∧ 0 ≤ x ∧ x < 4) ∨ r = 0]
  | _, _, _ => []))
def kq_has_kinds : List mq_V → mq_R → mq_M → List mq_Cu := fun as ρ μ => match as, ρ with
  | [.inr (.inr (some (_, L))), .inl x], (nw, sp, tl, tx, al) => []
  | _, _ => []
set_option maxHeartbeats 16000000 in
set_option maxRecDepth 100000 in
theorem vq_has_kinds (lc : Launch)  : mq_Ct lc cq_has_kinds := by
  refine mq_method (lc := lc) (P := pq_has_kinds) (cl := []) (T := ([(9, 6, 3)], [], [], [], [], [])) (fuel := 400) (cuts := kq_has_kinds) (by decide) rfl ⟨rfl, rfl⟩ (fun _ h => absurd h List.not_mem_nil) ⟨(List.forall_mem_cons.mpr ⟨⟨_, rfl, by decide, kw_29⟩, (fun _ h => absurd h List.not_mem_nil)⟩), (fun _ h => absurd h List.not_mem_nil), (fun _ h => absurd h List.not_mem_nil), (fun _ h => absurd h List.not_mem_nil), (fun _ h => absurd h List.not_mem_nil), (fun _ h => absurd h List.not_mem_nil)⟩ (by decide +kernel) ⟨_, _, rfl⟩ ?_ ?_ ?_ ?_
  · intro as ρ μ h
    obtain ⟨nw, sp, tl, tx, al⟩ := ρ
    obtain ⟨L, as0, rfl, h0⟩ := mq_pR_spec h
    clear h
    obtain ⟨x, as1, rfl, h1⟩ := mq_pI_spec h0
    clear h0
    obtain ⟨rfl, hp⟩ := mq_p0_spec h1
    clear h1
    rfl
  · intro as ρ μ h
    obtain ⟨nw, sp, tl, tx, al⟩ := ρ
    obtain ⟨L, as0, rfl, h0⟩ := mq_pR_spec h
    clear h
    obtain ⟨x, as1, rfl, h1⟩ := mq_pI_spec h0
    clear h0
    obtain ⟨rfl, hp⟩ := mq_p0_spec h1
    clear h1
    intro hrg
    obtain ⟨⟨ha1a, ha1b⟩, -⟩ := hrg
    intro hbk
    have e0 : mq_l0 ([.inr (.inr (some (7, L))), .inl x] : List mq_V) 2 = [some (.inr (.inr (some (7, L)))), some (.inl x)] := rfl
    rw [e0]
    repeat' (first | refine And.intro ?_ ?_ | intro _)
    all_goals first | omega | rfl | exact trivial | (simp [mq_up] at * <;> omega)
  · intro as ρ μ h
    obtain ⟨nw, sp, tl, tx, al⟩ := ρ
    obtain ⟨L, as0, rfl, h0⟩ := mq_pR_spec h
    clear h
    obtain ⟨x, as1, rfl, h1⟩ := mq_pI_spec h0
    clear h0
    obtain ⟨rfl, hp⟩ := mq_p0_spec h1
    clear h1
    exact fun _ h => absurd h List.not_mem_nil
  · intro as ρ μ h
    obtain ⟨nw, sp, tl, tx, al⟩ := ρ
    obtain ⟨L, as0, rfl, h0⟩ := mq_pR_spec h
    clear h
    obtain ⟨x, as1, rfl, h1⟩ := mq_pI_spec h0
    clear h0
    obtain ⟨rfl, hp⟩ := mq_p0_spec h1
    clear h1
    intro hrg
    obtain ⟨⟨ha1a, ha1b⟩, -⟩ := hrg
    exact fun _ h => absurd h List.not_mem_nil
theorem mw0_has_kinds : mq_mlA cq_has_kinds 0 := ⟨kw_235, ⟨by decide +kernel, by decide +kernel⟩, by decide +kernel, kw_236, kw_237, kw_34, 7, by decide +kernel, fun as ρ μ h => by obtain ⟨nw, sp, tl, tx, al⟩ := ρ; obtain ⟨i, t, e, _⟩ := mq_pR_spec h; exact ⟨i, t, e⟩⟩
def pq_isFull_kinds : List mq_E := [(0, false, .aload 0), (1, false, .invokeinterface 6 3), (4, false, .aload 0), (5, false, .invokeinterface 6 0), (8, false, .if_icmp .lt (Int.ofNat 15)), (11, false, .iconst 1), (12, false, .goto (Int.ofNat 16)), (15, false, .iconst 0), (16, false, .ireturn)]
def cq_isFull_kinds : mq_C := ((yX6_isFull, cX6_isFull, 1, (some .boolean), { frames := 0, cells := 0, slots := 0, locals := 0 }), (1, 1, 0, 0), 0, (fun as ρ μ => match ρ with
  | (nw, sp, tl, tx, al) => mq_pR as 7 fun L as => mq_p0 as (True)),
  (fun as ρ μ r ρ' μ' => match as, ρ, ρ' with
  | [.inr (.inr (some (_, L)))], (nw, sp, tl, tx, al), (nw', sp', tl', tx', al') => [r = 1 ∨ (r = 0 ∧ μ (7, L) 3 < 4)]
  | _, _, _ => []))
def kq_isFull_kinds : List mq_V → mq_R → mq_M → List mq_Cu := fun as ρ μ => match as, ρ with
  | [.inr (.inr (some (_, L)))], (nw, sp, tl, tx, al) => []
  | _, _ => []
set_option maxHeartbeats 16000000 in
set_option maxRecDepth 100000 in
theorem vq_isFull_kinds (lc : Launch)  : mq_Ct lc cq_isFull_kinds := by
  refine mq_method (lc := lc) (P := pq_isFull_kinds) (cl := []) (T := ([(9, 6, 3), (15, 6, 0)], [], [], [], [], [])) (fuel := 400) (cuts := kq_isFull_kinds) (by decide) rfl ⟨rfl, rfl⟩ (fun _ h => absurd h List.not_mem_nil) ⟨(List.forall_mem_cons.mpr ⟨⟨_, rfl, by decide, kw_29⟩, (List.forall_mem_cons.mpr ⟨⟨_, rfl, by decide, kw_30⟩, (fun _ h => absurd h List.not_mem_nil)⟩)⟩), (fun _ h => absurd h List.not_mem_nil), (fun _ h => absurd h List.not_mem_nil), (fun _ h => absurd h List.not_mem_nil), (fun _ h => absurd h List.not_mem_nil), (fun _ h => absurd h List.not_mem_nil)⟩ (by decide +kernel) ⟨_, _, rfl⟩ ?_ ?_ ?_ ?_
  · intro as ρ μ h
    obtain ⟨nw, sp, tl, tx, al⟩ := ρ
    obtain ⟨L, as0, rfl, h0⟩ := mq_pR_spec h
    clear h
    obtain ⟨rfl, hp⟩ := mq_p0_spec h0
    clear h0
    rfl
  · intro as ρ μ h
    obtain ⟨nw, sp, tl, tx, al⟩ := ρ
    obtain ⟨L, as0, rfl, h0⟩ := mq_pR_spec h
    clear h
    obtain ⟨rfl, hp⟩ := mq_p0_spec h0
    clear h0
    intro hrg
    intro hbk
    have e0 : mq_l0 ([.inr (.inr (some (7, L)))] : List mq_V) 1 = [some (.inr (.inr (some (7, L))))] := rfl
    rw [e0]
    repeat' (first | refine And.intro ?_ ?_ | intro _)
    all_goals first | omega | rfl | exact trivial | (simp [mq_up] at * <;> omega)
  · intro as ρ μ h
    obtain ⟨nw, sp, tl, tx, al⟩ := ρ
    obtain ⟨L, as0, rfl, h0⟩ := mq_pR_spec h
    clear h
    obtain ⟨rfl, hp⟩ := mq_p0_spec h0
    clear h0
    exact fun _ h => absurd h List.not_mem_nil
  · intro as ρ μ h
    obtain ⟨nw, sp, tl, tx, al⟩ := ρ
    obtain ⟨L, as0, rfl, h0⟩ := mq_pR_spec h
    clear h
    obtain ⟨rfl, hp⟩ := mq_p0_spec h0
    clear h0
    intro hrg
    exact fun _ h => absurd h List.not_mem_nil
theorem mw0_isFull_kinds : mq_mlA cq_isFull_kinds 0 := ⟨kw_31, ⟨by decide +kernel, by decide +kernel⟩, by decide +kernel, kw_32, kw_33, kw_34, 7, by decide +kernel, fun as ρ μ h => by obtain ⟨nw, sp, tl, tx, al⟩ := ρ; obtain ⟨i, t, e, _⟩ := mq_pR_spec h; exact ⟨i, t, e⟩⟩
def pq_add_kinds : List mq_E := [(0, false, .aload 0), (1, false, .invokestatic 0), (4, false, .ifCond .eq (Int.ofNat 9)), (7, false, .iconst (-1)), (8, false, .ireturn), (9, false, .aload 0), (10, false, .dup), (11, false, .invokeinterface 6 3), (14, false, .iconst 1), (15, false, .iadd), (16, false, .multianewarray 6 3), (19, false, .aload 0), (20, false, .invokeinterface 6 3), (23, false, .iconst 1), (24, false, .isub), (25, false, .ireturn)]
def cq_add_kinds : mq_C := ((yX6_add, cX6_add, 1, (some .int), { frames := 1, cells := 0, slots := 0, locals := 20 }), (1, 1, 0, 0), 128, (fun as ρ μ => match ρ with
  | (nw, sp, tl, tx, al) => mq_pR as 7 fun L as => mq_p0 as (True)),
  (fun as ρ μ r ρ' μ' => match as, ρ, ρ' with
  | [.inr (.inr (some (_, L)))], (nw, sp, tl, tx, al), (nw', sp', tl', tx', al') => [-1 ≤ r, r < 4]
  | _, _, _ => []))
def kq_add_kinds : List mq_V → mq_R → mq_M → List mq_Cu := fun as ρ μ => match as, ρ with
  | [.inr (.inr (some (_, L)))], (nw, sp, tl, tx, al) => []
  | _, _ => []
set_option maxHeartbeats 16000000 in
set_option maxRecDepth 100000 in
theorem vq_add_kinds (lc : Launch) (h_isFull_kinds : mq_Ct lc cq_isFull_kinds) : mq_Ct lc cq_add_kinds := by
  refine mq_method (lc := lc) (P := pq_add_kinds) (cl := [cq_isFull_kinds]) (T := ([(9, 6, 3)], [], [], [(25, 0, 0)], [], [])) (fuel := 400) (cuts := kq_add_kinds) (by decide) rfl ⟨rfl, rfl⟩ (List.forall_mem_cons.mpr ⟨h_isFull_kinds, (fun _ h => absurd h List.not_mem_nil)⟩) ⟨(List.forall_mem_cons.mpr ⟨⟨_, rfl, by decide, kw_29⟩, (fun _ h => absurd h List.not_mem_nil)⟩), (fun _ h => absurd h List.not_mem_nil), (fun _ h => absurd h List.not_mem_nil), (List.forall_mem_cons.mpr ⟨mq_ml0 rfl mw0_isFull_kinds kw_35, (fun _ h => absurd h List.not_mem_nil)⟩), (fun _ h => absurd h List.not_mem_nil), (fun _ h => absurd h List.not_mem_nil)⟩ (by decide +kernel) ⟨_, _, rfl⟩ ?_ ?_ ?_ ?_
  · intro as ρ μ h
    obtain ⟨nw, sp, tl, tx, al⟩ := ρ
    obtain ⟨L, as0, rfl, h0⟩ := mq_pR_spec h
    clear h
    obtain ⟨rfl, hp⟩ := mq_p0_spec h0
    clear h0
    rfl
  · intro as ρ μ h
    obtain ⟨nw, sp, tl, tx, al⟩ := ρ
    obtain ⟨L, as0, rfl, h0⟩ := mq_pR_spec h
    clear h
    obtain ⟨rfl, hp⟩ := mq_p0_spec h0
    clear h0
    intro hrg
    intro hbk
    have e0 : mq_l0 ([.inr (.inr (some (7, L)))] : List mq_V) 1 = [some (.inr (.inr (some (7, L))))] := rfl
    rw [e0]
    repeat' (first | refine And.intro ?_ ?_ | intro _)
    all_goals first | omega | rfl | exact trivial | (simp [mq_up] at * <;> omega)
  · intro as ρ μ h
    obtain ⟨nw, sp, tl, tx, al⟩ := ρ
    obtain ⟨L, as0, rfl, h0⟩ := mq_pR_spec h
    clear h
    obtain ⟨rfl, hp⟩ := mq_p0_spec h0
    clear h0
    exact fun _ h => absurd h List.not_mem_nil
  · intro as ρ μ h
    obtain ⟨nw, sp, tl, tx, al⟩ := ρ
    obtain ⟨L, as0, rfl, h0⟩ := mq_pR_spec h
    clear h
    obtain ⟨rfl, hp⟩ := mq_p0_spec h0
    clear h0
    intro hrg
    exact fun _ h => absurd h List.not_mem_nil
theorem mw0_add_kinds : mq_mlA cq_add_kinds 0 := ⟨kw_425, ⟨by decide +kernel, by decide +kernel⟩, by decide +kernel, kw_426, kw_427, kw_34, 7, by decide +kernel, fun as ρ μ h => by obtain ⟨nw, sp, tl, tx, al⟩ := ρ; obtain ⟨i, t, e, _⟩ := mq_pR_spec h; exact ⟨i, t, e⟩⟩
def pq_get_kinds : List mq_E := [(0, false, .iload 1), (1, false, .ifCond .lt (Int.ofNat 24)), (4, false, .iload 1), (5, false, .aload 0), (6, false, .invokeinterface 6 0), (9, false, .if_icmp .ge (Int.ofNat 24)), (12, false, .iload 2), (13, false, .ifCond .lt (Int.ofNat 24)), (16, false, .iload 2), (17, false, .aload 0), (18, false, .invokeinterface 6 1), (21, false, .if_icmp .lt (Int.ofNat 26)), (24, false, .iconst 0), (25, false, .ireturn), (26, false, .aload 0), (27, false, .invokeinterface 6 2), (30, false, .iload 1), (31, false, .aload 0), (32, false, .invokeinterface 6 1), (35, false, .imul), (36, false, .iload 2), (37, false, .iadd), (38, false, .iaload), (39, false, .ireturn)]
def cq_get_kinds : mq_C := ((yX6_get, cX6_get, 3, (some .int), { frames := 0, cells := 0, slots := 0, locals := 0 }), (3, 1, 0, 0), 0, (fun as ρ μ => match ρ with
  | (nw, sp, tl, tx, al) => mq_pR as 7 fun L as => mq_pI as fun x as => mq_pI as fun y as => mq_p0 as (True)),
  (fun as ρ μ r ρ' μ' => match as, ρ, ρ' with
  | [.inr (.inr (some (_, L))), .inl x, .inl y], (nw, sp, tl, tx, al), (nw', sp', tl', tx', al') => [0 ≤ r, r ≤ 30]
  | _, _, _ => []))
def kq_get_kinds : List mq_V → mq_R → mq_M → List mq_Cu := fun as ρ μ => match as, ρ with
  | [.inr (.inr (some (_, L))), .inl x, .inl y], (nw, sp, tl, tx, al) => []
  | _, _ => []
set_option maxHeartbeats 16000000 in
set_option maxRecDepth 100000 in
theorem vq_get_kinds (lc : Launch)  : mq_Ct lc cq_get_kinds := by
  refine mq_method (lc := lc) (P := pq_get_kinds) (cl := []) (T := ([(15, 6, 0), (18, 6, 1), (21, 6, 2)], [], [], [], [], [])) (fuel := 400) (cuts := kq_get_kinds) (by decide) rfl ⟨rfl, rfl⟩ (fun _ h => absurd h List.not_mem_nil) ⟨(List.forall_mem_cons.mpr ⟨⟨_, rfl, by decide, kw_30⟩, (List.forall_mem_cons.mpr ⟨⟨_, rfl, by decide, kw_36⟩, (List.forall_mem_cons.mpr ⟨⟨_, rfl, by decide, kw_37⟩, (fun _ h => absurd h List.not_mem_nil)⟩)⟩)⟩), (fun _ h => absurd h List.not_mem_nil), (fun _ h => absurd h List.not_mem_nil), (fun _ h => absurd h List.not_mem_nil), (fun _ h => absurd h List.not_mem_nil), (fun _ h => absurd h List.not_mem_nil)⟩ (by decide +kernel) ⟨_, _, rfl⟩ ?_ ?_ ?_ ?_
  · intro as ρ μ h
    obtain ⟨nw, sp, tl, tx, al⟩ := ρ
    obtain ⟨L, as0, rfl, h0⟩ := mq_pR_spec h
    clear h
    obtain ⟨x, as1, rfl, h1⟩ := mq_pI_spec h0
    clear h0
    obtain ⟨y, as2, rfl, h2⟩ := mq_pI_spec h1
    clear h1
    obtain ⟨rfl, hp⟩ := mq_p0_spec h2
    clear h2
    rfl
  · intro as ρ μ h
    obtain ⟨nw, sp, tl, tx, al⟩ := ρ
    obtain ⟨L, as0, rfl, h0⟩ := mq_pR_spec h
    clear h
    obtain ⟨x, as1, rfl, h1⟩ := mq_pI_spec h0
    clear h0
    obtain ⟨y, as2, rfl, h2⟩ := mq_pI_spec h1
    clear h1
    obtain ⟨rfl, hp⟩ := mq_p0_spec h2
    clear h2
    intro hrg
    obtain ⟨⟨ha1a, ha1b⟩, ⟨ha2a, ha2b⟩, -⟩ := hrg
    intro hbk
    have e0 : mq_l0 ([.inr (.inr (some (7, L))), .inl x, .inl y] : List mq_V) 3 = [some (.inr (.inr (some (7, L)))), some (.inl x), some (.inl y)] := rfl
    rw [e0]
    repeat' (first | refine And.intro ?_ ?_ | intro _)
    all_goals first | omega | rfl | exact trivial | (simp [mq_up] at * <;> omega)
  · intro as ρ μ h
    obtain ⟨nw, sp, tl, tx, al⟩ := ρ
    obtain ⟨L, as0, rfl, h0⟩ := mq_pR_spec h
    clear h
    obtain ⟨x, as1, rfl, h1⟩ := mq_pI_spec h0
    clear h0
    obtain ⟨y, as2, rfl, h2⟩ := mq_pI_spec h1
    clear h1
    obtain ⟨rfl, hp⟩ := mq_p0_spec h2
    clear h2
    exact fun _ h => absurd h List.not_mem_nil
  · intro as ρ μ h
    obtain ⟨nw, sp, tl, tx, al⟩ := ρ
    obtain ⟨L, as0, rfl, h0⟩ := mq_pR_spec h
    clear h
    obtain ⟨x, as1, rfl, h1⟩ := mq_pI_spec h0
    clear h0
    obtain ⟨y, as2, rfl, h2⟩ := mq_pI_spec h1
    clear h1
    obtain ⟨rfl, hp⟩ := mq_p0_spec h2
    clear h2
    intro hrg
    obtain ⟨⟨ha1a, ha1b⟩, ⟨ha2a, ha2b⟩, -⟩ := hrg
    exact fun _ h => absurd h List.not_mem_nil
theorem mw0_get_kinds : mq_mlA cq_get_kinds 0 := ⟨kw_60, ⟨by decide +kernel, by decide +kernel⟩, by decide +kernel, kw_61, kw_62, kw_34, 7, by decide +kernel, fun as ρ μ h => by obtain ⟨nw, sp, tl, tx, al⟩ := ρ; obtain ⟨i, t, e, _⟩ := mq_pR_spec h; exact ⟨i, t, e⟩⟩
def pq_set_kinds : List mq_E := [(0, false, .iload 1), (1, false, .ifCond .lt (Int.ofNat 38)), (4, false, .iload 1), (5, false, .aload 0), (6, false, .invokeinterface 6 0), (9, false, .if_icmp .ge (Int.ofNat 38)), (12, false, .iload 2), (13, false, .ifCond .lt (Int.ofNat 38)), (16, false, .iload 2), (17, false, .aload 0), (18, false, .invokeinterface 6 1), (21, false, .if_icmp .ge (Int.ofNat 38)), (24, false, .aload 0), (25, false, .invokeinterface 6 2), (28, false, .iload 1), (29, false, .aload 0), (30, false, .invokeinterface 6 1), (33, false, .imul), (34, false, .iload 2), (35, false, .iadd), (36, false, .iload 3), (37, false, .iastore), (38, false, .return_)]
def cq_set_kinds : mq_C := ((yX6_set, cX6_set, 4, none, { frames := 0, cells := 0, slots := 0, locals := 0 }), (4, 0, 0, 0), 16384, (fun as ρ μ => match ρ with
  | (nw, sp, tl, tx, al) => mq_pR as 7 fun L as => mq_pI as fun x as => mq_pI as fun y as => mq_pI as fun v as => mq_p0 as (0 ≤ v ∧ v ≤ 30)),
  (fun as ρ μ r ρ' μ' => match as, ρ, ρ' with
  | [.inr (.inr (some (_, L))), .inl x, .inl y, .inl v], (nw, sp, tl, tx, al), (nw', sp', tl', tx', al') => []
  | _, _, _ => []))
def kq_set_kinds : List mq_V → mq_R → mq_M → List mq_Cu := fun as ρ μ => match as, ρ with
  | [.inr (.inr (some (_, L))), .inl x, .inl y, .inl v], (nw, sp, tl, tx, al) => []
  | _, _ => []
set_option maxHeartbeats 16000000 in
set_option maxRecDepth 100000 in
theorem vq_set_kinds (lc : Launch)  : mq_Ct lc cq_set_kinds := by
  refine mq_method (lc := lc) (P := pq_set_kinds) (cl := []) (T := ([(15, 6, 0), (18, 6, 1), (21, 6, 2)], [], [], [], [], [])) (fuel := 400) (cuts := kq_set_kinds) (by decide) rfl ⟨rfl, rfl⟩ (fun _ h => absurd h List.not_mem_nil) ⟨(List.forall_mem_cons.mpr ⟨⟨_, rfl, by decide, kw_30⟩, (List.forall_mem_cons.mpr ⟨⟨_, rfl, by decide, kw_36⟩, (List.forall_mem_cons.mpr ⟨⟨_, rfl, by decide, kw_37⟩, (fun _ h => absurd h List.not_mem_nil)⟩)⟩)⟩), (fun _ h => absurd h List.not_mem_nil), (fun _ h => absurd h List.not_mem_nil), (fun _ h => absurd h List.not_mem_nil), (fun _ h => absurd h List.not_mem_nil), (fun _ h => absurd h List.not_mem_nil)⟩ (by decide +kernel) ⟨_, _, rfl⟩ ?_ ?_ ?_ ?_
  · intro as ρ μ h
    obtain ⟨nw, sp, tl, tx, al⟩ := ρ
    obtain ⟨L, as0, rfl, h0⟩ := mq_pR_spec h
    clear h
    obtain ⟨x, as1, rfl, h1⟩ := mq_pI_spec h0
    clear h0
    obtain ⟨y, as2, rfl, h2⟩ := mq_pI_spec h1
    clear h1
    obtain ⟨v, as3, rfl, h3⟩ := mq_pI_spec h2
    clear h2
    obtain ⟨rfl, hp⟩ := mq_p0_spec h3
    clear h3
    obtain ⟨hp0, hp1⟩ := hp
    rfl
  · intro as ρ μ h
    obtain ⟨nw, sp, tl, tx, al⟩ := ρ
    obtain ⟨L, as0, rfl, h0⟩ := mq_pR_spec h
    clear h
    obtain ⟨x, as1, rfl, h1⟩ := mq_pI_spec h0
    clear h0
    obtain ⟨y, as2, rfl, h2⟩ := mq_pI_spec h1
    clear h1
    obtain ⟨v, as3, rfl, h3⟩ := mq_pI_spec h2
    clear h2
    obtain ⟨rfl, hp⟩ := mq_p0_spec h3
    clear h3
    obtain ⟨hp0, hp1⟩ := hp
    intro hrg
    obtain ⟨⟨ha1a, ha1b⟩, ⟨ha2a, ha2b⟩, ⟨ha3a, ha3b⟩, -⟩ := hrg
    intro hbk
    have e0 : mq_l0 ([.inr (.inr (some (7, L))), .inl x, .inl y, .inl v] : List mq_V) 4 = [some (.inr (.inr (some (7, L)))), some (.inl x), some (.inl y), some (.inl v)] := rfl
    rw [e0]
    repeat' (first | refine And.intro ?_ ?_ | intro _)
    all_goals first | omega | rfl | exact trivial | (simp [mq_up] at * <;> omega)
  · intro as ρ μ h
    obtain ⟨nw, sp, tl, tx, al⟩ := ρ
    obtain ⟨L, as0, rfl, h0⟩ := mq_pR_spec h
    clear h
    obtain ⟨x, as1, rfl, h1⟩ := mq_pI_spec h0
    clear h0
    obtain ⟨y, as2, rfl, h2⟩ := mq_pI_spec h1
    clear h1
    obtain ⟨v, as3, rfl, h3⟩ := mq_pI_spec h2
    clear h2
    obtain ⟨rfl, hp⟩ := mq_p0_spec h3
    clear h3
    obtain ⟨hp0, hp1⟩ := hp
    exact fun _ h => absurd h List.not_mem_nil
  · intro as ρ μ h
    obtain ⟨nw, sp, tl, tx, al⟩ := ρ
    obtain ⟨L, as0, rfl, h0⟩ := mq_pR_spec h
    clear h
    obtain ⟨x, as1, rfl, h1⟩ := mq_pI_spec h0
    clear h0
    obtain ⟨y, as2, rfl, h2⟩ := mq_pI_spec h1
    clear h1
    obtain ⟨v, as3, rfl, h3⟩ := mq_pI_spec h2
    clear h2
    obtain ⟨rfl, hp⟩ := mq_p0_spec h3
    clear h3
    obtain ⟨hp0, hp1⟩ := hp
    intro hrg
    obtain ⟨⟨ha1a, ha1b⟩, ⟨ha2a, ha2b⟩, ⟨ha3a, ha3b⟩, -⟩ := hrg
    exact fun _ h => absurd h List.not_mem_nil
theorem mw0_set_kinds : mq_mlA cq_set_kinds 0 := ⟨kw_447, ⟨by decide +kernel, by decide +kernel⟩, by decide +kernel, kw_448, kw_449, kw_34, 7, by decide +kernel, fun as ρ μ h => by obtain ⟨nw, sp, tl, tx, al⟩ := ρ; obtain ⟨i, t, e, _⟩ := mq_pR_spec h; exact ⟨i, t, e⟩⟩
def pq_copy_kinds : List mq_E := [(0, false, .aload 0), (1, false, .aload 1), (2, false, .invokeinterface 6 3), (5, false, .multianewarray 6 3), (8, false, .aload 1), (9, false, .invokeinterface 6 2), (12, false, .iconst 0), (13, false, .aload 0), (14, false, .invokeinterface 6 2), (17, false, .iconst 0), (18, false, .aload 0), (19, false, .invokeinterface 6 2), (22, false, .arraylength), (23, false, .aload 1), (24, false, .invokeinterface 6 2), (27, false, .arraylength), (28, false, .f2l), (31, false, .athrow), (34, false, .return_)]
def cq_copy_kinds : mq_C := ((yX6_copyFrom, cX6_copyFrom, 2, none, { frames := 1, cells := 0, slots := 0, locals := 48 }), (2, 0, 0, 0), 16512, (fun as ρ μ => match ρ with
  | (nw, sp, tl, tx, al) => mq_pR as 7 fun L as => mq_pR as 7 fun M as => mq_p0 as (True)),
  (fun as ρ μ r ρ' μ' => match as, ρ, ρ' with
  | [.inr (.inr (some (_, L))), .inr (.inr (some (_, M)))], (nw, sp, tl, tx, al), (nw', sp', tl', tx', al') => []
  | _, _, _ => []))
def kq_copy_kinds : List mq_V → mq_R → mq_M → List mq_Cu := fun as ρ μ => match as, ρ with
  | [.inr (.inr (some (_, L))), .inr (.inr (some (_, M)))], (nw, sp, tl, tx, al) => []
  | _, _ => []
set_option maxHeartbeats 16000000 in
set_option maxRecDepth 100000 in
theorem vq_copy_kinds (lc : Launch)  : mq_Ct lc cq_copy_kinds := by
  refine mq_method (lc := lc) (P := pq_copy_kinds) (cl := []) (T := ([(9, 6, 3), (21, 6, 2)], [], [], [], [35], [(29, false)])) (fuel := 400) (cuts := kq_copy_kinds) (by decide) rfl ⟨rfl, rfl⟩ (fun _ h => absurd h List.not_mem_nil) ⟨(List.forall_mem_cons.mpr ⟨⟨_, rfl, by decide, kw_29⟩, (List.forall_mem_cons.mpr ⟨⟨_, rfl, by decide, kw_37⟩, (fun _ h => absurd h List.not_mem_nil)⟩)⟩), (fun _ h => absurd h List.not_mem_nil), (fun _ h => absurd h List.not_mem_nil), (fun _ h => absurd h List.not_mem_nil), (List.forall_mem_cons.mpr ⟨⟨kw_38, kw_39, kw_40, kw_41⟩, (fun _ h => absurd h List.not_mem_nil)⟩), (List.forall_mem_cons.mpr ⟨⟨kw_42, kw_43, kw_44, kw_45⟩, (fun _ h => absurd h List.not_mem_nil)⟩)⟩ (by decide +kernel) ⟨_, _, rfl⟩ ?_ ?_ ?_ ?_
  · intro as ρ μ h
    obtain ⟨nw, sp, tl, tx, al⟩ := ρ
    obtain ⟨L, as0, rfl, h0⟩ := mq_pR_spec h
    clear h
    obtain ⟨M, as1, rfl, h1⟩ := mq_pR_spec h0
    clear h0
    obtain ⟨rfl, hp⟩ := mq_p0_spec h1
    clear h1
    rfl
  · intro as ρ μ h
    obtain ⟨nw, sp, tl, tx, al⟩ := ρ
    obtain ⟨L, as0, rfl, h0⟩ := mq_pR_spec h
    clear h
    obtain ⟨M, as1, rfl, h1⟩ := mq_pR_spec h0
    clear h0
    obtain ⟨rfl, hp⟩ := mq_p0_spec h1
    clear h1
    intro hrg
    intro hbk
    have e0 : mq_l0 ([.inr (.inr (some (7, L))), .inr (.inr (some (7, M)))] : List mq_V) 2 = [some (.inr (.inr (some (7, L)))), some (.inr (.inr (some (7, M))))] := rfl
    rw [e0]
    repeat' (first | refine And.intro ?_ ?_ | intro _)
    all_goals first | omega | rfl | exact trivial | (simp [mq_up] at * <;> omega)
  · intro as ρ μ h
    obtain ⟨nw, sp, tl, tx, al⟩ := ρ
    obtain ⟨L, as0, rfl, h0⟩ := mq_pR_spec h
    clear h
    obtain ⟨M, as1, rfl, h1⟩ := mq_pR_spec h0
    clear h0
    obtain ⟨rfl, hp⟩ := mq_p0_spec h1
    clear h1
    exact fun _ h => absurd h List.not_mem_nil
  · intro as ρ μ h
    obtain ⟨nw, sp, tl, tx, al⟩ := ρ
    obtain ⟨L, as0, rfl, h0⟩ := mq_pR_spec h
    clear h
    obtain ⟨M, as1, rfl, h1⟩ := mq_pR_spec h0
    clear h0
    obtain ⟨rfl, hp⟩ := mq_p0_spec h1
    clear h1
    intro hrg
    exact fun _ h => absurd h List.not_mem_nil
theorem mw0_copy_kinds : mq_mlA cq_copy_kinds 0 := ⟨kw_56, ⟨by decide +kernel, by decide +kernel⟩, by decide +kernel, kw_57, kw_58, kw_34, 7, by decide +kernel, fun as ρ μ h => by obtain ⟨nw, sp, tl, tx, al⟩ := ρ; obtain ⟨i, t, e, _⟩ := mq_pR_spec h; exact ⟨i, t, e⟩⟩
def pq_has_trains : List mq_E := [(0, false, .iload 1), (1, false, .ifCond .lt (Int.ofNat 16)), (4, false, .iload 1), (5, false, .aload 0), (6, false, .invokeinterface 6 3), (9, false, .if_icmp .ge (Int.ofNat 16)), (12, false, .iconst 1), (13, false, .goto (Int.ofNat 17)), (16, false, .iconst 0), (17, false, .ireturn)]
def cq_has_trains : mq_C := ((yX6_has, cX6_has, 2, (some .boolean), { frames := 0, cells := 0, slots := 0, locals := 0 }), (2, 1, 0, 0), 0, (fun as ρ μ => match ρ with
  | (nw, sp, tl, tx, al) => mq_pR as 8 fun L as => mq_pI as fun x as => mq_p0 as (True)),
  (fun as ρ μ r ρ' μ' => match as, ρ, ρ' with
  | [.inr (.inr (some (_, L))), .inl x], (nw, sp, tl, tx, al), (nw', sp', tl', tx', al') => [(r = 1 ∧ 0 ≤ x ∧ x < 5) ∨ r = 0]
  | _, _, _ => []))
def kq_has_trains : List mq_V → mq_R → mq_M → List mq_Cu := fun as ρ μ => match as, ρ with
  | [.inr (.inr (some (_, L))), .inl x], (nw, sp, tl, tx, al) => []
  | _, _ => []
set_option maxHeartbeats 16000000 in
set_option maxRecDepth 100000 in
theorem vq_has_trains (lc : Launch)  : mq_Ct lc cq_has_trains := by
  refine mq_method (lc := lc) (P := pq_has_trains) (cl := []) (T := ([(9, 6, 3)], [], [], [], [], [])) (fuel := 400) (cuts := kq_has_trains) (by decide) rfl ⟨rfl, rfl⟩ (fun _ h => absurd h List.not_mem_nil) ⟨(List.forall_mem_cons.mpr ⟨⟨_, rfl, by decide, kw_29⟩, (fun _ h => absurd h List.not_mem_nil)⟩), (fun _ h => absurd h List.not_mem_nil), (fun _ h => absurd h List.not_mem_nil), (fun _ h => absurd h List.not_mem_nil), (fun _ h => absurd h List.not_mem_nil), (fun _ h => absurd h List.not_mem_nil)⟩ (by decide +kernel) ⟨_, _, rfl⟩ ?_ ?_ ?_ ?_
  · intro as ρ μ h
    obtain ⟨nw, sp, tl, tx, al⟩ := ρ
    obtain ⟨L, as0, rfl, h0⟩ := mq_pR_spec h
    clear h
    obtain ⟨x, as1, rfl, h1⟩ := mq_pI_spec h0
    clear h0
    obtain ⟨rfl, hp⟩ := mq_p0_spec h1
    clear h1
    rfl
  · intro as ρ μ h
    obtain ⟨nw, sp, tl, tx, al⟩ := ρ
    obtain ⟨L, as0, rfl, h0⟩ := mq_pR_spec h
    clear h
    obtain ⟨x, as1, rfl, h1⟩ := mq_pI_spec h0
    clear h0
    obtain ⟨rfl, hp⟩ := mq_p0_spec h1
    clear h1
    intro hrg
    obtain ⟨⟨ha1a, ha1b⟩, -⟩ := hrg
    intro hbk
    have e0 : mq_l0 ([.inr (.inr (some (8, L))), .inl x] : List mq_V) 2 = [some (.inr (.inr (some (8, L)))), some (.inl x)] := rfl
    rw [e0]
    repeat' (first | refine And.intro ?_ ?_ | intro _)
    all_goals first | omega | rfl | exact trivial | (simp [mq_up] at * <;> omega)
  · intro as ρ μ h
    obtain ⟨nw, sp, tl, tx, al⟩ := ρ
    obtain ⟨L, as0, rfl, h0⟩ := mq_pR_spec h
    clear h
    obtain ⟨x, as1, rfl, h1⟩ := mq_pI_spec h0
    clear h0
    obtain ⟨rfl, hp⟩ := mq_p0_spec h1
    clear h1
    exact fun _ h => absurd h List.not_mem_nil
  · intro as ρ μ h
    obtain ⟨nw, sp, tl, tx, al⟩ := ρ
    obtain ⟨L, as0, rfl, h0⟩ := mq_pR_spec h
    clear h
    obtain ⟨x, as1, rfl, h1⟩ := mq_pI_spec h0
    clear h0
    obtain ⟨rfl, hp⟩ := mq_p0_spec h1
    clear h1
    intro hrg
    obtain ⟨⟨ha1a, ha1b⟩, -⟩ := hrg
    exact fun _ h => absurd h List.not_mem_nil
theorem mw0_has_trains : mq_mlA cq_has_trains 0 := ⟨kw_235, ⟨by decide +kernel, by decide +kernel⟩, by decide +kernel, kw_236, kw_237, kw_34, 8, by decide +kernel, fun as ρ μ h => by obtain ⟨nw, sp, tl, tx, al⟩ := ρ; obtain ⟨i, t, e, _⟩ := mq_pR_spec h; exact ⟨i, t, e⟩⟩
def pq_isFull_trains : List mq_E := [(0, false, .aload 0), (1, false, .invokeinterface 6 3), (4, false, .aload 0), (5, false, .invokeinterface 6 0), (8, false, .if_icmp .lt (Int.ofNat 15)), (11, false, .iconst 1), (12, false, .goto (Int.ofNat 16)), (15, false, .iconst 0), (16, false, .ireturn)]
def cq_isFull_trains : mq_C := ((yX6_isFull, cX6_isFull, 1, (some .boolean), { frames := 0, cells := 0, slots := 0, locals := 0 }), (1, 1, 0, 0), 0, (fun as ρ μ => match ρ with
  | (nw, sp, tl, tx, al) => mq_pR as 8 fun L as => mq_p0 as (True)),
  (fun as ρ μ r ρ' μ' => match as, ρ, ρ' with
  | [.inr (.inr (some (_, L)))], (nw, sp, tl, tx, al), (nw', sp', tl', tx', al') => [r = 1 ∨ (r = 0 ∧ μ (8, L) 3 < 5)]
  | _, _, _ => []))
def kq_isFull_trains : List mq_V → mq_R → mq_M → List mq_Cu := fun as ρ μ => match as, ρ with
  | [.inr (.inr (some (_, L)))], (nw, sp, tl, tx, al) => []
  | _, _ => []
set_option maxHeartbeats 16000000 in
set_option maxRecDepth 100000 in
theorem vq_isFull_trains (lc : Launch)  : mq_Ct lc cq_isFull_trains := by
  refine mq_method (lc := lc) (P := pq_isFull_trains) (cl := []) (T := ([(9, 6, 3), (15, 6, 0)], [], [], [], [], [])) (fuel := 400) (cuts := kq_isFull_trains) (by decide) rfl ⟨rfl, rfl⟩ (fun _ h => absurd h List.not_mem_nil) ⟨(List.forall_mem_cons.mpr ⟨⟨_, rfl, by decide, kw_29⟩, (List.forall_mem_cons.mpr ⟨⟨_, rfl, by decide, kw_30⟩, (fun _ h => absurd h List.not_mem_nil)⟩)⟩), (fun _ h => absurd h List.not_mem_nil), (fun _ h => absurd h List.not_mem_nil), (fun _ h => absurd h List.not_mem_nil), (fun _ h => absurd h List.not_mem_nil), (fun _ h => absurd h List.not_mem_nil)⟩ (by decide +kernel) ⟨_, _, rfl⟩ ?_ ?_ ?_ ?_
  · intro as ρ μ h
    obtain ⟨nw, sp, tl, tx, al⟩ := ρ
    obtain ⟨L, as0, rfl, h0⟩ := mq_pR_spec h
    clear h
    obtain ⟨rfl, hp⟩ := mq_p0_spec h0
    clear h0
    rfl
  · intro as ρ μ h
    obtain ⟨nw, sp, tl, tx, al⟩ := ρ
    obtain ⟨L, as0, rfl, h0⟩ := mq_pR_spec h
    clear h
    obtain ⟨rfl, hp⟩ := mq_p0_spec h0
    clear h0
    intro hrg
    intro hbk
    have e0 : mq_l0 ([.inr (.inr (some (8, L)))] : List mq_V) 1 = [some (.inr (.inr (some (8, L))))] := rfl
    rw [e0]
    repeat' (first | refine And.intro ?_ ?_ | intro _)
    all_goals first | omega | rfl | exact trivial | (simp [mq_up] at * <;> omega)
  · intro as ρ μ h
    obtain ⟨nw, sp, tl, tx, al⟩ := ρ
    obtain ⟨L, as0, rfl, h0⟩ := mq_pR_spec h
    clear h
    obtain ⟨rfl, hp⟩ := mq_p0_spec h0
    clear h0
    exact fun _ h => absurd h List.not_mem_nil
  · intro as ρ μ h
    obtain ⟨nw, sp, tl, tx, al⟩ := ρ
    obtain ⟨L, as0, rfl, h0⟩ := mq_pR_spec h
    clear h
    obtain ⟨rfl, hp⟩ := mq_p0_spec h0
    clear h0
    intro hrg
    exact fun _ h => absurd h List.not_mem_nil
theorem mw0_isFull_trains : mq_mlA cq_isFull_trains 0 := ⟨kw_31, ⟨by decide +kernel, by decide +kernel⟩, by decide +kernel, kw_32, kw_33, kw_34, 8, by decide +kernel, fun as ρ μ h => by obtain ⟨nw, sp, tl, tx, al⟩ := ρ; obtain ⟨i, t, e, _⟩ := mq_pR_spec h; exact ⟨i, t, e⟩⟩
def pq_add_trains : List mq_E := [(0, false, .aload 0), (1, false, .invokestatic 0), (4, false, .ifCond .eq (Int.ofNat 9)), (7, false, .iconst (-1)), (8, false, .ireturn), (9, false, .aload 0), (10, false, .dup), (11, false, .invokeinterface 6 3), (14, false, .iconst 1), (15, false, .iadd), (16, false, .multianewarray 6 3), (19, false, .aload 0), (20, false, .invokeinterface 6 3), (23, false, .iconst 1), (24, false, .isub), (25, false, .ireturn)]
def cq_add_trains : mq_C := ((yX6_add, cX6_add, 1, (some .int), { frames := 1, cells := 0, slots := 0, locals := 20 }), (1, 1, 0, 0), 256, (fun as ρ μ => match ρ with
  | (nw, sp, tl, tx, al) => mq_pR as 8 fun L as => mq_p0 as (True)),
  (fun as ρ μ r ρ' μ' => match as, ρ, ρ' with
  | [.inr (.inr (some (_, L)))], (nw, sp, tl, tx, al), (nw', sp', tl', tx', al') => [-1 ≤ r, r < 5]
  | _, _, _ => []))
def kq_add_trains : List mq_V → mq_R → mq_M → List mq_Cu := fun as ρ μ => match as, ρ with
  | [.inr (.inr (some (_, L)))], (nw, sp, tl, tx, al) => []
  | _, _ => []
set_option maxHeartbeats 16000000 in
set_option maxRecDepth 100000 in
theorem vq_add_trains (lc : Launch) (h_isFull_trains : mq_Ct lc cq_isFull_trains) : mq_Ct lc cq_add_trains := by
  refine mq_method (lc := lc) (P := pq_add_trains) (cl := [cq_isFull_trains]) (T := ([(9, 6, 3)], [], [], [(25, 0, 0)], [], [])) (fuel := 400) (cuts := kq_add_trains) (by decide) rfl ⟨rfl, rfl⟩ (List.forall_mem_cons.mpr ⟨h_isFull_trains, (fun _ h => absurd h List.not_mem_nil)⟩) ⟨(List.forall_mem_cons.mpr ⟨⟨_, rfl, by decide, kw_29⟩, (fun _ h => absurd h List.not_mem_nil)⟩), (fun _ h => absurd h List.not_mem_nil), (fun _ h => absurd h List.not_mem_nil), (List.forall_mem_cons.mpr ⟨mq_ml0 rfl mw0_isFull_trains kw_35, (fun _ h => absurd h List.not_mem_nil)⟩), (fun _ h => absurd h List.not_mem_nil), (fun _ h => absurd h List.not_mem_nil)⟩ (by decide +kernel) ⟨_, _, rfl⟩ ?_ ?_ ?_ ?_
  · intro as ρ μ h
    obtain ⟨nw, sp, tl, tx, al⟩ := ρ
    obtain ⟨L, as0, rfl, h0⟩ := mq_pR_spec h
    clear h
    obtain ⟨rfl, hp⟩ := mq_p0_spec h0
    clear h0
    rfl
  · intro as ρ μ h
    obtain ⟨nw, sp, tl, tx, al⟩ := ρ
    obtain ⟨L, as0, rfl, h0⟩ := mq_pR_spec h
    clear h
    obtain ⟨rfl, hp⟩ := mq_p0_spec h0
    clear h0
    intro hrg
    intro hbk
    have e0 : mq_l0 ([.inr (.inr (some (8, L)))] : List mq_V) 1 = [some (.inr (.inr (some (8, L))))] := rfl
    rw [e0]
    repeat' (first | refine And.intro ?_ ?_ | intro _)
    all_goals first | omega | rfl | exact trivial | (simp [mq_up] at * <;> omega)
  · intro as ρ μ h
    obtain ⟨nw, sp, tl, tx, al⟩ := ρ
    obtain ⟨L, as0, rfl, h0⟩ := mq_pR_spec h
    clear h
    obtain ⟨rfl, hp⟩ := mq_p0_spec h0
    clear h0
    exact fun _ h => absurd h List.not_mem_nil
  · intro as ρ μ h
    obtain ⟨nw, sp, tl, tx, al⟩ := ρ
    obtain ⟨L, as0, rfl, h0⟩ := mq_pR_spec h
    clear h
    obtain ⟨rfl, hp⟩ := mq_p0_spec h0
    clear h0
    intro hrg
    exact fun _ h => absurd h List.not_mem_nil
theorem mw0_add_trains : mq_mlA cq_add_trains 0 := ⟨kw_425, ⟨by decide +kernel, by decide +kernel⟩, by decide +kernel, kw_426, kw_427, kw_34, 8, by decide +kernel, fun as ρ μ h => by obtain ⟨nw, sp, tl, tx, al⟩ := ρ; obtain ⟨i, t, e, _⟩ := mq_pR_spec h; exact ⟨i, t, e⟩⟩
def pq_get_trains : List mq_E := [(0, false, .iload 1), (1, false, .ifCond .lt (Int.ofNat 24)), (4, false, .iload 1), (5, false, .aload 0), (6, false, .invokeinterface 6 0), (9, false, .if_icmp .ge (Int.ofNat 24)), (12, false, .iload 2), (13, false, .ifCond .lt (Int.ofNat 24)), (16, false, .iload 2), (17, false, .aload 0), (18, false, .invokeinterface 6 1), (21, false, .if_icmp .lt (Int.ofNat 26)), (24, false, .iconst 0), (25, false, .ireturn), (26, false, .aload 0), (27, false, .invokeinterface 6 2), (30, false, .iload 1), (31, false, .aload 0), (32, false, .invokeinterface 6 1), (35, false, .imul), (36, false, .iload 2), (37, false, .iadd), (38, false, .iaload), (39, false, .ireturn)]
def cq_get_trains : mq_C := ((yX6_get, cX6_get, 3, (some .int), { frames := 0, cells := 0, slots := 0, locals := 0 }), (3, 1, 0, 0), 0, (fun as ρ μ => match ρ with
  | (nw, sp, tl, tx, al) => mq_pR as 8 fun L as => mq_pI as fun x as => mq_pI as fun y as => mq_p0 as (True)),
  (fun as ρ μ r ρ' μ' => match as, ρ, ρ' with
  | [.inr (.inr (some (_, L))), .inl x, .inl y], (nw, sp, tl, tx, al), (nw', sp', tl', tx', al') => [0 ≤ r, r ≤ 300]
  | _, _, _ => []))
def kq_get_trains : List mq_V → mq_R → mq_M → List mq_Cu := fun as ρ μ => match as, ρ with
  | [.inr (.inr (some (_, L))), .inl x, .inl y], (nw, sp, tl, tx, al) => []
  | _, _ => []
set_option maxHeartbeats 16000000 in
set_option maxRecDepth 100000 in
theorem vq_get_trains (lc : Launch)  : mq_Ct lc cq_get_trains := by
  refine mq_method (lc := lc) (P := pq_get_trains) (cl := []) (T := ([(15, 6, 0), (18, 6, 1), (21, 6, 2)], [], [], [], [], [])) (fuel := 400) (cuts := kq_get_trains) (by decide) rfl ⟨rfl, rfl⟩ (fun _ h => absurd h List.not_mem_nil) ⟨(List.forall_mem_cons.mpr ⟨⟨_, rfl, by decide, kw_30⟩, (List.forall_mem_cons.mpr ⟨⟨_, rfl, by decide, kw_36⟩, (List.forall_mem_cons.mpr ⟨⟨_, rfl, by decide, kw_37⟩, (fun _ h => absurd h List.not_mem_nil)⟩)⟩)⟩), (fun _ h => absurd h List.not_mem_nil), (fun _ h => absurd h List.not_mem_nil), (fun _ h => absurd h List.not_mem_nil), (fun _ h => absurd h List.not_mem_nil), (fun _ h => absurd h List.not_mem_nil)⟩ (by decide +kernel) ⟨_, _, rfl⟩ ?_ ?_ ?_ ?_
  · intro as ρ μ h
    obtain ⟨nw, sp, tl, tx, al⟩ := ρ
    obtain ⟨L, as0, rfl, h0⟩ := mq_pR_spec h
    clear h
    obtain ⟨x, as1, rfl, h1⟩ := mq_pI_spec h0
    clear h0
    obtain ⟨y, as2, rfl, h2⟩ := mq_pI_spec h1
    clear h1
    obtain ⟨rfl, hp⟩ := mq_p0_spec h2
    clear h2
    rfl
  · intro as ρ μ h
    obtain ⟨nw, sp, tl, tx, al⟩ := ρ
    obtain ⟨L, as0, rfl, h0⟩ := mq_pR_spec h
    clear h
    obtain ⟨x, as1, rfl, h1⟩ := mq_pI_spec h0
    clear h0
    obtain ⟨y, as2, rfl, h2⟩ := mq_pI_spec h1
    clear h1
    obtain ⟨rfl, hp⟩ := mq_p0_spec h2
    clear h2
    intro hrg
    obtain ⟨⟨ha1a, ha1b⟩, ⟨ha2a, ha2b⟩, -⟩ := hrg
    intro hbk
    have e0 : mq_l0 ([.inr (.inr (some (8, L))), .inl x, .inl y] : List mq_V) 3 = [some (.inr (.inr (some (8, L)))), some (.inl x), some (.inl y)] := rfl
    rw [e0]
    repeat' (first | refine And.intro ?_ ?_ | intro _)
    all_goals first | omega | rfl | exact trivial | (simp [mq_up] at * <;> omega)
  · intro as ρ μ h
    obtain ⟨nw, sp, tl, tx, al⟩ := ρ
    obtain ⟨L, as0, rfl, h0⟩ := mq_pR_spec h
    clear h
    obtain ⟨x, as1, rfl, h1⟩ := mq_pI_spec h0
    clear h0
    obtain ⟨y, as2, rfl, h2⟩ := mq_pI_spec h1
    clear h1
    obtain ⟨rfl, hp⟩ := mq_p0_spec h2
    clear h2
    exact fun _ h => absurd h List.not_mem_nil
  · intro as ρ μ h
    obtain ⟨nw, sp, tl, tx, al⟩ := ρ
    obtain ⟨L, as0, rfl, h0⟩ := mq_pR_spec h
    clear h
    obtain ⟨x, as1, rfl, h1⟩ := mq_pI_spec h0
    clear h0
    obtain ⟨y, as2, rfl, h2⟩ := mq_pI_spec h1
    clear h1
    obtain ⟨rfl, hp⟩ := mq_p0_spec h2
    clear h2
    intro hrg
    obtain ⟨⟨ha1a, ha1b⟩, ⟨ha2a, ha2b⟩, -⟩ := hrg
    exact fun _ h => absurd h List.not_mem_nil
theorem mw0_get_trains : mq_mlA cq_get_trains 0 := ⟨kw_60, ⟨by decide +kernel, by decide +kernel⟩, by decide +kernel, kw_61, kw_62, kw_34, 8, by decide +kernel, fun as ρ μ h => by obtain ⟨nw, sp, tl, tx, al⟩ := ρ; obtain ⟨i, t, e, _⟩ := mq_pR_spec h; exact ⟨i, t, e⟩⟩
def pq_set_trains : List mq_E := [(0, false, .iload 1), (1, false, .ifCond .lt (Int.ofNat 38)), (4, false, .iload 1), (5, false, .aload 0), (6, false, .invokeinterface 6 0), (9, false, .if_icmp .ge (Int.ofNat 38)), (12, false, .iload 2), (13, false, .ifCond .lt (Int.ofNat 38)), (16, false, .iload 2), (17, false, .aload 0), (18, false, .invokeinterface 6 1), (21, false, .if_icmp .ge (Int.ofNat 38)), (24, false, .aload 0), (25, false, .invokeinterface 6 2), (28, false, .iload 1), (29, false, .aload 0), (30, false, .invokeinterface 6 1), (33, false, .imul), (34, false, .iload 2), (35, false, .iadd), (36, false, .iload 3), (37, false, .iastore), (38, false, .return_)]
def cq_set_trains : mq_C := ((yX6_set, cX6_set, 4, none, { frames := 0, cells := 0, slots := 0, locals := 0 }), (4, 0, 0, 0), 32768, (fun as ρ μ => match ρ with
  | (nw, sp, tl, tx, al) => mq_pR as 8 fun L as => mq_pI as fun x as => mq_pI as fun y as => mq_pI as fun v as => mq_p0 as (0 ≤ v ∧ v ≤ 300)),
  (fun as ρ μ r ρ' μ' => match as, ρ, ρ' with
  | [.inr (.inr (some (_, L))), .inl x, .inl y, .inl v], (nw, sp, tl, tx, al), (nw', sp', tl', tx', al') => []
  | _, _, _ => []))
def kq_set_trains : List mq_V → mq_R → mq_M → List mq_Cu := fun as ρ μ => match as, ρ with
  | [.inr (.inr (some (_, L))), .inl x, .inl y, .inl v], (nw, sp, tl, tx, al) => []
  | _, _ => []
set_option maxHeartbeats 16000000 in
set_option maxRecDepth 100000 in
theorem vq_set_trains (lc : Launch)  : mq_Ct lc cq_set_trains := by
  refine mq_method (lc := lc) (P := pq_set_trains) (cl := []) (T := ([(15, 6, 0), (18, 6, 1), (21, 6, 2)], [], [], [], [], [])) (fuel := 400) (cuts := kq_set_trains) (by decide) rfl ⟨rfl, rfl⟩ (fun _ h => absurd h List.not_mem_nil) ⟨(List.forall_mem_cons.mpr ⟨⟨_, rfl, by decide, kw_30⟩, (List.forall_mem_cons.mpr ⟨⟨_, rfl, by decide, kw_36⟩, (List.forall_mem_cons.mpr ⟨⟨_, rfl, by decide, kw_37⟩, (fun _ h => absurd h List.not_mem_nil)⟩)⟩)⟩), (fun _ h => absurd h List.not_mem_nil), (fun _ h => absurd h List.not_mem_nil), (fun _ h => absurd h List.not_mem_nil), (fun _ h => absurd h List.not_mem_nil), (fun _ h => absurd h List.not_mem_nil)⟩ (by decide +kernel) ⟨_, _, rfl⟩ ?_ ?_ ?_ ?_
  · intro as ρ μ h
    obtain ⟨nw, sp, tl, tx, al⟩ := ρ
    obtain ⟨L, as0, rfl, h0⟩ := mq_pR_spec h
    clear h
    obtain ⟨x, as1, rfl, h1⟩ := mq_pI_spec h0
    clear h0
    obtain ⟨y, as2, rfl, h2⟩ := mq_pI_spec h1
    clear h1
    obtain ⟨v, as3, rfl, h3⟩ := mq_pI_spec h2
    clear h2
    obtain ⟨rfl, hp⟩ := mq_p0_spec h3
    clear h3
    obtain ⟨hp0, hp1⟩ := hp
    rfl
  · intro as ρ μ h
    obtain ⟨nw, sp, tl, tx, al⟩ := ρ
    obtain ⟨L, as0, rfl, h0⟩ := mq_pR_spec h
    clear h
    obtain ⟨x, as1, rfl, h1⟩ := mq_pI_spec h0
    clear h0
    obtain ⟨y, as2, rfl, h2⟩ := mq_pI_spec h1
    clear h1
    obtain ⟨v, as3, rfl, h3⟩ := mq_pI_spec h2
    clear h2
    obtain ⟨rfl, hp⟩ := mq_p0_spec h3
    clear h3
    obtain ⟨hp0, hp1⟩ := hp
    intro hrg
    obtain ⟨⟨ha1a, ha1b⟩, ⟨ha2a, ha2b⟩, ⟨ha3a, ha3b⟩, -⟩ := hrg
    intro hbk
    have e0 : mq_l0 ([.inr (.inr (some (8, L))), .inl x, .inl y, .inl v] : List mq_V) 4 = [some (.inr (.inr (some (8, L)))), some (.inl x), some (.inl y), some (.inl v)] := rfl
    rw [e0]
    repeat' (first | refine And.intro ?_ ?_ | intro _)
    all_goals first | omega | rfl | exact trivial | (simp [mq_up] at * <;> omega)
  · intro as ρ μ h
    obtain ⟨nw, sp, tl, tx, al⟩ := ρ
    obtain ⟨L, as0, rfl, h0⟩ := mq_pR_spec h
    clear h
    obtain ⟨x, as1, rfl, h1⟩ := mq_pI_spec h0
    clear h0
    obtain ⟨y, as2, rfl, h2⟩ := mq_pI_spec h1
    clear h1
    obtain ⟨v, as3, rfl, h3⟩ := mq_pI_spec h2
    clear h2
    obtain ⟨rfl, hp⟩ := mq_p0_spec h3
    clear h3
    obtain ⟨hp0, hp1⟩ := hp
    exact fun _ h => absurd h List.not_mem_nil
  · intro as ρ μ h
    obtain ⟨nw, sp, tl, tx, al⟩ := ρ
    obtain ⟨L, as0, rfl, h0⟩ := mq_pR_spec h
    clear h
    obtain ⟨x, as1, rfl, h1⟩ := mq_pI_spec h0
    clear h0
    obtain ⟨y, as2, rfl, h2⟩ := mq_pI_spec h1
    clear h1
    obtain ⟨v, as3, rfl, h3⟩ := mq_pI_spec h2
    clear h2
    obtain ⟨rfl, hp⟩ := mq_p0_spec h3
    clear h3
    obtain ⟨hp0, hp1⟩ := hp
    intro hrg
    obtain ⟨⟨ha1a, ha1b⟩, ⟨ha2a, ha2b⟩, ⟨ha3a, ha3b⟩, -⟩ := hrg
    exact fun _ h => absurd h List.not_mem_nil
theorem mw0_set_trains : mq_mlA cq_set_trains 0 := ⟨kw_447, ⟨by decide +kernel, by decide +kernel⟩, by decide +kernel, kw_448, kw_449, kw_34, 8, by decide +kernel, fun as ρ μ h => by obtain ⟨nw, sp, tl, tx, al⟩ := ρ; obtain ⟨i, t, e, _⟩ := mq_pR_spec h; exact ⟨i, t, e⟩⟩
def pq_copy_trains : List mq_E := [(0, false, .aload 0), (1, false, .aload 1), (2, false, .invokeinterface 6 3), (5, false, .multianewarray 6 3), (8, false, .aload 1), (9, false, .invokeinterface 6 2), (12, false, .iconst 0), (13, false, .aload 0), (14, false, .invokeinterface 6 2), (17, false, .iconst 0), (18, false, .aload 0), (19, false, .invokeinterface 6 2), (22, false, .arraylength), (23, false, .aload 1), (24, false, .invokeinterface 6 2), (27, false, .arraylength), (28, false, .f2l), (31, false, .athrow), (34, false, .return_)]
def cq_copy_trains : mq_C := ((yX6_copyFrom, cX6_copyFrom, 2, none, { frames := 1, cells := 0, slots := 0, locals := 48 }), (2, 0, 0, 0), 33024, (fun as ρ μ => match ρ with
  | (nw, sp, tl, tx, al) => mq_pR as 8 fun L as => mq_pR as 8 fun M as => mq_p0 as (True)),
  (fun as ρ μ r ρ' μ' => match as, ρ, ρ' with
  | [.inr (.inr (some (_, L))), .inr (.inr (some (_, M)))], (nw, sp, tl, tx, al), (nw', sp', tl', tx', al') => []
  | _, _, _ => []))
def kq_copy_trains : List mq_V → mq_R → mq_M → List mq_Cu := fun as ρ μ => match as, ρ with
  | [.inr (.inr (some (_, L))), .inr (.inr (some (_, M)))], (nw, sp, tl, tx, al) => []
  | _, _ => []
set_option maxHeartbeats 16000000 in
set_option maxRecDepth 100000 in
theorem vq_copy_trains (lc : Launch)  : mq_Ct lc cq_copy_trains := by
  refine mq_method (lc := lc) (P := pq_copy_trains) (cl := []) (T := ([(9, 6, 3), (21, 6, 2)], [], [], [], [35], [(29, false)])) (fuel := 400) (cuts := kq_copy_trains) (by decide) rfl ⟨rfl, rfl⟩ (fun _ h => absurd h List.not_mem_nil) ⟨(List.forall_mem_cons.mpr ⟨⟨_, rfl, by decide, kw_29⟩, (List.forall_mem_cons.mpr ⟨⟨_, rfl, by decide, kw_37⟩, (fun _ h => absurd h List.not_mem_nil)⟩)⟩), (fun _ h => absurd h List.not_mem_nil), (fun _ h => absurd h List.not_mem_nil), (fun _ h => absurd h List.not_mem_nil), (List.forall_mem_cons.mpr ⟨⟨kw_38, kw_39, kw_40, kw_41⟩, (fun _ h => absurd h List.not_mem_nil)⟩), (List.forall_mem_cons.mpr ⟨⟨kw_42, kw_43, kw_44, kw_45⟩, (fun _ h => absurd h List.not_mem_nil)⟩)⟩ (by decide +kernel) ⟨_, _, rfl⟩ ?_ ?_ ?_ ?_
  · intro as ρ μ h
    obtain ⟨nw, sp, tl, tx, al⟩ := ρ
    obtain ⟨L, as0, rfl, h0⟩ := mq_pR_spec h
    clear h
    obtain ⟨M, as1, rfl, h1⟩ := mq_pR_spec h0
    clear h0
    obtain ⟨rfl, hp⟩ := mq_p0_spec h1
    clear h1
    rfl
  · intro as ρ μ h
    obtain ⟨nw, sp, tl, tx, al⟩ := ρ
    obtain ⟨L, as0, rfl, h0⟩ := mq_pR_spec h
    clear h
    obtain ⟨M, as1, rfl, h1⟩ := mq_pR_spec h0
    clear h0
    obtain ⟨rfl, hp⟩ := mq_p0_spec h1
    clear h1
    intro hrg
    intro hbk
    have e0 : mq_l0 ([.inr (.inr (some (8, L))), .inr (.inr (some (8, M)))] : List mq_V) 2 = [some (.inr (.inr (some (8, L)))), some (.inr (.inr (some (8, M))))] := rfl
    rw [e0]
    repeat' (first | refine And.intro ?_ ?_ | intro _)
    all_goals first | omega | rfl | exact trivial | (simp [mq_up] at * <;> omega)
  · intro as ρ μ h
    obtain ⟨nw, sp, tl, tx, al⟩ := ρ
    obtain ⟨L, as0, rfl, h0⟩ := mq_pR_spec h
    clear h
    obtain ⟨M, as1, rfl, h1⟩ := mq_pR_spec h0
    clear h0
    obtain ⟨rfl, hp⟩ := mq_p0_spec h1
    clear h1
    exact fun _ h => absurd h List.not_mem_nil
  · intro as ρ μ h
    obtain ⟨nw, sp, tl, tx, al⟩ := ρ
    obtain ⟨L, as0, rfl, h0⟩ := mq_pR_spec h
    clear h
    obtain ⟨M, as1, rfl, h1⟩ := mq_pR_spec h0
    clear h0
    obtain ⟨rfl, hp⟩ := mq_p0_spec h1
    clear h1
    intro hrg
    exact fun _ h => absurd h List.not_mem_nil
theorem mw0_copy_trains : mq_mlA cq_copy_trains 0 := ⟨kw_56, ⟨by decide +kernel, by decide +kernel⟩, by decide +kernel, kw_57, kw_58, kw_34, 8, by decide +kernel, fun as ρ μ h => by obtain ⟨nw, sp, tl, tx, al⟩ := ρ; obtain ⟨i, t, e, _⟩ := mq_pR_spec h; exact ⟨i, t, e⟩⟩
def pq_has_coaches : List mq_E := [(0, false, .iload 1), (1, false, .ifCond .lt (Int.ofNat 16)), (4, false, .iload 1), (5, false, .aload 0), (6, false, .invokeinterface 6 3), (9, false, .if_icmp .ge (Int.ofNat 16)), (12, false, .iconst 1), (13, false, .goto (Int.ofNat 17)), (16, false, .iconst 0), (17, false, .ireturn)]
def cq_has_coaches : mq_C := ((yX6_has, cX6_has, 2, (some .boolean), { frames := 0, cells := 0, slots := 0, locals := 0 }), (2, 1, 0, 0), 0, (fun as ρ μ => match ρ with
  | (nw, sp, tl, tx, al) => mq_pR as 9 fun L as => mq_pI as fun x as => mq_p0 as (True)),
  (fun as ρ μ r ρ' μ' => match as, ρ, ρ' with
  | [.inr (.inr (some (_, L))), .inl x], (nw, sp, tl, tx, al), (nw', sp', tl', tx', al') => [(r = 1 ∧ 0 ≤ x ∧ x < 16) ∨ r = 0]
  | _, _, _ => []))
def kq_has_coaches : List mq_V → mq_R → mq_M → List mq_Cu := fun as ρ μ => match as, ρ with
  | [.inr (.inr (some (_, L))), .inl x], (nw, sp, tl, tx, al) => []
  | _, _ => []
set_option maxHeartbeats 16000000 in
set_option maxRecDepth 100000 in
theorem vq_has_coaches (lc : Launch)  : mq_Ct lc cq_has_coaches := by
  refine mq_method (lc := lc) (P := pq_has_coaches) (cl := []) (T := ([(9, 6, 3)], [], [], [], [], [])) (fuel := 400) (cuts := kq_has_coaches) (by decide) rfl ⟨rfl, rfl⟩ (fun _ h => absurd h List.not_mem_nil) ⟨(List.forall_mem_cons.mpr ⟨⟨_, rfl, by decide, kw_29⟩, (fun _ h => absurd h List.not_mem_nil)⟩), (fun _ h => absurd h List.not_mem_nil), (fun _ h => absurd h List.not_mem_nil), (fun _ h => absurd h List.not_mem_nil), (fun _ h => absurd h List.not_mem_nil), (fun _ h => absurd h List.not_mem_nil)⟩ (by decide +kernel) ⟨_, _, rfl⟩ ?_ ?_ ?_ ?_
  · intro as ρ μ h
    obtain ⟨nw, sp, tl, tx, al⟩ := ρ
    obtain ⟨L, as0, rfl, h0⟩ := mq_pR_spec h
    clear h
    obtain ⟨x, as1, rfl, h1⟩ := mq_pI_spec h0
    clear h0
    obtain ⟨rfl, hp⟩ := mq_p0_spec h1
    clear h1
    rfl
  · intro as ρ μ h
    obtain ⟨nw, sp, tl, tx, al⟩ := ρ
    obtain ⟨L, as0, rfl, h0⟩ := mq_pR_spec h
    clear h
    obtain ⟨x, as1, rfl, h1⟩ := mq_pI_spec h0
    clear h0
    obtain ⟨rfl, hp⟩ := mq_p0_spec h1
    clear h1
    intro hrg
    obtain ⟨⟨ha1a, ha1b⟩, -⟩ := hrg
    intro hbk
    have e0 : mq_l0 ([.inr (.inr (some (9, L))), .inl x] : List mq_V) 2 = [some (.inr (.inr (some (9, L)))), some (.inl x)] := rfl
    rw [e0]
    repeat' (first | refine And.intro ?_ ?_ | intro _)
    all_goals first | omega | rfl | exact trivial | (simp [mq_up] at * <;> omega)
  · intro as ρ μ h
    obtain ⟨nw, sp, tl, tx, al⟩ := ρ
    obtain ⟨L, as0, rfl, h0⟩ := mq_pR_spec h
    clear h
    obtain ⟨x, as1, rfl, h1⟩ := mq_pI_spec h0
    clear h0
    obtain ⟨rfl, hp⟩ := mq_p0_spec h1
    clear h1
    exact fun _ h => absurd h List.not_mem_nil
  · intro as ρ μ h
    obtain ⟨nw, sp, tl, tx, al⟩ := ρ
    obtain ⟨L, as0, rfl, h0⟩ := mq_pR_spec h
    clear h
    obtain ⟨x, as1, rfl, h1⟩ := mq_pI_spec h0
    clear h0
    obtain ⟨rfl, hp⟩ := mq_p0_spec h1
    clear h1
    intro hrg
    obtain ⟨⟨ha1a, ha1b⟩, -⟩ := hrg
    exact fun _ h => absurd h List.not_mem_nil
theorem mw0_has_coaches : mq_mlA cq_has_coaches 0 := ⟨kw_235, ⟨by decide +kernel, by decide +kernel⟩, by decide +kernel, kw_236, kw_237, kw_34, 9, by decide +kernel, fun as ρ μ h => by obtain ⟨nw, sp, tl, tx, al⟩ := ρ; obtain ⟨i, t, e, _⟩ := mq_pR_spec h; exact ⟨i, t, e⟩⟩
def pq_isFull_coaches : List mq_E := [(0, false, .aload 0), (1, false, .invokeinterface 6 3), (4, false, .aload 0), (5, false, .invokeinterface 6 0), (8, false, .if_icmp .lt (Int.ofNat 15)), (11, false, .iconst 1), (12, false, .goto (Int.ofNat 16)), (15, false, .iconst 0), (16, false, .ireturn)]
def cq_isFull_coaches : mq_C := ((yX6_isFull, cX6_isFull, 1, (some .boolean), { frames := 0, cells := 0, slots := 0, locals := 0 }), (1, 1, 0, 0), 0, (fun as ρ μ => match ρ with
  | (nw, sp, tl, tx, al) => mq_pR as 9 fun L as => mq_p0 as (True)),
  (fun as ρ μ r ρ' μ' => match as, ρ, ρ' with
  | [.inr (.inr (some (_, L)))], (nw, sp, tl, tx, al), (nw', sp', tl', tx', al') => [r = 1 ∨ (r = 0 ∧ μ (9, L) 3 < 16)]
  | _, _, _ => []))
def kq_isFull_coaches : List mq_V → mq_R → mq_M → List mq_Cu := fun as ρ μ => match as, ρ with
  | [.inr (.inr (some (_, L)))], (nw, sp, tl, tx, al) => []
  | _, _ => []
set_option maxHeartbeats 16000000 in
set_option maxRecDepth 100000 in
theorem vq_isFull_coaches (lc : Launch)  : mq_Ct lc cq_isFull_coaches := by
  refine mq_method (lc := lc) (P := pq_isFull_coaches) (cl := []) (T := ([(9, 6, 3), (15, 6, 0)], [], [], [], [], [])) (fuel := 400) (cuts := kq_isFull_coaches) (by decide) rfl ⟨rfl, rfl⟩ (fun _ h => absurd h List.not_mem_nil) ⟨(List.forall_mem_cons.mpr ⟨⟨_, rfl, by decide, kw_29⟩, (List.forall_mem_cons.mpr ⟨⟨_, rfl, by decide, kw_30⟩, (fun _ h => absurd h List.not_mem_nil)⟩)⟩), (fun _ h => absurd h List.not_mem_nil), (fun _ h => absurd h List.not_mem_nil), (fun _ h => absurd h List.not_mem_nil), (fun _ h => absurd h List.not_mem_nil), (fun _ h => absurd h List.not_mem_nil)⟩ (by decide +kernel) ⟨_, _, rfl⟩ ?_ ?_ ?_ ?_
  · intro as ρ μ h
    obtain ⟨nw, sp, tl, tx, al⟩ := ρ
    obtain ⟨L, as0, rfl, h0⟩ := mq_pR_spec h
    clear h
    obtain ⟨rfl, hp⟩ := mq_p0_spec h0
    clear h0
    rfl
  · intro as ρ μ h
    obtain ⟨nw, sp, tl, tx, al⟩ := ρ
    obtain ⟨L, as0, rfl, h0⟩ := mq_pR_spec h
    clear h
    obtain ⟨rfl, hp⟩ := mq_p0_spec h0
    clear h0
    intro hrg
    intro hbk
    have e0 : mq_l0 ([.inr (.inr (some (9, L)))] : List mq_V) 1 = [some (.inr (.inr (some (9, L))))] := rfl
    rw [e0]
    repeat' (first | refine And.intro ?_ ?_ | intro _)
    all_goals first | omega | rfl | exact trivial | (simp [mq_up] at * <;> omega)
  · intro as ρ μ h
    obtain ⟨nw, sp, tl, tx, al⟩ := ρ
    obtain ⟨L, as0, rfl, h0⟩ := mq_pR_spec h
    clear h
    obtain ⟨rfl, hp⟩ := mq_p0_spec h0
    clear h0
    exact fun _ h => absurd h List.not_mem_nil
  · intro as ρ μ h
    obtain ⟨nw, sp, tl, tx, al⟩ := ρ
    obtain ⟨L, as0, rfl, h0⟩ := mq_pR_spec h
    clear h
    obtain ⟨rfl, hp⟩ := mq_p0_spec h0
    clear h0
    intro hrg
    exact fun _ h => absurd h List.not_mem_nil
theorem mw0_isFull_coaches : mq_mlA cq_isFull_coaches 0 := ⟨kw_31, ⟨by decide +kernel, by decide +kernel⟩, by decide +kernel, kw_32, kw_33, kw_34, 9, by decide +kernel, fun as ρ μ h => by obtain ⟨nw, sp, tl, tx, al⟩ := ρ; obtain ⟨i, t, e, _⟩ := mq_pR_spec h; exact ⟨i, t, e⟩⟩
def pq_add_coaches : List mq_E := [(0, false, .aload 0), (1, false, .invokestatic 0), (4, false, .ifCond .eq (Int.ofNat 9)), (7, false, .iconst (-1)), (8, false, .ireturn), (9, false, .aload 0), (10, false, .dup), (11, false, .invokeinterface 6 3), (14, false, .iconst 1), (15, false, .iadd), (16, false, .multianewarray 6 3), (19, false, .aload 0), (20, false, .invokeinterface 6 3), (23, false, .iconst 1), (24, false, .isub), (25, false, .ireturn)]
def cq_add_coaches : mq_C := ((yX6_add, cX6_add, 1, (some .int), { frames := 1, cells := 0, slots := 0, locals := 20 }), (1, 1, 0, 0), 512, (fun as ρ μ => match ρ with
  | (nw, sp, tl, tx, al) => mq_pR as 9 fun L as => mq_p0 as (True)),
  (fun as ρ μ r ρ' μ' => match as, ρ, ρ' with
  | [.inr (.inr (some (_, L)))], (nw, sp, tl, tx, al), (nw', sp', tl', tx', al') => [-1 ≤ r, r < 16]
  | _, _, _ => []))
def kq_add_coaches : List mq_V → mq_R → mq_M → List mq_Cu := fun as ρ μ => match as, ρ with
  | [.inr (.inr (some (_, L)))], (nw, sp, tl, tx, al) => []
  | _, _ => []
set_option maxHeartbeats 16000000 in
set_option maxRecDepth 100000 in
theorem vq_add_coaches (lc : Launch) (h_isFull_coaches : mq_Ct lc cq_isFull_coaches) : mq_Ct lc cq_add_coaches := by
  refine mq_method (lc := lc) (P := pq_add_coaches) (cl := [cq_isFull_coaches]) (T := ([(9, 6, 3)], [], [], [(25, 0, 0)], [], [])) (fuel := 400) (cuts := kq_add_coaches) (by decide) rfl ⟨rfl, rfl⟩ (List.forall_mem_cons.mpr ⟨h_isFull_coaches, (fun _ h => absurd h List.not_mem_nil)⟩) ⟨(List.forall_mem_cons.mpr ⟨⟨_, rfl, by decide, kw_29⟩, (fun _ h => absurd h List.not_mem_nil)⟩), (fun _ h => absurd h List.not_mem_nil), (fun _ h => absurd h List.not_mem_nil), (List.forall_mem_cons.mpr ⟨mq_ml0 rfl mw0_isFull_coaches kw_35, (fun _ h => absurd h List.not_mem_nil)⟩), (fun _ h => absurd h List.not_mem_nil), (fun _ h => absurd h List.not_mem_nil)⟩ (by decide +kernel) ⟨_, _, rfl⟩ ?_ ?_ ?_ ?_
  · intro as ρ μ h
    obtain ⟨nw, sp, tl, tx, al⟩ := ρ
    obtain ⟨L, as0, rfl, h0⟩ := mq_pR_spec h
    clear h
    obtain ⟨rfl, hp⟩ := mq_p0_spec h0
    clear h0
    rfl
  · intro as ρ μ h
    obtain ⟨nw, sp, tl, tx, al⟩ := ρ
    obtain ⟨L, as0, rfl, h0⟩ := mq_pR_spec h
    clear h
    obtain ⟨rfl, hp⟩ := mq_p0_spec h0
    clear h0
    intro hrg
    intro hbk
    have e0 : mq_l0 ([.inr (.inr (some (9, L)))] : List mq_V) 1 = [some (.inr (.inr (some (9, L))))] := rfl
    rw [e0]
    repeat' (first | refine And.intro ?_ ?_ | intro _)
    all_goals first | omega | rfl | exact trivial | (simp [mq_up] at * <;> omega)
  · intro as ρ μ h
    obtain ⟨nw, sp, tl, tx, al⟩ := ρ
    obtain ⟨L, as0, rfl, h0⟩ := mq_pR_spec h
    clear h
    obtain ⟨rfl, hp⟩ := mq_p0_spec h0
    clear h0
    exact fun _ h => absurd h List.not_mem_nil
  · intro as ρ μ h
    obtain ⟨nw, sp, tl, tx, al⟩ := ρ
    obtain ⟨L, as0, rfl, h0⟩ := mq_pR_spec h
    clear h
    obtain ⟨rfl, hp⟩ := mq_p0_spec h0
    clear h0
    intro hrg
    exact fun _ h => absurd h List.not_mem_nil
theorem mw0_add_coaches : mq_mlA cq_add_coaches 0 := ⟨kw_425, ⟨by decide +kernel, by decide +kernel⟩, by decide +kernel, kw_426, kw_427, kw_34, 9, by decide +kernel, fun as ρ μ h => by obtain ⟨nw, sp, tl, tx, al⟩ := ρ; obtain ⟨i, t, e, _⟩ := mq_pR_spec h; exact ⟨i, t, e⟩⟩
def pq_get_coaches : List mq_E := [(0, false, .iload 1), (1, false, .ifCond .lt (Int.ofNat 24)), (4, false, .iload 1), (5, false, .aload 0), (6, false, .invokeinterface 6 0), (9, false, .if_icmp .ge (Int.ofNat 24)), (12, false, .iload 2), (13, false, .ifCond .lt (Int.ofNat 24)), (16, false, .iload 2), (17, false, .aload 0), (18, false, .invokeinterface 6 1), (21, false, .if_icmp .lt (Int.ofNat 26)), (24, false, .iconst 0), (25, false, .ireturn), (26, false, .aload 0), (27, false, .invokeinterface 6 2), (30, false, .iload 1), (31, false, .aload 0), (32, false, .invokeinterface 6 1), (35, false, .imul), (36, false, .iload 2), (37, false, .iadd), (38, false, .iaload), (39, false, .ireturn)]
def cq_get_coaches : mq_C := ((yX6_get, cX6_get, 3, (some .int), { frames := 0, cells := 0, slots := 0, locals := 0 }), (3, 1, 0, 0), 0, (fun as ρ μ => match ρ with
  | (nw, sp, tl, tx, al) => mq_pR as 9 fun L as => mq_pI as fun x as => mq_pI as fun y as => mq_p0 as (True)),
  (fun as ρ μ r ρ' μ' => match as, ρ, ρ' with
  | [.inr (.inr (some (_, L))), .inl x, .inl y], (nw, sp, tl, tx, al), (nw', sp', tl', tx', al') => [0 ≤ r, r ≤ 400, y = 0 → r ≤ 4]
  | _, _, _ => []))
def kq_get_coaches : List mq_V → mq_R → mq_M → List mq_Cu := fun as ρ μ => match as, ρ with
  | [.inr (.inr (some (_, L))), .inl x, .inl y], (nw, sp, tl, tx, al) => []
  | _, _ => []
set_option maxHeartbeats 16000000 in
set_option maxRecDepth 100000 in
theorem vq_get_coaches (lc : Launch)  : mq_Ct lc cq_get_coaches := by
  refine mq_method (lc := lc) (P := pq_get_coaches) (cl := []) (T := ([(15, 6, 0), (18, 6, 1), (21, 6, 2)], [], [], [], [], [])) (fuel := 400) (cuts := kq_get_coaches) (by decide) rfl ⟨rfl, rfl⟩ (fun _ h => absurd h List.not_mem_nil) ⟨(List.forall_mem_cons.mpr ⟨⟨_, rfl, by decide, kw_30⟩, (List.forall_mem_cons.mpr ⟨⟨_, rfl, by decide, kw_36⟩, (List.forall_mem_cons.mpr ⟨⟨_, rfl, by decide, kw_37⟩, (fun _ h => absurd h List.not_mem_nil)⟩)⟩)⟩), (fun _ h => absurd h List.not_mem_nil), (fun _ h => absurd h List.not_mem_nil), (fun _ h => absurd h List.not_mem_nil), (fun _ h => absurd h List.not_mem_nil), (fun _ h => absurd h List.not_mem_nil)⟩ (by decide +kernel) ⟨_, _, rfl⟩ ?_ ?_ ?_ ?_
  · intro as ρ μ h
    obtain ⟨nw, sp, tl, tx, al⟩ := ρ
    obtain ⟨L, as0, rfl, h0⟩ := mq_pR_spec h
    clear h
    obtain ⟨x, as1, rfl, h1⟩ := mq_pI_spec h0
    clear h0
    obtain ⟨y, as2, rfl, h2⟩ := mq_pI_spec h1
    clear h1
    obtain ⟨rfl, hp⟩ := mq_p0_spec h2
    clear h2
    rfl
  · intro as ρ μ h
    obtain ⟨nw, sp, tl, tx, al⟩ := ρ
    obtain ⟨L, as0, rfl, h0⟩ := mq_pR_spec h
    clear h
    obtain ⟨x, as1, rfl, h1⟩ := mq_pI_spec h0
    clear h0
    obtain ⟨y, as2, rfl, h2⟩ := mq_pI_spec h1
    clear h1
    obtain ⟨rfl, hp⟩ := mq_p0_spec h2
    clear h2
    intro hrg
    obtain ⟨⟨ha1a, ha1b⟩, ⟨ha2a, ha2b⟩, -⟩ := hrg
    intro hbk
    have e0 : mq_l0 ([.inr (.inr (some (9, L))), .inl x, .inl y] : List mq_V) 3 = [some (.inr (.inr (some (9, L)))), some (.inl x), some (.inl y)] := rfl
    rw [e0]
    repeat' (first | refine And.intro ?_ ?_ | intro _)
    all_goals first | omega | rfl | exact trivial | (simp [mq_up] at * <;> omega)
  · intro as ρ μ h
    obtain ⟨nw, sp, tl, tx, al⟩ := ρ
    obtain ⟨L, as0, rfl, h0⟩ := mq_pR_spec h
    clear h
    obtain ⟨x, as1, rfl, h1⟩ := mq_pI_spec h0
    clear h0
    obtain ⟨y, as2, rfl, h2⟩ := mq_pI_spec h1
    clear h1
    obtain ⟨rfl, hp⟩ := mq_p0_spec h2
    clear h2
    exact fun _ h => absurd h List.not_mem_nil
  · intro as ρ μ h
    obtain ⟨nw, sp, tl, tx, al⟩ := ρ
    obtain ⟨L, as0, rfl, h0⟩ := mq_pR_spec h
    clear h
    obtain ⟨x, as1, rfl, h1⟩ := mq_pI_spec h0
    clear h0
    obtain ⟨y, as2, rfl, h2⟩ := mq_pI_spec h1
    clear h1
    obtain ⟨rfl, hp⟩ := mq_p0_spec h2
    clear h2
    intro hrg
    obtain ⟨⟨ha1a, ha1b⟩, ⟨ha2a, ha2b⟩, -⟩ := hrg
    exact fun _ h => absurd h List.not_mem_nil
theorem mw0_get_coaches : mq_mlA cq_get_coaches 0 := ⟨kw_60, ⟨by decide +kernel, by decide +kernel⟩, by decide +kernel, kw_61, kw_62, kw_34, 9, by decide +kernel, fun as ρ μ h => by obtain ⟨nw, sp, tl, tx, al⟩ := ρ; obtain ⟨i, t, e, _⟩ := mq_pR_spec h; exact ⟨i, t, e⟩⟩
def pq_set_coaches : List mq_E := [(0, false, .iload 1), (1, false, .ifCond .lt (Int.ofNat 38)), (4, false, .iload 1), (5, false, .aload 0), (6, false, .invokeinterface 6 0), (9, false, .if_icmp .ge (Int.ofNat 38)), (12, false, .iload 2), (13, false, .ifCond .lt (Int.ofNat 38)), (16, false, .iload 2), (17, false, .aload 0), (18, false, .invokeinterface 6 1), (21, false, .if_icmp .ge (Int.ofNat 38)), (24, false, .aload 0), (25, false, .invokeinterface 6 2), (28, false, .iload 1), (29, false, .aload 0), (30, false, .invokeinterface 6 1), (33, false, .imul), (34, false, .iload 2), (35, false, .iadd), (36, false, .iload 3), (37, false, .iastore), (38, false, .return_)]
def cq_set_coaches : mq_C := ((yX6_set, cX6_set, 4, none, { frames := 0, cells := 0, slots := 0, locals := 0 }), (4, 0, 0, 0), 65536, (fun as ρ μ => match ρ with
  | (nw, sp, tl, tx, al) => mq_pR as 9 fun L as => mq_pI as fun x as => mq_pI as fun y as => mq_pI as fun v as => mq_p0 as (0 ≤ v ∧ v ≤ 400 ∧ (y = 0 → v ≤ 4))),
  (fun as ρ μ r ρ' μ' => match as, ρ, ρ' with
  | [.inr (.inr (some (_, L))), .inl x, .inl y, .inl v], (nw, sp, tl, tx, al), (nw', sp', tl', tx', al') => []
  | _, _, _ => []))
def kq_set_coaches : List mq_V → mq_R → mq_M → List mq_Cu := fun as ρ μ => match as, ρ with
  | [.inr (.inr (some (_, L))), .inl x, .inl y, .inl v], (nw, sp, tl, tx, al) => []
  | _, _ => []
set_option maxHeartbeats 16000000 in
set_option maxRecDepth 100000 in
theorem vq_set_coaches (lc : Launch)  : mq_Ct lc cq_set_coaches := by
  refine mq_method (lc := lc) (P := pq_set_coaches) (cl := []) (T := ([(15, 6, 0), (18, 6, 1), (21, 6, 2)], [], [], [], [], [])) (fuel := 400) (cuts := kq_set_coaches) (by decide) rfl ⟨rfl, rfl⟩ (fun _ h => absurd h List.not_mem_nil) ⟨(List.forall_mem_cons.mpr ⟨⟨_, rfl, by decide, kw_30⟩, (List.forall_mem_cons.mpr ⟨⟨_, rfl, by decide, kw_36⟩, (List.forall_mem_cons.mpr ⟨⟨_, rfl, by decide, kw_37⟩, (fun _ h => absurd h List.not_mem_nil)⟩)⟩)⟩), (fun _ h => absurd h List.not_mem_nil), (fun _ h => absurd h List.not_mem_nil), (fun _ h => absurd h List.not_mem_nil), (fun _ h => absurd h List.not_mem_nil), (fun _ h => absurd h List.not_mem_nil)⟩ (by decide +kernel) ⟨_, _, rfl⟩ ?_ ?_ ?_ ?_
  · intro as ρ μ h
    obtain ⟨nw, sp, tl, tx, al⟩ := ρ
    obtain ⟨L, as0, rfl, h0⟩ := mq_pR_spec h
    clear h
    obtain ⟨x, as1, rfl, h1⟩ := mq_pI_spec h0
    clear h0
    obtain ⟨y, as2, rfl, h2⟩ := mq_pI_spec h1
    clear h1
    obtain ⟨v, as3, rfl, h3⟩ := mq_pI_spec h2
    clear h2
    obtain ⟨rfl, hp⟩ := mq_p0_spec h3
    clear h3
    obtain ⟨hp0, hp1, hp2⟩ := hp
    rfl
  · intro as ρ μ h
    obtain ⟨nw, sp, tl, tx, al⟩ := ρ
    obtain ⟨L, as0, rfl, h0⟩ := mq_pR_spec h
    clear h
    obtain ⟨x, as1, rfl, h1⟩ := mq_pI_spec h0
    clear h0
    obtain ⟨y, as2, rfl, h2⟩ := mq_pI_spec h1
    clear h1
    obtain ⟨v, as3, rfl, h3⟩ := mq_pI_spec h2
    clear h2
    obtain ⟨rfl, hp⟩ := mq_p0_spec h3
    clear h3
    obtain ⟨hp0, hp1, hp2⟩ := hp
    intro hrg
    obtain ⟨⟨ha1a, ha1b⟩, ⟨ha2a, ha2b⟩, ⟨ha3a, ha3b⟩, -⟩ := hrg
    intro hbk
    have e0 : mq_l0 ([.inr (.inr (some (9, L))), .inl x, .inl y, .inl v] : List mq_V) 4 = [some (.inr (.inr (some (9, L)))), some (.inl x), some (.inl y), some (.inl v)] := rfl
    rw [e0]
    repeat' (first | refine And.intro ?_ ?_ | intro _)
    all_goals first | omega | rfl | exact trivial | (simp [mq_up] at * <;> omega)
  · intro as ρ μ h
    obtain ⟨nw, sp, tl, tx, al⟩ := ρ
    obtain ⟨L, as0, rfl, h0⟩ := mq_pR_spec h
    clear h
    obtain ⟨x, as1, rfl, h1⟩ := mq_pI_spec h0
    clear h0
    obtain ⟨y, as2, rfl, h2⟩ := mq_pI_spec h1
    clear h1
    obtain ⟨v, as3, rfl, h3⟩ := mq_pI_spec h2
    clear h2
    obtain ⟨rfl, hp⟩ := mq_p0_spec h3
    clear h3
    obtain ⟨hp0, hp1, hp2⟩ := hp
    exact fun _ h => absurd h List.not_mem_nil
  · intro as ρ μ h
    obtain ⟨nw, sp, tl, tx, al⟩ := ρ
    obtain ⟨L, as0, rfl, h0⟩ := mq_pR_spec h
    clear h
    obtain ⟨x, as1, rfl, h1⟩ := mq_pI_spec h0
    clear h0
    obtain ⟨y, as2, rfl, h2⟩ := mq_pI_spec h1
    clear h1
    obtain ⟨v, as3, rfl, h3⟩ := mq_pI_spec h2
    clear h2
    obtain ⟨rfl, hp⟩ := mq_p0_spec h3
    clear h3
    obtain ⟨hp0, hp1, hp2⟩ := hp
    intro hrg
    obtain ⟨⟨ha1a, ha1b⟩, ⟨ha2a, ha2b⟩, ⟨ha3a, ha3b⟩, -⟩ := hrg
    exact fun _ h => absurd h List.not_mem_nil
theorem mw0_set_coaches : mq_mlA cq_set_coaches 0 := ⟨kw_447, ⟨by decide +kernel, by decide +kernel⟩, by decide +kernel, kw_448, kw_449, kw_34, 9, by decide +kernel, fun as ρ μ h => by obtain ⟨nw, sp, tl, tx, al⟩ := ρ; obtain ⟨i, t, e, _⟩ := mq_pR_spec h; exact ⟨i, t, e⟩⟩
def pq_copy_coaches : List mq_E := [(0, false, .aload 0), (1, false, .aload 1), (2, false, .invokeinterface 6 3), (5, false, .multianewarray 6 3), (8, false, .aload 1), (9, false, .invokeinterface 6 2), (12, false, .iconst 0), (13, false, .aload 0), (14, false, .invokeinterface 6 2), (17, false, .iconst 0), (18, false, .aload 0), (19, false, .invokeinterface 6 2), (22, false, .arraylength), (23, false, .aload 1), (24, false, .invokeinterface 6 2), (27, false, .arraylength), (28, false, .f2l), (31, false, .athrow), (34, false, .return_)]
def cq_copy_coaches : mq_C := ((yX6_copyFrom, cX6_copyFrom, 2, none, { frames := 1, cells := 0, slots := 0, locals := 48 }), (2, 0, 0, 0), 66048, (fun as ρ μ => match ρ with
  | (nw, sp, tl, tx, al) => mq_pR as 9 fun L as => mq_pR as 9 fun M as => mq_p0 as (True)),
  (fun as ρ μ r ρ' μ' => match as, ρ, ρ' with
  | [.inr (.inr (some (_, L))), .inr (.inr (some (_, M)))], (nw, sp, tl, tx, al), (nw', sp', tl', tx', al') => []
  | _, _, _ => []))
def kq_copy_coaches : List mq_V → mq_R → mq_M → List mq_Cu := fun as ρ μ => match as, ρ with
  | [.inr (.inr (some (_, L))), .inr (.inr (some (_, M)))], (nw, sp, tl, tx, al) => []
  | _, _ => []
set_option maxHeartbeats 16000000 in
set_option maxRecDepth 100000 in
theorem vq_copy_coaches (lc : Launch)  : mq_Ct lc cq_copy_coaches := by
  refine mq_method (lc := lc) (P := pq_copy_coaches) (cl := []) (T := ([(9, 6, 3), (21, 6, 2)], [], [], [], [35], [(29, false)])) (fuel := 400) (cuts := kq_copy_coaches) (by decide) rfl ⟨rfl, rfl⟩ (fun _ h => absurd h List.not_mem_nil) ⟨(List.forall_mem_cons.mpr ⟨⟨_, rfl, by decide, kw_29⟩, (List.forall_mem_cons.mpr ⟨⟨_, rfl, by decide, kw_37⟩, (fun _ h => absurd h List.not_mem_nil)⟩)⟩), (fun _ h => absurd h List.not_mem_nil), (fun _ h => absurd h List.not_mem_nil), (fun _ h => absurd h List.not_mem_nil), (List.forall_mem_cons.mpr ⟨⟨kw_38, kw_39, kw_40, kw_41⟩, (fun _ h => absurd h List.not_mem_nil)⟩), (List.forall_mem_cons.mpr ⟨⟨kw_42, kw_43, kw_44, kw_45⟩, (fun _ h => absurd h List.not_mem_nil)⟩)⟩ (by decide +kernel) ⟨_, _, rfl⟩ ?_ ?_ ?_ ?_
  · intro as ρ μ h
    obtain ⟨nw, sp, tl, tx, al⟩ := ρ
    obtain ⟨L, as0, rfl, h0⟩ := mq_pR_spec h
    clear h
    obtain ⟨M, as1, rfl, h1⟩ := mq_pR_spec h0
    clear h0
    obtain ⟨rfl, hp⟩ := mq_p0_spec h1
    clear h1
    rfl
  · intro as ρ μ h
    obtain ⟨nw, sp, tl, tx, al⟩ := ρ
    obtain ⟨L, as0, rfl, h0⟩ := mq_pR_spec h
    clear h
    obtain ⟨M, as1, rfl, h1⟩ := mq_pR_spec h0
    clear h0
    obtain ⟨rfl, hp⟩ := mq_p0_spec h1
    clear h1
    intro hrg
    intro hbk
    have e0 : mq_l0 ([.inr (.inr (some (9, L))), .inr (.inr (some (9, M)))] : List mq_V) 2 = [some (.inr (.inr (some (9, L)))), some (.inr (.inr (some (9, M))))] := rfl
    rw [e0]
    repeat' (first | refine And.intro ?_ ?_ | intro _)
    all_goals first | omega | rfl | exact trivial | (simp [mq_up] at * <;> omega)
  · intro as ρ μ h
    obtain ⟨nw, sp, tl, tx, al⟩ := ρ
    obtain ⟨L, as0, rfl, h0⟩ := mq_pR_spec h
    clear h
    obtain ⟨M, as1, rfl, h1⟩ := mq_pR_spec h0
    clear h0
    obtain ⟨rfl, hp⟩ := mq_p0_spec h1
    clear h1
    exact fun _ h => absurd h List.not_mem_nil
  · intro as ρ μ h
    obtain ⟨nw, sp, tl, tx, al⟩ := ρ
    obtain ⟨L, as0, rfl, h0⟩ := mq_pR_spec h
    clear h
    obtain ⟨M, as1, rfl, h1⟩ := mq_pR_spec h0
    clear h0
    obtain ⟨rfl, hp⟩ := mq_p0_spec h1
    clear h1
    intro hrg
    exact fun _ h => absurd h List.not_mem_nil
theorem mw0_copy_coaches : mq_mlA cq_copy_coaches 0 := ⟨kw_56, ⟨by decide +kernel, by decide +kernel⟩, by decide +kernel, kw_57, kw_58, kw_34, 9, by decide +kernel, fun as ρ μ h => by obtain ⟨nw, sp, tl, tx, al⟩ := ρ; obtain ⟨i, t, e, _⟩ := mq_pR_spec h; exact ⟨i, t, e⟩⟩
