def pq_isAmong : List mq_E := [(0, false, .iload 0), (1, false, .iload 1), (2, false, .if_icmp .lt (Int.ofNat 14)), (5, false, .iload 0), (6, false, .iload 2), (7, false, .if_icmp .gt (Int.ofNat 14)), (10, false, .iconst 1), (11, false, .goto (Int.ofNat 15)), (14, false, .iconst 0), (15, false, .ireturn)]
def cq_isAmong : mq_C := ((yX10_isAmong, cX10_isAmong, 3, (some .boolean), { frames := 0, cells := 0, slots := 0, locals := 0 }), (3, 1, 0, 0), 0, (fun as ρ μ => match ρ with
  | (nw, sp, tl, tx, al) => mq_pI as fun x as => mq_pI as fun lo as => mq_pI as fun hi as => mq_p0 as (True)),
  (fun as ρ μ r ρ' μ' => match as, ρ, ρ' with
  | [.inl x, .inl lo, .inl hi], (nw, sp, tl, tx, al), (nw', sp', tl', tx', al') => [(r = 1 ∧ lo ≤ x ∧ x ≤ hi) ∨ (r = 0 ∧ (x < lo ∨ hi < x))]
  | _, _, _ => []))
def kq_isAmong : List mq_V → mq_R → mq_M → List (Nat × mq_Jt) := fun as ρ μ => match as, ρ with
  | [.inl x, .inl lo, .inl hi], (nw, sp, tl, tx, al) => []
  | _, _ => []
set_option maxHeartbeats 16000000 in
set_option maxRecDepth 100000 in
theorem vq_isAmong (lc : Launch)  : mq_Ct lc cq_isAmong := by
  refine mq_method (lc := lc) (P := pq_isAmong) (cl := []) (T := ([], [], [], [])) (fuel := 400) (cuts := kq_isAmong) (by decide) rfl ⟨rfl, rfl⟩ (fun _ h => absurd h List.not_mem_nil) ⟨(fun _ h => absurd h List.not_mem_nil), (fun _ h => absurd h List.not_mem_nil), (fun _ h => absurd h List.not_mem_nil), (fun _ h => absurd h List.not_mem_nil)⟩ (by decide +kernel) ⟨_, _, rfl⟩ ?_ ?_ ?_ ?_
  · intro as ρ μ h
    obtain ⟨nw, sp, tl, tx, al⟩ := ρ
    obtain ⟨x, as0, rfl, h0⟩ := mq_pI_spec h
    clear h
    obtain ⟨lo, as1, rfl, h1⟩ := mq_pI_spec h0
    clear h0
    obtain ⟨hi, as2, rfl, h2⟩ := mq_pI_spec h1
    clear h1
    obtain ⟨rfl, hp⟩ := mq_p0_spec h2
    clear h2
    rfl
  · intro as ρ μ h
    obtain ⟨nw, sp, tl, tx, al⟩ := ρ
    obtain ⟨x, as0, rfl, h0⟩ := mq_pI_spec h
    clear h
    obtain ⟨lo, as1, rfl, h1⟩ := mq_pI_spec h0
    clear h0
    obtain ⟨hi, as2, rfl, h2⟩ := mq_pI_spec h1
    clear h1
    obtain ⟨rfl, hp⟩ := mq_p0_spec h2
    clear h2
    have e0 : mq_l0 ([.inl x, .inl lo, .inl hi] : List mq_V) 3 = [some (.inl x), some (.inl lo), some (.inl hi)] := rfl
    rw [e0]
    repeat' (first | refine And.intro ?_ ?_ | intro _)
    all_goals first | omega | rfl | exact trivial
  · intro as ρ μ h
    obtain ⟨nw, sp, tl, tx, al⟩ := ρ
    obtain ⟨x, as0, rfl, h0⟩ := mq_pI_spec h
    clear h
    obtain ⟨lo, as1, rfl, h1⟩ := mq_pI_spec h0
    clear h0
    obtain ⟨hi, as2, rfl, h2⟩ := mq_pI_spec h1
    clear h1
    obtain ⟨rfl, hp⟩ := mq_p0_spec h2
    clear h2
    exact fun _ h => absurd h List.not_mem_nil
  · intro as ρ μ h
    obtain ⟨nw, sp, tl, tx, al⟩ := ρ
    obtain ⟨x, as0, rfl, h0⟩ := mq_pI_spec h
    clear h
    obtain ⟨lo, as1, rfl, h1⟩ := mq_pI_spec h0
    clear h0
    obtain ⟨hi, as2, rfl, h2⟩ := mq_pI_spec h1
    clear h1
    obtain ⟨rfl, hp⟩ := mq_p0_spec h2
    clear h2
    exact fun _ h => absurd h List.not_mem_nil
def pq_has_slopes : List mq_E := [(0, false, .iload 1), (1, false, .ifCond .lt (Int.ofNat 16)), (4, false, .iload 1), (5, false, .aload 0), (6, false, .invokeinterface 6 3), (9, false, .if_icmp .ge (Int.ofNat 16)), (12, false, .iconst 1), (13, false, .goto (Int.ofNat 17)), (16, false, .iconst 0), (17, false, .ireturn)]
def cq_has_slopes : mq_C := ((yX6_has, cX6_has, 2, (some .boolean), { frames := 0, cells := 0, slots := 0, locals := 0 }), (2, 1, 0, 0), 0, (fun as ρ μ => match ρ with
  | (nw, sp, tl, tx, al) => mq_pR as 3 fun L as => mq_pI as fun x as => mq_p0 as (True)),
  (fun as ρ μ r ρ' μ' => match as, ρ, ρ' with
  | [.inr (.inr (some (_, L))), .inl x], (nw, sp, tl, tx, al), (nw', sp', tl', tx', al') => [(r = 1 ∧ 0 ≤ x ∧ x < 8) ∨ r = 0]
  | _, _, _ => []))
def kq_has_slopes : List mq_V → mq_R → mq_M → List (Nat × mq_Jt) := fun as ρ μ => match as, ρ with
  | [.inr (.inr (some (_, L))), .inl x], (nw, sp, tl, tx, al) => []
  | _, _ => []
set_option maxHeartbeats 16000000 in
set_option maxRecDepth 100000 in
theorem vq_has_slopes (lc : Launch)  : mq_Ct lc cq_has_slopes := by
  refine mq_method (lc := lc) (P := pq_has_slopes) (cl := []) (T := ([(9, 6, 3)], [], [], [])) (fuel := 400) (cuts := kq_has_slopes) (by decide) rfl ⟨rfl, rfl⟩ (fun _ h => absurd h List.not_mem_nil) ⟨(List.forall_mem_cons.mpr ⟨⟨_, rfl, by decide, kw_1⟩, (fun _ h => absurd h List.not_mem_nil)⟩), (fun _ h => absurd h List.not_mem_nil), (fun _ h => absurd h List.not_mem_nil), (fun _ h => absurd h List.not_mem_nil)⟩ (by decide +kernel) ⟨_, _, rfl⟩ ?_ ?_ ?_ ?_
  · intro as ρ μ h
    obtain ⟨nw, sp, tl, tx, al⟩ := ρ
    obtain ⟨L, as0, rfl, h0⟩ := mq_pR_spec h
    clear h
    obtain ⟨x, as1, rfl, h1⟩ := mq_pI_spec h0
    clear h0
    obtain ⟨rfl, hp⟩ := mq_p0_spec h1
    clear h1
    rfl
  · intro as ρ μ h
    obtain ⟨nw, sp, tl, tx, al⟩ := ρ
    obtain ⟨L, as0, rfl, h0⟩ := mq_pR_spec h
    clear h
    obtain ⟨x, as1, rfl, h1⟩ := mq_pI_spec h0
    clear h0
    obtain ⟨rfl, hp⟩ := mq_p0_spec h1
    clear h1
    have e0 : mq_l0 ([.inr (.inr (some (3, L))), .inl x] : List mq_V) 2 = [some (.inr (.inr (some (3, L)))), some (.inl x)] := rfl
    rw [e0]
    repeat' (first | refine And.intro ?_ ?_ | intro _)
    all_goals first | omega | rfl | exact trivial
  · intro as ρ μ h
    obtain ⟨nw, sp, tl, tx, al⟩ := ρ
    obtain ⟨L, as0, rfl, h0⟩ := mq_pR_spec h
    clear h
    obtain ⟨x, as1, rfl, h1⟩ := mq_pI_spec h0
    clear h0
    obtain ⟨rfl, hp⟩ := mq_p0_spec h1
    clear h1
    exact fun _ h => absurd h List.not_mem_nil
  · intro as ρ μ h
    obtain ⟨nw, sp, tl, tx, al⟩ := ρ
    obtain ⟨L, as0, rfl, h0⟩ := mq_pR_spec h
    clear h
    obtain ⟨x, as1, rfl, h1⟩ := mq_pI_spec h0
    clear h0
    obtain ⟨rfl, hp⟩ := mq_p0_spec h1
    clear h1
    exact fun _ h => absurd h List.not_mem_nil
def pq_get_slopes : List mq_E := [(0, false, .iload 1), (1, false, .ifCond .lt (Int.ofNat 24)), (4, false, .iload 1), (5, false, .aload 0), (6, false, .invokeinterface 6 0), (9, false, .if_icmp .ge (Int.ofNat 24)), (12, false, .iload 2), (13, false, .ifCond .lt (Int.ofNat 24)), (16, false, .iload 2), (17, false, .aload 0), (18, false, .invokeinterface 6 1), (21, false, .if_icmp .lt (Int.ofNat 26)), (24, false, .iconst 0), (25, false, .ireturn), (26, false, .aload 0), (27, false, .invokeinterface 6 2), (30, false, .iload 1), (31, false, .aload 0), (32, false, .invokeinterface 6 1), (35, false, .imul), (36, false, .iload 2), (37, false, .iadd), (38, false, .iaload), (39, false, .ireturn)]
def cq_get_slopes : mq_C := ((yX6_get, cX6_get, 3, (some .int), { frames := 0, cells := 0, slots := 0, locals := 0 }), (3, 1, 0, 0), 0, (fun as ρ μ => match ρ with
  | (nw, sp, tl, tx, al) => mq_pR as 3 fun L as => mq_pI as fun x as => mq_pI as fun y as => mq_p0 as (True)),
  (fun as ρ μ r ρ' μ' => match as, ρ, ρ' with
  | [.inr (.inr (some (_, L))), .inl x, .inl y], (nw, sp, tl, tx, al), (nw', sp', tl', tx', al') => [-9 ≤ r, r ≤ 400]
  | _, _, _ => []))
def kq_get_slopes : List mq_V → mq_R → mq_M → List (Nat × mq_Jt) := fun as ρ μ => match as, ρ with
  | [.inr (.inr (some (_, L))), .inl x, .inl y], (nw, sp, tl, tx, al) => []
  | _, _ => []
set_option maxHeartbeats 16000000 in
set_option maxRecDepth 100000 in
theorem vq_get_slopes (lc : Launch)  : mq_Ct lc cq_get_slopes := by
  refine mq_method (lc := lc) (P := pq_get_slopes) (cl := []) (T := ([(15, 6, 0), (18, 6, 1), (21, 6, 2)], [], [], [])) (fuel := 400) (cuts := kq_get_slopes) (by decide) rfl ⟨rfl, rfl⟩ (fun _ h => absurd h List.not_mem_nil) ⟨(List.forall_mem_cons.mpr ⟨⟨_, rfl, by decide, kw_2⟩, (List.forall_mem_cons.mpr ⟨⟨_, rfl, by decide, kw_3⟩, (List.forall_mem_cons.mpr ⟨⟨_, rfl, by decide, kw_4⟩, (fun _ h => absurd h List.not_mem_nil)⟩)⟩)⟩), (fun _ h => absurd h List.not_mem_nil), (fun _ h => absurd h List.not_mem_nil), (fun _ h => absurd h List.not_mem_nil)⟩ (by decide +kernel) ⟨_, _, rfl⟩ ?_ ?_ ?_ ?_
  · intro as ρ μ h
    obtain ⟨nw, sp, tl, tx, al⟩ := ρ
    obtain ⟨L, as0, rfl, h0⟩ := mq_pR_spec h
    clear h
    obtain ⟨x, as1, rfl, h1⟩ := mq_pI_spec h0
    clear h0
    obtain ⟨y, as2, rfl, h2⟩ := mq_pI_spec h1
    clear h1
    obtain ⟨rfl, hp⟩ := mq_p0_spec h2
    clear h2
    rfl
  · intro as ρ μ h
    obtain ⟨nw, sp, tl, tx, al⟩ := ρ
    obtain ⟨L, as0, rfl, h0⟩ := mq_pR_spec h
    clear h
    obtain ⟨x, as1, rfl, h1⟩ := mq_pI_spec h0
    clear h0
    obtain ⟨y, as2, rfl, h2⟩ := mq_pI_spec h1
    clear h1
    obtain ⟨rfl, hp⟩ := mq_p0_spec h2
    clear h2
    have e0 : mq_l0 ([.inr (.inr (some (3, L))), .inl x, .inl y] : List mq_V) 3 = [some (.inr (.inr (some (3, L)))), some (.inl x), some (.inl y)] := rfl
    rw [e0]
    repeat' (first | refine And.intro ?_ ?_ | intro _)
    all_goals first | omega | rfl | exact trivial
  · intro as ρ μ h
    obtain ⟨nw, sp, tl, tx, al⟩ := ρ
    obtain ⟨L, as0, rfl, h0⟩ := mq_pR_spec h
    clear h
    obtain ⟨x, as1, rfl, h1⟩ := mq_pI_spec h0
    clear h0
    obtain ⟨y, as2, rfl, h2⟩ := mq_pI_spec h1
    clear h1
    obtain ⟨rfl, hp⟩ := mq_p0_spec h2
    clear h2
    exact fun _ h => absurd h List.not_mem_nil
  · intro as ρ μ h
    obtain ⟨nw, sp, tl, tx, al⟩ := ρ
    obtain ⟨L, as0, rfl, h0⟩ := mq_pR_spec h
    clear h
    obtain ⟨x, as1, rfl, h1⟩ := mq_pI_spec h0
    clear h0
    obtain ⟨y, as2, rfl, h2⟩ := mq_pI_spec h1
    clear h1
    obtain ⟨rfl, hp⟩ := mq_p0_spec h2
    clear h2
    exact fun _ h => absurd h List.not_mem_nil
def pq_has_wets : List mq_E := [(0, false, .iload 1), (1, false, .ifCond .lt (Int.ofNat 16)), (4, false, .iload 1), (5, false, .aload 0), (6, false, .invokeinterface 6 3), (9, false, .if_icmp .ge (Int.ofNat 16)), (12, false, .iconst 1), (13, false, .goto (Int.ofNat 17)), (16, false, .iconst 0), (17, false, .ireturn)]
def cq_has_wets : mq_C := ((yX6_has, cX6_has, 2, (some .boolean), { frames := 0, cells := 0, slots := 0, locals := 0 }), (2, 1, 0, 0), 0, (fun as ρ μ => match ρ with
  | (nw, sp, tl, tx, al) => mq_pR as 4 fun L as => mq_pI as fun x as => mq_p0 as (True)),
  (fun as ρ μ r ρ' μ' => match as, ρ, ρ' with
  | [.inr (.inr (some (_, L))), .inl x], (nw, sp, tl, tx, al), (nw', sp', tl', tx', al') => [(r = 1 ∧ 0 ≤ x ∧ x < 6) ∨ r = 0]
  | _, _, _ => []))
def kq_has_wets : List mq_V → mq_R → mq_M → List (Nat × mq_Jt) := fun as ρ μ => match as, ρ with
  | [.inr (.inr (some (_, L))), .inl x], (nw, sp, tl, tx, al) => []
  | _, _ => []
set_option maxHeartbeats 16000000 in
set_option maxRecDepth 100000 in
theorem vq_has_wets (lc : Launch)  : mq_Ct lc cq_has_wets := by
  refine mq_method (lc := lc) (P := pq_has_wets) (cl := []) (T := ([(9, 6, 3)], [], [], [])) (fuel := 400) (cuts := kq_has_wets) (by decide) rfl ⟨rfl, rfl⟩ (fun _ h => absurd h List.not_mem_nil) ⟨(List.forall_mem_cons.mpr ⟨⟨_, rfl, by decide, kw_1⟩, (fun _ h => absurd h List.not_mem_nil)⟩), (fun _ h => absurd h List.not_mem_nil), (fun _ h => absurd h List.not_mem_nil), (fun _ h => absurd h List.not_mem_nil)⟩ (by decide +kernel) ⟨_, _, rfl⟩ ?_ ?_ ?_ ?_
  · intro as ρ μ h
    obtain ⟨nw, sp, tl, tx, al⟩ := ρ
    obtain ⟨L, as0, rfl, h0⟩ := mq_pR_spec h
    clear h
    obtain ⟨x, as1, rfl, h1⟩ := mq_pI_spec h0
    clear h0
    obtain ⟨rfl, hp⟩ := mq_p0_spec h1
    clear h1
    rfl
  · intro as ρ μ h
    obtain ⟨nw, sp, tl, tx, al⟩ := ρ
    obtain ⟨L, as0, rfl, h0⟩ := mq_pR_spec h
    clear h
    obtain ⟨x, as1, rfl, h1⟩ := mq_pI_spec h0
    clear h0
    obtain ⟨rfl, hp⟩ := mq_p0_spec h1
    clear h1
    have e0 : mq_l0 ([.inr (.inr (some (4, L))), .inl x] : List mq_V) 2 = [some (.inr (.inr (some (4, L)))), some (.inl x)] := rfl
    rw [e0]
    repeat' (first | refine And.intro ?_ ?_ | intro _)
    all_goals first | omega | rfl | exact trivial
  · intro as ρ μ h
    obtain ⟨nw, sp, tl, tx, al⟩ := ρ
    obtain ⟨L, as0, rfl, h0⟩ := mq_pR_spec h
    clear h
    obtain ⟨x, as1, rfl, h1⟩ := mq_pI_spec h0
    clear h0
    obtain ⟨rfl, hp⟩ := mq_p0_spec h1
    clear h1
    exact fun _ h => absurd h List.not_mem_nil
  · intro as ρ μ h
    obtain ⟨nw, sp, tl, tx, al⟩ := ρ
    obtain ⟨L, as0, rfl, h0⟩ := mq_pR_spec h
    clear h
    obtain ⟨x, as1, rfl, h1⟩ := mq_pI_spec h0
    clear h0
    obtain ⟨rfl, hp⟩ := mq_p0_spec h1
    clear h1
    exact fun _ h => absurd h List.not_mem_nil
def pq_get_wets : List mq_E := [(0, false, .iload 1), (1, false, .ifCond .lt (Int.ofNat 24)), (4, false, .iload 1), (5, false, .aload 0), (6, false, .invokeinterface 6 0), (9, false, .if_icmp .ge (Int.ofNat 24)), (12, false, .iload 2), (13, false, .ifCond .lt (Int.ofNat 24)), (16, false, .iload 2), (17, false, .aload 0), (18, false, .invokeinterface 6 1), (21, false, .if_icmp .lt (Int.ofNat 26)), (24, false, .iconst 0), (25, false, .ireturn), (26, false, .aload 0), (27, false, .invokeinterface 6 2), (30, false, .iload 1), (31, false, .aload 0), (32, false, .invokeinterface 6 1), (35, false, .imul), (36, false, .iload 2), (37, false, .iadd), (38, false, .iaload), (39, false, .ireturn)]
def cq_get_wets : mq_C := ((yX6_get, cX6_get, 3, (some .int), { frames := 0, cells := 0, slots := 0, locals := 0 }), (3, 1, 0, 0), 0, (fun as ρ μ => match ρ with
  | (nw, sp, tl, tx, al) => mq_pR as 4 fun L as => mq_pI as fun x as => mq_pI as fun y as => mq_p0 as (True)),
  (fun as ρ μ r ρ' μ' => match as, ρ, ρ' with
  | [.inr (.inr (some (_, L))), .inl x, .inl y], (nw, sp, tl, tx, al), (nw', sp', tl', tx', al') => [0 ≤ r, r ≤ 400]
  | _, _, _ => []))
def kq_get_wets : List mq_V → mq_R → mq_M → List (Nat × mq_Jt) := fun as ρ μ => match as, ρ with
  | [.inr (.inr (some (_, L))), .inl x, .inl y], (nw, sp, tl, tx, al) => []
  | _, _ => []
set_option maxHeartbeats 16000000 in
set_option maxRecDepth 100000 in
theorem vq_get_wets (lc : Launch)  : mq_Ct lc cq_get_wets := by
  refine mq_method (lc := lc) (P := pq_get_wets) (cl := []) (T := ([(15, 6, 0), (18, 6, 1), (21, 6, 2)], [], [], [])) (fuel := 400) (cuts := kq_get_wets) (by decide) rfl ⟨rfl, rfl⟩ (fun _ h => absurd h List.not_mem_nil) ⟨(List.forall_mem_cons.mpr ⟨⟨_, rfl, by decide, kw_2⟩, (List.forall_mem_cons.mpr ⟨⟨_, rfl, by decide, kw_3⟩, (List.forall_mem_cons.mpr ⟨⟨_, rfl, by decide, kw_4⟩, (fun _ h => absurd h List.not_mem_nil)⟩)⟩)⟩), (fun _ h => absurd h List.not_mem_nil), (fun _ h => absurd h List.not_mem_nil), (fun _ h => absurd h List.not_mem_nil)⟩ (by decide +kernel) ⟨_, _, rfl⟩ ?_ ?_ ?_ ?_
  · intro as ρ μ h
    obtain ⟨nw, sp, tl, tx, al⟩ := ρ
    obtain ⟨L, as0, rfl, h0⟩ := mq_pR_spec h
    clear h
    obtain ⟨x, as1, rfl, h1⟩ := mq_pI_spec h0
    clear h0
    obtain ⟨y, as2, rfl, h2⟩ := mq_pI_spec h1
    clear h1
    obtain ⟨rfl, hp⟩ := mq_p0_spec h2
    clear h2
    rfl
  · intro as ρ μ h
    obtain ⟨nw, sp, tl, tx, al⟩ := ρ
    obtain ⟨L, as0, rfl, h0⟩ := mq_pR_spec h
    clear h
    obtain ⟨x, as1, rfl, h1⟩ := mq_pI_spec h0
    clear h0
    obtain ⟨y, as2, rfl, h2⟩ := mq_pI_spec h1
    clear h1
    obtain ⟨rfl, hp⟩ := mq_p0_spec h2
    clear h2
    have e0 : mq_l0 ([.inr (.inr (some (4, L))), .inl x, .inl y] : List mq_V) 3 = [some (.inr (.inr (some (4, L)))), some (.inl x), some (.inl y)] := rfl
    rw [e0]
    repeat' (first | refine And.intro ?_ ?_ | intro _)
    all_goals first | omega | rfl | exact trivial
  · intro as ρ μ h
    obtain ⟨nw, sp, tl, tx, al⟩ := ρ
    obtain ⟨L, as0, rfl, h0⟩ := mq_pR_spec h
    clear h
    obtain ⟨x, as1, rfl, h1⟩ := mq_pI_spec h0
    clear h0
    obtain ⟨y, as2, rfl, h2⟩ := mq_pI_spec h1
    clear h1
    obtain ⟨rfl, hp⟩ := mq_p0_spec h2
    clear h2
    exact fun _ h => absurd h List.not_mem_nil
  · intro as ρ μ h
    obtain ⟨nw, sp, tl, tx, al⟩ := ρ
    obtain ⟨L, as0, rfl, h0⟩ := mq_pR_spec h
    clear h
    obtain ⟨x, as1, rfl, h1⟩ := mq_pI_spec h0
    clear h0
    obtain ⟨y, as2, rfl, h2⟩ := mq_pI_spec h1
    clear h1
    obtain ⟨rfl, hp⟩ := mq_p0_spec h2
    clear h2
    exact fun _ h => absurd h List.not_mem_nil
def pq_has_limits : List mq_E := [(0, false, .iload 1), (1, false, .ifCond .lt (Int.ofNat 16)), (4, false, .iload 1), (5, false, .aload 0), (6, false, .invokeinterface 6 3), (9, false, .if_icmp .ge (Int.ofNat 16)), (12, false, .iconst 1), (13, false, .goto (Int.ofNat 17)), (16, false, .iconst 0), (17, false, .ireturn)]
def cq_has_limits : mq_C := ((yX6_has, cX6_has, 2, (some .boolean), { frames := 0, cells := 0, slots := 0, locals := 0 }), (2, 1, 0, 0), 0, (fun as ρ μ => match ρ with
  | (nw, sp, tl, tx, al) => mq_pR as 5 fun L as => mq_pI as fun x as => mq_p0 as (True)),
  (fun as ρ μ r ρ' μ' => match as, ρ, ρ' with
  | [.inr (.inr (some (_, L))), .inl x], (nw, sp, tl, tx, al), (nw', sp', tl', tx', al') => [(r = 1 ∧ 0 ≤ x ∧ x < 6) ∨ r = 0]
  | _, _, _ => []))
def kq_has_limits : List mq_V → mq_R → mq_M → List (Nat × mq_Jt) := fun as ρ μ => match as, ρ with
  | [.inr (.inr (some (_, L))), .inl x], (nw, sp, tl, tx, al) => []
  | _, _ => []
set_option maxHeartbeats 16000000 in
set_option maxRecDepth 100000 in
theorem vq_has_limits (lc : Launch)  : mq_Ct lc cq_has_limits := by
  refine mq_method (lc := lc) (P := pq_has_limits) (cl := []) (T := ([(9, 6, 3)], [], [], [])) (fuel := 400) (cuts := kq_has_limits) (by decide) rfl ⟨rfl, rfl⟩ (fun _ h => absurd h List.not_mem_nil) ⟨(List.forall_mem_cons.mpr ⟨⟨_, rfl, by decide, kw_1⟩, (fun _ h => absurd h List.not_mem_nil)⟩), (fun _ h => absurd h List.not_mem_nil), (fun _ h => absurd h List.not_mem_nil), (fun _ h => absurd h List.not_mem_nil)⟩ (by decide +kernel) ⟨_, _, rfl⟩ ?_ ?_ ?_ ?_
  · intro as ρ μ h
    obtain ⟨nw, sp, tl, tx, al⟩ := ρ
    obtain ⟨L, as0, rfl, h0⟩ := mq_pR_spec h
    clear h
    obtain ⟨x, as1, rfl, h1⟩ := mq_pI_spec h0
    clear h0
    obtain ⟨rfl, hp⟩ := mq_p0_spec h1
    clear h1
    rfl
  · intro as ρ μ h
    obtain ⟨nw, sp, tl, tx, al⟩ := ρ
    obtain ⟨L, as0, rfl, h0⟩ := mq_pR_spec h
    clear h
    obtain ⟨x, as1, rfl, h1⟩ := mq_pI_spec h0
    clear h0
    obtain ⟨rfl, hp⟩ := mq_p0_spec h1
    clear h1
    have e0 : mq_l0 ([.inr (.inr (some (5, L))), .inl x] : List mq_V) 2 = [some (.inr (.inr (some (5, L)))), some (.inl x)] := rfl
    rw [e0]
    repeat' (first | refine And.intro ?_ ?_ | intro _)
    all_goals first | omega | rfl | exact trivial
  · intro as ρ μ h
    obtain ⟨nw, sp, tl, tx, al⟩ := ρ
    obtain ⟨L, as0, rfl, h0⟩ := mq_pR_spec h
    clear h
    obtain ⟨x, as1, rfl, h1⟩ := mq_pI_spec h0
    clear h0
    obtain ⟨rfl, hp⟩ := mq_p0_spec h1
    clear h1
    exact fun _ h => absurd h List.not_mem_nil
  · intro as ρ μ h
    obtain ⟨nw, sp, tl, tx, al⟩ := ρ
    obtain ⟨L, as0, rfl, h0⟩ := mq_pR_spec h
    clear h
    obtain ⟨x, as1, rfl, h1⟩ := mq_pI_spec h0
    clear h0
    obtain ⟨rfl, hp⟩ := mq_p0_spec h1
    clear h1
    exact fun _ h => absurd h List.not_mem_nil
def pq_get_limits : List mq_E := [(0, false, .iload 1), (1, false, .ifCond .lt (Int.ofNat 24)), (4, false, .iload 1), (5, false, .aload 0), (6, false, .invokeinterface 6 0), (9, false, .if_icmp .ge (Int.ofNat 24)), (12, false, .iload 2), (13, false, .ifCond .lt (Int.ofNat 24)), (16, false, .iload 2), (17, false, .aload 0), (18, false, .invokeinterface 6 1), (21, false, .if_icmp .lt (Int.ofNat 26)), (24, false, .iconst 0), (25, false, .ireturn), (26, false, .aload 0), (27, false, .invokeinterface 6 2), (30, false, .iload 1), (31, false, .aload 0), (32, false, .invokeinterface 6 1), (35, false, .imul), (36, false, .iload 2), (37, false, .iadd), (38, false, .iaload), (39, false, .ireturn)]
def cq_get_limits : mq_C := ((yX6_get, cX6_get, 3, (some .int), { frames := 0, cells := 0, slots := 0, locals := 0 }), (3, 1, 0, 0), 0, (fun as ρ μ => match ρ with
  | (nw, sp, tl, tx, al) => mq_pR as 5 fun L as => mq_pI as fun x as => mq_pI as fun y as => mq_p0 as (True)),
  (fun as ρ μ r ρ' μ' => match as, ρ, ρ' with
  | [.inr (.inr (some (_, L))), .inl x, .inl y], (nw, sp, tl, tx, al), (nw', sp', tl', tx', al') => [0 ≤ r, r ≤ 400]
  | _, _, _ => []))
def kq_get_limits : List mq_V → mq_R → mq_M → List (Nat × mq_Jt) := fun as ρ μ => match as, ρ with
  | [.inr (.inr (some (_, L))), .inl x, .inl y], (nw, sp, tl, tx, al) => []
  | _, _ => []
set_option maxHeartbeats 16000000 in
set_option maxRecDepth 100000 in
theorem vq_get_limits (lc : Launch)  : mq_Ct lc cq_get_limits := by
  refine mq_method (lc := lc) (P := pq_get_limits) (cl := []) (T := ([(15, 6, 0), (18, 6, 1), (21, 6, 2)], [], [], [])) (fuel := 400) (cuts := kq_get_limits) (by decide) rfl ⟨rfl, rfl⟩ (fun _ h => absurd h List.not_mem_nil) ⟨(List.forall_mem_cons.mpr ⟨⟨_, rfl, by decide, kw_2⟩, (List.forall_mem_cons.mpr ⟨⟨_, rfl, by decide, kw_3⟩, (List.forall_mem_cons.mpr ⟨⟨_, rfl, by decide, kw_4⟩, (fun _ h => absurd h List.not_mem_nil)⟩)⟩)⟩), (fun _ h => absurd h List.not_mem_nil), (fun _ h => absurd h List.not_mem_nil), (fun _ h => absurd h List.not_mem_nil)⟩ (by decide +kernel) ⟨_, _, rfl⟩ ?_ ?_ ?_ ?_
  · intro as ρ μ h
    obtain ⟨nw, sp, tl, tx, al⟩ := ρ
    obtain ⟨L, as0, rfl, h0⟩ := mq_pR_spec h
    clear h
    obtain ⟨x, as1, rfl, h1⟩ := mq_pI_spec h0
    clear h0
    obtain ⟨y, as2, rfl, h2⟩ := mq_pI_spec h1
    clear h1
    obtain ⟨rfl, hp⟩ := mq_p0_spec h2
    clear h2
    rfl
  · intro as ρ μ h
    obtain ⟨nw, sp, tl, tx, al⟩ := ρ
    obtain ⟨L, as0, rfl, h0⟩ := mq_pR_spec h
    clear h
    obtain ⟨x, as1, rfl, h1⟩ := mq_pI_spec h0
    clear h0
    obtain ⟨y, as2, rfl, h2⟩ := mq_pI_spec h1
    clear h1
    obtain ⟨rfl, hp⟩ := mq_p0_spec h2
    clear h2
    have e0 : mq_l0 ([.inr (.inr (some (5, L))), .inl x, .inl y] : List mq_V) 3 = [some (.inr (.inr (some (5, L)))), some (.inl x), some (.inl y)] := rfl
    rw [e0]
    repeat' (first | refine And.intro ?_ ?_ | intro _)
    all_goals first | omega | rfl | exact trivial
  · intro as ρ μ h
    obtain ⟨nw, sp, tl, tx, al⟩ := ρ
    obtain ⟨L, as0, rfl, h0⟩ := mq_pR_spec h
    clear h
    obtain ⟨x, as1, rfl, h1⟩ := mq_pI_spec h0
    clear h0
    obtain ⟨y, as2, rfl, h2⟩ := mq_pI_spec h1
    clear h1
    obtain ⟨rfl, hp⟩ := mq_p0_spec h2
    clear h2
    exact fun _ h => absurd h List.not_mem_nil
  · intro as ρ μ h
    obtain ⟨nw, sp, tl, tx, al⟩ := ρ
    obtain ⟨L, as0, rfl, h0⟩ := mq_pR_spec h
    clear h
    obtain ⟨x, as1, rfl, h1⟩ := mq_pI_spec h0
    clear h0
    obtain ⟨y, as2, rfl, h2⟩ := mq_pI_spec h1
    clear h1
    obtain ⟨rfl, hp⟩ := mq_p0_spec h2
    clear h2
    exact fun _ h => absurd h List.not_mem_nil
def pq_has_platforms : List mq_E := [(0, false, .iload 1), (1, false, .ifCond .lt (Int.ofNat 16)), (4, false, .iload 1), (5, false, .aload 0), (6, false, .invokeinterface 6 3), (9, false, .if_icmp .ge (Int.ofNat 16)), (12, false, .iconst 1), (13, false, .goto (Int.ofNat 17)), (16, false, .iconst 0), (17, false, .ireturn)]
def cq_has_platforms : mq_C := ((yX6_has, cX6_has, 2, (some .boolean), { frames := 0, cells := 0, slots := 0, locals := 0 }), (2, 1, 0, 0), 0, (fun as ρ μ => match ρ with
  | (nw, sp, tl, tx, al) => mq_pR as 6 fun L as => mq_pI as fun x as => mq_p0 as (True)),
  (fun as ρ μ r ρ' μ' => match as, ρ, ρ' with
  | [.inr (.inr (some (_, L))), .inl x], (nw, sp, tl, tx, al), (nw', sp', tl', tx', al') => [(r = 1 ∧ 0 ≤ x ∧ x < 6) ∨ r = 0]
  | _, _, _ => []))
def kq_has_platforms : List mq_V → mq_R → mq_M → List (Nat × mq_Jt) := fun as ρ μ => match as, ρ with
  | [.inr (.inr (some (_, L))), .inl x], (nw, sp, tl, tx, al) => []
  | _, _ => []
set_option maxHeartbeats 16000000 in
set_option maxRecDepth 100000 in
theorem vq_has_platforms (lc : Launch)  : mq_Ct lc cq_has_platforms := by
  refine mq_method (lc := lc) (P := pq_has_platforms) (cl := []) (T := ([(9, 6, 3)], [], [], [])) (fuel := 400) (cuts := kq_has_platforms) (by decide) rfl ⟨rfl, rfl⟩ (fun _ h => absurd h List.not_mem_nil) ⟨(List.forall_mem_cons.mpr ⟨⟨_, rfl, by decide, kw_1⟩, (fun _ h => absurd h List.not_mem_nil)⟩), (fun _ h => absurd h List.not_mem_nil), (fun _ h => absurd h List.not_mem_nil), (fun _ h => absurd h List.not_mem_nil)⟩ (by decide +kernel) ⟨_, _, rfl⟩ ?_ ?_ ?_ ?_
  · intro as ρ μ h
    obtain ⟨nw, sp, tl, tx, al⟩ := ρ
    obtain ⟨L, as0, rfl, h0⟩ := mq_pR_spec h
    clear h
    obtain ⟨x, as1, rfl, h1⟩ := mq_pI_spec h0
    clear h0
    obtain ⟨rfl, hp⟩ := mq_p0_spec h1
    clear h1
    rfl
  · intro as ρ μ h
    obtain ⟨nw, sp, tl, tx, al⟩ := ρ
    obtain ⟨L, as0, rfl, h0⟩ := mq_pR_spec h
    clear h
    obtain ⟨x, as1, rfl, h1⟩ := mq_pI_spec h0
    clear h0
    obtain ⟨rfl, hp⟩ := mq_p0_spec h1
    clear h1
    have e0 : mq_l0 ([.inr (.inr (some (6, L))), .inl x] : List mq_V) 2 = [some (.inr (.inr (some (6, L)))), some (.inl x)] := rfl
    rw [e0]
    repeat' (first | refine And.intro ?_ ?_ | intro _)
    all_goals first | omega | rfl | exact trivial
  · intro as ρ μ h
    obtain ⟨nw, sp, tl, tx, al⟩ := ρ
    obtain ⟨L, as0, rfl, h0⟩ := mq_pR_spec h
    clear h
    obtain ⟨x, as1, rfl, h1⟩ := mq_pI_spec h0
    clear h0
    obtain ⟨rfl, hp⟩ := mq_p0_spec h1
    clear h1
    exact fun _ h => absurd h List.not_mem_nil
  · intro as ρ μ h
    obtain ⟨nw, sp, tl, tx, al⟩ := ρ
    obtain ⟨L, as0, rfl, h0⟩ := mq_pR_spec h
    clear h
    obtain ⟨x, as1, rfl, h1⟩ := mq_pI_spec h0
    clear h0
    obtain ⟨rfl, hp⟩ := mq_p0_spec h1
    clear h1
    exact fun _ h => absurd h List.not_mem_nil
def pq_get_platforms : List mq_E := [(0, false, .iload 1), (1, false, .ifCond .lt (Int.ofNat 24)), (4, false, .iload 1), (5, false, .aload 0), (6, false, .invokeinterface 6 0), (9, false, .if_icmp .ge (Int.ofNat 24)), (12, false, .iload 2), (13, false, .ifCond .lt (Int.ofNat 24)), (16, false, .iload 2), (17, false, .aload 0), (18, false, .invokeinterface 6 1), (21, false, .if_icmp .lt (Int.ofNat 26)), (24, false, .iconst 0), (25, false, .ireturn), (26, false, .aload 0), (27, false, .invokeinterface 6 2), (30, false, .iload 1), (31, false, .aload 0), (32, false, .invokeinterface 6 1), (35, false, .imul), (36, false, .iload 2), (37, false, .iadd), (38, false, .iaload), (39, false, .ireturn)]
def cq_get_platforms : mq_C := ((yX6_get, cX6_get, 3, (some .int), { frames := 0, cells := 0, slots := 0, locals := 0 }), (3, 1, 0, 0), 0, (fun as ρ μ => match ρ with
  | (nw, sp, tl, tx, al) => mq_pR as 6 fun L as => mq_pI as fun x as => mq_pI as fun y as => mq_p0 as (True)),
  (fun as ρ μ r ρ' μ' => match as, ρ, ρ' with
  | [.inr (.inr (some (_, L))), .inl x, .inl y], (nw, sp, tl, tx, al), (nw', sp', tl', tx', al') => [0 ≤ r, r ≤ 400]
  | _, _, _ => []))
def kq_get_platforms : List mq_V → mq_R → mq_M → List (Nat × mq_Jt) := fun as ρ μ => match as, ρ with
  | [.inr (.inr (some (_, L))), .inl x, .inl y], (nw, sp, tl, tx, al) => []
  | _, _ => []
set_option maxHeartbeats 16000000 in
set_option maxRecDepth 100000 in
theorem vq_get_platforms (lc : Launch)  : mq_Ct lc cq_get_platforms := by
  refine mq_method (lc := lc) (P := pq_get_platforms) (cl := []) (T := ([(15, 6, 0), (18, 6, 1), (21, 6, 2)], [], [], [])) (fuel := 400) (cuts := kq_get_platforms) (by decide) rfl ⟨rfl, rfl⟩ (fun _ h => absurd h List.not_mem_nil) ⟨(List.forall_mem_cons.mpr ⟨⟨_, rfl, by decide, kw_2⟩, (List.forall_mem_cons.mpr ⟨⟨_, rfl, by decide, kw_3⟩, (List.forall_mem_cons.mpr ⟨⟨_, rfl, by decide, kw_4⟩, (fun _ h => absurd h List.not_mem_nil)⟩)⟩)⟩), (fun _ h => absurd h List.not_mem_nil), (fun _ h => absurd h List.not_mem_nil), (fun _ h => absurd h List.not_mem_nil)⟩ (by decide +kernel) ⟨_, _, rfl⟩ ?_ ?_ ?_ ?_
  · intro as ρ μ h
    obtain ⟨nw, sp, tl, tx, al⟩ := ρ
    obtain ⟨L, as0, rfl, h0⟩ := mq_pR_spec h
    clear h
    obtain ⟨x, as1, rfl, h1⟩ := mq_pI_spec h0
    clear h0
    obtain ⟨y, as2, rfl, h2⟩ := mq_pI_spec h1
    clear h1
    obtain ⟨rfl, hp⟩ := mq_p0_spec h2
    clear h2
    rfl
  · intro as ρ μ h
    obtain ⟨nw, sp, tl, tx, al⟩ := ρ
    obtain ⟨L, as0, rfl, h0⟩ := mq_pR_spec h
    clear h
    obtain ⟨x, as1, rfl, h1⟩ := mq_pI_spec h0
    clear h0
    obtain ⟨y, as2, rfl, h2⟩ := mq_pI_spec h1
    clear h1
    obtain ⟨rfl, hp⟩ := mq_p0_spec h2
    clear h2
    have e0 : mq_l0 ([.inr (.inr (some (6, L))), .inl x, .inl y] : List mq_V) 3 = [some (.inr (.inr (some (6, L)))), some (.inl x), some (.inl y)] := rfl
    rw [e0]
    repeat' (first | refine And.intro ?_ ?_ | intro _)
    all_goals first | omega | rfl | exact trivial
  · intro as ρ μ h
    obtain ⟨nw, sp, tl, tx, al⟩ := ρ
    obtain ⟨L, as0, rfl, h0⟩ := mq_pR_spec h
    clear h
    obtain ⟨x, as1, rfl, h1⟩ := mq_pI_spec h0
    clear h0
    obtain ⟨y, as2, rfl, h2⟩ := mq_pI_spec h1
    clear h1
    obtain ⟨rfl, hp⟩ := mq_p0_spec h2
    clear h2
    exact fun _ h => absurd h List.not_mem_nil
  · intro as ρ μ h
    obtain ⟨nw, sp, tl, tx, al⟩ := ρ
    obtain ⟨L, as0, rfl, h0⟩ := mq_pR_spec h
    clear h
    obtain ⟨x, as1, rfl, h1⟩ := mq_pI_spec h0
    clear h0
    obtain ⟨y, as2, rfl, h2⟩ := mq_pI_spec h1
    clear h1
    obtain ⟨rfl, hp⟩ := mq_p0_spec h2
    clear h2
    exact fun _ h => absurd h List.not_mem_nil
def pq_has_kinds : List mq_E := [(0, false, .iload 1), (1, false, .ifCond .lt (Int.ofNat 16)), (4, false, .iload 1), (5, false, .aload 0), (6, false, .invokeinterface 6 3), (9, false, .if_icmp .ge (Int.ofNat 16)), (12, false, .iconst 1), (13, false, .goto (Int.ofNat 17)), (16, false, .iconst 0), (17, false, .ireturn)]
def cq_has_kinds : mq_C := ((yX6_has, cX6_has, 2, (some .boolean), { frames := 0, cells := 0, slots := 0, locals := 0 }), (2, 1, 0, 0), 0, (fun as ρ μ => match ρ with
  | (nw, sp, tl, tx, al) => mq_pR as 7 fun L as => mq_pI as fun x as => mq_p0 as (True)),
  (fun as ρ μ r ρ' μ' => match as, ρ, ρ' with
  | [.inr (.inr (some (_, L))), .inl x], (nw, sp, tl, tx, al), (nw', sp', tl', tx', al') => [(r = 1 ∧ 0 ≤ x ∧ x < 4) ∨ r = 0]
  | _, _, _ => []))
def kq_has_kinds : List mq_V → mq_R → mq_M → List (Nat × mq_Jt) := fun as ρ μ => match as, ρ with
  | [.inr (.inr (some (_, L))), .inl x], (nw, sp, tl, tx, al) => []
  | _, _ => []
set_option maxHeartbeats 16000000 in
set_option maxRecDepth 100000 in
theorem vq_has_kinds (lc : Launch)  : mq_Ct lc cq_has_kinds := by
  refine mq_method (lc := lc) (P := pq_has_kinds) (cl := []) (T := ([(9, 6, 3)], [], [], [])) (fuel := 400) (cuts := kq_has_kinds) (by decide) rfl ⟨rfl, rfl⟩ (fun _ h => absurd h List.not_mem_nil) ⟨(List.forall_mem_cons.mpr ⟨⟨_, rfl, by decide, kw_1⟩, (fun _ h => absurd h List.not_mem_nil)⟩), (fun _ h => absurd h List.not_mem_nil), (fun _ h => absurd h List.not_mem_nil), (fun _ h => absurd h List.not_mem_nil)⟩ (by decide +kernel) ⟨_, _, rfl⟩ ?_ ?_ ?_ ?_
  · intro as ρ μ h
    obtain ⟨nw, sp, tl, tx, al⟩ := ρ
    obtain ⟨L, as0, rfl, h0⟩ := mq_pR_spec h
    clear h
    obtain ⟨x, as1, rfl, h1⟩ := mq_pI_spec h0
    clear h0
    obtain ⟨rfl, hp⟩ := mq_p0_spec h1
    clear h1
    rfl
  · intro as ρ μ h
    obtain ⟨nw, sp, tl, tx, al⟩ := ρ
    obtain ⟨L, as0, rfl, h0⟩ := mq_pR_spec h
    clear h
    obtain ⟨x, as1, rfl, h1⟩ := mq_pI_spec h0
    clear h0
    obtain ⟨rfl, hp⟩ := mq_p0_spec h1
    clear h1
    have e0 : mq_l0 ([.inr (.inr (some (7, L))), .inl x] : List mq_V) 2 = [some (.inr (.inr (some (7, L)))), some (.inl x)] := rfl
    rw [e0]
    repeat' (first | refine And.intro ?_ ?_ | intro _)
    all_goals first | omega | rfl | exact trivial
  · intro as ρ μ h
    obtain ⟨nw, sp, tl, tx, al⟩ := ρ
    obtain ⟨L, as0, rfl, h0⟩ := mq_pR_spec h
    clear h
    obtain ⟨x, as1, rfl, h1⟩ := mq_pI_spec h0
    clear h0
    obtain ⟨rfl, hp⟩ := mq_p0_spec h1
    clear h1
    exact fun _ h => absurd h List.not_mem_nil
  · intro as ρ μ h
    obtain ⟨nw, sp, tl, tx, al⟩ := ρ
    obtain ⟨L, as0, rfl, h0⟩ := mq_pR_spec h
    clear h
    obtain ⟨x, as1, rfl, h1⟩ := mq_pI_spec h0
    clear h0
    obtain ⟨rfl, hp⟩ := mq_p0_spec h1
    clear h1
    exact fun _ h => absurd h List.not_mem_nil
def pq_get_kinds : List mq_E := [(0, false, .iload 1), (1, false, .ifCond .lt (Int.ofNat 24)), (4, false, .iload 1), (5, false, .aload 0), (6, false, .invokeinterface 6 0), (9, false, .if_icmp .ge (Int.ofNat 24)), (12, false, .iload 2), (13, false, .ifCond .lt (Int.ofNat 24)), (16, false, .iload 2), (17, false, .aload 0), (18, false, .invokeinterface 6 1), (21, false, .if_icmp .lt (Int.ofNat 26)), (24, false, .iconst 0), (25, false, .ireturn), (26, false, .aload 0), (27, false, .invokeinterface 6 2), (30, false, .iload 1), (31, false, .aload 0), (32, false, .invokeinterface 6 1), (35, false, .imul), (36, false, .iload 2), (37, false, .iadd), (38, false, .iaload), (39, false, .ireturn)]
def cq_get_kinds : mq_C := ((yX6_get, cX6_get, 3, (some .int), { frames := 0, cells := 0, slots := 0, locals := 0 }), (3, 1, 0, 0), 0, (fun as ρ μ => match ρ with
  | (nw, sp, tl, tx, al) => mq_pR as 7 fun L as => mq_pI as fun x as => mq_pI as fun y as => mq_p0 as (True)),
  (fun as ρ μ r ρ' μ' => match as, ρ, ρ' with
  | [.inr (.inr (some (_, L))), .inl x, .inl y], (nw, sp, tl, tx, al), (nw', sp', tl', tx', al') => [0 ≤ r, r ≤ 400]
  | _, _, _ => []))
def kq_get_kinds : List mq_V → mq_R → mq_M → List (Nat × mq_Jt) := fun as ρ μ => match as, ρ with
  | [.inr (.inr (some (_, L))), .inl x, .inl y], (nw, sp, tl, tx, al) => []
  | _, _ => []
set_option maxHeartbeats 16000000 in
set_option maxRecDepth 100000 in
theorem vq_get_kinds (lc : Launch)  : mq_Ct lc cq_get_kinds := by
  refine mq_method (lc := lc) (P := pq_get_kinds) (cl := []) (T := ([(15, 6, 0), (18, 6, 1), (21, 6, 2)], [], [], [])) (fuel := 400) (cuts := kq_get_kinds) (by decide) rfl ⟨rfl, rfl⟩ (fun _ h => absurd h List.not_mem_nil) ⟨(List.forall_mem_cons.mpr ⟨⟨_, rfl, by decide, kw_2⟩, (List.forall_mem_cons.mpr ⟨⟨_, rfl, by decide, kw_3⟩, (List.forall_mem_cons.mpr ⟨⟨_, rfl, by decide, kw_4⟩, (fun _ h => absurd h List.not_mem_nil)⟩)⟩)⟩), (fun _ h => absurd h List.not_mem_nil), (fun _ h => absurd h List.not_mem_nil), (fun _ h => absurd h List.not_mem_nil)⟩ (by decide +kernel) ⟨_, _, rfl⟩ ?_ ?_ ?_ ?_
  · intro as ρ μ h
    obtain ⟨nw, sp, tl, tx, al⟩ := ρ
    obtain ⟨L, as0, rfl, h0⟩ := mq_pR_spec h
    clear h
    obtain ⟨x, as1, rfl, h1⟩ := mq_pI_spec h0
    clear h0
    obtain ⟨y, as2, rfl, h2⟩ := mq_pI_spec h1
    clear h1
    obtain ⟨rfl, hp⟩ := mq_p0_spec h2
    clear h2
    rfl
  · intro as ρ μ h
    obtain ⟨nw, sp, tl, tx, al⟩ := ρ
    obtain ⟨L, as0, rfl, h0⟩ := mq_pR_spec h
    clear h
    obtain ⟨x, as1, rfl, h1⟩ := mq_pI_spec h0
    clear h0
    obtain ⟨y, as2, rfl, h2⟩ := mq_pI_spec h1
    clear h1
    obtain ⟨rfl, hp⟩ := mq_p0_spec h2
    clear h2
    have e0 : mq_l0 ([.inr (.inr (some (7, L))), .inl x, .inl y] : List mq_V) 3 = [some (.inr (.inr (some (7, L)))), some (.inl x), some (.inl y)] := rfl
    rw [e0]
    repeat' (first | refine And.intro ?_ ?_ | intro _)
    all_goals first | omega | rfl | exact trivial
  · intro as ρ μ h
    obtain ⟨nw, sp, tl, tx, al⟩ := ρ
    obtain ⟨L, as0, rfl, h0⟩ := mq_pR_spec h
    clear h
    obtain ⟨x, as1, rfl, h1⟩ := mq_pI_spec h0
    clear h0
    obtain ⟨y, as2, rfl, h2⟩ := mq_pI_spec h1
    clear h1
    obtain ⟨rfl, hp⟩ := mq_p0_spec h2
    clear h2
    exact fun _ h => absurd h List.not_mem_nil
  · intro as ρ μ h
    obtain ⟨nw, sp, tl, tx, al⟩ := ρ
    obtain ⟨L, as0, rfl, h0⟩ := mq_pR_spec h
    clear h
    obtain ⟨x, as1, rfl, h1⟩ := mq_pI_spec h0
    clear h0
    obtain ⟨y, as2, rfl, h2⟩ := mq_pI_spec h1
    clear h1
    obtain ⟨rfl, hp⟩ := mq_p0_spec h2
    clear h2
    exact fun _ h => absurd h List.not_mem_nil
def pq_has_trains : List mq_E := [(0, false, .iload 1), (1, false, .ifCond .lt (Int.ofNat 16)), (4, false, .iload 1), (5, false, .aload 0), (6, false, .invokeinterface 6 3), (9, false, .if_icmp .ge (Int.ofNat 16)), (12, false, .iconst 1), (13, false, .goto (Int.ofNat 17)), (16, false, .iconst 0), (17, false, .ireturn)]
def cq_has_trains : mq_C := ((yX6_has, cX6_has, 2, (some .boolean), { frames := 0, cells := 0, slots := 0, locals := 0 }), (2, 1, 0, 0), 0, (fun as ρ μ => match ρ with
  | (nw, sp, tl, tx, al) => mq_pR as 8 fun L as => mq_pI as fun x as => mq_p0 as (True)),
  (fun as ρ μ r ρ' μ' => match as, ρ, ρ' with
  | [.inr (.inr (some (_, L))), .inl x], (nw, sp, tl, tx, al), (nw', sp', tl', tx', al') => [(r = 1 ∧ 0 ≤ x ∧ x < 5) ∨ r = 0]
  | _, _, _ => []))
def kq_has_trains : List mq_V → mq_R → mq_M → List (Nat × mq_Jt) := fun as ρ μ => match as, ρ with
  | [.inr (.inr (some (_, L))), .inl x], (nw, sp, tl, tx, al) => []
  | _, _ => []
set_option maxHeartbeats 16000000 in
set_option maxRecDepth 100000 in
theorem vq_has_trains (lc : Launch)  : mq_Ct lc cq_has_trains := by
  refine mq_method (lc := lc) (P := pq_has_trains) (cl := []) (T := ([(9, 6, 3)], [], [], [])) (fuel := 400) (cuts := kq_has_trains) (by decide) rfl ⟨rfl, rfl⟩ (fun _ h => absurd h List.not_mem_nil) ⟨(List.forall_mem_cons.mpr ⟨⟨_, rfl, by decide, kw_1⟩, (fun _ h => absurd h List.not_mem_nil)⟩), (fun _ h => absurd h List.not_mem_nil), (fun _ h => absurd h List.not_mem_nil), (fun _ h => absurd h List.not_mem_nil)⟩ (by decide +kernel) ⟨_, _, rfl⟩ ?_ ?_ ?_ ?_
  · intro as ρ μ h
    obtain ⟨nw, sp, tl, tx, al⟩ := ρ
    obtain ⟨L, as0, rfl, h0⟩ := mq_pR_spec h
    clear h
    obtain ⟨x, as1, rfl, h1⟩ := mq_pI_spec h0
    clear h0
    obtain ⟨rfl, hp⟩ := mq_p0_spec h1
    clear h1
    rfl
  · intro as ρ μ h
    obtain ⟨nw, sp, tl, tx, al⟩ := ρ
    obtain ⟨L, as0, rfl, h0⟩ := mq_pR_spec h
    clear h
    obtain ⟨x, as1, rfl, h1⟩ := mq_pI_spec h0
    clear h0
    obtain ⟨rfl, hp⟩ := mq_p0_spec h1
    clear h1
    have e0 : mq_l0 ([.inr (.inr (some (8, L))), .inl x] : List mq_V) 2 = [some (.inr (.inr (some (8, L)))), some (.inl x)] := rfl
    rw [e0]
    repeat' (first | refine And.intro ?_ ?_ | intro _)
    all_goals first | omega | rfl | exact trivial
  · intro as ρ μ h
    obtain ⟨nw, sp, tl, tx, al⟩ := ρ
    obtain ⟨L, as0, rfl, h0⟩ := mq_pR_spec h
    clear h
    obtain ⟨x, as1, rfl, h1⟩ := mq_pI_spec h0
    clear h0
    obtain ⟨rfl, hp⟩ := mq_p0_spec h1
    clear h1
    exact fun _ h => absurd h List.not_mem_nil
  · intro as ρ μ h
    obtain ⟨nw, sp, tl, tx, al⟩ := ρ
    obtain ⟨L, as0, rfl, h0⟩ := mq_pR_spec h
    clear h
    obtain ⟨x, as1, rfl, h1⟩ := mq_pI_spec h0
    clear h0
    obtain ⟨rfl, hp⟩ := mq_p0_spec h1
    clear h1
    exact fun _ h => absurd h List.not_mem_nil
def pq_get_trains : List mq_E := [(0, false, .iload 1), (1, false, .ifCond .lt (Int.ofNat 24)), (4, false, .iload 1), (5, false, .aload 0), (6, false, .invokeinterface 6 0), (9, false, .if_icmp .ge (Int.ofNat 24)), (12, false, .iload 2), (13, false, .ifCond .lt (Int.ofNat 24)), (16, false, .iload 2), (17, false, .aload 0), (18, false, .invokeinterface 6 1), (21, false, .if_icmp .lt (Int.ofNat 26)), (24, false, .iconst 0), (25, false, .ireturn), (26, false, .aload 0), (27, false, .invokeinterface 6 2), (30, false, .iload 1), (31, false, .aload 0), (32, false, .invokeinterface 6 1), (35, false, .imul), (36, false, .iload 2), (37, false, .iadd), (38, false, .iaload), (39, false, .ireturn)]
def cq_get_trains : mq_C := ((yX6_get, cX6_get, 3, (some .int), { frames := 0, cells := 0, slots := 0, locals := 0 }), (3, 1, 0, 0), 0, (fun as ρ μ => match ρ with
  | (nw, sp, tl, tx, al) => mq_pR as 8 fun L as => mq_pI as fun x as => mq_pI as fun y as => mq_p0 as (True)),
  (fun as ρ μ r ρ' μ' => match as, ρ, ρ' with
  | [.inr (.inr (some (_, L))), .inl x, .inl y], (nw, sp, tl, tx, al), (nw', sp', tl', tx', al') => [0 ≤ r, r ≤ 400]
  | _, _, _ => []))
def kq_get_trains : List mq_V → mq_R → mq_M → List (Nat × mq_Jt) := fun as ρ μ => match as, ρ with
  | [.inr (.inr (some (_, L))), .inl x, .inl y], (nw, sp, tl, tx, al) => []
  | _, _ => []
set_option maxHeartbeats 16000000 in
set_option maxRecDepth 100000 in
theorem vq_get_trains (lc : Launch)  : mq_Ct lc cq_get_trains := by
  refine mq_method (lc := lc) (P := pq_get_trains) (cl := []) (T := ([(15, 6, 0), (18, 6, 1), (21, 6, 2)], [], [], [])) (fuel := 400) (cuts := kq_get_trains) (by decide) rfl ⟨rfl, rfl⟩ (fun _ h => absurd h List.not_mem_nil) ⟨(List.forall_mem_cons.mpr ⟨⟨_, rfl, by decide, kw_2⟩, (List.forall_mem_cons.mpr ⟨⟨_, rfl, by decide, kw_3⟩, (List.forall_mem_cons.mpr ⟨⟨_, rfl, by decide, kw_4⟩, (fun _ h => absurd h List.not_mem_nil)⟩)⟩)⟩), (fun _ h => absurd h List.not_mem_nil), (fun _ h => absurd h List.not_mem_nil), (fun _ h => absurd h List.not_mem_nil)⟩ (by decide +kernel) ⟨_, _, rfl⟩ ?_ ?_ ?_ ?_
  · intro as ρ μ h
    obtain ⟨nw, sp, tl, tx, al⟩ := ρ
    obtain ⟨L, as0, rfl, h0⟩ := mq_pR_spec h
    clear h
    obtain ⟨x, as1, rfl, h1⟩ := mq_pI_spec h0
    clear h0
    obtain ⟨y, as2, rfl, h2⟩ := mq_pI_spec h1
    clear h1
    obtain ⟨rfl, hp⟩ := mq_p0_spec h2
    clear h2
    rfl
  · intro as ρ μ h
    obtain ⟨nw, sp, tl, tx, al⟩ := ρ
    obtain ⟨L, as0, rfl, h0⟩ := mq_pR_spec h
    clear h
    obtain ⟨x, as1, rfl, h1⟩ := mq_pI_spec h0
    clear h0
    obtain ⟨y, as2, rfl, h2⟩ := mq_pI_spec h1
    clear h1
    obtain ⟨rfl, hp⟩ := mq_p0_spec h2
    clear h2
    have e0 : mq_l0 ([.inr (.inr (some (8, L))), .inl x, .inl y] : List mq_V) 3 = [some (.inr (.inr (some (8, L)))), some (.inl x), some (.inl y)] := rfl
    rw [e0]
    repeat' (first | refine And.intro ?_ ?_ | intro _)
    all_goals first | omega | rfl | exact trivial
  · intro as ρ μ h
    obtain ⟨nw, sp, tl, tx, al⟩ := ρ
    obtain ⟨L, as0, rfl, h0⟩ := mq_pR_spec h
    clear h
    obtain ⟨x, as1, rfl, h1⟩ := mq_pI_spec h0
    clear h0
    obtain ⟨y, as2, rfl, h2⟩ := mq_pI_spec h1
    clear h1
    obtain ⟨rfl, hp⟩ := mq_p0_spec h2
    clear h2
    exact fun _ h => absurd h List.not_mem_nil
  · intro as ρ μ h
    obtain ⟨nw, sp, tl, tx, al⟩ := ρ
    obtain ⟨L, as0, rfl, h0⟩ := mq_pR_spec h
    clear h
    obtain ⟨x, as1, rfl, h1⟩ := mq_pI_spec h0
    clear h0
    obtain ⟨y, as2, rfl, h2⟩ := mq_pI_spec h1
    clear h1
    obtain ⟨rfl, hp⟩ := mq_p0_spec h2
    clear h2
    exact fun _ h => absurd h List.not_mem_nil
def pq_has_coaches : List mq_E := [(0, false, .iload 1), (1, false, .ifCond .lt (Int.ofNat 16)), (4, false, .iload 1), (5, false, .aload 0), (6, false, .invokeinterface 6 3), (9, false, .if_icmp .ge (Int.ofNat 16)), (12, false, .iconst 1), (13, false, .goto (Int.ofNat 17)), (16, false, .iconst 0), (17, false, .ireturn)]
def cq_has_coaches : mq_C := ((yX6_has, cX6_has, 2, (some .boolean), { frames := 0, cells := 0, slots := 0, locals := 0 }), (2, 1, 0, 0), 0, (fun as ρ μ => match ρ with
  | (nw, sp, tl, tx, al) => mq_pR as 9 fun L as => mq_pI as fun x as => mq_p0 as (True)),
  (fun as ρ μ r ρ' μ' => match as, ρ, ρ' with
  | [.inr (.inr (some (_, L))), .inl x], (nw, sp, tl, tx, al), (nw', sp', tl', tx', al') => [(r = 1 ∧ 0 ≤ x ∧ x < 16) ∨ r = 0]
  | _, _, _ => []))
def kq_has_coaches : List mq_V → mq_R → mq_M → List (Nat × mq_Jt) := fun as ρ μ => match as, ρ with
  | [.inr (.inr (some (_, L))), .inl x], (nw, sp, tl, tx, al) => []
  | _, _ => []
set_option maxHeartbeats 16000000 in
set_option maxRecDepth 100000 in
theorem vq_has_coaches (lc : Launch)  : mq_Ct lc cq_has_coaches := by
  refine mq_method (lc := lc) (P := pq_has_coaches) (cl := []) (T := ([(9, 6, 3)], [], [], [])) (fuel := 400) (cuts := kq_has_coaches) (by decide) rfl ⟨rfl, rfl⟩ (fun _ h => absurd h List.not_mem_nil) ⟨(List.forall_mem_cons.mpr ⟨⟨_, rfl, by decide, kw_1⟩, (fun _ h => absurd h List.not_mem_nil)⟩), (fun _ h => absurd h List.not_mem_nil), (fun _ h => absurd h List.not_mem_nil), (fun _ h => absurd h List.not_mem_nil)⟩ (by decide +kernel) ⟨_, _, rfl⟩ ?_ ?_ ?_ ?_
  · intro as ρ μ h
    obtain ⟨nw, sp, tl, tx, al⟩ := ρ
    obtain ⟨L, as0, rfl, h0⟩ := mq_pR_spec h
    clear h
    obtain ⟨x, as1, rfl, h1⟩ := mq_pI_spec h0
    clear h0
    obtain ⟨rfl, hp⟩ := mq_p0_spec h1
    clear h1
    rfl
  · intro as ρ μ h
    obtain ⟨nw, sp, tl, tx, al⟩ := ρ
    obtain ⟨L, as0, rfl, h0⟩ := mq_pR_spec h
    clear h
    obtain ⟨x, as1, rfl, h1⟩ := mq_pI_spec h0
    clear h0
    obtain ⟨rfl, hp⟩ := mq_p0_spec h1
    clear h1
    have e0 : mq_l0 ([.inr (.inr (some (9, L))), .inl x] : List mq_V) 2 = [some (.inr (.inr (some (9, L)))), some (.inl x)] := rfl
    rw [e0]
    repeat' (first | refine And.intro ?_ ?_ | intro _)
    all_goals first | omega | rfl | exact trivial
  · intro as ρ μ h
    obtain ⟨nw, sp, tl, tx, al⟩ := ρ
    obtain ⟨L, as0, rfl, h0⟩ := mq_pR_spec h
    clear h
    obtain ⟨x, as1, rfl, h1⟩ := mq_pI_spec h0
    clear h0
    obtain ⟨rfl, hp⟩ := mq_p0_spec h1
    clear h1
    exact fun _ h => absurd h List.not_mem_nil
  · intro as ρ μ h
    obtain ⟨nw, sp, tl, tx, al⟩ := ρ
    obtain ⟨L, as0, rfl, h0⟩ := mq_pR_spec h
    clear h
    obtain ⟨x, as1, rfl, h1⟩ := mq_pI_spec h0
    clear h0
    obtain ⟨rfl, hp⟩ := mq_p0_spec h1
    clear h1
    exact fun _ h => absurd h List.not_mem_nil
def pq_get_coaches : List mq_E := [(0, false, .iload 1), (1, false, .ifCond .lt (Int.ofNat 24)), (4, false, .iload 1), (5, false, .aload 0), (6, false, .invokeinterface 6 0), (9, false, .if_icmp .ge (Int.ofNat 24)), (12, false, .iload 2), (13, false, .ifCond .lt (Int.ofNat 24)), (16, false, .iload 2), (17, false, .aload 0), (18, false, .invokeinterface 6 1), (21, false, .if_icmp .lt (Int.ofNat 26)), (24, false, .iconst 0), (25, false, .ireturn), (26, false, .aload 0), (27, false, .invokeinterface 6 2), (30, false, .iload 1), (31, false, .aload 0), (32, false, .invokeinterface 6 1), (35, false, .imul), (36, false, .iload 2), (37, false, .iadd), (38, false, .iaload), (39, false, .ireturn)]
def cq_get_coaches : mq_C := ((yX6_get, cX6_get, 3, (some .int), { frames := 0, cells := 0, slots := 0, locals := 0 }), (3, 1, 0, 0), 0, (fun as ρ μ => match ρ with
  | (nw, sp, tl, tx, al) => mq_pR as 9 fun L as => mq_pI as fun x as => mq_pI as fun y as => mq_p0 as (True)),
  (fun as ρ μ r ρ' μ' => match as, ρ, ρ' with
  | [.inr (.inr (some (_, L))), .inl x, .inl y], (nw, sp, tl, tx, al), (nw', sp', tl', tx', al') => [0 ≤ r, r ≤ 400, y = 0 → r ≤ 4]
  | _, _, _ => []))
def kq_get_coaches : List mq_V → mq_R → mq_M → List (Nat × mq_Jt) := fun as ρ μ => match as, ρ with
  | [.inr (.inr (some (_, L))), .inl x, .inl y], (nw, sp, tl, tx, al) => []
  | _, _ => []
set_option maxHeartbeats 16000000 in
set_option maxRecDepth 100000 in
theorem vq_get_coaches (lc : Launch)  : mq_Ct lc cq_get_coaches := by
  refine mq_method (lc := lc) (P := pq_get_coaches) (cl := []) (T := ([(15, 6, 0), (18, 6, 1), (21, 6, 2)], [], [], [])) (fuel := 400) (cuts := kq_get_coaches) (by decide) rfl ⟨rfl, rfl⟩ (fun _ h => absurd h List.not_mem_nil) ⟨(List.forall_mem_cons.mpr ⟨⟨_, rfl, by decide, kw_2⟩, (List.forall_mem_cons.mpr ⟨⟨_, rfl, by decide, kw_3⟩, (List.forall_mem_cons.mpr ⟨⟨_, rfl, by decide, kw_4⟩, (fun _ h => absurd h List.not_mem_nil)⟩)⟩)⟩), (fun _ h => absurd h List.not_mem_nil), (fun _ h => absurd h List.not_mem_nil), (fun _ h => absurd h List.not_mem_nil)⟩ (by decide +kernel) ⟨_, _, rfl⟩ ?_ ?_ ?_ ?_
  · intro as ρ μ h
    obtain ⟨nw, sp, tl, tx, al⟩ := ρ
    obtain ⟨L, as0, rfl, h0⟩ := mq_pR_spec h
    clear h
    obtain ⟨x, as1, rfl, h1⟩ := mq_pI_spec h0
    clear h0
    obtain ⟨y, as2, rfl, h2⟩ := mq_pI_spec h1
    clear h1
    obtain ⟨rfl, hp⟩ := mq_p0_spec h2
    clear h2
    rfl
  · intro as ρ μ h
    obtain ⟨nw, sp, tl, tx, al⟩ := ρ
    obtain ⟨L, as0, rfl, h0⟩ := mq_pR_spec h
    clear h
    obtain ⟨x, as1, rfl, h1⟩ := mq_pI_spec h0
    clear h0
    obtain ⟨y, as2, rfl, h2⟩ := mq_pI_spec h1
    clear h1
    obtain ⟨rfl, hp⟩ := mq_p0_spec h2
    clear h2
    have e0 : mq_l0 ([.inr (.inr (some (9, L))), .inl x, .inl y] : List mq_V) 3 = [some (.inr (.inr (some (9, L)))), some (.inl x), some (.inl y)] := rfl
    rw [e0]
    repeat' (first | refine And.intro ?_ ?_ | intro _)
    all_goals first | omega | rfl | exact trivial
  · intro as ρ μ h
    obtain ⟨nw, sp, tl, tx, al⟩ := ρ
    obtain ⟨L, as0, rfl, h0⟩ := mq_pR_spec h
    clear h
    obtain ⟨x, as1, rfl, h1⟩ := mq_pI_spec h0
    clear h0
    obtain ⟨y, as2, rfl, h2⟩ := mq_pI_spec h1
    clear h1
    obtain ⟨rfl, hp⟩ := mq_p0_spec h2
    clear h2
    exact fun _ h => absurd h List.not_mem_nil
  · intro as ρ μ h
    obtain ⟨nw, sp, tl, tx, al⟩ := ρ
    obtain ⟨L, as0, rfl, h0⟩ := mq_pR_spec h
    clear h
    obtain ⟨x, as1, rfl, h1⟩ := mq_pI_spec h0
    clear h0
    obtain ⟨y, as2, rfl, h2⟩ := mq_pI_spec h1
    clear h1
    obtain ⟨rfl, hp⟩ := mq_p0_spec h2
    clear h2
    exact fun _ h => absurd h List.not_mem_nil
theorem mw0_get_coaches : mq_mlA cq_get_coaches 0 := ⟨kw_7, ⟨by decide +kernel, by decide +kernel⟩, by decide +kernel, kw_8, kw_9, kw_10, 9, by decide +kernel, fun as ρ μ h => by obtain ⟨nw, sp, tl, tx, al⟩ := ρ; obtain ⟨i, t, e, _⟩ := mq_pR_spec h; exact ⟨i, t, e⟩⟩
def pq_coachesOf : List mq_E := [(0, false, .iconst 0), (1, false, .istore 2), (2, false, .iconst 0), (3, false, .istore 3), (4, true, .iload 3), (5, false, .aload 0), (6, false, .invokeinterface 3 8), (9, false, .invokeinterface 6 3), (12, false, .if_icmp .ge (Int.ofNat 37)), (15, false, .aload 0), (16, false, .invokeinterface 3 8), (19, false, .iload 3), (20, false, .iconst 0), (21, false, .invokestatic 0), (24, false, .iload 1), (25, false, .if_icmp .ne (Int.ofNat 31)), (28, false, .iinc 2 1), (31, false, .iinc 3 1), (34, false, .goto (Int.ofNat 4)), (37, false, .iload 2), (38, false, .ireturn)]
def cq_coachesOf : mq_C := ((yX3_coachesOf, cX3_coachesOf, 4, (some .int), { frames := 1, cells := 0, slots := 0, locals := 22 }), (2, 1, 0, 0), 0, (fun as ρ μ => match ρ with
  | (nw, sp, tl, tx, al) => mq_pR as 2 fun L as => mq_pI as fun t as => mq_p0 as (True)),
  (fun as ρ μ r ρ' μ' => match as, ρ, ρ' with
  | [.inr (.inr (some (_, L))), .inl t], (nw, sp, tl, tx, al), (nw', sp', tl', tx', al') => [0 ≤ r, r ≤ 16]
  | _, _, _ => []))
def kq_coachesOf : List mq_V → mq_R → mq_M → List (Nat × mq_Jt) := fun as ρ μ => match as, ρ with
  | [.inr (.inr (some (_, L))), .inl t], (nw, sp, tl, tx, al) => [(4, fun N l st ρ' μ' cs => mq_tR l 2 fun L9 l => mq_tI l fun t9 l => mq_tI l fun m l => mq_tI l fun k l => mq_t0 l (st = [] ∧ ρ' = (nw, sp, tl, tx, al) ∧ cs = 0 ∧ 0 ≤ m ∧ m ≤ k ∧ k ≤ 16 ∧ 0 ≤ (16 - k : Int) ∧ (16 - k : Int) < (N : Int)))]
  | _, _ => []
set_option maxHeartbeats 16000000 in
set_option maxRecDepth 100000 in
theorem vq_coachesOf (lc : Launch) (h_get_coaches : mq_Ct lc cq_get_coaches) : mq_Ct lc cq_coachesOf := by
  refine mq_method (lc := lc) (P := pq_coachesOf) (cl := [cq_get_coaches]) (T := ([(42, 3, 8), (45, 6, 3)], [], [], [(52, 0, 0)])) (fuel := 400) (cuts := kq_coachesOf) (by decide) rfl ⟨rfl, rfl⟩ (List.forall_mem_cons.mpr ⟨h_get_coaches, (fun _ h => absurd h List.not_mem_nil)⟩) ⟨(List.forall_mem_cons.mpr ⟨⟨_, rfl, by decide, kw_5⟩, (List.forall_mem_cons.mpr ⟨⟨_, rfl, by decide, kw_6⟩, (fun _ h => absurd h List.not_mem_nil)⟩)⟩), (fun _ h => absurd h List.not_mem_nil), (fun _ h => absurd h List.not_mem_nil), (List.forall_mem_cons.mpr ⟨mq_ml0 rfl mw0_get_coaches kw_11, (fun _ h => absurd h List.not_mem_nil)⟩)⟩ (by decide +kernel) ⟨_, _, rfl⟩ ?_ ?_ ?_ ?_
  · intro as ρ μ h
    obtain ⟨nw, sp, tl, tx, al⟩ := ρ
    obtain ⟨L, as0, rfl, h0⟩ := mq_pR_spec h
    clear h
    obtain ⟨t, as1, rfl, h1⟩ := mq_pI_spec h0
    clear h0
    obtain ⟨rfl, hp⟩ := mq_p0_spec h1
    clear h1
    rfl
  · intro as ρ μ h
    obtain ⟨nw, sp, tl, tx, al⟩ := ρ
    obtain ⟨L, as0, rfl, h0⟩ := mq_pR_spec h
    clear h
    obtain ⟨t, as1, rfl, h1⟩ := mq_pI_spec h0
    clear h0
    obtain ⟨rfl, hp⟩ := mq_p0_spec h1
    clear h1
    have e0 : mq_l0 ([.inr (.inr (some (2, L))), .inl t] : List mq_V) 4 = [some (.inr (.inr (some (2, L)))), some (.inl t), none, none] := rfl
    rw [e0]
    repeat' (first | refine And.intro ?_ ?_ | intro _)
    all_goals first | omega | rfl | exact trivial
  · intro as ρ μ h
    obtain ⟨nw, sp, tl, tx, al⟩ := ρ
    obtain ⟨L, as0, rfl, h0⟩ := mq_pR_spec h
    clear h
    obtain ⟨t, as1, rfl, h1⟩ := mq_pI_spec h0
    clear h0
    obtain ⟨rfl, hp⟩ := mq_p0_spec h1
    clear h1
    refine List.forall_mem_cons.mpr ⟨?_, ?_⟩
    · intro l st ρ' μ' cs hJ
      obtain ⟨L9, l0, rfl, hJ0⟩ := mq_tR_spec hJ
      clear hJ
      obtain ⟨t9, l1, rfl, hJ1⟩ := mq_tI_spec hJ0
      clear hJ0
      obtain ⟨m, l2, rfl, hJ2⟩ := mq_tI_spec hJ1
      clear hJ1
      obtain ⟨k, l3, rfl, hJ3⟩ := mq_tI_spec hJ2
      clear hJ2
      obtain ⟨rfl, hJz⟩ := mq_t0_spec hJ3
      clear hJ3
      obtain ⟨rfl, rfl, rfl, hc0, hc1, hc2, hm0, hm1⟩ := hJz
      omega
    exact fun _ h => absurd h List.not_mem_nil
  · intro as ρ μ h
    obtain ⟨nw, sp, tl, tx, al⟩ := ρ
    obtain ⟨L, as0, rfl, h0⟩ := mq_pR_spec h
    clear h
    obtain ⟨t, as1, rfl, h1⟩ := mq_pI_spec h0
    clear h0
    obtain ⟨rfl, hp⟩ := mq_p0_spec h1
    clear h1
    refine List.forall_mem_cons.mpr ⟨?_, ?_⟩
    · intro N l st ρ' μ' cs hJ
      obtain ⟨L9, l0, rfl, hJ0⟩ := mq_tR_spec hJ
      clear hJ
      obtain ⟨t9, l1, rfl, hJ1⟩ := mq_tI_spec hJ0
      clear hJ0
      obtain ⟨m, l2, rfl, hJ2⟩ := mq_tI_spec hJ1
      clear hJ1
      obtain ⟨k, l3, rfl, hJ3⟩ := mq_tI_spec hJ2
      clear hJ2
      obtain ⟨rfl, hJz⟩ := mq_t0_spec hJ3
      clear hJ3
      obtain ⟨rfl, rfl, rfl, hc0, hc1, hc2, hm0, hm1⟩ := hJz
      repeat' (first | refine And.intro ?_ ?_ | intro _)
      all_goals first | omega | rfl | exact trivial
    exact fun _ h => absurd h List.not_mem_nil
