def pq_m_isLine : List mq_E := [(0, false, .aload 0), (1, false, .invokeinterface 11 17), (4, false, .iconst 0), (5, false, .iaload), (6, false, .ifCond .le (Int.ofNat 13)), (9, false, .iconst 1), (10, false, .goto (Int.ofNat 14)), (13, false, .iconst 0), (14, false, .ireturn)]
def cq_m_isLine : mq_C := ((yX11_isLine, cX11_isLine, 1, (some .boolean), { frames := 0, cells := 0, slots := 0, locals := 0 }), (1, 1, 0, 0), 0, (fun as ρ μ => match ρ with
  | (nw, sp, tl, tx, al) => mq_pZ as 60 fun as => mq_p0 as (True)),
  (fun as ρ μ r ρ' μ' => match as, ρ, ρ' with
  | [.inr (.inr (some (_, _)))], (nw, sp, tl, tx, al), (nw', sp', tl', tx', al') => [0 ≤ r, r ≤ 1]
  | _, _, _ => []))
def kq_m_isLine : List mq_V → mq_R → mq_M → List mq_Cu := fun as ρ μ => match as, ρ with
  | [.inr (.inr (some (_, _)))], (nw, sp, tl, tx, al) => []
  | _, _ => []
set_option maxHeartbeats 16000000 in
set_option maxRecDepth 100000 in
theorem vq_m_isLine (lc : Launch)  : mq_Ct lc cq_m_isLine := by
  refine mq_method (lc := lc) (P := pq_m_isLine) (cl := []) (T := ([(34, 11, 17)], [], [], [], [], [])) (fuel := 400) (cuts := kq_m_isLine) (by decide) rfl ⟨rfl, rfl⟩ (fun _ h => absurd h List.not_mem_nil) ⟨(List.forall_mem_cons.mpr ⟨⟨_, rfl, by decide, kw_832⟩, (fun _ h => absurd h List.not_mem_nil)⟩), (fun _ h => absurd h List.not_mem_nil), (fun _ h => absurd h List.not_mem_nil), (fun _ h => absurd h List.not_mem_nil), (fun _ h => absurd h List.not_mem_nil), (fun _ h => absurd h List.not_mem_nil)⟩ (by decide +kernel) ⟨_, _, rfl⟩ ?_ ?_ ?_ ?_
  · intro as ρ μ h
    obtain ⟨nw, sp, tl, tx, al⟩ := ρ
    obtain ⟨as0, rfl, h0⟩ := mq_pZ_spec h
    clear h
    obtain ⟨rfl, hp⟩ := mq_p0_spec h0
    clear h0
    rfl
  · intro as ρ μ h
    obtain ⟨nw, sp, tl, tx, al⟩ := ρ
    obtain ⟨as0, rfl, h0⟩ := mq_pZ_spec h
    clear h
    obtain ⟨rfl, hp⟩ := mq_p0_spec h0
    clear h0
    intro hrg
    intro hbk
    have e0 : mq_l0 ([.inr (.inr (some (60, 0)))] : List mq_V) 1 = [some (.inr (.inr (some (60, 0))))] := rfl
    rw [e0]
    repeat' (first | refine And.intro ?_ ?_ | intro _)
    all_goals first | omega | rfl | exact trivial | (simp [mq_up] at * <;> omega)
  · intro as ρ μ h
    obtain ⟨nw, sp, tl, tx, al⟩ := ρ
    obtain ⟨as0, rfl, h0⟩ := mq_pZ_spec h
    clear h
    obtain ⟨rfl, hp⟩ := mq_p0_spec h0
    clear h0
    exact fun _ h => absurd h List.not_mem_nil
  · intro as ρ μ h
    obtain ⟨nw, sp, tl, tx, al⟩ := ρ
    obtain ⟨as0, rfl, h0⟩ := mq_pZ_spec h
    clear h
    obtain ⟨rfl, hp⟩ := mq_p0_spec h0
    clear h0
    intro hrg
    exact fun _ h => absurd h List.not_mem_nil
theorem mw0_m_isLine : mq_mlA cq_m_isLine 0 := ⟨kw_833, ⟨by decide +kernel, by decide +kernel⟩, by decide +kernel, kw_834, kw_835, kw_771, 60, by decide +kernel, fun as ρ μ h => by obtain ⟨nw, sp, tl, tx, al⟩ := ρ; obtain ⟨t, e, _⟩ := mq_pZ_spec h; exact ⟨0, t, e⟩⟩
def pq_m_isYard : List mq_E := [(0, false, .aload 0), (1, false, .invokestatic 0), (4, false, .ifCond .eq (Int.ofNat 27)), (7, false, .iload 1), (8, false, .i2l), (9, false, .goto_w 0), (10, false, .aload 0), (11, false, .invokeinterface 11 17), (14, false, .iconst 0), (15, false, .iaload), (16, false, .i2l), (17, false, .invokestatic 1), (20, false, .ifCond .eq (Int.ofNat 27)), (23, false, .iconst 1), (24, false, .goto (Int.ofNat 28)), (27, false, .iconst 0), (28, false, .ireturn)]
def cq_m_isYard : mq_C := ((yX11_isYard, cX11_isYard, 2, (some .boolean), { frames := 1, cells := 0, slots := 0, locals := 25 }), (2, 1, 0, 0), 0, (fun as ρ μ => match ρ with
  | (nw, sp, tl, tx, al) => mq_pZ as 60 fun as => mq_pI as fun y as => mq_p0 as (True)),
  (fun as ρ μ r ρ' μ' => match as, ρ, ρ' with
  | [.inr (.inr (some (_, _))), .inl y], (nw, sp, tl, tx, al), (nw', sp', tl', tx', al') => [(r = 1 ∧ 0 ≤ y ∧ y ≤ 400 ∧ y ≤ μ (67, 0) 0) ∨ r = 0]
  | _, _, _ => []))
def kq_m_isYard : List mq_V → mq_R → mq_M → List mq_Cu := fun as ρ μ => match as, ρ with
  | [.inr (.inr (some (_, _))), .inl y], (nw, sp, tl, tx, al) => []
  | _, _ => []
set_option maxHeartbeats 16000000 in
set_option maxRecDepth 100000 in
theorem vq_m_isYard (lc : Launch) (h_m_isLine : mq_Ct lc cq_m_isLine) (h_m_in : mq_Ct lc cq_m_in) : mq_Ct lc cq_m_isYard := by
  refine mq_method (lc := lc) (P := pq_m_isYard) (cl := [cq_m_isLine, cq_m_in]) (T := ([(34, 11, 17)], [], [], [(290, 0, 0), (125, 1, 1)], [], [])) (fuel := 400) (cuts := kq_m_isYard) (by decide) rfl ⟨rfl, rfl⟩ (List.forall_mem_cons.mpr ⟨h_m_isLine, (List.forall_mem_cons.mpr ⟨h_m_in, (fun _ h => absurd h List.not_mem_nil)⟩)⟩) ⟨(List.forall_mem_cons.mpr ⟨⟨_, rfl, by decide, kw_832⟩, (fun _ h => absurd h List.not_mem_nil)⟩), (fun _ h => absurd h List.not_mem_nil), (fun _ h => absurd h List.not_mem_nil), (List.forall_mem_cons.mpr ⟨mq_ml0 rfl mw0_m_isLine kw_836, (List.forall_mem_cons.mpr ⟨mq_ml1 rfl mw1_m_in kw_772, (fun _ h => absurd h List.not_mem_nil)⟩)⟩), (fun _ h => absurd h List.not_mem_nil), (fun _ h => absurd h List.not_mem_nil)⟩ (by decide +kernel) ⟨_, _, rfl⟩ ?_ ?_ ?_ ?_
  · intro as ρ μ h
    obtain ⟨nw, sp, tl, tx, al⟩ := ρ
    obtain ⟨as0, rfl, h0⟩ := mq_pZ_spec h
    clear h
    obtain ⟨y, as1, rfl, h1⟩ := mq_pI_spec h0
    clear h0
    obtain ⟨rfl, hp⟩ := mq_p0_spec h1
    clear h1
    rfl
  · intro as ρ μ h
    obtain ⟨nw, sp, tl, tx, al⟩ := ρ
    obtain ⟨as0, rfl, h0⟩ := mq_pZ_spec h
    clear h
    obtain ⟨y, as1, rfl, h1⟩ := mq_pI_spec h0
    clear h0
    obtain ⟨rfl, hp⟩ := mq_p0_spec h1
    clear h1
    intro hrg
    obtain ⟨⟨ha1a, ha1b⟩, -⟩ := hrg
    intro hbk
    have e0 : mq_l0 ([.inr (.inr (some (60, 0))), .inl y] : List mq_V) 2 = [some (.inr (.inr (some (60, 0)))), some (.inl y)] := rfl
    rw [e0]
    repeat' (first | refine And.intro ?_ ?_ | intro _)
    all_goals first | omega | rfl | exact trivial | (simp [mq_up] at * <;> omega)
  · intro as ρ μ h
    obtain ⟨nw, sp, tl, tx, al⟩ := ρ
    obtain ⟨as0, rfl, h0⟩ := mq_pZ_spec h
    clear h
    obtain ⟨y, as1, rfl, h1⟩ := mq_pI_spec h0
    clear h0
    obtain ⟨rfl, hp⟩ := mq_p0_spec h1
    clear h1
    exact fun _ h => absurd h List.not_mem_nil
  · intro as ρ μ h
    obtain ⟨nw, sp, tl, tx, al⟩ := ρ
    obtain ⟨as0, rfl, h0⟩ := mq_pZ_spec h
    clear h
    obtain ⟨y, as1, rfl, h1⟩ := mq_pI_spec h0
    clear h0
    obtain ⟨rfl, hp⟩ := mq_p0_spec h1
    clear h1
    intro hrg
    obtain ⟨⟨ha1a, ha1b⟩, -⟩ := hrg
    exact fun _ h => absurd h List.not_mem_nil
theorem mw0_m_isYard : mq_mlA cq_m_isYard 0 := ⟨kw_851, ⟨by decide +kernel, by decide +kernel⟩, by decide +kernel, kw_852, kw_853, kw_771, 60, by decide +kernel, fun as ρ μ h => by obtain ⟨nw, sp, tl, tx, al⟩ := ρ; obtain ⟨t, e, _⟩ := mq_pZ_spec h; exact ⟨0, t, e⟩⟩
def pq_m_isKind : List mq_E := [(0, false, .iload 1), (1, false, .i2l), (2, false, .goto_w 0), (3, false, .aload 0), (4, false, .invokeinterface 11 19), (7, false, .iconst 4), (8, false, .jsr 4), (9, false, .iconst 1), (10, false, .isub), (11, false, .i2l), (12, false, .invokestatic 0), (15, false, .ireturn)]
def cq_m_isKind : mq_C := ((yX11_isKind, cX11_isKind, 2, (some .boolean), { frames := 1, cells := 0, slots := 0, locals := 25 }), (2, 1, 0, 0), 0, (fun as ρ μ => match ρ with
  | (nw, sp, tl, tx, al) => mq_pZ as 60 fun as => mq_pI as fun x as => mq_p0 as (True)),
  (fun as ρ μ r ρ' μ' => match as, ρ, ρ' with
  | [.inr (.inr (some (_, _))), .inl x], (nw, sp, tl, tx, al), (nw', sp', tl', tx', al') => [(r = 1 ∧ 0 ≤ x ∧ x ≤ 3 ∧ x < μ (69, 0) 4) ∨ r = 0]
  | _, _, _ => []))
def kq_m_isKind : List mq_V → mq_R → mq_M → List mq_Cu := fun as ρ μ => match as, ρ with
  | [.inr (.inr (some (_, _))), .inl x], (nw, sp, tl, tx, al) => []
  | _, _ => []
set_option maxHeartbeats 16000000 in
set_option maxRecDepth 100000 in
theorem vq_m_isKind (lc : Launch) (h_m_in : mq_Ct lc cq_m_in) : mq_Ct lc cq_m_isKind := by
  refine mq_method (lc := lc) (P := pq_m_isKind) (cl := [cq_m_in]) (T := ([(40, 11, 19)], [], [], [(125, 0, 1)], [], [])) (fuel := 400) (cuts := kq_m_isKind) (by decide) rfl ⟨rfl, rfl⟩ (List.forall_mem_cons.mpr ⟨h_m_in, (fun _ h => absurd h List.not_mem_nil)⟩) ⟨(List.forall_mem_cons.mpr ⟨⟨_, rfl, by decide, kw_837⟩, (fun _ h => absurd h List.not_mem_nil)⟩), (fun _ h => absurd h List.not_mem_nil), (fun _ h => absurd h List.not_mem_nil), (List.forall_mem_cons.mpr ⟨mq_ml1 rfl mw1_m_in kw_772, (fun _ h => absurd h List.not_mem_nil)⟩), (fun _ h => absurd h List.not_mem_nil), (fun _ h => absurd h List.not_mem_nil)⟩ (by decide +kernel) ⟨_, _, rfl⟩ ?_ ?_ ?_ ?_
  · intro as ρ μ h
    obtain ⟨nw, sp, tl, tx, al⟩ := ρ
    obtain ⟨as0, rfl, h0⟩ := mq_pZ_spec h
    clear h
    obtain ⟨x, as1, rfl, h1⟩ := mq_pI_spec h0
    clear h0
    obtain ⟨rfl, hp⟩ := mq_p0_spec h1
    clear h1
    rfl
  · intro as ρ μ h
    obtain ⟨nw, sp, tl, tx, al⟩ := ρ
    obtain ⟨as0, rfl, h0⟩ := mq_pZ_spec h
    clear h
    obtain ⟨x, as1, rfl, h1⟩ := mq_pI_spec h0
    clear h0
    obtain ⟨rfl, hp⟩ := mq_p0_spec h1
    clear h1
    intro hrg
    obtain ⟨⟨ha1a, ha1b⟩, -⟩ := hrg
    intro hbk
    have e0 : mq_l0 ([.inr (.inr (some (60, 0))), .inl x] : List mq_V) 2 = [some (.inr (.inr (some (60, 0)))), some (.inl x)] := rfl
    rw [e0]
    repeat' (first | refine And.intro ?_ ?_ | intro _)
    all_goals first | omega | rfl | exact trivial | (simp [mq_up] at * <;> omega)
  · intro as ρ μ h
    obtain ⟨nw, sp, tl, tx, al⟩ := ρ
    obtain ⟨as0, rfl, h0⟩ := mq_pZ_spec h
    clear h
    obtain ⟨x, as1, rfl, h1⟩ := mq_pI_spec h0
    clear h0
    obtain ⟨rfl, hp⟩ := mq_p0_spec h1
    clear h1
    exact fun _ h => absurd h List.not_mem_nil
  · intro as ρ μ h
    obtain ⟨nw, sp, tl, tx, al⟩ := ρ
    obtain ⟨as0, rfl, h0⟩ := mq_pZ_spec h
    clear h
    obtain ⟨x, as1, rfl, h1⟩ := mq_pI_spec h0
    clear h0
    obtain ⟨rfl, hp⟩ := mq_p0_spec h1
    clear h1
    intro hrg
    obtain ⟨⟨ha1a, ha1b⟩, -⟩ := hrg
    exact fun _ h => absurd h List.not_mem_nil
theorem mw0_m_isKind : mq_mlA cq_m_isKind 0 := ⟨kw_884, ⟨by decide +kernel, by decide +kernel⟩, by decide +kernel, kw_885, kw_886, kw_771, 60, by decide +kernel, fun as ρ μ h => by obtain ⟨nw, sp, tl, tx, al⟩ := ρ; obtain ⟨t, e, _⟩ := mq_pZ_spec h; exact ⟨0, t, e⟩⟩
def pq_m_isPlatform : List mq_E := [(0, false, .iload 1), (1, false, .i2l), (2, false, .goto_w 0), (3, false, .aload 0), (4, false, .invokeinterface 11 19), (7, false, .iconst 3), (8, false, .jsr 3), (9, false, .iconst 1), (10, false, .isub), (11, false, .i2l), (12, false, .invokestatic 0), (15, false, .ireturn)]
def cq_m_isPlatform : mq_C := ((yX11_isPlatform, cX11_isPlatform, 2, (some .boolean), { frames := 1, cells := 0, slots := 0, locals := 25 }), (2, 1, 0, 0), 0, (fun as ρ μ => match ρ with
  | (nw, sp, tl, tx, al) => mq_pZ as 60 fun as => mq_pI as fun x as => mq_p0 as (True)),
  (fun as ρ μ r ρ' μ' => match as, ρ, ρ' with
  | [.inr (.inr (some (_, _))), .inl x], (nw, sp, tl, tx, al), (nw', sp', tl', tx', al') => [(r = 1 ∧ 0 ≤ x ∧ x ≤ 5 ∧ x < μ (69, 0) 3) ∨ r = 0]
  | _, _, _ => []))
def kq_m_isPlatform : List mq_V → mq_R → mq_M → List mq_Cu := fun as ρ μ => match as, ρ with
  | [.inr (.inr (some (_, _))), .inl x], (nw, sp, tl, tx, al) => []
  | _, _ => []
set_option maxHeartbeats 16000000 in
set_option maxRecDepth 100000 in
theorem vq_m_isPlatform (lc : Launch) (h_m_in : mq_Ct lc cq_m_in) : mq_Ct lc cq_m_isPlatform := by
  refine mq_method (lc := lc) (P := pq_m_isPlatform) (cl := [cq_m_in]) (T := ([(40, 11, 19)], [], [], [(125, 0, 1)], [], [])) (fuel := 400) (cuts := kq_m_isPlatform) (by decide) rfl ⟨rfl, rfl⟩ (List.forall_mem_cons.mpr ⟨h_m_in, (fun _ h => absurd h List.not_mem_nil)⟩) ⟨(List.forall_mem_cons.mpr ⟨⟨_, rfl, by decide, kw_837⟩, (fun _ h => absurd h List.not_mem_nil)⟩), (fun _ h => absurd h List.not_mem_nil), (fun _ h => absurd h List.not_mem_nil), (List.forall_mem_cons.mpr ⟨mq_ml1 rfl mw1_m_in kw_772, (fun _ h => absurd h List.not_mem_nil)⟩), (fun _ h => absurd h List.not_mem_nil), (fun _ h => absurd h List.not_mem_nil)⟩ (by decide +kernel) ⟨_, _, rfl⟩ ?_ ?_ ?_ ?_
  · intro as ρ μ h
    obtain ⟨nw, sp, tl, tx, al⟩ := ρ
    obtain ⟨as0, rfl, h0⟩ := mq_pZ_spec h
    clear h
    obtain ⟨x, as1, rfl, h1⟩ := mq_pI_spec h0
    clear h0
    obtain ⟨rfl, hp⟩ := mq_p0_spec h1
    clear h1
    rfl
  · intro as ρ μ h
    obtain ⟨nw, sp, tl, tx, al⟩ := ρ
    obtain ⟨as0, rfl, h0⟩ := mq_pZ_spec h
    clear h
    obtain ⟨x, as1, rfl, h1⟩ := mq_pI_spec h0
    clear h0
    obtain ⟨rfl, hp⟩ := mq_p0_spec h1
    clear h1
    intro hrg
    obtain ⟨⟨ha1a, ha1b⟩, -⟩ := hrg
    intro hbk
    have e0 : mq_l0 ([.inr (.inr (some (60, 0))), .inl x] : List mq_V) 2 = [some (.inr (.inr (some (60, 0)))), some (.inl x)] := rfl
    rw [e0]
    repeat' (first | refine And.intro ?_ ?_ | intro _)
    all_goals first | omega | rfl | exact trivial | (simp [mq_up] at * <;> omega)
  · intro as ρ μ h
    obtain ⟨nw, sp, tl, tx, al⟩ := ρ
    obtain ⟨as0, rfl, h0⟩ := mq_pZ_spec h
    clear h
    obtain ⟨x, as1, rfl, h1⟩ := mq_pI_spec h0
    clear h0
    obtain ⟨rfl, hp⟩ := mq_p0_spec h1
    clear h1
    exact fun _ h => absurd h List.not_mem_nil
  · intro as ρ μ h
    obtain ⟨nw, sp, tl, tx, al⟩ := ρ
    obtain ⟨as0, rfl, h0⟩ := mq_pZ_spec h
    clear h
    obtain ⟨x, as1, rfl, h1⟩ := mq_pI_spec h0
    clear h0
    obtain ⟨rfl, hp⟩ := mq_p0_spec h1
    clear h1
    intro hrg
    obtain ⟨⟨ha1a, ha1b⟩, -⟩ := hrg
    exact fun _ h => absurd h List.not_mem_nil
theorem mw0_m_isPlatform : mq_mlA cq_m_isPlatform 0 := ⟨kw_918, ⟨by decide +kernel, by decide +kernel⟩, by decide +kernel, kw_919, kw_920, kw_771, 60, by decide +kernel, fun as ρ μ h => by obtain ⟨nw, sp, tl, tx, al⟩ := ρ; obtain ⟨t, e, _⟩ := mq_pZ_spec h; exact ⟨0, t, e⟩⟩
def pq_m_isTrain : List mq_E := [(0, false, .iload 1), (1, false, .i2l), (2, false, .goto_w 0), (3, false, .aload 0), (4, false, .invokeinterface 11 19), (7, false, .iconst 5), (8, false, .jsr 5), (9, false, .iconst 1), (10, false, .isub), (11, false, .i2l), (12, false, .invokestatic 0), (15, false, .ireturn)]
def cq_m_isTrain : mq_C := ((yX11_isTrain, cX11_isTrain, 2, (some .boolean), { frames := 1, cells := 0, slots := 0, locals := 25 }), (2, 1, 0, 0), 0, (fun as ρ μ => match ρ with
  | (nw, sp, tl, tx, al) => mq_pZ as 60 fun as => mq_pI as fun x as => mq_p0 as (True)),
  (fun as ρ μ r ρ' μ' => match as, ρ, ρ' with
  | [.inr (.inr (some (_, _))), .inl x], (nw, sp, tl, tx, al), (nw', sp', tl', tx', al') => [(r = 1 ∧ 0 ≤ x ∧ x ≤ 4 ∧ x < μ (69, 0) 5) ∨ r = 0]
  | _, _, _ => []))
def kq_m_isTrain : List mq_V → mq_R → mq_M → List mq_Cu := fun as ρ μ => match as, ρ with
  | [.inr (.inr (some (_, _))), .inl x], (nw, sp, tl, tx, al) => []
  | _, _ => []
set_option maxHeartbeats 16000000 in
set_option maxRecDepth 100000 in
theorem vq_m_isTrain (lc : Launch) (h_m_in : mq_Ct lc cq_m_in) : mq_Ct lc cq_m_isTrain := by
  refine mq_method (lc := lc) (P := pq_m_isTrain) (cl := [cq_m_in]) (T := ([(40, 11, 19)], [], [], [(125, 0, 1)], [], [])) (fuel := 400) (cuts := kq_m_isTrain) (by decide) rfl ⟨rfl, rfl⟩ (List.forall_mem_cons.mpr ⟨h_m_in, (fun _ h => absurd h List.not_mem_nil)⟩) ⟨(List.forall_mem_cons.mpr ⟨⟨_, rfl, by decide, kw_837⟩, (fun _ h => absurd h List.not_mem_nil)⟩), (fun _ h => absurd h List.not_mem_nil), (fun _ h => absurd h List.not_mem_nil), (List.forall_mem_cons.mpr ⟨mq_ml1 rfl mw1_m_in kw_772, (fun _ h => absurd h List.not_mem_nil)⟩), (fun _ h => absurd h List.not_mem_nil), (fun _ h => absurd h List.not_mem_nil)⟩ (by decide +kernel) ⟨_, _, rfl⟩ ?_ ?_ ?_ ?_
  · intro as ρ μ h
    obtain ⟨nw, sp, tl, tx, al⟩ := ρ
    obtain ⟨as0, rfl, h0⟩ := mq_pZ_spec h
    clear h
    obtain ⟨x, as1, rfl, h1⟩ := mq_pI_spec h0
    clear h0
    obtain ⟨rfl, hp⟩ := mq_p0_spec h1
    clear h1
    rfl
  · intro as ρ μ h
    obtain ⟨nw, sp, tl, tx, al⟩ := ρ
    obtain ⟨as0, rfl, h0⟩ := mq_pZ_spec h
    clear h
    obtain ⟨x, as1, rfl, h1⟩ := mq_pI_spec h0
    clear h0
    obtain ⟨rfl, hp⟩ := mq_p0_spec h1
    clear h1
    intro hrg
    obtain ⟨⟨ha1a, ha1b⟩, -⟩ := hrg
    intro hbk
    have e0 : mq_l0 ([.inr (.inr (some (60, 0))), .inl x] : List mq_V) 2 = [some (.inr (.inr (some (60, 0)))), some (.inl x)] := rfl
    rw [e0]
    repeat' (first | refine And.intro ?_ ?_ | intro _)
    all_goals first | omega | rfl | exact trivial | (simp [mq_up] at * <;> omega)
  · intro as ρ μ h
    obtain ⟨nw, sp, tl, tx, al⟩ := ρ
    obtain ⟨as0, rfl, h0⟩ := mq_pZ_spec h
    clear h
    obtain ⟨x, as1, rfl, h1⟩ := mq_pI_spec h0
    clear h0
    obtain ⟨rfl, hp⟩ := mq_p0_spec h1
    clear h1
    exact fun _ h => absurd h List.not_mem_nil
  · intro as ρ μ h
    obtain ⟨nw, sp, tl, tx, al⟩ := ρ
    obtain ⟨as0, rfl, h0⟩ := mq_pZ_spec h
    clear h
    obtain ⟨x, as1, rfl, h1⟩ := mq_pI_spec h0
    clear h0
    obtain ⟨rfl, hp⟩ := mq_p0_spec h1
    clear h1
    intro hrg
    obtain ⟨⟨ha1a, ha1b⟩, -⟩ := hrg
    exact fun _ h => absurd h List.not_mem_nil
theorem mw0_m_isTrain : mq_mlA cq_m_isTrain 0 := ⟨kw_842, ⟨by decide +kernel, by decide +kernel⟩, by decide +kernel, kw_843, kw_844, kw_771, 60, by decide +kernel, fun as ρ μ h => by obtain ⟨nw, sp, tl, tx, al⟩ := ρ; obtain ⟨t, e, _⟩ := mq_pZ_spec h; exact ⟨0, t, e⟩⟩
def pq_m_isCoach : List mq_E := [(0, false, .iload 1), (1, false, .i2l), (2, false, .goto_w 0), (3, false, .aload 0), (4, false, .invokeinterface 11 19), (7, false, .iconst 6), (9, false, .jsr 6), (10, false, .iconst 1), (11, false, .isub), (12, false, .i2l), (13, false, .invokestatic 0), (16, false, .ireturn)]
def cq_m_isCoach : mq_C := ((yX11_isCoach, cX11_isCoach, 2, (some .boolean), { frames := 1, cells := 0, slots := 0, locals := 25 }), (2, 1, 0, 0), 0, (fun as ρ μ => match ρ with
  | (nw, sp, tl, tx, al) => mq_pZ as 60 fun as => mq_pI as fun x as => mq_p0 as (True)),
  (fun as ρ μ r ρ' μ' => match as, ρ, ρ' with
  | [.inr (.inr (some (_, _))), .inl x], (nw, sp, tl, tx, al), (nw', sp', tl', tx', al') => [(r = 1 ∧ 0 ≤ x ∧ x ≤ 15 ∧ x < μ (69, 0) 6) ∨ r = 0]
  | _, _, _ => []))
def kq_m_isCoach : List mq_V → mq_R → mq_M → List mq_Cu := fun as ρ μ => match as, ρ with
  | [.inr (.inr (some (_, _))), .inl x], (nw, sp, tl, tx, al) => []
  | _, _ => []
set_option maxHeartbeats 16000000 in
set_option maxRecDepth 100000 in
theorem vq_m_isCoach (lc : Launch) (h_m_in : mq_Ct lc cq_m_in) : mq_Ct lc cq_m_isCoach := by
  refine mq_method (lc := lc) (P := pq_m_isCoach) (cl := [cq_m_in]) (T := ([(40, 11, 19)], [], [], [(125, 0, 1)], [], [])) (fuel := 400) (cuts := kq_m_isCoach) (by decide) rfl ⟨rfl, rfl⟩ (List.forall_mem_cons.mpr ⟨h_m_in, (fun _ h => absurd h List.not_mem_nil)⟩) ⟨(List.forall_mem_cons.mpr ⟨⟨_, rfl, by decide, kw_837⟩, (fun _ h => absurd h List.not_mem_nil)⟩), (fun _ h => absurd h List.not_mem_nil), (fun _ h => absurd h List.not_mem_nil), (List.forall_mem_cons.mpr ⟨mq_ml1 rfl mw1_m_in kw_772, (fun _ h => absurd h List.not_mem_nil)⟩), (fun _ h => absurd h List.not_mem_nil), (fun _ h => absurd h List.not_mem_nil)⟩ (by decide +kernel) ⟨_, _, rfl⟩ ?_ ?_ ?_ ?_
  · intro as ρ μ h
    obtain ⟨nw, sp, tl, tx, al⟩ := ρ
    obtain ⟨as0, rfl, h0⟩ := mq_pZ_spec h
    clear h
    obtain ⟨x, as1, rfl, h1⟩ := mq_pI_spec h0
    clear h0
    obtain ⟨rfl, hp⟩ := mq_p0_spec h1
    clear h1
    rfl
  · intro as ρ μ h
    obtain ⟨nw, sp, tl, tx, al⟩ := ρ
    obtain ⟨as0, rfl, h0⟩ := mq_pZ_spec h
    clear h
    obtain ⟨x, as1, rfl, h1⟩ := mq_pI_spec h0
    clear h0
    obtain ⟨rfl, hp⟩ := mq_p0_spec h1
    clear h1
    intro hrg
    obtain ⟨⟨ha1a, ha1b⟩, -⟩ := hrg
    intro hbk
    have e0 : mq_l0 ([.inr (.inr (some (60, 0))), .inl x] : List mq_V) 2 = [some (.inr (.inr (some (60, 0)))), some (.inl x)] := rfl
    rw [e0]
    repeat' (first | refine And.intro ?_ ?_ | intro _)
    all_goals first | omega | rfl | exact trivial | (simp [mq_up] at * <;> omega)
  · intro as ρ μ h
    obtain ⟨nw, sp, tl, tx, al⟩ := ρ
    obtain ⟨as0, rfl, h0⟩ := mq_pZ_spec h
    clear h
    obtain ⟨x, as1, rfl, h1⟩ := mq_pI_spec h0
    clear h0
    obtain ⟨rfl, hp⟩ := mq_p0_spec h1
    clear h1
    exact fun _ h => absurd h List.not_mem_nil
  · intro as ρ μ h
    obtain ⟨nw, sp, tl, tx, al⟩ := ρ
    obtain ⟨as0, rfl, h0⟩ := mq_pZ_spec h
    clear h
    obtain ⟨x, as1, rfl, h1⟩ := mq_pI_spec h0
    clear h0
    obtain ⟨rfl, hp⟩ := mq_p0_spec h1
    clear h1
    intro hrg
    obtain ⟨⟨ha1a, ha1b⟩, -⟩ := hrg
    exact fun _ h => absurd h List.not_mem_nil
theorem mw0_m_isCoach : mq_mlA cq_m_isCoach 0 := ⟨kw_869, ⟨by decide +kernel, by decide +kernel⟩, by decide +kernel, kw_870, kw_871, kw_771, 60, by decide +kernel, fun as ρ μ h => by obtain ⟨nw, sp, tl, tx, al⟩ := ρ; obtain ⟨t, e, _⟩ := mq_pZ_spec h; exact ⟨0, t, e⟩⟩
def pq_m_rain : List mq_E := [(0, false, .aload 0), (1, false, .iconst 0), (2, false, .multianewarray 11 0), (5, false, .aload 0), (6, false, .invokestatic 0), (9, false, .ifCond .eq (Int.ofNat 24)), (12, false, .iload 1), (13, false, .i2l), (14, false, .goto_w 0), (15, false, .goto_w 100), (18, false, .invokestatic 1), (21, false, .ifCond .ne (Int.ofNat 27)), (24, false, .iconst (-2)), (26, false, .ireturn), (27, false, .aload 0), (28, false, .invokeinterface 11 18), (31, false, .iconst 0), (32, false, .iaload), (33, false, .istore 2), (34, false, .aload 0), (35, false, .invokeinterface 11 18), (38, false, .iconst 0), (39, false, .iload 1), (40, false, .iastore), (41, false, .iload 2), (42, false, .ireturn)]
def cq_m_rain : mq_C := ((yX11_rain, cX11_rain, 3, (some .int), { frames := 1, cells := 0, slots := 0, locals := 25 }), (2, 1, 0, 0), 296300826683959672832, (fun as ρ μ => match ρ with
  | (nw, sp, tl, tx, al) => mq_pZ as 60 fun as => mq_pI as fun n as => mq_p0 as (True)),
  (fun as ρ μ r ρ' μ' => match as, ρ, ρ' with
  | [.inr (.inr (some (_, _))), .inl n], (nw, sp, tl, tx, al), (nw', sp', tl', tx', al') => []
  | _, _, _ => []))
def kq_m_rain : List mq_V → mq_R → mq_M → List mq_Cu := fun as ρ μ => match as, ρ with
  | [.inr (.inr (some (_, _))), .inl n], (nw, sp, tl, tx, al) => []
  | _, _ => []
set_option maxHeartbeats 16000000 in
set_option maxRecDepth 100000 in
theorem vq_m_rain (lc : Launch) (h_m_isLine : mq_Ct lc cq_m_isLine) (h_m_in : mq_Ct lc cq_m_in) : mq_Ct lc cq_m_rain := by
  refine mq_method (lc := lc) (P := pq_m_rain) (cl := [cq_m_isLine, cq_m_in]) (T := ([(120, 11, 0), (37, 11, 18)], [], [(312, 100)], [(290, 0, 0), (125, 1, 1)], [], [])) (fuel := 400) (cuts := kq_m_rain) (by decide) rfl ⟨rfl, rfl⟩ (List.forall_mem_cons.mpr ⟨h_m_isLine, (List.forall_mem_cons.mpr ⟨h_m_in, (fun _ h => absurd h List.not_mem_nil)⟩)⟩) ⟨(List.forall_mem_cons.mpr ⟨⟨_, rfl, by decide, kw_773⟩, (List.forall_mem_cons.mpr ⟨⟨_, rfl, by decide, kw_838⟩, (fun _ h => absurd h List.not_mem_nil)⟩)⟩), (fun _ h => absurd h List.not_mem_nil), (List.forall_mem_cons.mpr ⟨kw_839, (fun _ h => absurd h List.not_mem_nil)⟩), (List.forall_mem_cons.mpr ⟨mq_ml0 rfl mw0_m_isLine kw_836, (List.forall_mem_cons.mpr ⟨mq_ml1 rfl mw1_m_in kw_772, (fun _ h => absurd h List.not_mem_nil)⟩)⟩), (fun _ h => absurd h List.not_mem_nil), (fun _ h => absurd h List.not_mem_nil)⟩ (by decide +kernel) ⟨_, _, rfl⟩ ?_ ?_ ?_ ?_
  · intro as ρ μ h
    obtain ⟨nw, sp, tl, tx, al⟩ := ρ
    obtain ⟨as0, rfl, h0⟩ := mq_pZ_spec h
    clear h
    obtain ⟨n, as1, rfl, h1⟩ := mq_pI_spec h0
    clear h0
    obtain ⟨rfl, hp⟩ := mq_p0_spec h1
    clear h1
    rfl
  · intro as ρ μ h
    obtain ⟨nw, sp, tl, tx, al⟩ := ρ
    obtain ⟨as0, rfl, h0⟩ := mq_pZ_spec h
    clear h
    obtain ⟨n, as1, rfl, h1⟩ := mq_pI_spec h0
    clear h0
    obtain ⟨rfl, hp⟩ := mq_p0_spec h1
    clear h1
    intro hrg
    obtain ⟨⟨ha1a, ha1b⟩, -⟩ := hrg
    intro hbk
    have e0 : mq_l0 ([.inr (.inr (some (60, 0))), .inl n] : List mq_V) 3 = [some (.inr (.inr (some (60, 0)))), some (.inl n), none] := rfl
    rw [e0]
    repeat' (first | refine And.intro ?_ ?_ | intro _)
    all_goals first | omega | rfl | exact trivial | (simp [mq_up] at * <;> omega)
  · intro as ρ μ h
    obtain ⟨nw, sp, tl, tx, al⟩ := ρ
    obtain ⟨as0, rfl, h0⟩ := mq_pZ_spec h
    clear h
    obtain ⟨n, as1, rfl, h1⟩ := mq_pI_spec h0
    clear h0
    obtain ⟨rfl, hp⟩ := mq_p0_spec h1
    clear h1
    exact fun _ h => absurd h List.not_mem_nil
  · intro as ρ μ h
    obtain ⟨nw, sp, tl, tx, al⟩ := ρ
    obtain ⟨as0, rfl, h0⟩ := mq_pZ_spec h
    clear h
    obtain ⟨n, as1, rfl, h1⟩ := mq_pI_spec h0
    clear h0
    obtain ⟨rfl, hp⟩ := mq_p0_spec h1
    clear h1
    intro hrg
    obtain ⟨⟨ha1a, ha1b⟩, -⟩ := hrg
    exact fun _ h => absurd h List.not_mem_nil
def pq_m_shift : List mq_E := [(0, false, .aload 0), (1, false, .iconst 0), (2, false, .multianewarray 11 0), (5, false, .aload 0), (6, false, .iload 1), (7, false, .invokestatic 0), (10, false, .ifCond .eq (Int.ofNat 25)), (13, false, .iload 2), (14, false, .i2l), (15, false, .goto_w 0), (16, false, .goto_w 300), (19, false, .invokestatic 1), (22, false, .ifCond .ne (Int.ofNat 28)), (25, false, .iconst (-2)), (27, false, .ireturn), (28, false, .aload 0), (29, false, .invokeinterface 11 25), (32, false, .iconst 3), (33, false, .iload 1), (34, false, .imul), (35, false, .jsr 0), (36, false, .istore 3), (37, false, .aload 0), (38, false, .invokeinterface 11 25), (41, false, .iconst 3), (42, false, .iload 1), (43, false, .imul), (44, false, .iload 2), (45, false, .jsr_w 0), (46, false, .iload 3), (47, false, .ireturn)]
def cq_m_shift : mq_C := ((yX11_shift, cX11_shift, 4, (some .int), { frames := 2, cells := 0, slots := 0, locals := 46 }), (3, 1, 0, 0), 37780084784461768556544, (fun as ρ μ => match ρ with
  | (nw, sp, tl, tx, al) => mq_pZ as 60 fun as => mq_pI as fun t as => mq_pI as fun k as => mq_p0 as (True)),
  (fun as ρ μ r ρ' μ' => match as, ρ, ρ' with
  | [.inr (.inr (some (_, _))), .inl t, .inl k], (nw, sp, tl, tx, al), (nw', sp', tl', tx', al') => []
  | _, _, _ => []))
def kq_m_shift : List mq_V → mq_R → mq_M → List mq_Cu := fun as ρ μ => match as, ρ with
  | [.inr (.inr (some (_, _))), .inl t, .inl k], (nw, sp, tl, tx, al) => []
  | _, _ => []
set_option maxHeartbeats 16000000 in
set_option maxRecDepth 100000 in
theorem vq_m_shift (lc : Launch) (h_m_isTrain : mq_Ct lc cq_m_isTrain) (h_m_in : mq_Ct lc cq_m_in) : mq_Ct lc cq_m_shift := by
  refine mq_method (lc := lc) (P := pq_m_shift) (cl := [cq_m_isTrain, cq_m_in]) (T := ([(120, 11, 0), (58, 11, 25)], [], [(317, 300)], [(314, 0, 0), (125, 1, 1)], [], [])) (fuel := 400) (cuts := kq_m_shift) (by decide) rfl ⟨rfl, rfl⟩ (List.forall_mem_cons.mpr ⟨h_m_isTrain, (List.forall_mem_cons.mpr ⟨h_m_in, (fun _ h => absurd h List.not_mem_nil)⟩)⟩) ⟨(List.forall_mem_cons.mpr ⟨⟨_, rfl, by decide, kw_773⟩, (List.forall_mem_cons.mpr ⟨⟨_, rfl, by decide, kw_840⟩, (fun _ h => absurd h List.not_mem_nil)⟩)⟩), (fun _ h => absurd h List.not_mem_nil), (List.forall_mem_cons.mpr ⟨kw_841, (fun _ h => absurd h List.not_mem_nil)⟩), (List.forall_mem_cons.mpr ⟨mq_ml0 rfl mw0_m_isTrain kw_845, (List.forall_mem_cons.mpr ⟨mq_ml1 rfl mw1_m_in kw_772, (fun _ h => absurd h List.not_mem_nil)⟩)⟩), (fun _ h => absurd h List.not_mem_nil), (fun _ h => absurd h List.not_mem_nil)⟩ (by decide +kernel) ⟨_, _, rfl⟩ ?_ ?_ ?_ ?_
  · intro as ρ μ h
    obtain ⟨nw, sp, tl, tx, al⟩ := ρ
    obtain ⟨as0, rfl, h0⟩ := mq_pZ_spec h
    clear h
    obtain ⟨t, as1, rfl, h1⟩ := mq_pI_spec h0
    clear h0
    obtain ⟨k, as2, rfl, h2⟩ := mq_pI_spec h1
    clear h1
    obtain ⟨rfl, hp⟩ := mq_p0_spec h2
    clear h2
    rfl
  · intro as ρ μ h
    obtain ⟨nw, sp, tl, tx, al⟩ := ρ
    obtain ⟨as0, rfl, h0⟩ := mq_pZ_spec h
    clear h
    obtain ⟨t, as1, rfl, h1⟩ := mq_pI_spec h0
    clear h0
    obtain ⟨k, as2, rfl, h2⟩ := mq_pI_spec h1
    clear h1
    obtain ⟨rfl, hp⟩ := mq_p0_spec h2
    clear h2
    intro hrg
    obtain ⟨⟨ha1a, ha1b⟩, ⟨ha2a, ha2b⟩, -⟩ := hrg
    intro hbk
    have e0 : mq_l0 ([.inr (.inr (some (60, 0))), .inl t, .inl k] : List mq_V) 4 = [some (.inr (.inr (some (60, 0)))), some (.inl t), some (.inl k), none] := rfl
    rw [e0]
    repeat' (first | refine And.intro ?_ ?_ | intro _)
    all_goals first | omega | rfl | exact trivial | (simp [mq_up] at * <;> omega)
  · intro as ρ μ h
    obtain ⟨nw, sp, tl, tx, al⟩ := ρ
    obtain ⟨as0, rfl, h0⟩ := mq_pZ_spec h
    clear h
    obtain ⟨t, as1, rfl, h1⟩ := mq_pI_spec h0
    clear h0
    obtain ⟨k, as2, rfl, h2⟩ := mq_pI_spec h1
    clear h1
    obtain ⟨rfl, hp⟩ := mq_p0_spec h2
    clear h2
    exact fun _ h => absurd h List.not_mem_nil
  · intro as ρ μ h
    obtain ⟨nw, sp, tl, tx, al⟩ := ρ
    obtain ⟨as0, rfl, h0⟩ := mq_pZ_spec h
    clear h
    obtain ⟨t, as1, rfl, h1⟩ := mq_pI_spec h0
    clear h0
    obtain ⟨k, as2, rfl, h2⟩ := mq_pI_spec h1
    clear h1
    obtain ⟨rfl, hp⟩ := mq_p0_spec h2
    clear h2
    intro hrg
    obtain ⟨⟨ha1a, ha1b⟩, ⟨ha2a, ha2b⟩, -⟩ := hrg
    exact fun _ h => absurd h List.not_mem_nil
def pq_m_most : List mq_E := [(0, false, .iload 0), (1, false, .ifCond .ne (Int.ofNat 9)), (4, false, .iconst 8), (6, false, .goto (Int.ofNat 59)), (9, false, .iload 0), (10, false, .iconst 1), (11, false, .if_icmp .ne (Int.ofNat 19)), (14, false, .iconst 6), (16, false, .goto (Int.ofNat 59)), (19, false, .iload 0), (20, false, .iconst 2), (21, false, .if_icmp .ne (Int.ofNat 29)), (24, false, .iconst 6), (26, false, .goto (Int.ofNat 59)), (29, false, .iload 0), (30, false, .iconst 3), (31, false, .if_icmp .ne (Int.ofNat 39)), (34, false, .iconst 6), (36, false, .goto (Int.ofNat 59)), (39, false, .iload 0), (40, false, .iconst 4), (41, false, .if_icmp .ne (Int.ofNat 48)), (44, false, .iconst 4), (45, false, .goto (Int.ofNat 59)), (48, false, .iload 0), (49, false, .iconst 5), (50, false, .if_icmp .ne (Int.ofNat 57)), (53, false, .iconst 5), (54, false, .goto (Int.ofNat 59)), (57, false, .iconst 16), (59, false, .ireturn)]
def cq_m_most : mq_C := ((yX11_most, cX11_most, 1, (some .int), { frames := 0, cells := 0, slots := 0, locals := 0 }), (1, 1, 0, 0), 0, (fun as ρ μ => match ρ with
  | (nw, sp, tl, tx, al) => mq_pI as fun w as => mq_p0 as (True)),
  (fun as ρ μ r ρ' μ' => match as, ρ, ρ' with
  | [.inl w], (nw, sp, tl, tx, al), (nw', sp', tl', tx', al') => [(w = 0 ∧ r = 8) ∨ (w = 1 ∧ r = 6) ∨ (w = 2 ∧ r = 6) ∨ (w = 3 ∧ r = 6) ∨ (w = 4 ∧ r = 4) ∨ (w = 5 ∧ r = 5) ∨ (¬ (0 ≤ w ∧ w ≤ 5) ∧ r = 16)]
  | _, _, _ => []))
def kq_m_most : List mq_V → mq_R → mq_M → List mq_Cu := fun as ρ μ => match as, ρ with
  | [.inl w], (nw, sp, tl, tx, al) => []
  | _, _ => []
set_option maxHeartbeats 16000000 in
set_option maxRecDepth 100000 in
theorem vq_m_most (lc : Launch)  : mq_Ct lc cq_m_most := by
  refine mq_method (lc := lc) (P := pq_m_most) (cl := []) (T := ([], [], [], [], [], [])) (fuel := 400) (cuts := kq_m_most) (by decide) rfl ⟨rfl, rfl⟩ (fun _ h => absurd h List.not_mem_nil) ⟨(fun _ h => absurd h List.not_mem_nil), (fun _ h => absurd h List.not_mem_nil), (fun _ h => absurd h List.not_mem_nil), (fun _ h => absurd h List.not_mem_nil), (fun _ h => absurd h List.not_mem_nil), (fun _ h => absurd h List.not_mem_nil)⟩ (by decide +kernel) ⟨_, _, rfl⟩ ?_ ?_ ?_ ?_
  · intro as ρ μ h
    obtain ⟨nw, sp, tl, tx, al⟩ := ρ
    obtain ⟨w, as0, rfl, h0⟩ := mq_pI_spec h
    clear h
    obtain ⟨rfl, hp⟩ := mq_p0_spec h0
    clear h0
    rfl
  · intro as ρ μ h
    obtain ⟨nw, sp, tl, tx, al⟩ := ρ
    obtain ⟨w, as0, rfl, h0⟩ := mq_pI_spec h
    clear h
    obtain ⟨rfl, hp⟩ := mq_p0_spec h0
    clear h0
    intro hrg
    obtain ⟨⟨ha0a, ha0b⟩, -⟩ := hrg
    intro hbk
    have e0 : mq_l0 ([.inl w] : List mq_V) 1 = [some (.inl w)] := rfl
    rw [e0]
    repeat' (first | refine And.intro ?_ ?_ | intro _)
    all_goals first | omega | rfl | exact trivial | (simp [mq_up] at * <;> omega)
  · intro as ρ μ h
    obtain ⟨nw, sp, tl, tx, al⟩ := ρ
    obtain ⟨w, as0, rfl, h0⟩ := mq_pI_spec h
    clear h
    obtain ⟨rfl, hp⟩ := mq_p0_spec h0
    clear h0
    exact fun _ h => absurd h List.not_mem_nil
  · intro as ρ μ h
    obtain ⟨nw, sp, tl, tx, al⟩ := ρ
    obtain ⟨w, as0, rfl, h0⟩ := mq_pI_spec h
    clear h
    obtain ⟨rfl, hp⟩ := mq_p0_spec h0
    clear h0
    intro hrg
    obtain ⟨⟨ha0a, ha0b⟩, -⟩ := hrg
    exact fun _ h => absurd h List.not_mem_nil
theorem mw1_m_most : mq_mlA cq_m_most 1 := ⟨kw_1149, ⟨by decide +kernel, by decide +kernel⟩, by decide +kernel, kw_1150, kw_771⟩
def pq_m_many : List mq_E := [(0, false, .aload 0), (1, false, .invokeinterface 11 19), (4, false, .iconst 28), (6, false, .iload 1), (7, false, .iadd), (8, false, .iaload), (9, false, .ireturn)]
def cq_m_many : mq_C := ((yX11_many, cX11_many, 2, (some .int), { frames := 0, cells := 0, slots := 0, locals := 0 }), (2, 1, 0, 0), 0, (fun as ρ μ => match ρ with
  | (nw, sp, tl, tx, al) => mq_pZ as 60 fun as => mq_pI as fun w as => mq_p0 as (0 ≤ w ∧ w ≤ 6)),
  (fun as ρ μ r ρ' μ' => match as, ρ, ρ' with
  | [.inr (.inr (some (_, _))), .inl w], (nw, sp, tl, tx, al), (nw', sp', tl', tx', al') => [r = μ (69, 0) (28 + w).toNat, 0 ≤ r, r ≤ 16, w = 0 → r ≤ 8, w = 1 → r ≤ 6, w = 2 → r ≤ 6, w = 3 → r ≤ 6, w = 4 → r ≤ 4, w = 5 → r ≤ 5]
  | _, _, _ => []))
def kq_m_many : List mq_V → mq_R → mq_M → List mq_Cu := fun as ρ μ => match as, ρ with
  | [.inr (.inr (some (_, _))), .inl w], (nw, sp, tl, tx, al) => []
  | _, _ => []
set_option maxHeartbeats 16000000 in
set_option maxRecDepth 100000 in
theorem vq_m_many (lc : Launch)  : mq_Ct lc cq_m_many := by
  refine mq_method (lc := lc) (P := pq_m_many) (cl := []) (T := ([(40, 11, 19)], [], [], [], [], [])) (fuel := 400) (cuts := kq_m_many) (by decide) rfl ⟨rfl, rfl⟩ (fun _ h => absurd h List.not_mem_nil) ⟨(List.forall_mem_cons.mpr ⟨⟨_, rfl, by decide, kw_837⟩, (fun _ h => absurd h List.not_mem_nil)⟩), (fun _ h => absurd h List.not_mem_nil), (fun _ h => absurd h List.not_mem_nil), (fun _ h => absurd h List.not_mem_nil), (fun _ h => absurd h List.not_mem_nil), (fun _ h => absurd h List.not_mem_nil)⟩ (by decide +kernel) ⟨_, _, rfl⟩ ?_ ?_ ?_ ?_
  · intro as ρ μ h
    obtain ⟨nw, sp, tl, tx, al⟩ := ρ
    obtain ⟨as0, rfl, h0⟩ := mq_pZ_spec h
    clear h
    obtain ⟨w, as1, rfl, h1⟩ := mq_pI_spec h0
    clear h0
    obtain ⟨rfl, hp⟩ := mq_p0_spec h1
    clear h1
    obtain ⟨hp0, hp1⟩ := hp
    rfl
  · intro as ρ μ h
    obtain ⟨nw, sp, tl, tx, al⟩ := ρ
    obtain ⟨as0, rfl, h0⟩ := mq_pZ_spec h
    clear h
    obtain ⟨w, as1, rfl, h1⟩ := mq_pI_spec h0
    clear h0
    obtain ⟨rfl, hp⟩ := mq_p0_spec h1
    clear h1
    obtain ⟨hp0, hp1⟩ := hp
    intro hrg
    obtain ⟨⟨ha1a, ha1b⟩, -⟩ := hrg
    intro hbk
    have e0 : mq_l0 ([.inr (.inr (some (60, 0))), .inl w] : List mq_V) 2 = [some (.inr (.inr (some (60, 0)))), some (.inl w)] := rfl
    rw [e0]
    repeat' (first | refine And.intro ?_ ?_ | intro _)
    all_goals first | omega | rfl | exact trivial | (simp [mq_up] at * <;> omega)
  · intro as ρ μ h
    obtain ⟨nw, sp, tl, tx, al⟩ := ρ
    obtain ⟨as0, rfl, h0⟩ := mq_pZ_spec h
    clear h
    obtain ⟨w, as1, rfl, h1⟩ := mq_pI_spec h0
    clear h0
    obtain ⟨rfl, hp⟩ := mq_p0_spec h1
    clear h1
    obtain ⟨hp0, hp1⟩ := hp
    exact fun _ h => absurd h List.not_mem_nil
  · intro as ρ μ h
    obtain ⟨nw, sp, tl, tx, al⟩ := ρ
    obtain ⟨as0, rfl, h0⟩ := mq_pZ_spec h
    clear h
    obtain ⟨w, as1, rfl, h1⟩ := mq_pI_spec h0
    clear h0
    obtain ⟨rfl, hp⟩ := mq_p0_spec h1
    clear h1
    obtain ⟨hp0, hp1⟩ := hp
    intro hrg
    obtain ⟨⟨ha1a, ha1b⟩, -⟩ := hrg
    exact fun _ h => absurd h List.not_mem_nil
theorem mw0_m_many : mq_mlA cq_m_many 0 := ⟨kw_1111, ⟨by decide +kernel, by decide +kernel⟩, by decide +kernel, kw_1112, kw_1113, kw_771, 60, by decide +kernel, fun as ρ μ h => by obtain ⟨nw, sp, tl, tx, al⟩ := ρ; obtain ⟨t, e, _⟩ := mq_pZ_spec h; exact ⟨0, t, e⟩⟩
def pq_m_yard : List mq_E := [(0, false, .aload 0), (1, false, .iconst 0), (2, false, .aload 0), (3, false, .invokeinterface 11 17), (6, false, .iconst 4), (7, false, .iaload), (8, false, .invokestatic 0), (11, false, .ireturn)]
def cq_m_yard : mq_C := ((yX11_yard, cX11_yard, 1, (some .int), { frames := 3, cells := 0, slots := 0, locals := 67 }), (1, 1, 0, 0), 1152921504606846976, (fun as ρ μ => match ρ with
  | (nw, sp, tl, tx, al) => mq_pZ as 60 fun as => mq_p0 as (μ (60, 0) 7 ≤ μ (60, 0) 6 ∧ 0 ≤ μ (60, 0) 7)),
  (fun as ρ μ r ρ' μ' => match as, ρ, ρ' with
  | [.inr (.inr (some (_, _)))], (nw, sp, tl, tx, al), (nw', sp', tl', tx', al') => [0 ≤ r, r ≤ 400, μ' (60, 0) 7 ≤ μ' (60, 0) 6, 0 ≤ μ' (60, 0) 7, μ (60, 0) 7 ≤ μ' (60, 0) 7]
  | _, _, _ => []))
def kq_m_yard : List mq_V → mq_R → mq_M → List mq_Cu := fun as ρ μ => match as, ρ with
  | [.inr (.inr (some (_, _)))], (nw, sp, tl, tx, al) => []
  | _, _ => []
set_option maxHeartbeats 16000000 in
set_option maxRecDepth 100000 in
theorem vq_m_yard (lc : Launch) (h_m_number : mq_Ct lc cq_m_number) : mq_Ct lc cq_m_yard := by
  refine mq_method (lc := lc) (P := pq_m_yard) (cl := [cq_m_number]) (T := ([(34, 11, 17)], [], [], [(195, 0, 0)], [], [])) (fuel := 400) (cuts := kq_m_yard) (by decide) rfl ⟨rfl, rfl⟩ (List.forall_mem_cons.mpr ⟨h_m_number, (fun _ h => absurd h List.not_mem_nil)⟩) ⟨(List.forall_mem_cons.mpr ⟨⟨_, rfl, by decide, kw_832⟩, (fun _ h => absurd h List.not_mem_nil)⟩), (fun _ h => absurd h List.not_mem_nil), (fun _ h => absurd h List.not_mem_nil), (List.forall_mem_cons.mpr ⟨mq_ml0 rfl mw0_m_number kw_829, (fun _ h => absurd h List.not_mem_nil)⟩), (fun _ h => absurd h List.not_mem_nil), (fun _ h => absurd h List.not_mem_nil)⟩ (by decide +kernel) ⟨_, _, rfl⟩ ?_ ?_ ?_ ?_
  · intro as ρ μ h
    obtain ⟨nw, sp, tl, tx, al⟩ := ρ
    obtain ⟨as0, rfl, h0⟩ := mq_pZ_spec h
    clear h
    obtain ⟨rfl, hp⟩ := mq_p0_spec h0
    clear h0
    obtain ⟨hp0, hp1⟩ := hp
    rfl
  · intro as ρ μ h
    obtain ⟨nw, sp, tl, tx, al⟩ := ρ
    obtain ⟨as0, rfl, h0⟩ := mq_pZ_spec h
    clear h
    obtain ⟨rfl, hp⟩ := mq_p0_spec h0
    clear h0
    obtain ⟨hp0, hp1⟩ := hp
    intro hrg
    intro hbk
    have e0 : mq_l0 ([.inr (.inr (some (60, 0)))] : List mq_V) 1 = [some (.inr (.inr (some (60, 0))))] := rfl
    rw [e0]
    repeat' (first | refine And.intro ?_ ?_ | intro _)
    all_goals try simp only [Int.reduceToNat, Int.reduceAdd, mq_up_f, mq_up_s, mq_up_e, ne_eq, Nat.reduceEqDiff, not_false_eq_true, true_and, and_true, false_and, and_false, false_or, or_false, true_or, or_true, true_implies] at *
    all_goals first | omega | rfl | exact trivial | assumption
  · intro as ρ μ h
    obtain ⟨nw, sp, tl, tx, al⟩ := ρ
    obtain ⟨as0, rfl, h0⟩ := mq_pZ_spec h
    clear h
    obtain ⟨rfl, hp⟩ := mq_p0_spec h0
    clear h0
    obtain ⟨hp0, hp1⟩ := hp
    exact fun _ h => absurd h List.not_mem_nil
  · intro as ρ μ h
    obtain ⟨nw, sp, tl, tx, al⟩ := ρ
    obtain ⟨as0, rfl, h0⟩ := mq_pZ_spec h
    clear h
    obtain ⟨rfl, hp⟩ := mq_p0_spec h0
    clear h0
    obtain ⟨hp0, hp1⟩ := hp
    intro hrg
    exact fun _ h => absurd h List.not_mem_nil
theorem mw0_m_yard : mq_mlA cq_m_yard 0 := ⟨kw_1119, ⟨by decide +kernel, by decide +kernel⟩, by decide +kernel, kw_1120, kw_1121, kw_771, 60, by decide +kernel, fun as ρ μ h => by obtain ⟨nw, sp, tl, tx, al⟩ := ρ; obtain ⟨t, e, _⟩ := mq_pZ_spec h; exact ⟨0, t, e⟩⟩
def pq_m_clears : List mq_E := [(0, false, .aload 0), (1, false, .invokeinterface 11 16), (4, false, .iconst 4), (5, false, .iconst 0), (6, false, .iastore), (7, false, .aload 0), (8, false, .invokeinterface 11 17), (11, false, .iconst 4), (12, false, .iconst 0), (13, false, .iastore), (14, false, .aload 0), (15, false, .invokeinterface 11 18), (18, false, .iconst 4), (19, false, .iconst 0), (20, false, .iastore), (21, false, .iconst 0), (22, false, .istore 1), (23, true, .iload 1), (24, false, .iconst 7), (26, false, .if_icmp .ge (Int.ofNat 45)), (29, false, .aload 0), (30, false, .invokeinterface 11 19), (33, false, .iconst 28), (35, false, .iload 1), (36, false, .iadd), (37, false, .iconst 0), (38, false, .iastore), (39, false, .iinc 1 1), (42, false, .goto (Int.ofNat 23)), (45, false, .return_)]
def cq_m_clears : mq_C := ((yX11_clears, cX11_clears, 2, none, { frames := 0, cells := 0, slots := 0, locals := 0 }), (1, 0, 0, 0), 1106804644422573096960, (fun as ρ μ => match ρ with
  | (nw, sp, tl, tx, al) => mq_pZ as 60 fun as => mq_p0 as (True)),
  (fun as ρ μ r ρ' μ' => match as, ρ, ρ' with
  | [.inr (.inr (some (_, _)))], (nw, sp, tl, tx, al), (nw', sp', tl', tx', al') => [μ' (69, 0) 34 = 0, sq_bx (∀ x : Nat, x < 28 → μ' (69, 0) x = μ (69, 0) x)]
  | _, _, _ => []))
def kq_m_clears : List mq_V → mq_R → mq_M → List mq_Cu := fun as ρ μ => match as, ρ with
  | [.inr (.inr (some (_, _)))], (nw, sp, tl, tx, al) => [(23, [true, true], fun N l st ρ' μ' cs => mq_tZ l 60 fun l => mq_tI l fun v1 l => mq_t0 l (st = [] ∧ ρ' = (nw, sp, tl, tx, al) ∧ cs = 0 ∧ 0 ≤ v1 ∧ v1 ≤ 7 ∧ (6 < v1 → μ' (69, 0) 34 = 0) ∧ sq_bx (∀ x : Nat, x < 28 → μ' (69, 0) x = μ (69, 0) x) ∧ 0 ≤ (7 - v1 : Int) ∧ (7 - v1 : Int) < (N : Int)))]
  | _, _ => []
set_option maxHeartbeats 16000000 in
set_option maxRecDepth 100000 in
theorem vq_m_clears (lc : Launch)  : mq_Ct lc cq_m_clears := by
  refine mq_method (lc := lc) (P := pq_m_clears) (cl := []) (T := ([(31, 11, 16), (34, 11, 17), (37, 11, 18), (40, 11, 19)], [], [], [], [], [])) (fuel := 400) (cuts := kq_m_clears) (by decide) rfl ⟨rfl, rfl⟩ (fun _ h => absurd h List.not_mem_nil) ⟨(List.forall_mem_cons.mpr ⟨⟨_, rfl, by decide, kw_846⟩, (List.forall_mem_cons.mpr ⟨⟨_, rfl, by decide, kw_832⟩, (List.forall_mem_cons.mpr ⟨⟨_, rfl, by decide, kw_838⟩, (List.forall_mem_cons.mpr ⟨⟨_, rfl, by decide, kw_837⟩, (fun _ h => absurd h List.not_mem_nil)⟩)⟩)⟩)⟩), (fun _ h => absurd h List.not_mem_nil), (fun _ h => absurd h List.not_mem_nil), (fun _ h => absurd h List.not_mem_nil), (fun _ h => absurd h List.not_mem_nil), (fun _ h => absurd h List.not_mem_nil)⟩ (by decide +kernel) ⟨_, _, rfl⟩ ?_ ?_ ?_ ?_
  · intro as ρ μ h
    obtain ⟨nw, sp, tl, tx, al⟩ := ρ
    obtain ⟨as0, rfl, h0⟩ := mq_pZ_spec h
    clear h
    obtain ⟨rfl, hp⟩ := mq_p0_spec h0
    clear h0
    rfl
  · intro as ρ μ h
    obtain ⟨nw, sp, tl, tx, al⟩ := ρ
    obtain ⟨as0, rfl, h0⟩ := mq_pZ_spec h
    clear h
    obtain ⟨rfl, hp⟩ := mq_p0_spec h0
    clear h0
    intro hrg
    intro hbk
    have e0 : mq_l0 ([.inr (.inr (some (60, 0)))] : List mq_V) 2 = [some (.inr (.inr (some (60, 0)))), none] := rfl
    rw [e0]
    repeat' (first | refine And.intro ?_ ?_ | intro _)
    all_goals try simp only [Int.reduceToNat, Int.reduceAdd, mq_up_f, mq_up_s, mq_up_e, ne_eq, Nat.reduceEqDiff, not_false_eq_true, true_and, and_true, false_and, and_false, false_or, or_false, true_or, or_true, true_implies] at *
    all_goals first | omega | rfl | exact trivial | assumption | exact sq_m (fun _ _ => by first | rfl | trivial)
  · intro as ρ μ h
    obtain ⟨nw, sp, tl, tx, al⟩ := ρ
    obtain ⟨as0, rfl, h0⟩ := mq_pZ_spec h
    clear h
    obtain ⟨rfl, hp⟩ := mq_p0_spec h0
    clear h0
    refine List.forall_mem_cons.mpr ⟨?_, ?_⟩
    · intro l st ρ' μ' cs hJ
      obtain ⟨l0, rfl, hJ0⟩ := mq_tZ_spec hJ
      clear hJ
      obtain ⟨v1, l1, rfl, hJ1⟩ := mq_tI_spec hJ0
      clear hJ0
      obtain ⟨rfl, hJz⟩ := mq_t0_spec hJ1
      clear hJ1
      obtain ⟨rfl, rfl, rfl, hc0, hc1, hc2, hc3, hm0, hm1⟩ := hJz
      omega
    exact fun _ h => absurd h List.not_mem_nil
  · intro as ρ μ h
    obtain ⟨nw, sp, tl, tx, al⟩ := ρ
    obtain ⟨as0, rfl, h0⟩ := mq_pZ_spec h
    clear h
    obtain ⟨rfl, hp⟩ := mq_p0_spec h0
    clear h0
    intro hrg
    refine List.forall_mem_cons.mpr ⟨?_, ?_⟩
    · intro N l st ρ' μ' cs hJ
      obtain ⟨l0, rfl, hJ0⟩ := mq_tZ_spec hJ
      clear hJ
      obtain ⟨v1, l1, rfl, hJ1⟩ := mq_tI_spec hJ0
      clear hJ0
      obtain ⟨rfl, hJz⟩ := mq_t0_spec hJ1
      clear hJ1
      obtain ⟨rfl, rfl, rfl, hc0, hc1, hc2, hc3, hm0, hm1⟩ := hJz
      intro hbk hrl
      obtain ⟨⟨hl1a, hl1b⟩, -⟩ := hrl
      repeat' (first | refine And.intro ?_ ?_ | intro _)
      all_goals try simp only [Int.reduceToNat, Int.reduceAdd, mq_up_f, mq_up_s, mq_up_e, ne_eq, Nat.reduceEqDiff, not_false_eq_true, true_and, and_true, false_and, and_false, false_or, or_false, true_or, or_true, true_implies] at *
      all_goals first | omega | rfl | exact trivial | assumption | (rw [mq_up_row]; split <;> omega) | exact sq_m (fun x hx => by rw [mq_up_row, if_neg (by omega)]; exact sq_g hc3 x hx)
    exact fun _ h => absurd h List.not_mem_nil
theorem mw0_m_clears : mq_mlA cq_m_clears 0 := ⟨kw_1157, ⟨by decide +kernel, by decide +kernel⟩, by decide +kernel, kw_1158, kw_1159, kw_771, 60, by decide +kernel, fun as ρ μ h => by obtain ⟨nw, sp, tl, tx, al⟩ := ρ; obtain ⟨t, e, _⟩ := mq_pZ_spec h; exact ⟨0, t, e⟩⟩
def pq_m_slopeAt : List mq_E := [(0, false, .iconst 0), (1, false, .istore 2), (2, false, .iconst 0), (3, false, .istore 3), (4, true, .iload 3), (5, false, .aload 0), (6, false, .invokeinterface 11 19), (9, false, .iconst 0), (10, false, .jsr 0), (11, false, .if_icmp .ge (Int.ofNat 43)), (14, false, .aload 0), (15, false, .invokeinterface 11 20), (18, false, .iconst 2), (19, false, .iload 3), (20, false, .imul), (21, false, .iaload), (22, false, .iload 1), (23, false, .if_icmp .gt (Int.ofNat 37)), (26, false, .aload 0), (27, false, .invokeinterface 11 20), (30, false, .iconst 2), (31, false, .iload 3), (32, false, .imul), (33, false, .iconst 1), (34, false, .iadd), (35, false, .iaload), (36, false, .istore 2), (37, false, .iinc 3 1), (40, false, .goto (Int.ofNat 4)), (43, false, .iload 2), (44, false, .ireturn)]
def cq_m_slopeAt : mq_C := ((yX11_slopeAt, cX11_slopeAt, 4, (some .int), { frames := 0, cells := 0, slots := 0, locals := 0 }), (2, 1, 0, 0), 0, (fun as ρ μ => match ρ with
  | (nw, sp, tl, tx, al) => mq_pZ as 60 fun as => mq_pI as fun y as => mq_p0 as (True)),
  (fun as ρ μ r ρ' μ' => match as, ρ, ρ' with
  | [.inr (.inr (some (_, _))), .inl y], (nw, sp, tl, tx, al), (nw', sp', tl', tx', al') => [-9 ≤ r, r ≤ 400, r = sq_slope (μ (70, 0)) y (μ (69, 0) 0).toNat]
  | _, _, _ => []))
def kq_m_slopeAt : List mq_V → mq_R → mq_M → List mq_Cu := fun as ρ μ => match as, ρ with
  | [.inr (.inr (some (_, _))), .inl y], (nw, sp, tl, tx, al) => [(4, [true, true, true, true], fun N l st ρ' μ' cs => mq_tZ l 60 fun l => mq_tI l fun v1 l => mq_tI l fun v2 l => mq_tI l fun v3 l => mq_t0 l (st = [] ∧ ρ' = (nw, sp, tl, tx, al) ∧ cs = 0 ∧ v1 = y ∧ μ = μ' ∧ -9 ≤ v2 ∧ v2 ≤ 400 ∧ 0 ≤ v3 ∧ v3 ≤ 8 ∧ v3 ≤ μ (69, 0) 0 ∧ v2 = sq_slope (μ (70, 0)) y v3.toNat ∧ 0 ≤ (8 - v3 : Int) ∧ (8 - v3 : Int) < (N : Int)))]
  | _, _ => []
set_option maxHeartbeats 16000000 in
set_option maxRecDepth 100000 in
theorem vq_m_slopeAt (lc : Launch)  : mq_Ct lc cq_m_slopeAt := by
  refine mq_method (lc := lc) (P := pq_m_slopeAt) (cl := []) (T := ([(40, 11, 19), (43, 11, 20)], [], [], [], [], [])) (fuel := 400) (cuts := kq_m_slopeAt) (by decide) rfl ⟨rfl, rfl⟩ (fun _ h => absurd h List.not_mem_nil) ⟨(List.forall_mem_cons.mpr ⟨⟨_, rfl, by decide, kw_837⟩, (List.forall_mem_cons.mpr ⟨⟨_, rfl, by decide, kw_847⟩, (fun _ h => absurd h List.not_mem_nil)⟩)⟩), (fun _ h => absurd h List.not_mem_nil), (fun _ h => absurd h List.not_mem_nil), (fun _ h => absurd h List.not_mem_nil), (fun _ h => absurd h List.not_mem_nil), (fun _ h => absurd h List.not_mem_nil)⟩ (by decide +kernel) ⟨_, _, rfl⟩ ?_ ?_ ?_ ?_
  · intro as ρ μ h
    obtain ⟨nw, sp, tl, tx, al⟩ := ρ
    obtain ⟨as0, rfl, h0⟩ := mq_pZ_spec h
    clear h
    obtain ⟨y, as1, rfl, h1⟩ := mq_pI_spec h0
    clear h0
    obtain ⟨rfl, hp⟩ := mq_p0_spec h1
    clear h1
    rfl
  · intro as ρ μ h
    obtain ⟨nw, sp, tl, tx, al⟩ := ρ
    obtain ⟨as0, rfl, h0⟩ := mq_pZ_spec h
    clear h
    obtain ⟨y, as1, rfl, h1⟩ := mq_pI_spec h0
    clear h0
    obtain ⟨rfl, hp⟩ := mq_p0_spec h1
    clear h1
    intro hrg
    obtain ⟨⟨ha1a, ha1b⟩, -⟩ := hrg
    intro hbk
    have hk0 : 0 ≤ μ (69, 0) 0 ∧ μ (69, 0) 0 ≤ 8 := hbk (69, 0) 0
    have e0 : mq_l0 ([.inr (.inr (some (60, 0))), .inl y] : List mq_V) 4 = [some (.inr (.inr (some (60, 0)))), some (.inl y), none, none] := rfl
    rw [e0]
    repeat' (first | refine And.intro ?_ ?_ | intro _)
    all_goals first | omega | rfl | exact trivial | (simp [mq_up] at * <;> omega)
  · intro as ρ μ h
    obtain ⟨nw, sp, tl, tx, al⟩ := ρ
    obtain ⟨as0, rfl, h0⟩ := mq_pZ_spec h
    clear h
    obtain ⟨y, as1, rfl, h1⟩ := mq_pI_spec h0
    clear h0
    obtain ⟨rfl, hp⟩ := mq_p0_spec h1
    clear h1
    refine List.forall_mem_cons.mpr ⟨?_, ?_⟩
    · intro l st ρ' μ' cs hJ
      obtain ⟨l0, rfl, hJ0⟩ := mq_tZ_spec hJ
      clear hJ
      obtain ⟨v1, l1, rfl, hJ1⟩ := mq_tI_spec hJ0
      clear hJ0
      obtain ⟨v2, l2, rfl, hJ2⟩ := mq_tI_spec hJ1
      clear hJ1
      obtain ⟨v3, l3, rfl, hJ3⟩ := mq_tI_spec hJ2
      clear hJ2
      obtain ⟨rfl, hJz⟩ := mq_t0_spec hJ3
      clear hJ3
      obtain ⟨rfl, rfl, rfl, hc0, rfl, hc2, hc3, hc4, hc5, hc6, hc7, hm0, hm1⟩ := hJz
      omega
    exact fun _ h => absurd h List.not_mem_nil
  · intro as ρ μ h
    obtain ⟨nw, sp, tl, tx, al⟩ := ρ
    obtain ⟨as0, rfl, h0⟩ := mq_pZ_spec h
    clear h
    obtain ⟨y, as1, rfl, h1⟩ := mq_pI_spec h0
    clear h0
    obtain ⟨rfl, hp⟩ := mq_p0_spec h1
    clear h1
    intro hrg
    obtain ⟨⟨ha1a, ha1b⟩, -⟩ := hrg
    refine List.forall_mem_cons.mpr ⟨?_, ?_⟩
    · intro N l st ρ' μ' cs hJ
      obtain ⟨l0, rfl, hJ0⟩ := mq_tZ_spec hJ
      clear hJ
      obtain ⟨v1, l1, rfl, hJ1⟩ := mq_tI_spec hJ0
      clear hJ0
      obtain ⟨v2, l2, rfl, hJ2⟩ := mq_tI_spec hJ1
      clear hJ1
      obtain ⟨v3, l3, rfl, hJ3⟩ := mq_tI_spec hJ2
      clear hJ2
      obtain ⟨rfl, hJz⟩ := mq_t0_spec hJ3
      clear hJ3
      obtain ⟨rfl, rfl, rfl, hc0, rfl, hc2, hc3, hc4, hc5, hc6, hc7, hm0, hm1⟩ := hJz
      intro hbk hrl
      have hk0 : 0 ≤ μ (69, 0) 0 ∧ μ (69, 0) 0 ≤ 8 := hbk (69, 0) 0
      obtain ⟨⟨hl1a, hl1b⟩, ⟨hl2a, hl2b⟩, ⟨hl3a, hl3b⟩, -⟩ := hrl
      subst hc0
      repeat' (first | refine And.intro ?_ ?_ | intro _)
      all_goals try simp only [Int.reduceToNat, Int.reduceAdd, mq_up_f, mq_up_s, mq_up_e, ne_eq, Nat.reduceEqDiff, not_false_eq_true, true_and, and_true, false_and, and_false, false_or, or_false, true_or, or_true, true_implies] at *
      all_goals first | omega | rfl | exact trivial | assumption | exact sq_end (F := sq_slope _ _) hc7 (by omega) | (rw [sq_slope_y (by omega) (by omega)]; omega) | (rw [sq_slope_n (by omega) (by omega)]; omega)
    exact fun _ h => absurd h List.not_mem_nil
theorem mw0_m_slopeAt : mq_mlA cq_m_slopeAt 0 := ⟨kw_855, ⟨by decide +kernel, by decide +kernel⟩, by decide +kernel, kw_856, kw_857, kw_771, 60, by decide +kernel, fun as ρ μ h => by obtain ⟨nw, sp, tl, tx, al⟩ := ρ; obtain ⟨t, e, _⟩ := mq_pZ_spec h; exact ⟨0, t, e⟩⟩
def pq_m_wetAt : List mq_E := [(0, false, .aload 0), (1, false, .invokeinterface 11 18), (4, false, .iconst 0), (5, false, .iaload), (6, false, .istore 2), (7, false, .iconst 0), (8, false, .istore 3), (9, true, .iload 3), (10, false, .aload 0), (11, false, .invokeinterface 11 19), (14, false, .iconst 1), (15, false, .jsr 1), (16, false, .if_icmp .ge (Int.ofNat 78)), (19, false, .iload 1), (20, false, .i2l), (21, false, .aload 0), (22, false, .invokeinterface 11 21), (25, false, .iconst 3), (26, false, .iload 3), (27, false, .imul), (28, false, .jsr 0), (29, false, .i2l), (30, false, .aload 0), (31, false, .invokeinterface 11 21), (34, false, .iconst 3), (35, false, .iload 3), (36, false, .imul), (37, false, .iconst 1), (38, false, .iadd), (39, false, .jsr 1), (40, false, .i2l), (41, false, .invokestatic 0), (44, false, .ifCond .eq (Int.ofNat 72)), (47, false, .aload 0), (48, false, .invokeinterface 11 21), (51, false, .iconst 3), (52, false, .iload 3), (53, false, .imul), (54, false, .iconst 2), (55, false, .iadd), (56, false, .jsr 2), (57, false, .iload 2), (58, false, .if_icmp .le (Int.ofNat 72)), (61, false, .aload 0), (62, false, .invokeinterface 11 21), (65, false, .iconst 3), (66, false, .iload 3), (67, false, .imul), (68, false, .iconst 2), (69, false, .iadd), (70, false, .jsr 2), (71, false, .istore 2), (72, false, .iinc 3 1), (75, false, .goto (Int.ofNat 9)), (78, false, .iload 2), (79, false, .ireturn)]
def cq_m_wetAt : mq_C := ((yX11_wetAt, cX11_wetAt, 4, (some .int), { frames := 1, cells := 0, slots := 0, locals := 25 }), (2, 1, 0, 0), 0, (fun as ρ μ => match ρ with
  | (nw, sp, tl, tx, al) => mq_pZ as 60 fun as => mq_pI as fun y as => mq_p0 as (True)),
  (fun as ρ μ r ρ' μ' => match as, ρ, ρ' with
  | [.inr (.inr (some (_, _))), .inl y], (nw, sp, tl, tx, al), (nw', sp', tl', tx', al') => [0 ≤ r, r ≤ 100, r = sq_wet (μ (71, 0)) (μ (68, 0) 0) y (μ (69, 0) 1).toNat]
  | _, _, _ => []))
def kq_m_wetAt : List mq_V → mq_R → mq_M → List mq_Cu := fun as ρ μ => match as, ρ with
  | [.inr (.inr (some (_, _))), .inl y], (nw, sp, tl, tx, al) => [(9, [true, true, true, true], fun N l st ρ' μ' cs => mq_tZ l 60 fun l => mq_tI l fun v1 l => mq_tI l fun v2 l => mq_tI l fun v3 l => mq_t0 l (st = [] ∧ ρ' = (nw, sp, tl, tx, al) ∧ cs = 0 ∧ v1 = y ∧ μ = μ' ∧ 0 ≤ v2 ∧ v2 ≤ 100 ∧ 0 ≤ v3 ∧ v3 ≤ 6 ∧ v3 ≤ μ (69, 0) 1 ∧ v2 = sq_wet (μ (71, 0)) (μ (68, 0) 0) y v3.toNat ∧ 0 ≤ (6 - v3 : Int) ∧ (6 - v3 : Int) < (N : Int)))]
  | _, _ => []
set_option maxHeartbeats 16000000 in
set_option maxRecDepth 100000 in
theorem vq_m_wetAt (lc : Launch) (h_m_in : mq_Ct lc cq_m_in) : mq_Ct lc cq_m_wetAt := by
  refine mq_method (lc := lc) (P := pq_m_wetAt) (cl := [cq_m_in]) (T := ([(37, 11, 18), (40, 11, 19), (46, 11, 21)], [], [], [(125, 0, 1)], [], [])) (fuel := 400) (cuts := kq_m_wetAt) (by decide) rfl ⟨rfl, rfl⟩ (List.forall_mem_cons.mpr ⟨h_m_in, (fun _ h => absurd h List.not_mem_nil)⟩) ⟨(List.forall_mem_cons.mpr ⟨⟨_, rfl, by decide, kw_838⟩, (List.forall_mem_cons.mpr ⟨⟨_, rfl, by decide, kw_837⟩, (List.forall_mem_cons.mpr ⟨⟨_, rfl, by decide, kw_848⟩, (fun _ h => absurd h List.not_mem_nil)⟩)⟩)⟩), (fun _ h => absurd h List.not_mem_nil), (fun _ h => absurd h List.not_mem_nil), (List.forall_mem_cons.mpr ⟨mq_ml1 rfl mw1_m_in kw_772, (fun _ h => absurd h List.not_mem_nil)⟩), (fun _ h => absurd h List.not_mem_nil), (fun _ h => absurd h List.not_mem_nil)⟩ (by decide +kernel) ⟨_, _, rfl⟩ ?_ ?_ ?_ ?_
  · intro as ρ μ h
    obtain ⟨nw, sp, tl, tx, al⟩ := ρ
    obtain ⟨as0, rfl, h0⟩ := mq_pZ_spec h
    clear h
    obtain ⟨y, as1, rfl, h1⟩ := mq_pI_spec h0
    clear h0
    obtain ⟨rfl, hp⟩ := mq_p0_spec h1
    clear h1
    rfl
  · intro as ρ μ h
    obtain ⟨nw, sp, tl, tx, al⟩ := ρ
    obtain ⟨as0, rfl, h0⟩ := mq_pZ_spec h
    clear h
    obtain ⟨y, as1, rfl, h1⟩ := mq_pI_spec h0
    clear h0
    obtain ⟨rfl, hp⟩ := mq_p0_spec h1
    clear h1
    intro hrg
    obtain ⟨⟨ha1a, ha1b⟩, -⟩ := hrg
    intro hbk
    have hk0 : 0 ≤ μ (69, 0) 1 ∧ μ (69, 0) 1 ≤ 6 := hbk (69, 0) 1
    have e0 : mq_l0 ([.inr (.inr (some (60, 0))), .inl y] : List mq_V) 4 = [some (.inr (.inr (some (60, 0)))), some (.inl y), none, none] := rfl
    rw [e0]
    repeat' (first | refine And.intro ?_ ?_ | intro _)
    all_goals first | omega | rfl | exact trivial | assumption | (subst_vars; rfl)
  · intro as ρ μ h
    obtain ⟨nw, sp, tl, tx, al⟩ := ρ
    obtain ⟨as0, rfl, h0⟩ := mq_pZ_spec h
    clear h
    obtain ⟨y, as1, rfl, h1⟩ := mq_pI_spec h0
    clear h0
    obtain ⟨rfl, hp⟩ := mq_p0_spec h1
    clear h1
    refine List.forall_mem_cons.mpr ⟨?_, ?_⟩
    · intro l st ρ' μ' cs hJ
      obtain ⟨l0, rfl, hJ0⟩ := mq_tZ_spec hJ
      clear hJ
      obtain ⟨v1, l1, rfl, hJ1⟩ := mq_tI_spec hJ0
      clear hJ0
      obtain ⟨v2, l2, rfl, hJ2⟩ := mq_tI_spec hJ1
      clear hJ1
      obtain ⟨v3, l3, rfl, hJ3⟩ := mq_tI_spec hJ2
      clear hJ2
      obtain ⟨rfl, hJz⟩ := mq_t0_spec hJ3
      clear hJ3
      obtain ⟨rfl, rfl, rfl, hc0, rfl, hc2, hc3, hc4, hc5, hc6, hc7, hm0, hm1⟩ := hJz
      omega
    exact fun _ h => absurd h List.not_mem_nil
  · intro as ρ μ h
    obtain ⟨nw, sp, tl, tx, al⟩ := ρ
    obtain ⟨as0, rfl, h0⟩ := mq_pZ_spec h
    clear h
    obtain ⟨y, as1, rfl, h1⟩ := mq_pI_spec h0
    clear h0
    obtain ⟨rfl, hp⟩ := mq_p0_spec h1
    clear h1
    intro hrg
    obtain ⟨⟨ha1a, ha1b⟩, -⟩ := hrg
    refine List.forall_mem_cons.mpr ⟨?_, ?_⟩
    · intro N l st ρ' μ' cs hJ
      obtain ⟨l0, rfl, hJ0⟩ := mq_tZ_spec hJ
      clear hJ
      obtain ⟨v1, l1, rfl, hJ1⟩ := mq_tI_spec hJ0
      clear hJ0
      obtain ⟨v2, l2, rfl, hJ2⟩ := mq_tI_spec hJ1
      clear hJ1
      obtain ⟨v3, l3, rfl, hJ3⟩ := mq_tI_spec hJ2
      clear hJ2
      obtain ⟨rfl, hJz⟩ := mq_t0_spec hJ3
      clear hJ3
      obtain ⟨rfl, rfl, rfl, hc0, rfl, hc2, hc3, hc4, hc5, hc6, hc7, hm0, hm1⟩ := hJz
      intro hbk hrl
      have hk0 : 0 ≤ μ (69, 0) 1 ∧ μ (69, 0) 1 ≤ 6 := hbk (69, 0) 1
      obtain ⟨⟨hl1a, hl1b⟩, ⟨hl2a, hl2b⟩, ⟨hl3a, hl3b⟩, -⟩ := hrl
      subst hc0
      repeat' (first | refine And.intro ?_ ?_ | intro _)
      all_goals try simp only [Int.reduceToNat, Int.reduceAdd, mq_up_f, mq_up_s, mq_up_e, ne_eq, Nat.reduceEqDiff, not_false_eq_true, true_and, and_true, false_and, and_false, false_or, or_false, true_or, or_true, true_implies] at *
      all_goals first | omega | rfl | exact trivial | assumption | exact sq_end (F := sq_wet _ _ _) hc7 (by omega) | (rw [sq_wet_y (by omega) (by omega)]; omega) | (rw [sq_wet_n (by omega) (by omega)]; omega)
    exact fun _ h => absurd h List.not_mem_nil
theorem mw0_m_wetAt : mq_mlA cq_m_wetAt 0 := ⟨kw_859, ⟨by decide +kernel, by decide +kernel⟩, by decide +kernel, kw_860, kw_861, kw_771, 60, by decide +kernel, fun as ρ μ h => by obtain ⟨nw, sp, tl, tx, al⟩ := ρ; obtain ⟨t, e, _⟩ := mq_pZ_spec h; exact ⟨0, t, e⟩⟩
def pq_m_limitAt : List mq_E := [(0, false, .iconst 15), (2, false, .istore 2), (3, false, .iconst 0), (4, false, .istore 3), (5, true, .iload 3), (6, false, .aload 0), (7, false, .invokeinterface 11 19), (10, false, .iconst 2), (11, false, .jsr 2), (12, false, .if_icmp .ge (Int.ofNat 44)), (15, false, .aload 0), (16, false, .invokeinterface 11 22), (19, false, .iconst 2), (20, false, .iload 3), (21, false, .imul), (22, false, .iaload), (23, false, .iload 1), (24, false, .if_icmp .gt (Int.ofNat 38)), (27, false, .aload 0), (28, false, .invokeinterface 11 22), (31, false, .iconst 2), (32, false, .iload 3), (33, false, .imul), (34, false, .iconst 1), (35, false, .iadd), (36, false, .iaload), (37, false, .istore 2), (38, false, .iinc 3 1), (41, false, .goto (Int.ofNat 5)), (44, false, .iload 2), (45, false, .ireturn)]
def cq_m_limitAt : mq_C := ((yX11_limitAt, cX11_limitAt, 4, (some .int), { frames := 0, cells := 0, slots := 0, locals := 0 }), (2, 1, 0, 0), 0, (fun as ρ μ => match ρ with
  | (nw, sp, tl, tx, al) => mq_pZ as 60 fun as => mq_pI as fun y as => mq_p0 as (True)),
  (fun as ρ μ r ρ' μ' => match as, ρ, ρ' with
  | [.inr (.inr (some (_, _))), .inl y], (nw, sp, tl, tx, al), (nw', sp', tl', tx', al') => [0 ≤ r, r ≤ 400]
  | _, _, _ => []))
def kq_m_limitAt : List mq_V → mq_R → mq_M → List mq_Cu := fun as ρ μ => match as, ρ with
  | [.inr (.inr (some (_, _))), .inl y], (nw, sp, tl, tx, al) => [(5, [true, true, true, true], fun N l st ρ' μ' cs => mq_tZ l 60 fun l => mq_tI l fun v1 l => mq_tI l fun v2 l => mq_tI l fun v3 l => mq_t0 l (st = [] ∧ ρ' = (nw, sp, tl, tx, al) ∧ cs = 0 ∧ v1 = y ∧ 0 ≤ v2 ∧ v2 ≤ 400 ∧ 0 ≤ v3 ∧ v3 ≤ 6 ∧ 0 ≤ (6 - v3 : Int) ∧ (6 - v3 : Int) < (N : Int)))]
  | _, _ => []
set_option maxHeartbeats 16000000 in
set_option maxRecDepth 100000 in
theorem vq_m_limitAt (lc : Launch)  : mq_Ct lc cq_m_limitAt := by
  refine mq_method (lc := lc) (P := pq_m_limitAt) (cl := []) (T := ([(40, 11, 19), (49, 11, 22)], [], [], [], [], [])) (fuel := 400) (cuts := kq_m_limitAt) (by decide) rfl ⟨rfl, rfl⟩ (fun _ h => absurd h List.not_mem_nil) ⟨(List.forall_mem_cons.mpr ⟨⟨_, rfl, by decide, kw_837⟩, (List.forall_mem_cons.mpr ⟨⟨_, rfl, by decide, kw_849⟩, (fun _ h => absurd h List.not_mem_nil)⟩)⟩), (fun _ h => absurd h List.not_mem_nil), (fun _ h => absurd h List.not_mem_nil), (fun _ h => absurd h List.not_mem_nil), (fun _ h => absurd h List.not_mem_nil), (fun _ h => absurd h List.not_mem_nil)⟩ (by decide +kernel) ⟨_, _, rfl⟩ ?_ ?_ ?_ ?_
  · intro as ρ μ h
    obtain ⟨nw, sp, tl, tx, al⟩ := ρ
    obtain ⟨as0, rfl, h0⟩ := mq_pZ_spec h
    clear h
    obtain ⟨y, as1, rfl, h1⟩ := mq_pI_spec h0
    clear h0
    obtain ⟨rfl, hp⟩ := mq_p0_spec h1
    clear h1
    rfl
  · intro as ρ μ h
    obtain ⟨nw, sp, tl, tx, al⟩ := ρ
    obtain ⟨as0, rfl, h0⟩ := mq_pZ_spec h
    clear h
    obtain ⟨y, as1, rfl, h1⟩ := mq_pI_spec h0
    clear h0
    obtain ⟨rfl, hp⟩ := mq_p0_spec h1
    clear h1
    intro hrg
    obtain ⟨⟨ha1a, ha1b⟩, -⟩ := hrg
    intro hbk
    have e0 : mq_l0 ([.inr (.inr (some (60, 0))), .inl y] : List mq_V) 4 = [some (.inr (.inr (some (60, 0)))), some (.inl y), none, none] := rfl
    rw [e0]
    repeat' (first | refine And.intro ?_ ?_ | intro _)
    all_goals first | omega | rfl | exact trivial | (simp [mq_up] at * <;> omega)
  · intro as ρ μ h
    obtain ⟨nw, sp, tl, tx, al⟩ := ρ
    obtain ⟨as0, rfl, h0⟩ := mq_pZ_spec h
    clear h
    obtain ⟨y, as1, rfl, h1⟩ := mq_pI_spec h0
    clear h0
    obtain ⟨rfl, hp⟩ := mq_p0_spec h1
    clear h1
    refine List.forall_mem_cons.mpr ⟨?_, ?_⟩
    · intro l st ρ' μ' cs hJ
      obtain ⟨l0, rfl, hJ0⟩ := mq_tZ_spec hJ
      clear hJ
      obtain ⟨v1, l1, rfl, hJ1⟩ := mq_tI_spec hJ0
      clear hJ0
      obtain ⟨v2, l2, rfl, hJ2⟩ := mq_tI_spec hJ1
      clear hJ1
      obtain ⟨v3, l3, rfl, hJ3⟩ := mq_tI_spec hJ2
      clear hJ2
      obtain ⟨rfl, hJz⟩ := mq_t0_spec hJ3
      clear hJ3
      obtain ⟨rfl, rfl, rfl, hc0, hc1, hc2, hc3, hc4, hm0, hm1⟩ := hJz
      omega
    exact fun _ h => absurd h List.not_mem_nil
  · intro as ρ μ h
    obtain ⟨nw, sp, tl, tx, al⟩ := ρ
    obtain ⟨as0, rfl, h0⟩ := mq_pZ_spec h
    clear h
    obtain ⟨y, as1, rfl, h1⟩ := mq_pI_spec h0
    clear h0
    obtain ⟨rfl, hp⟩ := mq_p0_spec h1
    clear h1
    intro hrg
    obtain ⟨⟨ha1a, ha1b⟩, -⟩ := hrg
    refine List.forall_mem_cons.mpr ⟨?_, ?_⟩
    · intro N l st ρ' μ' cs hJ
      obtain ⟨l0, rfl, hJ0⟩ := mq_tZ_spec hJ
      clear hJ
      obtain ⟨v1, l1, rfl, hJ1⟩ := mq_tI_spec hJ0
      clear hJ0
      obtain ⟨v2, l2, rfl, hJ2⟩ := mq_tI_spec hJ1
      clear hJ1
      obtain ⟨v3, l3, rfl, hJ3⟩ := mq_tI_spec hJ2
      clear hJ2
      obtain ⟨rfl, hJz⟩ := mq_t0_spec hJ3
      clear hJ3
      obtain ⟨rfl, rfl, rfl, hc0, hc1, hc2, hc3, hc4, hm0, hm1⟩ := hJz
      intro hbk hrl
      obtain ⟨⟨hl1a, hl1b⟩, ⟨hl2a, hl2b⟩, ⟨hl3a, hl3b⟩, -⟩ := hrl
      repeat' (first | refine And.intro ?_ ?_ | intro _)
      all_goals first | omega | rfl | exact trivial | (simp [mq_up] at * <;> omega)
    exact fun _ h => absurd h List.not_mem_nil
theorem mw0_m_limitAt : mq_mlA cq_m_limitAt 0 := ⟨kw_863, ⟨by decide +kernel, by decide +kernel⟩, by decide +kernel, kw_864, kw_865, kw_771, 60, by decide +kernel, fun as ρ μ h => by obtain ⟨nw, sp, tl, tx, al⟩ := ρ; obtain ⟨t, e, _⟩ := mq_pZ_spec h; exact ⟨0, t, e⟩⟩
def pq_m_yard_ : List mq_E := [(0, false, .aload 0), (1, false, .iconst 0), (2, false, .multianewarray 11 0), (5, false, .aload 0), (6, false, .iload 1), (7, false, .invokestatic 0), (10, false, .ifCond .eq (Int.ofNat 25)), (13, false, .iload 2), (14, false, .i2l), (15, false, .goto_w 0), (16, false, .goto_w 2), (19, false, .invokestatic 1), (22, false, .ifCond .ne (Int.ofNat 30)), (25, false, .iconst (-2)), (27, false, .goto (Int.ofNat 63)), (30, false, .iload 2), (31, false, .ifCond .ne (Int.ofNat 45)), (34, false, .aload 0), (35, false, .iload 1), (36, false, .invokestatic 2), (39, false, .iconst 10), (41, false, .iadd), (42, false, .goto (Int.ofNat 63)), (45, false, .iload 2), (46, false, .iconst 1), (47, false, .if_icmp .ne (Int.ofNat 58)), (50, false, .aload 0), (51, false, .iload 1), (52, false, .invokestatic 3), (55, false, .goto (Int.ofNat 63)), (58, false, .aload 0), (59, false, .iload 1), (60, false, .invokestatic 4), (63, false, .ireturn)]
def cq_m_yard_ : mq_C := ((yX11_yard_, cX11_yard_, 3, (some .int), { frames := 2, cells := 0, slots := 0, locals := 48 }), (3, 1, 0, 0), 1152921504606846976, (fun as ρ μ => match ρ with
  | (nw, sp, tl, tx, al) => mq_pZ as 60 fun as => mq_pI as fun y as => mq_pI as fun w as => mq_p0 as (True)),
  (fun as ρ μ r ρ' μ' => match as, ρ, ρ' with
  | [.inr (.inr (some (_, _))), .inl y, .inl w], (nw, sp, tl, tx, al), (nw', sp', tl', tx', al') => []
  | _, _, _ => []))
def kq_m_yard_ : List mq_V → mq_R → mq_M → List mq_Cu := fun as ρ μ => match as, ρ with
  | [.inr (.inr (some (_, _))), .inl y, .inl w], (nw, sp, tl, tx, al) => []
  | _, _ => []
set_option maxHeartbeats 16000000 in
set_option maxRecDepth 100000 in
theorem vq_m_yard_ (lc : Launch) (h_m_isYard : mq_Ct lc cq_m_isYard) (h_m_in : mq_Ct lc cq_m_in) (h_m_slopeAt : mq_Ct lc cq_m_slopeAt) (h_m_wetAt : mq_Ct lc cq_m_wetAt) (h_m_limitAt : mq_Ct lc cq_m_limitAt) : mq_Ct lc cq_m_yard_ := by
  refine mq_method (lc := lc) (P := pq_m_yard_) (cl := [cq_m_isYard, cq_m_in, cq_m_slopeAt, cq_m_wetAt, cq_m_limitAt]) (T := ([(120, 11, 0)], [], [(296, 2)], [(293, 0, 0), (125, 1, 1), (298, 2, 0), (301, 3, 0), (304, 4, 0)], [], [])) (fuel := 400) (cuts := kq_m_yard_) (by decide) rfl ⟨rfl, rfl⟩ (List.forall_mem_cons.mpr ⟨h_m_isYard, (List.forall_mem_cons.mpr ⟨h_m_in, (List.forall_mem_cons.mpr ⟨h_m_slopeAt, (List.forall_mem_cons.mpr ⟨h_m_wetAt, (List.forall_mem_cons.mpr ⟨h_m_limitAt, (fun _ h => absurd h List.not_mem_nil)⟩)⟩)⟩)⟩)⟩) ⟨(List.forall_mem_cons.mpr ⟨⟨_, rfl, by decide, kw_773⟩, (fun _ h => absurd h List.not_mem_nil)⟩), (fun _ h => absurd h List.not_mem_nil), (List.forall_mem_cons.mpr ⟨kw_850, (fun _ h => absurd h List.not_mem_nil)⟩), (List.forall_mem_cons.mpr ⟨mq_ml0 rfl mw0_m_isYard kw_854, (List.forall_mem_cons.mpr ⟨mq_ml1 rfl mw1_m_in kw_772, (List.forall_mem_cons.mpr ⟨mq_ml0 rfl mw0_m_slopeAt kw_858, (List.forall_mem_cons.mpr ⟨mq_ml0 rfl mw0_m_wetAt kw_862, (List.forall_mem_cons.mpr ⟨mq_ml0 rfl mw0_m_limitAt kw_866, (fun _ h => absurd h List.not_mem_nil)⟩)⟩)⟩)⟩)⟩), (fun _ h => absurd h List.not_mem_nil), (fun _ h => absurd h List.not_mem_nil)⟩ (by decide +kernel) ⟨_, _, rfl⟩ ?_ ?_ ?_ ?_
  · intro as ρ μ h
    obtain ⟨nw, sp, tl, tx, al⟩ := ρ
    obtain ⟨as0, rfl, h0⟩ := mq_pZ_spec h
    clear h
    obtain ⟨y, as1, rfl, h1⟩ := mq_pI_spec h0
    clear h0
    obtain ⟨w, as2, rfl, h2⟩ := mq_pI_spec h1
    clear h1
    obtain ⟨rfl, hp⟩ := mq_p0_spec h2
    clear h2
    rfl
  · intro as ρ μ h
    obtain ⟨nw, sp, tl, tx, al⟩ := ρ
    obtain ⟨as0, rfl, h0⟩ := mq_pZ_spec h
    clear h
    obtain ⟨y, as1, rfl, h1⟩ := mq_pI_spec h0
    clear h0
    obtain ⟨w, as2, rfl, h2⟩ := mq_pI_spec h1
    clear h1
    obtain ⟨rfl, hp⟩ := mq_p0_spec h2
    clear h2
    intro hrg
    obtain ⟨⟨ha1a, ha1b⟩, ⟨ha2a, ha2b⟩, -⟩ := hrg
    intro hbk
    have e0 : mq_l0 ([.inr (.inr (some (60, 0))), .inl y, .inl w] : List mq_V) 3 = [some (.inr (.inr (some (60, 0)))), some (.inl y), some (.inl w)] := rfl
    rw [e0]
    repeat' (first | refine And.intro ?_ ?_ | intro _)
    all_goals first | omega | rfl | exact trivial | (simp [mq_up] at * <;> omega)
  · intro as ρ μ h
    obtain ⟨nw, sp, tl, tx, al⟩ := ρ
    obtain ⟨as0, rfl, h0⟩ := mq_pZ_spec h
    clear h
    obtain ⟨y, as1, rfl, h1⟩ := mq_pI_spec h0
    clear h0
    obtain ⟨w, as2, rfl, h2⟩ := mq_pI_spec h1
    clear h1
    obtain ⟨rfl, hp⟩ := mq_p0_spec h2
    clear h2
    exact fun _ h => absurd h List.not_mem_nil
  · intro as ρ μ h
    obtain ⟨nw, sp, tl, tx, al⟩ := ρ
    obtain ⟨as0, rfl, h0⟩ := mq_pZ_spec h
    clear h
    obtain ⟨y, as1, rfl, h1⟩ := mq_pI_spec h0
    clear h0
    obtain ⟨w, as2, rfl, h2⟩ := mq_pI_spec h1
    clear h1
    obtain ⟨rfl, hp⟩ := mq_p0_spec h2
    clear h2
    intro hrg
    obtain ⟨⟨ha1a, ha1b⟩, ⟨ha2a, ha2b⟩, -⟩ := hrg
    exact fun _ h => absurd h List.not_mem_nil
def pq_m_coach : List mq_E := [(0, false, .aload 0), (1, false, .iconst 0), (2, false, .multianewarray 11 0), (5, false, .aload 0), (6, false, .iload 1), (7, false, .invokestatic 0), (10, false, .ifCond .eq (Int.ofNat 38)), (13, false, .iload 2), (14, false, .i2l), (15, false, .goto_w 0), (16, false, .goto_w 4), (19, false, .invokestatic 1), (22, false, .ifCond .eq (Int.ofNat 38)), (25, false, .aload 0), (26, false, .invokeinterface 11 26), (29, false, .iconst 5), (30, false, .iload 1), (31, false, .imul), (32, false, .iload 2), (33, false, .iadd), (34, false, .iaload), (35, false, .goto (Int.ofNat 40)), (38, false, .iconst (-2)), (40, false, .ireturn)]
def cq_m_coach : mq_C := ((yX11_coach, cX11_coach, 3, (some .int), { frames := 2, cells := 0, slots := 0, locals := 46 }), (3, 1, 0, 0), 1152921504606846976, (fun as ρ μ => match ρ with
  | (nw, sp, tl, tx, al) => mq_pZ as 60 fun as => mq_pI as fun c as => mq_pI as fun w as => mq_p0 as (True)),
  (fun as ρ μ r ρ' μ' => match as, ρ, ρ' with
  | [.inr (.inr (some (_, _))), .inl c, .inl w], (nw, sp, tl, tx, al), (nw', sp', tl', tx', al') => []
  | _, _, _ => []))
def kq_m_coach : List mq_V → mq_R → mq_M → List mq_Cu := fun as ρ μ => match as, ρ with
  | [.inr (.inr (some (_, _))), .inl c, .inl w], (nw, sp, tl, tx, al) => []
  | _, _ => []
set_option maxHeartbeats 16000000 in
set_option maxRecDepth 100000 in
theorem vq_m_coach (lc : Launch) (h_m_isCoach : mq_Ct lc cq_m_isCoach) (h_m_in : mq_Ct lc cq_m_in) : mq_Ct lc cq_m_coach := by
  refine mq_method (lc := lc) (P := pq_m_coach) (cl := [cq_m_isCoach, cq_m_in]) (T := ([(120, 11, 0), (61, 11, 26)], [], [(310, 4)], [(307, 0, 0), (125, 1, 1)], [], [])) (fuel := 400) (cuts := kq_m_coach) (by decide) rfl ⟨rfl, rfl⟩ (List.forall_mem_cons.mpr ⟨h_m_isCoach, (List.forall_mem_cons.mpr ⟨h_m_in, (fun _ h => absurd h List.not_mem_nil)⟩)⟩) ⟨(List.forall_mem_cons.mpr ⟨⟨_, rfl, by decide, kw_773⟩, (List.forall_mem_cons.mpr ⟨⟨_, rfl, by decide, kw_867⟩, (fun _ h => absurd h List.not_mem_nil)⟩)⟩), (fun _ h => absurd h List.not_mem_nil), (List.forall_mem_cons.mpr ⟨kw_868, (fun _ h => absurd h List.not_mem_nil)⟩), (List.forall_mem_cons.mpr ⟨mq_ml0 rfl mw0_m_isCoach kw_872, (List.forall_mem_cons.mpr ⟨mq_ml1 rfl mw1_m_in kw_772, (fun _ h => absurd h List.not_mem_nil)⟩)⟩), (fun _ h => absurd h List.not_mem_nil), (fun _ h => absurd h List.not_mem_nil)⟩ (by decide +kernel) ⟨_, _, rfl⟩ ?_ ?_ ?_ ?_
  · intro as ρ μ h
    obtain ⟨nw, sp, tl, tx, al⟩ := ρ
    obtain ⟨as0, rfl, h0⟩ := mq_pZ_spec h
    clear h
    obtain ⟨c, as1, rfl, h1⟩ := mq_pI_spec h0
    clear h0
    obtain ⟨w, as2, rfl, h2⟩ := mq_pI_spec h1
    clear h1
    obtain ⟨rfl, hp⟩ := mq_p0_spec h2
    clear h2
    rfl
  · intro as ρ μ h
    obtain ⟨nw, sp, tl, tx, al⟩ := ρ
    obtain ⟨as0, rfl, h0⟩ := mq_pZ_spec h
    clear h
    obtain ⟨c, as1, rfl, h1⟩ := mq_pI_spec h0
    clear h0
    obtain ⟨w, as2, rfl, h2⟩ := mq_pI_spec h1
    clear h1
    obtain ⟨rfl, hp⟩ := mq_p0_spec h2
    clear h2
    intro hrg
    obtain ⟨⟨ha1a, ha1b⟩, ⟨ha2a, ha2b⟩, -⟩ := hrg
    intro hbk
    have e0 : mq_l0 ([.inr (.inr (some (60, 0))), .inl c, .inl w] : List mq_V) 3 = [some (.inr (.inr (some (60, 0)))), some (.inl c), some (.inl w)] := rfl
    rw [e0]
    repeat' (first | refine And.intro ?_ ?_ | intro _)
    all_goals first | omega | rfl | exact trivial | (simp [mq_up] at * <;> omega)
  · intro as ρ μ h
    obtain ⟨nw, sp, tl, tx, al⟩ := ρ
    obtain ⟨as0, rfl, h0⟩ := mq_pZ_spec h
    clear h
    obtain ⟨c, as1, rfl, h1⟩ := mq_pI_spec h0
    clear h0
    obtain ⟨w, as2, rfl, h2⟩ := mq_pI_spec h1
    clear h1
    obtain ⟨rfl, hp⟩ := mq_p0_spec h2
    clear h2
    exact fun _ h => absurd h List.not_mem_nil
  · intro as ρ μ h
    obtain ⟨nw, sp, tl, tx, al⟩ := ρ
    obtain ⟨as0, rfl, h0⟩ := mq_pZ_spec h
    clear h
    obtain ⟨c, as1, rfl, h1⟩ := mq_pI_spec h0
    clear h0
    obtain ⟨w, as2, rfl, h2⟩ := mq_pI_spec h1
    clear h1
    obtain ⟨rfl, hp⟩ := mq_p0_spec h2
    clear h2
    intro hrg
    obtain ⟨⟨ha1a, ha1b⟩, ⟨ha2a, ha2b⟩, -⟩ := hrg
    exact fun _ h => absurd h List.not_mem_nil
