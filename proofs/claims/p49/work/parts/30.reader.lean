def pq_isBlank : List mq_E := [(0, false, .iload 0), (1, false, .iconst 32), (3, false, .if_icmp .eq (Int.ofNat 12)), (6, false, .iload 0), (7, false, .iconst 10), (9, false, .if_icmp .ne (Int.ofNat 16)), (12, false, .iconst 1), (13, false, .goto (Int.ofNat 17)), (16, false, .iconst 0), (17, false, .ireturn)]
def cq_isBlank : mq_C := ((yX5_isBlank, cX5_isBlank, 1, (some .boolean), { frames := 0, cells := 0, slots := 0, locals := 0 }), (1, 1, 0, 0), 0, (fun as ρ μ => match ρ with
  | (nw, sp, tl, tx, al) => mq_pI as fun b as => mq_p0 as (True)),
  (fun as ρ μ r ρ' μ' => match as, ρ, ρ' with
  | [.inl b], (nw, sp, tl, tx, al), (nw', sp', tl', tx', al') => [0 ≤ r, r ≤ 1]
  | _, _, _ => []))
def kq_isBlank : List mq_V → mq_R → mq_M → List mq_Cu := fun as ρ μ => match as, ρ with
  | [.inl b], (nw, sp, tl, tx, al) => []
  | _, _ => []
set_option maxHeartbeats 16000000 in
set_option maxRecDepth 100000 in
theorem vq_isBlank (lc : Launch)  : mq_Ct lc cq_isBlank := by
  refine mq_method (lc := lc) (P := pq_isBlank) (cl := []) (T := ([], [], [], [], [], [])) (fuel := 400) (cuts := kq_isBlank) (by decide) rfl ⟨rfl, rfl⟩ (fun _ h => absurd h List.not_mem_nil) ⟨(fun _ h => absurd h List.not_mem_nil), (fun _ h => absurd h List.not_mem_nil), (fun _ h => absurd h List.not_mem_nil), (fun _ h => absurd h List.not_mem_nil), (fun _ h => absurd h List.not_mem_nil), (fun _ h => absurd h List.not_mem_nil)⟩ (by decide +kernel) ⟨_, _, rfl⟩ ?_ ?_ ?_ ?_
  · intro as ρ μ h
    obtain ⟨nw, sp, tl, tx, al⟩ := ρ
    obtain ⟨b, as0, rfl, h0⟩ := mq_pI_spec h
    clear h
    obtain ⟨rfl, hp⟩ := mq_p0_spec h0
    clear h0
    rfl
  · intro as ρ μ h
    obtain ⟨nw, sp, tl, tx, al⟩ := ρ
    obtain ⟨b, as0, rfl, h0⟩ := mq_pI_spec h
    clear h
    obtain ⟨rfl, hp⟩ := mq_p0_spec h0
    clear h0
    intro hrg
    obtain ⟨⟨ha0a, ha0b⟩, -⟩ := hrg
    intro hbk
    have e0 : mq_l0 ([.inl b] : List mq_V) 1 = [some (.inl b)] := rfl
    rw [e0]
    repeat' (first | refine And.intro ?_ ?_ | intro _)
    all_goals first | omega | rfl | exact trivial | (simp [mq_up] at * <;> omega)
  · intro as ρ μ h
    obtain ⟨nw, sp, tl, tx, al⟩ := ρ
    obtain ⟨b, as0, rfl, h0⟩ := mq_pI_spec h
    clear h
    obtain ⟨rfl, hp⟩ := mq_p0_spec h0
    clear h0
    exact fun _ h => absurd h List.not_mem_nil
  · intro as ρ μ h
    obtain ⟨nw, sp, tl, tx, al⟩ := ρ
    obtain ⟨b, as0, rfl, h0⟩ := mq_pI_spec h
    clear h
    obtain ⟨rfl, hp⟩ := mq_p0_spec h0
    clear h0
    intro hrg
    obtain ⟨⟨ha0a, ha0b⟩, -⟩ := hrg
    exact fun _ h => absurd h List.not_mem_nil
theorem mw1_isBlank : mq_mlA cq_isBlank 1 := ⟨kw_392, ⟨by decide +kernel, by decide +kernel⟩, by decide +kernel, kw_393, kw_387⟩
def pq_isLetter : List mq_E := [(0, false, .iload 0), (1, false, .iconst 97), (3, false, .if_icmp .lt (Int.ofNat 16)), (6, false, .iload 0), (7, false, .iconst 122), (9, false, .if_icmp .gt (Int.ofNat 16)), (12, false, .iconst 1), (13, false, .goto (Int.ofNat 17)), (16, false, .iconst 0), (17, false, .ireturn)]
def cq_isLetter : mq_C := ((yX5_isLetter, cX5_isLetter, 1, (some .boolean), { frames := 0, cells := 0, slots := 0, locals := 0 }), (1, 1, 0, 0), 0, (fun as ρ μ => match ρ with
  | (nw, sp, tl, tx, al) => mq_pI as fun b as => mq_p0 as (True)),
  (fun as ρ μ r ρ' μ' => match as, ρ, ρ' with
  | [.inl b], (nw, sp, tl, tx, al), (nw', sp', tl', tx', al') => [0 ≤ r, r ≤ 1]
  | _, _, _ => []))
def kq_isLetter : List mq_V → mq_R → mq_M → List mq_Cu := fun as ρ μ => match as, ρ with
  | [.inl b], (nw, sp, tl, tx, al) => []
  | _, _ => []
set_option maxHeartbeats 16000000 in
set_option maxRecDepth 100000 in
theorem vq_isLetter (lc : Launch)  : mq_Ct lc cq_isLetter := by
  refine mq_method (lc := lc) (P := pq_isLetter) (cl := []) (T := ([], [], [], [], [], [])) (fuel := 400) (cuts := kq_isLetter) (by decide) rfl ⟨rfl, rfl⟩ (fun _ h => absurd h List.not_mem_nil) ⟨(fun _ h => absurd h List.not_mem_nil), (fun _ h => absurd h List.not_mem_nil), (fun _ h => absurd h List.not_mem_nil), (fun _ h => absurd h List.not_mem_nil), (fun _ h => absurd h List.not_mem_nil), (fun _ h => absurd h List.not_mem_nil)⟩ (by decide +kernel) ⟨_, _, rfl⟩ ?_ ?_ ?_ ?_
  · intro as ρ μ h
    obtain ⟨nw, sp, tl, tx, al⟩ := ρ
    obtain ⟨b, as0, rfl, h0⟩ := mq_pI_spec h
    clear h
    obtain ⟨rfl, hp⟩ := mq_p0_spec h0
    clear h0
    rfl
  · intro as ρ μ h
    obtain ⟨nw, sp, tl, tx, al⟩ := ρ
    obtain ⟨b, as0, rfl, h0⟩ := mq_pI_spec h
    clear h
    obtain ⟨rfl, hp⟩ := mq_p0_spec h0
    clear h0
    intro hrg
    obtain ⟨⟨ha0a, ha0b⟩, -⟩ := hrg
    intro hbk
    have e0 : mq_l0 ([.inl b] : List mq_V) 1 = [some (.inl b)] := rfl
    rw [e0]
    repeat' (first | refine And.intro ?_ ?_ | intro _)
    all_goals first | omega | rfl | exact trivial | (simp [mq_up] at * <;> omega)
  · intro as ρ μ h
    obtain ⟨nw, sp, tl, tx, al⟩ := ρ
    obtain ⟨b, as0, rfl, h0⟩ := mq_pI_spec h
    clear h
    obtain ⟨rfl, hp⟩ := mq_p0_spec h0
    clear h0
    exact fun _ h => absurd h List.not_mem_nil
  · intro as ρ μ h
    obtain ⟨nw, sp, tl, tx, al⟩ := ρ
    obtain ⟨b, as0, rfl, h0⟩ := mq_pI_spec h
    clear h
    obtain ⟨rfl, hp⟩ := mq_p0_spec h0
    clear h0
    intro hrg
    obtain ⟨⟨ha0a, ha0b⟩, -⟩ := hrg
    exact fun _ h => absurd h List.not_mem_nil
theorem mw1_isLetter : mq_mlA cq_isLetter 1 := ⟨kw_395, ⟨by decide +kernel, by decide +kernel⟩, by decide +kernel, kw_396, kw_387⟩
def pq_isDigit : List mq_E := [(0, false, .iload 0), (1, false, .iconst 48), (3, false, .if_icmp .lt (Int.ofNat 16)), (6, false, .iload 0), (7, false, .iconst 57), (9, false, .if_icmp .gt (Int.ofNat 16)), (12, false, .iconst 1), (13, false, .goto (Int.ofNat 17)), (16, false, .iconst 0), (17, false, .ireturn)]
def cq_isDigit : mq_C := ((yX5_isDigit, cX5_isDigit, 1, (some .boolean), { frames := 0, cells := 0, slots := 0, locals := 0 }), (1, 1, 0, 0), 0, (fun as ρ μ => match ρ with
  | (nw, sp, tl, tx, al) => mq_pI as fun b as => mq_p0 as (True)),
  (fun as ρ μ r ρ' μ' => match as, ρ, ρ' with
  | [.inl b], (nw, sp, tl, tx, al), (nw', sp', tl', tx', al') => [0 ≤ r, r ≤ 1]
  | _, _, _ => []))
def kq_isDigit : List mq_V → mq_R → mq_M → List mq_Cu := fun as ρ μ => match as, ρ with
  | [.inl b], (nw, sp, tl, tx, al) => []
  | _, _ => []
set_option maxHeartbeats 16000000 in
set_option maxRecDepth 100000 in
theorem vq_isDigit (lc : Launch)  : mq_Ct lc cq_isDigit := by
  refine mq_method (lc := lc) (P := pq_isDigit) (cl := []) (T := ([], [], [], [], [], [])) (fuel := 400) (cuts := kq_isDigit) (by decide) rfl ⟨rfl, rfl⟩ (fun _ h => absurd h List.not_mem_nil) ⟨(fun _ h => absurd h List.not_mem_nil), (fun _ h => absurd h List.not_mem_nil), (fun _ h => absurd h List.not_mem_nil), (fun _ h => absurd h List.not_mem_nil), (fun _ h => absurd h List.not_mem_nil), (fun _ h => absurd h List.not_mem_nil)⟩ (by decide +kernel) ⟨_, _, rfl⟩ ?_ ?_ ?_ ?_
  · intro as ρ μ h
    obtain ⟨nw, sp, tl, tx, al⟩ := ρ
    obtain ⟨b, as0, rfl, h0⟩ := mq_pI_spec h
    clear h
    obtain ⟨rfl, hp⟩ := mq_p0_spec h0
    clear h0
    rfl
  · intro as ρ μ h
    obtain ⟨nw, sp, tl, tx, al⟩ := ρ
    obtain ⟨b, as0, rfl, h0⟩ := mq_pI_spec h
    clear h
    obtain ⟨rfl, hp⟩ := mq_p0_spec h0
    clear h0
    intro hrg
    obtain ⟨⟨ha0a, ha0b⟩, -⟩ := hrg
    intro hbk
    have e0 : mq_l0 ([.inl b] : List mq_V) 1 = [some (.inl b)] := rfl
    rw [e0]
    repeat' (first | refine And.intro ?_ ?_ | intro _)
    all_goals first | omega | rfl | exact trivial | (simp [mq_up] at * <;> omega)
  · intro as ρ μ h
    obtain ⟨nw, sp, tl, tx, al⟩ := ρ
    obtain ⟨b, as0, rfl, h0⟩ := mq_pI_spec h
    clear h
    obtain ⟨rfl, hp⟩ := mq_p0_spec h0
    clear h0
    exact fun _ h => absurd h List.not_mem_nil
  · intro as ρ μ h
    obtain ⟨nw, sp, tl, tx, al⟩ := ρ
    obtain ⟨b, as0, rfl, h0⟩ := mq_pI_spec h
    clear h
    obtain ⟨rfl, hp⟩ := mq_p0_spec h0
    clear h0
    intro hrg
    obtain ⟨⟨ha0a, ha0b⟩, -⟩ := hrg
    exact fun _ h => absurd h List.not_mem_nil
theorem mw1_isDigit : mq_mlA cq_isDigit 1 := ⟨kw_385, ⟨by decide +kernel, by decide +kernel⟩, by decide +kernel, kw_386, kw_387⟩
def pq_linesOfText : List mq_E := [(0, false, .iconst 0), (1, false, .istore 1), (2, false, .iconst 0), (3, false, .istore 2), (4, true, .iload 2), (5, false, .aload 0), (6, false, .invokeinterface 5 1), (9, false, .if_icmp .ge (Int.ofNat 42)), (12, false, .aload 0), (13, false, .invokeinterface 5 0), (16, false, .iload 2), (17, false, .baload), (18, false, .iconst 10), (20, false, .if_icmp .eq (Int.ofNat 33)), (23, false, .iload 2), (24, false, .aload 0), (25, false, .invokeinterface 5 1), (28, false, .iconst 1), (29, false, .isub), (30, false, .if_icmp .ne (Int.ofNat 36)), (33, false, .iinc 1 1), (36, false, .iinc 2 1), (39, false, .goto (Int.ofNat 4)), (42, false, .iload 1), (43, false, .ireturn)]
def cq_linesOfText : mq_C := ((yX5_linesOfText, cX5_linesOfText, 3, (some .int), { frames := 0, cells := 0, slots := 0, locals := 0 }), (1, 1, 0, 0), 0, (fun as ρ μ => match ρ with
  | (nw, sp, tl, tx, al) => mq_pZ as 20 fun as => mq_p0 as (tx = 19)),
  (fun as ρ μ r ρ' μ' => match as, ρ, ρ' with
  | [.inr (.inr (some (_, _)))], (nw, sp, tl, tx, al), (nw', sp', tl', tx', al') => [0 ≤ r, r ≤ 1600]
  | _, _, _ => []))
def kq_linesOfText : List mq_V → mq_R → mq_M → List mq_Cu := fun as ρ μ => match as, ρ with
  | [.inr (.inr (some (_, _)))], (nw, sp, tl, tx, al) => [(4, [true, true, true], fun N l st ρ' μ' cs => mq_tZ l 20 fun l => mq_tI l fun v1 l => mq_tI l fun v2 l => mq_t0 l (st = [] ∧ ρ' = (nw, sp, tl, tx, al) ∧ cs = 0 ∧ 0 ≤ v1 ∧ v1 ≤ v2 ∧ v2 ≤ 1600 ∧ 0 ≤ (1600 - v2 : Int) ∧ (1600 - v2 : Int) < (N : Int)))]
  | _, _ => []
set_option maxHeartbeats 16000000 in
set_option maxRecDepth 100000 in
theorem vq_linesOfText (lc : Launch)  : mq_Ct lc cq_linesOfText := by
  refine mq_method (lc := lc) (P := pq_linesOfText) (cl := []) (T := ([(15, 5, 1), (9, 5, 0)], [], [], [], [], [])) (fuel := 400) (cuts := kq_linesOfText) (by decide) rfl ⟨rfl, rfl⟩ (fun _ h => absurd h List.not_mem_nil) ⟨(List.forall_mem_cons.mpr ⟨⟨_, rfl, by decide, kw_380⟩, (List.forall_mem_cons.mpr ⟨⟨_, rfl, by decide, kw_381⟩, (fun _ h => absurd h List.not_mem_nil)⟩)⟩), (fun _ h => absurd h List.not_mem_nil), (fun _ h => absurd h List.not_mem_nil), (fun _ h => absurd h List.not_mem_nil), (fun _ h => absurd h List.not_mem_nil), (fun _ h => absurd h List.not_mem_nil)⟩ (by decide +kernel) ⟨_, _, rfl⟩ ?_ ?_ ?_ ?_
  · intro as ρ μ h
    obtain ⟨nw, sp, tl, tx, al⟩ := ρ
    obtain ⟨as0, rfl, h0⟩ := mq_pZ_spec h
    clear h
    obtain ⟨rfl, hp⟩ := mq_p0_spec h0
    clear h0
    subst hp
    rfl
  · intro as ρ μ h
    obtain ⟨nw, sp, tl, tx, al⟩ := ρ
    obtain ⟨as0, rfl, h0⟩ := mq_pZ_spec h
    clear h
    obtain ⟨rfl, hp⟩ := mq_p0_spec h0
    clear h0
    subst hp
    intro hrg
    intro hbk
    have e0 : mq_l0 ([.inr (.inr (some (20, 0)))] : List mq_V) 3 = [some (.inr (.inr (some (20, 0)))), none, none] := rfl
    rw [e0]
    repeat' (first | refine And.intro ?_ ?_ | intro _)
    all_goals first | omega | rfl | exact trivial | (simp [mq_up] at * <;> omega)
  · intro as ρ μ h
    obtain ⟨nw, sp, tl, tx, al⟩ := ρ
    obtain ⟨as0, rfl, h0⟩ := mq_pZ_spec h
    clear h
    obtain ⟨rfl, hp⟩ := mq_p0_spec h0
    clear h0
    subst hp
    refine List.forall_mem_cons.mpr ⟨?_, ?_⟩
    · intro l st ρ' μ' cs hJ
      obtain ⟨l0, rfl, hJ0⟩ := mq_tZ_spec hJ
      clear hJ
      obtain ⟨v1, l1, rfl, hJ1⟩ := mq_tI_spec hJ0
      clear hJ0
      obtain ⟨v2, l2, rfl, hJ2⟩ := mq_tI_spec hJ1
      clear hJ1
      obtain ⟨rfl, hJz⟩ := mq_t0_spec hJ2
      clear hJ2
      obtain ⟨rfl, rfl, rfl, hc0, hc1, hc2, hm0, hm1⟩ := hJz
      omega
    exact fun _ h => absurd h List.not_mem_nil
  · intro as ρ μ h
    obtain ⟨nw, sp, tl, tx, al⟩ := ρ
    obtain ⟨as0, rfl, h0⟩ := mq_pZ_spec h
    clear h
    obtain ⟨rfl, hp⟩ := mq_p0_spec h0
    clear h0
    subst hp
    intro hrg
    refine List.forall_mem_cons.mpr ⟨?_, ?_⟩
    · intro N l st ρ' μ' cs hJ
      obtain ⟨l0, rfl, hJ0⟩ := mq_tZ_spec hJ
      clear hJ
      obtain ⟨v1, l1, rfl, hJ1⟩ := mq_tI_spec hJ0
      clear hJ0
      obtain ⟨v2, l2, rfl, hJ2⟩ := mq_tI_spec hJ1
      clear hJ1
      obtain ⟨rfl, hJz⟩ := mq_t0_spec hJ2
      clear hJ2
      obtain ⟨rfl, rfl, rfl, hc0, hc1, hc2, hm0, hm1⟩ := hJz
      intro hbk hrl
      obtain ⟨⟨hl1a, hl1b⟩, ⟨hl2a, hl2b⟩, -⟩ := hrl
      repeat' (first | refine And.intro ?_ ?_ | intro _)
      all_goals first | omega | rfl | exact trivial | (simp [mq_up] at * <;> omega)
    exact fun _ h => absurd h List.not_mem_nil
theorem mw0_linesOfText : mq_mlA cq_linesOfText 0 := ⟨kw_495, ⟨by decide +kernel, by decide +kernel⟩, by decide +kernel, kw_496, kw_497, kw_387, 20, by decide +kernel, fun as ρ μ h => by obtain ⟨nw, sp, tl, tx, al⟩ := ρ; obtain ⟨t, e, _⟩ := mq_pZ_spec h; exact ⟨0, t, e⟩⟩
def pq_takeDigits : List mq_E := [(0, false, .aload 0), (1, false, .iconst 0), (2, false, .multianewarray 5 5), (5, true, .aload 0), (6, false, .invokeinterface 5 3), (9, false, .aload 0), (10, false, .invokeinterface 5 1), (13, false, .if_icmp .ge (Int.ofNat 73)), (16, false, .aload 0), (17, false, .invokeinterface 5 0), (20, false, .aload 0), (21, false, .invokeinterface 5 3), (24, false, .baload), (25, false, .invokestatic 0), (28, false, .ifCond .eq (Int.ofNat 73)), (31, false, .aload 0), (32, false, .iconst 100000), (34, false, .aload 0), (35, false, .invokeinterface 5 5), (38, false, .iconst 10), (40, false, .fmul), (41, false, .aload 0), (42, false, .invokeinterface 5 0), (45, false, .aload 0), (46, false, .invokeinterface 5 3), (49, false, .baload), (50, false, .fadd), (51, false, .iconst 48), (53, false, .fsub), (54, false, .f2l), (57, false, .multianewarray 5 5), (60, false, .aload 0), (61, false, .dup), (62, false, .invokeinterface 5 3), (65, false, .iconst 1), (66, false, .iadd), (67, false, .multianewarray 5 3), (70, false, .goto (Int.ofNat 5)), (73, false, .return_)]
def cq_takeDigits : mq_C := ((yX5_takeDigits, cX5_takeDigits, 1, none, { frames := 1, cells := 0, slots := 0, locals := 21 }), (1, 0, 0, 0), 1048576, (fun as ρ μ => match ρ with
  | (nw, sp, tl, tx, al) => mq_pZ as 20 fun as => mq_p0 as (tx = 19)),
  (fun as ρ μ r ρ' μ' => match as, ρ, ρ' with
  | [.inr (.inr (some (_, _)))], (nw, sp, tl, tx, al), (nw', sp', tl', tx', al') => []
  | _, _, _ => []))
def kq_takeDigits : List mq_V → mq_R → mq_M → List mq_Cu := fun as ρ μ => match as, ρ with
  | [.inr (.inr (some (_, _)))], (nw, sp, tl, tx, al) => [(5, [true], fun N l st ρ' μ' cs => mq_tZ l 20 fun l => mq_t0 l (st = [] ∧ ρ' = (nw, sp, tl, tx, al) ∧ cs = 0 ∧ 0 ≤ (1600 - μ' (20, 0) 3 : Int) ∧ (1600 - μ' (20, 0) 3 : Int) < (N : Int)))]
  | _, _ => []
set_option maxHeartbeats 16000000 in
set_option maxRecDepth 100000 in
theorem vq_takeDigits (lc : Launch) (h_isDigit : mq_Ct lc cq_isDigit) : mq_Ct lc cq_takeDigits := by
  refine mq_method (lc := lc) (P := pq_takeDigits) (cl := [cq_isDigit]) (T := ([(28, 5, 5), (22, 5, 3), (15, 5, 1), (9, 5, 0)], [(78, 100000)], [], [(72, 0, 1)], [], [(37, false)])) (fuel := 400) (cuts := kq_takeDigits) (by decide) rfl ⟨rfl, rfl⟩ (List.forall_mem_cons.mpr ⟨h_isDigit, (fun _ h => absurd h List.not_mem_nil)⟩) ⟨(List.forall_mem_cons.mpr ⟨⟨_, rfl, by decide, kw_382⟩, (List.forall_mem_cons.mpr ⟨⟨_, rfl, by decide, kw_383⟩, (List.forall_mem_cons.mpr ⟨⟨_, rfl, by decide, kw_380⟩, (List.forall_mem_cons.mpr ⟨⟨_, rfl, by decide, kw_381⟩, (fun _ h => absurd h List.not_mem_nil)⟩)⟩)⟩)⟩), (List.forall_mem_cons.mpr ⟨kw_384, (fun _ h => absurd h List.not_mem_nil)⟩), (fun _ h => absurd h List.not_mem_nil), (List.forall_mem_cons.mpr ⟨mq_ml1 rfl mw1_isDigit kw_388, (fun _ h => absurd h List.not_mem_nil)⟩), (fun _ h => absurd h List.not_mem_nil), (List.forall_mem_cons.mpr ⟨⟨kw_389, kw_43, kw_44, kw_45⟩, (fun _ h => absurd h List.not_mem_nil)⟩)⟩ (by decide +kernel) ⟨_, _, rfl⟩ ?_ ?_ ?_ ?_
  · intro as ρ μ h
    obtain ⟨nw, sp, tl, tx, al⟩ := ρ
    obtain ⟨as0, rfl, h0⟩ := mq_pZ_spec h
    clear h
    obtain ⟨rfl, hp⟩ := mq_p0_spec h0
    clear h0
    subst hp
    rfl
  · intro as ρ μ h
    obtain ⟨nw, sp, tl, tx, al⟩ := ρ
    obtain ⟨as0, rfl, h0⟩ := mq_pZ_spec h
    clear h
    obtain ⟨rfl, hp⟩ := mq_p0_spec h0
    clear h0
    subst hp
    intro hrg
    intro hbk
    have hk0 : 0 ≤ μ (20, 0) 1 ∧ μ (20, 0) 1 ≤ 1600 := hbk (20, 0) 1
    have hk1 : 0 ≤ μ (20, 0) 2 ∧ μ (20, 0) 2 ≤ 1600 := hbk (20, 0) 2
    have hk2 : 0 ≤ μ (20, 0) 3 ∧ μ (20, 0) 3 ≤ 1600 := hbk (20, 0) 3
    have e0 : mq_l0 ([.inr (.inr (some (20, 0)))] : List mq_V) 1 = [some (.inr (.inr (some (20, 0))))] := rfl
    rw [e0]
    repeat' (first | refine And.intro ?_ ?_ | intro _)
    all_goals first | omega | rfl | exact trivial | (simp [mq_up] at * <;> omega)
  · intro as ρ μ h
    obtain ⟨nw, sp, tl, tx, al⟩ := ρ
    obtain ⟨as0, rfl, h0⟩ := mq_pZ_spec h
    clear h
    obtain ⟨rfl, hp⟩ := mq_p0_spec h0
    clear h0
    subst hp
    refine List.forall_mem_cons.mpr ⟨?_, ?_⟩
    · intro l st ρ' μ' cs hJ
      obtain ⟨l0, rfl, hJ0⟩ := mq_tZ_spec hJ
      clear hJ
      obtain ⟨rfl, hJz⟩ := mq_t0_spec hJ0
      clear hJ0
      obtain ⟨rfl, rfl, rfl, hm0, hm1⟩ := hJz
      omega
    exact fun _ h => absurd h List.not_mem_nil
  · intro as ρ μ h
    obtain ⟨nw, sp, tl, tx, al⟩ := ρ
    obtain ⟨as0, rfl, h0⟩ := mq_pZ_spec h
    clear h
    obtain ⟨rfl, hp⟩ := mq_p0_spec h0
    clear h0
    subst hp
    intro hrg
    refine List.forall_mem_cons.mpr ⟨?_, ?_⟩
    · intro N l st ρ' μ' cs hJ
      obtain ⟨l0, rfl, hJ0⟩ := mq_tZ_spec hJ
      clear hJ
      obtain ⟨rfl, hJz⟩ := mq_t0_spec hJ0
      clear hJ0
      obtain ⟨rfl, rfl, rfl, hm0, hm1⟩ := hJz
      intro hbk hrl
      have hk0 : 0 ≤ μ' (20, 0) 1 ∧ μ' (20, 0) 1 ≤ 1600 := hbk (20, 0) 1
      have hk1 : 0 ≤ μ' (20, 0) 2 ∧ μ' (20, 0) 2 ≤ 1600 := hbk (20, 0) 2
      have hk2 : 0 ≤ μ' (20, 0) 3 ∧ μ' (20, 0) 3 ≤ 1600 := hbk (20, 0) 3
      repeat' (first | refine And.intro ?_ ?_ | intro _)
      all_goals first | omega | rfl | exact trivial | (simp [mq_up] at * <;> omega)
    exact fun _ h => absurd h List.not_mem_nil
theorem mw0_takeDigits : mq_mlA cq_takeDigits 0 := ⟨kw_398, ⟨by decide +kernel, by decide +kernel⟩, by decide +kernel, kw_399, kw_400, kw_387, 20, by decide +kernel, fun as ρ μ h => by obtain ⟨nw, sp, tl, tx, al⟩ := ρ; obtain ⟨t, e, _⟩ := mq_pZ_spec h; exact ⟨0, t, e⟩⟩
def pq_advance : List mq_E := [(0, false, .aload 0), (1, false, .aload 0), (2, false, .invokeinterface 5 3), (5, false, .multianewarray 5 2), (8, true, .aload 0), (9, false, .invokeinterface 5 2), (12, false, .aload 0), (13, false, .invokeinterface 5 1), (16, false, .if_icmp .ge (Int.ofNat 47)), (19, false, .aload 0), (20, false, .invokeinterface 5 0), (23, false, .aload 0), (24, false, .invokeinterface 5 2), (27, false, .baload), (28, false, .invokestatic 0), (31, false, .ifCond .eq (Int.ofNat 47)), (34, false, .aload 0), (35, false, .dup), (36, false, .invokeinterface 5 2), (39, false, .iconst 1), (40, false, .iadd), (41, false, .multianewarray 5 2), (44, false, .goto (Int.ofNat 8)), (47, false, .aload 0), (48, false, .aload 0), (49, false, .invokeinterface 5 2), (52, false, .multianewarray 5 3), (55, false, .aload 0), (56, false, .invokeinterface 5 2), (59, false, .aload 0), (60, false, .invokeinterface 5 1), (63, false, .if_icmp .lt (Int.ofNat 74)), (66, false, .aload 0), (67, false, .iconst 0), (68, false, .multianewarray 5 4), (71, false, .goto (Int.ofNat 193)), (74, false, .aload 0), (75, false, .invokeinterface 5 0), (78, false, .aload 0), (79, false, .invokeinterface 5 2), (82, false, .baload), (83, false, .invokestatic 1), (86, false, .ifCond .eq (Int.ofNat 133)), (89, false, .aload 0), (90, false, .iconst 1), (91, false, .multianewarray 5 4), (94, true, .aload 0), (95, false, .invokeinterface 5 3), (98, false, .aload 0), (99, false, .invokeinterface 5 1), (102, false, .if_icmp .ge (Int.ofNat 193)), (105, false, .aload 0), (106, false, .invokeinterface 5 0), (109, false, .aload 0), (110, false, .invokeinterface 5 3), (113, false, .baload), (114, false, .invokestatic 1), (117, false, .ifCond .eq (Int.ofNat 193)), (120, false, .aload 0), (121, false, .dup), (122, false, .invokeinterface 5 3), (125, false, .iconst 1), (126, false, .iadd), (127, false, .multianewarray 5 3), (130, false, .goto (Int.ofNat 94)), (133, false, .aload 0), (134, false, .invokeinterface 5 0), (137, false, .aload 0), (138, false, .invokeinterface 5 2), (141, false, .baload), (142, false, .invokestatic 2), (145, false, .ifCond .eq (Int.ofNat 160)), (148, false, .aload 0), (149, false, .iconst 2), (150, false, .multianewarray 5 4), (153, false, .aload 0), (154, false, .invokestatic 3), (157, false, .goto (Int.ofNat 193)), (160, false, .aload 0), (161, false, .aload 0), (162, false, .invokeinterface 5 0), (165, false, .aload 0), (166, false, .invokeinterface 5 2), (169, false, .baload), (170, false, .iconst 59), (172, false, .if_icmp .ne (Int.ofNat 179)), (175, false, .iconst 3), (176, false, .goto (Int.ofNat 180)), (179, false, .iconst 4), (180, false, .multianewarray 5 4), (183, false, .aload 0), (184, false, .aload 0), (185, false, .invokeinterface 5 2), (188, false, .iconst 1), (189, false, .iadd), (190, false, .multianewarray 5 3), (193, false, .return_)]
def cq_advance : mq_C := ((yX5_advance, cX5_advance, 1, none, { frames := 2, cells := 0, slots := 0, locals := 41 }), (1, 0, 0, 0), 1048576, (fun as ρ μ => match ρ with
  | (nw, sp, tl, tx, al) => mq_pZ as 20 fun as => mq_p0 as (tx = 19)),
  (fun as ρ μ r ρ' μ' => match as, ρ, ρ' with
  | [.inr (.inr (some (_, _)))], (nw, sp, tl, tx, al), (nw', sp', tl', tx', al') => []
  | _, _, _ => []))
def kq_advance : List mq_V → mq_R → mq_M → List mq_Cu := fun as ρ μ => match as, ρ with
  | [.inr (.inr (some (_, _)))], (nw, sp, tl, tx, al) => [(8, [true], fun N l st ρ' μ' cs => mq_tZ l 20 fun l => mq_t0 l (st = [] ∧ ρ' = (nw, sp, tl, tx, al) ∧ cs = 0 ∧ 0 ≤ (5000 - μ' (20, 0) 2 : Int) ∧ (5000 - μ' (20, 0) 2 : Int) < (N : Int))),
    (94, [true], fun N l st ρ' μ' cs => mq_tZ l 20 fun l => mq_t0 l (st = [] ∧ ρ' = (nw, sp, tl, tx, al) ∧ cs = 0 ∧ 0 ≤ (2000 - μ' (20, 0) 3 : Int) ∧ (2000 - μ' (20, 0) 3 : Int) < (N : Int)))]
  | _, _ => []
set_option maxHeartbeats 16000000 in
set_option maxRecDepth 100000 in
theorem vq_advance (lc : Launch) (h_isBlank : mq_Ct lc cq_isBlank) (h_isLetter : mq_Ct lc cq_isLetter) (h_isDigit : mq_Ct lc cq_isDigit) (h_takeDigits : mq_Ct lc cq_takeDigits) : mq_Ct lc cq_advance := by
  refine mq_method (lc := lc) (P := pq_advance) (cl := [cq_isBlank, cq_isLetter, cq_isDigit, cq_takeDigits]) (T := ([(22, 5, 3), (19, 5, 2), (15, 5, 1), (9, 5, 0), (25, 5, 4)], [], [], [(65, 0, 1), (69, 1, 1), (72, 2, 1), (75, 3, 0)], [], [])) (fuel := 400) (cuts := kq_advance) (by decide) rfl ⟨rfl, rfl⟩ (List.forall_mem_cons.mpr ⟨h_isBlank, (List.forall_mem_cons.mpr ⟨h_isLetter, (List.forall_mem_cons.mpr ⟨h_isDigit, (List.forall_mem_cons.mpr ⟨h_takeDigits, (fun _ h => absurd h List.not_mem_nil)⟩)⟩)⟩)⟩) ⟨(List.forall_mem_cons.mpr ⟨⟨_, rfl, by decide, kw_383⟩, (List.forall_mem_cons.mpr ⟨⟨_, rfl, by decide, kw_390⟩, (List.forall_mem_cons.mpr ⟨⟨_, rfl, by decide, kw_380⟩, (List.forall_mem_cons.mpr ⟨⟨_, rfl, by decide, kw_381⟩, (List.forall_mem_cons.mpr ⟨⟨_, rfl, by decide, kw_391⟩, (fun _ h => absurd h List.not_mem_nil)⟩)⟩)⟩)⟩)⟩), (fun _ h => absurd h List.not_mem_nil), (fun _ h => absurd h List.not_mem_nil), (List.forall_mem_cons.mpr ⟨mq_ml1 rfl mw1_isBlank kw_394, (List.forall_mem_cons.mpr ⟨mq_ml1 rfl mw1_isLetter kw_397, (List.forall_mem_cons.mpr ⟨mq_ml1 rfl mw1_isDigit kw_388, (List.forall_mem_cons.mpr ⟨mq_ml0 rfl mw0_takeDigits kw_401, (fun _ h => absurd h List.not_mem_nil)⟩)⟩)⟩)⟩), (fun _ h => absurd h List.not_mem_nil), (fun _ h => absurd h List.not_mem_nil)⟩ (by decide +kernel) ⟨_, _, rfl⟩ ?_ ?_ ?_ ?_
  · intro as ρ μ h
    obtain ⟨nw, sp, tl, tx, al⟩ := ρ
    obtain ⟨as0, rfl, h0⟩ := mq_pZ_spec h
    clear h
    obtain ⟨rfl, hp⟩ := mq_p0_spec h0
    clear h0
    subst hp
    rfl
  · intro as ρ μ h
    obtain ⟨nw, sp, tl, tx, al⟩ := ρ
    obtain ⟨as0, rfl, h0⟩ := mq_pZ_spec h
    clear h
    obtain ⟨rfl, hp⟩ := mq_p0_spec h0
    clear h0
    subst hp
    intro hrg
    intro hbk
    have hk0 : 0 ≤ μ (20, 0) 1 ∧ μ (20, 0) 1 ≤ 1600 := hbk (20, 0) 1
    have hk1 : 0 ≤ μ (20, 0) 2 ∧ μ (20, 0) 2 ≤ 1600 := hbk (20, 0) 2
    have hk2 : 0 ≤ μ (20, 0) 3 ∧ μ (20, 0) 3 ≤ 1600 := hbk (20, 0) 3
    have e0 : mq_l0 ([.inr (.inr (some (20, 0)))] : List mq_V) 1 = [some (.inr (.inr (some (20, 0))))] := rfl
    rw [e0]
    repeat' (first | refine And.intro ?_ ?_ | intro _)
    all_goals first | omega | rfl | exact trivial | (simp [mq_up] at * <;> omega)
  · intro as ρ μ h
    obtain ⟨nw, sp, tl, tx, al⟩ := ρ
    obtain ⟨as0, rfl, h0⟩ := mq_pZ_spec h
    clear h
    obtain ⟨rfl, hp⟩ := mq_p0_spec h0
    clear h0
    subst hp
    refine List.forall_mem_cons.mpr ⟨?_, ?_⟩
    · intro l st ρ' μ' cs hJ
      obtain ⟨l0, rfl, hJ0⟩ := mq_tZ_spec hJ
      clear hJ
      obtain ⟨rfl, hJz⟩ := mq_t0_spec hJ0
      clear hJ0
      obtain ⟨rfl, rfl, rfl, hm0, hm1⟩ := hJz
      omega
    refine List.forall_mem_cons.mpr ⟨?_, ?_⟩
    · intro l st ρ' μ' cs hJ
      obtain ⟨l0, rfl, hJ0⟩ := mq_tZ_spec hJ
      clear hJ
      obtain ⟨rfl, hJz⟩ := mq_t0_spec hJ0
      clear hJ0
      obtain ⟨rfl, rfl, rfl, hm0, hm1⟩ := hJz
      omega
    exact fun _ h => absurd h List.not_mem_nil
  · intro as ρ μ h
    obtain ⟨nw, sp, tl, tx, al⟩ := ρ
    obtain ⟨as0, rfl, h0⟩ := mq_pZ_spec h
    clear h
    obtain ⟨rfl, hp⟩ := mq_p0_spec h0
    clear h0
    subst hp
    intro hrg
    refine List.forall_mem_cons.mpr ⟨?_, ?_⟩
    · intro N l st ρ' μ' cs hJ
      obtain ⟨l0, rfl, hJ0⟩ := mq_tZ_spec hJ
      clear hJ
      obtain ⟨rfl, hJz⟩ := mq_t0_spec hJ0
      clear hJ0
      obtain ⟨rfl, rfl, rfl, hm0, hm1⟩ := hJz
      intro hbk hrl
      have hk0 : 0 ≤ μ' (20, 0) 1 ∧ μ' (20, 0) 1 ≤ 1600 := hbk (20, 0) 1
      have hk1 : 0 ≤ μ' (20, 0) 2 ∧ μ' (20, 0) 2 ≤ 1600 := hbk (20, 0) 2
      have hk2 : 0 ≤ μ' (20, 0) 3 ∧ μ' (20, 0) 3 ≤ 1600 := hbk (20, 0) 3
      repeat' (first | refine And.intro ?_ ?_ | intro _)
      all_goals first | omega | rfl | exact trivial | (simp [mq_up] at * <;> omega)
    refine List.forall_mem_cons.mpr ⟨?_, ?_⟩
    · intro N l st ρ' μ' cs hJ
      obtain ⟨l0, rfl, hJ0⟩ := mq_tZ_spec hJ
      clear hJ
      obtain ⟨rfl, hJz⟩ := mq_t0_spec hJ0
      clear hJ0
      obtain ⟨rfl, rfl, rfl, hm0, hm1⟩ := hJz
      intro hbk hrl
      have hk0 : 0 ≤ μ' (20, 0) 1 ∧ μ' (20, 0) 1 ≤ 1600 := hbk (20, 0) 1
      have hk1 : 0 ≤ μ' (20, 0) 2 ∧ μ' (20, 0) 2 ≤ 1600 := hbk (20, 0) 2
      have hk2 : 0 ≤ μ' (20, 0) 3 ∧ μ' (20, 0) 3 ≤ 1600 := hbk (20, 0) 3
      repeat' (first | refine And.intro ?_ ?_ | intro _)
      all_goals first | omega | rfl | exact trivial | (simp [mq_up] at * <;> omega)
    exact fun _ h => absurd h List.not_mem_nil
theorem mw0_advance : mq_mlA cq_advance 0 := ⟨kw_420, ⟨by decide +kernel, by decide +kernel⟩, by decide +kernel, kw_421, kw_422, kw_387, 20, by decide +kernel, fun as ρ μ h => by obtain ⟨nw, sp, tl, tx, al⟩ := ρ; obtain ⟨t, e, _⟩ := mq_pZ_spec h; exact ⟨0, t, e⟩⟩
def pq_flag : List mq_E := [(0, false, .aload 0), (1, false, .invokeinterface 5 6), (4, false, .ifCond .ne (Int.ofNat 20)), (7, false, .aload 0), (8, false, .iload 1), (9, false, .multianewarray 5 6), (12, false, .aload 0), (13, false, .aload 0), (14, false, .invokeinterface 5 2), (17, false, .multianewarray 5 7), (20, false, .return_)]
def cq_flag : mq_C := ((yX5_flag, cX5_flag, 2, none, { frames := 0, cells := 0, slots := 0, locals := 0 }), (2, 0, 0, 0), 1048576, (fun as ρ μ => match ρ with
  | (nw, sp, tl, tx, al) => mq_pZ as 20 fun as => mq_pI as fun w as => mq_p0 as (1 ≤ w ∧ w ≤ 3)),
  (fun as ρ μ r ρ' μ' => match as, ρ, ρ' with
  | [.inr (.inr (some (_, _))), .inl w], (nw, sp, tl, tx, al), (nw', sp', tl', tx', al') => [1 ≤ μ' (20, 0) 6]
  | _, _, _ => []))
def kq_flag : List mq_V → mq_R → mq_M → List mq_Cu := fun as ρ μ => match as, ρ with
  | [.inr (.inr (some (_, _))), .inl w], (nw, sp, tl, tx, al) => []
  | _, _ => []
set_option maxHeartbeats 16000000 in
set_option maxRecDepth 100000 in
theorem vq_flag (lc : Launch)  : mq_Ct lc cq_flag := by
  refine mq_method (lc := lc) (P := pq_flag) (cl := []) (T := ([(31, 5, 6), (19, 5, 2), (34, 5, 7)], [], [], [], [], [])) (fuel := 400) (cuts := kq_flag) (by decide) rfl ⟨rfl, rfl⟩ (fun _ h => absurd h List.not_mem_nil) ⟨(List.forall_mem_cons.mpr ⟨⟨_, rfl, by decide, kw_402⟩, (List.forall_mem_cons.mpr ⟨⟨_, rfl, by decide, kw_390⟩, (List.forall_mem_cons.mpr ⟨⟨_, rfl, by decide, kw_403⟩, (fun _ h => absurd h List.not_mem_nil)⟩)⟩)⟩), (fun _ h => absurd h List.not_mem_nil), (fun _ h => absurd h List.not_mem_nil), (fun _ h => absurd h List.not_mem_nil), (fun _ h => absurd h List.not_mem_nil), (fun _ h => absurd h List.not_mem_nil)⟩ (by decide +kernel) ⟨_, _, rfl⟩ ?_ ?_ ?_ ?_
  · intro as ρ μ h
    obtain ⟨nw, sp, tl, tx, al⟩ := ρ
    obtain ⟨as0, rfl, h0⟩ := mq_pZ_spec h
    clear h
    obtain ⟨w, as1, rfl, h1⟩ := mq_pI_spec h0
    clear h0
    obtain ⟨rfl, hp⟩ := mq_p0_spec h1
    clear h1
    obtain ⟨hp0, hp1⟩ := hp
    rfl
  · intro as ρ μ h
    obtain ⟨nw, sp, tl, tx, al⟩ := ρ
    obtain ⟨as0, rfl, h0⟩ := mq_pZ_spec h
    clear h
    obtain ⟨w, as1, rfl, h1⟩ := mq_pI_spec h0
    clear h0
    obtain ⟨rfl, hp⟩ := mq_p0_spec h1
    clear h1
    obtain ⟨hp0, hp1⟩ := hp
    intro hrg
    obtain ⟨⟨ha1a, ha1b⟩, -⟩ := hrg
    intro hbk
    have hk0 : 0 ≤ μ (20, 0) 6 ∧ μ (20, 0) 6 ≤ 3 := hbk (20, 0) 6
    have e0 : mq_l0 ([.inr (.inr (some (20, 0))), .inl w] : List mq_V) 2 = [some (.inr (.inr (some (20, 0)))), some (.inl w)] := rfl
    rw [e0]
    repeat' (first | refine And.intro ?_ ?_ | intro _)
    all_goals first | omega | rfl | exact trivial | (simp [mq_up] at * <;> omega)
  · intro as ρ μ h
    obtain ⟨nw, sp, tl, tx, al⟩ := ρ
    obtain ⟨as0, rfl, h0⟩ := mq_pZ_spec h
    clear h
    obtain ⟨w, as1, rfl, h1⟩ := mq_pI_spec h0
    clear h0
    obtain ⟨rfl, hp⟩ := mq_p0_spec h1
    clear h1
    obtain ⟨hp0, hp1⟩ := hp
    exact fun _ h => absurd h List.not_mem_nil
  · intro as ρ μ h
    obtain ⟨nw, sp, tl, tx, al⟩ := ρ
    obtain ⟨as0, rfl, h0⟩ := mq_pZ_spec h
    clear h
    obtain ⟨w, as1, rfl, h1⟩ := mq_pI_spec h0
    clear h0
    obtain ⟨rfl, hp⟩ := mq_p0_spec h1
    clear h1
    obtain ⟨hp0, hp1⟩ := hp
    intro hrg
    obtain ⟨⟨ha1a, ha1b⟩, -⟩ := hrg
    exact fun _ h => absurd h List.not_mem_nil
theorem mw0_flag : mq_mlA cq_flag 0 := ⟨kw_416, ⟨by decide +kernel, by decide +kernel⟩, by decide +kernel, kw_417, kw_418, kw_387, 20, by decide +kernel, fun as ρ μ h => by obtain ⟨nw, sp, tl, tx, al⟩ := ρ; obtain ⟨t, e, _⟩ := mq_pZ_spec h; exact ⟨0, t, e⟩⟩
def pq_isWord : List mq_E := [(0, false, .aload 0), (1, false, .invokeinterface 5 4), (4, false, .iconst 1), (5, false, .if_icmp .ne (Int.ofNat 24)), (8, false, .aload 0), (9, false, .invokeinterface 5 3), (12, false, .aload 0), (13, false, .invokeinterface 5 2), (16, false, .isub), (17, false, .aload 1), (18, false, .invokestatic 0), (21, false, .if_icmp .eq (Int.ofNat 26)), (24, false, .iconst 0), (25, false, .ireturn), (26, false, .iconst 0), (27, false, .istore 2), (28, true, .iload 2), (29, false, .aload 1), (30, false, .invokestatic 0), (33, false, .if_icmp .ge (Int.ofNat 63)), (36, false, .aload 0), (37, false, .invokeinterface 5 0), (40, false, .aload 0), (41, false, .invokeinterface 5 2), (44, false, .iload 2), (45, false, .iadd), (46, false, .baload), (47, false, .aload 1), (48, false, .iload 2), (49, false, .invokestatic 1), (52, false, .if_icmp .eq (Int.ofNat 57)), (55, false, .iconst 0), (56, false, .ireturn), (57, false, .iinc 2 1), (60, false, .goto (Int.ofNat 28)), (63, false, .iconst 1), (64, false, .ireturn)]
def cq_isWord : mq_C := ((yX5_isWord, cX5_isWord, 3, (some .boolean), { frames := 4, cells := 0, slots := 0, locals := 85 }), (2, 1, 0, 0), 0, (fun as ρ μ => match ρ with
  | (nw, sp, tl, tx, al) => mq_pZ as 20 fun as => mq_pR as 99 fun W as => mq_p0 as (tx = 19)),
  (fun as ρ μ r ρ' μ' => match as, ρ, ρ' with
  | [.inr (.inr (some (_, _))), .inr (.inr (some (_, W)))], (nw, sp, tl, tx, al), (nw', sp', tl', tx', al') => [0 ≤ r, r ≤ 1]
  | _, _, _ => []))
def kq_isWord : List mq_V → mq_R → mq_M → List mq_Cu := fun as ρ μ => match as, ρ with
  | [.inr (.inr (some (_, _))), .inr (.inr (some (_, W)))], (nw, sp, tl, tx, al) => [(28, [true, true, true], fun N l st ρ' μ' cs => mq_tZ l 20 fun l => mq_tR l 99 fun L1 l => mq_tI l fun v2 l => mq_t0 l (st = [] ∧ ρ' = (nw, sp, tl, tx, al) ∧ cs = 0 ∧ L1 = W ∧ 0 ≤ v2 ∧ v2 ≤ mq_sl W ∧ μ' (20, 0) 3 - μ' (20, 0) 2 = mq_sl W ∧ 0 ≤ (mq_sl W - v2 : Int) ∧ (mq_sl W - v2 : Int) < (N : Int)))]
  | _, _ => []
set_option maxHeartbeats 16000000 in
set_option maxRecDepth 100000 in
theorem vq_isWord (lc : Launch) (h_strLen : mq_Ct lc cq_strLen) (h_charAt : mq_Ct lc cq_charAt) : mq_Ct lc cq_isWord := by
  refine mq_method (lc := lc) (P := pq_isWord) (cl := [cq_strLen, cq_charAt]) (T := ([(25, 5, 4), (22, 5, 3), (19, 5, 2), (9, 5, 0)], [], [], [(79, 0, 0), (84, 1, 0)], [], [])) (fuel := 400) (cuts := kq_isWord) (by decide) rfl ⟨rfl, rfl⟩ (List.forall_mem_cons.mpr ⟨h_strLen, (List.forall_mem_cons.mpr ⟨h_charAt, (fun _ h => absurd h List.not_mem_nil)⟩)⟩) ⟨(List.forall_mem_cons.mpr ⟨⟨_, rfl, by decide, kw_391⟩, (List.forall_mem_cons.mpr ⟨⟨_, rfl, by decide, kw_383⟩, (List.forall_mem_cons.mpr ⟨⟨_, rfl, by decide, kw_390⟩, (List.forall_mem_cons.mpr ⟨⟨_, rfl, by decide, kw_381⟩, (fun _ h => absurd h List.not_mem_nil)⟩)⟩)⟩)⟩), (fun _ h => absurd h List.not_mem_nil), (fun _ h => absurd h List.not_mem_nil), (List.forall_mem_cons.mpr ⟨mq_ml0 rfl mw0_strLen kw_407, (List.forall_mem_cons.mpr ⟨mq_ml0 rfl mw0_charAt kw_411, (fun _ h => absurd h List.not_mem_nil)⟩)⟩), (fun _ h => absurd h List.not_mem_nil), (fun _ h => absurd h List.not_mem_nil)⟩ (by decide +kernel) ⟨_, _, rfl⟩ ?_ ?_ ?_ ?_
  · intro as ρ μ h
    obtain ⟨nw, sp, tl, tx, al⟩ := ρ
    obtain ⟨as0, rfl, h0⟩ := mq_pZ_spec h
    clear h
    obtain ⟨W, as1, rfl, h1⟩ := mq_pR_spec h0
    clear h0
    obtain ⟨rfl, hp⟩ := mq_p0_spec h1
    clear h1
    subst hp
    rfl
  · intro as ρ μ h
    obtain ⟨nw, sp, tl, tx, al⟩ := ρ
    obtain ⟨as0, rfl, h0⟩ := mq_pZ_spec h
    clear h
    obtain ⟨W, as1, rfl, h1⟩ := mq_pR_spec h0
    clear h0
    obtain ⟨rfl, hp⟩ := mq_p0_spec h1
    clear h1
    subst hp
    intro hrg
    intro hbk
    have hk0 : 0 ≤ μ (20, 0) 1 ∧ μ (20, 0) 1 ≤ 1600 := hbk (20, 0) 1
    have hk1 : 0 ≤ μ (20, 0) 2 ∧ μ (20, 0) 2 ≤ 1600 := hbk (20, 0) 2
    have hk2 : 0 ≤ μ (20, 0) 3 ∧ μ (20, 0) 3 ≤ 1600 := hbk (20, 0) 3
    have e0 : mq_l0 ([.inr (.inr (some (20, 0))), .inr (.inr (some (99, W)))] : List mq_V) 3 = [some (.inr (.inr (some (20, 0)))), some (.inr (.inr (some (99, W)))), none] := rfl
    rw [e0]
    repeat' (first | refine And.intro ?_ ?_ | intro _)
    all_goals first | omega | rfl | exact trivial | (simp [mq_up] at * <;> omega)
  · intro as ρ μ h
    obtain ⟨nw, sp, tl, tx, al⟩ := ρ
    obtain ⟨as0, rfl, h0⟩ := mq_pZ_spec h
    clear h
    obtain ⟨W, as1, rfl, h1⟩ := mq_pR_spec h0
    clear h0
    obtain ⟨rfl, hp⟩ := mq_p0_spec h1
    clear h1
    subst hp
    refine List.forall_mem_cons.mpr ⟨?_, ?_⟩
    · intro l st ρ' μ' cs hJ
      obtain ⟨l0, rfl, hJ0⟩ := mq_tZ_spec hJ
      clear hJ
      obtain ⟨L1, l1, rfl, hJ1⟩ := mq_tR_spec hJ0
      clear hJ0
      obtain ⟨v2, l2, rfl, hJ2⟩ := mq_tI_spec hJ1
      clear hJ1
      obtain ⟨rfl, hJz⟩ := mq_t0_spec hJ2
      clear hJ2
      obtain ⟨rfl, rfl, rfl, rfl, hc1, hc2, hc3, hm0, hm1⟩ := hJz
      omega
    exact fun _ h => absurd h List.not_mem_nil
  · intro as ρ μ h
    obtain ⟨nw, sp, tl, tx, al⟩ := ρ
    obtain ⟨as0, rfl, h0⟩ := mq_pZ_spec h
    clear h
    obtain ⟨W, as1, rfl, h1⟩ := mq_pR_spec h0
    clear h0
    obtain ⟨rfl, hp⟩ := mq_p0_spec h1
    clear h1
    subst hp
    intro hrg
    refine List.forall_mem_cons.mpr ⟨?_, ?_⟩
    · intro N l st ρ' μ' cs hJ
      obtain ⟨l0, rfl, hJ0⟩ := mq_tZ_spec hJ
      clear hJ
      obtain ⟨L1, l1, rfl, hJ1⟩ := mq_tR_spec hJ0
      clear hJ0
      obtain ⟨v2, l2, rfl, hJ2⟩ := mq_tI_spec hJ1
      clear hJ1
      obtain ⟨rfl, hJz⟩ := mq_t0_spec hJ2
      clear hJ2
      obtain ⟨rfl, rfl, rfl, rfl, hc1, hc2, hc3, hm0, hm1⟩ := hJz
      intro hbk hrl
      have hk0 : 0 ≤ μ' (20, 0) 1 ∧ μ' (20, 0) 1 ≤ 1600 := hbk (20, 0) 1
      have hk1 : 0 ≤ μ' (20, 0) 2 ∧ μ' (20, 0) 2 ≤ 1600 := hbk (20, 0) 2
      have hk2 : 0 ≤ μ' (20, 0) 3 ∧ μ' (20, 0) 3 ≤ 1600 := hbk (20, 0) 3
      obtain ⟨⟨hl2a, hl2b⟩, -⟩ := hrl
      repeat' (first | refine And.intro ?_ ?_ | intro _)
      all_goals first | omega | rfl | exact trivial | (simp [mq_up] at * <;> omega)
    exact fun _ h => absurd h List.not_mem_nil
theorem mw0_isWord : mq_mlA cq_isWord 0 := ⟨kw_412, ⟨by decide +kernel, by decide +kernel⟩, by decide +kernel, kw_413, kw_414, kw_387, 20, by decide +kernel, fun as ρ μ h => by obtain ⟨nw, sp, tl, tx, al⟩ := ρ; obtain ⟨t, e, _⟩ := mq_pZ_spec h; exact ⟨0, t, e⟩⟩
def pq_takeWord : List mq_E := [(0, false, .aload 0), (1, false, .aload 1), (2, false, .invokestatic 0), (5, false, .ifCond .ne (Int.ofNat 13)), (8, false, .aload 0), (9, false, .iconst 1), (10, false, .invokestatic 1), (13, false, .aload 0), (14, false, .invokeinterface 5 6), (17, false, .ifCond .ne (Int.ofNat 24)), (20, false, .aload 0), (21, false, .invokestatic 2), (24, false, .return_)]
def cq_takeWord : mq_C := ((yX5_takeWord, cX5_takeWord, 2, none, { frames := 5, cells := 0, slots := 0, locals := 107 }), (2, 0, 0, 0), 1048576, (fun as ρ μ => match ρ with
  | (nw, sp, tl, tx, al) => mq_pZ as 20 fun as => mq_pR as 99 fun W as => mq_p0 as (tx = 19)),
  (fun as ρ μ r ρ' μ' => match as, ρ, ρ' with
  | [.inr (.inr (some (_, _))), .inr (.inr (some (_, W)))], (nw, sp, tl, tx, al), (nw', sp', tl', tx', al') => []
  | _, _, _ => []))
def kq_takeWord : List mq_V → mq_R → mq_M → List mq_Cu := fun as ρ μ => match as, ρ with
  | [.inr (.inr (some (_, _))), .inr (.inr (some (_, W)))], (nw, sp, tl, tx, al) => []
  | _, _ => []
set_option maxHeartbeats 16000000 in
set_option maxRecDepth 100000 in
theorem vq_takeWord (lc : Launch) (h_isWord : mq_Ct lc cq_isWord) (h_flag : mq_Ct lc cq_flag) (h_advance : mq_Ct lc cq_advance) : mq_Ct lc cq_takeWord := by
  refine mq_method (lc := lc) (P := pq_takeWord) (cl := [cq_isWord, cq_flag, cq_advance]) (T := ([(31, 5, 6)], [], [], [(88, 0, 0), (92, 1, 0), (55, 2, 0)], [], [])) (fuel := 400) (cuts := kq_takeWord) (by decide) rfl ⟨rfl, rfl⟩ (List.forall_mem_cons.mpr ⟨h_isWord, (List.forall_mem_cons.mpr ⟨h_flag, (List.forall_mem_cons.mpr ⟨h_advance, (fun _ h => absurd h List.not_mem_nil)⟩)⟩)⟩) ⟨(List.forall_mem_cons.mpr ⟨⟨_, rfl, by decide, kw_402⟩, (fun _ h => absurd h List.not_mem_nil)⟩), (fun _ h => absurd h List.not_mem_nil), (fun _ h => absurd h List.not_mem_nil), (List.forall_mem_cons.mpr ⟨mq_ml0 rfl mw0_isWord kw_415, (List.forall_mem_cons.mpr ⟨mq_ml0 rfl mw0_flag kw_419, (List.forall_mem_cons.mpr ⟨mq_ml0 rfl mw0_advance kw_423, (fun _ h => absurd h List.not_mem_nil)⟩)⟩)⟩), (fun _ h => absurd h List.not_mem_nil), (fun _ h => absurd h List.not_mem_nil)⟩ (by decide +kernel) ⟨_, _, rfl⟩ ?_ ?_ ?_ ?_
  · intro as ρ μ h
    obtain ⟨nw, sp, tl, tx, al⟩ := ρ
    obtain ⟨as0, rfl, h0⟩ := mq_pZ_spec h
    clear h
    obtain ⟨W, as1, rfl, h1⟩ := mq_pR_spec h0
    clear h0
    obtain ⟨rfl, hp⟩ := mq_p0_spec h1
    clear h1
    subst hp
    rfl
  · intro as ρ μ h
    obtain ⟨nw, sp, tl, tx, al⟩ := ρ
    obtain ⟨as0, rfl, h0⟩ := mq_pZ_spec h
    clear h
    obtain ⟨W, as1, rfl, h1⟩ := mq_pR_spec h0
    clear h0
    obtain ⟨rfl, hp⟩ := mq_p0_spec h1
    clear h1
    subst hp
    intro hrg
    intro hbk
    have e0 : mq_l0 ([.inr (.inr (some (20, 0))), .inr (.inr (some (99, W)))] : List mq_V) 2 = [some (.inr (.inr (some (20, 0)))), some (.inr (.inr (some (99, W))))] := rfl
    rw [e0]
    repeat' (first | refine And.intro ?_ ?_ | intro _)
    all_goals first | omega | rfl | exact trivial | (simp [mq_up] at * <;> omega)
  · intro as ρ μ h
    obtain ⟨nw, sp, tl, tx, al⟩ := ρ
    obtain ⟨as0, rfl, h0⟩ := mq_pZ_spec h
    clear h
    obtain ⟨W, as1, rfl, h1⟩ := mq_pR_spec h0
    clear h0
    obtain ⟨rfl, hp⟩ := mq_p0_spec h1
    clear h1
    subst hp
    exact fun _ h => absurd h List.not_mem_nil
  · intro as ρ μ h
    obtain ⟨nw, sp, tl, tx, al⟩ := ρ
    obtain ⟨as0, rfl, h0⟩ := mq_pZ_spec h
    clear h
    obtain ⟨W, as1, rfl, h1⟩ := mq_pR_spec h0
    clear h0
    obtain ⟨rfl, hp⟩ := mq_p0_spec h1
    clear h1
    subst hp
    intro hrg
    exact fun _ h => absurd h List.not_mem_nil
theorem mw0_takeWord : mq_mlA cq_takeWord 0 := ⟨kw_430, ⟨by decide +kernel, by decide +kernel⟩, by decide +kernel, kw_431, kw_432, kw_387, 20, by decide +kernel, fun as ρ μ h => by obtain ⟨nw, sp, tl, tx, al⟩ := ρ; obtain ⟨t, e, _⟩ := mq_pZ_spec h; exact ⟨0, t, e⟩⟩
def pq_takeNumber : List mq_E := [(0, false, .aload 0), (1, false, .invokeinterface 5 5), (4, false, .istore 3), (5, false, .aload 0), (6, false, .invokeinterface 5 4), (9, false, .iconst 2), (10, false, .if_icmp .eq (Int.ofNat 21)), (13, false, .aload 0), (14, false, .iconst 1), (15, false, .invokestatic 0), (18, false, .goto (Int.ofNat 36)), (21, false, .iload 3), (22, false, .iload 1), (23, false, .if_icmp .lt (Int.ofNat 31)), (26, false, .iload 3), (27, false, .iload 2), (28, false, .if_icmp .le (Int.ofNat 36)), (31, false, .aload 0), (32, false, .iconst 2), (33, false, .invokestatic 0), (36, false, .aload 0), (37, false, .invokeinterface 5 6), (40, false, .ifCond .eq (Int.ofNat 45)), (43, false, .iconst 0), (44, false, .ireturn), (45, false, .aload 0), (46, false, .invokestatic 1), (49, false, .iload 3), (50, false, .ireturn)]
def cq_takeNumber : mq_C := ((yX5_takeNumber, cX5_takeNumber, 4, (some .int), { frames := 3, cells := 0, slots := 0, locals := 61 }), (3, 1, 0, 0), 1048576, (fun as ρ μ => match ρ with
  | (nw, sp, tl, tx, al) => mq_pZ as 20 fun as => mq_pI as fun lo as => mq_pI as fun hi as => mq_p0 as (tx = 19)),
  (fun as ρ μ r ρ' μ' => match as, ρ, ρ' with
  | [.inr (.inr (some (_, _))), .inl lo, .inl hi], (nw, sp, tl, tx, al), (nw', sp', tl', tx', al') => [r = 0 ∨ (lo ≤ r ∧ r ≤ hi)]
  | _, _, _ => []))
def kq_takeNumber : List mq_V → mq_R → mq_M → List mq_Cu := fun as ρ μ => match as, ρ with
  | [.inr (.inr (some (_, _))), .inl lo, .inl hi], (nw, sp, tl, tx, al) => []
  | _, _ => []
set_option maxHeartbeats 16000000 in
set_option maxRecDepth 100000 in
theorem vq_takeNumber (lc : Launch) (h_flag : mq_Ct lc cq_flag) (h_advance : mq_Ct lc cq_advance) : mq_Ct lc cq_takeNumber := by
  refine mq_method (lc := lc) (P := pq_takeNumber) (cl := [cq_flag, cq_advance]) (T := ([(28, 5, 5), (25, 5, 4), (31, 5, 6)], [], [], [(92, 0, 0), (55, 1, 0)], [], [])) (fuel := 400) (cuts := kq_takeNumber) (by decide) rfl ⟨rfl, rfl⟩ (List.forall_mem_cons.mpr ⟨h_flag, (List.forall_mem_cons.mpr ⟨h_advance, (fun _ h => absurd h List.not_mem_nil)⟩)⟩) ⟨(List.forall_mem_cons.mpr ⟨⟨_, rfl, by decide, kw_382⟩, (List.forall_mem_cons.mpr ⟨⟨_, rfl, by decide, kw_391⟩, (List.forall_mem_cons.mpr ⟨⟨_, rfl, by decide, kw_402⟩, (fun _ h => absurd h List.not_mem_nil)⟩)⟩)⟩), (fun _ h => absurd h List.not_mem_nil), (fun _ h => absurd h List.not_mem_nil), (List.forall_mem_cons.mpr ⟨mq_ml0 rfl mw0_flag kw_419, (List.forall_mem_cons.mpr ⟨mq_ml0 rfl mw0_advance kw_423, (fun _ h => absurd h List.not_mem_nil)⟩)⟩), (fun _ h => absurd h List.not_mem_nil), (fun _ h => absurd h List.not_mem_nil)⟩ (by decide +kernel) ⟨_, _, rfl⟩ ?_ ?_ ?_ ?_
  · intro as ρ μ h
    obtain ⟨nw, sp, tl, tx, al⟩ := ρ
    obtain ⟨as0, rfl, h0⟩ := mq_pZ_spec h
    clear h
    obtain ⟨lo, as1, rfl, h1⟩ := mq_pI_spec h0
    clear h0
    obtain ⟨hi, as2, rfl, h2⟩ := mq_pI_spec h1
    clear h1
    obtain ⟨rfl, hp⟩ := mq_p0_spec h2
    clear h2
    subst hp
    rfl
  · intro as ρ μ h
    obtain ⟨nw, sp, tl, tx, al⟩ := ρ
    obtain ⟨as0, rfl, h0⟩ := mq_pZ_spec h
    clear h
    obtain ⟨lo, as1, rfl, h1⟩ := mq_pI_spec h0
    clear h0
    obtain ⟨hi, as2, rfl, h2⟩ := mq_pI_spec h1
    clear h1
    obtain ⟨rfl, hp⟩ := mq_p0_spec h2
    clear h2
    subst hp
    intro hrg
    obtain ⟨⟨ha1a, ha1b⟩, ⟨ha2a, ha2b⟩, -⟩ := hrg
    intro hbk
    have e0 : mq_l0 ([.inr (.inr (some (20, 0))), .inl lo, .inl hi] : List mq_V) 4 = [some (.inr (.inr (some (20, 0)))), some (.inl lo), some (.inl hi), none] := rfl
    rw [e0]
    repeat' (first | refine And.intro ?_ ?_ | intro _)
    all_goals first | omega | rfl | exact trivial | (simp [mq_up] at * <;> omega)
  · intro as ρ μ h
    obtain ⟨nw, sp, tl, tx, al⟩ := ρ
    obtain ⟨as0, rfl, h0⟩ := mq_pZ_spec h
    clear h
    obtain ⟨lo, as1, rfl, h1⟩ := mq_pI_spec h0
    clear h0
    obtain ⟨hi, as2, rfl, h2⟩ := mq_pI_spec h1
    clear h1
    obtain ⟨rfl, hp⟩ := mq_p0_spec h2
    clear h2
    subst hp
    exact fun _ h => absurd h List.not_mem_nil
  · intro as ρ μ h
    obtain ⟨nw, sp, tl, tx, al⟩ := ρ
    obtain ⟨as0, rfl, h0⟩ := mq_pZ_spec h
    clear h
    obtain ⟨lo, as1, rfl, h1⟩ := mq_pI_spec h0
    clear h0
    obtain ⟨hi, as2, rfl, h2⟩ := mq_pI_spec h1
    clear h1
    obtain ⟨rfl, hp⟩ := mq_p0_spec h2
    clear h2
    subst hp
    intro hrg
    obtain ⟨⟨ha1a, ha1b⟩, ⟨ha2a, ha2b⟩, -⟩ := hrg
    exact fun _ h => absurd h List.not_mem_nil
theorem mw0_takeNumber : mq_mlA cq_takeNumber 0 := ⟨kw_434, ⟨by decide +kernel, by decide +kernel⟩, by decide +kernel, kw_435, kw_436, kw_387, 20, by decide +kernel, fun as ρ μ h => by obtain ⟨nw, sp, tl, tx, al⟩ := ρ; obtain ⟨t, e, _⟩ := mq_pZ_spec h; exact ⟨0, t, e⟩⟩
def pq_takeSign : List mq_E := [(0, false, .aload 0), (1, false, .invokeinterface 5 4), (4, false, .iconst 3), (5, false, .if_icmp .eq (Int.ofNat 13)), (8, false, .aload 0), (9, false, .iconst 1), (10, false, .invokestatic 0), (13, false, .aload 0), (14, false, .invokeinterface 5 6), (17, false, .ifCond .ne (Int.ofNat 24)), (20, false, .aload 0), (21, false, .invokestatic 1), (24, false, .return_)]
def cq_takeSign : mq_C := ((yX5_takeSign, cX5_takeSign, 1, none, { frames := 3, cells := 0, slots := 0, locals := 61 }), (1, 0, 0, 0), 1048576, (fun as ρ μ => match ρ with
  | (nw, sp, tl, tx, al) => mq_pZ as 20 fun as => mq_p0 as (tx = 19)),
  (fun as ρ μ r ρ' μ' => match as, ρ, ρ' with
  | [.inr (.inr (some (_, _)))], (nw, sp, tl, tx, al), (nw', sp', tl', tx', al') => []
  | _, _, _ => []))
def kq_takeSign : List mq_V → mq_R → mq_M → List mq_Cu := fun as ρ μ => match as, ρ with
  | [.inr (.inr (some (_, _)))], (nw, sp, tl, tx, al) => []
  | _, _ => []
set_option maxHeartbeats 16000000 in
set_option maxRecDepth 100000 in
theorem vq_takeSign (lc : Launch) (h_flag : mq_Ct lc cq_flag) (h_advance : mq_Ct lc cq_advance) : mq_Ct lc cq_takeSign := by
  refine mq_method (lc := lc) (P := pq_takeSign) (cl := [cq_flag, cq_advance]) (T := ([(25, 5, 4), (31, 5, 6)], [], [], [(92, 0, 0), (55, 1, 0)], [], [])) (fuel := 400) (cuts := kq_takeSign) (by decide) rfl ⟨rfl, rfl⟩ (List.forall_mem_cons.mpr ⟨h_flag, (List.forall_mem_cons.mpr ⟨h_advance, (fun _ h => absurd h List.not_mem_nil)⟩)⟩) ⟨(List.forall_mem_cons.mpr ⟨⟨_, rfl, by decide, kw_391⟩, (List.forall_mem_cons.mpr ⟨⟨_, rfl, by decide, kw_402⟩, (fun _ h => absurd h List.not_mem_nil)⟩)⟩), (fun _ h => absurd h List.not_mem_nil), (fun _ h => absurd h List.not_mem_nil), (List.forall_mem_cons.mpr ⟨mq_ml0 rfl mw0_flag kw_419, (List.forall_mem_cons.mpr ⟨mq_ml0 rfl mw0_advance kw_423, (fun _ h => absurd h List.not_mem_nil)⟩)⟩), (fun _ h => absurd h List.not_mem_nil), (fun _ h => absurd h List.not_mem_nil)⟩ (by decide +kernel) ⟨_, _, rfl⟩ ?_ ?_ ?_ ?_
  · intro as ρ μ h
    obtain ⟨nw, sp, tl, tx, al⟩ := ρ
    obtain ⟨as0, rfl, h0⟩ := mq_pZ_spec h
    clear h
    obtain ⟨rfl, hp⟩ := mq_p0_spec h0
    clear h0
    subst hp
    rfl
  · intro as ρ μ h
    obtain ⟨nw, sp, tl, tx, al⟩ := ρ
    obtain ⟨as0, rfl, h0⟩ := mq_pZ_spec h
    clear h
    obtain ⟨rfl, hp⟩ := mq_p0_spec h0
    clear h0
    subst hp
    intro hrg
    intro hbk
    have e0 : mq_l0 ([.inr (.inr (some (20, 0)))] : List mq_V) 1 = [some (.inr (.inr (some (20, 0))))] := rfl
    rw [e0]
    repeat' (first | refine And.intro ?_ ?_ | intro _)
    all_goals first | omega | rfl | exact trivial | (simp [mq_up] at * <;> omega)
  · intro as ρ μ h
    obtain ⟨nw, sp, tl, tx, al⟩ := ρ
    obtain ⟨as0, rfl, h0⟩ := mq_pZ_spec h
    clear h
    obtain ⟨rfl, hp⟩ := mq_p0_spec h0
    clear h0
    subst hp
    exact fun _ h => absurd h List.not_mem_nil
  · intro as ρ μ h
    obtain ⟨nw, sp, tl, tx, al⟩ := ρ
    obtain ⟨as0, rfl, h0⟩ := mq_pZ_spec h
    clear h
    obtain ⟨rfl, hp⟩ := mq_p0_spec h0
    clear h0
    subst hp
    intro hrg
    exact fun _ h => absurd h List.not_mem_nil
theorem mw0_takeSign : mq_mlA cq_takeSign 0 := ⟨kw_438, ⟨by decide +kernel, by decide +kernel⟩, by decide +kernel, kw_439, kw_440, kw_387, 20, by decide +kernel, fun as ρ μ h => by obtain ⟨nw, sp, tl, tx, al⟩ := ρ; obtain ⟨t, e, _⟩ := mq_pZ_spec h; exact ⟨0, t, e⟩⟩
def pq_takeRow_slopes : List mq_E := [(0, false, .aload 1), (1, false, .invokestatic 0), (4, false, .ifCond .eq (Int.ofNat 14)), (7, false, .aload 0), (8, false, .iconst 3), (9, false, .invokestatic 1), (12, false, .iconst (-1)), (13, false, .ireturn), (14, false, .aload 0), (15, false, .invokestatic 2), (18, false, .aload 1), (19, false, .invokestatic 3), (22, false, .ireturn)]
def cq_takeRow_slopes : mq_C := ((yX5_takeRow, cX5_takeRow, 2, (some .int), { frames := 3, cells := 0, slots := 0, locals := 61 }), (2, 1, 0, 0), 1048584, (fun as ρ μ => match ρ with
  | (nw, sp, tl, tx, al) => mq_pZ as 20 fun as => mq_pR as 3 fun L as => mq_p0 as (tx = 19)),
  (fun as ρ μ r ρ' μ' => match as, ρ, ρ' with
  | [.inr (.inr (some (_, _))), .inr (.inr (some (_, L)))], (nw, sp, tl, tx, al), (nw', sp', tl', tx', al') => [-1 ≤ r, r < 8]
  | _, _, _ => []))
def kq_takeRow_slopes : List mq_V → mq_R → mq_M → List mq_Cu := fun as ρ μ => match as, ρ with
  | [.inr (.inr (some (_, _))), .inr (.inr (some (_, L)))], (nw, sp, tl, tx, al) => []
  | _, _ => []
set_option maxHeartbeats 16000000 in
set_option maxRecDepth 100000 in
theorem vq_takeRow_slopes (lc : Launch) (h_isFull_slopes : mq_Ct lc cq_isFull_slopes) (h_flag : mq_Ct lc cq_flag) (h_advance : mq_Ct lc cq_advance) (h_add_slopes : mq_Ct lc cq_add_slopes) : mq_Ct lc cq_takeRow_slopes := by
  refine mq_method (lc := lc) (P := pq_takeRow_slopes) (cl := [cq_isFull_slopes, cq_flag, cq_advance, cq_add_slopes]) (T := ([], [], [], [(96, 0, 0), (92, 1, 0), (55, 2, 0), (102, 3, 0)], [], [])) (fuel := 400) (cuts := kq_takeRow_slopes) (by decide) rfl ⟨rfl, rfl⟩ (List.forall_mem_cons.mpr ⟨h_isFull_slopes, (List.forall_mem_cons.mpr ⟨h_flag, (List.forall_mem_cons.mpr ⟨h_advance, (List.forall_mem_cons.mpr ⟨h_add_slopes, (fun _ h => absurd h List.not_mem_nil)⟩)⟩)⟩)⟩) ⟨(fun _ h => absurd h List.not_mem_nil), (fun _ h => absurd h List.not_mem_nil), (fun _ h => absurd h List.not_mem_nil), (List.forall_mem_cons.mpr ⟨mq_ml0 rfl mw0_isFull_slopes kw_424, (List.forall_mem_cons.mpr ⟨mq_ml0 rfl mw0_flag kw_419, (List.forall_mem_cons.mpr ⟨mq_ml0 rfl mw0_advance kw_423, (List.forall_mem_cons.mpr ⟨mq_ml0 rfl mw0_add_slopes kw_428, (fun _ h => absurd h List.not_mem_nil)⟩)⟩)⟩)⟩), (fun _ h => absurd h List.not_mem_nil), (fun _ h => absurd h List.not_mem_nil)⟩ (by decide +kernel) ⟨_, _, rfl⟩ ?_ ?_ ?_ ?_
  · intro as ρ μ h
    obtain ⟨nw, sp, tl, tx, al⟩ := ρ
    obtain ⟨as0, rfl, h0⟩ := mq_pZ_spec h
    clear h
    obtain ⟨L, as1, rfl, h1⟩ := mq_pR_spec h0
    clear h0
    obtain ⟨rfl, hp⟩ := mq_p0_spec h1
    clear h1
    subst hp
    rfl
  · intro as ρ μ h
    obtain ⟨nw, sp, tl, tx, al⟩ := ρ
    obtain ⟨as0, rfl, h0⟩ := mq_pZ_spec h
    clear h
    obtain ⟨L, as1, rfl, h1⟩ := mq_pR_spec h0
    clear h0
    obtain ⟨rfl, hp⟩ := mq_p0_spec h1
    clear h1
    subst hp
    intro hrg
    intro hbk
    have e0 : mq_l0 ([.inr (.inr (some (20, 0))), .inr (.inr (some (3, L)))] : List mq_V) 2 = [some (.inr (.inr (some (20, 0)))), some (.inr (.inr (some (3, L))))] := rfl
    rw [e0]
    repeat' (first | refine And.intro ?_ ?_ | intro _)
    all_goals first | omega | rfl | exact trivial | (simp [mq_up] at * <;> omega)
  · intro as ρ μ h
    obtain ⟨nw, sp, tl, tx, al⟩ := ρ
    obtain ⟨as0, rfl, h0⟩ := mq_pZ_spec h
    clear h
    obtain ⟨L, as1, rfl, h1⟩ := mq_pR_spec h0
    clear h0
    obtain ⟨rfl, hp⟩ := mq_p0_spec h1
    clear h1
    subst hp
    exact fun _ h => absurd h List.not_mem_nil
  · intro as ρ μ h
    obtain ⟨nw, sp, tl, tx, al⟩ := ρ
    obtain ⟨as0, rfl, h0⟩ := mq_pZ_spec h
    clear h
    obtain ⟨L, as1, rfl, h1⟩ := mq_pR_spec h0
    clear h0
    obtain ⟨rfl, hp⟩ := mq_p0_spec h1
    clear h1
    subst hp
    intro hrg
    exact fun _ h => absurd h List.not_mem_nil
theorem mw0_takeRow_slopes : mq_mlA cq_takeRow_slopes 0 := ⟨kw_443, ⟨by decide +kernel, by decide +kernel⟩, by decide +kernel, kw_444, kw_445, kw_387, 20, by decide +kernel, fun as ρ μ h => by obtain ⟨nw, sp, tl, tx, al⟩ := ρ; obtain ⟨t, e, _⟩ := mq_pZ_spec h; exact ⟨0, t, e⟩⟩
def pq_takeRow_wets : List mq_E := [(0, false, .aload 1), (1, false, .invokestatic 0), (4, false, .ifCond .eq (Int.ofNat 14)), (7, false, .aload 0), (8, false, .iconst 3), (9, false, .invokestatic 1), (12, false, .iconst (-1)), (13, false, .ireturn), (14, false, .aload 0), (15, false, .invokestatic 2), (18, false, .aload 1), (19, false, .invokestatic 3), (22, false, .ireturn)]
def cq_takeRow_wets : mq_C := ((yX5_takeRow, cX5_takeRow, 2, (some .int), { frames := 3, cells := 0, slots := 0, locals := 61 }), (2, 1, 0, 0), 1048592, (fun as ρ μ => match ρ with
  | (nw, sp, tl, tx, al) => mq_pZ as 20 fun as => mq_pR as 4 fun L as => mq_p0 as (tx = 19)),
  (fun as ρ μ r ρ' μ' => match as, ρ, ρ' with
  | [.inr (.inr (some (_, _))), .inr (.inr (some (_, L)))], (nw, sp, tl, tx, al), (nw', sp', tl', tx', al') => [-1 ≤ r, r < 6]
  | _, _, _ => []))
def kq_takeRow_wets : List mq_V → mq_R → mq_M → List mq_Cu := fun as ρ μ => match as, ρ with
  | [.inr (.inr (some (_, _))), .inr (.inr (some (_, L)))], (nw, sp, tl, tx, al) => []
  | _, _ => []
set_option maxHeartbeats 16000000 in
set_option maxRecDepth 100000 in
theorem vq_takeRow_wets (lc : Launch) (h_isFull_wets : mq_Ct lc cq_isFull_wets) (h_flag : mq_Ct lc cq_flag) (h_advance : mq_Ct lc cq_advance) (h_add_wets : mq_Ct lc cq_add_wets) : mq_Ct lc cq_takeRow_wets := by
  refine mq_method (lc := lc) (P := pq_takeRow_wets) (cl := [cq_isFull_wets, cq_flag, cq_advance, cq_add_wets]) (T := ([], [], [], [(96, 0, 0), (92, 1, 0), (55, 2, 0), (102, 3, 0)], [], [])) (fuel := 400) (cuts := kq_takeRow_wets) (by decide) rfl ⟨rfl, rfl⟩ (List.forall_mem_cons.mpr ⟨h_isFull_wets, (List.forall_mem_cons.mpr ⟨h_flag, (List.forall_mem_cons.mpr ⟨h_advance, (List.forall_mem_cons.mpr ⟨h_add_wets, (fun _ h => absurd h List.not_mem_nil)⟩)⟩)⟩)⟩) ⟨(fun _ h => absurd h List.not_mem_nil), (fun _ h => absurd h List.not_mem_nil), (fun _ h => absurd h List.not_mem_nil), (List.forall_mem_cons.mpr ⟨mq_ml0 rfl mw0_isFull_wets kw_424, (List.forall_mem_cons.mpr ⟨mq_ml0 rfl mw0_flag kw_419, (List.forall_mem_cons.mpr ⟨mq_ml0 rfl mw0_advance kw_423, (List.forall_mem_cons.mpr ⟨mq_ml0 rfl mw0_add_wets kw_428, (fun _ h => absurd h List.not_mem_nil)⟩)⟩)⟩)⟩), (fun _ h => absurd h List.not_mem_nil), (fun _ h => absurd h List.not_mem_nil)⟩ (by decide +kernel) ⟨_, _, rfl⟩ ?_ ?_ ?_ ?_
  · intro as ρ μ h
    obtain ⟨nw, sp, tl, tx, al⟩ := ρ
    obtain ⟨as0, rfl, h0⟩ := mq_pZ_spec h
    clear h
    obtain ⟨L, as1, rfl, h1⟩ := mq_pR_spec h0
    clear h0
    obtain ⟨rfl, hp⟩ := mq_p0_spec h1
    clear h1
    subst hp
    rfl
  · intro as ρ μ h
    obtain ⟨nw, sp, tl, tx, al⟩ := ρ
    obtain ⟨as0, rfl, h0⟩ := mq_pZ_spec h
    clear h
    obtain ⟨L, as1, rfl, h1⟩ := mq_pR_spec h0
    clear h0
    obtain ⟨rfl, hp⟩ := mq_p0_spec h1
    clear h1
    subst hp
    intro hrg
    intro hbk
    have e0 : mq_l0 ([.inr (.inr (some (20, 0))), .inr (.inr (some (4, L)))] : List mq_V) 2 = [some (.inr (.inr (some (20, 0)))), some (.inr (.inr (some (4, L))))] := rfl
    rw [e0]
    repeat' (first | refine And.intro ?_ ?_ | intro _)
    all_goals first | omega | rfl | exact trivial | (simp [mq_up] at * <;> omega)
  · intro as ρ μ h
    obtain ⟨nw, sp, tl, tx, al⟩ := ρ
    obtain ⟨as0, rfl, h0⟩ := mq_pZ_spec h
    clear h
    obtain ⟨L, as1, rfl, h1⟩ := mq_pR_spec h0
    clear h0
    obtain ⟨rfl, hp⟩ := mq_p0_spec h1
    clear h1
    subst hp
    exact fun _ h => absurd h List.not_mem_nil
  · intro as ρ μ h
    obtain ⟨nw, sp, tl, tx, al⟩ := ρ
    obtain ⟨as0, rfl, h0⟩ := mq_pZ_spec h
    clear h
    obtain ⟨L, as1, rfl, h1⟩ := mq_pR_spec h0
    clear h0
    obtain ⟨rfl, hp⟩ := mq_p0_spec h1
    clear h1
    subst hp
    intro hrg
    exact fun _ h => absurd h List.not_mem_nil
theorem mw0_takeRow_wets : mq_mlA cq_takeRow_wets 0 := ⟨kw_443, ⟨by decide +kernel, by decide +kernel⟩, by decide +kernel, kw_444, kw_445, kw_387, 20, by decide +kernel, fun as ρ μ h => by obtain ⟨nw, sp, tl, tx, al⟩ := ρ; obtain ⟨t, e, _⟩ := mq_pZ_spec h; exact ⟨0, t, e⟩⟩
def pq_takeRow_limits : List mq_E := [(0, false, .aload 1), (1, false, .invokestatic 0), (4, false, .ifCond .eq (Int.ofNat 14)), (7, false, .aload 0), (8, false, .iconst 3), (9, false, .invokestatic 1), (12, false, .iconst (-1)), (13, false, .ireturn), (14, false, .aload 0), (15, false, .invokestatic 2), (18, false, .aload 1), (19, false, .invokestatic 3), (22, false, .ireturn)]
def cq_takeRow_limits : mq_C := ((yX5_takeRow, cX5_takeRow, 2, (some .int), { frames := 3, cells := 0, slots := 0, locals := 61 }), (2, 1, 0, 0), 1048608, (fun as ρ μ => match ρ with
  | (nw, sp, tl, tx, al) => mq_pZ as 20 fun as => mq_pR as 5 fun L as => mq_p0 as (tx = 19)),
  (fun as ρ μ r ρ' μ' => match as, ρ, ρ' with
  | [.inr (.inr (some (_, _))), .inr (.inr (some (_, L)))], (nw, sp, tl, tx, al), (nw', sp', tl', tx', al') => [-1 ≤ r, r < 6]
  | _, _, _ => []))
def kq_takeRow_limits : List mq_V → mq_R → mq_M → List mq_Cu := fun as ρ μ => match as, ρ with
  | [.inr (.inr (some (_, _))), .inr (.inr (some (_, L)))], (nw, sp, tl, tx, al) => []
  | _, _ => []
set_option maxHeartbeats 16000000 in
set_option maxRecDepth 100000 in
theorem vq_takeRow_limits (lc : Launch) (h_isFull_limits : mq_Ct lc cq_isFull_limits) (h_flag : mq_Ct lc cq_flag) (h_advance : mq_Ct lc cq_advance) (h_add_limits : mq_Ct lc cq_add_limits) : mq_Ct lc cq_takeRow_limits := by
  refine mq_method (lc := lc) (P := pq_takeRow_limits) (cl := [cq_isFull_limits, cq_flag, cq_advance, cq_add_limits]) (T := ([], [], [], [(96, 0, 0), (92, 1, 0), (55, 2, 0), (102, 3, 0)], [], [])) (fuel := 400) (cuts := kq_takeRow_limits) (by decide) rfl ⟨rfl, rfl⟩ (List.forall_mem_cons.mpr ⟨h_isFull_limits, (List.forall_mem_cons.mpr ⟨h_flag, (List.forall_mem_cons.mpr ⟨h_advance, (List.forall_mem_cons.mpr ⟨h_add_limits, (fun _ h => absurd h List.not_mem_nil)⟩)⟩)⟩)⟩) ⟨(fun _ h => absurd h List.not_mem_nil), (fun _ h => absurd h List.not_mem_nil), (fun _ h => absurd h List.not_mem_nil), (List.forall_mem_cons.mpr ⟨mq_ml0 rfl mw0_isFull_limits kw_424, (List.forall_mem_cons.mpr ⟨mq_ml0 rfl mw0_flag kw_419, (List.forall_mem_cons.mpr ⟨mq_ml0 rfl mw0_advance kw_423, (List.forall_mem_cons.mpr ⟨mq_ml0 rfl mw0_add_limits kw_428, (fun _ h => absurd h List.not_mem_nil)⟩)⟩)⟩)⟩), (fun _ h => absurd h List.not_mem_nil), (fun _ h => absurd h List.not_mem_nil)⟩ (by decide +kernel) ⟨_, _, rfl⟩ ?_ ?_ ?_ ?_
  · intro as ρ μ h
    obtain ⟨nw, sp, tl, tx, al⟩ := ρ
    obtain ⟨as0, rfl, h0⟩ := mq_pZ_spec h
    clear h
    obtain ⟨L, as1, rfl, h1⟩ := mq_pR_spec h0
    clear h0
    obtain ⟨rfl, hp⟩ := mq_p0_spec h1
    clear h1
    subst hp
    rfl
  · intro as ρ μ h
    obtain ⟨nw, sp, tl, tx, al⟩ := ρ
    obtain ⟨as0, rfl, h0⟩ := mq_pZ_spec h
    clear h
    obtain ⟨L, as1, rfl, h1⟩ := mq_pR_spec h0
    clear h0
    obtain ⟨rfl, hp⟩ := mq_p0_spec h1
    clear h1
    subst hp
    intro hrg
    intro hbk
    have e0 : mq_l0 ([.inr (.inr (some (20, 0))), .inr (.inr (some (5, L)))] : List mq_V) 2 = [some (.inr (.inr (some (20, 0)))), some (.inr (.inr (some (5, L))))] := rfl
    rw [e0]
    repeat' (first | refine And.intro ?_ ?_ | intro _)
    all_goals first | omega | rfl | exact trivial | (simp [mq_up] at * <;> omega)
  · intro as ρ μ h
    obtain ⟨nw, sp, tl, tx, al⟩ := ρ
    obtain ⟨as0, rfl, h0⟩ := mq_pZ_spec h
    clear h
    obtain ⟨L, as1, rfl, h1⟩ := mq_pR_spec h0
    clear h0
    obtain ⟨rfl, hp⟩ := mq_p0_spec h1
    clear h1
    subst hp
    exact fun _ h => absurd h List.not_mem_nil
  · intro as ρ μ h
    obtain ⟨nw, sp, tl, tx, al⟩ := ρ
    obtain ⟨as0, rfl, h0⟩ := mq_pZ_spec h
    clear h
    obtain ⟨L, as1, rfl, h1⟩ := mq_pR_spec h0
    clear h0
    obtain ⟨rfl, hp⟩ := mq_p0_spec h1
    clear h1
    subst hp
    intro hrg
    exact fun _ h => absurd h List.not_mem_nil
theorem mw0_takeRow_limits : mq_mlA cq_takeRow_limits 0 := ⟨kw_443, ⟨by decide +kernel, by decide +kernel⟩, by decide +kernel, kw_444, kw_445, kw_387, 20, by decide +kernel, fun as ρ μ h => by obtain ⟨nw, sp, tl, tx, al⟩ := ρ; obtain ⟨t, e, _⟩ := mq_pZ_spec h; exact ⟨0, t, e⟩⟩
def pq_takeRow_platforms : List mq_E := [(0, false, .aload 1), (1, false, .invokestatic 0), (4, false, .ifCond .eq (Int.ofNat 14)), (7, false, .aload 0), (8, false, .iconst 3), (9, false, .invokestatic 1), (12, false, .iconst (-1)), (13, false, .ireturn), (14, false, .aload 0), (15, false, .invokestatic 2), (18, false, .aload 1), (19, false, .invokestatic 3), (22, false, .ireturn)]
def cq_takeRow_platforms : mq_C := ((yX5_takeRow, cX5_takeRow, 2, (some .int), { frames := 3, cells := 0, slots := 0, locals := 61 }), (2, 1, 0, 0), 1048640, (fun as ρ μ => match ρ with
  | (nw, sp, tl, tx, al) => mq_pZ as 20 fun as => mq_pR as 6 fun L as => mq_p0 as (tx = 19)),
  (fun as ρ μ r ρ' μ' => match as, ρ, ρ' with
  | [.inr (.inr (some (_, _))), .inr (.inr (some (_, L)))], (nw, sp, tl, tx, al), (nw', sp', tl', tx', al') => [-1 ≤ r, r < 6]
  | _, _, _ => []))
def kq_takeRow_platforms : List mq_V → mq_R → mq_M → List mq_Cu := fun as ρ μ => match as, ρ with
  | [.inr (.inr (some (_, _))), .inr (.inr (some (_, L)))], (nw, sp, tl, tx, al) => []
  | _, _ => []
set_option maxHeartbeats 16000000 in
set_option maxRecDepth 100000 in
theorem vq_takeRow_platforms (lc : Launch) (h_isFull_platforms : mq_Ct lc cq_isFull_platforms) (h_flag : mq_Ct lc cq_flag) (h_advance : mq_Ct lc cq_advance) (h_add_platforms : mq_Ct lc cq_add_platforms) : mq_Ct lc cq_takeRow_platforms := by
  refine mq_method (lc := lc) (P := pq_takeRow_platforms) (cl := [cq_isFull_platforms, cq_flag, cq_advance, cq_add_platforms]) (T := ([], [], [], [(96, 0, 0), (92, 1, 0), (55, 2, 0), (102, 3, 0)], [], [])) (fuel := 400) (cuts := kq_takeRow_platforms) (by decide) rfl ⟨rfl, rfl⟩ (List.forall_mem_cons.mpr ⟨h_isFull_platforms, (List.forall_mem_cons.mpr ⟨h_flag, (List.forall_mem_cons.mpr ⟨h_advance, (List.forall_mem_cons.mpr ⟨h_add_platforms, (fun _ h => absurd h List.not_mem_nil)⟩)⟩)⟩)⟩) ⟨(fun _ h => absurd h List.not_mem_nil), (fun _ h => absurd h List.not_mem_nil), (fun _ h => absurd h List.not_mem_nil), (List.forall_mem_cons.mpr ⟨mq_ml0 rfl mw0_isFull_platforms kw_424, (List.forall_mem_cons.mpr ⟨mq_ml0 rfl mw0_flag kw_419, (List.forall_mem_cons.mpr ⟨mq_ml0 rfl mw0_advance kw_423, (List.forall_mem_cons.mpr ⟨mq_ml0 rfl mw0_add_platforms kw_428, (fun _ h => absurd h List.not_mem_nil)⟩)⟩)⟩)⟩), (fun _ h => absurd h List.not_mem_nil), (fun _ h => absurd h List.not_mem_nil)⟩ (by decide +kernel) ⟨_, _, rfl⟩ ?_ ?_ ?_ ?_
  · intro as ρ μ h
    obtain ⟨nw, sp, tl, tx, al⟩ := ρ
    obtain ⟨as0, rfl, h0⟩ := mq_pZ_spec h
    clear h
    obtain ⟨L, as1, rfl, h1⟩ := mq_pR_spec h0
    clear h0
    obtain ⟨rfl, hp⟩ := mq_p0_spec h1
    clear h1
    subst hp
    rfl
  · intro as ρ μ h
    obtain ⟨nw, sp, tl, tx, al⟩ := ρ
    obtain ⟨as0, rfl, h0⟩ := mq_pZ_spec h
    clear h
    obtain ⟨L, as1, rfl, h1⟩ := mq_pR_spec h0
    clear h0
    obtain ⟨rfl, hp⟩ := mq_p0_spec h1
    clear h1
    subst hp
    intro hrg
    intro hbk
    have e0 : mq_l0 ([.inr (.inr (some (20, 0))), .inr (.inr (some (6, L)))] : List mq_V) 2 = [some (.inr (.inr (some (20, 0)))), some (.inr (.inr (some (6, L))))] := rfl
    rw [e0]
    repeat' (first | refine And.intro ?_ ?_ | intro _)
    all_goals first | omega | rfl | exact trivial | (simp [mq_up] at * <;> omega)
  · intro as ρ μ h
    obtain ⟨nw, sp, tl, tx, al⟩ := ρ
    obtain ⟨as0, rfl, h0⟩ := mq_pZ_spec h
    clear h
    obtain ⟨L, as1, rfl, h1⟩ := mq_pR_spec h0
    clear h0
    obtain ⟨rfl, hp⟩ := mq_p0_spec h1
    clear h1
    subst hp
    exact fun _ h => absurd h List.not_mem_nil
  · intro as ρ μ h
    obtain ⟨nw, sp, tl, tx, al⟩ := ρ
    obtain ⟨as0, rfl, h0⟩ := mq_pZ_spec h
    clear h
    obtain ⟨L, as1, rfl, h1⟩ := mq_pR_spec h0
    clear h0
    obtain ⟨rfl, hp⟩ := mq_p0_spec h1
    clear h1
    subst hp
    intro hrg
    exact fun _ h => absurd h List.not_mem_nil
theorem mw0_takeRow_platforms : mq_mlA cq_takeRow_platforms 0 := ⟨kw_443, ⟨by decide +kernel, by decide +kernel⟩, by decide +kernel, kw_444, kw_445, kw_387, 20, by decide +kernel, fun as ρ μ h => by obtain ⟨nw, sp, tl, tx, al⟩ := ρ; obtain ⟨t, e, _⟩ := mq_pZ_spec h; exact ⟨0, t, e⟩⟩
def pq_takeRow_kinds : List mq_E := [(0, false, .aload 1), (1, false, .invokestatic 0), (4, false, .ifCond .eq (Int.ofNat 14)), (7, false, .aload 0), (8, false, .iconst 3), (9, false, .invokestatic 1), (12, false, .iconst (-1)), (13, false, .ireturn), (14, false, .aload 0), (15, false, .invokestatic 2), (18, false, .aload 1), (19, false, .invokestatic 3), (22, false, .ireturn)]
def cq_takeRow_kinds : mq_C := ((yX5_takeRow, cX5_takeRow, 2, (some .int), { frames := 3, cells := 0, slots := 0, locals := 61 }), (2, 1, 0, 0), 1048704, (fun as ρ μ => match ρ with
  | (nw, sp, tl, tx, al) => mq_pZ as 20 fun as => mq_pR as 7 fun L as => mq_p0 as (tx = 19)),
  (fun as ρ μ r ρ' μ' => match as, ρ, ρ' with
  | [.inr (.inr (some (_, _))), .inr (.inr (some (_, L)))], (nw, sp, tl, tx, al), (nw', sp', tl', tx', al') => [-1 ≤ r, r < 4]
  | _, _, _ => []))
def kq_takeRow_kinds : List mq_V → mq_R → mq_M → List mq_Cu := fun as ρ μ => match as, ρ with
  | [.inr (.inr (some (_, _))), .inr (.inr (some (_, L)))], (nw, sp, tl, tx, al) => []
  | _, _ => []
set_option maxHeartbeats 16000000 in
set_option maxRecDepth 100000 in
theorem vq_takeRow_kinds (lc : Launch) (h_isFull_kinds : mq_Ct lc cq_isFull_kinds) (h_flag : mq_Ct lc cq_flag) (h_advance : mq_Ct lc cq_advance) (h_add_kinds : mq_Ct lc cq_add_kinds) : mq_Ct lc cq_takeRow_kinds := by
  refine mq_method (lc := lc) (P := pq_takeRow_kinds) (cl := [cq_isFull_kinds, cq_flag, cq_advance, cq_add_kinds]) (T := ([], [], [], [(96, 0, 0), (92, 1, 0), (55, 2, 0), (102, 3, 0)], [], [])) (fuel := 400) (cuts := kq_takeRow_kinds) (by decide) rfl ⟨rfl, rfl⟩ (List.forall_mem_cons.mpr ⟨h_isFull_kinds, (List.forall_mem_cons.mpr ⟨h_flag, (List.forall_mem_cons.mpr ⟨h_advance, (List.forall_mem_cons.mpr ⟨h_add_kinds, (fun _ h => absurd h List.not_mem_nil)⟩)⟩)⟩)⟩) ⟨(fun _ h => absurd h List.not_mem_nil), (fun _ h => absurd h List.not_mem_nil), (fun _ h => absurd h List.not_mem_nil), (List.forall_mem_cons.mpr ⟨mq_ml0 rfl mw0_isFull_kinds kw_424, (List.forall_mem_cons.mpr ⟨mq_ml0 rfl mw0_flag kw_419, (List.forall_mem_cons.mpr ⟨mq_ml0 rfl mw0_advance kw_423, (List.forall_mem_cons.mpr ⟨mq_ml0 rfl mw0_add_kinds kw_428, (fun _ h => absurd h List.not_mem_nil)⟩)⟩)⟩)⟩), (fun _ h => absurd h List.not_mem_nil), (fun _ h => absurd h List.not_mem_nil)⟩ (by decide +kernel) ⟨_, _, rfl⟩ ?_ ?_ ?_ ?_
  · intro as ρ μ h
    obtain ⟨nw, sp, tl, tx, al⟩ := ρ
    obtain ⟨as0, rfl, h0⟩ := mq_pZ_spec h
    clear h
    obtain ⟨L, as1, rfl, h1⟩ := mq_pR_spec h0
    clear h0
    obtain ⟨rfl, hp⟩ := mq_p0_spec h1
    clear h1
    subst hp
    rfl
  · intro as ρ μ h
    obtain ⟨nw, sp, tl, tx, al⟩ := ρ
    obtain ⟨as0, rfl, h0⟩ := mq_pZ_spec h
    clear h
    obtain ⟨L, as1, rfl, h1⟩ := mq_pR_spec h0
    clear h0
    obtain ⟨rfl, hp⟩ := mq_p0_spec h1
    clear h1
    subst hp
    intro hrg
    intro hbk
    have e0 : mq_l0 ([.inr (.inr (some (20, 0))), .inr (.inr (some (7, L)))] : List mq_V) 2 = [some (.inr (.inr (some (20, 0)))), some (.inr (.inr (some (7, L))))] := rfl
    rw [e0]
    repeat' (first | refine And.intro ?_ ?_ | intro _)
    all_goals first | omega | rfl | exact trivial | (simp [mq_up] at * <;> omega)
  · intro as ρ μ h
    obtain ⟨nw, sp, tl, tx, al⟩ := ρ
    obtain ⟨as0, rfl, h0⟩ := mq_pZ_spec h
    clear h
    obtain ⟨L, as1, rfl, h1⟩ := mq_pR_spec h0
    clear h0
    obtain ⟨rfl, hp⟩ := mq_p0_spec h1
    clear h1
    subst hp
    exact fun _ h => absurd h List.not_mem_nil
  · intro as ρ μ h
    obtain ⟨nw, sp, tl, tx, al⟩ := ρ
    obtain ⟨as0, rfl, h0⟩ := mq_pZ_spec h
    clear h
    obtain ⟨L, as1, rfl, h1⟩ := mq_pR_spec h0
    clear h0
    obtain ⟨rfl, hp⟩ := mq_p0_spec h1
    clear h1
    subst hp
    intro hrg
    exact fun _ h => absurd h List.not_mem_nil
theorem mw0_takeRow_kinds : mq_mlA cq_takeRow_kinds 0 := ⟨kw_443, ⟨by decide +kernel, by decide +kernel⟩, by decide +kernel, kw_444, kw_445, kw_387, 20, by decide +kernel, fun as ρ μ h => by obtain ⟨nw, sp, tl, tx, al⟩ := ρ; obtain ⟨t, e, _⟩ := mq_pZ_spec h; exact ⟨0, t, e⟩⟩
def pq_takeRow_trains : List mq_E := [(0, false, .aload 1), (1, false, .invokestatic 0), (4, false, .ifCond .eq (Int.ofNat 14)), (7, false, .aload 0), (8, false, .iconst 3), (9, false, .invokestatic 1), (12, false, .iconst (-1)), (13, false, .ireturn), (14, false, .aload 0), (15, false, .invokestatic 2), (18, false, .aload 1), (19, false, .invokestatic 3), (22, false, .ireturn)]
def cq_takeRow_trains : mq_C := ((yX5_takeRow, cX5_takeRow, 2, (some .int), { frames := 3, cells := 0, slots := 0, locals := 61 }), (2, 1, 0, 0), 1048832, (fun as ρ μ => match ρ with
  | (nw, sp, tl, tx, al) => mq_pZ as 20 fun as => mq_pR as 8 fun L as => mq_p0 as (tx = 19)),
  (fun as ρ μ r ρ' μ' => match as, ρ, ρ' with
  | [.inr (.inr (some (_, _))), .inr (.inr (some (_, L)))], (nw, sp, tl, tx, al), (nw', sp', tl', tx', al') => [-1 ≤ r, r < 5]
  | _, _, _ => []))
def kq_takeRow_trains : List mq_V → mq_R → mq_M → List mq_Cu := fun as ρ μ => match as, ρ with
  | [.inr (.inr (some (_, _))), .inr (.inr (some (_, L)))], (nw, sp, tl, tx, al) => []
  | _, _ => []
set_option maxHeartbeats 16000000 in
set_option maxRecDepth 100000 in
theorem vq_takeRow_trains (lc : Launch) (h_isFull_trains : mq_Ct lc cq_isFull_trains) (h_flag : mq_Ct lc cq_flag) (h_advance : mq_Ct lc cq_advance) (h_add_trains : mq_Ct lc cq_add_trains) : mq_Ct lc cq_takeRow_trains := by
  refine mq_method (lc := lc) (P := pq_takeRow_trains) (cl := [cq_isFull_trains, cq_flag, cq_advance, cq_add_trains]) (T := ([], [], [], [(96, 0, 0), (92, 1, 0), (55, 2, 0), (102, 3, 0)], [], [])) (fuel := 400) (cuts := kq_takeRow_trains) (by decide) rfl ⟨rfl, rfl⟩ (List.forall_mem_cons.mpr ⟨h_isFull_trains, (List.forall_mem_cons.mpr ⟨h_flag, (List.forall_mem_cons.mpr ⟨h_advance, (List.forall_mem_cons.mpr ⟨h_add_trains, (fun _ h => absurd h List.not_mem_nil)⟩)⟩)⟩)⟩) ⟨(fun _ h => absurd h List.not_mem_nil), (fun _ h => absurd h List.not_mem_nil), (fun _ h => absurd h List.not_mem_nil), (List.forall_mem_cons.mpr ⟨mq_ml0 rfl mw0_isFull_trains kw_424, (List.forall_mem_cons.mpr ⟨mq_ml0 rfl mw0_flag kw_419, (List.forall_mem_cons.mpr ⟨mq_ml0 rfl mw0_advance kw_423, (List.forall_mem_cons.mpr ⟨mq_ml0 rfl mw0_add_trains kw_428, (fun _ h => absurd h List.not_mem_nil)⟩)⟩)⟩)⟩), (fun _ h => absurd h List.not_mem_nil), (fun _ h => absurd h List.not_mem_nil)⟩ (by decide +kernel) ⟨_, _, rfl⟩ ?_ ?_ ?_ ?_
  · intro as ρ μ h
    obtain ⟨nw, sp, tl, tx, al⟩ := ρ
    obtain ⟨as0, rfl, h0⟩ := mq_pZ_spec h
    clear h
    obtain ⟨L, as1, rfl, h1⟩ := mq_pR_spec h0
    clear h0
    obtain ⟨rfl, hp⟩ := mq_p0_spec h1
    clear h1
    subst hp
    rfl
  · intro as ρ μ h
    obtain ⟨nw, sp, tl, tx, al⟩ := ρ
    obtain ⟨as0, rfl, h0⟩ := mq_pZ_spec h
    clear h
    obtain ⟨L, as1, rfl, h1⟩ := mq_pR_spec h0
    clear h0
    obtain ⟨rfl, hp⟩ := mq_p0_spec h1
    clear h1
    subst hp
    intro hrg
    intro hbk
    have e0 : mq_l0 ([.inr (.inr (some (20, 0))), .inr (.inr (some (8, L)))] : List mq_V) 2 = [some (.inr (.inr (some (20, 0)))), some (.inr (.inr (some (8, L))))] := rfl
    rw [e0]
    repeat' (first | refine And.intro ?_ ?_ | intro _)
    all_goals first | omega | rfl | exact trivial | (simp [mq_up] at * <;> omega)
  · intro as ρ μ h
    obtain ⟨nw, sp, tl, tx, al⟩ := ρ
    obtain ⟨as0, rfl, h0⟩ := mq_pZ_spec h
    clear h
    obtain ⟨L, as1, rfl, h1⟩ := mq_pR_spec h0
    clear h0
    obtain ⟨rfl, hp⟩ := mq_p0_spec h1
    clear h1
    subst hp
    exact fun _ h => absurd h List.not_mem_nil
  · intro as ρ μ h
    obtain ⟨nw, sp, tl, tx, al⟩ := ρ
    obtain ⟨as0, rfl, h0⟩ := mq_pZ_spec h
    clear h
    obtain ⟨L, as1, rfl, h1⟩ := mq_pR_spec h0
    clear h0
    obtain ⟨rfl, hp⟩ := mq_p0_spec h1
    clear h1
    subst hp
    intro hrg
    exact fun _ h => absurd h List.not_mem_nil
theorem mw0_takeRow_trains : mq_mlA cq_takeRow_trains 0 := ⟨kw_443, ⟨by decide +kernel, by decide +kernel⟩, by decide +kernel, kw_444, kw_445, kw_387, 20, by decide +kernel, fun as ρ μ h => by obtain ⟨nw, sp, tl, tx, al⟩ := ρ; obtain ⟨t, e, _⟩ := mq_pZ_spec h; exact ⟨0, t, e⟩⟩
def pq_takeRow_coaches : List mq_E := [(0, false, .aload 1), (1, false, .invokestatic 0), (4, false, .ifCond .eq (Int.ofNat 14)), (7, false, .aload 0), (8, false, .iconst 3), (9, false, .invokestatic 1), (12, false, .iconst (-1)), (13, false, .ireturn), (14, false, .aload 0), (15, false, .invokestatic 2), (18, false, .aload 1), (19, false, .invokestatic 3), (22, false, .ireturn)]
def cq_takeRow_coaches : mq_C := ((yX5_takeRow, cX5_takeRow, 2, (some .int), { frames := 3, cells := 0, slots := 0, locals := 61 }), (2, 1, 0, 0), 1049088, (fun as ρ μ => match ρ with
  | (nw, sp, tl, tx, al) => mq_pZ as 20 fun as => mq_pR as 9 fun L as => mq_p0 as (tx = 19)),
  (fun as ρ μ r ρ' μ' => match as, ρ, ρ' with
  | [.inr (.inr (some (_, _))), .inr (.inr (some (_, L)))], (nw, sp, tl, tx, al), (nw', sp', tl', tx', al') => [-1 ≤ r, r < 16]
  | _, _, _ => []))
def kq_takeRow_coaches : List mq_V → mq_R → mq_M → List mq_Cu := fun as ρ μ => match as, ρ with
  | [.inr (.inr (some (_, _))), .inr (.inr (some (_, L)))], (nw, sp, tl, tx, al) => []
  | _, _ => []
set_option maxHeartbeats 16000000 in
set_option maxRecDepth 100000 in
theorem vq_takeRow_coaches (lc : Launch) (h_isFull_coaches : mq_Ct lc cq_isFull_coaches) (h_flag : mq_Ct lc cq_flag) (h_advance : mq_Ct lc cq_advance) (h_add_coaches : mq_Ct lc cq_add_coaches) : mq_Ct lc cq_takeRow_coaches := by
  refine mq_method (lc := lc) (P := pq_takeRow_coaches) (cl := [cq_isFull_coaches, cq_flag, cq_advance, cq_add_coaches]) (T := ([], [], [], [(96, 0, 0), (92, 1, 0), (55, 2, 0), (102, 3, 0)], [], [])) (fuel := 400) (cuts := kq_takeRow_coaches) (by decide) rfl ⟨rfl, rfl⟩ (List.forall_mem_cons.mpr ⟨h_isFull_coaches, (List.forall_mem_cons.mpr ⟨h_flag, (List.forall_mem_cons.mpr ⟨h_advance, (List.forall_mem_cons.mpr ⟨h_add_coaches, (fun _ h => absurd h List.not_mem_nil)⟩)⟩)⟩)⟩) ⟨(fun _ h => absurd h List.not_mem_nil), (fun _ h => absurd h List.not_mem_nil), (fun _ h => absurd h List.not_mem_nil), (List.forall_mem_cons.mpr ⟨mq_ml0 rfl mw0_isFull_coaches kw_424, (List.forall_mem_cons.mpr ⟨mq_ml0 rfl mw0_flag kw_419, (List.forall_mem_cons.mpr ⟨mq_ml0 rfl mw0_advance kw_423, (List.forall_mem_cons.mpr ⟨mq_ml0 rfl mw0_add_coaches kw_428, (fun _ h => absurd h List.not_mem_nil)⟩)⟩)⟩)⟩), (fun _ h => absurd h List.not_mem_nil), (fun _ h => absurd h List.not_mem_nil)⟩ (by decide +kernel) ⟨_, _, rfl⟩ ?_ ?_ ?_ ?_
  · intro as ρ μ h
    obtain ⟨nw, sp, tl, tx, al⟩ := ρ
    obtain ⟨as0, rfl, h0⟩ := mq_pZ_spec h
    clear h
    obtain ⟨L, as1, rfl, h1⟩ := mq_pR_spec h0
    clear h0
    obtain ⟨rfl, hp⟩ := mq_p0_spec h1
    clear h1
    subst hp
    rfl
  · intro as ρ μ h
    obtain ⟨nw, sp, tl, tx, al⟩ := ρ
    obtain ⟨as0, rfl, h0⟩ := mq_pZ_spec h
    clear h
    obtain ⟨L, as1, rfl, h1⟩ := mq_pR_spec h0
    clear h0
    obtain ⟨rfl, hp⟩ := mq_p0_spec h1
    clear h1
    subst hp
    intro hrg
    intro hbk
    have e0 : mq_l0 ([.inr (.inr (some (20, 0))), .inr (.inr (some (9, L)))] : List mq_V) 2 = [some (.inr (.inr (some (20, 0)))), some (.inr (.inr (some (9, L))))] := rfl
    rw [e0]
    repeat' (first | refine And.intro ?_ ?_ | intro _)
    all_goals first | omega | rfl | exact trivial | (simp [mq_up] at * <;> omega)
  · intro as ρ μ h
    obtain ⟨nw, sp, tl, tx, al⟩ := ρ
    obtain ⟨as0, rfl, h0⟩ := mq_pZ_spec h
    clear h
    obtain ⟨L, as1, rfl, h1⟩ := mq_pR_spec h0
    clear h0
    obtain ⟨rfl, hp⟩ := mq_p0_spec h1
    clear h1
    subst hp
    exact fun _ h => absurd h List.not_mem_nil
  · intro as ρ μ h
    obtain ⟨nw, sp, tl, tx, al⟩ := ρ
    obtain ⟨as0, rfl, h0⟩ := mq_pZ_spec h
    clear h
    obtain ⟨L, as1, rfl, h1⟩ := mq_pR_spec h0
    clear h0
    obtain ⟨rfl, hp⟩ := mq_p0_spec h1
    clear h1
    subst hp
    intro hrg
    exact fun _ h => absurd h List.not_mem_nil
theorem mw0_takeRow_coaches : mq_mlA cq_takeRow_coaches 0 := ⟨kw_443, ⟨by decide +kernel, by decide +kernel⟩, by decide +kernel, kw_444, kw_445, kw_387, 20, by decide +kernel, fun as ρ μ h => by obtain ⟨nw, sp, tl, tx, al⟩ := ρ; obtain ⟨t, e, _⟩ := mq_pZ_spec h; exact ⟨0, t, e⟩⟩
def pq_readLength : List mq_E := [(0, false, .aload 0), (1, false, .ldc 0), (3, false, .invokestatic 0), (6, false, .aload 0), (7, false, .ldc 1), (9, false, .invokestatic 0), (12, false, .aload 1), (13, false, .aload 0), (14, false, .iconst 20), (16, false, .iconst 400), (19, false, .invokestatic 1), (22, false, .multianewarray 3 0), (25, false, .aload 0), (26, false, .invokestatic 2), (29, false, .return_)]
def cq_readLength : mq_C := ((yX5_readLength, cX5_readLength, 2, none, { frames := 6, cells := 0, slots := 0, locals := 128 }), (2, 0, 0, 0), 1048580, (fun as ρ μ => match ρ with
  | (nw, sp, tl, tx, al) => mq_pZ as 20 fun as => mq_pR as 2 fun L as => mq_p0 as (tx = 19)),
  (fun as ρ μ r ρ' μ' => match as, ρ, ρ' with
  | [.inr (.inr (some (_, _))), .inr (.inr (some (_, L)))], (nw, sp, tl, tx, al), (nw', sp', tl', tx', al') => []
  | _, _, _ => []))
def kq_readLength : List mq_V → mq_R → mq_M → List mq_Cu := fun as ρ μ => match as, ρ with
  | [.inr (.inr (some (_, _))), .inr (.inr (some (_, L)))], (nw, sp, tl, tx, al) => []
  | _, _ => []
set_option maxHeartbeats 16000000 in
set_option maxRecDepth 100000 in
theorem vq_readLength (lc : Launch) (h_takeWord : mq_Ct lc cq_takeWord) (h_takeNumber : mq_Ct lc cq_takeNumber) (h_takeSign : mq_Ct lc cq_takeSign) : mq_Ct lc cq_readLength := by
  refine mq_method (lc := lc) (P := pq_readLength) (cl := [cq_takeWord, cq_takeNumber, cq_takeSign]) (T := ([(116, 3, 0)], [], [], [(107, 0, 0), (113, 1, 0), (118, 2, 0)], [], [])) (fuel := 400) (cuts := kq_readLength) (by decide) rfl ⟨rfl, rfl⟩ (List.forall_mem_cons.mpr ⟨h_takeWord, (List.forall_mem_cons.mpr ⟨h_takeNumber, (List.forall_mem_cons.mpr ⟨h_takeSign, (fun _ h => absurd h List.not_mem_nil)⟩)⟩)⟩) ⟨(List.forall_mem_cons.mpr ⟨⟨_, rfl, by decide, kw_429⟩, (fun _ h => absurd h List.not_mem_nil)⟩), (fun _ h => absurd h List.not_mem_nil), (fun _ h => absurd h List.not_mem_nil), (List.forall_mem_cons.mpr ⟨mq_ml0 rfl mw0_takeWord kw_433, (List.forall_mem_cons.mpr ⟨mq_ml0 rfl mw0_takeNumber kw_437, (List.forall_mem_cons.mpr ⟨mq_ml0 rfl mw0_takeSign kw_441, (fun _ h => absurd h List.not_mem_nil)⟩)⟩)⟩), (fun _ h => absurd h List.not_mem_nil), (fun _ h => absurd h List.not_mem_nil)⟩ (by decide +kernel) ⟨_, _, rfl⟩ ?_ ?_ ?_ ?_
  · intro as ρ μ h
    obtain ⟨nw, sp, tl, tx, al⟩ := ρ
    obtain ⟨as0, rfl, h0⟩ := mq_pZ_spec h
    clear h
    obtain ⟨L, as1, rfl, h1⟩ := mq_pR_spec h0
    clear h0
    obtain ⟨rfl, hp⟩ := mq_p0_spec h1
    clear h1
    subst hp
    rfl
  · intro as ρ μ h
    obtain ⟨nw, sp, tl, tx, al⟩ := ρ
    obtain ⟨as0, rfl, h0⟩ := mq_pZ_spec h
    clear h
    obtain ⟨L, as1, rfl, h1⟩ := mq_pR_spec h0
    clear h0
    obtain ⟨rfl, hp⟩ := mq_p0_spec h1
    clear h1
    subst hp
    intro hrg
    intro hbk
    have e0 : mq_l0 ([.inr (.inr (some (20, 0))), .inr (.inr (some (2, L)))] : List mq_V) 2 = [some (.inr (.inr (some (20, 0)))), some (.inr (.inr (some (2, L))))] := rfl
    rw [e0]
    repeat' (first | refine And.intro ?_ ?_ | intro _)
    all_goals first | omega | rfl | exact trivial | (simp [mq_up] at * <;> omega)
  · intro as ρ μ h
    obtain ⟨nw, sp, tl, tx, al⟩ := ρ
    obtain ⟨as0, rfl, h0⟩ := mq_pZ_spec h
    clear h
    obtain ⟨L, as1, rfl, h1⟩ := mq_pR_spec h0
    clear h0
    obtain ⟨rfl, hp⟩ := mq_p0_spec h1
    clear h1
    subst hp
    exact fun _ h => absurd h List.not_mem_nil
  · intro as ρ μ h
    obtain ⟨nw, sp, tl, tx, al⟩ := ρ
    obtain ⟨as0, rfl, h0⟩ := mq_pZ_spec h
    clear h
    obtain ⟨L, as1, rfl, h1⟩ := mq_pR_spec h0
    clear h0
    obtain ⟨rfl, hp⟩ := mq_p0_spec h1
    clear h1
    subst hp
    intro hrg
    exact fun _ h => absurd h List.not_mem_nil
theorem mw0_readLength : mq_mlA cq_readLength 0 := ⟨kw_499, ⟨by decide +kernel, by decide +kernel⟩, by decide +kernel, kw_500, kw_501, kw_387, 20, by decide +kernel, fun as ρ μ h => by obtain ⟨nw, sp, tl, tx, al⟩ := ρ; obtain ⟨t, e, _⟩ := mq_pZ_spec h; exact ⟨0, t, e⟩⟩
def pq_readSlope : List mq_E := [(0, false, .aload 0), (1, false, .aload 1), (2, false, .invokeinterface 3 2), (5, false, .invokestatic 0), (8, false, .istore 2), (9, false, .aload 0), (10, false, .ldc 9), (12, false, .invokestatic 1), (15, false, .aload 1), (16, false, .invokeinterface 3 2), (19, false, .iload 2), (20, false, .iconst 0), (21, false, .aload 0), (22, false, .iconst 0), (23, false, .aload 1), (24, false, .invokeinterface 3 0), (27, false, .invokestatic 2), (30, false, .invokestatic 3), (33, false, .aload 0), (34, false, .ldc 10), (36, false, .invokestatic 4), (39, false, .istore 3), (40, false, .aload 0), (41, false, .iload 3), (42, false, .ifCond .eq (Int.ofNat 50)), (45, false, .ldc 10), (47, false, .goto (Int.ofNat 52)), (50, false, .ldc 11), (52, false, .invokestatic 1), (55, false, .aload 0), (56, false, .iconst 0), (57, false, .iconst 9), (59, false, .invokestatic 2), (62, false, .istore 4), (64, false, .aload 1), (65, false, .invokeinterface 3 2), (68, false, .iload 2), (69, false, .iconst 1), (70, false, .iload 3), (71, false, .ifCond .eq (Int.ofNat 79)), (74, false, .iload 4), (76, false, .goto (Int.ofNat 82)), (79, false, .iload 4), (81, false, .ineg), (82, false, .invokestatic 3), (85, false, .return_)]
def cq_readSlope : mq_C := ((yX5_readSlope, cX5_readSlope, 5, none, { frames := 6, cells := 0, slots := 0, locals := 128 }), (2, 0, 0, 0), 1049608, (fun as ρ μ => match ρ with
  | (nw, sp, tl, tx, al) => mq_pZ as 20 fun as => mq_pR as 2 fun L as => mq_p0 as (tx = 19)),
  (fun as ρ μ r ρ' μ' => match as, ρ, ρ' with
  | [.inr (.inr (some (_, _))), .inr (.inr (some (_, L)))], (nw, sp, tl, tx, al), (nw', sp', tl', tx', al') => []
  | _, _, _ => []))
def kq_readSlope : List mq_V → mq_R → mq_M → List mq_Cu := fun as ρ μ => match as, ρ with
  | [.inr (.inr (some (_, _))), .inr (.inr (some (_, L)))], (nw, sp, tl, tx, al) => []
  | _, _ => []
set_option maxHeartbeats 16000000 in
set_option maxRecDepth 100000 in
theorem vq_readSlope (lc : Launch) (h_takeRow_slopes : mq_Ct lc cq_takeRow_slopes) (h_takeWord : mq_Ct lc cq_takeWord) (h_takeNumber : mq_Ct lc cq_takeNumber) (h_set_slopes : mq_Ct lc cq_set_slopes) (h_isWord : mq_Ct lc cq_isWord) : mq_Ct lc cq_readSlope := by
  refine mq_method (lc := lc) (P := pq_readSlope) (cl := [cq_takeRow_slopes, cq_takeWord, cq_takeNumber, cq_set_slopes, cq_isWord]) (T := ([(156, 3, 2), (116, 3, 0)], [], [], [(160, 0, 0), (107, 1, 0), (113, 2, 0), (166, 3, 0), (88, 4, 0)], [], [])) (fuel := 400) (cuts := kq_readSlope) (by decide) rfl ⟨rfl, rfl⟩ (List.forall_mem_cons.mpr ⟨h_takeRow_slopes, (List.forall_mem_cons.mpr ⟨h_takeWord, (List.forall_mem_cons.mpr ⟨h_takeNumber, (List.forall_mem_cons.mpr ⟨h_set_slopes, (List.forall_mem_cons.mpr ⟨h_isWord, (fun _ h => absurd h List.not_mem_nil)⟩)⟩)⟩)⟩)⟩) ⟨(List.forall_mem_cons.mpr ⟨⟨_, rfl, by decide, kw_442⟩, (List.forall_mem_cons.mpr ⟨⟨_, rfl, by decide, kw_429⟩, (fun _ h => absurd h List.not_mem_nil)⟩)⟩), (fun _ h => absurd h List.not_mem_nil), (fun _ h => absurd h List.not_mem_nil), (List.forall_mem_cons.mpr ⟨mq_ml0 rfl mw0_takeRow_slopes kw_446, (List.forall_mem_cons.mpr ⟨mq_ml0 rfl mw0_takeWord kw_433, (List.forall_mem_cons.mpr ⟨mq_ml0 rfl mw0_takeNumber kw_437, (List.forall_mem_cons.mpr ⟨mq_ml0 rfl mw0_set_slopes kw_450, (List.forall_mem_cons.mpr ⟨mq_ml0 rfl mw0_isWord kw_415, (fun _ h => absurd h List.not_mem_nil)⟩)⟩)⟩)⟩)⟩), (fun _ h => absurd h List.not_mem_nil), (fun _ h => absurd h List.not_mem_nil)⟩ (by decide +kernel) ⟨_, _, rfl⟩ ?_ ?_ ?_ ?_
  · intro as ρ μ h
    obtain ⟨nw, sp, tl, tx, al⟩ := ρ
    obtain ⟨as0, rfl, h0⟩ := mq_pZ_spec h
    clear h
    obtain ⟨L, as1, rfl, h1⟩ := mq_pR_spec h0
    clear h0
    obtain ⟨rfl, hp⟩ := mq_p0_spec h1
    clear h1
    subst hp
    rfl
  · intro as ρ μ h
    obtain ⟨nw, sp, tl, tx, al⟩ := ρ
    obtain ⟨as0, rfl, h0⟩ := mq_pZ_spec h
    clear h
    obtain ⟨L, as1, rfl, h1⟩ := mq_pR_spec h0
    clear h0
    obtain ⟨rfl, hp⟩ := mq_p0_spec h1
    clear h1
    subst hp
    intro hrg
    intro hbk
    have e0 : mq_l0 ([.inr (.inr (some (20, 0))), .inr (.inr (some (2, L)))] : List mq_V) 5 = [some (.inr (.inr (some (20, 0)))), some (.inr (.inr (some (2, L)))), none, none, none] := rfl
    rw [e0]
    repeat' (first | refine And.intro ?_ ?_ | intro _)
    all_goals first | omega | rfl | exact trivial | (simp [mq_up] at * <;> omega)
  · intro as ρ μ h
    obtain ⟨nw, sp, tl, tx, al⟩ := ρ
    obtain ⟨as0, rfl, h0⟩ := mq_pZ_spec h
    clear h
    obtain ⟨L, as1, rfl, h1⟩ := mq_pR_spec h0
    clear h0
    obtain ⟨rfl, hp⟩ := mq_p0_spec h1
    clear h1
    subst hp
    exact fun _ h => absurd h List.not_mem_nil
  · intro as ρ μ h
    obtain ⟨nw, sp, tl, tx, al⟩ := ρ
    obtain ⟨as0, rfl, h0⟩ := mq_pZ_spec h
    clear h
    obtain ⟨L, as1, rfl, h1⟩ := mq_pR_spec h0
    clear h0
    obtain ⟨rfl, hp⟩ := mq_p0_spec h1
    clear h1
    subst hp
    intro hrg
    exact fun _ h => absurd h List.not_mem_nil
theorem mw0_readSlope : mq_mlA cq_readSlope 0 := ⟨kw_462, ⟨by decide +kernel, by decide +kernel⟩, by decide +kernel, kw_463, kw_464, kw_387, 20, by decide +kernel, fun as ρ μ h => by obtain ⟨nw, sp, tl, tx, al⟩ := ρ; obtain ⟨t, e, _⟩ := mq_pZ_spec h; exact ⟨0, t, e⟩⟩
def pq_readWet : List mq_E := [(0, false, .aload 0), (1, false, .aload 1), (2, false, .invokeinterface 3 3), (5, false, .invokestatic 0), (8, false, .istore 2), (9, false, .aload 0), (10, false, .ldc 9), (12, false, .invokestatic 1), (15, false, .aload 0), (16, false, .iconst 0), (17, false, .aload 1), (18, false, .invokeinterface 3 0), (21, false, .invokestatic 2), (24, false, .istore 3), (25, false, .aload 1), (26, false, .invokeinterface 3 3), (29, false, .iload 2), (30, false, .iconst 0), (31, false, .iload 3), (32, false, .invokestatic 3), (35, false, .aload 0), (36, false, .ldc 12), (38, false, .invokestatic 1), (41, false, .aload 1), (42, false, .invokeinterface 3 3), (45, false, .iload 2), (46, false, .iconst 1), (47, false, .aload 0), (48, false, .iload 3), (49, false, .aload 1), (50, false, .invokeinterface 3 0), (53, false, .invokestatic 2), (56, false, .invokestatic 3), (59, false, .aload 0), (60, false, .ldc 13), (62, false, .invokestatic 1), (65, false, .aload 1), (66, false, .invokeinterface 3 3), (69, false, .iload 2), (70, false, .iconst 2), (71, false, .aload 0), (72, false, .iconst 0), (73, false, .iconst 100), (75, false, .invokestatic 2), (78, false, .invokestatic 3), (81, false, .return_)]
def cq_readWet : mq_C := ((yX5_readWet, cX5_readWet, 4, none, { frames := 6, cells := 0, slots := 0, locals := 128 }), (2, 0, 0, 0), 1050640, (fun as ρ μ => match ρ with
  | (nw, sp, tl, tx, al) => mq_pZ as 20 fun as => mq_pR as 2 fun L as => mq_p0 as (tx = 19)),
  (fun as ρ μ r ρ' μ' => match as, ρ, ρ' with
  | [.inr (.inr (some (_, _))), .inr (.inr (some (_, L)))], (nw, sp, tl, tx, al), (nw', sp', tl', tx', al') => []
  | _, _, _ => []))
def kq_readWet : List mq_V → mq_R → mq_M → List mq_Cu := fun as ρ μ => match as, ρ with
  | [.inr (.inr (some (_, _))), .inr (.inr (some (_, L)))], (nw, sp, tl, tx, al) => []
  | _, _ => []
set_option maxHeartbeats 16000000 in
set_option maxRecDepth 100000 in
theorem vq_readWet (lc : Launch) (h_takeRow_wets : mq_Ct lc cq_takeRow_wets) (h_takeWord : mq_Ct lc cq_takeWord) (h_takeNumber : mq_Ct lc cq_takeNumber) (h_set_wets : mq_Ct lc cq_set_wets) : mq_Ct lc cq_readWet := by
  refine mq_method (lc := lc) (P := pq_readWet) (cl := [cq_takeRow_wets, cq_takeWord, cq_takeNumber, cq_set_wets]) (T := ([(174, 3, 3), (116, 3, 0)], [], [], [(160, 0, 0), (107, 1, 0), (113, 2, 0), (166, 3, 0)], [], [])) (fuel := 400) (cuts := kq_readWet) (by decide) rfl ⟨rfl, rfl⟩ (List.forall_mem_cons.mpr ⟨h_takeRow_wets, (List.forall_mem_cons.mpr ⟨h_takeWord, (List.forall_mem_cons.mpr ⟨h_takeNumber, (List.forall_mem_cons.mpr ⟨h_set_wets, (fun _ h => absurd h List.not_mem_nil)⟩)⟩)⟩)⟩) ⟨(List.forall_mem_cons.mpr ⟨⟨_, rfl, by decide, kw_451⟩, (List.forall_mem_cons.mpr ⟨⟨_, rfl, by decide, kw_429⟩, (fun _ h => absurd h List.not_mem_nil)⟩)⟩), (fun _ h => absurd h List.not_mem_nil), (fun _ h => absurd h List.not_mem_nil), (List.forall_mem_cons.mpr ⟨mq_ml0 rfl mw0_takeRow_wets kw_446, (List.forall_mem_cons.mpr ⟨mq_ml0 rfl mw0_takeWord kw_433, (List.forall_mem_cons.mpr ⟨mq_ml0 rfl mw0_takeNumber kw_437, (List.forall_mem_cons.mpr ⟨mq_ml0 rfl mw0_set_wets kw_450, (fun _ h => absurd h List.not_mem_nil)⟩)⟩)⟩)⟩), (fun _ h => absurd h List.not_mem_nil), (fun _ h => absurd h List.not_mem_nil)⟩ (by decide +kernel) ⟨_, _, rfl⟩ ?_ ?_ ?_ ?_
  · intro as ρ μ h
    obtain ⟨nw, sp, tl, tx, al⟩ := ρ
    obtain ⟨as0, rfl, h0⟩ := mq_pZ_spec h
    clear h
    obtain ⟨L, as1, rfl, h1⟩ := mq_pR_spec h0
    clear h0
    obtain ⟨rfl, hp⟩ := mq_p0_spec h1
    clear h1
    subst hp
    rfl
  · intro as ρ μ h
    obtain ⟨nw, sp, tl, tx, al⟩ := ρ
    obtain ⟨as0, rfl, h0⟩ := mq_pZ_spec h
    clear h
    obtain ⟨L, as1, rfl, h1⟩ := mq_pR_spec h0
    clear h0
    obtain ⟨rfl, hp⟩ := mq_p0_spec h1
    clear h1
    subst hp
    intro hrg
    intro hbk
    have e0 : mq_l0 ([.inr (.inr (some (20, 0))), .inr (.inr (some (2, L)))] : List mq_V) 4 = [some (.inr (.inr (some (20, 0)))), some (.inr (.inr (some (2, L)))), none, none] := rfl
    rw [e0]
    repeat' (first | refine And.intro ?_ ?_ | intro _)
    all_goals first | omega | rfl | exact trivial | (simp [mq_up] at * <;> omega)
  · intro as ρ μ h
    obtain ⟨nw, sp, tl, tx, al⟩ := ρ
    obtain ⟨as0, rfl, h0⟩ := mq_pZ_spec h
    clear h
    obtain ⟨L, as1, rfl, h1⟩ := mq_pR_spec h0
    clear h0
    obtain ⟨rfl, hp⟩ := mq_p0_spec h1
    clear h1
    subst hp
    exact fun _ h => absurd h List.not_mem_nil
  · intro as ρ μ h
    obtain ⟨nw, sp, tl, tx, al⟩ := ρ
    obtain ⟨as0, rfl, h0⟩ := mq_pZ_spec h
    clear h
    obtain ⟨L, as1, rfl, h1⟩ := mq_pR_spec h0
    clear h0
    obtain ⟨rfl, hp⟩ := mq_p0_spec h1
    clear h1
    subst hp
    intro hrg
    exact fun _ h => absurd h List.not_mem_nil
theorem mw0_readWet : mq_mlA cq_readWet 0 := ⟨kw_466, ⟨by decide +kernel, by decide +kernel⟩, by decide +kernel, kw_467, kw_468, kw_387, 20, by decide +kernel, fun as ρ μ h => by obtain ⟨nw, sp, tl, tx, al⟩ := ρ; obtain ⟨t, e, _⟩ := mq_pZ_spec h; exact ⟨0, t, e⟩⟩
def pq_readLimit : List mq_E := [(0, false, .aload 0), (1, false, .aload 1), (2, false, .invokeinterface 3 4), (5, false, .invokestatic 0), (8, false, .istore 2), (9, false, .aload 0), (10, false, .ldc 9), (12, false, .invokestatic 1), (15, false, .aload 1), (16, false, .invokeinterface 3 4), (19, false, .iload 2), (20, false, .iconst 0), (21, false, .aload 0), (22, false, .iconst 0), (23, false, .aload 1), (24, false, .invokeinterface 3 0), (27, false, .invokestatic 2), (30, false, .invokestatic 3), (33, false, .aload 0), (34, false, .ldc 14), (36, false, .invokestatic 1), (39, false, .aload 1), (40, false, .invokeinterface 3 4), (43, false, .iload 2), (44, false, .iconst 1), (45, false, .aload 0), (46, false, .iconst 1), (47, false, .iconst 15), (49, false, .invokestatic 2), (52, false, .invokestatic 3), (55, false, .return_)]
def cq_readLimit : mq_C := ((yX5_readLimit, cX5_readLimit, 3, none, { frames := 6, cells := 0, slots := 0, locals := 128 }), (2, 0, 0, 0), 1052704, (fun as ρ μ => match ρ with
  | (nw, sp, tl, tx, al) => mq_pZ as 20 fun as => mq_pR as 2 fun L as => mq_p0 as (tx = 19)),
  (fun as ρ μ r ρ' μ' => match as, ρ, ρ' with
  | [.inr (.inr (some (_, _))), .inr (.inr (some (_, L)))], (nw, sp, tl, tx, al), (nw', sp', tl', tx', al') => []
  | _, _, _ => []))
def kq_readLimit : List mq_V → mq_R → mq_M → List mq_Cu := fun as ρ μ => match as, ρ with
  | [.inr (.inr (some (_, _))), .inr (.inr (some (_, L)))], (nw, sp, tl, tx, al) => []
  | _, _ => []
set_option maxHeartbeats 16000000 in
set_option maxRecDepth 100000 in
theorem vq_readLimit (lc : Launch) (h_takeRow_limits : mq_Ct lc cq_takeRow_limits) (h_takeWord : mq_Ct lc cq_takeWord) (h_takeNumber : mq_Ct lc cq_takeNumber) (h_set_limits : mq_Ct lc cq_set_limits) : mq_Ct lc cq_readLimit := by
  refine mq_method (lc := lc) (P := pq_readLimit) (cl := [cq_takeRow_limits, cq_takeWord, cq_takeNumber, cq_set_limits]) (T := ([(181, 3, 4), (116, 3, 0)], [], [], [(160, 0, 0), (107, 1, 0), (113, 2, 0), (166, 3, 0)], [], [])) (fuel := 400) (cuts := kq_readLimit) (by decide) rfl ⟨rfl, rfl⟩ (List.forall_mem_cons.mpr ⟨h_takeRow_limits, (List.forall_mem_cons.mpr ⟨h_takeWord, (List.forall_mem_cons.mpr ⟨h_takeNumber, (List.forall_mem_cons.mpr ⟨h_set_limits, (fun _ h => absurd h List.not_mem_nil)⟩)⟩)⟩)⟩) ⟨(List.forall_mem_cons.mpr ⟨⟨_, rfl, by decide, kw_452⟩, (List.forall_mem_cons.mpr ⟨⟨_, rfl, by decide, kw_429⟩, (fun _ h => absurd h List.not_mem_nil)⟩)⟩), (fun _ h => absurd h List.not_mem_nil), (fun _ h => absurd h List.not_mem_nil), (List.forall_mem_cons.mpr ⟨mq_ml0 rfl mw0_takeRow_limits kw_446, (List.forall_mem_cons.mpr ⟨mq_ml0 rfl mw0_takeWord kw_433, (List.forall_mem_cons.mpr ⟨mq_ml0 rfl mw0_takeNumber kw_437, (List.forall_mem_cons.mpr ⟨mq_ml0 rfl mw0_set_limits kw_450, (fun _ h => absurd h List.not_mem_nil)⟩)⟩)⟩)⟩), (fun _ h => absurd h List.not_mem_nil), (fun _ h => absurd h List.not_mem_nil)⟩ (by decide +kernel) ⟨_, _, rfl⟩ ?_ ?_ ?_ ?_
  · intro as ρ μ h
    obtain ⟨nw, sp, tl, tx, al⟩ := ρ
    obtain ⟨as0, rfl, h0⟩ := mq_pZ_spec h
    clear h
    obtain ⟨L, as1, rfl, h1⟩ := mq_pR_spec h0
    clear h0
    obtain ⟨rfl, hp⟩ := mq_p0_spec h1
    clear h1
    subst hp
    rfl
  · intro as ρ μ h
    obtain ⟨nw, sp, tl, tx, al⟩ := ρ
    obtain ⟨as0, rfl, h0⟩ := mq_pZ_spec h
    clear h
    obtain ⟨L, as1, rfl, h1⟩ := mq_pR_spec h0
    clear h0
    obtain ⟨rfl, hp⟩ := mq_p0_spec h1
    clear h1
    subst hp
    intro hrg
    intro hbk
    have e0 : mq_l0 ([.inr (.inr (some (20, 0))), .inr (.inr (some (2, L)))] : List mq_V) 3 = [some (.inr (.inr (some (20, 0)))), some (.inr (.inr (some (2, L)))), none] := rfl
    rw [e0]
    repeat' (first | refine And.intro ?_ ?_ | intro _)
    all_goals first | omega | rfl | exact trivial | (simp [mq_up] at * <;> omega)
  · intro as ρ μ h
    obtain ⟨nw, sp, tl, tx, al⟩ := ρ
    obtain ⟨as0, rfl, h0⟩ := mq_pZ_spec h
    clear h
    obtain ⟨L, as1, rfl, h1⟩ := mq_pR_spec h0
    clear h0
    obtain ⟨rfl, hp⟩ := mq_p0_spec h1
    clear h1
    subst hp
    exact fun _ h => absurd h List.not_mem_nil
  · intro as ρ μ h
    obtain ⟨nw, sp, tl, tx, al⟩ := ρ
    obtain ⟨as0, rfl, h0⟩ := mq_pZ_spec h
    clear h
    obtain ⟨L, as1, rfl, h1⟩ := mq_pR_spec h0
    clear h0
    obtain ⟨rfl, hp⟩ := mq_p0_spec h1
    clear h1
    subst hp
    intro hrg
    exact fun _ h => absurd h List.not_mem_nil
theorem mw0_readLimit : mq_mlA cq_readLimit 0 := ⟨kw_470, ⟨by decide +kernel, by decide +kernel⟩, by decide +kernel, kw_471, kw_472, kw_387, 20, by decide +kernel, fun as ρ μ h => by obtain ⟨nw, sp, tl, tx, al⟩ := ρ; obtain ⟨t, e, _⟩ := mq_pZ_spec h; exact ⟨0, t, e⟩⟩
def pq_readPlatform : List mq_E := [(0, false, .aload 0), (1, false, .aload 1), (2, false, .invokeinterface 3 5), (5, false, .invokestatic 0), (8, false, .istore 2), (9, false, .aload 0), (10, false, .ldc 9), (12, false, .invokestatic 1), (15, false, .aload 0), (16, false, .iconst 0), (17, false, .aload 1), (18, false, .invokeinterface 3 0), (21, false, .invokestatic 2), (24, false, .istore 3), (25, false, .aload 1), (26, false, .invokeinterface 3 5), (29, false, .iload 2), (30, false, .iconst 0), (31, false, .iload 3), (32, false, .invokestatic 3), (35, false, .aload 0), (36, false, .ldc 12), (38, false, .invokestatic 1), (41, false, .aload 1), (42, false, .invokeinterface 3 5), (45, false, .iload 2), (46, false, .iconst 1), (47, false, .aload 0), (48, false, .iload 3), (49, false, .aload 1), (50, false, .invokeinterface 3 0), (53, false, .invokestatic 2), (56, false, .invokestatic 3), (59, false, .return_)]
def cq_readPlatform : mq_C := ((yX5_readPlatform, cX5_readPlatform, 4, none, { frames := 6, cells := 0, slots := 0, locals := 128 }), (2, 0, 0, 0), 1056832, (fun as ρ μ => match ρ with
  | (nw, sp, tl, tx, al) => mq_pZ as 20 fun as => mq_pR as 2 fun L as => mq_p0 as (tx = 19)),
  (fun as ρ μ r ρ' μ' => match as, ρ, ρ' with
  | [.inr (.inr (some (_, _))), .inr (.inr (some (_, L)))], (nw, sp, tl, tx, al), (nw', sp', tl', tx', al') => []
  | _, _, _ => []))
def kq_readPlatform : List mq_V → mq_R → mq_M → List mq_Cu := fun as ρ μ => match as, ρ with
  | [.inr (.inr (some (_, _))), .inr (.inr (some (_, L)))], (nw, sp, tl, tx, al) => []
  | _, _ => []
set_option maxHeartbeats 16000000 in
set_option maxRecDepth 100000 in
theorem vq_readPlatform (lc : Launch) (h_takeRow_platforms : mq_Ct lc cq_takeRow_platforms) (h_takeWord : mq_Ct lc cq_takeWord) (h_takeNumber : mq_Ct lc cq_takeNumber) (h_set_platforms : mq_Ct lc cq_set_platforms) : mq_Ct lc cq_readPlatform := by
  refine mq_method (lc := lc) (P := pq_readPlatform) (cl := [cq_takeRow_platforms, cq_takeWord, cq_takeNumber, cq_set_platforms]) (T := ([(186, 3, 5), (116, 3, 0)], [], [], [(160, 0, 0), (107, 1, 0), (113, 2, 0), (166, 3, 0)], [], [])) (fuel := 400) (cuts := kq_readPlatform) (by decide) rfl ⟨rfl, rfl⟩ (List.forall_mem_cons.mpr ⟨h_takeRow_platforms, (List.forall_mem_cons.mpr ⟨h_takeWord, (List.forall_mem_cons.mpr ⟨h_takeNumber, (List.forall_mem_cons.mpr ⟨h_set_platforms, (fun _ h => absurd h List.not_mem_nil)⟩)⟩)⟩)⟩) ⟨(List.forall_mem_cons.mpr ⟨⟨_, rfl, by decide, kw_453⟩, (List.forall_mem_cons.mpr ⟨⟨_, rfl, by decide, kw_429⟩, (fun _ h => absurd h List.not_mem_nil)⟩)⟩), (fun _ h => absurd h List.not_mem_nil), (fun _ h => absurd h List.not_mem_nil), (List.forall_mem_cons.mpr ⟨mq_ml0 rfl mw0_takeRow_platforms kw_446, (List.forall_mem_cons.mpr ⟨mq_ml0 rfl mw0_takeWord kw_433, (List.forall_mem_cons.mpr ⟨mq_ml0 rfl mw0_takeNumber kw_437, (List.forall_mem_cons.mpr ⟨mq_ml0 rfl mw0_set_platforms kw_450, (fun _ h => absurd h List.not_mem_nil)⟩)⟩)⟩)⟩), (fun _ h => absurd h List.not_mem_nil), (fun _ h => absurd h List.not_mem_nil)⟩ (by decide +kernel) ⟨_, _, rfl⟩ ?_ ?_ ?_ ?_
  · intro as ρ μ h
    obtain ⟨nw, sp, tl, tx, al⟩ := ρ
    obtain ⟨as0, rfl, h0⟩ := mq_pZ_spec h
    clear h
    obtain ⟨L, as1, rfl, h1⟩ := mq_pR_spec h0
    clear h0
    obtain ⟨rfl, hp⟩ := mq_p0_spec h1
    clear h1
    subst hp
    rfl
  · intro as ρ μ h
    obtain ⟨nw, sp, tl, tx, al⟩ := ρ
    obtain ⟨as0, rfl, h0⟩ := mq_pZ_spec h
    clear h
    obtain ⟨L, as1, rfl, h1⟩ := mq_pR_spec h0
    clear h0
    obtain ⟨rfl, hp⟩ := mq_p0_spec h1
    clear h1
    subst hp
    intro hrg
    intro hbk
    have e0 : mq_l0 ([.inr (.inr (some (20, 0))), .inr (.inr (some (2, L)))] : List mq_V) 4 = [some (.inr (.inr (some (20, 0)))), some (.inr (.inr (some (2, L)))), none, none] := rfl
    rw [e0]
    repeat' (first | refine And.intro ?_ ?_ | intro _)
    all_goals first | omega | rfl | exact trivial | (simp [mq_up] at * <;> omega)
  · intro as ρ μ h
    obtain ⟨nw, sp, tl, tx, al⟩ := ρ
    obtain ⟨as0, rfl, h0⟩ := mq_pZ_spec h
    clear h
    obtain ⟨L, as1, rfl, h1⟩ := mq_pR_spec h0
    clear h0
    obtain ⟨rfl, hp⟩ := mq_p0_spec h1
    clear h1
    subst hp
    exact fun _ h => absurd h List.not_mem_nil
  · intro as ρ μ h
    obtain ⟨nw, sp, tl, tx, al⟩ := ρ
    obtain ⟨as0, rfl, h0⟩ := mq_pZ_spec h
    clear h
    obtain ⟨L, as1, rfl, h1⟩ := mq_pR_spec h0
    clear h0
    obtain ⟨rfl, hp⟩ := mq_p0_spec h1
    clear h1
    subst hp
    intro hrg
    exact fun _ h => absurd h List.not_mem_nil
theorem mw0_readPlatform : mq_mlA cq_readPlatform 0 := ⟨kw_474, ⟨by decide +kernel, by decide +kernel⟩, by decide +kernel, kw_475, kw_476, kw_387, 20, by decide +kernel, fun as ρ μ h => by obtain ⟨nw, sp, tl, tx, al⟩ := ρ; obtain ⟨t, e, _⟩ := mq_pZ_spec h; exact ⟨0, t, e⟩⟩
def pq_readTrain : List mq_E := [(0, false, .aload 0), (1, false, .aload 1), (2, false, .invokeinterface 3 7), (5, false, .invokestatic 0), (8, false, .istore 2), (9, false, .aload 0), (10, false, .ldc 17), (12, false, .invokestatic 1), (15, false, .aload 1), (16, false, .invokeinterface 3 7), (19, false, .iload 2), (20, false, .iconst 0), (21, false, .aload 0), (22, false, .iconst 0), (23, false, .iconst 300), (26, false, .invokestatic 2), (29, false, .invokestatic 3), (32, false, .aload 0), (33, false, .ldc 18), (35, false, .invokestatic 1), (38, false, .aload 1), (39, false, .invokeinterface 3 7), (42, false, .iload 2), (43, false, .iconst 1), (44, false, .aload 0), (45, false, .iconst 1), (46, false, .iconst 15), (48, false, .invokestatic 2), (51, false, .invokestatic 3), (54, false, .aload 0), (55, false, .ldc 19), (57, false, .invokestatic 1), (60, false, .aload 1), (61, false, .invokeinterface 3 7), (64, false, .iload 2), (65, false, .iconst 2), (66, false, .aload 0), (67, false, .iconst 0), (68, false, .iconst 5), (69, false, .invokestatic 2), (72, false, .invokestatic 3), (75, false, .return_)]
def cq_readTrain : mq_C := ((yX5_readTrain, cX5_readTrain, 3, none, { frames := 6, cells := 0, slots := 0, locals := 128 }), (2, 0, 0, 0), 1081600, (fun as ρ μ => match ρ with
  | (nw, sp, tl, tx, al) => mq_pZ as 20 fun as => mq_pR as 2 fun L as => mq_p0 as (tx = 19)),
  (fun as ρ μ r ρ' μ' => match as, ρ, ρ' with
  | [.inr (.inr (some (_, _))), .inr (.inr (some (_, L)))], (nw, sp, tl, tx, al), (nw', sp', tl', tx', al') => []
  | _, _, _ => []))
def kq_readTrain : List mq_V → mq_R → mq_M → List mq_Cu := fun as ρ μ => match as, ρ with
  | [.inr (.inr (some (_, _))), .inr (.inr (some (_, L)))], (nw, sp, tl, tx, al) => []
  | _, _ => []
set_option maxHeartbeats 16000000 in
set_option maxRecDepth 100000 in
theorem vq_readTrain (lc : Launch) (h_takeRow_trains : mq_Ct lc cq_takeRow_trains) (h_takeWord : mq_Ct lc cq_takeWord) (h_takeNumber : mq_Ct lc cq_takeNumber) (h_set_trains : mq_Ct lc cq_set_trains) : mq_Ct lc cq_readTrain := by
  refine mq_method (lc := lc) (P := pq_readTrain) (cl := [cq_takeRow_trains, cq_takeWord, cq_takeNumber, cq_set_trains]) (T := ([(196, 3, 7)], [], [], [(160, 0, 0), (107, 1, 0), (113, 2, 0), (166, 3, 0)], [], [])) (fuel := 400) (cuts := kq_readTrain) (by decide) rfl ⟨rfl, rfl⟩ (List.forall_mem_cons.mpr ⟨h_takeRow_trains, (List.forall_mem_cons.mpr ⟨h_takeWord, (List.forall_mem_cons.mpr ⟨h_takeNumber, (List.forall_mem_cons.mpr ⟨h_set_trains, (fun _ h => absurd h List.not_mem_nil)⟩)⟩)⟩)⟩) ⟨(List.forall_mem_cons.mpr ⟨⟨_, rfl, by decide, kw_454⟩, (fun _ h => absurd h List.not_mem_nil)⟩), (fun _ h => absurd h List.not_mem_nil), (fun _ h => absurd h List.not_mem_nil), (List.forall_mem_cons.mpr ⟨mq_ml0 rfl mw0_takeRow_trains kw_446, (List.forall_mem_cons.mpr ⟨mq_ml0 rfl mw0_takeWord kw_433, (List.forall_mem_cons.mpr ⟨mq_ml0 rfl mw0_takeNumber kw_437, (List.forall_mem_cons.mpr ⟨mq_ml0 rfl mw0_set_trains kw_450, (fun _ h => absurd h List.not_mem_nil)⟩)⟩)⟩)⟩), (fun _ h => absurd h List.not_mem_nil), (fun _ h => absurd h List.not_mem_nil)⟩ (by decide +kernel) ⟨_, _, rfl⟩ ?_ ?_ ?_ ?_
  · intro as ρ μ h
    obtain ⟨nw, sp, tl, tx, al⟩ := ρ
    obtain ⟨as0, rfl, h0⟩ := mq_pZ_spec h
    clear h
    obtain ⟨L, as1, rfl, h1⟩ := mq_pR_spec h0
    clear h0
    obtain ⟨rfl, hp⟩ := mq_p0_spec h1
    clear h1
    subst hp
    rfl
  · intro as ρ μ h
    obtain ⟨nw, sp, tl, tx, al⟩ := ρ
    obtain ⟨as0, rfl, h0⟩ := mq_pZ_spec h
    clear h
    obtain ⟨L, as1, rfl, h1⟩ := mq_pR_spec h0
    clear h0
    obtain ⟨rfl, hp⟩ := mq_p0_spec h1
    clear h1
    subst hp
    intro hrg
    intro hbk
    have e0 : mq_l0 ([.inr (.inr (some (20, 0))), .inr (.inr (some (2, L)))] : List mq_V) 3 = [some (.inr (.inr (some (20, 0)))), some (.inr (.inr (some (2, L)))), none] := rfl
    rw [e0]
    repeat' (first | refine And.intro ?_ ?_ | intro _)
    all_goals first | omega | rfl | exact trivial | (simp [mq_up] at * <;> omega)
  · intro as ρ μ h
    obtain ⟨nw, sp, tl, tx, al⟩ := ρ
    obtain ⟨as0, rfl, h0⟩ := mq_pZ_spec h
    clear h
    obtain ⟨L, as1, rfl, h1⟩ := mq_pR_spec h0
    clear h0
    obtain ⟨rfl, hp⟩ := mq_p0_spec h1
    clear h1
    subst hp
    exact fun _ h => absurd h List.not_mem_nil
  · intro as ρ μ h
    obtain ⟨nw, sp, tl, tx, al⟩ := ρ
    obtain ⟨as0, rfl, h0⟩ := mq_pZ_spec h
    clear h
    obtain ⟨L, as1, rfl, h1⟩ := mq_pR_spec h0
    clear h0
    obtain ⟨rfl, hp⟩ := mq_p0_spec h1
    clear h1
    subst hp
    intro hrg
    exact fun _ h => absurd h List.not_mem_nil
theorem mw0_readTrain : mq_mlA cq_readTrain 0 := ⟨kw_482, ⟨by decide +kernel, by decide +kernel⟩, by decide +kernel, kw_483, kw_484, kw_387, 20, by decide +kernel, fun as ρ μ h => by obtain ⟨nw, sp, tl, tx, al⟩ := ρ; obtain ⟨t, e, _⟩ := mq_pZ_spec h; exact ⟨0, t, e⟩⟩
def pq_readCoach : List mq_E := [(0, false, .aload 1), (1, false, .invokeinterface 3 7), (4, false, .invokeinterface 6 3), (7, false, .iconst 1), (8, false, .isub), (9, false, .istore 2), (10, false, .iload 2), (11, false, .ifCond .ge (Int.ofNat 20)), (14, false, .aload 0), (15, false, .iconst 2), (16, false, .invokestatic 0), (19, false, .return_), (20, false, .aload 1), (21, false, .iload 2), (22, false, .invokestatic 1), (25, false, .istore 3), (26, false, .aload 0), (27, false, .aload 1), (28, false, .invokeinterface 3 8), (31, false, .invokestatic 2), (34, false, .istore 4), (36, false, .aload 1), (37, false, .invokeinterface 3 8), (40, false, .iload 4), (42, false, .iconst 0), (43, false, .iload 2), (44, false, .invokestatic 3), (47, false, .aload 1), (48, false, .invokeinterface 3 8), (51, false, .iload 4), (53, false, .iconst 4), (54, false, .iload 3), (55, false, .invokestatic 3), (58, false, .aload 1), (59, false, .invokeinterface 3 8), (62, false, .iload 4), (64, false, .iconst 1), (65, false, .aload 0), (66, false, .iconst 0), (67, false, .aload 1), (68, false, .invokeinterface 3 6), (71, false, .invokeinterface 6 3), (74, false, .iconst 1), (75, false, .isub), (76, false, .invokestatic 4), (79, false, .invokestatic 3), (82, false, .aload 0), (83, false, .ldc 20), (85, false, .invokestatic 5), (88, false, .aload 1), (89, false, .invokeinterface 3 8), (92, false, .iload 4), (94, false, .iconst 2), (95, false, .aload 0), (96, false, .iconst 0), (97, false, .aload 1), (98, false, .invokeinterface 3 5), (101, false, .invokeinterface 6 3), (104, false, .iconst 1), (105, false, .isub), (106, false, .invokestatic 4), (109, false, .invokestatic 3), (112, false, .aload 0), (113, false, .ldc 9), (115, false, .invokestatic 5), (118, false, .aload 1), (119, false, .invokeinterface 3 8), (122, false, .iload 4), (124, false, .iconst 3), (125, false, .aload 0), (126, false, .iconst 0), (127, false, .aload 1), (128, false, .invokeinterface 3 0), (131, false, .invokestatic 4), (134, false, .invokestatic 3), (137, false, .return_)]
def cq_readCoach : mq_C := ((yX5_readCoach, cX5_readCoach, 5, none, { frames := 6, cells := 0, slots := 0, locals := 128 }), (2, 0, 0, 0), 1114624, (fun as ρ μ => match ρ with
  | (nw, sp, tl, tx, al) => mq_pZ as 20 fun as => mq_pR as 2 fun L as => mq_p0 as (tx = 19)),
  (fun as ρ μ r ρ' μ' => match as, ρ, ρ' with
  | [.inr (.inr (some (_, _))), .inr (.inr (some (_, L)))], (nw, sp, tl, tx, al), (nw', sp', tl', tx', al') => []
  | _, _, _ => []))
def kq_readCoach : List mq_V → mq_R → mq_M → List mq_Cu := fun as ρ μ => match as, ρ with
  | [.inr (.inr (some (_, _))), .inr (.inr (some (_, L)))], (nw, sp, tl, tx, al) => []
  | _, _ => []
set_option maxHeartbeats 16000000 in
set_option maxRecDepth 100000 in
theorem vq_readCoach (lc : Launch) (h_flag : mq_Ct lc cq_flag) (h_coachesOf : mq_Ct lc cq_coachesOf) (h_takeRow_coaches : mq_Ct lc cq_takeRow_coaches) (h_set_coaches : mq_Ct lc cq_set_coaches) (h_takeNumber : mq_Ct lc cq_takeNumber) (h_takeWord : mq_Ct lc cq_takeWord) : mq_Ct lc cq_readCoach := by
  refine mq_method (lc := lc) (P := pq_readCoach) (cl := [cq_flag, cq_coachesOf, cq_takeRow_coaches, cq_set_coaches, cq_takeNumber, cq_takeWord]) (T := ([(196, 3, 7), (205, 6, 3), (212, 3, 8), (189, 3, 6), (186, 3, 5), (116, 3, 0)], [], [], [(92, 0, 0), (208, 1, 0), (160, 2, 0), (166, 3, 0), (113, 4, 0), (107, 5, 0)], [], [])) (fuel := 400) (cuts := kq_readCoach) (by decide) rfl ⟨rfl, rfl⟩ (List.forall_mem_cons.mpr ⟨h_flag, (List.forall_mem_cons.mpr ⟨h_coachesOf, (List.forall_mem_cons.mpr ⟨h_takeRow_coaches, (List.forall_mem_cons.mpr ⟨h_set_coaches, (List.forall_mem_cons.mpr ⟨h_takeNumber, (List.forall_mem_cons.mpr ⟨h_takeWord, (fun _ h => absurd h List.not_mem_nil)⟩)⟩)⟩)⟩)⟩)⟩) ⟨(List.forall_mem_cons.mpr ⟨⟨_, rfl, by decide, kw_454⟩, (List.forall_mem_cons.mpr ⟨⟨_, rfl, by decide, kw_455⟩, (List.forall_mem_cons.mpr ⟨⟨_, rfl, by decide, kw_456⟩, (List.forall_mem_cons.mpr ⟨⟨_, rfl, by decide, kw_457⟩, (List.forall_mem_cons.mpr ⟨⟨_, rfl, by decide, kw_453⟩, (List.forall_mem_cons.mpr ⟨⟨_, rfl, by decide, kw_429⟩, (fun _ h => absurd h List.not_mem_nil)⟩)⟩)⟩)⟩)⟩)⟩), (fun _ h => absurd h List.not_mem_nil), (fun _ h => absurd h List.not_mem_nil), (List.forall_mem_cons.mpr ⟨mq_ml0 rfl mw0_flag kw_419, (List.forall_mem_cons.mpr ⟨mq_ml0 rfl mw0_coachesOf kw_461, (List.forall_mem_cons.mpr ⟨mq_ml0 rfl mw0_takeRow_coaches kw_446, (List.forall_mem_cons.mpr ⟨mq_ml0 rfl mw0_set_coaches kw_450, (List.forall_mem_cons.mpr ⟨mq_ml0 rfl mw0_takeNumber kw_437, (List.forall_mem_cons.mpr ⟨mq_ml0 rfl mw0_takeWord kw_433, (fun _ h => absurd h List.not_mem_nil)⟩)⟩)⟩)⟩)⟩)⟩), (fun _ h => absurd h List.not_mem_nil), (fun _ h => absurd h List.not_mem_nil)⟩ (by decide +kernel) ⟨_, _, rfl⟩ ?_ ?_ ?_ ?_
  · intro as ρ μ h
    obtain ⟨nw, sp, tl, tx, al⟩ := ρ
    obtain ⟨as0, rfl, h0⟩ := mq_pZ_spec h
    clear h
    obtain ⟨L, as1, rfl, h1⟩ := mq_pR_spec h0
    clear h0
    obtain ⟨rfl, hp⟩ := mq_p0_spec h1
    clear h1
    subst hp
    rfl
  · intro as ρ μ h
    obtain ⟨nw, sp, tl, tx, al⟩ := ρ
    obtain ⟨as0, rfl, h0⟩ := mq_pZ_spec h
    clear h
    obtain ⟨L, as1, rfl, h1⟩ := mq_pR_spec h0
    clear h0
    obtain ⟨rfl, hp⟩ := mq_p0_spec h1
    clear h1
    subst hp
    intro hrg
    intro hbk
    have e0 : mq_l0 ([.inr (.inr (some (20, 0))), .inr (.inr (some (2, L)))] : List mq_V) 5 = [some (.inr (.inr (some (20, 0)))), some (.inr (.inr (some (2, L)))), none, none, none] := rfl
    rw [e0]
    repeat' (first | refine And.intro ?_ ?_ | intro _)
    all_goals first | omega | rfl | exact trivial | (simp [mq_up] at * <;> omega)
  · intro as ρ μ h
    obtain ⟨nw, sp, tl, tx, al⟩ := ρ
    obtain ⟨as0, rfl, h0⟩ := mq_pZ_spec h
    clear h
    obtain ⟨L, as1, rfl, h1⟩ := mq_pR_spec h0
    clear h0
    obtain ⟨rfl, hp⟩ := mq_p0_spec h1
    clear h1
    subst hp
    exact fun _ h => absurd h List.not_mem_nil
  · intro as ρ μ h
    obtain ⟨nw, sp, tl, tx, al⟩ := ρ
    obtain ⟨as0, rfl, h0⟩ := mq_pZ_spec h
    clear h
    obtain ⟨L, as1, rfl, h1⟩ := mq_pR_spec h0
    clear h0
    obtain ⟨rfl, hp⟩ := mq_p0_spec h1
    clear h1
    subst hp
    intro hrg
    exact fun _ h => absurd h List.not_mem_nil
theorem mw0_readCoach : mq_mlA cq_readCoach 0 := ⟨kw_486, ⟨by decide +kernel, by decide +kernel⟩, by decide +kernel, kw_487, kw_488, kw_387, 20, by decide +kernel, fun as ρ μ h => by obtain ⟨nw, sp, tl, tx, al⟩ := ρ; obtain ⟨t, e, _⟩ := mq_pZ_spec h; exact ⟨0, t, e⟩⟩
def pq_readKind : List mq_E := [(0, false, .aload 0), (1, false, .aload 1), (2, false, .invokeinterface 3 6), (5, false, .invokestatic 0), (8, false, .istore 2), (9, false, .aload 0), (10, false, .ldc 1), (12, false, .invokestatic 1), (15, false, .aload 1), (16, false, .invokeinterface 3 6), (19, false, .iload 2), (20, false, .iconst 0), (21, false, .aload 0), (22, false, .iconst 1), (23, false, .iconst 30), (25, false, .invokestatic 2), (28, false, .invokestatic 3), (31, false, .aload 0), (32, false, .ldc 15), (34, false, .invokestatic 1), (37, false, .aload 1), (38, false, .invokeinterface 3 6), (41, false, .iload 2), (42, false, .iconst 1), (43, false, .aload 0), (44, false, .iconst 0), (45, false, .iconst 3), (46, false, .invokestatic 2), (49, false, .invokestatic 3), (52, false, .aload 0), (53, false, .ldc 16), (55, false, .invokestatic 1), (58, false, .iconst 0), (59, false, .istore 3), (60, true, .iload 3), (61, false, .iconst 3), (62, false, .if_icmp .ge (Int.ofNat 89)), (65, false, .aload 1), (66, false, .invokeinterface 3 6), (69, false, .iload 2), (70, false, .iconst 2), (71, false, .iload 3), (72, false, .iadd), (73, false, .aload 0), (74, false, .iconst 1), (75, false, .iconst 9), (77, false, .invokestatic 2), (80, false, .invokestatic 3), (83, false, .iinc 3 1), (86, false, .goto (Int.ofNat 60)), (89, false, .return_)]
def cq_readKind : mq_C := ((yX5_readKind, cX5_readKind, 4, none, { frames := 6, cells := 0, slots := 0, locals := 128 }), (2, 0, 0, 0), 1065088, (fun as ρ μ => match ρ with
  | (nw, sp, tl, tx, al) => mq_pZ as 20 fun as => mq_pR as 2 fun L as => mq_p0 as (tx = 19)),
  (fun as ρ μ r ρ' μ' => match as, ρ, ρ' with
  | [.inr (.inr (some (_, _))), .inr (.inr (some (_, L)))], (nw, sp, tl, tx, al), (nw', sp', tl', tx', al') => []
  | _, _, _ => []))
def kq_readKind : List mq_V → mq_R → mq_M → List mq_Cu := fun as ρ μ => match as, ρ with
  | [.inr (.inr (some (_, _))), .inr (.inr (some (_, L)))], (nw, sp, tl, tx, al) => [(60, [true, true, true, true], fun N l st ρ' μ' cs => mq_tZ l 20 fun l => mq_tR l 2 fun L1 l => mq_tI l fun v2 l => mq_tI l fun v3 l => mq_t0 l (st = [] ∧ ρ' = (nw, sp, tl, tx, al) ∧ cs = 0 ∧ L1 = L ∧ 0 ≤ v3 ∧ v3 ≤ 3 ∧ 0 ≤ (3 - v3 : Int) ∧ (3 - v3 : Int) < (N : Int)))]
  | _, _ => []
set_option maxHeartbeats 16000000 in
set_option maxRecDepth 100000 in
theorem vq_readKind (lc : Launch) (h_takeRow_kinds : mq_Ct lc cq_takeRow_kinds) (h_takeWord : mq_Ct lc cq_takeWord) (h_takeNumber : mq_Ct lc cq_takeNumber) (h_set_kinds : mq_Ct lc cq_set_kinds) : mq_Ct lc cq_readKind := by
  refine mq_method (lc := lc) (P := pq_readKind) (cl := [cq_takeRow_kinds, cq_takeWord, cq_takeNumber, cq_set_kinds]) (T := ([(189, 3, 6)], [], [], [(160, 0, 0), (107, 1, 0), (113, 2, 0), (166, 3, 0)], [], [])) (fuel := 400) (cuts := kq_readKind) (by decide) rfl ⟨rfl, rfl⟩ (List.forall_mem_cons.mpr ⟨h_takeRow_kinds, (List.forall_mem_cons.mpr ⟨h_takeWord, (List.forall_mem_cons.mpr ⟨h_takeNumber, (List.forall_mem_cons.mpr ⟨h_set_kinds, (fun _ h => absurd h List.not_mem_nil)⟩)⟩)⟩)⟩) ⟨(List.forall_mem_cons.mpr ⟨⟨_, rfl, by decide, kw_457⟩, (fun _ h => absurd h List.not_mem_nil)⟩), (fun _ h => absurd h List.not_mem_nil), (fun _ h => absurd h List.not_mem_nil), (List.forall_mem_cons.mpr ⟨mq_ml0 rfl mw0_takeRow_kinds kw_446, (List.forall_mem_cons.mpr ⟨mq_ml0 rfl mw0_takeWord kw_433, (List.forall_mem_cons.mpr ⟨mq_ml0 rfl mw0_takeNumber kw_437, (List.forall_mem_cons.mpr ⟨mq_ml0 rfl mw0_set_kinds kw_450, (fun _ h => absurd h List.not_mem_nil)⟩)⟩)⟩)⟩), (fun _ h => absurd h List.not_mem_nil), (fun _ h => absurd h List.not_mem_nil)⟩ (by decide +kernel) ⟨_, _, rfl⟩ ?_ ?_ ?_ ?_
  · intro as ρ μ h
    obtain ⟨nw, sp, tl, tx, al⟩ := ρ
    obtain ⟨as0, rfl, h0⟩ := mq_pZ_spec h
    clear h
    obtain ⟨L, as1, rfl, h1⟩ := mq_pR_spec h0
    clear h0
    obtain ⟨rfl, hp⟩ := mq_p0_spec h1
    clear h1
    subst hp
    rfl
  · intro as ρ μ h
    obtain ⟨nw, sp, tl, tx, al⟩ := ρ
    obtain ⟨as0, rfl, h0⟩ := mq_pZ_spec h
    clear h
    obtain ⟨L, as1, rfl, h1⟩ := mq_pR_spec h0
    clear h0
    obtain ⟨rfl, hp⟩ := mq_p0_spec h1
    clear h1
    subst hp
    intro hrg
    intro hbk
    have e0 : mq_l0 ([.inr (.inr (some (20, 0))), .inr (.inr (some (2, L)))] : List mq_V) 4 = [some (.inr (.inr (some (20, 0)))), some (.inr (.inr (some (2, L)))), none, none] := rfl
    rw [e0]
    repeat' (first | refine And.intro ?_ ?_ | intro _)
    all_goals first | omega | rfl | exact trivial | (simp [mq_up] at * <;> omega)
  · intro as ρ μ h
    obtain ⟨nw, sp, tl, tx, al⟩ := ρ
    obtain ⟨as0, rfl, h0⟩ := mq_pZ_spec h
    clear h
    obtain ⟨L, as1, rfl, h1⟩ := mq_pR_spec h0
    clear h0
    obtain ⟨rfl, hp⟩ := mq_p0_spec h1
    clear h1
    subst hp
    refine List.forall_mem_cons.mpr ⟨?_, ?_⟩
    · intro l st ρ' μ' cs hJ
      obtain ⟨l0, rfl, hJ0⟩ := mq_tZ_spec hJ
      clear hJ
      obtain ⟨L1, l1, rfl, hJ1⟩ := mq_tR_spec hJ0
      clear hJ0
      obtain ⟨v2, l2, rfl, hJ2⟩ := mq_tI_spec hJ1
      clear hJ1
      obtain ⟨v3, l3, rfl, hJ3⟩ := mq_tI_spec hJ2
      clear hJ2
      obtain ⟨rfl, hJz⟩ := mq_t0_spec hJ3
      clear hJ3
      obtain ⟨rfl, rfl, rfl, rfl, hc1, hc2, hm0, hm1⟩ := hJz
      omega
    exact fun _ h => absurd h List.not_mem_nil
  · intro as ρ μ h
    obtain ⟨nw, sp, tl, tx, al⟩ := ρ
    obtain ⟨as0, rfl, h0⟩ := mq_pZ_spec h
    clear h
    obtain ⟨L, as1, rfl, h1⟩ := mq_pR_spec h0
    clear h0
    obtain ⟨rfl, hp⟩ := mq_p0_spec h1
    clear h1
    subst hp
    intro hrg
    refine List.forall_mem_cons.mpr ⟨?_, ?_⟩
    · intro N l st ρ' μ' cs hJ
      obtain ⟨l0, rfl, hJ0⟩ := mq_tZ_spec hJ
      clear hJ
      obtain ⟨L1, l1, rfl, hJ1⟩ := mq_tR_spec hJ0
      clear hJ0
      obtain ⟨v2, l2, rfl, hJ2⟩ := mq_tI_spec hJ1
      clear hJ1
      obtain ⟨v3, l3, rfl, hJ3⟩ := mq_tI_spec hJ2
      clear hJ2
      obtain ⟨rfl, hJz⟩ := mq_t0_spec hJ3
      clear hJ3
      obtain ⟨rfl, rfl, rfl, rfl, hc1, hc2, hm0, hm1⟩ := hJz
      intro hbk hrl
      obtain ⟨⟨hl2a, hl2b⟩, ⟨hl3a, hl3b⟩, -⟩ := hrl
      repeat' (first | refine And.intro ?_ ?_ | intro _)
      all_goals first | omega | rfl | exact trivial | (simp [mq_up] at * <;> omega)
    exact fun _ h => absurd h List.not_mem_nil
theorem mw0_readKind : mq_mlA cq_readKind 0 := ⟨kw_478, ⟨by decide +kernel, by decide +kernel⟩, by decide +kernel, kw_479, kw_480, kw_387, 20, by decide +kernel, fun as ρ μ h => by obtain ⟨nw, sp, tl, tx, al⟩ := ρ; obtain ⟨t, e, _⟩ := mq_pZ_spec h; exact ⟨0, t, e⟩⟩
def pq_readClause : List mq_E := [(0, false, .aload 0), (1, false, .ldc 2), (3, false, .invokestatic 0), (6, false, .ifCond .eq (Int.ofNat 17)), (9, false, .aload 0), (10, false, .aload 1), (11, false, .invokestatic 1), (14, false, .goto (Int.ofNat 124)), (17, false, .aload 0), (18, false, .ldc 3), (20, false, .invokestatic 0), (23, false, .ifCond .eq (Int.ofNat 34)), (26, false, .aload 0), (27, false, .aload 1), (28, false, .invokestatic 2), (31, false, .goto (Int.ofNat 124)), (34, false, .aload 0), (35, false, .ldc 4), (37, false, .invokestatic 0), (40, false, .ifCond .eq (Int.ofNat 51)), (43, false, .aload 0), (44, false, .aload 1), (45, false, .invokestatic 3), (48, false, .goto (Int.ofNat 124)), (51, false, .aload 0), (52, false, .ldc 5), (54, false, .invokestatic 0), (57, false, .ifCond .eq (Int.ofNat 68)), (60, false, .aload 0), (61, false, .aload 1), (62, false, .invokestatic 4), (65, false, .goto (Int.ofNat 124)), (68, false, .aload 0), (69, false, .ldc 6), (71, false, .invokestatic 0), (74, false, .ifCond .eq (Int.ofNat 85)), (77, false, .aload 0), (78, false, .aload 1), (79, false, .invokestatic 5), (82, false, .goto (Int.ofNat 124)), (85, false, .aload 0), (86, false, .ldc 7), (88, false, .invokestatic 0), (91, false, .ifCond .eq (Int.ofNat 102)), (94, false, .aload 0), (95, false, .aload 1), (96, false, .invokestatic 6), (99, false, .goto (Int.ofNat 124)), (102, false, .aload 0), (103, false, .ldc 8), (105, false, .invokestatic 0), (108, false, .ifCond .eq (Int.ofNat 119)), (111, false, .aload 0), (112, false, .aload 1), (113, false, .invokestatic 7), (116, false, .goto (Int.ofNat 124)), (119, false, .aload 0), (120, false, .iconst 1), (121, false, .invokestatic 8), (124, false, .aload 0), (125, false, .invokestatic 9), (128, false, .return_)]
def cq_readClause : mq_C := ((yX5_readClause, cX5_readClause, 2, none, { frames := 7, cells := 0, slots := 0, locals := 152 }), (2, 0, 0, 0), 1179640, (fun as ρ μ => match ρ with
  | (nw, sp, tl, tx, al) => mq_pZ as 20 fun as => mq_pR as 2 fun L as => mq_p0 as (tx = 19)),
  (fun as ρ μ r ρ' μ' => match as, ρ, ρ' with
  | [.inr (.inr (some (_, _))), .inr (.inr (some (_, L)))], (nw, sp, tl, tx, al), (nw', sp', tl', tx', al') => []
  | _, _, _ => []))
def kq_readClause : List mq_V → mq_R → mq_M → List mq_Cu := fun as ρ μ => match as, ρ with
  | [.inr (.inr (some (_, _))), .inr (.inr (some (_, L)))], (nw, sp, tl, tx, al) => []
  | _, _ => []
set_option maxHeartbeats 16000000 in
set_option maxRecDepth 100000 in
theorem vq_readClause (lc : Launch) (h_isWord : mq_Ct lc cq_isWord) (h_readSlope : mq_Ct lc cq_readSlope) (h_readWet : mq_Ct lc cq_readWet) (h_readLimit : mq_Ct lc cq_readLimit) (h_readPlatform : mq_Ct lc cq_readPlatform) (h_readKind : mq_Ct lc cq_readKind) (h_readTrain : mq_Ct lc cq_readTrain) (h_readCoach : mq_Ct lc cq_readCoach) (h_flag : mq_Ct lc cq_flag) (h_takeSign : mq_Ct lc cq_takeSign) : mq_Ct lc cq_readClause := by
  refine mq_method (lc := lc) (P := pq_readClause) (cl := [cq_isWord, cq_readSlope, cq_readWet, cq_readLimit, cq_readPlatform, cq_readKind, cq_readTrain, cq_readCoach, cq_flag, cq_takeSign]) (T := ([], [], [], [(88, 0, 0), (123, 1, 0), (128, 2, 0), (133, 3, 0), (138, 4, 0), (143, 5, 0), (148, 6, 0), (153, 7, 0), (92, 8, 0), (118, 9, 0)], [], [])) (fuel := 400) (cuts := kq_readClause) (by decide) rfl ⟨rfl, rfl⟩ (List.forall_mem_cons.mpr ⟨h_isWord, (List.forall_mem_cons.mpr ⟨h_readSlope, (List.forall_mem_cons.mpr ⟨h_readWet, (List.forall_mem_cons.mpr ⟨h_readLimit, (List.forall_mem_cons.mpr ⟨h_readPlatform, (List.forall_mem_cons.mpr ⟨h_readKind, (List.forall_mem_cons.mpr ⟨h_readTrain, (List.forall_mem_cons.mpr ⟨h_readCoach, (List.forall_mem_cons.mpr ⟨h_flag, (List.forall_mem_cons.mpr ⟨h_takeSign, (fun _ h => absurd h List.not_mem_nil)⟩)⟩)⟩)⟩)⟩)⟩)⟩)⟩)⟩)⟩) ⟨(fun _ h => absurd h List.not_mem_nil), (fun _ h => absurd h List.not_mem_nil), (fun _ h => absurd h List.not_mem_nil), (List.forall_mem_cons.mpr ⟨mq_ml0 rfl mw0_isWord kw_415, (List.forall_mem_cons.mpr ⟨mq_ml0 rfl mw0_readSlope kw_465, (List.forall_mem_cons.mpr ⟨mq_ml0 rfl mw0_readWet kw_469, (List.forall_mem_cons.mpr ⟨mq_ml0 rfl mw0_readLimit kw_473, (List.forall_mem_cons.mpr ⟨mq_ml0 rfl mw0_readPlatform kw_477, (List.forall_mem_cons.mpr ⟨mq_ml0 rfl mw0_readKind kw_481, (List.forall_mem_cons.mpr ⟨mq_ml0 rfl mw0_readTrain kw_485, (List.forall_mem_cons.mpr ⟨mq_ml0 rfl mw0_readCoach kw_489, (List.forall_mem_cons.mpr ⟨mq_ml0 rfl mw0_flag kw_419, (List.forall_mem_cons.mpr ⟨mq_ml0 rfl mw0_takeSign kw_441, (fun _ h => absurd h List.not_mem_nil)⟩)⟩)⟩)⟩)⟩)⟩)⟩)⟩)⟩)⟩), (fun _ h => absurd h List.not_mem_nil), (fun _ h => absurd h List.not_mem_nil)⟩ (by decide +kernel) ⟨_, _, rfl⟩ ?_ ?_ ?_ ?_
  · intro as ρ μ h
    obtain ⟨nw, sp, tl, tx, al⟩ := ρ
    obtain ⟨as0, rfl, h0⟩ := mq_pZ_spec h
    clear h
    obtain ⟨L, as1, rfl, h1⟩ := mq_pR_spec h0
    clear h0
    obtain ⟨rfl, hp⟩ := mq_p0_spec h1
    clear h1
    subst hp
    rfl
  · intro as ρ μ h
    obtain ⟨nw, sp, tl, tx, al⟩ := ρ
    obtain ⟨as0, rfl, h0⟩ := mq_pZ_spec h
    clear h
    obtain ⟨L, as1, rfl, h1⟩ := mq_pR_spec h0
    clear h0
    obtain ⟨rfl, hp⟩ := mq_p0_spec h1
    clear h1
    subst hp
    intro hrg
    intro hbk
    have e0 : mq_l0 ([.inr (.inr (some (20, 0))), .inr (.inr (some (2, L)))] : List mq_V) 2 = [some (.inr (.inr (some (20, 0)))), some (.inr (.inr (some (2, L))))] := rfl
    rw [e0]
    repeat' (first | refine And.intro ?_ ?_ | intro _)
    all_goals first | omega | rfl | exact trivial | (simp [mq_up] at * <;> omega)
  · intro as ρ μ h
    obtain ⟨nw, sp, tl, tx, al⟩ := ρ
    obtain ⟨as0, rfl, h0⟩ := mq_pZ_spec h
    clear h
    obtain ⟨L, as1, rfl, h1⟩ := mq_pR_spec h0
    clear h0
    obtain ⟨rfl, hp⟩ := mq_p0_spec h1
    clear h1
    subst hp
    exact fun _ h => absurd h List.not_mem_nil
  · intro as ρ μ h
    obtain ⟨nw, sp, tl, tx, al⟩ := ρ
    obtain ⟨as0, rfl, h0⟩ := mq_pZ_spec h
    clear h
    obtain ⟨L, as1, rfl, h1⟩ := mq_pR_spec h0
    clear h0
    obtain ⟨rfl, hp⟩ := mq_p0_spec h1
    clear h1
    subst hp
    intro hrg
    exact fun _ h => absurd h List.not_mem_nil
theorem mw0_readClause : mq_mlA cq_readClause 0 := ⟨kw_503, ⟨by decide +kernel, by decide +kernel⟩, by decide +kernel, kw_504, kw_505, kw_387, 20, by decide +kernel, fun as ρ μ h => by obtain ⟨nw, sp, tl, tx, al⟩ := ρ; obtain ⟨t, e, _⟩ := mq_pZ_spec h; exact ⟨0, t, e⟩⟩
def pq_read : List mq_E := [(0, false, .aload 0), (1, false, .aload 2), (2, false, .multianewarray 5 0), (5, false, .aload 0), (6, false, .iload 3), (7, false, .aload 2), (8, false, .arraylength), (9, false, .f2l), (12, false, .multianewarray 5 1), (15, false, .aload 0), (16, false, .iconst 0), (17, false, .multianewarray 5 3), (20, false, .aload 0), (21, false, .iconst 0), (22, false, .multianewarray 5 6), (25, false, .aload 0), (26, false, .iconst (-1)), (27, false, .multianewarray 5 7), (30, false, .aload 1), (31, false, .invokestatic 0), (34, false, .aload 1), (35, false, .aload 0), (36, false, .invokestatic 1), (39, false, .multianewarray 3 1), (42, false, .aload 0), (43, false, .invokestatic 2), (46, false, .aload 0), (47, false, .invokeinterface 5 4), (50, false, .ifCond .eq (Int.ofNat 58)), (53, false, .aload 0), (54, false, .aload 1), (55, false, .invokestatic 3), (58, false, .iconst 0), (59, false, .istore 4), (61, true, .iload 4), (63, false, .aload 0), (64, false, .invokeinterface 5 1), (67, false, .if_icmp .ge (Int.ofNat 95)), (70, false, .aload 0), (71, false, .invokeinterface 5 6), (74, false, .ifCond .ne (Int.ofNat 95)), (77, false, .aload 0), (78, false, .invokeinterface 5 4), (81, false, .ifCond .eq (Int.ofNat 95)), (84, false, .aload 0), (85, false, .aload 1), (86, false, .invokestatic 4), (89, false, .iinc 4 1), (92, false, .goto (Int.ofNat 61)), (95, false, .return_)]
def cq_read : mq_C := ((yX5_read, cX5_read, 5, none, { frames := 8, cells := 0, slots := 0, locals := 173 }), (4, 0, 2, 0), 1179644, (fun as ρ μ => match ρ with
  | (nw, sp, tl, tx, al) => mq_pZ as 20 fun as => mq_pR as 2 fun L as => mq_pZ as 19 fun as => mq_pI as fun n as => mq_p0 as (0 ≤ n ∧ True)),
  (fun as ρ μ r ρ' μ' => match as, ρ, ρ' with
  | [.inr (.inr (some (_, _))), .inr (.inr (some (_, L))), .inr (.inr (some (_, _))), .inl n], (nw, sp, tl, tx, al), (nw', sp', tl', tx', al') => [nw' = nw, sp' = sp, tl' = tl, tx' = 19]
  | _, _, _ => []))
def kq_read : List mq_V → mq_R → mq_M → List mq_Cu := fun as ρ μ => match as, ρ with
  | [.inr (.inr (some (_, _))), .inr (.inr (some (_, L))), .inr (.inr (some (_, _))), .inl n], (nw, sp, tl, tx, al) => [(61, [true, true, true, true, true], fun N l st ρ' μ' cs => mq_tZ l 20 fun l => mq_tR l 2 fun L1 l => mq_tZ l 19 fun l => mq_tI l fun v3 l => mq_tI l fun v4 l => mq_t0 l (st = [] ∧ ρ' = (nw, sp, tl, 19, al) ∧ cs = 0 ∧ L1 = L ∧ v3 = n ∧ 0 ≤ v4 ∧ v4 ≤ 1600 ∧ 0 ≤ (1600 - v4 : Int) ∧ (1600 - v4 : Int) < (N : Int)))]
  | _, _ => []
set_option maxHeartbeats 16000000 in
set_option maxRecDepth 100000 in
theorem vq_read (lc : Launch) (h_empty : mq_Ct lc cq_empty) (h_linesOfText : mq_Ct lc cq_linesOfText) (h_advance : mq_Ct lc cq_advance) (h_readLength : mq_Ct lc cq_readLength) (h_readClause : mq_Ct lc cq_readClause) : mq_Ct lc cq_read := by
  refine mq_method (lc := lc) (P := pq_read) (cl := [cq_empty, cq_linesOfText, cq_advance, cq_readLength, cq_readClause]) (T := ([(9, 5, 0), (15, 5, 1), (22, 5, 3), (31, 5, 6), (34, 5, 7), (52, 3, 1), (25, 5, 4)], [], [], [(43, 0, 0), (48, 1, 0), (55, 2, 0), (58, 3, 0), (62, 4, 0)], [], [(37, false)])) (fuel := 400) (cuts := kq_read) (by decide) rfl ⟨rfl, rfl⟩ (List.forall_mem_cons.mpr ⟨h_empty, (List.forall_mem_cons.mpr ⟨h_linesOfText, (List.forall_mem_cons.mpr ⟨h_advance, (List.forall_mem_cons.mpr ⟨h_readLength, (List.forall_mem_cons.mpr ⟨h_readClause, (fun _ h => absurd h List.not_mem_nil)⟩)⟩)⟩)⟩)⟩) ⟨(List.forall_mem_cons.mpr ⟨⟨_, rfl, by decide, kw_381⟩, (List.forall_mem_cons.mpr ⟨⟨_, rfl, by decide, kw_380⟩, (List.forall_mem_cons.mpr ⟨⟨_, rfl, by decide, kw_383⟩, (List.forall_mem_cons.mpr ⟨⟨_, rfl, by decide, kw_402⟩, (List.forall_mem_cons.mpr ⟨⟨_, rfl, by decide, kw_403⟩, (List.forall_mem_cons.mpr ⟨⟨_, rfl, by decide, kw_490⟩, (List.forall_mem_cons.mpr ⟨⟨_, rfl, by decide, kw_391⟩, (fun _ h => absurd h List.not_mem_nil)⟩)⟩)⟩)⟩)⟩)⟩)⟩), (fun _ h => absurd h List.not_mem_nil), (fun _ h => absurd h List.not_mem_nil), (List.forall_mem_cons.mpr ⟨mq_ml0 rfl mw0_empty kw_494, (List.forall_mem_cons.mpr ⟨mq_ml0 rfl mw0_linesOfText kw_498, (List.forall_mem_cons.mpr ⟨mq_ml0 rfl mw0_advance kw_423, (List.forall_mem_cons.mpr ⟨mq_ml0 rfl mw0_readLength kw_502, (List.forall_mem_cons.mpr ⟨mq_ml0 rfl mw0_readClause kw_506, (fun _ h => absurd h List.not_mem_nil)⟩)⟩)⟩)⟩)⟩), (fun _ h => absurd h List.not_mem_nil), (List.forall_mem_cons.mpr ⟨⟨kw_389, kw_43, kw_44, kw_45⟩, (fun _ h => absurd h List.not_mem_nil)⟩)⟩ (by decide +kernel) ⟨_, _, rfl⟩ ?_ ?_ ?_ ?_
  · intro as ρ μ h
    obtain ⟨nw, sp, tl, tx, al⟩ := ρ
    obtain ⟨as0, rfl, h0⟩ := mq_pZ_spec h
    clear h
    obtain ⟨L, as1, rfl, h1⟩ := mq_pR_spec h0
    clear h0
    obtain ⟨as2, rfl, h2⟩ := mq_pZ_spec h1
    clear h1
    obtain ⟨n, as3, rfl, h3⟩ := mq_pI_spec h2
    clear h2
    obtain ⟨rfl, hp⟩ := mq_p0_spec h3
    clear h3
    obtain ⟨hp0, hp1⟩ := hp
    rfl
  · intro as ρ μ h
    obtain ⟨nw, sp, tl, tx, al⟩ := ρ
    obtain ⟨as0, rfl, h0⟩ := mq_pZ_spec h
    clear h
    obtain ⟨L, as1, rfl, h1⟩ := mq_pR_spec h0
    clear h0
    obtain ⟨as2, rfl, h2⟩ := mq_pZ_spec h1
    clear h1
    obtain ⟨n, as3, rfl, h3⟩ := mq_pI_spec h2
    clear h2
    obtain ⟨rfl, hp⟩ := mq_p0_spec h3
    clear h3
    obtain ⟨hp0, hp1⟩ := hp
    intro hrg
    obtain ⟨⟨ha3a, ha3b⟩, -⟩ := hrg
    intro hbk
    have e0 : mq_l0 ([.inr (.inr (some (20, 0))), .inr (.inr (some (2, L))), .inr (.inr (some (19, 0))), .inl n] : List mq_V) 5 = [some (.inr (.inr (some (20, 0)))), some (.inr (.inr (some (2, L)))), some (.inr (.inr (some (19, 0)))), some (.inl n), none] := rfl
    rw [e0]
    repeat' (first | refine And.intro ?_ ?_ | intro _)
    all_goals first | omega | rfl | exact trivial | (simp [mq_up] at * <;> omega)
  · intro as ρ μ h
    obtain ⟨nw, sp, tl, tx, al⟩ := ρ
    obtain ⟨as0, rfl, h0⟩ := mq_pZ_spec h
    clear h
    obtain ⟨L, as1, rfl, h1⟩ := mq_pR_spec h0
    clear h0
    obtain ⟨as2, rfl, h2⟩ := mq_pZ_spec h1
    clear h1
    obtain ⟨n, as3, rfl, h3⟩ := mq_pI_spec h2
    clear h2
    obtain ⟨rfl, hp⟩ := mq_p0_spec h3
    clear h3
    obtain ⟨hp0, hp1⟩ := hp
    refine List.forall_mem_cons.mpr ⟨?_, ?_⟩
    · intro l st ρ' μ' cs hJ
      obtain ⟨l0, rfl, hJ0⟩ := mq_tZ_spec hJ
      clear hJ
      obtain ⟨L1, l1, rfl, hJ1⟩ := mq_tR_spec hJ0
      clear hJ0
      obtain ⟨l2, rfl, hJ2⟩ := mq_tZ_spec hJ1
      clear hJ1
      obtain ⟨v3, l3, rfl, hJ3⟩ := mq_tI_spec hJ2
      clear hJ2
      obtain ⟨v4, l4, rfl, hJ4⟩ := mq_tI_spec hJ3
      clear hJ3
      obtain ⟨rfl, hJz⟩ := mq_t0_spec hJ4
      clear hJ4
      obtain ⟨rfl, rfl, rfl, rfl, hc1, hc2, hc3, hm0, hm1⟩ := hJz
      omega
    exact fun _ h => absurd h List.not_mem_nil
  · intro as ρ μ h
    obtain ⟨nw, sp, tl, tx, al⟩ := ρ
    obtain ⟨as0, rfl, h0⟩ := mq_pZ_spec h
    clear h
    obtain ⟨L, as1, rfl, h1⟩ := mq_pR_spec h0
    clear h0
    obtain ⟨as2, rfl, h2⟩ := mq_pZ_spec h1
    clear h1
    obtain ⟨n, as3, rfl, h3⟩ := mq_pI_spec h2
    clear h2
    obtain ⟨rfl, hp⟩ := mq_p0_spec h3
    clear h3
    obtain ⟨hp0, hp1⟩ := hp
    intro hrg
    obtain ⟨⟨ha3a, ha3b⟩, -⟩ := hrg
    refine List.forall_mem_cons.mpr ⟨?_, ?_⟩
    · intro N l st ρ' μ' cs hJ
      obtain ⟨l0, rfl, hJ0⟩ := mq_tZ_spec hJ
      clear hJ
      obtain ⟨L1, l1, rfl, hJ1⟩ := mq_tR_spec hJ0
      clear hJ0
      obtain ⟨l2, rfl, hJ2⟩ := mq_tZ_spec hJ1
      clear hJ1
      obtain ⟨v3, l3, rfl, hJ3⟩ := mq_tI_spec hJ2
      clear hJ2
      obtain ⟨v4, l4, rfl, hJ4⟩ := mq_tI_spec hJ3
      clear hJ3
      obtain ⟨rfl, hJz⟩ := mq_t0_spec hJ4
      clear hJ4
      obtain ⟨rfl, rfl, rfl, rfl, hc1, hc2, hc3, hm0, hm1⟩ := hJz
      intro hbk hrl
      obtain ⟨⟨hl3a, hl3b⟩, ⟨hl4a, hl4b⟩, -⟩ := hrl
      repeat' (first | refine And.intro ?_ ?_ | intro _)
      all_goals first | omega | rfl | exact trivial | (simp [mq_up] at * <;> omega)
    exact fun _ h => absurd h List.not_mem_nil
theorem mw0_read : mq_mlA cq_read 0 := ⟨kw_528, ⟨by decide +kernel, by decide +kernel⟩, by decide +kernel, kw_529, kw_530, kw_387, 20, by decide +kernel, fun as ρ μ h => by obtain ⟨nw, sp, tl, tx, al⟩ := ρ; obtain ⟨t, e, _⟩ := mq_pZ_spec h; exact ⟨0, t, e⟩⟩
