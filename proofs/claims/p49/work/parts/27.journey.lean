def pq_err : List mq_E := [(0, false, .iload 1), (1, false, .iconst 0), (2, false, .iconst 15), (4, false, .invokestatic 0), (7, false, .ifCond .eq (Int.ofNat 17)), (10, false, .aload 0), (11, false, .invokeinterface 2 12), (14, false, .iload 1), (15, false, .iload 2), (16, false, .iastore), (17, false, .aload 0), (18, false, .iload 3), (19, false, .multianewarray 2 13), (22, false, .return_)]
def cq_err : mq_C := ((yX2_err, cX2_err, 4, none, { frames := 1, cells := 0, slots := 0, locals := 22 }), (4, 0, 0, 0), 281612415664128, (fun as ρ μ => match ρ with
  | (nw, sp, tl, tx, al) => mq_pZ as 37 fun as => mq_pI as fun c as => mq_pI as fun s as => mq_pI as fun y as => mq_p0 as (True)),
  (fun as ρ μ r ρ' μ' => match as, ρ, ρ' with
  | [.inr (.inr (some (_, _))), .inl c, .inl s, .inl y], (nw, sp, tl, tx, al), (nw', sp', tl', tx', al') => []
  | _, _, _ => []))
def kq_err : List mq_V → mq_R → mq_M → List mq_Cu := fun as ρ μ => match as, ρ with
  | [.inr (.inr (some (_, _))), .inl c, .inl s, .inl y], (nw, sp, tl, tx, al) => []
  | _, _ => []
set_option maxHeartbeats 16000000 in
set_option maxRecDepth 100000 in
theorem vq_err (lc : Launch) (h_isAmong : mq_Ct lc cq_isAmong) : mq_Ct lc cq_err := by
  refine mq_method (lc := lc) (P := pq_err) (cl := [cq_isAmong]) (T := ([(43, 2, 12), (46, 2, 13)], [], [], [(67, 0, 2)], [], [])) (fuel := 400) (cuts := kq_err) (by decide) rfl ⟨rfl, rfl⟩ (List.forall_mem_cons.mpr ⟨h_isAmong, (fun _ h => absurd h List.not_mem_nil)⟩) ⟨(List.forall_mem_cons.mpr ⟨⟨_, rfl, by decide, kw_199⟩, (List.forall_mem_cons.mpr ⟨⟨_, rfl, by decide, kw_200⟩, (fun _ h => absurd h List.not_mem_nil)⟩)⟩), (fun _ h => absurd h List.not_mem_nil), (fun _ h => absurd h List.not_mem_nil), (List.forall_mem_cons.mpr ⟨mq_ml2 rfl mw1_isAmong 14 rfl, (fun _ h => absurd h List.not_mem_nil)⟩), (fun _ h => absurd h List.not_mem_nil), (fun _ h => absurd h List.not_mem_nil)⟩ (by decide +kernel) ⟨_, _, rfl⟩ ?_ ?_ ?_ ?_
  · intro as ρ μ h
    obtain ⟨nw, sp, tl, tx, al⟩ := ρ
    obtain ⟨as0, rfl, h0⟩ := mq_pZ_spec h
    clear h
    obtain ⟨c, as1, rfl, h1⟩ := mq_pI_spec h0
    clear h0
    obtain ⟨s, as2, rfl, h2⟩ := mq_pI_spec h1
    clear h1
    obtain ⟨y, as3, rfl, h3⟩ := mq_pI_spec h2
    clear h2
    obtain ⟨rfl, hp⟩ := mq_p0_spec h3
    clear h3
    rfl
  · intro as ρ μ h
    obtain ⟨nw, sp, tl, tx, al⟩ := ρ
    obtain ⟨as0, rfl, h0⟩ := mq_pZ_spec h
    clear h
    obtain ⟨c, as1, rfl, h1⟩ := mq_pI_spec h0
    clear h0
    obtain ⟨s, as2, rfl, h2⟩ := mq_pI_spec h1
    clear h1
    obtain ⟨y, as3, rfl, h3⟩ := mq_pI_spec h2
    clear h2
    obtain ⟨rfl, hp⟩ := mq_p0_spec h3
    clear h3
    intro hrg
    obtain ⟨⟨ha1a, ha1b⟩, ⟨ha2a, ha2b⟩, ⟨ha3a, ha3b⟩, -⟩ := hrg
    intro hbk
    have e0 : mq_l0 ([.inr (.inr (some (37, 0))), .inl c, .inl s, .inl y] : List mq_V) 4 = [some (.inr (.inr (some (37, 0)))), some (.inl c), some (.inl s), some (.inl y)] := rfl
    rw [e0]
    repeat' (first | refine And.intro ?_ ?_ | intro _)
    all_goals first | omega | rfl | exact trivial | (simp [mq_up] at * <;> omega)
  · intro as ρ μ h
    obtain ⟨nw, sp, tl, tx, al⟩ := ρ
    obtain ⟨as0, rfl, h0⟩ := mq_pZ_spec h
    clear h
    obtain ⟨c, as1, rfl, h1⟩ := mq_pI_spec h0
    clear h0
    obtain ⟨s, as2, rfl, h2⟩ := mq_pI_spec h1
    clear h1
    obtain ⟨y, as3, rfl, h3⟩ := mq_pI_spec h2
    clear h2
    obtain ⟨rfl, hp⟩ := mq_p0_spec h3
    clear h3
    exact fun _ h => absurd h List.not_mem_nil
  · intro as ρ μ h
    obtain ⟨nw, sp, tl, tx, al⟩ := ρ
    obtain ⟨as0, rfl, h0⟩ := mq_pZ_spec h
    clear h
    obtain ⟨c, as1, rfl, h1⟩ := mq_pI_spec h0
    clear h0
    obtain ⟨s, as2, rfl, h2⟩ := mq_pI_spec h1
    clear h1
    obtain ⟨y, as3, rfl, h3⟩ := mq_pI_spec h2
    clear h2
    obtain ⟨rfl, hp⟩ := mq_p0_spec h3
    clear h3
    intro hrg
    obtain ⟨⟨ha1a, ha1b⟩, ⟨ha2a, ha2b⟩, ⟨ha3a, ha3b⟩, -⟩ := hrg
    exact fun _ h => absurd h List.not_mem_nil
theorem mw0_err : mq_mlA cq_err 0 := ⟨kw_680, ⟨by decide +kernel, by decide +kernel⟩, by decide +kernel, kw_681, kw_682, kw_222, 37, by decide +kernel, fun as ρ μ h => by obtain ⟨nw, sp, tl, tx, al⟩ := ρ; obtain ⟨t, e, _⟩ := mq_pZ_spec h; exact ⟨0, t, e⟩⟩
def pq_errNot : List mq_E := [(0, false, .aload 0), (1, false, .invokeinterface 2 12), (4, false, .iconst (-1)), (5, false, .invokestatic 0), (8, false, .return_)]
def cq_errNot : mq_C := ((yX2_errNot, cX2_errNot, 1, none, { frames := 1, cells := 0, slots := 0, locals := 23 }), (1, 0, 0, 0), 281474976710656, (fun as ρ μ => match ρ with
  | (nw, sp, tl, tx, al) => mq_pZ as 37 fun as => mq_p0 as (True)),
  (fun as ρ μ r ρ' μ' => match as, ρ, ρ' with
  | [.inr (.inr (some (_, _)))], (nw, sp, tl, tx, al), (nw', sp', tl', tx', al') => []
  | _, _, _ => []))
def kq_errNot : List mq_V → mq_R → mq_M → List mq_Cu := fun as ρ μ => match as, ρ with
  | [.inr (.inr (some (_, _)))], (nw, sp, tl, tx, al) => []
  | _, _ => []
set_option maxHeartbeats 16000000 in
set_option maxRecDepth 100000 in
theorem vq_errNot (lc : Launch) (h_fill48 : mq_Ct lc cq_fill48) : mq_Ct lc cq_errNot := by
  refine mq_method (lc := lc) (P := pq_errNot) (cl := [cq_fill48]) (T := ([(43, 2, 12)], [], [], [(61, 0, 1)], [], [])) (fuel := 400) (cuts := kq_errNot) (by decide) rfl ⟨rfl, rfl⟩ (List.forall_mem_cons.mpr ⟨h_fill48, (fun _ h => absurd h List.not_mem_nil)⟩) ⟨(List.forall_mem_cons.mpr ⟨⟨_, rfl, by decide, kw_199⟩, (fun _ h => absurd h List.not_mem_nil)⟩), (fun _ h => absurd h List.not_mem_nil), (fun _ h => absurd h List.not_mem_nil), (List.forall_mem_cons.mpr ⟨mq_ml1 rfl mw1_fill48 kw_201, (fun _ h => absurd h List.not_mem_nil)⟩), (fun _ h => absurd h List.not_mem_nil), (fun _ h => absurd h List.not_mem_nil)⟩ (by decide +kernel) ⟨_, _, rfl⟩ ?_ ?_ ?_ ?_
  · intro as ρ μ h
    obtain ⟨nw, sp, tl, tx, al⟩ := ρ
    obtain ⟨as0, rfl, h0⟩ := mq_pZ_spec h
    clear h
    obtain ⟨rfl, hp⟩ := mq_p0_spec h0
    clear h0
    rfl
  · intro as ρ μ h
    obtain ⟨nw, sp, tl, tx, al⟩ := ρ
    obtain ⟨as0, rfl, h0⟩ := mq_pZ_spec h
    clear h
    obtain ⟨rfl, hp⟩ := mq_p0_spec h0
    clear h0
    intro hrg
    intro hbk
    have e0 : mq_l0 ([.inr (.inr (some (37, 0)))] : List mq_V) 1 = [some (.inr (.inr (some (37, 0))))] := rfl
    rw [e0]
    repeat' (first | refine And.intro ?_ ?_ | intro _)
    all_goals first | omega | rfl | exact trivial | (simp [mq_up] at * <;> omega)
  · intro as ρ μ h
    obtain ⟨nw, sp, tl, tx, al⟩ := ρ
    obtain ⟨as0, rfl, h0⟩ := mq_pZ_spec h
    clear h
    obtain ⟨rfl, hp⟩ := mq_p0_spec h0
    clear h0
    exact fun _ h => absurd h List.not_mem_nil
  · intro as ρ μ h
    obtain ⟨nw, sp, tl, tx, al⟩ := ρ
    obtain ⟨as0, rfl, h0⟩ := mq_pZ_spec h
    clear h
    obtain ⟨rfl, hp⟩ := mq_p0_spec h0
    clear h0
    intro hrg
    exact fun _ h => absurd h List.not_mem_nil
theorem mw0_errNot : mq_mlA cq_errNot 0 := ⟨kw_685, ⟨by decide +kernel, by decide +kernel⟩, by decide +kernel, kw_686, kw_687, kw_222, 37, by decide +kernel, fun as ρ μ h => by obtain ⟨nw, sp, tl, tx, al⟩ := ρ; obtain ⟨t, e, _⟩ := mq_pZ_spec h; exact ⟨0, t, e⟩⟩
def pq_postOf : List mq_E := [(0, false, .aload 1), (1, false, .invokeinterface 3 8), (4, false, .iload 2), (5, false, .iconst 3), (6, false, .invokestatic 0), (9, false, .istore 3), (10, false, .aload 0), (11, false, .invokeinterface 2 12), (14, false, .iload 2), (15, false, .iaload), (16, false, .ifCond .ne (Int.ofNat 30)), (19, false, .iconst 0), (20, false, .iload 3), (21, false, .aload 0), (22, false, .invokeinterface 2 13), (25, false, .fsub), (26, false, .f2i), (29, false, .ireturn), (30, false, .aload 0), (31, false, .invokeinterface 2 12), (34, false, .iload 2), (35, false, .iaload), (36, false, .iconst 1), (37, false, .if_icmp .ne (Int.ofNat 56)), (40, false, .aload 1), (41, false, .invokeinterface 3 0), (44, false, .iload 3), (45, false, .aload 0), (46, false, .invokeinterface 2 13), (49, false, .fadd), (50, false, .f2l), (53, false, .goto (Int.ofNat 57)), (56, false, .iload 3), (57, false, .ireturn)]
def cq_postOf : mq_C := ((yX2_postOf, cX2_postOf, 4, (some .int), { frames := 1, cells := 0, slots := 0, locals := 22 }), (3, 1, 0, 0), 0, (fun as ρ μ => match ρ with
  | (nw, sp, tl, tx, al) => mq_pZ as 37 fun as => mq_pR as 2 fun L as => mq_pI as fun c as => mq_p0 as (0 ≤ c ∧ c ≤ 15)),
  (fun as ρ μ r ρ' μ' => match as, ρ, ρ' with
  | [.inr (.inr (some (_, _))), .inr (.inr (some (_, L))), .inl c], (nw, sp, tl, tx, al), (nw', sp', tl', tx', al') => []
  | _, _, _ => []))
def kq_postOf : List mq_V → mq_R → mq_M → List mq_Cu := fun as ρ μ => match as, ρ with
  | [.inr (.inr (some (_, _))), .inr (.inr (some (_, L))), .inl c], (nw, sp, tl, tx, al) => []
  | _, _ => []
set_option maxHeartbeats 16000000 in
set_option maxRecDepth 100000 in
theorem vq_postOf (lc : Launch) (h_get_coaches : mq_Ct lc cq_get_coaches) : mq_Ct lc cq_postOf := by
  refine mq_method (lc := lc) (P := pq_postOf) (cl := [cq_get_coaches]) (T := ([(71, 3, 8), (43, 2, 12), (46, 2, 13), (88, 3, 0)], [], [], [(77, 0, 0)], [], [(83, true), (91, false)])) (fuel := 400) (cuts := kq_postOf) (by decide) rfl ⟨rfl, rfl⟩ (List.forall_mem_cons.mpr ⟨h_get_coaches, (fun _ h => absurd h List.not_mem_nil)⟩) ⟨(List.forall_mem_cons.mpr ⟨⟨_, rfl, by decide, kw_202⟩, (List.forall_mem_cons.mpr ⟨⟨_, rfl, by decide, kw_199⟩, (List.forall_mem_cons.mpr ⟨⟨_, rfl, by decide, kw_200⟩, (List.forall_mem_cons.mpr ⟨⟨_, rfl, by decide, kw_203⟩, (fun _ h => absurd h List.not_mem_nil)⟩)⟩)⟩)⟩), (fun _ h => absurd h List.not_mem_nil), (fun _ h => absurd h List.not_mem_nil), (List.forall_mem_cons.mpr ⟨mq_ml0 rfl mw0_get_coaches kw_204, (fun _ h => absurd h List.not_mem_nil)⟩), (fun _ h => absurd h List.not_mem_nil), (List.forall_mem_cons.mpr ⟨⟨kw_205, kw_82, kw_44, kw_83⟩, (List.forall_mem_cons.mpr ⟨⟨kw_206, kw_43, kw_44, kw_45⟩, (fun _ h => absurd h List.not_mem_nil)⟩)⟩)⟩ (by decide +kernel) ⟨_, _, rfl⟩ ?_ ?_ ?_ ?_
  · intro as ρ μ h
    obtain ⟨nw, sp, tl, tx, al⟩ := ρ
    obtain ⟨as0, rfl, h0⟩ := mq_pZ_spec h
    clear h
    obtain ⟨L, as1, rfl, h1⟩ := mq_pR_spec h0
    clear h0
    obtain ⟨c, as2, rfl, h2⟩ := mq_pI_spec h1
    clear h1
    obtain ⟨rfl, hp⟩ := mq_p0_spec h2
    clear h2
    obtain ⟨hp0, hp1⟩ := hp
    rfl
  · intro as ρ μ h
    obtain ⟨nw, sp, tl, tx, al⟩ := ρ
    obtain ⟨as0, rfl, h0⟩ := mq_pZ_spec h
    clear h
    obtain ⟨L, as1, rfl, h1⟩ := mq_pR_spec h0
    clear h0
    obtain ⟨c, as2, rfl, h2⟩ := mq_pI_spec h1
    clear h1
    obtain ⟨rfl, hp⟩ := mq_p0_spec h2
    clear h2
    obtain ⟨hp0, hp1⟩ := hp
    intro hrg
    obtain ⟨⟨ha2a, ha2b⟩, -⟩ := hrg
    intro hbk
    have e0 : mq_l0 ([.inr (.inr (some (37, 0))), .inr (.inr (some (2, L))), .inl c] : List mq_V) 4 = [some (.inr (.inr (some (37, 0)))), some (.inr (.inr (some (2, L)))), some (.inl c), none] := rfl
    rw [e0]
    repeat' (first | refine And.intro ?_ ?_ | intro _)
    all_goals first | omega | rfl | exact trivial | (simp [mq_up] at * <;> omega)
  · intro as ρ μ h
    obtain ⟨nw, sp, tl, tx, al⟩ := ρ
    obtain ⟨as0, rfl, h0⟩ := mq_pZ_spec h
    clear h
    obtain ⟨L, as1, rfl, h1⟩ := mq_pR_spec h0
    clear h0
    obtain ⟨c, as2, rfl, h2⟩ := mq_pI_spec h1
    clear h1
    obtain ⟨rfl, hp⟩ := mq_p0_spec h2
    clear h2
    obtain ⟨hp0, hp1⟩ := hp
    exact fun _ h => absurd h List.not_mem_nil
  · intro as ρ μ h
    obtain ⟨nw, sp, tl, tx, al⟩ := ρ
    obtain ⟨as0, rfl, h0⟩ := mq_pZ_spec h
    clear h
    obtain ⟨L, as1, rfl, h1⟩ := mq_pR_spec h0
    clear h0
    obtain ⟨c, as2, rfl, h2⟩ := mq_pI_spec h1
    clear h1
    obtain ⟨rfl, hp⟩ := mq_p0_spec h2
    clear h2
    obtain ⟨hp0, hp1⟩ := hp
    intro hrg
    obtain ⟨⟨ha2a, ha2b⟩, -⟩ := hrg
    exact fun _ h => absurd h List.not_mem_nil
theorem mw0_postOf : mq_mlA cq_postOf 0 := ⟨kw_243, ⟨by decide +kernel, by decide +kernel⟩, by decide +kernel, kw_244, kw_245, kw_222, 37, by decide +kernel, fun as ρ μ h => by obtain ⟨nw, sp, tl, tx, al⟩ := ρ; obtain ⟨t, e, _⟩ := mq_pZ_spec h; exact ⟨0, t, e⟩⟩
def pq_note : List mq_E := [(0, false, .aload 0), (1, false, .invokeinterface 2 2), (4, false, .iload 1), (5, false, .iconst 404), (8, false, .imul), (9, false, .iload 2), (10, false, .iadd), (11, false, .iload 3), (12, false, .iastore), (13, false, .aload 0), (14, false, .invokeinterface 2 3), (17, false, .iload 1), (18, false, .iconst 404), (21, false, .imul), (22, false, .iload 2), (23, false, .iadd), (24, false, .iload 3), (25, false, .iload 4), (27, false, .fsub), (28, false, .iastore), (29, false, .aload 0), (30, false, .invokeinterface 2 4), (33, false, .iload 1), (34, false, .iload 2), (35, false, .iastore), (36, false, .return_)]
def cq_note : mq_C := ((yX2_note, cX2_note, 5, none, { frames := 0, cells := 0, slots := 0, locals := 0 }), (5, 0, 0, 0), 1924145348608, (fun as ρ μ => match ρ with
  | (nw, sp, tl, tx, al) => mq_pZ as 37 fun as => mq_pI as fun t as => mq_pI as fun k as => mq_pI as fun a as => mq_pI as fun b as => mq_p0 as (0 ≤ t ∧ t ≤ 4 ∧ 0 ≤ k ∧ k ≤ 403)),
  (fun as ρ μ r ρ' μ' => match as, ρ, ρ' with
  | [.inr (.inr (some (_, _))), .inl t, .inl k, .inl a, .inl b], (nw, sp, tl, tx, al), (nw', sp', tl', tx', al') => []
  | _, _, _ => []))
def kq_note : List mq_V → mq_R → mq_M → List mq_Cu := fun as ρ μ => match as, ρ with
  | [.inr (.inr (some (_, _))), .inl t, .inl k, .inl a, .inl b], (nw, sp, tl, tx, al) => []
  | _, _ => []
set_option maxHeartbeats 16000000 in
set_option maxRecDepth 100000 in
theorem vq_note (lc : Launch)  : mq_Ct lc cq_note := by
  refine mq_method (lc := lc) (P := pq_note) (cl := []) (T := ([(9, 2, 2), (15, 2, 3), (18, 2, 4)], [], [], [], [], [])) (fuel := 400) (cuts := kq_note) (by decide) rfl ⟨rfl, rfl⟩ (fun _ h => absurd h List.not_mem_nil) ⟨(List.forall_mem_cons.mpr ⟨⟨_, rfl, by decide, kw_207⟩, (List.forall_mem_cons.mpr ⟨⟨_, rfl, by decide, kw_208⟩, (List.forall_mem_cons.mpr ⟨⟨_, rfl, by decide, kw_209⟩, (fun _ h => absurd h List.not_mem_nil)⟩)⟩)⟩), (fun _ h => absurd h List.not_mem_nil), (fun _ h => absurd h List.not_mem_nil), (fun _ h => absurd h List.not_mem_nil), (fun _ h => absurd h List.not_mem_nil), (fun _ h => absurd h List.not_mem_nil)⟩ (by decide +kernel) ⟨_, _, rfl⟩ ?_ ?_ ?_ ?_
  · intro as ρ μ h
    obtain ⟨nw, sp, tl, tx, al⟩ := ρ
    obtain ⟨as0, rfl, h0⟩ := mq_pZ_spec h
    clear h
    obtain ⟨t, as1, rfl, h1⟩ := mq_pI_spec h0
    clear h0
    obtain ⟨k, as2, rfl, h2⟩ := mq_pI_spec h1
    clear h1
    obtain ⟨a, as3, rfl, h3⟩ := mq_pI_spec h2
    clear h2
    obtain ⟨b, as4, rfl, h4⟩ := mq_pI_spec h3
    clear h3
    obtain ⟨rfl, hp⟩ := mq_p0_spec h4
    clear h4
    obtain ⟨hp0, hp1, hp2, hp3⟩ := hp
    rfl
  · intro as ρ μ h
    obtain ⟨nw, sp, tl, tx, al⟩ := ρ
    obtain ⟨as0, rfl, h0⟩ := mq_pZ_spec h
    clear h
    obtain ⟨t, as1, rfl, h1⟩ := mq_pI_spec h0
    clear h0
    obtain ⟨k, as2, rfl, h2⟩ := mq_pI_spec h1
    clear h1
    obtain ⟨a, as3, rfl, h3⟩ := mq_pI_spec h2
    clear h2
    obtain ⟨b, as4, rfl, h4⟩ := mq_pI_spec h3
    clear h3
    obtain ⟨rfl, hp⟩ := mq_p0_spec h4
    clear h4
    obtain ⟨hp0, hp1, hp2, hp3⟩ := hp
    intro hrg
    obtain ⟨⟨ha1a, ha1b⟩, ⟨ha2a, ha2b⟩, ⟨ha3a, ha3b⟩, ⟨ha4a, ha4b⟩, -⟩ := hrg
    intro hbk
    have e0 : mq_l0 ([.inr (.inr (some (37, 0))), .inl t, .inl k, .inl a, .inl b] : List mq_V) 5 = [some (.inr (.inr (some (37, 0)))), some (.inl t), some (.inl k), some (.inl a), some (.inl b)] := rfl
    rw [e0]
    repeat' (first | refine And.intro ?_ ?_ | intro _)
    all_goals first | omega | rfl | exact trivial | (simp [mq_up] at * <;> omega)
  · intro as ρ μ h
    obtain ⟨nw, sp, tl, tx, al⟩ := ρ
    obtain ⟨as0, rfl, h0⟩ := mq_pZ_spec h
    clear h
    obtain ⟨t, as1, rfl, h1⟩ := mq_pI_spec h0
    clear h0
    obtain ⟨k, as2, rfl, h2⟩ := mq_pI_spec h1
    clear h1
    obtain ⟨a, as3, rfl, h3⟩ := mq_pI_spec h2
    clear h2
    obtain ⟨b, as4, rfl, h4⟩ := mq_pI_spec h3
    clear h3
    obtain ⟨rfl, hp⟩ := mq_p0_spec h4
    clear h4
    obtain ⟨hp0, hp1, hp2, hp3⟩ := hp
    exact fun _ h => absurd h List.not_mem_nil
  · intro as ρ μ h
    obtain ⟨nw, sp, tl, tx, al⟩ := ρ
    obtain ⟨as0, rfl, h0⟩ := mq_pZ_spec h
    clear h
    obtain ⟨t, as1, rfl, h1⟩ := mq_pI_spec h0
    clear h0
    obtain ⟨k, as2, rfl, h2⟩ := mq_pI_spec h1
    clear h1
    obtain ⟨a, as3, rfl, h3⟩ := mq_pI_spec h2
    clear h2
    obtain ⟨b, as4, rfl, h4⟩ := mq_pI_spec h3
    clear h3
    obtain ⟨rfl, hp⟩ := mq_p0_spec h4
    clear h4
    obtain ⟨hp0, hp1, hp2, hp3⟩ := hp
    intro hrg
    obtain ⟨⟨ha1a, ha1b⟩, ⟨ha2a, ha2b⟩, ⟨ha3a, ha3b⟩, ⟨ha4a, ha4b⟩, -⟩ := hrg
    exact fun _ h => absurd h List.not_mem_nil
theorem mw0_note : mq_mlA cq_note 0 := ⟨kw_239, ⟨by decide +kernel, by decide +kernel⟩, by decide +kernel, kw_240, kw_241, kw_222, 37, by decide +kernel, fun as ρ μ h => by obtain ⟨nw, sp, tl, tx, al⟩ := ρ; obtain ⟨t, e, _⟩ := mq_pZ_spec h; exact ⟨0, t, e⟩⟩
def pq_couple : List mq_E := [(0, false, .iconst 0), (1, false, .istore 3), (2, false, .iconst 0), (3, false, .istore 4), (5, true, .iload 4), (7, false, .aload 1), (8, false, .invokeinterface 3 8), (11, false, .invokeinterface 6 3), (14, false, .if_icmp .ge (Int.ofNat 80)), (17, false, .aload 1), (18, false, .invokeinterface 3 8), (21, false, .iload 4), (23, false, .iconst 4), (24, false, .invokestatic 0), (27, false, .istore 5), (29, false, .aload 1), (30, false, .invokeinterface 3 8), (33, false, .iload 4), (35, false, .iconst 0), (36, false, .invokestatic 0), (39, false, .iload 2), (40, false, .if_icmp .ne (Int.ofNat 74)), (43, false, .iload 5), (45, false, .iconst 0), (46, false, .iconst 15), (48, false, .invokestatic 1), (51, false, .ifCond .eq (Int.ofNat 74)), (54, false, .aload 0), (55, false, .invokeinterface 2 14), (58, false, .iload 5), (60, false, .iload 4), (62, false, .iastore), (63, false, .aload 0), (64, false, .invokeinterface 2 5), (67, false, .iload 4), (69, false, .iconst (-1)), (70, false, .iastore), (71, false, .iinc 3 1), (74, false, .iinc 4 1), (77, false, .goto (Int.ofNat 5)), (80, false, .iload 3), (81, false, .ireturn)]
def cq_couple : mq_C := ((yX2_couple, cX2_couple, 6, (some .int), { frames := 1, cells := 0, slots := 0, locals := 22 }), (3, 1, 0, 0), 565148976676864, (fun as ρ μ => match ρ with
  | (nw, sp, tl, tx, al) => mq_pZ as 37 fun as => mq_pR as 2 fun L as => mq_pI as fun t as => mq_p0 as (True)),
  (fun as ρ μ r ρ' μ' => match as, ρ, ρ' with
  | [.inr (.inr (some (_, _))), .inr (.inr (some (_, L))), .inl t], (nw, sp, tl, tx, al), (nw', sp', tl', tx', al') => [0 ≤ r, r ≤ 16]
  | _, _, _ => []))
def kq_couple : List mq_V → mq_R → mq_M → List mq_Cu := fun as ρ μ => match as, ρ with
  | [.inr (.inr (some (_, _))), .inr (.inr (some (_, L))), .inl t], (nw, sp, tl, tx, al) => [(5, [true, true, true, true, true, false], fun N l st ρ' μ' cs => mq_tZ l 37 fun l => mq_tR l 2 fun L1 l => mq_tI l fun v2 l => mq_tI l fun v3 l => mq_tI l fun v4 l => mq_tN l fun l => mq_t0 l (st = [] ∧ ρ' = (nw, sp, tl, tx, al) ∧ cs = 0 ∧ L1 = L ∧ v2 = t ∧ 0 ≤ v3 ∧ v3 ≤ v4 ∧ v4 ≤ 16 ∧ 0 ≤ (16 - v4 : Int) ∧ (16 - v4 : Int) < (N : Int)))]
  | _, _ => []
set_option maxHeartbeats 16000000 in
set_option maxRecDepth 100000 in
theorem vq_couple (lc : Launch) (h_get_coaches : mq_Ct lc cq_get_coaches) (h_isAmong : mq_Ct lc cq_isAmong) : mq_Ct lc cq_couple := by
  refine mq_method (lc := lc) (P := pq_couple) (cl := [cq_get_coaches, cq_isAmong]) (T := ([(71, 3, 8), (103, 6, 3), (50, 2, 14), (21, 2, 5)], [], [], [(77, 0, 0), (67, 1, 2)], [], [])) (fuel := 400) (cuts := kq_couple) (by decide) rfl ⟨rfl, rfl⟩ (List.forall_mem_cons.mpr ⟨h_get_coaches, (List.forall_mem_cons.mpr ⟨h_isAmong, (fun _ h => absurd h List.not_mem_nil)⟩)⟩) ⟨(List.forall_mem_cons.mpr ⟨⟨_, rfl, by decide, kw_202⟩, (List.forall_mem_cons.mpr ⟨⟨_, rfl, by decide, kw_210⟩, (List.forall_mem_cons.mpr ⟨⟨_, rfl, by decide, kw_211⟩, (List.forall_mem_cons.mpr ⟨⟨_, rfl, by decide, kw_212⟩, (fun _ h => absurd h List.not_mem_nil)⟩)⟩)⟩)⟩), (fun _ h => absurd h List.not_mem_nil), (fun _ h => absurd h List.not_mem_nil), (List.forall_mem_cons.mpr ⟨mq_ml0 rfl mw0_get_coaches kw_204, (List.forall_mem_cons.mpr ⟨mq_ml2 rfl mw1_isAmong 14 rfl, (fun _ h => absurd h List.not_mem_nil)⟩)⟩), (fun _ h => absurd h List.not_mem_nil), (fun _ h => absurd h List.not_mem_nil)⟩ (by decide +kernel) ⟨_, _, rfl⟩ ?_ ?_ ?_ ?_
  · intro as ρ μ h
    obtain ⟨nw, sp, tl, tx, al⟩ := ρ
    obtain ⟨as0, rfl, h0⟩ := mq_pZ_spec h
    clear h
    obtain ⟨L, as1, rfl, h1⟩ := mq_pR_spec h0
    clear h0
    obtain ⟨t, as2, rfl, h2⟩ := mq_pI_spec h1
    clear h1
    obtain ⟨rfl, hp⟩ := mq_p0_spec h2
    clear h2
    rfl
  · intro as ρ μ h
    obtain ⟨nw, sp, tl, tx, al⟩ := ρ
    obtain ⟨as0, rfl, h0⟩ := mq_pZ_spec h
    clear h
    obtain ⟨L, as1, rfl, h1⟩ := mq_pR_spec h0
    clear h0
    obtain ⟨t, as2, rfl, h2⟩ := mq_pI_spec h1
    clear h1
    obtain ⟨rfl, hp⟩ := mq_p0_spec h2
    clear h2
    intro hrg
    obtain ⟨⟨ha2a, ha2b⟩, -⟩ := hrg
    intro hbk
    have e0 : mq_l0 ([.inr (.inr (some (37, 0))), .inr (.inr (some (2, L))), .inl t] : List mq_V) 6 = [some (.inr (.inr (some (37, 0)))), some (.inr (.inr (some (2, L)))), some (.inl t), none, none, none] := rfl
    rw [e0]
    repeat' (first | refine And.intro ?_ ?_ | intro _)
    all_goals first | omega | rfl | exact trivial | (simp [mq_up] at * <;> omega)
  · intro as ρ μ h
    obtain ⟨nw, sp, tl, tx, al⟩ := ρ
    obtain ⟨as0, rfl, h0⟩ := mq_pZ_spec h
    clear h
    obtain ⟨L, as1, rfl, h1⟩ := mq_pR_spec h0
    clear h0
    obtain ⟨t, as2, rfl, h2⟩ := mq_pI_spec h1
    clear h1
    obtain ⟨rfl, hp⟩ := mq_p0_spec h2
    clear h2
    refine List.forall_mem_cons.mpr ⟨?_, ?_⟩
    · intro l st ρ' μ' cs hJ
      obtain ⟨l0, rfl, hJ0⟩ := mq_tZ_spec hJ
      clear hJ
      obtain ⟨L1, l1, rfl, hJ1⟩ := mq_tR_spec hJ0
      clear hJ0
      obtain ⟨v2, l2, rfl, hJ2⟩ := mq_tI_spec hJ1
      clear hJ1
      obtain ⟨v3, l3, rfl, hJ3⟩ := mq_tI_spec hJ2
      clear hJ2
      obtain ⟨v4, l4, rfl, hJ4⟩ := mq_tI_spec hJ3
      clear hJ3
      obtain ⟨l5, rfl, hJ5⟩ := mq_tN_spec hJ4
      clear hJ4
      obtain ⟨rfl, hJz⟩ := mq_t0_spec hJ5
      clear hJ5
      obtain ⟨rfl, rfl, rfl, rfl, hc1, hc2, hc3, hc4, hm0, hm1⟩ := hJz
      omega
    exact fun _ h => absurd h List.not_mem_nil
  · intro as ρ μ h
    obtain ⟨nw, sp, tl, tx, al⟩ := ρ
    obtain ⟨as0, rfl, h0⟩ := mq_pZ_spec h
    clear h
    obtain ⟨L, as1, rfl, h1⟩ := mq_pR_spec h0
    clear h0
    obtain ⟨t, as2, rfl, h2⟩ := mq_pI_spec h1
    clear h1
    obtain ⟨rfl, hp⟩ := mq_p0_spec h2
    clear h2
    intro hrg
    obtain ⟨⟨ha2a, ha2b⟩, -⟩ := hrg
    refine List.forall_mem_cons.mpr ⟨?_, ?_⟩
    · intro N l st ρ' μ' cs hJ
      obtain ⟨l0, rfl, hJ0⟩ := mq_tZ_spec hJ
      clear hJ
      obtain ⟨L1, l1, rfl, hJ1⟩ := mq_tR_spec hJ0
      clear hJ0
      obtain ⟨v2, l2, rfl, hJ2⟩ := mq_tI_spec hJ1
      clear hJ1
      obtain ⟨v3, l3, rfl, hJ3⟩ := mq_tI_spec hJ2
      clear hJ2
      obtain ⟨v4, l4, rfl, hJ4⟩ := mq_tI_spec hJ3
      clear hJ3
      obtain ⟨l5, rfl, hJ5⟩ := mq_tN_spec hJ4
      clear hJ4
      obtain ⟨rfl, hJz⟩ := mq_t0_spec hJ5
      clear hJ5
      obtain ⟨rfl, rfl, rfl, rfl, hc1, hc2, hc3, hc4, hm0, hm1⟩ := hJz
      intro hbk hrl
      obtain ⟨⟨hl2a, hl2b⟩, ⟨hl3a, hl3b⟩, ⟨hl4a, hl4b⟩, -⟩ := hrl
      repeat' (first | refine And.intro ?_ ?_ | intro _)
      all_goals first | omega | rfl | exact trivial | (simp [mq_up] at * <;> omega)
    exact fun _ h => absurd h List.not_mem_nil
theorem mw0_couple : mq_mlA cq_couple 0 := ⟨kw_219, ⟨by decide +kernel, by decide +kernel⟩, by decide +kernel, kw_220, kw_221, kw_222, 37, by decide +kernel, fun as ρ μ h => by obtain ⟨nw, sp, tl, tx, al⟩ := ρ; obtain ⟨t, e, _⟩ := mq_pZ_spec h; exact ⟨0, t, e⟩⟩
def pq_lengthOfRow : List mq_E := [(0, false, .iconst 0), (1, false, .istore 3), (2, false, .iconst 0), (3, false, .istore 4), (5, true, .iload 4), (7, false, .iload 2), (8, false, .if_icmp .ge (Int.ofNat 38)), (11, false, .iload 4), (13, false, .iconst 16), (15, false, .if_icmp .ge (Int.ofNat 38)), (18, false, .iload 3), (19, false, .aload 1), (20, false, .aload 0), (21, false, .invokeinterface 2 14), (24, false, .iload 4), (26, false, .iaload), (27, false, .invokestatic 0), (30, false, .iadd), (31, false, .istore 3), (32, false, .iinc 4 1), (35, false, .goto (Int.ofNat 5)), (38, false, .iload 3), (39, false, .ireturn)]
def cq_lengthOfRow : mq_C := ((yX2_lengthOfRow, cX2_lengthOfRow, 5, (some .int), { frames := 2, cells := 0, slots := 0, locals := 43 }), (3, 1, 0, 0), 0, (fun as ρ μ => match ρ with
  | (nw, sp, tl, tx, al) => mq_pZ as 37 fun as => mq_pR as 2 fun L as => mq_pI as fun m as => mq_p0 as (True)),
  (fun as ρ μ r ρ' μ' => match as, ρ, ρ' with
  | [.inr (.inr (some (_, _))), .inr (.inr (some (_, L))), .inl m], (nw, sp, tl, tx, al), (nw', sp', tl', tx', al') => [0 ≤ r, r ≤ 480]
  | _, _, _ => []))
def kq_lengthOfRow : List mq_V → mq_R → mq_M → List mq_Cu := fun as ρ μ => match as, ρ with
  | [.inr (.inr (some (_, _))), .inr (.inr (some (_, L))), .inl m], (nw, sp, tl, tx, al) => [(5, [true, true, true, true, true], fun N l st ρ' μ' cs => mq_tZ l 37 fun l => mq_tR l 2 fun L1 l => mq_tI l fun v2 l => mq_tI l fun v3 l => mq_tI l fun v4 l => mq_t0 l (st = [] ∧ ρ' = (nw, sp, tl, tx, al) ∧ cs = 0 ∧ L1 = L ∧ v2 = m ∧ 0 ≤ v4 ∧ v4 ≤ 16 ∧ 0 ≤ v3 ∧ v3 ≤ 30 * v4 ∧ 0 ≤ (16 - v4 : Int) ∧ (16 - v4 : Int) < (N : Int)))]
  | _, _ => []
set_option maxHeartbeats 16000000 in
set_option maxRecDepth 100000 in
theorem vq_lengthOfRow (lc : Launch) (h_lengthOf : mq_Ct lc cq_lengthOf) : mq_Ct lc cq_lengthOfRow := by
  refine mq_method (lc := lc) (P := pq_lengthOfRow) (cl := [cq_lengthOf]) (T := ([(50, 2, 14)], [], [], [(138, 0, 0)], [], [])) (fuel := 400) (cuts := kq_lengthOfRow) (by decide) rfl ⟨rfl, rfl⟩ (List.forall_mem_cons.mpr ⟨h_lengthOf, (fun _ h => absurd h List.not_mem_nil)⟩) ⟨(List.forall_mem_cons.mpr ⟨⟨_, rfl, by decide, kw_211⟩, (fun _ h => absurd h List.not_mem_nil)⟩), (fun _ h => absurd h List.not_mem_nil), (fun _ h => absurd h List.not_mem_nil), (List.forall_mem_cons.mpr ⟨mq_ml0 rfl mw0_lengthOf kw_216, (fun _ h => absurd h List.not_mem_nil)⟩), (fun _ h => absurd h List.not_mem_nil), (fun _ h => absurd h List.not_mem_nil)⟩ (by decide +kernel) ⟨_, _, rfl⟩ ?_ ?_ ?_ ?_
  · intro as ρ μ h
    obtain ⟨nw, sp, tl, tx, al⟩ := ρ
    obtain ⟨as0, rfl, h0⟩ := mq_pZ_spec h
    clear h
    obtain ⟨L, as1, rfl, h1⟩ := mq_pR_spec h0
    clear h0
    obtain ⟨m, as2, rfl, h2⟩ := mq_pI_spec h1
    clear h1
    obtain ⟨rfl, hp⟩ := mq_p0_spec h2
    clear h2
    rfl
  · intro as ρ μ h
    obtain ⟨nw, sp, tl, tx, al⟩ := ρ
    obtain ⟨as0, rfl, h0⟩ := mq_pZ_spec h
    clear h
    obtain ⟨L, as1, rfl, h1⟩ := mq_pR_spec h0
    clear h0
    obtain ⟨m, as2, rfl, h2⟩ := mq_pI_spec h1
    clear h1
    obtain ⟨rfl, hp⟩ := mq_p0_spec h2
    clear h2
    intro hrg
    obtain ⟨⟨ha2a, ha2b⟩, -⟩ := hrg
    intro hbk
    have e0 : mq_l0 ([.inr (.inr (some (37, 0))), .inr (.inr (some (2, L))), .inl m] : List mq_V) 5 = [some (.inr (.inr (some (37, 0)))), some (.inr (.inr (some (2, L)))), some (.inl m), none, none] := rfl
    rw [e0]
    repeat' (first | refine And.intro ?_ ?_ | intro _)
    all_goals first | omega | rfl | exact trivial | (simp [mq_up] at * <;> omega)
  · intro as ρ μ h
    obtain ⟨nw, sp, tl, tx, al⟩ := ρ
    obtain ⟨as0, rfl, h0⟩ := mq_pZ_spec h
    clear h
    obtain ⟨L, as1, rfl, h1⟩ := mq_pR_spec h0
    clear h0
    obtain ⟨m, as2, rfl, h2⟩ := mq_pI_spec h1
    clear h1
    obtain ⟨rfl, hp⟩ := mq_p0_spec h2
    clear h2
    refine List.forall_mem_cons.mpr ⟨?_, ?_⟩
    · intro l st ρ' μ' cs hJ
      obtain ⟨l0, rfl, hJ0⟩ := mq_tZ_spec hJ
      clear hJ
      obtain ⟨L1, l1, rfl, hJ1⟩ := mq_tR_spec hJ0
      clear hJ0
      obtain ⟨v2, l2, rfl, hJ2⟩ := mq_tI_spec hJ1
      clear hJ1
      obtain ⟨v3, l3, rfl, hJ3⟩ := mq_tI_spec hJ2
      clear hJ2
      obtain ⟨v4, l4, rfl, hJ4⟩ := mq_tI_spec hJ3
      clear hJ3
      obtain ⟨rfl, hJz⟩ := mq_t0_spec hJ4
      clear hJ4
      obtain ⟨rfl, rfl, rfl, rfl, hc1, hc2, hc3, hc4, hc5, hm0, hm1⟩ := hJz
      omega
    exact fun _ h => absurd h List.not_mem_nil
  · intro as ρ μ h
    obtain ⟨nw, sp, tl, tx, al⟩ := ρ
    obtain ⟨as0, rfl, h0⟩ := mq_pZ_spec h
    clear h
    obtain ⟨L, as1, rfl, h1⟩ := mq_pR_spec h0
    clear h0
    obtain ⟨m, as2, rfl, h2⟩ := mq_pI_spec h1
    clear h1
    obtain ⟨rfl, hp⟩ := mq_p0_spec h2
    clear h2
    intro hrg
    obtain ⟨⟨ha2a, ha2b⟩, -⟩ := hrg
    refine List.forall_mem_cons.mpr ⟨?_, ?_⟩
    · intro N l st ρ' μ' cs hJ
      obtain ⟨l0, rfl, hJ0⟩ := mq_tZ_spec hJ
      clear hJ
      obtain ⟨L1, l1, rfl, hJ1⟩ := mq_tR_spec hJ0
      clear hJ0
      obtain ⟨v2, l2, rfl, hJ2⟩ := mq_tI_spec hJ1
      clear hJ1
      obtain ⟨v3, l3, rfl, hJ3⟩ := mq_tI_spec hJ2
      clear hJ2
      obtain ⟨v4, l4, rfl, hJ4⟩ := mq_tI_spec hJ3
      clear hJ3
      obtain ⟨rfl, hJz⟩ := mq_t0_spec hJ4
      clear hJ4
      obtain ⟨rfl, rfl, rfl, rfl, hc1, hc2, hc3, hc4, hc5, hm0, hm1⟩ := hJz
      intro hbk hrl
      obtain ⟨⟨hl2a, hl2b⟩, ⟨hl3a, hl3b⟩, ⟨hl4a, hl4b⟩, -⟩ := hrl
      repeat' (first | refine And.intro ?_ ?_ | intro _)
      all_goals first | omega | rfl | exact trivial | (simp [mq_up] at * <;> omega)
    exact fun _ h => absurd h List.not_mem_nil
theorem mw0_lengthOfRow : mq_mlA cq_lengthOfRow 0 := ⟨kw_224, ⟨by decide +kernel, by decide +kernel⟩, by decide +kernel, kw_225, kw_226, kw_222, 37, by decide +kernel, fun as ρ μ h => by obtain ⟨nw, sp, tl, tx, al⟩ := ρ; obtain ⟨t, e, _⟩ := mq_pZ_spec h; exact ⟨0, t, e⟩⟩
def pq_ticksKeepingAll : List mq_E := [(0, false, .aload 0), (1, false, .invokeinterface 2 0), (4, false, .invokeinterface 9 4), (7, false, .astore 2), (8, false, .aload 2), (9, false, .ifnonnull (Int.ofNat 14)), (12, false, .iconst 0), (13, false, .ireturn), (14, false, .aload 0), (15, false, .aload 2), (16, false, .iload 1), (17, false, .invokestatic 0), (20, false, .istore 3), (21, false, .aload 0), (22, false, .aload 2), (23, false, .iload 3), (24, false, .invokestatic 1), (27, false, .istore 4), (29, false, .iconst 0), (30, false, .istore 5), (32, true, .iload 5), (34, false, .iconst 404), (37, false, .if_icmp .ge (Int.ofNat 71)), (40, false, .iload 4), (42, false, .aload 2), (43, false, .invokeinterface 3 0), (46, false, .if_icmp .ge (Int.ofNat 71)), (49, false, .iload 4), (51, false, .aload 0), (52, false, .invokeinterface 2 0), (55, false, .iload 1), (56, false, .iload 4), (58, false, .iload 3), (59, false, .invokestatic 2), (62, false, .fadd), (63, false, .istore 4), (65, false, .iinc 5 1), (68, false, .goto (Int.ofNat 32)), (71, false, .iload 5), (73, false, .ireturn)]
def cq_ticksKeepingAll : mq_C := ((yX2_ticksKeepingAll, cX2_ticksKeepingAll, 6, (some .int), { frames := 3, cells := 0, slots := 0, locals := 67 }), (2, 1, 0, 0), 565148976676864, (fun as ρ μ => match ρ with
  | (nw, sp, tl, tx, al) => mq_pZ as 37 fun as => mq_pI as fun t as => mq_p0 as (True)),
  (fun as ρ μ r ρ' μ' => match as, ρ, ρ' with
  | [.inr (.inr (some (_, _))), .inl t], (nw, sp, tl, tx, al), (nw', sp', tl', tx', al') => [0 ≤ r, r ≤ 404]
  | _, _, _ => []))
def kq_ticksKeepingAll : List mq_V → mq_R → mq_M → List mq_Cu := fun as ρ μ => match as, ρ with
  | [.inr (.inr (some (_, _))), .inl t], (nw, sp, tl, tx, al) => [(32, [true, true, true, true, true, true], fun N l st ρ' μ' cs => mq_tZ l 37 fun l => mq_tI l fun v1 l => mq_tR l 2 fun L2 l => mq_tI l fun v3 l => mq_tI l fun v4 l => mq_tI l fun v5 l => mq_t0 l (st = [] ∧ ρ' = (nw, sp, tl, tx, al) ∧ cs = 0 ∧ v1 = t ∧ 0 ≤ v5 ∧ v5 ≤ 404 ∧ 0 ≤ (404 - v5 : Int) ∧ (404 - v5 : Int) < (N : Int)))]
  | _, _ => []
set_option maxHeartbeats 16000000 in
set_option maxRecDepth 100000 in
theorem vq_ticksKeepingAll (lc : Launch) (h_couple : mq_Ct lc cq_couple) (h_lengthOfRow : mq_Ct lc cq_lengthOfRow) (h_pulled : mq_Ct lc cq_pulled) : mq_Ct lc cq_ticksKeepingAll := by
  refine mq_method (lc := lc) (P := pq_ticksKeepingAll) (cl := [cq_couple, cq_lengthOfRow, cq_pulled]) (T := ([(53, 2, 0), (94, 9, 4), (88, 3, 0)], [], [], [(120, 0, 0), (124, 1, 0), (131, 2, 0)], [], [])) (fuel := 400) (cuts := kq_ticksKeepingAll) (by decide) rfl ⟨rfl, rfl⟩ (List.forall_mem_cons.mpr ⟨h_couple, (List.forall_mem_cons.mpr ⟨h_lengthOfRow, (List.forall_mem_cons.mpr ⟨h_pulled, (fun _ h => absurd h List.not_mem_nil)⟩)⟩)⟩) ⟨(List.forall_mem_cons.mpr ⟨⟨_, rfl, by decide, kw_217⟩, (List.forall_mem_cons.mpr ⟨⟨_, rfl, by decide, kw_218⟩, (List.forall_mem_cons.mpr ⟨⟨_, rfl, by decide, kw_203⟩, (fun _ h => absurd h List.not_mem_nil)⟩)⟩)⟩), (fun _ h => absurd h List.not_mem_nil), (fun _ h => absurd h List.not_mem_nil), (List.forall_mem_cons.mpr ⟨mq_ml0 rfl mw0_couple kw_223, (List.forall_mem_cons.mpr ⟨mq_ml0 rfl mw0_lengthOfRow kw_227, (List.forall_mem_cons.mpr ⟨mq_ml0 rfl mw0_pulled kw_231, (fun _ h => absurd h List.not_mem_nil)⟩)⟩)⟩), (fun _ h => absurd h List.not_mem_nil), (fun _ h => absurd h List.not_mem_nil)⟩ (by decide +kernel) ⟨_, _, rfl⟩ ?_ ?_ ?_ ?_
  · intro as ρ μ h
    obtain ⟨nw, sp, tl, tx, al⟩ := ρ
    obtain ⟨as0, rfl, h0⟩ := mq_pZ_spec h
    clear h
    obtain ⟨t, as1, rfl, h1⟩ := mq_pI_spec h0
    clear h0
    obtain ⟨rfl, hp⟩ := mq_p0_spec h1
    clear h1
    rfl
  · intro as ρ μ h
    obtain ⟨nw, sp, tl, tx, al⟩ := ρ
    obtain ⟨as0, rfl, h0⟩ := mq_pZ_spec h
    clear h
    obtain ⟨t, as1, rfl, h1⟩ := mq_pI_spec h0
    clear h0
    obtain ⟨rfl, hp⟩ := mq_p0_spec h1
    clear h1
    intro hrg
    obtain ⟨⟨ha1a, ha1b⟩, -⟩ := hrg
    intro hbk
    have e0 : mq_l0 ([.inr (.inr (some (37, 0))), .inl t] : List mq_V) 6 = [some (.inr (.inr (some (37, 0)))), some (.inl t), none, none, none, none] := rfl
    rw [e0]
    repeat' (first | refine And.intro ?_ ?_ | intro _)
    all_goals first | omega | rfl | exact trivial | (simp [mq_up] at * <;> omega)
  · intro as ρ μ h
    obtain ⟨nw, sp, tl, tx, al⟩ := ρ
    obtain ⟨as0, rfl, h0⟩ := mq_pZ_spec h
    clear h
    obtain ⟨t, as1, rfl, h1⟩ := mq_pI_spec h0
    clear h0
    obtain ⟨rfl, hp⟩ := mq_p0_spec h1
    clear h1
    refine List.forall_mem_cons.mpr ⟨?_, ?_⟩
    · intro l st ρ' μ' cs hJ
      obtain ⟨l0, rfl, hJ0⟩ := mq_tZ_spec hJ
      clear hJ
      obtain ⟨v1, l1, rfl, hJ1⟩ := mq_tI_spec hJ0
      clear hJ0
      obtain ⟨L2, l2, rfl, hJ2⟩ := mq_tR_spec hJ1
      clear hJ1
      obtain ⟨v3, l3, rfl, hJ3⟩ := mq_tI_spec hJ2
      clear hJ2
      obtain ⟨v4, l4, rfl, hJ4⟩ := mq_tI_spec hJ3
      clear hJ3
      obtain ⟨v5, l5, rfl, hJ5⟩ := mq_tI_spec hJ4
      clear hJ4
      obtain ⟨rfl, hJz⟩ := mq_t0_spec hJ5
      clear hJ5
      obtain ⟨rfl, rfl, rfl, hc0, hc1, hc2, hm0, hm1⟩ := hJz
      omega
    exact fun _ h => absurd h List.not_mem_nil
  · intro as ρ μ h
    obtain ⟨nw, sp, tl, tx, al⟩ := ρ
    obtain ⟨as0, rfl, h0⟩ := mq_pZ_spec h
    clear h
    obtain ⟨t, as1, rfl, h1⟩ := mq_pI_spec h0
    clear h0
    obtain ⟨rfl, hp⟩ := mq_p0_spec h1
    clear h1
    intro hrg
    obtain ⟨⟨ha1a, ha1b⟩, -⟩ := hrg
    refine List.forall_mem_cons.mpr ⟨?_, ?_⟩
    · intro N l st ρ' μ' cs hJ
      obtain ⟨l0, rfl, hJ0⟩ := mq_tZ_spec hJ
      clear hJ
      obtain ⟨v1, l1, rfl, hJ1⟩ := mq_tI_spec hJ0
      clear hJ0
      obtain ⟨L2, l2, rfl, hJ2⟩ := mq_tR_spec hJ1
      clear hJ1
      obtain ⟨v3, l3, rfl, hJ3⟩ := mq_tI_spec hJ2
      clear hJ2
      obtain ⟨v4, l4, rfl, hJ4⟩ := mq_tI_spec hJ3
      clear hJ3
      obtain ⟨v5, l5, rfl, hJ5⟩ := mq_tI_spec hJ4
      clear hJ4
      obtain ⟨rfl, hJz⟩ := mq_t0_spec hJ5
      clear hJ5
      obtain ⟨rfl, rfl, rfl, hc0, hc1, hc2, hm0, hm1⟩ := hJz
      intro hbk hrl
      obtain ⟨⟨hl1a, hl1b⟩, ⟨hl3a, hl3b⟩, ⟨hl4a, hl4b⟩, ⟨hl5a, hl5b⟩, -⟩ := hrl
      repeat' (first | refine And.intro ?_ ?_ | intro _)
      all_goals first | omega | rfl | exact trivial | (simp [mq_up] at * <;> omega)
    exact fun _ h => absurd h List.not_mem_nil
theorem mw0_ticksKeepingAll : mq_mlA cq_ticksKeepingAll 0 := ⟨kw_725, ⟨by decide +kernel, by decide +kernel⟩, by decide +kernel, kw_726, kw_727, kw_222, 37, by decide +kernel, fun as ρ μ h => by obtain ⟨nw, sp, tl, tx, al⟩ := ρ; obtain ⟨t, e, _⟩ := mq_pZ_spec h; exact ⟨0, t, e⟩⟩
def pq_runTrain : List mq_E := [(0, false, .aload 0), (1, false, .invokeinterface 2 0), (4, false, .invokeinterface 9 4), (7, false, .astore 2), (8, false, .aload 2), (9, false, .ifnull (Int.ofNat 23)), (12, false, .aload 2), (13, false, .invokeinterface 3 7), (16, false, .iload 1), (17, false, .invokestatic 0), (20, false, .ifCond .ne (Int.ofNat 24)), (23, false, .return_), (24, false, .aload 0), (25, false, .aload 2), (26, false, .iload 1), (27, false, .invokestatic 1), (30, false, .istore 3), (31, false, .aload 0), (32, false, .aload 2), (33, false, .iload 3), (34, false, .invokestatic 2), (37, false, .istore 4), (39, false, .iload 4), (41, false, .istore 5), (43, false, .aload 0), (44, false, .iload 1), (45, false, .iconst 0), (46, false, .iload 5), (48, false, .iload 4), (50, false, .invokestatic 3), (53, false, .iconst 1), (54, false, .istore 6), (56, true, .iload 6), (58, false, .iconst 404), (61, false, .if_icmp .ge (Int.ofNat 187)), (64, false, .iload 5), (66, false, .aload 2), (67, false, .invokeinterface 3 0), (70, false, .if_icmp .ge (Int.ofNat 187)), (73, false, .aload 0), (74, false, .invokeinterface 2 0), (77, false, .iload 1), (78, false, .iload 5), (80, false, .iload 3), (81, false, .invokestatic 4), (84, false, .istore 7), (86, false, .iload 5), (88, false, .iload 7), (90, false, .fadd), (91, false, .istore 5), (93, true, .iload 3), (94, false, .ifCond .le (Int.ofNat 170)), (97, false, .aload 0), (98, false, .aload 2), (99, false, .aload 0), (100, false, .invokeinterface 2 14), (103, false, .iload 3), (104, false, .iconst 1), (105, false, .isub), (106, false, .iaload), (107, false, .invokestatic 5), (110, false, .iload 5), (112, false, .if_icmp .gt (Int.ofNat 170)), (115, false, .iinc 3 (-1)), (118, false, .aload 0), (119, false, .invokeinterface 2 14), (122, false, .iload 3), (123, false, .iaload), (124, false, .istore 8), (126, false, .iload 4), (128, false, .aload 2), (129, false, .iload 8), (131, false, .invokestatic 6), (134, false, .fsub), (135, false, .istore 4), (137, false, .aload 0), (138, false, .invokeinterface 2 5), (141, false, .iload 8), (143, false, .iload 6), (145, false, .iastore), (146, false, .aload 0), (147, false, .invokeinterface 2 6), (150, false, .iload 8), (152, false, .iload 5), (154, false, .iload 4), (156, false, .fsub), (157, false, .iastore), (158, false, .aload 0), (159, false, .invokeinterface 2 7), (162, false, .iload 8), (164, false, .iload 7), (166, false, .iastore), (167, false, .goto (Int.ofNat 93)), (170, false, .aload 0), (171, false, .iload 1), (172, false, .iload 6), (174, false, .iload 5), (176, false, .iload 4), (178, false, .invokestatic 3), (181, false, .iinc 6 1), (184, false, .goto (Int.ofNat 56)), (187, false, .return_)]
def cq_runTrain : mq_C := ((yX2_runTrain, cX2_runTrain, 9, none, { frames := 3, cells := 0, slots := 0, locals := 67 }), (2, 0, 0, 0), 580267261558784, (fun as ρ μ => match ρ with
  | (nw, sp, tl, tx, al) => mq_pZ as 37 fun as => mq_pI as fun t as => mq_p0 as (True)),
  (fun as ρ μ r ρ' μ' => match as, ρ, ρ' with
  | [.inr (.inr (some (_, _))), .inl t], (nw, sp, tl, tx, al), (nw', sp', tl', tx', al') => []
  | _, _, _ => []))
def kq_runTrain : List mq_V → mq_R → mq_M → List mq_Cu := fun as ρ μ => match as, ρ with
  | [.inr (.inr (some (_, _))), .inl t], (nw, sp, tl, tx, al) => [(56, [true, true, true, true, true, true, true, false, false], fun N l st ρ' μ' cs => mq_tZ l 37 fun l => mq_tI l fun v1 l => mq_tR l 2 fun L2 l => mq_tI l fun v3 l => mq_tI l fun v4 l => mq_tI l fun v5 l => mq_tI l fun v6 l => mq_tN l fun l => mq_tN l fun l => mq_t0 l (st = [] ∧ ρ' = (nw, sp, tl, tx, al) ∧ cs = 0 ∧ v1 = t ∧ 0 ≤ t ∧ t ≤ 4 ∧ 1 ≤ v6 ∧ v6 ≤ 404 ∧ 0 ≤ v3 ∧ v3 ≤ 16 ∧ 0 ≤ (100 * (404 - v6) : Int) ∧ (100 * (404 - v6) : Int) < (N : Int))),
    (93, [true, true, true, true, true, true, true, true, false], fun N l st ρ' μ' cs => mq_tZ l 37 fun l => mq_tI l fun v1 l => mq_tR l 2 fun L2 l => mq_tI l fun v3 l => mq_tI l fun v4 l => mq_tI l fun v5 l => mq_tI l fun v6 l => mq_tI l fun v7 l => mq_tN l fun l => mq_t0 l (st = [] ∧ ρ' = (nw, sp, tl, tx, al) ∧ cs = 0 ∧ v1 = t ∧ 0 ≤ t ∧ t ≤ 4 ∧ 1 ≤ v6 ∧ v6 ≤ 403 ∧ 0 ≤ v3 ∧ v3 ≤ 16 ∧ 1 ≤ v7 ∧ v7 ≤ 400 ∧ 0 ≤ (100 * (404 - v6) - 20 + v3 : Int) ∧ (100 * (404 - v6) - 20 + v3 : Int) < (N : Int)))]
  | _, _ => []
set_option maxHeartbeats 16000000 in
set_option maxRecDepth 100000 in
theorem vq_runTrain (lc : Launch) (h_has_trains : mq_Ct lc cq_has_trains) (h_couple : mq_Ct lc cq_couple) (h_lengthOfRow : mq_Ct lc cq_lengthOfRow) (h_note : mq_Ct lc cq_note) (h_pulled : mq_Ct lc cq_pulled) (h_postOf : mq_Ct lc cq_postOf) (h_lengthOf : mq_Ct lc cq_lengthOf) : mq_Ct lc cq_runTrain := by
  refine mq_method (lc := lc) (P := pq_runTrain) (cl := [cq_has_trains, cq_couple, cq_lengthOfRow, cq_note, cq_pulled, cq_postOf, cq_lengthOf]) (T := ([(53, 2, 0), (94, 9, 4), (100, 3, 7), (88, 3, 0), (50, 2, 14), (21, 2, 5), (24, 2, 6), (27, 2, 7)], [], [], [(116, 0, 0), (120, 1, 0), (124, 2, 0), (127, 3, 0), (131, 4, 0), (135, 5, 0), (138, 6, 0)], [], [])) (fuel := 400) (cuts := kq_runTrain) (by decide) rfl ⟨rfl, rfl⟩ (List.forall_mem_cons.mpr ⟨h_has_trains, (List.forall_mem_cons.mpr ⟨h_couple, (List.forall_mem_cons.mpr ⟨h_lengthOfRow, (List.forall_mem_cons.mpr ⟨h_note, (List.forall_mem_cons.mpr ⟨h_pulled, (List.forall_mem_cons.mpr ⟨h_postOf, (List.forall_mem_cons.mpr ⟨h_lengthOf, (fun _ h => absurd h List.not_mem_nil)⟩)⟩)⟩)⟩)⟩)⟩)⟩) ⟨(List.forall_mem_cons.mpr ⟨⟨_, rfl, by decide, kw_217⟩, (List.forall_mem_cons.mpr ⟨⟨_, rfl, by decide, kw_218⟩, (List.forall_mem_cons.mpr ⟨⟨_, rfl, by decide, kw_232⟩, (List.forall_mem_cons.mpr ⟨⟨_, rfl, by decide, kw_203⟩, (List.forall_mem_cons.mpr ⟨⟨_, rfl, by decide, kw_211⟩, (List.forall_mem_cons.mpr ⟨⟨_, rfl, by decide, kw_212⟩, (List.forall_mem_cons.mpr ⟨⟨_, rfl, by decide, kw_233⟩, (List.forall_mem_cons.mpr ⟨⟨_, rfl, by decide, kw_234⟩, (fun _ h => absurd h List.not_mem_nil)⟩)⟩)⟩)⟩)⟩)⟩)⟩)⟩), (fun _ h => absurd h List.not_mem_nil), (fun _ h => absurd h List.not_mem_nil), (List.forall_mem_cons.mpr ⟨mq_ml0 rfl mw0_has_trains kw_238, (List.forall_mem_cons.mpr ⟨mq_ml0 rfl mw0_couple kw_223, (List.forall_mem_cons.mpr ⟨mq_ml0 rfl mw0_lengthOfRow kw_227, (List.forall_mem_cons.mpr ⟨mq_ml0 rfl mw0_note kw_242, (List.forall_mem_cons.mpr ⟨mq_ml0 rfl mw0_pulled kw_231, (List.forall_mem_cons.mpr ⟨mq_ml0 rfl mw0_postOf kw_246, (List.forall_mem_cons.mpr ⟨mq_ml0 rfl mw0_lengthOf kw_216, (fun _ h => absurd h List.not_mem_nil)⟩)⟩)⟩)⟩)⟩)⟩)⟩), (fun _ h => absurd h List.not_mem_nil), (fun _ h => absurd h List.not_mem_nil)⟩ (by decide +kernel) ⟨_, _, rfl⟩ ?_ ?_ ?_ ?_
  · intro as ρ μ h
    obtain ⟨nw, sp, tl, tx, al⟩ := ρ
    obtain ⟨as0, rfl, h0⟩ := mq_pZ_spec h
    clear h
    obtain ⟨t, as1, rfl, h1⟩ := mq_pI_spec h0
    clear h0
    obtain ⟨rfl, hp⟩ := mq_p0_spec h1
    clear h1
    rfl
  · intro as ρ μ h
    obtain ⟨nw, sp, tl, tx, al⟩ := ρ
    obtain ⟨as0, rfl, h0⟩ := mq_pZ_spec h
    clear h
    obtain ⟨t, as1, rfl, h1⟩ := mq_pI_spec h0
    clear h0
    obtain ⟨rfl, hp⟩ := mq_p0_spec h1
    clear h1
    intro hrg
    obtain ⟨⟨ha1a, ha1b⟩, -⟩ := hrg
    intro hbk
    have e0 : mq_l0 ([.inr (.inr (some (37, 0))), .inl t] : List mq_V) 9 = [some (.inr (.inr (some (37, 0)))), some (.inl t), none, none, none, none, none, none, none] := rfl
    rw [e0]
    repeat' (first | refine And.intro ?_ ?_ | intro _)
    all_goals first | omega | rfl | exact trivial | (simp [mq_up] at * <;> omega)
  · intro as ρ μ h
    obtain ⟨nw, sp, tl, tx, al⟩ := ρ
    obtain ⟨as0, rfl, h0⟩ := mq_pZ_spec h
    clear h
    obtain ⟨t, as1, rfl, h1⟩ := mq_pI_spec h0
    clear h0
    obtain ⟨rfl, hp⟩ := mq_p0_spec h1
    clear h1
    refine List.forall_mem_cons.mpr ⟨?_, ?_⟩
    · intro l st ρ' μ' cs hJ
      obtain ⟨l0, rfl, hJ0⟩ := mq_tZ_spec hJ
      clear hJ
      obtain ⟨v1, l1, rfl, hJ1⟩ := mq_tI_spec hJ0
      clear hJ0
      obtain ⟨L2, l2, rfl, hJ2⟩ := mq_tR_spec hJ1
      clear hJ1
      obtain ⟨v3, l3, rfl, hJ3⟩ := mq_tI_spec hJ2
      clear hJ2
      obtain ⟨v4, l4, rfl, hJ4⟩ := mq_tI_spec hJ3
      clear hJ3
      obtain ⟨v5, l5, rfl, hJ5⟩ := mq_tI_spec hJ4
      clear hJ4
      obtain ⟨v6, l6, rfl, hJ6⟩ := mq_tI_spec hJ5
      clear hJ5
      obtain ⟨l7, rfl, hJ7⟩ := mq_tN_spec hJ6
      clear hJ6
      obtain ⟨l8, rfl, hJ8⟩ := mq_tN_spec hJ7
      clear hJ7
      obtain ⟨rfl, hJz⟩ := mq_t0_spec hJ8
      clear hJ8
      obtain ⟨rfl, rfl, rfl, hc0, hc1, hc2, hc3, hc4, hc5, hc6, hm0, hm1⟩ := hJz
      omega
    refine List.forall_mem_cons.mpr ⟨?_, ?_⟩
    · intro l st ρ' μ' cs hJ
      obtain ⟨l0, rfl, hJ0⟩ := mq_tZ_spec hJ
      clear hJ
      obtain ⟨v1, l1, rfl, hJ1⟩ := mq_tI_spec hJ0
      clear hJ0
      obtain ⟨L2, l2, rfl, hJ2⟩ := mq_tR_spec hJ1
      clear hJ1
      obtain ⟨v3, l3, rfl, hJ3⟩ := mq_tI_spec hJ2
      clear hJ2
      obtain ⟨v4, l4, rfl, hJ4⟩ := mq_tI_spec hJ3
      clear hJ3
      obtain ⟨v5, l5, rfl, hJ5⟩ := mq_tI_spec hJ4
      clear hJ4
      obtain ⟨v6, l6, rfl, hJ6⟩ := mq_tI_spec hJ5
      clear hJ5
      obtain ⟨v7, l7, rfl, hJ7⟩ := mq_tI_spec hJ6
      clear hJ6
      obtain ⟨l8, rfl, hJ8⟩ := mq_tN_spec hJ7
      clear hJ7
      obtain ⟨rfl, hJz⟩ := mq_t0_spec hJ8
      clear hJ8
      obtain ⟨rfl, rfl, rfl, hc0, hc1, hc2, hc3, hc4, hc5, hc6, hc7, hc8, hm0, hm1⟩ := hJz
      omega
    exact fun _ h => absurd h List.not_mem_nil
  · intro as ρ μ h
    obtain ⟨nw, sp, tl, tx, al⟩ := ρ
    obtain ⟨as0, rfl, h0⟩ := mq_pZ_spec h
    clear h
    obtain ⟨t, as1, rfl, h1⟩ := mq_pI_spec h0
    clear h0
    obtain ⟨rfl, hp⟩ := mq_p0_spec h1
    clear h1
    intro hrg
    obtain ⟨⟨ha1a, ha1b⟩, -⟩ := hrg
    refine List.forall_mem_cons.mpr ⟨?_, ?_⟩
    · intro N l st ρ' μ' cs hJ
      obtain ⟨l0, rfl, hJ0⟩ := mq_tZ_spec hJ
      clear hJ
      obtain ⟨v1, l1, rfl, hJ1⟩ := mq_tI_spec hJ0
      clear hJ0
      obtain ⟨L2, l2, rfl, hJ2⟩ := mq_tR_spec hJ1
      clear hJ1
      obtain ⟨v3, l3, rfl, hJ3⟩ := mq_tI_spec hJ2
      clear hJ2
      obtain ⟨v4, l4, rfl, hJ4⟩ := mq_tI_spec hJ3
      clear hJ3
      obtain ⟨v5, l5, rfl, hJ5⟩ := mq_tI_spec hJ4
      clear hJ4
      obtain ⟨v6, l6, rfl, hJ6⟩ := mq_tI_spec hJ5
      clear hJ5
      obtain ⟨l7, rfl, hJ7⟩ := mq_tN_spec hJ6
      clear hJ6
      obtain ⟨l8, rfl, hJ8⟩ := mq_tN_spec hJ7
      clear hJ7
      obtain ⟨rfl, hJz⟩ := mq_t0_spec hJ8
      clear hJ8
      obtain ⟨rfl, rfl, rfl, hc0, hc1, hc2, hc3, hc4, hc5, hc6, hm0, hm1⟩ := hJz
      intro hbk hrl
      obtain ⟨⟨hl1a, hl1b⟩, ⟨hl3a, hl3b⟩, ⟨hl4a, hl4b⟩, ⟨hl5a, hl5b⟩, ⟨hl6a, hl6b⟩, -⟩ := hrl
      repeat' (first | refine And.intro ?_ ?_ | intro _)
      all_goals first | omega | rfl | exact trivial | (simp [mq_up] at * <;> omega)
    refine List.forall_mem_cons.mpr ⟨?_, ?_⟩
    · intro N l st ρ' μ' cs hJ
      obtain ⟨l0, rfl, hJ0⟩ := mq_tZ_spec hJ
      clear hJ
      obtain ⟨v1, l1, rfl, hJ1⟩ := mq_tI_spec hJ0
      clear hJ0
      obtain ⟨L2, l2, rfl, hJ2⟩ := mq_tR_spec hJ1
      clear hJ1
      obtain ⟨v3, l3, rfl, hJ3⟩ := mq_tI_spec hJ2
      clear hJ2
      obtain ⟨v4, l4, rfl, hJ4⟩ := mq_tI_spec hJ3
      clear hJ3
      obtain ⟨v5, l5, rfl, hJ5⟩ := mq_tI_spec hJ4
      clear hJ4
      obtain ⟨v6, l6, rfl, hJ6⟩ := mq_tI_spec hJ5
      clear hJ5
      obtain ⟨v7, l7, rfl, hJ7⟩ := mq_tI_spec hJ6
      clear hJ6
      obtain ⟨l8, rfl, hJ8⟩ := mq_tN_spec hJ7
      clear hJ7
      obtain ⟨rfl, hJz⟩ := mq_t0_spec hJ8
      clear hJ8
      obtain ⟨rfl, rfl, rfl, hc0, hc1, hc2, hc3, hc4, hc5, hc6, hc7, hc8, hm0, hm1⟩ := hJz
      intro hbk hrl
      obtain ⟨⟨hl1a, hl1b⟩, ⟨hl3a, hl3b⟩, ⟨hl4a, hl4b⟩, ⟨hl5a, hl5b⟩, ⟨hl6a, hl6b⟩, ⟨hl7a, hl7b⟩, -⟩ := hrl
      repeat' (first | refine And.intro ?_ ?_ | intro _)
      all_goals first | omega | rfl | exact trivial | (simp [mq_up] at * <;> omega)
    exact fun _ h => absurd h List.not_mem_nil
theorem mw0_runTrain : mq_mlA cq_runTrain 0 := ⟨kw_270, ⟨by decide +kernel, by decide +kernel⟩, by decide +kernel, kw_271, kw_272, kw_222, 37, by decide +kernel, fun as ρ μ h => by obtain ⟨nw, sp, tl, tx, al⟩ := ρ; obtain ⟨t, e, _⟩ := mq_pZ_spec h; exact ⟨0, t, e⟩⟩
def pq_brakeStep : List mq_E := [(0, false, .aload 0), (1, false, .invokeinterface 2 1), (4, false, .aload 1), (5, false, .invokeinterface 3 8), (8, false, .iload 2), (9, false, .iconst 1), (10, false, .invokestatic 0), (13, false, .aload 1), (14, false, .invokeinterface 3 8), (17, false, .iload 2), (18, false, .iconst 2), (19, false, .invokestatic 0), (22, false, .iload 3), (23, false, .iload 4), (25, false, .invokestatic 1), (28, false, .istore 5), (30, false, .iload 5), (32, false, .iconst (-1)), (33, false, .if_icmp .ne (Int.ofNat 39)), (36, false, .iconst 3), (37, false, .istore 5), (39, false, .aload 0), (40, false, .invokeinterface 2 12), (43, false, .iload 2), (44, false, .iaload), (45, false, .iconst 2), (46, false, .if_icmp .ne (Int.ofNat 60)), (49, false, .iconst 0), (50, false, .iload 5), (52, false, .iconst 1), (53, false, .isub), (54, false, .f2i), (57, false, .goto (Int.ofNat 62)), (60, false, .iload 5), (62, false, .ireturn)]
def cq_brakeStep : mq_C := ((yX2_brakeStep, cX2_brakeStep, 6, (some .int), { frames := 2, cells := 0, slots := 0, locals := 47 }), (5, 1, 0, 0), 0, (fun as ρ μ => match ρ with
  | (nw, sp, tl, tx, al) => mq_pZ as 37 fun as => mq_pR as 2 fun L as => mq_pI as fun c as => mq_pI as fun y as => mq_pI as fun v as => mq_p0 as (0 ≤ c ∧ c ≤ 15)),
  (fun as ρ μ r ρ' μ' => match as, ρ, ρ' with
  | [.inr (.inr (some (_, _))), .inr (.inr (some (_, L))), .inl c, .inl y, .inl v], (nw, sp, tl, tx, al), (nw', sp', tl', tx', al') => []
  | _, _, _ => []))
def kq_brakeStep : List mq_V → mq_R → mq_M → List mq_Cu := fun as ρ μ => match as, ρ with
  | [.inr (.inr (some (_, _))), .inr (.inr (some (_, L))), .inl c, .inl y, .inl v], (nw, sp, tl, tx, al) => []
  | _, _ => []
set_option maxHeartbeats 16000000 in
set_option maxRecDepth 100000 in
theorem vq_brakeStep (lc : Launch) (h_get_coaches : mq_Ct lc cq_get_coaches) (h_firstStep : mq_Ct lc cq_firstStep) : mq_Ct lc cq_brakeStep := by
  refine mq_method (lc := lc) (P := pq_brakeStep) (cl := [cq_get_coaches, cq_firstStep]) (T := ([(57, 2, 1), (71, 3, 8), (43, 2, 12)], [], [], [(77, 0, 0), (153, 1, 0)], [], [(83, true)])) (fuel := 400) (cuts := kq_brakeStep) (by decide) rfl ⟨rfl, rfl⟩ (List.forall_mem_cons.mpr ⟨h_get_coaches, (List.forall_mem_cons.mpr ⟨h_firstStep, (fun _ h => absurd h List.not_mem_nil)⟩)⟩) ⟨(List.forall_mem_cons.mpr ⟨⟨_, rfl, by decide, kw_247⟩, (List.forall_mem_cons.mpr ⟨⟨_, rfl, by decide, kw_202⟩, (List.forall_mem_cons.mpr ⟨⟨_, rfl, by decide, kw_199⟩, (fun _ h => absurd h List.not_mem_nil)⟩)⟩)⟩), (fun _ h => absurd h List.not_mem_nil), (fun _ h => absurd h List.not_mem_nil), (List.forall_mem_cons.mpr ⟨mq_ml0 rfl mw0_get_coaches kw_204, (List.forall_mem_cons.mpr ⟨mq_ml0 rfl mw0_firstStep kw_248, (fun _ h => absurd h List.not_mem_nil)⟩)⟩), (fun _ h => absurd h List.not_mem_nil), (List.forall_mem_cons.mpr ⟨⟨kw_205, kw_82, kw_44, kw_83⟩, (fun _ h => absurd h List.not_mem_nil)⟩)⟩ (by decide +kernel) ⟨_, _, rfl⟩ ?_ ?_ ?_ ?_
  · intro as ρ μ h
    obtain ⟨nw, sp, tl, tx, al⟩ := ρ
    obtain ⟨as0, rfl, h0⟩ := mq_pZ_spec h
    clear h
    obtain ⟨L, as1, rfl, h1⟩ := mq_pR_spec h0
    clear h0
    obtain ⟨c, as2, rfl, h2⟩ := mq_pI_spec h1
    clear h1
    obtain ⟨y, as3, rfl, h3⟩ := mq_pI_spec h2
    clear h2
    obtain ⟨v, as4, rfl, h4⟩ := mq_pI_spec h3
    clear h3
    obtain ⟨rfl, hp⟩ := mq_p0_spec h4
    clear h4
    obtain ⟨hp0, hp1⟩ := hp
    rfl
  · intro as ρ μ h
    obtain ⟨nw, sp, tl, tx, al⟩ := ρ
    obtain ⟨as0, rfl, h0⟩ := mq_pZ_spec h
    clear h
    obtain ⟨L, as1, rfl, h1⟩ := mq_pR_spec h0
    clear h0
    obtain ⟨c, as2, rfl, h2⟩ := mq_pI_spec h1
    clear h1
    obtain ⟨y, as3, rfl, h3⟩ := mq_pI_spec h2
    clear h2
    obtain ⟨v, as4, rfl, h4⟩ := mq_pI_spec h3
    clear h3
    obtain ⟨rfl, hp⟩ := mq_p0_spec h4
    clear h4
    obtain ⟨hp0, hp1⟩ := hp
    intro hrg
    obtain ⟨⟨ha2a, ha2b⟩, ⟨ha3a, ha3b⟩, ⟨ha4a, ha4b⟩, -⟩ := hrg
    intro hbk
    have e0 : mq_l0 ([.inr (.inr (some (37, 0))), .inr (.inr (some (2, L))), .inl c, .inl y, .inl v] : List mq_V) 6 = [some (.inr (.inr (some (37, 0)))), some (.inr (.inr (some (2, L)))), some (.inl c), some (.inl y), some (.inl v), none] := rfl
    rw [e0]
    repeat' (first | refine And.intro ?_ ?_ | intro _)
    all_goals first | omega | rfl | exact trivial | (simp [mq_up] at * <;> omega)
  · intro as ρ μ h
    obtain ⟨nw, sp, tl, tx, al⟩ := ρ
    obtain ⟨as0, rfl, h0⟩ := mq_pZ_spec h
    clear h
    obtain ⟨L, as1, rfl, h1⟩ := mq_pR_spec h0
    clear h0
    obtain ⟨c, as2, rfl, h2⟩ := mq_pI_spec h1
    clear h1
    obtain ⟨y, as3, rfl, h3⟩ := mq_pI_spec h2
    clear h2
    obtain ⟨v, as4, rfl, h4⟩ := mq_pI_spec h3
    clear h3
    obtain ⟨rfl, hp⟩ := mq_p0_spec h4
    clear h4
    obtain ⟨hp0, hp1⟩ := hp
    exact fun _ h => absurd h List.not_mem_nil
  · intro as ρ μ h
    obtain ⟨nw, sp, tl, tx, al⟩ := ρ
    obtain ⟨as0, rfl, h0⟩ := mq_pZ_spec h
    clear h
    obtain ⟨L, as1, rfl, h1⟩ := mq_pR_spec h0
    clear h0
    obtain ⟨c, as2, rfl, h2⟩ := mq_pI_spec h1
    clear h1
    obtain ⟨y, as3, rfl, h3⟩ := mq_pI_spec h2
    clear h2
    obtain ⟨v, as4, rfl, h4⟩ := mq_pI_spec h3
    clear h3
    obtain ⟨rfl, hp⟩ := mq_p0_spec h4
    clear h4
    obtain ⟨hp0, hp1⟩ := hp
    intro hrg
    obtain ⟨⟨ha2a, ha2b⟩, ⟨ha3a, ha3b⟩, ⟨ha4a, ha4b⟩, -⟩ := hrg
    exact fun _ h => absurd h List.not_mem_nil
theorem mw0_brakeStep : mq_mlA cq_brakeStep 0 := ⟨kw_253, ⟨by decide +kernel, by decide +kernel⟩, by decide +kernel, kw_254, kw_255, kw_222, 37, by decide +kernel, fun as ρ μ h => by obtain ⟨nw, sp, tl, tx, al⟩ := ρ; obtain ⟨t, e, _⟩ := mq_pZ_spec h; exact ⟨0, t, e⟩⟩
def pq_runCoach : List mq_E := [(0, false, .aload 0), (1, false, .invokeinterface 2 0), (4, false, .invokeinterface 9 4), (7, false, .astore 2), (8, false, .aload 2), (9, false, .ifnull (Int.ofNat 23)), (12, false, .aload 2), (13, false, .invokeinterface 3 8), (16, false, .iload 1), (17, false, .invokestatic 0), (20, false, .ifCond .ne (Int.ofNat 24)), (23, false, .return_), (24, false, .aload 0), (25, false, .invokeinterface 2 10), (28, false, .iload 1), (29, false, .iconst 0), (30, false, .bastore), (31, false, .aload 0), (32, false, .invokeinterface 2 11), (35, false, .iload 1), (36, false, .iconst 0), (37, false, .bastore), (38, false, .aload 0), (39, false, .invokeinterface 2 9), (42, false, .iload 1), (43, false, .iconst 0), (44, false, .iastore), (45, false, .aload 0), (46, false, .invokeinterface 2 5), (49, false, .iload 1), (50, false, .iaload), (51, false, .iconst (-1)), (52, false, .if_icmp .ne (Int.ofNat 56)), (55, false, .return_), (56, false, .aload 2), (57, false, .invokeinterface 3 8), (60, false, .iload 1), (61, false, .iconst 1), (62, false, .invokestatic 1), (65, false, .istore 3), (66, false, .aload 0), (67, false, .invokeinterface 2 6), (70, false, .iload 1), (71, false, .iaload), (72, false, .istore 4), (74, false, .aload 0), (75, false, .invokeinterface 2 7), (78, false, .iload 1), (79, false, .iaload), (80, false, .istore 5), (82, false, .iconst 0), (83, false, .istore 6), (85, false, .aload 0), (86, false, .invokeinterface 2 8), (89, false, .iload 1), (90, false, .iconst 404), (93, false, .imul), (94, false, .iload 4), (96, false, .iastore), (97, true, .iload 6), (99, false, .iconst 403), (102, false, .if_icmp .ge (Int.ofNat 171)), (105, false, .iload 5), (107, false, .ifCond .le (Int.ofNat 171)), (110, false, .iload 4), (112, false, .aload 2), (113, false, .invokeinterface 3 0), (116, false, .if_icmp .gt (Int.ofNat 171)), (119, false, .aload 0), (120, false, .invokeinterface 2 0), (123, false, .iload 3), (124, false, .iload 4), (126, false, .iload 5), (128, false, .aload 0), (129, false, .aload 2), (130, false, .iload 1), (131, false, .iload 4), (133, false, .iload 5), (135, false, .invokestatic 2), (138, false, .invokestatic 3), (141, false, .istore 5), (143, false, .iload 4), (145, false, .iload 5), (147, false, .fadd), (148, false, .istore 4), (150, false, .iinc 6 1), (153, false, .aload 0), (154, false, .invokeinterface 2 8), (157, false, .iload 1), (158, false, .iconst 404), (161, false, .imul), (162, false, .iload 6), (164, false, .iadd), (165, false, .iload 4), (167, false, .iastore), (168, false, .goto (Int.ofNat 97)), (171, false, .aload 0), (172, false, .invokeinterface 2 9), (175, false, .iload 1), (176, false, .iload 6), (178, false, .iastore), (179, false, .aload 0), (180, false, .invokeinterface 2 10), (183, false, .iload 1), (184, false, .iload 5), (186, false, .ifCond .ne (Int.ofNat 193)), (189, false, .iconst 1), (190, false, .goto (Int.ofNat 194)), (193, false, .iconst 0), (194, false, .bastore), (195, false, .aload 0), (196, false, .invokeinterface 2 11), (199, false, .iload 1), (200, false, .aload 0), (201, false, .invokeinterface 2 10), (204, false, .iload 1), (205, false, .baload), (206, false, .ifCond .eq (Int.ofNat 232)), (209, false, .aload 2), (210, false, .iload 3), (211, false, .aload 2), (212, false, .invokeinterface 3 8), (215, false, .iload 1), (216, false, .iconst 2), (217, false, .invokestatic 1), (220, false, .iload 4), (222, false, .invokestatic 4), (225, false, .ifCond .eq (Int.ofNat 232)), (228, false, .iconst 1), (229, false, .goto (Int.ofNat 233)), (232, false, .iconst 0), (233, false, .bastore), (234, false, .return_)]
def cq_runCoach : mq_C := ((yX2_runCoach, cX2_runCoach, 7, none, { frames := 3, cells := 0, slots := 0, locals := 72 }), (2, 0, 0, 0), 263882790666240, (fun as ρ μ => match ρ with
  | (nw, sp, tl, tx, al) => mq_pZ as 37 fun as => mq_pI as fun c as => mq_p0 as (True)),
  (fun as ρ μ r ρ' μ' => match as, ρ, ρ' with
  | [.inr (.inr (some (_, _))), .inl c], (nw, sp, tl, tx, al), (nw', sp', tl', tx', al') => []
  | _, _, _ => []))
def kq_runCoach : List mq_V → mq_R → mq_M → List mq_Cu := fun as ρ μ => match as, ρ with
  | [.inr (.inr (some (_, _))), .inl c], (nw, sp, tl, tx, al) => [(97, [true, true, true, true, true, true, true], fun N l st ρ' μ' cs => mq_tZ l 37 fun l => mq_tI l fun v1 l => mq_tR l 2 fun L2 l => mq_tI l fun v3 l => mq_tI l fun v4 l => mq_tI l fun v5 l => mq_tI l fun v6 l => mq_t0 l (st = [] ∧ ρ' = (nw, sp, tl, tx, al) ∧ cs = 0 ∧ v1 = c ∧ 0 ≤ c ∧ c ≤ 15 ∧ 0 ≤ v6 ∧ v6 ≤ 403 ∧ 0 ≤ (403 - v6 : Int) ∧ (403 - v6 : Int) < (N : Int)))]
  | _, _ => []
set_option maxHeartbeats 16000000 in
set_option maxRecDepth 100000 in
theorem vq_runCoach (lc : Launch) (h_has_coaches : mq_Ct lc cq_has_coaches) (h_get_coaches : mq_Ct lc cq_get_coaches) (h_brakeStep : mq_Ct lc cq_brakeStep) (h_slowed : mq_Ct lc cq_slowed) (h_isInPlatform : mq_Ct lc cq_isInPlatform) : mq_Ct lc cq_runCoach := by
  refine mq_method (lc := lc) (P := pq_runCoach) (cl := [cq_has_coaches, cq_get_coaches, cq_brakeStep, cq_slowed, cq_isInPlatform]) (T := ([(53, 2, 0), (94, 9, 4), (71, 3, 8), (36, 2, 10), (40, 2, 11), (33, 2, 9), (21, 2, 5), (24, 2, 6), (27, 2, 7), (30, 2, 8), (88, 3, 0)], [], [], [(116, 0, 0), (77, 1, 0), (142, 2, 0), (146, 3, 0), (150, 4, 0)], [], [])) (fuel := 400) (cuts := kq_runCoach) (by decide) rfl ⟨rfl, rfl⟩ (List.forall_mem_cons.mpr ⟨h_has_coaches, (List.forall_mem_cons.mpr ⟨h_get_coaches, (List.forall_mem_cons.mpr ⟨h_brakeStep, (List.forall_mem_cons.mpr ⟨h_slowed, (List.forall_mem_cons.mpr ⟨h_isInPlatform, (fun _ h => absurd h List.not_mem_nil)⟩)⟩)⟩)⟩)⟩) ⟨(List.forall_mem_cons.mpr ⟨⟨_, rfl, by decide, kw_217⟩, (List.forall_mem_cons.mpr ⟨⟨_, rfl, by decide, kw_218⟩, (List.forall_mem_cons.mpr ⟨⟨_, rfl, by decide, kw_202⟩, (List.forall_mem_cons.mpr ⟨⟨_, rfl, by decide, kw_249⟩, (List.forall_mem_cons.mpr ⟨⟨_, rfl, by decide, kw_250⟩, (List.forall_mem_cons.mpr ⟨⟨_, rfl, by decide, kw_251⟩, (List.forall_mem_cons.mpr ⟨⟨_, rfl, by decide, kw_212⟩, (List.forall_mem_cons.mpr ⟨⟨_, rfl, by decide, kw_233⟩, (List.forall_mem_cons.mpr ⟨⟨_, rfl, by decide, kw_234⟩, (List.forall_mem_cons.mpr ⟨⟨_, rfl, by decide, kw_252⟩, (List.forall_mem_cons.mpr ⟨⟨_, rfl, by decide, kw_203⟩, (fun _ h => absurd h List.not_mem_nil)⟩)⟩)⟩)⟩)⟩)⟩)⟩)⟩)⟩)⟩)⟩), (fun _ h => absurd h List.not_mem_nil), (fun _ h => absurd h List.not_mem_nil), (List.forall_mem_cons.mpr ⟨mq_ml0 rfl mw0_has_coaches kw_238, (List.forall_mem_cons.mpr ⟨mq_ml0 rfl mw0_get_coaches kw_204, (List.forall_mem_cons.mpr ⟨mq_ml0 rfl mw0_brakeStep kw_256, (List.forall_mem_cons.mpr ⟨mq_ml0 rfl mw0_slowed kw_257, (List.forall_mem_cons.mpr ⟨mq_ml0 rfl mw0_isInPlatform kw_261, (fun _ h => absurd h List.not_mem_nil)⟩)⟩)⟩)⟩)⟩), (fun _ h => absurd h List.not_mem_nil), (fun _ h => absurd h List.not_mem_nil)⟩ (by decide +kernel) ⟨_, _, rfl⟩ ?_ ?_ ?_ ?_
  · intro as ρ μ h
    obtain ⟨nw, sp, tl, tx, al⟩ := ρ
    obtain ⟨as0, rfl, h0⟩ := mq_pZ_spec h
    clear h
    obtain ⟨c, as1, rfl, h1⟩ := mq_pI_spec h0
    clear h0
    obtain ⟨rfl, hp⟩ := mq_p0_spec h1
    clear h1
    rfl
  · intro as ρ μ h
    obtain ⟨nw, sp, tl, tx, al⟩ := ρ
    obtain ⟨as0, rfl, h0⟩ := mq_pZ_spec h
    clear h
    obtain ⟨c, as1, rfl, h1⟩ := mq_pI_spec h0
    clear h0
    obtain ⟨rfl, hp⟩ := mq_p0_spec h1
    clear h1
    intro hrg
    obtain ⟨⟨ha1a, ha1b⟩, -⟩ := hrg
    intro hbk
    have e0 : mq_l0 ([.inr (.inr (some (37, 0))), .inl c] : List mq_V) 7 = [some (.inr (.inr (some (37, 0)))), some (.inl c), none, none, none, none, none] := rfl
    rw [e0]
    repeat' (first | refine And.intro ?_ ?_ | intro _)
    all_goals first | omega | rfl | exact trivial | (simp [mq_up] at * <;> omega)
  · intro as ρ μ h
    obtain ⟨nw, sp, tl, tx, al⟩ := ρ
    obtain ⟨as0, rfl, h0⟩ := mq_pZ_spec h
    clear h
    obtain ⟨c, as1, rfl, h1⟩ := mq_pI_spec h0
    clear h0
    obtain ⟨rfl, hp⟩ := mq_p0_spec h1
    clear h1
    refine List.forall_mem_cons.mpr ⟨?_, ?_⟩
    · intro l st ρ' μ' cs hJ
      obtain ⟨l0, rfl, hJ0⟩ := mq_tZ_spec hJ
      clear hJ
      obtain ⟨v1, l1, rfl, hJ1⟩ := mq_tI_spec hJ0
      clear hJ0
      obtain ⟨L2, l2, rfl, hJ2⟩ := mq_tR_spec hJ1
      clear hJ1
      obtain ⟨v3, l3, rfl, hJ3⟩ := mq_tI_spec hJ2
      clear hJ2
      obtain ⟨v4, l4, rfl, hJ4⟩ := mq_tI_spec hJ3
      clear hJ3
      obtain ⟨v5, l5, rfl, hJ5⟩ := mq_tI_spec hJ4
      clear hJ4
      obtain ⟨v6, l6, rfl, hJ6⟩ := mq_tI_spec hJ5
      clear hJ5
      obtain ⟨rfl, hJz⟩ := mq_t0_spec hJ6
      clear hJ6
      obtain ⟨rfl, rfl, rfl, hc0, hc1, hc2, hc3, hc4, hm0, hm1⟩ := hJz
      omega
    exact fun _ h => absurd h List.not_mem_nil
  · intro as ρ μ h
    obtain ⟨nw, sp, tl, tx, al⟩ := ρ
    obtain ⟨as0, rfl, h0⟩ := mq_pZ_spec h
    clear h
    obtain ⟨c, as1, rfl, h1⟩ := mq_pI_spec h0
    clear h0
    obtain ⟨rfl, hp⟩ := mq_p0_spec h1
    clear h1
    intro hrg
    obtain ⟨⟨ha1a, ha1b⟩, -⟩ := hrg
    refine List.forall_mem_cons.mpr ⟨?_, ?_⟩
    · intro N l st ρ' μ' cs hJ
      obtain ⟨l0, rfl, hJ0⟩ := mq_tZ_spec hJ
      clear hJ
      obtain ⟨v1, l1, rfl, hJ1⟩ := mq_tI_spec hJ0
      clear hJ0
      obtain ⟨L2, l2, rfl, hJ2⟩ := mq_tR_spec hJ1
      clear hJ1
      obtain ⟨v3, l3, rfl, hJ3⟩ := mq_tI_spec hJ2
      clear hJ2
      obtain ⟨v4, l4, rfl, hJ4⟩ := mq_tI_spec hJ3
      clear hJ3
      obtain ⟨v5, l5, rfl, hJ5⟩ := mq_tI_spec hJ4
      clear hJ4
      obtain ⟨v6, l6, rfl, hJ6⟩ := mq_tI_spec hJ5
      clear hJ5
      obtain ⟨rfl, hJz⟩ := mq_t0_spec hJ6
      clear hJ6
      obtain ⟨rfl, rfl, rfl, hc0, hc1, hc2, hc3, hc4, hm0, hm1⟩ := hJz
      intro hbk hrl
      obtain ⟨⟨hl1a, hl1b⟩, ⟨hl3a, hl3b⟩, ⟨hl4a, hl4b⟩, ⟨hl5a, hl5b⟩, ⟨hl6a, hl6b⟩, -⟩ := hrl
      repeat' (first | refine And.intro ?_ ?_ | intro _)
      all_goals first | omega | rfl | exact trivial | (simp [mq_up] at * <;> omega)
    exact fun _ h => absurd h List.not_mem_nil
theorem mw0_runCoach : mq_mlA cq_runCoach 0 := ⟨kw_274, ⟨by decide +kernel, by decide +kernel⟩, by decide +kernel, kw_275, kw_276, kw_222, 37, by decide +kernel, fun as ρ μ h => by obtain ⟨nw, sp, tl, tx, al⟩ := ρ; obtain ⟨t, e, _⟩ := mq_pZ_spec h; exact ⟨0, t, e⟩⟩
def pq_isLetGo : List mq_E := [(0, false, .iload 1), (1, false, .iconst 0), (2, false, .iconst 15), (4, false, .invokestatic 0), (7, false, .ifCond .eq (Int.ofNat 24)), (10, false, .aload 0), (11, false, .invokeinterface 2 5), (14, false, .iload 1), (15, false, .iaload), (16, false, .iconst (-1)), (17, false, .if_icmp .eq (Int.ofNat 24)), (20, false, .iconst 1), (21, false, .goto (Int.ofNat 25)), (24, false, .iconst 0), (25, false, .ireturn)]
def cq_isLetGo : mq_C := ((yX2_isLetGo, cX2_isLetGo, 2, (some .boolean), { frames := 1, cells := 0, slots := 0, locals := 22 }), (2, 1, 0, 0), 0, (fun as ρ μ => match ρ with
  | (nw, sp, tl, tx, al) => mq_pZ as 37 fun as => mq_pI as fun c as => mq_p0 as (True)),
  (fun as ρ μ r ρ' μ' => match as, ρ, ρ' with
  | [.inr (.inr (some (_, _))), .inl c], (nw, sp, tl, tx, al), (nw', sp', tl', tx', al') => [(r = 1 ∧ 0 ≤ c ∧ c ≤ 15 ∧ ¬ μ (41, 0) c.toNat = -1) ∨ r = 0]
  | _, _, _ => []))
def kq_isLetGo : List mq_V → mq_R → mq_M → List mq_Cu := fun as ρ μ => match as, ρ with
  | [.inr (.inr (some (_, _))), .inl c], (nw, sp, tl, tx, al) => []
  | _, _ => []
set_option maxHeartbeats 16000000 in
set_option maxRecDepth 100000 in
theorem vq_isLetGo (lc : Launch) (h_isAmong : mq_Ct lc cq_isAmong) : mq_Ct lc cq_isLetGo := by
  refine mq_method (lc := lc) (P := pq_isLetGo) (cl := [cq_isAmong]) (T := ([(21, 2, 5)], [], [], [(67, 0, 2)], [], [])) (fuel := 400) (cuts := kq_isLetGo) (by decide) rfl ⟨rfl, rfl⟩ (List.forall_mem_cons.mpr ⟨h_isAmong, (fun _ h => absurd h List.not_mem_nil)⟩) ⟨(List.forall_mem_cons.mpr ⟨⟨_, rfl, by decide, kw_212⟩, (fun _ h => absurd h List.not_mem_nil)⟩), (fun _ h => absurd h List.not_mem_nil), (fun _ h => absurd h List.not_mem_nil), (List.forall_mem_cons.mpr ⟨mq_ml2 rfl mw1_isAmong 14 rfl, (fun _ h => absurd h List.not_mem_nil)⟩), (fun _ h => absurd h List.not_mem_nil), (fun _ h => absurd h List.not_mem_nil)⟩ (by decide +kernel) ⟨_, _, rfl⟩ ?_ ?_ ?_ ?_
  · intro as ρ μ h
    obtain ⟨nw, sp, tl, tx, al⟩ := ρ
    obtain ⟨as0, rfl, h0⟩ := mq_pZ_spec h
    clear h
    obtain ⟨c, as1, rfl, h1⟩ := mq_pI_spec h0
    clear h0
    obtain ⟨rfl, hp⟩ := mq_p0_spec h1
    clear h1
    rfl
  · intro as ρ μ h
    obtain ⟨nw, sp, tl, tx, al⟩ := ρ
    obtain ⟨as0, rfl, h0⟩ := mq_pZ_spec h
    clear h
    obtain ⟨c, as1, rfl, h1⟩ := mq_pI_spec h0
    clear h0
    obtain ⟨rfl, hp⟩ := mq_p0_spec h1
    clear h1
    intro hrg
    obtain ⟨⟨ha1a, ha1b⟩, -⟩ := hrg
    intro hbk
    have e0 : mq_l0 ([.inr (.inr (some (37, 0))), .inl c] : List mq_V) 2 = [some (.inr (.inr (some (37, 0)))), some (.inl c)] := rfl
    rw [e0]
    repeat' (first | refine And.intro ?_ ?_ | intro _)
    all_goals first | omega | rfl | exact trivial | (simp [mq_up] at * <;> omega)
  · intro as ρ μ h
    obtain ⟨nw, sp, tl, tx, al⟩ := ρ
    obtain ⟨as0, rfl, h0⟩ := mq_pZ_spec h
    clear h
    obtain ⟨c, as1, rfl, h1⟩ := mq_pI_spec h0
    clear h0
    obtain ⟨rfl, hp⟩ := mq_p0_spec h1
    clear h1
    exact fun _ h => absurd h List.not_mem_nil
  · intro as ρ μ h
    obtain ⟨nw, sp, tl, tx, al⟩ := ρ
    obtain ⟨as0, rfl, h0⟩ := mq_pZ_spec h
    clear h
    obtain ⟨c, as1, rfl, h1⟩ := mq_pI_spec h0
    clear h0
    obtain ⟨rfl, hp⟩ := mq_p0_spec h1
    clear h1
    intro hrg
    obtain ⟨⟨ha1a, ha1b⟩, -⟩ := hrg
    exact fun _ h => absurd h List.not_mem_nil
theorem mw0_isLetGo : mq_mlA cq_isLetGo 0 := ⟨kw_262, ⟨by decide +kernel, by decide +kernel⟩, by decide +kernel, kw_263, kw_264, kw_222, 37, by decide +kernel, fun as ρ μ h => by obtain ⟨nw, sp, tl, tx, al⟩ := ρ; obtain ⟨t, e, _⟩ := mq_pZ_spec h; exact ⟨0, t, e⟩⟩
def pq_endTick : List mq_E := [(0, false, .aload 0), (1, false, .invokeinterface 2 5), (4, false, .iload 1), (5, false, .iaload), (6, false, .aload 0), (7, false, .invokeinterface 2 9), (10, false, .iload 1), (11, false, .iaload), (12, false, .iadd), (13, false, .ireturn)]
def cq_endTick : mq_C := ((yX2_endTick, cX2_endTick, 2, (some .int), { frames := 0, cells := 0, slots := 0, locals := 0 }), (2, 1, 0, 0), 0, (fun as ρ μ => match ρ with
  | (nw, sp, tl, tx, al) => mq_pZ as 37 fun as => mq_pI as fun c as => mq_p0 as (0 ≤ c ∧ c ≤ 15)),
  (fun as ρ μ r ρ' μ' => match as, ρ, ρ' with
  | [.inr (.inr (some (_, _))), .inl c], (nw, sp, tl, tx, al), (nw', sp', tl', tx', al') => [-1 ≤ r, r ≤ 806]
  | _, _, _ => []))
def kq_endTick : List mq_V → mq_R → mq_M → List mq_Cu := fun as ρ μ => match as, ρ with
  | [.inr (.inr (some (_, _))), .inl c], (nw, sp, tl, tx, al) => []
  | _, _ => []
set_option maxHeartbeats 16000000 in
set_option maxRecDepth 100000 in
theorem vq_endTick (lc : Launch)  : mq_Ct lc cq_endTick := by
  refine mq_method (lc := lc) (P := pq_endTick) (cl := []) (T := ([(21, 2, 5), (33, 2, 9)], [], [], [], [], [])) (fuel := 400) (cuts := kq_endTick) (by decide) rfl ⟨rfl, rfl⟩ (fun _ h => absurd h List.not_mem_nil) ⟨(List.forall_mem_cons.mpr ⟨⟨_, rfl, by decide, kw_212⟩, (List.forall_mem_cons.mpr ⟨⟨_, rfl, by decide, kw_251⟩, (fun _ h => absurd h List.not_mem_nil)⟩)⟩), (fun _ h => absurd h List.not_mem_nil), (fun _ h => absurd h List.not_mem_nil), (fun _ h => absurd h List.not_mem_nil), (fun _ h => absurd h List.not_mem_nil), (fun _ h => absurd h List.not_mem_nil)⟩ (by decide +kernel) ⟨_, _, rfl⟩ ?_ ?_ ?_ ?_
  · intro as ρ μ h
    obtain ⟨nw, sp, tl, tx, al⟩ := ρ
    obtain ⟨as0, rfl, h0⟩ := mq_pZ_spec h
    clear h
    obtain ⟨c, as1, rfl, h1⟩ := mq_pI_spec h0
    clear h0
    obtain ⟨rfl, hp⟩ := mq_p0_spec h1
    clear h1
    obtain ⟨hp0, hp1⟩ := hp
    rfl
  · intro as ρ μ h
    obtain ⟨nw, sp, tl, tx, al⟩ := ρ
    obtain ⟨as0, rfl, h0⟩ := mq_pZ_spec h
    clear h
    obtain ⟨c, as1, rfl, h1⟩ := mq_pI_spec h0
    clear h0
    obtain ⟨rfl, hp⟩ := mq_p0_spec h1
    clear h1
    obtain ⟨hp0, hp1⟩ := hp
    intro hrg
    obtain ⟨⟨ha1a, ha1b⟩, -⟩ := hrg
    intro hbk
    have e0 : mq_l0 ([.inr (.inr (some (37, 0))), .inl c] : List mq_V) 2 = [some (.inr (.inr (some (37, 0)))), some (.inl c)] := rfl
    rw [e0]
    repeat' (first | refine And.intro ?_ ?_ | intro _)
    all_goals first | omega | rfl | exact trivial | (simp [mq_up] at * <;> omega)
  · intro as ρ μ h
    obtain ⟨nw, sp, tl, tx, al⟩ := ρ
    obtain ⟨as0, rfl, h0⟩ := mq_pZ_spec h
    clear h
    obtain ⟨c, as1, rfl, h1⟩ := mq_pI_spec h0
    clear h0
    obtain ⟨rfl, hp⟩ := mq_p0_spec h1
    clear h1
    obtain ⟨hp0, hp1⟩ := hp
    exact fun _ h => absurd h List.not_mem_nil
  · intro as ρ μ h
    obtain ⟨nw, sp, tl, tx, al⟩ := ρ
    obtain ⟨as0, rfl, h0⟩ := mq_pZ_spec h
    clear h
    obtain ⟨c, as1, rfl, h1⟩ := mq_pI_spec h0
    clear h0
    obtain ⟨rfl, hp⟩ := mq_p0_spec h1
    clear h1
    obtain ⟨hp0, hp1⟩ := hp
    intro hrg
    obtain ⟨⟨ha1a, ha1b⟩, -⟩ := hrg
    exact fun _ h => absurd h List.not_mem_nil
theorem mw0_endTick : mq_mlA cq_endTick 0 := ⟨kw_307, ⟨by decide +kernel, by decide +kernel⟩, by decide +kernel, kw_308, kw_309, kw_222, 37, by decide +kernel, fun as ρ μ h => by obtain ⟨nw, sp, tl, tx, al⟩ := ρ; obtain ⟨t, e, _⟩ := mq_pZ_spec h; exact ⟨0, t, e⟩⟩
def pq_endYard : List mq_E := [(0, false, .aload 0), (1, false, .invokeinterface 2 8), (4, false, .iload 1), (5, false, .iconst 404), (8, false, .imul), (9, false, .aload 0), (10, false, .invokeinterface 2 9), (13, false, .iload 1), (14, false, .iaload), (15, false, .iadd), (16, false, .iaload), (17, false, .ireturn)]
def cq_endYard : mq_C := ((yX2_endYard, cX2_endYard, 2, (some .int), { frames := 0, cells := 0, slots := 0, locals := 0 }), (2, 1, 0, 0), 0, (fun as ρ μ => match ρ with
  | (nw, sp, tl, tx, al) => mq_pZ as 37 fun as => mq_pI as fun c as => mq_p0 as (0 ≤ c ∧ c ≤ 15)),
  (fun as ρ μ r ρ' μ' => match as, ρ, ρ' with
  | [.inr (.inr (some (_, _))), .inl c], (nw, sp, tl, tx, al), (nw', sp', tl', tx', al') => []
  | _, _, _ => []))
def kq_endYard : List mq_V → mq_R → mq_M → List mq_Cu := fun as ρ μ => match as, ρ with
  | [.inr (.inr (some (_, _))), .inl c], (nw, sp, tl, tx, al) => []
  | _, _ => []
set_option maxHeartbeats 16000000 in
set_option maxRecDepth 100000 in
theorem vq_endYard (lc : Launch)  : mq_Ct lc cq_endYard := by
  refine mq_method (lc := lc) (P := pq_endYard) (cl := []) (T := ([(30, 2, 8), (33, 2, 9)], [], [], [], [], [])) (fuel := 400) (cuts := kq_endYard) (by decide) rfl ⟨rfl, rfl⟩ (fun _ h => absurd h List.not_mem_nil) ⟨(List.forall_mem_cons.mpr ⟨⟨_, rfl, by decide, kw_252⟩, (List.forall_mem_cons.mpr ⟨⟨_, rfl, by decide, kw_251⟩, (fun _ h => absurd h List.not_mem_nil)⟩)⟩), (fun _ h => absurd h List.not_mem_nil), (fun _ h => absurd h List.not_mem_nil), (fun _ h => absurd h List.not_mem_nil), (fun _ h => absurd h List.not_mem_nil), (fun _ h => absurd h List.not_mem_nil)⟩ (by decide +kernel) ⟨_, _, rfl⟩ ?_ ?_ ?_ ?_
  · intro as ρ μ h
    obtain ⟨nw, sp, tl, tx, al⟩ := ρ
    obtain ⟨as0, rfl, h0⟩ := mq_pZ_spec h
    clear h
    obtain ⟨c, as1, rfl, h1⟩ := mq_pI_spec h0
    clear h0
    obtain ⟨rfl, hp⟩ := mq_p0_spec h1
    clear h1
    obtain ⟨hp0, hp1⟩ := hp
    rfl
  · intro as ρ μ h
    obtain ⟨nw, sp, tl, tx, al⟩ := ρ
    obtain ⟨as0, rfl, h0⟩ := mq_pZ_spec h
    clear h
    obtain ⟨c, as1, rfl, h1⟩ := mq_pI_spec h0
    clear h0
    obtain ⟨rfl, hp⟩ := mq_p0_spec h1
    clear h1
    obtain ⟨hp0, hp1⟩ := hp
    intro hrg
    obtain ⟨⟨ha1a, ha1b⟩, -⟩ := hrg
    intro hbk
    have e0 : mq_l0 ([.inr (.inr (some (37, 0))), .inl c] : List mq_V) 2 = [some (.inr (.inr (some (37, 0)))), some (.inl c)] := rfl
    rw [e0]
    repeat' (first | refine And.intro ?_ ?_ | intro _)
    all_goals first | omega | rfl | exact trivial | (simp [mq_up] at * <;> omega)
  · intro as ρ μ h
    obtain ⟨nw, sp, tl, tx, al⟩ := ρ
    obtain ⟨as0, rfl, h0⟩ := mq_pZ_spec h
    clear h
    obtain ⟨c, as1, rfl, h1⟩ := mq_pI_spec h0
    clear h0
    obtain ⟨rfl, hp⟩ := mq_p0_spec h1
    clear h1
    obtain ⟨hp0, hp1⟩ := hp
    exact fun _ h => absurd h List.not_mem_nil
  · intro as ρ μ h
    obtain ⟨nw, sp, tl, tx, al⟩ := ρ
    obtain ⟨as0, rfl, h0⟩ := mq_pZ_spec h
    clear h
    obtain ⟨c, as1, rfl, h1⟩ := mq_pI_spec h0
    clear h0
    obtain ⟨rfl, hp⟩ := mq_p0_spec h1
    clear h1
    obtain ⟨hp0, hp1⟩ := hp
    intro hrg
    obtain ⟨⟨ha1a, ha1b⟩, -⟩ := hrg
    exact fun _ h => absurd h List.not_mem_nil
theorem mw0_endYard : mq_mlA cq_endYard 0 := ⟨kw_650, ⟨by decide +kernel, by decide +kernel⟩, by decide +kernel, kw_651, kw_652, kw_222, 37, by decide +kernel, fun as ρ μ h => by obtain ⟨nw, sp, tl, tx, al⟩ := ρ; obtain ⟨t, e, _⟩ := mq_pZ_spec h; exact ⟨0, t, e⟩⟩
def pq_isForGood : List mq_E := [(0, false, .aload 0), (1, false, .invokeinterface 2 10), (4, false, .iload 1), (5, false, .baload), (6, false, .ifCond .eq (Int.ofNat 22)), (9, false, .aload 0), (10, false, .invokeinterface 2 11), (13, false, .iload 1), (14, false, .baload), (15, false, .ifCond .ne (Int.ofNat 22)), (18, false, .iconst 1), (19, false, .goto (Int.ofNat 23)), (22, false, .iconst 0), (23, false, .ireturn)]
def cq_isForGood : mq_C := ((yX2_isForGood, cX2_isForGood, 2, (some .boolean), { frames := 0, cells := 0, slots := 0, locals := 0 }), (2, 1, 0, 0), 0, (fun as ρ μ => match ρ with
  | (nw, sp, tl, tx, al) => mq_pZ as 37 fun as => mq_pI as fun c as => mq_p0 as (0 ≤ c ∧ c ≤ 15)),
  (fun as ρ μ r ρ' μ' => match as, ρ, ρ' with
  | [.inr (.inr (some (_, _))), .inl c], (nw, sp, tl, tx, al), (nw', sp', tl', tx', al') => [0 ≤ r, r ≤ 1]
  | _, _, _ => []))
def kq_isForGood : List mq_V → mq_R → mq_M → List mq_Cu := fun as ρ μ => match as, ρ with
  | [.inr (.inr (some (_, _))), .inl c], (nw, sp, tl, tx, al) => []
  | _, _ => []
set_option maxHeartbeats 16000000 in
set_option maxRecDepth 100000 in
theorem vq_isForGood (lc : Launch)  : mq_Ct lc cq_isForGood := by
  refine mq_method (lc := lc) (P := pq_isForGood) (cl := []) (T := ([(36, 2, 10), (40, 2, 11)], [], [], [], [], [])) (fuel := 400) (cuts := kq_isForGood) (by decide) rfl ⟨rfl, rfl⟩ (fun _ h => absurd h List.not_mem_nil) ⟨(List.forall_mem_cons.mpr ⟨⟨_, rfl, by decide, kw_249⟩, (List.forall_mem_cons.mpr ⟨⟨_, rfl, by decide, kw_250⟩, (fun _ h => absurd h List.not_mem_nil)⟩)⟩), (fun _ h => absurd h List.not_mem_nil), (fun _ h => absurd h List.not_mem_nil), (fun _ h => absurd h List.not_mem_nil), (fun _ h => absurd h List.not_mem_nil), (fun _ h => absurd h List.not_mem_nil)⟩ (by decide +kernel) ⟨_, _, rfl⟩ ?_ ?_ ?_ ?_
  · intro as ρ μ h
    obtain ⟨nw, sp, tl, tx, al⟩ := ρ
    obtain ⟨as0, rfl, h0⟩ := mq_pZ_spec h
    clear h
    obtain ⟨c, as1, rfl, h1⟩ := mq_pI_spec h0
    clear h0
    obtain ⟨rfl, hp⟩ := mq_p0_spec h1
    clear h1
    obtain ⟨hp0, hp1⟩ := hp
    rfl
  · intro as ρ μ h
    obtain ⟨nw, sp, tl, tx, al⟩ := ρ
    obtain ⟨as0, rfl, h0⟩ := mq_pZ_spec h
    clear h
    obtain ⟨c, as1, rfl, h1⟩ := mq_pI_spec h0
    clear h0
    obtain ⟨rfl, hp⟩ := mq_p0_spec h1
    clear h1
    obtain ⟨hp0, hp1⟩ := hp
    intro hrg
    obtain ⟨⟨ha1a, ha1b⟩, -⟩ := hrg
    intro hbk
    have e0 : mq_l0 ([.inr (.inr (some (37, 0))), .inl c] : List mq_V) 2 = [some (.inr (.inr (some (37, 0)))), some (.inl c)] := rfl
    rw [e0]
    repeat' (first | refine And.intro ?_ ?_ | intro _)
    all_goals first | omega | rfl | exact trivial | (simp [mq_up] at * <;> omega)
  · intro as ρ μ h
    obtain ⟨nw, sp, tl, tx, al⟩ := ρ
    obtain ⟨as0, rfl, h0⟩ := mq_pZ_spec h
    clear h
    obtain ⟨c, as1, rfl, h1⟩ := mq_pI_spec h0
    clear h0
    obtain ⟨rfl, hp⟩ := mq_p0_spec h1
    clear h1
    obtain ⟨hp0, hp1⟩ := hp
    exact fun _ h => absurd h List.not_mem_nil
  · intro as ρ μ h
    obtain ⟨nw, sp, tl, tx, al⟩ := ρ
    obtain ⟨as0, rfl, h0⟩ := mq_pZ_spec h
    clear h
    obtain ⟨c, as1, rfl, h1⟩ := mq_pI_spec h0
    clear h0
    obtain ⟨rfl, hp⟩ := mq_p0_spec h1
    clear h1
    obtain ⟨hp0, hp1⟩ := hp
    intro hrg
    obtain ⟨⟨ha1a, ha1b⟩, -⟩ := hrg
    exact fun _ h => absurd h List.not_mem_nil
theorem mw0_isForGood : mq_mlA cq_isForGood 0 := ⟨kw_303, ⟨by decide +kernel, by decide +kernel⟩, by decide +kernel, kw_304, kw_305, kw_222, 37, by decide +kernel, fun as ρ μ h => by obtain ⟨nw, sp, tl, tx, al⟩ := ρ; obtain ⟨t, e, _⟩ := mq_pZ_spec h; exact ⟨0, t, e⟩⟩
def pq_followHandling : List mq_E := [(0, false, .aload 0), (1, false, .invokeinterface 2 0), (4, false, .invokeinterface 9 4), (7, false, .astore 2), (8, false, .aload 2), (9, false, .ifnull (Int.ofNat 64)), (12, false, .aload 0), (13, false, .iload 1), (14, false, .invokestatic 0), (17, false, .ifCond .eq (Int.ofNat 64)), (20, false, .aload 0), (21, false, .invokeinterface 2 1), (24, false, .aload 2), (25, false, .invokeinterface 3 8), (28, false, .iload 1), (29, false, .iconst 1), (30, false, .invokestatic 1), (33, false, .aload 2), (34, false, .invokeinterface 3 8), (37, false, .iload 1), (38, false, .iconst 2), (39, false, .invokestatic 1), (42, false, .aload 0), (43, false, .invokeinterface 2 6), (46, false, .iload 1), (47, false, .iaload), (48, false, .aload 0), (49, false, .invokeinterface 2 7), (52, false, .iload 1), (53, false, .iaload), (54, false, .invokestatic 2), (57, false, .ifCond .eq (Int.ofNat 64)), (60, false, .iconst 1), (61, false, .goto (Int.ofNat 65)), (64, false, .iconst 0), (65, false, .ireturn)]
def cq_followHandling : mq_C := ((yX2_followHandling, cX2_followHandling, 3, (some .boolean), { frames := 3, cells := 0, slots := 0, locals := 74 }), (2, 1, 0, 0), 1073741824, (fun as ρ μ => match ρ with
  | (nw, sp, tl, tx, al) => mq_pZ as 37 fun as => mq_pI as fun c as => mq_p0 as (True)),
  (fun as ρ μ r ρ' μ' => match as, ρ, ρ' with
  | [.inr (.inr (some (_, _))), .inl c], (nw, sp, tl, tx, al), (nw', sp', tl', tx', al') => [0 ≤ r, r ≤ 1]
  | _, _, _ => []))
def kq_followHandling : List mq_V → mq_R → mq_M → List mq_Cu := fun as ρ μ => match as, ρ with
  | [.inr (.inr (some (_, _))), .inl c], (nw, sp, tl, tx, al) => []
  | _, _ => []
set_option maxHeartbeats 16000000 in
set_option maxRecDepth 100000 in
theorem vq_followHandling (lc : Launch) (h_isLetGo : mq_Ct lc cq_isLetGo) (h_get_coaches : mq_Ct lc cq_get_coaches) (h_follow : mq_Ct lc cq_follow) : mq_Ct lc cq_followHandling := by
  refine mq_method (lc := lc) (P := pq_followHandling) (cl := [cq_isLetGo, cq_get_coaches, cq_follow]) (T := ([(53, 2, 0), (94, 9, 4), (57, 2, 1), (71, 3, 8), (24, 2, 6), (27, 2, 7)], [], [], [(158, 0, 0), (77, 1, 0), (161, 2, 0)], [], [])) (fuel := 400) (cuts := kq_followHandling) (by decide) rfl ⟨rfl, rfl⟩ (List.forall_mem_cons.mpr ⟨h_isLetGo, (List.forall_mem_cons.mpr ⟨h_get_coaches, (List.forall_mem_cons.mpr ⟨h_follow, (fun _ h => absurd h List.not_mem_nil)⟩)⟩)⟩) ⟨(List.forall_mem_cons.mpr ⟨⟨_, rfl, by decide, kw_217⟩, (List.forall_mem_cons.mpr ⟨⟨_, rfl, by decide, kw_218⟩, (List.forall_mem_cons.mpr ⟨⟨_, rfl, by decide, kw_247⟩, (List.forall_mem_cons.mpr ⟨⟨_, rfl, by decide, kw_202⟩, (List.forall_mem_cons.mpr ⟨⟨_, rfl, by decide, kw_233⟩, (List.forall_mem_cons.mpr ⟨⟨_, rfl, by decide, kw_234⟩, (fun _ h => absurd h List.not_mem_nil)⟩)⟩)⟩)⟩)⟩)⟩), (fun _ h => absurd h List.not_mem_nil), (fun _ h => absurd h List.not_mem_nil), (List.forall_mem_cons.mpr ⟨mq_ml0 rfl mw0_isLetGo kw_265, (List.forall_mem_cons.mpr ⟨mq_ml0 rfl mw0_get_coaches kw_204, (List.forall_mem_cons.mpr ⟨mq_ml0 rfl mw0_follow kw_269, (fun _ h => absurd h List.not_mem_nil)⟩)⟩)⟩), (fun _ h => absurd h List.not_mem_nil), (fun _ h => absurd h List.not_mem_nil)⟩ (by decide +kernel) ⟨_, _, rfl⟩ ?_ ?_ ?_ ?_
  · intro as ρ μ h
    obtain ⟨nw, sp, tl, tx, al⟩ := ρ
    obtain ⟨as0, rfl, h0⟩ := mq_pZ_spec h
    clear h
    obtain ⟨c, as1, rfl, h1⟩ := mq_pI_spec h0
    clear h0
    obtain ⟨rfl, hp⟩ := mq_p0_spec h1
    clear h1
    rfl
  · intro as ρ μ h
    obtain ⟨nw, sp, tl, tx, al⟩ := ρ
    obtain ⟨as0, rfl, h0⟩ := mq_pZ_spec h
    clear h
    obtain ⟨c, as1, rfl, h1⟩ := mq_pI_spec h0
    clear h0
    obtain ⟨rfl, hp⟩ := mq_p0_spec h1
    clear h1
    intro hrg
    obtain ⟨⟨ha1a, ha1b⟩, -⟩ := hrg
    intro hbk
    have e0 : mq_l0 ([.inr (.inr (some (37, 0))), .inl c] : List mq_V) 3 = [some (.inr (.inr (some (37, 0)))), some (.inl c), none] := rfl
    rw [e0]
    repeat' (first | refine And.intro ?_ ?_ | intro _)
    all_goals first | omega | rfl | exact trivial | (simp [mq_up] at * <;> omega)
  · intro as ρ μ h
    obtain ⟨nw, sp, tl, tx, al⟩ := ρ
    obtain ⟨as0, rfl, h0⟩ := mq_pZ_spec h
    clear h
    obtain ⟨c, as1, rfl, h1⟩ := mq_pI_spec h0
    clear h0
    obtain ⟨rfl, hp⟩ := mq_p0_spec h1
    clear h1
    exact fun _ h => absurd h List.not_mem_nil
  · intro as ρ μ h
    obtain ⟨nw, sp, tl, tx, al⟩ := ρ
    obtain ⟨as0, rfl, h0⟩ := mq_pZ_spec h
    clear h
    obtain ⟨c, as1, rfl, h1⟩ := mq_pI_spec h0
    clear h0
    obtain ⟨rfl, hp⟩ := mq_p0_spec h1
    clear h1
    intro hrg
    obtain ⟨⟨ha1a, ha1b⟩, -⟩ := hrg
    exact fun _ h => absurd h List.not_mem_nil
theorem mw0_followHandling : mq_mlA cq_followHandling 0 := ⟨kw_738, ⟨by decide +kernel, by decide +kernel⟩, by decide +kernel, kw_739, kw_740, kw_222, 37, by decide +kernel, fun as ρ μ h => by obtain ⟨nw, sp, tl, tx, al⟩ := ρ; obtain ⟨t, e, _⟩ := mq_pZ_spec h; exact ⟨0, t, e⟩⟩
def pq_inPlatforms : List mq_E := [(0, false, .iconst 0), (1, false, .istore 1), (2, false, .iconst 0), (3, false, .istore 2), (4, true, .aload 0), (5, false, .invokeinterface 2 0), (8, false, .invokeinterface 9 4), (11, false, .ifnull (Int.ofNat 52)), (14, false, .iload 2), (15, false, .aload 0), (16, false, .invokeinterface 2 0), (19, false, .invokeinterface 9 4), (22, false, .invokeinterface 3 8), (25, false, .invokeinterface 6 3), (28, false, .if_icmp .ge (Int.ofNat 52)), (31, false, .aload 0), (32, false, .invokeinterface 2 11), (35, false, .iload 2), (36, false, .baload), (37, false, .ifCond .eq (Int.ofNat 46)), (40, false, .iload 1), (41, false, .iconst 1), (42, false, .iload 2), (43, false, .ishl), (44, false, .ior), (45, false, .istore 1), (46, false, .iinc 2 1), (49, false, .goto (Int.ofNat 4)), (52, false, .iload 1), (53, false, .ireturn)]
def cq_inPlatforms : mq_C := ((yX2_inPlatforms, cX2_inPlatforms, 3, (some .int), { frames := 0, cells := 0, slots := 0, locals := 0 }), (1, 1, 0, 0), 0, (fun as ρ μ => match ρ with
  | (nw, sp, tl, tx, al) => mq_pZ as 37 fun as => mq_p0 as (True)),
  (fun as ρ μ r ρ' μ' => match as, ρ, ρ' with
  | [.inr (.inr (some (_, _)))], (nw, sp, tl, tx, al), (nw', sp', tl', tx', al') => []
  | _, _, _ => []))
def kq_inPlatforms : List mq_V → mq_R → mq_M → List mq_Cu := fun as ρ μ => match as, ρ with
  | [.inr (.inr (some (_, _)))], (nw, sp, tl, tx, al) => [(4, [true, true, true], fun N l st ρ' μ' cs => mq_tZ l 37 fun l => mq_tI l fun v1 l => mq_tI l fun v2 l => mq_t0 l (st = [] ∧ ρ' = (nw, sp, tl, tx, al) ∧ cs = 0 ∧ 0 ≤ v2 ∧ v2 ≤ 16 ∧ 0 ≤ (16 - v2 : Int) ∧ (16 - v2 : Int) < (N : Int)))]
  | _, _ => []
set_option maxHeartbeats 16000000 in
set_option maxRecDepth 100000 in
theorem vq_inPlatforms (lc : Launch)  : mq_Ct lc cq_inPlatforms := by
  refine mq_method (lc := lc) (P := pq_inPlatforms) (cl := []) (T := ([(53, 2, 0), (94, 9, 4), (71, 3, 8), (103, 6, 3), (40, 2, 11)], [], [], [], [], [])) (fuel := 400) (cuts := kq_inPlatforms) (by decide) rfl ⟨rfl, rfl⟩ (fun _ h => absurd h List.not_mem_nil) ⟨(List.forall_mem_cons.mpr ⟨⟨_, rfl, by decide, kw_217⟩, (List.forall_mem_cons.mpr ⟨⟨_, rfl, by decide, kw_218⟩, (List.forall_mem_cons.mpr ⟨⟨_, rfl, by decide, kw_202⟩, (List.forall_mem_cons.mpr ⟨⟨_, rfl, by decide, kw_210⟩, (List.forall_mem_cons.mpr ⟨⟨_, rfl, by decide, kw_250⟩, (fun _ h => absurd h List.not_mem_nil)⟩)⟩)⟩)⟩)⟩), (fun _ h => absurd h List.not_mem_nil), (fun _ h => absurd h List.not_mem_nil), (fun _ h => absurd h List.not_mem_nil), (fun _ h => absurd h List.not_mem_nil), (fun _ h => absurd h List.not_mem_nil)⟩ (by decide +kernel) ⟨_, _, rfl⟩ ?_ ?_ ?_ ?_
  · intro as ρ μ h
    obtain ⟨nw, sp, tl, tx, al⟩ := ρ
    obtain ⟨as0, rfl, h0⟩ := mq_pZ_spec h
    clear h
    obtain ⟨rfl, hp⟩ := mq_p0_spec h0
    clear h0
    rfl
  · intro as ρ μ h
    obtain ⟨nw, sp, tl, tx, al⟩ := ρ
    obtain ⟨as0, rfl, h0⟩ := mq_pZ_spec h
    clear h
    obtain ⟨rfl, hp⟩ := mq_p0_spec h0
    clear h0
    intro hrg
    intro hbk
    have e0 : mq_l0 ([.inr (.inr (some (37, 0)))] : List mq_V) 3 = [some (.inr (.inr (some (37, 0)))), none, none] := rfl
    rw [e0]
    repeat' (first | refine And.intro ?_ ?_ | intro _)
    all_goals first | omega | rfl | exact trivial | (simp [mq_up] at * <;> omega)
  · intro as ρ μ h
    obtain ⟨nw, sp, tl, tx, al⟩ := ρ
    obtain ⟨as0, rfl, h0⟩ := mq_pZ_spec h
    clear h
    obtain ⟨rfl, hp⟩ := mq_p0_spec h0
    clear h0
    refine List.forall_mem_cons.mpr ⟨?_, ?_⟩
    · intro l st ρ' μ' cs hJ
      obtain ⟨l0, rfl, hJ0⟩ := mq_tZ_spec hJ
      clear hJ
      obtain ⟨v1, l1, rfl, hJ1⟩ := mq_tI_spec hJ0
      clear hJ0
      obtain ⟨v2, l2, rfl, hJ2⟩ := mq_tI_spec hJ1
      clear hJ1
      obtain ⟨rfl, hJz⟩ := mq_t0_spec hJ2
      clear hJ2
      obtain ⟨rfl, rfl, rfl, hc0, hc1, hm0, hm1⟩ := hJz
      omega
    exact fun _ h => absurd h List.not_mem_nil
  · intro as ρ μ h
    obtain ⟨nw, sp, tl, tx, al⟩ := ρ
    obtain ⟨as0, rfl, h0⟩ := mq_pZ_spec h
    clear h
    obtain ⟨rfl, hp⟩ := mq_p0_spec h0
    clear h0
    intro hrg
    refine List.forall_mem_cons.mpr ⟨?_, ?_⟩
    · intro N l st ρ' μ' cs hJ
      obtain ⟨l0, rfl, hJ0⟩ := mq_tZ_spec hJ
      clear hJ
      obtain ⟨v1, l1, rfl, hJ1⟩ := mq_tI_spec hJ0
      clear hJ0
      obtain ⟨v2, l2, rfl, hJ2⟩ := mq_tI_spec hJ1
      clear hJ1
      obtain ⟨rfl, hJz⟩ := mq_t0_spec hJ2
      clear hJ2
      obtain ⟨rfl, rfl, rfl, hc0, hc1, hm0, hm1⟩ := hJz
      intro hbk hrl
      obtain ⟨⟨hl1a, hl1b⟩, ⟨hl2a, hl2b⟩, -⟩ := hrl
      repeat' (first | refine And.intro ?_ ?_ | intro _)
      all_goals first | omega | rfl | exact trivial | (simp [mq_up] at * <;> omega)
    exact fun _ h => absurd h List.not_mem_nil
theorem mw0_inPlatforms : mq_mlA cq_inPlatforms 0 := ⟨kw_667, ⟨by decide +kernel, by decide +kernel⟩, by decide +kernel, kw_668, kw_669, kw_222, 37, by decide +kernel, fun as ρ μ h => by obtain ⟨nw, sp, tl, tx, al⟩ := ρ; obtain ⟨t, e, _⟩ := mq_pZ_spec h; exact ⟨0, t, e⟩⟩
def pq_firstAt : List mq_E := [(0, false, .iconst 0), (1, false, .istore 3), (2, true, .iload 3), (3, false, .aload 0), (4, false, .invokeinterface 2 4), (7, false, .iload 1), (8, false, .iaload), (9, false, .if_icmp .ge (Int.ofNat 36)), (12, false, .aload 0), (13, false, .invokeinterface 2 2), (16, false, .iload 1), (17, false, .iconst 404), (20, false, .imul), (21, false, .iload 3), (22, false, .iadd), (23, false, .iaload), (24, false, .iload 2), (25, false, .if_icmp .lt (Int.ofNat 30)), (28, false, .iload 3), (29, false, .ireturn), (30, false, .iinc 3 1), (33, false, .goto (Int.ofNat 2)), (36, false, .aload 0), (37, false, .invokeinterface 2 4), (40, false, .iload 1), (41, false, .iaload), (42, false, .ireturn)]
def cq_firstAt : mq_C := ((yX2_firstAt, cX2_firstAt, 4, (some .int), { frames := 0, cells := 0, slots := 0, locals := 0 }), (3, 1, 0, 0), 0, (fun as ρ μ => match ρ with
  | (nw, sp, tl, tx, al) => mq_pZ as 37 fun as => mq_pI as fun t as => mq_pI as fun y as => mq_p0 as (0 ≤ t ∧ t ≤ 4)),
  (fun as ρ μ r ρ' μ' => match as, ρ, ρ' with
  | [.inr (.inr (some (_, _))), .inl t, .inl y], (nw, sp, tl, tx, al), (nw', sp', tl', tx', al') => [0 ≤ r, r ≤ 403]
  | _, _, _ => []))
def kq_firstAt : List mq_V → mq_R → mq_M → List mq_Cu := fun as ρ μ => match as, ρ with
  | [.inr (.inr (some (_, _))), .inl t, .inl y], (nw, sp, tl, tx, al) => [(2, [true, true, true, true], fun N l st ρ' μ' cs => mq_tZ l 37 fun l => mq_tI l fun v1 l => mq_tI l fun v2 l => mq_tI l fun v3 l => mq_t0 l (st = [] ∧ ρ' = (nw, sp, tl, tx, al) ∧ cs = 0 ∧ v1 = t ∧ v2 = y ∧ 0 ≤ v3 ∧ v3 ≤ 403 ∧ 0 ≤ (404 - v3 : Int) ∧ (404 - v3 : Int) < (N : Int)))]
  | _, _ => []
set_option maxHeartbeats 16000000 in
set_option maxRecDepth 100000 in
theorem vq_firstAt (lc : Launch)  : mq_Ct lc cq_firstAt := by
  refine mq_method (lc := lc) (P := pq_firstAt) (cl := []) (T := ([(18, 2, 4), (9, 2, 2)], [], [], [], [], [])) (fuel := 400) (cuts := kq_firstAt) (by decide) rfl ⟨rfl, rfl⟩ (fun _ h => absurd h List.not_mem_nil) ⟨(List.forall_mem_cons.mpr ⟨⟨_, rfl, by decide, kw_209⟩, (List.forall_mem_cons.mpr ⟨⟨_, rfl, by decide, kw_207⟩, (fun _ h => absurd h List.not_mem_nil)⟩)⟩), (fun _ h => absurd h List.not_mem_nil), (fun _ h => absurd h List.not_mem_nil), (fun _ h => absurd h List.not_mem_nil), (fun _ h => absurd h List.not_mem_nil), (fun _ h => absurd h List.not_mem_nil)⟩ (by decide +kernel) ⟨_, _, rfl⟩ ?_ ?_ ?_ ?_
  · intro as ρ μ h
    obtain ⟨nw, sp, tl, tx, al⟩ := ρ
    obtain ⟨as0, rfl, h0⟩ := mq_pZ_spec h
    clear h
    obtain ⟨t, as1, rfl, h1⟩ := mq_pI_spec h0
    clear h0
    obtain ⟨y, as2, rfl, h2⟩ := mq_pI_spec h1
    clear h1
    obtain ⟨rfl, hp⟩ := mq_p0_spec h2
    clear h2
    obtain ⟨hp0, hp1⟩ := hp
    rfl
  · intro as ρ μ h
    obtain ⟨nw, sp, tl, tx, al⟩ := ρ
    obtain ⟨as0, rfl, h0⟩ := mq_pZ_spec h
    clear h
    obtain ⟨t, as1, rfl, h1⟩ := mq_pI_spec h0
    clear h0
    obtain ⟨y, as2, rfl, h2⟩ := mq_pI_spec h1
    clear h1
    obtain ⟨rfl, hp⟩ := mq_p0_spec h2
    clear h2
    obtain ⟨hp0, hp1⟩ := hp
    intro hrg
    obtain ⟨⟨ha1a, ha1b⟩, ⟨ha2a, ha2b⟩, -⟩ := hrg
    intro hbk
    have e0 : mq_l0 ([.inr (.inr (some (37, 0))), .inl t, .inl y] : List mq_V) 4 = [some (.inr (.inr (some (37, 0)))), some (.inl t), some (.inl y), none] := rfl
    rw [e0]
    repeat' (first | refine And.intro ?_ ?_ | intro _)
    all_goals first | omega | rfl | exact trivial | (simp [mq_up] at * <;> omega)
  · intro as ρ μ h
    obtain ⟨nw, sp, tl, tx, al⟩ := ρ
    obtain ⟨as0, rfl, h0⟩ := mq_pZ_spec h
    clear h
    obtain ⟨t, as1, rfl, h1⟩ := mq_pI_spec h0
    clear h0
    obtain ⟨y, as2, rfl, h2⟩ := mq_pI_spec h1
    clear h1
    obtain ⟨rfl, hp⟩ := mq_p0_spec h2
    clear h2
    obtain ⟨hp0, hp1⟩ := hp
    refine List.forall_mem_cons.mpr ⟨?_, ?_⟩
    · intro l st ρ' μ' cs hJ
      obtain ⟨l0, rfl, hJ0⟩ := mq_tZ_spec hJ
      clear hJ
      obtain ⟨v1, l1, rfl, hJ1⟩ := mq_tI_spec hJ0
      clear hJ0
      obtain ⟨v2, l2, rfl, hJ2⟩ := mq_tI_spec hJ1
      clear hJ1
      obtain ⟨v3, l3, rfl, hJ3⟩ := mq_tI_spec hJ2
      clear hJ2
      obtain ⟨rfl, hJz⟩ := mq_t0_spec hJ3
      clear hJ3
      obtain ⟨rfl, rfl, rfl, hc0, hc1, hc2, hc3, hm0, hm1⟩ := hJz
      omega
    exact fun _ h => absurd h List.not_mem_nil
  · intro as ρ μ h
    obtain ⟨nw, sp, tl, tx, al⟩ := ρ
    obtain ⟨as0, rfl, h0⟩ := mq_pZ_spec h
    clear h
    obtain ⟨t, as1, rfl, h1⟩ := mq_pI_spec h0
    clear h0
    obtain ⟨y, as2, rfl, h2⟩ := mq_pI_spec h1
    clear h1
    obtain ⟨rfl, hp⟩ := mq_p0_spec h2
    clear h2
    obtain ⟨hp0, hp1⟩ := hp
    intro hrg
    obtain ⟨⟨ha1a, ha1b⟩, ⟨ha2a, ha2b⟩, -⟩ := hrg
    refine List.forall_mem_cons.mpr ⟨?_, ?_⟩
    · intro N l st ρ' μ' cs hJ
      obtain ⟨l0, rfl, hJ0⟩ := mq_tZ_spec hJ
      clear hJ
      obtain ⟨v1, l1, rfl, hJ1⟩ := mq_tI_spec hJ0
      clear hJ0
      obtain ⟨v2, l2, rfl, hJ2⟩ := mq_tI_spec hJ1
      clear hJ1
      obtain ⟨v3, l3, rfl, hJ3⟩ := mq_tI_spec hJ2
      clear hJ2
      obtain ⟨rfl, hJz⟩ := mq_t0_spec hJ3
      clear hJ3
      obtain ⟨rfl, rfl, rfl, hc0, hc1, hc2, hc3, hm0, hm1⟩ := hJz
      intro hbk hrl
      obtain ⟨⟨hl1a, hl1b⟩, ⟨hl2a, hl2b⟩, ⟨hl3a, hl3b⟩, -⟩ := hrl
      repeat' (first | refine And.intro ?_ ?_ | intro _)
      all_goals first | omega | rfl | exact trivial | (simp [mq_up] at * <;> omega)
    exact fun _ h => absurd h List.not_mem_nil
theorem mw0_firstAt : mq_mlA cq_firstAt 0 := ⟨kw_625, ⟨by decide +kernel, by decide +kernel⟩, by decide +kernel, kw_626, kw_627, kw_222, 37, by decide +kernel, fun as ρ μ h => by obtain ⟨nw, sp, tl, tx, al⟩ := ρ; obtain ⟨t, e, _⟩ := mq_pZ_spec h; exact ⟨0, t, e⟩⟩
def pq_frontOf : List mq_E := [(0, false, .iload 2), (1, false, .iconst 0), (2, false, .iconst 403), (5, false, .invokestatic 0), (8, false, .ifCond .eq (Int.ofNat 26)), (11, false, .aload 0), (12, false, .invokeinterface 2 2), (15, false, .iload 1), (16, false, .iconst 404), (19, false, .imul), (20, false, .iload 2), (21, false, .iadd), (22, false, .iaload), (23, false, .goto (Int.ofNat 27)), (26, false, .iconst 0), (27, false, .ireturn)]
def cq_frontOf : mq_C := ((yX2_frontOf, cX2_frontOf, 3, (some .int), { frames := 1, cells := 0, slots := 0, locals := 22 }), (3, 1, 0, 0), 0, (fun as ρ μ => match ρ with
  | (nw, sp, tl, tx, al) => mq_pZ as 37 fun as => mq_pI as fun t as => mq_pI as fun k as => mq_p0 as (0 ≤ t ∧ t ≤ 4)),
  (fun as ρ μ r ρ' μ' => match as, ρ, ρ' with
  | [.inr (.inr (some (_, _))), .inl t, .inl k], (nw, sp, tl, tx, al), (nw', sp', tl', tx', al') => []
  | _, _, _ => []))
def kq_frontOf : List mq_V → mq_R → mq_M → List mq_Cu := fun as ρ μ => match as, ρ with
  | [.inr (.inr (some (_, _))), .inl t, .inl k], (nw, sp, tl, tx, al) => []
  | _, _ => []
set_option maxHeartbeats 16000000 in
set_option maxRecDepth 100000 in
theorem vq_frontOf (lc : Launch) (h_isAmong : mq_Ct lc cq_isAmong) : mq_Ct lc cq_frontOf := by
  refine mq_method (lc := lc) (P := pq_frontOf) (cl := [cq_isAmong]) (T := ([(9, 2, 2)], [], [], [(67, 0, 2)], [], [])) (fuel := 400) (cuts := kq_frontOf) (by decide) rfl ⟨rfl, rfl⟩ (List.forall_mem_cons.mpr ⟨h_isAmong, (fun _ h => absurd h List.not_mem_nil)⟩) ⟨(List.forall_mem_cons.mpr ⟨⟨_, rfl, by decide, kw_207⟩, (fun _ h => absurd h List.not_mem_nil)⟩), (fun _ h => absurd h List.not_mem_nil), (fun _ h => absurd h List.not_mem_nil), (List.forall_mem_cons.mpr ⟨mq_ml2 rfl mw1_isAmong 14 rfl, (fun _ h => absurd h List.not_mem_nil)⟩), (fun _ h => absurd h List.not_mem_nil), (fun _ h => absurd h List.not_mem_nil)⟩ (by decide +kernel) ⟨_, _, rfl⟩ ?_ ?_ ?_ ?_
  · intro as ρ μ h
    obtain ⟨nw, sp, tl, tx, al⟩ := ρ
    obtain ⟨as0, rfl, h0⟩ := mq_pZ_spec h
    clear h
    obtain ⟨t, as1, rfl, h1⟩ := mq_pI_spec h0
    clear h0
    obtain ⟨k, as2, rfl, h2⟩ := mq_pI_spec h1
    clear h1
    obtain ⟨rfl, hp⟩ := mq_p0_spec h2
    clear h2
    obtain ⟨hp0, hp1⟩ := hp
    rfl
  · intro as ρ μ h
    obtain ⟨nw, sp, tl, tx, al⟩ := ρ
    obtain ⟨as0, rfl, h0⟩ := mq_pZ_spec h
    clear h
    obtain ⟨t, as1, rfl, h1⟩ := mq_pI_spec h0
    clear h0
    obtain ⟨k, as2, rfl, h2⟩ := mq_pI_spec h1
    clear h1
    obtain ⟨rfl, hp⟩ := mq_p0_spec h2
    clear h2
    obtain ⟨hp0, hp1⟩ := hp
    intro hrg
    obtain ⟨⟨ha1a, ha1b⟩, ⟨ha2a, ha2b⟩, -⟩ := hrg
    intro hbk
    have e0 : mq_l0 ([.inr (.inr (some (37, 0))), .inl t, .inl k] : List mq_V) 3 = [some (.inr (.inr (some (37, 0)))), some (.inl t), some (.inl k)] := rfl
    rw [e0]
    repeat' (first | refine And.intro ?_ ?_ | intro _)
    all_goals first | omega | rfl | exact trivial | (simp [mq_up] at * <;> omega)
  · intro as ρ μ h
    obtain ⟨nw, sp, tl, tx, al⟩ := ρ
    obtain ⟨as0, rfl, h0⟩ := mq_pZ_spec h
    clear h
    obtain ⟨t, as1, rfl, h1⟩ := mq_pI_spec h0
    clear h0
    obtain ⟨k, as2, rfl, h2⟩ := mq_pI_spec h1
    clear h1
    obtain ⟨rfl, hp⟩ := mq_p0_spec h2
    clear h2
    obtain ⟨hp0, hp1⟩ := hp
    exact fun _ h => absurd h List.not_mem_nil
  · intro as ρ μ h
    obtain ⟨nw, sp, tl, tx, al⟩ := ρ
    obtain ⟨as0, rfl, h0⟩ := mq_pZ_spec h
    clear h
    obtain ⟨t, as1, rfl, h1⟩ := mq_pI_spec h0
    clear h0
    obtain ⟨k, as2, rfl, h2⟩ := mq_pI_spec h1
    clear h1
    obtain ⟨rfl, hp⟩ := mq_p0_spec h2
    clear h2
    obtain ⟨hp0, hp1⟩ := hp
    intro hrg
    obtain ⟨⟨ha1a, ha1b⟩, ⟨ha2a, ha2b⟩, -⟩ := hrg
    exact fun _ h => absurd h List.not_mem_nil
theorem mw0_frontOf : mq_mlA cq_frontOf 0 := ⟨kw_331, ⟨by decide +kernel, by decide +kernel⟩, by decide +kernel, kw_332, kw_333, kw_222, 37, by decide +kernel, fun as ρ μ h => by obtain ⟨nw, sp, tl, tx, al⟩ := ρ; obtain ⟨t, e, _⟩ := mq_pZ_spec h; exact ⟨0, t, e⟩⟩
def pq_tailOf : List mq_E := [(0, false, .iload 2), (1, false, .iconst 0), (2, false, .iconst 403), (5, false, .invokestatic 0), (8, false, .ifCond .eq (Int.ofNat 26)), (11, false, .aload 0), (12, false, .invokeinterface 2 3), (15, false, .iload 1), (16, false, .iconst 404), (19, false, .imul), (20, false, .iload 2), (21, false, .iadd), (22, false, .iaload), (23, false, .goto (Int.ofNat 27)), (26, false, .iconst 0), (27, false, .ireturn)]
def cq_tailOf : mq_C := ((yX2_tailOf, cX2_tailOf, 3, (some .int), { frames := 1, cells := 0, slots := 0, locals := 22 }), (3, 1, 0, 0), 0, (fun as ρ μ => match ρ with
  | (nw, sp, tl, tx, al) => mq_pZ as 37 fun as => mq_pI as fun t as => mq_pI as fun k as => mq_p0 as (0 ≤ t ∧ t ≤ 4)),
  (fun as ρ μ r ρ' μ' => match as, ρ, ρ' with
  | [.inr (.inr (some (_, _))), .inl t, .inl k], (nw, sp, tl, tx, al), (nw', sp', tl', tx', al') => []
  | _, _, _ => []))
def kq_tailOf : List mq_V → mq_R → mq_M → List mq_Cu := fun as ρ μ => match as, ρ with
  | [.inr (.inr (some (_, _))), .inl t, .inl k], (nw, sp, tl, tx, al) => []
  | _, _ => []
set_option maxHeartbeats 16000000 in
set_option maxRecDepth 100000 in
theorem vq_tailOf (lc : Launch) (h_isAmong : mq_Ct lc cq_isAmong) : mq_Ct lc cq_tailOf := by
  refine mq_method (lc := lc) (P := pq_tailOf) (cl := [cq_isAmong]) (T := ([(15, 2, 3)], [], [], [(67, 0, 2)], [], [])) (fuel := 400) (cuts := kq_tailOf) (by decide) rfl ⟨rfl, rfl⟩ (List.forall_mem_cons.mpr ⟨h_isAmong, (fun _ h => absurd h List.not_mem_nil)⟩) ⟨(List.forall_mem_cons.mpr ⟨⟨_, rfl, by decide, kw_208⟩, (fun _ h => absurd h List.not_mem_nil)⟩), (fun _ h => absurd h List.not_mem_nil), (fun _ h => absurd h List.not_mem_nil), (List.forall_mem_cons.mpr ⟨mq_ml2 rfl mw1_isAmong 14 rfl, (fun _ h => absurd h List.not_mem_nil)⟩), (fun _ h => absurd h List.not_mem_nil), (fun _ h => absurd h List.not_mem_nil)⟩ (by decide +kernel) ⟨_, _, rfl⟩ ?_ ?_ ?_ ?_
  · intro as ρ μ h
    obtain ⟨nw, sp, tl, tx, al⟩ := ρ
    obtain ⟨as0, rfl, h0⟩ := mq_pZ_spec h
    clear h
    obtain ⟨t, as1, rfl, h1⟩ := mq_pI_spec h0
    clear h0
    obtain ⟨k, as2, rfl, h2⟩ := mq_pI_spec h1
    clear h1
    obtain ⟨rfl, hp⟩ := mq_p0_spec h2
    clear h2
    obtain ⟨hp0, hp1⟩ := hp
    rfl
  · intro as ρ μ h
    obtain ⟨nw, sp, tl, tx, al⟩ := ρ
    obtain ⟨as0, rfl, h0⟩ := mq_pZ_spec h
    clear h
    obtain ⟨t, as1, rfl, h1⟩ := mq_pI_spec h0
    clear h0
    obtain ⟨k, as2, rfl, h2⟩ := mq_pI_spec h1
    clear h1
    obtain ⟨rfl, hp⟩ := mq_p0_spec h2
    clear h2
    obtain ⟨hp0, hp1⟩ := hp
    intro hrg
    obtain ⟨⟨ha1a, ha1b⟩, ⟨ha2a, ha2b⟩, -⟩ := hrg
    intro hbk
    have e0 : mq_l0 ([.inr (.inr (some (37, 0))), .inl t, .inl k] : List mq_V) 3 = [some (.inr (.inr (some (37, 0)))), some (.inl t), some (.inl k)] := rfl
    rw [e0]
    repeat' (first | refine And.intro ?_ ?_ | intro _)
    all_goals first | omega | rfl | exact trivial | (simp [mq_up] at * <;> omega)
  · intro as ρ μ h
    obtain ⟨nw, sp, tl, tx, al⟩ := ρ
    obtain ⟨as0, rfl, h0⟩ := mq_pZ_spec h
    clear h
    obtain ⟨t, as1, rfl, h1⟩ := mq_pI_spec h0
    clear h0
    obtain ⟨k, as2, rfl, h2⟩ := mq_pI_spec h1
    clear h1
    obtain ⟨rfl, hp⟩ := mq_p0_spec h2
    clear h2
    obtain ⟨hp0, hp1⟩ := hp
    exact fun _ h => absurd h List.not_mem_nil
  · intro as ρ μ h
    obtain ⟨nw, sp, tl, tx, al⟩ := ρ
    obtain ⟨as0, rfl, h0⟩ := mq_pZ_spec h
    clear h
    obtain ⟨t, as1, rfl, h1⟩ := mq_pI_spec h0
    clear h0
    obtain ⟨k, as2, rfl, h2⟩ := mq_pI_spec h1
    clear h1
    obtain ⟨rfl, hp⟩ := mq_p0_spec h2
    clear h2
    obtain ⟨hp0, hp1⟩ := hp
    intro hrg
    obtain ⟨⟨ha1a, ha1b⟩, ⟨ha2a, ha2b⟩, -⟩ := hrg
    exact fun _ h => absurd h List.not_mem_nil
theorem mw0_tailOf : mq_mlA cq_tailOf 0 := ⟨kw_320, ⟨by decide +kernel, by decide +kernel⟩, by decide +kernel, kw_321, kw_322, kw_222, 37, by decide +kernel, fun as ρ μ h => by obtain ⟨nw, sp, tl, tx, al⟩ := ρ; obtain ⟨t, e, _⟩ := mq_pZ_spec h; exact ⟨0, t, e⟩⟩
def pq_isTrainOnLine : List mq_E := [(0, false, .iload 2), (1, false, .ifCond .lt (Int.ofNat 18)), (4, false, .iload 2), (5, false, .aload 0), (6, false, .invokeinterface 2 4), (9, false, .iload 1), (10, false, .iaload), (11, false, .if_icmp .ge (Int.ofNat 18)), (14, false, .iconst 1), (15, false, .goto (Int.ofNat 19)), (18, false, .iconst 0), (19, false, .ireturn)]
def cq_isTrainOnLine : mq_C := ((yX2_isTrainOnLine, cX2_isTrainOnLine, 3, (some .boolean), { frames := 0, cells := 0, slots := 0, locals := 0 }), (3, 1, 0, 0), 0, (fun as ρ μ => match ρ with
  | (nw, sp, tl, tx, al) => mq_pZ as 37 fun as => mq_pI as fun t as => mq_pI as fun k as => mq_p0 as (0 ≤ t ∧ t ≤ 4)),
  (fun as ρ μ r ρ' μ' => match as, ρ, ρ' with
  | [.inr (.inr (some (_, _))), .inl t, .inl k], (nw, sp, tl, tx, al), (nw', sp', tl', tx', al') => [0 ≤ r, r ≤ 1]
  | _, _, _ => []))
def kq_isTrainOnLine : List mq_V → mq_R → mq_M → List mq_Cu := fun as ρ μ => match as, ρ with
  | [.inr (.inr (some (_, _))), .inl t, .inl k], (nw, sp, tl, tx, al) => []
  | _, _ => []
set_option maxHeartbeats 16000000 in
set_option maxRecDepth 100000 in
theorem vq_isTrainOnLine (lc : Launch)  : mq_Ct lc cq_isTrainOnLine := by
  refine mq_method (lc := lc) (P := pq_isTrainOnLine) (cl := []) (T := ([(18, 2, 4)], [], [], [], [], [])) (fuel := 400) (cuts := kq_isTrainOnLine) (by decide) rfl ⟨rfl, rfl⟩ (fun _ h => absurd h List.not_mem_nil) ⟨(List.forall_mem_cons.mpr ⟨⟨_, rfl, by decide, kw_209⟩, (fun _ h => absurd h List.not_mem_nil)⟩), (fun _ h => absurd h List.not_mem_nil), (fun _ h => absurd h List.not_mem_nil), (fun _ h => absurd h List.not_mem_nil), (fun _ h => absurd h List.not_mem_nil), (fun _ h => absurd h List.not_mem_nil)⟩ (by decide +kernel) ⟨_, _, rfl⟩ ?_ ?_ ?_ ?_
  · intro as ρ μ h
    obtain ⟨nw, sp, tl, tx, al⟩ := ρ
    obtain ⟨as0, rfl, h0⟩ := mq_pZ_spec h
    clear h
    obtain ⟨t, as1, rfl, h1⟩ := mq_pI_spec h0
    clear h0
    obtain ⟨k, as2, rfl, h2⟩ := mq_pI_spec h1
    clear h1
    obtain ⟨rfl, hp⟩ := mq_p0_spec h2
    clear h2
    obtain ⟨hp0, hp1⟩ := hp
    rfl
  · intro as ρ μ h
    obtain ⟨nw, sp, tl, tx, al⟩ := ρ
    obtain ⟨as0, rfl, h0⟩ := mq_pZ_spec h
    clear h
    obtain ⟨t, as1, rfl, h1⟩ := mq_pI_spec h0
    clear h0
    obtain ⟨k, as2, rfl, h2⟩ := mq_pI_spec h1
    clear h1
    obtain ⟨rfl, hp⟩ := mq_p0_spec h2
    clear h2
    obtain ⟨hp0, hp1⟩ := hp
    intro hrg
    obtain ⟨⟨ha1a, ha1b⟩, ⟨ha2a, ha2b⟩, -⟩ := hrg
    intro hbk
    have e0 : mq_l0 ([.inr (.inr (some (37, 0))), .inl t, .inl k] : List mq_V) 3 = [some (.inr (.inr (some (37, 0)))), some (.inl t), some (.inl k)] := rfl
    rw [e0]
    repeat' (first | refine And.intro ?_ ?_ | intro _)
    all_goals first | omega | rfl | exact trivial | (simp [mq_up] at * <;> omega)
  · intro as ρ μ h
    obtain ⟨nw, sp, tl, tx, al⟩ := ρ
    obtain ⟨as0, rfl, h0⟩ := mq_pZ_spec h
    clear h
    obtain ⟨t, as1, rfl, h1⟩ := mq_pI_spec h0
    clear h0
    obtain ⟨k, as2, rfl, h2⟩ := mq_pI_spec h1
    clear h1
    obtain ⟨rfl, hp⟩ := mq_p0_spec h2
    clear h2
    obtain ⟨hp0, hp1⟩ := hp
    exact fun _ h => absurd h List.not_mem_nil
  · intro as ρ μ h
    obtain ⟨nw, sp, tl, tx, al⟩ := ρ
    obtain ⟨as0, rfl, h0⟩ := mq_pZ_spec h
    clear h
    obtain ⟨t, as1, rfl, h1⟩ := mq_pI_spec h0
    clear h0
    obtain ⟨k, as2, rfl, h2⟩ := mq_pI_spec h1
    clear h1
    obtain ⟨rfl, hp⟩ := mq_p0_spec h2
    clear h2
    obtain ⟨hp0, hp1⟩ := hp
    intro hrg
    obtain ⟨⟨ha1a, ha1b⟩, ⟨ha2a, ha2b⟩, -⟩ := hrg
    exact fun _ h => absurd h List.not_mem_nil
theorem mw0_isTrainOnLine : mq_mlA cq_isTrainOnLine 0 := ⟨kw_316, ⟨by decide +kernel, by decide +kernel⟩, by decide +kernel, kw_317, kw_318, kw_222, 37, by decide +kernel, fun as ρ μ h => by obtain ⟨nw, sp, tl, tx, al⟩ := ρ; obtain ⟨t, e, _⟩ := mq_pZ_spec h; exact ⟨0, t, e⟩⟩
def pq_coachFront : List mq_E := [(0, false, .iconst 0), (1, false, .iload 2), (2, false, .aload 0), (3, false, .invokeinterface 2 9), (6, false, .iload 1), (7, false, .iaload), (8, false, .f2l), (11, false, .f2i), (14, false, .istore 3), (15, false, .aload 0), (16, false, .invokeinterface 2 8), (19, false, .iload 1), (20, false, .iconst 404), (23, false, .imul), (24, false, .iload 3), (25, false, .iadd), (26, false, .iaload), (27, false, .ireturn)]
def cq_coachFront : mq_C := ((yX2_coachFront, cX2_coachFront, 4, (some .int), { frames := 1, cells := 0, slots := 0, locals := 21 }), (3, 1, 0, 0), 0, (fun as ρ μ => match ρ with
  | (nw, sp, tl, tx, al) => mq_pZ as 37 fun as => mq_pI as fun c as => mq_pI as fun k as => mq_p0 as (0 ≤ c ∧ c ≤ 15)),
  (fun as ρ μ r ρ' μ' => match as, ρ, ρ' with
  | [.inr (.inr (some (_, _))), .inl c, .inl k], (nw, sp, tl, tx, al), (nw', sp', tl', tx', al') => []
  | _, _, _ => []))
def kq_coachFront : List mq_V → mq_R → mq_M → List mq_Cu := fun as ρ μ => match as, ρ with
  | [.inr (.inr (some (_, _))), .inl c, .inl k], (nw, sp, tl, tx, al) => []
  | _, _ => []
set_option maxHeartbeats 16000000 in
set_option maxRecDepth 100000 in
theorem vq_coachFront (lc : Launch)  : mq_Ct lc cq_coachFront := by
  refine mq_method (lc := lc) (P := pq_coachFront) (cl := []) (T := ([(33, 2, 9), (30, 2, 8)], [], [], [], [], [(91, false), (83, true)])) (fuel := 400) (cuts := kq_coachFront) (by decide) rfl ⟨rfl, rfl⟩ (fun _ h => absurd h List.not_mem_nil) ⟨(List.forall_mem_cons.mpr ⟨⟨_, rfl, by decide, kw_251⟩, (List.forall_mem_cons.mpr ⟨⟨_, rfl, by decide, kw_252⟩, (fun _ h => absurd h List.not_mem_nil)⟩)⟩), (fun _ h => absurd h List.not_mem_nil), (fun _ h => absurd h List.not_mem_nil), (fun _ h => absurd h List.not_mem_nil), (fun _ h => absurd h List.not_mem_nil), (List.forall_mem_cons.mpr ⟨⟨kw_206, kw_43, kw_44, kw_45⟩, (List.forall_mem_cons.mpr ⟨⟨kw_205, kw_82, kw_44, kw_83⟩, (fun _ h => absurd h List.not_mem_nil)⟩)⟩)⟩ (by decide +kernel) ⟨_, _, rfl⟩ ?_ ?_ ?_ ?_
  · intro as ρ μ h
    obtain ⟨nw, sp, tl, tx, al⟩ := ρ
    obtain ⟨as0, rfl, h0⟩ := mq_pZ_spec h
    clear h
    obtain ⟨c, as1, rfl, h1⟩ := mq_pI_spec h0
    clear h0
    obtain ⟨k, as2, rfl, h2⟩ := mq_pI_spec h1
    clear h1
    obtain ⟨rfl, hp⟩ := mq_p0_spec h2
    clear h2
    obtain ⟨hp0, hp1⟩ := hp
    rfl
  · intro as ρ μ h
    obtain ⟨nw, sp, tl, tx, al⟩ := ρ
    obtain ⟨as0, rfl, h0⟩ := mq_pZ_spec h
    clear h
    obtain ⟨c, as1, rfl, h1⟩ := mq_pI_spec h0
    clear h0
    obtain ⟨k, as2, rfl, h2⟩ := mq_pI_spec h1
    clear h1
    obtain ⟨rfl, hp⟩ := mq_p0_spec h2
    clear h2
    obtain ⟨hp0, hp1⟩ := hp
    intro hrg
    obtain ⟨⟨ha1a, ha1b⟩, ⟨ha2a, ha2b⟩, -⟩ := hrg
    intro hbk
    have e0 : mq_l0 ([.inr (.inr (some (37, 0))), .inl c, .inl k] : List mq_V) 4 = [some (.inr (.inr (some (37, 0)))), some (.inl c), some (.inl k), none] := rfl
    rw [e0]
    repeat' (first | refine And.intro ?_ ?_ | intro _)
    all_goals first | omega | rfl | exact trivial | (simp [mq_up] at * <;> omega)
  · intro as ρ μ h
    obtain ⟨nw, sp, tl, tx, al⟩ := ρ
    obtain ⟨as0, rfl, h0⟩ := mq_pZ_spec h
    clear h
    obtain ⟨c, as1, rfl, h1⟩ := mq_pI_spec h0
    clear h0
    obtain ⟨k, as2, rfl, h2⟩ := mq_pI_spec h1
    clear h1
    obtain ⟨rfl, hp⟩ := mq_p0_spec h2
    clear h2
    obtain ⟨hp0, hp1⟩ := hp
    exact fun _ h => absurd h List.not_mem_nil
  · intro as ρ μ h
    obtain ⟨nw, sp, tl, tx, al⟩ := ρ
    obtain ⟨as0, rfl, h0⟩ := mq_pZ_spec h
    clear h
    obtain ⟨c, as1, rfl, h1⟩ := mq_pI_spec h0
    clear h0
    obtain ⟨k, as2, rfl, h2⟩ := mq_pI_spec h1
    clear h1
    obtain ⟨rfl, hp⟩ := mq_p0_spec h2
    clear h2
    obtain ⟨hp0, hp1⟩ := hp
    intro hrg
    obtain ⟨⟨ha1a, ha1b⟩, ⟨ha2a, ha2b⟩, -⟩ := hrg
    exact fun _ h => absurd h List.not_mem_nil
theorem mw0_coachFront : mq_mlA cq_coachFront 0 := ⟨kw_311, ⟨by decide +kernel, by decide +kernel⟩, by decide +kernel, kw_312, kw_313, kw_222, 37, by decide +kernel, fun as ρ μ h => by obtain ⟨nw, sp, tl, tx, al⟩ := ρ; obtain ⟨t, e, _⟩ := mq_pZ_spec h; exact ⟨0, t, e⟩⟩
def pq_runWhole : List mq_E := [(0, false, .aload 0), (1, false, .iload 1), (2, false, .invokestatic 0), (5, false, .iconst 0), (6, false, .istore 2), (7, true, .aload 0), (8, false, .invokeinterface 2 0), (11, false, .invokeinterface 9 4), (14, false, .ifnull (Int.ofNat 64)), (17, false, .iload 2), (18, false, .aload 0), (19, false, .invokeinterface 2 0), (22, false, .invokeinterface 9 4), (25, false, .invokeinterface 3 8), (28, false, .invokeinterface 6 3), (31, false, .if_icmp .ge (Int.ofNat 64)), (34, false, .aload 0), (35, false, .invokeinterface 2 0), (38, false, .invokeinterface 9 4), (41, false, .invokeinterface 3 8), (44, false, .iload 2), (45, false, .iconst 0), (46, false, .invokestatic 1), (49, false, .iload 1), (50, false, .if_icmp .ne (Int.ofNat 58)), (53, false, .aload 0), (54, false, .iload 2), (55, false, .invokestatic 2), (58, false, .iinc 2 1), (61, false, .goto (Int.ofNat 7)), (64, false, .return_)]
def cq_runWhole : mq_C := ((yX2_runWhole, cX2_runWhole, 3, none, { frames := 4, cells := 0, slots := 0, locals := 98 }), (2, 0, 0, 0), 844150052225024, (fun as ρ μ => match ρ with
  | (nw, sp, tl, tx, al) => mq_pZ as 37 fun as => mq_pI as fun t as => mq_p0 as (True)),
  (fun as ρ μ r ρ' μ' => match as, ρ, ρ' with
  | [.inr (.inr (some (_, _))), .inl t], (nw, sp, tl, tx, al), (nw', sp', tl', tx', al') => []
  | _, _, _ => []))
def kq_runWhole : List mq_V → mq_R → mq_M → List mq_Cu := fun as ρ μ => match as, ρ with
  | [.inr (.inr (some (_, _))), .inl t], (nw, sp, tl, tx, al) => [(7, [true, true, true], fun N l st ρ' μ' cs => mq_tZ l 37 fun l => mq_tI l fun v1 l => mq_tI l fun v2 l => mq_t0 l (st = [] ∧ ρ' = (nw, sp, tl, tx, al) ∧ cs = 0 ∧ v1 = t ∧ 0 ≤ v2 ∧ v2 ≤ 16 ∧ 0 ≤ (16 - v2 : Int) ∧ (16 - v2 : Int) < (N : Int)))]
  | _, _ => []
set_option maxHeartbeats 16000000 in
set_option maxRecDepth 100000 in
theorem vq_runWhole (lc : Launch) (h_runTrain : mq_Ct lc cq_runTrain) (h_get_coaches : mq_Ct lc cq_get_coaches) (h_runCoach : mq_Ct lc cq_runCoach) : mq_Ct lc cq_runWhole := by
  refine mq_method (lc := lc) (P := pq_runWhole) (cl := [cq_runTrain, cq_get_coaches, cq_runCoach]) (T := ([(53, 2, 0), (94, 9, 4), (71, 3, 8), (103, 6, 3)], [], [], [(110, 0, 0), (77, 1, 0), (113, 2, 0)], [], [])) (fuel := 400) (cuts := kq_runWhole) (by decide) rfl ⟨rfl, rfl⟩ (List.forall_mem_cons.mpr ⟨h_runTrain, (List.forall_mem_cons.mpr ⟨h_get_coaches, (List.forall_mem_cons.mpr ⟨h_runCoach, (fun _ h => absurd h List.not_mem_nil)⟩)⟩)⟩) ⟨(List.forall_mem_cons.mpr ⟨⟨_, rfl, by decide, kw_217⟩, (List.forall_mem_cons.mpr ⟨⟨_, rfl, by decide, kw_218⟩, (List.forall_mem_cons.mpr ⟨⟨_, rfl, by decide, kw_202⟩, (List.forall_mem_cons.mpr ⟨⟨_, rfl, by decide, kw_210⟩, (fun _ h => absurd h List.not_mem_nil)⟩)⟩)⟩)⟩), (fun _ h => absurd h List.not_mem_nil), (fun _ h => absurd h List.not_mem_nil), (List.forall_mem_cons.mpr ⟨mq_ml0 rfl mw0_runTrain kw_273, (List.forall_mem_cons.mpr ⟨mq_ml0 rfl mw0_get_coaches kw_204, (List.forall_mem_cons.mpr ⟨mq_ml0 rfl mw0_runCoach kw_277, (fun _ h => absurd h List.not_mem_nil)⟩)⟩)⟩), (fun _ h => absurd h List.not_mem_nil), (fun _ h => absurd h List.not_mem_nil)⟩ (by decide +kernel) ⟨_, _, rfl⟩ ?_ ?_ ?_ ?_
  · intro as ρ μ h
    obtain ⟨nw, sp, tl, tx, al⟩ := ρ
    obtain ⟨as0, rfl, h0⟩ := mq_pZ_spec h
    clear h
    obtain ⟨t, as1, rfl, h1⟩ := mq_pI_spec h0
    clear h0
    obtain ⟨rfl, hp⟩ := mq_p0_spec h1
    clear h1
    rfl
  · intro as ρ μ h
    obtain ⟨nw, sp, tl, tx, al⟩ := ρ
    obtain ⟨as0, rfl, h0⟩ := mq_pZ_spec h
    clear h
    obtain ⟨t, as1, rfl, h1⟩ := mq_pI_spec h0
    clear h0
    obtain ⟨rfl, hp⟩ := mq_p0_spec h1
    clear h1
    intro hrg
    obtain ⟨⟨ha1a, ha1b⟩, -⟩ := hrg
    intro hbk
    have e0 : mq_l0 ([.inr (.inr (some (37, 0))), .inl t] : List mq_V) 3 = [some (.inr (.inr (some (37, 0)))), some (.inl t), none] := rfl
    rw [e0]
    repeat' (first | refine And.intro ?_ ?_ | intro _)
    all_goals first | omega | rfl | exact trivial | (simp [mq_up] at * <;> omega)
  · intro as ρ μ h
    obtain ⟨nw, sp, tl, tx, al⟩ := ρ
    obtain ⟨as0, rfl, h0⟩ := mq_pZ_spec h
    clear h
    obtain ⟨t, as1, rfl, h1⟩ := mq_pI_spec h0
    clear h0
    obtain ⟨rfl, hp⟩ := mq_p0_spec h1
    clear h1
    refine List.forall_mem_cons.mpr ⟨?_, ?_⟩
    · intro l st ρ' μ' cs hJ
      obtain ⟨l0, rfl, hJ0⟩ := mq_tZ_spec hJ
      clear hJ
      obtain ⟨v1, l1, rfl, hJ1⟩ := mq_tI_spec hJ0
      clear hJ0
      obtain ⟨v2, l2, rfl, hJ2⟩ := mq_tI_spec hJ1
      clear hJ1
      obtain ⟨rfl, hJz⟩ := mq_t0_spec hJ2
      clear hJ2
      obtain ⟨rfl, rfl, rfl, hc0, hc1, hc2, hm0, hm1⟩ := hJz
      omega
    exact fun _ h => absurd h List.not_mem_nil
  · intro as ρ μ h
    obtain ⟨nw, sp, tl, tx, al⟩ := ρ
    obtain ⟨as0, rfl, h0⟩ := mq_pZ_spec h
    clear h
    obtain ⟨t, as1, rfl, h1⟩ := mq_pI_spec h0
    clear h0
    obtain ⟨rfl, hp⟩ := mq_p0_spec h1
    clear h1
    intro hrg
    obtain ⟨⟨ha1a, ha1b⟩, -⟩ := hrg
    refine List.forall_mem_cons.mpr ⟨?_, ?_⟩
    · intro N l st ρ' μ' cs hJ
      obtain ⟨l0, rfl, hJ0⟩ := mq_tZ_spec hJ
      clear hJ
      obtain ⟨v1, l1, rfl, hJ1⟩ := mq_tI_spec hJ0
      clear hJ0
      obtain ⟨v2, l2, rfl, hJ2⟩ := mq_tI_spec hJ1
      clear hJ1
      obtain ⟨rfl, hJz⟩ := mq_t0_spec hJ2
      clear hJ2
      obtain ⟨rfl, rfl, rfl, hc0, hc1, hc2, hm0, hm1⟩ := hJz
      intro hbk hrl
      obtain ⟨⟨hl1a, hl1b⟩, ⟨hl2a, hl2b⟩, -⟩ := hrl
      repeat' (first | refine And.intro ?_ ?_ | intro _)
      all_goals first | omega | rfl | exact trivial | (simp [mq_up] at * <;> omega)
    exact fun _ h => absurd h List.not_mem_nil
theorem mw0_runWhole : mq_mlA cq_runWhole 0 := ⟨kw_278, ⟨by decide +kernel, by decide +kernel⟩, by decide +kernel, kw_279, kw_280, kw_222, 37, by decide +kernel, fun as ρ μ h => by obtain ⟨nw, sp, tl, tx, al⟩ := ρ; obtain ⟨t, e, _⟩ := mq_pZ_spec h; exact ⟨0, t, e⟩⟩
def pq_runAll : List mq_E := [(0, false, .iconst 0), (1, false, .istore 1), (2, true, .aload 0), (3, false, .invokeinterface 2 0), (6, false, .invokeinterface 9 4), (9, false, .ifnull (Int.ofNat 40)), (12, false, .iload 1), (13, false, .aload 0), (14, false, .invokeinterface 2 0), (17, false, .invokeinterface 9 4), (20, false, .invokeinterface 3 7), (23, false, .invokeinterface 6 3), (26, false, .if_icmp .ge (Int.ofNat 40)), (29, false, .aload 0), (30, false, .iload 1), (31, false, .invokestatic 0), (34, false, .iinc 1 1), (37, false, .goto (Int.ofNat 2)), (40, false, .return_)]
def cq_runAll : mq_C := ((yX2_runAll, cX2_runAll, 2, none, { frames := 5, cells := 0, slots := 0, locals := 120 }), (1, 0, 0, 0), 844150052225024, (fun as ρ μ => match ρ with
  | (nw, sp, tl, tx, al) => mq_pZ as 37 fun as => mq_p0 as (True)),
  (fun as ρ μ r ρ' μ' => match as, ρ, ρ' with
  | [.inr (.inr (some (_, _)))], (nw, sp, tl, tx, al), (nw', sp', tl', tx', al') => []
  | _, _, _ => []))
def kq_runAll : List mq_V → mq_R → mq_M → List mq_Cu := fun as ρ μ => match as, ρ with
  | [.inr (.inr (some (_, _)))], (nw, sp, tl, tx, al) => [(2, [true, true], fun N l st ρ' μ' cs => mq_tZ l 37 fun l => mq_tI l fun v1 l => mq_t0 l (st = [] ∧ ρ' = (nw, sp, tl, tx, al) ∧ cs = 0 ∧ 0 ≤ v1 ∧ v1 ≤ 5 ∧ 0 ≤ (5 - v1 : Int) ∧ (5 - v1 : Int) < (N : Int)))]
  | _, _ => []
set_option maxHeartbeats 16000000 in
set_option maxRecDepth 100000 in
theorem vq_runAll (lc : Launch) (h_runWhole : mq_Ct lc cq_runWhole) : mq_Ct lc cq_runAll := by
  refine mq_method (lc := lc) (P := pq_runAll) (cl := [cq_runWhole]) (T := ([(53, 2, 0), (94, 9, 4), (100, 3, 7), (103, 6, 3)], [], [], [(106, 0, 0)], [], [])) (fuel := 400) (cuts := kq_runAll) (by decide) rfl ⟨rfl, rfl⟩ (List.forall_mem_cons.mpr ⟨h_runWhole, (fun _ h => absurd h List.not_mem_nil)⟩) ⟨(List.forall_mem_cons.mpr ⟨⟨_, rfl, by decide, kw_217⟩, (List.forall_mem_cons.mpr ⟨⟨_, rfl, by decide, kw_218⟩, (List.forall_mem_cons.mpr ⟨⟨_, rfl, by decide, kw_232⟩, (List.forall_mem_cons.mpr ⟨⟨_, rfl, by decide, kw_210⟩, (fun _ h => absurd h List.not_mem_nil)⟩)⟩)⟩)⟩), (fun _ h => absurd h List.not_mem_nil), (fun _ h => absurd h List.not_mem_nil), (List.forall_mem_cons.mpr ⟨mq_ml0 rfl mw0_runWhole kw_281, (fun _ h => absurd h List.not_mem_nil)⟩), (fun _ h => absurd h List.not_mem_nil), (fun _ h => absurd h List.not_mem_nil)⟩ (by decide +kernel) ⟨_, _, rfl⟩ ?_ ?_ ?_ ?_
  · intro as ρ μ h
    obtain ⟨nw, sp, tl, tx, al⟩ := ρ
    obtain ⟨as0, rfl, h0⟩ := mq_pZ_spec h
    clear h
    obtain ⟨rfl, hp⟩ := mq_p0_spec h0
    clear h0
    rfl
  · intro as ρ μ h
    obtain ⟨nw, sp, tl, tx, al⟩ := ρ
    obtain ⟨as0, rfl, h0⟩ := mq_pZ_spec h
    clear h
    obtain ⟨rfl, hp⟩ := mq_p0_spec h0
    clear h0
    intro hrg
    intro hbk
    have e0 : mq_l0 ([.inr (.inr (some (37, 0)))] : List mq_V) 2 = [some (.inr (.inr (some (37, 0)))), none] := rfl
    rw [e0]
    repeat' (first | refine And.intro ?_ ?_ | intro _)
    all_goals first | omega | rfl | exact trivial | (simp [mq_up] at * <;> omega)
  · intro as ρ μ h
    obtain ⟨nw, sp, tl, tx, al⟩ := ρ
    obtain ⟨as0, rfl, h0⟩ := mq_pZ_spec h
    clear h
    obtain ⟨rfl, hp⟩ := mq_p0_spec h0
    clear h0
    refine List.forall_mem_cons.mpr ⟨?_, ?_⟩
    · intro l st ρ' μ' cs hJ
      obtain ⟨l0, rfl, hJ0⟩ := mq_tZ_spec hJ
      clear hJ
      obtain ⟨v1, l1, rfl, hJ1⟩ := mq_tI_spec hJ0
      clear hJ0
      obtain ⟨rfl, hJz⟩ := mq_t0_spec hJ1
      clear hJ1
      obtain ⟨rfl, rfl, rfl, hc0, hc1, hm0, hm1⟩ := hJz
      omega
    exact fun _ h => absurd h List.not_mem_nil
  · intro as ρ μ h
    obtain ⟨nw, sp, tl, tx, al⟩ := ρ
    obtain ⟨as0, rfl, h0⟩ := mq_pZ_spec h
    clear h
    obtain ⟨rfl, hp⟩ := mq_p0_spec h0
    clear h0
    intro hrg
    refine List.forall_mem_cons.mpr ⟨?_, ?_⟩
    · intro N l st ρ' μ' cs hJ
      obtain ⟨l0, rfl, hJ0⟩ := mq_tZ_spec hJ
      clear hJ
      obtain ⟨v1, l1, rfl, hJ1⟩ := mq_tI_spec hJ0
      clear hJ0
      obtain ⟨rfl, hJz⟩ := mq_t0_spec hJ1
      clear hJ1
      obtain ⟨rfl, rfl, rfl, hc0, hc1, hm0, hm1⟩ := hJz
      intro hbk hrl
      obtain ⟨⟨hl1a, hl1b⟩, -⟩ := hrl
      repeat' (first | refine And.intro ?_ ?_ | intro _)
      all_goals first | omega | rfl | exact trivial | (simp [mq_up] at * <;> omega)
    exact fun _ h => absurd h List.not_mem_nil
theorem mw0_runAll : mq_mlA cq_runAll 0 := ⟨kw_663, ⟨by decide +kernel, by decide +kernel⟩, by decide +kernel, kw_664, kw_665, kw_222, 37, by decide +kernel, fun as ρ μ h => by obtain ⟨nw, sp, tl, tx, al⟩ := ρ; obtain ⟨t, e, _⟩ := mq_pZ_spec h; exact ⟨0, t, e⟩⟩
