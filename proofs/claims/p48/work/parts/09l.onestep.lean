theorem mq_st_mono {k k' : mq_L → Prop} (hk : ∀ l, k l → k' l) : ∀ {l : mq_L} {i : Nat} {v : mq_V}, mq_st l i v k → mq_st l i v k' := by
  intro l
  induction l generalizing k k' with
  | nil => intro i v h; simp [mq_st] at h
  | cons x t ih =>
    intro i v h
    match i, h with
    | 0, h => simp only [mq_st] at h ⊢; exact hk _ h
    | 1, h => rcases x with _ | (a | (a | a)) <;> (simp only [mq_st] at h ⊢; exact ih (fun l h => hk _ h) h)
    | i + 2, h => simp only [mq_st] at h ⊢; exact ih (fun l h => hk _ h) h
theorem mq_st2_mono {k k' : mq_L → Prop} (hk : ∀ l, k l → k' l) : ∀ {l : mq_L} {i : Nat} {v : mq_V}, mq_st2 l i v k → mq_st2 l i v k' := by
  intro l
  induction l generalizing k k' with
  | nil => intro i v h; simp [mq_st2] at h
  | cons x t ih =>
    intro i v h
    cases t with
    | nil => rcases x with _ | (a | (a | a)) <;> simp [mq_st2] at h
    | cons y t =>
    match i, h with
    | 0, h => simp only [mq_st2] at h ⊢; exact hk _ h
    | 1, h => rcases x with _ | (a | (a | a)) <;> (simp only [mq_st2] at h ⊢; exact ih (fun l h => hk _ h) h)
    | i + 2, h => simp only [mq_st2] at h ⊢; exact ih (fun l h => hk _ h) h
theorem mq_sw_mono {x : Int} {k k' : Nat → Prop} (hk : ∀ t, k t → k' t) : ∀ (ts : List Nat) (c0 : Int), mq_sw x c0 ts k → mq_sw x c0 ts k'
  | [], _, _ => trivial
  | _ :: ts, c0, h => ⟨fun q => hk _ (h.1 q), mq_sw_mono hk ts (c0 + 1) h.2⟩
def mq_rt8B (f : Nat) (r : Bool × Nat × Nat × List (Nat × Int × Int)) (k : Nat) : Bool := match r with
  | (true, 6, _, _) => decide (mq_rt f k = (1, 8))
  | _ => true
theorem mq_rt8_all : ∀ f, f < 94 → ∀ k, k < 60 → mq_rt8B f (mq_fm f) k = true := by decide +kernel
theorem mq_rt_8 {f n k : Nat} {bs : List (Nat × Int × Int)} (hf : mq_fm f = (true, 6, n, bs)) (hk : k < 60) : mq_rt f k = (1, 8) := by
  have h := mq_rt8_all f (mq_in94 (i := 0) hf (by decide)) k hk
  rw [hf] at h
  exact of_decide_eq_true h
def mq_rt6B (f : Nat) (r : Bool × Nat × Nat × List (Nat × Int × Int)) (k : Nat) : Bool := match r with
  | (true, 4, _, _) => decide (mq_rt f k = (2, 6))
  | (true, 5, _, _) => decide (mq_rt f k = (17, 7))
  | _ => true
theorem mq_rt6_all : ∀ f, f < 94 → ∀ k, k < 60 → mq_rt6B f (mq_fm f) k = true := by decide +kernel
theorem mq_rt_6 {f n k : Nat} {bs : List (Nat × Int × Int)} (hf : mq_fm f = (true, 4, n, bs)) (hk : k < 60) : mq_rt f k = (2, 6) := by
  have h := mq_rt6_all f (mq_in94 (i := 0) hf (by decide)) k hk
  rw [hf] at h
  exact of_decide_eq_true h
theorem mq_rt_7 {f n k : Nat} {bs : List (Nat × Int × Int)} (hf : mq_fm f = (true, 5, n, bs)) (hk : k < 60) : mq_rt f k = (17, 7) := by
  have h := mq_rt6_all f (mq_in94 (i := 0) hf (by decide)) k hk
  rw [hf] at h
  exact of_decide_eq_true h
def mq_n60B (r : Bool × Nat × Nat × List (Nat × Int × Int)) : Bool := match r with
  | (true, t, n, _) => Nat.ble t 3 || Nat.ble n 60
  | (false, _, n, _) => Nat.ble n 60
theorem mq_n60_all : ∀ f, f < 94 → mq_n60B (mq_fm f) = true := by decide +kernel
theorem mq_n60 {f i t n : Nat} {bs : List (Nat × Int × Int)} (hf : mq_fm f = (true, t, n, bs)) (ht : 3 < t ∧ t ≠ 9) : n ≤ 60 := by
  have h := mq_n60_all f (mq_in94 (i := i) hf ht.2)
  rw [hf] at h
  simp only [mq_n60B, Bool.or_eq_true] at h
  rcases h with h | h
  · have := Nat.le_of_ble_eq_true h; omega
  · exact Nat.le_of_ble_eq_true h
theorem mq_k60 {f ci n k : Nat} {bs : List (Nat × Int × Int)} (hf : mq_fm f = (false, ci, n, bs)) (hk : k < n) : k < 60 := by
  have h := mq_n60_all f (mq_fb_obj hf).1
  rw [hf] at h
  have := Nat.le_of_ble_eq_true h
  omega
theorem mq_rp_99 {ρ ρ' : mq_R} {f i k : Nat} {v : mq_J} (hv : 94 ≤ v.1) : ¬ mq_rp ρ (f, i) k v = some ρ' := by
  intro h
  obtain ⟨nw, sp, tl, tx, al⟩ := ρ
  obtain ⟨g, x⟩ := v
  simp only at hv
  have e2 : Nat.beq g 2 = false := by
    cases hb : Nat.beq g 2 with
    | false => rfl
    | true => have := Nat.eq_of_beq_eq_true hb; omega
  have e19 : Nat.beq g 19 = false := by
    cases hb : Nat.beq g 19 with
    | false => rfl
    | true => have := Nat.eq_of_beq_eq_true hb; omega
  simp [mq_rp, e2, e19] at h
/-! the step -/
section MQ
variable {p : Program} {lc : Launch} {e : Env} {R : Room} {s : State} {m : MethodId} {args : Array Value} {below : List Frame} {meth : Method} {c : Code} {Q : State → Prop} {cc : ByteArray} {own : String} {nL : Nat} {G : KG} {A : Nat → Prop} {ad0 : mq_J → Nat} {ρ0 : mq_R} {md : Nat} {μ0 : mq_M}
variable {pc nxt cs : Nat} {l : mq_L} {st : List mq_V} {ρ : mq_R} {μ : mq_M}
theorem mq_room_spec {mc cs MC : Nat} {k : Prop} (h0 : cs ≤ MC) (h : mq_room mc cs MC k) : cs + mc ≤ MC ∧ k := by
  unfold mq_room at h
  split at h
  · exact ⟨h0, h⟩
  · exact h
theorem mq_imp_all : ∀ (ps : List Prop) (k : Prop), mq_imp ps k → mq_all ps → k
  | [], _, h, _ => h
  | _ :: t, k, h, hp => mq_imp_all t k (h hp.1) hp.2
theorem mq_aft_spec {pk md' : Nat} {post : List mq_V → mq_R → mq_M → Int → mq_R → mq_M → List Prop} {as : List mq_V} {rg : Int → Prop} {k : Int → mq_R → mq_M → Prop} (h : mq_aft pk md' post as ρ μ rg k) (r : Int) (ρ' : mq_R) (μ' : mq_M) (hr : rg r) (hpo : mq_all (post as ρ μ r ρ' μ')) (hpk : mq_pk pk ρ ρ') (hag : mq_ag md' μ μ') (hmono : ∀ k, ρ.2.2.2.2 k = true → ρ'.2.2.2.2 k = true) : k r ρ' μ' := by
  obtain ⟨nw, sp, tl, tx, al⟩ := ρ
  obtain ⟨nw', sp', tl', tx', al'⟩ := ρ'
  match pk, h, hpk with
  | 0, h, hpk =>
    cases hpk
    match md', h, hag with
    | 0, h, hag =>
      have e : μ' = μ := funext fun j => hag j (Nat.zero_testBit _)
      subst e
      exact mq_imp_all _ _ (h r hr) hpo
    | n + 1, h, hag => exact mq_imp_all _ _ (h μ' hag r hr) hpo
  | 1, h, hpk =>
    obtain ⟨e1, e2, e3, e4⟩ := hpk
    simp only at e1 e2 e3 e4
    subst e1; subst e2; subst e3; subst e4
    exact mq_imp_all _ _ (h al' μ' hmono hag r hr) hpo
  | _ + 2, h, _ => exact mq_imp_all _ _ (h nw' sp' tl' tx' al' μ' hmono hag r hr) hpo
theorem mq_rgk_spec {rk : Nat} {k : (Int → Prop) → Prop} (h : mq_rgk rk k) : k (mq_rgo rk) := by
  match rk, h with
  | 0, h => exact h
  | 1, h => exact h
  | _ + 2, h => exact h
theorem mq_res_spec {rk : Nat} {r : Int} {k : List mq_V → Prop} (h : mq_res rk r st k) : k (mq_rs rk r st) := by
  match rk, h with
  | 0, h => exact h
  | 1, h => exact h
  | _ + 2, h => exact h
set_option maxHeartbeats 8000000 in
theorem mq_step (X : mq_cx p s m args meth c cc own nL G) (Y : mq_cy A ad0 s) {cl : List mq_C} {T : mq_T} {MC fr lo rk : Nat} {F : Int → mq_R → mq_M → Nat → Prop} {ins : Instr} {nx : mq_N} {jp : Nat → mq_N} (hcl : ∀ q ∈ cl, mq_Ct lc q) (hT : mq_Tok own cl T) (hR : 16 * MC ≤ R.cells ∧ 6416 * MC ≤ R.slots ∧ fr ≤ R.frames ∧ lo ≤ R.locals) (hcs : cs ≤ MC) (hv : mq_vb own cc cl md fr lo rk T ins pc nxt = true)
    (hnx : ∀ (l : mq_L) (st : List mq_V) (ρ : mq_R) (μ : mq_M) (cs : Nat), cs ≤ MC → nx l st ρ μ cs → mq_W p lc e R s m args below meth c G nL A ad0 ρ0 md μ0 Q nxt l st ρ μ cs) (hjp : ∀ (t : Nat) (l : mq_L) (st : List mq_V) (ρ : mq_R) (μ : mq_M) (cs : Nat), cs ≤ MC → jp t l st ρ μ cs → mq_W p lc e R s m args below meth c G nL A ad0 ρ0 md μ0 Q t l st ρ μ cs)
    (hF : ∀ (v : Int) (l : mq_L) (st : List mq_V) (ρ : mq_R) (μ : mq_M) (cs : Nat), ((rk = 0 ∧ st = [] ∧ v = 0 ∧ decode cc pc = .ok (.return_, 1)) ∨ (rk = 1 ∧ st = [.inl v] ∧ decode cc pc = .ok (.ireturn, 1)) ∨ (rk = 2 ∧ st = [.inr (.inl v)] ∧ decode cc pc = .ok (.lreturn, 1))) → F v ρ μ cs → mq_W p lc e R s m args below meth c G nL A ad0 ρ0 md μ0 Q pc l st ρ μ cs)
    (h : mq_op mq_fm mq_rg mq_rp cl md MC F ins l st ρ μ cs nx jp) : mq_W p lc e R s m args below meth c G nL A ad0 ρ0 md μ0 Q pc l st ρ μ cs := by
  cases ins
  case iload i =>
    obtain ⟨v, hi, h⟩ := mq_ld_spec h
    rcases v with x | x <;> first | exact False.elim h | exact mq_s_iload X hi ((mq_dl hv).imp id (fun q => ⟨_, q⟩)) (hnx _ _ _ _ _ hcs h)
  case lload i =>
    obtain ⟨v, hi, h⟩ := mq_ld_spec h
    rcases v with x | (x | x) <;> first | exact False.elim h | exact mq_s_lload X hi ((mq_dl hv).imp id (fun q => ⟨_, q⟩)) (hnx _ _ _ _ _ hcs h)
  case aload i =>
    obtain ⟨v, hi, h⟩ := mq_ld_spec h
    rcases v with x | (x | (_ | x)) <;> first | exact False.elim h | exact mq_s_aload X hi ((mq_dl hv).imp id (fun q => ⟨_, q⟩)) (hnx _ _ _ _ _ hcs h) | exact mq_s_aloadN X hi ((mq_dl hv).imp id (fun q => ⟨_, q⟩)) (hnx _ _ _ _ _ hcs h)
  case istore i =>
    rcases st with _ | ⟨x | x, st⟩ <;> first | exact False.elim h | exact mq_s_istore X ((mq_dl hv).imp id (fun q => ⟨_, q⟩)) (mq_st_mono (fun l h => hnx l _ _ _ _ hcs h) h)
  case astore i =>
    rcases st with _ | ⟨x | (x | (_ | x)), st⟩ <;> first | exact False.elim h | exact mq_s_astore X ((mq_dl hv).imp id (fun q => ⟨_, q⟩)) (mq_st_mono (fun l h => hnx l _ _ _ _ hcs h) h) | exact mq_s_astoreN X ((mq_dl hv).imp id (fun q => ⟨_, q⟩)) (mq_st_mono (fun l h => hnx l _ _ _ _ hcs h) h)
  case lstore i =>
    rcases st with _ | ⟨x | (x | x), st⟩ <;> first | exact False.elim h | exact mq_s_lstore X ((mq_dl hv).imp id (fun q => ⟨_, q⟩)) (mq_st2_mono (fun l h => hnx l _ _ _ _ hcs h) h)
  case iinc i d =>
    obtain ⟨v, hi, h⟩ := mq_ld_spec h
    rcases v with x | x
    · exact mq_s_iinc X hi (And.left h) (mq_dq_spec hv) (mq_st_mono (fun l h => hnx l _ _ _ _ hcs h) (And.right h))
    · exact False.elim h
  case ret i =>
    obtain ⟨v, hi, h⟩ := mq_ld_spec h
    rcases v with x | x
    · exact mq_s_iincW X hi (mq_dq_spec hv) (fun r h1 h2 => mq_st_mono (fun l h => hnx l _ _ _ _ hcs h) (h r h1 h2))
    · exact False.elim h
  case iconst d =>
    have hv : (decide (mq_in d) && ((decide (-1 ≤ d ∧ d ≤ 5) && mq_dq cc pc (.iconst d) 1 nxt) || (decide (-128 ≤ d ∧ d ≤ 127) && mq_dq cc pc (.bipush d) 2 nxt) || (decide (-32768 ≤ d ∧ d ≤ 32767) && mq_dq cc pc (.sipush d) 3 nxt) || T.2.1.any (fun q => decide (q.2 = d) && (mq_dq cc pc (.ldc q.1) 2 nxt || mq_dq cc pc (.ldc_w q.1) 3 nxt)))) = true := hv
    rename_i hv0
    clear hv0
    simp only [Bool.and_eq_true, Bool.or_eq_true, decide_eq_true_eq] at hv
    obtain ⟨hr, hv⟩ := hv
    refine mq_s_iconst X hr ?_ (hnx _ _ _ _ _ hcs h)
    rcases hv with ((hv | hv) | hv) | hv
    · exact Or.inl ⟨(mq_dq_spec hv.2).2, (mq_dq_spec hv.2).1⟩
    · exact Or.inr (Or.inl ⟨(mq_dq_spec hv.2).2, hv.1, (mq_dq_spec hv.2).1⟩)
    · exact Or.inr (Or.inr (Or.inl ⟨(mq_dq_spec hv.2).2, hv.1, (mq_dq_spec hv.2).1⟩))
    · obtain ⟨q, hq, hz⟩ := List.any_eq_true.mp hv
      clear hv
      simp only [Bool.and_eq_true, Bool.or_eq_true, decide_eq_true_eq] at hz
      obtain ⟨e9, hz⟩ := hz
      rw [← e9]
      refine Or.inr (Or.inr (Or.inr ⟨q.1, hT.2.1 q hq, ?_⟩))
      rcases hz with hv | hv
      · exact Or.inl ⟨(mq_dq_spec hv).2, (mq_dq_spec hv).1⟩
      · exact Or.inr ⟨(mq_dq_spec hv).2, (mq_dq_spec hv).1⟩
  case goto_w d =>
    have hv : (decide (mq_inl d) && ((decide (d = 0) && mq_dq cc pc (.lconst 0) 1 nxt) || (decide (d = 1) && mq_dq cc pc (.lconst 1) 1 nxt) || T.2.2.1.any (fun q => decide (q.2 = d) && mq_dq cc pc (.ldc2_w q.1) 3 nxt))) = true := hv
    rename_i hv0
    clear hv0
    simp only [Bool.and_eq_true, Bool.or_eq_true, decide_eq_true_eq] at hv
    obtain ⟨hr, hv⟩ := hv
    refine mq_s_lconst X hr ?_ (hnx _ _ _ _ _ hcs h)
    rcases hv with (⟨e9, hv⟩ | ⟨e9, hv⟩) | hv
    · exact Or.inl ⟨0, e9.symm, (mq_dq_spec hv).2, (mq_dq_spec hv).1⟩
    · exact Or.inl ⟨1, e9.symm, (mq_dq_spec hv).2, (mq_dq_spec hv).1⟩
    · obtain ⟨q, hq, hz⟩ := List.any_eq_true.mp hv
      clear hv
      simp only [Bool.and_eq_true, decide_eq_true_eq] at hz
      obtain ⟨e9, hz⟩ := hz
      rw [← e9]
      exact Or.inr ⟨q.1, hT.2.2.1 q hq, (mq_dq_spec hz).2, (mq_dq_spec hz).1⟩
  case ldc j =>
    obtain ⟨q, hq, hz⟩ := List.any_eq_true.mp hv
    clear hv
    simp only [Bool.and_eq_true, decide_eq_true_eq] at hz
    obtain ⟨⟨e8, e9⟩, hz⟩ := hz
    obtain ⟨hd, hn⟩ := mq_dq_spec hz
    subst e8
    subst hn
    intro ad H locs ls hl ho hw hS hg ha
    have hj : q.2.2.2 < 21 := (show ∀ q ∈ mq_strs, q.2.2.2 < 21 by decide +kernel) q hq
    have kk := hnx _ _ _ _ _ hcs h ad H locs ls hl (ho.push (v := .inr (.inr (some (99, q.2.2.2)))) (Or.inl ⟨(by decide : 94 ≤ 99), hj⟩)) hw hS hg ha
    refine va_ldcS X.1 X.2.1 X.2.2.2.1 (e9 ▸ Y.2.2.1 q hq) hd ?_
    rw [← ha.1 (99, q.2.2.2) (fun z => by cases z)]
    exact kk
  case iadd =>
    rcases st with _ | ⟨b | b, _ | ⟨a | a, st⟩⟩ <;> first | exact False.elim h | exact mq_s_iadd X (And.left h) (mq_dq_spec hv) (hnx _ _ _ _ _ hcs (And.right h))
  case isub =>
    rcases st with _ | ⟨b | b, _ | ⟨a | a, st⟩⟩ <;> first | exact False.elim h | exact mq_s_isub X (And.left h) (mq_dq_spec hv) (hnx _ _ _ _ _ hcs (And.right h))
  case imul =>
    rcases st with _ | ⟨b | b, _ | ⟨a | a, st⟩⟩ <;> first | exact False.elim h | exact mq_s_imul X (And.left h) (mq_dq_spec hv) (hnx _ _ _ _ _ hcs (And.right h))
  case fadd =>
    rcases st with _ | ⟨b | b, _ | ⟨a | a, st⟩⟩ <;> first | exact False.elim h | exact mq_s_fadd X (mq_dq_spec hv) (fun r h1 h2 => hnx _ _ _ _ _ hcs (h r h1 h2))
  case fsub =>
    rcases st with _ | ⟨b | b, _ | ⟨a | a, st⟩⟩ <;> first | exact False.elim h | exact mq_s_fsub X (mq_dq_spec hv) (fun r h1 h2 => hnx _ _ _ _ _ hcs (h r h1 h2))
  case fmul =>
    rcases st with _ | ⟨b | b, _ | ⟨a | a, st⟩⟩ <;> first | exact False.elim h | exact mq_s_fmul X (mq_dq_spec hv) (fun r h1 h2 => hnx _ _ _ _ _ hcs (h r h1 h2))
  case frem =>
    rcases st with _ | ⟨b | b, _ | ⟨a | a, st⟩⟩ <;> first | exact False.elim h | exact mq_s_frem X (mq_dq_spec hv) (fun r h1 h2 => hnx _ _ _ _ _ hcs (h r h1 h2))
  case idiv =>
    rcases st with _ | ⟨b | b, _ | ⟨a | a, st⟩⟩ <;> first | exact False.elim h | exact mq_s_idiv X (And.left h) (mq_dq_spec hv) (fun r h1 h2 h3 => hnx _ _ _ _ _ hcs (And.right h r h1 h2 h3))
  case irem =>
    rcases st with _ | ⟨b | b, _ | ⟨a | a, st⟩⟩ <;> first | exact False.elim h | exact mq_s_irem X (And.left h) (mq_dq_spec hv) (fun r h1 h2 => hnx _ _ _ _ _ hcs (And.right h r h1 h2))
  case ineg =>
    rcases st with _ | ⟨a | a, st⟩ <;> first | exact False.elim h | exact mq_s_ineg X (And.left h) (mq_dq_spec hv) (hnx _ _ _ _ _ hcs (And.right h))
  case iand =>
    rcases st with _ | ⟨b | b, _ | ⟨a | a, st⟩⟩ <;> first | exact False.elim h | exact mq_s_iand X (mq_dq_spec hv) (fun r h1 h2 h3 h4 => hnx _ _ _ _ _ hcs (h r h1 h2 h3 h4))
  case ior =>
    rcases st with _ | ⟨b | b, _ | ⟨a | a, st⟩⟩ <;> first | exact False.elim h | exact mq_s_ior X (mq_dq_spec hv) (fun r h1 h2 => hnx _ _ _ _ _ hcs (h r h1 h2))
  case ishl =>
    rcases st with _ | ⟨b | b, _ | ⟨a | a, st⟩⟩ <;> first | exact False.elim h | exact mq_s_ishl X (mq_dq_spec hv) (fun r h1 h2 => hnx _ _ _ _ _ hcs (h r h1 h2))
  case ishr =>
    rcases st with _ | ⟨b | b, _ | ⟨a | a, st⟩⟩ <;> first | exact False.elim h | exact mq_s_ishr X (mq_dq_spec hv) (fun r h1 h2 => hnx _ _ _ _ _ hcs (h r h1 h2))
  case iushr =>
    rcases st with _ | ⟨b | b, _ | ⟨a | a, st⟩⟩ <;> first | exact False.elim h | exact mq_s_iushr X (mq_dq_spec hv) (fun r h1 => hnx _ _ _ _ _ hcs (h r h1))
  case ixor =>
    rcases st with _ | ⟨b | b, _ | ⟨a | a, st⟩⟩ <;> first | exact False.elim h | exact mq_s_ixor X (mq_dq_spec hv) (fun r h1 => hnx _ _ _ _ _ hcs (h r h1))
  case i2l =>
    rcases st with _ | ⟨a | a, st⟩ <;> first | exact False.elim h | exact mq_s_i2l X (mq_dq_spec hv) (hnx _ _ _ _ _ hcs h)
  case l2i =>
    rcases st with _ | ⟨a | (a | a), st⟩ <;> first | exact False.elim h | exact mq_s_l2i X (mq_dq_spec hv) (fun r h1 h2 => hnx _ _ _ _ _ hcs (h r h1 h2))
  case i2b =>
    rcases st with _ | ⟨a | a, st⟩ <;> first | exact False.elim h | exact mq_s_i2b X (mq_dq_spec hv) (fun r h1 h2 h3 => hnx _ _ _ _ _ hcs (h r h1 h2 h3))
  case i2s =>
    rcases st with _ | ⟨a | a, st⟩ <;> first | exact False.elim h | exact mq_s_i2s X (mq_dq_spec hv) (fun r h1 h2 h3 => hnx _ _ _ _ _ hcs (h r h1 h2 h3))
  case ladd =>
    rcases st with _ | ⟨b | (b | b), _ | ⟨a | (a | a), st⟩⟩ <;> first | exact False.elim h | exact mq_s_ladd X (And.left h) (mq_dq_spec hv) (hnx _ _ _ _ _ hcs (And.right h))
  case lsub =>
    rcases st with _ | ⟨b | (b | b), _ | ⟨a | (a | a), st⟩⟩ <;> first | exact False.elim h | exact mq_s_lsub X (And.left h) (mq_dq_spec hv) (hnx _ _ _ _ _ hcs (And.right h))
  case lmul =>
    rcases st with _ | ⟨b | (b | b), _ | ⟨a | (a | a), st⟩⟩ <;> first | exact False.elim h | exact mq_s_lmul X (And.left h) (mq_dq_spec hv) (hnx _ _ _ _ _ hcs (And.right h))
  case dadd =>
    rcases st with _ | ⟨b | (b | b), _ | ⟨a | (a | a), st⟩⟩ <;> first | exact False.elim h | exact mq_s_dadd X (mq_dq_spec hv) (fun r h1 h2 => hnx _ _ _ _ _ hcs (h r h1 h2))
  case dsub =>
    rcases st with _ | ⟨b | (b | b), _ | ⟨a | (a | a), st⟩⟩ <;> first | exact False.elim h | exact mq_s_dsub X (mq_dq_spec hv) (fun r h1 h2 => hnx _ _ _ _ _ hcs (h r h1 h2))
  case dmul =>
    rcases st with _ | ⟨b | (b | b), _ | ⟨a | (a | a), st⟩⟩ <;> first | exact False.elim h | exact mq_s_dmul X (mq_dq_spec hv) (fun r h1 h2 => hnx _ _ _ _ _ hcs (h r h1 h2))
  case ldiv =>
    rcases st with _ | ⟨b | (b | b), _ | ⟨a | (a | a), st⟩⟩ <;> first | exact False.elim h | exact mq_s_ldiv X (And.left h) (mq_dq_spec hv) (fun r h1 h2 => hnx _ _ _ _ _ hcs (And.right h r h1 h2))
  case lrem =>
    rcases st with _ | ⟨b | (b | b), _ | ⟨a | (a | a), st⟩⟩ <;> first | exact False.elim h | exact mq_s_lrem X (And.left h) (mq_dq_spec hv) (fun r h1 h2 => hnx _ _ _ _ _ hcs (And.right h r h1 h2))
  case lcmp =>
    rcases st with _ | ⟨b | (b | b), _ | ⟨a | (a | a), st⟩⟩ <;> first | exact False.elim h | exact mq_s_lcmp X (mq_dq_spec hv) (fun r h1 h2 => hnx _ _ _ _ _ hcs (h r h1 h2))
  case dup =>
    rcases st with _ | ⟨a | (a | (_ | a)), st⟩ <;> first | exact False.elim h | exact mq_s_dup X rfl (mq_dq_spec hv) (hnx _ _ _ _ _ hcs h)
  case dup2 =>
    rcases st with _ | ⟨a | (a | (_ | a)), _ | ⟨b | (b | (_ | b)), st⟩⟩ <;> first | exact False.elim h | exact mq_s_dup2 X rfl rfl (mq_dq_spec hv) (hnx _ _ _ _ _ hcs h)
  case pop =>
    rcases st with _ | ⟨a | (a | (_ | a)), st⟩ <;> first | exact False.elim h | exact mq_s_pop X rfl (mq_dq_spec hv) (hnx _ _ _ _ _ hcs h)
  case if_icmp cn t =>
    have hv2 := Bool.and_eq_true_iff.mp hv
    have ht := of_decide_eq_true hv2.1
    obtain ⟨hd, hn⟩ := mq_dq_spec hv2.2
    rcases st with _ | ⟨b | b, _ | ⟨a | a, st⟩⟩ <;> first | exact False.elim h | skip
    cases cn
    · exact mq_s_icmp_eq X ⟨hd, hn, mq_tg ht⟩ ⟨fun q => hjp _ _ _ _ _ _ hcs (And.left h q), fun q => hnx _ _ _ _ _ hcs (And.right h q)⟩
    · exact mq_s_icmp_ne X ⟨hd, hn, mq_tg ht⟩ ⟨fun q => hjp _ _ _ _ _ _ hcs (And.left h q), fun q => hnx _ _ _ _ _ hcs (And.right h q)⟩
    · exact mq_s_icmp_lt X ⟨hd, hn, mq_tg ht⟩ ⟨fun q => hjp _ _ _ _ _ _ hcs (And.left h q), fun q => hnx _ _ _ _ _ hcs (And.right h q)⟩
    · exact mq_s_icmp_ge X ⟨hd, hn, mq_tg ht⟩ ⟨fun q => hjp _ _ _ _ _ _ hcs (And.left h q), fun q => hnx _ _ _ _ _ hcs (And.right h q)⟩
    · exact mq_s_icmp_gt X ⟨hd, hn, mq_tg ht⟩ ⟨fun q => hjp _ _ _ _ _ _ hcs (And.left h q), fun q => hnx _ _ _ _ _ hcs (And.right h q)⟩
    · exact mq_s_icmp_le X ⟨hd, hn, mq_tg ht⟩ ⟨fun q => hjp _ _ _ _ _ _ hcs (And.left h q), fun q => hnx _ _ _ _ _ hcs (And.right h q)⟩
  case ifCond cn t =>
    have hv2 := Bool.and_eq_true_iff.mp hv
    have ht := of_decide_eq_true hv2.1
    obtain ⟨hd, hn⟩ := mq_dq_spec hv2.2
    rcases st with _ | ⟨a | a, st⟩ <;> first | exact False.elim h | skip
    cases cn
    · exact mq_s_if_eq X ⟨hd, hn, mq_tg ht⟩ ⟨fun q => hjp _ _ _ _ _ _ hcs (And.left h q), fun q => hnx _ _ _ _ _ hcs (And.right h q)⟩
    · exact mq_s_if_ne X ⟨hd, hn, mq_tg ht⟩ ⟨fun q => hjp _ _ _ _ _ _ hcs (And.left h q), fun q => hnx _ _ _ _ _ hcs (And.right h q)⟩
    · exact mq_s_if_lt X ⟨hd, hn, mq_tg ht⟩ ⟨fun q => hjp _ _ _ _ _ _ hcs (And.left h q), fun q => hnx _ _ _ _ _ hcs (And.right h q)⟩
    · exact mq_s_if_ge X ⟨hd, hn, mq_tg ht⟩ ⟨fun q => hjp _ _ _ _ _ _ hcs (And.left h q), fun q => hnx _ _ _ _ _ hcs (And.right h q)⟩
    · exact mq_s_if_gt X ⟨hd, hn, mq_tg ht⟩ ⟨fun q => hjp _ _ _ _ _ _ hcs (And.left h q), fun q => hnx _ _ _ _ _ hcs (And.right h q)⟩
    · exact mq_s_if_le X ⟨hd, hn, mq_tg ht⟩ ⟨fun q => hjp _ _ _ _ _ _ hcs (And.left h q), fun q => hnx _ _ _ _ _ hcs (And.right h q)⟩
  case goto t =>
    have hv2 := Bool.and_eq_true_iff.mp hv
    exact mq_s_goto X ⟨of_decide_eq_true hv2.2, mq_tg (of_decide_eq_true hv2.1)⟩ (hjp _ _ _ _ _ _ hcs h)
  case ifnull t =>
    have hv2 := Bool.and_eq_true_iff.mp hv
    obtain ⟨hd, hn⟩ := mq_dq_spec hv2.2
    rcases st with _ | ⟨a | (a | (_ | a)), st⟩ <;> first
      | exact False.elim h
      | exact mq_s_ifnull_n X ⟨hd, mq_tg (of_decide_eq_true hv2.1)⟩ (hjp _ _ _ _ _ _ hcs h)
      | exact mq_s_ifnull_s X ⟨hd, hn⟩ (hnx _ _ _ _ _ hcs h)
  case ifnonnull t =>
    have hv2 := Bool.and_eq_true_iff.mp hv
    obtain ⟨hd, hn⟩ := mq_dq_spec hv2.2
    rcases st with _ | ⟨a | (a | (_ | a)), st⟩ <;> first
      | exact False.elim h
      | exact mq_s_ifnonnull_n X ⟨hd, hn⟩ (hnx _ _ _ _ _ hcs h)
      | exact mq_s_ifnonnull_s X ⟨hd, mq_tg (of_decide_eq_true hv2.1)⟩ (hjp _ _ _ _ _ _ hcs h)
  case invokeinterface ci k =>
    obtain ⟨q, hq, hv⟩ := List.any_eq_true.mp hv
    simp only [Bool.and_eq_true] at hv
    obtain ⟨⟨e1, e2⟩, hv⟩ := hv
    have hlk : mq_flw own (q.1, ci, k) := by have := hT.1 q hq; rw [show q = (q.1, ci, k) from Prod.ext rfl (Prod.ext (Nat.eq_of_beq_eq_true e1) (Nat.eq_of_beq_eq_true e2))] at this; exact this
    have hd := mq_dq_spec hv
    rcases st with _ | ⟨a | (a | (_ | ⟨f, i⟩)), st⟩ <;> first | exact False.elim h | skip
    simp only [mq_op] at h
    split at h
    · rename_i ci' n bs hf
      cases hb : Nat.beq ci' ci with
      | false => rw [hb] at h; exact False.elim h
      | true =>
        rw [hb] at h
        obtain rfl := Nat.eq_of_beq_eq_true hb
        obtain ⟨b, hb, h⟩ := mq_nth_spec h
        obtain ⟨ty, hty⟩ := mq_tk_rng hf hb
        match b, hb, h, hty with
        | (0, lo1, hi1), hb, h, hty =>
          refine mq_s_get X (v := .inl (μ (f, i) k)) hf hb hlk hd (fun ad => (mq_fv_int (Or.inl hb)).symm) (fun _ _ hbk _ => ?_) ?_
          · have := mq_get_rng (i := i) hbk hf hb
            rcases mq_tk0 hty with ⟨-, h1, h2⟩ | ⟨-, h1, h2⟩ <;> exact ⟨by omega, by omega⟩
          · intro ad H locs ls hl ho hw hS hg ha
            have := mq_get_rng (i := i) hw.2.2.1 hf hb
            exact hnx _ _ _ _ _ hcs (h _ rfl this.1 this.2) ad H locs ls hl ho hw hS hg ha
        | (1, lo1, hi1), hb, h, hty =>
          refine mq_s_get X (v := .inr (.inl (μ (f, i) k))) hf hb hlk hd (fun ad => (mq_fv_long hb).symm) (fun _ _ hbk _ => ?_) ?_
          · have := mq_get_rng (i := i) hbk hf hb
            obtain ⟨-, h1, h2⟩ := mq_tk1 hty
            exact ⟨by omega, by omega⟩
          · intro ad H locs ls hl ho hw hS hg ha
            have := mq_get_rng (i := i) hw.2.2.1 hf hb
            exact hnx _ _ _ _ _ hcs (h _ rfl this.1 this.2) ad H locs ls hl ho hw hS hg ha
        | (2, lo1, hi1), hb, h, hty =>
          refine mq_s_get X (v := .inl (μ (f, i) k)) hf hb hlk hd (fun ad => (mq_fv_int (Or.inr hb)).symm) (fun _ _ hbk _ => ?_) ?_
          · have := mq_get_rng (i := i) hbk hf hb
            obtain ⟨h1, h2, h3⟩ := mq_tk2 hty
            exact ⟨by omega, by omega⟩
          · intro ad H locs ls hl ho hw hS hg ha
            have := mq_get_rng (i := i) hw.2.2.1 hf hb
            obtain ⟨h1, h2, h3⟩ := mq_tk2 hty
            have e9 : μ (f, i) k = lo1 := by omega
            rw [e9] at ho ⊢
            exact hnx _ _ _ _ _ hcs h ad H locs ls hl ho hw hS hg ha
        | (z + 3, lo1, hi1), hb, h, hty =>
          have hkn : k < n := by
            obtain ⟨-, hlen, -⟩ := mq_fb_obj hf
            rw [← hlen]; exact (List.getElem?_eq_some_iff.mp hb).1
          refine mq_s_get X (v := .inr (.inr (mq_rg ρ (f, i) k))) hf hb hlk hd (fun ad => (mq_fv_ref hb).symm) (fun _ hin _ hrk => ?_) ?_
          · cases hj : mq_rg ρ (f, i) k with
            | none => exact trivial
            | some j => exact Or.inr (mq_rg_ok hrk hin (mq_k60 hf hkn) (by rw [hf]; exact hkn) hj)
          · simp only at h
            cases hj : mq_rg ρ (f, i) k with
            | none => rw [hj] at h; exact hnx _ _ _ _ _ hcs h
            | some j => rw [hj] at h; exact hnx _ _ _ _ _ hcs h
    · exact False.elim h
  case multianewarray ci k =>
    have hv2 := Bool.and_eq_true_iff.mp hv
    have hfin : ∀ r : vw_C, vwCl[ci]? = some r → (r.2.1 k).2.2.2 = false := fun r hr => by
      have h9 := hv2.1
      rw [hr] at h9
      simpa using h9
    have hv := hv2.2
    obtain ⟨q, hq, hv⟩ := List.any_eq_true.mp hv
    simp only [Bool.and_eq_true] at hv
    obtain ⟨⟨e1, e2⟩, hv⟩ := hv
    have hlk : mq_flw own (q.1, ci, k) := by have := hT.1 q hq; rw [show q = (q.1, ci, k) from Prod.ext rfl (Prod.ext (Nat.eq_of_beq_eq_true e1) (Nat.eq_of_beq_eq_true e2))] at this; exact this
    have hd := mq_dq_spec hv
    rcases st with _ | ⟨v | (v | (_ | j)), _ | ⟨a | (a | (_ | ⟨f, i⟩)), st⟩⟩ <;> first | exact False.elim h | skip
    · simp only [mq_op] at h
      split at h
      · rename_i ci' n bs hf
        cases hb : (Nat.beq ci' ci && Nat.testBit md f) with
        | false => rw [hb] at h; exact False.elim h
        | true =>
          rw [hb] at h
          obtain ⟨hb1, hmd⟩ := Bool.and_eq_true_iff.mp hb
          obtain rfl := Nat.eq_of_beq_eq_true hb1
          obtain ⟨b, hb, h⟩ := mq_nth_spec h
          match b, hb, h with
          | (0, lo1, hi1), hb, h =>
            refine mq_put X (ρ' := ρ) (μ' := mq_up μ (f, i) k v) hf hb hlk hfin hd (fun ty ad hty hok => ?_) (fun ad => ?_) rfl (fun k' hk' => ⟨by simp [mq_up, hk'], rfl⟩) (fun j' hj' => ⟨mq_up_ne μ k v hj', fun _ => rfl⟩) (fun hbk => mq_bok_up hbk (by rw [mq_bd_obj hf hb]; exact And.left h)) (fun hr _ => hr) (fun hg => mq_ag_up hg hmd) (hnx _ _ _ _ _ hcs (And.right h))
            · have h9 := And.left h
              rcases mq_tk0 hty with ⟨rfl, h1, h2⟩ | ⟨rfl, h1, h2⟩
              · exact ⟨rfl, rfl⟩
              · exact (mq_narz ⟨by omega, by omega⟩).2
            · rw [mq_fv_int (Or.inl hb), mq_up_self]
              simp
          | (1, _, _), _, h => exact False.elim h
          | (2, _, _), _, h => exact False.elim h
          | (z + 3, _, _), _, h => exact False.elim h
      · exact False.elim h
    · simp only [mq_op] at h
      split at h
      · rename_i ci' n bs hf
        cases hb : (Nat.beq ci' ci && Nat.testBit md f) with
        | false => rw [hb] at h; exact False.elim h
        | true =>
          rw [hb] at h
          obtain ⟨hb1, hmd⟩ := Bool.and_eq_true_iff.mp hb
          obtain rfl := Nat.eq_of_beq_eq_true hb1
          obtain ⟨b, hb, h⟩ := mq_nth_spec h
          match b, hb, h with
          | (1, lo1, hi1), hb, h =>
            refine mq_put X (ρ' := ρ) (μ' := mq_up μ (f, i) k v) hf hb hlk hfin hd (fun ty ad hty hok => ?_) (fun ad => ?_) rfl (fun k' hk' => ⟨by simp [mq_up, hk'], rfl⟩) (fun j' hj' => ⟨mq_up_ne μ k v hj', fun _ => rfl⟩) (fun hbk => mq_bok_up hbk (by rw [mq_bd_obj hf hb]; exact And.left h)) (fun hr _ => hr) (fun hg => mq_ag_up hg hmd) (hnx _ _ _ _ _ hcs (And.right h))
            · obtain ⟨rfl, -, -⟩ := mq_tk1 hty
              exact ⟨rfl, rfl⟩
            · rw [mq_fv_long hb, mq_up_self]
              simp
          | (0, _, _), _, h => exact False.elim h
          | (2, _, _), _, h => exact False.elim h
          | (z + 3, _, _), _, h => exact False.elim h
      · exact False.elim h
    · simp only [mq_op] at h
      split at h
      · rename_i ci' n bs hf
        cases hb : Nat.beq ci' ci with
        | false => rw [hb] at h; exact False.elim h
        | true =>
          rw [hb] at h
          obtain rfl := Nat.eq_of_beq_eq_true hb
          obtain ⟨b, hb, h⟩ := mq_nth_spec h
          match b, hb, h with
          | (z + 3, lo1, hi1), hb, h =>
            simp only at h
            cases hρ : mq_rp ρ (f, i) k j with
            | none => rw [hρ] at h; exact False.elim h
            | some ρ' =>
              rw [hρ] at h
              obtain ⟨g1, g2, g3, g4⟩ := mq_rp_spec hρ
              refine mq_put X (ρ' := ρ') (μ' := μ) hf hb hlk hfin hd (fun ty ad hty hok => ?_) (fun ad => ?_) g1 (fun k' hk' => ⟨rfl, g3 f i k' (fun _ => hk')⟩) (fun j' hj' => ⟨rfl, fun k' => g3 j'.1 j'.2 k' (fun q => absurd (Prod.ext q.1 q.2) hj')⟩) (fun hbk => hbk) (fun hr hok => g4 hr ?_) (fun hg => hg) (hnx _ _ _ _ _ hcs h)
              · have h9 := mq_tk3 hty
                cases ty <;> first | exact ⟨rfl, rfl⟩ | cases h9
              · rw [mq_fv_ref hb, g2]
              · rcases hok with h9 | h9
                · exact absurd hρ (mq_rp_99 h9.1)
                · exact h9
          | (0, _, _), _, h => exact False.elim h
          | (1, _, _), _, h => exact False.elim h
          | (2, _, _), _, h => exact False.elim h
      · exact False.elim h
  case iaload =>
    rcases st with _ | ⟨x | x, _ | ⟨a | (a | (_ | ⟨f, i⟩)), st⟩⟩ <;> first | exact False.elim h | skip
    simp only [mq_op] at h
    split at h
    · rename_i n bs hf
      refine mq_s_iald X hf (mq_dq_spec hv) (fun hbk => ?_)
      obtain ⟨hx, h⟩ := mq_rd_spec hf hbk h
      exact ⟨hx, hnx _ _ _ _ _ hcs h⟩
    · exact False.elim h
  case baload =>
    rcases st with _ | ⟨x | x, _ | ⟨a | (a | (_ | ⟨f, i⟩)), st⟩⟩ <;> first | exact False.elim h | skip
    simp only [mq_op] at h
    split at h
    · rename_i n bs hf
      refine mq_s_bald X hf (mq_dq_spec hv) (fun hbk => ?_)
      obtain ⟨hx, h⟩ := mq_rd_spec hf hbk h
      exact ⟨hx, hnx _ _ _ _ _ hcs h⟩
    · rename_i n bs hf
      refine mq_s_zald X hf (mq_dq_spec hv) (fun hbk => ?_)
      obtain ⟨hx, h⟩ := mq_rd_spec hf hbk h
      exact ⟨hx, hnx _ _ _ _ _ hcs h⟩
    · exact False.elim h
  case laload =>
    rcases st with _ | ⟨x | x, _ | ⟨a | (a | (_ | ⟨f, i⟩)), st⟩⟩ <;> first | exact False.elim h | skip
    simp only [mq_op] at h
    split at h
    · rename_i n bs hf
      refine mq_s_lald X hf (mq_dq_spec hv) (fun hbk => ?_)
      obtain ⟨hx, h⟩ := mq_rd_spec hf hbk h
      exact ⟨hx, hnx _ _ _ _ _ hcs h⟩
    · exact False.elim h
  case jsr r =>
    have hv2 := Bool.and_eq_true_iff.mp hv
    have hr0 := of_decide_eq_true hv2.1
    rcases st with _ | ⟨x | x, _ | ⟨a | (a | (_ | ⟨f, i⟩)), st⟩⟩ <;> first | exact False.elim h | skip
    simp only [mq_op] at h
    split at h
    · rename_i n m a0 b0 bs hf
      have hm : m = ((m, a0, b0) :: bs).length := mq_fb_mod hf _ List.mem_cons_self
      refine mq_s_iald X hf (mq_dq_spec hv2.2) (fun hbk => ?_)
      obtain ⟨hx, hc, h⟩ := h
      obtain ⟨b, hb, h⟩ := mq_nth_spec h
      obtain ⟨z, lo1, hi1⟩ := b
      have h9 := mq_arr_bd (i := i) hbk hf hx.1 hb (by rw [← hm, hc, Int.toNat_of_nonneg hr0])
      exact ⟨hx, hnx _ _ _ _ _ hcs (h _ rfl h9.1 h9.2)⟩
    · exact False.elim h
  case iastore =>
    rcases st with _ | ⟨v | v, _ | ⟨x | x, _ | ⟨a | (a | (_ | ⟨f, i⟩)), st⟩⟩⟩ <;> first | exact False.elim h | skip
    simp only [mq_op] at h
    split at h
    · rename_i n bs hf
      cases hm : Nat.testBit md f with
      | false => rw [hm] at h; exact False.elim h
      | true =>
        rw [hm] at h
        obtain ⟨hx, hv9, h⟩ := mq_wr_spec hf (mq_fb_arr (mq_in94 (i := i) hf (by decide)) hf).2.1 h
        exact mq_s_iast X hf hm (mq_dq_spec hv) hx hv9 (hnx _ _ _ _ _ hcs h)
    · exact False.elim h
  case bastore =>
    rcases st with _ | ⟨v | v, _ | ⟨x | x, _ | ⟨a | (a | (_ | ⟨f, i⟩)), st⟩⟩⟩ <;> first | exact False.elim h | skip
    simp only [mq_op] at h
    split at h
    · rename_i n bs hf
      cases hm : Nat.testBit md f with
      | false => rw [hm] at h; exact False.elim h
      | true =>
        rw [hm] at h
        obtain ⟨hx, hv9, h⟩ := mq_wr_spec hf (mq_fb_arr (mq_in94 (i := i) hf (by decide)) hf).2.1 h
        exact mq_s_bast X hf hm (mq_dq_spec hv) hx hv9 (hnx _ _ _ _ _ hcs h)
    · rename_i n bs hf
      cases hm : Nat.testBit md f with
      | false => rw [hm] at h; exact False.elim h
      | true =>
        rw [hm] at h
        obtain ⟨hx, hv9, h⟩ := mq_wr_spec hf (mq_fb_arr (mq_in94 (i := i) hf (by decide)) hf).2.1 h
        exact mq_s_zast X hf hm (mq_dq_spec hv) hx hv9 (hnx _ _ _ _ _ hcs h)
    · exact False.elim h
  case lastore =>
    rcases st with _ | ⟨v | (v | v), _ | ⟨x | x, _ | ⟨a | (a | (_ | ⟨f, i⟩)), st⟩⟩⟩ <;> first | exact False.elim h | skip
    simp only [mq_op] at h
    split at h
    · rename_i n bs hf
      cases hm : Nat.testBit md f with
      | false => rw [hm] at h; exact False.elim h
      | true =>
        rw [hm] at h
        obtain ⟨hx, hv9, h⟩ := mq_wr_spec hf (mq_fb_arr (mq_in94 (i := i) hf (by decide)) hf).2.1 h
        exact mq_s_last X hf hm (mq_dq_spec hv) hx hv9 (hnx _ _ _ _ _ hcs h)
    · exact False.elim h
  case jsr_w r =>
    have hv2 := Bool.and_eq_true_iff.mp hv
    have hr0 := of_decide_eq_true hv2.1
    rcases st with _ | ⟨v | v, _ | ⟨x | x, _ | ⟨a | (a | (_ | ⟨f, i⟩)), st⟩⟩⟩ <;> first | exact False.elim h | skip
    simp only [mq_op] at h
    split at h
    · rename_i n m a0 b0 bs hf
      have hm0 : m = ((m, a0, b0) :: bs).length := mq_fb_mod hf _ List.mem_cons_self
      cases hm : Nat.testBit md f with
      | false => rw [hm] at h; exact False.elim h
      | true =>
        rw [hm] at h
        obtain ⟨hx, hc, h⟩ := h
        obtain ⟨b, hb, h⟩ := mq_nth_spec h
        obtain ⟨z, lo1, hi1⟩ := b
        refine mq_s_iast X hf hm (mq_dq_spec hv2.2) hx ?_ (hnx _ _ _ _ _ hcs (And.right h))
        have e9 : x.toNat % ((m, a0, b0) :: bs).length = r.toNat := by have := mq_colmod (x := x) (m := ((m, a0, b0) :: bs).length) hx.1; rw [← hm0] at this ⊢; omega
        rw [mq_bd_arr hf, e9]
        simp only [List.getD, hb, Option.getD_some]
        exact And.left h
    · exact False.elim h
  case arraylength =>
    rcases st with _ | ⟨a | (a | (_ | ⟨f, i⟩)), st⟩ <;> first | exact False.elim h | skip
    simp only [mq_op] at h
    split at h
    · rename_i t n bs hf
      cases hb : Nat.ble t 6 with
      | false => rw [hb] at h; exact False.elim h
      | true =>
        rw [hb] at h
        have := Nat.le_of_ble_eq_true hb
        exact mq_s_alen X (by omega) hf (mq_dq_spec hv) (hnx _ _ _ _ _ hcs h)
    · exact False.elim h
  case aaload =>
    rcases st with _ | ⟨x | x, _ | ⟨a | (a | (_ | ⟨f, i⟩)), st⟩⟩ <;> first | exact False.elim h | skip
    simp only [mq_op] at h
    split at h
    · rename_i n bs hf
      obtain ⟨hx, h1, h2⟩ := h
      have hn60 := mq_n60 (i := i) hf (by decide)
      refine mq_s_aald X (Or.inr (Or.inr rfl)) hf (mq_dq_spec hv) hx hn60 ?_
      have h8 : (mq_rt f x.toNat) = (1, 8) := mq_rt_8 hf (by omega)
      obtain ⟨nw, sp, tl, tx, al⟩ := ρ
      have e8 : mq_rg (nw, sp, tl, tx, al) (f, i) x.toNat = bif al x.toNat then some (1, x.toNat) else none := by simp only [mq_rg, h8]
      rw [e8]
      cases hal : al x.toNat with
      | false => exact hnx _ _ _ _ _ hcs (h1 hal)
      | true => exact hnx _ _ _ _ _ hcs (h2 hal)
    · rename_i n bs hf
      obtain ⟨hx, h⟩ := h
      have hn60 := mq_n60 (i := i) hf (by decide)
      refine mq_s_aald X (Or.inl rfl) hf (mq_dq_spec hv) hx hn60 ?_
      have h8 : (mq_rt f x.toNat) = (2, 6) := mq_rt_6 hf (by omega)
      obtain ⟨nw, sp, tl, tx, al⟩ := ρ
      have e8 : mq_rg (nw, sp, tl, tx, al) (f, i) x.toNat = some (2, x.toNat + 2) := by simp only [mq_rg, h8]
      rw [e8]
      exact hnx _ _ _ _ _ hcs h
    · rename_i n bs hf
      obtain ⟨hx, h⟩ := h
      have hn60 := mq_n60 (i := i) hf (by decide)
      refine mq_s_aald X (Or.inr (Or.inl rfl)) hf (mq_dq_spec hv) hx hn60 ?_
      have h8 : (mq_rt f x.toNat) = (17, 7) := mq_rt_7 hf (by omega)
      obtain ⟨nw, sp, tl, tx, al⟩ := ρ
      have e8 : mq_rg (nw, sp, tl, tx, al) (f, i) x.toNat = some (17, x.toNat) := by simp only [mq_rg, h8]
      rw [e8]
      exact hnx _ _ _ _ _ hcs h
    · exact False.elim h
  case i2c =>
    rcases st with _ | ⟨a | a, st⟩ <;> first | exact False.elim h | exact mq_s_i2c X (mq_dq_spec hv) (fun r h1 h2 => hnx _ _ _ _ _ hcs (h r h1 h2))
  case nop =>
    exact False.elim h
  case getstatic k =>
    obtain ⟨hv1, hv2⟩ := Bool.and_eq_true_iff.mp hv
    have ho9 := of_decide_eq_true hv1
    match k, hv2, h with
    | 0, hv2, h => exact mq_s_sta0 X Y ho9 (mq_dq_spec hv2) (hnx _ _ _ _ _ hcs h)
    | _ + 1, hv2, h => exact mq_s_sta1 X Y ho9 (mq_dq_spec hv2) (hnx _ _ _ _ _ hcs h.1) (hnx _ _ _ _ _ hcs h.2)
  case instanceof k =>
    obtain ⟨hv1, hv2⟩ := Bool.and_eq_true_iff.mp hv
    have ho9 := of_decide_eq_true hv1
    rcases st with _ | ⟨a | (a | (_ | ⟨f, w⟩)), st⟩ <;> first | exact False.elim h | skip
    simp only [mq_op] at h
    cases hb : Nat.beq f 99 with
    | false => rw [hb] at h; exact False.elim h
    | true =>
      rw [hb] at h
      obtain rfl := Nat.eq_of_beq_eq_true hb
      match k, hv2, h with
      | 0, hv2, h => exact mq_s_sval X Y ho9 (mq_dq_spec hv2) (hnx _ _ _ _ _ hcs h)
      | _ + 1, hv2, h => exact mq_s_scod X Y ho9 (mq_dq_spec hv2) (hnx _ _ _ _ _ hcs h)
  case checkcast k =>
    rcases st with _ | ⟨a | (a | (_ | ⟨f, w⟩)), st⟩ <;> first | exact False.elim h | skip
    simp only [mq_op] at h
    cases hb : Nat.beq f 98 with
    | false => rw [hb] at h; exact False.elim h
    | true =>
      rw [hb] at h
      obtain rfl := Nat.eq_of_beq_eq_true hb
      exact mq_s_slen X Y (mq_dq_spec hv) (hnx _ _ _ _ _ hcs h)
  case caload =>
    rcases st with _ | ⟨x | x, _ | ⟨a | (a | (_ | ⟨f, w⟩)), st⟩⟩ <;> first | exact False.elim h | skip
    simp only [mq_op] at h
    cases hb : Nat.beq f 98 with
    | false => rw [hb] at h; exact False.elim h
    | true =>
      rw [hb] at h
      obtain rfl := Nat.eq_of_beq_eq_true hb
      exact mq_s_sbyt X Y (mq_dq_spec hv) (And.left h) (fun r h1 h2 => hnx _ _ _ _ _ hcs (And.right h r h1 h2))
  case lshl =>
    rcases st with _ | ⟨b | b, _ | ⟨a | (a | a), st⟩⟩ <;> first | exact False.elim h | exact mq_s_lshl X (mq_dq_spec hv) (fun r h1 => hnx _ _ _ _ _ hcs (h r h1))
  case land =>
    rcases st with _ | ⟨b | (b | b), _ | ⟨a | (a | a), st⟩⟩ <;> first | exact False.elim h | exact mq_s_land X (mq_dq_spec hv) (fun r h1 => hnx _ _ _ _ _ hcs (h r h1))
  case lor =>
    rcases st with _ | ⟨b | (b | b), _ | ⟨a | (a | a), st⟩⟩ <;> first | exact False.elim h | exact mq_s_lor X (mq_dq_spec hv) (fun r h1 => hnx _ _ _ _ _ hcs (h r h1))
  case newarray t9 =>
    cases t9 <;> first | exact False.elim h | skip
    obtain ⟨hv1, hv2⟩ := Bool.and_eq_true_iff.mp hv
    rcases st with _ | ⟨n | n, _ | ⟨x | x, _ | ⟨a | (a | (_ | ⟨f, i⟩)), st⟩⟩⟩ <;> first | exact False.elim h | skip
    simp only [mq_op] at h
    cases hb : (Nat.testBit md 1 && Nat.beq f 31 && Nat.beq i 0) with
    | false => rw [hb] at h; exact False.elim h
    | true =>
      rw [hb] at h
      obtain ⟨hb, e2⟩ := Bool.and_eq_true_iff.mp hb
      obtain ⟨hm, e1⟩ := Bool.and_eq_true_iff.mp hb
      obtain rfl := Nat.eq_of_beq_eq_true e1
      obtain rfl := Nat.eq_of_beq_eq_true e2
      obtain ⟨⟨rfl, hx, hal, hc1⟩, h⟩ := h
      exact mq_s_newt X Y hm hx hal (mq_dq_spec hv1).1 (mq_dq_spec hv2) (by have := hR.1; omega) (Nat.le_trans (by omega) hR.2.1) (hnx _ _ _ _ _ hc1 h)
  case tableswitch d lo9 hi9 ts =>
    rcases st with _ | ⟨x | x, st⟩ <;> first | exact False.elim h | skip
    simp only [mq_vb] at hv
    split at hv
    · rename_i d' lo' hi' ts' len hd
      simp only [Bool.and_eq_true, decide_eq_true_eq] at hv
      obtain ⟨⟨⟨⟨⟨⟨e1, e2⟩, rfl⟩, rfl⟩, e5⟩, e6⟩, e7⟩ := hv
      refine mq_s_table X (d' := d) (ts' := ts) hd (by omega) ⟨?_, ?_, e7⟩ (fun q => hjp _ _ _ _ _ _ hcs (And.left h q)) (mq_sw_mono (fun t h => hjp _ _ _ _ _ _ hcs h) _ _ (And.right h))
      · rw [← e5]
        simp
      · intro o ho
        have h9 : (pc : Int) + o ∈ ts.toList := by rw [← e5]; exact List.mem_map.mpr ⟨o, ho, rfl⟩
        have := List.all_eq_true.mp e6 _ h9
        simpa using this
    · cases hv
  case invokestatic k =>
    obtain ⟨cq, hcq, h2⟩ := mq_nth_spec h
    clear h
    obtain ⟨⟨y, b, n, r, rm⟩, ⟨na, rk, pk, mc⟩, md', pre, post⟩ := cq
    simp only [mq_vb, hcq, Bool.and_eq_true, decide_eq_true_eq] at hv
    obtain ⟨⟨⟨hm, hrc⟩, hfr⟩, hv⟩ := hv
    obtain ⟨q, hq, hv⟩ := List.any_eq_true.mp hv
    obtain ⟨e1, hv⟩ := Bool.and_eq_true_iff.mp hv
    have e1 := Nat.eq_of_beq_eq_true e1
    obtain ⟨as, st', hlen, est, h⟩ := mq_take_spec h2
    clear h2
    subst est
    rw [List.append_nil] at h
    cases hcw : mq_cwb 8 st' with
    | false => rw [hcw] at h; exact False.elim h
    | true =>
      rw [hcw] at h
      obtain ⟨hpre, h⟩ := h
      obtain ⟨hmc, h⟩ := mq_room_spec hcs h
      have hdn : (match q.2.2 with
          | 0 => decode cc pc = .ok (.invokevirtual q.1, 3)
          | _ + 1 => decode cc pc = .ok (.invokestatic q.1, 3)) ∧ nxt = pc + 3 := by
        split at hv
        · rename_i e9; rw [e9]; exact ⟨(mq_dq_spec hv).1, (mq_dq_spec hv).2⟩
        · rename_i e9; rw [e9]; exact ⟨(mq_dq_spec hv).1, (mq_dq_spec hv).2⟩
      obtain ⟨hd, hn⟩ := hdn
      obtain ⟨r1, r2, r3, r4⟩ := hR
      refine mq_s_call X Y (q := q) (by rw [e1]; exact hcq) (hcl _ (List.mem_of_getElem? hcq)) (hT.2.2.2.1 q hq) hm hrc ⟨Nat.le_trans hfr.1 r3, Nat.le_trans hfr.2 r4⟩ ⟨by rw [← Nat.mul_add]; exact Nat.le_trans (Nat.mul_le_mul_left _ hmc) r1, by rw [← Nat.mul_add]; exact Nat.le_trans (Nat.mul_le_mul_left _ hmc) r2⟩ hd hlen hcw hpre (fun r' ρ' μ' a1 a2 a3 a4 a5 => ?_)
      rw [← hn]
      exact hnx _ _ _ _ _ hmc (mq_res_spec (mq_aft_spec (mq_rgk_spec h) r' ρ' μ' a1 a2 a3 a4 a5))
  case f2i =>
    obtain ⟨hlo, hv⟩ := Bool.and_eq_true_iff.mp hv
    have hlo := of_decide_eq_true hlo
    obtain ⟨q, hq, hv⟩ := List.any_eq_true.mp hv
    obtain ⟨qi, qb⟩ := q
    obtain ⟨hqb, hv⟩ := Bool.and_eq_true_iff.mp hv
    rcases st with _ | ⟨b | b, _ | ⟨a | a, st⟩⟩ <;> first | exact False.elim h | skip
    simp only [mq_op] at h
    cases hcw : mq_cwb 8 st with
    | false => rw [hcw] at h; exact False.elim h
    | true =>
      rw [hcw] at h
      have hw9 := hT.2.2.2.2.2 _ hq
      cases qb with
      | false => cases hqb
      | true => exact mq_s_max X (mq_dq_spec hv) hw9 (by have := hR.2.2.1; have := hR.2.2.2; omega) (Nat.le_trans (Nat.mul_le_mul_left _ hcs) hR.1) (Nat.le_trans (Nat.mul_le_mul_left _ hcs) hR.2.1) hcw (fun r h1 h2 h3 h4 => hnx _ _ _ _ _ hcs (h r h1 h2 h3 h4))
  case f2l =>
    obtain ⟨hlo, hv⟩ := Bool.and_eq_true_iff.mp hv
    have hlo := of_decide_eq_true hlo
    obtain ⟨q, hq, hv⟩ := List.any_eq_true.mp hv
    obtain ⟨qi, qb⟩ := q
    obtain ⟨hqb, hv⟩ := Bool.and_eq_true_iff.mp hv
    rcases st with _ | ⟨b | b, _ | ⟨a | a, st⟩⟩ <;> first | exact False.elim h | skip
    simp only [mq_op] at h
    cases hcw : mq_cwb 8 st with
    | false => rw [hcw] at h; exact False.elim h
    | true =>
      rw [hcw] at h
      have hw9 := hT.2.2.2.2.2 _ hq
      cases qb with
      | true => cases hqb
      | false => exact mq_s_min X (mq_dq_spec hv) hw9 (by have := hR.2.2.1; have := hR.2.2.2; omega) (Nat.le_trans (Nat.mul_le_mul_left _ hcs) hR.1) (Nat.le_trans (Nat.mul_le_mul_left _ hcs) hR.2.1) hcw (fun r h1 h2 h3 h4 => hnx _ _ _ _ _ hcs (h r h1 h2 h3 h4))
  case athrow =>
    obtain ⟨hlo, hv⟩ := Bool.and_eq_true_iff.mp hv
    have hlo := of_decide_eq_true hlo
    obtain ⟨q, hq, hv⟩ := List.any_eq_true.mp hv
    rcases st with _ | ⟨n | n, _ | ⟨dp | dp, _ | ⟨a | (a | (_ | ⟨f, i2⟩)), _ | ⟨sp | sp, _ | ⟨b | (b | (_ | ⟨g, i1⟩)), st⟩⟩⟩⟩⟩ <;> first | exact False.elim h | skip
    simp only [mq_op] at h
    cases hb : (Nat.beq f g && Nat.testBit md f && mq_cwb 8 st) with
    | false => rw [hb] at h; exact False.elim h
    | true =>
      rw [hb] at h
      obtain ⟨hb, hcw⟩ := Bool.and_eq_true_iff.mp hb
      obtain ⟨e1, hm⟩ := Bool.and_eq_true_iff.mp hb
      obtain rfl := Nat.eq_of_beq_eq_true e1
      simp only [cond_true] at h
      split at h
      · rename_i m9 bs hf
        exact mq_s_copy X (Or.inl rfl) hf hm (mq_dq_spec hv) (hT.2.2.2.2.1 q hq) (by have := hR.2.2.1; have := hR.2.2.2; omega) (And.left h) (mq_cpk_spec (And.right h)).1 hcw (hnx _ _ _ _ _ hcs (mq_cpk_spec (And.right h)).2)
      · rename_i m9 bs hf
        exact mq_s_copy X (Or.inr rfl) hf hm (mq_dq_spec hv) (hT.2.2.2.2.1 q hq) (by have := hR.2.2.1; have := hR.2.2.2; omega) (And.left h) (mq_cpk_spec (And.right h)).1 hcw (hnx _ _ _ _ _ hcs (mq_cpk_spec (And.right h)).2)
      · exact False.elim h
  case ireturn =>
    rcases st with _ | ⟨v | v, _ | ⟨a, st⟩⟩ <;> first | exact False.elim h | exact hF v _ _ _ _ _ (Or.inr (Or.inl ⟨Nat.eq_of_beq_eq_true (Bool.and_eq_true_iff.mp hv).1, rfl, of_decide_eq_true (Bool.and_eq_true_iff.mp hv).2⟩)) h
  case lreturn =>
    rcases st with _ | ⟨v | (v | v), _ | ⟨a, st⟩⟩ <;> first | exact False.elim h | exact hF v _ _ _ _ _ (Or.inr (Or.inr ⟨Nat.eq_of_beq_eq_true (Bool.and_eq_true_iff.mp hv).1, rfl, of_decide_eq_true (Bool.and_eq_true_iff.mp hv).2⟩)) h
  case return_ =>
    rcases st with _ | ⟨v, st⟩ <;> first | exact False.elim h | exact hF 0 _ _ _ _ _ (Or.inl ⟨Nat.eq_of_beq_eq_true (Bool.and_eq_true_iff.mp hv).1, rfl, rfl, of_decide_eq_true (Bool.and_eq_true_iff.mp hv).2⟩) h
  all_goals cases hv
end MQ
