/-! steps that read and write memory -/
def mq_clf (q : vw_C) : Prop := (∀ w ∈ u_ws q.1 q.2.1 q.2.2, w ∈ wG) ∧ (∃ ty0 : Nat → FieldType, ∀ k, k < q.2.2 → parseFieldDescriptor (q.2.1 k).2.2.1 = some (ty0 k)) ∧ ∀ a, a < q.2.2 → ∀ b, b < q.2.2 → a ≠ b → (q.2.1 a).2.1 ≠ (q.2.1 b).2.1
theorem mq_cls : ∀ (ci : Nat) (q : vw_C), vwCl[ci]? = some q → mq_clf q := by
  intro ci q h
  match ci, h with
  | 0, h => cases h; exact ⟨inGX0, ⟨_, tyX0_ok⟩, nmX0⟩
  | 1, h => cases h; exact ⟨inGX1, ⟨_, tyX1_ok⟩, nmX1⟩
  | 2, h => cases h; exact ⟨inGX2, ⟨_, tyX2_ok⟩, nmX2⟩
  | 3, h => cases h; exact ⟨inGX3, ⟨_, tyX3_ok⟩, nmX3⟩
  | 4, h => cases h; exact ⟨inGX4, ⟨_, tyX4_ok⟩, nmX4⟩
  | 5, h => cases h; exact ⟨inGX5, ⟨_, tyX5_ok⟩, nmX5⟩
  | 6, h => cases h; exact ⟨inGX6, ⟨_, tyX6_ok⟩, nmX6⟩
  | 7, h => cases h; exact ⟨inGX7, ⟨_, tyX7_ok⟩, nmX7⟩
  | 8, h => cases h; exact ⟨inGX8, ⟨_, tyX8_ok⟩, nmX8⟩
  | 9, h => cases h; exact ⟨inGX9, ⟨_, tyX9_ok⟩, nmX9⟩
  | 10, h => cases h; exact ⟨inGX10, ⟨_, tyX10_ok⟩, nmX10⟩
  | 11, h => cases h; exact ⟨inGX11, ⟨_, tyX11_ok⟩, nmX11⟩
  | k + 12, h => simp [vwCl] at h
/-- a field's kind and bounds are those of its type -/
def mq_tk (ty : FieldType) (b : Nat × Int × Int) : Bool := match b with
  | (0, lo, hi) => match ty with
    | .int => decide (-2147483648 ≤ lo) && decide (hi ≤ 2147483647)
    | .boolean => decide (0 ≤ lo) && decide (hi ≤ 1)
    | _ => false
  | (1, lo, hi) => match ty with
    | .long => decide (-9223372036854775808 ≤ lo) && decide (hi ≤ 9223372036854775807)
    | _ => false
  | (2, lo, hi) => match ty with
    | .int => decide (-2147483648 ≤ lo) && decide (hi ≤ lo) && decide (lo ≤ 2147483647)
    | _ => false
  | (_ + 3, _, _) => ty.isReference
def mq_fb (r : Bool × Nat × Nat × List (Nat × Int × Int)) : Bool := match r with
  | (false, ci, n, bs) => Nat.beq bs.length n && match vwCl[ci]? with
    | none => false
    | some q => Nat.beq q.2.2 n && (List.range n).all fun k => match parseFieldDescriptor (q.2.1 k).2.2.1 with
      | none => false
      | some ty => mq_tk ty (bs.getD k (0, 0, 0))
  | (true, t, n, bs) => (Nat.ble n 2000000 && bs.all (fun b => Nat.beq b.1 bs.length)) && Nat.ble 1 bs.length && match t with
    | 0 => bs.all fun b => decide (-2147483648 ≤ b.2.1) && decide (b.2.2 ≤ 2147483647)
    | 1 => bs.all fun b => decide (-128 ≤ b.2.1) && decide (b.2.2 ≤ 127)
    | 2 => bs.all fun b => decide (0 ≤ b.2.1) && decide (b.2.2 ≤ 1)
    | 3 => bs.all fun b => decide (-9223372036854775808 ≤ b.2.1) && decide (b.2.2 ≤ 9223372036854775807)
    | _ + 4 => true
theorem mq_fb_all : ∀ f, f < 94 → mq_fb (mq_fm f) = true := by decide +kernel
theorem mq_fm_big {f : Nat} (h : 94 ≤ f) : mq_fm f = (true, 9, 0, [(1, (-2147483648), 2147483647)]) := by
  unfold mq_fm
  have h1 : Nat.ble f 93 = false := by
    cases hb : Nat.ble f 93 with
    | false => rfl
    | true => have := Nat.le_of_ble_eq_true hb; omega
  rw [h1]
  rfl
theorem mq_fb_obj {f ci n : Nat} {bs : List (Nat × Int × Int)} (h : mq_fm f = (false, ci, n, bs)) : f < 94 ∧ bs.length = n ∧ ∃ q : vw_C, vwCl[ci]? = some q ∧ q.2.2 = n ∧ ∀ k, k < n → ∃ ty, parseFieldDescriptor (q.2.1 k).2.2.1 = some ty ∧ mq_tk ty (bs.getD k (0, 0, 0)) = true := by
  have hf : f < 94 := Nat.lt_of_not_le fun q => by rw [mq_fm_big q] at h; cases h
  have hb := mq_fb_all f hf
  rw [h] at hb
  simp only [mq_fb, Bool.and_eq_true] at hb
  obtain ⟨h1, h2⟩ := hb
  refine ⟨hf, Nat.eq_of_beq_eq_true h1, ?_⟩
  cases hq : vwCl[ci]? with
  | none => rw [hq] at h2; cases h2
  | some q =>
    rw [hq] at h2
    simp only [Bool.and_eq_true] at h2
    refine ⟨q, rfl, Nat.eq_of_beq_eq_true h2.1, fun k hk => ?_⟩
    have h3 := List.all_eq_true.mp h2.2 k (List.mem_range.mpr hk)
    cases hp : parseFieldDescriptor (q.2.1 k).2.2.1 with
    | none => rw [hp] at h3; cases h3
    | some ty => rw [hp] at h3; exact ⟨ty, rfl, h3⟩
theorem mq_fb_arr {f t n : Nat} {bs : List (Nat × Int × Int)} (hf : f < 94) (h : mq_fm f = (true, t, n, bs)) : n ≤ 2000000 ∧ 1 ≤ bs.length ∧ (match t with
    | 0 => ∀ b ∈ bs, -2147483648 ≤ b.2.1 ∧ b.2.2 ≤ 2147483647
    | 1 => ∀ b ∈ bs, -128 ≤ b.2.1 ∧ b.2.2 ≤ 127
    | 2 => ∀ b ∈ bs, 0 ≤ b.2.1 ∧ b.2.2 ≤ 1
    | 3 => ∀ b ∈ bs, -9223372036854775808 ≤ b.2.1 ∧ b.2.2 ≤ 9223372036854775807
    | _ + 4 => True) := by
  have hb := mq_fb_all f hf
  rw [h] at hb
  simp only [mq_fb, Bool.and_eq_true] at hb
  refine ⟨Nat.le_of_ble_eq_true hb.1.1.1, Nat.le_of_ble_eq_true hb.1.2, ?_⟩
  have h2 := hb.2
  split at h2 <;> first
    | exact trivial
    | (intro b hx; have h3 := List.all_eq_true.mp h2 b hx; simp only [Bool.and_eq_true, decide_eq_true_eq] at h3; exact h3)
theorem mq_fb_mod {f t n : Nat} {bs : List (Nat × Int × Int)} (h : mq_fm f = (true, t, n, bs)) : ∀ b ∈ bs, b.1 = bs.length := by
  by_cases hf : f < 94
  · have hb := mq_fb_all f hf
    rw [h] at hb
    simp only [mq_fb, Bool.and_eq_true] at hb
    exact fun b hx => Nat.eq_of_beq_eq_true (List.all_eq_true.mp hb.1.1.2 b hx)
  · rw [mq_fm_big (Nat.le_of_not_lt hf)] at h
    cases h
    exact fun b hx => by rw [List.mem_singleton.mp hx]; rfl
/-- the link of a field: own class, index, class number, slot -/
def mq_flw (own : String) (q : Nat × Nat × Nat) : Prop := ∃ r : vw_C, vwCl[q.2.1]? = some r ∧ q.2.2 < r.2.2 ∧ Cond.fieldLink own q.1 (r.2.1 q.2.2).1 (r.2.1 q.2.2).2.1 (r.2.1 q.2.2).2.2.1 ∈ wG
theorem mq_bd_obj {f ci n : Nat} {bs : List (Nat × Int × Int)} (h : mq_fm f = (false, ci, n, bs)) {k : Nat} {b : Nat × Int × Int} (hb : bs[k]? = some b) : mq_bd f k = b.2 := by
  unfold mq_bd
  rw [h]
  simp [List.getD, hb]
theorem mq_bd_arr {f t n : Nat} {bs : List (Nat × Int × Int)} (h : mq_fm f = (true, t, n, bs)) (k : Nat) : mq_bd f k = (bs.getD (k % bs.length) (0, 0, 0)).2 := by
  unfold mq_bd
  rw [h]
theorem mq_not99 {f i : Nat} {ρ : mq_R} (ho : mq_ok ρ (.inr (.inr (some (f, i))))) (hf : f < 94) : (f, i) ∈ mq_ids ρ.2.2.2.2 := by
  rcases ho with h | h
  · have h : 94 ≤ f := h.1
    omega
  · exact h
section MQ
variable {p : Program} {lc : Launch} {e : Env} {R : Room} {s : State} {m : MethodId} {args : Array Value} {below : List Frame} {meth : Method} {c : Code} {Q : State → Prop} {cc : ByteArray} {own : String} {nL : Nat} {G : KG} {A : Nat → Prop} {ad0 : mq_J → Nat} {ρ0 : mq_R} {md : Nat} {μ0 : mq_M}
variable {pc nxt cs : Nat} {l : mq_L} {st : List mq_V} {ρ : mq_R} {μ : mq_M}
theorem mq_s_get (X : mq_cx p s m args meth c cc own nL G) {f i ci k n idx : Nat} {bs : List (Nat × Int × Int)} {b : Nat × Int × Int} {v : mq_V} (hf : mq_fm f = (false, ci, n, bs)) (hb : bs[k]? = some b) (hlk : mq_flw own (idx, ci, k)) (hd : decode cc pc = .ok (.getfield idx, 3) ∧ nxt = pc + 3)
    (hv : ∀ ad, mq_val ad v = mq_fv ad ρ μ (f, i) bs k) (hvo : mq_wd G A ad0 ρ μ s.heap ∨ True → (f, i) ∈ mq_ids ρ.2.2.2.2 → mq_bok μ → mq_rok ρ → mq_ok ρ v) (k9 : mq_W p lc e R s m args below meth c G nL A ad0 ρ0 md μ0 Q nxt l (v :: st) ρ μ cs) : mq_W p lc e R s m args below meth c G nL A ad0 ρ0 md μ0 Q pc l (.inr (.inr (some (f, i))) :: st) ρ μ cs := by
  intro ad H locs ls hl ho hw hS hg ha
  obtain ⟨h94, hlen, q, hq, hqn, hty⟩ := mq_fb_obj hf
  have hin := mq_not99 ho.top h94
  obtain ⟨q0, hq0, hq1⟩ := mq_place (G := G) (ad := ad) (μ := μ) hin
  rw [mq_ent_obj (j := (f, i)) hf] at hq1
  have kk := k9 ad H locs ls hl (ho.pop.push (hvo (Or.inr trivial) hin hw.2.2.1 hw.2.2.2)) hw hS hg ha
  have hk : k < n := by rw [← hlen]; exact (List.getElem?_eq_some_iff.mp hb).1
  obtain ⟨hd, rfl⟩ := hd
  obtain ⟨r, hr1, hr2, hr3⟩ := hlk
  have er : r = q := Option.some.inj (hr1.symm.trans hq)
  subst er
  refine va_get (D := G.1) X.1 X.2.1 X.2.2.2.2.1 (mq_cls ci r hq).1 X.2.2.2.1 X.2.2.2.2.2.1.1 hw.1 q0 hq1 hq k hr2 (X.2.2.2.2.1 _ hr3) (fun _ h9 => h9) (v := mq_val ad v) ?_ hd kk
  rw [hv ad, List.getElem?_map, List.getElem?_range hk]
  rfl
theorem mq_fv_set {ad : mq_J → Nat} {ρ ρ' : mq_R} {μ μ' : mq_M} {j : mq_J} {bs : List (Nat × Int × Int)} {n k : Nat} {v : Value} (hv : mq_fv ad ρ' μ' j bs k = v) (ho : ∀ k', k' ≠ k → μ' j k' = μ j k' ∧ mq_rg ρ' j k' = mq_rg ρ j k') : ((List.range n).map (mq_fv ad ρ μ j bs)).set k v = (List.range n).map (mq_fv ad ρ' μ' j bs) := by
  apply List.ext_getElem?
  intro i
  rw [List.getElem?_set]
  simp only [List.length_map, List.length_range, List.getElem?_map]
  by_cases h1 : k = i
  · subst h1
    rw [if_pos rfl]
    by_cases h2 : k < n
    · rw [if_pos h2, List.getElem?_range h2]
      simp [hv]
    · rw [if_neg h2, List.getElem?_eq_none (by simp; omega)]
      rfl
  · rw [if_neg h1]
    by_cases h2 : i < n
    · rw [List.getElem?_range h2]
      simp only [Option.map_some]
      congr 1
      unfold mq_fv
      rw [(ho i (fun q => h1 q.symm)).1, (ho i (fun q => h1 q.symm)).2]
    · rw [List.getElem?_eq_none (by simp; omega)]
      rfl
theorem mq_put (X : mq_cx p s m args meth c cc own nL G) {f i ci k n idx : Nat} {bs : List (Nat × Int × Int)} {b : Nat × Int × Int} {v : mq_V} {ρ' : mq_R} {μ' : mq_M} (hf : mq_fm f = (false, ci, n, bs)) (hb : bs[k]? = some b) (hlk : mq_flw own (idx, ci, k)) (hfin : ∀ r : vw_C, vwCl[ci]? = some r → (r.2.1 k).2.2.2 = false) (hd : decode cc pc = .ok (.putfield idx, 3) ∧ nxt = pc + 3)
    (hty : ∀ (ty : FieldType) (ad : mq_J → Nat), mq_tk ty b = true → mq_ok ρ v → narrow ty (mq_val ad v) = mq_val ad v ∧ fits ty (mq_val ad v) = true) (hv : ∀ ad, mq_fv ad ρ' μ' (f, i) bs k = mq_val ad v) (hal : ρ'.2.2.2.2 = ρ.2.2.2.2) (ho1 : ∀ k', k' ≠ k → μ' (f, i) k' = μ (f, i) k' ∧ mq_rg ρ' (f, i) k' = mq_rg ρ (f, i) k') (ho2 : ∀ j', j' ≠ (f, i) → μ' j' = μ j' ∧ ∀ k', mq_rg ρ' j' k' = mq_rg ρ j' k')
    (hbk : mq_bok μ → mq_bok μ') (hrk : mq_rok ρ → mq_ok ρ v → mq_rok ρ') (hag : mq_ag md μ0 μ → mq_ag md μ0 μ') (k9 : mq_W p lc e R s m args below meth c G nL A ad0 ρ0 md μ0 Q nxt l st ρ' μ' cs) : mq_W p lc e R s m args below meth c G nL A ad0 ρ0 md μ0 Q pc l (v :: .inr (.inr (some (f, i))) :: st) ρ μ cs := by
  intro ad H locs ls hl ho hw hS hg ha
  obtain ⟨h94, hlen, q, hq, hqn, htk⟩ := mq_fb_obj hf
  have hin := mq_not99 ho.pop.top h94
  obtain ⟨q0, hq0, hq1⟩ := mq_place (G := G) (ad := ad) (μ := μ) hin
  rw [mq_ent_obj (j := (f, i)) hf] at hq1
  have hk : k < n := by rw [← hlen]; exact (List.getElem?_eq_some_iff.mp hb).1
  obtain ⟨ty, ht1, ht2⟩ := htk k hk
  rw [show bs.getD k (0, 0, 0) = b by simp [List.getD, hb]] at ht2
  obtain ⟨hn1, hn2⟩ := hty ty ad ht2 ho.top
  obtain ⟨hd, rfl⟩ := hd
  obtain ⟨r, hr1, hr2, hr3⟩ := hlk
  have er : r = q := Option.some.inj (hr1.symm.trans hq)
  subst er
  obtain ⟨ty0, hty0⟩ := (mq_cls ci r hq).2.1
  refine va_put (D := G.1) X.1 X.2.1 X.2.2.2.2.1 (mq_cls ci r hq).1 ty0 hty0 (mq_cls ci r hq).2.2 X.2.2.2.1 X.2.2.2.2.2.1.1 hw.1 hw.2.1 hS q0 hq1 hq k hr2 (X.2.2.2.2.1 _ hr3) (fun _ h9 => h9) (hfin r hq) ht1 hn1 hn2 (by simp; exact hk) hd (fun H1 locs1 hP1 hD1 hS1 => ?_)
  rw [mq_fv_set (hv ad) ho1, ← mq_ent_obj (G := G) (ad := ad) (ρ := ρ') (μ := μ') (j := (f, i)) hf] at hP1 hD1
  rw [mq_ws_set hq0 hal (fun j' hj => mq_ent_congr (ho2 j' hj).1 (ho2 j' hj).2)] at hP1 hD1
  exact k9 ad H1 locs1 ls hl ⟨fun w hw9 => by have := ho.pop.pop.1 w hw9; rcases w with _ | (_ | (_ | _)) <;> simp only [mq_ok, hal] at this ⊢ <;> exact this, fun w hw9 => by have := ho.2 w hw9; rcases w with _ | (_ | (_ | _)) <;> simp only [mq_ok, hal] at this ⊢ <;> exact this⟩ ⟨hP1, hD1, hbk hw.2.2.1, hrk hw.2.2.2 ho.top⟩ hS1 (hag hg) ⟨ha.1, fun z hz => by rw [hal]; exact ha.2 z hz⟩
end MQ
