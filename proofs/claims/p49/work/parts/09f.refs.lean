/-! references: what is read is there; lengths; switches -/
theorem mq_fix_mem {g x : Nat} : (g, x) ∈ mq_fix ↔ g < 94 ∧ x < mq_ct g := by
  simp only [mq_fix, List.mem_flatMap, List.mem_map, List.mem_range]
  constructor
  · rintro ⟨a, ha, b, hb, q⟩
    cases q
    exact ⟨ha, hb⟩
  · rintro ⟨h1, h2⟩
    exact ⟨g, h1, x, h2, rfl⟩
theorem mq_ids_tab {al : Nat → Bool} {k : Nat} (h : k < 24) (ha : al k = true) : (1, k) ∈ mq_ids al := List.mem_append_right _ (List.mem_map.mpr ⟨k, List.mem_filter.mpr ⟨List.mem_range.mpr h, ha⟩, rfl⟩)
theorem mq_ids_inv {al : Nat → Bool} {j : mq_J} (h : j ∈ mq_ids al) : (j.1 < 94 ∧ j.2 < mq_ct j.1) ∨ (j.1 = 1 ∧ j.2 < 24 ∧ al j.2 = true) := by
  rcases List.mem_append.mp h with h | h
  · exact Or.inl (mq_fix_mem.mp h)
  · obtain ⟨k, hk, rfl⟩ := List.mem_map.mp h
    obtain ⟨h1, h2⟩ := List.mem_filter.mp hk
    exact Or.inr ⟨rfl, List.mem_range.mp h1, h2⟩
def mq_rtB (f : Nat) (r : Bool × Nat × Nat × List (Nat × Int × Int)) (k : Nat) : Bool := match mq_rt f k with
  | (g, 0) => Nat.blt g 94 && Nat.blt 0 (mq_ct g)
  | (g, 1) => Nat.blt g 94 && Nat.ble (mq_ct f) (mq_ct g) && !Nat.beq f 1
  | (_, 2) => true
  | (_, 3) => true
  | (_, 4) => true
  | (_, 5) => true
  | (_, 6) => Nat.ble r.2.2.1 3
  | (_, 7) => Nat.ble r.2.2.1 4
  | (_, 8) => Nat.ble r.2.2.1 24
  | (_, _ + 9) => true
theorem mq_rt_all : ∀ f, f < 94 → ∀ k, k < 60 → mq_rtB f (mq_fm f) k = true := by decide +kernel
theorem mq_rg_ok {ρ : mq_R} {f i k : Nat} {j : mq_J} (hr : mq_rok ρ) (hin : (f, i) ∈ mq_ids ρ.2.2.2.2) (hk : k < 60) (hkn : k < (mq_fm f).2.2.1) (hj : mq_rg ρ (f, i) k = some j) : j ∈ mq_ids ρ.2.2.2.2 := by
  obtain ⟨nw, sp, tl, tx, al⟩ := ρ
  obtain ⟨h1, h2, h3, h4⟩ := hr
  have hf : f < 94 := (mq_ids_inv hin).elim (fun q => q.1) (fun q => by have : f = 1 := q.1; omega)
  have hb := mq_rt_all f hf k hk
  have c2 : mq_ct 2 = 5 := by decide +kernel
  have c19 : mq_ct 19 = 1 := by decide +kernel
  have c59 : mq_ct 59 = 1 := by decide +kernel
  have c17 : mq_ct 17 = 4 := by decide +kernel
  simp only [mq_rg] at hj
  simp only [mq_rtB] at hb
  generalize hrt : mq_rt f k = rt at hj hb
  obtain ⟨g, how⟩ := rt
  match how, hj, hb with
  | 0, hj, hb =>
    simp only [Bool.and_eq_true] at hb
    cases hj
    exact List.mem_append_left _ (mq_fix_mem.mpr ⟨Nat.le_of_ble_eq_true hb.1, Nat.le_of_ble_eq_true hb.2⟩)
  | 1, hj, hb =>
    simp only [Bool.and_eq_true, Bool.not_eq_true'] at hb
    cases hj
    have hlt : i < mq_ct f := (mq_ids_inv hin).elim (fun q => q.2) (fun q => by
      have e : f = 1 := q.1
      have := hb.2
      rw [e] at this
      cases this)
    exact List.mem_append_left _ (mq_fix_mem.mpr ⟨Nat.le_of_ble_eq_true hb.1.1, Nat.lt_of_lt_of_le hlt (Nat.le_of_ble_eq_true hb.1.2)⟩)
  | 2, hj, _ =>
    cases hb0 : Nat.beq i 0 with
    | false => simp [hb0] at hj
    | true =>
      simp [hb0] at hj
      subst hj
      exact List.mem_append_left _ (mq_fix_mem.mpr ⟨by decide, by rw [c2]; exact h1⟩)
  | 3, hj, _ =>
    cases hb0 : Nat.beq i 0 with
    | false => simp [hb0] at hj
    | true =>
      simp [hb0] at hj
      subst hj
      exact List.mem_append_left _ (mq_fix_mem.mpr ⟨by decide, by rw [c2]; exact h2⟩)
  | 4, hj, _ =>
    cases hb0 : Nat.beq i 0 with
    | false => simp [hb0] at hj
    | true =>
      simp [hb0] at hj
      subst hj
      exact List.mem_append_left _ (mq_fix_mem.mpr ⟨by decide, by rw [c2]; exact h3⟩)
  | 5, hj, _ =>
    cases hb0 : Nat.beq i 0 with
    | false => simp [hb0] at hj
    | true =>
      simp [hb0] at hj
      subst hj
      rcases h4 with h | h
      · have h : tx = 19 := h
        subst h
        exact List.mem_append_left _ (mq_fix_mem.mpr ⟨by decide, by rw [c19]; decide⟩)
      · have h : tx = 59 := h
        subst h
        exact List.mem_append_left _ (mq_fix_mem.mpr ⟨by decide, by rw [c59]; decide⟩)
  | 6, hj, hb =>
    cases hj
    have := Nat.le_of_ble_eq_true hb
    exact List.mem_append_left _ (mq_fix_mem.mpr ⟨by decide, by rw [c2]; omega⟩)
  | 7, hj, hb =>
    cases hj
    have := Nat.le_of_ble_eq_true hb
    exact List.mem_append_left _ (mq_fix_mem.mpr ⟨by decide, by rw [c17]; omega⟩)
  | 8, hj, hb =>
    have hle := Nat.le_of_ble_eq_true hb
    cases ha : al k with
    | false => simp [ha] at hj
    | true =>
      simp [ha] at hj
      subst hj
      exact mq_ids_tab (by omega) ha
  | how + 9, hj, _ => cases hj
theorem mq_fv_ref {ad : mq_J → Nat} {ρ : mq_R} {μ : mq_M} {j : mq_J} {bs : List (Nat × Int × Int)} {k z : Nat} {a b : Int} (hb : bs[k]? = some (z + 3, a, b)) : mq_fv ad ρ μ j bs k = mq_val ad (.inr (.inr (mq_rg ρ j k))) := by
  unfold mq_fv
  simp only [List.getD, hb, Option.getD_some]
  cases mq_rg ρ j k <;> rfl
theorem mq_fv_int {ad : mq_J → Nat} {ρ : mq_R} {μ : mq_M} {j : mq_J} {bs : List (Nat × Int × Int)} {k : Nat} {a b : Int} (hb : bs[k]? = some (0, a, b) ∨ bs[k]? = some (2, a, b)) : mq_fv ad ρ μ j bs k = mq_val ad (.inl (μ j k)) := by
  unfold mq_fv
  rcases hb with hb | hb <;> simp only [List.getD, hb, Option.getD_some] <;> rfl
theorem mq_fv_long {ad : mq_J → Nat} {ρ : mq_R} {μ : mq_M} {j : mq_J} {bs : List (Nat × Int × Int)} {k : Nat} {a b : Int} (hb : bs[k]? = some (1, a, b)) : mq_fv ad ρ μ j bs k = mq_val ad (.inr (.inl (μ j k))) := by
  unfold mq_fv
  simp only [List.getD, hb, Option.getD_some]
  rfl
theorem mq_get_rng {μ : mq_M} {f i ci n k : Nat} {bs : List (Nat × Int × Int)} {z : Nat} {a b : Int} (hb : mq_bok μ) (hf : mq_fm f = (false, ci, n, bs)) (hk : bs[k]? = some (z, a, b)) : a ≤ μ (f, i) k ∧ μ (f, i) k ≤ b := by
  have h := hb (f, i) k
  simp only [mq_bd_obj hf hk] at h
  exact h
theorem mq_tk_rng {f ci n k : Nat} {bs : List (Nat × Int × Int)} {b : Nat × Int × Int} (hf : mq_fm f = (false, ci, n, bs)) (hk : bs[k]? = some b) : ∃ ty, mq_tk ty b = true := by
  obtain ⟨-, hlen, q, -, -, h⟩ := mq_fb_obj hf
  obtain ⟨ty, -, h2⟩ := h k (by rw [← hlen]; exact (List.getElem?_eq_some_iff.mp hk).1)
  rw [show bs.getD k (0, 0, 0) = b by simp [List.getD, hk]] at h2
  exact ⟨ty, h2⟩
theorem mq_tk0 {ty : FieldType} {a b : Int} (h : mq_tk ty (0, a, b) = true) : (ty = .int ∧ -2147483648 ≤ a ∧ b ≤ 2147483647) ∨ (ty = .boolean ∧ 0 ≤ a ∧ b ≤ 1) := by
  cases ty <;> simp only [mq_tk, Bool.and_eq_true, decide_eq_true_eq, Bool.false_eq_true] at h <;> first
    | exact Or.inl ⟨rfl, h⟩
    | exact Or.inr ⟨rfl, h⟩
    | exact h.elim
theorem mq_tk1 {ty : FieldType} {a b : Int} (h : mq_tk ty (1, a, b) = true) : ty = .long ∧ -9223372036854775808 ≤ a ∧ b ≤ 9223372036854775807 := by
  cases ty <;> simp only [mq_tk, Bool.and_eq_true, decide_eq_true_eq, Bool.false_eq_true] at h <;> first
    | exact ⟨rfl, h⟩
    | exact h.elim
theorem mq_tk2 {ty : FieldType} {a b : Int} (h : mq_tk ty (2, a, b) = true) : -2147483648 ≤ a ∧ b ≤ a ∧ a ≤ 2147483647 := by
  cases ty <;> simp only [mq_tk, Bool.and_eq_true, decide_eq_true_eq, Bool.false_eq_true] at h <;> first
    | exact ⟨h.1.1, h.1.2, h.2⟩
    | exact h.elim
theorem mq_tk3 {ty : FieldType} {z : Nat} {a b : Int} (h : mq_tk ty (z + 3, a, b) = true) : ty.isReference = true := h
section MQ
variable {p : Program} {lc : Launch} {e : Env} {R : Room} {s : State} {m : MethodId} {args : Array Value} {below : List Frame} {meth : Method} {c : Code} {Q : State → Prop} {cc : ByteArray} {own : String} {nL : Nat} {G : KG} {A : Nat → Prop} {ad0 : mq_J → Nat} {ρ0 : mq_R} {md : Nat} {μ0 : mq_M}
variable {pc nxt cs : Nat} {l : mq_L} {st : List mq_V} {ρ : mq_R} {μ : mq_M}
theorem mq_s_alen (X : mq_cx p s m args meth c cc own nL G) {f i t n : Nat} {bs : List (Nat × Int × Int)} (ht : t < 7) (hf : mq_fm f = (true, t, n, bs)) (hd : decode cc pc = .ok (.arraylength, 1) ∧ nxt = pc + 1)
    (k9 : mq_W p lc e R s m args below meth c G nL A ad0 ρ0 md μ0 Q nxt l (.inl (n : Int) :: st) ρ μ cs) : mq_W p lc e R s m args below meth c G nL A ad0 ρ0 md μ0 Q pc l (.inr (.inr (some (f, i))) :: st) ρ μ cs := by
  intro ad H locs ls hl ho hw hS hg ha
  have h94 := mq_in94 (i := i) hf (by omega)
  obtain ⟨hn, hb1, -⟩ := mq_fb_arr h94 hf
  have hin := mq_not99 ho.top h94
  obtain ⟨q0, hq0, hq1⟩ := mq_place (G := G) (ad := ad) (μ := μ) hin
  rw [mq_ent_arr (j := (f, i)) hf] at hq1
  have kk := k9 ad H locs ls hl (ho.pop.push ⟨by omega, by omega⟩) hw hS hg ha
  obtain ⟨hd, rfl⟩ := hd
  have hty : ∃ ty, (mq_ty G)[t]? = some (G.2 t, ty) := by
    rcases (show t = 0 ∨ t = 1 ∨ t = 2 ∨ t = 3 ∨ t = 4 ∨ t = 5 ∨ t = 6 by omega) with rfl | rfl | rfl | rfl | rfl | rfl | rfl <;> exact ⟨_, rfl⟩
  obtain ⟨ty, hty⟩ := hty
  exact va_alen (D := G.1) X.1 X.2.1 X.2.2.2.2.2.1.1 hw.1 q0 t hq1 hty (v := Int32.ofInt (n : Int)) (by simp [Int32.ofInt_eq_ofNat]) hd kk
theorem mq_s_aald (X : mq_cx p s m args meth c cc own nL G) {f i t n : Nat} {bs : List (Nat × Int × Int)} {x : Int} (ht : t = 4 ∨ t = 5 ∨ t = 6) (hf : mq_fm f = (true, t, n, bs)) (hd : decode cc pc = .ok (.aaload, 1) ∧ nxt = pc + 1) (hx : 0 ≤ x ∧ x < (n : Int)) (hn60 : n ≤ 60)
    (k9 : mq_W p lc e R s m args below meth c G nL A ad0 ρ0 md μ0 Q nxt l (.inr (.inr (mq_rg ρ (f, i) x.toNat)) :: st) ρ μ cs) : mq_W p lc e R s m args below meth c G nL A ad0 ρ0 md μ0 Q pc l (.inl x :: .inr (.inr (some (f, i))) :: st) ρ μ cs := by
  intro ad H locs ls hl ho hw hS hg ha
  have h94 := mq_in94 (i := i) hf (by omega)
  have hin := mq_not99 ho.pop.top h94
  obtain ⟨q0, hq0, hq1⟩ := mq_place (G := G) (ad := ad) (μ := μ) hin
  rw [mq_ent_arr (j := (f, i)) hf] at hq1
  have hkn : x.toNat < n := by omega
  have hvo : mq_ok ρ (.inr (.inr (mq_rg ρ (f, i) x.toNat))) := by
    cases hj : mq_rg ρ (f, i) x.toNat with
    | none => exact trivial
    | some j => exact Or.inr (mq_rg_ok hw.2.2.2 hin (by omega) (by rw [hf]; exact hkn) hj)
  have kk := k9 ad H locs ls hl (ho.pop.pop.push hvo) hw hS hg ha
  obtain ⟨hd, rfl⟩ := hd
  have hin2 := mq_vpin (n := n) ho.top hx
  have e9 : ∀ v : Option mq_J, mq_val ad (.inr (.inr v)) = va_rf (v.map ad) := fun v => by cases v <;> rfl
  have hty : ∃ ty, (mq_ty G)[t]? = some (G.2 t, ty) ∧ ty.isReference = true := by
    rcases ht with rfl | rfl | rfl <;> exact ⟨_, rfl, rfl⟩
  obtain ⟨ty, hty, hrf⟩ := hty
  have hcon : mq_con ad ρ μ (f, i) t = .inr (.inr (.inr (.inr (fun k => (mq_rg ρ (f, i) k).map ad)))) := by rcases ht with rfl | rfl | rfl <;> rfl
  rw [hcon] at hq1
  refine W.aald (v := va_rf ((mq_rg ρ (f, i) x.toNat).map ad)) (ty := ty) X.1 X.2.1 (hw.1 q0 _ hq1) ((X.2.2.2.2.2.1.1.2 t _ hty).1 n (fun j => va_rf ((mq_rg ρ (f, i) j).map ad))) hrf (fun q => by cases q) (by show ¬ (_ < 0 ∨ (arrV _ _ _).slots.size ≤ _); rw [arrV_size]; exact hin2) (by show (arrV _ _ _).slots[_]? = _; rw [mq_tn ho.top, arrV_read _ _ hkn]) rfl rfl hd ?_
  simp only [List.map_cons, e9] at kk
  exact kk
theorem mq_s_table (X : mq_cx p s m args meth c cc own nL G) {x : Int} {d lo hi : Int} {ts : Array Int} {d' : Int} {ts' : Array Int} {len : Nat} (hd : decode cc pc = .ok (.tableswitch d lo hi ts, len)) (hd' : (pc : Int) + d = (d'.toNat : Int)) (hts : ts'.toList.map Int.toNat = ts.toList.map (fun o => ((pc : Int) + o).toNat) ∧ (∀ o ∈ ts.toList, 0 ≤ (pc : Int) + o) ∧ (ts.size : Int) = hi - lo + 1)
    (k1 : x < lo ∨ hi < x → mq_W p lc e R s m args below meth c G nL A ad0 ρ0 md μ0 Q d'.toNat l st ρ μ cs) (k2 : mq_sw x lo (ts'.toList.map Int.toNat) (fun t => mq_W p lc e R s m args below meth c G nL A ad0 ρ0 md μ0 Q t l st ρ μ cs)) : mq_W p lc e R s m args below meth c G nL A ad0 ρ0 md μ0 Q pc l (.inl x :: st) ρ μ cs := by
  intro ad H locs ls hl ho hw hS hg ha
  have hx0 : mq_in x := ho.top
  by_cases hx : x < lo ∨ hi < x
  · exact lv_tableOut X.1 X.2.1 hd (by rw [mq_i32 x hx0]; exact hx) hd' (k1 hx ad H locs ls hl ho.pop hw hS hg ha)
  · have sw : ∀ (xs : List Nat) (c0 : Int) (q : Nat) (t : Nat), mq_sw x c0 xs (fun t => mq_W p lc e R s m args below meth c G nL A ad0 ρ0 md μ0 Q t l st ρ μ cs) → xs[q]? = some t → x = c0 + (q : Int) → mq_W p lc e R s m args below meth c G nL A ad0 ρ0 md μ0 Q t l st ρ μ cs := by
      intro xs
      induction xs with
      | nil => intro c0 q t _ h; simp at h
      | cons y ys ih =>
        intro c0 q t h hq he
        cases q with
        | zero => simp at hq; subst hq; exact h.1 (by simpa using he)
        | succ q => exact ih (c0 + 1) q t h.2 (by simpa using hq) (by rw [he]; push_cast; omega)
    have hq : (x - lo).toNat < ts.size := by omega
    have e1 : ts[(x - lo).toNat]? = some (ts[(x - lo).toNat]) := Array.getElem?_eq_getElem hq
    have e2 : (ts'.toList.map Int.toNat)[(x - lo).toNat]? = some ((pc : Int) + ts[(x - lo).toNat]).toNat := by
      rw [hts.1, List.getElem?_map]
      simp [e1]
    have e3 := hts.2.1 (ts[(x - lo).toNat]) (by simp)
    exact lv_tableIn (tgt := ((pc : Int) + ts[(x - lo).toNat]).toNat) X.1 X.2.1 hd (by rw [mq_i32 x hx0]; omega) (by rw [mq_i32 x hx0]; omega) (by rw [mq_i32 x hx0]; exact e1) (by rw [Int.toNat_of_nonneg e3]) (sw _ lo (x - lo).toNat _ k2 e2 (by omega) ad H locs ls hl ho.pop hw hS hg ha)
end MQ
