/-! the small machine's world in the heap -/
def mq_val (ad : mq_J → Nat) : mq_V → Value
  | .inl z => .int (Int32.ofInt z)
  | .inr (.inl z) => .long (Int64.ofInt z)
  | .inr (.inr none) => .null
  | .inr (.inr (some j)) => .ref (ad j)
def mq_bd (f k : Nat) : Int × Int := match mq_fm f with
  | (true, _, _, bs) => (bs.getD (k % bs.length) (0, 0, 0)).2
  | (false, _, _, bs) => (bs.getD k (0, 0, 0)).2
def mq_bok (μ : mq_M) : Prop := ∀ (j : mq_J) (k : Nat), (mq_bd j.1 k).1 ≤ μ j k ∧ μ j k ≤ (mq_bd j.1 k).2
def mq_rok (ρ : mq_R) : Prop := ρ.1 < 5 ∧ ρ.2.1 < 5 ∧ ρ.2.2.1 < 5 ∧ (ρ.2.2.2.1 = 19 ∨ ρ.2.2.2.1 = 59)
def mq_fix : List mq_J := (List.range 94).flatMap (fun f => (List.range (mq_ct f)).map (fun i => (f, i)))
def mq_ids (al : Nat → Bool) : List mq_J := mq_fix ++ ((List.range 24).filter al).map (fun k => (1, k))
def mq_ok (ρ : mq_R) : mq_V → Prop
  | .inl z => mq_in z
  | .inr (.inl z) => mq_inl z
  | .inr (.inr none) => True
  | .inr (.inr (some j)) => (94 ≤ j.1 ∧ j.2 < 21) ∨ j ∈ mq_ids ρ.2.2.2.2
def mq_fv (ad : mq_J → Nat) (ρ : mq_R) (μ : mq_M) (j : mq_J) (bs : List (Nat × Int × Int)) (k : Nat) : Value := match bs.getD k (0, 0, 0) with
  | (0, _, _) => .int (Int32.ofInt (μ j k))
  | (1, _, _) => .long (Int64.ofInt (μ j k))
  | (2, _, _) => .int (Int32.ofInt (μ j k))
  | (_ + 3, _, _) => va_rf ((mq_rg ρ j k).map ad)
def mq_con (ad : mq_J → Nat) (ρ : mq_R) (μ : mq_M) (j : mq_J) (t : Nat) : (Nat → Int32) ⊕ (Nat → Int64) ⊕ (Nat → UInt32) ⊕ (Nat → UInt64) ⊕ (Nat → Option Nat) := match t with
  | 0 => .inl (fun k => Int32.ofInt (μ j k))
  | 1 => .inl (fun k => Int32.ofInt (μ j k))
  | 2 => .inl (fun k => Int32.ofInt (μ j k))
  | 3 => .inr (.inl (fun k => Int64.ofInt (μ j k)))
  | _ + 4 => .inr (.inr (.inr (.inr (fun k => (mq_rg ρ j k).map ad))))
def mq_ent (G : KG) (ad : mq_J → Nat) (ρ : mq_R) (μ : mq_M) (j : mq_J) : va_E := match mq_fm j.1 with
  | (false, ci, n, bs) => .inr (ci, (List.range n).map (mq_fv ad ρ μ j bs))
  | (true, t, n, _) => .inl (G.2 t, n, mq_con ad ρ μ j t)
def mq_ws (G : KG) (ad : mq_J → Nat) (ρ : mq_R) (μ : mq_M) : va_W := (mq_ids ρ.2.2.2.2).map (fun j => (ad j, mq_ent G ad ρ μ j))
/-- the array classes, that of byte[][] too -/
abbrev mq_ty (G : KG) : List (ClassId × FieldType) := tyG G ++ [(G.2 6, .array .byte)]
def mq_kG (G : KG) (U : State) : Prop := va_K G.1 vwCl (mq_ty G) U ∧ aoG U
theorem mq_kG_K {G : KG} {U : State} (h : mq_kG G U) : kG G U := ⟨h.1.sub [0, 1, 2, 3, 4, 5] rfl, h.2⟩
theorem mq_kG_warm {G : KG} {s U : State} (h : s.WarmedH U.vm) (k : mq_kG G s) : mq_kG G U := ⟨va_K.moved h.alike k.1, (kG_warm h (mq_kG_K k)).2⟩
theorem mq_kG_same {G : KG} {u U : State} (h : u.vm = U.vm) (k : mq_kG G u) : mq_kG G U := by
  have h2 : u.vm.Alike U.vm := h ▸ Vm.Alike.refl u.vm
  exact ⟨va_K.moved h2 k.1, (kG_same h (mq_kG_K k)).2⟩
def mq_wd (G : KG) (A : Nat → Prop) (ad : mq_J → Nat) (ρ : mq_R) (μ : mq_M) (H : Heap) : Prop := va_P G.1 vwCl (mq_ws G ad ρ μ) H ∧ va_D A (mq_ws G ad ρ μ) ∧ mq_bok μ ∧ mq_rok ρ
def mq_prs (ad : mq_J → Nat) : Nat → mq_L → List (Nat × Value)
  | _, [] => []
  | n, none :: t => mq_prs ad (n + 1) t
  | n, some v :: t => (n, mq_val ad v) :: mq_prs ad (n + 1) t
def mq_lok (ad : mq_J → Nat) (ls : Array Slot) (nL : Nat) (l : mq_L) : Prop := l.length = nL ∧ lv_has ls nL (mq_prs ad 0 l)
def mq_oks (ρ : mq_R) (l : mq_L) (st : List mq_V) : Prop := (∀ v ∈ st, mq_ok ρ v) ∧ ∀ v, some v ∈ l → mq_ok ρ v
def mq_adk (ad0 : mq_J → Nat) (ρ0 : mq_R) (ad : mq_J → Nat) (ρ : mq_R) : Prop := (∀ j : mq_J, (j.1 = 1 → ρ0.2.2.2.2 j.2 = true) → ad j = ad0 j) ∧ ∀ k, ρ0.2.2.2.2 k = true → ρ.2.2.2.2 k = true
-- lists
theorem mq_prs_mem {ad : mq_J → Nat} : ∀ (l : mq_L) (n : Nat) (q : Nat × Value), q ∈ mq_prs ad n l ↔ ∃ (i : Nat) (v : mq_V), l[i]? = some (some v) ∧ q = (n + i, mq_val ad v)
  | [], n, q => by simp [mq_prs]
  | none :: t, n, q => by
    rw [mq_prs, mq_prs_mem t (n + 1) q]
    constructor
    · rintro ⟨i, v, h, rfl⟩; exact ⟨i + 1, v, by simpa using h, by simp; omega⟩
    · rintro ⟨i, v, h, rfl⟩
      cases i with
      | zero => simp at h
      | succ i => exact ⟨i, v, by simpa using h, by simp; omega⟩
  | some w :: t, n, q => by
    rw [mq_prs, List.mem_cons, mq_prs_mem t (n + 1) q]
    constructor
    · rintro (rfl | ⟨i, v, h, rfl⟩)
      · exact ⟨0, w, by simp, by simp⟩
      · exact ⟨i + 1, v, by simpa using h, by simp; omega⟩
    · rintro ⟨i, v, h, rfl⟩
      cases i with
      | zero => simp at h; subst h; exact Or.inl (by simp)
      | succ i => exact Or.inr ⟨i, v, by simpa using h, by simp; omega⟩
theorem mq_ld_spec {l : mq_L} {i : Nat} {k : mq_V → Prop} (h : mq_ld l i k) : ∃ v, l[i]? = some (some v) ∧ k v := by
  induction l generalizing i with
  | nil => simp [mq_ld] at h
  | cons x t ih =>
    cases i with
    | zero => cases x with
      | none => simp [mq_ld] at h
      | some v => exact ⟨v, by simp, by simpa [mq_ld] using h⟩
    | succ i => obtain ⟨v, h1, h2⟩ := ih (i := i) (by cases x <;> simpa [mq_ld] using h); exact ⟨v, by simpa using h1, h2⟩
theorem mq_lok_at {ad : mq_J → Nat} {ls : Array Slot} {nL : Nat} {l : mq_L} {i : Nat} {v : mq_V} (h : mq_lok ad ls nL l) (hi : l[i]? = some (some v)) : ls[i]? = some (.val (mq_val ad v)) := h.2.2.2 (i, mq_val ad v) ((mq_prs_mem l 0 _).mpr ⟨i, v, hi, by simp⟩)
/-- the store: what is known of the new locals -/
theorem mq_st_spec {l : mq_L} {i : Nat} {v : mq_V} {k : mq_L → Prop} (h : mq_st l i v k) : ∃ l' : mq_L, k l' ∧ l'.length = l.length ∧ i < l.length ∧ ∀ (j : Nat) (w : mq_V), l'[j]? = some (some w) → (j = i ∧ w = v) ∨ (j ≠ i ∧ l[j]? = some (some w) ∧ ¬ (j + 1 = i ∧ ∃ z, w = .inr (.inl z))) := by
  induction l generalizing i k with
  | nil => simp [mq_st] at h
  | cons x t ih =>
    match i with
    | 0 =>
      refine ⟨some v :: t, by simpa [mq_st] using h, by simp, by simp, fun j w hj => ?_⟩
      cases j with
      | zero => simp at hj; exact Or.inl ⟨rfl, hj.symm⟩
      | succ j => exact Or.inr ⟨by omega, by simpa using hj, fun q => by omega⟩
    | 1 =>
      by_cases hx : ∃ z, x = some (.inr (.inl z))
      · obtain ⟨z, rfl⟩ := hx
        obtain ⟨t', h1, h2, h3, h4⟩ := ih (i := 0) (k := fun t' => k (none :: t')) (by simpa [mq_st] using h)
        refine ⟨none :: t', h1, by simp [h2], by simp; omega, fun j w hj => ?_⟩
        cases j with
        | zero => simp at hj
        | succ j =>
          rcases h4 j w (by simpa using hj) with ⟨rfl, rfl⟩ | ⟨a, b, c⟩
          · exact Or.inl ⟨rfl, rfl⟩
          · exact Or.inr ⟨by omega, by simpa using b, fun q => by omega⟩
      · obtain ⟨t', h1, h2, h3, h4⟩ := ih (i := 0) (k := fun t' => k (x :: t')) (by
          rcases x with _ | (a | (a | a)) <;> first | (simpa [mq_st] using h) | exact absurd ⟨a, rfl⟩ hx)
        refine ⟨x :: t', h1, by simp [h2], by simp; omega, fun j w hj => ?_⟩
        cases j with
        | zero => simp at hj; exact Or.inr ⟨by omega, by simp [hj], fun q => hx (by obtain ⟨_, z, rfl⟩ := q; exact ⟨z, hj⟩)⟩
        | succ j =>
          rcases h4 j w (by simpa using hj) with ⟨rfl, rfl⟩ | ⟨a, b, c⟩
          · exact Or.inl ⟨rfl, rfl⟩
          · exact Or.inr ⟨by omega, by simpa using b, fun q => by omega⟩
    | i + 2 =>
      obtain ⟨t', h1, h2, h3, h4⟩ := ih (i := i + 1) (k := fun t' => k (x :: t')) (by simpa [mq_st] using h)
      refine ⟨x :: t', h1, by simp [h2], by simp; omega, fun j w hj => ?_⟩
      cases j with
      | zero => simp at hj; exact Or.inr ⟨by omega, by simp [hj], fun q => by omega⟩
      | succ j =>
        rcases h4 j w (by simpa using hj) with ⟨rfl, rfl⟩ | ⟨a, b, c⟩
        · exact Or.inl ⟨rfl, rfl⟩
        · exact Or.inr ⟨by omega, by simpa using b, fun q => c ⟨by omega, q.2⟩⟩
theorem mq_st2_spec {l : mq_L} {i : Nat} {v : mq_V} {k : mq_L → Prop} (h : mq_st2 l i v k) : ∃ l' : mq_L, k l' ∧ l'.length = l.length ∧ i + 1 < l.length ∧ ∀ (j : Nat) (w : mq_V), l'[j]? = some (some w) → (j = i ∧ w = v) ∨ (j ≠ i ∧ j ≠ i + 1 ∧ l[j]? = some (some w) ∧ ¬ (j + 1 = i ∧ ∃ z, w = .inr (.inl z))) := by
  induction l generalizing i k with
  | nil => simp [mq_st2] at h
  | cons x t ih =>
    cases t with
    | nil => rcases x with _ | (a | (a | a)) <;> simp [mq_st2] at h
    | cons y t =>
    match i with
    | 0 =>
      refine ⟨some v :: none :: t, by simpa [mq_st2] using h, by simp, by simp, fun j w hj => ?_⟩
      match j with
      | 0 => simp at hj; exact Or.inl ⟨rfl, hj.symm⟩
      | 1 => simp at hj
      | j + 2 => exact Or.inr ⟨by omega, by omega, by simpa using hj, fun q => by omega⟩
    | 1 =>
      by_cases hx : ∃ z, x = some (.inr (.inl z))
      · obtain ⟨z, rfl⟩ := hx
        obtain ⟨t', h1, h2, h3, h4⟩ := ih (i := 0) (k := fun t' => k (none :: t')) (by simpa [mq_st2] using h)
        refine ⟨none :: t', h1, by simp [h2], by simp at h3 ⊢; omega, fun j w hj => ?_⟩
        cases j with
        | zero => simp at hj
        | succ j =>
          rcases h4 j w (by simpa using hj) with ⟨rfl, rfl⟩ | ⟨a, b, c, d⟩
          · exact Or.inl ⟨rfl, rfl⟩
          · exact Or.inr ⟨by omega, by omega, by simpa using c, fun q => by omega⟩
      · obtain ⟨t', h1, h2, h3, h4⟩ := ih (i := 0) (k := fun t' => k (x :: t')) (by
          rcases x with _ | (a | (a | a)) <;> first | (simpa [mq_st2] using h) | exact absurd ⟨a, rfl⟩ hx)
        refine ⟨x :: t', h1, by simp [h2], by simp at h3 ⊢; omega, fun j w hj => ?_⟩
        cases j with
        | zero => simp at hj; exact Or.inr ⟨by omega, by omega, by simp [hj], fun q => hx (by obtain ⟨_, z, rfl⟩ := q; exact ⟨z, hj⟩)⟩
        | succ j =>
          rcases h4 j w (by simpa using hj) with ⟨rfl, rfl⟩ | ⟨a, b, c, d⟩
          · exact Or.inl ⟨rfl, rfl⟩
          · exact Or.inr ⟨by omega, by omega, by simpa using c, fun q => by omega⟩
    | i + 2 =>
      obtain ⟨t', h1, h2, h3, h4⟩ := ih (i := i + 1) (k := fun t' => k (x :: t')) (by simpa [mq_st2] using h)
      refine ⟨x :: t', h1, by simp [h2], by simp at h3 ⊢; omega, fun j w hj => ?_⟩
      cases j with
      | zero => simp at hj; exact Or.inr ⟨by omega, by omega, by simp [hj], fun q => by omega⟩
      | succ j =>
        rcases h4 j w (by simpa using hj) with ⟨rfl, rfl⟩ | ⟨a, b, c, d⟩
        · exact Or.inl ⟨rfl, rfl⟩
        · exact Or.inr ⟨by omega, by omega, by simpa using c, fun q => d ⟨by omega, q.2⟩⟩
