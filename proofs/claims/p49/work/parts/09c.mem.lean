/-! memory: places in the world's list, reading and writing -/
theorem mq_nodup_fix : mq_fix.Nodup := by decide +kernel
theorem mq_fix_1 : ∀ j ∈ mq_fix, j.1 ≠ 1 := by decide +kernel
theorem mq_nodup_ids (al : Nat → Bool) : (mq_ids al).Nodup := by
  refine List.nodup_append.mpr ⟨mq_nodup_fix, ?_, ?_⟩
  · have h : ((List.range 24).filter al).Pairwise (· ≠ ·) := List.Pairwise.filter _ List.nodup_range
    exact List.Pairwise.map _ (fun a b q r => q (congrArg Prod.snd r)) h
  · intro a ha b hb q
    obtain ⟨k, -, rfl⟩ := List.mem_map.mp hb
    exact mq_fix_1 a ha (by rw [q])
theorem mq_ent_congr {G : KG} {ad : mq_J → Nat} {ρ ρ' : mq_R} {μ μ' : mq_M} {j : mq_J} (h : μ' j = μ j) (hr : ∀ k, mq_rg ρ' j k = mq_rg ρ j k) : mq_ent G ad ρ' μ' j = mq_ent G ad ρ μ j := by
  unfold mq_ent
  split
  · have e : mq_fv ad ρ' μ' j = mq_fv ad ρ μ j := by funext bs k; unfold mq_fv; rw [h, hr]
    rw [e]
  · rename_i t n _ _
    have e : mq_con ad ρ' μ' j = mq_con ad ρ μ j := by
      funext t
      unfold mq_con
      simp only [h, hr]
    rw [e]
theorem mq_place {G : KG} {ad : mq_J → Nat} {ρ : mq_R} {μ : mq_M} {j : mq_J} (h : j ∈ mq_ids ρ.2.2.2.2) : ∃ q : Nat, (mq_ids ρ.2.2.2.2)[q]? = some j ∧ (mq_ws G ad ρ μ)[q]? = some (ad j, mq_ent G ad ρ μ j) := by
  obtain ⟨q, hq⟩ := List.getElem?_of_mem h
  exact ⟨q, hq, by simp [mq_ws, hq]⟩
theorem mq_ws_set {G : KG} {ad : mq_J → Nat} {ρ ρ' : mq_R} {μ μ' : mq_M} {j : mq_J} {q : Nat} (hq : (mq_ids ρ.2.2.2.2)[q]? = some j) (hal : ρ'.2.2.2.2 = ρ.2.2.2.2) (h : ∀ j', j' ≠ j → mq_ent G ad ρ' μ' j' = mq_ent G ad ρ μ j') : (mq_ws G ad ρ μ).set q (ad j, mq_ent G ad ρ' μ' j) = mq_ws G ad ρ' μ' := by
  unfold mq_ws
  rw [hal]
  apply List.ext_getElem?
  intro i
  rw [List.getElem?_set]
  have hlt : q < (mq_ids ρ.2.2.2.2).length := (List.getElem?_eq_some_iff.mp hq).1
  by_cases hi : q = i
  · subst hi
    rw [if_pos rfl, List.getElem?_map, hq, List.length_map, if_pos hlt]
    rfl
  · rw [if_neg hi]
    simp only [List.getElem?_map]
    cases hx : (mq_ids ρ.2.2.2.2)[i]? with
    | none => rfl
    | some j' =>
      have hne : j' ≠ j := fun e => hi (by
        have hn := mq_nodup_ids ρ.2.2.2.2
        subst e
        exact (List.getElem?_inj hlt hn).mp (hq.trans hx.symm))
      simp [h j' hne]
theorem mq_up_self (μ : mq_M) (j : mq_J) (k : Nat) (v : Int) : mq_up μ j k v j = fun k' => if k' = k then v else μ j k' := by
  funext k'
  simp [mq_up]
theorem mq_up_ne (μ : mq_M) {j j' : mq_J} (k : Nat) (v : Int) (h : j' ≠ j) : mq_up μ j k v j' = μ j' := by
  funext k'
  simp [mq_up, h]
theorem mq_bok_up {μ : mq_M} {j : mq_J} {k : Nat} {v : Int} (h : mq_bok μ) (h1 : (mq_bd j.1 k).1 ≤ v ∧ v ≤ (mq_bd j.1 k).2) : mq_bok (mq_up μ j k v) := by
  intro j' k'
  unfold mq_up
  by_cases hx : j' = j ∧ k' = k
  · rw [if_pos hx, hx.1, hx.2]; exact h1
  · rw [if_neg hx]; exact h j' k'
theorem mq_ag_up {md : Nat} {μ0 μ : mq_M} {j : mq_J} {k : Nat} {v : Int} (h : mq_ag md μ0 μ) (hm : Nat.testBit md j.1 = true) : mq_ag md μ0 (mq_up μ j k v) := by
  intro j' hj'
  rw [mq_up_ne μ k v (fun e => by rw [e, hm] at hj'; cases hj')]
  exact h j' hj'
/-- a family of objects: its entry -/
theorem mq_ent_obj {G : KG} {ad : mq_J → Nat} {ρ : mq_R} {μ : mq_M} {j : mq_J} {ci n : Nat} {bs : List (Nat × Int × Int)} (hf : mq_fm j.1 = (false, ci, n, bs)) : mq_ent G ad ρ μ j = .inr (ci, (List.range n).map (mq_fv ad ρ μ j bs)) := by
  unfold mq_ent
  rw [hf]
theorem mq_ent_arr {G : KG} {ad : mq_J → Nat} {ρ : mq_R} {μ : mq_M} {j : mq_J} {t n : Nat} {bs : List (Nat × Int × Int)} (hf : mq_fm j.1 = (true, t, n, bs)) : mq_ent G ad ρ μ j = .inl (G.2 t, n, mq_con ad ρ μ j t) := by
  unfold mq_ent
  rw [hf]
/-- what the tables say of the classes: the number's class, its fields -/
def mq_clok (ci n : Nat) (bs : List (Nat × Int × Int)) : Prop := ∃ q : vw_C, vwCl[ci]? = some q ∧ q.2.2 = n ∧ bs.length = n
theorem mq_nth_spec {α : Type} {xs : List α} {i : Nat} {k : α → Prop} (h : mq_nth xs i k) : ∃ x, xs[i]? = some x ∧ k x := by
  induction xs generalizing i with
  | nil => simp [mq_nth] at h
  | cons x t ih =>
    cases i with
    | zero => exact ⟨x, by simp, by simpa [mq_nth] using h⟩
    | succ i => obtain ⟨y, h1, h2⟩ := ih (i := i) (by simpa [mq_nth] using h); exact ⟨y, by simpa using h1, h2⟩
