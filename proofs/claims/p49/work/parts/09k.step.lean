/-! one step, whatever the instruction -/
theorem mq_fin4 {i : Nat} (h : Nat.ble i 3 = true) : ((Fin.ofNat 4 i : Fin 4) : Nat) = i := by
  have := Nat.le_of_ble_eq_true h
  simp [Fin.ofNat]
  omega
theorem mq_dl {cc : ByteArray} {pc nxt i : Nat} {a b : Instr} (h : (bif Nat.ble i 3 then mq_dq cc pc a 1 nxt else mq_dq cc pc b 2 nxt) = true) : (decode cc pc = .ok (b, 2) ∧ nxt = pc + 2) ∨ (((Fin.ofNat 4 i : Fin 4) : Nat) = i ∧ decode cc pc = .ok (a, 1) ∧ nxt = pc + 1) := by
  cases hb : Nat.ble i 3 with
  | true => rw [hb] at h; exact Or.inr ⟨mq_fin4 hb, mq_dq_spec h⟩
  | false => rw [hb] at h; exact Or.inl (mq_dq_spec h)
theorem mq_tg {t : Int} {pc : Nat} (h : 0 ≤ t) : (pc : Int) + (t - (pc : Int)) = (t.toNat : Int) := by omega
def mq_hwB (f k : Nat) : Bool := match (mq_rt f k).2 with
  | 2 => Nat.beq f 0 && Nat.beq k 3
  | 3 => Nat.beq f 0 && Nat.beq k 4
  | 4 => Nat.beq f 25 && Nat.beq k 4
  | 5 => Nat.beq f 20 && Nat.beq k 0
  | _ => true
theorem mq_rt_how : ∀ f, f < 94 → ∀ k, k < 60 → mq_hwB f k = true := by decide +kernel
theorem mq_rt_hw (f k : Nat) : ((mq_rt f k).2 = 2 → f = 0 ∧ k = 3) ∧ ((mq_rt f k).2 = 3 → f = 0 ∧ k = 4) ∧ ((mq_rt f k).2 = 4 → f = 25 ∧ k = 4) ∧ ((mq_rt f k).2 = 5 → f = 20 ∧ k = 0) := by
  by_cases hk : k < 60
  · by_cases hf : f < 94
    · have h := mq_rt_how f hf k hk
      unfold mq_hwB at h
      refine ⟨fun e => ?_, fun e => ?_, fun e => ?_, fun e => ?_⟩ <;> (rw [e] at h; simp only [Bool.and_eq_true] at h; exact ⟨Nat.eq_of_beq_eq_true h.1, Nat.eq_of_beq_eq_true h.2⟩)
    · have h1 : Nat.ble f 93 = false := by
        cases hb : Nat.ble f 93 with
        | false => rfl
        | true => have := Nat.le_of_ble_eq_true hb; omega
      have h2 : Nat.ble k 59 = true := Nat.ble_eq_true_of_le (by omega)
      have e : mq_rt f k = (0, 9) := by unfold mq_rt; rw [h1, h2]; rfl
      rw [e]
      exact ⟨fun h => absurd h (by decide), fun h => absurd h (by decide), fun h => absurd h (by decide), fun h => absurd h (by decide)⟩
  · have h2 : Nat.ble k 59 = false := by
      cases hb : Nat.ble k 59 with
      | false => rfl
      | true => have := Nat.le_of_ble_eq_true hb; omega
    have e : mq_rt f k = (0, 9) := by unfold mq_rt; rw [h2]; rfl
    rw [e]
    exact ⟨fun h => absurd h (by decide), fun h => absurd h (by decide), fun h => absurd h (by decide), fun h => absurd h (by decide)⟩
/-- two states of the places that differ in one of the four at most -/
theorem mq_rg_eq {ρ ρ' : mq_R} {f i k : Nat} (hal : ρ'.2.2.2.2 = ρ.2.2.2.2) (h2 : f = 0 → i = 0 → k = 3 → ρ'.1 = ρ.1) (h3 : f = 0 → i = 0 → k = 4 → ρ'.2.1 = ρ.2.1) (h4 : f = 25 → i = 0 → k = 4 → ρ'.2.2.1 = ρ.2.2.1) (h5 : f = 20 → i = 0 → k = 0 → ρ'.2.2.2.1 = ρ.2.2.2.1) : mq_rg ρ' (f, i) k = mq_rg ρ (f, i) k := by
  obtain ⟨nw, sp, tl, tx, al⟩ := ρ
  obtain ⟨nw', sp', tl', tx', al'⟩ := ρ'
  simp only at hal h2 h3 h4 h5
  subst hal
  obtain ⟨g2, g3, g4, g5⟩ := mq_rt_hw f k
  simp only [mq_rg]
  generalize mq_rt f k = rt at g2 g3 g4 g5
  obtain ⟨g, how⟩ := rt
  match how, g2, g3, g4, g5 with
  | 0, _, _, _, _ => rfl
  | 1, _, _, _, _ => rfl
  | 2, g2, _, _, _ =>
    cases hb : Nat.beq i 0 with
    | false => rfl
    | true => rw [h2 (g2 rfl).1 (Nat.eq_of_beq_eq_true hb) (g2 rfl).2]
  | 3, _, g3, _, _ =>
    cases hb : Nat.beq i 0 with
    | false => rfl
    | true => rw [h3 (g3 rfl).1 (Nat.eq_of_beq_eq_true hb) (g3 rfl).2]
  | 4, _, _, g4, _ =>
    cases hb : Nat.beq i 0 with
    | false => rfl
    | true => rw [h4 (g4 rfl).1 (Nat.eq_of_beq_eq_true hb) (g4 rfl).2]
  | 5, _, _, _, g5 =>
    cases hb : Nat.beq i 0 with
    | false => rfl
    | true => rw [h5 (g5 rfl).1 (Nat.eq_of_beq_eq_true hb) (g5 rfl).2]
  | 6, _, _, _, _ => rfl
  | 7, _, _, _, _ => rfl
  | 8, _, _, _, _ => rfl
  | _ + 9, _, _, _, _ => rfl
theorem mq_rp_spec {ρ ρ' : mq_R} {f i k : Nat} {v : mq_J} (h : mq_rp ρ (f, i) k v = some ρ') : ρ'.2.2.2.2 = ρ.2.2.2.2 ∧ mq_rg ρ' (f, i) k = some v ∧ (∀ (f' i' k' : Nat), (f' = f ∧ i' = i → k' ≠ k) → mq_rg ρ' (f', i') k' = mq_rg ρ (f', i') k') ∧ (mq_rok ρ → v ∈ mq_ids ρ.2.2.2.2 → mq_rok ρ') := by
  have c2 : mq_ct 2 = 5 := by decide +kernel
  have lt5 : ∀ {x : Nat} {al : Nat → Bool}, (2, x) ∈ mq_ids al → x < 5 := fun {x al} hx => (mq_ids_inv hx).elim (fun q => c2 ▸ q.2) (fun q => by cases q.1)
  obtain ⟨nw, sp, tl, tx, al⟩ := ρ
  obtain ⟨g, x⟩ := v
  simp only [mq_rp] at h
  cases hb : (Nat.beq i 0 && Nat.beq f 0 && Nat.beq k 3 && Nat.beq g 2) with
  | true =>
    rw [hb] at h
    cases h
    simp only [Bool.and_eq_true] at hb
    obtain ⟨⟨⟨e1, e2⟩, e3⟩, e4⟩ := hb
    rw [Nat.eq_of_beq_eq_true e1, Nat.eq_of_beq_eq_true e2, Nat.eq_of_beq_eq_true e3, Nat.eq_of_beq_eq_true e4]
    exact ⟨rfl, rfl, fun f' i' k' hn => mq_rg_eq rfl (fun a b c => absurd c (hn ⟨a, b⟩)) (fun _ _ _ => rfl) (fun _ _ _ => rfl) (fun _ _ _ => rfl), fun hr hv => ⟨lt5 hv, hr.2⟩⟩
  | false =>
  rw [hb] at h
  simp only [cond_false] at h
  cases hb : (Nat.beq i 0 && Nat.beq f 0 && Nat.beq k 4 && Nat.beq g 2) with
  | true =>
    rw [hb] at h
    cases h
    simp only [Bool.and_eq_true] at hb
    obtain ⟨⟨⟨e1, e2⟩, e3⟩, e4⟩ := hb
    rw [Nat.eq_of_beq_eq_true e1, Nat.eq_of_beq_eq_true e2, Nat.eq_of_beq_eq_true e3, Nat.eq_of_beq_eq_true e4]
    exact ⟨rfl, rfl, fun f' i' k' hn => mq_rg_eq rfl (fun _ _ _ => rfl) (fun a b c => absurd c (hn ⟨a, b⟩)) (fun _ _ _ => rfl) (fun _ _ _ => rfl), fun hr hv => ⟨hr.1, lt5 hv, hr.2.2⟩⟩
  | false =>
  rw [hb] at h
  simp only [cond_false] at h
  cases hb : (Nat.beq i 0 && Nat.beq f 25 && Nat.beq k 4 && Nat.beq g 2) with
  | true =>
    rw [hb] at h
    cases h
    simp only [Bool.and_eq_true] at hb
    obtain ⟨⟨⟨e1, e2⟩, e3⟩, e4⟩ := hb
    rw [Nat.eq_of_beq_eq_true e1, Nat.eq_of_beq_eq_true e2, Nat.eq_of_beq_eq_true e3, Nat.eq_of_beq_eq_true e4]
    exact ⟨rfl, rfl, fun f' i' k' hn => mq_rg_eq rfl (fun _ _ _ => rfl) (fun _ _ _ => rfl) (fun a b c => absurd c (hn ⟨a, b⟩)) (fun _ _ _ => rfl), fun hr hv => ⟨hr.1, hr.2.1, lt5 hv, hr.2.2.2⟩⟩
  | false =>
  rw [hb] at h
  simp only [cond_false] at h
  cases hb : (Nat.beq i 0 && Nat.beq f 20 && Nat.beq k 0 && Nat.beq g 19 && Nat.beq x 0) with
  | true =>
    rw [hb] at h
    cases h
    simp only [Bool.and_eq_true] at hb
    obtain ⟨⟨⟨⟨e1, e2⟩, e3⟩, e4⟩, e5⟩ := hb
    rw [Nat.eq_of_beq_eq_true e1, Nat.eq_of_beq_eq_true e2, Nat.eq_of_beq_eq_true e3, Nat.eq_of_beq_eq_true e4, Nat.eq_of_beq_eq_true e5]
    exact ⟨rfl, rfl, fun f' i' k' hn => mq_rg_eq rfl (fun _ _ _ => rfl) (fun _ _ _ => rfl) (fun _ _ _ => rfl) (fun a b c => absurd c (hn ⟨a, b⟩)), fun hr hv => ⟨hr.1, hr.2.1, hr.2.2.1, Or.inl rfl⟩⟩
  | false =>
  rw [hb] at h
  cases h
