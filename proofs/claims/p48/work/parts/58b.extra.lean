/-! what the two sides keep alike (p46, p48, p49) -/
theorem e46_ag {md : Nat} {μ μ1 : mq_M} (t1 : Nat.testBit md 23 = false) (t2 : Nat.testBit md 77 = false) (a : mq_ag md μ μ1) (hE : sq_bx (∀ x : Nat, μ (23, 0) x = μ (77, 0) x)) : sq_bx (∀ x : Nat, μ1 (23, 0) x = μ1 (77, 0) x) := by
  obtain ⟨_, h⟩ := hE
  rw [mq_ag_at a 23 0 t1, mq_ag_at a 77 0 t2]
  exact sq_m h
theorem e46_keep {md1 md2 n : Nat} {μ μ1 μ2 : mq_M} {k1 k2 r1 r2 : Int} (a1 : mq_ag md1 μ μ1) (a2 : mq_ag md2 μ1 μ2) (hE : sq_bx (∀ x : Nat, μ (23, 0) x = μ (77, 0) x)) (q1 : ∀ x : Nat, (r1 = 0 ∧ (x : Int) = k1 → μ1 (23, 0) x = 1) ∧ (¬ (r1 = 0 ∧ (x : Int) = k1) → μ1 (23, 0) x = μ (23, 0) x))
    (q2 : sq_bx (∀ x : Nat, (r2 = 0 ∧ (x : Int) = k2 → μ2 (77, 0) x = 1) ∧ (¬ (r2 = 0 ∧ (x : Int) = k2) → μ2 (77, 0) x = μ1 (77, 0) x))) (p1 : (r1 = -2 ∧ ¬ (0 ≤ k1 ∧ k1 ≤ 2)) ∨ (r1 = 0 ∧ 0 ≤ k1 ∧ k1 ≤ 2)) (p2 : (r2 = -2 ∧ ¬ (0 ≤ k2 ∧ k2 ≤ 2)) ∨ (r2 = 0 ∧ 0 ≤ k2 ∧ k2 ≤ 2))
    (hk1 : k1 = μ (97, 0) n) (hk2 : k2 = μ1 (97, 0) n) (t1 : Nat.testBit md1 77 = false) (t2 : Nat.testBit md2 23 = false) (t3 : Nat.testBit md1 97 = false) : sq_bx (∀ x : Nat, μ2 (23, 0) x = μ2 (77, 0) x) := by
  obtain ⟨_, hE⟩ := hE
  obtain ⟨_, q2⟩ := q2
  refine sq_m fun x => ?_
  have hk : k1 = k2 := by rw [hk1, hk2, mq_ag_at a1 97 0 t3]
  clear hk1 hk2
  rw [mq_ag_at a2 23 0 t2]
  rw [mq_ag_at a1 77 0 t1] at q2
  by_cases h : r1 = 0 ∧ (x : Int) = k1
  · rw [(q1 x).1 h, (q2 x).1 (by omega)]
  · rw [(q1 x).2 h, (q2 x).2 (by omega)]
    exact hE x
theorem e46_back {md1 n : Nat} {μ μ1 : mq_M} {k1 k2 r1 r2 : Int} (a1 : mq_ag md1 μ μ1) (hE : sq_bx (∀ x : Nat, μ (23, 0) x = μ (77, 0) x)) (p1 : (r1 = -2 ∧ ¬ (0 ≤ k1 ∧ k1 ≤ 2)) ∨ (0 ≤ k1 ∧ k1 ≤ 2 ∧ ((r1 = -6 ∧ μ (23, 0) k1.toNat = 0) ∨ (r1 = 0 ∧ ¬ μ (23, 0) k1.toNat = 0))))
    (p2 : (r2 = -2 ∧ ¬ (0 ≤ k2 ∧ k2 ≤ 2)) ∨ (0 ≤ k2 ∧ k2 ≤ 2 ∧ ((r2 = -6 ∧ μ1 (77, 0) k2.toNat = 0) ∨ (r2 = 0 ∧ ¬ μ1 (77, 0) k2.toNat = 0)))) (hk1 : k1 = μ (97, 0) n) (hk2 : k2 = μ1 (97, 0) n) (t1 : Nat.testBit md1 77 = false) (t3 : Nat.testBit md1 97 = false) : r1 = r2 := by
  obtain ⟨_, hE⟩ := hE
  have hk : k1 = k2 := by rw [hk1, hk2, mq_ag_at a1 97 0 t3]
  clear hk1 hk2
  subst hk
  rw [mq_ag_at a1 77 0 t1, ← hE k1.toNat] at p2
  omega
abbrev e48_E (μ : mq_M) : Prop := sq_bx (∀ s : Nat, s < 4 → μ (17, s) 1 = μ (61, 0) s ∧ μ (17, s) 2 = μ (62, 0) s)
theorem e48_ag {md : Nat} {μ μ1 : mq_M} (t1 : Nat.testBit md 17 = false) (t2 : Nat.testBit md 61 = false) (t3 : Nat.testBit md 62 = false) (a : mq_ag md μ μ1) (hE : sq_bx (∀ s : Nat, s < 4 → μ (17, s) 1 = μ (61, 0) s ∧ μ (17, s) 2 = μ (62, 0) s)) : sq_bx (∀ s : Nat, s < 4 → μ1 (17, s) 1 = μ1 (61, 0) s ∧ μ1 (17, s) 2 = μ1 (62, 0) s) := by
  obtain ⟨_, h⟩ := hE
  refine sq_m fun s hs => ?_
  rw [mq_ag_at a 17 s t1, mq_ag_at a 61 0 t2, mq_ag_at a 62 0 t3]
  exact h s hs
theorem e48_row {md1 md2 ns nw nn : Nat} {μ μ1 μ2 : mq_M} {s1 s2 w1 w2 n1 n2 r1 r2 : Int} (a1 : mq_ag md1 μ μ1) (a2 : mq_ag md2 μ1 μ2) (hE : sq_bx (∀ s : Nat, s < 4 → μ (17, s) 1 = μ (61, 0) s ∧ μ (17, s) 2 = μ (62, 0) s))
    (q1 : ∀ j : mq_J, j.1 = 17 → ¬ (r1 = 0 ∧ j = (17, s1.toNat)) → μ1 j = μ j) (x1 : r1 = 0 → μ1 (17, s1.toNat) 1 = w1 ∧ μ1 (17, s1.toNat) 2 = n1)
    (q2 : ∀ x : Nat, ¬ (r2 = 0 ∧ (x : Int) = s2) → μ2 (61, 0) x = μ1 (61, 0) x ∧ μ2 (62, 0) x = μ1 (62, 0) x) (x2 : r2 = 0 → μ2 (61, 0) s2.toNat = w2 ∧ μ2 (62, 0) s2.toNat = n2)
    (p1 : (r1 = -2 ∧ ¬ (0 ≤ s1 ∧ s1 ≤ 3 ∧ 0 ≤ w1 ∧ w1 ≤ 3 ∧ n1 ≤ 60)) ∨ (0 ≤ s1 ∧ s1 ≤ 3 ∧ 0 ≤ w1 ∧ w1 ≤ 3 ∧ n1 ≤ 60 ∧ ((r1 = -3 ∧ n1 < 0) ∨ (r1 = 0 ∧ 0 ≤ n1))))
    (p2 : (r2 = -2 ∧ ¬ (0 ≤ s2 ∧ s2 ≤ 3 ∧ 0 ≤ w2 ∧ w2 ≤ 3 ∧ n2 ≤ 60)) ∨ (0 ≤ s2 ∧ s2 ≤ 3 ∧ 0 ≤ w2 ∧ w2 ≤ 3 ∧ n2 ≤ 60 ∧ ((r2 = -3 ∧ n2 < 0) ∨ (r2 = 0 ∧ 0 ≤ n2))))
    (hs1 : s1 = μ (97, 0) ns) (hs2 : s2 = μ1 (97, 0) ns) (hw1 : w1 = μ (97, 0) nw) (hw2 : w2 = μ1 (97, 0) nw) (hn1 : n1 = μ (97, 0) nn) (hn2 : n2 = μ1 (97, 0) nn)
    (t1 : Nat.testBit md1 61 = false) (t2 : Nat.testBit md1 62 = false) (t3 : Nat.testBit md2 17 = false) (t4 : Nat.testBit md1 97 = false) : sq_bx (∀ s : Nat, s < 4 → μ2 (17, s) 1 = μ2 (61, 0) s ∧ μ2 (17, s) 2 = μ2 (62, 0) s) := by
  obtain ⟨_, hE⟩ := hE
  have e97 := mq_ag_at a1 97 0 t4
  have ks : s1 = s2 := by rw [hs1, hs2, e97]
  have kw : w1 = w2 := by rw [hw1, hw2, e97]
  have kn : n1 = n2 := by rw [hn1, hn2, e97]
  clear hs1 hs2 hw1 hw2 hn1 hn2
  subst ks kw kn
  have kr : r1 = r2 := by omega
  subst kr
  refine sq_m fun s hs => ?_
  rw [mq_ag_at a2 17 s t3]
  rw [mq_ag_at a1 61 0 t1, mq_ag_at a1 62 0 t2] at q2
  by_cases h : r1 = 0 ∧ (s : Int) = s1
  · have hst : s1.toNat = s := by omega
    have y1 := x1 h.1
    have y2 := x2 h.1
    rw [hst] at y1 y2
    rw [y1.1, y1.2, y2.1, y2.2]
    exact ⟨rfl, rfl⟩
  · have h3 : ¬ (r1 = 0 ∧ ((17, s) : mq_J) = (17, s1.toNat)) := fun q => h ⟨q.1, by
      have q3 : s = s1.toNat := congrArg Prod.snd q.2
      omega⟩
    have y2 := q2 s h
    rw [q1 (17, s) rfl h3, y2.1, y2.2]
    exact hE s hs
theorem e48_write {md1 ns ni : Nat} {μ μ1 : mq_M} {s1 s2 i1 i2 r1 r2 : Int} (a1 : mq_ag md1 μ μ1) (hE : sq_bx (∀ s : Nat, s < 4 → μ (17, s) 1 = μ (61, 0) s ∧ μ (17, s) 2 = μ (62, 0) s))
    (p1 : (r1 = -2 ∧ ¬ (0 ≤ s1 ∧ s1 ≤ 3)) ∨ (0 ≤ s1 ∧ s1 ≤ 3 ∧ ((r1 = -6 ∧ μ (17, s1.toNat) 1 = -1) ∨ (¬ μ (17, s1.toNat) 1 = -1 ∧ ((r1 = -7 ∧ ¬ (0 ≤ i1 ∧ i1 < μ (17, s1.toNat) 2)) ∨ (r1 = 0 ∧ 0 ≤ i1 ∧ i1 < μ (17, s1.toNat) 2))))))
    (p2 : (r2 = -2 ∧ ¬ (0 ≤ s2 ∧ s2 ≤ 3)) ∨ (0 ≤ s2 ∧ s2 ≤ 3 ∧ ((r2 = -6 ∧ μ1 (61, 0) s2.toNat = -1) ∨ (¬ μ1 (61, 0) s2.toNat = -1 ∧ ((r2 = -7 ∧ ¬ (0 ≤ i2 ∧ i2 < μ1 (62, 0) s2.toNat)) ∨ (r2 = 0 ∧ 0 ≤ i2 ∧ i2 < μ1 (62, 0) s2.toNat))))))
    (hs1 : s1 = μ (97, 0) ns) (hs2 : s2 = μ1 (97, 0) ns) (hi1 : i1 = μ (97, 0) ni) (hi2 : i2 = μ1 (97, 0) ni) (t1 : Nat.testBit md1 61 = false) (t2 : Nat.testBit md1 62 = false) (t4 : Nat.testBit md1 97 = false) : r1 = r2 := by
  obtain ⟨_, hE⟩ := hE
  have e97 := mq_ag_at a1 97 0 t4
  have ks : s1 = s2 := by rw [hs1, hs2, e97]
  have ki : i1 = i2 := by rw [hi1, hi2, e97]
  clear hs1 hs2 hi1 hi2
  subst ks ki
  rw [mq_ag_at a1 61 0 t1, mq_ag_at a1 62 0 t2] at p2
  by_cases h : 0 ≤ s1 ∧ s1 ≤ 3
  · have y := hE s1.toNat (by omega)
    rw [← y.1, ← y.2] at p2
    omega
  · omega
theorem e48_paste {md1 ns ni nt nk nn : Nat} {μ μ1 : mq_M} {s1 s2 i1 i2 u1 u2 k1 k2 n1 n2 r1 r2 : Int} (a1 : mq_ag md1 μ μ1) (hE : sq_bx (∀ s : Nat, s < 4 → μ (17, s) 1 = μ (61, 0) s ∧ μ (17, s) 2 = μ (62, 0) s))
    (p1 : (r1 = -2 ∧ ¬ (0 ≤ s1 ∧ s1 ≤ 3 ∧ 0 ≤ u1 ∧ u1 ≤ 3)) ∨ (0 ≤ s1 ∧ s1 ≤ 3 ∧ 0 ≤ u1 ∧ u1 ≤ 3 ∧ ((r1 = -6 ∧ (μ (17, s1.toNat) 1 = -1 ∨ μ (17, u1.toNat) 1 = -1)) ∨ (¬ μ (17, s1.toNat) 1 = -1 ∧ ¬ μ (17, u1.toNat) 1 = -1 ∧ ((r1 = -8 ∧ ¬ μ (17, s1.toNat) 1 = μ (17, u1.toNat) 1) ∨ (μ (17, s1.toNat) 1 = μ (17, u1.toNat) 1 ∧ ((r1 = -7 ∧ ¬ (0 ≤ i1 ∧ 0 ≤ n1 ∧ i1 + n1 ≤ μ (17, s1.toNat) 2 ∧ 0 ≤ k1 ∧ k1 + n1 ≤ μ (17, u1.toNat) 2)) ∨ (r1 = 0 ∧ 0 ≤ i1 ∧ 0 ≤ n1 ∧ i1 + n1 ≤ μ (17, s1.toNat) 2 ∧ 0 ≤ k1 ∧ k1 + n1 ≤ μ (17, u1.toNat) 2))))))))
    (p2 : (r2 = -2 ∧ ¬ (0 ≤ s2 ∧ s2 ≤ 3 ∧ 0 ≤ u2 ∧ u2 ≤ 3)) ∨ (0 ≤ s2 ∧ s2 ≤ 3 ∧ 0 ≤ u2 ∧ u2 ≤ 3 ∧ ((r2 = -6 ∧ (μ1 (61, 0) s2.toNat = -1 ∨ μ1 (61, 0) u2.toNat = -1)) ∨ (¬ μ1 (61, 0) s2.toNat = -1 ∧ ¬ μ1 (61, 0) u2.toNat = -1 ∧ ((r2 = -8 ∧ ¬ μ1 (61, 0) s2.toNat = μ1 (61, 0) u2.toNat) ∨ (μ1 (61, 0) s2.toNat = μ1 (61, 0) u2.toNat ∧ ((r2 = -7 ∧ ¬ (0 ≤ i2 ∧ 0 ≤ n2 ∧ i2 + n2 ≤ μ1 (62, 0) s2.toNat ∧ 0 ≤ k2 ∧ k2 + n2 ≤ μ1 (62, 0) u2.toNat)) ∨ (r2 = 0 ∧ 0 ≤ i2 ∧ 0 ≤ n2 ∧ i2 + n2 ≤ μ1 (62, 0) s2.toNat ∧ 0 ≤ k2 ∧ k2 + n2 ≤ μ1 (62, 0) u2.toNat))))))))
    (hs1 : s1 = μ (97, 0) ns) (hs2 : s2 = μ1 (97, 0) ns) (hi1 : i1 = μ (97, 0) ni) (hi2 : i2 = μ1 (97, 0) ni) (hu1 : u1 = μ (97, 0) nt) (hu2 : u2 = μ1 (97, 0) nt) (hk1 : k1 = μ (97, 0) nk) (hk2 : k2 = μ1 (97, 0) nk) (hn1 : n1 = μ (97, 0) nn) (hn2 : n2 = μ1 (97, 0) nn) (t1 : Nat.testBit md1 61 = false) (t2 : Nat.testBit md1 62 = false) (t4 : Nat.testBit md1 97 = false) : r1 = r2 := by
  obtain ⟨_, hE⟩ := hE
  have e97 := mq_ag_at a1 97 0 t4
  have ks : s1 = s2 := by rw [hs1, hs2, e97]
  have ki : i1 = i2 := by rw [hi1, hi2, e97]
  have ku : u1 = u2 := by rw [hu1, hu2, e97]
  have kk : k1 = k2 := by rw [hk1, hk2, e97]
  have kn : n1 = n2 := by rw [hn1, hn2, e97]
  clear hs1 hs2 hi1 hi2 hu1 hu2 hk1 hk2 hn1 hn2
  subst ks ki ku kk kn
  rw [mq_ag_at a1 61 0 t1, mq_ag_at a1 62 0 t2] at p2
  by_cases h : 0 ≤ s1 ∧ s1 ≤ 3 ∧ 0 ≤ u1 ∧ u1 ≤ 3
  · have y := hE s1.toNat (by omega)
    have z := hE u1.toNat (by omega)
    rw [← y.1, ← y.2, ← z.1, ← z.2] at p2
    omega
  · omega
