/-! the reference's tables as functions of its rows -/
abbrev sq_Ro : Type := Nat → Int
/-- a part of a row is another part -/
def sq_cp (ro ro' : sq_Ro) (n a b k : Int) : Prop := (∀ j : Int, 0 ≤ j → j < k → ro' (n * b + j).toNat = ro (n * a + j).toNat) ∧ ∀ x : Nat, ¬ (n * b ≤ (x : Int) ∧ (x : Int) < n * b + k) → ro' x = ro x
theorem sq_cp_0 (ro : sq_Ro) (n a b : Int) : sq_cp ro ro n a b 0 := ⟨fun j h1 h2 => by omega, fun _ _ => rfl⟩
theorem sq_cp_s {ro ro' ro2 : sq_Ro} {n a b k v : Int} (h : sq_cp ro ro' n a b k) (h0 : 0 ≤ k) (hk : k < n) (ha : 0 ≤ a) (hb : 0 ≤ b) (hab : ¬ a = b) (hv : v = ro' (n * a + k).toNat) (h2 : ∀ x : Nat, ro2 x = if x = (n * b + k).toNat then v else ro' x) : sq_cp ro ro2 n a b (k + 1) := by
  have hn : 0 < n := by omega
  have pa : 0 ≤ n * a := Int.mul_nonneg (by omega) ha
  have pb : 0 ≤ n * b := Int.mul_nonneg (by omega) hb
  have hd : n * a + n ≤ n * b ∨ n * b + n ≤ n * a := by
    rcases (show a + 1 ≤ b ∨ b + 1 ≤ a by omega) with h | h
    · left
      have := Int.mul_le_mul_of_nonneg_left h (Int.le_of_lt hn)
      rw [Int.mul_add, Int.mul_one] at this
      exact this
    · right
      have := Int.mul_le_mul_of_nonneg_left h (Int.le_of_lt hn)
      rw [Int.mul_add, Int.mul_one] at this
      exact this
  refine ⟨fun j h1 h3 => ?_, fun x hx => ?_⟩
  · rw [h2]
    by_cases hj : j = k
    · subst hj
      rw [if_pos rfl, hv]
      exact h.2 _ (by omega)
    · rw [if_neg (by omega)]
      exact h.1 j h1 (by omega)
  · rw [h2, if_neg (by omega)]
    exact h.2 x (by omega)
theorem sq_cp_at {ro ro' : sq_Ro} {n a b k : Int} (h : sq_cp ro ro' n a b k) (j : Int) (h0 : 0 ≤ j) (h1 : j < k) : ro' (n * b + j).toNat = ro (n * a + j).toNat := h.1 j h0 h1
/-- how many COACHES of a TRAIN -/
def sq_cnt (co : sq_Ro) (b : Int) (t : Int) : Nat → Int
  | 0 => 0
  | n + 1 => sq_cnt co b t n + if co (b + 5 * (n : Int)).toNat = t then 1 else 0
theorem sq_cnt_nn (co : sq_Ro) (b t : Int) : ∀ n, 0 ≤ sq_cnt co b t n ∧ sq_cnt co b t n ≤ n
  | 0 => by simp [sq_cnt]
  | n + 1 => by have := sq_cnt_nn co b t n; simp only [sq_cnt]; split <;> omega
theorem sq_cnt_le (co : sq_Ro) (b t : Int) (n : Nat) (h : n ≤ 16) : sq_cnt co b t n ≤ 16 := by have := sq_cnt_nn co b t n; omega
theorem sq_cnt_congr {co co' : sq_Ro} {b b' t : Int} : ∀ (n : Nat), (∀ i : Nat, i < n → co' (b' + 5 * (i : Int)).toNat = co (b + 5 * (i : Int)).toNat) → sq_cnt co' b' t n = sq_cnt co b t n
  | 0, _ => rfl
  | n + 1, h => by simp only [sq_cnt]; rw [sq_cnt_congr n (fun i hi => h i (by omega)), h n (by omega)]
/-- the places of the COACHES of each TRAIN are 0, 1, .. -/
def sq_pl (ha co : sq_Ro) (b : Int) : Prop := ∀ t k : Int, 0 ≤ k → k < sq_cnt co (80 * b) t (ha (7 * b + 6).toNat).toNat → ∃ c : Int, 0 ≤ c ∧ c < ha (7 * b + 6).toNat ∧ co (80 * b + 5 * c).toNat = t ∧ co (80 * b + 5 * c + 4).toNat = k
def sq_inv (ha co : sq_Ro) : Prop := ∀ b : Int, 0 ≤ b → b ≤ 3 → sq_pl ha co b
theorem sq_pl_none {ha co : sq_Ro} {b : Int} (h : ha (7 * b + 6).toNat = 0) : sq_pl ha co b := by
  intro t k h0 h1
  rw [h] at h1
  simp [sq_cnt] at h1
  omega
theorem sq_pl_move {ha co ha' co' : sq_Ro} {a b : Int} (h : sq_pl ha co a) (hn : ha (7 * a + 6).toNat ≤ 16) (h1 : ha' (7 * b + 6).toNat = ha (7 * a + 6).toNat) (h2 : ∀ j : Int, 0 ≤ j → j < 80 → ¬ j % 5 = 3 → co' (80 * b + j).toNat = co (80 * a + j).toNat) : sq_pl ha' co' b := by
  intro t k h0 hk
  rw [h1] at hk ⊢
  have e : sq_cnt co' (80 * b) t (ha (7 * a + 6).toNat).toNat = sq_cnt co (80 * a) t (ha (7 * a + 6).toNat).toNat := sq_cnt_congr _ fun i hi => h2 (5 * i) (by omega) (by omega) (by omega)
  rw [e] at hk
  obtain ⟨c, c1, c2, c3, c4⟩ := h t k h0 hk
  exact ⟨c, c1, c2, by rw [h2 (5 * c) (by omega) (by omega) (by omega)]; exact c3, by rw [Int.add_assoc, h2 (5 * c + 4) (by omega) (by omega) (by omega), ← Int.add_assoc]; exact c4⟩
theorem sq_pl_same {ha co ha' co' : sq_Ro} {b : Int} (h : sq_pl ha co b) (hn : ha (7 * b + 6).toNat ≤ 16) (h1 : ha' (7 * b + 6).toNat = ha (7 * b + 6).toNat) (h2 : ∀ j : Int, 0 ≤ j → j < 80 → ¬ j % 5 = 3 → co' (80 * b + j).toNat = co (80 * b + j).toNat) : sq_pl ha' co' b := sq_pl_move h hn h1 h2
/-- a LINE is copied -/
theorem sq_pl_copy {ha co ha' co' : sq_Ro} {a b : Int} (h : sq_pl ha co a) (hn : ha (7 * a + 6).toNat ≤ 16) (h1 : sq_cp ha ha' 7 a b 7) (h2 : sq_cp co co' 80 a b 80) : sq_pl ha' co' b := sq_pl_move h hn (h1.1 6 (by omega) (by omega)) (fun j a1 a2 _ => h2.1 j a1 a2)
theorem sq_pl_keep {ha co ha' co' : sq_Ro} {a b d : Int} (h : sq_pl ha co d) (hn : ha (7 * d + 6).toNat ≤ 16) (hd : 0 ≤ d) (hb : 0 ≤ b) (hdb : ¬ d = b) (h1 : sq_cp ha ha' 7 a b 7) (h2 : sq_cp co co' 80 a b 80) : sq_pl ha' co' d := sq_pl_same h hn (h1.2 _ (by omega)) (fun j a1 a2 _ => h2.2 _ (by omega))
/-- a COACH more -/
theorem sq_pl_add {ha co ha' co' : sq_Ro} {b n t : Int} (h : sq_pl ha co b) (hn : n = ha (7 * b + 6).toNat) (h0 : 0 ≤ n) (hn16 : n < 16) (hb : 0 ≤ b) (h1 : ha' (7 * b + 6).toNat = n + 1) (h2 : ∀ j : Int, 0 ≤ j → j < 5 * n → co' (80 * b + j).toNat = co (80 * b + j).toNat) (h3 : co' (80 * b + 5 * n).toNat = t) (h4 : co' (80 * b + 5 * n + 4).toNat = sq_cnt co (80 * b) t n.toNat) : sq_pl ha' co' b := by
  intro t' k hk0 hk
  rw [h1] at hk ⊢
  have e1 : (n + 1).toNat = n.toNat + 1 := by omega
  have e2 : ∀ t, sq_cnt co' (80 * b) t n.toNat = sq_cnt co (80 * b) t n.toNat := fun t => sq_cnt_congr _ fun i hi => h2 (5 * i) (by omega) (by omega)
  have e3 : ((n.toNat : Nat) : Int) = n := by omega
  rw [e1] at hk
  simp only [sq_cnt, e2, e3, h3] at hk
  by_cases hkk : k < sq_cnt co (80 * b) t' n.toNat
  · obtain ⟨c, c1, c2, c3, c4⟩ := h t' k hk0 (by rw [← hn]; exact hkk)
    rw [← hn] at c2
    exact ⟨c, c1, by omega, by rw [h2 (5 * c) (by omega) (by omega)]; exact c3, by rw [Int.add_assoc, h2 (5 * c + 4) (by omega) (by omega), ← Int.add_assoc]; exact c4⟩
  · by_cases ht : t = t'
    · subst ht
      rw [if_pos rfl] at hk
      exact ⟨n, h0, by omega, h3, by rw [h4]; omega⟩
    · rw [if_neg ht] at hk
      omega
/-- two COACHES of one TRAIN change places -/
theorem sq_pl_swap {ha co co' : sq_Ro} {x y : Int} (h : sq_pl ha co 0) (hx : 0 ≤ x ∧ x < ha 6) (hy : 0 ≤ y ∧ y < ha 6) (hxy : ¬ x = y) (ht : co (5 * x).toNat = co (5 * y).toNat) (h2 : ∀ z : Nat, ¬ (z : Int) = 5 * x + 4 → ¬ (z : Int) = 5 * y + 4 → co' z = co z) (h3 : co' (5 * x + 4).toNat = co (5 * y + 4).toNat) (h4 : co' (5 * y + 4).toNat = co (5 * x + 4).toNat) : sq_pl ha co' 0 := by
  intro t k h0 hk
  have e0 : (7 * (0 : Int) + 6).toNat = 6 := rfl
  have e : sq_cnt co' (80 * 0) t (ha 6).toNat = sq_cnt co (80 * 0) t (ha 6).toNat := sq_cnt_congr _ fun i hi => h2 _ (by omega) (by omega)
  rw [e0, e] at hk
  obtain ⟨c, c1, c2, c3, c4⟩ := h t k h0 (by rw [e0]; exact hk)
  rw [e0] at c2 ⊢
  have z0 : ∀ z : Int, 80 * 0 + z = z := fun z => by omega
  rw [z0] at c3 c4
  by_cases ex : c = x
  · subst ex
    exact ⟨y, hy.1, hy.2, by rw [z0, h2 _ (by omega) (by omega)]; omega, by rw [z0, h4]; exact c4⟩
  · by_cases ey : c = y
    · subst ey
      exact ⟨x, hx.1, hx.2, by rw [z0, h2 _ (by omega) (by omega)]; omega, by rw [z0, h3]; exact c4⟩
    · exact ⟨c, c1, c2, by rw [z0, h2 _ (by omega) (by omega)]; exact c3, by rw [z0, h2 _ (by omega) (by omega)]; exact c4⟩
/-- which COACH stands at a place -/
def sq_at (co : sq_Ro) (t p : Int) : Nat → Int
  | 0 => -1
  | n + 1 => if sq_at co t p n = -1 then (if co (5 * (n : Int)).toNat = t ∧ co (5 * (n : Int) + 4).toNat = p then (n : Int) else -1) else sq_at co t p n
theorem sq_at_rg (co : sq_Ro) (t p : Int) : ∀ n, -1 ≤ sq_at co t p n ∧ sq_at co t p n < n
  | 0 => by simp [sq_at]
  | n + 1 => by have := sq_at_rg co t p n; simp only [sq_at]; split <;> (try split) <;> omega
theorem sq_at_up {co : sq_Ro} {t p : Int} {n : Nat} (h : ¬ sq_at co t p n = -1) : ∀ m, n ≤ m → sq_at co t p m = sq_at co t p n
  | 0, hm => by have : n = 0 := by omega
                subst this; rfl
  | m + 1, hm => by
    by_cases e : n = m + 1
    · subst e; rfl
    · have := sq_at_up h m (by omega)
      simp only [sq_at]
      rw [if_neg (by rw [this]; exact h), this]
theorem sq_at_ok {co : sq_Ro} {t p : Int} {n : Nat} {c : Int} (h0 : 0 ≤ c) (hc : c < n) (h1 : co (5 * c).toNat = t) (h2 : co (5 * c + 4).toNat = p) : 0 ≤ sq_at co t p n := by
  have hr := sq_at_rg co t p n
  by_cases h : sq_at co t p n = -1
  · exfalso
    have h3 : ∀ m, m ≤ n → sq_at co t p m = -1 := by
      intro m hm
      by_cases e : sq_at co t p m = -1
      · exact e
      · have := sq_at_up e n hm; rw [h] at this; exact absurd this.symm e
    have e1 := h3 (c.toNat + 1) (by omega)
    have e3 : ((c.toNat : Nat) : Int) = c := by omega
    simp only [sq_at, e3] at e1
    rw [if_pos (h3 c.toNat (by omega)), if_pos ⟨h1, h2⟩] at e1
    omega
  · omega
theorem sq_at_pl {ha co : sq_Ro} {t k : Int} (h : sq_pl ha co 0) (h0 : 0 ≤ k) (hk : k < sq_cnt co 0 t (ha 6).toNat) : 0 ≤ sq_at co t k (ha 6).toNat := by
  have e0 : (7 * (0 : Int) + 6).toNat = 6 := rfl
  have e1 : (80 * (0 : Int)) = 0 := rfl
  obtain ⟨c, c1, c2, c3, c4⟩ := h t k h0 (by rw [e0, e1]; exact hk)
  rw [e0] at c2
  rw [e1, Int.zero_add] at c3 c4
  exact sq_at_ok c1 (by omega) c3 c4
/-- how long the first COACHES of a TRAIN are -/
def sq_long (ki co : sq_Ro) (n : Nat) (t : Int) : Nat → Int
  | 0 => 0
  | k + 1 => sq_long ki co n t k + ki (5 * co (5 * sq_at co t (k : Int) n + 1).toNat).toNat
theorem sq_long_mono {ki co : sq_Ro} {n : Nat} {t : Int} (hk : ∀ x, 0 ≤ ki x) : ∀ (b a : Nat), a ≤ b → sq_long ki co n t a ≤ sq_long ki co n t b
  | 0, a, h => by have : a = 0 := by omega
                  subst this; exact Int.le_refl _
  | b + 1, a, h => by
    by_cases e : a = b + 1
    · subst e; exact Int.le_refl _
    · have h1 := sq_long_mono hk (n := n) (co := co) (t := t) b a (by omega)
      have h2 := hk (5 * co (5 * sq_at co t (b : Int) n + 1).toNat).toNat
      simp only [sq_long]
      omega
/-- slope, wet, speed -/
def sq_slope (sl : sq_Ro) (y : Int) : Nat → Int
  | 0 => 0
  | k + 1 => if sl (2 * (k : Int)).toNat ≤ y then sl (2 * (k : Int) + 1).toNat else sq_slope sl y k
def sq_wet (we : sq_Ro) (r0 y : Int) : Nat → Int
  | 0 => r0
  | k + 1 => if we (3 * (k : Int)).toNat ≤ y ∧ y ≤ we (3 * (k : Int) + 1).toNat ∧ sq_wet we r0 y k < we (3 * (k : Int) + 2).toNat then we (3 * (k : Int) + 2).toNat else sq_wet we r0 y k
/-- the line's rows: length, rain, has, slope, wet, platform, kind -/
abbrev sq_Li : Type := sq_Ro × sq_Ro × sq_Ro × sq_Ro × sq_Ro × sq_Ro × sq_Ro
def sq_slow (l : sq_Li) (k y v s : Int) : Int := match l with
  | (_, ra, ha, sl, we, _, ki) =>
    let b := if s < 1 then 0 else (Int32.ofInt (ki (5 * k + 1 + s).toNat * (100 - sq_wet we (ra 0) y (ha 1).toNat)) / Int32.ofInt 100).toInt
    let w := v - ki (5 * k + 1).toNat - b - sq_slope sl y (ha 0).toNat
    if w < 0 then 0 else if 15 < w then 15 else w
theorem sq_slow_rg (l : sq_Li) (k y v s : Int) : 0 ≤ sq_slow l k y v s ∧ sq_slow l k y v s ≤ 15 := by
  obtain ⟨le, ra, ha, sl, we, pf, ki⟩ := l
  simp only [sq_slow]
  generalize v - ki (5 * k + 1).toNat - _ - _ = w
  split
  · omega
  · split <;> omega
/-- the sum by a step -/
def sq_sum (l : sq_Li) (bt dr : Int) (su : sq_Ro) (t k p y v s : Int) : Int := match l with
  | (le, _, _, _, _, pf, ki) =>
    let w := sq_slow l k y v s
    let pr := if bt = 0 then s else 1
    if dr < v - w ∨ le 0 < y + w then 1000000
    else if w = 0 then (if y ≤ pf (2 * p + 1).toNat ∧ pf (2 * p).toNat ≤ y - ki (5 * k).toNat then pr else 1000000)
    else if 1000000 ≤ su (6416 * t + 16 * (y + w) + w).toNat then 1000000 else pr + su (6416 * t + 16 * (y + w) + w).toNat
theorem sq_sum_next {l : sq_Li} {bt dr : Int} {su : sq_Ro} {t k p y v s : Int} (h : sq_sum l bt dr su t k p y v s < 1000000) : y + sq_slow l k y v s ≤ l.1 0 ∧ (sq_slow l k y v s = 0 ∨ su (6416 * t + 16 * (y + sq_slow l k y v s) + sq_slow l k y v s).toNat < 1000000) := by
  obtain ⟨le, ra, ha, sl, we, pf, ki⟩ := l
  simp only [sq_sum] at h
  generalize sq_slow (le, ra, ha, sl, we, pf, ki) k y v s = w at h ⊢
  by_cases h1 : dr < v - w ∨ le 0 < y + w
  · rw [if_pos h1] at h; omega
  · rw [if_neg h1] at h
    refine ⟨by show y + w ≤ le 0; omega, ?_⟩
    by_cases h2 : w = 0
    · exact Or.inl h2
    · rw [if_neg h2] at h
      by_cases h3 : 1000000 ≤ su (6416 * t + 16 * (y + w) + w).toNat
      · rw [if_pos h3] at h; omega
      · exact Or.inr (by omega)
theorem sq_sum_congr {l : sq_Li} {bt dr : Int} {su su' : sq_Ro} {t k p y v s : Int} (hy : 0 ≤ y) (ht : 0 ≤ t) (hL : l.1 0 ≤ 400) (h : ∀ x : Nat, 6416 * t + 16 * y + 16 ≤ (x : Int) → (x : Int) < 6416 * t + 6416 → su' x = su x) : sq_sum l bt dr su' t k p y v s = sq_sum l bt dr su t k p y v s := by
  have hw := sq_slow_rg l k y v s
  obtain ⟨le, ra, ha, sl, we, pf, ki⟩ := l
  simp only [sq_sum]
  generalize sq_slow (le, ra, ha, sl, we, pf, ki) k y v s = w at hw ⊢
  simp only at hL
  by_cases h1 : dr < v - w ∨ le 0 < y + w
  · rw [if_pos h1, if_pos h1]
  · rw [if_neg h1, if_neg h1]
    by_cases h2 : w = 0
    · rw [if_pos h2, if_pos h2]
    · rw [if_neg h2, if_neg h2, h _ (by omega) (by omega)]
/-- a table as 'lays' leaves it, from a yard on -/
def sq_laidF (l : sq_Li) (bt dr : Int) (su : sq_Ro) (t k p : Int) (y0 v0 : Int) : Prop := ∀ y v : Int, 0 ≤ y → y ≤ l.1 0 → 1 ≤ v → v ≤ 15 → (y0 < y ∨ (y = y0 ∧ v < v0)) → su (6416 * t + 16 * y + v).toNat < 1000000 → ∃ s : Int, 0 ≤ s ∧ s ≤ 3 ∧ sq_sum l bt dr su t k p y v s = su (6416 * t + 16 * y + v).toNat
def sq_laid (l : sq_Li) (bt dr : Int) (su : sq_Ro) (t k p : Int) : Prop := sq_laidF l bt dr su t k p (-1) 0
theorem sq_laidF_step {l : sq_Li} {bt dr : Int} {su su' : sq_Ro} {t k p y0 v0 lv : Int} (h : sq_laidF l bt dr su t k p y0 v0) (ht : 0 ≤ t) (hL : l.1 0 ≤ 400) (hy0 : 0 ≤ y0) (hv0 : 1 ≤ v0 ∧ v0 ≤ 15) (hs : lv < 1000000 → ∃ s : Int, 0 ≤ s ∧ s ≤ 3 ∧ sq_sum l bt dr su t k p y0 v0 s = lv) (h2 : ∀ x : Nat, su' x = if x = (6416 * t + 16 * y0 + v0).toNat then lv else su x) : sq_laidF l bt dr su' t k p y0 (v0 + 1) := by
  intro y v a1 a2 a3 a4 a5 a6
  have hc : ∀ s, sq_sum l bt dr su' t k p y v s = sq_sum l bt dr su t k p y v s := fun s => sq_sum_congr a1 ht hL fun x b1 b2 => by rw [h2, if_neg (by omega)]
  by_cases e : y = y0 ∧ v = v0
  · obtain ⟨rfl, rfl⟩ := e
    have e1 : su' (6416 * t + 16 * y + v).toNat = lv := by rw [h2, if_pos rfl]
    rw [e1] at a6 ⊢
    obtain ⟨s, s1, s2, s3⟩ := hs a6
    exact ⟨s, s1, s2, by rw [hc]; exact s3⟩
  · have e1 : su' (6416 * t + 16 * y + v).toNat = su (6416 * t + 16 * y + v).toNat := by rw [h2, if_neg (by omega)]
    rw [e1] at a6 ⊢
    obtain ⟨s, s1, s2, s3⟩ := h y v a1 a2 a3 a4 (by omega) a6
    exact ⟨s, s1, s2, by rw [hc]; exact s3⟩
theorem sq_laidF_row {l : sq_Li} {bt dr : Int} {su : sq_Ro} {t k p y0 : Int} (h : sq_laidF l bt dr su t k p y0 16) : sq_laidF l bt dr su t k p (y0 - 1) 1 := fun y v a1 a2 a3 a4 a5 a6 => h y v a1 a2 a3 a4 (by omega) a6
theorem sq_laidF_0 {l : sq_Li} {bt dr : Int} {su : sq_Ro} {t k p : Int} : sq_laidF l bt dr su t k p (l.1 0) 1 := fun y v a1 a2 a3 a4 a5 a6 => by omega
theorem sq_laid_of {l : sq_Li} {bt dr : Int} {su : sq_Ro} {t k p y0 v0 : Int} (h : sq_laidF l bt dr su t k p y0 v0) (hy : y0 ≤ -1) : sq_laid l bt dr su t k p := fun y v a1 a2 a3 a4 a5 a6 => h y v a1 a2 a3 a4 (by omega) a6
/-- another table is written -/
theorem sq_laid_other {l : sq_Li} {bt dr : Int} {su su' : sq_Ro} {t k p : Int} (h : sq_laid l bt dr su t k p) (ht : 0 ≤ t) (hL : l.1 0 ≤ 400) (h2 : ∀ x : Nat, 6416 * t ≤ (x : Int) → (x : Int) < 6416 * t + 6416 → su' x = su x) : sq_laid l bt dr su' t k p := by
  intro y v a1 a2 a3 a4 a5 a6
  have e1 : su' (6416 * t + 16 * y + v).toNat = su (6416 * t + 16 * y + v).toNat := h2 _ (by omega) (by omega)
  rw [e1] at a6 ⊢
  obtain ⟨s, s1, s2, s3⟩ := h y v a1 a2 a3 a4 a5 a6
  exact ⟨s, s1, s2, by rw [sq_sum_congr a1 ht hL fun x b1 b2 => h2 x (by omega) b2]; exact s3⟩
/-- the tables of all COACHES -/
def sq_tabs (l : sq_Li) (bt dr : Int) (su co : sq_Ro) (n : Int) : Prop := ∀ c : Int, 0 ≤ c → c < n → sq_laid l bt dr su c (co (5 * c + 1).toNat) (co (5 * c + 2).toNat)
theorem sq_tabs_0 {l : sq_Li} {bt dr : Int} {su co : sq_Ro} : sq_tabs l bt dr su co 0 := fun c a b => by omega
theorem sq_tabs_s {l : sq_Li} {bt dr : Int} {su su' co : sq_Ro} {n : Int} (h : sq_tabs l bt dr su co n) (hL : l.1 0 ≤ 400) (h1 : sq_laid l bt dr su' n (co (5 * n + 1).toNat) (co (5 * n + 2).toNat)) (h2 : ∀ x : Nat, ¬ (6416 * n ≤ (x : Int) ∧ (x : Int) < 6416 * n + 6416) → su' x = su x) : sq_tabs l bt dr su' co (n + 1) := by
  intro c a b
  by_cases e : c = n
  · subst e; exact h1
  · exact sq_laid_other (h c a (by omega)) a hL fun x b1 b2 => h2 x (by omega)
theorem sq_tabs_co {l : sq_Li} {bt dr : Int} {su co co' : sq_Ro} {n : Int} (h : sq_tabs l bt dr su co n) (h2 : ∀ x : Nat, ¬ (x : Int) % 5 = 3 → co' x = co x) : sq_tabs l bt dr su co' n := by
  intro c a b
  rw [h2 _ (by omega), h2 _ (by omega)]
  exact h c a b
theorem sq_slope_y {sl : sq_Ro} {y k : Int} (h0 : 0 ≤ k) (h : sl (2 * k).toNat ≤ y) : sq_slope sl y (k + 1).toNat = sl (2 * k + 1).toNat := by
  rw [show (k + 1).toNat = k.toNat + 1 by omega]
  simp only [sq_slope, show ((k.toNat : Nat) : Int) = k by omega]
  rw [if_pos h]
theorem sq_slope_n {sl : sq_Ro} {y k : Int} (h0 : 0 ≤ k) (h : ¬ sl (2 * k).toNat ≤ y) : sq_slope sl y (k + 1).toNat = sq_slope sl y k.toNat := by
  rw [show (k + 1).toNat = k.toNat + 1 by omega]
  simp only [sq_slope, show ((k.toNat : Nat) : Int) = k by omega]
  rw [if_neg h]
theorem sq_wet_y {we : sq_Ro} {r0 y k : Int} (h0 : 0 ≤ k) (h : we (3 * k).toNat ≤ y ∧ y ≤ we (3 * k + 1).toNat ∧ sq_wet we r0 y k.toNat < we (3 * k + 2).toNat) : sq_wet we r0 y (k + 1).toNat = we (3 * k + 2).toNat := by
  rw [show (k + 1).toNat = k.toNat + 1 by omega]
  simp only [sq_wet, show ((k.toNat : Nat) : Int) = k by omega]
  rw [if_pos h]
theorem sq_wet_n {we : sq_Ro} {r0 y k : Int} (h0 : 0 ≤ k) (h : ¬ (we (3 * k).toNat ≤ y ∧ y ≤ we (3 * k + 1).toNat ∧ sq_wet we r0 y k.toNat < we (3 * k + 2).toNat)) : sq_wet we r0 y (k + 1).toNat = sq_wet we r0 y k.toNat := by
  rw [show (k + 1).toNat = k.toNat + 1 by omega]
  simp only [sq_wet, show ((k.toNat : Nat) : Int) = k by omega]
  rw [if_neg h]
theorem sq_cnt_y {co : sq_Ro} {b t k : Int} (h0 : 0 ≤ k) (h : co (b + 5 * k).toNat = t) : sq_cnt co b t (k + 1).toNat = sq_cnt co b t k.toNat + 1 := by
  rw [show (k + 1).toNat = k.toNat + 1 by omega]
  simp only [sq_cnt, show ((k.toNat : Nat) : Int) = k by omega]
  rw [if_pos h]
theorem sq_cnt_n {co : sq_Ro} {b t k : Int} (h0 : 0 ≤ k) (h : ¬ co (b + 5 * k).toNat = t) : sq_cnt co b t (k + 1).toNat = sq_cnt co b t k.toNat := by
  rw [show (k + 1).toNat = k.toNat + 1 by omega]
  simp only [sq_cnt, show ((k.toNat : Nat) : Int) = k by omega]
  rw [if_neg h, Int.add_zero]
theorem sq_cnt_y0 {co : sq_Ro} {t k : Int} (h0 : 0 ≤ k) (h : co (5 * k).toNat = t) : sq_cnt co 0 t (k + 1).toNat = sq_cnt co 0 t k.toNat + 1 := sq_cnt_y h0 (by rw [Int.zero_add]; exact h)
theorem sq_cnt_n0 {co : sq_Ro} {t k : Int} (h0 : 0 ≤ k) (h : ¬ co (5 * k).toNat = t) : sq_cnt co 0 t (k + 1).toNat = sq_cnt co 0 t k.toNat := sq_cnt_n h0 (by rw [Int.zero_add]; exact h)
theorem sq_at_n {co : sq_Ro} {t p k : Int} (h0 : 0 ≤ k) (h1 : sq_at co t p k.toNat = -1) (h : ¬ (co (5 * k).toNat = t ∧ co (5 * k + 4).toNat = p)) : sq_at co t p (k + 1).toNat = -1 := by
  rw [show (k + 1).toNat = k.toNat + 1 by omega]
  simp only [sq_at, show ((k.toNat : Nat) : Int) = k by omega]
  rw [if_pos h1, if_neg h]
theorem sq_at_y {co : sq_Ro} {t p k n : Int} (h0 : 0 ≤ k) (h1 : sq_at co t p k.toNat = -1) (h : co (5 * k).toNat = t ∧ co (5 * k + 4).toNat = p) (hn : k < n) : k = sq_at co t p n.toNat := by
  have e : sq_at co t p (k.toNat + 1) = k := by
    simp only [sq_at, show ((k.toNat : Nat) : Int) = k by omega]
    rw [if_pos h1, if_pos h]
  rw [sq_at_up (n := k.toNat + 1) (by rw [e]; omega) n.toNat (by omega), e]
theorem sq_long_s {ki co : sq_Ro} {n : Nat} {t k : Int} (h0 : 0 ≤ k) : sq_long ki co n t (k + 1).toNat = sq_long ki co n t k.toNat + ki (5 * co (5 * sq_at co t k n + 1).toNat).toNat := by
  rw [show (k + 1).toNat = k.toNat + 1 by omega]
  simp only [sq_long, show ((k.toNat : Nat) : Int) = k by omega]
theorem sq_long_p {ki co : sq_Ro} {n : Nat} {t k : Int} (hk : ∀ x, 0 ≤ ki x) (h0 : 0 < k) : sq_long ki co n t (k - 1).toNat ≤ sq_long ki co n t k.toNat := sq_long_mono hk _ _ (by omega)
theorem sq_mul {a b : Int} (h1 : 0 ≤ a) (h2 : a ≤ 30) (h3 : 0 ≤ b) (h4 : b ≤ 100) : 0 ≤ a * b ∧ a * b ≤ 3000 := by
  refine ⟨Int.mul_nonneg h1 h3, ?_⟩
  have e1 : a * b ≤ 30 * b := Int.mul_le_mul_of_nonneg_right h2 h3
  omega
theorem sq_wet_rg {we : sq_Ro} {r0 y : Int} (h0 : 0 ≤ r0 ∧ r0 ≤ 100) (hw : ∀ k : Nat, 0 ≤ we (3 * (k : Int) + 2).toNat ∧ we (3 * (k : Int) + 2).toNat ≤ 100) : ∀ n, 0 ≤ sq_wet we r0 y n ∧ sq_wet we r0 y n ≤ 100
  | 0 => h0
  | n + 1 => by
    have h1 := sq_wet_rg (y := y) h0 hw n
    have h2 := hw n
    simp only [sq_wet]
    split <;> omega
/-- the pieces of 'slowed' -/
theorem sq_slow_eq {l : sq_Li} {k y v s k1 b sv w r : Int} (h1 : k1 = l.2.2.2.2.2.2 (5 * k + 1).toNat) (hb0 : s < 1 → b = 0) (hb1 : 1 ≤ s → b = (Int32.ofInt (l.2.2.2.2.2.2 (5 * k + 1 + s).toNat * (100 - sq_wet l.2.2.2.2.1 (l.2.1 0) y (l.2.2.1 1).toNat)) / Int32.ofInt 100).toInt) (hs : sv = sq_slope l.2.2.2.1 y (l.2.2.1 0).toNat) (hw : w = v - k1 - b - sv) (hr : (w < 0 ∧ r = 0) ∨ (0 ≤ w ∧ 15 < w ∧ r = 15) ∨ (0 ≤ w ∧ w ≤ 15 ∧ r = w)) : r = sq_slow l k y v s := by
  obtain ⟨le, ra, ha, sl, we, pf, ki⟩ := l
  simp only at h1 hb1 hs
  have e : (if s < 1 then 0 else (Int32.ofInt (ki (5 * k + 1 + s).toNat * (100 - sq_wet we (ra 0) y (ha 1).toNat)) / Int32.ofInt 100).toInt) = b := by
    by_cases h : s < 1
    · rw [if_pos h, hb0 h]
    · rw [if_neg h, hb1 (by omega)]
  simp only [sq_slow]
  rw [e, ← h1, ← hs, ← hw]
  rcases hr with ⟨a, rfl⟩ | ⟨a, a2, rfl⟩ | ⟨a, a2, rfl⟩
  · rw [if_pos a]
  · rw [if_neg (by omega), if_pos a2]
  · rw [if_neg (by omega), if_neg (by omega)]
/-- the pieces of 'sumBy' -/
theorem sq_sum_eq {l : sq_Li} {bt dr : Int} {su : sq_Ro} {t k p y v s w pr r : Int} (hw : w = sq_slow l k y v s) (hp : (bt = 0 ∧ pr = s) ∨ (¬ bt = 0 ∧ pr = 1)) (hr : ((dr < v - w ∨ l.1 0 < y + w) ∧ r = 1000000) ∨ (¬ (dr < v - w ∨ l.1 0 < y + w) ∧ ((w = 0 ∧ (((y ≤ l.2.2.2.2.2.1 (2 * p + 1).toNat ∧ l.2.2.2.2.2.1 (2 * p).toNat ≤ y - l.2.2.2.2.2.2 (5 * k).toNat) ∧ r = pr) ∨ (¬ (y ≤ l.2.2.2.2.2.1 (2 * p + 1).toNat ∧ l.2.2.2.2.2.1 (2 * p).toNat ≤ y - l.2.2.2.2.2.2 (5 * k).toNat) ∧ r = 1000000))) ∨ (¬ w = 0 ∧ ((1000000 ≤ su (6416 * t + 16 * (y + w) + w).toNat ∧ r = 1000000) ∨ (su (6416 * t + 16 * (y + w) + w).toNat < 1000000 ∧ r = pr + su (6416 * t + 16 * (y + w) + w).toNat)))))) : r = sq_sum l bt dr su t k p y v s := by
  obtain ⟨le, ra, ha, sl, we, pf, ki⟩ := l
  simp only at hr
  simp only [sq_sum]
  rw [← hw]
  have e : (if bt = 0 then s else 1) = pr := by
    rcases hp with ⟨a, b⟩ | ⟨a, b⟩
    · rw [if_pos a, b]
    · rw [if_neg a, b]
  rw [e]
  rcases hr with ⟨a, rfl⟩ | ⟨a, ⟨b, ⟨d, rfl⟩ | ⟨d, rfl⟩⟩ | ⟨b, ⟨d, rfl⟩ | ⟨d, rfl⟩⟩⟩
  · rw [if_pos a]
  · rw [if_neg a, if_pos b, if_pos d]
  · rw [if_neg a, if_pos b, if_neg d]
  · rw [if_neg a, if_neg b, if_pos d]
  · rw [if_neg a, if_neg b, if_neg (by omega)]
/-- a fact that the program of proofs leaves as it is -/
def sq_bx (p : Prop) : Prop := ∃ _ : Unit, p
theorem sq_m {p : Prop} (h : p) : sq_bx p := ⟨(), h⟩
theorem sq_g {p : Prop} (h : sq_bx p) : p := h.elim fun _ h => h
theorem sq_end {F : Nat → Int} {a b v : Int} (h : v = F a.toNat) (e : a = b) : v = F b.toNat := e ▸ h
def sq_fr (su su' : sq_Ro) (t : Int) : Prop := ∀ x : Nat, ¬ (6416 * t ≤ (x : Int) ∧ (x : Int) < 6416 * t + 6416) → su' x = su x
theorem sq_fr_rf (su : sq_Ro) (t : Int) : sq_fr su su t := fun _ _ => rfl
theorem sq_fr_up {su su' su2 : sq_Ro} {t k v : Int} (h : sq_fr su su' t) (hk : 6416 * t ≤ k ∧ k < 6416 * t + 6416) (h0 : 0 ≤ k) (h2 : ∀ x : Nat, su2 x = if x = k.toNat then v else su' x) : sq_fr su su2 t := by
  intro x hx
  rw [h2, if_neg (by omega)]
  exact h x hx
theorem sq_wit_s {F : Int → Int} {a b r s : Int} (h : a < 1000000 → ∃ s : Int, 0 ≤ s ∧ s ≤ 3 ∧ F s = a) (hb : b = F s) (h0 : 0 ≤ s) (h3 : s ≤ 3) (hr : r = a ∨ r = b) : r < 1000000 → ∃ s : Int, 0 ≤ s ∧ s ≤ 3 ∧ F s = r := by
  intro h9
  rcases hr with rfl | rfl
  · exact h h9
  · exact ⟨s, h0, h3, hb.symm⟩
theorem sq_inv_copy {ha co ha' co' : sq_Ro} {a b : Int} (h : sq_inv ha co) (hp : sq_pl ha co a) (hn : ∀ d : Int, 0 ≤ d → d ≤ 4 → ha (7 * d + 6).toNat ≤ 16) (ha0 : 0 ≤ a ∧ a ≤ 4) (hb : 0 ≤ b) (h1 : sq_cp ha ha' 7 a b 7) (h2 : sq_cp co co' 80 a b 80) : sq_inv ha' co' := by
  intro d d0 d3
  by_cases e : d = b
  · rw [e]; exact sq_pl_copy hp (hn a ha0.1 ha0.2) h1 h2
  · exact sq_pl_keep (h d d0 d3) (hn d d0 (by omega)) d0 hb e h1 h2
theorem sq_inv_col3 {ha co co' : sq_Ro} (h : sq_inv ha co) (hn : ∀ d : Int, 0 ≤ d → d ≤ 4 → ha (7 * d + 6).toNat ≤ 16) (h2 : ∀ z : Nat, ¬ (z : Int) % 5 = 3 → co' z = co z) : sq_inv ha co' := fun d d0 d3 => sq_pl_same (h d d0 d3) (hn d d0 (by omega)) rfl (fun j a1 a2 a3 => h2 _ (by omega))
theorem sq_inv_swap {ha co co' : sq_Ro} {x y u v : Int} (h : sq_inv ha co) (hn : ∀ d : Int, 0 ≤ d → d ≤ 4 → ha (7 * d + 6).toNat ≤ 16) (hx : 0 ≤ x ∧ x < ha 6) (hy : 0 ≤ y ∧ y < ha 6) (hxy : ¬ x = y) (ht : co (5 * x).toNat = co (5 * y).toNat) (hu : u = co (5 * x + 4).toNat) (hv : v = co (5 * y + 4).toNat) (h2 : ∀ z : Nat, co' z = if z = (5 * y + 4).toNat then u else if z = (5 * x + 4).toNat then v else co z) : sq_inv ha co' := by
  have h16 : ha 6 ≤ 16 := hn 0 (by omega) (by omega)
  intro d d0 d3
  by_cases e : d = 0
  · rw [e]
    refine sq_pl_swap (h 0 (by omega) (by omega)) hx hy hxy ht (fun z z1 z2 => ?_) ?_ ?_
    · rw [h2, if_neg (by omega), if_neg (by omega)]
    · rw [h2, if_neg (by omega), if_pos rfl, hv]
    · rw [h2, if_pos rfl, hu]
  · refine sq_pl_same (h d d0 d3) (hn d d0 (by omega)) rfl (fun j a1 a2 a3 => ?_)
    rw [h2, if_neg (by omega), if_neg (by omega)]
def sq_nx (l : sq_Li) (su : sq_Ro) (t k y v r : Int) : Prop := 0 ≤ r → y + sq_slow l k y v r ≤ l.1 0 ∧ (sq_slow l k y v r = 0 ∨ su (6416 * t + 16 * (y + sq_slow l k y v r) + sq_slow l k y v r).toNat < 1000000)
theorem sq_nx_use {l : sq_Li} {su : sq_Ro} {t k y v r w : Int} (h : sq_nx l su t k y v r) (h0 : 0 ≤ r) (hw : w = sq_slow l k y v r) : y + w ≤ l.1 0 ∧ (w = 0 ∨ su (6416 * t + 16 * (y + w) + w).toNat < 1000000) := by
  subst hw
  exact h h0
/-- a row of steps of the brake -/
def sq_cw (ma ce : sq_Ro) (s : Int) : Prop := 0 ≤ s ∧ s ≤ 3 ∧ ∀ i : Int, 0 ≤ i → i < ma s.toNat → 0 ≤ ce (60 * s + i).toNat ∧ ce (60 * s + i).toNat ≤ 3
theorem sq_inv_hi {ha ha' co co' : sq_Ro} (h : sq_inv ha co) (hn : ∀ d : Int, 0 ≤ d → d ≤ 4 → ha (7 * d + 6).toNat ≤ 16) (h2 : ∀ x : Nat, x < 28 → ha' x = ha x) (h3 : ∀ x : Nat, x < 320 → co' x = co x) : sq_inv ha' co' := fun d d0 d3 => sq_pl_same (h d d0 d3) (hn d d0 (by omega)) (h2 _ (by omega)) (fun j a1 a2 a3 => h3 _ (by omega))
/-- a COACH's clause: what lies below stays -/
def sq_cc (ha co ha' co' : sq_Ro) (k : Int) : Prop := ha' = ha ∧ ∀ x : Nat, (x : Int) < k → co' x = co x
theorem sq_cc_rf (ha co : sq_Ro) (k : Int) : sq_cc ha co ha co k := ⟨rfl, fun _ _ => rfl⟩
theorem sq_cc_up {ha co ha' co' ha2 co2 : sq_Ro} {k i v : Int} (h : sq_cc ha co ha' co' k) (e : ha2 = ha') (h2 : ∀ x : Nat, co2 x = if x = i.toNat then v else co' x) (h0 : 0 ≤ k) (hi : k ≤ i) : sq_cc ha co ha2 co2 k := by
  refine ⟨e.trans h.1, fun x hx => ?_⟩
  rw [h2, if_neg (by omega)]
  exact h.2 x hx
theorem sq_pl_cc {ha co ha' co' co2 : sq_Ro} {k n T v : Int} (hP : sq_pl ha co 4) (hn : n = ha 34) (h0 : 0 ≤ n) (h16 : n < 16) (hk : k = 320 + 5 * n) (hcc : sq_cc ha co ha' co' k) (hT : co' k.toNat = T) (hv : v = sq_cnt co' 320 T n.toNat) (h2 : ∀ x : Nat, co2 x = if x = (k + 4).toNat then v else co' x) : ∀ h : sq_Ro, h 34 = n + 1 → sq_pl h co2 4 := by
  intro h hh
  subst hk
  refine sq_pl_add (t := T) hP (n := n) hn h0 h16 (by omega) hh (fun j j0 j1 => ?_) ?_ ?_
  · rw [h2, if_neg (by omega)]
    exact hcc.2 _ (by omega)
  · rw [h2, if_neg (by omega)]
    exact hT
  · rw [h2, if_pos (by omega), hv]
    exact sq_cnt_congr _ fun i hi => hcc.2 _ (by omega)
theorem sq_inv_cc {ha co ha' co' co2 : sq_Ro} {k v : Int} {i : Nat} (h : sq_inv ha co) (hn : ∀ d : Int, 0 ≤ d → d ≤ 4 → ha (7 * d + 6).toNat ≤ 16) (hcc : sq_cc ha co ha' co' k) (hk : 320 ≤ k) (hi : 320 ≤ i) (h2 : ∀ x : Nat, co2 x = if x = i then v else co' x) : sq_inv ha' co2 := by
  refine sq_inv_hi h hn (fun x _ => by rw [hcc.1]) (fun x hx => ?_)
  rw [h2, if_neg (by omega)]
  exact hcc.2 x (by omega)
theorem sq_pl4_same {ha co h : sq_Ro} (hP : sq_pl ha co 4) (hn : ha 34 ≤ 16) (e : h 34 = ha 34) : sq_pl h co 4 := sq_pl_same hP hn e (fun _ _ _ _ => rfl)
/-! .. and of the memory -/
theorem mq_up_f (μ : mq_M) (f i g j k : Nat) (v : Int) (h : f ≠ g) : mq_up μ (g, j) k v (f, i) = μ (f, i) := mq_up_ne μ k v (fun e => h (congrArg Prod.fst e))
theorem mq_up_s (μ : mq_M) (j : mq_J) (k x : Nat) (v : Int) (h : x ≠ k) : mq_up μ j k v j x = μ j x := by rw [mq_up_self]; exact if_neg h
theorem mq_up_e (μ : mq_M) (j : mq_J) (k : Nat) (v : Int) : mq_up μ j k v j k = v := by rw [mq_up_self]; exact if_pos rfl
theorem mq_b1 {μ : mq_M} (h : mq_bok μ) {f i t n m : Nat} {a b : Int} (hf : mq_fm f = (true, t, n, [(m, a, b)])) (k : Nat) : a ≤ μ (f, i) k ∧ μ (f, i) k ≤ b := by
  have h9 := h (f, i) k
  simp only [mq_bd, hf, List.length_singleton, Nat.mod_one] at h9
  exact h9
def sq_li (μ : mq_M) : sq_Li := (μ (67, 0), μ (68, 0), μ (69, 0), μ (70, 0), μ (71, 0), μ (73, 0), μ (74, 0))
theorem mq_ag_rf (md : Nat) (μ : mq_M) : mq_ag md μ μ := fun _ _ => rfl
theorem mq_ag_tr {md md1 : Nat} {μ μ1 μ2 : mq_M} (h : mq_ag md μ μ1) (h1 : mq_ag md1 μ1 μ2) (hm : md1 &&& md = md1) : mq_ag md μ μ2 := by
  intro j hj
  refine (h1 j ?_).trans (h j hj)
  cases hb : Nat.testBit md1 j.1 with
  | false => rfl
  | true =>
    have : Nat.testBit (md1 &&& md) j.1 = true := by rw [hm]; exact hb
    rw [Nat.testBit_and, hj, Bool.and_false] at this
    cases this
theorem mq_ag_at {md : Nat} {μ μ' : mq_M} (h : mq_ag md μ μ') (f i : Nat) (hm : Nat.testBit md f = false) : μ' (f, i) = μ (f, i) := h (f, i) hm
theorem sq_li_ag {md : Nat} {μ μ' : mq_M} (h : mq_ag md μ μ') (hm : md &&& (1 <<< 67 + 1 <<< 68 + 1 <<< 69 + 1 <<< 70 + 1 <<< 71 + 1 <<< 73 + 1 <<< 74) = 0) : sq_li μ' = sq_li μ := by
  have e : ∀ f, Nat.testBit (1 <<< 67 + 1 <<< 68 + 1 <<< 69 + 1 <<< 70 + 1 <<< 71 + 1 <<< 73 + 1 <<< 74) f = true → μ' (f, 0) = μ (f, 0) := by
    intro f hf
    refine h (f, 0) ?_
    cases hb : Nat.testBit md f with
    | false => rfl
    | true =>
      have h9 := congrArg (fun z => Nat.testBit z f) hm
      simp only [Nat.testBit_and, hb, hf, Nat.zero_testBit] at h9
      cases h9
  unfold sq_li
  rw [e 67 (by decide), e 68 (by decide), e 69 (by decide), e 70 (by decide), e 71 (by decide), e 73 (by decide), e 74 (by decide)]
theorem sq_li_up {μ : mq_M} {j : mq_J} {k : Nat} {v : Int} (h : j ≠ (67, 0) ∧ j ≠ (68, 0) ∧ j ≠ (69, 0) ∧ j ≠ (70, 0) ∧ j ≠ (71, 0) ∧ j ≠ (73, 0) ∧ j ≠ (74, 0)) : sq_li (mq_up μ j k v) = sq_li μ := by
  unfold sq_li
  rw [mq_up_ne μ k v (Ne.symm h.1), mq_up_ne μ k v (Ne.symm h.2.1), mq_up_ne μ k v (Ne.symm h.2.2.1), mq_up_ne μ k v (Ne.symm h.2.2.2.1), mq_up_ne μ k v (Ne.symm h.2.2.2.2.1), mq_up_ne μ k v (Ne.symm h.2.2.2.2.2.1), mq_up_ne μ k v (Ne.symm h.2.2.2.2.2.2)]
theorem mq_up_row (μ : mq_M) (j : mq_J) (k : Nat) (v : Int) : ∀ x : Nat, mq_up μ j k v j x = if x = k then v else μ j x := fun x => by rw [mq_up_self]
theorem sq_has16 {μ : mq_M} (h : mq_bok μ) (d : Int) (h0 : 0 ≤ d) (h4 : d ≤ 4) : μ (69, 0) (7 * d + 6).toNat ≤ 16 := by
  rcases (show d = 0 ∨ d = 1 ∨ d = 2 ∨ d = 3 ∨ d = 4 by omega) with rfl | rfl | rfl | rfl | rfl
  · exact (h (69, 0) 6).2
  · exact (h (69, 0) 13).2
  · exact (h (69, 0) 20).2
  · exact (h (69, 0) 27).2
  · exact (h (69, 0) 34).2
theorem sq_kept_up {μ μ1 : mq_M} {k : Int} (h : μ1 (77, 0) = μ (77, 0)) (h0 : 0 ≤ k) : ∀ x : Nat, ((0 : Int) = 0 ∧ (x : Int) = k → mq_up μ1 (77, 0) k.toNat 1 (77, 0) x = 1) ∧ (¬ ((0 : Int) = 0 ∧ (x : Int) = k) → mq_up μ1 (77, 0) k.toNat 1 (77, 0) x = μ (77, 0) x) := by
  intro x
  rw [mq_up_row]
  refine ⟨fun q => if_pos (by omega), fun q => ?_⟩
  rw [if_neg (fun e => q ⟨rfl, by omega⟩), h]
theorem sq_bv (x : BitVec 32) : x.toInt % 4294967296 = (x.toNat : Int) := by
  have := x.isLt
  rw [BitVec.toInt_eq_toNat_cond]
  split <;> omega
theorem sq_low {v r b : Int} (hv : mq_in v) (h0 : ¬ v = 0) (hb : b = (Int32.ofInt v - Int32.ofInt 1).toInt) (hr : r = (Int32.ofInt v &&& Int32.ofInt b).toInt) : r % 4294967296 < v % 4294967296 := by
  have e1 : Int32.ofInt b = Int32.ofInt v - Int32.ofInt 1 := by rw [hb, Int32.ofInt_toInt]
  have e2 : v = (Int32.ofInt v).toInt := (Int32.toInt_ofInt_of_le (by have := hv.1; omega) (by have := hv.2; omega)).symm
  rw [e1] at hr
  generalize Int32.ofInt v = x at e2 hr
  subst hr
  rw [e2]
  have f1 : (x &&& (x - Int32.ofInt 1)).toInt = (x.toBitVec &&& (x.toBitVec - 1#32)).toInt := rfl
  have f2 : x.toInt = x.toBitVec.toInt := rfl
  rw [f1, f2, sq_bv, sq_bv, BitVec.toNat_and]
  have g1 : x.toBitVec.toNat &&& (x.toBitVec - 1#32).toNat ≤ (x.toBitVec - 1#32).toNat := Nat.and_le_right
  have g2 : x.toBitVec.toNat ≠ 0 := by
    intro h
    have : x.toBitVec = 0#32 := BitVec.eq_of_toNat_eq (by simpa using h)
    exact h0 (by rw [e2, f2, this]; rfl)
  have g3 : (x.toBitVec - 1#32).toNat = x.toBitVec.toNat - 1 := by
    rw [BitVec.toNat_sub]
    have := x.toBitVec.isLt
    simp
    omega
  omega
/-! trains and coaches on their way -/
/-- a TRAIN: its COACHES lie behind its front, which is on the line -/
def sq_gt1 (μ : mq_M) (t : Int) : Prop := μ (82, 0) t.toNat ≤ sq_cnt (μ (76, 0)) 0 t (μ (69, 0) 6).toNat ∧ (¬ μ (83, 0) t.toNat = 0 → sq_long (μ (74, 0)) (μ (76, 0)) (μ (69, 0) 6).toNat t (μ (82, 0) t.toNat).toNat ≤ μ (81, 0) t.toNat ∧ μ (81, 0) t.toNat < μ (67, 0) 0)
def sq_GT (μ : mq_M) (n : Int) : Prop := ∀ t : Int, 0 ≤ t → t < n → sq_gt1 μ t
/-- a COACH that was let go -/
def sq_gc1 (μ : mq_M) (c : Int) : Prop := (¬ μ (84, 0) c.toNat = -1 → μ (85, 0) c.toNat ≤ μ (87, 0) c.toNat) ∧ (¬ μ (89, 0) c.toNat = -1 → ¬ μ (84, 0) c.toNat = -1) ∧ (¬ μ (84, 0) c.toNat = -1 → μ (89, 0) c.toNat = -1 → μ (90, 0) c.toNat = 0 → μ (87, 0) c.toNat ≤ μ (67, 0) 0 ∧ 1 ≤ μ (88, 0) c.toNat)
def sq_GC (μ : mq_M) (n : Int) : Prop := ∀ c : Int, 0 ≤ c → c < n → sq_gc1 μ c
def sq_T (μ : mq_M) : Prop := sq_pl (μ (69, 0)) (μ (76, 0)) 0 ∧ sq_tabs (sq_li μ) (μ (60, 0) 29) (μ (60, 0) 30) (μ (78, 0)) (μ (76, 0)) (μ (69, 0) 6)
/-- a TRAIN while it lets COACHES go -/
def sq_J (μ : mq_M) (t : Int) : Prop := sq_pl (μ (69, 0)) (μ (76, 0)) 0 ∧ (∀ t' : Int, 0 ≤ t' → t' < 5 → ¬ t' = t → sq_gt1 μ t') ∧ sq_GC μ 16 ∧ (0 ≤ μ (82, 0) t.toNat ∧ μ (82, 0) t.toNat ≤ sq_cnt (μ (76, 0)) 0 t (μ (69, 0) 6).toNat) ∧ sq_long (μ (74, 0)) (μ (76, 0)) (μ (69, 0) 6).toNat t (μ (82, 0) t.toNat).toNat ≤ μ (81, 0) t.toNat ∧ ¬ μ (83, 0) t.toNat = 0
theorem sq_gt1_eq {μ μ' : mq_M} {t : Int} (h : sq_gt1 μ t) (e67 : μ' (67, 0) 0 = μ (67, 0) 0) (e69 : μ' (69, 0) = μ (69, 0)) (e74 : μ' (74, 0) = μ (74, 0)) (e76 : μ' (76, 0) = μ (76, 0)) (e81 : μ' (81, 0) t.toNat = μ (81, 0) t.toNat) (e82 : μ' (82, 0) t.toNat = μ (82, 0) t.toNat) (e83 : μ' (83, 0) t.toNat = μ (83, 0) t.toNat) : sq_gt1 μ' t := by
  unfold sq_gt1 at h ⊢
  rw [e67, e69, e74, e76, e81, e82, e83]
  exact h
theorem sq_gc1_eq {μ μ' : mq_M} {c : Int} (h : sq_gc1 μ c) (e67 : μ' (67, 0) 0 = μ (67, 0) 0) (e84 : μ' (84, 0) c.toNat = μ (84, 0) c.toNat) (e85 : μ' (85, 0) c.toNat = μ (85, 0) c.toNat) (e87 : μ' (87, 0) c.toNat = μ (87, 0) c.toNat) (e88 : μ' (88, 0) c.toNat = μ (88, 0) c.toNat) (e89 : μ' (89, 0) c.toNat = μ (89, 0) c.toNat) (e90 : μ' (90, 0) c.toNat = μ (90, 0) c.toNat) : sq_gc1 μ' c := by
  unfold sq_gc1 at h ⊢
  rw [e67, e84, e85, e87, e88, e89, e90]
  exact h
theorem mq_ag_m {md mk : Nat} {μ μ' : mq_M} (h : mq_ag md μ μ') (hm : md &&& mk = 0) (f : Nat) (hf : Nat.testBit mk f = true) (i : Nat) : μ' (f, i) = μ (f, i) := by
  refine h (f, i) ?_
  cases hb : Nat.testBit md f with
  | false => rfl
  | true =>
    have h9 := congrArg (fun z => Nat.testBit z f) hm
    simp only [Nat.testBit_and, hb, hf, Nat.zero_testBit] at h9
    cases h9
def sq_mk (l : List Nat) : Nat := l.foldl (fun s f => s + 2 ^ f) 0
theorem sq_GT_ag {md : Nat} {μ μ' : mq_M} {n : Int} (h : mq_ag md μ μ') (hm : md &&& sq_mk [67, 69, 74, 76, 81, 82, 83] = 0) (hG : sq_GT μ n) : sq_GT μ' n := fun t h0 h1 => sq_gt1_eq (hG t h0 h1) (by rw [mq_ag_m h hm 67 (by decide +kernel)]) (mq_ag_m h hm 69 (by decide +kernel) 0) (mq_ag_m h hm 74 (by decide +kernel) 0) (mq_ag_m h hm 76 (by decide +kernel) 0) (by rw [mq_ag_m h hm 81 (by decide +kernel)]) (by rw [mq_ag_m h hm 82 (by decide +kernel)]) (by rw [mq_ag_m h hm 83 (by decide +kernel)])
theorem sq_GC_ag {md : Nat} {μ μ' : mq_M} {n : Int} (h : mq_ag md μ μ') (hm : md &&& sq_mk [67, 84, 85, 87, 88, 89, 90] = 0) (hG : sq_GC μ n) : sq_GC μ' n := fun c h0 h1 => sq_gc1_eq (hG c h0 h1) (by rw [mq_ag_m h hm 67 (by decide +kernel)]) (by rw [mq_ag_m h hm 84 (by decide +kernel)]) (by rw [mq_ag_m h hm 85 (by decide +kernel)]) (by rw [mq_ag_m h hm 87 (by decide +kernel)]) (by rw [mq_ag_m h hm 88 (by decide +kernel)]) (by rw [mq_ag_m h hm 89 (by decide +kernel)]) (by rw [mq_ag_m h hm 90 (by decide +kernel)])
theorem sq_T_eq {μ μ' : mq_M} (hT : sq_T μ) (e : sq_li μ' = sq_li μ) (e76 : μ' (76, 0) = μ (76, 0)) (e78 : μ' (78, 0) = μ (78, 0)) (e29 : μ' (60, 0) 29 = μ (60, 0) 29) (e30 : μ' (60, 0) 30 = μ (60, 0) 30) : sq_T μ' := by
  have e69 : μ' (69, 0) = μ (69, 0) := congrArg (fun z : sq_Li => z.2.2.1) e
  unfold sq_T at hT ⊢
  rw [e, e76, e78, e29, e30, e69]
  exact hT
theorem sq_T_ag {md : Nat} {μ μ' : mq_M} (h : mq_ag md μ μ') (hm : md &&& sq_mk [67, 68, 69, 70, 71, 73, 74, 76, 78] = 0) (e29 : μ' (60, 0) 29 = μ (60, 0) 29) (e30 : μ' (60, 0) 30 = μ (60, 0) 30) (hT : sq_T μ) : sq_T μ' := by
  have e : ∀ f, Nat.testBit (sq_mk [67, 68, 69, 70, 71, 73, 74, 76, 78]) f = true → μ' (f, 0) = μ (f, 0) := fun f hf => mq_ag_m h hm f hf 0
  refine sq_T_eq hT ?_ (e 76 (by decide +kernel)) (e 78 (by decide +kernel)) e29 e30
  unfold sq_li
  rw [e 67 (by decide +kernel), e 68 (by decide +kernel), e 69 (by decide +kernel), e 70 (by decide +kernel), e 71 (by decide +kernel), e 73 (by decide +kernel), e 74 (by decide +kernel)]
theorem sq_T_ag0 {md : Nat} {μ μ' : mq_M} (h : mq_ag md μ μ') (hm : md &&& sq_mk [60, 67, 68, 69, 70, 71, 73, 74, 76, 78] = 0) (hT : sq_T μ) : sq_T μ' := by
  have e : ∀ f, Nat.testBit (sq_mk [60, 67, 68, 69, 70, 71, 73, 74, 76, 78]) f = true → μ' (f, 0) = μ (f, 0) := fun f hf => mq_ag_m h hm f hf 0
  have e60 := e 60 (by decide +kernel)
  refine sq_T_eq hT ?_ (e 76 (by decide +kernel)) (e 78 (by decide +kernel)) (by rw [e60]) (by rw [e60])
  unfold sq_li
  rw [e 67 (by decide +kernel), e 68 (by decide +kernel), e 69 (by decide +kernel), e 70 (by decide +kernel), e 71 (by decide +kernel), e 73 (by decide +kernel), e 74 (by decide +kernel)]
theorem mq_ag_up1 (md : Nat) (μ : mq_M) (f i k : Nat) (v : Int) (hm : Nat.testBit md f = true) : mq_ag md μ (mq_up μ (f, i) k v) := mq_ag_up (mq_ag_rf md μ) hm
theorem mq_ag_upn {md : Nat} {μ0 μ : mq_M} {f i k : Nat} {v : Int} (h : mq_ag md μ0 μ) (hm : Nat.testBit md f = true) : mq_ag md μ0 (mq_up μ (f, i) k v) := mq_ag_up h hm
theorem sq_GC_set' {μ μ' : mq_M} {c n : Int} (h : sq_GC μ n) (hc : 0 ≤ c) (e67 : μ' (67, 0) 0 = μ (67, 0) 0) (hs : ∀ x : Nat, ¬ x = c.toNat → μ' (84, 0) x = μ (84, 0) x ∧ μ' (85, 0) x = μ (85, 0) x ∧ μ' (87, 0) x = μ (87, 0) x ∧ μ' (88, 0) x = μ (88, 0) x ∧ μ' (89, 0) x = μ (89, 0) x ∧ μ' (90, 0) x = μ (90, 0) x) (h1 : sq_gc1 μ' c) (d : Int) (d0 : 0 ≤ d) (d1 : d < n ∨ d = c) : sq_gc1 μ' d := by
  by_cases e : d = c
  · rw [e]; exact h1
  · obtain ⟨a1, a2, a3, a4, a5, a6⟩ := hs d.toNat (by omega)
    exact sq_gc1_eq (h d d0 (by omega)) e67 a1 a2 a3 a4 a5 a6
theorem sq_GT_set {μ μ' : mq_M} {t n : Int} (h : ∀ t' : Int, 0 ≤ t' → t' < n → ¬ t' = t → sq_gt1 μ t') (ht : 0 ≤ t) (e67 : μ' (67, 0) 0 = μ (67, 0) 0) (e69 : μ' (69, 0) = μ (69, 0)) (e74 : μ' (74, 0) = μ (74, 0)) (e76 : μ' (76, 0) = μ (76, 0)) (hs : ∀ x : Nat, ¬ x = t.toNat → μ' (81, 0) x = μ (81, 0) x ∧ μ' (82, 0) x = μ (82, 0) x ∧ μ' (83, 0) x = μ (83, 0) x) (h1 : sq_gt1 μ' t) (d : Int) (d0 : 0 ≤ d) (d1 : d < n ∨ d = t) : sq_gt1 μ' d := by
  by_cases e : d = t
  · rw [e]; exact h1
  · obtain ⟨a1, a2, a3⟩ := hs d.toNat (by omega)
    exact sq_gt1_eq (h d d0 (by omega) e) e67 e69 e74 e76 a1 a2 a3
/-- what a COACH let go leaves -/
theorem sq_J_lets {μ : mq_M} {c t k v a y z o k' : Int} (hJ : sq_J μ t) (hki : ∀ x, 0 ≤ μ (74, 0) x) (h1 : 1 ≤ μ (82, 0) t.toNat) (hc : 0 ≤ c ∧ c < 16) (ht : 0 ≤ t) (hk : ¬ k = -1) (hv : 1 ≤ v) (ha : a = μ (82, 0) t.toNat) (hz : z = y) (ho : ¬ o = 0 ∨ z ≤ μ (67, 0) 0) : sq_J (mq_up (mq_up (mq_up (mq_up (mq_up (mq_up (mq_up (mq_up μ (82, 0) t.toNat (a - 1)) (84, 0) c.toNat k) (85, 0) c.toNat y) (86, 0) c.toNat v) (87, 0) c.toNat z) (88, 0) c.toNat v) (90, 0) c.toNat o) (91, 0) c.toNat k') t := by
  obtain ⟨j1, j2, j3, j4, j5, j6⟩ := hJ
  have hlp := sq_long_p (co := μ (76, 0)) (n := (μ (69, 0) 6).toNat) (t := t) (k := μ (82, 0) t.toNat) hki (by omega)
  subst ha
  subst hz
  refine ⟨?_, fun t' a b d => ?_, fun d d0 d1 => ?_, ?_, ?_, ?_⟩
  · simp only [mq_up_f, ne_eq, Nat.reduceEqDiff, not_false_eq_true]
    exact j1
  · have hx : ¬ t'.toNat = t.toNat := by omega
    refine sq_gt1_eq (j2 t' a b d) ?_ ?_ ?_ ?_ ?_ ?_ ?_ <;> simp [mq_up_f, mq_up_s, hx]
  · refine sq_GC_set' j3 hc.1 ?_ (fun x hx => ?_) ?_ d d0 (Or.inl d1)
    · simp [mq_up_f]
    · simp [mq_up_f, mq_up_s, hx]
    · unfold sq_gc1
      simp only [mq_up_f, mq_up_e, ne_eq, Nat.reduceEqDiff, not_false_eq_true]
      refine ⟨fun _ => Int.le_refl _, fun _ => hk, fun _ _ q => ⟨?_, hv⟩⟩
      rcases ho with h | h
      · exact absurd q h
      · exact h
  · simp only [mq_up_f, mq_up_e, ne_eq, Nat.reduceEqDiff, not_false_eq_true]
    omega
  · simp only [mq_up_f, mq_up_e, ne_eq, Nat.reduceEqDiff, not_false_eq_true]
    omega
  · simp only [mq_up_f, ne_eq, Nat.reduceEqDiff, not_false_eq_true]
    exact j6
theorem sq_J_front {μ : mq_M} {t v : Int} (hp : sq_pl (μ (69, 0)) (μ (76, 0)) 0) (hT : sq_GT μ 5) (hC : sq_GC μ 16) (ht : 0 ≤ t ∧ t < 5) (h0 : 0 ≤ μ (82, 0) t.toNat) (hon : ¬ μ (83, 0) t.toNat = 0) (hv : μ (81, 0) t.toNat ≤ v) : sq_J (mq_up μ (81, 0) t.toNat v) t := by
  have h1 := hT t ht.1 ht.2
  obtain ⟨g1, g2⟩ := h1
  have g3 := (g2 hon).1
  refine ⟨?_, fun t' a b d => ?_, sq_GC_ag (mq_ag_up1 (2 ^ 81) μ 81 0 t.toNat v (by decide +kernel)) (by decide +kernel) hC, ?_, ?_, ?_⟩
  · simp only [mq_up_f, ne_eq, Nat.reduceEqDiff, not_false_eq_true]
    exact hp
  · have hx : ¬ t'.toNat = t.toNat := by omega
    refine sq_gt1_eq (hT t' a b) ?_ ?_ ?_ ?_ ?_ ?_ ?_ <;> simp [mq_up_f, mq_up_s, hx]
  · simp only [mq_up_f, ne_eq, Nat.reduceEqDiff, not_false_eq_true]
    exact ⟨h0, g1⟩
  · simp only [mq_up_f, mq_up_e, ne_eq, Nat.reduceEqDiff, not_false_eq_true]
    omega
  · simp only [mq_up_f, ne_eq, Nat.reduceEqDiff, not_false_eq_true]
    exact hon
/-- the tables grow -/
theorem sq_tabs_lay {μ μ1 : mq_M} {n k p : Int} (h : sq_tabs (sq_li μ) (μ (60, 0) 29) (μ (60, 0) 30) (μ (78, 0)) (μ (76, 0)) n) (hag : mq_ag (2 ^ 78) μ μ1) (hl : sq_laid (sq_li μ1) (μ1 (60, 0) 29) (μ1 (60, 0) 30) (μ1 (78, 0)) n k p) (hk : k = μ (76, 0) (5 * n + 1).toNat) (hp : p = μ (76, 0) (5 * n + 2).toNat) (hf : sq_fr (μ (78, 0)) (μ1 (78, 0)) n) (hL : μ (67, 0) 0 ≤ 400) : sq_tabs (sq_li μ1) (μ1 (60, 0) 29) (μ1 (60, 0) 30) (μ1 (78, 0)) (μ1 (76, 0)) (n + 1) := by
  have e0 : sq_li μ1 = sq_li μ := sq_li_ag hag (by decide +kernel)
  have e60 := mq_ag_at hag 60 0 (by decide +kernel)
  have e76 := mq_ag_at hag 76 0 (by decide +kernel)
  rw [e0, e60] at hl ⊢
  rw [e76]
  subst hk
  subst hp
  exact sq_tabs_s h hL hl hf
theorem sq_T_col3 {μ : mq_M} {c v : Int} (h : sq_T μ) (hb : mq_bok μ) (hc : 0 ≤ c) : sq_T (mq_up μ (76, 0) (5 * c + 3).toNat v) := by
  have hr : ∀ z : Nat, ¬ (z : Int) % 5 = 3 → mq_up μ (76, 0) (5 * c + 3).toNat v (76, 0) z = μ (76, 0) z := fun z hz => by rw [mq_up_row, if_neg (by omega)]
  obtain ⟨h1, h2⟩ := h
  unfold sq_T
  rw [sq_li_up (by decide), mq_up_f _ 69 _ _ _ _ _ (by decide), mq_up_f _ 60 _ _ _ _ _ (by decide), mq_up_f _ 78 _ _ _ _ _ (by decide)]
  exact ⟨sq_pl_same h1 (sq_has16 hb 0 (by decide) (by decide)) rfl (fun j a1 a2 a3 => hr _ (by omega)), sq_tabs_co h2 hr⟩
