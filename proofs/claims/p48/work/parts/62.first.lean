/-! the first world: every cell that the two constructors make, as places of the small machine -/
def nq_off : List Nat := [0, 0, 1, 6, 11, 16, 21, 26, 31, 36, 41, 46, 51, 56, 61, 66, 71, 76, 80, 84, 85, 86, 87, 88, 89, 90, 91, 92, 93, 94, 95, 96, 97, 98, 99, 100, 101, 102, 103, 104, 105, 106, 107, 108, 109, 110, 111, 112, 113, 114, 115, 116, 117, 118, 119, 120, 121, 122, 123, 124, 125, 126, 127, 128, 129, 130, 131, 132, 133, 134, 135, 136, 137, 138, 139, 140, 141, 142, 143, 144, 145, 146, 147, 148, 149, 150, 151, 152, 153, 154, 155, 156, 157, 158]
def nq_ad (a : Nat → Nat) (ex : mq_J → Nat) : mq_J → Nat := fun j => bif Nat.ble 94 j.1 || Nat.beq j.1 1 then ex j else a (nq_off.getD j.1 0 + j.2)
def nq_v : Nat → List Int := fun f => bif Nat.beq f 3 then [8, 2] else bif Nat.beq f 4 then [6, 3] else bif Nat.beq f 5 then [6, 2] else bif Nat.beq f 6 then [6, 2] else bif Nat.beq f 7 then [4, 5] else bif Nat.beq f 8 then [5, 3] else bif Nat.beq f 9 then [16, 5] else bif Nat.beq f 17 then [0, (-1)] else bif Nat.beq f 20 then [0, 0, 0, 0, 0, 0, 0, (-1)] else bif Nat.beq f 30 then [0, 0, 0, 0, 0, 0, (-1)] else bif Nat.beq f 50 then [0, 0, 0, 0, 0, 0, 0, 0, 0, (-1), (-1), (-1)] else bif Nat.beq f 60 then [0, 0, 0, 0, 0, 0, 0, 0, 0, 0, 0, 0, 0, 0, 0, (-1), 0, 0, 0, 0, 0, 0, 0, 0, 0, 0, 0, 0, 0, 0, 15] else []
def nq_at : List Int → Nat → Int
  | [], _ => 0
  | x :: t, k => bif Nat.beq k 0 then x else nq_at t (k - 1)
def nq_28 (k : Nat) : Int := if k = 0 then 15 else 0
def nq_61 (k : Nat) : Int := if k < 4 then -1 else 0
def nq_mu (g : Nat → Int) (L : Nat) (xs : Nat → Int32) : mq_M := fun j k => bif Nat.beq j.1 28 then nq_28 k else bif Nat.beq j.1 61 then nq_61 k else bif Nat.beq j.1 48 then g k else bif Nat.beq j.1 97 then (match k with | 0 => (L : Int) | k + 1 => (xs k).toInt) else nq_at (nq_v j.1) k
def nq_rho : mq_R := (0, 1, 0, 59, fun _ => false)
set_option maxRecDepth 100000 in
def nq_ws (G : KG) (a : Nat → Nat) (F28 F48 F61 : Nat → Int32) (F21 F24 F31 : Nat → Option Nat) : va_W := [((a 0), .inr (10, [.ref (a 84), .int 0, .ref (a 85), .ref (a 1), .ref (a 2), .ref (a 86), .ref (a 87), .ref (a 88), .ref (a 89), .ref (a 90), .ref (a 95), .ref (a 99), .ref (a 102), .ref (a 115), .ref (a 121)])),
  ((a 1), .inr (3, [.int 0, .int 0, .ref (a 6), .ref (a 11), .ref (a 16), .ref (a 21), .ref (a 26), .ref (a 31), .ref (a 36)])),
  ((a 2), .inr (3, [.int 0, .int 0, .ref (a 7), .ref (a 12), .ref (a 17), .ref (a 22), .ref (a 27), .ref (a 32), .ref (a 37)])),
  ((a 3), .inr (3, [.int 0, .int 0, .ref (a 8), .ref (a 13), .ref (a 18), .ref (a 23), .ref (a 28), .ref (a 33), .ref (a 38)])),
  ((a 4), .inr (3, [.int 0, .int 0, .ref (a 9), .ref (a 14), .ref (a 19), .ref (a 24), .ref (a 29), .ref (a 34), .ref (a 39)])),
  ((a 5), .inr (3, [.int 0, .int 0, .ref (a 10), .ref (a 15), .ref (a 20), .ref (a 25), .ref (a 30), .ref (a 35), .ref (a 40)])),
  ((a 6), .inr (6, [.int 8, .int 2, .ref (a 41), .int 0])),
  ((a 7), .inr (6, [.int 8, .int 2, .ref (a 42), .int 0])),
  ((a 8), .inr (6, [.int 8, .int 2, .ref (a 43), .int 0])),
  ((a 9), .inr (6, [.int 8, .int 2, .ref (a 44), .int 0])),
  ((a 10), .inr (6, [.int 8, .int 2, .ref (a 45), .int 0])),
  ((a 11), .inr (6, [.int 6, .int 3, .ref (a 46), .int 0])),
  ((a 12), .inr (6, [.int 6, .int 3, .ref (a 47), .int 0])),
  ((a 13), .inr (6, [.int 6, .int 3, .ref (a 48), .int 0])),
  ((a 14), .inr (6, [.int 6, .int 3, .ref (a 49), .int 0])),
  ((a 15), .inr (6, [.int 6, .int 3, .ref (a 50), .int 0])),
  ((a 16), .inr (6, [.int 6, .int 2, .ref (a 51), .int 0])),
  ((a 17), .inr (6, [.int 6, .int 2, .ref (a 52), .int 0])),
  ((a 18), .inr (6, [.int 6, .int 2, .ref (a 53), .int 0])),
  ((a 19), .inr (6, [.int 6, .int 2, .ref (a 54), .int 0])),
  ((a 20), .inr (6, [.int 6, .int 2, .ref (a 55), .int 0])),
  ((a 21), .inr (6, [.int 6, .int 2, .ref (a 56), .int 0])),
  ((a 22), .inr (6, [.int 6, .int 2, .ref (a 57), .int 0])),
  ((a 23), .inr (6, [.int 6, .int 2, .ref (a 58), .int 0])),
  ((a 24), .inr (6, [.int 6, .int 2, .ref (a 59), .int 0])),
  ((a 25), .inr (6, [.int 6, .int 2, .ref (a 60), .int 0])),
  ((a 26), .inr (6, [.int 4, .int 5, .ref (a 61), .int 0])),
  ((a 27), .inr (6, [.int 4, .int 5, .ref (a 62), .int 0])),
  ((a 28), .inr (6, [.int 4, .int 5, .ref (a 63), .int 0])),
  ((a 29), .inr (6, [.int 4, .int 5, .ref (a 64), .int 0])),
  ((a 30), .inr (6, [.int 4, .int 5, .ref (a 65), .int 0])),
  ((a 31), .inr (6, [.int 5, .int 3, .ref (a 66), .int 0])),
  ((a 32), .inr (6, [.int 5, .int 3, .ref (a 67), .int 0])),
  ((a 33), .inr (6, [.int 5, .int 3, .ref (a 68), .int 0])),
  ((a 34), .inr (6, [.int 5, .int 3, .ref (a 69), .int 0])),
  ((a 35), .inr (6, [.int 5, .int 3, .ref (a 70), .int 0])),
  ((a 36), .inr (6, [.int 16, .int 5, .ref (a 71), .int 0])),
  ((a 37), .inr (6, [.int 16, .int 5, .ref (a 72), .int 0])),
  ((a 38), .inr (6, [.int 16, .int 5, .ref (a 73), .int 0])),
  ((a 39), .inr (6, [.int 16, .int 5, .ref (a 74), .int 0])),
  ((a 40), .inr (6, [.int 16, .int 5, .ref (a 75), .int 0])),
  ((a 41), .inl (G.2 0, 16, .inl (fun _ => 0))),
  ((a 42), .inl (G.2 0, 16, .inl (fun _ => 0))),
  ((a 43), .inl (G.2 0, 16, .inl (fun _ => 0))),
  ((a 44), .inl (G.2 0, 16, .inl (fun _ => 0))),
  ((a 45), .inl (G.2 0, 16, .inl (fun _ => 0))),
  ((a 46), .inl (G.2 0, 18, .inl (fun _ => 0))),
  ((a 47), .inl (G.2 0, 18, .inl (fun _ => 0))),
  ((a 48), .inl (G.2 0, 18, .inl (fun _ => 0))),
  ((a 49), .inl (G.2 0, 18, .inl (fun _ => 0))),
  ((a 50), .inl (G.2 0, 18, .inl (fun _ => 0))),
  ((a 51), .inl (G.2 0, 12, .inl (fun _ => 0))),
  ((a 52), .inl (G.2 0, 12, .inl (fun _ => 0))),
  ((a 53), .inl (G.2 0, 12, .inl (fun _ => 0))),
  ((a 54), .inl (G.2 0, 12, .inl (fun _ => 0))),
  ((a 55), .inl (G.2 0, 12, .inl (fun _ => 0))),
  ((a 56), .inl (G.2 0, 12, .inl (fun _ => 0))),
  ((a 57), .inl (G.2 0, 12, .inl (fun _ => 0))),
  ((a 58), .inl (G.2 0, 12, .inl (fun _ => 0))),
  ((a 59), .inl (G.2 0, 12, .inl (fun _ => 0))),
  ((a 60), .inl (G.2 0, 12, .inl (fun _ => 0))),
  ((a 61), .inl (G.2 0, 20, .inl (fun _ => 0))),
  ((a 62), .inl (G.2 0, 20, .inl (fun _ => 0))),
  ((a 63), .inl (G.2 0, 20, .inl (fun _ => 0))),
  ((a 64), .inl (G.2 0, 20, .inl (fun _ => 0))),
  ((a 65), .inl (G.2 0, 20, .inl (fun _ => 0))),
  ((a 66), .inl (G.2 0, 15, .inl (fun _ => 0))),
  ((a 67), .inl (G.2 0, 15, .inl (fun _ => 0))),
  ((a 68), .inl (G.2 0, 15, .inl (fun _ => 0))),
  ((a 69), .inl (G.2 0, 15, .inl (fun _ => 0))),
  ((a 70), .inl (G.2 0, 15, .inl (fun _ => 0))),
  ((a 71), .inl (G.2 0, 80, .inl (fun _ => 0))),
  ((a 72), .inl (G.2 0, 80, .inl (fun _ => 0))),
  ((a 73), .inl (G.2 0, 80, .inl (fun _ => 0))),
  ((a 74), .inl (G.2 0, 80, .inl (fun _ => 0))),
  ((a 75), .inl (G.2 0, 80, .inl (fun _ => 0))),
  ((a 76), .inr (8, [.ref (a 80), .int (-1), .int 0])),
  ((a 77), .inr (8, [.ref (a 81), .int (-1), .int 0])),
  ((a 78), .inr (8, [.ref (a 82), .int (-1), .int 0])),
  ((a 79), .inr (8, [.ref (a 83), .int (-1), .int 0])),
  ((a 80), .inl (G.2 3, 60, .inr (.inl (fun _ => 0)))),
  ((a 81), .inl (G.2 3, 60, .inr (.inl (fun _ => 0)))),
  ((a 82), .inl (G.2 3, 60, .inr (.inl (fun _ => 0)))),
  ((a 83), .inl (G.2 3, 60, .inr (.inl (fun _ => 0)))),
  ((a 84), .inl (G.2 1, 1600, .inl (fun _ => 0))),
  ((a 85), .inr (5, [.ref (a 124), .int 0, .int 0, .int 0, .int 0, .int 0, .int 0, .int (-1)])),
  ((a 86), .inl (G.2 4, 3, .inr (.inr (.inr (.inr F21))))),
  ((a 87), .inl (G.2 0, 3, .inl (fun _ => 0))),
  ((a 88), .inl (G.2 2, 3, .inl (fun _ => 0))),
  ((a 89), .inl (G.2 5, 4, .inr (.inr (.inr (.inr F24))))),
  ((a 90), .inr (9, [.ref (a 91), .ref (a 92), .ref (a 93), .ref (a 94), .ref (a 1), .int 0])),
  ((a 91), .inl (G.2 0, 401, .inl (fun _ => 0))),
  ((a 92), .inl (G.2 0, 401, .inl (fun _ => 0))),
  ((a 93), .inl (G.2 0, 401, .inl F28)),
  ((a 94), .inl (G.2 0, 6416, .inl (fun _ => 0))),
  ((a 95), .inr (1, [.ref (a 90), .ref (a 96), .ref (a 97), .ref (a 98), .int 0, .int 0, .int (-1)])),
  ((a 96), .inl (G.2 6, 24, .inr (.inr (.inr (.inr F31))))),
  ((a 97), .inl (G.2 2, 24, .inl (fun _ => 0))),
  ((a 98), .inl (G.2 0, 6416, .inl (fun _ => 0))),
  ((a 99), .inr (4, [.ref (a 100), .ref (a 101), .int 0])),
  ((a 100), .inl (G.2 0, 6416, .inl (fun _ => 0))),
  ((a 101), .inl (G.2 0, 401, .inl (fun _ => 0))),
  ((a 102), .inr (2, [.ref (a 90), .ref (a 95), .ref (a 103), .ref (a 104), .ref (a 105), .ref (a 106), .ref (a 107), .ref (a 108), .ref (a 109), .ref (a 110), .ref (a 111), .ref (a 112), .ref (a 113), .int 0, .ref (a 114)])),
  ((a 103), .inl (G.2 0, 2020, .inl (fun _ => 0))),
  ((a 104), .inl (G.2 0, 2020, .inl (fun _ => 0))),
  ((a 105), .inl (G.2 0, 5, .inl (fun _ => 0))),
  ((a 106), .inl (G.2 0, 16, .inl (fun _ => 0))),
  ((a 107), .inl (G.2 0, 16, .inl (fun _ => 0))),
  ((a 108), .inl (G.2 0, 16, .inl (fun _ => 0))),
  ((a 109), .inl (G.2 0, 6464, .inl (fun _ => 0))),
  ((a 110), .inl (G.2 0, 16, .inl (fun _ => 0))),
  ((a 111), .inl (G.2 2, 16, .inl (fun _ => 0))),
  ((a 112), .inl (G.2 2, 16, .inl (fun _ => 0))),
  ((a 113), .inl (G.2 0, 16, .inl F48)),
  ((a 114), .inl (G.2 0, 16, .inl (fun _ => 0))),
  ((a 115), .inr (0, [.ref (a 90), .ref (a 102), .ref (a 116), .ref (a 117), .ref (a 118), .ref (a 119), .int 0, .ref (a 120), .int 0, .int (-1), .int (-1), .int (-1)])),
  ((a 116), .inl (G.2 0, 5, .inl (fun _ => 0))),
  ((a 117), .inl (G.2 0, 16, .inl (fun _ => 0))),
  ((a 118), .inl (G.2 0, 16, .inl (fun _ => 0))),
  ((a 119), .inl (G.2 0, 16, .inl (fun _ => 0))),
  ((a 120), .inl (G.2 0, 5, .inl (fun _ => 0))),
  ((a 121), .inr (7, [.ref (a 122), .ref (a 123), .int 0])),
  ((a 122), .inl (G.2 0, 16, .inl (fun _ => 0))),
  ((a 123), .inl (G.2 0, 16, .inl (fun _ => 0))),
  ((a 124), .inl (G.2 1, 0, .inl (fun _ => 0))),
  ((a 125), .inr (11, [.int 0, .ref (a 126), .ref (a 127), .ref (a 128), .ref (a 129), .ref (a 130), .int 0, .int 0, .int 0, .int 0, .int 0, .long 0, .int 0, .int 0, .int 0, .int (-1), .ref (a 131), .ref (a 132), .ref (a 133), .ref (a 134), .ref (a 135), .ref (a 136), .ref (a 137), .ref (a 138), .ref (a 139), .ref (a 140), .ref (a 141), .ref (a 142), .ref (a 143), .int 0, .int 15, .ref (a 144), .ref (a 145), .int 0, .int 0, .int 0, .ref (a 146), .ref (a 147), .ref (a 148), .ref (a 149), .ref (a 150), .ref (a 151), .ref (a 152), .ref (a 153), .ref (a 154), .ref (a 155), .ref (a 156), .ref (a 157), .int 0, .int 0, .int 0, .int 0, .ref (a 158), .int 0, .int 0, .int 0, .int 0, .long 0])),
  ((a 126), .inl (G.2 0, 4, .inl F61)),
  ((a 127), .inl (G.2 0, 4, .inl (fun _ => 0))),
  ((a 128), .inl (G.2 3, 240, .inr (.inl (fun _ => 0)))),
  ((a 129), .inl (G.2 3, 60, .inr (.inl (fun _ => 0)))),
  ((a 130), .inl (G.2 1, 1600, .inl (fun _ => 0))),
  ((a 131), .inl (G.2 0, 5, .inl (fun _ => 0))),
  ((a 132), .inl (G.2 0, 5, .inl (fun _ => 0))),
  ((a 133), .inl (G.2 0, 5, .inl (fun _ => 0))),
  ((a 134), .inl (G.2 0, 35, .inl (fun _ => 0))),
  ((a 135), .inl (G.2 0, 80, .inl (fun _ => 0))),
  ((a 136), .inl (G.2 0, 90, .inl (fun _ => 0))),
  ((a 137), .inl (G.2 0, 60, .inl (fun _ => 0))),
  ((a 138), .inl (G.2 0, 60, .inl (fun _ => 0))),
  ((a 139), .inl (G.2 0, 100, .inl (fun _ => 0))),
  ((a 140), .inl (G.2 0, 75, .inl (fun _ => 0))),
  ((a 141), .inl (G.2 0, 400, .inl (fun _ => 0))),
  ((a 142), .inl (G.2 2, 3, .inl (fun _ => 0))),
  ((a 143), .inl (G.2 0, 109072, .inl (fun _ => 0))),
  ((a 144), .inl (G.2 0, 401, .inl (fun _ => 0))),
  ((a 145), .inl (G.2 2, 401, .inl (fun _ => 0))),
  ((a 146), .inl (G.2 0, 5, .inl (fun _ => 0))),
  ((a 147), .inl (G.2 0, 5, .inl (fun _ => 0))),
  ((a 148), .inl (G.2 2, 5, .inl (fun _ => 0))),
  ((a 149), .inl (G.2 0, 16, .inl (fun _ => 0))),
  ((a 150), .inl (G.2 0, 16, .inl (fun _ => 0))),
  ((a 151), .inl (G.2 0, 16, .inl (fun _ => 0))),
  ((a 152), .inl (G.2 0, 16, .inl (fun _ => 0))),
  ((a 153), .inl (G.2 0, 16, .inl (fun _ => 0))),
  ((a 154), .inl (G.2 0, 16, .inl (fun _ => 0))),
  ((a 155), .inl (G.2 2, 16, .inl (fun _ => 0))),
  ((a 156), .inl (G.2 0, 16, .inl (fun _ => 0))),
  ((a 157), .inl (G.2 0, 16, .inl (fun _ => 0))),
  ((a 158), .inl (G.2 0, 5, .inl (fun _ => 0)))]
def nq_im (a : Nat → Nat) : Nat → Option Nat := (va_up (va_up (va_up (fun _ => none) 0 (some (a 3))) 1 (some (a 4))) 2 (some (a 5)))
def nq_sl (a : Nat → Nat) : Nat → Option Nat := (va_up (va_up (va_up (va_up (fun _ => none) 0 (some (a 76))) 1 (some (a 77))) 2 (some (a 78))) 3 (some (a 79)))
theorem nq_F28 : (upd (fun _ => 0) (0 : Int32).toNatClampNeg 15 : Nat → Int32) = fun k => Int32.ofInt (nq_28 k) := by
  funext k
  simp only [upd, nq_28]
  by_cases h : k = 0
  · subst h; decide
  · rw [if_neg h]
    have h2 : ¬ k = (0 : Int32).toNatClampNeg := h
    first | rw [if_neg h2] | (rw [if_neg (fun q => h2 q.symm)])
    rfl
theorem nq_F61 : wd4 = fun k => Int32.ofInt (nq_61 k) := by
  funext k
  simp only [wd4, nq_61]
  split <;> rfl
def nq_ck (f : Nat) : Bool := match mq_fm f with
  | (true, _, _, bs) => (nq_v f).isEmpty && bs.all fun b => decide (b.2.1 ≤ 0) && decide (0 ≤ b.2.2)
  | (false, _, _, bs) => Nat.ble (nq_v f).length bs.length && (List.range bs.length).all fun k => decide ((bs.getD k (0, 0, 0)).2.1 ≤ nq_at (nq_v f) k) && decide (nq_at (nq_v f) k ≤ (bs.getD k (0, 0, 0)).2.2)
theorem nq_ck_all : ∀ f, f < 94 → nq_ck f = true := by decide +kernel
theorem nq_at_out : ∀ (l : List Int) (k : Nat), l.length ≤ k → nq_at l k = 0
  | [], _, _ => rfl
  | x :: t, 0, h => by simp at h
  | x :: t, k + 1, h => by
    show (bif Nat.beq (k + 1) 0 then x else nq_at t k) = 0
    exact nq_at_out t k (by simpa using h)
theorem nq_bd0 (f k : Nat) (hf : f < 94) : (mq_bd f k).1 ≤ nq_at (nq_v f) k ∧ nq_at (nq_v f) k ≤ (mq_bd f k).2 := by
  have h := nq_ck_all f hf
  unfold nq_ck at h
  unfold mq_bd
  rcases hm : mq_fm f with ⟨t, ci, n, bs⟩
  rw [hm] at h
  cases t with
  | true =>
    simp only [Bool.and_eq_true, List.all_eq_true, decide_eq_true_eq] at h
    have e0 : nq_v f = [] := List.isEmpty_iff.mp h.1
    simp only [e0, nq_at]
    by_cases hk : k % bs.length < bs.length
    · rw [show bs.getD (k % bs.length) (0, 0, 0) = bs[k % bs.length] from by simp [List.getD, hk]]
      exact h.2 _ (List.getElem_mem hk)
    · rw [show bs.getD (k % bs.length) (0, 0, 0) = (0, 0, 0) from by simp [List.getD, List.getElem?_eq_none (Nat.le_of_not_lt hk)]]
      exact ⟨Int.le_refl _, Int.le_refl _⟩
  | false =>
    simp only [Bool.and_eq_true, List.all_eq_true, decide_eq_true_eq, List.mem_range] at h
    by_cases hk : k < bs.length
    · exact h.2 k hk
    · have h1 := Nat.le_of_ble_eq_true h.1
      rw [nq_at_out _ _ (by omega)]
      show (bs.getD k (0, 0, 0)).2.1 ≤ 0 ∧ 0 ≤ (bs.getD k (0, 0, 0)).2.2
      rw [show bs.getD k (0, 0, 0) = (0, 0, 0) from by simp [List.getD, List.getElem?_eq_none (Nat.le_of_not_lt hk)]]
      exact ⟨Int.le_refl _, Int.le_refl _⟩
theorem nq_bok {g : Nat → Int} {L : Nat} {xs : Nat → Int32} (hg : ∀ k, -2147483648 ≤ g k ∧ g k ≤ 2147483647) (hL : L ≤ 384) : mq_bok (nq_mu g L xs) := by
  intro j k
  obtain ⟨f, i⟩ := j
  show (mq_bd f k).1 ≤ nq_mu g L xs (f, i) k ∧ nq_mu g L xs (f, i) k ≤ (mq_bd f k).2
  by_cases h28 : f = 28
  · subst h28
    have e : mq_bd 28 k = (0, 400) := by rw [mq_bd_arr (show mq_fm 28 = (true, 0, 401, [(1, 0, 400)]) from rfl)]; simp [Nat.mod_one]
    rw [e]
    show 0 ≤ nq_28 k ∧ nq_28 k ≤ 400
    unfold nq_28
    split <;> decide
  by_cases h61 : f = 61
  · subst h61
    have e : mq_bd 61 k = (-1, 3) := by rw [mq_bd_arr (show mq_fm 61 = (true, 0, 4, [(1, -1, 3)]) from rfl)]; simp [Nat.mod_one]
    rw [e]
    show -1 ≤ nq_61 k ∧ nq_61 k ≤ 3
    unfold nq_61
    split <;> decide
  by_cases h48 : f = 48
  · subst h48
    have e : mq_bd 48 k = (-2147483648, 2147483647) := by rw [mq_bd_arr (show mq_fm 48 = (true, 0, 16, [(1, -2147483648, 2147483647)]) from rfl)]; simp [Nat.mod_one]
    rw [e]
    exact hg k
  have b28 : Nat.beq f 28 = false := by cases hb : Nat.beq f 28 with | false => rfl | true => exact absurd (Nat.eq_of_beq_eq_true hb) h28
  have b61 : Nat.beq f 61 = false := by cases hb : Nat.beq f 61 with | false => rfl | true => exact absurd (Nat.eq_of_beq_eq_true hb) h61
  have b48 : Nat.beq f 48 = false := by cases hb : Nat.beq f 48 with | false => rfl | true => exact absurd (Nat.eq_of_beq_eq_true hb) h48
  by_cases h94 : f < 94
  · have b97 : Nat.beq f 97 = false := by cases hb : Nat.beq f 97 with | false => rfl | true => exact absurd (Nat.eq_of_beq_eq_true hb) (by omega)
    have e : nq_mu g L xs (f, i) k = nq_at (nq_v f) k := by simp only [nq_mu, b28, b61, b48, b97, cond_false]
    rw [e]
    exact nq_bd0 f k h94
  · have e : mq_bd f k = (-2147483648, 2147483647) := by rw [mq_bd_arr (mq_fm_big (Nat.le_of_not_lt h94))]; simp [Nat.mod_one]
    rw [e]
    by_cases h97 : f = 97
    · subst h97
      match k with
      | 0 => show -2147483648 ≤ (L : Int) ∧ (L : Int) ≤ 2147483647; omega
      | k + 1 => exact mq_in32 (xs k)
    · have b97 : Nat.beq f 97 = false := by cases hb : Nat.beq f 97 with | false => rfl | true => exact absurd (Nat.eq_of_beq_eq_true hb) h97
      have e : nq_mu g L xs (f, i) k = nq_at (nq_v f) k := by simp only [nq_mu, b28, b61, b48, b97, cond_false]
      have e2 : nq_v f = [] := by
        unfold nq_v
        simp only [(show Nat.beq f 3 = false from by cases hb : Nat.beq f 3 with | false => rfl | true => exact absurd (Nat.eq_of_beq_eq_true hb) (by omega)), (show Nat.beq f 4 = false from by cases hb : Nat.beq f 4 with | false => rfl | true => exact absurd (Nat.eq_of_beq_eq_true hb) (by omega)), (show Nat.beq f 5 = false from by cases hb : Nat.beq f 5 with | false => rfl | true => exact absurd (Nat.eq_of_beq_eq_true hb) (by omega)), (show Nat.beq f 6 = false from by cases hb : Nat.beq f 6 with | false => rfl | true => exact absurd (Nat.eq_of_beq_eq_true hb) (by omega)), (show Nat.beq f 7 = false from by cases hb : Nat.beq f 7 with | false => rfl | true => exact absurd (Nat.eq_of_beq_eq_true hb) (by omega)), (show Nat.beq f 8 = false from by cases hb : Nat.beq f 8 with | false => rfl | true => exact absurd (Nat.eq_of_beq_eq_true hb) (by omega)), (show Nat.beq f 9 = false from by cases hb : Nat.beq f 9 with | false => rfl | true => exact absurd (Nat.eq_of_beq_eq_true hb) (by omega)), (show Nat.beq f 17 = false from by cases hb : Nat.beq f 17 with | false => rfl | true => exact absurd (Nat.eq_of_beq_eq_true hb) (by omega)), (show Nat.beq f 20 = false from by cases hb : Nat.beq f 20 with | false => rfl | true => exact absurd (Nat.eq_of_beq_eq_true hb) (by omega)), (show Nat.beq f 30 = false from by cases hb : Nat.beq f 30 with | false => rfl | true => exact absurd (Nat.eq_of_beq_eq_true hb) (by omega)), (show Nat.beq f 50 = false from by cases hb : Nat.beq f 50 with | false => rfl | true => exact absurd (Nat.eq_of_beq_eq_true hb) (by omega)), (show Nat.beq f 60 = false from by cases hb : Nat.beq f 60 with | false => rfl | true => exact absurd (Nat.eq_of_beq_eq_true hb) (by omega)), cond_false]
      rw [e, e2]
      show -2147483648 ≤ (0 : Int) ∧ (0 : Int) ≤ 2147483647
      decide
set_option maxHeartbeats 40000000 in
set_option maxRecDepth 100000 in
theorem nq_fix : mq_fix = [(0, 0), (2, 0), (2, 1), (2, 2), (2, 3), (2, 4), (3, 0), (3, 1), (3, 2), (3, 3), (3, 4), (4, 0), (4, 1), (4, 2), (4, 3), (4, 4), (5, 0), (5, 1), (5, 2), (5, 3), (5, 4), (6, 0), (6, 1), (6, 2), (6, 3), (6, 4), (7, 0), (7, 1), (7, 2), (7, 3), (7, 4), (8, 0), (8, 1), (8, 2), (8, 3), (8, 4), (9, 0), (9, 1), (9, 2), (9, 3), (9, 4), (10, 0), (10, 1), (10, 2), (10, 3), (10, 4), (11, 0), (11, 1), (11, 2), (11, 3), (11, 4), (12, 0), (12, 1), (12, 2), (12, 3), (12, 4), (13, 0), (13, 1), (13, 2), (13, 3), (13, 4), (14, 0), (14, 1), (14, 2), (14, 3), (14, 4), (15, 0), (15, 1), (15, 2), (15, 3), (15, 4), (16, 0), (16, 1), (16, 2), (16, 3), (16, 4), (17, 0), (17, 1), (17, 2), (17, 3), (18, 0), (18, 1), (18, 2), (18, 3), (19, 0), (20, 0), (21, 0), (22, 0), (23, 0), (24, 0), (25, 0), (26, 0), (27, 0), (28, 0), (29, 0), (30, 0), (31, 0), (32, 0), (33, 0), (34, 0), (35, 0), (36, 0), (37, 0), (38, 0), (39, 0), (40, 0), (41, 0), (42, 0), (43, 0), (44, 0), (45, 0), (46, 0), (47, 0), (48, 0), (49, 0), (50, 0), (51, 0), (52, 0), (53, 0), (54, 0), (55, 0), (56, 0), (57, 0), (58, 0), (59, 0), (60, 0), (61, 0), (62, 0), (63, 0), (64, 0), (65, 0), (66, 0), (67, 0), (68, 0), (69, 0), (70, 0), (71, 0), (72, 0), (73, 0), (74, 0), (75, 0), (76, 0), (77, 0), (78, 0), (79, 0), (80, 0), (81, 0), (82, 0), (83, 0), (84, 0), (85, 0), (86, 0), (87, 0), (88, 0), (89, 0), (90, 0), (91, 0), (92, 0), (93, 0)] := by decide +kernel
set_option maxHeartbeats 40000000 in
set_option maxRecDepth 100000 in
theorem nq_eq (G : KG) (a : Nat → Nat) (ex : mq_J → Nat) (g : Nat → Int) (L : Nat) (xs : Nat → Int32) : mq_ws G (nq_ad a ex) nq_rho (nq_mu g L xs) = nq_ws G a (fun k => Int32.ofInt (nq_28 k)) (fun k => Int32.ofInt (g k)) (fun k => Int32.ofInt (nq_61 k)) (fun k => (mq_rg nq_rho (21, 0) k).map (nq_ad a ex)) (fun k => (mq_rg nq_rho (24, 0) k).map (nq_ad a ex)) (fun k => (mq_rg nq_rho (31, 0) k).map (nq_ad a ex)) := by
  have e : mq_ids nq_rho.2.2.2.2 = mq_fix := by show mq_fix ++ _ = _; rw [show ((List.range 24).filter nq_rho.2.2.2.2) = [] from rfl]; exact List.append_nil _
  unfold mq_ws
  rw [e, nq_fix]
  rfl
theorem nq_arrq {c : ClassId} {n : Nat} {F F' : Nat → Option Nat} (h : ∀ k, k < n → F k = F' k) : vp_cell c (n, .inr (.inr (.inr (.inr F)))) = vp_cell c (n, .inr (.inr (.inr (.inr F')))) := by
  rw [vp_cell_q, vp_cell_q]
  have e : (Array.ofFn (n := n) fun j => va_rf (F j.val)) = Array.ofFn (n := n) fun j => va_rf (F' j.val) := congrArg Array.ofFn (funext fun j => by rw [h j.val j.isLt])
  show ({ cls := c, slots := Array.ofFn (n := n) fun j => va_rf (F j.val), vm := .none } : Cell) = _
  rw [e]
  rfl
theorem nq_Pset {D : va_G} {cl : List vw_C} {ws : va_W} {H : Heap} {i : Nat} {x : Nat × va_E} (h : va_P D cl ws H) (hx : va_at D cl x H) : va_P D cl (ws.set i x) H := by
  intro k q hq
  rw [List.getElem?_set] at hq
  by_cases e : i = k
  · rw [if_pos e] at hq
    split at hq
    · cases hq; exact hx
    · cases hq
  · rw [if_neg e] at hq
    exact h k q hq
theorem nq_Dad {A : Nat → Prop} {ws ws' : va_W} (e : ws.map (fun x => x.1) = ws'.map (fun x => x.1)) (h : va_D A ws) : va_D A ws' := by
  have key : ∀ (k : Nat) (q : Nat × va_E), ws'[k]? = some q → ∃ p : Nat × va_E, ws[k]? = some p ∧ p.1 = q.1 := fun k q hq => by
    have h1 : (ws'.map (fun x => x.1))[k]? = some q.1 := by rw [List.getElem?_map, hq]; rfl
    rw [← e, List.getElem?_map] at h1
    cases hk : ws[k]? with
    | none => rw [hk] at h1; cases h1
    | some p => rw [hk] at h1; exact ⟨p, rfl, Option.some.inj h1⟩
  refine ⟨fun i j p q hp hq hpq => ?_, fun k q hq => ?_⟩
  · obtain ⟨p', h1, h2⟩ := key i p hp
    obtain ⟨q', h3, h4⟩ := key j q hq
    exact h.1 i j p' q' h1 h3 (by rw [h2, h4, hpq])
  · obtain ⟨p, h1, h2⟩ := key k q hq
    rw [← h2]
    exact h.2 k p h1
set_option maxHeartbeats 40000000 in
set_option maxRecDepth 100000 in
theorem nq_Pq {G : KG} {a : Nat → Nat} {F28 F48 F61 : Nat → Int32} {F21 F24 F31 F21' F24' F31' : Nat → Option Nat} {H : Heap} (h : va_P G.1 vwCl (nq_ws G a F28 F48 F61 F21 F24 F31) H) (h1 : ∀ k, k < 3 → F21 k = F21' k) (h2 : ∀ k, k < 4 → F24 k = F24' k) (h3 : ∀ k, k < 24 → F31 k = F31' k) : va_P G.1 vwCl (nq_ws G a F28 F48 F61 F21' F24' F31') H := by
  have e : nq_ws G a F28 F48 F61 F21' F24' F31' = (((nq_ws G a F28 F48 F61 F21 F24 F31).set 86 (a 86, .inl (G.2 4, 3, .inr (.inr (.inr (.inr F21')))))).set 89 (a 89, .inl (G.2 5, 4, .inr (.inr (.inr (.inr F24')))))).set 96 (a 96, .inl (G.2 6, 24, .inr (.inr (.inr (.inr F31'))))) := rfl
  have g1 : H[a 86]? = some (vp_cell (G.2 4) (3, .inr (.inr (.inr (.inr F21))))) := h 86 _ rfl
  have g2 : H[a 89]? = some (vp_cell (G.2 5) (4, .inr (.inr (.inr (.inr F24))))) := h 89 _ rfl
  have g3 : H[a 96]? = some (vp_cell (G.2 6) (24, .inr (.inr (.inr (.inr F31))))) := h 96 _ rfl
  rw [e]
  exact nq_Pset (nq_Pset (nq_Pset h (g1.trans (congrArg some (nq_arrq h1)))) (g2.trans (congrArg some (nq_arrq h2)))) (g3.trans (congrArg some (nq_arrq h3)))
set_option maxHeartbeats 40000000 in
set_option maxRecDepth 100000 in
theorem nq_wd {G : KG} {a : Nat → Nat} {ex : mq_J → Nat} {g : Nat → Int} {L : Nat} {xs : Nat → Int32} {A : Nat → Prop} {H : Heap} (hP : va_P G.1 vwCl (nq_ws G a (upd (fun _ => 0) (0 : Int32).toNatClampNeg 15) (fun k => Int32.ofInt (g k)) wd4 (nq_im a) (nq_sl a) (fun _ => none)) H) (hD : va_D A (nq_ws G a (upd (fun _ => 0) (0 : Int32).toNatClampNeg 15) (fun k => Int32.ofInt (g k)) wd4 (nq_im a) (nq_sl a) (fun _ => none))) (hg : ∀ k, -2147483648 ≤ g k ∧ g k ≤ 2147483647) (hL : L ≤ 384) : mq_wd G A (nq_ad a ex) nq_rho (nq_mu g L xs) H := by
  rw [nq_F28, nq_F61] at hP hD
  have hP2 := nq_Pq (F21' := fun k => (mq_rg nq_rho (21, 0) k).map (nq_ad a ex)) (F24' := fun k => (mq_rg nq_rho (24, 0) k).map (nq_ad a ex)) (F31' := fun k => (mq_rg nq_rho (31, 0) k).map (nq_ad a ex)) hP (fun k hk => by
    match k, hk with
    | 0, _ => rfl
    | 1, _ => rfl
    | 2, _ => rfl
    | k + 3, h => exact absurd h (by omega)) (fun k hk => by
    match k, hk with
    | 0, _ => rfl
    | 1, _ => rfl
    | 2, _ => rfl
    | 3, _ => rfl
    | k + 4, h => exact absurd h (by omega)) (fun k hk => by
    have e : mq_rg nq_rho (31, 0) k = none := (show ∀ k, k < 24 → mq_rg nq_rho (31, 0) k = none by decide +kernel) k hk
    show none = (mq_rg nq_rho (31, 0) k).map (nq_ad a ex)
    rw [e]
    rfl)
  rw [← nq_eq G a ex g L xs] at hP2
  refine ⟨hP2, nq_Dad ?_ hD, nq_bok hg hL, by decide, by decide, by decide, Or.inr rfl⟩
  rw [nq_eq G a ex g L xs]
  rfl
