/-! String constants of the reader -/
def mq_strs : List (String × Nat × String × Nat) := [(RX5, 105, "line", 0), (RX5, 111, "long", 1), (RX5, 121, "slope", 2), (RX5, 126, "wet", 3), (RX5, 131, "limit", 4), (RX5, 136, "platform", 5), (RX5, 141, "kind", 6), (RX5, 146, "train", 7), (RX5, 151, "coach", 8), (RX5, 164, "at", 9), (RX5, 170, "up", 10), (RX5, 172, "down", 11), (RX5, 177, "to", 12), (RX5, 179, "by", 13), (RX5, 184, "of", 14), (RX5, 192, "roll", 15), (RX5, 194, "brakes", 16), (RX5, 199, "starts", 17), (RX5, 201, "speed", 18), (RX5, 203, "loses", 19), (RX5, 215, "for", 20)]
def mq_slen : List Nat := [4, 4, 5, 3, 5, 8, 4, 5, 5, 2, 2, 4, 2, 2, 2, 4, 6, 6, 5, 5, 3]
def mq_sbyt : List (List Int32) := [[108, 105, 110, 101], [108, 111, 110, 103], [115, 108, 111, 112, 101], [119, 101, 116], [108, 105, 109, 105, 116], [112, 108, 97, 116, 102, 111, 114, 109], [107, 105, 110, 100], [116, 114, 97, 105, 110], [99, 111, 97, 99, 104], [97, 116], [117, 112], [100, 111, 119, 110], [116, 111], [98, 121], [111, 102], [114, 111, 108, 108], [98, 114, 97, 107, 101, 115], [115, 116, 97, 114, 116, 115], [115, 112, 101, 101, 100], [108, 111, 115, 101, 115], [102, 111, 114]]
def mq_str (ad : mq_J → Nat) (A : Nat → Prop) (U : State) (H : Heap) : Prop := vk_S 21 mq_slen mq_sbyt (fun i => ad (99, i)) (fun i => ad (98, i)) A U H ∧ ∀ q ∈ mq_strs, vk_R q.1 q.2.1 q.2.2.1 (ad (99, q.2.2.2)) U
theorem mq_str_warm {ad : mq_J → Nat} {A : Nat → Prop} {s U : State} {H : Heap} (hW : s.WarmedH U.vm) (h : mq_str ad A s H) : mq_str ad A U H := ⟨vk_S.moved hW.alike h.1, fun q hq => vk_R.warm hW (h.2 q hq)⟩
theorem mq_str_same {ad : mq_J → Nat} {A : Nat → Prop} {u U : State} {H : Heap} (hv : U.vm = u.vm) (h : mq_str ad A u H) : mq_str ad A U H := ⟨vk_S.moved (by rw [hv]; exact Vm.Alike.refl _) h.1, fun q hq => vk_R.same hv (h.2 q hq)⟩
theorem mq_str_kept {ad : mq_J → Nat} {A B : Nat → Prop} {U : State} {H H1 : Heap} (h : mq_str ad A U H) (hq : ∀ a : Nat, a < H.size → ¬ A a → H1[a]? = H[a]?) (hAB : ∀ q, B q → A q) : mq_str ad B U H1 := ⟨(h.1.kept hq).narrow hAB, h.2⟩
theorem mq_str_ad {ad ad' : mq_J → Nat} {A : Nat → Prop} {U : State} {H : Heap} (h : mq_str ad A U H) (he : ∀ j : mq_J, j.1 ≠ 1 → ad' j = ad j) : mq_str ad' A U H := by
  have e1 : (fun i => ad' (99, i)) = fun i => ad (99, i) := funext fun i => he (99, i) (show (99 : Nat) ≠ 1 by decide)
  have e2 : (fun i => ad' (98, i)) = fun i => ad (98, i) := funext fun i => he (98, i) (show (98 : Nat) ≠ 1 by decide)
  refine ⟨by rw [e1, e2]; exact h.1, fun q hq => ?_⟩
  rw [he (99, q.2.2.2) (show (99 : Nat) ≠ 1 by decide)]
  exact h.2 q hq
def mq_sl (w : Nat) : Int := (mq_slen.getD w 0 : Nat)
