/-! String constants: their bytes, their lengths; static fields -/
theorem mq_sl_le (w : Nat) : 0 ≤ mq_sl w ∧ mq_sl w ≤ 8 := by
  unfold mq_sl
  by_cases h : w < 21
  · exact (show ∀ w, w < 21 → 0 ≤ ((mq_slen.getD w 0 : Nat) : Int) ∧ ((mq_slen.getD w 0 : Nat) : Int) ≤ 8 by decide +kernel) w h
  · have e : mq_slen.getD w 0 = 0 := by
      unfold List.getD
      rw [List.getElem?_eq_none (show mq_slen.length ≤ w by show 21 ≤ w; omega)]
      rfl
    rw [e]
    decide
theorem mq_sbyt_ok : ∀ w, w < 21 → ∀ k, k < 8 → -128 ≤ ((mq_sbyt.getD w []).getD k 0).toInt ∧ ((mq_sbyt.getD w []).getD k 0).toInt ≤ 127 := by decide +kernel
section MQ
variable {p : Program} {lc : Launch} {e : Env} {R : Room} {s : State} {m : MethodId} {args : Array Value} {below : List Frame} {meth : Method} {c : Code} {Q : State → Prop} {cc : ByteArray} {own : String} {nL : Nat} {G : KG} {A : Nat → Prop} {ad0 : mq_J → Nat} {ρ0 : mq_R} {md : Nat} {μ0 : mq_M}
variable {pc nxt cs : Nat} {l : mq_L} {st : List mq_V} {ρ : mq_R} {μ : mq_M}
theorem mq_sidx {f w : Nat} (ho : mq_ok ρ (.inr (.inr (some (f, w))))) (hf : 94 ≤ f) : w < 21 := by
  rcases ho with h | h
  · exact h.2
  · rcases mq_ids_inv h with ⟨h1, _⟩ | ⟨h1, _⟩
    · exact absurd (show f < 94 from h1) (by omega)
    · exact absurd (show f = 1 from h1) (by omega)
theorem mq_s_i2c (X : mq_cx p s m args meth c cc own nL G) {a : Int} (hd : decode cc pc = .ok (.i2c, 1) ∧ nxt = pc + 1)
    (k : ∀ r : Int, 0 ≤ r → r ≤ 65535 → mq_W p lc e R s m args below meth c G nL A ad0 ρ0 md μ0 Q nxt l (.inl r :: st) ρ μ cs) : mq_W p lc e R s m args below meth c G nL A ad0 ρ0 md μ0 Q pc l (.inl a :: st) ρ μ cs := by
  intro ad H locs ls hl ho hw hS hg ha
  have h9 := mq_i2c32 (Int32.ofInt a)
  have kk := k ((Int32.ofInt a).toUInt32 % 65536).toInt32.toInt h9.1 h9.2 ad H locs ls hl (ho.pop.push (mq_in32 _)) hw hS hg ha
  obtain ⟨hd, rfl⟩ := hd
  refine lv_i2c X.1 X.2.1 hd rfl ?_
  simp only [List.map_cons, mq_val, Int32.ofInt_toInt] at kk
  exact kk
theorem mq_s_sta0 (X : mq_cx p s m args meth c cc own nL G) (Y : mq_cy A ad0 s) (ho9 : own = RJ0) (hd : decode cc pc = .ok (.getstatic 38, 3) ∧ nxt = pc + 3)
    (k : mq_W p lc e R s m args below meth c G nL A ad0 ρ0 md μ0 Q nxt l (.inl 1 :: st) ρ μ cs) : mq_W p lc e R s m args below meth c G nL A ad0 ρ0 md μ0 Q pc l st ρ μ cs := by
  intro ad H locs ls hl ho hw hS hg ha
  have kk := k ad H locs ls hl (ho.push (v := .inl 1) (by decide : mq_in 1)) hw hS hg ha
  obtain ⟨hd, rfl⟩ := hd
  subst ho9
  exact va_gets X.1 X.2.1 Y.2.2.2.1 hS X.2.2.2.1 (X.2.2.2.2.1 _ kwS0) (fun _ h => h) hd kk
theorem mq_s_sta1 (X : mq_cx p s m args meth c cc own nL G) (Y : mq_cy A ad0 s) (ho9 : own = RJ0) (hd : decode cc pc = .ok (.getstatic 1053, 3) ∧ nxt = pc + 3)
    (k0 : mq_W p lc e R s m args below meth c G nL A ad0 ρ0 md μ0 Q nxt l (.inr (.inr none) :: st) ρ μ cs) (k : mq_W p lc e R s m args below meth c G nL A ad0 ρ0 md μ0 Q nxt l (.inr (.inr (some (96, 0))) :: st) ρ μ cs) : mq_W p lc e R s m args below meth c G nL A ad0 ρ0 md μ0 Q pc l st ρ μ cs := by
  intro ad H locs ls hl ho hw hS hg ha
  have kk0 := k0 ad H locs ls hl (ho.push (v := .inr (.inr none)) trivial) hw hS hg ha
  have kk := k ad H locs ls hl (ho.push (v := .inr (.inr (some (96, 0)))) (Or.inl ⟨(by decide : 94 ≤ 96), (by decide : 0 < 21)⟩)) hw hS hg ha
  obtain ⟨hd, rfl⟩ := hd
  subst ho9
  obtain ⟨v, hv, hz⟩ := Y.2.2.2.2
  refine va_gets X.1 X.2.1 hz hS X.2.2.2.1 (X.2.2.2.2.1 _ kwS1) (fun _ h => h) hd ?_
  rcases hv with rfl | rfl
  · exact kk0
  · rw [← ha.1 (96, 0) (fun z => by cases z)]
    exact kk
theorem mq_s_sval (X : mq_cx p s m args meth c cc own nL G) (Y : mq_cy A ad0 s) {w : Nat} (ho9 : own = RJ0) (hd : decode cc pc = .ok (.getfield 9, 3) ∧ nxt = pc + 3)
    (k : mq_W p lc e R s m args below meth c G nL A ad0 ρ0 md μ0 Q nxt l (.inr (.inr (some (98, w))) :: st) ρ μ cs) : mq_W p lc e R s m args below meth c G nL A ad0 ρ0 md μ0 Q pc l (.inr (.inr (some (99, w))) :: st) ρ μ cs := by
  intro ad H locs ls hl ho hw hS hg ha
  have hw9 := mq_sidx ho.top (by decide)
  have kk := k ad H locs ls hl (ho.pop.push (v := .inr (.inr (some (98, w)))) (Or.inl ⟨(by decide : 94 ≤ 98), hw9⟩)) hw hS hg ha
  obtain ⟨hd, rfl⟩ := hd
  subst ho9
  simp only [List.map_cons, mq_val] at kk ⊢
  rw [ha.1 (98, w) (fun z => by cases z)] at kk
  rw [ha.1 (99, w) (fun z => by cases z)]
  exact vk_getf X.1 X.2.1 (Y.2.1.1 w hw9).2.2.1 hS X.2.2.2.1 (X.2.2.2.2.1 _ kwS2) (fun _ h => h) hd kk
theorem mq_s_scod (X : mq_cx p s m args meth c cc own nL G) (Y : mq_cy A ad0 s) {w : Nat} (ho9 : own = RJ0) (hd : decode cc pc = .ok (.getfield 15, 3) ∧ nxt = pc + 3)
    (k : mq_W p lc e R s m args below meth c G nL A ad0 ρ0 md μ0 Q nxt l (.inl 0 :: st) ρ μ cs) : mq_W p lc e R s m args below meth c G nL A ad0 ρ0 md μ0 Q pc l (.inr (.inr (some (99, w))) :: st) ρ μ cs := by
  intro ad H locs ls hl ho hw hS hg ha
  have hw9 := mq_sidx ho.top (by decide)
  have kk := k ad H locs ls hl (ho.pop.push (v := .inl 0) (by decide : mq_in 0)) hw hS hg ha
  obtain ⟨hd, rfl⟩ := hd
  subst ho9
  simp only [List.map_cons, mq_val] at kk ⊢
  rw [ha.1 (99, w) (fun z => by cases z)]
  exact vk_getf X.1 X.2.1 (Y.2.1.1 w hw9).2.1 hS X.2.2.2.1 (X.2.2.2.2.1 _ kwS3) (fun _ h => h) hd kk
theorem mq_s_slen (X : mq_cx p s m args meth c cc own nL G) (Y : mq_cy A ad0 s) {w : Nat} (hd : decode cc pc = .ok (.arraylength, 1) ∧ nxt = pc + 1)
    (k : mq_W p lc e R s m args below meth c G nL A ad0 ρ0 md μ0 Q nxt l (.inl (mq_sl w) :: st) ρ μ cs) : mq_W p lc e R s m args below meth c G nL A ad0 ρ0 md μ0 Q pc l (.inr (.inr (some (98, w))) :: st) ρ μ cs := by
  intro ad H locs ls hl ho hw hS hg ha
  have hw9 := mq_sidx ho.top (by decide)
  have h8 := mq_sl_le w
  have kk := k ad H locs ls hl (ho.pop.push (v := .inl (mq_sl w)) ⟨by omega, by omega⟩) hw hS hg ha
  obtain ⟨hd, rfl⟩ := hd
  simp only [List.map_cons, mq_val] at kk ⊢
  rw [ha.1 (98, w) (fun z => by cases z)]
  exact va_tlen X.1 X.2.1 (Y.2.1.1 w hw9).2.2.2 hS (v := Int32.ofInt (mq_sl w)) (by unfold mq_sl; rw [Int32.ofInt_eq_ofNat]) hd kk
theorem mq_s_sbyt (X : mq_cx p s m args meth c cc own nL G) (Y : mq_cy A ad0 s) {w : Nat} {x : Int} (hd : decode cc pc = .ok (.baload, 1) ∧ nxt = pc + 1) (hx : 0 ≤ x ∧ x < mq_sl w)
    (k : ∀ r : Int, -128 ≤ r → r ≤ 127 → mq_W p lc e R s m args below meth c G nL A ad0 ρ0 md μ0 Q nxt l (.inl r :: st) ρ μ cs) : mq_W p lc e R s m args below meth c G nL A ad0 ρ0 md μ0 Q pc l (.inl x :: .inr (.inr (some (98, w))) :: st) ρ μ cs := by
  intro ad H locs ls hl ho hw hS hg ha
  have hw9 := mq_sidx ho.pop.top (by decide)
  have h8 := mq_sl_le w
  have hxin : mq_in x := ho.top
  have hb := mq_sbyt_ok w hw9 x.toNat (by omega)
  have kk := k ((mq_sbyt.getD w []).getD x.toNat 0).toInt hb.1 hb.2 ad H locs ls hl (ho.pop.pop.push (mq_in32 _)) hw hS hg ha
  obtain ⟨hd, rfl⟩ := hd
  simp only [List.map_cons, mq_val, Int32.ofInt_toInt] at kk ⊢
  rw [ha.1 (98, w) (fun z => by cases z)]
  exact va_tb X.1 X.2.1 (Y.2.1.1 w hw9).2.2.2 hS (mq_vpin hxin hx) (by rw [mq_tn hxin]) hd kk
theorem mq_s_lshl (X : mq_cx p s m args meth c cc own nL G) {a b : Int} (hd : decode cc pc = .ok (.lshl, 1) ∧ nxt = pc + 1)
    (k : ∀ r : Int, mq_inl r → mq_W p lc e R s m args below meth c G nL A ad0 ρ0 md μ0 Q nxt l (.inr (.inl r) :: st) ρ μ cs) : mq_W p lc e R s m args below meth c G nL A ad0 ρ0 md μ0 Q pc l (.inl b :: .inr (.inl a) :: st) ρ μ cs := by
  intro ad H locs ls hl ho hw hS hg ha
  have kk := k (Int64.ofInt a <<< ((Int32.ofInt b).toInt64 &&& 63)).toInt (mq_in64 _) ad H locs ls hl (ho.pop.pop.push (mq_in64 _)) hw hS hg ha
  obtain ⟨hd, rfl⟩ := hd
  refine lv_lshl X.1 X.2.1 hd rfl ?_
  simp only [List.map_cons, mq_val, Int64.ofInt_toInt] at kk
  exact kk
theorem mq_s_land (X : mq_cx p s m args meth c cc own nL G) {a b : Int} (hd : decode cc pc = .ok (.land, 1) ∧ nxt = pc + 1)
    (k : ∀ r : Int, mq_inl r → mq_W p lc e R s m args below meth c G nL A ad0 ρ0 md μ0 Q nxt l (.inr (.inl r) :: st) ρ μ cs) : mq_W p lc e R s m args below meth c G nL A ad0 ρ0 md μ0 Q pc l (.inr (.inl b) :: .inr (.inl a) :: st) ρ μ cs := by
  intro ad H locs ls hl ho hw hS hg ha
  have kk := k (Int64.ofInt a &&& Int64.ofInt b).toInt (mq_in64 _) ad H locs ls hl (ho.pop.pop.push (mq_in64 _)) hw hS hg ha
  obtain ⟨hd, rfl⟩ := hd
  refine lv_land X.1 X.2.1 hd ?_
  simp only [List.map_cons, mq_val, Int64.ofInt_toInt] at kk
  exact kk
theorem mq_s_lor (X : mq_cx p s m args meth c cc own nL G) {a b : Int} (hd : decode cc pc = .ok (.lor, 1) ∧ nxt = pc + 1)
    (k : ∀ r : Int, mq_inl r → mq_W p lc e R s m args below meth c G nL A ad0 ρ0 md μ0 Q nxt l (.inr (.inl r) :: st) ρ μ cs) : mq_W p lc e R s m args below meth c G nL A ad0 ρ0 md μ0 Q pc l (.inr (.inl b) :: .inr (.inl a) :: st) ρ μ cs := by
  intro ad H locs ls hl ho hw hS hg ha
  have kk := k (Int64.ofInt a ||| Int64.ofInt b).toInt (mq_in64 _) ad H locs ls hl (ho.pop.pop.push (mq_in64 _)) hw hS hg ha
  obtain ⟨hd, rfl⟩ := hd
  refine lv_lor X.1 X.2.1 hd ?_
  simp only [List.map_cons, mq_val, Int64.ofInt_toInt] at kk
  exact kk
end MQ
