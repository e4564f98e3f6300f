/-! a new table of steps: made and put into the row of tables -/
theorem mq_rtN_all : ∀ f, f < 94 → ∀ k, k < 60 → (match mq_rt f k with
  | (g, 0) => !Nat.beq g 1
  | (g, 1) => !Nat.beq g 1
  | (_, 5) => Nat.beq f 20
  | (_, 8) => Nat.beq f 31
  | _ => true) = true := by decide +kernel
theorem mq_rt31 : ∀ k, k < 60 → mq_rt 31 k = (1, 8) := by decide +kernel
theorem mq_rt_far {f k : Nat} (h : 94 ≤ f ∨ 60 ≤ k) : mq_rt f k = (0, 9) := by
  unfold mq_rt
  rcases h with h | h
  · have e : Nat.ble f 93 = false := by
      cases hb : Nat.ble f 93 with
      | false => rfl
      | true => have := Nat.le_of_ble_eq_true hb; omega
    cases Nat.ble k 59 <;> simp [e]
  · have e : Nat.ble k 59 = false := by
      cases hb : Nat.ble k 59 with
      | false => rfl
      | true => have := Nat.le_of_ble_eq_true hb; omega
    simp [e]
/-- what lies in references never is a table, but in the row of tables -/
theorem mq_rg_n1 {ρ : mq_R} {j j' : mq_J} {k : Nat} (hr : mq_rok ρ) (hj : j.1 ≠ 31) (h : mq_rg ρ j k = some j') : j'.1 ≠ 1 := by
  obtain ⟨nw, sp, tl, tx, al⟩ := ρ
  obtain ⟨f, i⟩ := j
  obtain ⟨-, -, -, h4⟩ := hr
  simp only at hj h4
  by_cases hfar : 94 ≤ f ∨ 60 ≤ k
  · simp only [mq_rg, mq_rt_far hfar] at h
    cases h
  · have ha := mq_rtN_all f (by omega) k (by omega)
    simp only [mq_rg] at h
    generalize mq_rt f k = rt at h ha
    obtain ⟨g, how⟩ := rt
    match how, h, ha with
    | 0, h, ha => cases h; intro e; simp only at e; rw [e] at ha; cases ha
    | 1, h, ha => cases h; intro e; simp only at e; rw [e] at ha; cases ha
    | 2, h, _ => cases hb : Nat.beq i 0 <;> simp [hb] at h; rw [← h]; exact (by decide : (2 : Nat) ≠ 1)
    | 3, h, _ => cases hb : Nat.beq i 0 <;> simp [hb] at h; rw [← h]; exact (by decide : (2 : Nat) ≠ 1)
    | 4, h, _ => cases hb : Nat.beq i 0 <;> simp [hb] at h; rw [← h]; exact (by decide : (2 : Nat) ≠ 1)
    | 5, h, _ =>
      cases hb : Nat.beq i 0 <;> simp [hb] at h
      rw [← h]
      simp only
      rcases h4 with q | q <;> rw [q] <;> decide
    | 6, h, _ => cases h; exact (by decide : (2 : Nat) ≠ 1)
    | 7, h, _ => cases h; exact (by decide : (17 : Nat) ≠ 1)
    | 8, h, ha => exact absurd (Nat.eq_of_beq_eq_true ha) hj
    | how + 9, h, _ => cases h
theorem mq_rg_alS {ρ : mq_R} {x : Nat} {j : mq_J} {k : Nat} (hj : j.1 ≠ 31) : mq_rg (mq_alS ρ x) j k = mq_rg ρ j k := by
  obtain ⟨nw, sp, tl, tx, al⟩ := ρ
  obtain ⟨f, i⟩ := j
  simp only at hj
  simp only [mq_alS, mq_rg]
  by_cases hfar : 94 ≤ f ∨ 60 ≤ k
  · rw [mq_rt_far hfar]
  · have ha := mq_rtN_all f (by omega) k (by omega)
    generalize mq_rt f k = rt at ha
    obtain ⟨g, how⟩ := rt
    match how, ha with
    | 0, _ => rfl
    | 1, _ => rfl
    | 2, _ => rfl
    | 3, _ => rfl
    | 4, _ => rfl
    | 5, _ => rfl
    | 6, _ => rfl
    | 7, _ => rfl
    | 8, ha => exact absurd (Nat.eq_of_beq_eq_true ha) hj
    | how + 9, _ => rfl
def mq_adS (ad : mq_J → Nat) (x q : Nat) : mq_J → Nat := fun j => if j = (1, x) then q else ad j
theorem mq_adS_ne {ad : mq_J → Nat} {x q : Nat} {j : mq_J} (h : j ≠ (1, x)) : mq_adS ad x q j = ad j := if_neg h
theorem mq_adS_n1 {ad : mq_J → Nat} {x q : Nat} {j : mq_J} (h : j.1 ≠ 1) : mq_adS ad x q j = ad j := if_neg fun e => h (by rw [e])
theorem mq_ent_new {G : KG} {ad : mq_J → Nat} {ρ : mq_R} {μ : mq_M} {x q : Nat} {j : mq_J} (hr : mq_rok ρ) (h1 : j.1 ≠ 31) (h2 : j ≠ (1, x)) : mq_ent G (mq_adS ad x q) (mq_alS ρ x) (mq_new μ x) j = mq_ent G ad ρ μ j := by
  have e0 : mq_new μ x j = μ j := if_neg h2
  have e1 : ∀ k, (mq_rg (mq_alS ρ x) j k).map (mq_adS ad x q) = (mq_rg ρ j k).map ad := by
    intro k
    rw [mq_rg_alS h1]
    cases hj : mq_rg ρ j k with
    | none => rfl
    | some j' => simp only [Option.map_some]; rw [mq_adS_n1 (mq_rg_n1 hr h1 hj)]
  unfold mq_ent
  split
  · have e : mq_fv (mq_adS ad x q) (mq_alS ρ x) (mq_new μ x) j = mq_fv ad ρ μ j := by funext bs k; unfold mq_fv; rw [e0, e1]
    rw [e]
  · have e : mq_con (mq_adS ad x q) (mq_alS ρ x) (mq_new μ x) j = mq_con ad ρ μ j := by
      funext t
      unfold mq_con
      simp only [e0, e1]
    rw [e]
theorem mq_ids_alS {ρ : mq_R} {x : Nat} {j : mq_J} (hx : x < 24) : j ∈ mq_ids (mq_alS ρ x).2.2.2.2 ↔ j ∈ mq_ids ρ.2.2.2.2 ∨ j = (1, x) := by
  obtain ⟨nw, sp, tl, tx, al⟩ := ρ
  simp only [mq_alS, mq_ids, List.mem_append, List.mem_map, List.mem_filter, List.mem_range]
  constructor
  · rintro (h | ⟨k, ⟨h1, h2⟩, rfl⟩)
    · exact Or.inl (Or.inl h)
    · by_cases hk : k = x
      · subst hk; exact Or.inr rfl
      · rw [if_neg hk] at h2; exact Or.inl (Or.inr ⟨k, ⟨h1, h2⟩, rfl⟩)
  · rintro ((h | ⟨k, ⟨h1, h2⟩, rfl⟩) | rfl)
    · exact Or.inl h
    · exact Or.inr ⟨k, ⟨h1, by simp [h2]⟩, rfl⟩
    · exact Or.inr ⟨x, ⟨hx, by simp⟩, rfl⟩
theorem mq_val_new {ad : mq_J → Nat} {ρ : mq_R} {x q : Nat} (hal : ρ.2.2.2.2 x = false) {v : mq_V} (h : mq_ok ρ v) : mq_val (mq_adS ad x q) v = mq_val ad v := by
  rcases v with v | (v | (_ | j))
  · rfl
  · rfl
  · rfl
  · have hne : j ≠ (1, x) := by
      rintro rfl
      rcases h with h | h
      · exact absurd h.1 (by decide : ¬ 94 ≤ (1 : Nat))
      · rcases mq_ids_inv h with h | h
        · exact absurd h.2 (by rw [show mq_ct 1 = 0 by decide +kernel]; omega)
        · rw [h.2.2] at hal; cases hal
    show Value.ref _ = Value.ref _
    rw [mq_adS_ne hne]
theorem mq_ok_new {ρ : mq_R} {x : Nat} (hx : x < 24) {v : mq_V} (h : mq_ok ρ v) : mq_ok (mq_alS ρ x) v := by
  rcases v with v | (v | (_ | j))
  · exact h
  · exact h
  · exact h
  · exact h.imp id (fun h => (mq_ids_alS hx).mpr (Or.inl h))
theorem mq_app_ne {A : Nat → Prop} {ws : va_W} {q k : Nat} {e : va_E} {z : Nat × va_E} (hD : va_D A (ws ++ [(q, e)])) (hz : ws[k]? = some z) : q ≠ z.1 := by
  intro h
  have hlt : k < ws.length := (List.getElem?_eq_some_iff.mp hz).1
  have := hD.1 k ws.length z (q, e) (by rw [List.getElem?_append_left hlt]; exact hz) (by simp) h.symm
  omega
theorem mq_app_old {D : va_G} {cl : List vw_C} {ws : va_W} {q k : Nat} {e : va_E} {z : Nat × va_E} {H : Heap} (hP : va_P D cl (ws ++ [(q, e)]) H) (hz : ws[k]? = some z) : va_at D cl z H := by
  have hlt : k < ws.length := (List.getElem?_eq_some_iff.mp hz).1
  exact hP k z (by rw [List.getElem?_append_left hlt]; exact hz)
theorem mq_app_new {D : va_G} {cl : List vw_C} {ws : va_W} {q : Nat} {e : va_E} {H : Heap} (hP : va_P D cl (ws ++ [(q, e)]) H) : va_at D cl (q, e) H := hP ws.length (q, e) (by simp)
theorem mq_app_A {A : Nat → Prop} {ws : va_W} {q : Nat} {e : va_E} (hD : va_D A (ws ++ [(q, e)])) : A q := hD.2 ws.length (q, e) (by simp)
theorem mq_dis {A : Nat → Prop} {G : KG} {ad : mq_J → Nat} {ρ : mq_R} {μ : mq_M} (hD : va_D A (mq_ws G ad ρ μ)) {j1 j2 : mq_J} (h1 : j1 ∈ mq_ids ρ.2.2.2.2) (h2 : j2 ∈ mq_ids ρ.2.2.2.2) (e : ad j1 = ad j2) : j1 = j2 := by
  obtain ⟨a1, b1, c1⟩ := mq_place (G := G) (ad := ad) (μ := μ) h1
  obtain ⟨a2, b2, c2⟩ := mq_place (G := G) (ad := ad) (μ := μ) h2
  generalize mq_ws G ad ρ μ = ws at hD c1 c2
  have h9 : a1 = a2 := hD.1 a1 a2 _ _ c1 c2 e
  rw [h9] at b1
  exact Option.some.inj (b1.symm.trans b2)
section MQ
variable {p : Program} {lc : Launch} {e : Env} {R : Room} {s : State} {m : MethodId} {args : Array Value} {below : List Frame} {meth : Method} {c : Code} {Q : State → Prop} {cc : ByteArray} {own : String} {nL : Nat} {G : KG} {A : Nat → Prop} {ad0 : mq_J → Nat} {ρ0 : mq_R} {md : Nat} {μ0 : mq_M}
variable {pc nxt cs : Nat} {l : mq_L} {st : List mq_V} {ρ : mq_R} {μ : mq_M}
theorem mq_aastA {H : Heap} {locs : List Loc} {cells slots : Nat} {ls : Array Slot} {rest : List Value} (hexec : p.tables.exec = Jvm.exec) (hb : c.code = cc) {a v : Addr} {c0 cB : ClassId} {n : Nat} {f : Nat → Option Nat} {aV : vp_A} {i : Int32} {k kcomp : Class} {t : FieldType} (hcell : H[a]? = some (vp_cell c0 (n, .inr (.inr (.inr (.inr f)))))) (hk : s.vm.classes[c0]? = some k) (hkind : k.kind = .array cB (.array t)) (hkc : s.vm.classes[cB]? = some kcomp) (hin : ¬ i < 0 ∧ i.toNatClampNeg < n) (hv : H[v]? = some (vp_cell cB aV)) (hdg : decode cc pc = .ok (.aastore, 1))
    (kk : ∀ H' : Heap, H'[a]? = some ((vp_cell c0 (n, .inr (.inr (.inr (.inr f))))).setSlot i.toNatClampNeg (.ref v)) → H'.size = H.size → (∀ q, q ≠ a → H'[q]? = H[q]?) → W p lc e R s m args below meth c H' (locs ++ [⟨a, i.toNatClampNeg⟩]) cells slots Q (F0 m (pc + 1) ls rest)) : W p lc e R s m args below meth c H locs cells slots Q (F0 m pc ls (.ref v :: .int i :: .ref a :: rest)) := by
  have hcls : (vp_cell cB aV).cls = cB ∧ ∀ q, (vp_cell cB aV).vm ≠ .statics q := by
    obtain ⟨n9, x⟩ := aV
    rcases x with x | x | x | x | x <;> exact ⟨rfl, fun q h => by cases h⟩
  refine W.aast hexec hb hcell (fun q h => by cases h) (fun h => by cases h) hk hkind rfl hkc ⟨hin.1, by show _ < (arrV _ _ _).slots.size; rw [arrV_size]; exact hin.2⟩ hv hcls.2 (by rw [hcls.1]; exact hkc) (by rw [hcls.1]; exact va_asg _ _) rfl rfl hdg kk
theorem mq_s_newt (X : mq_cx p s m args meth c cc own nL G) (Y : mq_cy A ad0 s) {x : Int} (hm : Nat.testBit md 1 = true) (hx : 0 ≤ x ∧ x < 24) (hal : ρ.2.2.2.2 x.toNat = false) (hd1 : decode cc pc = .ok (.newarray .byte, 2)) (hd2 : decode cc (pc + 2) = .ok (.aastore, 1) ∧ nxt = pc + 2 + 1) (hc1 : 16 * cs + 16 ≤ R.cells) (hc2 : 6416 * cs + 6416 ≤ R.slots)
    (k9 : mq_W p lc e R s m args below meth c G nL A ad0 ρ0 md μ0 Q nxt l st (mq_alS ρ x.toNat) (mq_new μ x.toNat) (cs + 1)) : mq_W p lc e R s m args below meth c G nL A ad0 ρ0 md μ0 Q pc l (.inl 6416 :: .inl x :: .inr (.inr (some (31, 0))) :: st) ρ μ cs := by
  intro ad H locs ls hl ho hw hS hg ha
  obtain ⟨hP, hD, hbk, hrk⟩ := hw
  have hxn : x.toNat < 24 := by omega
  have hK := X.2.2.2.2.2.1
  have hin31 : (31, 0) ∈ mq_ids ρ.2.2.2.2 := mq_not99 ho.pop.pop.top (by decide)
  have hxin : mq_in x := ho.pop.top
  show W p lc e R s m args below meth c H locs (16 * cs) (6416 * cs) Q (F0 m pc ls (.int (Int32.ofInt 6416) :: .int (Int32.ofInt x) :: .ref (ad (31, 0)) :: st.map (mq_val ad)))
  refine wn_newa (atype := .byte) (ty := .byte) (n := Int32.ofInt 6416) (N' := 6416) (a0 := (6416, .inl (fun _ => Int32.ofInt 0))) X.1 X.2.1 (X.2.2.2.2.1 _ kwB) rfl hK.1 1 rfl hP hD hS Y.1 (fun _ => rfl) (by decide) (by decide) (by decide) (by omega) hc2 hd1 (fun q H1 hP1 hD1 hS1 => ?_)
  -- the row of tables
  obtain ⟨q0, hq0, hq1⟩ := mq_place (G := G) (ad := ad) (μ := μ) hin31
  have hf31 : ∃ bs, mq_fm 31 = (true, 6, 24, bs) := ⟨_, rfl⟩
  obtain ⟨bs31, hf31⟩ := hf31
  have hq2 : va_at G.1 vwCl (ad (31, 0), mq_ent G ad ρ μ (31, 0)) H1 := mq_app_old hP1 hq1
  rw [mq_ent_arr (j := (31, 0)) hf31] at hq2
  have hq2 : H1[ad (31, 0)]? = some (vp_cell (G.2 6) (24, .inr (.inr (.inr (.inr (fun k => (mq_rg ρ (31, 0) k).map ad)))))) := hq2
  have hcellV : H1[q]? = some (vp_cell (G.2 1) (6416, .inl (fun _ => Int32.ofInt 0))) := mq_app_new hP1
  obtain ⟨comp, cA, kA, hcomp, -, hkA, hkindA, hnameA⟩ := arrayOverA_spec hK.2.2.2.1
  have hr6 := (hK.1.2 6 _ rfl).2
  have hr1 := (hK.1.2 1 _ rfl).2
  have ecA : cA = G.2 6 := Option.some.inj (hnameA.symm.trans hr6)
  have ecomp : comp = G.2 1 := Option.some.inj (hcomp.symm.trans hr1)
  subst ecA
  subst ecomp
  obtain ⟨kB, hkB, -⟩ := Vm.findClass_spec hcomp
  obtain ⟨hd2, rfl⟩ := hd2
  have hin2 := mq_vpin (n := 24) hxin hx
  have hlt : (Int32.ofInt x).toNatClampNeg < 24 := Nat.not_le.mp fun q => hin2 (Or.inr q)
  have h0 : ¬ Int32.ofInt x < 0 := fun q => hin2 (Or.inl q)
  refine mq_aastA (c0 := G.2 6) (cB := G.2 1) (f := fun k => (mq_rg ρ (31, 0) k).map ad) (ls := ls) X.1 X.2.1 hq2 hkA hkindA hkB ⟨h0, hlt⟩ hcellV hd2 fun H2 e2 z2 o2 => ?_
  have etn : (Int32.ofInt x).toNatClampNeg = x.toNat := mq_tn hxin
  -- the new world
  have hold : ∀ j ∈ mq_ids ρ.2.2.2.2, q ≠ ad j := by
    intro j hj e
    obtain ⟨qj, hqj, hqj1⟩ := mq_place (G := G) (ad := ad) (μ := μ) hj
    exact mq_app_ne hD1 hqj1 e
  have hinj : ∀ j1 ∈ mq_ids ρ.2.2.2.2, ∀ j2 ∈ mq_ids ρ.2.2.2.2, ad j1 = ad j2 → j1 = j2 := by
    intro j1 h1 j2 h2 e
    exact mq_dis hD h1 h2 e
  have hn1 : ∀ j ∈ mq_ids ρ.2.2.2.2, j ≠ (1, x.toNat) := by
    rintro j hj rfl
    rcases mq_ids_inv hj with h | h
    · exact absurd h.2 (by rw [show mq_ct 1 = 0 by decide +kernel]; omega)
    · rw [h.2.2] at hal; cases hal
  have hadS : ∀ j ∈ mq_ids ρ.2.2.2.2, mq_adS ad x.toNat q j = ad j := fun j hj => mq_adS_ne (hn1 j hj)
  have hadN : mq_adS ad x.toNat q (1, x.toNat) = q := if_pos rfl
  have hwd : mq_wd G A (mq_adS ad x.toNat q) (mq_alS ρ x.toNat) (mq_new μ x.toNat) H2 := by
    refine ⟨?_, ⟨?_, ?_⟩, ?_, ?_⟩
    · intro k z hz
      simp only [mq_ws, List.getElem?_map, Option.map_eq_some_iff] at hz
      obtain ⟨j, hj, rfl⟩ := hz
      rcases (mq_ids_alS hxn).mp (List.mem_of_getElem? hj) with h | rfl
      · rw [hadS j h]
        by_cases h31 : j = (31, 0)
        · subst h31
          rw [mq_ent_arr (j := (31, 0)) hf31]
          show H2[ad (31, 0)]? = some (vp_cell _ _)
          rw [e2]
          show some ((vp_cell (G.2 6) (24, .inr (.inr (.inr (.inr (fun k => (mq_rg ρ (31, 0) k).map ad)))))).setSlot _ _) = some (vp_cell (G.2 6) (24, .inr (.inr (.inr (.inr (fun k => (mq_rg (mq_alS ρ x.toNat) (31, 0) k).map (mq_adS ad x.toNat q)))))))
          rw [vp_cell_q, vp_cell_q, arrV_store, etn]
          congr 2
          funext k
          have e31 : ∀ (ρ' : mq_R) (k : Nat), mq_rg ρ' (31, 0) k = bif Nat.ble k 59 && ρ'.2.2.2.2 k then some (1, k) else none := by
            rintro ⟨nw, sp, tl, tx, al⟩ k
            by_cases hk : k < 60
            · have h8 : mq_rt 31 k = (1, 8) := mq_rt31 k hk
              have hb : Nat.ble k 59 = true := Nat.ble_eq_true_of_le (by omega)
              simp only [mq_rg, h8, hb, Bool.true_and]
            · have hb : Nat.ble k 59 = false := by
                cases hb : Nat.ble k 59 with
                | false => rfl
                | true => have := Nat.le_of_ble_eq_true hb; omega
              simp only [mq_rg, mq_rt_far (Or.inr (Nat.le_of_not_lt hk)), hb, Bool.false_and, cond_false]
          rw [e31]
          by_cases hk : k = x.toNat
          · subst hk
            have hb : Nat.ble x.toNat 59 = true := Nat.ble_eq_true_of_le (by omega)
            have ha9 : (mq_alS ρ x.toNat).2.2.2.2 x.toNat = true := by obtain ⟨nw, sp, tl, tx, al⟩ := ρ; simp [mq_alS]
            simp [updV, hb, ha9, va_rf, hadN]
          · have ha9 : (mq_alS ρ x.toNat).2.2.2.2 k = ρ.2.2.2.2 k := by obtain ⟨nw, sp, tl, tx, al⟩ := ρ; simp [mq_alS, hk]
            rw [ha9, ← e31 ρ k]
            simp only [updV, if_neg hk]
            congr 1
            rw [e31]
            cases (Nat.ble k 59 && ρ.2.2.2.2 k) with
            | false => rfl
            | true => simp only [cond_true, Option.map_some]; rw [mq_adS_ne (fun e => hk (congrArg Prod.snd e))]
        · by_cases hf9 : j.1 = 31
          · exfalso
            rcases mq_ids_inv h with h9 | h9
            · rw [hf9, show mq_ct 31 = 1 by decide +kernel] at h9
              exact h31 (Prod.ext hf9 (by show j.2 = 0; omega))
            · omega
          · rw [mq_ent_new hrk hf9 (hn1 j h)]
            obtain ⟨qj, hqj, hqj1⟩ := mq_place (G := G) (ad := ad) (μ := μ) h
            exact (mq_app_old hP1 hqj1).kept (o2 _ fun e => h31 (hinj j h (31, 0) hin31 e))
      · rw [hadN, mq_ent_arr (j := (1, x.toNat)) (t := 1) (n := 6416) rfl]
        show H2[q]? = some (vp_cell _ _)
        rw [o2 q (hold _ hin31), hcellV]
        show some (vp_cell _ (6416, .inl _)) = some (vp_cell _ (6416, .inl (fun k => Int32.ofInt (mq_new μ x.toNat (1, x.toNat) k))))
        rw [show mq_new μ x.toNat (1, x.toNat) = fun _ => 0 from if_pos rfl]
    · intro i1 i2 z1 z2 h1 h2 e
      simp only [mq_ws, List.getElem?_map, Option.map_eq_some_iff] at h1 h2
      obtain ⟨j1, hj1, rfl⟩ := h1
      obtain ⟨j2, hj2, rfl⟩ := h2
      have ej : j1 = j2 := by
        simp only at e
        rcases (mq_ids_alS hxn).mp (List.mem_of_getElem? hj1) with g1 | rfl <;> rcases (mq_ids_alS hxn).mp (List.mem_of_getElem? hj2) with g2 | rfl
        · rw [hadS _ g1, hadS _ g2] at e; exact hinj _ g1 _ g2 e
        · rw [hadS _ g1, hadN] at e; exact absurd e.symm (hold _ g1)
        · rw [hadS _ g2, hadN] at e; exact absurd e (hold _ g2)
        · rfl
      subst ej
      exact (List.getElem?_inj (List.getElem?_eq_some_iff.mp hj1).1 (mq_nodup_ids _)).mp (hj1.trans hj2.symm)
    · intro k z hz
      simp only [mq_ws, List.getElem?_map, Option.map_eq_some_iff] at hz
      obtain ⟨j, hj, rfl⟩ := hz
      rcases (mq_ids_alS hxn).mp (List.mem_of_getElem? hj) with h | rfl
      · simp only [hadS j h]
        obtain ⟨qj, hqj, hqj1⟩ := mq_place (G := G) (ad := ad) (μ := μ) h
        exact hD.2 qj _ hqj1
      · simp only [hadN]
        exact mq_app_A hD1
    · intro j k
      by_cases hj : j = (1, x.toNat)
      · subst hj
        have e0 : mq_new μ x.toNat (1, x.toNat) = fun _ => 0 := if_pos rfl
        have eb : mq_bd 1 k = (-1, 3) := by
          show (match mq_fm 1 with
            | (true, _, _, bs) => (bs.getD (k % bs.length) (0, 0, 0)).2
            | (false, _, _, bs) => (bs.getD k (0, 0, 0)).2) = _
          rw [show mq_fm 1 = (true, 1, 6416, [(1, -1, 3)]) from rfl]
          simp [Nat.mod_one]
        rw [e0]
        show (mq_bd 1 k).1 ≤ 0 ∧ 0 ≤ (mq_bd 1 k).2
        rw [eb]
        decide
      · rw [show mq_new μ x.toNat j = μ j from if_neg hj]
        exact hbk j k
    · obtain ⟨nw, sp, tl, tx, al⟩ := ρ
      exact hrk
  have hvals : ∀ v, mq_ok ρ v → mq_val (mq_adS ad x.toNat q) v = mq_val ad v := fun v h => mq_val_new hal h
  have hst : st.map (mq_val (mq_adS ad x.toNat q)) = st.map (mq_val ad) := List.map_congr_left fun v hv => hvals v (ho.pop.pop.pop.1 v hv)
  have hlok : mq_lok (mq_adS ad x.toNat q) ls nL l := by
    refine ⟨hl.1, hl.2.1, hl.2.2.1, fun z hz => hl.2.2.2 z ?_⟩
    obtain ⟨i, v, h1, rfl⟩ := (mq_prs_mem l 0 z).mp hz
    refine (mq_prs_mem l 0 _).mpr ⟨i, v, h1, ?_⟩
    rw [hvals v (ho.loc h1)]
  have hoks : mq_oks (mq_alS ρ x.toNat) l st := ⟨fun v hv => mq_ok_new hxn (ho.pop.pop.pop.1 v hv), fun v hv => mq_ok_new hxn (ho.2 v hv)⟩
  have hS2 : va_S A s.heap H2 (locs ++ [⟨ad (31, 0), (Int32.ofInt x).toNatClampNeg⟩]) := hS1.put z2 o2 (hD.2 q0 _ hq1)
  have hag : mq_ag md μ0 (mq_new μ x.toNat) := by
    intro j hj
    have hne : j ≠ (1, x.toNat) := by rintro rfl; rw [hm] at hj; cases hj
    rw [show mq_new μ x.toNat j = μ j from if_neg hne]
    exact hg j hj
  have hadk : mq_adk ad0 ρ0 (mq_adS ad x.toNat q) (mq_alS ρ x.toNat) := by
    refine ⟨fun j hj => ?_, fun k hk => ?_⟩
    · have hne : j ≠ (1, x.toNat) := by
        rintro rfl
        have := ha.2 _ (hj rfl)
        rw [hal] at this
        cases this
      rw [mq_adS_ne hne]
      exact ha.1 j hj
    · have := ha.2 k hk
      obtain ⟨nw, sp, tl, tx, al⟩ := ρ
      simp only [mq_alS]
      split
      · rfl
      · exact this
  have kk := k9 (mq_adS ad x.toNat q) H2 _ ls hlok hoks hwd hS2 hag hadk
  rw [hst] at kk
  exact W.widen (by omega) (by omega) kk
end MQ
