/-! a row of rows that is kept in the world (draft: beside wn_newA of the prelude) -/
section OWN
variable {p : Program} {l : Launch} {e : Env} {R : Room} {s : State} {m : MethodId} {args : Array Value} {below : List Frame} {meth : Method} {c : Code} {H : Heap} {locs : List Loc} {cells slots : Nat} {Q : State → Prop} {cc : ByteArray} {pc : Nat} {ls : Array Slot} {rest : List Value} {A : Nat → Prop} {ws : va_W} {H0 : Heap}
theorem wn_newAq (hexec : p.tables.exec = Jvm.exec) (hb : c.code = cc) {own : String} {index : Nat} (hown : s.vm.findClass own = some m.cls) (hclink : (Cond.classLink own index "[B").before args s = true) (hover : (Cond.arrayOver (.array .byte)).before #[] s = true) {D : va_G} {cl : List vw_C} {c0 : ClassId} (hname : va_RA s c0 (.array .byte)) (hP : va_P D cl ws H) (hD : va_D A ws) (hS : va_S A H0 H locs) (hA : ∀ q, H0.size ≤ q → A q)
    {n : Int32} {N' : Nat} (hn : ¬ n < 0) (hN : n.toNatClampNeg = N') (hbytes : N' * 4 ≤ 536870912) (hcells : cells + 1 ≤ R.cells) (hslots : slots + N' ≤ R.slots) (hdg : decode cc pc = .ok (.anewarray index, 3))
    (kk : ∀ (q : Nat) (H1 : Heap), va_P D cl (ws ++ [(q, .inl (c0, N', .inr (.inr (.inr (.inr (fun _ => none))))))]) H1 → va_D A (ws ++ [(q, .inl (c0, N', .inr (.inr (.inr (.inr (fun _ => none))))))]) → va_S A H0 H1 locs → W p l e R s m args below meth c H1 locs (cells + 1) (slots + N') Q (F0 m (pc + 3) ls (.ref q :: rest))) : W p l e R s m args below meth c H locs cells slots Q (F0 m pc ls (.int n :: rest)) := by
  subst hN
  refine W.anewA (t := .byte) hexec hb hown hclink (over_moved (Vm.Alike.refl s.vm) hover) rfl hdg rfl hn hbytes hcells hslots fun cA kA comp f1 f2 f3 f4 => ?_
  have ecA : cA = c0 := Option.some.inj (f1.symm.trans hname)
  subst ecA
  generalize hH1 : H.push ({ cls := cA, slots := Array.replicate n.toNatClampNeg .null, vm := .none } : Cell) = H1
  have z1 : H1.size = H.size + 1 := by rw [← hH1, Array.size_push]
  have e1 : H1[H.size]? = some (arrV cA n.toNatClampNeg (fun _ => .null)) := by rw [← hH1, Array.getElem?_push_size, ← arrV_new]
  have o1 : ∀ q : Nat, q < H.size → H1[q]? = H[q]? := fun q hq => by rw [← hH1, Array.getElem?_push, if_neg (Nat.ne_of_lt hq)]
  have hk : ∀ (k : Nat) (x : Nat × va_E), ws[k]? = some x → H1[x.1]? = H[x.1]? := fun k x hx => o1 x.1 ((hP k x hx).lt)
  refine kk H.size H1 ((hP.kept hk).app (fun k x hx => ?_)) (hD.push hP rfl (hA _ hS.1)) ⟨Nat.le_trans hS.1 (by omega), fun x h1 h2 => (o1 x (Nat.lt_of_lt_of_le h1 hS.1)).trans (hS.2.1 x h1 h2), hS.2.2⟩
  have hz : k < 1 := (List.getElem?_eq_some_iff.mp hx).1
  have hk0 : k = 0 := by omega
  subst hk0
  cases hx
  show H1[H.size]? = some (vp_cell _ _)
  rw [e1, vp_cell_q]
  rfl
theorem wq_rng {x : Nat × va_E} {wr : va_W} : (List.range wr.length).map (fun i => (wr ++ [x])[i]?) = wr.map some := by
  apply List.ext_getElem?
  intro k
  rw [List.getElem?_map, List.getElem?_map]
  by_cases h : k < wr.length
  · rw [List.getElem?_range h, Option.map_some, List.getElem?_append_left h, List.getElem?_eq_getElem h]
    rfl
  · rw [List.getElem?_eq_none (l := List.range wr.length) (by simpa using h), List.getElem?_eq_none (l := wr) (Nat.le_of_not_lt h)]
    rfl
theorem wq_ndr : ∀ n : Nat, va_nd (List.range n) = true := by
  have h : ∀ l : List Nat, l.Nodup → va_nd l = true := by
    intro l
    induction l with
    | nil => intro _; rfl
    | cons a t ih =>
      intro hn
      obtain ⟨h1, h2⟩ := List.nodup_cons.mp hn
      simp only [va_nd, ih h2, Bool.and_true]
      simp [h1]
  exact fun n => h _ List.nodup_range
/-- a call whose cell is the world's last -/
theorem wq_callvL {G : KG} {mc ms : Nat} {a : Array Value} {st0 : List Value} {wr : va_W} {x : Nat × va_E} {S : Type} {post : S → Prop} {w1 : S → va_W} (hr : va_Run p l e R s m args below meth c H locs cells slots mc ms (F0 m pc ls st0) rest (va_Qv post (fun u t => atQ G (va_A [x] H.size) (w1 u) t) (va_A [x] H.size) a) (va_A [x] H.size)) (hS : va_S A H0 H locs) (hP : va_P G.1 vwCl (wr ++ [x]) H) (hD : va_D A (wr ++ [x])) (hA : ∀ q, H0.size ≤ q → A q)
    (kk : ∀ (u : S) (H1 : Heap) (locs1 : List Loc), post u → va_P G.1 vwCl (wr ++ w1 u) H1 → va_D A (wr ++ w1 u) → va_S A H0 H1 locs1 → W p l e R s m args below meth c H1 locs1 (cells + mc) (slots + ms) Q (F0 m (pc + 3) ls rest)) : W p l e R s m args below meth c H locs cells slots Q (F0 m pc ls st0) :=
  wq_callv (wc := [x]) hr hS hP hD hA [wr.length] (List.range wr.length) (by simp) wq_rng (wq_ndr _) (fun i hi => by
    have h := List.mem_range.mp hi
    simp
    omega) kk
end OWN

abbrev mpreS (G : KG) (av : List Value) (ws : va_W) : Array Value → State → Prop := va_Pc av (fun U => va_P G.1 vwCl ws U.heap ∧ mq_kG G U)
abbrev mpreQ (G : KG) (av : List Value) (sz : Nat) (ws : va_W) : Array Value → State → Prop := va_Pc av (fun U => U.heap.size = sz ∧ va_P G.1 vwCl ws U.heap ∧ mq_kG G U ∧ va_D (fun _ => True) ws)
theorem mpreS_S {G : KG} {s : State} {H : Heap} {As : List Value} {ws wc : va_W} (hKG : mq_kG G s) (hP : va_P G.1 vwCl ws H) (is : List Nat) (hs : is.filterMap (fun i => ws[i]?) = wc) : PreS s H (mpreS G As wc) As :=
  ⟨fun a U g mk q => by obtain ⟨q0, qP, qK⟩ := q; exact ⟨q0, qP, mq_kG_same (u := U) (U := U.calling g mk a) rfl qK⟩, fun U hU hW => ⟨rfl, by rw [hU]; exact hP.sub is hs, mq_kG_warm hW hKG⟩⟩
theorem mpreS_V {G : KG} {s : State} {H : Heap} {As : List Value} {ws wc : va_W} {a ci : Nat} {q : vw_C} {fs : List Value} (hKG : mq_kG G s) (hP : va_P G.1 vwCl ws H) (is : List Nat) (hs : is.filterMap (fun i => ws[i]?) = wc) (hc : vwCl[ci]? = some q) (he : wc[0]? = some (a, .inr (ci, fs))) : PreV s H q.1 a (mpreS G (.ref a :: As) wc) As :=
  ⟨(mpreS_S hKG hP is hs).1, va_recv hKG.1 (hP.sub is hs) hc he, (mpreS_S hKG hP is hs).2⟩
theorem mpreQ_S {G : KG} {s : State} {H : Heap} {As : List Value} {ws wc : va_W} {A : Nat → Prop} (hKG : mq_kG G s) (hP : va_P G.1 vwCl ws H) (hD : va_D A ws) (is : List Nat) (hn : va_nd is = true) (hs : is.map (fun i => ws[i]?) = wc.map some) : PreS s H (mpreQ G As H.size wc) As :=
  ⟨fun a U g mk q => by obtain ⟨q0, q1, qP, qK, qD⟩ := q; exact ⟨q0, q1, qP, mq_kG_same (u := U) (U := U.calling g mk a) rfl qK, qD⟩, fun U hU hW => ⟨rfl, by rw [hU], by rw [hU]; exact hP.sub is (fm_of_map _ is wc hs), mq_kG_warm hW hKG, (hD.sub is hn hs).weaken (fun _ _ _ _ => trivial)⟩⟩
theorem mpreQ_V {G : KG} {s : State} {H : Heap} {As : List Value} {ws wc : va_W} {A : Nat → Prop} {a ci : Nat} {q : vw_C} {fs : List Value} (hKG : mq_kG G s) (hP : va_P G.1 vwCl ws H) (hD : va_D A ws) (is : List Nat) (hn : va_nd is = true) (hs : is.map (fun i => ws[i]?) = wc.map some) (hc : vwCl[ci]? = some q) (he : wc[0]? = some (a, .inr (ci, fs))) : PreV s H q.1 a (mpreQ G (.ref a :: As) H.size wc) As :=
  ⟨(mpreQ_S hKG hP hD is hn hs).1, va_recv hKG.1 (hP.sub is (fm_of_map _ is wc hs)) hc he, (mpreQ_S hKG hP hD is hn hs).2⟩
theorem nk_1 : Cond.fieldLink RX9 59 "SlipCoach$Sheet" "count" "I" ∈ wG := wG_of (inT_1 (List.mem_of_getElem? (i := 82) rfl)) (by decide +kernel)
theorem nk_2 : Cond.fieldLink RX9 24 "SlipCoach$Track" "line" "LSlipCoach$Line;" ∈ wG := wG_of (inT_1 (List.mem_of_getElem? (i := 165) rfl)) (by decide +kernel)
theorem nk_3 : Cond.fieldLink RX9 56 "SlipCoach$Line" "kinds" "LSlipCoach$Sheet;" ∈ wG := wG_of (inT_1 (List.mem_of_getElem? (i := 118) rfl)) (by decide +kernel)
theorem nk_4 : Cond.fieldLink RX9 28 "SlipCoach$Track" "rain" "I" ∈ wG := wG_of (inT_1 (List.mem_of_getElem? (i := 169) rfl)) (by decide +kernel)
theorem nk_5 : Cond.fieldLink RX9 32 "SlipCoach$Line" "length" "I" ∈ wG := wG_of (inT_1 (List.mem_of_getElem? (i := 97) rfl)) (by decide +kernel)
theorem nk_6 : Cond.fieldLink RX9 9 "SlipCoach$Track" "slopes" "[I" ∈ wG := wG_of (inT_1 (List.mem_of_getElem? (i := 161) rfl)) (by decide +kernel)
theorem nk_7 : Cond.fieldLink RX9 37 "SlipCoach$Line" "slopes" "LSlipCoach$Sheet;" ∈ wG := wG_of (inT_1 (List.mem_of_getElem? (i := 105) rfl)) (by decide +kernel)
theorem nk_8 : Cond.code yX9_lastTold cX9_lastTold 5 (some .int) ∈ wG := wG_of (inT_2 (List.mem_of_getElem? (i := 143) rfl)) (by decide +kernel)
theorem nk_9 : Cond.methodLink RX9 40 yX9_lastTold ∈ wG := wG_of (inT_2 (List.mem_of_getElem? (i := 141) rfl)) (by decide +kernel)
theorem nk_10 : Cond.static yX9_lastTold ∈ wG := wG_of (inT_2 (List.mem_of_getElem? (i := 142) rfl)) (by decide +kernel)
theorem nk_11 : Cond.initialized RX9 ∈ wG := wG_of (inT_1 (List.mem_of_getElem? (i := 5) rfl)) (by decide +kernel)
theorem nk_12 : Cond.fieldLink RX9 15 "SlipCoach$Track" "wets" "[I" ∈ wG := wG_of (inT_1 (List.mem_of_getElem? (i := 162) rfl)) (by decide +kernel)
theorem nk_13 : Cond.fieldLink RX9 44 "SlipCoach$Line" "wets" "LSlipCoach$Sheet;" ∈ wG := wG_of (inT_1 (List.mem_of_getElem? (i := 108) rfl)) (by decide +kernel)
theorem nk_14 : Cond.code yX9_wettest cX9_wettest 4 (some .int) ∈ wG := wG_of (inT_2 (List.mem_of_getElem? (i := 150) rfl)) (by decide +kernel)
theorem nk_15 : Cond.methodLink RX9 46 yX9_wettest ∈ wG := wG_of (inT_2 (List.mem_of_getElem? (i := 148) rfl)) (by decide +kernel)
theorem nk_16 : Cond.static yX9_wettest ∈ wG := wG_of (inT_2 (List.mem_of_getElem? (i := 149) rfl)) (by decide +kernel)
theorem nk_17 : Cond.fieldLink RX9 18 "SlipCoach$Track" "limits" "[I" ∈ wG := wG_of (inT_1 (List.mem_of_getElem? (i := 163) rfl)) (by decide +kernel)
theorem nk_18 : Cond.fieldLink RX9 50 "SlipCoach$Line" "limits" "LSlipCoach$Sheet;" ∈ wG := wG_of (inT_1 (List.mem_of_getElem? (i := 111) rfl)) (by decide +kernel)
theorem nk_19 : Cond.code yX9_soak cX9_soak 3 none ∈ wG := wG_of (inT_2 (List.mem_of_getElem? (i := 157) rfl)) (by decide +kernel)
theorem nk_20 : Cond.methodLink RX9 52 yX9_soak ∈ wG := wG_of (inT_2 (List.mem_of_getElem? (i := 154) rfl)) (by decide +kernel)
theorem nk_21 : Cond.instanceMethod yX9_soak ∈ wG := wG_of (inT_2 (List.mem_of_getElem? (i := 155) rfl)) (by decide +kernel)
theorem nk_22 : Cond.selects RX9 yX9_soak yX9_soak ∈ wG := wG_of (inT_2 (List.mem_of_getElem? (i := 156) rfl)) (by decide +kernel)
theorem nk_23 : Cond.methodLink RX6 3 objectInit ∈ wG := wG_of (inT_1 (List.mem_of_getElem? (i := 74) rfl)) (by decide +kernel)
theorem nk_24 : Cond.instanceMethod objectInit ∈ wG := wG_of (inT_1 (List.mem_of_getElem? (i := 27) rfl)) (by decide +kernel)
theorem nk_25 : Cond.code objectInit ⟨#[0xb1]⟩ 1 none ∈ wG := wG_of (inT_1 (List.mem_of_getElem? (i := 28) rfl)) (by decide +kernel)
theorem nk_26 : Cond.fieldLink RX6 9 "SlipCoach$Sheet" "count" "I" ∈ wG := wG_of (inT_1 (List.mem_of_getElem? (i := 78) rfl)) (by decide +kernel)
theorem nk_27 : Cond.fieldLink RX6 15 "SlipCoach$Sheet" "most" "I" ∈ wG := wG_of (inT_1 (List.mem_of_getElem? (i := 75) rfl)) (by decide +kernel)
theorem nk_28 : Cond.fieldLink RX6 18 "SlipCoach$Sheet" "width" "I" ∈ wG := wG_of (inT_1 (List.mem_of_getElem? (i := 76) rfl)) (by decide +kernel)
theorem nk_29 : Cond.arrayClass .int ∈ wG := wG_of (inT_1 (List.mem_of_getElem? (i := 95) rfl)) (by decide +kernel)
theorem nk_30 : Cond.fieldLink RX6 21 "SlipCoach$Sheet" "cells" "[I" ∈ wG := wG_of (inT_1 (List.mem_of_getElem? (i := 77) rfl)) (by decide +kernel)
theorem nk_31 : Cond.methodLink RX3 3 objectInit ∈ wG := wG_of (inT_1 (List.mem_of_getElem? (i := 68) rfl)) (by decide +kernel)
theorem nk_32 : Cond.fieldLink RX3 9 "SlipCoach$Line" "length" "I" ∈ wG := wG_of (inT_1 (List.mem_of_getElem? (i := 96) rfl)) (by decide +kernel)
theorem nk_33 : Cond.fieldLink RX3 15 "SlipCoach$Line" "lines" "I" ∈ wG := wG_of (inT_1 (List.mem_of_getElem? (i := 101) rfl)) (by decide +kernel)
theorem nk_34 : Cond.classLink RX3 18 RX6 ∈ wG := wG_of (inT_1 (List.mem_of_getElem? (i := 69) rfl)) (by decide +kernel)
theorem nk_35 : Cond.instantiable RX6 4 ∈ wG := wG_of (inT_1 (List.mem_of_getElem? (i := 70) rfl)) (by decide +kernel)
theorem nk_36 : Cond.initialized RX6 ∈ wG := wG_of (inT_1 (List.mem_of_getElem? (i := 4) rfl)) (by decide +kernel)
theorem nk_37 : Cond.code yX6_init cX6_init 3 none ∈ wG := wG_of (inT_1 (List.mem_of_getElem? (i := 73) rfl)) (by decide +kernel)
theorem nk_38 : Cond.methodLink RX3 20 yX6_init ∈ wG := wG_of (inT_1 (List.mem_of_getElem? (i := 71) rfl)) (by decide +kernel)
theorem nk_39 : Cond.instanceMethod yX6_init ∈ wG := wG_of (inT_1 (List.mem_of_getElem? (i := 72) rfl)) (by decide +kernel)
theorem nk_40 : Cond.fieldLink RX3 23 "SlipCoach$Line" "slopes" "LSlipCoach$Sheet;" ∈ wG := wG_of (inT_1 (List.mem_of_getElem? (i := 104) rfl)) (by decide +kernel)
theorem nk_41 : Cond.fieldLink RX3 27 "SlipCoach$Line" "wets" "LSlipCoach$Sheet;" ∈ wG := wG_of (inT_1 (List.mem_of_getElem? (i := 107) rfl)) (by decide +kernel)
theorem nk_42 : Cond.fieldLink RX3 30 "SlipCoach$Line" "limits" "LSlipCoach$Sheet;" ∈ wG := wG_of (inT_1 (List.mem_of_getElem? (i := 110) rfl)) (by decide +kernel)
theorem nk_43 : Cond.fieldLink RX3 33 "SlipCoach$Line" "platforms" "LSlipCoach$Sheet;" ∈ wG := wG_of (inT_1 (List.mem_of_getElem? (i := 113) rfl)) (by decide +kernel)
theorem nk_44 : Cond.fieldLink RX3 36 "SlipCoach$Line" "kinds" "LSlipCoach$Sheet;" ∈ wG := wG_of (inT_1 (List.mem_of_getElem? (i := 117) rfl)) (by decide +kernel)
theorem nk_45 : Cond.fieldLink RX3 39 "SlipCoach$Line" "trains" "LSlipCoach$Sheet;" ∈ wG := wG_of (inT_1 (List.mem_of_getElem? (i := 121) rfl)) (by decide +kernel)
theorem nk_46 : Cond.fieldLink RX3 42 "SlipCoach$Line" "coaches" "LSlipCoach$Sheet;" ∈ wG := wG_of (inT_1 (List.mem_of_getElem? (i := 127) rfl)) (by decide +kernel)
theorem nk_47 : Cond.methodLink RX8 3 objectInit ∈ wG := wG_of (inT_2 (List.mem_of_getElem? (i := 122) rfl)) (by decide +kernel)
theorem nk_48 : Cond.arrayClass .long ∈ wG := wG_of (inT_2 (List.mem_of_getElem? (i := 136) rfl)) (by decide +kernel)
theorem nk_49 : Cond.fieldLink RX8 11 "SlipCoach$Slot" "numbers" "[J" ∈ wG := wG_of (inT_2 (List.mem_of_getElem? (i := 123) rfl)) (by decide +kernel)
theorem nk_50 : Cond.fieldLink RX8 15 "SlipCoach$Slot" "width" "I" ∈ wG := wG_of (inT_2 (List.mem_of_getElem? (i := 125) rfl)) (by decide +kernel)
theorem nk_51 : Cond.fieldLink RX8 19 "SlipCoach$Slot" "size" "I" ∈ wG := wG_of (inT_2 (List.mem_of_getElem? (i := 127) rfl)) (by decide +kernel)
theorem nk_52 : Cond.methodLink RX5 3 objectInit ∈ wG := wG_of (inT_1 (List.mem_of_getElem? (i := 34) rfl)) (by decide +kernel)
theorem nk_53 : Cond.arrayClass .byte ∈ wG := wG_of (inT_1 (List.mem_of_getElem? (i := 62) rfl)) (by decide +kernel)
theorem nk_54 : Cond.fieldLink RX5 9 "SlipCoach$Reader" "text" "[B" ∈ wG := wG_of (inT_1 (List.mem_of_getElem? (i := 35) rfl)) (by decide +kernel)
theorem nk_55 : Cond.fieldLink RX5 15 "SlipCoach$Reader" "size" "I" ∈ wG := wG_of (inT_1 (List.mem_of_getElem? (i := 36) rfl)) (by decide +kernel)
theorem nk_56 : Cond.fieldLink RX5 19 "SlipCoach$Reader" "from" "I" ∈ wG := wG_of (inT_1 (List.mem_of_getElem? (i := 37) rfl)) (by decide +kernel)
theorem nk_57 : Cond.fieldLink RX5 22 "SlipCoach$Reader" "behind" "I" ∈ wG := wG_of (inT_1 (List.mem_of_getElem? (i := 38) rfl)) (by decide +kernel)
theorem nk_58 : Cond.fieldLink RX5 25 "SlipCoach$Reader" "sort" "I" ∈ wG := wG_of (inT_1 (List.mem_of_getElem? (i := 39) rfl)) (by decide +kernel)
theorem nk_59 : Cond.fieldLink RX5 28 "SlipCoach$Reader" "value" "I" ∈ wG := wG_of (inT_1 (List.mem_of_getElem? (i := 40) rfl)) (by decide +kernel)
theorem nk_60 : Cond.fieldLink RX5 31 "SlipCoach$Reader" "fault" "I" ∈ wG := wG_of (inT_1 (List.mem_of_getElem? (i := 41) rfl)) (by decide +kernel)
theorem nk_61 : Cond.fieldLink RX5 34 "SlipCoach$Reader" "place" "I" ∈ wG := wG_of (inT_1 (List.mem_of_getElem? (i := 43) rfl)) (by decide +kernel)
theorem nk_62 : Cond.methodLink RX9 3 objectInit ∈ wG := wG_of (inT_1 (List.mem_of_getElem? (i := 160) rfl)) (by decide +kernel)
theorem nk_63 : Cond.fieldLink RX9 21 "SlipCoach$Track" "takes" "[I" ∈ wG := wG_of (inT_1 (List.mem_of_getElem? (i := 164) rfl)) (by decide +kernel)
theorem nk_64 : Cond.methodLink RX1 3 objectInit ∈ wG := wG_of (inT_1 (List.mem_of_getElem? (i := 190) rfl)) (by decide +kernel)
theorem nk_65 : Cond.classLink RX1 9 "[B" ∈ wG := wG_of (inT_1 (List.mem_of_getElem? (i := 191) rfl)) (by decide +kernel)
theorem nk_66 : Cond.fieldLink RX1 11 "SlipCoach$Handlings" "steps" "[[B" ∈ wG := wG_of (inT_1 (List.mem_of_getElem? (i := 194) rfl)) (by decide +kernel)
theorem nk_67 : Cond.arrayClass .boolean ∈ wG := wG_of (inT_1 (List.mem_of_getElem? (i := 184) rfl)) (by decide +kernel)
theorem nk_68 : Cond.fieldLink RX1 17 "SlipCoach$Handlings" "known" "[Z" ∈ wG := wG_of (inT_1 (List.mem_of_getElem? (i := 195) rfl)) (by decide +kernel)
theorem nk_69 : Cond.fieldLink RX1 21 "SlipCoach$Handlings" "sums" "[I" ∈ wG := wG_of (inT_1 (List.mem_of_getElem? (i := 196) rfl)) (by decide +kernel)
theorem nk_70 : Cond.fieldLink RX1 25 "SlipCoach$Handlings" "sum" "I" ∈ wG := wG_of (inT_1 (List.mem_of_getElem? (i := 197) rfl)) (by decide +kernel)
theorem nk_71 : Cond.fieldLink RX1 29 "SlipCoach$Handlings" "ticks" "I" ∈ wG := wG_of (inT_1 (List.mem_of_getElem? (i := 199) rfl)) (by decide +kernel)
theorem nk_72 : Cond.fieldLink RX1 32 "SlipCoach$Handlings" "where" "I" ∈ wG := wG_of (inT_1 (List.mem_of_getElem? (i := 201) rfl)) (by decide +kernel)
theorem nk_73 : Cond.fieldLink RX1 35 "SlipCoach$Handlings" "track" "LSlipCoach$Track;" ∈ wG := wG_of (inT_1 (List.mem_of_getElem? (i := 193) rfl)) (by decide +kernel)
theorem nk_74 : Cond.methodLink RX4 3 objectInit ∈ wG := wG_of (inT_1 (List.mem_of_getElem? (i := 223) rfl)) (by decide +kernel)
theorem nk_75 : Cond.fieldLink RX4 9 "SlipCoach$Reach" "moving" "[I" ∈ wG := wG_of (inT_1 (List.mem_of_getElem? (i := 224) rfl)) (by decide +kernel)
theorem nk_76 : Cond.fieldLink RX4 15 "SlipCoach$Reach" "standing" "[I" ∈ wG := wG_of (inT_1 (List.mem_of_getElem? (i := 225) rfl)) (by decide +kernel)
theorem nk_77 : Cond.fieldLink RX4 18 "SlipCoach$Reach" "farthest" "I" ∈ wG := wG_of (inT_1 (List.mem_of_getElem? (i := 226) rfl)) (by decide +kernel)
theorem nk_78 : Cond.methodLink RX2 3 objectInit ∈ wG := wG_of (inT_1 (List.mem_of_getElem? (i := 239) rfl)) (by decide +kernel)
theorem nk_79 : Cond.fieldLink RX2 9 "SlipCoach$Journey" "fronts" "[I" ∈ wG := wG_of (inT_2 (List.mem_of_getElem? (i := 5) rfl)) (by decide +kernel)
theorem nk_80 : Cond.fieldLink RX2 15 "SlipCoach$Journey" "tails" "[I" ∈ wG := wG_of (inT_2 (List.mem_of_getElem? (i := 6) rfl)) (by decide +kernel)
theorem nk_81 : Cond.fieldLink RX2 18 "SlipCoach$Journey" "lastTick" "[I" ∈ wG := wG_of (inT_2 (List.mem_of_getElem? (i := 7) rfl)) (by decide +kernel)
theorem nk_82 : Cond.fieldLink RX2 21 "SlipCoach$Journey" "letTick" "[I" ∈ wG := wG_of (inT_2 (List.mem_of_getElem? (i := 10) rfl)) (by decide +kernel)
theorem nk_83 : Cond.fieldLink RX2 24 "SlipCoach$Journey" "letYard" "[I" ∈ wG := wG_of (inT_2 (List.mem_of_getElem? (i := 13) rfl)) (by decide +kernel)
theorem nk_84 : Cond.fieldLink RX2 27 "SlipCoach$Journey" "letSpeed" "[I" ∈ wG := wG_of (inT_2 (List.mem_of_getElem? (i := 15) rfl)) (by decide +kernel)
theorem nk_85 : Cond.fieldLink RX2 30 "SlipCoach$Journey" "ways" "[I" ∈ wG := wG_of (inT_2 (List.mem_of_getElem? (i := 17) rfl)) (by decide +kernel)
theorem nk_86 : Cond.fieldLink RX2 33 "SlipCoach$Journey" "wayTicks" "[I" ∈ wG := wG_of (inT_2 (List.mem_of_getElem? (i := 18) rfl)) (by decide +kernel)
theorem nk_87 : Cond.fieldLink RX2 36 "SlipCoach$Journey" "stood" "[Z" ∈ wG := wG_of (inT_2 (List.mem_of_getElem? (i := 19) rfl)) (by decide +kernel)
theorem nk_88 : Cond.fieldLink RX2 40 "SlipCoach$Journey" "well" "[Z" ∈ wG := wG_of (inT_2 (List.mem_of_getElem? (i := 21) rfl)) (by decide +kernel)
theorem nk_89 : Cond.fieldLink RX2 43 "SlipCoach$Journey" "mistakes" "[I" ∈ wG := wG_of (inT_2 (List.mem_of_getElem? (i := 22) rfl)) (by decide +kernel)
theorem nk_90 : Cond.fieldLink RX2 46 "SlipCoach$Journey" "mistakeYards" "I" ∈ wG := wG_of (inT_2 (List.mem_of_getElem? (i := 23) rfl)) (by decide +kernel)
theorem nk_91 : Cond.fieldLink RX2 50 "SlipCoach$Journey" "row" "[I" ∈ wG := wG_of (inT_2 (List.mem_of_getElem? (i := 24) rfl)) (by decide +kernel)
theorem nk_92 : Cond.fieldLink RX2 53 "SlipCoach$Journey" "track" "LSlipCoach$Track;" ∈ wG := wG_of (inT_2 (List.mem_of_getElem? (i := 3) rfl)) (by decide +kernel)
theorem nk_93 : Cond.fieldLink RX2 57 "SlipCoach$Journey" "handlings" "LSlipCoach$Handlings;" ∈ wG := wG_of (inT_2 (List.mem_of_getElem? (i := 4) rfl)) (by decide +kernel)
theorem nk_94 : Cond.code yJ7_fill_53178 cJ7_fill_53178 4 none ∈ wG := wG_of (inT_2 (List.mem_of_getElem? (i := 2) rfl)) (by decide +kernel)
theorem nk_95 : Cond.methodLink RX2 61 yJ7_fill_53178 ∈ wG := wG_of (inT_2 (List.mem_of_getElem? (i := 0) rfl)) (by decide +kernel)
theorem nk_96 : Cond.static yJ7_fill_53178 ∈ wG := wG_of (inT_2 (List.mem_of_getElem? (i := 1) rfl)) (by decide +kernel)
theorem nk_97 : Cond.initialized RJ7 ∈ wG := wG_of (inT_1 (List.mem_of_getElem? (i := 9) rfl)) (by decide +kernel)
theorem nk_98 : Cond.methodLink RX0 3 objectInit ∈ wG := wG_of (inT_2 (List.mem_of_getElem? (i := 61) rfl)) (by decide +kernel)
theorem nk_99 : Cond.fieldLink RX0 9 "SlipCoach$Breach" "starts" "[I" ∈ wG := wG_of (inT_2 (List.mem_of_getElem? (i := 64) rfl)) (by decide +kernel)
theorem nk_100 : Cond.fieldLink RX0 15 "SlipCoach$Breach" "from" "[I" ∈ wG := wG_of (inT_2 (List.mem_of_getElem? (i := 65) rfl)) (by decide +kernel)
theorem nk_101 : Cond.fieldLink RX0 18 "SlipCoach$Breach" "until" "[I" ∈ wG := wG_of (inT_2 (List.mem_of_getElem? (i := 66) rfl)) (by decide +kernel)
theorem nk_102 : Cond.fieldLink RX0 21 "SlipCoach$Breach" "coaches" "[I" ∈ wG := wG_of (inT_2 (List.mem_of_getElem? (i := 67) rfl)) (by decide +kernel)
theorem nk_103 : Cond.fieldLink RX0 24 "SlipCoach$Breach" "coachesAhead" "I" ∈ wG := wG_of (inT_2 (List.mem_of_getElem? (i := 68) rfl)) (by decide +kernel)
theorem nk_104 : Cond.fieldLink RX0 28 "SlipCoach$Breach" "trains" "[I" ∈ wG := wG_of (inT_2 (List.mem_of_getElem? (i := 69) rfl)) (by decide +kernel)
theorem nk_105 : Cond.fieldLink RX0 31 "SlipCoach$Breach" "trainsAhead" "I" ∈ wG := wG_of (inT_2 (List.mem_of_getElem? (i := 70) rfl)) (by decide +kernel)
theorem nk_106 : Cond.fieldLink RX0 34 "SlipCoach$Breach" "tick" "I" ∈ wG := wG_of (inT_2 (List.mem_of_getElem? (i := 71) rfl)) (by decide +kernel)
theorem nk_107 : Cond.fieldLink RX0 37 "SlipCoach$Breach" "behind" "I" ∈ wG := wG_of (inT_2 (List.mem_of_getElem? (i := 73) rfl)) (by decide +kernel)
theorem nk_108 : Cond.fieldLink RX0 40 "SlipCoach$Breach" "reached" "I" ∈ wG := wG_of (inT_2 (List.mem_of_getElem? (i := 75) rfl)) (by decide +kernel)
theorem nk_109 : Cond.fieldLink RX0 43 "SlipCoach$Breach" "track" "LSlipCoach$Track;" ∈ wG := wG_of (inT_2 (List.mem_of_getElem? (i := 62) rfl)) (by decide +kernel)
theorem nk_110 : Cond.fieldLink RX0 47 "SlipCoach$Breach" "journey" "LSlipCoach$Journey;" ∈ wG := wG_of (inT_2 (List.mem_of_getElem? (i := 63) rfl)) (by decide +kernel)
theorem nk_111 : Cond.methodLink RX7 3 objectInit ∈ wG := wG_of (inT_2 (List.mem_of_getElem? (i := 107) rfl)) (by decide +kernel)
theorem nk_112 : Cond.fieldLink RX7 9 "SlipCoach$Shunting" "ats" "[I" ∈ wG := wG_of (inT_2 (List.mem_of_getElem? (i := 108) rfl)) (by decide +kernel)
theorem nk_113 : Cond.fieldLink RX7 15 "SlipCoach$Shunting" "chains" "[I" ∈ wG := wG_of (inT_2 (List.mem_of_getElem? (i := 109) rfl)) (by decide +kernel)
theorem nk_114 : Cond.fieldLink RX7 18 "SlipCoach$Shunting" "many" "I" ∈ wG := wG_of (inT_2 (List.mem_of_getElem? (i := 110) rfl)) (by decide +kernel)
theorem nk_115 : Cond.methodLink RX10 1 objectInit ∈ wG := wG_of (inT_1 (List.mem_of_getElem? (i := 26) rfl)) (by decide +kernel)
theorem nk_116 : Cond.fieldLink RX10 9 "SlipCoach" "tape" "[B" ∈ wG := wG_of (inT_2 (List.mem_of_getElem? (i := 172) rfl)) (by decide +kernel)
theorem nk_117 : Cond.fieldLink RX10 13 "SlipCoach" "taped" "I" ∈ wG := wG_of (inT_2 (List.mem_of_getElem? (i := 173) rfl)) (by decide +kernel)
theorem nk_118 : Cond.classLink RX10 17 RX5 ∈ wG := wG_of (inT_1 (List.mem_of_getElem? (i := 29) rfl)) (by decide +kernel)
theorem nk_119 : Cond.instantiable RX5 8 ∈ wG := wG_of (inT_1 (List.mem_of_getElem? (i := 30) rfl)) (by decide +kernel)
theorem nk_120 : Cond.initialized RX5 ∈ wG := wG_of (inT_1 (List.mem_of_getElem? (i := 2) rfl)) (by decide +kernel)
theorem nk_121 : Cond.code yX5_init cX5_init 1 none ∈ wG := wG_of (inT_1 (List.mem_of_getElem? (i := 33) rfl)) (by decide +kernel)
theorem nk_122 : Cond.instanceMethod yX5_init ∈ wG := wG_of (inT_1 (List.mem_of_getElem? (i := 32) rfl)) (by decide +kernel)
theorem nk_123 : Cond.fieldLink RX10 20 "SlipCoach" "reader" "LSlipCoach$Reader;" ∈ wG := wG_of (inT_2 (List.mem_of_getElem? (i := 174) rfl)) (by decide +kernel)
theorem nk_124 : Cond.classLink RX10 24 RX3 ∈ wG := wG_of (inT_1 (List.mem_of_getElem? (i := 63) rfl)) (by decide +kernel)
theorem nk_125 : Cond.instantiable RX3 9 ∈ wG := wG_of (inT_1 (List.mem_of_getElem? (i := 64) rfl)) (by decide +kernel)
theorem nk_126 : Cond.initialized RX3 ∈ wG := wG_of (inT_1 (List.mem_of_getElem? (i := 3) rfl)) (by decide +kernel)
theorem nk_127 : Cond.code yX3_init cX3_init 1 none ∈ wG := wG_of (inT_1 (List.mem_of_getElem? (i := 67) rfl)) (by decide +kernel)
theorem nk_128 : Cond.instanceMethod yX3_init ∈ wG := wG_of (inT_1 (List.mem_of_getElem? (i := 66) rfl)) (by decide +kernel)
theorem nk_129 : Cond.fieldLink RX10 27 "SlipCoach" "now" "LSlipCoach$Line;" ∈ wG := wG_of (inT_2 (List.mem_of_getElem? (i := 175) rfl)) (by decide +kernel)
theorem nk_130 : Cond.fieldLink RX10 31 "SlipCoach" "spare" "LSlipCoach$Line;" ∈ wG := wG_of (inT_2 (List.mem_of_getElem? (i := 176) rfl)) (by decide +kernel)
theorem nk_131 : Cond.fieldLink RX10 34 "SlipCoach" "images" "[LSlipCoach$Line;" ∈ wG := wG_of (inT_2 (List.mem_of_getElem? (i := 177) rfl)) (by decide +kernel)
theorem nk_132 : Cond.fieldLink RX10 38 "SlipCoach" "imageRain" "[I" ∈ wG := wG_of (inT_2 (List.mem_of_getElem? (i := 178) rfl)) (by decide +kernel)
theorem nk_133 : Cond.fieldLink RX10 42 "SlipCoach" "kept" "[Z" ∈ wG := wG_of (inT_2 (List.mem_of_getElem? (i := 179) rfl)) (by decide +kernel)
theorem nk_134 : Cond.classLink RX10 46 RX8 ∈ wG := wG_of (inT_1 (List.mem_of_getElem? (i := 153) rfl)) (by decide +kernel)
theorem nk_135 : Cond.fieldLink RX10 48 "SlipCoach" "slots" "[LSlipCoach$Slot;" ∈ wG := wG_of (inT_2 (List.mem_of_getElem? (i := 180) rfl)) (by decide +kernel)
theorem nk_136 : Cond.classLink RX10 52 RX9 ∈ wG := wG_of (inT_1 (List.mem_of_getElem? (i := 155) rfl)) (by decide +kernel)
theorem nk_137 : Cond.instantiable RX9 6 ∈ wG := wG_of (inT_1 (List.mem_of_getElem? (i := 156) rfl)) (by decide +kernel)
theorem nk_138 : Cond.code yX9_init cX9_init 1 none ∈ wG := wG_of (inT_1 (List.mem_of_getElem? (i := 159) rfl)) (by decide +kernel)
theorem nk_139 : Cond.instanceMethod yX9_init ∈ wG := wG_of (inT_1 (List.mem_of_getElem? (i := 158) rfl)) (by decide +kernel)
theorem nk_140 : Cond.fieldLink RX10 55 "SlipCoach" "track" "LSlipCoach$Track;" ∈ wG := wG_of (inT_2 (List.mem_of_getElem? (i := 181) rfl)) (by decide +kernel)
theorem nk_141 : Cond.classLink RX10 59 RX1 ∈ wG := wG_of (inT_1 (List.mem_of_getElem? (i := 185) rfl)) (by decide +kernel)
theorem nk_142 : Cond.instantiable RX1 7 ∈ wG := wG_of (inT_1 (List.mem_of_getElem? (i := 186) rfl)) (by decide +kernel)
theorem nk_143 : Cond.initialized RX1 ∈ wG := wG_of (inT_1 (List.mem_of_getElem? (i := 6) rfl)) (by decide +kernel)
theorem nk_144 : Cond.code yX1_init cX1_init 2 none ∈ wG := wG_of (inT_1 (List.mem_of_getElem? (i := 189) rfl)) (by decide +kernel)
theorem nk_145 : Cond.methodLink RX10 61 yX1_init ∈ wG := wG_of (inT_1 (List.mem_of_getElem? (i := 187) rfl)) (by decide +kernel)
theorem nk_146 : Cond.instanceMethod yX1_init ∈ wG := wG_of (inT_1 (List.mem_of_getElem? (i := 188) rfl)) (by decide +kernel)
theorem nk_147 : Cond.fieldLink RX10 64 "SlipCoach" "handlings" "LSlipCoach$Handlings;" ∈ wG := wG_of (inT_2 (List.mem_of_getElem? (i := 182) rfl)) (by decide +kernel)
theorem nk_148 : Cond.classLink RX10 68 RX4 ∈ wG := wG_of (inT_1 (List.mem_of_getElem? (i := 218) rfl)) (by decide +kernel)
theorem nk_149 : Cond.instantiable RX4 3 ∈ wG := wG_of (inT_1 (List.mem_of_getElem? (i := 219) rfl)) (by decide +kernel)
theorem nk_150 : Cond.initialized RX4 ∈ wG := wG_of (inT_1 (List.mem_of_getElem? (i := 7) rfl)) (by decide +kernel)
theorem nk_151 : Cond.code yX4_init cX4_init 1 none ∈ wG := wG_of (inT_1 (List.mem_of_getElem? (i := 222) rfl)) (by decide +kernel)
theorem nk_152 : Cond.instanceMethod yX4_init ∈ wG := wG_of (inT_1 (List.mem_of_getElem? (i := 221) rfl)) (by decide +kernel)
theorem nk_153 : Cond.fieldLink RX10 71 "SlipCoach" "reach" "LSlipCoach$Reach;" ∈ wG := wG_of (inT_2 (List.mem_of_getElem? (i := 183) rfl)) (by decide +kernel)
theorem nk_154 : Cond.classLink RX10 75 RX2 ∈ wG := wG_of (inT_1 (List.mem_of_getElem? (i := 234) rfl)) (by decide +kernel)
theorem nk_155 : Cond.instantiable RX2 15 ∈ wG := wG_of (inT_1 (List.mem_of_getElem? (i := 235) rfl)) (by decide +kernel)
theorem nk_156 : Cond.initialized RX2 ∈ wG := wG_of (inT_1 (List.mem_of_getElem? (i := 8) rfl)) (by decide +kernel)
theorem nk_157 : Cond.code yX2_init cX2_init 3 none ∈ wG := wG_of (inT_1 (List.mem_of_getElem? (i := 238) rfl)) (by decide +kernel)
theorem nk_158 : Cond.methodLink RX10 77 yX2_init ∈ wG := wG_of (inT_1 (List.mem_of_getElem? (i := 236) rfl)) (by decide +kernel)
theorem nk_159 : Cond.instanceMethod yX2_init ∈ wG := wG_of (inT_1 (List.mem_of_getElem? (i := 237) rfl)) (by decide +kernel)
theorem nk_160 : Cond.fieldLink RX10 80 "SlipCoach" "journey" "LSlipCoach$Journey;" ∈ wG := wG_of (inT_2 (List.mem_of_getElem? (i := 184) rfl)) (by decide +kernel)
theorem nk_161 : Cond.classLink RX10 84 RX0 ∈ wG := wG_of (inT_2 (List.mem_of_getElem? (i := 56) rfl)) (by decide +kernel)
theorem nk_162 : Cond.instantiable RX0 12 ∈ wG := wG_of (inT_2 (List.mem_of_getElem? (i := 57) rfl)) (by decide +kernel)
theorem nk_163 : Cond.initialized RX0 ∈ wG := wG_of (inT_1 (List.mem_of_getElem? (i := 10) rfl)) (by decide +kernel)
theorem nk_164 : Cond.code yX0_init cX0_init 3 none ∈ wG := wG_of (inT_2 (List.mem_of_getElem? (i := 60) rfl)) (by decide +kernel)
theorem nk_165 : Cond.methodLink RX10 86 yX0_init ∈ wG := wG_of (inT_2 (List.mem_of_getElem? (i := 58) rfl)) (by decide +kernel)
theorem nk_166 : Cond.instanceMethod yX0_init ∈ wG := wG_of (inT_2 (List.mem_of_getElem? (i := 59) rfl)) (by decide +kernel)
theorem nk_167 : Cond.fieldLink RX10 89 "SlipCoach" "breach" "LSlipCoach$Breach;" ∈ wG := wG_of (inT_2 (List.mem_of_getElem? (i := 185) rfl)) (by decide +kernel)
theorem nk_168 : Cond.classLink RX10 93 RX7 ∈ wG := wG_of (inT_2 (List.mem_of_getElem? (i := 102) rfl)) (by decide +kernel)
theorem nk_169 : Cond.instantiable RX7 3 ∈ wG := wG_of (inT_2 (List.mem_of_getElem? (i := 103) rfl)) (by decide +kernel)
theorem nk_170 : Cond.initialized RX7 ∈ wG := wG_of (inT_1 (List.mem_of_getElem? (i := 11) rfl)) (by decide +kernel)
theorem nk_171 : Cond.code yX7_init cX7_init 1 none ∈ wG := wG_of (inT_2 (List.mem_of_getElem? (i := 106) rfl)) (by decide +kernel)
theorem nk_172 : Cond.instanceMethod yX7_init ∈ wG := wG_of (inT_2 (List.mem_of_getElem? (i := 105) rfl)) (by decide +kernel)
theorem nk_173 : Cond.fieldLink RX10 96 "SlipCoach" "shunting" "LSlipCoach$Shunting;" ∈ wG := wG_of (inT_2 (List.mem_of_getElem? (i := 186) rfl)) (by decide +kernel)
theorem nk_174 : Cond.instantiable RX8 3 ∈ wG := wG_of (inT_2 (List.mem_of_getElem? (i := 118) rfl)) (by decide +kernel)
theorem nk_175 : Cond.initialized RX8 ∈ wG := wG_of (inT_1 (List.mem_of_getElem? (i := 12) rfl)) (by decide +kernel)
theorem nk_176 : Cond.code yX8_init cX8_init 1 none ∈ wG := wG_of (inT_2 (List.mem_of_getElem? (i := 121) rfl)) (by decide +kernel)
theorem nk_177 : Cond.instanceMethod yX8_init ∈ wG := wG_of (inT_2 (List.mem_of_getElem? (i := 120) rfl)) (by decide +kernel)
theorem nk_178 : Cond.code yX9_lay cX9_lay 4 none ∈ wG := wG_of (inT_2 (List.mem_of_getElem? (i := 140) rfl)) (by decide +kernel)
theorem nk_179 : Cond.methodLink RX10 101 yX9_lay ∈ wG := wG_of (inT_2 (List.mem_of_getElem? (i := 137) rfl)) (by decide +kernel)
theorem nk_180 : Cond.instanceMethod yX9_lay ∈ wG := wG_of (inT_2 (List.mem_of_getElem? (i := 138) rfl)) (by decide +kernel)
theorem nk_181 : Cond.selects RX9 yX9_lay yX9_lay ∈ wG := wG_of (inT_2 (List.mem_of_getElem? (i := 139) rfl)) (by decide +kernel)
theorem nk_182 : Cond.methodLink RX11 1 objectInit ∈ wG := wG_of (inT_6 (List.mem_of_getElem? (i := 78) rfl)) (by decide +kernel)
theorem nk_183 : Cond.fieldLink RX11 7 "SlipCoachModel" "width" "[I" ∈ wG := wG_of (inT_6 (List.mem_of_getElem? (i := 81) rfl)) (by decide +kernel)
theorem nk_184 : Cond.fieldLink RX11 13 "SlipCoachModel" "many" "[I" ∈ wG := wG_of (inT_6 (List.mem_of_getElem? (i := 82) rfl)) (by decide +kernel)
theorem nk_185 : Cond.fieldLink RX11 16 "SlipCoachModel" "cells" "[J" ∈ wG := wG_of (inT_6 (List.mem_of_getElem? (i := 83) rfl)) (by decide +kernel)
theorem nk_186 : Cond.fieldLink RX11 20 "SlipCoachModel" "moved" "[J" ∈ wG := wG_of (inT_6 (List.mem_of_getElem? (i := 84) rfl)) (by decide +kernel)
theorem nk_187 : Cond.fieldLink RX11 23 "SlipCoachModel" "tape" "[B" ∈ wG := wG_of (inT_6 (List.mem_of_getElem? (i := 85) rfl)) (by decide +kernel)
theorem nk_188 : Cond.fieldLink RX11 27 "SlipCoachModel" "faultPlace" "I" ∈ wG := wG_of (inT_6 (List.mem_of_getElem? (i := 95) rfl)) (by decide +kernel)
theorem nk_189 : Cond.fieldLink RX11 31 "SlipCoachModel" "lines" "[I" ∈ wG := wG_of (inT_6 (List.mem_of_getElem? (i := 96) rfl)) (by decide +kernel)
theorem nk_190 : Cond.fieldLink RX11 34 "SlipCoachModel" "length" "[I" ∈ wG := wG_of (inT_6 (List.mem_of_getElem? (i := 97) rfl)) (by decide +kernel)
theorem nk_191 : Cond.fieldLink RX11 37 "SlipCoachModel" "rain" "[I" ∈ wG := wG_of (inT_6 (List.mem_of_getElem? (i := 98) rfl)) (by decide +kernel)
theorem nk_192 : Cond.fieldLink RX11 40 "SlipCoachModel" "has" "[I" ∈ wG := wG_of (inT_6 (List.mem_of_getElem? (i := 99) rfl)) (by decide +kernel)
theorem nk_193 : Cond.fieldLink RX11 43 "SlipCoachModel" "slope" "[I" ∈ wG := wG_of (inT_6 (List.mem_of_getElem? (i := 100) rfl)) (by decide +kernel)
theorem nk_194 : Cond.fieldLink RX11 46 "SlipCoachModel" "wet" "[I" ∈ wG := wG_of (inT_6 (List.mem_of_getElem? (i := 101) rfl)) (by decide +kernel)
theorem nk_195 : Cond.fieldLink RX11 49 "SlipCoachModel" "limit" "[I" ∈ wG := wG_of (inT_6 (List.mem_of_getElem? (i := 102) rfl)) (by decide +kernel)
theorem nk_196 : Cond.fieldLink RX11 52 "SlipCoachModel" "platform" "[I" ∈ wG := wG_of (inT_6 (List.mem_of_getElem? (i := 103) rfl)) (by decide +kernel)
theorem nk_197 : Cond.fieldLink RX11 55 "SlipCoachModel" "kind" "[I" ∈ wG := wG_of (inT_6 (List.mem_of_getElem? (i := 104) rfl)) (by decide +kernel)
theorem nk_198 : Cond.fieldLink RX11 58 "SlipCoachModel" "train" "[I" ∈ wG := wG_of (inT_6 (List.mem_of_getElem? (i := 105) rfl)) (by decide +kernel)
theorem nk_199 : Cond.fieldLink RX11 61 "SlipCoachModel" "coach" "[I" ∈ wG := wG_of (inT_6 (List.mem_of_getElem? (i := 106) rfl)) (by decide +kernel)
theorem nk_200 : Cond.fieldLink RX11 64 "SlipCoachModel" "isKept" "[Z" ∈ wG := wG_of (inT_6 (List.mem_of_getElem? (i := 107) rfl)) (by decide +kernel)
theorem nk_201 : Cond.constant RX11 68 (109072) ∈ wG := wG_of (inT_6 (List.mem_of_getElem? (i := 79) rfl)) (by decide +kernel)
theorem nk_202 : Cond.fieldLink RX11 69 "SlipCoachModel" "sum" "[I" ∈ wG := wG_of (inT_6 (List.mem_of_getElem? (i := 108) rfl)) (by decide +kernel)
theorem nk_203 : Cond.fieldLink RX11 72 "SlipCoachModel" "drop" "I" ∈ wG := wG_of (inT_6 (List.mem_of_getElem? (i := 110) rfl)) (by decide +kernel)
theorem nk_204 : Cond.fieldLink RX11 75 "SlipCoachModel" "comes" "[I" ∈ wG := wG_of (inT_6 (List.mem_of_getElem? (i := 111) rfl)) (by decide +kernel)
theorem nk_205 : Cond.fieldLink RX11 78 "SlipCoachModel" "isStood" "[Z" ∈ wG := wG_of (inT_6 (List.mem_of_getElem? (i := 112) rfl)) (by decide +kernel)
theorem nk_206 : Cond.fieldLink RX11 81 "SlipCoachModel" "front" "[I" ∈ wG := wG_of (inT_6 (List.mem_of_getElem? (i := 116) rfl)) (by decide +kernel)
theorem nk_207 : Cond.fieldLink RX11 84 "SlipCoachModel" "has0" "[I" ∈ wG := wG_of (inT_6 (List.mem_of_getElem? (i := 117) rfl)) (by decide +kernel)
theorem nk_208 : Cond.fieldLink RX11 87 "SlipCoachModel" "isOn" "[Z" ∈ wG := wG_of (inT_6 (List.mem_of_getElem? (i := 118) rfl)) (by decide +kernel)
theorem nk_209 : Cond.fieldLink RX11 90 "SlipCoachModel" "letTick" "[I" ∈ wG := wG_of (inT_6 (List.mem_of_getElem? (i := 119) rfl)) (by decide +kernel)
theorem nk_210 : Cond.fieldLink RX11 93 "SlipCoachModel" "letYard" "[I" ∈ wG := wG_of (inT_6 (List.mem_of_getElem? (i := 120) rfl)) (by decide +kernel)
theorem nk_211 : Cond.fieldLink RX11 96 "SlipCoachModel" "letSpeed" "[I" ∈ wG := wG_of (inT_6 (List.mem_of_getElem? (i := 121) rfl)) (by decide +kernel)
theorem nk_212 : Cond.fieldLink RX11 99 "SlipCoachModel" "where" "[I" ∈ wG := wG_of (inT_6 (List.mem_of_getElem? (i := 122) rfl)) (by decide +kernel)
theorem nk_213 : Cond.fieldLink RX11 102 "SlipCoachModel" "pace" "[I" ∈ wG := wG_of (inT_6 (List.mem_of_getElem? (i := 123) rfl)) (by decide +kernel)
theorem nk_214 : Cond.fieldLink RX11 105 "SlipCoachModel" "stood" "[I" ∈ wG := wG_of (inT_6 (List.mem_of_getElem? (i := 124) rfl)) (by decide +kernel)
theorem nk_215 : Cond.fieldLink RX11 108 "SlipCoachModel" "isOff" "[Z" ∈ wG := wG_of (inT_6 (List.mem_of_getElem? (i := 125) rfl)) (by decide +kernel)
theorem nk_216 : Cond.fieldLink RX11 111 "SlipCoachModel" "off" "[I" ∈ wG := wG_of (inT_6 (List.mem_of_getElem? (i := 126) rfl)) (by decide +kernel)
theorem nk_217 : Cond.fieldLink RX11 114 "SlipCoachModel" "wrong" "[I" ∈ wG := wG_of (inT_6 (List.mem_of_getElem? (i := 127) rfl)) (by decide +kernel)
theorem nk_218 : Cond.fieldLink RX11 117 "SlipCoachModel" "endTick" "[I" ∈ wG := wG_of (inT_6 (List.mem_of_getElem? (i := 132) rfl)) (by decide +kernel)
theorem nk_219 : Cond.classLink RL 7 RX10 ∈ wG := wG_of (inT_1 (List.mem_of_getElem? (i := 21) rfl)) (by decide +kernel)
theorem nk_220 : Cond.instantiable RX10 15 ∈ wG := wG_of (inT_1 (List.mem_of_getElem? (i := 22) rfl)) (by decide +kernel)
theorem nk_221 : Cond.initialized RX10 ∈ wG := wG_of (inT_1 (List.mem_of_getElem? (i := 1) rfl)) (by decide +kernel)
theorem nk_222 : Cond.code yX10_init cX10_init 2 none ∈ wG := wG_of (inT_1 (List.mem_of_getElem? (i := 25) rfl)) (by decide +kernel)
theorem nk_223 : Cond.methodLink RL 9 yX10_init ∈ wG := wG_of (inT_1 (List.mem_of_getElem? (i := 23) rfl)) (by decide +kernel)
theorem nk_224 : Cond.instanceMethod yX10_init ∈ wG := wG_of (inT_1 (List.mem_of_getElem? (i := 24) rfl)) (by decide +kernel)
theorem nk_225 : Cond.classLink RL 10 RX11 ∈ wG := wG_of (inT_6 (List.mem_of_getElem? (i := 73) rfl)) (by decide +kernel)
theorem nk_226 : Cond.instantiable RX11 58 ∈ wG := wG_of (inT_6 (List.mem_of_getElem? (i := 74) rfl)) (by decide +kernel)
theorem nk_227 : Cond.initialized RX11 ∈ wG := wG_of (inT_1 (List.mem_of_getElem? (i := 14) rfl)) (by decide +kernel)
theorem nk_228 : Cond.code yX11_init cX11_init 2 none ∈ wG := wG_of (inT_6 (List.mem_of_getElem? (i := 77) rfl)) (by decide +kernel)
theorem nk_229 : Cond.methodLink RL 12 yX11_init ∈ wG := wG_of (inT_6 (List.mem_of_getElem? (i := 75) rfl)) (by decide +kernel)
theorem nk_230 : Cond.instanceMethod yX11_init ∈ wG := wG_of (inT_6 (List.mem_of_getElem? (i := 76) rfl)) (by decide +kernel)
theorem dJ7_fill_53178_0 : decode cJ7_fill_53178 0 = .ok (.iconst 0, 1) := by decide +kernel
theorem dJ7_fill_53178_1 : decode cJ7_fill_53178 1 = .ok (.istore_n 2, 1) := by decide +kernel
theorem dJ7_fill_53178_2 : decode cJ7_fill_53178 2 = .ok (.aload_n 0, 1) := by decide +kernel
theorem dJ7_fill_53178_3 : decode cJ7_fill_53178 3 = .ok (.arraylength, 1) := by decide +kernel
theorem dJ7_fill_53178_4 : decode cJ7_fill_53178 4 = .ok (.istore_n 3, 1) := by decide +kernel
theorem dJ7_fill_53178_5 : decode cJ7_fill_53178 5 = .ok (.iload_n 2, 1) := by decide +kernel
theorem dJ7_fill_53178_6 : decode cJ7_fill_53178 6 = .ok (.iload_n 3, 1) := by decide +kernel
theorem dJ7_fill_53178_7 : decode cJ7_fill_53178 7 = .ok (.if_icmp .ge 13, 3) := by decide +kernel
theorem dJ7_fill_53178_10 : decode cJ7_fill_53178 10 = .ok (.aload_n 0, 1) := by decide +kernel
theorem dJ7_fill_53178_11 : decode cJ7_fill_53178 11 = .ok (.iload_n 2, 1) := by decide +kernel
theorem dJ7_fill_53178_12 : decode cJ7_fill_53178 12 = .ok (.iload_n 1, 1) := by decide +kernel
theorem dJ7_fill_53178_13 : decode cJ7_fill_53178 13 = .ok (.iastore, 1) := by decide +kernel
theorem dJ7_fill_53178_14 : decode cJ7_fill_53178 14 = .ok (.iinc 2 1, 3) := by decide +kernel
theorem dJ7_fill_53178_17 : decode cJ7_fill_53178 17 = .ok (.goto (-12), 3) := by decide +kernel
theorem dJ7_fill_53178_20 : decode cJ7_fill_53178 20 = .ok (.return_, 1) := by decide +kernel
theorem dL_law_0 : decode code 0 = .ok (.new 7, 3) := by decide +kernel
theorem dL_law_3 : decode code 3 = .ok (.dup, 1) := by decide +kernel
theorem dL_law_4 : decode code 4 = .ok (.invokespecial 9, 3) := by decide +kernel
theorem dL_law_7 : decode code 7 = .ok (.astore_n 1, 1) := by decide +kernel
theorem dL_law_8 : decode code 8 = .ok (.new 10, 3) := by decide +kernel
theorem dL_law_11 : decode code 11 = .ok (.dup, 1) := by decide +kernel
theorem dL_law_12 : decode code 12 = .ok (.invokespecial 12, 3) := by decide +kernel
theorem dL_law_15 : decode code 15 = .ok (.astore_n 2, 1) := by decide +kernel
theorem dL_law_16 : decode code 16 = .ok (.iconst 0, 1) := by decide +kernel
theorem dL_law_17 : decode code 17 = .ok (.istore_n 3, 1) := by decide +kernel
theorem dL_law_18 : decode code 18 = .ok (.iload_n 3, 1) := by decide +kernel
theorem dX0_init_0 : decode cX0_init 0 = .ok (.aload_n 0, 1) := by decide +kernel
theorem dX0_init_1 : decode cX0_init 1 = .ok (.invokespecial 3, 3) := by decide +kernel
theorem dX0_init_4 : decode cX0_init 4 = .ok (.aload_n 0, 1) := by decide +kernel
theorem dX0_init_5 : decode cX0_init 5 = .ok (.iconst 5, 1) := by decide +kernel
theorem dX0_init_6 : decode cX0_init 6 = .ok (.newarray .int, 2) := by decide +kernel
theorem dX0_init_8 : decode cX0_init 8 = .ok (.putfield 9, 3) := by decide +kernel
theorem dX0_init_11 : decode cX0_init 11 = .ok (.aload_n 0, 1) := by decide +kernel
theorem dX0_init_12 : decode cX0_init 12 = .ok (.bipush 16, 2) := by decide +kernel
theorem dX0_init_14 : decode cX0_init 14 = .ok (.newarray .int, 2) := by decide +kernel
theorem dX0_init_16 : decode cX0_init 16 = .ok (.putfield 15, 3) := by decide +kernel
theorem dX0_init_19 : decode cX0_init 19 = .ok (.aload_n 0, 1) := by decide +kernel
theorem dX0_init_20 : decode cX0_init 20 = .ok (.bipush 16, 2) := by decide +kernel
theorem dX0_init_22 : decode cX0_init 22 = .ok (.newarray .int, 2) := by decide +kernel
theorem dX0_init_24 : decode cX0_init 24 = .ok (.putfield 18, 3) := by decide +kernel
theorem dX0_init_27 : decode cX0_init 27 = .ok (.aload_n 0, 1) := by decide +kernel
theorem dX0_init_28 : decode cX0_init 28 = .ok (.bipush 16, 2) := by decide +kernel
theorem dX0_init_30 : decode cX0_init 30 = .ok (.newarray .int, 2) := by decide +kernel
theorem dX0_init_32 : decode cX0_init 32 = .ok (.putfield 21, 3) := by decide +kernel
theorem dX0_init_35 : decode cX0_init 35 = .ok (.aload_n 0, 1) := by decide +kernel
theorem dX0_init_36 : decode cX0_init 36 = .ok (.iconst 0, 1) := by decide +kernel
theorem dX0_init_37 : decode cX0_init 37 = .ok (.putfield 24, 3) := by decide +kernel
theorem dX0_init_40 : decode cX0_init 40 = .ok (.aload_n 0, 1) := by decide +kernel
theorem dX0_init_41 : decode cX0_init 41 = .ok (.iconst 5, 1) := by decide +kernel
theorem dX0_init_42 : decode cX0_init 42 = .ok (.newarray .int, 2) := by decide +kernel
theorem dX0_init_44 : decode cX0_init 44 = .ok (.putfield 28, 3) := by decide +kernel
theorem dX0_init_47 : decode cX0_init 47 = .ok (.aload_n 0, 1) := by decide +kernel
theorem dX0_init_48 : decode cX0_init 48 = .ok (.iconst 0, 1) := by decide +kernel
theorem dX0_init_49 : decode cX0_init 49 = .ok (.putfield 31, 3) := by decide +kernel
theorem dX0_init_52 : decode cX0_init 52 = .ok (.aload_n 0, 1) := by decide +kernel
theorem dX0_init_53 : decode cX0_init 53 = .ok (.iconst (-1), 1) := by decide +kernel
theorem dX0_init_54 : decode cX0_init 54 = .ok (.putfield 34, 3) := by decide +kernel
theorem dX0_init_57 : decode cX0_init 57 = .ok (.aload_n 0, 1) := by decide +kernel
theorem dX0_init_58 : decode cX0_init 58 = .ok (.iconst (-1), 1) := by decide +kernel
theorem dX0_init_59 : decode cX0_init 59 = .ok (.putfield 37, 3) := by decide +kernel
theorem dX0_init_62 : decode cX0_init 62 = .ok (.aload_n 0, 1) := by decide +kernel
theorem dX0_init_63 : decode cX0_init 63 = .ok (.iconst (-1), 1) := by decide +kernel
theorem dX0_init_64 : decode cX0_init 64 = .ok (.putfield 40, 3) := by decide +kernel
theorem dX0_init_67 : decode cX0_init 67 = .ok (.aload_n 0, 1) := by decide +kernel
theorem dX0_init_68 : decode cX0_init 68 = .ok (.aload_n 1, 1) := by decide +kernel
theorem dX0_init_69 : decode cX0_init 69 = .ok (.putfield 43, 3) := by decide +kernel
theorem dX0_init_72 : decode cX0_init 72 = .ok (.aload_n 0, 1) := by decide +kernel
theorem dX0_init_73 : decode cX0_init 73 = .ok (.aload_n 2, 1) := by decide +kernel
theorem dX0_init_74 : decode cX0_init 74 = .ok (.putfield 47, 3) := by decide +kernel
theorem dX0_init_77 : decode cX0_init 77 = .ok (.return_, 1) := by decide +kernel
theorem dX10_init_0 : decode cX10_init 0 = .ok (.aload_n 0, 1) := by decide +kernel
theorem dX10_init_1 : decode cX10_init 1 = .ok (.invokespecial 1, 3) := by decide +kernel
theorem dX10_init_4 : decode cX10_init 4 = .ok (.aload_n 0, 1) := by decide +kernel
theorem dX10_init_5 : decode cX10_init 5 = .ok (.sipush 1600, 3) := by decide +kernel
theorem dX10_init_8 : decode cX10_init 8 = .ok (.newarray .byte, 2) := by decide +kernel
theorem dX10_init_10 : decode cX10_init 10 = .ok (.putfield 9, 3) := by decide +kernel
theorem dX10_init_13 : decode cX10_init 13 = .ok (.aload_n 0, 1) := by decide +kernel
theorem dX10_init_14 : decode cX10_init 14 = .ok (.iconst 0, 1) := by decide +kernel
theorem dX10_init_15 : decode cX10_init 15 = .ok (.putfield 13, 3) := by decide +kernel
theorem dX10_init_18 : decode cX10_init 18 = .ok (.aload_n 0, 1) := by decide +kernel
theorem dX10_init_19 : decode cX10_init 19 = .ok (.new 17, 3) := by decide +kernel
theorem dX10_init_22 : decode cX10_init 22 = .ok (.dup, 1) := by decide +kernel
theorem dX10_init_23 : decode cX10_init 23 = .ok (.invokespecial 19, 3) := by decide +kernel
theorem dX10_init_26 : decode cX10_init 26 = .ok (.putfield 20, 3) := by decide +kernel
theorem dX10_init_29 : decode cX10_init 29 = .ok (.aload_n 0, 1) := by decide +kernel
theorem dX10_init_30 : decode cX10_init 30 = .ok (.new 24, 3) := by decide +kernel
theorem dX10_init_33 : decode cX10_init 33 = .ok (.dup, 1) := by decide +kernel
theorem dX10_init_34 : decode cX10_init 34 = .ok (.invokespecial 26, 3) := by decide +kernel
theorem dX10_init_37 : decode cX10_init 37 = .ok (.putfield 27, 3) := by decide +kernel
theorem dX10_init_40 : decode cX10_init 40 = .ok (.aload_n 0, 1) := by decide +kernel
theorem dX10_init_41 : decode cX10_init 41 = .ok (.new 24, 3) := by decide +kernel
theorem dX10_init_44 : decode cX10_init 44 = .ok (.dup, 1) := by decide +kernel
theorem dX10_init_45 : decode cX10_init 45 = .ok (.invokespecial 26, 3) := by decide +kernel
theorem dX10_init_48 : decode cX10_init 48 = .ok (.putfield 31, 3) := by decide +kernel
theorem dX10_init_51 : decode cX10_init 51 = .ok (.aload_n 0, 1) := by decide +kernel
theorem dX10_init_52 : decode cX10_init 52 = .ok (.iconst 3, 1) := by decide +kernel
theorem dX10_init_53 : decode cX10_init 53 = .ok (.anewarray 24, 3) := by decide +kernel
theorem dX10_init_56 : decode cX10_init 56 = .ok (.putfield 34, 3) := by decide +kernel
theorem dX10_init_59 : decode cX10_init 59 = .ok (.aload_n 0, 1) := by decide +kernel
theorem dX10_init_60 : decode cX10_init 60 = .ok (.iconst 3, 1) := by decide +kernel
theorem dX10_init_61 : decode cX10_init 61 = .ok (.newarray .int, 2) := by decide +kernel
theorem dX10_init_63 : decode cX10_init 63 = .ok (.putfield 38, 3) := by decide +kernel
theorem dX10_init_66 : decode cX10_init 66 = .ok (.aload_n 0, 1) := by decide +kernel
theorem dX10_init_67 : decode cX10_init 67 = .ok (.iconst 3, 1) := by decide +kernel
theorem dX10_init_68 : decode cX10_init 68 = .ok (.newarray .boolean, 2) := by decide +kernel
theorem dX10_init_70 : decode cX10_init 70 = .ok (.putfield 42, 3) := by decide +kernel
theorem dX10_init_73 : decode cX10_init 73 = .ok (.aload_n 0, 1) := by decide +kernel
theorem dX10_init_74 : decode cX10_init 74 = .ok (.iconst 4, 1) := by decide +kernel
theorem dX10_init_75 : decode cX10_init 75 = .ok (.anewarray 46, 3) := by decide +kernel
theorem dX10_init_78 : decode cX10_init 78 = .ok (.putfield 48, 3) := by decide +kernel
theorem dX10_init_81 : decode cX10_init 81 = .ok (.aload_n 0, 1) := by decide +kernel
theorem dX10_init_82 : decode cX10_init 82 = .ok (.new 52, 3) := by decide +kernel
theorem dX10_init_85 : decode cX10_init 85 = .ok (.dup, 1) := by decide +kernel
theorem dX10_init_86 : decode cX10_init 86 = .ok (.invokespecial 54, 3) := by decide +kernel
theorem dX10_init_89 : decode cX10_init 89 = .ok (.putfield 55, 3) := by decide +kernel
theorem dX10_init_92 : decode cX10_init 92 = .ok (.aload_n 0, 1) := by decide +kernel
theorem dX10_init_93 : decode cX10_init 93 = .ok (.new 59, 3) := by decide +kernel
theorem dX10_init_96 : decode cX10_init 96 = .ok (.dup, 1) := by decide +kernel
theorem dX10_init_97 : decode cX10_init 97 = .ok (.aload_n 0, 1) := by decide +kernel
theorem dX10_init_98 : decode cX10_init 98 = .ok (.getfield 55, 3) := by decide +kernel
theorem dX10_init_101 : decode cX10_init 101 = .ok (.invokespecial 61, 3) := by decide +kernel
theorem dX10_init_104 : decode cX10_init 104 = .ok (.putfield 64, 3) := by decide +kernel
theorem dX10_init_107 : decode cX10_init 107 = .ok (.aload_n 0, 1) := by decide +kernel
theorem dX10_init_108 : decode cX10_init 108 = .ok (.new 68, 3) := by decide +kernel
theorem dX10_init_111 : decode cX10_init 111 = .ok (.dup, 1) := by decide +kernel
theorem dX10_init_112 : decode cX10_init 112 = .ok (.invokespecial 70, 3) := by decide +kernel
theorem dX10_init_115 : decode cX10_init 115 = .ok (.putfield 71, 3) := by decide +kernel
theorem dX10_init_118 : decode cX10_init 118 = .ok (.aload_n 0, 1) := by decide +kernel
theorem dX10_init_119 : decode cX10_init 119 = .ok (.new 75, 3) := by decide +kernel
theorem dX10_init_122 : decode cX10_init 122 = .ok (.dup, 1) := by decide +kernel
theorem dX10_init_123 : decode cX10_init 123 = .ok (.aload_n 0, 1) := by decide +kernel
theorem dX10_init_124 : decode cX10_init 124 = .ok (.getfield 55, 3) := by decide +kernel
theorem dX10_init_127 : decode cX10_init 127 = .ok (.aload_n 0, 1) := by decide +kernel
theorem dX10_init_128 : decode cX10_init 128 = .ok (.getfield 64, 3) := by decide +kernel
theorem dX10_init_131 : decode cX10_init 131 = .ok (.invokespecial 77, 3) := by decide +kernel
theorem dX10_init_134 : decode cX10_init 134 = .ok (.putfield 80, 3) := by decide +kernel
theorem dX10_init_137 : decode cX10_init 137 = .ok (.aload_n 0, 1) := by decide +kernel
theorem dX10_init_138 : decode cX10_init 138 = .ok (.new 84, 3) := by decide +kernel
theorem dX10_init_141 : decode cX10_init 141 = .ok (.dup, 1) := by decide +kernel
theorem dX10_init_142 : decode cX10_init 142 = .ok (.aload_n 0, 1) := by decide +kernel
theorem dX10_init_143 : decode cX10_init 143 = .ok (.getfield 55, 3) := by decide +kernel
theorem dX10_init_146 : decode cX10_init 146 = .ok (.aload_n 0, 1) := by decide +kernel
theorem dX10_init_147 : decode cX10_init 147 = .ok (.getfield 80, 3) := by decide +kernel
theorem dX10_init_150 : decode cX10_init 150 = .ok (.invokespecial 86, 3) := by decide +kernel
theorem dX10_init_153 : decode cX10_init 153 = .ok (.putfield 89, 3) := by decide +kernel
theorem dX10_init_156 : decode cX10_init 156 = .ok (.aload_n 0, 1) := by decide +kernel
theorem dX10_init_157 : decode cX10_init 157 = .ok (.new 93, 3) := by decide +kernel
theorem dX10_init_160 : decode cX10_init 160 = .ok (.dup, 1) := by decide +kernel
theorem dX10_init_161 : decode cX10_init 161 = .ok (.invokespecial 95, 3) := by decide +kernel
theorem dX10_init_164 : decode cX10_init 164 = .ok (.putfield 96, 3) := by decide +kernel
theorem dX10_init_167 : decode cX10_init 167 = .ok (.iconst 0, 1) := by decide +kernel
theorem dX10_init_168 : decode cX10_init 168 = .ok (.istore_n 1, 1) := by decide +kernel
theorem dX10_init_169 : decode cX10_init 169 = .ok (.iload_n 1, 1) := by decide +kernel
theorem dX10_init_170 : decode cX10_init 170 = .ok (.iconst 3, 1) := by decide +kernel
theorem dX10_init_171 : decode cX10_init 171 = .ok (.if_icmp .ge 22, 3) := by decide +kernel
theorem dX10_init_174 : decode cX10_init 174 = .ok (.aload_n 0, 1) := by decide +kernel
theorem dX10_init_175 : decode cX10_init 175 = .ok (.getfield 34, 3) := by decide +kernel
theorem dX10_init_178 : decode cX10_init 178 = .ok (.iload_n 1, 1) := by decide +kernel
theorem dX10_init_179 : decode cX10_init 179 = .ok (.new 24, 3) := by decide +kernel
theorem dX10_init_182 : decode cX10_init 182 = .ok (.dup, 1) := by decide +kernel
theorem dX10_init_183 : decode cX10_init 183 = .ok (.invokespecial 26, 3) := by decide +kernel
theorem dX10_init_186 : decode cX10_init 186 = .ok (.aastore, 1) := by decide +kernel
theorem dX10_init_187 : decode cX10_init 187 = .ok (.iinc 1 1, 3) := by decide +kernel
theorem dX10_init_190 : decode cX10_init 190 = .ok (.goto (-21), 3) := by decide +kernel
theorem dX10_init_193 : decode cX10_init 193 = .ok (.iconst 0, 1) := by decide +kernel
theorem dX10_init_194 : decode cX10_init 194 = .ok (.istore_n 1, 1) := by decide +kernel
theorem dX10_init_195 : decode cX10_init 195 = .ok (.iload_n 1, 1) := by decide +kernel
theorem dX10_init_196 : decode cX10_init 196 = .ok (.iconst 4, 1) := by decide +kernel
theorem dX10_init_197 : decode cX10_init 197 = .ok (.if_icmp .ge 22, 3) := by decide +kernel
theorem dX10_init_200 : decode cX10_init 200 = .ok (.aload_n 0, 1) := by decide +kernel
theorem dX10_init_201 : decode cX10_init 201 = .ok (.getfield 48, 3) := by decide +kernel
theorem dX10_init_204 : decode cX10_init 204 = .ok (.iload_n 1, 1) := by decide +kernel
theorem dX10_init_205 : decode cX10_init 205 = .ok (.new 46, 3) := by decide +kernel
theorem dX10_init_208 : decode cX10_init 208 = .ok (.dup, 1) := by decide +kernel
theorem dX10_init_209 : decode cX10_init 209 = .ok (.invokespecial 100, 3) := by decide +kernel
theorem dX10_init_212 : decode cX10_init 212 = .ok (.aastore, 1) := by decide +kernel
theorem dX10_init_213 : decode cX10_init 213 = .ok (.iinc 1 1, 3) := by decide +kernel
theorem dX10_init_216 : decode cX10_init 216 = .ok (.goto (-21), 3) := by decide +kernel
theorem dX10_init_219 : decode cX10_init 219 = .ok (.aload_n 0, 1) := by decide +kernel
theorem dX10_init_220 : decode cX10_init 220 = .ok (.getfield 55, 3) := by decide +kernel
theorem dX10_init_223 : decode cX10_init 223 = .ok (.aload_n 0, 1) := by decide +kernel
theorem dX10_init_224 : decode cX10_init 224 = .ok (.getfield 27, 3) := by decide +kernel
theorem dX10_init_227 : decode cX10_init 227 = .ok (.iconst 0, 1) := by decide +kernel
theorem dX10_init_228 : decode cX10_init 228 = .ok (.invokevirtual 101, 3) := by decide +kernel
theorem dX10_init_231 : decode cX10_init 231 = .ok (.return_, 1) := by decide +kernel
theorem dX11_init_0 : decode cX11_init 0 = .ok (.aload_n 0, 1) := by decide +kernel
theorem dX11_init_1 : decode cX11_init 1 = .ok (.invokespecial 1, 3) := by decide +kernel
theorem dX11_init_4 : decode cX11_init 4 = .ok (.aload_n 0, 1) := by decide +kernel
theorem dX11_init_5 : decode cX11_init 5 = .ok (.iconst 4, 1) := by decide +kernel
theorem dX11_init_6 : decode cX11_init 6 = .ok (.newarray .int, 2) := by decide +kernel
theorem dX11_init_8 : decode cX11_init 8 = .ok (.putfield 7, 3) := by decide +kernel
theorem dX11_init_11 : decode cX11_init 11 = .ok (.aload_n 0, 1) := by decide +kernel
theorem dX11_init_12 : decode cX11_init 12 = .ok (.iconst 4, 1) := by decide +kernel
theorem dX11_init_13 : decode cX11_init 13 = .ok (.newarray .int, 2) := by decide +kernel
theorem dX11_init_15 : decode cX11_init 15 = .ok (.putfield 13, 3) := by decide +kernel
theorem dX11_init_18 : decode cX11_init 18 = .ok (.aload_n 0, 1) := by decide +kernel
theorem dX11_init_19 : decode cX11_init 19 = .ok (.sipush 240, 3) := by decide +kernel
theorem dX11_init_22 : decode cX11_init 22 = .ok (.newarray .long, 2) := by decide +kernel
theorem dX11_init_24 : decode cX11_init 24 = .ok (.putfield 16, 3) := by decide +kernel
theorem dX11_init_27 : decode cX11_init 27 = .ok (.aload_n 0, 1) := by decide +kernel
theorem dX11_init_28 : decode cX11_init 28 = .ok (.bipush 60, 2) := by decide +kernel
theorem dX11_init_30 : decode cX11_init 30 = .ok (.newarray .long, 2) := by decide +kernel
theorem dX11_init_32 : decode cX11_init 32 = .ok (.putfield 20, 3) := by decide +kernel
theorem dX11_init_35 : decode cX11_init 35 = .ok (.aload_n 0, 1) := by decide +kernel
theorem dX11_init_36 : decode cX11_init 36 = .ok (.sipush 1600, 3) := by decide +kernel
theorem dX11_init_39 : decode cX11_init 39 = .ok (.newarray .byte, 2) := by decide +kernel
theorem dX11_init_41 : decode cX11_init 41 = .ok (.putfield 23, 3) := by decide +kernel
theorem dX11_init_44 : decode cX11_init 44 = .ok (.aload_n 0, 1) := by decide +kernel
theorem dX11_init_45 : decode cX11_init 45 = .ok (.iconst (-1), 1) := by decide +kernel
theorem dX11_init_46 : decode cX11_init 46 = .ok (.putfield 27, 3) := by decide +kernel
theorem dX11_init_49 : decode cX11_init 49 = .ok (.aload_n 0, 1) := by decide +kernel
theorem dX11_init_50 : decode cX11_init 50 = .ok (.iconst 5, 1) := by decide +kernel
theorem dX11_init_51 : decode cX11_init 51 = .ok (.newarray .int, 2) := by decide +kernel
theorem dX11_init_53 : decode cX11_init 53 = .ok (.putfield 31, 3) := by decide +kernel
theorem dX11_init_56 : decode cX11_init 56 = .ok (.aload_n 0, 1) := by decide +kernel
theorem dX11_init_57 : decode cX11_init 57 = .ok (.iconst 5, 1) := by decide +kernel
theorem dX11_init_58 : decode cX11_init 58 = .ok (.newarray .int, 2) := by decide +kernel
theorem dX11_init_60 : decode cX11_init 60 = .ok (.putfield 34, 3) := by decide +kernel
theorem dX11_init_63 : decode cX11_init 63 = .ok (.aload_n 0, 1) := by decide +kernel
theorem dX11_init_64 : decode cX11_init 64 = .ok (.iconst 5, 1) := by decide +kernel
theorem dX11_init_65 : decode cX11_init 65 = .ok (.newarray .int, 2) := by decide +kernel
theorem dX11_init_67 : decode cX11_init 67 = .ok (.putfield 37, 3) := by decide +kernel
theorem dX11_init_70 : decode cX11_init 70 = .ok (.aload_n 0, 1) := by decide +kernel
theorem dX11_init_71 : decode cX11_init 71 = .ok (.bipush 35, 2) := by decide +kernel
theorem dX11_init_73 : decode cX11_init 73 = .ok (.newarray .int, 2) := by decide +kernel
theorem dX11_init_75 : decode cX11_init 75 = .ok (.putfield 40, 3) := by decide +kernel
theorem dX11_init_78 : decode cX11_init 78 = .ok (.aload_n 0, 1) := by decide +kernel
theorem dX11_init_79 : decode cX11_init 79 = .ok (.bipush 80, 2) := by decide +kernel
theorem dX11_init_81 : decode cX11_init 81 = .ok (.newarray .int, 2) := by decide +kernel
theorem dX11_init_83 : decode cX11_init 83 = .ok (.putfield 43, 3) := by decide +kernel
theorem dX11_init_86 : decode cX11_init 86 = .ok (.aload_n 0, 1) := by decide +kernel
theorem dX11_init_87 : decode cX11_init 87 = .ok (.bipush 90, 2) := by decide +kernel
theorem dX11_init_89 : decode cX11_init 89 = .ok (.newarray .int, 2) := by decide +kernel
theorem dX11_init_91 : decode cX11_init 91 = .ok (.putfield 46, 3) := by decide +kernel
theorem dX11_init_94 : decode cX11_init 94 = .ok (.aload_n 0, 1) := by decide +kernel
theorem dX11_init_95 : decode cX11_init 95 = .ok (.bipush 60, 2) := by decide +kernel
theorem dX11_init_97 : decode cX11_init 97 = .ok (.newarray .int, 2) := by decide +kernel
theorem dX11_init_99 : decode cX11_init 99 = .ok (.putfield 49, 3) := by decide +kernel
theorem dX11_init_102 : decode cX11_init 102 = .ok (.aload_n 0, 1) := by decide +kernel
theorem dX11_init_103 : decode cX11_init 103 = .ok (.bipush 60, 2) := by decide +kernel
theorem dX11_init_105 : decode cX11_init 105 = .ok (.newarray .int, 2) := by decide +kernel
theorem dX11_init_107 : decode cX11_init 107 = .ok (.putfield 52, 3) := by decide +kernel
theorem dX11_init_110 : decode cX11_init 110 = .ok (.aload_n 0, 1) := by decide +kernel
theorem dX11_init_111 : decode cX11_init 111 = .ok (.bipush 100, 2) := by decide +kernel
theorem dX11_init_113 : decode cX11_init 113 = .ok (.newarray .int, 2) := by decide +kernel
theorem dX11_init_115 : decode cX11_init 115 = .ok (.putfield 55, 3) := by decide +kernel
theorem dX11_init_118 : decode cX11_init 118 = .ok (.aload_n 0, 1) := by decide +kernel
theorem dX11_init_119 : decode cX11_init 119 = .ok (.bipush 75, 2) := by decide +kernel
theorem dX11_init_121 : decode cX11_init 121 = .ok (.newarray .int, 2) := by decide +kernel
theorem dX11_init_123 : decode cX11_init 123 = .ok (.putfield 58, 3) := by decide +kernel
theorem dX11_init_126 : decode cX11_init 126 = .ok (.aload_n 0, 1) := by decide +kernel
theorem dX11_init_127 : decode cX11_init 127 = .ok (.sipush 400, 3) := by decide +kernel
theorem dX11_init_130 : decode cX11_init 130 = .ok (.newarray .int, 2) := by decide +kernel
theorem dX11_init_132 : decode cX11_init 132 = .ok (.putfield 61, 3) := by decide +kernel
theorem dX11_init_135 : decode cX11_init 135 = .ok (.aload_n 0, 1) := by decide +kernel
theorem dX11_init_136 : decode cX11_init 136 = .ok (.iconst 3, 1) := by decide +kernel
theorem dX11_init_137 : decode cX11_init 137 = .ok (.newarray .boolean, 2) := by decide +kernel
theorem dX11_init_139 : decode cX11_init 139 = .ok (.putfield 64, 3) := by decide +kernel
theorem dX11_init_142 : decode cX11_init 142 = .ok (.aload_n 0, 1) := by decide +kernel
theorem dX11_init_143 : decode cX11_init 143 = .ok (.ldc 68, 2) := by decide +kernel
theorem dX11_init_145 : decode cX11_init 145 = .ok (.newarray .int, 2) := by decide +kernel
theorem dX11_init_147 : decode cX11_init 147 = .ok (.putfield 69, 3) := by decide +kernel
theorem dX11_init_150 : decode cX11_init 150 = .ok (.aload_n 0, 1) := by decide +kernel
theorem dX11_init_151 : decode cX11_init 151 = .ok (.bipush 15, 2) := by decide +kernel
theorem dX11_init_153 : decode cX11_init 153 = .ok (.putfield 72, 3) := by decide +kernel
theorem dX11_init_156 : decode cX11_init 156 = .ok (.aload_n 0, 1) := by decide +kernel
theorem dX11_init_157 : decode cX11_init 157 = .ok (.sipush 401, 3) := by decide +kernel
theorem dX11_init_160 : decode cX11_init 160 = .ok (.newarray .int, 2) := by decide +kernel
theorem dX11_init_162 : decode cX11_init 162 = .ok (.putfield 75, 3) := by decide +kernel
theorem dX11_init_165 : decode cX11_init 165 = .ok (.aload_n 0, 1) := by decide +kernel
theorem dX11_init_166 : decode cX11_init 166 = .ok (.sipush 401, 3) := by decide +kernel
theorem dX11_init_169 : decode cX11_init 169 = .ok (.newarray .boolean, 2) := by decide +kernel
theorem dX11_init_171 : decode cX11_init 171 = .ok (.putfield 78, 3) := by decide +kernel
theorem dX11_init_174 : decode cX11_init 174 = .ok (.aload_n 0, 1) := by decide +kernel
theorem dX11_init_175 : decode cX11_init 175 = .ok (.iconst 5, 1) := by decide +kernel
theorem dX11_init_176 : decode cX11_init 176 = .ok (.newarray .int, 2) := by decide +kernel
theorem dX11_init_178 : decode cX11_init 178 = .ok (.putfield 81, 3) := by decide +kernel
theorem dX11_init_181 : decode cX11_init 181 = .ok (.aload_n 0, 1) := by decide +kernel
theorem dX11_init_182 : decode cX11_init 182 = .ok (.iconst 5, 1) := by decide +kernel
theorem dX11_init_183 : decode cX11_init 183 = .ok (.newarray .int, 2) := by decide +kernel
theorem dX11_init_185 : decode cX11_init 185 = .ok (.putfield 84, 3) := by decide +kernel
theorem dX11_init_188 : decode cX11_init 188 = .ok (.aload_n 0, 1) := by decide +kernel
theorem dX11_init_189 : decode cX11_init 189 = .ok (.iconst 5, 1) := by decide +kernel
theorem dX11_init_190 : decode cX11_init 190 = .ok (.newarray .boolean, 2) := by decide +kernel
theorem dX11_init_192 : decode cX11_init 192 = .ok (.putfield 87, 3) := by decide +kernel
theorem dX11_init_195 : decode cX11_init 195 = .ok (.aload_n 0, 1) := by decide +kernel
theorem dX11_init_196 : decode cX11_init 196 = .ok (.bipush 16, 2) := by decide +kernel
theorem dX11_init_198 : decode cX11_init 198 = .ok (.newarray .int, 2) := by decide +kernel
theorem dX11_init_200 : decode cX11_init 200 = .ok (.putfield 90, 3) := by decide +kernel
theorem dX11_init_203 : decode cX11_init 203 = .ok (.aload_n 0, 1) := by decide +kernel
theorem dX11_init_204 : decode cX11_init 204 = .ok (.bipush 16, 2) := by decide +kernel
theorem dX11_init_206 : decode cX11_init 206 = .ok (.newarray .int, 2) := by decide +kernel
theorem dX11_init_208 : decode cX11_init 208 = .ok (.putfield 93, 3) := by decide +kernel
theorem dX11_init_211 : decode cX11_init 211 = .ok (.aload_n 0, 1) := by decide +kernel
theorem dX11_init_212 : decode cX11_init 212 = .ok (.bipush 16, 2) := by decide +kernel
theorem dX11_init_214 : decode cX11_init 214 = .ok (.newarray .int, 2) := by decide +kernel
theorem dX11_init_216 : decode cX11_init 216 = .ok (.putfield 96, 3) := by decide +kernel
theorem dX11_init_219 : decode cX11_init 219 = .ok (.aload_n 0, 1) := by decide +kernel
theorem dX11_init_220 : decode cX11_init 220 = .ok (.bipush 16, 2) := by decide +kernel
theorem dX11_init_222 : decode cX11_init 222 = .ok (.newarray .int, 2) := by decide +kernel
theorem dX11_init_224 : decode cX11_init 224 = .ok (.putfield 99, 3) := by decide +kernel
theorem dX11_init_227 : decode cX11_init 227 = .ok (.aload_n 0, 1) := by decide +kernel
theorem dX11_init_228 : decode cX11_init 228 = .ok (.bipush 16, 2) := by decide +kernel
theorem dX11_init_230 : decode cX11_init 230 = .ok (.newarray .int, 2) := by decide +kernel
theorem dX11_init_232 : decode cX11_init 232 = .ok (.putfield 102, 3) := by decide +kernel
theorem dX11_init_235 : decode cX11_init 235 = .ok (.aload_n 0, 1) := by decide +kernel
theorem dX11_init_236 : decode cX11_init 236 = .ok (.bipush 16, 2) := by decide +kernel
theorem dX11_init_238 : decode cX11_init 238 = .ok (.newarray .int, 2) := by decide +kernel
theorem dX11_init_240 : decode cX11_init 240 = .ok (.putfield 105, 3) := by decide +kernel
theorem dX11_init_243 : decode cX11_init 243 = .ok (.aload_n 0, 1) := by decide +kernel
theorem dX11_init_244 : decode cX11_init 244 = .ok (.bipush 16, 2) := by decide +kernel
theorem dX11_init_246 : decode cX11_init 246 = .ok (.newarray .boolean, 2) := by decide +kernel
theorem dX11_init_248 : decode cX11_init 248 = .ok (.putfield 108, 3) := by decide +kernel
theorem dX11_init_251 : decode cX11_init 251 = .ok (.aload_n 0, 1) := by decide +kernel
theorem dX11_init_252 : decode cX11_init 252 = .ok (.bipush 16, 2) := by decide +kernel
theorem dX11_init_254 : decode cX11_init 254 = .ok (.newarray .int, 2) := by decide +kernel
theorem dX11_init_256 : decode cX11_init 256 = .ok (.putfield 111, 3) := by decide +kernel
theorem dX11_init_259 : decode cX11_init 259 = .ok (.aload_n 0, 1) := by decide +kernel
theorem dX11_init_260 : decode cX11_init 260 = .ok (.bipush 16, 2) := by decide +kernel
theorem dX11_init_262 : decode cX11_init 262 = .ok (.newarray .int, 2) := by decide +kernel
theorem dX11_init_264 : decode cX11_init 264 = .ok (.putfield 114, 3) := by decide +kernel
theorem dX11_init_267 : decode cX11_init 267 = .ok (.aload_n 0, 1) := by decide +kernel
theorem dX11_init_268 : decode cX11_init 268 = .ok (.iconst 5, 1) := by decide +kernel
theorem dX11_init_269 : decode cX11_init 269 = .ok (.newarray .int, 2) := by decide +kernel
theorem dX11_init_271 : decode cX11_init 271 = .ok (.putfield 117, 3) := by decide +kernel
theorem dX11_init_274 : decode cX11_init 274 = .ok (.iconst 0, 1) := by decide +kernel
theorem dX11_init_275 : decode cX11_init 275 = .ok (.istore_n 1, 1) := by decide +kernel
theorem dX11_init_276 : decode cX11_init 276 = .ok (.iload_n 1, 1) := by decide +kernel
theorem dX11_init_277 : decode cX11_init 277 = .ok (.iconst 4, 1) := by decide +kernel
theorem dX11_init_278 : decode cX11_init 278 = .ok (.if_icmp .ge 16, 3) := by decide +kernel
theorem dX11_init_281 : decode cX11_init 281 = .ok (.aload_n 0, 1) := by decide +kernel
theorem dX11_init_282 : decode cX11_init 282 = .ok (.getfield 7, 3) := by decide +kernel
theorem dX11_init_285 : decode cX11_init 285 = .ok (.iload_n 1, 1) := by decide +kernel
theorem dX11_init_286 : decode cX11_init 286 = .ok (.iconst (-1), 1) := by decide +kernel
theorem dX11_init_287 : decode cX11_init 287 = .ok (.iastore, 1) := by decide +kernel
theorem dX11_init_288 : decode cX11_init 288 = .ok (.iinc 1 1, 3) := by decide +kernel
theorem dX11_init_291 : decode cX11_init 291 = .ok (.goto (-15), 3) := by decide +kernel
theorem dX11_init_294 : decode cX11_init 294 = .ok (.return_, 1) := by decide +kernel
theorem dX1_init_0 : decode cX1_init 0 = .ok (.aload_n 0, 1) := by decide +kernel
theorem dX1_init_1 : decode cX1_init 1 = .ok (.invokespecial 3, 3) := by decide +kernel
theorem dX1_init_4 : decode cX1_init 4 = .ok (.aload_n 0, 1) := by decide +kernel
theorem dX1_init_5 : decode cX1_init 5 = .ok (.bipush 24, 2) := by decide +kernel
theorem dX1_init_7 : decode cX1_init 7 = .ok (.anewarray 9, 3) := by decide +kernel
theorem dX1_init_10 : decode cX1_init 10 = .ok (.putfield 11, 3) := by decide +kernel
theorem dX1_init_13 : decode cX1_init 13 = .ok (.aload_n 0, 1) := by decide +kernel
theorem dX1_init_14 : decode cX1_init 14 = .ok (.bipush 24, 2) := by decide +kernel
theorem dX1_init_16 : decode cX1_init 16 = .ok (.newarray .boolean, 2) := by decide +kernel
theorem dX1_init_18 : decode cX1_init 18 = .ok (.putfield 17, 3) := by decide +kernel
theorem dX1_init_21 : decode cX1_init 21 = .ok (.aload_n 0, 1) := by decide +kernel
theorem dX1_init_22 : decode cX1_init 22 = .ok (.sipush 6416, 3) := by decide +kernel
theorem dX1_init_25 : decode cX1_init 25 = .ok (.newarray .int, 2) := by decide +kernel
theorem dX1_init_27 : decode cX1_init 27 = .ok (.putfield 21, 3) := by decide +kernel
theorem dX1_init_30 : decode cX1_init 30 = .ok (.aload_n 0, 1) := by decide +kernel
theorem dX1_init_31 : decode cX1_init 31 = .ok (.iconst 0, 1) := by decide +kernel
theorem dX1_init_32 : decode cX1_init 32 = .ok (.putfield 25, 3) := by decide +kernel
theorem dX1_init_35 : decode cX1_init 35 = .ok (.aload_n 0, 1) := by decide +kernel
theorem dX1_init_36 : decode cX1_init 36 = .ok (.iconst 0, 1) := by decide +kernel
theorem dX1_init_37 : decode cX1_init 37 = .ok (.putfield 29, 3) := by decide +kernel
theorem dX1_init_40 : decode cX1_init 40 = .ok (.aload_n 0, 1) := by decide +kernel
theorem dX1_init_41 : decode cX1_init 41 = .ok (.iconst (-1), 1) := by decide +kernel
theorem dX1_init_42 : decode cX1_init 42 = .ok (.putfield 32, 3) := by decide +kernel
theorem dX1_init_45 : decode cX1_init 45 = .ok (.aload_n 0, 1) := by decide +kernel
theorem dX1_init_46 : decode cX1_init 46 = .ok (.aload_n 1, 1) := by decide +kernel
theorem dX1_init_47 : decode cX1_init 47 = .ok (.putfield 35, 3) := by decide +kernel
theorem dX1_init_50 : decode cX1_init 50 = .ok (.return_, 1) := by decide +kernel
theorem dX2_init_0 : decode cX2_init 0 = .ok (.aload_n 0, 1) := by decide +kernel
theorem dX2_init_1 : decode cX2_init 1 = .ok (.invokespecial 3, 3) := by decide +kernel
theorem dX2_init_4 : decode cX2_init 4 = .ok (.aload_n 0, 1) := by decide +kernel
theorem dX2_init_5 : decode cX2_init 5 = .ok (.sipush 2020, 3) := by decide +kernel
theorem dX2_init_8 : decode cX2_init 8 = .ok (.newarray .int, 2) := by decide +kernel
theorem dX2_init_10 : decode cX2_init 10 = .ok (.putfield 9, 3) := by decide +kernel
theorem dX2_init_13 : decode cX2_init 13 = .ok (.aload_n 0, 1) := by decide +kernel
theorem dX2_init_14 : decode cX2_init 14 = .ok (.sipush 2020, 3) := by decide +kernel
theorem dX2_init_17 : decode cX2_init 17 = .ok (.newarray .int, 2) := by decide +kernel
theorem dX2_init_19 : decode cX2_init 19 = .ok (.putfield 15, 3) := by decide +kernel
theorem dX2_init_22 : decode cX2_init 22 = .ok (.aload_n 0, 1) := by decide +kernel
theorem dX2_init_23 : decode cX2_init 23 = .ok (.iconst 5, 1) := by decide +kernel
theorem dX2_init_24 : decode cX2_init 24 = .ok (.newarray .int, 2) := by decide +kernel
theorem dX2_init_26 : decode cX2_init 26 = .ok (.putfield 18, 3) := by decide +kernel
theorem dX2_init_29 : decode cX2_init 29 = .ok (.aload_n 0, 1) := by decide +kernel
theorem dX2_init_30 : decode cX2_init 30 = .ok (.bipush 16, 2) := by decide +kernel
theorem dX2_init_32 : decode cX2_init 32 = .ok (.newarray .int, 2) := by decide +kernel
theorem dX2_init_34 : decode cX2_init 34 = .ok (.putfield 21, 3) := by decide +kernel
theorem dX2_init_37 : decode cX2_init 37 = .ok (.aload_n 0, 1) := by decide +kernel
theorem dX2_init_38 : decode cX2_init 38 = .ok (.bipush 16, 2) := by decide +kernel
theorem dX2_init_40 : decode cX2_init 40 = .ok (.newarray .int, 2) := by decide +kernel
theorem dX2_init_42 : decode cX2_init 42 = .ok (.putfield 24, 3) := by decide +kernel
theorem dX2_init_45 : decode cX2_init 45 = .ok (.aload_n 0, 1) := by decide +kernel
theorem dX2_init_46 : decode cX2_init 46 = .ok (.bipush 16, 2) := by decide +kernel
theorem dX2_init_48 : decode cX2_init 48 = .ok (.newarray .int, 2) := by decide +kernel
theorem dX2_init_50 : decode cX2_init 50 = .ok (.putfield 27, 3) := by decide +kernel
theorem dX2_init_53 : decode cX2_init 53 = .ok (.aload_n 0, 1) := by decide +kernel
theorem dX2_init_54 : decode cX2_init 54 = .ok (.sipush 6464, 3) := by decide +kernel
theorem dX2_init_57 : decode cX2_init 57 = .ok (.newarray .int, 2) := by decide +kernel
theorem dX2_init_59 : decode cX2_init 59 = .ok (.putfield 30, 3) := by decide +kernel
theorem dX2_init_62 : decode cX2_init 62 = .ok (.aload_n 0, 1) := by decide +kernel
theorem dX2_init_63 : decode cX2_init 63 = .ok (.bipush 16, 2) := by decide +kernel
theorem dX2_init_65 : decode cX2_init 65 = .ok (.newarray .int, 2) := by decide +kernel
theorem dX2_init_67 : decode cX2_init 67 = .ok (.putfield 33, 3) := by decide +kernel
theorem dX2_init_70 : decode cX2_init 70 = .ok (.aload_n 0, 1) := by decide +kernel
theorem dX2_init_71 : decode cX2_init 71 = .ok (.bipush 16, 2) := by decide +kernel
theorem dX2_init_73 : decode cX2_init 73 = .ok (.newarray .boolean, 2) := by decide +kernel
theorem dX2_init_75 : decode cX2_init 75 = .ok (.putfield 36, 3) := by decide +kernel
theorem dX2_init_78 : decode cX2_init 78 = .ok (.aload_n 0, 1) := by decide +kernel
theorem dX2_init_79 : decode cX2_init 79 = .ok (.bipush 16, 2) := by decide +kernel
theorem dX2_init_81 : decode cX2_init 81 = .ok (.newarray .boolean, 2) := by decide +kernel
theorem dX2_init_83 : decode cX2_init 83 = .ok (.putfield 40, 3) := by decide +kernel
theorem dX2_init_86 : decode cX2_init 86 = .ok (.aload_n 0, 1) := by decide +kernel
theorem dX2_init_87 : decode cX2_init 87 = .ok (.bipush 16, 2) := by decide +kernel
theorem dX2_init_89 : decode cX2_init 89 = .ok (.newarray .int, 2) := by decide +kernel
theorem dX2_init_91 : decode cX2_init 91 = .ok (.putfield 43, 3) := by decide +kernel
theorem dX2_init_94 : decode cX2_init 94 = .ok (.aload_n 0, 1) := by decide +kernel
theorem dX2_init_95 : decode cX2_init 95 = .ok (.iconst 0, 1) := by decide +kernel
theorem dX2_init_96 : decode cX2_init 96 = .ok (.putfield 46, 3) := by decide +kernel
theorem dX2_init_99 : decode cX2_init 99 = .ok (.aload_n 0, 1) := by decide +kernel
theorem dX2_init_100 : decode cX2_init 100 = .ok (.bipush 16, 2) := by decide +kernel
theorem dX2_init_102 : decode cX2_init 102 = .ok (.newarray .int, 2) := by decide +kernel
theorem dX2_init_104 : decode cX2_init 104 = .ok (.putfield 50, 3) := by decide +kernel
theorem dX2_init_107 : decode cX2_init 107 = .ok (.aload_n 0, 1) := by decide +kernel
theorem dX2_init_108 : decode cX2_init 108 = .ok (.aload_n 1, 1) := by decide +kernel
theorem dX2_init_109 : decode cX2_init 109 = .ok (.putfield 53, 3) := by decide +kernel
theorem dX2_init_112 : decode cX2_init 112 = .ok (.aload_n 0, 1) := by decide +kernel
theorem dX2_init_113 : decode cX2_init 113 = .ok (.aload_n 2, 1) := by decide +kernel
theorem dX2_init_114 : decode cX2_init 114 = .ok (.putfield 57, 3) := by decide +kernel
theorem dX2_init_117 : decode cX2_init 117 = .ok (.aload_n 0, 1) := by decide +kernel
theorem dX2_init_118 : decode cX2_init 118 = .ok (.getfield 43, 3) := by decide +kernel
theorem dX2_init_121 : decode cX2_init 121 = .ok (.iconst (-1), 1) := by decide +kernel
theorem dX2_init_122 : decode cX2_init 122 = .ok (.invokestatic 61, 3) := by decide +kernel
theorem dX2_init_125 : decode cX2_init 125 = .ok (.return_, 1) := by decide +kernel
theorem dX3_init_0 : decode cX3_init 0 = .ok (.aload_n 0, 1) := by decide +kernel
theorem dX3_init_1 : decode cX3_init 1 = .ok (.invokespecial 3, 3) := by decide +kernel
theorem dX3_init_4 : decode cX3_init 4 = .ok (.aload_n 0, 1) := by decide +kernel
theorem dX3_init_5 : decode cX3_init 5 = .ok (.iconst 0, 1) := by decide +kernel
theorem dX3_init_6 : decode cX3_init 6 = .ok (.putfield 9, 3) := by decide +kernel
theorem dX3_init_9 : decode cX3_init 9 = .ok (.aload_n 0, 1) := by decide +kernel
theorem dX3_init_10 : decode cX3_init 10 = .ok (.iconst 0, 1) := by decide +kernel
theorem dX3_init_11 : decode cX3_init 11 = .ok (.putfield 15, 3) := by decide +kernel
theorem dX3_init_14 : decode cX3_init 14 = .ok (.aload_n 0, 1) := by decide +kernel
theorem dX3_init_15 : decode cX3_init 15 = .ok (.new 18, 3) := by decide +kernel
theorem dX3_init_18 : decode cX3_init 18 = .ok (.dup, 1) := by decide +kernel
theorem dX3_init_19 : decode cX3_init 19 = .ok (.bipush 8, 2) := by decide +kernel
theorem dX3_init_21 : decode cX3_init 21 = .ok (.iconst 2, 1) := by decide +kernel
theorem dX3_init_22 : decode cX3_init 22 = .ok (.invokespecial 20, 3) := by decide +kernel
theorem dX3_init_25 : decode cX3_init 25 = .ok (.putfield 23, 3) := by decide +kernel
theorem dX3_init_28 : decode cX3_init 28 = .ok (.aload_n 0, 1) := by decide +kernel
theorem dX3_init_29 : decode cX3_init 29 = .ok (.new 18, 3) := by decide +kernel
theorem dX3_init_32 : decode cX3_init 32 = .ok (.dup, 1) := by decide +kernel
theorem dX3_init_33 : decode cX3_init 33 = .ok (.bipush 6, 2) := by decide +kernel
theorem dX3_init_35 : decode cX3_init 35 = .ok (.iconst 3, 1) := by decide +kernel
theorem dX3_init_36 : decode cX3_init 36 = .ok (.invokespecial 20, 3) := by decide +kernel
theorem dX3_init_39 : decode cX3_init 39 = .ok (.putfield 27, 3) := by decide +kernel
theorem dX3_init_42 : decode cX3_init 42 = .ok (.aload_n 0, 1) := by decide +kernel
theorem dX3_init_43 : decode cX3_init 43 = .ok (.new 18, 3) := by decide +kernel
theorem dX3_init_46 : decode cX3_init 46 = .ok (.dup, 1) := by decide +kernel
theorem dX3_init_47 : decode cX3_init 47 = .ok (.bipush 6, 2) := by decide +kernel
theorem dX3_init_49 : decode cX3_init 49 = .ok (.iconst 2, 1) := by decide +kernel
theorem dX3_init_50 : decode cX3_init 50 = .ok (.invokespecial 20, 3) := by decide +kernel
theorem dX3_init_53 : decode cX3_init 53 = .ok (.putfield 30, 3) := by decide +kernel
theorem dX3_init_56 : decode cX3_init 56 = .ok (.aload_n 0, 1) := by decide +kernel
theorem dX3_init_57 : decode cX3_init 57 = .ok (.new 18, 3) := by decide +kernel
theorem dX3_init_60 : decode cX3_init 60 = .ok (.dup, 1) := by decide +kernel
theorem dX3_init_61 : decode cX3_init 61 = .ok (.bipush 6, 2) := by decide +kernel
theorem dX3_init_63 : decode cX3_init 63 = .ok (.iconst 2, 1) := by decide +kernel
theorem dX3_init_64 : decode cX3_init 64 = .ok (.invokespecial 20, 3) := by decide +kernel
theorem dX3_init_67 : decode cX3_init 67 = .ok (.putfield 33, 3) := by decide +kernel
theorem dX3_init_70 : decode cX3_init 70 = .ok (.aload_n 0, 1) := by decide +kernel
theorem dX3_init_71 : decode cX3_init 71 = .ok (.new 18, 3) := by decide +kernel
theorem dX3_init_74 : decode cX3_init 74 = .ok (.dup, 1) := by decide +kernel
theorem dX3_init_75 : decode cX3_init 75 = .ok (.iconst 4, 1) := by decide +kernel
theorem dX3_init_76 : decode cX3_init 76 = .ok (.iconst 5, 1) := by decide +kernel
theorem dX3_init_77 : decode cX3_init 77 = .ok (.invokespecial 20, 3) := by decide +kernel
theorem dX3_init_80 : decode cX3_init 80 = .ok (.putfield 36, 3) := by decide +kernel
theorem dX3_init_83 : decode cX3_init 83 = .ok (.aload_n 0, 1) := by decide +kernel
theorem dX3_init_84 : decode cX3_init 84 = .ok (.new 18, 3) := by decide +kernel
theorem dX3_init_87 : decode cX3_init 87 = .ok (.dup, 1) := by decide +kernel
theorem dX3_init_88 : decode cX3_init 88 = .ok (.iconst 5, 1) := by decide +kernel
theorem dX3_init_89 : decode cX3_init 89 = .ok (.iconst 3, 1) := by decide +kernel
theorem dX3_init_90 : decode cX3_init 90 = .ok (.invokespecial 20, 3) := by decide +kernel
theorem dX3_init_93 : decode cX3_init 93 = .ok (.putfield 39, 3) := by decide +kernel
theorem dX3_init_96 : decode cX3_init 96 = .ok (.aload_n 0, 1) := by decide +kernel
theorem dX3_init_97 : decode cX3_init 97 = .ok (.new 18, 3) := by decide +kernel
theorem dX3_init_100 : decode cX3_init 100 = .ok (.dup, 1) := by decide +kernel
theorem dX3_init_101 : decode cX3_init 101 = .ok (.bipush 16, 2) := by decide +kernel
theorem dX3_init_103 : decode cX3_init 103 = .ok (.iconst 5, 1) := by decide +kernel
theorem dX3_init_104 : decode cX3_init 104 = .ok (.invokespecial 20, 3) := by decide +kernel
theorem dX3_init_107 : decode cX3_init 107 = .ok (.putfield 42, 3) := by decide +kernel
theorem dX3_init_110 : decode cX3_init 110 = .ok (.return_, 1) := by decide +kernel
theorem dX4_init_0 : decode cX4_init 0 = .ok (.aload_n 0, 1) := by decide +kernel
theorem dX4_init_1 : decode cX4_init 1 = .ok (.invokespecial 3, 3) := by decide +kernel
theorem dX4_init_4 : decode cX4_init 4 = .ok (.aload_n 0, 1) := by decide +kernel
theorem dX4_init_5 : decode cX4_init 5 = .ok (.sipush 6416, 3) := by decide +kernel
theorem dX4_init_8 : decode cX4_init 8 = .ok (.newarray .int, 2) := by decide +kernel
theorem dX4_init_10 : decode cX4_init 10 = .ok (.putfield 9, 3) := by decide +kernel
theorem dX4_init_13 : decode cX4_init 13 = .ok (.aload_n 0, 1) := by decide +kernel
theorem dX4_init_14 : decode cX4_init 14 = .ok (.sipush 401, 3) := by decide +kernel
theorem dX4_init_17 : decode cX4_init 17 = .ok (.newarray .int, 2) := by decide +kernel
theorem dX4_init_19 : decode cX4_init 19 = .ok (.putfield 15, 3) := by decide +kernel
theorem dX4_init_22 : decode cX4_init 22 = .ok (.aload_n 0, 1) := by decide +kernel
theorem dX4_init_23 : decode cX4_init 23 = .ok (.iconst 0, 1) := by decide +kernel
theorem dX4_init_24 : decode cX4_init 24 = .ok (.putfield 18, 3) := by decide +kernel
theorem dX4_init_27 : decode cX4_init 27 = .ok (.return_, 1) := by decide +kernel
theorem dX5_init_0 : decode cX5_init 0 = .ok (.aload_n 0, 1) := by decide +kernel
theorem dX5_init_1 : decode cX5_init 1 = .ok (.invokespecial 3, 3) := by decide +kernel
theorem dX5_init_4 : decode cX5_init 4 = .ok (.aload_n 0, 1) := by decide +kernel
theorem dX5_init_5 : decode cX5_init 5 = .ok (.iconst 0, 1) := by decide +kernel
theorem dX5_init_6 : decode cX5_init 6 = .ok (.newarray .byte, 2) := by decide +kernel
theorem dX5_init_8 : decode cX5_init 8 = .ok (.putfield 9, 3) := by decide +kernel
theorem dX5_init_11 : decode cX5_init 11 = .ok (.aload_n 0, 1) := by decide +kernel
theorem dX5_init_12 : decode cX5_init 12 = .ok (.iconst 0, 1) := by decide +kernel
theorem dX5_init_13 : decode cX5_init 13 = .ok (.putfield 15, 3) := by decide +kernel
theorem dX5_init_16 : decode cX5_init 16 = .ok (.aload_n 0, 1) := by decide +kernel
theorem dX5_init_17 : decode cX5_init 17 = .ok (.iconst 0, 1) := by decide +kernel
theorem dX5_init_18 : decode cX5_init 18 = .ok (.putfield 19, 3) := by decide +kernel
theorem dX5_init_21 : decode cX5_init 21 = .ok (.aload_n 0, 1) := by decide +kernel
theorem dX5_init_22 : decode cX5_init 22 = .ok (.iconst 0, 1) := by decide +kernel
theorem dX5_init_23 : decode cX5_init 23 = .ok (.putfield 22, 3) := by decide +kernel
theorem dX5_init_26 : decode cX5_init 26 = .ok (.aload_n 0, 1) := by decide +kernel
theorem dX5_init_27 : decode cX5_init 27 = .ok (.iconst 0, 1) := by decide +kernel
theorem dX5_init_28 : decode cX5_init 28 = .ok (.putfield 25, 3) := by decide +kernel
theorem dX5_init_31 : decode cX5_init 31 = .ok (.aload_n 0, 1) := by decide +kernel
theorem dX5_init_32 : decode cX5_init 32 = .ok (.iconst 0, 1) := by decide +kernel
theorem dX5_init_33 : decode cX5_init 33 = .ok (.putfield 28, 3) := by decide +kernel
theorem dX5_init_36 : decode cX5_init 36 = .ok (.aload_n 0, 1) := by decide +kernel
theorem dX5_init_37 : decode cX5_init 37 = .ok (.iconst 0, 1) := by decide +kernel
theorem dX5_init_38 : decode cX5_init 38 = .ok (.putfield 31, 3) := by decide +kernel
theorem dX5_init_41 : decode cX5_init 41 = .ok (.aload_n 0, 1) := by decide +kernel
theorem dX5_init_42 : decode cX5_init 42 = .ok (.iconst (-1), 1) := by decide +kernel
theorem dX5_init_43 : decode cX5_init 43 = .ok (.putfield 34, 3) := by decide +kernel
theorem dX5_init_46 : decode cX5_init 46 = .ok (.return_, 1) := by decide +kernel
theorem dX6_init_0 : decode cX6_init 0 = .ok (.aload_n 0, 1) := by decide +kernel
theorem dX6_init_1 : decode cX6_init 1 = .ok (.invokespecial 3, 3) := by decide +kernel
theorem dX6_init_4 : decode cX6_init 4 = .ok (.aload_n 0, 1) := by decide +kernel
theorem dX6_init_5 : decode cX6_init 5 = .ok (.iconst 0, 1) := by decide +kernel
theorem dX6_init_6 : decode cX6_init 6 = .ok (.putfield 9, 3) := by decide +kernel
theorem dX6_init_9 : decode cX6_init 9 = .ok (.aload_n 0, 1) := by decide +kernel
theorem dX6_init_10 : decode cX6_init 10 = .ok (.iload_n 1, 1) := by decide +kernel
theorem dX6_init_11 : decode cX6_init 11 = .ok (.putfield 15, 3) := by decide +kernel
theorem dX6_init_14 : decode cX6_init 14 = .ok (.aload_n 0, 1) := by decide +kernel
theorem dX6_init_15 : decode cX6_init 15 = .ok (.iload_n 2, 1) := by decide +kernel
theorem dX6_init_16 : decode cX6_init 16 = .ok (.putfield 18, 3) := by decide +kernel
theorem dX6_init_19 : decode cX6_init 19 = .ok (.aload_n 0, 1) := by decide +kernel
theorem dX6_init_20 : decode cX6_init 20 = .ok (.iload_n 1, 1) := by decide +kernel
theorem dX6_init_21 : decode cX6_init 21 = .ok (.iload_n 2, 1) := by decide +kernel
theorem dX6_init_22 : decode cX6_init 22 = .ok (.imul, 1) := by decide +kernel
theorem dX6_init_23 : decode cX6_init 23 = .ok (.newarray .int, 2) := by decide +kernel
theorem dX6_init_25 : decode cX6_init 25 = .ok (.putfield 21, 3) := by decide +kernel
theorem dX6_init_28 : decode cX6_init 28 = .ok (.return_, 1) := by decide +kernel
theorem dX7_init_0 : decode cX7_init 0 = .ok (.aload_n 0, 1) := by decide +kernel
theorem dX7_init_1 : decode cX7_init 1 = .ok (.invokespecial 3, 3) := by decide +kernel
theorem dX7_init_4 : decode cX7_init 4 = .ok (.aload_n 0, 1) := by decide +kernel
theorem dX7_init_5 : decode cX7_init 5 = .ok (.bipush 16, 2) := by decide +kernel
theorem dX7_init_7 : decode cX7_init 7 = .ok (.newarray .int, 2) := by decide +kernel
theorem dX7_init_9 : decode cX7_init 9 = .ok (.putfield 9, 3) := by decide +kernel
theorem dX7_init_12 : decode cX7_init 12 = .ok (.aload_n 0, 1) := by decide +kernel
theorem dX7_init_13 : decode cX7_init 13 = .ok (.bipush 16, 2) := by decide +kernel
theorem dX7_init_15 : decode cX7_init 15 = .ok (.newarray .int, 2) := by decide +kernel
theorem dX7_init_17 : decode cX7_init 17 = .ok (.putfield 15, 3) := by decide +kernel
theorem dX7_init_20 : decode cX7_init 20 = .ok (.aload_n 0, 1) := by decide +kernel
theorem dX7_init_21 : decode cX7_init 21 = .ok (.iconst 0, 1) := by decide +kernel
theorem dX7_init_22 : decode cX7_init 22 = .ok (.putfield 18, 3) := by decide +kernel
theorem dX7_init_25 : decode cX7_init 25 = .ok (.return_, 1) := by decide +kernel
theorem dX8_init_0 : decode cX8_init 0 = .ok (.aload_n 0, 1) := by decide +kernel
theorem dX8_init_1 : decode cX8_init 1 = .ok (.invokespecial 3, 3) := by decide +kernel
theorem dX8_init_4 : decode cX8_init 4 = .ok (.aload_n 0, 1) := by decide +kernel
theorem dX8_init_5 : decode cX8_init 5 = .ok (.bipush 60, 2) := by decide +kernel
theorem dX8_init_7 : decode cX8_init 7 = .ok (.newarray .long, 2) := by decide +kernel
theorem dX8_init_9 : decode cX8_init 9 = .ok (.putfield 11, 3) := by decide +kernel
theorem dX8_init_12 : decode cX8_init 12 = .ok (.aload_n 0, 1) := by decide +kernel
theorem dX8_init_13 : decode cX8_init 13 = .ok (.iconst (-1), 1) := by decide +kernel
theorem dX8_init_14 : decode cX8_init 14 = .ok (.putfield 15, 3) := by decide +kernel
theorem dX8_init_17 : decode cX8_init 17 = .ok (.aload_n 0, 1) := by decide +kernel
theorem dX8_init_18 : decode cX8_init 18 = .ok (.iconst 0, 1) := by decide +kernel
theorem dX8_init_19 : decode cX8_init 19 = .ok (.putfield 19, 3) := by decide +kernel
theorem dX8_init_22 : decode cX8_init 22 = .ok (.return_, 1) := by decide +kernel
theorem dX9_init_0 : decode cX9_init 0 = .ok (.aload_n 0, 1) := by decide +kernel
theorem dX9_init_1 : decode cX9_init 1 = .ok (.invokespecial 3, 3) := by decide +kernel
theorem dX9_init_4 : decode cX9_init 4 = .ok (.aload_n 0, 1) := by decide +kernel
theorem dX9_init_5 : decode cX9_init 5 = .ok (.sipush 401, 3) := by decide +kernel
theorem dX9_init_8 : decode cX9_init 8 = .ok (.newarray .int, 2) := by decide +kernel
theorem dX9_init_10 : decode cX9_init 10 = .ok (.putfield 9, 3) := by decide +kernel
theorem dX9_init_13 : decode cX9_init 13 = .ok (.aload_n 0, 1) := by decide +kernel
theorem dX9_init_14 : decode cX9_init 14 = .ok (.sipush 401, 3) := by decide +kernel
theorem dX9_init_17 : decode cX9_init 17 = .ok (.newarray .int, 2) := by decide +kernel
theorem dX9_init_19 : decode cX9_init 19 = .ok (.putfield 15, 3) := by decide +kernel
theorem dX9_init_22 : decode cX9_init 22 = .ok (.aload_n 0, 1) := by decide +kernel
theorem dX9_init_23 : decode cX9_init 23 = .ok (.sipush 401, 3) := by decide +kernel
theorem dX9_init_26 : decode cX9_init 26 = .ok (.newarray .int, 2) := by decide +kernel
theorem dX9_init_28 : decode cX9_init 28 = .ok (.putfield 18, 3) := by decide +kernel
theorem dX9_init_31 : decode cX9_init 31 = .ok (.aload_n 0, 1) := by decide +kernel
theorem dX9_init_32 : decode cX9_init 32 = .ok (.sipush 6416, 3) := by decide +kernel
theorem dX9_init_35 : decode cX9_init 35 = .ok (.newarray .int, 2) := by decide +kernel
theorem dX9_init_37 : decode cX9_init 37 = .ok (.putfield 21, 3) := by decide +kernel
theorem dX9_init_40 : decode cX9_init 40 = .ok (.aload_n 0, 1) := by decide +kernel
theorem dX9_init_41 : decode cX9_init 41 = .ok (.aconst_null, 1) := by decide +kernel
theorem dX9_init_42 : decode cX9_init 42 = .ok (.putfield 24, 3) := by decide +kernel
theorem dX9_init_45 : decode cX9_init 45 = .ok (.aload_n 0, 1) := by decide +kernel
theorem dX9_init_46 : decode cX9_init 46 = .ok (.iconst 0, 1) := by decide +kernel
theorem dX9_init_47 : decode cX9_init 47 = .ok (.putfield 28, 3) := by decide +kernel
theorem dX9_init_50 : decode cX9_init 50 = .ok (.return_, 1) := by decide +kernel
theorem dX9_lastTold_0 : decode cX9_lastTold 0 = .ok (.aload_n 0, 1) := by decide +kernel
theorem dX9_lastTold_1 : decode cX9_lastTold 1 = .ok (.getfield 59, 3) := by decide +kernel
theorem dX9_lastTold_4 : decode cX9_lastTold 4 = .ok (.iconst 1, 1) := by decide +kernel
theorem dX9_lastTold_5 : decode cX9_lastTold 5 = .ok (.isub, 1) := by decide +kernel
theorem dX9_lastTold_6 : decode cX9_lastTold 6 = .ok (.istore 4, 2) := by decide +kernel
theorem dX9_lastTold_8 : decode cX9_lastTold 8 = .ok (.iload 4, 2) := by decide +kernel
theorem dX9_lastTold_10 : decode cX9_lastTold 10 = .ok (.ifCond .lt 28, 3) := by decide +kernel
theorem dX9_lastTold_38 : decode cX9_lastTold 38 = .ok (.iload_n 3, 1) := by decide +kernel
theorem dX9_lastTold_39 : decode cX9_lastTold 39 = .ok (.ireturn, 1) := by decide +kernel
theorem dX9_lay_0 : decode cX9_lay 0 = .ok (.aload_n 0, 1) := by decide +kernel
theorem dX9_lay_1 : decode cX9_lay 1 = .ok (.aload_n 1, 1) := by decide +kernel
theorem dX9_lay_2 : decode cX9_lay 2 = .ok (.putfield 24, 3) := by decide +kernel
theorem dX9_lay_5 : decode cX9_lay 5 = .ok (.iconst 0, 1) := by decide +kernel
theorem dX9_lay_6 : decode cX9_lay 6 = .ok (.istore_n 3, 1) := by decide +kernel
theorem dX9_lay_7 : decode cX9_lay 7 = .ok (.iload_n 3, 1) := by decide +kernel
theorem dX9_lay_8 : decode cX9_lay 8 = .ok (.aload_n 1, 1) := by decide +kernel
theorem dX9_lay_9 : decode cX9_lay 9 = .ok (.getfield 32, 3) := by decide +kernel
theorem dX9_lay_12 : decode cX9_lay 12 = .ok (.if_icmp .gt 63, 3) := by decide +kernel
theorem dX9_lay_15 : decode cX9_lay 15 = .ok (.iload_n 3, 1) := by decide +kernel
theorem dX9_lay_16 : decode cX9_lay 16 = .ok (.sipush 401, 3) := by decide +kernel
theorem dX9_lay_19 : decode cX9_lay 19 = .ok (.if_icmp .ge 56, 3) := by decide +kernel
theorem dX9_lay_22 : decode cX9_lay 22 = .ok (.aload_n 0, 1) := by decide +kernel
theorem dX9_lay_23 : decode cX9_lay 23 = .ok (.getfield 9, 3) := by decide +kernel
theorem dX9_lay_26 : decode cX9_lay 26 = .ok (.iload_n 3, 1) := by decide +kernel
theorem dX9_lay_27 : decode cX9_lay 27 = .ok (.aload_n 1, 1) := by decide +kernel
theorem dX9_lay_28 : decode cX9_lay 28 = .ok (.getfield 37, 3) := by decide +kernel
theorem dX9_lay_31 : decode cX9_lay 31 = .ok (.iconst 1, 1) := by decide +kernel
theorem dX9_lay_32 : decode cX9_lay 32 = .ok (.iload_n 3, 1) := by decide +kernel
theorem dX9_lay_33 : decode cX9_lay 33 = .ok (.iconst 0, 1) := by decide +kernel
theorem dX9_lay_34 : decode cX9_lay 34 = .ok (.invokestatic 40, 3) := by decide +kernel
theorem dX9_lay_37 : decode cX9_lay 37 = .ok (.iastore, 1) := by decide +kernel
theorem dX9_lay_38 : decode cX9_lay 38 = .ok (.aload_n 0, 1) := by decide +kernel
theorem dX9_lay_39 : decode cX9_lay 39 = .ok (.getfield 15, 3) := by decide +kernel
theorem dX9_lay_42 : decode cX9_lay 42 = .ok (.iload_n 3, 1) := by decide +kernel
theorem dX9_lay_43 : decode cX9_lay 43 = .ok (.aload_n 1, 1) := by decide +kernel
theorem dX9_lay_44 : decode cX9_lay 44 = .ok (.getfield 44, 3) := by decide +kernel
theorem dX9_lay_47 : decode cX9_lay 47 = .ok (.iload_n 3, 1) := by decide +kernel
theorem dX9_lay_48 : decode cX9_lay 48 = .ok (.invokestatic 46, 3) := by decide +kernel
theorem dX9_lay_51 : decode cX9_lay 51 = .ok (.iastore, 1) := by decide +kernel
theorem dX9_lay_52 : decode cX9_lay 52 = .ok (.aload_n 0, 1) := by decide +kernel
theorem dX9_lay_53 : decode cX9_lay 53 = .ok (.getfield 18, 3) := by decide +kernel
theorem dX9_lay_56 : decode cX9_lay 56 = .ok (.iload_n 3, 1) := by decide +kernel
theorem dX9_lay_57 : decode cX9_lay 57 = .ok (.aload_n 1, 1) := by decide +kernel
theorem dX9_lay_58 : decode cX9_lay 58 = .ok (.getfield 50, 3) := by decide +kernel
theorem dX9_lay_61 : decode cX9_lay 61 = .ok (.iconst 1, 1) := by decide +kernel
theorem dX9_lay_62 : decode cX9_lay 62 = .ok (.iload_n 3, 1) := by decide +kernel
theorem dX9_lay_63 : decode cX9_lay 63 = .ok (.bipush 15, 2) := by decide +kernel
theorem dX9_lay_65 : decode cX9_lay 65 = .ok (.invokestatic 40, 3) := by decide +kernel
theorem dX9_lay_68 : decode cX9_lay 68 = .ok (.iastore, 1) := by decide +kernel
theorem dX9_lay_69 : decode cX9_lay 69 = .ok (.iinc 3 1, 3) := by decide +kernel
theorem dX9_lay_72 : decode cX9_lay 72 = .ok (.goto (-65), 3) := by decide +kernel
theorem dX9_lay_75 : decode cX9_lay 75 = .ok (.aload_n 0, 1) := by decide +kernel
theorem dX9_lay_76 : decode cX9_lay 76 = .ok (.iload_n 2, 1) := by decide +kernel
theorem dX9_lay_77 : decode cX9_lay 77 = .ok (.invokevirtual 52, 3) := by decide +kernel
theorem dX9_lay_80 : decode cX9_lay 80 = .ok (.return_, 1) := by decide +kernel
theorem dX9_soak_0 : decode cX9_soak 0 = .ok (.iconst 0, 1) := by decide +kernel
theorem dX9_soak_1 : decode cX9_soak 1 = .ok (.istore_n 2, 1) := by decide +kernel
theorem dX9_soak_2 : decode cX9_soak 2 = .ok (.aload_n 0, 1) := by decide +kernel
theorem dX9_soak_3 : decode cX9_soak 3 = .ok (.getfield 24, 3) := by decide +kernel
theorem dX9_soak_6 : decode cX9_soak 6 = .ok (.ifnull 29, 3) := by decide +kernel
theorem dX9_soak_9 : decode cX9_soak 9 = .ok (.iload_n 2, 1) := by decide +kernel
theorem dX9_soak_10 : decode cX9_soak 10 = .ok (.aload_n 0, 1) := by decide +kernel
theorem dX9_soak_11 : decode cX9_soak 11 = .ok (.getfield 24, 3) := by decide +kernel
theorem dX9_soak_14 : decode cX9_soak 14 = .ok (.getfield 56, 3) := by decide +kernel
theorem dX9_soak_17 : decode cX9_soak 17 = .ok (.getfield 59, 3) := by decide +kernel
theorem dX9_soak_20 : decode cX9_soak 20 = .ok (.if_icmp .ge 15, 3) := by decide +kernel
theorem dX9_soak_35 : decode cX9_soak 35 = .ok (.aload_n 0, 1) := by decide +kernel
theorem dX9_soak_36 : decode cX9_soak 36 = .ok (.iload_n 1, 1) := by decide +kernel
theorem dX9_soak_37 : decode cX9_soak 37 = .ok (.putfield 28, 3) := by decide +kernel
theorem dX9_soak_40 : decode cX9_soak 40 = .ok (.return_, 1) := by decide +kernel
theorem dX9_wettest_0 : decode cX9_wettest 0 = .ok (.iconst 0, 1) := by decide +kernel
theorem dX9_wettest_1 : decode cX9_wettest 1 = .ok (.istore_n 2, 1) := by decide +kernel
theorem dX9_wettest_2 : decode cX9_wettest 2 = .ok (.iconst 0, 1) := by decide +kernel
theorem dX9_wettest_3 : decode cX9_wettest 3 = .ok (.istore_n 3, 1) := by decide +kernel
theorem dX9_wettest_4 : decode cX9_wettest 4 = .ok (.iload_n 3, 1) := by decide +kernel
theorem dX9_wettest_5 : decode cX9_wettest 5 = .ok (.aload_n 0, 1) := by decide +kernel
theorem dX9_wettest_6 : decode cX9_wettest 6 = .ok (.getfield 59, 3) := by decide +kernel
theorem dX9_wettest_9 : decode cX9_wettest 9 = .ok (.if_icmp .ge 40, 3) := by decide +kernel
theorem dX9_wettest_49 : decode cX9_wettest 49 = .ok (.iload_n 2, 1) := by decide +kernel
theorem dX9_wettest_50 : decode cX9_wettest 50 = .ok (.ireturn, 1) := by decide +kernel
abbrev wgJ7_fill_53178 : List Cond := .code yJ7_fill_53178 cJ7_fill_53178 4 none :: wG
theorem hdJ7_fill_53178 : yJ7_fill_53178.cls ≠ "java/lang/invoke/MethodHandle" ∧ yJ7_fill_53178.cls ≠ "java/lang/invoke/VarHandle" ∧ (parseMethodDescriptor yJ7_fill_53178.desc).map (fun d => d.parameters.length) = some 2 := by decide +kernel
abbrev wgX0_init : List Cond := .code yX0_init cX0_init 3 none :: wG
theorem hdX0_init : yX0_init.cls ≠ "java/lang/invoke/MethodHandle" ∧ yX0_init.cls ≠ "java/lang/invoke/VarHandle" ∧ (parseMethodDescriptor yX0_init.desc).map (fun d => d.parameters.length) = some 2 := by decide +kernel
abbrev wgX10_init : List Cond := .code yX10_init cX10_init 2 none :: wG
theorem hdX10_init : yX10_init.cls ≠ "java/lang/invoke/MethodHandle" ∧ yX10_init.cls ≠ "java/lang/invoke/VarHandle" ∧ (parseMethodDescriptor yX10_init.desc).map (fun d => d.parameters.length) = some 0 := by decide +kernel
abbrev wgX11_init : List Cond := .code yX11_init cX11_init 2 none :: wG
theorem hdX11_init : yX11_init.cls ≠ "java/lang/invoke/MethodHandle" ∧ yX11_init.cls ≠ "java/lang/invoke/VarHandle" ∧ (parseMethodDescriptor yX11_init.desc).map (fun d => d.parameters.length) = some 0 := by decide +kernel
abbrev wgX1_init : List Cond := .code yX1_init cX1_init 2 none :: wG
theorem hdX1_init : yX1_init.cls ≠ "java/lang/invoke/MethodHandle" ∧ yX1_init.cls ≠ "java/lang/invoke/VarHandle" ∧ (parseMethodDescriptor yX1_init.desc).map (fun d => d.parameters.length) = some 1 := by decide +kernel
abbrev wgX2_init : List Cond := .code yX2_init cX2_init 3 none :: wG
theorem hdX2_init : yX2_init.cls ≠ "java/lang/invoke/MethodHandle" ∧ yX2_init.cls ≠ "java/lang/invoke/VarHandle" ∧ (parseMethodDescriptor yX2_init.desc).map (fun d => d.parameters.length) = some 2 := by decide +kernel
abbrev wgX3_init : List Cond := .code yX3_init cX3_init 1 none :: wG
theorem hdX3_init : yX3_init.cls ≠ "java/lang/invoke/MethodHandle" ∧ yX3_init.cls ≠ "java/lang/invoke/VarHandle" ∧ (parseMethodDescriptor yX3_init.desc).map (fun d => d.parameters.length) = some 0 := by decide +kernel
abbrev wgX4_init : List Cond := .code yX4_init cX4_init 1 none :: wG
theorem hdX4_init : yX4_init.cls ≠ "java/lang/invoke/MethodHandle" ∧ yX4_init.cls ≠ "java/lang/invoke/VarHandle" ∧ (parseMethodDescriptor yX4_init.desc).map (fun d => d.parameters.length) = some 0 := by decide +kernel
abbrev wgX5_init : List Cond := .code yX5_init cX5_init 1 none :: wG
theorem hdX5_init : yX5_init.cls ≠ "java/lang/invoke/MethodHandle" ∧ yX5_init.cls ≠ "java/lang/invoke/VarHandle" ∧ (parseMethodDescriptor yX5_init.desc).map (fun d => d.parameters.length) = some 0 := by decide +kernel
abbrev wgX6_init : List Cond := .code yX6_init cX6_init 3 none :: wG
theorem hdX6_init : yX6_init.cls ≠ "java/lang/invoke/MethodHandle" ∧ yX6_init.cls ≠ "java/lang/invoke/VarHandle" ∧ (parseMethodDescriptor yX6_init.desc).map (fun d => d.parameters.length) = some 2 := by decide +kernel
abbrev wgX7_init : List Cond := .code yX7_init cX7_init 1 none :: wG
theorem hdX7_init : yX7_init.cls ≠ "java/lang/invoke/MethodHandle" ∧ yX7_init.cls ≠ "java/lang/invoke/VarHandle" ∧ (parseMethodDescriptor yX7_init.desc).map (fun d => d.parameters.length) = some 0 := by decide +kernel
abbrev wgX8_init : List Cond := .code yX8_init cX8_init 1 none :: wG
theorem hdX8_init : yX8_init.cls ≠ "java/lang/invoke/MethodHandle" ∧ yX8_init.cls ≠ "java/lang/invoke/VarHandle" ∧ (parseMethodDescriptor yX8_init.desc).map (fun d => d.parameters.length) = some 0 := by decide +kernel
abbrev wgX9_init : List Cond := .code yX9_init cX9_init 1 none :: wG
theorem hdX9_init : yX9_init.cls ≠ "java/lang/invoke/MethodHandle" ∧ yX9_init.cls ≠ "java/lang/invoke/VarHandle" ∧ (parseMethodDescriptor yX9_init.desc).map (fun d => d.parameters.length) = some 0 := by decide +kernel
abbrev wgX9_lastTold : List Cond := .code yX9_lastTold cX9_lastTold 5 (some .int) :: wG
theorem hdX9_lastTold : yX9_lastTold.cls ≠ "java/lang/invoke/MethodHandle" ∧ yX9_lastTold.cls ≠ "java/lang/invoke/VarHandle" ∧ (parseMethodDescriptor yX9_lastTold.desc).map (fun d => d.parameters.length) = some 4 := by decide +kernel
abbrev wgX9_lay : List Cond := .code yX9_lay cX9_lay 4 none :: wG
theorem hdX9_lay : yX9_lay.cls ≠ "java/lang/invoke/MethodHandle" ∧ yX9_lay.cls ≠ "java/lang/invoke/VarHandle" ∧ (parseMethodDescriptor yX9_lay.desc).map (fun d => d.parameters.length) = some 2 := by decide +kernel
abbrev wgX9_soak : List Cond := .code yX9_soak cX9_soak 3 none :: wG
theorem hdX9_soak : yX9_soak.cls ≠ "java/lang/invoke/MethodHandle" ∧ yX9_soak.cls ≠ "java/lang/invoke/VarHandle" ∧ (parseMethodDescriptor yX9_soak.desc).map (fun d => d.parameters.length) = some 1 := by decide +kernel
abbrev wgX9_wettest : List Cond := .code yX9_wettest cX9_wettest 4 (some .int) :: wG
theorem hdX9_wettest : yX9_wettest.cls ≠ "java/lang/invoke/MethodHandle" ∧ yX9_wettest.cls ≠ "java/lang/invoke/VarHandle" ∧ (parseMethodDescriptor yX9_wettest.desc).map (fun d => d.parameters.length) = some 2 := by decide +kernel
theorem dfX0 : ∀ j, j < 12 → defaultValue (tyX0 j) = vp_V [.null, .null, .null, .null, .null, .null, .int 0, .null, .int 0, .int 0, .int 0, .int 0] j := by
  intro j hj
  match j, hj with
  | 0, _ => rfl
  | 1, _ => rfl
  | 2, _ => rfl
  | 3, _ => rfl
  | 4, _ => rfl
  | 5, _ => rfl
  | 6, _ => rfl
  | 7, _ => rfl
  | 8, _ => rfl
  | 9, _ => rfl
  | 10, _ => rfl
  | 11, _ => rfl
  | k + 12, h => exact absurd h (by omega)
theorem dfX1 : ∀ j, j < 7 → defaultValue (tyX1 j) = vp_V [.null, .null, .null, .null, .int 0, .int 0, .int 0] j := by
  intro j hj
  match j, hj with
  | 0, _ => rfl
  | 1, _ => rfl
  | 2, _ => rfl
  | 3, _ => rfl
  | 4, _ => rfl
  | 5, _ => rfl
  | 6, _ => rfl
  | k + 7, h => exact absurd h (by omega)
theorem dfX2 : ∀ j, j < 15 → defaultValue (tyX2 j) = vp_V [.null, .null, .null, .null, .null, .null, .null, .null, .null, .null, .null, .null, .null, .int 0, .null] j := by
  intro j hj
  match j, hj with
  | 0, _ => rfl
  | 1, _ => rfl
  | 2, _ => rfl
  | 3, _ => rfl
  | 4, _ => rfl
  | 5, _ => rfl
  | 6, _ => rfl
  | 7, _ => rfl
  | 8, _ => rfl
  | 9, _ => rfl
  | 10, _ => rfl
  | 11, _ => rfl
  | 12, _ => rfl
  | 13, _ => rfl
  | 14, _ => rfl
  | k + 15, h => exact absurd h (by omega)
theorem dfX3 : ∀ j, j < 9 → defaultValue (tyX3 j) = vp_V [.int 0, .int 0, .null, .null, .null, .null, .null, .null, .null] j := by
  intro j hj
  match j, hj with
  | 0, _ => rfl
  | 1, _ => rfl
  | 2, _ => rfl
  | 3, _ => rfl
  | 4, _ => rfl
  | 5, _ => rfl
  | 6, _ => rfl
  | 7, _ => rfl
  | 8, _ => rfl
  | k + 9, h => exact absurd h (by omega)
theorem dfX4 : ∀ j, j < 3 → defaultValue (tyX4 j) = vp_V [.null, .null, .int 0] j := by
  intro j hj
  match j, hj with
  | 0, _ => rfl
  | 1, _ => rfl
  | 2, _ => rfl
  | k + 3, h => exact absurd h (by omega)
theorem dfX5 : ∀ j, j < 8 → defaultValue (tyX5 j) = vp_V [.null, .int 0, .int 0, .int 0, .int 0, .int 0, .int 0, .int 0] j := by
  intro j hj
  match j, hj with
  | 0, _ => rfl
  | 1, _ => rfl
  | 2, _ => rfl
  | 3, _ => rfl
  | 4, _ => rfl
  | 5, _ => rfl
  | 6, _ => rfl
  | 7, _ => rfl
  | k + 8, h => exact absurd h (by omega)
theorem dfX6 : ∀ j, j < 4 → defaultValue (tyX6 j) = vp_V [.int 0, .int 0, .null, .int 0] j := by
  intro j hj
  match j, hj with
  | 0, _ => rfl
  | 1, _ => rfl
  | 2, _ => rfl
  | 3, _ => rfl
  | k + 4, h => exact absurd h (by omega)
theorem dfX7 : ∀ j, j < 3 → defaultValue (tyX7 j) = vp_V [.null, .null, .int 0] j := by
  intro j hj
  match j, hj with
  | 0, _ => rfl
  | 1, _ => rfl
  | 2, _ => rfl
  | k + 3, h => exact absurd h (by omega)
theorem dfX8 : ∀ j, j < 3 → defaultValue (tyX8 j) = vp_V [.null, .int 0, .int 0] j := by
  intro j hj
  match j, hj with
  | 0, _ => rfl
  | 1, _ => rfl
  | 2, _ => rfl
  | k + 3, h => exact absurd h (by omega)
theorem dfX9 : ∀ j, j < 6 → defaultValue (tyX9 j) = vp_V [.null, .null, .null, .null, .null, .int 0] j := by
  intro j hj
  match j, hj with
  | 0, _ => rfl
  | 1, _ => rfl
  | 2, _ => rfl
  | 3, _ => rfl
  | 4, _ => rfl
  | 5, _ => rfl
  | k + 6, h => exact absurd h (by omega)
theorem dfX10 : ∀ j, j < 15 → defaultValue (tyX10 j) = vp_V [.null, .int 0, .null, .null, .null, .null, .null, .null, .null, .null, .null, .null, .null, .null, .null] j := by
  intro j hj
  match j, hj with
  | 0, _ => rfl
  | 1, _ => rfl
  | 2, _ => rfl
  | 3, _ => rfl
  | 4, _ => rfl
  | 5, _ => rfl
  | 6, _ => rfl
  | 7, _ => rfl
  | 8, _ => rfl
  | 9, _ => rfl
  | 10, _ => rfl
  | 11, _ => rfl
  | 12, _ => rfl
  | 13, _ => rfl
  | 14, _ => rfl
  | k + 15, h => exact absurd h (by omega)
theorem dfX11 : ∀ j, j < 58 → defaultValue (tyX11 j) = vp_V [.int 0, .null, .null, .null, .null, .null, .int 0, .int 0, .int 0, .int 0, .int 0, .long 0, .int 0, .int 0, .int 0, .int 0, .null, .null, .null, .null, .null, .null, .null, .null, .null, .null, .null, .null, .null, .int 0, .int 0, .null, .null, .int 0, .int 0, .int 0, .null, .null, .null, .null, .null, .null, .null, .null, .null, .null, .null, .null, .int 0, .int 0, .int 0, .int 0, .null, .int 0, .int 0, .int 0, .int 0, .long 0] j := by
  intro j hj
  match j, hj with
  | 0, _ => rfl
  | 1, _ => rfl
  | 2, _ => rfl
  | 3, _ => rfl
  | 4, _ => rfl
  | 5, _ => rfl
  | 6, _ => rfl
  | 7, _ => rfl
  | 8, _ => rfl
  | 9, _ => rfl
  | 10, _ => rfl
  | 11, _ => rfl
  | 12, _ => rfl
  | 13, _ => rfl
  | 14, _ => rfl
  | 15, _ => rfl
  | 16, _ => rfl
  | 17, _ => rfl
  | 18, _ => rfl
  | 19, _ => rfl
  | 20, _ => rfl
  | 21, _ => rfl
  | 22, _ => rfl
  | 23, _ => rfl
  | 24, _ => rfl
  | 25, _ => rfl
  | 26, _ => rfl
  | 27, _ => rfl
  | 28, _ => rfl
  | 29, _ => rfl
  | 30, _ => rfl
  | 31, _ => rfl
  | 32, _ => rfl
  | 33, _ => rfl
  | 34, _ => rfl
  | 35, _ => rfl
  | 36, _ => rfl
  | 37, _ => rfl
  | 38, _ => rfl
  | 39, _ => rfl
  | 40, _ => rfl
  | 41, _ => rfl
  | 42, _ => rfl
  | 43, _ => rfl
  | 44, _ => rfl
  | 45, _ => rfl
  | 46, _ => rfl
  | 47, _ => rfl
  | 48, _ => rfl
  | 49, _ => rfl
  | 50, _ => rfl
  | 51, _ => rfl
  | 52, _ => rfl
  | 53, _ => rfl
  | 54, _ => rfl
  | 55, _ => rfl
  | 56, _ => rfl
  | 57, _ => rfl
  | k + 58, h => exact absurd h (by omega)
