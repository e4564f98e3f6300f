/-! own rows: numbers, a fixed list of array classes, contracts that read (preS) or write (preQ), calls by them -/
theorem fa_lt (a b : Int32) : a < b ↔ a.toInt < b.toInt := Int32.lt_iff_toInt_lt
theorem fa_le (a b : Int32) : a ≤ b ↔ a.toInt ≤ b.toInt := Int32.le_iff_toInt_le
theorem fa_eq (a b : Int32) : a = b ↔ a.toInt = b.toInt := Int32.toInt_inj.symm
theorem fa_lt64 (a b : Int64) : a < b ↔ a.toInt < b.toInt := Int64.lt_iff_toInt_lt
theorem fa_le64 (a b : Int64) : a ≤ b ↔ a.toInt ≤ b.toInt := Int64.le_iff_toInt_le
theorem fa_eq64 (a b : Int64) : a = b ↔ a.toInt = b.toInt := Int64.toInt_inj.symm
abbrev KG : Type := va_G × (Nat → ClassId)
abbrev tyG (G : KG) : List (ClassId × FieldType) := [(G.2 0, .int), (G.2 1, .byte), (G.2 2, .boolean), (G.2 3, .long), (G.2 4, .object "SlipCoach$Line"), (G.2 5, .object "SlipCoach$Slot")]
/-- private constructors and methods that a nest mate calls -/
abbrev nsL : List (String × Nat × MethodName) := [(RX10, 19, yX5_init), (RX10, 26, yX3_init), (RX10, 54, yX9_init), (RX10, 70, yX4_init), (RX10, 95, yX7_init), (RX10, 100, yX8_init), (RX9, 72, yX10_isAmong), (RX9, 101, yX10_speedLess), (RX1, 39, yX10_isAmong), (RX1, 43, yX10_cellOf), (RX1, 90, yX10_speedLess), (RX4, 28, yX10_isAmong), (RX4, 38, yX10_cellOf), (RX4, 51, yX10_speedLess), (RX2, 67, yX10_isAmong), (RX7, 63, yX10_isAmong)]
def aoG (U : State) : Prop := va_AO "SlipCoach$Line" U ∧ va_AO "SlipCoach$Slot" U ∧ (Cond.arrayOver (.array .byte)).before #[] U = true ∧ ∀ (k : Nat) (q : String × Nat × MethodName), nsL[k]? = some q → va_Nw (.methodLinkNest q.1 q.2.1 q.2.2 "SlipCoach") U
def kG (G : KG) (U : State) : Prop := va_K G.1 vwCl (tyG G) U ∧ aoG U
theorem kG_warm {G : KG} {s U : State} (h : s.WarmedH U.vm) (k : kG G s) : kG G U := ⟨va_K.moved h.alike k.1, va_AO.moved h.alike k.2.1, va_AO.moved h.alike k.2.2.1, over_moved h.alike k.2.2.2.1, fun i q hq => va_Nw.warmM h (k.2.2.2.2 i q hq)⟩
theorem kG_same {G : KG} {u U : State} (h : u.vm = U.vm) (k : kG G u) : kG G U := by
  have h2 : u.vm.Alike U.vm := h ▸ Vm.Alike.refl u.vm
  exact ⟨va_K.moved h2 k.1, va_AO.moved h2 k.2.1, va_AO.moved h2 k.2.2.1, over_moved h2 k.2.2.2.1, fun i q hq => va_Nw.same rfl h (k.2.2.2.2 i q hq)⟩
abbrev preS (G : KG) (av : List Value) (ws : va_W) : Array Value → State → Prop := va_Pc av (fun U => va_P G.1 vwCl ws U.heap ∧ kG G U)
abbrev preQ (G : KG) (av : List Value) (sz : Nat) (ws : va_W) : Array Value → State → Prop := va_Pc av (fun U => U.heap.size = sz ∧ va_P G.1 vwCl ws U.heap ∧ kG G U ∧ va_D (fun _ => True) ws)
abbrev atQ (G : KG) (A : Nat → Prop) (ws : va_W) (t : State) : Prop := va_P G.1 vwCl ws t.heap ∧ va_D A ws
theorem fm_of_map {α : Type} (f : Nat → Option α) : ∀ (is : List Nat) (w : List α), is.map f = w.map some → is.filterMap f = w
  | [], [], _ => rfl
  | [], _ :: _, h => by simp at h
  | _ :: _, [], h => by simp at h
  | i :: is, a :: w, h => by
    simp only [List.map_cons, List.cons.injEq] at h
    rw [List.filterMap_cons, h.1]
    simp only [fm_of_map f is w h.2]
theorem preS_S {G : KG} {s : State} {H : Heap} {As : List Value} {ws wc : va_W} (hKG : kG G s) (hP : va_P G.1 vwCl ws H) (is : List Nat) (hs : is.filterMap (fun i => ws[i]?) = wc) : PreS s H (preS G As wc) As :=
  ⟨fun a U g mk q => by obtain ⟨q0, qP, qK⟩ := q; exact ⟨q0, qP, kG_same (u := U) (U := U.calling g mk a) rfl qK⟩, fun U hU hW => ⟨rfl, by rw [hU]; exact hP.sub is hs, kG_warm hW hKG⟩⟩
theorem preS_V {G : KG} {s : State} {H : Heap} {As : List Value} {ws wc : va_W} {a ci : Nat} {q : vw_C} {fs : List Value} (hKG : kG G s) (hP : va_P G.1 vwCl ws H) (is : List Nat) (hs : is.filterMap (fun i => ws[i]?) = wc) (hc : vwCl[ci]? = some q) (he : wc[0]? = some (a, .inr (ci, fs))) : PreV s H q.1 a (preS G (.ref a :: As) wc) As :=
  ⟨(preS_S hKG hP is hs).1, va_recv hKG.1 (hP.sub is hs) hc he, (preS_S hKG hP is hs).2⟩
theorem preQ_S {G : KG} {s : State} {H : Heap} {As : List Value} {ws wc : va_W} {A : Nat → Prop} (hKG : kG G s) (hP : va_P G.1 vwCl ws H) (hD : va_D A ws) (is : List Nat) (hn : va_nd is = true) (hs : is.map (fun i => ws[i]?) = wc.map some) : PreS s H (preQ G As H.size wc) As :=
  ⟨fun a U g mk q => by obtain ⟨q0, q1, qP, qK, qD⟩ := q; exact ⟨q0, q1, qP, kG_same (u := U) (U := U.calling g mk a) rfl qK, qD⟩, fun U hU hW => ⟨rfl, by rw [hU], by rw [hU]; exact hP.sub is (fm_of_map _ is wc hs), kG_warm hW hKG, (hD.sub is hn hs).weaken (fun _ _ _ _ => trivial)⟩⟩
theorem preQ_V {G : KG} {s : State} {H : Heap} {As : List Value} {ws wc : va_W} {A : Nat → Prop} {a ci : Nat} {q : vw_C} {fs : List Value} (hKG : kG G s) (hP : va_P G.1 vwCl ws H) (hD : va_D A ws) (is : List Nat) (hn : va_nd is = true) (hs : is.map (fun i => ws[i]?) = wc.map some) (hc : vwCl[ci]? = some q) (he : wc[0]? = some (a, .inr (ci, fs))) : PreV s H q.1 a (preQ G (.ref a :: As) H.size wc) As :=
  ⟨(preQ_S hKG hP hD is hn hs).1, va_recv hKG.1 (hP.sub is (fm_of_map _ is wc hs)) hc he, (preQ_S hKG hP hD is hn hs).2⟩
section OWN
variable {p : Program} {l : Launch} {e : Env} {R : Room} {s : State} {m : MethodId} {args : Array Value} {below : List Frame} {meth : Method} {c : Code} {H H0 : Heap} {locs : List Loc} {cells slots mc ms : Nat} {Q : State → Prop} {pc : Nat} {ls : Array Slot} {rest st0 : List Value} {a : Array Value} {G : KG} {A : Nat → Prop} {ws wc wr : va_W} {cc : ByteArray}
theorem lv_cst {x y : Int32} (h : x = y) (k : W p l e R s m args below meth c H locs cells slots Q (F0 m pc ls (.int y :: rest))) : W p l e R s m args below meth c H locs cells slots Q (F0 m pc ls (.int x :: rest)) := h ▸ k
theorem lv_cstl {x y : Int64} (h : x = y) (k : W p l e R s m args below meth c H locs cells slots Q (F0 m pc ls (.long y :: rest))) : W p l e R s m args below meth c H locs cells slots Q (F0 m pc ls (.long x :: rest)) := h ▸ k
theorem wq_calli {S : Type} {post : Int32 → S → Prop} {w1 : S → va_W} (hr : va_Run p l e R s m args below meth c H locs cells slots mc ms (F0 m pc ls st0) rest (va_Qi post (fun u t => atQ G (va_A wc H.size) (w1 u) t) (va_A wc H.size) a) (va_A wc H.size)) (hS : va_S A H0 H locs) (hP : va_P G.1 vwCl ws H) (hD : va_D A ws) (hA : ∀ q, H0.size ≤ q → A q) (isC isR : List Nat) (hC : isC.map (fun i => ws[i]?) = wc.map some) (hR : isR.map (fun i => ws[i]?) = wr.map some) (hn : va_nd isR = true) (hdis : ∀ i ∈ isR, i ∉ isC)
    (kk : ∀ (r : Int32) (u : S) (H1 : Heap) (locs1 : List Loc), post r u → va_P G.1 vwCl (wr ++ w1 u) H1 → va_D A (wr ++ w1 u) → va_S A H0 H1 locs1 → W p l e R s m args below meth c H1 locs1 (cells + mc) (slots + ms) Q (F0 m (pc + 3) ls (.int r :: rest))) : W p l e R s m args below meth c H locs cells slots Q (F0 m pc ls st0) := by
  have hFc := va_free (wc := wc) hD hS hA isC hC
  refine va_calli hr hS (fun q _ h => hFc q h) hFc (fun r u t H1 locs1 ht hvm hw hB hz1 hk1 hS1 => ?_)
  obtain ⟨hP1, hD1⟩ := hB
  rw [ht] at hP1
  obtain ⟨hP2, hD2⟩ := va_join hP hD isC isR hC hR hn hdis hk1 hFc hP1 hD1
  exact kk r u H1 locs1 hw hP2 hD2 hS1
theorem wq_callv {S : Type} {post : S → Prop} {w1 : S → va_W} (hr : va_Run p l e R s m args below meth c H locs cells slots mc ms (F0 m pc ls st0) rest (va_Qv post (fun u t => atQ G (va_A wc H.size) (w1 u) t) (va_A wc H.size) a) (va_A wc H.size)) (hS : va_S A H0 H locs) (hP : va_P G.1 vwCl ws H) (hD : va_D A ws) (hA : ∀ q, H0.size ≤ q → A q) (isC isR : List Nat) (hC : isC.map (fun i => ws[i]?) = wc.map some) (hR : isR.map (fun i => ws[i]?) = wr.map some) (hn : va_nd isR = true) (hdis : ∀ i ∈ isR, i ∉ isC)
    (kk : ∀ (u : S) (H1 : Heap) (locs1 : List Loc), post u → va_P G.1 vwCl (wr ++ w1 u) H1 → va_D A (wr ++ w1 u) → va_S A H0 H1 locs1 → W p l e R s m args below meth c H1 locs1 (cells + mc) (slots + ms) Q (F0 m (pc + 3) ls rest)) : W p l e R s m args below meth c H locs cells slots Q (F0 m pc ls st0) := by
  have hFc := va_free (wc := wc) hD hS hA isC hC
  refine va_callv hr hS (fun q _ h => hFc q h) hFc (fun u t H1 locs1 ht hvm hw hB hz1 hk1 hS1 => ?_)
  obtain ⟨hP1, hD1⟩ := hB
  rw [ht] at hP1
  obtain ⟨hP2, hD2⟩ := va_join hP hD isC isR hC hR hn hdis hk1 hFc hP1 hD1
  exact kk u H1 locs1 hw hP2 hD2 hS1
theorem wn_cls {s : State} {D : va_G} {cl : List vw_C} {tys : List (ClassId × FieldType)} {c0 c1 : ClassId} {ty : FieldType} (hK : va_K D cl tys s) {t0 : Nat} (h0 : tys[t0]? = some (c0, ty)) (h1 : va_K D cl (tys ++ [(c1, ty)]) s) : c1 = c0 := by
  have a0 := (hK.2 t0 _ h0).2
  have a1 := (h1.2 tys.length (c1, ty) (by simp)).2
  have b : ∀ {cA : ClassId}, va_RA s cA ty → s.vm.findClass ("[" ++ ty.toString) = some cA := by
    intro cA h
    cases ty <;> first | exact h | (obtain ⟨_, _, _, _, _, h4⟩ := h; exact h4)
  exact Option.some.inj ((b a1).symm.trans (b a0))
theorem wn_newa (hexec : p.tables.exec = Jvm.exec) (hb : c.code = cc) {atype : ArrayType} (harr : (Cond.arrayClass (newarray.typeOf atype)).before args s = true) {ty : FieldType} (hty : newarray.typeOf atype = ty) {D : va_G} {cl : List vw_C} {tys : List (ClassId × FieldType)} (hK : va_K D cl tys s) (t0 : Nat) {c0 : ClassId} (ht : tys[t0]? = some (c0, ty)) (hP : va_P D cl ws H) (hD : va_D A ws) (hS : va_S A H0 H locs) (hA : ∀ q, H0.size ≤ q → A q)
    {n : Int32} {N' : Nat} {a0 : vp_A} (ha : ∀ cA : ClassId, vp_cell cA a0 = arrV cA N' (fun _ => defaultValue ty)) (hn : ¬ n < 0) (hN : n.toNatClampNeg = N') (hbytes : N' * componentBytes ty ≤ 536870912) (hcells : cells + 1 ≤ R.cells) (hslots : slots + N' ≤ R.slots) (hdg : decode cc pc = .ok (.newarray atype, 2))
    (kk : ∀ (q : Nat) (H1 : Heap), va_P D cl (ws ++ [(q, .inl (c0, a0))]) H1 → va_D A (ws ++ [(q, .inl (c0, a0))]) → va_S A H0 H1 locs → W p l e R s m args below meth c H1 locs (cells + 1) (slots + N') Q (F0 m (pc + 2) ls (.ref q :: rest))) : W p l e R s m args below meth c H locs cells slots Q (F0 m pc ls (.int n :: rest)) := by
  refine va_newa hexec hb harr hty hK hP hD hS hA ha hn hN hbytes hcells hslots hdg (fun q cA H1 hK1 hP1 hD1 hS1 => ?_)
  obtain rfl := wn_cls hK ht hK1
  exact kk q H1 hP1 hD1 hS1
theorem wn_newq (hexec : p.tables.exec = Jvm.exec) (hb : c.code = cc) {own C : String} {index : Nat} (hown : s.vm.findClass own = some m.cls) (hclink : (Cond.classLink own index C).before args s = true) (hover : va_AO C s) {D : va_G} {cl : List vw_C} {tys : List (ClassId × FieldType)} (hK : va_K D cl tys s) (t0 : Nat) {c0 : ClassId} (ht : tys[t0]? = some (c0, .object C)) (hP : va_P D cl ws H) (hD : va_D A ws) (hS : va_S A H0 H locs) (hA : ∀ q, H0.size ≤ q → A q)
    {n : Int32} {N' : Nat} (hn : ¬ n < 0) (hN : n.toNatClampNeg = N') (hbytes : N' * 4 ≤ 536870912) (hcells : cells + 1 ≤ R.cells) (hslots : slots + N' ≤ R.slots) (hdg : decode cc pc = .ok (.anewarray index, 3))
    (kk : ∀ (q : Nat) (H1 : Heap), va_P D cl (ws ++ [(q, .inl (c0, N', .inr (.inr (.inr (.inr (fun _ => none))))))]) H1 → va_D A (ws ++ [(q, .inl (c0, N', .inr (.inr (.inr (.inr (fun _ => none))))))]) → va_S A H0 H1 locs → W p l e R s m args below meth c H1 locs (cells + 1) (slots + N') Q (F0 m (pc + 3) ls (.ref q :: rest))) : W p l e R s m args below meth c H locs cells slots Q (F0 m pc ls (.int n :: rest)) := by
  refine va_newq hexec hb hown hclink hover hK hP hD hS hA hn hN hbytes hcells hslots hdg (fun q cA H1 hK1 hP1 hD1 hS1 => ?_)
  obtain rfl := wn_cls hK ht hK1
  exact kk q H1 hP1 hD1 hS1
/-- a row of rows that nobody reads here -/
theorem wn_newA (hexec : p.tables.exec = Jvm.exec) (hb : c.code = cc) {own : String} {index : Nat} (hown : s.vm.findClass own = some m.cls) (hclink : (Cond.classLink own index "[B").before args s = true) (hover : (Cond.arrayOver (.array .byte)).before #[] s = true) {D : va_G} {cl : List vw_C} (hP : va_P D cl ws H) (hD : va_D A ws) (hS : va_S A H0 H locs) (hA : ∀ q, H0.size ≤ q → A q)
    {n : Int32} {N' : Nat} (hn : ¬ n < 0) (hN : n.toNatClampNeg = N') (hbytes : N' * 4 ≤ 536870912) (hcells : cells + 1 ≤ R.cells) (hslots : slots + N' ≤ R.slots) (hdg : decode cc pc = .ok (.anewarray index, 3))
    (kk : ∀ (q : Nat) (H1 : Heap), va_P D cl ws H1 → va_D A ws → va_S A H0 H1 locs → W p l e R s m args below meth c H1 locs (cells + 1) (slots + N') Q (F0 m (pc + 3) ls (.ref q :: rest))) : W p l e R s m args below meth c H locs cells slots Q (F0 m pc ls (.int n :: rest)) := by
  subst hN
  refine W.anewA (t := .byte) hexec hb hown hclink (over_moved (Vm.Alike.refl s.vm) hover) rfl hdg rfl hn hbytes hcells hslots fun cA kA comp f1 f2 f3 f4 => ?_
  generalize hH1 : H.push ({ cls := cA, slots := Array.replicate n.toNatClampNeg .null, vm := .none } : Cell) = H1
  have z1 : H1.size = H.size + 1 := by rw [← hH1, Array.size_push]
  have o1 : ∀ q : Nat, q < H.size → H1[q]? = H[q]? := fun q hq => by rw [← hH1, Array.getElem?_push, if_neg (Nat.ne_of_lt hq)]
  have hk : ∀ (k : Nat) (x : Nat × va_E), ws[k]? = some x → H1[x.1]? = H[x.1]? := fun k x hx => o1 x.1 ((hP k x hx).lt)
  exact kk H.size H1 (hP.kept hk) hD ⟨Nat.le_trans hS.1 (by omega), fun x h1 h2 => (o1 x (Nat.lt_of_lt_of_le h1 hS.1)).trans (hS.2.1 x h1 h2), hS.2.2⟩
end OWN
theorem up_zero (k : Nat) : upd (fun _ => 0) k 0 = fun _ => 0 := by funext j; unfold upd; split <;> rfl
theorem upL_zero (k : Nat) : vp_updL (fun _ => 0) k 0 = fun _ => 0 := by funext j; unfold vp_updL; split <;> rfl
theorem upB_zero (k : Nat) : upd (fun _ => 0) k (vp_nar .byte 0) = fun _ => 0 := by funext j; unfold upd; split <;> rfl
theorem upZ_zero (k : Nat) : upd (fun _ => 0) k (vp_nar .boolean 0) = fun _ => 0 := by funext j; unfold upd; split <;> rfl
def cntA (x : Int32) : Int32 := if x.toInt < 0 ∨ 8 < x.toInt then -1 else 0
def wd4 : Nat → Int32 := fun j => if j < 4 then -1 else 0
theorem wd4_eq : upd (upd (upd (upd (fun _ => 0) (0 : Int32).toNatClampNeg (-1)) (1 : Int32).toNatClampNeg (-1)) (2 : Int32).toNatClampNeg (-1)) (3 : Int32).toNatClampNeg (-1) = wd4 := by
  funext j
  match j with
  | 0 => rfl
  | 1 => rfl
  | 2 => rfl
  | 3 => rfl
  | k + 4 =>
    have h : ∀ i : Nat, i < 4 → ¬ k + 4 = i := fun i hi => by omega
    simp only [wd4, upd]
    rw [if_neg (h _ (by decide)), if_neg (h _ (by decide)), if_neg (h _ (by decide)), if_neg (h _ (by decide)), if_neg (by omega)]
