theorem nq_inv (g : Nat → Int) (L : Nat) (xs : Nat → Int32) : sq_bx (sq_inv (nq_mu g L xs (69, 0)) (nq_mu g L xs (76, 0))) := sq_m (fun _ _ _ => sq_pl_none rfl)
set_option maxHeartbeats 16000000 in
set_option maxRecDepth 100000 in
theorem law_go {p : Program} {e : Env} {s : State} {m : MethodId} {below : List Frame} {meth : Method} {c : Code} (l : Launch) {b L : Nat} {xs : Nat → Int32} (hL : L ≤ 384) (C0 : lw_At p s m meth c b L xs) {G : KG} (hKG : mq_kG G s) {a : Nat → Nat} {F48 : Nat → Int32} {H : Heap} {locs : List Loc}
    (hP : va_P G.1 vwCl (nq_ws G a (upd (fun _ => 0) (0 : Int32).toNatClampNeg 15) F48 wd4 (nq_im a) (nq_sl a) (fun _ => none)) H) (hD : va_D (fun q : Nat => s.heap.size ≤ q) (nq_ws G a (upd (fun _ => 0) (0 : Int32).toNatClampNeg 15) F48 wd4 (nq_im a) (nq_sl a) (fun _ => none))) (hS : va_S (fun q : Nat => s.heap.size ≤ q) s.heap H locs) {ls : Array Slot} (hl : lv_has ls 4 [(3, .int 0), (2, .ref (a (nq_off.getD 60 0))), (1, .ref (a 0)), (0, .ref b)]) {cells slots : Nat} (hc : cells ≤ 16 * 60) (hs : slots ≤ 6416 * 60) :
    W p l e room_1 s m #[Value.ref b] below meth c H locs cells slots (lw_Z below #[Value.ref b] s) (F0 m 18 ls []) := by
  obtain ⟨hx, hb, hr, hml, hown, hts, hX, hbl, hlocks, hgv⟩ := id C0
  refine W.widen (k := 16 * 60) (n := 6416 * 60) hc hs ?_
  obtain ⟨ex, he97, hstr⟩ := nq_str hts hgv
  obtain ⟨g, hg, rfl⟩ : ∃ g : Nat → Int, (∀ k, -2147483648 ≤ g k ∧ g k ≤ 2147483647) ∧ F48 = fun k => Int32.ofInt (g k) := ⟨fun k => (F48 k).toInt, fun k => mq_in32 _, funext fun k => (Int32.ofInt_toInt _).symm⟩
  have hw : mq_wd G (fun q : Nat => s.heap.size ≤ q) (nq_ad a ex) nq_rho (nq_mu g L xs) H := nq_wd hP hD hg hL
  have X : mq_cx p s m #[Value.ref b] meth c code RL 4 G := ⟨hx, hb, hml, hown, fun w h => hts w (List.mem_filter.mp h).1, hKG, hlocks⟩
  have Y : mq_cy (fun q : Nat => s.heap.size ≤ q) (nq_ad a ex) s := ⟨fun _ h => h, hstr a⟩
  have Z : mq_sc (fun q : Nat => s.heap.size ≤ q) (nq_ad a ex) (nq_mu g L xs) lq_md b L xs s := ⟨hX, hbl, Nat.not_le.mpr hbl, he97, rfl, hL, by decide +kernel, fun j _ => rfl⟩
  have hF : ∀ (pc : Nat) (v : Int) (l9 : mq_L) (st : List mq_V) (ρ : mq_R) (μ : mq_M) (cs : Nat), (((1 : Nat) = 0 ∧ st = [] ∧ v = 0 ∧ decode code pc = .ok (.return_, 1)) ∨ ((1 : Nat) = 1 ∧ st = [.inl v] ∧ decode code pc = .ok (.ireturn, 1)) ∨ ((1 : Nat) = 2 ∧ st = [.inr (.inl v)] ∧ decode code pc = .ok (.lreturn, 1))) → (fun (v : Int) (_ : mq_R) (_ : mq_M) (cs : Nat) => v = 1 ∧ cs ≤ 1084) v ρ μ cs → mq_W p l e room_1 s m #[Value.ref b] below meth c G 4 (fun q : Nat => s.heap.size ≤ q) (nq_ad a ex) nq_rho lq_md (nq_mu g L xs) (lw_Z below #[Value.ref b] s) pc l9 st ρ μ cs := by
    intro pc v l9 st ρ μ cs h1 h2
    obtain ⟨rfl, h3⟩ := h2
    rcases h1 with h1 | h1 | h1
    · exact absurd h1.1 (by decide)
    · obtain ⟨-, rfl, h4⟩ := h1
      intro ad H locs ls hl ho hw hS hg ha
      refine va_forget (fun q hq => hS.2.2 q hq) ?_
      refine W.widen (k := 600000) (n := 7302250) (by omega) (by omega) ?_
      exact lw_ret hx hb hr hlocks h4
    · exact absurd h1.1 (by decide)
  have K := mq_loopL (p := p) (lc := l) (e := e) (R := room_1) (below := below) (Q := lw_Z below #[Value.ref b] s) (ρ0 := nq_rho) X Y Z (cl := lq_cl) (T := tq_law) (MC := 1084) (fr := 13) (lo := 480) (rk := 1) (fuel := 400) (F := fun v _ _ cs => v = 1 ∧ cs ≤ 1084) (P := pq_law) (cuts := kq_law) (lq_hcl l) tq_law_ok (by decide) lq_ck hF lq_0 lq_C 2000 _ (List.mem_of_getElem? (i := 0) (show kq_law[0]? = some _ from rfl)) [some (.inr (.inr (some (97, 0)))), some (.inr (.inr (some (0, 0)))), some (.inr (.inr (some (60, 0)))), some (.inl 0)] [] nq_rho (nq_mu g L xs) 60 (by decide) ⟨rfl, rfl, by decide, by decide, by decide, (show ((L : Nat) : Int) ≤ 384 by omega), nq_inv g L xs, sq_m (fun s hs => ⟨(by show (-1 : Int) = nq_61 s; unfold nq_61; rw [if_pos hs]), rfl⟩), by decide, by decide⟩
  refine K (nq_ad a ex) H locs ls ⟨rfl, ?_⟩ ⟨fun v h => absurd h List.not_mem_nil, fun v h => ?_⟩ hw hS (fun _ _ => rfl) ⟨fun _ _ => rfl, fun _ h => h⟩
  · have e : mq_prs (nq_ad a ex) 0 [some (.inr (.inr (some (97, 0)))), some (.inr (.inr (some (0, 0)))), some (.inr (.inr (some (60, 0)))), some (.inl 0)] = [(0, .ref (ex (97, 0))), (1, .ref (a 0)), (2, .ref (a (nq_off.getD 60 0))), (3, .int 0)] := rfl
    rw [he97] at e
    rw [e]
    exact lv_sub hl [3, 2, 1, 0] rfl
  · simp only [List.mem_cons, Option.some.injEq, List.not_mem_nil, or_false] at h
    rcases h with rfl | rfl | rfl | rfl
    · exact Or.inl ⟨by decide, by decide⟩
    · exact Or.inr (by decide +kernel)
    · exact Or.inr (by decide +kernel)
    · exact (by decide : mq_in 0)
