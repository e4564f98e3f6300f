/-! contracts, calls, answers -/
def mq_ov (rk : Nat) (r : Int) : Option Value := match rk with
  | 0 => none
  | 1 => some (.int (Int32.ofInt r))
  | _ + 2 => some (.long (Int64.ofInt r))
def mq_pk (pk : Nat) (ρ ρ' : mq_R) : Prop := match pk with
  | 0 => ρ' = ρ
  | 1 => ρ'.1 = ρ.1 ∧ ρ'.2.1 = ρ.2.1 ∧ ρ'.2.2.1 = ρ.2.2.1 ∧ ρ'.2.2.2.1 = ρ.2.2.2.1
  | _ + 2 => True
def mq_rvo (ret : Option FieldType) (v : Int) : Prop := match ret with
  | some .boolean => 0 ≤ v ∧ v ≤ 1
  | some .char => 0 ≤ v ∧ v ≤ 65535
  | some .byte => v = 0
  | _ => True
abbrev mq_pre (G : KG) (ad : mq_J → Nat) (as : List mq_V) (ρ : mq_R) (μ : mq_M) (sz : Nat) : Array Value → State → Prop := va_Pc (as.map (mq_val ad)) (fun U => U.heap.size = sz ∧ va_P G.1 vwCl (mq_ws G ad ρ μ) U.heap ∧ mq_kG G U ∧ va_D (fun _ => True) (mq_ws G ad ρ μ) ∧ mq_str ad (va_A (mq_ws G ad ρ μ) sz) U U.heap)
def mq_Qc (rk pk md : Nat) (post : Int → mq_R → mq_M → List Prop) (G : KG) (ad : mq_J → Nat) (ρ : mq_R) (μ : mq_M) (sz : Nat) : Array Value → State → Outcome → State → Prop := fun _ st oc t =>
  (∃ (r : Int) (ρ' : mq_R) (μ' : mq_M) (ad' : mq_J → Nat), oc = .returned (mq_ov rk r) ∧ mq_rgo rk r ∧ mq_all (post r ρ' μ') ∧ mq_pk pk ρ ρ' ∧ mq_ag md μ μ' ∧ mq_adk ad ρ ad' ρ' ∧ mq_wd G (va_A (mq_ws G ad ρ μ) sz) ad' ρ' μ' t.heap) ∧ va_F (va_A (mq_ws G ad ρ μ) sz) st t
def mq_Ct (lc : Launch) (c : mq_C) : Prop := match c with
  | ((y, b, n, r, rm), (_, rk, pk, mc), md, pre, post) => ∀ (G : KG) (ad : mq_J → Nat) (as : List mq_V) (ρ : mq_R) (μ : mq_M) (sz : Nat), pre as ρ μ → (∀ v ∈ as, mq_ok ρ v) → mq_bok μ → mq_rok ρ →
    Met lc y (.code y b n r :: wG) rm (mq_pre G ad as ρ μ sz) (mq_Qc rk pk md (post as ρ μ) G ad ρ μ sz) (16 * mc) (6416 * mc) (va_A (mq_ws G ad ρ μ) sz)
theorem mq_take_spec {n : Nat} {st as : List mq_V} {k : List mq_V → List mq_V → Prop} (h : mq_take n st as k) : ∃ (bs st' : List mq_V), bs.length = n ∧ st = bs.reverse ++ st' ∧ k (bs ++ as) st' := by
  induction n generalizing st as with
  | zero => exact ⟨[], st, rfl, rfl, h⟩
  | succ n ih =>
    cases st with
    | nil => simp [mq_take] at h
    | cons v st =>
      obtain ⟨bs, st', h1, h2, h3⟩ := ih (st := st) (as := v :: as) (by simpa [mq_take] using h)
      exact ⟨bs ++ [v], st', by simp [h1], by simp [h2], by simpa using h3⟩
theorem mq_cwb_spec {ad : mq_J → Nat} : ∀ (n : Nat) (st : List mq_V), mq_cwb n st = true → ((st.map (mq_val ad)).map fun v => v.category).sum ≤ n
  | _, [], _ => by simp
  | n + 1, .inl _ :: t, h => by
    have := mq_cwb_spec (ad := ad) n t (by simpa [mq_cwb] using h)
    show 1 + ((t.map (mq_val ad)).map fun v => v.category).sum ≤ n + 1
    omega
  | n + 1, .inr (.inr none) :: t, h => by
    have := mq_cwb_spec (ad := ad) n t (by simpa [mq_cwb] using h)
    show 1 + ((t.map (mq_val ad)).map fun v => v.category).sum ≤ n + 1
    omega
  | n + 1, .inr (.inr (some _)) :: t, h => by
    have := mq_cwb_spec (ad := ad) n t (by simpa [mq_cwb] using h)
    show 1 + ((t.map (mq_val ad)).map fun v => v.category).sum ≤ n + 1
    omega
  | n + 2, .inr (.inl _) :: t, h => by
    have := mq_cwb_spec (ad := ad) n t (by simpa [mq_cwb] using h)
    show 2 + ((t.map (mq_val ad)).map fun v => v.category).sum ≤ n + 2
    omega
  | 0, .inl _ :: t, h => by simp [mq_cwb] at h
  | 0, .inr (.inr _) :: t, h => by simp [mq_cwb] at h
  | 0, .inr (.inl _) :: t, h => by simp [mq_cwb] at h
  | 1, .inr (.inl _) :: t, h => by simp [mq_cwb] at h
theorem mq_val_ok {ad ad' : mq_J → Nat} {ρ ρ' : mq_R} {v : mq_V} (h : mq_ok ρ v) (ha : mq_adk ad ρ ad' ρ') : mq_val ad' v = mq_val ad v := by
  rcases v with z | (z | (_ | j))
  · rfl
  · rfl
  · rfl
  · show Value.ref (ad' j) = Value.ref (ad j)
    rw [ha.1 j (fun h1 => ?_)]
    rcases h with h | h
    · rw [h1] at h; exact absurd h.1 (by decide)
    · rcases mq_ids_inv h with ⟨h2, h3⟩ | ⟨_, _, h4⟩
      · rw [h1] at h3; exact absurd h3 (by rw [show mq_ct 1 = 0 by decide +kernel]; exact Nat.not_lt_zero _)
      · exact h4
theorem mq_ids_mono {al al' : Nat → Bool} (h : ∀ k, al k = true → al' k = true) {j : mq_J} (hj : j ∈ mq_ids al) : j ∈ mq_ids al' := by
  rcases mq_ids_inv hj with ⟨h2, h3⟩ | ⟨h2, h3, h4⟩
  · exact List.mem_append_left _ (mq_fix_mem.mpr ⟨h2, h3⟩)
  · obtain ⟨f, i⟩ := j
    cases h2
    exact mq_ids_tab h3 (h _ h4)
theorem mq_ok_mono {ρ ρ' : mq_R} (h : ∀ k, ρ.2.2.2.2 k = true → ρ'.2.2.2.2 k = true) {v : mq_V} (hv : mq_ok ρ v) : mq_ok ρ' v := by
  rcases v with z | (z | (_ | j))
  · exact hv
  · exact hv
  · exact hv
  · exact hv.imp id (mq_ids_mono h)
theorem mq_prs_ok {ad ad' : mq_J → Nat} {ρ ρ' : mq_R} (ha : mq_adk ad ρ ad' ρ') : ∀ (l : mq_L) (n : Nat), (∀ v, some v ∈ l → mq_ok ρ v) → mq_prs ad' n l = mq_prs ad n l
  | [], _, _ => rfl
  | none :: t, n, h => mq_prs_ok ha t (n + 1) (fun v hv => h v (List.mem_cons_of_mem _ hv))
  | some v :: t, n, h => by
    show (n, mq_val ad' v) :: mq_prs ad' (n + 1) t = (n, mq_val ad v) :: mq_prs ad (n + 1) t
    rw [mq_prs_ok ha t (n + 1) (fun v hv => h v (List.mem_cons_of_mem _ hv)), mq_val_ok (h v List.mem_cons_self) ha]
theorem mq_map_ok {ad ad' : mq_J → Nat} {ρ ρ' : mq_R} (ha : mq_adk ad ρ ad' ρ') {st : List mq_V} (h : ∀ v ∈ st, mq_ok ρ v) : st.map (mq_val ad') = st.map (mq_val ad) := List.map_congr_left fun v hv => mq_val_ok (h v hv) ha
theorem mq_adk_trans {ad0 ad ad' : mq_J → Nat} {ρ0 ρ ρ' : mq_R} (h1 : mq_adk ad0 ρ0 ad ρ) (h2 : mq_adk ad ρ ad' ρ') : mq_adk ad0 ρ0 ad' ρ' := ⟨fun j hj => (h2.1 j (fun q => h1.2 _ (hj q))).trans (h1.1 j hj), fun k hk => h2.2 k (h1.2 k hk)⟩
theorem mq_ag_trans {md md' : Nat} {μ0 μ μ' : mq_M} (hm : md' &&& md = md') (h1 : mq_ag md μ0 μ) (h2 : mq_ag md' μ μ') : mq_ag md μ0 μ' := by
  intro j hj
  have h3 : Nat.testBit md' j.1 = false := by rw [← hm, Nat.testBit_and, hj, Bool.and_false]
  rw [h2 j h3]
  exact h1 j hj
def mq_cy (A : Nat → Prop) (ad0 : mq_J → Nat) (s : State) : Prop := (∀ q : Nat, s.heap.size ≤ q → A q) ∧ mq_str ad0 A s s.heap
/-- the stack behind a call -/
def mq_rs (rk : Nat) (r : Int) (st : List mq_V) : List mq_V := match rk with
  | 0 => st
  | 1 => .inl r :: st
  | _ + 2 => .inr (.inl r) :: st
section MQ
variable {p : Program} {lc : Launch} {e : Env} {R : Room} {s : State} {m : MethodId} {args : Array Value} {below : List Frame} {meth : Method} {c : Code} {Q : State → Prop} {cc : ByteArray} {own : String} {nL : Nat} {G : KG} {A : Nat → Prop} {ad0 : mq_J → Nat} {ρ0 : mq_R} {md : Nat} {μ0 : mq_M}
variable {pc nxt cs : Nat} {l : mq_L} {st : List mq_V} {ρ : mq_R} {μ : mq_M}
theorem mq_preS {ad : mq_J → Nat} {as : List mq_V} {H : Heap} {locs : List Loc} (hk : mq_kG G s) (Y : mq_cy A ad0 s) (hw : mq_wd G A ad ρ μ H) (hS : va_S A s.heap H locs) (ha : mq_adk ad0 ρ0 ad ρ) : PreS s H (mq_pre G ad as ρ μ H.size) (as.map (mq_val ad)) := by
  refine ⟨fun a U g mk q => ?_, fun U hU hW => ?_⟩
  · obtain ⟨q0, q1, qP, qK, qD, qX⟩ := q
    exact ⟨q0, q1, qP, mq_kG_same (u := U) (U := U.calling g mk a) rfl qK, qD, mq_str_same (u := U) rfl qX⟩
  · have hAB : ∀ q, va_A (mq_ws G ad ρ μ) H.size q → A q := fun q h => h.elim (fun ⟨k, e, h⟩ => hw.2.1.2 k (q, e) h) (fun h => Y.1 q (Nat.le_trans hS.1 h))
    exact ⟨rfl, by rw [hU], by rw [hU]; exact hw.1, mq_kG_warm hW hk, hw.2.1.weaken (fun _ _ _ _ => trivial), by rw [hU]; exact mq_str_warm hW (mq_str_kept (mq_str_ad Y.2 (fun j hj => ha.1 j (fun q => absurd q hj))) hS.2.1 hAB)⟩
theorem mq_goon (Y : mq_cy A ad0 s) {ad : mq_J → Nat} {H : Heap} {locs : List Loc} {ls : Array Slot} {rk pk md' mc : Nat} {post : Int → mq_R → mq_M → List Prop} {st0 : List Value} {a : Array Value} (hm : md' &&& md = md') (hr : va_Run p lc e R s m args below meth c H locs (16 * cs) (6416 * cs) (16 * mc) (6416 * mc) (F0 m pc ls st0) (st.map (mq_val ad)) (mq_Qc rk pk md' post G ad ρ μ H.size a) (va_A (mq_ws G ad ρ μ) H.size))
    (hl : mq_lok ad ls nL l) (ho : mq_oks ρ l st) (hw : mq_wd G A ad ρ μ H) (hS : va_S A s.heap H locs) (hg : mq_ag md μ0 μ) (ha : mq_adk ad0 ρ0 ad ρ)
    (k9 : ∀ (r : Int) (ρ' : mq_R) (μ' : mq_M), mq_rgo rk r → mq_all (post r ρ' μ') → mq_pk pk ρ ρ' → mq_ag md' μ μ' → (∀ k, ρ.2.2.2.2 k = true → ρ'.2.2.2.2 k = true) → mq_W p lc e R s m args below meth c G nL A ad0 ρ0 md μ0 Q (pc + 3) l (mq_rs rk r st) ρ' μ' (cs + mc)) : W p lc e R s m args below meth c H locs (16 * cs) (6416 * cs) Q (F0 m pc ls st0) := by
  have hAB : ∀ q, va_A (mq_ws G ad ρ μ) H.size q → A q := fun q h => h.elim (fun ⟨k, e, h⟩ => hw.2.1.2 k (q, e) h) (fun h => Y.1 q (Nat.le_trans hS.1 h))
  intro T hT X
  obtain ⟨v, st₀, t, T', L, h0, X', hL, e1, e2, ⟨⟨r, ρ', μ', ad', hv, hrg, hpo, hpk, hag, hadk, hwd⟩, hz, hk⟩, stp⟩ := hr T hT X
  cases hv
  rw [h0] at hz hk
  have hS' : va_S A s.heap T'.heap (locs ++ L) := ⟨Nat.le_trans hS.1 (by rw [e1]; exact hz), fun q h1 h2 => by rw [e1, hk q (Nat.lt_of_lt_of_le h1 hS.1) (fun z => h2 (hAB q z))]; exact hS.2.1 q h1 h2, fun q hq => by
      rcases List.mem_append.mp hq with h | h
      · exact hS.2.2 q h
      · exact hAB _ (hL q h)⟩
  have hmono := hadk.2
  have ho' : mq_oks ρ' l (mq_rs rk r st) := by
    refine ⟨fun w hw9 => ?_, fun w hw9 => mq_ok_mono hmono (ho.2 w hw9)⟩
    match rk, hrg, hw9 with
    | 0, _, hw9 => exact mq_ok_mono hmono (ho.1 w hw9)
    | 1, hrg, hw9 => rcases List.mem_cons.mp hw9 with rfl | h; exact hrg; exact mq_ok_mono hmono (ho.1 w h)
    | _ + 2, hrg, hw9 => rcases List.mem_cons.mp hw9 with rfl | h; exact hrg; exact mq_ok_mono hmono (ho.1 w h)
  have hl' : mq_lok ad' ls nL l := ⟨hl.1, by rw [mq_prs_ok hadk l 0 ho.2]; exact hl.2⟩
  have hwd' : mq_wd G A ad' ρ' μ' T'.heap := by
    rw [e1]
    exact ⟨hwd.1, hwd.2.1.weaken (fun _ _ _ h => hAB _ h), hwd.2.2⟩
  have key := k9 r ρ' μ' hrg hpo hpk hag hmono ad' T'.heap (locs ++ L) ls hl' ho' hwd' hS' (mq_ag_trans hm hg hag) (mq_adk_trans ha hadk)
  rw [Nat.mul_add, Nat.mul_add] at key
  obtain ⟨t2, a1, b1⟩ := key T' rfl X'
  refine ⟨t2, stp t2 ?_, b1⟩
  have e9 : (mq_rs rk r st).map (mq_val ad') = (mq_ov rk r).toList ++ st.map (mq_val ad) := by
    match rk with
    | 0 => show st.map (mq_val ad') = _; rw [mq_map_ok hadk ho.1]; rfl
    | 1 => show mq_val ad' (.inl r) :: st.map (mq_val ad') = _; rw [mq_map_ok hadk ho.1]; rfl
    | _ + 2 => show mq_val ad' (.inr (.inl r)) :: st.map (mq_val ad') = _; rw [mq_map_ok hadk ho.1]; rfl
  rw [e9] at a1
  exact a1
end MQ
