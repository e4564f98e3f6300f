/-! the check of a program against the bytes; arguments and locals by their forms -/
def mq_pR (as : List mq_V) (f : Nat) (k : Nat → List mq_V → Prop) : Prop := match as with
  | .inr (.inr (some (g, i))) :: t => bif Nat.beq g f then k i t else False
  | _ => False
def mq_pI (as : List mq_V) (k : Int → List mq_V → Prop) : Prop := match as with
  | .inl z :: t => k z t
  | _ => False
def mq_pL (as : List mq_V) (k : Int → List mq_V → Prop) : Prop := match as with
  | .inr (.inl z) :: t => k z t
  | _ => False
def mq_p0 (as : List mq_V) (k : Prop) : Prop := match as with
  | [] => k
  | _ :: _ => False
theorem mq_pR_spec {as : List mq_V} {f : Nat} {k : Nat → List mq_V → Prop} (h : mq_pR as f k) : ∃ (i : Nat) (t : List mq_V), as = .inr (.inr (some (f, i))) :: t ∧ k i t := by
  unfold mq_pR at h
  split at h
  · rename_i g i t
    cases hb : Nat.beq g f with
    | true => rw [hb] at h; rw [Nat.eq_of_beq_eq_true hb]; exact ⟨i, t, rfl, h⟩
    | false => rw [hb] at h; exact h.elim
  · exact h.elim
theorem mq_pI_spec {as : List mq_V} {k : Int → List mq_V → Prop} (h : mq_pI as k) : ∃ (z : Int) (t : List mq_V), as = .inl z :: t ∧ k z t := by
  unfold mq_pI at h
  split at h
  · exact ⟨_, _, rfl, h⟩
  · exact h.elim
theorem mq_pL_spec {as : List mq_V} {k : Int → List mq_V → Prop} (h : mq_pL as k) : ∃ (z : Int) (t : List mq_V), as = .inr (.inl z) :: t ∧ k z t := by
  unfold mq_pL at h
  split at h
  · exact ⟨_, _, rfl, h⟩
  · exact h.elim
theorem mq_p0_spec {as : List mq_V} {k : Prop} (h : mq_p0 as k) : as = [] ∧ k := by
  unfold mq_p0 at h
  split at h
  · exact ⟨rfl, h⟩
  · exact h.elim
def mq_pZ (as : List mq_V) (f : Nat) (k : List mq_V → Prop) : Prop := match as with
  | .inr (.inr (some (g, i))) :: t => bif Nat.beq g f && Nat.beq i 0 then k t else False
  | _ => False
def mq_pA (as : List mq_V) (k : Option mq_J → List mq_V → Prop) : Prop := match as with
  | .inr (.inr o) :: t => k o t
  | _ => False
theorem mq_pA_spec {as : List mq_V} {k : Option mq_J → List mq_V → Prop} (h : mq_pA as k) : ∃ (o : Option mq_J) (t : List mq_V), as = .inr (.inr o) :: t ∧ k o t := by
  unfold mq_pA at h
  split at h
  · exact ⟨_, _, rfl, h⟩
  · exact h.elim
theorem mq_pZ_spec {as : List mq_V} {f : Nat} {k : List mq_V → Prop} (h : mq_pZ as f k) : ∃ t : List mq_V, as = .inr (.inr (some (f, 0))) :: t ∧ k t := by
  unfold mq_pZ at h
  split at h
  · rename_i g i t
    cases hb : (Nat.beq g f && Nat.beq i 0) with
    | true =>
      rw [hb] at h
      obtain ⟨h1, h2⟩ := Bool.and_eq_true_iff.mp hb
      rw [Nat.eq_of_beq_eq_true h1, Nat.eq_of_beq_eq_true h2]
      exact ⟨t, rfl, h⟩
    | false => rw [hb] at h; exact h.elim
  · exact h.elim
def mq_tZ (l : mq_L) (f : Nat) (k : mq_L → Prop) : Prop := match l with
  | some (.inr (.inr (some (g, i)))) :: t => bif Nat.beq g f && Nat.beq i 0 then k t else False
  | _ => False
theorem mq_tZ_spec {l : mq_L} {f : Nat} {k : mq_L → Prop} (h : mq_tZ l f k) : ∃ t : mq_L, l = some (.inr (.inr (some (f, 0)))) :: t ∧ k t := by
  unfold mq_tZ at h
  split at h
  · rename_i g i t
    cases hb : (Nat.beq g f && Nat.beq i 0) with
    | true =>
      rw [hb] at h
      obtain ⟨h1, h2⟩ := Bool.and_eq_true_iff.mp hb
      rw [Nat.eq_of_beq_eq_true h1, Nat.eq_of_beq_eq_true h2]
      exact ⟨t, rfl, h⟩
    | false => rw [hb] at h; exact h.elim
  · exact h.elim
def mq_tR (l : mq_L) (f : Nat) (k : Nat → mq_L → Prop) : Prop := match l with
  | some (.inr (.inr (some (g, i)))) :: t => bif Nat.beq g f then k i t else False
  | _ => False
def mq_tI (l : mq_L) (k : Int → mq_L → Prop) : Prop := match l with
  | some (.inl z) :: t => k z t
  | _ => False
def mq_tL (l : mq_L) (k : Int → mq_L → Prop) : Prop := match l with
  | some (.inr (.inl z)) :: t => k z t
  | _ => False
def mq_tN (l : mq_L) (k : mq_L → Prop) : Prop := match l with
  | none :: t => k t
  | _ => False
def mq_t0 (l : mq_L) (k : Prop) : Prop := match l with
  | [] => k
  | _ :: _ => False
theorem mq_tR_spec {l : mq_L} {f : Nat} {k : Nat → mq_L → Prop} (h : mq_tR l f k) : ∃ (i : Nat) (t : mq_L), l = some (.inr (.inr (some (f, i)))) :: t ∧ k i t := by
  unfold mq_tR at h
  split at h
  · rename_i g i t
    cases hb : Nat.beq g f with
    | true => rw [hb] at h; rw [Nat.eq_of_beq_eq_true hb]; exact ⟨i, t, rfl, h⟩
    | false => rw [hb] at h; exact h.elim
  · exact h.elim
theorem mq_tI_spec {l : mq_L} {k : Int → mq_L → Prop} (h : mq_tI l k) : ∃ (z : Int) (t : mq_L), l = some (.inl z) :: t ∧ k z t := by
  unfold mq_tI at h
  split at h
  · exact ⟨_, _, rfl, h⟩
  · exact h.elim
theorem mq_tL_spec {l : mq_L} {k : Int → mq_L → Prop} (h : mq_tL l k) : ∃ (z : Int) (t : mq_L), l = some (.inr (.inl z)) :: t ∧ k z t := by
  unfold mq_tL at h
  split at h
  · exact ⟨_, _, rfl, h⟩
  · exact h.elim
theorem mq_tN_spec {l : mq_L} {k : mq_L → Prop} (h : mq_tN l k) : ∃ t : mq_L, l = none :: t ∧ k t := by
  unfold mq_tN at h
  split at h
  · exact ⟨_, rfl, h⟩
  · exact h.elim
theorem mq_t0_spec {l : mq_L} {k : Prop} (h : mq_t0 l k) : l = [] ∧ k := by
  unfold mq_t0 at h
  split at h
  · exact ⟨rfl, h⟩
  · exact h.elim
/-- links: fields (index, class, slot), constants, long constants, methods (index, place among the callees, kind) -/
abbrev mq_T : Type := List (Nat × Nat × Nat) × List (Nat × Int) × List (Nat × Int) × List (Nat × Nat × Nat) × List Nat × List (Nat × Bool)
def mq_rcn (f : Nat) : Option String := bif Nat.beq f 99 then some "java/lang/String" else match mq_fm f with
  | (false, ci, _, _) => (vwCl[ci]?).map (fun q => q.1)
  | _ => none
def mq_mlw (own : String) (cl : List mq_C) (q : Nat × Nat × Nat) : Prop := match cl[q.2.1]? with
  | none => False
  | some ((y, b, n, r, _), (na, _, _, _), _, pre, _) => Cond.code y b n r ∈ wG ∧ (y.cls ≠ "java/lang/invoke/MethodHandle" ∧ y.cls ≠ "java/lang/invoke/VarHandle") ∧ match q.2.2 with
    | 0 => (parseMethodDescriptor y.desc).map (fun d => d.parameters.length + 1) = some na ∧ Cond.methodLink own q.1 y ∈ wG ∧ Cond.instanceMethod y ∈ wG ∧ Cond.selects y.cls y y ∈ wG ∧ Cond.initialized y.cls ∈ wG ∧ ∃ f, mq_rcn f = some y.cls ∧ ∀ as ρ μ, pre as ρ μ → ∃ (i : Nat) (t : List mq_V), as = .inr (.inr (some (f, i))) :: t
    | 1 => (parseMethodDescriptor y.desc).map (fun d => d.parameters.length) = some na ∧ Cond.methodLink own q.1 y ∈ wG ∧ Cond.static y ∈ wG ∧ Cond.initialized y.cls ∈ wG
    | _ + 2 => (parseMethodDescriptor y.desc).map (fun d => d.parameters.length) = some na ∧ (∃ k : Nat, nsL[k]? = some (own, q.1, y)) ∧ Cond.static y ∈ wG ∧ Cond.initialized y.cls ∈ wG
def mq_mmw (own : String) (q : Nat × Bool) : Prop := match q with
  | (i, true) => Cond.methodLink own i Lib.Math.max.name ∈ wG ∧ Cond.static Lib.Math.max.name ∈ wG ∧ Cond.initialized "java/lang/Math" ∈ wG ∧ Cond.code Lib.Math.max.name Lib.Math.max.code 2 (some .int) ∈ wG
  | (i, false) => Cond.methodLink own i Lib.Math.min.name ∈ wG ∧ Cond.static Lib.Math.min.name ∈ wG ∧ Cond.initialized "java/lang/Math" ∈ wG ∧ Cond.code Lib.Math.min.name Lib.Math.min.code 2 (some .int) ∈ wG
def mq_Tok (own : String) (cl : List mq_C) (T : mq_T) : Prop := (∀ q ∈ T.1, mq_flw own q) ∧ (∀ q ∈ T.2.1, Cond.constant own q.1 (Int32.ofInt q.2) ∈ wG) ∧ (∀ q ∈ T.2.2.1, Cond.constantLong own q.1 (Int64.ofInt q.2) ∈ wG) ∧ (∀ q ∈ T.2.2.2.1, mq_mlw own cl q) ∧ (∀ q ∈ T.2.2.2.2.1, Cond.methodLink own q arraycopyName ∈ wG ∧ Cond.native arraycopyName ∈ wG ∧ Cond.static arraycopyName ∈ wG ∧ Cond.initialized "java/lang/System" ∈ wG) ∧ ∀ q ∈ T.2.2.2.2.2, mq_mmw own q
def mq_dj (cc : ByteArray) (pc : Nat) (i : Instr) (n : Nat) : Bool := decide (decode cc pc = .ok (i, n))
def mq_vb (own : String) (cc : ByteArray) (cl : List mq_C) (md fr lo rk : Nat) (T : mq_T) (ins : Instr) (pc nxt : Nat) : Bool := match ins with
  | .iload i => bif Nat.ble i 3 then mq_dq cc pc (.iload_n (Fin.ofNat 4 i)) 1 nxt else mq_dq cc pc (.iload i) 2 nxt
  | .lload i => bif Nat.ble i 3 then mq_dq cc pc (.lload_n (Fin.ofNat 4 i)) 1 nxt else mq_dq cc pc (.lload i) 2 nxt
  | .aload i => bif Nat.ble i 3 then mq_dq cc pc (.aload_n (Fin.ofNat 4 i)) 1 nxt else mq_dq cc pc (.aload i) 2 nxt
  | .istore i => bif Nat.ble i 3 then mq_dq cc pc (.istore_n (Fin.ofNat 4 i)) 1 nxt else mq_dq cc pc (.istore i) 2 nxt
  | .lstore i => bif Nat.ble i 3 then mq_dq cc pc (.lstore_n (Fin.ofNat 4 i)) 1 nxt else mq_dq cc pc (.lstore i) 2 nxt
  | .astore i => bif Nat.ble i 3 then mq_dq cc pc (.astore_n (Fin.ofNat 4 i)) 1 nxt else mq_dq cc pc (.astore i) 2 nxt
  | .iinc i d => mq_dq cc pc (.iinc i d) 3 nxt
  | .iconst d => decide (mq_in d) && ((decide (-1 ≤ d ∧ d ≤ 5) && mq_dq cc pc (.iconst d) 1 nxt) || (decide (-128 ≤ d ∧ d ≤ 127) && mq_dq cc pc (.bipush d) 2 nxt) || (decide (-32768 ≤ d ∧ d ≤ 32767) && mq_dq cc pc (.sipush d) 3 nxt) || T.2.1.any (fun q => decide (q.2 = d) && (mq_dq cc pc (.ldc q.1) 2 nxt || mq_dq cc pc (.ldc_w q.1) 3 nxt)))
  | .goto_w d => decide (mq_inl d) && ((decide (d = 0) && mq_dq cc pc (.lconst 0) 1 nxt) || (decide (d = 1) && mq_dq cc pc (.lconst 1) 1 nxt) || T.2.2.1.any (fun q => decide (q.2 = d) && mq_dq cc pc (.ldc2_w q.1) 3 nxt))
  | .ldc j => mq_strs.any (fun q => decide (q.2.2.2 = j) && decide (q.1 = own) && mq_dq cc pc (.ldc q.2.1) 2 nxt)
  | .iadd => mq_dq cc pc .iadd 1 nxt
  | .isub => mq_dq cc pc .isub 1 nxt
  | .imul => mq_dq cc pc .imul 1 nxt
  | .fadd => mq_dq cc pc .iadd 1 nxt
  | .fsub => mq_dq cc pc .isub 1 nxt
  | .fmul => mq_dq cc pc .imul 1 nxt
  | .frem => mq_dq cc pc .isub 1 nxt
  | .ret i => mq_dq cc pc (.iinc i 1) 3 nxt
  | .idiv => mq_dq cc pc .idiv 1 nxt
  | .irem => mq_dq cc pc .irem 1 nxt
  | .ineg => mq_dq cc pc .ineg 1 nxt
  | .iand => mq_dq cc pc .iand 1 nxt
  | .ior => mq_dq cc pc .ior 1 nxt
  | .ixor => mq_dq cc pc .ixor 1 nxt
  | .ishl => mq_dq cc pc .ishl 1 nxt
  | .ishr => mq_dq cc pc .ishr 1 nxt
  | .iushr => mq_dq cc pc .iushr 1 nxt
  | .i2l => mq_dq cc pc .i2l 1 nxt
  | .l2i => mq_dq cc pc .l2i 1 nxt
  | .lshl => mq_dq cc pc .lshl 1 nxt
  | .land => mq_dq cc pc .land 1 nxt
  | .lor => mq_dq cc pc .lor 1 nxt
  | .i2c => mq_dq cc pc .i2c 1 nxt
  | .nop => true
  | .getstatic k => decide (own = RJ0) && (match k with
    | 0 => mq_dq cc pc (.getstatic 38) 3 nxt
    | _ + 1 => mq_dq cc pc (.getstatic 1053) 3 nxt)
  | .instanceof k => decide (own = RJ0) && (match k with
    | 0 => mq_dq cc pc (.getfield 9) 3 nxt
    | _ + 1 => mq_dq cc pc (.getfield 15) 3 nxt)
  | .checkcast _ => mq_dq cc pc .arraylength 1 nxt
  | .caload => mq_dq cc pc .baload 1 nxt
  | .i2b => mq_dq cc pc .i2b 1 nxt
  | .i2s => mq_dq cc pc .i2s 1 nxt
  | .ladd => mq_dq cc pc .ladd 1 nxt
  | .lsub => mq_dq cc pc .lsub 1 nxt
  | .lmul => mq_dq cc pc .lmul 1 nxt
  | .dadd => mq_dq cc pc .ladd 1 nxt
  | .dsub => mq_dq cc pc .lsub 1 nxt
  | .dmul => mq_dq cc pc .lmul 1 nxt
  | .ldiv => mq_dq cc pc .ldiv 1 nxt
  | .lrem => mq_dq cc pc .lrem 1 nxt
  | .lcmp => mq_dq cc pc .lcmp 1 nxt
  | .dup => mq_dq cc pc .dup 1 nxt
  | .dup2 => mq_dq cc pc .dup2 1 nxt
  | .pop => mq_dq cc pc .pop 1 nxt
  | .if_icmp cn t => decide (0 ≤ t) && mq_dq cc pc (.if_icmp cn (t - pc)) 3 nxt
  | .ifCond cn t => decide (0 ≤ t) && mq_dq cc pc (.ifCond cn (t - pc)) 3 nxt
  | .goto t => decide (0 ≤ t) && mq_dj cc pc (.goto (t - pc)) 3
  | .ifnull t => decide (0 ≤ t) && mq_dq cc pc (.ifnull (t - pc)) 3 nxt
  | .ifnonnull t => decide (0 ≤ t) && mq_dq cc pc (.ifnonnull (t - pc)) 3 nxt
  | .invokeinterface ci k => T.1.any (fun q => Nat.beq q.2.1 ci && Nat.beq q.2.2 k && mq_dq cc pc (.getfield q.1) 3 nxt)
  | .multianewarray ci k => (match vwCl[ci]? with
    | some r => !(r.2.1 k).2.2.2
    | none => false) && T.1.any (fun q => Nat.beq q.2.1 ci && Nat.beq q.2.2 k && mq_dq cc pc (.putfield q.1) 3 nxt)
  | .iaload => mq_dq cc pc .iaload 1 nxt
  | .jsr r => decide (0 ≤ r) && mq_dq cc pc .iaload 1 nxt
  | .jsr_w r => decide (0 ≤ r) && mq_dq cc pc .iastore 1 nxt
  | .baload => mq_dq cc pc .baload 1 nxt
  | .laload => mq_dq cc pc .laload 1 nxt
  | .iastore => mq_dq cc pc .iastore 1 nxt
  | .bastore => mq_dq cc pc .bastore 1 nxt
  | .lastore => mq_dq cc pc .lastore 1 nxt
  | .arraylength => mq_dq cc pc .arraylength 1 nxt
  | .aaload => mq_dq cc pc .aaload 1 nxt
  | .newarray .byte => mq_dq cc pc (.newarray .byte) 2 (pc + 2) && mq_dq cc (pc + 2) .aastore 1 nxt
  | .tableswitch d lo hi ts => match decode cc pc with
    | .ok (.tableswitch d' lo' hi' ts', _) => decide ((pc : Int) + d' = d) && decide (0 ≤ d) && decide (lo' = lo) && decide (hi' = hi) && decide (ts'.toList.map (fun o => (pc : Int) + o) = ts.toList) && ts.toList.all (fun t => decide (0 ≤ t)) && decide ((ts'.size : Int) = hi - lo + 1)
    | _ => false
  | .invokestatic k => match cl[k]? with
    | some ((_, _, n, _, rm), (_, _, _, mc), md', _, _) => decide (md' &&& md = md') && decide (rm.cells = 16 * mc ∧ rm.slots = 6416 * mc) && decide (rm.frames + 1 ≤ fr ∧ 8 + (n + 11) + rm.locals ≤ lo) && T.2.2.2.1.any (fun q => Nat.beq q.2.1 k && match q.2.2 with
      | 0 => mq_dq cc pc (.invokevirtual q.1) 3 nxt
      | _ + 1 => mq_dq cc pc (.invokestatic q.1) 3 nxt)
    | none => false
  | .athrow => decide (1 ≤ fr ∧ 8 + (nativeFrameWords "java/lang/System" "arraycopy" 5 + 11) ≤ lo) && T.2.2.2.2.1.any (fun q => mq_dq cc pc (.invokestatic q) 3 nxt)
  | .f2i => decide (1 ≤ fr ∧ 21 ≤ lo) && T.2.2.2.2.2.any (fun q => q.2 && mq_dq cc pc (.invokestatic q.1) 3 nxt)
  | .f2l => decide (1 ≤ fr ∧ 21 ≤ lo) && T.2.2.2.2.2.any (fun q => !q.2 && mq_dq cc pc (.invokestatic q.1) 3 nxt)
  | .ireturn => Nat.beq rk 1 && mq_dj cc pc .ireturn 1
  | .lreturn => Nat.beq rk 2 && mq_dj cc pc .lreturn 1
  | .return_ => Nat.beq rk 0 && mq_dj cc pc .return_ 1
  | _ => false
/-- the whole program -/
def mq_ck (own : String) (cc : ByteArray) (cl : List mq_C) (md fr lo rk : Nat) (T : mq_T) : List mq_E → Bool
  | [] => true
  | (pc, _, ins) :: t => mq_vb own cc cl md fr lo rk T ins pc (match t with
    | [] => 0
    | (q, _, _) :: _ => q) && mq_ck own cc cl md fr lo rk T t
/-- what a call needs of the callee -/
def mq_mlA (c : mq_C) (kind : Nat) : Prop := match c with
  | ((y, b, n, r, _), (na, _, _, _), _, pre, _) => Cond.code y b n r ∈ wG ∧ (y.cls ≠ "java/lang/invoke/MethodHandle" ∧ y.cls ≠ "java/lang/invoke/VarHandle") ∧ match kind with
    | 0 => (parseMethodDescriptor y.desc).map (fun d => d.parameters.length + 1) = some na ∧ Cond.instanceMethod y ∈ wG ∧ Cond.selects y.cls y y ∈ wG ∧ Cond.initialized y.cls ∈ wG ∧ ∃ f, mq_rcn f = some y.cls ∧ ∀ as ρ μ, pre as ρ μ → ∃ (i : Nat) (t : List mq_V), as = .inr (.inr (some (f, i))) :: t
    | _ + 1 => (parseMethodDescriptor y.desc).map (fun d => d.parameters.length) = some na ∧ Cond.static y ∈ wG ∧ Cond.initialized y.cls ∈ wG
theorem mq_ml0 {own : String} {cl : List mq_C} {idx i : Nat} {c : mq_C} (hc : cl[i]? = some c) (hA : mq_mlA c 0) (hl : Cond.methodLink own idx c.1.1 ∈ wG) : mq_mlw own cl (idx, i, 0) := by
  obtain ⟨⟨y, b, n, r, rm⟩, ⟨na, rk, pk, mc⟩, md, pre, post⟩ := c
  obtain ⟨h1, h2, h3, h4, h5, h6, h7⟩ := hA
  unfold mq_mlw
  rw [hc]
  exact ⟨h1, h2, h3, hl, h4, h5, h6, h7⟩
theorem mq_ml1 {own : String} {cl : List mq_C} {idx i : Nat} {c : mq_C} (hc : cl[i]? = some c) (hA : mq_mlA c 1) (hl : Cond.methodLink own idx c.1.1 ∈ wG) : mq_mlw own cl (idx, i, 1) := by
  obtain ⟨⟨y, b, n, r, rm⟩, ⟨na, rk, pk, mc⟩, md, pre, post⟩ := c
  obtain ⟨h1, h2, h3, h4, h5⟩ := hA
  unfold mq_mlw
  rw [hc]
  exact ⟨h1, h2, h3, hl, h4, h5⟩
theorem mq_ml2 {own : String} {cl : List mq_C} {idx i : Nat} {c : mq_C} (hc : cl[i]? = some c) (hA : mq_mlA c 1) (k : Nat) (hl : nsL[k]? = some (own, idx, c.1.1)) : mq_mlw own cl (idx, i, 2) := by
  obtain ⟨⟨y, b, n, r, rm⟩, ⟨na, rk, pk, mc⟩, md, pre, post⟩ := c
  obtain ⟨h1, h2, h3, h4, h5⟩ := hA
  unfold mq_mlw
  rw [hc]
  exact ⟨h1, h2, h3, ⟨k, hl⟩, h4, h5⟩
