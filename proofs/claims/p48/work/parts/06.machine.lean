/-! A SMALL MACHINE over whole numbers: values, memory by places, and what a piece of code asks for (a weakest condition, by evaluation) -/
abbrev mq_J : Type := Nat × Nat
def mq_slen : List Nat := [4, 4, 5, 3, 5, 8, 4, 5, 5, 2, 2, 4, 2, 2, 2, 4, 6, 6, 5, 5, 3]
def mq_sl (w : Nat) : Int := (mq_slen.getD w 0 : Nat)
abbrev mq_V : Type := Int ⊕ (Int ⊕ Option mq_J)
/-- the LINE that is now, the spare one, the track's, what the reader reads, which tables are there -/
abbrev mq_R : Type := Nat × Nat × Nat × Nat × (Nat → Bool)
abbrev mq_M : Type := mq_J → Nat → Int
abbrev mq_L : Type := List (Option mq_V)
abbrev mq_E : Type := Nat × Bool × Instr
abbrev mq_K : Type := Nat → mq_L → List mq_V → mq_R → mq_M → Nat → Prop
/-- a contract: the method (name, bytes, locals, answer, room); arguments, kind of the answer, kind of change of places, tables made; families that may change; before; behind -/
abbrev mq_C : Type := (MethodName × ByteArray × Nat × Option FieldType × Room) × (Nat × Nat × Nat × Nat) × Nat × (List mq_V → mq_R → mq_M → Prop) × (List mq_V → mq_R → mq_M → Int → mq_R → mq_M → List Prop)
abbrev mq_in (z : Int) : Prop := -2147483648 ≤ z ∧ z ≤ 2147483647
abbrev mq_inl (z : Int) : Prop := -9223372036854775808 ≤ z ∧ z ≤ 9223372036854775807
def mq_all : List Prop → Prop
  | [] => True
  | p :: t => p ∧ mq_all t
def mq_imp : List Prop → Prop → Prop
  | [], k => k
  | p :: t, k => p → mq_imp t k
def mq_ld : mq_L → Nat → (mq_V → Prop) → Prop
  | [], _, _ => False
  | none :: _, 0, _ => False
  | some v :: _, 0, k => k v
  | _ :: t, i + 1, k => mq_ld t i k
/-- a value of one word is stored -/
def mq_st : mq_L → Nat → mq_V → (mq_L → Prop) → Prop
  | [], _, _, _ => False
  | _ :: t, 0, v, k => k (some v :: t)
  | some (.inr (.inl _)) :: t, 1, v, k => mq_st t 0 v (fun t' => k (none :: t'))
  | x :: t, 1, v, k => mq_st t 0 v (fun t' => k (x :: t'))
  | x :: t, i + 2, v, k => mq_st t (i + 1) v (fun t' => k (x :: t'))
/-- a value of two words is stored -/
def mq_st2 : mq_L → Nat → mq_V → (mq_L → Prop) → Prop
  | [], _, _, _ => False
  | [_], _, _, _ => False
  | _ :: _ :: t, 0, v, k => k (some v :: none :: t)
  | some (.inr (.inl _)) :: t, 1, v, k => mq_st2 t 0 v (fun t' => k (none :: t'))
  | x :: t, 1, v, k => mq_st2 t 0 v (fun t' => k (x :: t'))
  | x :: t, i + 2, v, k => mq_st2 t (i + 1) v (fun t' => k (x :: t'))
def mq_take : Nat → List mq_V → List mq_V → (List mq_V → List mq_V → Prop) → Prop
  | 0, st, as, k => k as st
  | _ + 1, [], _, _ => False
  | n + 1, v :: st, as, k => mq_take n st (v :: as) k
def mq_nth {α : Type} : List α → Nat → (α → Prop) → Prop
  | [], _, _ => False
  | c :: _, 0, k => k c
  | _ :: t, i + 1, k => mq_nth t i k
def mq_seek (tgt : Nat) : List mq_E → List mq_E
  | [] => []
  | (pc, c, i) :: t => bif Nat.beq pc tgt then (pc, c, i) :: t else mq_seek tgt t
def mq_next (K : mq_K) (W : List mq_E → mq_L → List mq_V → mq_R → mq_M → Nat → Prop) (is : List mq_E) (l : mq_L) (st : List mq_V) (ρ : mq_R) (μ : mq_M) (cs : Nat) : Prop := match is with
  | [] => False
  | (pc, true, _) :: _ => K pc l st ρ μ cs
  | (pc, false, i) :: t => W ((pc, false, i) :: t) l st ρ μ cs
def mq_up (μ : mq_M) (j : mq_J) (k : Nat) (v : Int) : mq_M := fun j' k' => if j' = j ∧ k' = k then v else μ j' k'
def mq_ag (md : Nat) (μ μ' : mq_M) : Prop := ∀ j : mq_J, Nat.testBit md j.1 = false → μ' j = μ j
/-- a column of an array, known by the place's rest -/
def mq_col (x m : Int) (v : Int) : Int → List (Nat × Int × Int) → Prop → Prop
  | _, [], k => k
  | r, (_, a, b) :: t, k => (x % m = r → a ≤ v ∧ v ≤ b) → mq_col x m v (r + 1) t k
def mq_colS (x m : Int) (v : Int) : Int → List (Nat × Int × Int) → Prop
  | _, [] => True
  | r, (_, a, b) :: t => (x % m = r → a ≤ v ∧ v ≤ b) ∧ mq_colS x m v (r + 1) t
/-- behind a call -/
def mq_aft (pk md' : Nat) (post : List mq_V → mq_R → mq_M → Int → mq_R → mq_M → List Prop) (as : List mq_V) (ρ : mq_R) (μ : mq_M) (rg : Int → Prop) (k : Int → mq_R → mq_M → Prop) : Prop := match pk, ρ with
  | 0, ρ => (match md' with
    | 0 => ∀ r : Int, rg r → mq_imp (post as ρ μ r ρ μ) (k r ρ μ)
    | n + 1 => ∀ μ' : mq_M, mq_ag (n + 1) μ μ' → ∀ r : Int, rg r → mq_imp (post as ρ μ r ρ μ') (k r ρ μ'))
  | 1, (nw, sp, tl, tx, al) => ∀ (al' : Nat → Bool) (μ' : mq_M), (∀ i, al i = true → al' i = true) → mq_ag md' μ μ' → ∀ r : Int, rg r → mq_imp (post as (nw, sp, tl, tx, al) μ r (nw, sp, tl, tx, al') μ') (k r (nw, sp, tl, tx, al') μ')
  | _ + 2, (nw, sp, tl, tx, al) => ∀ (nw' sp' tl' tx' : Nat) (al' : Nat → Bool) (μ' : mq_M), (∀ i, al i = true → al' i = true) → mq_ag md' μ μ' → ∀ r : Int, rg r → mq_imp (post as (nw, sp, tl, tx, al) μ r (nw', sp', tl', tx', al') μ') (k r (nw', sp', tl', tx', al') μ')
def mq_rgo (rk : Nat) (r : Int) : Prop := match rk with
  | 0 => r = 0
  | 1 => mq_in r
  | _ + 2 => mq_inl r
def mq_rgk (rk : Nat) (k : (Int → Prop) → Prop) : Prop := match rk with
  | 0 => k (fun r => r = 0)
  | 1 => k mq_in
  | _ + 2 => k mq_inl
def mq_res (rk : Nat) (r : Int) (st : List mq_V) (k : List mq_V → Prop) : Prop := match rk with
  | 0 => k st
  | 1 => k (.inl r :: st)
  | _ + 2 => k (.inr (.inl r) :: st)
def mq_s32 (z : Int) : Int := (Int32.ofInt z).toInt
def mq_s64 (z : Int) : Int := (Int64.ofInt z).toInt
def mq_sw (x : Int) : Int → List Nat → (Nat → Prop) → Prop
  | _, [], _ => True
  | c, t :: ts, k => (x = c → k t) ∧ mq_sw x (c + 1) ts k
/-- at most so many words lie on the stack -/
def mq_cwb : Nat → List mq_V → Bool
  | _, [] => true
  | n + 1, .inl _ :: t => mq_cwb n t
  | n + 1, .inr (.inr _) :: t => mq_cwb n t
  | n + 2, .inr (.inl _) :: t => mq_cwb n t
  | _, _ => false
def mq_room (mc cs MC : Nat) (k : Prop) : Prop := match mc with
  | 0 => k
  | n + 1 => cs + (n + 1) ≤ MC ∧ k
/-- a part of a row is put to another row -/
def mq_cp (μ : mq_M) (d s : mq_J) (sp dp n : Nat) : mq_M := fun j k => if j = d ∧ dp ≤ k ∧ k < dp + n then μ s (sp + (k - dp)) else μ j k
def mq_cpk (bs : List (Nat × Int × Int)) (sp dp : Int) (k : Prop) : Prop := match bs with
  | [_] => k
  | _ => sp = dp ∧ k
/-- a new table of steps -/
def mq_alS (ρ : mq_R) (x : Nat) : mq_R := match ρ with
  | (nw, sp, tl, tx, al) => (nw, sp, tl, tx, fun k => if k = x then true else al k)
def mq_new (μ : mq_M) (x : Nat) : mq_M := fun j => if j = (1, x) then fun _ => 0 else μ j
abbrev mq_N : Type := mq_L → List mq_V → mq_R → mq_M → Nat → Prop
/-- a comparison: the way when it holds, the way when not -/
def mq_br (cn : ClassFile.Cond) (a b : Int) (kt kf : Prop) : Prop := match cn with
  | .eq => (a = b → kt) ∧ (¬ a = b → kf)
  | .ne => (¬ a = b → kt) ∧ (a = b → kf)
  | .lt => (a < b → kt) ∧ (b ≤ a → kf)
  | .ge => (b ≤ a → kt) ∧ (a < b → kf)
  | .gt => (b < a → kt) ∧ (a ≤ b → kf)
  | .le => (a ≤ b → kt) ∧ (b < a → kf)
/-- an element of an array is read: the place is inside, what is there lies in its column's bounds -/
def mq_rd (x : Int) (n : Nat) (bs : List (Nat × Int × Int)) (w : Int) (k : Int → Prop) : Prop := (0 ≤ x ∧ x < (n : Int)) ∧ match bs with
  | [(_, a, b)] => ∀ v : Int, v = w → a ≤ v → v ≤ b → k v
  | (m, a, b) :: t => ∀ v : Int, v = w → mq_col x (m : Int) v 0 ((m, a, b) :: t) (k v)
  | [] => False
def mq_wr (x : Int) (n : Nat) (bs : List (Nat × Int × Int)) (v : Int) (k : Prop) : Prop := (0 ≤ x ∧ x < (n : Int)) ∧ (match bs with
  | [(_, a, b)] => a ≤ v ∧ v ≤ b
  | (m, a, b) :: t => mq_colS x (m : Int) v 0 ((m, a, b) :: t)
  | [] => False) ∧ k
/-- what a family is: an array (kind, length, columns) or an object (class, fields: kind 0 int, 1 long, 2 a constant, 3 reference, bounds) -/
abbrev mq_Fam : Type := Nat → Bool × Nat × Nat × List (Nat × Int × Int)
def mq_op (fam : mq_Fam) (rg : mq_R → mq_J → Nat → Option mq_J) (rp : mq_R → mq_J → Nat → mq_J → Option mq_R) (cl : List mq_C) (md MC : Nat) (F : Int → mq_R → mq_M → Nat → Prop) (ins : Instr) (l : mq_L) (st : List mq_V) (ρ : mq_R) (μ : mq_M) (cs : Nat) (nx : mq_N) (jp : Nat → mq_N) : Prop := match ins with
  | .iload i => mq_ld l i fun v => match v with
    | .inl x => nx l (.inl x :: st) ρ μ cs
    | .inr _ => False
  | .lload i => mq_ld l i fun v => match v with
    | .inr (.inl x) => nx l (.inr (.inl x) :: st) ρ μ cs
    | _ => False
  | .aload i => mq_ld l i fun v => match v with
    | .inr (.inr (some j)) => nx l (.inr (.inr (some j)) :: st) ρ μ cs
    | .inr (.inr none) => nx l (.inr (.inr none) :: st) ρ μ cs
    | _ => False
  | .istore i => match st with
    | .inl x :: st => mq_st l i (.inl x) fun l => nx l st ρ μ cs
    | _ => False
  | .astore i => match st with
    | .inr (.inr (some j)) :: st => mq_st l i (.inr (.inr (some j))) fun l => nx l st ρ μ cs
    | .inr (.inr none) :: st => mq_st l i (.inr (.inr none)) fun l => nx l st ρ μ cs
    | _ => False
  | .lstore i => match st with
    | .inr (.inl x) :: st => mq_st2 l i (.inr (.inl x)) fun l => nx l st ρ μ cs
    | _ => False
  | .iinc i d => mq_ld l i fun v => match v with
    | .inl x => mq_in (x + d) ∧ mq_st l i (.inl (x + d)) fun l => nx l st ρ μ cs
    | .inr _ => False
  | .iconst d => nx l (.inl d :: st) ρ μ cs
  | .goto_w d => nx l (.inr (.inl d) :: st) ρ μ cs
  | .ldc j => nx l (.inr (.inr (some (99, j))) :: st) ρ μ cs
  | .iadd => match st with
    | .inl b :: .inl a :: st => mq_in (a + b) ∧ nx l (.inl (a + b) :: st) ρ μ cs
    | _ => False
  | .isub => match st with
    | .inl b :: .inl a :: st => mq_in (a - b) ∧ nx l (.inl (a - b) :: st) ρ μ cs
    | _ => False
  | .imul => match st with
    | .inl b :: .inl a :: st => mq_in (a * b) ∧ nx l (.inl (a * b) :: st) ρ μ cs
    | _ => False
  | .fadd => match st with
    | .inl b :: .inl a :: st => ∀ r : Int, mq_in r → (mq_in (a + b) → r = a + b) → nx l (.inl r :: st) ρ μ cs
    | _ => False
  | .fsub => match st with
    | .inl b :: .inl a :: st => ∀ r : Int, mq_in r → (mq_in (a - b) → r = a - b) → nx l (.inl r :: st) ρ μ cs
    | _ => False
  | .fmul => match st with
    | .inl b :: .inl a :: st => ∀ r : Int, mq_in r → (mq_in (a * b) → r = a * b) → nx l (.inl r :: st) ρ μ cs
    | _ => False
  | .frem => match st with
    | .inl b :: .inl a :: st => ∀ r : Int, mq_in r → r = (Int32.ofInt a - Int32.ofInt b).toInt → nx l (.inl r :: st) ρ μ cs
    | _ => False
  | .ret i => mq_ld l i fun v => match v with
    | .inl x => ∀ r : Int, mq_in r → (mq_in (x + 1) → r = x + 1) → mq_st l i (.inl r) fun l => nx l st ρ μ cs
    | .inr _ => False
  | .idiv => match st with
    | .inl b :: .inl a :: st => ¬ b = 0 ∧ ∀ r : Int, mq_in r → r = (Int32.ofInt a / Int32.ofInt b).toInt → (0 ≤ a → 0 < b → 0 ≤ r ∧ r ≤ a) → nx l (.inl r :: st) ρ μ cs
    | _ => False
  | .irem => match st with
    | .inl b :: .inl a :: st => ¬ b = 0 ∧ ∀ r : Int, mq_in r → (0 ≤ a → 0 < b → 0 ≤ r ∧ r < b) → nx l (.inl r :: st) ρ μ cs
    | _ => False
  | .ineg => match st with
    | .inl a :: st => mq_in (-a) ∧ nx l (.inl (-a) :: st) ρ μ cs
    | _ => False
  | .iand => match st with
    | .inl b :: .inl a :: st => ∀ r : Int, mq_in r → r = (Int32.ofInt a &&& Int32.ofInt b).toInt → (0 ≤ a → 0 ≤ r ∧ r ≤ a) → (0 ≤ b → 0 ≤ r ∧ r ≤ b) → nx l (.inl r :: st) ρ μ cs
    | _ => False
  | .ior => match st with
    | .inl b :: .inl a :: st => ∀ r : Int, mq_in r → (0 ≤ a → a ≤ 65535 → 0 ≤ b → b ≤ 65535 → 0 ≤ r ∧ r ≤ 65535) → nx l (.inl r :: st) ρ μ cs
    | _ => False
  | .ixor => match st with
    | .inl _ :: .inl _ :: st => ∀ r : Int, mq_in r → nx l (.inl r :: st) ρ μ cs
    | _ => False
  | .ishl => match st with
    | .inl b :: .inl a :: st => ∀ r : Int, mq_in r → (a = 1 → 0 ≤ b → b ≤ 15 → 1 ≤ r ∧ r ≤ 32768) → nx l (.inl r :: st) ρ μ cs
    | _ => False
  | .ishr => match st with
    | .inl b :: .inl a :: st => ∀ r : Int, mq_in r → (b = 0 → r = a) → nx l (.inl r :: st) ρ μ cs
    | _ => False
  | .iushr => match st with
    | .inl _ :: .inl _ :: st => ∀ r : Int, mq_in r → nx l (.inl r :: st) ρ μ cs
    | _ => False
  | .faload => match st with
    | .inl x :: .inr (.inr (some (f, i))) :: st => bif Nat.beq f 97 && Nat.beq i 0 then (0 ≤ x ∧ x < μ (97, 0) 0) ∧ ∀ r : Int, mq_in r → r = μ (97, 0) (x.toNat + 1) → nx l (.inl r :: st) ρ μ cs else False
    | _ => False
  | .daload => match st with
    | .inr (.inr (some (f, i))) :: st => bif Nat.beq f 97 && Nat.beq i 0 then ∀ v : Int, v = μ (97, 0) 0 → 0 ≤ v → v ≤ 384 → nx l (.inl v :: st) ρ μ cs else False
    | _ => False
  | .lshl => match st with
    | .inl _ :: .inr (.inl _) :: st => ∀ r : Int, mq_inl r → nx l (.inr (.inl r) :: st) ρ μ cs
    | _ => False
  | .land => match st with
    | .inr (.inl _) :: .inr (.inl _) :: st => ∀ r : Int, mq_inl r → nx l (.inr (.inl r) :: st) ρ μ cs
    | _ => False
  | .lor => match st with
    | .inr (.inl _) :: .inr (.inl _) :: st => ∀ r : Int, mq_inl r → nx l (.inr (.inl r) :: st) ρ μ cs
    | _ => False
  | .i2c => match st with
    | .inl _ :: st => ∀ r : Int, 0 ≤ r → r ≤ 65535 → nx l (.inl r :: st) ρ μ cs
    | _ => False
  | .getstatic k => match k with
    | 0 => nx l (.inl 1 :: st) ρ μ cs
    | _ + 1 => nx l (.inr (.inr none) :: st) ρ μ cs ∧ nx l (.inr (.inr (some (96, 0))) :: st) ρ μ cs
  | .instanceof k => match st with
    | .inr (.inr (some (f, w))) :: st => bif Nat.beq f 99 then (match k with
      | 0 => nx l (.inr (.inr (some (98, w))) :: st) ρ μ cs
      | _ + 1 => nx l (.inl 0 :: st) ρ μ cs) else False
    | _ => False
  | .checkcast _ => match st with
    | .inr (.inr (some (f, w))) :: st => bif Nat.beq f 98 then nx l (.inl (mq_sl w) :: st) ρ μ cs else False
    | _ => False
  | .caload => match st with
    | .inl x :: .inr (.inr (some (f, w))) :: st => bif Nat.beq f 98 then (0 ≤ x ∧ x < mq_sl w) ∧ ∀ r : Int, -128 ≤ r → r ≤ 127 → nx l (.inl r :: st) ρ μ cs else False
    | _ => False
  | .i2l => match st with
    | .inl a :: st => nx l (.inr (.inl a) :: st) ρ μ cs
    | _ => False
  | .l2i => match st with
    | .inr (.inl a) :: st => ∀ r : Int, mq_in r → (mq_in a → r = a) → nx l (.inl r :: st) ρ μ cs
    | _ => False
  | .i2b => match st with
    | .inl a :: st => ∀ r : Int, -128 ≤ r → r ≤ 127 → (-128 ≤ a → a ≤ 127 → r = a) → nx l (.inl r :: st) ρ μ cs
    | _ => False
  | .i2s => match st with
    | .inl a :: st => ∀ r : Int, -32768 ≤ r → r ≤ 32767 → (-32768 ≤ a → a ≤ 32767 → r = a) → nx l (.inl r :: st) ρ μ cs
    | _ => False
  | .ladd => match st with
    | .inr (.inl b) :: .inr (.inl a) :: st => mq_inl (a + b) ∧ nx l (.inr (.inl (a + b)) :: st) ρ μ cs
    | _ => False
  | .lsub => match st with
    | .inr (.inl b) :: .inr (.inl a) :: st => mq_inl (a - b) ∧ nx l (.inr (.inl (a - b)) :: st) ρ μ cs
    | _ => False
  | .lmul => match st with
    | .inr (.inl b) :: .inr (.inl a) :: st => mq_inl (a * b) ∧ nx l (.inr (.inl (a * b)) :: st) ρ μ cs
    | _ => False
  | .dadd => match st with
    | .inr (.inl b) :: .inr (.inl a) :: st => ∀ r : Int, mq_inl r → (mq_inl (a + b) → r = a + b) → nx l (.inr (.inl r) :: st) ρ μ cs
    | _ => False
  | .dsub => match st with
    | .inr (.inl b) :: .inr (.inl a) :: st => ∀ r : Int, mq_inl r → (mq_inl (a - b) → r = a - b) → nx l (.inr (.inl r) :: st) ρ μ cs
    | _ => False
  | .dmul => match st with
    | .inr (.inl b) :: .inr (.inl a) :: st => ∀ r : Int, mq_inl r → (mq_inl (a * b) → r = a * b) → nx l (.inr (.inl r) :: st) ρ μ cs
    | _ => False
  | .ldiv => match st with
    | .inr (.inl b) :: .inr (.inl a) :: st => ¬ b = 0 ∧ ∀ r : Int, mq_inl r → (0 ≤ a → 0 < b → 0 ≤ r ∧ r ≤ a) → nx l (.inr (.inl r) :: st) ρ μ cs
    | _ => False
  | .lrem => match st with
    | .inr (.inl b) :: .inr (.inl a) :: st => ¬ b = 0 ∧ ∀ r : Int, mq_inl r → (0 ≤ a → 0 < b → 0 ≤ r ∧ r < b) → nx l (.inr (.inl r) :: st) ρ μ cs
    | _ => False
  | .lcmp => match st with
    | .inr (.inl b) :: .inr (.inl a) :: st => ∀ r : Int, mq_in r → ((a < b ∧ r = -1) ∨ (a = b ∧ r = 0) ∨ (b < a ∧ r = 1)) → nx l (.inl r :: st) ρ μ cs
    | _ => False
  | .dup => match st with
    | .inl a :: st => nx l (.inl a :: .inl a :: st) ρ μ cs
    | .inr (.inr (some j)) :: st => nx l (.inr (.inr (some j)) :: .inr (.inr (some j)) :: st) ρ μ cs
    | _ => False
  | .dup2 => match st with
    | .inl a :: .inr (.inr (some j)) :: st => nx l (.inl a :: .inr (.inr (some j)) :: .inl a :: .inr (.inr (some j)) :: st) ρ μ cs
    | _ => False
  | .pop => match st with
    | .inl _ :: st => nx l st ρ μ cs
    | .inr (.inr _) :: st => nx l st ρ μ cs
    | _ => False
  | .if_icmp cn t => match st with
    | .inl b :: .inl a :: st => mq_br cn a b (jp t.toNat l st ρ μ cs) (nx l st ρ μ cs)
    | _ => False
  | .ifCond cn t => match st with
    | .inl a :: st => mq_br cn a 0 (jp t.toNat l st ρ μ cs) (nx l st ρ μ cs)
    | _ => False
  | .goto t => jp t.toNat l st ρ μ cs
  | .ifnull t => match st with
    | .inr (.inr none) :: st => jp t.toNat l st ρ μ cs
    | .inr (.inr (some _)) :: st => nx l st ρ μ cs
    | _ => False
  | .ifnonnull t => match st with
    | .inr (.inr none) :: st => nx l st ρ μ cs
    | .inr (.inr (some _)) :: st => jp t.toNat l st ρ μ cs
    | _ => False
  | .invokeinterface ci k => match st with
    | .inr (.inr (some (f, i))) :: st => match fam f with
      | (false, ci', _, bs) => bif Nat.beq ci' ci then mq_nth bs k fun b => match b with
        | (0, a, b) => ∀ v : Int, v = μ (f, i) k → a ≤ v → v ≤ b → nx l (.inl v :: st) ρ μ cs
        | (1, a, b) => ∀ v : Int, v = μ (f, i) k → a ≤ v → v ≤ b → nx l (.inr (.inl v) :: st) ρ μ cs
        | (2, a, _) => nx l (.inl a :: st) ρ μ cs
        | (_ + 3, _, _) => match rg ρ (f, i) k with
          | none => nx l (.inr (.inr none) :: st) ρ μ cs
          | some j => nx l (.inr (.inr (some j)) :: st) ρ μ cs
        else False
      | (true, _) => False
    | _ => False
  | .multianewarray ci k => match st with
    | .inl v :: .inr (.inr (some (f, i))) :: st => match fam f with
      | (false, ci', _, bs) => bif Nat.beq ci' ci && Nat.testBit md f then mq_nth bs k fun b => match b with
        | (0, a, b) => (a ≤ v ∧ v ≤ b) ∧ nx l st ρ (mq_up μ (f, i) k v) cs
        | _ => False
        else False
      | (true, _) => False
    | .inr (.inl v) :: .inr (.inr (some (f, i))) :: st => match fam f with
      | (false, ci', _, bs) => bif Nat.beq ci' ci && Nat.testBit md f then mq_nth bs k fun b => match b with
        | (1, a, b) => (a ≤ v ∧ v ≤ b) ∧ nx l st ρ (mq_up μ (f, i) k v) cs
        | _ => False
        else False
      | (true, _) => False
    | .inr (.inr (some j)) :: .inr (.inr (some (f, i))) :: st => match fam f with
      | (false, ci', _, bs) => bif Nat.beq ci' ci then mq_nth bs k fun b => match b with
        | (_ + 3, _, _) => match rp ρ (f, i) k j with
          | none => False
          | some ρ' => nx l st ρ' μ cs
        | _ => False
        else False
      | (true, _) => False
    | _ => False
  | .iaload => match st with
    | .inl x :: .inr (.inr (some (f, i))) :: st => match fam f with
      | (true, 0, n, bs) => mq_rd x n bs (μ (f, i) x.toNat) fun v => nx l (.inl v :: st) ρ μ cs
      | _ => False
    | _ => False
  | .jsr r => match st with
    | .inl x :: .inr (.inr (some (f, i))) :: st => match fam f with
      | (true, 0, n, (m, a0, b0) :: bs) => (0 ≤ x ∧ x < (n : Int)) ∧ x % (m : Int) = r ∧ mq_nth ((m, a0, b0) :: bs) r.toNat fun b => match b with
        | (_, a, b) => ∀ v : Int, v = μ (f, i) x.toNat → a ≤ v → v ≤ b → nx l (.inl v :: st) ρ μ cs
      | _ => False
    | _ => False
  | .jsr_w r => match st with
    | .inl v :: .inl x :: .inr (.inr (some (f, i))) :: st => match fam f with
      | (true, 0, n, (m, a0, b0) :: bs) => bif Nat.testBit md f then (0 ≤ x ∧ x < (n : Int)) ∧ x % (m : Int) = r ∧ mq_nth ((m, a0, b0) :: bs) r.toNat fun b => match b with
        | (_, a, b) => (a ≤ v ∧ v ≤ b) ∧ nx l st ρ (mq_up μ (f, i) x.toNat v) cs
        else False
      | _ => False
    | _ => False
  | .baload => match st with
    | .inl x :: .inr (.inr (some (f, i))) :: st => match fam f with
      | (true, 1, n, bs) => mq_rd x n bs (μ (f, i) x.toNat) fun v => nx l (.inl v :: st) ρ μ cs
      | (true, 2, n, bs) => mq_rd x n bs (μ (f, i) x.toNat) fun v => nx l (.inl v :: st) ρ μ cs
      | _ => False
    | _ => False
  | .laload => match st with
    | .inl x :: .inr (.inr (some (f, i))) :: st => match fam f with
      | (true, 3, n, bs) => mq_rd x n bs (μ (f, i) x.toNat) fun v => nx l (.inr (.inl v) :: st) ρ μ cs
      | _ => False
    | _ => False
  | .iastore => match st with
    | .inl v :: .inl x :: .inr (.inr (some (f, i))) :: st => match fam f with
      | (true, 0, n, bs) => bif Nat.testBit md f then mq_wr x n bs v (nx l st ρ (mq_up μ (f, i) x.toNat v) cs) else False
      | _ => False
    | _ => False
  | .bastore => match st with
    | .inl v :: .inl x :: .inr (.inr (some (f, i))) :: st => match fam f with
      | (true, 1, n, bs) => bif Nat.testBit md f then mq_wr x n bs v (nx l st ρ (mq_up μ (f, i) x.toNat v) cs) else False
      | (true, 2, n, bs) => bif Nat.testBit md f then mq_wr x n bs v (nx l st ρ (mq_up μ (f, i) x.toNat v) cs) else False
      | _ => False
    | _ => False
  | .lastore => match st with
    | .inr (.inl v) :: .inl x :: .inr (.inr (some (f, i))) :: st => match fam f with
      | (true, 3, n, bs) => bif Nat.testBit md f then mq_wr x n bs v (nx l st ρ (mq_up μ (f, i) x.toNat v) cs) else False
      | _ => False
    | _ => False
  | .f2i => match st with
    | .inl b :: .inl a :: st => bif mq_cwb 8 st then ∀ r : Int, mq_in r → (r = a ∨ r = b) → a ≤ r → b ≤ r → nx l (.inl r :: st) ρ μ cs else False
    | _ => False
  | .f2l => match st with
    | .inl b :: .inl a :: st => bif mq_cwb 8 st then ∀ r : Int, mq_in r → (r = a ∨ r = b) → r ≤ a → r ≤ b → nx l (.inl r :: st) ρ μ cs else False
    | _ => False
  | .athrow => match st with
    | .inl n :: .inl dp :: .inr (.inr (some (f, i2))) :: .inl sp :: .inr (.inr (some (g, i1))) :: st => bif Nat.beq f g && Nat.testBit md f && mq_cwb 8 st then (match fam f with
      | (true, 0, m, bs) => (0 ≤ sp ∧ 0 ≤ dp ∧ 0 ≤ n ∧ sp + n ≤ (m : Int) ∧ dp + n ≤ (m : Int)) ∧ mq_cpk bs sp dp (nx l st ρ (mq_cp μ (f, i2) (f, i1) sp.toNat dp.toNat n.toNat) cs)
      | (true, 3, m, bs) => (0 ≤ sp ∧ 0 ≤ dp ∧ 0 ≤ n ∧ sp + n ≤ (m : Int) ∧ dp + n ≤ (m : Int)) ∧ mq_cpk bs sp dp (nx l st ρ (mq_cp μ (f, i2) (f, i1) sp.toNat dp.toNat n.toNat) cs)
      | _ => False) else False
    | _ => False
  | .arraylength => match st with
    | .inr (.inr (some (f, _))) :: st => match fam f with
      | (true, t, n, _) => bif Nat.ble t 6 then nx l (.inl (n : Int) :: st) ρ μ cs else False
      | _ => False
    | _ => False
  | .aaload => match st with
    | .inl x :: .inr (.inr (some (f, i))) :: st => match fam f with
      | (true, 6, n, _) => (0 ≤ x ∧ x < (n : Int)) ∧ (ρ.2.2.2.2 x.toNat = false → nx l (.inr (.inr none) :: st) ρ μ cs) ∧ (ρ.2.2.2.2 x.toNat = true → nx l (.inr (.inr (some (1, x.toNat))) :: st) ρ μ cs)
      | (true, 4, n, _) => (0 ≤ x ∧ x < (n : Int)) ∧ nx l (.inr (.inr (some (2, x.toNat + 2))) :: st) ρ μ cs
      | (true, 5, n, _) => (0 ≤ x ∧ x < (n : Int)) ∧ nx l (.inr (.inr (some (17, x.toNat))) :: st) ρ μ cs
      | _ => False
    | _ => False
  | .newarray .byte => match st with
    | .inl n :: .inl x :: .inr (.inr (some (f, i))) :: st => bif Nat.testBit md 1 && Nat.beq f 31 && Nat.beq i 0 then (n = 6416 ∧ (0 ≤ x ∧ x < 24) ∧ ρ.2.2.2.2 x.toNat = false ∧ cs + 1 ≤ MC) ∧ nx l st (mq_alS ρ x.toNat) (mq_new μ x.toNat) (cs + 1) else False
    | _ => False
  | .tableswitch d lo hi ts => match st with
    | .inl x :: st => (x < lo ∨ hi < x → jp d.toNat l st ρ μ cs) ∧ mq_sw x lo (ts.toList.map Int.toNat) (fun t => jp t l st ρ μ cs)
    | _ => False
  | .invokestatic k => mq_nth cl k fun c => match c with
    | (_, (n, rk, pk, mc), md', pre, post) => mq_take n st [] fun as st => bif mq_cwb 8 st then pre as ρ μ ∧ mq_room mc cs MC (mq_rgk rk fun rg => mq_aft pk md' post as ρ μ rg fun r ρ μ => mq_res rk r st fun st => nx l st ρ μ (cs + mc)) else False
  | .ireturn => match st with
    | [.inl v] => F v ρ μ cs
    | _ => False
  | .lreturn => match st with
    | [.inr (.inl v)] => F v ρ μ cs
    | _ => False
  | .return_ => match st with
    | [] => F 0 ρ μ cs
    | _ => False
  | _ => False
def mq_wp (fam : mq_Fam) (rg : mq_R → mq_J → Nat → Option mq_J) (rp : mq_R → mq_J → Nat → mq_J → Option mq_R) (P : List mq_E) (cl : List mq_C) (md MC : Nat) (F : Int → mq_R → mq_M → Nat → Prop) (K : mq_K) : Nat → List mq_E → mq_N
  | 0, _, _, _, _, _, _ => False
  | _ + 1, [], _, _, _, _, _ => False
  | n + 1, (_, _, ins) :: is, l, st, ρ, μ, cs => mq_op fam rg rp cl md MC F ins l st ρ μ cs (mq_next K (mq_wp fam rg rp P cl md MC F K n) is) (fun t => mq_next K (mq_wp fam rg rp P cl md MC F K n) (mq_seek t P))
