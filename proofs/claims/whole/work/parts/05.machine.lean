/-! THE ABSTRACT MACHINE. Behind both constructors nothing is made any more, every reference is constant: a memory is what the int (boolean) and long fields and rows hold, by handle and place. Handles: 0 PaletteBuilder, 1 its Snapshot 'now' (2 pixels, 3 palette, 4 locked, 5 indices), 6 History (7 states), 8 Text, 12 Histogram, 16 Survey, 21 MedianCut, 25 Reducer, 27 Arranger, 30 Mapper, 32 Report, 33 PaletteBuilderModel (34..48 its rows), 49 + 5 i the Snapshots of the history, 99 the static row MATRIX, 100 the script. -/
abbrev am_M : Type := (Nat → Nat → Int32) × (Nat → Nat → Int64)
abbrev am_L : Type := List (Option Value)
/-- pc, locals, stack, memory -/
abbrev am_C : Type := Nat × am_L × List Value × am_M
abbrev am_PT : Type := Option Value → am_M → Prop
abbrev am_Call : Type := Nat → List Value → am_M → am_PT → Prop
/-- kind (class number; 12 int row, 13 long row, 14 boolean row, 15 row of Snapshots), length, references by field -/
def am_shape : List (Nat × Nat × List Nat) := [(10, 10, [1, 6, 8, 12, 16, 21, 25, 27, 30, 32]),
  (7, 9, [0, 0, 2, 0, 3, 4, 0, 0, 5]),
  (12, 256, []),
  (12, 16, []),
  (14, 16, []),
  (12, 256, []),
  (2, 3, [7, 0, 0]),
  (15, 10, [49, 54, 59, 64, 69, 74, 79, 84, 89, 94]),
  (9, 5, [9, 0, 10, 11, 0]),
  (12, 140, []),
  (12, 16, []),
  (14, 16, []),
  (1, 5, [1, 13, 14, 15, 0]),
  (13, 256, []),
  (12, 256, []),
  (12, 256, []),
  (8, 6, [1, 17, 18, 19, 20, 0]),
  (12, 256, []),
  (12, 256, []),
  (12, 16, []),
  (12, 16, []),
  (4, 6, [1, 12, 22, 23, 24, 0]),
  (13, 256, []),
  (12, 16, []),
  (12, 16, []),
  (5, 5, [1, 16, 26, 0, 0]),
  (12, 48, []),
  (0, 4, [1, 16, 28, 29]),
  (12, 16, []),
  (12, 16, []),
  (3, 2, [1, 31]),
  (12, 768, []),
  (6, 1, [1]),
  (11, 21, [34, 35, 0, 36, 0, 37, 38, 0, 39, 40, 41, 42, 43, 44, 0, 45, 0, 46, 47, 48, 0]),
  (12, 549, []),
  (12, 5490, []),
  (12, 140, []),
  (12, 256, []),
  (12, 256, []),
  (12, 16, []),
  (12, 16, []),
  (12, 16, []),
  (12, 16, []),
  (12, 16, []),
  (12, 16, []),
  (12, 256, []),
  (12, 48, []),
  (14, 16, []),
  (12, 768, []),
  (7, 9, [0, 0, 50, 0, 51, 52, 0, 0, 53]),
  (12, 256, []),
  (12, 16, []),
  (14, 16, []),
  (12, 256, []),
  (7, 9, [0, 0, 55, 0, 56, 57, 0, 0, 58]),
  (12, 256, []),
  (12, 16, []),
  (14, 16, []),
  (12, 256, []),
  (7, 9, [0, 0, 60, 0, 61, 62, 0, 0, 63]),
  (12, 256, []),
  (12, 16, []),
  (14, 16, []),
  (12, 256, []),
  (7, 9, [0, 0, 65, 0, 66, 67, 0, 0, 68]),
  (12, 256, []),
  (12, 16, []),
  (14, 16, []),
  (12, 256, []),
  (7, 9, [0, 0, 70, 0, 71, 72, 0, 0, 73]),
  (12, 256, []),
  (12, 16, []),
  (14, 16, []),
  (12, 256, []),
  (7, 9, [0, 0, 75, 0, 76, 77, 0, 0, 78]),
  (12, 256, []),
  (12, 16, []),
  (14, 16, []),
  (12, 256, []),
  (7, 9, [0, 0, 80, 0, 81, 82, 0, 0, 83]),
  (12, 256, []),
  (12, 16, []),
  (14, 16, []),
  (12, 256, []),
  (7, 9, [0, 0, 85, 0, 86, 87, 0, 0, 88]),
  (12, 256, []),
  (12, 16, []),
  (14, 16, []),
  (12, 256, []),
  (7, 9, [0, 0, 90, 0, 91, 92, 0, 0, 93]),
  (12, 256, []),
  (12, 16, []),
  (14, 16, []),
  (12, 256, []),
  (7, 9, [0, 0, 95, 0, 96, 97, 0, 0, 98]),
  (12, 256, []),
  (12, 16, []),
  (14, 16, []),
  (12, 256, [])]
/-- types of a class's fields: 0 int, 1 long, 2 reference, 3 boolean -/
def am_fts : List (List Nat) := [[2, 2, 2, 2], [2, 2, 2, 2, 0], [2, 0, 0], [2, 2], [2, 2, 2, 2, 2, 0], [2, 2, 2, 0, 0], [2], [0, 0, 2, 0, 2, 2, 0, 3, 2], [2, 2, 2, 2, 2, 0], [2, 0, 2, 2, 0], [2, 2, 2, 2, 2, 2, 2, 2, 2, 2], [2, 2, 0, 2, 0, 2, 2, 0, 2, 2, 2, 2, 2, 2, 0, 2, 0, 2, 2, 2, 1]]
def am_k (k : Nat) : Nat := (am_shape.getD k (99, 0, [])).1
def am_n (k : Nat) : Nat := (am_shape.getD k (99, 0, [])).2.1
def am_r (k j : Nat) : Nat := (am_shape.getD k (99, 0, [])).2.2.getD j 0
def am_ft (c : Nat) : List Nat := am_fts.getD c []
def am_v (adr : Nat → Nat) : Value → Value
  | .ref k => .ref (adr k)
  | v => v
/-- a field's value, abstract -/
def am_av (M : am_M) (k j t : Nat) : Value := match t with
  | 1 => .long (M.2 k j)
  | 2 => .ref (am_r k j)
  | _ => .int (M.1 k j)
def am_e (cy : Nat → ClassId) (adr : Nat → Nat) (M : am_M) (k : Nat) : va_E := match am_k k with
  | 12 => .inl (cy 0, am_n k, .inl (M.1 k))
  | 13 => .inl (cy 1, am_n k, .inr (.inl (M.2 k)))
  | 14 => .inl (cy 2, am_n k, .inl (M.1 k))
  | 15 => .inl (cy 3, am_n k, .inr (.inr (.inr (.inr (fun i => some (adr (am_r k i)))))))
  | c => .inr (c, (am_ft c).mapIdx (fun j t => am_v adr (am_av M k j t)))
def am_W (cy : Nat → ClassId) (adr : Nat → Nat) (M : am_M) : va_W := (List.range 99).map (fun k => (adr k, am_e cy adr M k))
/-- row k replaced -/
def am_u {α : Type} (f : Nat → Nat → α) (k : Nat) (g : Nat → α) : Nat → Nat → α := fun k' => if k' = k then g else f k'
def am_A (adr : Nat → Nat) : Nat → Prop := fun q => ∃ k, k < 99 ∧ adr k = q
def am_tys (cy : Nat → ClassId) : List (ClassId × FieldType) := [(cy 0, .int), (cy 1, .long), (cy 2, .boolean), (cy 3, .object "PaletteBuilder$Snapshot")]
def am_mat (i : Nat) : Int32 := ([0, 8, 2, 10, 12, 4, 14, 6, 3, 11, 1, 9, 15, 7, 13, 5] : List Int32).getD i 0
def am_wG : List Cond := lw_tbl.filter goodWord
/-- links -/
def am_lk {α : Type} (l : List (Nat × α)) (i : Nat) : Option α := match l with
  | [] => none
  | q :: t => if q.1 = i then some q.2 else am_lk t i
/-- the locals: a store clears what it cuts in two -/
def am_kill (L : am_L) (i : Nat) : am_L := match i with
  | 0 => L
  | j + 1 => match L[j]? with
    | some (some w) => if w.category = 2 then L.set j none else L
    | _ => L
def am_s1 (L : am_L) (i : Nat) (v : Value) : am_L := (am_kill L i).set i (some v)
def am_s2 (L : am_L) (i : Nat) (v : Value) : am_L := ((am_kill L i).set i (some v)).set (i + 1) none
def am_sl (a : List Value) : am_L := a.flatMap (fun v => if v.category = 2 then [some v, none] else [some v])
def am_entry (a : List Value) (n : Nat) : am_L := am_sl a ++ List.replicate (n - (am_sl a).length) none
def am_c (c : ClassFile.Cond) (x y : Int32) : Prop := match c with
  | .eq => x = y
  | .ne => ¬ x = y
  | .lt => x < y
  | .ge => y ≤ x
  | .gt => y < x
  | .le => x ≤ y
def am_fc (f : Fin 3) : UInt32 := match f with
  | 0 => FP.fconst0
  | 1 => FP.fconst1
  | 2 => FP.fconst2
/-- the arguments of arraycopy: what it does -/
def am_cp (a : List Value) (M : am_M) (Q : am_PT) : Prop := ∃ (s0 d : Nat) (sp dp n : Int32), a = [.ref s0, .int sp, .ref d, .int dp, .int n] ∧ s0 < 99 ∧ d < 99 ∧ am_k s0 = 12 ∧ am_k d = 12 ∧ ¬ sp < 0 ∧ ¬ dp < 0 ∧ ¬ n < 0 ∧ sp.toNatClampNeg + n.toNatClampNeg ≤ am_n s0 ∧ dp.toNatClampNeg + n.toNatClampNeg ≤ am_n d ∧ Q none (am_u M.1 d (va_cpy (M.1 s0) (M.1 d) sp.toNatClampNeg dp.toNatClampNeg n.toNatClampNeg), M.2)
/-- the script, for the law alone -/
abbrev am_S : Type := Option (Nat × (Nat → Int32))
/-- ONE INSTRUCTION, goal first: what must hold before it, so that P holds behind it (at a return Q) -/
def am_i (scr : am_S) (C : am_Call) (ci : Nat) (ret : Option FieldType) (Q : am_PT) (P : am_C → Prop) (i : Instr) (n pc : Nat) (L : am_L) (st : List Value) (M : am_M) : Prop :=
  match i with
  | .iconst k => n = 1 ∧ P (pc + 1, L, .int (Int32.ofInt k) :: st, M)
  | .bipush k => n = 2 ∧ P (pc + 2, L, .int (Int8.ofInt k).toInt32 :: st, M)
  | .sipush k => n = 3 ∧ P (pc + 3, L, .int (Int16.ofInt k).toInt32 :: st, M)
  | .lconst k => n = 1 ∧ P (pc + 1, L, .long (Int64.ofNat (k : Nat)) :: st, M)
  | .fconst k => n = 1 ∧ P (pc + 1, L, .float (am_fc k) :: st, M)
  | .ldc idx => n = 2 ∧ ∃ v p, am_lk (am_ktT ci) idx = some (v, p) ∧ v.category = 1 ∧ P (pc + 2, L, v :: st, M)
  | .ldc_w idx => n = 3 ∧ ∃ v p, am_lk (am_ktT ci) idx = some (v, p) ∧ v.category = 1 ∧ P (pc + 3, L, v :: st, M)
  | .ldc2_w idx => n = 3 ∧ ∃ v p, am_lk (am_ktT ci) idx = some (.long v, p) ∧ P (pc + 3, L, .long v :: st, M)
  | .iload_n k => n = 1 ∧ ∃ x, L[(k : Nat)]? = some (some (.int x)) ∧ P (pc + 1, L, .int x :: st, M)
  | .iload k => n = 2 ∧ ∃ x, L[k]? = some (some (.int x)) ∧ P (pc + 2, L, .int x :: st, M)
  | .lload_n k => n = 1 ∧ ∃ x, L[(k : Nat)]? = some (some (.long x)) ∧ P (pc + 1, L, .long x :: st, M)
  | .lload k => n = 2 ∧ ∃ x, L[k]? = some (some (.long x)) ∧ P (pc + 2, L, .long x :: st, M)
  | .fload_n k => n = 1 ∧ ∃ x, L[(k : Nat)]? = some (some (.float x)) ∧ P (pc + 1, L, .float x :: st, M)
  | .aload_n k => n = 1 ∧ ∃ x, L[(k : Nat)]? = some (some (.ref x)) ∧ P (pc + 1, L, .ref x :: st, M)
  | .istore_n k => n = 1 ∧ ∃ x r, st = .int x :: r ∧ (k : Nat) < L.length ∧ P (pc + 1, am_s1 L k (.int x), r, M)
  | .istore k => n = 2 ∧ ∃ x r, st = .int x :: r ∧ k < L.length ∧ P (pc + 2, am_s1 L k (.int x), r, M)
  | .fstore_n k => n = 1 ∧ ∃ x r, st = .float x :: r ∧ (k : Nat) < L.length ∧ P (pc + 1, am_s1 L k (.float x), r, M)
  | .lstore_n k => n = 1 ∧ ∃ x r, st = .long x :: r ∧ (k : Nat) + 1 < L.length ∧ P (pc + 1, am_s2 L k (.long x), r, M)
  | .lstore k => n = 2 ∧ ∃ x r, st = .long x :: r ∧ k + 1 < L.length ∧ P (pc + 2, am_s2 L k (.long x), r, M)
  | .iinc k d => n = 3 ∧ ∃ x, L[k]? = some (some (.int x)) ∧ P (pc + 3, am_s1 L k (.int (x + Int32.ofInt d)), st, M)
  | .iadd => n = 1 ∧ ∃ x y r, st = .int y :: .int x :: r ∧ P (pc + 1, L, .int (x + y) :: r, M)
  | .isub => n = 1 ∧ ∃ x y r, st = .int y :: .int x :: r ∧ P (pc + 1, L, .int (x - y) :: r, M)
  | .imul => n = 1 ∧ ∃ x y r, st = .int y :: .int x :: r ∧ P (pc + 1, L, .int (x * y) :: r, M)
  | .idiv => n = 1 ∧ ∃ x y r, st = .int y :: .int x :: r ∧ ¬ y = 0 ∧ P (pc + 1, L, .int (x / y) :: r, M)
  | .irem => n = 1 ∧ ∃ x y r, st = .int y :: .int x :: r ∧ ¬ y = 0 ∧ P (pc + 1, L, .int (x - x / y * y) :: r, M)
  | .iand => n = 1 ∧ ∃ x y r, st = .int y :: .int x :: r ∧ P (pc + 1, L, .int (x &&& y) :: r, M)
  | .ixor => n = 1 ∧ ∃ x y r, st = .int y :: .int x :: r ∧ P (pc + 1, L, .int (x ^^^ y) :: r, M)
  | .ishl => n = 1 ∧ ∃ x y r, st = .int y :: .int x :: r ∧ P (pc + 1, L, .int (x <<< (y &&& 31)) :: r, M)
  | .ishr => n = 1 ∧ ∃ x y r, st = .int y :: .int x :: r ∧ P (pc + 1, L, .int (x >>> (y &&& 31)) :: r, M)
  | .ineg => n = 1 ∧ ∃ x r, st = .int x :: r ∧ P (pc + 1, L, .int (-x) :: r, M)
  | .ladd => n = 1 ∧ ∃ x y r, st = .long y :: .long x :: r ∧ P (pc + 1, L, .long (x + y) :: r, M)
  | .lsub => n = 1 ∧ ∃ x y r, st = .long y :: .long x :: r ∧ P (pc + 1, L, .long (x - y) :: r, M)
  | .lmul => n = 1 ∧ ∃ x y r, st = .long y :: .long x :: r ∧ P (pc + 1, L, .long (x * y) :: r, M)
  | .ldiv => n = 1 ∧ ∃ x y r, st = .long y :: .long x :: r ∧ ¬ y = 0 ∧ P (pc + 1, L, .long (x / y) :: r, M)
  | .lrem => n = 1 ∧ ∃ x y r, st = .long y :: .long x :: r ∧ ¬ y = 0 ∧ P (pc + 1, L, .long (x - x / y * y) :: r, M)
  | .land => n = 1 ∧ ∃ x y r, st = .long y :: .long x :: r ∧ P (pc + 1, L, .long (x &&& y) :: r, M)
  | .lshr => n = 1 ∧ ∃ (x : Int64) (y : Int32) (r : List Value), st = .int y :: .long x :: r ∧ P (pc + 1, L, .long (x >>> (y.toInt64 &&& 63)) :: r, M)
  | .lcmp => n = 1 ∧ ∃ x y r, st = .long y :: .long x :: r ∧ P (pc + 1, L, .int (lg_cmp x y) :: r, M)
  | .i2l => n = 1 ∧ ∃ x r, st = .int x :: r ∧ P (pc + 1, L, .long x.toInt64 :: r, M)
  | .l2i => n = 1 ∧ ∃ x r, st = .long x :: r ∧ P (pc + 1, L, .int x.toInt32 :: r, M)
  | .i2f => n = 1 ∧ ∃ x r, st = .int x :: r ∧ P (pc + 1, L, .float (FP.i2f x) :: r, M)
  | .f2i => n = 1 ∧ ∃ x r, st = .float x :: r ∧ P (pc + 1, L, .int (FP.f2i x) :: r, M)
  | .fmul => n = 1 ∧ ∃ x y r, st = .float y :: .float x :: r ∧ vf_n32 (FP.fmul x y) ∧ P (pc + 1, L, .float (FP.fmul x y) :: r, M)
  | .fdiv => n = 1 ∧ ∃ x y r, st = .float y :: .float x :: r ∧ vf_n32 (FP.fdiv x y) ∧ P (pc + 1, L, .float (FP.fdiv x y) :: r, M)
  | .fcmp op => n = 1 ∧ ∃ x y r, st = .float y :: .float x :: r ∧ P (pc + 1, L, .int (Op.cmpValue (FP.fcmp x y) op) :: r, M)
  | .dup => n = 1 ∧ ∃ v r, st = v :: r ∧ v.category = 1 ∧ P (pc + 1, L, v :: v :: r, M)
  | .dup2 => n = 1 ∧ ∃ v w r, st = v :: w :: r ∧ v.category = 1 ∧ w.category = 1 ∧ P (pc + 1, L, v :: w :: v :: w :: r, M)
  | .ifCond cnd off => n = 3 ∧ ∃ x r t, st = .int x :: r ∧ (pc : Int) + off = ((t : Nat) : Int) ∧ (am_c cnd x 0 → P (t, L, r, M)) ∧ (¬ am_c cnd x 0 → P (pc + 3, L, r, M))
  | .if_icmp cnd off => n = 3 ∧ ∃ x y r t, st = .int y :: .int x :: r ∧ (pc : Int) + off = ((t : Nat) : Int) ∧ (am_c cnd x y → P (t, L, r, M)) ∧ (¬ am_c cnd x y → P (pc + 3, L, r, M))
  | .goto off => n = 3 ∧ ∃ t, (pc : Int) + off = ((t : Nat) : Int) ∧ P (t, L, st, M)
  | .tableswitch dflt lo hi offs => ∃ x r, st = .int x :: r ∧ ((x.toInt < lo ∨ hi < x.toInt) → ∃ t, (pc : Int) + dflt = ((t : Nat) : Int) ∧ P (t, L, r, M)) ∧ (¬ x.toInt < lo → ¬ hi < x.toInt → ∃ off t, offs[(x.toInt - lo).toNat]? = some off ∧ (pc : Int) + off = ((t : Nat) : Int) ∧ P (t, L, r, M))
  | .getfield idx => n = 3 ∧ ∃ k r c j t p, st = .ref k :: r ∧ am_lk (am_flT ci) idx = some (c, j, p) ∧ (am_ft c)[j]? = some t ∧ k < 99 ∧ am_k k = c ∧ c < 12 ∧ P (pc + 3, L, am_av M k j t :: r, M)
  | .putfield idx => n = 3 ∧ ∃ k v r c j t p, st = v :: .ref k :: r ∧ am_lk (am_flT ci) idx = some (c, j, p) ∧ (am_ft c)[j]? = some t ∧ k < 99 ∧ am_k k = c ∧ c < 12 ∧ (am_T c j).2.2.2 = false ∧
      ((∃ x, v = .int x ∧ (t = 0 ∨ (t = 3 ∧ (x = 0 ∨ x = 1))) ∧ P (pc + 3, L, r, (am_u M.1 k (upd (M.1 k) j x), M.2))) ∨ (∃ x, v = .long x ∧ t = 1 ∧ P (pc + 3, L, r, (M.1, am_u M.2 k (vp_updL (M.2 k) j x)))))
  | .getstatic idx => n = 3 ∧ ci = 3 ∧ idx = 32 ∧ P (pc + 3, L, .ref 99 :: st, M)
  | .iaload => n = 1 ∧ ∃ i k r, st = .int i :: .ref k :: r ∧ ((k < 99 ∧ am_k k = 12 ∧ vp_in i (am_n k) ∧ P (pc + 1, L, .int (M.1 k i.toNatClampNeg) :: r, M)) ∨ (k = 99 ∧ vp_in i 16 ∧ P (pc + 1, L, .int (am_mat i.toNatClampNeg) :: r, M)) ∨ (k = 100 ∧ ∃ z xs, scr = some (z, xs) ∧ vp_in i z ∧ P (pc + 1, L, .int (xs i.toNatClampNeg) :: r, M)))
  | .baload => n = 1 ∧ ∃ i k r, st = .int i :: .ref k :: r ∧ k < 99 ∧ am_k k = 14 ∧ vp_in i (am_n k) ∧ P (pc + 1, L, .int (M.1 k i.toNatClampNeg) :: r, M)
  | .laload => n = 1 ∧ ∃ i k r, st = .int i :: .ref k :: r ∧ k < 99 ∧ am_k k = 13 ∧ vp_in i (am_n k) ∧ P (pc + 1, L, .long (M.2 k i.toNatClampNeg) :: r, M)
  | .aaload => n = 1 ∧ ∃ i k r, st = .int i :: .ref k :: r ∧ k < 99 ∧ am_k k = 15 ∧ vp_in i (am_n k) ∧ P (pc + 1, L, .ref (am_r k i.toNatClampNeg) :: r, M)
  | .iastore => n = 1 ∧ ∃ x i k r, st = .int x :: .int i :: .ref k :: r ∧ k < 99 ∧ am_k k = 12 ∧ vp_in i (am_n k) ∧ P (pc + 1, L, r, (am_u M.1 k (upd (M.1 k) i.toNatClampNeg x), M.2))
  | .bastore => n = 1 ∧ ∃ x i k r, st = .int x :: .int i :: .ref k :: r ∧ k < 99 ∧ am_k k = 14 ∧ vp_in i (am_n k) ∧ P (pc + 1, L, r, (am_u M.1 k (upd (M.1 k) i.toNatClampNeg (vp_nar .boolean x)), M.2))
  | .lastore => n = 1 ∧ ∃ x i k r, st = .long x :: .int i :: .ref k :: r ∧ k < 99 ∧ am_k k = 13 ∧ vp_in i (am_n k) ∧ P (pc + 1, L, r, (M.1, am_u M.2 k (vp_updL (M.2 k) i.toNatClampNeg x)))
  | .arraylength => n = 1 ∧ ∃ k r, st = .ref k :: r ∧ ((k < 99 ∧ 12 ≤ am_k k ∧ am_k k ≤ 14 ∧ P (pc + 1, L, .int (Int32.ofNat (am_n k)) :: r, M)) ∨ (k = 100 ∧ ∃ z xs, scr = some (z, xs) ∧ P (pc + 1, L, .int (Int32.ofNat z) :: r, M)))
  | .invokevirtual idx => n = 3 ∧ ∃ z nest p As k r y cc mL rt c np ps, am_lk (am_mlT ci) idx = some (z, nest, p) ∧ am_ms[z]? = some (y, cc, mL, rt, c, false, np, ps) ∧ st = As.reverse ++ .ref k :: r ∧ As.length = np ∧ k < 99 ∧ am_k k = c ∧ c < 12 ∧ (r.map fun v => v.category).sum ≤ 8 ∧ C z (.ref k :: As) M (fun v M' => P (pc + 3, L, v.toList ++ r, M'))
  | .invokestatic idx => n = 3 ∧ ((∃ z nest p As r y cc mL rt c np ps, am_lk (am_mlT ci) idx = some (z, nest, p) ∧ am_ms[z]? = some (y, cc, mL, rt, c, true, np, ps) ∧ st = As.reverse ++ r ∧ As.length = np ∧ (r.map fun v => v.category).sum ≤ 8 ∧ C z As M (fun v M' => P (pc + 3, L, v.toList ++ r, M'))) ∨
      (((ci = 7 ∧ idx = 42) ∨ (ci = 0 ∧ idx = 78)) ∧ ∃ As r, st = As.reverse ++ r ∧ (r.map fun v => v.category).sum ≤ 8 ∧ C 1000 As M (fun v M' => P (pc + 3, L, r, M'))))
  | .ireturn => n = 1 ∧ ∃ x, st = [.int x] ∧ (ret = some .int ∨ (ret = some .boolean ∧ (x = 0 ∨ x = 1))) ∧ Q (some (.int x)) M
  | .lreturn => n = 1 ∧ ∃ x, st = [.long x] ∧ ret = some .long ∧ Q (some (.long x)) M
  | .return_ => n = 1 ∧ st = [] ∧ ret = none ∧ Q none M
  | _ => False
def am_wp (scr : am_S) (C : am_Call) (cc : ByteArray) (ci : Nat) (ret : Option FieldType) (Q : am_PT) (P : am_C → Prop) (c : am_C) : Prop :=
  ∃ i n, decode cc c.1 = .ok (i, n) ∧ am_i scr C ci ret Q P i n c.1 c.2.1 c.2.2.1 c.2.2.2
/-- some locals forgotten -/
def am_wk (ks : List Nat) (L : am_L) : am_L := ks.foldl (fun l k => l.set k none) L
def am_le (L' L : am_L) : Prop := L'.length = L.length ∧ ∀ (i : Nat) (v : Value), L'[i]? = some (some v) → L[i]? = some (some v)
theorem am_wk_le (ks : List Nat) (L : am_L) : am_le (am_wk ks L) L := by
  unfold am_wk
  induction ks generalizing L with
  | nil => exact ⟨rfl, fun _ _ h => h⟩
  | cons k t ih =>
    obtain ⟨h1, h2⟩ := ih (L.set k none)
    refine ⟨by rw [List.foldl_cons, h1, List.length_set], fun i v h => ?_⟩
    have h3 := h2 i v h
    by_cases hi : i = k
    · subst hi
      have hl := (List.getElem?_eq_some_iff.mp h3).1
      rw [List.length_set] at hl
      rw [List.getElem?_set_self hl] at h3
      cases h3
    · rwa [List.getElem?_set_ne (Ne.symm hi)] at h3
/-- from c the method returns, with Q -/
def am_E (scr : am_S) (C : am_Call) (cc : ByteArray) (ci : Nat) (ret : Option FieldType) (Q : am_PT) (c : am_C) : Prop :=
  ∀ P : am_C → Prop, (∀ x, ((∃ P' : am_C → Prop, (∀ y, P' y → P y) ∧ am_wp scr C cc ci ret Q P' x) ∨ ∃ L', am_le L' x.2.1 ∧ P (x.1, L', x.2.2)) → P x) → P c
theorem am_E.in {scr : am_S} {C : am_Call} {cc : ByteArray} {ci : Nat} {ret : Option FieldType} {Q : am_PT} {c : am_C} (h : am_wp scr C cc ci ret Q (am_E scr C cc ci ret Q) c) : am_E scr C cc ci ret Q c :=
  fun P hP => hP c (Or.inl ⟨_, fun y hy => hy P hP, h⟩)
theorem ae_forget {scr : am_S} {C : am_Call} {cc : ByteArray} {ci : Nat} {ret : Option FieldType} {Q : am_PT} {pc : Nat} {L L' : am_L} {st : List Value} {M : am_M} (ks : List Nat) (hL : am_wk ks L = L') (h : am_E scr C cc ci ret Q (pc, L', st, M)) : am_E scr C cc ci ret Q (pc, L, st, M) :=
  fun P hP => hP _ (Or.inr ⟨L', hL ▸ am_wk_le ks L, h P hP⟩)
/-- a method of the list, called: it returns with Q -/
def am_1 (C : am_Call) (z : Nat) (a : List Value) (M : am_M) (Q : am_PT) : Prop :=
  ∃ y cc mL rt c st np ps, am_ms[z]? = some (y, cc, mL, rt, c, st, np, ps) ∧ (am_sl a).length ≤ mL ∧ ∃ Q' : am_PT, (∀ v M', Q' v M' → Q v M') ∧ am_E none C cc c rt Q' (0, am_entry a mL, [], M)
def am_R : Nat → am_Call
  | 0 => fun z a M Q => (z < 1000 ∧ am_1 (fun _ _ _ _ => False) z a M Q) ∨ (z = 1000 ∧ am_cp a M Q)
  | d + 1 => fun z a M Q => (z < 1000 ∧ am_1 (am_R d) z a M Q) ∨ (z = 1000 ∧ am_cp a M Q)
theorem am_R.mono {d z : Nat} {a : List Value} {M : am_M} {Q Q' : am_PT} (h : am_R d z a M Q) (hQ : ∀ v M', Q v M' → Q' v M') : am_R d z a M Q' := by
  have k1 : ∀ C, am_1 C z a M Q → am_1 C z a M Q' := by
    rintro C ⟨y, cc, mL, rt, c, st, np, ps, h1, h2, Q0, h3, h4⟩
    exact ⟨y, cc, mL, rt, c, st, np, ps, h1, h2, Q0, fun v M' q => hQ v M' (h3 v M' q), h4⟩
  have k2 : am_cp a M Q → am_cp a M Q' := by
    rintro ⟨s0, d, sp, dp, n, h1, h2, h3, h4, h5, h6, h7, h8, h9, h10, h11⟩
    exact ⟨s0, d, sp, dp, n, h1, h2, h3, h4, h5, h6, h7, h8, h9, h10, hQ _ _ h11⟩
  cases d with
  | zero => exact h.elim (fun q => Or.inl ⟨q.1, k1 _ q.2⟩) (fun q => Or.inr ⟨q.1, k2 q.2⟩)
  | succ d => exact h.elim (fun q => Or.inl ⟨q.1, k1 _ q.2⟩) (fun q => Or.inr ⟨q.1, k2 q.2⟩)
/-! what the tables say of a class -/
def am_clsP (c : Nat) : Prop := ∃ (N : Nat) (ty0 : Nat → FieldType), vwCl[c]? = some (am_cn c, am_T c, N) ∧ (∀ w ∈ u_ws (am_cn c) (am_T c) N, w ∈ lw_tbl ∧ goodWord w = true) ∧ (∀ k, k < N → parseFieldDescriptor (am_T c k).2.2.1 = some (ty0 k)) ∧ (∀ a, a < N → ∀ b, b < N → a ≠ b → (am_T c a).2.1 ≠ (am_T c b).2.1) ∧ ((am_ft c).length = N ∧ ∀ j, j < N → ((am_ft c).getD j 2 = 0 → ty0 j = .int) ∧ ((am_ft c).getD j 2 = 1 → ty0 j = .long) ∧ ((am_ft c).getD j 2 = 3 → ty0 j = .boolean) ∧ (am_T c j).1 = am_cn c)
theorem am_cls0 : am_clsP 0 := ⟨4, tyX0, rfl, by decide +kernel, tyX0_ok, nmX0, by decide +kernel⟩
theorem am_cls1 : am_clsP 1 := ⟨5, tyX1, rfl, by decide +kernel, tyX1_ok, nmX1, by decide +kernel⟩
theorem am_cls2 : am_clsP 2 := ⟨3, tyX2, rfl, by decide +kernel, tyX2_ok, nmX2, by decide +kernel⟩
theorem am_cls3 : am_clsP 3 := ⟨2, tyX3, rfl, by decide +kernel, tyX3_ok, nmX3, by decide +kernel⟩
theorem am_cls4 : am_clsP 4 := ⟨6, tyX4, rfl, by decide +kernel, tyX4_ok, nmX4, by decide +kernel⟩
theorem am_cls5 : am_clsP 5 := ⟨5, tyX5, rfl, by decide +kernel, tyX5_ok, nmX5, by decide +kernel⟩
theorem am_cls6 : am_clsP 6 := ⟨1, tyX6, rfl, by decide +kernel, tyX6_ok, nmX6, by decide +kernel⟩
theorem am_cls7 : am_clsP 7 := ⟨9, tyX7, rfl, by decide +kernel, tyX7_ok, nmX7, by decide +kernel⟩
theorem am_cls8 : am_clsP 8 := ⟨6, tyX8, rfl, by decide +kernel, tyX8_ok, nmX8, by decide +kernel⟩
theorem am_cls9 : am_clsP 9 := ⟨5, tyX9, rfl, by decide +kernel, tyX9_ok, nmX9, by decide +kernel⟩
theorem am_cls10 : am_clsP 10 := ⟨10, tyX10, rfl, by decide +kernel, tyX10_ok, nmX10, by decide +kernel⟩
theorem am_cls11 : am_clsP 11 := ⟨21, tyX11, rfl, by decide +kernel, tyX11_ok, nmX11, by decide +kernel⟩
theorem am_clsOk (c : Nat) (h : c < 12) : am_clsP c := match c, h with
  | 0, _ => am_cls0
  | 1, _ => am_cls1
  | 2, _ => am_cls2
  | 3, _ => am_cls3
  | 4, _ => am_cls4
  | 5, _ => am_cls5
  | 6, _ => am_cls6
  | 7, _ => am_cls7
  | 8, _ => am_cls8
  | 9, _ => am_cls9
  | 10, _ => am_cls10
  | 11, _ => am_cls11
  | _ + 12, h => absurd h (by omega)
