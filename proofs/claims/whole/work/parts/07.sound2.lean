/-! SOUNDNESS OF THE ABSTRACT MACHINE, second half: every instruction, every method -/
/-- what stands of the tables all through a run -/
def am_K (D : va_G) (cy : Nat → ClassId) (adr : Nat → Nat) (U : State) : Prop := va_K D vwCl (am_tys cy) U ∧ (∀ i j, i < 99 → j < 99 → adr i = adr j → i = j) ∧ (∀ w ∈ am_nest, va_Nw w U) ∧ va_Z "PaletteBuilder$Mapper" "MATRIX" "[I" (.ref (adr 99)) (am_A adr) U U.heap ∧ va_T .int (adr 99) 16 (fun i => .int (am_mat i)) (am_A adr) U U.heap
def am_ok (D : va_G) (cy : Nat → ClassId) (adr : Nat → Nat) (M : am_M) (U : State) : Prop := va_P D vwCl (am_W cy adr M) U.heap ∧ am_K D cy adr U
def am_Qc (D : va_G) (cy : Nat → ClassId) (adr : Nat → Nat) (Q : am_PT) : Array Value → State → Outcome → State → Prop := fun _ st o t => (∃ v M', o = .returned (v.map (am_v adr)) ∧ Q v M' ∧ va_P D vwCl (am_W cy adr M') t.heap) ∧ va_F (am_A adr) st t
theorem am_K.move {D : va_G} {cy : Nat → ClassId} {adr : Nat → Nat} {s U : State} (h : am_K D cy adr s) (hW : s.WarmedH U.vm) (hh : ∀ a : Nat, a < s.heap.size → ¬ am_A adr a → U.heap[a]? = s.heap[a]?) : am_K D cy adr U := by
  obtain ⟨h1, h2, h3, h4, h5⟩ := h
  refine ⟨va_K.moved hW.alike h1, h2, fun w hw => ?_, va_Z.kept (va_Z.moved hW.alike h4) hh, va_T.kept (va_T.moved hW.alike h5) hh⟩
  obtain ⟨a, i, x, b, rfl⟩ := am_nest_of hw
  exact va_Nw.warmM hW (h3 _ hw)
theorem am_ok.blind {D : va_G} {cy : Nat → ClassId} {adr : Nat → Nat} {M : am_M} {a : List Value} : FrameBlind (va_Pc a (am_ok D cy adr M)) := by
  intro a' U g mk h
  obtain ⟨rfl, hP, h1, h2, h3, h4, h5⟩ := h
  refine ⟨rfl, hP, va_K.moved (u := U) (Vm.Alike.refl U.vm) h1, h2, fun w hw => ?_, va_Z.moved (u := U) (Vm.Alike.refl U.vm) h4, va_T.moved (u := U) (Vm.Alike.refl U.vm) h5⟩
  obtain ⟨a, i, x, b, rfl⟩ := am_nest_of hw
  exact va_Nw.same (u := U) rfl rfl (h3 _ hw)
/-- what a call's meaning gives on the machine, from a caller with room R -/
def am_CS (l : Launch) (R : Room) (D : va_G) (cy : Nat → ClassId) (adr : Nat → Nat) (C : am_Call) : Prop :=
  (∀ z y cc mL rt ci st np ps, am_ms[z]? = some (y, cc, mL, rt, ci, st, np, ps) → ∀ a M Q, C z a M Q → ∃ rm : Room, rm.cells = 0 ∧ rm.slots = 0 ∧ rm.frames + 1 ≤ R.frames ∧ 38 + rm.locals ≤ R.locals ∧ Met l y (Cond.code y cc mL rt :: am_wG) rm (va_Pc (a.map (am_v adr)) (am_ok D cy adr M)) (am_Qc D cy adr Q) 0 0 (am_A adr)) ∧
  ∀ a M Q, C 1000 a M Q → am_cp a M Q ∧ 1 ≤ R.frames ∧ 38 ≤ R.locals
/-- what stands at every instruction of a method -/
def am_At (p : Program) (s : State) (m : MethodId) (args : Array Value) (c : Code) (cc : ByteArray) (nL : Nat) (D : va_G) (cy : Nat → ClassId) (adr : Nat → Nat) (Ts : List Cond) (ci : Nat) : Prop :=
  p.tables.exec = Jvm.exec ∧ c.code = cc ∧ c.maxLocals = nL ∧ s.vm.findClass (am_cn ci) = some m.cls ∧ (∀ w ∈ Ts, w.before args s = true) ∧ (∀ w ∈ am_wG, w ∈ Ts) ∧ am_K D cy adr s
section AMS
variable {p : Program} {l : Launch} {e : Env} {R : Room} {s : State} {m : MethodId} {args : Array Value} {below : List Frame} {meth : Method} {c : Code} {cells slots : Nat} {Qf : State → Prop}
variable {cc : ByteArray} {nL : Nat} {D : va_G} {cy : Nat → ClassId} {adr : Nat → Nat} {Ts : List Cond} {ci : Nat}
def am_Pw (p : Program) (l : Launch) (e : Env) (R : Room) (s : State) (m : MethodId) (args : Array Value) (below : List Frame) (meth : Method) (c : Code) (cells slots : Nat) (Qf : State → Prop) (nL : Nat) (D : va_G) (cy : Nat → ClassId) (adr : Nat → Nat) (x : am_C) : Prop :=
  ∀ (H : Heap) (locs : List Loc) (ls : Array Slot), am_LL adr ls nL x.2.1 → va_P D vwCl (am_W cy adr x.2.2.2) H → va_S (am_A adr) s.heap H locs → W p l e R s m args below meth c H locs cells slots Qf (F0 m x.1 ls (x.2.2.1.map (am_v adr)))
theorem am_call {H : Heap} {locs : List Loc} {pc : Nat} {ls : Array Slot} {st0 rest : List Value} {Q' : am_PT} {a : Array Value} (hr : va_Run p l e R s m args below meth c H locs cells slots 0 0 (F0 m pc ls st0) rest (am_Qc D cy adr Q' a) (am_A adr)) (hS : va_S (am_A adr) s.heap H locs)
    (kk : ∀ (v : Option Value) (M' : am_M) (H1 : Heap) (locs1 : List Loc), Q' v M' → va_P D vwCl (am_W cy adr M') H1 → va_S (am_A adr) s.heap H1 locs1 → W p l e R s m args below meth c H1 locs1 cells slots Qf (F0 m (pc + 3) ls ((v.map (am_v adr)).toList ++ rest))) : W p l e R s m args below meth c H locs cells slots Qf (F0 m pc ls st0) := by
  intro T hT X
  obtain ⟨v, st₀, t, T', L, h0, X', hL, e1, e2, ⟨⟨v', M', hv, hq, hb⟩, hz, hk⟩, st⟩ := hr T hT X
  cases hv
  rw [h0] at hz hk
  obtain ⟨t2, a1, b1⟩ := kk v' M' T'.heap (locs ++ L) hq (by rw [e1]; exact hb)
    ⟨Nat.le_trans hS.1 (by rw [e1]; exact hz), fun q h1 h2 => by rw [e1, hk q (Nat.lt_of_lt_of_le h1 hS.1) h2]; exact hS.2.1 q h1 h2, fun q hq => by
      rcases List.mem_append.mp hq with h | h
      · exact hS.2.2 q h
      · exact hL q h⟩ T' rfl X'
  exact ⟨t2, st t2 a1, b1⟩
/-- ldc_w of a float -/
theorem am_ldcwf {H : Heap} {locs : List Loc} {pc : Nat} {ls : Array Slot} {rest : List Value} (hexec : p.tables.exec = Jvm.exec) (hb : c.code = cc) {own : String} {index : Nat} {v : UInt32} (hown : s.vm.findClass own = some m.cls) (hconst : (Jvm.Cond.constantFloat own index v).before args s = true) (hdg : decode cc pc = .ok (.ldc_w index, 3)) (k : W p l e R s m args below meth c H locs cells slots Qf (F0 m (pc + 3) ls (.float v :: rest))) : W p l e R s m args below meth c H locs cells slots Qf (F0 m pc ls rest) := by
  intro T hT X
  obtain ⟨t, a, b⟩ := k T hT X
  refine ⟨t, ?_, b⟩
  obtain ⟨k, cf, hk, hcf, hcp⟩ := Cond.constantFloat_spec hown hconst
  obtain ⟨k', hk', he⟩ := X.warmed.alike.2.2 _ _ hk
  jvm_step X.here [hexec, hb, hdg, ldc_w.wp_float (s := T) (f := F0 m pc ls rest) X.here.top hk' (by rw [he]; exact hcf) hcp]
  exact a
theorem am_goodIn (hG : ∀ w ∈ am_wG, w ∈ Ts) {y : MethodName} {cc' : ByteArray} {mL : Nat} {rt : Option FieldType} (hc : Cond.code y cc' mL rt ∈ am_wG) : GoodIn Ts (Cond.code y cc' mL rt :: am_wG) := by
  intro w hw
  have h : w ∈ am_wG := by
    rcases List.mem_cons.mp hw with rfl | h
    · exact hc
    · exact h
  exact ⟨hG w h, good_of_word (List.mem_filter.mp h).2⟩
theorem am_pre {H : Heap} {locs : List Loc} {a : List Value} {M : am_M} (hK : am_K D cy adr s) (hP : va_P D vwCl (am_W cy adr M) H) (hS : va_S (am_A adr) s.heap H locs) : ∀ U : State, U.heap = H → s.WarmedH U.vm → va_Pc a (am_ok D cy adr M) a.toArray U := by
  intro U hU hW
  exact ⟨rfl, by rw [hU]; exact hP, hK.move hW (fun q h1 h2 => by rw [hU]; exact hS.2.1 q h1 h2)⟩
/-- the returns -/
def am_Ret (p : Program) (l : Launch) (e : Env) (R : Room) (s : State) (m : MethodId) (args : Array Value) (below : List Frame) (meth : Method) (c : Code) (cells slots : Nat) (Qf : State → Prop) (D : va_G) (cy : Nat → ClassId) (adr : Nat → Nat) (cc : ByteArray) (ret : Option FieldType) (Q : am_PT) : Prop :=
  ∀ (M : am_M) (H : Heap) (locs : List Loc) (ls : Array Slot) (pc : Nat), va_P D vwCl (am_W cy adr M) H → va_S (am_A adr) s.heap H locs →
    (∀ x, decode cc pc = .ok (.ireturn, 1) → (ret = some .int ∨ (ret = some .boolean ∧ (x = 0 ∨ x = 1))) → Q (some (.int x)) M → W p l e R s m args below meth c H locs cells slots Qf (F0 m pc ls [.int x])) ∧
    (∀ x, decode cc pc = .ok (.lreturn, 1) → ret = some .long → Q (some (.long x)) M → W p l e R s m args below meth c H locs cells slots Qf (F0 m pc ls [.long x])) ∧
    (decode cc pc = .ok (.return_, 1) → ret = none → Q none M → W p l e R s m args below meth c H locs cells slots Qf (F0 m pc ls []))
set_option maxHeartbeats 4000000 in
set_option maxRecDepth 100000 in
theorem am_step {scr : am_S} {C : am_Call} {ret : Option FieldType} {Q : am_PT} {P' : am_C → Prop} (hA : am_At p s m args c cc nL D cy adr Ts ci) (hC : am_CS l R D cy adr C) (hcs : cells ≤ R.cells ∧ slots ≤ R.slots)
    (hscr : ∀ z xs, scr = some (z, xs) → va_X (adr 100) z xs s s.heap ∧ adr 100 < s.heap.size ∧ ¬ am_A adr (adr 100)) (hR : am_Ret p l e R s m args below meth c cells slots Qf D cy adr cc ret Q)
    (hPP : ∀ y, P' y → am_Pw p l e R s m args below meth c cells slots Qf nL D cy adr y) {x : am_C} (h : am_wp scr C cc ci ret Q P' x) : am_Pw p l e R s m args below meth c cells slots Qf nL D cy adr x := by
  obtain ⟨i, n, hd, h⟩ := h
  obtain ⟨pc, L, st, M⟩ := x
  obtain ⟨hx, hb, hml, hown, hts, hG, hK⟩ := hA
  intro H locs ls hl hP hS
  dsimp only at hd h hl hP ⊢
  have hKK := hK.1
  have hD : va_D (am_A adr) (am_W cy adr M) := am_inj hK.2.1
  have wG : ∀ w ∈ am_wG, w.before args s = true := fun w hw => hts w (hG w hw)
  cases i with
  | iconst k => obtain ⟨rfl, h⟩ := h; exact lv_iconst hx hb hd rfl (hPP _ h H locs ls hl hP hS)
  | bipush k => obtain ⟨rfl, h⟩ := h; exact lv_bipush hx hb hd rfl (hPP _ h H locs ls hl hP hS)
  | sipush k => obtain ⟨rfl, h⟩ := h; exact lv_sipush hx hb hd rfl (hPP _ h H locs ls hl hP hS)
  | lconst k => obtain ⟨rfl, h⟩ := h; exact lv_lconst hx hb hd rfl (hPP _ h H locs ls hl hP hS)
  | fconst k =>
    obtain ⟨rfl, h⟩ := h
    match k, hd, h with
    | 0, hd, h => exact lv_fconst0 hx hb hd (hPP _ h H locs ls hl hP hS)
    | 1, hd, h => exact lv_fconst1 hx hb hd (hPP _ h H locs ls hl hP hS)
    | 2, hd, h => exact lv_fconst2 hx hb hd (hPP _ h H locs ls hl hP hS)
  | ldc idx =>
    obtain ⟨rfl, v, p0, h1, hcat, h⟩ := h
    obtain ⟨w, h2, h3⟩ := am_ktfact h1
    cases v with
    | int v => cases h2; exact lv_ldc hx hb hown (wG _ h3) hd (hPP _ h H locs ls hl hP hS)
    | float v => cases h2; exact lv_ldcf hx hb hown (wG _ h3) hd (hPP _ h H locs ls hl hP hS)
    | long v => exact absurd hcat (show ¬ (2 = 1) by decide)
    | double v => cases h2
    | null => cases h2
    | ref v => cases h2
    | retAddr v => cases h2
  | ldc_w idx =>
    obtain ⟨rfl, v, p0, h1, hcat, h⟩ := h
    obtain ⟨w, h2, h3⟩ := am_ktfact h1
    cases v with
    | int v => cases h2; exact lv_ldcw hx hb hown (wG _ h3) hd (hPP _ h H locs ls hl hP hS)
    | float v => cases h2; exact am_ldcwf hx hb hown (wG _ h3) hd (hPP _ h H locs ls hl hP hS)
    | long v => exact absurd hcat (show ¬ (2 = 1) by decide)
    | double v => cases h2
    | null => cases h2
    | ref v => cases h2
    | retAddr v => cases h2
  | ldc2_w idx =>
    obtain ⟨rfl, v, p0, h1, h⟩ := h
    obtain ⟨w, h2, h3⟩ := am_ktfact h1
    cases h2
    exact lv_ldc2 hx hb hown (wG _ h3) hd (hPP _ h H locs ls hl hP hS)
  | iload_n k => obtain ⟨rfl, x, h1, h⟩ := h; exact lv_iload_n hx hb hd rfl (hl.2.2.2 _ _ h1) (hPP _ h H locs ls hl hP hS)
  | iload k => obtain ⟨rfl, x, h1, h⟩ := h; exact lv_iload hx hb hd (hl.2.2.2 _ _ h1) (hPP _ h H locs ls hl hP hS)
  | lload_n k => obtain ⟨rfl, x, h1, h⟩ := h; exact lv_lload_n hx hb hd rfl (hl.2.2.2 _ _ h1) (hPP _ h H locs ls hl hP hS)
  | lload k => obtain ⟨rfl, x, h1, h⟩ := h; exact lv_lload hx hb hd (hl.2.2.2 _ _ h1) (hPP _ h H locs ls hl hP hS)
  | fload_n k => obtain ⟨rfl, x, h1, h⟩ := h; exact lv_fload_n hx hb hd rfl (hl.2.2.2 _ _ h1) (hPP _ h H locs ls hl hP hS)
  | aload_n k => obtain ⟨rfl, x, h1, h⟩ := h; exact lv_aload_n hx hb hd rfl (hl.2.2.2 _ _ h1) (hPP _ h H locs ls hl hP hS)
  | istore_n k => obtain ⟨rfl, x, r, rfl, h1, h⟩ := h; exact lv_istore_n hx hb hd rfl hl.has (by rw [← hl.2.1]; exact h1) rfl (fun ls' hl' => hPP _ h H locs ls' (am_LL.s1 hl.2.1 hl') hP hS)
  | istore k => obtain ⟨rfl, x, r, rfl, h1, h⟩ := h; exact lv_istore hx hb hd hl.has (by rw [← hl.2.1]; exact h1) rfl (fun ls' hl' => hPP _ h H locs ls' (am_LL.s1 hl.2.1 hl') hP hS)
  | fstore_n k => obtain ⟨rfl, x, r, rfl, h1, h⟩ := h; exact lv_fstore_n hx hb hd rfl hl.has (by rw [← hl.2.1]; exact h1) rfl (fun ls' hl' => hPP _ h H locs ls' (am_LL.s1 hl.2.1 hl') hP hS)
  | lstore_n k => obtain ⟨rfl, x, r, rfl, h1, h⟩ := h; exact lv_lstore_n hx hb hd rfl hl.has (by rw [← hl.2.1]; exact h1) rfl (fun ls' hl' => hPP _ h H locs ls' (am_LL.s2 hl.2.1 hl') hP hS)
  | lstore k => obtain ⟨rfl, x, r, rfl, h1, h⟩ := h; exact lv_lstore hx hb hd hl.has (by rw [← hl.2.1]; exact h1) rfl (fun ls' hl' => hPP _ h H locs ls' (am_LL.s2 hl.2.1 hl') hP hS)
  | iinc k d =>
    obtain ⟨rfl, x, h1, h⟩ := h
    have hm : (k, Value.int x) ∈ am_lv adr L := am_lv_mem.mpr ⟨_, h1, rfl⟩
    obtain ⟨q, hq⟩ := List.getElem?_of_mem hm
    exact lv_iinc hx hb hd hl.has hq rfl (by rw [← hl.2.1]; exact (List.getElem?_eq_some_iff.mp h1).1) rfl (fun ls' hl' => hPP _ h H locs ls' (am_LL.s1 (v := .int (x + Int32.ofInt d)) hl.2.1 hl') hP hS)
  | iadd => obtain ⟨rfl, x, y, r, rfl, h⟩ := h; exact lv_iadd hx hb hd (hPP _ h H locs ls hl hP hS)
  | isub => obtain ⟨rfl, x, y, r, rfl, h⟩ := h; exact lv_isub hx hb hd (hPP _ h H locs ls hl hP hS)
  | imul => obtain ⟨rfl, x, y, r, rfl, h⟩ := h; exact lv_imul hx hb hd (hPP _ h H locs ls hl hP hS)
  | idiv => obtain ⟨rfl, x, y, r, rfl, h1, h⟩ := h; exact lv_idiv hx hb hd h1 (hPP _ h H locs ls hl hP hS)
  | irem => obtain ⟨rfl, x, y, r, rfl, h1, h⟩ := h; exact lv_irem hx hb hd h1 (hPP _ h H locs ls hl hP hS)
  | iand => obtain ⟨rfl, x, y, r, rfl, h⟩ := h; exact lv_iand hx hb hd (hPP _ h H locs ls hl hP hS)
  | ixor => obtain ⟨rfl, x, y, r, rfl, h⟩ := h; exact lv_ixor hx hb hd (hPP _ h H locs ls hl hP hS)
  | ishl => obtain ⟨rfl, x, y, r, rfl, h⟩ := h; exact lv_ishl hx hb hd (hPP _ h H locs ls hl hP hS)
  | ishr => obtain ⟨rfl, x, y, r, rfl, h⟩ := h; exact lv_ishr hx hb hd (hPP _ h H locs ls hl hP hS)
  | ineg => obtain ⟨rfl, x, r, rfl, h⟩ := h; exact lv_ineg hx hb hd (hPP _ h H locs ls hl hP hS)
  | ladd => obtain ⟨rfl, x, y, r, rfl, h⟩ := h; exact lv_ladd hx hb hd (hPP _ h H locs ls hl hP hS)
  | lsub => obtain ⟨rfl, x, y, r, rfl, h⟩ := h; exact lv_lsub hx hb hd (hPP _ h H locs ls hl hP hS)
  | lmul => obtain ⟨rfl, x, y, r, rfl, h⟩ := h; exact lv_lmul hx hb hd (hPP _ h H locs ls hl hP hS)
  | ldiv => obtain ⟨rfl, x, y, r, rfl, h1, h⟩ := h; exact lv_ldiv hx hb hd h1 (hPP _ h H locs ls hl hP hS)
  | lrem => obtain ⟨rfl, x, y, r, rfl, h1, h⟩ := h; exact lv_lrem hx hb hd h1 (hPP _ h H locs ls hl hP hS)
  | land => obtain ⟨rfl, x, y, r, rfl, h⟩ := h; exact lv_land hx hb hd (hPP _ h H locs ls hl hP hS)
  | lshr => obtain ⟨rfl, x, y, r, rfl, h⟩ := h; exact lv_lshr hx hb hd rfl (hPP _ h H locs ls hl hP hS)
  | lcmp => obtain ⟨rfl, x, y, r, rfl, h⟩ := h; exact W.lcmp hx hb hd (hPP _ h H locs ls hl hP hS)
  | i2l => obtain ⟨rfl, x, r, rfl, h⟩ := h; exact lv_i2l hx hb hd rfl (hPP _ h H locs ls hl hP hS)
  | l2i => obtain ⟨rfl, x, r, rfl, h⟩ := h; exact lv_l2i hx hb hd rfl (hPP _ h H locs ls hl hP hS)
  | i2f => obtain ⟨rfl, x, r, rfl, h⟩ := h; exact lv_i2f hx hb hd (hPP _ h H locs ls hl hP hS)
  | f2i => obtain ⟨rfl, x, r, rfl, h⟩ := h; exact lv_f2i hx hb hd (hPP _ h H locs ls hl hP hS)
  | fmul => obtain ⟨rfl, x, y, r, rfl, h1, h⟩ := h; exact lv_fmul hx hb hd h1 (hPP _ h H locs ls hl hP hS)
  | fdiv => obtain ⟨rfl, x, y, r, rfl, h1, h⟩ := h; exact lv_fdiv hx hb hd h1 (hPP _ h H locs ls hl hP hS)
  | fcmp op => obtain ⟨rfl, x, y, r, rfl, h⟩ := h; exact lv_fcmp hx hb hd (hPP _ h H locs ls hl hP hS)
  | dup => obtain ⟨rfl, v, r, rfl, h1, h⟩ := h; exact lv_dup hx hb hd (by rw [am_v_cat]; exact h1) (hPP _ h H locs ls hl hP hS)
  | dup2 => obtain ⟨rfl, v, w, r, rfl, h1, h2, h⟩ := h; exact lv_dup2_11 hx hb hd (by rw [am_v_cat]; exact h1) (by rw [am_v_cat]; exact h2) (hPP _ h H locs ls hl hP hS)
  | ifCond cnd off =>
    obtain ⟨rfl, x, r, t, rfl, h1, h2, h3⟩ := h
    cases cnd with
    | eq => exact lv_if_eq hx hb hd h1 (fun q => hPP _ (h2 q) H locs ls hl hP hS) (fun q => hPP _ (h3 q) H locs ls hl hP hS)
    | ne => exact lv_if_ne hx hb hd h1 (fun q => hPP _ (h2 q) H locs ls hl hP hS) (fun q => hPP _ (h3 (fun z => z q)) H locs ls hl hP hS)
    | lt => exact lv_if_lt hx hb hd h1 (fun q => hPP _ (h2 q) H locs ls hl hP hS) (fun q => hPP _ (h3 q) H locs ls hl hP hS)
    | ge => exact lv_if_ge hx hb hd h1 (fun q => hPP _ (h2 q) H locs ls hl hP hS) (fun q => hPP _ (h3 q) H locs ls hl hP hS)
    | gt => exact lv_if_gt hx hb hd h1 (fun q => hPP _ (h2 q) H locs ls hl hP hS) (fun q => hPP _ (h3 q) H locs ls hl hP hS)
    | le => exact lv_if_le hx hb hd h1 (fun q => hPP _ (h2 q) H locs ls hl hP hS) (fun q => hPP _ (h3 q) H locs ls hl hP hS)
  | if_icmp cnd off =>
    obtain ⟨rfl, x, y, r, t, rfl, h1, h2, h3⟩ := h
    cases cnd with
    | eq => exact lv_icmp_eq hx hb hd h1 (fun q => hPP _ (h2 q) H locs ls hl hP hS) (fun q => hPP _ (h3 q) H locs ls hl hP hS)
    | ne => exact lv_icmp_ne hx hb hd h1 (fun q => hPP _ (h2 q) H locs ls hl hP hS) (fun q => hPP _ (h3 (fun z => z q)) H locs ls hl hP hS)
    | lt => exact lv_icmp_lt hx hb hd h1 (fun q => hPP _ (h2 q) H locs ls hl hP hS) (fun q => hPP _ (h3 q) H locs ls hl hP hS)
    | ge => exact lv_icmp_ge hx hb hd h1 (fun q => hPP _ (h2 q) H locs ls hl hP hS) (fun q => hPP _ (h3 q) H locs ls hl hP hS)
    | gt => exact lv_icmp_gt hx hb hd h1 (fun q => hPP _ (h2 q) H locs ls hl hP hS) (fun q => hPP _ (h3 q) H locs ls hl hP hS)
    | le => exact lv_icmp_le hx hb hd h1 (fun q => hPP _ (h2 q) H locs ls hl hP hS) (fun q => hPP _ (h3 q) H locs ls hl hP hS)
  | goto off => obtain ⟨rfl, t, h1, h⟩ := h; exact lv_goto hx hb hd h1 (hPP _ h H locs ls hl hP hS)
  | tableswitch dflt lo hi offs =>
    obtain ⟨x, r, rfl, h1, h2⟩ := h
    by_cases q : x.toInt < lo ∨ hi < x.toInt
    · obtain ⟨t, h3, h⟩ := h1 q
      exact lv_tableOut hx hb hd q h3 (hPP _ h H locs ls hl hP hS)
    · have q1 : ¬ x.toInt < lo := fun z => q (Or.inl z)
      have q2 : ¬ hi < x.toInt := fun z => q (Or.inr z)
      obtain ⟨off, t, h3, h4, h⟩ := h2 q1 q2
      exact lv_tableIn hx hb hd q1 q2 h3 h4 (hPP _ h H locs ls hl hP hS)
  | getfield idx =>
    obtain ⟨rfl, k, r, c0, j, t, p0, rfl, h1, h2, h3, h4, h5, h⟩ := h
    obtain ⟨N, ty0, k1, k2, k3, k4, k5, k6⟩ := am_clsOk c0 h5
    have hj : j < N := by rw [← k5]; exact (List.getElem?_eq_some_iff.mp h2).1
    have hg := am_W_get (cy := cy) (adr := adr) (M := M) h3
    rw [am_e_ob h4 h5] at hg
    exact va_get hx hb hts (fun w hw => hG w (List.mem_filter.mpr (k2 w hw))) hown hKK hP k hg k1 j hj (wG _ (am_flfact h1)) (fun z hz => by rw [(k6 j hj).2.2.2] at hz; exact hz) (v := am_v adr (am_av M k j t)) (by rw [List.getElem?_mapIdx, h2]; rfl) hd (hPP _ h H locs ls hl hP hS)
  | putfield idx =>
    obtain ⟨rfl, k, v, r, c0, j, t, p0, rfl, h1, h2, h3, h4, h5, h6, h⟩ := h
    obtain ⟨N, ty0, k1, k2, k3, k4, k5, k6⟩ := am_clsOk c0 h5
    have hj : j < N := by rw [← k5]; exact (List.getElem?_eq_some_iff.mp h2).1
    have hjt : (am_ft c0).getD j 2 = t := by rw [List.getD_eq_getElem?_getD, h2]; rfl
    have hg := am_W_get (cy := cy) (adr := adr) (M := M) h3
    rw [am_e_ob h4 h5] at hg
    have hlen : j < ((am_ft c0).mapIdx (fun j t => am_v adr (am_av M k j t))).length := by rw [List.length_mapIdx, k5]; exact hj
    rcases h with ⟨x, rfl, ht, h⟩ | ⟨x, rfl, rfl, h⟩
    · have hty : (ty0 j = .int ∨ ty0 j = .boolean ∧ (x = 0 ∨ x = 1)) := by
        rcases ht with rfl | ⟨rfl, hx01⟩
        · exact Or.inl ((k6 j hj).1 hjt)
        · exact Or.inr ⟨(k6 j hj).2.2.1 hjt, hx01⟩
      have hnw : narrow (ty0 j) (.int x) = .int x ∧ fits (ty0 j) (.int x) = true := by
        rcases hty with q | ⟨q, rfl | rfl⟩ <;> rw [q] <;> first | decide | exact ⟨rfl, rfl⟩
      refine va_put hx hb hts (fun w hw => hG w (List.mem_filter.mpr (k2 w hw))) ty0 k3 k4 hown hKK hP hD hS k hg k1 j hj (wG _ (am_flfact h1)) (fun z hz => by rw [(k6 j hj).2.2.2] at hz; exact hz) h6 (k3 j hj) hnw.1 hnw.2 hlen hd (fun H1 locs1 hP1 hD1 hS1 => ?_)
      refine hPP _ h H1 locs1 ls hl ?_ hS1
      refine (am_W_set (M' := (am_u M.1 k (upd (M.1 k) j x), M.2)) ?_ (fun i hi => am_e_congr (am_u_ne _ _ hi) rfl)) ▸ hP1
      rw [am_e_ob h4 h5]
      congr 2
      apply List.ext_getElem?
      intro i
      by_cases hij : i = j
      · subst hij
        rw [List.getElem?_set_self hlen, List.getElem?_mapIdx, h2]
        rcases ht with rfl | ⟨rfl, -⟩ <;> simp [am_av, am_u, upd, am_v]
      · rw [List.getElem?_set_ne (Ne.symm hij), List.getElem?_mapIdx, List.getElem?_mapIdx]
        congr 1
        funext t'
        congr 1
        unfold am_av
        split <;> simp [am_u, upd, hij]
    · have hq : ty0 j = .long := (k6 j hj).2.1 hjt
      have hnw : narrow (ty0 j) (.long x) = .long x ∧ fits (ty0 j) (.long x) = true := by rw [hq]; exact ⟨rfl, rfl⟩
      refine va_put hx hb hts (fun w hw => hG w (List.mem_filter.mpr (k2 w hw))) ty0 k3 k4 hown hKK hP hD hS k hg k1 j hj (wG _ (am_flfact h1)) (fun z hz => by rw [(k6 j hj).2.2.2] at hz; exact hz) h6 (k3 j hj) hnw.1 hnw.2 hlen hd (fun H1 locs1 hP1 hD1 hS1 => ?_)
      refine hPP _ h H1 locs1 ls hl ?_ hS1
      refine (am_W_set (M' := (M.1, am_u M.2 k (vp_updL (M.2 k) j x))) ?_ (fun i hi => am_e_congr (M' := M) rfl (am_u_ne _ _ hi))) ▸ hP1
      rw [am_e_ob h4 h5]
      congr 2
      apply List.ext_getElem?
      intro i
      by_cases hij : i = j
      · subst hij
        rw [List.getElem?_set_self hlen, List.getElem?_mapIdx, h2]
        simp [am_av, am_u, vp_updL, am_v]
      · rw [List.getElem?_set_ne (Ne.symm hij), List.getElem?_mapIdx, List.getElem?_mapIdx]
        congr 1
        funext t'
        congr 1
        unfold am_av
        split <;> simp [am_u, vp_updL, hij]
  | getstatic idx =>
    obtain ⟨rfl, rfl, rfl, h⟩ := h
    exact va_gets hx hb hK.2.2.2.1 hS hown (wG _ (am_gw am_matL (by first | rfl | simp [goodWord, Cond.onTables, Cond.keeps, Cond.steady]))) (fun _ q => q) hd (hPP _ h H locs ls hl hP hS)
  | iaload =>
    obtain ⟨rfl, i, k, r, rfl, h⟩ := h
    rcases h with ⟨h1, h2, h3, h⟩ | ⟨rfl, h3, h⟩ | ⟨rfl, z, xs, h1, h3, h⟩
    · have hg := am_W_get (cy := cy) (adr := adr) (M := M) h1
      rw [am_e_12 h2] at hg
      exact va_iald hx hb hKK hP k 0 hg rfl h3 hd (hPP _ h H locs ls hl hP hS)
    · exact va_ti hx hb hK.2.2.2.2 hS h3 rfl hd (hPP _ h H locs ls hl hP hS)
    · obtain ⟨g1, g2, g3⟩ := hscr z xs h1
      exact va_sld hx hb g1 g2 g3 hS h3 hd (hPP _ h H locs ls hl hP hS)
  | baload =>
    obtain ⟨rfl, i, k, r, rfl, h1, h2, h3, h⟩ := h
    have hg := am_W_get (cy := cy) (adr := adr) (M := M) h1
    rw [am_e_14 h2] at hg
    exact va_zald hx hb hKK hP k 2 hg rfl h3 hd (hPP _ h H locs ls hl hP hS)
  | laload =>
    obtain ⟨rfl, i, k, r, rfl, h1, h2, h3, h⟩ := h
    have hg := am_W_get (cy := cy) (adr := adr) (M := M) h1
    rw [am_e_13 h2] at hg
    exact va_lald hx hb hKK hP k 1 hg rfl h3 hd (hPP _ h H locs ls hl hP hS)
  | aaload =>
    obtain ⟨rfl, i, k, r, rfl, h1, h2, h3, h⟩ := h
    have hg := am_W_get (cy := cy) (adr := adr) (M := M) h1
    rw [am_e_15 h2] at hg
    exact va_aldq hx hb hKK hP k 3 hg rfl h3 hd (hPP _ h H locs ls hl hP hS)
  | iastore =>
    obtain ⟨rfl, x, i, k, r, rfl, h1, h2, h3, h⟩ := h
    have hg := am_W_get (cy := cy) (adr := adr) (M := M) h1
    rw [am_e_12 h2] at hg
    refine va_iast hx hb hKK hP hD hS k 0 hg rfl h3 hd (fun H1 locs1 hP1 hD1 hS1 => hPP _ h H1 locs1 ls hl ?_ hS1)
    refine (am_W_set (M' := (am_u M.1 k (upd (M.1 k) i.toNatClampNeg x), M.2)) ?_ (fun i hi => am_e_congr (am_u_ne _ _ hi) rfl)) ▸ hP1
    rw [am_e_12 h2]
    simp only [am_u_self]
  | bastore =>
    obtain ⟨rfl, x, i, k, r, rfl, h1, h2, h3, h⟩ := h
    have hg := am_W_get (cy := cy) (adr := adr) (M := M) h1
    rw [am_e_14 h2] at hg
    refine va_zast hx hb hKK hP hD hS k 2 hg rfl h3 hd (fun H1 locs1 hP1 hD1 hS1 => hPP _ h H1 locs1 ls hl ?_ hS1)
    refine (am_W_set (M' := (am_u M.1 k (upd (M.1 k) i.toNatClampNeg (vp_nar .boolean x)), M.2)) ?_ (fun i hi => am_e_congr (am_u_ne _ _ hi) rfl)) ▸ hP1
    rw [am_e_14 h2]
    simp only [am_u_self]
  | lastore =>
    obtain ⟨rfl, x, i, k, r, rfl, h1, h2, h3, h⟩ := h
    have hg := am_W_get (cy := cy) (adr := adr) (M := M) h1
    rw [am_e_13 h2] at hg
    refine va_last hx hb hKK hP hD hS k 1 hg rfl h3 hd (fun H1 locs1 hP1 hD1 hS1 => hPP _ h H1 locs1 ls hl ?_ hS1)
    refine (am_W_set (M' := (M.1, am_u M.2 k (vp_updL (M.2 k) i.toNatClampNeg x))) ?_ (fun i hi => am_e_congr (M' := M) rfl (am_u_ne _ _ hi))) ▸ hP1
    rw [am_e_13 h2]
    simp only [am_u_self]
  | arraylength =>
    obtain ⟨rfl, k, r, rfl, h⟩ := h
    rcases h with ⟨h1, h2, h3, h⟩ | ⟨rfl, z, xs, h1, h⟩
    · have hg := am_W_get (cy := cy) (adr := adr) (M := M) h1
      rcases (show am_k k = 12 ∨ am_k k = 13 ∨ am_k k = 14 by omega) with q | q | q
      · rw [am_e_12 q] at hg
        exact va_alen hx hb hKK hP k 0 hg rfl rfl hd (hPP _ h H locs ls hl hP hS)
      · rw [am_e_13 q] at hg
        exact va_alen hx hb hKK hP k 1 hg rfl rfl hd (hPP _ h H locs ls hl hP hS)
      · rw [am_e_14 q] at hg
        exact va_alen hx hb hKK hP k 2 hg rfl rfl hd (hPP _ h H locs ls hl hP hS)
    · obtain ⟨g1, g2, g3⟩ := hscr z xs h1
      exact va_slen hx hb g1 g2 g3 hS hd (hPP _ h H locs ls hl hP hS)
  | invokevirtual idx =>
    obtain ⟨rfl, z, nest, p0, As, k, r, y, cc', mL, rt, c0, np, ps, h1, h2, rfl, h4, h5, h6, h7, h8, h⟩ := h
    obtain ⟨rm, r1, r2, r3, r4, hM⟩ := hC.1 z y cc' mL rt c0 false np ps h2 _ _ _ h
    obtain ⟨p1, p2, p3, p4⟩ := ps
    obtain ⟨f1, f2, -, f4, f5, f6, f7, f8, f9⟩ := am_mfact h2
    obtain ⟨f4, f4'⟩ := f4 rfl
    have hyz : am_y z = y := by unfold am_y; rw [h2]
    have hlk := am_mlfact h1
    rw [hyz] at hlk
    have hg := am_W_get (cy := cy) (adr := adr) (M := M) h5
    rw [am_e_ob h6 h7] at hg
    obtain ⟨N, ty0, k1, -⟩ := am_clsOk c0 h7
    have hrecv := va_recv hKK hP k1 hg
    have hmap : (As.reverse ++ Value.ref k :: r).map (am_v adr) = (As.map (am_v adr)).reverse ++ .ref (adr k) :: r.map (am_v adr) := by rw [List.map_append, List.map_reverse]; rfl
    rw [hmap]
    have hpre := am_pre (a := .ref (adr k) :: As.map (am_v adr)) hK hP hS
    refine am_call (D := D) (cy := cy) (a := (Value.ref (adr k) :: As.map (am_v adr)).toArray) (Q' := fun v M' => P' (pc + 3, L, v.toList ++ r, M')) (rest := r.map (am_v adr)) ?_ hS (fun v M' H1 locs1 hq hP1 hS1 => ?_)
    · cases nest with
      | false =>
        rw [if_neg (by decide)] at hlk
        have hgl := wG _ (am_gw hlk (by first | rfl | simp [goodWord, Cond.onTables, Cond.keeps, Cond.steady]))
        exact va_runV (As := As.map (am_v adr)) (C := y.cls) ⟨hx, hb, hml, hown, hts⟩ hM ⟨callB_of np hts (am_goodIn hG f1) rfl r1 r2 (wG _ f2) hgl ⟨f8.1, f8.2, f9⟩ ⟨r3, by omega⟩, wG _ f4, wG _ f4'⟩ ⟨am_ok.blind, by rw [f7]; exact hrecv, hpre⟩ rfl (by rw [List.length_map]; exact h4) hl.1 rfl (lv_room (by rw [am_v_sum]; exact h8)) hd ⟨hcs.1, hcs.2⟩
      | true =>
        rw [if_pos rfl] at hlk
        have hgl := hK.2.2.1 _ (am_nest_in hlk)
        exact va_runVN (As := As.map (am_v adr)) (C := y.cls) ⟨hx, hb, hml, hown, hts⟩ hM ⟨va_cnB np hts (am_goodIn hG f1) rfl r1 r2 hgl (wG _ f2) ⟨f8.1, f8.2, f9⟩ ⟨r3, by omega⟩, wG _ f4, wG _ f4'⟩ ⟨am_ok.blind, by rw [f7]; exact hrecv, hpre⟩ rfl (by rw [List.length_map]; exact h4) hl.1 rfl (lv_room (by rw [am_v_sum]; exact h8)) hd ⟨hcs.1, hcs.2⟩
    · have := hPP _ hq H1 locs1 ls hl hP1 hS1
      dsimp only at this
      rw [List.map_append] at this
      cases v <;> exact this
  | invokestatic idx =>
    obtain ⟨rfl, h⟩ := h
    rcases h with ⟨z, nest, p0, As, r, y, cc', mL, rt, c0, np, ps, h1, h2, rfl, h4, h8, h⟩ | ⟨hci, As, r, rfl, h8, h⟩
    · obtain ⟨rm, r1, r2, r3, r4, hM⟩ := hC.1 z y cc' mL rt c0 true np ps h2 _ _ _ h
      obtain ⟨p1, p2, p3, p4⟩ := ps
      obtain ⟨f1, f2, f4, -, f5, f6, f7, f8, f9⟩ := am_mfact h2
      have f4 := f4 rfl
      have hyz : am_y z = y := by unfold am_y; rw [h2]
      have hlk := am_mlfact h1
      rw [hyz] at hlk
      have hmap : (As.reverse ++ r).map (am_v adr) = (As.map (am_v adr)).reverse ++ r.map (am_v adr) := by rw [List.map_append, List.map_reverse]
      rw [hmap]
      have hpre := am_pre (a := As.map (am_v adr)) hK hP hS
      refine am_call (D := D) (cy := cy) (a := (As.map (am_v adr)).toArray) (Q' := fun v M' => P' (pc + 3, L, v.toList ++ r, M')) (rest := r.map (am_v adr)) ?_ hS (fun v M' H1 locs1 hq hP1 hS1 => ?_)
      · cases nest with
        | false =>
          rw [if_neg (by decide)] at hlk
          have hgl := wG _ (am_gw hlk (by first | rfl | simp [goodWord, Cond.onTables, Cond.keeps, Cond.steady]))
          exact va_runS (As := As.map (am_v adr)) ⟨hx, hb, hml, hown, hts⟩ hM ⟨callB_of np hts (am_goodIn hG f1) rfl r1 r2 (wG _ f2) hgl ⟨f8.1, f8.2, f9⟩ ⟨r3, by omega⟩, wG _ f4⟩ ⟨am_ok.blind, hpre⟩ rfl (by rw [List.length_map]; exact h4) hl.1 rfl (lv_room (by rw [am_v_sum]; exact h8)) hd ⟨hcs.1, hcs.2⟩
        | true =>
          rw [if_pos rfl] at hlk
          have hgl := hK.2.2.1 _ (am_nest_in hlk)
          exact va_runSN (As := As.map (am_v adr)) ⟨hx, hb, hml, hown, hts⟩ hM ⟨va_cnB np hts (am_goodIn hG f1) rfl r1 r2 hgl (wG _ f2) ⟨f8.1, f8.2, f9⟩ ⟨r3, by omega⟩, wG _ f4, trivial⟩ ⟨am_ok.blind, hpre⟩ rfl (by rw [List.length_map]; exact h4) hl.1 rfl (lv_room (by rw [am_v_sum]; exact h8)) hd ⟨hcs.1, hcs.2⟩
      · have := hPP _ hq H1 locs1 ls hl hP1 hS1
        dsimp only at this
        rw [List.map_append] at this
        cases v <;> exact this
    · obtain ⟨⟨s0, d0, sp, dp, n0, rfl, g1, g2, g3, g4, g5, g6, g7, g8, g9, h⟩, hf1, hf2⟩ := hC.2 _ _ _ h
      have hlk : (Cond.methodLink (am_cn ci) idx arraycopyName).before args s = true := by
        rcases hci with ⟨rfl, rfl⟩ | ⟨rfl, rfl⟩
        · exact wG _ (am_gw am_ac7 (by first | rfl | simp [goodWord, Cond.onTables, Cond.keeps, Cond.steady]))
        · exact wG _ (am_gw am_ac0 (by first | rfl | simp [goodWord, Cond.onTables, Cond.keeps, Cond.steady]))
      have e0 := am_W_get (cy := cy) (adr := adr) (M := M) g1
      have e1 := am_W_get (cy := cy) (adr := adr) (M := M) g2
      rw [am_e_12 g3] at e0
      rw [am_e_12 g4] at e1
      refine va_copyi hx hb (hml.trans hl.1.symm) hown hlk (wG _ (am_gw am_acN (by first | rfl | simp [goodWord, Cond.onTables, Cond.keeps, Cond.steady]))) (wG _ (am_gw am_acS (by first | rfl | simp [goodWord, Cond.onTables, Cond.keeps, Cond.steady]))) (wG _ (am_gw am_acI (by first | rfl | simp [goodWord, Cond.onTables, Cond.keeps, Cond.steady]))) hKK hP hD hS s0 d0 0 0 e0 e1 rfl rfl rfl g5 g6 g7 g8 g9 (fun _ _ => rfl) hf1 ?_ hd (fun H1 locs1 hP1 hD1 hS1 => hPP _ h H1 locs1 ls hl ?_ hS1)
      · show ((List.map (am_v adr) r).map fun v => v.category).sum + _ ≤ _
        rw [am_v_sum]
        have hn : nativeFrameWords "java/lang/System" "arraycopy" 5 ≤ 19 := by decide
        omega
      · refine (am_W_set (M' := (am_u M.1 d0 (va_cpy (M.1 s0) (M.1 d0) sp.toNatClampNeg dp.toNatClampNeg n0.toNatClampNeg), M.2)) ?_ (fun i hi => am_e_congr (am_u_ne _ _ hi) rfl)) ▸ hP1
        rw [am_e_12 g4]
        simp only [am_u_self]
  | ireturn => obtain ⟨rfl, x, rfl, h1, h⟩ := h; exact (hR M H locs ls pc hP hS).1 x hd h1 h
  | lreturn => obtain ⟨rfl, x, rfl, h1, h⟩ := h; exact (hR M H locs ls pc hP hS).2.1 x hd h1 h
  | return_ => obtain ⟨rfl, rfl, h1, h⟩ := h; exact (hR M H locs ls pc hP hS).2.2 hd h1 h
  | _ => exact h.elim
end AMS
/-- from c on: the machine goes where the abstract machine goes -/
theorem am_sound {p : Program} {l : Launch} {e : Env} {R : Room} {s : State} {m : MethodId} {args : Array Value} {below : List Frame} {meth : Method} {c : Code} {cells slots : Nat} {Qf : State → Prop} {cc : ByteArray} {nL : Nat} {D : va_G} {cy : Nat → ClassId} {adr : Nat → Nat} {Ts : List Cond} {ci : Nat} {scr : am_S} {C : am_Call} {ret : Option FieldType} {Q : am_PT} (hA : am_At p s m args c cc nL D cy adr Ts ci) (hC : am_CS l R D cy adr C) (hcs : cells ≤ R.cells ∧ slots ≤ R.slots)
    (hscr : ∀ z xs, scr = some (z, xs) → va_X (adr 100) z xs s s.heap ∧ adr 100 < s.heap.size ∧ ¬ am_A adr (adr 100)) (hR : am_Ret p l e R s m args below meth c cells slots Qf D cy adr cc ret Q) {x : am_C} (h : am_E scr C cc ci ret Q x) : am_Pw p l e R s m args below meth c cells slots Qf nL D cy adr x :=
  h _ (fun y hy => by
    rcases hy with ⟨P', h1, h2⟩ | ⟨L', h1, h2⟩
    · exact am_step hA hC hcs hscr hR h1 h2
    · intro H locs ls hl hP hS
      exact h2 H locs ls ⟨hl.1, h1.1.trans hl.2.1, hl.2.2.1, fun i v q => hl.2.2.2 i v (h1.2 i v q)⟩ hP hS)
def am_room (d : Nat) : Room := { frames := d, cells := 0, slots := 0, locals := 38 * d }
theorem am_met1 {l : Launch} {d : Nat} {D : va_G} {cy : Nat → ClassId} {adr : Nat → Nat} {C : am_Call} (hC : am_CS l (am_room d) D cy adr C) {z : Nat} {y : MethodName} {cc : ByteArray} {mL : Nat} {rt : Option FieldType} {ci : Nat} {st : Bool} {np : Nat} {ps : Nat × Nat × Nat × Nat} (hz : am_ms[z]? = some (y, cc, mL, rt, ci, st, np, ps)) {a : List Value} {M : am_M} {Q : am_PT} (h : am_1 C z a M Q) :
    Met l y (Cond.code y cc mL rt :: am_wG) (am_room d) (va_Pc (a.map (am_v adr)) (am_ok D cy adr M)) (am_Qc D cy adr Q) 0 0 (am_A adr) := by
  obtain ⟨y', cc', mL', rt', ci', st', np', ps', hz', hlen, Q', hQ, hE⟩ := h
  cases hz.symm.trans hz'
  obtain ⟨p1, p2, p3, p4⟩ := ps
  obtain ⟨f1, f2, -, -, f5, f6, f7, f8, f9⟩ := am_mfact hz
  refine va_MetF (cc := cc) (maxL := mL) (ret := rt) f6 rfl ?_
  intro p e s m args below meth c s₁ B hml hv
  obtain ⟨rfl, hP, hK⟩ := hv
  have hts := atoms_spec (ws := Cond.code y cc mL rt :: am_wG) B.pre
  have hown : s.vm.findClass (am_cn ci) = some m.cls := f7 ▸ findClass_of_methodNamed B.named
  have hlocks := B.notSynchronized
  have hx := B.exec
  have hb := B.bytes
  have hr := B.returns
  rw [lg_entry_eq]
  have key := am_sound (p := p) (l := l) (e := e) (R := am_room d) (s := s) (m := m) (args := (a.map (am_v adr)).toArray) (below := below) (meth := meth) (c := c) (cells := 0) (slots := 0) (Qf := MQ below (am_Qc D cy adr Q) (a.map (am_v adr)).toArray s 0 0 (am_A adr)) (cc := cc) (nL := mL) (D := D) (cy := cy) (adr := adr) (Ts := Cond.code y cc mL rt :: am_wG) (ci := ci) (scr := none) (ret := rt) (Q := Q') ⟨hx, hb, hml, hown, hts, fun w hw => List.mem_cons_of_mem _ hw, hK⟩ hC ⟨Nat.le_refl 0, Nat.le_refl 0⟩ (fun _ _ q => by cases q) ?_ hE
  · exact key s.heap [] _ (am_LL.entry hlen) hP va_S.rf
  · intro M' H locs ls pc hP' hS'
    refine ⟨fun x hd hrt hq => ?_, fun x hd hrt hq => ?_, fun hd hrt hq => ?_⟩
    · rcases hrt with rfl | ⟨rfl, h01⟩
      · exact W.iret hx hb hr (fun t ht hW => ⟨⟨some (.int x), M', rfl, hQ _ _ hq, by rw [ht]; exact hP'⟩, hS'.F ht⟩) hS'.2.2 hd
      · exact W.zret hx hb hr (by rcases h01 with rfl | rfl <;> decide) (fun t ht hW => ⟨⟨some (.int x), M', rfl, hQ _ _ hq, by rw [ht]; exact hP'⟩, hS'.F ht⟩) hS'.2.2 hd
    · subst hrt
      exact W.lret hx hb hr (fun t ht hW => ⟨⟨some (.long x), M', rfl, hQ _ _ hq, by rw [ht]; exact hP'⟩, hS'.F ht⟩) hS'.2.2 hd
    · subst hrt
      exact W.vret hx hb hr (fun t ht hW => ⟨⟨none, M', rfl, hQ _ _ hq, by rw [ht]; exact hP'⟩, hS'.F ht⟩) hS'.2.2 hd
theorem am_ms_len : am_ms.length < 1000 := by decide +kernel
/-- EVERY METHOD: what the abstract machine says of a call, the machine does -/
theorem am_met (l : Launch) (D : va_G) (cy : Nat → ClassId) (adr : Nat → Nat) (d : Nat) : ∀ {R : Room}, d + 1 ≤ R.frames → 38 * (d + 1) ≤ R.locals → am_CS l R D cy adr (am_R d) := by
  induction d with
  | zero =>
    intro R hf hl
    refine ⟨fun z y cc mL rt ci st np ps hz a M Q h => ⟨am_room 0, rfl, rfl, hf, by show 38 + 38 * 0 ≤ _; omega, ?_⟩, fun a M Q h => ?_⟩
    · have hlt := (List.getElem?_eq_some_iff.mp hz).1
      have hlen := am_ms_len
      rcases h with ⟨-, h⟩ | ⟨rfl, -⟩
      · exact am_met1 (C := fun _ _ _ _ => False) ⟨fun _ _ _ _ _ _ _ _ _ _ _ _ _ q => q.elim, fun _ _ _ q => q.elim⟩ hz h
      · omega
    · rcases h with ⟨q, -⟩ | ⟨-, h⟩
      · exact absurd q (by decide)
      · exact ⟨h, by omega, by omega⟩
  | succ d ih =>
    intro R hf hl
    refine ⟨fun z y cc mL rt ci st np ps hz a M Q h => ⟨am_room (d + 1), rfl, rfl, hf, by show 38 + 38 * (d + 1) ≤ _; omega, ?_⟩, fun a M Q h => ?_⟩
    · have hlt := (List.getElem?_eq_some_iff.mp hz).1
      have hlen := am_ms_len
      rcases h with ⟨-, h⟩ | ⟨rfl, -⟩
      · exact am_met1 (ih (R := am_room (d + 1)) (Nat.le_refl _) (Nat.le_refl _)) hz h
      · omega
    · rcases h with ⟨q, -⟩ | ⟨-, h⟩
      · exact absurd q (by decide)
      · exact ⟨h, by omega, by omega⟩
