/-! THE CONSTRUCTORS: what is made before the abstract machine begins -/
def ct_K (D : va_G) (cy : Nat → ClassId) (U : State) : Prop := va_K D vwCl (am_tys cy) U ∧ (∀ w ∈ am_nest, va_Nw w U) ∧ va_AO "PaletteBuilder$Snapshot" U
theorem ct_K.moved {D : va_G} {cy : Nat → ClassId} {u U : State} (hW : u.WarmedH U.vm) (h : ct_K D cy u) : ct_K D cy U := by
  obtain ⟨h1, h2, h3⟩ := h
  refine ⟨va_K.moved hW.alike h1, fun w hw => ?_, va_AO.moved hW.alike h3⟩
  obtain ⟨a, i, x, b, rfl⟩ := am_nest_of hw
  exact va_Nw.warmM hW (h2 _ hw)
def ct_A (h0 sz : Nat) : Nat → Prop := fun q => q = h0 ∨ sz ≤ q
def ct_U (D : va_G) (cy : Nat → ClassId) (sz h0 : Nat) (e0 : va_E) (U : State) : Prop := U.heap.size = sz ∧ va_at D vwCl (h0, e0) U.heap ∧ ct_K D cy U
theorem ct_U.blind {D : va_G} {cy : Nat → ClassId} {sz h0 : Nat} {e0 : va_E} {a : List Value} : FrameBlind (va_Pc a (ct_U D cy sz h0 e0)) := by
  intro a' U g mk h
  obtain ⟨rfl, hsz, hP, h1, h2, h3⟩ := h
  refine ⟨rfl, hsz, hP, va_K.moved (u := U) (Vm.Alike.refl U.vm) h1, fun w hw => ?_, va_AO.moved (u := U) (Vm.Alike.refl U.vm) h3⟩
  obtain ⟨a, i, x, b, rfl⟩ := am_nest_of hw
  exact va_Nw.same (u := U) rfl rfl (h2 _ hw)
/-- a constructor's contract: out of the one new object comes the world w, with B -/
def ct_Met (l : Launch) (D : va_G) (cy : Nat → ClassId) (y : MethodName) (cc : ByteArray) (mL : Nat) (rm : Room) (h0 : Nat) (As : List Value) (e0 : va_E) (mc ms : Nat) (B : va_W → Prop) : Prop :=
  ∀ sz : Nat, Met l y (Cond.code y cc mL none :: am_wG) rm (va_Pc (.ref h0 :: As) (ct_U D cy sz h0 e0)) (va_Qv B (fun w t => va_P D vwCl w t.heap ∧ va_D (ct_A h0 sz) w) (ct_A h0 sz)) mc ms (ct_A h0 sz)
/-! worlds as lists: their order is nothing -/
theorem ct_Dp {A : Nat → Prop} {ws : va_W} : va_D A ws ↔ ws.Pairwise (fun x y => x.1 ≠ y.1) ∧ ∀ x ∈ ws, A x.1 := by
  constructor
  · rintro ⟨h1, h2⟩
    refine ⟨List.pairwise_iff_getElem.mpr (fun i j hi hj hij e => ?_), fun x hx => ?_⟩
    · have := h1 i j _ _ (List.getElem?_eq_getElem hi) (List.getElem?_eq_getElem hj) e
      omega
    · obtain ⟨k, hk⟩ := List.mem_iff_getElem?.mp hx
      exact h2 k x hk
  · rintro ⟨h1, h2⟩
    refine ⟨fun i j x y hi hj e => ?_, fun k x hk => h2 x (List.mem_of_getElem? hk)⟩
    obtain ⟨li, rfl⟩ := List.getElem?_eq_some_iff.mp hi
    obtain ⟨lj, rfl⟩ := List.getElem?_eq_some_iff.mp hj
    rcases Nat.lt_trichotomy i j with h | h | h
    · exact absurd e (List.pairwise_iff_getElem.mp h1 i j li lj h)
    · exact h
    · exact absurd e.symm (List.pairwise_iff_getElem.mp h1 j i lj li h)
theorem ct_Pp {D : va_G} {ws : va_W} {H : Heap} : va_P D vwCl ws H ↔ ∀ x ∈ ws, va_at D vwCl x H := by
  constructor
  · intro h x hx
    obtain ⟨k, hk⟩ := List.mem_iff_getElem?.mp hx
    exact h k x hk
  · intro h k x hk
    exact h x (List.mem_of_getElem? hk)
theorem ct_permD {A : Nat → Prop} {ws ws' : va_W} (h : List.Perm ws ws') (hD : va_D A ws) : va_D A ws' := by
  obtain ⟨h1, h2⟩ := ct_Dp.mp hD
  exact ct_Dp.mpr ⟨(List.Perm.pairwise_iff (fun q => Ne.symm q) h).mp h1, fun x hx => h2 x (h.mem_iff.mpr hx)⟩
theorem ct_permP {D : va_G} {ws ws' : va_W} {H : Heap} (h : List.Perm ws ws') (hP : va_P D vwCl ws H) : va_P D vwCl ws' H := ct_Pp.mpr (fun x hx => ct_Pp.mp hP x (h.mem_iff.mpr hx))
theorem ct_join {A : Nat → Prop} {D : va_G} {q : Nat} {e0 : va_E} {wr w : va_W} {H H1 : Heap} (hP : va_P D vwCl ((q, e0) :: wr) H) (hD : va_D A ((q, e0) :: wr)) (hA : ∀ x, H.size ≤ x → A x) (hk : ∀ x : Nat, x < H.size → ¬ ct_A q H.size x → H1[x]? = H[x]?) (hP1 : va_P D vwCl w H1) (hD1 : va_D (ct_A q H.size) w) : va_P D vwCl (wr ++ w) H1 ∧ va_D A (wr ++ w) := by
  have up : ∀ (k : Nat) (x : Nat × va_E), wr[k]? = some x → ((q, e0) :: wr)[k + 1]? = some x := fun k x hx => by rw [List.getElem?_cons_succ]; exact hx
  have apart : ∀ (k : Nat) (x : Nat × va_E), wr[k]? = some x → x.1 < H.size ∧ ¬ ct_A q H.size x.1 := by
    intro k x hx
    have hl := (hP (k + 1) x (up k x hx)).lt
    refine ⟨hl, fun h => ?_⟩
    rcases h with h | h
    · have := hD.1 (k + 1) 0 x (q, e0) (up k x hx) rfl h
      omega
    · omega
  have hDr : va_D A wr := ⟨fun i j x y hi hj h => by have := hD.1 (i + 1) (j + 1) x y (up i x hi) (up j y hj) h; omega, fun k x hx => hD.2 (k + 1) x (up k x hx)⟩
  refine ⟨va_P.app (fun k x hx => ?_) hP1, va_D.app hDr ⟨hD1.1, fun k x hx => ?_⟩ (fun i j x y hx hy hxy => ?_)⟩
  · obtain ⟨g1, g2⟩ := apart k x hx
    exact (hP (k + 1) x (up k x hx)).kept (hk x.1 g1 g2)
  · rcases hD1.2 k x hx with h | h
    · rw [h]
      exact hD.2 0 (q, e0) rfl
    · exact hA _ h
  · exact (apart i x hx).2 (by rw [hxy]; exact hD1.2 j y hy)
theorem ct_one {D : va_G} {h0 sz : Nat} {e0 : va_E} {H : Heap} (h : va_at D vwCl (h0, e0) H) : va_P D vwCl [(h0, e0)] H ∧ va_D (ct_A h0 sz) [(h0, e0)] :=
  ⟨ct_Pp.mpr (fun x hx => by rw [List.mem_singleton.mp hx]; exact h), ct_Dp.mpr ⟨List.pairwise_singleton _ _, fun x hx => by rw [List.mem_singleton.mp hx]; exact Or.inl rfl⟩⟩
theorem ct_oi : Cond.instanceMethod Lib.objectInit ∈ am_wG := am_gw (p := 104) (by decide +kernel) rfl
theorem ct_oc : Cond.code Lib.objectInit ⟨#[0xb1]⟩ 1 none ∈ am_wG := am_gw (p := 105) (by decide +kernel) rfl
theorem ct_ai : Cond.arrayClass .int ∈ am_wG := am_gw (p := 172) (by decide +kernel) rfl
theorem ct_az : Cond.arrayClass .boolean ∈ am_wG := am_gw (p := 173) (by decide +kernel) rfl
theorem ct_aj : Cond.arrayClass .long ∈ am_wG := am_gw (p := 248) (by decide +kernel) rfl
def ct_At (p : Program) (s : State) (m : MethodId) (args : Array Value) (c : Code) (cc : ByteArray) (nL : Nat) (D : va_G) (cy : Nat → ClassId) (Ts : List Cond) (own : String) : Prop :=
  p.tables.exec = Jvm.exec ∧ c.code = cc ∧ c.maxLocals = nL ∧ s.vm.findClass own = some m.cls ∧ (∀ w ∈ Ts, w.before args s = true) ∧ (∀ w ∈ am_wG, w ∈ Ts) ∧ ct_K D cy s
section CT
variable {p : Program} {l : Launch} {e : Env} {R : Room} {s : State} {m : MethodId} {args : Array Value} {below : List Frame} {meth : Method} {c : Code} {H H0 : Heap} {locs : List Loc} {cells slots : Nat} {Q : State → Prop}
variable {cc : ByteArray} {nL pc : Nat} {D : va_G} {cy : Nat → ClassId} {Ts : List Cond} {own : String} {A : Nat → Prop} {ws : va_W} {ls : Array Slot} {rest : List Value}
theorem ct_obj (hA : ct_At p s m args c cc nL D cy Ts own) (i1 : Nat) {idx : Nat} (h1 : lw_tbl[i1]? = some (Cond.methodLink own idx Lib.objectInit)) (hl : ls.size = nL) {a : Nat} (hd : decode cc pc = .ok (.invokespecial idx, 3)) (hf : 1 ≤ R.frames) (hlo : 12 ≤ R.locals) (k : W p l e R s m args below meth c H locs cells slots Q (F0 m (pc + 3) ls [])) : W p l e R s m args below meth c H locs cells slots Q (F0 m pc ls [.ref a]) := by
  obtain ⟨hx, hb, hml, hown, hts, hG, -⟩ := hA
  exact W.objInit hx hb hown (hts _ (hG _ (am_gw h1 rfl))) (hts _ (hG _ ct_oi)) (hts _ (hG _ ct_oc)) rfl (by rw [hml]; exact hl) rfl hd hf hlo k
theorem ct_newi (hA : ct_At p s m args c cc nL D cy Ts own) (hP : va_P D vwCl ws H) (hD : va_D A ws) (hS : va_S A H0 H locs) (hq : ∀ q, H0.size ≤ q → A q) {n : Int32} (N : Nat) (hn : ¬ n < 0) (hN : n.toNatClampNeg = N) (hby : N * 4 ≤ 536870912) (hcells : cells + 1 ≤ R.cells) (hslots : slots + N ≤ R.slots) (hd : decode cc pc = .ok (.newarray .int, 2))
    (k : ∀ (q : Nat) (H1 : Heap), va_P D vwCl (ws ++ [(q, .inl (cy 0, N, .inl (fun _ => 0)))]) H1 → va_D A (ws ++ [(q, .inl (cy 0, N, .inl (fun _ => 0)))]) → va_S A H0 H1 locs → W p l e R s m args below meth c H1 locs (cells + 1) (slots + N) Q (F0 m (pc + 2) ls (.ref q :: rest))) : W p l e R s m args below meth c H locs cells slots Q (F0 m pc ls (.int n :: rest)) := by
  obtain ⟨hx, hb, hml, hown, hts, hG, hK, -⟩ := hA
  refine va_newa (atype := .int) (ty := .int) (a0 := (N, .inl (fun _ => 0))) hx hb (hts _ (hG _ ct_ai)) rfl hK hP hD hS hq (fun _ => rfl) hn hN hby hcells hslots hd (fun q cA H1 hK1 hP1 hD1 hS1 => ?_)
  have e : cA = cy 0 := Option.some.inj ((hK1.2 4 (cA, .int) rfl).2.symm.trans (hK.2 0 (cy 0, .int) rfl).2)
  subst e
  exact k q H1 hP1 hD1 hS1
theorem ct_newj (hA : ct_At p s m args c cc nL D cy Ts own) (hP : va_P D vwCl ws H) (hD : va_D A ws) (hS : va_S A H0 H locs) (hq : ∀ q, H0.size ≤ q → A q) {n : Int32} (N : Nat) (hn : ¬ n < 0) (hN : n.toNatClampNeg = N) (hby : N * 8 ≤ 536870912) (hcells : cells + 1 ≤ R.cells) (hslots : slots + N ≤ R.slots) (hd : decode cc pc = .ok (.newarray .long, 2))
    (k : ∀ (q : Nat) (H1 : Heap), va_P D vwCl (ws ++ [(q, .inl (cy 1, N, .inr (.inl (fun _ => 0))))]) H1 → va_D A (ws ++ [(q, .inl (cy 1, N, .inr (.inl (fun _ => 0))))]) → va_S A H0 H1 locs → W p l e R s m args below meth c H1 locs (cells + 1) (slots + N) Q (F0 m (pc + 2) ls (.ref q :: rest))) : W p l e R s m args below meth c H locs cells slots Q (F0 m pc ls (.int n :: rest)) := by
  obtain ⟨hx, hb, hml, hown, hts, hG, hK, -⟩ := hA
  refine va_newa (atype := .long) (ty := .long) (a0 := (N, .inr (.inl (fun _ => 0)))) hx hb (hts _ (hG _ ct_aj)) rfl hK hP hD hS hq (fun _ => rfl) hn hN hby hcells hslots hd (fun q cA H1 hK1 hP1 hD1 hS1 => ?_)
  have e : cA = cy 1 := Option.some.inj ((hK1.2 4 (cA, .long) rfl).2.symm.trans (hK.2 1 (cy 1, .long) rfl).2)
  subst e
  exact k q H1 hP1 hD1 hS1
theorem ct_newz (hA : ct_At p s m args c cc nL D cy Ts own) (hP : va_P D vwCl ws H) (hD : va_D A ws) (hS : va_S A H0 H locs) (hq : ∀ q, H0.size ≤ q → A q) {n : Int32} (N : Nat) (hn : ¬ n < 0) (hN : n.toNatClampNeg = N) (hby : N * 1 ≤ 536870912) (hcells : cells + 1 ≤ R.cells) (hslots : slots + N ≤ R.slots) (hd : decode cc pc = .ok (.newarray .boolean, 2))
    (k : ∀ (q : Nat) (H1 : Heap), va_P D vwCl (ws ++ [(q, .inl (cy 2, N, .inl (fun _ => 0)))]) H1 → va_D A (ws ++ [(q, .inl (cy 2, N, .inl (fun _ => 0)))]) → va_S A H0 H1 locs → W p l e R s m args below meth c H1 locs (cells + 1) (slots + N) Q (F0 m (pc + 2) ls (.ref q :: rest))) : W p l e R s m args below meth c H locs cells slots Q (F0 m pc ls (.int n :: rest)) := by
  obtain ⟨hx, hb, hml, hown, hts, hG, hK, -⟩ := hA
  refine va_newa (atype := .boolean) (ty := .boolean) (a0 := (N, .inl (fun _ => 0))) hx hb (hts _ (hG _ ct_az)) rfl hK hP hD hS hq (fun _ => rfl) hn hN hby hcells hslots hd (fun q cA H1 hK1 hP1 hD1 hS1 => ?_)
  have e : cA = cy 2 := Option.some.inj ((hK1.2 4 (cA, .boolean) rfl).2.symm.trans (hK.2 2 (cy 2, .boolean) rfl).2)
  subst e
  exact k q H1 hP1 hD1 hS1
theorem ct_putF (hA : ct_At p s m args c cc nL D cy Ts own) {ci N : Nat} {T : u_T} (ty0 : Nat → FieldType) (hc : vwCl[ci]? = some (own, T, N)) (hin : ∀ w ∈ u_ws own T N, w ∈ am_wG) (hty : ∀ k, k < N → parseFieldDescriptor (T k).2.2.1 = some (ty0 k)) (hnm : ∀ a, a < N → ∀ b, b < N → a ≠ b → (T a).2.1 ≠ (T b).2.1) {a : Nat} {fs : List Value} {wr : va_W} (hP : va_P D vwCl ((a, .inr (ci, fs)) :: wr) H) (hD : va_D A ((a, .inr (ci, fs)) :: wr)) (hS : va_S A H0 H locs) (k : Nat) (hk : k < N) (i1 : Nat) {idx : Nat} (h1 : lw_tbl[i1]? = some (Cond.fieldLink own idx own (T k).2.1 (T k).2.2.1)) (hfin : (T k).2.2.2 = true) (hin2 : meth.name = "<init>") (hdecl : (T k).1 = own) {v : Value} (hn : narrow (ty0 k) v = v) (hfit : fits (ty0 k) v = true) (hl : k < fs.length) (hd : decode cc pc = .ok (.putfield idx, 3))
    (kk : ∀ (H1 : Heap) (locs1 : List Loc), va_P D vwCl ((a, .inr (ci, fs.set k v)) :: wr) H1 → va_D A ((a, .inr (ci, fs.set k v)) :: wr) → va_S A H0 H1 locs1 → W p l e R s m args below meth c H1 locs1 cells slots Q (F0 m (pc + 3) ls rest)) : W p l e R s m args below meth c H locs cells slots Q (F0 m pc ls (v :: .ref a :: rest)) := by
  obtain ⟨hx, hb, hml, hown, hts, hG, hK, -⟩ := hA
  exact va_putF hx hb hts (fun w hw => hG w (hin w hw)) ty0 hty hnm hown hK hP hD hS 0 rfl hc k hk (hts _ (hG _ (am_gw h1 rfl))) (fun x hx => by rw [hdecl] at hx; exact hx) hfin hin2 hdecl (hty k hk) hn hfit hl hd kk
theorem ct_put (hA : ct_At p s m args c cc nL D cy Ts own) {ci N : Nat} {T : u_T} (ty0 : Nat → FieldType) (hc : vwCl[ci]? = some (own, T, N)) (hin : ∀ w ∈ u_ws own T N, w ∈ am_wG) (hty : ∀ k, k < N → parseFieldDescriptor (T k).2.2.1 = some (ty0 k)) (hnm : ∀ a, a < N → ∀ b, b < N → a ≠ b → (T a).2.1 ≠ (T b).2.1) {a : Nat} {fs : List Value} {wr : va_W} (hP : va_P D vwCl ((a, .inr (ci, fs)) :: wr) H) (hD : va_D A ((a, .inr (ci, fs)) :: wr)) (hS : va_S A H0 H locs) (k : Nat) (hk : k < N) (i1 : Nat) {idx : Nat} (h1 : lw_tbl[i1]? = some (Cond.fieldLink own idx own (T k).2.1 (T k).2.2.1)) (hfin : (T k).2.2.2 = false) (hdecl : (T k).1 = own) {v : Value} (hn : narrow (ty0 k) v = v) (hfit : fits (ty0 k) v = true) (hl : k < fs.length) (hd : decode cc pc = .ok (.putfield idx, 3))
    (kk : ∀ (H1 : Heap) (locs1 : List Loc), va_P D vwCl ((a, .inr (ci, fs.set k v)) :: wr) H1 → va_D A ((a, .inr (ci, fs.set k v)) :: wr) → va_S A H0 H1 locs1 → W p l e R s m args below meth c H1 locs1 cells slots Q (F0 m (pc + 3) ls rest)) : W p l e R s m args below meth c H locs cells slots Q (F0 m pc ls (v :: .ref a :: rest)) := by
  obtain ⟨hx, hb, hml, hown, hts, hG, hK, -⟩ := hA
  exact va_put hx hb hts (fun w hw => hG w (hin w hw)) ty0 hty hnm hown hK hP hD hS 0 rfl hc k hk (hts _ (hG _ (am_gw h1 rfl))) (fun x hx => by rw [hdecl] at hx; exact hx) hfin (hty k hk) hn hfit hl hd kk
theorem ct_new (hA : ct_At p s m args c cc nL D cy Ts own) {ci N : Nat} {C : String} {T : u_T} (ty0 : Nat → FieldType) (hc : vwCl[ci]? = some (C, T, N)) (hin : ∀ w ∈ u_ws C T N, w ∈ am_wG) (hty : ∀ k, k < N → parseFieldDescriptor (T k).2.2.1 = some (ty0 k)) (i1 i2 i3 : Nat) {idx : Nat} (h1 : lw_tbl[i1]? = some (Cond.classLink own idx C)) (h2 : lw_tbl[i2]? = some (Cond.instantiable C N)) (h3 : lw_tbl[i3]? = some (Cond.initialized C)) (hP : va_P D vwCl ws H) (hD : va_D A ws) (hS : va_S A H0 H locs) (hq : ∀ q, H0.size ≤ q → A q) (fs : List Value) (hfs : ∀ j, j < N → defaultValue (ty0 j) = vp_V fs j) (hcells : cells + 1 ≤ R.cells) (hslots : slots + N ≤ R.slots) (hd : decode cc pc = .ok (.new idx, 3))
    (kk : ∀ (q : Nat) (H1 : Heap), va_P D vwCl ((q, .inr (ci, fs)) :: ws) H1 → va_D A ((q, .inr (ci, fs)) :: ws) → va_S A H0 H1 locs → W p l e R s m args below meth c H1 locs (cells + 1) (slots + N) Q (F0 m (pc + 3) ls (.ref q :: rest))) : W p l e R s m args below meth c H locs cells slots Q (F0 m pc ls rest) := by
  obtain ⟨hx, hb, hml, hown, hts, hG, hK, -⟩ := hA
  refine va_new hx hb hts (fun w hw => hG w (hin w hw)) ty0 hty hown (hts _ (hG _ (am_gw h1 rfl))) (hts _ (hG _ (am_gw h2 rfl))) (hts _ (hG _ (am_gw h3 rfl))) hK hP hD hS hq hc hfs hcells hslots hd (fun q H1 hP1 hD1 hS1 => ?_)
  have hp : List.Perm (ws ++ [(q, .inr (ci, fs))]) ((q, .inr (ci, fs)) :: ws) := List.perm_append_comm
  exact kk q H1 (ct_permP hp hP1) (ct_permD hp hD1) hS1
theorem ct_call {mc ms q : Nat} {B : va_W → Prop} {e0 : va_E} {wr : va_W} {st0 : List Value} {a : Array Value} (hr : va_Run p l e R s m args below meth c H locs cells slots mc ms (F0 m pc ls st0) rest (va_Qv B (fun w t => va_P D vwCl w t.heap ∧ va_D (ct_A q H.size) w) (ct_A q H.size) a) (ct_A q H.size)) (hP : va_P D vwCl ((q, e0) :: wr) H) (hD : va_D A ((q, e0) :: wr)) (hS : va_S A H0 H locs) (hAq : ∀ x, H0.size ≤ x → A x)
    (kk : ∀ (w : va_W) (H1 : Heap) (locs1 : List Loc), B w → va_P D vwCl (wr ++ w) H1 → va_D A (wr ++ w) → va_S A H0 H1 locs1 → W p l e R s m args below meth c H1 locs1 (cells + mc) (slots + ms) Q (F0 m (pc + 3) ls rest)) : W p l e R s m args below meth c H locs cells slots Q (F0 m pc ls st0) := by
  have hq : ∀ x, ct_A q H.size x → A x := by
    rintro x (rfl | h)
    · exact hD.2 0 (x, e0) rfl
    · exact hAq x (Nat.le_trans hS.1 h)
  refine va_callv hr hS (fun x _ h => hq x h) hq (fun w t H1 locs1 ht hvm hB hb hz hk hS1 => ?_)
  obtain ⟨hP1, hD1⟩ := hb
  rw [ht] at hP1
  obtain ⟨hP2, hD2⟩ := ct_join hP hD (fun x h => hAq x (Nat.le_trans hS.1 h)) hk hP1 hD1
  exact kk w H1 locs1 hB hP2 hD2 hS1
theorem ct_runI (hA : ct_At p s m args c cc nL D cy Ts own) {y : MethodName} {cc' : ByteArray} {mL mc ms q n idx : Nat} {rm : Room} {As : List Value} {e0 : va_E} {B : va_W → Prop} (hM : ct_Met l D cy y cc' mL rm q As e0 mc ms B) (hrc : rm.cells = mc) (hrs : rm.slots = ms) (hci : Cond.code y cc' mL none ∈ am_wG) (hini : Cond.initialized y.cls ∈ am_wG) (hl : Cond.methodLink own idx y ∈ am_wG) (him : Cond.instanceMethod y ∈ am_wG) (hy : y.name = "<init>") (hdn : y.cls ≠ "java/lang/invoke/MethodHandle" ∧ y.cls ≠ "java/lang/invoke/VarHandle" ∧ (parseMethodDescriptor y.desc).map (fun d => d.parameters.length) = some n) (hR : rm.frames + 1 ≤ R.frames ∧ 8 + (mL + 11) + rm.locals ≤ R.locals) (hat : va_at D vwCl (q, e0) H) (hn : As.length = n) (hsz : ls.size = nL) (hrest : (rest.map fun v => v.category).sum ≤ 8) (hd : decode cc pc = .ok (.invokespecial idx, 3)) (hf : cells + mc ≤ R.cells ∧ slots + ms ≤ R.slots) : va_Run p l e R s m args below meth c H locs cells slots mc ms (F0 m pc ls (As.reverse ++ .ref q :: rest)) rest (va_Qv B (fun w t => va_P D vwCl w t.heap ∧ va_D (ct_A q H.size) w) (ct_A q H.size) (Value.ref q :: As).toArray) (ct_A q H.size) := by
  obtain ⟨hx, hb, hml, hown, hts, hG, hK⟩ := hA
  exact va_runI ⟨hx, hb, hml, hown, hts⟩ (hM H.size) (cwI n hts (am_goodIn hG hci) rfl hrc hrs (hts _ (hG _ hini)) (hts _ (hG _ hl)) (hts _ (hG _ him)) hy hdn hR) ⟨ct_U.blind, fun U hU hW => ⟨rfl, by rw [hU], by rw [hU]; exact hat, hK.moved hW⟩⟩ rfl hn hsz rfl (lv_room hrest) hd hf
theorem ct_runN (hA : ct_At p s m args c cc nL D cy Ts own) {y : MethodName} {host : String} {cc' : ByteArray} {mL mc ms q n idx : Nat} {rm : Room} {As : List Value} {e0 : va_E} {B : va_W → Prop} (hM : ct_Met l D cy y cc' mL rm q As e0 mc ms B) (hrc : rm.cells = mc) (hrs : rm.slots = ms) (hci : Cond.code y cc' mL none ∈ am_wG) (hini : Cond.initialized y.cls ∈ am_wG) (hl : Cond.methodLinkNest own idx y host ∈ am_nest) (him : Cond.instanceMethod y ∈ am_wG) (hy : y.name = "<init>") (hdn : y.cls ≠ "java/lang/invoke/MethodHandle" ∧ y.cls ≠ "java/lang/invoke/VarHandle" ∧ (parseMethodDescriptor y.desc).map (fun d => d.parameters.length) = some n) (hR : rm.frames + 1 ≤ R.frames ∧ 8 + (mL + 11) + rm.locals ≤ R.locals) (hat : va_at D vwCl (q, e0) H) (hn : As.length = n) (hsz : ls.size = nL) (hrest : (rest.map fun v => v.category).sum ≤ 8) (hd : decode cc pc = .ok (.invokespecial idx, 3)) (hf : cells + mc ≤ R.cells ∧ slots + ms ≤ R.slots) : va_Run p l e R s m args below meth c H locs cells slots mc ms (F0 m pc ls (As.reverse ++ .ref q :: rest)) rest (va_Qv B (fun w t => va_P D vwCl w t.heap ∧ va_D (ct_A q H.size) w) (ct_A q H.size) (Value.ref q :: As).toArray) (ct_A q H.size) := by
  obtain ⟨hx, hb, hml, hown, hts, hG, hK⟩ := hA
  exact va_runIN ⟨hx, hb, hml, hown, hts⟩ (hM H.size) ⟨va_cnB n hts (am_goodIn hG hci) rfl hrc hrs (hK.2.1 _ hl) (hts _ (hG _ hini)) hdn hR, hy, hts _ (hG _ him)⟩ ⟨ct_U.blind, fun U hU hW => ⟨rfl, by rw [hU], by rw [hU]; exact hat, hK.moved hW⟩⟩ rfl hn hsz rfl (lv_room hrest) hd hf
end CT
