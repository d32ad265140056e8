/-! the class: mapping -/
theorem lim_nI (x : Int32) : ∃ n, n ≤ 255 ∧ lim x = nI n := by
  unfold lim
  split
  · exact ⟨0, by decide, rfl⟩
  · next h =>
    split
    · exact ⟨255, by decide, rfl⟩
    · next h2 =>
      obtain ⟨n, -, h3, h4⟩ := rng (a := 0) (b := 255) ⟨Int32.not_lt.mp h, Int32.not_lt.mp h2⟩ (by decide)
      exact ⟨n, h3, h4⟩
theorem col3 {a b c : Nat} (ha : a ≤ 255) (hb : b ≤ 255) (hc : c ≤ 255) : 65536 * nI a + nI 256 * nI b + nI c = nI 256 * (nI 256 * (nI 256 * nI 0 + nI a) + nI b) + nI c ∧ okc (nI 256 * (nI 256 * (nI 256 * nI 0 + nI a) + nI b) + nI c) := by
  rw [show (65536 : Int32) = nI 65536 from rfl]
  simp only [nI_mul, nI_add]
  refine ⟨congrArg nI (by omega), _, ?_, rfl⟩
  omega
theorem andp (j : Nat) {n : Nat} (hj : j < 31) (hn : n < 2 ^ 31) : nI n &&& nI (2 ^ j - 1) = nI (n % 2 ^ j) := by
  apply Int32.toBitVec_inj.mp
  apply BitVec.eq_of_toNat_eq
  show ((nI n).toBitVec &&& (nI (2 ^ j - 1)).toBitVec).toNat = (nI (n % 2 ^ j)).toBitVec.toNat
  have hp : 2 ^ j < 2 ^ 31 := Nat.pow_lt_pow_right (by decide) hj
  have hm : n % 2 ^ j ≤ n := Nat.mod_le _ _
  rw [BitVec.toNat_and]
  have e1 : ∀ k : Nat, k < 2 ^ 31 → (nI k).toBitVec.toNat = k := by
    intro k hk
    show (Int32.ofNat k).toBitVec.toNat = k
    rw [Int32.toBitVec_ofNat', BitVec.toNat_ofNat]; omega
  rw [e1 n hn, e1 _ (by omega), e1 _ (by omega)]
  exact Nat.and_two_pow_sub_one_eq_mod n j
theorem and3 {n : Nat} (hn : n < 2 ^ 31) : nI n &&& nI 3 = nI (n % 4) := andp 2 (by decide) hn
theorem and1 {n : Nat} (hn : n < 2 ^ 31) : nI n &&& nI 1 = nI (n % 2) := andp 1 (by decide) hn
theorem xor_ge {a b : Int32} (hb : 0 ≤ b) : 0 ≤ a ^^^ b ↔ 0 ≤ a := by
  have k : ∀ x : Int32, 0 ≤ x ↔ x.toBitVec.msb = false := by
    intro x
    rw [BitVec.msb_eq_toInt, Int32.le_iff_toInt_le, Int32.toInt_zero]
    show 0 ≤ x.toBitVec.toInt ↔ _
    rw [decide_eq_false_iff_not]
    omega
  rw [k, k a]
  rw [k b] at hb
  show (a.toBitVec ^^^ b.toBitVec).msb = false ↔ _
  rw [BitVec.msb_xor, hb, Bool.xor_false]
theorem divm {a : Int32} {m : Nat} (h1 : 1 ≤ m) (h2 : m < 1000) : (a / nI m).toInt = a.toInt.tdiv (m : Int) ∧ (a / nI m * nI m).toInt = a.toInt.tdiv (m : Int) * (m : Int) ∧ (a - a / nI m * nI m).toInt = a.toInt.tmod (m : Int) := by
  have l1 := Int32.le_toInt a
  have l2 := Int32.toInt_lt a
  have hm := nI_toInt (n := m) (by omega)
  have hda : (a.toInt.tdiv (m : Int)).natAbs ≤ a.toInt.natAbs := by
    rw [Int.natAbs_tdiv]
    exact Nat.div_le_self _ _
  have hmul : a.toInt.tdiv (m : Int) * (m : Int) = a.toInt - a.toInt.tmod (m : Int) := by
    have := Int.mul_tdiv_add_tmod a.toInt (m : Int)
    rw [Int.mul_comm] at this
    omega
  have hr : (a.toInt.tmod (m : Int)).natAbs ≤ a.toInt.natAbs := by
    rw [Int.natAbs_tmod]
    exact Nat.mod_le _ _
  have hs : 0 ≤ a.toInt → 0 ≤ a.toInt.tmod (m : Int) := fun h => Int.tmod_nonneg _ h
  have hs2 : a.toInt ≤ 0 → a.toInt.tmod (m : Int) ≤ 0 := by
    intro h
    have := Int.tmod_nonneg (m : Int) (show 0 ≤ -a.toInt by omega)
    rw [Int.neg_tmod] at this
    omega
  have hq2 : a.toInt ≤ 0 → a.toInt.tdiv (m : Int) ≤ 0 := by
    intro h
    have := Int.tdiv_nonneg (show 0 ≤ -a.toInt by omega) (show (0 : Int) ≤ (m : Int) by omega)
    rw [Int.neg_tdiv] at this
    omega
  have e1 : (a / nI m).toInt = a.toInt.tdiv (m : Int) := by
    rw [Int32.toInt_div, hm]
    rcases Int.le_total 0 a.toInt with q | q
    · exact Int.bmod_eq_of_le (by omega) (by omega)
    · have := hq2 q; exact Int.bmod_eq_of_le (by omega) (by omega)
  have e2 : (a / nI m * nI m).toInt = a.toInt.tdiv (m : Int) * (m : Int) := by
    rw [Int32.toInt_mul, e1, hm, hmul]
    rcases Int.le_total 0 a.toInt with q | q
    · have := hs q; exact Int.bmod_eq_of_le (by omega) (by omega)
    · have := hs2 q; exact Int.bmod_eq_of_le (by omega) (by omega)
  refine ⟨e1, e2, ?_⟩
  rw [Int32.toInt_sub, e2, hmul, show a.toInt - (a.toInt - a.toInt.tmod (m : Int)) = a.toInt.tmod (m : Int) by omega]
  exact Int.bmod_eq_of_le (by omega) (by omega)
theorem fd_a {a : Int32} {m : Nat} (h1 : 1 ≤ m) (h2 : m < 1000) (h : 0 ≤ a) : dwn a (nI m) = a / nI m := by
  unfold dwn
  rw [if_pos]
  rw [Int32.le_iff_toInt_le, (divm h1 h2).2.2, Int32.toInt_zero]
  rw [Int32.le_iff_toInt_le, Int32.toInt_zero] at h
  exact Int.tmod_nonneg _ h
theorem fd_b {a : Int32} {m : Nat} (h : a / nI m * nI m = a) : dwn a (nI m) = a / nI m := by
  unfold dwn
  rw [if_pos]
  rw [h, Int32.sub_self]
  exact Int32.le_refl _
theorem fd_c {a : Int32} {m : Nat} (h1 : 1 ≤ m) (h2 : m < 1000) (h : ¬ 0 ≤ a) (h3 : ¬ a / nI m * nI m = a) : dwn a (nI m) = a / nI m - nI 1 := by
  unfold dwn
  rw [if_neg]
  rw [Int32.le_iff_toInt_le, (divm h1 h2).2.2, Int32.toInt_zero]
  rw [Int32.le_iff_toInt_le, Int32.toInt_zero] at h
  intro q
  apply h3
  apply Int32.toInt_inj.mp
  rw [(divm h1 h2).2.1]
  have hmul : a.toInt.tdiv (m : Int) * (m : Int) = a.toInt - a.toInt.tmod (m : Int) := by
    have := Int.mul_tdiv_add_tmod a.toInt (m : Int)
    rw [Int.mul_comm] at this
    omega
  have := Int.tmod_nonneg (m : Int) (show 0 ≤ -a.toInt by omega)
  rw [Int.neg_tmod] at this
  omega
/-- the snapshot agrees with f but for the indices -/
def sm292 (g f : fT) : Prop := ∀ j, j < 292 → g j = f j
def AGm (M : am_M) (f : fT) : Prop := ∃ g, AG M g ∧ wf g ∧ sm292 g f
theorem sm292.w {g f : fT} (h : sm292 g f) (hg : wf0 g) : wf0 f ∧ fW g = fW f ∧ fH g = fH f ∧ fN g = fN f ∧ fA g = fA f := by
  obtain ⟨a, b, c, d⟩ := wf0_of hg (h 0 (by decide)).symm (h 1 (by decide)).symm (h 258 (by decide)).symm
  exact ⟨a, b.symm, c.symm, d.symm, by unfold fA; rw [b, c]⟩
theorem sm292_nbt {f g : fT} (h : sm292 g f) (c but : Int32) (k : Nat) (hk : k ≤ 16) : nbt g c but k = nbt f c but k := by
  induction k with
  | zero => rfl
  | succ k ih =>
    have ih := ih (by omega)
    rw [nbt_s, nbt_s, ih]
    cases hx : nbt f c but k with
    | none => rfl
    | some b =>
      have := nbt_lt hx
      dsimp only
      rw [h 291 (by decide), h (259 + k) (by omega), h (259 + b) (by omega)]
theorem AGm_f {M : am_M} {f : fT} (h : AGm M f) : wf0 f ∧ (M.1 1 0 = nI (fW f) ∧ M.1 1 1 = nI (fH f) ∧ M.1 1 3 = nI (fN f)) ∧ (∀ p, p < fA f → M.1 2 p = f (2 + p) ∧ (f (2 + p) = -1 ∨ okc (f (2 + p)))) ∧ ∀ e, e < fN f → M.1 3 e = f (259 + e) ∧ okc (f (259 + e)) := by
  obtain ⟨g, h1, h2, h3⟩ := h
  obtain ⟨w1, w2, w3, w4, w5⟩ := h3.w h2.1
  obtain ⟨a0, a1, a2⟩ := AG_w h1 h2.1
  have hA := fA_le w1
  have hN := w1.2.2.2
  rw [w2] at a0
  rw [w3] at a1
  rw [w4] at a2
  refine ⟨w1, ⟨a0, a1, a2⟩, fun p hp => ?_, fun e he => ?_⟩
  · rw [← h3 (2 + p) (by omega)]
    exact ⟨h1.2.1 p (by rw [w5]; exact hp), h2.2.1 p (by rw [w5]; exact hp)⟩
  · rw [← h3 (259 + e) (by omega)]
    exact ⟨(h1.2.2.1 e (by rw [w4]; exact he)).1, (h2.2.2.1 e (by rw [w4]; exact he)).1⟩
def mV (f : fT) (p : Nat) (v : Int32) : Prop := (f (2 + p) = -1 → v = nI (fN f)) ∧ (f (2 + p) ≠ -1 → ∃ e, e < fN f ∧ v = nI e)
def iM (M : am_M) (i : fT) : am_M := (am_u M.1 5 i, M.2)
def sM (M : am_M) (S : fT) : am_M := (am_u M.1 31 S, M.2)
theorem iM_5 (M : am_M) (i : fT) : (iM M i).1 5 = i := au1 _ _ _ _
theorem iM_ne (M : am_M) (i : fT) {k : Nat} (h : k ≠ 5) : (iM M i).1 k = M.1 k := au0 _ _ _ h
theorem sM_31 (M : am_M) (i : fT) : (sM M i).1 31 = i := au1 _ _ _ _
theorem sM_ne (M : am_M) (i : fT) {k : Nat} (h : k ≠ 31) : (sM M i).1 k = M.1 k := au0 _ _ _ h
theorem sM_u (M : am_M) (S S' : fT) : ((am_u (sM M S).1 31 S', (sM M S).2) : am_M) = sM M S' := by unfold sM; simp only [am_u_u]
theorem iM_u (M : am_M) (S S' : fT) : ((am_u (iM M S).1 5 S', (iM M S).2) : am_M) = iM M S' := by unfold iM; simp only [am_u_u]
theorem iM_eta (M : am_M) : iM M (M.1 5) = M := by unfold iM; rw [am_u_eta]
theorem sM_eta (M : am_M) : sM M (M.1 31) = M := by unfold sM; rw [am_u_eta]
theorem isM_u (M : am_M) (i i' S : fT) : ((am_u (sM (iM M i) S).1 5 i', (sM (iM M i) S).2) : am_M) = sM (iM M i') S := by
  refine Prod.ext (funext fun q => ?_) rfl
  show am_u (am_u (am_u M.1 5 i) 31 S) 5 i' q = am_u (am_u M.1 5 i') 31 S q
  simp only [am_u]
  by_cases h5 : q = 5 <;> by_cases h3 : q = 31 <;> simp_all
theorem AGm_s {M : am_M} {f : fT} (h : AGm M f) (S : fT) : AGm (sM M S) f := by
  obtain ⟨g, h1, h2, h3⟩ := h
  refine ⟨g, ?_, h2, h3⟩
  unfold AG
  rw [sM_ne _ _ (by decide), sM_ne _ _ (by decide), sM_ne _ _ (by decide), sM_ne _ _ (by decide), sM_ne _ _ (by decide)]
  exact h1
theorem AGm_i {M : am_M} {f : fT} (h : AGm M f) {p : Nat} (hp : p < fA f) {v : Int32} (hv : mV f p v) : AGm (iM M (upd (M.1 5) p v)) f := by
  obtain ⟨g, h1, h2, h3⟩ := h
  obtain ⟨w1, w2, w3, w4, w5⟩ := h3.w h2.1
  have hA := fA_le w1
  have hN := w1.2.2.2
  have e : ∀ j, j ≠ 293 + p → upd g (293 + p) v j = g j := fun j hj => upd_ne _ _ hj
  obtain ⟨k1, k2, k3, k4⟩ := wf0_of h2.1 (e 0 (by omega)) (e 1 (by omega)) (e 258 (by omega))
  have k5 : fA (upd g (293 + p) v) = fA g := by unfold fA; rw [k2, k3]
  refine ⟨upd g (293 + p) v, ?_, ⟨k1, fun q hq => ?_, fun q hq => ?_, ?_, ?_, fun z q hq => ?_⟩, fun j hj => ?_⟩
  · unfold AG
    rw [iM_ne _ _ (by decide), iM_ne _ _ (by decide), iM_ne _ _ (by decide), iM_ne _ _ (by decide), iM_5]
    obtain ⟨b1, b2, b3, b4⟩ := h1
    refine ⟨?_, fun q hq => ?_, fun q hq => ?_, fun z q hq => ?_⟩
    · rw [e 0 (by omega), e 1 (by omega), e 258 (by omega), e 291 (by omega), e 292 (by omega)]; exact b1
    · rw [k5] at hq; rw [e _ (by omega)]; exact b2 q hq
    · rw [k4] at hq; rw [e _ (by omega), e _ (by omega)]; exact b3 q hq
    · rw [k5] at hq
      rw [e 292 (by omega)] at z
      by_cases hqp : q = p
      · subst hqp; rw [upd_self, upd_self]
      · rw [upd_ne _ _ hqp, e _ (by omega)]; exact b4 z q hq
  · rw [k5] at hq; rw [e _ (by omega)]; exact h2.2.1 q hq
  · rw [k4] at hq; rw [e _ (by omega), e _ (by omega)]; exact h2.2.2.1 q hq
  · rw [e _ (by omega)]; exact h2.2.2.2.1
  · rw [e _ (by omega)]; exact h2.2.2.2.2.1
  · rw [k5] at hq
    rw [e 292 (by omega)] at z
    rw [e (2 + q) (by omega), k4]
    by_cases hqp : q = p
    · subst hqp
      rw [upd_self, h3 (2 + q) (by omega), w4]
      exact hv
    · rw [e _ (by omega)]; exact h2.2.2.2.2.2 z q hq
  · rw [e _ (by omega)]; exact h3 j hj
/-- the sums agree where a pixel is opaque -/
def SR (f S T : fT) : Prop := ∀ p, p < fA f → f (2 + p) ≠ -1 → ∀ c, c < 3 → S (3 * p + c) = T (3 * p + c)
def gvC (f : fT) (x y : Int32) (c : Nat) (v : Int32) (S : fT) : fT := if inP f x y then upd S (3 * pxl f x y + c) (S (3 * pxl f x y + c) + v) else S
theorem SR_gv {f S T : fT} (hf : wf0 f) (h : SR f S T) (x y : Int32) {c : Nat} (hc : c < 3) (v : Int32) : SR f (gvC f x y c v S) (gvT f x y c v T) := by
  unfold gvC gvT
  by_cases hi : inP f x y
  · obtain ⟨a, b, ha, hb, -, -, e, -⟩ := gvT_at hf hi hc
    have hlt := pl_lt hf ha hb
    rw [← e] at hlt
    rw [if_pos hi]
    by_cases ho : f (2 + pxl f x y) ≠ -1
    · rw [if_pos ⟨hi, ho⟩]
      intro p hp hop k hk
      by_cases hq : 3 * p + k = 3 * pxl f x y + c
      · rw [hq, upd_self, upd_self, h _ hlt ho c hc]
      · rw [upd_ne _ _ hq, upd_ne _ _ hq]; exact h p hp hop k hk
    · rw [if_neg (fun q => ho q.2)]
      intro p hp hop k hk
      have hne : 3 * p + k ≠ 3 * pxl f x y + c := by
        intro q
        have : p = pxl f x y := by omega
        rw [this] at hop
        exact ho hop
      rw [upd_ne _ _ hne]; exact h p hp hop k hk
  · rw [if_neg hi, if_neg (fun q => hi q.1)]; exact h
def vpl (f : fT) (k : Nat) : Nat := k / fW f * fW f + dfX f k
theorem vpl_lt {f : fT} (hf : wf0 f) {k : Nat} (hk : k < fA f) : vpl f k < fA f := pl_lt hf (dfX_lt hf k) (df_y hk)
theorem vpl_vpl {f : fT} (hf : wf0 f) (k : Nat) : vpl f (vpl f k) = k := by
  have hx := dfX_lt hf k
  have hw := hf.1.2.1
  obtain ⟨e1, e2⟩ := dmW (W := fW f) (x := dfX f k) (y := k / fW f) hx
  have hm := Nat.mod_lt k (show 0 < fW f by omega)
  have hd := dmE (W := fW f) (q := k)
  show (k / fW f * fW f + dfX f k) / fW f * fW f + dfX f (k / fW f * fW f + dfX f k) = k
  have : dfX f (k / fW f * fW f + dfX f k) = k % fW f := by
    unfold dfX at e1 e2 ⊢
    rw [e1, e2]
    split <;> omega
  rw [this, e1]
  exact hd.symm
theorem vpl_inj {f : fT} (hf : wf0 f) {j k : Nat} (h : vpl f j = vpl f k) : j = k := by
  have := congrArg (vpl f) h
  rwa [vpl_vpl hf, vpl_vpl hf] at this
theorem vpl_at {f : fT} {y x : Nat} (hx : x < fW f) : vpl f (y * fW f + x) = y * fW f + (if y % 2 = 0 then x else fW f - 1 - x) ∧ dfX f (y * fW f + x) = (if y % 2 = 0 then x else fW f - 1 - x) := by
  obtain ⟨e1, e2⟩ := dmW (W := fW f) (x := x) (y := y) hx
  have : dfX f (y * fW f + x) = (if y % 2 = 0 then x else fW f - 1 - x) := by unfold dfX; rw [e1, e2]
  unfold vpl
  rw [this, e1]
  exact ⟨rfl, rfl⟩
theorem vsT_sm {f g : fT} (hf : wf0 f) (h : sm293 g f) {x y : Nat} (mt : Nat) (col : Int32) (T : fT) (c : Nat) : vsT g x y mt col T c = vsT f x y mt col T c := by
  obtain ⟨w1, w2, w3, w4⟩ := h.wf hf
  induction c with
  | zero => rfl
  | succ c ih => rw [vsT_s, vsT_s, ih, w2, spT_sm' hf h]
theorem vsS_at {f g T : fT} (hf : wf0 f) (h : sm293 g f) {x y mt e : Nat} (he : ner f (vsC T (y * fW f + x) 3) = some e) : vsS mt x y (g, T) = (upd g (293 + (y * fW f + x)) (nI e), vsT f x y mt (f (259 + e)) T 3) := by
  obtain ⟨w1, w2, w3, w4⟩ := h.wf hf
  have hb := (nbt_ok he).1
  have hN := hf.2.2.2
  unfold vsS
  dsimp only
  rw [w2, ner_sm hf h, he]
  dsimp only
  rw [vsT_sm hf h, h (259 + e) (by omega)]
/-- after k visits: what the indices and the sums of the class have to be -/
def DV (mt : Nat) (f g T : fT) (k : Nat) (i S : fT) : Prop := (∀ j, j < k → i (vpl f j) = (dfS mt g T k).1 (293 + vpl f j) ∧ mV f (vpl f j) (i (vpl f j))) ∧ SR f S (dfS mt g T k).2
theorem dfS_out {mt : Nat} {f g T : fT} (hf : wf0 f) (h : sm293 g f) {k : Nat} {p : Nat} (hp : ∀ j, j < k → vpl f j ≠ p) : (dfS mt g T k).1 (293 + p) = g (293 + p) := by
  obtain ⟨w1, w2, w3, w4⟩ := h.wf hf
  induction k with
  | zero => rfl
  | succ k ih =>
    have ih := ih (fun j hj => hp j (by omega))
    rw [dfS_s]
    split
    · exact ih
    · have hs := dfS_sm mt g T k
      have hs' : sm293 (dfS mt g T k).1 f := fun j hj => (hs j hj).trans (h j hj)
      have hv := hp k (by omega)
      show (vsS mt (dfX g k) (k / fW g) ((dfS mt g T k).1, (dfS mt g T k).2)).1 (293 + p) = _
      unfold vsS
      dsimp only
      split
      · exact ih
      · show upd _ _ _ _ = _
        rw [upd_ne _ _ ?_, ih]
        have e1 : fW (dfS mt g T k).1 = fW f := (hs'.wf hf).2.1
        have e2 : dfX g k = dfX f k := by unfold dfX; rw [w2]
        rw [e1, e2, w2]
        unfold vpl at hv
        omega
theorem DV_t {mt : Nat} {f g T : fT} (hf : wf0 f) (h : sm293 g f) {k : Nat} (hk : k < fA f) {i S : fT} (hg : g (293 + vpl f k) = nI (fN f)) (hd : DV mt f g T k i S) (ho : f (2 + vpl f k) = -1) : DV mt f g T (k + 1) (upd i (vpl f k) (nI (fN f))) S := by
  obtain ⟨w1, w2, w3, w4⟩ := h.wf hf
  have hA := fA_le hf
  have hv := vpl_lt hf hk
  have e2 : dfX g k = dfX f k := by unfold dfX; rw [w2]
  have ev : k / fW g * fW g + dfX g k = vpl f k := by unfold vpl; rw [w2, e2]
  have eo : g (2 + (k / fW g * fW g + dfX g k)) = -1 := by rw [ev, h _ (by omega)]; exact ho
  have es : dfS mt g T (k + 1) = dfS mt g T k := by rw [dfS_s, if_pos eo]
  refine ⟨fun j hj => ?_, by rw [es]; exact hd.2⟩
  rw [es]
  by_cases hjk : j = k
  · subst hjk
    rw [upd_self, dfS_out hf h (fun q hq e => by have := vpl_inj hf e; omega), hg]
    exact ⟨rfl, fun _ => rfl, fun q => absurd ho q⟩
  · rw [upd_ne _ _ (fun e => hjk (vpl_inj hf e))]
    exact hd.1 j (by omega)
theorem DV_o {mt : Nat} {f g T : fT} (hf : wf0 f) (h : sm293 g f) {k : Nat} (hk : k < fA f) {i S S' : fT} (hd : DV mt f g T k i S) (ho : f (2 + vpl f k) ≠ -1) {e : Nat} (he : ner f (vsC (dfS mt g T k).2 (vpl f k) 3) = some e) (hS : SR f S' (vsT f (dfX f k) (k / fW f) mt (f (259 + e)) (dfS mt g T k).2 3)) : DV mt f g T (k + 1) (upd i (vpl f k) (nI e)) S' := by
  obtain ⟨w1, w2, w3, w4⟩ := h.wf hf
  have hA := fA_le hf
  have hv := vpl_lt hf hk
  have hb := (nbt_ok he).1
  have e2 : dfX g k = dfX f k := by unfold dfX; rw [w2]
  have ev : k / fW g * fW g + dfX g k = vpl f k := by unfold vpl; rw [w2, e2]
  have eo : ¬ g (2 + (k / fW g * fW g + dfX g k)) = -1 := by rw [ev, h _ (by omega)]; exact ho
  have hs : sm293 (dfS mt g T k).1 f := fun j hj => (dfS_sm mt g T k j hj).trans (h j hj)
  have es : dfS mt g T (k + 1) = (upd (dfS mt g T k).1 (293 + vpl f k) (nI e), vsT f (dfX f k) (k / fW f) mt (f (259 + e)) (dfS mt g T k).2 3) := by
    rw [dfS_s, if_neg eo, e2, w2]
    exact vsS_at hf hs he
  refine ⟨fun j hj => ?_, by rw [es]; exact hS⟩
  rw [es]
  dsimp only
  by_cases hjk : j = k
  · subst hjk
    rw [upd_self, upd_self]
    exact ⟨rfl, fun q => absurd q ho, fun _ => ⟨e, hb, rfl⟩⟩
  · have hne : vpl f j ≠ vpl f k := fun q => hjk (vpl_inj hf q)
    rw [upd_ne _ _ hne, upd_ne _ _ (by omega)]
    exact hd.1 j (by omega)
theorem DV_end {mt : Nat} {f g T : fT} (hf : wf0 f) {i S : fT} (hd : DV mt f g T (fA f) i S) : ∀ p, p < fA f → i p = (dfS mt g T (fA f)).1 (293 + p) ∧ mV f p (i p) := by
  intro p hp
  have := hd.1 (vpl f p) (vpl_lt hf hp)
  rw [vpl_vpl hf] at this
  exact this
theorem vsC_eq {f S T : fT} (h : SR f S T) {p : Nat} (hp : p < fA f) (ho : f (2 + p) ≠ -1) : vsC S p 3 = vsC T p 3 := by
  have e := h p hp ho
  have e0 := e 0 (by decide)
  have e1 := e 1 (by decide)
  have e2 := e 2 (by decide)
  show nI 256 * (nI 256 * (nI 256 * nI 0 + lim (dwn (S (3 * p + 0) + nI 8) (nI 16))) + lim (dwn (S (3 * p + 1) + nI 8) (nI 16))) + lim (dwn (S (3 * p + 2) + nI 8) (nI 16)) = nI 256 * (nI 256 * (nI 256 * nI 0 + lim (dwn (T (3 * p + 0) + nI 8) (nI 16))) + lim (dwn (T (3 * p + 1) + nI 8) (nI 16))) + lim (dwn (T (3 * p + 2) + nI 8) (nI 16))
  rw [e0, e1, e2]
theorem vsC_c (S : fT) (p : Nat) : 65536 * lim (dwn (S (3 * p + 0) + nI 8) (nI 16)) + nI 256 * lim (dwn (S (3 * p + 1) + nI 8) (nI 16)) + lim (dwn (S (3 * p + 2) + nI 8) (nI 16)) = vsC S p 3 ∧ okc (vsC S p 3) := by
  obtain ⟨a, a1, a2⟩ := lim_nI (dwn (S (3 * p + 0) + nI 8) (nI 16))
  obtain ⟨b, b1, b2⟩ := lim_nI (dwn (S (3 * p + 1) + nI 8) (nI 16))
  obtain ⟨c, c1, c2⟩ := lim_nI (dwn (S (3 * p + 2) + nI 8) (nI 16))
  show _ = nI 256 * (nI 256 * (nI 256 * nI 0 + lim (dwn (S (3 * p + 0) + nI 8) (nI 16))) + lim (dwn (S (3 * p + 1) + nI 8) (nI 16))) + lim (dwn (S (3 * p + 2) + nI 8) (nI 16)) ∧ okc (nI 256 * (nI 256 * (nI 256 * nI 0 + lim (dwn (S (3 * p + 0) + nI 8) (nI 16))) + lim (dwn (S (3 * p + 1) + nI 8) (nI 16))) + lim (dwn (S (3 * p + 2) + nI 8) (nI 16)))
  rw [a2, b2, c2]
  exact col3 a1 b1 c1
theorem diC_c (f : fT) (p : Nat) (s : Int32) : 65536 * lim (cha (f (2 + p)) 0 + diB f p s) + nI 256 * lim (cha (f (2 + p)) 1 + diB f p s) + lim (cha (f (2 + p)) 2 + diB f p s) = diC f p s 3 ∧ okc (diC f p s 3) := by
  obtain ⟨a, a1, a2⟩ := lim_nI (cha (f (2 + p)) 0 + diB f p s)
  obtain ⟨b, b1, b2⟩ := lim_nI (cha (f (2 + p)) 1 + diB f p s)
  obtain ⟨c, c1, c2⟩ := lim_nI (cha (f (2 + p)) 2 + diB f p s)
  show _ = nI 256 * (nI 256 * (nI 256 * nI 0 + lim (cha (f (2 + p)) 0 + diB f p s)) + lim (cha (f (2 + p)) 1 + diB f p s)) + lim (cha (f (2 + p)) 2 + diB f p s) ∧ okc (nI 256 * (nI 256 * (nI 256 * nI 0 + lim (cha (f (2 + p)) 0 + diB f p s)) + lim (cha (f (2 + p)) 1 + diB f p s)) + lim (cha (f (2 + p)) 2 + diB f p s))
  rw [a2, b2, c2]
  exact col3 a1 b1 c1
/-- what ordered dithering gives a pixel -/
def asV (f : fT) (s : Int32) (p : Nat) : Int32 := if f (2 + p) ≠ -1 then oI (ner f (diC f p s 3)) else nI (fN f)
theorem asV_mV {f : fT} (hf : wf0 f) (hz : 0 < fN f) (s : Int32) (p : Nat) : mV f p (asV f s p) := by
  obtain ⟨b, h1, h2⟩ := ner_some (f := f) (diC f p s 3) hz hf.2.2.2
  refine ⟨fun h => by unfold asV; rw [if_neg (fun q => q h)], fun h => ⟨b, h2, ?_⟩⟩
  unfold asV
  rw [if_pos h, show ner f (diC f p s 3) = some b from h1]
  rfl
