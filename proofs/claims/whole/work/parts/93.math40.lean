theorem kp292 (f : fT) : kpF f 1 292 = 0 := by unfold kpF; rw [upd_self, if_neg (by decide)]
theorem agS_im {a p c l i f p' : fT} {w h : Nat} (hf : wf0 f) (h0 : f 292 = 0) (hg : agS a p c l i f) (hw : 1 ≤ w ∧ w ≤ 16) (hh : 1 ≤ h ∧ h ≤ 16) (hp : ∀ q, q < w * h → p' q = 0) : agS (upd (upd a 0 (nI w)) 1 (nI h)) p' c l i (imF f w h) ∧ fW (imF f w h) = w ∧ fH (imF f w h) = h ∧ fN (imF f w h) = fN f := by
  obtain ⟨h1, h2, h3, h4⟩ := hg
  have hN := hf.2.2.2
  have e : ∀ j, 258 ≤ j → imF f w h j = f j := fun j hj => by unfold imF; rw [st_out _ _ (by omega), upd_ne _ _ (by omega), upd_ne _ _ (by omega)]
  have e0 : imF f w h 0 = nI w := by unfold imF; rw [st_out _ _ (by omega), upd_ne _ _ (by omega), upd_self]
  have e1 : imF f w h 1 = nI h := by unfold imF; rw [st_out _ _ (by omega), upd_self]
  have w1 : fW (imF f w h) = w := clN e0 (by omega)
  have w2 : fH (imF f w h) = h := clN e1 (by omega)
  have w3 : fN (imF f w h) = fN f := by unfold fN; rw [e 258 (by omega)]
  have wh : w * h ≤ 16 * 16 := Nat.mul_le_mul hw.2 hh.2
  refine ⟨⟨⟨?_, ?_, ?_, ?_, ?_⟩, fun q hq => ?_, fun q hq => ?_, fun z => ?_⟩, w1, w2, w3⟩
  · rw [upd_ne _ _ (by decide), upd_self, e0]
  · rw [upd_self, e1]
  · rw [upd_ne _ _ (by decide), upd_ne _ _ (by decide), e _ (by omega)]; exact h1.2.2.1
  · rw [upd_ne _ _ (by decide), upd_ne _ _ (by decide), e _ (by omega)]; exact h1.2.2.2.1
  · rw [upd_ne _ _ (by decide), upd_ne _ _ (by decide), e _ (by omega)]; exact h1.2.2.2.2
  · have hq2 : q < w * h := by have : fA (imF f w h) = w * h := by unfold fA; rw [w1, w2]
                               rw [this] at hq; exact hq
    rw [hp q hq2]
    unfold imF
    rw [st_in _ _ (by omega)]
  · rw [w3] at hq; rw [e _ (by omega), e _ (by omega)]; exact h3 q hq
  · rw [e 292 (by omega), h0] at z; exact absurd z (by decide)
theorem wf_im {f : fT} {w h : Nat} (hf : wf f) (h0 : f 292 = 0) (hw : 1 ≤ w ∧ w ≤ 16) (hh : 1 ≤ h ∧ h ≤ 16) : wf (imF f w h) := by
  obtain ⟨w0, h2, h3, h4, h5, h6⟩ := hf
  have hN := w0.2.2.2
  have e : ∀ j, 258 ≤ j → imF f w h j = f j := fun j hj => by unfold imF; rw [st_out _ _ (by omega), upd_ne _ _ (by omega), upd_ne _ _ (by omega)]
  have e0 : imF f w h 0 = nI w := by unfold imF; rw [st_out _ _ (by omega), upd_ne _ _ (by omega), upd_self]
  have e1 : imF f w h 1 = nI h := by unfold imF; rw [st_out _ _ (by omega), upd_self]
  have w1 : fW (imF f w h) = w := clN e0 (by omega)
  have w2 : fH (imF f w h) = h := clN e1 (by omega)
  have w3 : fN (imF f w h) = fN f := by unfold fN; rw [e 258 (by omega)]
  have wh : w * h ≤ 16 * 16 := Nat.mul_le_mul hw.2 hh.2
  refine ⟨⟨?_, ?_, ?_⟩, fun q hq => ?_, fun q hq => ?_, ?_, ?_, fun z => ?_⟩
  · rw [w1]; exact ⟨e0, hw⟩
  · rw [w2]; exact ⟨e1, hh⟩
  · rw [w3, e 258 (by omega)]; exact w0.2.2
  · have : fA (imF f w h) = w * h := by unfold fA; rw [w1, w2]
    rw [this] at hq
    unfold imF
    rw [st_in _ _ (by omega)]
    exact Or.inr ⟨0, by decide, rfl⟩
  · rw [w3] at hq; rw [e _ (by omega), e _ (by omega)]; exact h3 q hq
  · rw [e _ (by omega)]; exact h4
  · rw [e _ (by omega)]; exact h5
  · rw [e 292 (by omega), h0] at z; exact absurd z (by decide)
theorem okc_m1 {c : Int32} : (-1 ≤ c ∧ c ≤ 16777215) ↔ (c = -1 ∨ (0 ≤ c ∧ c ≤ 16777215)) := by
  rw [Int32.le_iff_toInt_le, Int32.le_iff_toInt_le, Int32.le_iff_toInt_le, ← Int32.toInt_inj, show (-1 : Int32).toInt = -1 by decide, show (16777215 : Int32).toInt = 16777215 by decide, Int32.toInt_zero]
  omega
/-- a color out of its channels -/
theorem okc_ch {c : Int32} (h : okc c) : nI 256 * (nI 256 * (nI 256 * nI 0 + cha c 0) + cha c 1) + cha c 2 = c := by
  obtain ⟨n, h1, rfl⟩ := h
  rw [cha_0 h1, cha_1 h1, cha_2 h1]
  simp only [nI_mul, nI_add]
  exact congrArg nI (by omega)
theorem stp_n {a b i n : Nat} (ha : a ≤ 255) (hb : b ≤ 255) (hi : i < n) (hn : n ≤ 16) : ∃ v, v ≤ 255 ∧ stp (nI a) (nI b) (nI i) (nI n) = nI v := by
  unfold stp
  by_cases h1 : n = 1
  · rw [if_pos (by rw [h1])]; exact ⟨a, ha, rfl⟩
  · rw [if_neg (by rw [nI_eq (by omega) (by omega)]; exact h1), nI_sub (show 1 ≤ n by omega)]
    by_cases hab : a ≤ b
    · have hm : (b - a) * i ≤ (b - a) * (n - 1) := Nat.mul_le_mul_left _ (by omega)
      have hm2 : (b - a) * i ≤ 255 * 16 := Nat.mul_le_mul (by omega) (by omega)
      have hd : (b - a) * i / (n - 1) ≤ b - a := Nat.div_le_of_le_mul (by rw [Nat.mul_comm (n - 1)]; exact hm)
      rw [nI_sub hab, nI_mul, nI_div (by omega) (by omega), nI_add]
      exact ⟨_, by omega, rfl⟩
    · have hm : (a - b) * i ≤ (a - b) * (n - 1) := Nat.mul_le_mul_left _ (by omega)
      have hm2 : (a - b) * i ≤ 255 * 16 := Nat.mul_le_mul (by omega) (by omega)
      have hd : (a - b) * i / (n - 1) ≤ a - b := Nat.div_le_of_le_mul (by rw [Nat.mul_comm (n - 1)]; exact hm)
      obtain ⟨Q, hQ⟩ : ∃ Q, Q = (a - b) * i / (n - 1) := ⟨_, rfl⟩
      rw [← hQ] at hd
      have e : nI b - nI a = -nI (a - b) := by rw [← nI_sub (show b ≤ a by omega), Int32.neg_sub]
      have e2 : -nI (a - b) * nI i / nI (n - 1) = -nI Q := by
        rw [Int32.neg_mul, nI_mul]
        apply Int32.toInt_inj.mp
        rw [(divm (a := -nI ((a - b) * i)) (m := n - 1) (by omega) (by omega)).1, Int32.toInt_neg, Int32.toInt_neg, nI_toInt (by omega), nI_toInt (by omega), Int.bmod_eq_of_le (by omega) (by omega), Int.bmod_eq_of_le (by omega) (by omega), Int.neg_tdiv, hQ]
        rfl
      rw [e, e2]
      refine ⟨a - Q, by omega, ?_⟩
      rw [← nI_sub (show Q ≤ a by omega), Int32.sub_eq_add_neg]
theorem grC_ok {fr to : Int32} {i n : Nat} (hi : i < n) (hn : n ≤ 16) : okc (grC fr to (nI i) (nI n) 3) := by
  have key : ∀ c, ∃ v, v ≤ 255 ∧ stp (cha fr c) (cha to c) (nI i) (nI n) = nI v := by
    intro c
    obtain ⟨a1, a2⟩ := chN_lt fr c
    obtain ⟨b1, b2⟩ := chN_lt to c
    rw [a2, b2]
    exact stp_n (by omega) (by omega) hi hn
  obtain ⟨x, x1, x2⟩ := key 0
  obtain ⟨y, y1, y2⟩ := key 1
  obtain ⟨z, z1, z2⟩ := key 2
  show okc (nI 256 * (nI 256 * (nI 256 * nI 0 + stp (cha fr 0) (cha to 0) (nI i) (nI n)) + stp (cha fr 1) (cha to 1) (nI i) (nI n)) + stp (cha fr 2) (cha to 2) (nI i) (nI n))
  rw [x2, y2, z2]
  exact (col3 x1 y1 z1).2
theorem grC_1 {fr to i : Int32} (h : okc fr) : grC fr to i (nI 1) 3 = fr := by
  show nI 256 * (nI 256 * (nI 256 * nI 0 + stp (cha fr 0) (cha to 0) i (nI 1)) + stp (cha fr 1) (cha to 1) i (nI 1)) + stp (cha fr 2) (cha to 2) i (nI 1) = fr
  unfold stp
  rw [if_pos rfl, if_pos rfl, if_pos rfl]
  exact okc_ch h
theorem grF_v (f : fT) (fr to vt : Int32) {k q : Nat} (hq : q < k) : grF f fr to vt k (2 + q) = grC fr to (grI f vt q) (nI (if vt = 0 then fW f else fH f)) 3 := by
  induction k with
  | zero => omega
  | succ k ih =>
    show upd _ _ _ _ = _
    by_cases h : q = k
    · subst h; rw [upd_self]
    · rw [upd_ne _ _ (by omega), ih (by omega)]
theorem nzK_ok (c am : Int32) (x : Int64) : okc (nzK c am x 3).2 := by
  have e : (nzK c am x 3).2 = nI 256 * (nI 256 * (nI 256 * nI 0 + lim (cha c 0 + nzB (nzN x) am)) + lim (cha c 1 + nzB (nzN (nzN x)) am)) + lim (cha c 2 + nzB (nzN (nzN (nzN x))) am) := rfl
  obtain ⟨p, p1, p2⟩ := lim_nI (cha c 0 + nzB (nzN x) am)
  obtain ⟨q, q1, q2⟩ := lim_nI (cha c 1 + nzB (nzN (nzN x)) am)
  obtain ⟨r, r1, r2⟩ := lim_nI (cha c 2 + nzB (nzN (nzN (nzN x))) am)
  rw [e, p2, q2, r2]
  exact (col3 p1 q1 r1).2
theorem nzA_v (f : fT) (am : Int32) (x : Int64) {p q : Nat} (hq : q < p) : (nzA f am x p).2 (2 + q) = -1 ∨ okc ((nzA f am x p).2 (2 + q)) := by
  induction p with
  | zero => omega
  | succ p ih =>
    rw [nzA_s]
    by_cases ho : f (2 + p) = -1
    · rw [if_pos ho]
      dsimp only
      by_cases h : q = p
      · subst h; rw [upd_self]; exact Or.inl rfl
      · rw [upd_ne _ _ (by omega)]; exact ih (by omega)
    · rw [if_neg ho]
      dsimp only
      by_cases h : q = p
      · subst h; rw [upd_self]; exact Or.inr (nzK_ok _ _ _)
      · rw [upd_ne _ _ (by omega)]; exact ih (by omega)
theorem ldF_0 (f rc rl : fT) : ldF f rc rl 0 = upd f 258 (nI 0) := by
  unfold ldF
  rw [ld_0]
  funext j; simp only [upd]; split <;> rfl
theorem ldF_n {f rc rl : fT} {k : Nat} (hk : k < 1000) : fN (ldF f rc rl k) = k := fN_of (upd_self _ _ _) (by omega)
theorem ldF_s {f rc rl : fT} {k : Nat} (hk : k < 16) : adF (ldF f rc rl k) (rc k) (rl k) = ldF f rc rl (k + 1) := by
  unfold adF
  rw [ldF_n (by omega)]
  unfold ldF
  rw [← ld_s _ _ _ _ hk]
  funext j
  by_cases h : j = 258
  · subst h; rw [upd_self, upd_self]
  · rw [upd_ne _ _ h, upd_ne _ _ h]
    by_cases h1 : j = 275 + k
    · subst h1; rw [upd_self, upd_self]
    · rw [upd_ne _ _ h1, upd_ne _ _ h1]
      by_cases h2 : j = 259 + k
      · subst h2; rw [upd_self, upd_self]
      · rw [upd_ne _ _ h2, upd_ne _ _ h2, upd_ne _ _ h]
theorem agS_e0 {a p c l i f : fT} (hf : wf0 f) (h : agS a p c l i f) : agS (upd a 3 (nI 0)) p c l i (upd f 258 (nI 0)) := by
  obtain ⟨h1, h2, h3, h4⟩ := h
  have hA := fA_le hf
  have e : ∀ j, j ≠ 258 → upd f 258 (nI 0) j = f j := fun j hj => upd_ne _ _ hj
  have w1 : fA (upd f 258 (nI 0)) = fA f := by unfold fA fW fH; rw [e 0 (by omega), e 1 (by omega)]
  have w2 : fN (upd f 258 (nI 0)) = 0 := fN_of (upd_self _ _ _) (by omega)
  refine ⟨⟨?_, ?_, ?_, ?_, ?_⟩, fun q hq => ?_, fun q hq => ?_, fun z q hq => ?_⟩
  · rw [upd_ne _ _ (by decide), e 0 (by omega)]; exact h1.1
  · rw [upd_ne _ _ (by decide), e 1 (by omega)]; exact h1.2.1
  · rw [upd_self, upd_self]
  · rw [upd_ne _ _ (by decide), e 291 (by omega)]; exact h1.2.2.2.1
  · rw [upd_ne _ _ (by decide), e 292 (by omega)]; exact h1.2.2.2.2
  · rw [w1] at hq; rw [e _ (by omega)]; exact h2 q hq
  · rw [w2] at hq; omega
  · rw [w1] at hq; rw [e 292 (by omega)] at z; rw [e _ (by omega)]; exact h4 z q hq
theorem wf_e0 {f : fT} (hf : wf f) (h0 : f 292 = 0) : wf (upd f 258 (nI 0)) := by
  obtain ⟨w0, h2, h3, h4, h5, h6⟩ := hf
  have hA := fA_le w0
  have e : ∀ j, j ≠ 258 → upd f 258 (nI 0) j = f j := fun j hj => upd_ne _ _ hj
  have w2 : fN (upd f 258 (nI 0)) = 0 := fN_of (upd_self _ _ _) (by omega)
  have v1 : fW (upd f 258 (nI 0)) = fW f := by unfold fW; rw [e 0 (by omega)]
  have v2 : fH (upd f 258 (nI 0)) = fH f := by unfold fH; rw [e 1 (by omega)]
  have w1 : fA (upd f 258 (nI 0)) = fA f := by unfold fA; rw [v1, v2]
  refine ⟨⟨?_, ?_, ?_⟩, fun q hq => ?_, fun q hq => ?_, ?_, ?_, fun z => ?_⟩
  · rw [v1, e 0 (by omega)]; exact w0.1
  · rw [v2, e 1 (by omega)]; exact w0.2.1
  · rw [w2]; exact ⟨upd_self _ _ _, by omega⟩
  · rw [w1] at hq; rw [e _ (by omega)]; exact h2 q hq
  · rw [w2] at hq; omega
  · rw [e _ (by omega)]; exact h4
  · rw [e _ (by omega)]; exact h5
  · rw [e _ (by omega), h0] at z; exact absurd z (by decide)
/-! two flat states of the same meaning -/
def EQ (f g : fT) : Prop := (f 0 = g 0 ∧ f 1 = g 1 ∧ f 258 = g 258 ∧ f 291 = g 291 ∧ f 292 = g 292) ∧ (∀ q, q < fA f → f (2 + q) = g (2 + q)) ∧ (∀ e, e < fN f → f (259 + e) = g (259 + e) ∧ f (275 + e) = g (275 + e)) ∧ f 292 = 0
theorem EQ_w {f g : fT} (h : EQ f g) : fA g = fA f ∧ fN g = fN f ∧ fW g = fW f ∧ fH g = fH f := by
  obtain ⟨⟨a, b, c, d, e⟩, -⟩ := h
  unfold fA fN fW fH
  rw [a, b, c]
  exact ⟨rfl, rfl, rfl, rfl⟩
theorem EQ_AG {M : am_M} {f g : fT} (h : EQ f g) (hg : AG M f) : AG M g := by
  obtain ⟨w1, w2, -, -⟩ := EQ_w h
  obtain ⟨⟨a, b, c, d, e⟩, h2, h3, h4⟩ := h
  obtain ⟨⟨a', b', c', d', e'⟩, g2, g3, g4⟩ := hg
  refine ⟨⟨a'.trans a, b'.trans b, c'.trans c, d'.trans d, e'.trans e⟩, fun q hq => ?_, fun q hq => ?_, fun z => ?_⟩
  · rw [w1] at hq; exact (g2 q hq).trans (h2 q hq)
  · rw [w2] at hq; exact ⟨(g3 q hq).1.trans (h3 q hq).1, (g3 q hq).2.trans (h3 q hq).2⟩
  · rw [← e, h4] at z; exact absurd z (by decide)
theorem EQ_wf {f g : fT} (h : EQ f g) (hf : wf f) : wf g := by
  obtain ⟨w1, w2, w3, w4⟩ := EQ_w h
  obtain ⟨⟨a, b, c, d, e⟩, h2, h3, h4⟩ := h
  obtain ⟨w0, f2, f3, f4, f5, f6⟩ := hf
  refine ⟨⟨?_, ?_, ?_⟩, fun q hq => ?_, fun q hq => ?_, ?_, ?_, fun z => ?_⟩
  · rw [w3, ← a]; exact w0.1
  · rw [w4, ← b]; exact w0.2.1
  · rw [w2, ← c]; exact w0.2.2
  · rw [w1] at hq; rw [← h2 q hq]; exact f2 q hq
  · rw [w2] at hq; rw [← (h3 q hq).1, ← (h3 q hq).2]; exact f3 q hq
  · rw [← d]; exact f4
  · rw [← e]; exact f5
  · rw [← e, h4] at z; exact absurd z (by decide)
theorem EQ_ad {f g : fT} (h : EQ f g) (hn : fN f < 16) (hA : fA f ≤ 256) (x y : Int32) : EQ (adF f x y) (adF g x y) := by
  obtain ⟨w1, w2, w3, w4⟩ := EQ_w h
  obtain ⟨⟨a, b, c, d, e⟩, h2, h3, h4⟩ := h
  have ne : ∀ (k : fT), fN k = fN f → ∀ j, j ≠ 258 → j ≠ 259 + fN f → j ≠ 275 + fN f → adF k x y j = k j := by
    intro k hk j j1 j2 j3
    unfold adF
    rw [hk, upd_ne _ _ j1, upd_ne _ _ j3, upd_ne _ _ j2]
  have e8f : adF f x y 258 = nI (fN f + 1) := adF_n x y
  have e8g : adF g x y 258 = nI (fN f + 1) := by rw [← w2]; exact adF_n x y
  have nF : fN (adF f x y) = fN f + 1 := fN_of e8f (by omega)
  have aF : fA (adF f x y) = fA f := by unfold fA fW fH; rw [ne f rfl 0 (by omega) (by omega) (by omega), ne f rfl 1 (by omega) (by omega) (by omega)]
  refine ⟨⟨?_, ?_, ?_, ?_, ?_⟩, fun q hq => ?_, fun q hq => ?_, ?_⟩
  · rw [ne f rfl 0 (by omega) (by omega) (by omega), ne g w2 0 (by omega) (by omega) (by omega)]; exact a
  · rw [ne f rfl 1 (by omega) (by omega) (by omega), ne g w2 1 (by omega) (by omega) (by omega)]; exact b
  · rw [e8f, e8g]
  · rw [ne f rfl 291 (by omega) (by omega) (by omega), ne g w2 291 (by omega) (by omega) (by omega)]; exact d
  · rw [ne f rfl 292 (by omega) (by omega) (by omega), ne g w2 292 (by omega) (by omega) (by omega)]; exact e
  · rw [aF] at hq; rw [ne f rfl _ (by omega) (by omega) (by omega), ne g w2 _ (by omega) (by omega) (by omega)]; exact h2 q hq
  · rw [nF] at hq
    by_cases z : q = fN f
    · subst z
      unfold adF
      rw [w2, upd_ne _ _ (by omega), upd_ne _ _ (by omega), upd_self, upd_ne _ _ (by omega), upd_ne _ _ (by omega), upd_self, upd_ne _ _ (by omega), upd_self, upd_ne _ _ (by omega), upd_self]
      exact ⟨rfl, rfl⟩
    · rw [ne f rfl _ (by omega) (by omega) (by omega), ne g w2 _ (by omega) (by omega) (by omega), ne f rfl _ (by omega) (by omega) (by omega), ne g w2 _ (by omega) (by omega) (by omega)]
      exact h3 q (by omega)
  · rw [ne f rfl 292 (by omega) (by omega) (by omega)]; exact h4
theorem EQ_adA {f g c : fT} (h : EQ f g) (hf : wf0 f) {k : Nat} (hk : fN f + k ≤ 16) : EQ (adA f c k) (adA g c k) ∧ fA (adA f c k) = fA f := by
  have hA := fA_le hf
  induction k with
  | zero => exact ⟨h, rfl⟩
  | succ k ih =>
    obtain ⟨i1, i2⟩ := ih (by omega)
    obtain ⟨w0, wn⟩ := adA_n (c := c) hf (k := k) (by omega)
    rw [adA_s, adA_s]
    refine ⟨EQ_ad i1 (by omega) (by omega) _ _, ?_⟩
    have e : ∀ j, j < 2 → adF (adA f c k) (c k) (nI 0) j = adA f c k j := fun j hj => by unfold adF; rw [upd_ne _ _ (by omega), upd_ne _ _ (by omega), upd_ne _ _ (by omega)]
    rw [← i2]
    unfold fA fW fH
    rw [e 0 (by omega), e 1 (by omega)]
theorem EQ_cnA {f g : fT} (h : EQ f g) : cnA f = cnA g := by
  obtain ⟨w1, -, -, -⟩ := EQ_w h
  funext c
  show cnC f c (fA f) = cnC g c (fA g)
  rw [w1]
  have : ∀ p, p ≤ fA f → cnC f c p = cnC g c p := by
    intro p
    induction p with
    | zero => intro _; rfl
    | succ p ih => intro hp; rw [cnC_s, cnC_s, ih (by omega), h.2.1 p (by omega)]
  exact this _ (Nat.le_refl _)
theorem EQ_col {f g : fT} (h : EQ f g) : colL f (exF f (nI 1)) (fA f) = colL g (exF g (nI 1)) (fA g) := by
  obtain ⟨w1, w2, -, -⟩ := EQ_w h
  have hx : exF f (nI 1) = exF g (nI 1) := by
    funext c
    unfold exF
    rw [w2]
    have : ∀ k, k ≤ fN f → lkc f c k = lkc g c k := by
      intro k
      induction k with
      | zero => intro _; rfl
      | succ k ih => intro hk; rw [lkc_s, lkc_s, ih (by omega), (h.2.2.1 k (by omega)).1, (h.2.2.1 k (by omega)).2]
    rw [this _ (Nat.le_refl _)]
  rw [w1, hx]
  have : ∀ p, p ≤ fA f → colL f (exF g (nI 1)) p = colL g (exF g (nI 1)) p := by
    intro p
    induction p with
    | zero => intro _; rfl
    | succ p ih =>
      intro hp
      show (if _ then _ else _) = (if _ then _ else _)
      rw [ih (by omega), h.2.1 p (by omega)]
  exact this _ (Nat.le_refl _)
theorem EQ_bld {f g : fT} (h : EQ f g) (r m : Nat) : bldR f r m = bldR g r m := by
  unfold bldR
  rw [EQ_cnA h, EQ_col h]
theorem KE_EQ {f g g' : fT} {T T' : List Int32} (hf : wf0 f) (h0 : f 292 = 0) (h : KE f (fN f) 0 g T) (h' : KE f (fN f) 0 g' T') : EQ g g' := by
  obtain ⟨a1, a2, a3, a4⟩ := KE_w hf h
  obtain ⟨b1, b2, b3, b4⟩ := KE_w hf h'
  obtain ⟨k1, ⟨k2, -⟩, -, k5, -⟩ := h
  obtain ⟨l1, ⟨l2, -⟩, -, l5, -⟩ := h'
  have hT : T = T' := a4.trans b4.symm
  subst hT
  have hA := fA_le a1
  refine ⟨⟨?_, ?_, ?_, ?_, ?_⟩, fun q hq => ?_, fun q hq => ?_, ?_⟩
  · rw [k1 0 (by omega), l1 0 (by omega)]
  · rw [k1 1 (by omega), l1 1 (by omega)]
  · rw [k2, l2]
  · rw [k1 291 (by omega), l1 291 (by omega)]
  · rw [k1 292 (by omega), l1 292 (by omega)]
  · rw [k1 _ (by omega), l1 _ (by omega)]
  · rw [a3] at hq
    have x := k5 q hq
    have y := l5 q hq
    rw [Nat.zero_add] at x y
    exact ⟨x.1.trans y.1.symm, x.2.trans y.2.symm⟩
  · rw [k1 292 (by omega)]; exact h0
theorem KE_ex {f : fT} (hf : wf0 f) : ∃ g, KE f (fN f) 0 g (lkL f (fN f)) := by
  have hN := hf.2.2.2
  have hl := lkL_le f (fN f)
  generalize hT : lkL f (fN f) = T at *
  refine ⟨fun j => if j = 258 then nI T.length else if 259 ≤ j ∧ j < 259 + T.length then T.getD (j - 259) 0 else if 275 ≤ j ∧ j < 275 + T.length then 1 else f j, fun j hj => ?_, ⟨?_, by omega⟩, fun j hj => absurd hj (Nat.not_lt_zero j), fun j hj => ?_, ?_⟩
  · dsimp only
    rw [if_neg (by omega), if_neg (by omega), if_neg (by omega)]
  · dsimp only
    rw [if_pos rfl, Nat.zero_add]
  · dsimp only
    rw [Nat.zero_add]
    rw [if_neg (by omega), if_pos (by omega), if_neg (by omega), if_neg (by omega), if_pos (by omega), Nat.add_sub_cancel_left]
    refine ⟨?_, rfl⟩
    rw [List.getD_eq_getElem?_getD, List.getElem?_eq_getElem hj]
    rfl
  · rw [hT]; exact (List.nil_append _).symm
