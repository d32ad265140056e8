/-! rectangles, noise, exchange -/
def rcJ (p : fT) (W x0 y0 w j i : Nat) (c : Int32) : fT := fun q => if (x0 ≤ q % W ∧ q % W < x0 + w ∧ y0 ≤ q / W ∧ q / W < y0 + j) ∨ (q / W = y0 + j ∧ x0 ≤ q % W ∧ q % W < x0 + i) then c else p q
theorem rcJ_0 (p : fT) (W x0 y0 w : Nat) (c : Int32) : rcJ p W x0 y0 w 0 0 c = p := by
  funext q; unfold rcJ; rw [if_neg (by omega)]
theorem dmW {W x y : Nat} (hx : x < W) : (y * W + x) / W = y ∧ (y * W + x) % W = x := by
  refine ⟨?_, ?_⟩
  · rw [Nat.mul_comm, Nat.mul_add_div (by omega), Nat.div_eq_of_lt hx, Nat.add_zero]
  · rw [Nat.mul_comm, Nat.mul_add_mod, Nat.mod_eq_of_lt hx]
theorem dmE {W q : Nat} : q = q / W * W + q % W := by
  have := Nat.div_add_mod q W
  rw [Nat.mul_comm] at this
  exact this.symm
theorem rcJ_s (p : fT) {W x0 y0 w j i : Nat} (c : Int32) (hi : x0 + i < W) : upd (rcJ p W x0 y0 w j i c) ((y0 + j) * W + (x0 + i)) c = rcJ p W x0 y0 w j (i + 1) c := by
  obtain ⟨d1, d2⟩ := dmW (y := y0 + j) hi
  funext q
  by_cases h : q = (y0 + j) * W + (x0 + i)
  · subst h
    rw [upd_self]
    unfold rcJ
    rw [d1, d2, if_pos (Or.inr ⟨rfl, by omega, by omega⟩)]
  · rw [upd_ne _ _ h]
    have hne : ¬ (q / W = y0 + j ∧ q % W = x0 + i) := by
      intro ⟨a, b⟩
      apply h
      have := dmE (W := W) (q := q)
      rw [a, b] at this
      exact this
    unfold rcJ
    by_cases h2 : (x0 ≤ q % W ∧ q % W < x0 + w ∧ y0 ≤ q / W ∧ q / W < y0 + j) ∨ (q / W = y0 + j ∧ x0 ≤ q % W ∧ q % W < x0 + i)
    · rw [if_pos h2, if_pos (by omega)]
    · rw [if_neg h2, if_neg (by omega)]
theorem rcJ_r (p : fT) (W x0 y0 w j : Nat) (c : Int32) : rcJ p W x0 y0 w j w c = rcJ p W x0 y0 w (j + 1) 0 c := by
  funext q
  unfold rcJ
  by_cases h2 : (x0 ≤ q % W ∧ q % W < x0 + w ∧ y0 ≤ q / W ∧ q / W < y0 + j) ∨ (q / W = y0 + j ∧ x0 ≤ q % W ∧ q % W < x0 + w)
  · rw [if_pos h2, if_pos (by omega)]
  · rw [if_neg h2, if_neg (by omega)]
abbrev rcF (p : fT) (W x0 y0 w h : Nat) (c : Int32) : fT := rcJ p W x0 y0 w h 0 c
theorem rcF_v (p : fT) (W x0 y0 w h : Nat) (c : Int32) (q : Nat) : rcF p W x0 y0 w h c q = if x0 ≤ q % W ∧ q % W < x0 + w ∧ y0 ≤ q / W ∧ q / W < y0 + h then c else p q := by
  show rcJ p W x0 y0 w h 0 c q = _
  unfold rcJ
  by_cases h2 : x0 ≤ q % W ∧ q % W < x0 + w ∧ y0 ≤ q / W ∧ q / W < y0 + h
  · rw [if_pos h2, if_pos (Or.inl h2)]
  · rw [if_neg h2, if_neg (by omega)]
/-- paint, place by place -/
theorem ptF_v {f : fT} (x y w : Nat) (c : Int32) (hw : 0 < w) (hx : x + w ≤ fW f) (k q : Nat) : ptF f x y w c k (2 + q) = if x ≤ q % fW f ∧ q % fW f < x + w ∧ y ≤ q / fW f ∧ (q / fW f - y) * w + (q % fW f - x) < k then c else f (2 + q) := by
  induction k with
  | zero => show f (2 + q) = _; rw [if_neg (by omega)]
  | succ k ih =>
    have hkw : k % w < w := Nat.mod_lt _ hw
    obtain ⟨d1, d2⟩ := dmW (W := fW f) (x := x + k % w) (y := y + k / w) (by omega)
    have ek : k = k / w * w + k % w := dmE
    show upd (ptF f x y w c k) (2 + ((y + k / w) * fW f + x + k % w)) c (2 + q) = _
    by_cases h : q = (y + k / w) * fW f + (x + k % w)
    · have h' : 2 + q = 2 + ((y + k / w) * fW f + x + k % w) := by rw [h]; omega
      rw [h', upd_self, h, d1, d2, if_pos]
      refine ⟨by omega, by omega, Nat.le_add_right _ _, ?_⟩
      rw [Nat.add_sub_cancel_left, Nat.add_sub_cancel_left]
      omega
    · rw [upd_ne _ _ (by omega), ih]
      by_cases h2 : x ≤ q % fW f ∧ q % fW f < x + w ∧ y ≤ q / fW f ∧ (q / fW f - y) * w + (q % fW f - x) < k
      · rw [if_pos h2, if_pos (by omega)]
      · rw [if_neg h2, if_neg]
        intro ⟨a1, a2, a3, a4⟩
        have he : (q / fW f - y) * w + (q % fW f - x) = k := by omega
        obtain ⟨g1, g2⟩ := dmW (W := w) (x := q % fW f - x) (y := q / fW f - y) (by omega)
        rw [he] at g1 g2
        apply h
        have e9 := dmE (W := fW f) (q := q)
        rw [g1, g2, show y + (q / fW f - y) = q / fW f by omega, show x + (q % fW f - x) = q % fW f by omega]
        exact e9
theorem ptF_all {f : fT} (x y w h : Nat) (c : Int32) (hw : 0 < w) (hx : x + w ≤ fW f) (q : Nat) : ptF f x y w c (w * h) (2 + q) = if x ≤ q % fW f ∧ q % fW f < x + w ∧ y ≤ q / fW f ∧ q / fW f < y + h then c else f (2 + q) := by
  rw [ptF_v x y w c hw hx]
  by_cases h1 : x ≤ q % fW f ∧ q % fW f < x + w ∧ y ≤ q / fW f
  · have key : (q / fW f - y) * w + (q % fW f - x) < w * h ↔ q / fW f < y + h := by
      constructor
      · intro a
        rcases Nat.lt_or_ge (q / fW f) (y + h) with b | b
        · exact b
        · exfalso
          have : h * w ≤ (q / fW f - y) * w := Nat.mul_le_mul_right _ (by omega)
          rw [Nat.mul_comm] at this
          omega
      · intro a
        have : (q / fW f - y + 1) * w ≤ h * w := Nat.mul_le_mul_right _ (by omega)
        rw [Nat.succ_mul, Nat.mul_comm h w] at this
        omega
    by_cases h2 : q / fW f < y + h
    · rw [if_pos ⟨h1.1, h1.2.1, h1.2.2, key.mpr h2⟩, if_pos ⟨h1.1, h1.2.1, h1.2.2, h2⟩]
    · rw [if_neg (fun z => h2 (key.mp z.2.2.2)), if_neg (fun z => h2 z.2.2.2)]
  · rw [if_neg (fun z => h1 ⟨z.1, z.2.1, z.2.2.1⟩), if_neg (fun z => h1 ⟨z.1, z.2.1, z.2.2.1⟩)]
theorem ptF_far {f : fT} {x y w h : Nat} (c : Int32) (hf : wf0 f) (hx : x + w ≤ fW f) (hy : y + h ≤ fH f) {k j : Nat} (hk : k ≤ w * h) (hj : j < 2 ∨ 258 ≤ j) : ptF f x y w c k j = f j := by
  induction k with
  | zero => rfl
  | succ k ih =>
    have := pt_in hf hx hy (show k < w * h by omega)
    have hA := fA_le hf
    show upd (ptF f x y w c k) _ c j = _
    rw [upd_ne _ _ (by omega), ih (by omega)]
/-- pixels replaced -/
theorem agS_px {a p c l i f g p' : fT} (hf : wf0 f) (h : agS a p c l i f) (hg : ∀ j, (j < 2 ∨ 258 ≤ j) → g j = f j) (hp : ∀ q, q < fA f → p' q = g (2 + q)) : agS a p' c l i g := by
  obtain ⟨h1, h2, h3, h4⟩ := h
  obtain ⟨v0, v1, v2, v3⟩ := wf0_of hf (hg 0 (by omega)) (hg 1 (by omega)) (hg 258 (by omega))
  have hA := fA_le hf
  have w1 : fA g = fA f := by unfold fA; rw [v1, v2]
  refine ⟨⟨?_, ?_, ?_, ?_, ?_⟩, fun q hq => ?_, fun q hq => ?_, fun z q hq => ?_⟩
  · rw [hg 0 (by omega)]; exact h1.1
  · rw [hg 1 (by omega)]; exact h1.2.1
  · rw [hg 258 (by omega)]; exact h1.2.2.1
  · rw [hg 291 (by omega)]; exact h1.2.2.2.1
  · rw [hg 292 (by omega)]; exact h1.2.2.2.2
  · rw [w1] at hq; exact hp q hq
  · rw [v3] at hq; rw [hg _ (by omega), hg _ (by omega)]; exact h3 q hq
  · rw [w1] at hq; rw [hg 292 (by omega)] at z; rw [hg _ (by omega)]; exact h4 z q hq
theorem wf_px {f g : fT} (hf : wf f) (h0 : f 292 = 0) (hg : ∀ j, (j < 2 ∨ 258 ≤ j) → g j = f j) (hp : ∀ q, q < fA f → g (2 + q) = -1 ∨ okc (g (2 + q))) : wf g := by
  obtain ⟨w0, h2, h3, h4, h5, h6⟩ := hf
  obtain ⟨v0, v1, v2, v3⟩ := wf0_of w0 (hg 0 (by omega)) (hg 1 (by omega)) (hg 258 (by omega))
  have w1 : fA g = fA f := by unfold fA; rw [v1, v2]
  refine ⟨v0, fun q hq => ?_, fun q hq => ?_, ?_, ?_, fun z => ?_⟩
  · rw [w1] at hq; exact hp q hq
  · rw [v3] at hq; rw [hg _ (by omega), hg _ (by omega)]; exact h3 q hq
  · rw [hg _ (by omega)]; exact h4
  · rw [hg _ (by omega)]; exact h5
  · rw [hg 292 (by omega), h0] at z; exact absurd z (by decide)
/-! noise -/
theorem nL_n {n : Nat} (h : n < 2 ^ 63) : (nL n).toBitVec.toNat = n := by
  show (Int64.ofNat n).toBitVec.toNat = n
  rw [Int64.toBitVec_ofNat', BitVec.toNat_ofNat]
  omega
theorem nL_and {n : Nat} (h : n < 2 ^ 63) : nL n &&& 2147483647 = nL (n % 2147483648) := by
  apply Int64.toBitVec_inj.mp
  apply BitVec.eq_of_toNat_eq
  show ((nL n).toBitVec &&& (nL 2147483647).toBitVec).toNat = (nL (n % 2147483648)).toBitVec.toNat
  rw [BitVec.toNat_and, nL_n h, nL_n (by omega), nL_n (by omega)]
  exact Nat.and_two_pow_sub_one_eq_mod n 31
theorem nL_div {a b : Nat} (ha : a < 2 ^ 63) (hb : b < 2 ^ 63) : nL a / nL b = nL (a / b) := by
  apply Int64.toInt_inj.mp
  have hq : a / b < 2 ^ 63 := Nat.lt_of_le_of_lt (Nat.div_le_self a b) ha
  rw [Int64.toInt_div, nL_toInt ha, nL_toInt hb, nL_toInt hq]
  have e : (Int.tdiv (a : Int) (b : Int)) = ((a / b : Nat) : Int) := by
    rw [Int.ofNat_tdiv]
  rw [e]
  generalize a / b = q at hq ⊢
  exact Int.bmod_eq_of_le (by omega) (by omega)
theorem nL_sub {a b : Nat} (h : b ≤ a) : nL a - nL b = nL (a - b) := by
  have e : nL (a - b) + nL b = nL a := by rw [nL_add, Nat.sub_add_cancel h]
  rw [← e]
  simp
theorem nL_mod {a b : Nat} (ha : a < 2 ^ 63) (hb : b < 2 ^ 63) : nL a - nL a / nL b * nL b = nL (a % b) := by
  rw [nL_div ha hb, nL_mul, nL_sub (Nat.div_mul_le_self a b)]
  congr 1
  have := Nat.div_add_mod a b
  rw [Nat.mul_comm] at this
  omega
theorem nL_l2i {a : Nat} (ha : a < 2 ^ 31) : (nL a).toInt32 = nI a := by
  apply Int32.toInt_inj.mp
  rw [Int64.toInt_toInt32, nL_toInt (by omega), nI_toInt ha]
  exact Int.bmod_eq_of_le (by omega) (by omega)
def nzs (s : Nat) : Nat := (1103515245 * s + 12345) % 2147483648
theorem nzs_lt (s : Nat) : nzs s < 2147483648 := Nat.mod_lt _ (by decide)
theorem nzN_n {s : Nat} (hs : s < 2147483648) : nzN (nL s) = nL (nzs s) := by
  show (nL 1103515245 * nL s + nL 12345) - (nL 1103515245 * nL s + nL 12345) / nL 2147483648 * nL 2147483648 = _
  rw [nL_mul, nL_add, nL_mod (by omega) (by omega)]
  rfl
theorem nzC_n {s : Nat} (hs : s < 2147483648) : (1103515245 * nL s + 12345) &&& 2147483647 = nL (nzs s) := by
  show (nL 1103515245 * nL s + nL 12345) &&& 2147483647 = _
  rw [nL_mul, nL_add, nL_and (by omega)]
  rfl
theorem nzB_n {s a : Nat} (hs : s < 2147483648) (ha : a ≤ 64) : nzB (nL s) (nI a) = nI (s / 65536 % (2 * a + 1)) - nI a := by
  have e : nzS (nI a) = nL (2 * a + 1) := by
    unfold nzS
    rw [nI_i2l (by omega)]
    show nL 2 * nL a + nL 1 = _
    rw [nL_mul, nL_add]
  unfold nzB
  rw [e]
  show (nL s / nL 65536 - nL s / nL 65536 / nL (2 * a + 1) * nL (2 * a + 1)).toInt32 - nI a = _
  rw [nL_div (by omega) (by omega), nL_mod (by omega) (by omega), nL_l2i]
  have := Nat.mod_le (s / 65536) (2 * a + 1)
  omega
theorem nzK_s (c am : Int32) (x : Int64) (k : Nat) : nzK c am x (k + 1) = (nzN (nzK c am x k).1, nI 256 * (nzK c am x k).2 + lim (cha c k + nzB (nzN (nzK c am x k).1) am)) := rfl
def nzt (s : Nat) : Nat → Nat
  | 0 => s
  | k + 1 => nzs (nzt s k)
theorem nzt_lt {s : Nat} (hs : s < 2147483648) (k : Nat) : nzt s k < 2147483648 := by
  induction k with
  | zero => exact hs
  | succ k ih => exact nzs_lt _
theorem nzK_1 {s : Nat} (hs : s < 2147483648) (c am : Int32) (k : Nat) : (nzK c am (nL s) k).1 = nL (nzt s k) := by
  induction k with
  | zero => rfl
  | succ k ih => rw [nzK_s]; show nzN (nzK c am (nL s) k).1 = _; rw [ih, nzN_n (nzt_lt hs k)]; rfl
theorem nzA_s (f : fT) (am : Int32) (x : Int64) (p : Nat) : nzA f am x (p + 1) = if f (2 + p) = -1 then ((nzA f am x p).1, upd (nzA f am x p).2 (2 + p) (-1)) else ((nzK (f (2 + p)) am (nzA f am x p).1 3).1, upd (nzA f am x p).2 (2 + p) (nzK (f (2 + p)) am (nzA f am x p).1 3).2) := rfl
/-- exchange -/
theorem swN {a b : Nat} (ha : a < 16) (hb : b < 16) (was : Int32) (k : Nat) (hk : k ≤ 16) : newI (swO a b) was k = if was = nI b ∧ a < k then nI a else if was = nI a ∧ b < k then nI b else was := by
  induction k with
  | zero => rw [if_neg (by omega), if_neg (by omega)]; rfl
  | succ k ih =>
    rw [newI_s, ih (by omega)]
    unfold swO
    have eab : ∀ x y : Nat, x < 16 → y < 16 → (nI x = nI y ↔ x = y) := fun x y hx hy => nI_eq (by omega) (by omega)
    by_cases h1 : k = a
    · subst h1
      rw [if_pos rfl]
      by_cases h2 : was = nI b
      · rw [if_pos h2.symm, if_pos ⟨h2, by omega⟩]
      · rw [if_neg (fun q => h2 q.symm), if_neg (show ¬ (was = nI b ∧ k < k) from fun q => h2 q.1), if_neg (show ¬ (was = nI b ∧ k < k + 1) from fun q => h2 q.1)]
        by_cases h3 : was = nI k ∧ b < k
        · rw [if_pos h3, if_pos ⟨h3.1, by omega⟩]
        · rw [if_neg h3]
          by_cases h4 : was = nI k ∧ b < k + 1
          · have : b = k := by have := h4.2; have h5 : ¬ b < k := fun q => h3 ⟨h4.1, q⟩; omega
            exact absurd (by rw [this]; exact h4.1) h2
          · rw [if_neg h4]
    · rw [if_neg h1]
      by_cases h2 : k = b
      · subst h2
        rw [if_pos rfl]
        by_cases h3 : was = nI a
        · rw [if_pos h3.symm]
          have h4 : ¬ was = nI k := by rw [h3, eab a k ha hb]; omega
          rw [if_neg (fun q => h4 q.1), if_pos ⟨h3, by omega⟩]
        · rw [if_neg (fun q => h3 q.symm)]
          by_cases h4 : was = nI k ∧ a < k
          · rw [if_pos h4, if_pos ⟨h4.1, by omega⟩]
          · rw [if_neg h4, if_neg (fun q => h3 q.1)]
            by_cases h5 : was = nI k ∧ a < k + 1
            · exfalso; apply h4; exact ⟨h5.1, by have := h5.2; omega⟩
            · rw [if_neg h5, if_neg (fun q => h3 q.1)]
      · rw [if_neg h2]
        by_cases h3 : nI k = was
        · rw [if_pos h3]
          have n1 : ¬ was = nI b := by rw [← h3, eab k b (by omega) hb]; exact h2
          have n2 : ¬ was = nI a := by rw [← h3, eab k a (by omega) ha]; exact h1
          rw [if_neg (fun q => n1 q.1), if_neg (fun q => n2 q.1), h3]
        · rw [if_neg h3]
          by_cases h4 : was = nI b ∧ a < k
          · rw [if_pos h4, if_pos ⟨h4.1, by omega⟩]
          · rw [if_neg h4]
            by_cases h5 : was = nI b ∧ a < k + 1
            · exfalso; apply h4; exact ⟨h5.1, by have := h5.2; omega⟩
            · rw [if_neg h5]
              by_cases h6 : was = nI a ∧ b < k
              · rw [if_pos h6, if_pos ⟨h6.1, by omega⟩]
              · rw [if_neg h6]
                by_cases h7 : was = nI a ∧ b < k + 1
                · exfalso; apply h6; exact ⟨h7.1, by have := h7.2; omega⟩
                · rw [if_neg h7]
def swX (a b : Nat) (x : Int32) : Int32 := if x = nI a then nI b else if x = nI b then nI a else x
theorem swN_x {a b n : Nat} (ha : a < n) (hb : b < n) (hn : n ≤ 16) (was : Int32) : newI (swO a b) was n = swX a b was := by
  rw [swN (by omega) (by omega) was n hn]
  unfold swX
  by_cases h1 : was = nI a
  · by_cases h2 : was = nI b
    · rw [if_pos ⟨h2, ha⟩, if_pos h1, ← h2, ← h1]
    · rw [if_neg (fun q => h2 q.1), if_pos ⟨h1, hb⟩, if_pos h1]
  · rw [if_neg h1]
    by_cases h2 : was = nI b
    · rw [if_pos ⟨h2, ha⟩, if_pos h2]
    · rw [if_neg (fun q => h2 q.1), if_neg (fun q => h1 q.1), if_neg h2]
theorem raF_v {f : fT} {og : Nat → Nat} (hf : wf0 f) : (∀ j, (j < 259 ∨ (291 ≤ j ∧ j < 293)) → raF f og j = f j) ∧ (∀ e, e < fN f → raF f og (259 + e) = f (259 + og e) ∧ raF f og (275 + e) = f (275 + og e)) ∧ (f 292 = 1 → ∀ p, p < fA f → raF f og (293 + p) = newI og (f (293 + p)) (fN f)) := by
  have hN := hf.2.2.2
  refine ⟨fun j hj => ?_, fun e he => ?_, fun h1 p hp => ?_⟩
  · unfold raF
    rw [raI_out _ _ _ (by omega), raC_n _ _ (by omega) hN]
  · unfold raF
    rw [raI_out _ _ _ (by omega), raI_out _ _ _ (by omega)]
    unfold raC
    rw [if_pos (by omega), if_neg (by omega), if_pos (by omega), Nat.add_sub_cancel_left, Nat.add_sub_cancel_left]
    exact ⟨rfl, rfl⟩
  · unfold raF
    rw [if_pos h1]
    unfold raI
    rw [st_in _ _ hp, raC_n _ _ (by omega) hN]
theorem agS_ra {a p c l i f c' l' i' : fT} {og : Nat → Nat} (hf : wf0 f) (h : agS a p c l i f) (hc : ∀ e, e < fN f → c' e = f (259 + og e) ∧ l' e = f (275 + og e)) (hi : f 292 = 1 → ∀ q, q < fA f → i' q = newI og (f (293 + q)) (fN f)) : agS a p c' l' i' (raF f og) := by
  obtain ⟨h1, h2, h3, h4⟩ := h
  obtain ⟨v1, v2, v3⟩ := raF_v (og := og) hf
  have hA := fA_le hf
  have hN := hf.2.2.2
  obtain ⟨-, w1, w2, w3⟩ := wf0_of hf (v1 0 (by omega)) (v1 1 (by omega)) (v1 258 (by omega))
  have w4 : fA (raF f og) = fA f := by unfold fA; rw [w1, w2]
  refine ⟨⟨?_, ?_, ?_, ?_, ?_⟩, fun q hq => ?_, fun q hq => ?_, fun z q hq => ?_⟩
  · rw [v1 0 (by omega)]; exact h1.1
  · rw [v1 1 (by omega)]; exact h1.2.1
  · rw [v1 258 (by omega)]; exact h1.2.2.1
  · rw [v1 291 (by omega)]; exact h1.2.2.2.1
  · rw [v1 292 (by omega)]; exact h1.2.2.2.2
  · rw [w4] at hq; rw [v1 _ (by omega)]; exact h2 q hq
  · rw [w3] at hq; rw [(v2 q hq).1, (v2 q hq).2]; exact hc q hq
  · rw [w4] at hq; rw [v1 292 (by omega)] at z; rw [v3 z q hq]; exact hi z q hq
theorem agS_sw {a p c l i f i' : fT} {x y : Nat} (hf : wf f) (h : agS a p c l i f) (hx : x < fN f) (hy : y < fN f) (hi : ∀ q, q < fA f → i' q = swX x y (i q)) : agS a p (upd (upd c x (c y)) y (c x)) (upd (upd l x (vp_nar .boolean (l y))) y (vp_nar .boolean (l x))) i' (raF f (swO x y)) := by
  refine agS_ra hf.1 h (fun e he => ?_) (fun z q hq => ?_)
  · obtain ⟨x1, x2⟩ := h.2.2.1 x hx
    obtain ⟨y1, y2⟩ := h.2.2.1 y hy
    obtain ⟨e1, e2⟩ := h.2.2.1 e he
    unfold swO
    by_cases h2 : e = y
    · subst h2
      rw [upd_self, upd_self]
      by_cases h3 : e = x
      · subst h3; rw [if_pos rfl]; exact ⟨x1, by rw [x2]; exact nar01 (hf.2.2.1 e he).2⟩
      · rw [if_neg h3, if_pos rfl]; exact ⟨x1, by rw [x2]; exact nar01 (hf.2.2.1 x hx).2⟩
    · rw [upd_ne _ _ h2, upd_ne _ _ h2]
      by_cases h3 : e = x
      · subst h3; rw [if_pos rfl, upd_self, upd_self]; exact ⟨y1, by rw [y2]; exact nar01 (hf.2.2.1 y hy).2⟩
      · rw [if_neg h3, if_neg h2, upd_ne _ _ h3, upd_ne _ _ h3]; exact ⟨e1, e2⟩
  · rw [swN_x hx hy hf.1.2.2.2, hi q hq, h.2.2.2 z q hq]
theorem wf_ra {f : fT} {og : Nat → Nat} (hf : wf f) (ho : ∀ e, e < fN f → og e < fN f) (hs : ∀ e, e < fN f → ∃ e', e' < fN f ∧ newI og (nI e) (fN f) = nI e') (ht : newI og (nI (fN f)) (fN f) = nI (fN f)) : wf (raF f og) := by
  obtain ⟨w0, h2, h3, h4, h5, h6⟩ := hf
  obtain ⟨v1, v2, v3⟩ := raF_v (og := og) w0
  have hA := fA_le w0
  have hN := w0.2.2.2
  obtain ⟨w, w1, w2, w3⟩ := wf0_of w0 (v1 0 (by omega)) (v1 1 (by omega)) (v1 258 (by omega))
  have w4 : fA (raF f og) = fA f := by unfold fA; rw [w1, w2]
  refine ⟨w, fun q hq => ?_, fun q hq => ?_, ?_, ?_, fun z q hq => ?_⟩
  · rw [w4] at hq; rw [v1 _ (by omega)]; exact h2 q hq
  · rw [w3] at hq; rw [(v2 q hq).1, (v2 q hq).2]; exact h3 _ (ho q hq)
  · rw [v1 _ (by omega)]; exact h4
  · rw [v1 _ (by omega)]; exact h5
  · rw [w4] at hq; rw [v1 292 (by omega)] at z
    rw [v1 _ (by omega), v3 z q hq, w3]
    obtain ⟨a1, a2⟩ := h6 z q hq
    refine ⟨fun t => by rw [a1 t]; exact ht, fun t => ?_⟩
    obtain ⟨e, e1, e2⟩ := a2 t
    rw [e2]; exact hs e e1
