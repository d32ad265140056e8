theorem rng {x : Int32} {a b : Nat} (h : nI a ≤ x ∧ x ≤ nI b) (hb : b < 2 ^ 31) (ha : a < 2 ^ 31 := by omega) : ∃ n, a ≤ n ∧ n ≤ b ∧ x = nI n := by
  obtain ⟨h1, h2⟩ := h
  rw [Int32.le_iff_toInt_le, nI_toInt ha] at h1
  rw [Int32.le_iff_toInt_le, nI_toInt hb] at h2
  refine ⟨x.toInt.toNat, by omega, by omega, ?_⟩
  apply Int32.toInt_inj.mp
  rw [nI_toInt (by omega)]
  omega
theorem rngI {n a b : Nat} (h1 : a ≤ n) (h2 : n ≤ b) (hb : b < 2 ^ 31) : nI a ≤ nI n ∧ nI n ≤ nI b := ⟨nI_le h1 (by omega), nI_le h2 hb⟩
def udF (past f : fT) (w k : Nat) : fT := fun j => if j < k then past (549 * w + j) else f j
theorem ud_s (past f : fT) (w k : Nat) : upd (udF past f w k) k (past (549 * w + k)) = udF past f w (k + 1) := by
  funext j
  unfold udF
  by_cases h : j = k
  · subst h; rw [upd_self, if_pos (by omega)]
  · rw [upd_ne _ _ h]
    by_cases h2 : j < k
    · rw [if_pos h2, if_pos (by omega)]
    · rw [if_neg h2, if_neg (by omega)]
/-- a stretch of a row set: places a to a + k - 1 by g -/
def stF (f : fT) (a k : Nat) (g : Nat → Int32) : fT := fun j => if a ≤ j ∧ j < a + k then g (j - a) else f j
theorem st_0 (f : fT) (a : Nat) (g : Nat → Int32) : stF f a 0 g = f := by
  funext j; unfold stF; rw [if_neg (by omega)]
theorem st_s (f : fT) (a k : Nat) (g : Nat → Int32) : upd (stF f a k g) (a + k) (g k) = stF f a (k + 1) g := by
  funext j
  unfold stF
  by_cases h : j = a + k
  · subst h; rw [upd_self, if_pos (by omega), Nat.add_sub_cancel_left]
  · rw [upd_ne _ _ h]
    by_cases h2 : a ≤ j ∧ j < a + k
    · rw [if_pos h2, if_pos (by omega)]
    · rw [if_neg h2, if_neg (by omega)]
theorem st_out (f : fT) {a k j : Nat} (g : Nat → Int32) (h : j < a ∨ a + k ≤ j) : stF f a k g j = f j := by
  unfold stF; rw [if_neg (by omega)]
theorem st_in (f : fT) {a k p : Nat} (g : Nat → Int32) (h : p < k) : stF f a k g (a + p) = g p := by
  unfold stF; rw [if_pos (by omega), Nat.add_sub_cancel_left]
theorem am_u2 {M : am_M} {k : Nat} {f g : fT} (h : f = g) : ((am_u M.1 k f, M.2) : am_M) = (am_u M.1 k g, M.2) := by rw [h]
/-- one row replaced -/
def rw34 (M : am_M) (f : fT) : am_M := (am_u M.1 34 f, M.2)
theorem rw34_34 (M : am_M) (f : fT) : (rw34 M f).1 34 = f := by simp [rw34, am_u]
theorem rw34_ne (M : am_M) (f : fT) {k : Nat} (h : k ≠ 34) : (rw34 M f).1 k = M.1 k := am_u_ne _ _ h
theorem rw34_rw (M : am_M) (f g : fT) : rw34 (rw34 M f) g = rw34 M g := by unfold rw34; simp only [am_u_u]
theorem rw34_eta (M : am_M) : rw34 M (M.1 34) = M := by unfold rw34; rw [am_u_eta]
theorem rw34_upd (M : am_M) (f : fT) (j : Nat) (x : Int32) : ((am_u (rw34 M f).1 34 (upd ((rw34 M f).1 34) j x), (rw34 M f).2) : am_M) = rw34 M (upd f j x) := by unfold rw34; simp only [am_u_u, am_u_self]
theorem kp34 (M : am_M) (u : Nat) (b : Int32) : (kpM M u b).1 34 = kpF (M.1 34) b := by simp [kpM, am_u]
theorem kpF_ne (f : fT) (b : Int32) {j : Nat} (h : j ≠ 292) : kpF f b j = f j := upd_ne _ _ h
/-- the state behind image -/
def imF (f : fT) (a b : Nat) : fT := stF (upd (upd f 0 (nI a)) 1 (nI b)) 2 256 (fun _ => 0)
theorem pl_lt {f : fT} {x y : Nat} (hf : wf0 f) (hx : x < fW f) (hy : y < fH f) : y * fW f + x < fA f := by
  unfold fA
  calc y * fW f + x < y * fW f + fW f := by omega
    _ = (y + 1) * fW f := by rw [Nat.succ_mul]
    _ ≤ fH f * fW f := Nat.mul_le_mul_right _ hy
    _ = fW f * fH f := Nat.mul_comm _ _
theorem inP_of {f : fT} {x y : Nat} (hf : wf0 f) (hx : x < fW f) (hy : y < fH f) : inP f (nI x) (nI y) := by
  obtain ⟨⟨a1, a2, a3⟩, ⟨b1, b2, b3⟩, -⟩ := hf
  unfold inP
  rw [a1, b1, show (1 : Int32) = nI 1 from rfl, nI_sub a2, nI_sub b2, show (0 : Int32) = nI 0 from rfl]
  exact ⟨⟨nI_le (by omega) (by omega), nI_le (by omega) (by omega)⟩, nI_le (by omega) (by omega), nI_le (by omega) (by omega)⟩
theorem of_inP {f : fT} {x y : Int32} (hf : wf0 f) (h : inP f x y) : ∃ a b : Nat, a < fW f ∧ b < fH f ∧ x = nI a ∧ y = nI b := by
  obtain ⟨⟨a1, a2, a3⟩, ⟨b1, b2, b3⟩, -⟩ := hf
  unfold inP at h
  rw [a1, b1, show (1 : Int32) = nI 1 from rfl, nI_sub a2, nI_sub b2, show (0 : Int32) = nI 0 from rfl] at h
  obtain ⟨n, -, h2, h3⟩ := rng h.1 (by omega)
  obtain ⟨n', -, h4, h5⟩ := rng h.2 (by omega)
  exact ⟨n, n', by omega, by omega, h3, h5⟩
