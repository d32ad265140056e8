/-! the class: reports -/
theorem nI_dcr (k : Nat) : nI (k + 1) + Int32.ofInt (-1) = nI k := by
  show Int32.ofNat (k + 1) + Int32.ofInt (-1) = Int32.ofNat k
  rw [← Int32.ofInt_eq_ofNat, ← Int32.ofInt_eq_ofNat, ← Int32.ofInt_add]
  congr 1
  omega
def wvI (f : fT) (k : Nat) : Int32 := match wst f k with
  | none => -1
  | some b => nI (16 * (b / fW f) + b % fW f)
def wvE (f : fT) (k : Nat) : Int32 := match wst f k with
  | none => -1
  | some b => err f b
theorem err_gt (f : fT) (p : Nat) : ¬ err f p ≤ -1 := by
  obtain ⟨n, h1, h2⟩ := dst_nI (f 291) (f (2 + p)) (f (259 + ixN f p))
  unfold err
  rw [h2, Int32.le_iff_toInt_le, nI_toInt (by omega), show (-1 : Int32).toInt = -1 by decide]
  omega
theorem wv_skip {f : fT} {k : Nat} (ho : f (2 + k) = -1) : wvI f (k + 1) = wvI f k ∧ wvE f (k + 1) = wvE f k := by
  unfold wvI wvE
  rw [wst_s, if_pos ho]
  exact ⟨rfl, rfl⟩
theorem wv_no {f : fT} {k : Nat} (ho : ¬ f (2 + k) = -1) (h : err f k ≤ wvE f k) : wvI f (k + 1) = wvI f k ∧ wvE f (k + 1) = wvE f k := by
  unfold wvI wvE at *
  rw [wst_s, if_neg ho]
  cases hb : wst f k with
  | none => rw [hb] at h; exact absurd h (err_gt f k)
  | some b =>
    rw [hb] at h
    dsimp only at h ⊢
    rw [if_neg (Int32.not_lt.mpr h)]
    exact ⟨rfl, rfl⟩
theorem wv_yes {f : fT} {k : Nat} (ho : ¬ f (2 + k) = -1) (h : ¬ err f k ≤ wvE f k) : wvI f (k + 1) = nI (16 * (k / fW f) + k % fW f) ∧ wvE f (k + 1) = err f k := by
  unfold wvI wvE at *
  rw [wst_s, if_neg ho]
  cases hb : wst f k with
  | none => exact ⟨rfl, rfl⟩
  | some b =>
    rw [hb] at h
    dsimp only at h ⊢
    rw [if_pos (Int32.not_le.mp h)]
    exact ⟨rfl, rfl⟩
theorem pk_x (f : fT) (m : Nat) : m * 8 / pkB f = m * (8 / pkB f) := by
  rcases pkB_c f with h | h | h | h <;> rw [h] <;> omega
