/-! the best addition, the packed indices -/
def bda (f h : fT) : Nat → Int32 × Int32
  | 0 => (-1, nI 0)
  | k + 1 => if (bda f h k).1 = -1 ∨ (bda f h k).2 < gsum f (h k) (fA f) ∨ (gsum f (h k) (fA f) = (bda f h k).2 ∧ h k < (bda f h k).1) then (h k, gsum f (h k) (fA f)) else bda f h k
theorem bda_s (f h : fT) (k : Nat) : bda f h (k + 1) = if (bda f h k).1 = -1 ∨ (bda f h k).2 < gsum f (h k) (fA f) ∨ (gsum f (h k) (fA f) = (bda f h k).2 ∧ h k < (bda f h k).1) then (h k, gsum f (h k) (fA f)) else bda f h k := rfl
/-- the greatest index among the first k -/
def mxI (f : fT) : Nat → Int32
  | 0 => nI 0
  | k + 1 => if mxI f k < f (293 + k) then f (293 + k) else mxI f k
theorem mxI_s (f : fT) (k : Nat) : mxI f (k + 1) = if mxI f k < f (293 + k) then f (293 + k) else mxI f k := rfl
def pkB (f : fT) : Nat := if mxI f (fA f) < nI 2 then 1 else if mxI f (fA f) < nI 4 then 2 else if mxI f (fA f) < nI 16 then 4 else 8
theorem pkB_c (f : fT) : pkB f = 1 ∨ pkB f = 2 ∨ pkB f = 4 ∨ pkB f = 8 := by
  unfold pkB
  split
  · exact Or.inl rfl
  · split
    · exact Or.inr (Or.inl rfl)
    · split
      · exact Or.inr (Or.inr (Or.inl rfl))
      · exact Or.inr (Or.inr (Or.inr rfl))
def pkR (f : fT) : Nat := (fW f * pkB f + 7) / 8
theorem pkR_le {f : fT} (hf : wf0 f) : 1 ≤ pkR f ∧ pkR f ≤ 16 := by
  obtain ⟨⟨-, a2, a3⟩, -, -⟩ := hf
  unfold pkR
  rcases pkB_c f with h | h | h | h <;> rw [h] <;> omega
/-- a packed byte, from its first i indices -/
def pkV (f : fT) (k : Nat) : Nat → Int32
  | 0 => nI 0
  | i + 1 => (pkV f k i <<< (nI (pkB f) &&& 31)) + (if k % pkR f * (8 / pkB f) + i < fW f then f (293 + (k / pkR f * fW f + (k % pkR f * (8 / pkB f) + i))) else nI 0)
theorem pkV_s (f : fT) (k i : Nat) : pkV f k (i + 1) = (pkV f k i <<< (nI (pkB f) &&& 31)) + (if k % pkR f * (8 / pkB f) + i < fW f then f (293 + (k / pkR f * fW f + (k % pkR f * (8 / pkB f) + i))) else nI 0) := rfl
theorem pk_pl {f : fT} (hf : wf0 f) {k x : Nat} (hk : k < pkR f * fH f) (hx : x < fW f) : k / pkR f * fW f + x < fA f := by
  have h1 := pkR_le hf
  refine pl_lt hf hx ?_
  exact (Nat.div_lt_iff_lt_mul (by omega)).mpr (by rw [Nat.mul_comm]; exact hk)
