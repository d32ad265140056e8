/-! texts: the digits, an entry -/
/-- the letter at a place, 32 behind the end -/
def ltr (t : fT) (n i : Nat) : Int32 := if i < n then t i else nI 32
def dgt (c : Int32) : Int32 := if nI 48 ≤ c ∧ c ≤ nI 57 then c - nI 48 else if nI 97 ≤ c ∧ c ≤ nI 102 then c - nI 97 + nI 10 else if nI 65 ≤ c ∧ c ≤ nI 70 then c - nI 65 + nI 10 else -1
def dgA (t : fT) (n i : Nat) : Int32 := dgt (ltr t n i)
/-- how many digits stand from a place on, at most k -/
def dgN (t : fT) (n a : Nat) : Nat → Nat
  | 0 => 0
  | k + 1 => if dgN t n a k = k ∧ 0 ≤ dgA t n (a + k) then k + 1 else dgN t n a k
def dgV (t : fT) (n a : Nat) : Nat → Int32
  | 0 => nI 0
  | k + 1 => nI 16 * dgV t n a k + dgA t n (a + k)
theorem dgN_s (t : fT) (n a k : Nat) : dgN t n a (k + 1) = if dgN t n a k = k ∧ 0 ≤ dgA t n (a + k) then k + 1 else dgN t n a k := rfl
theorem dgN_le (t : fT) (n a k : Nat) : dgN t n a k ≤ k := by
  induction k with
  | zero => exact Nat.le_refl 0
  | succ k ih => unfold dgN; split <;> omega
theorem dgN_full {t : fT} {n a k : Nat} (h : dgN t n a k < k) : ∀ j, dgN t n a (k + j) = dgN t n a k := by
  intro j
  induction j with
  | zero => rfl
  | succ j ih =>
    show dgN t n a (k + j + 1) = _
    rw [dgN_s, if_neg (by rw [ih]; omega), ih]
/-- a text's end: digits stop there -/
theorem dgA_end {t : fT} {n i : Nat} (h : n ≤ i) : dgA t n i = -1 := by
  unfold dgA ltr
  rw [if_neg (by omega)]
  decide
def thr (v : Int32) : Int32 := nI 65536 * (nI 17 * ((v >>> (nI 8 &&& 31)) &&& nI 15)) + nI 256 * (nI 17 * ((v >>> (nI 4 &&& 31)) &&& nI 15)) + nI 17 * (v &&& nI 15)
/-- the color read, by the number of digits -/
def rdC (t : fT) (n a : Nat) : Int32 := if dgN t n a 6 = 6 then dgV t n a 6 else if dgN t n a 6 = 3 then thr (dgV t n a 3) else -1
theorem dgt_ge (c : Int32) : dgt c = -1 ∨ (0 ≤ dgt c ∧ dgt c ≤ nI 15) := by
  unfold dgt
  split
  · next h =>
    obtain ⟨n, h1, h2, rfl⟩ := rng h (by decide)
    right
    rw [nI_sub h1, show (0 : Int32) = nI 0 from rfl]
    exact rngI (by omega) (by omega) (by decide)
  · split
    · next h =>
      obtain ⟨n, h1, h2, rfl⟩ := rng h (by decide)
      right
      rw [nI_sub h1, nI_add, show (0 : Int32) = nI 0 from rfl]
      exact rngI (by omega) (by omega) (by decide)
    · split
      · next h =>
        obtain ⟨n, h1, h2, rfl⟩ := rng h (by decide)
        right
        rw [nI_sub h1, nI_add, show (0 : Int32) = nI 0 from rfl]
        exact rngI (by omega) (by omega) (by decide)
      · exact Or.inl rfl
