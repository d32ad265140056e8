/-! the class: a snapshot's rows agree with a flat state -/
def agS (a p c l i f : fT) : Prop := (a 0 = f 0 ∧ a 1 = f 1 ∧ a 3 = f 258 ∧ a 6 = f 291 ∧ a 7 = f 292) ∧ (∀ q, q < fA f → p q = f (2 + q)) ∧ (∀ e, e < fN f → c e = f (259 + e) ∧ l e = f (275 + e)) ∧ (f 292 = 1 → ∀ q, q < fA f → i q = f (293 + q))
def AG (M : am_M) (f : fT) : Prop := agS (M.1 1) (M.1 2) (M.1 3) (M.1 4) (M.1 5) f
theorem shr16 {n : Nat} (hn : n < 2 ^ 31) : nI n >>> (nI 16 &&& 31) = nI (n / 65536) := by
  apply Int32.toInt_inj.mp
  have h1 : (nI n).toBitVec.toInt = (n : Int) := nI_toInt hn
  have h2 : (nI n >>> (nI 16 &&& 31)).toInt = (nI n).toBitVec.toInt >>> 16 := by
    show ((nI n).toBitVec.sshiftRight' _).toInt = _
    exact BitVec.toInt_sshiftRight
  rw [h2, h1, nI_toInt (by omega), Int.shiftRight_eq_div_pow]
  omega
theorem shr8 {n : Nat} (hn : n < 2 ^ 31) : nI n >>> (nI 8 &&& 31) = nI (n / 256) := by
  apply Int32.toInt_inj.mp
  have h1 : (nI n).toBitVec.toInt = (n : Int) := nI_toInt hn
  have h2 : (nI n >>> (nI 8 &&& 31)).toInt = (nI n).toBitVec.toInt >>> 8 := by
    show ((nI n).toBitVec.sshiftRight' _).toInt = _
    exact BitVec.toInt_sshiftRight
  rw [h2, h1, nI_toInt (by omega), Int.shiftRight_eq_div_pow]
  omega
theorem shr0 {n : Nat} (hn : n < 2 ^ 31) : nI n >>> (nI 0 &&& 31) = nI n := by
  apply Int32.toInt_inj.mp
  have h1 : (nI n).toBitVec.toInt = (n : Int) := nI_toInt hn
  have h2 : (nI n >>> (nI 0 &&& 31)).toInt = (nI n).toBitVec.toInt >>> 0 := by
    show ((nI n).toBitVec.sshiftRight' _).toInt = _
    exact BitVec.toInt_sshiftRight
  rw [h2, h1, nI_toInt (by omega), Int.shiftRight_eq_div_pow]
  omega
theorem and_n {n : Nat} (hn : n < 2 ^ 31) : nI n &&& nI 255 = nI (n % 256) := by
  apply Int32.toBitVec_inj.mp
  apply BitVec.eq_of_toNat_eq
  show ((nI n).toBitVec &&& (nI 255).toBitVec).toNat = (nI (n % 256)).toBitVec.toNat
  rw [BitVec.toNat_and]
  have e1 : (nI n).toBitVec.toNat = n := by
    show (Int32.ofNat n).toBitVec.toNat = n
    rw [Int32.toBitVec_ofNat', BitVec.toNat_ofNat]; omega
  have e2 : (nI (n % 256)).toBitVec.toNat = n % 256 := by
    show (Int32.ofNat (n % 256)).toBitVec.toNat = n % 256
    rw [Int32.toBitVec_ofNat', BitVec.toNat_ofNat]; omega
  have e3 : (nI 255).toBitVec.toNat = 255 := by decide
  rw [e1, e2, e3]
  exact Nat.and_two_pow_sub_one_eq_mod n 8
theorem cha_0 {n : Nat} (hn : n < 16777216) : cha (nI n) 0 = nI (n / 65536) := by
  show nI n >>> (nI 16 &&& 31) &&& nI 255 = _
  rw [shr16 (by omega), and_n (by omega), Nat.mod_eq_of_lt (by omega)]
theorem cha_1 {n : Nat} (hn : n < 16777216) : cha (nI n) 1 = nI (n / 256 % 256) := by
  show nI n >>> (nI 8 &&& 31) &&& nI 255 = _
  rw [shr8 (by omega), and_n (by omega)]
theorem cha_2 {n : Nat} (hn : n < 16777216) : cha (nI n) 2 = nI (n % 256) := by
  show nI n >>> (nI 0 &&& 31) &&& nI 255 = _
  rw [shr0 (by omega), and_n (by omega)]
theorem okc_r {c : Int32} (h : okc c) : c >>> (nI 16 &&& 31) = cha c 0 := by
  obtain ⟨n, h1, rfl⟩ := h
  rw [cha_0 h1, shr16 (by omega)]
theorem okc_b {c : Int32} (h : okc c) : c &&& nI 255 = cha c 2 := by
  obtain ⟨n, h1, rfl⟩ := h
  rw [cha_2 h1, and_n (by omega)]
theorem okc_ne {c : Int32} (h : okc c) : c ≠ -1 := by
  obtain ⟨n, h1, rfl⟩ := h
  exact nI_ne1 (by omega)
theorem okc_of {c : Int32} (h : 0 ≤ c ∧ c ≤ 16777215) : okc c := by
  obtain ⟨n, -, h2, h3⟩ := rng (a := 0) (b := 16777215) h (by decide)
  exact ⟨n, by omega, h3⟩
theorem of_okc {c : Int32} (h : okc c) : 0 ≤ c ∧ c ≤ 16777215 := by
  obtain ⟨n, h1, rfl⟩ := h
  exact ⟨nI_le (Nat.zero_le n) (by omega), nI_le (show n ≤ 16777215 by omega) (by decide)⟩
theorem AG_w {M : am_M} {f : fT} (h : AG M f) (hf : wf0 f) : M.1 1 0 = nI (fW f) ∧ M.1 1 1 = nI (fH f) ∧ M.1 1 3 = nI (fN f) := ⟨h.1.1.trans hf.1.1, h.1.2.1.trans hf.2.1.1, h.1.2.2.1.trans hf.2.2.1⟩
theorem inE_iff {f : fT} (hf : wf0 f) (x : Int32) : inE f x ↔ ¬ x < 0 ∧ ¬ nI (fN f) ≤ x := by
  obtain ⟨-, -, h1, h2⟩ := hf
  unfold inE
  rw [h1]
  constructor
  · intro ⟨a, b⟩
    refine ⟨Int32.not_lt.mpr a, fun q => ?_⟩
    rw [Int32.le_iff_toInt_le] at a b q
    rw [Int32.toInt_sub, nI_toInt (by omega), show (1 : Int32).toInt = 1 by decide, Int.bmod_eq_of_le (by omega) (by omega)] at b
    rw [nI_toInt (by omega)] at q
    omega
  · intro ⟨a, b⟩
    refine ⟨Int32.not_lt.mp a, ?_⟩
    have a2 := Int32.not_lt.mp a
    rw [Int32.le_iff_toInt_le] at a2 b ⊢
    rw [Int32.toInt_sub, nI_toInt (by omega), show (1 : Int32).toInt = 1 by decide, Int.bmod_eq_of_le (by omega) (by omega)]
    rw [nI_toInt (by omega)] at b
    omega
theorem inP_iff {f : fT} (hf : wf0 f) (x y : Int32) : inP f x y ↔ (¬ x < 0 ∧ ¬ nI (fW f) ≤ x) ∧ ¬ y < 0 ∧ ¬ nI (fH f) ≤ y := by
  have key : ∀ (w : Nat) (z g : Int32), g = nI w → w ≤ 16 → ((0 ≤ z ∧ z ≤ g - 1) ↔ ¬ z < 0 ∧ ¬ nI w ≤ z) := by
    intro w z g h1 h2
    rw [h1]
    constructor
    · intro ⟨a, b⟩
      refine ⟨Int32.not_lt.mpr a, fun q => ?_⟩
      rw [Int32.le_iff_toInt_le] at a b q
      rw [Int32.toInt_sub, nI_toInt (by omega), show (1 : Int32).toInt = 1 by decide, Int.bmod_eq_of_le (by omega) (by omega)] at b
      rw [nI_toInt (by omega)] at q
      omega
    · intro ⟨a, b⟩
      refine ⟨Int32.not_lt.mp a, ?_⟩
      have a2 := Int32.not_lt.mp a
      rw [Int32.le_iff_toInt_le] at a2 b ⊢
      rw [Int32.toInt_sub, nI_toInt (by omega), show (1 : Int32).toInt = 1 by decide, Int.bmod_eq_of_le (by omega) (by omega)]
      rw [nI_toInt (by omega)] at b
      omega
  unfold inP
  rw [key (fW f) x (f 0) hf.1.1 hf.1.2.2, key (fH f) y (f 1) hf.2.1.1 hf.2.1.2.2]
theorem of_inE {f : fT} {x : Int32} (hf : wf0 f) (h : inE f x) : ∃ e : Nat, e < fN f ∧ x = nI e := by
  obtain ⟨h1, h2⟩ := (inE_iff hf x).mp h
  have hx := nI_ge0 (Int32.not_lt.mp h1)
  have hx0 := Int32.not_lt.mp h1
  rw [Int32.le_iff_toInt_le, Int32.toInt_zero] at hx0
  refine ⟨x.toNatClampNeg, ?_, hx⟩
  rw [hx] at h2
  have hn := hf.2.2.2
  apply Classical.byContradiction
  intro q
  apply h2
  rw [Int32.le_iff_toInt_le, nI_toInt (by omega), ← hx]
  unfold Int32.toNatClampNeg at q
  omega
/-- the least distance so far -/
def cleD (f : fT) (c : Int32) (k : Nat) : Int32 := match nbt f c (-1) k with
  | none => 1000000
  | some b => dst (f 291) c (f (259 + b))
theorem dst_lt (m a b : Int32) : dst m a b < 1000000 := by
  obtain ⟨n, h1, h2⟩ := dst_nI m a b
  rw [h2, show (1000000 : Int32) = nI 1000000 from rfl, nI_ltI (by omega) (by decide)]
  omega
theorem lim_mm (x : Int32) : (if nI 0 < (if x < nI 255 then x else nI 255) then (if x < nI 255 then x else nI 255) else nI 0) = lim x := by
  unfold lim
  rw [show (nI 0 : Int32) = 0 from rfl]
  by_cases h1 : x < nI 255
  · rw [if_pos h1]
    have h2 : ¬ nI 255 < x := Int32.not_lt.mpr (Int32.le_of_lt h1)
    rw [if_neg h2]
    by_cases h3 : 0 < x
    · rw [if_pos h3, if_neg (Int32.not_lt.mpr (Int32.le_of_lt h3))]
    · rw [if_neg h3]
      by_cases h4 : x < 0
      · rw [if_pos h4]
      · rw [if_neg h4]; exact Int32.le_antisymm (Int32.not_lt.mp h4) (Int32.not_lt.mp h3)
  · rw [if_neg h1, if_pos (by decide)]
    have h2 := Int32.not_lt.mp h1
    have h3 : ¬ x < 0 := Int32.not_lt.mpr (Int32.le_trans (by decide) h2)
    rw [if_neg h3]
    by_cases h4 : nI 255 < x
    · rw [if_pos h4]
    · rw [if_neg h4]; exact Int32.le_antisymm h2 (Int32.not_lt.mp h4)
theorem lkc_s (f : fT) (c : Int32) (k : Nat) : lkc f c (k + 1) = (lkc f c k || (decide (f (275 + k) = 1) && decide (f (259 + k) = c))) := rfl
theorem lkc_stop {f : fT} {c : Int32} {k : Nat} (h : lkc f c k = true) (j : Nat) : lkc f c (k + j) = true := by
  induction j with
  | zero => exact h
  | succ j ih => show lkc f c (k + j + 1) = true; rw [lkc_s, ih]; rfl
theorem bret_t {p : Prop} [Decidable p] (h : p) : some (Value.int (nI 1)) = some (Value.int (bI p)) := by rw [bI_t h]; rfl
theorem bret_f {p : Prop} [Decidable p] (h : ¬ p) : some (Value.int (nI 0)) = some (Value.int (bI p)) := by rw [bI_f h]; rfl
