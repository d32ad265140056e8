/-! floats: a number from 2^23 to 2^24, times a power of two -/
theorem b32t : FP.Core.Fmt.tails FP.Core.b32 = 8388608 := by decide
theorem b32e : FP.Core.Fmt.exps FP.Core.b32 = 256 := by decide
theorem b32m : FP.Core.Fmt.qmin FP.Core.b32 = -149 := by decide
theorem b32p : FP.Core.b32.p = 24 := rfl
theorem b32x : FP.Core.Fmt.qmax FP.Core.b32 = 104 := by decide
def NF (x : UInt32) (c : Nat) (q : Int) : Prop := x.toNat = (q + 149).toNat * 8388608 + c ∧ 8388608 ≤ c ∧ c < 16777216 ∧ -149 ≤ q ∧ q ≤ 100
theorem NF_dc {x : UInt32} {c : Nat} {q : Int} (h : NF x c q) : FP.Core.decode FP.Core.b32 x.toNat = .fin false c q := by
  obtain ⟨h1, h2, h3, h4, h5⟩ := h
  have d1 : x.toNat / 8388608 = (q + 149).toNat + 1 := by omega
  have d2 : ((q + 149).toNat + 1) % 256 = (q + 149).toNat + 1 := by omega
  have d3 : x.toNat % 8388608 = c - 8388608 := by omega
  have d4 : ((q + 149).toNat + 1) / 256 = 0 := by omega
  unfold FP.Core.decode FP.Core.fieldE FP.Core.fieldT FP.Core.fieldS
  rw [b32t, b32e, b32m, d1, d2, d3, d4, if_neg (by omega), if_neg (by omega), show 8388608 + (c - 8388608) = c by omega, show (-149 + ((((q + 149).toNat + 1 : Nat) : Int) - 1)) = q by omega]
  rfl
theorem NF_en {c : Nat} {q : Int} (h2 : 8388608 ≤ c) (h3 : c < 16777216) (h4 : -149 ≤ q) (h5 : q ≤ 100) : NF (UInt32.ofNat (FP.Core.encode FP.Core.b32 (.fin false c q))) c q := by
  have e : FP.Core.encode FP.Core.b32 (.fin false c q) = (q + 149).toNat * 8388608 + c := by
    show (if c < FP.Core.Fmt.tails FP.Core.b32 then _ else _) = _
    rw [b32t, if_neg (by omega), b32m]
    unfold FP.Core.assemble
    rw [b32t, b32e]
    have : (q - -149).toNat = (q + 149).toNat := by congr 1
    rw [this]
    simp only [Bool.toNat_false]
    omega
  refine ⟨?_, h2, h3, h4, h5⟩
  rw [e, UInt32.toNat_ofNat']
  exact Nat.mod_eq_of_lt (by omega)
theorem lg2 {c k : Nat} (h1 : 2 ^ k ≤ c) (h2 : c < 2 ^ (k + 1)) : c.log2 = k := by
  have a1 : 2 ^ c.log2 ≤ c := Nat.log2_self_le (by have := Nat.two_pow_pos k; omega)
  have a2 : c < 2 ^ (c.log2 + 1) := Nat.lt_log2_self
  have b1 : 2 ^ c.log2 < 2 ^ (k + 1) := Nat.lt_of_le_of_lt a1 h2
  have b2 : 2 ^ k < 2 ^ (c.log2 + 1) := Nat.lt_of_le_of_lt h1 a2
  have c1 := (Nat.pow_lt_pow_iff_right (a := 2) (by decide)).mp b1
  have c2 := (Nat.pow_lt_pow_iff_right (a := 2) (by decide)).mp b2
  omega
theorem lead0 {A B k j : Nat} (hA : A.log2 = k) (hB : B.log2 = j) (hkj : j ≤ k) (h : B * 2 ^ (k - j) ≤ A) : FP.Core.leading A B = ((k - j : Nat) : Int) := by
  unfold FP.Core.leading
  rw [hA, hB]
  have e1 : ((k : Int) - (j : Int)).toNat = k - j := by omega
  have e2 : (-((k : Int) - (j : Int))).toNat = 0 := by omega
  dsimp only
  rw [e1, e2, Nat.pow_zero, Nat.mul_one, if_pos h]
  omega
theorem near_ex {c D : Nat} (hD : 0 < D) : FP.Core.nearest (c * D) D = c := by
  unfold FP.Core.nearest
  rw [Nat.mul_mod_left, Nat.mul_div_cancel _ hD, if_pos (by omega)]
theorem near_ge {N D m : Nat} (hD : 0 < D) (h : m * D ≤ N) : m ≤ FP.Core.nearest N D := by
  have : m ≤ N / D := (Nat.le_div_iff_mul_le hD).mpr h
  unfold FP.Core.nearest
  split
  · exact this
  · split <;> omega
theorem near_le {N D m : Nat} (hD : 0 < D) (h : N ≤ m * D) : FP.Core.nearest N D ≤ m := by
  by_cases he : N = m * D
  · rw [he, near_ex hD]; exact Nat.le_refl _
  · have : N / D < m := (Nat.div_lt_iff_lt_mul hD).mpr (by omega)
    unfold FP.Core.nearest
    split
    · omega
    · split <;> omega
theorem rrE {A B : Nat} {e l : Int} (hA : A ≠ 0) (hl : FP.Core.leading A B = l) (h1 : -120 ≤ l + e) (h2 : l + e ≤ 120) : FP.Core.roundRatio FP.Core.b32 false A B e = FP.Core.settle FP.Core.b32 false (FP.Core.nearest (A * 2 ^ (23 - l).toNat) (B * 2 ^ (l - 23).toNat)) (l + e - 23) := by
  have q0 : FP.Core.quantum FP.Core.b32 A B e = l + e - 23 := by
    unfold FP.Core.quantum
    rw [b32m, hl]
    show max (-149) (l + e - ((24 : Nat) - 1 : Int)) = _
    omega
  unfold FP.Core.roundRatio
  rw [if_neg hA, q0]
  unfold FP.Core.roundAt FP.Core.unitsNum FP.Core.unitsDen
  have e1 : (e - (l + e - 23)).toNat = (23 - l).toNat := by congr 1; omega
  have e2 : ((l + e - 23) - e).toNat = (l - 23).toNat := by congr 1; omega
  rw [e1, e2]
theorem setS {c : Nat} {q : Int} (hc : c < 16777216) (hq : q ≤ 104) : FP.Core.settle FP.Core.b32 false c q = .fin false c q := by
  unfold FP.Core.settle FP.Core.bound
  rw [b32x, b32p, if_pos (show c < 2 ^ 24 from hc), if_pos hq]
theorem setB {c : Nat} {q : Int} (h1 : 8388608 ≤ c) (h2 : c ≤ 16777216) (hq : q ≤ 103) : ∃ c' q', FP.Core.settle FP.Core.b32 false c q = .fin false c' q' ∧ 8388608 ≤ c' ∧ c' < 16777216 ∧ (q' = q ∨ q' = q + 1) := by
  by_cases hc : c < 16777216
  · exact ⟨c, q, setS hc (by omega), h1, hc, Or.inl rfl⟩
  · refine ⟨8388608, q + 1, ?_, by omega, by omega, Or.inr rfl⟩
    unfold FP.Core.settle FP.Core.bound
    rw [b32x, b32t, b32p, if_neg (show ¬ c < 2 ^ 24 from hc), if_pos (show q + 1 ≤ 104 by omega)]
theorem NF_2 : FP.Core.decode FP.Core.b32 FP.fconst2.toNat = .fin false 8388608 (-22) := by decide
theorem NF_1 : FP.Core.decode FP.Core.b32 FP.fconst1.toNat = .fin false 8388608 (-23) := by decide
theorem NF_0 : FP.Core.decode FP.Core.b32 FP.fconst0.toNat = .fin false 0 (-149) := by decide
theorem NF_K : FP.Core.decode FP.Core.b32 (1258291200 : UInt32).toNat = .fin false 8388608 0 := by decide
theorem NF_mul {x y : UInt32} {c : Nat} {q r : Int} (h : NF x c q) (hy : FP.Core.decode FP.Core.b32 y.toNat = .fin false 8388608 r) (h1 : -149 ≤ q + r + 23) (h3 : -100 ≤ q + r) (h2 : q + r + 23 ≤ 73) : NF (FP.fmul x y) c (q + r + 23) := by
  have hx := NF_dc h
  obtain ⟨-, a2, a3, -, -⟩ := h
  have e : FP.Core.round FP.Core.b32 (FP.Core.exactProduct (FP.Core.decode FP.Core.b32 x.toNat) (FP.Core.decode FP.Core.b32 y.toNat)) = .fin false c (q + r + 23) := by
    rw [hx, hy]
    show FP.Core.roundRatio FP.Core.b32 false (c * 8388608) 1 (q + r) = _
    have hl : FP.Core.leading (c * 8388608) 1 = ((46 - 0 : Nat) : Int) := lead0 (lg2 (by omega) (by omega)) (lg2 (k := 0) (by decide) (by decide)) (by decide) (by omega)
    have hl2 : FP.Core.leading (c * 8388608) 1 = 46 := hl
    rw [rrE (by omega) hl2 (by omega) (by omega)]
    show FP.Core.settle FP.Core.b32 false (FP.Core.nearest (c * 8388608 * 2 ^ 0) (1 * 2 ^ 23)) _ = _
    rw [Nat.pow_zero, Nat.mul_one, show 1 * 2 ^ 23 = 8388608 from rfl, near_ex (by decide), setS a3 (by omega)]
    congr 1
    omega
  show NF (UInt32.ofNat (FP.Core.encode _ _)) _ _
  rw [e]
  exact NF_en a2 a3 h1 (by omega)
theorem NF_div {x y : UInt32} {c : Nat} {q r : Int} (h : NF x c q) (hy : FP.Core.decode FP.Core.b32 y.toNat = .fin false 8388608 r) (h1 : -97 ≤ q - r) (h2 : q - r ≤ 97) : NF (FP.fdiv x y) c (q - r - 23) := by
  have hx := NF_dc h
  obtain ⟨-, a2, a3, -, -⟩ := h
  have e : FP.Core.quotient FP.Core.b32 (FP.Core.decode FP.Core.b32 x.toNat) (FP.Core.decode FP.Core.b32 y.toNat) = .fin false c (q - r - 23) := by
    rw [hx, hy]
    show FP.Core.roundRatio FP.Core.b32 false c 8388608 (q - r) = _
    have hl : FP.Core.leading c 8388608 = ((23 - 23 : Nat) : Int) := lead0 (lg2 (by omega) (by omega)) (lg2 (by decide) (by decide)) (by decide) (by omega)
    have hl2 : FP.Core.leading c 8388608 = 0 := hl
    rw [rrE (by omega) hl2 (by omega) (by omega)]
    show FP.Core.settle FP.Core.b32 false (FP.Core.nearest (c * 8388608) (8388608 * 2 ^ 0)) _ = _
    rw [Nat.pow_zero, Nat.mul_one, near_ex (by decide), setS a3 (by omega)]
    congr 1
    omega
  show NF (UInt32.ofNat (FP.Core.encode _ _)) _ _
  rw [e]
  exact NF_en a2 a3 (by omega) (by omega)
theorem NF_n {x : UInt32} {c : Nat} {q : Int} (h : NF x c q) : vf_n32 x := by
  obtain ⟨h1, h2, h3, h4, h5⟩ := h
  unfold vf_n32
  rw [UInt32.le_iff_toNat_le, UInt32.toNat_and]
  have : x.toNat &&& (0x7fffffff : UInt32).toNat = x.toNat % 2 ^ 31 := Nat.and_two_pow_sub_one_eq_mod x.toNat 31
  rw [this]
  have e : (0x7f800000 : UInt32).toNat = 2139095040 := rfl
  rw [e]
  omega
/-- a whole number from 1 on -/
theorem NF_i {e k : Nat} (h1 : 2 ^ k ≤ e) (h2 : e < 2 ^ (k + 1)) (hk : k ≤ 30) : ∃ c q, NF (FP.i2f (nI e)) c q ∧ (q = (k : Int) - 23 ∨ q = (k : Int) - 22) := by
  have hk2 : 2 ^ (k + 1) ≤ 2 ^ 31 := Nat.pow_le_pow_right (by decide) (by omega)
  have he : (nI e).toInt = (e : Int) := nI_toInt (by omega)
  have hp := Nat.two_pow_pos k
  have r0 : FP.Core.round FP.Core.b32 (FP.Core.ofInt (nI e).toInt) = FP.Core.roundRatio FP.Core.b32 false e 1 0 := by
    rw [he]
    unfold FP.Core.ofInt
    rw [show decide ((e : Int) < 0) = false from decide_eq_false (by omega), Int.natAbs_natCast]
    rfl
  have hl : FP.Core.leading e 1 = (k : Int) := lead0 (lg2 h1 h2) (lg2 (k := 0) (by decide) (by decide)) (Nat.zero_le k) (by rw [Nat.one_mul]; exact h1)
  rw [rrE (by omega) hl (by omega) (by omega)] at r0
  have hD : 0 < 1 * 2 ^ ((k : Int) - 23).toNat := by have := Nat.two_pow_pos ((k : Int) - 23).toNat; omega
  have lo : 8388608 * (1 * 2 ^ ((k : Int) - 23).toNat) ≤ e * 2 ^ (23 - (k : Int)).toNat := by
    rcases Nat.le_total k 23 with q | q
    · rw [show ((k : Int) - 23).toNat = 0 by omega, show (23 - (k : Int)).toNat = 23 - k by omega]
      calc 8388608 * (1 * 2 ^ 0) = 2 ^ k * 2 ^ (23 - k) := by rw [← Nat.pow_add, show k + (23 - k) = 23 by omega]
        _ ≤ e * 2 ^ (23 - k) := Nat.mul_le_mul_right _ h1
    · rw [show ((k : Int) - 23).toNat = k - 23 by omega, show (23 - (k : Int)).toNat = 0 by omega]
      calc 8388608 * (1 * 2 ^ (k - 23)) = 2 ^ 23 * 2 ^ (k - 23) := by rw [Nat.one_mul]
        _ = 2 ^ k := by rw [← Nat.pow_add, show 23 + (k - 23) = k by omega]
        _ ≤ e * 2 ^ 0 := by omega
  have hi : e * 2 ^ (23 - (k : Int)).toNat ≤ 16777216 * (1 * 2 ^ ((k : Int) - 23).toNat) := by
    rcases Nat.le_total k 23 with q | q
    · rw [show ((k : Int) - 23).toNat = 0 by omega, show (23 - (k : Int)).toNat = 23 - k by omega]
      calc e * 2 ^ (23 - k) ≤ 2 ^ (k + 1) * 2 ^ (23 - k) := Nat.mul_le_mul_right _ (Nat.le_of_lt h2)
        _ = 16777216 * (1 * 2 ^ 0) := by rw [← Nat.pow_add, show k + 1 + (23 - k) = 24 by omega]
    · rw [show ((k : Int) - 23).toNat = k - 23 by omega, show (23 - (k : Int)).toNat = 0 by omega]
      calc e * 2 ^ 0 ≤ 2 ^ (k + 1) := by omega
        _ = 2 ^ 24 * 2 ^ (k - 23) := by rw [← Nat.pow_add, show 24 + (k - 23) = k + 1 by omega]
        _ = 16777216 * (1 * 2 ^ (k - 23)) := by rw [Nat.one_mul]
  obtain ⟨c, q, s1, s2, s3, s4⟩ := setB (q := (k : Int) + 0 - 23) (near_ge hD lo) (near_le hD hi) (by omega)
  refine ⟨c, q, ?_, by omega⟩
  show NF (UInt32.ofNat (FP.Core.encode _ (FP.Core.round _ _))) _ _
  rw [r0, s1]
  exact NF_en s2 s3 (by omega) (by omega)
theorem NF_q {x y : UInt32} {c d : Nat} {q r : Int} (h : NF x c q) (hy : NF y d r) (h1 : -90 ≤ q - r) (h2 : q - r ≤ 90) : ∃ c' q', NF (FP.fdiv x y) c' q' ∧ q - r - 24 ≤ q' ∧ q' ≤ q - r - 22 := by
  have hx := NF_dc h
  have hy2 := NF_dc hy
  obtain ⟨-, a2, a3, -, -⟩ := h
  obtain ⟨-, b2, b3, -, -⟩ := hy
  have r0 : FP.Core.quotient FP.Core.b32 (FP.Core.decode FP.Core.b32 x.toNat) (FP.Core.decode FP.Core.b32 y.toNat) = FP.Core.roundRatio FP.Core.b32 false c d (q - r) := by
    rw [hx, hy2]
    show (if d = 0 then _ else _) = _
    rw [if_neg (by omega)]
    rfl
  have fin : ∀ l : Int, FP.Core.leading c d = l → (l = 0 ∨ l = -1) → d * 8388608 ≤ c * 2 ^ (23 - l).toNat → c * 2 ^ (23 - l).toNat ≤ d * 16777216 → ∃ c' q', NF (FP.fdiv x y) c' q' ∧ q - r - 24 ≤ q' ∧ q' ≤ q - r - 22 := by
    intro l hl hl2 lo hi
    rw [rrE (by omega) hl (by omega) (by omega), show (l - 23).toNat = 0 by omega, Nat.pow_zero, Nat.mul_one] at r0
    obtain ⟨c', q', s1, s2, s3, s4⟩ := setB (q := l + (q - r) - 23) (near_ge (m := 8388608) (by omega) (by omega)) (near_le (m := 16777216) (N := c * 2 ^ (23 - l).toNat) (D := d) (by omega) (by omega)) (by omega)
    refine ⟨c', q', ?_, by omega, by omega⟩
    show NF (UInt32.ofNat (FP.Core.encode _ (FP.Core.quotient _ _ _))) _ _
    rw [r0, s1]
    exact NF_en s2 s3 (by omega) (by omega)
  have l1 : c.log2 = 23 := lg2 (by omega) (by omega)
  have l2 : d.log2 = 23 := lg2 (by omega) (by omega)
  by_cases hdc : d ≤ c
  · refine fin 0 (lead0 l1 l2 (by decide) (by omega)) (Or.inl rfl) ?_ ?_
    · show d * 8388608 ≤ c * 8388608; omega
    · show c * 8388608 ≤ d * 16777216; omega
  · refine fin (-1) ?_ (Or.inr rfl) ?_ ?_
    · unfold FP.Core.leading
      rw [l1, l2]
      dsimp only
      rw [if_neg (show ¬ d * 2 ^ ((23 : Nat) - (23 : Nat) : Int).toNat ≤ c * 2 ^ (-((23 : Nat) - (23 : Nat) : Int)).toNat by show ¬ d * 1 ≤ c * 1; omega)]
      rfl
    · show d * 8388608 ≤ c * 16777216; omega
    · show c * 16777216 ≤ d * 16777216; omega
theorem NF_lt {x y : UInt32} {c : Nat} {q r : Int} {op : ClassFile.CmpOp} (h : NF x c q) (hy : FP.Core.decode FP.Core.b32 y.toNat = .fin false 8388608 r) (hq : q < r) : Op.cmpValue (FP.fcmp x y) op = -1 := by
  have e : FP.fcmp x y = some (compare ((c * 2 ^ (q - min q r).toNat : Nat) : Int) ((8388608 * 2 ^ (r - min q r).toNat : Nat) : Int)) := by
    show FP.Core.order _ _ = _
    rw [NF_dc h, hy]
    rfl
  have hlt : ((c * 2 ^ (q - min q r).toNat : Nat) : Int) < ((8388608 * 2 ^ (r - min q r).toNat : Nat) : Int) := by
    have e1 : (q - min q r).toNat = 0 := by omega
    have e2 : (r - min q r).toNat = (r - q - 1).toNat + 1 := by omega
    rw [e1, e2, Nat.pow_succ]
    have := Nat.two_pow_pos (r - q - 1).toNat
    have := h.2.2.1
    omega
  rw [e]
  have : compare ((c * 2 ^ (q - min q r).toNat : Nat) : Int) ((8388608 * 2 ^ (r - min q r).toNat : Nat) : Int) = .lt := by
    show compareOfLessAndEq _ _ = _
    unfold compareOfLessAndEq
    rw [if_pos hlt]
  rw [this]
  cases op <;> rfl
theorem NF_ge {x y : UInt32} {c : Nat} {q r : Int} {op : ClassFile.CmpOp} (h : NF x c q) (hy : FP.Core.decode FP.Core.b32 y.toNat = .fin false 8388608 r) (hq : r ≤ q) : 0 ≤ Op.cmpValue (FP.fcmp x y) op := by
  have e : FP.fcmp x y = some (compare ((c * 2 ^ (q - min q r).toNat : Nat) : Int) ((8388608 * 2 ^ (r - min q r).toNat : Nat) : Int)) := by
    show FP.Core.order _ _ = _
    rw [NF_dc h, hy]
    rfl
  have hge : ¬ ((c * 2 ^ (q - min q r).toNat : Nat) : Int) < ((8388608 * 2 ^ (r - min q r).toNat : Nat) : Int) := by
    have e1 : (r - min q r).toNat = 0 := by omega
    rw [e1]
    have h9 : c * 1 ≤ c * 2 ^ (q - min q r).toNat := Nat.mul_le_mul_left _ (Nat.two_pow_pos _)
    have := h.2.1
    omega
  rw [e]
  show 0 ≤ Op.cmpValue (some (compareOfLessAndEq _ _)) op
  unfold compareOfLessAndEq
  rw [if_neg hge]
  split <;> cases op <;> decide
theorem NF_gt0 {x : UInt32} {c : Nat} {q : Int} {op : ClassFile.CmpOp} (h : NF x c q) : Op.cmpValue (FP.fcmp x FP.fconst0) op = 1 := by
  have e : FP.fcmp x FP.fconst0 = some (compare ((c * 2 ^ (q - min q (-149)).toNat : Nat) : Int) ((0 * 2 ^ (-149 - min q (-149)).toNat : Nat) : Int)) := by
    show FP.Core.order _ _ = _
    rw [NF_dc h, NF_0]
    rfl
  rw [e, Nat.zero_mul]
  have h9 : c * 1 ≤ c * 2 ^ (q - min q (-149)).toNat := Nat.mul_le_mul_left _ (Nat.two_pow_pos _)
  have := h.2.1
  show Op.cmpValue (some (compareOfLessAndEq _ _)) op = 1
  unfold compareOfLessAndEq
  rw [if_neg (by omega), if_neg (by omega)]
  cases op <;> rfl
theorem NF_f2i {x : UInt32} {c : Nat} (h : NF x c 0) : FP.f2i x = nI c := by
  have := h.2.2.1
  show Int32.ofInt (FP.Core.toInt _ _ (FP.Core.decode FP.Core.b32 x.toNat)) = _
  rw [NF_dc h]
  show Int32.ofInt (max (-2 ^ 31) (min (2 ^ 31 - 1) (FP.Core.signed false (c * 2 ^ 0 / 2 ^ 0)))) = nI c
  have e : FP.Core.signed false (c * 2 ^ 0 / 2 ^ 0) = (c : Int) := by
    show (((c * 2 ^ 0 / 2 ^ 0 : Nat)) : Int) = _
    rw [Nat.pow_zero, Nat.mul_one, Nat.div_one]
  rw [e, show max (-2 ^ 31) (min (2 ^ 31 - 1) (c : Int)) = (c : Int) by omega]
  exact Int32.ofInt_eq_ofNat
