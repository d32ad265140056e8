/-! bounds of distances and errors; the digest -/
theorem sq_nI {x y : Nat} (hx : x < 256) (hy : y < 256) : ∃ s, s ≤ 65025 ∧ (nI x - nI y) * (nI x - nI y) = nI s := by
  rcases Nat.le_total y x with h | h
  · refine ⟨(x - y) * (x - y), Nat.mul_le_mul (show x - y ≤ 255 by omega) (show x - y ≤ 255 by omega), ?_⟩
    rw [nI_sub h, nI_mul]
  · refine ⟨(y - x) * (y - x), Nat.mul_le_mul (show y - x ≤ 255 by omega) (show y - x ≤ 255 by omega), ?_⟩
    have e : nI x - nI y = -nI (y - x) := by rw [← nI_sub h, Int32.neg_sub]
    rw [e, Int32.neg_mul, Int32.mul_neg, Int32.neg_neg, nI_mul]
theorem dst_nI (m a b : Int32) : ∃ n, n ≤ 585225 ∧ dst m a b = nI n := by
  obtain ⟨s0, a0, b0⟩ := sq_nI (chN_lt a 0).1 (chN_lt b 0).1
  obtain ⟨s1, a1, b1⟩ := sq_nI (chN_lt a 1).1 (chN_lt b 1).1
  obtain ⟨s2, a2, b2⟩ := sq_nI (chN_lt a 2).1 (chN_lt b 2).1
  rw [← (chN_lt a 0).2, ← (chN_lt b 0).2] at b0
  rw [← (chN_lt a 1).2, ← (chN_lt b 1).2] at b1
  rw [← (chN_lt a 2).2, ← (chN_lt b 2).2] at b2
  unfold dst
  split
  · exact ⟨s0 + s1 + s2, by omega, by rw [b0, b1, b2, nI_add, nI_add]⟩
  · refine ⟨2 * s0 + 4 * s1 + 3 * s2, by omega, ?_⟩
    rw [Int32.mul_assoc, Int32.mul_assoc, Int32.mul_assoc, b0, b1, b2, nI_mul, nI_mul, nI_mul, nI_add, nI_add]
theorem opq_s (f : fT) (p : Nat) : opq f (p + 1) = opq f p + (if f (2 + p) = -1 then 0 else 1) := rfl
theorem esum_nI (f : fT) (p : Nat) : ∃ n, n ≤ opq f p * 585225 ∧ esum f p = nI n := by
  induction p with
  | zero => exact ⟨0, Nat.zero_le _, rfl⟩
  | succ p ih =>
    obtain ⟨n, h1, h2⟩ := ih
    rw [esum_s, opq_s]
    by_cases h : f (2 + p) = -1
    · rw [if_pos h, if_pos h]
      exact ⟨n, h1, by rw [h2, nI_add]; rfl⟩
    · rw [if_neg h, if_neg h]
      obtain ⟨e, e1, e2⟩ := dst_nI (f 291) (f (2 + p)) (f (259 + ixN f p))
      refine ⟨n + e, by rw [Nat.add_mul]; omega, ?_⟩
      rw [h2, ← nI_add]
      congr 1
/-- the mean error as a float -/
def meX (f : fT) : UInt32 := FP.fdiv (FP.i2f (esum f (fA f))) (FP.i2f (nI (opq f (fA f))))
def meV (f : fT) : Int32 := if opq f (fA f) = 0 then -1 else nI (meX f).toNat
theorem log_ex {e : Nat} (h : 0 < e) : ∃ k, 2 ^ k ≤ e ∧ e < 2 ^ (k + 1) := ⟨e.log2, Nat.log2_self_le (by omega), Nat.lt_log2_self⟩
theorem log_le {a b k j : Nat} (h1 : 2 ^ k ≤ a) (h2 : a < 2 ^ j) : k < j := (Nat.pow_lt_pow_iff_right (a := 2) (by decide)).mp (Nat.lt_of_le_of_lt h1 h2)
/-- of the mean error: 0, or a number from 2^-33 to 2^23 -/
theorem meX_ok {f : fT} (hf : wf0 f) (ho : 0 < opq f (fA f)) : vf_n32 (meX f) ∧ (meX f = 0 ∨ ∃ c q, NF (meX f) c q ∧ -40 ≤ q ∧ q ≤ 0) := by
  have hA := fA_le hf
  have hO := opq_le f (fA f)
  obtain ⟨e, e1, e2⟩ := esum_nI f (fA f)
  obtain ⟨j, j1, j2⟩ := log_ex ho
  have hj : j < 9 := log_le (a := opq f (fA f)) (b := 0) j1 (by have : (2 : Nat) ^ 9 = 512 := rfl; omega)
  obtain ⟨d, r, n1, n2⟩ := NF_i j1 j2 (by omega)
  unfold meX
  rw [e2]
  by_cases he : e = 0
  · subst he
    have z : FP.fdiv (FP.i2f (nI 0)) (FP.i2f (nI (opq f (fA f)))) = 0 := by
      show UInt32.ofNat (FP.Core.encode _ (FP.Core.quotient FP.Core.b32 (FP.Core.decode FP.Core.b32 (FP.i2f (nI 0)).toNat) (FP.Core.decode FP.Core.b32 (FP.i2f (nI (opq f (fA f)))).toNat))) = 0
      rw [NF_dc n1, show FP.Core.decode FP.Core.b32 (FP.i2f (nI 0)).toNat = .fin false 0 (-149) by decide]
      show UInt32.ofNat (FP.Core.encode _ (if d = 0 then _ else FP.Core.roundRatio FP.Core.b32 false 0 d _)) = 0
      rw [if_neg (by have := n1.2.1; omega)]
      rfl
    rw [z]
    exact ⟨by unfold vf_n32; decide, Or.inl rfl⟩
  · obtain ⟨k, k1, k2⟩ := log_ex (show 0 < e by omega)
    have hk : k < j + 21 := by
      refine log_le (a := e) (b := 0) k1 ?_
      calc e ≤ opq f (fA f) * 585225 := e1
        _ < 2 ^ (j + 1) * 2 ^ 20 := by
          have : opq f (fA f) * 585225 ≤ opq f (fA f) * 2 ^ 20 := Nat.mul_le_mul_left _ (by decide)
          exact Nat.lt_of_le_of_lt this (Nat.mul_lt_mul_of_pos_right j2 (by decide))
        _ = 2 ^ (j + 21) := by rw [← Nat.pow_add]
    obtain ⟨c1, q1, m1, m2⟩ := NF_i k1 k2 (by omega)
    obtain ⟨c, q, x1, x2, x3⟩ := NF_q m1 n1 (by omega) (by omega)
    exact ⟨NF_n x1, Or.inr ⟨c, q, x1, by omega, by omega⟩⟩
theorem sh23 : ∀ k, k < 256 → nI k <<< (nI 23 &&& 31) = nI (k * 8388608) := by decide +kernel
/-- numbers mixed into a hash, one by one -/
def mxR (g : Nat → Int32) (h : Int64) : Nat → Int64
  | 0 => h
  | k + 1 => 31 * mxR g h k + (g k).toInt64
theorem mxR_s (g : Nat → Int32) (h : Int64) (k : Nat) : mxR g h (k + 1) = 31 * mxR g h k + (g k).toInt64 := rfl
def cnt (f : fT) (u tl : Int32) (k : Nat) : Int32 := if k = 0 then f 0 else if k = 1 then f 1 else if k = 2 then nI (opq f (fA f)) else if k = 3 then nI (fA f) - nI (opq f (fA f)) else if k = 4 then f 258 else if k = 5 then nI (lcd f (fN f)) else if k = 6 then f 291 else if k = 7 then f 292 else if k = 8 then u else tl
def ent (f : fT) (e j : Nat) : Int32 := if j = 0 then f (259 + e) else if j = 1 then f (275 + e) else if j = 2 then nI (svc f e (fA f)) else nI (if f 292 = 1 then ixc f (nI e) (fA f) else 0)
def dg3 (f : fT) (u tl : Int32) : Int64 := mxR (fun k => ent f (k / 4) (k % 4)) (mxR (fun p => f (2 + p)) (mxR (cnt f u tl) 77 10) (fA f)) (4 * fN f)
def dg4 (f : fT) (u tl : Int32) : Int64 := if f 292 = 1 then 31 * (31 * (31 * (31 * mxR (fun p => f (293 + p)) (dg3 f u tl) (fA f) + (esum f (fA f)).toInt64) + (wstV f).toInt64) + (meV f).toInt64) + (nI (rns f (fA f - 1))).toInt64 else dg3 f u tl
def dgV5 (f : fT) (u tl : Int32) (t : fT) (n : Nat) : Int64 := mxR t (dg4 f u tl) n
def dgM (M : am_M) (S : fT) (h : Int64) : am_M := (am_u M.1 42 S, am_u M.2 33 (vp_updL (M.2 33) 20 h))
theorem updL_self (f : Nat → Int64) (k : Nat) (x : Int64) : vp_updL f k x k = x := by simp [vp_updL]
theorem dgM_h (M : am_M) (S : fT) (h : Int64) : (dgM M S h).2 33 20 = h := by simp [dgM, am_u, vp_updL]
theorem dgM_ne (M : am_M) (S : fT) (h : Int64) {k : Nat} (hk : k ≠ 42) : (dgM M S h).1 k = M.1 k := am_u_ne _ _ hk
theorem dgM_m (M : am_M) (S : fT) (h h' : Int64) : (((dgM M S h).1, am_u (dgM M S h).2 33 (vp_updL ((dgM M S h).2 33) 20 h')) : am_M) = dgM M S h' := by
  unfold dgM
  refine Prod.ext rfl ?_
  funext q
  simp only [am_u]
  by_cases h3 : q = 33
  · simp only [if_pos h3]
    funext j
    simp only [vp_updL, if_true]
    split <;> simp_all
  · simp only [if_neg h3]
theorem dgM_S (M : am_M) (S S' : fT) (h : Int64) : ((am_u (dgM M S h).1 42 S', (dgM M S h).2) : am_M) = dgM M S' h := by
  unfold dgM
  simp only [am_u_u]
