/-! the class: texts -/
theorem nlo {a b x : Int32} (h : x < a) : ¬ (a ≤ x ∧ x ≤ b) := fun q => Int32.not_lt.mpr q.1 h
theorem nhi {a b x : Int32} (h : b < x) : ¬ (a ≤ x ∧ x ≤ b) := fun q => Int32.not_lt.mpr q.2 h
theorem dgA_n (t : fT) (n i : Nat) : dgA t n i = -1 ∨ ∃ x, x < 16 ∧ dgA t n i = nI x := by
  unfold dgA
  rcases dgt_ge (ltr t n i) with h | h
  · exact Or.inl h
  · obtain ⟨x, -, h2, h3⟩ := rng (a := 0) (b := 15) h (by decide)
    exact Or.inr ⟨x, by omega, h3⟩
theorem dgA_0 {t : fT} {n i : Nat} : 0 ≤ dgA t n i ↔ dgA t n i ≠ -1 := by
  rcases dgA_n t n i with h | ⟨x, h1, h2⟩
  · rw [h]; decide
  · rw [h2]
    exact ⟨fun _ => nI_ne1 (by omega), fun _ => nI_le (Nat.zero_le x) (by omega)⟩
theorem dgN_all {t : fT} {n a k : Nat} (h : dgN t n a k = k) : ∀ j, j < k → ∃ x, x < 16 ∧ dgA t n (a + j) = nI x := by
  induction k with
  | zero => intro j hj; omega
  | succ k ih =>
    have hle := dgN_le t n a k
    rw [dgN_s] at h
    by_cases hc : dgN t n a k = k ∧ 0 ≤ dgA t n (a + k)
    · intro j hj
      by_cases hjk : j = k
      · subst hjk
        exact (dgA_n t n (a + j)).resolve_left (dgA_0.mp hc.2)
      · exact ih hc.1 j (by omega)
    · rw [if_neg hc] at h; omega
theorem dgN_3 {t : fT} {n a : Nat} (h : dgN t n a 6 = 3) : dgN t n a 3 = 3 := by
  have hle := dgN_le t n a 3
  apply Classical.byContradiction
  intro q
  have e : dgN t n a 6 = dgN t n a 3 := dgN_full (t := t) (n := n) (a := a) (k := 3) (by omega) 3
  omega
theorem dgV_n {t : fT} {n a k : Nat} (hk : k ≤ 6) (h : ∀ j, j < k → ∃ x, x < 16 ∧ dgA t n (a + j) = nI x) : ∃ v, v < 16 ^ k ∧ dgV t n a k = nI v := by
  induction k with
  | zero => exact ⟨0, by decide, rfl⟩
  | succ k ih =>
    obtain ⟨v, h1, h2⟩ := ih (by omega) (fun j hj => h j (by omega))
    obtain ⟨x, h3, h4⟩ := h k (by omega)
    refine ⟨16 * v + x, by rw [Nat.pow_succ]; omega, ?_⟩
    show nI 16 * dgV t n a k + dgA t n (a + k) = _
    rw [h2, h4, nI_mul, nI_add]
theorem shr4 {n : Nat} (hn : n < 2 ^ 31) : nI n >>> (nI 4 &&& 31) = nI (n / 16) := by
  apply Int32.toInt_inj.mp
  have h1 : (nI n).toBitVec.toInt = (n : Int) := nI_toInt hn
  have h2 : (nI n >>> (nI 4 &&& 31)).toInt = (nI n).toBitVec.toInt >>> 4 := by
    show ((nI n).toBitVec.sshiftRight' _).toInt = _
    exact BitVec.toInt_sshiftRight
  rw [h2, h1, nI_toInt (by omega), Int.shiftRight_eq_div_pow]
  omega
theorem and15 {n : Nat} (hn : n < 2 ^ 31) : nI n &&& nI 15 = nI (n % 16) := by
  apply Int32.toBitVec_inj.mp
  apply BitVec.eq_of_toNat_eq
  show ((nI n).toBitVec &&& (nI 15).toBitVec).toNat = (nI (n % 16)).toBitVec.toNat
  rw [BitVec.toNat_and]
  have e1 : (nI n).toBitVec.toNat = n := by
    show (Int32.ofNat n).toBitVec.toNat = n
    rw [Int32.toBitVec_ofNat', BitVec.toNat_ofNat]; omega
  have e2 : (nI (n % 16)).toBitVec.toNat = n % 16 := by
    show (Int32.ofNat (n % 16)).toBitVec.toNat = n % 16
    rw [Int32.toBitVec_ofNat', BitVec.toNat_ofNat]; omega
  have e3 : (nI 15).toBitVec.toNat = 15 := by decide
  rw [e1, e2, e3]
  exact Nat.and_two_pow_sub_one_eq_mod n 4
theorem thr_n {x y z : Nat} (hx : x < 16) (hy : y < 16) (hz : z < 16) : thr (nI (256 * x + 16 * y + z)) = nI (65536 * (17 * x) + 256 * (17 * y) + 17 * z) := by
  unfold thr
  rw [shr8 (by omega), shr4 (by omega), and15 (by omega), and15 (by omega), and15 (by omega), show (256 * x + 16 * y + z) / 256 % 16 = x by omega, show (256 * x + 16 * y + z) / 16 % 16 = y by omega, show (256 * x + 16 * y + z) % 16 = z by omega]
  simp only [nI_mul, nI_add]
theorem dgV_3 (t : fT) (n a : Nat) : dgV t n a 3 = nI 16 * (nI 16 * (nI 16 * nI 0 + dgA t n a) + dgA t n (a + 1)) + dgA t n (a + 2) := rfl
/-- three digits: the color read -/
theorem rdC_3 {t : fT} {n a : Nat} (h : dgN t n a 6 = 3) : rdC t n a = 65536 * (nI 17 * dgA t n a) + nI 256 * (nI 17 * dgA t n (a + 1)) + nI 17 * dgA t n (a + 2) ∧ okc (rdC t n a) := by
  have h3 := dgN_3 h
  obtain ⟨x, x1, x2⟩ := dgN_all h3 0 (by decide)
  obtain ⟨y, y1, y2⟩ := dgN_all h3 1 (by decide)
  obtain ⟨z, z1, z2⟩ := dgN_all h3 2 (by decide)
  have e : rdC t n a = nI (65536 * (17 * x) + 256 * (17 * y) + 17 * z) := by
    unfold rdC
    rw [if_neg (by omega), if_pos h, dgV_3, show dgA t n a = nI x from x2, y2, z2]
    simp only [nI_mul, nI_add]
    rw [show 16 * (16 * (16 * 0 + x) + y) + z = 256 * x + 16 * y + z by omega, thr_n x1 y1 z1]
  refine ⟨?_, _, ?_, e⟩
  · rw [e, show dgA t n a = nI x from x2, y2, z2, show (65536 : Int32) = nI 65536 from rfl]
    simp only [nI_mul, nI_add]
  · omega
theorem rdC_6 {t : fT} {n a : Nat} (h : dgN t n a 6 = 6) : rdC t n a = dgV t n a 6 ∧ okc (rdC t n a) := by
  obtain ⟨v, h1, h2⟩ := dgV_n (Nat.le_refl 6) (dgN_all h)
  have e : rdC t n a = dgV t n a 6 := by unfold rdC; rw [if_pos h]
  exact ⟨e, v, by omega, e.trans h2⟩
theorem rdC_no {t : fT} {n a : Nat} (h3 : dgN t n a 6 ≠ 3) (h6 : dgN t n a 6 ≠ 6) : rdC t n a = -1 := by unfold rdC; rw [if_neg h6, if_neg h3]
theorem rdC_ok {t : fT} {n a : Nat} (h : ¬ rdC t n a = -1) : okc (rdC t n a) := by
  by_cases h3 : dgN t n a 6 = 3
  · exact (rdC_3 h3).2
  · by_cases h6 : dgN t n a 6 = 6
    · exact (rdC_6 h6).2
    · exact absurd (rdC_no h3 h6) h
/-- what is read: colors and locks -/
theorem prs_ok (t : fT) (n m i r : Nat) (rc rl : fT) (h : ∀ j, j < r → okc (rc j) ∧ (rl j = 0 ∨ rl j = 1)) : ∀ j, j < (prs t n m i r rc rl).2.1 → okc ((prs t n m i r rc rl).2.2.1 j) ∧ ((prs t n m i r rc rl).2.2.2 j = 0 ∨ (prs t n m i r rc rl).2.2.2 j = 1) := by
  induction m generalizing i r rc rl with
  | zero => exact h
  | succ m ih =>
    unfold prs
    split
    · exact h
    · split
      · split
        · intro j hj
          have hj2 : j < r := hj
          dsimp only
          rw [upd_ne _ _ (show j ≠ r by omega)]
          exact h j hj2
        · next hne =>
          have hok := rdC_ok hne
          split
          · refine ih _ _ _ _ (fun j hj => ?_)
            by_cases hjr : j = r
            · subst hjr; rw [upd_self, upd_self]; exact ⟨hok, Or.inr rfl⟩
            · rw [upd_ne _ _ hjr, upd_ne _ _ hjr]; exact h j (by omega)
          · refine ih _ _ _ _ (fun j hj => ?_)
            by_cases hjr : j = r
            · subst hjr; rw [upd_self, upd_self]; exact ⟨hok, Or.inl rfl⟩
            · rw [upd_ne _ _ hjr, upd_ne _ _ hjr]; exact h j (by omega)
      · split
        · exact ih _ _ _ _ h
        · exact h
def TX (M : am_M) (n : Nat) (t : fT) : Prop := n ≤ 140 ∧ M.1 8 1 = nI n ∧ ∀ i, i < n → M.1 9 i = t i
def txM (M : am_M) (g0 g1 g2 g3 : fT) : am_M := (am_u (am_u (am_u (am_u M.1 8 g0) 9 g1) 10 g2) 11 g3, M.2)
theorem txM_8 (M : am_M) (g0 g1 g2 g3 : fT) : (txM M g0 g1 g2 g3).1 8 = g0 := by simp [txM, am_u]
theorem txM_9 (M : am_M) (g0 g1 g2 g3 : fT) : (txM M g0 g1 g2 g3).1 9 = g1 := by simp [txM, am_u]
theorem txM_10 (M : am_M) (g0 g1 g2 g3 : fT) : (txM M g0 g1 g2 g3).1 10 = g2 := by simp [txM, am_u]
theorem txM_11 (M : am_M) (g0 g1 g2 g3 : fT) : (txM M g0 g1 g2 g3).1 11 = g3 := by simp [txM, am_u]
theorem txM_ne (M : am_M) (g0 g1 g2 g3 : fT) {k : Nat} (h : k < 8 ∨ 12 ≤ k) : (txM M g0 g1 g2 g3).1 k = M.1 k := by
  have h1 : k ≠ 8 ∧ k ≠ 9 ∧ k ≠ 10 ∧ k ≠ 11 := by omega
  simp [txM, am_u, h1.1, h1.2.1, h1.2.2.1, h1.2.2.2]
theorem txM_x {M X : am_M} {g0 g1 g2 g3 : fT} (h2 : X.2 = M.2) (h : ∀ k, (k < 8 ∨ 12 ≤ k) → X.1 k = M.1 k) (e0 : X.1 8 = g0) (e1 : X.1 9 = g1) (e2 : X.1 10 = g2) (e3 : X.1 11 = g3) : X = txM M g0 g1 g2 g3 := by
  refine Prod.ext (funext fun q => ?_) h2
  by_cases hq : q < 8 ∨ 12 ≤ q
  · rw [txM_ne _ _ _ _ _ hq]; exact h q hq
  · have : q = 8 ∨ q = 9 ∨ q = 10 ∨ q = 11 := by omega
    rcases this with z | z | z | z <;> subst z
    · rw [txM_8]; exact e0
    · rw [txM_9]; exact e1
    · rw [txM_10]; exact e2
    · rw [txM_11]; exact e3
theorem txM_eta (M : am_M) : txM M (M.1 8) (M.1 9) (M.1 10) (M.1 11) = M := (txM_x rfl (fun _ _ => rfl) rfl rfl rfl rfl).symm
theorem txM_u8 (M : am_M) (g0 g1 g2 g3 g : fT) : ((am_u (txM M g0 g1 g2 g3).1 8 g, (txM M g0 g1 g2 g3).2) : am_M) = txM M g g1 g2 g3 := by
  refine txM_x rfl (fun k hk => ?_) ?_ ?_ ?_ ?_
  · rw [au0 _ _ _ (by omega), txM_ne _ _ _ _ _ hk]
  · exact au1 _ _ _ _
  · rw [au0 _ _ _ (by decide), txM_9]
  · rw [au0 _ _ _ (by decide), txM_10]
  · rw [au0 _ _ _ (by decide), txM_11]
theorem txM_u9 (M : am_M) (g0 g1 g2 g3 g : fT) : ((am_u (txM M g0 g1 g2 g3).1 9 g, (txM M g0 g1 g2 g3).2) : am_M) = txM M g0 g g2 g3 := by
  refine txM_x rfl (fun k hk => ?_) ?_ ?_ ?_ ?_
  · rw [au0 _ _ _ (by omega), txM_ne _ _ _ _ _ hk]
  · rw [au0 _ _ _ (by decide), txM_8]
  · exact au1 _ _ _ _
  · rw [au0 _ _ _ (by decide), txM_10]
  · rw [au0 _ _ _ (by decide), txM_11]
theorem txM_u10 (M : am_M) (g0 g1 g2 g3 g : fT) : ((am_u (txM M g0 g1 g2 g3).1 10 g, (txM M g0 g1 g2 g3).2) : am_M) = txM M g0 g1 g g3 := by
  refine txM_x rfl (fun k hk => ?_) ?_ ?_ ?_ ?_
  · rw [au0 _ _ _ (by omega), txM_ne _ _ _ _ _ hk]
  · rw [au0 _ _ _ (by decide), txM_8]
  · rw [au0 _ _ _ (by decide), txM_9]
  · exact au1 _ _ _ _
  · rw [au0 _ _ _ (by decide), txM_11]
theorem txM_u11 (M : am_M) (g0 g1 g2 g3 g : fT) : ((am_u (txM M g0 g1 g2 g3).1 11 g, (txM M g0 g1 g2 g3).2) : am_M) = txM M g0 g1 g2 g := by
  refine txM_x rfl (fun k hk => ?_) ?_ ?_ ?_ ?_
  · rw [au0 _ _ _ (by omega), txM_ne _ _ _ _ _ hk]
  · rw [au0 _ _ _ (by decide), txM_8]
  · rw [au0 _ _ _ (by decide), txM_9]
  · rw [au0 _ _ _ (by decide), txM_10]
  · exact au1 _ _ _ _
theorem txM_txM (M : am_M) (g0 g1 g2 g3 g0' g1' g2' g3' : fT) : txM (txM M g0 g1 g2 g3) g0' g1' g2' g3' = txM M g0' g1' g2' g3' := by
  refine txM_x rfl (fun k hk => ?_) (txM_8 _ _ _ _ _) (txM_9 _ _ _ _ _) (txM_10 _ _ _ _ _) (txM_11 _ _ _ _ _)
  rw [txM_ne _ _ _ _ _ hk, txM_ne _ _ _ _ _ hk]
