/-! the text as a palette: answer, entries read, their colors and locks -/
def prs (t : fT) (n : Nat) : Nat → Nat → Nat → fT → fT → Int32 × Nat × fT × fT
  | 0, _, r, rc, rl => (-1, r, rc, rl)
  | m + 1, i, r, rc, rl => if n ≤ i then (-1, r, rc, rl) else
    if t i = nI 35 ∧ r < 16 then
      if rdC t n (i + 1) = -1 then (nI (i + 1 + dgN t n (i + 1) 6), r, upd rc r (rdC t n (i + 1)), rl)
      else if i + 1 + dgN t n (i + 1) 6 < n ∧ t (i + 1 + dgN t n (i + 1) 6) = nI 33 then prs t n m (i + 1 + dgN t n (i + 1) 6 + 1) (r + 1) (upd rc r (rdC t n (i + 1))) (upd rl r (nI 1))
      else prs t n m (i + 1 + dgN t n (i + 1) 6) (r + 1) (upd rc r (rdC t n (i + 1))) (upd rl r (nI 0))
    else if t i = nI 32 ∨ t i = nI 44 then prs t n m (i + 1) r rc rl
    else (nI i, r, rc, rl)
def flM (M : am_M) (r : Nat) (rc rl : fT) : am_M := (am_u (am_u (am_u M.1 33 (upd (M.1 33) 14 (nI r))) 43 rc) 44 rl, M.2)
theorem flM_33 (M : am_M) (r : Nat) (rc rl : fT) : (flM M r rc rl).1 33 = upd (M.1 33) 14 (nI r) := by simp [flM, am_u]
theorem flM_43 (M : am_M) (r : Nat) (rc rl : fT) : (flM M r rc rl).1 43 = rc := by simp [flM, am_u]
theorem flM_44 (M : am_M) (r : Nat) (rc rl : fT) : (flM M r rc rl).1 44 = rl := by simp [flM, am_u]
theorem flM_ne (M : am_M) (r : Nat) (rc rl : fT) {k : Nat} (h : k ≠ 33 ∧ k ≠ 43 ∧ k ≠ 44) : (flM M r rc rl).1 k = M.1 k := by simp [flM, am_u, h.1, h.2.1, h.2.2]
theorem flM_c (M : am_M) (r : Nat) (rc rl g : fT) : ((am_u (flM M r rc rl).1 43 g, (flM M r rc rl).2) : am_M) = flM M r g rl := by
  refine Prod.ext (funext fun q => ?_) rfl
  simp only [flM, am_u]
  by_cases h4 : q = 44 <;> by_cases h3 : q = 43 <;> simp_all
theorem flM_l (M : am_M) (r : Nat) (rc rl g : fT) : ((am_u (flM M r rc rl).1 44 g, (flM M r rc rl).2) : am_M) = flM M r rc g := by
  refine Prod.ext (funext fun q => ?_) rfl
  simp only [flM, am_u]
  by_cases h4 : q = 44 <;> by_cases h3 : q = 43 <;> simp_all
theorem flM_r (M : am_M) (r r' : Nat) (rc rl : fT) : ((am_u (flM M r rc rl).1 33 (upd ((flM M r rc rl).1 33) 14 (nI r')), (flM M r rc rl).2) : am_M) = flM M r' rc rl := by
  refine Prod.ext (funext fun q => ?_) rfl
  rw [flM_33]
  have e : upd (upd (M.1 33) 14 (nI r)) 14 (nI r') = upd (M.1 33) 14 (nI r') := by funext j; simp only [upd]; split <;> rfl
  rw [e]
  simp only [flM, am_u]
  by_cases h4 : q = 44 <;> by_cases h3 : q = 43 <;> by_cases h33 : q = 33 <;> simp_all
theorem prs_le (t : fT) (n m i r : Nat) (rc rl : fT) (hr : r ≤ 16) : (prs t n m i r rc rl).2.1 ≤ 16 := by
  induction m generalizing i r rc rl with
  | zero => exact hr
  | succ m ih =>
    unfold prs
    split
    · exact hr
    · split
      · next h =>
        split
        · exact hr
        · split
          · exact ih _ _ _ _ (by omega)
          · exact ih _ _ _ _ (by omega)
      · split
        · exact ih _ _ _ _ hr
        · exact hr
def ldS (f rc rl : fT) (k : Nat) : fT := fun j => if 259 ≤ j ∧ j < 259 + k then rc (j - 259) else if 275 ≤ j ∧ j < 275 + k then rl (j - 275) else f j
theorem ld_0 (f rc rl : fT) : ldS f rc rl 0 = f := by
  funext j; unfold ldS; rw [if_neg (by omega), if_neg (by omega)]
theorem ld_s (f rc rl : fT) (k : Nat) (hk : k < 16) : upd (upd (ldS f rc rl k) (259 + k) (rc k)) (275 + k) (rl k) = ldS f rc rl (k + 1) := by
  funext j
  unfold ldS
  by_cases h1 : j = 275 + k
  · subst h1
    rw [upd_self, if_neg (by omega), if_pos (by omega), Nat.add_sub_cancel_left]
  · rw [upd_ne _ _ h1]
    by_cases h2 : j = 259 + k
    · subst h2
      rw [upd_self, if_pos (by omega), Nat.add_sub_cancel_left]
    · rw [upd_ne _ _ h2]
      by_cases h3 : 259 ≤ j ∧ j < 259 + k
      · rw [if_pos h3, if_pos (show 259 ≤ j ∧ j < 259 + (k + 1) by omega)]
      · rw [if_neg h3, if_neg (show ¬ (259 ≤ j ∧ j < 259 + (k + 1)) by omega)]
        by_cases h4 : 275 ≤ j ∧ j < 275 + k
        · rw [if_pos h4, if_pos (show 275 ≤ j ∧ j < 275 + (k + 1) by omega)]
        · rw [if_neg h4, if_neg (show ¬ (275 ≤ j ∧ j < 275 + (k + 1)) by omega)]
def ldF (f rc rl : fT) (r : Nat) : fT := upd (ldS (upd f 258 (nI 0)) rc rl r) 258 (nI r)
