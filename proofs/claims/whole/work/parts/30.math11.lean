def raM (M : am_M) (A B F : fT) : am_M := (am_u (am_u (am_u M.1 40 A) 41 B) 34 F, M.2)
theorem raM_34 (M : am_M) (A B F : fT) : (raM M A B F).1 34 = F := by simp [raM, am_u]
theorem raM_40 (M : am_M) (A B F : fT) : (raM M A B F).1 40 = A := by simp [raM, am_u]
theorem raM_41 (M : am_M) (A B F : fT) : (raM M A B F).1 41 = B := by simp [raM, am_u]
theorem raM_ne (M : am_M) (A B F : fT) {k : Nat} (h : k ≠ 34 ∧ k ≠ 40 ∧ k ≠ 41) : (raM M A B F).1 k = M.1 k := by simp [raM, am_u, h.1, h.2.1, h.2.2]
theorem raM_u34 (M : am_M) (A B F G : fT) : ((am_u (raM M A B F).1 34 G, (raM M A B F).2) : am_M) = raM M A B G := by
  refine Prod.ext (funext fun q => ?_) rfl
  simp only [raM, am_u]
  by_cases h4 : q = 34 <;> simp_all
theorem raM_u40 (M : am_M) (A B F G : fT) : ((am_u (raM M A B F).1 40 G, (raM M A B F).2) : am_M) = raM M G B F := by
  refine Prod.ext (funext fun q => ?_) rfl
  simp only [raM, am_u]
  by_cases h4 : q = 34 <;> by_cases h0 : q = 40 <;> by_cases h1 : q = 41 <;> simp_all
theorem raM_u41 (M : am_M) (A B F G : fT) : ((am_u (raM M A B F).1 41 G, (raM M A B F).2) : am_M) = raM M A G F := by
  refine Prod.ext (funext fun q => ?_) rfl
  simp only [raM, am_u]
  by_cases h4 : q = 34 <;> by_cases h0 : q = 40 <;> by_cases h1 : q = 41 <;> simp_all
theorem raM_eta (M : am_M) : raM M (M.1 40) (M.1 41) (M.1 34) = M := by
  refine Prod.ext (funext fun q => ?_) rfl
  simp only [raM, am_u]
  by_cases h4 : q = 34 <;> by_cases h0 : q = 40 <;> by_cases h1 : q = 41 <;> simp_all
theorem raC_n (f : fT) (og : Nat → Nat) {k j : Nat} (h : j < 259 ∨ 291 ≤ j) (hk : k ≤ 16) : raC f og k j = f j := by
  unfold raC; rw [if_neg (by omega), if_neg (by omega)]
/-- one index, the inner loop -/
theorem raI_in (g : fT) (og : Nat → Nat) (p e : Nat) (was : Int32) : upd (upd g (293 + p) (newI og was e)) (293 + p) (if nI (og e) = was then nI e else newI og was e) = upd g (293 + p) (newI og was (e + 1)) := by
  funext j
  simp only [upd, newI_s]
  split <;> rfl
theorem raI_s (f : fT) (og : Nat → Nat) (n k : Nat) : upd (raI f og n k) (293 + k) (newI og (f (293 + k)) n) = raI f og n (k + 1) := st_s f 293 k _
theorem raI_out (f : fT) (og : Nat → Nat) (n : Nat) {k j : Nat} (h : j < 293 ∨ 293 + k ≤ j) : raI f og n k j = f j := st_out f _ h
theorem raI_0 (f : fT) (og : Nat → Nat) (n : Nat) : raI f og n 0 = f := st_0 f 293 _
theorem upd_eta (f : fT) (k : Nat) : upd f k (f k) = f := by
  funext j; simp only [upd]; split
  · next h => rw [h]
  · rfl
def raF (f : fT) (og : Nat → Nat) : fT := raI (raC f og (fN f)) og (fN f) (if f 292 = 1 then fA f else 0)
