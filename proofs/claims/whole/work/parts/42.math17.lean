/-! the different colors -/
def plc (h : fT) (c : Int32) : Nat → Option Nat
  | 0 => none
  | k + 1 => match plc h c k with
    | some q => some q
    | none => if h k = c then some k else none
theorem plc_s (h : fT) (c : Int32) (k : Nat) : plc h c (k + 1) = match plc h c k with
    | some q => some q
    | none => if h k = c then some k else none := rfl
theorem plc_some {h : fT} {c : Int32} {k q : Nat} (e : plc h c k = some q) : q < k ∧ h q = c := by
  induction k with
  | zero => cases e
  | succ k ih =>
    rw [plc_s] at e
    cases hx : plc h c k with
    | some q' => rw [hx] at e; cases e; have := ih hx; exact ⟨by omega, this.2⟩
    | none =>
      rw [hx] at e
      dsimp only at e
      split at e
      · next hc => cases e; exact ⟨by omega, hc⟩
      · cases e
theorem plc_none {h : fT} {c : Int32} {k : Nat} (e : plc h c k = none) : ∀ q, q < k → h q ≠ c := by
  induction k with
  | zero => intro q hq; omega
  | succ k ih =>
    rw [plc_s] at e
    cases hx : plc h c k with
    | some q' => rw [hx] at e; cases e
    | none =>
      rw [hx] at e
      dsimp only at e
      split at e
      · cases e
      · next hc =>
        intro q hq
        by_cases hqk : q = k
        · subst hqk; exact hc
        · exact ih hx q (by omega)
theorem plc_stop {h : fT} {c : Int32} {k q : Nat} (e : plc h c k = some q) (j : Nat) : plc h c (k + j) = some q := by
  induction j with
  | zero => exact e
  | succ j ih => show plc h c (k + j + 1) = _; rw [plc_s, ih]
/-- how often a color stands among the first p pixels -/
def cnC (f : fT) (c : Int32) : Nat → Nat
  | 0 => 0
  | p + 1 => cnC f c p + (if f (2 + p) = c then 1 else 0)
theorem cnC_s (f : fT) (c : Int32) (p : Nat) : cnC f c (p + 1) = cnC f c p + (if f (2 + p) = c then 1 else 0) := rfl
theorem cnC_le (f : fT) (c : Int32) (p : Nat) : cnC f c p ≤ p := by
  induction p with
  | zero => exact Nat.le_refl 0
  | succ p ih => rw [cnC_s]; split <;> omega
theorem cnC_0 {f : fT} {c : Int32} {p : Nat} (h : ∀ q, q < p → f (2 + q) ≠ c) : cnC f c p = 0 := by
  induction p with
  | zero => rfl
  | succ p ih => rw [cnC_s, ih (fun q hq => h q (by omega)), if_neg (h p (by omega))]
def GA (f : fT) (ex : Int32 → Bool) (p n : Nat) (h m : fT) : Prop := n ≤ p ∧ (∀ i, i < n → (∃ q, q < p ∧ f (2 + q) = h i) ∧ h i ≠ -1 ∧ ex (h i) = false ∧ m i = nI (cnC f (h i) p)) ∧ (∀ i j, i < n → j < n → h i = h j → i = j) ∧ (∀ q, q < p → f (2 + q) ≠ -1 → ex (f (2 + q)) = false → ∃ i, i < n ∧ h i = f (2 + q))
theorem GA_0 (f : fT) (ex : Int32 → Bool) (h m : fT) : GA f ex 0 0 h m := ⟨Nat.le_refl 0, fun i hi => absurd hi (by omega), fun i j hi => absurd hi (by omega), fun q hq => absurd hq (by omega)⟩
theorem GA_skip {f : fT} {ex : Int32 → Bool} {p n : Nat} {h m : fT} (g : GA f ex p n h m) (hs : f (2 + p) = -1 ∨ ex (f (2 + p)) = true) : GA f ex (p + 1) n h m := by
  obtain ⟨g1, g2, g3, g4⟩ := g
  refine ⟨by omega, fun i hi => ?_, g3, fun q hq h1 h2 => ?_⟩
  · obtain ⟨⟨q, a1, a2⟩, a3, a4, a5⟩ := g2 i hi
    refine ⟨⟨q, by omega, a2⟩, a3, a4, ?_⟩
    rw [cnC_s, if_neg, a5]
    · rfl
    · intro z
      rw [z] at hs
      rcases hs with q | q
      · exact a3 q
      · rw [a4] at q; cases q
  · by_cases hqp : q = p
    · subst hqp
      rcases hs with z | z
      · exact absurd z h1
      · rw [h2] at z; cases z
    · exact g4 q (by omega) h1 h2
theorem GA_old {f : fT} {ex : Int32 → Bool} {p n k : Nat} {h m : fT} (g : GA f ex p n h m) (hk : k < n) (hc : h k = f (2 + p)) : GA f ex (p + 1) n h (upd m k (nI (cnC f (h k) p + 1))) := by
  obtain ⟨g1, g2, g3, g4⟩ := g
  refine ⟨by omega, fun i hi => ?_, g3, fun q hq h1 h2 => ?_⟩
  · obtain ⟨⟨q, a1, a2⟩, a3, a4, a5⟩ := g2 i hi
    refine ⟨⟨q, by omega, a2⟩, a3, a4, ?_⟩
    by_cases hik : i = k
    · subst hik
      rw [upd_self, cnC_s, if_pos hc.symm]
    · rw [upd_ne _ _ hik, cnC_s, if_neg (fun z => hik (g3 i k hi hk (z.symm.trans hc.symm))), a5]
      rfl
  · by_cases hqp : q = p
    · subst hqp; exact ⟨k, hk, hc⟩
    · exact g4 q (by omega) h1 h2
theorem GA_new {f : fT} {ex : Int32 → Bool} {p n : Nat} {h m : fT} (g : GA f ex p n h m) (hn : ∀ q, q < n → h q ≠ f (2 + p)) (h1 : f (2 + p) ≠ -1) (h2 : ex (f (2 + p)) = false) : GA f ex (p + 1) (n + 1) (upd h n (f (2 + p))) (upd m n (nI 1)) := by
  obtain ⟨g1, g2, g3, g4⟩ := g
  have hno : ∀ q, q < p → f (2 + q) ≠ f (2 + p) := by
    intro q hq z
    obtain ⟨i, i1, i2⟩ := g4 q hq (by rw [z]; exact h1) (by rw [z]; exact h2)
    exact hn i i1 (i2.trans z)
  refine ⟨by omega, fun i hi => ?_, fun i j hi hj hij => ?_, fun q hq z1 z2 => ?_⟩
  · by_cases hin : i = n
    · subst hin
      rw [upd_self, upd_self, cnC_s, if_pos rfl, cnC_0 hno]
      exact ⟨⟨p, by omega, rfl⟩, h1, h2, rfl⟩
    · rw [upd_ne _ _ hin, upd_ne _ _ hin]
      obtain ⟨⟨q, a1, a2⟩, a3, a4, a5⟩ := g2 i (by omega)
      refine ⟨⟨q, by omega, a2⟩, a3, a4, ?_⟩
      rw [cnC_s, if_neg (fun z => hn i (by omega) z.symm), a5]
      rfl
  · by_cases hin : i = n <;> by_cases hjn : j = n
    · omega
    · subst hin; rw [upd_self, upd_ne _ _ hjn] at hij; exact absurd hij.symm (hn j (by omega))
    · subst hjn; rw [upd_self, upd_ne _ _ hin] at hij; exact absurd hij (hn i (by omega))
    · rw [upd_ne _ _ hin, upd_ne _ _ hjn] at hij; exact g3 i j (by omega) (by omega) hij
  · by_cases hqp : q = p
    · subst hqp; exact ⟨n, by omega, upd_self _ _ _⟩
    · obtain ⟨i, i1, i2⟩ := g4 q (by omega) z1 z2
      exact ⟨i, by omega, by rw [upd_ne _ _ (by omega)]; exact i2⟩
def gaM (M : am_M) (n : Nat) (h m : fT) : am_M := (am_u (am_u (am_u M.1 33 (upd (M.1 33) 7 (nI n))) 37 h) 38 m, M.2)
theorem gaM_33 (M : am_M) (n : Nat) (h m : fT) : (gaM M n h m).1 33 = upd (M.1 33) 7 (nI n) := by simp [gaM, am_u]
theorem gaM_7 (M : am_M) (n : Nat) (h m : fT) : (gaM M n h m).1 33 7 = nI n := by rw [gaM_33, upd_self]
theorem gaM_37 (M : am_M) (n : Nat) (h m : fT) : (gaM M n h m).1 37 = h := by simp [gaM, am_u]
theorem gaM_38 (M : am_M) (n : Nat) (h m : fT) : (gaM M n h m).1 38 = m := by simp [gaM, am_u]
theorem gaM_ne (M : am_M) (n : Nat) (h m : fT) {k : Nat} (hk : k ≠ 33 ∧ k ≠ 37 ∧ k ≠ 38) : (gaM M n h m).1 k = M.1 k := by simp [gaM, am_u, hk.1, hk.2.1, hk.2.2]
theorem gaM_h (M : am_M) (n : Nat) (h m g : fT) : ((am_u (gaM M n h m).1 37 g, (gaM M n h m).2) : am_M) = gaM M n g m := by
  refine Prod.ext (funext fun q => ?_) rfl
  simp only [gaM, am_u]
  by_cases h4 : q = 38 <;> by_cases h3 : q = 37 <;> simp_all
theorem gaM_m (M : am_M) (n : Nat) (h m g : fT) : ((am_u (gaM M n h m).1 38 g, (gaM M n h m).2) : am_M) = gaM M n h g := by
  refine Prod.ext (funext fun q => ?_) rfl
  simp only [gaM, am_u]
  by_cases h4 : q = 38 <;> by_cases h3 : q = 37 <;> simp_all
theorem gaM_n (M : am_M) (n n' : Nat) (h m : fT) : ((am_u (gaM M n h m).1 33 (upd ((gaM M n h m).1 33) 7 (nI n')), (gaM M n h m).2) : am_M) = gaM M n' h m := by
  refine Prod.ext (funext fun q => ?_) rfl
  rw [gaM_33]
  have e : upd (upd (M.1 33) 7 (nI n)) 7 (nI n') = upd (M.1 33) 7 (nI n') := by funext j; simp only [upd]; split <;> rfl
  rw [e]
  simp only [gaM, am_u]
  by_cases h4 : q = 38 <;> by_cases h3 : q = 37 <;> by_cases h33 : q = 33 <;> simp_all
abbrev exF (f : fT) (b : Int32) (c : Int32) : Bool := decide (b ≠ 0) && lkc f c (fN f)
/-- how many colors come before one -/
def rkN (h m : fT) (a : Nat) : Nat → Nat
  | 0 => 0
  | k + 1 => rkN h m a k + (if m a < m k ∨ (m k = m a ∧ h k < h a) then 1 else 0)
theorem rkN_s (h m : fT) (a k : Nat) : rkN h m a (k + 1) = rkN h m a k + (if m a < m k ∨ (m k = m a ∧ h k < h a) then 1 else 0) := rfl
theorem rkN_le (h m : fT) (a k : Nat) : rkN h m a k ≤ k := by
  induction k with
  | zero => exact Nat.le_refl 0
  | succ k ih => rw [rkN_s]; split <;> omega
/-- the first place with a rank -/
def rkA (h m : fT) (n : Nat) (r : Int32) : Nat → Option Nat
  | 0 => none
  | k + 1 => match rkA h m n r k with
    | some q => some q
    | none => if nI (rkN h m k n) = r then some k else none
theorem rkA_s (h m : fT) (n : Nat) (r : Int32) (k : Nat) : rkA h m n r (k + 1) = match rkA h m n r k with
    | some q => some q
    | none => if nI (rkN h m k n) = r then some k else none := rfl
theorem rkA_stop {h m : fT} {n : Nat} {r : Int32} {k q : Nat} (e : rkA h m n r k = some q) (j : Nat) : rkA h m n r (k + j) = some q := by
  induction j with
  | zero => exact e
  | succ j ih => show rkA h m n r (k + j + 1) = _; rw [rkA_s, ih]
