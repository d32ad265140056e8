/-! sorting rows of longs -/
abbrev jT : Type := Nat → Int64
def sgL (K : jT) (a : Nat) : Nat → List Int64
  | 0 => []
  | n + 1 => K (a + n) :: sgL K a n
theorem sgL_s (K : jT) (a n : Nat) : sgL K a (n + 1) = K (a + n) :: sgL K a n := rfl
theorem sgL_cg {K L : jT} {a n : Nat} (h : ∀ j, a ≤ j → j < a + n → K j = L j) : sgL K a n = sgL L a n := by
  induction n with
  | zero => rfl
  | succ n ih => rw [sgL_s, sgL_s, h (a + n) (by omega) (by omega), ih (fun j h1 h2 => h j h1 (by omega))]
theorem sgL_u {K : jT} {a n i : Nat} (v : Int64) (h1 : a ≤ i) (h2 : i < a + n) : List.Perm (v :: sgL K a n) (K i :: sgL (vp_updL K i v) a n) := by
  induction n with
  | zero => omega
  | succ n ih =>
    rw [sgL_s, sgL_s]
    by_cases h : i = a + n
    · subst h
      have e : sgL (vp_updL K (a + n) v) a n = sgL K a n := sgL_cg (fun j j1 j2 => by simp [vp_updL, show j ≠ a + n by omega])
      rw [e, updL_self]
      exact List.Perm.swap _ _ _
    · have e : vp_updL K i v (a + n) = K (a + n) := by simp [vp_updL, show a + n ≠ i by omega]
      rw [e]
      exact (List.Perm.swap _ _ _).trans ((List.Perm.cons _ (ih (by omega))).trans (List.Perm.swap _ _ _))
def PS (K L : jT) (a n : Nat) : Prop := List.Perm (sgL K a n) (sgL L a n) ∧ ∀ j, (j < a ∨ a + n ≤ j) → K j = L j
theorem PS_refl (K : jT) (a n : Nat) : PS K K a n := ⟨List.Perm.refl _, fun _ _ => rfl⟩
/-- while one key is held out -/
def PH (K L : jT) (a n fr : Nat) (key : Int64) : Prop := List.Perm (key :: sgL K a n) (K fr :: sgL L a n) ∧ ∀ j, (j < a ∨ a + n ≤ j) → K j = L j
theorem PH_0 {K L : jT} {a n i : Nat} (h : PS K L a n) : PH K L a n i (K i) := ⟨List.Perm.cons _ h.1, h.2⟩
theorem PH_s {K L : jT} {a n fr g : Nat} {key : Int64} (h : PH K L a n fr key) (h1 : a + g ≤ fr) (h2 : fr < a + n) (hg : 1 ≤ g) : PH (vp_updL K fr (K (fr - g))) L a n (fr - g) key := by
  refine ⟨?_, fun j hj => ?_⟩
  · have e : vp_updL K fr (K (fr - g)) (fr - g) = K (fr - g) := by simp [vp_updL, show fr - g ≠ fr by omega]
    rw [e]
    have u := sgL_u (K := K) (K (fr - g)) (show a ≤ fr by omega) h2
    have s1 : List.Perm (K fr :: key :: sgL (vp_updL K fr (K (fr - g))) a n) (key :: K (fr - g) :: sgL K a n) := (List.Perm.swap _ _ _).trans (List.Perm.cons _ u.symm)
    have s2 : List.Perm (key :: K (fr - g) :: sgL K a n) (K fr :: K (fr - g) :: sgL L a n) := (List.Perm.swap _ _ _).trans ((List.Perm.cons _ h.1).trans (List.Perm.swap _ _ _))
    exact (s1.trans s2).cons_inv
  · rw [show vp_updL K fr (K (fr - g)) j = K j by simp [vp_updL, show j ≠ fr by omega]]
    exact h.2 j hj
theorem PH_e {K L : jT} {a n fr : Nat} {key : Int64} (h : PH K L a n fr key) (h1 : a ≤ fr) (h2 : fr < a + n) : PS (vp_updL K fr key) L a n := by
  refine ⟨?_, fun j hj => ?_⟩
  · exact ((sgL_u (K := K) key h1 h2).symm.trans h.1).cons_inv
  · rw [show vp_updL K fr key j = K j by simp [vp_updL, show j ≠ fr by omega]]
    exact h.2 j hj
def SO (K : jT) (a n : Nat) : Prop := ∀ i j, a ≤ i → i < j → j < a + n → K i ≤ K j
def HO (K : jT) (a i fr : Nat) (key : Int64) : Prop := (∀ p q, a ≤ p → p < q → q ≤ i → p ≠ fr → q ≠ fr → K p ≤ K q) ∧ ∀ q, fr < q → q ≤ i → key < K q
theorem HO_0 {K : jT} {a i : Nat} (h : SO K a (i - a)) (hi : a ≤ i) : HO K a i i (K i) := ⟨fun p q h1 h2 h3 _ h5 => h p q h1 h2 (by omega), fun q h1 h2 => by omega⟩
theorem HO_s {K : jT} {a i fr : Nat} {key : Int64} (h : HO K a i fr key) (h1 : a + 1 ≤ fr) (h2 : fr ≤ i) (hk : key < K (fr - 1)) : HO (vp_updL K fr (K (fr - 1))) a i (fr - 1) key := by
  have e : ∀ j, j ≠ fr → vp_updL K fr (K (fr - 1)) j = K j := fun j hj => by simp [vp_updL, hj]
  have e1 : vp_updL K fr (K (fr - 1)) fr = K (fr - 1) := updL_self _ _ _
  refine ⟨fun p q p1 p2 p3 p4 p5 => ?_, fun q q1 q2 => ?_⟩
  · by_cases hp : p = fr
    · subst hp
      rw [e1, e q (by omega)]
      exact h.1 (p - 1) q (by omega) (by omega) p3 (by omega) (by omega)
    · by_cases hq : q = fr
      · subst hq
        rw [e1, e p hp]
        exact h.1 p (q - 1) p1 (by omega) (by omega) hp (by omega)
      · rw [e p hp, e q hq]
        exact h.1 p q p1 p2 p3 hp hq
  · by_cases hq : q = fr
    · subst hq; rw [e1]; exact hk
    · rw [e q hq]; exact h.2 q (by omega) q2
theorem HO_e {K : jT} {a i fr : Nat} {key : Int64} (h : HO K a i fr key) (h1 : a ≤ fr) (h2 : fr ≤ i) (hk : a + 1 ≤ fr → K (fr - 1) ≤ key) : SO (vp_updL K fr key) a (i + 1 - a) := by
  have e : ∀ j, j ≠ fr → vp_updL K fr key j = K j := fun j hj => by simp [vp_updL, hj]
  have e1 : vp_updL K fr key fr = key := updL_self _ _ _
  intro p q p1 p2 p3
  by_cases hp : p = fr
  · subst hp; rw [e1, e q (by omega)]; exact Int64.le_of_lt (h.2 q p2 (by omega))
  · by_cases hq : q = fr
    · subst hq
      rw [e1, e p hp]
      by_cases hpp : p = q - 1
      · subst hpp; exact hk (by omega)
      · exact Int64.le_trans (h.1 p (q - 1) p1 (by omega) (by omega) hp (by omega)) (hk (by omega))
    · rw [e p hp, e q hq]; exact h.1 p q p1 p2 (by omega) hp hq
theorem subLt {x g a : Nat} (hx : x < 1000) (hg : g < 1000) (ha : a < 1000) : nI x - nI g < nI a ↔ x < a + g := by
  rw [Int32.lt_iff_toInt_lt, Int32.toInt_sub, nI_toInt (by omega), nI_toInt (by omega), nI_toInt (by omega), Int.bmod_eq_of_le (by omega) (by omega)]
  omega
def kyM (M : am_M) (k : Nat) (K : jT) : am_M := (M.1, am_u M.2 k K)
theorem kyM_k (M : am_M) (k : Nat) (K : jT) : (kyM M k K).2 k = K := am_u_self M.2 k K
theorem kyM_ne (M : am_M) {k q : Nat} (K : jT) (h : q ≠ k) : (kyM M k K).2 q = M.2 q := am_u_ne M.2 K h
theorem kyM_1 (M : am_M) (k : Nat) (K : jT) : (kyM M k K).1 = M.1 := rfl
theorem kyM_u (M : am_M) (k : Nat) (K L : jT) : (((kyM M k K).1, am_u (kyM M k K).2 k L) : am_M) = kyM M k L := by unfold kyM; simp only [am_u_u]
theorem kyM_eta (M : am_M) (k : Nat) : kyM M k (M.2 k) = M := by unfold kyM; rw [am_u_eta]
theorem lg_le0 {x y : Int64} : lg_cmp x y ≤ 0 ↔ x ≤ y := by
  constructor
  · intro h
    apply Int64.not_lt.mp
    intro q
    exact Int32.not_lt.mpr h (lg_gt0.mpr q)
  · intro h
    apply Int32.not_lt.mp
    intro q
    exact Int64.not_lt.mpr h (lg_gt0.mp q)
