theorem nI_dec {k : Nat} (h : 1 ≤ k) : nI k + Int32.ofInt (-1) = nI (k - 1) := by
  have e : nI (k - 1) + nI 1 = nI k := by rw [nI_add, Nat.sub_add_cancel h]
  rw [← e, Int32.add_assoc, show nI 1 + Int32.ofInt (-1) = 0 by decide, Int32.add_zero]
theorem lLw_pos {cn : Int32 → Nat} {s : List Int32} (hl : 1 < s.length) (h : ∀ c, c ∈ s → 1 ≤ cn c) : 0 < lLw cn s := by
  have hw := lLw_ok cn s
  rcases Nat.eq_zero_or_pos (lLw cn s) with q | q
  · exfalso
    have h2 := hw.2
    rw [q] at h2
    refine h2 ⟨?_, by omega⟩
    show 2 * 0 < _
    exact lS_pos (by omega) h
  · exact q
def bxM (M : am_M) (bx : fT) : am_M := (am_u M.1 45 bx, M.2)
theorem bxM_45 (M : am_M) (bx : fT) : (bxM M bx).1 45 = bx := by simp [bxM, am_u]
theorem bxM_ne (M : am_M) (bx : fT) {k : Nat} (h : k ≠ 45) : (bxM M bx).1 k = M.1 k := am_u_ne _ _ h
theorem bxM_u (M : am_M) (bx g : fT) : ((am_u (bxM M bx).1 45 g, (bxM M bx).2) : am_M) = bxM M g := by unfold bxM; simp only [am_u_u]
theorem bxM_eta (M : am_M) : bxM M (M.1 45) = M := by unfold bxM; rw [am_u_eta]
/-- boxes and their number -/
def spM (M : am_M) (nb : Nat) (bx : fT) : am_M := (am_u (am_u M.1 33 (upd (M.1 33) 16 (nI nb))) 45 bx, M.2)
theorem spM_45 (M : am_M) (nb : Nat) (bx : fT) : (spM M nb bx).1 45 = bx := by simp [spM, am_u]
theorem spM_33 (M : am_M) (nb : Nat) (bx : fT) : (spM M nb bx).1 33 = upd (M.1 33) 16 (nI nb) := by simp [spM, am_u]
theorem spM_ne (M : am_M) (nb : Nat) (bx : fT) {k : Nat} (h : k ≠ 45 ∧ k ≠ 33) : (spM M nb bx).1 k = M.1 k := by simp [spM, am_u, h.1, h.2]
theorem spM_sp (M : am_M) (nb nb' : Nat) (bx bx' : fT) : spM (spM M nb bx) nb' bx' = spM M nb' bx' := by
  unfold spM
  refine Prod.ext (funext fun q => ?_) rfl
  have e : ∀ x y, upd (upd (M.1 33) 16 x) 16 y = upd (M.1 33) 16 y := by intro x y; funext j; simp only [upd]; split <;> rfl
  simp only [am_u]
  by_cases h4 : q = 45 <;> by_cases h3 : q = 33 <;> simp_all
theorem spM_bx (M : am_M) (nb : Nat) (bx : fT) : ((am_u (bxM M bx).1 33 (upd ((bxM M bx).1 33) 16 (nI nb)), (bxM M bx).2) : am_M) = spM M nb bx := by
  unfold spM bxM
  refine Prod.ext (funext fun q => ?_) rfl
  simp only [am_u]
  by_cases h4 : q = 45 <;> by_cases h3 : q = 33 <;> simp_all
theorem bL_le256 {h bx : fT} {b n : Nat} (hn : n ≤ 256) : (bL h bx b n).length ≤ 256 := Nat.le_trans (bL_len h bx b n) hn
theorem cha_lt0 {x y : Int32} {c : Nat} : cha x c - cha y c < 0 ↔ chN x c < chN y c := by
  obtain ⟨a1, a2⟩ := chN_lt x c
  obtain ⟨b1, b2⟩ := chN_lt y c
  rw [a2, b2, Int32.lt_iff_toInt_lt, Int32.toInt_sub, nI_toInt (by omega), nI_toInt (by omega), Int.bmod_eq_of_le (by omega) (by omega), Int32.toInt_zero]
  omega
theorem cha_eq0 {x y : Int32} {c : Nat} : cha x c - cha y c = 0 ↔ chN x c = chN y c := by
  obtain ⟨a1, a2⟩ := chN_lt x c
  obtain ⟨b1, b2⟩ := chN_lt y c
  rw [a2, b2, ← Int32.toInt_inj, Int32.toInt_sub, nI_toInt (by omega), nI_toInt (by omega), Int.bmod_eq_of_le (by omega) (by omega), Int32.toInt_zero]
  omega
