/-! the kept states: a ring of ten snapshots; the i-th of u lies at place (o + i) mod 10 -/
abbrev hnd (j : Nat) : Nat := 49 + 5 * j
def past1 (past : fT) (i : Nat) : fT := fun j => past (549 * i + j)
def HI (M : am_M) (u : Nat) (past : fT) : Prop := u ≤ 10 ∧ M.1 6 2 = nI u ∧ ∃ o, o < 10 ∧ M.1 6 1 = nI o ∧ ∀ i, i < u → wf (past1 past i) ∧ agS (M.1 (hnd ((o + i) % 10))) (M.1 (hnd ((o + i) % 10) + 1)) (M.1 (hnd ((o + i) % 10) + 2)) (M.1 (hnd ((o + i) % 10) + 3)) (M.1 (hnd ((o + i) % 10) + 4)) (past1 past i)
theorem wf_cg {f g : fT} (hf : wf f) (h : ∀ j, j < 549 → g j = f j) : wf g := by
  obtain ⟨w0, h2, h3, h4, h5, h6⟩ := hf
  obtain ⟨v0, v1, v2, v3⟩ := wf0_of w0 (h 0 (by decide)) (h 1 (by decide)) (h 258 (by decide))
  have hA := fA_le w0
  have hN := w0.2.2.2
  have w1 : fA g = fA f := by unfold fA; rw [v1, v2]
  refine ⟨v0, fun q hq => ?_, fun q hq => ?_, ?_, ?_, fun z q hq => ?_⟩
  · rw [w1] at hq; rw [h _ (by omega)]; exact h2 q hq
  · rw [v3] at hq; rw [h _ (by omega), h _ (by omega)]; exact h3 q hq
  · rw [h _ (by decide)]; exact h4
  · rw [h _ (by decide)]; exact h5
  · rw [w1] at hq
    rw [h _ (by omega), h _ (by omega), v3]
    rw [h _ (by decide)] at z
    exact h6 z q hq
theorem agS_cg {a p c l i f g : fT} (hf : wf0 f) (hh : agS a p c l i f) (h : ∀ j, j < 549 → g j = f j) : agS a p c l i g := by
  obtain ⟨h1, h2, h3, h4⟩ := hh
  obtain ⟨v0, v1, v2, v3⟩ := wf0_of hf (h 0 (by decide)) (h 1 (by decide)) (h 258 (by decide))
  have hA := fA_le hf
  have hN := hf.2.2.2
  have w1 : fA g = fA f := by unfold fA; rw [v1, v2]
  refine ⟨⟨?_, ?_, ?_, ?_, ?_⟩, fun q hq => ?_, fun q hq => ?_, fun z q hq => ?_⟩
  · rw [h 0 (by decide)]; exact h1.1
  · rw [h 1 (by decide)]; exact h1.2.1
  · rw [h 258 (by decide)]; exact h1.2.2.1
  · rw [h 291 (by decide)]; exact h1.2.2.2.1
  · rw [h 292 (by decide)]; exact h1.2.2.2.2
  · rw [w1] at hq; rw [h _ (by omega)]; exact h2 q hq
  · rw [v3] at hq; rw [h _ (by omega), h _ (by omega)]; exact h3 q hq
  · rw [w1] at hq; rw [h 292 (by decide)] at z; rw [h _ (by omega)]; exact h4 z q hq
/-- past states behind keeps -/
theorem kpP_old {past f : fT} {u i j : Nat} (hu : u < 10) (hi : i < u) (hj : j < 549) : past1 (kpP past f u) i j = past1 past i j := by
  unfold past1 kpP kpC kpS kpU
  rw [if_neg (show ¬ u = 10 by omega), if_neg (show ¬ u = 10 by omega), if_neg (by omega)]
theorem kpP_new {past f : fT} {u j : Nat} (hu : u < 10) (hj : j < 549) : past1 (kpP past f u) u j = f j := by
  unfold past1 kpP kpC kpU
  rw [if_neg (show ¬ u = 10 by omega), if_pos (by omega), Nat.add_sub_cancel_left]
theorem kpP_old10 {past f : fT} {i j : Nat} (hi : i < 9) (hj : j < 549) : past1 (kpP past f 10) i j = past1 past (i + 1) j := by
  unfold past1 kpP kpC kpS kpU
  rw [if_pos rfl, if_pos rfl, if_neg (by omega)]
  rw [if_pos (by omega)]
  congr 1
  omega
theorem kpP_new10 {past f : fT} {j : Nat} (hj : j < 549) : past1 (kpP past f 10) 9 j = f j := by
  unfold past1 kpP kpC kpU
  rw [if_pos rfl, if_pos (by omega), Nat.add_sub_cancel_left]
def cpQ (M M' : am_M) (D S : Nat) : Prop := M'.2 = M.2 ∧ (∀ k, (k < D ∨ D + 4 < k) → M'.1 k = M.1 k) ∧ (M'.1 D 0 = M.1 S 0 ∧ M'.1 D 1 = M.1 S 1 ∧ M'.1 D 3 = M.1 S 3 ∧ M'.1 D 6 = M.1 S 6 ∧ M'.1 D 7 = M.1 S 7) ∧ (∀ q, q < 256 → M'.1 (D + 1) q = M.1 (S + 1) q) ∧ (∀ q, q < 256 → M'.1 (D + 4) q = M.1 (S + 4) q) ∧ (∀ q, q < 16 → M'.1 (D + 2) q = M.1 (S + 2) q) ∧ (∀ q, q < 16 → M'.1 (D + 3) q = vp_nar .boolean (M.1 (S + 3) q))
/-- what the history keeps of other memories -/
def HF (M M' : am_M) : Prop := M'.2 = M.2 ∧ ∀ k, k ≠ 6 → (k < 49 ∨ 98 < k) → M'.1 k = M.1 k
/-- record -/
theorem HI_rec {M N : am_M} {f : fT} {u o j : Nat} {past : fT} (hf : wf f) (hg : AG M f) (hu : u ≤ 10) (ho : o < 10) (hj : j = (o + u) % 10) (hh : ∀ i, i < u → wf (past1 past i) ∧ agS (M.1 (hnd ((o + i) % 10))) (M.1 (hnd ((o + i) % 10) + 1)) (M.1 (hnd ((o + i) % 10) + 2)) (M.1 (hnd ((o + i) % 10) + 3)) (M.1 (hnd ((o + i) % 10) + 4)) (past1 past i)) (hc : cpQ M N (hnd j) 1) (o' : Nat) (ho' : o' = if u = 10 then (o + 1) % 10 else o) (N' : am_M) (n1 : ∀ k, 49 ≤ k → N'.1 k = N.1 k) (n2 : N'.1 6 2 = nI (kpN u)) (n3 : N'.1 6 1 = nI o') : HI N' (kpN u) (kpP past f u) := by
  obtain ⟨c1, c2, c3, c4, c5, c6, c7⟩ := hc
  have hj10 : j < 10 := by omega
  have slot : agS (N.1 (hnd j)) (N.1 (hnd j + 1)) (N.1 (hnd j + 2)) (N.1 (hnd j + 3)) (N.1 (hnd j + 4)) f := agS_cp hf hg c3 c4 c5 c6 c7
  have other : ∀ q, q < 10 → q ≠ j → ∀ g, agS (M.1 (hnd q)) (M.1 (hnd q + 1)) (M.1 (hnd q + 2)) (M.1 (hnd q + 3)) (M.1 (hnd q + 4)) g → agS (N.1 (hnd q)) (N.1 (hnd q + 1)) (N.1 (hnd q + 2)) (N.1 (hnd q + 3)) (N.1 (hnd q + 4)) g := by
    intro q hq hqj g hgq
    have e : ∀ t, t < 5 → N.1 (hnd q + t) = M.1 (hnd q + t) := by
      intro t ht
      refine c2 _ ?_
      unfold hnd
      omega
    rw [e 1 (by omega), e 2 (by omega), e 3 (by omega), e 4 (by omega), show N.1 (hnd q) = M.1 (hnd q) from e 0 (by omega)]
    exact hgq
  have big : ∀ q t, N'.1 (hnd q + t) = N.1 (hnd q + t) := fun q t => n1 _ (by unfold hnd; omega)
  have fin : ∀ q g, agS (N.1 (hnd q)) (N.1 (hnd q + 1)) (N.1 (hnd q + 2)) (N.1 (hnd q + 3)) (N.1 (hnd q + 4)) g → agS (N'.1 (hnd q)) (N'.1 (hnd q + 1)) (N'.1 (hnd q + 2)) (N'.1 (hnd q + 3)) (N'.1 (hnd q + 4)) g := by
    intro q g hq
    rw [big q 1, big q 2, big q 3, big q 4, show N'.1 (hnd q) = N.1 (hnd q) from big q 0]
    exact hq
  refine ⟨by unfold kpN; split <;> omega, n2, o', by rw [ho']; split <;> omega, n3, fun i hi => ?_⟩
  by_cases h10 : u = 10
  · subst h10
    rw [if_pos rfl] at ho'
    have hk : kpN 10 = 10 := rfl
    rw [hk] at hi
    by_cases hi9 : i = 9
    · subst hi9
      have hp : (o' + 9) % 10 = j := by omega
      rw [hp]
      have e : ∀ q, q < 549 → past1 (kpP past f 10) 9 q = f q := fun q hq => kpP_new10 hq
      exact ⟨wf_cg hf e, agS_cg hf.1 (fin j f slot) e⟩
    · obtain ⟨a1, a2⟩ := hh (i + 1) (by omega)
      have hp : (o' + i) % 10 = (o + (i + 1)) % 10 := by omega
      rw [hp]
      have e : ∀ q, q < 549 → past1 (kpP past f 10) i q = past1 past (i + 1) q := fun q hq => kpP_old10 (by omega) hq
      exact ⟨wf_cg a1 e, agS_cg a1.1 (fin _ _ (other _ (by omega) (by omega) _ a2)) e⟩
  · rw [if_neg h10] at ho'
    subst ho'
    have hk : kpN u = u + 1 := by unfold kpN; rw [if_neg h10]
    rw [hk] at hi
    by_cases hiu : i = u
    · subst hiu
      rw [← hj]
      have e : ∀ q, q < 549 → past1 (kpP past f i) i q = f q := fun q hq => kpP_new (by omega) hq
      exact ⟨wf_cg hf e, agS_cg hf.1 (fin j f slot) e⟩
    · obtain ⟨a1, a2⟩ := hh i (by omega)
      have e : ∀ q, q < 549 → past1 (kpP past f u) i q = past1 past i q := fun q hq => kpP_old (by omega) (by omega) hq
      exact ⟨wf_cg a1 e, agS_cg a1.1 (fin _ _ (other _ (by omega) (by omega) _ a2)) e⟩
theorem au1 (F : Nat → Nat → Int32) (J : Nat → Nat → Int64) (k : Nat) (g : fT) : ((am_u F k g, J) : am_M).1 k = g := am_u_self F k g
theorem au0 (F : Nat → Nat → Int32) (J : Nat → Nat → Int64) {k q : Nat} (g : fT) (h : q ≠ k) : ((am_u F k g, J) : am_M).1 q = F q := am_u_ne _ _ h
