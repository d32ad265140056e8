/-! the class: rows of the snapshot 'now' replaced -/
def nwM (M : am_M) (a p c l i : fT) : am_M := (am_u (am_u (am_u (am_u (am_u M.1 1 a) 2 p) 3 c) 4 l) 5 i, M.2)
theorem nwM_1 (M : am_M) (a p c l i : fT) : (nwM M a p c l i).1 1 = a := by simp [nwM, am_u]
theorem nwM_2 (M : am_M) (a p c l i : fT) : (nwM M a p c l i).1 2 = p := by simp [nwM, am_u]
theorem nwM_3 (M : am_M) (a p c l i : fT) : (nwM M a p c l i).1 3 = c := by simp [nwM, am_u]
theorem nwM_4 (M : am_M) (a p c l i : fT) : (nwM M a p c l i).1 4 = l := by simp [nwM, am_u]
theorem nwM_5 (M : am_M) (a p c l i : fT) : (nwM M a p c l i).1 5 = i := by simp [nwM, am_u]
theorem nwM_ne (M : am_M) (a p c l i : fT) {k : Nat} (h : k = 0 ∨ 6 ≤ k) : (nwM M a p c l i).1 k = M.1 k := by
  have h1 : k ≠ 1 ∧ k ≠ 2 ∧ k ≠ 3 ∧ k ≠ 4 ∧ k ≠ 5 := by omega
  simp [nwM, am_u, h1.1, h1.2.1, h1.2.2.1, h1.2.2.2.1, h1.2.2.2.2]
theorem nwM_eta (M : am_M) : nwM M (M.1 1) (M.1 2) (M.1 3) (M.1 4) (M.1 5) = M := by
  refine Prod.ext (funext fun q => ?_) rfl
  by_cases h : q = 0 ∨ 6 ≤ q
  · exact nwM_ne _ _ _ _ _ _ h
  · have : q = 1 ∨ q = 2 ∨ q = 3 ∨ q = 4 ∨ q = 5 := by omega
    rcases this with h | h | h | h | h <;> subst h
    · exact nwM_1 _ _ _ _ _ _
    · exact nwM_2 _ _ _ _ _ _
    · exact nwM_3 _ _ _ _ _ _
    · exact nwM_4 _ _ _ _ _ _
    · exact nwM_5 _ _ _ _ _ _
theorem nwM_x {M X : am_M} {a p c l i : fT} (h2 : X.2 = M.2) (h : ∀ k, (k = 0 ∨ 6 ≤ k) → X.1 k = M.1 k) (e1 : X.1 1 = a) (e2 : X.1 2 = p) (e3 : X.1 3 = c) (e4 : X.1 4 = l) (e5 : X.1 5 = i) : X = nwM M a p c l i := by
  refine Prod.ext (funext fun q => ?_) h2
  by_cases hq : q = 0 ∨ 6 ≤ q
  · rw [nwM_ne _ _ _ _ _ _ hq]; exact h q hq
  · have : q = 1 ∨ q = 2 ∨ q = 3 ∨ q = 4 ∨ q = 5 := by omega
    rcases this with z | z | z | z | z <;> subst z
    · rw [nwM_1]; exact e1
    · rw [nwM_2]; exact e2
    · rw [nwM_3]; exact e3
    · rw [nwM_4]; exact e4
    · rw [nwM_5]; exact e5
theorem nwM_nw (M : am_M) (a p c l i a' p' c' l' i' : fT) : nwM (nwM M a p c l i) a' p' c' l' i' = nwM M a' p' c' l' i' := by
  refine nwM_x rfl (fun k hk => ?_) (nwM_1 _ _ _ _ _ _) (nwM_2 _ _ _ _ _ _) (nwM_3 _ _ _ _ _ _) (nwM_4 _ _ _ _ _ _) (nwM_5 _ _ _ _ _ _)
  rw [nwM_ne _ _ _ _ _ _ hk, nwM_ne _ _ _ _ _ _ hk]
theorem nwM_u1 (M : am_M) (a p c l i g : fT) : ((am_u (nwM M a p c l i).1 1 g, (nwM M a p c l i).2) : am_M) = nwM M g p c l i := by
  refine nwM_x rfl (fun k hk => ?_) ?_ ?_ ?_ ?_ ?_
  · show am_u (nwM M a p c l i).1 1 g k = _; rw [am_u_ne _ _ (by omega), nwM_ne _ _ _ _ _ _ hk]
  · exact am_u_self (nwM M a p c l i).1 1 g
  · show am_u (nwM M a p c l i).1 1 g 2 = _; rw [am_u_ne _ _ (by decide), nwM_2]
  · show am_u (nwM M a p c l i).1 1 g 3 = _; rw [am_u_ne _ _ (by decide), nwM_3]
  · show am_u (nwM M a p c l i).1 1 g 4 = _; rw [am_u_ne _ _ (by decide), nwM_4]
  · show am_u (nwM M a p c l i).1 1 g 5 = _; rw [am_u_ne _ _ (by decide), nwM_5]
theorem nwM_u2 (M : am_M) (a p c l i g : fT) : ((am_u (nwM M a p c l i).1 2 g, (nwM M a p c l i).2) : am_M) = nwM M a g c l i := by
  refine nwM_x rfl (fun k hk => ?_) ?_ ?_ ?_ ?_ ?_
  · show am_u (nwM M a p c l i).1 2 g k = _; rw [am_u_ne _ _ (by omega), nwM_ne _ _ _ _ _ _ hk]
  · show am_u (nwM M a p c l i).1 2 g 1 = _; rw [am_u_ne _ _ (by decide), nwM_1]
  · exact am_u_self (nwM M a p c l i).1 2 g
  · show am_u (nwM M a p c l i).1 2 g 3 = _; rw [am_u_ne _ _ (by decide), nwM_3]
  · show am_u (nwM M a p c l i).1 2 g 4 = _; rw [am_u_ne _ _ (by decide), nwM_4]
  · show am_u (nwM M a p c l i).1 2 g 5 = _; rw [am_u_ne _ _ (by decide), nwM_5]
theorem nwM_u3 (M : am_M) (a p c l i g : fT) : ((am_u (nwM M a p c l i).1 3 g, (nwM M a p c l i).2) : am_M) = nwM M a p g l i := by
  refine nwM_x rfl (fun k hk => ?_) ?_ ?_ ?_ ?_ ?_
  · show am_u (nwM M a p c l i).1 3 g k = _; rw [am_u_ne _ _ (by omega), nwM_ne _ _ _ _ _ _ hk]
  · show am_u (nwM M a p c l i).1 3 g 1 = _; rw [am_u_ne _ _ (by decide), nwM_1]
  · show am_u (nwM M a p c l i).1 3 g 2 = _; rw [am_u_ne _ _ (by decide), nwM_2]
  · exact am_u_self (nwM M a p c l i).1 3 g
  · show am_u (nwM M a p c l i).1 3 g 4 = _; rw [am_u_ne _ _ (by decide), nwM_4]
  · show am_u (nwM M a p c l i).1 3 g 5 = _; rw [am_u_ne _ _ (by decide), nwM_5]
theorem nwM_u4 (M : am_M) (a p c l i g : fT) : ((am_u (nwM M a p c l i).1 4 g, (nwM M a p c l i).2) : am_M) = nwM M a p c g i := by
  refine nwM_x rfl (fun k hk => ?_) ?_ ?_ ?_ ?_ ?_
  · show am_u (nwM M a p c l i).1 4 g k = _; rw [am_u_ne _ _ (by omega), nwM_ne _ _ _ _ _ _ hk]
  · show am_u (nwM M a p c l i).1 4 g 1 = _; rw [am_u_ne _ _ (by decide), nwM_1]
  · show am_u (nwM M a p c l i).1 4 g 2 = _; rw [am_u_ne _ _ (by decide), nwM_2]
  · show am_u (nwM M a p c l i).1 4 g 3 = _; rw [am_u_ne _ _ (by decide), nwM_3]
  · exact am_u_self (nwM M a p c l i).1 4 g
  · show am_u (nwM M a p c l i).1 4 g 5 = _; rw [am_u_ne _ _ (by decide), nwM_5]
theorem nwM_u5 (M : am_M) (a p c l i g : fT) : ((am_u (nwM M a p c l i).1 5 g, (nwM M a p c l i).2) : am_M) = nwM M a p c l g := by
  refine nwM_x rfl (fun k hk => ?_) ?_ ?_ ?_ ?_ ?_
  · show am_u (nwM M a p c l i).1 5 g k = _; rw [am_u_ne _ _ (by omega), nwM_ne _ _ _ _ _ _ hk]
  · show am_u (nwM M a p c l i).1 5 g 1 = _; rw [am_u_ne _ _ (by decide), nwM_1]
  · show am_u (nwM M a p c l i).1 5 g 2 = _; rw [am_u_ne _ _ (by decide), nwM_2]
  · show am_u (nwM M a p c l i).1 5 g 3 = _; rw [am_u_ne _ _ (by decide), nwM_3]
  · show am_u (nwM M a p c l i).1 5 g 4 = _; rw [am_u_ne _ _ (by decide), nwM_4]
  · exact am_u_self (nwM M a p c l i).1 5 g
def NW (M : am_M) (f : fT) (M' : am_M) : Prop := ∃ a p c l i, M' = nwM M a p c l i ∧ agS a p c l i f
theorem AG_nw {M : am_M} {a p c l i f : fT} (h : agS a p c l i f) : AG (nwM M a p c l i) f := by
  unfold AG
  rw [nwM_1, nwM_2, nwM_3, nwM_4, nwM_5]
  exact h
theorem NW_AG {M M' : am_M} {f : fT} (h : NW M f M') : AG M' f := by
  obtain ⟨a, p, c, l, i, rfl, h2⟩ := h
  exact AG_nw h2
theorem NW_refl {M : am_M} {f : fT} (h : AG M f) : NW M f M := ⟨_, _, _, _, _, (nwM_eta M).symm, h⟩
theorem NW_tr {M M' M'' : am_M} {f g : fT} (h : NW M f M') (h2 : NW M' g M'') : NW M g M'' := by
  obtain ⟨a, p, c, l, i, rfl, -⟩ := h
  obtain ⟨a', p', c', l', i', rfl, h3⟩ := h2
  exact ⟨a', p', c', l', i', nwM_nw _ _ _ _ _ _ _ _ _ _ _, h3⟩
theorem NW_ne {M M' : am_M} {f : fT} (h : NW M f M') {k : Nat} (hk : k = 0 ∨ 6 ≤ k) : M'.1 k = M.1 k := by
  obtain ⟨a, p, c, l, i, rfl, -⟩ := h
  exact nwM_ne _ _ _ _ _ _ hk
theorem NW_2 {M M' : am_M} {f : fT} (h : NW M f M') : M'.2 = M.2 := by
  obtain ⟨a, p, c, l, i, rfl, -⟩ := h
  rfl
theorem nar01 {x : Int32} (h : x = 0 ∨ x = 1) : vp_nar .boolean x = x := by
  rcases h with h | h <;> subst h <;> decide
/-- a snapshot kept is one of the same state -/
theorem agS_cp {a p c l i f a' p' c' l' i' : fT} (hf : wf f) (h : agS a p c l i f) (e : a' 0 = a 0 ∧ a' 1 = a 1 ∧ a' 3 = a 3 ∧ a' 6 = a 6 ∧ a' 7 = a 7) (ep : ∀ q, q < 256 → p' q = p q) (ei : ∀ q, q < 256 → i' q = i q) (ec : ∀ q, q < 16 → c' q = c q) (el : ∀ q, q < 16 → l' q = vp_nar .boolean (l q)) : agS a' p' c' l' i' f := by
  obtain ⟨h1, h2, h3, h4⟩ := h
  have hA := fA_le hf.1
  have hN := hf.1.2.2.2
  refine ⟨⟨e.1.trans h1.1, e.2.1.trans h1.2.1, e.2.2.1.trans h1.2.2.1, e.2.2.2.1.trans h1.2.2.2.1, e.2.2.2.2.trans h1.2.2.2.2⟩, fun q hq => (ep q (by omega)).trans (h2 q hq), fun q hq => ⟨(ec q (by omega)).trans (h3 q hq).1, ?_⟩, fun z q hq => (ei q (by omega)).trans (h4 z q hq)⟩
  rw [el q (by omega), (h3 q hq).2]
  exact nar01 (hf.2.2.1 q hq).2
theorem agS_kp {a p c l i f : fT} (hf : wf0 f) (h : agS a p c l i f) : agS (upd a 7 (nI 0)) p c l i (kpF f 1) := by
  obtain ⟨h1, h2, h3, h4⟩ := h
  have e : ∀ j, j ≠ 292 → kpF f 1 j = f j := fun j hj => kpF_ne f 1 hj
  obtain ⟨-, k2, k3, k4⟩ := wf0_kp hf 1
  have hA := fA_le hf
  have hN := hf.2.2.2
  have w1 : fA (kpF f 1) = fA f := by unfold fA; rw [k2, k3]
  have e2 : kpF f 1 292 = 0 := by unfold kpF; rw [upd_self, if_neg (by decide)]
  refine ⟨⟨?_, ?_, ?_, ?_, ?_⟩, fun q hq => ?_, fun q hq => ?_, fun z => ?_⟩
  · rw [upd_ne _ _ (by decide), e 0 (by decide)]; exact h1.1
  · rw [upd_ne _ _ (by decide), e 1 (by decide)]; exact h1.2.1
  · rw [upd_ne _ _ (by decide), e 258 (by decide)]; exact h1.2.2.1
  · rw [upd_ne _ _ (by decide), e 291 (by decide)]; exact h1.2.2.2.1
  · rw [upd_self, e2]; rfl
  · rw [w1] at hq
    rw [e _ (by omega)]; exact h2 q hq
  · rw [k4] at hq
    rw [e _ (by omega), e _ (by omega)]; exact h3 q hq
  · rw [e2] at z; exact absurd z (by decide)
theorem agS_kp0 {a p c l i f : fT} (h : agS a p c l i f) : agS a p c l i (kpF f 0) := by
  have : kpF f 0 = f := by
    funext j
    unfold kpF upd
    split
    · next h => rw [h]; rfl
    · rfl
  rw [this]; exact h
theorem wf_kp {f : fT} (hf : wf f) (b : Int32) : wf (kpF f b) := by
  obtain ⟨w0, h2, h3, h4, h5, h6⟩ := hf
  obtain ⟨k1, k2, k3, k4⟩ := wf0_kp w0 b
  have e : ∀ j, j ≠ 292 → kpF f b j = f j := fun j hj => kpF_ne f b hj
  have hA := fA_le w0
  have hN := w0.2.2.2
  have w1 : fA (kpF f b) = fA f := by unfold fA; rw [k2, k3]
  have e2 : kpF f b 292 = if b = 0 then f 292 else 0 := upd_self _ _ _
  refine ⟨k1, fun q hq => ?_, fun q hq => ?_, ?_, ?_, fun z q hq => ?_⟩
  · rw [w1] at hq; rw [e _ (by omega)]; exact h2 q hq
  · rw [k4] at hq; rw [e _ (by omega), e _ (by omega)]; exact h3 q hq
  · rw [e _ (by decide)]; exact h4
  · rw [e2]; split
    · exact h5
    · exact Or.inl rfl
  · rw [w1] at hq
    rw [e _ (by omega), e _ (by omega), k4]
    refine h6 ?_ q hq
    rw [e2] at z
    split at z
    · exact z
    · exact absurd z (by decide)
/-- an entry added -/
theorem agS_ad {a p c l i f : fT} (hf : wf0 f) (h : agS a p c l i f) (hn : fN f < 16) (x y : Int32) : agS (upd a 3 (nI (fN f + 1))) p (upd c (fN f) x) (upd l (fN f) y) i (adF f x y) := by
  obtain ⟨h1, h2, h3, h4⟩ := h
  have hA := fA_le hf
  have e : ∀ j, j ≠ 258 → j ≠ 259 + fN f → j ≠ 275 + fN f → adF f x y j = f j := by
    intro j j1 j2 j3
    unfold adF
    rw [upd_ne _ _ j1, upd_ne _ _ j3, upd_ne _ _ j2]
  have e8 : adF f x y 258 = nI (fN f + 1) := adF_n x y
  have hN := fN_of e8 (by omega)
  have w1 : fA (adF f x y) = fA f := by unfold fA fW fH; rw [e 0 (by omega) (by omega) (by omega), e 1 (by omega) (by omega) (by omega)]
  refine ⟨⟨?_, ?_, ?_, ?_, ?_⟩, fun q hq => ?_, fun q hq => ?_, fun z q hq => ?_⟩
  · rw [upd_ne _ _ (by decide), e 0 (by omega) (by omega) (by omega)]; exact h1.1
  · rw [upd_ne _ _ (by decide), e 1 (by omega) (by omega) (by omega)]; exact h1.2.1
  · rw [upd_self, e8]
  · rw [upd_ne _ _ (by decide), e 291 (by omega) (by omega) (by omega)]; exact h1.2.2.2.1
  · rw [upd_ne _ _ (by decide), e 292 (by omega) (by omega) (by omega)]; exact h1.2.2.2.2
  · rw [w1] at hq
    rw [e _ (by omega) (by omega) (by omega)]; exact h2 q hq
  · rw [hN] at hq
    by_cases hqn : q = fN f
    · subst hqn
      rw [upd_self, upd_self]
      unfold adF
      refine ⟨?_, ?_⟩
      · rw [upd_ne _ _ (by omega), upd_ne _ _ (by omega), upd_self]
      · rw [upd_ne _ _ (by omega), upd_self]
    · rw [upd_ne _ _ hqn, upd_ne _ _ hqn, e _ (by omega) (by omega) (by omega), e _ (by omega) (by omega) (by omega)]
      exact h3 q (by omega)
  · rw [w1] at hq
    rw [e 292 (by omega) (by omega) (by omega)] at z
    rw [e _ (by omega) (by omega) (by omega)]
    exact h4 z q hq
theorem wf_ad {f : fT} (hf : wf f) (hn : fN f < 16) (h0 : f 292 = 0) {x y : Int32} (hx : okc x) (hy : y = 0 ∨ y = 1) : wf (adF f x y) := by
  obtain ⟨w0, h2, h3, h4, h5, h6⟩ := hf
  have hA := fA_le w0
  have e : ∀ j, j ≠ 258 → j ≠ 259 + fN f → j ≠ 275 + fN f → adF f x y j = f j := by
    intro j j1 j2 j3
    unfold adF
    rw [upd_ne _ _ j1, upd_ne _ _ j3, upd_ne _ _ j2]
  have e8 : adF f x y 258 = nI (fN f + 1) := adF_n x y
  have hN := fN_of e8 (by omega)
  have w1 : fW (adF f x y) = fW f := by unfold fW; rw [e 0 (by omega) (by omega) (by omega)]
  have w2 : fH (adF f x y) = fH f := by unfold fH; rw [e 1 (by omega) (by omega) (by omega)]
  have w3 : fA (adF f x y) = fA f := by unfold fA; rw [w1, w2]
  refine ⟨⟨?_, ?_, ?_⟩, fun q hq => ?_, fun q hq => ?_, ?_, ?_, fun z => ?_⟩
  · rw [w1, e 0 (by omega) (by omega) (by omega)]; exact w0.1
  · rw [w2, e 1 (by omega) (by omega) (by omega)]; exact w0.2.1
  · rw [hN]; exact ⟨e8, by omega⟩
  · rw [w3] at hq; rw [e _ (by omega) (by omega) (by omega)]; exact h2 q hq
  · rw [hN] at hq
    by_cases hqn : q = fN f
    · subst hqn
      unfold adF
      rw [upd_ne _ _ (by omega), upd_ne _ _ (by omega), upd_self, upd_ne _ _ (by omega), upd_self]
      exact ⟨hx, hy⟩
    · rw [e _ (by omega) (by omega) (by omega), e _ (by omega) (by omega) (by omega)]; exact h3 q (by omega)
  · rw [e 291 (by omega) (by omega) (by omega)]; exact h4
  · rw [e 292 (by omega) (by omega) (by omega)]; exact h5
  · rw [e 292 (by omega) (by omega) (by omega), h0] at z; exact absurd z (by decide)
/-- an entry removed -/
def shD (r : fT) (e m : Nat) (g : Int32 → Int32) : fT := fun j => if e ≤ j ∧ j < e + m then g (r (j + 1)) else r j
theorem shD_0 (r : fT) (e : Nat) (g : Int32 → Int32) : shD r e 0 g = r := by funext j; unfold shD; rw [if_neg (by omega)]
theorem shD_s (r : fT) (e m : Nat) (g : Int32 → Int32) : upd (shD r e m g) (e + m) (g (shD r e m g (e + m + 1))) = shD r e (m + 1) g := by
  funext j
  have e1 : shD r e m g (e + m + 1) = r (e + m + 1) := by unfold shD; rw [if_neg (by omega)]
  rw [e1]
  by_cases h : j = e + m
  · subst h; rw [upd_self]; unfold shD; rw [if_pos (by omega)]
  · rw [upd_ne _ _ h]
    unfold shD
    by_cases h2 : e ≤ j ∧ j < e + m
    · rw [if_pos h2, if_pos (by omega)]
    · rw [if_neg h2, if_neg (by omega)]
theorem rmF_o (f : fT) (e k : Nat) {j : Nat} (h : j < 258 ∨ 291 ≤ j) (hk : e + k < 16) : rmF f e k j = f j := by
  unfold rmF; rw [if_neg (by omega), if_neg (by omega), if_neg (by omega)]
theorem rmF_c (f : fT) (e k q : Nat) (hk : e + k < 16) (hq : q < 16) : rmF f e k (259 + q) = (if e ≤ q ∧ q < e + k then f (259 + (q + 1)) else f (259 + q)) ∧ rmF f e k (275 + q) = (if e ≤ q ∧ q < e + k then f (275 + (q + 1)) else f (275 + q)) := by
  by_cases h : e ≤ q ∧ q < e + k
  · rw [if_pos h, if_pos h]
    refine ⟨?_, ?_⟩
    · unfold rmF; rw [if_neg (by omega), if_pos (by omega)]; rfl
    · unfold rmF; rw [if_neg (by omega), if_neg (by omega), if_pos (by omega)]; rfl
  · rw [if_neg h, if_neg h]
    refine ⟨?_, ?_⟩
    · unfold rmF; rw [if_neg (by omega), if_neg (by omega), if_neg (by omega)]
    · unfold rmF; rw [if_neg (by omega), if_neg (by omega), if_neg (by omega)]
theorem rmF_w {f : fT} (hf : wf0 f) {e : Nat} (he : e < fN f) : fW (rmF f e (fN f - 1 - e)) = fW f ∧ fH (rmF f e (fN f - 1 - e)) = fH f ∧ fA (rmF f e (fN f - 1 - e)) = fA f ∧ fN (rmF f e (fN f - 1 - e)) = fN f - 1 := by
  have hN := hf.2.2.2
  have w1 : fW (rmF f e (fN f - 1 - e)) = fW f := by unfold fW; rw [rmF_o _ _ _ (by omega) (by omega)]
  have w2 : fH (rmF f e (fN f - 1 - e)) = fH f := by unfold fH; rw [rmF_o _ _ _ (by omega) (by omega)]
  refine ⟨w1, w2, by unfold fA; rw [w1, w2], fN_of ?_ (by omega)⟩
  unfold rmF; rw [if_pos rfl]
theorem agS_rm {a p c l i f : fT} (hf : wf f) (h : agS a p c l i f) {e : Nat} (he : e < fN f) : agS (upd a 3 (nI (fN f - 1))) p (shD c e (fN f - 1 - e) id) (shD l e (fN f - 1 - e) (vp_nar .boolean)) i (rmF f e (fN f - 1 - e)) := by
  obtain ⟨h1, h2, h3, h4⟩ := h
  have hA := fA_le hf.1
  have hN := hf.1.2.2.2
  obtain ⟨-, -, w3, w4⟩ := rmF_w hf.1 he
  refine ⟨⟨?_, ?_, ?_, ?_, ?_⟩, fun q hq => ?_, fun q hq => ?_, fun z q hq => ?_⟩
  · rw [upd_ne _ _ (by decide), rmF_o _ _ _ (by omega) (by omega)]; exact h1.1
  · rw [upd_ne _ _ (by decide), rmF_o _ _ _ (by omega) (by omega)]; exact h1.2.1
  · rw [upd_self]; unfold rmF; rw [if_pos rfl]
  · rw [upd_ne _ _ (by decide), rmF_o _ _ _ (by omega) (by omega)]; exact h1.2.2.2.1
  · rw [upd_ne _ _ (by decide), rmF_o _ _ _ (by omega) (by omega)]; exact h1.2.2.2.2
  · rw [w3] at hq; rw [rmF_o _ _ _ (by omega) (by omega)]; exact h2 q hq
  · rw [w4] at hq
    obtain ⟨r1, r2⟩ := rmF_c f e (fN f - 1 - e) q (by omega) (by omega)
    rw [r1, r2]
    unfold shD
    by_cases hh : e ≤ q ∧ q < e + (fN f - 1 - e)
    · rw [if_pos hh, if_pos hh, if_pos hh, if_pos hh]
      obtain ⟨b1, b2⟩ := h3 (q + 1) (by omega)
      refine ⟨b1, ?_⟩
      rw [b2]; exact nar01 (hf.2.2.1 (q + 1) (by omega)).2
    · rw [if_neg hh, if_neg hh, if_neg hh, if_neg hh]
      exact h3 q (by omega)
  · rw [w3] at hq
    rw [rmF_o _ _ _ (by omega) (by omega)] at z
    rw [rmF_o _ _ _ (by omega) (by omega)]
    exact h4 z q hq
theorem wf_rm {f : fT} (hf : wf f) (h0 : f 292 = 0) {e : Nat} (he : e < fN f) : wf (rmF f e (fN f - 1 - e)) := by
  obtain ⟨w0, h2, h3, h4, h5, h6⟩ := hf
  have hA := fA_le w0
  have hN := w0.2.2.2
  obtain ⟨w1, w2, w3, w4⟩ := rmF_w w0 he
  refine ⟨⟨?_, ?_, ?_⟩, fun q hq => ?_, fun q hq => ?_, ?_, ?_, fun z => ?_⟩
  · rw [w1, rmF_o _ _ _ (by omega) (by omega)]; exact w0.1
  · rw [w2, rmF_o _ _ _ (by omega) (by omega)]; exact w0.2.1
  · rw [w4]; refine ⟨?_, by omega⟩; unfold rmF; rw [if_pos rfl]
  · rw [w3] at hq; rw [rmF_o _ _ _ (by omega) (by omega)]; exact h2 q hq
  · rw [w4] at hq
    obtain ⟨r1, r2⟩ := rmF_c f e (fN f - 1 - e) q (by omega) (by omega)
    rw [r1, r2]
    split
    · exact h3 (q + 1) (by omega)
    · exact h3 q (by omega)
  · rw [rmF_o _ _ _ (by omega) (by omega)]; exact h4
  · rw [rmF_o _ _ _ (by omega) (by omega)]; exact h5
  · rw [rmF_o _ _ _ (by omega) (by omega), h0] at z; exact absurd z (by decide)
def apM (M : am_M) (s : Nat) (c l : Int32) : am_M := nwM M (upd (M.1 1) 3 (nI (s + 1))) (M.1 2) (upd (M.1 3) s c) (upd (M.1 4) s (vp_nar .boolean l)) (M.1 5)
theorem apM_x (M : am_M) (s : Nat) (c l : Int32) : ((am_u (am_u (am_u M.1 3 (upd (M.1 3) s c)) 4 (upd (M.1 4) s (vp_nar .boolean l))) 1 (upd (M.1 1) 3 (nI (s + 1))), M.2) : am_M) = apM M s c l := by
  refine nwM_x rfl (fun k hk => ?_) ?_ ?_ ?_ ?_ ?_
  · have : k ≠ 1 ∧ k ≠ 3 ∧ k ≠ 4 := by omega
    simp [am_u, this.1, this.2.1, this.2.2]
  · simp [am_u]
  · simp [am_u]
  · simp [am_u]
  · simp [am_u]
  · simp [am_u]
/-- keepLocked, halfway -/
def KH (f a0 c0 l0 : fT) (e : Nat) (a c l : fT) : Prop := (∀ j, j ≠ 3 → a j = a0 j) ∧ a 3 = nI (lkL f e).length ∧ (∀ j (hj : j < (lkL f e).length), c j = (lkL f e)[j] ∧ l j = 1) ∧ ∀ j, e ≤ j → c j = c0 j ∧ l j = l0 j
theorem lkL_le (f : fT) (e : Nat) : (lkL f e).length ≤ e := by rw [lkL_len]; exact lcd_le f e
theorem KH_0 (f a0 c0 l0 : fT) : KH f a0 c0 l0 0 (upd a0 3 (nI 0)) c0 l0 := ⟨fun j hj => upd_ne _ _ hj, upd_self _ _ _, fun j hj => absurd hj (Nat.not_lt_zero j), fun j _ => ⟨rfl, rfl⟩⟩
theorem KH_f {f a0 c0 l0 : fT} {e : Nat} {a c l : fT} (h : KH f a0 c0 l0 e a c l) (hl : ¬ f (275 + e) = 1) : KH f a0 c0 l0 (e + 1) a c l := by
  obtain ⟨h1, h2, h3, h4⟩ := h
  refine ⟨h1, ?_, ?_, fun j hj => h4 j (by omega)⟩
  · rw [lkL_f hl]; exact h2
  · rw [lkL_f hl]; exact h3
theorem KH_t {f a0 c0 l0 : fT} {e : Nat} {a c l : fT} (h : KH f a0 c0 l0 e a c l) (hl : f (275 + e) = 1) : KH f a0 c0 l0 (e + 1) (upd a 3 (nI ((lkL f e).length + 1))) (upd c (lkL f e).length (f (259 + e))) (upd l (lkL f e).length (vp_nar .boolean (nI 1))) := by
  obtain ⟨h1, h2, h3, h4⟩ := h
  have hle := lkL_le f e
  refine ⟨fun j hj => ?_, ?_, fun j hj => ?_, fun j hj => ?_⟩
  · rw [upd_ne _ _ hj]; exact h1 j hj
  · rw [upd_self, lkL_t hl, List.length_append]; rfl
  · simp only [lkL_t hl] at hj ⊢
    rw [List.length_append] at hj
    by_cases hj2 : j = (lkL f e).length
    · subst hj2
      rw [upd_self, upd_self]
      refine ⟨?_, by decide⟩
      simp
    · have hj3 : j < (lkL f e).length := by simp at hj; omega
      rw [upd_ne _ _ hj2, upd_ne _ _ hj2, List.getElem_append_left hj3]
      exact h3 j hj3
  · rw [upd_ne _ _ (by omega), upd_ne _ _ (by omega)]
    exact h4 j (by omega)
theorem KE_w {f g : fT} {T : List Int32} (hf : wf0 f) (h : KE f (fN f) 0 g T) : wf0 g ∧ fA g = fA f ∧ fN g = T.length ∧ T = lkL f (fN f) := by
  obtain ⟨h1, ⟨h2, h3⟩, -, -, h6⟩ := h
  have hN : fN g = T.length := by have := fN_of h2 (by omega); omega
  have e0 := h1 0 (by omega)
  have e1 := h1 1 (by omega)
  refine ⟨⟨?_, ?_, ?_, by omega⟩, ?_, hN, h6.symm⟩
  · unfold fW; rw [e0]; exact hf.1
  · unfold fH; rw [e1]; exact hf.2.1
  · rw [hN, h2, Nat.zero_add]
  · unfold fA fW fH; rw [e0, e1]
theorem agS_ke {a p c l i f g : fT} {T : List Int32} {a' c' l' : fT} (hf : wf0 f) (h : agS a p c l i f) (hk : KE f (fN f) 0 g T) (hh : KH f a c l (fN f) a' c' l') : agS a' p c' l' i g := by
  obtain ⟨w0, w1, w2, w3⟩ := KE_w hf hk
  obtain ⟨k1, ⟨k2, k3⟩, -, k5, k6⟩ := hk
  obtain ⟨g1, g2, g3, -⟩ := hh
  obtain ⟨h1, h2, h3, h4⟩ := h
  have hA := fA_le hf
  have hN := hf.2.2.2
  rw [← w3] at g2 g3
  refine ⟨⟨?_, ?_, ?_, ?_, ?_⟩, fun q hq => ?_, fun q hq => ?_, fun z q hq => ?_⟩
  · rw [g1 0 (by decide), k1 0 (by omega)]; exact h1.1
  · rw [g1 1 (by decide), k1 1 (by omega)]; exact h1.2.1
  · rw [g2, k2, Nat.zero_add]
  · rw [g1 6 (by decide), k1 291 (by omega)]; exact h1.2.2.2.1
  · rw [g1 7 (by decide), k1 292 (by omega)]; exact h1.2.2.2.2
  · rw [w1] at hq; rw [k1 _ (by omega)]; exact h2 q hq
  · rw [w2] at hq
    obtain ⟨b1, b2⟩ := g3 q hq
    obtain ⟨d1, d2⟩ := k5 q hq
    rw [Nat.zero_add] at d1 d2
    exact ⟨b1.trans d1.symm, b2.trans d2.symm⟩
  · rw [w1] at hq
    rw [k1 292 (by omega)] at z
    rw [k1 _ (by omega)]
    exact h4 z q hq
theorem nwX1 (M : am_M) (g : fT) : ((am_u M.1 1 g, M.2) : am_M) = nwM M g (M.1 2) (M.1 3) (M.1 4) (M.1 5) := by have := nwM_u1 M (M.1 1) (M.1 2) (M.1 3) (M.1 4) (M.1 5) g; rw [nwM_eta] at this; exact this
theorem nwX2 (M : am_M) (g : fT) : ((am_u M.1 2 g, M.2) : am_M) = nwM M (M.1 1) g (M.1 3) (M.1 4) (M.1 5) := by have := nwM_u2 M (M.1 1) (M.1 2) (M.1 3) (M.1 4) (M.1 5) g; rw [nwM_eta] at this; exact this
theorem nwX3 (M : am_M) (g : fT) : ((am_u M.1 3 g, M.2) : am_M) = nwM M (M.1 1) (M.1 2) g (M.1 4) (M.1 5) := by have := nwM_u3 M (M.1 1) (M.1 2) (M.1 3) (M.1 4) (M.1 5) g; rw [nwM_eta] at this; exact this
theorem nwX4 (M : am_M) (g : fT) : ((am_u M.1 4 g, M.2) : am_M) = nwM M (M.1 1) (M.1 2) (M.1 3) g (M.1 5) := by have := nwM_u4 M (M.1 1) (M.1 2) (M.1 3) (M.1 4) (M.1 5) g; rw [nwM_eta] at this; exact this
theorem nwX5 (M : am_M) (g : fT) : ((am_u M.1 5 g, M.2) : am_M) = nwM M (M.1 1) (M.1 2) (M.1 3) (M.1 4) g := by have := nwM_u5 M (M.1 1) (M.1 2) (M.1 3) (M.1 4) (M.1 5) g; rw [nwM_eta] at this; exact this
