/-! the class: moving entries to means, merging entries -/
theorem agS_pal {a p c l i f g c' l' : fT} (hf : wf0 f) (h : agS a p c l i f) (hg : ∀ j, (j < 259 ∨ 291 ≤ j) → g j = f j) (hc : ∀ e, e < fN f → c' e = g (259 + e) ∧ l' e = g (275 + e)) : agS a p c' l' i g := by
  obtain ⟨h1, h2, h3, h4⟩ := h
  have hA := fA_le hf
  have w1 : fA g = fA f := by unfold fA fW fH; rw [hg 0 (by omega), hg 1 (by omega)]
  have w2 : fN g = fN f := by unfold fN; rw [hg 258 (by omega)]
  refine ⟨?_, fun q hq => ?_, fun q hq => ?_, fun z q hq => ?_⟩
  · rw [hg 0 (by omega), hg 1 (by omega), hg 258 (by omega), hg 291 (by omega), hg 292 (by omega)]; exact h1
  · rw [w1] at hq; rw [hg _ (by omega)]; exact h2 q hq
  · rw [w2] at hq; exact hc q hq
  · rw [w1] at hq; rw [hg 292 (by omega)] at z; rw [hg _ (by omega)]; exact h4 z q hq
theorem wf_pal {f g : fT} (hf : wf f) (hg : ∀ j, (j < 259 ∨ 291 ≤ j) → g j = f j) (hc : ∀ e, e < fN f → okc (g (259 + e)) ∧ (g (275 + e) = 0 ∨ g (275 + e) = 1)) : wf g := by
  obtain ⟨w0, h2, h3, h4, h5, h6⟩ := hf
  have hA := fA_le w0
  obtain ⟨v0, v1, v2, v3⟩ := wf0_of w0 (hg 0 (by omega)) (hg 1 (by omega)) (hg 258 (by omega))
  have w1 : fA g = fA f := by unfold fA; rw [v1, v2]
  refine ⟨v0, fun q hq => ?_, fun q hq => ?_, ?_, ?_, fun z q hq => ?_⟩
  · rw [w1] at hq; rw [hg _ (by omega)]; exact h2 q hq
  · rw [v3] at hq; exact hc q hq
  · rw [hg _ (by omega)]; exact h4
  · rw [hg _ (by omega)]; exact h5
  · rw [w1] at hq
    rw [hg _ (by omega)] at z
    rw [hg _ (by omega), hg _ (by omega), v3]
    exact h6 z q hq
theorem smI_nI (f : fT) (e c p : Nat) : ∃ s, s ≤ 255 * svc f e p ∧ smI f e c p = nI s := by
  induction p with
  | zero => exact ⟨0, Nat.zero_le _, rfl⟩
  | succ p ih =>
    obtain ⟨s, h1, h2⟩ := ih
    rw [smI_s, svc_s]
    by_cases h : f (2 + p) ≠ -1 ∧ ner f (f (2 + p)) = some e
    · rw [if_pos h, if_pos h]
      obtain ⟨a, b⟩ := chN_lt (f (2 + p)) c
      exact ⟨s + chN (f (2 + p)) c, by omega, by rw [h2, b, nI_add]⟩
    · rw [if_neg h, if_neg h]
      exact ⟨s, by omega, h2⟩
theorem mean_le {s n : Nat} (h : s ≤ 255 * n) (hn : 0 < n) : (2 * s + n) / (2 * n) ≤ 255 := by
  have : (2 * s + n) / (2 * n) < 256 := (Nat.div_lt_iff_lt_mul (by omega)).mpr (by omega)
  omega
/-- the mean color, channel by channel -/
theorem rnM_c {f : fT} (hf : wf0 f) {e : Nat} (h : 0 < svA f e) : ∃ s0 s1 s2, (∀ (c s : Nat), (c = 0 ∧ s = s0) ∨ (c = 1 ∧ s = s1) ∨ (c = 2 ∧ s = s2) → smI f e c (fA f) = nI s ∧ s ≤ 255 * svA f e) ∧ rnM f e 3 = 65536 * nI ((2 * s0 + svA f e) / (2 * svA f e)) + nI 256 * nI ((2 * s1 + svA f e) / (2 * svA f e)) + nI ((2 * s2 + svA f e) / (2 * svA f e)) ∧ okc (rnM f e 3) := by
  obtain ⟨s0, a0, b0⟩ := smI_nI f e 0 (fA f)
  obtain ⟨s1, a1, b1⟩ := smI_nI f e 1 (fA f)
  obtain ⟨s2, a2, b2⟩ := smI_nI f e 2 (fA f)
  have hsv := svA_le hf e
  have a0 : s0 ≤ 255 * svA f e := a0
  have a1 : s1 ≤ 255 * svA f e := a1
  have a2 : s2 ≤ 255 * svA f e := a2
  refine ⟨s0, s1, s2, ?_, ?_⟩
  · rintro c s (⟨rfl, rfl⟩ | ⟨rfl, rfl⟩ | ⟨rfl, rfl⟩)
    · exact ⟨b0, a0⟩
    · exact ⟨b1, a1⟩
    · exact ⟨b2, a2⟩
  · have key : rnM f e 3 = nI 256 * (nI 256 * (nI 256 * nI 0 + nI ((2 * s0 + svA f e) / (2 * svA f e))) + nI ((2 * s1 + svA f e) / (2 * svA f e))) + nI ((2 * s2 + svA f e) / (2 * svA f e)) := by
      show nI 256 * (nI 256 * (nI 256 * nI 0 + (nI 2 * smI f e 0 (fA f) + nI (svA f e)) / (nI 2 * nI (svA f e))) + (nI 2 * smI f e 1 (fA f) + nI (svA f e)) / (nI 2 * nI (svA f e))) + (nI 2 * smI f e 2 (fA f) + nI (svA f e)) / (nI 2 * nI (svA f e)) = _
      rw [b0, b1, b2, nI_mul 2 s0, nI_mul 2 s1, nI_mul 2 s2, nI_mul 2 (svA f e), nI_add (2 * s0), nI_add (2 * s1), nI_add (2 * s2), nI_div (by omega) (by omega), nI_div (by omega) (by omega), nI_div (by omega) (by omega)]
    obtain ⟨c1, c2⟩ := col3 (mean_le a0 h) (mean_le a1 h) (mean_le a2 h)
    rw [key]
    exact ⟨c1.symm, c2⟩
theorem rnF_v (f : fT) (k : Nat) {e : Nat} : rnF f k (259 + e) = if e < k ∧ rnG f e then rnM f e 3 else f (259 + e) := by
  unfold rnF
  rw [Nat.add_sub_cancel_left]
  by_cases h : e < k ∧ rnG f e
  · rw [if_pos h, if_pos ⟨by omega, by omega, h.2⟩]
  · rw [if_neg h, if_neg (fun q => h ⟨by omega, q.2.2⟩)]
theorem wf_rn {f : fT} (hf : wf f) : wf (rnF f (fN f)) := by
  have hN := hf.1.2.2.2
  refine wf_pal hf (fun j hj => rn_n (by omega)) (fun e he => ?_)
  rw [rn_n (j := 275 + e) (by omega), rnF_v]
  refine ⟨?_, (hf.2.2.1 e he).2⟩
  split
  · next h => exact (rnM_c hf.1 h.2.2).choose_spec.choose_spec.choose_spec.2.2
  · exact (hf.2.2.1 e he).1
def suM (M : am_M) (S : fT) : am_M := (am_u M.1 26 S, M.2)
theorem suM_26 (M : am_M) (i : fT) : (suM M i).1 26 = i := au1 _ _ _ _
theorem suM_ne (M : am_M) (i : fT) {k : Nat} (h : k ≠ 26) : (suM M i).1 k = M.1 k := au0 _ _ _ h
theorem suM_u (M : am_M) (S S' : fT) : ((am_u (suM M S).1 26 S', (suM M S).2) : am_M) = suM M S' := by unfold suM; simp only [am_u_u]
theorem suM_eta (M : am_M) : suM M (M.1 26) = M := by unfold suM; rw [am_u_eta]
def paM (M : am_M) (S : fT) : am_M := (am_u M.1 3 S, M.2)
theorem paM_3 (M : am_M) (i : fT) : (paM M i).1 3 = i := au1 _ _ _ _
theorem paM_ne (M : am_M) (i : fT) {k : Nat} (h : k ≠ 3) : (paM M i).1 k = M.1 k := au0 _ _ _ h
theorem paM_u (M : am_M) (S S' : fT) : ((am_u (paM M S).1 3 S', (paM M S).2) : am_M) = paM M S' := by unfold paM; simp only [am_u_u]
theorem paM_eta (M : am_M) : paM M (M.1 3) = M := by unfold paM; rw [am_u_eta]
def fpM (M : am_M) (S : fT) : am_M := (am_u M.1 25 S, M.2)
theorem fpM_25 (M : am_M) (i : fT) : (fpM M i).1 25 = i := au1 _ _ _ _
theorem fpM_ne (M : am_M) (i : fT) {k : Nat} (h : k ≠ 25) : (fpM M i).1 k = M.1 k := au0 _ _ _ h
theorem fpM_u (M : am_M) (S S' : fT) : ((am_u (fpM M S).1 25 S', (fpM M S).2) : am_M) = fpM M S' := by unfold fpM; simp only [am_u_u]
theorem fpM_eta (M : am_M) : fpM M (M.1 25) = M := by unfold fpM; rw [am_u_eta]
theorem AG_ne {M M' : am_M} {f : fT} (h : AG M f) (hr : ∀ k, 1 ≤ k → k ≤ 5 → M'.1 k = M.1 k) : AG M' f := by
  unfold AG
  rw [hr 1 (by decide) (by decide), hr 2 (by decide) (by decide), hr 3 (by decide) (by decide), hr 4 (by decide) (by decide), hr 5 (by decide) (by decide)]
  exact h
theorem cst_n {f : fT} (hf : wf0 f) (i j : Nat) : cst f i j = if svA f i + svA f j = 0 then 0 else nL (svA f i) * nL (svA f j) * (dst (f 291) (f (259 + i)) (f (259 + j))).toInt64 / nL (svA f i + svA f j) := by
  have h1 := svA_le hf i
  have h2 := svA_le hf j
  unfold cst
  rw [nI_i2l (by omega), nI_i2l (by omega), nL_add]
  by_cases h : svA f i + svA f j = 0
  · rw [if_pos h, if_pos (by rw [h]; rfl)]
  · rw [if_neg h, if_neg]
    intro q
    have := nL_toInt (a := svA f i + svA f j) (by omega)
    rw [q] at this
    have z : (0 : Int64).toInt = 0 := by decide
    omega
/-- the state of the search for the cheapest pair -/
def FC (f : fT) (o : Option (Nat × Nat)) (b : Int32) (x : Int64) (g : fT) : Prop := (o = none → b = 0) ∧ ∀ q, o = some q → b = 1 ∧ x = cst f q.1 q.2 ∧ g 3 = nI q.1 ∧ g 4 = nI q.2
theorem mgM_c {f : fT} (hf : wf0 f) {i j : Nat} (a b : Int32) (h : 0 < svA f i + svA f j) (c : Nat) (m : Nat) (hm : m < 2 ^ 31) (hc : mgM (nI (svA f i)) (nI (svA f j)) a b c = nI m) : ∃ s, s ≤ 255 ∧ s = (2 * (svA f i * chN a c + svA f j * chN b c) + (svA f i + svA f j)) / (2 * (svA f i + svA f j)) ∧ mgM (nI (svA f i)) (nI (svA f j)) a b (c + 1) = nI (256 * m + s) := by
  have h1 := svA_le hf i
  have h2 := svA_le hf j
  obtain ⟨a1, a2⟩ := chN_lt a c
  obtain ⟨b1, b2⟩ := chN_lt b c
  have p1 : svA f i * chN a c ≤ svA f i * 255 := Nat.mul_le_mul_left _ (by omega)
  have p2 : svA f j * chN b c ≤ svA f j * 255 := Nat.mul_le_mul_left _ (by omega)
  refine ⟨_, mean_le (by omega) h, rfl, ?_⟩
  show nI 256 * mgM (nI (svA f i)) (nI (svA f j)) a b c + (nI 2 * (nI (svA f i) * cha a c + nI (svA f j) * cha b c) + nI (svA f i) + nI (svA f j)) / (nI 2 * (nI (svA f i) + nI (svA f j))) = _
  rw [hc, a2, b2, nI_mul (svA f i), nI_mul (svA f j), nI_add (svA f i * chN a c), nI_mul 2, nI_add (2 * _), nI_add (2 * _ + svA f i), nI_add (svA f i) (svA f j), nI_mul 2, nI_div (by omega) (by omega), nI_mul 256 m, nI_add]
  rw [Nat.add_assoc (2 * (svA f i * chN a c + svA f j * chN b c))]
theorem mgM_ok {f : fT} (hf : wf0 f) {i j : Nat} (a b : Int32) (h : 0 < svA f i + svA f j) : ∀ c, c ≤ 3 → ∃ m, m < 256 ^ c ∧ mgM (nI (svA f i)) (nI (svA f j)) a b c = nI m := by
  intro c
  induction c with
  | zero => intro _; exact ⟨0, by decide, rfl⟩
  | succ c ih =>
    intro hc
    obtain ⟨m, h1, h2⟩ := ih (by omega)
    have : 256 ^ c ≤ 256 ^ 2 := Nat.pow_le_pow_right (by decide) (by omega)
    obtain ⟨s, s1, -, s3⟩ := mgM_c hf a b h c m (by omega) h2
    exact ⟨256 * m + s, by rw [Nat.pow_succ]; omega, s3⟩
theorem mgC_ok {f : fT} (hf : wf f) {i j : Nat} (hi : i < fN f) (hj : j < fN f) : okc (mgC f i j) := by
  unfold mgC
  split
  · split
    · exact (hf.2.2.1 i hi).1
    · exact (hf.2.2.1 j hj).1
  · split
    · next h =>
      obtain ⟨m, h1, h2⟩ := mgM_ok hf.1 (f (259 + i)) (f (259 + j)) h 3 (Nat.le_refl 3)
      exact ⟨m, by omega, h2⟩
    · exact (hf.2.2.1 i hi).1
theorem wf_mgU {f : fT} (hf : wf f) {i j : Nat} (hi : i < fN f) (hj : j < fN f) : wf (mgU f i j) := by
  have hN := hf.1.2.2.2
  refine wf_pal hf (fun k hk => mgU_n (by omega) (by omega)) (fun e he => ?_)
  unfold mgU
  refine ⟨?_, ?_⟩
  · rw [upd_ne _ _ (by omega)]
    by_cases h : e = i
    · subst h; rw [upd_self]; exact mgC_ok hf hi hj
    · rw [upd_ne _ _ (by omega)]; exact (hf.2.2.1 e he).1
  · by_cases h : e = i
    · subst h; rw [upd_self]; exact bI_01 _
    · rw [upd_ne _ _ (by omega), upd_ne _ _ (by omega)]; exact (hf.2.2.1 e he).2
theorem fN_mgU {f : fT} {i j : Nat} (hi : i < 16) : fN (mgU f i j) = fN f := by unfold fN; rw [mgU_n hi (by omega)]
theorem wf_mgS {f : fT} (hf : wf f) (h0 : f 292 = 0) {i j : Nat} (hi : i < fN f) (hj : j < fN f) : wf (mgS f i j) ∧ mgS f i j 292 = 0 := by
  have hN := hf.1.2.2.2
  have h1 := wf_mgU hf hi hj
  have e : mgU f i j 292 = 0 := by rw [mgU_n (by omega) (by omega)]; exact h0
  have := wf_rm h1 e (e := j) (by rw [fN_mgU (by omega)]; exact hj)
  rw [fN_mgU (by omega)] at this
  refine ⟨this, ?_⟩
  unfold mgS
  rw [rmF_o _ _ _ (by omega) (by omega)]
  exact e
