theorem lkL_ok {f : fT} (hf : wf f) {k : Nat} (hk : k ≤ fN f) : ∀ c, c ∈ lkL f k → okc c := by
  induction k with
  | zero => intro c hc; exact absurd hc List.not_mem_nil
  | succ k ih =>
    intro c hc
    by_cases h : f (275 + k) = 1
    · rw [lkL_t h, List.mem_append, List.mem_singleton] at hc
      rcases hc with q | q
      · exact ih (by omega) c q
      · rw [q]; exact (hf.2.2.1 k (by omega)).1
    · rw [lkL_f h] at hc; exact ih (by omega) c hc
theorem wf_ke {f g : fT} {T : List Int32} (hf : wf f) (h0 : f 292 = 0) (h : KE f (fN f) 0 g T) : wf g ∧ g 292 = 0 ∧ fN g = lcd f (fN f) := by
  obtain ⟨a1, a2, a3, a4⟩ := KE_w hf.1 h
  obtain ⟨k1, ⟨k2, -⟩, -, k5, -⟩ := h
  have hA := fA_le hf.1
  have e292 : g 292 = 0 := by rw [k1 292 (by omega)]; exact h0
  refine ⟨⟨a1, fun q hq => ?_, fun q hq => ?_, ?_, Or.inl e292, fun z => ?_⟩, e292, ?_⟩
  · rw [a2] at hq; rw [k1 _ (by omega)]; exact hf.2.1 q hq
  · rw [a3] at hq
    have x := k5 q hq
    rw [Nat.zero_add] at x
    rw [x.1, x.2]
    refine ⟨lkL_ok hf (Nat.le_refl _) _ ?_, Or.inr rfl⟩
    rw [← a4]
    exact List.getElem_mem hq
  · rw [k1 291 (by omega)]; exact hf.2.2.2.1
  · rw [e292] at z; exact absurd z (by decide)
  · rw [a3, a4, lkL_len]
theorem lcd_kp {f : fT} {k : Nat} (hk : k ≤ 16) : lcd (kpF f 1) k = lcd f k := by
  induction k with
  | zero => rfl
  | succ k ih => rw [lcd_s, lcd_s, ih (by omega), kpF_ne _ _ (by omega)]
theorem EQ_CK {M : am_M} {f g : fT} {u : Nat} {past : fT} {n : Nat} {t : fT} (h : EQ f g) (hc : CK M f u past n t) : CK M g u past n t := ⟨EQ_wf h hc.1, EQ_AG h hc.2.1, hc.2.2.1, hc.2.2.2⟩
theorem prs_all (t : fT) (n m i r : Nat) (rc rl : fT) : (prs t n m i r rc rl).1 = -1 → prs t n m i r rc rl = (-1, (prs t n m i r rc rl).2.1, (prs t n m i r rc rl).2.2.1, (prs t n m i r rc rl).2.2.2) := fun h => by rw [← h]
theorem mxR_cg {g g' : Nat → Int32} (h : Int64) {k : Nat} (e : ∀ j, j < k → g j = g' j) : mxR g h k = mxR g' h k := by
  induction k with
  | zero => rfl
  | succ k ih => rw [mxR_s, mxR_s, ih (fun j hj => e j (by omega)), e k (by omega)]
theorem mxR4 (f : fT) (h : Int64) (e : Nat) : mxR (fun k => ent f (k / 4) (k % 4)) h (4 * (e + 1)) = 31 * (31 * (31 * (31 * mxR (fun k => ent f (k / 4) (k % 4)) h (4 * e) + (ent f e 0).toInt64) + (ent f e 1).toInt64) + (ent f e 2).toInt64) + (ent f e 3).toInt64 := by
  show mxR (fun k => ent f (k / 4) (k % 4)) h (4 * e + 3 + 1) = _
  rw [mxR_s, mxR_s (k := 4 * e + 2), mxR_s (k := 4 * e + 1), mxR_s (k := 4 * e)]
  rw [show (4 * e + 3) / 4 = e by omega, show (4 * e + 3) % 4 = 3 by omega, show (4 * e + 2) / 4 = e by omega, show (4 * e + 2) % 4 = 2 by omega, show (4 * e + 1) / 4 = e by omega, show (4 * e + 1) % 4 = 1 by omega, show (4 * e) / 4 = e by omega, show (4 * e) % 4 = 0 by omega]
theorem RK_dg (M : am_M) (S : fT) (h : Int64) : RK M (dgM M S h) := ⟨⟨dgM_ne _ _ _ (by decide), dgM_ne _ _ _ (by decide), dgM_ne _ _ _ (by decide), by rw [dgM_ne _ _ _ (by decide)], by rw [dgM_ne _ _ _ (by decide)]⟩, fun k hk => dgM_ne _ _ _ (by omega)⟩
