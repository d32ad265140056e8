theorem kp0 (f : fT) : kpF f 0 = f := by
  funext j
  unfold kpF upd
  split
  · next h => rw [h]; rfl
  · rfl
theorem kpM_35 (M : am_M) (u : Nat) (b : Int32) : (kpM M u b).1 35 = kpP (M.1 35) (M.1 34) u := by simp [kpM, am_u]
theorem RI_kp {M : am_M} {f : fT} {u : Nat} {past : fT} {n : Nat} {t : fT} (h : RI M f u past n t) (b : Int32) (g : fT) : RI (rw34 (kpM M u b) g) g (kpN u) (kpP past f u) n t ∧ QS M (rw34 (kpM M u b) g) := by
  obtain ⟨r1, r2, r3, r4, r5⟩ := h
  refine ⟨⟨rw34_34 _ _, ?_, ?_, ?_, ?_⟩, fun k hk => ?_⟩
  · rw [rw34_ne _ _ (by decide), kpM_33, upd_self]
  · rw [rw34_ne _ _ (by decide), kpM_35, r1, r3]
  · rw [rw34_ne _ _ (by decide), kpM_33, upd_ne _ _ (by decide)]; exact r4
  · rw [rw34_ne _ _ (by decide), kpM_ne _ _ _ (by decide)]; exact r5
  · rw [rw34_ne _ _ (by omega), kpM_ne _ _ _ (by omega)]
/-- two references of the same rows -/
theorem RI_cg {M M' : am_M} {f : fT} {u : Nat} {past : fT} {n : Nat} {t : fT} (h : RI M f u past n t) (e : M'.1 34 = M.1 34 ∧ M'.1 33 = M.1 33 ∧ M'.1 35 = M.1 35 ∧ M'.1 36 = M.1 36) : RI M' f u past n t := by
  obtain ⟨r1, r2, r3, r4, r5⟩ := h
  obtain ⟨e1, e2, e3, e4⟩ := e
  exact ⟨e1.trans r1, by rw [e2]; exact r2, e3.trans r3, by rw [e2]; exact r4, e4.trans r5⟩
theorem comb2 {M : am_M} {f : fT} {u : Nat} {past : fT} {n : Nat} {t f' : fT} {u' : Nat} {past' : fT} {n' : Nat} {t' : fT} {r : Int32} {z z' : Nat} {a a' : List Value} (hR : RI M f u past n t) (hc : am_R 8 z a M (fun v M1 => v = some (.int r) ∧ CK M1 f' u' past' n' t' ∧ RS M M1)) (hm : ∀ M1, RI M1 f u past n t → RS M M1 → am_R 8 z' a' M1 (fun w M2 => w = some (.int r) ∧ RI M2 f' u' past' n' t' ∧ QS M1 M2)) : STEP M z a z' a' :=
  hc.mono (fun v M1 h => ⟨r, h.1, (hm M1 (RI_RS hR h.2.2) h.2.2).mono (fun w M2 k => ⟨k.1, f', u', past', n', t', CK_QS h.2.1 k.2.2, k.2.1⟩)⟩)
theorem rec_ck {M M' : am_M} {f : fT} {u : Nat} {past : fT} {n : Nat} {t : fT} (h : CK M f u past n t) (h1 : HI M' (kpN u) (kpP past f u)) (h2 : HF M M') : CK M' f (kpN u) (kpP past f u) n t ∧ RS M M' := ⟨⟨h.1, AG_ne h.2.1 (fun k a b => h2.2 k (by omega) (by omega)), h1, TX_ne h.2.2.2 (h2.2 8 (by omega) (by omega)) (h2.2 9 (by omega) (by omega))⟩, fun k a b => h2.2 k (by omega) (by omega)⟩
theorem rmk_ck {M M' : am_M} {f : fT} {u : Nat} {past : fT} {n : Nat} {t : fT} (h : CK M f u past n t) (h1 : HI M' (kpN u) (kpP past f u)) (h2 : AG M' (kpF f 1)) (h3 : ∀ k, (k = 0 ∨ 6 < k) → (k < 49 ∨ 98 < k) → M'.1 k = M.1 k) : CK M' (kpF f 1) (kpN u) (kpP past f u) n t ∧ RS M M' := ⟨⟨wf_kp h.1 1, h2, h1, TX_ne h.2.2.2 (h3 8 (by omega) (by omega)) (h3 9 (by omega) (by omega))⟩, fun k a b => h3 k (by omega) (by omega)⟩
theorem agS_met {a p c l i f : fT} (hf : wf0 f) (h : agS a p c l i f) (x : Int32) : agS (upd a 6 x) p c l i (upd f 291 x) := by
  obtain ⟨h1, h2, h3, h4⟩ := h
  have hA := fA_le hf
  have hN := hf.2.2.2
  have e : ∀ j, j ≠ 291 → upd f 291 x j = f j := fun j hj => upd_ne _ _ hj
  have w1 : fA (upd f 291 x) = fA f := by unfold fA fW fH; rw [e 0 (by omega), e 1 (by omega)]
  have w2 : fN (upd f 291 x) = fN f := by unfold fN; rw [e 258 (by omega)]
  refine ⟨⟨?_, ?_, ?_, ?_, ?_⟩, fun q hq => ?_, fun q hq => ?_, fun z q hq => ?_⟩
  · rw [upd_ne _ _ (by decide), e 0 (by omega)]; exact h1.1
  · rw [upd_ne _ _ (by decide), e 1 (by omega)]; exact h1.2.1
  · rw [upd_ne _ _ (by decide), e 258 (by omega)]; exact h1.2.2.1
  · rw [upd_self, upd_self]
  · rw [upd_ne _ _ (by decide), e 292 (by omega)]; exact h1.2.2.2.2
  · rw [w1] at hq; rw [e _ (by omega)]; exact h2 q hq
  · rw [w2] at hq; rw [e _ (by omega), e _ (by omega)]; exact h3 q hq
  · rw [w1] at hq; rw [e 292 (by omega)] at z; rw [e _ (by omega)]; exact h4 z q hq
theorem wf_met {f : fT} (hf : wf f) {x : Int32} (hx : x = 0 ∨ x = 1) : wf (upd f 291 x) := by
  obtain ⟨w0, h2, h3, h4, h5, h6⟩ := hf
  have hA := fA_le w0
  have hN := w0.2.2.2
  have e : ∀ j, j ≠ 291 → upd f 291 x j = f j := fun j hj => upd_ne _ _ hj
  obtain ⟨v0, v1, v2, v3⟩ := wf0_of w0 (e 0 (by omega)) (e 1 (by omega)) (e 258 (by omega))
  have w1 : fA (upd f 291 x) = fA f := by unfold fA; rw [v1, v2]
  refine ⟨v0, fun q hq => ?_, fun q hq => ?_, ?_, ?_, fun z q hq => ?_⟩
  · rw [w1] at hq; rw [e _ (by omega)]; exact h2 q hq
  · rw [v3] at hq; rw [e _ (by omega), e _ (by omega)]; exact h3 q hq
  · rw [upd_self]; exact hx
  · rw [e _ (by omega)]; exact h5
  · rw [w1] at hq; rw [e 292 (by omega)] at z; rw [e _ (by omega), e _ (by omega), v3]; exact h6 z q hq
theorem swX_lt {a b n e : Nat} (ha : a < n) (hb : b < n) (he : e < n) : ∃ e', e' < n ∧ swX a b (nI e) = nI e' := by
  unfold swX
  split
  · exact ⟨b, hb, rfl⟩
  · split
    · exact ⟨a, ha, rfl⟩
    · exact ⟨e, he, rfl⟩
theorem wf_sw {f : fT} (hf : wf f) {a b : Nat} (ha : a < fN f) (hb : b < fN f) : wf (raF f (swO a b)) := by
  have hN := hf.1.2.2.2
  refine wf_ra hf (fun e he => ?_) (fun e he => ?_) ?_
  · unfold swO; split
    · exact hb
    · split
      · exact ha
      · exact he
  · rw [swN_x ha hb hN]; exact swX_lt ha hb he
  · rw [swN_x ha hb hN]
    unfold swX
    rw [if_neg (by rw [nI_eq (by omega) (by omega)]; omega), if_neg (by rw [nI_eq (by omega) (by omega)]; omega)]
theorem nxt_cg {f srv srv' pl pl' : fT} {o : Nat} {bh : Option Nat} {k : Nat} (hk : k ≤ 16) (hs : ∀ e, e < 16 → srv e = srv' e) (hp : ∀ e, e < 16 → pl e = pl' e) : nxt f srv pl o bh k = nxt f srv' pl' o bh k := by
  have ek : ∀ e, e < 16 → keyF f srv o bh e = keyF f srv' o bh e := fun e he => by unfold keyF; rw [hs e he]
  induction k with
  | zero => rfl
  | succ k ih =>
    rw [nxt_s, nxt_s, ih (by omega), hp k (by omega)]
    cases hx : nxt f srv' pl' o bh k with
    | none => rfl
    | some b =>
      have := (nxt_lt hx).1
      dsimp only
      rw [ek k (by omega), ek b (by omega)]
theorem srt_cg {f srv srv' pl0 pl0' : fT} {o : Nat} (hN : fN f ≤ 16) (hs : ∀ e, e < 16 → srv e = srv' e) (e : Nat) : (srt f srv pl0 o e).1 = (srt f srv' pl0' o e).1 ∧ (∀ j, j < 16 → (srt f srv pl0 o e).2.1 j = (srt f srv' pl0' o e).2.1 j) ∧ (srt f srv pl0 o e).2.2 = (srt f srv' pl0' o e).2.2 := by
  induction e with
  | zero =>
    refine ⟨rfl, fun j hj => ?_, rfl⟩
    show stF pl0 0 16 (fun _ => 0) j = stF pl0' 0 16 (fun _ => 0) j
    unfold stF
    rw [if_pos (by omega), if_pos (by omega)]
  | succ e ih =>
    obtain ⟨i1, i2, i3⟩ := ih
    rw [srt_s, srt_s]
    by_cases hl : f (275 + e) = 1
    · rw [if_pos hl, if_pos hl]; exact ⟨i1, i2, i3⟩
    · rw [if_neg hl, if_neg hl, i1, nxt_cg hN hs i2]
      cases hx : nxt f srv' (srt f srv' pl0' o e).2.1 o (srt f srv' pl0' o e).1 (fN f) with
      | none => exact ⟨i1, i2, i3⟩
      | some b =>
        refine ⟨rfl, fun j hj => ?_, ?_⟩
        · show upd _ _ _ _ = upd _ _ _ _
          by_cases q : j = b
          · subst q; rw [upd_self, upd_self]
          · rw [upd_ne _ _ q, upd_ne _ _ q]; exact i2 j hj
        · show (fun j => if j = e then b else (srt f srv pl0 o e).2.2 j) = (fun j => if j = e then b else (srt f srv' pl0' o e).2.2 j)
          rw [i3]
theorem agS_map {a p c l i i' f g : fT} (hf : wf0 f) (h : agS a p c l i f) (hs : sm292 f g) (h1 : g 292 = 1) (hi : ∀ q, q < fA g → i' q = g (293 + q)) : agS (upd a 7 (nI 1)) p c l i' g := by
  obtain ⟨h1', h2, h3, h4⟩ := h
  obtain ⟨w1, w2, w3, w4, w5⟩ := hs.w hf
  have hA := fA_le hf
  have hN := hf.2.2.2
  refine ⟨⟨?_, ?_, ?_, ?_, ?_⟩, fun q hq => ?_, fun q hq => ?_, fun z q hq => hi q hq⟩
  · rw [upd_ne _ _ (by decide), ← hs 0 (by decide)]; exact h1'.1
  · rw [upd_ne _ _ (by decide), ← hs 1 (by decide)]; exact h1'.2.1
  · rw [upd_ne _ _ (by decide), ← hs 258 (by decide)]; exact h1'.2.2.1
  · rw [upd_ne _ _ (by decide), ← hs 291 (by decide)]; exact h1'.2.2.2.1
  · rw [upd_self, h1]; rfl
  · rw [← w5] at hq; rw [← hs _ (by omega)]; exact h2 q hq
  · rw [← w4] at hq; rw [← hs _ (by omega), ← hs _ (by omega)]; exact h3 q hq
theorem wf_map {f g : fT} (hf : wf f) (hs : sm292 f g) (h1 : g 292 = 1) (hv : ∀ q, q < fA g → mV g q (g (293 + q))) : wf g := by
  obtain ⟨w0, h2, h3, h4, h5, h6⟩ := hf
  obtain ⟨w1, w2, w3, w4, w5⟩ := hs.w w0
  have hA := fA_le w0
  have hN := w0.2.2.2
  refine ⟨w1, fun q hq => ?_, fun q hq => ?_, ?_, Or.inr h1, fun _ q hq => hv q hq⟩
  · rw [← w5] at hq; rw [← hs _ (by omega)]; exact h2 q hq
  · rw [← w4] at hq; rw [← hs _ (by omega), ← hs _ (by omega)]; exact h3 q hq
  · rw [← hs _ (by omega)]; exact h4
theorem mapF_sm (g T0 : fT) (mt : Nat) (s : Int32) : sm293 (mapF g T0 mt s) g := by
  unfold mapF
  split
  · exact mp_sm _ _ _ _
  · intro j hj
    exact (dfS_sm _ _ _ _ j hj).trans (mp_sm _ _ _ _ j hj)
theorem mapF_lo {g T0 : fT} {mt : Nat} {s : Int32} (h : mt < 2) {q : Nat} (hq : q < fA g) : mapF g T0 mt s (293 + q) = asV g (if mt = 0 then nI 0 else s) q := by
  unfold mapF
  rw [if_pos h]
  show stF g 293 (fA g) _ (293 + q) = _
  rw [st_in _ _ hq]
  unfold asV
  by_cases ho : g (2 + q) ≠ -1
  · rw [if_pos ⟨ho, h⟩, if_pos ho]
  · rw [if_neg (fun z => ho z.1), if_neg ho]
theorem mV_sm {f g : fT} (hf : wf0 f) (hs : sm292 f g) {p : Nat} (hp : p < fA f) {v : Int32} (h : mV f p v) : mV g p v := by
  obtain ⟨w1, w2, w3, w4, w5⟩ := hs.w hf
  have hA := fA_le hf
  unfold mV at *
  rw [← hs (2 + p) (by omega), ← w4]
  exact h
