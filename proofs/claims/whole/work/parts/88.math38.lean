/-! both sides, step by step -/
def RI (M : am_M) (f : fT) (u : Nat) (past : fT) (n : Nat) (t : fT) : Prop := M.1 34 = f ∧ M.1 33 2 = nI u ∧ M.1 35 = past ∧ M.1 33 4 = nI n ∧ M.1 36 = t
def CK (M : am_M) (f : fT) (u : Nat) (past : fT) (n : Nat) (t : fT) : Prop := wf f ∧ AG M f ∧ HI M u past ∧ TX M n t
def INV (M : am_M) : Prop := ∃ f u past n t, CK M f u past n t ∧ RI M f u past n t
def RS (M M' : am_M) : Prop := ∀ k, 33 ≤ k → k < 49 → M'.1 k = M.1 k
def QS (M M' : am_M) : Prop := ∀ k, (k < 33 ∨ 49 ≤ k) → M'.1 k = M.1 k
def STEP (M : am_M) (z : Nat) (a : List Value) (z' : Nat) (a' : List Value) : Prop := am_R 8 z a M (fun v M1 => ∃ r, v = some (.int r) ∧ am_R 8 z' a' M1 (fun w M2 => w = some (.int r) ∧ INV M2))
def STEPJ (M : am_M) (z : Nat) (a : List Value) (z' : Nat) (a' : List Value) : Prop := am_R 8 z a M (fun v M1 => ∃ r, v = some (.long r) ∧ am_R 8 z' a' M1 (fun w M2 => w = some (.long r) ∧ INV M2))
theorem HI_ne {M M' : am_M} {u : Nat} {past : fT} (h : HI M u past) (hr : ∀ k, (k = 6 ∨ 49 ≤ k) → M'.1 k = M.1 k) : HI M' u past := by
  obtain ⟨a1, a2, o, a3, a4, a5⟩ := h
  refine ⟨a1, by rw [hr 6 (Or.inl rfl)]; exact a2, o, a3, by rw [hr 6 (Or.inl rfl)]; exact a4, fun i hi => ?_⟩
  obtain ⟨b1, b2⟩ := a5 i hi
  refine ⟨b1, ?_⟩
  have e : ∀ t, M'.1 (hnd ((o + i) % 10) + t) = M.1 (hnd ((o + i) % 10) + t) := fun t => hr _ (Or.inr (by unfold hnd; omega))
  rw [e 1, e 2, e 3, e 4, show M'.1 (hnd ((o + i) % 10)) = M.1 (hnd ((o + i) % 10)) from e 0]
  exact b2
theorem TX_ne {M M' : am_M} {n : Nat} {t : fT} (h : TX M n t) (h8 : M'.1 8 = M.1 8) (h9 : M'.1 9 = M.1 9) : TX M' n t := by
  obtain ⟨a, b, c⟩ := h
  exact ⟨a, by rw [h8]; exact b, fun i hi => by rw [h9]; exact c i hi⟩
theorem CK_FR {M M' : am_M} {f g : fT} {u : Nat} {past : fT} {n : Nat} {t : fT} (h : CK M f u past n t) (hg : AG M' g) (hw : wf g) (hr : FR M M') : CK M' g u past n t := ⟨hw, hg, HI_ne h.2.2.1 (fun k hk => hr k (by omega)), TX_ne h.2.2.2 (hr 8 (by omega)) (hr 9 (by omega))⟩
theorem CK_QS {M M' : am_M} {f : fT} {u : Nat} {past : fT} {n : Nat} {t : fT} (h : CK M f u past n t) (hr : QS M M') : CK M' f u past n t := ⟨h.1, AG_ne h.2.1 (fun k _ _ => hr k (by omega)), HI_ne h.2.2.1 (fun k hk => hr k (by omega)), TX_ne h.2.2.2 (hr 8 (by omega)) (hr 9 (by omega))⟩
theorem RI_RS {M M' : am_M} {f : fT} {u : Nat} {past : fT} {n : Nat} {t : fT} (h : RI M f u past n t) (hr : RS M M') : RI M' f u past n t := by
  obtain ⟨a, b, c, d, e⟩ := h
  exact ⟨by rw [hr 34 (by omega) (by omega)]; exact a, by rw [hr 33 (by omega) (by omega)]; exact b, by rw [hr 35 (by omega) (by omega)]; exact c, by rw [hr 33 (by omega) (by omega)]; exact d, by rw [hr 36 (by omega) (by omega)]; exact e⟩
theorem RS_FR {M M' : am_M} (h : FR M M') : RS M M' := fun k a _ => h k (by omega)
theorem comb {M : am_M} {f : fT} {u : Nat} {past : fT} {n : Nat} {t f' : fT} {u' : Nat} {past' : fT} {n' : Nat} {t' : fT} {r : Int32} {z z' : Nat} {a a' : List Value} (hR : RI M f u past n t) (hc : am_R 8 z a M (fun v M1 => v = some (.int r) ∧ CK M1 f' u' past' n' t' ∧ RS M M1)) (hm : ∀ M1, RI M1 f u past n t → am_R 8 z' a' M1 (fun w M2 => w = some (.int r) ∧ RI M2 f' u' past' n' t' ∧ QS M1 M2)) : STEP M z a z' a' :=
  hc.mono (fun v M1 h => ⟨r, h.1, (hm M1 (RI_RS hR h.2.2)).mono (fun w M2 k => ⟨k.1, f', u', past', n', t', CK_QS h.2.1 k.2.2, k.2.1⟩)⟩)
/-- what a reading method of the reference leaves -/
def RK (M M' : am_M) : Prop := (M'.1 34 = M.1 34 ∧ M'.1 35 = M.1 35 ∧ M'.1 36 = M.1 36 ∧ M'.1 33 2 = M.1 33 2 ∧ M'.1 33 4 = M.1 33 4) ∧ QS M M'
theorem RK_refl (M : am_M) : RK M M := ⟨⟨rfl, rfl, rfl, rfl, rfl⟩, fun _ _ => rfl⟩
theorem RI_RK {M M' : am_M} {f : fT} {u : Nat} {past : fT} {n : Nat} {t : fT} (h : RI M f u past n t) (hr : RK M M') : RI M' f u past n t := ⟨hr.1.1.trans h.1, hr.1.2.2.2.1.trans h.2.1, hr.1.2.1.trans h.2.2.1, hr.1.2.2.2.2.trans h.2.2.2.1, hr.1.2.2.1.trans h.2.2.2.2⟩
theorem roM {d z : Nat} {a : List Value} {M : am_M} {x : Value} (h : am_R d z a M (fun v M' => v = some x ∧ M' = M)) : am_R d z a M (fun v M' => v = some x ∧ RK M M') := h.mono (fun v M' q => ⟨q.1, by rw [q.2]; exact RK_refl M⟩)
theorem RK_42 (M : am_M) (S : fT) : RK M (am_u M.1 42 S, M.2) := ⟨⟨am_u_ne M.1 S (show 34 ≠ 42 by decide), am_u_ne M.1 S (show 35 ≠ 42 by decide), am_u_ne M.1 S (show 36 ≠ 42 by decide), congrFun (am_u_ne M.1 S (show 33 ≠ 42 by decide)) 2, congrFun (am_u_ne M.1 S (show 33 ≠ 42 by decide)) 4⟩, fun k hk => am_u_ne _ _ (by omega)⟩
theorem RK_ga (M : am_M) (n : Nat) (h m : fT) : RK M (gaM M n h m) := ⟨⟨gaM_ne _ _ _ _ (by decide), gaM_ne _ _ _ _ (by decide), gaM_ne _ _ _ _ (by decide), by rw [gaM_33, upd_ne _ _ (by decide)], by rw [gaM_33, upd_ne _ _ (by decide)]⟩, fun k hk => gaM_ne _ _ _ _ (by omega)⟩
theorem RK_fl (M : am_M) (r : Nat) (rc rl : fT) : RK M (flM M r rc rl) := ⟨⟨flM_ne _ _ _ _ (by decide), flM_ne _ _ _ _ (by decide), flM_ne _ _ _ _ (by decide), by rw [flM_33, upd_ne _ _ (by decide)], by rw [flM_33, upd_ne _ _ (by decide)]⟩, fun k hk => flM_ne _ _ _ _ (by omega)⟩
/-- a reading step -/
theorem stepR {M : am_M} {f : fT} {u : Nat} {past : fT} {n : Nat} {t : fT} {r : Int32} {z z' : Nat} {a a' : List Value} (hC : CK M f u past n t) (hR : RI M f u past n t) (hc : am_R 8 z a M (fun v M1 => v = some (.int r) ∧ AG M1 f ∧ FR M M1)) (hm : ∀ M1, RI M1 f u past n t → am_R 8 z' a' M1 (fun w M2 => w = some (.int r) ∧ RK M1 M2)) : STEP M z a z' a' :=
  comb hR (hc.mono (fun v M1 h => ⟨h.1, CK_FR hC h.2.1 hC.1 h.2.2, RS_FR h.2.2⟩)) (fun M1 h1 => (hm M1 h1).mono (fun w M2 h => ⟨h.1, RI_RK h1 h.2, h.2.2⟩))
theorem FR_tx (M : am_M) (g cc cl : fT) (h : g 1 = M.1 8 1) : (∀ k, k ≠ 8 → k ≠ 9 → k ≠ 10 → k ≠ 11 → (txM M g (M.1 9) cc cl).1 k = M.1 k) := fun k a b c d => txM_ne _ _ _ _ _ (by omega)
theorem prs_fst (t : fT) (n m i r : Nat) (rc rl rc' rl' : fT) : (prs t n m i r rc rl).1 = (prs t n m i r rc' rl').1 := by
  induction m generalizing i r rc rl rc' rl' with
  | zero => rfl
  | succ m ih =>
    unfold prs
    split
    · rfl
    · split
      · split
        · rfl
        · split
          · exact ih _ _ _ _ _ _
          · exact ih _ _ _ _ _ _
      · split
        · exact ih _ _ _ _ _ _
        · rfl
