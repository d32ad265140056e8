theorem df_row (old f : fT) (k : Nat) : upd (dfI old f k) k (if f (2 + k / 3) = -1 then nI 0 else nI 16 * cha (f (2 + k / 3)) (k % 3)) = dfI old f (k + 1) := by
  have := st_s old 0 k (fun j => if f (2 + j / 3) = -1 then nI 0 else nI 16 * cha (f (2 + j / 3)) (j % 3))
  rw [Nat.zero_add] at this
  exact this
theorem vsS_sm {mt x y : Nat} {f T : fT} : sm293 (vsS mt x y (f, T)).1 f := by
  intro j hj
  unfold vsS
  dsimp only
  split
  · rfl
  · show upd _ _ _ j = _
    rw [upd_ne _ _ (by omega)]
theorem dfS_s (mt : Nat) (f T : fT) (k : Nat) : dfS mt f T (k + 1) = if f (2 + (k / fW f * fW f + dfX f k)) = -1 then dfS mt f T k else vsS mt (dfX f k) (k / fW f) (dfS mt f T k) := rfl
theorem dfS_sm (mt : Nat) (f T : fT) (k : Nat) : sm293 (dfS mt f T k).1 f := by
  induction k with
  | zero => exact fun _ _ => rfl
  | succ k ih =>
    rw [dfS_s]
    split
    · exact ih
    · intro j hj
      have := vsS_sm (mt := mt) (x := dfX f k) (y := k / fW f) (f := (dfS mt f T k).1) (T := (dfS mt f T k).2) j hj
      exact this.trans (ih j hj)
theorem dfX_lt {f : fT} (hf : wf0 f) (k : Nat) : dfX f k < fW f := by
  have h := hf.1.2.1
  have := Nat.mod_lt k (show 0 < fW f by omega)
  unfold dfX
  split <;> omega
theorem df_y {f : fT} {k : Nat} (h : k < fA f) : k / fW f < fH f := Nat.div_lt_of_lt_mul h
theorem mp_row (f : fT) (mt : Nat) (s : Int32) (k : Nat) : upd (mpF f mt s k) (293 + k) (if f (2 + k) ≠ -1 ∧ mt < 2 then oI (ner f (diC f k (if mt = 0 then nI 0 else s) 3)) else nI (fN f)) = mpF f mt s (k + 1) := st_s f 293 k _
theorem mp_sm (f : fT) (mt : Nat) (s : Int32) (k : Nat) : sm293 (mpF f mt s k) f := fun j hj => st_out f _ (Or.inl hj)
theorem diC_sm {f g : fT} (hf : wf0 f) (h : sm293 g f) {p : Nat} (hp : p < fA f) (s : Int32) (c : Nat) : diC g p s c = diC f p s c := by
  obtain ⟨w1, w2, w3, w4⟩ := h.wf hf
  have := fA_le hf
  induction c with
  | zero => rfl
  | succ c ih =>
    unfold diC diB
    rw [ih, h (2 + p) (by omega), w2]
theorem ner_sm {f g : fT} (hf : wf0 f) (h : sm293 g f) (c : Int32) : ner g c = ner f c := by
  obtain ⟨w1, w2, w3, w4⟩ := h.wf hf
  unfold ner
  rw [w4]
  exact sm293_nbt h c (-1) _ hf.2.2.2
/-- the flat state behind map -/
def mapF (f T0 : fT) (mt : Nat) (s : Int32) : fT := if mt < 2 then mpF f mt s (fA f) else (dfS mt (mpF f mt s (fA f)) (dfI T0 (mpF f mt s (fA f)) (3 * fA f)) (fA f)).1
