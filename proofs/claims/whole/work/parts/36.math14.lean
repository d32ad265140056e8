/-- sums of a channel over the pixels of an entry -/
def smI (f : fT) (e c : Nat) : Nat → Int32
  | 0 => nI 0
  | p + 1 => if f (2 + p) ≠ -1 ∧ ner f (f (2 + p)) = some e then smI f e c p + cha (f (2 + p)) c else smI f e c p
theorem smI_s (f : fT) (e c p : Nat) : smI f e c (p + 1) = if f (2 + p) ≠ -1 ∧ ner f (f (2 + p)) = some e then smI f e c p + cha (f (2 + p)) c else smI f e c p := rfl
def smR (old f : fT) (p : Nat) : fT := stF old 0 48 (fun j => smI f (j / 3) (j % 3) p)
/-- within a pixel of entry b, behind k channels -/
def smQ (old f : fT) (p b k : Nat) : fT := stF old 0 48 (fun j => if j / 3 = b ∧ j % 3 < k then smI f (j / 3) (j % 3) (p + 1) else smI f (j / 3) (j % 3) p)
theorem smQ_0 (old f : fT) (p b : Nat) : smQ old f p b 0 = smR old f p := by
  unfold smQ smR
  congr 1
  funext j
  rw [if_neg (by omega)]
theorem smQ_3 (old : fT) {f : fT} {p b : Nat} (hb : ner f (f (2 + p)) = some b) : smQ old f p b 3 = smR old f (p + 1) := by
  unfold smQ smR
  congr 1
  funext j
  by_cases h : j / 3 = b
  · rw [if_pos ⟨h, Nat.mod_lt _ (by decide)⟩]
  · rw [if_neg (fun q => h q.1), smI_s, if_neg (fun q => h (by have := q.2; rw [hb] at this; cases this; rfl))]
theorem smR_s0 (old : fT) {f : fT} {p : Nat} (h : f (2 + p) = -1) : smR old f (p + 1) = smR old f p := by
  unfold smR
  congr 1
  funext j
  rw [smI_s, if_neg (fun q => q.1 h)]
theorem smQ_get (old f : fT) {p b k : Nat} (hb : b < 16) (hk : k < 3) : smQ old f p b k (3 * b + k) = smI f b k p := by
  unfold smQ stF
  rw [if_pos (by omega), Nat.sub_zero]
  dsimp only
  rw [if_neg (by omega), show (3 * b + k) / 3 = b by omega, show (3 * b + k) % 3 = k by omega]
theorem smQ_s (old : fT) {f : fT} {p b k : Nat} (ho : f (2 + p) ≠ -1) (hb : ner f (f (2 + p)) = some b) (hb2 : b < 16) (hk : k < 3) : upd (smQ old f p b k) (3 * b + k) (smI f b k p + cha (f (2 + p)) k) = smQ old f p b (k + 1) := by
  funext j
  by_cases h : j = 3 * b + k
  · subst h
    rw [upd_self]
    unfold smQ stF
    rw [if_pos (by omega), Nat.sub_zero]
    dsimp only
    rw [if_pos (by omega), show (3 * b + k) / 3 = b by omega, show (3 * b + k) % 3 = k by omega, smI_s, if_pos ⟨ho, hb⟩]
  · rw [upd_ne _ _ h]
    unfold smQ stF
    by_cases h48 : 0 ≤ j ∧ j < 0 + 48
    · rw [if_pos h48, if_pos h48, Nat.sub_zero]
      dsimp only
      by_cases q : j / 3 = b ∧ j % 3 < k
      · rw [if_pos q, if_pos (show j / 3 = b ∧ j % 3 < k + 1 by omega)]
      · rw [if_neg q, if_neg (show ¬ (j / 3 = b ∧ j % 3 < k + 1) by omega)]
    · rw [if_neg h48, if_neg h48]
/-- the mean color of the pixels of an entry -/
def rnM (f : fT) (e : Nat) : Nat → Int32
  | 0 => nI 0
  | c + 1 => nI 256 * rnM f e c + (nI 2 * smI f e c (fA f) + nI (svA f e)) / (nI 2 * nI (svA f e))
abbrev rnG (f : fT) (e : Nat) : Prop := f (275 + e) ≠ 1 ∧ 0 < svA f e
def rnF (f : fT) (k : Nat) : fT := fun j => if 259 ≤ j ∧ j < 259 + k ∧ rnG f (j - 259) then rnM f (j - 259) 3 else f j
def rnB (f : fT) : Nat → Bool
  | 0 => false
  | e + 1 => rnB f e || (decide (rnG f e) && decide (rnM f e 3 ≠ f (259 + e)))
theorem rnB_s (f : fT) (e : Nat) : rnB f (e + 1) = (rnB f e || (decide (rnG f e) && decide (rnM f e 3 ≠ f (259 + e)))) := rfl
theorem rn_0 (f : fT) : rnF f 0 = f := by
  funext j; unfold rnF; rw [if_neg (by omega)]
theorem rn_sN {f : fT} {k : Nat} (h : ¬ rnG f k) : rnF f (k + 1) = rnF f k := by
  funext j
  unfold rnF
  by_cases hj : j = 259 + k
  · subst hj
    rw [if_neg (by rw [Nat.add_sub_cancel_left]; exact fun q => h q.2.2), if_neg (by omega)]
  · by_cases q : 259 ≤ j ∧ j < 259 + k ∧ rnG f (j - 259)
    · rw [if_pos q, if_pos (show 259 ≤ j ∧ j < 259 + (k + 1) ∧ rnG f (j - 259) from ⟨q.1, by omega, q.2.2⟩)]
    · rw [if_neg q, if_neg (fun z => q ⟨z.1, by omega, z.2.2⟩)]
theorem rn_sY {f : fT} {k : Nat} (h : rnG f k) : upd (rnF f k) (259 + k) (rnM f k 3) = rnF f (k + 1) := by
  funext j
  by_cases hj : j = 259 + k
  · subst hj
    rw [upd_self]
    unfold rnF
    rw [if_pos (show 259 ≤ 259 + k ∧ 259 + k < 259 + (k + 1) ∧ rnG f (259 + k - 259) from ⟨by omega, by omega, by rw [Nat.add_sub_cancel_left]; exact h⟩), Nat.add_sub_cancel_left]
  · rw [upd_ne _ _ hj]
    unfold rnF
    by_cases q : 259 ≤ j ∧ j < 259 + k ∧ rnG f (j - 259)
    · rw [if_pos q, if_pos (show 259 ≤ j ∧ j < 259 + (k + 1) ∧ rnG f (j - 259) from ⟨q.1, by omega, q.2.2⟩)]
    · rw [if_neg q, if_neg (fun z => q ⟨z.1, by omega, z.2.2⟩)]
theorem rn_n {f : fT} {k j : Nat} (h : j < 259 ∨ 259 + k ≤ j) : rnF f k j = f j := by
  unfold rnF; rw [if_neg (by omega)]
def rfW : Nat → fT → fT × Nat
  | 0, f => (f, 0)
  | m + 1, f => if rnB f (fN f) = true then ((rfW m (rnF f (fN f))).1, (rfW m (rnF f (fN f))).2 + 1) else (rnF f (fN f), 0)
def rdM (M : am_M) (S T F : fT) : am_M := (am_u (am_u (am_u M.1 42 S) 46 T) 34 F, M.2)
theorem rdM_34 (M : am_M) (A B F : fT) : (rdM M A B F).1 34 = F := by simp [rdM, am_u]
theorem rdM_42 (M : am_M) (A B F : fT) : (rdM M A B F).1 42 = A := by simp [rdM, am_u]
theorem rdM_46 (M : am_M) (A B F : fT) : (rdM M A B F).1 46 = B := by simp [rdM, am_u]
theorem rdM_u34 (M : am_M) (A B F G : fT) : ((am_u (rdM M A B F).1 34 G, (rdM M A B F).2) : am_M) = rdM M A B G := by
  refine Prod.ext (funext fun q => ?_) rfl
  simp only [rdM, am_u]
  by_cases h4 : q = 34 <;> simp_all
theorem rdM_u46 (M : am_M) (A B F G : fT) : ((am_u (rdM M A B F).1 46 G, (rdM M A B F).2) : am_M) = rdM M A G F := by
  refine Prod.ext (funext fun q => ?_) rfl
  simp only [rdM, am_u]
  by_cases h4 : q = 34 <;> by_cases h0 : q = 42 <;> by_cases h1 : q = 46 <;> simp_all
theorem rdM_u42 (M : am_M) (A B F G : fT) : ((am_u (rdM M A B F).1 42 G, (rdM M A B F).2) : am_M) = rdM M G B F := by
  refine Prod.ext (funext fun q => ?_) rfl
  simp only [rdM, am_u]
  by_cases h4 : q = 34 <;> by_cases h0 : q = 42 <;> by_cases h1 : q = 46 <;> simp_all
theorem rdM_eta (M : am_M) : rdM M (M.1 42) (M.1 46) (M.1 34) = M := by
  refine Prod.ext (funext fun q => ?_) rfl
  simp only [rdM, am_u]
  by_cases h4 : q = 34 <;> by_cases h0 : q = 42 <;> by_cases h1 : q = 46 <;> simp_all
theorem rnF_wf {f : fT} (hf : wf0 f) {k : Nat} : wf0 (rnF f k) ∧ fW (rnF f k) = fW f ∧ fH (rnF f k) = fH f ∧ fN (rnF f k) = fN f := wf0_of hf (rn_n (by omega)) (rn_n (by omega)) (rn_n (by omega))
