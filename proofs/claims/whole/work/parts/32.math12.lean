def swO (a b : Nat) : Nat → Nat := fun e => if e = a then b else if e = b then a else e
/-- the chosen entries, one after another: the last one, the placed ones, the origins -/
def srt (f srv pl0 : fT) (ord : Nat) : Nat → Option Nat × fT × (Nat → Nat)
  | 0 => (none, stF pl0 0 16 (fun _ => 0), fun e => e)
  | e + 1 => if f (275 + e) = 1 then srt f srv pl0 ord e else match nxt f srv (srt f srv pl0 ord e).2.1 ord (srt f srv pl0 ord e).1 (fN f) with
    | none => srt f srv pl0 ord e
    | some b => (some b, upd (srt f srv pl0 ord e).2.1 b 1, fun j => if j = e then b else (srt f srv pl0 ord e).2.2 j)
theorem srt_s (f srv pl0 : fT) (ord e : Nat) : srt f srv pl0 ord (e + 1) = if f (275 + e) = 1 then srt f srv pl0 ord e else match nxt f srv (srt f srv pl0 ord e).2.1 ord (srt f srv pl0 ord e).1 (fN f) with
    | none => srt f srv pl0 ord e
    | some b => (some b, upd (srt f srv pl0 ord e).2.1 b 1, fun j => if j = e then b else (srt f srv pl0 ord e).2.2 j) := rfl
/-- unlocked ones; unlocked ones that are placed -/
def ulk (f : fT) : Nat → Nat
  | 0 => 0
  | k + 1 => ulk f k + (if f (275 + k) = 1 then 0 else 1)
def upl (f pl : fT) : Nat → Nat
  | 0 => 0
  | k + 1 => upl f pl k + (if f (275 + k) = 1 ∨ pl k = 0 then 0 else 1)
theorem ulk_s (f : fT) (k : Nat) : ulk f (k + 1) = ulk f k + (if f (275 + k) = 1 then 0 else 1) := rfl
theorem upl_s (f pl : fT) (k : Nat) : upl f pl (k + 1) = upl f pl k + (if f (275 + k) = 1 ∨ pl k = 0 then 0 else 1) := rfl
theorem ulk_mono (f : fT) {a b : Nat} (h : a ≤ b) : ulk f a ≤ ulk f b := by
  induction b with
  | zero => rw [Nat.le_zero.mp h]; exact Nat.le_refl _
  | succ b ih =>
    rcases Nat.lt_or_ge b a with q | q
    · rw [show a = b + 1 by omega]; exact Nat.le_refl _
    · rw [ulk_s]; have := ih q; omega
theorem nxt_none {f srv pl : fT} {ord : Nat} {bh : Option Nat} {k : Nat} (h : nxt f srv pl ord bh k = none) : upl f pl k = ulk f k := by
  induction k with
  | zero => rfl
  | succ k ih =>
    rw [nxt_s] at h
    split at h
    · next hc =>
      rw [upl_s, ulk_s, ih h]
      rcases hc with q | q
      · rw [if_pos (Or.inl q), if_pos q]
      · by_cases hl : f (275 + k) = 1
        · rw [if_pos (Or.inl hl), if_pos hl]
        · rw [if_neg (fun z => z.elim hl q), if_neg hl]
    · split at h
      · cases h
      · split at h <;> cases h
theorem upl_upd {f pl : fT} {b : Nat} (hl : f (275 + b) ≠ 1) (hp : pl b = 0) (k : Nat) : upl f (upd pl b 1) k = upl f pl k + (if b < k then 1 else 0) := by
  induction k with
  | zero => simp [upl]
  | succ k ih =>
    rw [upl_s, upl_s, ih]
    by_cases hk : k = b
    · subst hk
      rw [if_neg (show ¬ k < k by omega), if_pos (show k < k + 1 by omega), upd_self, if_neg (fun z => z.elim hl (by decide)), if_pos (Or.inr hp)]
    · rw [upd_ne _ _ hk]
      have : (if b < k then 1 else 0 : Nat) = (if b < k + 1 then 1 else 0) := by
        by_cases q : b < k
        · rw [if_pos q, if_pos (by omega)]
        · rw [if_neg q, if_neg (by omega)]
      omega
theorem upl_0 (f pl0 : fT) {k : Nat} (h : k ≤ 16) : upl f (stF pl0 0 16 (fun _ => 0)) k = 0 := by
  induction k with
  | zero => rfl
  | succ k ih =>
    rw [upl_s, ih (by omega), if_pos (Or.inr _)]
    have := st_in pl0 (a := 0) (k := 16) (p := k) (fun _ => 0) (by omega)
    rwa [Nat.zero_add] at this
/-- what holds of the choice all along -/
theorem srt_ok (f srv pl0 : fT) (ord : Nat) (hn : fN f ≤ 16) {e : Nat} (he : e ≤ fN f) :
    upl f (srt f srv pl0 ord e).2.1 (fN f) = ulk f e ∧ (∀ b, (srt f srv pl0 ord e).1 = some b → b < fN f) ∧ (∀ j, j < fN f → (srt f srv pl0 ord e).2.2 j < fN f) ∧ (∀ j, e ≤ j → (srt f srv pl0 ord e).2.2 j = j) ∧ (∀ e', e' < e → f (275 + e') ≠ 1 → ∃ b, nxt f srv (srt f srv pl0 ord e').2.1 ord (srt f srv pl0 ord e').1 (fN f) = some b) := by
  induction e with
  | zero => exact ⟨upl_0 f pl0 hn, fun b h => (by cases h), fun j hj => hj, fun j _ => rfl, fun _ h => absurd h (by omega)⟩
  | succ e ih =>
    obtain ⟨h1, h2, h3, h4, h5⟩ := ih (by omega)
    rw [srt_s]
    by_cases hl : f (275 + e) = 1
    · rw [if_pos hl, ulk_s, if_pos hl]
      exact ⟨h1, h2, h3, fun j hj => h4 j (by omega), fun e' h6 h7 => by
        by_cases q : e' = e
        · subst q; exact absurd hl h7
        · exact h5 e' (by omega) h7⟩
    · rw [if_neg hl]
      cases hx : nxt f srv (srt f srv pl0 ord e).2.1 ord (srt f srv pl0 ord e).1 (fN f) with
      | none =>
        have a := nxt_none hx
        have b := ulk_mono f (show e + 1 ≤ fN f by omega)
        rw [ulk_s, if_neg hl] at b
        omega
      | some b =>
        obtain ⟨b1, b2, b3⟩ := nxt_lt hx
        refine ⟨?_, fun b' h => (by cases h; exact b1), fun j hj => ?_, fun j hj => ?_, fun e' h6 h7 => ?_⟩
        · show upl f (upd _ b 1) (fN f) = _
          rw [upl_upd b2 b3, h1, ulk_s, if_neg hl, if_pos b1]
        · show (if j = e then b else _) < _
          split
          · exact b1
          · exact h3 j hj
        · show (if j = e then b else _) = _
          rw [if_neg (by omega)]
          exact h4 j (by omega)
        · by_cases q : e' = e
          · subst q; exact ⟨b, hx⟩
          · exact h5 e' (by omega) h7
