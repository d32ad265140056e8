theorem kpM_ne (M : am_M) (u : Nat) (b : Int32) {k : Nat} (h : k ≠ 33 ∧ k ≠ 34 ∧ k ≠ 35) : (kpM M u b).1 k = M.1 k := by simp [kpM, am_u, h.1, h.2.1, h.2.2]
theorem kpM_33 (M : am_M) (u : Nat) (b : Int32) : (kpM M u b).1 33 = upd (M.1 33) 2 (nI (kpN u)) := by simp [kpM, am_u]
/-- sort: keys, the next entry -/
def keyF (f srv : fT) (ord : Nat) (bh : Option Nat) (e : Nat) : Int32 := if ord = 0 then nI 2 * cha (f (259 + e)) 0 + nI 5 * cha (f (259 + e)) 1 + cha (f (259 + e)) 2 else if ord = 1 then - srv e else match bh with
  | none => f (259 + e)
  | some b => dst (f 291) (f (259 + e)) (f (259 + b))
def nxt (f srv pl : fT) (ord : Nat) (bh : Option Nat) : Nat → Option Nat
  | 0 => none
  | e + 1 => if f (275 + e) = 1 ∨ ¬ pl e = 0 then nxt f srv pl ord bh e else match nxt f srv pl ord bh e with
    | none => some e
    | some b => if keyF f srv ord bh e < keyF f srv ord bh b then some e else some b
theorem nxt_s (f srv pl : fT) (ord : Nat) (bh : Option Nat) (e : Nat) : nxt f srv pl ord bh (e + 1) = if f (275 + e) = 1 ∨ ¬ pl e = 0 then nxt f srv pl ord bh e else match nxt f srv pl ord bh e with
    | none => some e
    | some b => if keyF f srv ord bh e < keyF f srv ord bh b then some e else some b := rfl
theorem nxt_lt {f srv pl : fT} {ord : Nat} {bh : Option Nat} {k b : Nat} (h : nxt f srv pl ord bh k = some b) : b < k ∧ f (275 + b) ≠ 1 ∧ pl b = 0 := by
  induction k generalizing b with
  | zero => cases h
  | succ k ih =>
    rw [nxt_s] at h
    split at h
    · have := ih h; exact ⟨by omega, this.2⟩
    · next hne =>
      have h1 : f (275 + k) ≠ 1 ∧ pl k = 0 := ⟨fun q => hne (Or.inl q), Classical.byContradiction fun q => hne (Or.inr q)⟩
      split at h
      · cases h; exact ⟨Nat.lt_succ_self k, h1⟩
      · next b0 hb =>
        have := ih hb
        split at h
        · cases h; exact ⟨Nat.lt_succ_self k, h1⟩
        · cases h; exact ⟨by omega, this.2⟩
theorem oI_ne {o : Option Nat} (h : ∀ b, o = some b → b < 1000) : oI o = -1 ↔ o = none := by
  cases o with
  | none => simp [oI]
  | some b => simp [oI, nI_ne1 (k := b) (by have := h b rfl; omega)]
/-- rearranges: by the origins og -/
def raC (f : fT) (og : Nat → Nat) (k : Nat) : fT := fun j => if 259 ≤ j ∧ j < 259 + k then f (259 + og (j - 259)) else if 275 ≤ j ∧ j < 275 + k then f (275 + og (j - 275)) else f j
theorem ra_0 (f : fT) (og : Nat → Nat) : raC f og 0 = f := by
  funext j; unfold raC; rw [if_neg (by omega), if_neg (by omega)]
theorem ra_s (f : fT) (og : Nat → Nat) (k : Nat) (hk : k < 16) : upd (upd (raC f og k) (259 + k) (f (259 + og k))) (275 + k) (f (275 + og k)) = raC f og (k + 1) := by
  funext j
  unfold raC
  by_cases h1 : j = 275 + k
  · subst h1
    rw [upd_self, if_neg (by omega), if_pos (by omega), Nat.add_sub_cancel_left]
  · rw [upd_ne _ _ h1]
    by_cases h2 : j = 259 + k
    · subst h2
      rw [upd_self, if_pos (by omega), Nat.add_sub_cancel_left]
    · rw [upd_ne _ _ h2]
      by_cases h3 : 259 ≤ j ∧ j < 259 + k
      · rw [if_pos h3, if_pos (show 259 ≤ j ∧ j < 259 + (k + 1) by omega)]
      · rw [if_neg h3, if_neg (show ¬ (259 ≤ j ∧ j < 259 + (k + 1)) by omega)]
        by_cases h4 : 275 ≤ j ∧ j < 275 + k
        · rw [if_pos h4, if_pos (show 275 ≤ j ∧ j < 275 + (k + 1) by omega)]
        · rw [if_neg h4, if_neg (show ¬ (275 ≤ j ∧ j < 275 + (k + 1)) by omega)]
def mvd (og : Nat → Nat) : Nat → Nat
  | 0 => 0
  | k + 1 => mvd og k + (if og k = k then 0 else 1)
theorem mvd_s (og : Nat → Nat) (k : Nat) : mvd og (k + 1) = mvd og k + (if og k = k then 0 else 1) := rfl
theorem mvd_le (og : Nat → Nat) (k : Nat) : mvd og k ≤ k := by
  induction k with
  | zero => exact Nat.le_refl 0
  | succ k ih => rw [mvd_s]; split <;> omega
/-- the new index of an index: the last e below k with og e = was -/
def newI (og : Nat → Nat) (was : Int32) : Nat → Int32
  | 0 => was
  | e + 1 => if nI (og e) = was then nI e else newI og was e
theorem newI_s (og : Nat → Nat) (was : Int32) (e : Nat) : newI og was (e + 1) = if nI (og e) = was then nI e else newI og was e := rfl
def raI (f : fT) (og : Nat → Nat) (n k : Nat) : fT := stF f 293 k (fun p => newI og (f (293 + p)) n)
