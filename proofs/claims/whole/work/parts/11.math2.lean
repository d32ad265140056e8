theorem am_u_u {α : Type} (f : Nat → Nat → α) (k : Nat) (g g' : Nat → α) : am_u (am_u f k g) k g' = am_u f k g' := by
  funext j
  simp only [am_u]
  split <;> rfl
theorem am_u_eta {α : Type} (f : Nat → Nat → α) (k : Nat) : am_u f k (f k) = f := by
  funext j
  simp only [am_u]
  split
  · next h => rw [h]
  · rfl
theorem ae_M {scr : am_S} {C : am_Call} {cc : ByteArray} {ci : Nat} {ret : Option FieldType} {Q : am_PT} {pc : Nat} {L : am_L} {st : List Value} {M M' : am_M} (hM : M = M') (h : am_E scr C cc ci ret Q (pc, L, st, M')) : am_E scr C cc ci ret Q (pc, L, st, M) := hM ▸ h
theorem upd_self (f : fT) (k : Nat) (x : Int32) : upd f k x k = x := by simp [upd]
theorem upd_ne (f : fT) {k j : Nat} (x : Int32) (h : j ≠ k) : upd f k x j = f j := by simp [upd, h]
/-! keeps -/
def kpN (u : Nat) : Nat := if u = 10 then 10 else u + 1
def kpU (u : Nat) : Nat := if u = 10 then 9 else u
def kpS (past : fT) (u : Nat) : fT := if u = 10 then (fun j => if j < 4941 then past (j + 549) else past j) else past
def kpC (past f : fT) (u k : Nat) : fT := fun j => if 549 * u ≤ j ∧ j < 549 * u + k then f (j - 549 * u) else past j
def kpP (past f : fT) (u : Nat) : fT := kpC (kpS past u) f (kpU u) 549
def kpF (f : fT) (b : Int32) : fT := upd f 292 (if b = 0 then f 292 else 0)
def kpM (M : am_M) (u : Nat) (b : Int32) : am_M := (am_u (am_u (am_u M.1 35 (kpP (M.1 35) (M.1 34) u)) 33 (upd (M.1 33) 2 (nI (kpN u)))) 34 (kpF (M.1 34) b), M.2)
theorem kp_sh (past : fT) (k : Nat) : upd (fun j => if j < k then past (j + 549) else past j) k (past (k + 549)) = fun j => if j < k + 1 then past (j + 549) else past j := by
  funext j
  by_cases h : j = k
  · subst h; simp [upd]
  · simp only [upd, if_neg h]
    by_cases h2 : j < k
    · rw [if_pos h2, if_pos (by omega)]
    · rw [if_neg h2, if_neg (by omega)]
theorem kp_cp (past f : fT) (u k : Nat) : upd (kpC past f u k) (549 * u + k) (f k) = kpC past f u (k + 1) := by
  funext j
  unfold kpC
  by_cases h : j = 549 * u + k
  · subst h; rw [upd_self, if_pos (by omega), Nat.add_sub_cancel_left]
  · rw [upd_ne _ _ h]
    by_cases h2 : 549 * u ≤ j ∧ j < 549 * u + k
    · rw [if_pos h2, if_pos (by omega)]
    · rw [if_neg h2, if_neg (by omega)]
theorem kp_c0 (past f : fT) (u : Nat) : kpC past f u 0 = past := by
  funext j
  unfold kpC
  rw [if_neg (by omega)]
