theorem ofInE {f : fT} {x : Int32} (hf : wf0 f) (h : inE f x) : ∃ e : Nat, e < fN f ∧ x = nI e := by
  obtain ⟨-, -, a1, a2⟩ := hf
  unfold inE at h
  rw [a1] at h
  rcases Nat.eq_zero_or_pos (fN f) with q | q
  · rw [q] at h
    have h1 := Int32.le_trans h.1 h.2
    exact absurd h1 (by decide)
  · rw [show (1 : Int32) = nI 1 from rfl, nI_sub q, show (0 : Int32) = nI 0 from rfl] at h
    obtain ⟨n, -, h2, h3⟩ := rng h (by omega)
    exact ⟨n, by omega, h3⟩
theorem inE_of {f : fT} {e : Nat} (hf : wf0 f) (h : e < fN f) : inE f (nI e) := by
  obtain ⟨-, -, a1, a2⟩ := hf
  unfold inE
  rw [a1, show (1 : Int32) = nI 1 from rfl, nI_sub (by omega), show (0 : Int32) = nI 0 from rfl]
  exact rngI (by omega) (by omega) (by omega)
def lkc (f : fT) (c : Int32) : Nat → Bool
  | 0 => false
  | k + 1 => lkc f c k || (decide (f (275 + k) = 1) && decide (f (259 + k) = c))
def adF (f : fT) (c l : Int32) : fT := upd (upd (upd f (259 + fN f) c) (275 + fN f) l) 258 (nI (fN f + 1))
def rmF (f : fT) (e k : Nat) : fT := fun j => if j = 258 then nI (fN f - 1) else if 259 + e ≤ j ∧ j < 259 + e + k then f (j + 1) else if 275 + e ≤ j ∧ j < 275 + e + k then f (j + 1) else f j
theorem rm_s (f : fT) (e k : Nat) (h : e + k < 16) : upd (upd (rmF f e k) (259 + (e + k)) (f (259 + (e + k) + 1))) (275 + (e + k)) (f (275 + (e + k) + 1)) = rmF f e (k + 1) := by
  funext j
  simp only [rmF, upd]
  repeat' split
  all_goals first | rfl | (congr 1; omega) | (exfalso; omega)
theorem rm_0 (f : fT) (e : Nat) : rmF f e 0 = upd f 258 (nI (fN f - 1)) := by
  funext j
  unfold rmF upd
  by_cases h : j = 258
  · rw [if_pos h, if_pos h]
  · rw [if_neg h, if_neg h, if_neg (by omega), if_neg (by omega)]
def ixc (f : fT) (e : Int32) : Nat → Nat
  | 0 => 0
  | k + 1 => ixc f e k + (if f (293 + k) = e then 1 else 0)
theorem ixc_le (f : fT) (e : Int32) (k : Nat) : ixc f e k ≤ k := by
  induction k with
  | zero => exact Nat.le_refl 0
  | succ k ih => unfold ixc; split <;> omega
abbrev ner (f : fT) (c : Int32) : Option Nat := nbt f c (-1) (fN f)
def svc (f : fT) (e : Nat) : Nat → Nat
  | 0 => 0
  | p + 1 => svc f e p + (if f (2 + p) ≠ -1 ∧ ner f (f (2 + p)) = some e then 1 else 0)
theorem svc_le (f : fT) (e : Nat) (k : Nat) : svc f e k ≤ k := by
  induction k with
  | zero => exact Nat.le_refl 0
  | succ k ih => unfold svc; split <;> omega
def svR (old : fT) (f : fT) (p : Nat) : fT := stF old 0 16 (fun e => nI (svc f e p))
theorem ner_some {f : fT} (c : Int32) {k : Nat} (h : 0 < k) (h31 : k ≤ 16) : ∃ b, nbt f c (-1) k = some b ∧ b < k := by
  induction k with
  | zero => omega
  | succ k ih =>
    unfold nbt
    rcases Nat.eq_zero_or_pos k with q | q
    · subst q
      exact ⟨0, by simp [nbt, nI_ne1 (k := 0) (by decide)], by omega⟩
    · obtain ⟨b, hb, hb2⟩ := ih q (by omega)
      rw [hb]
      simp only [if_neg (nI_ne1 (k := k) (by omega))]
      split
      · exact ⟨k, rfl, by omega⟩
      · exact ⟨b, rfl, by omega⟩
theorem wf0_kp {f : fT} (hf : wf0 f) (b : Int32) : wf0 (kpF f b) ∧ fW (kpF f b) = fW f ∧ fH (kpF f b) = fH f ∧ fN (kpF f b) = fN f := wf0_of hf (kpF_ne _ _ (by decide)) (kpF_ne _ _ (by decide)) (kpF_ne _ _ (by decide))
def lcd (f : fT) : Nat → Nat
  | 0 => 0
  | k + 1 => lcd f k + (if f (275 + k) = 1 then 1 else 0)
theorem lcd_le (f : fT) (k : Nat) : lcd f k ≤ k := by
  induction k with
  | zero => exact Nat.le_refl 0
  | succ k ih => unfold lcd; split <;> omega
theorem lcd_s (f : fT) (k : Nat) : lcd f (k + 1) = lcd f k + (if f (275 + k) = 1 then 1 else 0) := rfl
theorem ixc_s (f : fT) (e : Int32) (k : Nat) : ixc f e (k + 1) = ixc f e k + (if f (293 + k) = e then 1 else 0) := rfl
