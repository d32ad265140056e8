theorem ind_of {f : fT} {p : Nat} (hf : wf f) (h1 : f 292 = 1) (hp : p < fA f) : ∃ e, e ≤ fN f ∧ f (293 + p) = nI e ∧ (f (2 + p) ≠ -1 → e < fN f) := by
  obtain ⟨-, -, -, -, -, h⟩ := hf
  obtain ⟨a, b⟩ := h h1 p hp
  by_cases q : f (2 + p) = -1
  · exact ⟨fN f, Nat.le_refl _, a q, fun z => absurd q z⟩
  · obtain ⟨e, h2, h3⟩ := b q
    exact ⟨e, by omega, h3, fun _ => h2⟩
def ixN (f : fT) (p : Nat) : Nat := (f (293 + p)).toNatClampNeg
theorem ixN_of {f : fT} {p : Nat} (hf : wf f) (h1 : f 292 = 1) (hp : p < fA f) : f (293 + p) = nI (ixN f p) ∧ ixN f p ≤ fN f ∧ (f (2 + p) ≠ -1 → ixN f p < fN f) := by
  obtain ⟨e, a, b, c⟩ := ind_of hf h1 hp
  have hn := hf.1.2.2.2
  have e1 : ixN f p = e := by unfold ixN; rw [b, nI_clamp (by omega)]
  rw [e1]
  exact ⟨b, a, c⟩
def err (f : fT) (p : Nat) : Int32 := dst (f 291) (f (2 + p)) (f (259 + ixN f p))
def esum (f : fT) : Nat → Int32
  | 0 => nI 0
  | p + 1 => esum f p + (if f (2 + p) = -1 then nI 0 else err f p)
def wst (f : fT) : Nat → Option Nat
  | 0 => none
  | p + 1 => if f (2 + p) = -1 then wst f p else match wst f p with
    | none => some p
    | some b => if err f b < err f p then some p else some b
theorem wst_lt {f : fT} {k b : Nat} (h : wst f k = some b) : b < k ∧ f (2 + b) ≠ -1 := by
  induction k generalizing b with
  | zero => cases h
  | succ k ih =>
    unfold wst at h
    split at h
    · have := ih h; exact ⟨by omega, this.2⟩
    · next hne =>
      split at h
      · cases h; exact ⟨Nat.lt_succ_self k, hne⟩
      · next b0 hb =>
        have := ih hb
        split at h
        · cases h; exact ⟨Nat.lt_succ_self k, hne⟩
        · cases h; exact ⟨by omega, this.2⟩
def rns (f : fT) : Nat → Nat
  | 0 => 1
  | k + 1 => rns f k + (if f (293 + (k + 1)) = f (293 + k) then 0 else 1)
theorem rns_le (f : fT) (k : Nat) : rns f k ≤ k + 1 := by
  induction k with
  | zero => exact Nat.le_refl 1
  | succ k ih => unfold rns; split <;> omega
/-- the distance to the nearest entry but one -/
def nbd (f : fT) (c but : Int32) : Int32 := match nbt f c but (fN f) with
  | some b => dst (f 291) c (f (259 + b))
  | none => 0
def bsum (f : fT) (but : Int32) : Nat → Int32
  | 0 => nI 0
  | p + 1 => if f (2 + p) = -1 then bsum f but p else bsum f but p + nbd f (f (2 + p)) but
def gsum (f : fT) (c : Int32) : Nat → Int32
  | 0 => nI 0
  | p + 1 => if f (2 + p) = -1 then gsum f c p else gsum f c p + (if 0 < nbd f (f (2 + p)) (-1) - dst (f 291) (f (2 + p)) c then nbd f (f (2 + p)) (-1) - dst (f 291) (f (2 + p)) c else nI 0)
theorem nbt_some {f : fT} (c : Int32) {e : Nat} (he : e < 16) {k : Nat} (h : 0 < k ∧ (k = 1 → e ≠ 0)) (h31 : k ≤ 16) : ∃ b, nbt f c (nI e) k = some b ∧ b < k := by
  induction k with
  | zero => omega
  | succ k ih =>
    unfold nbt
    by_cases q : 0 < k ∧ (k = 1 → e ≠ 0)
    · obtain ⟨b, hb, hb2⟩ := ih q (by omega)
      rw [hb]
      dsimp only
      split
      · exact ⟨b, rfl, by omega⟩
      · split
        · exact ⟨k, rfl, by omega⟩
        · exact ⟨b, rfl, by omega⟩
    · rcases Nat.eq_zero_or_pos k with q0 | q0
      · subst q0
        have hne : ¬ nI 0 = nI e := by rw [nI_eq (by decide) (by omega)]; have := h.2 rfl; omega
        exact ⟨0, by simp [nbt, hne], by omega⟩
      · have hk1 : k = 1 := Classical.byContradiction fun z => q ⟨q0, fun y => absurd y z⟩
        have he0 : e = 0 := Classical.byContradiction fun z => q ⟨q0, fun _ => z⟩
        subst hk1; subst he0
        exact ⟨1, by simp [nbt, nI_eq], by omega⟩
def chp (f : fT) : Nat → Option Nat
  | 0 => none
  | e + 1 => if f (275 + e) = 1 then chp f e else match chp f e with
    | none => some e
    | some b => if bsum f (nI e) (fA f) < bsum f (nI b) (fA f) then some e else some b
theorem chp_lt {f : fT} {k b : Nat} (h : chp f k = some b) : b < k := by
  induction k generalizing b with
  | zero => cases h
  | succ k ih =>
    unfold chp at h
    split at h
    · have := ih h; omega
    · split at h
      · cases h; exact Nat.lt_succ_self k
      · next b0 hb =>
        have := ih hb
        split at h
        · cases h; exact Nat.lt_succ_self k
        · cases h; omega
theorem svc_s (f : fT) (e p : Nat) : svc f e (p + 1) = svc f e p + (if f (2 + p) ≠ -1 ∧ ner f (f (2 + p)) = some e then 1 else 0) := rfl
theorem svR_s0 (old : fT) {f : fT} {k : Nat} (h : f (2 + k) = -1) : svR old f k = svR old f (k + 1) := by
  unfold svR
  congr 1
  funext e
  rw [svc_s, if_neg (fun q => q.1 h)]
  rfl
theorem svR_s1 (old : fT) {f : fT} {k b : Nat} (h : f (2 + k) ≠ -1) (hb : ner f (f (2 + k)) = some b) (hb2 : b < 16) : svR old f (k + 1) = upd (svR old f k) b (nI (svc f b k + 1)) := by
  funext j
  simp only [svR, stF, upd, svc_s, Nat.sub_zero]
  by_cases hj : j = b
  · subst hj
    rw [if_pos (by omega), if_pos rfl, if_pos ⟨h, hb⟩]
  · have hne : ¬ (f (2 + k) ≠ -1 ∧ ner f (f (2 + k)) = some j) := fun q => hj (by have := q.2; rw [hb] at this; cases this; rfl)
    rw [if_neg hj, if_neg hne]
    rfl
