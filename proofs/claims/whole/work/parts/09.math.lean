/-! numbers, loops, the reference's flat state -/
/-- a loop that counts: from the last state back -/
theorem am_down {P : Nat → Prop} (n : Nat) (h : ∀ k, k ≤ n → (k < n → P (k + 1)) → P k) : P 0 := by
  have key : ∀ m k, k + m = n → P k := by
    intro m
    induction m with
    | zero => intro k hk; exact h k (by omega) (fun q => absurd q (by omega))
    | succ m ih => intro k hk; exact h k (by omega) (fun _ => ih (k + 1) (by omega))
  exact key n 0 (by omega)
theorem am_downF {P : Nat → Prop} (a n : Nat) (ha : a ≤ n) (h : ∀ k, a ≤ k → k ≤ n → (k < n → P (k + 1)) → P k) : P a := by
  have key : ∀ m k, a ≤ k → k + m = n → P k := by
    intro m
    induction m with
    | zero => intro k h1 hk; exact h k h1 (by omega) (fun q => absurd q (by omega))
    | succ m ih => intro k h1 hk; exact h k h1 (by omega) (fun _ => ih (k + 1) (by omega) (by omega))
  exact key (n - a) a (Nat.le_refl a) (by omega)
def bI (p : Prop) [Decidable p] : Int32 := if p then 1 else 0
theorem bI_t {p : Prop} [Decidable p] (h : p) : bI p = 1 := if_pos h
theorem bI_f {p : Prop} [Decidable p] (h : ¬ p) : bI p = 0 := if_neg h
theorem bI_01 (p : Prop) [Decidable p] : bI p = 0 ∨ bI p = 1 := by unfold bI; split <;> simp
/-- an entry, or none: -1 -/
def oI (o : Option Nat) : Int32 := match o with
  | some e => nI e
  | none => -1
/-! the flat state: 0 width, 1 height, 2.. pixels, 258 entries, 259.. colors, 275.. locked, 291 metric, 292 has indices, 293.. indices -/
abbrev fT : Type := Nat → Int32
def fW (f : fT) : Nat := (f 0).toNatClampNeg
def fH (f : fT) : Nat := (f 1).toNatClampNeg
def fN (f : fT) : Nat := (f 258).toNatClampNeg
def fA (f : fT) : Nat := fW f * fH f
/-- a color -/
def okc (x : Int32) : Prop := ∃ n : Nat, n < 16777216 ∧ x = nI n
def wf0 (f : fT) : Prop := (f 0 = nI (fW f) ∧ 1 ≤ fW f ∧ fW f ≤ 16) ∧ (f 1 = nI (fH f) ∧ 1 ≤ fH f ∧ fH f ≤ 16) ∧ (f 258 = nI (fN f) ∧ fN f ≤ 16)
def wf (f : fT) : Prop := wf0 f ∧ (∀ p, p < fA f → f (2 + p) = -1 ∨ okc (f (2 + p))) ∧ (∀ e, e < fN f → okc (f (259 + e)) ∧ (f (275 + e) = 0 ∨ f (275 + e) = 1)) ∧ (f 291 = 0 ∨ f 291 = 1) ∧ (f 292 = 0 ∨ f 292 = 1) ∧ (f 292 = 1 → ∀ p, p < fA f → (f (2 + p) = -1 → f (293 + p) = nI (fN f)) ∧ (f (2 + p) ≠ -1 → ∃ e, e < fN f ∧ f (293 + p) = nI e))
theorem fA_le {f : fT} (h : wf0 f) : 1 ≤ fA f ∧ fA f ≤ 256 := by
  obtain ⟨⟨-, a, b⟩, ⟨-, c, d⟩, -⟩ := h
  unfold fA
  constructor
  · exact Nat.mul_pos a c
  · calc fW f * fH f ≤ 16 * 16 := Nat.mul_le_mul b d
      _ = 256 := rfl
/-- a channel, the distance of two colors -/
def cha (c : Int32) (k : Nat) : Int32 := (c >>> ((nI 16 - nI 8 * nI k) &&& 31)) &&& nI 255
def dst (m a b : Int32) : Int32 := if m = 0 then (cha a 0 - cha b 0) * (cha a 0 - cha b 0) + (cha a 1 - cha b 1) * (cha a 1 - cha b 1) + (cha a 2 - cha b 2) * (cha a 2 - cha b 2)
  else nI 2 * (cha a 0 - cha b 0) * (cha a 0 - cha b 0) + nI 4 * (cha a 1 - cha b 1) * (cha a 1 - cha b 1) + nI 3 * (cha a 2 - cha b 2) * (cha a 2 - cha b 2)
/-- opaque pixels among the first k -/
def opq (f : fT) : Nat → Nat
  | 0 => 0
  | k + 1 => opq f k + (if f (2 + k) = -1 then 0 else 1)
theorem opq_le (f : fT) (k : Nat) : opq f k ≤ k := by
  induction k with
  | zero => exact Nat.le_refl 0
  | succ k ih => unfold opq; split <;> omega
/-- the nearest entry but one, among the first k -/
def nbt (f : fT) (c : Int32) (but : Int32) : Nat → Option Nat
  | 0 => none
  | k + 1 => match nbt f c but k with
    | none => if nI k = but then none else some k
    | some b => if nI k = but then some b else if dst (f 291) c (f (259 + k)) < dst (f 291) c (f (259 + b)) then some k else some b
theorem nbt_lt {f : fT} {c but : Int32} {k b : Nat} (h : nbt f c but k = some b) : b < k := by
  induction k generalizing b with
  | zero => cases h
  | succ k ih =>
    unfold nbt at h
    split at h
    · split at h
      · cases h
      · cases h; exact Nat.lt_succ_self k
    · next b0 hb =>
      have := ih hb
      split at h
      · cases h; omega
      · split at h
        · cases h; exact Nat.lt_succ_self k
        · cases h; omega
theorem bI_eq0 {p : Prop} [Decidable p] : bI p = 0 ↔ ¬ p := by unfold bI; split <;> simp_all
theorem bI_ne0 {p : Prop} [Decidable p] : ¬ bI p = 0 ↔ p := by unfold bI; split <;> simp_all
theorem nI_inc (k : Nat) : nI k + Int32.ofInt 1 = nI (k + 1) := nI_1 k
def lim (x : Int32) : Int32 := if x < 0 then 0 else if nI 255 < x then nI 255 else x
abbrev inP (f : fT) (x y : Int32) : Prop := (0 ≤ x ∧ x ≤ f 0 - 1) ∧ 0 ≤ y ∧ y ≤ f 1 - 1
abbrev inE (f : fT) (x : Int32) : Prop := 0 ≤ x ∧ x ≤ f 258 - 1
theorem lim_lo {x : Int32} (h : ¬ 0 ≤ x) : lim x = 0 := if_pos (Int32.not_le.mp h)
theorem lim_mid {x : Int32} (h : 0 ≤ x) (h2 : x ≤ nI 255) : lim x = x := by
  unfold lim
  rw [if_neg (Int32.not_lt.mpr h), if_neg (Int32.not_lt.mpr h2)]
theorem lim_hi {x : Int32} (h : 0 ≤ x) (h2 : ¬ x ≤ nI 255) : lim x = nI 255 := by
  unfold lim
  rw [if_neg (Int32.not_lt.mpr h), if_pos (Int32.not_le.mp h2)]
theorem nI_ne1 {k : Nat} (h : k < 2 ^ 31) : ¬ nI k = -1 := by
  intro q
  have a := nI_toInt h
  rw [q] at a
  have b : (-1 : Int32).toInt = -1 := by decide
  omega
