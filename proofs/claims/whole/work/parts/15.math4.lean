theorem nI_div {a b : Nat} (ha : a < 2 ^ 31) (hb : b < 2 ^ 31) : nI a / nI b = nI (a / b) := by
  apply Int32.toInt_inj.mp
  have hq : a / b < 2 ^ 31 := Nat.lt_of_le_of_lt (Nat.div_le_self a b) ha
  rw [Int32.toInt_div, nI_toInt ha, nI_toInt hb, nI_toInt hq]
  have e : (Int.tdiv (a : Int) (b : Int)) = ((a / b : Nat) : Int) := by
    rw [Int.ofNat_tdiv]
  rw [e]
  generalize a / b = q at hq ⊢
  exact Int.bmod_eq_of_le (by omega) (by omega)
theorem nI_mod {a b : Nat} (ha : a < 2 ^ 31) (hb : b < 2 ^ 31) : nI a - nI a / nI b * nI b = nI (a % b) := by
  rw [nI_div ha hb, nI_mul, nI_sub (Nat.div_mul_le_self a b)]
  congr 1
  have := Nat.div_add_mod a b
  rw [Nat.mul_comm] at this
  omega
/-- paint -/
def ptF (f : fT) (x y w : Nat) (c : Int32) : Nat → fT
  | 0 => f
  | k + 1 => upd (ptF f x y w c k) (2 + ((y + k / w) * fW f + x + k % w)) c
theorem pt_0 (f : fT) (x y w : Nat) (c : Int32) (k j : Nat) (h : j < 2) : ptF f x y w c k j = f j := by
  induction k with
  | zero => rfl
  | succ k ih => unfold ptF; rw [upd_ne _ _ (by omega), ih]
theorem pt_in {f : fT} {x y w h k : Nat} (hf : wf0 f) (hx : x + w ≤ fW f) (hy : y + h ≤ fH f) (hk : k < w * h) : (y + k / w) * fW f + x + k % w < fA f := by
  have hw : 0 < w := by
    rcases Nat.eq_zero_or_pos w with q | q
    · subst q; simp at hk
    · exact q
  have h1 : k / w < h := Nat.div_lt_of_lt_mul hk
  have h2 : k % w < w := Nat.mod_lt _ hw
  have h3 := pl_lt (x := x + k % w) (y := y + k / w) hf (by omega) (by omega)
  omega
abbrev ptOK (f : fT) (x y w h c : Int32) : Prop := inP f x y ∧ (nI 1 ≤ w ∧ w ≤ f 0 - x) ∧ (nI 1 ≤ h ∧ h ≤ f 1 - y) ∧ (c = -1 ∨ (0 ≤ c ∧ c ≤ 16777215))
/-- gradient -/
def stp (a b i n : Int32) : Int32 := if n = nI 1 then a else a + (b - a) * i / (n - nI 1)
def grC (fr to i n : Int32) : Nat → Int32
  | 0 => nI 0
  | k + 1 => nI 256 * grC fr to i n k + stp (cha fr k) (cha to k) i n
/-- noise -/
def nzN (x : Int64) : Int64 := (1103515245 * x + 12345) - (1103515245 * x + 12345) / 2147483648 * 2147483648
def nzS (am : Int32) : Int64 := 2 * am.toInt64 + 1
def nzB (x : Int64) (am : Int32) : Int32 := (x / 65536 - x / 65536 / nzS am * nzS am).toInt32 - am
def nzK (c : Int32) (am : Int32) (x : Int64) : Nat → Int64 × Int32
  | 0 => (x, nI 0)
  | k + 1 => (nzN (nzK c am x k).1, nI 256 * (nzK c am x k).2 + lim (cha c k + nzB (nzN (nzK c am x k).1) am))
def nzA (f : fT) (am : Int32) (x : Int64) : Nat → Int64 × fT
  | 0 => (x, f)
  | p + 1 => if f (2 + p) = -1 then ((nzA f am x p).1, upd (nzA f am x p).2 (2 + p) (-1)) else ((nzK (f (2 + p)) am (nzA f am x p).1 3).1, upd (nzA f am x p).2 (2 + p) (nzK (f (2 + p)) am (nzA f am x p).1 3).2)
theorem nzA_out (f : fT) (am : Int32) (x : Int64) (p j : Nat) (h : j < 2 ∨ 2 + p ≤ j) : (nzA f am x p).2 j = f j := by
  induction p with
  | zero => rfl
  | succ p ih =>
    unfold nzA
    split
    · show upd _ _ _ j = _
      rw [upd_ne _ _ (by omega), ih (by omega)]
    · show upd _ _ _ j = _
      rw [upd_ne _ _ (by omega), ih (by omega)]
theorem nzS_ne {a : Nat} (h : a < 65) : ¬ nzS (nI a) = 0 := by
  have key : ∀ a, a < 65 → ¬ nzS (nI a) = 0 := by decide +kernel
  exact key a h
def grI (f : fT) (vt : Int32) (p : Nat) : Int32 := if vt = 0 then nI (p % fW f) else nI (p / fW f)
def grF (f : fT) (fr to vt : Int32) : Nat → fT
  | 0 => f
  | p + 1 => upd (grF f fr to vt p) (2 + p) (grC fr to (grI f vt p) (nI (if vt = 0 then fW f else fH f)) 3)
theorem gr_out (f : fT) (fr to vt : Int32) (k j : Nat) (h : j < 2 ∨ 2 + k ≤ j) : grF f fr to vt k j = f j := by
  induction k with
  | zero => rfl
  | succ k ih => unfold grF; rw [upd_ne _ _ (by omega), ih (by omega)]
theorem gr_far (f : fT) (fr to vt : Int32) (k j : Nat) (hk : k ≤ 256) (h : 258 ≤ j) : grF f fr to vt k j = f j := gr_out f fr to vt k j (Or.inr (by omega))
theorem wf0_of {f g : fT} (hf : wf0 f) (h0 : g 0 = f 0) (h1 : g 1 = f 1) (h2 : g 258 = f 258) : wf0 g ∧ fW g = fW f ∧ fH g = fH f ∧ fN g = fN f := by
  have e0 : fW g = fW f := by unfold fW; rw [h0]
  have e1 : fH g = fH f := by unfold fH; rw [h1]
  have e2 : fN g = fN f := by unfold fN; rw [h2]
  refine ⟨?_, e0, e1, e2⟩
  unfold wf0
  rw [h0, h1, h2, e0, e1, e2]
  exact hf
