/-! mapping -/
def elN (x y : Nat) : Int32 := am_mat (4 * (y % 4) + x % 4)
def dwn (a b : Int32) : Int32 := if 0 ≤ a - a / b * b then a / b else a / b - nI 1
/-- dithered: the shift, the color -/
def diB (f : fT) (p : Nat) (s : Int32) : Int32 := (nI 2 * elN (p % fW f) (p / fW f) - nI 15) * s / nI 16
def diC (f : fT) (p : Nat) (s : Int32) : Nat → Int32
  | 0 => nI 0
  | c + 1 => nI 256 * diC f p s c + lim (cha (f (2 + p)) c + diB f p s)
abbrev pxl (f : fT) (x y : Int32) : Nat := y.toNatClampNeg * fW f + x.toNatClampNeg
def gvT (f : fT) (x y : Int32) (c : Nat) (v : Int32) (T : fT) : fT := if inP f x y ∧ f (2 + pxl f x y) ≠ -1 then upd T (3 * pxl f x y + c) (T (3 * pxl f x y + c) + v) else T
def ahd (y : Nat) : Int32 := if y % 2 = 0 then nI 1 else -1
def sp2 (f : fT) (x y : Nat) (c : Nat) (e : Int32) (T : fT) : fT := gvT f (nI x + ahd y) (nI y + nI 1) c (e - dwn (nI 7 * e) (nI 16) - dwn (nI 3 * e) (nI 16) - dwn (nI 5 * e) (nI 16)) (gvT f (nI x) (nI y + nI 1) c (dwn (nI 5 * e) (nI 16)) (gvT f (nI x - ahd y) (nI y + nI 1) c (dwn (nI 3 * e) (nI 16)) (gvT f (nI x + ahd y) (nI y) c (dwn (nI 7 * e) (nI 16)) T)))
def sp3 (f : fT) (x y : Nat) (c : Nat) (e : Int32) (T : fT) : fT := gvT f (nI x) (nI y + nI 2) c (dwn e (nI 8)) (gvT f (nI x + nI 1) (nI y + nI 1) c (dwn e (nI 8)) (gvT f (nI x) (nI y + nI 1) c (dwn e (nI 8)) (gvT f (nI x - nI 1) (nI y + nI 1) c (dwn e (nI 8)) (gvT f (nI x + nI 2 * ahd y) (nI y) c (dwn e (nI 8)) (gvT f (nI x + ahd y) (nI y) c (dwn e (nI 8)) T)))))
def spT (f : fT) (x y c : Nat) (e : Int32) (mt : Nat) (T : fT) : fT := if mt = 2 then sp2 f x y c e T else sp3 f x y c e T
def vsC (T : fT) (p : Nat) : Nat → Int32
  | 0 => nI 0
  | c + 1 => nI 256 * vsC T p c + lim (dwn (T (3 * p + c) + nI 8) (nI 16))
def vsT (f : fT) (x y mt : Nat) (col : Int32) (T : fT) : Nat → fT
  | 0 => T
  | c + 1 => spT f x y c (vsT f x y mt col T c (3 * (y * fW f + x) + c) - nI 16 * cha col c) mt (vsT f x y mt col T c)
theorem vsT_s (f : fT) (x y mt : Nat) (col : Int32) (T : fT) (c : Nat) : vsT f x y mt col T (c + 1) = spT f x y c (vsT f x y mt col T c (3 * (y * fW f + x) + c) - nI 16 * cha col c) mt (vsT f x y mt col T c) := rfl
/-- the row of sums and the flat state, one visit -/
def vsS (mt x y : Nat) (s : fT × fT) : fT × fT := match ner s.1 (vsC s.2 (y * fW s.1 + x) 3) with
  | none => s
  | some e => (upd s.1 (293 + (y * fW s.1 + x)) (nI e), vsT s.1 x y mt (s.1 (259 + e)) s.2 3)
def dfI (old f : fT) (k : Nat) : fT := stF old 0 k (fun j => if f (2 + j / 3) = -1 then nI 0 else nI 16 * cha (f (2 + j / 3)) (j % 3))
def dfX (f : fT) (k : Nat) : Nat := if k / fW f % 2 = 0 then k % fW f else fW f - 1 - k % fW f
def dfS (mt : Nat) (f T : fT) : Nat → fT × fT
  | 0 => (f, T)
  | k + 1 => if f (2 + (k / fW f * fW f + dfX f k)) = -1 then dfS mt f T k else vsS mt (dfX f k) (k / fW f) (dfS mt f T k)
/-- two flat states that differ in indices alone -/
def sm293 (f g : fT) : Prop := ∀ j, j < 293 → f j = g j
theorem sm293.wf {f g : fT} (h : sm293 g f) (hf : wf0 f) : wf0 g ∧ fW g = fW f ∧ fH g = fH f ∧ fN g = fN f := wf0_of hf (h 0 (by decide)) (h 1 (by decide)) (h 258 (by decide))
theorem nbt_s (f : fT) (c but : Int32) (k : Nat) : nbt f c but (k + 1) = match nbt f c but k with
    | none => if nI k = but then none else some k
    | some b => if nI k = but then some b else if dst (f 291) c (f (259 + k)) < dst (f 291) c (f (259 + b)) then some k else some b := rfl
theorem sm293_nbt {f g : fT} (h : sm293 g f) (c but : Int32) (k : Nat) (hk : k ≤ 16) : nbt g c but k = nbt f c but k := by
  induction k with
  | zero => rfl
  | succ k ih =>
    have ih := ih (by omega)
    rw [nbt_s, nbt_s]
    rw [ih]
    cases hx : nbt f c but k with
    | none => rfl
    | some b =>
      have := nbt_lt hx
      dsimp only
      rw [h 291 (by decide), h (259 + k) (by omega), h (259 + b) (by omega)]
theorem gvT_at {f : fT} (hf : wf0 f) {x y : Int32} {c : Nat} (h : inP f x y) (hc : c < 3) : ∃ a b, a < fW f ∧ b < fH f ∧ x = nI a ∧ y = nI b ∧ pxl f x y = b * fW f + a ∧ 3 * (b * fW f + a) + c < 768 := by
  obtain ⟨a, b, h1, h2, rfl, rfl⟩ := of_inP hf h
  have w := hf.1.2.2
  have hh := hf.2.1.2.2
  refine ⟨a, b, h1, h2, rfl, rfl, ?_, ?_⟩
  · unfold pxl; rw [nI_clamp (by omega), nI_clamp (by omega)]
  · have := pl_lt hf h1 h2
    have := fA_le hf
    omega
def usd (f : fT) : Nat → Nat
  | 0 => 0
  | e + 1 => usd f e + (if 0 < (if f 292 = 1 then ixc f (nI e) (fA f) else 0) then 1 else 0)
theorem usd_s (f : fT) (e : Nat) : usd f (e + 1) = usd f e + (if 0 < (if f 292 = 1 then ixc f (nI e) (fA f) else 0) then 1 else 0) := rfl
/-- the plain part of map -/
def mpF (f : fT) (mt : Nat) (s : Int32) (k : Nat) : fT := stF f 293 k (fun p => if f (2 + p) ≠ -1 ∧ mt < 2 then oI (ner f (diC f p (if mt = 0 then nI 0 else s) 3)) else nI (fN f))
theorem dst_sm {f g : fT} (h : sm293 g f) : g 291 = f 291 := h 291 (by decide)
def gM (M : am_M) (T : fT) : am_M := (am_u M.1 48 T, M.2)
theorem gM_34 (M : am_M) (T : fT) : (gM M T).1 34 = M.1 34 := by simp [gM, am_u]
theorem gM_48 (M : am_M) (T : fT) : (gM M T).1 48 = T := by simp [gM, am_u]
theorem gM_u34 (M : am_M) (f g T : fT) : ((am_u (gM (rw34 M f) T).1 34 g, (gM (rw34 M f) T).2) : am_M) = gM (rw34 M g) T := by
  refine Prod.ext (funext fun q => ?_) rfl
  simp only [gM, rw34, am_u]
  by_cases h4 : q = 34 <;> by_cases h8 : q = 48 <;> simp_all
theorem gM_u48 (M : am_M) (T S : fT) : ((am_u (gM M T).1 48 S, (gM M T).2) : am_M) = gM M S := by unfold gM; simp only [am_u_u]
theorem gvT_sm {f g : fT} (hf : wf0 f) (h : sm293 g f) (x y : Int32) (c : Nat) (v : Int32) (T : fT) : gvT g x y c v T = gvT f x y c v T := by
  obtain ⟨w1, w2, w3, w4⟩ := h.wf hf
  unfold gvT inP pxl
  rw [h 0 (by decide), h 1 (by decide), w2]
  by_cases hi : (0 ≤ x ∧ x ≤ f 0 - 1) ∧ 0 ≤ y ∧ y ≤ f 1 - 1
  · obtain ⟨a, b, a1, b1, rfl, rfl⟩ := of_inP hf hi
    have w := hf.1.2.2
    have hh := hf.2.1.2.2
    rw [nI_clamp (by omega), nI_clamp (by omega)]
    have := pl_lt hf a1 b1
    have := fA_le hf
    rw [h (2 + (b * fW f + a)) (by omega)]
  · rw [if_neg (fun q => hi q.1), if_neg (fun q => hi q.1)]
theorem spT_sm' {f g : fT} (hf : wf0 f) (h : sm293 g f) (x y c : Nat) (e : Int32) (mt : Nat) (T : fT) : spT g x y c e mt T = spT f x y c e mt T := by
  unfold spT sp2 sp3
  simp only [gvT_sm hf h]
