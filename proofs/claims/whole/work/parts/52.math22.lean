/-! build: the locked entries stay; the means come behind them -/
theorem clN {x : Int32} {n : Nat} (h : x = nI n) (hn : n < 2 ^ 31) : x.toNatClampNeg = n := by
  subst h
  have := nI_toInt hn
  unfold Int32.toNatClampNeg
  omega
theorem fN_of {g : fT} {n : Nat} (h : g 258 = nI n) (hn : n < 2 ^ 31) : fN g = n := clN h hn
def lkL (f : fT) : Nat → List Int32
  | 0 => []
  | k + 1 => if f (275 + k) = 1 then lkL f k ++ [f (259 + k)] else lkL f k
theorem lkL_t {f : fT} {k : Nat} (h : f (275 + k) = 1) : lkL f (k + 1) = lkL f k ++ [f (259 + k)] := if_pos h
theorem lkL_f {f : fT} {k : Nat} (h : ¬ f (275 + k) = 1) : lkL f (k + 1) = lkL f k := if_neg h
theorem lkL_len (f : fT) (k : Nat) : (lkL f k).length = lcd f k := by
  induction k with
  | zero => rfl
  | succ k ih =>
    rw [lcd_s]
    by_cases h : f (275 + k) = 1
    · rw [lkL_t h, if_pos h, List.length_append, ih]; rfl
    · rw [lkL_f h, if_neg h, ih]; rfl
def KE (f : fT) (N e : Nat) (g : fT) (T : List Int32) : Prop := (∀ j, (j < 258 ∨ 291 ≤ j) → g j = f j) ∧ (g 258 = nI (e + T.length) ∧ e + T.length ≤ 16) ∧ (∀ j, j < e → g (259 + j) = f (259 + j) ∧ g (275 + j) = f (275 + j)) ∧ (∀ j (hj : j < T.length), g (259 + (e + j)) = T[j] ∧ g (275 + (e + j)) = 1) ∧ lkL f N = lkL f e ++ T
theorem KE_i {f : fT} (hf : wf0 f) : KE f (fN f) (fN f) f [] := ⟨fun _ _ => rfl, ⟨hf.2.2.1, hf.2.2.2⟩, fun _ _ => ⟨rfl, rfl⟩, fun j hj => absurd hj (Nat.not_lt_zero j), (List.append_nil _).symm⟩
theorem KE_t {f g : fT} {N e : Nat} {T : List Int32} (h : KE f N (e + 1) g T) (hl : f (275 + e) = 1) : KE f N e g (f (259 + e) :: T) := by
  obtain ⟨h1, ⟨h2, h3⟩, h4, h5, h6⟩ := h
  refine ⟨h1, ⟨?_, ?_⟩, fun j hj => h4 j (by omega), fun j hj => ?_, ?_⟩
  · rw [h2]; congr 1; rw [List.length_cons]; omega
  · rw [List.length_cons]; omega
  · cases j with
    | zero => exact ⟨(h4 e (by omega)).1, (h4 e (by omega)).2.trans hl⟩
    | succ j =>
      have := h5 j (by simpa using hj)
      rw [show e + (j + 1) = e + 1 + j by omega]
      exact this
  · rw [h6, lkL_t hl, List.append_assoc]; rfl
theorem KE_f {f g : fT} {N e : Nat} {T : List Int32} (h : KE f N (e + 1) g T) (hl : ¬ f (275 + e) = 1) : KE f N e (rmF g e T.length) T := by
  obtain ⟨h1, ⟨h2, h3⟩, h4, h5, h6⟩ := h
  have hN := fN_of h2 (by omega)
  refine ⟨fun j hj => ?_, ⟨?_, by omega⟩, fun j hj => ?_, fun j hj => ?_, ?_⟩
  · unfold rmF; rw [if_neg (by omega), if_neg (by omega), if_neg (by omega)]; exact h1 j hj
  · unfold rmF; rw [if_pos rfl, hN]; congr 1; omega
  · unfold rmF
    rw [if_neg (by omega), if_neg (by omega), if_neg (by omega), if_neg (by omega), if_neg (by omega), if_neg (by omega)]
    exact h4 j (by omega)
  · have := h5 j hj
    unfold rmF
    rw [if_neg (by omega), if_pos (by omega), if_neg (by omega), if_neg (by omega), if_pos (by omega)]
    rw [show 259 + (e + j) + 1 = 259 + (e + 1 + j) by omega, show 275 + (e + j) + 1 = 275 + (e + 1 + j) by omega]
    exact this
  · rw [h6, lkL_f hl]
/-- the different colors of the first p pixels, but those that are left out -/
def colL (f : fT) (ex : Int32 → Bool) : Nat → List Int32
  | 0 => []
  | p + 1 => if f (2 + p) ≠ -1 ∧ ex (f (2 + p)) = false ∧ f (2 + p) ∉ colL f ex p then f (2 + p) :: colL f ex p else colL f ex p
theorem colL_t {f : fT} {ex : Int32 → Bool} {p : Nat} (h : f (2 + p) ≠ -1 ∧ ex (f (2 + p)) = false ∧ f (2 + p) ∉ colL f ex p) : colL f ex (p + 1) = f (2 + p) :: colL f ex p := if_pos h
theorem colL_f {f : fT} {ex : Int32 → Bool} {p : Nat} (h : ¬ (f (2 + p) ≠ -1 ∧ ex (f (2 + p)) = false ∧ f (2 + p) ∉ colL f ex p)) : colL f ex (p + 1) = colL f ex p := if_neg h
theorem colL_mem {f : fT} {ex : Int32 → Bool} {p : Nat} {c : Int32} : c ∈ colL f ex p ↔ c ≠ -1 ∧ ex c = false ∧ ∃ q, q < p ∧ f (2 + q) = c := by
  induction p with
  | zero =>
    constructor
    · intro q; exact absurd q List.not_mem_nil
    · intro ⟨_, _, q, hq, _⟩; omega
  | succ p ih =>
    by_cases h : f (2 + p) ≠ -1 ∧ ex (f (2 + p)) = false ∧ f (2 + p) ∉ colL f ex p
    · rw [colL_t h, List.mem_cons, ih]
      constructor
      · intro z
        rcases z with z | ⟨a, b, q, q1, q2⟩
        · exact ⟨by rw [z]; exact h.1, by rw [z]; exact h.2.1, p, by omega, z.symm⟩
        · exact ⟨a, b, q, by omega, q2⟩
      · intro ⟨a, b, q, q1, q2⟩
        by_cases hq : q = p
        · subst hq; exact Or.inl q2.symm
        · exact Or.inr ⟨a, b, q, by omega, q2⟩
    · rw [colL_f h, ih]
      constructor
      · intro ⟨a, b, q, q1, q2⟩; exact ⟨a, b, q, by omega, q2⟩
      · intro ⟨a, b, q, q1, q2⟩
        by_cases hq : q = p
        · subst hq
          by_cases hm : f (2 + q) ∈ colL f ex q
          · obtain ⟨_, _, z⟩ := ih.mp (by rw [← q2]; exact hm)
            exact ⟨a, b, z⟩
          · exact absurd ⟨by rw [q2]; exact a, by rw [q2]; exact b, hm⟩ h
        · exact ⟨a, b, q, by omega, q2⟩
theorem colL_nodup (f : fT) (ex : Int32 → Bool) (p : Nat) : (colL f ex p).Nodup := by
  induction p with
  | zero => exact List.Pairwise.nil
  | succ p ih =>
    by_cases h : f (2 + p) ≠ -1 ∧ ex (f (2 + p)) = false ∧ f (2 + p) ∉ colL f ex p
    · rw [colL_t h]; exact List.nodup_cons.mpr ⟨h.2.2, ih⟩
    · rw [colL_f h]; exact ih
theorem colL_len (f : fT) (ex : Int32 → Bool) (p : Nat) : (colL f ex p).length ≤ p := by
  induction p with
  | zero => exact Nat.le_refl 0
  | succ p ih =>
    by_cases h : f (2 + p) ≠ -1 ∧ ex (f (2 + p)) = false ∧ f (2 + p) ∉ colL f ex p
    · rw [colL_t h, List.length_cons]; omega
    · rw [colL_f h]; omega
theorem GA_perm {f : fT} {ex : Int32 → Bool} {p n : Nat} {h m bx : fT} (g : GA f ex p n h m) (hb : ∀ i, i < n → bx i = nI 0) : List.Perm (bL h bx 0 n) (colL f ex p) := by
  obtain ⟨-, g2, g3, g4⟩ := g
  refine (List.perm_ext_iff_of_nodup (bL_nodup g3) (colL_nodup f ex p)).mpr (fun c => ?_)
  rw [bL_mem, colL_mem]
  constructor
  · intro ⟨i, i1, _, i3⟩
    obtain ⟨⟨q, q1, q2⟩, a3, a4, -⟩ := g2 i i1
    rw [i3] at a3 a4 q2
    exact ⟨a3, a4, q, q1, q2⟩
  · intro ⟨a, b, q, q1, q2⟩
    obtain ⟨i, i1, i2⟩ := g4 q q1 (by rw [q2]; exact a) (by rw [q2]; exact b)
    exact ⟨i, i1, hb i i1, i2.trans q2⟩
theorem bL_all {h bx : fT} {n : Nat} (hb : ∀ i, i < n → bx i = nI 0) : (bL h bx 0 n).length = n := by
  induction n with
  | zero => rfl
  | succ n ih => rw [bL_t (hb n (by omega)), List.length_cons, ih (fun i hi => hb i (by omega))]
theorem bL_nil {h bx : fT} {q n : Nat} (hb : ∀ i, i < n → bx i = nI 0) (hq : 0 < q) (hq2 : q < 2 ^ 31) : bL h bx q n = [] := by
  induction n with
  | zero => rfl
  | succ n ih => rw [bL_f (by rw [hb n (by omega), nI_eq (by omega) hq2]; omega), ih (fun i hi => hb i (by omega))]
theorem cnC_pos {f : fT} {c : Int32} {p q : Nat} (hq : q < p) (h : f (2 + q) = c) : 1 ≤ cnC f c p := by
  induction p with
  | zero => omega
  | succ p ih =>
    rw [cnC_s]
    by_cases hqp : q = p
    · subst hqp; rw [if_pos h]; omega
    · have := ih (by omega); omega
abbrev cnA (g : fT) : Int32 → Nat := fun c => cnC g c (fA g)
/-- the boxes of a state, all splits made -/
def bldR (g : fT) (r most : Nat) : Nat × (Nat → List Int32) := lRn (cnA g) r most 16 (if 0 < (colL g (exF g (nI 1)) (fA g)).length ∧ 0 < most then 1 else 0) (fun _ => colL g (exF g (nI 1)) (fA g))
/-- entries added -/
def adA (g c : fT) : Nat → fT
  | 0 => g
  | k + 1 => adF (adA g c k) (c k) (nI 0)
theorem adA_s (g c : fT) (k : Nat) : adA g c (k + 1) = adF (adA g c k) (c k) (nI 0) := rfl
theorem adF_n {f : fT} (c l : Int32) : adF f c l 258 = nI (fN f + 1) := upd_self _ _ _
theorem adA_n {g c : fT} (hg : wf0 g) {k : Nat} (hk : fN g + k ≤ 16) : wf0 (adA g c k) ∧ fN (adA g c k) = fN g + k := by
  induction k with
  | zero => exact ⟨hg, rfl⟩
  | succ k ih =>
    obtain ⟨i1, i2⟩ := ih (by omega)
    have e : adA g c (k + 1) 258 = nI (fN g + (k + 1)) := by rw [adA_s, adF_n, i2]; rfl
    have hN := fN_of e (by omega)
    have e0 : adA g c (k + 1) 0 = adA g c k 0 := by rw [adA_s]; unfold adF; rw [upd_ne _ _ (by omega), upd_ne _ _ (by omega), upd_ne _ _ (by omega)]
    have e1 : adA g c (k + 1) 1 = adA g c k 1 := by rw [adA_s]; unfold adF; rw [upd_ne _ _ (by omega), upd_ne _ _ (by omega), upd_ne _ _ (by omega)]
    refine ⟨⟨?_, ?_, ?_⟩, hN⟩
    · unfold fW; rw [e0]; exact i1.1
    · unfold fH; rw [e1]; exact i1.2.1
    · rw [hN]; exact ⟨e, hk⟩
theorem lRn_le {cn : Int32 → Nat} {r most : Nat} (k nb : Nat) (B : Nat → List Int32) (h : nb ≤ most) : (lRn cn r most k nb B).1 ≤ most := by
  induction k generalizing nb B with
  | zero => exact h
  | succ k ih =>
    rw [lRn_s]
    split
    · split
      · exact h
      · exact ih _ _ (by omega)
    · exact h
theorem lRn_BI {cn : Int32 → Nat} {r most : Nat} (k nb : Nat) {B : Nat → List Int32} (hB : BI cn nb B) : BI cn (lRn cn r most k nb B).1 (lRn cn r most k nb B).2 := by
  induction k generalizing nb B with
  | zero => exact hB
  | succ k ih =>
    rw [lRn_s]
    split
    · split
      · exact hB
      · next b hx => obtain ⟨b1, b2⟩ := lGr_lt hx; exact ih _ (BI_st hB b1 b2)
    · exact hB
