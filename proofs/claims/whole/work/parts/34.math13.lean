theorem lg_eq0 {x y : Int64} : lg_cmp x y = 0 ↔ x = y := by
  unfold lg_cmp
  split
  · next h => exact ⟨fun q => absurd q (by decide), fun q => absurd h (by rw [q]; exact Int64.lt_irrefl)⟩
  · split
    · next h => exact ⟨fun _ => h, fun _ => rfl⟩
    · next h => exact ⟨fun q => absurd q (by decide), fun q => absurd q h⟩
theorem lg_ge0 {x y : Int64} : 0 ≤ lg_cmp x y ↔ ¬ x < y := by
  unfold lg_cmp
  split
  · next h => exact ⟨fun _ q => Int64.lt_irrefl (Int64.lt_trans h q), fun _ => by decide⟩
  · next h0 =>
    split
    · next h => exact ⟨fun _ => by rw [h]; exact Int64.lt_irrefl, fun _ => by decide⟩
    · next h =>
      refine ⟨fun q => absurd q (by decide), fun q => absurd ?_ h⟩
      exact Int64.le_antisymm (Int64.not_lt.mp h0) (Int64.not_lt.mp q)
theorem lg_gt0 {x y : Int64} : 0 < lg_cmp x y ↔ y < x := by
  unfold lg_cmp
  split
  · next h => exact ⟨fun _ => h, fun _ => by decide⟩
  · next h0 =>
    split
    · exact ⟨fun q => absurd q (by decide), fun q => absurd q h0⟩
    · exact ⟨fun q => absurd q (by decide), fun q => absurd q h0⟩
/-- pixels of an entry -/
abbrev svA (f : fT) (e : Nat) : Nat := svc f e (fA f)
theorem svA_le {f : fT} (hf : wf0 f) (e : Nat) : svA f e ≤ 256 := Nat.le_trans (svc_le f e _) (fA_le hf).2
def cst (f : fT) (i j : Nat) : Int64 := if (nI (svA f i)).toInt64 + (nI (svA f j)).toInt64 = 0 then 0 else (nI (svA f i)).toInt64 * (nI (svA f j)).toInt64 * (dst (f 291) (f (259 + i)) (f (259 + j))).toInt64 / ((nI (svA f i)).toInt64 + (nI (svA f j)).toInt64)
def mgM (p q a b : Int32) : Nat → Int32
  | 0 => nI 0
  | c + 1 => nI 256 * mgM p q a b c + (nI 2 * (p * cha a c + q * cha b c) + p + q) / (nI 2 * (p + q))
def mgC (f : fT) (i j : Nat) : Int32 := if f (275 + i) = 1 ∨ f (275 + j) = 1 then (if f (275 + i) = 1 then f (259 + i) else f (259 + j)) else if 0 < svA f i + svA f j then mgM (nI (svA f i)) (nI (svA f j)) (f (259 + i)) (f (259 + j)) 3 else f (259 + i)
/-- the cheapest pair so far -/
def mgJ (f : fT) (i : Nat) (o : Option (Nat × Nat)) : Nat → Option (Nat × Nat)
  | 0 => o
  | k + 1 => if f (275 + i) = 1 ∧ f (275 + (i + 1 + k)) = 1 then mgJ f i o k else match mgJ f i o k with
    | none => some (i, i + 1 + k)
    | some q => if cst f i (i + 1 + k) < cst f q.1 q.2 then some (i, i + 1 + k) else some q
def mgI (f : fT) : Nat → Option (Nat × Nat)
  | 0 => none
  | i + 1 => mgJ f i (mgI f i) (fN f - (i + 1))
theorem mgJ_s (f : fT) (i : Nat) (o : Option (Nat × Nat)) (k : Nat) : mgJ f i o (k + 1) = if f (275 + i) = 1 ∧ f (275 + (i + 1 + k)) = 1 then mgJ f i o k else match mgJ f i o k with
    | none => some (i, i + 1 + k)
    | some q => if cst f i (i + 1 + k) < cst f q.1 q.2 then some (i, i + 1 + k) else some q := rfl
def mgOk (f : fT) (o : Option (Nat × Nat)) : Prop := ∀ q, o = some q → q.1 < q.2 ∧ q.2 < fN f ∧ ¬ (f (275 + q.1) = 1 ∧ f (275 + q.2) = 1)
theorem mgJ_ok {f : fT} {i : Nat} {o : Option (Nat × Nat)} (ho : mgOk f o) {k : Nat} (hk : i + 1 + k ≤ fN f) : mgOk f (mgJ f i o k) := by
  induction k with
  | zero => exact ho
  | succ k ih =>
    have ih := ih (by omega)
    rw [mgJ_s]
    split
    · exact ih
    · next hl =>
      cases hx : mgJ f i o k with
      | none =>
        intro q hq
        cases hq
        exact ⟨by omega, by omega, hl⟩
      | some q0 =>
        dsimp only
        split
        · intro q hq
          cases hq
          exact ⟨by omega, by omega, hl⟩
        · intro q hq
          cases hq
          exact ih q0 hx
theorem mgI_ok {f : fT} {i : Nat} (hi : i ≤ fN f) : mgOk f (mgI f i) := by
  induction i with
  | zero => intro q hq; cases hq
  | succ i ih => exact mgJ_ok (ih (by omega)) (by omega)
/-- one merging step -/
def mgU (f : fT) (i j : Nat) : fT := upd (upd f (259 + i) (mgC f i j)) (275 + i) (bI (f (275 + i) = 1 ∨ f (275 + j) = 1))
def mgS (f : fT) (i j : Nat) : fT := rmF (mgU f i j) j (fN f - 1 - j)
def mgW (n : Nat) : Nat → fT → fT
  | 0, f => f
  | m + 1, f => if fN f ≤ n then f else match mgI f (fN f) with
    | none => f
    | some q => mgW n m (mgS f q.1 q.2)
def oP1 (o : Option (Nat × Nat)) : Int32 := match o with
  | none => -1
  | some q => nI q.1
def oP2 (o : Option (Nat × Nat)) : Int32 := match o with
  | none => -1
  | some q => nI q.2
theorem mgU_n {f : fT} {i j k : Nat} (hi : i < 16) (h : k < 259 ∨ 291 ≤ k) : mgU f i j k = f k := by
  unfold mgU; rw [upd_ne _ _ (by omega), upd_ne _ _ (by omega)]
theorem rm_n {f : fT} {e k j : Nat} (h : j < 258 ∨ 291 ≤ j) (hk : e + k ≤ 16) : rmF f e k j = f j := by
  unfold rmF; rw [if_neg (by omega), if_neg (by omega), if_neg (by omega)]
theorem mgS_wf {f : fT} (hf : wf0 f) {i j : Nat} (hi : i < j) (hj : j < fN f) : wf0 (mgS f i j) ∧ fW (mgS f i j) = fW f ∧ fH (mgS f i j) = fH f ∧ fN (mgS f i j) = fN f - 1 := by
  have hn := hf.2.2.2
  have h0 : mgS f i j 0 = f 0 := by unfold mgS; rw [rm_n (by omega) (by omega), mgU_n (by omega) (by omega)]
  have h1 : mgS f i j 1 = f 1 := by unfold mgS; rw [rm_n (by omega) (by omega), mgU_n (by omega) (by omega)]
  have hN : fN (mgU f i j) = fN f := by unfold fN; rw [mgU_n (by omega) (by omega)]
  have h2 : mgS f i j 258 = nI (fN f - 1) := by unfold mgS rmF; rw [if_pos rfl, hN]
  have e0 : fW (mgS f i j) = fW f := by unfold fW; rw [h0]
  have e1 : fH (mgS f i j) = fH f := by unfold fH; rw [h1]
  have e2 : fN (mgS f i j) = fN f - 1 := by
    show (mgS f i j 258).toNatClampNeg = _
    rw [h2, nI_clamp (by omega)]
  obtain ⟨⟨a1, a2, a3⟩, ⟨b1, b2, b3⟩, c1, c2⟩ := hf
  refine ⟨⟨⟨by rw [h0, e0]; exact a1, by omega, by omega⟩, ⟨by rw [h1, e1]; exact b1, by omega, by omega⟩, by rw [h2, e2], by omega⟩, e0, e1, e2⟩
