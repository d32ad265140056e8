/-! boxes: lists of colors, up to their order -/
theorem and255 (x : Int32) : ∃ n, n < 256 ∧ x &&& nI 255 = nI n := by
  refine ⟨(x.toBitVec &&& 255#32).toNat, ?_, ?_⟩
  · rw [BitVec.toNat_and]
    exact Nat.lt_succ_of_le Nat.and_le_right
  · apply Int32.toBitVec_inj.mp
    show (x &&& Int32.ofNat 255).toBitVec = (Int32.ofNat _).toBitVec
    rw [Int32.toBitVec_and, Int32.toBitVec_ofNat', Int32.toBitVec_ofNat', BitVec.ofNat_toNat]
    simp
def chN (c : Int32) (k : Nat) : Nat := (cha c k).toNatClampNeg
theorem chN_lt (c : Int32) (k : Nat) : chN c k < 256 ∧ cha c k = nI (chN c k) := by
  obtain ⟨n, h1, h2⟩ := and255 (c >>> ((nI 16 - nI 8 * nI k) &&& 31))
  have e : cha c k = nI n := h2
  unfold chN
  rw [e]
  have : (nI n).toNatClampNeg = n := by
    have := nI_toInt (show n < 2 ^ 31 by omega)
    unfold Int32.toNatClampNeg
    omega
  rw [this]
  exact ⟨h1, rfl⟩
/-- a sum over a list -/
def lS (g : Int32 → Nat) : List Int32 → Nat
  | [] => 0
  | c :: L => lS g L + g c
theorem lS_perm {g : Int32 → Nat} {L K : List Int32} (h : List.Perm (L) (K)) : lS g L = lS g K := by
  induction h with
  | nil => rfl
  | cons x _ ih => show _ + _ = _ + _; rw [ih]
  | swap x y l => show _ + _ + _ = _ + _ + _; omega
  | trans _ _ i1 i2 => exact i1.trans i2
theorem lS_le {g : Int32 → Nat} {L : List Int32} {b : Nat} (h : ∀ c, c ∈ L → g c ≤ b) : lS g L ≤ L.length * b := by
  induction L with
  | nil => exact Nat.zero_le _
  | cons c L ih =>
    show _ + _ ≤ (L.length + 1) * b
    have a1 := ih (fun x hx => h x (List.mem_cons_of_mem _ hx))
    have a2 := h c (List.mem_cons_self ..)
    rw [Nat.succ_mul]
    omega
def lMx (k : Nat) : List Int32 → Nat
  | [] => 0
  | c :: L => if lMx k L < chN c k then chN c k else lMx k L
def lMn (k : Nat) : List Int32 → Nat
  | [] => 255
  | c :: L => if chN c k < lMn k L then chN c k else lMn k L
theorem lMx_lt (k : Nat) (L : List Int32) : lMx k L < 256 := by
  induction L with
  | nil => exact Nat.le_of_ble_eq_true rfl
  | cons c L ih => have := (chN_lt c k).1; show (if _ then _ else _) < _; split <;> omega
theorem lMn_lt (k : Nat) (L : List Int32) : lMn k L < 256 := by
  induction L with
  | nil => exact Nat.le_of_ble_eq_true rfl
  | cons c L ih => have := (chN_lt c k).1; show (if _ then _ else _) < _; split <;> omega
theorem lMx_perm {k : Nat} {L K : List Int32} (h : List.Perm (L) (K)) : lMx k L = lMx k K := by
  induction h with
  | nil => rfl
  | cons x _ ih => simp only [lMx]; rw [ih]
  | swap x y l => simp only [lMx]; (repeat' split) <;> omega
  | trans _ _ i1 i2 => exact i1.trans i2
theorem lMn_perm {k : Nat} {L K : List Int32} (h : List.Perm (L) (K)) : lMn k L = lMn k K := by
  induction h with
  | nil => rfl
  | cons x _ ih => simp only [lMn]; rw [ih]
  | swap x y l => simp only [lMn]; (repeat' split) <;> omega
  | trans _ _ i1 i2 => exact i1.trans i2
def lRg (L : List Int32) (k : Nat) : Int32 := nI (lMx k L) - nI (lMn k L)
theorem lRg_perm {L K : List Int32} (h : List.Perm (L) (K)) : lRg L = lRg K := by
  funext k; unfold lRg; rw [lMx_perm h, lMn_perm h]
def lW1 (L : List Int32) : Nat := if lRg L 0 < lRg L 1 then 1 else 0
def lWd (L : List Int32) : Nat := if lRg L (lW1 L) < lRg L 2 then 2 else lW1 L
theorem lW1_lt (L : List Int32) : lW1 L < 2 := by unfold lW1; split <;> omega
theorem lWd_lt (L : List Int32) : lWd L < 3 := by have := lW1_lt L; unfold lWd; split <;> omega
theorem lWd_perm {L K : List Int32} (h : List.Perm (L) (K)) : lWd L = lWd K := by unfold lWd lW1; rw [lRg_perm h]
def nL (n : Nat) : Int64 := Int64.ofNat n
theorem nL_add (a b : Nat) : nL a + nL b = nL (a + b) := (Int64.ofNat_add a b).symm
theorem nL_mul (a b : Nat) : nL a * nL b = nL (a * b) := (Int64.ofNat_mul a b).symm
theorem nL_toInt {a : Nat} (h : a < 2 ^ 63) : (nL a).toInt = (a : Int) := Int64.toInt_ofNat_of_lt h
theorem nI_i2l {a : Nat} (h : a < 2 ^ 31) : (nI a).toInt64 = nL a := by
  apply Int64.toInt_inj.mp
  rw [Int32.toInt_toInt64, nI_toInt h, nL_toInt (by omega)]
def gS (cn : Int32 → Nat) (k : Nat) (c : Int32) : Nat := cn c * chN c k
def gQ (cn : Int32 → Nat) (k : Nat) (c : Int32) : Nat := cn c * chN c k * chN c k
def lSp (cn : Int32 → Nat) (L : List Int32) (k : Nat) : Int64 := nL (lS cn L) * nL (lS (gQ cn k) L) - nL (lS (gS cn k) L) * nL (lS (gS cn k) L)
def lSpA (cn : Int32 → Nat) (L : List Int32) : Nat → Int64
  | 0 => 0
  | k + 1 => lSpA cn L k + lSp cn L k
theorem lSpA_s (cn : Int32 → Nat) (L : List Int32) (k : Nat) : lSpA cn L (k + 1) = lSpA cn L k + lSp cn L k := rfl
theorem lSp_perm {cn : Int32 → Nat} {L K : List Int32} (h : List.Perm (L) (K)) (k : Nat) : lSp cn L k = lSp cn K k := by
  unfold lSp; rw [lS_perm h, lS_perm h, lS_perm h]
theorem lSpA_perm {cn : Int32 → Nat} {L K : List Int32} (h : List.Perm (L) (K)) (k : Nat) : lSpA cn L k = lSpA cn K k := by
  induction k with
  | zero => rfl
  | succ k ih => rw [lSpA_s, lSpA_s, ih, lSp_perm h]
def lMs (cn : Int32 → Nat) (r : Nat) (L : List Int32) : Int64 := if r = 0 then nL (lS cn L) else if r = 1 then (lRg L (lWd L)).toInt64 else lSpA cn L 3
theorem lMs_perm {cn : Int32 → Nat} {L K : List Int32} (h : List.Perm (L) (K)) (r : Nat) : lMs cn r L = lMs cn r K := by
  unfold lMs; rw [lS_perm h, lRg_perm h, lWd_perm h, lSpA_perm h]
/-- the box to split, among the first -/
def lGr (cn : Int32 → Nat) (r : Nat) (B : Nat → List Int32) : Nat → Option Nat
  | 0 => none
  | b + 1 => if 1 < (B b).length then (match lGr cn r B b with
      | none => some b
      | some q => if lMs cn r (B q) < lMs cn r (B b) then some b else some q) else lGr cn r B b
theorem lGr_s (cn : Int32 → Nat) (r : Nat) (B : Nat → List Int32) (b : Nat) : lGr cn r B (b + 1) = if 1 < (B b).length then (match lGr cn r B b with
      | none => some b
      | some q => if lMs cn r (B q) < lMs cn r (B b) then some b else some q) else lGr cn r B b := rfl
theorem lGr_lt {cn : Int32 → Nat} {r : Nat} {B : Nat → List Int32} {n b : Nat} (h : lGr cn r B n = some b) : b < n ∧ 1 < (B b).length := by
  induction n generalizing b with
  | zero => cases h
  | succ n ih =>
    rw [lGr_s] at h
    split at h
    · next hl =>
      split at h
      · cases h; exact ⟨by omega, hl⟩
      · next q hq =>
        split at h
        · cases h; exact ⟨by omega, hl⟩
        · cases h; have := ih hq; exact ⟨by omega, this.2⟩
    · have := ih h; exact ⟨by omega, this.2⟩
theorem lGr_perm {cn : Int32 → Nat} {r : Nat} {B C : Nat → List Int32} {n : Nat} (h : ∀ b, b < n → List.Perm (B b) (C b)) : lGr cn r B n = lGr cn r C n := by
  induction n with
  | zero => rfl
  | succ n ih =>
    have i := ih (fun b hb => h b (by omega))
    have hn := h n (by omega)
    rw [lGr_s, lGr_s, i, hn.length_eq]
    split
    · cases hx : lGr cn r C n with
      | none => rfl
      | some q =>
        have hq := (lGr_lt hx).1
        dsimp only
        rw [lMs_perm hn, lMs_perm (h q (by omega))]
    · rfl
/-! order by a channel -/
abbrev cl (k : Nat) (x y : Int32) : Prop := chN x k < chN y k ∨ (chN x k = chN y k ∧ x < y)
theorem cl_irr (k : Nat) (x : Int32) : ¬ cl k x x := by
  intro h; rcases h with h | h
  · omega
  · exact Int32.lt_irrefl h.2
theorem cl_trans {k : Nat} {x y z : Int32} (a : cl k x y) (b : cl k y z) : cl k x z := by
  rcases a with a | a <;> rcases b with b | b
  · exact Or.inl (by omega)
  · exact Or.inl (by omega)
  · exact Or.inl (by omega)
  · exact Or.inr ⟨by omega, Int32.lt_trans a.2 b.2⟩
theorem cl_tot {k : Nat} {x y : Int32} (h : x ≠ y) : cl k x y ∨ cl k y x := by
  rcases Nat.lt_trichotomy (chN x k) (chN y k) with q | q | q
  · exact Or.inl (Or.inl q)
  · rcases Int32.lt_or_lt_of_ne h with z | z
    · exact Or.inl (Or.inr ⟨q, z⟩)
    · exact Or.inr (Or.inr ⟨q.symm, z⟩)
  · exact Or.inr (Or.inl q)
def lIn (k : Nat) (x : Int32) : List Int32 → List Int32
  | [] => [x]
  | y :: L => if cl k x y then x :: y :: L else y :: lIn k x L
def lSo (k : Nat) : List Int32 → List Int32
  | [] => []
  | x :: L => lIn k x (lSo k L)
theorem lIn_perm (k : Nat) (x : Int32) (L : List Int32) : List.Perm (lIn k x L) (x :: L) := by
  induction L with
  | nil => exact List.Perm.refl _
  | cons y L ih =>
    simp only [lIn]
    split
    · exact List.Perm.refl _
    · exact (List.Perm.cons y ih).trans (List.Perm.swap x y L)
theorem lSo_perm (k : Nat) (L : List Int32) : List.Perm (lSo k L) (L) := by
  induction L with
  | nil => exact List.Perm.refl _
  | cons x L ih => exact (lIn_perm k x _).trans (List.Perm.cons x ih)
abbrev sot (k : Nat) (L : List Int32) : Prop := L.Pairwise (cl k)
theorem lIn_sot {k : Nat} {x : Int32} {L : List Int32} (h : sot k L) (hx : x ∉ L) : sot k (lIn k x L) := by
  induction L with
  | nil => exact List.pairwise_singleton _ _
  | cons y L ih =>
    obtain ⟨h1, h2⟩ := List.pairwise_cons.mp h
    simp only [lIn]
    split
    · next hc =>
      refine List.pairwise_cons.mpr ⟨fun z hz => ?_, h⟩
      rcases List.mem_cons.mp hz with q | q
      · rw [q]; exact hc
      · exact cl_trans hc (h1 z q)
    · next hc =>
      have hyx : cl k y x := (cl_tot (fun q => hx (by rw [q]; exact List.mem_cons_self ..))).resolve_left hc
      refine List.pairwise_cons.mpr ⟨fun z hz => ?_, ih h2 (fun q => hx (List.mem_cons_of_mem _ q))⟩
      rcases List.mem_cons.mp ((lIn_perm k x L).mem_iff.mp hz) with q | q
      · rw [q]; exact hyx
      · exact h1 z q
theorem lSo_sot {k : Nat} {L : List Int32} (h : L.Nodup) : sot k (lSo k L) := by
  induction L with
  | nil => exact List.Pairwise.nil
  | cons x L ih =>
    obtain ⟨h1, h2⟩ := List.nodup_cons.mp h
    exact lIn_sot (ih h2) (fun q => h1 ((lSo_perm k L).mem_iff.mp q))
theorem sot_eq {k : Nat} {L K : List Int32} (h1 : sot k L) (h2 : sot k K) (h : List.Perm (L) (K)) : L = K :=
  List.Perm.eq_of_pairwise (fun a b _ _ q1 q2 => absurd (cl_trans q1 q2) (cl_irr k a)) h1 h2 h
theorem lSo_eq {k : Nat} {L K : List Int32} (hn : L.Nodup) (h : List.Perm (L) (K)) : lSo k L = lSo k K :=
  sot_eq (lSo_sot hn) (lSo_sot (h.nodup hn)) ((lSo_perm k L).trans (h.trans (lSo_perm k K).symm))
theorem sot_nodup {k : Nat} {L : List Int32} (h : sot k L) : L.Nodup := List.Pairwise.imp (fun {a b} q z => by rw [z] at q; exact cl_irr k b q) h
/-- how many of a list come before one -/
def lRk (k : Nat) (y : Int32) : List Int32 → Nat
  | [] => 0
  | x :: L => lRk k y L + (if cl k x y then 1 else 0)
theorem lRk_perm {k : Nat} {y : Int32} {L K : List Int32} (h : List.Perm (L) (K)) : lRk k y L = lRk k y K := by
  induction h with
  | nil => rfl
  | cons x _ ih => show _ + _ = _ + _; rw [ih]
  | swap a b l => show _ + _ + _ = _ + _ + _; omega
  | trans _ _ i1 i2 => exact i1.trans i2
theorem lRk_le (k : Nat) (y : Int32) (L : List Int32) : lRk k y L ≤ L.length := by
  induction L with
  | nil => exact Nat.le_refl _
  | cons x L ih => show _ + _ ≤ L.length + 1; split <;> omega
theorem lRk_0 {k : Nat} {y : Int32} {L : List Int32} (h : ∀ x, x ∈ L → cl k y x) : lRk k y L = 0 := by
  induction L with
  | nil => rfl
  | cons x L ih =>
    show _ + _ = 0
    rw [ih (fun z hz => h z (List.mem_cons_of_mem _ hz)), if_neg (fun q => cl_irr k y (cl_trans (h x (List.mem_cons_self ..)) q))]
theorem lRk_get {k : Nat} {L : List Int32} (h : sot k L) (i : Nat) (hi : i < L.length) : lRk k L[i] L = i := by
  induction L generalizing i with
  | nil => exact absurd hi (Nat.not_lt_zero i)
  | cons x L ih =>
    obtain ⟨h1, h2⟩ := List.pairwise_cons.mp h
    cases i with
    | zero =>
      show lRk k x L + (if cl k x x then 1 else 0) = 0
      rw [lRk_0 h1, if_neg (cl_irr k x)]
    | succ i =>
      have hi2 : i < L.length := by simpa using hi
      show lRk k L[i] L + (if cl k x L[i] then 1 else 0) = _
      rw [ih h2 i hi2, if_pos (h1 _ (List.getElem_mem hi2))]
theorem lRk_inv {k : Nat} {L : List Int32} (h : sot k L) {x : Int32} (hx : x ∈ L) {r : Nat} (hr : r < L.length) (e : lRk k x L = r) : x = L[r] := by
  obtain ⟨i, hi, rfl⟩ := List.getElem_of_mem hx
  have := lRk_get h i hi
  have hir : i = r := by omega
  subst hir
  rfl
/-! where a box is cut -/
def lTk (cn : Int32 → Nat) (s : List Int32) (j : Nat) : Nat := lS cn (s.take j)
theorem lS_append (g : Int32 → Nat) (L K : List Int32) : lS g (L ++ K) = lS g L + lS g K := by
  induction L with
  | nil => rw [List.nil_append]; show _ = 0 + _; omega
  | cons x L ih => show lS g (L ++ K) + _ = lS g L + g x + _; omega
theorem lTk_s (cn : Int32 → Nat) (s : List Int32) {j : Nat} (hj : j < s.length) : lTk cn s (j + 1) = lTk cn s j + cn s[j] := by
  unfold lTk
  rw [← List.take_append_getElem hj, lS_append]
  show _ + (0 + cn s[j]) = _
  omega
abbrev lCo (cn : Int32 → Nat) (s : List Int32) (tot j : Nat) : Prop := 2 * lTk cn s j < tot ∧ j + 1 < s.length
def LW (cn : Int32 → Nat) (s : List Int32) (tot j : Nat) : Prop := (∀ i, i < j → lCo cn s tot i) ∧ ¬ lCo cn s tot j
theorem LW_u {cn : Int32 → Nat} {s : List Int32} {tot i j : Nat} (a : LW cn s tot i) (b : LW cn s tot j) : i = j := by
  rcases Nat.lt_trichotomy i j with q | q | q
  · exact absurd (b.1 i q) a.2
  · exact q
  · exact absurd (a.1 j q) b.2
def lwF (cn : Int32 → Nat) (s : List Int32) (tot : Nat) : Nat → Nat → Nat
  | 0, j => j
  | k + 1, j => if lCo cn s tot j then lwF cn s tot k (j + 1) else j
theorem lwF_ok {cn : Int32 → Nat} {s : List Int32} {tot : Nat} (k j : Nat) (h : ∀ i, i < j → lCo cn s tot i) (hk : s.length ≤ k + j) : LW cn s tot (lwF cn s tot k j) := by
  induction k generalizing j with
  | zero => exact ⟨h, fun q => by have : j + 1 < s.length := q.2; omega⟩
  | succ k ih =>
    simp only [lwF]
    split
    · next hc =>
      refine ih (j + 1) (fun i hi => ?_) (by omega)
      by_cases hij : i = j
      · rw [hij]; exact hc
      · exact h i (by omega)
    · next hc => exact ⟨h, hc⟩
def lLw (cn : Int32 → Nat) (s : List Int32) : Nat := lwF cn s (lS cn s) s.length 0
theorem lLw_ok (cn : Int32 → Nat) (s : List Int32) : LW cn s (lS cn s) (lLw cn s) := lwF_ok _ _ (fun i hi => absurd hi (Nat.not_lt_zero i)) (by omega)
theorem LW_lt {cn : Int32 → Nat} {s : List Int32} {tot j : Nat} (h : LW cn s tot j) (hs : 0 < s.length) : j < s.length := by
  cases j with
  | zero => exact hs
  | succ j => exact (h.1 j (Nat.lt_succ_self j)).2
/-- the boxes behind a split of box b -/
def lSt (cn : Int32 → Nat) (B : Nat → List Int32) (nb b : Nat) : Nat → List Int32 := fun q => if q = nb then (lSo (lWd (B b)) (B b)).drop (lLw cn (lSo (lWd (B b)) (B b))) else if q = b then (lSo (lWd (B b)) (B b)).take (lLw cn (lSo (lWd (B b)) (B b))) else B q
/-- all splits -/
def lRn (cn : Int32 → Nat) (r most : Nat) : Nat → Nat → (Nat → List Int32) → Nat × (Nat → List Int32)
  | 0, nb, B => (nb, B)
  | k + 1, nb, B => if nb < most then (match lGr cn r B nb with
      | none => (nb, B)
      | some b => lRn cn r most k (nb + 1) (lSt cn B nb b)) else (nb, B)
theorem lRn_s (cn : Int32 → Nat) (r most k nb : Nat) (B : Nat → List Int32) : lRn cn r most (k + 1) nb B = if nb < most then (match lGr cn r B nb with
      | none => (nb, B)
      | some b => lRn cn r most k (nb + 1) (lSt cn B nb b)) else (nb, B) := rfl
/-- the means of a box -/
def lMe (cn : Int32 → Nat) (L : List Int32) : Nat → Int32
  | 0 => nI 0
  | c + 1 => nI 256 * lMe cn L c + nI ((2 * lS (gS cn c) L + lS cn L) / (2 * lS cn L))
theorem lMe_s (cn : Int32 → Nat) (L : List Int32) (c : Nat) : lMe cn L (c + 1) = nI 256 * lMe cn L c + nI ((2 * lS (gS cn c) L + lS cn L) / (2 * lS cn L)) := rfl
theorem lMe_perm {cn : Int32 → Nat} {L K : List Int32} (h : List.Perm (L) (K)) (c : Nat) : lMe cn L c = lMe cn K c := by
  induction c with
  | zero => rfl
  | succ c ih => rw [lMe_s, lMe_s, ih, lS_perm h, lS_perm h]
/-- what holds of the boxes -/
def BI (cn : Int32 → Nat) (nb : Nat) (B : Nat → List Int32) : Prop := ∀ b, b < nb → (B b).Nodup ∧ 0 < (B b).length ∧ (B b).length ≤ 256 ∧ ∀ c, c ∈ B b → 1 ≤ cn c ∧ cn c ≤ 256
theorem lS_pos {cn : Int32 → Nat} {L : List Int32} (h0 : 0 < L.length) (h : ∀ c, c ∈ L → 1 ≤ cn c) : 0 < lS cn L := by
  cases L with
  | nil => exact absurd h0 (Nat.not_lt_zero 0)
  | cons c L => have := h c (List.mem_cons_self ..); show 0 < _ + _; omega
theorem BI_pos {cn : Int32 → Nat} {nb b : Nat} {B : Nat → List Int32} (h : BI cn nb B) (hb : b < nb) : 0 < lS cn (B b) ∧ lS cn (B b) ≤ 65536 := by
  obtain ⟨-, h2, h3, h4⟩ := h b hb
  refine ⟨lS_pos h2 (fun c hc => (h4 c hc).1), ?_⟩
  calc lS cn (B b) ≤ (B b).length * 256 := lS_le (fun c hc => (h4 c hc).2)
    _ ≤ 256 * 256 := Nat.mul_le_mul_right _ h3
    _ = 65536 := rfl
theorem BI_st {cn : Int32 → Nat} {nb b : Nat} {B : Nat → List Int32} (h : BI cn nb B) (hb : b < nb) (hl : 1 < (B b).length) : BI cn (nb + 1) (lSt cn B nb b) := by
  obtain ⟨h1, h2, h3, h4⟩ := h b hb
  have hp := lSo_perm (lWd (B b)) (B b)
  have hlen := hp.length_eq
  have hw := lLw_ok cn (lSo (lWd (B b)) (B b))
  have hlt := LW_lt hw (by omega)
  have hpos : 0 < lLw cn (lSo (lWd (B b)) (B b)) := by
    rcases Nat.eq_zero_or_pos (lLw cn (lSo (lWd (B b)) (B b))) with q | q
    · exfalso
      have := hw.2
      rw [q] at this
      refine this ⟨?_, by omega⟩
      show 2 * 0 < _
      rw [lS_perm hp]
      exact (BI_pos h hb).1
    · exact q
  have hnd : (lSo (lWd (B b)) (B b)).Nodup := hp.symm.nodup h1
  intro q hq
  unfold lSt
  by_cases e1 : q = nb
  · rw [if_pos e1]
    refine ⟨hnd.sublist (List.drop_sublist _ _), ?_, ?_, fun c hc => h4 c (hp.mem_iff.mp (List.mem_of_mem_drop hc))⟩
    · rw [List.length_drop]; omega
    · rw [List.length_drop]; omega
  · rw [if_neg e1]
    by_cases e2 : q = b
    · rw [if_pos e2]
      refine ⟨hnd.sublist (List.take_sublist _ _), ?_, ?_, fun c hc => h4 c (hp.mem_iff.mp (List.mem_of_mem_take hc))⟩
      · rw [List.length_take]; omega
      · rw [List.length_take]; omega
    · rw [if_neg e2]; exact h q (by omega)
theorem lSt_perm {cn : Int32 → Nat} {nb b : Nat} {B C : Nat → List Int32} (hn : (B b).Nodup) (hb : b < nb) (h : ∀ q, q < nb → List.Perm (B q) (C q)) : ∀ q, q < nb + 1 → List.Perm (lSt cn B nb b q) (lSt cn C nb b q) := by
  intro q hq
  unfold lSt
  rw [lWd_perm (h b hb), lSo_eq hn (h b hb)]
  split
  · exact List.Perm.refl _
  · split
    · exact List.Perm.refl _
    · exact h q (by omega)
theorem lRn_perm {cn : Int32 → Nat} {r most : Nat} (k nb : Nat) {B C : Nat → List Int32} (hB : BI cn nb B) (h : ∀ q, q < nb → List.Perm (B q) (C q)) : (lRn cn r most k nb B).1 = (lRn cn r most k nb C).1 ∧ ∀ q, q < (lRn cn r most k nb B).1 → List.Perm ((lRn cn r most k nb B).2 q) ((lRn cn r most k nb C).2 q) := by
  induction k generalizing nb B C with
  | zero => exact ⟨rfl, h⟩
  | succ k ih =>
    rw [lRn_s, lRn_s, ← lGr_perm h]
    split
    · cases hx : lGr cn r B nb with
      | none => exact ⟨rfl, h⟩
      | some b =>
        obtain ⟨b1, b2⟩ := lGr_lt hx
        exact ih (nb + 1) (BI_st hB b1 b2) (lSt_perm (hB b b1).1 b1 h)
    · exact ⟨rfl, h⟩
