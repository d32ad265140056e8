/-! the reference's boxes -/
def bL (h bx : fT) (b : Nat) : Nat → List Int32
  | 0 => []
  | k + 1 => if bx k = nI b then h k :: bL h bx b k else bL h bx b k
theorem bL_t {h bx : fT} {b k : Nat} (e : bx k = nI b) : bL h bx b (k + 1) = h k :: bL h bx b k := if_pos e
theorem bL_f {h bx : fT} {b k : Nat} (e : ¬ bx k = nI b) : bL h bx b (k + 1) = bL h bx b k := if_neg e
theorem bL_len (h bx : fT) (b k : Nat) : (bL h bx b k).length ≤ k := by
  induction k with
  | zero => exact Nat.le_refl 0
  | succ k ih =>
    by_cases e : bx k = nI b
    · rw [bL_t e, List.length_cons]; omega
    · rw [bL_f e]; omega
theorem bL_mem {h bx : fT} {b k : Nat} {x : Int32} : x ∈ bL h bx b k ↔ ∃ i, i < k ∧ bx i = nI b ∧ h i = x := by
  induction k with
  | zero =>
    constructor
    · intro q; exact absurd q List.not_mem_nil
    · intro ⟨i, hi, _⟩; omega
  | succ k ih =>
    by_cases e : bx k = nI b
    · rw [bL_t e, List.mem_cons, ih]
      constructor
      · intro q
        rcases q with q | ⟨i, a1, a2, a3⟩
        · exact ⟨k, by omega, e, q.symm⟩
        · exact ⟨i, by omega, a2, a3⟩
      · intro ⟨i, a1, a2, a3⟩
        by_cases hik : i = k
        · subst hik; exact Or.inl a3.symm
        · exact Or.inr ⟨i, by omega, a2, a3⟩
    · rw [bL_f e, ih]
      constructor
      · intro ⟨i, a1, a2, a3⟩; exact ⟨i, by omega, a2, a3⟩
      · intro ⟨i, a1, a2, a3⟩
        by_cases hik : i = k
        · subst hik; exact absurd a2 e
        · exact ⟨i, by omega, a2, a3⟩
theorem bL_nodup {h bx : fT} {b k : Nat} (hd : ∀ i j, i < k → j < k → h i = h j → i = j) : (bL h bx b k).Nodup := by
  induction k with
  | zero => exact List.Pairwise.nil
  | succ k ih =>
    have i1 := ih (fun i j hi hj => hd i j (by omega) (by omega))
    by_cases e : bx k = nI b
    · rw [bL_t e]
      refine List.nodup_cons.mpr ⟨fun q => ?_, i1⟩
      obtain ⟨i, a1, -, a3⟩ := bL_mem.mp q
      have := hd i k (by omega) (by omega) a3
      omega
    · rw [bL_f e]; exact i1
theorem bL_lS_le {h bx : fT} {b n : Nat} (hn : n ≤ 256) {g : Int32 → Nat} {B : Nat} (hg : ∀ i, i < n → g (h i) ≤ B) {k : Nat} (hk : k ≤ n) : lS g (bL h bx b k) ≤ 256 * B := by
  refine Nat.le_trans (lS_le (b := B) (fun c hc => ?_)) (Nat.mul_le_mul_right _ (Nat.le_trans (bL_len h bx b k) (by omega)))
  obtain ⟨i, a1, -, rfl⟩ := bL_mem.mp hc
  exact hg i (by omega)
/-- the place in the row of the color of a rank -/
def cor (h bx : fT) (b c : Nat) (L : List Int32) (r : Nat) : Nat → Option Nat
  | 0 => none
  | k + 1 => if bx k = nI b ∧ lRk c (h k) L = r then some k else cor h bx b c L r k
theorem cor_s (h bx : fT) (b c : Nat) (L : List Int32) (r k : Nat) : cor h bx b c L r (k + 1) = if bx k = nI b ∧ lRk c (h k) L = r then some k else cor h bx b c L r k := rfl
theorem cor_ok {h bx : fT} {b c n : Nat} {s : List Int32} (hs : sot c s) (hp : List.Perm (bL h bx b n) s) {r : Nat} (hr : r < s.length) : ∃ i, cor h bx b c (bL h bx b n) r n = some i ∧ i < n ∧ bx i = nI b ∧ h i = s[r] := by
  have key : ∀ k, k ≤ n → (∃ i, i < k ∧ bx i = nI b ∧ h i = s[r]) → ∃ i, cor h bx b c (bL h bx b n) r k = some i ∧ i < k ∧ bx i = nI b ∧ h i = s[r] := by
    intro k
    induction k with
    | zero => intro _ ⟨i, hi, _⟩; omega
    | succ k ih =>
      intro hk ⟨i, i1, i2, i3⟩
      rw [cor_s]
      by_cases hc : bx k = nI b ∧ lRk c (h k) (bL h bx b n) = r
      · rw [if_pos hc]
        refine ⟨k, rfl, by omega, hc.1, ?_⟩
        have hm : h k ∈ s := hp.mem_iff.mp (bL_mem.mpr ⟨k, by omega, hc.1, rfl⟩)
        exact lRk_inv hs hm hr (by rw [← lRk_perm hp]; exact hc.2)
      · rw [if_neg hc]
        by_cases hik : i = k
        · subst hik
          exact absurd ⟨i2, by rw [i3, lRk_perm hp]; exact lRk_get hs r hr⟩ hc
        · obtain ⟨j, j1, j2, j3⟩ := ih (by omega) ⟨i, by omega, i2, i3⟩
          exact ⟨j, j1, by omega, j3⟩
  exact key n (Nat.le_refl n) (bL_mem.mp (hp.mem_iff.mpr (List.getElem_mem hr)))
theorem bL_out {h bx : fT} {b i k : Nat} {x : Int32} (hik : k ≤ i) : bL h (upd bx i x) b k = bL h bx b k := by
  induction k with
  | zero => rfl
  | succ k ih =>
    have e : upd bx i x k = bx k := upd_ne _ _ (by omega)
    show (if _ then _ else _) = (if _ then _ else _)
    rw [e, ih (by omega)]
theorem bL_take {h bx : fT} {b i n : Nat} {x : Int32} (hi : i < n) (hb : bx i = nI b) (hx : ¬ x = nI b) : List.Perm (bL h bx b n) (h i :: bL h (upd bx i x) b n) := by
  induction n with
  | zero => omega
  | succ n ih =>
    by_cases hin : i = n
    · subst hin
      rw [bL_t hb, bL_f (by rw [upd_self]; exact hx), bL_out (Nat.le_refl i)]
    · have e : upd bx i x n = bx n := upd_ne _ _ (by omega)
      by_cases hc : bx n = nI b
      · rw [bL_t hc, bL_t (by rw [e]; exact hc)]
        exact (List.Perm.cons _ (ih (by omega))).trans (List.Perm.swap _ _ _)
      · rw [bL_f hc, bL_f (by rw [e]; exact hc)]
        exact ih (by omega)
theorem bL_give {h bx : fT} {b i n : Nat} (hi : i < n) (hb : ¬ bx i = nI b) : List.Perm (bL h (upd bx i (nI b)) b n) (h i :: bL h bx b n) := by
  have h2 : upd (upd bx i (nI b)) i (bx i) = bx := by
    funext j; by_cases q : j = i
    · subst q; rw [upd_self]
    · rw [upd_ne _ _ q, upd_ne _ _ q]
  have := bL_take (h := h) (bx := upd bx i (nI b)) (b := b) (i := i) (n := n) (x := bx i) hi (upd_self _ _ _) hb
  rwa [h2] at this
theorem bL_same {h bx : fT} {b i n : Nat} {x : Int32} (hb : ¬ bx i = nI b) (hx : ¬ x = nI b) : bL h (upd bx i x) b n = bL h bx b n := by
  induction n with
  | zero => rfl
  | succ n ih =>
    by_cases hin : n = i
    · subst hin; rw [bL_f hb, bL_f (by rw [upd_self]; exact hx), ih]
    · have e : upd bx i x n = bx n := upd_ne _ _ hin
      show (if _ then _ else _) = (if _ then _ else _)
      rw [e, ih]
/-- one color taken over, from the end of a sorted box -/
theorem bL_move {h bx : fT} {b nb n i r : Nat} {s : List Int32} (hbn : b ≠ nb) (hb9 : b < 2 ^ 31) (hn9 : nb < 2 ^ 31) (hi : i < n) (hb : bx i = nI b) (hr : r < s.length) (hx : h i = s[r]) (hp : List.Perm (bL h bx b n) (s.take (r + 1))) (hq : List.Perm (bL h bx nb n) (s.drop (r + 1))) : List.Perm (bL h (upd bx i (nI nb)) b n) (s.take r) ∧ List.Perm (bL h (upd bx i (nI nb)) nb n) (s.drop r) ∧ ∀ q, q ≠ b → q ≠ nb → q < 2 ^ 31 → bL h (upd bx i (nI nb)) q n = bL h bx q n := by
  have ne1 : ¬ nI nb = nI b := by rw [nI_eq hn9 hb9]; omega
  refine ⟨?_, ?_, fun q q1 q2 q3 => bL_same (by rw [hb, nI_eq hb9 q3]; omega) (by rw [nI_eq hn9 q3]; omega)⟩
  · have a1 := bL_take (h := h) (x := nI nb) hi hb ne1
    have a2 := a1.symm.trans hp
    rw [← List.take_append_getElem hr, hx] at a2
    exact (a2.trans (List.perm_append_singleton _ _)).cons_inv
  · have a1 := bL_give (h := h) (bx := bx) (b := nb) hi (by rw [hb]; exact fun q => ne1 q.symm)
    rw [List.drop_eq_getElem_cons hr, ← hx]
    exact a1.trans (List.Perm.cons _ hq)
