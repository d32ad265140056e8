/-! ranks of colors; the best addition -/
def kyC (f : fT) (c : Int32) : Int64 := nL ((256 - cnC f c (fA f)) * 16777216 + c.toNatClampNeg)
def hlL (h : fT) (n : Nat) : List Int32 := bL h (fun _ => nI 0) 0 n
theorem hlL_s (h : fT) (n : Nat) : hlL h (n + 1) = h n :: hlL h n := bL_t rfl
theorem hlL_mem {h : fT} {n : Nat} {x : Int32} : x ∈ hlL h n ↔ ∃ i, i < n ∧ h i = x := by
  unfold hlL
  rw [bL_mem]
  exact ⟨fun ⟨i, a, _, b⟩ => ⟨i, a, b⟩, fun ⟨i, a, b⟩ => ⟨i, a, rfl, b⟩⟩
theorem hlL_len (h : fT) (n : Nat) : (hlL h n).length = n := bL_all (fun _ _ => rfl)
theorem GA_hl {f : fT} {ex : Int32 → Bool} {p n : Nat} {h m : fT} (g : GA f ex p n h m) : List.Perm (hlL h n) (colL f ex p) := GA_perm g (fun _ _ => rfl)
theorem GA_n {f : fT} {ex : Int32 → Bool} {p n : Nat} {h m : fT} (g : GA f ex p n h m) : n = (colL f ex p).length := by rw [← (GA_hl g).length_eq, hlL_len]
/-- of a color in the histogram -/
theorem GA_c {f : fT} (hf : wf f) {ex : Int32 → Bool} {n : Nat} {h m : fT} (g : GA f ex (fA f) n h m) {i : Nat} (hi : i < n) : ∃ c u, c < 16777216 ∧ h i = nI c ∧ 1 ≤ u ∧ u ≤ 256 ∧ cnC f (h i) (fA f) = u ∧ m i = nI u ∧ kyC f (h i) = nL ((256 - u) * 16777216 + c) := by
  obtain ⟨⟨q, q1, q2⟩, a3, a4, a5⟩ := g.2.1 i hi
  have hA := fA_le hf.1
  have hc := (hf.2.1 q q1).resolve_left (by rw [q2]; exact a3)
  rw [q2] at hc
  obtain ⟨c, c1, c2⟩ := hc
  refine ⟨c, cnC f (h i) (fA f), c1, c2, cnC_pos q1 q2, Nat.le_trans (cnC_le _ _ _) hA.2, rfl, a5, ?_⟩
  unfold kyC
  rw [c2, nI_clamp (by omega)]
theorem nL_ltI {a b : Nat} (ha : a < 2 ^ 63) (hb : b < 2 ^ 63) : nL a < nL b ↔ a < b := by
  rw [Int64.lt_iff_toInt_lt, nL_toInt ha, nL_toInt hb]; omega
theorem nL_leI {a b : Nat} (ha : a < 2 ^ 63) (hb : b < 2 ^ 63) : nL a ≤ nL b ↔ a ≤ b := by
  rw [Int64.le_iff_toInt_le, nL_toInt ha, nL_toInt hb]; omega
theorem nL_eqI {a b : Nat} (ha : a < 2 ^ 63) (hb : b < 2 ^ 63) : nL a = nL b ↔ a = b := by
  rw [← Int64.toInt_inj, nL_toInt ha, nL_toInt hb]; omega
abbrev clt (x : Int64) (L : List Int64) : Nat := L.countP (fun y => decide (y < x))
theorem rkN_c {f : fT} (hf : wf f) {ex : Int32 → Bool} {n : Nat} {h m : fT} (g : GA f ex (fA f) n h m) {a : Nat} (ha : a < n) {k : Nat} (hk : k ≤ n) : rkN h m a k = clt (kyC f (h a)) ((hlL h k).map (kyC f)) := by
  induction k with
  | zero => rfl
  | succ k ih =>
    rw [rkN_s, ih (by omega), hlL_s, List.map_cons]
    unfold clt
    rw [List.countP_cons]
    congr 1
    obtain ⟨c, u, c1, c2, u1, u2, -, u3, u4⟩ := GA_c hf g (show k < n by omega)
    obtain ⟨c', u', c1', c2', u1', u2', -, u3', u4'⟩ := GA_c hf g ha
    have e : (m a < m k ∨ (m k = m a ∧ h k < h a)) ↔ kyC f (h k) < kyC f (h a) := by
      rw [u4, u4', u3, u3', c2, c2', nL_ltI (by omega) (by omega), nI_ltI (by omega) (by omega), nI_eq (by omega) (by omega), nI_ltI (by omega) (by omega)]
      omega
    by_cases q : kyC f (h k) < kyC f (h a)
    · rw [if_pos (e.mpr q)]; simp [q]
    · rw [if_neg (fun z => q (e.mp z))]; simp [q]
theorem sgL_nd {K : jT} {n : Nat} (h : (sgL K 0 n).Nodup) {i j : Nat} (hij : i < j) (hj : j < n) : K i ≠ K j := by
  induction n with
  | zero => omega
  | succ n ih =>
    rw [sgL_s, Nat.zero_add] at h
    obtain ⟨h1, h2⟩ := List.nodup_cons.mp h
    by_cases q : j = n
    · subst q
      intro z
      exact h1 (sgL_mem.mpr ⟨i, hij, by rw [Nat.zero_add]; exact z⟩)
    · exact ih h2 (by omega)
theorem clt_so {K : jT} {n x : Nat} (hs : ∀ i j, i < j → j < n → K i < K j) (hx : x < n) {k : Nat} (hk : k ≤ n) : clt (K x) (sgL K 0 k) = if x < k then x else k := by
  induction k with
  | zero => rw [if_neg (by omega)]; rfl
  | succ k ih =>
    rw [sgL_s, Nat.zero_add]
    unfold clt at ih ⊢
    rw [List.countP_cons, ih (by omega)]
    rcases Nat.lt_trichotomy k x with q | q | q
    · have := hs k x q hx
      rw [if_neg (show ¬ x < k by omega), if_neg (show ¬ x < k + 1 by omega)]
      simp [this]
    · subst q
      rw [if_neg (show ¬ k < k by omega), if_pos (show k < k + 1 by omega)]
      simp
    · have := hs x k q (by omega)
      have n1 : ¬ K k < K x := fun z => Int64.lt_irrefl (Int64.lt_trans this z)
      rw [if_pos q, if_pos (show x < k + 1 by omega)]
      simp [n1]
theorem rkA_some {h m : fT} {n : Nat} {r : Int32} {k a : Nat} (e : rkA h m n r k = some a) : a < k ∧ nI (rkN h m a n) = r := by
  induction k with
  | zero => cases e
  | succ k ih =>
    rw [rkA_s] at e
    cases hx : rkA h m n r k with
    | some q => rw [hx] at e; cases e; have := ih hx; exact ⟨by omega, this.2⟩
    | none =>
      rw [hx] at e
      dsimp only at e
      split at e
      · next hc => cases e; exact ⟨by omega, hc⟩
      · cases e
theorem rkA_none {h m : fT} {n : Nat} {r : Int32} {k : Nat} (e : rkA h m n r k = none) : ∀ i, i < k → nI (rkN h m i n) ≠ r := by
  induction k with
  | zero => intro q hq; omega
  | succ k ih =>
    rw [rkA_s] at e
    cases hx : rkA h m n r k with
    | some q => rw [hx] at e; cases e
    | none =>
      rw [hx] at e
      dsimp only at e
      split at e
      · cases e
      · next hc =>
        intro i hi
        by_cases q : i = k
        · subst q; exact hc
        · exact ih hx i (by omega)
theorem kyC_inj {f : fT} (hf : wf f) {ex : Int32 → Bool} {n : Nat} {h m : fT} (g : GA f ex (fA f) n h m) {i j : Nat} (hi : i < n) (hj : j < n) (e : kyC f (h i) = kyC f (h j)) : h i = h j := by
  obtain ⟨c, u, c1, c2, u1, u2, -, u3, u4⟩ := GA_c hf g hi
  obtain ⟨c', u', c1', c2', u1', u2', -, u3', u4'⟩ := GA_c hf g hj
  rw [u4, u4', nL_eqI (by omega) (by omega)] at e
  rw [c2, c2', show c = c' by omega]
theorem nd_map {α β : Type} {g : α → β} {L : List α} (h : ∀ x, x ∈ L → ∀ y, y ∈ L → g x = g y → x = y) (hn : L.Nodup) : (L.map g).Nodup := by
  induction L with
  | nil => exact List.Pairwise.nil
  | cons a L ih =>
    obtain ⟨h1, h2⟩ := List.nodup_cons.mp hn
    rw [List.map_cons]
    refine List.nodup_cons.mpr ⟨fun q => ?_, ih (fun x hx y hy => h x (List.mem_cons_of_mem _ hx) y (List.mem_cons_of_mem _ hy)) h2⟩
    obtain ⟨b, b1, b2⟩ := List.mem_map.mp q
    have := h b (List.mem_cons_of_mem _ b1) a (List.mem_cons_self ..) b2
    rw [this] at b1
    exact h1 b1
theorem kl_nd {f : fT} (hf : wf f) {ex : Int32 → Bool} {n : Nat} {h m : fT} (g : GA f ex (fA f) n h m) : ((hlL h n).map (kyC f)).Nodup := by
  refine nd_map ?_ (bL_nodup g.2.2.1)
  intro x hx y hy e
  obtain ⟨i, i1, rfl⟩ := hlL_mem.mp hx
  obtain ⟨j, j1, rfl⟩ := hlL_mem.mp hy
  exact kyC_inj hf g i1 j1 e
/-- the reference's color of a rank is the class's -/
theorem rk_ok {f : fT} (hf : wf f) {ex : Int32 → Bool} {n n' : Nat} {h m h' m' : fT} (g : GA f ex (fA f) n h m) (g' : GA f ex (fA f) n' h' m') {K : jT} (hp : List.Perm (sgL K 0 n') ((hlL h' n').map (kyC f))) (hs : SO K 0 n') {k : Nat} (hk : k < n') : ∃ a c u, rkA h m n (nI k) n = some a ∧ c < 16777216 ∧ 1 ≤ u ∧ u ≤ 256 ∧ h a = nI c ∧ m a = nI u ∧ K k = nL ((256 - u) * 16777216 + c) := by
  have hA := fA_le hf.1
  have hn : n = n' := (GA_n g).trans (GA_n g').symm
  subst hn
  have hp2 : List.Perm (sgL K 0 n) ((hlL h n).map (kyC f)) := hp.trans (((GA_hl g').trans (GA_hl g).symm).map (kyC f))
  have nd : (sgL K 0 n).Nodup := hp2.symm.nodup (kl_nd hf g)
  have st : ∀ i j, i < j → j < n → K i < K j := fun i j hij hj => by
    have a := hs i j (Nat.zero_le i) hij (by omega)
    have b := sgL_nd nd hij hj
    rcases Int64.lt_or_le (K i) (K j) with q | q
    · exact q
    · exact absurd (Int64.le_antisymm a q) b
  have cnt : ∀ x, x < n → clt (K x) ((hlL h n).map (kyC f)) = x := by
    intro x hx
    unfold clt
    rw [← hp2.countP_eq]
    have := clt_so st hx (Nat.le_refl n)
    rw [if_pos hx] at this
    exact this
  have rank : ∀ a, a < n → ∃ j, j < n ∧ K j = kyC f (h a) ∧ rkN h m a n = j := by
    intro a ha
    obtain ⟨j, j1, j2⟩ := sgL_mem.mp (hp2.mem_iff.mpr (List.mem_map_of_mem (f := kyC f) (hlL_mem.mpr ⟨a, ha, rfl⟩)))
    rw [Nat.zero_add] at j2
    refine ⟨j, j1, j2, ?_⟩
    rw [rkN_c hf g ha (Nat.le_refl n), ← j2, cnt j j1]
  have hle := g.1
  cases hx : rkA h m n (nI k) n with
  | none =>
    exfalso
    obtain ⟨c, hc1, hc2⟩ := List.mem_map.mp (hp2.mem_iff.mp (sgL_mem.mpr ⟨k, hk, rfl⟩))
    obtain ⟨a, a1, rfl⟩ := hlL_mem.mp hc1
    obtain ⟨j, j1, j2, j3⟩ := rank a a1
    rw [Nat.zero_add] at hc2
    have : j = k := by
      rcases Nat.lt_trichotomy j k with q | q | q
      · exact absurd (j2.trans hc2) (sgL_nd nd q hk)
      · exact q
      · exact absurd (hc2.symm.trans j2.symm) (sgL_nd nd q j1)
    exact rkA_none hx a a1 (by rw [j3, this])
  | some a =>
    obtain ⟨a1, a2⟩ := rkA_some hx
    obtain ⟨j, j1, j2, j3⟩ := rank a a1
    rw [j3, nI_eq (by omega) (by omega)] at a2
    subst a2
    obtain ⟨c, u, c1, c2, u1, u2, -, u3, u4⟩ := GA_c hf g a1
    exact ⟨a, c, u, rfl, c1, u1, u2, c2, u3, by rw [j2, u4]⟩
theorem rk_no {f : fT} (hf : wf f) {ex : Int32 → Bool} {n : Nat} {h m : fT} (g : GA f ex (fA f) n h m) {k : Nat} (hk : n ≤ k) (hk2 : k < 2 ^ 31) : rkA h m n (nI k) n = none := by
  cases hx : rkA h m n (nI k) n with
  | none => rfl
  | some a =>
    exfalso
    have hA := fA_le hf.1
    have hle := g.1
    obtain ⟨a1, a2⟩ := rkA_some hx
    have hr := rkN_le h m a n
    rw [nI_eq (by omega) hk2] at a2
    have e := rkN_c hf g a1 (Nat.le_refl n)
    have hmem : kyC f (h a) ∈ (hlL h n).map (kyC f) := List.mem_map_of_mem (f := kyC f) (hlL_mem.mpr ⟨a, a1, rfl⟩)
    have hlen : ((hlL h n).map (kyC f)).length = n := by rw [List.length_map, hlL_len]
    have hlt : clt (kyC f (h a)) ((hlL h n).map (kyC f)) < ((hlL h n).map (kyC f)).length := by
      unfold clt
      rcases Nat.lt_or_ge (List.countP (fun y => decide (y < kyC f (h a))) ((hlL h n).map (kyC f))) ((hlL h n).map (kyC f)).length with q | q
      · exact q
      · have := List.countP_eq_length.mp (Nat.le_antisymm List.countP_le_length q) _ hmem
        simp at this
    omega
/-- the class's best addition -/
def cba (f h : fT) : Nat → Int32 × Int32
  | 0 => (-1, -1)
  | k + 1 => if (cba f h k).2 < gsum f (h k) (fA f) then (h k, gsum f (h k) (fA f)) else cba f h k
theorem cba_s (f h : fT) (k : Nat) : cba f h (k + 1) = if (cba f h k).2 < gsum f (h k) (fA f) then (h k, gsum f (h k) (fA f)) else cba f h k := rfl
theorem gsum_ge (f : fT) (c : Int32) {p : Nat} (hp : p ≤ 256) : ∃ n, n ≤ p * 585225 ∧ gsum f c p = nI n := by
  induction p with
  | zero => exact ⟨0, Nat.zero_le _, rfl⟩
  | succ p ih =>
    obtain ⟨n, h1, h2⟩ := ih (by omega)
    rw [gsum_s]
    split
    · exact ⟨n, Nat.le_trans h1 (Nat.mul_le_mul_right _ (Nat.le_succ p)), h2⟩
    · obtain ⟨e, e1, e2⟩ := nbd_nI f (f (2 + p)) (-1)
      obtain ⟨t, t1, t2⟩ := dst_nI (f 291) (f (2 + p)) c
      rw [e2, t2, h2]
      by_cases q : t ≤ e
      · rw [nI_sub q]
        split
        · exact ⟨n + (e - t), by rw [Nat.succ_mul]; omega, nI_add _ _⟩
        · exact ⟨n, Nat.le_trans h1 (Nat.mul_le_mul_right _ (Nat.le_succ p)), nI_add n 0⟩
      · rw [if_neg]
        · exact ⟨n, Nat.le_trans h1 (Nat.mul_le_mul_right _ (Nat.le_succ p)), nI_add n 0⟩
        · rw [Int32.lt_iff_toInt_lt, Int32.toInt_sub, nI_toInt (by omega), nI_toInt (by omega), Int32.toInt_zero, Int.bmod_eq_of_le (by omega) (by omega)]
          omega
theorem gsum_n1 {f : fT} (hf : wf0 f) (c : Int32) : (-1 : Int32) < gsum f c (fA f) := by
  have hA := fA_le hf
  obtain ⟨n, h1, h2⟩ := gsum_ge f c hA.2
  have : fA f * 585225 ≤ 256 * 585225 := Nat.mul_le_mul_right _ hA.2
  rw [h2, Int32.lt_iff_toInt_lt, nI_toInt (by omega), show (-1 : Int32).toInt = -1 by decide]
  omega
def bst (f : fT) (h : fT) (k : Nat) (c : Int32) : Prop := (∃ i, i < k ∧ h i = c) ∧ ∀ i, i < k → gsum f (h i) (fA f) < gsum f c (fA f) ∨ (gsum f (h i) (fA f) = gsum f c (fA f) ∧ c ≤ h i)
theorem cba_ok {f h : fT} (hf : wf0 f) {n : Nat} (ha : ∀ a b, a < b → b < n → h a < h b) {k : Nat} (hk : k ≤ n) : (k = 0 → cba f h k = (-1, -1)) ∧ (0 < k → bst f h k (cba f h k).1 ∧ (cba f h k).2 = gsum f (cba f h k).1 (fA f)) := by
  induction k with
  | zero => exact ⟨fun _ => rfl, fun q => absurd q (Nat.lt_irrefl 0)⟩
  | succ k ih =>
    refine ⟨fun q => absurd q (Nat.succ_ne_zero k), fun _ => ?_⟩
    obtain ⟨i1, i2⟩ := ih (by omega)
    rw [cba_s]
    by_cases h0 : k = 0
    · subst h0
      rw [i1 rfl, if_pos (gsum_n1 hf _)]
      refine ⟨⟨⟨0, by omega, rfl⟩, fun i hi => ?_⟩, rfl⟩
      rw [show i = 0 by omega]
      exact Or.inr ⟨rfl, Int32.le_refl _⟩
    · obtain ⟨⟨⟨a, a1, a2⟩, b2⟩, b3⟩ := i2 (by omega)
      by_cases q : (cba f h k).2 < gsum f (h k) (fA f)
      · rw [if_pos q]
        refine ⟨⟨⟨k, by omega, rfl⟩, fun i hi => ?_⟩, rfl⟩
        dsimp only
        by_cases hik : i = k
        · rw [hik]; exact Or.inr ⟨rfl, Int32.le_refl _⟩
        · rw [b3] at q
          rcases b2 i (by omega) with z | z
          · exact Or.inl (Int32.lt_trans z q)
          · rw [z.1]; exact Or.inl q
      · rw [if_neg q]
        refine ⟨⟨⟨a, by omega, a2⟩, fun i hi => ?_⟩, b3⟩
        by_cases hik : i = k
        · rw [hik]
          rw [b3] at q
          rcases Int32.lt_or_le (gsum f (h k) (fA f)) (gsum f (cba f h k).1 (fA f)) with z | z
          · exact Or.inl z
          · refine Or.inr ⟨Int32.le_antisymm (Int32.not_lt.mp q) z, ?_⟩
            rw [← a2]
            exact Int32.le_of_lt (ha a k a1 (by omega))
        · exact b2 i (by omega)
theorem bda_ok {f h : fT} {n : Nat} (hne : ∀ i, i < n → h i ≠ -1) {k : Nat} (hk : k ≤ n) : (k = 0 → (bda f h k).1 = -1) ∧ (0 < k → bst f h k (bda f h k).1 ∧ (bda f h k).2 = gsum f (bda f h k).1 (fA f)) := by
  induction k with
  | zero => exact ⟨fun _ => rfl, fun q => absurd q (Nat.lt_irrefl 0)⟩
  | succ k ih =>
    refine ⟨fun q => absurd q (Nat.succ_ne_zero k), fun _ => ?_⟩
    obtain ⟨i1, i2⟩ := ih (by omega)
    rw [bda_s]
    by_cases h0 : k = 0
    · subst h0
      rw [if_pos (Or.inl (i1 rfl))]
      refine ⟨⟨⟨0, by omega, rfl⟩, fun i hi => ?_⟩, rfl⟩
      rw [show i = 0 by omega]
      exact Or.inr ⟨rfl, Int32.le_refl _⟩
    · obtain ⟨⟨⟨a, a1, a2⟩, b2⟩, b3⟩ := i2 (by omega)
      by_cases q : (bda f h k).1 = -1 ∨ (bda f h k).2 < gsum f (h k) (fA f) ∨ (gsum f (h k) (fA f) = (bda f h k).2 ∧ h k < (bda f h k).1)
      · rw [if_pos q]
        have q := q.resolve_left (by rw [← a2]; exact hne a (by omega))
        rw [b3] at q
        refine ⟨⟨⟨k, by omega, rfl⟩, fun i hi => ?_⟩, rfl⟩
        dsimp only
        by_cases hik : i = k
        · rw [hik]; exact Or.inr ⟨rfl, Int32.le_refl _⟩
        · rcases b2 i (by omega) with z | z
          · rcases q with q | q
            · exact Or.inl (Int32.lt_trans z q)
            · rw [q.1]; exact Or.inl z
          · rcases q with q | q
            · rw [z.1]; exact Or.inl q
            · exact Or.inr ⟨z.1.trans q.1.symm, Int32.le_trans (Int32.le_of_lt q.2) z.2⟩
      · rw [if_neg q]
        refine ⟨⟨⟨a, by omega, a2⟩, fun i hi => ?_⟩, b3⟩
        by_cases hik : i = k
        · rw [hik]
          rw [b3] at q
          have q2 : ¬ gsum f (bda f h k).1 (fA f) < gsum f (h k) (fA f) := fun z => q (Or.inr (Or.inl z))
          rcases Int32.lt_or_le (gsum f (h k) (fA f)) (gsum f (bda f h k).1 (fA f)) with z | z
          · exact Or.inl z
          · have e := Int32.le_antisymm (Int32.not_lt.mp q2) z
            exact Or.inr ⟨e, Int32.not_lt.mp (fun w => q (Or.inr (Or.inr ⟨e, w⟩)))⟩
        · exact b2 i (by omega)
theorem ba_eq {f : fT} (hf : wf f) {ex : Int32 → Bool} {n n' : Nat} {h m h' m' : fT} (g : GA f ex (fA f) n h m) (g' : GA f ex (fA f) n' h' m') (ha : ∀ a b, a < b → b < n' → h' a < h' b) : (bda f h n).1 = (cba f h' n').1 := by
  have hn : n = n' := (GA_n g).trans (GA_n g').symm
  subst hn
  have hp := (GA_hl g).trans (GA_hl g').symm
  have c1 := cba_ok hf.1 ha (Nat.le_refl n)
  have c2 := bda_ok (f := f) (fun i hi => (g.2.1 i hi).2.1) (Nat.le_refl n)
  by_cases h0 : n = 0
  · rw [c2.1 h0, c1.1 h0]
  · obtain ⟨⟨⟨a, a1, a2⟩, a3⟩, -⟩ := c1.2 (by omega)
    obtain ⟨⟨⟨b, b1, b2⟩, b3⟩, -⟩ := c2.2 (by omega)
    obtain ⟨b', b1', b2'⟩ := hlL_mem.mp (hp.mem_iff.mp (hlL_mem.mpr ⟨b, b1, b2⟩))
    obtain ⟨a', a1', a2'⟩ := hlL_mem.mp (hp.mem_iff.mpr (hlL_mem.mpr ⟨a, a1, a2⟩))
    have x := a3 b' b1'
    have y := b3 a' a1'
    rw [b2'] at x
    rw [a2'] at y
    rcases x with x | x
    · rcases y with y | y
      · exact absurd (Int32.lt_trans x y) Int32.lt_irrefl
      · rw [y.1] at x; exact absurd x Int32.lt_irrefl
    · rcases y with y | y
      · rw [x.1] at y; exact absurd y Int32.lt_irrefl
      · exact Int32.le_antisymm y.2 x.2
