/-! the class: the histogram -/
def pxL (f : fT) : Nat → List Int64
  | 0 => []
  | p + 1 => if f (2 + p) = -1 then pxL f p else (f (2 + p)).toInt64 :: pxL f p
theorem pxL_s (f : fT) (p : Nat) : pxL f (p + 1) = if f (2 + p) = -1 then pxL f p else (f (2 + p)).toInt64 :: pxL f p := rfl
theorem pxL_len (f : fT) (p : Nat) : (pxL f p).length = opq f p := by
  induction p with
  | zero => rfl
  | succ p ih =>
    rw [pxL_s, opq_s]
    by_cases h : f (2 + p) = -1
    · rw [if_pos h, if_pos h, ih]; rfl
    · rw [if_neg h, if_neg h, List.length_cons, ih]
theorem i64_inj {a b : Int32} (h : a.toInt64 = b.toInt64) : a = b := by
  apply Int32.toInt_inj.mp
  rw [← Int32.toInt_toInt64 a, ← Int32.toInt_toInt64 b, h]
theorem i64_back (a : Int32) : a.toInt64.toInt32 = a := by simp
theorem i64_lt {a b : Int32} : a.toInt64 < b.toInt64 ↔ a < b := by
  rw [Int64.lt_iff_toInt_lt, Int32.toInt_toInt64, Int32.toInt_toInt64, Int32.lt_iff_toInt_lt]
theorem i64_le {a b : Int32} : a.toInt64 ≤ b.toInt64 ↔ a ≤ b := by
  rw [Int64.le_iff_toInt_le, Int32.toInt_toInt64, Int32.toInt_toInt64, Int32.le_iff_toInt_le]
theorem pxL_mem {f : fT} {p : Nat} {x : Int64} : x ∈ pxL f p ↔ ∃ q, q < p ∧ f (2 + q) ≠ -1 ∧ (f (2 + q)).toInt64 = x := by
  induction p with
  | zero =>
    constructor
    · intro q; exact absurd q List.not_mem_nil
    · intro ⟨q, hq, _⟩; omega
  | succ p ih =>
    rw [pxL_s]
    by_cases h : f (2 + p) = -1
    · rw [if_pos h, ih]
      constructor
      · intro ⟨q, a, b⟩; exact ⟨q, by omega, b⟩
      · intro ⟨q, a, b, c⟩
        by_cases hq : q = p
        · subst hq; exact absurd h b
        · exact ⟨q, by omega, b, c⟩
    · rw [if_neg h, List.mem_cons, ih]
      constructor
      · intro z
        rcases z with z | ⟨q, a, b⟩
        · exact ⟨p, by omega, h, z.symm⟩
        · exact ⟨q, by omega, b⟩
      · intro ⟨q, a, b, c⟩
        by_cases hq : q = p
        · subst hq; exact Or.inl c.symm
        · exact Or.inr ⟨q, by omega, b, c⟩
theorem pxL_cnt {f : fT} {c : Int32} (hc : c ≠ -1) (p : Nat) : (pxL f p).count c.toInt64 = cnC f c p := by
  induction p with
  | zero => rfl
  | succ p ih =>
    rw [pxL_s, cnC_s]
    by_cases h : f (2 + p) = -1
    · rw [if_pos h, ih, if_neg (show ¬ f (2 + p) = c from fun q => hc (q.symm.trans h))]; rfl
    · rw [if_neg h, List.count_cons, ih]
      by_cases q : f (2 + p) = c
      · rw [q, if_pos rfl]; simp
      · rw [if_neg q]
        have : ¬ (f (2 + p)).toInt64 = c.toInt64 := fun z => q (i64_inj z)
        simp [this]
theorem sgL_len (K : jT) (a n : Nat) : (sgL K a n).length = n := by
  induction n with
  | zero => rfl
  | succ n ih => rw [sgL_s, List.length_cons, ih]
theorem sgL_mem {K : jT} {a n : Nat} {x : Int64} : x ∈ sgL K a n ↔ ∃ j, j < n ∧ K (a + j) = x := by
  induction n with
  | zero =>
    constructor
    · intro q; exact absurd q List.not_mem_nil
    · intro ⟨q, hq, _⟩; omega
  | succ n ih =>
    rw [sgL_s, List.mem_cons, ih]
    constructor
    · intro z
      rcases z with z | ⟨q, a1, b⟩
      · exact ⟨n, by omega, z.symm⟩
      · exact ⟨q, by omega, b⟩
    · intro ⟨q, a1, b⟩
      by_cases hq : q = n
      · subst hq; exact Or.inl b.symm
      · exact Or.inr ⟨q, by omega, b⟩
/-- the histogram of the first i keys -/
def HC (K : jT) (i n : Nat) (h m : fT) : Prop := n ≤ i ∧ (∀ a b, a < b → b < n → h a < h b) ∧ (∀ a, a < n → (∃ j, j < i ∧ K j = (h a).toInt64) ∧ m a = nI ((sgL K 0 i).count (h a).toInt64)) ∧ (∀ j, j < i → ∃ a, a < n ∧ K j = (h a).toInt64) ∧ (0 < i → 0 < n ∧ K (i - 1) = (h (n - 1)).toInt64)
theorem HC_0 (K : jT) (h m : fT) : HC K 0 0 h m := ⟨Nat.le_refl 0, fun a b _ hb => absurd hb (Nat.not_lt_zero b), fun a ha => absurd ha (Nat.not_lt_zero a), fun j hj => absurd hj (Nat.not_lt_zero j), fun q => absurd q (Nat.lt_irrefl 0)⟩
theorem HC_cnt {K : jT} {i : Nat} (x : Int64) : (sgL K 0 (i + 1)).count x = (sgL K 0 i).count x + (if K i = x then 1 else 0) := by
  rw [sgL_s, List.count_cons, Nat.zero_add]
  by_cases h : K i = x
  · rw [if_pos h]; simp [h]
  · rw [if_neg h]; simp [h]
theorem HC_same {K : jT} {i n : Nat} {h m : fT} (g : HC K i n h m) (hn : 0 < n) {c : Int32} (hc : K i = c.toInt64) (e : h (n - 1) = c) (v : Nat) (hv : m (n - 1) = nI v) (hv2 : v = (sgL K 0 i).count c.toInt64) : HC K (i + 1) n h (upd m (n - 1) (nI (v + 1))) := by
  obtain ⟨g1, g2, g3, g4, g5⟩ := g
  refine ⟨by omega, g2, fun a ha => ?_, fun j hj => ?_, fun _ => ⟨hn, by rw [Nat.add_sub_cancel, hc, e]⟩⟩
  · obtain ⟨⟨j, j1, j2⟩, j3⟩ := g3 a ha
    refine ⟨⟨j, by omega, j2⟩, ?_⟩
    rw [HC_cnt]
    by_cases q : a = n - 1
    · subst q; rw [upd_self, e, if_pos hc, hv2]
    · rw [upd_ne _ _ q, if_neg, j3]
      · rfl
      · intro z
        have := g2 a (n - 1) (by omega) (by omega)
        rw [e, ← i64_inj (hc.symm.trans z)] at this
        exact Int32.lt_irrefl this
  · by_cases q : j = i
    · subst q; exact ⟨n - 1, by omega, by rw [hc, e]⟩
    · exact g4 j (by omega)
theorem HC_new {K : jT} {i n : Nat} {h m : fT} (g : HC K i n h m) (hs : ∀ j, j < i → K j ≤ K i) {c : Int32} (hc : K i = c.toInt64) (e : 0 < n → h (n - 1) ≠ c) : HC K (i + 1) (n + 1) (upd h n c) (upd m n (nI 1)) := by
  obtain ⟨g1, g2, g3, g4, g5⟩ := g
  have lt : ∀ a, a < n → h a < c := by
    intro a ha
    have hi : 0 < i := by omega
    obtain ⟨-, k1⟩ := g5 hi
    have k2 := hs (i - 1) (by omega)
    rw [k1, hc, i64_le] at k2
    have k3 : h (n - 1) < c := by
      rcases Int32.lt_or_le (h (n - 1)) c with q | q
      · exact q
      · exact absurd (Int32.le_antisymm k2 q) (e (by omega))
    by_cases q : a = n - 1
    · rw [q]; exact k3
    · exact Int32.lt_trans (g2 a (n - 1) (by omega) (by omega)) k3
  have no : ∀ j, j < i → K j ≠ c.toInt64 := by
    intro j hj z
    obtain ⟨a, a1, a2⟩ := g4 j hj
    have := lt a a1
    rw [i64_inj (a2.symm.trans z)] at this
    exact Int32.lt_irrefl this
  have z0 : (sgL K 0 i).count c.toInt64 = 0 := by
    rw [List.count_eq_zero]
    intro q
    obtain ⟨j, j1, j2⟩ := sgL_mem.mp q
    rw [Nat.zero_add] at j2
    exact no j j1 j2
  refine ⟨by omega, fun a b hab hb => ?_, fun a ha => ?_, fun j hj => ?_, fun _ => ⟨by omega, by rw [Nat.add_sub_cancel, Nat.add_sub_cancel, upd_self, hc]⟩⟩
  · by_cases q : b = n
    · subst q; rw [upd_self, upd_ne _ _ (by omega)]; exact lt a hab
    · rw [upd_ne _ _ q, upd_ne _ _ (by omega)]; exact g2 a b hab (by omega)
  · rw [HC_cnt]
    by_cases q : a = n
    · subst q
      rw [upd_self, upd_self, z0, if_pos hc]
      exact ⟨⟨i, by omega, hc⟩, rfl⟩
    · rw [upd_ne _ _ q, upd_ne _ _ q]
      obtain ⟨⟨j, j1, j2⟩, j3⟩ := g3 a (by omega)
      refine ⟨⟨j, by omega, j2⟩, ?_⟩
      rw [if_neg, j3]
      · rfl
      · intro z
        have := lt a (by omega)
        rw [i64_inj (hc.symm.trans z)] at this
        exact Int32.lt_irrefl this
  · by_cases q : j = i
    · subst q; exact ⟨n, by omega, by rw [upd_self, hc]⟩
    · obtain ⟨a, a1, a2⟩ := g4 j (by omega)
      exact ⟨a, by omega, by rw [upd_ne _ _ (by omega)]; exact a2⟩
/-- the class's histogram: as the reference's, and ascending -/
def HG (f : fT) (n : Nat) (h m : fT) : Prop := GA f (exF f (nI 0)) (fA f) n h m ∧ ∀ a b, a < b → b < n → h a < h b
theorem ex0 (f : fT) (c : Int32) : exF f (nI 0) c = false := by unfold exF; rw [show (nI 0 : Int32) = 0 from rfl]; simp
theorem HC_end {f : fT} (hf : wf f) {K : jT} {h m : fT} {n : Nat} (hp : List.Perm (sgL K 0 (opq f (fA f))) (pxL f (fA f))) (g : HC K (opq f (fA f)) n h m) : HG f n h m := by
  obtain ⟨g1, g2, g3, g4, g5⟩ := g
  have hO := opq_le f (fA f)
  refine ⟨⟨by omega, fun a ha => ?_, fun a b ha hb e => ?_, fun q hq h1 _ => ?_⟩, g2⟩
  · obtain ⟨⟨j, j1, j2⟩, j3⟩ := g3 a ha
    obtain ⟨q, q1, q2, q3⟩ := pxL_mem.mp (hp.mem_iff.mp (sgL_mem.mpr ⟨j, j1, rfl⟩))
    rw [Nat.zero_add, j2] at q3
    have e := i64_inj q3
    have hne : h a ≠ -1 := by rw [← e]; exact q2
    refine ⟨⟨q, q1, e⟩, hne, ex0 f _, ?_⟩
    rw [j3, hp.count_eq, pxL_cnt hne]
  · rcases Nat.lt_trichotomy a b with q | q | q
    · have := g2 a b q hb; rw [e] at this; exact absurd this Int32.lt_irrefl
    · exact q
    · have := g2 b a q ha; rw [e] at this; exact absurd this Int32.lt_irrefl
  · obtain ⟨j, j1, j2⟩ := sgL_mem.mp (hp.mem_iff.mpr (pxL_mem.mpr ⟨q, hq, h1, rfl⟩))
    rw [Nat.zero_add] at j2
    obtain ⟨a, a1, a2⟩ := g4 j j1
    exact ⟨a, a1, i64_inj (a2.symm.trans j2)⟩
def hgM (M : am_M) (K : jT) (g0 h m : fT) : am_M := (am_u (am_u (am_u M.1 12 g0) 14 h) 15 m, am_u M.2 13 K)
theorem hgM_12 (M : am_M) (K : jT) (g0 h m : fT) : (hgM M K g0 h m).1 12 = g0 := by simp [hgM, am_u]
theorem hgM_14 (M : am_M) (K : jT) (g0 h m : fT) : (hgM M K g0 h m).1 14 = h := by simp [hgM, am_u]
theorem hgM_15 (M : am_M) (K : jT) (g0 h m : fT) : (hgM M K g0 h m).1 15 = m := by simp [hgM, am_u]
theorem hgM_13 (M : am_M) (K : jT) (g0 h m : fT) : (hgM M K g0 h m).2 13 = K := by simp [hgM, am_u]
theorem hgM_ne (M : am_M) (K : jT) (g0 h m : fT) {k : Nat} (hk : k ≠ 12 ∧ k ≠ 14 ∧ k ≠ 15) : (hgM M K g0 h m).1 k = M.1 k := by simp [hgM, am_u, hk.1, hk.2.1, hk.2.2]
theorem hgM_ne2 (M : am_M) (K : jT) (g0 h m : fT) {k : Nat} (hk : k ≠ 13) : (hgM M K g0 h m).2 k = M.2 k := by simp [hgM, am_u, hk]
theorem hgM_x {M X : am_M} {K : jT} {g0 h m : fT} (a : ∀ k, (k ≠ 12 ∧ k ≠ 14 ∧ k ≠ 15) → X.1 k = M.1 k) (b : ∀ k, k ≠ 13 → X.2 k = M.2 k) (e0 : X.1 12 = g0) (e1 : X.1 14 = h) (e2 : X.1 15 = m) (e3 : X.2 13 = K) : X = hgM M K g0 h m := by
  refine Prod.ext (funext fun q => ?_) (funext fun q => ?_)
  · by_cases h0 : q = 12
    · subst h0; rw [hgM_12]; exact e0
    · by_cases h1 : q = 14
      · subst h1; rw [hgM_14]; exact e1
      · by_cases h2 : q = 15
        · subst h2; rw [hgM_15]; exact e2
        · rw [hgM_ne _ _ _ _ _ ⟨h0, h1, h2⟩]; exact a q ⟨h0, h1, h2⟩
  · by_cases h0 : q = 13
    · subst h0; rw [hgM_13]; exact e3
    · rw [hgM_ne2 _ _ _ _ _ h0]; exact b q h0
theorem hgM_eta (M : am_M) : hgM M (M.2 13) (M.1 12) (M.1 14) (M.1 15) = M := (hgM_x (fun _ _ => rfl) (fun _ _ => rfl) rfl rfl rfl rfl).symm
theorem hgM_u12 (M : am_M) (K : jT) (g0 h m g : fT) : ((am_u (hgM M K g0 h m).1 12 g, (hgM M K g0 h m).2) : am_M) = hgM M K g h m := by
  refine hgM_x (fun k hk => ?_) (fun k hk => hgM_ne2 M K g0 h m hk) ?_ ?_ ?_ (hgM_13 M K g0 h m)
  · rw [au0 _ _ _ (by omega), hgM_ne _ _ _ _ _ hk]
  · exact au1 _ _ _ _
  · rw [au0 _ _ _ (by decide), hgM_14]
  · rw [au0 _ _ _ (by decide), hgM_15]
theorem hgM_u14 (M : am_M) (K : jT) (g0 h m g : fT) : ((am_u (hgM M K g0 h m).1 14 g, (hgM M K g0 h m).2) : am_M) = hgM M K g0 g m := by
  refine hgM_x (fun k hk => ?_) (fun k hk => hgM_ne2 M K g0 h m hk) ?_ ?_ ?_ (hgM_13 M K g0 h m)
  · rw [au0 _ _ _ (by omega), hgM_ne _ _ _ _ _ hk]
  · rw [au0 _ _ _ (by decide), hgM_12]
  · exact au1 _ _ _ _
  · rw [au0 _ _ _ (by decide), hgM_15]
theorem hgM_u15 (M : am_M) (K : jT) (g0 h m g : fT) : ((am_u (hgM M K g0 h m).1 15 g, (hgM M K g0 h m).2) : am_M) = hgM M K g0 h g := by
  refine hgM_x (fun k hk => ?_) (fun k hk => hgM_ne2 M K g0 h m hk) ?_ ?_ ?_ (hgM_13 M K g0 h m)
  · rw [au0 _ _ _ (by omega), hgM_ne _ _ _ _ _ hk]
  · rw [au0 _ _ _ (by decide), hgM_12]
  · rw [au0 _ _ _ (by decide), hgM_14]
  · exact au1 _ _ _ _
theorem hgM_u13 (M : am_M) (K K' : jT) (g0 h m : fT) : (((hgM M K g0 h m).1, am_u (hgM M K g0 h m).2 13 K') : am_M) = hgM M K' g0 h m := by
  refine hgM_x (fun k hk => hgM_ne M K g0 h m hk) (fun k hk => ?_) (hgM_12 M K g0 h m) (hgM_14 M K g0 h m) (hgM_15 M K g0 h m) ?_
  · show am_u (hgM M K g0 h m).2 13 K' k = _
    rw [am_u_ne _ _ hk, hgM_ne2 _ _ _ _ _ hk]
  · exact am_u_self (hgM M K g0 h m).2 13 K'
theorem hgM_ky (M : am_M) (K K' : jT) (g0 h m : fT) : kyM (hgM M K g0 h m) 13 K' = hgM M K' g0 h m := hgM_u13 M K K' g0 h m
theorem AG_hg {M : am_M} {f : fT} (h : AG M f) (K : jT) (g0 hh m : fT) : AG (hgM M K g0 hh m) f := AG_ne h (fun k h1 h2 => hgM_ne _ _ _ _ _ (by omega))
theorem FR_hg (M : am_M) (K : jT) (g0 hh m : fT) : FR M (hgM M K g0 hh m) := fun k hk => hgM_ne _ _ _ _ _ (by omega)
