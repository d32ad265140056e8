/-! the class: median cut -/
def cel (cn : Int32 → Nat) (c : Int32) : Int64 := nL (512 * c.toNatClampNeg + cn c)
def okL (cn : Int32 → Nat) (L : List Int32) : Prop := ∀ c, c ∈ L → okc c ∧ cn c ≤ 256
def BOX (M : am_M) (cn : Int32 → Nat) (b s : Nat) (L : List Int32) : Prop := M.1 23 b = nI s ∧ M.1 24 b = nI (s + L.length) ∧ s + L.length ≤ 256 ∧ (∀ j (hj : j < L.length), M.2 22 (s + j) = cel cn L[j]) ∧ okL cn L
theorem okc_n {c : Int32} (h : okc c) : c.toNatClampNeg < 16777216 ∧ nI c.toNatClampNeg = c := by
  obtain ⟨n, h1, rfl⟩ := h
  rw [nI_clamp (by omega)]
  exact ⟨h1, rfl⟩
theorem minI {a b : Nat} (ha : a < 2 ^ 31) (hb : b < 2 ^ 31) : (if nI a < nI b then nI a else nI b) = nI (if a < b then a else b) := by
  by_cases h : a < b
  · rw [if_pos h, if_pos ((nI_ltI ha hb).mpr h)]
  · rw [if_neg h, if_neg (fun q => h ((nI_ltI ha hb).mp q))]
theorem maxI {a b : Nat} (ha : a < 2 ^ 31) (hb : b < 2 ^ 31) : (if nI a < nI b then nI b else nI a) = nI (if a < b then b else a) := by
  by_cases h : a < b
  · rw [if_pos h, if_pos ((nI_ltI ha hb).mpr h)]
  · rw [if_neg h, if_neg (fun q => h ((nI_ltI ha hb).mp q))]
theorem take_s {L : List Int32} {j : Nat} (hj : j < L.length) : List.Perm (L.take (j + 1)) (L[j] :: L.take j) := by
  rw [← List.take_append_getElem hj]
  exact List.perm_append_singleton _ _
theorem lMx_t {k : Nat} {L : List Int32} {j : Nat} (hj : j < L.length) : lMx k (L.take (j + 1)) = if lMx k (L.take j) < chN L[j] k then chN L[j] k else lMx k (L.take j) := by rw [lMx_perm (take_s hj)]; rfl
theorem lMn_t {k : Nat} {L : List Int32} {j : Nat} (hj : j < L.length) : lMn k (L.take (j + 1)) = if chN L[j] k < lMn k (L.take j) then chN L[j] k else lMn k (L.take j) := by rw [lMn_perm (take_s hj)]; rfl
theorem lTk_all (g : Int32 → Nat) (L : List Int32) : lTk g L L.length = lS g L := by unfold lTk; rw [List.take_length]
theorem lTk_0 (g : Int32 → Nat) (L : List Int32) : lTk g L 0 = 0 := rfl
theorem lTk_le {g : Int32 → Nat} {L : List Int32} {b : Nat} (h : ∀ c, c ∈ L → g c ≤ b) (j : Nat) : lTk g L j ≤ L.length * b := by
  unfold lTk
  refine Nat.le_trans (lS_le (b := b) (fun c hc => h c (List.mem_of_mem_take hc))) (Nat.mul_le_mul_right _ ?_)
  rw [List.length_take]; omega
/-- keys of an ordered box -/
def bky (cn : Int32 → Nat) (k : Nat) (c : Int32) : Int64 := nL (512 * c.toNatClampNeg + cn c + 8589934592 * chN c k)
theorem bky_cl {cn : Int32 → Nat} {k : Nat} {x y : Int32} (hx : okc x ∧ cn x ≤ 256) (hy : okc y ∧ cn y ≤ 256) (h : bky cn k x ≤ bky cn k y) (hne : x ≠ y) : cl k x y := by
  obtain ⟨x1, x2⟩ := okc_n hx.1
  obtain ⟨y1, y2⟩ := okc_n hy.1
  have a := (chN_lt x k).1
  have b := (chN_lt y k).1
  unfold bky at h
  have hx2 := hx.2
  have hy2 := hy.2
  rw [nL_leI (by omega) (by omega)] at h
  rcases Nat.lt_trichotomy (chN x k) (chN y k) with q | q | q
  · exact Or.inl q
  · refine Or.inr ⟨q, ?_⟩
    have hn : x.toNatClampNeg ≠ y.toNatClampNeg := fun z => hne (by rw [← x2, ← y2, z])
    rw [← x2, ← y2, nI_ltI (by omega) (by omega)]
    omega
  · omega
theorem bky_inj {cn : Int32 → Nat} {k : Nat} {x y : Int32} (hx : okc x ∧ cn x ≤ 256) (hy : okc y ∧ cn y ≤ 256) (h : bky cn k x = bky cn k y) : x = y := by
  apply Classical.byContradiction
  intro hne
  have a := bky_cl hx hy (by rw [h]; exact Int64.le_refl _) hne
  have b := bky_cl hy hx (by rw [h]; exact Int64.le_refl _) (Ne.symm hne)
  exact cl_irr k x (cl_trans a b)
def fwL (K : jT) (s n : Nat) : List Int64 := (List.range n).map (fun j => K (s + j))
theorem fwL_s (K : jT) (s n : Nat) : fwL K s (n + 1) = fwL K s n ++ [K (s + n)] := by unfold fwL; rw [List.range_succ, List.map_append]; rfl
theorem sgL_fw (K : jT) (s n : Nat) : List.Perm (sgL K s n) (fwL K s n) := by
  induction n with
  | zero => exact List.Perm.refl _
  | succ n ih => rw [sgL_s, fwL_s]; exact (List.Perm.cons _ ih).trans (List.perm_append_singleton _ _).symm
theorem fwL_list {K : jT} {s : Nat} {L : List Int32} {g : Int32 → Int64} (h : ∀ j (hj : j < L.length), K (s + j) = g L[j]) : fwL K s L.length = L.map g := by
  unfold fwL
  apply List.ext_getElem
  · rw [List.length_map, List.length_range, List.length_map]
  · intro i h1 h2
    rw [List.getElem_map, List.getElem_map, List.getElem_range]
    rw [List.length_map] at h2
    exact h i h2
/-- sorting a box orders its colors -/
theorem ord_ok {cn : Int32 → Nat} {k s : Nat} {L : List Int32} {K1 K2 : jT} (hn : L.Nodup) (hL : okL cn L) (h1 : ∀ j (hj : j < L.length), K1 (s + j) = bky cn k L[j]) (hp : PS K2 K1 s L.length) (hs : SO K2 s L.length) : ∀ j (hj : j < (lSo k L).length), K2 (s + j) = bky cn k (lSo k L)[j] := by
  have ex : ∀ j, ∃ c, j < L.length → c ∈ L ∧ K2 (s + j) = bky cn k c := by
    intro j
    by_cases hj : j < L.length
    · have m1 : K2 (s + j) ∈ sgL K1 s L.length := hp.1.mem_iff.mp (sgL_mem.mpr ⟨j, hj, rfl⟩)
      obtain ⟨i, i1, i2⟩ := sgL_mem.mp m1
      exact ⟨L[i], fun _ => ⟨List.getElem_mem i1, by rw [← i2]; exact h1 i i1⟩⟩
    · exact ⟨0, fun q => absurd q hj⟩
  obtain ⟨t, ht⟩ := Classical.axiomOfChoice ex
  have hlen : ((List.range L.length).map t).length = L.length := by rw [List.length_map, List.length_range]
  have hget : ∀ j (hj : j < ((List.range L.length).map t).length), ((List.range L.length).map t)[j] = t j := by
    intro j hj
    rw [List.getElem_map, List.getElem_range]
  have hK2 : ∀ j (hj : j < ((List.range L.length).map t).length), K2 (s + j) = bky cn k ((List.range L.length).map t)[j] := by
    intro j hj
    rw [hget j hj]
    exact (ht j (by omega)).2
  have e2 := fwL_list (g := bky cn k) hK2
  rw [hlen] at e2
  have e1 := fwL_list (g := bky cn k) h1
  have hpm : List.Perm (((List.range L.length).map t).map (bky cn k)) (L.map (bky cn k)) := by
    rw [← e2, ← e1]
    exact (sgL_fw K2 s L.length).symm.trans (hp.1.trans (sgL_fw K1 s L.length))
  have hmem : ∀ x, x ∈ (List.range L.length).map t → x ∈ L := by
    intro x hx
    obtain ⟨j, j1, rfl⟩ := List.mem_map.mp hx
    exact (ht j (List.mem_range.mp j1)).1
  have nd1 : (L.map (bky cn k)).Nodup := nd_map (fun x hx y hy e => bky_inj (hL x hx) (hL y hy) e) hn
  have nd2 : (((List.range L.length).map t).map (bky cn k)).Nodup := hpm.symm.nodup nd1
  have nd3 : ((List.range L.length).map t).Nodup := by
    refine List.Pairwise.imp ?_ (List.pairwise_map.mp nd2)
    intro a b q z
    exact q (by rw [z])
  have perm : List.Perm ((List.range L.length).map t) L := (List.perm_ext_iff_of_nodup nd3 hn).mpr (fun x => ⟨hmem x, fun hx => by
    obtain ⟨y, y1, y2⟩ := List.mem_map.mp (hpm.mem_iff.mpr (List.mem_map_of_mem (f := bky cn k) hx))
    rw [← bky_inj (hL y (hmem y y1)) (hL x hx) y2]
    exact y1⟩)
  have srt : sot k ((List.range L.length).map t) := by
    refine List.pairwise_iff_getElem.mpr (fun i j hi hj hij => ?_)
    have hne := List.pairwise_iff_getElem.mp nd3 i j hi hj hij
    refine bky_cl (hL _ (hmem _ (List.getElem_mem hi))) (hL _ (hmem _ (List.getElem_mem hj))) ?_ hne
    rw [← hK2 i hi, ← hK2 j hj]
    exact hs (s + i) (s + j) (by omega) (by omega) (by omega)
  have e := sot_eq srt (lSo_sot hn) (perm.trans (lSo_perm k L).symm)
  rw [← e]
  exact hK2
theorem okL_perm {cn : Int32 → Nat} {L L' : List Int32} (h : okL cn L) (hp : List.Perm L' L) : okL cn L' := fun c hc => h c (hp.mem_iff.mp hc)
/-- all boxes -/
def BXS (M : am_M) (cn : Int32 → Nat) (nb : Nat) (B : Nat → List Int32) : Prop := M.1 21 5 = nI nb ∧ nb ≤ 16 ∧ ∃ st : Nat → Nat, (∀ b, b < nb → BOX M cn b (st b) (B b)) ∧ ∀ b b', b < nb → b' < nb → b ≠ b' → st b + (B b).length ≤ st b' ∨ st b' + (B b').length ≤ st b
/-- a split -/
theorem BXS_st {M M' : am_M} {cn : Int32 → Nat} {nb b s j : Nat} {B : Nat → List Int32} {st : Nat → Nat} (hb : b < nb) (hnb : nb < 16) (h1 : ∀ q, q < nb → BOX M cn q (st q) (B q)) (h2 : ∀ q q', q < nb → q' < nb → q ≠ q' → st q + (B q).length ≤ st q' ∨ st q' + (B q').length ≤ st q) (hs : s = st b) (hj : j = lLw cn (lSo (lWd (B b)) (B b))) (hj2 : j < (B b).length) (m21 : M'.1 21 5 = nI (nb + 1)) (m23 : ∀ q, M'.1 23 q = if q = nb then nI (s + j) else M.1 23 q) (m24 : ∀ q, M'.1 24 q = if q = b then nI (s + j) else if q = nb then nI (s + (B b).length) else M.1 24 q) (k1 : ∀ q, (q < s ∨ s + (B b).length ≤ q) → M'.2 22 q = M.2 22 q) (k2 : ∀ i (hi : i < (lSo (lWd (B b)) (B b)).length), M'.2 22 (s + i) = cel cn (lSo (lWd (B b)) (B b))[i]) : BXS M' cn (nb + 1) (lSt cn B nb b) := by
  have hp := lSo_perm (lWd (B b)) (B b)
  have hlen := hp.length_eq
  obtain ⟨c1, c2, c3, c4, c5⟩ := h1 b hb
  rw [← hs] at c1 c2 c3
  have okS := okL_perm c5 hp
  have Lnb : lSt cn B nb b nb = (lSo (lWd (B b)) (B b)).drop j := by unfold lSt; rw [if_pos rfl, hj]
  have Lb : lSt cn B nb b b = (lSo (lWd (B b)) (B b)).take j := by unfold lSt; rw [if_neg (by omega), if_pos rfl, hj]
  have Lq : ∀ q, q ≠ nb → q ≠ b → lSt cn B nb b q = B q := fun q a c => by unfold lSt; rw [if_neg a, if_neg c]
  have lnb : (lSt cn B nb b nb).length = (B b).length - j := by rw [Lnb, List.length_drop, hlen]
  have lb : (lSt cn B nb b b).length = j := by rw [Lb, List.length_take, hlen]; omega
  refine ⟨m21, by omega, fun q => if q = nb then s + j else st q, fun q hq => ?_, fun q q' hq hq' hne => ?_⟩
  · dsimp only
    by_cases e1 : q = nb
    · subst e1
      rw [if_pos rfl]
      refine ⟨by rw [m23, if_pos rfl], ?_, ?_, fun i hi => ?_, ?_⟩
      · rw [m24, if_neg (by omega), if_pos rfl, lnb]; exact congrArg nI (by omega)
      · rw [lnb]; omega
      · rw [lnb] at hi
        have := k2 (j + i) (by omega)
        rw [← Nat.add_assoc] at this
        rw [this]
        congr 1
        simp only [Lnb, List.getElem_drop]
      · rw [Lnb]; exact fun c hc => okS c (List.mem_of_mem_drop hc)
    · rw [if_neg e1]
      by_cases e2 : q = b
      · subst e2
        rw [← hs]
        refine ⟨by rw [m23, if_neg e1]; exact c1, ?_, ?_, fun i hi => ?_, ?_⟩
        · rw [m24, if_pos rfl, lb]
        · rw [lb]; omega
        · rw [lb] at hi
          rw [k2 i (by omega)]
          congr 1
          simp only [Lb, List.getElem_take]
        · rw [Lb]; exact fun c hc => okS c (List.mem_of_mem_take hc)
      · rw [Lq q e1 e2]
        obtain ⟨d1, d2, d3, d4, d5⟩ := h1 q (by omega)
        have dis := h2 b q hb (by omega) (Ne.symm e2)
        refine ⟨by rw [m23, if_neg e1]; exact d1, by rw [m24, if_neg e2, if_neg e1]; exact d2, d3, fun i hi => ?_, d5⟩
        rw [k1 _ (by omega)]
        exact d4 i hi
  · dsimp only
    by_cases e1 : q = nb
    · subst e1
      rw [if_pos rfl, if_neg (fun z => hne z.symm), lnb]
      by_cases e2 : q' = b
      · subst e2; rw [lb]; omega
      · rw [Lq q' (fun z => hne z.symm) e2]
        have dis := h2 b q' hb (by omega) (Ne.symm e2)
        omega
    · rw [if_neg e1]
      by_cases f1 : q' = nb
      · subst f1
        rw [if_pos rfl, lnb]
        by_cases e2 : q = b
        · subst e2; rw [lb]; omega
        · rw [Lq q e1 e2]
          have dis := h2 b q hb (by omega) (Ne.symm e2)
          omega
      · rw [if_neg f1]
        have dis := h2 q q' (by omega) (by omega) hne
        by_cases e2 : q = b
        · subst e2
          rw [lb, Lq q' f1 (Ne.symm hne)]
          omega
        · rw [Lq q e1 e2]
          by_cases f2 : q' = b
          · subst f2; rw [lb]; omega
          · rw [Lq q' f1 f2]; exact dis
/-- the colors that aren't locked -/
def ucL (f h : fT) : Nat → List Int32
  | 0 => []
  | k + 1 => if lkc f (h k) (fN f) = true then ucL f h k else ucL f h k ++ [h k]
theorem ucL_s (f h : fT) (k : Nat) : ucL f h (k + 1) = if lkc f (h k) (fN f) = true then ucL f h k else ucL f h k ++ [h k] := rfl
theorem ucL_mem {f h : fT} {k : Nat} {c : Int32} : c ∈ ucL f h k ↔ ∃ i, i < k ∧ h i = c ∧ ¬ lkc f c (fN f) = true := by
  induction k with
  | zero =>
    constructor
    · intro q; exact absurd q List.not_mem_nil
    · intro ⟨i, hi, _⟩; omega
  | succ k ih =>
    rw [ucL_s]
    by_cases hl : lkc f (h k) (fN f) = true
    · rw [if_pos hl, ih]
      constructor
      · intro ⟨i, a, b⟩; exact ⟨i, by omega, b⟩
      · intro ⟨i, a, b, d⟩
        by_cases q : i = k
        · subst q; rw [b] at hl; exact absurd hl d
        · exact ⟨i, by omega, b, d⟩
    · rw [if_neg hl, List.mem_append, ih, List.mem_singleton]
      constructor
      · intro z
        rcases z with ⟨i, a, b⟩ | z
        · exact ⟨i, by omega, b⟩
        · exact ⟨k, by omega, z.symm, by rw [z]; exact hl⟩
      · intro ⟨i, a, b, d⟩
        by_cases q : i = k
        · subst q; exact Or.inr b.symm
        · exact Or.inl ⟨i, by omega, b, d⟩
theorem ucL_len (f h : fT) (k : Nat) : (ucL f h k).length ≤ k := by
  induction k with
  | zero => exact Nat.le_refl 0
  | succ k ih =>
    rw [ucL_s]
    split
    · omega
    · rw [List.length_append, List.length_singleton]; omega
theorem ucL_nd {f h : fT} {k : Nat} (hd : ∀ a b, a < b → b < k → h a < h b) : (ucL f h k).Nodup := by
  induction k with
  | zero => exact List.Pairwise.nil
  | succ k ih =>
    have i1 := ih (fun a b x y => hd a b x (by omega))
    rw [ucL_s]
    split
    · exact i1
    · have hp : List.Perm (ucL f h k ++ [h k]) (h k :: ucL f h k) := List.perm_append_singleton _ _
      refine hp.symm.nodup (List.nodup_cons.mpr ⟨fun q => ?_, i1⟩)
      obtain ⟨i, a, b, -⟩ := ucL_mem.mp q
      have := hd i k a (by omega)
      rw [b] at this
      exact Int32.lt_irrefl this
theorem uc_perm {f : fT} {n : Nat} {h m : fT} (hg : HG f n h m) : List.Perm (ucL f h n) (colL f (exF f (nI 1)) (fA f)) := by
  obtain ⟨⟨g1, g2, g3, g4⟩, ha⟩ := hg
  have ex1 : ∀ c, exF f (nI 1) c = lkc f c (fN f) := fun c => by
    unfold exF
    rw [decide_eq_true (show (nI 1 : Int32) ≠ 0 by decide), Bool.true_and]
  refine (List.perm_ext_iff_of_nodup (ucL_nd ha) (colL_nodup _ _ _)).mpr (fun c => ?_)
  rw [ucL_mem, colL_mem, ex1]
  constructor
  · intro ⟨i, a, b, d⟩
    obtain ⟨⟨q, q1, q2⟩, a3, -, -⟩ := g2 i a
    rw [b] at a3 q2
    exact ⟨a3, by simpa using d, q, q1, q2⟩
  · intro ⟨a, b, q, q1, q2⟩
    obtain ⟨i, i1, i2⟩ := g4 q q1 (by rw [q2]; exact a) (ex0 f _)
    exact ⟨i, i1, i2.trans q2, by rw [b]; decide⟩
theorem uc_BI {f : fT} (hf : wf f) {n : Nat} {h m : fT} (hg : HG f n h m) : (ucL f h n).Nodup ∧ (ucL f h n).length ≤ 256 ∧ ∀ c, c ∈ ucL f h n → okc c ∧ 1 ≤ cnA f c ∧ cnA f c ≤ 256 := by
  have hA := fA_le hf.1
  have hle := hg.1.1
  refine ⟨ucL_nd hg.2, by have := ucL_len f h n; omega, fun c hc => ?_⟩
  obtain ⟨i, a, b, -⟩ := ucL_mem.mp hc
  obtain ⟨c', u, c1, c2, u1, u2, u5, -, -⟩ := GA_c hf hg.1 a
  rw [b] at c2 u5
  exact ⟨⟨c', c1, c2⟩, by show 1 ≤ cnC f c (fA f); omega, by show cnC f c (fA f) ≤ 256; omega⟩
theorem lS_gS {cn : Int32 → Nat} (k : Nat) (L : List Int32) : lS (gS cn k) L ≤ 255 * lS cn L := by
  induction L with
  | nil => exact Nat.zero_le _
  | cons c L ih =>
    show lS (gS cn k) L + gS cn k c ≤ 255 * (lS cn L + cn c)
    have : gS cn k c ≤ cn c * 255 := Nat.mul_le_mul_left _ (by have := (chN_lt c k).1; omega)
    omega
theorem lMe_c {cn : Int32 → Nat} {L : List Int32} (h : 0 < lS cn L) : 65536 * nI ((2 * lS (gS cn 0) L + lS cn L) / (2 * lS cn L)) + nI 256 * nI ((2 * lS (gS cn 1) L + lS cn L) / (2 * lS cn L)) + nI ((2 * lS (gS cn 2) L + lS cn L) / (2 * lS cn L)) = lMe cn L 3 ∧ okc (lMe cn L 3) := col3 (mean_le (lS_gS 0 L) h) (mean_le (lS_gS 1 L) h) (mean_le (lS_gS 2 L) h)
theorem adA_cg {g c c' : fT} {k : Nat} (h : ∀ b, b < k → c b = c' b) : adA g c k = adA g c' k := by
  induction k with
  | zero => rfl
  | succ k ih => rw [adA_s, adA_s, ih (fun b hb => h b (by omega)), h k (by omega)]
theorem adF_292 {f : fT} {x y : Int32} (hn : fN f < 16) : adF f x y 292 = f 292 := by unfold adF; rw [upd_ne _ _ (by omega), upd_ne _ _ (by omega), upd_ne _ _ (by omega)]
theorem apM_ne (M : am_M) (s : Nat) (c l : Int32) {k : Nat} (h : k = 0 ∨ 6 ≤ k) : (apM M s c l).1 k = M.1 k := nwM_ne _ _ _ _ _ _ h
theorem BOX_ne {M M' : am_M} {cn : Int32 → Nat} {b s : Nat} {L : List Int32} (h : BOX M cn b s L) (h1 : M'.1 23 = M.1 23) (h2 : M'.1 24 = M.1 24) (h3 : M'.2 22 = M.2 22) : BOX M' cn b s L := by
  obtain ⟨a, b', c, d, e⟩ := h
  exact ⟨by rw [h1]; exact a, by rw [h2]; exact b', c, by rw [h3]; exact d, e⟩
theorem BXS_ne {M M' : am_M} {cn : Int32 → Nat} {nb : Nat} {B : Nat → List Int32} (h : BXS M cn nb B) (h0 : M'.1 21 = M.1 21) (h1 : M'.1 23 = M.1 23) (h2 : M'.1 24 = M.1 24) (h3 : M'.2 22 = M.2 22) : BXS M' cn nb B := by
  obtain ⟨a, b, st, c, d⟩ := h
  exact ⟨by rw [h0]; exact a, b, st, fun q hq => BOX_ne (c q hq) h1 h2 h3, d⟩
