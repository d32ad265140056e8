/-! the class: sorting entries -/
def AN (f pl : fT) (og : Nat → Nat) (nn : fT) (e : Nat) : Prop := (∀ x, x < fN f → f (275 + x) = 1 → nn x = nI x ∧ og x = x) ∧ (∀ x, x < fN f → f (275 + x) ≠ 1 → pl x = 0 → nn x = -1) ∧ (∀ x, x < fN f → f (275 + x) ≠ 1 → pl x ≠ 0 → ∃ j, j < e ∧ f (275 + j) ≠ 1 ∧ nn x = nI j ∧ og j = x) ∧ ∀ j, j < e → f (275 + j) ≠ 1 → og j < fN f ∧ f (275 + og j) ≠ 1 ∧ nn (og j) = nI j
theorem AN_0 {f pl0 nn : fT} (hn : fN f ≤ 16) (h : ∀ x, x < fN f → nn x = if f (275 + x) = 1 then nI x else -1) : AN f (stF pl0 0 16 (fun _ => 0)) (fun e => e) nn 0 := by
  refine ⟨fun x hx hl => ⟨by rw [h x hx, if_pos hl], rfl⟩, fun x hx hl _ => by rw [h x hx, if_neg hl], fun x hx hl hp => ?_, fun j hj => absurd hj (Nat.not_lt_zero j)⟩
  have := st_in pl0 (a := 0) (k := 16) (p := x) (fun _ => 0) (by omega)
  rw [Nat.zero_add] at this
  exact absurd this hp
theorem AN_l {f pl nn : fT} {og : Nat → Nat} {e : Nat} (h : AN f pl og nn e) (hl : f (275 + e) = 1) : AN f pl og nn (e + 1) := by
  obtain ⟨h1, h2, h3, h4⟩ := h
  refine ⟨h1, h2, fun x hx a b => ?_, fun j hj a => ?_⟩
  · obtain ⟨j, j1, j2⟩ := h3 x hx a b
    exact ⟨j, by omega, j2⟩
  · by_cases hje : j = e
    · subst hje; exact absurd hl a
    · exact h4 j (by omega) a
theorem AN_s {f pl nn : fT} {og : Nat → Nat} {e b : Nat} (hn : fN f ≤ 16) (he : e < fN f) (h : AN f pl og nn e) (hl : f (275 + e) ≠ 1) (hb : b < fN f) (hbl : f (275 + b) ≠ 1) (hbp : pl b = 0) : AN f (upd pl b 1) (fun j => if j = e then b else og j) (upd nn b (nI e)) (e + 1) := by
  obtain ⟨h1, h2, h3, h4⟩ := h
  have hnb := h2 b hb hbl hbp
  refine ⟨fun x hx a => ?_, fun x hx a p => ?_, fun x hx a p => ?_, fun j hj a => ?_⟩
  · have hxb : x ≠ b := fun q => hbl (q ▸ a)
    have hxe : x ≠ e := fun q => hl (q ▸ a)
    rw [upd_ne _ _ hxb]
    dsimp only
    rw [if_neg hxe]
    exact h1 x hx a
  · have hxb : x ≠ b := fun q => by subst q; rw [upd_self] at p; exact absurd p (by decide)
    rw [upd_ne _ _ hxb] at p ⊢
    exact h2 x hx a p
  · by_cases hxb : x = b
    · subst hxb
      exact ⟨e, by omega, hl, upd_self _ _ _, if_pos rfl⟩
    · rw [upd_ne _ _ hxb] at p ⊢
      obtain ⟨j, j1, j2, j3, j4⟩ := h3 x hx a p
      exact ⟨j, by omega, j2, j3, by show (if j = e then b else og j) = x; rw [if_neg (by omega)]; exact j4⟩
  · dsimp only
    by_cases hje : j = e
    · subst hje
      rw [if_pos rfl, upd_self]
      exact ⟨hb, hbl, rfl⟩
    · rw [if_neg hje]
      obtain ⟨j1, j2, j3⟩ := h4 j (by omega) a
      have hne : og j ≠ b := by
        intro q
        rw [q, hnb] at j3
        exact nI_ne1 (k := j) (by omega) j3.symm
      rw [upd_ne _ _ hne]
      exact ⟨j1, j2, j3⟩
theorem upl_le (f pl : fT) (k : Nat) : upl f pl k ≤ ulk f k := by
  induction k with
  | zero => exact Nat.le_refl _
  | succ k ih =>
    rw [upl_s, ulk_s]
    by_cases hl : f (275 + k) = 1
    · rw [if_pos (Or.inl hl), if_pos hl]; omega
    · rw [if_neg hl]; split <;> omega
theorem upl_all {f pl : fT} {k : Nat} (h : upl f pl k = ulk f k) : ∀ x, x < k → f (275 + x) ≠ 1 → pl x ≠ 0 := by
  induction k with
  | zero => intro x hx; omega
  | succ k ih =>
    have hle := upl_le f pl k
    rw [upl_s, ulk_s] at h
    intro x hx hl hp
    by_cases hxk : x = k
    · subst hxk
      rw [if_pos (Or.inr hp), if_neg hl] at h
      omega
    · refine ih ?_ x (by omega) hl hp
      by_cases hk : f (275 + k) = 1
      · rw [if_pos (Or.inl hk), if_pos hk] at h; omega
      · rw [if_neg hk] at h
        split at h <;> omega
/-- the new numbers and the origins are inverse -/
def IVs (f : fT) (og : Nat → Nat) (nn : fT) : Prop := (∀ x, x < fN f → ∃ j, j < fN f ∧ nn x = nI j ∧ og j = x) ∧ ∀ j, j < fN f → og j < fN f ∧ nn (og j) = nI j ∧ (og j ≠ j → f (275 + j) ≠ 1 ∧ f (275 + og j) ≠ 1)
theorem AN_end {f pl nn : fT} {og : Nat → Nat} (h : AN f pl og nn (fN f)) (hp : ∀ x, x < fN f → f (275 + x) ≠ 1 → pl x ≠ 0) : IVs f og nn := by
  obtain ⟨h1, h2, h3, h4⟩ := h
  refine ⟨fun x hx => ?_, fun j hj => ?_⟩
  · by_cases hl : f (275 + x) = 1
    · exact ⟨x, hx, h1 x hx hl⟩
    · obtain ⟨j, j1, -, j3, j4⟩ := h3 x hx hl (hp x hx hl)
      exact ⟨j, j1, j3, j4⟩
  · by_cases hl : f (275 + j) = 1
    · obtain ⟨a, b⟩ := h1 j hj hl
      rw [b]
      exact ⟨hj, a, fun q => absurd rfl q⟩
    · obtain ⟨a, b, c⟩ := h4 j hj hl
      exact ⟨a, c, fun _ => ⟨hl, b⟩⟩
theorem IVs_inj {f nn : fT} {og : Nat → Nat} (hn : fN f ≤ 16) (h : IVs f og nn) {i j : Nat} (hi : i < fN f) (hj : j < fN f) (e : og i = og j) : i = j := by
  have a := (h.2 i hi).2.1
  have b := (h.2 j hj).2.1
  rw [e, b] at a
  exact ((nI_eq (by omega) (by omega)).mp a).symm
theorem newI_inv {f nn : fT} {og : Nat → Nat} (hn : fN f ≤ 16) (h : IVs f og nn) {j : Nat} (hj : j < fN f) : newI og (nI (og j)) (fN f) = nI j := by
  have key : ∀ k, k ≤ fN f → newI og (nI (og j)) k = if j < k then nI j else nI (og j) := by
    intro k
    induction k with
    | zero => intro _; rw [if_neg (by omega)]; rfl
    | succ k ih =>
      intro hk
      rw [newI_s, ih (by omega)]
      have h1 := (h.2 k (by omega)).1
      have h2 := (h.2 j hj).1
      by_cases hjk : j = k
      · subst hjk; rw [if_pos rfl, if_pos (by omega)]
      · rw [if_neg (fun q => hjk (IVs_inj hn h (i := k) (j := j) (by omega) hj ((nI_eq (by omega) (by omega)).mp q)).symm)]
        by_cases q : j < k
        · rw [if_pos q, if_pos (by omega)]
        · rw [if_neg q, if_neg (by omega)]
  rw [key _ (Nat.le_refl _), if_pos hj]
theorem newI_out {f nn : fT} {og : Nat → Nat} (hn : fN f ≤ 16) (h : IVs f og nn) {was : Int32} (hw : ∀ j, j < fN f → was ≠ nI j) : newI og was (fN f) = was := by
  have key : ∀ k, k ≤ fN f → newI og was k = was := by
    intro k
    induction k with
    | zero => intro _; rfl
    | succ k ih =>
      intro hk
      rw [newI_s, if_neg (fun q => hw _ (h.2 k (by omega)).1 q.symm), ih (by omega)]
  exact key _ (Nat.le_refl _)
theorem mvd_cg {f nn : fT} {og : Nat → Nat} {k : Nat} (hn : fN f ≤ 16) (h : IVs f og nn) (hk : k < fN f) : og k = k ↔ nn k = nI k := by
  constructor
  · intro q
    have := (h.2 k hk).2.1
    rw [q] at this
    exact this
  · intro q
    obtain ⟨j, j1, j2, j3⟩ := h.1 k hk
    rw [q] at j2
    have := (nI_eq (by omega) (by omega)).mp j2
    rw [this]; rw [j3, this]
/-- the colors moved, of the first k entries -/
def mcR (f c nn : fT) (og : Nat → Nat) (k : Nat) (c' : fT) : Prop := ∀ j, j < fN f → c' j = if og j < k then c (og j) else c j
theorem mcR_0 (f c nn : fT) (og : Nat → Nat) : mcR f c nn og 0 c := fun j _ => by rw [if_neg (by omega)]
theorem mcR_id {f c nn c' : fT} {og : Nat → Nat} {k : Nat} (hn : fN f ≤ 16) (h : IVs f og nn) (hm : mcR f c nn og k c') (hk : k < fN f) (he : og k = k) : mcR f c nn og (k + 1) c' := by
  intro j hj
  rw [hm j hj]
  by_cases q : og j = k
  · have : j = k := IVs_inj hn h hj hk (by rw [q, he])
    subst this
    rw [if_neg (by omega), if_pos (by omega), he]
  · by_cases q2 : og j < k
    · rw [if_pos q2, if_pos (by omega)]
    · rw [if_neg q2, if_neg (by omega)]
theorem mcR_s {f c nn c' : fT} {og : Nat → Nat} {k j0 : Nat} (hn : fN f ≤ 16) (h : IVs f og nn) (hm : mcR f c nn og k c') (hj0 : j0 < fN f) (he : og j0 = k) : mcR f c nn og (k + 1) (upd c' j0 (c k)) := by
  intro j hj
  by_cases q : j = j0
  · subst q
    rw [upd_self, if_pos (by omega), he]
  · rw [upd_ne _ _ q, hm j hj]
    have : og j ≠ k := fun z => q (IVs_inj hn h hj hj0 (by rw [z, he]))
    by_cases q2 : og j < k
    · rw [if_pos q2, if_pos (by omega)]
    · rw [if_neg q2, if_neg (by omega)]
def rnV (f nn : fT) (v : Int32) : Int32 := if inE f v then nn v.toNatClampNeg else v
theorem rnV_new {f nn : fT} {og : Nat → Nat} (hf : wf0 f) (h : IVs f og nn) (v : Int32) : rnV f nn v = newI og v (fN f) := by
  have hn := hf.2.2.2
  unfold rnV
  by_cases q : inE f v
  · rw [if_pos q]
    obtain ⟨x, x1, rfl⟩ := of_inE hf q
    obtain ⟨j, j1, j2, j3⟩ := h.1 x x1
    rw [nI_clamp (by omega), j2, ← j3, newI_inv hn h j1]
  · rw [if_neg q, newI_out hn h]
    intro j hj e
    subst e
    exact q (inE_of hf hj)
theorem sv_srv {f : fT} (hf : wf0 f) (e : Nat) : svc f e (if 0 < fN f then fA f else 0) = svc f e (fA f) := by
  by_cases h : 0 < fN f
  · rw [if_pos h]
  · rw [if_neg h]
    have : ∀ k, svc f e k = 0 := by
      intro k
      induction k with
      | zero => rfl
      | succ k ih => rw [svc_s, ih, if_neg (fun q => by rw [ner_0 (by omega)] at q; cases q.2)]
    rw [this, this]
theorem wf_sort {f nn : fT} {og : Nat → Nat} (hf : wf f) (h : IVs f og nn) : wf (raF f og) := by
  have hn := hf.1.2.2.2
  refine wf_ra hf (fun e he => (h.2 e he).1) (fun e he => ?_) (newI_out hn h (fun j hj q => by have := (nI_eq (by omega) (by omega)).mp q; omega))
  obtain ⟨j, j1, j2, j3⟩ := h.1 e he
  exact ⟨j, j1, by rw [← j3, newI_inv hn h j1]⟩
theorem agS_sort {a p c l i f c' i' nn : fT} {og : Nat → Nat} (hf : wf f) (h : agS a p c l i f) (hI : IVs f og nn) (hc : mcR f c nn og (fN f) c') (hi : ∀ q, q < fA f → i' q = rnV f nn (i q)) : agS a p c' l i' (raF f og) := by
  refine agS_ra hf.1 h (fun e he => ?_) (fun z q hq => ?_)
  · obtain ⟨o1, o2, o3⟩ := hI.2 e he
    refine ⟨?_, ?_⟩
    · rw [hc e he, if_pos o1]; exact (h.2.2.1 _ o1).1
    · rw [(h.2.2.1 e he).2]
      by_cases q : og e = e
      · rw [q]
      · obtain ⟨q1, q2⟩ := o3 q
        rw [(hf.2.2.1 e he).2.resolve_right q1, (hf.2.2.1 _ o1).2.resolve_right q2]
  · rw [hi q hq, rnV_new hf.1 hI, h.2.2.2 z q hq]
def nnM (M : am_M) (nn : fT) : am_M := (am_u M.1 28 nn, M.2)
theorem nnM_28 (M : am_M) (i : fT) : (nnM M i).1 28 = i := au1 _ _ _ _
theorem nnM_ne (M : am_M) (i : fT) {k : Nat} (h : k ≠ 28) : (nnM M i).1 k = M.1 k := au0 _ _ _ h
theorem nnM_u (M : am_M) (S S' : fT) : ((am_u (nnM M S).1 28 S', (nnM M S).2) : am_M) = nnM M S' := by unfold nnM; simp only [am_u_u]
theorem nnM_eta (M : am_M) : nnM M (M.1 28) = M := by unfold nnM; rw [am_u_eta]
theorem AG_nn {M : am_M} {f : fT} (h : AG M f) (nn : fT) : AG (nnM M nn) f := by
  unfold AG
  rw [nnM_ne _ _ (by decide), nnM_ne _ _ (by decide), nnM_ne _ _ (by decide), nnM_ne _ _ (by decide), nnM_ne _ _ (by decide)]
  exact h
def pcM (M : am_M) (c o : fT) : am_M := (am_u (am_u M.1 29 o) 3 c, M.2)
theorem pcM_3 (M : am_M) (c o : fT) : (pcM M c o).1 3 = c := au1 _ _ _ _
theorem pcM_29 (M : am_M) (c o : fT) : (pcM M c o).1 29 = o := by unfold pcM; rw [au0 _ _ _ (by decide)]; exact am_u_self _ _ _
theorem pcM_ne (M : am_M) (c o : fT) {k : Nat} (h : k ≠ 3) (h2 : k ≠ 29) : (pcM M c o).1 k = M.1 k := by unfold pcM; rw [au0 _ _ _ h]; exact am_u_ne _ _ h2
theorem pcM_u (M : am_M) (c o c' : fT) : ((am_u (pcM M c o).1 3 c', (pcM M c o).2) : am_M) = pcM M c' o := by unfold pcM; simp only [am_u_u]
/-- what stays outside of the snapshot and of the helpers -/
def FR (M M' : am_M) : Prop := ∀ k, (k = 6 ∨ k = 8 ∨ k = 9 ∨ 33 ≤ k) → M'.1 k = M.1 k
theorem FR_refl (M : am_M) : FR M M := fun _ _ => rfl
theorem FR_tr {M M' M'' : am_M} (h : FR M M') (h2 : FR M' M'') : FR M M'' := fun k hk => (h2 k hk).trans (h k hk)
theorem FR_NW {M M' : am_M} {f : fT} (h : NW M f M') : FR M M' := fun k hk => NW_ne h (by omega)
theorem FR_sv (M : am_M) (a b c e g : fT) : FR M (svM M a b c e g) := fun k hk => svM_ne _ _ _ _ _ _ (by omega)
theorem AG_sv {M : am_M} {f : fT} (h : AG M f) (a x y z w : fT) : AG (svM M a x y z w) f := by
  unfold AG
  rw [svM_ne _ _ _ _ _ _ (by decide), svM_ne _ _ _ _ _ _ (by decide), svM_ne _ _ _ _ _ _ (by decide), svM_ne _ _ _ _ _ _ (by decide), svM_ne _ _ _ _ _ _ (by decide)]
  exact h
theorem SV_of {M M' : am_M} {f : fT} (hg : AG M f) (h : SV M f M') : AG M' f ∧ FR M M' ∧ M'.2 = M.2 ∧ (∀ k, (k < 16 ∨ 21 ≤ k) → M'.1 k = M.1 k) ∧ SF f (fA f) (M'.1 16 5) (M'.1 17) (M'.1 18) (M'.1 19) (M'.1 20) := by
  obtain ⟨a, cl, ls, nm, lo, rfl, h2⟩ := h
  refine ⟨AG_sv hg _ _ _ _ _, FR_sv _ _ _ _ _ _, rfl, fun k hk => svM_ne _ _ _ _ _ _ hk, ?_⟩
  rw [svM_16, svM_17, svM_18, svM_19, svM_20]
  exact h2
