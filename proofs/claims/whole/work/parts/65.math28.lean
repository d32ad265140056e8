def svM (M : am_M) (g0 g1 g2 g3 g4 : fT) : am_M := (am_u (am_u (am_u (am_u (am_u M.1 16 g0) 17 g1) 18 g2) 19 g3) 20 g4, M.2)
theorem svM_16 (M : am_M) (g0 g1 g2 g3 g4 : fT) : (svM M g0 g1 g2 g3 g4).1 16 = g0 := by simp [svM, am_u]
theorem svM_17 (M : am_M) (g0 g1 g2 g3 g4 : fT) : (svM M g0 g1 g2 g3 g4).1 17 = g1 := by simp [svM, am_u]
theorem svM_18 (M : am_M) (g0 g1 g2 g3 g4 : fT) : (svM M g0 g1 g2 g3 g4).1 18 = g2 := by simp [svM, am_u]
theorem svM_19 (M : am_M) (g0 g1 g2 g3 g4 : fT) : (svM M g0 g1 g2 g3 g4).1 19 = g3 := by simp [svM, am_u]
theorem svM_20 (M : am_M) (g0 g1 g2 g3 g4 : fT) : (svM M g0 g1 g2 g3 g4).1 20 = g4 := by simp [svM, am_u]
theorem svM_ne (M : am_M) (g0 g1 g2 g3 g4 : fT) {k : Nat} (h : k < 16 ∨ 21 ≤ k) : (svM M g0 g1 g2 g3 g4).1 k = M.1 k := by
  have h1 : k ≠ 16 ∧ k ≠ 17 ∧ k ≠ 18 ∧ k ≠ 19 ∧ k ≠ 20 := by omega
  simp [svM, am_u, h1.1, h1.2.1, h1.2.2.1, h1.2.2.2.1, h1.2.2.2.2]
theorem svM_x {M X : am_M} {g0 g1 g2 g3 g4 : fT} (h2 : X.2 = M.2) (h : ∀ k, (k < 16 ∨ 21 ≤ k) → X.1 k = M.1 k) (e0 : X.1 16 = g0) (e1 : X.1 17 = g1) (e2 : X.1 18 = g2) (e3 : X.1 19 = g3) (e4 : X.1 20 = g4) : X = svM M g0 g1 g2 g3 g4 := by
  refine Prod.ext (funext fun q => ?_) h2
  by_cases hq : q < 16 ∨ 21 ≤ q
  · rw [svM_ne _ _ _ _ _ _ hq]; exact h q hq
  · have : q = 16 ∨ q = 17 ∨ q = 18 ∨ q = 19 ∨ q = 20 := by omega
    rcases this with z | z | z | z | z <;> subst z
    · rw [svM_16]; exact e0
    · rw [svM_17]; exact e1
    · rw [svM_18]; exact e2
    · rw [svM_19]; exact e3
    · rw [svM_20]; exact e4
theorem svM_eta (M : am_M) : svM M (M.1 16) (M.1 17) (M.1 18) (M.1 19) (M.1 20) = M := (svM_x rfl (fun _ _ => rfl) rfl rfl rfl rfl rfl).symm
theorem svM_u16 (M : am_M) (g0 g1 g2 g3 g4 g : fT) : ((am_u (svM M g0 g1 g2 g3 g4).1 16 g, (svM M g0 g1 g2 g3 g4).2) : am_M) = svM M g g1 g2 g3 g4 := by
  refine svM_x rfl (fun k hk => ?_) ?_ ?_ ?_ ?_ ?_
  · rw [au0 _ _ _ (by omega), svM_ne _ _ _ _ _ _ hk]
  · exact au1 _ _ _ _
  · rw [au0 _ _ _ (by decide), svM_17]
  · rw [au0 _ _ _ (by decide), svM_18]
  · rw [au0 _ _ _ (by decide), svM_19]
  · rw [au0 _ _ _ (by decide), svM_20]
theorem svM_u17 (M : am_M) (g0 g1 g2 g3 g4 g : fT) : ((am_u (svM M g0 g1 g2 g3 g4).1 17 g, (svM M g0 g1 g2 g3 g4).2) : am_M) = svM M g0 g g2 g3 g4 := by
  refine svM_x rfl (fun k hk => ?_) ?_ ?_ ?_ ?_ ?_
  · rw [au0 _ _ _ (by omega), svM_ne _ _ _ _ _ _ hk]
  · rw [au0 _ _ _ (by decide), svM_16]
  · exact au1 _ _ _ _
  · rw [au0 _ _ _ (by decide), svM_18]
  · rw [au0 _ _ _ (by decide), svM_19]
  · rw [au0 _ _ _ (by decide), svM_20]
theorem svM_u18 (M : am_M) (g0 g1 g2 g3 g4 g : fT) : ((am_u (svM M g0 g1 g2 g3 g4).1 18 g, (svM M g0 g1 g2 g3 g4).2) : am_M) = svM M g0 g1 g g3 g4 := by
  refine svM_x rfl (fun k hk => ?_) ?_ ?_ ?_ ?_ ?_
  · rw [au0 _ _ _ (by omega), svM_ne _ _ _ _ _ _ hk]
  · rw [au0 _ _ _ (by decide), svM_16]
  · rw [au0 _ _ _ (by decide), svM_17]
  · exact au1 _ _ _ _
  · rw [au0 _ _ _ (by decide), svM_19]
  · rw [au0 _ _ _ (by decide), svM_20]
theorem svM_u19 (M : am_M) (g0 g1 g2 g3 g4 g : fT) : ((am_u (svM M g0 g1 g2 g3 g4).1 19 g, (svM M g0 g1 g2 g3 g4).2) : am_M) = svM M g0 g1 g2 g g4 := by
  refine svM_x rfl (fun k hk => ?_) ?_ ?_ ?_ ?_ ?_
  · rw [au0 _ _ _ (by omega), svM_ne _ _ _ _ _ _ hk]
  · rw [au0 _ _ _ (by decide), svM_16]
  · rw [au0 _ _ _ (by decide), svM_17]
  · rw [au0 _ _ _ (by decide), svM_18]
  · exact au1 _ _ _ _
  · rw [au0 _ _ _ (by decide), svM_20]
theorem svM_u20 (M : am_M) (g0 g1 g2 g3 g4 g : fT) : ((am_u (svM M g0 g1 g2 g3 g4).1 20 g, (svM M g0 g1 g2 g3 g4).2) : am_M) = svM M g0 g1 g2 g3 g := by
  refine svM_x rfl (fun k hk => ?_) ?_ ?_ ?_ ?_ ?_
  · rw [au0 _ _ _ (by omega), svM_ne _ _ _ _ _ _ hk]
  · rw [au0 _ _ _ (by decide), svM_16]
  · rw [au0 _ _ _ (by decide), svM_17]
  · rw [au0 _ _ _ (by decide), svM_18]
  · rw [au0 _ _ _ (by decide), svM_19]
  · exact au1 _ _ _ _
theorem svM_svM (M : am_M) (g0 g1 g2 g3 g4 g0' g1' g2' g3' g4' : fT) : svM (svM M g0 g1 g2 g3 g4) g0' g1' g2' g3' g4' = svM M g0' g1' g2' g3' g4' := by
  refine svM_x rfl (fun k hk => ?_) (svM_16 _ _ _ _ _ _) (svM_17 _ _ _ _ _ _) (svM_18 _ _ _ _ _ _) (svM_19 _ _ _ _ _ _) (svM_20 _ _ _ _ _ _)
  rw [svM_ne _ _ _ _ _ _ hk, svM_ne _ _ _ _ _ _ hk]
/-! the survey -/
theorem nbt_ok {f : fT} {c but : Int32} {k b : Nat} (h : nbt f c but k = some b) : b < k ∧ nI b ≠ but ∧ ∀ j, j < k → nI j ≠ but → dst (f 291) c (f (259 + b)) ≤ dst (f 291) c (f (259 + j)) ∧ (j < b → dst (f 291) c (f (259 + b)) < dst (f 291) c (f (259 + j))) := by
  induction k generalizing b with
  | zero => cases h
  | succ k ih =>
    rw [nbt_s] at h
    cases hx : nbt f c but k with
    | none =>
      rw [hx] at h
      dsimp only at h
      have hn : ∀ j, j < k → ¬ nI j ≠ but := by
        clear ih h
        induction k with
        | zero => intro j hj; omega
        | succ k ihk =>
          rw [nbt_s] at hx
          cases hy : nbt f c but k with
          | none =>
            rw [hy] at hx
            dsimp only at hx
            split at hx
            · next e =>
              intro j hj q
              by_cases hjk : j = k
              · subst hjk; exact q e
              · exact ihk hy j (by omega) q
            · cases hx
          | some b0 =>
            rw [hy] at hx
            dsimp only at hx
            split at hx
            · cases hx
            · split at hx <;> cases hx
      split at h
      · cases h
      · next e =>
        cases h
        refine ⟨by omega, e, fun j hj hne => ?_⟩
        by_cases hjk : j = k
        · subst hjk; exact ⟨Int32.le_refl _, fun q => by omega⟩
        · exact absurd hne (hn j (by omega))
    | some b0 =>
      rw [hx] at h
      dsimp only at h
      obtain ⟨i1, i2, i3⟩ := ih hx
      split at h
      · next e =>
        cases h
        refine ⟨by omega, i2, fun j hj hne => ?_⟩
        by_cases hjk : j = k
        · subst hjk; exact absurd e hne
        · exact i3 j (by omega) hne
      · next e =>
        split at h
        · next hlt =>
          cases h
          refine ⟨by omega, e, fun j hj hne => ?_⟩
          by_cases hjk : j = k
          · subst hjk; exact ⟨Int32.le_refl _, fun q => by omega⟩
          · have a := (i3 j (by omega) hne).1
            have b := Int32.lt_of_lt_of_le hlt a
            exact ⟨Int32.le_of_lt b, fun _ => b⟩
        · next hlt =>
          cases h
          refine ⟨by omega, i2, fun j hj hne => ?_⟩
          by_cases hjk : j = k
          · subst hjk; exact ⟨Int32.not_lt.mp hlt, fun q => by omega⟩
          · exact i3 j (by omega) hne
theorem nbt_none {f : fT} {c but : Int32} {k : Nat} (hx : nbt f c but k = none) : ∀ j, j < k → nI j = but := by
  induction k with
  | zero => intro j hj; omega
  | succ k ihk =>
    rw [nbt_s] at hx
    cases hy : nbt f c but k with
    | none =>
      rw [hy] at hx
      dsimp only at hx
      split at hx
      · next e =>
        intro j hj
        by_cases hjk : j = k
        · subst hjk; exact e
        · exact ihk hy j (by omega)
      · cases hx
    | some b0 =>
      rw [hy] at hx
      dsimp only at hx
      split at hx
      · cases hx
      · split at hx <;> cases hx
theorem nbt_u {f : fT} {c but : Int32} {k b : Nat} (h1 : b < k) (h2 : nI b ≠ but) (h3 : ∀ j, j < k → nI j ≠ but → dst (f 291) c (f (259 + b)) ≤ dst (f 291) c (f (259 + j)) ∧ (j < b → dst (f 291) c (f (259 + b)) < dst (f 291) c (f (259 + j)))) : nbt f c but k = some b := by
  cases hx : nbt f c but k with
  | none => exact absurd (nbt_none hx b h1) h2
  | some b' =>
    obtain ⟨i1, i2, i3⟩ := nbt_ok hx
    rcases Nat.lt_trichotomy b' b with q | q | q
    · have a := (h3 b' i1 i2).2 q
      have b9 := (i3 b h1 h2).1
      exact absurd (Int32.lt_of_lt_of_le a b9) (Int32.lt_irrefl)
    · rw [q]
    · have a := (i3 b h1 h2).2 q
      have b9 := (h3 b' i1 i2).1
      exact absurd (Int32.lt_of_lt_of_le a b9) (Int32.lt_irrefl)
/-- without an entry that isn't the nearest, the nearest stays -/
theorem nbt_but {f : fT} {c : Int32} {k b e : Nat} (hk : k ≤ 16) (he : e < 16) (h : nbt f c (-1) k = some b) (hbe : b ≠ e) : nbt f c (nI e) k = some b := by
  obtain ⟨i1, i2, i3⟩ := nbt_ok h
  refine nbt_u i1 (by rw [Ne, nI_eq (by omega) (by omega)]; exact hbe) (fun j hj _ => i3 j hj (nI_ne1 (by omega)))
/-- without one that isn't there, the nearest stays -/
theorem nbt_off {f : fT} {c : Int32} {k e : Nat} (hk : k ≤ 16) (he : e < 16) (hke : k ≤ e) : nbt f c (nI e) k = nbt f c (-1) k := by
  cases hx : nbt f c (-1) k with
  | none =>
    cases k with
    | zero => rfl
    | succ k => exact absurd (nbt_none hx 0 (by omega)) (nI_ne1 (by decide))
  | some b => exact nbt_but hk he hx (by have := (nbt_ok hx).1; omega)
/-- the second distance so far -/
def sc2 (f : fT) (c : Int32) (k b : Nat) : Int32 := match nbt f c (nI b) k with
  | none => 1000000
  | some j => dst (f 291) c (f (259 + j))
theorem nbd_ne {f : fT} {c : Int32} {b e : Nat} (hn : fN f ≤ 16) (he : e < 16) (h : ner f c = some b) (hbe : b ≠ e) : nbd f c (nI e) = nbd f c (-1) := by
  unfold nbd
  rw [nbt_but hn he h hbe, show nbt f c (-1) (fN f) = some b from h]
theorem sc2_nbd {f : fT} {c : Int32} {b : Nat} (hn : 2 ≤ fN f) (hn2 : fN f ≤ 16) (hb : b < fN f) : sc2 f c (fN f) b = nbd f c (nI b) := by
  unfold sc2 nbd
  cases hx : nbt f c (nI b) (fN f) with
  | none =>
    exfalso
    have h0 := nbt_none hx 0 (by omega)
    have h1 := nbt_none hx 1 (by omega)
    rw [nI_eq (by omega) (by omega)] at h0 h1
    omega
  | some j => rfl
def SF (f : fT) (p : Nat) (bt : Int32) (cl ls nm lo : fT) : Prop := bt = bsum f (-1) p ∧ (∀ q, q < p → cl q = (if f (2 + q) = -1 then -1 else oI (ner f (f (2 + q)))) ∧ ls q = (if f (2 + q) = -1 then nI 0 else nbd f (f (2 + q)) (-1))) ∧ (∀ e, e < 16 → nm e = nI (svc f e p)) ∧ (2 ≤ fN f → ∀ e, e < fN f → lo e = bsum f (nI e) p - bsum f (-1) p)
def SV (M : am_M) (f : fT) (M' : am_M) : Prop := ∃ a cl ls nm lo, M' = svM M a cl ls nm lo ∧ SF f (fA f) (a 5) cl ls nm lo
theorem SF_0 {f : fT} {cl ls nm lo : fT} (h1 : ∀ e, e < 16 → nm e = nI 0) (h2 : ∀ e, e < 16 → lo e = nI 0) (hN : fN f ≤ 16) : SF f 0 (nI 0) cl ls nm lo := ⟨rfl, fun q hq => absurd hq (Nat.not_lt_zero q), h1, fun _ e he => by rw [h2 e (by omega)]; show nI 0 = nI 0 - nI 0; rfl⟩
theorem SF_skip {f : fT} {p : Nat} {bt : Int32} {cl ls nm lo : fT} (h : SF f p bt cl ls nm lo) (ho : f (2 + p) = -1) : SF f (p + 1) bt (upd cl p (-1)) (upd ls p (nI 0)) nm lo := by
  obtain ⟨h1, h2, h3, h4⟩ := h
  refine ⟨?_, fun q hq => ?_, fun e he => ?_, fun hn e he => ?_⟩
  · rw [bsum_s, if_pos ho]; exact h1
  · by_cases hqp : q = p
    · subst hqp; rw [upd_self, upd_self, if_pos ho, if_pos ho]; exact ⟨rfl, rfl⟩
    · rw [upd_ne _ _ hqp, upd_ne _ _ hqp]; exact h2 q (by omega)
  · rw [svc_s, if_neg (fun q => q.1 ho)]; exact h3 e he
  · rw [bsum_s, bsum_s, if_pos ho, if_pos ho]; exact h4 hn e he
theorem ner_0 {f : fT} (h : fN f = 0) (c : Int32) : ner f c = none := by show nbt f c (-1) (fN f) = none; rw [h]; rfl
theorem SF_no {f : fT} {p : Nat} {bt : Int32} {cl ls nm lo : fT} (h : SF f p bt cl ls nm lo) (ho : ¬ f (2 + p) = -1) (hz : fN f = 0) : SF f (p + 1) bt (upd cl p (-1)) (upd ls p (nI 0)) nm lo := by
  obtain ⟨h1, h2, h3, h4⟩ := h
  have hn := ner_0 hz (f (2 + p))
  have hd : nbd f (f (2 + p)) (-1) = nI 0 := by unfold nbd; rw [show nbt f (f (2 + p)) (-1) (fN f) = none from hn]; rfl
  refine ⟨?_, fun q hq => ?_, fun e he => ?_, fun hn => by omega⟩
  · rw [bsum_s, if_neg ho, hd, h1]; simp [show nI 0 = 0 from rfl]
  · by_cases hqp : q = p
    · subst hqp; rw [upd_self, upd_self, if_neg ho, if_neg ho, hn, hd]; exact ⟨rfl, rfl⟩
    · rw [upd_ne _ _ hqp, upd_ne _ _ hqp]; exact h2 q (by omega)
  · rw [svc_s, if_neg (fun q => by rw [hn] at q; cases q.2)]; exact h3 e he
theorem SF_look {f : fT} {p b : Nat} {bt : Int32} {cl ls nm lo lo' : fT} (hN : fN f ≤ 16) (h : SF f p bt cl ls nm lo) (ho : ¬ f (2 + p) = -1) (hb : ner f (f (2 + p)) = some b) (hl : 2 ≤ fN f → lo' = upd lo b (lo b + (nbd f (f (2 + p)) (nI b) - nbd f (f (2 + p)) (-1)))) : SF f (p + 1) (bt + nbd f (f (2 + p)) (-1)) (upd cl p (nI b)) (upd ls p (nbd f (f (2 + p)) (-1))) (upd nm b (nI (svc f b p + 1))) lo' := by
  obtain ⟨h1, h2, h3, h4⟩ := h
  have hbn := (nbt_ok hb).1
  refine ⟨?_, fun q hq => ?_, fun e he => ?_, fun hn e he => ?_⟩
  · rw [bsum_s, if_neg ho, h1]
  · by_cases hqp : q = p
    · subst hqp; rw [upd_self, upd_self, if_neg ho, if_neg ho, hb]; exact ⟨rfl, rfl⟩
    · rw [upd_ne _ _ hqp, upd_ne _ _ hqp]; exact h2 q (by omega)
  · rw [svc_s]
    by_cases heb : e = b
    · subst heb; rw [upd_self, if_pos ⟨ho, hb⟩]
    · rw [upd_ne _ _ heb, if_neg (fun q => by rw [hb] at q; exact heb (Option.some.inj q.2).symm)]; exact h3 e he
  · rw [hl hn, bsum_s, bsum_s, if_neg ho, if_neg ho]
    by_cases heb : e = b
    · subst heb
      rw [upd_self, h4 hn e he]
      generalize bsum f (nI e) p = x
      generalize bsum f (-1) p = y
      generalize nbd f (f (2 + p)) (nI e) = z
      generalize nbd f (f (2 + p)) (-1) = w
      apply Int32.toBitVec_inj.mp
      simp only [Int32.toBitVec_add, Int32.toBitVec_sub]
      grind
    · rw [upd_ne _ _ heb, nbd_ne hN (by omega) hb (fun q => heb q.symm), h4 hn e he]
      generalize bsum f (nI e) p = x
      generalize bsum f (-1) p = y
      generalize nbd f (f (2 + p)) (-1) = w
      apply Int32.toBitVec_inj.mp
      simp only [Int32.toBitVec_add, Int32.toBitVec_sub]
      grind
theorem nbd_nI (f : fT) (c but : Int32) : ∃ n, n ≤ 585225 ∧ nbd f c but = nI n := by
  unfold nbd
  cases nbt f c but (fN f) with
  | none => exact ⟨0, by decide, rfl⟩
  | some b => exact dst_nI _ _ _
theorem bsum_nI (f : fT) (but : Int32) (p : Nat) : ∃ n, n ≤ p * 585225 ∧ bsum f but p = nI n := by
  induction p with
  | zero => exact ⟨0, Nat.zero_le _, rfl⟩
  | succ p ih =>
    obtain ⟨n, h1, h2⟩ := ih
    rw [bsum_s]
    split
    · exact ⟨n, Nat.le_trans h1 (Nat.mul_le_mul_right _ (Nat.le_succ p)), h2⟩
    · obtain ⟨e, e1, e2⟩ := nbd_nI f (f (2 + p)) but
      exact ⟨n + e, by rw [Nat.succ_mul]; exact Nat.add_le_add h1 e1, by rw [h2, e2, nI_add]⟩
theorem bsum_cmp {f : fT} (hf : wf f) (k b : Nat) : bsum f (nI k) (fA f) - bsum f (-1) (fA f) < bsum f (nI b) (fA f) - bsum f (-1) (fA f) ↔ bsum f (nI k) (fA f) < bsum f (nI b) (fA f) := by
  have hA := fA_le hf.1
  obtain ⟨x, x1, x2⟩ := bsum_nI f (nI k) (fA f)
  obtain ⟨y, y1, y2⟩ := bsum_nI f (nI b) (fA f)
  obtain ⟨z, z1, z2⟩ := bsum_nI f (-1) (fA f)
  have l : fA f * 585225 ≤ 256 * 585225 := Nat.mul_le_mul_right _ hA.2
  rw [x2, y2, z2, Int32.lt_iff_toInt_lt, Int32.lt_iff_toInt_lt, Int32.toInt_sub, Int32.toInt_sub, nI_toInt (by omega), nI_toInt (by omega), nI_toInt (by omega), Int.bmod_eq_of_le (by omega) (by omega), Int.bmod_eq_of_le (by omega) (by omega)]
  omega
