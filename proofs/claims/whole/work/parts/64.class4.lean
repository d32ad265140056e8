theorem sc_containsR (d : Nat) (M : am_M) (W H : Nat) (h0 : M.1 1 0 = nI W) (h1 : M.1 1 1 = nI H) (hW : W ≤ 16) (hH : H ≤ 16) (x y : Nat) (hx : x < W) (hy : y < H) : am_R (d + 1) zX7_contains [.ref 1, .int (nI x), .int (nI y)] M (fun v M' => v = some (.int (nI 1)) ∧ M' = M) := by
  refine ae_enter (z := zX7_contains) (y := yX7_contains) (cc := cX7_contains) (mL := 3) (rt := some .boolean) (ci := 7) (st := false) (np := 2) (L := [some (.ref 1), some (.int (nI x)), some (.int (nI y))]) rfl (by decide) (Nat.le_of_ble_eq_true rfl) rfl ?_
  have p1 : ¬ nI x < 0 := Int32.not_lt.mpr (nI_le (Nat.zero_le x) (by omega))
  have p2 : ¬ nI y < 0 := Int32.not_lt.mpr (nI_le (Nat.zero_le y) (by omega))
  have p3 : ¬ nI W ≤ nI x := by rw [nI_leI (by omega) (by omega)]; omega
  have p4 : ¬ nI H ≤ nI y := by rw [nI_leI (by omega) (by omega)]; omega
  refine ae_iload_n (pc := 0) dX7_contains_0 rfl ?_
  refine ae_if_lt (pc := 1) (t := 28) dX7_contains_1 (by decide) (fun c1 => ?_) (fun c1 => ?_)
  · exact absurd c1 p1
  refine ae_iload_n (pc := 4) dX7_contains_4 rfl ?_
  refine ae_aload_n (pc := 5) dX7_contains_5 rfl ?_
  refine ae_getI (pc := 6) (k := 1) (c := 7) (j := 0) (v := nI W) dX7_contains_6 rfl rfl (Or.inl rfl) (Nat.le_of_ble_eq_true rfl) rfl (Nat.le_of_ble_eq_true rfl) h0 ?_
  refine ae_icmp_ge (pc := 9) (t := 28) dX7_contains_9 (by decide) (fun c9 => ?_) (fun c9 => ?_)
  · exact absurd c9 p3
  refine ae_iload_n (pc := 12) dX7_contains_12 rfl ?_
  refine ae_if_lt (pc := 13) (t := 28) dX7_contains_13 (by decide) (fun c13 => ?_) (fun c13 => ?_)
  · exact absurd c13 p2
  refine ae_iload_n (pc := 16) dX7_contains_16 rfl ?_
  refine ae_aload_n (pc := 17) dX7_contains_17 rfl ?_
  refine ae_getI (pc := 18) (k := 1) (c := 7) (j := 1) (v := nI H) dX7_contains_18 rfl rfl (Or.inl rfl) (Nat.le_of_ble_eq_true rfl) rfl (Nat.le_of_ble_eq_true rfl) h1 ?_
  refine ae_icmp_ge (pc := 21) (t := 28) dX7_contains_21 (by decide) (fun c21 => ?_) (fun c21 => ?_)
  · exact absurd c21 p4
  refine ae_iconst (pc := 24) (v := nI 1) dX7_contains_24 (by decide) ?_
  refine ae_goto (pc := 25) (t := 29) dX7_contains_25 (by decide) ?_
  refine ae_zreturn (pc := 29) dX7_contains_29 rfl (by decide) ?_
  exact ⟨rfl, rfl⟩
theorem sc_placeR (d : Nat) (M : am_M) (W : Nat) (h0 : M.1 1 0 = nI W) (x y : Nat) : am_R (d + 1) zX7_place [.ref 1, .int (nI x), .int (nI y)] M (fun v M' => v = some (.int (nI (y * W + x))) ∧ M' = M) := by
  refine ae_enter (z := zX7_place) (y := yX7_place) (cc := cX7_place) (mL := 3) (rt := some .int) (ci := 7) (st := false) (np := 2) (L := [some (.ref 1), some (.int (nI x)), some (.int (nI y))]) rfl (by decide) (Nat.le_of_ble_eq_true rfl) rfl ?_
  refine ae_iload_n (pc := 0) dX7_place_0 rfl ?_
  refine ae_aload_n (pc := 1) dX7_place_1 rfl ?_
  refine ae_getI (pc := 2) (k := 1) (c := 7) (j := 0) (v := nI W) dX7_place_2 rfl rfl (Or.inl rfl) (Nat.le_of_ble_eq_true rfl) rfl (Nat.le_of_ble_eq_true rfl) h0 ?_
  refine ae_imul (pc := 5) (v := nI (y * W)) dX7_place_5 (nI_mul _ _) ?_
  refine ae_iload_n (pc := 6) dX7_place_6 rfl ?_
  refine ae_iadd (pc := 7) (v := nI (y * W + x)) dX7_place_7 (nI_add _ _) ?_
  refine ae_ireturn (pc := 8) dX7_place_8 rfl ?_
  exact ⟨rfl, rfl⟩
theorem sc_areaR (d : Nat) (M : am_M) (W H : Nat) (h0 : M.1 1 0 = nI W) (h1 : M.1 1 1 = nI H) : am_R (d + 1) zX7_area [.ref 1] M (fun v M' => v = some (.int (nI (W * H))) ∧ M' = M) := by
  refine ae_enter (z := zX7_area) (y := yX7_area) (cc := cX7_area) (mL := 1) (rt := some .int) (ci := 7) (st := false) (np := 0) (L := [some (.ref 1)]) rfl (by decide) (Nat.le_of_ble_eq_true rfl) rfl ?_
  refine ae_aload_n (pc := 0) dX7_area_0 rfl ?_
  refine ae_getI (pc := 1) (k := 1) (c := 7) (j := 0) (v := nI W) dX7_area_1 rfl rfl (Or.inl rfl) (Nat.le_of_ble_eq_true rfl) rfl (Nat.le_of_ble_eq_true rfl) h0 ?_
  refine ae_aload_n (pc := 4) dX7_area_4 rfl ?_
  refine ae_getI (pc := 5) (k := 1) (c := 7) (j := 1) (v := nI H) dX7_area_5 rfl rfl (Or.inl rfl) (Nat.le_of_ble_eq_true rfl) rfl (Nat.le_of_ble_eq_true rfl) h1 ?_
  refine ae_imul (pc := 8) (v := nI (W * H)) dX7_area_8 (nI_mul _ _) ?_
  refine ae_ireturn (pc := 9) dX7_area_9 rfl ?_
  exact ⟨rfl, rfl⟩
theorem sc_isOpaqueR (d : Nat) (M : am_M) (p : Nat) (hp : p < 256) (x : Int32) (hx : M.1 2 p = x) : am_R (d + 1) zX7_isOpaque [.ref 1, .int (nI p)] M (fun v M' => v = some (.int (bI (x ≠ -1))) ∧ M' = M) := by
  refine ae_enter (z := zX7_isOpaque) (y := yX7_isOpaque) (cc := cX7_isOpaque) (mL := 2) (rt := some .boolean) (ci := 7) (st := false) (np := 1) (L := [some (.ref 1), some (.int (nI p))]) rfl (by decide) (Nat.le_of_ble_eq_true rfl) rfl ?_
  refine ae_aload_n (pc := 0) dX7_isOpaque_0 rfl ?_
  refine ae_getR (pc := 1) (k := 1) (c := 7) (j := 2) (q := 2) dX7_isOpaque_1 rfl rfl (Nat.le_of_ble_eq_true rfl) rfl (Nat.le_of_ble_eq_true rfl) rfl ?_
  refine ae_iload_n (pc := 4) dX7_isOpaque_4 rfl ?_
  refine ae_iaload (pc := 5) (k := 2) (N := 256) (v := x) _ dX7_isOpaque_5 (Nat.le_of_ble_eq_true rfl) rfl rfl rfl (by omega) hx ?_
  refine ae_iconst (pc := 6) (v := (-1)) dX7_isOpaque_6 (by decide) ?_
  refine ae_icmp_eq (pc := 7) (t := 14) dX7_isOpaque_7 (by decide) (fun c7 => ?_) (fun c7 => ?_)
  · refine ae_iconst (pc := 14) (v := nI 0) dX7_isOpaque_14 (by decide) ?_
    refine ae_zreturn (pc := 15) dX7_isOpaque_15 rfl (by decide) ?_
    first | exact And.intro (bret_f (fun q => q c7)) rfl | exact And.intro (bret_t c7) rfl
  · refine ae_iconst (pc := 10) (v := nI 1) dX7_isOpaque_10 (by decide) ?_
    refine ae_goto (pc := 11) (t := 15) dX7_isOpaque_11 (by decide) ?_
    refine ae_zreturn (pc := 15) dX7_isOpaque_15 rfl (by decide) ?_
    first | exact And.intro (bret_f (fun q => q c7)) rfl | exact And.intro (bret_t c7) rfl
theorem sc_fillArea (d : Nat) (M : am_M) (W H : Nat) (h0 : M.1 1 0 = nI W) (h1 : M.1 1 1 = nI H) (hW : W ≤ 16) (hH : H ≤ 16) (x0 y0 w h : Nat) (hx : x0 + w ≤ W) (hy : y0 + h ≤ H) (c : Int32) : am_R (d + 2) zX7_fillArea [.ref 1, .int (nI x0), .int (nI y0), .int (nI w), .int (nI h), .int c] M (fun v M' => v = none ∧ M' = (am_u M.1 2 (rcF (M.1 2) W x0 y0 w h c), M.2)) := by
  refine ae_enter (z := zX7_fillArea) (y := yX7_fillArea) (cc := cX7_fillArea) (mL := 8) (rt := none) (ci := 7) (st := false) (np := 5) (L := [some (.ref 1), some (.int (nI x0)), some (.int (nI y0)), some (.int (nI w)), some (.int (nI h)), some (.int c), none, none]) rfl (by decide) (Nat.le_of_ble_eq_true rfl) rfl ?_
  have r1 : ∀ g k, k ≠ 2 → ((am_u M.1 2 g, M.2) : am_M).1 k = M.1 k := fun g k hk => au0 _ _ _ hk
  refine ae_iload_n (pc := 0) dX7_fillArea_0 rfl ?_
  refine ae_istore (pc := 1) dX7_fillArea_1 rfl (Nat.le_of_ble_eq_true rfl) ?_
  skip
  have outer : am_E none (am_R (d + 1)) cX7_fillArea 7 none (fun v M' => v = none ∧ M' = (am_u M.1 2 (rcF (M.1 2) W x0 y0 w h c), M.2)) (3, [some (.ref 1), some (.int (nI x0)), some (.int (nI y0)), some (.int (nI w)), some (.int (nI h)), some (.int c), some (.int (nI (y0 + 0))), none], [], (am_u M.1 2 (rcJ (M.1 2) W x0 y0 w 0 0 c), M.2)) := by
    refine am_down (P := fun j => am_E none (am_R (d + 1)) cX7_fillArea 7 none _ (3, [some (.ref 1), some (.int (nI x0)), some (.int (nI y0)), some (.int (nI w)), some (.int (nI h)), some (.int c), some (.int (nI (y0 + j))), none], [], (am_u M.1 2 (rcJ (M.1 2) W x0 y0 w j 0 c), M.2))) h (fun j hj ih => ?_)
    refine ae_iload (pc := 3) dX7_fillArea_3 rfl ?_
    refine ae_iload_n (pc := 5) dX7_fillArea_5 rfl ?_
    refine ae_iload (pc := 6) dX7_fillArea_6 rfl ?_
    refine ae_iadd (pc := 8) (v := nI (y0 + h)) dX7_fillArea_8 (nI_add _ _) ?_
    refine ae_icmp_ge (pc := 9) (t := 61) dX7_fillArea_9 (by decide) (fun c9 => ?_) (fun c9 => ?_)
    · have hj2 : j = h := by rw [nI_leI (by omega) (by omega)] at c9; omega
      subst hj2
      refine ae_return (pc := 61) dX7_fillArea_61 rfl ?_
      exact ⟨rfl, rfl⟩
    · have hj2 : j < h := by rw [nI_leI (by omega) (by omega)] at c9; omega
      have inner : am_E none (am_R (d + 1)) cX7_fillArea 7 none (fun v M' => v = none ∧ M' = (am_u M.1 2 (rcF (M.1 2) W x0 y0 w h c), M.2)) (15, [some (.ref 1), some (.int (nI x0)), some (.int (nI y0)), some (.int (nI w)), some (.int (nI h)), some (.int c), some (.int (nI (y0 + j))), some (.int (nI (x0 + 0)))], [], (am_u M.1 2 (rcJ (M.1 2) W x0 y0 w j 0 c), M.2)) := by
        refine am_down (P := fun i => am_E none (am_R (d + 1)) cX7_fillArea 7 none _ (15, [some (.ref 1), some (.int (nI x0)), some (.int (nI y0)), some (.int (nI w)), some (.int (nI h)), some (.int c), some (.int (nI (y0 + j))), some (.int (nI (x0 + i)))], [], (am_u M.1 2 (rcJ (M.1 2) W x0 y0 w j i c), M.2))) w (fun i hi ihi => ?_)
        refine ae_iload (pc := 15) dX7_fillArea_15 rfl ?_
        refine ae_iload_n (pc := 17) dX7_fillArea_17 rfl ?_
        refine ae_iload_n (pc := 18) dX7_fillArea_18 rfl ?_
        refine ae_iadd (pc := 19) (v := nI (x0 + w)) dX7_fillArea_19 (nI_add _ _) ?_
        refine ae_icmp_ge (pc := 20) (t := 55) dX7_fillArea_20 (by decide) (fun c20 => ?_) (fun c20 => ?_)
        · have hi2 : i = w := by rw [nI_leI (by omega) (by omega)] at c20; omega
          subst hi2
          rw [rcJ_r]
          refine ae_iinc (pc := 55) (v := nI (y0 + (j + 1))) dX7_fillArea_55 rfl (nI_inc (y0 + j)) ?_
          refine ae_goto (pc := 58) (t := 3) dX7_fillArea_58 (by decide) ?_
          exact ae_forget [7] rfl (ih hj2)
        · have hi2 : i < w := by rw [nI_leI (by omega) (by omega)] at c20; omega
          have hpl : (y0 + j) * W + (x0 + i) < 256 := by
            have : (y0 + j + 1) * W ≤ 16 * 16 := Nat.mul_le_mul (by omega) hW
            rw [Nat.succ_mul] at this
            omega
          refine ae_aload_n (pc := 23) dX7_fillArea_23 rfl ?_
          refine ae_iload (pc := 24) dX7_fillArea_24 rfl ?_
          refine ae_iload (pc := 26) dX7_fillArea_26 rfl ?_
          refine ae_pcallV (pc := 28) (z := zX7_contains) (k := 1) (As := [_, _]) dX7_fillArea_28 rfl rfl rfl rfl (Nat.le_of_ble_eq_true rfl) rfl (Nat.le_of_ble_eq_true rfl) (Nat.le_of_ble_eq_true rfl) (sc_containsR d _ W H (by rw [r1 _ 1 (by decide)]; exact h0) (by rw [r1 _ 1 (by decide)]; exact h1) hW hH (x0 + i) (y0 + j) (by omega) (by omega)) ?_
          refine ae_if_eq (pc := 31) (t := 49) dX7_fillArea_31 (by decide) (fun c31 => ?_) (fun c31 => ?_)
          · exact absurd c31 (by decide)
          refine ae_aload_n (pc := 34) dX7_fillArea_34 rfl ?_
          refine ae_getR (pc := 35) (k := 1) (c := 7) (j := 2) (q := 2) dX7_fillArea_35 rfl rfl (Nat.le_of_ble_eq_true rfl) rfl (Nat.le_of_ble_eq_true rfl) rfl ?_
          refine ae_aload_n (pc := 38) dX7_fillArea_38 rfl ?_
          refine ae_iload (pc := 39) dX7_fillArea_39 rfl ?_
          refine ae_iload (pc := 41) dX7_fillArea_41 rfl ?_
          refine ae_pcallV (pc := 43) (z := zX7_place) (k := 1) (As := [_, _]) dX7_fillArea_43 rfl rfl rfl rfl (Nat.le_of_ble_eq_true rfl) rfl (Nat.le_of_ble_eq_true rfl) (Nat.le_of_ble_eq_true rfl) (sc_placeR d _ W (by rw [r1 _ 1 (by decide)]; exact h0) (x0 + i) (y0 + j)) ?_
          refine ae_iload (pc := 46) dX7_fillArea_46 rfl ?_
          refine ae_iastore (pc := 48) (k := 2) (N := 256) ((y0 + j) * W + (x0 + i)) dX7_fillArea_48 (Nat.le_of_ble_eq_true rfl) rfl rfl rfl hpl rfl ?_
          refine ae_M (M' := (am_u M.1 2 (rcJ (M.1 2) W x0 y0 w j (i + 1) c), M.2)) (by rw [au1, am_u_u, rcJ_s _ _ (by omega)]) ?_
          refine ae_iinc (pc := 49) (v := nI (x0 + (i + 1))) dX7_fillArea_49 rfl (nI_inc (x0 + i)) ?_
          refine ae_goto (pc := 52) (t := 15) dX7_fillArea_52 (by decide) ?_
          exact ihi hi2
      refine ae_iload_n (pc := 12) dX7_fillArea_12 rfl ?_
      refine ae_istore (pc := 13) dX7_fillArea_13 rfl (Nat.le_of_ble_eq_true rfl) ?_
      exact inner
  refine ae_M ?_ outer
  rw [rcJ_0, am_u_eta]
theorem sc_addNoise (d : Nat) (M : am_M) (f : fT) (hg : AG M f) (hf : wf f) (s am : Nat) (hs : s < 2147483648) (ha : 1 ≤ am ∧ am ≤ 64) : am_R (d + 3) zX7_addNoise [.ref 1, .int (nI s), .int (nI am)] M (fun v M' => v = none ∧ ∃ p', M' = (am_u M.1 2 p', M.2) ∧ ∀ q, q < fA f → p' q = (nzA f (nI am) (nI s).toInt64 (fA f)).2 (2 + q)) := by
  refine ae_enter (z := zX7_addNoise) (y := yX7_addNoise) (cc := cX7_addNoise) (mL := 10) (rt := none) (ci := 7) (st := false) (np := 2) (L := [some (.ref 1), some (.int (nI s)), some (.int (nI am)), none, none, none, none, none, none, none]) rfl (by decide) (Nat.le_of_ble_eq_true rfl) rfl ?_
  have hA := fA_le hf.1
  rw [nI_i2l hs]
  have r1 : ∀ g k, k ≠ 2 → ((am_u M.1 2 g, M.2) : am_M).1 k = M.1 k := fun g k hk => au0 _ _ _ hk
  have agp : ∀ g : fT, am_R (d + 2) zX7_area [.ref 1] (am_u M.1 2 g, M.2) (fun v M' => v = some (.int (nI (fA f))) ∧ M' = (am_u M.1 2 g, M.2)) := by
    intro g
    exact sc_areaR (d + 1) _ (fW f) (fH f) (by rw [r1 g 1 (by decide)]; exact (AG_w hg hf.1).1) (by rw [r1 g 1 (by decide)]; exact (AG_w hg hf.1).2.1)
  have main : ∀ g : fT, ∀ s0, s0 < 2147483648 → (nzA f (nI am) (nL s) 0).1 = nL s0 → (∀ q, q < 0 → g q = (nzA f (nI am) (nL s) 0).2 (2 + q)) → (∀ q, 0 ≤ q → g q = M.1 2 q) → am_E none (am_R (d + 2)) cX7_addNoise 7 none (fun v M' => v = none ∧ ∃ p', M' = (am_u M.1 2 p', M.2) ∧ ∀ q, q < fA f → p' q = (nzA f (nI am) (nL s) (fA f)).2 (2 + q)) (18, [some (.ref 1), some (.int (nI s)), some (.int (nI am)), some (.int (nI (2 * am + 1))), some (.long (nL s0)), none, some (.int (nI 0)), none, none, none], [], (am_u M.1 2 g, M.2)) := by
    refine am_down (P := fun p => ∀ g : fT, ∀ s0, s0 < 2147483648 → (nzA f (nI am) (nL s) p).1 = nL s0 → (∀ q, q < p → g q = (nzA f (nI am) (nL s) p).2 (2 + q)) → (∀ q, p ≤ q → g q = M.1 2 q) → am_E none (am_R (d + 2)) cX7_addNoise 7 none _ (18, [some (.ref 1), some (.int (nI s)), some (.int (nI am)), some (.int (nI (2 * am + 1))), some (.long (nL s0)), none, some (.int (nI p)), none, none, none], [], (am_u M.1 2 g, M.2))) (fA f) (fun p hp ih g s0 hs0 hx hg1 hg2 => ?_)
    refine ae_iload (pc := 18) dX7_addNoise_18 rfl ?_
    refine ae_aload_n (pc := 20) dX7_addNoise_20 rfl ?_
    refine ae_pcallV (pc := 21) (z := zX7_area) (k := 1) (As := []) dX7_addNoise_21 rfl rfl rfl rfl (Nat.le_of_ble_eq_true rfl) rfl (Nat.le_of_ble_eq_true rfl) (Nat.le_of_ble_eq_true rfl) (agp g) ?_
    refine ae_icmp_ge (pc := 24) (t := 128) dX7_addNoise_24 (by decide) (fun c24 => ?_) (fun c24 => ?_)
    · have hp2 : p = fA f := by rw [nI_leI (by omega) (by omega)] at c24; omega
      subst hp2
      refine ae_return (pc := 128) dX7_addNoise_128 rfl ?_
      exact ⟨rfl, g, rfl, hg1⟩
    · have hp2 : p < fA f := by rw [nI_leI (by omega) (by omega)] at c24; omega
      have gp : ((am_u M.1 2 g, M.2) : am_M).1 2 p = f (2 + p) := by rw [au1, hg2 p (Nat.le_refl p)]; exact hg.2.1 p hp2
      have hop := sc_isOpaqueR (d + 1) (am_u M.1 2 g, M.2) p (by omega) _ gp
      by_cases ho : f (2 + p) = -1
      · rw [bI_f (fun q => q ho)] at hop
        have e : nzA f (nI am) (nL s) (p + 1) = ((nzA f (nI am) (nL s) p).1, upd (nzA f (nI am) (nL s) p).2 (2 + p) (-1)) := by rw [nzA_s, if_pos ho]
        refine ae_aload_n (pc := 27) dX7_addNoise_27 rfl ?_
        refine ae_iload (pc := 28) dX7_addNoise_28 rfl ?_
        refine ae_pcallV (pc := 30) (z := zX7_isOpaque) (k := 1) (As := [_]) dX7_addNoise_30 rfl rfl rfl rfl (Nat.le_of_ble_eq_true rfl) rfl (Nat.le_of_ble_eq_true rfl) (Nat.le_of_ble_eq_true rfl) (hop) ?_
        refine ae_if_ne (pc := 33) (t := 39) dX7_addNoise_33 (by decide) (fun c33 => ?_) (fun c33 => ?_)
        · exact absurd rfl c33
        refine ae_goto (pc := 36) (t := 122) dX7_addNoise_36 (by decide) ?_
        refine ae_iinc (pc := 122) (v := nI (p + 1)) dX7_addNoise_122 rfl (nI_inc p) ?_
        refine ae_goto (pc := 125) (t := 18) dX7_addNoise_125 (by decide) ?_
        refine ih hp2 g s0 hs0 (by rw [e]; exact hx) (fun q hq => ?_) (fun q hq => hg2 q (by omega))
        rw [e]
        show _ = upd _ _ _ _
        by_cases hqp : q = p
        · subst hqp; rw [upd_self, ← ho, ← gp, au1]
        · rw [upd_ne _ _ (by omega)]; exact hg1 q (by omega)
      · rw [bI_t ho] at hop
        have e : nzA f (nI am) (nL s) (p + 1) = ((nzK (f (2 + p)) (nI am) (nL s0) 3).1, upd (nzA f (nI am) (nL s) p).2 (2 + p) (nzK (f (2 + p)) (nI am) (nL s0) 3).2) := by rw [nzA_s, if_neg ho, hx]
        have inner : am_E none (am_R (d + 2)) cX7_addNoise 7 none (fun v M' => v = none ∧ ∃ p', M' = (am_u M.1 2 p', M.2) ∧ ∀ q, q < fA f → p' q = (nzA f (nI am) (nL s) (fA f)).2 (2 + q)) (45, [some (.ref 1), some (.int (nI s)), some (.int (nI am)), some (.int (nI (2 * am + 1))), some (.long (nL (nzt s0 0))), none, some (.int (nI p)), some (.int (nzK (f (2 + p)) (nI am) (nL s0) 0).2), some (.int (nI 0)), none], [], (am_u M.1 2 g, M.2)) := by
          refine am_down (P := fun k => am_E none (am_R (d + 2)) cX7_addNoise 7 none _ (45, [some (.ref 1), some (.int (nI s)), some (.int (nI am)), some (.int (nI (2 * am + 1))), some (.long (nL (nzt s0 k))), none, some (.int (nI p)), some (.int (nzK (f (2 + p)) (nI am) (nL s0) k).2), some (.int (nI k)), none], [], (am_u M.1 2 g, M.2))) 3 (fun k hk ihk => ?_)
          refine ae_iload (pc := 45) dX7_addNoise_45 rfl ?_
          refine ae_iconst (pc := 47) (v := nI 3) dX7_addNoise_47 (by decide) ?_
          refine ae_icmp_ge (pc := 48) (t := 113) dX7_addNoise_48 (by decide) (fun c48 => ?_) (fun c48 => ?_)
          · have hk2 : k = 3 := by rw [nI_leI (by omega) (by omega)] at c48; omega
            subst hk2
            have fin := ih hp2 (upd g p (nzK (f (2 + p)) (nI am) (nL s0) 3).2) (nzt s0 3) (nzt_lt hs0 3) (by rw [e]; exact nzK_1 hs0 _ _ 3) (fun q hq => by
              rw [e]
              show _ = upd _ _ _ _
              by_cases hqp : q = p
              · subst hqp; rw [upd_self, upd_self]
              · rw [upd_ne _ _ hqp, upd_ne _ _ (by omega)]; exact hg1 q (by omega)) (fun q hq => by rw [upd_ne _ _ (by omega)]; exact hg2 q (by omega))
            refine ae_aload_n (pc := 113) dX7_addNoise_113 rfl ?_
            refine ae_getR (pc := 114) (k := 1) (c := 7) (j := 2) (q := 2) dX7_addNoise_114 rfl rfl (Nat.le_of_ble_eq_true rfl) rfl (Nat.le_of_ble_eq_true rfl) rfl ?_
            refine ae_iload (pc := 117) dX7_addNoise_117 rfl ?_
            refine ae_iload (pc := 119) dX7_addNoise_119 rfl ?_
            refine ae_iastore (pc := 121) (k := 2) (N := 256) (p) dX7_addNoise_121 (Nat.le_of_ble_eq_true rfl) rfl rfl rfl (by omega) rfl ?_
            refine ae_M (M' := (am_u M.1 2 (upd g p (nzK (f (2 + p)) (nI am) (nL s0) 3).2), M.2)) (by rw [au1, am_u_u]) ?_
            refine ae_iinc (pc := 122) (v := nI (p + 1)) dX7_addNoise_122 rfl (nI_inc p) ?_
            refine ae_goto (pc := 125) (t := 18) dX7_addNoise_125 (by decide) ?_
            exact ae_forget [7, 8] rfl fin
          · have hk2 : k < 3 := by rw [nI_leI (by omega) (by omega)] at c48; omega
            have hsk := nzt_lt hs0 k
            have hsk1 := nzs_lt (nzt s0 k)
            have hdv : nzs (nzt s0 k) / 65536 < 32768 := by omega
            have hb : nI (nzs (nzt s0 k) / 65536 % (2 * am + 1)) - nI am = nzB (nzN (nzK (f (2 + p)) (nI am) (nL s0) k).1) (nI am) := by rw [nzK_1 hs0, nzN_n hsk, nzB_n hsk1 ha.2]
            refine ae_ldc2_w (pc := 51) dX7_addNoise_51 rfl ?_
            refine ae_lload (pc := 54) dX7_addNoise_54 rfl ?_
            refine ae_lmul (pc := 56) dX7_addNoise_56 rfl ?_
            refine ae_ldc2_w (pc := 57) dX7_addNoise_57 rfl ?_
            refine ae_ladd (pc := 60) dX7_addNoise_60 rfl ?_
            refine ae_ldc2_w (pc := 61) dX7_addNoise_61 rfl ?_
            refine ae_land (pc := 64) (v := nL (nzs (nzt s0 k))) dX7_addNoise_64 (nzC_n hsk) ?_
            refine ae_lstore (pc := 65) dX7_addNoise_65 rfl (Nat.le_of_ble_eq_true rfl) ?_
            refine ae_lload (pc := 67) dX7_addNoise_67 rfl ?_
            refine ae_ldc2_w (pc := 69) dX7_addNoise_69 rfl ?_
            refine ae_ldiv (pc := 72) (v := nL (nzs (nzt s0 k) / 65536)) dX7_addNoise_72 (by decide) (nL_div (b := 65536) (by omega) (by decide)) ?_
            refine ae_l2i (pc := 73) (v := nI (nzs (nzt s0 k) / 65536)) dX7_addNoise_73 (nL_l2i (by omega)) ?_
            refine ae_iload_n (pc := 74) dX7_addNoise_74 rfl ?_
            refine ae_irem (pc := 75) (v := nI (nzs (nzt s0 k) / 65536 % (2 * am + 1))) dX7_addNoise_75 (nI_ne0 (by omega) (by omega)) (nI_mod (by omega) (by omega)) ?_
            refine ae_iload_n (pc := 76) dX7_addNoise_76 rfl ?_
            refine ae_isub (pc := 77) (v := _) dX7_addNoise_77 hb ?_
            refine ae_istore (pc := 78) dX7_addNoise_78 rfl (Nat.le_of_ble_eq_true rfl) ?_
            refine ae_sipush (pc := 80) (v := nI 256) dX7_addNoise_80 (by decide) ?_
            refine ae_iload (pc := 83) dX7_addNoise_83 rfl ?_
            refine ae_imul (pc := 85) dX7_addNoise_85 rfl ?_
            refine ae_aload_n (pc := 86) dX7_addNoise_86 rfl ?_
            refine ae_getR (pc := 87) (k := 1) (c := 7) (j := 2) (q := 2) dX7_addNoise_87 rfl rfl (Nat.le_of_ble_eq_true rfl) rfl (Nat.le_of_ble_eq_true rfl) rfl ?_
            refine ae_iload (pc := 90) dX7_addNoise_90 rfl ?_
            refine ae_iaload (pc := 92) (k := 2) (N := 256) (v := f (2 + p)) _ dX7_addNoise_92 (Nat.le_of_ble_eq_true rfl) rfl rfl rfl (by omega) gp ?_
            refine ae_iload (pc := 93) dX7_addNoise_93 rfl ?_
            refine ae_pcallS (pc := 95) (z := zX10_channelOf) (As := [_, _]) dX7_addNoise_95 rfl rfl rfl rfl (Nat.le_of_ble_eq_true rfl) (sc_channelOf (d + 1) _ _ _) ?_
            refine ae_iload (pc := 98) dX7_addNoise_98 rfl ?_
            refine ae_iadd (pc := 100) dX7_addNoise_100 rfl ?_
            refine ae_pcallS (pc := 101) (z := zX10_limited) (As := [_]) dX7_addNoise_101 rfl rfl rfl rfl (Nat.le_of_ble_eq_true rfl) (sc_limited d _ _) ?_
            refine ae_iadd (pc := 104) (v := (nzK (f (2 + p)) (nI am) (nL s0) (k + 1)).2) dX7_addNoise_104 rfl ?_
            refine ae_istore (pc := 105) dX7_addNoise_105 rfl (Nat.le_of_ble_eq_true rfl) ?_
            refine ae_iinc (pc := 107) (v := nI (k + 1)) dX7_addNoise_107 rfl (nI_inc k) ?_
            refine ae_goto (pc := 110) (t := 45) dX7_addNoise_110 (by decide) ?_
            exact ae_forget [9] rfl (ihk hk2)
        refine ae_aload_n (pc := 27) dX7_addNoise_27 rfl ?_
        refine ae_iload (pc := 28) dX7_addNoise_28 rfl ?_
        refine ae_pcallV (pc := 30) (z := zX7_isOpaque) (k := 1) (As := [_]) dX7_addNoise_30 rfl rfl rfl rfl (Nat.le_of_ble_eq_true rfl) rfl (Nat.le_of_ble_eq_true rfl) (Nat.le_of_ble_eq_true rfl) (hop) ?_
        refine ae_if_ne (pc := 33) (t := 39) dX7_addNoise_33 (by decide) (fun c33 => ?_) (fun c33 => ?_)
        rotate_left
        · exact absurd (Classical.not_not.mp c33) (by decide)
        refine ae_iconst (pc := 39) (v := nI 0) dX7_addNoise_39 (by decide) ?_
        refine ae_istore (pc := 40) dX7_addNoise_40 rfl (Nat.le_of_ble_eq_true rfl) ?_
        refine ae_iconst (pc := 42) (v := nI 0) dX7_addNoise_42 (by decide) ?_
        refine ae_istore (pc := 43) dX7_addNoise_43 rfl (Nat.le_of_ble_eq_true rfl) ?_
        exact inner
  have start := main (M.1 2) s hs rfl (fun q hq => absurd hq (Nat.not_lt_zero q)) (fun q _ => rfl)
  rw [am_u_eta] at start
  refine ae_iconst (pc := 0) (v := nI 2) dX7_addNoise_0 (by decide) ?_
  refine ae_iload_n (pc := 1) dX7_addNoise_1 rfl ?_
  refine ae_imul (pc := 2) (v := nI (2 * am)) dX7_addNoise_2 (nI_mul _ _) ?_
  refine ae_iconst (pc := 3) (v := nI 1) dX7_addNoise_3 (by decide) ?_
  refine ae_iadd (pc := 4) (v := nI (2 * am + 1)) dX7_addNoise_4 (nI_add _ _) ?_
  refine ae_istore_n (pc := 5) dX7_addNoise_5 rfl (Nat.le_of_ble_eq_true rfl) ?_
  refine ae_iload_n (pc := 6) dX7_addNoise_6 rfl ?_
  refine ae_if_gt (pc := 7) (t := 11) dX7_addNoise_7 (by decide) (fun c7 => ?_) (fun c7 => ?_)
  · refine ae_iload_n (pc := 11) dX7_addNoise_11 rfl ?_
    refine ae_i2l (pc := 12) (v := nL s) dX7_addNoise_12 (nI_i2l hs) ?_
    refine ae_lstore (pc := 13) dX7_addNoise_13 rfl (Nat.le_of_ble_eq_true rfl) ?_
    refine ae_iconst (pc := 15) (v := nI 0) dX7_addNoise_15 (by decide) ?_
    refine ae_istore (pc := 16) dX7_addNoise_16 rfl (Nat.le_of_ble_eq_true rfl) ?_
    exact start
  · exact absurd ((nI_ltI (a := 0) (by decide) (by omega)).mpr (by omega)) c7
theorem sc_exchange (d : Nat) (M : am_M) (f : fT) (hg : AG M f) (hf : wf f) (a b : Nat) (ha : a < fN f) (hb : b < fN f) : am_R (d + 2) zX7_exchange [.ref 1, .int (nI a), .int (nI b)] M (fun v M' => v = none ∧ NW M (raF f (swO a b)) M') := by
  refine ae_enter (z := zX7_exchange) (y := yX7_exchange) (cc := cX7_exchange) (mL := 6) (rt := none) (ci := 7) (st := false) (np := 2) (L := [some (.ref 1), some (.int (nI a)), some (.int (nI b)), none, none, none]) rfl (by decide) (Nat.le_of_ble_eq_true rfl) rfl ?_
  have hA := fA_le hf.1
  have hN := hf.1.2.2.2
  have hh1 := sc_hasEntry d M f hg hf.1 (nI a)
  rw [bI_t (inE_of hf.1 ha)] at hh1
  have hh2 := sc_hasEntry d M f hg hf.1 (nI b)
  rw [bI_t (inE_of hf.1 hb)] at hh2
  have last : ∀ (c l : fT), c = upd (upd (M.1 3) a (M.1 3 b)) b (M.1 3 a) → l = upd (upd (M.1 4) a (vp_nar .boolean (M.1 4 b))) b (vp_nar .boolean (M.1 4 a)) → ∀ i : fT, (∀ q, q < 0 → i q = swX a b (M.1 5 q)) → (∀ q, 0 ≤ q → i q = M.1 5 q) → ∀ x y, am_E none (am_R (d + 1)) cX7_exchange 7 none (fun v M' => v = none ∧ NW M (raF f (swO a b)) M') (74, [some (.ref 1), some (.int (nI a)), some (.int (nI b)), some (.int x), some (.int y), some (.int (nI 0))], [], nwM M (M.1 1) (M.1 2) c l i) := by
    intro c l hc hl
    refine am_down (P := fun p => ∀ i : fT, (∀ q, q < p → i q = swX a b (M.1 5 q)) → (∀ q, p ≤ q → i q = M.1 5 q) → ∀ x y, am_E none (am_R (d + 1)) cX7_exchange 7 none _ (74, [some (.ref 1), some (.int (nI a)), some (.int (nI b)), some (.int x), some (.int y), some (.int (nI p))], [], nwM M (M.1 1) (M.1 2) c l i)) (fA f) (fun p hp ih i hi1 hi2 x y => ?_)
    refine ae_iload (pc := 74) dX7_exchange_74 rfl ?_
    refine ae_aload_n (pc := 76) dX7_exchange_76 rfl ?_
    refine ae_pcallV (pc := 77) (z := zX7_area) (k := 1) (As := []) dX7_exchange_77 rfl rfl rfl rfl (Nat.le_of_ble_eq_true rfl) rfl (Nat.le_of_ble_eq_true rfl) (Nat.le_of_ble_eq_true rfl) (sc_areaR d _ (fW f) (fH f) (by rw [nwM_1]; exact (AG_w hg hf.1).1) (by rw [nwM_1]; exact (AG_w hg hf.1).2.1)) ?_
    refine ae_icmp_ge (pc := 80) (t := 130) dX7_exchange_80 (by decide) (fun c80 => ?_) (fun c80 => ?_)
    · have hp2 : p = fA f := by have c80' : nI (fA f) ≤ nI p := c80; rw [nI_leI (by omega) (by omega)] at c80'; omega
      subst hp2
      refine ae_return (pc := 130) dX7_exchange_130 rfl ?_
      exact ⟨rfl, _, _, _, _, _, rfl, by rw [hc, hl]; exact agS_sw hf hg ha hb hi1⟩
    · have hp2 : p < fA f := by have c80' : ¬ nI (fA f) ≤ nI p := c80; rw [nI_leI (by omega) (by omega)] at c80'; omega
      have ip : (nwM M (M.1 1) (M.1 2) c l i).1 5 p = M.1 5 p := by rw [nwM_5]; exact hi2 p (Nat.le_refl p)
      have fin : ∀ z, z = swX a b (M.1 5 p) → am_E none (am_R (d + 1)) cX7_exchange 7 none (fun v M' => v = none ∧ NW M (raF f (swO a b)) M') (74, [some (.ref 1), some (.int (nI a)), some (.int (nI b)), some (.int x), some (.int y), some (.int (nI (p + 1)))], [], nwM M (M.1 1) (M.1 2) c l (upd i p z)) := by
        intro z hz
        refine ih hp2 _ (fun q hq => ?_) (fun q hq => ?_) x y
        · by_cases hqp : q = p
          · subst hqp; rw [upd_self, hz]
          · rw [upd_ne _ _ hqp]; exact hi1 q (by omega)
        · rw [upd_ne _ _ (by omega)]; exact hi2 q (by omega)
      have fin0 : M.1 5 p = swX a b (M.1 5 p) → am_E none (am_R (d + 1)) cX7_exchange 7 none (fun v M' => v = none ∧ NW M (raF f (swO a b)) M') (74, [some (.ref 1), some (.int (nI a)), some (.int (nI b)), some (.int x), some (.int y), some (.int (nI (p + 1)))], [], nwM M (M.1 1) (M.1 2) c l i) := by
        intro hz
        have := fin (i p) (by rw [hi2 p (Nat.le_refl p)]; exact hz)
        rwa [upd_eta] at this
      refine ae_aload_n (pc := 83) dX7_exchange_83 rfl ?_
      refine ae_getR (pc := 84) (k := 1) (c := 7) (j := 8) (q := 5) dX7_exchange_84 rfl rfl (Nat.le_of_ble_eq_true rfl) rfl (Nat.le_of_ble_eq_true rfl) rfl ?_
      refine ae_iload (pc := 87) dX7_exchange_87 rfl ?_
      refine ae_iaload (pc := 89) (k := 5) (N := 256) (v := M.1 5 p) _ dX7_exchange_89 (Nat.le_of_ble_eq_true rfl) rfl rfl rfl (by omega) ip ?_
      refine ae_iload_n (pc := 90) dX7_exchange_90 rfl ?_
      refine ae_icmp_ne (pc := 91) (t := 105) dX7_exchange_91 (by decide) (fun c91 => ?_) (fun c91 => ?_)
      · refine ae_aload_n (pc := 105) dX7_exchange_105 rfl ?_
        refine ae_getR (pc := 106) (k := 1) (c := 7) (j := 8) (q := 5) dX7_exchange_106 rfl rfl (Nat.le_of_ble_eq_true rfl) rfl (Nat.le_of_ble_eq_true rfl) rfl ?_
        refine ae_iload (pc := 109) dX7_exchange_109 rfl ?_
        refine ae_iaload (pc := 111) (k := 5) (N := 256) (v := M.1 5 p) _ dX7_exchange_111 (Nat.le_of_ble_eq_true rfl) rfl rfl rfl (by omega) ip ?_
        refine ae_iload_n (pc := 112) dX7_exchange_112 rfl ?_
        refine ae_icmp_ne (pc := 113) (t := 124) dX7_exchange_113 (by decide) (fun c113 => ?_) (fun c113 => ?_)
        · refine ae_iinc (pc := 124) (v := nI (p + 1)) dX7_exchange_124 rfl (nI_inc p) ?_
          refine ae_goto (pc := 127) (t := 74) dX7_exchange_127 (by decide) ?_
          first | exact fin (nI b) (by unfold swX; rw [if_pos (Classical.not_not.mp c91)]) | exact fin (nI a) (by unfold swX; rw [if_neg c91, if_pos (Classical.not_not.mp c113)]) | exact fin0 (by unfold swX; rw [if_neg c91, if_neg c113])
        · refine ae_aload_n (pc := 116) dX7_exchange_116 rfl ?_
          refine ae_getR (pc := 117) (k := 1) (c := 7) (j := 8) (q := 5) dX7_exchange_117 rfl rfl (Nat.le_of_ble_eq_true rfl) rfl (Nat.le_of_ble_eq_true rfl) rfl ?_
          refine ae_iload (pc := 120) dX7_exchange_120 rfl ?_
          refine ae_iload_n (pc := 122) dX7_exchange_122 rfl ?_
          refine ae_iastore (pc := 123) (k := 5) (N := 256) (p) dX7_exchange_123 (Nat.le_of_ble_eq_true rfl) rfl rfl rfl (by omega) rfl ?_
          refine ae_M (nwM_u5 _ _ _ _ _ _ _) ?_
          rw [nwM_5]
          refine ae_iinc (pc := 124) (v := nI (p + 1)) dX7_exchange_124 rfl (nI_inc p) ?_
          refine ae_goto (pc := 127) (t := 74) dX7_exchange_127 (by decide) ?_
          first | exact fin (nI b) (by unfold swX; rw [if_pos (Classical.not_not.mp c91)]) | exact fin (nI a) (by unfold swX; rw [if_neg c91, if_pos (Classical.not_not.mp c113)]) | exact fin0 (by unfold swX; rw [if_neg c91, if_neg c113])
      · refine ae_aload_n (pc := 94) dX7_exchange_94 rfl ?_
        refine ae_getR (pc := 95) (k := 1) (c := 7) (j := 8) (q := 5) dX7_exchange_95 rfl rfl (Nat.le_of_ble_eq_true rfl) rfl (Nat.le_of_ble_eq_true rfl) rfl ?_
        refine ae_iload (pc := 98) dX7_exchange_98 rfl ?_
        refine ae_iload_n (pc := 100) dX7_exchange_100 rfl ?_
        refine ae_iastore (pc := 101) (k := 5) (N := 256) (p) dX7_exchange_101 (Nat.le_of_ble_eq_true rfl) rfl rfl rfl (by omega) rfl ?_
        refine ae_M (nwM_u5 _ _ _ _ _ _ _) ?_
        rw [nwM_5]
        refine ae_goto (pc := 102) (t := 124) dX7_exchange_102 (by decide) ?_
        refine ae_iinc (pc := 124) (v := nI (p + 1)) dX7_exchange_124 rfl (nI_inc p) ?_
        refine ae_goto (pc := 127) (t := 74) dX7_exchange_127 (by decide) ?_
        first | exact fin (nI b) (by unfold swX; rw [if_pos (Classical.not_not.mp c91)]) | exact fin (nI a) (by unfold swX; rw [if_neg c91, if_pos (Classical.not_not.mp c113)]) | exact fin0 (by unfold swX; rw [if_neg c91, if_neg c113])
  have lst := last _ _ rfl rfl (M.1 5) (fun q hq => absurd hq (Nat.not_lt_zero q)) (fun q _ => rfl)
  refine ae_aload_n (pc := 0) dX7_exchange_0 rfl ?_
  refine ae_iload_n (pc := 1) dX7_exchange_1 rfl ?_
  refine ae_pcallV (pc := 2) (z := zX7_hasEntry) (k := 1) (As := [_]) dX7_exchange_2 rfl rfl rfl rfl (Nat.le_of_ble_eq_true rfl) rfl (Nat.le_of_ble_eq_true rfl) (Nat.le_of_ble_eq_true rfl) (hh1) ?_
  refine ae_if_eq (pc := 5) (t := 16) dX7_exchange_5 (by decide) (fun c5 => ?_) (fun c5 => ?_)
  · exact absurd c5 (by decide)
  refine ae_aload_n (pc := 8) dX7_exchange_8 rfl ?_
  refine ae_iload_n (pc := 9) dX7_exchange_9 rfl ?_
  refine ae_pcallV (pc := 10) (z := zX7_hasEntry) (k := 1) (As := [_]) dX7_exchange_10 rfl rfl rfl rfl (Nat.le_of_ble_eq_true rfl) rfl (Nat.le_of_ble_eq_true rfl) (Nat.le_of_ble_eq_true rfl) (hh2) ?_
  refine ae_if_ne (pc := 13) (t := 17) dX7_exchange_13 (by decide) (fun c13 => ?_) (fun c13 => ?_)
  rotate_left
  · exact absurd (Classical.not_not.mp c13) (by decide)
  refine ae_aload_n (pc := 17) dX7_exchange_17 rfl ?_
  refine ae_getR (pc := 18) (k := 1) (c := 7) (j := 4) (q := 3) dX7_exchange_18 rfl rfl (Nat.le_of_ble_eq_true rfl) rfl (Nat.le_of_ble_eq_true rfl) rfl ?_
  refine ae_iload_n (pc := 21) dX7_exchange_21 rfl ?_
  refine ae_iaload (pc := 22) (k := 3) (N := 16) _ dX7_exchange_22 (Nat.le_of_ble_eq_true rfl) rfl rfl rfl (by omega) rfl ?_
  refine ae_istore_n (pc := 23) dX7_exchange_23 rfl (Nat.le_of_ble_eq_true rfl) ?_
  refine ae_aload_n (pc := 24) dX7_exchange_24 rfl ?_
  refine ae_getR (pc := 25) (k := 1) (c := 7) (j := 4) (q := 3) dX7_exchange_25 rfl rfl (Nat.le_of_ble_eq_true rfl) rfl (Nat.le_of_ble_eq_true rfl) rfl ?_
  refine ae_iload_n (pc := 28) dX7_exchange_28 rfl ?_
  refine ae_aload_n (pc := 29) dX7_exchange_29 rfl ?_
  refine ae_getR (pc := 30) (k := 1) (c := 7) (j := 4) (q := 3) dX7_exchange_30 rfl rfl (Nat.le_of_ble_eq_true rfl) rfl (Nat.le_of_ble_eq_true rfl) rfl ?_
  refine ae_iload_n (pc := 33) dX7_exchange_33 rfl ?_
  refine ae_iaload (pc := 34) (k := 3) (N := 16) _ dX7_exchange_34 (Nat.le_of_ble_eq_true rfl) rfl rfl rfl (by omega) rfl ?_
  refine ae_iastore (pc := 35) (k := 3) (N := 16) _ dX7_exchange_35 (Nat.le_of_ble_eq_true rfl) rfl rfl rfl (by omega) rfl ?_
  refine ae_M (nwX3 M _) ?_
  refine ae_aload_n (pc := 36) dX7_exchange_36 rfl ?_
  refine ae_getR (pc := 37) (k := 1) (c := 7) (j := 4) (q := 3) dX7_exchange_37 rfl rfl (Nat.le_of_ble_eq_true rfl) rfl (Nat.le_of_ble_eq_true rfl) rfl ?_
  refine ae_iload_n (pc := 40) dX7_exchange_40 rfl ?_
  refine ae_iload_n (pc := 41) dX7_exchange_41 rfl ?_
  refine ae_iastore (pc := 42) (k := 3) (N := 16) _ dX7_exchange_42 (Nat.le_of_ble_eq_true rfl) rfl rfl rfl (by omega) rfl ?_
  refine ae_M (nwM_u3 _ _ _ _ _ _ _) ?_
  rw [nwM_3]
  refine ae_aload_n (pc := 43) dX7_exchange_43 rfl ?_
  refine ae_getR (pc := 44) (k := 1) (c := 7) (j := 5) (q := 4) dX7_exchange_44 rfl rfl (Nat.le_of_ble_eq_true rfl) rfl (Nat.le_of_ble_eq_true rfl) rfl ?_
  refine ae_iload_n (pc := 47) dX7_exchange_47 rfl ?_
  refine ae_baload (pc := 48) (k := 4) (N := 16) (v := M.1 4 a) _ dX7_exchange_48 (Nat.le_of_ble_eq_true rfl) rfl rfl rfl (by omega) (by rw [nwM_4]) ?_
  refine ae_istore (pc := 49) dX7_exchange_49 rfl (Nat.le_of_ble_eq_true rfl) ?_
  refine ae_aload_n (pc := 51) dX7_exchange_51 rfl ?_
  refine ae_getR (pc := 52) (k := 1) (c := 7) (j := 5) (q := 4) dX7_exchange_52 rfl rfl (Nat.le_of_ble_eq_true rfl) rfl (Nat.le_of_ble_eq_true rfl) rfl ?_
  refine ae_iload_n (pc := 55) dX7_exchange_55 rfl ?_
  refine ae_aload_n (pc := 56) dX7_exchange_56 rfl ?_
  refine ae_getR (pc := 57) (k := 1) (c := 7) (j := 5) (q := 4) dX7_exchange_57 rfl rfl (Nat.le_of_ble_eq_true rfl) rfl (Nat.le_of_ble_eq_true rfl) rfl ?_
  refine ae_iload_n (pc := 60) dX7_exchange_60 rfl ?_
  refine ae_baload (pc := 61) (k := 4) (N := 16) (v := M.1 4 b) _ dX7_exchange_61 (Nat.le_of_ble_eq_true rfl) rfl rfl rfl (by omega) (by rw [nwM_4]) ?_
  refine ae_bastore (pc := 62) (k := 4) (N := 16) _ dX7_exchange_62 (Nat.le_of_ble_eq_true rfl) rfl rfl rfl (by omega) rfl ?_
  refine ae_M (nwM_u4 _ _ _ _ _ _ _) ?_
  rw [nwM_4]
  refine ae_aload_n (pc := 63) dX7_exchange_63 rfl ?_
  refine ae_getR (pc := 64) (k := 1) (c := 7) (j := 5) (q := 4) dX7_exchange_64 rfl rfl (Nat.le_of_ble_eq_true rfl) rfl (Nat.le_of_ble_eq_true rfl) rfl ?_
  refine ae_iload_n (pc := 67) dX7_exchange_67 rfl ?_
  refine ae_iload (pc := 68) dX7_exchange_68 rfl ?_
  refine ae_bastore (pc := 70) (k := 4) (N := 16) _ dX7_exchange_70 (Nat.le_of_ble_eq_true rfl) rfl rfl rfl (by omega) rfl ?_
  refine ae_M (nwM_u4 _ _ _ _ _ _ _) ?_
  rw [nwM_4]
  refine ae_iconst (pc := 71) (v := nI 0) dX7_exchange_71 (by decide) ?_
  refine ae_istore (pc := 72) dX7_exchange_72 rfl (Nat.le_of_ble_eq_true rfl) ?_
  exact lst _ _

