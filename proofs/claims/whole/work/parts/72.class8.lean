theorem sc_totalError (d : Nat) (M : am_M) (f : fT) (hg : AG M f) (hf : wf f) (h1 : f 292 = 1) : am_R (d + 3) zX6_totalError [.ref 32] M (fun v M' => v = some (.int (esum f (fA f))) ∧ M' = M) := by
  refine ae_enter (z := zX6_totalError) (y := yX6_totalError) (cc := cX6_totalError) (mL := 3) (rt := some .int) (ci := 6) (st := false) (np := 0) (L := [some (.ref 32), none, none]) rfl (by decide) (Nat.le_of_ble_eq_true rfl) rfl ?_
  have hA := fA_le hf.1
  refine ae_iconst (pc := 0) (v := nI 0) dX6_totalError_0 (by decide) ?_
  refine ae_istore_n (pc := 1) dX6_totalError_1 rfl (Nat.le_of_ble_eq_true rfl) ?_
  refine ae_iconst (pc := 2) (v := nI 0) dX6_totalError_2 (by decide) ?_
  refine ae_istore_n (pc := 3) dX6_totalError_3 rfl (Nat.le_of_ble_eq_true rfl) ?_
  skip
  refine am_down (P := fun p => am_E none (am_R (d + 2)) cX6_totalError 6 (some .int) _ (4, [some (.ref 32), some (.int (esum f p)), some (.int (nI p))], [], M)) (fA f) (fun p hp ih => ?_)
  refine ae_iload_n (pc := 4) dX6_totalError_4 rfl ?_
  refine ae_aload_n (pc := 5) dX6_totalError_5 rfl ?_
  refine ae_getR (pc := 6) (k := 32) (c := 6) (j := 0) (q := 1) dX6_totalError_6 rfl rfl (Nat.le_of_ble_eq_true rfl) rfl (Nat.le_of_ble_eq_true rfl) rfl ?_
  refine ae_pcallV (pc := 9) (z := zX7_area) (k := 1) (As := []) dX6_totalError_9 rfl rfl rfl rfl (Nat.le_of_ble_eq_true rfl) rfl (Nat.le_of_ble_eq_true rfl) (Nat.le_of_ble_eq_true rfl) (sc_area (d + 1) M f hg hf.1) ?_
  refine ae_icmp_ge (pc := 12) (t := 43) dX6_totalError_12 (by decide) (fun c12 => ?_) (fun c12 => ?_)
  · have hp2 : p = fA f := by rw [nI_leI (by omega) (by omega)] at c12; omega
    subst hp2
    refine ae_iload_n (pc := 43) dX6_totalError_43 rfl ?_
    refine ae_ireturn (pc := 44) dX6_totalError_44 rfl ?_
    exact ⟨rfl, rfl⟩
  · have hp2 : p < fA f := by rw [nI_leI (by omega) (by omega)] at c12; omega
    have ih2 := ih hp2
    rw [esum_s] at ih2
    have hop := sc_isOpaque (d + 1) M f hg hf.1 p hp2
    by_cases ho : f (2 + p) = -1
    · rw [if_pos ho, show esum f p + nI 0 = esum f p from Int32.add_zero _] at ih2
      rw [bI_f (fun q => q ho)] at hop
      refine ae_aload_n (pc := 15) dX6_totalError_15 rfl ?_
      refine ae_getR (pc := 16) (k := 32) (c := 6) (j := 0) (q := 1) dX6_totalError_16 rfl rfl (Nat.le_of_ble_eq_true rfl) rfl (Nat.le_of_ble_eq_true rfl) rfl ?_
      refine ae_iload_n (pc := 19) dX6_totalError_19 rfl ?_
      refine ae_pcallV (pc := 20) (z := zX7_isOpaque) (k := 1) (As := [_]) dX6_totalError_20 rfl rfl rfl rfl (Nat.le_of_ble_eq_true rfl) rfl (Nat.le_of_ble_eq_true rfl) (Nat.le_of_ble_eq_true rfl) (hop) ?_
      refine ae_if_eq (pc := 23) (t := 37) dX6_totalError_23 (by decide) (fun c23 => ?_) (fun c23 => ?_)
      rotate_left
      · exact absurd rfl c23
      refine ae_iinc (pc := 37) (v := nI (p + 1)) dX6_totalError_37 rfl (nI_inc p) ?_
      refine ae_goto (pc := 40) (t := 4) dX6_totalError_40 (by decide) ?_
      exact ih2
    · rw [if_neg ho] at ih2
      rw [bI_t ho] at hop
      refine ae_aload_n (pc := 15) dX6_totalError_15 rfl ?_
      refine ae_getR (pc := 16) (k := 32) (c := 6) (j := 0) (q := 1) dX6_totalError_16 rfl rfl (Nat.le_of_ble_eq_true rfl) rfl (Nat.le_of_ble_eq_true rfl) rfl ?_
      refine ae_iload_n (pc := 19) dX6_totalError_19 rfl ?_
      refine ae_pcallV (pc := 20) (z := zX7_isOpaque) (k := 1) (As := [_]) dX6_totalError_20 rfl rfl rfl rfl (Nat.le_of_ble_eq_true rfl) rfl (Nat.le_of_ble_eq_true rfl) (Nat.le_of_ble_eq_true rfl) (hop) ?_
      refine ae_if_eq (pc := 23) (t := 37) dX6_totalError_23 (by decide) (fun c23 => ?_) (fun c23 => ?_)
      · exact absurd c23 (by decide)
      refine ae_iload_n (pc := 26) dX6_totalError_26 rfl ?_
      refine ae_aload_n (pc := 27) dX6_totalError_27 rfl ?_
      refine ae_getR (pc := 28) (k := 32) (c := 6) (j := 0) (q := 1) dX6_totalError_28 rfl rfl (Nat.le_of_ble_eq_true rfl) rfl (Nat.le_of_ble_eq_true rfl) rfl ?_
      refine ae_iload_n (pc := 31) dX6_totalError_31 rfl ?_
      refine ae_pcallV (pc := 32) (z := zX7_errorAt) (k := 1) (As := [_]) dX6_totalError_32 rfl rfl rfl rfl (Nat.le_of_ble_eq_true rfl) rfl (Nat.le_of_ble_eq_true rfl) (Nat.le_of_ble_eq_true rfl) (sc_errorAt d M f hg hf h1 p hp2 ho) ?_
      refine ae_iadd (pc := 35) dX6_totalError_35 rfl ?_
      refine ae_istore_n (pc := 36) dX6_totalError_36 rfl (Nat.le_of_ble_eq_true rfl) ?_
      refine ae_iinc (pc := 37) (v := nI (p + 1)) dX6_totalError_37 rfl (nI_inc p) ?_
      refine ae_goto (pc := 40) (t := 4) dX6_totalError_40 (by decide) ?_
      exact ih2
theorem sc_worstPixel (d : Nat) (M : am_M) (f : fT) (hg : AG M f) (hf : wf f) (h1 : f 292 = 1) : am_R (d + 3) zX6_worstPixel [.ref 32] M (fun v M' => v = some (.int (wstV f)) ∧ M' = M) := by
  refine ae_enter (z := zX6_worstPixel) (y := yX6_worstPixel) (cc := cX6_worstPixel) (mL := 6) (rt := some .int) (ci := 6) (st := false) (np := 0) (L := [some (.ref 32), none, none, none, none, none]) rfl (by decide) (Nat.le_of_ble_eq_true rfl) rfl ?_
  have hA := fA_le hf.1
  obtain ⟨a0, a1, -⟩ := AG_w hg hf.1
  obtain ⟨⟨-, v2, v3⟩, ⟨-, w2, w3⟩, -⟩ := id hf.1
  refine ae_iconst (pc := 0) (v := (-1)) dX6_worstPixel_0 (by decide) ?_
  refine ae_istore_n (pc := 1) dX6_worstPixel_1 rfl (Nat.le_of_ble_eq_true rfl) ?_
  refine ae_iconst (pc := 2) (v := (-1)) dX6_worstPixel_2 (by decide) ?_
  refine ae_istore_n (pc := 3) dX6_worstPixel_3 rfl (Nat.le_of_ble_eq_true rfl) ?_
  refine ae_iconst (pc := 4) (v := nI 0) dX6_worstPixel_4 (by decide) ?_
  refine ae_istore_n (pc := 5) dX6_worstPixel_5 rfl (Nat.le_of_ble_eq_true rfl) ?_
  skip
  have outer : am_E none (am_R (d + 2)) cX6_worstPixel 6 (some .int) (fun v M' => v = some (.int (wstV f)) ∧ M' = M) (6, [some (.ref 32), some (.int (wvI f (0 * fW f))), some (.int (wvE f (0 * fW f))), some (.int (nI 0)), none, none], [], M) := by
    refine am_down (P := fun y => am_E none (am_R (d + 2)) cX6_worstPixel 6 (some .int) _ (6, [some (.ref 32), some (.int (wvI f (y * fW f))), some (.int (wvE f (y * fW f))), some (.int (nI y)), none, none], [], M)) (fH f) (fun y hy ih => ?_)
    refine ae_iload_n (pc := 6) dX6_worstPixel_6 rfl ?_
    refine ae_aload_n (pc := 7) dX6_worstPixel_7 rfl ?_
    refine ae_getR (pc := 8) (k := 32) (c := 6) (j := 0) (q := 1) dX6_worstPixel_8 rfl rfl (Nat.le_of_ble_eq_true rfl) rfl (Nat.le_of_ble_eq_true rfl) rfl ?_
    refine ae_getI (pc := 11) (k := 1) (c := 7) (j := 1) (v := nI (fH f)) dX6_worstPixel_11 rfl rfl (Or.inl rfl) (Nat.le_of_ble_eq_true rfl) rfl (Nat.le_of_ble_eq_true rfl) a1 ?_
    refine ae_icmp_ge (pc := 14) (t := 99) dX6_worstPixel_14 (by decide) (fun c14 => ?_) (fun c14 => ?_)
    · have hy2 : y = fH f := by rw [nI_leI (by omega) (by omega)] at c14; omega
      subst hy2
      refine ae_iload_n (pc := 99) dX6_worstPixel_99 rfl ?_
      refine ae_ireturn (pc := 100) dX6_worstPixel_100 rfl ?_
      exact ⟨by rw [Nat.mul_comm]; rfl, rfl⟩
    · have hy2 : y < fH f := by rw [nI_leI (by omega) (by omega)] at c14; omega
      have inner : am_E none (am_R (d + 2)) cX6_worstPixel 6 (some .int) (fun v M' => v = some (.int (wstV f)) ∧ M' = M) (20, [some (.ref 32), some (.int (wvI f (y * fW f + 0))), some (.int (wvE f (y * fW f + 0))), some (.int (nI y)), some (.int (nI 0)), none], [], M) := by
        refine am_down (P := fun x => am_E none (am_R (d + 2)) cX6_worstPixel 6 (some .int) _ (20, [some (.ref 32), some (.int (wvI f (y * fW f + x))), some (.int (wvE f (y * fW f + x))), some (.int (nI y)), some (.int (nI x)), none], [], M)) (fW f) (fun x hx ihx => ?_)
        refine ae_iload (pc := 20) dX6_worstPixel_20 rfl ?_
        refine ae_aload_n (pc := 22) dX6_worstPixel_22 rfl ?_
        refine ae_getR (pc := 23) (k := 32) (c := 6) (j := 0) (q := 1) dX6_worstPixel_23 rfl rfl (Nat.le_of_ble_eq_true rfl) rfl (Nat.le_of_ble_eq_true rfl) rfl ?_
        refine ae_getI (pc := 26) (k := 1) (c := 7) (j := 0) (v := nI (fW f)) dX6_worstPixel_26 rfl rfl (Or.inl rfl) (Nat.le_of_ble_eq_true rfl) rfl (Nat.le_of_ble_eq_true rfl) a0 ?_
        refine ae_icmp_ge (pc := 29) (t := 93) dX6_worstPixel_29 (by decide) (fun c29 => ?_) (fun c29 => ?_)
        · have hx2 : x = fW f := by rw [nI_leI (by omega) (by omega)] at c29; omega
          subst hx2
          have ih2 := ih hy2
          rw [Nat.succ_mul] at ih2
          refine ae_iinc (pc := 93) (v := nI (y + 1)) dX6_worstPixel_93 rfl (nI_inc y) ?_
          refine ae_goto (pc := 96) (t := 6) dX6_worstPixel_96 (by decide) ?_
          exact ae_forget [4] rfl ih2
        · have hx2 : x < fW f := by rw [nI_leI (by omega) (by omega)] at c29; omega
          have hp := pl_lt hf.1 hx2 hy2
          have ihx2 := ihx hx2
          rw [← Nat.add_assoc] at ihx2
          obtain ⟨m1, m2⟩ := dmW (W := fW f) (x := x) (y := y) hx2
          have hop := sc_isOpaque (d + 1) M f hg hf.1 (y * fW f + x) hp
          by_cases ho : f (2 + (y * fW f + x)) = -1
          · rw [bI_f (fun q => q ho)] at hop
            rw [(wv_skip ho).1, (wv_skip ho).2] at ihx2
            refine ae_aload_n (pc := 32) dX6_worstPixel_32 rfl ?_
            refine ae_getR (pc := 33) (k := 32) (c := 6) (j := 0) (q := 1) dX6_worstPixel_33 rfl rfl (Nat.le_of_ble_eq_true rfl) rfl (Nat.le_of_ble_eq_true rfl) rfl ?_
            refine ae_iload (pc := 36) dX6_worstPixel_36 rfl ?_
            refine ae_iload_n (pc := 38) dX6_worstPixel_38 rfl ?_
            refine ae_pcallV (pc := 39) (z := zX7_place) (k := 1) (As := [_, _]) dX6_worstPixel_39 rfl rfl rfl rfl (Nat.le_of_ble_eq_true rfl) rfl (Nat.le_of_ble_eq_true rfl) (Nat.le_of_ble_eq_true rfl) (sc_place (d + 1) M f hg hf.1 x y) ?_
            refine ae_istore (pc := 42) dX6_worstPixel_42 rfl (Nat.le_of_ble_eq_true rfl) ?_
            refine ae_aload_n (pc := 44) dX6_worstPixel_44 rfl ?_
            refine ae_getR (pc := 45) (k := 32) (c := 6) (j := 0) (q := 1) dX6_worstPixel_45 rfl rfl (Nat.le_of_ble_eq_true rfl) rfl (Nat.le_of_ble_eq_true rfl) rfl ?_
            refine ae_iload (pc := 48) dX6_worstPixel_48 rfl ?_
            refine ae_pcallV (pc := 50) (z := zX7_isOpaque) (k := 1) (As := [_]) dX6_worstPixel_50 rfl rfl rfl rfl (Nat.le_of_ble_eq_true rfl) rfl (Nat.le_of_ble_eq_true rfl) (Nat.le_of_ble_eq_true rfl) (hop) ?_
            refine ae_if_eq (pc := 53) (t := 87) dX6_worstPixel_53 (by decide) (fun c53 => ?_) (fun c53 => ?_)
            rotate_left
            · exact absurd rfl c53
            refine ae_iinc (pc := 87) (v := nI (x + 1)) dX6_worstPixel_87 rfl (nI_inc x) ?_
            refine ae_goto (pc := 90) (t := 20) dX6_worstPixel_90 (by decide) ?_
            exact ae_forget [5] rfl ihx2
          · rw [bI_t ho] at hop
            have her := sc_errorAt d M f hg hf h1 (y * fW f + x) hp ho
            refine ae_aload_n (pc := 32) dX6_worstPixel_32 rfl ?_
            refine ae_getR (pc := 33) (k := 32) (c := 6) (j := 0) (q := 1) dX6_worstPixel_33 rfl rfl (Nat.le_of_ble_eq_true rfl) rfl (Nat.le_of_ble_eq_true rfl) rfl ?_
            refine ae_iload (pc := 36) dX6_worstPixel_36 rfl ?_
            refine ae_iload_n (pc := 38) dX6_worstPixel_38 rfl ?_
            refine ae_pcallV (pc := 39) (z := zX7_place) (k := 1) (As := [_, _]) dX6_worstPixel_39 rfl rfl rfl rfl (Nat.le_of_ble_eq_true rfl) rfl (Nat.le_of_ble_eq_true rfl) (Nat.le_of_ble_eq_true rfl) (sc_place (d + 1) M f hg hf.1 x y) ?_
            refine ae_istore (pc := 42) dX6_worstPixel_42 rfl (Nat.le_of_ble_eq_true rfl) ?_
            refine ae_aload_n (pc := 44) dX6_worstPixel_44 rfl ?_
            refine ae_getR (pc := 45) (k := 32) (c := 6) (j := 0) (q := 1) dX6_worstPixel_45 rfl rfl (Nat.le_of_ble_eq_true rfl) rfl (Nat.le_of_ble_eq_true rfl) rfl ?_
            refine ae_iload (pc := 48) dX6_worstPixel_48 rfl ?_
            refine ae_pcallV (pc := 50) (z := zX7_isOpaque) (k := 1) (As := [_]) dX6_worstPixel_50 rfl rfl rfl rfl (Nat.le_of_ble_eq_true rfl) rfl (Nat.le_of_ble_eq_true rfl) (Nat.le_of_ble_eq_true rfl) (hop) ?_
            refine ae_if_eq (pc := 53) (t := 87) dX6_worstPixel_53 (by decide) (fun c53 => ?_) (fun c53 => ?_)
            · exact absurd c53 (by decide)
            refine ae_aload_n (pc := 56) dX6_worstPixel_56 rfl ?_
            refine ae_getR (pc := 57) (k := 32) (c := 6) (j := 0) (q := 1) dX6_worstPixel_57 rfl rfl (Nat.le_of_ble_eq_true rfl) rfl (Nat.le_of_ble_eq_true rfl) rfl ?_
            refine ae_iload (pc := 60) dX6_worstPixel_60 rfl ?_
            refine ae_pcallV (pc := 62) (z := zX7_errorAt) (k := 1) (As := [_]) dX6_worstPixel_62 rfl rfl rfl rfl (Nat.le_of_ble_eq_true rfl) rfl (Nat.le_of_ble_eq_true rfl) (Nat.le_of_ble_eq_true rfl) (her) ?_
            refine ae_iload_n (pc := 65) dX6_worstPixel_65 rfl ?_
            refine ae_icmp_le (pc := 66) (t := 87) dX6_worstPixel_66 (by decide) (fun c66 => ?_) (fun c66 => ?_)
            · rw [(wv_no ho c66).1, (wv_no ho c66).2] at ihx2
              refine ae_iinc (pc := 87) (v := nI (x + 1)) dX6_worstPixel_87 rfl (nI_inc x) ?_
              refine ae_goto (pc := 90) (t := 20) dX6_worstPixel_90 (by decide) ?_
              exact ae_forget [5] rfl ihx2
            · rw [(wv_yes ho c66).1, (wv_yes ho c66).2, m1, m2] at ihx2
              refine ae_bipush (pc := 69) (v := nI 16) dX6_worstPixel_69 (by decide) ?_
              refine ae_iload_n (pc := 71) dX6_worstPixel_71 rfl ?_
              refine ae_imul (pc := 72) (v := nI (16 * y)) dX6_worstPixel_72 (nI_mul _ _) ?_
              refine ae_iload (pc := 73) dX6_worstPixel_73 rfl ?_
              refine ae_iadd (pc := 75) (v := nI (16 * y + x)) dX6_worstPixel_75 (nI_add _ _) ?_
              refine ae_istore_n (pc := 76) dX6_worstPixel_76 rfl (Nat.le_of_ble_eq_true rfl) ?_
              refine ae_aload_n (pc := 77) dX6_worstPixel_77 rfl ?_
              refine ae_getR (pc := 78) (k := 32) (c := 6) (j := 0) (q := 1) dX6_worstPixel_78 rfl rfl (Nat.le_of_ble_eq_true rfl) rfl (Nat.le_of_ble_eq_true rfl) rfl ?_
              refine ae_iload (pc := 81) dX6_worstPixel_81 rfl ?_
              refine ae_pcallV (pc := 83) (z := zX7_errorAt) (k := 1) (As := [_]) dX6_worstPixel_83 rfl rfl rfl rfl (Nat.le_of_ble_eq_true rfl) rfl (Nat.le_of_ble_eq_true rfl) (Nat.le_of_ble_eq_true rfl) (her) ?_
              refine ae_istore_n (pc := 86) dX6_worstPixel_86 rfl (Nat.le_of_ble_eq_true rfl) ?_
              refine ae_iinc (pc := 87) (v := nI (x + 1)) dX6_worstPixel_87 rfl (nI_inc x) ?_
              refine ae_goto (pc := 90) (t := 20) dX6_worstPixel_90 (by decide) ?_
              exact ae_forget [5] rfl ihx2
      refine ae_iconst (pc := 17) (v := nI 0) dX6_worstPixel_17 (by decide) ?_
      refine ae_istore (pc := 18) dX6_worstPixel_18 rfl (Nat.le_of_ble_eq_true rfl) ?_
      exact inner
  rw [Nat.zero_mul] at outer
  exact outer
theorem sc_bitsOf0 (d : Nat) (M : am_M) : am_R (d + 1) zX6_bitsOf [.float 0] M (fun v M' => v = some (.int (nI 0)) ∧ M' = M) := by
  refine ae_enter (z := zX6_bitsOf) (y := yX6_bitsOf) (cc := cX6_bitsOf) (mL := 3) (rt := some .int) (ci := 6) (st := true) (np := 1) (L := [some (.float 0), none, none]) rfl (by decide) (Nat.le_of_ble_eq_true rfl) rfl ?_
  refine ae_fload_n (pc := 0) dX6_bitsOf_0 rfl ?_
  refine ae_fconst (pc := 1) (v := FP.fconst0) dX6_bitsOf_1 rfl ?_
  refine ae_fcmp (pc := 2) (v := 0) dX6_bitsOf_2 (by decide) ?_
  refine ae_if_gt (pc := 3) (t := 8) dX6_bitsOf_3 (by decide) (fun c3 => ?_) (fun c3 => ?_)
  · exact absurd c3 (by decide)
  · refine ae_iconst (pc := 6) (v := nI 0) dX6_bitsOf_6 (by decide) ?_
    refine ae_ireturn (pc := 7) dX6_bitsOf_7 rfl ?_
    exact ⟨rfl, rfl⟩
theorem sc_bitsOf (d : Nat) (M : am_M) (x : UInt32) (c : Nat) (q : Int) (h : NF x c q) (h1 : -40 ≤ q) (h2 : q ≤ 0) : am_R (d + 1) zX6_bitsOf [.float x] M (fun v M' => v = some (.int (nI x.toNat)) ∧ M' = M) := by
  refine ae_enter (z := zX6_bitsOf) (y := yX6_bitsOf) (cc := cX6_bitsOf) (mL := 3) (rt := some .int) (ci := 6) (st := true) (np := 1) (L := [some (.float x), none, none]) rfl (by decide) (Nat.le_of_ble_eq_true rfl) rfl ?_
  have lp : ∀ (m : Nat) (y : UInt32) (w : Int) (e : Nat), NF y c w → w + (m : Int) = 0 → m ≤ 40 → (e : Int) = 150 + q - w → e ≤ 150 → 110 ≤ e → am_E none (am_R d) cX6_bitsOf 6 (some .int) (fun v M' => v = some (.int (nI x.toNat)) ∧ M' = M) (14, [some (.float x), some (.float y), some (.int (nI e))], [], M) := by
    intro m
    induction m with
    | zero =>
      intro y w e hy hw hm he he1 he2
      have hw2 : w = 0 := by omega
      subst hw2
      have e3 : e = (q + 149).toNat + 1 := by omega
      have hx := h.1
      refine ae_iload_n (pc := 14) dX6_bitsOf_14 rfl ?_
      refine ae_iconst (pc := 15) (v := nI 1) dX6_bitsOf_15 (by decide) ?_
      refine ae_icmp_le (pc := 16) (t := 36) dX6_bitsOf_16 (by decide) (fun c16 => ?_) (fun c16 => ?_)
      · exact absurd ((nI_leI (b := 1) (by omega) (by decide)).mp c16) (by omega)
      refine ae_fload_n (pc := 19) dX6_bitsOf_19 rfl ?_
      refine ae_ldc (pc := 20) dX6_bitsOf_20 rfl rfl ?_
      refine ae_fcmp (pc := 22) dX6_bitsOf_22 rfl ?_
      refine ae_if_ge (pc := 23) (t := 36) dX6_bitsOf_23 (by decide) (fun c23 => ?_) (fun c23 => ?_)
      · refine ae_iload_n (pc := 36) dX6_bitsOf_36 rfl ?_
        refine ae_bipush (pc := 37) (v := nI 23) dX6_bitsOf_37 (by decide) ?_
        refine ae_ishl (pc := 39) (v := nI (e * 8388608)) dX6_bitsOf_39 (sh23 _ (by omega)) ?_
        refine ae_fload_n (pc := 40) dX6_bitsOf_40 rfl ?_
        refine ae_f2i (pc := 41) (v := nI c) dX6_bitsOf_41 (NF_f2i hy) ?_
        refine ae_ldc (pc := 42) dX6_bitsOf_42 rfl rfl ?_
        refine ae_isub (pc := 44) (v := nI (c - 8388608)) dX6_bitsOf_44 (by rw [show (8388608 : Int32) = nI 8388608 from rfl, nI_sub h.2.1]) ?_
        refine ae_iadd (pc := 45) (v := nI x.toNat) dX6_bitsOf_45 (by have := h.2.1; rw [nI_add]; exact congrArg nI (by omega)) ?_
        refine ae_ireturn (pc := 46) dX6_bitsOf_46 rfl ?_
        exact ⟨rfl, rfl⟩
      · exact absurd (NF_ge hy NF_K (by omega)) c23
    | succ m ih =>
      intro y w e hy hw hm he he1 he2
      have hy4 := hy.2.2.2
      have hmu := NF_mul hy NF_2 (by omega) (by omega) (by omega)
      have st := ih _ _ (e - 1) hmu (by omega) (by omega) (by omega) (by omega) (by omega)
      have de : nI e + Int32.ofInt (-1) = nI (e - 1) := by
        have := nI_dcr (e - 1)
        rwa [show e - 1 + 1 = e by omega] at this
      refine ae_iload_n (pc := 14) dX6_bitsOf_14 rfl ?_
      refine ae_iconst (pc := 15) (v := nI 1) dX6_bitsOf_15 (by decide) ?_
      refine ae_icmp_le (pc := 16) (t := 36) dX6_bitsOf_16 (by decide) (fun c16 => ?_) (fun c16 => ?_)
      · exact absurd ((nI_leI (b := 1) (by omega) (by decide)).mp c16) (by omega)
      refine ae_fload_n (pc := 19) dX6_bitsOf_19 rfl ?_
      refine ae_ldc (pc := 20) dX6_bitsOf_20 rfl rfl ?_
      refine ae_fcmp (pc := 22) (v := (-1)) dX6_bitsOf_22 (NF_lt hy NF_K (by omega)) ?_
      refine ae_if_ge (pc := 23) (t := 36) dX6_bitsOf_23 (by decide) (fun c23 => ?_) (fun c23 => ?_)
      · exact absurd c23 (by decide)
      refine ae_fload_n (pc := 26) dX6_bitsOf_26 rfl ?_
      refine ae_fconst (pc := 27) (v := FP.fconst2) dX6_bitsOf_27 rfl ?_
      refine ae_fmul (pc := 28) dX6_bitsOf_28 (NF_n hmu) rfl ?_
      refine ae_fstore_n (pc := 29) dX6_bitsOf_29 rfl (Nat.le_of_ble_eq_true rfl) ?_
      refine ae_iinc (pc := 30) (v := nI (e - 1)) dX6_bitsOf_30 rfl de ?_
      refine ae_goto (pc := 33) (t := 14) dX6_bitsOf_33 (by decide) ?_
      exact st
  have st := lp (-q).toNat x q 150 h (by omega) (by omega) (by omega) (by omega) (by omega)
  refine ae_fload_n (pc := 0) dX6_bitsOf_0 rfl ?_
  refine ae_fconst (pc := 1) (v := FP.fconst0) dX6_bitsOf_1 rfl ?_
  refine ae_fcmp (pc := 2) (v := 1) dX6_bitsOf_2 (NF_gt0 h) ?_
  refine ae_if_gt (pc := 3) (t := 8) dX6_bitsOf_3 (by decide) (fun c3 => ?_) (fun c3 => ?_)
  · refine ae_fload_n (pc := 8) dX6_bitsOf_8 rfl ?_
    refine ae_fstore_n (pc := 9) dX6_bitsOf_9 rfl (Nat.le_of_ble_eq_true rfl) ?_
    refine ae_sipush (pc := 10) (v := nI 150) dX6_bitsOf_10 (by decide) ?_
    refine ae_istore_n (pc := 13) dX6_bitsOf_13 rfl (Nat.le_of_ble_eq_true rfl) ?_
    exact st
  · exact absurd (by decide) c3
theorem sc_meanErrorBits (d : Nat) (M : am_M) (f : fT) (hg : AG M f) (hf : wf f) (h1 : f 292 = 1) : am_R (d + 4) zX6_meanErrorBits [.ref 32] M (fun v M' => v = some (.int (meV f)) ∧ M' = M) := by
  refine ae_enter (z := zX6_meanErrorBits) (y := yX6_meanErrorBits) (cc := cX6_meanErrorBits) (mL := 2) (rt := some .int) (ci := 6) (st := false) (np := 0) (L := [some (.ref 32), none]) rfl (by decide) (Nat.le_of_ble_eq_true rfl) rfl ?_
  have hA := fA_le hf.1
  have hO := opq_le f (fA f)
  have hop := sc_opaquePixels (d + 1) M f hg hf.1
  by_cases ho : opq f (fA f) = 0
  · rw [ho] at hop
    refine ae_aload_n (pc := 0) dX6_meanErrorBits_0 rfl ?_
    refine ae_getR (pc := 1) (k := 32) (c := 6) (j := 0) (q := 1) dX6_meanErrorBits_1 rfl rfl (Nat.le_of_ble_eq_true rfl) rfl (Nat.le_of_ble_eq_true rfl) rfl ?_
    refine ae_pcallV (pc := 4) (z := zX7_opaquePixels) (k := 1) (As := []) dX6_meanErrorBits_4 rfl rfl rfl rfl (Nat.le_of_ble_eq_true rfl) rfl (Nat.le_of_ble_eq_true rfl) (Nat.le_of_ble_eq_true rfl) (hop) ?_
    refine ae_istore_n (pc := 7) dX6_meanErrorBits_7 rfl (Nat.le_of_ble_eq_true rfl) ?_
    refine ae_iload_n (pc := 8) dX6_meanErrorBits_8 rfl ?_
    refine ae_if_le (pc := 9) (t := 26) dX6_meanErrorBits_9 (by decide) (fun c9 => ?_) (fun c9 => ?_)
    · refine ae_iconst (pc := 26) (v := (-1)) dX6_meanErrorBits_26 (by decide) ?_
      refine ae_ireturn (pc := 27) dX6_meanErrorBits_27 rfl ?_
      exact ⟨by unfold meV; rw [if_pos ho], rfl⟩
    · exact absurd (by decide) c9
  · obtain ⟨m1, m2⟩ := meX_ok hf.1 (by omega)
    have hb : am_R (d + 3) zX6_bitsOf [.float (meX f)] M (fun v M' => v = some (.int (nI (meX f).toNat)) ∧ M' = M) := by
      rcases m2 with z | ⟨c, q, x1, x2, x3⟩
      · rw [z]; exact sc_bitsOf0 (d + 2) M
      · exact sc_bitsOf (d + 2) M _ c q x1 x2 x3
    refine ae_aload_n (pc := 0) dX6_meanErrorBits_0 rfl ?_
    refine ae_getR (pc := 1) (k := 32) (c := 6) (j := 0) (q := 1) dX6_meanErrorBits_1 rfl rfl (Nat.le_of_ble_eq_true rfl) rfl (Nat.le_of_ble_eq_true rfl) rfl ?_
    refine ae_pcallV (pc := 4) (z := zX7_opaquePixels) (k := 1) (As := []) dX6_meanErrorBits_4 rfl rfl rfl rfl (Nat.le_of_ble_eq_true rfl) rfl (Nat.le_of_ble_eq_true rfl) (Nat.le_of_ble_eq_true rfl) (hop) ?_
    refine ae_istore_n (pc := 7) dX6_meanErrorBits_7 rfl (Nat.le_of_ble_eq_true rfl) ?_
    refine ae_iload_n (pc := 8) dX6_meanErrorBits_8 rfl ?_
    refine ae_if_le (pc := 9) (t := 26) dX6_meanErrorBits_9 (by decide) (fun c9 => ?_) (fun c9 => ?_)
    · exact absurd c9 (by rw [show (0 : Int32) = nI 0 from rfl, nI_leI (by omega) (by omega)]; omega)
    refine ae_aload_n (pc := 12) dX6_meanErrorBits_12 rfl ?_
    refine ae_pcallV (pc := 13) (z := zX6_totalError) (k := 32) (As := []) dX6_meanErrorBits_13 rfl rfl rfl rfl (Nat.le_of_ble_eq_true rfl) rfl (Nat.le_of_ble_eq_true rfl) (Nat.le_of_ble_eq_true rfl) (sc_totalError d M f hg hf h1) ?_
    refine ae_i2f (pc := 16) dX6_meanErrorBits_16 rfl ?_
    refine ae_iload_n (pc := 17) dX6_meanErrorBits_17 rfl ?_
    refine ae_i2f (pc := 18) dX6_meanErrorBits_18 rfl ?_
    refine ae_fdiv (pc := 19) (v := meX f) dX6_meanErrorBits_19 m1 rfl ?_
    refine ae_pcallS (pc := 20) (z := zX6_bitsOf) (As := [_]) dX6_meanErrorBits_20 rfl rfl rfl rfl (Nat.le_of_ble_eq_true rfl) (hb) ?_
    refine ae_goto (pc := 23) (t := 27) dX6_meanErrorBits_23 (by decide) ?_
    refine ae_ireturn (pc := 27) dX6_meanErrorBits_27 rfl ?_
    exact ⟨by unfold meV; rw [if_neg ho], rfl⟩
theorem sc_indexRuns (d : Nat) (M : am_M) (f : fT) (hg : AG M f) (hf : wf f) (h1 : f 292 = 1) : am_R (d + 2) zX6_indexRuns [.ref 32] M (fun v M' => v = some (.int (nI (rns f (fA f - 1)))) ∧ M' = M) := by
  refine ae_enter (z := zX6_indexRuns) (y := yX6_indexRuns) (cc := cX6_indexRuns) (mL := 3) (rt := some .int) (ci := 6) (st := false) (np := 0) (L := [some (.ref 32), none, none]) rfl (by decide) (Nat.le_of_ble_eq_true rfl) rfl ?_
  have hA := fA_le hf.1
  refine ae_iconst (pc := 0) (v := nI 1) dX6_indexRuns_0 (by decide) ?_
  refine ae_istore_n (pc := 1) dX6_indexRuns_1 rfl (Nat.le_of_ble_eq_true rfl) ?_
  refine ae_iconst (pc := 2) (v := nI 1) dX6_indexRuns_2 (by decide) ?_
  refine ae_istore_n (pc := 3) dX6_indexRuns_3 rfl (Nat.le_of_ble_eq_true rfl) ?_
  skip
  refine am_down (P := fun k => am_E none (am_R (d + 1)) cX6_indexRuns 6 (some .int) _ (4, [some (.ref 32), some (.int (nI (rns f k))), some (.int (nI (k + 1)))], [], M)) (fA f - 1) (fun k hk ih => ?_)
  refine ae_iload_n (pc := 4) dX6_indexRuns_4 rfl ?_
  refine ae_aload_n (pc := 5) dX6_indexRuns_5 rfl ?_
  refine ae_getR (pc := 6) (k := 32) (c := 6) (j := 0) (q := 1) dX6_indexRuns_6 rfl rfl (Nat.le_of_ble_eq_true rfl) rfl (Nat.le_of_ble_eq_true rfl) rfl ?_
  refine ae_pcallV (pc := 9) (z := zX7_area) (k := 1) (As := []) dX6_indexRuns_9 rfl rfl rfl rfl (Nat.le_of_ble_eq_true rfl) rfl (Nat.le_of_ble_eq_true rfl) (Nat.le_of_ble_eq_true rfl) (sc_area d M f hg hf.1) ?_
  refine ae_icmp_ge (pc := 12) (t := 47) dX6_indexRuns_12 (by decide) (fun c12 => ?_) (fun c12 => ?_)
  · have hk2 : k = fA f - 1 := by rw [nI_leI (by omega) (by omega)] at c12; omega
    subst hk2
    refine ae_iload_n (pc := 47) dX6_indexRuns_47 rfl ?_
    refine ae_ireturn (pc := 48) dX6_indexRuns_48 rfl ?_
    exact ⟨rfl, rfl⟩
  · have hk2 : k < fA f - 1 := by rw [nI_leI (by omega) (by omega)] at c12; omega
    have ih2 := ih hk2
    rw [rns_s] at ih2
    refine ae_aload_n (pc := 15) dX6_indexRuns_15 rfl ?_
    refine ae_getR (pc := 16) (k := 32) (c := 6) (j := 0) (q := 1) dX6_indexRuns_16 rfl rfl (Nat.le_of_ble_eq_true rfl) rfl (Nat.le_of_ble_eq_true rfl) rfl ?_
    refine ae_getR (pc := 19) (k := 1) (c := 7) (j := 8) (q := 5) dX6_indexRuns_19 rfl rfl (Nat.le_of_ble_eq_true rfl) rfl (Nat.le_of_ble_eq_true rfl) rfl ?_
    refine ae_iload_n (pc := 22) dX6_indexRuns_22 rfl ?_
    refine ae_iaload (pc := 23) (k := 5) (N := 256) (v := f (293 + (k + 1))) (k + 1) dX6_indexRuns_23 (Nat.le_of_ble_eq_true rfl) rfl rfl rfl (by omega) (hg.2.2.2 h1 _ (by omega)) ?_
    refine ae_aload_n (pc := 24) dX6_indexRuns_24 rfl ?_
    refine ae_getR (pc := 25) (k := 32) (c := 6) (j := 0) (q := 1) dX6_indexRuns_25 rfl rfl (Nat.le_of_ble_eq_true rfl) rfl (Nat.le_of_ble_eq_true rfl) rfl ?_
    refine ae_getR (pc := 28) (k := 1) (c := 7) (j := 8) (q := 5) dX6_indexRuns_28 rfl rfl (Nat.le_of_ble_eq_true rfl) rfl (Nat.le_of_ble_eq_true rfl) rfl ?_
    refine ae_iload_n (pc := 31) dX6_indexRuns_31 rfl ?_
    refine ae_iconst (pc := 32) (v := nI 1) dX6_indexRuns_32 (by decide) ?_
    refine ae_isub (pc := 33) (v := nI k) dX6_indexRuns_33 (nI_sub (by omega)) ?_
    refine ae_iaload (pc := 34) (k := 5) (N := 256) (v := f (293 + k)) (k) dX6_indexRuns_34 (Nat.le_of_ble_eq_true rfl) rfl rfl rfl (by omega) (hg.2.2.2 h1 _ (by omega)) ?_
    refine ae_icmp_eq (pc := 35) (t := 41) dX6_indexRuns_35 (by decide) (fun c35 => ?_) (fun c35 => ?_)
    · refine ae_iinc (pc := 41) (v := nI (k + 1 + 1)) dX6_indexRuns_41 rfl (nI_inc (k + 1)) ?_
      refine ae_goto (pc := 44) (t := 4) dX6_indexRuns_44 (by decide) ?_
      first | (rw [if_pos c35] at ih2; exact ih2) | (rw [if_neg c35] at ih2; exact ih2)
    · refine ae_iinc (pc := 38) (v := nI (rns f k + 1)) dX6_indexRuns_38 rfl (nI_inc _) ?_
      refine ae_iinc (pc := 41) (v := nI (k + 1 + 1)) dX6_indexRuns_41 rfl (nI_inc (k + 1)) ?_
      refine ae_goto (pc := 44) (t := 4) dX6_indexRuns_44 (by decide) ?_
      first | (rw [if_pos c35] at ih2; exact ih2) | (rw [if_neg c35] at ih2; exact ih2)
theorem sc_bitsPerIndex (d : Nat) (M : am_M) (f : fT) (hg : AG M f) (hf : wf f) (h1 : f 292 = 1) : am_R (d + 2) zX6_bitsPerIndex [.ref 32] M (fun v M' => v = some (.int (nI (pkB f))) ∧ M' = M) := by
  refine ae_enter (z := zX6_bitsPerIndex) (y := yX6_bitsPerIndex) (cc := cX6_bitsPerIndex) (mL := 3) (rt := some .int) (ci := 6) (st := false) (np := 0) (L := [some (.ref 32), none, none]) rfl (by decide) (Nat.le_of_ble_eq_true rfl) rfl ?_
  have hA := fA_le hf.1
  refine ae_iconst (pc := 0) (v := nI 0) dX6_bitsPerIndex_0 (by decide) ?_
  refine ae_istore_n (pc := 1) dX6_bitsPerIndex_1 rfl (Nat.le_of_ble_eq_true rfl) ?_
  refine ae_iconst (pc := 2) (v := nI 0) dX6_bitsPerIndex_2 (by decide) ?_
  refine ae_istore_n (pc := 3) dX6_bitsPerIndex_3 rfl (Nat.le_of_ble_eq_true rfl) ?_
  skip
  refine am_down (P := fun p => am_E none (am_R (d + 1)) cX6_bitsPerIndex 6 (some .int) _ (4, [some (.ref 32), some (.int (mxI f p)), some (.int (nI p))], [], M)) (fA f) (fun p hp ih => ?_)
  refine ae_iload_n (pc := 4) dX6_bitsPerIndex_4 rfl ?_
  refine ae_aload_n (pc := 5) dX6_bitsPerIndex_5 rfl ?_
  refine ae_getR (pc := 6) (k := 32) (c := 6) (j := 0) (q := 1) dX6_bitsPerIndex_6 rfl rfl (Nat.le_of_ble_eq_true rfl) rfl (Nat.le_of_ble_eq_true rfl) rfl ?_
  refine ae_pcallV (pc := 9) (z := zX7_area) (k := 1) (As := []) dX6_bitsPerIndex_9 rfl rfl rfl rfl (Nat.le_of_ble_eq_true rfl) rfl (Nat.le_of_ble_eq_true rfl) (Nat.le_of_ble_eq_true rfl) (sc_area d M f hg hf.1) ?_
  refine ae_icmp_ge (pc := 12) (t := 35) dX6_bitsPerIndex_12 (by decide) (fun c12 => ?_) (fun c12 => ?_)
  · have hp2 : p = fA f := by rw [nI_leI (by omega) (by omega)] at c12; omega
    subst hp2
    refine ae_iload_n (pc := 35) dX6_bitsPerIndex_35 rfl ?_
    refine ae_iconst (pc := 36) (v := nI 2) dX6_bitsPerIndex_36 (by decide) ?_
    refine ae_icmp_ge (pc := 37) (t := 42) dX6_bitsPerIndex_37 (by decide) (fun c37 => ?_) (fun c37 => ?_)
    · refine ae_iload_n (pc := 42) dX6_bitsPerIndex_42 rfl ?_
      refine ae_iconst (pc := 43) (v := nI 4) dX6_bitsPerIndex_43 (by decide) ?_
      refine ae_icmp_ge (pc := 44) (t := 49) dX6_bitsPerIndex_44 (by decide) (fun c44 => ?_) (fun c44 => ?_)
      · refine ae_iload_n (pc := 49) dX6_bitsPerIndex_49 rfl ?_
        refine ae_bipush (pc := 50) (v := nI 16) dX6_bitsPerIndex_50 (by decide) ?_
        refine ae_icmp_ge (pc := 52) (t := 59) dX6_bitsPerIndex_52 (by decide) (fun c52 => ?_) (fun c52 => ?_)
        · refine ae_bipush (pc := 59) (v := nI 8) dX6_bitsPerIndex_59 (by decide) ?_
          refine ae_ireturn (pc := 61) dX6_bitsPerIndex_61 rfl ?_
          refine ⟨?_, rfl⟩
          unfold pkB
          first | (rw [if_pos (Int32.not_le.mp c37)]; done) | (rw [if_neg (Int32.not_lt.mpr c37), if_pos (Int32.not_le.mp c44)]; done) | (rw [if_neg (Int32.not_lt.mpr c37), if_neg (Int32.not_lt.mpr c44), if_pos (Int32.not_le.mp c52)]; done) | (rw [if_neg (Int32.not_lt.mpr c37), if_neg (Int32.not_lt.mpr c44), if_neg (Int32.not_lt.mpr c52)]; done)
        · refine ae_iconst (pc := 55) (v := nI 4) dX6_bitsPerIndex_55 (by decide) ?_
          refine ae_goto (pc := 56) (t := 61) dX6_bitsPerIndex_56 (by decide) ?_
          refine ae_ireturn (pc := 61) dX6_bitsPerIndex_61 rfl ?_
          refine ⟨?_, rfl⟩
          unfold pkB
          first | (rw [if_pos (Int32.not_le.mp c37)]; done) | (rw [if_neg (Int32.not_lt.mpr c37), if_pos (Int32.not_le.mp c44)]; done) | (rw [if_neg (Int32.not_lt.mpr c37), if_neg (Int32.not_lt.mpr c44), if_pos (Int32.not_le.mp c52)]; done) | (rw [if_neg (Int32.not_lt.mpr c37), if_neg (Int32.not_lt.mpr c44), if_neg (Int32.not_lt.mpr c52)]; done)
      · refine ae_iconst (pc := 47) (v := nI 2) dX6_bitsPerIndex_47 (by decide) ?_
        refine ae_ireturn (pc := 48) dX6_bitsPerIndex_48 rfl ?_
        refine ⟨?_, rfl⟩
        unfold pkB
        first | (rw [if_pos (Int32.not_le.mp c37)]; done) | (rw [if_neg (Int32.not_lt.mpr c37), if_pos (Int32.not_le.mp c44)]; done) | (rw [if_neg (Int32.not_lt.mpr c37), if_neg (Int32.not_lt.mpr c44), if_pos (Int32.not_le.mp c52)]; done) | (rw [if_neg (Int32.not_lt.mpr c37), if_neg (Int32.not_lt.mpr c44), if_neg (Int32.not_lt.mpr c52)]; done)
    · refine ae_iconst (pc := 40) (v := nI 1) dX6_bitsPerIndex_40 (by decide) ?_
      refine ae_ireturn (pc := 41) dX6_bitsPerIndex_41 rfl ?_
      refine ⟨?_, rfl⟩
      unfold pkB
      first | (rw [if_pos (Int32.not_le.mp c37)]; done) | (rw [if_neg (Int32.not_lt.mpr c37), if_pos (Int32.not_le.mp c44)]; done) | (rw [if_neg (Int32.not_lt.mpr c37), if_neg (Int32.not_lt.mpr c44), if_pos (Int32.not_le.mp c52)]; done) | (rw [if_neg (Int32.not_lt.mpr c37), if_neg (Int32.not_lt.mpr c44), if_neg (Int32.not_lt.mpr c52)]; done)
  · have hp2 : p < fA f := by rw [nI_leI (by omega) (by omega)] at c12; omega
    refine ae_iload_n (pc := 15) dX6_bitsPerIndex_15 rfl ?_
    refine ae_aload_n (pc := 16) dX6_bitsPerIndex_16 rfl ?_
    refine ae_getR (pc := 17) (k := 32) (c := 6) (j := 0) (q := 1) dX6_bitsPerIndex_17 rfl rfl (Nat.le_of_ble_eq_true rfl) rfl (Nat.le_of_ble_eq_true rfl) rfl ?_
    refine ae_getR (pc := 20) (k := 1) (c := 7) (j := 8) (q := 5) dX6_bitsPerIndex_20 rfl rfl (Nat.le_of_ble_eq_true rfl) rfl (Nat.le_of_ble_eq_true rfl) rfl ?_
    refine ae_iload_n (pc := 23) dX6_bitsPerIndex_23 rfl ?_
    refine ae_iaload (pc := 24) (k := 5) (N := 256) (v := f (293 + p)) (p) dX6_bitsPerIndex_24 (Nat.le_of_ble_eq_true rfl) rfl rfl rfl (by omega) (hg.2.2.2 h1 _ hp2) ?_
    refine ae_pcallS (pc := 25) (z := zJ9_max_7cf53) (As := [_, _]) dX6_bitsPerIndex_25 rfl rfl rfl rfl (Nat.le_of_ble_eq_true rfl) (sc_max d _ _ _) ?_
    refine ae_istore_n (pc := 28) dX6_bitsPerIndex_28 rfl (Nat.le_of_ble_eq_true rfl) ?_
    refine ae_iinc (pc := 29) (v := nI (p + 1)) dX6_bitsPerIndex_29 rfl (nI_inc p) ?_
    refine ae_goto (pc := 32) (t := 4) dX6_bitsPerIndex_32 (by decide) ?_
    exact ih hp2
theorem sc_bytesPerRow (d : Nat) (M : am_M) (f : fT) (hg : AG M f) (hf : wf0 f) : am_R (d + 1) zX6_bytesPerRow [.ref 32, .int (nI (pkB f))] M (fun v M' => v = some (.int (nI (pkR f))) ∧ M' = M) := by
  refine ae_enter (z := zX6_bytesPerRow) (y := yX6_bytesPerRow) (cc := cX6_bytesPerRow) (mL := 2) (rt := some .int) (ci := 6) (st := false) (np := 1) (L := [some (.ref 32), some (.int (nI (pkB f)))]) rfl (by decide) (Nat.le_of_ble_eq_true rfl) rfl ?_
  obtain ⟨a0, -, -⟩ := AG_w hg hf
  have hW := hf.1.2.2
  have hB := pkB_c f
  refine ae_aload_n (pc := 0) dX6_bytesPerRow_0 rfl ?_
  refine ae_getR (pc := 1) (k := 32) (c := 6) (j := 0) (q := 1) dX6_bytesPerRow_1 rfl rfl (Nat.le_of_ble_eq_true rfl) rfl (Nat.le_of_ble_eq_true rfl) rfl ?_
  refine ae_getI (pc := 4) (k := 1) (c := 7) (j := 0) (v := nI (fW f)) dX6_bytesPerRow_4 rfl rfl (Or.inl rfl) (Nat.le_of_ble_eq_true rfl) rfl (Nat.le_of_ble_eq_true rfl) a0 ?_
  refine ae_iload_n (pc := 7) dX6_bytesPerRow_7 rfl ?_
  refine ae_imul (pc := 8) (v := nI (fW f * pkB f)) dX6_bytesPerRow_8 (nI_mul _ _) ?_
  refine ae_bipush (pc := 9) (v := nI 7) dX6_bytesPerRow_9 (by decide) ?_
  refine ae_iadd (pc := 11) (v := nI (fW f * pkB f + 7)) dX6_bytesPerRow_11 (nI_add _ _) ?_
  refine ae_bipush (pc := 12) (v := nI 8) dX6_bytesPerRow_12 (by decide) ?_
  refine ae_idiv (pc := 14) (v := nI (pkR f)) dX6_bytesPerRow_14 (by decide) (nI_div (by rcases hB with q | q | q | q <;> rw [q] <;> omega) (by decide)) ?_
  refine ae_ireturn (pc := 15) dX6_bytesPerRow_15 rfl ?_
  exact ⟨rfl, rfl⟩
theorem sc_packedBytes (d : Nat) (M : am_M) (f : fT) (hg : AG M f) (hf : wf f) (h1 : f 292 = 1) : am_R (d + 3) zX6_packedBytes [.ref 32] M (fun v M' => v = some (.int (nI (pkR f * fH f))) ∧ M' = M) := by
  refine ae_enter (z := zX6_packedBytes) (y := yX6_packedBytes) (cc := cX6_packedBytes) (mL := 1) (rt := some .int) (ci := 6) (st := false) (np := 0) (L := [some (.ref 32)]) rfl (by decide) (Nat.le_of_ble_eq_true rfl) rfl ?_
  obtain ⟨-, a1, -⟩ := AG_w hg hf.1
  refine ae_aload_n (pc := 0) dX6_packedBytes_0 rfl ?_
  refine ae_aload_n (pc := 1) dX6_packedBytes_1 rfl ?_
  refine ae_pcallV (pc := 2) (z := zX6_bitsPerIndex) (k := 32) (As := []) dX6_packedBytes_2 rfl rfl rfl rfl (Nat.le_of_ble_eq_true rfl) rfl (Nat.le_of_ble_eq_true rfl) (Nat.le_of_ble_eq_true rfl) (sc_bitsPerIndex d M f hg hf h1) ?_
  refine ae_pcallV (pc := 5) (z := zX6_bytesPerRow) (k := 32) (As := [_]) dX6_packedBytes_5 rfl rfl rfl rfl (Nat.le_of_ble_eq_true rfl) rfl (Nat.le_of_ble_eq_true rfl) (Nat.le_of_ble_eq_true rfl) (sc_bytesPerRow (d + 1) M f hg hf.1) ?_
  refine ae_aload_n (pc := 8) dX6_packedBytes_8 rfl ?_
  refine ae_getR (pc := 9) (k := 32) (c := 6) (j := 0) (q := 1) dX6_packedBytes_9 rfl rfl (Nat.le_of_ble_eq_true rfl) rfl (Nat.le_of_ble_eq_true rfl) rfl ?_
  refine ae_getI (pc := 12) (k := 1) (c := 7) (j := 1) (v := nI (fH f)) dX6_packedBytes_12 rfl rfl (Or.inl rfl) (Nat.le_of_ble_eq_true rfl) rfl (Nat.le_of_ble_eq_true rfl) a1 ?_
  refine ae_imul (pc := 15) (v := nI (pkR f * fH f)) dX6_packedBytes_15 (nI_mul _ _) ?_
  refine ae_ireturn (pc := 16) dX6_packedBytes_16 rfl ?_
  exact ⟨rfl, rfl⟩
theorem sc_packedByte (d : Nat) (M : am_M) (f : fT) (hg : AG M f) (hf : wf f) (h1 : f 292 = 1) (k : Nat) (hk : k < 2 ^ 31) : am_R (d + 3) zX6_packedByte [.ref 32, .int (nI k)] M (fun v M' => v = some (.int (if k < pkR f * fH f then pkV f k (8 / pkB f) else -1)) ∧ M' = M) := by
  refine ae_enter (z := zX6_packedByte) (y := yX6_packedByte) (cc := cX6_packedByte) (mL := 10) (rt := some .int) (ci := 6) (st := false) (np := 1) (L := [some (.ref 32), some (.int (nI k)), none, none, none, none, none, none, none, none]) rfl (by decide) (Nat.le_of_ble_eq_true rfl) rfl ?_
  obtain ⟨a0, a1, -⟩ := AG_w hg hf.1
  have hR := pkR_le hf.1
  have hB := pkB_c f
  have hA := fA_le hf.1
  obtain ⟨⟨-, v2, v3⟩, ⟨-, w2, w3⟩, -⟩ := id hf.1
  have hRH : pkR f * fH f ≤ 16 * 16 := Nat.mul_le_mul hR.2 w3
  have hB2 : 1 ≤ pkB f ∧ pkB f ≤ 8 := by omega
  have hB3 : 8 / pkB f ≤ 8 := Nat.div_le_self _ _
  have hk0 : ¬ nI k < 0 := Int32.not_lt.mpr (nI_le (Nat.zero_le k) hk)
  have hb0 : ¬ nI (pkB f) ≤ 0 := by rw [show (0 : Int32) = nI 0 from rfl, nI_leI (by omega) (by omega)]; omega
  have hr0 : ¬ nI (pkR f) ≤ 0 := by rw [show (0 : Int32) = nI 0 from rfl, nI_leI (by omega) (by omega)]; omega
  by_cases hkk : k < pkR f * fH f
  rotate_left
  · rw [if_neg hkk]
    refine ae_aload_n (pc := 0) dX6_packedByte_0 rfl ?_
    refine ae_pcallV (pc := 1) (z := zX6_bitsPerIndex) (k := 32) (As := []) dX6_packedByte_1 rfl rfl rfl rfl (Nat.le_of_ble_eq_true rfl) rfl (Nat.le_of_ble_eq_true rfl) (Nat.le_of_ble_eq_true rfl) (sc_bitsPerIndex d M f hg hf h1) ?_
    refine ae_istore_n (pc := 4) dX6_packedByte_4 rfl (Nat.le_of_ble_eq_true rfl) ?_
    refine ae_aload_n (pc := 5) dX6_packedByte_5 rfl ?_
    refine ae_iload_n (pc := 6) dX6_packedByte_6 rfl ?_
    refine ae_pcallV (pc := 7) (z := zX6_bytesPerRow) (k := 32) (As := [_]) dX6_packedByte_7 rfl rfl rfl rfl (Nat.le_of_ble_eq_true rfl) rfl (Nat.le_of_ble_eq_true rfl) (Nat.le_of_ble_eq_true rfl) (sc_bytesPerRow (d + 1) M f hg hf.1) ?_
    refine ae_istore_n (pc := 10) dX6_packedByte_10 rfl (Nat.le_of_ble_eq_true rfl) ?_
    refine ae_iload_n (pc := 11) dX6_packedByte_11 rfl ?_
    refine ae_if_lt (pc := 12) (t := 36) dX6_packedByte_12 (by decide) (fun c12 => ?_) (fun c12 => ?_)
    · exact absurd c12 hk0
    refine ae_iload_n (pc := 15) dX6_packedByte_15 rfl ?_
    refine ae_if_le (pc := 16) (t := 36) dX6_packedByte_16 (by decide) (fun c16 => ?_) (fun c16 => ?_)
    · exact absurd c16 hb0
    refine ae_iload_n (pc := 19) dX6_packedByte_19 rfl ?_
    refine ae_if_le (pc := 20) (t := 36) dX6_packedByte_20 (by decide) (fun c20 => ?_) (fun c20 => ?_)
    · exact absurd c20 hr0
    refine ae_iload_n (pc := 23) dX6_packedByte_23 rfl ?_
    refine ae_iload_n (pc := 24) dX6_packedByte_24 rfl ?_
    refine ae_aload_n (pc := 25) dX6_packedByte_25 rfl ?_
    refine ae_getR (pc := 26) (k := 32) (c := 6) (j := 0) (q := 1) dX6_packedByte_26 rfl rfl (Nat.le_of_ble_eq_true rfl) rfl (Nat.le_of_ble_eq_true rfl) rfl ?_
    refine ae_getI (pc := 29) (k := 1) (c := 7) (j := 1) (v := nI (fH f)) dX6_packedByte_29 rfl rfl (Or.inl rfl) (Nat.le_of_ble_eq_true rfl) rfl (Nat.le_of_ble_eq_true rfl) a1 ?_
    refine ae_imul (pc := 32) (v := nI (pkR f * fH f)) dX6_packedByte_32 (nI_mul _ _) ?_
    refine ae_icmp_lt (pc := 33) (t := 38) dX6_packedByte_33 (by decide) (fun c33 => ?_) (fun c33 => ?_)
    · exact absurd ((nI_ltI hk (by omega)).mp c33) hkk
    · refine ae_iconst (pc := 36) (v := (-1)) dX6_packedByte_36 (by decide) ?_
      refine ae_ireturn (pc := 37) dX6_packedByte_37 rfl ?_
      exact ⟨rfl, rfl⟩
  rw [if_pos hkk]
  have hy : k / pkR f < fH f := (Nat.div_lt_iff_lt_mul (by omega)).mpr (by rw [Nat.mul_comm]; exact hkk)
  have hm : k % pkR f < pkR f := Nat.mod_lt _ (by omega)
  have hx : k % pkR f * (8 / pkB f) ≤ 16 * 8 := Nat.mul_le_mul (by omega) hB3
  have st : am_E none (am_R (d + 2)) cX6_packedByte 6 (some .int) (fun v M' => v = some (.int (pkV f k (8 / pkB f))) ∧ M' = M) (59, [some (.ref 32), some (.int (nI k)), some (.int (nI (pkB f))), some (.int (nI (pkR f))), some (.int (nI (k / pkR f))), some (.int (nI (k % pkR f * (8 / pkB f)))), some (.int (pkV f k 0)), some (.int (nI 0)), none, none], [], M) := by
    refine am_down (P := fun i => am_E none (am_R (d + 2)) cX6_packedByte 6 (some .int) _ (59, [some (.ref 32), some (.int (nI k)), some (.int (nI (pkB f))), some (.int (nI (pkR f))), some (.int (nI (k / pkR f))), some (.int (nI (k % pkR f * (8 / pkB f)))), some (.int (pkV f k i)), some (.int (nI i)), none, none], [], M)) (8 / pkB f) (fun i hi ih => ?_)
    refine ae_iload (pc := 59) dX6_packedByte_59 rfl ?_
    refine ae_bipush (pc := 61) (v := nI 8) dX6_packedByte_61 (by decide) ?_
    refine ae_iload_n (pc := 63) dX6_packedByte_63 rfl ?_
    refine ae_idiv (pc := 64) (v := nI (8 / pkB f)) dX6_packedByte_64 (nI_ne0 (by omega) (by omega)) (nI_div (by decide) (by omega)) ?_
    refine ae_icmp_ge (pc := 65) (t := 129) dX6_packedByte_65 (by decide) (fun c65 => ?_) (fun c65 => ?_)
    · have hi2 : i = 8 / pkB f := by rw [nI_leI (by omega) (by omega)] at c65; omega
      subst hi2
      refine ae_iload (pc := 129) dX6_packedByte_129 rfl ?_
      refine ae_ireturn (pc := 131) dX6_packedByte_131 rfl ?_
      exact ⟨rfl, rfl⟩
    · have hi2 : i < 8 / pkB f := by rw [nI_leI (by omega) (by omega)] at c65; omega
      have ih2 := ih hi2
      rw [pkV_s] at ih2
      have hco := sc_contains (d + 1) M f hg hf.1 (nI (k % pkR f * (8 / pkB f) + i)) (nI (k / pkR f))
      by_cases hxw : k % pkR f * (8 / pkB f) + i < fW f
      · rw [if_pos hxw] at ih2
        rw [bI_t (inP_of hf.1 hxw hy)] at hco
        have hpp := pl_lt hf.1 hxw hy
        refine ae_iload (pc := 68) dX6_packedByte_68 rfl ?_
        refine ae_iload (pc := 70) dX6_packedByte_70 rfl ?_
        refine ae_iadd (pc := 72) (v := nI (k % pkR f * (8 / pkB f) + i)) dX6_packedByte_72 (nI_add _ _) ?_
        refine ae_istore (pc := 73) dX6_packedByte_73 rfl (Nat.le_of_ble_eq_true rfl) ?_
        refine ae_aload_n (pc := 75) dX6_packedByte_75 rfl ?_
        refine ae_getR (pc := 76) (k := 32) (c := 6) (j := 0) (q := 1) dX6_packedByte_76 rfl rfl (Nat.le_of_ble_eq_true rfl) rfl (Nat.le_of_ble_eq_true rfl) rfl ?_
        refine ae_iload (pc := 79) dX6_packedByte_79 rfl ?_
        refine ae_iload (pc := 81) dX6_packedByte_81 rfl ?_
        refine ae_pcallV (pc := 83) (z := zX7_contains) (k := 1) (As := [_, _]) dX6_packedByte_83 rfl rfl rfl rfl (Nat.le_of_ble_eq_true rfl) rfl (Nat.le_of_ble_eq_true rfl) (Nat.le_of_ble_eq_true rfl) (hco) ?_
        refine ae_if_eq (pc := 86) (t := 111) dX6_packedByte_86 (by decide) (fun c86 => ?_) (fun c86 => ?_)
        · exact absurd c86 (by decide)
        refine ae_aload_n (pc := 89) dX6_packedByte_89 rfl ?_
        refine ae_getR (pc := 90) (k := 32) (c := 6) (j := 0) (q := 1) dX6_packedByte_90 rfl rfl (Nat.le_of_ble_eq_true rfl) rfl (Nat.le_of_ble_eq_true rfl) rfl ?_
        refine ae_getR (pc := 93) (k := 1) (c := 7) (j := 8) (q := 5) dX6_packedByte_93 rfl rfl (Nat.le_of_ble_eq_true rfl) rfl (Nat.le_of_ble_eq_true rfl) rfl ?_
        refine ae_aload_n (pc := 96) dX6_packedByte_96 rfl ?_
        refine ae_getR (pc := 97) (k := 32) (c := 6) (j := 0) (q := 1) dX6_packedByte_97 rfl rfl (Nat.le_of_ble_eq_true rfl) rfl (Nat.le_of_ble_eq_true rfl) rfl ?_
        refine ae_iload (pc := 100) dX6_packedByte_100 rfl ?_
        refine ae_iload (pc := 102) dX6_packedByte_102 rfl ?_
        refine ae_pcallV (pc := 104) (z := zX7_place) (k := 1) (As := [_, _]) dX6_packedByte_104 rfl rfl rfl rfl (Nat.le_of_ble_eq_true rfl) rfl (Nat.le_of_ble_eq_true rfl) (Nat.le_of_ble_eq_true rfl) (sc_place (d + 1) M f hg hf.1 _ _) ?_
        refine ae_iaload (pc := 107) (k := 5) (N := 256) (v := f (293 + (k / pkR f * fW f + (k % pkR f * (8 / pkB f) + i)))) (k / pkR f * fW f + (k % pkR f * (8 / pkB f) + i)) dX6_packedByte_107 (Nat.le_of_ble_eq_true rfl) rfl rfl rfl (by omega) (hg.2.2.2 h1 _ hpp) ?_
        refine ae_goto (pc := 108) (t := 112) dX6_packedByte_108 (by decide) ?_
        refine ae_istore (pc := 112) dX6_packedByte_112 rfl (Nat.le_of_ble_eq_true rfl) ?_
        refine ae_iload (pc := 114) dX6_packedByte_114 rfl ?_
        refine ae_iload_n (pc := 116) dX6_packedByte_116 rfl ?_
        refine ae_ishl (pc := 117) dX6_packedByte_117 rfl ?_
        refine ae_iload (pc := 118) dX6_packedByte_118 rfl ?_
        refine ae_iadd (pc := 120) dX6_packedByte_120 rfl ?_
        refine ae_istore (pc := 121) dX6_packedByte_121 rfl (Nat.le_of_ble_eq_true rfl) ?_
        refine ae_iinc (pc := 123) (v := nI (i + 1)) dX6_packedByte_123 rfl (nI_inc i) ?_
        refine ae_goto (pc := 126) (t := 59) dX6_packedByte_126 (by decide) ?_
        exact ae_forget [8, 9] rfl ih2
      · rw [if_neg hxw] at ih2
        rw [bI_f (fun q => by
          have q2 := ((inP_iff hf.1 _ _).mp q).1.2
          rw [nI_leI (by omega) (by omega)] at q2
          omega)] at hco
        refine ae_iload (pc := 68) dX6_packedByte_68 rfl ?_
        refine ae_iload (pc := 70) dX6_packedByte_70 rfl ?_
        refine ae_iadd (pc := 72) (v := nI (k % pkR f * (8 / pkB f) + i)) dX6_packedByte_72 (nI_add _ _) ?_
        refine ae_istore (pc := 73) dX6_packedByte_73 rfl (Nat.le_of_ble_eq_true rfl) ?_
        refine ae_aload_n (pc := 75) dX6_packedByte_75 rfl ?_
        refine ae_getR (pc := 76) (k := 32) (c := 6) (j := 0) (q := 1) dX6_packedByte_76 rfl rfl (Nat.le_of_ble_eq_true rfl) rfl (Nat.le_of_ble_eq_true rfl) rfl ?_
        refine ae_iload (pc := 79) dX6_packedByte_79 rfl ?_
        refine ae_iload (pc := 81) dX6_packedByte_81 rfl ?_
        refine ae_pcallV (pc := 83) (z := zX7_contains) (k := 1) (As := [_, _]) dX6_packedByte_83 rfl rfl rfl rfl (Nat.le_of_ble_eq_true rfl) rfl (Nat.le_of_ble_eq_true rfl) (Nat.le_of_ble_eq_true rfl) (hco) ?_
        refine ae_if_eq (pc := 86) (t := 111) dX6_packedByte_86 (by decide) (fun c86 => ?_) (fun c86 => ?_)
        rotate_left
        · exact absurd rfl c86
        refine ae_iconst (pc := 111) (v := nI 0) dX6_packedByte_111 (by decide) ?_
        refine ae_istore (pc := 112) dX6_packedByte_112 rfl (Nat.le_of_ble_eq_true rfl) ?_
        refine ae_iload (pc := 114) dX6_packedByte_114 rfl ?_
        refine ae_iload_n (pc := 116) dX6_packedByte_116 rfl ?_
        refine ae_ishl (pc := 117) dX6_packedByte_117 rfl ?_
        refine ae_iload (pc := 118) dX6_packedByte_118 rfl ?_
        refine ae_iadd (pc := 120) dX6_packedByte_120 rfl ?_
        refine ae_istore (pc := 121) dX6_packedByte_121 rfl (Nat.le_of_ble_eq_true rfl) ?_
        refine ae_iinc (pc := 123) (v := nI (i + 1)) dX6_packedByte_123 rfl (nI_inc i) ?_
        refine ae_goto (pc := 126) (t := 59) dX6_packedByte_126 (by decide) ?_
        exact ae_forget [8, 9] rfl ih2
  refine ae_aload_n (pc := 0) dX6_packedByte_0 rfl ?_
  refine ae_pcallV (pc := 1) (z := zX6_bitsPerIndex) (k := 32) (As := []) dX6_packedByte_1 rfl rfl rfl rfl (Nat.le_of_ble_eq_true rfl) rfl (Nat.le_of_ble_eq_true rfl) (Nat.le_of_ble_eq_true rfl) (sc_bitsPerIndex d M f hg hf h1) ?_
  refine ae_istore_n (pc := 4) dX6_packedByte_4 rfl (Nat.le_of_ble_eq_true rfl) ?_
  refine ae_aload_n (pc := 5) dX6_packedByte_5 rfl ?_
  refine ae_iload_n (pc := 6) dX6_packedByte_6 rfl ?_
  refine ae_pcallV (pc := 7) (z := zX6_bytesPerRow) (k := 32) (As := [_]) dX6_packedByte_7 rfl rfl rfl rfl (Nat.le_of_ble_eq_true rfl) rfl (Nat.le_of_ble_eq_true rfl) (Nat.le_of_ble_eq_true rfl) (sc_bytesPerRow (d + 1) M f hg hf.1) ?_
  refine ae_istore_n (pc := 10) dX6_packedByte_10 rfl (Nat.le_of_ble_eq_true rfl) ?_
  refine ae_iload_n (pc := 11) dX6_packedByte_11 rfl ?_
  refine ae_if_lt (pc := 12) (t := 36) dX6_packedByte_12 (by decide) (fun c12 => ?_) (fun c12 => ?_)
  · exact absurd c12 hk0
  refine ae_iload_n (pc := 15) dX6_packedByte_15 rfl ?_
  refine ae_if_le (pc := 16) (t := 36) dX6_packedByte_16 (by decide) (fun c16 => ?_) (fun c16 => ?_)
  · exact absurd c16 hb0
  refine ae_iload_n (pc := 19) dX6_packedByte_19 rfl ?_
  refine ae_if_le (pc := 20) (t := 36) dX6_packedByte_20 (by decide) (fun c20 => ?_) (fun c20 => ?_)
  · exact absurd c20 hr0
  refine ae_iload_n (pc := 23) dX6_packedByte_23 rfl ?_
  refine ae_iload_n (pc := 24) dX6_packedByte_24 rfl ?_
  refine ae_aload_n (pc := 25) dX6_packedByte_25 rfl ?_
  refine ae_getR (pc := 26) (k := 32) (c := 6) (j := 0) (q := 1) dX6_packedByte_26 rfl rfl (Nat.le_of_ble_eq_true rfl) rfl (Nat.le_of_ble_eq_true rfl) rfl ?_
  refine ae_getI (pc := 29) (k := 1) (c := 7) (j := 1) (v := nI (fH f)) dX6_packedByte_29 rfl rfl (Or.inl rfl) (Nat.le_of_ble_eq_true rfl) rfl (Nat.le_of_ble_eq_true rfl) a1 ?_
  refine ae_imul (pc := 32) (v := nI (pkR f * fH f)) dX6_packedByte_32 (nI_mul _ _) ?_
  refine ae_icmp_lt (pc := 33) (t := 38) dX6_packedByte_33 (by decide) (fun c33 => ?_) (fun c33 => ?_)
  rotate_left
  · exact absurd ((nI_ltI hk (by omega)).mpr hkk) c33
  refine ae_iload_n (pc := 38) dX6_packedByte_38 rfl ?_
  refine ae_iload_n (pc := 39) dX6_packedByte_39 rfl ?_
  refine ae_idiv (pc := 40) (v := nI (k / pkR f)) dX6_packedByte_40 (nI_ne0 (by omega) (by omega)) (nI_div (by omega) (by omega)) ?_
  refine ae_istore (pc := 41) dX6_packedByte_41 rfl (Nat.le_of_ble_eq_true rfl) ?_
  refine ae_iload_n (pc := 43) dX6_packedByte_43 rfl ?_
  refine ae_iload_n (pc := 44) dX6_packedByte_44 rfl ?_
  refine ae_irem (pc := 45) (v := nI (k % pkR f)) dX6_packedByte_45 (nI_ne0 (by omega) (by omega)) (nI_mod (by omega) (by omega)) ?_
  refine ae_bipush (pc := 46) (v := nI 8) dX6_packedByte_46 (by decide) ?_
  refine ae_imul (pc := 48) (v := nI (k % pkR f * 8)) dX6_packedByte_48 (nI_mul _ _) ?_
  refine ae_iload_n (pc := 49) dX6_packedByte_49 rfl ?_
  refine ae_idiv (pc := 50) (v := nI (k % pkR f * (8 / pkB f))) dX6_packedByte_50 (nI_ne0 (by omega) (by omega)) ((nI_div (by omega) (by omega)).trans (by rw [pk_x])) ?_
  refine ae_istore (pc := 51) dX6_packedByte_51 rfl (Nat.le_of_ble_eq_true rfl) ?_
  refine ae_iconst (pc := 53) (v := nI 0) dX6_packedByte_53 (by decide) ?_
  refine ae_istore (pc := 54) dX6_packedByte_54 rfl (Nat.le_of_ble_eq_true rfl) ?_
  refine ae_iconst (pc := 56) (v := nI 0) dX6_packedByte_56 (by decide) ?_
  refine ae_istore (pc := 57) dX6_packedByte_57 rfl (Nat.le_of_ble_eq_true rfl) ?_
  exact st

