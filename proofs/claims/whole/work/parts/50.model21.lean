theorem sm_measure (d : Nat) (M : am_M) (n : Nat) (hn : M.1 33 7 = nI n) (hn2 : n ≤ 256) (cn : Int32 → Nat) (hm : ∀ i, i < n → M.1 38 i = nI (cn (M.1 37 i)) ∧ cn (M.1 37 i) ≤ 256) (b r : Nat) (hr : r < 3) : am_R (d + 4) zX11_measure [.ref 33, .int (nI b), .int (nI r)] M (fun v M' => v = some (.long (lMs cn r (bL (M.1 37) (M.1 45) b n))) ∧ M' = M) := by
  refine ae_enter (z := zX11_measure) (y := yX11_measure) (cc := cX11_measure) (mL := 3) (rt := some .long) (ci := 11) (st := false) (np := 2) (L := [some (.ref 33), some (.int (nI b)), some (.int (nI r))]) rfl (by decide) (Nat.le_of_ble_eq_true rfl) rfl ?_
  have hps := bL_lS_le (h := M.1 37) (bx := M.1 45) (b := b) hn2 (g := cn) (B := 256) (fun i hi => (hm i hi).2) (Nat.le_refl n)
  have e0 : nI r = 0 ↔ r = 0 := by rw [show (0 : Int32) = nI 0 from rfl, nI_eq (by omega) (by decide)]
  have e1 : nI r = nI 1 ↔ r = 1 := nI_eq (by omega) (by decide)
  refine ae_iload_n (pc := 0) dX11_measure_0 rfl ?_
  refine ae_if_ne (pc := 1) (t := 13) dX11_measure_1 (by decide) (fun c1 => ?_) (fun c1 => ?_)
  · refine ae_iload_n (pc := 13) dX11_measure_13 rfl ?_
    refine ae_iconst (pc := 14) (v := nI 1) dX11_measure_14 (by decide) ?_
    refine ae_icmp_ne (pc := 15) (t := 32) dX11_measure_15 (by decide) (fun c15 => ?_) (fun c15 => ?_)
    · refine ae_aload_n (pc := 32) dX11_measure_32 rfl ?_
      refine ae_iload_n (pc := 33) dX11_measure_33 rfl ?_
      refine ae_pcallV (pc := 34) (z := zX11_spread) (k := 33) (As := [_]) dX11_measure_34 rfl rfl rfl rfl (Nat.le_of_ble_eq_true rfl) rfl (Nat.le_of_ble_eq_true rfl) (Nat.le_of_ble_eq_true rfl) (sm_spread (d + 1) M n hn hn2 cn hm b) ?_
      refine ae_lreturn (pc := 37) dX11_measure_37 rfl ?_
      refine ⟨?_, rfl⟩
      unfold lMs
      first | (rw [if_pos (e0.mp (Classical.not_not.mp c1))]; done) | (rw [if_neg (fun q => c1 (e0.mpr q)), if_pos (e1.mp (Classical.not_not.mp c15))]; done) | (rw [if_neg (fun q => c1 (e0.mpr q)), if_neg (fun q => c15 (e1.mpr q))]; done)
    · refine ae_aload_n (pc := 18) dX11_measure_18 rfl ?_
      refine ae_iload_n (pc := 19) dX11_measure_19 rfl ?_
      refine ae_aload_n (pc := 20) dX11_measure_20 rfl ?_
      refine ae_iload_n (pc := 21) dX11_measure_21 rfl ?_
      refine ae_pcallV (pc := 22) (z := zX11_widest) (k := 33) (As := [_]) dX11_measure_22 rfl rfl rfl rfl (Nat.le_of_ble_eq_true rfl) rfl (Nat.le_of_ble_eq_true rfl) (Nat.le_of_ble_eq_true rfl) (sm_widest d M n hn hn2 b) ?_
      refine ae_pcallV (pc := 25) (z := zX11_rangeOf) (k := 33) (As := [_, _]) dX11_measure_25 rfl rfl rfl rfl (Nat.le_of_ble_eq_true rfl) rfl (Nat.le_of_ble_eq_true rfl) (Nat.le_of_ble_eq_true rfl) (sm_rangeOf (d + 1) M n hn hn2 b _) ?_
      refine ae_i2l (pc := 28) dX11_measure_28 rfl ?_
      refine ae_goto (pc := 29) (t := 37) dX11_measure_29 (by decide) ?_
      refine ae_lreturn (pc := 37) dX11_measure_37 rfl ?_
      refine ⟨?_, rfl⟩
      unfold lMs
      first | (rw [if_pos (e0.mp (Classical.not_not.mp c1))]; done) | (rw [if_neg (fun q => c1 (e0.mpr q)), if_pos (e1.mp (Classical.not_not.mp c15))]; done) | (rw [if_neg (fun q => c1 (e0.mpr q)), if_neg (fun q => c15 (e1.mpr q))]; done)
  · refine ae_aload_n (pc := 4) dX11_measure_4 rfl ?_
    refine ae_iload_n (pc := 5) dX11_measure_5 rfl ?_
    refine ae_pcallV (pc := 6) (z := zX11_pixelsIn) (k := 33) (As := [_]) dX11_measure_6 rfl rfl rfl rfl (Nat.le_of_ble_eq_true rfl) rfl (Nat.le_of_ble_eq_true rfl) (Nat.le_of_ble_eq_true rfl) (sm_pixelsIn (d + 2) M n hn hn2 cn (fun i hi => (hm i hi).1) b) ?_
    refine ae_i2l (pc := 9) (v := nL (lS cn (bL (M.1 37) (M.1 45) b n))) dX11_measure_9 (nI_i2l (by omega)) ?_
    refine ae_goto (pc := 10) (t := 37) dX11_measure_10 (by decide) ?_
    refine ae_lreturn (pc := 37) dX11_measure_37 rfl ?_
    refine ⟨?_, rfl⟩
    unfold lMs
    first | (rw [if_pos (e0.mp (Classical.not_not.mp c1))]; done) | (rw [if_neg (fun q => c1 (e0.mpr q)), if_pos (e1.mp (Classical.not_not.mp c15))]; done) | (rw [if_neg (fun q => c1 (e0.mpr q)), if_neg (fun q => c15 (e1.mpr q))]; done)
theorem sm_greatest (d : Nat) (M : am_M) (n : Nat) (hn : M.1 33 7 = nI n) (hn2 : n ≤ 256) (cn : Int32 → Nat) (hm : ∀ i, i < n → M.1 38 i = nI (cn (M.1 37 i)) ∧ cn (M.1 37 i) ≤ 256) (nb : Nat) (hnb : M.1 33 16 = nI nb) (hnb2 : nb ≤ 16) (r : Nat) (hr : r < 3) : am_R (d + 5) zX11_greatest [.ref 33, .int (nI r)] M (fun v M' => v = some (.int (oI (lGr cn r (fun b => bL (M.1 37) (M.1 45) b n) nb))) ∧ M' = M) := by
  refine ae_enter (z := zX11_greatest) (y := yX11_greatest) (cc := cX11_greatest) (mL := 5) (rt := some .int) (ci := 11) (st := false) (np := 1) (L := [some (.ref 33), some (.int (nI r)), none, none, none]) rfl (by decide) (Nat.le_of_ble_eq_true rfl) rfl ?_
  refine ae_iconst (pc := 0) (v := (-1)) dX11_greatest_0 (by decide) ?_
  refine ae_istore_n (pc := 1) dX11_greatest_1 rfl (Nat.le_of_ble_eq_true rfl) ?_
  refine ae_iconst (pc := 2) (v := nI 0) dX11_greatest_2 (by decide) ?_
  refine ae_istore_n (pc := 3) dX11_greatest_3 rfl (Nat.le_of_ble_eq_true rfl) ?_
  skip
  refine am_down (P := fun b => am_E none (am_R (d + 4)) cX11_greatest 11 (some .int) _ (4, [some (.ref 33), some (.int (nI r)), some (.int (oI (lGr cn r (fun b => bL (M.1 37) (M.1 45) b n) b))), some (.int (nI b)), none], [], M)) nb (fun b hb ih => ?_)
  refine ae_iload_n (pc := 4) dX11_greatest_4 rfl ?_
  refine ae_aload_n (pc := 5) dX11_greatest_5 rfl ?_
  refine ae_getI (pc := 6) (k := 33) (c := 11) (j := 16) (v := nI nb) dX11_greatest_6 rfl rfl (Or.inl rfl) (Nat.le_of_ble_eq_true rfl) rfl (Nat.le_of_ble_eq_true rfl) hnb ?_
  refine ae_icmp_ge (pc := 9) (t := 66) dX11_greatest_9 (by decide) (fun c9 => ?_) (fun c9 => ?_)
  · have hb2 : b = nb := by rw [nI_leI (by omega) (by omega)] at c9; omega
    subst hb2
    refine ae_iload_n (pc := 66) dX11_greatest_66 rfl ?_
    refine ae_ireturn (pc := 67) dX11_greatest_67 rfl ?_
    exact ⟨rfl, rfl⟩
  · have hb2 : b < nb := by rw [nI_leI (by omega) (by omega)] at c9; omega
    have ih2 := ih hb2
    rw [lGr_s] at ih2
    have hle := bL_le256 (h := M.1 37) (bx := M.1 45) (b := b) hn2
    have hci := sm_colorsIn (d + 3) M n hn hn2 b
    by_cases hl : 1 < (bL (M.1 37) (M.1 45) b n).length
    · rw [if_pos hl] at ih2
      have hl2 : ¬ nI (bL (M.1 37) (M.1 45) b n).length ≤ nI 1 := by rw [nI_leI (by omega) (by omega)]; omega
      cases hx : lGr cn r (fun b => bL (M.1 37) (M.1 45) b n) b with
      | none =>
        rw [hx] at ih2
        refine ae_aload_n (pc := 12) dX11_greatest_12 rfl ?_
        refine ae_iload_n (pc := 13) dX11_greatest_13 rfl ?_
        refine ae_pcallV (pc := 14) (z := zX11_colorsIn) (k := 33) (As := [_]) dX11_greatest_14 rfl rfl rfl rfl (Nat.le_of_ble_eq_true rfl) rfl (Nat.le_of_ble_eq_true rfl) (Nat.le_of_ble_eq_true rfl) (hci) ?_
        refine ae_iconst (pc := 17) (v := nI 1) dX11_greatest_17 (by decide) ?_
        refine ae_icmp_le (pc := 18) (t := 25) dX11_greatest_18 (by decide) (fun c18 => ?_) (fun c18 => ?_)
        · exact absurd c18 hl2
        refine ae_iconst (pc := 21) (v := nI 1) dX11_greatest_21 (by decide) ?_
        refine ae_goto (pc := 22) (t := 26) dX11_greatest_22 (by decide) ?_
        refine ae_istore (pc := 26) dX11_greatest_26 rfl (Nat.le_of_ble_eq_true rfl) ?_
        refine ae_iload (pc := 28) dX11_greatest_28 rfl ?_
        refine ae_if_eq (pc := 30) (t := 58) dX11_greatest_30 (by decide) (fun q => absurd q (by decide)) (fun _ => ?_)
        refine ae_iload_n (pc := 33) dX11_greatest_33 rfl ?_
        refine ae_iconst (pc := 34) (v := (-1)) dX11_greatest_34 (by decide) ?_
        refine ae_icmp_eq (pc := 35) (t := 54) dX11_greatest_35 (by decide) (fun c35 => ?_) (fun c35 => ?_)
        rotate_left
        · exact absurd rfl c35
        refine ae_iload_n (pc := 54) dX11_greatest_54 rfl ?_
        refine ae_goto (pc := 55) (t := 59) dX11_greatest_55 (by decide) ?_
        refine ae_istore_n (pc := 59) dX11_greatest_59 rfl (Nat.le_of_ble_eq_true rfl) ?_
        refine ae_iinc (pc := 60) (v := nI (b + 1)) dX11_greatest_60 rfl (nI_inc b) ?_
        refine ae_goto (pc := 63) (t := 4) dX11_greatest_63 (by decide) ?_
        exact ae_forget [4] rfl ih2
      | some q =>
        rw [hx] at ih2
        dsimp only at ih2
        have hq := (lGr_lt hx).1
        refine ae_aload_n (pc := 12) dX11_greatest_12 rfl ?_
        refine ae_iload_n (pc := 13) dX11_greatest_13 rfl ?_
        refine ae_pcallV (pc := 14) (z := zX11_colorsIn) (k := 33) (As := [_]) dX11_greatest_14 rfl rfl rfl rfl (Nat.le_of_ble_eq_true rfl) rfl (Nat.le_of_ble_eq_true rfl) (Nat.le_of_ble_eq_true rfl) (hci) ?_
        refine ae_iconst (pc := 17) (v := nI 1) dX11_greatest_17 (by decide) ?_
        refine ae_icmp_le (pc := 18) (t := 25) dX11_greatest_18 (by decide) (fun c18 => ?_) (fun c18 => ?_)
        · exact absurd c18 hl2
        refine ae_iconst (pc := 21) (v := nI 1) dX11_greatest_21 (by decide) ?_
        refine ae_goto (pc := 22) (t := 26) dX11_greatest_22 (by decide) ?_
        refine ae_istore (pc := 26) dX11_greatest_26 rfl (Nat.le_of_ble_eq_true rfl) ?_
        refine ae_iload (pc := 28) dX11_greatest_28 rfl ?_
        refine ae_if_eq (pc := 30) (t := 58) dX11_greatest_30 (by decide) (fun q => absurd q (by decide)) (fun _ => ?_)
        refine ae_iload_n (pc := 33) dX11_greatest_33 rfl ?_
        refine ae_iconst (pc := 34) (v := (-1)) dX11_greatest_34 (by decide) ?_
        refine ae_icmp_eq (pc := 35) (t := 54) dX11_greatest_35 (by decide) (fun c35 => ?_) (fun c35 => ?_)
        · exact absurd c35 (nI_ne1 (by omega))
        refine ae_aload_n (pc := 38) dX11_greatest_38 rfl ?_
        refine ae_iload_n (pc := 39) dX11_greatest_39 rfl ?_
        refine ae_iload_n (pc := 40) dX11_greatest_40 rfl ?_
        refine ae_pcallV (pc := 41) (z := zX11_measure) (k := 33) (As := [_, _]) dX11_greatest_41 rfl rfl rfl rfl (Nat.le_of_ble_eq_true rfl) rfl (Nat.le_of_ble_eq_true rfl) (Nat.le_of_ble_eq_true rfl) (sm_measure d M n hn hn2 cn hm b r hr) ?_
        refine ae_aload_n (pc := 44) dX11_greatest_44 rfl ?_
        refine ae_iload_n (pc := 45) dX11_greatest_45 rfl ?_
        refine ae_iload_n (pc := 46) dX11_greatest_46 rfl ?_
        refine ae_pcallV (pc := 47) (z := zX11_measure) (k := 33) (As := [_, _]) dX11_greatest_47 rfl rfl rfl rfl (Nat.le_of_ble_eq_true rfl) rfl (Nat.le_of_ble_eq_true rfl) (Nat.le_of_ble_eq_true rfl) (sm_measure d M n hn hn2 cn hm q r hr) ?_
        refine ae_lcmp (pc := 50) dX11_greatest_50 rfl ?_
        refine ae_if_le (pc := 51) (t := 58) dX11_greatest_51 (by decide) (fun c51 => ?_) (fun c51 => ?_)
        · refine ae_iload_n (pc := 58) dX11_greatest_58 rfl ?_
          refine ae_istore_n (pc := 59) dX11_greatest_59 rfl (Nat.le_of_ble_eq_true rfl) ?_
          refine ae_iinc (pc := 60) (v := nI (b + 1)) dX11_greatest_60 rfl (nI_inc b) ?_
          refine ae_goto (pc := 63) (t := 4) dX11_greatest_63 (by decide) ?_
          refine ae_forget [4] rfl ?_
          first | (rw [if_neg (fun z => Int32.not_lt.mpr c51 (lg_gt0.mpr z))] at ih2; exact ih2) | (rw [if_pos (lg_gt0.mp (Int32.not_le.mp c51))] at ih2; exact ih2)
        · refine ae_iload_n (pc := 54) dX11_greatest_54 rfl ?_
          refine ae_goto (pc := 55) (t := 59) dX11_greatest_55 (by decide) ?_
          refine ae_istore_n (pc := 59) dX11_greatest_59 rfl (Nat.le_of_ble_eq_true rfl) ?_
          refine ae_iinc (pc := 60) (v := nI (b + 1)) dX11_greatest_60 rfl (nI_inc b) ?_
          refine ae_goto (pc := 63) (t := 4) dX11_greatest_63 (by decide) ?_
          refine ae_forget [4] rfl ?_
          first | (rw [if_neg (fun z => Int32.not_lt.mpr c51 (lg_gt0.mpr z))] at ih2; exact ih2) | (rw [if_pos (lg_gt0.mp (Int32.not_le.mp c51))] at ih2; exact ih2)
    · rw [if_neg hl] at ih2
      have hl2 : nI (bL (M.1 37) (M.1 45) b n).length ≤ nI 1 := by rw [nI_leI (by omega) (by omega)]; omega
      refine ae_aload_n (pc := 12) dX11_greatest_12 rfl ?_
      refine ae_iload_n (pc := 13) dX11_greatest_13 rfl ?_
      refine ae_pcallV (pc := 14) (z := zX11_colorsIn) (k := 33) (As := [_]) dX11_greatest_14 rfl rfl rfl rfl (Nat.le_of_ble_eq_true rfl) rfl (Nat.le_of_ble_eq_true rfl) (Nat.le_of_ble_eq_true rfl) (hci) ?_
      refine ae_iconst (pc := 17) (v := nI 1) dX11_greatest_17 (by decide) ?_
      refine ae_icmp_le (pc := 18) (t := 25) dX11_greatest_18 (by decide) (fun c18 => ?_) (fun c18 => ?_)
      rotate_left
      · exact absurd hl2 c18
      refine ae_iconst (pc := 25) (v := nI 0) dX11_greatest_25 (by decide) ?_
      refine ae_istore (pc := 26) dX11_greatest_26 rfl (Nat.le_of_ble_eq_true rfl) ?_
      refine ae_iload (pc := 28) dX11_greatest_28 rfl ?_
      refine ae_if_eq (pc := 30) (t := 58) dX11_greatest_30 (by decide) (fun _ => ?_) (fun q => absurd (by decide) q)
      refine ae_iload_n (pc := 58) dX11_greatest_58 rfl ?_
      refine ae_istore_n (pc := 59) dX11_greatest_59 rfl (Nat.le_of_ble_eq_true rfl) ?_
      refine ae_iinc (pc := 60) (v := nI (b + 1)) dX11_greatest_60 rfl (nI_inc b) ?_
      refine ae_goto (pc := 63) (t := 4) dX11_greatest_63 (by decide) ?_
      exact ae_forget [4] rfl ih2
theorem sm_before (d : Nat) (M : am_M) (n : Nat) (hn : M.1 33 7 = nI n) (hn2 : n ≤ 256) (b c a : Nat) (ha : a < n) : am_R (d + 2) zX11_before [.ref 33, .int (nI b), .int (nI c), .int (nI a)] M (fun v M' => v = some (.int (nI (lRk c (M.1 37 a) (bL (M.1 37) (M.1 45) b n)))) ∧ M' = M) := by
  refine ae_enter (z := zX11_before) (y := yX11_before) (cc := cX11_before) (mL := 7) (rt := some .int) (ci := 11) (st := false) (np := 3) (L := [some (.ref 33), some (.int (nI b)), some (.int (nI c)), some (.int (nI a)), none, none, none]) rfl (by decide) (Nat.le_of_ble_eq_true rfl) rfl ?_
  refine ae_iconst (pc := 0) (v := nI 0) dX11_before_0 (by decide) ?_
  refine ae_istore (pc := 1) dX11_before_1 rfl (Nat.le_of_ble_eq_true rfl) ?_
  refine ae_iconst (pc := 3) (v := nI 0) dX11_before_3 (by decide) ?_
  refine ae_istore (pc := 4) dX11_before_4 rfl (Nat.le_of_ble_eq_true rfl) ?_
  skip
  refine am_down (P := fun k => am_E none (am_R (d + 1)) cX11_before 11 (some .int) _ (6, [some (.ref 33), some (.int (nI b)), some (.int (nI c)), some (.int (nI a)), some (.int (nI (lRk c (M.1 37 a) (bL (M.1 37) (M.1 45) b k)))), some (.int (nI k)), none], [], M)) n (fun k hk ih => ?_)
  refine ae_iload (pc := 6) dX11_before_6 rfl ?_
  refine ae_aload_n (pc := 8) dX11_before_8 rfl ?_
  refine ae_getI (pc := 9) (k := 33) (c := 11) (j := 7) (v := nI n) dX11_before_9 rfl rfl (Or.inl rfl) (Nat.le_of_ble_eq_true rfl) rfl (Nat.le_of_ble_eq_true rfl) hn ?_
  refine ae_icmp_ge (pc := 12) (t := 92) dX11_before_12 (by decide) (fun c12 => ?_) (fun c12 => ?_)
  · have hk2 : k = n := by rw [nI_leI (by omega) (by omega)] at c12; omega
    subst hk2
    refine ae_iload (pc := 92) dX11_before_92 rfl ?_
    refine ae_ireturn (pc := 94) dX11_before_94 rfl ?_
    exact ⟨rfl, rfl⟩
  · have hk2 : k < n := by rw [nI_leI (by omega) (by omega)] at c12; omega
    have ih2 := ih hk2
    by_cases hb : M.1 45 k = nI b
    · rw [bL_t hb] at ih2
      simp only [lRk] at ih2
      refine ae_aload_n (pc := 15) dX11_before_15 rfl ?_
      refine ae_getR (pc := 16) (k := 33) (c := 11) (j := 5) (q := 37) dX11_before_16 rfl rfl (Nat.le_of_ble_eq_true rfl) rfl (Nat.le_of_ble_eq_true rfl) rfl ?_
      refine ae_iload (pc := 19) dX11_before_19 rfl ?_
      refine ae_iaload (pc := 21) (k := 37) (N := 256) _ dX11_before_21 (Nat.le_of_ble_eq_true rfl) rfl rfl rfl (by omega) rfl ?_
      refine ae_iload_n (pc := 22) dX11_before_22 rfl ?_
      refine ae_pcallS (pc := 23) (z := zX11_channel) (As := [_, _]) dX11_before_23 rfl rfl rfl rfl (Nat.le_of_ble_eq_true rfl) (sm_channel d _ _ _) ?_
      refine ae_aload_n (pc := 26) dX11_before_26 rfl ?_
      refine ae_getR (pc := 27) (k := 33) (c := 11) (j := 5) (q := 37) dX11_before_27 rfl rfl (Nat.le_of_ble_eq_true rfl) rfl (Nat.le_of_ble_eq_true rfl) rfl ?_
      refine ae_iload_n (pc := 30) dX11_before_30 rfl ?_
      refine ae_iaload (pc := 31) (k := 37) (N := 256) _ dX11_before_31 (Nat.le_of_ble_eq_true rfl) rfl rfl rfl (by omega) rfl ?_
      refine ae_iload_n (pc := 32) dX11_before_32 rfl ?_
      refine ae_pcallS (pc := 33) (z := zX11_channel) (As := [_, _]) dX11_before_33 rfl rfl rfl rfl (Nat.le_of_ble_eq_true rfl) (sm_channel d _ _ _) ?_
      refine ae_isub (pc := 36) dX11_before_36 rfl ?_
      refine ae_istore (pc := 37) dX11_before_37 rfl (Nat.le_of_ble_eq_true rfl) ?_
      refine ae_iload (pc := 39) dX11_before_39 rfl ?_
      refine ae_aload_n (pc := 41) dX11_before_41 rfl ?_
      refine ae_getR (pc := 42) (k := 33) (c := 11) (j := 15) (q := 45) dX11_before_42 rfl rfl (Nat.le_of_ble_eq_true rfl) rfl (Nat.le_of_ble_eq_true rfl) rfl ?_
      refine ae_iload (pc := 45) dX11_before_45 rfl ?_
      refine ae_iaload (pc := 47) (k := 45) (N := 256) _ dX11_before_47 (Nat.le_of_ble_eq_true rfl) rfl rfl rfl (by omega) rfl ?_
      refine ae_iload_n (pc := 48) dX11_before_48 rfl ?_
      refine ae_icmp_ne (pc := 49) (t := 82) dX11_before_49 (by decide) (fun c49 => ?_) (fun c49 => ?_)
      · exact absurd hb c49
      refine ae_iload (pc := 52) dX11_before_52 rfl ?_
      refine ae_if_lt (pc := 54) (t := 78) dX11_before_54 (by decide) (fun c54 => ?_) (fun c54 => ?_)
      · refine ae_iconst (pc := 78) (v := nI 1) dX11_before_78 (by decide) ?_
        refine ae_goto (pc := 79) (t := 83) dX11_before_79 (by decide) ?_
        refine ae_iadd (pc := 83) dX11_before_83 (nI_add _ _) ?_
        refine ae_istore (pc := 84) dX11_before_84 rfl (Nat.le_of_ble_eq_true rfl) ?_
        refine ae_iinc (pc := 86) (v := nI (k + 1)) dX11_before_86 rfl (nI_inc k) ?_
        refine ae_goto (pc := 89) (t := 6) dX11_before_89 (by decide) ?_
        refine ae_forget [6] rfl ?_
        first | (rw [if_pos (Or.inl (cha_lt0.mp c54))] at ih2; exact ih2) | (rw [if_neg (fun q => q.elim (fun z => c54 (cha_lt0.mpr z)) (fun z => by first | exact c59 (cha_eq0.mpr z.1) | exact Int32.not_lt.mpr c75 z.2))] at ih2; exact ih2) | (rw [if_pos (Or.inr (And.intro (cha_eq0.mp (Classical.not_not.mp c59)) (Int32.not_le.mp c75)))] at ih2; exact ih2)
      · refine ae_iload (pc := 57) dX11_before_57 rfl ?_
        refine ae_if_ne (pc := 59) (t := 82) dX11_before_59 (by decide) (fun c59 => ?_) (fun c59 => ?_)
        · refine ae_iconst (pc := 82) (v := nI 0) dX11_before_82 (by decide) ?_
          refine ae_iadd (pc := 83) dX11_before_83 (nI_add _ _) ?_
          refine ae_istore (pc := 84) dX11_before_84 rfl (Nat.le_of_ble_eq_true rfl) ?_
          refine ae_iinc (pc := 86) (v := nI (k + 1)) dX11_before_86 rfl (nI_inc k) ?_
          refine ae_goto (pc := 89) (t := 6) dX11_before_89 (by decide) ?_
          refine ae_forget [6] rfl ?_
          first | (rw [if_pos (Or.inl (cha_lt0.mp c54))] at ih2; exact ih2) | (rw [if_neg (fun q => q.elim (fun z => c54 (cha_lt0.mpr z)) (fun z => by first | exact c59 (cha_eq0.mpr z.1) | exact Int32.not_lt.mpr c75 z.2))] at ih2; exact ih2) | (rw [if_pos (Or.inr (And.intro (cha_eq0.mp (Classical.not_not.mp c59)) (Int32.not_le.mp c75)))] at ih2; exact ih2)
        · refine ae_aload_n (pc := 62) dX11_before_62 rfl ?_
          refine ae_getR (pc := 63) (k := 33) (c := 11) (j := 5) (q := 37) dX11_before_63 rfl rfl (Nat.le_of_ble_eq_true rfl) rfl (Nat.le_of_ble_eq_true rfl) rfl ?_
          refine ae_iload (pc := 66) dX11_before_66 rfl ?_
          refine ae_iaload (pc := 68) (k := 37) (N := 256) _ dX11_before_68 (Nat.le_of_ble_eq_true rfl) rfl rfl rfl (by omega) rfl ?_
          refine ae_aload_n (pc := 69) dX11_before_69 rfl ?_
          refine ae_getR (pc := 70) (k := 33) (c := 11) (j := 5) (q := 37) dX11_before_70 rfl rfl (Nat.le_of_ble_eq_true rfl) rfl (Nat.le_of_ble_eq_true rfl) rfl ?_
          refine ae_iload_n (pc := 73) dX11_before_73 rfl ?_
          refine ae_iaload (pc := 74) (k := 37) (N := 256) _ dX11_before_74 (Nat.le_of_ble_eq_true rfl) rfl rfl rfl (by omega) rfl ?_
          refine ae_icmp_ge (pc := 75) (t := 82) dX11_before_75 (by decide) (fun c75 => ?_) (fun c75 => ?_)
          · refine ae_iconst (pc := 82) (v := nI 0) dX11_before_82 (by decide) ?_
            refine ae_iadd (pc := 83) dX11_before_83 (nI_add _ _) ?_
            refine ae_istore (pc := 84) dX11_before_84 rfl (Nat.le_of_ble_eq_true rfl) ?_
            refine ae_iinc (pc := 86) (v := nI (k + 1)) dX11_before_86 rfl (nI_inc k) ?_
            refine ae_goto (pc := 89) (t := 6) dX11_before_89 (by decide) ?_
            refine ae_forget [6] rfl ?_
            first | (rw [if_pos (Or.inl (cha_lt0.mp c54))] at ih2; exact ih2) | (rw [if_neg (fun q => q.elim (fun z => c54 (cha_lt0.mpr z)) (fun z => by first | exact c59 (cha_eq0.mpr z.1) | exact Int32.not_lt.mpr c75 z.2))] at ih2; exact ih2) | (rw [if_pos (Or.inr (And.intro (cha_eq0.mp (Classical.not_not.mp c59)) (Int32.not_le.mp c75)))] at ih2; exact ih2)
          · refine ae_iconst (pc := 78) (v := nI 1) dX11_before_78 (by decide) ?_
            refine ae_goto (pc := 79) (t := 83) dX11_before_79 (by decide) ?_
            refine ae_iadd (pc := 83) dX11_before_83 (nI_add _ _) ?_
            refine ae_istore (pc := 84) dX11_before_84 rfl (Nat.le_of_ble_eq_true rfl) ?_
            refine ae_iinc (pc := 86) (v := nI (k + 1)) dX11_before_86 rfl (nI_inc k) ?_
            refine ae_goto (pc := 89) (t := 6) dX11_before_89 (by decide) ?_
            refine ae_forget [6] rfl ?_
            first | (rw [if_pos (Or.inl (cha_lt0.mp c54))] at ih2; exact ih2) | (rw [if_neg (fun q => q.elim (fun z => c54 (cha_lt0.mpr z)) (fun z => by first | exact c59 (cha_eq0.mpr z.1) | exact Int32.not_lt.mpr c75 z.2))] at ih2; exact ih2) | (rw [if_pos (Or.inr (And.intro (cha_eq0.mp (Classical.not_not.mp c59)) (Int32.not_le.mp c75)))] at ih2; exact ih2)
    · rw [bL_f hb] at ih2
      refine ae_aload_n (pc := 15) dX11_before_15 rfl ?_
      refine ae_getR (pc := 16) (k := 33) (c := 11) (j := 5) (q := 37) dX11_before_16 rfl rfl (Nat.le_of_ble_eq_true rfl) rfl (Nat.le_of_ble_eq_true rfl) rfl ?_
      refine ae_iload (pc := 19) dX11_before_19 rfl ?_
      refine ae_iaload (pc := 21) (k := 37) (N := 256) _ dX11_before_21 (Nat.le_of_ble_eq_true rfl) rfl rfl rfl (by omega) rfl ?_
      refine ae_iload_n (pc := 22) dX11_before_22 rfl ?_
      refine ae_pcallS (pc := 23) (z := zX11_channel) (As := [_, _]) dX11_before_23 rfl rfl rfl rfl (Nat.le_of_ble_eq_true rfl) (sm_channel d _ _ _) ?_
      refine ae_aload_n (pc := 26) dX11_before_26 rfl ?_
      refine ae_getR (pc := 27) (k := 33) (c := 11) (j := 5) (q := 37) dX11_before_27 rfl rfl (Nat.le_of_ble_eq_true rfl) rfl (Nat.le_of_ble_eq_true rfl) rfl ?_
      refine ae_iload_n (pc := 30) dX11_before_30 rfl ?_
      refine ae_iaload (pc := 31) (k := 37) (N := 256) _ dX11_before_31 (Nat.le_of_ble_eq_true rfl) rfl rfl rfl (by omega) rfl ?_
      refine ae_iload_n (pc := 32) dX11_before_32 rfl ?_
      refine ae_pcallS (pc := 33) (z := zX11_channel) (As := [_, _]) dX11_before_33 rfl rfl rfl rfl (Nat.le_of_ble_eq_true rfl) (sm_channel d _ _ _) ?_
      refine ae_isub (pc := 36) dX11_before_36 rfl ?_
      refine ae_istore (pc := 37) dX11_before_37 rfl (Nat.le_of_ble_eq_true rfl) ?_
      refine ae_iload (pc := 39) dX11_before_39 rfl ?_
      refine ae_aload_n (pc := 41) dX11_before_41 rfl ?_
      refine ae_getR (pc := 42) (k := 33) (c := 11) (j := 15) (q := 45) dX11_before_42 rfl rfl (Nat.le_of_ble_eq_true rfl) rfl (Nat.le_of_ble_eq_true rfl) rfl ?_
      refine ae_iload (pc := 45) dX11_before_45 rfl ?_
      refine ae_iaload (pc := 47) (k := 45) (N := 256) _ dX11_before_47 (Nat.le_of_ble_eq_true rfl) rfl rfl rfl (by omega) rfl ?_
      refine ae_iload_n (pc := 48) dX11_before_48 rfl ?_
      refine ae_icmp_ne (pc := 49) (t := 82) dX11_before_49 (by decide) (fun c49 => ?_) (fun c49 => ?_)
      rotate_left
      · exact absurd (Classical.not_not.mp c49) hb
      refine ae_iconst (pc := 82) (v := nI 0) dX11_before_82 (by decide) ?_
      refine ae_iadd (pc := 83) dX11_before_83 (nI_add _ _) ?_
      refine ae_istore (pc := 84) dX11_before_84 rfl (Nat.le_of_ble_eq_true rfl) ?_
      refine ae_iinc (pc := 86) (v := nI (k + 1)) dX11_before_86 rfl (nI_inc k) ?_
      refine ae_goto (pc := 89) (t := 6) dX11_before_89 (by decide) ?_
      exact ae_forget [6] rfl ih2
theorem sm_colorOfRank (d : Nat) (M : am_M) (n : Nat) (hn : M.1 33 7 = nI n) (hn2 : n ≤ 256) (b c r : Nat) (hr : r < 1000) : am_R (d + 3) zX11_colorOfRank [.ref 33, .int (nI b), .int (nI c), .int (nI r)] M (fun v M' => v = some (.int (oI (cor (M.1 37) (M.1 45) b c (bL (M.1 37) (M.1 45) b n) r n))) ∧ M' = M) := by
  refine ae_enter (z := zX11_colorOfRank) (y := yX11_colorOfRank) (cc := cX11_colorOfRank) (mL := 6) (rt := some .int) (ci := 11) (st := false) (np := 3) (L := [some (.ref 33), some (.int (nI b)), some (.int (nI c)), some (.int (nI r)), none, none]) rfl (by decide) (Nat.le_of_ble_eq_true rfl) rfl ?_
  refine ae_iconst (pc := 0) (v := (-1)) dX11_colorOfRank_0 (by decide) ?_
  refine ae_istore (pc := 1) dX11_colorOfRank_1 rfl (Nat.le_of_ble_eq_true rfl) ?_
  refine ae_iconst (pc := 3) (v := nI 0) dX11_colorOfRank_3 (by decide) ?_
  refine ae_istore (pc := 4) dX11_colorOfRank_4 rfl (Nat.le_of_ble_eq_true rfl) ?_
  skip
  refine am_down (P := fun k => am_E none (am_R (d + 2)) cX11_colorOfRank 11 (some .int) _ (6, [some (.ref 33), some (.int (nI b)), some (.int (nI c)), some (.int (nI r)), some (.int (oI (cor (M.1 37) (M.1 45) b c (bL (M.1 37) (M.1 45) b n) r k))), some (.int (nI k))], [], M)) n (fun k hk ih => ?_)
  refine ae_iload (pc := 6) dX11_colorOfRank_6 rfl ?_
  refine ae_aload_n (pc := 8) dX11_colorOfRank_8 rfl ?_
  refine ae_getI (pc := 9) (k := 33) (c := 11) (j := 7) (v := nI n) dX11_colorOfRank_9 rfl rfl (Or.inl rfl) (Nat.le_of_ble_eq_true rfl) rfl (Nat.le_of_ble_eq_true rfl) hn ?_
  refine ae_icmp_ge (pc := 12) (t := 53) dX11_colorOfRank_12 (by decide) (fun c12 => ?_) (fun c12 => ?_)
  · have hk2 : k = n := by rw [nI_leI (by omega) (by omega)] at c12; omega
    subst hk2
    refine ae_iload (pc := 53) dX11_colorOfRank_53 rfl ?_
    refine ae_ireturn (pc := 55) dX11_colorOfRank_55 rfl ?_
    exact ⟨rfl, rfl⟩
  · have hk2 : k < n := by rw [nI_leI (by omega) (by omega)] at c12; omega
    have ih2 := ih hk2
    rw [cor_s] at ih2
    have hrk := lRk_le c (M.1 37 k) (bL (M.1 37) (M.1 45) b n)
    have hle := bL_le256 (h := M.1 37) (bx := M.1 45) (b := b) hn2
    have heq := nI_eq (a := lRk c (M.1 37 k) (bL (M.1 37) (M.1 45) b n)) (b := r) (by omega) (by omega)
    refine ae_aload_n (pc := 15) dX11_colorOfRank_15 rfl ?_
    refine ae_getR (pc := 16) (k := 33) (c := 11) (j := 15) (q := 45) dX11_colorOfRank_16 rfl rfl (Nat.le_of_ble_eq_true rfl) rfl (Nat.le_of_ble_eq_true rfl) rfl ?_
    refine ae_iload (pc := 19) dX11_colorOfRank_19 rfl ?_
    refine ae_iaload (pc := 21) (k := 45) (N := 256) _ dX11_colorOfRank_21 (Nat.le_of_ble_eq_true rfl) rfl rfl rfl (by omega) rfl ?_
    refine ae_iload_n (pc := 22) dX11_colorOfRank_22 rfl ?_
    refine ae_icmp_ne (pc := 23) (t := 43) dX11_colorOfRank_23 (by decide) (fun c23 => ?_) (fun c23 => ?_)
    · refine ae_iload (pc := 43) dX11_colorOfRank_43 rfl ?_
      refine ae_istore (pc := 45) dX11_colorOfRank_45 rfl (Nat.le_of_ble_eq_true rfl) ?_
      refine ae_iinc (pc := 47) (v := nI (k + 1)) dX11_colorOfRank_47 rfl (nI_inc k) ?_
      refine ae_goto (pc := 50) (t := 6) dX11_colorOfRank_50 (by decide) ?_
      first | (rw [if_neg (fun q => by first | exact c23 q.1 | exact c35 (heq.mpr q.2))] at ih2; exact ih2) | (rw [if_pos (And.intro (Classical.not_not.mp c23) (heq.mp (Classical.not_not.mp c35)))] at ih2; exact ih2)
    · refine ae_aload_n (pc := 26) dX11_colorOfRank_26 rfl ?_
      refine ae_iload_n (pc := 27) dX11_colorOfRank_27 rfl ?_
      refine ae_iload_n (pc := 28) dX11_colorOfRank_28 rfl ?_
      refine ae_iload (pc := 29) dX11_colorOfRank_29 rfl ?_
      refine ae_pcallV (pc := 31) (z := zX11_before) (k := 33) (As := [_, _, _]) dX11_colorOfRank_31 rfl rfl rfl rfl (Nat.le_of_ble_eq_true rfl) rfl (Nat.le_of_ble_eq_true rfl) (Nat.le_of_ble_eq_true rfl) (sm_before d M n hn hn2 b c k hk2) ?_
      refine ae_iload_n (pc := 34) dX11_colorOfRank_34 rfl ?_
      refine ae_icmp_ne (pc := 35) (t := 43) dX11_colorOfRank_35 (by decide) (fun c35 => ?_) (fun c35 => ?_)
      · refine ae_iload (pc := 43) dX11_colorOfRank_43 rfl ?_
        refine ae_istore (pc := 45) dX11_colorOfRank_45 rfl (Nat.le_of_ble_eq_true rfl) ?_
        refine ae_iinc (pc := 47) (v := nI (k + 1)) dX11_colorOfRank_47 rfl (nI_inc k) ?_
        refine ae_goto (pc := 50) (t := 6) dX11_colorOfRank_50 (by decide) ?_
        first | (rw [if_neg (fun q => by first | exact c23 q.1 | exact c35 (heq.mpr q.2))] at ih2; exact ih2) | (rw [if_pos (And.intro (Classical.not_not.mp c23) (heq.mp (Classical.not_not.mp c35)))] at ih2; exact ih2)
      · refine ae_iload (pc := 38) dX11_colorOfRank_38 rfl ?_
        refine ae_goto (pc := 40) (t := 45) dX11_colorOfRank_40 (by decide) ?_
        refine ae_istore (pc := 45) dX11_colorOfRank_45 rfl (Nat.le_of_ble_eq_true rfl) ?_
        refine ae_iinc (pc := 47) (v := nI (k + 1)) dX11_colorOfRank_47 rfl (nI_inc k) ?_
        refine ae_goto (pc := 50) (t := 6) dX11_colorOfRank_50 (by decide) ?_
        first | (rw [if_neg (fun q => by first | exact c23 q.1 | exact c35 (heq.mpr q.2))] at ih2; exact ih2) | (rw [if_pos (And.intro (Classical.not_not.mp c23) (heq.mp (Classical.not_not.mp c35)))] at ih2; exact ih2)
theorem sm_meanOf (d : Nat) (M : am_M) (n : Nat) (hn : M.1 33 7 = nI n) (hn2 : n ≤ 256) (cn : Int32 → Nat) (hm : ∀ i, i < n → M.1 38 i = nI (cn (M.1 37 i)) ∧ cn (M.1 37 i) ≤ 256) (b : Nat) (hp : 0 < lS cn (bL (M.1 37) (M.1 45) b n)) : am_R (d + 2) zX11_meanOf [.ref 33, .int (nI b)] M (fun v M' => v = some (.int (lMe cn (bL (M.1 37) (M.1 45) b n) 3)) ∧ M' = M) := by
  refine ae_enter (z := zX11_meanOf) (y := yX11_meanOf) (cc := cX11_meanOf) (mL := 7) (rt := some .int) (ci := 11) (st := false) (np := 1) (L := [some (.ref 33), some (.int (nI b)), none, none, none, none, none]) rfl (by decide) (Nat.le_of_ble_eq_true rfl) rfl ?_
  have hps := bL_lS_le (h := M.1 37) (bx := M.1 45) (b := b) hn2 (g := cn) (B := 256) (fun i hi => (hm i hi).2) (Nat.le_refl n)
  refine ae_iconst (pc := 0) (v := nI 0) dX11_meanOf_0 (by decide) ?_
  refine ae_istore_n (pc := 1) dX11_meanOf_1 rfl (Nat.le_of_ble_eq_true rfl) ?_
  refine ae_aload_n (pc := 2) dX11_meanOf_2 rfl ?_
  refine ae_iload_n (pc := 3) dX11_meanOf_3 rfl ?_
  refine ae_pcallV (pc := 4) (z := zX11_pixelsIn) (k := 33) (As := [_]) dX11_meanOf_4 rfl rfl rfl rfl (Nat.le_of_ble_eq_true rfl) rfl (Nat.le_of_ble_eq_true rfl) (Nat.le_of_ble_eq_true rfl) (sm_pixelsIn d M n hn hn2 cn (fun i hi => (hm i hi).1) b) ?_
  refine ae_istore_n (pc := 7) dX11_meanOf_7 rfl (Nat.le_of_ble_eq_true rfl) ?_
  refine ae_iconst (pc := 8) (v := nI 0) dX11_meanOf_8 (by decide) ?_
  refine ae_istore (pc := 9) dX11_meanOf_9 rfl (Nat.le_of_ble_eq_true rfl) ?_
  skip
  have hsm : ∀ c, lS (gS cn c) (bL (M.1 37) (M.1 45) b n) ≤ 256 * 65536 := fun c => bL_lS_le (h := M.1 37) (bx := M.1 45) (b := b) hn2 (g := gS cn c) (B := 65536) (fun i hi => Nat.le_trans (Nat.mul_le_mul (hm i hi).2 (Nat.le_of_lt (chN_lt _ c).1)) (by decide)) (Nat.le_refl n)
  generalize hLL : bL (M.1 37) (M.1 45) b n = LL at *
  refine am_down (P := fun c => am_E none (am_R (d + 1)) cX11_meanOf 11 (some .int) _ (11, [some (.ref 33), some (.int (nI b)), some (.int (lMe cn LL c)), some (.int (nI (lS cn LL))), some (.int (nI c)), none, none], [], M)) 3 (fun c hc ih => ?_)
  refine ae_iload (pc := 11) dX11_meanOf_11 rfl ?_
  refine ae_iconst (pc := 13) (v := nI 3) dX11_meanOf_13 (by decide) ?_
  refine ae_icmp_ge (pc := 14) (t := 101) dX11_meanOf_14 (by decide) (fun c14 => ?_) (fun c14 => ?_)
  · have hc2 : c = 3 := by rw [nI_leI (by omega) (by omega)] at c14; omega
    subst hc2
    refine ae_iload_n (pc := 101) dX11_meanOf_101 rfl ?_
    refine ae_ireturn (pc := 102) dX11_meanOf_102 rfl ?_
    exact ⟨rfl, rfl⟩
  · have hc2 : c < 3 := by rw [nI_leI (by omega) (by omega)] at c14; omega
    have hsc := hsm c
    refine ae_iconst (pc := 17) (v := nI 0) dX11_meanOf_17 (by decide) ?_
    refine ae_istore (pc := 18) dX11_meanOf_18 rfl (Nat.le_of_ble_eq_true rfl) ?_
    refine ae_iconst (pc := 20) (v := nI 0) dX11_meanOf_20 (by decide) ?_
    refine ae_istore (pc := 21) dX11_meanOf_21 rfl (Nat.le_of_ble_eq_true rfl) ?_
    skip
    refine am_down (P := fun k => am_E none (am_R (d + 1)) cX11_meanOf 11 (some .int) _ (23, [some (.ref 33), some (.int (nI b)), some (.int (lMe cn LL c)), some (.int (nI (lS cn LL))), some (.int (nI c)), some (.int (nI (lS (gS cn c) (bL (M.1 37) (M.1 45) b k)))), some (.int (nI k))], [], M)) n (fun k hk ihk => ?_)
    refine ae_iload (pc := 23) dX11_meanOf_23 rfl ?_
    refine ae_aload_n (pc := 25) dX11_meanOf_25 rfl ?_
    refine ae_getI (pc := 26) (k := 33) (c := 11) (j := 7) (v := nI n) dX11_meanOf_26 rfl rfl (Or.inl rfl) (Nat.le_of_ble_eq_true rfl) rfl (Nat.le_of_ble_eq_true rfl) hn ?_
    refine ae_icmp_ge (pc := 29) (t := 78) dX11_meanOf_29 (by decide) (fun c29 => ?_) (fun c29 => ?_)
    · have hk2 : k = n := by rw [nI_leI (by omega) (by omega)] at c29; omega
      subst hk2
      rw [hLL]
      refine ae_sipush (pc := 78) (v := nI 256) dX11_meanOf_78 (by decide) ?_
      refine ae_iload_n (pc := 81) dX11_meanOf_81 rfl ?_
      refine ae_imul (pc := 82) dX11_meanOf_82 rfl ?_
      refine ae_iconst (pc := 83) (v := nI 2) dX11_meanOf_83 (by decide) ?_
      refine ae_iload (pc := 84) dX11_meanOf_84 rfl ?_
      refine ae_imul (pc := 86) dX11_meanOf_86 (nI_mul _ _) ?_
      refine ae_iload_n (pc := 87) dX11_meanOf_87 rfl ?_
      refine ae_iadd (pc := 88) dX11_meanOf_88 (nI_add _ _) ?_
      refine ae_iconst (pc := 89) (v := nI 2) dX11_meanOf_89 (by decide) ?_
      refine ae_iload_n (pc := 90) dX11_meanOf_90 rfl ?_
      refine ae_imul (pc := 91) dX11_meanOf_91 (nI_mul _ _) ?_
      refine ae_idiv (pc := 92) (v := nI ((2 * lS (gS cn c) LL + lS cn LL) / (2 * lS cn LL))) dX11_meanOf_92 (nI_ne0 (by omega) (by omega)) (nI_div (by omega) (by omega)) ?_
      refine ae_iadd (pc := 93) (v := lMe cn LL (c + 1)) dX11_meanOf_93 rfl ?_
      refine ae_istore_n (pc := 94) dX11_meanOf_94 rfl (Nat.le_of_ble_eq_true rfl) ?_
      refine ae_iinc (pc := 95) (v := nI (c + 1)) dX11_meanOf_95 rfl (nI_inc c) ?_
      refine ae_goto (pc := 98) (t := 11) dX11_meanOf_98 (by decide) ?_
      exact ae_forget [5, 6] rfl (ih hc2)
    · have hk2 : k < n := by rw [nI_leI (by omega) (by omega)] at c29; omega
      have ih2 := ihk hk2
      obtain ⟨hc1, hc3⟩ := chN_lt (M.1 37 k) c
      have hch := sm_channel d (M.1 37 k) c M
      rw [hc3] at hch
      obtain ⟨m1, m2⟩ := hm k hk2
      by_cases hb : M.1 45 k = nI b
      · rw [bL_t hb] at ih2
        refine ae_iload (pc := 32) dX11_meanOf_32 rfl ?_
        refine ae_aload_n (pc := 34) dX11_meanOf_34 rfl ?_
        refine ae_getR (pc := 35) (k := 33) (c := 11) (j := 15) (q := 45) dX11_meanOf_35 rfl rfl (Nat.le_of_ble_eq_true rfl) rfl (Nat.le_of_ble_eq_true rfl) rfl ?_
        refine ae_iload (pc := 38) dX11_meanOf_38 rfl ?_
        refine ae_iaload (pc := 40) (k := 45) (N := 256) _ dX11_meanOf_40 (Nat.le_of_ble_eq_true rfl) rfl rfl rfl (by omega) rfl ?_
        refine ae_iload_n (pc := 41) dX11_meanOf_41 rfl ?_
        refine ae_icmp_ne (pc := 42) (t := 68) dX11_meanOf_42 (by decide) (fun c42 => ?_) (fun c42 => ?_)
        · exact absurd hb c42
        refine ae_aload_n (pc := 45) dX11_meanOf_45 rfl ?_
        refine ae_getR (pc := 46) (k := 33) (c := 11) (j := 6) (q := 38) dX11_meanOf_46 rfl rfl (Nat.le_of_ble_eq_true rfl) rfl (Nat.le_of_ble_eq_true rfl) rfl ?_
        refine ae_iload (pc := 49) dX11_meanOf_49 rfl ?_
        refine ae_iaload (pc := 51) (k := 38) (N := 256) (v := nI (cn (M.1 37 k))) _ dX11_meanOf_51 (Nat.le_of_ble_eq_true rfl) rfl rfl rfl (by omega) m1 ?_
        refine ae_aload_n (pc := 52) dX11_meanOf_52 rfl ?_
        refine ae_getR (pc := 53) (k := 33) (c := 11) (j := 5) (q := 37) dX11_meanOf_53 rfl rfl (Nat.le_of_ble_eq_true rfl) rfl (Nat.le_of_ble_eq_true rfl) rfl ?_
        refine ae_iload (pc := 56) dX11_meanOf_56 rfl ?_
        refine ae_iaload (pc := 58) (k := 37) (N := 256) _ dX11_meanOf_58 (Nat.le_of_ble_eq_true rfl) rfl rfl rfl (by omega) rfl ?_
        refine ae_iload (pc := 59) dX11_meanOf_59 rfl ?_
        refine ae_pcallS (pc := 61) (z := zX11_channel) (As := [_, _]) dX11_meanOf_61 rfl rfl rfl rfl (Nat.le_of_ble_eq_true rfl) (hch) ?_
        refine ae_imul (pc := 64) (v := _) dX11_meanOf_64 (nI_mul _ _) ?_
        refine ae_goto (pc := 65) (t := 69) dX11_meanOf_65 (by decide) ?_
        refine ae_iadd (pc := 69) (v := _) dX11_meanOf_69 (nI_add _ _) ?_
        refine ae_istore (pc := 70) dX11_meanOf_70 rfl (Nat.le_of_ble_eq_true rfl) ?_
        refine ae_iinc (pc := 72) (v := nI (k + 1)) dX11_meanOf_72 rfl (nI_inc k) ?_
        refine ae_goto (pc := 75) (t := 23) dX11_meanOf_75 (by decide) ?_
        exact ih2
      · rw [bL_f hb] at ih2
        refine ae_iload (pc := 32) dX11_meanOf_32 rfl ?_
        refine ae_aload_n (pc := 34) dX11_meanOf_34 rfl ?_
        refine ae_getR (pc := 35) (k := 33) (c := 11) (j := 15) (q := 45) dX11_meanOf_35 rfl rfl (Nat.le_of_ble_eq_true rfl) rfl (Nat.le_of_ble_eq_true rfl) rfl ?_
        refine ae_iload (pc := 38) dX11_meanOf_38 rfl ?_
        refine ae_iaload (pc := 40) (k := 45) (N := 256) _ dX11_meanOf_40 (Nat.le_of_ble_eq_true rfl) rfl rfl rfl (by omega) rfl ?_
        refine ae_iload_n (pc := 41) dX11_meanOf_41 rfl ?_
        refine ae_icmp_ne (pc := 42) (t := 68) dX11_meanOf_42 (by decide) (fun c42 => ?_) (fun c42 => ?_)
        rotate_left
        · exact absurd (Classical.not_not.mp c42) hb
        refine ae_iconst (pc := 68) (v := nI 0) dX11_meanOf_68 (by decide) ?_
        refine ae_iadd (pc := 69) (v := _) dX11_meanOf_69 (nI_add _ _) ?_
        refine ae_istore (pc := 70) dX11_meanOf_70 rfl (Nat.le_of_ble_eq_true rfl) ?_
        refine ae_iinc (pc := 72) (v := nI (k + 1)) dX11_meanOf_72 rfl (nI_inc k) ?_
        refine ae_goto (pc := 75) (t := 23) dX11_meanOf_75 (by decide) ?_
        exact ih2

