theorem sm_digitAt (d : Nat) (M : am_M) (n : Nat) (hn : M.1 33 4 = nI n) (hn2 : n ≤ 140) (i : Nat) (hi : i < 1000) : am_R (d + 2) zX11_digitAt [.ref 33, .int (nI i)] M (fun v M' => v = some (.int (dgA (M.1 36) n i)) ∧ M' = M) := by
  refine ae_enter (z := zX11_digitAt) (y := yX11_digitAt) (cc := cX11_digitAt) (mL := 3) (rt := some .int) (ci := 11) (st := false) (np := 1) (L := [some (.ref 33), some (.int (nI i)), none]) rfl (by decide) (Nat.le_of_ble_eq_true rfl) rfl ?_
  have go : ∀ c : Int32, c = ltr (M.1 36) n i → am_E none (am_R (d + 1)) cX11_digitAt 11 (some .int) (fun v M' => v = some (.int (dgA (M.1 36) n i)) ∧ M' = M) (19, [some (.ref 33), some (.int (nI i)), none], [.int c], M) := by
    intro c hc
    refine ae_istore_n (pc := 19) dX11_digitAt_19 rfl (Nat.le_of_ble_eq_true rfl) ?_
    refine ae_iload_n (pc := 20) dX11_digitAt_20 rfl ?_
    refine ae_bipush (pc := 21) (v := nI 48) dX11_digitAt_21 (by decide) ?_
    refine ae_bipush (pc := 23) (v := nI 57) dX11_digitAt_23 (by decide) ?_
    refine ae_pcallS (pc := 25) (z := zX11_in) (As := [_, _, _]) dX11_digitAt_25 rfl rfl rfl rfl (Nat.le_of_ble_eq_true rfl) (sm_in d _ _ _ _) ?_
    refine ae_if_eq (pc := 28) (t := 38) dX11_digitAt_28 (by decide) (fun c28 => ?_) (fun c28 => ?_)
    · refine ae_iload_n (pc := 38) dX11_digitAt_38 rfl ?_
      refine ae_bipush (pc := 39) (v := nI 97) dX11_digitAt_39 (by decide) ?_
      refine ae_bipush (pc := 41) (v := nI 102) dX11_digitAt_41 (by decide) ?_
      refine ae_pcallS (pc := 43) (z := zX11_in) (As := [_, _, _]) dX11_digitAt_43 rfl rfl rfl rfl (Nat.le_of_ble_eq_true rfl) (sm_in d _ _ _ _) ?_
      refine ae_if_eq (pc := 46) (t := 59) dX11_digitAt_46 (by decide) (fun c46 => ?_) (fun c46 => ?_)
      · refine ae_iload_n (pc := 59) dX11_digitAt_59 rfl ?_
        refine ae_bipush (pc := 60) (v := nI 65) dX11_digitAt_60 (by decide) ?_
        refine ae_bipush (pc := 62) (v := nI 70) dX11_digitAt_62 (by decide) ?_
        refine ae_pcallS (pc := 64) (z := zX11_in) (As := [_, _, _]) dX11_digitAt_64 rfl rfl rfl rfl (Nat.le_of_ble_eq_true rfl) (sm_in d _ _ _ _) ?_
        refine ae_if_eq (pc := 67) (t := 80) dX11_digitAt_67 (by decide) (fun c67 => ?_) (fun c67 => ?_)
        · refine ae_iconst (pc := 80) (v := (-1)) dX11_digitAt_80 (by decide) ?_
          refine ae_ireturn (pc := 81) dX11_digitAt_81 rfl ?_
          refine ⟨?_, rfl⟩
          unfold dgA
          rw [← hc]
          unfold dgt
          first | (rw [if_pos (bI_ne0.mp c28)]; done) | (rw [if_neg (bI_eq0.mp c28), if_pos (bI_ne0.mp c46)]; done) | (rw [if_neg (bI_eq0.mp c28), if_neg (bI_eq0.mp c46), if_pos (bI_ne0.mp c67)]; done) | (rw [if_neg (bI_eq0.mp c28), if_neg (bI_eq0.mp c46), if_neg (bI_eq0.mp c67)]; done)
        · refine ae_iload_n (pc := 70) dX11_digitAt_70 rfl ?_
          refine ae_bipush (pc := 71) (v := nI 65) dX11_digitAt_71 (by decide) ?_
          refine ae_isub (pc := 73) dX11_digitAt_73 rfl ?_
          refine ae_bipush (pc := 74) (v := nI 10) dX11_digitAt_74 (by decide) ?_
          refine ae_iadd (pc := 76) dX11_digitAt_76 rfl ?_
          refine ae_goto (pc := 77) (t := 81) dX11_digitAt_77 (by decide) ?_
          refine ae_ireturn (pc := 81) dX11_digitAt_81 rfl ?_
          refine ⟨?_, rfl⟩
          unfold dgA
          rw [← hc]
          unfold dgt
          first | (rw [if_pos (bI_ne0.mp c28)]; done) | (rw [if_neg (bI_eq0.mp c28), if_pos (bI_ne0.mp c46)]; done) | (rw [if_neg (bI_eq0.mp c28), if_neg (bI_eq0.mp c46), if_pos (bI_ne0.mp c67)]; done) | (rw [if_neg (bI_eq0.mp c28), if_neg (bI_eq0.mp c46), if_neg (bI_eq0.mp c67)]; done)
      · refine ae_iload_n (pc := 49) dX11_digitAt_49 rfl ?_
        refine ae_bipush (pc := 50) (v := nI 97) dX11_digitAt_50 (by decide) ?_
        refine ae_isub (pc := 52) dX11_digitAt_52 rfl ?_
        refine ae_bipush (pc := 53) (v := nI 10) dX11_digitAt_53 (by decide) ?_
        refine ae_iadd (pc := 55) dX11_digitAt_55 rfl ?_
        refine ae_goto (pc := 56) (t := 81) dX11_digitAt_56 (by decide) ?_
        refine ae_ireturn (pc := 81) dX11_digitAt_81 rfl ?_
        refine ⟨?_, rfl⟩
        unfold dgA
        rw [← hc]
        unfold dgt
        first | (rw [if_pos (bI_ne0.mp c28)]; done) | (rw [if_neg (bI_eq0.mp c28), if_pos (bI_ne0.mp c46)]; done) | (rw [if_neg (bI_eq0.mp c28), if_neg (bI_eq0.mp c46), if_pos (bI_ne0.mp c67)]; done) | (rw [if_neg (bI_eq0.mp c28), if_neg (bI_eq0.mp c46), if_neg (bI_eq0.mp c67)]; done)
    · refine ae_iload_n (pc := 31) dX11_digitAt_31 rfl ?_
      refine ae_bipush (pc := 32) (v := nI 48) dX11_digitAt_32 (by decide) ?_
      refine ae_isub (pc := 34) dX11_digitAt_34 rfl ?_
      refine ae_goto (pc := 35) (t := 81) dX11_digitAt_35 (by decide) ?_
      refine ae_ireturn (pc := 81) dX11_digitAt_81 rfl ?_
      refine ⟨?_, rfl⟩
      unfold dgA
      rw [← hc]
      unfold dgt
      first | (rw [if_pos (bI_ne0.mp c28)]; done) | (rw [if_neg (bI_eq0.mp c28), if_pos (bI_ne0.mp c46)]; done) | (rw [if_neg (bI_eq0.mp c28), if_neg (bI_eq0.mp c46), if_pos (bI_ne0.mp c67)]; done) | (rw [if_neg (bI_eq0.mp c28), if_neg (bI_eq0.mp c46), if_neg (bI_eq0.mp c67)]; done)
  refine ae_iload_n (pc := 0) dX11_digitAt_0 rfl ?_
  refine ae_aload_n (pc := 1) dX11_digitAt_1 rfl ?_
  refine ae_getI (pc := 2) (k := 33) (c := 11) (j := 4) (v := nI n) dX11_digitAt_2 rfl rfl (Or.inl rfl) (Nat.le_of_ble_eq_true rfl) rfl (Nat.le_of_ble_eq_true rfl) hn ?_
  refine ae_icmp_ge (pc := 5) (t := 17) dX11_digitAt_5 (by decide) (fun c5 => ?_) (fun c5 => ?_)
  · rw [nI_leI (by omega) (by omega)] at c5
    refine ae_bipush (pc := 17) (v := nI 32) dX11_digitAt_17 (by decide) ?_
    first | exact go _ (by unfold ltr; rw [if_pos (by omega)]) | exact go _ (by unfold ltr; rw [if_neg (by omega)])
  · rw [nI_leI (by omega) (by omega)] at c5
    refine ae_aload_n (pc := 8) dX11_digitAt_8 rfl ?_
    refine ae_getR (pc := 9) (k := 33) (c := 11) (j := 3) (q := 36) dX11_digitAt_9 rfl rfl (Nat.le_of_ble_eq_true rfl) rfl (Nat.le_of_ble_eq_true rfl) rfl ?_
    refine ae_iload_n (pc := 12) dX11_digitAt_12 rfl ?_
    refine ae_iaload (pc := 13) (k := 36) (N := 140) _ dX11_digitAt_13 (Nat.le_of_ble_eq_true rfl) rfl rfl rfl (by omega) rfl ?_
    refine ae_goto (pc := 14) (t := 19) dX11_digitAt_14 (by decide) ?_
    first | exact go _ (by unfold ltr; rw [if_pos (by omega)]) | exact go _ (by unfold ltr; rw [if_neg (by omega)])
theorem sm_readsDigits (d : Nat) (M : am_M) (n : Nat) (hn : M.1 33 4 = nI n) (hn2 : n ≤ 140) (r : Nat) (hr : M.1 33 14 = nI r) (hr2 : r < 16) (a : Nat) (ha : a < 500) : am_R (d + 3) zX11_readsDigits [.ref 33, .int (nI a)] M (fun v M' => v = some (.int (nI (a + dgN (M.1 36) n a 6))) ∧ M' = (am_u M.1 43 (upd (M.1 43) r (rdC (M.1 36) n a)), M.2)) := by
  refine ae_enter (z := zX11_readsDigits) (y := yX11_readsDigits) (cc := cX11_readsDigits) (mL := 7) (rt := some .int) (ci := 11) (st := false) (np := 1) (L := [some (.ref 33), some (.int (nI a)), none, none, none, none, none]) rfl (by decide) (Nat.le_of_ble_eq_true rfl) rfl ?_
  have fin : ∀ k, k = dgN (M.1 36) n a 6 → am_E none (am_R (d + 2)) cX11_readsDigits 11 (some .int) (fun v M' => v = some (.int (nI (a + dgN (M.1 36) n a 6))) ∧ M' = (am_u M.1 43 (upd (M.1 43) r (rdC (M.1 36) n a)), M.2)) (37, [some (.ref 33), some (.int (nI a)), some (.int (nI (a + k))), some (.int (dgV (M.1 36) n a k)), none, none, none], [], M) := by
    intro k hk
    have hk6 := dgN_le (M.1 36) n a 6
    refine ae_bipush (pc := 37) (v := nI 17) dX11_readsDigits_37 (by decide) ?_
    refine ae_iload_n (pc := 39) dX11_readsDigits_39 rfl ?_
    refine ae_bipush (pc := 40) (v := nI 8) dX11_readsDigits_40 (by decide) ?_
    refine ae_ishr (pc := 42) dX11_readsDigits_42 rfl ?_
    refine ae_bipush (pc := 43) (v := nI 15) dX11_readsDigits_43 (by decide) ?_
    refine ae_iand (pc := 45) dX11_readsDigits_45 rfl ?_
    refine ae_imul (pc := 46) dX11_readsDigits_46 rfl ?_
    refine ae_istore (pc := 47) dX11_readsDigits_47 rfl (Nat.le_of_ble_eq_true rfl) ?_
    refine ae_bipush (pc := 49) (v := nI 17) dX11_readsDigits_49 (by decide) ?_
    refine ae_iload_n (pc := 51) dX11_readsDigits_51 rfl ?_
    refine ae_iconst (pc := 52) (v := nI 4) dX11_readsDigits_52 (by decide) ?_
    refine ae_ishr (pc := 53) dX11_readsDigits_53 rfl ?_
    refine ae_bipush (pc := 54) (v := nI 15) dX11_readsDigits_54 (by decide) ?_
    refine ae_iand (pc := 56) dX11_readsDigits_56 rfl ?_
    refine ae_imul (pc := 57) dX11_readsDigits_57 rfl ?_
    refine ae_istore (pc := 58) dX11_readsDigits_58 rfl (Nat.le_of_ble_eq_true rfl) ?_
    refine ae_ldc (pc := 60) dX11_readsDigits_60 rfl rfl ?_
    refine ae_iload (pc := 62) dX11_readsDigits_62 rfl ?_
    refine ae_imul (pc := 64) dX11_readsDigits_64 rfl ?_
    refine ae_sipush (pc := 65) (v := nI 256) dX11_readsDigits_65 (by decide) ?_
    refine ae_iload (pc := 68) dX11_readsDigits_68 rfl ?_
    refine ae_imul (pc := 70) dX11_readsDigits_70 rfl ?_
    refine ae_iadd (pc := 71) dX11_readsDigits_71 rfl ?_
    refine ae_bipush (pc := 72) (v := nI 17) dX11_readsDigits_72 (by decide) ?_
    refine ae_iload_n (pc := 74) dX11_readsDigits_74 rfl ?_
    refine ae_bipush (pc := 75) (v := nI 15) dX11_readsDigits_75 (by decide) ?_
    refine ae_iand (pc := 77) dX11_readsDigits_77 rfl ?_
    refine ae_imul (pc := 78) dX11_readsDigits_78 rfl ?_
    refine ae_iadd (pc := 79) dX11_readsDigits_79 rfl ?_
    refine ae_istore (pc := 80) dX11_readsDigits_80 rfl (Nat.le_of_ble_eq_true rfl) ?_
    refine ae_aload_n (pc := 82) dX11_readsDigits_82 rfl ?_
    refine ae_getR (pc := 83) (k := 33) (c := 11) (j := 12) (q := 43) dX11_readsDigits_83 rfl rfl (Nat.le_of_ble_eq_true rfl) rfl (Nat.le_of_ble_eq_true rfl) rfl ?_
    refine ae_aload_n (pc := 86) dX11_readsDigits_86 rfl ?_
    refine ae_getI (pc := 87) (k := 33) (c := 11) (j := 14) (v := nI r) dX11_readsDigits_87 rfl rfl (Or.inl rfl) (Nat.le_of_ble_eq_true rfl) rfl (Nat.le_of_ble_eq_true rfl) hr ?_
    refine ae_iload_n (pc := 90) dX11_readsDigits_90 rfl ?_
    refine ae_iload_n (pc := 91) dX11_readsDigits_91 rfl ?_
    refine ae_bipush (pc := 92) (v := nI 6) dX11_readsDigits_92 (by decide) ?_
    refine ae_iadd (pc := 94) dX11_readsDigits_94 (nI_add _ _) ?_
    refine ae_icmp_ne (pc := 95) (t := 102) dX11_readsDigits_95 (by decide) (fun c95 => ?_) (fun c95 => ?_)
    · rw [nI_eq (by omega) (by omega)] at c95
      refine ae_iload_n (pc := 102) dX11_readsDigits_102 rfl ?_
      refine ae_iload_n (pc := 103) dX11_readsDigits_103 rfl ?_
      refine ae_iconst (pc := 104) (v := nI 3) dX11_readsDigits_104 (by decide) ?_
      refine ae_iadd (pc := 105) dX11_readsDigits_105 (nI_add _ _) ?_
      refine ae_icmp_ne (pc := 106) (t := 114) dX11_readsDigits_106 (by decide) (fun c106 => ?_) (fun c106 => ?_)
      · rw [nI_eq (by omega) (by omega)] at c106
        refine ae_iconst (pc := 114) (v := (-1)) dX11_readsDigits_114 (by decide) ?_
        refine ae_iastore (pc := 115) (k := 43) (N := 16) (v := rdC (M.1 36) n a) _ dX11_readsDigits_115 (Nat.le_of_ble_eq_true rfl) rfl rfl rfl (by omega) (by unfold rdC; rw [← hk]; first | (rw [if_pos (by omega), show k = 6 by omega]; done) | (rw [if_neg (by omega), if_pos (by omega), show k = 3 by omega]; rfl) | (rw [if_neg (by omega), if_neg (by omega)]; done)) ?_
        refine ae_iload_n (pc := 116) dX11_readsDigits_116 rfl ?_
        refine ae_ireturn (pc := 117) dX11_readsDigits_117 rfl ?_
        exact ⟨by rw [← hk], rfl⟩
      · rw [nI_eq (by omega) (by omega)] at c106
        refine ae_iload (pc := 109) dX11_readsDigits_109 rfl ?_
        refine ae_goto (pc := 111) (t := 115) dX11_readsDigits_111 (by decide) ?_
        refine ae_iastore (pc := 115) (k := 43) (N := 16) (v := rdC (M.1 36) n a) _ dX11_readsDigits_115 (Nat.le_of_ble_eq_true rfl) rfl rfl rfl (by omega) (by unfold rdC; rw [← hk]; first | (rw [if_pos (by omega), show k = 6 by omega]; done) | (rw [if_neg (by omega), if_pos (by omega), show k = 3 by omega]; rfl) | (rw [if_neg (by omega), if_neg (by omega)]; done)) ?_
        refine ae_iload_n (pc := 116) dX11_readsDigits_116 rfl ?_
        refine ae_ireturn (pc := 117) dX11_readsDigits_117 rfl ?_
        exact ⟨by rw [← hk], rfl⟩
    · rw [nI_eq (by omega) (by omega)] at c95
      refine ae_iload_n (pc := 98) dX11_readsDigits_98 rfl ?_
      refine ae_goto (pc := 99) (t := 115) dX11_readsDigits_99 (by decide) ?_
      refine ae_iastore (pc := 115) (k := 43) (N := 16) (v := rdC (M.1 36) n a) _ dX11_readsDigits_115 (Nat.le_of_ble_eq_true rfl) rfl rfl rfl (by omega) (by unfold rdC; rw [← hk]; first | (rw [if_pos (by omega), show k = 6 by omega]; done) | (rw [if_neg (by omega), if_pos (by omega), show k = 3 by omega]; rfl) | (rw [if_neg (by omega), if_neg (by omega)]; done)) ?_
      refine ae_iload_n (pc := 116) dX11_readsDigits_116 rfl ?_
      refine ae_ireturn (pc := 117) dX11_readsDigits_117 rfl ?_
      exact ⟨by rw [← hk], rfl⟩
  refine ae_iload_n (pc := 0) dX11_readsDigits_0 rfl ?_
  refine ae_istore_n (pc := 1) dX11_readsDigits_1 rfl (Nat.le_of_ble_eq_true rfl) ?_
  refine ae_iconst (pc := 2) (v := nI 0) dX11_readsDigits_2 (by decide) ?_
  refine ae_istore_n (pc := 3) dX11_readsDigits_3 rfl (Nat.le_of_ble_eq_true rfl) ?_
  skip
  refine am_down (P := fun k => dgN (M.1 36) n a k = k → am_E none (am_R (d + 2)) cX11_readsDigits 11 (some .int) _ (4, [some (.ref 33), some (.int (nI a)), some (.int (nI (a + k))), some (.int (dgV (M.1 36) n a k)), none, none, none], [], M)) 6 (fun k hk ih hkn => ?_) rfl
  refine ae_iload_n (pc := 4) dX11_readsDigits_4 rfl ?_
  refine ae_iload_n (pc := 5) dX11_readsDigits_5 rfl ?_
  refine ae_bipush (pc := 6) (v := nI 6) dX11_readsDigits_6 (by decide) ?_
  refine ae_iadd (pc := 8) dX11_readsDigits_8 (nI_add _ _) ?_
  refine ae_icmp_ge (pc := 9) (t := 37) dX11_readsDigits_9 (by decide) (fun c9 => ?_) (fun c9 => ?_)
  · have hk2 : k = 6 := by rw [nI_leI (by omega) (by omega)] at c9; omega
    first | (subst hk2; exact fin 6 hkn.symm) | (refine fin k ?_; have h9 : dgN (M.1 36) n a (k + 1) = k := (by rw [dgN_s, if_neg (fun q => Int32.not_le.mpr c17 q.2), hkn]); have h8 := dgN_full (t := M.1 36) (n := n) (a := a) (k := k + 1) (by omega) (6 - (k + 1)); rw [show k + 1 + (6 - (k + 1)) = 6 by omega] at h8; rw [h8, h9])
  · have hk2 : k < 6 := by rw [nI_leI (by omega) (by omega)] at c9; omega
    refine ae_aload_n (pc := 12) dX11_readsDigits_12 rfl ?_
    refine ae_iload_n (pc := 13) dX11_readsDigits_13 rfl ?_
    refine ae_pcallV (pc := 14) (z := zX11_digitAt) (k := 33) (As := [_]) dX11_readsDigits_14 rfl rfl rfl rfl (Nat.le_of_ble_eq_true rfl) rfl (Nat.le_of_ble_eq_true rfl) (Nat.le_of_ble_eq_true rfl) (sm_digitAt d M n hn hn2 _ (by omega)) ?_
    refine ae_if_lt (pc := 17) (t := 37) dX11_readsDigits_17 (by decide) (fun c17 => ?_) (fun c17 => ?_)
    · first | (subst hk2; exact fin 6 hkn.symm) | (refine fin k ?_; have h9 : dgN (M.1 36) n a (k + 1) = k := (by rw [dgN_s, if_neg (fun q => Int32.not_le.mpr c17 q.2), hkn]); have h8 := dgN_full (t := M.1 36) (n := n) (a := a) (k := k + 1) (by omega) (6 - (k + 1)); rw [show k + 1 + (6 - (k + 1)) = 6 by omega] at h8; rw [h8, h9])
    · refine ae_bipush (pc := 20) (v := nI 16) dX11_readsDigits_20 (by decide) ?_
      refine ae_iload_n (pc := 22) dX11_readsDigits_22 rfl ?_
      refine ae_imul (pc := 23) dX11_readsDigits_23 rfl ?_
      refine ae_aload_n (pc := 24) dX11_readsDigits_24 rfl ?_
      refine ae_iload_n (pc := 25) dX11_readsDigits_25 rfl ?_
      refine ae_pcallV (pc := 26) (z := zX11_digitAt) (k := 33) (As := [_]) dX11_readsDigits_26 rfl rfl rfl rfl (Nat.le_of_ble_eq_true rfl) rfl (Nat.le_of_ble_eq_true rfl) (Nat.le_of_ble_eq_true rfl) (sm_digitAt d M n hn hn2 _ (by omega)) ?_
      refine ae_iadd (pc := 29) dX11_readsDigits_29 rfl ?_
      refine ae_istore_n (pc := 30) dX11_readsDigits_30 rfl (Nat.le_of_ble_eq_true rfl) ?_
      refine ae_iinc (pc := 31) (v := nI (a + (k + 1))) dX11_readsDigits_31 rfl (nI_inc (a + k)) ?_
      refine ae_goto (pc := 34) (t := 4) dX11_readsDigits_34 (by decide) ?_
      exact ih hk2 (by rw [dgN_s, if_pos ⟨hkn, Int32.not_lt.mp c17⟩])

