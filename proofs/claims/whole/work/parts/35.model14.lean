theorem sm_costOf (d : Nat) (M : am_M) (hs : ∀ e, e < 16 → M.1 42 e = nI (svA (M.1 34) e)) (i j : Nat) (hi : i < 16) (hj : j < 16) : am_R (d + 3) zX11_costOf [.ref 33, .int (nI i), .int (nI j)] M (fun v M' => v = some (.long (cst (M.1 34) i j)) ∧ M' = M) := by
  refine ae_enter (z := zX11_costOf) (y := yX11_costOf) (cc := cX11_costOf) (mL := 7) (rt := some .long) (ci := 11) (st := false) (np := 2) (L := [some (.ref 33), some (.int (nI i)), some (.int (nI j)), none, none, none, none]) rfl (by decide) (Nat.le_of_ble_eq_true rfl) rfl ?_
  refine ae_aload_n (pc := 0) dX11_costOf_0 rfl ?_
  refine ae_getR (pc := 1) (k := 33) (c := 11) (j := 11) (q := 42) dX11_costOf_1 rfl rfl (Nat.le_of_ble_eq_true rfl) rfl (Nat.le_of_ble_eq_true rfl) rfl ?_
  refine ae_iload_n (pc := 4) dX11_costOf_4 rfl ?_
  refine ae_iaload (pc := 5) (k := 42) (N := 16) (v := nI (svA (M.1 34) i)) _ dX11_costOf_5 (Nat.le_of_ble_eq_true rfl) rfl rfl rfl (by omega) (hs i hi) ?_
  refine ae_i2l (pc := 6) dX11_costOf_6 rfl ?_
  refine ae_lstore_n (pc := 7) dX11_costOf_7 rfl (Nat.le_of_ble_eq_true rfl) ?_
  refine ae_aload_n (pc := 8) dX11_costOf_8 rfl ?_
  refine ae_getR (pc := 9) (k := 33) (c := 11) (j := 11) (q := 42) dX11_costOf_9 rfl rfl (Nat.le_of_ble_eq_true rfl) rfl (Nat.le_of_ble_eq_true rfl) rfl ?_
  refine ae_iload_n (pc := 12) dX11_costOf_12 rfl ?_
  refine ae_iaload (pc := 13) (k := 42) (N := 16) (v := nI (svA (M.1 34) j)) _ dX11_costOf_13 (Nat.le_of_ble_eq_true rfl) rfl rfl rfl (by omega) (hs j hj) ?_
  refine ae_i2l (pc := 14) dX11_costOf_14 rfl ?_
  refine ae_lstore (pc := 15) dX11_costOf_15 rfl (Nat.le_of_ble_eq_true rfl) ?_
  refine ae_lload_n (pc := 17) dX11_costOf_17 rfl ?_
  refine ae_lload (pc := 18) dX11_costOf_18 rfl ?_
  refine ae_ladd (pc := 20) dX11_costOf_20 rfl ?_
  refine ae_lconst (pc := 21) (v := 0) dX11_costOf_21 (by decide) ?_
  refine ae_lcmp (pc := 22) dX11_costOf_22 rfl ?_
  refine ae_if_ne (pc := 23) (t := 30) dX11_costOf_23 (by decide) (fun c23 => ?_) (fun c23 => ?_)
  · refine ae_lload_n (pc := 30) dX11_costOf_30 rfl ?_
    refine ae_lload (pc := 31) dX11_costOf_31 rfl ?_
    refine ae_lmul (pc := 33) dX11_costOf_33 rfl ?_
    refine ae_aload_n (pc := 34) dX11_costOf_34 rfl ?_
    refine ae_aload_n (pc := 35) dX11_costOf_35 rfl ?_
    refine ae_getR (pc := 36) (k := 33) (c := 11) (j := 0) (q := 34) dX11_costOf_36 rfl rfl (Nat.le_of_ble_eq_true rfl) rfl (Nat.le_of_ble_eq_true rfl) rfl ?_
    refine ae_sipush (pc := 39) (v := nI 259) dX11_costOf_39 (by decide) ?_
    refine ae_iload_n (pc := 42) dX11_costOf_42 rfl ?_
    refine ae_iadd (pc := 43) dX11_costOf_43 (nI_add _ _) ?_
    refine ae_iaload (pc := 44) (k := 34) (N := 549) _ dX11_costOf_44 (Nat.le_of_ble_eq_true rfl) rfl rfl rfl (by omega) rfl ?_
    refine ae_aload_n (pc := 45) dX11_costOf_45 rfl ?_
    refine ae_getR (pc := 46) (k := 33) (c := 11) (j := 0) (q := 34) dX11_costOf_46 rfl rfl (Nat.le_of_ble_eq_true rfl) rfl (Nat.le_of_ble_eq_true rfl) rfl ?_
    refine ae_sipush (pc := 49) (v := nI 259) dX11_costOf_49 (by decide) ?_
    refine ae_iload_n (pc := 52) dX11_costOf_52 rfl ?_
    refine ae_iadd (pc := 53) dX11_costOf_53 (nI_add _ _) ?_
    refine ae_iaload (pc := 54) (k := 34) (N := 549) _ dX11_costOf_54 (Nat.le_of_ble_eq_true rfl) rfl rfl rfl (by omega) rfl ?_
    refine ae_pcallV (pc := 55) (z := zX11_distance) (k := 33) (As := [_, _]) dX11_costOf_55 rfl rfl rfl rfl (Nat.le_of_ble_eq_true rfl) rfl (Nat.le_of_ble_eq_true rfl) (Nat.le_of_ble_eq_true rfl) (sm_distance d M _ _) ?_
    refine ae_i2l (pc := 58) dX11_costOf_58 rfl ?_
    refine ae_lmul (pc := 59) dX11_costOf_59 rfl ?_
    refine ae_lload_n (pc := 60) dX11_costOf_60 rfl ?_
    refine ae_lload (pc := 61) dX11_costOf_61 rfl ?_
    refine ae_ladd (pc := 63) dX11_costOf_63 rfl ?_
    refine ae_ldiv (pc := 64) dX11_costOf_64 (fun q => c23 (lg_eq0.mpr q)) rfl ?_
    refine ae_lreturn (pc := 65) dX11_costOf_65 rfl ?_
    first | exact ⟨by unfold cst; rw [if_neg (fun q => c23 (lg_eq0.mpr q))], rfl⟩ | exact ⟨by unfold cst; rw [if_pos (lg_eq0.mp (Classical.not_not.mp c23))], rfl⟩
  · refine ae_lconst (pc := 26) (v := 0) dX11_costOf_26 (by decide) ?_
    refine ae_goto (pc := 27) (t := 65) dX11_costOf_27 (by decide) ?_
    refine ae_lreturn (pc := 65) dX11_costOf_65 rfl ?_
    first | exact ⟨by unfold cst; rw [if_neg (fun q => c23 (lg_eq0.mpr q))], rfl⟩ | exact ⟨by unfold cst; rw [if_pos (lg_eq0.mp (Classical.not_not.mp c23))], rfl⟩
theorem sm_mergedColor (d : Nat) (M : am_M) (hf : wf0 (M.1 34)) (hs : ∀ e, e < 16 → M.1 42 e = nI (svA (M.1 34) e)) (i j : Nat) (hi : i < 16) (hj : j < 16) : am_R (d + 2) zX11_mergedColor [.ref 33, .int (nI i), .int (nI j)] M (fun v M' => v = some (.int (mgC (M.1 34) i j)) ∧ M' = M) := by
  refine ae_enter (z := zX11_mergedColor) (y := yX11_mergedColor) (cc := cX11_mergedColor) (mL := 9) (rt := some .int) (ci := 11) (st := false) (np := 2) (L := [some (.ref 33), some (.int (nI i)), some (.int (nI j)), none, none, none, none, none, none]) rfl (by decide) (Nat.le_of_ble_eq_true rfl) rfl ?_
  have hp := svA_le hf i
  have hq := svA_le hf j
  have go : ¬ (M.1 34 (275 + i) = 1 ∨ M.1 34 (275 + j) = 1) → am_E none (am_R (d + 1)) cX11_mergedColor 11 (some .int) (fun v M' => v = some (.int (mgC (M.1 34) i j)) ∧ M' = M) (63, [some (.ref 33), some (.int (nI i)), some (.int (nI j)), some (.int (nI (svA (M.1 34) i))), some (.int (nI (svA (M.1 34) j))), none, none, none, none], [], M) := by
    intro hnl
    by_cases hz : 0 < svA (M.1 34) i + svA (M.1 34) j
    · have ec : mgC (M.1 34) i j = mgM (nI (svA (M.1 34) i)) (nI (svA (M.1 34) j)) (M.1 34 (259 + i)) (M.1 34 (259 + j)) 3 := by unfold mgC; rw [if_neg hnl, if_pos hz]
      rw [ec]
      have hne : ¬ nI 2 * (nI (svA (M.1 34) i) + nI (svA (M.1 34) j)) = 0 := by rw [nI_add, nI_mul]; exact nI_ne0 (by omega) (by omega)
      have hle : ¬ nI (svA (M.1 34) i + svA (M.1 34) j) ≤ 0 := nI_nle hz (by omega)
      refine ae_iconst (pc := 63) (v := nI 0) dX11_mergedColor_63 (by decide) ?_
      refine ae_istore (pc := 64) dX11_mergedColor_64 rfl (Nat.le_of_ble_eq_true rfl) ?_
      refine ae_iconst (pc := 66) (v := nI 0) dX11_mergedColor_66 (by decide) ?_
      refine ae_istore (pc := 67) dX11_mergedColor_67 rfl (Nat.le_of_ble_eq_true rfl) ?_
      skip
      refine am_down (P := fun k => am_E none (am_R (d + 1)) cX11_mergedColor 11 (some .int) _ (69, [some (.ref 33), some (.int (nI i)), some (.int (nI j)), some (.int (nI (svA (M.1 34) i))), some (.int (nI (svA (M.1 34) j))), some (.int (mgM (nI (svA (M.1 34) i)) (nI (svA (M.1 34) j)) (M.1 34 (259 + i)) (M.1 34 (259 + j)) k)), some (.int (nI k)), none, none], [], M)) 3 (fun k hk ih => ?_)
      refine ae_iload (pc := 69) dX11_mergedColor_69 rfl ?_
      refine ae_iconst (pc := 71) (v := nI 3) dX11_mergedColor_71 (by decide) ?_
      refine ae_icmp_ge (pc := 72) (t := 155) dX11_mergedColor_72 (by decide) (fun c72 => ?_) (fun c72 => ?_)
      · have hk2 : k = 3 := by rw [nI_leI (by omega) (by omega)] at c72; omega
        subst hk2
        refine ae_iload_n (pc := 155) dX11_mergedColor_155 rfl ?_
        refine ae_iload (pc := 156) dX11_mergedColor_156 rfl ?_
        refine ae_iadd (pc := 158) dX11_mergedColor_158 (nI_add _ _) ?_
        refine ae_if_le (pc := 159) (t := 167) dX11_mergedColor_159 (by decide) (fun c159 => ?_) (fun c159 => ?_)
        · exact absurd c159 hle
        refine ae_iload (pc := 162) dX11_mergedColor_162 rfl ?_
        refine ae_goto (pc := 164) (t := 177) dX11_mergedColor_164 (by decide) ?_
        refine ae_ireturn (pc := 177) dX11_mergedColor_177 rfl ?_
        exact ⟨rfl, rfl⟩
      · have hk2 : k < 3 := by rw [nI_leI (by omega) (by omega)] at c72; omega
        refine ae_iload_n (pc := 75) dX11_mergedColor_75 rfl ?_
        refine ae_iload (pc := 76) dX11_mergedColor_76 rfl ?_
        refine ae_iadd (pc := 78) dX11_mergedColor_78 (nI_add _ _) ?_
        refine ae_if_le (pc := 79) (t := 155) dX11_mergedColor_79 (by decide) (fun c79 => ?_) (fun c79 => ?_)
        · exact absurd c79 hle
        refine ae_aload_n (pc := 82) dX11_mergedColor_82 rfl ?_
        refine ae_getR (pc := 83) (k := 33) (c := 11) (j := 0) (q := 34) dX11_mergedColor_83 rfl rfl (Nat.le_of_ble_eq_true rfl) rfl (Nat.le_of_ble_eq_true rfl) rfl ?_
        refine ae_sipush (pc := 86) (v := nI 259) dX11_mergedColor_86 (by decide) ?_
        refine ae_iload_n (pc := 89) dX11_mergedColor_89 rfl ?_
        refine ae_iadd (pc := 90) dX11_mergedColor_90 (nI_add _ _) ?_
        refine ae_iaload (pc := 91) (k := 34) (N := 549) _ dX11_mergedColor_91 (Nat.le_of_ble_eq_true rfl) rfl rfl rfl (by omega) rfl ?_
        refine ae_iload (pc := 92) dX11_mergedColor_92 rfl ?_
        refine ae_pcallS (pc := 94) (z := zX11_channel) (As := [_, _]) dX11_mergedColor_94 rfl rfl rfl rfl (Nat.le_of_ble_eq_true rfl) (sm_channel d _ _ _) ?_
        refine ae_istore (pc := 97) dX11_mergedColor_97 rfl (Nat.le_of_ble_eq_true rfl) ?_
        refine ae_aload_n (pc := 99) dX11_mergedColor_99 rfl ?_
        refine ae_getR (pc := 100) (k := 33) (c := 11) (j := 0) (q := 34) dX11_mergedColor_100 rfl rfl (Nat.le_of_ble_eq_true rfl) rfl (Nat.le_of_ble_eq_true rfl) rfl ?_
        refine ae_sipush (pc := 103) (v := nI 259) dX11_mergedColor_103 (by decide) ?_
        refine ae_iload_n (pc := 106) dX11_mergedColor_106 rfl ?_
        refine ae_iadd (pc := 107) dX11_mergedColor_107 (nI_add _ _) ?_
        refine ae_iaload (pc := 108) (k := 34) (N := 549) _ dX11_mergedColor_108 (Nat.le_of_ble_eq_true rfl) rfl rfl rfl (by omega) rfl ?_
        refine ae_iload (pc := 109) dX11_mergedColor_109 rfl ?_
        refine ae_pcallS (pc := 111) (z := zX11_channel) (As := [_, _]) dX11_mergedColor_111 rfl rfl rfl rfl (Nat.le_of_ble_eq_true rfl) (sm_channel d _ _ _) ?_
        refine ae_istore (pc := 114) dX11_mergedColor_114 rfl (Nat.le_of_ble_eq_true rfl) ?_
        refine ae_sipush (pc := 116) (v := nI 256) dX11_mergedColor_116 (by decide) ?_
        refine ae_iload (pc := 119) dX11_mergedColor_119 rfl ?_
        refine ae_imul (pc := 121) dX11_mergedColor_121 rfl ?_
        refine ae_iconst (pc := 122) (v := nI 2) dX11_mergedColor_122 (by decide) ?_
        refine ae_iload_n (pc := 123) dX11_mergedColor_123 rfl ?_
        refine ae_iload (pc := 124) dX11_mergedColor_124 rfl ?_
        refine ae_imul (pc := 126) (v := nI (svA (M.1 34) i) * cha (M.1 34 (259 + i)) k) dX11_mergedColor_126 rfl ?_
        refine ae_iload (pc := 127) dX11_mergedColor_127 rfl ?_
        refine ae_iload (pc := 129) dX11_mergedColor_129 rfl ?_
        refine ae_imul (pc := 131) (v := nI (svA (M.1 34) j) * cha (M.1 34 (259 + j)) k) dX11_mergedColor_131 rfl ?_
        refine ae_iadd (pc := 132) dX11_mergedColor_132 rfl ?_
        refine ae_imul (pc := 133) dX11_mergedColor_133 rfl ?_
        refine ae_iload_n (pc := 134) dX11_mergedColor_134 rfl ?_
        refine ae_iadd (pc := 135) dX11_mergedColor_135 rfl ?_
        refine ae_iload (pc := 136) dX11_mergedColor_136 rfl ?_
        refine ae_iadd (pc := 138) dX11_mergedColor_138 rfl ?_
        refine ae_iconst (pc := 139) (v := nI 2) dX11_mergedColor_139 (by decide) ?_
        refine ae_iload_n (pc := 140) dX11_mergedColor_140 rfl ?_
        refine ae_iload (pc := 141) dX11_mergedColor_141 rfl ?_
        refine ae_iadd (pc := 143) (v := nI (svA (M.1 34) i) + nI (svA (M.1 34) j)) dX11_mergedColor_143 rfl ?_
        refine ae_imul (pc := 144) (v := nI 2 * (nI (svA (M.1 34) i) + nI (svA (M.1 34) j))) dX11_mergedColor_144 rfl ?_
        refine ae_idiv (pc := 145) dX11_mergedColor_145 hne rfl ?_
        refine ae_iadd (pc := 146) dX11_mergedColor_146 rfl ?_
        refine ae_istore (pc := 147) (v := mgM (nI (svA (M.1 34) i)) (nI (svA (M.1 34) j)) (M.1 34 (259 + i)) (M.1 34 (259 + j)) (k + 1)) dX11_mergedColor_147 rfl (Nat.le_of_ble_eq_true rfl) ?_
        refine ae_iinc (pc := 149) (v := nI (k + 1)) dX11_mergedColor_149 rfl (nI_inc k) ?_
        refine ae_goto (pc := 152) (t := 69) dX11_mergedColor_152 (by decide) ?_
        exact ae_forget [7, 8] rfl (ih hk2)
    · have ec : mgC (M.1 34) i j = M.1 34 (259 + i) := by unfold mgC; rw [if_neg hnl, if_neg hz]
      rw [ec]
      have hz0 : nI (svA (M.1 34) i + svA (M.1 34) j) ≤ 0 := by rw [show svA (M.1 34) i + svA (M.1 34) j = 0 by omega]; decide
      refine ae_iconst (pc := 63) (v := nI 0) dX11_mergedColor_63 (by decide) ?_
      refine ae_istore (pc := 64) dX11_mergedColor_64 rfl (Nat.le_of_ble_eq_true rfl) ?_
      refine ae_iconst (pc := 66) (v := nI 0) dX11_mergedColor_66 (by decide) ?_
      refine ae_istore (pc := 67) dX11_mergedColor_67 rfl (Nat.le_of_ble_eq_true rfl) ?_
      skip
      refine ae_iload (pc := 69) dX11_mergedColor_69 rfl ?_
      refine ae_iconst (pc := 71) (v := nI 3) dX11_mergedColor_71 (by decide) ?_
      refine ae_icmp_ge (pc := 72) (t := 155) dX11_mergedColor_72 (by decide) (fun c72 => ?_) (fun c72 => ?_)
      · exact absurd c72 (by decide)
      refine ae_iload_n (pc := 75) dX11_mergedColor_75 rfl ?_
      refine ae_iload (pc := 76) dX11_mergedColor_76 rfl ?_
      refine ae_iadd (pc := 78) dX11_mergedColor_78 (nI_add _ _) ?_
      refine ae_if_le (pc := 79) (t := 155) dX11_mergedColor_79 (by decide) (fun c79 => ?_) (fun c79 => ?_)
      rotate_left
      · exact absurd hz0 c79
      refine ae_iload_n (pc := 155) dX11_mergedColor_155 rfl ?_
      refine ae_iload (pc := 156) dX11_mergedColor_156 rfl ?_
      refine ae_iadd (pc := 158) dX11_mergedColor_158 (nI_add _ _) ?_
      refine ae_if_le (pc := 159) (t := 167) dX11_mergedColor_159 (by decide) (fun c159 => ?_) (fun c159 => ?_)
      rotate_left
      · exact absurd hz0 c159
      refine ae_aload_n (pc := 167) dX11_mergedColor_167 rfl ?_
      refine ae_getR (pc := 168) (k := 33) (c := 11) (j := 0) (q := 34) dX11_mergedColor_168 rfl rfl (Nat.le_of_ble_eq_true rfl) rfl (Nat.le_of_ble_eq_true rfl) rfl ?_
      refine ae_sipush (pc := 171) (v := nI 259) dX11_mergedColor_171 (by decide) ?_
      refine ae_iload_n (pc := 174) dX11_mergedColor_174 rfl ?_
      refine ae_iadd (pc := 175) dX11_mergedColor_175 (nI_add _ _) ?_
      refine ae_iaload (pc := 176) (k := 34) (N := 549) _ dX11_mergedColor_176 (Nat.le_of_ble_eq_true rfl) rfl rfl rfl (by omega) rfl ?_
      refine ae_ireturn (pc := 177) dX11_mergedColor_177 rfl ?_
      exact ⟨rfl, rfl⟩
  refine ae_aload_n (pc := 0) dX11_mergedColor_0 rfl ?_
  refine ae_getR (pc := 1) (k := 33) (c := 11) (j := 11) (q := 42) dX11_mergedColor_1 rfl rfl (Nat.le_of_ble_eq_true rfl) rfl (Nat.le_of_ble_eq_true rfl) rfl ?_
  refine ae_iload_n (pc := 4) dX11_mergedColor_4 rfl ?_
  refine ae_iaload (pc := 5) (k := 42) (N := 16) (v := nI (svA (M.1 34) i)) _ dX11_mergedColor_5 (Nat.le_of_ble_eq_true rfl) rfl rfl rfl (by omega) (hs i hi) ?_
  refine ae_istore_n (pc := 6) dX11_mergedColor_6 rfl (Nat.le_of_ble_eq_true rfl) ?_
  refine ae_aload_n (pc := 7) dX11_mergedColor_7 rfl ?_
  refine ae_getR (pc := 8) (k := 33) (c := 11) (j := 11) (q := 42) dX11_mergedColor_8 rfl rfl (Nat.le_of_ble_eq_true rfl) rfl (Nat.le_of_ble_eq_true rfl) rfl ?_
  refine ae_iload_n (pc := 11) dX11_mergedColor_11 rfl ?_
  refine ae_iaload (pc := 12) (k := 42) (N := 16) (v := nI (svA (M.1 34) j)) _ dX11_mergedColor_12 (Nat.le_of_ble_eq_true rfl) rfl rfl rfl (by omega) (hs j hj) ?_
  refine ae_istore (pc := 13) dX11_mergedColor_13 rfl (Nat.le_of_ble_eq_true rfl) ?_
  refine ae_aload_n (pc := 15) dX11_mergedColor_15 rfl ?_
  refine ae_iload_n (pc := 16) dX11_mergedColor_16 rfl ?_
  refine ae_pcallV (pc := 17) (z := zX11_isLocked) (k := 33) (As := [_]) dX11_mergedColor_17 rfl rfl rfl rfl (Nat.le_of_ble_eq_true rfl) rfl (Nat.le_of_ble_eq_true rfl) (Nat.le_of_ble_eq_true rfl) (sm_isLocked d M i hi) ?_
  refine ae_if_ne (pc := 20) (t := 31) dX11_mergedColor_20 (by decide) (fun c20 => ?_) (fun c20 => ?_)
  · refine ae_aload_n (pc := 31) dX11_mergedColor_31 rfl ?_
    refine ae_iload_n (pc := 32) dX11_mergedColor_32 rfl ?_
    refine ae_pcallV (pc := 33) (z := zX11_isLocked) (k := 33) (As := [_]) dX11_mergedColor_33 rfl rfl rfl rfl (Nat.le_of_ble_eq_true rfl) rfl (Nat.le_of_ble_eq_true rfl) (Nat.le_of_ble_eq_true rfl) (sm_isLocked d M i hi) ?_
    refine ae_if_eq (pc := 36) (t := 52) dX11_mergedColor_36 (by decide) (fun c36 => ?_) (fun c36 => ?_)
    · refine ae_aload_n (pc := 52) dX11_mergedColor_52 rfl ?_
      refine ae_getR (pc := 53) (k := 33) (c := 11) (j := 0) (q := 34) dX11_mergedColor_53 rfl rfl (Nat.le_of_ble_eq_true rfl) rfl (Nat.le_of_ble_eq_true rfl) rfl ?_
      refine ae_sipush (pc := 56) (v := nI 259) dX11_mergedColor_56 (by decide) ?_
      refine ae_iload_n (pc := 59) dX11_mergedColor_59 rfl ?_
      refine ae_iadd (pc := 60) dX11_mergedColor_60 (nI_add _ _) ?_
      refine ae_iaload (pc := 61) (k := 34) (N := 549) _ dX11_mergedColor_61 (Nat.le_of_ble_eq_true rfl) rfl rfl rfl (by omega) rfl ?_
      refine ae_ireturn (pc := 62) dX11_mergedColor_62 rfl ?_
      refine ⟨?_, rfl⟩
      unfold mgC
      first | (rw [if_pos (Or.inl (bI_ne0.mp c36)), if_pos (bI_ne0.mp c36)]; done) | (rw [if_pos (Or.inr (bI_ne0.mp c28)), if_neg (bI_eq0.mp c36)]; done) | exact absurd (bI_ne0.mp c20) (bI_eq0.mp c36)
    · refine ae_aload_n (pc := 39) dX11_mergedColor_39 rfl ?_
      refine ae_getR (pc := 40) (k := 33) (c := 11) (j := 0) (q := 34) dX11_mergedColor_40 rfl rfl (Nat.le_of_ble_eq_true rfl) rfl (Nat.le_of_ble_eq_true rfl) rfl ?_
      refine ae_sipush (pc := 43) (v := nI 259) dX11_mergedColor_43 (by decide) ?_
      refine ae_iload_n (pc := 46) dX11_mergedColor_46 rfl ?_
      refine ae_iadd (pc := 47) dX11_mergedColor_47 (nI_add _ _) ?_
      refine ae_iaload (pc := 48) (k := 34) (N := 549) _ dX11_mergedColor_48 (Nat.le_of_ble_eq_true rfl) rfl rfl rfl (by omega) rfl ?_
      refine ae_goto (pc := 49) (t := 62) dX11_mergedColor_49 (by decide) ?_
      refine ae_ireturn (pc := 62) dX11_mergedColor_62 rfl ?_
      refine ⟨?_, rfl⟩
      unfold mgC
      first | (rw [if_pos (Or.inl (bI_ne0.mp c36)), if_pos (bI_ne0.mp c36)]; done) | (rw [if_pos (Or.inr (bI_ne0.mp c28)), if_neg (bI_eq0.mp c36)]; done) | exact absurd (bI_ne0.mp c20) (bI_eq0.mp c36)
  · refine ae_aload_n (pc := 23) dX11_mergedColor_23 rfl ?_
    refine ae_iload_n (pc := 24) dX11_mergedColor_24 rfl ?_
    refine ae_pcallV (pc := 25) (z := zX11_isLocked) (k := 33) (As := [_]) dX11_mergedColor_25 rfl rfl rfl rfl (Nat.le_of_ble_eq_true rfl) rfl (Nat.le_of_ble_eq_true rfl) (Nat.le_of_ble_eq_true rfl) (sm_isLocked d M j hj) ?_
    refine ae_if_eq (pc := 28) (t := 63) dX11_mergedColor_28 (by decide) (fun c28 => ?_) (fun c28 => ?_)
    · exact go (fun q => q.elim (bI_eq0.mp (Classical.not_not.mp c20)) (bI_eq0.mp c28))
    · refine ae_aload_n (pc := 31) dX11_mergedColor_31 rfl ?_
      refine ae_iload_n (pc := 32) dX11_mergedColor_32 rfl ?_
      refine ae_pcallV (pc := 33) (z := zX11_isLocked) (k := 33) (As := [_]) dX11_mergedColor_33 rfl rfl rfl rfl (Nat.le_of_ble_eq_true rfl) rfl (Nat.le_of_ble_eq_true rfl) (Nat.le_of_ble_eq_true rfl) (sm_isLocked d M i hi) ?_
      refine ae_if_eq (pc := 36) (t := 52) dX11_mergedColor_36 (by decide) (fun c36 => ?_) (fun c36 => ?_)
      · refine ae_aload_n (pc := 52) dX11_mergedColor_52 rfl ?_
        refine ae_getR (pc := 53) (k := 33) (c := 11) (j := 0) (q := 34) dX11_mergedColor_53 rfl rfl (Nat.le_of_ble_eq_true rfl) rfl (Nat.le_of_ble_eq_true rfl) rfl ?_
        refine ae_sipush (pc := 56) (v := nI 259) dX11_mergedColor_56 (by decide) ?_
        refine ae_iload_n (pc := 59) dX11_mergedColor_59 rfl ?_
        refine ae_iadd (pc := 60) dX11_mergedColor_60 (nI_add _ _) ?_
        refine ae_iaload (pc := 61) (k := 34) (N := 549) _ dX11_mergedColor_61 (Nat.le_of_ble_eq_true rfl) rfl rfl rfl (by omega) rfl ?_
        refine ae_ireturn (pc := 62) dX11_mergedColor_62 rfl ?_
        refine ⟨?_, rfl⟩
        unfold mgC
        first | (rw [if_pos (Or.inl (bI_ne0.mp c36)), if_pos (bI_ne0.mp c36)]; done) | (rw [if_pos (Or.inr (bI_ne0.mp c28)), if_neg (bI_eq0.mp c36)]; done) | exact absurd (bI_ne0.mp c20) (bI_eq0.mp c36)
      · refine ae_aload_n (pc := 39) dX11_mergedColor_39 rfl ?_
        refine ae_getR (pc := 40) (k := 33) (c := 11) (j := 0) (q := 34) dX11_mergedColor_40 rfl rfl (Nat.le_of_ble_eq_true rfl) rfl (Nat.le_of_ble_eq_true rfl) rfl ?_
        refine ae_sipush (pc := 43) (v := nI 259) dX11_mergedColor_43 (by decide) ?_
        refine ae_iload_n (pc := 46) dX11_mergedColor_46 rfl ?_
        refine ae_iadd (pc := 47) dX11_mergedColor_47 (nI_add _ _) ?_
        refine ae_iaload (pc := 48) (k := 34) (N := 549) _ dX11_mergedColor_48 (Nat.le_of_ble_eq_true rfl) rfl rfl rfl (by omega) rfl ?_
        refine ae_goto (pc := 49) (t := 62) dX11_mergedColor_49 (by decide) ?_
        refine ae_ireturn (pc := 62) dX11_mergedColor_62 rfl ?_
        refine ⟨?_, rfl⟩
        unfold mgC
        first | (rw [if_pos (Or.inl (bI_ne0.mp c36)), if_pos (bI_ne0.mp c36)]; done) | (rw [if_pos (Or.inr (bI_ne0.mp c28)), if_neg (bI_eq0.mp c36)]; done) | exact absurd (bI_ne0.mp c20) (bI_eq0.mp c36)
theorem sm_mergesTwo (d : Nat) (M : am_M) (hf : wf0 (M.1 34)) (hz : 0 < fN (M.1 34)) : am_R (d + 6) zX11_mergesTwo [.ref 33] M (fun v M' => match mgI (M.1 34) (fN (M.1 34)) with
    | none => v = some (.int (nI 0)) ∧ ∃ S, M' = (am_u M.1 42 S, M.2)
    | some q => v = some (.int (nI 1)) ∧ ∃ S, M' = rw34 (am_u M.1 42 S, M.2) (mgS (M.1 34) q.1 q.2)) := by
  refine ae_enter (z := zX11_mergesTwo) (y := yX11_mergesTwo) (cc := cX11_mergesTwo) (mL := 6) (rt := some .boolean) (ci := 11) (st := false) (np := 0) (L := [some (.ref 33), none, none, none, none, none]) rfl (by decide) (Nat.le_of_ble_eq_true rfl) rfl ?_
  obtain ⟨-, -, hn1, hn2⟩ := id hf
  have sc := sm_counts d M hf
  rw [if_pos hz] at sc
  generalize hse : svR (M.1 42) (M.1 34) (fA (M.1 34)) = S at sc
  refine ae_aload_n (pc := 0) dX11_mergesTwo_0 rfl ?_
  refine ae_callV (pc := 1) (z := zX11_counts) (k := 33) (As := []) dX11_mergesTwo_1 rfl rfl rfl rfl (Nat.le_of_ble_eq_true rfl) rfl (Nat.le_of_ble_eq_true rfl) (Nat.le_of_ble_eq_true rfl) (sc) (fun v M' hq => ?_)
  obtain ⟨rfl, rfl⟩ := hq
  generalize hNe : ((am_u M.1 42 S, M.2) : am_M) = N0
  have n34 : N0.1 34 = M.1 34 := by rw [← hNe]; simp [am_u]
  have n42 : ∀ e, e < 16 → N0.1 42 e = nI (svA (N0.1 34) e) := by
    intro e he
    rw [n34, ← hNe]
    simp only [am_u_self]
    rw [← hse]
    have := st_in (M.1 42) (a := 0) (k := 16) (p := e) (fun e => nI (svc (M.1 34) e (fA (M.1 34)))) he
    rwa [Nat.zero_add] at this
  have g1 : ∀ o : Option (Nat × Nat), mgOk (M.1 34) o → (oP1 o = -1 ↔ o = none) := by
    intro o ho
    cases o with
    | none => simp [oP1]
    | some q => have := ho q rfl; simp [oP1, nI_ne1 (k := q.1) (by omega)]
  refine ae_iconst (pc := 4) (v := (-1)) dX11_mergesTwo_4 (by decide) ?_
  refine ae_istore_n (pc := 5) dX11_mergesTwo_5 rfl (Nat.le_of_ble_eq_true rfl) ?_
  refine ae_iconst (pc := 6) (v := (-1)) dX11_mergesTwo_6 (by decide) ?_
  refine ae_istore_n (pc := 7) dX11_mergesTwo_7 rfl (Nat.le_of_ble_eq_true rfl) ?_
  refine ae_iconst (pc := 8) (v := nI 0) dX11_mergesTwo_8 (by decide) ?_
  refine ae_istore_n (pc := 9) dX11_mergesTwo_9 rfl (Nat.le_of_ble_eq_true rfl) ?_
  skip
  refine am_down (P := fun i => am_E none (am_R (d + 5)) cX11_mergesTwo 11 (some .boolean) _ (10, [some (.ref 33), some (.int (oP1 (mgI (M.1 34) i))), some (.int (oP2 (mgI (M.1 34) i))), some (.int (nI i)), none, none], [], N0)) (fN (M.1 34)) (fun i hi ih => ?_)
  refine ae_iload_n (pc := 10) dX11_mergesTwo_10 rfl ?_
  refine ae_aload_n (pc := 11) dX11_mergesTwo_11 rfl ?_
  refine ae_getR (pc := 12) (k := 33) (c := 11) (j := 0) (q := 34) dX11_mergesTwo_12 rfl rfl (Nat.le_of_ble_eq_true rfl) rfl (Nat.le_of_ble_eq_true rfl) rfl ?_
  refine ae_sipush (pc := 15) (v := nI 258) dX11_mergesTwo_15 (by decide) ?_
  refine ae_iaload (pc := 18) (k := 34) (N := 549) (v := nI (fN (M.1 34))) _ dX11_mergesTwo_18 (Nat.le_of_ble_eq_true rfl) rfl rfl rfl (by omega) (by rw [n34]; exact hn1) ?_
  refine ae_icmp_ge (pc := 19) (t := 108) dX11_mergesTwo_19 (by decide) (fun c19 => ?_) (fun c19 => ?_)
  · have hi2 : i = fN (M.1 34) := by rw [nI_leI (by omega) (by omega)] at c19; omega
    subst hi2
    have hok := mgI_ok (f := M.1 34) (Nat.le_refl _)
    cases hx : mgI (M.1 34) (fN (M.1 34)) with
    | none =>
      refine ae_iload_n (pc := 108) dX11_mergesTwo_108 rfl ?_
      refine ae_iconst (pc := 109) (v := (-1)) dX11_mergesTwo_109 (by decide) ?_
      refine ae_icmp_ne (pc := 110) (t := 115) dX11_mergesTwo_110 (by decide) (fun c110 => ?_) (fun c110 => ?_)
      · exact absurd rfl c110
      refine ae_iconst (pc := 113) (v := nI 0) dX11_mergesTwo_113 (by decide) ?_
      refine ae_zreturn (pc := 114) dX11_mergesTwo_114 rfl (by decide) ?_
      exact ⟨rfl, S, hNe.symm⟩
    | some q =>
      obtain ⟨a, b⟩ := q
      obtain ⟨k1, k2, k3⟩ := hok (a, b) hx
      dsimp only at k1 k2 k3
      have hmc := sm_mergedColor (d + 3) N0 (by rw [n34]; exact hf) n42 a b (by omega) (by omega)
      rw [n34] at hmc
      have hl1 := sm_isLocked (d + 4) (rw34 N0 (upd (M.1 34) (259 + a) (mgC (M.1 34) a b))) a (by omega)
      have hl2 := sm_isLocked (d + 4) (rw34 N0 (upd (M.1 34) (259 + a) (mgC (M.1 34) a b))) b (by omega)
      rw [rw34_34, upd_ne _ _ (by omega)] at hl1 hl2
      have eN : fN (mgU (M.1 34) a b) = fN (M.1 34) := by unfold fN; rw [mgU_n (by omega) (by omega)]
      have hrm := sm_removes (d + 4) (rw34 N0 (mgU (M.1 34) a b)) (by rw [rw34_34]; exact (wf0_of hf (mgU_n (by omega) (by omega)) (mgU_n (by omega) (by omega)) (mgU_n (by omega) (by omega))).1) b (by rw [rw34_34, eN]; exact k2)
      rw [rw34_34, rw34_rw, eN] at hrm
      have e1 : N0 = rw34 N0 (M.1 34) := by rw [← n34]; exact (rw34_eta N0).symm
      have fin : ∀ x, x = bI (M.1 34 (275 + a) = 1 ∨ M.1 34 (275 + b) = 1) → upd (upd (M.1 34) (259 + a) (mgC (M.1 34) a b)) (275 + a) x = mgU (M.1 34) a b := fun x hx => by rw [hx]; rfl
      refine ae_iload_n (pc := 108) dX11_mergesTwo_108 rfl ?_
      refine ae_iconst (pc := 109) (v := (-1)) dX11_mergesTwo_109 (by decide) ?_
      refine ae_icmp_ne (pc := 110) (t := 115) dX11_mergesTwo_110 (by decide) (fun c110 => ?_) (fun c110 => ?_)
      rotate_left
      · exact absurd (Classical.not_not.mp c110) (nI_ne1 (by omega))
      refine ae_aload_n (pc := 115) dX11_mergesTwo_115 rfl ?_
      refine ae_getR (pc := 116) (k := 33) (c := 11) (j := 0) (q := 34) dX11_mergesTwo_116 rfl rfl (Nat.le_of_ble_eq_true rfl) rfl (Nat.le_of_ble_eq_true rfl) rfl ?_
      refine ae_sipush (pc := 119) (v := nI 259) dX11_mergesTwo_119 (by decide) ?_
      refine ae_iload_n (pc := 122) dX11_mergesTwo_122 rfl ?_
      refine ae_iadd (pc := 123) (v := nI (259 + a)) dX11_mergesTwo_123 (nI_add _ _) ?_
      refine ae_aload_n (pc := 124) dX11_mergesTwo_124 rfl ?_
      refine ae_iload_n (pc := 125) dX11_mergesTwo_125 rfl ?_
      refine ae_iload_n (pc := 126) dX11_mergesTwo_126 rfl ?_
      refine ae_pcallV (pc := 127) (z := zX11_mergedColor) (k := 33) (As := [_, _]) dX11_mergesTwo_127 rfl rfl rfl rfl (Nat.le_of_ble_eq_true rfl) rfl (Nat.le_of_ble_eq_true rfl) (Nat.le_of_ble_eq_true rfl) (hmc) ?_
      refine ae_iastore (pc := 130) (k := 34) (N := 549) _ dX11_mergesTwo_130 (Nat.le_of_ble_eq_true rfl) rfl rfl rfl (by omega) rfl ?_
      refine ae_M (by rw [n34]; rfl) (?_ : am_E none (am_R (d + 5)) cX11_mergesTwo 11 (some .boolean) _ (131, _, _, rw34 N0 (upd (M.1 34) (259 + a) (mgC (M.1 34) a b))))
      refine ae_aload_n (pc := 131) dX11_mergesTwo_131 rfl ?_
      refine ae_getR (pc := 132) (k := 33) (c := 11) (j := 0) (q := 34) dX11_mergesTwo_132 rfl rfl (Nat.le_of_ble_eq_true rfl) rfl (Nat.le_of_ble_eq_true rfl) rfl ?_
      refine ae_sipush (pc := 135) (v := nI 275) dX11_mergesTwo_135 (by decide) ?_
      refine ae_iload_n (pc := 138) dX11_mergesTwo_138 rfl ?_
      refine ae_iadd (pc := 139) (v := nI (275 + a)) dX11_mergesTwo_139 (nI_add _ _) ?_
      refine ae_aload_n (pc := 140) dX11_mergesTwo_140 rfl ?_
      refine ae_iload_n (pc := 141) dX11_mergesTwo_141 rfl ?_
      refine ae_pcallV (pc := 142) (z := zX11_isLocked) (k := 33) (As := [_]) dX11_mergesTwo_142 rfl rfl rfl rfl (Nat.le_of_ble_eq_true rfl) rfl (Nat.le_of_ble_eq_true rfl) (Nat.le_of_ble_eq_true rfl) (hl1) ?_
      refine ae_if_ne (pc := 145) (t := 156) dX11_mergesTwo_145 (by decide) (fun c145 => ?_) (fun c145 => ?_)
      · refine ae_iconst (pc := 156) (v := nI 1) dX11_mergesTwo_156 (by decide) ?_
        refine ae_goto (pc := 157) (t := 161) dX11_mergesTwo_157 (by decide) ?_
        refine ae_iastore (pc := 161) (k := 34) (N := 549) (_) dX11_mergesTwo_161 (Nat.le_of_ble_eq_true rfl) rfl rfl rfl (by omega) rfl ?_
        refine ae_M (by rw [rw34_upd, fin _ (by first | (rw [bI_t (Or.inl (bI_ne0.mp c145))]; rfl) | (rw [bI_t (Or.inr (bI_ne0.mp c153))]; rfl) | (rw [bI_f (fun q => q.elim (bI_eq0.mp (Classical.not_not.mp c145)) (bI_eq0.mp c153))]; rfl))]) (?_ : am_E none (am_R (d + 5)) cX11_mergesTwo 11 (some .boolean) _ (162, _, _, rw34 N0 (mgU (M.1 34) a b)))
        refine ae_aload_n (pc := 162) dX11_mergesTwo_162 rfl ?_
        refine ae_iload_n (pc := 163) dX11_mergesTwo_163 rfl ?_
        refine ae_callV (pc := 164) (z := zX11_removes) (k := 33) (As := [_]) dX11_mergesTwo_164 rfl rfl rfl rfl (Nat.le_of_ble_eq_true rfl) rfl (Nat.le_of_ble_eq_true rfl) (Nat.le_of_ble_eq_true rfl) (hrm) (fun v M' hq => ?_)
        obtain ⟨rfl, rfl⟩ := hq
        refine ae_iconst (pc := 167) (v := nI 1) dX11_mergesTwo_167 (by decide) ?_
        refine ae_zreturn (pc := 168) dX11_mergesTwo_168 rfl (by decide) ?_
        refine ⟨rfl, S, ?_⟩
        rw [hNe]
        rfl
      · refine ae_aload_n (pc := 148) dX11_mergesTwo_148 rfl ?_
        refine ae_iload_n (pc := 149) dX11_mergesTwo_149 rfl ?_
        refine ae_pcallV (pc := 150) (z := zX11_isLocked) (k := 33) (As := [_]) dX11_mergesTwo_150 rfl rfl rfl rfl (Nat.le_of_ble_eq_true rfl) rfl (Nat.le_of_ble_eq_true rfl) (Nat.le_of_ble_eq_true rfl) (hl2) ?_
        refine ae_if_eq (pc := 153) (t := 160) dX11_mergesTwo_153 (by decide) (fun c153 => ?_) (fun c153 => ?_)
        · refine ae_iconst (pc := 160) (v := nI 0) dX11_mergesTwo_160 (by decide) ?_
          refine ae_iastore (pc := 161) (k := 34) (N := 549) (_) dX11_mergesTwo_161 (Nat.le_of_ble_eq_true rfl) rfl rfl rfl (by omega) rfl ?_
          refine ae_M (by rw [rw34_upd, fin _ (by first | (rw [bI_t (Or.inl (bI_ne0.mp c145))]; rfl) | (rw [bI_t (Or.inr (bI_ne0.mp c153))]; rfl) | (rw [bI_f (fun q => q.elim (bI_eq0.mp (Classical.not_not.mp c145)) (bI_eq0.mp c153))]; rfl))]) (?_ : am_E none (am_R (d + 5)) cX11_mergesTwo 11 (some .boolean) _ (162, _, _, rw34 N0 (mgU (M.1 34) a b)))
          refine ae_aload_n (pc := 162) dX11_mergesTwo_162 rfl ?_
          refine ae_iload_n (pc := 163) dX11_mergesTwo_163 rfl ?_
          refine ae_callV (pc := 164) (z := zX11_removes) (k := 33) (As := [_]) dX11_mergesTwo_164 rfl rfl rfl rfl (Nat.le_of_ble_eq_true rfl) rfl (Nat.le_of_ble_eq_true rfl) (Nat.le_of_ble_eq_true rfl) (hrm) (fun v M' hq => ?_)
          obtain ⟨rfl, rfl⟩ := hq
          refine ae_iconst (pc := 167) (v := nI 1) dX11_mergesTwo_167 (by decide) ?_
          refine ae_zreturn (pc := 168) dX11_mergesTwo_168 rfl (by decide) ?_
          refine ⟨rfl, S, ?_⟩
          rw [hNe]
          rfl
        · refine ae_iconst (pc := 156) (v := nI 1) dX11_mergesTwo_156 (by decide) ?_
          refine ae_goto (pc := 157) (t := 161) dX11_mergesTwo_157 (by decide) ?_
          refine ae_iastore (pc := 161) (k := 34) (N := 549) (_) dX11_mergesTwo_161 (Nat.le_of_ble_eq_true rfl) rfl rfl rfl (by omega) rfl ?_
          refine ae_M (by rw [rw34_upd, fin _ (by first | (rw [bI_t (Or.inl (bI_ne0.mp c145))]; rfl) | (rw [bI_t (Or.inr (bI_ne0.mp c153))]; rfl) | (rw [bI_f (fun q => q.elim (bI_eq0.mp (Classical.not_not.mp c145)) (bI_eq0.mp c153))]; rfl))]) (?_ : am_E none (am_R (d + 5)) cX11_mergesTwo 11 (some .boolean) _ (162, _, _, rw34 N0 (mgU (M.1 34) a b)))
          refine ae_aload_n (pc := 162) dX11_mergesTwo_162 rfl ?_
          refine ae_iload_n (pc := 163) dX11_mergesTwo_163 rfl ?_
          refine ae_callV (pc := 164) (z := zX11_removes) (k := 33) (As := [_]) dX11_mergesTwo_164 rfl rfl rfl rfl (Nat.le_of_ble_eq_true rfl) rfl (Nat.le_of_ble_eq_true rfl) (Nat.le_of_ble_eq_true rfl) (hrm) (fun v M' hq => ?_)
          obtain ⟨rfl, rfl⟩ := hq
          refine ae_iconst (pc := 167) (v := nI 1) dX11_mergesTwo_167 (by decide) ?_
          refine ae_zreturn (pc := 168) dX11_mergesTwo_168 rfl (by decide) ?_
          refine ⟨rfl, S, ?_⟩
          rw [hNe]
          rfl
  · have hi2 : i < fN (M.1 34) := by rw [nI_leI (by omega) (by omega)] at c19; omega
    refine ae_iload_n (pc := 22) dX11_mergesTwo_22 rfl ?_
    refine ae_iconst (pc := 23) (v := nI 1) dX11_mergesTwo_23 (by decide) ?_
    refine ae_iadd (pc := 24) (v := nI (i + 1)) dX11_mergesTwo_24 (nI_add i 1) ?_
    refine ae_istore (pc := 25) dX11_mergesTwo_25 rfl (Nat.le_of_ble_eq_true rfl) ?_
    skip
    refine am_down (P := fun k => am_E none (am_R (d + 5)) cX11_mergesTwo 11 (some .boolean) _ (27, [some (.ref 33), some (.int (oP1 (mgJ (M.1 34) i (mgI (M.1 34) i) k))), some (.int (oP2 (mgJ (M.1 34) i (mgI (M.1 34) i) k))), some (.int (nI i)), some (.int (nI (i + 1 + k))), none], [], N0)) (fN (M.1 34) - (i + 1)) (fun k hk ihk => ?_)
    refine ae_iload (pc := 27) dX11_mergesTwo_27 rfl ?_
    refine ae_aload_n (pc := 29) dX11_mergesTwo_29 rfl ?_
    refine ae_getR (pc := 30) (k := 33) (c := 11) (j := 0) (q := 34) dX11_mergesTwo_30 rfl rfl (Nat.le_of_ble_eq_true rfl) rfl (Nat.le_of_ble_eq_true rfl) rfl ?_
    refine ae_sipush (pc := 33) (v := nI 258) dX11_mergesTwo_33 (by decide) ?_
    refine ae_iaload (pc := 36) (k := 34) (N := 549) (v := nI (fN (M.1 34))) _ dX11_mergesTwo_36 (Nat.le_of_ble_eq_true rfl) rfl rfl rfl (by omega) (by rw [n34]; exact hn1) ?_
    refine ae_icmp_ge (pc := 37) (t := 102) dX11_mergesTwo_37 (by decide) (fun c37 => ?_) (fun c37 => ?_)
    · have hk2 : k = fN (M.1 34) - (i + 1) := by rw [nI_leI (by omega) (by omega)] at c37; omega
      subst hk2
      refine ae_iinc (pc := 102) (v := nI (i + 1)) dX11_mergesTwo_102 rfl (nI_inc i) ?_
      refine ae_goto (pc := 105) (t := 10) dX11_mergesTwo_105 (by decide) ?_
      exact ae_forget [4] rfl (ih hi2)
    · have hk2 : k < fN (M.1 34) - (i + 1) := by rw [nI_leI (by omega) (by omega)] at c37; omega
      have hok := mgJ_ok (f := M.1 34) (i := i) (k := k) (mgI_ok (f := M.1 34) (i := i) (by omega)) (by omega)
      have hl1 := sm_isLocked (d + 4) N0 i (by omega)
      have hl2 := sm_isLocked (d + 4) N0 (i + 1 + k) (by omega)
      rw [n34] at hl1 hl2
      have hc1 := sm_costOf (d + 2) N0 n42 i (i + 1 + k) (by omega) (by omega)
      rw [n34] at hc1
      rw [mgJ_s] at ihk
      cases hx : mgJ (M.1 34) i (mgI (M.1 34) i) k with
      | none =>
        rw [hx] at ihk
        dsimp only at ihk
        refine ae_aload_n (pc := 40) dX11_mergesTwo_40 rfl ?_
        refine ae_iload_n (pc := 41) dX11_mergesTwo_41 rfl ?_
        refine ae_pcallV (pc := 42) (z := zX11_isLocked) (k := 33) (As := [_]) dX11_mergesTwo_42 rfl rfl rfl rfl (Nat.le_of_ble_eq_true rfl) rfl (Nat.le_of_ble_eq_true rfl) (Nat.le_of_ble_eq_true rfl) (hl1) ?_
        refine ae_if_eq (pc := 45) (t := 57) dX11_mergesTwo_45 (by decide) (fun c45 => ?_) (fun c45 => ?_)
        · refine ae_iconst (pc := 57) (v := nI 1) dX11_mergesTwo_57 (by decide) ?_
          refine ae_goto (pc := 58) (t := 62) dX11_mergesTwo_58 (by decide) ?_
          refine ae_istore (pc := 62) dX11_mergesTwo_62 rfl (Nat.le_of_ble_eq_true rfl) ?_
          refine ae_iload (pc := 64) dX11_mergesTwo_64 rfl ?_
          refine ae_if_eq (pc := 66) (t := 96) dX11_mergesTwo_66 (by decide) (fun q => absurd q (by decide)) (fun _ => ?_)
          refine ae_iload_n (pc := 69) dX11_mergesTwo_69 rfl ?_
          refine ae_iconst (pc := 70) (v := (-1)) dX11_mergesTwo_70 (by decide) ?_
          refine ae_icmp_eq (pc := 71) (t := 91) dX11_mergesTwo_71 (by decide) (fun c71 => ?_) (fun c71 => ?_)
          rotate_left
          · exact absurd rfl c71
          refine ae_iload_n (pc := 91) dX11_mergesTwo_91 rfl ?_
          refine ae_istore_n (pc := 92) dX11_mergesTwo_92 rfl (Nat.le_of_ble_eq_true rfl) ?_
          refine ae_iload (pc := 93) dX11_mergesTwo_93 rfl ?_
          refine ae_istore_n (pc := 95) dX11_mergesTwo_95 rfl (Nat.le_of_ble_eq_true rfl) ?_
          refine ae_iinc (pc := 96) (v := nI (i + 1 + (k + 1))) dX11_mergesTwo_96 rfl (nI_inc (i + 1 + k)) ?_
          refine ae_goto (pc := 99) (t := 27) dX11_mergesTwo_99 (by decide) ?_
          refine ae_forget [5] rfl ?_
          first | (rw [if_neg (fun q => bI_eq0.mp c45 q.1)] at ihk; exact ihk hk2) | (rw [if_neg (fun q => bI_eq0.mp (Classical.not_not.mp c54) q.2)] at ihk; exact ihk hk2) | (rw [if_pos (And.intro (bI_ne0.mp c45) (bI_ne0.mp c54))] at ihk; exact ihk hk2)
        · refine ae_aload_n (pc := 48) dX11_mergesTwo_48 rfl ?_
          refine ae_iload (pc := 49) dX11_mergesTwo_49 rfl ?_
          refine ae_pcallV (pc := 51) (z := zX11_isLocked) (k := 33) (As := [_]) dX11_mergesTwo_51 rfl rfl rfl rfl (Nat.le_of_ble_eq_true rfl) rfl (Nat.le_of_ble_eq_true rfl) (Nat.le_of_ble_eq_true rfl) (hl2) ?_
          refine ae_if_ne (pc := 54) (t := 61) dX11_mergesTwo_54 (by decide) (fun c54 => ?_) (fun c54 => ?_)
          · refine ae_iconst (pc := 61) (v := nI 0) dX11_mergesTwo_61 (by decide) ?_
            refine ae_istore (pc := 62) dX11_mergesTwo_62 rfl (Nat.le_of_ble_eq_true rfl) ?_
            refine ae_iload (pc := 64) dX11_mergesTwo_64 rfl ?_
            refine ae_if_eq (pc := 66) (t := 96) dX11_mergesTwo_66 (by decide) (fun _ => ?_) (fun q => absurd (by decide) q)
            refine ae_iinc (pc := 96) (v := nI (i + 1 + (k + 1))) dX11_mergesTwo_96 rfl (nI_inc (i + 1 + k)) ?_
            refine ae_goto (pc := 99) (t := 27) dX11_mergesTwo_99 (by decide) ?_
            refine ae_forget [5] rfl ?_
            first | (rw [if_neg (fun q => bI_eq0.mp c45 q.1)] at ihk; exact ihk hk2) | (rw [if_neg (fun q => bI_eq0.mp (Classical.not_not.mp c54) q.2)] at ihk; exact ihk hk2) | (rw [if_pos (And.intro (bI_ne0.mp c45) (bI_ne0.mp c54))] at ihk; exact ihk hk2)
          · refine ae_iconst (pc := 57) (v := nI 1) dX11_mergesTwo_57 (by decide) ?_
            refine ae_goto (pc := 58) (t := 62) dX11_mergesTwo_58 (by decide) ?_
            refine ae_istore (pc := 62) dX11_mergesTwo_62 rfl (Nat.le_of_ble_eq_true rfl) ?_
            refine ae_iload (pc := 64) dX11_mergesTwo_64 rfl ?_
            refine ae_if_eq (pc := 66) (t := 96) dX11_mergesTwo_66 (by decide) (fun q => absurd q (by decide)) (fun _ => ?_)
            refine ae_iload_n (pc := 69) dX11_mergesTwo_69 rfl ?_
            refine ae_iconst (pc := 70) (v := (-1)) dX11_mergesTwo_70 (by decide) ?_
            refine ae_icmp_eq (pc := 71) (t := 91) dX11_mergesTwo_71 (by decide) (fun c71 => ?_) (fun c71 => ?_)
            rotate_left
            · exact absurd rfl c71
            refine ae_iload_n (pc := 91) dX11_mergesTwo_91 rfl ?_
            refine ae_istore_n (pc := 92) dX11_mergesTwo_92 rfl (Nat.le_of_ble_eq_true rfl) ?_
            refine ae_iload (pc := 93) dX11_mergesTwo_93 rfl ?_
            refine ae_istore_n (pc := 95) dX11_mergesTwo_95 rfl (Nat.le_of_ble_eq_true rfl) ?_
            refine ae_iinc (pc := 96) (v := nI (i + 1 + (k + 1))) dX11_mergesTwo_96 rfl (nI_inc (i + 1 + k)) ?_
            refine ae_goto (pc := 99) (t := 27) dX11_mergesTwo_99 (by decide) ?_
            refine ae_forget [5] rfl ?_
            first | (rw [if_neg (fun q => bI_eq0.mp c45 q.1)] at ihk; exact ihk hk2) | (rw [if_neg (fun q => bI_eq0.mp (Classical.not_not.mp c54) q.2)] at ihk; exact ihk hk2) | (rw [if_pos (And.intro (bI_ne0.mp c45) (bI_ne0.mp c54))] at ihk; exact ihk hk2)
      | some q =>
        obtain ⟨a, b⟩ := q
        obtain ⟨k1, k2, k3⟩ := hok (a, b) hx
        dsimp only at k1 k2 k3
        have hc2 := sm_costOf (d + 2) N0 n42 a b (by omega) (by omega)
        rw [n34] at hc2
        rw [hx] at ihk
        dsimp only at ihk
        refine ae_aload_n (pc := 40) dX11_mergesTwo_40 rfl ?_
        refine ae_iload_n (pc := 41) dX11_mergesTwo_41 rfl ?_
        refine ae_pcallV (pc := 42) (z := zX11_isLocked) (k := 33) (As := [_]) dX11_mergesTwo_42 rfl rfl rfl rfl (Nat.le_of_ble_eq_true rfl) rfl (Nat.le_of_ble_eq_true rfl) (Nat.le_of_ble_eq_true rfl) (hl1) ?_
        refine ae_if_eq (pc := 45) (t := 57) dX11_mergesTwo_45 (by decide) (fun c45 => ?_) (fun c45 => ?_)
        · refine ae_iconst (pc := 57) (v := nI 1) dX11_mergesTwo_57 (by decide) ?_
          refine ae_goto (pc := 58) (t := 62) dX11_mergesTwo_58 (by decide) ?_
          refine ae_istore (pc := 62) dX11_mergesTwo_62 rfl (Nat.le_of_ble_eq_true rfl) ?_
          refine ae_iload (pc := 64) dX11_mergesTwo_64 rfl ?_
          refine ae_if_eq (pc := 66) (t := 96) dX11_mergesTwo_66 (by decide) (fun q => absurd q (by decide)) (fun _ => ?_)
          refine ae_iload_n (pc := 69) dX11_mergesTwo_69 rfl ?_
          refine ae_iconst (pc := 70) (v := (-1)) dX11_mergesTwo_70 (by decide) ?_
          refine ae_icmp_eq (pc := 71) (t := 91) dX11_mergesTwo_71 (by decide) (fun c71 => ?_) (fun c71 => ?_)
          · exact absurd c71 (nI_ne1 (by omega))
          refine ae_aload_n (pc := 74) dX11_mergesTwo_74 rfl ?_
          refine ae_iload_n (pc := 75) dX11_mergesTwo_75 rfl ?_
          refine ae_iload (pc := 76) dX11_mergesTwo_76 rfl ?_
          refine ae_pcallV (pc := 78) (z := zX11_costOf) (k := 33) (As := [_, _]) dX11_mergesTwo_78 rfl rfl rfl rfl (Nat.le_of_ble_eq_true rfl) rfl (Nat.le_of_ble_eq_true rfl) (Nat.le_of_ble_eq_true rfl) (hc1) ?_
          refine ae_aload_n (pc := 81) dX11_mergesTwo_81 rfl ?_
          refine ae_iload_n (pc := 82) dX11_mergesTwo_82 rfl ?_
          refine ae_iload_n (pc := 83) dX11_mergesTwo_83 rfl ?_
          refine ae_pcallV (pc := 84) (z := zX11_costOf) (k := 33) (As := [_, _]) dX11_mergesTwo_84 rfl rfl rfl rfl (Nat.le_of_ble_eq_true rfl) rfl (Nat.le_of_ble_eq_true rfl) (Nat.le_of_ble_eq_true rfl) (hc2) ?_
          refine ae_lcmp (pc := 87) dX11_mergesTwo_87 rfl ?_
          refine ae_if_ge (pc := 88) (t := 96) dX11_mergesTwo_88 (by decide) (fun c88 => ?_) (fun c88 => ?_)
          · refine ae_iinc (pc := 96) (v := nI (i + 1 + (k + 1))) dX11_mergesTwo_96 rfl (nI_inc (i + 1 + k)) ?_
            refine ae_goto (pc := 99) (t := 27) dX11_mergesTwo_99 (by decide) ?_
            refine ae_forget [5] rfl ?_
            first | (rw [if_pos (And.intro (bI_ne0.mp c45) (bI_ne0.mp c54))] at ihk; exact ihk hk2) | (rw [if_neg (by first | exact fun q => bI_eq0.mp c45 q.1 | exact fun q => bI_eq0.mp (Classical.not_not.mp c54) q.2)] at ihk; first | (rw [if_pos (Classical.not_not.mp (fun z => c88 (lg_ge0.mpr z)))] at ihk; exact ihk hk2) | (rw [if_neg (lg_ge0.mp c88)] at ihk; exact ihk hk2))
          · refine ae_iload_n (pc := 91) dX11_mergesTwo_91 rfl ?_
            refine ae_istore_n (pc := 92) dX11_mergesTwo_92 rfl (Nat.le_of_ble_eq_true rfl) ?_
            refine ae_iload (pc := 93) dX11_mergesTwo_93 rfl ?_
            refine ae_istore_n (pc := 95) dX11_mergesTwo_95 rfl (Nat.le_of_ble_eq_true rfl) ?_
            refine ae_iinc (pc := 96) (v := nI (i + 1 + (k + 1))) dX11_mergesTwo_96 rfl (nI_inc (i + 1 + k)) ?_
            refine ae_goto (pc := 99) (t := 27) dX11_mergesTwo_99 (by decide) ?_
            refine ae_forget [5] rfl ?_
            first | (rw [if_pos (And.intro (bI_ne0.mp c45) (bI_ne0.mp c54))] at ihk; exact ihk hk2) | (rw [if_neg (by first | exact fun q => bI_eq0.mp c45 q.1 | exact fun q => bI_eq0.mp (Classical.not_not.mp c54) q.2)] at ihk; first | (rw [if_pos (Classical.not_not.mp (fun z => c88 (lg_ge0.mpr z)))] at ihk; exact ihk hk2) | (rw [if_neg (lg_ge0.mp c88)] at ihk; exact ihk hk2))
        · refine ae_aload_n (pc := 48) dX11_mergesTwo_48 rfl ?_
          refine ae_iload (pc := 49) dX11_mergesTwo_49 rfl ?_
          refine ae_pcallV (pc := 51) (z := zX11_isLocked) (k := 33) (As := [_]) dX11_mergesTwo_51 rfl rfl rfl rfl (Nat.le_of_ble_eq_true rfl) rfl (Nat.le_of_ble_eq_true rfl) (Nat.le_of_ble_eq_true rfl) (hl2) ?_
          refine ae_if_ne (pc := 54) (t := 61) dX11_mergesTwo_54 (by decide) (fun c54 => ?_) (fun c54 => ?_)
          · refine ae_iconst (pc := 61) (v := nI 0) dX11_mergesTwo_61 (by decide) ?_
            refine ae_istore (pc := 62) dX11_mergesTwo_62 rfl (Nat.le_of_ble_eq_true rfl) ?_
            refine ae_iload (pc := 64) dX11_mergesTwo_64 rfl ?_
            refine ae_if_eq (pc := 66) (t := 96) dX11_mergesTwo_66 (by decide) (fun _ => ?_) (fun q => absurd (by decide) q)
            refine ae_iinc (pc := 96) (v := nI (i + 1 + (k + 1))) dX11_mergesTwo_96 rfl (nI_inc (i + 1 + k)) ?_
            refine ae_goto (pc := 99) (t := 27) dX11_mergesTwo_99 (by decide) ?_
            refine ae_forget [5] rfl ?_
            first | (rw [if_pos (And.intro (bI_ne0.mp c45) (bI_ne0.mp c54))] at ihk; exact ihk hk2) | (rw [if_neg (by first | exact fun q => bI_eq0.mp c45 q.1 | exact fun q => bI_eq0.mp (Classical.not_not.mp c54) q.2)] at ihk; first | (rw [if_pos (Classical.not_not.mp (fun z => c88 (lg_ge0.mpr z)))] at ihk; exact ihk hk2) | (rw [if_neg (lg_ge0.mp c88)] at ihk; exact ihk hk2))
          · refine ae_iconst (pc := 57) (v := nI 1) dX11_mergesTwo_57 (by decide) ?_
            refine ae_goto (pc := 58) (t := 62) dX11_mergesTwo_58 (by decide) ?_
            refine ae_istore (pc := 62) dX11_mergesTwo_62 rfl (Nat.le_of_ble_eq_true rfl) ?_
            refine ae_iload (pc := 64) dX11_mergesTwo_64 rfl ?_
            refine ae_if_eq (pc := 66) (t := 96) dX11_mergesTwo_66 (by decide) (fun q => absurd q (by decide)) (fun _ => ?_)
            refine ae_iload_n (pc := 69) dX11_mergesTwo_69 rfl ?_
            refine ae_iconst (pc := 70) (v := (-1)) dX11_mergesTwo_70 (by decide) ?_
            refine ae_icmp_eq (pc := 71) (t := 91) dX11_mergesTwo_71 (by decide) (fun c71 => ?_) (fun c71 => ?_)
            · exact absurd c71 (nI_ne1 (by omega))
            refine ae_aload_n (pc := 74) dX11_mergesTwo_74 rfl ?_
            refine ae_iload_n (pc := 75) dX11_mergesTwo_75 rfl ?_
            refine ae_iload (pc := 76) dX11_mergesTwo_76 rfl ?_
            refine ae_pcallV (pc := 78) (z := zX11_costOf) (k := 33) (As := [_, _]) dX11_mergesTwo_78 rfl rfl rfl rfl (Nat.le_of_ble_eq_true rfl) rfl (Nat.le_of_ble_eq_true rfl) (Nat.le_of_ble_eq_true rfl) (hc1) ?_
            refine ae_aload_n (pc := 81) dX11_mergesTwo_81 rfl ?_
            refine ae_iload_n (pc := 82) dX11_mergesTwo_82 rfl ?_
            refine ae_iload_n (pc := 83) dX11_mergesTwo_83 rfl ?_
            refine ae_pcallV (pc := 84) (z := zX11_costOf) (k := 33) (As := [_, _]) dX11_mergesTwo_84 rfl rfl rfl rfl (Nat.le_of_ble_eq_true rfl) rfl (Nat.le_of_ble_eq_true rfl) (Nat.le_of_ble_eq_true rfl) (hc2) ?_
            refine ae_lcmp (pc := 87) dX11_mergesTwo_87 rfl ?_
            refine ae_if_ge (pc := 88) (t := 96) dX11_mergesTwo_88 (by decide) (fun c88 => ?_) (fun c88 => ?_)
            · refine ae_iinc (pc := 96) (v := nI (i + 1 + (k + 1))) dX11_mergesTwo_96 rfl (nI_inc (i + 1 + k)) ?_
              refine ae_goto (pc := 99) (t := 27) dX11_mergesTwo_99 (by decide) ?_
              refine ae_forget [5] rfl ?_
              first | (rw [if_pos (And.intro (bI_ne0.mp c45) (bI_ne0.mp c54))] at ihk; exact ihk hk2) | (rw [if_neg (by first | exact fun q => bI_eq0.mp c45 q.1 | exact fun q => bI_eq0.mp (Classical.not_not.mp c54) q.2)] at ihk; first | (rw [if_pos (Classical.not_not.mp (fun z => c88 (lg_ge0.mpr z)))] at ihk; exact ihk hk2) | (rw [if_neg (lg_ge0.mp c88)] at ihk; exact ihk hk2))
            · refine ae_iload_n (pc := 91) dX11_mergesTwo_91 rfl ?_
              refine ae_istore_n (pc := 92) dX11_mergesTwo_92 rfl (Nat.le_of_ble_eq_true rfl) ?_
              refine ae_iload (pc := 93) dX11_mergesTwo_93 rfl ?_
              refine ae_istore_n (pc := 95) dX11_mergesTwo_95 rfl (Nat.le_of_ble_eq_true rfl) ?_
              refine ae_iinc (pc := 96) (v := nI (i + 1 + (k + 1))) dX11_mergesTwo_96 rfl (nI_inc (i + 1 + k)) ?_
              refine ae_goto (pc := 99) (t := 27) dX11_mergesTwo_99 (by decide) ?_
              refine ae_forget [5] rfl ?_
              first | (rw [if_pos (And.intro (bI_ne0.mp c45) (bI_ne0.mp c54))] at ihk; exact ihk hk2) | (rw [if_neg (by first | exact fun q => bI_eq0.mp c45 q.1 | exact fun q => bI_eq0.mp (Classical.not_not.mp c54) q.2)] at ihk; first | (rw [if_pos (Classical.not_not.mp (fun z => c88 (lg_ge0.mpr z)))] at ihk; exact ihk hk2) | (rw [if_neg (lg_ge0.mp c88)] at ihk; exact ihk hk2))

