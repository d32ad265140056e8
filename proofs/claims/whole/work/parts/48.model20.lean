theorem sm_colorsIn (d : Nat) (M : am_M) (n : Nat) (hn : M.1 33 7 = nI n) (hn2 : n ≤ 256) (b : Nat) : am_R (d + 1) zX11_colorsIn [.ref 33, .int (nI b)] M (fun v M' => v = some (.int (nI (bL (M.1 37) (M.1 45) b n).length)) ∧ M' = M) := by
  refine ae_enter (z := zX11_colorsIn) (y := yX11_colorsIn) (cc := cX11_colorsIn) (mL := 4) (rt := some .int) (ci := 11) (st := false) (np := 1) (L := [some (.ref 33), some (.int (nI b)), none, none]) rfl (by decide) (Nat.le_of_ble_eq_true rfl) rfl ?_
  refine ae_iconst (pc := 0) (v := nI 0) dX11_colorsIn_0 (by decide) ?_
  refine ae_istore_n (pc := 1) dX11_colorsIn_1 rfl (Nat.le_of_ble_eq_true rfl) ?_
  refine ae_iconst (pc := 2) (v := nI 0) dX11_colorsIn_2 (by decide) ?_
  refine ae_istore_n (pc := 3) dX11_colorsIn_3 rfl (Nat.le_of_ble_eq_true rfl) ?_
  skip
  refine am_down (P := fun k => am_E none (am_R d) cX11_colorsIn 11 (some .int) _ (4, [some (.ref 33), some (.int (nI b)), some (.int (nI (bL (M.1 37) (M.1 45) b k).length)), some (.int (nI k))], [], M)) n (fun k hk ih => ?_)
  refine ae_iload_n (pc := 4) dX11_colorsIn_4 rfl ?_
  refine ae_aload_n (pc := 5) dX11_colorsIn_5 rfl ?_
  refine ae_getI (pc := 6) (k := 33) (c := 11) (j := 7) (v := nI n) dX11_colorsIn_6 rfl rfl (Or.inl rfl) (Nat.le_of_ble_eq_true rfl) rfl (Nat.le_of_ble_eq_true rfl) hn ?_
  refine ae_icmp_ge (pc := 9) (t := 36) dX11_colorsIn_9 (by decide) (fun c9 => ?_) (fun c9 => ?_)
  · have hk2 : k = n := by rw [nI_leI (by omega) (by omega)] at c9; omega
    subst hk2
    refine ae_iload_n (pc := 36) dX11_colorsIn_36 rfl ?_
    refine ae_ireturn (pc := 37) dX11_colorsIn_37 rfl ?_
    exact ⟨rfl, rfl⟩
  · have hk2 : k < n := by rw [nI_leI (by omega) (by omega)] at c9; omega
    have ih2 := ih hk2
    refine ae_iload_n (pc := 12) dX11_colorsIn_12 rfl ?_
    refine ae_aload_n (pc := 13) dX11_colorsIn_13 rfl ?_
    refine ae_getR (pc := 14) (k := 33) (c := 11) (j := 15) (q := 45) dX11_colorsIn_14 rfl rfl (Nat.le_of_ble_eq_true rfl) rfl (Nat.le_of_ble_eq_true rfl) rfl ?_
    refine ae_iload_n (pc := 17) dX11_colorsIn_17 rfl ?_
    refine ae_iaload (pc := 18) (k := 45) (N := 256) _ dX11_colorsIn_18 (Nat.le_of_ble_eq_true rfl) rfl rfl rfl (by omega) rfl ?_
    refine ae_iload_n (pc := 19) dX11_colorsIn_19 rfl ?_
    refine ae_icmp_ne (pc := 20) (t := 27) dX11_colorsIn_20 (by decide) (fun c20 => ?_) (fun c20 => ?_)
    · refine ae_iconst (pc := 27) (v := nI 0) dX11_colorsIn_27 (by decide) ?_
      refine ae_iadd (pc := 28) dX11_colorsIn_28 (nI_add _ _) ?_
      refine ae_istore_n (pc := 29) dX11_colorsIn_29 rfl (Nat.le_of_ble_eq_true rfl) ?_
      refine ae_iinc (pc := 30) (v := nI (k + 1)) dX11_colorsIn_30 rfl (nI_inc k) ?_
      refine ae_goto (pc := 33) (t := 4) dX11_colorsIn_33 (by decide) ?_
      first | (rw [bL_t (Classical.not_not.mp c20), List.length_cons] at ih2; exact ih2) | (rw [bL_f c20] at ih2; exact ih2)
    · refine ae_iconst (pc := 23) (v := nI 1) dX11_colorsIn_23 (by decide) ?_
      refine ae_goto (pc := 24) (t := 28) dX11_colorsIn_24 (by decide) ?_
      refine ae_iadd (pc := 28) dX11_colorsIn_28 (nI_add _ _) ?_
      refine ae_istore_n (pc := 29) dX11_colorsIn_29 rfl (Nat.le_of_ble_eq_true rfl) ?_
      refine ae_iinc (pc := 30) (v := nI (k + 1)) dX11_colorsIn_30 rfl (nI_inc k) ?_
      refine ae_goto (pc := 33) (t := 4) dX11_colorsIn_33 (by decide) ?_
      first | (rw [bL_t (Classical.not_not.mp c20), List.length_cons] at ih2; exact ih2) | (rw [bL_f c20] at ih2; exact ih2)
theorem sm_pixelsIn (d : Nat) (M : am_M) (n : Nat) (hn : M.1 33 7 = nI n) (hn2 : n ≤ 256) (cn : Int32 → Nat) (hm : ∀ i, i < n → M.1 38 i = nI (cn (M.1 37 i))) (b : Nat) : am_R (d + 1) zX11_pixelsIn [.ref 33, .int (nI b)] M (fun v M' => v = some (.int (nI (lS cn (bL (M.1 37) (M.1 45) b n)))) ∧ M' = M) := by
  refine ae_enter (z := zX11_pixelsIn) (y := yX11_pixelsIn) (cc := cX11_pixelsIn) (mL := 4) (rt := some .int) (ci := 11) (st := false) (np := 1) (L := [some (.ref 33), some (.int (nI b)), none, none]) rfl (by decide) (Nat.le_of_ble_eq_true rfl) rfl ?_
  refine ae_iconst (pc := 0) (v := nI 0) dX11_pixelsIn_0 (by decide) ?_
  refine ae_istore_n (pc := 1) dX11_pixelsIn_1 rfl (Nat.le_of_ble_eq_true rfl) ?_
  refine ae_iconst (pc := 2) (v := nI 0) dX11_pixelsIn_2 (by decide) ?_
  refine ae_istore_n (pc := 3) dX11_pixelsIn_3 rfl (Nat.le_of_ble_eq_true rfl) ?_
  skip
  refine am_down (P := fun k => am_E none (am_R d) cX11_pixelsIn 11 (some .int) _ (4, [some (.ref 33), some (.int (nI b)), some (.int (nI (lS cn (bL (M.1 37) (M.1 45) b k)))), some (.int (nI k))], [], M)) n (fun k hk ih => ?_)
  refine ae_iload_n (pc := 4) dX11_pixelsIn_4 rfl ?_
  refine ae_aload_n (pc := 5) dX11_pixelsIn_5 rfl ?_
  refine ae_getI (pc := 6) (k := 33) (c := 11) (j := 7) (v := nI n) dX11_pixelsIn_6 rfl rfl (Or.inl rfl) (Nat.le_of_ble_eq_true rfl) rfl (Nat.le_of_ble_eq_true rfl) hn ?_
  refine ae_icmp_ge (pc := 9) (t := 41) dX11_pixelsIn_9 (by decide) (fun c9 => ?_) (fun c9 => ?_)
  · have hk2 : k = n := by rw [nI_leI (by omega) (by omega)] at c9; omega
    subst hk2
    refine ae_iload_n (pc := 41) dX11_pixelsIn_41 rfl ?_
    refine ae_ireturn (pc := 42) dX11_pixelsIn_42 rfl ?_
    exact ⟨rfl, rfl⟩
  · have hk2 : k < n := by rw [nI_leI (by omega) (by omega)] at c9; omega
    have ih2 := ih hk2
    refine ae_iload_n (pc := 12) dX11_pixelsIn_12 rfl ?_
    refine ae_aload_n (pc := 13) dX11_pixelsIn_13 rfl ?_
    refine ae_getR (pc := 14) (k := 33) (c := 11) (j := 15) (q := 45) dX11_pixelsIn_14 rfl rfl (Nat.le_of_ble_eq_true rfl) rfl (Nat.le_of_ble_eq_true rfl) rfl ?_
    refine ae_iload_n (pc := 17) dX11_pixelsIn_17 rfl ?_
    refine ae_iaload (pc := 18) (k := 45) (N := 256) _ dX11_pixelsIn_18 (Nat.le_of_ble_eq_true rfl) rfl rfl rfl (by omega) rfl ?_
    refine ae_iload_n (pc := 19) dX11_pixelsIn_19 rfl ?_
    refine ae_icmp_ne (pc := 20) (t := 32) dX11_pixelsIn_20 (by decide) (fun c20 => ?_) (fun c20 => ?_)
    · refine ae_iconst (pc := 32) (v := nI 0) dX11_pixelsIn_32 (by decide) ?_
      refine ae_iadd (pc := 33) (v := _) dX11_pixelsIn_33 (nI_add _ _) ?_
      refine ae_istore_n (pc := 34) dX11_pixelsIn_34 rfl (Nat.le_of_ble_eq_true rfl) ?_
      refine ae_iinc (pc := 35) (v := nI (k + 1)) dX11_pixelsIn_35 rfl (nI_inc k) ?_
      refine ae_goto (pc := 38) (t := 4) dX11_pixelsIn_38 (by decide) ?_
      first | (rw [bL_t (Classical.not_not.mp c20)] at ih2; exact ih2) | (rw [bL_f c20] at ih2; exact ih2)
    · refine ae_aload_n (pc := 23) dX11_pixelsIn_23 rfl ?_
      refine ae_getR (pc := 24) (k := 33) (c := 11) (j := 6) (q := 38) dX11_pixelsIn_24 rfl rfl (Nat.le_of_ble_eq_true rfl) rfl (Nat.le_of_ble_eq_true rfl) rfl ?_
      refine ae_iload_n (pc := 27) dX11_pixelsIn_27 rfl ?_
      refine ae_iaload (pc := 28) (k := 38) (N := 256) (v := nI (cn (M.1 37 k))) _ dX11_pixelsIn_28 (Nat.le_of_ble_eq_true rfl) rfl rfl rfl (by omega) (hm k hk2) ?_
      refine ae_goto (pc := 29) (t := 33) dX11_pixelsIn_29 (by decide) ?_
      refine ae_iadd (pc := 33) (v := _) dX11_pixelsIn_33 (nI_add _ _) ?_
      refine ae_istore_n (pc := 34) dX11_pixelsIn_34 rfl (Nat.le_of_ble_eq_true rfl) ?_
      refine ae_iinc (pc := 35) (v := nI (k + 1)) dX11_pixelsIn_35 rfl (nI_inc k) ?_
      refine ae_goto (pc := 38) (t := 4) dX11_pixelsIn_38 (by decide) ?_
      first | (rw [bL_t (Classical.not_not.mp c20)] at ih2; exact ih2) | (rw [bL_f c20] at ih2; exact ih2)
theorem sm_rangeOf (d : Nat) (M : am_M) (n : Nat) (hn : M.1 33 7 = nI n) (hn2 : n ≤ 256) (b c : Nat) : am_R (d + 2) zX11_rangeOf [.ref 33, .int (nI b), .int (nI c)] M (fun v M' => v = some (.int (lRg (bL (M.1 37) (M.1 45) b n) c)) ∧ M' = M) := by
  refine ae_enter (z := zX11_rangeOf) (y := yX11_rangeOf) (cc := cX11_rangeOf) (mL := 7) (rt := some .int) (ci := 11) (st := false) (np := 2) (L := [some (.ref 33), some (.int (nI b)), some (.int (nI c)), none, none, none, none]) rfl (by decide) (Nat.le_of_ble_eq_true rfl) rfl ?_
  refine ae_sipush (pc := 0) (v := nI 255) dX11_rangeOf_0 (by decide) ?_
  refine ae_istore_n (pc := 3) dX11_rangeOf_3 rfl (Nat.le_of_ble_eq_true rfl) ?_
  refine ae_iconst (pc := 4) (v := nI 0) dX11_rangeOf_4 (by decide) ?_
  refine ae_istore (pc := 5) dX11_rangeOf_5 rfl (Nat.le_of_ble_eq_true rfl) ?_
  refine ae_iconst (pc := 7) (v := nI 0) dX11_rangeOf_7 (by decide) ?_
  refine ae_istore (pc := 8) dX11_rangeOf_8 rfl (Nat.le_of_ble_eq_true rfl) ?_
  skip
  refine am_down (P := fun k => am_E none (am_R (d + 1)) cX11_rangeOf 11 (some .int) _ (10, [some (.ref 33), some (.int (nI b)), some (.int (nI c)), some (.int (nI (lMn c (bL (M.1 37) (M.1 45) b k)))), some (.int (nI (lMx c (bL (M.1 37) (M.1 45) b k)))), some (.int (nI k)), none], [], M)) n (fun k hk ih => ?_)
  refine ae_iload (pc := 10) dX11_rangeOf_10 rfl ?_
  refine ae_aload_n (pc := 12) dX11_rangeOf_12 rfl ?_
  refine ae_getI (pc := 13) (k := 33) (c := 11) (j := 7) (v := nI n) dX11_rangeOf_13 rfl rfl (Or.inl rfl) (Nat.le_of_ble_eq_true rfl) rfl (Nat.le_of_ble_eq_true rfl) hn ?_
  refine ae_icmp_ge (pc := 16) (t := 89) dX11_rangeOf_16 (by decide) (fun c16 => ?_) (fun c16 => ?_)
  · have hk2 : k = n := by rw [nI_leI (by omega) (by omega)] at c16; omega
    subst hk2
    refine ae_iload (pc := 89) dX11_rangeOf_89 rfl ?_
    refine ae_iload_n (pc := 91) dX11_rangeOf_91 rfl ?_
    refine ae_isub (pc := 92) dX11_rangeOf_92 rfl ?_
    refine ae_ireturn (pc := 93) dX11_rangeOf_93 rfl ?_
    exact ⟨rfl, rfl⟩
  · have hk2 : k < n := by rw [nI_leI (by omega) (by omega)] at c16; omega
    have ih2 := ih hk2
    obtain ⟨hc1, hc2⟩ := chN_lt (M.1 37 k) c
    have hch := sm_channel d (M.1 37 k) c M
    rw [hc2] at hch
    have x1 := lMx_lt c (bL (M.1 37) (M.1 45) b k)
    have x2 := lMn_lt c (bL (M.1 37) (M.1 45) b k)
    by_cases hb : M.1 45 k = nI b
    · rw [bL_t hb] at ih2
      simp only [lMx, lMn] at ih2
      refine ae_aload_n (pc := 19) dX11_rangeOf_19 rfl ?_
      refine ae_getR (pc := 20) (k := 33) (c := 11) (j := 5) (q := 37) dX11_rangeOf_20 rfl rfl (Nat.le_of_ble_eq_true rfl) rfl (Nat.le_of_ble_eq_true rfl) rfl ?_
      refine ae_iload (pc := 23) dX11_rangeOf_23 rfl ?_
      refine ae_iaload (pc := 25) (k := 37) (N := 256) _ dX11_rangeOf_25 (Nat.le_of_ble_eq_true rfl) rfl rfl rfl (by omega) rfl ?_
      refine ae_iload_n (pc := 26) dX11_rangeOf_26 rfl ?_
      refine ae_pcallS (pc := 27) (z := zX11_channel) (As := [_, _]) dX11_rangeOf_27 rfl rfl rfl rfl (Nat.le_of_ble_eq_true rfl) (hch) ?_
      refine ae_istore (pc := 30) dX11_rangeOf_30 rfl (Nat.le_of_ble_eq_true rfl) ?_
      refine ae_aload_n (pc := 32) dX11_rangeOf_32 rfl ?_
      refine ae_getR (pc := 33) (k := 33) (c := 11) (j := 15) (q := 45) dX11_rangeOf_33 rfl rfl (Nat.le_of_ble_eq_true rfl) rfl (Nat.le_of_ble_eq_true rfl) rfl ?_
      refine ae_iload (pc := 36) dX11_rangeOf_36 rfl ?_
      refine ae_iaload (pc := 38) (k := 45) (N := 256) _ dX11_rangeOf_38 (Nat.le_of_ble_eq_true rfl) rfl rfl rfl (by omega) rfl ?_
      refine ae_iload_n (pc := 39) dX11_rangeOf_39 rfl ?_
      refine ae_icmp_ne (pc := 40) (t := 54) dX11_rangeOf_40 (by decide) (fun c40 => ?_) (fun c40 => ?_)
      · exact absurd hb c40
      refine ae_iload (pc := 43) dX11_rangeOf_43 rfl ?_
      refine ae_iload_n (pc := 45) dX11_rangeOf_45 rfl ?_
      refine ae_icmp_ge (pc := 46) (t := 54) dX11_rangeOf_46 (by decide) (fun c46 => ?_) (fun c46 => ?_)
      · rw [nI_leI (by omega) (by omega)] at c46
        rw [if_neg (by omega)] at ih2
        refine ae_iload_n (pc := 54) dX11_rangeOf_54 rfl ?_
        refine ae_istore_n (pc := 55) dX11_rangeOf_55 rfl (Nat.le_of_ble_eq_true rfl) ?_
        refine ae_aload_n (pc := 56) dX11_rangeOf_56 rfl ?_
        refine ae_getR (pc := 57) (k := 33) (c := 11) (j := 15) (q := 45) dX11_rangeOf_57 rfl rfl (Nat.le_of_ble_eq_true rfl) rfl (Nat.le_of_ble_eq_true rfl) rfl ?_
        refine ae_iload (pc := 60) dX11_rangeOf_60 rfl ?_
        refine ae_iaload (pc := 62) (k := 45) (N := 256) _ dX11_rangeOf_62 (Nat.le_of_ble_eq_true rfl) rfl rfl rfl (by omega) rfl ?_
        refine ae_iload_n (pc := 63) dX11_rangeOf_63 rfl ?_
        refine ae_icmp_ne (pc := 64) (t := 79) dX11_rangeOf_64 (by decide) (fun c64 => ?_) (fun c64 => ?_)
        · exact absurd hb c64
        refine ae_iload (pc := 67) dX11_rangeOf_67 rfl ?_
        refine ae_iload (pc := 69) dX11_rangeOf_69 rfl ?_
        refine ae_icmp_le (pc := 71) (t := 79) dX11_rangeOf_71 (by decide) (fun c71 => ?_) (fun c71 => ?_)
        · rw [nI_leI (by omega) (by omega)] at c71
          rw [if_neg (by omega)] at ih2
          refine ae_iload (pc := 79) dX11_rangeOf_79 rfl ?_
          refine ae_istore (pc := 81) dX11_rangeOf_81 rfl (Nat.le_of_ble_eq_true rfl) ?_
          refine ae_iinc (pc := 83) (v := nI (k + 1)) dX11_rangeOf_83 rfl (nI_inc k) ?_
          refine ae_goto (pc := 86) (t := 10) dX11_rangeOf_86 (by decide) ?_
          exact ae_forget [6] rfl ih2
        · rw [nI_leI (by omega) (by omega)] at c71
          rw [if_pos (by omega)] at ih2
          refine ae_iload (pc := 74) dX11_rangeOf_74 rfl ?_
          refine ae_goto (pc := 76) (t := 81) dX11_rangeOf_76 (by decide) ?_
          refine ae_istore (pc := 81) dX11_rangeOf_81 rfl (Nat.le_of_ble_eq_true rfl) ?_
          refine ae_iinc (pc := 83) (v := nI (k + 1)) dX11_rangeOf_83 rfl (nI_inc k) ?_
          refine ae_goto (pc := 86) (t := 10) dX11_rangeOf_86 (by decide) ?_
          exact ae_forget [6] rfl ih2
      · rw [nI_leI (by omega) (by omega)] at c46
        rw [if_pos (by omega)] at ih2
        refine ae_iload (pc := 49) dX11_rangeOf_49 rfl ?_
        refine ae_goto (pc := 51) (t := 55) dX11_rangeOf_51 (by decide) ?_
        refine ae_istore_n (pc := 55) dX11_rangeOf_55 rfl (Nat.le_of_ble_eq_true rfl) ?_
        refine ae_aload_n (pc := 56) dX11_rangeOf_56 rfl ?_
        refine ae_getR (pc := 57) (k := 33) (c := 11) (j := 15) (q := 45) dX11_rangeOf_57 rfl rfl (Nat.le_of_ble_eq_true rfl) rfl (Nat.le_of_ble_eq_true rfl) rfl ?_
        refine ae_iload (pc := 60) dX11_rangeOf_60 rfl ?_
        refine ae_iaload (pc := 62) (k := 45) (N := 256) _ dX11_rangeOf_62 (Nat.le_of_ble_eq_true rfl) rfl rfl rfl (by omega) rfl ?_
        refine ae_iload_n (pc := 63) dX11_rangeOf_63 rfl ?_
        refine ae_icmp_ne (pc := 64) (t := 79) dX11_rangeOf_64 (by decide) (fun c64 => ?_) (fun c64 => ?_)
        · exact absurd hb c64
        refine ae_iload (pc := 67) dX11_rangeOf_67 rfl ?_
        refine ae_iload (pc := 69) dX11_rangeOf_69 rfl ?_
        refine ae_icmp_le (pc := 71) (t := 79) dX11_rangeOf_71 (by decide) (fun c71 => ?_) (fun c71 => ?_)
        · rw [nI_leI (by omega) (by omega)] at c71
          rw [if_neg (by omega)] at ih2
          refine ae_iload (pc := 79) dX11_rangeOf_79 rfl ?_
          refine ae_istore (pc := 81) dX11_rangeOf_81 rfl (Nat.le_of_ble_eq_true rfl) ?_
          refine ae_iinc (pc := 83) (v := nI (k + 1)) dX11_rangeOf_83 rfl (nI_inc k) ?_
          refine ae_goto (pc := 86) (t := 10) dX11_rangeOf_86 (by decide) ?_
          exact ae_forget [6] rfl ih2
        · rw [nI_leI (by omega) (by omega)] at c71
          rw [if_pos (by omega)] at ih2
          refine ae_iload (pc := 74) dX11_rangeOf_74 rfl ?_
          refine ae_goto (pc := 76) (t := 81) dX11_rangeOf_76 (by decide) ?_
          refine ae_istore (pc := 81) dX11_rangeOf_81 rfl (Nat.le_of_ble_eq_true rfl) ?_
          refine ae_iinc (pc := 83) (v := nI (k + 1)) dX11_rangeOf_83 rfl (nI_inc k) ?_
          refine ae_goto (pc := 86) (t := 10) dX11_rangeOf_86 (by decide) ?_
          exact ae_forget [6] rfl ih2
    · rw [bL_f hb] at ih2
      refine ae_aload_n (pc := 19) dX11_rangeOf_19 rfl ?_
      refine ae_getR (pc := 20) (k := 33) (c := 11) (j := 5) (q := 37) dX11_rangeOf_20 rfl rfl (Nat.le_of_ble_eq_true rfl) rfl (Nat.le_of_ble_eq_true rfl) rfl ?_
      refine ae_iload (pc := 23) dX11_rangeOf_23 rfl ?_
      refine ae_iaload (pc := 25) (k := 37) (N := 256) _ dX11_rangeOf_25 (Nat.le_of_ble_eq_true rfl) rfl rfl rfl (by omega) rfl ?_
      refine ae_iload_n (pc := 26) dX11_rangeOf_26 rfl ?_
      refine ae_pcallS (pc := 27) (z := zX11_channel) (As := [_, _]) dX11_rangeOf_27 rfl rfl rfl rfl (Nat.le_of_ble_eq_true rfl) (hch) ?_
      refine ae_istore (pc := 30) dX11_rangeOf_30 rfl (Nat.le_of_ble_eq_true rfl) ?_
      refine ae_aload_n (pc := 32) dX11_rangeOf_32 rfl ?_
      refine ae_getR (pc := 33) (k := 33) (c := 11) (j := 15) (q := 45) dX11_rangeOf_33 rfl rfl (Nat.le_of_ble_eq_true rfl) rfl (Nat.le_of_ble_eq_true rfl) rfl ?_
      refine ae_iload (pc := 36) dX11_rangeOf_36 rfl ?_
      refine ae_iaload (pc := 38) (k := 45) (N := 256) _ dX11_rangeOf_38 (Nat.le_of_ble_eq_true rfl) rfl rfl rfl (by omega) rfl ?_
      refine ae_iload_n (pc := 39) dX11_rangeOf_39 rfl ?_
      refine ae_icmp_ne (pc := 40) (t := 54) dX11_rangeOf_40 (by decide) (fun c40 => ?_) (fun c40 => ?_)
      rotate_left
      · exact absurd (Classical.not_not.mp c40) hb
      refine ae_iload_n (pc := 54) dX11_rangeOf_54 rfl ?_
      refine ae_istore_n (pc := 55) dX11_rangeOf_55 rfl (Nat.le_of_ble_eq_true rfl) ?_
      refine ae_aload_n (pc := 56) dX11_rangeOf_56 rfl ?_
      refine ae_getR (pc := 57) (k := 33) (c := 11) (j := 15) (q := 45) dX11_rangeOf_57 rfl rfl (Nat.le_of_ble_eq_true rfl) rfl (Nat.le_of_ble_eq_true rfl) rfl ?_
      refine ae_iload (pc := 60) dX11_rangeOf_60 rfl ?_
      refine ae_iaload (pc := 62) (k := 45) (N := 256) _ dX11_rangeOf_62 (Nat.le_of_ble_eq_true rfl) rfl rfl rfl (by omega) rfl ?_
      refine ae_iload_n (pc := 63) dX11_rangeOf_63 rfl ?_
      refine ae_icmp_ne (pc := 64) (t := 79) dX11_rangeOf_64 (by decide) (fun c64 => ?_) (fun c64 => ?_)
      rotate_left
      · exact absurd (Classical.not_not.mp c64) hb
      refine ae_iload (pc := 79) dX11_rangeOf_79 rfl ?_
      refine ae_istore (pc := 81) dX11_rangeOf_81 rfl (Nat.le_of_ble_eq_true rfl) ?_
      refine ae_iinc (pc := 83) (v := nI (k + 1)) dX11_rangeOf_83 rfl (nI_inc k) ?_
      refine ae_goto (pc := 86) (t := 10) dX11_rangeOf_86 (by decide) ?_
      exact ae_forget [6] rfl ih2
theorem sm_widest (d : Nat) (M : am_M) (n : Nat) (hn : M.1 33 7 = nI n) (hn2 : n ≤ 256) (b : Nat) : am_R (d + 3) zX11_widest [.ref 33, .int (nI b)] M (fun v M' => v = some (.int (nI (lWd (bL (M.1 37) (M.1 45) b n)))) ∧ M' = M) := by
  refine ae_enter (z := zX11_widest) (y := yX11_widest) (cc := cX11_widest) (mL := 4) (rt := some .int) (ci := 11) (st := false) (np := 1) (L := [some (.ref 33), some (.int (nI b)), none, none]) rfl (by decide) (Nat.le_of_ble_eq_true rfl) rfl ?_
  generalize hL : bL (M.1 37) (M.1 45) b n = L
  have rg : ∀ c, am_R (d + 2) zX11_rangeOf [.ref 33, .int (nI b), .int (nI c)] M (fun v M' => v = some (.int (lRg L c)) ∧ M' = M) := by
    intro c
    have := sm_rangeOf d M n hn hn2 b c
    rwa [hL] at this
  have step2 : ∀ w1, lW1 L = w1 → am_E none (am_R (d + 2)) cX11_widest 11 (some .int) (fun v M' => v = some (.int (nI (lWd L))) ∧ M' = M) (4, [some (.ref 33), some (.int (nI b)), some (.int (nI w1)), some (.int (nI 2))], [], M) := by
    intro w1 hw1
    subst hw1
    have e3 : ∀ w, lWd L = w → am_E none (am_R (d + 2)) cX11_widest 11 (some .int) (fun v M' => v = some (.int (nI (lWd L))) ∧ M' = M) (4, [some (.ref 33), some (.int (nI b)), some (.int (nI w)), some (.int (nI 3))], [], M) := by
      intro w hw
      refine ae_iload_n (pc := 4) dX11_widest_4 rfl ?_
      refine ae_iconst (pc := 5) (v := nI 3) dX11_widest_5 (by decide) ?_
      refine ae_icmp_ge (pc := 6) (t := 36) dX11_widest_6 (by decide) (fun c6 => ?_) (fun c6 => ?_)
      · refine ae_iload_n (pc := 36) dX11_widest_36 rfl ?_
        refine ae_ireturn (pc := 37) dX11_widest_37 rfl ?_
        exact ⟨by rw [hw], rfl⟩
      · exact absurd (by decide) c6
    refine ae_iload_n (pc := 4) dX11_widest_4 rfl ?_
    refine ae_iconst (pc := 5) (v := nI 3) dX11_widest_5 (by decide) ?_
    refine ae_icmp_ge (pc := 6) (t := 36) dX11_widest_6 (by decide) (fun c6 => ?_) (fun c6 => ?_)
    · exact absurd c6 (by decide)
    refine ae_aload_n (pc := 9) dX11_widest_9 rfl ?_
    refine ae_iload_n (pc := 10) dX11_widest_10 rfl ?_
    refine ae_iload_n (pc := 11) dX11_widest_11 rfl ?_
    refine ae_pcallV (pc := 12) (z := zX11_rangeOf) (k := 33) (As := [_, _]) dX11_widest_12 rfl rfl rfl rfl (Nat.le_of_ble_eq_true rfl) rfl (Nat.le_of_ble_eq_true rfl) (Nat.le_of_ble_eq_true rfl) (rg 2) ?_
    refine ae_aload_n (pc := 15) dX11_widest_15 rfl ?_
    refine ae_iload_n (pc := 16) dX11_widest_16 rfl ?_
    refine ae_iload_n (pc := 17) dX11_widest_17 rfl ?_
    refine ae_pcallV (pc := 18) (z := zX11_rangeOf) (k := 33) (As := [_, _]) dX11_widest_18 rfl rfl rfl rfl (Nat.le_of_ble_eq_true rfl) rfl (Nat.le_of_ble_eq_true rfl) (Nat.le_of_ble_eq_true rfl) (rg (lW1 L)) ?_
    refine ae_icmp_le (pc := 21) (t := 28) dX11_widest_21 (by decide) (fun c21 => ?_) (fun c21 => ?_)
    · refine ae_iload_n (pc := 28) dX11_widest_28 rfl ?_
      refine ae_istore_n (pc := 29) dX11_widest_29 rfl (Nat.le_of_ble_eq_true rfl) ?_
      refine ae_iinc (pc := 30) (v := nI 3) dX11_widest_30 rfl (by decide) ?_
      refine ae_goto (pc := 33) (t := 4) dX11_widest_33 (by decide) ?_
      first | exact e3 (lW1 L) (by unfold lWd; first | (rw [if_neg (Int32.not_lt.mpr c21)]; done)) | exact e3 2 (by unfold lWd; first | (rw [if_pos (Int32.not_le.mp c21)]; done))
    · refine ae_iload_n (pc := 24) dX11_widest_24 rfl ?_
      refine ae_goto (pc := 25) (t := 29) dX11_widest_25 (by decide) ?_
      refine ae_istore_n (pc := 29) dX11_widest_29 rfl (Nat.le_of_ble_eq_true rfl) ?_
      refine ae_iinc (pc := 30) (v := nI 3) dX11_widest_30 rfl (by decide) ?_
      refine ae_goto (pc := 33) (t := 4) dX11_widest_33 (by decide) ?_
      first | exact e3 (lW1 L) (by unfold lWd; first | (rw [if_neg (Int32.not_lt.mpr c21)]; done)) | exact e3 2 (by unfold lWd; first | (rw [if_pos (Int32.not_le.mp c21)]; done))
  refine ae_iconst (pc := 0) (v := nI 0) dX11_widest_0 (by decide) ?_
  refine ae_istore_n (pc := 1) dX11_widest_1 rfl (Nat.le_of_ble_eq_true rfl) ?_
  refine ae_iconst (pc := 2) (v := nI 1) dX11_widest_2 (by decide) ?_
  refine ae_istore_n (pc := 3) dX11_widest_3 rfl (Nat.le_of_ble_eq_true rfl) ?_
  skip
  refine ae_iload_n (pc := 4) dX11_widest_4 rfl ?_
  refine ae_iconst (pc := 5) (v := nI 3) dX11_widest_5 (by decide) ?_
  refine ae_icmp_ge (pc := 6) (t := 36) dX11_widest_6 (by decide) (fun c6 => ?_) (fun c6 => ?_)
  · exact absurd c6 (by decide)
  refine ae_aload_n (pc := 9) dX11_widest_9 rfl ?_
  refine ae_iload_n (pc := 10) dX11_widest_10 rfl ?_
  refine ae_iload_n (pc := 11) dX11_widest_11 rfl ?_
  refine ae_pcallV (pc := 12) (z := zX11_rangeOf) (k := 33) (As := [_, _]) dX11_widest_12 rfl rfl rfl rfl (Nat.le_of_ble_eq_true rfl) rfl (Nat.le_of_ble_eq_true rfl) (Nat.le_of_ble_eq_true rfl) (rg 1) ?_
  refine ae_aload_n (pc := 15) dX11_widest_15 rfl ?_
  refine ae_iload_n (pc := 16) dX11_widest_16 rfl ?_
  refine ae_iload_n (pc := 17) dX11_widest_17 rfl ?_
  refine ae_pcallV (pc := 18) (z := zX11_rangeOf) (k := 33) (As := [_, _]) dX11_widest_18 rfl rfl rfl rfl (Nat.le_of_ble_eq_true rfl) rfl (Nat.le_of_ble_eq_true rfl) (Nat.le_of_ble_eq_true rfl) (rg 0) ?_
  refine ae_icmp_le (pc := 21) (t := 28) dX11_widest_21 (by decide) (fun c21 => ?_) (fun c21 => ?_)
  · refine ae_iload_n (pc := 28) dX11_widest_28 rfl ?_
    refine ae_istore_n (pc := 29) dX11_widest_29 rfl (Nat.le_of_ble_eq_true rfl) ?_
    refine ae_iinc (pc := 30) (v := nI 2) dX11_widest_30 rfl (by decide) ?_
    refine ae_goto (pc := 33) (t := 4) dX11_widest_33 (by decide) ?_
    first | exact step2 0 (by unfold lW1; first | (rw [if_neg (Int32.not_lt.mpr c21)]; done)) | exact step2 1 (by unfold lW1; first | (rw [if_pos (Int32.not_le.mp c21)]; done))
  · refine ae_iload_n (pc := 24) dX11_widest_24 rfl ?_
    refine ae_goto (pc := 25) (t := 29) dX11_widest_25 (by decide) ?_
    refine ae_istore_n (pc := 29) dX11_widest_29 rfl (Nat.le_of_ble_eq_true rfl) ?_
    refine ae_iinc (pc := 30) (v := nI 2) dX11_widest_30 rfl (by decide) ?_
    refine ae_goto (pc := 33) (t := 4) dX11_widest_33 (by decide) ?_
    first | exact step2 0 (by unfold lW1; first | (rw [if_neg (Int32.not_lt.mpr c21)]; done)) | exact step2 1 (by unfold lW1; first | (rw [if_pos (Int32.not_le.mp c21)]; done))
theorem sm_spread (d : Nat) (M : am_M) (n : Nat) (hn : M.1 33 7 = nI n) (hn2 : n ≤ 256) (cn : Int32 → Nat) (hm : ∀ i, i < n → M.1 38 i = nI (cn (M.1 37 i)) ∧ cn (M.1 37 i) ≤ 256) (b : Nat) : am_R (d + 2) zX11_spread [.ref 33, .int (nI b)] M (fun v M' => v = some (.long (lSpA cn (bL (M.1 37) (M.1 45) b n) 3)) ∧ M' = M) := by
  refine ae_enter (z := zX11_spread) (y := yX11_spread) (cc := cX11_spread) (mL := 14) (rt := some .long) (ci := 11) (st := false) (np := 1) (L := [some (.ref 33), some (.int (nI b)), none, none, none, none, none, none, none, none, none, none, none, none]) rfl (by decide) (Nat.le_of_ble_eq_true rfl) rfl ?_
  have hps := bL_lS_le (h := M.1 37) (bx := M.1 45) (b := b) hn2 (g := cn) (B := 256) (fun i hi => (hm i hi).2) (Nat.le_refl n)
  refine ae_lconst (pc := 0) (v := 0) dX11_spread_0 (by decide) ?_
  refine ae_lstore_n (pc := 1) dX11_spread_1 rfl (Nat.le_of_ble_eq_true rfl) ?_
  refine ae_aload_n (pc := 2) dX11_spread_2 rfl ?_
  refine ae_iload_n (pc := 3) dX11_spread_3 rfl ?_
  refine ae_pcallV (pc := 4) (z := zX11_pixelsIn) (k := 33) (As := [_]) dX11_spread_4 rfl rfl rfl rfl (Nat.le_of_ble_eq_true rfl) rfl (Nat.le_of_ble_eq_true rfl) (Nat.le_of_ble_eq_true rfl) (sm_pixelsIn d M n hn hn2 cn (fun i hi => (hm i hi).1) b) ?_
  refine ae_i2l (pc := 7) (v := nL (lS cn (bL (M.1 37) (M.1 45) b n))) dX11_spread_7 (nI_i2l (by omega)) ?_
  refine ae_lstore (pc := 8) dX11_spread_8 rfl (Nat.le_of_ble_eq_true rfl) ?_
  refine ae_iconst (pc := 10) (v := nI 0) dX11_spread_10 (by decide) ?_
  refine ae_istore (pc := 11) dX11_spread_11 rfl (Nat.le_of_ble_eq_true rfl) ?_
  skip
  generalize hLL : bL (M.1 37) (M.1 45) b n = LL
  refine am_down (P := fun c => am_E none (am_R (d + 1)) cX11_spread 11 (some .long) _ (13, [some (.ref 33), some (.int (nI b)), some (.long (lSpA cn LL c)), none, some (.long (nL (lS cn LL))), none, some (.int (nI c)), none, none, none, none, none, none, none], [], M)) 3 (fun c hc ih => ?_)
  refine ae_iload (pc := 13) dX11_spread_13 rfl ?_
  refine ae_iconst (pc := 15) (v := nI 3) dX11_spread_15 (by decide) ?_
  refine ae_icmp_ge (pc := 16) (t := 143) dX11_spread_16 (by decide) (fun c16 => ?_) (fun c16 => ?_)
  · have hc2 : c = 3 := by rw [nI_leI (by omega) (by omega)] at c16; omega
    subst hc2
    refine ae_lload_n (pc := 143) dX11_spread_143 rfl ?_
    refine ae_lreturn (pc := 144) dX11_spread_144 rfl ?_
    exact ⟨rfl, rfl⟩
  · have hc2 : c < 3 := by rw [nI_leI (by omega) (by omega)] at c16; omega
    refine ae_lconst (pc := 19) (v := nL 0) dX11_spread_19 rfl ?_
    refine ae_lstore (pc := 20) dX11_spread_20 rfl (Nat.le_of_ble_eq_true rfl) ?_
    refine ae_lconst (pc := 22) (v := nL 0) dX11_spread_22 rfl ?_
    refine ae_lstore (pc := 23) dX11_spread_23 rfl (Nat.le_of_ble_eq_true rfl) ?_
    refine ae_iconst (pc := 25) (v := nI 0) dX11_spread_25 (by decide) ?_
    refine ae_istore (pc := 26) dX11_spread_26 rfl (Nat.le_of_ble_eq_true rfl) ?_
    skip
    refine am_down (P := fun k => am_E none (am_R (d + 1)) cX11_spread 11 (some .long) _ (28, [some (.ref 33), some (.int (nI b)), some (.long (lSpA cn LL c)), none, some (.long (nL (lS cn LL))), none, some (.int (nI c)), some (.long (nL (lS (gS cn c) (bL (M.1 37) (M.1 45) b k)))), none, some (.long (nL (lS (gQ cn c) (bL (M.1 37) (M.1 45) b k)))), none, some (.int (nI k)), none, none], [], M)) n (fun k hk ihk => ?_)
    refine ae_iload (pc := 28) dX11_spread_28 rfl ?_
    refine ae_aload_n (pc := 30) dX11_spread_30 rfl ?_
    refine ae_getI (pc := 31) (k := 33) (c := 11) (j := 7) (v := nI n) dX11_spread_31 rfl rfl (Or.inl rfl) (Nat.le_of_ble_eq_true rfl) rfl (Nat.le_of_ble_eq_true rfl) hn ?_
    refine ae_icmp_ge (pc := 34) (t := 123) dX11_spread_34 (by decide) (fun c34 => ?_) (fun c34 => ?_)
    · have hk2 : k = n := by rw [nI_leI (by omega) (by omega)] at c34; omega
      subst hk2
      rw [hLL]
      refine ae_lload_n (pc := 123) dX11_spread_123 rfl ?_
      refine ae_lload (pc := 124) dX11_spread_124 rfl ?_
      refine ae_lload (pc := 126) dX11_spread_126 rfl ?_
      refine ae_lmul (pc := 128) dX11_spread_128 rfl ?_
      refine ae_lload (pc := 129) dX11_spread_129 rfl ?_
      refine ae_lload (pc := 131) dX11_spread_131 rfl ?_
      refine ae_lmul (pc := 133) dX11_spread_133 rfl ?_
      refine ae_lsub (pc := 134) dX11_spread_134 rfl ?_
      refine ae_ladd (pc := 135) (v := lSpA cn LL (c + 1)) dX11_spread_135 rfl ?_
      refine ae_lstore_n (pc := 136) dX11_spread_136 rfl (Nat.le_of_ble_eq_true rfl) ?_
      refine ae_iinc (pc := 137) (v := nI (c + 1)) dX11_spread_137 rfl (nI_inc c) ?_
      refine ae_goto (pc := 140) (t := 13) dX11_spread_140 (by decide) ?_
      exact ae_forget [7, 9, 11] rfl (ih hc2)
    · have hk2 : k < n := by rw [nI_leI (by omega) (by omega)] at c34; omega
      have ih2 := ihk hk2
      obtain ⟨hc1, hc3⟩ := chN_lt (M.1 37 k) c
      have hch := sm_channel d (M.1 37 k) c M
      rw [hc3] at hch
      obtain ⟨m1, m2⟩ := hm k hk2
      by_cases hb : M.1 45 k = nI b
      · rw [bL_t hb] at ih2
        refine ae_aload_n (pc := 37) dX11_spread_37 rfl ?_
        refine ae_getR (pc := 38) (k := 33) (c := 11) (j := 5) (q := 37) dX11_spread_38 rfl rfl (Nat.le_of_ble_eq_true rfl) rfl (Nat.le_of_ble_eq_true rfl) rfl ?_
        refine ae_iload (pc := 41) dX11_spread_41 rfl ?_
        refine ae_iaload (pc := 43) (k := 37) (N := 256) _ dX11_spread_43 (Nat.le_of_ble_eq_true rfl) rfl rfl rfl (by omega) rfl ?_
        refine ae_iload (pc := 44) dX11_spread_44 rfl ?_
        refine ae_pcallS (pc := 46) (z := zX11_channel) (As := [_, _]) dX11_spread_46 rfl rfl rfl rfl (Nat.le_of_ble_eq_true rfl) (hch) ?_
        refine ae_i2l (pc := 49) (v := nL (chN (M.1 37 k) c)) dX11_spread_49 (nI_i2l (by omega)) ?_
        refine ae_lstore (pc := 50) dX11_spread_50 rfl (Nat.le_of_ble_eq_true rfl) ?_
        refine ae_lload (pc := 52) dX11_spread_52 rfl ?_
        refine ae_aload_n (pc := 54) dX11_spread_54 rfl ?_
        refine ae_getR (pc := 55) (k := 33) (c := 11) (j := 15) (q := 45) dX11_spread_55 rfl rfl (Nat.le_of_ble_eq_true rfl) rfl (Nat.le_of_ble_eq_true rfl) rfl ?_
        refine ae_iload (pc := 58) dX11_spread_58 rfl ?_
        refine ae_iaload (pc := 60) (k := 45) (N := 256) _ dX11_spread_60 (Nat.le_of_ble_eq_true rfl) rfl rfl rfl (by omega) rfl ?_
        refine ae_iload_n (pc := 61) dX11_spread_61 rfl ?_
        refine ae_icmp_ne (pc := 62) (t := 79) dX11_spread_62 (by decide) (fun c62 => ?_) (fun c62 => ?_)
        · exact absurd hb c62
        refine ae_aload_n (pc := 65) dX11_spread_65 rfl ?_
        refine ae_getR (pc := 66) (k := 33) (c := 11) (j := 6) (q := 38) dX11_spread_66 rfl rfl (Nat.le_of_ble_eq_true rfl) rfl (Nat.le_of_ble_eq_true rfl) rfl ?_
        refine ae_iload (pc := 69) dX11_spread_69 rfl ?_
        refine ae_iaload (pc := 71) (k := 38) (N := 256) (v := nI (cn (M.1 37 k))) _ dX11_spread_71 (Nat.le_of_ble_eq_true rfl) rfl rfl rfl (by omega) m1 ?_
        refine ae_i2l (pc := 72) (v := nL (cn (M.1 37 k))) dX11_spread_72 (nI_i2l (by omega)) ?_
        refine ae_lload (pc := 73) dX11_spread_73 rfl ?_
        refine ae_lmul (pc := 75) (v := _) dX11_spread_75 (nL_mul _ _) ?_
        refine ae_goto (pc := 76) (t := 80) dX11_spread_76 (by decide) ?_
        refine ae_ladd (pc := 80) (v := _) dX11_spread_80 (nL_add _ _) ?_
        refine ae_lstore (pc := 81) dX11_spread_81 rfl (Nat.le_of_ble_eq_true rfl) ?_
        refine ae_lload (pc := 83) dX11_spread_83 rfl ?_
        refine ae_aload_n (pc := 85) dX11_spread_85 rfl ?_
        refine ae_getR (pc := 86) (k := 33) (c := 11) (j := 15) (q := 45) dX11_spread_86 rfl rfl (Nat.le_of_ble_eq_true rfl) rfl (Nat.le_of_ble_eq_true rfl) rfl ?_
        refine ae_iload (pc := 89) dX11_spread_89 rfl ?_
        refine ae_iaload (pc := 91) (k := 45) (N := 256) _ dX11_spread_91 (Nat.le_of_ble_eq_true rfl) rfl rfl rfl (by omega) rfl ?_
        refine ae_iload_n (pc := 92) dX11_spread_92 rfl ?_
        refine ae_icmp_ne (pc := 93) (t := 113) dX11_spread_93 (by decide) (fun c93 => ?_) (fun c93 => ?_)
        · exact absurd hb c93
        refine ae_aload_n (pc := 96) dX11_spread_96 rfl ?_
        refine ae_getR (pc := 97) (k := 33) (c := 11) (j := 6) (q := 38) dX11_spread_97 rfl rfl (Nat.le_of_ble_eq_true rfl) rfl (Nat.le_of_ble_eq_true rfl) rfl ?_
        refine ae_iload (pc := 100) dX11_spread_100 rfl ?_
        refine ae_iaload (pc := 102) (k := 38) (N := 256) (v := nI (cn (M.1 37 k))) _ dX11_spread_102 (Nat.le_of_ble_eq_true rfl) rfl rfl rfl (by omega) m1 ?_
        refine ae_i2l (pc := 103) (v := nL (cn (M.1 37 k))) dX11_spread_103 (nI_i2l (by omega)) ?_
        refine ae_lload (pc := 104) dX11_spread_104 rfl ?_
        refine ae_lmul (pc := 106) (v := _) dX11_spread_106 (nL_mul _ _) ?_
        refine ae_lload (pc := 107) dX11_spread_107 rfl ?_
        refine ae_lmul (pc := 109) (v := _) dX11_spread_109 (nL_mul _ _) ?_
        refine ae_goto (pc := 110) (t := 114) dX11_spread_110 (by decide) ?_
        refine ae_ladd (pc := 114) (v := _) dX11_spread_114 (nL_add _ _) ?_
        refine ae_lstore (pc := 115) dX11_spread_115 rfl (Nat.le_of_ble_eq_true rfl) ?_
        refine ae_iinc (pc := 117) (v := nI (k + 1)) dX11_spread_117 rfl (nI_inc k) ?_
        refine ae_goto (pc := 120) (t := 28) dX11_spread_120 (by decide) ?_
        exact ae_forget [12] rfl ih2
      · rw [bL_f hb] at ih2
        refine ae_aload_n (pc := 37) dX11_spread_37 rfl ?_
        refine ae_getR (pc := 38) (k := 33) (c := 11) (j := 5) (q := 37) dX11_spread_38 rfl rfl (Nat.le_of_ble_eq_true rfl) rfl (Nat.le_of_ble_eq_true rfl) rfl ?_
        refine ae_iload (pc := 41) dX11_spread_41 rfl ?_
        refine ae_iaload (pc := 43) (k := 37) (N := 256) _ dX11_spread_43 (Nat.le_of_ble_eq_true rfl) rfl rfl rfl (by omega) rfl ?_
        refine ae_iload (pc := 44) dX11_spread_44 rfl ?_
        refine ae_pcallS (pc := 46) (z := zX11_channel) (As := [_, _]) dX11_spread_46 rfl rfl rfl rfl (Nat.le_of_ble_eq_true rfl) (hch) ?_
        refine ae_i2l (pc := 49) (v := nL (chN (M.1 37 k) c)) dX11_spread_49 (nI_i2l (by omega)) ?_
        refine ae_lstore (pc := 50) dX11_spread_50 rfl (Nat.le_of_ble_eq_true rfl) ?_
        refine ae_lload (pc := 52) dX11_spread_52 rfl ?_
        refine ae_aload_n (pc := 54) dX11_spread_54 rfl ?_
        refine ae_getR (pc := 55) (k := 33) (c := 11) (j := 15) (q := 45) dX11_spread_55 rfl rfl (Nat.le_of_ble_eq_true rfl) rfl (Nat.le_of_ble_eq_true rfl) rfl ?_
        refine ae_iload (pc := 58) dX11_spread_58 rfl ?_
        refine ae_iaload (pc := 60) (k := 45) (N := 256) _ dX11_spread_60 (Nat.le_of_ble_eq_true rfl) rfl rfl rfl (by omega) rfl ?_
        refine ae_iload_n (pc := 61) dX11_spread_61 rfl ?_
        refine ae_icmp_ne (pc := 62) (t := 79) dX11_spread_62 (by decide) (fun c62 => ?_) (fun c62 => ?_)
        rotate_left
        · exact absurd (Classical.not_not.mp c62) hb
        refine ae_lconst (pc := 79) (v := nL 0) dX11_spread_79 rfl ?_
        refine ae_ladd (pc := 80) (v := _) dX11_spread_80 (nL_add _ _) ?_
        refine ae_lstore (pc := 81) dX11_spread_81 rfl (Nat.le_of_ble_eq_true rfl) ?_
        refine ae_lload (pc := 83) dX11_spread_83 rfl ?_
        refine ae_aload_n (pc := 85) dX11_spread_85 rfl ?_
        refine ae_getR (pc := 86) (k := 33) (c := 11) (j := 15) (q := 45) dX11_spread_86 rfl rfl (Nat.le_of_ble_eq_true rfl) rfl (Nat.le_of_ble_eq_true rfl) rfl ?_
        refine ae_iload (pc := 89) dX11_spread_89 rfl ?_
        refine ae_iaload (pc := 91) (k := 45) (N := 256) _ dX11_spread_91 (Nat.le_of_ble_eq_true rfl) rfl rfl rfl (by omega) rfl ?_
        refine ae_iload_n (pc := 92) dX11_spread_92 rfl ?_
        refine ae_icmp_ne (pc := 93) (t := 113) dX11_spread_93 (by decide) (fun c93 => ?_) (fun c93 => ?_)
        rotate_left
        · exact absurd (Classical.not_not.mp c93) hb
        refine ae_lconst (pc := 113) (v := nL 0) dX11_spread_113 rfl ?_
        refine ae_ladd (pc := 114) (v := _) dX11_spread_114 (nL_add _ _) ?_
        refine ae_lstore (pc := 115) dX11_spread_115 rfl (Nat.le_of_ble_eq_true rfl) ?_
        refine ae_iinc (pc := 117) (v := nI (k + 1)) dX11_spread_117 rfl (nI_inc k) ?_
        refine ae_goto (pc := 120) (t := 28) dX11_spread_120 (by decide) ?_
        exact ae_forget [12] rfl ih2

