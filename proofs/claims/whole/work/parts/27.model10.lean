theorem sm_fault (d : Nat) (M : am_M) (n : Nat) (hn : M.1 33 4 = nI n) (hn2 : n ≤ 140) : am_R (d + 4) zX11_fault [.ref 33] M (fun v M' => v = some (.int (prs (M.1 36) n n 0 0 (M.1 43) (M.1 44)).1) ∧ M' = flM M (prs (M.1 36) n n 0 0 (M.1 43) (M.1 44)).2.1 (prs (M.1 36) n n 0 0 (M.1 43) (M.1 44)).2.2.1 (prs (M.1 36) n n 0 0 (M.1 43) (M.1 44)).2.2.2) := by
  refine ae_enter (z := zX11_fault) (y := yX11_fault) (cc := cX11_fault) (mL := 3) (rt := some .int) (ci := 11) (st := false) (np := 0) (L := [some (.ref 33), none, none]) rfl (by decide) (Nat.le_of_ble_eq_true rfl) rfl ?_
  have e33 : ∀ r rc rl, (flM M r rc rl).1 33 4 = nI n := fun r rc rl => by rw [flM_33, upd_ne _ _ (by decide)]; exact hn
  have e14 : ∀ r rc rl, (flM M r rc rl).1 33 14 = nI r := fun r rc rl => by rw [flM_33, upd_self]
  have e36 : ∀ r rc rl, (flM M r rc rl).1 36 = M.1 36 := fun r rc rl => flM_ne M r rc rl (by decide)
  have key : ∀ m i r rc rl, n ≤ i + m → r ≤ 16 → i ≤ 147 → am_E none (am_R (d + 3)) cX11_fault 11 (some .int) (fun v M' => v = some (.int (prs (M.1 36) n m i r rc rl).1) ∧ M' = flM M (prs (M.1 36) n m i r rc rl).2.1 (prs (M.1 36) n m i r rc rl).2.2.1 (prs (M.1 36) n m i r rc rl).2.2.2) (7, [some (.ref 33), some (.int (nI i)), none], [], flM M r rc rl) := by
    intro m
    induction m with
    | zero =>
      intro i r rc rl hm hr hi
      refine ae_iload_n (pc := 7) dX11_fault_7 rfl ?_
      refine ae_aload_n (pc := 8) dX11_fault_8 rfl ?_
      refine ae_getI (pc := 9) (k := 33) (c := 11) (j := 4) (v := nI n) dX11_fault_9 rfl rfl (Or.inl rfl) (Nat.le_of_ble_eq_true rfl) rfl (Nat.le_of_ble_eq_true rfl) (e33 _ _ _) ?_
      refine ae_icmp_ge (pc := 12) (t := 141) dX11_fault_12 (by decide) (fun c12 => ?_) (fun c12 => ?_)
      rotate_left
      · exact absurd (nI_le (by omega) (by omega)) c12
      refine ae_iconst (pc := 141) (v := (-1)) dX11_fault_141 (by decide) ?_
      refine ae_ireturn (pc := 142) dX11_fault_142 rfl ?_
      exact ⟨rfl, rfl⟩
    | succ m ih =>
      intro i r rc rl hm hr hi
      refine ae_iload_n (pc := 7) dX11_fault_7 rfl ?_
      refine ae_aload_n (pc := 8) dX11_fault_8 rfl ?_
      refine ae_getI (pc := 9) (k := 33) (c := 11) (j := 4) (v := nI n) dX11_fault_9 rfl rfl (Or.inl rfl) (Nat.le_of_ble_eq_true rfl) rfl (Nat.le_of_ble_eq_true rfl) (e33 _ _ _) ?_
      refine ae_icmp_ge (pc := 12) (t := 141) dX11_fault_12 (by decide) (fun c12 => ?_) (fun c12 => ?_)
      · rw [nI_leI (by omega) (by omega)] at c12
        refine ae_iconst (pc := 141) (v := (-1)) dX11_fault_141 (by decide) ?_
        refine ae_ireturn (pc := 142) dX11_fault_142 rfl ?_
        refine ⟨?_, ?_⟩ <;> rw [prs, if_pos c12]
      · rw [nI_leI (by omega) (by omega)] at c12
        by_cases hc : M.1 36 i = nI 35 ∧ r < 16
        · have hrd := sm_readsDigits d (flM M r rc rl) n (e33 _ _ _) hn2 r (e14 _ _ _) hc.2 (i + 1) (by omega)
          rw [e36, flM_43, flM_c] at hrd
          have h6 := dgN_le (M.1 36) n (i + 1) 6
          by_cases hne : rdC (M.1 36) n (i + 1) = -1
          · have ep : prs (M.1 36) n (m + 1) i r rc rl = (nI (i + 1 + dgN (M.1 36) n (i + 1) 6), r, upd rc r (rdC (M.1 36) n (i + 1)), rl) := by rw [prs, if_neg c12, if_pos hc, if_pos hne]
            rw [ep]
            refine ae_aload_n (pc := 15) dX11_fault_15 rfl ?_
            refine ae_getR (pc := 16) (k := 33) (c := 11) (j := 3) (q := 36) dX11_fault_16 rfl rfl (Nat.le_of_ble_eq_true rfl) rfl (Nat.le_of_ble_eq_true rfl) rfl ?_
            refine ae_iload_n (pc := 19) dX11_fault_19 rfl ?_
            refine ae_iaload (pc := 20) (k := 36) (N := 140) (v := nI 35) _ dX11_fault_20 (Nat.le_of_ble_eq_true rfl) rfl rfl rfl (by omega) (by rw [e36]; exact hc.1) ?_
            refine ae_istore_n (pc := 21) dX11_fault_21 rfl (Nat.le_of_ble_eq_true rfl) ?_
            refine ae_iload_n (pc := 22) dX11_fault_22 rfl ?_
            refine ae_bipush (pc := 23) (v := nI 35) dX11_fault_23 (by decide) ?_
            refine ae_icmp_ne (pc := 25) (t := 118) dX11_fault_25 (by decide) (fun c25 => ?_) (fun c25 => ?_)
            · exact absurd rfl c25
            refine ae_aload_n (pc := 28) dX11_fault_28 rfl ?_
            refine ae_getI (pc := 29) (k := 33) (c := 11) (j := 14) (v := nI r) dX11_fault_29 rfl rfl (Or.inl rfl) (Nat.le_of_ble_eq_true rfl) rfl (Nat.le_of_ble_eq_true rfl) (e14 _ _ _) ?_
            refine ae_bipush (pc := 32) (v := nI 16) dX11_fault_32 (by decide) ?_
            refine ae_icmp_ge (pc := 34) (t := 118) dX11_fault_34 (by decide) (fun c34 => ?_) (fun c34 => ?_)
            · exact absurd c34 (by rw [nI_leI (by omega) (by omega)]; omega)
            refine ae_aload_n (pc := 37) dX11_fault_37 rfl ?_
            refine ae_iload_n (pc := 38) dX11_fault_38 rfl ?_
            refine ae_iconst (pc := 39) (v := nI 1) dX11_fault_39 (by decide) ?_
            refine ae_iadd (pc := 40) dX11_fault_40 (nI_add _ _) ?_
            refine ae_callV (pc := 41) (z := zX11_readsDigits) (k := 33) (As := [_]) dX11_fault_41 rfl rfl rfl rfl (Nat.le_of_ble_eq_true rfl) rfl (Nat.le_of_ble_eq_true rfl) (Nat.le_of_ble_eq_true rfl) (hrd) (fun v M' hq => ?_)
            obtain ⟨rfl, rfl⟩ := hq
            refine ae_istore_n (pc := 44) dX11_fault_44 rfl (Nat.le_of_ble_eq_true rfl) ?_
            refine ae_aload_n (pc := 45) dX11_fault_45 rfl ?_
            refine ae_getR (pc := 46) (k := 33) (c := 11) (j := 12) (q := 43) dX11_fault_46 rfl rfl (Nat.le_of_ble_eq_true rfl) rfl (Nat.le_of_ble_eq_true rfl) rfl ?_
            refine ae_aload_n (pc := 49) dX11_fault_49 rfl ?_
            refine ae_getI (pc := 50) (k := 33) (c := 11) (j := 14) (v := nI r) dX11_fault_50 rfl rfl (Or.inl rfl) (Nat.le_of_ble_eq_true rfl) rfl (Nat.le_of_ble_eq_true rfl) (e14 _ _ _) ?_
            refine ae_iaload (pc := 53) (k := 43) (N := 16) (v := (-1)) _ dX11_fault_53 (Nat.le_of_ble_eq_true rfl) rfl rfl rfl (by omega) (by rw [flM_43, upd_self]; exact hne) ?_
            refine ae_iconst (pc := 54) (v := (-1)) dX11_fault_54 (by decide) ?_
            refine ae_icmp_ne (pc := 55) (t := 60) dX11_fault_55 (by decide) (fun c55 => ?_) (fun c55 => ?_)
            · exact absurd rfl c55
            refine ae_iload_n (pc := 58) dX11_fault_58 rfl ?_
            refine ae_ireturn (pc := 59) dX11_fault_59 rfl ?_
            exact ⟨rfl, rfl⟩
          · by_cases hx : i + 1 + dgN (M.1 36) n (i + 1) 6 < n ∧ M.1 36 (i + 1 + dgN (M.1 36) n (i + 1) 6) = nI 33
            · have ep : prs (M.1 36) n (m + 1) i r rc rl = prs (M.1 36) n m (i + 1 + dgN (M.1 36) n (i + 1) 6 + 1) (r + 1) (upd rc r (rdC (M.1 36) n (i + 1))) (upd rl r (nI 1)) := by rw [prs, if_neg c12, if_pos hc, if_neg hne, if_pos hx]
              rw [ep]
              refine ae_aload_n (pc := 15) dX11_fault_15 rfl ?_
              refine ae_getR (pc := 16) (k := 33) (c := 11) (j := 3) (q := 36) dX11_fault_16 rfl rfl (Nat.le_of_ble_eq_true rfl) rfl (Nat.le_of_ble_eq_true rfl) rfl ?_
              refine ae_iload_n (pc := 19) dX11_fault_19 rfl ?_
              refine ae_iaload (pc := 20) (k := 36) (N := 140) (v := nI 35) _ dX11_fault_20 (Nat.le_of_ble_eq_true rfl) rfl rfl rfl (by omega) (by rw [e36]; exact hc.1) ?_
              refine ae_istore_n (pc := 21) dX11_fault_21 rfl (Nat.le_of_ble_eq_true rfl) ?_
              refine ae_iload_n (pc := 22) dX11_fault_22 rfl ?_
              refine ae_bipush (pc := 23) (v := nI 35) dX11_fault_23 (by decide) ?_
              refine ae_icmp_ne (pc := 25) (t := 118) dX11_fault_25 (by decide) (fun c25 => ?_) (fun c25 => ?_)
              · exact absurd rfl c25
              refine ae_aload_n (pc := 28) dX11_fault_28 rfl ?_
              refine ae_getI (pc := 29) (k := 33) (c := 11) (j := 14) (v := nI r) dX11_fault_29 rfl rfl (Or.inl rfl) (Nat.le_of_ble_eq_true rfl) rfl (Nat.le_of_ble_eq_true rfl) (e14 _ _ _) ?_
              refine ae_bipush (pc := 32) (v := nI 16) dX11_fault_32 (by decide) ?_
              refine ae_icmp_ge (pc := 34) (t := 118) dX11_fault_34 (by decide) (fun c34 => ?_) (fun c34 => ?_)
              · exact absurd c34 (by rw [nI_leI (by omega) (by omega)]; omega)
              refine ae_aload_n (pc := 37) dX11_fault_37 rfl ?_
              refine ae_iload_n (pc := 38) dX11_fault_38 rfl ?_
              refine ae_iconst (pc := 39) (v := nI 1) dX11_fault_39 (by decide) ?_
              refine ae_iadd (pc := 40) dX11_fault_40 (nI_add _ _) ?_
              refine ae_callV (pc := 41) (z := zX11_readsDigits) (k := 33) (As := [_]) dX11_fault_41 rfl rfl rfl rfl (Nat.le_of_ble_eq_true rfl) rfl (Nat.le_of_ble_eq_true rfl) (Nat.le_of_ble_eq_true rfl) (hrd) (fun v M' hq => ?_)
              obtain ⟨rfl, rfl⟩ := hq
              refine ae_istore_n (pc := 44) dX11_fault_44 rfl (Nat.le_of_ble_eq_true rfl) ?_
              refine ae_aload_n (pc := 45) dX11_fault_45 rfl ?_
              refine ae_getR (pc := 46) (k := 33) (c := 11) (j := 12) (q := 43) dX11_fault_46 rfl rfl (Nat.le_of_ble_eq_true rfl) rfl (Nat.le_of_ble_eq_true rfl) rfl ?_
              refine ae_aload_n (pc := 49) dX11_fault_49 rfl ?_
              refine ae_getI (pc := 50) (k := 33) (c := 11) (j := 14) (v := nI r) dX11_fault_50 rfl rfl (Or.inl rfl) (Nat.le_of_ble_eq_true rfl) rfl (Nat.le_of_ble_eq_true rfl) (e14 _ _ _) ?_
              refine ae_iaload (pc := 53) (k := 43) (N := 16) (v := rdC (M.1 36) n (i + 1)) _ dX11_fault_53 (Nat.le_of_ble_eq_true rfl) rfl rfl rfl (by omega) (by rw [flM_43, upd_self]) ?_
              refine ae_iconst (pc := 54) (v := (-1)) dX11_fault_54 (by decide) ?_
              refine ae_icmp_ne (pc := 55) (t := 60) dX11_fault_55 (by decide) (fun c55 => ?_) (fun c55 => ?_)
              rotate_left
              · exact absurd (Classical.not_not.mp c55) hne
              refine ae_aload_n (pc := 60) dX11_fault_60 rfl ?_
              refine ae_getR (pc := 61) (k := 33) (c := 11) (j := 13) (q := 44) dX11_fault_61 rfl rfl (Nat.le_of_ble_eq_true rfl) rfl (Nat.le_of_ble_eq_true rfl) rfl ?_
              refine ae_aload_n (pc := 64) dX11_fault_64 rfl ?_
              refine ae_getI (pc := 65) (k := 33) (c := 11) (j := 14) (v := nI r) dX11_fault_65 rfl rfl (Or.inl rfl) (Nat.le_of_ble_eq_true rfl) rfl (Nat.le_of_ble_eq_true rfl) (e14 _ _ _) ?_
              refine ae_iload_n (pc := 68) dX11_fault_68 rfl ?_
              refine ae_aload_n (pc := 69) dX11_fault_69 rfl ?_
              refine ae_getI (pc := 70) (k := 33) (c := 11) (j := 4) (v := nI n) dX11_fault_70 rfl rfl (Or.inl rfl) (Nat.le_of_ble_eq_true rfl) rfl (Nat.le_of_ble_eq_true rfl) (e33 _ _ _) ?_
              refine ae_icmp_ge (pc := 73) (t := 91) dX11_fault_73 (by decide) (fun c73 => ?_) (fun c73 => ?_)
              · exact absurd c73 (by rw [nI_leI (by omega) (by omega)]; omega)
              refine ae_aload_n (pc := 76) dX11_fault_76 rfl ?_
              refine ae_getR (pc := 77) (k := 33) (c := 11) (j := 3) (q := 36) dX11_fault_77 rfl rfl (Nat.le_of_ble_eq_true rfl) rfl (Nat.le_of_ble_eq_true rfl) rfl ?_
              refine ae_iload_n (pc := 80) dX11_fault_80 rfl ?_
              refine ae_iaload (pc := 81) (k := 36) (N := 140) (v := nI 33) _ dX11_fault_81 (Nat.le_of_ble_eq_true rfl) rfl rfl rfl (by omega) (by rw [e36]; exact hx.2) ?_
              refine ae_bipush (pc := 82) (v := nI 33) dX11_fault_82 (by decide) ?_
              refine ae_icmp_ne (pc := 84) (t := 91) dX11_fault_84 (by decide) (fun c84 => ?_) (fun c84 => ?_)
              · exact absurd rfl c84
              refine ae_iconst (pc := 87) (v := nI 1) dX11_fault_87 (by decide) ?_
              refine ae_goto (pc := 88) (t := 92) dX11_fault_88 (by decide) ?_
              refine ae_iastore (pc := 92) (k := 44) (N := 16) _ dX11_fault_92 (Nat.le_of_ble_eq_true rfl) rfl rfl rfl (by omega) rfl ?_
              refine ae_M (flM_l _ _ _ _ _) ?_
              refine ae_iload_n (pc := 93) dX11_fault_93 rfl ?_
              refine ae_aload_n (pc := 94) dX11_fault_94 rfl ?_
              refine ae_getR (pc := 95) (k := 33) (c := 11) (j := 13) (q := 44) dX11_fault_95 rfl rfl (Nat.le_of_ble_eq_true rfl) rfl (Nat.le_of_ble_eq_true rfl) rfl ?_
              refine ae_aload_n (pc := 98) dX11_fault_98 rfl ?_
              refine ae_getI (pc := 99) (k := 33) (c := 11) (j := 14) (v := nI r) dX11_fault_99 rfl rfl (Or.inl rfl) (Nat.le_of_ble_eq_true rfl) rfl (Nat.le_of_ble_eq_true rfl) (e14 _ _ _) ?_
              refine ae_iaload (pc := 102) (k := 44) (N := 16) (v := nI 1) _ dX11_fault_102 (Nat.le_of_ble_eq_true rfl) rfl rfl rfl (by omega) (by rw [flM_44, flM_44, upd_self]) ?_
              refine ae_iadd (pc := 103) (v := nI (i + 1 + dgN (M.1 36) n (i + 1) 6 + 1)) dX11_fault_103 (nI_add _ 1) ?_
              refine ae_istore_n (pc := 104) dX11_fault_104 rfl (Nat.le_of_ble_eq_true rfl) ?_
              refine ae_aload_n (pc := 105) dX11_fault_105 rfl ?_
              refine ae_dup (pc := 106) dX11_fault_106 rfl ?_
              refine ae_getI (pc := 107) (k := 33) (c := 11) (j := 14) (v := nI r) dX11_fault_107 rfl rfl (Or.inl rfl) (Nat.le_of_ble_eq_true rfl) rfl (Nat.le_of_ble_eq_true rfl) (e14 _ _ _) ?_
              refine ae_iconst (pc := 110) (v := nI 1) dX11_fault_110 (by decide) ?_
              refine ae_iadd (pc := 111) (v := nI (r + 1)) dX11_fault_111 (nI_add r 1) ?_
              refine ae_putfield (pc := 112) (k := 33) (c := 11) (j := 14) dX11_fault_112 rfl rfl (Nat.le_of_ble_eq_true rfl) rfl (Nat.le_of_ble_eq_true rfl) rfl rfl ?_
              refine ae_M (flM_r _ _ _ _ _) ?_
              refine ae_goto (pc := 115) (t := 138) dX11_fault_115 (by decide) ?_
              refine ae_goto (pc := 138) (t := 7) dX11_fault_138 (by decide) ?_
              refine ae_forget [2] rfl ?_
              rw [flM_44]
              exact ih (i + 1 + dgN (M.1 36) n (i + 1) 6 + 1) (r + 1) (upd rc r (rdC (M.1 36) n (i + 1))) (upd rl r (nI 1)) (by omega) (by omega) (by omega)
            · have ep : prs (M.1 36) n (m + 1) i r rc rl = prs (M.1 36) n m (i + 1 + dgN (M.1 36) n (i + 1) 6) (r + 1) (upd rc r (rdC (M.1 36) n (i + 1))) (upd rl r (nI 0)) := by rw [prs, if_neg c12, if_pos hc, if_neg hne, if_neg hx]
              rw [ep]
              refine ae_aload_n (pc := 15) dX11_fault_15 rfl ?_
              refine ae_getR (pc := 16) (k := 33) (c := 11) (j := 3) (q := 36) dX11_fault_16 rfl rfl (Nat.le_of_ble_eq_true rfl) rfl (Nat.le_of_ble_eq_true rfl) rfl ?_
              refine ae_iload_n (pc := 19) dX11_fault_19 rfl ?_
              refine ae_iaload (pc := 20) (k := 36) (N := 140) (v := nI 35) _ dX11_fault_20 (Nat.le_of_ble_eq_true rfl) rfl rfl rfl (by omega) (by rw [e36]; exact hc.1) ?_
              refine ae_istore_n (pc := 21) dX11_fault_21 rfl (Nat.le_of_ble_eq_true rfl) ?_
              refine ae_iload_n (pc := 22) dX11_fault_22 rfl ?_
              refine ae_bipush (pc := 23) (v := nI 35) dX11_fault_23 (by decide) ?_
              refine ae_icmp_ne (pc := 25) (t := 118) dX11_fault_25 (by decide) (fun c25 => ?_) (fun c25 => ?_)
              · exact absurd rfl c25
              refine ae_aload_n (pc := 28) dX11_fault_28 rfl ?_
              refine ae_getI (pc := 29) (k := 33) (c := 11) (j := 14) (v := nI r) dX11_fault_29 rfl rfl (Or.inl rfl) (Nat.le_of_ble_eq_true rfl) rfl (Nat.le_of_ble_eq_true rfl) (e14 _ _ _) ?_
              refine ae_bipush (pc := 32) (v := nI 16) dX11_fault_32 (by decide) ?_
              refine ae_icmp_ge (pc := 34) (t := 118) dX11_fault_34 (by decide) (fun c34 => ?_) (fun c34 => ?_)
              · exact absurd c34 (by rw [nI_leI (by omega) (by omega)]; omega)
              refine ae_aload_n (pc := 37) dX11_fault_37 rfl ?_
              refine ae_iload_n (pc := 38) dX11_fault_38 rfl ?_
              refine ae_iconst (pc := 39) (v := nI 1) dX11_fault_39 (by decide) ?_
              refine ae_iadd (pc := 40) dX11_fault_40 (nI_add _ _) ?_
              refine ae_callV (pc := 41) (z := zX11_readsDigits) (k := 33) (As := [_]) dX11_fault_41 rfl rfl rfl rfl (Nat.le_of_ble_eq_true rfl) rfl (Nat.le_of_ble_eq_true rfl) (Nat.le_of_ble_eq_true rfl) (hrd) (fun v M' hq => ?_)
              obtain ⟨rfl, rfl⟩ := hq
              refine ae_istore_n (pc := 44) dX11_fault_44 rfl (Nat.le_of_ble_eq_true rfl) ?_
              refine ae_aload_n (pc := 45) dX11_fault_45 rfl ?_
              refine ae_getR (pc := 46) (k := 33) (c := 11) (j := 12) (q := 43) dX11_fault_46 rfl rfl (Nat.le_of_ble_eq_true rfl) rfl (Nat.le_of_ble_eq_true rfl) rfl ?_
              refine ae_aload_n (pc := 49) dX11_fault_49 rfl ?_
              refine ae_getI (pc := 50) (k := 33) (c := 11) (j := 14) (v := nI r) dX11_fault_50 rfl rfl (Or.inl rfl) (Nat.le_of_ble_eq_true rfl) rfl (Nat.le_of_ble_eq_true rfl) (e14 _ _ _) ?_
              refine ae_iaload (pc := 53) (k := 43) (N := 16) (v := rdC (M.1 36) n (i + 1)) _ dX11_fault_53 (Nat.le_of_ble_eq_true rfl) rfl rfl rfl (by omega) (by rw [flM_43, upd_self]) ?_
              refine ae_iconst (pc := 54) (v := (-1)) dX11_fault_54 (by decide) ?_
              refine ae_icmp_ne (pc := 55) (t := 60) dX11_fault_55 (by decide) (fun c55 => ?_) (fun c55 => ?_)
              rotate_left
              · exact absurd (Classical.not_not.mp c55) hne
              refine ae_aload_n (pc := 60) dX11_fault_60 rfl ?_
              refine ae_getR (pc := 61) (k := 33) (c := 11) (j := 13) (q := 44) dX11_fault_61 rfl rfl (Nat.le_of_ble_eq_true rfl) rfl (Nat.le_of_ble_eq_true rfl) rfl ?_
              refine ae_aload_n (pc := 64) dX11_fault_64 rfl ?_
              refine ae_getI (pc := 65) (k := 33) (c := 11) (j := 14) (v := nI r) dX11_fault_65 rfl rfl (Or.inl rfl) (Nat.le_of_ble_eq_true rfl) rfl (Nat.le_of_ble_eq_true rfl) (e14 _ _ _) ?_
              refine ae_iload_n (pc := 68) dX11_fault_68 rfl ?_
              refine ae_aload_n (pc := 69) dX11_fault_69 rfl ?_
              refine ae_getI (pc := 70) (k := 33) (c := 11) (j := 4) (v := nI n) dX11_fault_70 rfl rfl (Or.inl rfl) (Nat.le_of_ble_eq_true rfl) rfl (Nat.le_of_ble_eq_true rfl) (e33 _ _ _) ?_
              refine ae_icmp_ge (pc := 73) (t := 91) dX11_fault_73 (by decide) (fun c73 => ?_) (fun c73 => ?_)
              · refine ae_iconst (pc := 91) (v := nI 0) dX11_fault_91 (by decide) ?_
                refine ae_iastore (pc := 92) (k := 44) (N := 16) _ dX11_fault_92 (Nat.le_of_ble_eq_true rfl) rfl rfl rfl (by omega) rfl ?_
                refine ae_M (flM_l _ _ _ _ _) ?_
                refine ae_iload_n (pc := 93) dX11_fault_93 rfl ?_
                refine ae_aload_n (pc := 94) dX11_fault_94 rfl ?_
                refine ae_getR (pc := 95) (k := 33) (c := 11) (j := 13) (q := 44) dX11_fault_95 rfl rfl (Nat.le_of_ble_eq_true rfl) rfl (Nat.le_of_ble_eq_true rfl) rfl ?_
                refine ae_aload_n (pc := 98) dX11_fault_98 rfl ?_
                refine ae_getI (pc := 99) (k := 33) (c := 11) (j := 14) (v := nI r) dX11_fault_99 rfl rfl (Or.inl rfl) (Nat.le_of_ble_eq_true rfl) rfl (Nat.le_of_ble_eq_true rfl) (e14 _ _ _) ?_
                refine ae_iaload (pc := 102) (k := 44) (N := 16) (v := nI 0) _ dX11_fault_102 (Nat.le_of_ble_eq_true rfl) rfl rfl rfl (by omega) (by rw [flM_44, flM_44, upd_self]) ?_
                refine ae_iadd (pc := 103) (v := nI (i + 1 + dgN (M.1 36) n (i + 1) 6)) dX11_fault_103 (by rw [nI_add, Nat.add_zero]) ?_
                refine ae_istore_n (pc := 104) dX11_fault_104 rfl (Nat.le_of_ble_eq_true rfl) ?_
                refine ae_aload_n (pc := 105) dX11_fault_105 rfl ?_
                refine ae_dup (pc := 106) dX11_fault_106 rfl ?_
                refine ae_getI (pc := 107) (k := 33) (c := 11) (j := 14) (v := nI r) dX11_fault_107 rfl rfl (Or.inl rfl) (Nat.le_of_ble_eq_true rfl) rfl (Nat.le_of_ble_eq_true rfl) (e14 _ _ _) ?_
                refine ae_iconst (pc := 110) (v := nI 1) dX11_fault_110 (by decide) ?_
                refine ae_iadd (pc := 111) (v := nI (r + 1)) dX11_fault_111 (nI_add r 1) ?_
                refine ae_putfield (pc := 112) (k := 33) (c := 11) (j := 14) dX11_fault_112 rfl rfl (Nat.le_of_ble_eq_true rfl) rfl (Nat.le_of_ble_eq_true rfl) rfl rfl ?_
                refine ae_M (flM_r _ _ _ _ _) ?_
                refine ae_goto (pc := 115) (t := 138) dX11_fault_115 (by decide) ?_
                refine ae_goto (pc := 138) (t := 7) dX11_fault_138 (by decide) ?_
                refine ae_forget [2] rfl ?_
                rw [flM_44]
                exact ih (i + 1 + dgN (M.1 36) n (i + 1) 6) (r + 1) (upd rc r (rdC (M.1 36) n (i + 1))) (upd rl r (nI 0)) (by omega) (by omega) (by omega)
              · rw [nI_leI (by omega) (by omega)] at c73
                refine ae_aload_n (pc := 76) dX11_fault_76 rfl ?_
                refine ae_getR (pc := 77) (k := 33) (c := 11) (j := 3) (q := 36) dX11_fault_77 rfl rfl (Nat.le_of_ble_eq_true rfl) rfl (Nat.le_of_ble_eq_true rfl) rfl ?_
                refine ae_iload_n (pc := 80) dX11_fault_80 rfl ?_
                refine ae_iaload (pc := 81) (k := 36) (N := 140) (v := M.1 36 (i + 1 + dgN (M.1 36) n (i + 1) 6)) _ dX11_fault_81 (Nat.le_of_ble_eq_true rfl) rfl rfl rfl (by omega) (by rw [e36]) ?_
                refine ae_bipush (pc := 82) (v := nI 33) dX11_fault_82 (by decide) ?_
                refine ae_icmp_ne (pc := 84) (t := 91) dX11_fault_84 (by decide) (fun c84 => ?_) (fun c84 => ?_)
                rotate_left
                · exact absurd ⟨by omega, Classical.not_not.mp c84⟩ hx
                refine ae_iconst (pc := 91) (v := nI 0) dX11_fault_91 (by decide) ?_
                refine ae_iastore (pc := 92) (k := 44) (N := 16) _ dX11_fault_92 (Nat.le_of_ble_eq_true rfl) rfl rfl rfl (by omega) rfl ?_
                refine ae_M (flM_l _ _ _ _ _) ?_
                refine ae_iload_n (pc := 93) dX11_fault_93 rfl ?_
                refine ae_aload_n (pc := 94) dX11_fault_94 rfl ?_
                refine ae_getR (pc := 95) (k := 33) (c := 11) (j := 13) (q := 44) dX11_fault_95 rfl rfl (Nat.le_of_ble_eq_true rfl) rfl (Nat.le_of_ble_eq_true rfl) rfl ?_
                refine ae_aload_n (pc := 98) dX11_fault_98 rfl ?_
                refine ae_getI (pc := 99) (k := 33) (c := 11) (j := 14) (v := nI r) dX11_fault_99 rfl rfl (Or.inl rfl) (Nat.le_of_ble_eq_true rfl) rfl (Nat.le_of_ble_eq_true rfl) (e14 _ _ _) ?_
                refine ae_iaload (pc := 102) (k := 44) (N := 16) (v := nI 0) _ dX11_fault_102 (Nat.le_of_ble_eq_true rfl) rfl rfl rfl (by omega) (by rw [flM_44, flM_44, upd_self]) ?_
                refine ae_iadd (pc := 103) (v := nI (i + 1 + dgN (M.1 36) n (i + 1) 6)) dX11_fault_103 (by rw [nI_add, Nat.add_zero]) ?_
                refine ae_istore_n (pc := 104) dX11_fault_104 rfl (Nat.le_of_ble_eq_true rfl) ?_
                refine ae_aload_n (pc := 105) dX11_fault_105 rfl ?_
                refine ae_dup (pc := 106) dX11_fault_106 rfl ?_
                refine ae_getI (pc := 107) (k := 33) (c := 11) (j := 14) (v := nI r) dX11_fault_107 rfl rfl (Or.inl rfl) (Nat.le_of_ble_eq_true rfl) rfl (Nat.le_of_ble_eq_true rfl) (e14 _ _ _) ?_
                refine ae_iconst (pc := 110) (v := nI 1) dX11_fault_110 (by decide) ?_
                refine ae_iadd (pc := 111) (v := nI (r + 1)) dX11_fault_111 (nI_add r 1) ?_
                refine ae_putfield (pc := 112) (k := 33) (c := 11) (j := 14) dX11_fault_112 rfl rfl (Nat.le_of_ble_eq_true rfl) rfl (Nat.le_of_ble_eq_true rfl) rfl rfl ?_
                refine ae_M (flM_r _ _ _ _ _) ?_
                refine ae_goto (pc := 115) (t := 138) dX11_fault_115 (by decide) ?_
                refine ae_goto (pc := 138) (t := 7) dX11_fault_138 (by decide) ?_
                refine ae_forget [2] rfl ?_
                rw [flM_44]
                exact ih (i + 1 + dgN (M.1 36) n (i + 1) 6) (r + 1) (upd rc r (rdC (M.1 36) n (i + 1))) (upd rl r (nI 0)) (by omega) (by omega) (by omega)
        · by_cases hb : M.1 36 i = nI 32 ∨ M.1 36 i = nI 44
          · have ep : prs (M.1 36) n (m + 1) i r rc rl = prs (M.1 36) n m (i + 1) r rc rl := by rw [prs, if_neg c12, if_neg hc, if_pos hb]
            rw [ep]
            refine ae_aload_n (pc := 15) dX11_fault_15 rfl ?_
            refine ae_getR (pc := 16) (k := 33) (c := 11) (j := 3) (q := 36) dX11_fault_16 rfl rfl (Nat.le_of_ble_eq_true rfl) rfl (Nat.le_of_ble_eq_true rfl) rfl ?_
            refine ae_iload_n (pc := 19) dX11_fault_19 rfl ?_
            refine ae_iaload (pc := 20) (k := 36) (N := 140) (v := M.1 36 i) _ dX11_fault_20 (Nat.le_of_ble_eq_true rfl) rfl rfl rfl (by omega) (by rw [e36]) ?_
            refine ae_istore_n (pc := 21) dX11_fault_21 rfl (Nat.le_of_ble_eq_true rfl) ?_
            refine ae_iload_n (pc := 22) dX11_fault_22 rfl ?_
            refine ae_bipush (pc := 23) (v := nI 35) dX11_fault_23 (by decide) ?_
            refine ae_icmp_ne (pc := 25) (t := 118) dX11_fault_25 (by decide) (fun c25 => ?_) (fun c25 => ?_)
            · refine ae_iload_n (pc := 118) dX11_fault_118 rfl ?_
              refine ae_bipush (pc := 119) (v := nI 32) dX11_fault_119 (by decide) ?_
              refine ae_icmp_eq (pc := 121) (t := 130) dX11_fault_121 (by decide) (fun c121 => ?_) (fun c121 => ?_)
              · refine ae_iinc (pc := 130) (v := nI (i + 1)) dX11_fault_130 rfl (nI_inc i) ?_
                refine ae_goto (pc := 133) (t := 138) dX11_fault_133 (by decide) ?_
                refine ae_goto (pc := 138) (t := 7) dX11_fault_138 (by decide) ?_
                exact ae_forget [2] rfl (ih (i + 1) r rc rl (by omega) (by omega) (by omega))
              · refine ae_iload_n (pc := 124) dX11_fault_124 rfl ?_
                refine ae_bipush (pc := 125) (v := nI 44) dX11_fault_125 (by decide) ?_
                refine ae_icmp_ne (pc := 127) (t := 136) dX11_fault_127 (by decide) (fun c127 => ?_) (fun c127 => ?_)
                · exact absurd hb (fun q => q.elim c121 c127)
                refine ae_iinc (pc := 130) (v := nI (i + 1)) dX11_fault_130 rfl (nI_inc i) ?_
                refine ae_goto (pc := 133) (t := 138) dX11_fault_133 (by decide) ?_
                refine ae_goto (pc := 138) (t := 7) dX11_fault_138 (by decide) ?_
                exact ae_forget [2] rfl (ih (i + 1) r rc rl (by omega) (by omega) (by omega))
            · refine ae_aload_n (pc := 28) dX11_fault_28 rfl ?_
              refine ae_getI (pc := 29) (k := 33) (c := 11) (j := 14) (v := nI r) dX11_fault_29 rfl rfl (Or.inl rfl) (Nat.le_of_ble_eq_true rfl) rfl (Nat.le_of_ble_eq_true rfl) (e14 _ _ _) ?_
              refine ae_bipush (pc := 32) (v := nI 16) dX11_fault_32 (by decide) ?_
              refine ae_icmp_ge (pc := 34) (t := 118) dX11_fault_34 (by decide) (fun c34 => ?_) (fun c34 => ?_)
              rotate_left
              · exact absurd ⟨Classical.not_not.mp c25, by rw [nI_leI (by omega) (by omega)] at c34; omega⟩ hc
              refine ae_iload_n (pc := 118) dX11_fault_118 rfl ?_
              refine ae_bipush (pc := 119) (v := nI 32) dX11_fault_119 (by decide) ?_
              refine ae_icmp_eq (pc := 121) (t := 130) dX11_fault_121 (by decide) (fun c121 => ?_) (fun c121 => ?_)
              · refine ae_iinc (pc := 130) (v := nI (i + 1)) dX11_fault_130 rfl (nI_inc i) ?_
                refine ae_goto (pc := 133) (t := 138) dX11_fault_133 (by decide) ?_
                refine ae_goto (pc := 138) (t := 7) dX11_fault_138 (by decide) ?_
                exact ae_forget [2] rfl (ih (i + 1) r rc rl (by omega) (by omega) (by omega))
              · refine ae_iload_n (pc := 124) dX11_fault_124 rfl ?_
                refine ae_bipush (pc := 125) (v := nI 44) dX11_fault_125 (by decide) ?_
                refine ae_icmp_ne (pc := 127) (t := 136) dX11_fault_127 (by decide) (fun c127 => ?_) (fun c127 => ?_)
                · exact absurd hb (fun q => q.elim c121 c127)
                refine ae_iinc (pc := 130) (v := nI (i + 1)) dX11_fault_130 rfl (nI_inc i) ?_
                refine ae_goto (pc := 133) (t := 138) dX11_fault_133 (by decide) ?_
                refine ae_goto (pc := 138) (t := 7) dX11_fault_138 (by decide) ?_
                exact ae_forget [2] rfl (ih (i + 1) r rc rl (by omega) (by omega) (by omega))
          · have ep : prs (M.1 36) n (m + 1) i r rc rl = (nI i, r, rc, rl) := by rw [prs, if_neg c12, if_neg hc, if_neg hb]
            rw [ep]
            refine ae_aload_n (pc := 15) dX11_fault_15 rfl ?_
            refine ae_getR (pc := 16) (k := 33) (c := 11) (j := 3) (q := 36) dX11_fault_16 rfl rfl (Nat.le_of_ble_eq_true rfl) rfl (Nat.le_of_ble_eq_true rfl) rfl ?_
            refine ae_iload_n (pc := 19) dX11_fault_19 rfl ?_
            refine ae_iaload (pc := 20) (k := 36) (N := 140) (v := M.1 36 i) _ dX11_fault_20 (Nat.le_of_ble_eq_true rfl) rfl rfl rfl (by omega) (by rw [e36]) ?_
            refine ae_istore_n (pc := 21) dX11_fault_21 rfl (Nat.le_of_ble_eq_true rfl) ?_
            refine ae_iload_n (pc := 22) dX11_fault_22 rfl ?_
            refine ae_bipush (pc := 23) (v := nI 35) dX11_fault_23 (by decide) ?_
            refine ae_icmp_ne (pc := 25) (t := 118) dX11_fault_25 (by decide) (fun c25 => ?_) (fun c25 => ?_)
            · refine ae_iload_n (pc := 118) dX11_fault_118 rfl ?_
              refine ae_bipush (pc := 119) (v := nI 32) dX11_fault_119 (by decide) ?_
              refine ae_icmp_eq (pc := 121) (t := 130) dX11_fault_121 (by decide) (fun c121 => ?_) (fun c121 => ?_)
              · first | exact absurd (Or.inl c121) hb | exact absurd (Or.inr (Classical.not_not.mp c127)) hb
              · refine ae_iload_n (pc := 124) dX11_fault_124 rfl ?_
                refine ae_bipush (pc := 125) (v := nI 44) dX11_fault_125 (by decide) ?_
                refine ae_icmp_ne (pc := 127) (t := 136) dX11_fault_127 (by decide) (fun c127 => ?_) (fun c127 => ?_)
                · refine ae_iload_n (pc := 136) dX11_fault_136 rfl ?_
                  refine ae_ireturn (pc := 137) dX11_fault_137 rfl ?_
                  exact ⟨rfl, rfl⟩
                · first | exact absurd (Or.inl c121) hb | exact absurd (Or.inr (Classical.not_not.mp c127)) hb
            · refine ae_aload_n (pc := 28) dX11_fault_28 rfl ?_
              refine ae_getI (pc := 29) (k := 33) (c := 11) (j := 14) (v := nI r) dX11_fault_29 rfl rfl (Or.inl rfl) (Nat.le_of_ble_eq_true rfl) rfl (Nat.le_of_ble_eq_true rfl) (e14 _ _ _) ?_
              refine ae_bipush (pc := 32) (v := nI 16) dX11_fault_32 (by decide) ?_
              refine ae_icmp_ge (pc := 34) (t := 118) dX11_fault_34 (by decide) (fun c34 => ?_) (fun c34 => ?_)
              rotate_left
              · exact absurd ⟨Classical.not_not.mp c25, by rw [nI_leI (by omega) (by omega)] at c34; omega⟩ hc
              refine ae_iload_n (pc := 118) dX11_fault_118 rfl ?_
              refine ae_bipush (pc := 119) (v := nI 32) dX11_fault_119 (by decide) ?_
              refine ae_icmp_eq (pc := 121) (t := 130) dX11_fault_121 (by decide) (fun c121 => ?_) (fun c121 => ?_)
              · first | exact absurd (Or.inl c121) hb | exact absurd (Or.inr (Classical.not_not.mp c127)) hb
              · refine ae_iload_n (pc := 124) dX11_fault_124 rfl ?_
                refine ae_bipush (pc := 125) (v := nI 44) dX11_fault_125 (by decide) ?_
                refine ae_icmp_ne (pc := 127) (t := 136) dX11_fault_127 (by decide) (fun c127 => ?_) (fun c127 => ?_)
                · refine ae_iload_n (pc := 136) dX11_fault_136 rfl ?_
                  refine ae_ireturn (pc := 137) dX11_fault_137 rfl ?_
                  exact ⟨rfl, rfl⟩
                · first | exact absurd (Or.inl c121) hb | exact absurd (Or.inr (Classical.not_not.mp c127)) hb
  refine ae_aload_n (pc := 0) dX11_fault_0 rfl ?_
  refine ae_iconst (pc := 1) (v := nI 0) dX11_fault_1 (by decide) ?_
  refine ae_putfield (pc := 2) (k := 33) (c := 11) (j := 14) dX11_fault_2 rfl rfl (Nat.le_of_ble_eq_true rfl) rfl (Nat.le_of_ble_eq_true rfl) rfl rfl ?_
  refine ae_iconst (pc := 5) (v := nI 0) dX11_fault_5 (by decide) ?_
  refine ae_istore_n (pc := 6) dX11_fault_6 rfl (Nat.le_of_ble_eq_true rfl) ?_
  skip
  refine ae_M (M' := flM M 0 (M.1 43) (M.1 44)) ?_ (key n 0 0 _ _ (by omega) (by omega) (by omega))
  refine Prod.ext (funext fun q => ?_) rfl
  simp only [flM, am_u]
  by_cases h4 : q = 44 <;> by_cases h3 : q = 43 <;> by_cases h33 : q = 33 <;> simp_all

