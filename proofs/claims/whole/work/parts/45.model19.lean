theorem sm_bestAddition0 (d : Nat) (M : am_M) (hf : wf0 (M.1 34)) (hz : fN (M.1 34) = 0) : am_R (d + 1) zX11_bestAddition [.ref 33] M (fun v M' => v = some (.int (-3)) ∧ M' = M) := by
  refine ae_enter (z := zX11_bestAddition) (y := yX11_bestAddition) (cc := cX11_bestAddition) (mL := 6) (rt := some .int) (ci := 11) (st := false) (np := 0) (L := [some (.ref 33), none, none, none, none, none]) rfl (by decide) (Nat.le_of_ble_eq_true rfl) rfl ?_
  have h0 : M.1 34 258 = 0 := by rw [hf.2.2.1, hz]; rfl
  refine ae_aload_n (pc := 0) dX11_bestAddition_0 rfl ?_
  refine ae_getR (pc := 1) (k := 33) (c := 11) (j := 0) (q := 34) dX11_bestAddition_1 rfl rfl (Nat.le_of_ble_eq_true rfl) rfl (Nat.le_of_ble_eq_true rfl) rfl ?_
  refine ae_sipush (pc := 4) (v := nI 258) dX11_bestAddition_4 (by decide) ?_
  refine ae_iaload (pc := 7) (k := 34) (N := 549) _ dX11_bestAddition_7 (Nat.le_of_ble_eq_true rfl) rfl rfl rfl (by omega) rfl ?_
  refine ae_if_ne (pc := 8) (t := 14) dX11_bestAddition_8 (by decide) (fun c8 => ?_) (fun c8 => ?_)
  · exact absurd h0 c8
  refine ae_bipush (pc := 11) (v := (-3)) dX11_bestAddition_11 (by decide) ?_
  refine ae_ireturn (pc := 13) dX11_bestAddition_13 rfl ?_
  exact ⟨rfl, rfl⟩
theorem sm_bestAddition (d : Nat) (M : am_M) (hf : wf0 (M.1 34)) (hz : 0 < fN (M.1 34)) : am_R (d + 6) zX11_bestAddition [.ref 33] M (fun v M' => ∃ n h m, GA (M.1 34) (exF (M.1 34) (nI 0)) (fA (M.1 34)) n h m ∧ v = some (.int (bda (M.1 34) h n).1) ∧ M' = gaM M n h m) := by
  refine ae_enter (z := zX11_bestAddition) (y := yX11_bestAddition) (cc := cX11_bestAddition) (mL := 6) (rt := some .int) (ci := 11) (st := false) (np := 0) (L := [some (.ref 33), none, none, none, none, none]) rfl (by decide) (Nat.le_of_ble_eq_true rfl) rfl ?_
  have hA := fA_le hf
  have h0 : ¬ M.1 34 258 = 0 := by rw [hf.2.2.1]; exact nI_ne0 (by omega) (by have := hf.2.2.2; omega)
  refine ae_aload_n (pc := 0) dX11_bestAddition_0 rfl ?_
  refine ae_getR (pc := 1) (k := 33) (c := 11) (j := 0) (q := 34) dX11_bestAddition_1 rfl rfl (Nat.le_of_ble_eq_true rfl) rfl (Nat.le_of_ble_eq_true rfl) rfl ?_
  refine ae_sipush (pc := 4) (v := nI 258) dX11_bestAddition_4 (by decide) ?_
  refine ae_iaload (pc := 7) (k := 34) (N := 549) _ dX11_bestAddition_7 (Nat.le_of_ble_eq_true rfl) rfl rfl rfl (by omega) rfl ?_
  refine ae_if_ne (pc := 8) (t := 14) dX11_bestAddition_8 (by decide) (fun c8 => ?_) (fun c8 => ?_)
  rotate_left
  · exact absurd (Classical.not_not.mp c8) h0
  refine ae_aload_n (pc := 14) dX11_bestAddition_14 rfl ?_
  refine ae_iconst (pc := 15) (v := nI 0) dX11_bestAddition_15 (by decide) ?_
  skip
  refine ae_callV (pc := 16) (z := zX11_gathers) (k := 33) (As := [_]) dX11_bestAddition_16 rfl rfl rfl rfl (Nat.le_of_ble_eq_true rfl) rfl (Nat.le_of_ble_eq_true rfl) (Nat.le_of_ble_eq_true rfl) (sm_gathers (d + 2) M hf _) (fun v M' hq => ?_)
  obtain ⟨rfl, n, h, m, g, rfl⟩ := hq
  have hn := g.1
  have e34 : (gaM M n h m).1 34 = M.1 34 := gaM_ne M n h m (by decide)
  refine ae_iconst (pc := 19) (v := (-1)) dX11_bestAddition_19 (by decide) ?_
  refine ae_istore_n (pc := 20) dX11_bestAddition_20 rfl (Nat.le_of_ble_eq_true rfl) ?_
  refine ae_iconst (pc := 21) (v := nI 0) dX11_bestAddition_21 (by decide) ?_
  refine ae_istore_n (pc := 22) dX11_bestAddition_22 rfl (Nat.le_of_ble_eq_true rfl) ?_
  refine ae_iconst (pc := 23) (v := nI 0) dX11_bestAddition_23 (by decide) ?_
  refine ae_istore_n (pc := 24) dX11_bestAddition_24 rfl (Nat.le_of_ble_eq_true rfl) ?_
  skip
  refine am_down (P := fun k => am_E none (am_R (d + 5)) cX11_bestAddition 11 (some .int) _ (25, [some (.ref 33), some (.int (bda (M.1 34) h k).1), some (.int (bda (M.1 34) h k).2), some (.int (nI k)), none, none], [], gaM M n h m)) n (fun k hk ih => ?_)
  refine ae_iload_n (pc := 25) dX11_bestAddition_25 rfl ?_
  refine ae_aload_n (pc := 26) dX11_bestAddition_26 rfl ?_
  refine ae_getI (pc := 27) (k := 33) (c := 11) (j := 7) (v := nI n) dX11_bestAddition_27 rfl rfl (Or.inl rfl) (Nat.le_of_ble_eq_true rfl) rfl (Nat.le_of_ble_eq_true rfl) (gaM_7 _ _ _ _) ?_
  refine ae_icmp_ge (pc := 30) (t := 113) dX11_bestAddition_30 (by decide) (fun c30 => ?_) (fun c30 => ?_)
  · have hk2 : k = n := by rw [nI_leI (by omega) (by omega)] at c30; omega
    subst hk2
    refine ae_iload_n (pc := 113) dX11_bestAddition_113 rfl ?_
    refine ae_ireturn (pc := 114) dX11_bestAddition_114 rfl ?_
    exact ⟨k, h, m, g, rfl, rfl⟩
  · have hk2 : k < n := by rw [nI_leI (by omega) (by omega)] at c30; omega
    have hga := sm_gainOf d (gaM M n h m) (by rw [e34]; exact hf) (by rw [e34]; exact hz) (h k)
    rw [e34] at hga
    have ih2 := ih hk2
    rw [bda_s] at ih2
    refine ae_aload_n (pc := 33) dX11_bestAddition_33 rfl ?_
    refine ae_aload_n (pc := 34) dX11_bestAddition_34 rfl ?_
    refine ae_getR (pc := 35) (k := 33) (c := 11) (j := 5) (q := 37) dX11_bestAddition_35 rfl rfl (Nat.le_of_ble_eq_true rfl) rfl (Nat.le_of_ble_eq_true rfl) rfl ?_
    refine ae_iload_n (pc := 38) dX11_bestAddition_38 rfl ?_
    refine ae_iaload (pc := 39) (k := 37) (N := 256) (v := h k) _ dX11_bestAddition_39 (Nat.le_of_ble_eq_true rfl) rfl rfl rfl (by omega) (by rw [gaM_37]) ?_
    refine ae_pcallV (pc := 40) (z := zX11_gainOf) (k := 33) (As := [_]) dX11_bestAddition_40 rfl rfl rfl rfl (Nat.le_of_ble_eq_true rfl) rfl (Nat.le_of_ble_eq_true rfl) (Nat.le_of_ble_eq_true rfl) (hga) ?_
    refine ae_istore (pc := 43) dX11_bestAddition_43 rfl (Nat.le_of_ble_eq_true rfl) ?_
    refine ae_iload_n (pc := 45) dX11_bestAddition_45 rfl ?_
    refine ae_iconst (pc := 46) (v := (-1)) dX11_bestAddition_46 (by decide) ?_
    refine ae_icmp_eq (pc := 47) (t := 72) dX11_bestAddition_47 (by decide) (fun c47 => ?_) (fun c47 => ?_)
    · refine ae_iconst (pc := 72) (v := nI 1) dX11_bestAddition_72 (by decide) ?_
      refine ae_goto (pc := 73) (t := 77) dX11_bestAddition_73 (by decide) ?_
      refine ae_istore (pc := 77) dX11_bestAddition_77 rfl (Nat.le_of_ble_eq_true rfl) ?_
      refine ae_iload (pc := 79) dX11_bestAddition_79 rfl ?_
      refine ae_if_eq (pc := 81) (t := 93) dX11_bestAddition_81 (by decide) (fun q => absurd q (by decide)) (fun _ => ?_)
      refine ae_aload_n (pc := 84) dX11_bestAddition_84 rfl ?_
      refine ae_getR (pc := 85) (k := 33) (c := 11) (j := 5) (q := 37) dX11_bestAddition_85 rfl rfl (Nat.le_of_ble_eq_true rfl) rfl (Nat.le_of_ble_eq_true rfl) rfl ?_
      refine ae_iload_n (pc := 88) dX11_bestAddition_88 rfl ?_
      refine ae_iaload (pc := 89) (k := 37) (N := 256) (v := h k) _ dX11_bestAddition_89 (Nat.le_of_ble_eq_true rfl) rfl rfl rfl (by omega) (by rw [gaM_37]) ?_
      refine ae_goto (pc := 90) (t := 94) dX11_bestAddition_90 (by decide) ?_
      refine ae_istore_n (pc := 94) dX11_bestAddition_94 rfl (Nat.le_of_ble_eq_true rfl) ?_
      refine ae_iload (pc := 95) dX11_bestAddition_95 rfl ?_
      refine ae_if_eq (pc := 97) (t := 105) dX11_bestAddition_97 (by decide) (fun q => absurd q (by decide)) (fun _ => ?_)
      refine ae_iload (pc := 100) dX11_bestAddition_100 rfl ?_
      refine ae_goto (pc := 102) (t := 106) dX11_bestAddition_102 (by decide) ?_
      refine ae_istore_n (pc := 106) dX11_bestAddition_106 rfl (Nat.le_of_ble_eq_true rfl) ?_
      refine ae_iinc (pc := 107) (v := nI (k + 1)) dX11_bestAddition_107 rfl (nI_inc k) ?_
      refine ae_goto (pc := 110) (t := 25) dX11_bestAddition_110 (by decide) ?_
      refine ae_forget [4, 5] rfl ?_
      first | (rw [if_pos (Or.inl c47)] at ih2; exact ih2) | (rw [if_pos (Or.inr (Or.inl c53))] at ih2; exact ih2) | (rw [if_pos (Or.inr (Or.inr (And.intro (Classical.not_not.mp c59) (Int32.not_le.mp c69))))] at ih2; exact ih2) | (rw [if_neg (fun q => q.elim c47 (fun q => q.elim c53 (fun q => by first | exact c59 q.1 | exact Int32.not_lt.mpr c69 q.2)))] at ih2; exact ih2)
    · refine ae_iload (pc := 50) dX11_bestAddition_50 rfl ?_
      refine ae_iload_n (pc := 52) dX11_bestAddition_52 rfl ?_
      refine ae_icmp_gt (pc := 53) (t := 72) dX11_bestAddition_53 (by decide) (fun c53 => ?_) (fun c53 => ?_)
      · refine ae_iconst (pc := 72) (v := nI 1) dX11_bestAddition_72 (by decide) ?_
        refine ae_goto (pc := 73) (t := 77) dX11_bestAddition_73 (by decide) ?_
        refine ae_istore (pc := 77) dX11_bestAddition_77 rfl (Nat.le_of_ble_eq_true rfl) ?_
        refine ae_iload (pc := 79) dX11_bestAddition_79 rfl ?_
        refine ae_if_eq (pc := 81) (t := 93) dX11_bestAddition_81 (by decide) (fun q => absurd q (by decide)) (fun _ => ?_)
        refine ae_aload_n (pc := 84) dX11_bestAddition_84 rfl ?_
        refine ae_getR (pc := 85) (k := 33) (c := 11) (j := 5) (q := 37) dX11_bestAddition_85 rfl rfl (Nat.le_of_ble_eq_true rfl) rfl (Nat.le_of_ble_eq_true rfl) rfl ?_
        refine ae_iload_n (pc := 88) dX11_bestAddition_88 rfl ?_
        refine ae_iaload (pc := 89) (k := 37) (N := 256) (v := h k) _ dX11_bestAddition_89 (Nat.le_of_ble_eq_true rfl) rfl rfl rfl (by omega) (by rw [gaM_37]) ?_
        refine ae_goto (pc := 90) (t := 94) dX11_bestAddition_90 (by decide) ?_
        refine ae_istore_n (pc := 94) dX11_bestAddition_94 rfl (Nat.le_of_ble_eq_true rfl) ?_
        refine ae_iload (pc := 95) dX11_bestAddition_95 rfl ?_
        refine ae_if_eq (pc := 97) (t := 105) dX11_bestAddition_97 (by decide) (fun q => absurd q (by decide)) (fun _ => ?_)
        refine ae_iload (pc := 100) dX11_bestAddition_100 rfl ?_
        refine ae_goto (pc := 102) (t := 106) dX11_bestAddition_102 (by decide) ?_
        refine ae_istore_n (pc := 106) dX11_bestAddition_106 rfl (Nat.le_of_ble_eq_true rfl) ?_
        refine ae_iinc (pc := 107) (v := nI (k + 1)) dX11_bestAddition_107 rfl (nI_inc k) ?_
        refine ae_goto (pc := 110) (t := 25) dX11_bestAddition_110 (by decide) ?_
        refine ae_forget [4, 5] rfl ?_
        first | (rw [if_pos (Or.inl c47)] at ih2; exact ih2) | (rw [if_pos (Or.inr (Or.inl c53))] at ih2; exact ih2) | (rw [if_pos (Or.inr (Or.inr (And.intro (Classical.not_not.mp c59) (Int32.not_le.mp c69))))] at ih2; exact ih2) | (rw [if_neg (fun q => q.elim c47 (fun q => q.elim c53 (fun q => by first | exact c59 q.1 | exact Int32.not_lt.mpr c69 q.2)))] at ih2; exact ih2)
      · refine ae_iload (pc := 56) dX11_bestAddition_56 rfl ?_
        refine ae_iload_n (pc := 58) dX11_bestAddition_58 rfl ?_
        refine ae_icmp_ne (pc := 59) (t := 76) dX11_bestAddition_59 (by decide) (fun c59 => ?_) (fun c59 => ?_)
        · refine ae_iconst (pc := 76) (v := nI 0) dX11_bestAddition_76 (by decide) ?_
          refine ae_istore (pc := 77) dX11_bestAddition_77 rfl (Nat.le_of_ble_eq_true rfl) ?_
          refine ae_iload (pc := 79) dX11_bestAddition_79 rfl ?_
          refine ae_if_eq (pc := 81) (t := 93) dX11_bestAddition_81 (by decide) (fun _ => ?_) (fun q => absurd (by decide) q)
          refine ae_iload_n (pc := 93) dX11_bestAddition_93 rfl ?_
          refine ae_istore_n (pc := 94) dX11_bestAddition_94 rfl (Nat.le_of_ble_eq_true rfl) ?_
          refine ae_iload (pc := 95) dX11_bestAddition_95 rfl ?_
          refine ae_if_eq (pc := 97) (t := 105) dX11_bestAddition_97 (by decide) (fun _ => ?_) (fun q => absurd (by decide) q)
          refine ae_iload_n (pc := 105) dX11_bestAddition_105 rfl ?_
          refine ae_istore_n (pc := 106) dX11_bestAddition_106 rfl (Nat.le_of_ble_eq_true rfl) ?_
          refine ae_iinc (pc := 107) (v := nI (k + 1)) dX11_bestAddition_107 rfl (nI_inc k) ?_
          refine ae_goto (pc := 110) (t := 25) dX11_bestAddition_110 (by decide) ?_
          refine ae_forget [4, 5] rfl ?_
          first | (rw [if_pos (Or.inl c47)] at ih2; exact ih2) | (rw [if_pos (Or.inr (Or.inl c53))] at ih2; exact ih2) | (rw [if_pos (Or.inr (Or.inr (And.intro (Classical.not_not.mp c59) (Int32.not_le.mp c69))))] at ih2; exact ih2) | (rw [if_neg (fun q => q.elim c47 (fun q => q.elim c53 (fun q => by first | exact c59 q.1 | exact Int32.not_lt.mpr c69 q.2)))] at ih2; exact ih2)
        · refine ae_aload_n (pc := 62) dX11_bestAddition_62 rfl ?_
          refine ae_getR (pc := 63) (k := 33) (c := 11) (j := 5) (q := 37) dX11_bestAddition_63 rfl rfl (Nat.le_of_ble_eq_true rfl) rfl (Nat.le_of_ble_eq_true rfl) rfl ?_
          refine ae_iload_n (pc := 66) dX11_bestAddition_66 rfl ?_
          refine ae_iaload (pc := 67) (k := 37) (N := 256) (v := h k) _ dX11_bestAddition_67 (Nat.le_of_ble_eq_true rfl) rfl rfl rfl (by omega) (by rw [gaM_37]) ?_
          refine ae_iload_n (pc := 68) dX11_bestAddition_68 rfl ?_
          refine ae_icmp_ge (pc := 69) (t := 76) dX11_bestAddition_69 (by decide) (fun c69 => ?_) (fun c69 => ?_)
          · refine ae_iconst (pc := 76) (v := nI 0) dX11_bestAddition_76 (by decide) ?_
            refine ae_istore (pc := 77) dX11_bestAddition_77 rfl (Nat.le_of_ble_eq_true rfl) ?_
            refine ae_iload (pc := 79) dX11_bestAddition_79 rfl ?_
            refine ae_if_eq (pc := 81) (t := 93) dX11_bestAddition_81 (by decide) (fun _ => ?_) (fun q => absurd (by decide) q)
            refine ae_iload_n (pc := 93) dX11_bestAddition_93 rfl ?_
            refine ae_istore_n (pc := 94) dX11_bestAddition_94 rfl (Nat.le_of_ble_eq_true rfl) ?_
            refine ae_iload (pc := 95) dX11_bestAddition_95 rfl ?_
            refine ae_if_eq (pc := 97) (t := 105) dX11_bestAddition_97 (by decide) (fun _ => ?_) (fun q => absurd (by decide) q)
            refine ae_iload_n (pc := 105) dX11_bestAddition_105 rfl ?_
            refine ae_istore_n (pc := 106) dX11_bestAddition_106 rfl (Nat.le_of_ble_eq_true rfl) ?_
            refine ae_iinc (pc := 107) (v := nI (k + 1)) dX11_bestAddition_107 rfl (nI_inc k) ?_
            refine ae_goto (pc := 110) (t := 25) dX11_bestAddition_110 (by decide) ?_
            refine ae_forget [4, 5] rfl ?_
            first | (rw [if_pos (Or.inl c47)] at ih2; exact ih2) | (rw [if_pos (Or.inr (Or.inl c53))] at ih2; exact ih2) | (rw [if_pos (Or.inr (Or.inr (And.intro (Classical.not_not.mp c59) (Int32.not_le.mp c69))))] at ih2; exact ih2) | (rw [if_neg (fun q => q.elim c47 (fun q => q.elim c53 (fun q => by first | exact c59 q.1 | exact Int32.not_lt.mpr c69 q.2)))] at ih2; exact ih2)
          · refine ae_iconst (pc := 72) (v := nI 1) dX11_bestAddition_72 (by decide) ?_
            refine ae_goto (pc := 73) (t := 77) dX11_bestAddition_73 (by decide) ?_
            refine ae_istore (pc := 77) dX11_bestAddition_77 rfl (Nat.le_of_ble_eq_true rfl) ?_
            refine ae_iload (pc := 79) dX11_bestAddition_79 rfl ?_
            refine ae_if_eq (pc := 81) (t := 93) dX11_bestAddition_81 (by decide) (fun q => absurd q (by decide)) (fun _ => ?_)
            refine ae_aload_n (pc := 84) dX11_bestAddition_84 rfl ?_
            refine ae_getR (pc := 85) (k := 33) (c := 11) (j := 5) (q := 37) dX11_bestAddition_85 rfl rfl (Nat.le_of_ble_eq_true rfl) rfl (Nat.le_of_ble_eq_true rfl) rfl ?_
            refine ae_iload_n (pc := 88) dX11_bestAddition_88 rfl ?_
            refine ae_iaload (pc := 89) (k := 37) (N := 256) (v := h k) _ dX11_bestAddition_89 (Nat.le_of_ble_eq_true rfl) rfl rfl rfl (by omega) (by rw [gaM_37]) ?_
            refine ae_goto (pc := 90) (t := 94) dX11_bestAddition_90 (by decide) ?_
            refine ae_istore_n (pc := 94) dX11_bestAddition_94 rfl (Nat.le_of_ble_eq_true rfl) ?_
            refine ae_iload (pc := 95) dX11_bestAddition_95 rfl ?_
            refine ae_if_eq (pc := 97) (t := 105) dX11_bestAddition_97 (by decide) (fun q => absurd q (by decide)) (fun _ => ?_)
            refine ae_iload (pc := 100) dX11_bestAddition_100 rfl ?_
            refine ae_goto (pc := 102) (t := 106) dX11_bestAddition_102 (by decide) ?_
            refine ae_istore_n (pc := 106) dX11_bestAddition_106 rfl (Nat.le_of_ble_eq_true rfl) ?_
            refine ae_iinc (pc := 107) (v := nI (k + 1)) dX11_bestAddition_107 rfl (nI_inc k) ?_
            refine ae_goto (pc := 110) (t := 25) dX11_bestAddition_110 (by decide) ?_
            refine ae_forget [4, 5] rfl ?_
            first | (rw [if_pos (Or.inl c47)] at ih2; exact ih2) | (rw [if_pos (Or.inr (Or.inl c53))] at ih2; exact ih2) | (rw [if_pos (Or.inr (Or.inr (And.intro (Classical.not_not.mp c59) (Int32.not_le.mp c69))))] at ih2; exact ih2) | (rw [if_neg (fun q => q.elim c47 (fun q => q.elim c53 (fun q => by first | exact c59 q.1 | exact Int32.not_lt.mpr c69 q.2)))] at ih2; exact ih2)
theorem sm_packed0 (d : Nat) (M : am_M) (k : Int32) (h : k < -1) : am_R (d + 1) zX11_packed [.ref 33, .int k] M (fun v M' => v = some (.int (-2)) ∧ M' = M) := by
  refine ae_enter (z := zX11_packed) (y := yX11_packed) (cc := cX11_packed) (mL := 10) (rt := some .int) (ci := 11) (st := false) (np := 1) (L := [some (.ref 33), some (.int k), none, none, none, none, none, none, none, none]) rfl (by decide) (Nat.le_of_ble_eq_true rfl) rfl ?_
  refine ae_iload_n (pc := 0) dX11_packed_0 rfl ?_
  refine ae_iconst (pc := 1) (v := (-1)) dX11_packed_1 (by decide) ?_
  refine ae_icmp_ge (pc := 2) (t := 8) dX11_packed_2 (by decide) (fun c2 => ?_) (fun c2 => ?_)
  · exact absurd h (Int32.not_lt.mpr c2)
  · refine ae_bipush (pc := 5) (v := (-2)) dX11_packed_5 (by decide) ?_
    refine ae_ireturn (pc := 7) dX11_packed_7 rfl ?_
    exact ⟨rfl, rfl⟩
theorem sm_packedS (d : Nat) (M : am_M) (k : Int32) (h : ¬ k < -1) (h0 : M.1 34 292 = 0) : am_R (d + 1) zX11_packed [.ref 33, .int k] M (fun v M' => v = some (.int (-3)) ∧ M' = M) := by
  refine ae_enter (z := zX11_packed) (y := yX11_packed) (cc := cX11_packed) (mL := 10) (rt := some .int) (ci := 11) (st := false) (np := 1) (L := [some (.ref 33), some (.int k), none, none, none, none, none, none, none, none]) rfl (by decide) (Nat.le_of_ble_eq_true rfl) rfl ?_
  refine ae_iload_n (pc := 0) dX11_packed_0 rfl ?_
  refine ae_iconst (pc := 1) (v := (-1)) dX11_packed_1 (by decide) ?_
  refine ae_icmp_ge (pc := 2) (t := 8) dX11_packed_2 (by decide) (fun c2 => ?_) (fun c2 => ?_)
  rotate_left
  · exact absurd (Int32.not_le.mp c2) h
  refine ae_aload_n (pc := 8) dX11_packed_8 rfl ?_
  refine ae_getR (pc := 9) (k := 33) (c := 11) (j := 0) (q := 34) dX11_packed_9 rfl rfl (Nat.le_of_ble_eq_true rfl) rfl (Nat.le_of_ble_eq_true rfl) rfl ?_
  refine ae_sipush (pc := 12) (v := nI 292) dX11_packed_12 (by decide) ?_
  refine ae_iaload (pc := 15) (k := 34) (N := 549) _ dX11_packed_15 (Nat.le_of_ble_eq_true rfl) rfl rfl rfl (by omega) rfl ?_
  refine ae_if_ne (pc := 16) (t := 22) dX11_packed_16 (by decide) (fun c16 => ?_) (fun c16 => ?_)
  · exact absurd h0 c16
  · refine ae_bipush (pc := 19) (v := (-3)) dX11_packed_19 (by decide) ?_
    refine ae_ireturn (pc := 21) dX11_packed_21 rfl ?_
    exact ⟨rfl, rfl⟩
theorem sm_packedB (d : Nat) (M : am_M) (hf : wf0 (M.1 34)) (h1 : M.1 34 292 = 1) (k : Int32) (h : ¬ k < -1) (Q : am_PT) (hn : ∀ L, am_E none (am_R (d + 1)) cX11_packed 11 (some .int) Q (116, [some (.ref 33), some (.int k), some (.int L), some (.int (nI (pkB (M.1 34)))), some (.int (nI (pkR (M.1 34)))), none, none, none, none, none], [], M)) : am_R (d + 2) zX11_packed [.ref 33, .int k] M Q := by
  refine ae_enter (z := zX11_packed) (y := yX11_packed) (cc := cX11_packed) (mL := 10) (rt := some .int) (ci := 11) (st := false) (np := 1) (L := [some (.ref 33), some (.int k), none, none, none, none, none, none, none, none]) rfl (by decide) (Nat.le_of_ble_eq_true rfl) rfl ?_
  have hA := fA_le hf
  have hB := pkB_c (M.1 34)
  obtain ⟨⟨w1, w2, w3⟩, -, -⟩ := id hf
  refine ae_iload_n (pc := 0) dX11_packed_0 rfl ?_
  refine ae_iconst (pc := 1) (v := (-1)) dX11_packed_1 (by decide) ?_
  refine ae_icmp_ge (pc := 2) (t := 8) dX11_packed_2 (by decide) (fun c2 => ?_) (fun c2 => ?_)
  rotate_left
  · exact absurd (Int32.not_le.mp c2) h
  refine ae_aload_n (pc := 8) dX11_packed_8 rfl ?_
  refine ae_getR (pc := 9) (k := 33) (c := 11) (j := 0) (q := 34) dX11_packed_9 rfl rfl (Nat.le_of_ble_eq_true rfl) rfl (Nat.le_of_ble_eq_true rfl) rfl ?_
  refine ae_sipush (pc := 12) (v := nI 292) dX11_packed_12 (by decide) ?_
  refine ae_iaload (pc := 15) (k := 34) (N := 549) _ dX11_packed_15 (Nat.le_of_ble_eq_true rfl) rfl rfl rfl (by omega) rfl ?_
  refine ae_if_ne (pc := 16) (t := 22) dX11_packed_16 (by decide) (fun c16 => ?_) (fun c16 => ?_)
  rotate_left
  · exact absurd (h1.symm.trans (Classical.not_not.mp c16)) (by decide)
  refine ae_iconst (pc := 22) (v := nI 0) dX11_packed_22 (by decide) ?_
  refine ae_istore_n (pc := 23) dX11_packed_23 rfl (Nat.le_of_ble_eq_true rfl) ?_
  refine ae_iconst (pc := 24) (v := nI 0) dX11_packed_24 (by decide) ?_
  refine ae_istore_n (pc := 25) dX11_packed_25 rfl (Nat.le_of_ble_eq_true rfl) ?_
  skip
  refine am_down (P := fun p => am_E none (am_R (d + 1)) cX11_packed 11 (some .int) _ (26, [some (.ref 33), some (.int k), some (.int (mxI (M.1 34) p)), some (.int (nI p)), none, none, none, none, none, none], [], M)) (fA (M.1 34)) (fun p hp ih => ?_)
  refine ae_iload_n (pc := 26) dX11_packed_26 rfl ?_
  refine ae_aload_n (pc := 27) dX11_packed_27 rfl ?_
  refine ae_pcallV (pc := 28) (z := zX11_pixels) (k := 33) (As := []) dX11_packed_28 rfl rfl rfl rfl (Nat.le_of_ble_eq_true rfl) rfl (Nat.le_of_ble_eq_true rfl) (Nat.le_of_ble_eq_true rfl) (sm_pixels d M hf) ?_
  refine ae_icmp_ge (pc := 31) (t := 69) dX11_packed_31 (by decide) (fun c31 => ?_) (fun c31 => ?_)
  rotate_left
  · have hp2 : p < fA (M.1 34) := by rw [nI_leI (by omega) (by omega)] at c31; omega
    have ih2 := ih hp2
    rw [mxI_s] at ih2
    refine ae_aload_n (pc := 34) dX11_packed_34 rfl ?_
    refine ae_getR (pc := 35) (k := 33) (c := 11) (j := 0) (q := 34) dX11_packed_35 rfl rfl (Nat.le_of_ble_eq_true rfl) rfl (Nat.le_of_ble_eq_true rfl) rfl ?_
    refine ae_sipush (pc := 38) (v := nI 293) dX11_packed_38 (by decide) ?_
    refine ae_iload_n (pc := 41) dX11_packed_41 rfl ?_
    refine ae_iadd (pc := 42) dX11_packed_42 (nI_add _ _) ?_
    refine ae_iaload (pc := 43) (k := 34) (N := 549) _ dX11_packed_43 (Nat.le_of_ble_eq_true rfl) rfl rfl rfl (by omega) rfl ?_
    refine ae_iload_n (pc := 44) dX11_packed_44 rfl ?_
    refine ae_icmp_le (pc := 45) (t := 61) dX11_packed_45 (by decide) (fun c45 => ?_) (fun c45 => ?_)
    · refine ae_iload_n (pc := 61) dX11_packed_61 rfl ?_
      refine ae_istore_n (pc := 62) dX11_packed_62 rfl (Nat.le_of_ble_eq_true rfl) ?_
      refine ae_iinc (pc := 63) (v := nI (p + 1)) dX11_packed_63 rfl (nI_inc p) ?_
      refine ae_goto (pc := 66) (t := 26) dX11_packed_66 (by decide) ?_
      first | (rw [if_neg (Int32.not_lt.mpr c45)] at ih2; exact ih2) | (rw [if_pos (Int32.not_le.mp c45)] at ih2; exact ih2)
    · refine ae_aload_n (pc := 48) dX11_packed_48 rfl ?_
      refine ae_getR (pc := 49) (k := 33) (c := 11) (j := 0) (q := 34) dX11_packed_49 rfl rfl (Nat.le_of_ble_eq_true rfl) rfl (Nat.le_of_ble_eq_true rfl) rfl ?_
      refine ae_sipush (pc := 52) (v := nI 293) dX11_packed_52 (by decide) ?_
      refine ae_iload_n (pc := 55) dX11_packed_55 rfl ?_
      refine ae_iadd (pc := 56) dX11_packed_56 (nI_add _ _) ?_
      refine ae_iaload (pc := 57) (k := 34) (N := 549) _ dX11_packed_57 (Nat.le_of_ble_eq_true rfl) rfl rfl rfl (by omega) rfl ?_
      refine ae_goto (pc := 58) (t := 62) dX11_packed_58 (by decide) ?_
      refine ae_istore_n (pc := 62) dX11_packed_62 rfl (Nat.le_of_ble_eq_true rfl) ?_
      refine ae_iinc (pc := 63) (v := nI (p + 1)) dX11_packed_63 rfl (nI_inc p) ?_
      refine ae_goto (pc := 66) (t := 26) dX11_packed_66 (by decide) ?_
      first | (rw [if_neg (Int32.not_lt.mpr c45)] at ih2; exact ih2) | (rw [if_pos (Int32.not_le.mp c45)] at ih2; exact ih2)
  have hp2 : p = fA (M.1 34) := by rw [nI_leI (by omega) (by omega)] at c31; omega
  subst hp2
  have fin : am_E none (am_R (d + 1)) cX11_packed 11 (some .int) Q (99, [some (.ref 33), some (.int k), some (.int (mxI (M.1 34) (fA (M.1 34)))), some (.int (nI (fA (M.1 34)))), none, none, none, none, none, none], [.int (nI (pkB (M.1 34)))], M) := by
    refine ae_istore_n (pc := 99) dX11_packed_99 rfl (Nat.le_of_ble_eq_true rfl) ?_
    refine ae_aload_n (pc := 100) dX11_packed_100 rfl ?_
    refine ae_getR (pc := 101) (k := 33) (c := 11) (j := 0) (q := 34) dX11_packed_101 rfl rfl (Nat.le_of_ble_eq_true rfl) rfl (Nat.le_of_ble_eq_true rfl) rfl ?_
    refine ae_iconst (pc := 104) (v := nI 0) dX11_packed_104 (by decide) ?_
    refine ae_iaload (pc := 105) (k := 34) (N := 549) (v := nI (fW (M.1 34))) _ dX11_packed_105 (Nat.le_of_ble_eq_true rfl) rfl rfl rfl (by omega) w1 ?_
    refine ae_iload_n (pc := 106) dX11_packed_106 rfl ?_
    refine ae_imul (pc := 107) (v := nI (fW (M.1 34) * pkB (M.1 34))) dX11_packed_107 (nI_mul _ _) ?_
    refine ae_bipush (pc := 108) (v := nI 7) dX11_packed_108 (by decide) ?_
    refine ae_iadd (pc := 110) (v := nI (fW (M.1 34) * pkB (M.1 34) + 7)) dX11_packed_110 (nI_add _ _) ?_
    refine ae_bipush (pc := 111) (v := nI 8) dX11_packed_111 (by decide) ?_
    refine ae_idiv (pc := 113) (v := nI (pkR (M.1 34))) dX11_packed_113 (by decide) (nI_div (by rcases hB with q | q | q | q <;> rw [q] <;> omega) (by decide)) ?_
    refine ae_istore (pc := 114) dX11_packed_114 rfl (Nat.le_of_ble_eq_true rfl) ?_
    exact hn _
  refine ae_iload_n (pc := 69) dX11_packed_69 rfl ?_
  refine ae_iconst (pc := 70) (v := nI 2) dX11_packed_70 (by decide) ?_
  refine ae_icmp_ge (pc := 71) (t := 78) dX11_packed_71 (by decide) (fun c71 => ?_) (fun c71 => ?_)
  · refine ae_iload_n (pc := 78) dX11_packed_78 rfl ?_
    refine ae_iconst (pc := 79) (v := nI 4) dX11_packed_79 (by decide) ?_
    refine ae_icmp_ge (pc := 80) (t := 87) dX11_packed_80 (by decide) (fun c80 => ?_) (fun c80 => ?_)
    · refine ae_iload_n (pc := 87) dX11_packed_87 rfl ?_
      refine ae_bipush (pc := 88) (v := nI 16) dX11_packed_88 (by decide) ?_
      refine ae_icmp_ge (pc := 90) (t := 97) dX11_packed_90 (by decide) (fun c90 => ?_) (fun c90 => ?_)
      · refine ae_bipush (pc := 97) (v := nI 8) dX11_packed_97 (by decide) ?_
        first | (rw [show pkB (M.1 34) = 1 by unfold pkB; rw [if_pos (Int32.not_le.mp c71)]] at fin; exact fin) | (rw [show pkB (M.1 34) = 2 by unfold pkB; rw [if_neg (Int32.not_lt.mpr c71), if_pos (Int32.not_le.mp c80)]] at fin; exact fin) | (rw [show pkB (M.1 34) = 4 by unfold pkB; rw [if_neg (Int32.not_lt.mpr c71), if_neg (Int32.not_lt.mpr c80), if_pos (Int32.not_le.mp c90)]] at fin; exact fin) | (rw [show pkB (M.1 34) = 8 by unfold pkB; rw [if_neg (Int32.not_lt.mpr c71), if_neg (Int32.not_lt.mpr c80), if_neg (Int32.not_lt.mpr c90)]] at fin; exact fin)
      · refine ae_iconst (pc := 93) (v := nI 4) dX11_packed_93 (by decide) ?_
        refine ae_goto (pc := 94) (t := 99) dX11_packed_94 (by decide) ?_
        first | (rw [show pkB (M.1 34) = 1 by unfold pkB; rw [if_pos (Int32.not_le.mp c71)]] at fin; exact fin) | (rw [show pkB (M.1 34) = 2 by unfold pkB; rw [if_neg (Int32.not_lt.mpr c71), if_pos (Int32.not_le.mp c80)]] at fin; exact fin) | (rw [show pkB (M.1 34) = 4 by unfold pkB; rw [if_neg (Int32.not_lt.mpr c71), if_neg (Int32.not_lt.mpr c80), if_pos (Int32.not_le.mp c90)]] at fin; exact fin) | (rw [show pkB (M.1 34) = 8 by unfold pkB; rw [if_neg (Int32.not_lt.mpr c71), if_neg (Int32.not_lt.mpr c80), if_neg (Int32.not_lt.mpr c90)]] at fin; exact fin)
    · refine ae_iconst (pc := 83) (v := nI 2) dX11_packed_83 (by decide) ?_
      refine ae_goto (pc := 84) (t := 99) dX11_packed_84 (by decide) ?_
      first | (rw [show pkB (M.1 34) = 1 by unfold pkB; rw [if_pos (Int32.not_le.mp c71)]] at fin; exact fin) | (rw [show pkB (M.1 34) = 2 by unfold pkB; rw [if_neg (Int32.not_lt.mpr c71), if_pos (Int32.not_le.mp c80)]] at fin; exact fin) | (rw [show pkB (M.1 34) = 4 by unfold pkB; rw [if_neg (Int32.not_lt.mpr c71), if_neg (Int32.not_lt.mpr c80), if_pos (Int32.not_le.mp c90)]] at fin; exact fin) | (rw [show pkB (M.1 34) = 8 by unfold pkB; rw [if_neg (Int32.not_lt.mpr c71), if_neg (Int32.not_lt.mpr c80), if_neg (Int32.not_lt.mpr c90)]] at fin; exact fin)
  · refine ae_iconst (pc := 74) (v := nI 1) dX11_packed_74 (by decide) ?_
    refine ae_goto (pc := 75) (t := 99) dX11_packed_75 (by decide) ?_
    first | (rw [show pkB (M.1 34) = 1 by unfold pkB; rw [if_pos (Int32.not_le.mp c71)]] at fin; exact fin) | (rw [show pkB (M.1 34) = 2 by unfold pkB; rw [if_neg (Int32.not_lt.mpr c71), if_pos (Int32.not_le.mp c80)]] at fin; exact fin) | (rw [show pkB (M.1 34) = 4 by unfold pkB; rw [if_neg (Int32.not_lt.mpr c71), if_neg (Int32.not_lt.mpr c80), if_pos (Int32.not_le.mp c90)]] at fin; exact fin) | (rw [show pkB (M.1 34) = 8 by unfold pkB; rw [if_neg (Int32.not_lt.mpr c71), if_neg (Int32.not_lt.mpr c80), if_neg (Int32.not_lt.mpr c90)]] at fin; exact fin)
theorem sm_packedN (d : Nat) (M : am_M) (hf : wf0 (M.1 34)) (h1 : M.1 34 292 = 1) : am_R (d + 2) zX11_packed [.ref 33, .int (-1)] M (fun v M' => v = some (.int (nI (pkR (M.1 34) * fH (M.1 34)))) ∧ M' = M) := by
  refine sm_packedB d M hf h1 _ (by decide) _ (fun L => ?_)
  have hR := pkR_le hf
  obtain ⟨-, ⟨w1, w2, w3⟩, -⟩ := id hf
  refine ae_iload_n (pc := 116) dX11_packed_116 rfl ?_
  refine ae_iconst (pc := 117) (v := (-1)) dX11_packed_117 (by decide) ?_
  refine ae_icmp_eq (pc := 118) (t := 134) dX11_packed_118 (by decide) (fun c118 => ?_) (fun c118 => ?_)
  · refine ae_iload_n (pc := 134) dX11_packed_134 rfl ?_
    refine ae_iconst (pc := 135) (v := (-1)) dX11_packed_135 (by decide) ?_
    refine ae_icmp_ne (pc := 136) (t := 151) dX11_packed_136 (by decide) (fun c136 => ?_) (fun c136 => ?_)
    · exact absurd rfl c136
    · refine ae_iload (pc := 139) dX11_packed_139 rfl ?_
      refine ae_aload_n (pc := 141) dX11_packed_141 rfl ?_
      refine ae_getR (pc := 142) (k := 33) (c := 11) (j := 0) (q := 34) dX11_packed_142 rfl rfl (Nat.le_of_ble_eq_true rfl) rfl (Nat.le_of_ble_eq_true rfl) rfl ?_
      refine ae_iconst (pc := 145) (v := nI 1) dX11_packed_145 (by decide) ?_
      refine ae_iaload (pc := 146) (k := 34) (N := 549) (v := nI (fH (M.1 34))) _ dX11_packed_146 (Nat.le_of_ble_eq_true rfl) rfl rfl rfl (by omega) w1 ?_
      refine ae_imul (pc := 147) (v := nI (pkR (M.1 34) * fH (M.1 34))) dX11_packed_147 (nI_mul _ _) ?_
      refine ae_goto (pc := 148) (t := 152) dX11_packed_148 (by decide) ?_
      refine ae_ireturn (pc := 152) dX11_packed_152 rfl ?_
      exact ⟨rfl, rfl⟩
  · exact absurd rfl c118
theorem sm_packed (d : Nat) (M : am_M) (hf : wf0 (M.1 34)) (h1 : M.1 34 292 = 1) (k : Nat) (hk : k < 2 ^ 31) : am_R (d + 2) zX11_packed [.ref 33, .int (nI k)] M (fun v M' => v = some (.int (if k < pkR (M.1 34) * fH (M.1 34) then pkV (M.1 34) k (8 / pkB (M.1 34)) else -1)) ∧ M' = M) := by
  refine sm_packedB d M hf h1 _ (Int32.not_lt.mpr (Int32.le_trans (by decide) (nI_le (Nat.zero_le k) hk))) _ (fun L => ?_)
  have hR := pkR_le hf
  have hB := pkB_c (M.1 34)
  have hA := fA_le hf
  obtain ⟨⟨v1, v2, v3⟩, ⟨w1, w2, w3⟩, -⟩ := id hf
  have hRH : pkR (M.1 34) * fH (M.1 34) ≤ 16 * 16 := Nat.mul_le_mul hR.2 w3
  have hB2 : 1 ≤ pkB (M.1 34) ∧ pkB (M.1 34) ≤ 8 := by omega
  have hB3 : 8 / pkB (M.1 34) ≤ 8 := Nat.div_le_self _ _
  by_cases hkk : k < pkR (M.1 34) * fH (M.1 34)
  rotate_left
  · rw [if_neg hkk]
    refine ae_iload_n (pc := 116) dX11_packed_116 rfl ?_
    refine ae_iconst (pc := 117) (v := (-1)) dX11_packed_117 (by decide) ?_
    refine ae_icmp_eq (pc := 118) (t := 134) dX11_packed_118 (by decide) (fun c118 => ?_) (fun c118 => ?_)
    · exact absurd c118 (nI_ne1 hk)
    refine ae_iload_n (pc := 121) dX11_packed_121 rfl ?_
    refine ae_iload (pc := 122) dX11_packed_122 rfl ?_
    refine ae_aload_n (pc := 124) dX11_packed_124 rfl ?_
    refine ae_getR (pc := 125) (k := 33) (c := 11) (j := 0) (q := 34) dX11_packed_125 rfl rfl (Nat.le_of_ble_eq_true rfl) rfl (Nat.le_of_ble_eq_true rfl) rfl ?_
    refine ae_iconst (pc := 128) (v := nI 1) dX11_packed_128 (by decide) ?_
    refine ae_iaload (pc := 129) (k := 34) (N := 549) (v := nI (fH (M.1 34))) _ dX11_packed_129 (Nat.le_of_ble_eq_true rfl) rfl rfl rfl (by omega) w1 ?_
    refine ae_imul (pc := 130) (v := nI (pkR (M.1 34) * fH (M.1 34))) dX11_packed_130 (nI_mul _ _) ?_
    refine ae_icmp_lt (pc := 131) (t := 153) dX11_packed_131 (by decide) (fun c131 => ?_) (fun c131 => ?_)
    · exact absurd ((nI_ltI hk (by omega)).mp c131) hkk
    · refine ae_iload_n (pc := 134) dX11_packed_134 rfl ?_
      refine ae_iconst (pc := 135) (v := (-1)) dX11_packed_135 (by decide) ?_
      refine ae_icmp_ne (pc := 136) (t := 151) dX11_packed_136 (by decide) (fun c136 => ?_) (fun c136 => ?_)
      · refine ae_iconst (pc := 151) (v := (-1)) dX11_packed_151 (by decide) ?_
        refine ae_ireturn (pc := 152) dX11_packed_152 rfl ?_
        exact ⟨rfl, rfl⟩
      · exact absurd (Classical.not_not.mp c136) (nI_ne1 hk)
  rw [if_pos hkk]
  refine ae_iload_n (pc := 116) dX11_packed_116 rfl ?_
  refine ae_iconst (pc := 117) (v := (-1)) dX11_packed_117 (by decide) ?_
  refine ae_icmp_eq (pc := 118) (t := 134) dX11_packed_118 (by decide) (fun c118 => ?_) (fun c118 => ?_)
  · exact absurd c118 (nI_ne1 hk)
  refine ae_iload_n (pc := 121) dX11_packed_121 rfl ?_
  refine ae_iload (pc := 122) dX11_packed_122 rfl ?_
  refine ae_aload_n (pc := 124) dX11_packed_124 rfl ?_
  refine ae_getR (pc := 125) (k := 33) (c := 11) (j := 0) (q := 34) dX11_packed_125 rfl rfl (Nat.le_of_ble_eq_true rfl) rfl (Nat.le_of_ble_eq_true rfl) rfl ?_
  refine ae_iconst (pc := 128) (v := nI 1) dX11_packed_128 (by decide) ?_
  refine ae_iaload (pc := 129) (k := 34) (N := 549) (v := nI (fH (M.1 34))) _ dX11_packed_129 (Nat.le_of_ble_eq_true rfl) rfl rfl rfl (by omega) w1 ?_
  refine ae_imul (pc := 130) (v := nI (pkR (M.1 34) * fH (M.1 34))) dX11_packed_130 (nI_mul _ _) ?_
  refine ae_icmp_lt (pc := 131) (t := 153) dX11_packed_131 (by decide) (fun c131 => ?_) (fun c131 => ?_)
  rotate_left
  · exact absurd ((nI_ltI hk (by omega)).mpr hkk) c131
  refine ae_iconst (pc := 153) (v := nI 0) dX11_packed_153 (by decide) ?_
  refine ae_istore (pc := 154) dX11_packed_154 rfl (Nat.le_of_ble_eq_true rfl) ?_
  refine ae_bipush (pc := 156) (v := nI 8) dX11_packed_156 (by decide) ?_
  refine ae_iload_n (pc := 158) dX11_packed_158 rfl ?_
  refine ae_idiv (pc := 159) (v := nI (8 / pkB (M.1 34))) dX11_packed_159 (nI_ne0 (by omega) (by omega)) (nI_div (by decide) (by omega)) ?_
  refine ae_istore (pc := 160) dX11_packed_160 rfl (Nat.le_of_ble_eq_true rfl) ?_
  refine ae_iconst (pc := 162) (v := nI 0) dX11_packed_162 (by decide) ?_
  refine ae_istore (pc := 163) dX11_packed_163 rfl (Nat.le_of_ble_eq_true rfl) ?_
  skip
  refine am_down (P := fun i => am_E none (am_R (d + 1)) cX11_packed 11 (some .int) _ (165, [some (.ref 33), some (.int (nI k)), some (.int L), some (.int (nI (pkB (M.1 34)))), some (.int (nI (pkR (M.1 34)))), some (.int (pkV (M.1 34) k i)), some (.int (nI (8 / pkB (M.1 34)))), some (.int (nI i)), none, none], [], M)) (8 / pkB (M.1 34)) (fun i hi ih => ?_)
  refine ae_iload (pc := 165) dX11_packed_165 rfl ?_
  refine ae_iload (pc := 167) dX11_packed_167 rfl ?_
  refine ae_icmp_ge (pc := 169) (t := 239) dX11_packed_169 (by decide) (fun c169 => ?_) (fun c169 => ?_)
  · have hi2 : i = 8 / pkB (M.1 34) := by rw [nI_leI (by omega) (by omega)] at c169; omega
    subst hi2
    refine ae_iload (pc := 239) dX11_packed_239 rfl ?_
    refine ae_ireturn (pc := 241) dX11_packed_241 rfl ?_
    exact ⟨rfl, rfl⟩
  · have hi2 : i < 8 / pkB (M.1 34) := by rw [nI_leI (by omega) (by omega)] at c169; omega
    have hx : k % pkR (M.1 34) * (8 / pkB (M.1 34)) ≤ 16 * 8 := Nat.mul_le_mul (Nat.le_trans (Nat.le_of_lt (Nat.mod_lt _ (by omega))) hR.2) hB3
    have ih2 := ih hi2
    rw [pkV_s] at ih2
    have hb : k / pkR (M.1 34) * fW (M.1 34) ≤ 16 * 16 := Nat.mul_le_mul (Nat.le_trans (Nat.le_of_lt ((Nat.div_lt_iff_lt_mul (by omega)).mpr (by rw [Nat.mul_comm]; exact hkk))) w3) v3
    refine ae_iload_n (pc := 172) dX11_packed_172 rfl ?_
    refine ae_iload (pc := 173) dX11_packed_173 rfl ?_
    refine ae_irem (pc := 175) (v := nI (k % pkR (M.1 34))) dX11_packed_175 (nI_ne0 (by omega) (by omega)) (nI_mod (by omega) (by omega)) ?_
    refine ae_iload (pc := 176) dX11_packed_176 rfl ?_
    refine ae_imul (pc := 178) (v := nI (k % pkR (M.1 34) * (8 / pkB (M.1 34)))) dX11_packed_178 (nI_mul _ _) ?_
    refine ae_iload (pc := 179) dX11_packed_179 rfl ?_
    refine ae_iadd (pc := 181) (v := nI (k % pkR (M.1 34) * (8 / pkB (M.1 34)) + i)) dX11_packed_181 (nI_add _ _) ?_
    refine ae_istore (pc := 182) dX11_packed_182 rfl (Nat.le_of_ble_eq_true rfl) ?_
    refine ae_iload (pc := 184) dX11_packed_184 rfl ?_
    refine ae_aload_n (pc := 186) dX11_packed_186 rfl ?_
    refine ae_getR (pc := 187) (k := 33) (c := 11) (j := 0) (q := 34) dX11_packed_187 rfl rfl (Nat.le_of_ble_eq_true rfl) rfl (Nat.le_of_ble_eq_true rfl) rfl ?_
    refine ae_iconst (pc := 190) (v := nI 0) dX11_packed_190 (by decide) ?_
    refine ae_iaload (pc := 191) (k := 34) (N := 549) (v := nI (fW (M.1 34))) _ dX11_packed_191 (Nat.le_of_ble_eq_true rfl) rfl rfl rfl (by omega) v1 ?_
    refine ae_icmp_ge (pc := 192) (t := 221) dX11_packed_192 (by decide) (fun c192 => ?_) (fun c192 => ?_)
    · rw [nI_leI (by omega) (by omega)] at c192
      rw [if_neg (by omega)] at ih2
      refine ae_iconst (pc := 221) (v := nI 0) dX11_packed_221 (by decide) ?_
      refine ae_istore (pc := 222) dX11_packed_222 rfl (Nat.le_of_ble_eq_true rfl) ?_
      refine ae_iload (pc := 224) dX11_packed_224 rfl ?_
      refine ae_iload_n (pc := 226) dX11_packed_226 rfl ?_
      refine ae_ishl (pc := 227) dX11_packed_227 rfl ?_
      refine ae_iload (pc := 228) dX11_packed_228 rfl ?_
      refine ae_iadd (pc := 230) dX11_packed_230 rfl ?_
      refine ae_istore (pc := 231) dX11_packed_231 rfl (Nat.le_of_ble_eq_true rfl) ?_
      refine ae_iinc (pc := 233) (v := nI (i + 1)) dX11_packed_233 rfl (nI_inc i) ?_
      refine ae_goto (pc := 236) (t := 165) dX11_packed_236 (by decide) ?_
      exact ae_forget [8, 9] rfl ih2
    · rw [nI_leI (by omega) (by omega)] at c192
      rw [if_pos (by omega)] at ih2
      have hpp := pk_pl hf hkk (x := k % pkR (M.1 34) * (8 / pkB (M.1 34)) + i) (by omega)
      refine ae_aload_n (pc := 195) dX11_packed_195 rfl ?_
      refine ae_getR (pc := 196) (k := 33) (c := 11) (j := 0) (q := 34) dX11_packed_196 rfl rfl (Nat.le_of_ble_eq_true rfl) rfl (Nat.le_of_ble_eq_true rfl) rfl ?_
      refine ae_sipush (pc := 199) (v := nI 293) dX11_packed_199 (by decide) ?_
      refine ae_iload_n (pc := 202) dX11_packed_202 rfl ?_
      refine ae_iload (pc := 203) dX11_packed_203 rfl ?_
      refine ae_idiv (pc := 205) (v := nI (k / pkR (M.1 34))) dX11_packed_205 (nI_ne0 (by omega) (by omega)) (nI_div (by omega) (by omega)) ?_
      refine ae_aload_n (pc := 206) dX11_packed_206 rfl ?_
      refine ae_getR (pc := 207) (k := 33) (c := 11) (j := 0) (q := 34) dX11_packed_207 rfl rfl (Nat.le_of_ble_eq_true rfl) rfl (Nat.le_of_ble_eq_true rfl) rfl ?_
      refine ae_iconst (pc := 210) (v := nI 0) dX11_packed_210 (by decide) ?_
      refine ae_iaload (pc := 211) (k := 34) (N := 549) (v := nI (fW (M.1 34))) _ dX11_packed_211 (Nat.le_of_ble_eq_true rfl) rfl rfl rfl (by omega) v1 ?_
      refine ae_imul (pc := 212) (v := nI (k / pkR (M.1 34) * fW (M.1 34))) dX11_packed_212 (nI_mul _ _) ?_
      refine ae_iadd (pc := 213) (v := nI (293 + k / pkR (M.1 34) * fW (M.1 34))) dX11_packed_213 (nI_add _ _) ?_
      refine ae_iload (pc := 214) dX11_packed_214 rfl ?_
      refine ae_iadd (pc := 216) (v := nI (293 + (k / pkR (M.1 34) * fW (M.1 34) + (k % pkR (M.1 34) * (8 / pkB (M.1 34)) + i)))) dX11_packed_216 (by rw [nI_add, Nat.add_assoc]) ?_
      refine ae_iaload (pc := 217) (k := 34) (N := 549) (293 + (k / pkR (M.1 34) * fW (M.1 34) + (k % pkR (M.1 34) * (8 / pkB (M.1 34)) + i))) dX11_packed_217 (Nat.le_of_ble_eq_true rfl) rfl rfl rfl (by omega) rfl ?_
      refine ae_goto (pc := 218) (t := 222) dX11_packed_218 (by decide) ?_
      refine ae_istore (pc := 222) dX11_packed_222 rfl (Nat.le_of_ble_eq_true rfl) ?_
      refine ae_iload (pc := 224) dX11_packed_224 rfl ?_
      refine ae_iload_n (pc := 226) dX11_packed_226 rfl ?_
      refine ae_ishl (pc := 227) dX11_packed_227 rfl ?_
      refine ae_iload (pc := 228) dX11_packed_228 rfl ?_
      refine ae_iadd (pc := 230) dX11_packed_230 rfl ?_
      refine ae_istore (pc := 231) dX11_packed_231 rfl (Nat.le_of_ble_eq_true rfl) ?_
      refine ae_iinc (pc := 233) (v := nI (i + 1)) dX11_packed_233 rfl (nI_inc i) ?_
      refine ae_goto (pc := 236) (t := 165) dX11_packed_236 (by decide) ?_
      exact ae_forget [8, 9] rfl ih2

