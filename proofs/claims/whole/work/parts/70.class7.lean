theorem sc_textAppend (d : Nat) (M : am_M) (n : Nat) (t : fT) (h : TX M n t) (hn : n < 140) (x : Int32) : am_R (d + 1) zX9_append [.ref 8, .int x] M (fun v M' => v = some (.int (nI 1)) ∧ M' = txM M (upd (M.1 8) 1 (nI (n + 1))) (upd (M.1 9) n x) (M.1 10) (M.1 11)) := by
  refine ae_enter (z := zX9_append) (y := yX9_append) (cc := cX9_append) (mL := 2) (rt := some .boolean) (ci := 9) (st := false) (np := 1) (L := [some (.ref 8), some (.int x)]) rfl (by decide) (Nat.le_of_ble_eq_true rfl) rfl ?_
  refine ae_M (txM_eta M).symm ?_
  refine ae_aload_n (pc := 0) dX9_append_0 rfl ?_
  refine ae_getI (pc := 1) (k := 8) (c := 9) (j := 1) (v := nI n) dX9_append_1 rfl rfl (Or.inl rfl) (Nat.le_of_ble_eq_true rfl) rfl (Nat.le_of_ble_eq_true rfl) (by rw [txM_8]; exact h.2.1) ?_
  refine ae_sipush (pc := 4) (v := nI 140) dX9_append_4 (by decide) ?_
  refine ae_icmp_lt (pc := 7) (t := 12) dX9_append_7 (by decide) (fun c7 => ?_) (fun c7 => ?_)
  rotate_left
  · exact absurd ((nI_ltI (by omega) (by omega)).mpr hn) c7
  refine ae_aload_n (pc := 12) dX9_append_12 rfl ?_
  refine ae_getR (pc := 13) (k := 8) (c := 9) (j := 0) (q := 9) dX9_append_13 rfl rfl (Nat.le_of_ble_eq_true rfl) rfl (Nat.le_of_ble_eq_true rfl) rfl ?_
  refine ae_aload_n (pc := 16) dX9_append_16 rfl ?_
  refine ae_getI (pc := 17) (k := 8) (c := 9) (j := 1) (v := nI n) dX9_append_17 rfl rfl (Or.inl rfl) (Nat.le_of_ble_eq_true rfl) rfl (Nat.le_of_ble_eq_true rfl) (by rw [txM_8]; exact h.2.1) ?_
  refine ae_iload_n (pc := 20) dX9_append_20 rfl ?_
  refine ae_iastore (pc := 21) (k := 9) (N := 140) (n) dX9_append_21 (Nat.le_of_ble_eq_true rfl) rfl rfl rfl (by omega) rfl ?_
  refine ae_M (txM_u9 _ _ _ _ _ _) ?_
  rw [txM_9]
  refine ae_aload_n (pc := 22) dX9_append_22 rfl ?_
  refine ae_dup (pc := 23) dX9_append_23 rfl ?_
  refine ae_getI (pc := 24) (k := 8) (c := 9) (j := 1) (v := nI n) dX9_append_24 rfl rfl (Or.inl rfl) (Nat.le_of_ble_eq_true rfl) rfl (Nat.le_of_ble_eq_true rfl) (by rw [txM_8]; exact h.2.1) ?_
  refine ae_iconst (pc := 27) (v := nI 1) dX9_append_27 (by decide) ?_
  refine ae_iadd (pc := 28) (v := nI (n + 1)) dX9_append_28 (nI_add _ _) ?_
  refine ae_putfield (pc := 29) (k := 8) (c := 9) (j := 1) dX9_append_29 rfl rfl (Nat.le_of_ble_eq_true rfl) rfl (Nat.le_of_ble_eq_true rfl) rfl rfl ?_
  refine ae_M (txM_u8 _ _ _ _ _ _) ?_
  rw [txM_8]
  refine ae_iconst (pc := 32) (v := nI 1) dX9_append_32 (by decide) ?_
  refine ae_zreturn (pc := 33) dX9_append_33 rfl (by decide) ?_
  exact ⟨rfl, rfl⟩
theorem sc_textFull (d : Nat) (M : am_M) (hn : M.1 8 1 = nI 140) (x : Int32) : am_R (d + 1) zX9_append [.ref 8, .int x] M (fun v M' => v = some (.int (nI 0)) ∧ M' = M) := by
  refine ae_enter (z := zX9_append) (y := yX9_append) (cc := cX9_append) (mL := 2) (rt := some .boolean) (ci := 9) (st := false) (np := 1) (L := [some (.ref 8), some (.int x)]) rfl (by decide) (Nat.le_of_ble_eq_true rfl) rfl ?_
  refine ae_aload_n (pc := 0) dX9_append_0 rfl ?_
  refine ae_getI (pc := 1) (k := 8) (c := 9) (j := 1) (v := nI 140) dX9_append_1 rfl rfl (Or.inl rfl) (Nat.le_of_ble_eq_true rfl) rfl (Nat.le_of_ble_eq_true rfl) hn ?_
  refine ae_sipush (pc := 4) (v := nI 140) dX9_append_4 (by decide) ?_
  refine ae_icmp_lt (pc := 7) (t := 12) dX9_append_7 (by decide) (fun c7 => ?_) (fun c7 => ?_)
  · exact absurd c7 (by decide)
  · refine ae_iconst (pc := 10) (v := nI 0) dX9_append_10 (by decide) ?_
    refine ae_zreturn (pc := 11) dX9_append_11 rfl (by decide) ?_
    exact ⟨rfl, rfl⟩
theorem sc_digitAt (d : Nat) (M : am_M) (n : Nat) (t : fT) (h : TX M n t) (i : Nat) (hi : i < 1000) : am_R (d + 1) zX9_digitAt [.ref 8, .int (nI i)] M (fun v M' => v = some (.int (dgA t n i)) ∧ M' = M) := by
  refine ae_enter (z := zX9_digitAt) (y := yX9_digitAt) (cc := cX9_digitAt) (mL := 3) (rt := some .int) (ci := 9) (st := false) (np := 1) (L := [some (.ref 8), some (.int (nI i)), none]) rfl (by decide) (Nat.le_of_ble_eq_true rfl) rfl ?_
  have h0 : ¬ nI i < 0 := Int32.not_lt.mpr (nI_le (Nat.zero_le i) (by omega))
  obtain ⟨hn, h1, h2⟩ := h
  by_cases hin : i < n
  · have e : ltr t n i = t i := by unfold ltr; rw [if_pos hin]
    refine ae_iload_n (pc := 0) dX9_digitAt_0 rfl ?_
    refine ae_if_lt (pc := 1) (t := 12) dX9_digitAt_1 (by decide) (fun c1 => ?_) (fun c1 => ?_)
    · exact absurd c1 h0
    refine ae_iload_n (pc := 4) dX9_digitAt_4 rfl ?_
    refine ae_aload_n (pc := 5) dX9_digitAt_5 rfl ?_
    refine ae_getI (pc := 6) (k := 8) (c := 9) (j := 1) (v := nI n) dX9_digitAt_6 rfl rfl (Or.inl rfl) (Nat.le_of_ble_eq_true rfl) rfl (Nat.le_of_ble_eq_true rfl) h1 ?_
    refine ae_icmp_lt (pc := 9) (t := 14) dX9_digitAt_9 (by decide) (fun c9 => ?_) (fun c9 => ?_)
    rotate_left
    · exact absurd ((nI_ltI (by omega) (by omega)).mpr hin) c9
    refine ae_aload_n (pc := 14) dX9_digitAt_14 rfl ?_
    refine ae_getR (pc := 15) (k := 8) (c := 9) (j := 0) (q := 9) dX9_digitAt_15 rfl rfl (Nat.le_of_ble_eq_true rfl) rfl (Nat.le_of_ble_eq_true rfl) rfl ?_
    refine ae_iload_n (pc := 18) dX9_digitAt_18 rfl ?_
    refine ae_iaload (pc := 19) (k := 9) (N := 140) (v := t i) (i) dX9_digitAt_19 (Nat.le_of_ble_eq_true rfl) rfl rfl rfl (by omega) (h2 i hin) ?_
    refine ae_istore_n (pc := 20) dX9_digitAt_20 rfl (Nat.le_of_ble_eq_true rfl) ?_
    refine ae_iload_n (pc := 21) dX9_digitAt_21 rfl ?_
    refine ae_bipush (pc := 22) (v := nI 48) dX9_digitAt_22 (by decide) ?_
    refine ae_icmp_lt (pc := 24) (t := 38) dX9_digitAt_24 (by decide) (fun c24 => ?_) (fun c24 => ?_)
    · refine ae_iload_n (pc := 38) dX9_digitAt_38 rfl ?_
      refine ae_bipush (pc := 39) (v := nI 97) dX9_digitAt_39 (by decide) ?_
      refine ae_icmp_lt (pc := 41) (t := 58) dX9_digitAt_41 (by decide) (fun c41 => ?_) (fun c41 => ?_)
      · refine ae_iload_n (pc := 58) dX9_digitAt_58 rfl ?_
        refine ae_bipush (pc := 59) (v := nI 65) dX9_digitAt_59 (by decide) ?_
        refine ae_icmp_lt (pc := 61) (t := 80) dX9_digitAt_61 (by decide) (fun c61 => ?_) (fun c61 => ?_)
        · refine ae_iconst (pc := 80) (v := (-1)) dX9_digitAt_80 (by decide) ?_
          refine ae_ireturn (pc := 81) dX9_digitAt_81 rfl ?_
          refine ⟨?_, rfl⟩
          unfold dgA dgt
          rw [e]
          first | (rw [if_pos (And.intro (Int32.not_lt.mp c24) (Int32.not_lt.mp c30))]; done) | (rw [if_neg (by first | exact nlo c24 | exact nhi c30), if_pos (And.intro (Int32.not_lt.mp c41) (Int32.not_lt.mp c47))]; done) | (rw [if_neg (by first | exact nlo c24 | exact nhi c30), if_neg (by first | exact nlo c41 | exact nhi c47), if_pos (And.intro (Int32.not_lt.mp c61) (Int32.not_lt.mp c67))]; done) | (rw [if_neg (by first | exact nlo c24 | exact nhi c30), if_neg (by first | exact nlo c41 | exact nhi c47), if_neg (by first | exact nlo c61 | exact nhi c67)]; done)
        · refine ae_iload_n (pc := 64) dX9_digitAt_64 rfl ?_
          refine ae_bipush (pc := 65) (v := nI 70) dX9_digitAt_65 (by decide) ?_
          refine ae_icmp_gt (pc := 67) (t := 80) dX9_digitAt_67 (by decide) (fun c67 => ?_) (fun c67 => ?_)
          · refine ae_iconst (pc := 80) (v := (-1)) dX9_digitAt_80 (by decide) ?_
            refine ae_ireturn (pc := 81) dX9_digitAt_81 rfl ?_
            refine ⟨?_, rfl⟩
            unfold dgA dgt
            rw [e]
            first | (rw [if_pos (And.intro (Int32.not_lt.mp c24) (Int32.not_lt.mp c30))]; done) | (rw [if_neg (by first | exact nlo c24 | exact nhi c30), if_pos (And.intro (Int32.not_lt.mp c41) (Int32.not_lt.mp c47))]; done) | (rw [if_neg (by first | exact nlo c24 | exact nhi c30), if_neg (by first | exact nlo c41 | exact nhi c47), if_pos (And.intro (Int32.not_lt.mp c61) (Int32.not_lt.mp c67))]; done) | (rw [if_neg (by first | exact nlo c24 | exact nhi c30), if_neg (by first | exact nlo c41 | exact nhi c47), if_neg (by first | exact nlo c61 | exact nhi c67)]; done)
          · refine ae_iload_n (pc := 70) dX9_digitAt_70 rfl ?_
            refine ae_bipush (pc := 71) (v := nI 65) dX9_digitAt_71 (by decide) ?_
            refine ae_isub (pc := 73) dX9_digitAt_73 rfl ?_
            refine ae_bipush (pc := 74) (v := nI 10) dX9_digitAt_74 (by decide) ?_
            refine ae_iadd (pc := 76) dX9_digitAt_76 rfl ?_
            refine ae_goto (pc := 77) (t := 81) dX9_digitAt_77 (by decide) ?_
            refine ae_ireturn (pc := 81) dX9_digitAt_81 rfl ?_
            refine ⟨?_, rfl⟩
            unfold dgA dgt
            rw [e]
            first | (rw [if_pos (And.intro (Int32.not_lt.mp c24) (Int32.not_lt.mp c30))]; done) | (rw [if_neg (by first | exact nlo c24 | exact nhi c30), if_pos (And.intro (Int32.not_lt.mp c41) (Int32.not_lt.mp c47))]; done) | (rw [if_neg (by first | exact nlo c24 | exact nhi c30), if_neg (by first | exact nlo c41 | exact nhi c47), if_pos (And.intro (Int32.not_lt.mp c61) (Int32.not_lt.mp c67))]; done) | (rw [if_neg (by first | exact nlo c24 | exact nhi c30), if_neg (by first | exact nlo c41 | exact nhi c47), if_neg (by first | exact nlo c61 | exact nhi c67)]; done)
      · refine ae_iload_n (pc := 44) dX9_digitAt_44 rfl ?_
        refine ae_bipush (pc := 45) (v := nI 102) dX9_digitAt_45 (by decide) ?_
        refine ae_icmp_gt (pc := 47) (t := 58) dX9_digitAt_47 (by decide) (fun c47 => ?_) (fun c47 => ?_)
        · refine ae_iload_n (pc := 58) dX9_digitAt_58 rfl ?_
          refine ae_bipush (pc := 59) (v := nI 65) dX9_digitAt_59 (by decide) ?_
          refine ae_icmp_lt (pc := 61) (t := 80) dX9_digitAt_61 (by decide) (fun c61 => ?_) (fun c61 => ?_)
          · refine ae_iconst (pc := 80) (v := (-1)) dX9_digitAt_80 (by decide) ?_
            refine ae_ireturn (pc := 81) dX9_digitAt_81 rfl ?_
            refine ⟨?_, rfl⟩
            unfold dgA dgt
            rw [e]
            first | (rw [if_pos (And.intro (Int32.not_lt.mp c24) (Int32.not_lt.mp c30))]; done) | (rw [if_neg (by first | exact nlo c24 | exact nhi c30), if_pos (And.intro (Int32.not_lt.mp c41) (Int32.not_lt.mp c47))]; done) | (rw [if_neg (by first | exact nlo c24 | exact nhi c30), if_neg (by first | exact nlo c41 | exact nhi c47), if_pos (And.intro (Int32.not_lt.mp c61) (Int32.not_lt.mp c67))]; done) | (rw [if_neg (by first | exact nlo c24 | exact nhi c30), if_neg (by first | exact nlo c41 | exact nhi c47), if_neg (by first | exact nlo c61 | exact nhi c67)]; done)
          · refine ae_iload_n (pc := 64) dX9_digitAt_64 rfl ?_
            refine ae_bipush (pc := 65) (v := nI 70) dX9_digitAt_65 (by decide) ?_
            refine ae_icmp_gt (pc := 67) (t := 80) dX9_digitAt_67 (by decide) (fun c67 => ?_) (fun c67 => ?_)
            · refine ae_iconst (pc := 80) (v := (-1)) dX9_digitAt_80 (by decide) ?_
              refine ae_ireturn (pc := 81) dX9_digitAt_81 rfl ?_
              refine ⟨?_, rfl⟩
              unfold dgA dgt
              rw [e]
              first | (rw [if_pos (And.intro (Int32.not_lt.mp c24) (Int32.not_lt.mp c30))]; done) | (rw [if_neg (by first | exact nlo c24 | exact nhi c30), if_pos (And.intro (Int32.not_lt.mp c41) (Int32.not_lt.mp c47))]; done) | (rw [if_neg (by first | exact nlo c24 | exact nhi c30), if_neg (by first | exact nlo c41 | exact nhi c47), if_pos (And.intro (Int32.not_lt.mp c61) (Int32.not_lt.mp c67))]; done) | (rw [if_neg (by first | exact nlo c24 | exact nhi c30), if_neg (by first | exact nlo c41 | exact nhi c47), if_neg (by first | exact nlo c61 | exact nhi c67)]; done)
            · refine ae_iload_n (pc := 70) dX9_digitAt_70 rfl ?_
              refine ae_bipush (pc := 71) (v := nI 65) dX9_digitAt_71 (by decide) ?_
              refine ae_isub (pc := 73) dX9_digitAt_73 rfl ?_
              refine ae_bipush (pc := 74) (v := nI 10) dX9_digitAt_74 (by decide) ?_
              refine ae_iadd (pc := 76) dX9_digitAt_76 rfl ?_
              refine ae_goto (pc := 77) (t := 81) dX9_digitAt_77 (by decide) ?_
              refine ae_ireturn (pc := 81) dX9_digitAt_81 rfl ?_
              refine ⟨?_, rfl⟩
              unfold dgA dgt
              rw [e]
              first | (rw [if_pos (And.intro (Int32.not_lt.mp c24) (Int32.not_lt.mp c30))]; done) | (rw [if_neg (by first | exact nlo c24 | exact nhi c30), if_pos (And.intro (Int32.not_lt.mp c41) (Int32.not_lt.mp c47))]; done) | (rw [if_neg (by first | exact nlo c24 | exact nhi c30), if_neg (by first | exact nlo c41 | exact nhi c47), if_pos (And.intro (Int32.not_lt.mp c61) (Int32.not_lt.mp c67))]; done) | (rw [if_neg (by first | exact nlo c24 | exact nhi c30), if_neg (by first | exact nlo c41 | exact nhi c47), if_neg (by first | exact nlo c61 | exact nhi c67)]; done)
        · refine ae_iload_n (pc := 50) dX9_digitAt_50 rfl ?_
          refine ae_bipush (pc := 51) (v := nI 97) dX9_digitAt_51 (by decide) ?_
          refine ae_isub (pc := 53) dX9_digitAt_53 rfl ?_
          refine ae_bipush (pc := 54) (v := nI 10) dX9_digitAt_54 (by decide) ?_
          refine ae_iadd (pc := 56) dX9_digitAt_56 rfl ?_
          refine ae_ireturn (pc := 57) dX9_digitAt_57 rfl ?_
          refine ⟨?_, rfl⟩
          unfold dgA dgt
          rw [e]
          first | (rw [if_pos (And.intro (Int32.not_lt.mp c24) (Int32.not_lt.mp c30))]; done) | (rw [if_neg (by first | exact nlo c24 | exact nhi c30), if_pos (And.intro (Int32.not_lt.mp c41) (Int32.not_lt.mp c47))]; done) | (rw [if_neg (by first | exact nlo c24 | exact nhi c30), if_neg (by first | exact nlo c41 | exact nhi c47), if_pos (And.intro (Int32.not_lt.mp c61) (Int32.not_lt.mp c67))]; done) | (rw [if_neg (by first | exact nlo c24 | exact nhi c30), if_neg (by first | exact nlo c41 | exact nhi c47), if_neg (by first | exact nlo c61 | exact nhi c67)]; done)
    · refine ae_iload_n (pc := 27) dX9_digitAt_27 rfl ?_
      refine ae_bipush (pc := 28) (v := nI 57) dX9_digitAt_28 (by decide) ?_
      refine ae_icmp_gt (pc := 30) (t := 38) dX9_digitAt_30 (by decide) (fun c30 => ?_) (fun c30 => ?_)
      · refine ae_iload_n (pc := 38) dX9_digitAt_38 rfl ?_
        refine ae_bipush (pc := 39) (v := nI 97) dX9_digitAt_39 (by decide) ?_
        refine ae_icmp_lt (pc := 41) (t := 58) dX9_digitAt_41 (by decide) (fun c41 => ?_) (fun c41 => ?_)
        · refine ae_iload_n (pc := 58) dX9_digitAt_58 rfl ?_
          refine ae_bipush (pc := 59) (v := nI 65) dX9_digitAt_59 (by decide) ?_
          refine ae_icmp_lt (pc := 61) (t := 80) dX9_digitAt_61 (by decide) (fun c61 => ?_) (fun c61 => ?_)
          · refine ae_iconst (pc := 80) (v := (-1)) dX9_digitAt_80 (by decide) ?_
            refine ae_ireturn (pc := 81) dX9_digitAt_81 rfl ?_
            refine ⟨?_, rfl⟩
            unfold dgA dgt
            rw [e]
            first | (rw [if_pos (And.intro (Int32.not_lt.mp c24) (Int32.not_lt.mp c30))]; done) | (rw [if_neg (by first | exact nlo c24 | exact nhi c30), if_pos (And.intro (Int32.not_lt.mp c41) (Int32.not_lt.mp c47))]; done) | (rw [if_neg (by first | exact nlo c24 | exact nhi c30), if_neg (by first | exact nlo c41 | exact nhi c47), if_pos (And.intro (Int32.not_lt.mp c61) (Int32.not_lt.mp c67))]; done) | (rw [if_neg (by first | exact nlo c24 | exact nhi c30), if_neg (by first | exact nlo c41 | exact nhi c47), if_neg (by first | exact nlo c61 | exact nhi c67)]; done)
          · refine ae_iload_n (pc := 64) dX9_digitAt_64 rfl ?_
            refine ae_bipush (pc := 65) (v := nI 70) dX9_digitAt_65 (by decide) ?_
            refine ae_icmp_gt (pc := 67) (t := 80) dX9_digitAt_67 (by decide) (fun c67 => ?_) (fun c67 => ?_)
            · refine ae_iconst (pc := 80) (v := (-1)) dX9_digitAt_80 (by decide) ?_
              refine ae_ireturn (pc := 81) dX9_digitAt_81 rfl ?_
              refine ⟨?_, rfl⟩
              unfold dgA dgt
              rw [e]
              first | (rw [if_pos (And.intro (Int32.not_lt.mp c24) (Int32.not_lt.mp c30))]; done) | (rw [if_neg (by first | exact nlo c24 | exact nhi c30), if_pos (And.intro (Int32.not_lt.mp c41) (Int32.not_lt.mp c47))]; done) | (rw [if_neg (by first | exact nlo c24 | exact nhi c30), if_neg (by first | exact nlo c41 | exact nhi c47), if_pos (And.intro (Int32.not_lt.mp c61) (Int32.not_lt.mp c67))]; done) | (rw [if_neg (by first | exact nlo c24 | exact nhi c30), if_neg (by first | exact nlo c41 | exact nhi c47), if_neg (by first | exact nlo c61 | exact nhi c67)]; done)
            · refine ae_iload_n (pc := 70) dX9_digitAt_70 rfl ?_
              refine ae_bipush (pc := 71) (v := nI 65) dX9_digitAt_71 (by decide) ?_
              refine ae_isub (pc := 73) dX9_digitAt_73 rfl ?_
              refine ae_bipush (pc := 74) (v := nI 10) dX9_digitAt_74 (by decide) ?_
              refine ae_iadd (pc := 76) dX9_digitAt_76 rfl ?_
              refine ae_goto (pc := 77) (t := 81) dX9_digitAt_77 (by decide) ?_
              refine ae_ireturn (pc := 81) dX9_digitAt_81 rfl ?_
              refine ⟨?_, rfl⟩
              unfold dgA dgt
              rw [e]
              first | (rw [if_pos (And.intro (Int32.not_lt.mp c24) (Int32.not_lt.mp c30))]; done) | (rw [if_neg (by first | exact nlo c24 | exact nhi c30), if_pos (And.intro (Int32.not_lt.mp c41) (Int32.not_lt.mp c47))]; done) | (rw [if_neg (by first | exact nlo c24 | exact nhi c30), if_neg (by first | exact nlo c41 | exact nhi c47), if_pos (And.intro (Int32.not_lt.mp c61) (Int32.not_lt.mp c67))]; done) | (rw [if_neg (by first | exact nlo c24 | exact nhi c30), if_neg (by first | exact nlo c41 | exact nhi c47), if_neg (by first | exact nlo c61 | exact nhi c67)]; done)
        · refine ae_iload_n (pc := 44) dX9_digitAt_44 rfl ?_
          refine ae_bipush (pc := 45) (v := nI 102) dX9_digitAt_45 (by decide) ?_
          refine ae_icmp_gt (pc := 47) (t := 58) dX9_digitAt_47 (by decide) (fun c47 => ?_) (fun c47 => ?_)
          · refine ae_iload_n (pc := 58) dX9_digitAt_58 rfl ?_
            refine ae_bipush (pc := 59) (v := nI 65) dX9_digitAt_59 (by decide) ?_
            refine ae_icmp_lt (pc := 61) (t := 80) dX9_digitAt_61 (by decide) (fun c61 => ?_) (fun c61 => ?_)
            · refine ae_iconst (pc := 80) (v := (-1)) dX9_digitAt_80 (by decide) ?_
              refine ae_ireturn (pc := 81) dX9_digitAt_81 rfl ?_
              refine ⟨?_, rfl⟩
              unfold dgA dgt
              rw [e]
              first | (rw [if_pos (And.intro (Int32.not_lt.mp c24) (Int32.not_lt.mp c30))]; done) | (rw [if_neg (by first | exact nlo c24 | exact nhi c30), if_pos (And.intro (Int32.not_lt.mp c41) (Int32.not_lt.mp c47))]; done) | (rw [if_neg (by first | exact nlo c24 | exact nhi c30), if_neg (by first | exact nlo c41 | exact nhi c47), if_pos (And.intro (Int32.not_lt.mp c61) (Int32.not_lt.mp c67))]; done) | (rw [if_neg (by first | exact nlo c24 | exact nhi c30), if_neg (by first | exact nlo c41 | exact nhi c47), if_neg (by first | exact nlo c61 | exact nhi c67)]; done)
            · refine ae_iload_n (pc := 64) dX9_digitAt_64 rfl ?_
              refine ae_bipush (pc := 65) (v := nI 70) dX9_digitAt_65 (by decide) ?_
              refine ae_icmp_gt (pc := 67) (t := 80) dX9_digitAt_67 (by decide) (fun c67 => ?_) (fun c67 => ?_)
              · refine ae_iconst (pc := 80) (v := (-1)) dX9_digitAt_80 (by decide) ?_
                refine ae_ireturn (pc := 81) dX9_digitAt_81 rfl ?_
                refine ⟨?_, rfl⟩
                unfold dgA dgt
                rw [e]
                first | (rw [if_pos (And.intro (Int32.not_lt.mp c24) (Int32.not_lt.mp c30))]; done) | (rw [if_neg (by first | exact nlo c24 | exact nhi c30), if_pos (And.intro (Int32.not_lt.mp c41) (Int32.not_lt.mp c47))]; done) | (rw [if_neg (by first | exact nlo c24 | exact nhi c30), if_neg (by first | exact nlo c41 | exact nhi c47), if_pos (And.intro (Int32.not_lt.mp c61) (Int32.not_lt.mp c67))]; done) | (rw [if_neg (by first | exact nlo c24 | exact nhi c30), if_neg (by first | exact nlo c41 | exact nhi c47), if_neg (by first | exact nlo c61 | exact nhi c67)]; done)
              · refine ae_iload_n (pc := 70) dX9_digitAt_70 rfl ?_
                refine ae_bipush (pc := 71) (v := nI 65) dX9_digitAt_71 (by decide) ?_
                refine ae_isub (pc := 73) dX9_digitAt_73 rfl ?_
                refine ae_bipush (pc := 74) (v := nI 10) dX9_digitAt_74 (by decide) ?_
                refine ae_iadd (pc := 76) dX9_digitAt_76 rfl ?_
                refine ae_goto (pc := 77) (t := 81) dX9_digitAt_77 (by decide) ?_
                refine ae_ireturn (pc := 81) dX9_digitAt_81 rfl ?_
                refine ⟨?_, rfl⟩
                unfold dgA dgt
                rw [e]
                first | (rw [if_pos (And.intro (Int32.not_lt.mp c24) (Int32.not_lt.mp c30))]; done) | (rw [if_neg (by first | exact nlo c24 | exact nhi c30), if_pos (And.intro (Int32.not_lt.mp c41) (Int32.not_lt.mp c47))]; done) | (rw [if_neg (by first | exact nlo c24 | exact nhi c30), if_neg (by first | exact nlo c41 | exact nhi c47), if_pos (And.intro (Int32.not_lt.mp c61) (Int32.not_lt.mp c67))]; done) | (rw [if_neg (by first | exact nlo c24 | exact nhi c30), if_neg (by first | exact nlo c41 | exact nhi c47), if_neg (by first | exact nlo c61 | exact nhi c67)]; done)
          · refine ae_iload_n (pc := 50) dX9_digitAt_50 rfl ?_
            refine ae_bipush (pc := 51) (v := nI 97) dX9_digitAt_51 (by decide) ?_
            refine ae_isub (pc := 53) dX9_digitAt_53 rfl ?_
            refine ae_bipush (pc := 54) (v := nI 10) dX9_digitAt_54 (by decide) ?_
            refine ae_iadd (pc := 56) dX9_digitAt_56 rfl ?_
            refine ae_ireturn (pc := 57) dX9_digitAt_57 rfl ?_
            refine ⟨?_, rfl⟩
            unfold dgA dgt
            rw [e]
            first | (rw [if_pos (And.intro (Int32.not_lt.mp c24) (Int32.not_lt.mp c30))]; done) | (rw [if_neg (by first | exact nlo c24 | exact nhi c30), if_pos (And.intro (Int32.not_lt.mp c41) (Int32.not_lt.mp c47))]; done) | (rw [if_neg (by first | exact nlo c24 | exact nhi c30), if_neg (by first | exact nlo c41 | exact nhi c47), if_pos (And.intro (Int32.not_lt.mp c61) (Int32.not_lt.mp c67))]; done) | (rw [if_neg (by first | exact nlo c24 | exact nhi c30), if_neg (by first | exact nlo c41 | exact nhi c47), if_neg (by first | exact nlo c61 | exact nhi c67)]; done)
      · refine ae_iload_n (pc := 33) dX9_digitAt_33 rfl ?_
        refine ae_bipush (pc := 34) (v := nI 48) dX9_digitAt_34 (by decide) ?_
        refine ae_isub (pc := 36) dX9_digitAt_36 rfl ?_
        refine ae_ireturn (pc := 37) dX9_digitAt_37 rfl ?_
        refine ⟨?_, rfl⟩
        unfold dgA dgt
        rw [e]
        first | (rw [if_pos (And.intro (Int32.not_lt.mp c24) (Int32.not_lt.mp c30))]; done) | (rw [if_neg (by first | exact nlo c24 | exact nhi c30), if_pos (And.intro (Int32.not_lt.mp c41) (Int32.not_lt.mp c47))]; done) | (rw [if_neg (by first | exact nlo c24 | exact nhi c30), if_neg (by first | exact nlo c41 | exact nhi c47), if_pos (And.intro (Int32.not_lt.mp c61) (Int32.not_lt.mp c67))]; done) | (rw [if_neg (by first | exact nlo c24 | exact nhi c30), if_neg (by first | exact nlo c41 | exact nhi c47), if_neg (by first | exact nlo c61 | exact nhi c67)]; done)
  · refine ae_iload_n (pc := 0) dX9_digitAt_0 rfl ?_
    refine ae_if_lt (pc := 1) (t := 12) dX9_digitAt_1 (by decide) (fun c1 => ?_) (fun c1 => ?_)
    · exact absurd c1 h0
    refine ae_iload_n (pc := 4) dX9_digitAt_4 rfl ?_
    refine ae_aload_n (pc := 5) dX9_digitAt_5 rfl ?_
    refine ae_getI (pc := 6) (k := 8) (c := 9) (j := 1) (v := nI n) dX9_digitAt_6 rfl rfl (Or.inl rfl) (Nat.le_of_ble_eq_true rfl) rfl (Nat.le_of_ble_eq_true rfl) h1 ?_
    refine ae_icmp_lt (pc := 9) (t := 14) dX9_digitAt_9 (by decide) (fun c9 => ?_) (fun c9 => ?_)
    · exact absurd ((nI_ltI (by omega) (by omega)).mp c9) hin
    · refine ae_iconst (pc := 12) (v := (-1)) dX9_digitAt_12 (by decide) ?_
      refine ae_ireturn (pc := 13) dX9_digitAt_13 rfl ?_
      exact ⟨by rw [dgA_end (by omega)], rfl⟩
theorem sc_digitsFrom (d : Nat) (M : am_M) (n : Nat) (t : fT) (h : TX M n t) (a : Nat) (ha : a < 500) : am_R (d + 2) zX9_digitsFrom [.ref 8, .int (nI a)] M (fun v M' => v = some (.int (nI (dgN t n a 6))) ∧ M' = M) := by
  refine ae_enter (z := zX9_digitsFrom) (y := yX9_digitsFrom) (cc := cX9_digitsFrom) (mL := 3) (rt := some .int) (ci := 9) (st := false) (np := 1) (L := [some (.ref 8), some (.int (nI a)), none]) rfl (by decide) (Nat.le_of_ble_eq_true rfl) rfl ?_
  refine ae_iconst (pc := 0) (v := nI 0) dX9_digitsFrom_0 (by decide) ?_
  refine ae_istore_n (pc := 1) dX9_digitsFrom_1 rfl (Nat.le_of_ble_eq_true rfl) ?_
  skip
  refine am_down (P := fun k => dgN t n a k = k → am_E none (am_R (d + 1)) cX9_digitsFrom 9 (some .int) _ (2, [some (.ref 8), some (.int (nI a)), some (.int (nI k))], [], M)) 6 (fun k hk ih hkn => ?_) rfl
  refine ae_iload_n (pc := 2) dX9_digitsFrom_2 rfl ?_
  refine ae_bipush (pc := 3) (v := nI 6) dX9_digitsFrom_3 (by decide) ?_
  refine ae_icmp_ge (pc := 5) (t := 25) dX9_digitsFrom_5 (by decide) (fun c5 => ?_) (fun c5 => ?_)
  · have hk2 : k = 6 := by rw [nI_leI (by omega) (by omega)] at c5; omega
    subst hk2
    refine ae_iload_n (pc := 25) dX9_digitsFrom_25 rfl ?_
    refine ae_ireturn (pc := 26) dX9_digitsFrom_26 rfl ?_
    exact ⟨by rw [hkn], rfl⟩
  · have hk2 : k < 6 := by rw [nI_leI (by omega) (by omega)] at c5; omega
    refine ae_aload_n (pc := 8) dX9_digitsFrom_8 rfl ?_
    refine ae_iload_n (pc := 9) dX9_digitsFrom_9 rfl ?_
    refine ae_iload_n (pc := 10) dX9_digitsFrom_10 rfl ?_
    refine ae_iadd (pc := 11) (v := nI (a + k)) dX9_digitsFrom_11 (nI_add _ _) ?_
    refine ae_pcallV (pc := 12) (z := zX9_digitAt) (k := 8) (As := [_]) dX9_digitsFrom_12 rfl rfl rfl rfl (Nat.le_of_ble_eq_true rfl) rfl (Nat.le_of_ble_eq_true rfl) (Nat.le_of_ble_eq_true rfl) (sc_digitAt d M n t h (a + k) (by omega)) ?_
    refine ae_iconst (pc := 15) (v := (-1)) dX9_digitsFrom_15 (by decide) ?_
    refine ae_icmp_eq (pc := 16) (t := 25) dX9_digitsFrom_16 (by decide) (fun c16 => ?_) (fun c16 => ?_)
    · refine ae_iload_n (pc := 25) dX9_digitsFrom_25 rfl ?_
      refine ae_ireturn (pc := 26) dX9_digitsFrom_26 rfl ?_
      refine ⟨?_, rfl⟩
      have h9 : dgN t n a (k + 1) = k := (by rw [dgN_s, if_neg (fun q => (dgA_0.mp q.2) c16), hkn])
      have h8 := dgN_full (t := t) (n := n) (a := a) (k := k + 1) (by omega) (6 - (k + 1))
      rw [show k + 1 + (6 - (k + 1)) = 6 by omega] at h8
      rw [h8, h9]
    · refine ae_iinc (pc := 19) (v := nI (k + 1)) dX9_digitsFrom_19 rfl (nI_inc k) ?_
      refine ae_goto (pc := 22) (t := 2) dX9_digitsFrom_22 (by decide) ?_
      exact ih hk2 (by rw [dgN_s, if_pos ⟨hkn, dgA_0.mpr c16⟩])
theorem sc_shortColor (d : Nat) (M : am_M) (n : Nat) (t : fT) (h : TX M n t) (a : Nat) (ha : a < 500) (h3 : dgN t n a 6 = 3) : am_R (d + 2) zX9_shortColor [.ref 8, .int (nI a)] M (fun v M' => v = some (.int (rdC t n a)) ∧ M' = M) := by
  refine ae_enter (z := zX9_shortColor) (y := yX9_shortColor) (cc := cX9_shortColor) (mL := 2) (rt := some .int) (ci := 9) (st := false) (np := 1) (L := [some (.ref 8), some (.int (nI a))]) rfl (by decide) (Nat.le_of_ble_eq_true rfl) rfl ?_
  refine ae_bipush (pc := 0) (v := nI 17) dX9_shortColor_0 (by decide) ?_
  refine ae_aload_n (pc := 2) dX9_shortColor_2 rfl ?_
  refine ae_iload_n (pc := 3) dX9_shortColor_3 rfl ?_
  refine ae_pcallV (pc := 4) (z := zX9_digitAt) (k := 8) (As := [_]) dX9_shortColor_4 rfl rfl rfl rfl (Nat.le_of_ble_eq_true rfl) rfl (Nat.le_of_ble_eq_true rfl) (Nat.le_of_ble_eq_true rfl) (sc_digitAt d M n t h a (by omega)) ?_
  refine ae_imul (pc := 7) dX9_shortColor_7 rfl ?_
  refine ae_bipush (pc := 8) (v := nI 17) dX9_shortColor_8 (by decide) ?_
  refine ae_aload_n (pc := 10) dX9_shortColor_10 rfl ?_
  refine ae_iload_n (pc := 11) dX9_shortColor_11 rfl ?_
  refine ae_iconst (pc := 12) (v := nI 1) dX9_shortColor_12 (by decide) ?_
  refine ae_iadd (pc := 13) (v := nI (a + 1)) dX9_shortColor_13 (nI_add _ _) ?_
  refine ae_pcallV (pc := 14) (z := zX9_digitAt) (k := 8) (As := [_]) dX9_shortColor_14 rfl rfl rfl rfl (Nat.le_of_ble_eq_true rfl) rfl (Nat.le_of_ble_eq_true rfl) (Nat.le_of_ble_eq_true rfl) (sc_digitAt d M n t h (a + 1) (by omega)) ?_
  refine ae_imul (pc := 17) dX9_shortColor_17 rfl ?_
  refine ae_bipush (pc := 18) (v := nI 17) dX9_shortColor_18 (by decide) ?_
  refine ae_aload_n (pc := 20) dX9_shortColor_20 rfl ?_
  refine ae_iload_n (pc := 21) dX9_shortColor_21 rfl ?_
  refine ae_iconst (pc := 22) (v := nI 2) dX9_shortColor_22 (by decide) ?_
  refine ae_iadd (pc := 23) (v := nI (a + 2)) dX9_shortColor_23 (nI_add _ _) ?_
  refine ae_pcallV (pc := 24) (z := zX9_digitAt) (k := 8) (As := [_]) dX9_shortColor_24 rfl rfl rfl rfl (Nat.le_of_ble_eq_true rfl) rfl (Nat.le_of_ble_eq_true rfl) (Nat.le_of_ble_eq_true rfl) (sc_digitAt d M n t h (a + 2) (by omega)) ?_
  refine ae_imul (pc := 27) dX9_shortColor_27 rfl ?_
  refine ae_pcallS (pc := 28) (z := zX10_colorOf) (As := [_, _, _]) dX9_shortColor_28 rfl rfl rfl rfl (Nat.le_of_ble_eq_true rfl) (sc_colorOf d _ _ _ _) ?_
  refine ae_ireturn (pc := 31) dX9_shortColor_31 rfl ?_
  exact ⟨by rw [(rdC_3 h3).1], rfl⟩
theorem sc_longColor (d : Nat) (M : am_M) (n : Nat) (t : fT) (h : TX M n t) (a : Nat) (ha : a < 500) (h6 : dgN t n a 6 = 6) : am_R (d + 2) zX9_longColor [.ref 8, .int (nI a)] M (fun v M' => v = some (.int (rdC t n a)) ∧ M' = M) := by
  refine ae_enter (z := zX9_longColor) (y := yX9_longColor) (cc := cX9_longColor) (mL := 4) (rt := some .int) (ci := 9) (st := false) (np := 1) (L := [some (.ref 8), some (.int (nI a)), none, none]) rfl (by decide) (Nat.le_of_ble_eq_true rfl) rfl ?_
  refine ae_iconst (pc := 0) (v := nI 0) dX9_longColor_0 (by decide) ?_
  refine ae_istore_n (pc := 1) dX9_longColor_1 rfl (Nat.le_of_ble_eq_true rfl) ?_
  refine ae_iconst (pc := 2) (v := nI 0) dX9_longColor_2 (by decide) ?_
  refine ae_istore_n (pc := 3) dX9_longColor_3 rfl (Nat.le_of_ble_eq_true rfl) ?_
  skip
  refine am_down (P := fun k => am_E none (am_R (d + 1)) cX9_longColor 9 (some .int) _ (4, [some (.ref 8), some (.int (nI a)), some (.int (dgV t n a k)), some (.int (nI k))], [], M)) 6 (fun k hk ih => ?_)
  refine ae_iload_n (pc := 4) dX9_longColor_4 rfl ?_
  refine ae_bipush (pc := 5) (v := nI 6) dX9_longColor_5 (by decide) ?_
  refine ae_icmp_ge (pc := 7) (t := 29) dX9_longColor_7 (by decide) (fun c7 => ?_) (fun c7 => ?_)
  · have hk2 : k = 6 := by rw [nI_leI (by omega) (by omega)] at c7; omega
    subst hk2
    refine ae_iload_n (pc := 29) dX9_longColor_29 rfl ?_
    refine ae_ireturn (pc := 30) dX9_longColor_30 rfl ?_
    exact ⟨by rw [(rdC_6 h6).1], rfl⟩
  · have hk2 : k < 6 := by rw [nI_leI (by omega) (by omega)] at c7; omega
    refine ae_bipush (pc := 10) (v := nI 16) dX9_longColor_10 (by decide) ?_
    refine ae_iload_n (pc := 12) dX9_longColor_12 rfl ?_
    refine ae_imul (pc := 13) dX9_longColor_13 rfl ?_
    refine ae_aload_n (pc := 14) dX9_longColor_14 rfl ?_
    refine ae_iload_n (pc := 15) dX9_longColor_15 rfl ?_
    refine ae_iload_n (pc := 16) dX9_longColor_16 rfl ?_
    refine ae_iadd (pc := 17) (v := nI (a + k)) dX9_longColor_17 (nI_add _ _) ?_
    refine ae_pcallV (pc := 18) (z := zX9_digitAt) (k := 8) (As := [_]) dX9_longColor_18 rfl rfl rfl rfl (Nat.le_of_ble_eq_true rfl) rfl (Nat.le_of_ble_eq_true rfl) (Nat.le_of_ble_eq_true rfl) (sc_digitAt d M n t h (a + k) (by omega)) ?_
    refine ae_iadd (pc := 21) (v := dgV t n a (k + 1)) dX9_longColor_21 rfl ?_
    refine ae_istore_n (pc := 22) dX9_longColor_22 rfl (Nat.le_of_ble_eq_true rfl) ?_
    refine ae_iinc (pc := 23) (v := nI (k + 1)) dX9_longColor_23 rfl (nI_inc k) ?_
    refine ae_goto (pc := 26) (t := 4) dX9_longColor_26 (by decide) ?_
    exact ih hk2
theorem sc_parse (d : Nat) (M : am_M) (n : Nat) (t : fT) (h : TX M n t) (rc rl : fT) : am_R (d + 3) zX9_parse [.ref 8] M (fun v M' => v = some (.int (prs t n n 0 0 rc rl).1) ∧ ∃ cc cl, M' = txM M (upd (M.1 8) 4 (nI (prs t n n 0 0 rc rl).2.1)) (M.1 9) cc cl ∧ ∀ j, j < (prs t n n 0 0 rc rl).2.1 → cc j = (prs t n n 0 0 rc rl).2.2.1 j ∧ cl j = (prs t n n 0 0 rc rl).2.2.2 j) := by
  refine ae_enter (z := zX9_parse) (y := yX9_parse) (cc := cX9_parse) (mL := 4) (rt := some .int) (ci := 9) (st := false) (np := 0) (L := [some (.ref 8), none, none, none]) rfl (by decide) (Nat.le_of_ble_eq_true rfl) rfl ?_
  obtain ⟨hn, h1, h2⟩ := h
  have e8 : ∀ r cc cl, (txM M (upd (M.1 8) 4 (nI r)) (M.1 9) cc cl).1 8 1 = nI n := fun r cc cl => by rw [txM_8, upd_ne _ _ (by decide)]; exact h1
  have e4 : ∀ r cc cl, (txM M (upd (M.1 8) 4 (nI r)) (M.1 9) cc cl).1 8 4 = nI r := fun r cc cl => by rw [txM_8, upd_self]
  have eT : ∀ r cc cl, TX (txM M (upd (M.1 8) 4 (nI r)) (M.1 9) cc cl) n t := fun r cc cl => ⟨hn, e8 r cc cl, fun i hi => by rw [txM_9]; exact h2 i hi⟩
  have e9 : ∀ r cc cl i, i < n → (txM M (upd (M.1 8) 4 (nI r)) (M.1 9) cc cl).1 9 i = t i := fun r cc cl i hi => by rw [txM_9]; exact h2 i hi
  have uu : ∀ (r r' : Nat), upd (upd (M.1 8) 4 (nI r)) 4 (nI r') = upd (M.1 8) 4 (nI r') := fun r r' => by funext j; simp only [upd]; split <;> rfl
  have key : ∀ m i r rc rl cc cl, n ≤ i + m → r ≤ 16 → i ≤ 147 → (∀ j, j < r → cc j = rc j ∧ cl j = rl j) → am_E none (am_R (d + 2)) cX9_parse 9 (some .int) (fun v M' => v = some (.int (prs t n m i r rc rl).1) ∧ ∃ cc cl, M' = txM M (upd (M.1 8) 4 (nI (prs t n m i r rc rl).2.1)) (M.1 9) cc cl ∧ ∀ j, j < (prs t n m i r rc rl).2.1 → cc j = (prs t n m i r rc rl).2.2.1 j ∧ cl j = (prs t n m i r rc rl).2.2.2 j) (7, [some (.ref 8), some (.int (nI i)), none, none], [], txM M (upd (M.1 8) 4 (nI r)) (M.1 9) cc cl) := by
    intro m
    induction m with
    | zero =>
      intro i r rc rl cc cl hm hr hi hj
      refine ae_iload_n (pc := 7) dX9_parse_7 rfl ?_
      refine ae_aload_n (pc := 8) dX9_parse_8 rfl ?_
      refine ae_getI (pc := 9) (k := 8) (c := 9) (j := 1) (v := nI n) dX9_parse_9 rfl rfl (Or.inl rfl) (Nat.le_of_ble_eq_true rfl) rfl (Nat.le_of_ble_eq_true rfl) (e8 _ _ _) ?_
      refine ae_icmp_ge (pc := 12) (t := 172) dX9_parse_12 (by decide) (fun c12 => ?_) (fun c12 => ?_)
      rotate_left
      · exact absurd (nI_le (by omega) (by omega)) c12
      refine ae_iconst (pc := 172) (v := (-1)) dX9_parse_172 (by decide) ?_
      refine ae_ireturn (pc := 173) dX9_parse_173 rfl ?_
      exact ⟨rfl, cc, cl, rfl, hj⟩
    | succ m ih =>
      intro i r rc rl cc cl hm hr hi hj
      refine ae_iload_n (pc := 7) dX9_parse_7 rfl ?_
      refine ae_aload_n (pc := 8) dX9_parse_8 rfl ?_
      refine ae_getI (pc := 9) (k := 8) (c := 9) (j := 1) (v := nI n) dX9_parse_9 rfl rfl (Or.inl rfl) (Nat.le_of_ble_eq_true rfl) rfl (Nat.le_of_ble_eq_true rfl) (e8 _ _ _) ?_
      refine ae_icmp_ge (pc := 12) (t := 172) dX9_parse_12 (by decide) (fun c12 => ?_) (fun c12 => ?_)
      · rw [nI_leI (by omega) (by omega)] at c12
        have ep : prs t n (m + 1) i r rc rl = (-1, r, rc, rl) := by rw [prs, if_pos c12]
        rw [ep]
        refine ae_iconst (pc := 172) (v := (-1)) dX9_parse_172 (by decide) ?_
        refine ae_ireturn (pc := 173) dX9_parse_173 rfl ?_
        exact ⟨rfl, cc, cl, rfl, hj⟩
      · rw [nI_leI (by omega) (by omega)] at c12
        refine ae_aload_n (pc := 15) dX9_parse_15 rfl ?_
        refine ae_getR (pc := 16) (k := 8) (c := 9) (j := 0) (q := 9) dX9_parse_16 rfl rfl (Nat.le_of_ble_eq_true rfl) rfl (Nat.le_of_ble_eq_true rfl) rfl ?_
        refine ae_iload_n (pc := 19) dX9_parse_19 rfl ?_
        refine ae_iaload (pc := 20) (k := 9) (N := 140) (v := t i) (i) dX9_parse_20 (Nat.le_of_ble_eq_true rfl) rfl rfl rfl (by omega) (e9 _ _ _ i (by omega)) ?_
        refine ae_istore_n (pc := 21) dX9_parse_21 rfl (Nat.le_of_ble_eq_true rfl) ?_
        refine ae_iinc (pc := 22) (v := nI (i + 1)) dX9_parse_22 rfl (nI_inc i) ?_
        by_cases hc : t i = nI 35 ∧ r < 16
        · have h6 := dgN_le t n (i + 1) 6
          have hdf := sc_digitsFrom d _ n t (eT r cc cl) (i + 1) (by omega)
          by_cases hno : dgN t n (i + 1) 6 ≠ 3 ∧ dgN t n (i + 1) 6 ≠ 6
          · have ep : prs t n (m + 1) i r rc rl = (nI (i + 1 + dgN t n (i + 1) 6), r, upd rc r (rdC t n (i + 1)), rl) := by rw [prs, if_neg c12, if_pos hc, if_pos (rdC_no hno.1 hno.2)]
            rw [ep]
            refine ae_iload_n (pc := 25) dX9_parse_25 rfl ?_
            refine ae_bipush (pc := 26) (v := nI 32) dX9_parse_26 (by decide) ?_
            refine ae_icmp_eq (pc := 28) (t := 7) dX9_parse_28 (by decide) (fun c28 => ?_) (fun c28 => ?_)
            · first | exact absurd (hc.1.symm.trans c28) (by decide) | exact absurd (hc.1.symm.trans (Classical.not_not.mp c34)) (by decide)
            · refine ae_iload_n (pc := 31) dX9_parse_31 rfl ?_
              refine ae_bipush (pc := 32) (v := nI 44) dX9_parse_32 (by decide) ?_
              refine ae_icmp_ne (pc := 34) (t := 40) dX9_parse_34 (by decide) (fun c34 => ?_) (fun c34 => ?_)
              · refine ae_iload_n (pc := 40) dX9_parse_40 rfl ?_
                refine ae_bipush (pc := 41) (v := nI 35) dX9_parse_41 (by decide) ?_
                refine ae_icmp_ne (pc := 43) (t := 55) dX9_parse_43 (by decide) (fun c43 => ?_) (fun c43 => ?_)
                · exact absurd hc.1 c43
                refine ae_aload_n (pc := 46) dX9_parse_46 rfl ?_
                refine ae_getI (pc := 47) (k := 8) (c := 9) (j := 4) (v := nI r) dX9_parse_47 rfl rfl (Or.inl rfl) (Nat.le_of_ble_eq_true rfl) rfl (Nat.le_of_ble_eq_true rfl) (e4 _ _ _) ?_
                refine ae_bipush (pc := 50) (v := nI 16) dX9_parse_50 (by decide) ?_
                refine ae_icmp_lt (pc := 52) (t := 59) dX9_parse_52 (by decide) (fun c52 => ?_) (fun c52 => ?_)
                rotate_left
                · exact absurd ((nI_ltI (by omega) (by omega)).mpr hc.2) c52
                refine ae_aload_n (pc := 59) dX9_parse_59 rfl ?_
                refine ae_iload_n (pc := 60) dX9_parse_60 rfl ?_
                refine ae_pcallV (pc := 61) (z := zX9_digitsFrom) (k := 8) (As := [_]) dX9_parse_61 rfl rfl rfl rfl (Nat.le_of_ble_eq_true rfl) rfl (Nat.le_of_ble_eq_true rfl) (Nat.le_of_ble_eq_true rfl) (hdf) ?_
                refine ae_istore_n (pc := 64) dX9_parse_64 rfl (Nat.le_of_ble_eq_true rfl) ?_
                refine ae_iload_n (pc := 65) dX9_parse_65 rfl ?_
                refine ae_iconst (pc := 66) (v := nI 3) dX9_parse_66 (by decide) ?_
                refine ae_icmp_eq (pc := 67) (t := 80) dX9_parse_67 (by decide) (fun c67 => ?_) (fun c67 => ?_)
                · exact absurd ((nI_eq (by omega) (by omega)).mp c67) hno.1
                refine ae_iload_n (pc := 70) dX9_parse_70 rfl ?_
                refine ae_bipush (pc := 71) (v := nI 6) dX9_parse_71 (by decide) ?_
                refine ae_icmp_eq (pc := 73) (t := 80) dX9_parse_73 (by decide) (fun c73 => ?_) (fun c73 => ?_)
                · exact absurd ((nI_eq (by omega) (by omega)).mp c73) hno.2
                refine ae_iload_n (pc := 76) dX9_parse_76 rfl ?_
                refine ae_iload_n (pc := 77) dX9_parse_77 rfl ?_
                refine ae_iadd (pc := 78) (v := nI (i + 1 + dgN t n (i + 1) 6)) dX9_parse_78 (nI_add _ _) ?_
                refine ae_ireturn (pc := 79) dX9_parse_79 rfl ?_
                refine ⟨rfl, cc, cl, rfl, fun j hjr => ?_⟩
                have hjr2 : j < r := hjr
                dsimp only
                rw [upd_ne _ _ (show j ≠ r by omega)]
                exact hj j hjr2
              · refine ae_goto (pc := 37) (t := 7) dX9_parse_37 (by decide) ?_
                first | exact absurd (hc.1.symm.trans c28) (by decide) | exact absurd (hc.1.symm.trans (Classical.not_not.mp c34)) (by decide)
          · have h36 : dgN t n (i + 1) 6 = 3 ∨ dgN t n (i + 1) 6 = 6 := by omega
            have hne : ¬ rdC t n (i + 1) = -1 := by
              rcases h36 with q | q
              · exact okc_ne (rdC_3 q).2
              · exact okc_ne (rdC_6 q).2
            have tail : am_E none (am_R (d + 2)) cX9_parse 9 (some .int) (fun v M' => v = some (.int (prs t n (m + 1) i r rc rl).1) ∧ ∃ cc cl, M' = txM M (upd (M.1 8) 4 (nI (prs t n (m + 1) i r rc rl).2.1)) (M.1 9) cc cl ∧ ∀ j, j < (prs t n (m + 1) i r rc rl).2.1 → cc j = (prs t n (m + 1) i r rc rl).2.2.1 j ∧ cl j = (prs t n (m + 1) i r rc rl).2.2.2 j) (106, [some (.ref 8), some (.int (nI (i + 1))), some (.int (t i)), some (.int (nI (dgN t n (i + 1) 6)))], [.int (rdC t n (i + 1)), .int (nI r), .ref 10], txM M (upd (M.1 8) 4 (nI r)) (M.1 9) cc cl) := by
              by_cases hx : i + 1 + dgN t n (i + 1) 6 < n ∧ t (i + 1 + dgN t n (i + 1) 6) = nI 33
              · have ep : prs t n (m + 1) i r rc rl = prs t n m (i + 1 + dgN t n (i + 1) 6 + 1) (r + 1) (upd rc r (rdC t n (i + 1))) (upd rl r (nI 1)) := by rw [prs, if_neg c12, if_pos hc, if_neg hne, if_pos hx]
                rw [ep]
                have st := ih (i + 1 + dgN t n (i + 1) 6 + 1) (r + 1) (upd rc r (rdC t n (i + 1))) (upd rl r (nI 1)) (upd cc r (rdC t n (i + 1))) (upd cl r (nI 1)) (by omega) (by omega) (by omega) (fun j hjr => by
                  by_cases q : j = r
                  · subst q; rw [upd_self, upd_self, upd_self, upd_self]; exact ⟨rfl, rfl⟩
                  · rw [upd_ne _ _ q, upd_ne _ _ q, upd_ne _ _ q, upd_ne _ _ q]; exact hj j (by omega))
                refine ae_iastore (pc := 106) (k := 10) (N := 16) (r) dX9_parse_106 (Nat.le_of_ble_eq_true rfl) rfl rfl rfl (by omega) rfl ?_
                refine ae_M (txM_u10 _ _ _ _ _ _) ?_
                rw [txM_10]
                refine ae_iload_n (pc := 107) dX9_parse_107 rfl ?_
                refine ae_iload_n (pc := 108) dX9_parse_108 rfl ?_
                refine ae_iadd (pc := 109) (v := nI (i + 1 + dgN t n (i + 1) 6)) dX9_parse_109 (nI_add _ _) ?_
                refine ae_istore_n (pc := 110) dX9_parse_110 rfl (Nat.le_of_ble_eq_true rfl) ?_
                refine ae_aload_n (pc := 111) dX9_parse_111 rfl ?_
                refine ae_getR (pc := 112) (k := 8) (c := 9) (j := 3) (q := 11) dX9_parse_112 rfl rfl (Nat.le_of_ble_eq_true rfl) rfl (Nat.le_of_ble_eq_true rfl) rfl ?_
                refine ae_aload_n (pc := 115) dX9_parse_115 rfl ?_
                refine ae_getI (pc := 116) (k := 8) (c := 9) (j := 4) (v := nI r) dX9_parse_116 rfl rfl (Or.inl rfl) (Nat.le_of_ble_eq_true rfl) rfl (Nat.le_of_ble_eq_true rfl) (e4 _ _ _) ?_
                refine ae_iload_n (pc := 119) dX9_parse_119 rfl ?_
                refine ae_aload_n (pc := 120) dX9_parse_120 rfl ?_
                refine ae_getI (pc := 121) (k := 8) (c := 9) (j := 1) (v := nI n) dX9_parse_121 rfl rfl (Or.inl rfl) (Nat.le_of_ble_eq_true rfl) rfl (Nat.le_of_ble_eq_true rfl) (e8 _ _ _) ?_
                refine ae_icmp_ge (pc := 124) (t := 142) dX9_parse_124 (by decide) (fun c124 => ?_) (fun c124 => ?_)
                · exact absurd ((nI_leI (by omega) (by omega)).mp c124) (by omega)
                refine ae_aload_n (pc := 127) dX9_parse_127 rfl ?_
                refine ae_getR (pc := 128) (k := 8) (c := 9) (j := 0) (q := 9) dX9_parse_128 rfl rfl (Nat.le_of_ble_eq_true rfl) rfl (Nat.le_of_ble_eq_true rfl) rfl ?_
                refine ae_iload_n (pc := 131) dX9_parse_131 rfl ?_
                refine ae_iaload (pc := 132) (k := 9) (N := 140) (v := nI 33) (i + 1 + dgN t n (i + 1) 6) dX9_parse_132 (Nat.le_of_ble_eq_true rfl) rfl rfl rfl (by omega) ((e9 _ _ _ _ hx.1).trans hx.2) ?_
                refine ae_bipush (pc := 133) (v := nI 33) dX9_parse_133 (by decide) ?_
                refine ae_icmp_ne (pc := 135) (t := 142) dX9_parse_135 (by decide) (fun c135 => ?_) (fun c135 => ?_)
                · exact absurd rfl c135
                refine ae_iconst (pc := 138) (v := nI 1) dX9_parse_138 (by decide) ?_
                refine ae_goto (pc := 139) (t := 143) dX9_parse_139 (by decide) ?_
                refine ae_bastore (pc := 143) (k := 11) (N := 16) (v := nI 1) (r) dX9_parse_143 (Nat.le_of_ble_eq_true rfl) rfl rfl rfl (by omega) (by decide) ?_
                refine ae_M (txM_u11 _ _ _ _ _ _) ?_
                rw [txM_11]
                refine ae_aload_n (pc := 144) dX9_parse_144 rfl ?_
                refine ae_getR (pc := 145) (k := 8) (c := 9) (j := 3) (q := 11) dX9_parse_145 rfl rfl (Nat.le_of_ble_eq_true rfl) rfl (Nat.le_of_ble_eq_true rfl) rfl ?_
                refine ae_aload_n (pc := 148) dX9_parse_148 rfl ?_
                refine ae_getI (pc := 149) (k := 8) (c := 9) (j := 4) (v := nI r) dX9_parse_149 rfl rfl (Or.inl rfl) (Nat.le_of_ble_eq_true rfl) rfl (Nat.le_of_ble_eq_true rfl) (e4 _ _ _) ?_
                refine ae_baload (pc := 152) (k := 11) (N := 16) (v := nI 1) (r) dX9_parse_152 (Nat.le_of_ble_eq_true rfl) rfl rfl rfl (by omega) (by rw [txM_11, upd_self]) ?_
                refine ae_if_eq (pc := 153) (t := 159) dX9_parse_153 (by decide) (fun c153 => ?_) (fun c153 => ?_)
                · exact absurd c153 (by decide)
                refine ae_iinc (pc := 156) (v := nI (i + 1 + dgN t n (i + 1) 6 + 1)) dX9_parse_156 rfl (nI_inc _) ?_
                refine ae_aload_n (pc := 159) dX9_parse_159 rfl ?_
                refine ae_dup (pc := 160) dX9_parse_160 rfl ?_
                refine ae_getI (pc := 161) (k := 8) (c := 9) (j := 4) (v := nI r) dX9_parse_161 rfl rfl (Or.inl rfl) (Nat.le_of_ble_eq_true rfl) rfl (Nat.le_of_ble_eq_true rfl) (e4 _ _ _) ?_
                refine ae_iconst (pc := 164) (v := nI 1) dX9_parse_164 (by decide) ?_
                refine ae_iadd (pc := 165) (v := nI (r + 1)) dX9_parse_165 (nI_add _ _) ?_
                refine ae_putfield (pc := 166) (k := 8) (c := 9) (j := 4) dX9_parse_166 rfl rfl (Nat.le_of_ble_eq_true rfl) rfl (Nat.le_of_ble_eq_true rfl) rfl rfl ?_
                refine ae_M (txM_u8 _ _ _ _ _ _) ?_
                rw [txM_8, uu]
                refine ae_goto (pc := 169) (t := 7) dX9_parse_169 (by decide) ?_
                exact ae_forget [2, 3] rfl st
              · have ep : prs t n (m + 1) i r rc rl = prs t n m (i + 1 + dgN t n (i + 1) 6) (r + 1) (upd rc r (rdC t n (i + 1))) (upd rl r (nI 0)) := by rw [prs, if_neg c12, if_pos hc, if_neg hne, if_neg hx]
                rw [ep]
                have st := ih (i + 1 + dgN t n (i + 1) 6) (r + 1) (upd rc r (rdC t n (i + 1))) (upd rl r (nI 0)) (upd cc r (rdC t n (i + 1))) (upd cl r (nI 0)) (by omega) (by omega) (by omega) (fun j hjr => by
                  by_cases q : j = r
                  · subst q; rw [upd_self, upd_self, upd_self, upd_self]; exact ⟨rfl, rfl⟩
                  · rw [upd_ne _ _ q, upd_ne _ _ q, upd_ne _ _ q, upd_ne _ _ q]; exact hj j (by omega))
                refine ae_iastore (pc := 106) (k := 10) (N := 16) (r) dX9_parse_106 (Nat.le_of_ble_eq_true rfl) rfl rfl rfl (by omega) rfl ?_
                refine ae_M (txM_u10 _ _ _ _ _ _) ?_
                rw [txM_10]
                refine ae_iload_n (pc := 107) dX9_parse_107 rfl ?_
                refine ae_iload_n (pc := 108) dX9_parse_108 rfl ?_
                refine ae_iadd (pc := 109) (v := nI (i + 1 + dgN t n (i + 1) 6)) dX9_parse_109 (nI_add _ _) ?_
                refine ae_istore_n (pc := 110) dX9_parse_110 rfl (Nat.le_of_ble_eq_true rfl) ?_
                refine ae_aload_n (pc := 111) dX9_parse_111 rfl ?_
                refine ae_getR (pc := 112) (k := 8) (c := 9) (j := 3) (q := 11) dX9_parse_112 rfl rfl (Nat.le_of_ble_eq_true rfl) rfl (Nat.le_of_ble_eq_true rfl) rfl ?_
                refine ae_aload_n (pc := 115) dX9_parse_115 rfl ?_
                refine ae_getI (pc := 116) (k := 8) (c := 9) (j := 4) (v := nI r) dX9_parse_116 rfl rfl (Or.inl rfl) (Nat.le_of_ble_eq_true rfl) rfl (Nat.le_of_ble_eq_true rfl) (e4 _ _ _) ?_
                refine ae_iload_n (pc := 119) dX9_parse_119 rfl ?_
                refine ae_aload_n (pc := 120) dX9_parse_120 rfl ?_
                refine ae_getI (pc := 121) (k := 8) (c := 9) (j := 1) (v := nI n) dX9_parse_121 rfl rfl (Or.inl rfl) (Nat.le_of_ble_eq_true rfl) rfl (Nat.le_of_ble_eq_true rfl) (e8 _ _ _) ?_
                refine ae_icmp_ge (pc := 124) (t := 142) dX9_parse_124 (by decide) (fun c124 => ?_) (fun c124 => ?_)
                · refine ae_iconst (pc := 142) (v := nI 0) dX9_parse_142 (by decide) ?_
                  refine ae_bastore (pc := 143) (k := 11) (N := 16) (v := nI 0) (r) dX9_parse_143 (Nat.le_of_ble_eq_true rfl) rfl rfl rfl (by omega) (by decide) ?_
                  refine ae_M (txM_u11 _ _ _ _ _ _) ?_
                  rw [txM_11]
                  refine ae_aload_n (pc := 144) dX9_parse_144 rfl ?_
                  refine ae_getR (pc := 145) (k := 8) (c := 9) (j := 3) (q := 11) dX9_parse_145 rfl rfl (Nat.le_of_ble_eq_true rfl) rfl (Nat.le_of_ble_eq_true rfl) rfl ?_
                  refine ae_aload_n (pc := 148) dX9_parse_148 rfl ?_
                  refine ae_getI (pc := 149) (k := 8) (c := 9) (j := 4) (v := nI r) dX9_parse_149 rfl rfl (Or.inl rfl) (Nat.le_of_ble_eq_true rfl) rfl (Nat.le_of_ble_eq_true rfl) (e4 _ _ _) ?_
                  refine ae_baload (pc := 152) (k := 11) (N := 16) (v := nI 0) (r) dX9_parse_152 (Nat.le_of_ble_eq_true rfl) rfl rfl rfl (by omega) (by rw [txM_11, upd_self]) ?_
                  refine ae_if_eq (pc := 153) (t := 159) dX9_parse_153 (by decide) (fun c153 => ?_) (fun c153 => ?_)
                  rotate_left
                  · exact absurd rfl c153
                  refine ae_aload_n (pc := 159) dX9_parse_159 rfl ?_
                  refine ae_dup (pc := 160) dX9_parse_160 rfl ?_
                  refine ae_getI (pc := 161) (k := 8) (c := 9) (j := 4) (v := nI r) dX9_parse_161 rfl rfl (Or.inl rfl) (Nat.le_of_ble_eq_true rfl) rfl (Nat.le_of_ble_eq_true rfl) (e4 _ _ _) ?_
                  refine ae_iconst (pc := 164) (v := nI 1) dX9_parse_164 (by decide) ?_
                  refine ae_iadd (pc := 165) (v := nI (r + 1)) dX9_parse_165 (nI_add _ _) ?_
                  refine ae_putfield (pc := 166) (k := 8) (c := 9) (j := 4) dX9_parse_166 rfl rfl (Nat.le_of_ble_eq_true rfl) rfl (Nat.le_of_ble_eq_true rfl) rfl rfl ?_
                  refine ae_M (txM_u8 _ _ _ _ _ _) ?_
                  rw [txM_8, uu]
                  refine ae_goto (pc := 169) (t := 7) dX9_parse_169 (by decide) ?_
                  exact ae_forget [2, 3] rfl st
                · have hlt : i + 1 + dgN t n (i + 1) 6 < n := (by rw [nI_leI (by omega) (by omega)] at c124; omega)
                  refine ae_aload_n (pc := 127) dX9_parse_127 rfl ?_
                  refine ae_getR (pc := 128) (k := 8) (c := 9) (j := 0) (q := 9) dX9_parse_128 rfl rfl (Nat.le_of_ble_eq_true rfl) rfl (Nat.le_of_ble_eq_true rfl) rfl ?_
                  refine ae_iload_n (pc := 131) dX9_parse_131 rfl ?_
                  refine ae_iaload (pc := 132) (k := 9) (N := 140) (v := t (i + 1 + dgN t n (i + 1) 6)) (i + 1 + dgN t n (i + 1) 6) dX9_parse_132 (Nat.le_of_ble_eq_true rfl) rfl rfl rfl (by omega) (e9 _ _ _ _ hlt) ?_
                  refine ae_bipush (pc := 133) (v := nI 33) dX9_parse_133 (by decide) ?_
                  refine ae_icmp_ne (pc := 135) (t := 142) dX9_parse_135 (by decide) (fun c135 => ?_) (fun c135 => ?_)
                  rotate_left
                  · exact absurd ⟨hlt, Classical.not_not.mp c135⟩ hx
                  refine ae_iconst (pc := 142) (v := nI 0) dX9_parse_142 (by decide) ?_
                  refine ae_bastore (pc := 143) (k := 11) (N := 16) (v := nI 0) (r) dX9_parse_143 (Nat.le_of_ble_eq_true rfl) rfl rfl rfl (by omega) (by decide) ?_
                  refine ae_M (txM_u11 _ _ _ _ _ _) ?_
                  rw [txM_11]
                  refine ae_aload_n (pc := 144) dX9_parse_144 rfl ?_
                  refine ae_getR (pc := 145) (k := 8) (c := 9) (j := 3) (q := 11) dX9_parse_145 rfl rfl (Nat.le_of_ble_eq_true rfl) rfl (Nat.le_of_ble_eq_true rfl) rfl ?_
                  refine ae_aload_n (pc := 148) dX9_parse_148 rfl ?_
                  refine ae_getI (pc := 149) (k := 8) (c := 9) (j := 4) (v := nI r) dX9_parse_149 rfl rfl (Or.inl rfl) (Nat.le_of_ble_eq_true rfl) rfl (Nat.le_of_ble_eq_true rfl) (e4 _ _ _) ?_
                  refine ae_baload (pc := 152) (k := 11) (N := 16) (v := nI 0) (r) dX9_parse_152 (Nat.le_of_ble_eq_true rfl) rfl rfl rfl (by omega) (by rw [txM_11, upd_self]) ?_
                  refine ae_if_eq (pc := 153) (t := 159) dX9_parse_153 (by decide) (fun c153 => ?_) (fun c153 => ?_)
                  rotate_left
                  · exact absurd rfl c153
                  refine ae_aload_n (pc := 159) dX9_parse_159 rfl ?_
                  refine ae_dup (pc := 160) dX9_parse_160 rfl ?_
                  refine ae_getI (pc := 161) (k := 8) (c := 9) (j := 4) (v := nI r) dX9_parse_161 rfl rfl (Or.inl rfl) (Nat.le_of_ble_eq_true rfl) rfl (Nat.le_of_ble_eq_true rfl) (e4 _ _ _) ?_
                  refine ae_iconst (pc := 164) (v := nI 1) dX9_parse_164 (by decide) ?_
                  refine ae_iadd (pc := 165) (v := nI (r + 1)) dX9_parse_165 (nI_add _ _) ?_
                  refine ae_putfield (pc := 166) (k := 8) (c := 9) (j := 4) dX9_parse_166 rfl rfl (Nat.le_of_ble_eq_true rfl) rfl (Nat.le_of_ble_eq_true rfl) rfl rfl ?_
                  refine ae_M (txM_u8 _ _ _ _ _ _) ?_
                  rw [txM_8, uu]
                  refine ae_goto (pc := 169) (t := 7) dX9_parse_169 (by decide) ?_
                  exact ae_forget [2, 3] rfl st
            rcases h36 with q | q
            · have hsc := sc_shortColor d _ n t (eT r cc cl) (i + 1) (by omega) q
              refine ae_iload_n (pc := 25) dX9_parse_25 rfl ?_
              refine ae_bipush (pc := 26) (v := nI 32) dX9_parse_26 (by decide) ?_
              refine ae_icmp_eq (pc := 28) (t := 7) dX9_parse_28 (by decide) (fun c28 => ?_) (fun c28 => ?_)
              · first | exact absurd (hc.1.symm.trans c28) (by decide) | exact absurd (hc.1.symm.trans (Classical.not_not.mp c34)) (by decide)
              · refine ae_iload_n (pc := 31) dX9_parse_31 rfl ?_
                refine ae_bipush (pc := 32) (v := nI 44) dX9_parse_32 (by decide) ?_
                refine ae_icmp_ne (pc := 34) (t := 40) dX9_parse_34 (by decide) (fun c34 => ?_) (fun c34 => ?_)
                · refine ae_iload_n (pc := 40) dX9_parse_40 rfl ?_
                  refine ae_bipush (pc := 41) (v := nI 35) dX9_parse_41 (by decide) ?_
                  refine ae_icmp_ne (pc := 43) (t := 55) dX9_parse_43 (by decide) (fun c43 => ?_) (fun c43 => ?_)
                  · exact absurd hc.1 c43
                  refine ae_aload_n (pc := 46) dX9_parse_46 rfl ?_
                  refine ae_getI (pc := 47) (k := 8) (c := 9) (j := 4) (v := nI r) dX9_parse_47 rfl rfl (Or.inl rfl) (Nat.le_of_ble_eq_true rfl) rfl (Nat.le_of_ble_eq_true rfl) (e4 _ _ _) ?_
                  refine ae_bipush (pc := 50) (v := nI 16) dX9_parse_50 (by decide) ?_
                  refine ae_icmp_lt (pc := 52) (t := 59) dX9_parse_52 (by decide) (fun c52 => ?_) (fun c52 => ?_)
                  rotate_left
                  · exact absurd ((nI_ltI (by omega) (by omega)).mpr hc.2) c52
                  refine ae_aload_n (pc := 59) dX9_parse_59 rfl ?_
                  refine ae_iload_n (pc := 60) dX9_parse_60 rfl ?_
                  refine ae_pcallV (pc := 61) (z := zX9_digitsFrom) (k := 8) (As := [_]) dX9_parse_61 rfl rfl rfl rfl (Nat.le_of_ble_eq_true rfl) rfl (Nat.le_of_ble_eq_true rfl) (Nat.le_of_ble_eq_true rfl) (hdf) ?_
                  refine ae_istore_n (pc := 64) dX9_parse_64 rfl (Nat.le_of_ble_eq_true rfl) ?_
                  refine ae_iload_n (pc := 65) dX9_parse_65 rfl ?_
                  refine ae_iconst (pc := 66) (v := nI 3) dX9_parse_66 (by decide) ?_
                  refine ae_icmp_eq (pc := 67) (t := 80) dX9_parse_67 (by decide) (fun c67 => ?_) (fun c67 => ?_)
                  rotate_left
                  · exact absurd ((nI_eq (by omega) (by omega)).mpr q) c67
                  refine ae_aload_n (pc := 80) dX9_parse_80 rfl ?_
                  refine ae_getR (pc := 81) (k := 8) (c := 9) (j := 2) (q := 10) dX9_parse_81 rfl rfl (Nat.le_of_ble_eq_true rfl) rfl (Nat.le_of_ble_eq_true rfl) rfl ?_
                  refine ae_aload_n (pc := 84) dX9_parse_84 rfl ?_
                  refine ae_getI (pc := 85) (k := 8) (c := 9) (j := 4) (v := nI r) dX9_parse_85 rfl rfl (Or.inl rfl) (Nat.le_of_ble_eq_true rfl) rfl (Nat.le_of_ble_eq_true rfl) (e4 _ _ _) ?_
                  refine ae_iload_n (pc := 88) dX9_parse_88 rfl ?_
                  refine ae_iconst (pc := 89) (v := nI 3) dX9_parse_89 (by decide) ?_
                  refine ae_icmp_ne (pc := 90) (t := 101) dX9_parse_90 (by decide) (fun c90 => ?_) (fun c90 => ?_)
                  · exact absurd ((nI_eq (by omega) (by omega)).mpr q) c90
                  refine ae_aload_n (pc := 93) dX9_parse_93 rfl ?_
                  refine ae_iload_n (pc := 94) dX9_parse_94 rfl ?_
                  refine ae_pcallV (pc := 95) (z := zX9_shortColor) (k := 8) (As := [_]) dX9_parse_95 rfl rfl rfl rfl (Nat.le_of_ble_eq_true rfl) rfl (Nat.le_of_ble_eq_true rfl) (Nat.le_of_ble_eq_true rfl) (hsc) ?_
                  refine ae_goto (pc := 98) (t := 106) dX9_parse_98 (by decide) ?_
                  exact tail
                · refine ae_goto (pc := 37) (t := 7) dX9_parse_37 (by decide) ?_
                  first | exact absurd (hc.1.symm.trans c28) (by decide) | exact absurd (hc.1.symm.trans (Classical.not_not.mp c34)) (by decide)
            · have hlc := sc_longColor d _ n t (eT r cc cl) (i + 1) (by omega) q
              refine ae_iload_n (pc := 25) dX9_parse_25 rfl ?_
              refine ae_bipush (pc := 26) (v := nI 32) dX9_parse_26 (by decide) ?_
              refine ae_icmp_eq (pc := 28) (t := 7) dX9_parse_28 (by decide) (fun c28 => ?_) (fun c28 => ?_)
              · first | exact absurd (hc.1.symm.trans c28) (by decide) | exact absurd (hc.1.symm.trans (Classical.not_not.mp c34)) (by decide)
              · refine ae_iload_n (pc := 31) dX9_parse_31 rfl ?_
                refine ae_bipush (pc := 32) (v := nI 44) dX9_parse_32 (by decide) ?_
                refine ae_icmp_ne (pc := 34) (t := 40) dX9_parse_34 (by decide) (fun c34 => ?_) (fun c34 => ?_)
                · refine ae_iload_n (pc := 40) dX9_parse_40 rfl ?_
                  refine ae_bipush (pc := 41) (v := nI 35) dX9_parse_41 (by decide) ?_
                  refine ae_icmp_ne (pc := 43) (t := 55) dX9_parse_43 (by decide) (fun c43 => ?_) (fun c43 => ?_)
                  · exact absurd hc.1 c43
                  refine ae_aload_n (pc := 46) dX9_parse_46 rfl ?_
                  refine ae_getI (pc := 47) (k := 8) (c := 9) (j := 4) (v := nI r) dX9_parse_47 rfl rfl (Or.inl rfl) (Nat.le_of_ble_eq_true rfl) rfl (Nat.le_of_ble_eq_true rfl) (e4 _ _ _) ?_
                  refine ae_bipush (pc := 50) (v := nI 16) dX9_parse_50 (by decide) ?_
                  refine ae_icmp_lt (pc := 52) (t := 59) dX9_parse_52 (by decide) (fun c52 => ?_) (fun c52 => ?_)
                  rotate_left
                  · exact absurd ((nI_ltI (by omega) (by omega)).mpr hc.2) c52
                  refine ae_aload_n (pc := 59) dX9_parse_59 rfl ?_
                  refine ae_iload_n (pc := 60) dX9_parse_60 rfl ?_
                  refine ae_pcallV (pc := 61) (z := zX9_digitsFrom) (k := 8) (As := [_]) dX9_parse_61 rfl rfl rfl rfl (Nat.le_of_ble_eq_true rfl) rfl (Nat.le_of_ble_eq_true rfl) (Nat.le_of_ble_eq_true rfl) (hdf) ?_
                  refine ae_istore_n (pc := 64) dX9_parse_64 rfl (Nat.le_of_ble_eq_true rfl) ?_
                  refine ae_iload_n (pc := 65) dX9_parse_65 rfl ?_
                  refine ae_iconst (pc := 66) (v := nI 3) dX9_parse_66 (by decide) ?_
                  refine ae_icmp_eq (pc := 67) (t := 80) dX9_parse_67 (by decide) (fun c67 => ?_) (fun c67 => ?_)
                  · exact absurd ((nI_eq (by omega) (by omega)).mp c67) (by omega)
                  refine ae_iload_n (pc := 70) dX9_parse_70 rfl ?_
                  refine ae_bipush (pc := 71) (v := nI 6) dX9_parse_71 (by decide) ?_
                  refine ae_icmp_eq (pc := 73) (t := 80) dX9_parse_73 (by decide) (fun c73 => ?_) (fun c73 => ?_)
                  rotate_left
                  · exact absurd ((nI_eq (by omega) (by omega)).mpr q) c73
                  refine ae_aload_n (pc := 80) dX9_parse_80 rfl ?_
                  refine ae_getR (pc := 81) (k := 8) (c := 9) (j := 2) (q := 10) dX9_parse_81 rfl rfl (Nat.le_of_ble_eq_true rfl) rfl (Nat.le_of_ble_eq_true rfl) rfl ?_
                  refine ae_aload_n (pc := 84) dX9_parse_84 rfl ?_
                  refine ae_getI (pc := 85) (k := 8) (c := 9) (j := 4) (v := nI r) dX9_parse_85 rfl rfl (Or.inl rfl) (Nat.le_of_ble_eq_true rfl) rfl (Nat.le_of_ble_eq_true rfl) (e4 _ _ _) ?_
                  refine ae_iload_n (pc := 88) dX9_parse_88 rfl ?_
                  refine ae_iconst (pc := 89) (v := nI 3) dX9_parse_89 (by decide) ?_
                  refine ae_icmp_ne (pc := 90) (t := 101) dX9_parse_90 (by decide) (fun c90 => ?_) (fun c90 => ?_)
                  rotate_left
                  · exact absurd ((nI_eq (by omega) (by omega)).mp (Classical.not_not.mp c90)) (by omega)
                  refine ae_aload_n (pc := 101) dX9_parse_101 rfl ?_
                  refine ae_iload_n (pc := 102) dX9_parse_102 rfl ?_
                  refine ae_pcallV (pc := 103) (z := zX9_longColor) (k := 8) (As := [_]) dX9_parse_103 rfl rfl rfl rfl (Nat.le_of_ble_eq_true rfl) rfl (Nat.le_of_ble_eq_true rfl) (Nat.le_of_ble_eq_true rfl) (hlc) ?_
                  exact tail
                · refine ae_goto (pc := 37) (t := 7) dX9_parse_37 (by decide) ?_
                  first | exact absurd (hc.1.symm.trans c28) (by decide) | exact absurd (hc.1.symm.trans (Classical.not_not.mp c34)) (by decide)
        · by_cases hb : t i = nI 32 ∨ t i = nI 44
          · have ep : prs t n (m + 1) i r rc rl = prs t n m (i + 1) r rc rl := by rw [prs, if_neg c12, if_neg hc, if_pos hb]
            rw [ep]
            have st := ih (i + 1) r rc rl cc cl (by omega) (by omega) (by omega) hj
            refine ae_iload_n (pc := 25) dX9_parse_25 rfl ?_
            refine ae_bipush (pc := 26) (v := nI 32) dX9_parse_26 (by decide) ?_
            refine ae_icmp_eq (pc := 28) (t := 7) dX9_parse_28 (by decide) (fun c28 => ?_) (fun c28 => ?_)
            · exact ae_forget [2] rfl st
            · refine ae_iload_n (pc := 31) dX9_parse_31 rfl ?_
              refine ae_bipush (pc := 32) (v := nI 44) dX9_parse_32 (by decide) ?_
              refine ae_icmp_ne (pc := 34) (t := 40) dX9_parse_34 (by decide) (fun c34 => ?_) (fun c34 => ?_)
              · exact absurd hb (fun q => q.elim c28 c34)
              · refine ae_goto (pc := 37) (t := 7) dX9_parse_37 (by decide) ?_
                exact ae_forget [2] rfl st
          · have ep : prs t n (m + 1) i r rc rl = (nI i, r, rc, rl) := by rw [prs, if_neg c12, if_neg hc, if_neg hb]
            rw [ep]
            refine ae_iload_n (pc := 25) dX9_parse_25 rfl ?_
            refine ae_bipush (pc := 26) (v := nI 32) dX9_parse_26 (by decide) ?_
            refine ae_icmp_eq (pc := 28) (t := 7) dX9_parse_28 (by decide) (fun c28 => ?_) (fun c28 => ?_)
            · first | exact absurd (Or.inl c28) hb | exact absurd (Or.inr (Classical.not_not.mp c34)) hb
            · refine ae_iload_n (pc := 31) dX9_parse_31 rfl ?_
              refine ae_bipush (pc := 32) (v := nI 44) dX9_parse_32 (by decide) ?_
              refine ae_icmp_ne (pc := 34) (t := 40) dX9_parse_34 (by decide) (fun c34 => ?_) (fun c34 => ?_)
              · refine ae_iload_n (pc := 40) dX9_parse_40 rfl ?_
                refine ae_bipush (pc := 41) (v := nI 35) dX9_parse_41 (by decide) ?_
                refine ae_icmp_ne (pc := 43) (t := 55) dX9_parse_43 (by decide) (fun c43 => ?_) (fun c43 => ?_)
                · refine ae_iload_n (pc := 55) dX9_parse_55 rfl ?_
                  refine ae_iconst (pc := 56) (v := nI 1) dX9_parse_56 (by decide) ?_
                  refine ae_isub (pc := 57) (v := nI i) dX9_parse_57 (nI_sub (by omega)) ?_
                  refine ae_ireturn (pc := 58) dX9_parse_58 rfl ?_
                  exact ⟨rfl, cc, cl, rfl, hj⟩
                · refine ae_aload_n (pc := 46) dX9_parse_46 rfl ?_
                  refine ae_getI (pc := 47) (k := 8) (c := 9) (j := 4) (v := nI r) dX9_parse_47 rfl rfl (Or.inl rfl) (Nat.le_of_ble_eq_true rfl) rfl (Nat.le_of_ble_eq_true rfl) (e4 _ _ _) ?_
                  refine ae_bipush (pc := 50) (v := nI 16) dX9_parse_50 (by decide) ?_
                  refine ae_icmp_lt (pc := 52) (t := 59) dX9_parse_52 (by decide) (fun c52 => ?_) (fun c52 => ?_)
                  · exact absurd ⟨Classical.not_not.mp c43, by rw [nI_ltI (by omega) (by omega)] at c52; exact c52⟩ hc
                  · refine ae_iload_n (pc := 55) dX9_parse_55 rfl ?_
                    refine ae_iconst (pc := 56) (v := nI 1) dX9_parse_56 (by decide) ?_
                    refine ae_isub (pc := 57) (v := nI i) dX9_parse_57 (nI_sub (by omega)) ?_
                    refine ae_ireturn (pc := 58) dX9_parse_58 rfl ?_
                    exact ⟨rfl, cc, cl, rfl, hj⟩
              · refine ae_goto (pc := 37) (t := 7) dX9_parse_37 (by decide) ?_
                first | exact absurd (Or.inl c28) hb | exact absurd (Or.inr (Classical.not_not.mp c34)) hb
  refine ae_aload_n (pc := 0) dX9_parse_0 rfl ?_
  refine ae_iconst (pc := 1) (v := nI 0) dX9_parse_1 (by decide) ?_
  refine ae_putfield (pc := 2) (k := 8) (c := 9) (j := 4) dX9_parse_2 rfl rfl (Nat.le_of_ble_eq_true rfl) rfl (Nat.le_of_ble_eq_true rfl) rfl rfl ?_
  refine ae_iconst (pc := 5) (v := nI 0) dX9_parse_5 (by decide) ?_
  refine ae_istore_n (pc := 6) dX9_parse_6 rfl (Nat.le_of_ble_eq_true rfl) ?_
  skip
  refine ae_M (M' := txM M (upd (M.1 8) 4 (nI 0)) (M.1 9) (M.1 10) (M.1 11)) ?_ (key n 0 0 rc rl _ _ (by omega) (by omega) (by omega) (fun j hj => absurd hj (Nat.not_lt_zero j)))
  have := txM_u8 M (M.1 8) (M.1 9) (M.1 10) (M.1 11) (upd (M.1 8) 4 (nI 0))
  rw [txM_eta] at this
  exact this

