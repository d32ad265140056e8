theorem sm_isLockedColor (d : Nat) (M : am_M) (hf : wf0 (M.1 34)) (c : Int32) : am_R (d + 2) zX11_isLockedColor [.ref 33, .int c] M (fun v M' => v = some (.int (bI (lkc (M.1 34) c (fN (M.1 34)) = true))) ∧ M' = M) := by
  refine ae_enter (z := zX11_isLockedColor) (y := yX11_isLockedColor) (cc := cX11_isLockedColor) (mL := 4) (rt := some .boolean) (ci := 11) (st := false) (np := 1) (L := [some (.ref 33), some (.int c), none, none]) rfl (by decide) (Nat.le_of_ble_eq_true rfl) rfl ?_
  obtain ⟨-, -, hn1, hn2⟩ := id hf
  refine ae_iconst (pc := 0) (v := nI 0) dX11_isLockedColor_0 (by decide) ?_
  refine ae_istore_n (pc := 1) dX11_isLockedColor_1 rfl (Nat.le_of_ble_eq_true rfl) ?_
  refine ae_iconst (pc := 2) (v := nI 0) dX11_isLockedColor_2 (by decide) ?_
  refine ae_istore_n (pc := 3) dX11_isLockedColor_3 rfl (Nat.le_of_ble_eq_true rfl) ?_
  skip
  refine am_down (P := fun k => am_E none (am_R (d + 1)) cX11_isLockedColor 11 (some .boolean) _ (4, [some (.ref 33), some (.int c), some (.int (bI (lkc (M.1 34) c k = true))), some (.int (nI k))], [], M)) (fN (M.1 34)) (fun k hk ih => ?_)
  refine ae_iload_n (pc := 4) dX11_isLockedColor_4 rfl ?_
  refine ae_aload_n (pc := 5) dX11_isLockedColor_5 rfl ?_
  refine ae_getR (pc := 6) (k := 33) (c := 11) (j := 0) (q := 34) dX11_isLockedColor_6 rfl rfl (Nat.le_of_ble_eq_true rfl) rfl (Nat.le_of_ble_eq_true rfl) rfl ?_
  refine ae_sipush (pc := 9) (v := nI 258) dX11_isLockedColor_9 (by decide) ?_
  refine ae_iaload (pc := 12) (k := 34) (N := 549) (v := nI (fN (M.1 34))) _ dX11_isLockedColor_12 (Nat.le_of_ble_eq_true rfl) rfl rfl rfl (by omega) hn1 ?_
  refine ae_icmp_ge (pc := 13) (t := 54) dX11_isLockedColor_13 (by decide) (fun c13 => ?_) (fun c13 => ?_)
  · have hk2 : k = fN (M.1 34) := by rw [nI_leI (by omega) (by omega)] at c13; omega
    subst hk2
    refine ae_iload_n (pc := 54) dX11_isLockedColor_54 rfl ?_
    refine ae_zreturn (pc := 55) dX11_isLockedColor_55 rfl (bI_01 _) ?_
    exact ⟨rfl, rfl⟩
  · have hk2 : k < fN (M.1 34) := by rw [nI_leI (by omega) (by omega)] at c13; omega
    refine ae_iload_n (pc := 16) dX11_isLockedColor_16 rfl ?_
    refine ae_if_ne (pc := 17) (t := 42) dX11_isLockedColor_17 (by decide) (fun c17 => ?_) (fun c17 => ?_)
    · refine ae_iconst (pc := 42) (v := nI 1) dX11_isLockedColor_42 (by decide) ?_
      refine ae_goto (pc := 43) (t := 47) dX11_isLockedColor_43 (by decide) ?_
      refine ae_istore_n (pc := 47) (v := bI (lkc (M.1 34) c (k + 1) = true)) dX11_isLockedColor_47 (by simp only [bI_eq0, bI_ne0] at *; unfold lkc; simp_all [bI, nI]) (Nat.le_of_ble_eq_true rfl) ?_
      refine ae_iinc (pc := 48) (v := nI (k + 1)) dX11_isLockedColor_48 rfl (nI_inc k) ?_
      refine ae_goto (pc := 51) (t := 4) dX11_isLockedColor_51 (by decide) ?_
      exact ih hk2
    · refine ae_aload_n (pc := 20) dX11_isLockedColor_20 rfl ?_
      refine ae_iload_n (pc := 21) dX11_isLockedColor_21 rfl ?_
      refine ae_pcallV (pc := 22) (z := zX11_isLocked) (k := 33) (As := [_]) dX11_isLockedColor_22 rfl rfl rfl rfl (Nat.le_of_ble_eq_true rfl) rfl (Nat.le_of_ble_eq_true rfl) (Nat.le_of_ble_eq_true rfl) (sm_isLocked d M k (by omega)) ?_
      refine ae_if_eq (pc := 25) (t := 46) dX11_isLockedColor_25 (by decide) (fun c25 => ?_) (fun c25 => ?_)
      · refine ae_iconst (pc := 46) (v := nI 0) dX11_isLockedColor_46 (by decide) ?_
        refine ae_istore_n (pc := 47) (v := bI (lkc (M.1 34) c (k + 1) = true)) dX11_isLockedColor_47 (by simp only [bI_eq0, bI_ne0] at *; unfold lkc; simp_all [bI, nI]) (Nat.le_of_ble_eq_true rfl) ?_
        refine ae_iinc (pc := 48) (v := nI (k + 1)) dX11_isLockedColor_48 rfl (nI_inc k) ?_
        refine ae_goto (pc := 51) (t := 4) dX11_isLockedColor_51 (by decide) ?_
        exact ih hk2
      · refine ae_aload_n (pc := 28) dX11_isLockedColor_28 rfl ?_
        refine ae_getR (pc := 29) (k := 33) (c := 11) (j := 0) (q := 34) dX11_isLockedColor_29 rfl rfl (Nat.le_of_ble_eq_true rfl) rfl (Nat.le_of_ble_eq_true rfl) rfl ?_
        refine ae_sipush (pc := 32) (v := nI 259) dX11_isLockedColor_32 (by decide) ?_
        refine ae_iload_n (pc := 35) dX11_isLockedColor_35 rfl ?_
        refine ae_iadd (pc := 36) dX11_isLockedColor_36 (nI_add _ _) ?_
        refine ae_iaload (pc := 37) (k := 34) (N := 549) _ dX11_isLockedColor_37 (Nat.le_of_ble_eq_true rfl) rfl rfl rfl (by omega) rfl ?_
        refine ae_iload_n (pc := 38) dX11_isLockedColor_38 rfl ?_
        refine ae_icmp_ne (pc := 39) (t := 46) dX11_isLockedColor_39 (by decide) (fun c39 => ?_) (fun c39 => ?_)
        · refine ae_iconst (pc := 46) (v := nI 0) dX11_isLockedColor_46 (by decide) ?_
          refine ae_istore_n (pc := 47) (v := bI (lkc (M.1 34) c (k + 1) = true)) dX11_isLockedColor_47 (by simp only [bI_eq0, bI_ne0] at *; unfold lkc; simp_all [bI, nI]) (Nat.le_of_ble_eq_true rfl) ?_
          refine ae_iinc (pc := 48) (v := nI (k + 1)) dX11_isLockedColor_48 rfl (nI_inc k) ?_
          refine ae_goto (pc := 51) (t := 4) dX11_isLockedColor_51 (by decide) ?_
          exact ih hk2
        · refine ae_iconst (pc := 42) (v := nI 1) dX11_isLockedColor_42 (by decide) ?_
          refine ae_goto (pc := 43) (t := 47) dX11_isLockedColor_43 (by decide) ?_
          refine ae_istore_n (pc := 47) (v := bI (lkc (M.1 34) c (k + 1) = true)) dX11_isLockedColor_47 (by simp only [bI_eq0, bI_ne0] at *; unfold lkc; simp_all [bI, nI]) (Nat.le_of_ble_eq_true rfl) ?_
          refine ae_iinc (pc := 48) (v := nI (k + 1)) dX11_isLockedColor_48 rfl (nI_inc k) ?_
          refine ae_goto (pc := 51) (t := 4) dX11_isLockedColor_51 (by decide) ?_
          exact ih hk2
theorem sm_adds (d : Nat) (M : am_M) (hf : wf0 (M.1 34)) (c l : Int32) (hn : fN (M.1 34) < 16) : am_R (d + 1) zX11_adds [.ref 33, .int c, .int l] M (fun v M' => v = some (.int (nI (fN (M.1 34)))) ∧ M' = rw34 M (adF (M.1 34) c l)) := by
  refine ae_enter (z := zX11_adds) (y := yX11_adds) (cc := cX11_adds) (mL := 4) (rt := some .int) (ci := 11) (st := false) (np := 2) (L := [some (.ref 33), some (.int c), some (.int l), none]) rfl (by decide) (Nat.le_of_ble_eq_true rfl) rfl ?_
  obtain ⟨-, -, hn1, hn2⟩ := id hf
  refine ae_M (rw34_eta M).symm ?_
  refine ae_aload_n (pc := 0) dX11_adds_0 rfl ?_
  refine ae_getR (pc := 1) (k := 33) (c := 11) (j := 0) (q := 34) dX11_adds_1 rfl rfl (Nat.le_of_ble_eq_true rfl) rfl (Nat.le_of_ble_eq_true rfl) rfl ?_
  refine ae_sipush (pc := 4) (v := nI 258) dX11_adds_4 (by decide) ?_
  refine ae_iaload (pc := 7) (k := 34) (N := 549) (v := nI (fN (M.1 34))) _ dX11_adds_7 (Nat.le_of_ble_eq_true rfl) rfl rfl rfl (by omega) (by rw [rw34_34]; exact hn1) ?_
  refine ae_istore_n (pc := 8) dX11_adds_8 rfl (Nat.le_of_ble_eq_true rfl) ?_
  refine ae_aload_n (pc := 9) dX11_adds_9 rfl ?_
  refine ae_getR (pc := 10) (k := 33) (c := 11) (j := 0) (q := 34) dX11_adds_10 rfl rfl (Nat.le_of_ble_eq_true rfl) rfl (Nat.le_of_ble_eq_true rfl) rfl ?_
  refine ae_sipush (pc := 13) (v := nI 259) dX11_adds_13 (by decide) ?_
  refine ae_iload_n (pc := 16) dX11_adds_16 rfl ?_
  refine ae_iadd (pc := 17) dX11_adds_17 (nI_add _ _) ?_
  refine ae_iload_n (pc := 18) dX11_adds_18 rfl ?_
  refine ae_iastore (pc := 19) (k := 34) (N := 549) _ dX11_adds_19 (Nat.le_of_ble_eq_true rfl) rfl rfl rfl (by omega) rfl ?_
  refine ae_M (rw34_upd _ _ _ _) ?_
  refine ae_aload_n (pc := 20) dX11_adds_20 rfl ?_
  refine ae_getR (pc := 21) (k := 33) (c := 11) (j := 0) (q := 34) dX11_adds_21 rfl rfl (Nat.le_of_ble_eq_true rfl) rfl (Nat.le_of_ble_eq_true rfl) rfl ?_
  refine ae_sipush (pc := 24) (v := nI 275) dX11_adds_24 (by decide) ?_
  refine ae_iload_n (pc := 27) dX11_adds_27 rfl ?_
  refine ae_iadd (pc := 28) dX11_adds_28 (nI_add _ _) ?_
  refine ae_iload_n (pc := 29) dX11_adds_29 rfl ?_
  refine ae_iastore (pc := 30) (k := 34) (N := 549) _ dX11_adds_30 (Nat.le_of_ble_eq_true rfl) rfl rfl rfl (by omega) rfl ?_
  refine ae_M (rw34_upd _ _ _ _) ?_
  refine ae_aload_n (pc := 31) dX11_adds_31 rfl ?_
  refine ae_getR (pc := 32) (k := 33) (c := 11) (j := 0) (q := 34) dX11_adds_32 rfl rfl (Nat.le_of_ble_eq_true rfl) rfl (Nat.le_of_ble_eq_true rfl) rfl ?_
  refine ae_sipush (pc := 35) (v := nI 258) dX11_adds_35 (by decide) ?_
  refine ae_dup2 (pc := 38) dX11_adds_38 rfl rfl ?_
  refine ae_iaload (pc := 39) (k := 34) (N := 549) (v := nI (fN (M.1 34))) _ dX11_adds_39 (Nat.le_of_ble_eq_true rfl) rfl rfl rfl (by omega) (by rw [rw34_34, upd_ne _ _ (by omega), upd_ne _ _ (by omega)]; exact hn1) ?_
  refine ae_iconst (pc := 40) (v := nI 1) dX11_adds_40 (by decide) ?_
  refine ae_iadd (pc := 41) (v := nI (fN (M.1 34) + 1)) dX11_adds_41 (nI_add _ _) ?_
  refine ae_iastore (pc := 42) (k := 34) (N := 549) _ dX11_adds_42 (Nat.le_of_ble_eq_true rfl) rfl rfl rfl (by omega) rfl ?_
  refine ae_M (rw34_upd _ _ _ _) ?_
  refine ae_iload_n (pc := 43) dX11_adds_43 rfl ?_
  refine ae_ireturn (pc := 44) dX11_adds_44 rfl ?_
  exact ⟨rfl, rfl⟩
theorem sm_removes (d : Nat) (M : am_M) (hf : wf0 (M.1 34)) (e : Nat) (he : e < fN (M.1 34)) : am_R (d + 1) zX11_removes [.ref 33, .int (nI e)] M (fun v M' => v = none ∧ M' = rw34 M (rmF (M.1 34) e (fN (M.1 34) - 1 - e))) := by
  refine ae_enter (z := zX11_removes) (y := yX11_removes) (cc := cX11_removes) (mL := 3) (rt := none) (ci := 11) (st := false) (np := 1) (L := [some (.ref 33), some (.int (nI e)), none]) rfl (by decide) (Nat.le_of_ble_eq_true rfl) rfl ?_
  obtain ⟨-, -, hn1, hn2⟩ := id hf
  refine ae_M (rw34_eta M).symm ?_
  refine ae_aload_n (pc := 0) dX11_removes_0 rfl ?_
  refine ae_getR (pc := 1) (k := 33) (c := 11) (j := 0) (q := 34) dX11_removes_1 rfl rfl (Nat.le_of_ble_eq_true rfl) rfl (Nat.le_of_ble_eq_true rfl) rfl ?_
  refine ae_sipush (pc := 4) (v := nI 258) dX11_removes_4 (by decide) ?_
  refine ae_dup2 (pc := 7) dX11_removes_7 rfl rfl ?_
  refine ae_iaload (pc := 8) (k := 34) (N := 549) (v := nI (fN (M.1 34))) _ dX11_removes_8 (Nat.le_of_ble_eq_true rfl) rfl rfl rfl (by omega) (by rw [rw34_34]; exact hn1) ?_
  refine ae_iconst (pc := 9) (v := nI 1) dX11_removes_9 (by decide) ?_
  refine ae_isub (pc := 10) (v := nI (fN (M.1 34) - 1)) dX11_removes_10 (nI_sub (by omega)) ?_
  refine ae_iastore (pc := 11) (k := 34) (N := 549) _ dX11_removes_11 (Nat.le_of_ble_eq_true rfl) rfl rfl rfl (by omega) rfl ?_
  refine ae_M (rw34_upd _ _ _ _) ?_
  refine ae_iload_n (pc := 12) dX11_removes_12 rfl ?_
  refine ae_istore_n (pc := 13) dX11_removes_13 rfl (Nat.le_of_ble_eq_true rfl) ?_
  skip
  refine ae_M (M' := rw34 M (rmF (M.1 34) e 0)) (by rw [rm_0]) ?_
  refine am_down (P := fun k => am_E none (am_R d) cX11_removes 11 none _ (14, [some (.ref 33), some (.int (nI e)), some (.int (nI (e + k)))], [], rw34 M (rmF (M.1 34) e k))) (fN (M.1 34) - 1 - e) (fun k hk ih => ?_)
  refine ae_iload_n (pc := 14) dX11_removes_14 rfl ?_
  refine ae_aload_n (pc := 15) dX11_removes_15 rfl ?_
  refine ae_getR (pc := 16) (k := 33) (c := 11) (j := 0) (q := 34) dX11_removes_16 rfl rfl (Nat.le_of_ble_eq_true rfl) rfl (Nat.le_of_ble_eq_true rfl) rfl ?_
  refine ae_sipush (pc := 19) (v := nI 258) dX11_removes_19 (by decide) ?_
  refine ae_iaload (pc := 22) (k := 34) (N := 549) (v := nI (fN (M.1 34) - 1)) _ dX11_removes_22 (Nat.le_of_ble_eq_true rfl) rfl rfl rfl (by omega) (by rw [rw34_34]; simp [rmF]) ?_
  refine ae_icmp_ge (pc := 23) (t := 76) dX11_removes_23 (by decide) (fun c23 => ?_) (fun c23 => ?_)
  · have hk2 : k = fN (M.1 34) - 1 - e := by rw [nI_leI (by omega) (by omega)] at c23; omega
    subst hk2
    refine ae_return (pc := 76) dX11_removes_76 rfl ?_
    exact ⟨rfl, rfl⟩
  · have hk2 : k < fN (M.1 34) - 1 - e := by rw [nI_leI (by omega) (by omega)] at c23; omega
    refine ae_aload_n (pc := 26) dX11_removes_26 rfl ?_
    refine ae_getR (pc := 27) (k := 33) (c := 11) (j := 0) (q := 34) dX11_removes_27 rfl rfl (Nat.le_of_ble_eq_true rfl) rfl (Nat.le_of_ble_eq_true rfl) rfl ?_
    refine ae_sipush (pc := 30) (v := nI 259) dX11_removes_30 (by decide) ?_
    refine ae_iload_n (pc := 33) dX11_removes_33 rfl ?_
    refine ae_iadd (pc := 34) dX11_removes_34 (nI_add _ _) ?_
    refine ae_aload_n (pc := 35) dX11_removes_35 rfl ?_
    refine ae_getR (pc := 36) (k := 33) (c := 11) (j := 0) (q := 34) dX11_removes_36 rfl rfl (Nat.le_of_ble_eq_true rfl) rfl (Nat.le_of_ble_eq_true rfl) rfl ?_
    refine ae_sipush (pc := 39) (v := nI 259) dX11_removes_39 (by decide) ?_
    refine ae_iload_n (pc := 42) dX11_removes_42 rfl ?_
    refine ae_iadd (pc := 43) dX11_removes_43 (nI_add _ _) ?_
    refine ae_iconst (pc := 44) (v := nI 1) dX11_removes_44 (by decide) ?_
    refine ae_iadd (pc := 45) dX11_removes_45 (nI_add _ _) ?_
    refine ae_iaload (pc := 46) (k := 34) (N := 549) (v := M.1 34 (259 + (e + k) + 1)) _ dX11_removes_46 (Nat.le_of_ble_eq_true rfl) rfl rfl rfl (by omega) (by rw [rw34_34]; unfold rmF; rw [if_neg (by omega), if_neg (by omega), if_neg (by omega)]) ?_
    refine ae_iastore (pc := 47) (k := 34) (N := 549) _ dX11_removes_47 (Nat.le_of_ble_eq_true rfl) rfl rfl rfl (by omega) rfl ?_
    refine ae_M (rw34_upd _ _ _ _) ?_
    refine ae_aload_n (pc := 48) dX11_removes_48 rfl ?_
    refine ae_getR (pc := 49) (k := 33) (c := 11) (j := 0) (q := 34) dX11_removes_49 rfl rfl (Nat.le_of_ble_eq_true rfl) rfl (Nat.le_of_ble_eq_true rfl) rfl ?_
    refine ae_sipush (pc := 52) (v := nI 275) dX11_removes_52 (by decide) ?_
    refine ae_iload_n (pc := 55) dX11_removes_55 rfl ?_
    refine ae_iadd (pc := 56) dX11_removes_56 (nI_add _ _) ?_
    refine ae_aload_n (pc := 57) dX11_removes_57 rfl ?_
    refine ae_getR (pc := 58) (k := 33) (c := 11) (j := 0) (q := 34) dX11_removes_58 rfl rfl (Nat.le_of_ble_eq_true rfl) rfl (Nat.le_of_ble_eq_true rfl) rfl ?_
    refine ae_sipush (pc := 61) (v := nI 275) dX11_removes_61 (by decide) ?_
    refine ae_iload_n (pc := 64) dX11_removes_64 rfl ?_
    refine ae_iadd (pc := 65) dX11_removes_65 (nI_add _ _) ?_
    refine ae_iconst (pc := 66) (v := nI 1) dX11_removes_66 (by decide) ?_
    refine ae_iadd (pc := 67) dX11_removes_67 (nI_add _ _) ?_
    refine ae_iaload (pc := 68) (k := 34) (N := 549) (v := M.1 34 (275 + (e + k) + 1)) _ dX11_removes_68 (Nat.le_of_ble_eq_true rfl) rfl rfl rfl (by omega) (by rw [rw34_34, upd_ne _ _ (by omega)]; unfold rmF; rw [if_neg (by omega), if_neg (by omega), if_neg (by omega)]) ?_
    refine ae_iastore (pc := 69) (k := 34) (N := 549) _ dX11_removes_69 (Nat.le_of_ble_eq_true rfl) rfl rfl rfl (by omega) rfl ?_
    refine ae_M (rw34_upd _ _ _ _) ?_
    refine ae_iinc (pc := 70) (v := nI (e + (k + 1))) dX11_removes_70 rfl (nI_inc (e + k)) ?_
    refine ae_goto (pc := 73) (t := 14) dX11_removes_73 (by decide) ?_
    exact ae_M (by rw [rm_s _ _ _ (by omega)]) (ih hk2)
theorem sm_add0 (d : Nat) (M : am_M) (c l : Int32) (hn : ¬ (0 ≤ c ∧ c ≤ 16777215)) : am_R (d + 3) zX11_add [.ref 33, .int c, .int l] M (fun v M' => v = some (.int (-2)) ∧ M' = M) := by
  refine ae_enter (z := zX11_add) (y := yX11_add) (cc := cX11_add) (mL := 3) (rt := some .int) (ci := 11) (st := false) (np := 2) (L := [some (.ref 33), some (.int c), some (.int l)]) rfl (by decide) (Nat.le_of_ble_eq_true rfl) rfl ?_
  refine ae_iload_n (pc := 0) dX11_add_0 rfl ?_
  refine ae_pcallS (pc := 1) (z := zX11_isColor) (As := [_]) dX11_add_1 rfl rfl rfl rfl (Nat.le_of_ble_eq_true rfl) (sm_isColor d _ _) ?_
  refine ae_if_ne (pc := 4) (t := 10) dX11_add_4 (by decide) (fun c4 => ?_) (fun c4 => ?_)
  · exact (hn (bI_ne0.mp c4)).elim
  · refine ae_bipush (pc := 7) (v := (-2)) dX11_add_7 (by decide) ?_
    refine ae_ireturn (pc := 9) dX11_add_9 rfl ?_
    exact ⟨rfl, rfl⟩
theorem sm_addF (d : Nat) (M : am_M) (hf : wf0 (M.1 34)) (c l : Int32) (hc : 0 ≤ c ∧ c ≤ 16777215) (hn : fN (M.1 34) = 16) : am_R (d + 3) zX11_add [.ref 33, .int c, .int l] M (fun v M' => v = some (.int (-4)) ∧ M' = M) := by
  refine ae_enter (z := zX11_add) (y := yX11_add) (cc := cX11_add) (mL := 3) (rt := some .int) (ci := 11) (st := false) (np := 2) (L := [some (.ref 33), some (.int c), some (.int l)]) rfl (by decide) (Nat.le_of_ble_eq_true rfl) rfl ?_
  obtain ⟨-, -, hn1, hn2⟩ := id hf
  refine ae_iload_n (pc := 0) dX11_add_0 rfl ?_
  refine ae_pcallS (pc := 1) (z := zX11_isColor) (As := [_]) dX11_add_1 rfl rfl rfl rfl (Nat.le_of_ble_eq_true rfl) (sm_isColor d _ _) ?_
  refine ae_if_ne (pc := 4) (t := 10) dX11_add_4 (by decide) (fun c4 => ?_) (fun c4 => ?_)
  rotate_left
  · exact absurd hc (bI_eq0.mp (Classical.not_not.mp c4))
  refine ae_aload_n (pc := 10) dX11_add_10 rfl ?_
  refine ae_getR (pc := 11) (k := 33) (c := 11) (j := 0) (q := 34) dX11_add_11 rfl rfl (Nat.le_of_ble_eq_true rfl) rfl (Nat.le_of_ble_eq_true rfl) rfl ?_
  refine ae_sipush (pc := 14) (v := nI 258) dX11_add_14 (by decide) ?_
  refine ae_iaload (pc := 17) (k := 34) (N := 549) (v := nI 16) _ dX11_add_17 (Nat.le_of_ble_eq_true rfl) rfl rfl rfl (by omega) (by rw [hn1, hn]) ?_
  refine ae_bipush (pc := 18) (v := nI 16) dX11_add_18 (by decide) ?_
  refine ae_icmp_ne (pc := 20) (t := 26) dX11_add_20 (by decide) (fun c20 => ?_) (fun c20 => ?_)
  · exact absurd rfl c20
  refine ae_bipush (pc := 23) (v := (-4)) dX11_add_23 (by decide) ?_
  refine ae_ireturn (pc := 25) dX11_add_25 rfl ?_
  exact ⟨rfl, rfl⟩
theorem sm_add (d : Nat) (M : am_M) (hf : wf0 (M.1 34)) (u : Nat) (hu : M.1 33 2 = nI u) (hu2 : u ≤ 10) (c l : Int32) (hc : 0 ≤ c ∧ c ≤ 16777215) (hn : fN (M.1 34) < 16) : am_R (d + 3) zX11_add [.ref 33, .int c, .int l] M (fun v M' => v = some (.int (nI (fN (M.1 34)))) ∧ M' = rw34 (kpM M u 1) (adF (kpF (M.1 34) 1) c (bI (l ≠ 0)))) := by
  refine ae_enter (z := zX11_add) (y := yX11_add) (cc := cX11_add) (mL := 3) (rt := some .int) (ci := 11) (st := false) (np := 2) (L := [some (.ref 33), some (.int c), some (.int l)]) rfl (by decide) (Nat.le_of_ble_eq_true rfl) rfl ?_
  obtain ⟨-, -, hn1, hn2⟩ := id hf
  obtain ⟨q1, q2, q3, q4⟩ := wf0_kp hf 1
  have sp : ∀ l', am_R (d + 2) zX11_adds [.ref 33, .int c, .int l'] (kpM M u 1) (fun v M' => v = some (.int (nI (fN (M.1 34)))) ∧ M' = rw34 (kpM M u 1) (adF (kpF (M.1 34) 1) c l')) := by
    intro l'
    have := sm_adds (d + 1) (kpM M u 1) (by rw [kp34]; exact q1) c l' (by rw [kp34, q4]; exact hn)
    rw [kp34, q4] at this
    exact this
  refine ae_iload_n (pc := 0) dX11_add_0 rfl ?_
  refine ae_pcallS (pc := 1) (z := zX11_isColor) (As := [_]) dX11_add_1 rfl rfl rfl rfl (Nat.le_of_ble_eq_true rfl) (sm_isColor d _ _) ?_
  refine ae_if_ne (pc := 4) (t := 10) dX11_add_4 (by decide) (fun c4 => ?_) (fun c4 => ?_)
  rotate_left
  · exact absurd hc (bI_eq0.mp (Classical.not_not.mp c4))
  refine ae_aload_n (pc := 10) dX11_add_10 rfl ?_
  refine ae_getR (pc := 11) (k := 33) (c := 11) (j := 0) (q := 34) dX11_add_11 rfl rfl (Nat.le_of_ble_eq_true rfl) rfl (Nat.le_of_ble_eq_true rfl) rfl ?_
  refine ae_sipush (pc := 14) (v := nI 258) dX11_add_14 (by decide) ?_
  refine ae_iaload (pc := 17) (k := 34) (N := 549) (v := nI (fN (M.1 34))) _ dX11_add_17 (Nat.le_of_ble_eq_true rfl) rfl rfl rfl (by omega) hn1 ?_
  refine ae_bipush (pc := 18) (v := nI 16) dX11_add_18 (by decide) ?_
  refine ae_icmp_ne (pc := 20) (t := 26) dX11_add_20 (by decide) (fun c20 => ?_) (fun c20 => ?_)
  rotate_left
  · exact absurd (Classical.not_not.mp c20) (by rw [nI_eq (by omega) (by omega)]; omega)
  refine ae_aload_n (pc := 26) dX11_add_26 rfl ?_
  refine ae_iconst (pc := 27) (v := nI 1) dX11_add_27 (by decide) ?_
  refine ae_callV (pc := 28) (z := zX11_keeps) (k := 33) (As := [_]) dX11_add_28 rfl rfl rfl rfl (Nat.le_of_ble_eq_true rfl) rfl (Nat.le_of_ble_eq_true rfl) (Nat.le_of_ble_eq_true rfl) (sm_keeps (d + 1) M u hu hu2 _) (fun v M' hq => ?_)
  obtain ⟨rfl, rfl⟩ := hq
  refine ae_aload_n (pc := 31) dX11_add_31 rfl ?_
  refine ae_iload_n (pc := 32) dX11_add_32 rfl ?_
  refine ae_iload_n (pc := 33) dX11_add_33 rfl ?_
  refine ae_if_eq (pc := 34) (t := 41) dX11_add_34 (by decide) (fun c34 => ?_) (fun c34 => ?_)
  · refine ae_iconst (pc := 41) (v := nI 0) dX11_add_41 (by decide) ?_
    refine ae_callV (pc := 42) (z := zX11_adds) (k := 33) (As := [_, _]) dX11_add_42 rfl rfl rfl rfl (Nat.le_of_ble_eq_true rfl) rfl (Nat.le_of_ble_eq_true rfl) (Nat.le_of_ble_eq_true rfl) (sp _) (fun v M' hq => ?_)
    obtain ⟨rfl, rfl⟩ := hq
    refine ae_ireturn (pc := 45) dX11_add_45 rfl ?_
    exact ⟨rfl, by first | rw [bI_t c34]; rfl | rw [bI_f (by simpa using c34)]; rfl⟩
  · refine ae_iconst (pc := 37) (v := nI 1) dX11_add_37 (by decide) ?_
    refine ae_goto (pc := 38) (t := 42) dX11_add_38 (by decide) ?_
    refine ae_callV (pc := 42) (z := zX11_adds) (k := 33) (As := [_, _]) dX11_add_42 rfl rfl rfl rfl (Nat.le_of_ble_eq_true rfl) rfl (Nat.le_of_ble_eq_true rfl) (Nat.le_of_ble_eq_true rfl) (sp _) (fun v M' hq => ?_)
    obtain ⟨rfl, rfl⟩ := hq
    refine ae_ireturn (pc := 45) dX11_add_45 rfl ?_
    exact ⟨rfl, by first | rw [bI_t c34]; rfl | rw [bI_f (by simpa using c34)]; rfl⟩
theorem sm_setMetric0 (d : Nat) (M : am_M) (x : Int32) (hn : ¬ (nI 0 ≤ x ∧ x ≤ nI 1)) : am_R (d + 2) zX11_setMetric [.ref 33, .int x] M (fun v M' => v = some (.int (-2)) ∧ M' = M) := by
  refine ae_enter (z := zX11_setMetric) (y := yX11_setMetric) (cc := cX11_setMetric) (mL := 3) (rt := some .int) (ci := 11) (st := false) (np := 1) (L := [some (.ref 33), some (.int x), none]) rfl (by decide) (Nat.le_of_ble_eq_true rfl) rfl ?_
  refine ae_iload_n (pc := 0) dX11_setMetric_0 rfl ?_
  refine ae_iconst (pc := 1) (v := nI 0) dX11_setMetric_1 (by decide) ?_
  refine ae_iconst (pc := 2) (v := nI 1) dX11_setMetric_2 (by decide) ?_
  refine ae_pcallS (pc := 3) (z := zX11_in) (As := [_, _, _]) dX11_setMetric_3 rfl rfl rfl rfl (Nat.le_of_ble_eq_true rfl) (sm_in d _ _ _ _) ?_
  refine ae_if_ne (pc := 6) (t := 12) dX11_setMetric_6 (by decide) (fun c6 => ?_) (fun c6 => ?_)
  · exact (hn (bI_ne0.mp c6)).elim
  · refine ae_bipush (pc := 9) (v := (-2)) dX11_setMetric_9 (by decide) ?_
    refine ae_ireturn (pc := 11) dX11_setMetric_11 rfl ?_
    exact ⟨rfl, rfl⟩
theorem sm_setMetric (d : Nat) (M : am_M) (u : Nat) (hu : M.1 33 2 = nI u) (hu2 : u ≤ 10) (x : Int32) (hx : nI 0 ≤ x ∧ x ≤ nI 1) : am_R (d + 2) zX11_setMetric [.ref 33, .int x] M (fun v M' => v = some (.int (M.1 34 291)) ∧ M' = rw34 (kpM M u 0) (upd (kpF (M.1 34) 0) 291 x)) := by
  refine ae_enter (z := zX11_setMetric) (y := yX11_setMetric) (cc := cX11_setMetric) (mL := 3) (rt := some .int) (ci := 11) (st := false) (np := 1) (L := [some (.ref 33), some (.int x), none]) rfl (by decide) (Nat.le_of_ble_eq_true rfl) rfl ?_
  refine ae_iload_n (pc := 0) dX11_setMetric_0 rfl ?_
  refine ae_iconst (pc := 1) (v := nI 0) dX11_setMetric_1 (by decide) ?_
  refine ae_iconst (pc := 2) (v := nI 1) dX11_setMetric_2 (by decide) ?_
  refine ae_pcallS (pc := 3) (z := zX11_in) (As := [_, _, _]) dX11_setMetric_3 rfl rfl rfl rfl (Nat.le_of_ble_eq_true rfl) (sm_in d _ _ _ _) ?_
  refine ae_if_ne (pc := 6) (t := 12) dX11_setMetric_6 (by decide) (fun c6 => ?_) (fun c6 => ?_)
  rotate_left
  · exact absurd hx (bI_eq0.mp (Classical.not_not.mp c6))
  refine ae_aload_n (pc := 12) dX11_setMetric_12 rfl ?_
  refine ae_iconst (pc := 13) (v := nI 0) dX11_setMetric_13 (by decide) ?_
  refine ae_callV (pc := 14) (z := zX11_keeps) (k := 33) (As := [_]) dX11_setMetric_14 rfl rfl rfl rfl (Nat.le_of_ble_eq_true rfl) rfl (Nat.le_of_ble_eq_true rfl) (Nat.le_of_ble_eq_true rfl) (sm_keeps d M u hu hu2 _) (fun v M' hq => ?_)
  obtain ⟨rfl, rfl⟩ := hq
  refine ae_M (M' := rw34 (kpM M u 0) (kpF (M.1 34) 0)) (by rw [← kp34 M u 0]; exact (rw34_eta _).symm) ?_
  refine ae_aload_n (pc := 17) dX11_setMetric_17 rfl ?_
  refine ae_getR (pc := 18) (k := 33) (c := 11) (j := 0) (q := 34) dX11_setMetric_18 rfl rfl (Nat.le_of_ble_eq_true rfl) rfl (Nat.le_of_ble_eq_true rfl) rfl ?_
  refine ae_sipush (pc := 21) (v := nI 291) dX11_setMetric_21 (by decide) ?_
  refine ae_iaload (pc := 24) (k := 34) (N := 549) (v := M.1 34 291) _ dX11_setMetric_24 (Nat.le_of_ble_eq_true rfl) rfl rfl rfl (by omega) (by rw [rw34_34, kpF_ne _ _ (by decide)]) ?_
  refine ae_istore_n (pc := 25) dX11_setMetric_25 rfl (Nat.le_of_ble_eq_true rfl) ?_
  refine ae_aload_n (pc := 26) dX11_setMetric_26 rfl ?_
  refine ae_getR (pc := 27) (k := 33) (c := 11) (j := 0) (q := 34) dX11_setMetric_27 rfl rfl (Nat.le_of_ble_eq_true rfl) rfl (Nat.le_of_ble_eq_true rfl) rfl ?_
  refine ae_sipush (pc := 30) (v := nI 291) dX11_setMetric_30 (by decide) ?_
  refine ae_iload_n (pc := 33) dX11_setMetric_33 rfl ?_
  refine ae_iastore (pc := 34) (k := 34) (N := 549) _ dX11_setMetric_34 (Nat.le_of_ble_eq_true rfl) rfl rfl rfl (by omega) rfl ?_
  refine ae_M (rw34_upd _ _ _ _) ?_
  refine ae_iload_n (pc := 35) dX11_setMetric_35 rfl ?_
  refine ae_ireturn (pc := 36) dX11_setMetric_36 rfl ?_
  exact ⟨rfl, rfl⟩
theorem sm_lock0 (d : Nat) (M : am_M) (x l : Int32) (hn : ¬ inE (M.1 34) x) : am_R (d + 3) zX11_lock [.ref 33, .int x, .int l] M (fun v M' => v = some (.int (-2)) ∧ M' = M) := by
  refine ae_enter (z := zX11_lock) (y := yX11_lock) (cc := cX11_lock) (mL := 4) (rt := some .int) (ci := 11) (st := false) (np := 2) (L := [some (.ref 33), some (.int x), some (.int l), none]) rfl (by decide) (Nat.le_of_ble_eq_true rfl) rfl ?_
  refine ae_aload_n (pc := 0) dX11_lock_0 rfl ?_
  refine ae_iload_n (pc := 1) dX11_lock_1 rfl ?_
  refine ae_pcallV (pc := 2) (z := zX11_isEntry) (k := 33) (As := [_]) dX11_lock_2 rfl rfl rfl rfl (Nat.le_of_ble_eq_true rfl) rfl (Nat.le_of_ble_eq_true rfl) (Nat.le_of_ble_eq_true rfl) (sm_isEntry d M _) ?_
  refine ae_if_ne (pc := 5) (t := 11) dX11_lock_5 (by decide) (fun c5 => ?_) (fun c5 => ?_)
  · exact (hn (bI_ne0.mp c5)).elim
  · refine ae_bipush (pc := 8) (v := (-2)) dX11_lock_8 (by decide) ?_
    refine ae_ireturn (pc := 10) dX11_lock_10 rfl ?_
    exact ⟨rfl, rfl⟩
theorem sm_lock (d : Nat) (M : am_M) (hf : wf0 (M.1 34)) (u : Nat) (hu : M.1 33 2 = nI u) (hu2 : u ≤ 10) (e : Nat) (l : Int32) (he : e < fN (M.1 34)) : am_R (d + 3) zX11_lock [.ref 33, .int (nI e), .int l] M (fun v M' => v = some (.int (M.1 34 (275 + e))) ∧ M' = rw34 (kpM M u 0) (upd (kpF (M.1 34) 0) (275 + e) (bI (l ≠ 0)))) := by
  refine ae_enter (z := zX11_lock) (y := yX11_lock) (cc := cX11_lock) (mL := 4) (rt := some .int) (ci := 11) (st := false) (np := 2) (L := [some (.ref 33), some (.int (nI e)), some (.int l), none]) rfl (by decide) (Nat.le_of_ble_eq_true rfl) rfl ?_
  obtain ⟨-, -, hn1, hn2⟩ := id hf
  refine ae_aload_n (pc := 0) dX11_lock_0 rfl ?_
  refine ae_iload_n (pc := 1) dX11_lock_1 rfl ?_
  refine ae_pcallV (pc := 2) (z := zX11_isEntry) (k := 33) (As := [_]) dX11_lock_2 rfl rfl rfl rfl (Nat.le_of_ble_eq_true rfl) rfl (Nat.le_of_ble_eq_true rfl) (Nat.le_of_ble_eq_true rfl) (sm_isEntry d M _) ?_
  refine ae_if_ne (pc := 5) (t := 11) dX11_lock_5 (by decide) (fun c5 => ?_) (fun c5 => ?_)
  rotate_left
  · exact absurd (inE_of hf he) (bI_eq0.mp (Classical.not_not.mp c5))
  refine ae_aload_n (pc := 11) dX11_lock_11 rfl ?_
  refine ae_iconst (pc := 12) (v := nI 0) dX11_lock_12 (by decide) ?_
  refine ae_callV (pc := 13) (z := zX11_keeps) (k := 33) (As := [_]) dX11_lock_13 rfl rfl rfl rfl (Nat.le_of_ble_eq_true rfl) rfl (Nat.le_of_ble_eq_true rfl) (Nat.le_of_ble_eq_true rfl) (sm_keeps (d + 1) M u hu hu2 _) (fun v M' hq => ?_)
  obtain ⟨rfl, rfl⟩ := hq
  refine ae_M (M' := rw34 (kpM M u 0) (kpF (M.1 34) 0)) (by rw [← kp34 M u 0]; exact (rw34_eta _).symm) ?_
  refine ae_aload_n (pc := 16) dX11_lock_16 rfl ?_
  refine ae_getR (pc := 17) (k := 33) (c := 11) (j := 0) (q := 34) dX11_lock_17 rfl rfl (Nat.le_of_ble_eq_true rfl) rfl (Nat.le_of_ble_eq_true rfl) rfl ?_
  refine ae_sipush (pc := 20) (v := nI 275) dX11_lock_20 (by decide) ?_
  refine ae_iload_n (pc := 23) dX11_lock_23 rfl ?_
  refine ae_iadd (pc := 24) dX11_lock_24 (nI_add _ _) ?_
  refine ae_iaload (pc := 25) (k := 34) (N := 549) (v := M.1 34 (275 + e)) _ dX11_lock_25 (Nat.le_of_ble_eq_true rfl) rfl rfl rfl (by omega) (by rw [rw34_34, kpF_ne _ _ (by omega)]) ?_
  refine ae_istore_n (pc := 26) dX11_lock_26 rfl (Nat.le_of_ble_eq_true rfl) ?_
  refine ae_aload_n (pc := 27) dX11_lock_27 rfl ?_
  refine ae_getR (pc := 28) (k := 33) (c := 11) (j := 0) (q := 34) dX11_lock_28 rfl rfl (Nat.le_of_ble_eq_true rfl) rfl (Nat.le_of_ble_eq_true rfl) rfl ?_
  refine ae_sipush (pc := 31) (v := nI 275) dX11_lock_31 (by decide) ?_
  refine ae_iload_n (pc := 34) dX11_lock_34 rfl ?_
  refine ae_iadd (pc := 35) dX11_lock_35 (nI_add _ _) ?_
  refine ae_iload_n (pc := 36) dX11_lock_36 rfl ?_
  refine ae_if_eq (pc := 37) (t := 44) dX11_lock_37 (by decide) (fun c37 => ?_) (fun c37 => ?_)
  · refine ae_iconst (pc := 44) (v := nI 0) dX11_lock_44 (by decide) ?_
    refine ae_iastore (pc := 45) (k := 34) (N := 549) _ dX11_lock_45 (Nat.le_of_ble_eq_true rfl) rfl rfl rfl (by omega) rfl ?_
    refine ae_M (rw34_upd _ _ _ _) ?_
    refine ae_iload_n (pc := 46) dX11_lock_46 rfl ?_
    refine ae_ireturn (pc := 47) dX11_lock_47 rfl ?_
    exact ⟨rfl, by first | rw [bI_t c37]; rfl | rw [bI_f (by simpa using c37)]; rfl⟩
  · refine ae_iconst (pc := 40) (v := nI 1) dX11_lock_40 (by decide) ?_
    refine ae_goto (pc := 41) (t := 45) dX11_lock_41 (by decide) ?_
    refine ae_iastore (pc := 45) (k := 34) (N := 549) _ dX11_lock_45 (Nat.le_of_ble_eq_true rfl) rfl rfl rfl (by omega) rfl ?_
    refine ae_M (rw34_upd _ _ _ _) ?_
    refine ae_iload_n (pc := 46) dX11_lock_46 rfl ?_
    refine ae_ireturn (pc := 47) dX11_lock_47 rfl ?_
    exact ⟨rfl, by first | rw [bI_t c37]; rfl | rw [bI_f (by simpa using c37)]; rfl⟩
theorem sm_remove0 (d : Nat) (M : am_M) (x : Int32) (hn : ¬ inE (M.1 34) x) : am_R (d + 3) zX11_remove [.ref 33, .int x] M (fun v M' => v = some (.int (-2)) ∧ M' = M) := by
  refine ae_enter (z := zX11_remove) (y := yX11_remove) (cc := cX11_remove) (mL := 3) (rt := some .int) (ci := 11) (st := false) (np := 1) (L := [some (.ref 33), some (.int x), none]) rfl (by decide) (Nat.le_of_ble_eq_true rfl) rfl ?_
  refine ae_aload_n (pc := 0) dX11_remove_0 rfl ?_
  refine ae_iload_n (pc := 1) dX11_remove_1 rfl ?_
  refine ae_pcallV (pc := 2) (z := zX11_isEntry) (k := 33) (As := [_]) dX11_remove_2 rfl rfl rfl rfl (Nat.le_of_ble_eq_true rfl) rfl (Nat.le_of_ble_eq_true rfl) (Nat.le_of_ble_eq_true rfl) (sm_isEntry d M _) ?_
  refine ae_if_ne (pc := 5) (t := 11) dX11_remove_5 (by decide) (fun c5 => ?_) (fun c5 => ?_)
  · exact (hn (bI_ne0.mp c5)).elim
  · refine ae_bipush (pc := 8) (v := (-2)) dX11_remove_8 (by decide) ?_
    refine ae_ireturn (pc := 10) dX11_remove_10 rfl ?_
    exact ⟨rfl, rfl⟩
theorem sm_removeL (d : Nat) (M : am_M) (hf : wf0 (M.1 34)) (e : Nat) (he : e < fN (M.1 34)) (hl : M.1 34 (275 + e) = 1) : am_R (d + 3) zX11_remove [.ref 33, .int (nI e)] M (fun v M' => v = some (.int (-3)) ∧ M' = M) := by
  refine ae_enter (z := zX11_remove) (y := yX11_remove) (cc := cX11_remove) (mL := 3) (rt := some .int) (ci := 11) (st := false) (np := 1) (L := [some (.ref 33), some (.int (nI e)), none]) rfl (by decide) (Nat.le_of_ble_eq_true rfl) rfl ?_
  obtain ⟨-, -, hn1, hn2⟩ := id hf
  refine ae_aload_n (pc := 0) dX11_remove_0 rfl ?_
  refine ae_iload_n (pc := 1) dX11_remove_1 rfl ?_
  refine ae_pcallV (pc := 2) (z := zX11_isEntry) (k := 33) (As := [_]) dX11_remove_2 rfl rfl rfl rfl (Nat.le_of_ble_eq_true rfl) rfl (Nat.le_of_ble_eq_true rfl) (Nat.le_of_ble_eq_true rfl) (sm_isEntry d M _) ?_
  refine ae_if_ne (pc := 5) (t := 11) dX11_remove_5 (by decide) (fun c5 => ?_) (fun c5 => ?_)
  rotate_left
  · exact absurd (inE_of hf he) (bI_eq0.mp (Classical.not_not.mp c5))
  refine ae_aload_n (pc := 11) dX11_remove_11 rfl ?_
  refine ae_iload_n (pc := 12) dX11_remove_12 rfl ?_
  refine ae_pcallV (pc := 13) (z := zX11_isLocked) (k := 33) (As := [_]) dX11_remove_13 rfl rfl rfl rfl (Nat.le_of_ble_eq_true rfl) rfl (Nat.le_of_ble_eq_true rfl) (Nat.le_of_ble_eq_true rfl) (sm_isLocked (d + 1) M e (by omega)) ?_
  refine ae_if_eq (pc := 16) (t := 22) dX11_remove_16 (by decide) (fun c16 => ?_) (fun c16 => ?_)
  · exact absurd hl (bI_eq0.mp c16)
  · refine ae_bipush (pc := 19) (v := (-3)) dX11_remove_19 (by decide) ?_
    refine ae_ireturn (pc := 21) dX11_remove_21 rfl ?_
    exact ⟨rfl, rfl⟩
theorem sm_remove (d : Nat) (M : am_M) (hf : wf0 (M.1 34)) (u : Nat) (hu : M.1 33 2 = nI u) (hu2 : u ≤ 10) (e : Nat) (he : e < fN (M.1 34)) (hl : ¬ M.1 34 (275 + e) = 1) : am_R (d + 3) zX11_remove [.ref 33, .int (nI e)] M (fun v M' => v = some (.int (M.1 34 (259 + e))) ∧ M' = rw34 (kpM M u 1) (rmF (kpF (M.1 34) 1) e (fN (M.1 34) - 1 - e))) := by
  refine ae_enter (z := zX11_remove) (y := yX11_remove) (cc := cX11_remove) (mL := 3) (rt := some .int) (ci := 11) (st := false) (np := 1) (L := [some (.ref 33), some (.int (nI e)), none]) rfl (by decide) (Nat.le_of_ble_eq_true rfl) rfl ?_
  obtain ⟨-, -, hn1, hn2⟩ := id hf
  obtain ⟨q1, q2, q3, q4⟩ := wf0_kp hf 1
  have sp : am_R (d + 2) zX11_removes [.ref 33, .int (nI e)] (kpM M u 1) (fun v M' => v = none ∧ M' = rw34 (kpM M u 1) (rmF (kpF (M.1 34) 1) e (fN (M.1 34) - 1 - e))) := by
    have := sm_removes (d + 1) (kpM M u 1) (by rw [kp34]; exact q1) e (by rw [kp34, q4]; exact he)
    rw [kp34, q4] at this
    exact this
  refine ae_aload_n (pc := 0) dX11_remove_0 rfl ?_
  refine ae_iload_n (pc := 1) dX11_remove_1 rfl ?_
  refine ae_pcallV (pc := 2) (z := zX11_isEntry) (k := 33) (As := [_]) dX11_remove_2 rfl rfl rfl rfl (Nat.le_of_ble_eq_true rfl) rfl (Nat.le_of_ble_eq_true rfl) (Nat.le_of_ble_eq_true rfl) (sm_isEntry d M _) ?_
  refine ae_if_ne (pc := 5) (t := 11) dX11_remove_5 (by decide) (fun c5 => ?_) (fun c5 => ?_)
  rotate_left
  · exact absurd (inE_of hf he) (bI_eq0.mp (Classical.not_not.mp c5))
  refine ae_aload_n (pc := 11) dX11_remove_11 rfl ?_
  refine ae_iload_n (pc := 12) dX11_remove_12 rfl ?_
  refine ae_pcallV (pc := 13) (z := zX11_isLocked) (k := 33) (As := [_]) dX11_remove_13 rfl rfl rfl rfl (Nat.le_of_ble_eq_true rfl) rfl (Nat.le_of_ble_eq_true rfl) (Nat.le_of_ble_eq_true rfl) (sm_isLocked (d + 1) M e (by omega)) ?_
  refine ae_if_eq (pc := 16) (t := 22) dX11_remove_16 (by decide) (fun c16 => ?_) (fun c16 => ?_)
  rotate_left
  · exact absurd (bI_ne0.mp c16) hl
  refine ae_aload_n (pc := 22) dX11_remove_22 rfl ?_
  refine ae_iconst (pc := 23) (v := nI 1) dX11_remove_23 (by decide) ?_
  refine ae_callV (pc := 24) (z := zX11_keeps) (k := 33) (As := [_]) dX11_remove_24 rfl rfl rfl rfl (Nat.le_of_ble_eq_true rfl) rfl (Nat.le_of_ble_eq_true rfl) (Nat.le_of_ble_eq_true rfl) (sm_keeps (d + 1) M u hu hu2 _) (fun v M' hq => ?_)
  obtain ⟨rfl, rfl⟩ := hq
  refine ae_aload_n (pc := 27) dX11_remove_27 rfl ?_
  refine ae_getR (pc := 28) (k := 33) (c := 11) (j := 0) (q := 34) dX11_remove_28 rfl rfl (Nat.le_of_ble_eq_true rfl) rfl (Nat.le_of_ble_eq_true rfl) rfl ?_
  refine ae_sipush (pc := 31) (v := nI 259) dX11_remove_31 (by decide) ?_
  refine ae_iload_n (pc := 34) dX11_remove_34 rfl ?_
  refine ae_iadd (pc := 35) dX11_remove_35 (nI_add _ _) ?_
  refine ae_iaload (pc := 36) (k := 34) (N := 549) (v := M.1 34 (259 + e)) _ dX11_remove_36 (Nat.le_of_ble_eq_true rfl) rfl rfl rfl (by omega) (by rw [kp34, kpF_ne _ _ (by omega)]) ?_
  refine ae_istore_n (pc := 37) dX11_remove_37 rfl (Nat.le_of_ble_eq_true rfl) ?_
  refine ae_aload_n (pc := 38) dX11_remove_38 rfl ?_
  refine ae_iload_n (pc := 39) dX11_remove_39 rfl ?_
  refine ae_callV (pc := 40) (z := zX11_removes) (k := 33) (As := [_]) dX11_remove_40 rfl rfl rfl rfl (Nat.le_of_ble_eq_true rfl) rfl (Nat.le_of_ble_eq_true rfl) (Nat.le_of_ble_eq_true rfl) (sp) (fun v M' hq => ?_)
  obtain ⟨rfl, rfl⟩ := hq
  refine ae_iload_n (pc := 43) dX11_remove_43 rfl ?_
  refine ae_ireturn (pc := 44) dX11_remove_44 rfl ?_
  exact ⟨rfl, rfl⟩

