theorem sm_errorOf (d : Nat) (M : am_M) (hf : wf (M.1 34)) (h1 : M.1 34 292 = 1) (p : Nat) (hp : p < fA (M.1 34)) (ho : M.1 34 (2 + p) ≠ -1) : am_R (d + 3) zX11_errorOf [.ref 33, .int (nI p)] M (fun v M' => v = some (.int (err (M.1 34) p)) ∧ M' = M) := by
  refine ae_enter (z := zX11_errorOf) (y := yX11_errorOf) (cc := cX11_errorOf) (mL := 2) (rt := some .int) (ci := 11) (st := false) (np := 1) (L := [some (.ref 33), some (.int (nI p))]) rfl (by decide) (Nat.le_of_ble_eq_true rfl) rfl ?_
  have hA := fA_le hf.1
  have hN := hf.1.2.2.2
  obtain ⟨i1, i2, i3⟩ := ixN_of hf h1 hp
  have i3 := i3 ho
  refine ae_aload_n (pc := 0) dX11_errorOf_0 rfl ?_
  refine ae_iload_n (pc := 1) dX11_errorOf_1 rfl ?_
  refine ae_pcallV (pc := 2) (z := zX11_isOpaque) (k := 33) (As := [_]) dX11_errorOf_2 rfl rfl rfl rfl (Nat.le_of_ble_eq_true rfl) rfl (Nat.le_of_ble_eq_true rfl) (Nat.le_of_ble_eq_true rfl) (sm_isOpaque (d + 1) M p (by omega)) ?_
  refine ae_if_eq (pc := 5) (t := 42) dX11_errorOf_5 (by decide) (fun c5 => ?_) (fun c5 => ?_)
  · exact absurd ho (bI_eq0.mp c5)
  refine ae_aload_n (pc := 8) dX11_errorOf_8 rfl ?_
  refine ae_aload_n (pc := 9) dX11_errorOf_9 rfl ?_
  refine ae_getR (pc := 10) (k := 33) (c := 11) (j := 0) (q := 34) dX11_errorOf_10 rfl rfl (Nat.le_of_ble_eq_true rfl) rfl (Nat.le_of_ble_eq_true rfl) rfl ?_
  refine ae_iconst (pc := 13) (v := nI 2) dX11_errorOf_13 (by decide) ?_
  refine ae_iload_n (pc := 14) dX11_errorOf_14 rfl ?_
  refine ae_iadd (pc := 15) dX11_errorOf_15 (nI_add _ _) ?_
  refine ae_iaload (pc := 16) (k := 34) (N := 549) _ dX11_errorOf_16 (Nat.le_of_ble_eq_true rfl) rfl rfl rfl (by omega) rfl ?_
  refine ae_aload_n (pc := 17) dX11_errorOf_17 rfl ?_
  refine ae_getR (pc := 18) (k := 33) (c := 11) (j := 0) (q := 34) dX11_errorOf_18 rfl rfl (Nat.le_of_ble_eq_true rfl) rfl (Nat.le_of_ble_eq_true rfl) rfl ?_
  refine ae_sipush (pc := 21) (v := nI 259) dX11_errorOf_21 (by decide) ?_
  refine ae_aload_n (pc := 24) dX11_errorOf_24 rfl ?_
  refine ae_getR (pc := 25) (k := 33) (c := 11) (j := 0) (q := 34) dX11_errorOf_25 rfl rfl (Nat.le_of_ble_eq_true rfl) rfl (Nat.le_of_ble_eq_true rfl) rfl ?_
  refine ae_sipush (pc := 28) (v := nI 293) dX11_errorOf_28 (by decide) ?_
  refine ae_iload_n (pc := 31) dX11_errorOf_31 rfl ?_
  refine ae_iadd (pc := 32) dX11_errorOf_32 (nI_add _ _) ?_
  refine ae_iaload (pc := 33) (k := 34) (N := 549) (v := nI (ixN (M.1 34) p)) _ dX11_errorOf_33 (Nat.le_of_ble_eq_true rfl) rfl rfl rfl (by omega) i1 ?_
  refine ae_iadd (pc := 34) (v := nI (259 + ixN (M.1 34) p)) dX11_errorOf_34 (nI_add _ _) ?_
  refine ae_iaload (pc := 35) (k := 34) (N := 549) _ dX11_errorOf_35 (Nat.le_of_ble_eq_true rfl) rfl rfl rfl (by omega) rfl ?_
  refine ae_pcallV (pc := 36) (z := zX11_distance) (k := 33) (As := [_, _]) dX11_errorOf_36 rfl rfl rfl rfl (Nat.le_of_ble_eq_true rfl) rfl (Nat.le_of_ble_eq_true rfl) (Nat.le_of_ble_eq_true rfl) (sm_distance d M _ _) ?_
  refine ae_goto (pc := 39) (t := 43) dX11_errorOf_39 (by decide) ?_
  refine ae_ireturn (pc := 43) dX11_errorOf_43 rfl ?_
  exact ⟨rfl, rfl⟩
theorem sm_error0 (d : Nat) (M : am_M) (h : M.1 34 292 = 0) : am_R (d + 4) zX11_error [.ref 33] M (fun v M' => v = some (.int (-3)) ∧ M' = M) := by
  refine ae_enter (z := zX11_error) (y := yX11_error) (cc := cX11_error) (mL := 3) (rt := some .int) (ci := 11) (st := false) (np := 0) (L := [some (.ref 33), none, none]) rfl (by decide) (Nat.le_of_ble_eq_true rfl) rfl ?_
  refine ae_aload_n (pc := 0) dX11_error_0 rfl ?_
  refine ae_getR (pc := 1) (k := 33) (c := 11) (j := 0) (q := 34) dX11_error_1 rfl rfl (Nat.le_of_ble_eq_true rfl) rfl (Nat.le_of_ble_eq_true rfl) rfl ?_
  refine ae_sipush (pc := 4) (v := nI 292) dX11_error_4 (by decide) ?_
  refine ae_iaload (pc := 7) (k := 34) (N := 549) _ dX11_error_7 (Nat.le_of_ble_eq_true rfl) rfl rfl rfl (by omega) rfl ?_
  refine ae_if_ne (pc := 8) (t := 14) dX11_error_8 (by decide) (fun c8 => ?_) (fun c8 => ?_)
  · exact absurd h c8
  · refine ae_bipush (pc := 11) (v := (-3)) dX11_error_11 (by decide) ?_
    refine ae_ireturn (pc := 13) dX11_error_13 rfl ?_
    exact ⟨rfl, rfl⟩
theorem sm_error (d : Nat) (M : am_M) (hf : wf (M.1 34)) (h1 : M.1 34 292 = 1) : am_R (d + 4) zX11_error [.ref 33] M (fun v M' => v = some (.int (esum (M.1 34) (fA (M.1 34)))) ∧ M' = M) := by
  refine ae_enter (z := zX11_error) (y := yX11_error) (cc := cX11_error) (mL := 3) (rt := some .int) (ci := 11) (st := false) (np := 0) (L := [some (.ref 33), none, none]) rfl (by decide) (Nat.le_of_ble_eq_true rfl) rfl ?_
  have hA := fA_le hf.1
  refine ae_aload_n (pc := 0) dX11_error_0 rfl ?_
  refine ae_getR (pc := 1) (k := 33) (c := 11) (j := 0) (q := 34) dX11_error_1 rfl rfl (Nat.le_of_ble_eq_true rfl) rfl (Nat.le_of_ble_eq_true rfl) rfl ?_
  refine ae_sipush (pc := 4) (v := nI 292) dX11_error_4 (by decide) ?_
  refine ae_iaload (pc := 7) (k := 34) (N := 549) (v := 1) _ dX11_error_7 (Nat.le_of_ble_eq_true rfl) rfl rfl rfl (by omega) h1 ?_
  refine ae_if_ne (pc := 8) (t := 14) dX11_error_8 (by decide) (fun _ => ?_) (fun q => absurd (by decide) q)
  refine ae_iconst (pc := 14) (v := nI 0) dX11_error_14 (by decide) ?_
  refine ae_istore_n (pc := 15) dX11_error_15 rfl (Nat.le_of_ble_eq_true rfl) ?_
  refine ae_iconst (pc := 16) (v := nI 0) dX11_error_16 (by decide) ?_
  refine ae_istore_n (pc := 17) dX11_error_17 rfl (Nat.le_of_ble_eq_true rfl) ?_
  skip
  refine am_down (P := fun k => am_E none (am_R (d + 3)) cX11_error 11 (some .int) _ (18, [some (.ref 33), some (.int (esum (M.1 34) k)), some (.int (nI k))], [], M)) (fA (M.1 34)) (fun k hk ih => ?_)
  refine ae_iload_n (pc := 18) dX11_error_18 rfl ?_
  refine ae_aload_n (pc := 19) dX11_error_19 rfl ?_
  refine ae_pcallV (pc := 20) (z := zX11_pixels) (k := 33) (As := []) dX11_error_20 rfl rfl rfl rfl (Nat.le_of_ble_eq_true rfl) rfl (Nat.le_of_ble_eq_true rfl) (Nat.le_of_ble_eq_true rfl) (sm_pixels (d + 2) M hf.1) ?_
  refine ae_icmp_ge (pc := 23) (t := 52) dX11_error_23 (by decide) (fun c23 => ?_) (fun c23 => ?_)
  · have hk2 : k = fA (M.1 34) := by rw [nI_leI (by omega) (by omega)] at c23; omega
    subst hk2
    refine ae_iload_n (pc := 52) dX11_error_52 rfl ?_
    refine ae_ireturn (pc := 53) dX11_error_53 rfl ?_
    exact ⟨rfl, rfl⟩
  · have hk2 : k < fA (M.1 34) := by rw [nI_leI (by omega) (by omega)] at c23; omega
    refine ae_iload_n (pc := 26) dX11_error_26 rfl ?_
    refine ae_aload_n (pc := 27) dX11_error_27 rfl ?_
    refine ae_iload_n (pc := 28) dX11_error_28 rfl ?_
    refine ae_pcallV (pc := 29) (z := zX11_isOpaque) (k := 33) (As := [_]) dX11_error_29 rfl rfl rfl rfl (Nat.le_of_ble_eq_true rfl) rfl (Nat.le_of_ble_eq_true rfl) (Nat.le_of_ble_eq_true rfl) (sm_isOpaque (d + 2) M k (by omega)) ?_
    refine ae_if_eq (pc := 32) (t := 43) dX11_error_32 (by decide) (fun c32 => ?_) (fun c32 => ?_)
    · refine ae_iconst (pc := 43) (v := nI 0) dX11_error_43 (by decide) ?_
      refine ae_iadd (pc := 44) dX11_error_44 rfl ?_
      refine ae_istore_n (pc := 45) (v := esum (M.1 34) (k + 1)) dX11_error_45 (by rw [esum_s]; first | rw [if_neg (bI_ne0.mp c32)] | rw [if_pos (by simpa using bI_eq0.mp c32)]) (Nat.le_of_ble_eq_true rfl) ?_
      refine ae_iinc (pc := 46) (v := nI (k + 1)) dX11_error_46 rfl (nI_inc k) ?_
      refine ae_goto (pc := 49) (t := 18) dX11_error_49 (by decide) ?_
      exact ih hk2
    · refine ae_aload_n (pc := 35) dX11_error_35 rfl ?_
      refine ae_iload_n (pc := 36) dX11_error_36 rfl ?_
      refine ae_pcallV (pc := 37) (z := zX11_errorOf) (k := 33) (As := [_]) dX11_error_37 rfl rfl rfl rfl (Nat.le_of_ble_eq_true rfl) rfl (Nat.le_of_ble_eq_true rfl) (Nat.le_of_ble_eq_true rfl) (sm_errorOf d M hf h1 k hk2 (bI_ne0.mp c32)) ?_
      refine ae_goto (pc := 40) (t := 44) dX11_error_40 (by decide) ?_
      refine ae_iadd (pc := 44) dX11_error_44 rfl ?_
      refine ae_istore_n (pc := 45) (v := esum (M.1 34) (k + 1)) dX11_error_45 (by rw [esum_s]; first | rw [if_neg (bI_ne0.mp c32)] | rw [if_pos (by simpa using bI_eq0.mp c32)]) (Nat.le_of_ble_eq_true rfl) ?_
      refine ae_iinc (pc := 46) (v := nI (k + 1)) dX11_error_46 rfl (nI_inc k) ?_
      refine ae_goto (pc := 49) (t := 18) dX11_error_49 (by decide) ?_
      exact ih hk2
theorem sm_worst0 (d : Nat) (M : am_M) (h : M.1 34 292 = 0) : am_R (d + 4) zX11_worst [.ref 33] M (fun v M' => v = some (.int (-3)) ∧ M' = M) := by
  refine ae_enter (z := zX11_worst) (y := yX11_worst) (cc := cX11_worst) (mL := 3) (rt := some .int) (ci := 11) (st := false) (np := 0) (L := [some (.ref 33), none, none]) rfl (by decide) (Nat.le_of_ble_eq_true rfl) rfl ?_
  refine ae_aload_n (pc := 0) dX11_worst_0 rfl ?_
  refine ae_getR (pc := 1) (k := 33) (c := 11) (j := 0) (q := 34) dX11_worst_1 rfl rfl (Nat.le_of_ble_eq_true rfl) rfl (Nat.le_of_ble_eq_true rfl) rfl ?_
  refine ae_sipush (pc := 4) (v := nI 292) dX11_worst_4 (by decide) ?_
  refine ae_iaload (pc := 7) (k := 34) (N := 549) _ dX11_worst_7 (Nat.le_of_ble_eq_true rfl) rfl rfl rfl (by omega) rfl ?_
  refine ae_if_ne (pc := 8) (t := 14) dX11_worst_8 (by decide) (fun c8 => ?_) (fun c8 => ?_)
  · exact absurd h c8
  · refine ae_bipush (pc := 11) (v := (-3)) dX11_worst_11 (by decide) ?_
    refine ae_ireturn (pc := 13) dX11_worst_13 rfl ?_
    exact ⟨rfl, rfl⟩
theorem sm_worst (d : Nat) (M : am_M) (hf : wf (M.1 34)) (h1 : M.1 34 292 = 1) : am_R (d + 4) zX11_worst [.ref 33] M (fun v M' => v = some (.int (wstV (M.1 34))) ∧ M' = M) := by
  refine ae_enter (z := zX11_worst) (y := yX11_worst) (cc := cX11_worst) (mL := 3) (rt := some .int) (ci := 11) (st := false) (np := 0) (L := [some (.ref 33), none, none]) rfl (by decide) (Nat.le_of_ble_eq_true rfl) rfl ?_
  have hA := fA_le hf.1
  obtain ⟨⟨w1, w2, w3⟩, -, -⟩ := id hf.1
  refine ae_aload_n (pc := 0) dX11_worst_0 rfl ?_
  refine ae_getR (pc := 1) (k := 33) (c := 11) (j := 0) (q := 34) dX11_worst_1 rfl rfl (Nat.le_of_ble_eq_true rfl) rfl (Nat.le_of_ble_eq_true rfl) rfl ?_
  refine ae_sipush (pc := 4) (v := nI 292) dX11_worst_4 (by decide) ?_
  refine ae_iaload (pc := 7) (k := 34) (N := 549) (v := 1) _ dX11_worst_7 (Nat.le_of_ble_eq_true rfl) rfl rfl rfl (by omega) h1 ?_
  refine ae_if_ne (pc := 8) (t := 14) dX11_worst_8 (by decide) (fun _ => ?_) (fun q => absurd (by decide) q)
  refine ae_iconst (pc := 14) (v := (-1)) dX11_worst_14 (by decide) ?_
  refine ae_istore_n (pc := 15) dX11_worst_15 rfl (Nat.le_of_ble_eq_true rfl) ?_
  refine ae_iconst (pc := 16) (v := nI 0) dX11_worst_16 (by decide) ?_
  refine ae_istore_n (pc := 17) dX11_worst_17 rfl (Nat.le_of_ble_eq_true rfl) ?_
  skip
  refine am_down (P := fun k => am_E none (am_R (d + 3)) cX11_worst 11 (some .int) _ (18, [some (.ref 33), some (.int (oI (wst (M.1 34) k))), some (.int (nI k))], [], M)) (fA (M.1 34)) (fun k hk ih => ?_)
  refine ae_iload_n (pc := 18) dX11_worst_18 rfl ?_
  refine ae_aload_n (pc := 19) dX11_worst_19 rfl ?_
  refine ae_pcallV (pc := 20) (z := zX11_pixels) (k := 33) (As := []) dX11_worst_20 rfl rfl rfl rfl (Nat.le_of_ble_eq_true rfl) rfl (Nat.le_of_ble_eq_true rfl) (Nat.le_of_ble_eq_true rfl) (sm_pixels (d + 2) M hf.1) ?_
  refine ae_icmp_ge (pc := 23) (t := 64) dX11_worst_23 (by decide) (fun c23 => ?_) (fun c23 => ?_)
  · have hk2 : k = fA (M.1 34) := by rw [nI_leI (by omega) (by omega)] at c23; omega
    subst hk2
    cases hb : wst (M.1 34) (fA (M.1 34)) with
    | none =>
      refine ae_iload_n (pc := 64) dX11_worst_64 rfl ?_
      refine ae_iconst (pc := 65) (v := (-1)) dX11_worst_65 (by decide) ?_
      refine ae_icmp_ne (pc := 66) (t := 73) dX11_worst_66 (by decide) (fun c66 => ?_) (fun c66 => ?_)
      · exact absurd rfl c66
      refine ae_iconst (pc := 69) (v := (-1)) dX11_worst_69 (by decide) ?_
      refine ae_goto (pc := 70) (t := 93) dX11_worst_70 (by decide) ?_
      refine ae_ireturn (pc := 93) dX11_worst_93 rfl ?_
      exact ⟨by unfold wstV; rw [hb], rfl⟩
    | some b =>
      have hb2 := wst_lt hb
      refine ae_iload_n (pc := 64) dX11_worst_64 rfl ?_
      refine ae_iconst (pc := 65) (v := (-1)) dX11_worst_65 (by decide) ?_
      refine ae_icmp_ne (pc := 66) (t := 73) dX11_worst_66 (by decide) (fun c66 => ?_) (fun c66 => ?_)
      rotate_left
      · exact absurd (Classical.not_not.mp c66) (nI_ne1 (by omega))
      refine ae_bipush (pc := 73) (v := nI 16) dX11_worst_73 (by decide) ?_
      refine ae_iload_n (pc := 75) dX11_worst_75 rfl ?_
      refine ae_aload_n (pc := 76) dX11_worst_76 rfl ?_
      refine ae_getR (pc := 77) (k := 33) (c := 11) (j := 0) (q := 34) dX11_worst_77 rfl rfl (Nat.le_of_ble_eq_true rfl) rfl (Nat.le_of_ble_eq_true rfl) rfl ?_
      refine ae_iconst (pc := 80) (v := nI 0) dX11_worst_80 (by decide) ?_
      refine ae_iaload (pc := 81) (k := 34) (N := 549) (v := nI (fW (M.1 34))) _ dX11_worst_81 (Nat.le_of_ble_eq_true rfl) rfl rfl rfl (by omega) w1 ?_
      refine ae_idiv (pc := 82) (v := nI (b / fW (M.1 34))) dX11_worst_82 (nI_ne0 (by omega) (by omega)) (nI_div (by omega) (by omega)) ?_
      refine ae_imul (pc := 83) (v := nI (16 * (b / fW (M.1 34)))) dX11_worst_83 (nI_mul _ _) ?_
      refine ae_iload_n (pc := 84) dX11_worst_84 rfl ?_
      refine ae_aload_n (pc := 85) dX11_worst_85 rfl ?_
      refine ae_getR (pc := 86) (k := 33) (c := 11) (j := 0) (q := 34) dX11_worst_86 rfl rfl (Nat.le_of_ble_eq_true rfl) rfl (Nat.le_of_ble_eq_true rfl) rfl ?_
      refine ae_iconst (pc := 89) (v := nI 0) dX11_worst_89 (by decide) ?_
      refine ae_iaload (pc := 90) (k := 34) (N := 549) (v := nI (fW (M.1 34))) _ dX11_worst_90 (Nat.le_of_ble_eq_true rfl) rfl rfl rfl (by omega) w1 ?_
      refine ae_irem (pc := 91) (v := nI (b % fW (M.1 34))) dX11_worst_91 (nI_ne0 (by omega) (by omega)) (nI_mod (by omega) (by omega)) ?_
      refine ae_iadd (pc := 92) (v := nI (16 * (b / fW (M.1 34)) + b % fW (M.1 34))) dX11_worst_92 (nI_add _ _) ?_
      refine ae_ireturn (pc := 93) dX11_worst_93 rfl ?_
      exact ⟨by unfold wstV; rw [hb], rfl⟩
  · have hk2 : k < fA (M.1 34) := by rw [nI_leI (by omega) (by omega)] at c23; omega
    cases hb : wst (M.1 34) k with
    | none =>
      refine ae_aload_n (pc := 26) dX11_worst_26 rfl ?_
      refine ae_iload_n (pc := 27) dX11_worst_27 rfl ?_
      refine ae_pcallV (pc := 28) (z := zX11_isOpaque) (k := 33) (As := [_]) dX11_worst_28 rfl rfl rfl rfl (Nat.le_of_ble_eq_true rfl) rfl (Nat.le_of_ble_eq_true rfl) (Nat.le_of_ble_eq_true rfl) (sm_isOpaque (d + 2) M k (by omega)) ?_
      refine ae_if_eq (pc := 31) (t := 56) dX11_worst_31 (by decide) (fun c31 => ?_) (fun c31 => ?_)
      · refine ae_iload_n (pc := 56) dX11_worst_56 rfl ?_
        refine ae_istore_n (pc := 57) (v := oI (wst (M.1 34) (k + 1))) dX11_worst_57 (by rw [wst_s, hb]; first | (rw [if_neg (bI_ne0.mp c31)]; rfl) | (rw [if_pos (by simpa using bI_eq0.mp c31)])) (Nat.le_of_ble_eq_true rfl) ?_
        refine ae_iinc (pc := 58) (v := nI (k + 1)) dX11_worst_58 rfl (nI_inc k) ?_
        refine ae_goto (pc := 61) (t := 18) dX11_worst_61 (by decide) ?_
        exact ih hk2
      · refine ae_iload_n (pc := 34) dX11_worst_34 rfl ?_
        refine ae_iconst (pc := 35) (v := (-1)) dX11_worst_35 (by decide) ?_
        refine ae_icmp_eq (pc := 36) (t := 52) dX11_worst_36 (by decide) (fun c36 => ?_) (fun c36 => ?_)
        rotate_left
        · exact absurd rfl c36
        refine ae_iload_n (pc := 52) dX11_worst_52 rfl ?_
        refine ae_goto (pc := 53) (t := 57) dX11_worst_53 (by decide) ?_
        refine ae_istore_n (pc := 57) (v := oI (wst (M.1 34) (k + 1))) dX11_worst_57 (by rw [wst_s, hb]; first | (rw [if_neg (bI_ne0.mp c31)]; rfl) | (rw [if_pos (by simpa using bI_eq0.mp c31)])) (Nat.le_of_ble_eq_true rfl) ?_
        refine ae_iinc (pc := 58) (v := nI (k + 1)) dX11_worst_58 rfl (nI_inc k) ?_
        refine ae_goto (pc := 61) (t := 18) dX11_worst_61 (by decide) ?_
        exact ih hk2
    | some b =>
      have hb2 := wst_lt hb
      refine ae_aload_n (pc := 26) dX11_worst_26 rfl ?_
      refine ae_iload_n (pc := 27) dX11_worst_27 rfl ?_
      refine ae_pcallV (pc := 28) (z := zX11_isOpaque) (k := 33) (As := [_]) dX11_worst_28 rfl rfl rfl rfl (Nat.le_of_ble_eq_true rfl) rfl (Nat.le_of_ble_eq_true rfl) (Nat.le_of_ble_eq_true rfl) (sm_isOpaque (d + 2) M k (by omega)) ?_
      refine ae_if_eq (pc := 31) (t := 56) dX11_worst_31 (by decide) (fun c31 => ?_) (fun c31 => ?_)
      · refine ae_iload_n (pc := 56) dX11_worst_56 rfl ?_
        refine ae_istore_n (pc := 57) (v := oI (wst (M.1 34) (k + 1))) dX11_worst_57 (by rw [wst_s, hb]; first | (rw [if_pos (by simpa using bI_eq0.mp c31)]; done) | (rw [if_neg (bI_ne0.mp c31)]; dsimp only; first | (rw [if_pos (Int32.not_le.mp c49)]; done) | (rw [if_neg (Int32.not_lt.mpr c49)]; done) | (rw [if_pos (Int32.not_le.mp c49)]; rfl) | (rw [if_neg (Int32.not_lt.mpr c49)]; rfl))) (Nat.le_of_ble_eq_true rfl) ?_
        refine ae_iinc (pc := 58) (v := nI (k + 1)) dX11_worst_58 rfl (nI_inc k) ?_
        refine ae_goto (pc := 61) (t := 18) dX11_worst_61 (by decide) ?_
        exact ih hk2
      · refine ae_iload_n (pc := 34) dX11_worst_34 rfl ?_
        refine ae_iconst (pc := 35) (v := (-1)) dX11_worst_35 (by decide) ?_
        refine ae_icmp_eq (pc := 36) (t := 52) dX11_worst_36 (by decide) (fun c36 => ?_) (fun c36 => ?_)
        · exact absurd c36 (nI_ne1 (by omega))
        refine ae_aload_n (pc := 39) dX11_worst_39 rfl ?_
        refine ae_iload_n (pc := 40) dX11_worst_40 rfl ?_
        refine ae_pcallV (pc := 41) (z := zX11_errorOf) (k := 33) (As := [_]) dX11_worst_41 rfl rfl rfl rfl (Nat.le_of_ble_eq_true rfl) rfl (Nat.le_of_ble_eq_true rfl) (Nat.le_of_ble_eq_true rfl) (sm_errorOf d M hf h1 k hk2 (bI_ne0.mp c31)) ?_
        refine ae_aload_n (pc := 44) dX11_worst_44 rfl ?_
        refine ae_iload_n (pc := 45) dX11_worst_45 rfl ?_
        refine ae_pcallV (pc := 46) (z := zX11_errorOf) (k := 33) (As := [_]) dX11_worst_46 rfl rfl rfl rfl (Nat.le_of_ble_eq_true rfl) rfl (Nat.le_of_ble_eq_true rfl) (Nat.le_of_ble_eq_true rfl) (sm_errorOf d M hf h1 b (by omega) hb2.2) ?_
        refine ae_icmp_le (pc := 49) (t := 56) dX11_worst_49 (by decide) (fun c49 => ?_) (fun c49 => ?_)
        · refine ae_iload_n (pc := 56) dX11_worst_56 rfl ?_
          refine ae_istore_n (pc := 57) (v := oI (wst (M.1 34) (k + 1))) dX11_worst_57 (by rw [wst_s, hb]; first | (rw [if_pos (by simpa using bI_eq0.mp c31)]; done) | (rw [if_neg (bI_ne0.mp c31)]; dsimp only; first | (rw [if_pos (Int32.not_le.mp c49)]; done) | (rw [if_neg (Int32.not_lt.mpr c49)]; done) | (rw [if_pos (Int32.not_le.mp c49)]; rfl) | (rw [if_neg (Int32.not_lt.mpr c49)]; rfl))) (Nat.le_of_ble_eq_true rfl) ?_
          refine ae_iinc (pc := 58) (v := nI (k + 1)) dX11_worst_58 rfl (nI_inc k) ?_
          refine ae_goto (pc := 61) (t := 18) dX11_worst_61 (by decide) ?_
          exact ih hk2
        · refine ae_iload_n (pc := 52) dX11_worst_52 rfl ?_
          refine ae_goto (pc := 53) (t := 57) dX11_worst_53 (by decide) ?_
          refine ae_istore_n (pc := 57) (v := oI (wst (M.1 34) (k + 1))) dX11_worst_57 (by rw [wst_s, hb]; first | (rw [if_pos (by simpa using bI_eq0.mp c31)]; done) | (rw [if_neg (bI_ne0.mp c31)]; dsimp only; first | (rw [if_pos (Int32.not_le.mp c49)]; done) | (rw [if_neg (Int32.not_lt.mpr c49)]; done) | (rw [if_pos (Int32.not_le.mp c49)]; rfl) | (rw [if_neg (Int32.not_lt.mpr c49)]; rfl))) (Nat.le_of_ble_eq_true rfl) ?_
          refine ae_iinc (pc := 58) (v := nI (k + 1)) dX11_worst_58 rfl (nI_inc k) ?_
          refine ae_goto (pc := 61) (t := 18) dX11_worst_61 (by decide) ?_
          exact ih hk2
theorem sm_runs0 (d : Nat) (M : am_M) (h : M.1 34 292 = 0) : am_R (d + 2) zX11_runs [.ref 33] M (fun v M' => v = some (.int (-3)) ∧ M' = M) := by
  refine ae_enter (z := zX11_runs) (y := yX11_runs) (cc := cX11_runs) (mL := 3) (rt := some .int) (ci := 11) (st := false) (np := 0) (L := [some (.ref 33), none, none]) rfl (by decide) (Nat.le_of_ble_eq_true rfl) rfl ?_
  refine ae_aload_n (pc := 0) dX11_runs_0 rfl ?_
  refine ae_getR (pc := 1) (k := 33) (c := 11) (j := 0) (q := 34) dX11_runs_1 rfl rfl (Nat.le_of_ble_eq_true rfl) rfl (Nat.le_of_ble_eq_true rfl) rfl ?_
  refine ae_sipush (pc := 4) (v := nI 292) dX11_runs_4 (by decide) ?_
  refine ae_iaload (pc := 7) (k := 34) (N := 549) _ dX11_runs_7 (Nat.le_of_ble_eq_true rfl) rfl rfl rfl (by omega) rfl ?_
  refine ae_if_ne (pc := 8) (t := 14) dX11_runs_8 (by decide) (fun c8 => ?_) (fun c8 => ?_)
  · exact absurd h c8
  · refine ae_bipush (pc := 11) (v := (-3)) dX11_runs_11 (by decide) ?_
    refine ae_ireturn (pc := 13) dX11_runs_13 rfl ?_
    exact ⟨rfl, rfl⟩
theorem sm_runs (d : Nat) (M : am_M) (hf : wf (M.1 34)) (h1 : M.1 34 292 = 1) : am_R (d + 2) zX11_runs [.ref 33] M (fun v M' => v = some (.int (nI (rns (M.1 34) (fA (M.1 34) - 1)))) ∧ M' = M) := by
  refine ae_enter (z := zX11_runs) (y := yX11_runs) (cc := cX11_runs) (mL := 3) (rt := some .int) (ci := 11) (st := false) (np := 0) (L := [some (.ref 33), none, none]) rfl (by decide) (Nat.le_of_ble_eq_true rfl) rfl ?_
  have hA := fA_le hf.1
  refine ae_aload_n (pc := 0) dX11_runs_0 rfl ?_
  refine ae_getR (pc := 1) (k := 33) (c := 11) (j := 0) (q := 34) dX11_runs_1 rfl rfl (Nat.le_of_ble_eq_true rfl) rfl (Nat.le_of_ble_eq_true rfl) rfl ?_
  refine ae_sipush (pc := 4) (v := nI 292) dX11_runs_4 (by decide) ?_
  refine ae_iaload (pc := 7) (k := 34) (N := 549) (v := 1) _ dX11_runs_7 (Nat.le_of_ble_eq_true rfl) rfl rfl rfl (by omega) h1 ?_
  refine ae_if_ne (pc := 8) (t := 14) dX11_runs_8 (by decide) (fun _ => ?_) (fun q => absurd (by decide) q)
  refine ae_iconst (pc := 14) (v := nI 1) dX11_runs_14 (by decide) ?_
  refine ae_istore_n (pc := 15) dX11_runs_15 rfl (Nat.le_of_ble_eq_true rfl) ?_
  refine ae_iconst (pc := 16) (v := nI 1) dX11_runs_16 (by decide) ?_
  refine ae_istore_n (pc := 17) dX11_runs_17 rfl (Nat.le_of_ble_eq_true rfl) ?_
  skip
  refine am_down (P := fun k => am_E none (am_R (d + 1)) cX11_runs 11 (some .int) _ (18, [some (.ref 33), some (.int (nI (rns (M.1 34) k))), some (.int (nI (k + 1)))], [], M)) (fA (M.1 34) - 1) (fun k hk ih => ?_)
  refine ae_iload_n (pc := 18) dX11_runs_18 rfl ?_
  refine ae_aload_n (pc := 19) dX11_runs_19 rfl ?_
  refine ae_pcallV (pc := 20) (z := zX11_pixels) (k := 33) (As := []) dX11_runs_20 rfl rfl rfl rfl (Nat.le_of_ble_eq_true rfl) rfl (Nat.le_of_ble_eq_true rfl) (Nat.le_of_ble_eq_true rfl) (sm_pixels d M hf.1) ?_
  refine ae_icmp_ge (pc := 23) (t := 65) dX11_runs_23 (by decide) (fun c23 => ?_) (fun c23 => ?_)
  · have hk2 : k = fA (M.1 34) - 1 := by rw [nI_leI (by omega) (by omega)] at c23; omega
    subst hk2
    refine ae_iload_n (pc := 65) dX11_runs_65 rfl ?_
    refine ae_ireturn (pc := 66) dX11_runs_66 rfl ?_
    exact ⟨rfl, rfl⟩
  · have hk2 : k < fA (M.1 34) - 1 := by rw [nI_leI (by omega) (by omega)] at c23; omega
    refine ae_iload_n (pc := 26) dX11_runs_26 rfl ?_
    refine ae_aload_n (pc := 27) dX11_runs_27 rfl ?_
    refine ae_getR (pc := 28) (k := 33) (c := 11) (j := 0) (q := 34) dX11_runs_28 rfl rfl (Nat.le_of_ble_eq_true rfl) rfl (Nat.le_of_ble_eq_true rfl) rfl ?_
    refine ae_sipush (pc := 31) (v := nI 293) dX11_runs_31 (by decide) ?_
    refine ae_iload_n (pc := 34) dX11_runs_34 rfl ?_
    refine ae_iadd (pc := 35) dX11_runs_35 (nI_add _ _) ?_
    refine ae_iaload (pc := 36) (k := 34) (N := 549) _ dX11_runs_36 (Nat.le_of_ble_eq_true rfl) rfl rfl rfl (by omega) rfl ?_
    refine ae_aload_n (pc := 37) dX11_runs_37 rfl ?_
    refine ae_getR (pc := 38) (k := 33) (c := 11) (j := 0) (q := 34) dX11_runs_38 rfl rfl (Nat.le_of_ble_eq_true rfl) rfl (Nat.le_of_ble_eq_true rfl) rfl ?_
    refine ae_sipush (pc := 41) (v := nI 293) dX11_runs_41 (by decide) ?_
    refine ae_iload_n (pc := 44) dX11_runs_44 rfl ?_
    refine ae_iadd (pc := 45) dX11_runs_45 (nI_add _ _) ?_
    refine ae_iconst (pc := 46) (v := nI 1) dX11_runs_46 (by decide) ?_
    refine ae_isub (pc := 47) (v := nI (293 + k)) dX11_runs_47 (nI_pred (293 + k)) ?_
    refine ae_iaload (pc := 48) (k := 34) (N := 549) _ dX11_runs_48 (Nat.le_of_ble_eq_true rfl) rfl rfl rfl (by omega) rfl ?_
    refine ae_icmp_ne (pc := 49) (t := 56) dX11_runs_49 (by decide) (fun c49 => ?_) (fun c49 => ?_)
    · refine ae_iconst (pc := 56) (v := nI 1) dX11_runs_56 (by decide) ?_
      refine ae_iadd (pc := 57) dX11_runs_57 (nI_add _ _) ?_
      refine ae_istore_n (pc := 58) (v := nI (rns (M.1 34) (k + 1))) dX11_runs_58 (by rw [rns_s]; first | rw [if_neg c49] | rw [if_pos (Classical.not_not.mp c49)]) (Nat.le_of_ble_eq_true rfl) ?_
      refine ae_iinc (pc := 59) (v := nI (k + 1 + 1)) dX11_runs_59 rfl (nI_inc (k + 1)) ?_
      refine ae_goto (pc := 62) (t := 18) dX11_runs_62 (by decide) ?_
      exact ih hk2
    · refine ae_iconst (pc := 52) (v := nI 0) dX11_runs_52 (by decide) ?_
      refine ae_goto (pc := 53) (t := 57) dX11_runs_53 (by decide) ?_
      refine ae_iadd (pc := 57) dX11_runs_57 (nI_add _ _) ?_
      refine ae_istore_n (pc := 58) (v := nI (rns (M.1 34) (k + 1))) dX11_runs_58 (by rw [rns_s]; first | rw [if_neg c49] | rw [if_pos (Classical.not_not.mp c49)]) (Nat.le_of_ble_eq_true rfl) ?_
      refine ae_iinc (pc := 59) (v := nI (k + 1 + 1)) dX11_runs_59 rfl (nI_inc (k + 1)) ?_
      refine ae_goto (pc := 62) (t := 18) dX11_runs_62 (by decide) ?_
      exact ih hk2
theorem sm_bestBut (d : Nat) (M : am_M) (hf : wf0 (M.1 34)) (but : Int32) (hs : ∀ c, ∃ b, nbt (M.1 34) c but (fN (M.1 34)) = some b ∧ b < fN (M.1 34)) : am_R (d + 4) zX11_bestBut [.ref 33, .int but] M (fun v M' => v = some (.int (bsum (M.1 34) but (fA (M.1 34)))) ∧ M' = M) := by
  refine ae_enter (z := zX11_bestBut) (y := yX11_bestBut) (cc := cX11_bestBut) (mL := 5) (rt := some .int) (ci := 11) (st := false) (np := 1) (L := [some (.ref 33), some (.int but), none, none, none]) rfl (by decide) (Nat.le_of_ble_eq_true rfl) rfl ?_
  have hA := fA_le hf
  have hN := hf.2.2.2
  refine ae_iconst (pc := 0) (v := nI 0) dX11_bestBut_0 (by decide) ?_
  refine ae_istore_n (pc := 1) dX11_bestBut_1 rfl (Nat.le_of_ble_eq_true rfl) ?_
  refine ae_iconst (pc := 2) (v := nI 0) dX11_bestBut_2 (by decide) ?_
  refine ae_istore_n (pc := 3) dX11_bestBut_3 rfl (Nat.le_of_ble_eq_true rfl) ?_
  skip
  refine am_down (P := fun k => am_E none (am_R (d + 3)) cX11_bestBut 11 (some .int) _ (4, [some (.ref 33), some (.int but), some (.int (bsum (M.1 34) but k)), some (.int (nI k)), none], [], M)) (fA (M.1 34)) (fun k hk ih => ?_)
  refine ae_iload_n (pc := 4) dX11_bestBut_4 rfl ?_
  refine ae_aload_n (pc := 5) dX11_bestBut_5 rfl ?_
  refine ae_pcallV (pc := 6) (z := zX11_pixels) (k := 33) (As := []) dX11_bestBut_6 rfl rfl rfl rfl (Nat.le_of_ble_eq_true rfl) rfl (Nat.le_of_ble_eq_true rfl) (Nat.le_of_ble_eq_true rfl) (sm_pixels (d + 2) M hf) ?_
  refine ae_icmp_ge (pc := 9) (t := 67) dX11_bestBut_9 (by decide) (fun c9 => ?_) (fun c9 => ?_)
  · have hk2 : k = fA (M.1 34) := by rw [nI_leI (by omega) (by omega)] at c9; omega
    subst hk2
    refine ae_iload_n (pc := 67) dX11_bestBut_67 rfl ?_
    refine ae_ireturn (pc := 68) dX11_bestBut_68 rfl ?_
    exact ⟨rfl, rfl⟩
  · have hk2 : k < fA (M.1 34) := by rw [nI_leI (by omega) (by omega)] at c9; omega
    obtain ⟨b, hb, hb2⟩ := hs (M.1 34 (2 + k))
    have hnb := sm_nearestBut d M hf (M.1 34 (2 + k)) but
    rw [hb] at hnb
    refine ae_aload_n (pc := 12) dX11_bestBut_12 rfl ?_
    refine ae_iload_n (pc := 13) dX11_bestBut_13 rfl ?_
    refine ae_pcallV (pc := 14) (z := zX11_isOpaque) (k := 33) (As := [_]) dX11_bestBut_14 rfl rfl rfl rfl (Nat.le_of_ble_eq_true rfl) rfl (Nat.le_of_ble_eq_true rfl) (Nat.le_of_ble_eq_true rfl) (sm_isOpaque (d + 2) M k (by omega)) ?_
    refine ae_if_eq (pc := 17) (t := 61) dX11_bestBut_17 (by decide) (fun c17 => ?_) (fun c17 => ?_)
    · have e1 : bsum (M.1 34) but (k + 1) = bsum (M.1 34) but k := by rw [bsum_s, if_pos (by simpa using bI_eq0.mp c17)]
      rw [e1] at ih
      refine ae_iinc (pc := 61) (v := nI (k + 1)) dX11_bestBut_61 rfl (nI_inc k) ?_
      refine ae_goto (pc := 64) (t := 4) dX11_bestBut_64 (by decide) ?_
      exact ih hk2
    · have e1 : bsum (M.1 34) but (k + 1) = bsum (M.1 34) but k + dst (M.1 34 291) (M.1 34 (2 + k)) (M.1 34 (259 + b)) := by rw [bsum_s, if_neg (bI_ne0.mp c17)]; unfold nbd; rw [hb]
      rw [e1] at ih
      refine ae_aload_n (pc := 20) dX11_bestBut_20 rfl ?_
      refine ae_aload_n (pc := 21) dX11_bestBut_21 rfl ?_
      refine ae_getR (pc := 22) (k := 33) (c := 11) (j := 0) (q := 34) dX11_bestBut_22 rfl rfl (Nat.le_of_ble_eq_true rfl) rfl (Nat.le_of_ble_eq_true rfl) rfl ?_
      refine ae_iconst (pc := 25) (v := nI 2) dX11_bestBut_25 (by decide) ?_
      refine ae_iload_n (pc := 26) dX11_bestBut_26 rfl ?_
      refine ae_iadd (pc := 27) dX11_bestBut_27 (nI_add _ _) ?_
      refine ae_iaload (pc := 28) (k := 34) (N := 549) _ dX11_bestBut_28 (Nat.le_of_ble_eq_true rfl) rfl rfl rfl (by omega) rfl ?_
      refine ae_iload_n (pc := 29) dX11_bestBut_29 rfl ?_
      refine ae_pcallV (pc := 30) (z := zX11_nearestBut) (k := 33) (As := [_, _]) dX11_bestBut_30 rfl rfl rfl rfl (Nat.le_of_ble_eq_true rfl) rfl (Nat.le_of_ble_eq_true rfl) (Nat.le_of_ble_eq_true rfl) (hnb) ?_
      refine ae_istore (pc := 33) dX11_bestBut_33 rfl (Nat.le_of_ble_eq_true rfl) ?_
      refine ae_iload_n (pc := 35) dX11_bestBut_35 rfl ?_
      refine ae_aload_n (pc := 36) dX11_bestBut_36 rfl ?_
      refine ae_aload_n (pc := 37) dX11_bestBut_37 rfl ?_
      refine ae_getR (pc := 38) (k := 33) (c := 11) (j := 0) (q := 34) dX11_bestBut_38 rfl rfl (Nat.le_of_ble_eq_true rfl) rfl (Nat.le_of_ble_eq_true rfl) rfl ?_
      refine ae_iconst (pc := 41) (v := nI 2) dX11_bestBut_41 (by decide) ?_
      refine ae_iload_n (pc := 42) dX11_bestBut_42 rfl ?_
      refine ae_iadd (pc := 43) dX11_bestBut_43 (nI_add _ _) ?_
      refine ae_iaload (pc := 44) (k := 34) (N := 549) _ dX11_bestBut_44 (Nat.le_of_ble_eq_true rfl) rfl rfl rfl (by omega) rfl ?_
      refine ae_aload_n (pc := 45) dX11_bestBut_45 rfl ?_
      refine ae_getR (pc := 46) (k := 33) (c := 11) (j := 0) (q := 34) dX11_bestBut_46 rfl rfl (Nat.le_of_ble_eq_true rfl) rfl (Nat.le_of_ble_eq_true rfl) rfl ?_
      refine ae_sipush (pc := 49) (v := nI 259) dX11_bestBut_49 (by decide) ?_
      refine ae_iload (pc := 52) dX11_bestBut_52 rfl ?_
      refine ae_iadd (pc := 54) (v := nI (259 + b)) dX11_bestBut_54 (nI_add _ _) ?_
      refine ae_iaload (pc := 55) (k := 34) (N := 549) _ dX11_bestBut_55 (Nat.le_of_ble_eq_true rfl) rfl rfl rfl (by omega) rfl ?_
      refine ae_pcallV (pc := 56) (z := zX11_distance) (k := 33) (As := [_, _]) dX11_bestBut_56 rfl rfl rfl rfl (Nat.le_of_ble_eq_true rfl) rfl (Nat.le_of_ble_eq_true rfl) (Nat.le_of_ble_eq_true rfl) (sm_distance (d + 1) M _ _) ?_
      refine ae_iadd (pc := 59) dX11_bestBut_59 rfl ?_
      refine ae_istore_n (pc := 60) dX11_bestBut_60 rfl (Nat.le_of_ble_eq_true rfl) ?_
      refine ae_iinc (pc := 61) (v := nI (k + 1)) dX11_bestBut_61 rfl (nI_inc k) ?_
      refine ae_goto (pc := 64) (t := 4) dX11_bestBut_64 (by decide) ?_
      exact ae_forget [4] rfl (ih hk2)
theorem sm_bestError (d : Nat) (M : am_M) (hf : wf0 (M.1 34)) : am_R (d + 5) zX11_bestError [.ref 33] M (fun v M' => v = some (.int (if fN (M.1 34) = 0 then (if opq (M.1 34) (fA (M.1 34)) = 0 then 0 else -3) else bsum (M.1 34) (-1) (fA (M.1 34)))) ∧ M' = M) := by
  refine ae_enter (z := zX11_bestError) (y := yX11_bestError) (cc := cX11_bestError) (mL := 1) (rt := some .int) (ci := 11) (st := false) (np := 0) (L := [some (.ref 33)]) rfl (by decide) (Nat.le_of_ble_eq_true rfl) rfl ?_
  obtain ⟨-, -, hn1, hn2⟩ := id hf
  have hA := fA_le hf
  have hq := opq_le (M.1 34) (fA (M.1 34))
  by_cases hz : fN (M.1 34) = 0
  · rw [hz] at hn1
    refine ae_aload_n (pc := 0) dX11_bestError_0 rfl ?_
    refine ae_getR (pc := 1) (k := 33) (c := 11) (j := 0) (q := 34) dX11_bestError_1 rfl rfl (Nat.le_of_ble_eq_true rfl) rfl (Nat.le_of_ble_eq_true rfl) rfl ?_
    refine ae_sipush (pc := 4) (v := nI 258) dX11_bestError_4 (by decide) ?_
    refine ae_iaload (pc := 7) (k := 34) (N := 549) (v := nI 0) _ dX11_bestError_7 (Nat.le_of_ble_eq_true rfl) rfl rfl rfl (by omega) hn1 ?_
    refine ae_if_ne (pc := 8) (t := 25) dX11_bestError_8 (by decide) (fun c8 => ?_) (fun c8 => ?_)
    · exact absurd rfl c8
    refine ae_aload_n (pc := 11) dX11_bestError_11 rfl ?_
    refine ae_pcallV (pc := 12) (z := zX11_opaque) (k := 33) (As := []) dX11_bestError_12 rfl rfl rfl rfl (Nat.le_of_ble_eq_true rfl) rfl (Nat.le_of_ble_eq_true rfl) (Nat.le_of_ble_eq_true rfl) (sm_opaque (d + 2) M hf) ?_
    refine ae_if_le (pc := 15) (t := 23) dX11_bestError_15 (by decide) (fun c15 => ?_) (fun c15 => ?_)
    · refine ae_iconst (pc := 23) (v := nI 0) dX11_bestError_23 (by decide) ?_
      refine ae_ireturn (pc := 24) dX11_bestError_24 rfl ?_
      refine ⟨?_, rfl⟩
      rw [if_pos hz]
      first | (rw [if_pos (by rcases Nat.eq_zero_or_pos (opq (M.1 34) (fA (M.1 34))) with q | q; exact q; exact absurd c15 (nI_nle q (by omega)))]; rfl) | (rw [if_neg (fun q => c15 (by rw [q]; decide))])
    · refine ae_bipush (pc := 18) (v := (-3)) dX11_bestError_18 (by decide) ?_
      refine ae_goto (pc := 20) (t := 24) dX11_bestError_20 (by decide) ?_
      refine ae_ireturn (pc := 24) dX11_bestError_24 rfl ?_
      refine ⟨?_, rfl⟩
      rw [if_pos hz]
      first | (rw [if_pos (by rcases Nat.eq_zero_or_pos (opq (M.1 34) (fA (M.1 34))) with q | q; exact q; exact absurd c15 (nI_nle q (by omega)))]; rfl) | (rw [if_neg (fun q => c15 (by rw [q]; decide))])
  · refine ae_aload_n (pc := 0) dX11_bestError_0 rfl ?_
    refine ae_getR (pc := 1) (k := 33) (c := 11) (j := 0) (q := 34) dX11_bestError_1 rfl rfl (Nat.le_of_ble_eq_true rfl) rfl (Nat.le_of_ble_eq_true rfl) rfl ?_
    refine ae_sipush (pc := 4) (v := nI 258) dX11_bestError_4 (by decide) ?_
    refine ae_iaload (pc := 7) (k := 34) (N := 549) (v := nI (fN (M.1 34))) _ dX11_bestError_7 (Nat.le_of_ble_eq_true rfl) rfl rfl rfl (by omega) hn1 ?_
    refine ae_if_ne (pc := 8) (t := 25) dX11_bestError_8 (by decide) (fun c8 => ?_) (fun c8 => ?_)
    rotate_left
    · exact absurd (Classical.not_not.mp c8) (nI_ne0 (by omega) (by omega))
    refine ae_aload_n (pc := 25) dX11_bestError_25 rfl ?_
    refine ae_iconst (pc := 26) (v := (-1)) dX11_bestError_26 (by decide) ?_
    refine ae_pcallV (pc := 27) (z := zX11_bestBut) (k := 33) (As := [_]) dX11_bestError_27 rfl rfl rfl rfl (Nat.le_of_ble_eq_true rfl) rfl (Nat.le_of_ble_eq_true rfl) (Nat.le_of_ble_eq_true rfl) (sm_bestBut d M hf _ (fun c => ner_some c (by omega) hn2)) ?_
    refine ae_ireturn (pc := 30) dX11_bestError_30 rfl ?_
    exact ⟨by rw [if_neg hz], rfl⟩
theorem sm_loss0 (d : Nat) (M : am_M) (x : Int32) (hn : ¬ inE (M.1 34) x) : am_R (d + 5) zX11_loss [.ref 33, .int x] M (fun v M' => v = some (.int (-2)) ∧ M' = M) := by
  refine ae_enter (z := zX11_loss) (y := yX11_loss) (cc := cX11_loss) (mL := 2) (rt := some .int) (ci := 11) (st := false) (np := 1) (L := [some (.ref 33), some (.int x)]) rfl (by decide) (Nat.le_of_ble_eq_true rfl) rfl ?_
  refine ae_aload_n (pc := 0) dX11_loss_0 rfl ?_
  refine ae_iload_n (pc := 1) dX11_loss_1 rfl ?_
  refine ae_pcallV (pc := 2) (z := zX11_isEntry) (k := 33) (As := [_]) dX11_loss_2 rfl rfl rfl rfl (Nat.le_of_ble_eq_true rfl) rfl (Nat.le_of_ble_eq_true rfl) (Nat.le_of_ble_eq_true rfl) (sm_isEntry (d + 2) M _) ?_
  refine ae_if_ne (pc := 5) (t := 11) dX11_loss_5 (by decide) (fun c5 => ?_) (fun c5 => ?_)
  · exact (hn (bI_ne0.mp c5)).elim
  · refine ae_bipush (pc := 8) (v := (-2)) dX11_loss_8 (by decide) ?_
    refine ae_ireturn (pc := 10) dX11_loss_10 rfl ?_
    exact ⟨rfl, rfl⟩
theorem sm_loss (d : Nat) (M : am_M) (hf : wf0 (M.1 34)) (e : Nat) (he : e < fN (M.1 34)) : am_R (d + 5) zX11_loss [.ref 33, .int (nI e)] M (fun v M' => v = some (.int (if fN (M.1 34) = 1 then -3 else bsum (M.1 34) (nI e) (fA (M.1 34)) - bsum (M.1 34) (-1) (fA (M.1 34)))) ∧ M' = M) := by
  refine ae_enter (z := zX11_loss) (y := yX11_loss) (cc := cX11_loss) (mL := 2) (rt := some .int) (ci := 11) (st := false) (np := 1) (L := [some (.ref 33), some (.int (nI e))]) rfl (by decide) (Nat.le_of_ble_eq_true rfl) rfl ?_
  obtain ⟨-, -, hn1, hn2⟩ := id hf
  refine ae_aload_n (pc := 0) dX11_loss_0 rfl ?_
  refine ae_iload_n (pc := 1) dX11_loss_1 rfl ?_
  refine ae_pcallV (pc := 2) (z := zX11_isEntry) (k := 33) (As := [_]) dX11_loss_2 rfl rfl rfl rfl (Nat.le_of_ble_eq_true rfl) rfl (Nat.le_of_ble_eq_true rfl) (Nat.le_of_ble_eq_true rfl) (sm_isEntry (d + 2) M _) ?_
  refine ae_if_ne (pc := 5) (t := 11) dX11_loss_5 (by decide) (fun c5 => ?_) (fun c5 => ?_)
  rotate_left
  · exact absurd (inE_of hf he) (bI_eq0.mp (Classical.not_not.mp c5))
  refine ae_aload_n (pc := 11) dX11_loss_11 rfl ?_
  refine ae_getR (pc := 12) (k := 33) (c := 11) (j := 0) (q := 34) dX11_loss_12 rfl rfl (Nat.le_of_ble_eq_true rfl) rfl (Nat.le_of_ble_eq_true rfl) rfl ?_
  refine ae_sipush (pc := 15) (v := nI 258) dX11_loss_15 (by decide) ?_
  refine ae_iaload (pc := 18) (k := 34) (N := 549) (v := nI (fN (M.1 34))) _ dX11_loss_18 (Nat.le_of_ble_eq_true rfl) rfl rfl rfl (by omega) hn1 ?_
  refine ae_iconst (pc := 19) (v := nI 1) dX11_loss_19 (by decide) ?_
  refine ae_icmp_ne (pc := 20) (t := 28) dX11_loss_20 (by decide) (fun c20 => ?_) (fun c20 => ?_)
  · rw [nI_eq (by omega) (by omega)] at c20
    refine ae_aload_n (pc := 28) dX11_loss_28 rfl ?_
    refine ae_iload_n (pc := 29) dX11_loss_29 rfl ?_
    refine ae_pcallV (pc := 30) (z := zX11_bestBut) (k := 33) (As := [_]) dX11_loss_30 rfl rfl rfl rfl (Nat.le_of_ble_eq_true rfl) rfl (Nat.le_of_ble_eq_true rfl) (Nat.le_of_ble_eq_true rfl) (sm_bestBut d M hf _ (fun c => nbt_some c (by omega) ⟨by omega, fun z => absurd z c20⟩ hn2)) ?_
    refine ae_aload_n (pc := 33) dX11_loss_33 rfl ?_
    refine ae_iconst (pc := 34) (v := (-1)) dX11_loss_34 (by decide) ?_
    refine ae_pcallV (pc := 35) (z := zX11_bestBut) (k := 33) (As := [_]) dX11_loss_35 rfl rfl rfl rfl (Nat.le_of_ble_eq_true rfl) rfl (Nat.le_of_ble_eq_true rfl) (Nat.le_of_ble_eq_true rfl) (sm_bestBut d M hf _ (fun c => ner_some c (by omega) hn2)) ?_
    refine ae_isub (pc := 38) dX11_loss_38 rfl ?_
    refine ae_ireturn (pc := 39) dX11_loss_39 rfl ?_
    first | exact ⟨by rw [if_neg c20], rfl⟩ | exact ⟨by rw [if_pos ((nI_eq (by omega) (by omega)).mp (Classical.not_not.mp c20))], rfl⟩
  · refine ae_bipush (pc := 23) (v := (-3)) dX11_loss_23 (by decide) ?_
    refine ae_goto (pc := 25) (t := 39) dX11_loss_25 (by decide) ?_
    refine ae_ireturn (pc := 39) dX11_loss_39 rfl ?_
    first | exact ⟨by rw [if_neg c20], rfl⟩ | exact ⟨by rw [if_pos ((nI_eq (by omega) (by omega)).mp (Classical.not_not.mp c20))], rfl⟩
theorem sm_cheapest0 (d : Nat) (M : am_M) (hf : wf0 (M.1 34)) (h : fN (M.1 34) < 2) : am_R (d + 5) zX11_cheapest [.ref 33] M (fun v M' => v = some (.int (-3)) ∧ M' = M) := by
  refine ae_enter (z := zX11_cheapest) (y := yX11_cheapest) (cc := cX11_cheapest) (mL := 3) (rt := some .int) (ci := 11) (st := false) (np := 0) (L := [some (.ref 33), none, none]) rfl (by decide) (Nat.le_of_ble_eq_true rfl) rfl ?_
  obtain ⟨-, -, hn1, hn2⟩ := id hf
  refine ae_aload_n (pc := 0) dX11_cheapest_0 rfl ?_
  refine ae_getR (pc := 1) (k := 33) (c := 11) (j := 0) (q := 34) dX11_cheapest_1 rfl rfl (Nat.le_of_ble_eq_true rfl) rfl (Nat.le_of_ble_eq_true rfl) rfl ?_
  refine ae_sipush (pc := 4) (v := nI 258) dX11_cheapest_4 (by decide) ?_
  refine ae_iaload (pc := 7) (k := 34) (N := 549) (v := nI (fN (M.1 34))) _ dX11_cheapest_7 (Nat.le_of_ble_eq_true rfl) rfl rfl rfl (by omega) hn1 ?_
  refine ae_iconst (pc := 8) (v := nI 2) dX11_cheapest_8 (by decide) ?_
  refine ae_icmp_ge (pc := 9) (t := 15) dX11_cheapest_9 (by decide) (fun c9 => ?_) (fun c9 => ?_)
  · rw [nI_leI (by omega) (by omega)] at c9; omega
  · refine ae_bipush (pc := 12) (v := (-3)) dX11_cheapest_12 (by decide) ?_
    refine ae_ireturn (pc := 14) dX11_cheapest_14 rfl ?_
    exact ⟨rfl, rfl⟩
theorem sm_cheapest (d : Nat) (M : am_M) (hf : wf0 (M.1 34)) (h : 2 ≤ fN (M.1 34)) : am_R (d + 5) zX11_cheapest [.ref 33] M (fun v M' => v = some (.int (oI (chp (M.1 34) (fN (M.1 34))))) ∧ M' = M) := by
  refine ae_enter (z := zX11_cheapest) (y := yX11_cheapest) (cc := cX11_cheapest) (mL := 3) (rt := some .int) (ci := 11) (st := false) (np := 0) (L := [some (.ref 33), none, none]) rfl (by decide) (Nat.le_of_ble_eq_true rfl) rfl ?_
  obtain ⟨-, -, hn1, hn2⟩ := id hf
  have hbb : ∀ e, e < 16 → am_R (d + 4) zX11_bestBut [.ref 33, .int (nI e)] M (fun v M' => v = some (.int (bsum (M.1 34) (nI e) (fA (M.1 34)))) ∧ M' = M) := fun e he => sm_bestBut d M hf _ (fun c => nbt_some c he ⟨by omega, fun z => by omega⟩ hn2)
  refine ae_aload_n (pc := 0) dX11_cheapest_0 rfl ?_
  refine ae_getR (pc := 1) (k := 33) (c := 11) (j := 0) (q := 34) dX11_cheapest_1 rfl rfl (Nat.le_of_ble_eq_true rfl) rfl (Nat.le_of_ble_eq_true rfl) rfl ?_
  refine ae_sipush (pc := 4) (v := nI 258) dX11_cheapest_4 (by decide) ?_
  refine ae_iaload (pc := 7) (k := 34) (N := 549) (v := nI (fN (M.1 34))) _ dX11_cheapest_7 (Nat.le_of_ble_eq_true rfl) rfl rfl rfl (by omega) hn1 ?_
  refine ae_iconst (pc := 8) (v := nI 2) dX11_cheapest_8 (by decide) ?_
  refine ae_icmp_ge (pc := 9) (t := 15) dX11_cheapest_9 (by decide) (fun _ => ?_) (fun q => absurd (nI_le h (by omega)) q)
  refine ae_iconst (pc := 15) (v := (-1)) dX11_cheapest_15 (by decide) ?_
  refine ae_istore_n (pc := 16) dX11_cheapest_16 rfl (Nat.le_of_ble_eq_true rfl) ?_
  refine ae_iconst (pc := 17) (v := nI 0) dX11_cheapest_17 (by decide) ?_
  refine ae_istore_n (pc := 18) dX11_cheapest_18 rfl (Nat.le_of_ble_eq_true rfl) ?_
  skip
  refine am_down (P := fun k => am_E none (am_R (d + 4)) cX11_cheapest 11 (some .int) _ (19, [some (.ref 33), some (.int (oI (chp (M.1 34) k))), some (.int (nI k))], [], M)) (fN (M.1 34)) (fun k hk ih => ?_)
  refine ae_iload_n (pc := 19) dX11_cheapest_19 rfl ?_
  refine ae_aload_n (pc := 20) dX11_cheapest_20 rfl ?_
  refine ae_getR (pc := 21) (k := 33) (c := 11) (j := 0) (q := 34) dX11_cheapest_21 rfl rfl (Nat.le_of_ble_eq_true rfl) rfl (Nat.le_of_ble_eq_true rfl) rfl ?_
  refine ae_sipush (pc := 24) (v := nI 258) dX11_cheapest_24 (by decide) ?_
  refine ae_iaload (pc := 27) (k := 34) (N := 549) (v := nI (fN (M.1 34))) _ dX11_cheapest_27 (Nat.le_of_ble_eq_true rfl) rfl rfl rfl (by omega) hn1 ?_
  refine ae_icmp_ge (pc := 28) (t := 69) dX11_cheapest_28 (by decide) (fun c28 => ?_) (fun c28 => ?_)
  · have hk2 : k = fN (M.1 34) := by rw [nI_leI (by omega) (by omega)] at c28; omega
    subst hk2
    refine ae_iload_n (pc := 69) dX11_cheapest_69 rfl ?_
    refine ae_ireturn (pc := 70) dX11_cheapest_70 rfl ?_
    exact ⟨rfl, rfl⟩
  · have hk2 : k < fN (M.1 34) := by rw [nI_leI (by omega) (by omega)] at c28; omega
    cases hb : chp (M.1 34) k with
    | none =>
      refine ae_aload_n (pc := 31) dX11_cheapest_31 rfl ?_
      refine ae_iload_n (pc := 32) dX11_cheapest_32 rfl ?_
      refine ae_pcallV (pc := 33) (z := zX11_isLocked) (k := 33) (As := [_]) dX11_cheapest_33 rfl rfl rfl rfl (Nat.le_of_ble_eq_true rfl) rfl (Nat.le_of_ble_eq_true rfl) (Nat.le_of_ble_eq_true rfl) (sm_isLocked (d + 3) M k (by omega)) ?_
      refine ae_if_ne (pc := 36) (t := 61) dX11_cheapest_36 (by decide) (fun c36 => ?_) (fun c36 => ?_)
      · refine ae_iload_n (pc := 61) dX11_cheapest_61 rfl ?_
        refine ae_istore_n (pc := 62) (v := oI (chp (M.1 34) (k + 1))) dX11_cheapest_62 (by rw [chp_s, hb]; first | (rw [if_neg (bI_eq0.mp (Classical.not_not.mp c36))]; rfl) | (rw [if_pos (bI_ne0.mp c36)])) (Nat.le_of_ble_eq_true rfl) ?_
        refine ae_iinc (pc := 63) (v := nI (k + 1)) dX11_cheapest_63 rfl (nI_inc k) ?_
        refine ae_goto (pc := 66) (t := 19) dX11_cheapest_66 (by decide) ?_
        exact ih hk2
      · refine ae_iload_n (pc := 39) dX11_cheapest_39 rfl ?_
        refine ae_iconst (pc := 40) (v := (-1)) dX11_cheapest_40 (by decide) ?_
        refine ae_icmp_eq (pc := 41) (t := 57) dX11_cheapest_41 (by decide) (fun c41 => ?_) (fun c41 => ?_)
        rotate_left
        · exact absurd rfl c41
        refine ae_iload_n (pc := 57) dX11_cheapest_57 rfl ?_
        refine ae_goto (pc := 58) (t := 62) dX11_cheapest_58 (by decide) ?_
        refine ae_istore_n (pc := 62) (v := oI (chp (M.1 34) (k + 1))) dX11_cheapest_62 (by rw [chp_s, hb]; first | (rw [if_neg (bI_eq0.mp (Classical.not_not.mp c36))]; rfl) | (rw [if_pos (bI_ne0.mp c36)])) (Nat.le_of_ble_eq_true rfl) ?_
        refine ae_iinc (pc := 63) (v := nI (k + 1)) dX11_cheapest_63 rfl (nI_inc k) ?_
        refine ae_goto (pc := 66) (t := 19) dX11_cheapest_66 (by decide) ?_
        exact ih hk2
    | some b =>
      have hb2 := chp_lt hb
      refine ae_aload_n (pc := 31) dX11_cheapest_31 rfl ?_
      refine ae_iload_n (pc := 32) dX11_cheapest_32 rfl ?_
      refine ae_pcallV (pc := 33) (z := zX11_isLocked) (k := 33) (As := [_]) dX11_cheapest_33 rfl rfl rfl rfl (Nat.le_of_ble_eq_true rfl) rfl (Nat.le_of_ble_eq_true rfl) (Nat.le_of_ble_eq_true rfl) (sm_isLocked (d + 3) M k (by omega)) ?_
      refine ae_if_ne (pc := 36) (t := 61) dX11_cheapest_36 (by decide) (fun c36 => ?_) (fun c36 => ?_)
      · refine ae_iload_n (pc := 61) dX11_cheapest_61 rfl ?_
        refine ae_istore_n (pc := 62) (v := oI (chp (M.1 34) (k + 1))) dX11_cheapest_62 (by rw [chp_s, hb]; first | (rw [if_pos (bI_ne0.mp c36)]; done) | (rw [if_neg (bI_eq0.mp (Classical.not_not.mp c36))]; dsimp only; first | (rw [if_pos (Int32.not_le.mp c54)]; rfl) | (rw [if_neg (Int32.not_lt.mpr c54)]; rfl) | (rw [if_pos (Int32.not_le.mp c54)]; done) | (rw [if_neg (Int32.not_lt.mpr c54)]; done))) (Nat.le_of_ble_eq_true rfl) ?_
        refine ae_iinc (pc := 63) (v := nI (k + 1)) dX11_cheapest_63 rfl (nI_inc k) ?_
        refine ae_goto (pc := 66) (t := 19) dX11_cheapest_66 (by decide) ?_
        exact ih hk2
      · refine ae_iload_n (pc := 39) dX11_cheapest_39 rfl ?_
        refine ae_iconst (pc := 40) (v := (-1)) dX11_cheapest_40 (by decide) ?_
        refine ae_icmp_eq (pc := 41) (t := 57) dX11_cheapest_41 (by decide) (fun c41 => ?_) (fun c41 => ?_)
        · exact absurd c41 (nI_ne1 (by omega))
        refine ae_aload_n (pc := 44) dX11_cheapest_44 rfl ?_
        refine ae_iload_n (pc := 45) dX11_cheapest_45 rfl ?_
        refine ae_pcallV (pc := 46) (z := zX11_bestBut) (k := 33) (As := [_]) dX11_cheapest_46 rfl rfl rfl rfl (Nat.le_of_ble_eq_true rfl) rfl (Nat.le_of_ble_eq_true rfl) (Nat.le_of_ble_eq_true rfl) (hbb k (by omega)) ?_
        refine ae_aload_n (pc := 49) dX11_cheapest_49 rfl ?_
        refine ae_iload_n (pc := 50) dX11_cheapest_50 rfl ?_
        refine ae_pcallV (pc := 51) (z := zX11_bestBut) (k := 33) (As := [_]) dX11_cheapest_51 rfl rfl rfl rfl (Nat.le_of_ble_eq_true rfl) rfl (Nat.le_of_ble_eq_true rfl) (Nat.le_of_ble_eq_true rfl) (hbb b (by omega)) ?_
        refine ae_icmp_ge (pc := 54) (t := 61) dX11_cheapest_54 (by decide) (fun c54 => ?_) (fun c54 => ?_)
        · refine ae_iload_n (pc := 61) dX11_cheapest_61 rfl ?_
          refine ae_istore_n (pc := 62) (v := oI (chp (M.1 34) (k + 1))) dX11_cheapest_62 (by rw [chp_s, hb]; first | (rw [if_pos (bI_ne0.mp c36)]; done) | (rw [if_neg (bI_eq0.mp (Classical.not_not.mp c36))]; dsimp only; first | (rw [if_pos (Int32.not_le.mp c54)]; rfl) | (rw [if_neg (Int32.not_lt.mpr c54)]; rfl) | (rw [if_pos (Int32.not_le.mp c54)]; done) | (rw [if_neg (Int32.not_lt.mpr c54)]; done))) (Nat.le_of_ble_eq_true rfl) ?_
          refine ae_iinc (pc := 63) (v := nI (k + 1)) dX11_cheapest_63 rfl (nI_inc k) ?_
          refine ae_goto (pc := 66) (t := 19) dX11_cheapest_66 (by decide) ?_
          exact ih hk2
        · refine ae_iload_n (pc := 57) dX11_cheapest_57 rfl ?_
          refine ae_goto (pc := 58) (t := 62) dX11_cheapest_58 (by decide) ?_
          refine ae_istore_n (pc := 62) (v := oI (chp (M.1 34) (k + 1))) dX11_cheapest_62 (by rw [chp_s, hb]; first | (rw [if_pos (bI_ne0.mp c36)]; done) | (rw [if_neg (bI_eq0.mp (Classical.not_not.mp c36))]; dsimp only; first | (rw [if_pos (Int32.not_le.mp c54)]; rfl) | (rw [if_neg (Int32.not_lt.mpr c54)]; rfl) | (rw [if_pos (Int32.not_le.mp c54)]; done) | (rw [if_neg (Int32.not_lt.mpr c54)]; done))) (Nat.le_of_ble_eq_true rfl) ?_
          refine ae_iinc (pc := 63) (v := nI (k + 1)) dX11_cheapest_63 rfl (nI_inc k) ?_
          refine ae_goto (pc := 66) (t := 19) dX11_cheapest_66 (by decide) ?_
          exact ih hk2
theorem sm_gainOf (d : Nat) (M : am_M) (hf : wf0 (M.1 34)) (hz : 0 < fN (M.1 34)) (c : Int32) : am_R (d + 5) zX11_gainOf [.ref 33, .int c] M (fun v M' => v = some (.int (gsum (M.1 34) c (fA (M.1 34)))) ∧ M' = M) := by
  refine ae_enter (z := zX11_gainOf) (y := yX11_gainOf) (cc := cX11_gainOf) (mL := 6) (rt := some .int) (ci := 11) (st := false) (np := 1) (L := [some (.ref 33), some (.int c), none, none, none, none]) rfl (by decide) (Nat.le_of_ble_eq_true rfl) rfl ?_
  have hA := fA_le hf
  have hN := hf.2.2.2
  refine ae_iconst (pc := 0) (v := nI 0) dX11_gainOf_0 (by decide) ?_
  refine ae_istore_n (pc := 1) dX11_gainOf_1 rfl (Nat.le_of_ble_eq_true rfl) ?_
  refine ae_iconst (pc := 2) (v := nI 0) dX11_gainOf_2 (by decide) ?_
  refine ae_istore_n (pc := 3) dX11_gainOf_3 rfl (Nat.le_of_ble_eq_true rfl) ?_
  skip
  refine am_down (P := fun k => am_E none (am_R (d + 4)) cX11_gainOf 11 (some .int) _ (4, [some (.ref 33), some (.int c), some (.int (gsum (M.1 34) c k)), some (.int (nI k)), none, none], [], M)) (fA (M.1 34)) (fun k hk ih => ?_)
  refine ae_iload_n (pc := 4) dX11_gainOf_4 rfl ?_
  refine ae_aload_n (pc := 5) dX11_gainOf_5 rfl ?_
  refine ae_pcallV (pc := 6) (z := zX11_pixels) (k := 33) (As := []) dX11_gainOf_6 rfl rfl rfl rfl (Nat.le_of_ble_eq_true rfl) rfl (Nat.le_of_ble_eq_true rfl) (Nat.le_of_ble_eq_true rfl) (sm_pixels (d + 3) M hf) ?_
  refine ae_icmp_ge (pc := 9) (t := 81) dX11_gainOf_9 (by decide) (fun c9 => ?_) (fun c9 => ?_)
  · have hk2 : k = fA (M.1 34) := by rw [nI_leI (by omega) (by omega)] at c9; omega
    subst hk2
    refine ae_iload_n (pc := 81) dX11_gainOf_81 rfl ?_
    refine ae_ireturn (pc := 82) dX11_gainOf_82 rfl ?_
    exact ⟨rfl, rfl⟩
  · have hk2 : k < fA (M.1 34) := by rw [nI_leI (by omega) (by omega)] at c9; omega
    obtain ⟨b, hb, hb2⟩ := ner_some (f := M.1 34) (M.1 34 (2 + k)) hz hN
    have hnr := sm_near d M hf (M.1 34 (2 + k))
    rw [hb] at hnr
    refine ae_aload_n (pc := 12) dX11_gainOf_12 rfl ?_
    refine ae_iload_n (pc := 13) dX11_gainOf_13 rfl ?_
    refine ae_pcallV (pc := 14) (z := zX11_isOpaque) (k := 33) (As := [_]) dX11_gainOf_14 rfl rfl rfl rfl (Nat.le_of_ble_eq_true rfl) rfl (Nat.le_of_ble_eq_true rfl) (Nat.le_of_ble_eq_true rfl) (sm_isOpaque (d + 3) M k (by omega)) ?_
    refine ae_if_eq (pc := 17) (t := 75) dX11_gainOf_17 (by decide) (fun c17 => ?_) (fun c17 => ?_)
    · have e1 : gsum (M.1 34) c (k + 1) = gsum (M.1 34) c k := by rw [gsum_s, if_pos (by simpa using bI_eq0.mp c17)]
      rw [e1] at ih
      refine ae_iinc (pc := 75) (v := nI (k + 1)) dX11_gainOf_75 rfl (nI_inc k) ?_
      refine ae_goto (pc := 78) (t := 4) dX11_gainOf_78 (by decide) ?_
      exact ih hk2
    · have e0 : nbd (M.1 34) (M.1 34 (2 + k)) (-1) = dst (M.1 34 291) (M.1 34 (2 + k)) (M.1 34 (259 + b)) := by unfold nbd; rw [hb]
      have e1 : gsum (M.1 34) c (k + 1) = gsum (M.1 34) c k + (if 0 < dst (M.1 34 291) (M.1 34 (2 + k)) (M.1 34 (259 + b)) - dst (M.1 34 291) (M.1 34 (2 + k)) c then dst (M.1 34 291) (M.1 34 (2 + k)) (M.1 34 (259 + b)) - dst (M.1 34 291) (M.1 34 (2 + k)) c else nI 0) := by rw [gsum_s, if_neg (bI_ne0.mp c17), e0]
      rw [e1] at ih
      refine ae_aload_n (pc := 20) dX11_gainOf_20 rfl ?_
      refine ae_getR (pc := 21) (k := 33) (c := 11) (j := 0) (q := 34) dX11_gainOf_21 rfl rfl (Nat.le_of_ble_eq_true rfl) rfl (Nat.le_of_ble_eq_true rfl) rfl ?_
      refine ae_iconst (pc := 24) (v := nI 2) dX11_gainOf_24 (by decide) ?_
      refine ae_iload_n (pc := 25) dX11_gainOf_25 rfl ?_
      refine ae_iadd (pc := 26) dX11_gainOf_26 (nI_add _ _) ?_
      refine ae_iaload (pc := 27) (k := 34) (N := 549) _ dX11_gainOf_27 (Nat.le_of_ble_eq_true rfl) rfl rfl rfl (by omega) rfl ?_
      refine ae_istore (pc := 28) dX11_gainOf_28 rfl (Nat.le_of_ble_eq_true rfl) ?_
      refine ae_aload_n (pc := 30) dX11_gainOf_30 rfl ?_
      refine ae_iload (pc := 31) dX11_gainOf_31 rfl ?_
      refine ae_aload_n (pc := 33) dX11_gainOf_33 rfl ?_
      refine ae_getR (pc := 34) (k := 33) (c := 11) (j := 0) (q := 34) dX11_gainOf_34 rfl rfl (Nat.le_of_ble_eq_true rfl) rfl (Nat.le_of_ble_eq_true rfl) rfl ?_
      refine ae_sipush (pc := 37) (v := nI 259) dX11_gainOf_37 (by decide) ?_
      refine ae_aload_n (pc := 40) dX11_gainOf_40 rfl ?_
      refine ae_iload (pc := 41) dX11_gainOf_41 rfl ?_
      refine ae_pcallV (pc := 43) (z := zX11_near) (k := 33) (As := [_]) dX11_gainOf_43 rfl rfl rfl rfl (Nat.le_of_ble_eq_true rfl) rfl (Nat.le_of_ble_eq_true rfl) (Nat.le_of_ble_eq_true rfl) (hnr) ?_
      refine ae_iadd (pc := 46) (v := nI (259 + b)) dX11_gainOf_46 (nI_add _ _) ?_
      refine ae_iaload (pc := 47) (k := 34) (N := 549) _ dX11_gainOf_47 (Nat.le_of_ble_eq_true rfl) rfl rfl rfl (by omega) rfl ?_
      refine ae_pcallV (pc := 48) (z := zX11_distance) (k := 33) (As := [_, _]) dX11_gainOf_48 rfl rfl rfl rfl (Nat.le_of_ble_eq_true rfl) rfl (Nat.le_of_ble_eq_true rfl) (Nat.le_of_ble_eq_true rfl) (sm_distance (d + 2) M _ _) ?_
      refine ae_aload_n (pc := 51) dX11_gainOf_51 rfl ?_
      refine ae_iload (pc := 52) dX11_gainOf_52 rfl ?_
      refine ae_iload_n (pc := 54) dX11_gainOf_54 rfl ?_
      refine ae_pcallV (pc := 55) (z := zX11_distance) (k := 33) (As := [_, _]) dX11_gainOf_55 rfl rfl rfl rfl (Nat.le_of_ble_eq_true rfl) rfl (Nat.le_of_ble_eq_true rfl) (Nat.le_of_ble_eq_true rfl) (sm_distance (d + 2) M _ _) ?_
      refine ae_isub (pc := 58) dX11_gainOf_58 rfl ?_
      refine ae_istore (pc := 59) dX11_gainOf_59 rfl (Nat.le_of_ble_eq_true rfl) ?_
      refine ae_iload_n (pc := 61) dX11_gainOf_61 rfl ?_
      refine ae_iload (pc := 62) dX11_gainOf_62 rfl ?_
      refine ae_if_le (pc := 64) (t := 72) dX11_gainOf_64 (by decide) (fun c64 => ?_) (fun c64 => ?_)
      · refine ae_iconst (pc := 72) (v := nI 0) dX11_gainOf_72 (by decide) ?_
        refine ae_iadd (pc := 73) dX11_gainOf_73 rfl ?_
        refine ae_istore_n (pc := 74) (v := gsum (M.1 34) c k + (if 0 < dst (M.1 34 291) (M.1 34 (2 + k)) (M.1 34 (259 + b)) - dst (M.1 34 291) (M.1 34 (2 + k)) c then dst (M.1 34 291) (M.1 34 (2 + k)) (M.1 34 (259 + b)) - dst (M.1 34 291) (M.1 34 (2 + k)) c else nI 0)) dX11_gainOf_74 (by first | rw [if_pos (Int32.not_le.mp c64)] | rw [if_neg (Int32.not_lt.mpr c64)]) (Nat.le_of_ble_eq_true rfl) ?_
        refine ae_iinc (pc := 75) (v := nI (k + 1)) dX11_gainOf_75 rfl (nI_inc k) ?_
        refine ae_goto (pc := 78) (t := 4) dX11_gainOf_78 (by decide) ?_
        exact ae_forget [4, 5] rfl (ih hk2)
      · refine ae_iload (pc := 67) dX11_gainOf_67 rfl ?_
        refine ae_goto (pc := 69) (t := 73) dX11_gainOf_69 (by decide) ?_
        refine ae_iadd (pc := 73) dX11_gainOf_73 rfl ?_
        refine ae_istore_n (pc := 74) (v := gsum (M.1 34) c k + (if 0 < dst (M.1 34 291) (M.1 34 (2 + k)) (M.1 34 (259 + b)) - dst (M.1 34 291) (M.1 34 (2 + k)) c then dst (M.1 34 291) (M.1 34 (2 + k)) (M.1 34 (259 + b)) - dst (M.1 34 291) (M.1 34 (2 + k)) c else nI 0)) dX11_gainOf_74 (by first | rw [if_pos (Int32.not_le.mp c64)] | rw [if_neg (Int32.not_lt.mpr c64)]) (Nat.le_of_ble_eq_true rfl) ?_
        refine ae_iinc (pc := 75) (v := nI (k + 1)) dX11_gainOf_75 rfl (nI_inc k) ?_
        refine ae_goto (pc := 78) (t := 4) dX11_gainOf_78 (by decide) ?_
        exact ae_forget [4, 5] rfl (ih hk2)
theorem sm_gain (d : Nat) (M : am_M) (hf : wf0 (M.1 34)) (c : Int32) : am_R (d + 6) zX11_gain [.ref 33, .int c] M (fun v M' => v = some (.int (if 0 ≤ c ∧ c ≤ 16777215 then (if fN (M.1 34) = 0 then -3 else gsum (M.1 34) c (fA (M.1 34))) else -2)) ∧ M' = M) := by
  refine ae_enter (z := zX11_gain) (y := yX11_gain) (cc := cX11_gain) (mL := 2) (rt := some .int) (ci := 11) (st := false) (np := 1) (L := [some (.ref 33), some (.int c)]) rfl (by decide) (Nat.le_of_ble_eq_true rfl) rfl ?_
  obtain ⟨-, -, hn1, hn2⟩ := id hf
  have hne : ¬ nI (fN (M.1 34)) = 0 → ¬ fN (M.1 34) = 0 := fun h q => h (by rw [q]; rfl)
  refine ae_iload_n (pc := 0) dX11_gain_0 rfl ?_
  refine ae_pcallS (pc := 1) (z := zX11_isColor) (As := [_]) dX11_gain_1 rfl rfl rfl rfl (Nat.le_of_ble_eq_true rfl) (sm_isColor (d + 3) _ _) ?_
  refine ae_if_ne (pc := 4) (t := 10) dX11_gain_4 (by decide) (fun c4 => ?_) (fun c4 => ?_)
  · refine ae_aload_n (pc := 10) dX11_gain_10 rfl ?_
    refine ae_getR (pc := 11) (k := 33) (c := 11) (j := 0) (q := 34) dX11_gain_11 rfl rfl (Nat.le_of_ble_eq_true rfl) rfl (Nat.le_of_ble_eq_true rfl) rfl ?_
    refine ae_sipush (pc := 14) (v := nI 258) dX11_gain_14 (by decide) ?_
    refine ae_iaload (pc := 17) (k := 34) (N := 549) (v := nI (fN (M.1 34))) _ dX11_gain_17 (Nat.le_of_ble_eq_true rfl) rfl rfl rfl (by omega) hn1 ?_
    refine ae_if_ne (pc := 18) (t := 26) dX11_gain_18 (by decide) (fun c18 => ?_) (fun c18 => ?_)
    · refine ae_aload_n (pc := 26) dX11_gain_26 rfl ?_
      refine ae_iload_n (pc := 27) dX11_gain_27 rfl ?_
      refine ae_pcallV (pc := 28) (z := zX11_gainOf) (k := 33) (As := [_]) dX11_gain_28 rfl rfl rfl rfl (Nat.le_of_ble_eq_true rfl) rfl (Nat.le_of_ble_eq_true rfl) (Nat.le_of_ble_eq_true rfl) (sm_gainOf d M hf (by have := hne c18; omega) _) ?_
      refine ae_ireturn (pc := 31) dX11_gain_31 rfl ?_
      first | exact ⟨by rw [if_pos (bI_ne0.mp c4), if_neg (hne c18)], rfl⟩ | exact ⟨by rw [if_pos (bI_ne0.mp c4), if_pos (Classical.byContradiction fun q => nI_ne0 (by omega) (by omega) (Classical.not_not.mp c18))], rfl⟩ | exact ⟨by rw [if_neg (bI_eq0.mp (Classical.not_not.mp c4))], rfl⟩
    · refine ae_bipush (pc := 21) (v := (-3)) dX11_gain_21 (by decide) ?_
      refine ae_goto (pc := 23) (t := 31) dX11_gain_23 (by decide) ?_
      refine ae_ireturn (pc := 31) dX11_gain_31 rfl ?_
      first | exact ⟨by rw [if_pos (bI_ne0.mp c4), if_neg (hne c18)], rfl⟩ | exact ⟨by rw [if_pos (bI_ne0.mp c4), if_pos (Classical.byContradiction fun q => nI_ne0 (by omega) (by omega) (Classical.not_not.mp c18))], rfl⟩ | exact ⟨by rw [if_neg (bI_eq0.mp (Classical.not_not.mp c4))], rfl⟩
  · refine ae_bipush (pc := 7) (v := (-2)) dX11_gain_7 (by decide) ?_
    refine ae_ireturn (pc := 9) dX11_gain_9 rfl ?_
    first | exact ⟨by rw [if_pos (bI_ne0.mp c4), if_neg (hne c18)], rfl⟩ | exact ⟨by rw [if_pos (bI_ne0.mp c4), if_pos (Classical.byContradiction fun q => nI_ne0 (by omega) (by omega) (Classical.not_not.mp c18))], rfl⟩ | exact ⟨by rw [if_neg (bI_eq0.mp (Classical.not_not.mp c4))], rfl⟩
theorem sm_index0 (d : Nat) (M : am_M) (x y : Int32) (h : ¬ inP (M.1 34) x y) : am_R (d + 3) zX11_index [.ref 33, .int x, .int y] M (fun v M' => v = some (.int (-2)) ∧ M' = M) := by
  refine ae_enter (z := zX11_index) (y := yX11_index) (cc := cX11_index) (mL := 3) (rt := some .int) (ci := 11) (st := false) (np := 2) (L := [some (.ref 33), some (.int x), some (.int y)]) rfl (by decide) (Nat.le_of_ble_eq_true rfl) rfl ?_
  refine ae_aload_n (pc := 0) dX11_index_0 rfl ?_
  refine ae_iload_n (pc := 1) dX11_index_1 rfl ?_
  refine ae_iload_n (pc := 2) dX11_index_2 rfl ?_
  refine ae_pcallV (pc := 3) (z := zX11_isPixel) (k := 33) (As := [_, _]) dX11_index_3 rfl rfl rfl rfl (Nat.le_of_ble_eq_true rfl) rfl (Nat.le_of_ble_eq_true rfl) (Nat.le_of_ble_eq_true rfl) (sm_isPixel d M x y) ?_
  refine ae_if_ne (pc := 6) (t := 12) dX11_index_6 (by decide) (fun c6 => ?_) (fun c6 => ?_)
  · exact absurd (bI_ne0.mp c6) h
  · refine ae_bipush (pc := 9) (v := (-2)) dX11_index_9 (by decide) ?_
    refine ae_ireturn (pc := 11) dX11_index_11 rfl ?_
    exact ⟨rfl, rfl⟩
theorem sm_index (d : Nat) (M : am_M) (hf : wf0 (M.1 34)) (x y : Nat) (hx : x < fW (M.1 34)) (hy : y < fH (M.1 34)) : am_R (d + 3) zX11_index [.ref 33, .int (nI x), .int (nI y)] M (fun v M' => v = some (.int (if M.1 34 292 = 1 then M.1 34 (293 + (y * fW (M.1 34) + x)) else -3)) ∧ M' = M) := by
  refine ae_enter (z := zX11_index) (y := yX11_index) (cc := cX11_index) (mL := 3) (rt := some .int) (ci := 11) (st := false) (np := 2) (L := [some (.ref 33), some (.int (nI x)), some (.int (nI y))]) rfl (by decide) (Nat.le_of_ble_eq_true rfl) rfl ?_
  have hp := pl_lt hf hx hy
  have hA := fA_le hf
  refine ae_aload_n (pc := 0) dX11_index_0 rfl ?_
  refine ae_iload_n (pc := 1) dX11_index_1 rfl ?_
  refine ae_iload_n (pc := 2) dX11_index_2 rfl ?_
  refine ae_pcallV (pc := 3) (z := zX11_isPixel) (k := 33) (As := [_, _]) dX11_index_3 rfl rfl rfl rfl (Nat.le_of_ble_eq_true rfl) rfl (Nat.le_of_ble_eq_true rfl) (Nat.le_of_ble_eq_true rfl) (sm_isPixel d M _ _) ?_
  refine ae_if_ne (pc := 6) (t := 12) dX11_index_6 (by decide) (fun c6 => ?_) (fun c6 => ?_)
  rotate_left
  · exact absurd (inP_of hf hx hy) (bI_eq0.mp (Classical.not_not.mp c6))
  refine ae_aload_n (pc := 12) dX11_index_12 rfl ?_
  refine ae_getR (pc := 13) (k := 33) (c := 11) (j := 0) (q := 34) dX11_index_13 rfl rfl (Nat.le_of_ble_eq_true rfl) rfl (Nat.le_of_ble_eq_true rfl) rfl ?_
  refine ae_sipush (pc := 16) (v := nI 292) dX11_index_16 (by decide) ?_
  refine ae_iaload (pc := 19) (k := 34) (N := 549) _ dX11_index_19 (Nat.le_of_ble_eq_true rfl) rfl rfl rfl (by omega) rfl ?_
  refine ae_iconst (pc := 20) (v := nI 1) dX11_index_20 (by decide) ?_
  refine ae_icmp_ne (pc := 21) (t := 46) dX11_index_21 (by decide) (fun c21 => ?_) (fun c21 => ?_)
  · refine ae_bipush (pc := 46) (v := (-3)) dX11_index_46 (by decide) ?_
    refine ae_ireturn (pc := 48) dX11_index_48 rfl ?_
    first | exact ⟨by rw [if_neg (show ¬ M.1 34 292 = 1 from c21)], rfl⟩ | exact ⟨by rw [if_pos (show M.1 34 292 = 1 from Classical.not_not.mp c21)], rfl⟩
  · refine ae_aload_n (pc := 24) dX11_index_24 rfl ?_
    refine ae_getR (pc := 25) (k := 33) (c := 11) (j := 0) (q := 34) dX11_index_25 rfl rfl (Nat.le_of_ble_eq_true rfl) rfl (Nat.le_of_ble_eq_true rfl) rfl ?_
    refine ae_sipush (pc := 28) (v := nI 293) dX11_index_28 (by decide) ?_
    refine ae_iload_n (pc := 31) dX11_index_31 rfl ?_
    refine ae_aload_n (pc := 32) dX11_index_32 rfl ?_
    refine ae_getR (pc := 33) (k := 33) (c := 11) (j := 0) (q := 34) dX11_index_33 rfl rfl (Nat.le_of_ble_eq_true rfl) rfl (Nat.le_of_ble_eq_true rfl) rfl ?_
    refine ae_iconst (pc := 36) (v := nI 0) dX11_index_36 (by decide) ?_
    refine ae_iaload (pc := 37) (k := 34) (N := 549) (v := nI (fW (M.1 34))) _ dX11_index_37 (Nat.le_of_ble_eq_true rfl) rfl rfl rfl (by omega) hf.1.1 ?_
    refine ae_imul (pc := 38) (v := nI (y * fW (M.1 34))) dX11_index_38 (nI_mul _ _) ?_
    refine ae_iadd (pc := 39) (v := nI (293 + y * fW (M.1 34))) dX11_index_39 (nI_add _ _) ?_
    refine ae_iload_n (pc := 40) dX11_index_40 rfl ?_
    refine ae_iadd (pc := 41) (v := nI (293 + (y * fW (M.1 34) + x))) dX11_index_41 (by rw [nI_add, Nat.add_assoc]) ?_
    refine ae_iaload (pc := 42) (k := 34) (N := 549) (293 + (y * fW (M.1 34) + x)) dX11_index_42 (Nat.le_of_ble_eq_true rfl) rfl rfl rfl (by omega) rfl ?_
    refine ae_goto (pc := 43) (t := 48) dX11_index_43 (by decide) ?_
    refine ae_ireturn (pc := 48) dX11_index_48 rfl ?_
    first | exact ⟨by rw [if_neg (show ¬ M.1 34 292 = 1 from c21)], rfl⟩ | exact ⟨by rw [if_pos (show M.1 34 292 = 1 from Classical.not_not.mp c21)], rfl⟩
theorem sm_mixes (d : Nat) (M : am_M) (x : Int32) (h : Int64) (hh : M.2 33 20 = h) : am_R (d + 1) zX11_mixes [.ref 33, .int x] M (fun v M' => v = none ∧ M' = (M.1, am_u M.2 33 (vp_updL (M.2 33) 20 (31 * h + x.toInt64)))) := by
  subst hh
  refine ae_enter (z := zX11_mixes) (y := yX11_mixes) (cc := cX11_mixes) (mL := 2) (rt := none) (ci := 11) (st := false) (np := 1) (L := [some (.ref 33), some (.int x)]) rfl (by decide) (Nat.le_of_ble_eq_true rfl) rfl ?_
  refine ae_aload_n (pc := 0) dX11_mixes_0 rfl ?_
  refine ae_ldc2_w (pc := 1) dX11_mixes_1 rfl ?_
  refine ae_aload_n (pc := 4) dX11_mixes_4 rfl ?_
  refine ae_getJ (pc := 5) (k := 33) (c := 11) (j := 20) dX11_mixes_5 rfl rfl (Nat.le_of_ble_eq_true rfl) rfl (Nat.le_of_ble_eq_true rfl) ?_
  refine ae_lmul (pc := 8) dX11_mixes_8 rfl ?_
  refine ae_iload_n (pc := 9) dX11_mixes_9 rfl ?_
  refine ae_i2l (pc := 10) dX11_mixes_10 rfl ?_
  refine ae_ladd (pc := 11) dX11_mixes_11 rfl ?_
  refine ae_putfieldJ (pc := 12) (k := 33) (c := 11) (j := 20) dX11_mixes_12 rfl rfl (Nat.le_of_ble_eq_true rfl) rfl (Nat.le_of_ble_eq_true rfl) rfl ?_
  refine ae_return (pc := 15) dX11_mixes_15 rfl ?_
  exact ⟨rfl, rfl⟩

