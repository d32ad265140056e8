theorem sm_paint0 (d : Nat) (M : am_M) (x y w h c : Int32) (hn : ¬ ptOK (M.1 34) x y w h c) : am_R (d + 3) zX11_paint [.ref 33, .int x, .int y, .int w, .int h, .int c] M (fun v M' => v = some (.int (-2)) ∧ M' = M) := by
  refine ae_enter (z := zX11_paint) (y := yX11_paint) (cc := cX11_paint) (mL := 9) (rt := some .int) (ci := 11) (st := false) (np := 5) (L := [some (.ref 33), some (.int x), some (.int y), some (.int w), some (.int h), some (.int c), none, none, none]) rfl (by decide) (Nat.le_of_ble_eq_true rfl) rfl ?_
  refine ae_aload_n (pc := 0) dX11_paint_0 rfl ?_
  refine ae_iload_n (pc := 1) dX11_paint_1 rfl ?_
  refine ae_iload_n (pc := 2) dX11_paint_2 rfl ?_
  refine ae_pcallV (pc := 3) (z := zX11_isPixel) (k := 33) (As := [_, _]) dX11_paint_3 rfl rfl rfl rfl (Nat.le_of_ble_eq_true rfl) rfl (Nat.le_of_ble_eq_true rfl) (Nat.le_of_ble_eq_true rfl) (sm_isPixel d M x y) ?_
  refine ae_if_eq (pc := 6) (t := 46) dX11_paint_6 (by decide) (fun c6 => ?_) (fun c6 => ?_)
  · refine ae_iconst (pc := 46) (v := nI 0) dX11_paint_46 (by decide) ?_
    refine ae_istore (pc := 47) dX11_paint_47 rfl (Nat.le_of_ble_eq_true rfl) ?_
    refine ae_iload (pc := 49) dX11_paint_49 rfl ?_
    refine ae_if_eq (pc := 51) (t := 68) dX11_paint_51 (by decide) (fun _ => ?_) (fun q => absurd (by decide) q)
    refine ae_bipush (pc := 68) (v := (-2)) dX11_paint_68 (by decide) ?_
    refine ae_ireturn (pc := 70) dX11_paint_70 rfl ?_
    exact ⟨rfl, rfl⟩
  · refine ae_iload_n (pc := 9) dX11_paint_9 rfl ?_
    refine ae_iconst (pc := 10) (v := nI 1) dX11_paint_10 (by decide) ?_
    refine ae_aload_n (pc := 11) dX11_paint_11 rfl ?_
    refine ae_getR (pc := 12) (k := 33) (c := 11) (j := 0) (q := 34) dX11_paint_12 rfl rfl (Nat.le_of_ble_eq_true rfl) rfl (Nat.le_of_ble_eq_true rfl) rfl ?_
    refine ae_iconst (pc := 15) (v := nI 0) dX11_paint_15 (by decide) ?_
    refine ae_iaload (pc := 16) (k := 34) (N := 549) _ dX11_paint_16 (Nat.le_of_ble_eq_true rfl) rfl rfl rfl (by omega) rfl ?_
    refine ae_iload_n (pc := 17) dX11_paint_17 rfl ?_
    refine ae_isub (pc := 18) dX11_paint_18 rfl ?_
    refine ae_pcallS (pc := 19) (z := zX11_in) (As := [_, _, _]) dX11_paint_19 rfl rfl rfl rfl (Nat.le_of_ble_eq_true rfl) (sm_in (d + 1) _ _ _ _) ?_
    refine ae_if_eq (pc := 22) (t := 46) dX11_paint_22 (by decide) (fun c22 => ?_) (fun c22 => ?_)
    · refine ae_iconst (pc := 46) (v := nI 0) dX11_paint_46 (by decide) ?_
      refine ae_istore (pc := 47) dX11_paint_47 rfl (Nat.le_of_ble_eq_true rfl) ?_
      refine ae_iload (pc := 49) dX11_paint_49 rfl ?_
      refine ae_if_eq (pc := 51) (t := 68) dX11_paint_51 (by decide) (fun _ => ?_) (fun q => absurd (by decide) q)
      refine ae_bipush (pc := 68) (v := (-2)) dX11_paint_68 (by decide) ?_
      refine ae_ireturn (pc := 70) dX11_paint_70 rfl ?_
      exact ⟨rfl, rfl⟩
    · refine ae_iload (pc := 25) dX11_paint_25 rfl ?_
      refine ae_iconst (pc := 27) (v := nI 1) dX11_paint_27 (by decide) ?_
      refine ae_aload_n (pc := 28) dX11_paint_28 rfl ?_
      refine ae_getR (pc := 29) (k := 33) (c := 11) (j := 0) (q := 34) dX11_paint_29 rfl rfl (Nat.le_of_ble_eq_true rfl) rfl (Nat.le_of_ble_eq_true rfl) rfl ?_
      refine ae_iconst (pc := 32) (v := nI 1) dX11_paint_32 (by decide) ?_
      refine ae_iaload (pc := 33) (k := 34) (N := 549) _ dX11_paint_33 (Nat.le_of_ble_eq_true rfl) rfl rfl rfl (by omega) rfl ?_
      refine ae_iload_n (pc := 34) dX11_paint_34 rfl ?_
      refine ae_isub (pc := 35) dX11_paint_35 rfl ?_
      refine ae_pcallS (pc := 36) (z := zX11_in) (As := [_, _, _]) dX11_paint_36 rfl rfl rfl rfl (Nat.le_of_ble_eq_true rfl) (sm_in (d + 1) _ _ _ _) ?_
      refine ae_if_eq (pc := 39) (t := 46) dX11_paint_39 (by decide) (fun c39 => ?_) (fun c39 => ?_)
      · refine ae_iconst (pc := 46) (v := nI 0) dX11_paint_46 (by decide) ?_
        refine ae_istore (pc := 47) dX11_paint_47 rfl (Nat.le_of_ble_eq_true rfl) ?_
        refine ae_iload (pc := 49) dX11_paint_49 rfl ?_
        refine ae_if_eq (pc := 51) (t := 68) dX11_paint_51 (by decide) (fun _ => ?_) (fun q => absurd (by decide) q)
        refine ae_bipush (pc := 68) (v := (-2)) dX11_paint_68 (by decide) ?_
        refine ae_ireturn (pc := 70) dX11_paint_70 rfl ?_
        exact ⟨rfl, rfl⟩
      · refine ae_iconst (pc := 42) (v := nI 1) dX11_paint_42 (by decide) ?_
        refine ae_goto (pc := 43) (t := 47) dX11_paint_43 (by decide) ?_
        refine ae_istore (pc := 47) dX11_paint_47 rfl (Nat.le_of_ble_eq_true rfl) ?_
        refine ae_iload (pc := 49) dX11_paint_49 rfl ?_
        refine ae_if_eq (pc := 51) (t := 68) dX11_paint_51 (by decide) (fun q => absurd q (by decide)) (fun _ => ?_)
        refine ae_iload (pc := 54) dX11_paint_54 rfl ?_
        refine ae_iconst (pc := 56) (v := (-1)) dX11_paint_56 (by decide) ?_
        refine ae_icmp_eq (pc := 57) (t := 71) dX11_paint_57 (by decide) (fun c57 => ?_) (fun c57 => ?_)
        · exact (hn ⟨bI_ne0.mp c6, bI_ne0.mp c22, bI_ne0.mp c39, by first | exact Or.inl c57 | exact Or.inr (bI_ne0.mp c65)⟩).elim
        · refine ae_iload (pc := 60) dX11_paint_60 rfl ?_
          refine ae_pcallS (pc := 62) (z := zX11_isColor) (As := [_]) dX11_paint_62 rfl rfl rfl rfl (Nat.le_of_ble_eq_true rfl) (sm_isColor d _ _) ?_
          refine ae_if_ne (pc := 65) (t := 71) dX11_paint_65 (by decide) (fun c65 => ?_) (fun c65 => ?_)
          · exact (hn ⟨bI_ne0.mp c6, bI_ne0.mp c22, bI_ne0.mp c39, by first | exact Or.inl c57 | exact Or.inr (bI_ne0.mp c65)⟩).elim
          · refine ae_bipush (pc := 68) (v := (-2)) dX11_paint_68 (by decide) ?_
            refine ae_ireturn (pc := 70) dX11_paint_70 rfl ?_
            exact ⟨rfl, rfl⟩
theorem sm_paint (d : Nat) (M : am_M) (hf : wf0 (M.1 34)) (u : Nat) (hu : M.1 33 2 = nI u) (hu2 : u ≤ 10) (x y w h : Nat) (c : Int32) (hw : 1 ≤ w ∧ x + w ≤ fW (M.1 34)) (hh : 1 ≤ h ∧ y + h ≤ fH (M.1 34)) (hc : c = -1 ∨ (0 ≤ c ∧ c ≤ 16777215)) : am_R (d + 3) zX11_paint [.ref 33, .int (nI x), .int (nI y), .int (nI w), .int (nI h), .int c] M (fun v M' => v = some (.int (nI (w * h))) ∧ M' = rw34 (kpM M u 1) (ptF (kpF (M.1 34) 1) x y w c (w * h))) := by
  refine ae_enter (z := zX11_paint) (y := yX11_paint) (cc := cX11_paint) (mL := 9) (rt := some .int) (ci := 11) (st := false) (np := 5) (L := [some (.ref 33), some (.int (nI x)), some (.int (nI y)), some (.int (nI w)), some (.int (nI h)), some (.int c), none, none, none]) rfl (by decide) (Nat.le_of_ble_eq_true rfl) rfl ?_
  obtain ⟨⟨a1, a2, a3⟩, ⟨b1, b2, b3⟩, -⟩ := id hf
  have hwh : w * h ≤ 256 := Nat.le_trans (Nat.mul_le_mul (show w ≤ 16 by omega) (show h ≤ 16 by omega)) (by decide)
  have go : ∀ o6 : Option Value, am_E none (am_R (d + 2)) cX11_paint 11 (some .int) (fun v M' => v = some (.int (nI (w * h))) ∧ M' = rw34 (kpM M u 1) (ptF (kpF (M.1 34) 1) x y w c (w * h))) (71, [some (.ref 33), some (.int (nI x)), some (.int (nI y)), some (.int (nI w)), some (.int (nI h)), some (.int c), none, none, none], [], M) := by
    intro o6
    refine ae_aload_n (pc := 71) dX11_paint_71 rfl ?_
    refine ae_iconst (pc := 72) (v := nI 1) dX11_paint_72 (by decide) ?_
    refine ae_callV (pc := 73) (z := zX11_keeps) (k := 33) (As := [_]) dX11_paint_73 rfl rfl rfl rfl (Nat.le_of_ble_eq_true rfl) rfl (Nat.le_of_ble_eq_true rfl) (Nat.le_of_ble_eq_true rfl) (sm_keeps (d + 1) M u hu hu2 _) (fun v M' hq => ?_)
    obtain ⟨rfl, rfl⟩ := hq
    refine ae_M (M' := rw34 (kpM M u 1) (ptF (kpF (M.1 34) 1) x y w c 0)) (by rw [show ptF (kpF (M.1 34) 1) x y w c 0 = kpF (M.1 34) 1 from rfl, ← kp34 M u 1]; exact (rw34_eta _).symm) ?_
    refine ae_iconst (pc := 76) (v := nI 0) dX11_paint_76 (by decide) ?_
    refine ae_istore (pc := 77) dX11_paint_77 rfl (Nat.le_of_ble_eq_true rfl) ?_
    skip
    refine am_down (P := fun k => am_E none (am_R (d + 2)) cX11_paint 11 (some .int) _ (79, [some (.ref 33), some (.int (nI x)), some (.int (nI y)), some (.int (nI w)), some (.int (nI h)), some (.int c), none, some (.int (nI k)), none], [], rw34 (kpM M u 1) (ptF (kpF (M.1 34) 1) x y w c k))) (w * h) (fun k hk ih => ?_)
    refine ae_iload (pc := 79) dX11_paint_79 rfl ?_
    refine ae_iload_n (pc := 81) dX11_paint_81 rfl ?_
    refine ae_iload (pc := 82) dX11_paint_82 rfl ?_
    refine ae_imul (pc := 84) dX11_paint_84 (nI_mul _ _) ?_
    refine ae_icmp_ge (pc := 85) (t := 127) dX11_paint_85 (by decide) (fun c85 => ?_) (fun c85 => ?_)
    · have hk2 : k = w * h := by rw [nI_leI (by omega) (by omega)] at c85; omega
      subst hk2
      refine ae_iload_n (pc := 127) dX11_paint_127 rfl ?_
      refine ae_iload (pc := 128) dX11_paint_128 rfl ?_
      refine ae_imul (pc := 130) dX11_paint_130 (nI_mul _ _) ?_
      refine ae_ireturn (pc := 131) dX11_paint_131 rfl ?_
      exact ⟨rfl, rfl⟩
    · have hk2 : k < w * h := by rw [nI_leI (by omega) (by omega)] at c85; omega
      have hin := pt_in (k := k) hf hw.2 hh.2 hk2
      have hA := fA_le hf
      have e0 : kpF (M.1 34) 1 0 = nI (fW (M.1 34)) := (kpF_ne _ _ (by decide)).trans a1
      have eW : fW (kpF (M.1 34) 1) = fW (M.1 34) := by unfold fW; rw [kpF_ne _ _ (by decide)]
      refine ae_iload_n (pc := 88) dX11_paint_88 rfl ?_
      refine ae_iload (pc := 89) dX11_paint_89 rfl ?_
      refine ae_iload_n (pc := 91) dX11_paint_91 rfl ?_
      refine ae_idiv (pc := 92) (v := nI (k / w)) dX11_paint_92 (nI_ne0 (by omega) (by omega)) (nI_div (by omega) (by omega)) ?_
      refine ae_iadd (pc := 93) (v := nI (y + k / w)) dX11_paint_93 (nI_add _ _) ?_
      refine ae_aload_n (pc := 94) dX11_paint_94 rfl ?_
      refine ae_getR (pc := 95) (k := 33) (c := 11) (j := 0) (q := 34) dX11_paint_95 rfl rfl (Nat.le_of_ble_eq_true rfl) rfl (Nat.le_of_ble_eq_true rfl) rfl ?_
      refine ae_iconst (pc := 98) (v := nI 0) dX11_paint_98 (by decide) ?_
      refine ae_iaload (pc := 99) (k := 34) (N := 549) (v := nI (fW (M.1 34))) _ dX11_paint_99 (Nat.le_of_ble_eq_true rfl) rfl rfl rfl (by omega) (by rw [rw34_34, pt_0 _ _ _ _ _ _ _ (by decide), e0]) ?_
      refine ae_imul (pc := 100) (v := nI ((y + k / w) * fW (M.1 34))) dX11_paint_100 (nI_mul _ _) ?_
      refine ae_iload_n (pc := 101) dX11_paint_101 rfl ?_
      refine ae_iadd (pc := 102) (v := nI ((y + k / w) * fW (M.1 34) + x)) dX11_paint_102 (nI_add _ _) ?_
      refine ae_iload (pc := 103) dX11_paint_103 rfl ?_
      refine ae_iload_n (pc := 105) dX11_paint_105 rfl ?_
      refine ae_irem (pc := 106) (v := nI (k % w)) dX11_paint_106 (nI_ne0 (by omega) (by omega)) (nI_mod (by omega) (by omega)) ?_
      refine ae_iadd (pc := 107) (v := nI ((y + k / w) * fW (M.1 34) + x + k % w)) dX11_paint_107 (nI_add _ _) ?_
      refine ae_istore (pc := 108) dX11_paint_108 rfl (Nat.le_of_ble_eq_true rfl) ?_
      refine ae_aload_n (pc := 110) dX11_paint_110 rfl ?_
      refine ae_getR (pc := 111) (k := 33) (c := 11) (j := 0) (q := 34) dX11_paint_111 rfl rfl (Nat.le_of_ble_eq_true rfl) rfl (Nat.le_of_ble_eq_true rfl) rfl ?_
      refine ae_iconst (pc := 114) (v := nI 2) dX11_paint_114 (by decide) ?_
      refine ae_iload (pc := 115) dX11_paint_115 rfl ?_
      refine ae_iadd (pc := 117) dX11_paint_117 (nI_add _ _) ?_
      refine ae_iload (pc := 118) dX11_paint_118 rfl ?_
      refine ae_iastore (pc := 120) (k := 34) (N := 549) _ dX11_paint_120 (Nat.le_of_ble_eq_true rfl) rfl rfl rfl (by omega) rfl ?_
      refine ae_iinc (pc := 121) (v := nI (k + 1)) dX11_paint_121 rfl (nI_inc k) ?_
      refine ae_goto (pc := 124) (t := 79) dX11_paint_124 (by decide) ?_
      refine ae_forget [8] rfl (ae_M ?_ (ih hk2))
      rw [rw34_upd, ptF, eW]
  have k1 := inP_of (x := x) (y := y) hf (by omega) (by omega)
  refine ae_aload_n (pc := 0) dX11_paint_0 rfl ?_
  refine ae_iload_n (pc := 1) dX11_paint_1 rfl ?_
  refine ae_iload_n (pc := 2) dX11_paint_2 rfl ?_
  refine ae_pcallV (pc := 3) (z := zX11_isPixel) (k := 33) (As := [_, _]) dX11_paint_3 rfl rfl rfl rfl (Nat.le_of_ble_eq_true rfl) rfl (Nat.le_of_ble_eq_true rfl) (Nat.le_of_ble_eq_true rfl) (sm_isPixel d M _ _) ?_
  refine ae_if_eq (pc := 6) (t := 46) dX11_paint_6 (by decide) (fun c6 => ?_) (fun c6 => ?_)
  · exact absurd k1 (bI_eq0.mp c6)
  refine ae_iload_n (pc := 9) dX11_paint_9 rfl ?_
  refine ae_iconst (pc := 10) (v := nI 1) dX11_paint_10 (by decide) ?_
  refine ae_aload_n (pc := 11) dX11_paint_11 rfl ?_
  refine ae_getR (pc := 12) (k := 33) (c := 11) (j := 0) (q := 34) dX11_paint_12 rfl rfl (Nat.le_of_ble_eq_true rfl) rfl (Nat.le_of_ble_eq_true rfl) rfl ?_
  refine ae_iconst (pc := 15) (v := nI 0) dX11_paint_15 (by decide) ?_
  refine ae_iaload (pc := 16) (k := 34) (N := 549) _ dX11_paint_16 (Nat.le_of_ble_eq_true rfl) rfl rfl rfl (by omega) rfl ?_
  refine ae_iload_n (pc := 17) dX11_paint_17 rfl ?_
  refine ae_isub (pc := 18) dX11_paint_18 rfl ?_
  refine ae_pcallS (pc := 19) (z := zX11_in) (As := [_, _, _]) dX11_paint_19 rfl rfl rfl rfl (Nat.le_of_ble_eq_true rfl) (sm_in (d + 1) _ _ _ _) ?_
  refine ae_if_eq (pc := 22) (t := 46) dX11_paint_22 (by decide) (fun c22 => ?_) (fun c22 => ?_)
  · exact absurd (show nI 1 ≤ nI w ∧ nI w ≤ M.1 34 0 - nI x by rw [a1, nI_sub (by omega)]; exact rngI hw.1 (by omega) (by omega)) (bI_eq0.mp c22)
  refine ae_iload (pc := 25) dX11_paint_25 rfl ?_
  refine ae_iconst (pc := 27) (v := nI 1) dX11_paint_27 (by decide) ?_
  refine ae_aload_n (pc := 28) dX11_paint_28 rfl ?_
  refine ae_getR (pc := 29) (k := 33) (c := 11) (j := 0) (q := 34) dX11_paint_29 rfl rfl (Nat.le_of_ble_eq_true rfl) rfl (Nat.le_of_ble_eq_true rfl) rfl ?_
  refine ae_iconst (pc := 32) (v := nI 1) dX11_paint_32 (by decide) ?_
  refine ae_iaload (pc := 33) (k := 34) (N := 549) _ dX11_paint_33 (Nat.le_of_ble_eq_true rfl) rfl rfl rfl (by omega) rfl ?_
  refine ae_iload_n (pc := 34) dX11_paint_34 rfl ?_
  refine ae_isub (pc := 35) dX11_paint_35 rfl ?_
  refine ae_pcallS (pc := 36) (z := zX11_in) (As := [_, _, _]) dX11_paint_36 rfl rfl rfl rfl (Nat.le_of_ble_eq_true rfl) (sm_in (d + 1) _ _ _ _) ?_
  refine ae_if_eq (pc := 39) (t := 46) dX11_paint_39 (by decide) (fun c39 => ?_) (fun c39 => ?_)
  · exact absurd (show nI 1 ≤ nI h ∧ nI h ≤ M.1 34 1 - nI y by rw [b1, nI_sub (by omega)]; exact rngI hh.1 (by omega) (by omega)) (bI_eq0.mp c39)
  refine ae_iconst (pc := 42) (v := nI 1) dX11_paint_42 (by decide) ?_
  refine ae_goto (pc := 43) (t := 47) dX11_paint_43 (by decide) ?_
  refine ae_istore (pc := 47) dX11_paint_47 rfl (Nat.le_of_ble_eq_true rfl) ?_
  refine ae_iload (pc := 49) dX11_paint_49 rfl ?_
  refine ae_if_eq (pc := 51) (t := 68) dX11_paint_51 (by decide) (fun q => absurd q (by decide)) (fun _ => ?_)
  refine ae_iload (pc := 54) dX11_paint_54 rfl ?_
  refine ae_iconst (pc := 56) (v := (-1)) dX11_paint_56 (by decide) ?_
  refine ae_icmp_eq (pc := 57) (t := 71) dX11_paint_57 (by decide) (fun c57 => ?_) (fun c57 => ?_)
  · exact ae_forget [6] rfl (go none)
  · refine ae_iload (pc := 60) dX11_paint_60 rfl ?_
    refine ae_pcallS (pc := 62) (z := zX11_isColor) (As := [_]) dX11_paint_62 rfl rfl rfl rfl (Nat.le_of_ble_eq_true rfl) (sm_isColor d _ _) ?_
    refine ae_if_ne (pc := 65) (t := 71) dX11_paint_65 (by decide) (fun c65 => ?_) (fun c65 => ?_)
    rotate_left
    · exact absurd (hc.resolve_left c57) (bI_eq0.mp (Classical.not_not.mp c65))
    exact ae_forget [6] rfl (go none)
theorem sm_step (d : Nat) (M : am_M) (a b i n : Int32) (hn : n ≠ nI 1 → ¬ n - nI 1 = 0) : am_R (d + 1) zX11_step [.int a, .int b, .int i, .int n] M (fun v M' => v = some (.int (stp a b i n)) ∧ M' = M) := by
  refine ae_enter (z := zX11_step) (y := yX11_step) (cc := cX11_step) (mL := 4) (rt := some .int) (ci := 11) (st := true) (np := 4) (L := [some (.int a), some (.int b), some (.int i), some (.int n)]) rfl (by decide) (Nat.le_of_ble_eq_true rfl) rfl ?_
  refine ae_iload_n (pc := 0) dX11_step_0 rfl ?_
  refine ae_iconst (pc := 1) (v := nI 1) dX11_step_1 (by decide) ?_
  refine ae_icmp_ne (pc := 2) (t := 9) dX11_step_2 (by decide) (fun c2 => ?_) (fun c2 => ?_)
  · refine ae_iload_n (pc := 9) dX11_step_9 rfl ?_
    refine ae_iload_n (pc := 10) dX11_step_10 rfl ?_
    refine ae_iload_n (pc := 11) dX11_step_11 rfl ?_
    refine ae_isub (pc := 12) dX11_step_12 rfl ?_
    refine ae_iload_n (pc := 13) dX11_step_13 rfl ?_
    refine ae_imul (pc := 14) dX11_step_14 rfl ?_
    refine ae_iload_n (pc := 15) dX11_step_15 rfl ?_
    refine ae_iconst (pc := 16) (v := nI 1) dX11_step_16 (by decide) ?_
    refine ae_isub (pc := 17) dX11_step_17 rfl ?_
    refine ae_idiv (pc := 18) dX11_step_18 (hn c2) rfl ?_
    refine ae_iadd (pc := 19) dX11_step_19 rfl ?_
    refine ae_ireturn (pc := 20) dX11_step_20 rfl ?_
    exact ⟨by unfold stp; first | rw [if_neg c2] | rw [if_pos (Classical.not_not.mp c2)], rfl⟩
  · refine ae_iload_n (pc := 5) dX11_step_5 rfl ?_
    refine ae_goto (pc := 6) (t := 20) dX11_step_6 (by decide) ?_
    refine ae_ireturn (pc := 20) dX11_step_20 rfl ?_
    exact ⟨by unfold stp; first | rw [if_neg c2] | rw [if_pos (Classical.not_not.mp c2)], rfl⟩
theorem sm_gradient0 (d : Nat) (M : am_M) (fr to vt : Int32) (hn : ¬ ((0 ≤ fr ∧ fr ≤ 16777215) ∧ 0 ≤ to ∧ to ≤ 16777215)) : am_R (d + 3) zX11_gradient [.ref 33, .int fr, .int to, .int vt] M (fun v M' => v = some (.int (-2)) ∧ M' = M) := by
  refine ae_enter (z := zX11_gradient) (y := yX11_gradient) (cc := cX11_gradient) (mL := 9) (rt := some .int) (ci := 11) (st := false) (np := 3) (L := [some (.ref 33), some (.int fr), some (.int to), some (.int vt), none, none, none, none, none]) rfl (by decide) (Nat.le_of_ble_eq_true rfl) rfl ?_
  refine ae_iload_n (pc := 0) dX11_gradient_0 rfl ?_
  refine ae_pcallS (pc := 1) (z := zX11_isColor) (As := [_]) dX11_gradient_1 rfl rfl rfl rfl (Nat.le_of_ble_eq_true rfl) (sm_isColor d _ _) ?_
  refine ae_if_eq (pc := 4) (t := 14) dX11_gradient_4 (by decide) (fun c4 => ?_) (fun c4 => ?_)
  · refine ae_bipush (pc := 14) (v := (-2)) dX11_gradient_14 (by decide) ?_
    refine ae_ireturn (pc := 16) dX11_gradient_16 rfl ?_
    exact ⟨rfl, rfl⟩
  · refine ae_iload_n (pc := 7) dX11_gradient_7 rfl ?_
    refine ae_pcallS (pc := 8) (z := zX11_isColor) (As := [_]) dX11_gradient_8 rfl rfl rfl rfl (Nat.le_of_ble_eq_true rfl) (sm_isColor d _ _) ?_
    refine ae_if_ne (pc := 11) (t := 17) dX11_gradient_11 (by decide) (fun c11 => ?_) (fun c11 => ?_)
    · exact (hn ⟨bI_ne0.mp c4, bI_ne0.mp c11⟩).elim
    · refine ae_bipush (pc := 14) (v := (-2)) dX11_gradient_14 (by decide) ?_
      refine ae_ireturn (pc := 16) dX11_gradient_16 rfl ?_
      exact ⟨rfl, rfl⟩
theorem sm_gradient (d : Nat) (M : am_M) (hf : wf0 (M.1 34)) (u : Nat) (hu : M.1 33 2 = nI u) (hu2 : u ≤ 10) (fr to vt : Int32) (h1 : 0 ≤ fr ∧ fr ≤ 16777215) (h2 : 0 ≤ to ∧ to ≤ 16777215) : am_R (d + 3) zX11_gradient [.ref 33, .int fr, .int to, .int vt] M (fun v M' => v = some (.int (nI (fA (M.1 34)))) ∧ M' = rw34 (kpM M u 1) (grF (kpF (M.1 34) 1) fr to vt (fA (M.1 34)))) := by
  refine ae_enter (z := zX11_gradient) (y := yX11_gradient) (cc := cX11_gradient) (mL := 9) (rt := some .int) (ci := 11) (st := false) (np := 3) (L := [some (.ref 33), some (.int fr), some (.int to), some (.int vt), none, none, none, none, none]) rfl (by decide) (Nat.le_of_ble_eq_true rfl) rfl ?_
  obtain ⟨⟨a1, a2, a3⟩, ⟨b1, b2, b3⟩, hN⟩ := id hf
  have hA := fA_le hf
  have hg : ∀ k, k ≤ 256 → wf0 (grF (kpF (M.1 34) 1) fr to vt k) ∧ fA (grF (kpF (M.1 34) 1) fr to vt k) = fA (M.1 34) ∧ grF (kpF (M.1 34) 1) fr to vt k 0 = nI (fW (M.1 34)) ∧ grF (kpF (M.1 34) 1) fr to vt k 1 = nI (fH (M.1 34)) := by
    intro k hk
    have h0 : grF (kpF (M.1 34) 1) fr to vt k 0 = M.1 34 0 := (gr_out _ _ _ _ _ _ (Or.inl (by decide))).trans (kpF_ne _ _ (by decide))
    have h1 : grF (kpF (M.1 34) 1) fr to vt k 1 = M.1 34 1 := (gr_out _ _ _ _ _ _ (Or.inl (by decide))).trans (kpF_ne _ _ (by decide))
    have h2 : grF (kpF (M.1 34) 1) fr to vt k 258 = M.1 34 258 := (gr_far _ _ _ _ _ _ hk (by decide)).trans (kpF_ne _ _ (by decide))
    obtain ⟨q1, q2, q3, -⟩ := wf0_of hf h0 h1 h2
    exact ⟨q1, by unfold fA; rw [q2, q3], h0.trans a1, h1.trans b1⟩
  have e0 : fW (kpF (M.1 34) 1) = fW (M.1 34) := by unfold fW; rw [kpF_ne _ _ (by decide)]
  have e1 : fH (kpF (M.1 34) 1) = fH (M.1 34) := by unfold fH; rw [kpF_ne _ _ (by decide)]
  have hn9 : ∀ n : Nat, 1 ≤ n → n ≤ 16 → nI n ≠ nI 1 → ¬ nI n - nI 1 = 0 := by
    intro n n1 n2 n3
    rw [nI_sub n1]
    have n4 : n ≠ 1 := fun q => n3 (by rw [q])
    exact nI_ne0 (by omega) (by omega)
  have go : ∀ n : Nat, 1 ≤ n → n ≤ 16 → n = (if vt = 0 then fW (M.1 34) else fH (M.1 34)) → am_E none (am_R (d + 2)) cX11_gradient 11 (some .int) (fun v M' => v = some (.int (nI (fA (M.1 34)))) ∧ M' = rw34 (kpM M u 1) (grF (kpF (M.1 34) 1) fr to vt (fA (M.1 34)))) (43, [some (.ref 33), some (.int fr), some (.int to), some (.int vt), some (.int (nI n)), none, none, none, none], [], rw34 (kpM M u 1) (grF (kpF (M.1 34) 1) fr to vt 0)) := by
    intro n n1 n2 hn
    refine ae_iconst (pc := 43) (v := nI 0) dX11_gradient_43 (by decide) ?_
    refine ae_istore (pc := 44) dX11_gradient_44 rfl (Nat.le_of_ble_eq_true rfl) ?_
    skip
    refine am_down (P := fun k => am_E none (am_R (d + 2)) cX11_gradient 11 (some .int) _ (46, [some (.ref 33), some (.int fr), some (.int to), some (.int vt), some (.int (nI n)), some (.int (nI k)), none, none, none], [], rw34 (kpM M u 1) (grF (kpF (M.1 34) 1) fr to vt k))) (fA (M.1 34)) (fun k hk ih => ?_)
    have hgk := hg k (by omega)
    have hpx := sm_pixels (d + 1) (rw34 (kpM M u 1) (grF (kpF (M.1 34) 1) fr to vt k)) (by rw [rw34_34]; exact hgk.1)
    rw [rw34_34, hgk.2.1] at hpx
    refine ae_iload (pc := 46) dX11_gradient_46 rfl ?_
    refine ae_aload_n (pc := 48) dX11_gradient_48 rfl ?_
    refine ae_pcallV (pc := 49) (z := zX11_pixels) (k := 33) (As := []) dX11_gradient_49 rfl rfl rfl rfl (Nat.le_of_ble_eq_true rfl) rfl (Nat.le_of_ble_eq_true rfl) (Nat.le_of_ble_eq_true rfl) (hpx) ?_
    refine ae_icmp_ge (pc := 52) (t := 145) dX11_gradient_52 (by decide) (fun c52 => ?_) (fun c52 => ?_)
    · have hk2 : k = fA (M.1 34) := by rw [nI_leI (by omega) (by omega)] at c52; omega
      subst hk2
      refine ae_aload_n (pc := 145) dX11_gradient_145 rfl ?_
      refine ae_pcallV (pc := 146) (z := zX11_pixels) (k := 33) (As := []) dX11_gradient_146 rfl rfl rfl rfl (Nat.le_of_ble_eq_true rfl) rfl (Nat.le_of_ble_eq_true rfl) (Nat.le_of_ble_eq_true rfl) (hpx) ?_
      refine ae_ireturn (pc := 149) dX11_gradient_149 rfl ?_
      exact ⟨rfl, rfl⟩
    · have hk2 : k < fA (M.1 34) := by rw [nI_leI (by omega) (by omega)] at c52; omega
      have inner : ∀ i : Int32, i = grI (kpF (M.1 34) 1) vt k → am_E none (am_R (d + 2)) cX11_gradient 11 (some .int) (fun v M' => v = some (.int (nI (fA (M.1 34)))) ∧ M' = rw34 (kpM M u 1) (grF (kpF (M.1 34) 1) fr to vt (fA (M.1 34)))) (80, [some (.ref 33), some (.int fr), some (.int to), some (.int vt), some (.int (nI n)), some (.int (nI k)), none, none, none], [.int i], rw34 (kpM M u 1) (grF (kpF (M.1 34) 1) fr to vt k)) := by
        intro i hi
        refine ae_istore (pc := 80) dX11_gradient_80 rfl (Nat.le_of_ble_eq_true rfl) ?_
        refine ae_iconst (pc := 82) (v := nI 0) dX11_gradient_82 (by decide) ?_
        refine ae_istore (pc := 83) dX11_gradient_83 rfl (Nat.le_of_ble_eq_true rfl) ?_
        refine ae_iconst (pc := 85) (v := nI 0) dX11_gradient_85 (by decide) ?_
        refine ae_istore (pc := 86) dX11_gradient_86 rfl (Nat.le_of_ble_eq_true rfl) ?_
        skip
        refine am_down (P := fun j => am_E none (am_R (d + 2)) cX11_gradient 11 (some .int) _ (88, [some (.ref 33), some (.int fr), some (.int to), some (.int vt), some (.int (nI n)), some (.int (nI k)), some (.int i), some (.int (grC fr to i (nI n) j)), some (.int (nI j))], [], rw34 (kpM M u 1) (grF (kpF (M.1 34) 1) fr to vt k))) 3 (fun j hj ihj => ?_)
        refine ae_iload (pc := 88) dX11_gradient_88 rfl ?_
        refine ae_iconst (pc := 90) (v := nI 3) dX11_gradient_90 (by decide) ?_
        refine ae_icmp_ge (pc := 91) (t := 128) dX11_gradient_91 (by decide) (fun c91 => ?_) (fun c91 => ?_)
        · have hj2 : j = 3 := by rw [nI_leI (by omega) (by omega)] at c91; omega
          subst hj2
          refine ae_aload_n (pc := 128) dX11_gradient_128 rfl ?_
          refine ae_getR (pc := 129) (k := 33) (c := 11) (j := 0) (q := 34) dX11_gradient_129 rfl rfl (Nat.le_of_ble_eq_true rfl) rfl (Nat.le_of_ble_eq_true rfl) rfl ?_
          refine ae_iconst (pc := 132) (v := nI 2) dX11_gradient_132 (by decide) ?_
          refine ae_iload (pc := 133) dX11_gradient_133 rfl ?_
          refine ae_iadd (pc := 135) dX11_gradient_135 (nI_add _ _) ?_
          refine ae_iload (pc := 136) dX11_gradient_136 rfl ?_
          refine ae_iastore (pc := 138) (k := 34) (N := 549) _ dX11_gradient_138 (Nat.le_of_ble_eq_true rfl) rfl rfl rfl (by omega) rfl ?_
          refine ae_iinc (pc := 139) (v := nI (k + 1)) dX11_gradient_139 rfl (nI_inc k) ?_
          refine ae_goto (pc := 142) (t := 46) dX11_gradient_142 (by decide) ?_
          refine ae_forget [6, 7, 8] rfl (ae_M ?_ (ih hk2))
          rw [rw34_upd, grF, hi, hn, e0, e1]
        · have hj2 : j < 3 := by rw [nI_leI (by omega) (by omega)] at c91; omega
          refine ae_sipush (pc := 94) (v := nI 256) dX11_gradient_94 (by decide) ?_
          refine ae_iload (pc := 97) dX11_gradient_97 rfl ?_
          refine ae_imul (pc := 99) dX11_gradient_99 rfl ?_
          refine ae_iload_n (pc := 100) dX11_gradient_100 rfl ?_
          refine ae_iload (pc := 101) dX11_gradient_101 rfl ?_
          refine ae_pcallS (pc := 103) (z := zX11_channel) (As := [_, _]) dX11_gradient_103 rfl rfl rfl rfl (Nat.le_of_ble_eq_true rfl) (sm_channel (d + 1) _ _ _) ?_
          refine ae_iload_n (pc := 106) dX11_gradient_106 rfl ?_
          refine ae_iload (pc := 107) dX11_gradient_107 rfl ?_
          refine ae_pcallS (pc := 109) (z := zX11_channel) (As := [_, _]) dX11_gradient_109 rfl rfl rfl rfl (Nat.le_of_ble_eq_true rfl) (sm_channel (d + 1) _ _ _) ?_
          refine ae_iload (pc := 112) dX11_gradient_112 rfl ?_
          refine ae_iload (pc := 114) dX11_gradient_114 rfl ?_
          refine ae_pcallS (pc := 116) (z := zX11_step) (As := [_, _, _, _]) dX11_gradient_116 rfl rfl rfl rfl (Nat.le_of_ble_eq_true rfl) (sm_step (d + 1) _ _ _ _ _ (hn9 n n1 n2)) ?_
          refine ae_iadd (pc := 119) dX11_gradient_119 rfl ?_
          refine ae_istore (pc := 120) (v := grC fr to i (nI n) (j + 1)) dX11_gradient_120 rfl (Nat.le_of_ble_eq_true rfl) ?_
          refine ae_iinc (pc := 122) (v := nI (j + 1)) dX11_gradient_122 rfl (nI_inc j) ?_
          refine ae_goto (pc := 125) (t := 88) dX11_gradient_125 (by decide) ?_
          exact ihj hj2
      refine ae_iload_n (pc := 55) dX11_gradient_55 rfl ?_
      refine ae_if_eq (pc := 56) (t := 71) dX11_gradient_56 (by decide) (fun c56 => ?_) (fun c56 => ?_)
      · refine ae_iload (pc := 71) dX11_gradient_71 rfl ?_
        refine ae_aload_n (pc := 73) dX11_gradient_73 rfl ?_
        refine ae_getR (pc := 74) (k := 33) (c := 11) (j := 0) (q := 34) dX11_gradient_74 rfl rfl (Nat.le_of_ble_eq_true rfl) rfl (Nat.le_of_ble_eq_true rfl) rfl ?_
        refine ae_iconst (pc := 77) (v := nI 0) dX11_gradient_77 (by decide) ?_
        refine ae_iaload (pc := 78) (k := 34) (N := 549) (v := nI (fW (M.1 34))) _ dX11_gradient_78 (Nat.le_of_ble_eq_true rfl) rfl rfl rfl (by omega) (by rw [rw34_34]; exact hgk.2.2.1) ?_
        refine ae_irem (pc := 79) (v := nI (k % fW (M.1 34))) dX11_gradient_79 (nI_ne0 (by omega) (by omega)) (nI_mod (by omega) (by omega)) ?_
        exact inner _ (by unfold grI; rw [e0]; first | rw [if_pos c56] | rw [if_neg c56])
      · refine ae_iload (pc := 59) dX11_gradient_59 rfl ?_
        refine ae_aload_n (pc := 61) dX11_gradient_61 rfl ?_
        refine ae_getR (pc := 62) (k := 33) (c := 11) (j := 0) (q := 34) dX11_gradient_62 rfl rfl (Nat.le_of_ble_eq_true rfl) rfl (Nat.le_of_ble_eq_true rfl) rfl ?_
        refine ae_iconst (pc := 65) (v := nI 0) dX11_gradient_65 (by decide) ?_
        refine ae_iaload (pc := 66) (k := 34) (N := 549) (v := nI (fW (M.1 34))) _ dX11_gradient_66 (Nat.le_of_ble_eq_true rfl) rfl rfl rfl (by omega) (by rw [rw34_34]; exact hgk.2.2.1) ?_
        refine ae_idiv (pc := 67) (v := nI (k / fW (M.1 34))) dX11_gradient_67 (nI_ne0 (by omega) (by omega)) (nI_div (by omega) (by omega)) ?_
        refine ae_goto (pc := 68) (t := 80) dX11_gradient_68 (by decide) ?_
        exact inner _ (by unfold grI; rw [e0]; first | rw [if_pos c56] | rw [if_neg c56])
  refine ae_iload_n (pc := 0) dX11_gradient_0 rfl ?_
  refine ae_pcallS (pc := 1) (z := zX11_isColor) (As := [_]) dX11_gradient_1 rfl rfl rfl rfl (Nat.le_of_ble_eq_true rfl) (sm_isColor d _ _) ?_
  refine ae_if_eq (pc := 4) (t := 14) dX11_gradient_4 (by decide) (fun q => absurd h1 (bI_eq0.mp q)) (fun _ => ?_)
  refine ae_iload_n (pc := 7) dX11_gradient_7 rfl ?_
  refine ae_pcallS (pc := 8) (z := zX11_isColor) (As := [_]) dX11_gradient_8 rfl rfl rfl rfl (Nat.le_of_ble_eq_true rfl) (sm_isColor d _ _) ?_
  refine ae_if_ne (pc := 11) (t := 17) dX11_gradient_11 (by decide) (fun _ => ?_) (fun q => absurd h2 (bI_eq0.mp (Classical.not_not.mp q)))
  refine ae_aload_n (pc := 17) dX11_gradient_17 rfl ?_
  refine ae_iconst (pc := 18) (v := nI 1) dX11_gradient_18 (by decide) ?_
  refine ae_callV (pc := 19) (z := zX11_keeps) (k := 33) (As := [_]) dX11_gradient_19 rfl rfl rfl rfl (Nat.le_of_ble_eq_true rfl) rfl (Nat.le_of_ble_eq_true rfl) (Nat.le_of_ble_eq_true rfl) (sm_keeps (d + 1) M u hu hu2 _) (fun v M' hq => ?_)
  obtain ⟨rfl, rfl⟩ := hq
  refine ae_M (M' := rw34 (kpM M u 1) (grF (kpF (M.1 34) 1) fr to vt 0)) (by rw [show grF (kpF (M.1 34) 1) fr to vt 0 = kpF (M.1 34) 1 from rfl, ← kp34 M u 1]; exact (rw34_eta _).symm) ?_
  refine ae_iload_n (pc := 22) dX11_gradient_22 rfl ?_
  refine ae_if_eq (pc := 23) (t := 35) dX11_gradient_23 (by decide) (fun c23 => ?_) (fun c23 => ?_)
  · refine ae_aload_n (pc := 35) dX11_gradient_35 rfl ?_
    refine ae_getR (pc := 36) (k := 33) (c := 11) (j := 0) (q := 34) dX11_gradient_36 rfl rfl (Nat.le_of_ble_eq_true rfl) rfl (Nat.le_of_ble_eq_true rfl) rfl ?_
    refine ae_iconst (pc := 39) (v := nI 0) dX11_gradient_39 (by decide) ?_
    refine ae_iaload (pc := 40) (k := 34) (N := 549) (v := nI (fW (M.1 34))) _ dX11_gradient_40 (Nat.le_of_ble_eq_true rfl) rfl rfl rfl (by omega) (by rw [rw34_34]; exact (hg 0 (by omega)).2.2.1) ?_
    refine ae_istore (pc := 41) dX11_gradient_41 rfl (Nat.le_of_ble_eq_true rfl) ?_
    first | exact go (fH (M.1 34)) b2 b3 (by rw [if_neg c23]) | exact go (fW (M.1 34)) a2 a3 (by rw [if_pos c23])
    skip
  · refine ae_aload_n (pc := 26) dX11_gradient_26 rfl ?_
    refine ae_getR (pc := 27) (k := 33) (c := 11) (j := 0) (q := 34) dX11_gradient_27 rfl rfl (Nat.le_of_ble_eq_true rfl) rfl (Nat.le_of_ble_eq_true rfl) rfl ?_
    refine ae_iconst (pc := 30) (v := nI 1) dX11_gradient_30 (by decide) ?_
    refine ae_iaload (pc := 31) (k := 34) (N := 549) (v := nI (fH (M.1 34))) _ dX11_gradient_31 (Nat.le_of_ble_eq_true rfl) rfl rfl rfl (by omega) (by rw [rw34_34]; exact (hg 0 (by omega)).2.2.2) ?_
    refine ae_goto (pc := 32) (t := 41) dX11_gradient_32 (by decide) ?_
    refine ae_istore (pc := 41) dX11_gradient_41 rfl (Nat.le_of_ble_eq_true rfl) ?_
    first | exact go (fH (M.1 34)) b2 b3 (by rw [if_neg c23]) | exact go (fW (M.1 34)) a2 a3 (by rw [if_pos c23])
    skip
theorem sm_noise0 (d : Nat) (M : am_M) (sd am : Int32) (hn : ¬ (¬ sd < 0 ∧ nI 1 ≤ am ∧ am ≤ nI 64)) : am_R (d + 3) zX11_noise [.ref 33, .int sd, .int am] M (fun v M' => v = some (.int (-2)) ∧ M' = M) := by
  refine ae_enter (z := zX11_noise) (y := yX11_noise) (cc := cX11_noise) (mL := 9) (rt := some .int) (ci := 11) (st := false) (np := 2) (L := [some (.ref 33), some (.int sd), some (.int am), none, none, none, none, none, none]) rfl (by decide) (Nat.le_of_ble_eq_true rfl) rfl ?_
  refine ae_iload_n (pc := 0) dX11_noise_0 rfl ?_
  refine ae_if_lt (pc := 1) (t := 14) dX11_noise_1 (by decide) (fun c1 => ?_) (fun c1 => ?_)
  · refine ae_bipush (pc := 14) (v := (-2)) dX11_noise_14 (by decide) ?_
    refine ae_ireturn (pc := 16) dX11_noise_16 rfl ?_
    exact ⟨rfl, rfl⟩
  · refine ae_iload_n (pc := 4) dX11_noise_4 rfl ?_
    refine ae_iconst (pc := 5) (v := nI 1) dX11_noise_5 (by decide) ?_
    refine ae_bipush (pc := 6) (v := nI 64) dX11_noise_6 (by decide) ?_
    refine ae_pcallS (pc := 8) (z := zX11_in) (As := [_, _, _]) dX11_noise_8 rfl rfl rfl rfl (Nat.le_of_ble_eq_true rfl) (sm_in (d + 1) _ _ _ _) ?_
    refine ae_if_ne (pc := 11) (t := 17) dX11_noise_11 (by decide) (fun c11 => ?_) (fun c11 => ?_)
    · exact (hn ⟨c1, bI_ne0.mp c11⟩).elim
    · refine ae_bipush (pc := 14) (v := (-2)) dX11_noise_14 (by decide) ?_
      refine ae_ireturn (pc := 16) dX11_noise_16 rfl ?_
      exact ⟨rfl, rfl⟩
theorem sm_noise (d : Nat) (M : am_M) (hf : wf0 (M.1 34)) (u : Nat) (hu : M.1 33 2 = nI u) (hu2 : u ≤ 10) (sd : Int32) (am : Nat) (h1 : ¬ sd < 0) (h2 : 1 ≤ am ∧ am ≤ 64) : am_R (d + 3) zX11_noise [.ref 33, .int sd, .int (nI am)] M (fun v M' => v = some (.int (nI (opq (nzA (kpF (M.1 34) 1) (nI am) sd.toInt64 (fA (M.1 34))).2 (fA (M.1 34))))) ∧ M' = rw34 (kpM M u 1) (nzA (kpF (M.1 34) 1) (nI am) sd.toInt64 (fA (M.1 34))).2) := by
  refine ae_enter (z := zX11_noise) (y := yX11_noise) (cc := cX11_noise) (mL := 9) (rt := some .int) (ci := 11) (st := false) (np := 2) (L := [some (.ref 33), some (.int sd), some (.int (nI am)), none, none, none, none, none, none]) rfl (by decide) (Nat.le_of_ble_eq_true rfl) rfl ?_
  have hA := fA_le hf
  have hg : ∀ k, k ≤ 256 → wf0 (nzA (kpF (M.1 34) 1) (nI am) sd.toInt64 k).2 ∧ fA (nzA (kpF (M.1 34) 1) (nI am) sd.toInt64 k).2 = fA (M.1 34) := by
    intro k hk
    obtain ⟨q1, q2, q3, -⟩ := wf0_of hf ((nzA_out (kpF (M.1 34) 1) (nI am) sd.toInt64 k 0 (Or.inl (by decide))).trans (kpF_ne _ _ (by decide))) ((nzA_out (kpF (M.1 34) 1) (nI am) sd.toInt64 k 1 (Or.inl (by decide))).trans (kpF_ne _ _ (by decide))) ((nzA_out (kpF (M.1 34) 1) (nI am) sd.toInt64 k 258 (Or.inr (by omega))).trans (kpF_ne _ _ (by decide)))
    exact ⟨q1, by unfold fA; rw [q2, q3]⟩
  refine ae_iload_n (pc := 0) dX11_noise_0 rfl ?_
  refine ae_if_lt (pc := 1) (t := 14) dX11_noise_1 (by decide) (fun q => absurd q h1) (fun _ => ?_)
  refine ae_iload_n (pc := 4) dX11_noise_4 rfl ?_
  refine ae_iconst (pc := 5) (v := nI 1) dX11_noise_5 (by decide) ?_
  refine ae_bipush (pc := 6) (v := nI 64) dX11_noise_6 (by decide) ?_
  refine ae_pcallS (pc := 8) (z := zX11_in) (As := [_, _, _]) dX11_noise_8 rfl rfl rfl rfl (Nat.le_of_ble_eq_true rfl) (sm_in (d + 1) _ _ _ _) ?_
  refine ae_if_ne (pc := 11) (t := 17) dX11_noise_11 (by decide) (fun _ => ?_) (fun q => absurd (rngI h2.1 h2.2 (by decide)) (bI_eq0.mp (Classical.not_not.mp q)))
  refine ae_aload_n (pc := 17) dX11_noise_17 rfl ?_
  refine ae_iconst (pc := 18) (v := nI 1) dX11_noise_18 (by decide) ?_
  refine ae_callV (pc := 19) (z := zX11_keeps) (k := 33) (As := [_]) dX11_noise_19 rfl rfl rfl rfl (Nat.le_of_ble_eq_true rfl) rfl (Nat.le_of_ble_eq_true rfl) (Nat.le_of_ble_eq_true rfl) (sm_keeps (d + 1) M u hu hu2 _) (fun v M' hq => ?_)
  obtain ⟨rfl, rfl⟩ := hq
  refine ae_M (M' := rw34 (kpM M u 1) (nzA (kpF (M.1 34) 1) (nI am) sd.toInt64 0).2) (by rw [show (nzA (kpF (M.1 34) 1) (nI am) sd.toInt64 0).2 = kpF (M.1 34) 1 from rfl, ← kp34 M u 1]; exact (rw34_eta _).symm) ?_
  refine ae_iload_n (pc := 22) dX11_noise_22 rfl ?_
  refine ae_i2l (pc := 23) dX11_noise_23 rfl ?_
  refine ae_lstore_n (pc := 24) dX11_noise_24 rfl (Nat.le_of_ble_eq_true rfl) ?_
  refine ae_iconst (pc := 25) (v := nI 0) dX11_noise_25 (by decide) ?_
  refine ae_istore (pc := 26) dX11_noise_26 rfl (Nat.le_of_ble_eq_true rfl) ?_
  skip
  refine am_down (P := fun k => am_E none (am_R (d + 2)) cX11_noise 11 (some .int) _ (28, [some (.ref 33), some (.int sd), some (.int (nI am)), some (.long (nzA (kpF (M.1 34) 1) (nI am) sd.toInt64 k).1), none, some (.int (nI k)), none, none, none], [], rw34 (kpM M u 1) (nzA (kpF (M.1 34) 1) (nI am) sd.toInt64 k).2)) (fA (M.1 34)) (fun k hk ih => ?_)
  have hgk := hg k (by omega)
  have hpx := sm_pixels (d + 1) (rw34 (kpM M u 1) (nzA (kpF (M.1 34) 1) (nI am) sd.toInt64 k).2) (by rw [rw34_34]; exact hgk.1)
  rw [rw34_34, hgk.2] at hpx
  refine ae_iload (pc := 28) dX11_noise_28 rfl ?_
  refine ae_aload_n (pc := 30) dX11_noise_30 rfl ?_
  refine ae_pcallV (pc := 31) (z := zX11_pixels) (k := 33) (As := []) dX11_noise_31 rfl rfl rfl rfl (Nat.le_of_ble_eq_true rfl) rfl (Nat.le_of_ble_eq_true rfl) (Nat.le_of_ble_eq_true rfl) (hpx) ?_
  refine ae_icmp_ge (pc := 34) (t := 156) dX11_noise_34 (by decide) (fun c34 => ?_) (fun c34 => ?_)
  · have hk2 : k = fA (M.1 34) := by rw [nI_leI (by omega) (by omega)] at c34; omega
    subst hk2
    have hop := sm_opaque d (rw34 (kpM M u 1) (nzA (kpF (M.1 34) 1) (nI am) sd.toInt64 (fA (M.1 34))).2) (by rw [rw34_34]; exact hgk.1)
    rw [rw34_34, hgk.2] at hop
    refine ae_aload_n (pc := 156) dX11_noise_156 rfl ?_
    refine ae_pcallV (pc := 157) (z := zX11_opaque) (k := 33) (As := []) dX11_noise_157 rfl rfl rfl rfl (Nat.le_of_ble_eq_true rfl) rfl (Nat.le_of_ble_eq_true rfl) (Nat.le_of_ble_eq_true rfl) (hop) ?_
    refine ae_ireturn (pc := 160) dX11_noise_160 rfl ?_
    exact ⟨rfl, rfl⟩
  · have hk2 : k < fA (M.1 34) := by rw [nI_leI (by omega) (by omega)] at c34; omega
    have hio := sm_isOpaque (d + 1) (rw34 (kpM M u 1) (nzA (kpF (M.1 34) 1) (nI am) sd.toInt64 k).2) k (by omega)
    have e2 : (nzA (kpF (M.1 34) 1) (nI am) sd.toInt64 k).2 (2 + k) = kpF (M.1 34) 1 (2 + k) := nzA_out _ _ _ _ _ (Or.inr (by omega))
    rw [rw34_34, e2] at hio
    by_cases ho : kpF (M.1 34) 1 (2 + k) = -1
    · rw [bI_f (by simpa using ho)] at hio
      refine ae_iconst (pc := 37) (v := nI 0) dX11_noise_37 (by decide) ?_
      refine ae_istore (pc := 38) dX11_noise_38 rfl (Nat.le_of_ble_eq_true rfl) ?_
      refine ae_iconst (pc := 40) (v := nI 0) dX11_noise_40 (by decide) ?_
      refine ae_istore (pc := 41) dX11_noise_41 rfl (Nat.le_of_ble_eq_true rfl) ?_
      skip
      refine ae_iload (pc := 43) dX11_noise_43 rfl ?_
      refine ae_iconst (pc := 45) (v := nI 3) dX11_noise_45 (by decide) ?_
      refine ae_icmp_ge (pc := 46) (t := 126) dX11_noise_46 (by decide) (fun c46 => ?_) (fun c46 => ?_)
      · exact absurd c46 (by decide)
      refine ae_aload_n (pc := 49) dX11_noise_49 rfl ?_
      refine ae_iload (pc := 50) dX11_noise_50 rfl ?_
      refine ae_pcallV (pc := 52) (z := zX11_isOpaque) (k := 33) (As := [_]) dX11_noise_52 rfl rfl rfl rfl (Nat.le_of_ble_eq_true rfl) rfl (Nat.le_of_ble_eq_true rfl) (Nat.le_of_ble_eq_true rfl) (hio) ?_
      refine ae_if_eq (pc := 55) (t := 126) dX11_noise_55 (by decide) (fun c55 => ?_) (fun c55 => ?_)
      rotate_left
      · exact absurd rfl c55
      refine ae_aload_n (pc := 126) dX11_noise_126 rfl ?_
      refine ae_getR (pc := 127) (k := 33) (c := 11) (j := 0) (q := 34) dX11_noise_127 rfl rfl (Nat.le_of_ble_eq_true rfl) rfl (Nat.le_of_ble_eq_true rfl) rfl ?_
      refine ae_iconst (pc := 130) (v := nI 2) dX11_noise_130 (by decide) ?_
      refine ae_iload (pc := 131) dX11_noise_131 rfl ?_
      refine ae_iadd (pc := 133) dX11_noise_133 (nI_add _ _) ?_
      refine ae_aload_n (pc := 134) dX11_noise_134 rfl ?_
      refine ae_iload (pc := 135) dX11_noise_135 rfl ?_
      refine ae_pcallV (pc := 137) (z := zX11_isOpaque) (k := 33) (As := [_]) dX11_noise_137 rfl rfl rfl rfl (Nat.le_of_ble_eq_true rfl) rfl (Nat.le_of_ble_eq_true rfl) (Nat.le_of_ble_eq_true rfl) (hio) ?_
      refine ae_if_eq (pc := 140) (t := 148) dX11_noise_140 (by decide) (fun c140 => ?_) (fun c140 => ?_)
      rotate_left
      · exact absurd rfl c140
      refine ae_iconst (pc := 148) (v := (-1)) dX11_noise_148 (by decide) ?_
      refine ae_iastore (pc := 149) (k := 34) (N := 549) _ dX11_noise_149 (Nat.le_of_ble_eq_true rfl) rfl rfl rfl (by omega) rfl ?_
      refine ae_iinc (pc := 150) (v := nI (k + 1)) dX11_noise_150 rfl (nI_inc k) ?_
      refine ae_goto (pc := 153) (t := 28) dX11_noise_153 (by decide) ?_
      refine ae_forget [6, 7] rfl ?_
      have ih2 := ih hk2
      rw [show nzA (kpF (M.1 34) 1) (nI am) sd.toInt64 (k + 1) = ((nzA (kpF (M.1 34) 1) (nI am) sd.toInt64 k).1, upd (nzA (kpF (M.1 34) 1) (nI am) sd.toInt64 k).2 (2 + k) (-1)) by rw [nzA, if_pos ho]] at ih2
      exact ae_M (rw34_upd _ _ _ _) ih2
    · rw [bI_t (by simpa using ho)] at hio
      refine ae_iconst (pc := 37) (v := nI 0) dX11_noise_37 (by decide) ?_
      refine ae_istore (pc := 38) dX11_noise_38 rfl (Nat.le_of_ble_eq_true rfl) ?_
      refine ae_iconst (pc := 40) (v := nI 0) dX11_noise_40 (by decide) ?_
      refine ae_istore (pc := 41) dX11_noise_41 rfl (Nat.le_of_ble_eq_true rfl) ?_
      skip
      refine am_down (P := fun j => am_E none (am_R (d + 2)) cX11_noise 11 (some .int) _ (43, [some (.ref 33), some (.int sd), some (.int (nI am)), some (.long (nzK (kpF (M.1 34) 1 (2 + k)) (nI am) (nzA (kpF (M.1 34) 1) (nI am) sd.toInt64 k).1 j).1), none, some (.int (nI k)), some (.int (nzK (kpF (M.1 34) 1 (2 + k)) (nI am) (nzA (kpF (M.1 34) 1) (nI am) sd.toInt64 k).1 j).2), some (.int (nI j)), none], [], rw34 (kpM M u 1) (nzA (kpF (M.1 34) 1) (nI am) sd.toInt64 k).2)) 3 (fun j hj ihj => ?_)
      refine ae_iload (pc := 43) dX11_noise_43 rfl ?_
      refine ae_iconst (pc := 45) (v := nI 3) dX11_noise_45 (by decide) ?_
      refine ae_icmp_ge (pc := 46) (t := 126) dX11_noise_46 (by decide) (fun c46 => ?_) (fun c46 => ?_)
      · have hj2 : j = 3 := by rw [nI_leI (by omega) (by omega)] at c46; omega
        subst hj2
        refine ae_aload_n (pc := 126) dX11_noise_126 rfl ?_
        refine ae_getR (pc := 127) (k := 33) (c := 11) (j := 0) (q := 34) dX11_noise_127 rfl rfl (Nat.le_of_ble_eq_true rfl) rfl (Nat.le_of_ble_eq_true rfl) rfl ?_
        refine ae_iconst (pc := 130) (v := nI 2) dX11_noise_130 (by decide) ?_
        refine ae_iload (pc := 131) dX11_noise_131 rfl ?_
        refine ae_iadd (pc := 133) dX11_noise_133 (nI_add _ _) ?_
        refine ae_aload_n (pc := 134) dX11_noise_134 rfl ?_
        refine ae_iload (pc := 135) dX11_noise_135 rfl ?_
        refine ae_pcallV (pc := 137) (z := zX11_isOpaque) (k := 33) (As := [_]) dX11_noise_137 rfl rfl rfl rfl (Nat.le_of_ble_eq_true rfl) rfl (Nat.le_of_ble_eq_true rfl) (Nat.le_of_ble_eq_true rfl) (hio) ?_
        refine ae_if_eq (pc := 140) (t := 148) dX11_noise_140 (by decide) (fun c140 => ?_) (fun c140 => ?_)
        · exact absurd c140 (by decide)
        refine ae_iload (pc := 143) dX11_noise_143 rfl ?_
        refine ae_goto (pc := 145) (t := 149) dX11_noise_145 (by decide) ?_
        refine ae_iastore (pc := 149) (k := 34) (N := 549) _ dX11_noise_149 (Nat.le_of_ble_eq_true rfl) rfl rfl rfl (by omega) rfl ?_
        refine ae_iinc (pc := 150) (v := nI (k + 1)) dX11_noise_150 rfl (nI_inc k) ?_
        refine ae_goto (pc := 153) (t := 28) dX11_noise_153 (by decide) ?_
        refine ae_forget [6, 7] rfl ?_
        have ih2 := ih hk2
        rw [show nzA (kpF (M.1 34) 1) (nI am) sd.toInt64 (k + 1) = ((nzK (kpF (M.1 34) 1 (2 + k)) (nI am) (nzA (kpF (M.1 34) 1) (nI am) sd.toInt64 k).1 3).1, upd (nzA (kpF (M.1 34) 1) (nI am) sd.toInt64 k).2 (2 + k) (nzK (kpF (M.1 34) 1 (2 + k)) (nI am) (nzA (kpF (M.1 34) 1) (nI am) sd.toInt64 k).1 3).2) by rw [nzA, if_neg ho]] at ih2
        exact ae_M (rw34_upd _ _ _ _) ih2
      · have hj2 : j < 3 := by rw [nI_leI (by omega) (by omega)] at c46; omega
        refine ae_aload_n (pc := 49) dX11_noise_49 rfl ?_
        refine ae_iload (pc := 50) dX11_noise_50 rfl ?_
        refine ae_pcallV (pc := 52) (z := zX11_isOpaque) (k := 33) (As := [_]) dX11_noise_52 rfl rfl rfl rfl (Nat.le_of_ble_eq_true rfl) rfl (Nat.le_of_ble_eq_true rfl) (Nat.le_of_ble_eq_true rfl) (hio) ?_
        refine ae_if_eq (pc := 55) (t := 126) dX11_noise_55 (by decide) (fun c55 => ?_) (fun c55 => ?_)
        · exact absurd c55 (by decide)
        refine ae_ldc2_w (pc := 58) dX11_noise_58 rfl ?_
        refine ae_lload_n (pc := 61) dX11_noise_61 rfl ?_
        refine ae_lmul (pc := 62) dX11_noise_62 rfl ?_
        refine ae_ldc2_w (pc := 63) dX11_noise_63 rfl ?_
        refine ae_ladd (pc := 66) dX11_noise_66 rfl ?_
        refine ae_ldc2_w (pc := 67) dX11_noise_67 rfl ?_
        refine ae_lrem (pc := 70) (v := nzN (nzK (kpF (M.1 34) 1 (2 + k)) (nI am) (nzA (kpF (M.1 34) 1) (nI am) sd.toInt64 k).1 j).1) dX11_noise_70 (by decide) rfl ?_
        refine ae_lstore_n (pc := 71) dX11_noise_71 rfl (Nat.le_of_ble_eq_true rfl) ?_
        refine ae_lload_n (pc := 72) dX11_noise_72 rfl ?_
        refine ae_ldc2_w (pc := 73) dX11_noise_73 rfl ?_
        refine ae_ldiv (pc := 76) dX11_noise_76 (by decide) rfl ?_
        refine ae_ldc2_w (pc := 77) dX11_noise_77 rfl ?_
        refine ae_iload_n (pc := 80) dX11_noise_80 rfl ?_
        refine ae_i2l (pc := 81) dX11_noise_81 rfl ?_
        refine ae_lmul (pc := 82) dX11_noise_82 rfl ?_
        refine ae_lconst (pc := 83) (v := 1) dX11_noise_83 (by decide) ?_
        refine ae_ladd (pc := 84) dX11_noise_84 rfl ?_
        refine ae_lrem (pc := 85) dX11_noise_85 (nzS_ne (by omega)) rfl ?_
        refine ae_l2i (pc := 86) dX11_noise_86 rfl ?_
        refine ae_iload_n (pc := 87) dX11_noise_87 rfl ?_
        refine ae_isub (pc := 88) dX11_noise_88 rfl ?_
        refine ae_istore (pc := 89) dX11_noise_89 rfl (Nat.le_of_ble_eq_true rfl) ?_
        refine ae_sipush (pc := 91) (v := nI 256) dX11_noise_91 (by decide) ?_
        refine ae_iload (pc := 94) dX11_noise_94 rfl ?_
        refine ae_imul (pc := 96) dX11_noise_96 rfl ?_
        refine ae_aload_n (pc := 97) dX11_noise_97 rfl ?_
        refine ae_getR (pc := 98) (k := 33) (c := 11) (j := 0) (q := 34) dX11_noise_98 rfl rfl (Nat.le_of_ble_eq_true rfl) rfl (Nat.le_of_ble_eq_true rfl) rfl ?_
        refine ae_iconst (pc := 101) (v := nI 2) dX11_noise_101 (by decide) ?_
        refine ae_iload (pc := 102) dX11_noise_102 rfl ?_
        refine ae_iadd (pc := 104) dX11_noise_104 (nI_add _ _) ?_
        refine ae_iaload (pc := 105) (k := 34) (N := 549) (v := kpF (M.1 34) 1 (2 + k)) (_) dX11_noise_105 (Nat.le_of_ble_eq_true rfl) rfl rfl rfl (by omega) (by rw [rw34_34]; exact e2) ?_
        refine ae_iload (pc := 106) dX11_noise_106 rfl ?_
        refine ae_pcallS (pc := 108) (z := zX11_channel) (As := [_, _]) dX11_noise_108 rfl rfl rfl rfl (Nat.le_of_ble_eq_true rfl) (sm_channel (d + 1) _ _ _) ?_
        refine ae_iload (pc := 111) dX11_noise_111 rfl ?_
        refine ae_iadd (pc := 113) dX11_noise_113 rfl ?_
        refine ae_pcallS (pc := 114) (z := zX11_limited) (As := [_]) dX11_noise_114 rfl rfl rfl rfl (Nat.le_of_ble_eq_true rfl) (sm_limited (d + 1) _ _) ?_
        refine ae_iadd (pc := 117) dX11_noise_117 rfl ?_
        refine ae_istore (pc := 118) (v := (nzK (kpF (M.1 34) 1 (2 + k)) (nI am) (nzA (kpF (M.1 34) 1) (nI am) sd.toInt64 k).1 (j + 1)).2) dX11_noise_118 rfl (Nat.le_of_ble_eq_true rfl) ?_
        refine ae_iinc (pc := 120) (v := nI (j + 1)) dX11_noise_120 rfl (nI_inc j) ?_
        refine ae_goto (pc := 123) (t := 43) dX11_noise_123 (by decide) ?_
        exact ae_forget [8] rfl (ihj hj2)

