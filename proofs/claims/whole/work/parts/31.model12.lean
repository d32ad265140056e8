theorem sm_rearranges (d : Nat) (M : am_M) (hf : wf0 (M.1 34)) (og : Nat → Nat) (hog : ∀ e, e < fN (M.1 34) → M.1 39 e = nI (og e) ∧ og e < fN (M.1 34)) : am_R (d + 2) zX11_rearranges [.ref 33] M (fun v M' => v = some (.int (nI (mvd og (fN (M.1 34))))) ∧ M' = raM M (stF (M.1 40) 0 (fN (M.1 34)) (fun e => M.1 34 (259 + e))) (stF (M.1 41) 0 (fN (M.1 34)) (fun e => M.1 34 (275 + e))) (raF (M.1 34) og)) := by
  refine ae_enter (z := zX11_rearranges) (y := yX11_rearranges) (cc := cX11_rearranges) (mL := 5) (rt := some .int) (ci := 11) (st := false) (np := 0) (L := [some (.ref 33), none, none, none, none]) rfl (by decide) (Nat.le_of_ble_eq_true rfl) rfl ?_
  obtain ⟨-, -, hn1, hn2⟩ := id hf
  have hA := fA_le hf
  refine ae_M (raM_eta M).symm ?_
  refine ae_iconst (pc := 0) (v := nI 0) dX11_rearranges_0 (by decide) ?_
  refine ae_istore_n (pc := 1) dX11_rearranges_1 rfl (Nat.le_of_ble_eq_true rfl) ?_
  refine ae_iconst (pc := 2) (v := nI 0) dX11_rearranges_2 (by decide) ?_
  refine ae_istore_n (pc := 3) dX11_rearranges_3 rfl (Nat.le_of_ble_eq_true rfl) ?_
  skip
  refine ae_M (M' := raM M (stF (M.1 40) 0 0 (fun e => M.1 34 (259 + e))) (stF (M.1 41) 0 0 (fun e => M.1 34 (275 + e))) (M.1 34)) (by rw [st_0, st_0]) ?_
  refine am_down (P := fun k => am_E none (am_R (d + 1)) cX11_rearranges 11 (some .int) _ (4, [some (.ref 33), some (.int (nI 0)), some (.int (nI k)), none, none], [], raM M (stF (M.1 40) 0 k (fun e => M.1 34 (259 + e))) (stF (M.1 41) 0 k (fun e => M.1 34 (275 + e))) (M.1 34))) (fN (M.1 34)) (fun k hk ih => ?_)
  refine ae_iload_n (pc := 4) dX11_rearranges_4 rfl ?_
  refine ae_aload_n (pc := 5) dX11_rearranges_5 rfl ?_
  refine ae_getR (pc := 6) (k := 33) (c := 11) (j := 0) (q := 34) dX11_rearranges_6 rfl rfl (Nat.le_of_ble_eq_true rfl) rfl (Nat.le_of_ble_eq_true rfl) rfl ?_
  refine ae_sipush (pc := 9) (v := nI 258) dX11_rearranges_9 (by decide) ?_
  refine ae_iaload (pc := 12) (k := 34) (N := 549) (v := nI (fN (M.1 34))) _ dX11_rearranges_12 (Nat.le_of_ble_eq_true rfl) rfl rfl rfl (by omega) (by rw [raM_34]; exact hn1) ?_
  refine ae_icmp_ge (pc := 13) (t := 54) dX11_rearranges_13 (by decide) (fun c13 => ?_) (fun c13 => ?_)
  rotate_left
  · have hk2 : k < fN (M.1 34) := by rw [nI_leI (by omega) (by omega)] at c13; omega
    refine ae_aload_n (pc := 16) dX11_rearranges_16 rfl ?_
    refine ae_getR (pc := 17) (k := 33) (c := 11) (j := 9) (q := 40) dX11_rearranges_17 rfl rfl (Nat.le_of_ble_eq_true rfl) rfl (Nat.le_of_ble_eq_true rfl) rfl ?_
    refine ae_iload_n (pc := 20) dX11_rearranges_20 rfl ?_
    refine ae_aload_n (pc := 21) dX11_rearranges_21 rfl ?_
    refine ae_getR (pc := 22) (k := 33) (c := 11) (j := 0) (q := 34) dX11_rearranges_22 rfl rfl (Nat.le_of_ble_eq_true rfl) rfl (Nat.le_of_ble_eq_true rfl) rfl ?_
    refine ae_sipush (pc := 25) (v := nI 259) dX11_rearranges_25 (by decide) ?_
    refine ae_iload_n (pc := 28) dX11_rearranges_28 rfl ?_
    refine ae_iadd (pc := 29) dX11_rearranges_29 (nI_add _ _) ?_
    refine ae_iaload (pc := 30) (k := 34) (N := 549) (v := M.1 34 (259 + k)) _ dX11_rearranges_30 (Nat.le_of_ble_eq_true rfl) rfl rfl rfl (by omega) (by rw [raM_34]) ?_
    refine ae_iastore (pc := 31) (k := 40) (N := 16) _ dX11_rearranges_31 (Nat.le_of_ble_eq_true rfl) rfl rfl rfl (by omega) rfl ?_
    refine ae_M (raM_u40 _ _ _ _ _) ?_
    rw [raM_40]
    refine ae_aload_n (pc := 32) dX11_rearranges_32 rfl ?_
    refine ae_getR (pc := 33) (k := 33) (c := 11) (j := 10) (q := 41) dX11_rearranges_33 rfl rfl (Nat.le_of_ble_eq_true rfl) rfl (Nat.le_of_ble_eq_true rfl) rfl ?_
    refine ae_iload_n (pc := 36) dX11_rearranges_36 rfl ?_
    refine ae_aload_n (pc := 37) dX11_rearranges_37 rfl ?_
    refine ae_getR (pc := 38) (k := 33) (c := 11) (j := 0) (q := 34) dX11_rearranges_38 rfl rfl (Nat.le_of_ble_eq_true rfl) rfl (Nat.le_of_ble_eq_true rfl) rfl ?_
    refine ae_sipush (pc := 41) (v := nI 275) dX11_rearranges_41 (by decide) ?_
    refine ae_iload_n (pc := 44) dX11_rearranges_44 rfl ?_
    refine ae_iadd (pc := 45) dX11_rearranges_45 (nI_add _ _) ?_
    refine ae_iaload (pc := 46) (k := 34) (N := 549) (v := M.1 34 (275 + k)) _ dX11_rearranges_46 (Nat.le_of_ble_eq_true rfl) rfl rfl rfl (by omega) (by rw [raM_34]) ?_
    refine ae_iastore (pc := 47) (k := 41) (N := 16) _ dX11_rearranges_47 (Nat.le_of_ble_eq_true rfl) rfl rfl rfl (by omega) rfl ?_
    refine ae_M (raM_u41 _ _ _ _ _) ?_
    rw [raM_41]
    refine ae_iinc (pc := 48) (v := nI (k + 1)) dX11_rearranges_48 rfl (nI_inc k) ?_
    refine ae_goto (pc := 51) (t := 4) dX11_rearranges_51 (by decide) ?_
    refine ae_M ?_ (ih hk2)
    rw [← st_s, ← st_s, Nat.zero_add]
  have hk2 : k = fN (M.1 34) := by rw [nI_leI (by omega) (by omega)] at c13; omega
  subst hk2
  clear ih
  generalize hAe : stF (M.1 40) 0 (fN (M.1 34)) (fun e => M.1 34 (259 + e)) = A
  generalize hBe : stF (M.1 41) 0 (fN (M.1 34)) (fun e => M.1 34 (275 + e)) = B
  have gA : ∀ e, e < fN (M.1 34) → A e = M.1 34 (259 + e) := fun e he => by rw [← hAe]; have := st_in (M.1 40) (a := 0) (k := fN (M.1 34)) (p := e) (fun e => M.1 34 (259 + e)) he; rwa [Nat.zero_add] at this
  have gB : ∀ e, e < fN (M.1 34) → B e = M.1 34 (275 + e) := fun e he => by rw [← hBe]; have := st_in (M.1 41) (a := 0) (k := fN (M.1 34)) (p := e) (fun e => M.1 34 (275 + e)) he; rwa [Nat.zero_add] at this
  have g39 : ∀ F, (raM M A B F).1 39 = M.1 39 := fun F => raM_ne M A B F (by decide)
  refine ae_iconst (pc := 54) (v := nI 0) dX11_rearranges_54 (by decide) ?_
  refine ae_istore_n (pc := 55) dX11_rearranges_55 rfl (Nat.le_of_ble_eq_true rfl) ?_
  skip
  refine ae_M (M' := raM M A B (raC (M.1 34) og 0)) (by rw [ra_0]) ?_
  refine am_down (P := fun k => am_E none (am_R (d + 1)) cX11_rearranges 11 (some .int) _ (56, [some (.ref 33), some (.int (nI (mvd og k))), some (.int (nI k)), none, none], [], raM M A B (raC (M.1 34) og k))) (fN (M.1 34)) (fun k hk ih => ?_)
  refine ae_iload_n (pc := 56) dX11_rearranges_56 rfl ?_
  refine ae_aload_n (pc := 57) dX11_rearranges_57 rfl ?_
  refine ae_getR (pc := 58) (k := 33) (c := 11) (j := 0) (q := 34) dX11_rearranges_58 rfl rfl (Nat.le_of_ble_eq_true rfl) rfl (Nat.le_of_ble_eq_true rfl) rfl ?_
  refine ae_sipush (pc := 61) (v := nI 258) dX11_rearranges_61 (by decide) ?_
  refine ae_iaload (pc := 64) (k := 34) (N := 549) (v := nI (fN (M.1 34))) _ dX11_rearranges_64 (Nat.le_of_ble_eq_true rfl) rfl rfl rfl (by omega) (by rw [raM_34, raC_n _ _ (by omega) (by omega)]; exact hn1) ?_
  refine ae_icmp_ge (pc := 65) (t := 134) dX11_rearranges_65 (by decide) (fun c65 => ?_) (fun c65 => ?_)
  rotate_left
  · have hk2 : k < fN (M.1 34) := by rw [nI_leI (by omega) (by omega)] at c65; omega
    obtain ⟨o1, o2⟩ := hog k hk2
    refine ae_aload_n (pc := 68) dX11_rearranges_68 rfl ?_
    refine ae_getR (pc := 69) (k := 33) (c := 11) (j := 0) (q := 34) dX11_rearranges_69 rfl rfl (Nat.le_of_ble_eq_true rfl) rfl (Nat.le_of_ble_eq_true rfl) rfl ?_
    refine ae_sipush (pc := 72) (v := nI 259) dX11_rearranges_72 (by decide) ?_
    refine ae_iload_n (pc := 75) dX11_rearranges_75 rfl ?_
    refine ae_iadd (pc := 76) dX11_rearranges_76 (nI_add _ _) ?_
    refine ae_aload_n (pc := 77) dX11_rearranges_77 rfl ?_
    refine ae_getR (pc := 78) (k := 33) (c := 11) (j := 9) (q := 40) dX11_rearranges_78 rfl rfl (Nat.le_of_ble_eq_true rfl) rfl (Nat.le_of_ble_eq_true rfl) rfl ?_
    refine ae_aload_n (pc := 81) dX11_rearranges_81 rfl ?_
    refine ae_getR (pc := 82) (k := 33) (c := 11) (j := 8) (q := 39) dX11_rearranges_82 rfl rfl (Nat.le_of_ble_eq_true rfl) rfl (Nat.le_of_ble_eq_true rfl) rfl ?_
    refine ae_iload_n (pc := 85) dX11_rearranges_85 rfl ?_
    refine ae_iaload (pc := 86) (k := 39) (N := 16) (v := nI (og k)) _ dX11_rearranges_86 (Nat.le_of_ble_eq_true rfl) rfl rfl rfl (by omega) (by rw [g39]; exact o1) ?_
    refine ae_iaload (pc := 87) (k := 40) (N := 16) (v := M.1 34 (259 + og k)) _ dX11_rearranges_87 (Nat.le_of_ble_eq_true rfl) rfl rfl rfl (by omega) (by rw [raM_40]; exact gA _ o2) ?_
    refine ae_iastore (pc := 88) (k := 34) (N := 549) _ dX11_rearranges_88 (Nat.le_of_ble_eq_true rfl) rfl rfl rfl (by omega) rfl ?_
    refine ae_M (raM_u34 _ _ _ _ _) ?_
    rw [raM_34]
    refine ae_aload_n (pc := 89) dX11_rearranges_89 rfl ?_
    refine ae_getR (pc := 90) (k := 33) (c := 11) (j := 0) (q := 34) dX11_rearranges_90 rfl rfl (Nat.le_of_ble_eq_true rfl) rfl (Nat.le_of_ble_eq_true rfl) rfl ?_
    refine ae_sipush (pc := 93) (v := nI 275) dX11_rearranges_93 (by decide) ?_
    refine ae_iload_n (pc := 96) dX11_rearranges_96 rfl ?_
    refine ae_iadd (pc := 97) dX11_rearranges_97 (nI_add _ _) ?_
    refine ae_aload_n (pc := 98) dX11_rearranges_98 rfl ?_
    refine ae_getR (pc := 99) (k := 33) (c := 11) (j := 10) (q := 41) dX11_rearranges_99 rfl rfl (Nat.le_of_ble_eq_true rfl) rfl (Nat.le_of_ble_eq_true rfl) rfl ?_
    refine ae_aload_n (pc := 102) dX11_rearranges_102 rfl ?_
    refine ae_getR (pc := 103) (k := 33) (c := 11) (j := 8) (q := 39) dX11_rearranges_103 rfl rfl (Nat.le_of_ble_eq_true rfl) rfl (Nat.le_of_ble_eq_true rfl) rfl ?_
    refine ae_iload_n (pc := 106) dX11_rearranges_106 rfl ?_
    refine ae_iaload (pc := 107) (k := 39) (N := 16) (v := nI (og k)) _ dX11_rearranges_107 (Nat.le_of_ble_eq_true rfl) rfl rfl rfl (by omega) (by rw [g39]; exact o1) ?_
    refine ae_iaload (pc := 108) (k := 41) (N := 16) (v := M.1 34 (275 + og k)) _ dX11_rearranges_108 (Nat.le_of_ble_eq_true rfl) rfl rfl rfl (by omega) (by rw [raM_41]; exact gB _ o2) ?_
    refine ae_iastore (pc := 109) (k := 34) (N := 549) _ dX11_rearranges_109 (Nat.le_of_ble_eq_true rfl) rfl rfl rfl (by omega) rfl ?_
    refine ae_M (raM_u34 _ _ _ _ _) ?_
    rw [raM_34]
    refine ae_iload_n (pc := 110) dX11_rearranges_110 rfl ?_
    refine ae_aload_n (pc := 111) dX11_rearranges_111 rfl ?_
    refine ae_getR (pc := 112) (k := 33) (c := 11) (j := 8) (q := 39) dX11_rearranges_112 rfl rfl (Nat.le_of_ble_eq_true rfl) rfl (Nat.le_of_ble_eq_true rfl) rfl ?_
    refine ae_iload_n (pc := 115) dX11_rearranges_115 rfl ?_
    refine ae_iaload (pc := 116) (k := 39) (N := 16) (v := nI (og k)) _ dX11_rearranges_116 (Nat.le_of_ble_eq_true rfl) rfl rfl rfl (by omega) (by rw [g39]; exact o1) ?_
    refine ae_iload_n (pc := 117) dX11_rearranges_117 rfl ?_
    refine ae_icmp_ne (pc := 118) (t := 125) dX11_rearranges_118 (by decide) (fun c118 => ?_) (fun c118 => ?_)
    · rw [nI_eq (by omega) (by omega)] at c118
      refine ae_iconst (pc := 125) (v := nI 1) dX11_rearranges_125 (by decide) ?_
      refine ae_iadd (pc := 126) dX11_rearranges_126 (nI_add _ _) ?_
      refine ae_istore_n (pc := 127) (v := nI (mvd og (k + 1))) dX11_rearranges_127 (by rw [mvd_s]; first | rw [if_neg c118] | rw [if_pos (Classical.not_not.mp c118)]) (Nat.le_of_ble_eq_true rfl) ?_
      refine ae_iinc (pc := 128) (v := nI (k + 1)) dX11_rearranges_128 rfl (nI_inc k) ?_
      refine ae_goto (pc := 131) (t := 56) dX11_rearranges_131 (by decide) ?_
      refine ae_M ?_ (ih hk2)
      rw [ra_s _ _ _ (by omega)]
    · rw [nI_eq (by omega) (by omega)] at c118
      refine ae_iconst (pc := 121) (v := nI 0) dX11_rearranges_121 (by decide) ?_
      refine ae_goto (pc := 122) (t := 126) dX11_rearranges_122 (by decide) ?_
      refine ae_iadd (pc := 126) dX11_rearranges_126 (nI_add _ _) ?_
      refine ae_istore_n (pc := 127) (v := nI (mvd og (k + 1))) dX11_rearranges_127 (by rw [mvd_s]; first | rw [if_neg c118] | rw [if_pos (Classical.not_not.mp c118)]) (Nat.le_of_ble_eq_true rfl) ?_
      refine ae_iinc (pc := 128) (v := nI (k + 1)) dX11_rearranges_128 rfl (nI_inc k) ?_
      refine ae_goto (pc := 131) (t := 56) dX11_rearranges_131 (by decide) ?_
      refine ae_M ?_ (ih hk2)
      rw [ra_s _ _ _ (by omega)]
  have hk2 : k = fN (M.1 34) := by rw [nI_leI (by omega) (by omega)] at c65; omega
  subst hk2
  clear ih
  generalize hGe : raC (M.1 34) og (fN (M.1 34)) = G
  have g0 : ∀ j, j < 259 ∨ 291 ≤ j → G j = M.1 34 j := fun j hj => by rw [← hGe]; exact raC_n _ _ hj (by omega)
  obtain ⟨gw, gw2, gw3, gw4⟩ := wf0_of hf (g0 0 (by omega)) (g0 1 (by omega)) (g0 258 (by omega))
  have gA4 : fA G = fA (M.1 34) := by unfold fA; rw [gw2, gw3]
  have eF : raF (M.1 34) og = raI G og (fN (M.1 34)) (if M.1 34 292 = 1 then fA (M.1 34) else 0) := by unfold raF; rw [hGe]
  rw [eF]
  refine ae_iconst (pc := 134) (v := nI 0) dX11_rearranges_134 (by decide) ?_
  refine ae_istore_n (pc := 135) dX11_rearranges_135 rfl (Nat.le_of_ble_eq_true rfl) ?_
  skip
  refine ae_M (M' := raM M A B (raI G og (fN (M.1 34)) (if M.1 34 292 = 1 then 0 else 0))) (by rw [show (if M.1 34 292 = 1 then 0 else 0 : Nat) = 0 by split <;> rfl, raI_0]) ?_
  refine am_down (P := fun p => am_E none (am_R (d + 1)) cX11_rearranges 11 (some .int) _ (136, [some (.ref 33), some (.int (nI (mvd og (fN (M.1 34))))), some (.int (nI p)), none, none], [], raM M A B (raI G og (fN (M.1 34)) (if M.1 34 292 = 1 then p else 0)))) (fA (M.1 34)) (fun p hp ih => ?_)
  have gI : ∀ p' j, p' ≤ 256 → j < 293 → raI G og (fN (M.1 34)) p' j = G j := fun p' j h1 h2 => raI_out _ _ _ (Or.inl h2)
  have hpx : am_R (d + 1) zX11_pixels [.ref 33] (raM M A B (raI G og (fN (M.1 34)) (if M.1 34 292 = 1 then p else 0))) (fun v M' => v = some (.int (nI (fA (M.1 34)))) ∧ M' = raM M A B (raI G og (fN (M.1 34)) (if M.1 34 292 = 1 then p else 0))) := by
    have hle : (if M.1 34 292 = 1 then p else 0) ≤ 256 := by split <;> omega
    obtain ⟨a1, a2, a3, a4⟩ := wf0_of gw (gI _ 0 hle (by omega)) (gI _ 1 hle (by omega)) (gI _ 258 hle (by omega))
    have := sm_pixels d (raM M A B (raI G og (fN (M.1 34)) (if M.1 34 292 = 1 then p else 0))) (by rw [raM_34]; exact a1)
    rw [raM_34, show fA (raI G og (fN (M.1 34)) (if M.1 34 292 = 1 then p else 0)) = fA (M.1 34) by rw [← gA4]; unfold fA; rw [a2, a3]] at this
    exact this
  refine ae_iload_n (pc := 136) dX11_rearranges_136 rfl ?_
  refine ae_aload_n (pc := 137) dX11_rearranges_137 rfl ?_
  refine ae_pcallV (pc := 138) (z := zX11_pixels) (k := 33) (As := []) dX11_rearranges_138 rfl rfl rfl rfl (Nat.le_of_ble_eq_true rfl) rfl (Nat.le_of_ble_eq_true rfl) (Nat.le_of_ble_eq_true rfl) (hpx) ?_
  refine ae_icmp_ge (pc := 141) (t := 231) dX11_rearranges_141 (by decide) (fun c141 => ?_) (fun c141 => ?_)
  · have hp2 : p = fA (M.1 34) := by rw [nI_leI (by omega) (by omega)] at c141; omega
    subst hp2
    refine ae_iload_n (pc := 231) dX11_rearranges_231 rfl ?_
    refine ae_ireturn (pc := 232) dX11_rearranges_232 rfl ?_
    exact ⟨rfl, rfl⟩
  · have hp2 : p < fA (M.1 34) := by rw [nI_leI (by omega) (by omega)] at c141; omega
    refine ae_aload_n (pc := 144) dX11_rearranges_144 rfl ?_
    refine ae_getR (pc := 145) (k := 33) (c := 11) (j := 0) (q := 34) dX11_rearranges_145 rfl rfl (Nat.le_of_ble_eq_true rfl) rfl (Nat.le_of_ble_eq_true rfl) rfl ?_
    refine ae_sipush (pc := 148) (v := nI 292) dX11_rearranges_148 (by decide) ?_
    refine ae_iaload (pc := 151) (k := 34) (N := 549) (v := M.1 34 292) _ dX11_rearranges_151 (Nat.le_of_ble_eq_true rfl) rfl rfl rfl (by omega) (by rw [raM_34, gI _ _ (by split <;> omega) (by omega)]; exact g0 _ (by omega)) ?_
    refine ae_iconst (pc := 152) (v := nI 1) dX11_rearranges_152 (by decide) ?_
    refine ae_icmp_ne (pc := 153) (t := 231) dX11_rearranges_153 (by decide) (fun c153 => ?_) (fun c153 => ?_)
    · have h1 : ¬ M.1 34 292 = 1 := c153
      simp only [if_neg h1]
      refine ae_iload_n (pc := 231) dX11_rearranges_231 rfl ?_
      refine ae_ireturn (pc := 232) dX11_rearranges_232 rfl ?_
      exact ⟨rfl, rfl⟩
    · have h1 : M.1 34 292 = 1 := Classical.not_not.mp c153
      simp only [if_pos h1] at ih ⊢
      have ew : raI G og (fN (M.1 34)) p (293 + p) = G (293 + p) := raI_out _ _ _ (Or.inr (by omega))
      refine ae_aload_n (pc := 156) dX11_rearranges_156 rfl ?_
      refine ae_getR (pc := 157) (k := 33) (c := 11) (j := 0) (q := 34) dX11_rearranges_157 rfl rfl (Nat.le_of_ble_eq_true rfl) rfl (Nat.le_of_ble_eq_true rfl) rfl ?_
      refine ae_sipush (pc := 160) (v := nI 293) dX11_rearranges_160 (by decide) ?_
      refine ae_iload_n (pc := 163) dX11_rearranges_163 rfl ?_
      refine ae_iadd (pc := 164) dX11_rearranges_164 (nI_add _ _) ?_
      refine ae_iaload (pc := 165) (k := 34) (N := 549) (v := G (293 + p)) _ dX11_rearranges_165 (Nat.le_of_ble_eq_true rfl) rfl rfl rfl (by omega) (by rw [raM_34]; exact ew) ?_
      refine ae_istore_n (pc := 166) dX11_rearranges_166 rfl (Nat.le_of_ble_eq_true rfl) ?_
      refine ae_iconst (pc := 167) (v := nI 0) dX11_rearranges_167 (by decide) ?_
      refine ae_istore (pc := 168) dX11_rearranges_168 rfl (Nat.le_of_ble_eq_true rfl) ?_
      skip
      refine ae_M (M' := raM M A B (upd (raI G og (fN (M.1 34)) p) (293 + p) (newI og (G (293 + p)) 0))) (by rw [show newI og (G (293 + p)) 0 = raI G og (fN (M.1 34)) p (293 + p) from ew.symm, upd_eta]) ?_
      refine am_down (P := fun e => am_E none (am_R (d + 1)) cX11_rearranges 11 (some .int) _ (170, [some (.ref 33), some (.int (nI (mvd og (fN (M.1 34))))), some (.int (nI p)), some (.int (G (293 + p))), some (.int (nI e))], [], raM M A B (upd (raI G og (fN (M.1 34)) p) (293 + p) (newI og (G (293 + p)) e)))) (fN (M.1 34)) (fun e he ihe => ?_)
      refine ae_iload (pc := 170) dX11_rearranges_170 rfl ?_
      refine ae_aload_n (pc := 172) dX11_rearranges_172 rfl ?_
      refine ae_getR (pc := 173) (k := 33) (c := 11) (j := 0) (q := 34) dX11_rearranges_173 rfl rfl (Nat.le_of_ble_eq_true rfl) rfl (Nat.le_of_ble_eq_true rfl) rfl ?_
      refine ae_sipush (pc := 176) (v := nI 258) dX11_rearranges_176 (by decide) ?_
      refine ae_iaload (pc := 179) (k := 34) (N := 549) (v := nI (fN (M.1 34))) _ dX11_rearranges_179 (Nat.le_of_ble_eq_true rfl) rfl rfl rfl (by omega) (by rw [raM_34, upd_ne _ _ (by omega), gI _ _ (by omega) (by omega), g0 _ (by omega)]; exact hn1) ?_
      refine ae_icmp_ge (pc := 180) (t := 225) dX11_rearranges_180 (by decide) (fun c180 => ?_) (fun c180 => ?_)
      · have he2 : e = fN (M.1 34) := by rw [nI_leI (by omega) (by omega)] at c180; omega
        subst he2
        refine ae_iinc (pc := 225) (v := nI (p + 1)) dX11_rearranges_225 rfl (nI_inc p) ?_
        refine ae_goto (pc := 228) (t := 136) dX11_rearranges_228 (by decide) ?_
        refine ae_forget [3, 4] rfl (ae_M ?_ (ih hp2))
        rw [raI_s]
      · have he2 : e < fN (M.1 34) := by rw [nI_leI (by omega) (by omega)] at c180; omega
        obtain ⟨o1, o2⟩ := hog e he2
        refine ae_aload_n (pc := 183) dX11_rearranges_183 rfl ?_
        refine ae_getR (pc := 184) (k := 33) (c := 11) (j := 0) (q := 34) dX11_rearranges_184 rfl rfl (Nat.le_of_ble_eq_true rfl) rfl (Nat.le_of_ble_eq_true rfl) rfl ?_
        refine ae_sipush (pc := 187) (v := nI 293) dX11_rearranges_187 (by decide) ?_
        refine ae_iload_n (pc := 190) dX11_rearranges_190 rfl ?_
        refine ae_iadd (pc := 191) dX11_rearranges_191 (nI_add _ _) ?_
        refine ae_aload_n (pc := 192) dX11_rearranges_192 rfl ?_
        refine ae_getR (pc := 193) (k := 33) (c := 11) (j := 8) (q := 39) dX11_rearranges_193 rfl rfl (Nat.le_of_ble_eq_true rfl) rfl (Nat.le_of_ble_eq_true rfl) rfl ?_
        refine ae_iload (pc := 196) dX11_rearranges_196 rfl ?_
        refine ae_iaload (pc := 198) (k := 39) (N := 16) (v := nI (og e)) _ dX11_rearranges_198 (Nat.le_of_ble_eq_true rfl) rfl rfl rfl (by omega) (by rw [g39]; exact o1) ?_
        refine ae_iload_n (pc := 199) dX11_rearranges_199 rfl ?_
        refine ae_icmp_ne (pc := 200) (t := 208) dX11_rearranges_200 (by decide) (fun c200 => ?_) (fun c200 => ?_)
        · refine ae_aload_n (pc := 208) dX11_rearranges_208 rfl ?_
          refine ae_getR (pc := 209) (k := 33) (c := 11) (j := 0) (q := 34) dX11_rearranges_209 rfl rfl (Nat.le_of_ble_eq_true rfl) rfl (Nat.le_of_ble_eq_true rfl) rfl ?_
          refine ae_sipush (pc := 212) (v := nI 293) dX11_rearranges_212 (by decide) ?_
          refine ae_iload_n (pc := 215) dX11_rearranges_215 rfl ?_
          refine ae_iadd (pc := 216) dX11_rearranges_216 (nI_add _ _) ?_
          refine ae_iaload (pc := 217) (k := 34) (N := 549) (v := newI og (G (293 + p)) e) _ dX11_rearranges_217 (Nat.le_of_ble_eq_true rfl) rfl rfl rfl (by omega) (by rw [raM_34, upd_self]) ?_
          refine ae_iastore (pc := 218) (k := 34) (N := 549) _ dX11_rearranges_218 (Nat.le_of_ble_eq_true rfl) rfl rfl rfl (by omega) rfl ?_
          refine ae_M (raM_u34 _ _ _ _ _) ?_
          rw [raM_34]
          refine ae_iinc (pc := 219) (v := nI (e + 1)) dX11_rearranges_219 rfl (nI_inc e) ?_
          refine ae_goto (pc := 222) (t := 170) dX11_rearranges_222 (by decide) ?_
          refine ae_M ?_ (ihe he2)
          rw [← raI_in]
          first | rw [if_neg c200] | rw [if_pos (Classical.not_not.mp c200)]
        · refine ae_iload (pc := 203) dX11_rearranges_203 rfl ?_
          refine ae_goto (pc := 205) (t := 218) dX11_rearranges_205 (by decide) ?_
          refine ae_iastore (pc := 218) (k := 34) (N := 549) _ dX11_rearranges_218 (Nat.le_of_ble_eq_true rfl) rfl rfl rfl (by omega) rfl ?_
          refine ae_M (raM_u34 _ _ _ _ _) ?_
          rw [raM_34]
          refine ae_iinc (pc := 219) (v := nI (e + 1)) dX11_rearranges_219 rfl (nI_inc e) ?_
          refine ae_goto (pc := 222) (t := 170) dX11_rearranges_222 (by decide) ?_
          refine ae_M ?_ (ihe he2)
          rw [← raI_in]
          first | rw [if_neg c200] | rw [if_pos (Classical.not_not.mp c200)]

