theorem sm_rounds (d : Nat) (M : am_M) (hf : wf0 (M.1 34)) (hz : 0 < fN (M.1 34)) : am_R (d + 6) zX11_rounds [.ref 33] M (fun v M' => v = some (.int (bI (rnB (M.1 34) (fN (M.1 34)) = true))) ∧ ∃ S T, M' = rdM M S T (rnF (M.1 34) (fN (M.1 34)))) := by
  refine ae_enter (z := zX11_rounds) (y := yX11_rounds) (cc := cX11_rounds) (mL := 5) (rt := some .boolean) (ci := 11) (st := false) (np := 0) (L := [some (.ref 33), none, none, none, none]) rfl (by decide) (Nat.le_of_ble_eq_true rfl) rfl ?_
  obtain ⟨-, -, hn1, hn2⟩ := id hf
  have hA := fA_le hf
  have sc := sm_counts d M hf
  rw [if_pos hz] at sc
  generalize hse : svR (M.1 42) (M.1 34) (fA (M.1 34)) = S at sc
  have hS : ∀ e, e < 16 → S e = nI (svA (M.1 34) e) := by
    intro e he
    rw [← hse]
    have := st_in (M.1 42) (a := 0) (k := 16) (p := e) (fun e => nI (svc (M.1 34) e (fA (M.1 34)))) he
    rwa [Nat.zero_add] at this
  refine ae_aload_n (pc := 0) dX11_rounds_0 rfl ?_
  refine ae_callV (pc := 1) (z := zX11_counts) (k := 33) (As := []) dX11_rounds_1 rfl rfl rfl rfl (Nat.le_of_ble_eq_true rfl) rfl (Nat.le_of_ble_eq_true rfl) (Nat.le_of_ble_eq_true rfl) (sc) (fun v M' hq => ?_)
  obtain ⟨rfl, rfl⟩ := hq
  refine ae_iconst (pc := 4) (v := nI 0) dX11_rounds_4 (by decide) ?_
  refine ae_istore_n (pc := 5) dX11_rounds_5 rfl (Nat.le_of_ble_eq_true rfl) ?_
  skip
  refine ae_M (M' := rdM M S (stF (M.1 46) 0 0 (fun _ => nI 0)) (M.1 34)) (by rw [st_0]; have := rdM_u42 M (M.1 42) (M.1 46) (M.1 34) S; rw [rdM_eta] at this; exact this) ?_
  refine am_down (P := fun k => am_E none (am_R (d + 5)) cX11_rounds 11 (some .boolean) _ (6, [some (.ref 33), some (.int (nI k)), none, none, none], [], rdM M S (stF (M.1 46) 0 k (fun _ => nI 0)) (M.1 34))) 48 (fun k hk ih => ?_)
  refine ae_iload_n (pc := 6) dX11_rounds_6 rfl ?_
  refine ae_bipush (pc := 7) (v := nI 48) dX11_rounds_7 (by decide) ?_
  refine ae_icmp_ge (pc := 9) (t := 25) dX11_rounds_9 (by decide) (fun c9 => ?_) (fun c9 => ?_)
  rotate_left
  · have hk2 : k < 48 := by rw [nI_leI (by omega) (by omega)] at c9; omega
    refine ae_aload_n (pc := 12) dX11_rounds_12 rfl ?_
    refine ae_getR (pc := 13) (k := 33) (c := 11) (j := 17) (q := 46) dX11_rounds_13 rfl rfl (Nat.le_of_ble_eq_true rfl) rfl (Nat.le_of_ble_eq_true rfl) rfl ?_
    refine ae_iload_n (pc := 16) dX11_rounds_16 rfl ?_
    refine ae_iconst (pc := 17) (v := nI 0) dX11_rounds_17 (by decide) ?_
    refine ae_iastore (pc := 18) (k := 46) (N := 48) _ dX11_rounds_18 (Nat.le_of_ble_eq_true rfl) rfl rfl rfl (by omega) rfl ?_
    refine ae_M (rdM_u46 _ _ _ _ _) ?_
    rw [rdM_46]
    refine ae_iinc (pc := 19) (v := nI (k + 1)) dX11_rounds_19 rfl (nI_inc k) ?_
    refine ae_goto (pc := 22) (t := 6) dX11_rounds_22 (by decide) ?_
    refine ae_M ?_ (ih hk2)
    rw [← st_s, Nat.zero_add]
  have hk2 : k = 48 := by rw [nI_leI (by omega) (by omega)] at c9; omega
  subst hk2
  clear ih
  refine ae_iconst (pc := 25) (v := nI 0) dX11_rounds_25 (by decide) ?_
  refine ae_istore_n (pc := 26) dX11_rounds_26 rfl (Nat.le_of_ble_eq_true rfl) ?_
  skip
  refine ae_M (M' := rdM M S (smR (M.1 46) (M.1 34) 0) (M.1 34)) rfl ?_
  refine am_down (P := fun p => am_E none (am_R (d + 5)) cX11_rounds 11 (some .boolean) _ (27, [some (.ref 33), some (.int (nI p)), none, none, none], [], rdM M S (smR (M.1 46) (M.1 34) p) (M.1 34))) (fA (M.1 34)) (fun p hp ih => ?_)
  have hpx := sm_pixels (d + 4) (rdM M S (smR (M.1 46) (M.1 34) p) (M.1 34)) (by rw [rdM_34]; exact hf)
  rw [rdM_34] at hpx
  refine ae_iload_n (pc := 27) dX11_rounds_27 rfl ?_
  refine ae_aload_n (pc := 28) dX11_rounds_28 rfl ?_
  refine ae_pcallV (pc := 29) (z := zX11_pixels) (k := 33) (As := []) dX11_rounds_29 rfl rfl rfl rfl (Nat.le_of_ble_eq_true rfl) rfl (Nat.le_of_ble_eq_true rfl) (Nat.le_of_ble_eq_true rfl) (hpx) ?_
  refine ae_icmp_ge (pc := 32) (t := 109) dX11_rounds_32 (by decide) (fun c32 => ?_) (fun c32 => ?_)
  rotate_left
  · have hp2 : p < fA (M.1 34) := by rw [nI_leI (by omega) (by omega)] at c32; omega
    have hio := sm_isOpaque (d + 4) (rdM M S (smR (M.1 46) (M.1 34) p) (M.1 34)) p (by omega)
    have hnr := sm_near (d + 1) (rdM M S (smR (M.1 46) (M.1 34) p) (M.1 34)) (by rw [rdM_34]; exact hf) (M.1 34 (2 + p))
    obtain ⟨b, hb, hb2⟩ := ner_some (f := M.1 34) (M.1 34 (2 + p)) hz hn2
    rw [rdM_34] at hio hnr
    rw [hb] at hnr
    by_cases ho : M.1 34 (2 + p) = -1
    · rw [smR_s0 _ ho] at ih
      rw [bI_f (by simpa using ho)] at hio
      refine ae_aload_n (pc := 35) dX11_rounds_35 rfl ?_
      refine ae_iload_n (pc := 36) dX11_rounds_36 rfl ?_
      refine ae_pcallV (pc := 37) (z := zX11_isOpaque) (k := 33) (As := [_]) dX11_rounds_37 rfl rfl rfl rfl (Nat.le_of_ble_eq_true rfl) rfl (Nat.le_of_ble_eq_true rfl) (Nat.le_of_ble_eq_true rfl) (hio) ?_
      refine ae_if_eq (pc := 40) (t := 58) dX11_rounds_40 (by decide) (fun c40 => ?_) (fun c40 => ?_)
      rotate_left
      · exact absurd rfl c40
      refine ae_iconst (pc := 58) (v := (-1)) dX11_rounds_58 (by decide) ?_
      refine ae_istore_n (pc := 59) dX11_rounds_59 rfl (Nat.le_of_ble_eq_true rfl) ?_
      refine ae_iconst (pc := 60) (v := nI 0) dX11_rounds_60 (by decide) ?_
      refine ae_istore_n (pc := 61) dX11_rounds_61 rfl (Nat.le_of_ble_eq_true rfl) ?_
      skip
      refine ae_iload_n (pc := 62) dX11_rounds_62 rfl ?_
      refine ae_iconst (pc := 63) (v := nI 3) dX11_rounds_63 (by decide) ?_
      refine ae_icmp_ge (pc := 64) (t := 103) dX11_rounds_64 (by decide) (fun c64 => ?_) (fun c64 => ?_)
      · exact absurd c64 (by decide)
      refine ae_iload_n (pc := 67) dX11_rounds_67 rfl ?_
      refine ae_iconst (pc := 68) (v := (-1)) dX11_rounds_68 (by decide) ?_
      refine ae_icmp_eq (pc := 69) (t := 103) dX11_rounds_69 (by decide) (fun c69 => ?_) (fun c69 => ?_)
      rotate_left
      · exact absurd rfl c69
      refine ae_iinc (pc := 103) (v := nI (p + 1)) dX11_rounds_103 rfl (nI_inc p) ?_
      refine ae_goto (pc := 106) (t := 27) dX11_rounds_106 (by decide) ?_
      exact ae_forget [2, 3] rfl (ih hp2)
    · rw [bI_t (by simpa using ho)] at hio
      refine ae_aload_n (pc := 35) dX11_rounds_35 rfl ?_
      refine ae_iload_n (pc := 36) dX11_rounds_36 rfl ?_
      refine ae_pcallV (pc := 37) (z := zX11_isOpaque) (k := 33) (As := [_]) dX11_rounds_37 rfl rfl rfl rfl (Nat.le_of_ble_eq_true rfl) rfl (Nat.le_of_ble_eq_true rfl) (Nat.le_of_ble_eq_true rfl) (hio) ?_
      refine ae_if_eq (pc := 40) (t := 58) dX11_rounds_40 (by decide) (fun c40 => ?_) (fun c40 => ?_)
      · exact absurd c40 (by decide)
      refine ae_aload_n (pc := 43) dX11_rounds_43 rfl ?_
      refine ae_aload_n (pc := 44) dX11_rounds_44 rfl ?_
      refine ae_getR (pc := 45) (k := 33) (c := 11) (j := 0) (q := 34) dX11_rounds_45 rfl rfl (Nat.le_of_ble_eq_true rfl) rfl (Nat.le_of_ble_eq_true rfl) rfl ?_
      refine ae_iconst (pc := 48) (v := nI 2) dX11_rounds_48 (by decide) ?_
      refine ae_iload_n (pc := 49) dX11_rounds_49 rfl ?_
      refine ae_iadd (pc := 50) dX11_rounds_50 (nI_add _ _) ?_
      refine ae_iaload (pc := 51) (k := 34) (N := 549) (v := M.1 34 (2 + p)) _ dX11_rounds_51 (Nat.le_of_ble_eq_true rfl) rfl rfl rfl (by omega) (by rw [rdM_34]) ?_
      refine ae_pcallV (pc := 52) (z := zX11_near) (k := 33) (As := [_]) dX11_rounds_52 rfl rfl rfl rfl (Nat.le_of_ble_eq_true rfl) rfl (Nat.le_of_ble_eq_true rfl) (Nat.le_of_ble_eq_true rfl) (hnr) ?_
      refine ae_goto (pc := 55) (t := 59) dX11_rounds_55 (by decide) ?_
      refine ae_istore_n (pc := 59) dX11_rounds_59 rfl (Nat.le_of_ble_eq_true rfl) ?_
      refine ae_iconst (pc := 60) (v := nI 0) dX11_rounds_60 (by decide) ?_
      refine ae_istore_n (pc := 61) dX11_rounds_61 rfl (Nat.le_of_ble_eq_true rfl) ?_
      skip
      refine ae_M (M' := rdM M S (smQ (M.1 46) (M.1 34) p b 0) (M.1 34)) (by rw [smQ_0]) ?_
      refine am_down (P := fun k => am_E none (am_R (d + 5)) cX11_rounds 11 (some .boolean) _ (62, [some (.ref 33), some (.int (nI p)), some (.int (nI b)), some (.int (nI k)), none], [], rdM M S (smQ (M.1 46) (M.1 34) p b k) (M.1 34))) 3 (fun k hk ihk => ?_)
      refine ae_iload_n (pc := 62) dX11_rounds_62 rfl ?_
      refine ae_iconst (pc := 63) (v := nI 3) dX11_rounds_63 (by decide) ?_
      refine ae_icmp_ge (pc := 64) (t := 103) dX11_rounds_64 (by decide) (fun c64 => ?_) (fun c64 => ?_)
      · have hk2 : k = 3 := by rw [nI_leI (by omega) (by omega)] at c64; omega
        subst hk2
        rw [smQ_3 _ hb]
        refine ae_iinc (pc := 103) (v := nI (p + 1)) dX11_rounds_103 rfl (nI_inc p) ?_
        refine ae_goto (pc := 106) (t := 27) dX11_rounds_106 (by decide) ?_
        exact ae_forget [2, 3] rfl (ih hp2)
      · have hk2 : k < 3 := by rw [nI_leI (by omega) (by omega)] at c64; omega
        refine ae_iload_n (pc := 67) dX11_rounds_67 rfl ?_
        refine ae_iconst (pc := 68) (v := (-1)) dX11_rounds_68 (by decide) ?_
        refine ae_icmp_eq (pc := 69) (t := 103) dX11_rounds_69 (by decide) (fun c69 => ?_) (fun c69 => ?_)
        · exact absurd c69 (nI_ne1 (by omega))
        refine ae_aload_n (pc := 72) dX11_rounds_72 rfl ?_
        refine ae_getR (pc := 73) (k := 33) (c := 11) (j := 17) (q := 46) dX11_rounds_73 rfl rfl (Nat.le_of_ble_eq_true rfl) rfl (Nat.le_of_ble_eq_true rfl) rfl ?_
        refine ae_iconst (pc := 76) (v := nI 3) dX11_rounds_76 (by decide) ?_
        refine ae_iload_n (pc := 77) dX11_rounds_77 rfl ?_
        refine ae_imul (pc := 78) dX11_rounds_78 (nI_mul _ _) ?_
        refine ae_iload_n (pc := 79) dX11_rounds_79 rfl ?_
        refine ae_iadd (pc := 80) dX11_rounds_80 (nI_add _ _) ?_
        refine ae_dup2 (pc := 81) dX11_rounds_81 rfl rfl ?_
        refine ae_iaload (pc := 82) (k := 46) (N := 48) (v := smI (M.1 34) b k p) _ dX11_rounds_82 (Nat.le_of_ble_eq_true rfl) rfl rfl rfl (by omega) (by rw [rdM_46]; exact smQ_get _ _ (by omega) (by omega)) ?_
        refine ae_aload_n (pc := 83) dX11_rounds_83 rfl ?_
        refine ae_getR (pc := 84) (k := 33) (c := 11) (j := 0) (q := 34) dX11_rounds_84 rfl rfl (Nat.le_of_ble_eq_true rfl) rfl (Nat.le_of_ble_eq_true rfl) rfl ?_
        refine ae_iconst (pc := 87) (v := nI 2) dX11_rounds_87 (by decide) ?_
        refine ae_iload_n (pc := 88) dX11_rounds_88 rfl ?_
        refine ae_iadd (pc := 89) dX11_rounds_89 (nI_add _ _) ?_
        refine ae_iaload (pc := 90) (k := 34) (N := 549) (v := M.1 34 (2 + p)) _ dX11_rounds_90 (Nat.le_of_ble_eq_true rfl) rfl rfl rfl (by omega) (by rw [rdM_34]) ?_
        refine ae_iload_n (pc := 91) dX11_rounds_91 rfl ?_
        refine ae_pcallS (pc := 92) (z := zX11_channel) (As := [_, _]) dX11_rounds_92 rfl rfl rfl rfl (Nat.le_of_ble_eq_true rfl) (sm_channel (d + 4) _ _ _) ?_
        refine ae_iadd (pc := 95) dX11_rounds_95 rfl ?_
        refine ae_iastore (pc := 96) (k := 46) (N := 48) (3 * b + k) dX11_rounds_96 (Nat.le_of_ble_eq_true rfl) rfl rfl rfl (by omega) rfl ?_
        refine ae_M (rdM_u46 _ _ _ _ _) ?_
        rw [rdM_46]
        refine ae_iinc (pc := 97) (v := nI (k + 1)) dX11_rounds_97 rfl (nI_inc k) ?_
        refine ae_goto (pc := 100) (t := 62) dX11_rounds_100 (by decide) ?_
        refine ae_M ?_ (ihk hk2)
        rw [smQ_s _ ho hb (by omega) hk2]
  have hp2 : p = fA (M.1 34) := by rw [nI_leI (by omega) (by omega)] at c32; omega
  subst hp2
  clear ih
  generalize hTe : smR (M.1 46) (M.1 34) (fA (M.1 34)) = T
  have hT : ∀ e c, e < 16 → c < 3 → T (3 * e + c) = smI (M.1 34) e c (fA (M.1 34)) := by
    intro e c he hc
    rw [← hTe]
    unfold smR stF
    rw [if_pos (by omega), Nat.sub_zero]
    dsimp only
    rw [show (3 * e + c) / 3 = e by omega, show (3 * e + c) % 3 = c by omega]
  refine ae_iconst (pc := 109) (v := nI 0) dX11_rounds_109 (by decide) ?_
  refine ae_istore_n (pc := 110) dX11_rounds_110 rfl (Nat.le_of_ble_eq_true rfl) ?_
  refine ae_iconst (pc := 111) (v := nI 0) dX11_rounds_111 (by decide) ?_
  refine ae_istore_n (pc := 112) dX11_rounds_112 rfl (Nat.le_of_ble_eq_true rfl) ?_
  skip
  refine ae_M (M' := rdM M S T (rnF (M.1 34) 0)) (by rw [rn_0]) ?_
  refine am_down (P := fun e => am_E none (am_R (d + 5)) cX11_rounds 11 (some .boolean) _ (113, [some (.ref 33), some (.int (bI (rnB (M.1 34) e = true))), some (.int (nI e)), none, none], [], rdM M S T (rnF (M.1 34) e))) (fN (M.1 34)) (fun e he ih => ?_)
  refine ae_iload_n (pc := 113) dX11_rounds_113 rfl ?_
  refine ae_aload_n (pc := 114) dX11_rounds_114 rfl ?_
  refine ae_getR (pc := 115) (k := 33) (c := 11) (j := 0) (q := 34) dX11_rounds_115 rfl rfl (Nat.le_of_ble_eq_true rfl) rfl (Nat.le_of_ble_eq_true rfl) rfl ?_
  refine ae_sipush (pc := 118) (v := nI 258) dX11_rounds_118 (by decide) ?_
  refine ae_iaload (pc := 121) (k := 34) (N := 549) (v := nI (fN (M.1 34))) _ dX11_rounds_121 (Nat.le_of_ble_eq_true rfl) rfl rfl rfl (by omega) (by rw [rdM_34, rn_n (by omega)]; exact hn1) ?_
  refine ae_icmp_ge (pc := 122) (t := 236) dX11_rounds_122 (by decide) (fun c122 => ?_) (fun c122 => ?_)
  · have he2 : e = fN (M.1 34) := by rw [nI_leI (by omega) (by omega)] at c122; omega
    subst he2
    refine ae_iload_n (pc := 236) dX11_rounds_236 rfl ?_
    refine ae_zreturn (pc := 237) dX11_rounds_237 rfl (bI_01 _) ?_
    exact ⟨rfl, S, T, rfl⟩
  · have he2 : e < fN (M.1 34) := by rw [nI_leI (by omega) (by omega)] at c122; omega
    have hil := sm_isLocked (d + 4) (rdM M S T (rnF (M.1 34) e)) e (by omega)
    rw [rdM_34, rn_n (by omega)] at hil
    have hsl := svA_le hf e
    have eS : (rdM M S T (rnF (M.1 34) e)).1 42 e = nI (svA (M.1 34) e) := by rw [rdM_42]; exact hS e (by omega)
    by_cases hg : rnG (M.1 34) e
    · obtain ⟨g1, g2⟩ := id hg
      rw [bI_f g1] at hil
      have hne : ¬ nI 2 * nI (svA (M.1 34) e) = 0 := by rw [nI_mul]; exact nI_ne0 (by omega) (by omega)
      refine ae_aload_n (pc := 125) dX11_rounds_125 rfl ?_
      refine ae_iload_n (pc := 126) dX11_rounds_126 rfl ?_
      refine ae_pcallV (pc := 127) (z := zX11_isLocked) (k := 33) (As := [_]) dX11_rounds_127 rfl rfl rfl rfl (Nat.le_of_ble_eq_true rfl) rfl (Nat.le_of_ble_eq_true rfl) (Nat.le_of_ble_eq_true rfl) (hil) ?_
      refine ae_if_ne (pc := 130) (t := 230) dX11_rounds_130 (by decide) (fun c130 => ?_) (fun c130 => ?_)
      · exact absurd rfl c130
      refine ae_aload_n (pc := 133) dX11_rounds_133 rfl ?_
      refine ae_getR (pc := 134) (k := 33) (c := 11) (j := 11) (q := 42) dX11_rounds_134 rfl rfl (Nat.le_of_ble_eq_true rfl) rfl (Nat.le_of_ble_eq_true rfl) rfl ?_
      refine ae_iload_n (pc := 137) dX11_rounds_137 rfl ?_
      refine ae_iaload (pc := 138) (k := 42) (N := 16) (v := nI (svA (M.1 34) e)) _ dX11_rounds_138 (Nat.le_of_ble_eq_true rfl) rfl rfl rfl (by omega) eS ?_
      refine ae_if_le (pc := 139) (t := 230) dX11_rounds_139 (by decide) (fun c139 => ?_) (fun c139 => ?_)
      · exact absurd c139 (nI_nle g2 (by omega))
      refine ae_iconst (pc := 142) (v := nI 0) dX11_rounds_142 (by decide) ?_
      refine ae_istore_n (pc := 143) dX11_rounds_143 rfl (Nat.le_of_ble_eq_true rfl) ?_
      refine ae_iconst (pc := 144) (v := nI 0) dX11_rounds_144 (by decide) ?_
      refine ae_istore (pc := 145) dX11_rounds_145 rfl (Nat.le_of_ble_eq_true rfl) ?_
      skip
      refine am_down (P := fun c => am_E none (am_R (d + 5)) cX11_rounds 11 (some .boolean) _ (147, [some (.ref 33), some (.int (bI (rnB (M.1 34) e = true))), some (.int (nI e)), some (.int (rnM (M.1 34) e c)), some (.int (nI c))], [], rdM M S T (rnF (M.1 34) e))) 3 (fun c hc ihc => ?_)
      refine ae_iload (pc := 147) dX11_rounds_147 rfl ?_
      refine ae_iconst (pc := 149) (v := nI 3) dX11_rounds_149 (by decide) ?_
      refine ae_icmp_ge (pc := 150) (t := 195) dX11_rounds_150 (by decide) (fun c150 => ?_) (fun c150 => ?_)
      · have hc2 : c = 3 := by rw [nI_leI (by omega) (by omega)] at c150; omega
        subst hc2
        refine ae_iload_n (pc := 195) dX11_rounds_195 rfl ?_
        refine ae_if_ne (pc := 196) (t := 213) dX11_rounds_196 (by decide) (fun c196 => ?_) (fun c196 => ?_)
        · refine ae_iconst (pc := 213) (v := nI 1) dX11_rounds_213 (by decide) ?_
          refine ae_goto (pc := 214) (t := 218) dX11_rounds_214 (by decide) ?_
          refine ae_istore_n (pc := 218) (v := bI (rnB (M.1 34) (e + 1) = true)) dX11_rounds_218 (by simp only [bI_eq0, bI_ne0] at *; rw [rnB_s]; simp_all [bI, nI]) (Nat.le_of_ble_eq_true rfl) ?_
          refine ae_aload_n (pc := 219) dX11_rounds_219 rfl ?_
          refine ae_getR (pc := 220) (k := 33) (c := 11) (j := 0) (q := 34) dX11_rounds_220 rfl rfl (Nat.le_of_ble_eq_true rfl) rfl (Nat.le_of_ble_eq_true rfl) rfl ?_
          refine ae_sipush (pc := 223) (v := nI 259) dX11_rounds_223 (by decide) ?_
          refine ae_iload_n (pc := 226) dX11_rounds_226 rfl ?_
          refine ae_iadd (pc := 227) dX11_rounds_227 (nI_add _ _) ?_
          refine ae_iload_n (pc := 228) dX11_rounds_228 rfl ?_
          refine ae_iastore (pc := 229) (k := 34) (N := 549) _ dX11_rounds_229 (Nat.le_of_ble_eq_true rfl) rfl rfl rfl (by omega) rfl ?_
          refine ae_M (rdM_u34 _ _ _ _ _) ?_
          rw [rdM_34, rn_sY hg]
          refine ae_iinc (pc := 230) (v := nI (e + 1)) dX11_rounds_230 rfl (nI_inc e) ?_
          refine ae_goto (pc := 233) (t := 113) dX11_rounds_233 (by decide) ?_
          exact ae_forget [3, 4] rfl (ih he2)
        · refine ae_iload_n (pc := 199) dX11_rounds_199 rfl ?_
          refine ae_aload_n (pc := 200) dX11_rounds_200 rfl ?_
          refine ae_getR (pc := 201) (k := 33) (c := 11) (j := 0) (q := 34) dX11_rounds_201 rfl rfl (Nat.le_of_ble_eq_true rfl) rfl (Nat.le_of_ble_eq_true rfl) rfl ?_
          refine ae_sipush (pc := 204) (v := nI 259) dX11_rounds_204 (by decide) ?_
          refine ae_iload_n (pc := 207) dX11_rounds_207 rfl ?_
          refine ae_iadd (pc := 208) dX11_rounds_208 (nI_add _ _) ?_
          refine ae_iaload (pc := 209) (k := 34) (N := 549) (v := M.1 34 (259 + e)) _ dX11_rounds_209 (Nat.le_of_ble_eq_true rfl) rfl rfl rfl (by omega) (by rw [rdM_34, rn_n (by omega)]) ?_
          refine ae_icmp_eq (pc := 210) (t := 217) dX11_rounds_210 (by decide) (fun c210 => ?_) (fun c210 => ?_)
          · refine ae_iconst (pc := 217) (v := nI 0) dX11_rounds_217 (by decide) ?_
            refine ae_istore_n (pc := 218) (v := bI (rnB (M.1 34) (e + 1) = true)) dX11_rounds_218 (by simp only [bI_eq0, bI_ne0] at *; rw [rnB_s]; simp_all [bI, nI]) (Nat.le_of_ble_eq_true rfl) ?_
            refine ae_aload_n (pc := 219) dX11_rounds_219 rfl ?_
            refine ae_getR (pc := 220) (k := 33) (c := 11) (j := 0) (q := 34) dX11_rounds_220 rfl rfl (Nat.le_of_ble_eq_true rfl) rfl (Nat.le_of_ble_eq_true rfl) rfl ?_
            refine ae_sipush (pc := 223) (v := nI 259) dX11_rounds_223 (by decide) ?_
            refine ae_iload_n (pc := 226) dX11_rounds_226 rfl ?_
            refine ae_iadd (pc := 227) dX11_rounds_227 (nI_add _ _) ?_
            refine ae_iload_n (pc := 228) dX11_rounds_228 rfl ?_
            refine ae_iastore (pc := 229) (k := 34) (N := 549) _ dX11_rounds_229 (Nat.le_of_ble_eq_true rfl) rfl rfl rfl (by omega) rfl ?_
            refine ae_M (rdM_u34 _ _ _ _ _) ?_
            rw [rdM_34, rn_sY hg]
            refine ae_iinc (pc := 230) (v := nI (e + 1)) dX11_rounds_230 rfl (nI_inc e) ?_
            refine ae_goto (pc := 233) (t := 113) dX11_rounds_233 (by decide) ?_
            exact ae_forget [3, 4] rfl (ih he2)
          · refine ae_iconst (pc := 213) (v := nI 1) dX11_rounds_213 (by decide) ?_
            refine ae_goto (pc := 214) (t := 218) dX11_rounds_214 (by decide) ?_
            refine ae_istore_n (pc := 218) (v := bI (rnB (M.1 34) (e + 1) = true)) dX11_rounds_218 (by simp only [bI_eq0, bI_ne0] at *; rw [rnB_s]; simp_all [bI, nI]) (Nat.le_of_ble_eq_true rfl) ?_
            refine ae_aload_n (pc := 219) dX11_rounds_219 rfl ?_
            refine ae_getR (pc := 220) (k := 33) (c := 11) (j := 0) (q := 34) dX11_rounds_220 rfl rfl (Nat.le_of_ble_eq_true rfl) rfl (Nat.le_of_ble_eq_true rfl) rfl ?_
            refine ae_sipush (pc := 223) (v := nI 259) dX11_rounds_223 (by decide) ?_
            refine ae_iload_n (pc := 226) dX11_rounds_226 rfl ?_
            refine ae_iadd (pc := 227) dX11_rounds_227 (nI_add _ _) ?_
            refine ae_iload_n (pc := 228) dX11_rounds_228 rfl ?_
            refine ae_iastore (pc := 229) (k := 34) (N := 549) _ dX11_rounds_229 (Nat.le_of_ble_eq_true rfl) rfl rfl rfl (by omega) rfl ?_
            refine ae_M (rdM_u34 _ _ _ _ _) ?_
            rw [rdM_34, rn_sY hg]
            refine ae_iinc (pc := 230) (v := nI (e + 1)) dX11_rounds_230 rfl (nI_inc e) ?_
            refine ae_goto (pc := 233) (t := 113) dX11_rounds_233 (by decide) ?_
            exact ae_forget [3, 4] rfl (ih he2)
      · have hc2 : c < 3 := by rw [nI_leI (by omega) (by omega)] at c150; omega
        refine ae_sipush (pc := 153) (v := nI 256) dX11_rounds_153 (by decide) ?_
        refine ae_iload_n (pc := 156) dX11_rounds_156 rfl ?_
        refine ae_imul (pc := 157) (v := nI 256 * rnM (M.1 34) e c) dX11_rounds_157 rfl ?_
        refine ae_iconst (pc := 158) (v := nI 2) dX11_rounds_158 (by decide) ?_
        refine ae_aload_n (pc := 159) dX11_rounds_159 rfl ?_
        refine ae_getR (pc := 160) (k := 33) (c := 11) (j := 17) (q := 46) dX11_rounds_160 rfl rfl (Nat.le_of_ble_eq_true rfl) rfl (Nat.le_of_ble_eq_true rfl) rfl ?_
        refine ae_iconst (pc := 163) (v := nI 3) dX11_rounds_163 (by decide) ?_
        refine ae_iload_n (pc := 164) dX11_rounds_164 rfl ?_
        refine ae_imul (pc := 165) dX11_rounds_165 (nI_mul _ _) ?_
        refine ae_iload (pc := 166) dX11_rounds_166 rfl ?_
        refine ae_iadd (pc := 168) dX11_rounds_168 (nI_add _ _) ?_
        refine ae_iaload (pc := 169) (k := 46) (N := 48) (v := smI (M.1 34) e c (fA (M.1 34))) _ dX11_rounds_169 (Nat.le_of_ble_eq_true rfl) rfl rfl rfl (by omega) (by rw [rdM_46]; exact hT e c (by omega) (by omega)) ?_
        refine ae_imul (pc := 170) dX11_rounds_170 rfl ?_
        refine ae_aload_n (pc := 171) dX11_rounds_171 rfl ?_
        refine ae_getR (pc := 172) (k := 33) (c := 11) (j := 11) (q := 42) dX11_rounds_172 rfl rfl (Nat.le_of_ble_eq_true rfl) rfl (Nat.le_of_ble_eq_true rfl) rfl ?_
        refine ae_iload_n (pc := 175) dX11_rounds_175 rfl ?_
        refine ae_iaload (pc := 176) (k := 42) (N := 16) (v := nI (svA (M.1 34) e)) _ dX11_rounds_176 (Nat.le_of_ble_eq_true rfl) rfl rfl rfl (by omega) eS ?_
        refine ae_iadd (pc := 177) dX11_rounds_177 rfl ?_
        refine ae_iconst (pc := 178) (v := nI 2) dX11_rounds_178 (by decide) ?_
        refine ae_aload_n (pc := 179) dX11_rounds_179 rfl ?_
        refine ae_getR (pc := 180) (k := 33) (c := 11) (j := 11) (q := 42) dX11_rounds_180 rfl rfl (Nat.le_of_ble_eq_true rfl) rfl (Nat.le_of_ble_eq_true rfl) rfl ?_
        refine ae_iload_n (pc := 183) dX11_rounds_183 rfl ?_
        refine ae_iaload (pc := 184) (k := 42) (N := 16) (v := nI (svA (M.1 34) e)) _ dX11_rounds_184 (Nat.le_of_ble_eq_true rfl) rfl rfl rfl (by omega) eS ?_
        refine ae_imul (pc := 185) dX11_rounds_185 rfl ?_
        refine ae_idiv (pc := 186) dX11_rounds_186 hne rfl ?_
        refine ae_iadd (pc := 187) dX11_rounds_187 rfl ?_
        refine ae_istore_n (pc := 188) (v := rnM (M.1 34) e (c + 1)) dX11_rounds_188 rfl (Nat.le_of_ble_eq_true rfl) ?_
        refine ae_iinc (pc := 189) (v := nI (c + 1)) dX11_rounds_189 rfl (nI_inc c) ?_
        refine ae_goto (pc := 192) (t := 147) dX11_rounds_192 (by decide) ?_
        exact ihc hc2
    · rw [rn_sN hg] at ih
      have hB : rnB (M.1 34) (e + 1) = rnB (M.1 34) e := by rw [rnB_s]; simp [hg]
      rw [hB] at ih
      refine ae_aload_n (pc := 125) dX11_rounds_125 rfl ?_
      refine ae_iload_n (pc := 126) dX11_rounds_126 rfl ?_
      refine ae_pcallV (pc := 127) (z := zX11_isLocked) (k := 33) (As := [_]) dX11_rounds_127 rfl rfl rfl rfl (Nat.le_of_ble_eq_true rfl) rfl (Nat.le_of_ble_eq_true rfl) (Nat.le_of_ble_eq_true rfl) (hil) ?_
      refine ae_if_ne (pc := 130) (t := 230) dX11_rounds_130 (by decide) (fun c130 => ?_) (fun c130 => ?_)
      · refine ae_iinc (pc := 230) (v := nI (e + 1)) dX11_rounds_230 rfl (nI_inc e) ?_
        refine ae_goto (pc := 233) (t := 113) dX11_rounds_233 (by decide) ?_
        exact ih he2
      · refine ae_aload_n (pc := 133) dX11_rounds_133 rfl ?_
        refine ae_getR (pc := 134) (k := 33) (c := 11) (j := 11) (q := 42) dX11_rounds_134 rfl rfl (Nat.le_of_ble_eq_true rfl) rfl (Nat.le_of_ble_eq_true rfl) rfl ?_
        refine ae_iload_n (pc := 137) dX11_rounds_137 rfl ?_
        refine ae_iaload (pc := 138) (k := 42) (N := 16) (v := nI (svA (M.1 34) e)) _ dX11_rounds_138 (Nat.le_of_ble_eq_true rfl) rfl rfl rfl (by omega) eS ?_
        refine ae_if_le (pc := 139) (t := 230) dX11_rounds_139 (by decide) (fun c139 => ?_) (fun c139 => ?_)
        rotate_left
        · exact absurd (And.intro (bI_eq0.mp (Classical.not_not.mp c130)) (Classical.byContradiction fun q => c139 (by rw [show svA (M.1 34) e = 0 by omega]; decide))) hg
        refine ae_iinc (pc := 230) (v := nI (e + 1)) dX11_rounds_230 rfl (nI_inc e) ?_
        refine ae_goto (pc := 233) (t := 113) dX11_rounds_233 (by decide) ?_
        exact ih he2
theorem sm_refine0 (d : Nat) (M : am_M) (x : Int32) (hn : ¬ (nI 1 ≤ x ∧ x ≤ nI 20)) : am_R (d + 2) zX11_refine [.ref 33, .int x] M (fun v M' => v = some (.int (-2)) ∧ M' = M) := by
  refine ae_enter (z := zX11_refine) (y := yX11_refine) (cc := cX11_refine) (mL := 5) (rt := some .int) (ci := 11) (st := false) (np := 1) (L := [some (.ref 33), some (.int x), none, none, none]) rfl (by decide) (Nat.le_of_ble_eq_true rfl) rfl ?_
  refine ae_iload_n (pc := 0) dX11_refine_0 rfl ?_
  refine ae_iconst (pc := 1) (v := nI 1) dX11_refine_1 (by decide) ?_
  refine ae_bipush (pc := 2) (v := nI 20) dX11_refine_2 (by decide) ?_
  refine ae_pcallS (pc := 4) (z := zX11_in) (As := [_, _, _]) dX11_refine_4 rfl rfl rfl rfl (Nat.le_of_ble_eq_true rfl) (sm_in d _ _ _ _) ?_
  refine ae_if_ne (pc := 7) (t := 13) dX11_refine_7 (by decide) (fun c7 => ?_) (fun c7 => ?_)
  · exact (hn (bI_ne0.mp c7)).elim
  · refine ae_bipush (pc := 10) (v := (-2)) dX11_refine_10 (by decide) ?_
    refine ae_ireturn (pc := 12) dX11_refine_12 rfl ?_
    exact ⟨rfl, rfl⟩
theorem sm_refineS (d : Nat) (M : am_M) (hf : wf0 (M.1 34)) (r : Nat) (hr : 1 ≤ r ∧ r ≤ 20) (hz : fN (M.1 34) = 0) : am_R (d + 2) zX11_refine [.ref 33, .int (nI r)] M (fun v M' => v = some (.int (-3)) ∧ M' = M) := by
  refine ae_enter (z := zX11_refine) (y := yX11_refine) (cc := cX11_refine) (mL := 5) (rt := some .int) (ci := 11) (st := false) (np := 1) (L := [some (.ref 33), some (.int (nI r)), none, none, none]) rfl (by decide) (Nat.le_of_ble_eq_true rfl) rfl ?_
  have hn1 := hf.2.2.1
  rw [hz] at hn1
  refine ae_iload_n (pc := 0) dX11_refine_0 rfl ?_
  refine ae_iconst (pc := 1) (v := nI 1) dX11_refine_1 (by decide) ?_
  refine ae_bipush (pc := 2) (v := nI 20) dX11_refine_2 (by decide) ?_
  refine ae_pcallS (pc := 4) (z := zX11_in) (As := [_, _, _]) dX11_refine_4 rfl rfl rfl rfl (Nat.le_of_ble_eq_true rfl) (sm_in d _ _ _ _) ?_
  refine ae_if_ne (pc := 7) (t := 13) dX11_refine_7 (by decide) (fun c7 => ?_) (fun c7 => ?_)
  rotate_left
  · exact absurd (rngI hr.1 hr.2 (by decide)) (bI_eq0.mp (Classical.not_not.mp c7))
  refine ae_aload_n (pc := 13) dX11_refine_13 rfl ?_
  refine ae_getR (pc := 14) (k := 33) (c := 11) (j := 0) (q := 34) dX11_refine_14 rfl rfl (Nat.le_of_ble_eq_true rfl) rfl (Nat.le_of_ble_eq_true rfl) rfl ?_
  refine ae_sipush (pc := 17) (v := nI 258) dX11_refine_17 (by decide) ?_
  refine ae_iaload (pc := 20) (k := 34) (N := 549) (v := nI 0) _ dX11_refine_20 (Nat.le_of_ble_eq_true rfl) rfl rfl rfl (by omega) hn1 ?_
  refine ae_if_ne (pc := 21) (t := 27) dX11_refine_21 (by decide) (fun c21 => ?_) (fun c21 => ?_)
  · exact absurd rfl c21
  refine ae_bipush (pc := 24) (v := (-3)) dX11_refine_24 (by decide) ?_
  refine ae_ireturn (pc := 26) dX11_refine_26 rfl ?_
  exact ⟨rfl, rfl⟩
theorem sm_refine (d : Nat) (M : am_M) (hf : wf0 (M.1 34)) (u : Nat) (hu : M.1 33 2 = nI u) (hu2 : u ≤ 10) (r : Nat) (hr : 1 ≤ r ∧ r ≤ 20) (hz : 0 < fN (M.1 34)) : am_R (d + 7) zX11_refine [.ref 33, .int (nI r)] M (fun v M' => v = some (.int (nI (rfW r (kpF (M.1 34) 1)).2)) ∧ ∃ S T, M' = rdM (kpM M u 1) S T (rfW r (kpF (M.1 34) 1)).1) := by
  refine ae_enter (z := zX11_refine) (y := yX11_refine) (cc := cX11_refine) (mL := 5) (rt := some .int) (ci := 11) (st := false) (np := 1) (L := [some (.ref 33), some (.int (nI r)), none, none, none]) rfl (by decide) (Nat.le_of_ble_eq_true rfl) rfl ?_
  obtain ⟨-, -, hn1, hn2⟩ := id hf
  obtain ⟨q1, q2, q3, q4⟩ := wf0_kp hf 1
  have main : ∀ m k g S T f, k + m = r → (g = 1 ∨ g = 0) → wf0 f → fN f = fN (M.1 34) → ∀ n, am_E none (am_R (d + 6)) cX11_refine 11 (some .int) (fun v M' => v = some (.int (nI (n + (if g = 1 then (rfW m f).2 else 0)))) ∧ ∃ S T, M' = rdM (kpM M u 1) S T (if g = 1 then (rfW m f).1 else f)) (39, [some (.ref 33), some (.int (nI r)), some (.int (nI n)), some (.int g), some (.int (nI k))], [], rdM (kpM M u 1) S T f) := by
    intro m
    induction m with
    | zero =>
      intro k g S T f hk hg hwf hfn n
      refine ae_iload (pc := 39) dX11_refine_39 rfl ?_
      refine ae_iload_n (pc := 41) dX11_refine_41 rfl ?_
      refine ae_icmp_ge (pc := 42) (t := 72) dX11_refine_42 (by decide) (fun c42 => ?_) (fun c42 => ?_)
      rotate_left
      · exact absurd (nI_le (by omega) (by omega)) c42
      refine ae_iload_n (pc := 72) dX11_refine_72 rfl ?_
      refine ae_ireturn (pc := 73) dX11_refine_73 rfl ?_
      refine ⟨?_, S, T, ?_⟩ <;> rcases hg with rfl | rfl <;> rfl
    | succ m ih =>
      intro k g S T f hk hg hwf hfn n
      refine ae_iload (pc := 39) dX11_refine_39 rfl ?_
      refine ae_iload_n (pc := 41) dX11_refine_41 rfl ?_
      refine ae_icmp_ge (pc := 42) (t := 72) dX11_refine_42 (by decide) (fun q => absurd q (by rw [nI_leI (by omega) (by omega)]; omega)) (fun _ => ?_)
      rcases hg with rfl | rfl
      · have sr := sm_rounds d (rdM (kpM M u 1) S T f) (by rw [rdM_34]; exact hwf) (by rw [rdM_34, hfn]; exact hz)
        rw [rdM_34] at sr
        refine ae_iload_n (pc := 45) dX11_refine_45 rfl ?_
        refine ae_if_eq (pc := 46) (t := 72) dX11_refine_46 (by decide) (fun q => absurd q (by decide)) (fun _ => ?_)
        refine ae_aload_n (pc := 49) dX11_refine_49 rfl ?_
        refine ae_callV (pc := 50) (z := zX11_rounds) (k := 33) (As := []) dX11_refine_50 rfl rfl rfl rfl (Nat.le_of_ble_eq_true rfl) rfl (Nat.le_of_ble_eq_true rfl) (Nat.le_of_ble_eq_true rfl) (sr) (fun v M' hq => ?_)
        obtain ⟨rfl, S', T', rfl⟩ := hq
        obtain ⟨w1, w2, w3, w4⟩ := rnF_wf (k := fN f) hwf
        have e1 : ∀ S' T' F, rdM (rdM (kpM M u 1) S T f) S' T' F = rdM (kpM M u 1) S' T' F := by
          intro S' T' F
          refine Prod.ext (funext fun q => ?_) rfl
          simp only [rdM, am_u]
          by_cases h4 : q = 34 <;> by_cases h0 : q = 42 <;> by_cases h1 : q = 46 <;> simp_all
        rw [e1]
        by_cases hB : rnB f (fN f) = true
        · rw [bI_t hB]
          have e2 : rfW (m + 1) f = ((rfW m (rnF f (fN f))).1, (rfW m (rnF f (fN f))).2 + 1) := by rw [rfW, if_pos hB]
          simp only [e2]
          refine ae_istore_n (pc := 53) dX11_refine_53 rfl (Nat.le_of_ble_eq_true rfl) ?_
          refine ae_iload_n (pc := 54) dX11_refine_54 rfl ?_
          refine ae_iload_n (pc := 55) dX11_refine_55 rfl ?_
          refine ae_if_eq (pc := 56) (t := 63) dX11_refine_56 (by decide) (fun c56 => ?_) (fun c56 => ?_)
          · exact absurd c56 (by decide)
          refine ae_iconst (pc := 59) (v := nI 1) dX11_refine_59 (by decide) ?_
          refine ae_goto (pc := 60) (t := 64) dX11_refine_60 (by decide) ?_
          refine ae_iadd (pc := 64) (v := nI (n + 1)) dX11_refine_64 (nI_add n 1) ?_
          refine ae_istore_n (pc := 65) dX11_refine_65 rfl (Nat.le_of_ble_eq_true rfl) ?_
          refine ae_iinc (pc := 66) (v := nI (k + 1)) dX11_refine_66 rfl (nI_inc k) ?_
          refine ae_goto (pc := 69) (t := 39) dX11_refine_69 (by decide) ?_
          have h9 := ih (k + 1) 1 S' T' (rnF f (fN f)) (by omega) (Or.inl rfl) w1 (w4.trans hfn) (n + 1)
          simp only [if_true] at h9 ⊢
          rw [Nat.add_assoc, Nat.add_comm 1] at h9
          exact h9
        · rw [bI_f hB]
          have e2 : rfW (m + 1) f = (rnF f (fN f), 0) := by rw [rfW, if_neg hB]
          simp only [e2]
          refine ae_istore_n (pc := 53) dX11_refine_53 rfl (Nat.le_of_ble_eq_true rfl) ?_
          refine ae_iload_n (pc := 54) dX11_refine_54 rfl ?_
          refine ae_iload_n (pc := 55) dX11_refine_55 rfl ?_
          refine ae_if_eq (pc := 56) (t := 63) dX11_refine_56 (by decide) (fun c56 => ?_) (fun c56 => ?_)
          rotate_left
          · exact absurd rfl c56
          refine ae_iconst (pc := 63) (v := nI 0) dX11_refine_63 (by decide) ?_
          refine ae_iadd (pc := 64) (v := nI (n + 0)) dX11_refine_64 (nI_add n 0) ?_
          refine ae_istore_n (pc := 65) dX11_refine_65 rfl (Nat.le_of_ble_eq_true rfl) ?_
          refine ae_iinc (pc := 66) (v := nI (k + 1)) dX11_refine_66 rfl (nI_inc k) ?_
          refine ae_goto (pc := 69) (t := 39) dX11_refine_69 (by decide) ?_
          have h9 := ih (k + 1) 0 S' T' (rnF f (fN f)) (by omega) (Or.inr rfl) w1 (w4.trans hfn) (n + 0)
          exact h9
      · refine ae_iload_n (pc := 45) dX11_refine_45 rfl ?_
        refine ae_if_eq (pc := 46) (t := 72) dX11_refine_46 (by decide) (fun _ => ?_) (fun q => absurd rfl q)
        refine ae_iload_n (pc := 72) dX11_refine_72 rfl ?_
        refine ae_ireturn (pc := 73) dX11_refine_73 rfl ?_
        exact ⟨rfl, S, T, rfl⟩
  refine ae_iload_n (pc := 0) dX11_refine_0 rfl ?_
  refine ae_iconst (pc := 1) (v := nI 1) dX11_refine_1 (by decide) ?_
  refine ae_bipush (pc := 2) (v := nI 20) dX11_refine_2 (by decide) ?_
  refine ae_pcallS (pc := 4) (z := zX11_in) (As := [_, _, _]) dX11_refine_4 rfl rfl rfl rfl (Nat.le_of_ble_eq_true rfl) (sm_in (d + 5) _ _ _ _) ?_
  refine ae_if_ne (pc := 7) (t := 13) dX11_refine_7 (by decide) (fun _ => ?_) (fun q => absurd (rngI hr.1 hr.2 (by decide)) (bI_eq0.mp (Classical.not_not.mp q)))
  refine ae_aload_n (pc := 13) dX11_refine_13 rfl ?_
  refine ae_getR (pc := 14) (k := 33) (c := 11) (j := 0) (q := 34) dX11_refine_14 rfl rfl (Nat.le_of_ble_eq_true rfl) rfl (Nat.le_of_ble_eq_true rfl) rfl ?_
  refine ae_sipush (pc := 17) (v := nI 258) dX11_refine_17 (by decide) ?_
  refine ae_iaload (pc := 20) (k := 34) (N := 549) (v := nI (fN (M.1 34))) _ dX11_refine_20 (Nat.le_of_ble_eq_true rfl) rfl rfl rfl (by omega) hn1 ?_
  refine ae_if_ne (pc := 21) (t := 27) dX11_refine_21 (by decide) (fun _ => ?_) (fun q => absurd (nI_ne0 hz (by omega)) q)
  refine ae_aload_n (pc := 27) dX11_refine_27 rfl ?_
  refine ae_iconst (pc := 28) (v := nI 1) dX11_refine_28 (by decide) ?_
  refine ae_callV (pc := 29) (z := zX11_keeps) (k := 33) (As := [_]) dX11_refine_29 rfl rfl rfl rfl (Nat.le_of_ble_eq_true rfl) rfl (Nat.le_of_ble_eq_true rfl) (Nat.le_of_ble_eq_true rfl) (sm_keeps (d + 5) M u hu hu2 _) (fun v M' hq => ?_)
  obtain ⟨rfl, rfl⟩ := hq
  refine ae_iconst (pc := 32) (v := nI 0) dX11_refine_32 (by decide) ?_
  refine ae_istore_n (pc := 33) dX11_refine_33 rfl (Nat.le_of_ble_eq_true rfl) ?_
  refine ae_iconst (pc := 34) (v := nI 1) dX11_refine_34 (by decide) ?_
  refine ae_istore_n (pc := 35) dX11_refine_35 rfl (Nat.le_of_ble_eq_true rfl) ?_
  refine ae_iconst (pc := 36) (v := nI 0) dX11_refine_36 (by decide) ?_
  refine ae_istore (pc := 37) dX11_refine_37 rfl (Nat.le_of_ble_eq_true rfl) ?_
  skip
  refine ae_M (M' := rdM (kpM M u 1) ((kpM M u 1).1 42) ((kpM M u 1).1 46) (kpF (M.1 34) 1)) (by rw [← kp34 M u 1]; exact (rdM_eta _).symm) ?_
  have h9 := main r 0 1 ((kpM M u 1).1 42) ((kpM M u 1).1 46) (kpF (M.1 34) 1) (by omega) (Or.inl rfl) q1 q4 0
  simp only [if_true, Nat.zero_add] at h9
  exact h9
theorem sm_merge0 (d : Nat) (M : am_M) (x : Int32) (hn : ¬ (nI 1 ≤ x ∧ x ≤ nI 16)) : am_R (d + 2) zX11_merge [.ref 33, .int x] M (fun v M' => v = some (.int (-2)) ∧ M' = M) := by
  refine ae_enter (z := zX11_merge) (y := yX11_merge) (cc := cX11_merge) (mL := 3) (rt := some .int) (ci := 11) (st := false) (np := 1) (L := [some (.ref 33), some (.int x), none]) rfl (by decide) (Nat.le_of_ble_eq_true rfl) rfl ?_
  refine ae_iload_n (pc := 0) dX11_merge_0 rfl ?_
  refine ae_iconst (pc := 1) (v := nI 1) dX11_merge_1 (by decide) ?_
  refine ae_bipush (pc := 2) (v := nI 16) dX11_merge_2 (by decide) ?_
  refine ae_pcallS (pc := 4) (z := zX11_in) (As := [_, _, _]) dX11_merge_4 rfl rfl rfl rfl (Nat.le_of_ble_eq_true rfl) (sm_in d _ _ _ _) ?_
  refine ae_if_ne (pc := 7) (t := 13) dX11_merge_7 (by decide) (fun c7 => ?_) (fun c7 => ?_)
  · exact (hn (bI_ne0.mp c7)).elim
  · refine ae_bipush (pc := 10) (v := (-2)) dX11_merge_10 (by decide) ?_
    refine ae_ireturn (pc := 12) dX11_merge_12 rfl ?_
    exact ⟨rfl, rfl⟩
theorem sm_merge (d : Nat) (M : am_M) (hf : wf0 (M.1 34)) (u : Nat) (hu : M.1 33 2 = nI u) (hu2 : u ≤ 10) (n : Nat) (hn : 1 ≤ n ∧ n ≤ 16) : am_R (d + 7) zX11_merge [.ref 33, .int (nI n)] M (fun v M' => v = some (.int (nI (fN (mgW n 16 (kpF (M.1 34) 1))))) ∧ ∃ S, M' = rw34 (am_u (kpM M u 1).1 42 S, M.2) (mgW n 16 (kpF (M.1 34) 1))) := by
  refine ae_enter (z := zX11_merge) (y := yX11_merge) (cc := cX11_merge) (mL := 3) (rt := some .int) (ci := 11) (st := false) (np := 1) (L := [some (.ref 33), some (.int (nI n)), none]) rfl (by decide) (Nat.le_of_ble_eq_true rfl) rfl ?_
  obtain ⟨-, -, hn1, hn2⟩ := id hf
  obtain ⟨q1, q2, q3, q4⟩ := wf0_kp hf 1
  have stp : ∀ S f, wf0 f → ∀ g, am_E none (am_R (d + 6)) cX11_merge 11 (some .int) (fun v M' => v = some (.int (nI (fN f))) ∧ ∃ S, M' = rw34 (am_u (kpM M u 1).1 42 S, M.2) f) (44, [some (.ref 33), some (.int (nI n)), some (.int g)], [], rw34 (am_u (kpM M u 1).1 42 S, M.2) f) := by
    intro S f hwf g
    refine ae_aload_n (pc := 44) dX11_merge_44 rfl ?_
    refine ae_getR (pc := 45) (k := 33) (c := 11) (j := 0) (q := 34) dX11_merge_45 rfl rfl (Nat.le_of_ble_eq_true rfl) rfl (Nat.le_of_ble_eq_true rfl) rfl ?_
    refine ae_sipush (pc := 48) (v := nI 258) dX11_merge_48 (by decide) ?_
    refine ae_iaload (pc := 51) (k := 34) (N := 549) (v := nI (fN f)) _ dX11_merge_51 (Nat.le_of_ble_eq_true rfl) rfl rfl rfl (by omega) (by rw [rw34_34]; exact hwf.2.2.1) ?_
    refine ae_ireturn (pc := 52) dX11_merge_52 rfl ?_
    exact ⟨rfl, S, rfl⟩
  have main : ∀ m S f, wf0 f → fN f ≤ n + m → am_E none (am_R (d + 6)) cX11_merge 11 (some .int) (fun v M' => v = some (.int (nI (fN (mgW n m f)))) ∧ ∃ S, M' = rw34 (am_u (kpM M u 1).1 42 S, M.2) (mgW n m f)) (20, [some (.ref 33), some (.int (nI n)), some (.int (nI 1))], [], rw34 (am_u (kpM M u 1).1 42 S, M.2) f) := by
    intro m
    induction m with
    | zero =>
      intro S f hwf hm
      have h16 := hwf.2.2.2
      refine ae_iload_n (pc := 20) dX11_merge_20 rfl ?_
      refine ae_if_eq (pc := 21) (t := 44) dX11_merge_21 (by decide) (fun q => absurd q (by decide)) (fun _ => ?_)
      refine ae_aload_n (pc := 24) dX11_merge_24 rfl ?_
      refine ae_getR (pc := 25) (k := 33) (c := 11) (j := 0) (q := 34) dX11_merge_25 rfl rfl (Nat.le_of_ble_eq_true rfl) rfl (Nat.le_of_ble_eq_true rfl) rfl ?_
      refine ae_sipush (pc := 28) (v := nI 258) dX11_merge_28 (by decide) ?_
      refine ae_iaload (pc := 31) (k := 34) (N := 549) (v := nI (fN f)) _ dX11_merge_31 (Nat.le_of_ble_eq_true rfl) rfl rfl rfl (by omega) (by rw [rw34_34]; exact hwf.2.2.1) ?_
      refine ae_iload_n (pc := 32) dX11_merge_32 rfl ?_
      refine ae_icmp_le (pc := 33) (t := 44) dX11_merge_33 (by decide) (fun _ => stp S f hwf _) (fun q => absurd (nI_le (by omega) (by omega)) q)
    | succ m ih =>
      intro S f hwf hm
      have h16 := hwf.2.2.2
      refine ae_iload_n (pc := 20) dX11_merge_20 rfl ?_
      refine ae_if_eq (pc := 21) (t := 44) dX11_merge_21 (by decide) (fun q => absurd q (by decide)) (fun _ => ?_)
      refine ae_aload_n (pc := 24) dX11_merge_24 rfl ?_
      refine ae_getR (pc := 25) (k := 33) (c := 11) (j := 0) (q := 34) dX11_merge_25 rfl rfl (Nat.le_of_ble_eq_true rfl) rfl (Nat.le_of_ble_eq_true rfl) rfl ?_
      refine ae_sipush (pc := 28) (v := nI 258) dX11_merge_28 (by decide) ?_
      refine ae_iaload (pc := 31) (k := 34) (N := 549) (v := nI (fN f)) _ dX11_merge_31 (Nat.le_of_ble_eq_true rfl) rfl rfl rfl (by omega) (by rw [rw34_34]; exact hwf.2.2.1) ?_
      refine ae_iload_n (pc := 32) dX11_merge_32 rfl ?_
      refine ae_icmp_le (pc := 33) (t := 44) dX11_merge_33 (by decide) (fun c33 => ?_) (fun c33 => ?_)
      · rw [nI_leI (by omega) (by omega)] at c33
        rw [mgW, if_pos c33]
        exact stp S f hwf _
      · rw [nI_leI (by omega) (by omega)] at c33
        have sp := sm_mergesTwo d (rw34 (am_u (kpM M u 1).1 42 S, M.2) f) (by rw [rw34_34]; exact hwf) (by rw [rw34_34]; omega)
        rw [rw34_34] at sp
        rw [mgW, if_neg c33]
        have e1 : ∀ S' F, rw34 (am_u (rw34 (am_u (kpM M u 1).1 42 S, M.2) f).1 42 S', (rw34 (am_u (kpM M u 1).1 42 S, M.2) f).2) F = rw34 (am_u (kpM M u 1).1 42 S', M.2) F := by
          intro S' F
          refine Prod.ext (funext fun q => ?_) rfl
          simp only [rw34, am_u]
          by_cases h4 : q = 34 <;> by_cases h0 : q = 42 <;> simp_all
        have e2 : ∀ S', ((am_u (rw34 (am_u (kpM M u 1).1 42 S, M.2) f).1 42 S', (rw34 (am_u (kpM M u 1).1 42 S, M.2) f).2) : am_M) = rw34 (am_u (kpM M u 1).1 42 S', M.2) f := by
          intro S'
          refine Prod.ext (funext fun q => ?_) rfl
          simp only [rw34, am_u]
          by_cases h4 : q = 34 <;> by_cases h0 : q = 42 <;> simp_all
        refine ae_aload_n (pc := 36) dX11_merge_36 rfl ?_
        refine ae_callV (pc := 37) (z := zX11_mergesTwo) (k := 33) (As := []) dX11_merge_37 rfl rfl rfl rfl (Nat.le_of_ble_eq_true rfl) rfl (Nat.le_of_ble_eq_true rfl) (Nat.le_of_ble_eq_true rfl) (sp) (fun v M' hq => ?_)
        cases hx : mgI f (fN f) with
        | none =>
          rw [hx] at hq
          obtain ⟨rfl, S', rfl⟩ := hq
          rw [e2]
          refine ae_istore_n (pc := 40) dX11_merge_40 rfl (Nat.le_of_ble_eq_true rfl) ?_
          refine ae_goto (pc := 41) (t := 20) dX11_merge_41 (by decide) ?_
          refine ae_iload_n (pc := 20) dX11_merge_20 rfl ?_
          refine ae_if_eq (pc := 21) (t := 44) dX11_merge_21 (by decide) (fun _ => stp S' f hwf _) (fun q => absurd rfl q)
        | some q =>
          rw [hx] at hq
          obtain ⟨rfl, S', rfl⟩ := hq
          obtain ⟨k1, k2, -⟩ := mgI_ok (f := f) (Nat.le_refl _) q hx
          obtain ⟨w1, w2, w3, w4⟩ := mgS_wf hwf k1 k2
          rw [e1]
          refine ae_istore_n (pc := 40) dX11_merge_40 rfl (Nat.le_of_ble_eq_true rfl) ?_
          refine ae_goto (pc := 41) (t := 20) dX11_merge_41 (by decide) ?_
          exact ih S' (mgS f q.1 q.2) w1 (by omega)
  refine ae_iload_n (pc := 0) dX11_merge_0 rfl ?_
  refine ae_iconst (pc := 1) (v := nI 1) dX11_merge_1 (by decide) ?_
  refine ae_bipush (pc := 2) (v := nI 16) dX11_merge_2 (by decide) ?_
  refine ae_pcallS (pc := 4) (z := zX11_in) (As := [_, _, _]) dX11_merge_4 rfl rfl rfl rfl (Nat.le_of_ble_eq_true rfl) (sm_in (d + 5) _ _ _ _) ?_
  refine ae_if_ne (pc := 7) (t := 13) dX11_merge_7 (by decide) (fun _ => ?_) (fun q => absurd (rngI hn.1 hn.2 (by decide)) (bI_eq0.mp (Classical.not_not.mp q)))
  refine ae_aload_n (pc := 13) dX11_merge_13 rfl ?_
  refine ae_iconst (pc := 14) (v := nI 1) dX11_merge_14 (by decide) ?_
  refine ae_callV (pc := 15) (z := zX11_keeps) (k := 33) (As := [_]) dX11_merge_15 rfl rfl rfl rfl (Nat.le_of_ble_eq_true rfl) rfl (Nat.le_of_ble_eq_true rfl) (Nat.le_of_ble_eq_true rfl) (sm_keeps (d + 5) M u hu hu2 _) (fun v M' hq => ?_)
  obtain ⟨rfl, rfl⟩ := hq
  refine ae_iconst (pc := 18) (v := nI 1) dX11_merge_18 (by decide) ?_
  refine ae_istore_n (pc := 19) dX11_merge_19 rfl (Nat.le_of_ble_eq_true rfl) ?_
  skip
  refine ae_M (M' := rw34 (am_u (kpM M u 1).1 42 ((kpM M u 1).1 42), M.2) (kpF (M.1 34) 1)) (by rw [am_u_eta, ← kp34 M u 1]; exact (rw34_eta _).symm) ?_
  exact main 16 _ _ q1 (by omega)

