theorem sm_diffuses (d : Nat) (M : am_M) (f T : fT) (hf : wf0 f) (hz : 0 < fN f) (mt : Nat) (hm : mt < 4) : am_R (d + 6) zX11_diffuses [.ref 33, .int (nI mt)] (gM (rw34 M f) T) (fun r M' => r = none ∧ M' = gM (rw34 M (dfS mt f (dfI T f (3 * fA f)) (fA f)).1) (dfS mt f (dfI T f (3 * fA f)) (fA f)).2) := by
  refine ae_enter (z := zX11_diffuses) (y := yX11_diffuses) (cc := cX11_diffuses) (mL := 5) (rt := none) (ci := 11) (st := false) (np := 1) (L := [some (.ref 33), some (.int (nI mt)), none, none, none]) rfl (by decide) (Nat.le_of_ble_eq_true rfl) rfl ?_
  have hA := fA_le hf
  obtain ⟨⟨w1, w2, w3⟩, -, -⟩ := id hf
  have m34 : ∀ f T, (gM (rw34 M f) T).1 34 = f := fun f T => by rw [gM_34, rw34_34]
  have hpx : ∀ g T', sm293 g f → am_R (d + 5) zX11_pixels [.ref 33] (gM (rw34 M g) T') (fun v M' => v = some (.int (nI (fA f))) ∧ M' = gM (rw34 M g) T') := by
    intro g T' h
    obtain ⟨v1, v2, v3, v4⟩ := h.wf hf
    have := sm_pixels (d + 4) (gM (rw34 M g) T') (by rw [m34]; exact v1)
    rw [m34, show fA g = fA f by unfold fA; rw [v2, v3]] at this
    exact this
  refine ae_iconst (pc := 0) (v := nI 0) dX11_diffuses_0 (by decide) ?_
  refine ae_istore_n (pc := 1) dX11_diffuses_1 rfl (Nat.le_of_ble_eq_true rfl) ?_
  skip
  refine ae_M (M' := gM (rw34 M f) (dfI T f 0)) (by rw [show dfI T f 0 = T from st_0 _ _ _]) ?_
  refine am_down (P := fun k => am_E none (am_R (d + 5)) cX11_diffuses 11 none _ (2, [some (.ref 33), some (.int (nI mt)), some (.int (nI k)), none, none], [], gM (rw34 M f) (dfI T f k))) (3 * fA f) (fun k hk ih => ?_)
  refine ae_iload_n (pc := 2) dX11_diffuses_2 rfl ?_
  refine ae_iconst (pc := 3) (v := nI 3) dX11_diffuses_3 (by decide) ?_
  refine ae_aload_n (pc := 4) dX11_diffuses_4 rfl ?_
  refine ae_pcallV (pc := 5) (z := zX11_pixels) (k := 33) (As := []) dX11_diffuses_5 rfl rfl rfl rfl (Nat.le_of_ble_eq_true rfl) rfl (Nat.le_of_ble_eq_true rfl) (Nat.le_of_ble_eq_true rfl) (hpx f _ (fun _ _ => rfl)) ?_
  refine ae_imul (pc := 8) (v := nI (3 * fA f)) dX11_diffuses_8 (nI_mul _ _) ?_
  refine ae_icmp_ge (pc := 9) (t := 57) dX11_diffuses_9 (by decide) (fun c9 => ?_) (fun c9 => ?_)
  rotate_left
  · have hk2 : k < 3 * fA f := by rw [nI_leI (by omega) (by omega)] at c9; omega
    have hk3 : k / 3 < fA f := by omega
    have hio := sm_isOpaque (d + 4) (gM (rw34 M f) (dfI T f k)) (k / 3) (by omega)
    rw [m34] at hio
    refine ae_aload_n (pc := 12) dX11_diffuses_12 rfl ?_
    refine ae_getR (pc := 13) (k := 33) (c := 11) (j := 19) (q := 48) dX11_diffuses_13 rfl rfl (Nat.le_of_ble_eq_true rfl) rfl (Nat.le_of_ble_eq_true rfl) rfl ?_
    refine ae_iload_n (pc := 16) dX11_diffuses_16 rfl ?_
    refine ae_aload_n (pc := 17) dX11_diffuses_17 rfl ?_
    refine ae_iload_n (pc := 18) dX11_diffuses_18 rfl ?_
    refine ae_iconst (pc := 19) (v := nI 3) dX11_diffuses_19 (by decide) ?_
    refine ae_idiv (pc := 20) (v := nI (k / 3)) dX11_diffuses_20 (by decide) (nI_div (by omega) (by decide)) ?_
    refine ae_pcallV (pc := 21) (z := zX11_isOpaque) (k := 33) (As := [_]) dX11_diffuses_21 rfl rfl rfl rfl (Nat.le_of_ble_eq_true rfl) rfl (Nat.le_of_ble_eq_true rfl) (Nat.le_of_ble_eq_true rfl) (hio) ?_
    refine ae_if_eq (pc := 24) (t := 49) dX11_diffuses_24 (by decide) (fun c24 => ?_) (fun c24 => ?_)
    · refine ae_iconst (pc := 49) (v := nI 0) dX11_diffuses_49 (by decide) ?_
      refine ae_iastore (pc := 50) (k := 48) (N := 768) (v := if f (2 + k / 3) = -1 then nI 0 else nI 16 * cha (f (2 + k / 3)) (k % 3)) (k) dX11_diffuses_50 (Nat.le_of_ble_eq_true rfl) rfl rfl rfl (by omega) (by first | rw [if_neg (bI_ne0.mp c24)] | rw [if_pos (by simpa using bI_eq0.mp c24)]) ?_
      refine ae_M (gM_u48 _ _ _) ?_
      rw [gM_48, df_row]
      refine ae_iinc (pc := 51) (v := nI (k + 1)) dX11_diffuses_51 rfl (nI_inc k) ?_
      refine ae_goto (pc := 54) (t := 2) dX11_diffuses_54 (by decide) ?_
      exact ih hk2
    · refine ae_bipush (pc := 27) (v := nI 16) dX11_diffuses_27 (by decide) ?_
      refine ae_aload_n (pc := 29) dX11_diffuses_29 rfl ?_
      refine ae_getR (pc := 30) (k := 33) (c := 11) (j := 0) (q := 34) dX11_diffuses_30 rfl rfl (Nat.le_of_ble_eq_true rfl) rfl (Nat.le_of_ble_eq_true rfl) rfl ?_
      refine ae_iconst (pc := 33) (v := nI 2) dX11_diffuses_33 (by decide) ?_
      refine ae_iload_n (pc := 34) dX11_diffuses_34 rfl ?_
      refine ae_iconst (pc := 35) (v := nI 3) dX11_diffuses_35 (by decide) ?_
      refine ae_idiv (pc := 36) (v := nI (k / 3)) dX11_diffuses_36 (by decide) (nI_div (by omega) (by decide)) ?_
      refine ae_iadd (pc := 37) (v := nI (2 + k / 3)) dX11_diffuses_37 (nI_add _ _) ?_
      refine ae_iaload (pc := 38) (k := 34) (N := 549) (v := f (2 + k / 3)) (2 + k / 3) dX11_diffuses_38 (Nat.le_of_ble_eq_true rfl) rfl rfl rfl (by omega) (by rw [m34]) ?_
      refine ae_iload_n (pc := 39) dX11_diffuses_39 rfl ?_
      refine ae_iconst (pc := 40) (v := nI 3) dX11_diffuses_40 (by decide) ?_
      refine ae_irem (pc := 41) (v := nI (k % 3)) dX11_diffuses_41 (by decide) (nI_mod (by omega) (by decide)) ?_
      refine ae_pcallS (pc := 42) (z := zX11_channel) (As := [_, _]) dX11_diffuses_42 rfl rfl rfl rfl (Nat.le_of_ble_eq_true rfl) (sm_channel (d + 4) _ _ _) ?_
      refine ae_imul (pc := 45) dX11_diffuses_45 rfl ?_
      refine ae_goto (pc := 46) (t := 50) dX11_diffuses_46 (by decide) ?_
      refine ae_iastore (pc := 50) (k := 48) (N := 768) (v := if f (2 + k / 3) = -1 then nI 0 else nI 16 * cha (f (2 + k / 3)) (k % 3)) (k) dX11_diffuses_50 (Nat.le_of_ble_eq_true rfl) rfl rfl rfl (by omega) (by first | rw [if_neg (bI_ne0.mp c24)] | rw [if_pos (by simpa using bI_eq0.mp c24)]) ?_
      refine ae_M (gM_u48 _ _ _) ?_
      rw [gM_48, df_row]
      refine ae_iinc (pc := 51) (v := nI (k + 1)) dX11_diffuses_51 rfl (nI_inc k) ?_
      refine ae_goto (pc := 54) (t := 2) dX11_diffuses_54 (by decide) ?_
      exact ih hk2
  have hk2 : k = 3 * fA f := by rw [nI_leI (by omega) (by omega)] at c9; omega
  subst hk2
  clear ih
  generalize hT0 : dfI T f (3 * fA f) = T0
  refine ae_iconst (pc := 57) (v := nI 0) dX11_diffuses_57 (by decide) ?_
  refine ae_istore_n (pc := 58) dX11_diffuses_58 rfl (Nat.le_of_ble_eq_true rfl) ?_
  skip
  refine am_down (P := fun k => am_E none (am_R (d + 5)) cX11_diffuses 11 none _ (59, [some (.ref 33), some (.int (nI mt)), some (.int (nI k)), none, none], [], gM (rw34 M (dfS mt f T0 k).1) (dfS mt f T0 k).2)) (fA f) (fun k hk ih => ?_)
  have hsm := dfS_sm mt f T0 k
  obtain ⟨v1, v2, v3, v4⟩ := hsm.wf hf
  refine ae_iload_n (pc := 59) dX11_diffuses_59 rfl ?_
  refine ae_aload_n (pc := 60) dX11_diffuses_60 rfl ?_
  refine ae_pcallV (pc := 61) (z := zX11_pixels) (k := 33) (As := []) dX11_diffuses_61 rfl rfl rfl rfl (Nat.le_of_ble_eq_true rfl) rfl (Nat.le_of_ble_eq_true rfl) (Nat.le_of_ble_eq_true rfl) (hpx _ _ hsm) ?_
  refine ae_icmp_ge (pc := 64) (t := 144) dX11_diffuses_64 (by decide) (fun c64 => ?_) (fun c64 => ?_)
  · have hk2 : k = fA f := by rw [nI_leI (by omega) (by omega)] at c64; omega
    subst hk2
    refine ae_return (pc := 144) dX11_diffuses_144 rfl ?_
    exact ⟨rfl, rfl⟩
  · have hk2 : k < fA f := by rw [nI_leI (by omega) (by omega)] at c64; omega
    have hW : (gM (rw34 M (dfS mt f T0 k).1) (dfS mt f T0 k).2).1 34 0 = nI (fW f) := by rw [m34, hsm 0 (by decide)]; exact w1
    have hxl := dfX_lt hf k
    have hyl := df_y hk2
    have hpl := pl_lt hf hxl hyl
    have hdl : k / fW f ≤ k := Nat.div_le_self _ _
    have hml := Nat.mod_lt k (show 0 < fW f by omega)
    have go : am_E none (am_R (d + 5)) cX11_diffuses 11 none (fun r M' => r = none ∧ M' = gM (rw34 M (dfS mt f T0 (fA f)).1) (dfS mt f T0 (fA f)).2) (110, [some (.ref 33), some (.int (nI mt)), some (.int (nI k)), some (.int (nI (k / fW f))), none], [.int (nI (dfX f k))], gM (rw34 M (dfS mt f T0 k).1) (dfS mt f T0 k).2) := by
      have hio := sm_isOpaque (d + 4) (gM (rw34 M (dfS mt f T0 k).1) (dfS mt f T0 k).2) (k / fW f * fW f + dfX f k) (by omega)
      rw [m34, hsm (2 + (k / fW f * fW f + dfX f k)) (by omega)] at hio
      rw [dfS_s] at ih
      by_cases ho : f (2 + (k / fW f * fW f + dfX f k)) = -1
      · rw [if_pos ho] at ih
        rw [bI_f (by simpa using ho)] at hio
        refine ae_istore (pc := 110) dX11_diffuses_110 rfl (Nat.le_of_ble_eq_true rfl) ?_
        refine ae_aload_n (pc := 112) dX11_diffuses_112 rfl ?_
        refine ae_iload_n (pc := 113) dX11_diffuses_113 rfl ?_
        refine ae_aload_n (pc := 114) dX11_diffuses_114 rfl ?_
        refine ae_getR (pc := 115) (k := 33) (c := 11) (j := 0) (q := 34) dX11_diffuses_115 rfl rfl (Nat.le_of_ble_eq_true rfl) rfl (Nat.le_of_ble_eq_true rfl) rfl ?_
        refine ae_iconst (pc := 118) (v := nI 0) dX11_diffuses_118 (by decide) ?_
        refine ae_iaload (pc := 119) (k := 34) (N := 549) (v := nI (fW f)) _ dX11_diffuses_119 (Nat.le_of_ble_eq_true rfl) rfl rfl rfl (by omega) hW ?_
        refine ae_imul (pc := 120) (v := nI (k / fW f * fW f)) dX11_diffuses_120 (nI_mul _ _) ?_
        refine ae_iload (pc := 121) dX11_diffuses_121 rfl ?_
        refine ae_iadd (pc := 123) (v := nI (k / fW f * fW f + dfX f k)) dX11_diffuses_123 (nI_add _ _) ?_
        refine ae_pcallV (pc := 124) (z := zX11_isOpaque) (k := 33) (As := [_]) dX11_diffuses_124 rfl rfl rfl rfl (Nat.le_of_ble_eq_true rfl) rfl (Nat.le_of_ble_eq_true rfl) (Nat.le_of_ble_eq_true rfl) (hio) ?_
        refine ae_if_eq (pc := 127) (t := 138) dX11_diffuses_127 (by decide) (fun c127 => ?_) (fun c127 => ?_)
        rotate_left
        · exact absurd rfl c127
        refine ae_iinc (pc := 138) (v := nI (k + 1)) dX11_diffuses_138 rfl (nI_inc k) ?_
        refine ae_goto (pc := 141) (t := 59) dX11_diffuses_141 (by decide) ?_
        exact ae_forget [3, 4] rfl (ih hk2)
      · rw [if_neg ho] at ih
        rw [bI_t (by simpa using ho)] at hio
        have hv := sm_visits d M (dfS mt f T0 k).1 (dfS mt f T0 k).2 v1 (by rw [v4]; exact hz) (dfX f k) (k / fW f) (by rw [v2]; exact hxl) (by rw [v3]; exact hyl) mt hm
        refine ae_istore (pc := 110) dX11_diffuses_110 rfl (Nat.le_of_ble_eq_true rfl) ?_
        refine ae_aload_n (pc := 112) dX11_diffuses_112 rfl ?_
        refine ae_iload_n (pc := 113) dX11_diffuses_113 rfl ?_
        refine ae_aload_n (pc := 114) dX11_diffuses_114 rfl ?_
        refine ae_getR (pc := 115) (k := 33) (c := 11) (j := 0) (q := 34) dX11_diffuses_115 rfl rfl (Nat.le_of_ble_eq_true rfl) rfl (Nat.le_of_ble_eq_true rfl) rfl ?_
        refine ae_iconst (pc := 118) (v := nI 0) dX11_diffuses_118 (by decide) ?_
        refine ae_iaload (pc := 119) (k := 34) (N := 549) (v := nI (fW f)) _ dX11_diffuses_119 (Nat.le_of_ble_eq_true rfl) rfl rfl rfl (by omega) hW ?_
        refine ae_imul (pc := 120) (v := nI (k / fW f * fW f)) dX11_diffuses_120 (nI_mul _ _) ?_
        refine ae_iload (pc := 121) dX11_diffuses_121 rfl ?_
        refine ae_iadd (pc := 123) (v := nI (k / fW f * fW f + dfX f k)) dX11_diffuses_123 (nI_add _ _) ?_
        refine ae_pcallV (pc := 124) (z := zX11_isOpaque) (k := 33) (As := [_]) dX11_diffuses_124 rfl rfl rfl rfl (Nat.le_of_ble_eq_true rfl) rfl (Nat.le_of_ble_eq_true rfl) (Nat.le_of_ble_eq_true rfl) (hio) ?_
        refine ae_if_eq (pc := 127) (t := 138) dX11_diffuses_127 (by decide) (fun c127 => ?_) (fun c127 => ?_)
        · exact absurd c127 (by decide)
        refine ae_aload_n (pc := 130) dX11_diffuses_130 rfl ?_
        refine ae_iload (pc := 131) dX11_diffuses_131 rfl ?_
        refine ae_iload_n (pc := 133) dX11_diffuses_133 rfl ?_
        refine ae_iload_n (pc := 134) dX11_diffuses_134 rfl ?_
        refine ae_callV (pc := 135) (z := zX11_visits) (k := 33) (As := [_, _, _]) dX11_diffuses_135 rfl rfl rfl rfl (Nat.le_of_ble_eq_true rfl) rfl (Nat.le_of_ble_eq_true rfl) (Nat.le_of_ble_eq_true rfl) (hv) (fun v M' hq => ?_)
        obtain ⟨rfl, rfl⟩ := hq
        refine ae_iinc (pc := 138) (v := nI (k + 1)) dX11_diffuses_138 rfl (nI_inc k) ?_
        refine ae_goto (pc := 141) (t := 59) dX11_diffuses_141 (by decide) ?_
        exact ae_forget [3, 4] rfl (ih hk2)
    have ez : (nI (k / fW f % 2) = 0 ∧ dfX f k = k % fW f) ∨ (¬ nI (k / fW f % 2) = 0 ∧ dfX f k = fW f - 1 - k % fW f) := by
      unfold dfX
      rcases (show k / fW f % 2 = 0 ∨ k / fW f % 2 = 1 by omega) with q | q <;> rw [q]
      · exact Or.inl ⟨rfl, rfl⟩
      · exact Or.inr ⟨by decide, rfl⟩
    rcases ez with ⟨z1, z2⟩ | ⟨z1, z2⟩
    · rw [z2] at go
      refine ae_iload_n (pc := 67) dX11_diffuses_67 rfl ?_
      refine ae_aload_n (pc := 68) dX11_diffuses_68 rfl ?_
      refine ae_getR (pc := 69) (k := 33) (c := 11) (j := 0) (q := 34) dX11_diffuses_69 rfl rfl (Nat.le_of_ble_eq_true rfl) rfl (Nat.le_of_ble_eq_true rfl) rfl ?_
      refine ae_iconst (pc := 72) (v := nI 0) dX11_diffuses_72 (by decide) ?_
      refine ae_iaload (pc := 73) (k := 34) (N := 549) (v := nI (fW f)) _ dX11_diffuses_73 (Nat.le_of_ble_eq_true rfl) rfl rfl rfl (by omega) hW ?_
      refine ae_idiv (pc := 74) (v := nI (k / fW f)) dX11_diffuses_74 (nI_ne0 (by omega) (by omega)) (nI_div (by omega) (by omega)) ?_
      refine ae_istore_n (pc := 75) dX11_diffuses_75 rfl (Nat.le_of_ble_eq_true rfl) ?_
      refine ae_iload_n (pc := 76) dX11_diffuses_76 rfl ?_
      refine ae_iconst (pc := 77) (v := nI 2) dX11_diffuses_77 (by decide) ?_
      refine ae_irem (pc := 78) (v := nI (k / fW f % 2)) dX11_diffuses_78 (by decide) (nI_mod (by omega) (by decide)) ?_
      refine ae_if_ne (pc := 79) (t := 93) dX11_diffuses_79 (by decide) (fun c79 => ?_) (fun c79 => ?_)
      · exact absurd z1 c79
      refine ae_iload_n (pc := 82) dX11_diffuses_82 rfl ?_
      refine ae_aload_n (pc := 83) dX11_diffuses_83 rfl ?_
      refine ae_getR (pc := 84) (k := 33) (c := 11) (j := 0) (q := 34) dX11_diffuses_84 rfl rfl (Nat.le_of_ble_eq_true rfl) rfl (Nat.le_of_ble_eq_true rfl) rfl ?_
      refine ae_iconst (pc := 87) (v := nI 0) dX11_diffuses_87 (by decide) ?_
      refine ae_iaload (pc := 88) (k := 34) (N := 549) (v := nI (fW f)) _ dX11_diffuses_88 (Nat.le_of_ble_eq_true rfl) rfl rfl rfl (by omega) hW ?_
      refine ae_irem (pc := 89) (v := nI (k % fW f)) dX11_diffuses_89 (nI_ne0 (by omega) (by omega)) (nI_mod (by omega) (by omega)) ?_
      refine ae_goto (pc := 90) (t := 110) dX11_diffuses_90 (by decide) ?_
      exact go
    · rw [z2] at go
      refine ae_iload_n (pc := 67) dX11_diffuses_67 rfl ?_
      refine ae_aload_n (pc := 68) dX11_diffuses_68 rfl ?_
      refine ae_getR (pc := 69) (k := 33) (c := 11) (j := 0) (q := 34) dX11_diffuses_69 rfl rfl (Nat.le_of_ble_eq_true rfl) rfl (Nat.le_of_ble_eq_true rfl) rfl ?_
      refine ae_iconst (pc := 72) (v := nI 0) dX11_diffuses_72 (by decide) ?_
      refine ae_iaload (pc := 73) (k := 34) (N := 549) (v := nI (fW f)) _ dX11_diffuses_73 (Nat.le_of_ble_eq_true rfl) rfl rfl rfl (by omega) hW ?_
      refine ae_idiv (pc := 74) (v := nI (k / fW f)) dX11_diffuses_74 (nI_ne0 (by omega) (by omega)) (nI_div (by omega) (by omega)) ?_
      refine ae_istore_n (pc := 75) dX11_diffuses_75 rfl (Nat.le_of_ble_eq_true rfl) ?_
      refine ae_iload_n (pc := 76) dX11_diffuses_76 rfl ?_
      refine ae_iconst (pc := 77) (v := nI 2) dX11_diffuses_77 (by decide) ?_
      refine ae_irem (pc := 78) (v := nI (k / fW f % 2)) dX11_diffuses_78 (by decide) (nI_mod (by omega) (by decide)) ?_
      refine ae_if_ne (pc := 79) (t := 93) dX11_diffuses_79 (by decide) (fun c79 => ?_) (fun c79 => ?_)
      rotate_left
      · exact absurd (Classical.not_not.mp c79) z1
      refine ae_aload_n (pc := 93) dX11_diffuses_93 rfl ?_
      refine ae_getR (pc := 94) (k := 33) (c := 11) (j := 0) (q := 34) dX11_diffuses_94 rfl rfl (Nat.le_of_ble_eq_true rfl) rfl (Nat.le_of_ble_eq_true rfl) rfl ?_
      refine ae_iconst (pc := 97) (v := nI 0) dX11_diffuses_97 (by decide) ?_
      refine ae_iaload (pc := 98) (k := 34) (N := 549) (v := nI (fW f)) _ dX11_diffuses_98 (Nat.le_of_ble_eq_true rfl) rfl rfl rfl (by omega) hW ?_
      refine ae_iconst (pc := 99) (v := nI 1) dX11_diffuses_99 (by decide) ?_
      refine ae_isub (pc := 100) (v := nI (fW f - 1)) dX11_diffuses_100 (nI_sub (by omega)) ?_
      refine ae_iload_n (pc := 101) dX11_diffuses_101 rfl ?_
      refine ae_aload_n (pc := 102) dX11_diffuses_102 rfl ?_
      refine ae_getR (pc := 103) (k := 33) (c := 11) (j := 0) (q := 34) dX11_diffuses_103 rfl rfl (Nat.le_of_ble_eq_true rfl) rfl (Nat.le_of_ble_eq_true rfl) rfl ?_
      refine ae_iconst (pc := 106) (v := nI 0) dX11_diffuses_106 (by decide) ?_
      refine ae_iaload (pc := 107) (k := 34) (N := 549) (v := nI (fW f)) _ dX11_diffuses_107 (Nat.le_of_ble_eq_true rfl) rfl rfl rfl (by omega) hW ?_
      refine ae_irem (pc := 108) (v := nI (k % fW f)) dX11_diffuses_108 (nI_ne0 (by omega) (by omega)) (nI_mod (by omega) (by omega)) ?_
      refine ae_isub (pc := 109) (v := nI (fW f - 1 - k % fW f)) dX11_diffuses_109 (nI_sub (by omega)) ?_
      exact go
theorem sm_map0 (d : Nat) (M : am_M) (x y : Int32) (hn : ¬ ((nI 0 ≤ x ∧ x ≤ nI 3) ∧ nI 0 ≤ y ∧ y ≤ nI 64)) : am_R (d + 2) zX11_map [.ref 33, .int x, .int y] M (fun v M' => v = some (.int (-2)) ∧ M' = M) := by
  refine ae_enter (z := zX11_map) (y := yX11_map) (cc := cX11_map) (mL := 5) (rt := some .int) (ci := 11) (st := false) (np := 2) (L := [some (.ref 33), some (.int x), some (.int y), none, none]) rfl (by decide) (Nat.le_of_ble_eq_true rfl) rfl ?_
  refine ae_iload_n (pc := 0) dX11_map_0 rfl ?_
  refine ae_iconst (pc := 1) (v := nI 0) dX11_map_1 (by decide) ?_
  refine ae_iconst (pc := 2) (v := nI 3) dX11_map_2 (by decide) ?_
  refine ae_pcallS (pc := 3) (z := zX11_in) (As := [_, _, _]) dX11_map_3 rfl rfl rfl rfl (Nat.le_of_ble_eq_true rfl) (sm_in d _ _ _ _) ?_
  refine ae_if_eq (pc := 6) (t := 19) dX11_map_6 (by decide) (fun c6 => ?_) (fun c6 => ?_)
  · refine ae_bipush (pc := 19) (v := (-2)) dX11_map_19 (by decide) ?_
    refine ae_ireturn (pc := 21) dX11_map_21 rfl ?_
    exact ⟨rfl, rfl⟩
  · refine ae_iload_n (pc := 9) dX11_map_9 rfl ?_
    refine ae_iconst (pc := 10) (v := nI 0) dX11_map_10 (by decide) ?_
    refine ae_bipush (pc := 11) (v := nI 64) dX11_map_11 (by decide) ?_
    refine ae_pcallS (pc := 13) (z := zX11_in) (As := [_, _, _]) dX11_map_13 rfl rfl rfl rfl (Nat.le_of_ble_eq_true rfl) (sm_in d _ _ _ _) ?_
    refine ae_if_ne (pc := 16) (t := 22) dX11_map_16 (by decide) (fun c16 => ?_) (fun c16 => ?_)
    · exact (hn ⟨bI_ne0.mp c6, bI_ne0.mp c16⟩).elim
    · refine ae_bipush (pc := 19) (v := (-2)) dX11_map_19 (by decide) ?_
      refine ae_ireturn (pc := 21) dX11_map_21 rfl ?_
      exact ⟨rfl, rfl⟩
theorem sm_mapS (d : Nat) (M : am_M) (hf : wf0 (M.1 34)) (mt st : Nat) (hm : mt < 4) (hs : st ≤ 64) (hz : fN (M.1 34) = 0) : am_R (d + 2) zX11_map [.ref 33, .int (nI mt), .int (nI st)] M (fun v M' => v = some (.int (-3)) ∧ M' = M) := by
  refine ae_enter (z := zX11_map) (y := yX11_map) (cc := cX11_map) (mL := 5) (rt := some .int) (ci := 11) (st := false) (np := 2) (L := [some (.ref 33), some (.int (nI mt)), some (.int (nI st)), none, none]) rfl (by decide) (Nat.le_of_ble_eq_true rfl) rfl ?_
  have hn1 := hf.2.2.1
  rw [hz] at hn1
  refine ae_iload_n (pc := 0) dX11_map_0 rfl ?_
  refine ae_iconst (pc := 1) (v := nI 0) dX11_map_1 (by decide) ?_
  refine ae_iconst (pc := 2) (v := nI 3) dX11_map_2 (by decide) ?_
  refine ae_pcallS (pc := 3) (z := zX11_in) (As := [_, _, _]) dX11_map_3 rfl rfl rfl rfl (Nat.le_of_ble_eq_true rfl) (sm_in d _ _ _ _) ?_
  refine ae_if_eq (pc := 6) (t := 19) dX11_map_6 (by decide) (fun c6 => ?_) (fun c6 => ?_)
  · exact absurd (rngI (Nat.zero_le mt) (by omega) (by decide)) (bI_eq0.mp c6)
  refine ae_iload_n (pc := 9) dX11_map_9 rfl ?_
  refine ae_iconst (pc := 10) (v := nI 0) dX11_map_10 (by decide) ?_
  refine ae_bipush (pc := 11) (v := nI 64) dX11_map_11 (by decide) ?_
  refine ae_pcallS (pc := 13) (z := zX11_in) (As := [_, _, _]) dX11_map_13 rfl rfl rfl rfl (Nat.le_of_ble_eq_true rfl) (sm_in d _ _ _ _) ?_
  refine ae_if_ne (pc := 16) (t := 22) dX11_map_16 (by decide) (fun c16 => ?_) (fun c16 => ?_)
  rotate_left
  · exact absurd (rngI (Nat.zero_le st) hs (by decide)) (bI_eq0.mp (Classical.not_not.mp c16))
  refine ae_aload_n (pc := 22) dX11_map_22 rfl ?_
  refine ae_getR (pc := 23) (k := 33) (c := 11) (j := 0) (q := 34) dX11_map_23 rfl rfl (Nat.le_of_ble_eq_true rfl) rfl (Nat.le_of_ble_eq_true rfl) rfl ?_
  refine ae_sipush (pc := 26) (v := nI 258) dX11_map_26 (by decide) ?_
  refine ae_iaload (pc := 29) (k := 34) (N := 549) (v := nI 0) _ dX11_map_29 (Nat.le_of_ble_eq_true rfl) rfl rfl rfl (by omega) hn1 ?_
  refine ae_if_ne (pc := 30) (t := 36) dX11_map_30 (by decide) (fun c30 => ?_) (fun c30 => ?_)
  · exact absurd rfl c30
  refine ae_bipush (pc := 33) (v := (-3)) dX11_map_33 (by decide) ?_
  refine ae_ireturn (pc := 35) dX11_map_35 rfl ?_
  exact ⟨rfl, rfl⟩
theorem sm_map (d : Nat) (M : am_M) (hf : wf0 (M.1 34)) (u : Nat) (hu : M.1 33 2 = nI u) (hu2 : u ≤ 10) (mt st : Nat) (hm : mt < 4) (hs : st ≤ 64) (hz : 0 < fN (M.1 34)) : am_R (d + 7) zX11_map [.ref 33, .int (nI mt), .int (nI st)] M (fun v M' => v = some (.int (nI (usd (mapF (upd (kpF (M.1 34) 1) 292 (nI 1)) (M.1 48) mt (nI st)) (fN (M.1 34))))) ∧ ∃ T, M' = gM (rw34 (kpM M u 1) (mapF (upd (kpF (M.1 34) 1) 292 (nI 1)) (M.1 48) mt (nI st))) T) := by
  refine ae_enter (z := zX11_map) (y := yX11_map) (cc := cX11_map) (mL := 5) (rt := some .int) (ci := 11) (st := false) (np := 2) (L := [some (.ref 33), some (.int (nI mt)), some (.int (nI st)), none, none]) rfl (by decide) (Nat.le_of_ble_eq_true rfl) rfl ?_
  obtain ⟨-, -, hn1, hn2⟩ := id hf
  obtain ⟨q1, q2, q3, q4⟩ := wf0_kp hf 1
  refine ae_iload_n (pc := 0) dX11_map_0 rfl ?_
  refine ae_iconst (pc := 1) (v := nI 0) dX11_map_1 (by decide) ?_
  refine ae_iconst (pc := 2) (v := nI 3) dX11_map_2 (by decide) ?_
  refine ae_pcallS (pc := 3) (z := zX11_in) (As := [_, _, _]) dX11_map_3 rfl rfl rfl rfl (Nat.le_of_ble_eq_true rfl) (sm_in (d + 5) _ _ _ _) ?_
  refine ae_if_eq (pc := 6) (t := 19) dX11_map_6 (by decide) (fun q => absurd (rngI (Nat.zero_le mt) (by omega) (by decide)) (bI_eq0.mp q)) (fun _ => ?_)
  refine ae_iload_n (pc := 9) dX11_map_9 rfl ?_
  refine ae_iconst (pc := 10) (v := nI 0) dX11_map_10 (by decide) ?_
  refine ae_bipush (pc := 11) (v := nI 64) dX11_map_11 (by decide) ?_
  refine ae_pcallS (pc := 13) (z := zX11_in) (As := [_, _, _]) dX11_map_13 rfl rfl rfl rfl (Nat.le_of_ble_eq_true rfl) (sm_in (d + 5) _ _ _ _) ?_
  refine ae_if_ne (pc := 16) (t := 22) dX11_map_16 (by decide) (fun _ => ?_) (fun q => absurd (rngI (Nat.zero_le st) hs (by decide)) (bI_eq0.mp (Classical.not_not.mp q)))
  refine ae_aload_n (pc := 22) dX11_map_22 rfl ?_
  refine ae_getR (pc := 23) (k := 33) (c := 11) (j := 0) (q := 34) dX11_map_23 rfl rfl (Nat.le_of_ble_eq_true rfl) rfl (Nat.le_of_ble_eq_true rfl) rfl ?_
  refine ae_sipush (pc := 26) (v := nI 258) dX11_map_26 (by decide) ?_
  refine ae_iaload (pc := 29) (k := 34) (N := 549) (v := nI (fN (M.1 34))) _ dX11_map_29 (Nat.le_of_ble_eq_true rfl) rfl rfl rfl (by omega) hn1 ?_
  refine ae_if_ne (pc := 30) (t := 36) dX11_map_30 (by decide) (fun _ => ?_) (fun q => absurd (nI_ne0 hz (by omega)) q)
  refine ae_aload_n (pc := 36) dX11_map_36 rfl ?_
  refine ae_iconst (pc := 37) (v := nI 1) dX11_map_37 (by decide) ?_
  refine ae_callV (pc := 38) (z := zX11_keeps) (k := 33) (As := [_]) dX11_map_38 rfl rfl rfl rfl (Nat.le_of_ble_eq_true rfl) rfl (Nat.le_of_ble_eq_true rfl) (Nat.le_of_ble_eq_true rfl) (sm_keeps (d + 5) M u hu hu2 _) (fun v M' hq => ?_)
  obtain ⟨rfl, rfl⟩ := hq
  refine ae_M (M' := rw34 (kpM M u 1) (kpF (M.1 34) 1)) (by rw [← kp34 M u 1]; exact (rw34_eta _).symm) ?_
  refine ae_aload_n (pc := 41) dX11_map_41 rfl ?_
  refine ae_getR (pc := 42) (k := 33) (c := 11) (j := 0) (q := 34) dX11_map_42 rfl rfl (Nat.le_of_ble_eq_true rfl) rfl (Nat.le_of_ble_eq_true rfl) rfl ?_
  refine ae_sipush (pc := 45) (v := nI 292) dX11_map_45 (by decide) ?_
  refine ae_iconst (pc := 48) (v := nI 1) dX11_map_48 (by decide) ?_
  refine ae_iastore (pc := 49) (k := 34) (N := 549) _ dX11_map_49 (Nat.le_of_ble_eq_true rfl) rfl rfl rfl (by omega) rfl ?_
  refine ae_M (rw34_upd _ _ _ _) ?_
  refine ae_iconst (pc := 50) (v := nI 0) dX11_map_50 (by decide) ?_
  refine ae_istore_n (pc := 51) dX11_map_51 rfl (Nat.le_of_ble_eq_true rfl) ?_
  skip
  generalize hfe : upd (kpF (M.1 34) 1) 292 (nI 1) = f
  have hf' : wf0 f ∧ fW f = fW (kpF (M.1 34) 1) ∧ fH f = fH (kpF (M.1 34) 1) ∧ fN f = fN (kpF (M.1 34) 1) := by rw [← hfe]; exact wf0_of q1 (upd_ne _ _ (by decide)) (upd_ne _ _ (by decide)) (upd_ne _ _ (by decide))
  obtain ⟨hwf, -, -, hfn⟩ := hf'
  rw [q4] at hfn
  have hA := fA_le hwf
  have hn3 : f 258 = nI (fN f) := hwf.2.2.1
  rw [← hfn] at hz hn2 ⊢
  clear hfe
  have k48 : (kpM M u 1).1 48 = M.1 48 := kpM_ne _ _ _ (by decide)
  have hpx : ∀ g, sm293 g f → am_R (d + 6) zX11_pixels [.ref 33] (rw34 (kpM M u 1) g) (fun v M' => v = some (.int (nI (fA f))) ∧ M' = rw34 (kpM M u 1) g) := by
    intro g h
    obtain ⟨v1, v2, v3, v4⟩ := h.wf hwf
    have := sm_pixels (d + 5) (rw34 (kpM M u 1) g) (by rw [rw34_34]; exact v1)
    rw [rw34_34, show fA g = fA f by unfold fA; rw [v2, v3]] at this
    exact this
  refine ae_M (M' := rw34 (kpM M u 1) (mpF f mt (nI st) 0)) (by rw [show mpF f mt (nI st) 0 = f from st_0 _ _ _]) ?_
  refine am_down (P := fun k => am_E none (am_R (d + 6)) cX11_map 11 (some .int) _ (52, [some (.ref 33), some (.int (nI mt)), some (.int (nI st)), some (.int (nI k)), none], [], rw34 (kpM M u 1) (mpF f mt (nI st) k))) (fA f) (fun k hk ih => ?_)
  have hsm := mp_sm f mt (nI st) k
  obtain ⟨v1, v2, v3, v4⟩ := hsm.wf hwf
  refine ae_iload_n (pc := 52) dX11_map_52 rfl ?_
  refine ae_aload_n (pc := 53) dX11_map_53 rfl ?_
  refine ae_pcallV (pc := 54) (z := zX11_pixels) (k := 33) (As := []) dX11_map_54 rfl rfl rfl rfl (Nat.le_of_ble_eq_true rfl) rfl (Nat.le_of_ble_eq_true rfl) (Nat.le_of_ble_eq_true rfl) (hpx _ hsm) ?_
  refine ae_icmp_ge (pc := 57) (t := 126) dX11_map_57 (by decide) (fun c57 => ?_) (fun c57 => ?_)
  rotate_left
  · have hk2 : k < fA f := by rw [nI_leI (by omega) (by omega)] at c57; omega
    have hio := sm_isOpaque (d + 5) (rw34 (kpM M u 1) (mpF f mt (nI st) k)) k (by omega)
    rw [rw34_34, hsm (2 + k) (by omega)] at hio
    have hdi : ∀ s, am_R (d + 6) zX11_dithered [.ref 33, .int (nI k), .int s] (rw34 (kpM M u 1) (mpF f mt (nI st) k)) (fun v M' => v = some (.int (oI (ner f (diC f k s 3)))) ∧ M' = rw34 (kpM M u 1) (mpF f mt (nI st) k)) := by
      intro s
      have := sm_dithered (d + 1) (rw34 (kpM M u 1) (mpF f mt (nI st) k)) (by rw [rw34_34]; exact v1) k (by rw [rw34_34]; unfold fA; rw [v2, v3]; exact hk2) s
      rw [rw34_34, ner_sm hwf hsm, diC_sm hwf hsm hk2] at this
      exact this
    have fin : ∀ x, x = (if f (2 + k) ≠ -1 ∧ mt < 2 then oI (ner f (diC f k (if mt = 0 then nI 0 else nI st) 3)) else nI (fN f)) → am_E none (am_R (d + 6)) cX11_map 11 (some .int) (fun v M' => v = some (.int (nI (usd (mapF f (M.1 48) mt (nI st)) (fN f)))) ∧ ∃ T, M' = gM (rw34 (kpM M u 1) (mapF f (M.1 48) mt (nI st))) T) (119, [some (.ref 33), some (.int (nI mt)), some (.int (nI st)), some (.int (nI k)), none], [.int x, .int (nI (293 + k)), .ref 34], rw34 (kpM M u 1) (mpF f mt (nI st) k)) := by
      intro x hx
      refine ae_iastore (pc := 119) (k := 34) (N := 549) (v := if f (2 + k) ≠ -1 ∧ mt < 2 then oI (ner f (diC f k (if mt = 0 then nI 0 else nI st) 3)) else nI (fN f)) (293 + k) dX11_map_119 (Nat.le_of_ble_eq_true rfl) rfl rfl rfl (by omega) hx ?_
      refine ae_M (rw34_upd _ _ _ _) ?_
      rw [mp_row]
      refine ae_iinc (pc := 120) (v := nI (k + 1)) dX11_map_120 rfl (nI_inc k) ?_
      refine ae_goto (pc := 123) (t := 52) dX11_map_123 (by decide) ?_
      exact ih hk2
    by_cases hcnd : f (2 + k) ≠ -1 ∧ mt < 2
    · rw [bI_t hcnd.1] at hio
      refine ae_aload_n (pc := 60) dX11_map_60 rfl ?_
      refine ae_iload_n (pc := 61) dX11_map_61 rfl ?_
      refine ae_pcallV (pc := 62) (z := zX11_isOpaque) (k := 33) (As := [_]) dX11_map_62 rfl rfl rfl rfl (Nat.le_of_ble_eq_true rfl) rfl (Nat.le_of_ble_eq_true rfl) (Nat.le_of_ble_eq_true rfl) (hio) ?_
      refine ae_if_eq (pc := 65) (t := 77) dX11_map_65 (by decide) (fun c65 => ?_) (fun c65 => ?_)
      · exact absurd c65 (by decide)
      refine ae_iload_n (pc := 68) dX11_map_68 rfl ?_
      refine ae_iconst (pc := 69) (v := nI 2) dX11_map_69 (by decide) ?_
      refine ae_icmp_ge (pc := 70) (t := 77) dX11_map_70 (by decide) (fun c70 => ?_) (fun c70 => ?_)
      · exact absurd c70 (by rw [nI_leI (by omega) (by omega)]; omega)
      refine ae_iconst (pc := 73) (v := nI 1) dX11_map_73 (by decide) ?_
      refine ae_goto (pc := 74) (t := 78) dX11_map_74 (by decide) ?_
      refine ae_istore (pc := 78) dX11_map_78 rfl (Nat.le_of_ble_eq_true rfl) ?_
      refine ae_aload_n (pc := 80) dX11_map_80 rfl ?_
      refine ae_getR (pc := 81) (k := 33) (c := 11) (j := 0) (q := 34) dX11_map_81 rfl rfl (Nat.le_of_ble_eq_true rfl) rfl (Nat.le_of_ble_eq_true rfl) rfl ?_
      refine ae_sipush (pc := 84) (v := nI 293) dX11_map_84 (by decide) ?_
      refine ae_iload_n (pc := 87) dX11_map_87 rfl ?_
      refine ae_iadd (pc := 88) dX11_map_88 (nI_add _ _) ?_
      refine ae_iload (pc := 89) dX11_map_89 rfl ?_
      refine ae_if_eq (pc := 91) (t := 111) dX11_map_91 (by decide) (fun q => absurd q (by decide)) (fun _ => ?_)
      refine ae_aload_n (pc := 94) dX11_map_94 rfl ?_
      refine ae_iload_n (pc := 95) dX11_map_95 rfl ?_
      refine ae_iload_n (pc := 96) dX11_map_96 rfl ?_
      refine ae_if_ne (pc := 97) (t := 104) dX11_map_97 (by decide) (fun c97 => ?_) (fun c97 => ?_)
      · refine ae_iload_n (pc := 104) dX11_map_104 rfl ?_
        refine ae_pcallV (pc := 105) (z := zX11_dithered) (k := 33) (As := [_, _]) dX11_map_105 rfl rfl rfl rfl (Nat.le_of_ble_eq_true rfl) rfl (Nat.le_of_ble_eq_true rfl) (Nat.le_of_ble_eq_true rfl) (hdi _) ?_
        refine ae_goto (pc := 108) (t := 119) dX11_map_108 (by decide) ?_
        refine ae_forget [4] rfl (fin _ ?_)
        rw [if_pos hcnd]
        first | (rw [if_neg (fun q => c97 (by rw [q]; rfl))]; done) | (rw [if_pos (by have := Classical.not_not.mp c97; rwa [show (0 : Int32) = nI 0 from rfl, nI_eq (by omega) (by omega)] at this)]; done)
      · refine ae_iconst (pc := 100) (v := nI 0) dX11_map_100 (by decide) ?_
        refine ae_goto (pc := 101) (t := 105) dX11_map_101 (by decide) ?_
        refine ae_pcallV (pc := 105) (z := zX11_dithered) (k := 33) (As := [_, _]) dX11_map_105 rfl rfl rfl rfl (Nat.le_of_ble_eq_true rfl) rfl (Nat.le_of_ble_eq_true rfl) (Nat.le_of_ble_eq_true rfl) (hdi _) ?_
        refine ae_goto (pc := 108) (t := 119) dX11_map_108 (by decide) ?_
        refine ae_forget [4] rfl (fin _ ?_)
        rw [if_pos hcnd]
        first | (rw [if_neg (fun q => c97 (by rw [q]; rfl))]; done) | (rw [if_pos (by have := Classical.not_not.mp c97; rwa [show (0 : Int32) = nI 0 from rfl, nI_eq (by omega) (by omega)] at this)]; done)
    · refine ae_aload_n (pc := 60) dX11_map_60 rfl ?_
      refine ae_iload_n (pc := 61) dX11_map_61 rfl ?_
      refine ae_pcallV (pc := 62) (z := zX11_isOpaque) (k := 33) (As := [_]) dX11_map_62 rfl rfl rfl rfl (Nat.le_of_ble_eq_true rfl) rfl (Nat.le_of_ble_eq_true rfl) (Nat.le_of_ble_eq_true rfl) (hio) ?_
      refine ae_if_eq (pc := 65) (t := 77) dX11_map_65 (by decide) (fun c65 => ?_) (fun c65 => ?_)
      · refine ae_iconst (pc := 77) (v := nI 0) dX11_map_77 (by decide) ?_
        refine ae_istore (pc := 78) dX11_map_78 rfl (Nat.le_of_ble_eq_true rfl) ?_
        refine ae_aload_n (pc := 80) dX11_map_80 rfl ?_
        refine ae_getR (pc := 81) (k := 33) (c := 11) (j := 0) (q := 34) dX11_map_81 rfl rfl (Nat.le_of_ble_eq_true rfl) rfl (Nat.le_of_ble_eq_true rfl) rfl ?_
        refine ae_sipush (pc := 84) (v := nI 293) dX11_map_84 (by decide) ?_
        refine ae_iload_n (pc := 87) dX11_map_87 rfl ?_
        refine ae_iadd (pc := 88) dX11_map_88 (nI_add _ _) ?_
        refine ae_iload (pc := 89) dX11_map_89 rfl ?_
        refine ae_if_eq (pc := 91) (t := 111) dX11_map_91 (by decide) (fun _ => ?_) (fun q => absurd (by decide) q)
        refine ae_aload_n (pc := 111) dX11_map_111 rfl ?_
        refine ae_getR (pc := 112) (k := 33) (c := 11) (j := 0) (q := 34) dX11_map_112 rfl rfl (Nat.le_of_ble_eq_true rfl) rfl (Nat.le_of_ble_eq_true rfl) rfl ?_
        refine ae_sipush (pc := 115) (v := nI 258) dX11_map_115 (by decide) ?_
        refine ae_iaload (pc := 118) (k := 34) (N := 549) (v := nI (fN f)) _ dX11_map_118 (Nat.le_of_ble_eq_true rfl) rfl rfl rfl (by omega) (by rw [rw34_34, hsm 258 (by decide)]; exact hn3) ?_
        refine ae_forget [4] rfl (fin _ ?_)
        rw [if_neg hcnd]
      · refine ae_iload_n (pc := 68) dX11_map_68 rfl ?_
        refine ae_iconst (pc := 69) (v := nI 2) dX11_map_69 (by decide) ?_
        refine ae_icmp_ge (pc := 70) (t := 77) dX11_map_70 (by decide) (fun c70 => ?_) (fun c70 => ?_)
        rotate_left
        · exact absurd (And.intro (bI_ne0.mp c65) (by rw [nI_leI (by omega) (by omega)] at c70; omega)) hcnd
        refine ae_iconst (pc := 77) (v := nI 0) dX11_map_77 (by decide) ?_
        refine ae_istore (pc := 78) dX11_map_78 rfl (Nat.le_of_ble_eq_true rfl) ?_
        refine ae_aload_n (pc := 80) dX11_map_80 rfl ?_
        refine ae_getR (pc := 81) (k := 33) (c := 11) (j := 0) (q := 34) dX11_map_81 rfl rfl (Nat.le_of_ble_eq_true rfl) rfl (Nat.le_of_ble_eq_true rfl) rfl ?_
        refine ae_sipush (pc := 84) (v := nI 293) dX11_map_84 (by decide) ?_
        refine ae_iload_n (pc := 87) dX11_map_87 rfl ?_
        refine ae_iadd (pc := 88) dX11_map_88 (nI_add _ _) ?_
        refine ae_iload (pc := 89) dX11_map_89 rfl ?_
        refine ae_if_eq (pc := 91) (t := 111) dX11_map_91 (by decide) (fun _ => ?_) (fun q => absurd (by decide) q)
        refine ae_aload_n (pc := 111) dX11_map_111 rfl ?_
        refine ae_getR (pc := 112) (k := 33) (c := 11) (j := 0) (q := 34) dX11_map_112 rfl rfl (Nat.le_of_ble_eq_true rfl) rfl (Nat.le_of_ble_eq_true rfl) rfl ?_
        refine ae_sipush (pc := 115) (v := nI 258) dX11_map_115 (by decide) ?_
        refine ae_iaload (pc := 118) (k := 34) (N := 549) (v := nI (fN f)) _ dX11_map_118 (Nat.le_of_ble_eq_true rfl) rfl rfl rfl (by omega) (by rw [rw34_34, hsm 258 (by decide)]; exact hn3) ?_
        refine ae_forget [4] rfl (fin _ ?_)
        rw [if_neg hcnd]
  have hk2 : k = fA f := by rw [nI_leI (by omega) (by omega)] at c57; omega
  subst hk2
  clear ih
  have tail : ∀ F T, sm293 F f → F = mapF f (M.1 48) mt (nI st) → am_E none (am_R (d + 6)) cX11_map 11 (some .int) (fun v M' => v = some (.int (nI (usd (mapF f (M.1 48) mt (nI st)) (fN f)))) ∧ ∃ T, M' = gM (rw34 (kpM M u 1) (mapF f (M.1 48) mt (nI st))) T) (136, [some (.ref 33), some (.int (nI mt)), some (.int (nI st)), none, none], [], gM (rw34 (kpM M u 1) F) T) := by
    intro F T hF hFe
    rw [← hFe]
    obtain ⟨v1, v2, v3, v4⟩ := hF.wf hwf
    have m34 : (gM (rw34 (kpM M u 1) F) T).1 34 = F := by rw [gM_34, rw34_34]
    refine ae_iconst (pc := 136) (v := nI 0) dX11_map_136 (by decide) ?_
    refine ae_istore_n (pc := 137) dX11_map_137 rfl (Nat.le_of_ble_eq_true rfl) ?_
    refine ae_iconst (pc := 138) (v := nI 0) dX11_map_138 (by decide) ?_
    refine ae_istore (pc := 139) dX11_map_139 rfl (Nat.le_of_ble_eq_true rfl) ?_
    skip
    refine am_down (P := fun e => am_E none (am_R (d + 6)) cX11_map 11 (some .int) _ (141, [some (.ref 33), some (.int (nI mt)), some (.int (nI st)), some (.int (nI (usd F e))), some (.int (nI e))], [], gM (rw34 (kpM M u 1) F) T)) (fN f) (fun e he ih => ?_)
    have hix := sm_indexed (d + 4) (gM (rw34 (kpM M u 1) F) T) (by rw [m34]; exact v1) (nI e)
    rw [m34] at hix
    have hile := ixc_le F (nI e) (fA F)
    have hfa : fA F = fA f := by unfold fA; rw [v2, v3]
    refine ae_iload (pc := 141) dX11_map_141 rfl ?_
    refine ae_aload_n (pc := 143) dX11_map_143 rfl ?_
    refine ae_getR (pc := 144) (k := 33) (c := 11) (j := 0) (q := 34) dX11_map_144 rfl rfl (Nat.le_of_ble_eq_true rfl) rfl (Nat.le_of_ble_eq_true rfl) rfl ?_
    refine ae_sipush (pc := 147) (v := nI 258) dX11_map_147 (by decide) ?_
    refine ae_iaload (pc := 150) (k := 34) (N := 549) (v := nI (fN f)) _ dX11_map_150 (Nat.le_of_ble_eq_true rfl) rfl rfl rfl (by omega) (by rw [m34, hF 258 (by decide)]; exact hn3) ?_
    refine ae_icmp_ge (pc := 151) (t := 177) dX11_map_151 (by decide) (fun c151 => ?_) (fun c151 => ?_)
    · have he2 : e = fN f := by rw [nI_leI (by omega) (by omega)] at c151; omega
      subst he2
      refine ae_iload_n (pc := 177) dX11_map_177 rfl ?_
      refine ae_ireturn (pc := 178) dX11_map_178 rfl ?_
      exact ⟨rfl, T, rfl⟩
    · have he2 : e < fN f := by rw [nI_leI (by omega) (by omega)] at c151; omega
      have hix9 : (if F 292 = 1 then ixc F (nI e) (fA F) else 0) ≤ 256 := by split <;> omega
      refine ae_iload_n (pc := 154) dX11_map_154 rfl ?_
      refine ae_aload_n (pc := 155) dX11_map_155 rfl ?_
      refine ae_iload (pc := 156) dX11_map_156 rfl ?_
      refine ae_pcallV (pc := 158) (z := zX11_indexed) (k := 33) (As := [_]) dX11_map_158 rfl rfl rfl rfl (Nat.le_of_ble_eq_true rfl) rfl (Nat.le_of_ble_eq_true rfl) (Nat.le_of_ble_eq_true rfl) (hix) ?_
      refine ae_if_le (pc := 161) (t := 168) dX11_map_161 (by decide) (fun c161 => ?_) (fun c161 => ?_)
      · refine ae_iconst (pc := 168) (v := nI 0) dX11_map_168 (by decide) ?_
        refine ae_iadd (pc := 169) dX11_map_169 (nI_add _ _) ?_
        refine ae_istore_n (pc := 170) (v := nI (usd F (e + 1))) dX11_map_170 (by rw [usd_s]; first | (rw [if_neg (fun q => nI_nle q (by omega) c161)]; done) | (rw [if_pos (Classical.byContradiction fun q => c161 (by rw [show (if F 292 = 1 then ixc F (nI e) (fA F) else 0) = 0 by omega]; decide))]; done)) (Nat.le_of_ble_eq_true rfl) ?_
        refine ae_iinc (pc := 171) (v := nI (e + 1)) dX11_map_171 rfl (nI_inc e) ?_
        refine ae_goto (pc := 174) (t := 141) dX11_map_174 (by decide) ?_
        exact ih he2
      · refine ae_iconst (pc := 164) (v := nI 1) dX11_map_164 (by decide) ?_
        refine ae_goto (pc := 165) (t := 169) dX11_map_165 (by decide) ?_
        refine ae_iadd (pc := 169) dX11_map_169 (nI_add _ _) ?_
        refine ae_istore_n (pc := 170) (v := nI (usd F (e + 1))) dX11_map_170 (by rw [usd_s]; first | (rw [if_neg (fun q => nI_nle q (by omega) c161)]; done) | (rw [if_pos (Classical.byContradiction fun q => c161 (by rw [show (if F 292 = 1 then ixc F (nI e) (fA F) else 0) = 0 by omega]; decide))]; done)) (Nat.le_of_ble_eq_true rfl) ?_
        refine ae_iinc (pc := 171) (v := nI (e + 1)) dX11_map_171 rfl (nI_inc e) ?_
        refine ae_goto (pc := 174) (t := 141) dX11_map_174 (by decide) ?_
        exact ih he2
  refine ae_iload_n (pc := 126) dX11_map_126 rfl ?_
  refine ae_iconst (pc := 127) (v := nI 1) dX11_map_127 (by decide) ?_
  refine ae_icmp_le (pc := 128) (t := 136) dX11_map_128 (by decide) (fun c128 => ?_) (fun c128 => ?_)
  · rw [nI_leI (by omega) (by omega)] at c128
    refine ae_forget [3] rfl (ae_M (M' := gM (rw34 (kpM M u 1) (mpF f mt (nI st) (fA f))) ((kpM M u 1).1 48)) ?_ (tail _ _ hsm ?_))
    · unfold gM
      rw [← rw34_ne (kpM M u 1) (mpF f mt (nI st) (fA f)) (show (48 : Nat) ≠ 34 by decide), am_u_eta]
    · unfold mapF
      rw [if_pos (by omega)]
  · rw [nI_leI (by omega) (by omega)] at c128
    have hdf := sm_diffuses d (kpM M u 1) (mpF f mt (nI st) (fA f)) (M.1 48) v1 (by rw [v4]; exact hz) mt hm
    have hfa : fA (mpF f mt (nI st) (fA f)) = fA f := by show fW _ * fH _ = fW _ * fH _; rw [v2, v3]
    rw [hfa] at hdf
    refine ae_M (M' := gM (rw34 (kpM M u 1) (mpF f mt (nI st) (fA f))) (M.1 48)) ?_ ?_
    · unfold gM
      rw [← k48, ← rw34_ne (kpM M u 1) (mpF f mt (nI st) (fA f)) (show (48 : Nat) ≠ 34 by decide), am_u_eta]
    refine ae_aload_n (pc := 131) dX11_map_131 rfl ?_
    refine ae_iload_n (pc := 132) dX11_map_132 rfl ?_
    refine ae_callV (pc := 133) (z := zX11_diffuses) (k := 33) (As := [_]) dX11_map_133 rfl rfl rfl rfl (Nat.le_of_ble_eq_true rfl) rfl (Nat.le_of_ble_eq_true rfl) (Nat.le_of_ble_eq_true rfl) (hdf) (fun v M' hq => ?_)
    obtain ⟨rfl, rfl⟩ := hq
    refine ae_forget [3] rfl (tail _ _ (fun j hj => ((dfS_sm _ _ _ _) j hj).trans (hsm j hj)) ?_)
    unfold mapF
    rw [if_neg (by omega)]

