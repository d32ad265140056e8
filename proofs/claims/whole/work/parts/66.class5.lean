theorem sc_look (d : Nat) (M : am_M) (f : fT) (hg : AG M f) (hf : wf f) (p : Nat) (hp : p < fA f) (ho : ¬ f (2 + p) = -1) (b : Nat) (hb : ner f (f (2 + p)) = some b) (v : Nat) (hv : M.1 19 b = nI v) : am_R (d + 2) zX8_look [.ref 16, .int (nI p)] M (fun v' M' => v' = none ∧ ∃ lo', M' = svM M (upd (M.1 16) 5 (M.1 16 5 + nbd f (f (2 + p)) (-1))) (upd (M.1 17) p (nI b)) (upd (M.1 18) p (nbd f (f (2 + p)) (-1))) (upd (M.1 19) b (nI (v + 1))) lo' ∧ (2 ≤ fN f → lo' = upd (M.1 20) b (M.1 20 b + (nbd f (f (2 + p)) (nI b) - nbd f (f (2 + p)) (-1))))) := by
  refine ae_enter (z := zX8_look) (y := yX8_look) (cc := cX8_look) (mL := 8) (rt := none) (ci := 8) (st := false) (np := 1) (L := [some (.ref 16), some (.int (nI p)), none, none, none, none, none, none]) rfl (by decide) (Nat.le_of_ble_eq_true rfl) rfl ?_
  obtain ⟨-, -, a3⟩ := AG_w hg hf.1
  have hA := fA_le hf.1
  have hN := hf.1.2.2.2
  have hbn := (nbt_ok hb).1
  have hc : okc (f (2 + p)) := (hf.2.1 p hp).resolve_left ho
  generalize hcE : f (2 + p) = c at *
  have fin : am_E none (am_R (d + 1)) cX8_look 8 none (fun v' M' => v' = none ∧ ∃ lo', M' = svM M (upd (M.1 16) 5 (M.1 16 5 + nbd f c (-1))) (upd (M.1 17) p (nI b)) (upd (M.1 18) p (nbd f c (-1))) (upd (M.1 19) b (nI (v + 1))) lo' ∧ (2 ≤ fN f → lo' = upd (M.1 20) b (M.1 20 b + (nbd f c (nI b) - nbd f c (-1))))) (108, [some (.ref 16), some (.int (nI p)), some (.int c), some (.int (nI b)), some (.int (nbd f c (-1))), some (.int (sc2 f c (fN f) b)), some (.int (nI (fN f))), none], [], M) := by
    refine ae_M (M' := svM M (M.1 16) (M.1 17) (M.1 18) (M.1 19) (M.1 20)) (svM_eta M).symm ?_
    have s3 : ∀ a x y z w, (svM M a x y z w).1 1 3 = nI (fN f) := fun a x y z w => by rw [svM_ne _ _ _ _ _ _ (by decide)]; exact a3
    by_cases h2 : 2 ≤ fN f
    · rw [sc2_nbd h2 hN hbn]
      refine ae_aload_n (pc := 108) dX8_look_108 rfl ?_
      refine ae_getR (pc := 109) (k := 16) (c := 8) (j := 1) (q := 17) dX8_look_109 rfl rfl (Nat.le_of_ble_eq_true rfl) rfl (Nat.le_of_ble_eq_true rfl) rfl ?_
      refine ae_iload_n (pc := 112) dX8_look_112 rfl ?_
      refine ae_iload_n (pc := 113) dX8_look_113 rfl ?_
      refine ae_iastore (pc := 114) (k := 17) (N := 256) (p) dX8_look_114 (Nat.le_of_ble_eq_true rfl) rfl rfl rfl (by omega) rfl ?_
      refine ae_M (svM_u17 _ _ _ _ _ _ _) ?_
      rw [svM_17]
      refine ae_aload_n (pc := 115) dX8_look_115 rfl ?_
      refine ae_getR (pc := 116) (k := 16) (c := 8) (j := 2) (q := 18) dX8_look_116 rfl rfl (Nat.le_of_ble_eq_true rfl) rfl (Nat.le_of_ble_eq_true rfl) rfl ?_
      refine ae_iload_n (pc := 119) dX8_look_119 rfl ?_
      refine ae_iload (pc := 120) dX8_look_120 rfl ?_
      refine ae_iastore (pc := 122) (k := 18) (N := 256) (p) dX8_look_122 (Nat.le_of_ble_eq_true rfl) rfl rfl rfl (by omega) rfl ?_
      refine ae_M (svM_u18 _ _ _ _ _ _ _) ?_
      rw [svM_18]
      refine ae_aload_n (pc := 123) dX8_look_123 rfl ?_
      refine ae_getR (pc := 124) (k := 16) (c := 8) (j := 3) (q := 19) dX8_look_124 rfl rfl (Nat.le_of_ble_eq_true rfl) rfl (Nat.le_of_ble_eq_true rfl) rfl ?_
      refine ae_iload_n (pc := 127) dX8_look_127 rfl ?_
      refine ae_dup2 (pc := 128) dX8_look_128 rfl rfl ?_
      refine ae_iaload (pc := 129) (k := 19) (N := 16) (v := nI v) (b) dX8_look_129 (Nat.le_of_ble_eq_true rfl) rfl rfl rfl (by omega) (by rw [svM_19]; exact hv) ?_
      refine ae_iconst (pc := 130) (v := nI 1) dX8_look_130 (by decide) ?_
      refine ae_iadd (pc := 131) (v := nI (v + 1)) dX8_look_131 (nI_add _ _) ?_
      refine ae_iastore (pc := 132) (k := 19) (N := 16) (b) dX8_look_132 (Nat.le_of_ble_eq_true rfl) rfl rfl rfl (by omega) rfl ?_
      refine ae_M (svM_u19 _ _ _ _ _ _ _) ?_
      rw [svM_19]
      refine ae_aload_n (pc := 133) dX8_look_133 rfl ?_
      refine ae_dup (pc := 134) dX8_look_134 rfl ?_
      refine ae_getI (pc := 135) (k := 16) (c := 8) (j := 5) (v := M.1 16 5) dX8_look_135 rfl rfl (Or.inl rfl) (Nat.le_of_ble_eq_true rfl) rfl (Nat.le_of_ble_eq_true rfl) (by rw [svM_16]) ?_
      refine ae_iload (pc := 138) dX8_look_138 rfl ?_
      refine ae_iadd (pc := 140) dX8_look_140 rfl ?_
      refine ae_putfield (pc := 141) (k := 16) (c := 8) (j := 5) dX8_look_141 rfl rfl (Nat.le_of_ble_eq_true rfl) rfl (Nat.le_of_ble_eq_true rfl) rfl rfl ?_
      refine ae_M (svM_u16 _ _ _ _ _ _ _) ?_
      rw [svM_16]
      refine ae_aload_n (pc := 144) dX8_look_144 rfl ?_
      refine ae_getR (pc := 145) (k := 16) (c := 8) (j := 0) (q := 1) dX8_look_145 rfl rfl (Nat.le_of_ble_eq_true rfl) rfl (Nat.le_of_ble_eq_true rfl) rfl ?_
      refine ae_getI (pc := 148) (k := 1) (c := 7) (j := 3) (v := nI (fN f)) dX8_look_148 rfl rfl (Or.inl rfl) (Nat.le_of_ble_eq_true rfl) rfl (Nat.le_of_ble_eq_true rfl) (s3 _ _ _ _ _) ?_
      refine ae_iconst (pc := 151) (v := nI 1) dX8_look_151 (by decide) ?_
      refine ae_icmp_le (pc := 152) (t := 169) dX8_look_152 (by decide) (fun c152 => ?_) (fun c152 => ?_)
      · exact absurd ((nI_leI (by omega) (by omega)).mp c152) (by omega)
      refine ae_aload_n (pc := 155) dX8_look_155 rfl ?_
      refine ae_getR (pc := 156) (k := 16) (c := 8) (j := 4) (q := 20) dX8_look_156 rfl rfl (Nat.le_of_ble_eq_true rfl) rfl (Nat.le_of_ble_eq_true rfl) rfl ?_
      refine ae_iload_n (pc := 159) dX8_look_159 rfl ?_
      refine ae_dup2 (pc := 160) dX8_look_160 rfl rfl ?_
      refine ae_iaload (pc := 161) (k := 20) (N := 16) (v := M.1 20 b) (b) dX8_look_161 (Nat.le_of_ble_eq_true rfl) rfl rfl rfl (by omega) (by rw [svM_20]) ?_
      refine ae_iload (pc := 162) dX8_look_162 rfl ?_
      refine ae_iload (pc := 164) dX8_look_164 rfl ?_
      refine ae_isub (pc := 166) dX8_look_166 rfl ?_
      refine ae_iadd (pc := 167) dX8_look_167 rfl ?_
      refine ae_iastore (pc := 168) (k := 20) (N := 16) (b) dX8_look_168 (Nat.le_of_ble_eq_true rfl) rfl rfl rfl (by omega) rfl ?_
      refine ae_M (svM_u20 _ _ _ _ _ _ _) ?_
      rw [svM_20]
      refine ae_return (pc := 169) dX8_look_169 rfl ?_
      exact ⟨rfl, _, rfl, fun _ => rfl⟩
    · refine ae_aload_n (pc := 108) dX8_look_108 rfl ?_
      refine ae_getR (pc := 109) (k := 16) (c := 8) (j := 1) (q := 17) dX8_look_109 rfl rfl (Nat.le_of_ble_eq_true rfl) rfl (Nat.le_of_ble_eq_true rfl) rfl ?_
      refine ae_iload_n (pc := 112) dX8_look_112 rfl ?_
      refine ae_iload_n (pc := 113) dX8_look_113 rfl ?_
      refine ae_iastore (pc := 114) (k := 17) (N := 256) (p) dX8_look_114 (Nat.le_of_ble_eq_true rfl) rfl rfl rfl (by omega) rfl ?_
      refine ae_M (svM_u17 _ _ _ _ _ _ _) ?_
      rw [svM_17]
      refine ae_aload_n (pc := 115) dX8_look_115 rfl ?_
      refine ae_getR (pc := 116) (k := 16) (c := 8) (j := 2) (q := 18) dX8_look_116 rfl rfl (Nat.le_of_ble_eq_true rfl) rfl (Nat.le_of_ble_eq_true rfl) rfl ?_
      refine ae_iload_n (pc := 119) dX8_look_119 rfl ?_
      refine ae_iload (pc := 120) dX8_look_120 rfl ?_
      refine ae_iastore (pc := 122) (k := 18) (N := 256) (p) dX8_look_122 (Nat.le_of_ble_eq_true rfl) rfl rfl rfl (by omega) rfl ?_
      refine ae_M (svM_u18 _ _ _ _ _ _ _) ?_
      rw [svM_18]
      refine ae_aload_n (pc := 123) dX8_look_123 rfl ?_
      refine ae_getR (pc := 124) (k := 16) (c := 8) (j := 3) (q := 19) dX8_look_124 rfl rfl (Nat.le_of_ble_eq_true rfl) rfl (Nat.le_of_ble_eq_true rfl) rfl ?_
      refine ae_iload_n (pc := 127) dX8_look_127 rfl ?_
      refine ae_dup2 (pc := 128) dX8_look_128 rfl rfl ?_
      refine ae_iaload (pc := 129) (k := 19) (N := 16) (v := nI v) (b) dX8_look_129 (Nat.le_of_ble_eq_true rfl) rfl rfl rfl (by omega) (by rw [svM_19]; exact hv) ?_
      refine ae_iconst (pc := 130) (v := nI 1) dX8_look_130 (by decide) ?_
      refine ae_iadd (pc := 131) (v := nI (v + 1)) dX8_look_131 (nI_add _ _) ?_
      refine ae_iastore (pc := 132) (k := 19) (N := 16) (b) dX8_look_132 (Nat.le_of_ble_eq_true rfl) rfl rfl rfl (by omega) rfl ?_
      refine ae_M (svM_u19 _ _ _ _ _ _ _) ?_
      rw [svM_19]
      refine ae_aload_n (pc := 133) dX8_look_133 rfl ?_
      refine ae_dup (pc := 134) dX8_look_134 rfl ?_
      refine ae_getI (pc := 135) (k := 16) (c := 8) (j := 5) (v := M.1 16 5) dX8_look_135 rfl rfl (Or.inl rfl) (Nat.le_of_ble_eq_true rfl) rfl (Nat.le_of_ble_eq_true rfl) (by rw [svM_16]) ?_
      refine ae_iload (pc := 138) dX8_look_138 rfl ?_
      refine ae_iadd (pc := 140) dX8_look_140 rfl ?_
      refine ae_putfield (pc := 141) (k := 16) (c := 8) (j := 5) dX8_look_141 rfl rfl (Nat.le_of_ble_eq_true rfl) rfl (Nat.le_of_ble_eq_true rfl) rfl rfl ?_
      refine ae_M (svM_u16 _ _ _ _ _ _ _) ?_
      rw [svM_16]
      refine ae_aload_n (pc := 144) dX8_look_144 rfl ?_
      refine ae_getR (pc := 145) (k := 16) (c := 8) (j := 0) (q := 1) dX8_look_145 rfl rfl (Nat.le_of_ble_eq_true rfl) rfl (Nat.le_of_ble_eq_true rfl) rfl ?_
      refine ae_getI (pc := 148) (k := 1) (c := 7) (j := 3) (v := nI (fN f)) dX8_look_148 rfl rfl (Or.inl rfl) (Nat.le_of_ble_eq_true rfl) rfl (Nat.le_of_ble_eq_true rfl) (s3 _ _ _ _ _) ?_
      refine ae_iconst (pc := 151) (v := nI 1) dX8_look_151 (by decide) ?_
      refine ae_icmp_le (pc := 152) (t := 169) dX8_look_152 (by decide) (fun c152 => ?_) (fun c152 => ?_)
      · refine ae_return (pc := 169) dX8_look_169 rfl ?_
        exact ⟨rfl, _, rfl, fun q => absurd q h2⟩
      · exact absurd ((nI_leI (by omega) (by omega)).mpr (by omega)) c152
  have main : ∀ k b0, nbt f c (-1) (k + 1) = some b0 → k + 1 ≤ fN f → am_E none (am_R (d + 1)) cX8_look 8 none (fun v' M' => v' = none ∧ ∃ lo', M' = svM M (upd (M.1 16) 5 (M.1 16 5 + nbd f c (-1))) (upd (M.1 17) p (nI b)) (upd (M.1 18) p (nbd f c (-1))) (upd (M.1 19) b (nI (v + 1))) lo' ∧ (2 ≤ fN f → lo' = upd (M.1 20) b (M.1 20 b + (nbd f c (nI b) - nbd f c (-1))))) (38, [some (.ref 16), some (.int (nI p)), some (.int c), some (.int (nI b0)), some (.int (dst (f 291) c (f (259 + b0)))), some (.int (sc2 f c (k + 1) b0)), some (.int (nI (k + 1))), none], [], M) := by
    intro k
    generalize hm : fN f - (k + 1) = m
    induction m generalizing k with
    | zero =>
      intro b0 hb0 hk
      have hk2 : k + 1 = fN f := by omega
      rw [hk2] at hb0 ⊢
      have e : b0 = b := by have : ner f c = some b0 := hb0; rw [hb] at this; exact (Option.some.inj this).symm
      subst e
      have e2 : dst (f 291) c (f (259 + b0)) = nbd f c (-1) := by unfold nbd; rw [hb0]
      rw [e2]
      refine ae_iload (pc := 38) dX8_look_38 rfl ?_
      refine ae_aload_n (pc := 40) dX8_look_40 rfl ?_
      refine ae_getR (pc := 41) (k := 16) (c := 8) (j := 0) (q := 1) dX8_look_41 rfl rfl (Nat.le_of_ble_eq_true rfl) rfl (Nat.le_of_ble_eq_true rfl) rfl ?_
      refine ae_getI (pc := 44) (k := 1) (c := 7) (j := 3) (v := nI (fN f)) dX8_look_44 rfl rfl (Or.inl rfl) (Nat.le_of_ble_eq_true rfl) rfl (Nat.le_of_ble_eq_true rfl) a3 ?_
      refine ae_icmp_ge (pc := 47) (t := 108) dX8_look_47 (by decide) (fun c47 => ?_) (fun c47 => ?_)
      · exact fin
      · exact absurd (Int32.le_refl _) c47
    | succ m ih =>
      intro b0 hb0 hk
      have hk2 : k + 1 < fN f := by omega
      have hb1 := (nbt_ok hb0).1
      have hds := sc_distance d M f hg c (f (259 + (k + 1))) hc (hf.2.2.1 _ hk2).1
      have hn1 : ¬ nI (k + 1) = -1 := nI_ne1 (by omega)
      have hst : nbt f c (-1) (k + 1 + 1) = if dst (f 291) c (f (259 + (k + 1))) < dst (f 291) c (f (259 + b0)) then some (k + 1) else some b0 := by rw [nbt_s, hb0]; dsimp only; rw [if_neg hn1]
      by_cases hlt : dst (f 291) c (f (259 + (k + 1))) < dst (f 291) c (f (259 + b0))
      · rw [if_pos hlt] at hst
        have e2 : sc2 f c (k + 1 + 1) (k + 1) = dst (f 291) c (f (259 + b0)) := by
          unfold sc2
          have : nbt f c (nI (k + 1)) (k + 1 + 1) = some b0 := by
            rw [nbt_s, nbt_off (by omega) (by omega) (Nat.le_refl _), hb0]
            dsimp only
            rw [if_pos rfl]
          rw [this]
        have fin2 := ih (k + 1) (by omega) _ hst (by omega)
        rw [e2] at fin2
        refine ae_iload (pc := 38) dX8_look_38 rfl ?_
        refine ae_aload_n (pc := 40) dX8_look_40 rfl ?_
        refine ae_getR (pc := 41) (k := 16) (c := 8) (j := 0) (q := 1) dX8_look_41 rfl rfl (Nat.le_of_ble_eq_true rfl) rfl (Nat.le_of_ble_eq_true rfl) rfl ?_
        refine ae_getI (pc := 44) (k := 1) (c := 7) (j := 3) (v := nI (fN f)) dX8_look_44 rfl rfl (Or.inl rfl) (Nat.le_of_ble_eq_true rfl) rfl (Nat.le_of_ble_eq_true rfl) a3 ?_
        refine ae_icmp_ge (pc := 47) (t := 108) dX8_look_47 (by decide) (fun c47 => ?_) (fun c47 => ?_)
        · exact absurd ((nI_leI (by omega) (by omega)).mp c47) (by omega)
        refine ae_aload_n (pc := 50) dX8_look_50 rfl ?_
        refine ae_getR (pc := 51) (k := 16) (c := 8) (j := 0) (q := 1) dX8_look_51 rfl rfl (Nat.le_of_ble_eq_true rfl) rfl (Nat.le_of_ble_eq_true rfl) rfl ?_
        refine ae_iload_n (pc := 54) dX8_look_54 rfl ?_
        refine ae_aload_n (pc := 55) dX8_look_55 rfl ?_
        refine ae_getR (pc := 56) (k := 16) (c := 8) (j := 0) (q := 1) dX8_look_56 rfl rfl (Nat.le_of_ble_eq_true rfl) rfl (Nat.le_of_ble_eq_true rfl) rfl ?_
        refine ae_getR (pc := 59) (k := 1) (c := 7) (j := 4) (q := 3) dX8_look_59 rfl rfl (Nat.le_of_ble_eq_true rfl) rfl (Nat.le_of_ble_eq_true rfl) rfl ?_
        refine ae_iload (pc := 62) dX8_look_62 rfl ?_
        refine ae_iaload (pc := 64) (k := 3) (N := 16) (v := f (259 + (k + 1))) (k + 1) dX8_look_64 (Nat.le_of_ble_eq_true rfl) rfl rfl rfl (by omega) ((hg.2.2.1 _ hk2).1) ?_
        refine ae_pcallV (pc := 65) (z := zX7_distance) (k := 1) (As := [_, _]) dX8_look_65 rfl rfl rfl rfl (Nat.le_of_ble_eq_true rfl) rfl (Nat.le_of_ble_eq_true rfl) (Nat.le_of_ble_eq_true rfl) (hds) ?_
        refine ae_istore (pc := 68) dX8_look_68 rfl (Nat.le_of_ble_eq_true rfl) ?_
        refine ae_iload (pc := 70) dX8_look_70 rfl ?_
        refine ae_iload (pc := 72) dX8_look_72 rfl ?_
        refine ae_icmp_ge (pc := 74) (t := 91) dX8_look_74 (by decide) (fun c74 => ?_) (fun c74 => ?_)
        · exact absurd hlt (Int32.not_lt.mpr c74)
        refine ae_iload (pc := 77) dX8_look_77 rfl ?_
        refine ae_istore (pc := 79) dX8_look_79 rfl (Nat.le_of_ble_eq_true rfl) ?_
        refine ae_iload (pc := 81) dX8_look_81 rfl ?_
        refine ae_istore (pc := 83) dX8_look_83 rfl (Nat.le_of_ble_eq_true rfl) ?_
        refine ae_iload (pc := 85) dX8_look_85 rfl ?_
        refine ae_istore_n (pc := 87) dX8_look_87 rfl (Nat.le_of_ble_eq_true rfl) ?_
        refine ae_goto (pc := 88) (t := 102) dX8_look_88 (by decide) ?_
        refine ae_iinc (pc := 102) (v := nI (k + 1 + 1)) dX8_look_102 rfl (nI_inc _) ?_
        refine ae_goto (pc := 105) (t := 38) dX8_look_105 (by decide) ?_
        exact ae_forget [7] rfl fin2
      · rw [if_neg hlt] at hst
        have hkb : ¬ nI (k + 1) = nI b0 := by rw [nI_eq (by omega) (by omega)]; omega
        have e2 : sc2 f c (k + 1 + 1) b0 = if dst (f 291) c (f (259 + (k + 1))) < sc2 f c (k + 1) b0 then dst (f 291) c (f (259 + (k + 1))) else sc2 f c (k + 1) b0 := by
          unfold sc2
          rw [nbt_s]
          cases hx : nbt f c (nI b0) (k + 1) with
          | none => dsimp only; rw [if_neg hkb, if_pos (dst_lt _ _ _)]
          | some j =>
            dsimp only
            rw [if_neg hkb]
            by_cases q : dst (f 291) c (f (259 + (k + 1))) < dst (f 291) c (f (259 + j))
            · rw [if_pos q, if_pos q]
            · rw [if_neg q, if_neg q]
        have fin2 := ih (k + 1) (by omega) _ hst (by omega)
        rw [e2] at fin2
        refine ae_iload (pc := 38) dX8_look_38 rfl ?_
        refine ae_aload_n (pc := 40) dX8_look_40 rfl ?_
        refine ae_getR (pc := 41) (k := 16) (c := 8) (j := 0) (q := 1) dX8_look_41 rfl rfl (Nat.le_of_ble_eq_true rfl) rfl (Nat.le_of_ble_eq_true rfl) rfl ?_
        refine ae_getI (pc := 44) (k := 1) (c := 7) (j := 3) (v := nI (fN f)) dX8_look_44 rfl rfl (Or.inl rfl) (Nat.le_of_ble_eq_true rfl) rfl (Nat.le_of_ble_eq_true rfl) a3 ?_
        refine ae_icmp_ge (pc := 47) (t := 108) dX8_look_47 (by decide) (fun c47 => ?_) (fun c47 => ?_)
        · exact absurd ((nI_leI (by omega) (by omega)).mp c47) (by omega)
        refine ae_aload_n (pc := 50) dX8_look_50 rfl ?_
        refine ae_getR (pc := 51) (k := 16) (c := 8) (j := 0) (q := 1) dX8_look_51 rfl rfl (Nat.le_of_ble_eq_true rfl) rfl (Nat.le_of_ble_eq_true rfl) rfl ?_
        refine ae_iload_n (pc := 54) dX8_look_54 rfl ?_
        refine ae_aload_n (pc := 55) dX8_look_55 rfl ?_
        refine ae_getR (pc := 56) (k := 16) (c := 8) (j := 0) (q := 1) dX8_look_56 rfl rfl (Nat.le_of_ble_eq_true rfl) rfl (Nat.le_of_ble_eq_true rfl) rfl ?_
        refine ae_getR (pc := 59) (k := 1) (c := 7) (j := 4) (q := 3) dX8_look_59 rfl rfl (Nat.le_of_ble_eq_true rfl) rfl (Nat.le_of_ble_eq_true rfl) rfl ?_
        refine ae_iload (pc := 62) dX8_look_62 rfl ?_
        refine ae_iaload (pc := 64) (k := 3) (N := 16) (v := f (259 + (k + 1))) (k + 1) dX8_look_64 (Nat.le_of_ble_eq_true rfl) rfl rfl rfl (by omega) ((hg.2.2.1 _ hk2).1) ?_
        refine ae_pcallV (pc := 65) (z := zX7_distance) (k := 1) (As := [_, _]) dX8_look_65 rfl rfl rfl rfl (Nat.le_of_ble_eq_true rfl) rfl (Nat.le_of_ble_eq_true rfl) (Nat.le_of_ble_eq_true rfl) (hds) ?_
        refine ae_istore (pc := 68) dX8_look_68 rfl (Nat.le_of_ble_eq_true rfl) ?_
        refine ae_iload (pc := 70) dX8_look_70 rfl ?_
        refine ae_iload (pc := 72) dX8_look_72 rfl ?_
        refine ae_icmp_ge (pc := 74) (t := 91) dX8_look_74 (by decide) (fun c74 => ?_) (fun c74 => ?_)
        rotate_left
        · exact absurd (Int32.not_le.mp c74) hlt
        refine ae_iload (pc := 91) dX8_look_91 rfl ?_
        refine ae_iload (pc := 93) dX8_look_93 rfl ?_
        refine ae_icmp_ge (pc := 95) (t := 102) dX8_look_95 (by decide) (fun c95 => ?_) (fun c95 => ?_)
        · rw [if_neg (Int32.not_lt.mpr c95)] at fin2
          refine ae_iinc (pc := 102) (v := nI (k + 1 + 1)) dX8_look_102 rfl (nI_inc _) ?_
          refine ae_goto (pc := 105) (t := 38) dX8_look_105 (by decide) ?_
          exact ae_forget [7] rfl fin2
        · rw [if_pos (Int32.not_le.mp c95)] at fin2
          refine ae_iload (pc := 98) dX8_look_98 rfl ?_
          refine ae_istore (pc := 100) dX8_look_100 rfl (Nat.le_of_ble_eq_true rfl) ?_
          refine ae_iinc (pc := 102) (v := nI (k + 1 + 1)) dX8_look_102 rfl (nI_inc _) ?_
          refine ae_goto (pc := 105) (t := 38) dX8_look_105 (by decide) ?_
          exact ae_forget [7] rfl fin2
  have h00 : 0 < fN f := by omega
  have hd0 := sc_distance d M f hg c (f (259 + 0)) hc (hf.2.2.1 0 h00).1
  have e1 : nbt f c (-1) (0 + 1) = some 0 := by rw [nbt_s]; rfl
  have e2 : sc2 f c (0 + 1) 0 = 1000000 := by unfold sc2; rw [nbt_s]; rfl
  have st := main 0 0 e1 h00
  rw [e2] at st
  refine ae_aload_n (pc := 0) dX8_look_0 rfl ?_
  refine ae_getR (pc := 1) (k := 16) (c := 8) (j := 0) (q := 1) dX8_look_1 rfl rfl (Nat.le_of_ble_eq_true rfl) rfl (Nat.le_of_ble_eq_true rfl) rfl ?_
  refine ae_getR (pc := 4) (k := 1) (c := 7) (j := 2) (q := 2) dX8_look_4 rfl rfl (Nat.le_of_ble_eq_true rfl) rfl (Nat.le_of_ble_eq_true rfl) rfl ?_
  refine ae_iload_n (pc := 7) dX8_look_7 rfl ?_
  refine ae_iaload (pc := 8) (k := 2) (N := 256) (v := c) (p) dX8_look_8 (Nat.le_of_ble_eq_true rfl) rfl rfl rfl (by omega) ((hg.2.1 p hp).trans hcE) ?_
  refine ae_istore_n (pc := 9) dX8_look_9 rfl (Nat.le_of_ble_eq_true rfl) ?_
  refine ae_iconst (pc := 10) (v := nI 0) dX8_look_10 (by decide) ?_
  refine ae_istore_n (pc := 11) dX8_look_11 rfl (Nat.le_of_ble_eq_true rfl) ?_
  refine ae_aload_n (pc := 12) dX8_look_12 rfl ?_
  refine ae_getR (pc := 13) (k := 16) (c := 8) (j := 0) (q := 1) dX8_look_13 rfl rfl (Nat.le_of_ble_eq_true rfl) rfl (Nat.le_of_ble_eq_true rfl) rfl ?_
  refine ae_iload_n (pc := 16) dX8_look_16 rfl ?_
  refine ae_aload_n (pc := 17) dX8_look_17 rfl ?_
  refine ae_getR (pc := 18) (k := 16) (c := 8) (j := 0) (q := 1) dX8_look_18 rfl rfl (Nat.le_of_ble_eq_true rfl) rfl (Nat.le_of_ble_eq_true rfl) rfl ?_
  refine ae_getR (pc := 21) (k := 1) (c := 7) (j := 4) (q := 3) dX8_look_21 rfl rfl (Nat.le_of_ble_eq_true rfl) rfl (Nat.le_of_ble_eq_true rfl) rfl ?_
  refine ae_iconst (pc := 24) (v := nI 0) dX8_look_24 (by decide) ?_
  refine ae_iaload (pc := 25) (k := 3) (N := 16) (v := f (259 + 0)) (0) dX8_look_25 (Nat.le_of_ble_eq_true rfl) rfl rfl rfl (by omega) ((hg.2.2.1 0 h00).1) ?_
  refine ae_pcallV (pc := 26) (z := zX7_distance) (k := 1) (As := [_, _]) dX8_look_26 rfl rfl rfl rfl (Nat.le_of_ble_eq_true rfl) rfl (Nat.le_of_ble_eq_true rfl) (Nat.le_of_ble_eq_true rfl) (hd0) ?_
  refine ae_istore (pc := 29) dX8_look_29 rfl (Nat.le_of_ble_eq_true rfl) ?_
  refine ae_ldc (pc := 31) dX8_look_31 rfl rfl ?_
  refine ae_istore (pc := 33) dX8_look_33 rfl (Nat.le_of_ble_eq_true rfl) ?_
  refine ae_iconst (pc := 35) (v := nI 1) dX8_look_35 (by decide) ?_
  refine ae_istore (pc := 36) dX8_look_36 rfl (Nat.le_of_ble_eq_true rfl) ?_
  exact st
theorem sc_takeStock (d : Nat) (M : am_M) (f : fT) (hg : AG M f) (hf : wf f) : am_R (d + 3) zX8_takeStock [.ref 16] M (fun v M' => v = none ∧ SV M f M') := by
  refine ae_enter (z := zX8_takeStock) (y := yX8_takeStock) (cc := cX8_takeStock) (mL := 2) (rt := none) (ci := 8) (st := false) (np := 0) (L := [some (.ref 16), none]) rfl (by decide) (Nat.le_of_ble_eq_true rfl) rfl ?_
  obtain ⟨-, -, a3⟩ := AG_w hg hf.1
  have hA := fA_le hf.1
  have hN := hf.1.2.2.2
  have ag : ∀ a x y z w, AG (svM M a x y z w) f := by
    intro a x y z w
    unfold AG
    rw [svM_ne _ _ _ _ _ _ (by decide), svM_ne _ _ _ _ _ _ (by decide), svM_ne _ _ _ _ _ _ (by decide), svM_ne _ _ _ _ _ _ (by decide), svM_ne _ _ _ _ _ _ (by decide)]
    exact hg
  have lp2 : ∀ a cl ls nm lo, SF f 0 (a 5) cl ls nm lo → am_E none (am_R (d + 2)) cX8_takeStock 8 none (fun v M' => v = none ∧ SV M f M') (35, [some (.ref 16), some (.int (nI 0))], [], svM M a cl ls nm lo) := by
    refine am_down (P := fun p => ∀ a cl ls nm lo, SF f p (a 5) cl ls nm lo → am_E none (am_R (d + 2)) cX8_takeStock 8 none _ (35, [some (.ref 16), some (.int (nI p))], [], svM M a cl ls nm lo)) (fA f) (fun p hp ih a cl ls nm lo h => ?_)
    refine ae_iload_n (pc := 35) dX8_takeStock_35 rfl ?_
    refine ae_aload_n (pc := 36) dX8_takeStock_36 rfl ?_
    refine ae_getR (pc := 37) (k := 16) (c := 8) (j := 0) (q := 1) dX8_takeStock_37 rfl rfl (Nat.le_of_ble_eq_true rfl) rfl (Nat.le_of_ble_eq_true rfl) rfl ?_
    refine ae_pcallV (pc := 40) (z := zX7_area) (k := 1) (As := []) dX8_takeStock_40 rfl rfl rfl rfl (Nat.le_of_ble_eq_true rfl) rfl (Nat.le_of_ble_eq_true rfl) (Nat.le_of_ble_eq_true rfl) (sc_area (d + 1) _ f (ag _ _ _ _ _) hf.1) ?_
    refine ae_icmp_ge (pc := 43) (t := 92) dX8_takeStock_43 (by decide) (fun c43 => ?_) (fun c43 => ?_)
    · have hp2 : p = fA f := by rw [nI_leI (by omega) (by omega)] at c43; omega
      subst hp2
      refine ae_return (pc := 92) dX8_takeStock_92 rfl ?_
      exact ⟨rfl, a, cl, ls, nm, lo, rfl, h⟩
    · have hp2 : p < fA f := by rw [nI_leI (by omega) (by omega)] at c43; omega
      have hop := sc_isOpaque (d + 1) (svM M a (upd cl p (-1)) (upd ls p (nI 0)) nm lo) f (ag _ _ _ _ _) hf.1 p hp2
      have s3 : (svM M a (upd cl p (-1)) (upd ls p (nI 0)) nm lo).1 1 3 = nI (fN f) := by rw [svM_ne _ _ _ _ _ _ (by decide)]; exact a3
      by_cases ho : f (2 + p) = -1
      · rw [bI_f (fun q => q ho)] at hop
        refine ae_aload_n (pc := 46) dX8_takeStock_46 rfl ?_
        refine ae_getR (pc := 47) (k := 16) (c := 8) (j := 1) (q := 17) dX8_takeStock_47 rfl rfl (Nat.le_of_ble_eq_true rfl) rfl (Nat.le_of_ble_eq_true rfl) rfl ?_
        refine ae_iload_n (pc := 50) dX8_takeStock_50 rfl ?_
        refine ae_iconst (pc := 51) (v := (-1)) dX8_takeStock_51 (by decide) ?_
        refine ae_iastore (pc := 52) (k := 17) (N := 256) (p) dX8_takeStock_52 (Nat.le_of_ble_eq_true rfl) rfl rfl rfl (by omega) rfl ?_
        refine ae_M (svM_u17 _ _ _ _ _ _ _) ?_
        rw [svM_17]
        refine ae_aload_n (pc := 53) dX8_takeStock_53 rfl ?_
        refine ae_getR (pc := 54) (k := 16) (c := 8) (j := 2) (q := 18) dX8_takeStock_54 rfl rfl (Nat.le_of_ble_eq_true rfl) rfl (Nat.le_of_ble_eq_true rfl) rfl ?_
        refine ae_iload_n (pc := 57) dX8_takeStock_57 rfl ?_
        refine ae_iconst (pc := 58) (v := nI 0) dX8_takeStock_58 (by decide) ?_
        refine ae_iastore (pc := 59) (k := 18) (N := 256) (p) dX8_takeStock_59 (Nat.le_of_ble_eq_true rfl) rfl rfl rfl (by omega) rfl ?_
        refine ae_M (svM_u18 _ _ _ _ _ _ _) ?_
        rw [svM_18]
        refine ae_aload_n (pc := 60) dX8_takeStock_60 rfl ?_
        refine ae_getR (pc := 61) (k := 16) (c := 8) (j := 0) (q := 1) dX8_takeStock_61 rfl rfl (Nat.le_of_ble_eq_true rfl) rfl (Nat.le_of_ble_eq_true rfl) rfl ?_
        refine ae_iload_n (pc := 64) dX8_takeStock_64 rfl ?_
        refine ae_pcallV (pc := 65) (z := zX7_isOpaque) (k := 1) (As := [_]) dX8_takeStock_65 rfl rfl rfl rfl (Nat.le_of_ble_eq_true rfl) rfl (Nat.le_of_ble_eq_true rfl) (Nat.le_of_ble_eq_true rfl) (hop) ?_
        refine ae_if_eq (pc := 68) (t := 86) dX8_takeStock_68 (by decide) (fun c68 => ?_) (fun c68 => ?_)
        rotate_left
        · exact absurd rfl c68
        refine ae_iinc (pc := 86) (v := nI (p + 1)) dX8_takeStock_86 rfl (nI_inc p) ?_
        refine ae_goto (pc := 89) (t := 35) dX8_takeStock_89 (by decide) ?_
        exact ih hp2 _ _ _ _ _ (SF_skip h ho)
      · rw [bI_t ho] at hop
        by_cases hz : fN f = 0
        · refine ae_aload_n (pc := 46) dX8_takeStock_46 rfl ?_
          refine ae_getR (pc := 47) (k := 16) (c := 8) (j := 1) (q := 17) dX8_takeStock_47 rfl rfl (Nat.le_of_ble_eq_true rfl) rfl (Nat.le_of_ble_eq_true rfl) rfl ?_
          refine ae_iload_n (pc := 50) dX8_takeStock_50 rfl ?_
          refine ae_iconst (pc := 51) (v := (-1)) dX8_takeStock_51 (by decide) ?_
          refine ae_iastore (pc := 52) (k := 17) (N := 256) (p) dX8_takeStock_52 (Nat.le_of_ble_eq_true rfl) rfl rfl rfl (by omega) rfl ?_
          refine ae_M (svM_u17 _ _ _ _ _ _ _) ?_
          rw [svM_17]
          refine ae_aload_n (pc := 53) dX8_takeStock_53 rfl ?_
          refine ae_getR (pc := 54) (k := 16) (c := 8) (j := 2) (q := 18) dX8_takeStock_54 rfl rfl (Nat.le_of_ble_eq_true rfl) rfl (Nat.le_of_ble_eq_true rfl) rfl ?_
          refine ae_iload_n (pc := 57) dX8_takeStock_57 rfl ?_
          refine ae_iconst (pc := 58) (v := nI 0) dX8_takeStock_58 (by decide) ?_
          refine ae_iastore (pc := 59) (k := 18) (N := 256) (p) dX8_takeStock_59 (Nat.le_of_ble_eq_true rfl) rfl rfl rfl (by omega) rfl ?_
          refine ae_M (svM_u18 _ _ _ _ _ _ _) ?_
          rw [svM_18]
          refine ae_aload_n (pc := 60) dX8_takeStock_60 rfl ?_
          refine ae_getR (pc := 61) (k := 16) (c := 8) (j := 0) (q := 1) dX8_takeStock_61 rfl rfl (Nat.le_of_ble_eq_true rfl) rfl (Nat.le_of_ble_eq_true rfl) rfl ?_
          refine ae_iload_n (pc := 64) dX8_takeStock_64 rfl ?_
          refine ae_pcallV (pc := 65) (z := zX7_isOpaque) (k := 1) (As := [_]) dX8_takeStock_65 rfl rfl rfl rfl (Nat.le_of_ble_eq_true rfl) rfl (Nat.le_of_ble_eq_true rfl) (Nat.le_of_ble_eq_true rfl) (hop) ?_
          refine ae_if_eq (pc := 68) (t := 86) dX8_takeStock_68 (by decide) (fun c68 => ?_) (fun c68 => ?_)
          · exact absurd c68 (by decide)
          refine ae_aload_n (pc := 71) dX8_takeStock_71 rfl ?_
          refine ae_getR (pc := 72) (k := 16) (c := 8) (j := 0) (q := 1) dX8_takeStock_72 rfl rfl (Nat.le_of_ble_eq_true rfl) rfl (Nat.le_of_ble_eq_true rfl) rfl ?_
          refine ae_getI (pc := 75) (k := 1) (c := 7) (j := 3) (v := nI (fN f)) dX8_takeStock_75 rfl rfl (Or.inl rfl) (Nat.le_of_ble_eq_true rfl) rfl (Nat.le_of_ble_eq_true rfl) s3 ?_
          refine ae_if_le (pc := 78) (t := 86) dX8_takeStock_78 (by decide) (fun c78 => ?_) (fun c78 => ?_)
          · refine ae_iinc (pc := 86) (v := nI (p + 1)) dX8_takeStock_86 rfl (nI_inc p) ?_
            refine ae_goto (pc := 89) (t := 35) dX8_takeStock_89 (by decide) ?_
            exact ih hp2 _ _ _ _ _ (SF_no h ho hz)
          · exact absurd (by rw [hz]; decide) c78
        · obtain ⟨b, hb, hb2⟩ := ner_some (f := f) (f (2 + p)) (by omega) hN
          have hpos : ¬ nI (fN f) ≤ 0 := by rw [show (0 : Int32) = nI 0 from rfl, nI_leI (by omega) (by omega)]; omega
          have hlk := sc_look d (svM M a (upd cl p (-1)) (upd ls p (nI 0)) nm lo) f (ag _ _ _ _ _) hf p hp2 ho b hb (svc f b p) (by rw [svM_19]; exact h.2.2.1 b (by omega))
          rw [svM_16, svM_17, svM_18, svM_19, svM_20] at hlk
          have uu : ∀ (r : fT) (x y : Int32), upd (upd r p x) p y = upd r p y := fun r x y => by funext j; simp only [upd]; split <;> rfl
          rw [uu, uu] at hlk
          refine ae_aload_n (pc := 46) dX8_takeStock_46 rfl ?_
          refine ae_getR (pc := 47) (k := 16) (c := 8) (j := 1) (q := 17) dX8_takeStock_47 rfl rfl (Nat.le_of_ble_eq_true rfl) rfl (Nat.le_of_ble_eq_true rfl) rfl ?_
          refine ae_iload_n (pc := 50) dX8_takeStock_50 rfl ?_
          refine ae_iconst (pc := 51) (v := (-1)) dX8_takeStock_51 (by decide) ?_
          refine ae_iastore (pc := 52) (k := 17) (N := 256) (p) dX8_takeStock_52 (Nat.le_of_ble_eq_true rfl) rfl rfl rfl (by omega) rfl ?_
          refine ae_M (svM_u17 _ _ _ _ _ _ _) ?_
          rw [svM_17]
          refine ae_aload_n (pc := 53) dX8_takeStock_53 rfl ?_
          refine ae_getR (pc := 54) (k := 16) (c := 8) (j := 2) (q := 18) dX8_takeStock_54 rfl rfl (Nat.le_of_ble_eq_true rfl) rfl (Nat.le_of_ble_eq_true rfl) rfl ?_
          refine ae_iload_n (pc := 57) dX8_takeStock_57 rfl ?_
          refine ae_iconst (pc := 58) (v := nI 0) dX8_takeStock_58 (by decide) ?_
          refine ae_iastore (pc := 59) (k := 18) (N := 256) (p) dX8_takeStock_59 (Nat.le_of_ble_eq_true rfl) rfl rfl rfl (by omega) rfl ?_
          refine ae_M (svM_u18 _ _ _ _ _ _ _) ?_
          rw [svM_18]
          refine ae_aload_n (pc := 60) dX8_takeStock_60 rfl ?_
          refine ae_getR (pc := 61) (k := 16) (c := 8) (j := 0) (q := 1) dX8_takeStock_61 rfl rfl (Nat.le_of_ble_eq_true rfl) rfl (Nat.le_of_ble_eq_true rfl) rfl ?_
          refine ae_iload_n (pc := 64) dX8_takeStock_64 rfl ?_
          refine ae_pcallV (pc := 65) (z := zX7_isOpaque) (k := 1) (As := [_]) dX8_takeStock_65 rfl rfl rfl rfl (Nat.le_of_ble_eq_true rfl) rfl (Nat.le_of_ble_eq_true rfl) (Nat.le_of_ble_eq_true rfl) (hop) ?_
          refine ae_if_eq (pc := 68) (t := 86) dX8_takeStock_68 (by decide) (fun c68 => ?_) (fun c68 => ?_)
          · exact absurd c68 (by decide)
          refine ae_aload_n (pc := 71) dX8_takeStock_71 rfl ?_
          refine ae_getR (pc := 72) (k := 16) (c := 8) (j := 0) (q := 1) dX8_takeStock_72 rfl rfl (Nat.le_of_ble_eq_true rfl) rfl (Nat.le_of_ble_eq_true rfl) rfl ?_
          refine ae_getI (pc := 75) (k := 1) (c := 7) (j := 3) (v := nI (fN f)) dX8_takeStock_75 rfl rfl (Or.inl rfl) (Nat.le_of_ble_eq_true rfl) rfl (Nat.le_of_ble_eq_true rfl) s3 ?_
          refine ae_if_le (pc := 78) (t := 86) dX8_takeStock_78 (by decide) (fun c78 => ?_) (fun c78 => ?_)
          · exact absurd c78 hpos
          refine ae_aload_n (pc := 81) dX8_takeStock_81 rfl ?_
          refine ae_iload_n (pc := 82) dX8_takeStock_82 rfl ?_
          refine ae_callV (pc := 83) (z := zX8_look) (k := 16) (As := [_]) dX8_takeStock_83 rfl rfl rfl rfl (Nat.le_of_ble_eq_true rfl) rfl (Nat.le_of_ble_eq_true rfl) (Nat.le_of_ble_eq_true rfl) (hlk) (fun v M' hq => ?_)
          obtain ⟨rfl, lo', rfl, hlo⟩ := hq
          rw [svM_svM]
          refine ae_iinc (pc := 86) (v := nI (p + 1)) dX8_takeStock_86 rfl (nI_inc p) ?_
          refine ae_goto (pc := 89) (t := 35) dX8_takeStock_89 (by decide) ?_
          exact ih hp2 _ _ _ _ _ (by rw [upd_self]; exact SF_look hN h ho hb hlo)
  have lp1 : ∀ nm lo : fT, (∀ e, e < 0 → nm e = nI 0 ∧ lo e = nI 0) → am_E none (am_R (d + 2)) cX8_takeStock 8 none (fun v M' => v = none ∧ SV M f M') (7, [some (.ref 16), some (.int (nI 0))], [], svM M (upd (M.1 16) 5 (nI 0)) (M.1 17) (M.1 18) nm lo) := by
    refine am_down (P := fun k => ∀ nm lo : fT, (∀ e, e < k → nm e = nI 0 ∧ lo e = nI 0) → am_E none (am_R (d + 2)) cX8_takeStock 8 none _ (7, [some (.ref 16), some (.int (nI k))], [], svM M (upd (M.1 16) 5 (nI 0)) (M.1 17) (M.1 18) nm lo)) 16 (fun k hk ih nm lo h => ?_)
    refine ae_iload_n (pc := 7) dX8_takeStock_7 rfl ?_
    refine ae_bipush (pc := 8) (v := nI 16) dX8_takeStock_8 (by decide) ?_
    refine ae_icmp_ge (pc := 10) (t := 33) dX8_takeStock_10 (by decide) (fun c10 => ?_) (fun c10 => ?_)
    · have hk2 : k = 16 := by rw [nI_leI (by omega) (by omega)] at c10; omega
      subst hk2
      have := lp2 (upd (M.1 16) 5 (nI 0)) (M.1 17) (M.1 18) nm lo (by rw [upd_self]; exact SF_0 (fun e he => (h e he).1) (fun e he => (h e he).2) hN)
      refine ae_iconst (pc := 33) (v := nI 0) dX8_takeStock_33 (by decide) ?_
      refine ae_istore_n (pc := 34) dX8_takeStock_34 rfl (Nat.le_of_ble_eq_true rfl) ?_
      exact this
    · have hk2 : k < 16 := by rw [nI_leI (by omega) (by omega)] at c10; omega
      refine ae_aload_n (pc := 13) dX8_takeStock_13 rfl ?_
      refine ae_getR (pc := 14) (k := 16) (c := 8) (j := 3) (q := 19) dX8_takeStock_14 rfl rfl (Nat.le_of_ble_eq_true rfl) rfl (Nat.le_of_ble_eq_true rfl) rfl ?_
      refine ae_iload_n (pc := 17) dX8_takeStock_17 rfl ?_
      refine ae_iconst (pc := 18) (v := nI 0) dX8_takeStock_18 (by decide) ?_
      refine ae_iastore (pc := 19) (k := 19) (N := 16) (k) dX8_takeStock_19 (Nat.le_of_ble_eq_true rfl) rfl rfl rfl (by omega) rfl ?_
      refine ae_M (svM_u19 _ _ _ _ _ _ _) ?_
      rw [svM_19]
      refine ae_aload_n (pc := 20) dX8_takeStock_20 rfl ?_
      refine ae_getR (pc := 21) (k := 16) (c := 8) (j := 4) (q := 20) dX8_takeStock_21 rfl rfl (Nat.le_of_ble_eq_true rfl) rfl (Nat.le_of_ble_eq_true rfl) rfl ?_
      refine ae_iload_n (pc := 24) dX8_takeStock_24 rfl ?_
      refine ae_iconst (pc := 25) (v := nI 0) dX8_takeStock_25 (by decide) ?_
      refine ae_iastore (pc := 26) (k := 20) (N := 16) (k) dX8_takeStock_26 (Nat.le_of_ble_eq_true rfl) rfl rfl rfl (by omega) rfl ?_
      refine ae_M (svM_u20 _ _ _ _ _ _ _) ?_
      rw [svM_20]
      refine ae_iinc (pc := 27) (v := nI (k + 1)) dX8_takeStock_27 rfl (nI_inc k) ?_
      refine ae_goto (pc := 30) (t := 7) dX8_takeStock_30 (by decide) ?_
      refine ih hk2 _ _ (fun e he => ?_)
      by_cases hek : e = k
      · subst hek; exact ⟨upd_self _ _ _, upd_self _ _ _⟩
      · rw [upd_ne _ _ hek, upd_ne _ _ hek]; exact h e (by omega)
  have st := lp1 (M.1 19) (M.1 20) (fun e he => absurd he (Nat.not_lt_zero e))
  refine ae_aload_n (pc := 0) dX8_takeStock_0 rfl ?_
  refine ae_iconst (pc := 1) (v := nI 0) dX8_takeStock_1 (by decide) ?_
  refine ae_putfield (pc := 2) (k := 16) (c := 8) (j := 5) dX8_takeStock_2 rfl rfl (Nat.le_of_ble_eq_true rfl) rfl (Nat.le_of_ble_eq_true rfl) rfl rfl ?_
  refine ae_iconst (pc := 5) (v := nI 0) dX8_takeStock_5 (by decide) ?_
  refine ae_istore_n (pc := 6) dX8_takeStock_6 rfl (Nat.le_of_ble_eq_true rfl) ?_
  refine ae_M ?_ st
  have := svM_u16 M (M.1 16) (M.1 17) (M.1 18) (M.1 19) (M.1 20) (upd (M.1 16) 5 (nI 0))
  rw [svM_eta] at this
  exact this
theorem sc_cheapestEntry (d : Nat) (M : am_M) (f : fT) (hg : AG M f) (hf : wf f) (h2 : 2 ≤ fN f) (hlo : ∀ e, e < fN f → M.1 20 e = bsum f (nI e) (fA f) - bsum f (-1) (fA f)) : am_R (d + 1) zX8_cheapestEntry [.ref 16] M (fun v M' => v = some (.int (oI (chp f (fN f)))) ∧ M' = M) := by
  refine ae_enter (z := zX8_cheapestEntry) (y := yX8_cheapestEntry) (cc := cX8_cheapestEntry) (mL := 3) (rt := some .int) (ci := 8) (st := false) (np := 0) (L := [some (.ref 16), none, none]) rfl (by decide) (Nat.le_of_ble_eq_true rfl) rfl ?_
  obtain ⟨-, -, a3⟩ := AG_w hg hf.1
  have hN := hf.1.2.2.2
  refine ae_iconst (pc := 0) (v := (-1)) dX8_cheapestEntry_0 (by decide) ?_
  refine ae_istore_n (pc := 1) dX8_cheapestEntry_1 rfl (Nat.le_of_ble_eq_true rfl) ?_
  refine ae_iconst (pc := 2) (v := nI 0) dX8_cheapestEntry_2 (by decide) ?_
  refine ae_istore_n (pc := 3) dX8_cheapestEntry_3 rfl (Nat.le_of_ble_eq_true rfl) ?_
  skip
  refine am_down (P := fun k => am_E none (am_R d) cX8_cheapestEntry 8 (some .int) _ (4, [some (.ref 16), some (.int (oI (chp f k))), some (.int (nI k))], [], M)) (fN f) (fun k hk ih => ?_)
  refine ae_iload_n (pc := 4) dX8_cheapestEntry_4 rfl ?_
  refine ae_aload_n (pc := 5) dX8_cheapestEntry_5 rfl ?_
  refine ae_getR (pc := 6) (k := 16) (c := 8) (j := 0) (q := 1) dX8_cheapestEntry_6 rfl rfl (Nat.le_of_ble_eq_true rfl) rfl (Nat.le_of_ble_eq_true rfl) rfl ?_
  refine ae_getI (pc := 9) (k := 1) (c := 7) (j := 3) (v := nI (fN f)) dX8_cheapestEntry_9 rfl rfl (Or.inl rfl) (Nat.le_of_ble_eq_true rfl) rfl (Nat.le_of_ble_eq_true rfl) a3 ?_
  refine ae_icmp_ge (pc := 12) (t := 58) dX8_cheapestEntry_12 (by decide) (fun c12 => ?_) (fun c12 => ?_)
  · have hk2 : k = fN f := by rw [nI_leI (by omega) (by omega)] at c12; omega
    subst hk2
    refine ae_iload_n (pc := 58) dX8_cheapestEntry_58 rfl ?_
    refine ae_ireturn (pc := 59) dX8_cheapestEntry_59 rfl ?_
    exact ⟨rfl, rfl⟩
  · have hk2 : k < fN f := by rw [nI_leI (by omega) (by omega)] at c12; omega
    have ih2 := ih hk2
    rw [chp_s] at ih2
    have h01 := (hf.2.2.1 k hk2).2
    by_cases hl : f (275 + k) = 1
    · rw [if_pos hl] at ih2
      refine ae_aload_n (pc := 15) dX8_cheapestEntry_15 rfl ?_
      refine ae_getR (pc := 16) (k := 16) (c := 8) (j := 0) (q := 1) dX8_cheapestEntry_16 rfl rfl (Nat.le_of_ble_eq_true rfl) rfl (Nat.le_of_ble_eq_true rfl) rfl ?_
      refine ae_getR (pc := 19) (k := 1) (c := 7) (j := 5) (q := 4) dX8_cheapestEntry_19 rfl rfl (Nat.le_of_ble_eq_true rfl) rfl (Nat.le_of_ble_eq_true rfl) rfl ?_
      refine ae_iload_n (pc := 22) dX8_cheapestEntry_22 rfl ?_
      refine ae_baload (pc := 23) (k := 4) (N := 16) (v := f (275 + k)) _ dX8_cheapestEntry_23 (Nat.le_of_ble_eq_true rfl) rfl rfl rfl (by omega) ((hg.2.2.1 k hk2).2) ?_
      refine ae_if_eq (pc := 24) (t := 30) dX8_cheapestEntry_24 (by decide) (fun c24 => ?_) (fun c24 => ?_)
      · exact absurd (hl.symm.trans c24) (by decide)
      refine ae_goto (pc := 27) (t := 52) dX8_cheapestEntry_27 (by decide) ?_
      refine ae_iinc (pc := 52) (v := nI (k + 1)) dX8_cheapestEntry_52 rfl (nI_inc k) ?_
      refine ae_goto (pc := 55) (t := 4) dX8_cheapestEntry_55 (by decide) ?_
      exact ih2
    · rw [if_neg hl] at ih2
      have h0 := h01.resolve_right hl
      cases hx : chp f k with
      | none =>
        rw [hx] at ih2
        refine ae_aload_n (pc := 15) dX8_cheapestEntry_15 rfl ?_
        refine ae_getR (pc := 16) (k := 16) (c := 8) (j := 0) (q := 1) dX8_cheapestEntry_16 rfl rfl (Nat.le_of_ble_eq_true rfl) rfl (Nat.le_of_ble_eq_true rfl) rfl ?_
        refine ae_getR (pc := 19) (k := 1) (c := 7) (j := 5) (q := 4) dX8_cheapestEntry_19 rfl rfl (Nat.le_of_ble_eq_true rfl) rfl (Nat.le_of_ble_eq_true rfl) rfl ?_
        refine ae_iload_n (pc := 22) dX8_cheapestEntry_22 rfl ?_
        refine ae_baload (pc := 23) (k := 4) (N := 16) (v := f (275 + k)) _ dX8_cheapestEntry_23 (Nat.le_of_ble_eq_true rfl) rfl rfl rfl (by omega) ((hg.2.2.1 k hk2).2) ?_
        refine ae_if_eq (pc := 24) (t := 30) dX8_cheapestEntry_24 (by decide) (fun c24 => ?_) (fun c24 => ?_)
        rotate_left
        · exact absurd h0 c24
        refine ae_iload_n (pc := 30) dX8_cheapestEntry_30 rfl ?_
        refine ae_iconst (pc := 31) (v := (-1)) dX8_cheapestEntry_31 (by decide) ?_
        refine ae_icmp_eq (pc := 32) (t := 50) dX8_cheapestEntry_32 (by decide) (fun c32 => ?_) (fun c32 => ?_)
        rotate_left
        · exact absurd rfl c32
        refine ae_iload_n (pc := 50) dX8_cheapestEntry_50 rfl ?_
        refine ae_istore_n (pc := 51) dX8_cheapestEntry_51 rfl (Nat.le_of_ble_eq_true rfl) ?_
        refine ae_iinc (pc := 52) (v := nI (k + 1)) dX8_cheapestEntry_52 rfl (nI_inc k) ?_
        refine ae_goto (pc := 55) (t := 4) dX8_cheapestEntry_55 (by decide) ?_
        exact ih2
      | some b =>
        rw [hx] at ih2
        dsimp only at ih2
        have hb := chp_lt hx
        have hcmp : bsum f (nI k) (fA f) - bsum f (-1) (fA f) < bsum f (nI b) (fA f) - bsum f (-1) (fA f) ↔ bsum f (nI k) (fA f) < bsum f (nI b) (fA f) := bsum_cmp hf k b
        refine ae_aload_n (pc := 15) dX8_cheapestEntry_15 rfl ?_
        refine ae_getR (pc := 16) (k := 16) (c := 8) (j := 0) (q := 1) dX8_cheapestEntry_16 rfl rfl (Nat.le_of_ble_eq_true rfl) rfl (Nat.le_of_ble_eq_true rfl) rfl ?_
        refine ae_getR (pc := 19) (k := 1) (c := 7) (j := 5) (q := 4) dX8_cheapestEntry_19 rfl rfl (Nat.le_of_ble_eq_true rfl) rfl (Nat.le_of_ble_eq_true rfl) rfl ?_
        refine ae_iload_n (pc := 22) dX8_cheapestEntry_22 rfl ?_
        refine ae_baload (pc := 23) (k := 4) (N := 16) (v := f (275 + k)) _ dX8_cheapestEntry_23 (Nat.le_of_ble_eq_true rfl) rfl rfl rfl (by omega) ((hg.2.2.1 k hk2).2) ?_
        refine ae_if_eq (pc := 24) (t := 30) dX8_cheapestEntry_24 (by decide) (fun c24 => ?_) (fun c24 => ?_)
        rotate_left
        · exact absurd h0 c24
        refine ae_iload_n (pc := 30) dX8_cheapestEntry_30 rfl ?_
        refine ae_iconst (pc := 31) (v := (-1)) dX8_cheapestEntry_31 (by decide) ?_
        refine ae_icmp_eq (pc := 32) (t := 50) dX8_cheapestEntry_32 (by decide) (fun c32 => ?_) (fun c32 => ?_)
        · exact absurd c32 (nI_ne1 (by omega))
        refine ae_aload_n (pc := 35) dX8_cheapestEntry_35 rfl ?_
        refine ae_getR (pc := 36) (k := 16) (c := 8) (j := 4) (q := 20) dX8_cheapestEntry_36 rfl rfl (Nat.le_of_ble_eq_true rfl) rfl (Nat.le_of_ble_eq_true rfl) rfl ?_
        refine ae_iload_n (pc := 39) dX8_cheapestEntry_39 rfl ?_
        refine ae_iaload (pc := 40) (k := 20) (N := 16) (v := bsum f (nI k) (fA f) - bsum f (-1) (fA f)) _ dX8_cheapestEntry_40 (Nat.le_of_ble_eq_true rfl) rfl rfl rfl (by omega) (hlo k hk2) ?_
        refine ae_aload_n (pc := 41) dX8_cheapestEntry_41 rfl ?_
        refine ae_getR (pc := 42) (k := 16) (c := 8) (j := 4) (q := 20) dX8_cheapestEntry_42 rfl rfl (Nat.le_of_ble_eq_true rfl) rfl (Nat.le_of_ble_eq_true rfl) rfl ?_
        refine ae_iload_n (pc := 45) dX8_cheapestEntry_45 rfl ?_
        refine ae_iaload (pc := 46) (k := 20) (N := 16) (v := bsum f (nI b) (fA f) - bsum f (-1) (fA f)) (b) dX8_cheapestEntry_46 (Nat.le_of_ble_eq_true rfl) rfl rfl rfl (by omega) (hlo b (by omega)) ?_
        refine ae_icmp_ge (pc := 47) (t := 52) dX8_cheapestEntry_47 (by decide) (fun c47 => ?_) (fun c47 => ?_)
        · rw [if_neg (fun q => Int32.not_lt.mpr c47 (hcmp.mpr q))] at ih2
          refine ae_iinc (pc := 52) (v := nI (k + 1)) dX8_cheapestEntry_52 rfl (nI_inc k) ?_
          refine ae_goto (pc := 55) (t := 4) dX8_cheapestEntry_55 (by decide) ?_
          exact ih2
        · rw [if_pos (hcmp.mp (Int32.not_le.mp c47))] at ih2
          refine ae_iload_n (pc := 50) dX8_cheapestEntry_50 rfl ?_
          refine ae_istore_n (pc := 51) dX8_cheapestEntry_51 rfl (Nat.le_of_ble_eq_true rfl) ?_
          refine ae_iinc (pc := 52) (v := nI (k + 1)) dX8_cheapestEntry_52 rfl (nI_inc k) ?_
          refine ae_goto (pc := 55) (t := 4) dX8_cheapestEntry_55 (by decide) ?_
          exact ih2
theorem sc_gainOf (d : Nat) (M : am_M) (f : fT) (hg : AG M f) (hf : wf f) (hz : 0 < fN f) (hls : ∀ q, q < fA f → M.1 18 q = (if f (2 + q) = -1 then nI 0 else nbd f (f (2 + q)) (-1))) (c : Int32) (hc : okc c) : am_R (d + 2) zX8_gainOf [.ref 16, .int c] M (fun v M' => v = some (.int (gsum f c (fA f))) ∧ M' = M) := by
  refine ae_enter (z := zX8_gainOf) (y := yX8_gainOf) (cc := cX8_gainOf) (mL := 4) (rt := some .int) (ci := 8) (st := false) (np := 1) (L := [some (.ref 16), some (.int c), none, none]) rfl (by decide) (Nat.le_of_ble_eq_true rfl) rfl ?_
  have hA := fA_le hf.1
  refine ae_iconst (pc := 0) (v := nI 0) dX8_gainOf_0 (by decide) ?_
  refine ae_istore_n (pc := 1) dX8_gainOf_1 rfl (Nat.le_of_ble_eq_true rfl) ?_
  refine ae_iconst (pc := 2) (v := nI 0) dX8_gainOf_2 (by decide) ?_
  refine ae_istore_n (pc := 3) dX8_gainOf_3 rfl (Nat.le_of_ble_eq_true rfl) ?_
  skip
  refine am_down (P := fun p => am_E none (am_R (d + 1)) cX8_gainOf 8 (some .int) _ (4, [some (.ref 16), some (.int c), some (.int (gsum f c p)), some (.int (nI p))], [], M)) (fA f) (fun p hp ih => ?_)
  refine ae_iload_n (pc := 4) dX8_gainOf_4 rfl ?_
  refine ae_aload_n (pc := 5) dX8_gainOf_5 rfl ?_
  refine ae_getR (pc := 6) (k := 16) (c := 8) (j := 0) (q := 1) dX8_gainOf_6 rfl rfl (Nat.le_of_ble_eq_true rfl) rfl (Nat.le_of_ble_eq_true rfl) rfl ?_
  refine ae_pcallV (pc := 9) (z := zX7_area) (k := 1) (As := []) dX8_gainOf_9 rfl rfl rfl rfl (Nat.le_of_ble_eq_true rfl) rfl (Nat.le_of_ble_eq_true rfl) (Nat.le_of_ble_eq_true rfl) (sc_area d M f hg hf.1) ?_
  refine ae_icmp_ge (pc := 12) (t := 63) dX8_gainOf_12 (by decide) (fun c12 => ?_) (fun c12 => ?_)
  · have hp2 : p = fA f := by rw [nI_leI (by omega) (by omega)] at c12; omega
    subst hp2
    refine ae_iload_n (pc := 63) dX8_gainOf_63 rfl ?_
    refine ae_ireturn (pc := 64) dX8_gainOf_64 rfl ?_
    exact ⟨rfl, rfl⟩
  · have hp2 : p < fA f := by rw [nI_leI (by omega) (by omega)] at c12; omega
    have ih2 := ih hp2
    rw [gsum_s] at ih2
    have hop := sc_isOpaque d M f hg hf.1 p hp2
    by_cases ho : f (2 + p) = -1
    · rw [if_pos ho] at ih2
      rw [bI_f (fun q => q ho)] at hop
      refine ae_aload_n (pc := 15) dX8_gainOf_15 rfl ?_
      refine ae_getR (pc := 16) (k := 16) (c := 8) (j := 0) (q := 1) dX8_gainOf_16 rfl rfl (Nat.le_of_ble_eq_true rfl) rfl (Nat.le_of_ble_eq_true rfl) rfl ?_
      refine ae_iload_n (pc := 19) dX8_gainOf_19 rfl ?_
      refine ae_pcallV (pc := 20) (z := zX7_isOpaque) (k := 1) (As := [_]) dX8_gainOf_20 rfl rfl rfl rfl (Nat.le_of_ble_eq_true rfl) rfl (Nat.le_of_ble_eq_true rfl) (Nat.le_of_ble_eq_true rfl) (hop) ?_
      refine ae_if_eq (pc := 23) (t := 57) dX8_gainOf_23 (by decide) (fun c23 => ?_) (fun c23 => ?_)
      rotate_left
      · exact absurd rfl c23
      refine ae_iinc (pc := 57) (v := nI (p + 1)) dX8_gainOf_57 rfl (nI_inc p) ?_
      refine ae_goto (pc := 60) (t := 4) dX8_gainOf_60 (by decide) ?_
      exact ih2
    · rw [if_neg ho] at ih2
      rw [bI_t ho] at hop
      have h9 := hls p hp2
      rw [if_neg ho] at h9
      refine ae_aload_n (pc := 15) dX8_gainOf_15 rfl ?_
      refine ae_getR (pc := 16) (k := 16) (c := 8) (j := 0) (q := 1) dX8_gainOf_16 rfl rfl (Nat.le_of_ble_eq_true rfl) rfl (Nat.le_of_ble_eq_true rfl) rfl ?_
      refine ae_iload_n (pc := 19) dX8_gainOf_19 rfl ?_
      refine ae_pcallV (pc := 20) (z := zX7_isOpaque) (k := 1) (As := [_]) dX8_gainOf_20 rfl rfl rfl rfl (Nat.le_of_ble_eq_true rfl) rfl (Nat.le_of_ble_eq_true rfl) (Nat.le_of_ble_eq_true rfl) (hop) ?_
      refine ae_if_eq (pc := 23) (t := 57) dX8_gainOf_23 (by decide) (fun c23 => ?_) (fun c23 => ?_)
      · exact absurd c23 (by decide)
      refine ae_iload_n (pc := 26) dX8_gainOf_26 rfl ?_
      refine ae_iconst (pc := 27) (v := nI 0) dX8_gainOf_27 (by decide) ?_
      refine ae_aload_n (pc := 28) dX8_gainOf_28 rfl ?_
      refine ae_getR (pc := 29) (k := 16) (c := 8) (j := 2) (q := 18) dX8_gainOf_29 rfl rfl (Nat.le_of_ble_eq_true rfl) rfl (Nat.le_of_ble_eq_true rfl) rfl ?_
      refine ae_iload_n (pc := 32) dX8_gainOf_32 rfl ?_
      refine ae_iaload (pc := 33) (k := 18) (N := 256) (v := nbd f (f (2 + p)) (-1)) (p) dX8_gainOf_33 (Nat.le_of_ble_eq_true rfl) rfl rfl rfl (by omega) h9 ?_
      refine ae_aload_n (pc := 34) dX8_gainOf_34 rfl ?_
      refine ae_getR (pc := 35) (k := 16) (c := 8) (j := 0) (q := 1) dX8_gainOf_35 rfl rfl (Nat.le_of_ble_eq_true rfl) rfl (Nat.le_of_ble_eq_true rfl) rfl ?_
      refine ae_aload_n (pc := 38) dX8_gainOf_38 rfl ?_
      refine ae_getR (pc := 39) (k := 16) (c := 8) (j := 0) (q := 1) dX8_gainOf_39 rfl rfl (Nat.le_of_ble_eq_true rfl) rfl (Nat.le_of_ble_eq_true rfl) rfl ?_
      refine ae_getR (pc := 42) (k := 1) (c := 7) (j := 2) (q := 2) dX8_gainOf_42 rfl rfl (Nat.le_of_ble_eq_true rfl) rfl (Nat.le_of_ble_eq_true rfl) rfl ?_
      refine ae_iload_n (pc := 45) dX8_gainOf_45 rfl ?_
      refine ae_iaload (pc := 46) (k := 2) (N := 256) (v := f (2 + p)) (p) dX8_gainOf_46 (Nat.le_of_ble_eq_true rfl) rfl rfl rfl (by omega) (hg.2.1 p hp2) ?_
      refine ae_iload_n (pc := 47) dX8_gainOf_47 rfl ?_
      refine ae_pcallV (pc := 48) (z := zX7_distance) (k := 1) (As := [_, _]) dX8_gainOf_48 rfl rfl rfl rfl (Nat.le_of_ble_eq_true rfl) rfl (Nat.le_of_ble_eq_true rfl) (Nat.le_of_ble_eq_true rfl) (sc_distance d M f hg _ _ ((hf.2.1 p hp2).resolve_left ho) hc) ?_
      refine ae_isub (pc := 51) dX8_gainOf_51 rfl ?_
      refine ae_pcallS (pc := 52) (z := zJ9_max_7cf53) (As := [_, _]) dX8_gainOf_52 rfl rfl rfl rfl (Nat.le_of_ble_eq_true rfl) (sc_max d _ _ _) ?_
      refine ae_iadd (pc := 55) dX8_gainOf_55 rfl ?_
      refine ae_istore_n (pc := 56) dX8_gainOf_56 rfl (Nat.le_of_ble_eq_true rfl) ?_
      refine ae_iinc (pc := 57) (v := nI (p + 1)) dX8_gainOf_57 rfl (nI_inc p) ?_
      refine ae_goto (pc := 60) (t := 4) dX8_gainOf_60 (by decide) ?_
      exact ih2

