theorem sc_sumChannels (d : Nat) (M : am_M) (f : fT) (hg : AG M f) (hf : wf f) (hcl : ∀ q, q < fA f → M.1 17 q = (if f (2 + q) = -1 then -1 else oI (ner f (f (2 + q))))) : am_R (d + 2) zX5_sumChannels [.ref 25] M (fun v M' => v = none ∧ M' = suM M (smR (M.1 26) f (fA f))) := by
  refine ae_enter (z := zX5_sumChannels) (y := yX5_sumChannels) (cc := cX5_sumChannels) (mL := 4) (rt := none) (ci := 5) (st := false) (np := 0) (L := [some (.ref 25), none, none, none]) rfl (by decide) (Nat.le_of_ble_eq_true rfl) rfl ?_
  have hA := fA_le hf.1
  have hN := hf.1.2.2.2
  have ag : ∀ S, AG (suM M S) f := fun S => AG_ne hg (fun k h1 h2 => suM_ne _ _ (by omega))
  have row : ∀ S k, k ≠ 26 → (suM M S).1 k = M.1 k := fun S k hk => suM_ne _ _ hk
  have second : am_E none (am_R (d + 1)) cX5_sumChannels 5 none (fun v M' => v = none ∧ M' = suM M (smR (M.1 26) f (fA f))) (26, [some (.ref 25), some (.int (nI 0)), none, none], [], suM M (smR (M.1 26) f 0)) := by
    refine am_down (P := fun p => am_E none (am_R (d + 1)) cX5_sumChannels 5 none _ (26, [some (.ref 25), some (.int (nI p)), none, none], [], suM M (smR (M.1 26) f p))) (fA f) (fun p hp ih => ?_)
    refine ae_iload_n (pc := 26) dX5_sumChannels_26 rfl ?_
    refine ae_aload_n (pc := 27) dX5_sumChannels_27 rfl ?_
    refine ae_getR (pc := 28) (k := 25) (c := 5) (j := 0) (q := 1) dX5_sumChannels_28 rfl rfl (Nat.le_of_ble_eq_true rfl) rfl (Nat.le_of_ble_eq_true rfl) rfl ?_
    refine ae_pcallV (pc := 31) (z := zX7_area) (k := 1) (As := []) dX5_sumChannels_31 rfl rfl rfl rfl (Nat.le_of_ble_eq_true rfl) rfl (Nat.le_of_ble_eq_true rfl) (Nat.le_of_ble_eq_true rfl) (sc_area d _ f (ag _) hf.1) ?_
    refine ae_icmp_ge (pc := 34) (t := 106) dX5_sumChannels_34 (by decide) (fun c34 => ?_) (fun c34 => ?_)
    · have hp2 : p = fA f := by rw [nI_leI (by omega) (by omega)] at c34; omega
      subst hp2
      refine ae_return (pc := 106) dX5_sumChannels_106 rfl ?_
      exact ⟨rfl, rfl⟩
    · have hp2 : p < fA f := by rw [nI_leI (by omega) (by omega)] at c34; omega
      have ih2 := ih hp2
      have hc := hcl p hp2
      by_cases ho : f (2 + p) = -1
      · rw [if_pos ho] at hc
        rw [smR_s0 _ ho] at ih2
        have hh := sc_hasEntry d (suM M (smR (M.1 26) f p)) f (ag _) hf.1 (-1)
        rw [bI_f (fun q => ((inE_iff hf.1 _).mp q).1 (by decide))] at hh
        refine ae_aload_n (pc := 37) dX5_sumChannels_37 rfl ?_
        refine ae_getR (pc := 38) (k := 25) (c := 5) (j := 1) (q := 16) dX5_sumChannels_38 rfl rfl (Nat.le_of_ble_eq_true rfl) rfl (Nat.le_of_ble_eq_true rfl) rfl ?_
        refine ae_getR (pc := 41) (k := 16) (c := 8) (j := 1) (q := 17) dX5_sumChannels_41 rfl rfl (Nat.le_of_ble_eq_true rfl) rfl (Nat.le_of_ble_eq_true rfl) rfl ?_
        refine ae_iload_n (pc := 44) dX5_sumChannels_44 rfl ?_
        refine ae_iaload (pc := 45) (k := 17) (N := 256) (v := (-1)) (p) dX5_sumChannels_45 (Nat.le_of_ble_eq_true rfl) rfl rfl rfl (by omega) (by rw [row _ _ (by decide)]; exact hc) ?_
        refine ae_istore_n (pc := 46) dX5_sumChannels_46 rfl (Nat.le_of_ble_eq_true rfl) ?_
        refine ae_aload_n (pc := 47) dX5_sumChannels_47 rfl ?_
        refine ae_getR (pc := 48) (k := 25) (c := 5) (j := 0) (q := 1) dX5_sumChannels_48 rfl rfl (Nat.le_of_ble_eq_true rfl) rfl (Nat.le_of_ble_eq_true rfl) rfl ?_
        refine ae_iload_n (pc := 51) dX5_sumChannels_51 rfl ?_
        refine ae_pcallV (pc := 52) (z := zX7_hasEntry) (k := 1) (As := [_]) dX5_sumChannels_52 rfl rfl rfl rfl (Nat.le_of_ble_eq_true rfl) rfl (Nat.le_of_ble_eq_true rfl) (Nat.le_of_ble_eq_true rfl) (hh) ?_
        refine ae_if_ne (pc := 55) (t := 61) dX5_sumChannels_55 (by decide) (fun c55 => ?_) (fun c55 => ?_)
        · exact absurd rfl c55
        refine ae_goto (pc := 58) (t := 100) dX5_sumChannels_58 (by decide) ?_
        refine ae_iinc (pc := 100) (v := nI (p + 1)) dX5_sumChannels_100 rfl (nI_inc p) ?_
        refine ae_goto (pc := 103) (t := 26) dX5_sumChannels_103 (by decide) ?_
        exact ae_forget [2] rfl ih2
      · rw [if_neg ho] at hc
        cases hb : ner f (f (2 + p)) with
        | none =>
          rw [hb] at hc
          have e0 : smR (M.1 26) f (p + 1) = smR (M.1 26) f p := by
            unfold smR
            congr 1
            funext j
            rw [smI_s, if_neg (fun q => by rw [hb] at q; cases q.2)]
          rw [e0] at ih2
          have hh := sc_hasEntry d (suM M (smR (M.1 26) f p)) f (ag _) hf.1 (-1)
          rw [bI_f (fun q => ((inE_iff hf.1 _).mp q).1 (by decide))] at hh
          refine ae_aload_n (pc := 37) dX5_sumChannels_37 rfl ?_
          refine ae_getR (pc := 38) (k := 25) (c := 5) (j := 1) (q := 16) dX5_sumChannels_38 rfl rfl (Nat.le_of_ble_eq_true rfl) rfl (Nat.le_of_ble_eq_true rfl) rfl ?_
          refine ae_getR (pc := 41) (k := 16) (c := 8) (j := 1) (q := 17) dX5_sumChannels_41 rfl rfl (Nat.le_of_ble_eq_true rfl) rfl (Nat.le_of_ble_eq_true rfl) rfl ?_
          refine ae_iload_n (pc := 44) dX5_sumChannels_44 rfl ?_
          refine ae_iaload (pc := 45) (k := 17) (N := 256) (v := (-1)) (p) dX5_sumChannels_45 (Nat.le_of_ble_eq_true rfl) rfl rfl rfl (by omega) (by rw [row _ _ (by decide)]; exact hc) ?_
          refine ae_istore_n (pc := 46) dX5_sumChannels_46 rfl (Nat.le_of_ble_eq_true rfl) ?_
          refine ae_aload_n (pc := 47) dX5_sumChannels_47 rfl ?_
          refine ae_getR (pc := 48) (k := 25) (c := 5) (j := 0) (q := 1) dX5_sumChannels_48 rfl rfl (Nat.le_of_ble_eq_true rfl) rfl (Nat.le_of_ble_eq_true rfl) rfl ?_
          refine ae_iload_n (pc := 51) dX5_sumChannels_51 rfl ?_
          refine ae_pcallV (pc := 52) (z := zX7_hasEntry) (k := 1) (As := [_]) dX5_sumChannels_52 rfl rfl rfl rfl (Nat.le_of_ble_eq_true rfl) rfl (Nat.le_of_ble_eq_true rfl) (Nat.le_of_ble_eq_true rfl) (hh) ?_
          refine ae_if_ne (pc := 55) (t := 61) dX5_sumChannels_55 (by decide) (fun c55 => ?_) (fun c55 => ?_)
          · exact absurd rfl c55
          refine ae_goto (pc := 58) (t := 100) dX5_sumChannels_58 (by decide) ?_
          refine ae_iinc (pc := 100) (v := nI (p + 1)) dX5_sumChannels_100 rfl (nI_inc p) ?_
          refine ae_goto (pc := 103) (t := 26) dX5_sumChannels_103 (by decide) ?_
          exact ae_forget [2] rfl ih2
        | some b =>
          rw [hb] at hc
          have hbn := (nbt_ok hb).1
          have hh := sc_hasEntry d (suM M (smR (M.1 26) f p)) f (ag _) hf.1 (nI b)
          rw [bI_t (inE_of hf.1 hbn)] at hh
          have inner : am_E none (am_R (d + 1)) cX5_sumChannels 5 none (fun v M' => v = none ∧ M' = suM M (smR (M.1 26) f (fA f))) (63, [some (.ref 25), some (.int (nI p)), some (.int (nI b)), some (.int (nI 0))], [], suM M (smQ (M.1 26) f p b 0)) := by
            refine am_down (P := fun k => am_E none (am_R (d + 1)) cX5_sumChannels 5 none _ (63, [some (.ref 25), some (.int (nI p)), some (.int (nI b)), some (.int (nI k))], [], suM M (smQ (M.1 26) f p b k))) 3 (fun k hk ihk => ?_)
            refine ae_iload_n (pc := 63) dX5_sumChannels_63 rfl ?_
            refine ae_iconst (pc := 64) (v := nI 3) dX5_sumChannels_64 (by decide) ?_
            refine ae_icmp_ge (pc := 65) (t := 100) dX5_sumChannels_65 (by decide) (fun c65 => ?_) (fun c65 => ?_)
            · have hk2 : k = 3 := by rw [nI_leI (by omega) (by omega)] at c65; omega
              subst hk2
              rw [smQ_3 _ hb]
              refine ae_iinc (pc := 100) (v := nI (p + 1)) dX5_sumChannels_100 rfl (nI_inc p) ?_
              refine ae_goto (pc := 103) (t := 26) dX5_sumChannels_103 (by decide) ?_
              exact ae_forget [2, 3] rfl ih2
            · have hk2 : k < 3 := by rw [nI_leI (by omega) (by omega)] at c65; omega
              have ihk2 := ihk hk2
              rw [← smQ_s _ ho hb (by omega) hk2] at ihk2
              refine ae_aload_n (pc := 68) dX5_sumChannels_68 rfl ?_
              refine ae_getR (pc := 69) (k := 25) (c := 5) (j := 2) (q := 26) dX5_sumChannels_69 rfl rfl (Nat.le_of_ble_eq_true rfl) rfl (Nat.le_of_ble_eq_true rfl) rfl ?_
              refine ae_iconst (pc := 72) (v := nI 3) dX5_sumChannels_72 (by decide) ?_
              refine ae_iload_n (pc := 73) dX5_sumChannels_73 rfl ?_
              refine ae_imul (pc := 74) (v := nI (3 * b)) dX5_sumChannels_74 (nI_mul _ _) ?_
              refine ae_iload_n (pc := 75) dX5_sumChannels_75 rfl ?_
              refine ae_iadd (pc := 76) (v := nI (3 * b + k)) dX5_sumChannels_76 (nI_add _ _) ?_
              refine ae_dup2 (pc := 77) dX5_sumChannels_77 rfl rfl ?_
              refine ae_iaload (pc := 78) (k := 26) (N := 48) (v := smI f b k p) (3 * b + k) dX5_sumChannels_78 (Nat.le_of_ble_eq_true rfl) rfl rfl rfl (by omega) (by rw [suM_26]; exact smQ_get _ _ (by omega) hk2) ?_
              refine ae_aload_n (pc := 79) dX5_sumChannels_79 rfl ?_
              refine ae_getR (pc := 80) (k := 25) (c := 5) (j := 0) (q := 1) dX5_sumChannels_80 rfl rfl (Nat.le_of_ble_eq_true rfl) rfl (Nat.le_of_ble_eq_true rfl) rfl ?_
              refine ae_getR (pc := 83) (k := 1) (c := 7) (j := 2) (q := 2) dX5_sumChannels_83 rfl rfl (Nat.le_of_ble_eq_true rfl) rfl (Nat.le_of_ble_eq_true rfl) rfl ?_
              refine ae_iload_n (pc := 86) dX5_sumChannels_86 rfl ?_
              refine ae_iaload (pc := 87) (k := 2) (N := 256) (v := f (2 + p)) (p) dX5_sumChannels_87 (Nat.le_of_ble_eq_true rfl) rfl rfl rfl (by omega) ((ag _).2.1 p hp2) ?_
              refine ae_iload_n (pc := 88) dX5_sumChannels_88 rfl ?_
              refine ae_pcallS (pc := 89) (z := zX10_channelOf) (As := [_, _]) dX5_sumChannels_89 rfl rfl rfl rfl (Nat.le_of_ble_eq_true rfl) (sc_channelOf d _ _ _) ?_
              refine ae_iadd (pc := 92) dX5_sumChannels_92 rfl ?_
              refine ae_iastore (pc := 93) (k := 26) (N := 48) (3 * b + k) dX5_sumChannels_93 (Nat.le_of_ble_eq_true rfl) rfl rfl rfl (by omega) rfl ?_
              refine ae_M (suM_u _ _ _) ?_
              rw [suM_26]
              refine ae_iinc (pc := 94) (v := nI (k + 1)) dX5_sumChannels_94 rfl (nI_inc k) ?_
              refine ae_goto (pc := 97) (t := 63) dX5_sumChannels_97 (by decide) ?_
              exact ihk2
          rw [smQ_0] at inner
          refine ae_aload_n (pc := 37) dX5_sumChannels_37 rfl ?_
          refine ae_getR (pc := 38) (k := 25) (c := 5) (j := 1) (q := 16) dX5_sumChannels_38 rfl rfl (Nat.le_of_ble_eq_true rfl) rfl (Nat.le_of_ble_eq_true rfl) rfl ?_
          refine ae_getR (pc := 41) (k := 16) (c := 8) (j := 1) (q := 17) dX5_sumChannels_41 rfl rfl (Nat.le_of_ble_eq_true rfl) rfl (Nat.le_of_ble_eq_true rfl) rfl ?_
          refine ae_iload_n (pc := 44) dX5_sumChannels_44 rfl ?_
          refine ae_iaload (pc := 45) (k := 17) (N := 256) (v := nI b) (p) dX5_sumChannels_45 (Nat.le_of_ble_eq_true rfl) rfl rfl rfl (by omega) (by rw [row _ _ (by decide)]; exact hc) ?_
          refine ae_istore_n (pc := 46) dX5_sumChannels_46 rfl (Nat.le_of_ble_eq_true rfl) ?_
          refine ae_aload_n (pc := 47) dX5_sumChannels_47 rfl ?_
          refine ae_getR (pc := 48) (k := 25) (c := 5) (j := 0) (q := 1) dX5_sumChannels_48 rfl rfl (Nat.le_of_ble_eq_true rfl) rfl (Nat.le_of_ble_eq_true rfl) rfl ?_
          refine ae_iload_n (pc := 51) dX5_sumChannels_51 rfl ?_
          refine ae_pcallV (pc := 52) (z := zX7_hasEntry) (k := 1) (As := [_]) dX5_sumChannels_52 rfl rfl rfl rfl (Nat.le_of_ble_eq_true rfl) rfl (Nat.le_of_ble_eq_true rfl) (Nat.le_of_ble_eq_true rfl) (hh) ?_
          refine ae_if_ne (pc := 55) (t := 61) dX5_sumChannels_55 (by decide) (fun c55 => ?_) (fun c55 => ?_)
          rotate_left
          · exact absurd (Classical.not_not.mp c55) (by decide)
          refine ae_iconst (pc := 61) (v := nI 0) dX5_sumChannels_61 (by decide) ?_
          refine ae_istore_n (pc := 62) dX5_sumChannels_62 rfl (Nat.le_of_ble_eq_true rfl) ?_
          exact inner
  have first : am_E none (am_R (d + 1)) cX5_sumChannels 5 none (fun v M' => v = none ∧ M' = suM M (smR (M.1 26) f (fA f))) (2, [some (.ref 25), some (.int (nI 0)), none, none], [], suM M (stF (M.1 26) 0 0 (fun _ => nI 0))) := by
    refine am_down (P := fun k => am_E none (am_R (d + 1)) cX5_sumChannels 5 none _ (2, [some (.ref 25), some (.int (nI k)), none, none], [], suM M (stF (M.1 26) 0 k (fun _ => nI 0)))) 48 (fun k hk ih => ?_)
    refine ae_iload_n (pc := 2) dX5_sumChannels_2 rfl ?_
    refine ae_aload_n (pc := 3) dX5_sumChannels_3 rfl ?_
    refine ae_getR (pc := 4) (k := 25) (c := 5) (j := 2) (q := 26) dX5_sumChannels_4 rfl rfl (Nat.le_of_ble_eq_true rfl) rfl (Nat.le_of_ble_eq_true rfl) rfl ?_
    refine ae_arraylength (pc := 7) (k := 26) (v := nI 48) dX5_sumChannels_7 (Nat.le_of_ble_eq_true rfl) (by decide) rfl ?_
    refine ae_icmp_ge (pc := 8) (t := 24) dX5_sumChannels_8 (by decide) (fun c8 => ?_) (fun c8 => ?_)
    · have hk2 : k = 48 := by rw [nI_leI (by omega) (by omega)] at c8; omega
      subst hk2
      refine ae_iconst (pc := 24) (v := nI 0) dX5_sumChannels_24 (by decide) ?_
      refine ae_istore_n (pc := 25) dX5_sumChannels_25 rfl (Nat.le_of_ble_eq_true rfl) ?_
      exact second
    · have hk2 : k < 48 := by rw [nI_leI (by omega) (by omega)] at c8; omega
      have ih2 := ih hk2
      rw [← st_s, Nat.zero_add] at ih2
      refine ae_aload_n (pc := 11) dX5_sumChannels_11 rfl ?_
      refine ae_getR (pc := 12) (k := 25) (c := 5) (j := 2) (q := 26) dX5_sumChannels_12 rfl rfl (Nat.le_of_ble_eq_true rfl) rfl (Nat.le_of_ble_eq_true rfl) rfl ?_
      refine ae_iload_n (pc := 15) dX5_sumChannels_15 rfl ?_
      refine ae_iconst (pc := 16) (v := nI 0) dX5_sumChannels_16 (by decide) ?_
      refine ae_iastore (pc := 17) (k := 26) (N := 48) (k) dX5_sumChannels_17 (Nat.le_of_ble_eq_true rfl) rfl rfl rfl (by omega) rfl ?_
      refine ae_M (suM_u _ _ _) ?_
      rw [suM_26]
      refine ae_iinc (pc := 18) (v := nI (k + 1)) dX5_sumChannels_18 rfl (nI_inc k) ?_
      refine ae_goto (pc := 21) (t := 2) dX5_sumChannels_21 (by decide) ?_
      exact ih2
  rw [st_0, suM_eta] at first
  refine ae_iconst (pc := 0) (v := nI 0) dX5_sumChannels_0 (by decide) ?_
  refine ae_istore_n (pc := 1) dX5_sumChannels_1 rfl (Nat.le_of_ble_eq_true rfl) ?_
  exact first
theorem sc_moveToMeans (d : Nat) (M : am_M) (f : fT) (hg : AG M f) (hf : wf f) : am_R (d + 4) zX5_moveToMeans [.ref 25] M (fun v M' => v = some (.int (bI (rnB f (fN f) = true))) ∧ AG M' (rnF f (fN f)) ∧ wf (rnF f (fN f)) ∧ FR M M') := by
  refine ae_enter (z := zX5_moveToMeans) (y := yX5_moveToMeans) (cc := cX5_moveToMeans) (mL := 6) (rt := some .boolean) (ci := 5) (st := false) (np := 0) (L := [some (.ref 25), none, none, none, none, none]) rfl (by decide) (Nat.le_of_ble_eq_true rfl) rfl ?_
  have hN := hf.1.2.2.2
  have hA := fA_le hf.1
  refine ae_aload_n (pc := 0) dX5_moveToMeans_0 rfl ?_
  refine ae_getR (pc := 1) (k := 25) (c := 5) (j := 1) (q := 16) dX5_moveToMeans_1 rfl rfl (Nat.le_of_ble_eq_true rfl) rfl (Nat.le_of_ble_eq_true rfl) rfl ?_
  refine ae_callV (pc := 4) (z := zX8_takeStock) (k := 16) (As := []) dX5_moveToMeans_4 rfl rfl rfl rfl (Nat.le_of_ble_eq_true rfl) rfl (Nat.le_of_ble_eq_true rfl) (Nat.le_of_ble_eq_true rfl) (sc_takeStock d M f hg hf) (fun v M' hq => ?_)
  obtain ⟨rfl, hsv⟩ := hq
  obtain ⟨hg1, fr1, -, -, sf⟩ := SV_of hg hsv
  clear hsv
  refine ae_aload_n (pc := 7) dX5_moveToMeans_7 rfl ?_
  refine ae_callV (pc := 8) (z := zX5_sumChannels) (k := 25) (As := []) dX5_moveToMeans_8 rfl rfl rfl rfl (Nat.le_of_ble_eq_true rfl) rfl (Nat.le_of_ble_eq_true rfl) (Nat.le_of_ble_eq_true rfl) (sc_sumChannels (d + 1) M' f hg1 hf (fun q hq => (sf.2.1 q hq).1)) (fun v M' hq => ?_)
  obtain ⟨rfl, rfl⟩ := hq
  generalize hS : smR (M'.1 26) f (fA f) = S
  have hSv : ∀ e c, e < 16 → c < 3 → S (3 * e + c) = smI f e c (fA f) := by
    intro e c he hc
    rw [← hS]
    unfold smR
    have := st_in (M'.1 26) (a := 0) (k := 48) (p := 3 * e + c) (fun j => smI f (j / 3) (j % 3) (fA f)) (by omega)
    rw [Nat.zero_add] at this
    rw [this, show (3 * e + c) / 3 = e by omega, show (3 * e + c) % 3 = c by omega]
  have h19 : ∀ e, e < 16 → M'.1 19 e = nI (svA f e) := fun e he => sf.2.2.1 e he
  have row : ∀ c k, k ≠ 3 → k ≠ 26 → (paM (suM M' S) c).1 k = M'.1 k := fun c k h1 h2 => by rw [paM_ne _ _ h1, suM_ne _ _ h2]
  have a3 : M'.1 1 3 = nI (fN f) := (AG_w hg1 hf.1).2.2
  have lp : ∀ c : fT, (∀ e, e < fN f → c e = rnF f 0 (259 + e)) → am_E none (am_R (d + 3)) cX5_moveToMeans 5 (some .boolean) (fun v M'' => v = some (.int (bI (rnB f (fN f) = true))) ∧ AG M'' (rnF f (fN f)) ∧ wf (rnF f (fN f)) ∧ FR M M'') (15, [some (.ref 25), some (.int (bI (rnB f 0 = true))), some (.int (nI 0)), none, none, none], [], paM (suM M' S) c) := by
    refine am_down (P := fun k => ∀ c : fT, (∀ e, e < fN f → c e = rnF f k (259 + e)) → am_E none (am_R (d + 3)) cX5_moveToMeans 5 (some .boolean) _ (15, [some (.ref 25), some (.int (bI (rnB f k = true))), some (.int (nI k)), none, none, none], [], paM (suM M' S) c)) (fN f) (fun k hk ih c hc => ?_)
    refine ae_iload_n (pc := 15) dX5_moveToMeans_15 rfl ?_
    refine ae_aload_n (pc := 16) dX5_moveToMeans_16 rfl ?_
    refine ae_getR (pc := 17) (k := 25) (c := 5) (j := 0) (q := 1) dX5_moveToMeans_17 rfl rfl (Nat.le_of_ble_eq_true rfl) rfl (Nat.le_of_ble_eq_true rfl) rfl ?_
    refine ae_getI (pc := 20) (k := 1) (c := 7) (j := 3) (v := nI (fN f)) dX5_moveToMeans_20 rfl rfl (Or.inl rfl) (Nat.le_of_ble_eq_true rfl) rfl (Nat.le_of_ble_eq_true rfl) (by rw [row _ _ (by decide) (by decide)]; exact a3) ?_
    refine ae_icmp_ge (pc := 23) (t := 143) dX5_moveToMeans_23 (by decide) (fun c23 => ?_) (fun c23 => ?_)
    · have hk2 : k = fN f := by rw [nI_leI (by omega) (by omega)] at c23; omega
      subst hk2
      refine ae_iload_n (pc := 143) dX5_moveToMeans_143 rfl ?_
      refine ae_zreturn (pc := 144) dX5_moveToMeans_144 rfl (bI_01 _) ?_
      refine ⟨rfl, ?_, wf_rn hf, FR_tr fr1 (fun k hk => by rw [row _ _ (by omega) (by omega)])⟩
      unfold AG
      rw [paM_3, row _ _ (by decide) (by decide), row _ _ (by decide) (by decide), row _ _ (by decide) (by decide), row _ _ (by decide) (by decide)]
      refine agS_pal hf.1 hg1 (fun j hj => rn_n (by omega)) (fun e he => ⟨hc e he, ?_⟩)
      rw [rn_n (by omega)]
      exact (hg1.2.2.1 e he).2
    · have hk2 : k < fN f := by rw [nI_leI (by omega) (by omega)] at c23; omega
      have ih2 := ih hk2
      have h01 := (hf.2.2.1 k hk2).2
      have hlk : (paM (suM M' S) c).1 4 k = f (275 + k) := by rw [row _ _ (by decide) (by decide)]; exact (hg1.2.2.1 k hk2).2
      have hnm : (paM (suM M' S) c).1 19 k = nI (svA f k) := by rw [row _ _ (by decide) (by decide)]; exact h19 k (by omega)
      have hsv := svA_le hf.1 k
      by_cases hG : rnG f k
      · obtain ⟨s0, s1, s2, q1, q2, q3⟩ := rnM_c hf.1 hG.2
        obtain ⟨u0, v0⟩ := q1 0 s0 (Or.inl ⟨rfl, rfl⟩)
        obtain ⟨u1, v1⟩ := q1 1 s1 (Or.inr (Or.inl ⟨rfl, rfl⟩))
        obtain ⟨u2, v2⟩ := q1 2 s2 (Or.inr (Or.inr ⟨rfl, rfl⟩))
        have m0 := sc_mean (d + 2) s0 (svA f k) (by omega) (by omega) (paM (suM M' S) c)
        have m1 := sc_mean (d + 2) s1 (svA f k) (by omega) (by omega) (paM (suM M' S) c)
        have m2 := sc_mean (d + 2) s2 (svA f k) (by omega) (by omega) (paM (suM M' S) c)
        rw [if_pos hG.2] at m0 m1 m2
        have hco := sc_colorOf (d + 2) (nI ((2 * s0 + svA f k) / (2 * svA f k))) (nI ((2 * s1 + svA f k) / (2 * svA f k))) (nI ((2 * s2 + svA f k) / (2 * svA f k))) (paM (suM M' S) c)
        rw [← q2] at hco
        have r26 : ∀ t, (paM (suM M' S) c).1 26 t = S t := fun t => by rw [paM_ne _ _ (by decide), suM_26]
        have hcol : (paM (suM M' S) c).1 3 k = f (259 + k) := by rw [paM_3, hc k hk2, rn_n (by omega)]
        have st := ih2 (upd c k (rnM f k 3)) (fun e he => by
          rw [← rn_sY hG]
          by_cases hek : e = k
          · subst hek; rw [upd_self, upd_self]
          · rw [upd_ne _ _ hek, upd_ne _ _ (by omega)]; exact hc e he)
        have hbs : ∀ x : Int32, (x = 1 ↔ rnB f k = true ∨ rnM f k 3 ≠ f (259 + k)) → (x = 0 ∨ x = 1) → x = bI (rnB f (k + 1) = true) := by
          intro x h1 h2
          have e : rnB f (k + 1) = true ↔ rnB f k = true ∨ rnM f k 3 ≠ f (259 + k) := by
            rw [rnB_s, Bool.or_eq_true, Bool.and_eq_true, decide_eq_true_iff, decide_eq_true_iff]
            exact ⟨fun q => q.elim Or.inl (fun z => Or.inr z.2), fun q => q.elim Or.inl (fun z => Or.inr ⟨hG, z⟩)⟩
          by_cases hx : rnB f (k + 1) = true
          · rw [bI_t hx]; exact h1.mpr (e.mp hx)
          · rw [bI_f hx]; exact h2.resolve_right (fun q => hx (e.mpr (h1.mp q)))
        refine ae_aload_n (pc := 26) dX5_moveToMeans_26 rfl ?_
        refine ae_getR (pc := 27) (k := 25) (c := 5) (j := 1) (q := 16) dX5_moveToMeans_27 rfl rfl (Nat.le_of_ble_eq_true rfl) rfl (Nat.le_of_ble_eq_true rfl) rfl ?_
        refine ae_getR (pc := 30) (k := 16) (c := 8) (j := 3) (q := 19) dX5_moveToMeans_30 rfl rfl (Nat.le_of_ble_eq_true rfl) rfl (Nat.le_of_ble_eq_true rfl) rfl ?_
        refine ae_iload_n (pc := 33) dX5_moveToMeans_33 rfl ?_
        refine ae_iaload (pc := 34) (k := 19) (N := 16) (v := nI (svA f k)) (k) dX5_moveToMeans_34 (Nat.le_of_ble_eq_true rfl) rfl rfl rfl (by omega) hnm ?_
        refine ae_istore_n (pc := 35) dX5_moveToMeans_35 rfl (Nat.le_of_ble_eq_true rfl) ?_
        refine ae_aload_n (pc := 36) dX5_moveToMeans_36 rfl ?_
        refine ae_getR (pc := 37) (k := 25) (c := 5) (j := 0) (q := 1) dX5_moveToMeans_37 rfl rfl (Nat.le_of_ble_eq_true rfl) rfl (Nat.le_of_ble_eq_true rfl) rfl ?_
        refine ae_getR (pc := 40) (k := 1) (c := 7) (j := 5) (q := 4) dX5_moveToMeans_40 rfl rfl (Nat.le_of_ble_eq_true rfl) rfl (Nat.le_of_ble_eq_true rfl) rfl ?_
        refine ae_iload_n (pc := 43) dX5_moveToMeans_43 rfl ?_
        refine ae_baload (pc := 44) (k := 4) (N := 16) (v := f (275 + k)) (k) dX5_moveToMeans_44 (Nat.le_of_ble_eq_true rfl) rfl rfl rfl (by omega) hlk ?_
        refine ae_if_ne (pc := 45) (t := 137) dX5_moveToMeans_45 (by decide) (fun c45 => ?_) (fun c45 => ?_)
        · exact absurd (h01.resolve_left c45) hG.1
        refine ae_iload_n (pc := 48) dX5_moveToMeans_48 rfl ?_
        refine ae_if_ne (pc := 49) (t := 55) dX5_moveToMeans_49 (by decide) (fun c49 => ?_) (fun c49 => ?_)
        rotate_left
        · exact absurd (Classical.not_not.mp c49) (nI_ne0 hG.2 (by omega))
        refine ae_iconst (pc := 55) (v := nI 3) dX5_moveToMeans_55 (by decide) ?_
        refine ae_iload_n (pc := 56) dX5_moveToMeans_56 rfl ?_
        refine ae_imul (pc := 57) (v := nI (3 * k)) dX5_moveToMeans_57 (nI_mul _ _) ?_
        refine ae_istore (pc := 58) dX5_moveToMeans_58 rfl (Nat.le_of_ble_eq_true rfl) ?_
        refine ae_aload_n (pc := 60) dX5_moveToMeans_60 rfl ?_
        refine ae_getR (pc := 61) (k := 25) (c := 5) (j := 2) (q := 26) dX5_moveToMeans_61 rfl rfl (Nat.le_of_ble_eq_true rfl) rfl (Nat.le_of_ble_eq_true rfl) rfl ?_
        refine ae_iload (pc := 64) dX5_moveToMeans_64 rfl ?_
        refine ae_iaload (pc := 66) (k := 26) (N := 48) (v := nI s0) (3 * k + 0) dX5_moveToMeans_66 (Nat.le_of_ble_eq_true rfl) rfl rfl rfl (by omega) ((r26 _).trans ((hSv k 0 (by omega) (by decide)).trans u0)) ?_
        refine ae_iload_n (pc := 67) dX5_moveToMeans_67 rfl ?_
        refine ae_pcallS (pc := 68) (z := zX10_mean) (As := [_, _]) dX5_moveToMeans_68 rfl rfl rfl rfl (Nat.le_of_ble_eq_true rfl) (m0) ?_
        refine ae_aload_n (pc := 71) dX5_moveToMeans_71 rfl ?_
        refine ae_getR (pc := 72) (k := 25) (c := 5) (j := 2) (q := 26) dX5_moveToMeans_72 rfl rfl (Nat.le_of_ble_eq_true rfl) rfl (Nat.le_of_ble_eq_true rfl) rfl ?_
        refine ae_iload (pc := 75) dX5_moveToMeans_75 rfl ?_
        refine ae_iconst (pc := 77) (v := nI 1) dX5_moveToMeans_77 (by decide) ?_
        refine ae_iadd (pc := 78) (v := nI (3 * k + 1)) dX5_moveToMeans_78 (nI_add _ _) ?_
        refine ae_iaload (pc := 79) (k := 26) (N := 48) (v := nI s1) (3 * k + 1) dX5_moveToMeans_79 (Nat.le_of_ble_eq_true rfl) rfl rfl rfl (by omega) ((r26 _).trans ((hSv k 1 (by omega) (by decide)).trans u1)) ?_
        refine ae_iload_n (pc := 80) dX5_moveToMeans_80 rfl ?_
        refine ae_pcallS (pc := 81) (z := zX10_mean) (As := [_, _]) dX5_moveToMeans_81 rfl rfl rfl rfl (Nat.le_of_ble_eq_true rfl) (m1) ?_
        refine ae_aload_n (pc := 84) dX5_moveToMeans_84 rfl ?_
        refine ae_getR (pc := 85) (k := 25) (c := 5) (j := 2) (q := 26) dX5_moveToMeans_85 rfl rfl (Nat.le_of_ble_eq_true rfl) rfl (Nat.le_of_ble_eq_true rfl) rfl ?_
        refine ae_iload (pc := 88) dX5_moveToMeans_88 rfl ?_
        refine ae_iconst (pc := 90) (v := nI 2) dX5_moveToMeans_90 (by decide) ?_
        refine ae_iadd (pc := 91) (v := nI (3 * k + 2)) dX5_moveToMeans_91 (nI_add _ _) ?_
        refine ae_iaload (pc := 92) (k := 26) (N := 48) (v := nI s2) (3 * k + 2) dX5_moveToMeans_92 (Nat.le_of_ble_eq_true rfl) rfl rfl rfl (by omega) ((r26 _).trans ((hSv k 2 (by omega) (by decide)).trans u2)) ?_
        refine ae_iload_n (pc := 93) dX5_moveToMeans_93 rfl ?_
        refine ae_pcallS (pc := 94) (z := zX10_mean) (As := [_, _]) dX5_moveToMeans_94 rfl rfl rfl rfl (Nat.le_of_ble_eq_true rfl) (m2) ?_
        refine ae_pcallS (pc := 97) (z := zX10_colorOf) (As := [_, _, _]) dX5_moveToMeans_97 rfl rfl rfl rfl (Nat.le_of_ble_eq_true rfl) (hco) ?_
        refine ae_istore (pc := 100) dX5_moveToMeans_100 rfl (Nat.le_of_ble_eq_true rfl) ?_
        refine ae_iload_n (pc := 102) dX5_moveToMeans_102 rfl ?_
        refine ae_if_ne (pc := 103) (t := 120) dX5_moveToMeans_103 (by decide) (fun c103 => ?_) (fun c103 => ?_)
        · refine ae_iconst (pc := 120) (v := nI 1) dX5_moveToMeans_120 (by decide) ?_
          refine ae_goto (pc := 121) (t := 125) dX5_moveToMeans_121 (by decide) ?_
          refine ae_istore_n (pc := 125) (v := bI (rnB f (k + 1) = true)) dX5_moveToMeans_125 (by first | exact hbs _ ⟨fun _ => Or.inl (bI_ne0.mp c103), fun _ => rfl⟩ (Or.inr rfl) | exact hbs _ ⟨fun _ => Or.inr c117, fun _ => rfl⟩ (Or.inr rfl) | exact hbs _ ⟨fun q => absurd q (by decide), fun q => absurd c117 (q.resolve_left (fun z => c103 (bI_ne0.mpr z)))⟩ (Or.inl rfl)) (Nat.le_of_ble_eq_true rfl) ?_
          refine ae_aload_n (pc := 126) dX5_moveToMeans_126 rfl ?_
          refine ae_getR (pc := 127) (k := 25) (c := 5) (j := 0) (q := 1) dX5_moveToMeans_127 rfl rfl (Nat.le_of_ble_eq_true rfl) rfl (Nat.le_of_ble_eq_true rfl) rfl ?_
          refine ae_getR (pc := 130) (k := 1) (c := 7) (j := 4) (q := 3) dX5_moveToMeans_130 rfl rfl (Nat.le_of_ble_eq_true rfl) rfl (Nat.le_of_ble_eq_true rfl) rfl ?_
          refine ae_iload_n (pc := 133) dX5_moveToMeans_133 rfl ?_
          refine ae_iload (pc := 134) dX5_moveToMeans_134 rfl ?_
          refine ae_iastore (pc := 136) (k := 3) (N := 16) (k) dX5_moveToMeans_136 (Nat.le_of_ble_eq_true rfl) rfl rfl rfl (by omega) rfl ?_
          refine ae_M (paM_u _ _ _) ?_
          rw [paM_3]
          refine ae_iinc (pc := 137) (v := nI (k + 1)) dX5_moveToMeans_137 rfl (nI_inc k) ?_
          refine ae_goto (pc := 140) (t := 15) dX5_moveToMeans_140 (by decide) ?_
          exact ae_forget [3, 4, 5] rfl st
        · refine ae_iload (pc := 106) dX5_moveToMeans_106 rfl ?_
          refine ae_aload_n (pc := 108) dX5_moveToMeans_108 rfl ?_
          refine ae_getR (pc := 109) (k := 25) (c := 5) (j := 0) (q := 1) dX5_moveToMeans_109 rfl rfl (Nat.le_of_ble_eq_true rfl) rfl (Nat.le_of_ble_eq_true rfl) rfl ?_
          refine ae_getR (pc := 112) (k := 1) (c := 7) (j := 4) (q := 3) dX5_moveToMeans_112 rfl rfl (Nat.le_of_ble_eq_true rfl) rfl (Nat.le_of_ble_eq_true rfl) rfl ?_
          refine ae_iload_n (pc := 115) dX5_moveToMeans_115 rfl ?_
          refine ae_iaload (pc := 116) (k := 3) (N := 16) (v := f (259 + k)) (k) dX5_moveToMeans_116 (Nat.le_of_ble_eq_true rfl) rfl rfl rfl (by omega) hcol ?_
          refine ae_icmp_eq (pc := 117) (t := 124) dX5_moveToMeans_117 (by decide) (fun c117 => ?_) (fun c117 => ?_)
          · refine ae_iconst (pc := 124) (v := nI 0) dX5_moveToMeans_124 (by decide) ?_
            refine ae_istore_n (pc := 125) (v := bI (rnB f (k + 1) = true)) dX5_moveToMeans_125 (by first | exact hbs _ ⟨fun _ => Or.inl (bI_ne0.mp c103), fun _ => rfl⟩ (Or.inr rfl) | exact hbs _ ⟨fun _ => Or.inr c117, fun _ => rfl⟩ (Or.inr rfl) | exact hbs _ ⟨fun q => absurd q (by decide), fun q => absurd c117 (q.resolve_left (fun z => c103 (bI_ne0.mpr z)))⟩ (Or.inl rfl)) (Nat.le_of_ble_eq_true rfl) ?_
            refine ae_aload_n (pc := 126) dX5_moveToMeans_126 rfl ?_
            refine ae_getR (pc := 127) (k := 25) (c := 5) (j := 0) (q := 1) dX5_moveToMeans_127 rfl rfl (Nat.le_of_ble_eq_true rfl) rfl (Nat.le_of_ble_eq_true rfl) rfl ?_
            refine ae_getR (pc := 130) (k := 1) (c := 7) (j := 4) (q := 3) dX5_moveToMeans_130 rfl rfl (Nat.le_of_ble_eq_true rfl) rfl (Nat.le_of_ble_eq_true rfl) rfl ?_
            refine ae_iload_n (pc := 133) dX5_moveToMeans_133 rfl ?_
            refine ae_iload (pc := 134) dX5_moveToMeans_134 rfl ?_
            refine ae_iastore (pc := 136) (k := 3) (N := 16) (k) dX5_moveToMeans_136 (Nat.le_of_ble_eq_true rfl) rfl rfl rfl (by omega) rfl ?_
            refine ae_M (paM_u _ _ _) ?_
            rw [paM_3]
            refine ae_iinc (pc := 137) (v := nI (k + 1)) dX5_moveToMeans_137 rfl (nI_inc k) ?_
            refine ae_goto (pc := 140) (t := 15) dX5_moveToMeans_140 (by decide) ?_
            exact ae_forget [3, 4, 5] rfl st
          · refine ae_iconst (pc := 120) (v := nI 1) dX5_moveToMeans_120 (by decide) ?_
            refine ae_goto (pc := 121) (t := 125) dX5_moveToMeans_121 (by decide) ?_
            refine ae_istore_n (pc := 125) (v := bI (rnB f (k + 1) = true)) dX5_moveToMeans_125 (by first | exact hbs _ ⟨fun _ => Or.inl (bI_ne0.mp c103), fun _ => rfl⟩ (Or.inr rfl) | exact hbs _ ⟨fun _ => Or.inr c117, fun _ => rfl⟩ (Or.inr rfl) | exact hbs _ ⟨fun q => absurd q (by decide), fun q => absurd c117 (q.resolve_left (fun z => c103 (bI_ne0.mpr z)))⟩ (Or.inl rfl)) (Nat.le_of_ble_eq_true rfl) ?_
            refine ae_aload_n (pc := 126) dX5_moveToMeans_126 rfl ?_
            refine ae_getR (pc := 127) (k := 25) (c := 5) (j := 0) (q := 1) dX5_moveToMeans_127 rfl rfl (Nat.le_of_ble_eq_true rfl) rfl (Nat.le_of_ble_eq_true rfl) rfl ?_
            refine ae_getR (pc := 130) (k := 1) (c := 7) (j := 4) (q := 3) dX5_moveToMeans_130 rfl rfl (Nat.le_of_ble_eq_true rfl) rfl (Nat.le_of_ble_eq_true rfl) rfl ?_
            refine ae_iload_n (pc := 133) dX5_moveToMeans_133 rfl ?_
            refine ae_iload (pc := 134) dX5_moveToMeans_134 rfl ?_
            refine ae_iastore (pc := 136) (k := 3) (N := 16) (k) dX5_moveToMeans_136 (Nat.le_of_ble_eq_true rfl) rfl rfl rfl (by omega) rfl ?_
            refine ae_M (paM_u _ _ _) ?_
            rw [paM_3]
            refine ae_iinc (pc := 137) (v := nI (k + 1)) dX5_moveToMeans_137 rfl (nI_inc k) ?_
            refine ae_goto (pc := 140) (t := 15) dX5_moveToMeans_140 (by decide) ?_
            exact ae_forget [3, 4, 5] rfl st
      · have eB : rnB f (k + 1) = rnB f k := by rw [rnB_s, decide_eq_false hG, Bool.false_and, Bool.or_false]
        rw [eB] at ih2
        have st := ih2 c (fun e he => by rw [rn_sN hG]; exact hc e he)
        refine ae_aload_n (pc := 26) dX5_moveToMeans_26 rfl ?_
        refine ae_getR (pc := 27) (k := 25) (c := 5) (j := 1) (q := 16) dX5_moveToMeans_27 rfl rfl (Nat.le_of_ble_eq_true rfl) rfl (Nat.le_of_ble_eq_true rfl) rfl ?_
        refine ae_getR (pc := 30) (k := 16) (c := 8) (j := 3) (q := 19) dX5_moveToMeans_30 rfl rfl (Nat.le_of_ble_eq_true rfl) rfl (Nat.le_of_ble_eq_true rfl) rfl ?_
        refine ae_iload_n (pc := 33) dX5_moveToMeans_33 rfl ?_
        refine ae_iaload (pc := 34) (k := 19) (N := 16) (v := nI (svA f k)) (k) dX5_moveToMeans_34 (Nat.le_of_ble_eq_true rfl) rfl rfl rfl (by omega) hnm ?_
        refine ae_istore_n (pc := 35) dX5_moveToMeans_35 rfl (Nat.le_of_ble_eq_true rfl) ?_
        refine ae_aload_n (pc := 36) dX5_moveToMeans_36 rfl ?_
        refine ae_getR (pc := 37) (k := 25) (c := 5) (j := 0) (q := 1) dX5_moveToMeans_37 rfl rfl (Nat.le_of_ble_eq_true rfl) rfl (Nat.le_of_ble_eq_true rfl) rfl ?_
        refine ae_getR (pc := 40) (k := 1) (c := 7) (j := 5) (q := 4) dX5_moveToMeans_40 rfl rfl (Nat.le_of_ble_eq_true rfl) rfl (Nat.le_of_ble_eq_true rfl) rfl ?_
        refine ae_iload_n (pc := 43) dX5_moveToMeans_43 rfl ?_
        refine ae_baload (pc := 44) (k := 4) (N := 16) (v := f (275 + k)) (k) dX5_moveToMeans_44 (Nat.le_of_ble_eq_true rfl) rfl rfl rfl (by omega) hlk ?_
        refine ae_if_ne (pc := 45) (t := 137) dX5_moveToMeans_45 (by decide) (fun c45 => ?_) (fun c45 => ?_)
        · refine ae_iinc (pc := 137) (v := nI (k + 1)) dX5_moveToMeans_137 rfl (nI_inc k) ?_
          refine ae_goto (pc := 140) (t := 15) dX5_moveToMeans_140 (by decide) ?_
          exact ae_forget [3] rfl st
        · refine ae_iload_n (pc := 48) dX5_moveToMeans_48 rfl ?_
          refine ae_if_ne (pc := 49) (t := 55) dX5_moveToMeans_49 (by decide) (fun c49 => ?_) (fun c49 => ?_)
          · exact absurd ⟨fun q => c45 (fun z => absurd (z.symm.trans q) (by decide)), Nat.pos_of_ne_zero (fun q => c49 (by rw [q]; rfl))⟩ hG
          · refine ae_goto (pc := 52) (t := 137) dX5_moveToMeans_52 (by decide) ?_
            refine ae_iinc (pc := 137) (v := nI (k + 1)) dX5_moveToMeans_137 rfl (nI_inc k) ?_
            refine ae_goto (pc := 140) (t := 15) dX5_moveToMeans_140 (by decide) ?_
            exact ae_forget [3] rfl st
  have st := lp (M'.1 3) (fun e he => by rw [rn_0]; exact (hg1.2.2.1 e he).1)
  have ep : paM (suM M' S) (M'.1 3) = suM M' S := by have := paM_eta (suM M' S); rwa [suM_ne _ _ (by decide)] at this
  rw [ep] at st
  refine ae_iconst (pc := 11) (v := nI 0) dX5_moveToMeans_11 (by decide) ?_
  refine ae_istore_n (pc := 12) dX5_moveToMeans_12 rfl (Nat.le_of_ble_eq_true rfl) ?_
  refine ae_iconst (pc := 13) (v := nI 0) dX5_moveToMeans_13 (by decide) ?_
  refine ae_istore_n (pc := 14) dX5_moveToMeans_14 rfl (Nat.le_of_ble_eq_true rfl) ?_
  exact st
theorem sc_cost (d : Nat) (M : am_M) (f : fT) (hg : AG M f) (hf : wf f) (hs : ∀ e, e < 16 → M.1 19 e = nI (svA f e)) (i j : Nat) (hi : i < fN f) (hj : j < fN f) : am_R (d + 2) zX5_cost [.ref 25, .int (nI i), .int (nI j)] M (fun v M' => v = some (.long (cst f i j)) ∧ M' = M) := by
  refine ae_enter (z := zX5_cost) (y := yX5_cost) (cc := cX5_cost) (mL := 7) (rt := some .long) (ci := 5) (st := false) (np := 2) (L := [some (.ref 25), some (.int (nI i)), some (.int (nI j)), none, none, none, none]) rfl (by decide) (Nat.le_of_ble_eq_true rfl) rfl ?_
  have hN := hf.1.2.2.2
  have h1 := svA_le hf.1 i
  have h2 := svA_le hf.1 j
  rw [cst_n hf.1]
  have hds := sc_distance d M f hg _ _ (hf.2.2.1 i hi).1 (hf.2.2.1 j hj).1
  have z : ∀ n : Nat, n < 1000 → ((0 : Int64) < nL n ↔ 0 < n) := by
    intro n hn
    rw [Int64.lt_iff_toInt_lt, nL_toInt (by omega), show (0 : Int64).toInt = 0 by decide]
    omega
  by_cases h0 : svA f i + svA f j = 0
  · rw [if_pos h0]
    refine ae_aload_n (pc := 0) dX5_cost_0 rfl ?_
    refine ae_getR (pc := 1) (k := 25) (c := 5) (j := 1) (q := 16) dX5_cost_1 rfl rfl (Nat.le_of_ble_eq_true rfl) rfl (Nat.le_of_ble_eq_true rfl) rfl ?_
    refine ae_getR (pc := 4) (k := 16) (c := 8) (j := 3) (q := 19) dX5_cost_4 rfl rfl (Nat.le_of_ble_eq_true rfl) rfl (Nat.le_of_ble_eq_true rfl) rfl ?_
    refine ae_iload_n (pc := 7) dX5_cost_7 rfl ?_
    refine ae_iaload (pc := 8) (k := 19) (N := 16) (v := nI (svA f i)) (i) dX5_cost_8 (Nat.le_of_ble_eq_true rfl) rfl rfl rfl (by omega) (hs i (by omega)) ?_
    refine ae_aload_n (pc := 9) dX5_cost_9 rfl ?_
    refine ae_getR (pc := 10) (k := 25) (c := 5) (j := 1) (q := 16) dX5_cost_10 rfl rfl (Nat.le_of_ble_eq_true rfl) rfl (Nat.le_of_ble_eq_true rfl) rfl ?_
    refine ae_getR (pc := 13) (k := 16) (c := 8) (j := 3) (q := 19) dX5_cost_13 rfl rfl (Nat.le_of_ble_eq_true rfl) rfl (Nat.le_of_ble_eq_true rfl) rfl ?_
    refine ae_iload_n (pc := 16) dX5_cost_16 rfl ?_
    refine ae_iaload (pc := 17) (k := 19) (N := 16) (v := nI (svA f j)) (j) dX5_cost_17 (Nat.le_of_ble_eq_true rfl) rfl rfl rfl (by omega) (hs j (by omega)) ?_
    refine ae_iadd (pc := 18) (v := nI (svA f i + svA f j)) dX5_cost_18 (nI_add _ _) ?_
    refine ae_i2l (pc := 19) (v := nL (svA f i + svA f j)) dX5_cost_19 (nI_i2l (by omega)) ?_
    refine ae_lstore_n (pc := 20) dX5_cost_20 rfl (Nat.le_of_ble_eq_true rfl) ?_
    refine ae_lload_n (pc := 21) dX5_cost_21 rfl ?_
    refine ae_lconst (pc := 22) (v := 0) dX5_cost_22 (by decide) ?_
    refine ae_lcmp (pc := 23) dX5_cost_23 rfl ?_
    refine ae_if_gt (pc := 24) (t := 29) dX5_cost_24 (by decide) (fun c24 => ?_) (fun c24 => ?_)
    · exact absurd ((z _ (by omega)).mp (lg_gt0.mp c24)) (by omega)
    · refine ae_lconst (pc := 27) (v := 0) dX5_cost_27 (by decide) ?_
      refine ae_lreturn (pc := 28) dX5_cost_28 rfl ?_
      exact ⟨rfl, rfl⟩
  · rw [if_neg h0]
    refine ae_aload_n (pc := 0) dX5_cost_0 rfl ?_
    refine ae_getR (pc := 1) (k := 25) (c := 5) (j := 1) (q := 16) dX5_cost_1 rfl rfl (Nat.le_of_ble_eq_true rfl) rfl (Nat.le_of_ble_eq_true rfl) rfl ?_
    refine ae_getR (pc := 4) (k := 16) (c := 8) (j := 3) (q := 19) dX5_cost_4 rfl rfl (Nat.le_of_ble_eq_true rfl) rfl (Nat.le_of_ble_eq_true rfl) rfl ?_
    refine ae_iload_n (pc := 7) dX5_cost_7 rfl ?_
    refine ae_iaload (pc := 8) (k := 19) (N := 16) (v := nI (svA f i)) (i) dX5_cost_8 (Nat.le_of_ble_eq_true rfl) rfl rfl rfl (by omega) (hs i (by omega)) ?_
    refine ae_aload_n (pc := 9) dX5_cost_9 rfl ?_
    refine ae_getR (pc := 10) (k := 25) (c := 5) (j := 1) (q := 16) dX5_cost_10 rfl rfl (Nat.le_of_ble_eq_true rfl) rfl (Nat.le_of_ble_eq_true rfl) rfl ?_
    refine ae_getR (pc := 13) (k := 16) (c := 8) (j := 3) (q := 19) dX5_cost_13 rfl rfl (Nat.le_of_ble_eq_true rfl) rfl (Nat.le_of_ble_eq_true rfl) rfl ?_
    refine ae_iload_n (pc := 16) dX5_cost_16 rfl ?_
    refine ae_iaload (pc := 17) (k := 19) (N := 16) (v := nI (svA f j)) (j) dX5_cost_17 (Nat.le_of_ble_eq_true rfl) rfl rfl rfl (by omega) (hs j (by omega)) ?_
    refine ae_iadd (pc := 18) (v := nI (svA f i + svA f j)) dX5_cost_18 (nI_add _ _) ?_
    refine ae_i2l (pc := 19) (v := nL (svA f i + svA f j)) dX5_cost_19 (nI_i2l (by omega)) ?_
    refine ae_lstore_n (pc := 20) dX5_cost_20 rfl (Nat.le_of_ble_eq_true rfl) ?_
    refine ae_lload_n (pc := 21) dX5_cost_21 rfl ?_
    refine ae_lconst (pc := 22) (v := 0) dX5_cost_22 (by decide) ?_
    refine ae_lcmp (pc := 23) dX5_cost_23 rfl ?_
    refine ae_if_gt (pc := 24) (t := 29) dX5_cost_24 (by decide) (fun c24 => ?_) (fun c24 => ?_)
    · refine ae_aload_n (pc := 29) dX5_cost_29 rfl ?_
      refine ae_getR (pc := 30) (k := 25) (c := 5) (j := 1) (q := 16) dX5_cost_30 rfl rfl (Nat.le_of_ble_eq_true rfl) rfl (Nat.le_of_ble_eq_true rfl) rfl ?_
      refine ae_getR (pc := 33) (k := 16) (c := 8) (j := 3) (q := 19) dX5_cost_33 rfl rfl (Nat.le_of_ble_eq_true rfl) rfl (Nat.le_of_ble_eq_true rfl) rfl ?_
      refine ae_iload_n (pc := 36) dX5_cost_36 rfl ?_
      refine ae_iaload (pc := 37) (k := 19) (N := 16) (v := nI (svA f i)) (i) dX5_cost_37 (Nat.le_of_ble_eq_true rfl) rfl rfl rfl (by omega) (hs i (by omega)) ?_
      refine ae_i2l (pc := 38) (v := nL (svA f i)) dX5_cost_38 (nI_i2l (by omega)) ?_
      refine ae_aload_n (pc := 39) dX5_cost_39 rfl ?_
      refine ae_getR (pc := 40) (k := 25) (c := 5) (j := 1) (q := 16) dX5_cost_40 rfl rfl (Nat.le_of_ble_eq_true rfl) rfl (Nat.le_of_ble_eq_true rfl) rfl ?_
      refine ae_getR (pc := 43) (k := 16) (c := 8) (j := 3) (q := 19) dX5_cost_43 rfl rfl (Nat.le_of_ble_eq_true rfl) rfl (Nat.le_of_ble_eq_true rfl) rfl ?_
      refine ae_iload_n (pc := 46) dX5_cost_46 rfl ?_
      refine ae_iaload (pc := 47) (k := 19) (N := 16) (v := nI (svA f j)) (j) dX5_cost_47 (Nat.le_of_ble_eq_true rfl) rfl rfl rfl (by omega) (hs j (by omega)) ?_
      refine ae_i2l (pc := 48) (v := nL (svA f j)) dX5_cost_48 (nI_i2l (by omega)) ?_
      refine ae_lmul (pc := 49) dX5_cost_49 rfl ?_
      refine ae_lstore (pc := 50) dX5_cost_50 rfl (Nat.le_of_ble_eq_true rfl) ?_
      refine ae_lload (pc := 52) dX5_cost_52 rfl ?_
      refine ae_aload_n (pc := 54) dX5_cost_54 rfl ?_
      refine ae_getR (pc := 55) (k := 25) (c := 5) (j := 0) (q := 1) dX5_cost_55 rfl rfl (Nat.le_of_ble_eq_true rfl) rfl (Nat.le_of_ble_eq_true rfl) rfl ?_
      refine ae_aload_n (pc := 58) dX5_cost_58 rfl ?_
      refine ae_getR (pc := 59) (k := 25) (c := 5) (j := 0) (q := 1) dX5_cost_59 rfl rfl (Nat.le_of_ble_eq_true rfl) rfl (Nat.le_of_ble_eq_true rfl) rfl ?_
      refine ae_getR (pc := 62) (k := 1) (c := 7) (j := 4) (q := 3) dX5_cost_62 rfl rfl (Nat.le_of_ble_eq_true rfl) rfl (Nat.le_of_ble_eq_true rfl) rfl ?_
      refine ae_iload_n (pc := 65) dX5_cost_65 rfl ?_
      refine ae_iaload (pc := 66) (k := 3) (N := 16) (v := f (259 + i)) (i) dX5_cost_66 (Nat.le_of_ble_eq_true rfl) rfl rfl rfl (by omega) ((hg.2.2.1 i hi).1) ?_
      refine ae_aload_n (pc := 67) dX5_cost_67 rfl ?_
      refine ae_getR (pc := 68) (k := 25) (c := 5) (j := 0) (q := 1) dX5_cost_68 rfl rfl (Nat.le_of_ble_eq_true rfl) rfl (Nat.le_of_ble_eq_true rfl) rfl ?_
      refine ae_getR (pc := 71) (k := 1) (c := 7) (j := 4) (q := 3) dX5_cost_71 rfl rfl (Nat.le_of_ble_eq_true rfl) rfl (Nat.le_of_ble_eq_true rfl) rfl ?_
      refine ae_iload_n (pc := 74) dX5_cost_74 rfl ?_
      refine ae_iaload (pc := 75) (k := 3) (N := 16) (v := f (259 + j)) (j) dX5_cost_75 (Nat.le_of_ble_eq_true rfl) rfl rfl rfl (by omega) ((hg.2.2.1 j hj).1) ?_
      refine ae_pcallV (pc := 76) (z := zX7_distance) (k := 1) (As := [_, _]) dX5_cost_76 rfl rfl rfl rfl (Nat.le_of_ble_eq_true rfl) rfl (Nat.le_of_ble_eq_true rfl) (Nat.le_of_ble_eq_true rfl) (hds) ?_
      refine ae_i2l (pc := 79) dX5_cost_79 rfl ?_
      refine ae_lmul (pc := 80) dX5_cost_80 rfl ?_
      refine ae_lload_n (pc := 81) dX5_cost_81 rfl ?_
      refine ae_ldiv (pc := 82) dX5_cost_82 (fun q => by have w := (z (svA f i + svA f j) (by omega)).mpr (by omega); rw [q] at w; exact absurd w (by decide)) rfl ?_
      refine ae_lreturn (pc := 83) dX5_cost_83 rfl ?_
      exact ⟨rfl, rfl⟩
    · exact absurd (lg_gt0.mpr ((z _ (by omega)).mpr (by omega))) c24
theorem sc_findCheapestPair (d : Nat) (M : am_M) (f : fT) (hg : AG M f) (hf : wf f) (hs : ∀ e, e < 16 → M.1 19 e = nI (svA f e)) : am_R (d + 3) zX5_findCheapestPair [.ref 25] M (fun v M' => ∃ b x g, v = some (.int b) ∧ M' = fpM M g ∧ FC f (mgI f (fN f)) b x g) := by
  refine ae_enter (z := zX5_findCheapestPair) (y := yX5_findCheapestPair) (cc := cX5_findCheapestPair) (mL := 8) (rt := some .boolean) (ci := 5) (st := false) (np := 0) (L := [some (.ref 25), none, none, none, none, none, none, none]) rfl (by decide) (Nat.le_of_ble_eq_true rfl) rfl ?_
  have hN := hf.1.2.2.2
  have ag : ∀ g, AG (fpM M g) f := fun g => AG_ne hg (fun k h1 h2 => fpM_ne _ _ (by omega))
  have a3 : ∀ g, (fpM M g).1 1 3 = nI (fN f) := fun g => (AG_w (ag g) hf.1).2.2
  have outer : ∀ b x g, (b = 0 ∨ b = 1) → FC f (mgI f 0) b x g → am_E none (am_R (d + 2)) cX5_findCheapestPair 5 (some .boolean) (fun v M' => ∃ b x g, v = some (.int b) ∧ M' = fpM M g ∧ FC f (mgI f (fN f)) b x g) (7, [some (.ref 25), some (.int b), some (.long x), none, some (.int (nI 0)), none, none, none], [], fpM M g) := by
    refine am_down (P := fun i => ∀ b x g, (b = 0 ∨ b = 1) → FC f (mgI f i) b x g → am_E none (am_R (d + 2)) cX5_findCheapestPair 5 (some .boolean) _ (7, [some (.ref 25), some (.int b), some (.long x), none, some (.int (nI i)), none, none, none], [], fpM M g)) (fN f) (fun i hi ih b x g hb h => ?_)
    refine ae_iload (pc := 7) dX5_findCheapestPair_7 rfl ?_
    refine ae_aload_n (pc := 9) dX5_findCheapestPair_9 rfl ?_
    refine ae_getR (pc := 10) (k := 25) (c := 5) (j := 0) (q := 1) dX5_findCheapestPair_10 rfl rfl (Nat.le_of_ble_eq_true rfl) rfl (Nat.le_of_ble_eq_true rfl) rfl ?_
    refine ae_getI (pc := 13) (k := 1) (c := 7) (j := 3) (v := nI (fN f)) dX5_findCheapestPair_13 rfl rfl (Or.inl rfl) (Nat.le_of_ble_eq_true rfl) rfl (Nat.le_of_ble_eq_true rfl) (a3 g) ?_
    refine ae_icmp_ge (pc := 16) (t := 116) dX5_findCheapestPair_16 (by decide) (fun c16 => ?_) (fun c16 => ?_)
    · have hi2 : i = fN f := by rw [nI_leI (by omega) (by omega)] at c16; omega
      subst hi2
      refine ae_iload_n (pc := 116) dX5_findCheapestPair_116 rfl ?_
      refine ae_zreturn (pc := 117) dX5_findCheapestPair_117 rfl hb ?_
      exact ⟨b, x, g, rfl, rfl, h⟩
    · have hi2 : i < fN f := by rw [nI_leI (by omega) (by omega)] at c16; omega
      have inner : ∀ b x g, (b = 0 ∨ b = 1) → FC f (mgJ f i (mgI f i) 0) b x g → am_E none (am_R (d + 2)) cX5_findCheapestPair 5 (some .boolean) (fun v M' => ∃ b x g, v = some (.int b) ∧ M' = fpM M g ∧ FC f (mgI f (fN f)) b x g) (25, [some (.ref 25), some (.int b), some (.long x), none, some (.int (nI i)), some (.int (nI (i + 1 + 0))), none, none], [], fpM M g) := by
        refine am_down (P := fun k => ∀ b x g, (b = 0 ∨ b = 1) → FC f (mgJ f i (mgI f i) k) b x g → am_E none (am_R (d + 2)) cX5_findCheapestPair 5 (some .boolean) _ (25, [some (.ref 25), some (.int b), some (.long x), none, some (.int (nI i)), some (.int (nI (i + 1 + k))), none, none], [], fpM M g)) (fN f - (i + 1)) (fun k hk ihk b x g hb h => ?_)
        refine ae_iload (pc := 25) dX5_findCheapestPair_25 rfl ?_
        refine ae_aload_n (pc := 27) dX5_findCheapestPair_27 rfl ?_
        refine ae_getR (pc := 28) (k := 25) (c := 5) (j := 0) (q := 1) dX5_findCheapestPair_28 rfl rfl (Nat.le_of_ble_eq_true rfl) rfl (Nat.le_of_ble_eq_true rfl) rfl ?_
        refine ae_getI (pc := 31) (k := 1) (c := 7) (j := 3) (v := nI (fN f)) dX5_findCheapestPair_31 rfl rfl (Or.inl rfl) (Nat.le_of_ble_eq_true rfl) rfl (Nat.le_of_ble_eq_true rfl) (a3 g) ?_
        refine ae_icmp_ge (pc := 34) (t := 110) dX5_findCheapestPair_34 (by decide) (fun c34 => ?_) (fun c34 => ?_)
        · have hk2 : k = fN f - (i + 1) := by rw [nI_leI (by omega) (by omega)] at c34; omega
          subst hk2
          refine ae_iinc (pc := 110) (v := nI (i + 1)) dX5_findCheapestPair_110 rfl (nI_inc i) ?_
          refine ae_goto (pc := 113) (t := 7) dX5_findCheapestPair_113 (by decide) ?_
          exact ae_forget [5] rfl (ih hi2 b x g hb h)
        · have hk2 : k < fN f - (i + 1) := by rw [nI_leI (by omega) (by omega)] at c34; omega
          have ihk2 := ihk hk2
          rw [mgJ_s] at ihk2
          have li : (fpM M g).1 4 i = f (275 + i) := ((ag g).2.2.1 i hi2).2
          have lj : (fpM M g).1 4 (i + 1 + k) = f (275 + (i + 1 + k)) := ((ag g).2.2.1 _ (by omega)).2
          have i01 := (hf.2.2.1 i hi2).2
          have j01 := (hf.2.2.1 (i + 1 + k) (by omega)).2
          have hco := sc_cost d (fpM M g) f (ag g) hf (fun e he => by rw [fpM_ne _ _ (by decide)]; exact hs e he) i (i + 1 + k) hi2 (by omega)
          by_cases hl : f (275 + i) = 1 ∧ f (275 + (i + 1 + k)) = 1
          · rw [if_pos hl] at ihk2
            refine ae_aload_n (pc := 37) dX5_findCheapestPair_37 rfl ?_
            refine ae_getR (pc := 38) (k := 25) (c := 5) (j := 0) (q := 1) dX5_findCheapestPair_38 rfl rfl (Nat.le_of_ble_eq_true rfl) rfl (Nat.le_of_ble_eq_true rfl) rfl ?_
            refine ae_getR (pc := 41) (k := 1) (c := 7) (j := 5) (q := 4) dX5_findCheapestPair_41 rfl rfl (Nat.le_of_ble_eq_true rfl) rfl (Nat.le_of_ble_eq_true rfl) rfl ?_
            refine ae_iload (pc := 44) dX5_findCheapestPair_44 rfl ?_
            refine ae_baload (pc := 46) (k := 4) (N := 16) (v := f (275 + i)) (i) dX5_findCheapestPair_46 (Nat.le_of_ble_eq_true rfl) rfl rfl rfl (by omega) li ?_
            refine ae_if_eq (pc := 47) (t := 66) dX5_findCheapestPair_47 (by decide) (fun c47 => ?_) (fun c47 => ?_)
            · first | exact absurd (hl.1.symm.trans c47) (by decide) | exact absurd (hl.2.symm.trans c60) (by decide)
            · refine ae_aload_n (pc := 50) dX5_findCheapestPair_50 rfl ?_
              refine ae_getR (pc := 51) (k := 25) (c := 5) (j := 0) (q := 1) dX5_findCheapestPair_51 rfl rfl (Nat.le_of_ble_eq_true rfl) rfl (Nat.le_of_ble_eq_true rfl) rfl ?_
              refine ae_getR (pc := 54) (k := 1) (c := 7) (j := 5) (q := 4) dX5_findCheapestPair_54 rfl rfl (Nat.le_of_ble_eq_true rfl) rfl (Nat.le_of_ble_eq_true rfl) rfl ?_
              refine ae_iload (pc := 57) dX5_findCheapestPair_57 rfl ?_
              refine ae_baload (pc := 59) (k := 4) (N := 16) (v := f (275 + (i + 1 + k))) (i + 1 + k) dX5_findCheapestPair_59 (Nat.le_of_ble_eq_true rfl) rfl rfl rfl (by omega) lj ?_
              refine ae_if_eq (pc := 60) (t := 66) dX5_findCheapestPair_60 (by decide) (fun c60 => ?_) (fun c60 => ?_)
              · first | exact absurd (hl.1.symm.trans c47) (by decide) | exact absurd (hl.2.symm.trans c60) (by decide)
              · refine ae_goto (pc := 63) (t := 104) dX5_findCheapestPair_63 (by decide) ?_
                refine ae_iinc (pc := 104) (v := nI (i + 1 + (k + 1))) dX5_findCheapestPair_104 rfl (nI_inc (i + 1 + k)) ?_
                refine ae_goto (pc := 107) (t := 25) dX5_findCheapestPair_107 (by decide) ?_
                exact ihk2 b x g hb h
          · rw [if_neg hl] at ihk2
            have body : am_E none (am_R (d + 2)) cX5_findCheapestPair 5 (some .boolean) (fun v M' => ∃ b x g, v = some (.int b) ∧ M' = fpM M g ∧ FC f (mgI f (fN f)) b x g) (66, [some (.ref 25), some (.int b), some (.long x), none, some (.int (nI i)), some (.int (nI (i + 1 + k))), none, none], [], fpM M g) := by
              have take : FC f (some (i, i + 1 + k)) (nI 1) (cst f i (i + 1 + k)) (upd (upd g 3 (nI i)) 4 (nI (i + 1 + k))) := ⟨fun q => (by cases q), fun q hq => (by cases hq; exact ⟨rfl, rfl, by rw [upd_ne _ _ (by decide), upd_self], upd_self _ _ _⟩)⟩
              cases hx : mgJ f i (mgI f i) k with
              | none =>
                rw [hx] at h ihk2
                dsimp only at ihk2
                have hb0 := h.1 rfl
                refine ae_aload_n (pc := 66) dX5_findCheapestPair_66 rfl ?_
                refine ae_iload (pc := 67) dX5_findCheapestPair_67 rfl ?_
                refine ae_iload (pc := 69) dX5_findCheapestPair_69 rfl ?_
                refine ae_pcallV (pc := 71) (z := zX5_cost) (k := 25) (As := [_, _]) dX5_findCheapestPair_71 rfl rfl rfl rfl (Nat.le_of_ble_eq_true rfl) rfl (Nat.le_of_ble_eq_true rfl) (Nat.le_of_ble_eq_true rfl) (hco) ?_
                refine ae_lstore (pc := 74) dX5_findCheapestPair_74 rfl (Nat.le_of_ble_eq_true rfl) ?_
                refine ae_iload_n (pc := 76) dX5_findCheapestPair_76 rfl ?_
                refine ae_if_eq (pc := 77) (t := 87) dX5_findCheapestPair_77 (by decide) (fun c77 => ?_) (fun c77 => ?_)
                rotate_left
                · exact absurd hb0 c77
                refine ae_iconst (pc := 87) (v := nI 1) dX5_findCheapestPair_87 (by decide) ?_
                refine ae_istore_n (pc := 88) dX5_findCheapestPair_88 rfl (Nat.le_of_ble_eq_true rfl) ?_
                refine ae_lload (pc := 89) dX5_findCheapestPair_89 rfl ?_
                refine ae_lstore_n (pc := 91) dX5_findCheapestPair_91 rfl (Nat.le_of_ble_eq_true rfl) ?_
                refine ae_aload_n (pc := 92) dX5_findCheapestPair_92 rfl ?_
                refine ae_iload (pc := 93) dX5_findCheapestPair_93 rfl ?_
                refine ae_putfield (pc := 95) (k := 25) (c := 5) (j := 3) dX5_findCheapestPair_95 rfl rfl (Nat.le_of_ble_eq_true rfl) rfl (Nat.le_of_ble_eq_true rfl) rfl rfl ?_
                refine ae_M (fpM_u _ _ _) ?_
                rw [fpM_25]
                refine ae_aload_n (pc := 98) dX5_findCheapestPair_98 rfl ?_
                refine ae_iload (pc := 99) dX5_findCheapestPair_99 rfl ?_
                refine ae_putfield (pc := 101) (k := 25) (c := 5) (j := 4) dX5_findCheapestPair_101 rfl rfl (Nat.le_of_ble_eq_true rfl) rfl (Nat.le_of_ble_eq_true rfl) rfl rfl ?_
                refine ae_M (fpM_u _ _ _) ?_
                rw [fpM_25]
                refine ae_iinc (pc := 104) (v := nI (i + 1 + (k + 1))) dX5_findCheapestPair_104 rfl (nI_inc (i + 1 + k)) ?_
                refine ae_goto (pc := 107) (t := 25) dX5_findCheapestPair_107 (by decide) ?_
                exact ae_forget [6] rfl (ihk2 _ _ _ (Or.inr rfl) take)
              | some q =>
                rw [hx] at h ihk2
                dsimp only at ihk2
                obtain ⟨h1, h2, h3, h4⟩ := h.2 q rfl
                by_cases hlt : cst f i (i + 1 + k) < cst f q.1 q.2
                · rw [if_pos hlt] at ihk2
                  refine ae_aload_n (pc := 66) dX5_findCheapestPair_66 rfl ?_
                  refine ae_iload (pc := 67) dX5_findCheapestPair_67 rfl ?_
                  refine ae_iload (pc := 69) dX5_findCheapestPair_69 rfl ?_
                  refine ae_pcallV (pc := 71) (z := zX5_cost) (k := 25) (As := [_, _]) dX5_findCheapestPair_71 rfl rfl rfl rfl (Nat.le_of_ble_eq_true rfl) rfl (Nat.le_of_ble_eq_true rfl) (Nat.le_of_ble_eq_true rfl) (hco) ?_
                  refine ae_lstore (pc := 74) dX5_findCheapestPair_74 rfl (Nat.le_of_ble_eq_true rfl) ?_
                  refine ae_iload_n (pc := 76) dX5_findCheapestPair_76 rfl ?_
                  refine ae_if_eq (pc := 77) (t := 87) dX5_findCheapestPair_77 (by decide) (fun c77 => ?_) (fun c77 => ?_)
                  · exact absurd (c77.symm.trans h1) (by decide)
                  refine ae_lload (pc := 80) dX5_findCheapestPair_80 rfl ?_
                  refine ae_lload_n (pc := 82) dX5_findCheapestPair_82 rfl ?_
                  refine ae_lcmp (pc := 83) dX5_findCheapestPair_83 rfl ?_
                  refine ae_if_ge (pc := 84) (t := 104) dX5_findCheapestPair_84 (by decide) (fun c84 => ?_) (fun c84 => ?_)
                  · exact absurd (by rw [h2]; exact hlt) (lg_ge0.mp c84)
                  refine ae_iconst (pc := 87) (v := nI 1) dX5_findCheapestPair_87 (by decide) ?_
                  refine ae_istore_n (pc := 88) dX5_findCheapestPair_88 rfl (Nat.le_of_ble_eq_true rfl) ?_
                  refine ae_lload (pc := 89) dX5_findCheapestPair_89 rfl ?_
                  refine ae_lstore_n (pc := 91) dX5_findCheapestPair_91 rfl (Nat.le_of_ble_eq_true rfl) ?_
                  refine ae_aload_n (pc := 92) dX5_findCheapestPair_92 rfl ?_
                  refine ae_iload (pc := 93) dX5_findCheapestPair_93 rfl ?_
                  refine ae_putfield (pc := 95) (k := 25) (c := 5) (j := 3) dX5_findCheapestPair_95 rfl rfl (Nat.le_of_ble_eq_true rfl) rfl (Nat.le_of_ble_eq_true rfl) rfl rfl ?_
                  refine ae_M (fpM_u _ _ _) ?_
                  rw [fpM_25]
                  refine ae_aload_n (pc := 98) dX5_findCheapestPair_98 rfl ?_
                  refine ae_iload (pc := 99) dX5_findCheapestPair_99 rfl ?_
                  refine ae_putfield (pc := 101) (k := 25) (c := 5) (j := 4) dX5_findCheapestPair_101 rfl rfl (Nat.le_of_ble_eq_true rfl) rfl (Nat.le_of_ble_eq_true rfl) rfl rfl ?_
                  refine ae_M (fpM_u _ _ _) ?_
                  rw [fpM_25]
                  refine ae_iinc (pc := 104) (v := nI (i + 1 + (k + 1))) dX5_findCheapestPair_104 rfl (nI_inc (i + 1 + k)) ?_
                  refine ae_goto (pc := 107) (t := 25) dX5_findCheapestPair_107 (by decide) ?_
                  exact ae_forget [6] rfl (ihk2 _ _ _ (Or.inr rfl) take)
                · rw [if_neg hlt] at ihk2
                  refine ae_aload_n (pc := 66) dX5_findCheapestPair_66 rfl ?_
                  refine ae_iload (pc := 67) dX5_findCheapestPair_67 rfl ?_
                  refine ae_iload (pc := 69) dX5_findCheapestPair_69 rfl ?_
                  refine ae_pcallV (pc := 71) (z := zX5_cost) (k := 25) (As := [_, _]) dX5_findCheapestPair_71 rfl rfl rfl rfl (Nat.le_of_ble_eq_true rfl) rfl (Nat.le_of_ble_eq_true rfl) (Nat.le_of_ble_eq_true rfl) (hco) ?_
                  refine ae_lstore (pc := 74) dX5_findCheapestPair_74 rfl (Nat.le_of_ble_eq_true rfl) ?_
                  refine ae_iload_n (pc := 76) dX5_findCheapestPair_76 rfl ?_
                  refine ae_if_eq (pc := 77) (t := 87) dX5_findCheapestPair_77 (by decide) (fun c77 => ?_) (fun c77 => ?_)
                  · exact absurd (c77.symm.trans h1) (by decide)
                  refine ae_lload (pc := 80) dX5_findCheapestPair_80 rfl ?_
                  refine ae_lload_n (pc := 82) dX5_findCheapestPair_82 rfl ?_
                  refine ae_lcmp (pc := 83) dX5_findCheapestPair_83 rfl ?_
                  refine ae_if_ge (pc := 84) (t := 104) dX5_findCheapestPair_84 (by decide) (fun c84 => ?_) (fun c84 => ?_)
                  rotate_left
                  · exact absurd (lg_ge0.mpr (by rw [h2]; exact hlt)) c84
                  refine ae_iinc (pc := 104) (v := nI (i + 1 + (k + 1))) dX5_findCheapestPair_104 rfl (nI_inc (i + 1 + k)) ?_
                  refine ae_goto (pc := 107) (t := 25) dX5_findCheapestPair_107 (by decide) ?_
                  exact ae_forget [6] rfl (ihk2 b x g hb h)
            refine ae_aload_n (pc := 37) dX5_findCheapestPair_37 rfl ?_
            refine ae_getR (pc := 38) (k := 25) (c := 5) (j := 0) (q := 1) dX5_findCheapestPair_38 rfl rfl (Nat.le_of_ble_eq_true rfl) rfl (Nat.le_of_ble_eq_true rfl) rfl ?_
            refine ae_getR (pc := 41) (k := 1) (c := 7) (j := 5) (q := 4) dX5_findCheapestPair_41 rfl rfl (Nat.le_of_ble_eq_true rfl) rfl (Nat.le_of_ble_eq_true rfl) rfl ?_
            refine ae_iload (pc := 44) dX5_findCheapestPair_44 rfl ?_
            refine ae_baload (pc := 46) (k := 4) (N := 16) (v := f (275 + i)) (i) dX5_findCheapestPair_46 (Nat.le_of_ble_eq_true rfl) rfl rfl rfl (by omega) li ?_
            refine ae_if_eq (pc := 47) (t := 66) dX5_findCheapestPair_47 (by decide) (fun c47 => ?_) (fun c47 => ?_)
            · exact body
            · refine ae_aload_n (pc := 50) dX5_findCheapestPair_50 rfl ?_
              refine ae_getR (pc := 51) (k := 25) (c := 5) (j := 0) (q := 1) dX5_findCheapestPair_51 rfl rfl (Nat.le_of_ble_eq_true rfl) rfl (Nat.le_of_ble_eq_true rfl) rfl ?_
              refine ae_getR (pc := 54) (k := 1) (c := 7) (j := 5) (q := 4) dX5_findCheapestPair_54 rfl rfl (Nat.le_of_ble_eq_true rfl) rfl (Nat.le_of_ble_eq_true rfl) rfl ?_
              refine ae_iload (pc := 57) dX5_findCheapestPair_57 rfl ?_
              refine ae_baload (pc := 59) (k := 4) (N := 16) (v := f (275 + (i + 1 + k))) (i + 1 + k) dX5_findCheapestPair_59 (Nat.le_of_ble_eq_true rfl) rfl rfl rfl (by omega) lj ?_
              refine ae_if_eq (pc := 60) (t := 66) dX5_findCheapestPair_60 (by decide) (fun c60 => ?_) (fun c60 => ?_)
              · exact body
              · refine ae_goto (pc := 63) (t := 104) dX5_findCheapestPair_63 (by decide) ?_
                exact absurd ⟨i01.resolve_left c47, j01.resolve_left c60⟩ hl
      refine ae_iload (pc := 19) dX5_findCheapestPair_19 rfl ?_
      refine ae_iconst (pc := 21) (v := nI 1) dX5_findCheapestPair_21 (by decide) ?_
      refine ae_iadd (pc := 22) (v := nI (i + 1 + 0)) dX5_findCheapestPair_22 (nI_add _ _) ?_
      refine ae_istore (pc := 23) dX5_findCheapestPair_23 rfl (Nat.le_of_ble_eq_true rfl) ?_
      exact inner b x g hb h
  have st := outer 0 0 (M.1 25) (Or.inl rfl) ⟨fun _ => rfl, fun q hq => (by cases hq)⟩
  rw [fpM_eta] at st
  refine ae_iconst (pc := 0) (v := nI 0) dX5_findCheapestPair_0 (by decide) ?_
  refine ae_istore_n (pc := 1) dX5_findCheapestPair_1 rfl (Nat.le_of_ble_eq_true rfl) ?_
  refine ae_lconst (pc := 2) (v := 0) dX5_findCheapestPair_2 (by decide) ?_
  refine ae_lstore_n (pc := 3) dX5_findCheapestPair_3 rfl (Nat.le_of_ble_eq_true rfl) ?_
  refine ae_iconst (pc := 4) (v := nI 0) dX5_findCheapestPair_4 (by decide) ?_
  refine ae_istore (pc := 5) dX5_findCheapestPair_5 rfl (Nat.le_of_ble_eq_true rfl) ?_
  exact st

