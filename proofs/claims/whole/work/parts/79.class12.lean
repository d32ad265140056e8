theorem mgU_v {f : fT} {i j e : Nat} (hi : i < 16) (he : e < 16) : mgU f i j (259 + e) = (if e = i then mgC f i j else f (259 + e)) ∧ mgU f i j (275 + e) = (if e = i then bI (f (275 + i) = 1 ∨ f (275 + j) = 1) else f (275 + e)) := by
  unfold mgU
  by_cases h : e = i
  · subst h
    rw [if_pos rfl, if_pos rfl, upd_self, upd_ne _ _ (by omega), upd_self]
    exact ⟨rfl, rfl⟩
  · rw [if_neg h, if_neg h, upd_ne _ _ (by omega), upd_ne _ _ (by omega), upd_ne _ _ (by omega), upd_ne _ _ (by omega)]
    exact ⟨rfl, rfl⟩
theorem sc_mixedColor (d : Nat) (M : am_M) (f : fT) (hg : AG M f) (hf : wf f) (hs : ∀ e, e < 16 → M.1 19 e = nI (svA f e)) (i j : Nat) (hi : i < fN f) (hj : j < fN f) (g3 : M.1 25 3 = nI i) (g4 : M.1 25 4 = nI j) (h : 0 < svA f i + svA f j) : am_R (d + 2) zX5_mixedColor [.ref 25] M (fun v M' => v = some (.int (mgM (nI (svA f i)) (nI (svA f j)) (f (259 + i)) (f (259 + j)) 3)) ∧ M' = M) := by
  refine ae_enter (z := zX5_mixedColor) (y := yX5_mixedColor) (cc := cX5_mixedColor) (mL := 7) (rt := some .int) (ci := 5) (st := false) (np := 0) (L := [some (.ref 25), none, none, none, none, none, none]) rfl (by decide) (Nat.le_of_ble_eq_true rfl) rfl ?_
  have hN := hf.1.2.2.2
  have h1 := svA_le hf.1 i
  have h2 := svA_le hf.1 j
  refine ae_aload_n (pc := 0) dX5_mixedColor_0 rfl ?_
  refine ae_getR (pc := 1) (k := 25) (c := 5) (j := 1) (q := 16) dX5_mixedColor_1 rfl rfl (Nat.le_of_ble_eq_true rfl) rfl (Nat.le_of_ble_eq_true rfl) rfl ?_
  refine ae_getR (pc := 4) (k := 16) (c := 8) (j := 3) (q := 19) dX5_mixedColor_4 rfl rfl (Nat.le_of_ble_eq_true rfl) rfl (Nat.le_of_ble_eq_true rfl) rfl ?_
  refine ae_aload_n (pc := 7) dX5_mixedColor_7 rfl ?_
  refine ae_getI (pc := 8) (k := 25) (c := 5) (j := 3) (v := nI i) dX5_mixedColor_8 rfl rfl (Or.inl rfl) (Nat.le_of_ble_eq_true rfl) rfl (Nat.le_of_ble_eq_true rfl) g3 ?_
  refine ae_iaload (pc := 11) (k := 19) (N := 16) (v := nI (svA f i)) (i) dX5_mixedColor_11 (Nat.le_of_ble_eq_true rfl) rfl rfl rfl (by omega) (hs i (by omega)) ?_
  refine ae_istore_n (pc := 12) dX5_mixedColor_12 rfl (Nat.le_of_ble_eq_true rfl) ?_
  refine ae_aload_n (pc := 13) dX5_mixedColor_13 rfl ?_
  refine ae_getR (pc := 14) (k := 25) (c := 5) (j := 1) (q := 16) dX5_mixedColor_14 rfl rfl (Nat.le_of_ble_eq_true rfl) rfl (Nat.le_of_ble_eq_true rfl) rfl ?_
  refine ae_getR (pc := 17) (k := 16) (c := 8) (j := 3) (q := 19) dX5_mixedColor_17 rfl rfl (Nat.le_of_ble_eq_true rfl) rfl (Nat.le_of_ble_eq_true rfl) rfl ?_
  refine ae_aload_n (pc := 20) dX5_mixedColor_20 rfl ?_
  refine ae_getI (pc := 21) (k := 25) (c := 5) (j := 4) (v := nI j) dX5_mixedColor_21 rfl rfl (Or.inl rfl) (Nat.le_of_ble_eq_true rfl) rfl (Nat.le_of_ble_eq_true rfl) g4 ?_
  refine ae_iaload (pc := 24) (k := 19) (N := 16) (v := nI (svA f j)) (j) dX5_mixedColor_24 (Nat.le_of_ble_eq_true rfl) rfl rfl rfl (by omega) (hs j (by omega)) ?_
  refine ae_istore_n (pc := 25) dX5_mixedColor_25 rfl (Nat.le_of_ble_eq_true rfl) ?_
  refine ae_iconst (pc := 26) (v := nI 0) dX5_mixedColor_26 (by decide) ?_
  refine ae_istore_n (pc := 27) dX5_mixedColor_27 rfl (Nat.le_of_ble_eq_true rfl) ?_
  refine ae_iconst (pc := 28) (v := nI 0) dX5_mixedColor_28 (by decide) ?_
  refine ae_istore (pc := 29) dX5_mixedColor_29 rfl (Nat.le_of_ble_eq_true rfl) ?_
  skip
  refine am_down (P := fun k => am_E none (am_R (d + 1)) cX5_mixedColor 5 (some .int) _ (31, [some (.ref 25), some (.int (nI (svA f i))), some (.int (nI (svA f j))), some (.int (mgM (nI (svA f i)) (nI (svA f j)) (f (259 + i)) (f (259 + j)) k)), some (.int (nI k)), none, none], [], M)) 3 (fun k hk ih => ?_)
  refine ae_iload (pc := 31) dX5_mixedColor_31 rfl ?_
  refine ae_iconst (pc := 33) (v := nI 3) dX5_mixedColor_33 (by decide) ?_
  refine ae_icmp_ge (pc := 34) (t := 103) dX5_mixedColor_34 (by decide) (fun c34 => ?_) (fun c34 => ?_)
  · have hk2 : k = 3 := by rw [nI_leI (by omega) (by omega)] at c34; omega
    subst hk2
    refine ae_iload_n (pc := 103) dX5_mixedColor_103 rfl ?_
    refine ae_ireturn (pc := 104) dX5_mixedColor_104 rfl ?_
    exact ⟨rfl, rfl⟩
  · have hk2 : k < 3 := by rw [nI_leI (by omega) (by omega)] at c34; omega
    obtain ⟨m, m1, m2⟩ := mgM_ok hf.1 (f (259 + i)) (f (259 + j)) h k hk
    have : 256 ^ k ≤ 256 ^ 2 := Nat.pow_le_pow_right (by decide) (by omega)
    obtain ⟨s, s1, s2, s3⟩ := mgM_c hf.1 (f (259 + i)) (f (259 + j)) h k m (by omega) m2
    obtain ⟨a1, a2⟩ := chN_lt (f (259 + i)) k
    obtain ⟨b1, b2⟩ := chN_lt (f (259 + j)) k
    have p1 : svA f i * chN (f (259 + i)) k ≤ svA f i * 255 := Nat.mul_le_mul_left _ (by omega)
    have p2 : svA f j * chN (f (259 + j)) k ≤ svA f j * 255 := Nat.mul_le_mul_left _ (by omega)
    have hm := sc_mean d (svA f i * chN (f (259 + i)) k + svA f j * chN (f (259 + j)) k) (svA f i + svA f j) (by omega) (by omega) M
    rw [if_pos h, ← s2] at hm
    refine ae_aload_n (pc := 37) dX5_mixedColor_37 rfl ?_
    refine ae_getR (pc := 38) (k := 25) (c := 5) (j := 0) (q := 1) dX5_mixedColor_38 rfl rfl (Nat.le_of_ble_eq_true rfl) rfl (Nat.le_of_ble_eq_true rfl) rfl ?_
    refine ae_getR (pc := 41) (k := 1) (c := 7) (j := 4) (q := 3) dX5_mixedColor_41 rfl rfl (Nat.le_of_ble_eq_true rfl) rfl (Nat.le_of_ble_eq_true rfl) rfl ?_
    refine ae_aload_n (pc := 44) dX5_mixedColor_44 rfl ?_
    refine ae_getI (pc := 45) (k := 25) (c := 5) (j := 3) (v := nI i) dX5_mixedColor_45 rfl rfl (Or.inl rfl) (Nat.le_of_ble_eq_true rfl) rfl (Nat.le_of_ble_eq_true rfl) g3 ?_
    refine ae_iaload (pc := 48) (k := 3) (N := 16) (v := f (259 + i)) (i) dX5_mixedColor_48 (Nat.le_of_ble_eq_true rfl) rfl rfl rfl (by omega) ((hg.2.2.1 i hi).1) ?_
    refine ae_iload (pc := 49) dX5_mixedColor_49 rfl ?_
    refine ae_pcallS (pc := 51) (z := zX10_channelOf) (As := [_, _]) dX5_mixedColor_51 rfl rfl rfl rfl (Nat.le_of_ble_eq_true rfl) (sc_channelOf d _ _ _) ?_
    refine ae_istore (pc := 54) dX5_mixedColor_54 rfl (Nat.le_of_ble_eq_true rfl) ?_
    refine ae_aload_n (pc := 56) dX5_mixedColor_56 rfl ?_
    refine ae_getR (pc := 57) (k := 25) (c := 5) (j := 0) (q := 1) dX5_mixedColor_57 rfl rfl (Nat.le_of_ble_eq_true rfl) rfl (Nat.le_of_ble_eq_true rfl) rfl ?_
    refine ae_getR (pc := 60) (k := 1) (c := 7) (j := 4) (q := 3) dX5_mixedColor_60 rfl rfl (Nat.le_of_ble_eq_true rfl) rfl (Nat.le_of_ble_eq_true rfl) rfl ?_
    refine ae_aload_n (pc := 63) dX5_mixedColor_63 rfl ?_
    refine ae_getI (pc := 64) (k := 25) (c := 5) (j := 4) (v := nI j) dX5_mixedColor_64 rfl rfl (Or.inl rfl) (Nat.le_of_ble_eq_true rfl) rfl (Nat.le_of_ble_eq_true rfl) g4 ?_
    refine ae_iaload (pc := 67) (k := 3) (N := 16) (v := f (259 + j)) (j) dX5_mixedColor_67 (Nat.le_of_ble_eq_true rfl) rfl rfl rfl (by omega) ((hg.2.2.1 j hj).1) ?_
    refine ae_iload (pc := 68) dX5_mixedColor_68 rfl ?_
    refine ae_pcallS (pc := 70) (z := zX10_channelOf) (As := [_, _]) dX5_mixedColor_70 rfl rfl rfl rfl (Nat.le_of_ble_eq_true rfl) (sc_channelOf d _ _ _) ?_
    refine ae_istore (pc := 73) dX5_mixedColor_73 rfl (Nat.le_of_ble_eq_true rfl) ?_
    refine ae_sipush (pc := 75) (v := nI 256) dX5_mixedColor_75 (by decide) ?_
    refine ae_iload_n (pc := 78) dX5_mixedColor_78 rfl ?_
    refine ae_imul (pc := 79) (v := nI (256 * m)) dX5_mixedColor_79 (by rw [m2, nI_mul]) ?_
    refine ae_iload_n (pc := 80) dX5_mixedColor_80 rfl ?_
    refine ae_iload (pc := 81) dX5_mixedColor_81 rfl ?_
    refine ae_imul (pc := 83) (v := nI (svA f i * chN (f (259 + i)) k)) dX5_mixedColor_83 (by rw [a2, nI_mul]) ?_
    refine ae_iload_n (pc := 84) dX5_mixedColor_84 rfl ?_
    refine ae_iload (pc := 85) dX5_mixedColor_85 rfl ?_
    refine ae_imul (pc := 87) (v := nI (svA f j * chN (f (259 + j)) k)) dX5_mixedColor_87 (by rw [b2, nI_mul]) ?_
    refine ae_iadd (pc := 88) (v := nI (svA f i * chN (f (259 + i)) k + svA f j * chN (f (259 + j)) k)) dX5_mixedColor_88 (nI_add _ _) ?_
    refine ae_iload_n (pc := 89) dX5_mixedColor_89 rfl ?_
    refine ae_iload_n (pc := 90) dX5_mixedColor_90 rfl ?_
    refine ae_iadd (pc := 91) (v := nI (svA f i + svA f j)) dX5_mixedColor_91 (nI_add _ _) ?_
    refine ae_pcallS (pc := 92) (z := zX10_mean) (As := [_, _]) dX5_mixedColor_92 rfl rfl rfl rfl (Nat.le_of_ble_eq_true rfl) (hm) ?_
    refine ae_iadd (pc := 95) (v := mgM (nI (svA f i)) (nI (svA f j)) (f (259 + i)) (f (259 + j)) (k + 1)) dX5_mixedColor_95 (by rw [s3, nI_add]) ?_
    refine ae_istore_n (pc := 96) dX5_mixedColor_96 rfl (Nat.le_of_ble_eq_true rfl) ?_
    refine ae_iinc (pc := 97) (v := nI (k + 1)) dX5_mixedColor_97 rfl (nI_inc k) ?_
    refine ae_goto (pc := 100) (t := 31) dX5_mixedColor_100 (by decide) ?_
    exact ae_forget [5, 6] rfl (ih hk2)
theorem sc_joinPair (d : Nat) (M : am_M) (f : fT) (hg : AG M f) (hf : wf f) (hs : ∀ e, e < 16 → M.1 19 e = nI (svA f e)) (i j : Nat) (hi : i < j) (hj : j < fN f) (g3 : M.1 25 3 = nI i) (g4 : M.1 25 4 = nI j) (hl : ¬ (f (275 + i) = 1 ∧ f (275 + j) = 1)) : am_R (d + 3) zX5_joinPair [.ref 25] M (fun v M' => v = none ∧ NW M (mgS f i j) M') := by
  refine ae_enter (z := zX5_joinPair) (y := yX5_joinPair) (cc := cX5_joinPair) (mL := 1) (rt := none) (ci := 5) (st := false) (np := 0) (L := [some (.ref 25)]) rfl (by decide) (Nat.le_of_ble_eq_true rfl) rfl ?_
  have hN := hf.1.2.2.2
  have h1 := svA_le hf.1 i
  have h2 := svA_le hf.1 j
  have hi2 : i < fN f := by omega
  have wU := wf_mgU hf hi2 hj
  have nU : fN (mgU f i j) = fN f := fN_mgU (by omega)
  have he1 := sc_hasEntry (d + 1) M f hg hf.1 (nI i)
  rw [bI_t (inE_of hf.1 hi2)] at he1
  have he2 := sc_hasEntry (d + 1) M f hg hf.1 (nI j)
  rw [bI_t (inE_of hf.1 hj)] at he2
  have i01 := (hf.2.2.1 i hi2).2
  have j01 := (hf.2.2.1 j hj).2
  have li : M.1 4 i = f (275 + i) := (hg.2.2.1 i hi2).2
  have lj : M.1 4 j = f (275 + j) := (hg.2.2.1 j hj).2
  have ci : M.1 3 i = f (259 + i) := (hg.2.2.1 i hi2).1
  have cj : M.1 3 j = f (259 + j) := (hg.2.2.1 j hj).1
  have drop : ∀ c l, (∀ e, e < fN f → c e = mgU f i j (259 + e) ∧ l e = mgU f i j (275 + e)) → am_E none (am_R (d + 2)) cX5_joinPair 5 none (fun v M' => v = none ∧ NW M (mgS f i j) M') (143, [some (.ref 25)], [], nwM M (M.1 1) (M.1 2) c l (M.1 5)) := by
    intro c l hcl
    have ag : AG (nwM M (M.1 1) (M.1 2) c l (M.1 5)) (mgU f i j) := AG_nw (agS_pal hf.1 hg (fun k hk => mgU_n (by omega) (by omega)) hcl)
    have hd := sc_dropEntry d (nwM M (M.1 1) (M.1 2) c l (M.1 5)) (mgU f i j) ag wU j (by rw [nU]; exact hj)
    rw [nU] at hd
    have nw0 : NW M (mgU f i j) (nwM M (M.1 1) (M.1 2) c l (M.1 5)) := ⟨_, _, _, _, _, rfl, agS_pal hf.1 hg (fun k hk => mgU_n (by omega) (by omega)) hcl⟩
    refine ae_aload_n (pc := 143) dX5_joinPair_143 rfl ?_
    refine ae_getR (pc := 144) (k := 25) (c := 5) (j := 0) (q := 1) dX5_joinPair_144 rfl rfl (Nat.le_of_ble_eq_true rfl) rfl (Nat.le_of_ble_eq_true rfl) rfl ?_
    refine ae_aload_n (pc := 147) dX5_joinPair_147 rfl ?_
    refine ae_getI (pc := 148) (k := 25) (c := 5) (j := 4) (v := nI j) dX5_joinPair_148 rfl rfl (Or.inl rfl) (Nat.le_of_ble_eq_true rfl) rfl (Nat.le_of_ble_eq_true rfl) (by rw [nwM_ne _ _ _ _ _ _ (by omega)]; exact g4) ?_
    refine ae_callV (pc := 151) (z := zX7_dropEntry) (k := 1) (As := [_]) dX5_joinPair_151 rfl rfl rfl rfl (Nat.le_of_ble_eq_true rfl) rfl (Nat.le_of_ble_eq_true rfl) (Nat.le_of_ble_eq_true rfl) (hd) (fun v M' hq => ?_)
    obtain ⟨rfl, hq2⟩ := hq
    refine ae_return (pc := 154) dX5_joinPair_154 rfl ?_
    exact ⟨rfl, NW_tr nw0 hq2⟩
  have U : ∀ e, e < fN f → mgU f i j (259 + e) = (if e = i then mgC f i j else f (259 + e)) ∧ mgU f i j (275 + e) = (if e = i then bI (f (275 + i) = 1 ∨ f (275 + j) = 1) else f (275 + e)) := fun e he => mgU_v (by omega) (by omega)
  by_cases hlj : f (275 + j) = 1
  · have hli : ¬ f (275 + i) = 1 := fun q => hl ⟨q, hlj⟩
    have eC : mgC f i j = f (259 + j) := by unfold mgC; rw [if_pos (Or.inr hlj), if_neg hli]
    have st := drop (upd (M.1 3) i (f (259 + j))) (upd (M.1 4) i (nI 1)) (fun e he => by
      rw [(U e he).1, (U e he).2]
      by_cases h : e = i
      · subst h; rw [upd_self, upd_self, if_pos rfl, if_pos rfl, eC, bI_t (Or.inr hlj)]; exact ⟨rfl, rfl⟩
      · rw [upd_ne _ _ h, upd_ne _ _ h, if_neg h, if_neg h]; exact hg.2.2.1 e he)
    refine ae_aload_n (pc := 0) dX5_joinPair_0 rfl ?_
    refine ae_getR (pc := 1) (k := 25) (c := 5) (j := 0) (q := 1) dX5_joinPair_1 rfl rfl (Nat.le_of_ble_eq_true rfl) rfl (Nat.le_of_ble_eq_true rfl) rfl ?_
    refine ae_aload_n (pc := 4) dX5_joinPair_4 rfl ?_
    refine ae_getI (pc := 5) (k := 25) (c := 5) (j := 3) (v := nI i) dX5_joinPair_5 rfl rfl (Or.inl rfl) (Nat.le_of_ble_eq_true rfl) rfl (Nat.le_of_ble_eq_true rfl) g3 ?_
    refine ae_pcallV (pc := 8) (z := zX7_hasEntry) (k := 1) (As := [_]) dX5_joinPair_8 rfl rfl rfl rfl (Nat.le_of_ble_eq_true rfl) rfl (Nat.le_of_ble_eq_true rfl) (Nat.le_of_ble_eq_true rfl) (he1) ?_
    refine ae_if_eq (pc := 11) (t := 28) dX5_joinPair_11 (by decide) (fun c11 => ?_) (fun c11 => ?_)
    · exact absurd c11 (by decide)
    refine ae_aload_n (pc := 14) dX5_joinPair_14 rfl ?_
    refine ae_getR (pc := 15) (k := 25) (c := 5) (j := 0) (q := 1) dX5_joinPair_15 rfl rfl (Nat.le_of_ble_eq_true rfl) rfl (Nat.le_of_ble_eq_true rfl) rfl ?_
    refine ae_aload_n (pc := 18) dX5_joinPair_18 rfl ?_
    refine ae_getI (pc := 19) (k := 25) (c := 5) (j := 4) (v := nI j) dX5_joinPair_19 rfl rfl (Or.inl rfl) (Nat.le_of_ble_eq_true rfl) rfl (Nat.le_of_ble_eq_true rfl) g4 ?_
    refine ae_pcallV (pc := 22) (z := zX7_hasEntry) (k := 1) (As := [_]) dX5_joinPair_22 rfl rfl rfl rfl (Nat.le_of_ble_eq_true rfl) rfl (Nat.le_of_ble_eq_true rfl) (Nat.le_of_ble_eq_true rfl) (he2) ?_
    refine ae_if_ne (pc := 25) (t := 29) dX5_joinPair_25 (by decide) (fun c25 => ?_) (fun c25 => ?_)
    rotate_left
    · exact absurd (Classical.not_not.mp c25) (by decide)
    refine ae_aload_n (pc := 29) dX5_joinPair_29 rfl ?_
    refine ae_getR (pc := 30) (k := 25) (c := 5) (j := 0) (q := 1) dX5_joinPair_30 rfl rfl (Nat.le_of_ble_eq_true rfl) rfl (Nat.le_of_ble_eq_true rfl) rfl ?_
    refine ae_getR (pc := 33) (k := 1) (c := 7) (j := 5) (q := 4) dX5_joinPair_33 rfl rfl (Nat.le_of_ble_eq_true rfl) rfl (Nat.le_of_ble_eq_true rfl) rfl ?_
    refine ae_aload_n (pc := 36) dX5_joinPair_36 rfl ?_
    refine ae_getI (pc := 37) (k := 25) (c := 5) (j := 4) (v := nI j) dX5_joinPair_37 rfl rfl (Or.inl rfl) (Nat.le_of_ble_eq_true rfl) rfl (Nat.le_of_ble_eq_true rfl) g4 ?_
    refine ae_baload (pc := 40) (k := 4) (N := 16) (v := f (275 + j)) (j) dX5_joinPair_40 (Nat.le_of_ble_eq_true rfl) rfl rfl rfl (by omega) lj ?_
    refine ae_if_eq (pc := 41) (t := 84) dX5_joinPair_41 (by decide) (fun c41 => ?_) (fun c41 => ?_)
    · exact absurd (hlj.symm.trans c41) (by decide)
    refine ae_aload_n (pc := 44) dX5_joinPair_44 rfl ?_
    refine ae_getR (pc := 45) (k := 25) (c := 5) (j := 0) (q := 1) dX5_joinPair_45 rfl rfl (Nat.le_of_ble_eq_true rfl) rfl (Nat.le_of_ble_eq_true rfl) rfl ?_
    refine ae_getR (pc := 48) (k := 1) (c := 7) (j := 4) (q := 3) dX5_joinPair_48 rfl rfl (Nat.le_of_ble_eq_true rfl) rfl (Nat.le_of_ble_eq_true rfl) rfl ?_
    refine ae_aload_n (pc := 51) dX5_joinPair_51 rfl ?_
    refine ae_getI (pc := 52) (k := 25) (c := 5) (j := 3) (v := nI i) dX5_joinPair_52 rfl rfl (Or.inl rfl) (Nat.le_of_ble_eq_true rfl) rfl (Nat.le_of_ble_eq_true rfl) g3 ?_
    refine ae_aload_n (pc := 55) dX5_joinPair_55 rfl ?_
    refine ae_getR (pc := 56) (k := 25) (c := 5) (j := 0) (q := 1) dX5_joinPair_56 rfl rfl (Nat.le_of_ble_eq_true rfl) rfl (Nat.le_of_ble_eq_true rfl) rfl ?_
    refine ae_getR (pc := 59) (k := 1) (c := 7) (j := 4) (q := 3) dX5_joinPair_59 rfl rfl (Nat.le_of_ble_eq_true rfl) rfl (Nat.le_of_ble_eq_true rfl) rfl ?_
    refine ae_aload_n (pc := 62) dX5_joinPair_62 rfl ?_
    refine ae_getI (pc := 63) (k := 25) (c := 5) (j := 4) (v := nI j) dX5_joinPair_63 rfl rfl (Or.inl rfl) (Nat.le_of_ble_eq_true rfl) rfl (Nat.le_of_ble_eq_true rfl) g4 ?_
    refine ae_iaload (pc := 66) (k := 3) (N := 16) (v := f (259 + j)) (j) dX5_joinPair_66 (Nat.le_of_ble_eq_true rfl) rfl rfl rfl (by omega) cj ?_
    refine ae_iastore (pc := 67) (k := 3) (N := 16) (i) dX5_joinPair_67 (Nat.le_of_ble_eq_true rfl) rfl rfl rfl (by omega) rfl ?_
    refine ae_M (nwX3 M _) ?_
    refine ae_aload_n (pc := 68) dX5_joinPair_68 rfl ?_
    refine ae_getR (pc := 69) (k := 25) (c := 5) (j := 0) (q := 1) dX5_joinPair_69 rfl rfl (Nat.le_of_ble_eq_true rfl) rfl (Nat.le_of_ble_eq_true rfl) rfl ?_
    refine ae_getR (pc := 72) (k := 1) (c := 7) (j := 5) (q := 4) dX5_joinPair_72 rfl rfl (Nat.le_of_ble_eq_true rfl) rfl (Nat.le_of_ble_eq_true rfl) rfl ?_
    refine ae_aload_n (pc := 75) dX5_joinPair_75 rfl ?_
    refine ae_getI (pc := 76) (k := 25) (c := 5) (j := 3) (v := nI i) dX5_joinPair_76 rfl rfl (Or.inl rfl) (Nat.le_of_ble_eq_true rfl) rfl (Nat.le_of_ble_eq_true rfl) (by rw [nwM_ne _ _ _ _ _ _ (by omega)]; exact g3) ?_
    refine ae_iconst (pc := 79) (v := nI 1) dX5_joinPair_79 (by decide) ?_
    refine ae_bastore (pc := 80) (k := 4) (N := 16) (v := nI 1) (i) dX5_joinPair_80 (Nat.le_of_ble_eq_true rfl) rfl rfl rfl (by omega) (by decide) ?_
    refine ae_M (nwM_u4 _ _ _ _ _ _ _) ?_
    rw [nwM_4]
    refine ae_goto (pc := 81) (t := 143) dX5_joinPair_81 (by decide) ?_
    exact st
  · have z0 := j01.resolve_right hlj
    have same : mgC f i j = f (259 + i) → am_E none (am_R (d + 2)) cX5_joinPair 5 none (fun v M' => v = none ∧ NW M (mgS f i j) M') (143, [some (.ref 25)], [], M) := by
      intro eC
      have st := drop (M.1 3) (M.1 4) (fun e he => by
        rw [(U e he).1, (U e he).2]
        by_cases h : e = i
        · subst h
          rw [if_pos rfl, if_pos rfl, eC]
          refine ⟨ci, li.trans ?_⟩
          by_cases q : f (275 + e) = 1
          · rw [bI_t (Or.inl q)]; exact q
          · rw [bI_f (fun z => z.elim q hlj)]; exact i01.resolve_right q
        · rw [if_neg h, if_neg h]; exact hg.2.2.1 e he)
      rw [nwM_eta] at st
      exact st
    by_cases hli : f (275 + i) = 1
    · have st := same (by unfold mgC; rw [if_pos (Or.inl hli), if_pos hli])
      refine ae_aload_n (pc := 0) dX5_joinPair_0 rfl ?_
      refine ae_getR (pc := 1) (k := 25) (c := 5) (j := 0) (q := 1) dX5_joinPair_1 rfl rfl (Nat.le_of_ble_eq_true rfl) rfl (Nat.le_of_ble_eq_true rfl) rfl ?_
      refine ae_aload_n (pc := 4) dX5_joinPair_4 rfl ?_
      refine ae_getI (pc := 5) (k := 25) (c := 5) (j := 3) (v := nI i) dX5_joinPair_5 rfl rfl (Or.inl rfl) (Nat.le_of_ble_eq_true rfl) rfl (Nat.le_of_ble_eq_true rfl) g3 ?_
      refine ae_pcallV (pc := 8) (z := zX7_hasEntry) (k := 1) (As := [_]) dX5_joinPair_8 rfl rfl rfl rfl (Nat.le_of_ble_eq_true rfl) rfl (Nat.le_of_ble_eq_true rfl) (Nat.le_of_ble_eq_true rfl) (he1) ?_
      refine ae_if_eq (pc := 11) (t := 28) dX5_joinPair_11 (by decide) (fun c11 => ?_) (fun c11 => ?_)
      · exact absurd c11 (by decide)
      refine ae_aload_n (pc := 14) dX5_joinPair_14 rfl ?_
      refine ae_getR (pc := 15) (k := 25) (c := 5) (j := 0) (q := 1) dX5_joinPair_15 rfl rfl (Nat.le_of_ble_eq_true rfl) rfl (Nat.le_of_ble_eq_true rfl) rfl ?_
      refine ae_aload_n (pc := 18) dX5_joinPair_18 rfl ?_
      refine ae_getI (pc := 19) (k := 25) (c := 5) (j := 4) (v := nI j) dX5_joinPair_19 rfl rfl (Or.inl rfl) (Nat.le_of_ble_eq_true rfl) rfl (Nat.le_of_ble_eq_true rfl) g4 ?_
      refine ae_pcallV (pc := 22) (z := zX7_hasEntry) (k := 1) (As := [_]) dX5_joinPair_22 rfl rfl rfl rfl (Nat.le_of_ble_eq_true rfl) rfl (Nat.le_of_ble_eq_true rfl) (Nat.le_of_ble_eq_true rfl) (he2) ?_
      refine ae_if_ne (pc := 25) (t := 29) dX5_joinPair_25 (by decide) (fun c25 => ?_) (fun c25 => ?_)
      rotate_left
      · exact absurd (Classical.not_not.mp c25) (by decide)
      refine ae_aload_n (pc := 29) dX5_joinPair_29 rfl ?_
      refine ae_getR (pc := 30) (k := 25) (c := 5) (j := 0) (q := 1) dX5_joinPair_30 rfl rfl (Nat.le_of_ble_eq_true rfl) rfl (Nat.le_of_ble_eq_true rfl) rfl ?_
      refine ae_getR (pc := 33) (k := 1) (c := 7) (j := 5) (q := 4) dX5_joinPair_33 rfl rfl (Nat.le_of_ble_eq_true rfl) rfl (Nat.le_of_ble_eq_true rfl) rfl ?_
      refine ae_aload_n (pc := 36) dX5_joinPair_36 rfl ?_
      refine ae_getI (pc := 37) (k := 25) (c := 5) (j := 4) (v := nI j) dX5_joinPair_37 rfl rfl (Or.inl rfl) (Nat.le_of_ble_eq_true rfl) rfl (Nat.le_of_ble_eq_true rfl) g4 ?_
      refine ae_baload (pc := 40) (k := 4) (N := 16) (v := f (275 + j)) (j) dX5_joinPair_40 (Nat.le_of_ble_eq_true rfl) rfl rfl rfl (by omega) lj ?_
      refine ae_if_eq (pc := 41) (t := 84) dX5_joinPair_41 (by decide) (fun c41 => ?_) (fun c41 => ?_)
      rotate_left
      · exact absurd z0 c41
      refine ae_aload_n (pc := 84) dX5_joinPair_84 rfl ?_
      refine ae_getR (pc := 85) (k := 25) (c := 5) (j := 0) (q := 1) dX5_joinPair_85 rfl rfl (Nat.le_of_ble_eq_true rfl) rfl (Nat.le_of_ble_eq_true rfl) rfl ?_
      refine ae_getR (pc := 88) (k := 1) (c := 7) (j := 5) (q := 4) dX5_joinPair_88 rfl rfl (Nat.le_of_ble_eq_true rfl) rfl (Nat.le_of_ble_eq_true rfl) rfl ?_
      refine ae_aload_n (pc := 91) dX5_joinPair_91 rfl ?_
      refine ae_getI (pc := 92) (k := 25) (c := 5) (j := 3) (v := nI i) dX5_joinPair_92 rfl rfl (Or.inl rfl) (Nat.le_of_ble_eq_true rfl) rfl (Nat.le_of_ble_eq_true rfl) g3 ?_
      refine ae_baload (pc := 95) (k := 4) (N := 16) (v := f (275 + i)) (i) dX5_joinPair_95 (Nat.le_of_ble_eq_true rfl) rfl rfl rfl (by omega) li ?_
      refine ae_if_ne (pc := 96) (t := 143) dX5_joinPair_96 (by decide) (fun c96 => ?_) (fun c96 => ?_)
      rotate_left
      · exact absurd (hli.symm.trans (Classical.not_not.mp c96)) (by decide)
      exact st
    · have y0 := i01.resolve_right hli
      have hno : ¬ (f (275 + i) = 1 ∨ f (275 + j) = 1) := fun z => z.elim hli hlj
      by_cases hsum : 0 < svA f i + svA f j
      · have eC : mgC f i j = mgM (nI (svA f i)) (nI (svA f j)) (f (259 + i)) (f (259 + j)) 3 := by unfold mgC; rw [if_neg hno, if_pos hsum]
        have hmx := sc_mixedColor d M f hg hf hs i j hi2 hj g3 g4 hsum
        rw [← eC] at hmx
        have st := drop (upd (M.1 3) i (mgC f i j)) (M.1 4) (fun e he => by
          rw [(U e he).1, (U e he).2]
          by_cases h : e = i
          · subst h; rw [upd_self, if_pos rfl, if_pos rfl, bI_f hno]; exact ⟨rfl, li.trans y0⟩
          · rw [upd_ne _ _ h, if_neg h, if_neg h]; exact hg.2.2.1 e he)
        refine ae_aload_n (pc := 0) dX5_joinPair_0 rfl ?_
        refine ae_getR (pc := 1) (k := 25) (c := 5) (j := 0) (q := 1) dX5_joinPair_1 rfl rfl (Nat.le_of_ble_eq_true rfl) rfl (Nat.le_of_ble_eq_true rfl) rfl ?_
        refine ae_aload_n (pc := 4) dX5_joinPair_4 rfl ?_
        refine ae_getI (pc := 5) (k := 25) (c := 5) (j := 3) (v := nI i) dX5_joinPair_5 rfl rfl (Or.inl rfl) (Nat.le_of_ble_eq_true rfl) rfl (Nat.le_of_ble_eq_true rfl) g3 ?_
        refine ae_pcallV (pc := 8) (z := zX7_hasEntry) (k := 1) (As := [_]) dX5_joinPair_8 rfl rfl rfl rfl (Nat.le_of_ble_eq_true rfl) rfl (Nat.le_of_ble_eq_true rfl) (Nat.le_of_ble_eq_true rfl) (he1) ?_
        refine ae_if_eq (pc := 11) (t := 28) dX5_joinPair_11 (by decide) (fun c11 => ?_) (fun c11 => ?_)
        · exact absurd c11 (by decide)
        refine ae_aload_n (pc := 14) dX5_joinPair_14 rfl ?_
        refine ae_getR (pc := 15) (k := 25) (c := 5) (j := 0) (q := 1) dX5_joinPair_15 rfl rfl (Nat.le_of_ble_eq_true rfl) rfl (Nat.le_of_ble_eq_true rfl) rfl ?_
        refine ae_aload_n (pc := 18) dX5_joinPair_18 rfl ?_
        refine ae_getI (pc := 19) (k := 25) (c := 5) (j := 4) (v := nI j) dX5_joinPair_19 rfl rfl (Or.inl rfl) (Nat.le_of_ble_eq_true rfl) rfl (Nat.le_of_ble_eq_true rfl) g4 ?_
        refine ae_pcallV (pc := 22) (z := zX7_hasEntry) (k := 1) (As := [_]) dX5_joinPair_22 rfl rfl rfl rfl (Nat.le_of_ble_eq_true rfl) rfl (Nat.le_of_ble_eq_true rfl) (Nat.le_of_ble_eq_true rfl) (he2) ?_
        refine ae_if_ne (pc := 25) (t := 29) dX5_joinPair_25 (by decide) (fun c25 => ?_) (fun c25 => ?_)
        rotate_left
        · exact absurd (Classical.not_not.mp c25) (by decide)
        refine ae_aload_n (pc := 29) dX5_joinPair_29 rfl ?_
        refine ae_getR (pc := 30) (k := 25) (c := 5) (j := 0) (q := 1) dX5_joinPair_30 rfl rfl (Nat.le_of_ble_eq_true rfl) rfl (Nat.le_of_ble_eq_true rfl) rfl ?_
        refine ae_getR (pc := 33) (k := 1) (c := 7) (j := 5) (q := 4) dX5_joinPair_33 rfl rfl (Nat.le_of_ble_eq_true rfl) rfl (Nat.le_of_ble_eq_true rfl) rfl ?_
        refine ae_aload_n (pc := 36) dX5_joinPair_36 rfl ?_
        refine ae_getI (pc := 37) (k := 25) (c := 5) (j := 4) (v := nI j) dX5_joinPair_37 rfl rfl (Or.inl rfl) (Nat.le_of_ble_eq_true rfl) rfl (Nat.le_of_ble_eq_true rfl) g4 ?_
        refine ae_baload (pc := 40) (k := 4) (N := 16) (v := f (275 + j)) (j) dX5_joinPair_40 (Nat.le_of_ble_eq_true rfl) rfl rfl rfl (by omega) lj ?_
        refine ae_if_eq (pc := 41) (t := 84) dX5_joinPair_41 (by decide) (fun c41 => ?_) (fun c41 => ?_)
        rotate_left
        · exact absurd z0 c41
        refine ae_aload_n (pc := 84) dX5_joinPair_84 rfl ?_
        refine ae_getR (pc := 85) (k := 25) (c := 5) (j := 0) (q := 1) dX5_joinPair_85 rfl rfl (Nat.le_of_ble_eq_true rfl) rfl (Nat.le_of_ble_eq_true rfl) rfl ?_
        refine ae_getR (pc := 88) (k := 1) (c := 7) (j := 5) (q := 4) dX5_joinPair_88 rfl rfl (Nat.le_of_ble_eq_true rfl) rfl (Nat.le_of_ble_eq_true rfl) rfl ?_
        refine ae_aload_n (pc := 91) dX5_joinPair_91 rfl ?_
        refine ae_getI (pc := 92) (k := 25) (c := 5) (j := 3) (v := nI i) dX5_joinPair_92 rfl rfl (Or.inl rfl) (Nat.le_of_ble_eq_true rfl) rfl (Nat.le_of_ble_eq_true rfl) g3 ?_
        refine ae_baload (pc := 95) (k := 4) (N := 16) (v := f (275 + i)) (i) dX5_joinPair_95 (Nat.le_of_ble_eq_true rfl) rfl rfl rfl (by omega) li ?_
        refine ae_if_ne (pc := 96) (t := 143) dX5_joinPair_96 (by decide) (fun c96 => ?_) (fun c96 => ?_)
        · exact absurd y0 c96
        refine ae_aload_n (pc := 99) dX5_joinPair_99 rfl ?_
        refine ae_getR (pc := 100) (k := 25) (c := 5) (j := 1) (q := 16) dX5_joinPair_100 rfl rfl (Nat.le_of_ble_eq_true rfl) rfl (Nat.le_of_ble_eq_true rfl) rfl ?_
        refine ae_getR (pc := 103) (k := 16) (c := 8) (j := 3) (q := 19) dX5_joinPair_103 rfl rfl (Nat.le_of_ble_eq_true rfl) rfl (Nat.le_of_ble_eq_true rfl) rfl ?_
        refine ae_aload_n (pc := 106) dX5_joinPair_106 rfl ?_
        refine ae_getI (pc := 107) (k := 25) (c := 5) (j := 3) (v := nI i) dX5_joinPair_107 rfl rfl (Or.inl rfl) (Nat.le_of_ble_eq_true rfl) rfl (Nat.le_of_ble_eq_true rfl) g3 ?_
        refine ae_iaload (pc := 110) (k := 19) (N := 16) (v := nI (svA f i)) (i) dX5_joinPair_110 (Nat.le_of_ble_eq_true rfl) rfl rfl rfl (by omega) (hs i (by omega)) ?_
        refine ae_aload_n (pc := 111) dX5_joinPair_111 rfl ?_
        refine ae_getR (pc := 112) (k := 25) (c := 5) (j := 1) (q := 16) dX5_joinPair_112 rfl rfl (Nat.le_of_ble_eq_true rfl) rfl (Nat.le_of_ble_eq_true rfl) rfl ?_
        refine ae_getR (pc := 115) (k := 16) (c := 8) (j := 3) (q := 19) dX5_joinPair_115 rfl rfl (Nat.le_of_ble_eq_true rfl) rfl (Nat.le_of_ble_eq_true rfl) rfl ?_
        refine ae_aload_n (pc := 118) dX5_joinPair_118 rfl ?_
        refine ae_getI (pc := 119) (k := 25) (c := 5) (j := 4) (v := nI j) dX5_joinPair_119 rfl rfl (Or.inl rfl) (Nat.le_of_ble_eq_true rfl) rfl (Nat.le_of_ble_eq_true rfl) g4 ?_
        refine ae_iaload (pc := 122) (k := 19) (N := 16) (v := nI (svA f j)) (j) dX5_joinPair_122 (Nat.le_of_ble_eq_true rfl) rfl rfl rfl (by omega) (hs j (by omega)) ?_
        refine ae_iadd (pc := 123) (v := nI (svA f i + svA f j)) dX5_joinPair_123 (nI_add _ _) ?_
        refine ae_if_le (pc := 124) (t := 143) dX5_joinPair_124 (by decide) (fun c124 => ?_) (fun c124 => ?_)
        · exact absurd c124 (by rw [show (0 : Int32) = nI 0 from rfl, nI_leI (by omega) (by omega)]; omega)
        refine ae_aload_n (pc := 127) dX5_joinPair_127 rfl ?_
        refine ae_getR (pc := 128) (k := 25) (c := 5) (j := 0) (q := 1) dX5_joinPair_128 rfl rfl (Nat.le_of_ble_eq_true rfl) rfl (Nat.le_of_ble_eq_true rfl) rfl ?_
        refine ae_getR (pc := 131) (k := 1) (c := 7) (j := 4) (q := 3) dX5_joinPair_131 rfl rfl (Nat.le_of_ble_eq_true rfl) rfl (Nat.le_of_ble_eq_true rfl) rfl ?_
        refine ae_aload_n (pc := 134) dX5_joinPair_134 rfl ?_
        refine ae_getI (pc := 135) (k := 25) (c := 5) (j := 3) (v := nI i) dX5_joinPair_135 rfl rfl (Or.inl rfl) (Nat.le_of_ble_eq_true rfl) rfl (Nat.le_of_ble_eq_true rfl) g3 ?_
        refine ae_aload_n (pc := 138) dX5_joinPair_138 rfl ?_
        refine ae_pcallV (pc := 139) (z := zX5_mixedColor) (k := 25) (As := []) dX5_joinPair_139 rfl rfl rfl rfl (Nat.le_of_ble_eq_true rfl) rfl (Nat.le_of_ble_eq_true rfl) (Nat.le_of_ble_eq_true rfl) (hmx) ?_
        refine ae_iastore (pc := 142) (k := 3) (N := 16) (i) dX5_joinPair_142 (Nat.le_of_ble_eq_true rfl) rfl rfl rfl (by omega) rfl ?_
        refine ae_M (nwX3 M _) ?_
        exact st
      · have st := same (by unfold mgC; rw [if_neg hno, if_neg hsum])
        refine ae_aload_n (pc := 0) dX5_joinPair_0 rfl ?_
        refine ae_getR (pc := 1) (k := 25) (c := 5) (j := 0) (q := 1) dX5_joinPair_1 rfl rfl (Nat.le_of_ble_eq_true rfl) rfl (Nat.le_of_ble_eq_true rfl) rfl ?_
        refine ae_aload_n (pc := 4) dX5_joinPair_4 rfl ?_
        refine ae_getI (pc := 5) (k := 25) (c := 5) (j := 3) (v := nI i) dX5_joinPair_5 rfl rfl (Or.inl rfl) (Nat.le_of_ble_eq_true rfl) rfl (Nat.le_of_ble_eq_true rfl) g3 ?_
        refine ae_pcallV (pc := 8) (z := zX7_hasEntry) (k := 1) (As := [_]) dX5_joinPair_8 rfl rfl rfl rfl (Nat.le_of_ble_eq_true rfl) rfl (Nat.le_of_ble_eq_true rfl) (Nat.le_of_ble_eq_true rfl) (he1) ?_
        refine ae_if_eq (pc := 11) (t := 28) dX5_joinPair_11 (by decide) (fun c11 => ?_) (fun c11 => ?_)
        · exact absurd c11 (by decide)
        refine ae_aload_n (pc := 14) dX5_joinPair_14 rfl ?_
        refine ae_getR (pc := 15) (k := 25) (c := 5) (j := 0) (q := 1) dX5_joinPair_15 rfl rfl (Nat.le_of_ble_eq_true rfl) rfl (Nat.le_of_ble_eq_true rfl) rfl ?_
        refine ae_aload_n (pc := 18) dX5_joinPair_18 rfl ?_
        refine ae_getI (pc := 19) (k := 25) (c := 5) (j := 4) (v := nI j) dX5_joinPair_19 rfl rfl (Or.inl rfl) (Nat.le_of_ble_eq_true rfl) rfl (Nat.le_of_ble_eq_true rfl) g4 ?_
        refine ae_pcallV (pc := 22) (z := zX7_hasEntry) (k := 1) (As := [_]) dX5_joinPair_22 rfl rfl rfl rfl (Nat.le_of_ble_eq_true rfl) rfl (Nat.le_of_ble_eq_true rfl) (Nat.le_of_ble_eq_true rfl) (he2) ?_
        refine ae_if_ne (pc := 25) (t := 29) dX5_joinPair_25 (by decide) (fun c25 => ?_) (fun c25 => ?_)
        rotate_left
        · exact absurd (Classical.not_not.mp c25) (by decide)
        refine ae_aload_n (pc := 29) dX5_joinPair_29 rfl ?_
        refine ae_getR (pc := 30) (k := 25) (c := 5) (j := 0) (q := 1) dX5_joinPair_30 rfl rfl (Nat.le_of_ble_eq_true rfl) rfl (Nat.le_of_ble_eq_true rfl) rfl ?_
        refine ae_getR (pc := 33) (k := 1) (c := 7) (j := 5) (q := 4) dX5_joinPair_33 rfl rfl (Nat.le_of_ble_eq_true rfl) rfl (Nat.le_of_ble_eq_true rfl) rfl ?_
        refine ae_aload_n (pc := 36) dX5_joinPair_36 rfl ?_
        refine ae_getI (pc := 37) (k := 25) (c := 5) (j := 4) (v := nI j) dX5_joinPair_37 rfl rfl (Or.inl rfl) (Nat.le_of_ble_eq_true rfl) rfl (Nat.le_of_ble_eq_true rfl) g4 ?_
        refine ae_baload (pc := 40) (k := 4) (N := 16) (v := f (275 + j)) (j) dX5_joinPair_40 (Nat.le_of_ble_eq_true rfl) rfl rfl rfl (by omega) lj ?_
        refine ae_if_eq (pc := 41) (t := 84) dX5_joinPair_41 (by decide) (fun c41 => ?_) (fun c41 => ?_)
        rotate_left
        · exact absurd z0 c41
        refine ae_aload_n (pc := 84) dX5_joinPair_84 rfl ?_
        refine ae_getR (pc := 85) (k := 25) (c := 5) (j := 0) (q := 1) dX5_joinPair_85 rfl rfl (Nat.le_of_ble_eq_true rfl) rfl (Nat.le_of_ble_eq_true rfl) rfl ?_
        refine ae_getR (pc := 88) (k := 1) (c := 7) (j := 5) (q := 4) dX5_joinPair_88 rfl rfl (Nat.le_of_ble_eq_true rfl) rfl (Nat.le_of_ble_eq_true rfl) rfl ?_
        refine ae_aload_n (pc := 91) dX5_joinPair_91 rfl ?_
        refine ae_getI (pc := 92) (k := 25) (c := 5) (j := 3) (v := nI i) dX5_joinPair_92 rfl rfl (Or.inl rfl) (Nat.le_of_ble_eq_true rfl) rfl (Nat.le_of_ble_eq_true rfl) g3 ?_
        refine ae_baload (pc := 95) (k := 4) (N := 16) (v := f (275 + i)) (i) dX5_joinPair_95 (Nat.le_of_ble_eq_true rfl) rfl rfl rfl (by omega) li ?_
        refine ae_if_ne (pc := 96) (t := 143) dX5_joinPair_96 (by decide) (fun c96 => ?_) (fun c96 => ?_)
        · exact absurd y0 c96
        refine ae_aload_n (pc := 99) dX5_joinPair_99 rfl ?_
        refine ae_getR (pc := 100) (k := 25) (c := 5) (j := 1) (q := 16) dX5_joinPair_100 rfl rfl (Nat.le_of_ble_eq_true rfl) rfl (Nat.le_of_ble_eq_true rfl) rfl ?_
        refine ae_getR (pc := 103) (k := 16) (c := 8) (j := 3) (q := 19) dX5_joinPair_103 rfl rfl (Nat.le_of_ble_eq_true rfl) rfl (Nat.le_of_ble_eq_true rfl) rfl ?_
        refine ae_aload_n (pc := 106) dX5_joinPair_106 rfl ?_
        refine ae_getI (pc := 107) (k := 25) (c := 5) (j := 3) (v := nI i) dX5_joinPair_107 rfl rfl (Or.inl rfl) (Nat.le_of_ble_eq_true rfl) rfl (Nat.le_of_ble_eq_true rfl) g3 ?_
        refine ae_iaload (pc := 110) (k := 19) (N := 16) (v := nI (svA f i)) (i) dX5_joinPair_110 (Nat.le_of_ble_eq_true rfl) rfl rfl rfl (by omega) (hs i (by omega)) ?_
        refine ae_aload_n (pc := 111) dX5_joinPair_111 rfl ?_
        refine ae_getR (pc := 112) (k := 25) (c := 5) (j := 1) (q := 16) dX5_joinPair_112 rfl rfl (Nat.le_of_ble_eq_true rfl) rfl (Nat.le_of_ble_eq_true rfl) rfl ?_
        refine ae_getR (pc := 115) (k := 16) (c := 8) (j := 3) (q := 19) dX5_joinPair_115 rfl rfl (Nat.le_of_ble_eq_true rfl) rfl (Nat.le_of_ble_eq_true rfl) rfl ?_
        refine ae_aload_n (pc := 118) dX5_joinPair_118 rfl ?_
        refine ae_getI (pc := 119) (k := 25) (c := 5) (j := 4) (v := nI j) dX5_joinPair_119 rfl rfl (Or.inl rfl) (Nat.le_of_ble_eq_true rfl) rfl (Nat.le_of_ble_eq_true rfl) g4 ?_
        refine ae_iaload (pc := 122) (k := 19) (N := 16) (v := nI (svA f j)) (j) dX5_joinPair_122 (Nat.le_of_ble_eq_true rfl) rfl rfl rfl (by omega) (hs j (by omega)) ?_
        refine ae_iadd (pc := 123) (v := nI (svA f i + svA f j)) dX5_joinPair_123 (nI_add _ _) ?_
        refine ae_if_le (pc := 124) (t := 143) dX5_joinPair_124 (by decide) (fun c124 => ?_) (fun c124 => ?_)
        · exact st
        · exact absurd (by rw [show (0 : Int32) = nI 0 from rfl, nI_leI (by omega) (by omega)]; omega) c124
theorem sc_mergeDownTo (d : Nat) (M0 : am_M) (f0 : fT) (hg0 : AG M0 f0) (hf0 : wf f0) (hm0 : f0 292 = 0) (n : Nat) (hn : n ≤ 16) : am_R (d + 4) zX5_mergeDownTo [.ref 25, .int (nI n)] M0 (fun v M' => v = none ∧ AG M' (mgW n 16 f0) ∧ wf (mgW n 16 f0) ∧ FR M0 M') := by
  refine ae_enter (z := zX5_mergeDownTo) (y := yX5_mergeDownTo) (cc := cX5_mergeDownTo) (mL := 3) (rt := none) (ci := 5) (st := false) (np := 1) (L := [some (.ref 25), some (.int (nI n)), none]) rfl (by decide) (Nat.le_of_ble_eq_true rfl) rfl ?_
  have lp : ∀ m, m ≤ 16 → ∀ (M : am_M) (f : fT), AG M f → wf f → f 292 = 0 → FR M0 M → am_E none (am_R (d + 3)) cX5_mergeDownTo 5 none (fun v M' => v = none ∧ AG M' (mgW n m f) ∧ wf (mgW n m f) ∧ FR M0 M') (2, [some (.ref 25), some (.int (nI n)), some (.int (nI (16 - m)))], [], M) := by
    intro m
    induction m with
    | zero =>
      intro _ M f hg hf h0 hfr
      refine ae_iload_n (pc := 2) dX5_mergeDownTo_2 rfl ?_
      refine ae_bipush (pc := 3) (v := nI 16) dX5_mergeDownTo_3 (by decide) ?_
      refine ae_icmp_ge (pc := 5) (t := 44) dX5_mergeDownTo_5 (by decide) (fun c5 => ?_) (fun c5 => ?_)
      rotate_left
      · exact absurd ((nI_leI (by omega) (by omega)).mpr (by omega)) c5
      refine ae_return (pc := 44) dX5_mergeDownTo_44 rfl ?_
      exact ⟨rfl, hg, hf, hfr⟩
    | succ m ih =>
      intro hm M f hg hf h0 hfr
      have hN := hf.1.2.2.2
      obtain ⟨-, -, a3⟩ := AG_w hg hf.1
      by_cases hle : fN f ≤ n
      · have e : mgW n (m + 1) f = f := by rw [mgW, if_pos hle]
        rw [e]
        refine ae_iload_n (pc := 2) dX5_mergeDownTo_2 rfl ?_
        refine ae_bipush (pc := 3) (v := nI 16) dX5_mergeDownTo_3 (by decide) ?_
        refine ae_icmp_ge (pc := 5) (t := 44) dX5_mergeDownTo_5 (by decide) (fun c5 => ?_) (fun c5 => ?_)
        · refine ae_return (pc := 44) dX5_mergeDownTo_44 rfl ?_
          exact ⟨rfl, hg, hf, hfr⟩
        · refine ae_aload_n (pc := 8) dX5_mergeDownTo_8 rfl ?_
          refine ae_getR (pc := 9) (k := 25) (c := 5) (j := 0) (q := 1) dX5_mergeDownTo_9 rfl rfl (Nat.le_of_ble_eq_true rfl) rfl (Nat.le_of_ble_eq_true rfl) rfl ?_
          refine ae_getI (pc := 12) (k := 1) (c := 7) (j := 3) (v := nI (fN f)) dX5_mergeDownTo_12 rfl rfl (Or.inl rfl) (Nat.le_of_ble_eq_true rfl) rfl (Nat.le_of_ble_eq_true rfl) a3 ?_
          refine ae_iload_n (pc := 15) dX5_mergeDownTo_15 rfl ?_
          refine ae_icmp_le (pc := 16) (t := 44) dX5_mergeDownTo_16 (by decide) (fun c16 => ?_) (fun c16 => ?_)
          · refine ae_return (pc := 44) dX5_mergeDownTo_44 rfl ?_
            exact ⟨rfl, hg, hf, hfr⟩
          · exact absurd ((nI_leI (by omega) (by omega)).mpr hle) c16
      · have hts := sc_takeStock d M f hg hf
        refine ae_iload_n (pc := 2) dX5_mergeDownTo_2 rfl ?_
        refine ae_bipush (pc := 3) (v := nI 16) dX5_mergeDownTo_3 (by decide) ?_
        refine ae_icmp_ge (pc := 5) (t := 44) dX5_mergeDownTo_5 (by decide) (fun c5 => ?_) (fun c5 => ?_)
        · exact absurd ((nI_leI (by omega) (by omega)).mp c5) (by omega)
        refine ae_aload_n (pc := 8) dX5_mergeDownTo_8 rfl ?_
        refine ae_getR (pc := 9) (k := 25) (c := 5) (j := 0) (q := 1) dX5_mergeDownTo_9 rfl rfl (Nat.le_of_ble_eq_true rfl) rfl (Nat.le_of_ble_eq_true rfl) rfl ?_
        refine ae_getI (pc := 12) (k := 1) (c := 7) (j := 3) (v := nI (fN f)) dX5_mergeDownTo_12 rfl rfl (Or.inl rfl) (Nat.le_of_ble_eq_true rfl) rfl (Nat.le_of_ble_eq_true rfl) a3 ?_
        refine ae_iload_n (pc := 15) dX5_mergeDownTo_15 rfl ?_
        refine ae_icmp_le (pc := 16) (t := 44) dX5_mergeDownTo_16 (by decide) (fun c16 => ?_) (fun c16 => ?_)
        · exact absurd ((nI_leI (by omega) (by omega)).mp c16) hle
        refine ae_aload_n (pc := 19) dX5_mergeDownTo_19 rfl ?_
        refine ae_getR (pc := 20) (k := 25) (c := 5) (j := 1) (q := 16) dX5_mergeDownTo_20 rfl rfl (Nat.le_of_ble_eq_true rfl) rfl (Nat.le_of_ble_eq_true rfl) rfl ?_
        refine ae_callV (pc := 23) (z := zX8_takeStock) (k := 16) (As := []) dX5_mergeDownTo_23 rfl rfl rfl rfl (Nat.le_of_ble_eq_true rfl) rfl (Nat.le_of_ble_eq_true rfl) (Nat.le_of_ble_eq_true rfl) (hts) (fun v M' hq => ?_)
        obtain ⟨rfl, hsv⟩ := hq
        skip
        obtain ⟨hg1, fr1, -, -, sf⟩ := SV_of hg hsv
        clear hsv hts
        have h19 : ∀ e, e < 16 → M'.1 19 e = nI (svA f e) := fun e he => sf.2.2.1 e he
        have hfp := sc_findCheapestPair d M' f hg1 hf h19
        refine ae_aload_n (pc := 26) dX5_mergeDownTo_26 rfl ?_
        refine ae_callV (pc := 27) (z := zX5_findCheapestPair) (k := 25) (As := []) dX5_mergeDownTo_27 rfl rfl rfl rfl (Nat.le_of_ble_eq_true rfl) rfl (Nat.le_of_ble_eq_true rfl) (Nat.le_of_ble_eq_true rfl) hfp (fun v M2 hq => ?_)
        obtain ⟨b, x, g, rfl, rfl, hfc⟩ := hq
        have hg2 : AG (fpM M' g) f := AG_ne hg1 (fun k h1 h2 => fpM_ne _ _ (by omega))
        have fr2 : FR M' (fpM M' g) := fun k hk => fpM_ne _ _ (by omega)
        cases hx : mgI f (fN f) with
        | none =>
          rw [hx] at hfc
          have hb := hfc.1 rfl
          have e : mgW n (m + 1) f = f := by rw [mgW, if_neg hle, hx]
          rw [e]
          refine ae_if_ne (pc := 30) (t := 34) dX5_mergeDownTo_30 (by decide) (fun c30 => ?_) (fun c30 => ?_)
          · exact absurd hb c30
          · refine ae_return (pc := 33) dX5_mergeDownTo_33 rfl ?_
            exact ⟨rfl, hg2, hf, FR_tr (FR_tr hfr fr1) fr2⟩
        | some q =>
          rw [hx] at hfc
          obtain ⟨hb, -, q3, q4⟩ := hfc.2 q rfl
          obtain ⟨o1, o2, o3⟩ := mgI_ok (Nat.le_refl (fN f)) q hx
          have e : mgW n (m + 1) f = mgW n m (mgS f q.1 q.2) := by rw [mgW, if_neg hle, hx]
          rw [e]
          obtain ⟨ws, w0⟩ := wf_mgS hf h0 (i := q.1) (j := q.2) (by omega) o2
          have hjp := sc_joinPair d (fpM M' g) f hg2 hf (fun e he => by rw [fpM_ne _ _ (by decide)]; exact h19 e he) q.1 q.2 o1 o2 (by rw [fpM_25]; exact q3) (by rw [fpM_25]; exact q4) o3
          refine ae_if_ne (pc := 30) (t := 34) dX5_mergeDownTo_30 (by decide) (fun c30 => ?_) (fun c30 => ?_)
          rotate_left
          · exact absurd (hb.symm.trans (Classical.not_not.mp c30)) (by decide)
          refine ae_aload_n (pc := 34) dX5_mergeDownTo_34 rfl ?_
          refine ae_callV (pc := 35) (z := zX5_joinPair) (k := 25) (As := []) dX5_mergeDownTo_35 rfl rfl rfl rfl (Nat.le_of_ble_eq_true rfl) rfl (Nat.le_of_ble_eq_true rfl) (Nat.le_of_ble_eq_true rfl) (hjp) (fun v M' hq => ?_)
          obtain ⟨rfl, hnw⟩ := hq
          refine ae_iinc (pc := 38) (v := nI (16 - m)) dX5_mergeDownTo_38 rfl ((nI_inc (16 - (m + 1))).trans (congrArg nI (by omega))) ?_
          refine ae_goto (pc := 41) (t := 2) dX5_mergeDownTo_41 (by decide) ?_
          exact ih (by omega) _ _ (NW_AG hnw) ws w0 (FR_tr (FR_tr (FR_tr hfr fr1) fr2) (FR_NW hnw))
  have st := lp 16 (Nat.le_refl 16) M0 f0 hg0 hf0 hm0 (FR_refl M0)
  refine ae_iconst (pc := 0) (v := nI 0) dX5_mergeDownTo_0 (by decide) ?_
  refine ae_istore_n (pc := 1) dX5_mergeDownTo_1 rfl (Nat.le_of_ble_eq_true rfl) ?_
  exact st

