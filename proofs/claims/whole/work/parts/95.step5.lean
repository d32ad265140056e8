theorem st_noise (M : am_M) (hI : INV M) (x y : Int32) : STEP M zX10_noise [.ref 0, .int x, .int y] zX11_noise [.ref 33, .int x, .int y] := by
  obtain ⟨f, u, past, n, t, hC, hR⟩ := hI
  obtain ⟨hf, hg, hh, ht⟩ := id hC
  have hu := hh.1
  have hA := fA_le hf.1
  by_cases h : ¬ x < 0 ∧ nI 1 ≤ y ∧ y ≤ nI 64
  · have hw := sc_isWithin 6 y (nI 1) (nI 64) M
    rw [bI_t h.2] at hw
    obtain ⟨am, m1, m2, rfl⟩ := rng h.2 (by decide)
    have hx := nI_ge0 (Int32.not_lt.mp h.1)
    have hxl : x.toNatClampNeg < 2147483648 := by
      have := Int32.toInt_lt x
      unfold Int32.toNatClampNeg
      omega
    generalize x.toNatClampNeg = s at *
    subst hx
    obtain ⟨kw0, kw1, kw2, kw3⟩ := wf0_kp hf.1 1
    have kwA : fA (kpF f 1) = fA f := by unfold fA; rw [kw1, kw2]
    generalize hF : (nzA (kpF f 1) (nI am) (nI s).toInt64 (fA f)).2 = F
    refine comb (r := nI (opq F (fA f))) (f' := F) (u' := kpN u) (past' := kpP past f u) (n' := n) (t' := t) hR ?_ (fun M1 h1 => ?_)
    · refine ae_enter (z := zX10_noise) (y := yX10_noise) (cc := cX10_noise) (mL := 3) (rt := some .int) (ci := 10) (st := false) (np := 2) (L := [some (.ref 0), some (.int (nI s)), some (.int (nI am))]) rfl (by decide) (Nat.le_of_ble_eq_true rfl) rfl ?_
      refine ae_iload_n (pc := 0) dX10_noise_0 rfl ?_
      refine ae_if_lt (pc := 1) (t := 14) dX10_noise_1 (by decide) (fun c1 => ?_) (fun c1 => ?_)
      · exact absurd c1 h.1
      refine ae_iload_n (pc := 4) dX10_noise_4 rfl ?_
      refine ae_iconst (pc := 5) (v := nI 1) dX10_noise_5 (by decide) ?_
      refine ae_bipush (pc := 6) (v := nI 64) dX10_noise_6 (by decide) ?_
      refine ae_pcallS (pc := 8) (z := zX10_isWithin) (As := [_, _, _]) dX10_noise_8 rfl rfl rfl rfl (Nat.le_of_ble_eq_true rfl) (hw) ?_
      refine ae_if_ne (pc := 11) (t := 17) dX10_noise_11 (by decide) (fun c11 => ?_) (fun c11 => ?_)
      rotate_left
      · exact absurd (Classical.not_not.mp c11) (by decide)
      refine ae_aload_n (pc := 17) dX10_noise_17 rfl ?_
      refine ae_callV (pc := 18) (z := zX10_beginRemake) (k := 0) (As := []) dX10_noise_18 rfl rfl rfl rfl (Nat.le_of_ble_eq_true rfl) rfl (Nat.le_of_ble_eq_true rfl) (Nat.le_of_ble_eq_true rfl) (sc_beginRemake 4 M f hg hf u past hh) (fun v M' hq => ?_)
      obtain ⟨rfl, q1, q2, -, q4⟩ := hq
      obtain ⟨ck, rs⟩ := rmk_ck hC q1 q2 q4
      skip
      have hno := sc_addNoise 4 M' (kpF f 1) ck.2.1 ck.1 s am hxl ⟨m1, m2⟩
      rw [kwA, hF] at hno
      refine ae_aload_n (pc := 21) dX10_noise_21 rfl ?_
      refine ae_getR (pc := 22) (k := 0) (c := 10) (j := 0) (q := 1) dX10_noise_22 rfl rfl (Nat.le_of_ble_eq_true rfl) rfl (Nat.le_of_ble_eq_true rfl) rfl ?_
      refine ae_iload_n (pc := 25) dX10_noise_25 rfl ?_
      refine ae_iload_n (pc := 26) dX10_noise_26 rfl ?_
      refine ae_callV (pc := 27) (z := zX7_addNoise) (k := 1) (As := [_, _]) dX10_noise_27 rfl rfl rfl rfl (Nat.le_of_ble_eq_true rfl) rfl (Nat.le_of_ble_eq_true rfl) (Nat.le_of_ble_eq_true rfl) hno (fun v M2 hq => ?_)
      obtain ⟨rfl, p', rfl, hp'⟩ := hq
      have fin := ck_px ck (kp292 f) (g := F) rfl (fun j hj => by rw [← hF]; exact nzA_out _ _ _ _ _ (by omega)) (p' := p') (fun q hq => hp' q (by rw [← kwA]; exact hq)) (fun q hq => by rw [← hF]; exact nzA_v _ _ _ (by rw [← kwA]; exact hq))
      have eF : fA F = fA f := by
        have e : ∀ j, j < 2 → F j = kpF f 1 j := fun j hj => by rw [← hF]; exact nzA_out _ _ _ _ _ (by omega)
        rw [← kwA]
        unfold fA fW fH
        rw [e 0 (by omega), e 1 (by omega)]
      have hop := sc_opaquePixels 5 _ F fin.2.1 fin.1.1
      rw [eF] at hop
      refine ae_aload_n (pc := 30) dX10_noise_30 rfl ?_
      refine ae_getR (pc := 31) (k := 0) (c := 10) (j := 0) (q := 1) dX10_noise_31 rfl rfl (Nat.le_of_ble_eq_true rfl) rfl (Nat.le_of_ble_eq_true rfl) rfl ?_
      refine ae_pcallV (pc := 34) (z := zX7_opaquePixels) (k := 1) (As := []) dX10_noise_34 rfl rfl rfl rfl (Nat.le_of_ble_eq_true rfl) rfl (Nat.le_of_ble_eq_true rfl) (Nat.le_of_ble_eq_true rfl) (hop) ?_
      refine ae_ireturn (pc := 37) dX10_noise_37 rfl ?_
      exact ⟨rfl, fin, fun k p q => (am_u_ne M'.1 _ (by omega)).trans (rs k p q)⟩
    · have := sm_noise 5 M1 (by rw [h1.1]; exact hf.1) u h1.2.1 hu (nI s) am h.1 ⟨m1, m2⟩
      rw [h1.1, hF] at this
      refine this.mono (fun v M2 q => ?_)
      obtain ⟨q1, rfl⟩ := q
      exact ⟨q1, RI_kp h1 1 _⟩
  · refine stepR (r := -2) hC hR ?_ (fun M1 h1 => roM (sm_noise0 5 M1 x y h))
    refine ae_enter (z := zX10_noise) (y := yX10_noise) (cc := cX10_noise) (mL := 3) (rt := some .int) (ci := 10) (st := false) (np := 2) (L := [some (.ref 0), some (.int x), some (.int y)]) rfl (by decide) (Nat.le_of_ble_eq_true rfl) rfl ?_
    refine ae_iload_n (pc := 0) dX10_noise_0 rfl ?_
    refine ae_if_lt (pc := 1) (t := 14) dX10_noise_1 (by decide) (fun c1 => ?_) (fun c1 => ?_)
    · refine ae_bipush (pc := 14) (v := (-2)) dX10_noise_14 (by decide) ?_
      refine ae_ireturn (pc := 16) dX10_noise_16 rfl ?_
      exact ⟨rfl, hg, FR_refl M⟩
    · refine ae_iload_n (pc := 4) dX10_noise_4 rfl ?_
      refine ae_iconst (pc := 5) (v := nI 1) dX10_noise_5 (by decide) ?_
      refine ae_bipush (pc := 6) (v := nI 64) dX10_noise_6 (by decide) ?_
      refine ae_pcallS (pc := 8) (z := zX10_isWithin) (As := [_, _, _]) dX10_noise_8 rfl rfl rfl rfl (Nat.le_of_ble_eq_true rfl) (sc_isWithin 6 _ _ _ _) ?_
      refine ae_if_ne (pc := 11) (t := 17) dX10_noise_11 (by decide) (fun c11 => ?_) (fun c11 => ?_)
      · exact (h ⟨c1, bI_ne0.mp c11⟩).elim
      · refine ae_bipush (pc := 14) (v := (-2)) dX10_noise_14 (by decide) ?_
        refine ae_ireturn (pc := 16) dX10_noise_16 rfl ?_
        exact ⟨rfl, hg, FR_refl M⟩
theorem st_add (M : am_M) (hI : INV M) (x l : Int32) (hl : l = 0 ∨ l = 1) : STEP M zX10_add [.ref 0, .int x, .int l] zX11_add [.ref 33, .int x, .int l] := by
  obtain ⟨f, u, past, n, t, hC, hR⟩ := hI
  obtain ⟨hf, hg, hh, ht⟩ := id hC
  have hu := hh.1
  have hN := hf.1.2.2.2
  obtain ⟨-, -, a3⟩ := AG_w hg hf.1
  have hbl : bI (l ≠ 0) = l := by rcases hl with q | q <;> subst q <;> decide
  by_cases h : 0 ≤ x ∧ x ≤ 16777215
  · by_cases hn : fN f < 16
    · obtain ⟨kw0, kw1, kw2, kw3⟩ := wf0_kp hf.1 1
      refine comb (r := nI (fN f)) (f' := adF (kpF f 1) x l) (u' := kpN u) (past' := kpP past f u) (n' := n) (t' := t) hR ?_ (fun M1 h1 => ?_)
      · refine ae_enter (z := zX10_add) (y := yX10_add) (cc := cX10_add) (mL := 3) (rt := some .int) (ci := 10) (st := false) (np := 2) (L := [some (.ref 0), some (.int x), some (.int l)]) rfl (by decide) (Nat.le_of_ble_eq_true rfl) rfl ?_
        refine ae_iload_n (pc := 0) dX10_add_0 rfl ?_
        refine ae_pcallS (pc := 1) (z := zX10_isColor) (As := [_]) dX10_add_1 rfl rfl rfl rfl (Nat.le_of_ble_eq_true rfl) (sc_isColor 5 _ _) ?_
        refine ae_if_ne (pc := 4) (t := 10) dX10_add_4 (by decide) (fun c4 => ?_) (fun c4 => ?_)
        rotate_left
        · exact absurd h (bI_eq0.mp (Classical.not_not.mp c4))
        refine ae_aload_n (pc := 10) dX10_add_10 rfl ?_
        refine ae_getR (pc := 11) (k := 0) (c := 10) (j := 0) (q := 1) dX10_add_11 rfl rfl (Nat.le_of_ble_eq_true rfl) rfl (Nat.le_of_ble_eq_true rfl) rfl ?_
        refine ae_getI (pc := 14) (k := 1) (c := 7) (j := 3) (v := nI (fN f)) dX10_add_14 rfl rfl (Or.inl rfl) (Nat.le_of_ble_eq_true rfl) rfl (Nat.le_of_ble_eq_true rfl) a3 ?_
        refine ae_bipush (pc := 17) (v := nI 16) dX10_add_17 (by decide) ?_
        refine ae_icmp_lt (pc := 19) (t := 25) dX10_add_19 (by decide) (fun c19 => ?_) (fun c19 => ?_)
        rotate_left
        · exact absurd ((nI_ltI (by omega) (by omega)).mpr hn) c19
        refine ae_aload_n (pc := 25) dX10_add_25 rfl ?_
        refine ae_callV (pc := 26) (z := zX10_beginRemake) (k := 0) (As := []) dX10_add_26 rfl rfl rfl rfl (Nat.le_of_ble_eq_true rfl) rfl (Nat.le_of_ble_eq_true rfl) (Nat.le_of_ble_eq_true rfl) (sc_beginRemake 4 M f hg hf u past hh) (fun v M' hq => ?_)
        obtain ⟨rfl, q1, q2, -, q4⟩ := hq
        obtain ⟨ck, rs⟩ := rmk_ck hC q1 q2 q4
        skip
        obtain ⟨-, -, b3⟩ := AG_w ck.2.1 ck.1.1
        rw [kw3] at b3
        have hap := sc_append 6 M' (fN f) b3 hn x l
        have ag : AG (apM M' (fN f) x l) (adF (kpF f 1) x l) := by
          unfold apM
          rw [nar01 hl]
          have := agS_ad ck.1.1 ck.2.1 (by rw [kw3]; exact hn) x l
          rw [kw3] at this
          exact AG_nw this
        have wf' : wf (adF (kpF f 1) x l) := wf_ad ck.1 (by rw [kw3]; exact hn) (kp292 f) (okc_of h) hl
        have fr : FR M' (apM M' (fN f) x l) := fun q hq => apM_ne _ _ _ _ (by omega)
        refine ae_aload_n (pc := 29) dX10_add_29 rfl ?_
        refine ae_getR (pc := 30) (k := 0) (c := 10) (j := 0) (q := 1) dX10_add_30 rfl rfl (Nat.le_of_ble_eq_true rfl) rfl (Nat.le_of_ble_eq_true rfl) rfl ?_
        refine ae_iload_n (pc := 33) dX10_add_33 rfl ?_
        refine ae_iload_n (pc := 34) dX10_add_34 rfl ?_
        refine ae_callV (pc := 35) (z := zX7_append) (k := 1) (As := [_, _]) dX10_add_35 rfl rfl rfl rfl (Nat.le_of_ble_eq_true rfl) rfl (Nat.le_of_ble_eq_true rfl) (Nat.le_of_ble_eq_true rfl) (hap) (fun v M' hq => ?_)
        obtain ⟨rfl, rfl⟩ := hq
        refine ae_aload_n (pc := 38) dX10_add_38 rfl ?_
        refine ae_getR (pc := 39) (k := 0) (c := 10) (j := 0) (q := 1) dX10_add_39 rfl rfl (Nat.le_of_ble_eq_true rfl) rfl (Nat.le_of_ble_eq_true rfl) rfl ?_
        refine ae_getI (pc := 42) (k := 1) (c := 7) (j := 3) (v := nI (fN f + 1)) dX10_add_42 rfl rfl (Or.inl rfl) (Nat.le_of_ble_eq_true rfl) rfl (Nat.le_of_ble_eq_true rfl) (by unfold apM; rw [nwM_1, upd_self]) ?_
        refine ae_iconst (pc := 45) (v := nI 1) dX10_add_45 (by decide) ?_
        refine ae_isub (pc := 46) (v := nI (fN f)) dX10_add_46 (nI_sub (by omega)) ?_
        refine ae_ireturn (pc := 47) dX10_add_47 rfl ?_
        exact ⟨rfl, CK_FR ck ag wf' fr, fun k p q => (fr k (by omega)).trans (rs k p q)⟩
      · have := sm_add 5 M1 (by rw [h1.1]; exact hf.1) u h1.2.1 hu x l h (by rw [h1.1]; exact hn)
        rw [h1.1, hbl] at this
        refine this.mono (fun v M2 q => ?_)
        obtain ⟨q1, rfl⟩ := q
        exact ⟨q1, RI_kp h1 1 _⟩
    · refine stepR (r := -4) hC hR ?_ (fun M1 h1 => roM (sm_addF 5 M1 (by rw [h1.1]; exact hf.1) x l h (by rw [h1.1]; omega)))
      refine ae_enter (z := zX10_add) (y := yX10_add) (cc := cX10_add) (mL := 3) (rt := some .int) (ci := 10) (st := false) (np := 2) (L := [some (.ref 0), some (.int x), some (.int l)]) rfl (by decide) (Nat.le_of_ble_eq_true rfl) rfl ?_
      refine ae_iload_n (pc := 0) dX10_add_0 rfl ?_
      refine ae_pcallS (pc := 1) (z := zX10_isColor) (As := [_]) dX10_add_1 rfl rfl rfl rfl (Nat.le_of_ble_eq_true rfl) (sc_isColor 5 _ _) ?_
      refine ae_if_ne (pc := 4) (t := 10) dX10_add_4 (by decide) (fun c4 => ?_) (fun c4 => ?_)
      rotate_left
      · exact absurd h (bI_eq0.mp (Classical.not_not.mp c4))
      refine ae_aload_n (pc := 10) dX10_add_10 rfl ?_
      refine ae_getR (pc := 11) (k := 0) (c := 10) (j := 0) (q := 1) dX10_add_11 rfl rfl (Nat.le_of_ble_eq_true rfl) rfl (Nat.le_of_ble_eq_true rfl) rfl ?_
      refine ae_getI (pc := 14) (k := 1) (c := 7) (j := 3) (v := nI (fN f)) dX10_add_14 rfl rfl (Or.inl rfl) (Nat.le_of_ble_eq_true rfl) rfl (Nat.le_of_ble_eq_true rfl) a3 ?_
      refine ae_bipush (pc := 17) (v := nI 16) dX10_add_17 (by decide) ?_
      refine ae_icmp_lt (pc := 19) (t := 25) dX10_add_19 (by decide) (fun c19 => ?_) (fun c19 => ?_)
      · exact absurd ((nI_ltI (by omega) (by omega)).mp c19) hn
      · refine ae_bipush (pc := 22) (v := (-4)) dX10_add_22 (by decide) ?_
        refine ae_ireturn (pc := 24) dX10_add_24 rfl ?_
        exact ⟨rfl, hg, FR_refl M⟩
  · refine stepR (r := -2) hC hR ?_ (fun M1 h1 => roM (sm_add0 5 M1 x l h))
    refine ae_enter (z := zX10_add) (y := yX10_add) (cc := cX10_add) (mL := 3) (rt := some .int) (ci := 10) (st := false) (np := 2) (L := [some (.ref 0), some (.int x), some (.int l)]) rfl (by decide) (Nat.le_of_ble_eq_true rfl) rfl ?_
    refine ae_iload_n (pc := 0) dX10_add_0 rfl ?_
    refine ae_pcallS (pc := 1) (z := zX10_isColor) (As := [_]) dX10_add_1 rfl rfl rfl rfl (Nat.le_of_ble_eq_true rfl) (sc_isColor 5 _ _) ?_
    refine ae_if_ne (pc := 4) (t := 10) dX10_add_4 (by decide) (fun c4 => ?_) (fun c4 => ?_)
    · exact (h (bI_ne0.mp c4)).elim
    · refine ae_bipush (pc := 7) (v := (-2)) dX10_add_7 (by decide) ?_
      refine ae_ireturn (pc := 9) dX10_add_9 rfl ?_
      exact ⟨rfl, hg, FR_refl M⟩
theorem st_remove (M : am_M) (hI : INV M) (x : Int32) : STEP M zX10_remove [.ref 0, .int x] zX11_remove [.ref 33, .int x] := by
  obtain ⟨f, u, past, n, t, hC, hR⟩ := hI
  obtain ⟨hf, hg, hh, ht⟩ := id hC
  have hu := hh.1
  have hN := hf.1.2.2.2
  have hhe := sc_hasEntry 6 M f hg hf.1 x
  by_cases h : inE f x
  · rw [bI_t h] at hhe
    obtain ⟨e, he, rfl⟩ := of_inE hf.1 h
    have h01 := (hf.2.2.1 e he).2
    by_cases hl : f (275 + e) = 1
    · refine stepR (r := -3) hC hR ?_ (fun M1 h1 => roM (sm_removeL 5 M1 (by rw [h1.1]; exact hf.1) e (by rw [h1.1]; exact he) (by rw [h1.1]; exact hl)))
      refine ae_enter (z := zX10_remove) (y := yX10_remove) (cc := cX10_remove) (mL := 3) (rt := some .int) (ci := 10) (st := false) (np := 1) (L := [some (.ref 0), some (.int (nI e)), none]) rfl (by decide) (Nat.le_of_ble_eq_true rfl) rfl ?_
      refine ae_aload_n (pc := 0) dX10_remove_0 rfl ?_
      refine ae_getR (pc := 1) (k := 0) (c := 10) (j := 0) (q := 1) dX10_remove_1 rfl rfl (Nat.le_of_ble_eq_true rfl) rfl (Nat.le_of_ble_eq_true rfl) rfl ?_
      refine ae_iload_n (pc := 4) dX10_remove_4 rfl ?_
      refine ae_pcallV (pc := 5) (z := zX7_hasEntry) (k := 1) (As := [_]) dX10_remove_5 rfl rfl rfl rfl (Nat.le_of_ble_eq_true rfl) rfl (Nat.le_of_ble_eq_true rfl) (Nat.le_of_ble_eq_true rfl) (hhe) ?_
      refine ae_if_ne (pc := 8) (t := 14) dX10_remove_8 (by decide) (fun c8 => ?_) (fun c8 => ?_)
      rotate_left
      · exact absurd (Classical.not_not.mp c8) (by decide)
      refine ae_aload_n (pc := 14) dX10_remove_14 rfl ?_
      refine ae_getR (pc := 15) (k := 0) (c := 10) (j := 0) (q := 1) dX10_remove_15 rfl rfl (Nat.le_of_ble_eq_true rfl) rfl (Nat.le_of_ble_eq_true rfl) rfl ?_
      refine ae_getR (pc := 18) (k := 1) (c := 7) (j := 5) (q := 4) dX10_remove_18 rfl rfl (Nat.le_of_ble_eq_true rfl) rfl (Nat.le_of_ble_eq_true rfl) rfl ?_
      refine ae_iload_n (pc := 21) dX10_remove_21 rfl ?_
      refine ae_baload (pc := 22) (k := 4) (N := 16) (v := f (275 + e)) (e) dX10_remove_22 (Nat.le_of_ble_eq_true rfl) rfl rfl rfl (by omega) ((hg.2.2.1 e he).2) ?_
      refine ae_if_eq (pc := 23) (t := 29) dX10_remove_23 (by decide) (fun c23 => ?_) (fun c23 => ?_)
      · exact absurd (hl.symm.trans c23) (by decide)
      refine ae_bipush (pc := 26) (v := (-3)) dX10_remove_26 (by decide) ?_
      refine ae_ireturn (pc := 28) dX10_remove_28 rfl ?_
      exact ⟨rfl, hg, FR_refl M⟩
    · have h0 := h01.resolve_right hl
      obtain ⟨kw0, kw1, kw2, kw3⟩ := wf0_kp hf.1 1
      refine comb (r := f (259 + e)) (f' := rmF (kpF f 1) e (fN f - 1 - e)) (u' := kpN u) (past' := kpP past f u) (n' := n) (t' := t) hR ?_ (fun M1 h1 => ?_)
      · refine ae_enter (z := zX10_remove) (y := yX10_remove) (cc := cX10_remove) (mL := 3) (rt := some .int) (ci := 10) (st := false) (np := 1) (L := [some (.ref 0), some (.int (nI e)), none]) rfl (by decide) (Nat.le_of_ble_eq_true rfl) rfl ?_
        refine ae_aload_n (pc := 0) dX10_remove_0 rfl ?_
        refine ae_getR (pc := 1) (k := 0) (c := 10) (j := 0) (q := 1) dX10_remove_1 rfl rfl (Nat.le_of_ble_eq_true rfl) rfl (Nat.le_of_ble_eq_true rfl) rfl ?_
        refine ae_iload_n (pc := 4) dX10_remove_4 rfl ?_
        refine ae_pcallV (pc := 5) (z := zX7_hasEntry) (k := 1) (As := [_]) dX10_remove_5 rfl rfl rfl rfl (Nat.le_of_ble_eq_true rfl) rfl (Nat.le_of_ble_eq_true rfl) (Nat.le_of_ble_eq_true rfl) (hhe) ?_
        refine ae_if_ne (pc := 8) (t := 14) dX10_remove_8 (by decide) (fun c8 => ?_) (fun c8 => ?_)
        rotate_left
        · exact absurd (Classical.not_not.mp c8) (by decide)
        refine ae_aload_n (pc := 14) dX10_remove_14 rfl ?_
        refine ae_getR (pc := 15) (k := 0) (c := 10) (j := 0) (q := 1) dX10_remove_15 rfl rfl (Nat.le_of_ble_eq_true rfl) rfl (Nat.le_of_ble_eq_true rfl) rfl ?_
        refine ae_getR (pc := 18) (k := 1) (c := 7) (j := 5) (q := 4) dX10_remove_18 rfl rfl (Nat.le_of_ble_eq_true rfl) rfl (Nat.le_of_ble_eq_true rfl) rfl ?_
        refine ae_iload_n (pc := 21) dX10_remove_21 rfl ?_
        refine ae_baload (pc := 22) (k := 4) (N := 16) (v := f (275 + e)) (e) dX10_remove_22 (Nat.le_of_ble_eq_true rfl) rfl rfl rfl (by omega) ((hg.2.2.1 e he).2) ?_
        refine ae_if_eq (pc := 23) (t := 29) dX10_remove_23 (by decide) (fun c23 => ?_) (fun c23 => ?_)
        rotate_left
        · exact absurd h0 c23
        refine ae_aload_n (pc := 29) dX10_remove_29 rfl ?_
        refine ae_callV (pc := 30) (z := zX10_beginRemake) (k := 0) (As := []) dX10_remove_30 rfl rfl rfl rfl (Nat.le_of_ble_eq_true rfl) rfl (Nat.le_of_ble_eq_true rfl) (Nat.le_of_ble_eq_true rfl) (sc_beginRemake 4 M f hg hf u past hh) (fun v M' hq => ?_)
        obtain ⟨rfl, q1, q2, -, q4⟩ := hq
        obtain ⟨ck, rs⟩ := rmk_ck hC q1 q2 q4
        skip
        have hdr := sc_dropEntry 5 M' (kpF f 1) ck.2.1 ck.1 e (by rw [kw3]; exact he)
        have hwr := wf_rm ck.1 (kp292 f) (e := e) (by rw [kw3]; exact he)
        rw [kw3] at hdr hwr
        have ce : M'.1 3 e = f (259 + e) := by rw [(ck.2.1.2.2.1 e (by rw [kw3]; exact he)).1, kpF_ne _ _ (by omega)]
        refine ae_aload_n (pc := 33) dX10_remove_33 rfl ?_
        refine ae_getR (pc := 34) (k := 0) (c := 10) (j := 0) (q := 1) dX10_remove_34 rfl rfl (Nat.le_of_ble_eq_true rfl) rfl (Nat.le_of_ble_eq_true rfl) rfl ?_
        refine ae_getR (pc := 37) (k := 1) (c := 7) (j := 4) (q := 3) dX10_remove_37 rfl rfl (Nat.le_of_ble_eq_true rfl) rfl (Nat.le_of_ble_eq_true rfl) rfl ?_
        refine ae_iload_n (pc := 40) dX10_remove_40 rfl ?_
        refine ae_iaload (pc := 41) (k := 3) (N := 16) (v := f (259 + e)) (e) dX10_remove_41 (Nat.le_of_ble_eq_true rfl) rfl rfl rfl (by omega) ce ?_
        refine ae_istore_n (pc := 42) dX10_remove_42 rfl (Nat.le_of_ble_eq_true rfl) ?_
        skip
        refine ae_aload_n (pc := 43) dX10_remove_43 rfl ?_
        refine ae_getR (pc := 44) (k := 0) (c := 10) (j := 0) (q := 1) dX10_remove_44 rfl rfl (Nat.le_of_ble_eq_true rfl) rfl (Nat.le_of_ble_eq_true rfl) rfl ?_
        refine ae_iload_n (pc := 47) dX10_remove_47 rfl ?_
        refine ae_callV (pc := 48) (z := zX7_dropEntry) (k := 1) (As := [_]) dX10_remove_48 rfl rfl rfl rfl (Nat.le_of_ble_eq_true rfl) rfl (Nat.le_of_ble_eq_true rfl) (Nat.le_of_ble_eq_true rfl) hdr (fun v M2 hq => ?_)
        obtain ⟨rfl, hnw⟩ := hq
        refine ae_iload_n (pc := 51) dX10_remove_51 rfl ?_
        refine ae_ireturn (pc := 52) dX10_remove_52 rfl ?_
        exact ⟨rfl, CK_FR ck (NW_AG hnw) hwr (FR_NW hnw), fun k p q => (NW_ne hnw (by omega)).trans (rs k p q)⟩
      · have := sm_remove 5 M1 (by rw [h1.1]; exact hf.1) u h1.2.1 hu e (by rw [h1.1]; exact he) (by rw [h1.1]; exact hl)
        rw [h1.1] at this
        refine this.mono (fun v M2 q => ?_)
        obtain ⟨q1, rfl⟩ := q
        exact ⟨q1, RI_kp h1 1 _⟩
  · rw [bI_f h] at hhe
    refine stepR (r := -2) hC hR ?_ (fun M1 h1 => roM (sm_remove0 5 M1 x (by rw [h1.1]; exact h)))
    refine ae_enter (z := zX10_remove) (y := yX10_remove) (cc := cX10_remove) (mL := 3) (rt := some .int) (ci := 10) (st := false) (np := 1) (L := [some (.ref 0), some (.int x), none]) rfl (by decide) (Nat.le_of_ble_eq_true rfl) rfl ?_
    refine ae_aload_n (pc := 0) dX10_remove_0 rfl ?_
    refine ae_getR (pc := 1) (k := 0) (c := 10) (j := 0) (q := 1) dX10_remove_1 rfl rfl (Nat.le_of_ble_eq_true rfl) rfl (Nat.le_of_ble_eq_true rfl) rfl ?_
    refine ae_iload_n (pc := 4) dX10_remove_4 rfl ?_
    refine ae_pcallV (pc := 5) (z := zX7_hasEntry) (k := 1) (As := [_]) dX10_remove_5 rfl rfl rfl rfl (Nat.le_of_ble_eq_true rfl) rfl (Nat.le_of_ble_eq_true rfl) (Nat.le_of_ble_eq_true rfl) (hhe) ?_
    refine ae_if_ne (pc := 8) (t := 14) dX10_remove_8 (by decide) (fun c8 => ?_) (fun c8 => ?_)
    · exact absurd rfl c8
    refine ae_bipush (pc := 11) (v := (-2)) dX10_remove_11 (by decide) ?_
    refine ae_ireturn (pc := 13) dX10_remove_13 rfl ?_
    exact ⟨rfl, hg, FR_refl M⟩
theorem st_refine (M : am_M) (hI : INV M) (x : Int32) : STEP M zX10_refine [.ref 0, .int x] zX11_refine [.ref 33, .int x] := by
  obtain ⟨f, u, past, n, t, hC, hR⟩ := hI
  obtain ⟨hf, hg, hh, ht⟩ := id hC
  have hu := hh.1
  have hN := hf.1.2.2.2
  obtain ⟨-, -, a3⟩ := AG_w hg hf.1
  by_cases h : nI 1 ≤ x ∧ x ≤ nI 20
  · have hw := sc_isWithin 6 x (nI 1) (nI 20) M
    rw [bI_t h] at hw
    obtain ⟨r, r1, r2, rfl⟩ := rng h (by decide)
    by_cases hz : fN f = 0
    · rw [hz] at a3
      refine stepR (r := -3) hC hR ?_ (fun M1 h1 => roM (sm_refineS 6 M1 (by rw [h1.1]; exact hf.1) r ⟨r1, r2⟩ (by rw [h1.1]; exact hz)))
      refine ae_enter (z := zX10_refine) (y := yX10_refine) (cc := cX10_refine) (mL := 3) (rt := some .int) (ci := 10) (st := false) (np := 1) (L := [some (.ref 0), some (.int (nI r)), none]) rfl (by decide) (Nat.le_of_ble_eq_true rfl) rfl ?_
      refine ae_iload_n (pc := 0) dX10_refine_0 rfl ?_
      refine ae_iconst (pc := 1) (v := nI 1) dX10_refine_1 (by decide) ?_
      refine ae_bipush (pc := 2) (v := nI 20) dX10_refine_2 (by decide) ?_
      refine ae_pcallS (pc := 4) (z := zX10_isWithin) (As := [_, _, _]) dX10_refine_4 rfl rfl rfl rfl (Nat.le_of_ble_eq_true rfl) (hw) ?_
      refine ae_if_ne (pc := 7) (t := 13) dX10_refine_7 (by decide) (fun c7 => ?_) (fun c7 => ?_)
      rotate_left
      · exact absurd (Classical.not_not.mp c7) (by decide)
      refine ae_aload_n (pc := 13) dX10_refine_13 rfl ?_
      refine ae_getR (pc := 14) (k := 0) (c := 10) (j := 0) (q := 1) dX10_refine_14 rfl rfl (Nat.le_of_ble_eq_true rfl) rfl (Nat.le_of_ble_eq_true rfl) rfl ?_
      refine ae_getI (pc := 17) (k := 1) (c := 7) (j := 3) (v := nI 0) dX10_refine_17 rfl rfl (Or.inl rfl) (Nat.le_of_ble_eq_true rfl) rfl (Nat.le_of_ble_eq_true rfl) a3 ?_
      refine ae_if_ne (pc := 20) (t := 26) dX10_refine_20 (by decide) (fun c20 => ?_) (fun c20 => ?_)
      · exact absurd rfl c20
      refine ae_bipush (pc := 23) (v := (-3)) dX10_refine_23 (by decide) ?_
      refine ae_ireturn (pc := 25) dX10_refine_25 rfl ?_
      exact ⟨rfl, hg, FR_refl M⟩
    · refine comb (r := nI (rfW r (kpF f 1)).2) (f' := (rfW r (kpF f 1)).1) (u' := kpN u) (past' := kpP past f u) (n' := n) (t' := t) hR ?_ (fun M1 h1 => ?_)
      · refine ae_enter (z := zX10_refine) (y := yX10_refine) (cc := cX10_refine) (mL := 3) (rt := some .int) (ci := 10) (st := false) (np := 1) (L := [some (.ref 0), some (.int (nI r)), none]) rfl (by decide) (Nat.le_of_ble_eq_true rfl) rfl ?_
        refine ae_iload_n (pc := 0) dX10_refine_0 rfl ?_
        refine ae_iconst (pc := 1) (v := nI 1) dX10_refine_1 (by decide) ?_
        refine ae_bipush (pc := 2) (v := nI 20) dX10_refine_2 (by decide) ?_
        refine ae_pcallS (pc := 4) (z := zX10_isWithin) (As := [_, _, _]) dX10_refine_4 rfl rfl rfl rfl (Nat.le_of_ble_eq_true rfl) (hw) ?_
        refine ae_if_ne (pc := 7) (t := 13) dX10_refine_7 (by decide) (fun c7 => ?_) (fun c7 => ?_)
        rotate_left
        · exact absurd (Classical.not_not.mp c7) (by decide)
        refine ae_aload_n (pc := 13) dX10_refine_13 rfl ?_
        refine ae_getR (pc := 14) (k := 0) (c := 10) (j := 0) (q := 1) dX10_refine_14 rfl rfl (Nat.le_of_ble_eq_true rfl) rfl (Nat.le_of_ble_eq_true rfl) rfl ?_
        refine ae_getI (pc := 17) (k := 1) (c := 7) (j := 3) (v := nI (fN f)) dX10_refine_17 rfl rfl (Or.inl rfl) (Nat.le_of_ble_eq_true rfl) rfl (Nat.le_of_ble_eq_true rfl) a3 ?_
        refine ae_if_ne (pc := 20) (t := 26) dX10_refine_20 (by decide) (fun c20 => ?_) (fun c20 => ?_)
        rotate_left
        · exact absurd (Classical.not_not.mp c20) (nI_ne0 (by omega) (by omega))
        refine ae_aload_n (pc := 26) dX10_refine_26 rfl ?_
        refine ae_callV (pc := 27) (z := zX10_beginRemake) (k := 0) (As := []) dX10_refine_27 rfl rfl rfl rfl (Nat.le_of_ble_eq_true rfl) rfl (Nat.le_of_ble_eq_true rfl) (Nat.le_of_ble_eq_true rfl) (sc_beginRemake 4 M f hg hf u past hh) (fun v M' hq => ?_)
        obtain ⟨rfl, q1, q2, -, q4⟩ := hq
        obtain ⟨ck, rs⟩ := rmk_ck hC q1 q2 q4
        skip
        have lp : ∀ m k, k + m = r → ∀ (g : fT) (M2 : am_M), AG M2 g → wf g → FR M' M2 → am_E none (am_R 7) cX10_refine 10 (some .int) (fun v M1 => v = some (.int (nI (k + (rfW m g).2))) ∧ CK M1 (rfW m g).1 (kpN u) (kpP past f u) n t ∧ RS M M1) (32, [some (.ref 0), some (.int (nI r)), some (.int (nI k))], [], M2) := by
          intro m
          induction m with
          | zero =>
            intro k hk g M2 hg2 hw2 fr2
            refine ae_iload_n (pc := 32) dX10_refine_32 rfl ?_
            refine ae_iload_n (pc := 33) dX10_refine_33 rfl ?_
            refine ae_icmp_ge (pc := 34) (t := 55) dX10_refine_34 (by decide) (fun c34 => ?_) (fun c34 => ?_)
            rotate_left
            · exact absurd ((nI_leI (by omega) (by omega)).mpr (by omega)) c34
            refine ae_iload_n (pc := 55) dX10_refine_55 rfl ?_
            refine ae_ireturn (pc := 56) dX10_refine_56 rfl ?_
            exact ⟨by rw [← hk]; rfl, CK_FR ck hg2 hw2 fr2, fun k p q => (fr2 k (by omega)).trans (rs k p q)⟩
          | succ m ih =>
            intro k hk g M2 hg2 hw2 fr2
            have hmm := sc_moveToMeans 3 M2 g hg2 hw2
            refine ae_iload_n (pc := 32) dX10_refine_32 rfl ?_
            refine ae_iload_n (pc := 33) dX10_refine_33 rfl ?_
            refine ae_icmp_ge (pc := 34) (t := 55) dX10_refine_34 (by decide) (fun q => absurd ((nI_leI (by omega) (by omega)).mp q) (by omega)) (fun _ => ?_)
            refine ae_aload_n (pc := 37) dX10_refine_37 rfl ?_
            refine ae_getR (pc := 38) (k := 0) (c := 10) (j := 6) (q := 25) dX10_refine_38 rfl rfl (Nat.le_of_ble_eq_true rfl) rfl (Nat.le_of_ble_eq_true rfl) rfl ?_
            refine ae_callV (pc := 41) (z := zX5_moveToMeans) (k := 25) (As := []) dX10_refine_41 rfl rfl rfl rfl (Nat.le_of_ble_eq_true rfl) rfl (Nat.le_of_ble_eq_true rfl) (Nat.le_of_ble_eq_true rfl) hmm (fun v M3 hq => ?_)
            obtain ⟨rfl, p1, p2, p3⟩ := hq
            by_cases hb : rnB g (fN g) = true
            · have e : rfW (m + 1) g = ((rfW m (rnF g (fN g))).1, (rfW m (rnF g (fN g))).2 + 1) := by rw [rfW, if_pos hb]
              rw [e]
              have st := ih (k + 1) (by omega) (rnF g (fN g)) M3 p1 p2 (FR_tr fr2 p3)
              rw [show k + 1 + (rfW m (rnF g (fN g))).2 = k + ((rfW m (rnF g (fN g))).2 + 1) by omega] at st
              refine ae_if_ne (pc := 44) (t := 49) dX10_refine_44 (by decide) (fun c44 => ?_) (fun c44 => ?_)
              rotate_left
              · exact absurd hb (bI_eq0.mp (Classical.not_not.mp c44))
              refine ae_iinc (pc := 49) (v := nI (k + 1)) dX10_refine_49 rfl (nI_inc k) ?_
              refine ae_goto (pc := 52) (t := 32) dX10_refine_52 (by decide) ?_
              exact st
            · have e : rfW (m + 1) g = (rnF g (fN g), 0) := by rw [rfW, if_neg hb]
              rw [e]
              refine ae_if_ne (pc := 44) (t := 49) dX10_refine_44 (by decide) (fun c44 => ?_) (fun c44 => ?_)
              · exact absurd (bI_ne0.mp c44) hb
              refine ae_iload_n (pc := 47) dX10_refine_47 rfl ?_
              refine ae_ireturn (pc := 48) dX10_refine_48 rfl ?_
              exact ⟨rfl, CK_FR ck p1 p2 (FR_tr fr2 p3), fun k p q => (FR_tr fr2 p3 k (by omega)).trans (rs k p q)⟩
        have st := lp r 0 (by omega) (kpF f 1) M' ck.2.1 ck.1 (FR_refl M')
        rw [Nat.zero_add] at st
        refine ae_iconst (pc := 30) (v := nI 0) dX10_refine_30 (by decide) ?_
        refine ae_istore_n (pc := 31) dX10_refine_31 rfl (Nat.le_of_ble_eq_true rfl) ?_
        exact st
      · have := sm_refine 1 M1 (by rw [h1.1]; exact hf.1) u h1.2.1 hu r ⟨r1, r2⟩ (by rw [h1.1]; omega)
        rw [h1.1] at this
        refine this.mono (fun v M2 q => ?_)
        obtain ⟨q1, S, T, rfl⟩ := q
        obtain ⟨k1, k2⟩ := RI_kp h1 1 (rfW r (kpF f 1)).1
        have e : ∀ k, k ≠ 42 → k ≠ 46 → (rdM (kpM M1 u 1) S T (rfW r (kpF f 1)).1).1 k = (rw34 (kpM M1 u 1) (rfW r (kpF f 1)).1).1 k := by
          intro k h2 h6
          show am_u (am_u (am_u (kpM M1 u 1).1 42 S) 46 T) 34 _ k = am_u (kpM M1 u 1).1 34 _ k
          simp only [am_u]
          by_cases h4 : k = 34 <;> simp_all
        exact ⟨q1, RI_cg k1 ⟨e 34 (by decide) (by decide), e 33 (by decide) (by decide), e 35 (by decide) (by decide), e 36 (by decide) (by decide)⟩, fun k hk => (e k (by omega) (by omega)).trans (k2 k hk)⟩
  · refine stepR (r := -2) hC hR ?_ (fun M1 h1 => roM (sm_refine0 6 M1 x h))
    refine ae_enter (z := zX10_refine) (y := yX10_refine) (cc := cX10_refine) (mL := 3) (rt := some .int) (ci := 10) (st := false) (np := 1) (L := [some (.ref 0), some (.int x), none]) rfl (by decide) (Nat.le_of_ble_eq_true rfl) rfl ?_
    refine ae_iload_n (pc := 0) dX10_refine_0 rfl ?_
    refine ae_iconst (pc := 1) (v := nI 1) dX10_refine_1 (by decide) ?_
    refine ae_bipush (pc := 2) (v := nI 20) dX10_refine_2 (by decide) ?_
    refine ae_pcallS (pc := 4) (z := zX10_isWithin) (As := [_, _, _]) dX10_refine_4 rfl rfl rfl rfl (Nat.le_of_ble_eq_true rfl) (sc_isWithin 6 _ _ _ _) ?_
    refine ae_if_ne (pc := 7) (t := 13) dX10_refine_7 (by decide) (fun c7 => ?_) (fun c7 => ?_)
    · exact (h (bI_ne0.mp c7)).elim
    · refine ae_bipush (pc := 10) (v := (-2)) dX10_refine_10 (by decide) ?_
      refine ae_ireturn (pc := 12) dX10_refine_12 rfl ?_
      exact ⟨rfl, hg, FR_refl M⟩
theorem st_merge (M : am_M) (hI : INV M) (x : Int32) : STEP M zX10_merge [.ref 0, .int x] zX11_merge [.ref 33, .int x] := by
  obtain ⟨f, u, past, n, t, hC, hR⟩ := hI
  obtain ⟨hf, hg, hh, ht⟩ := id hC
  have hu := hh.1
  by_cases h : nI 1 ≤ x ∧ x ≤ nI 16
  · have hw := sc_isWithin 6 x (nI 1) (nI 16) M
    rw [bI_t h] at hw
    obtain ⟨r, r1, r2, rfl⟩ := rng h (by decide)
    refine comb (r := nI (fN (mgW r 16 (kpF f 1)))) (f' := mgW r 16 (kpF f 1)) (u' := kpN u) (past' := kpP past f u) (n' := n) (t' := t) hR ?_ (fun M1 h1 => ?_)
    · refine ae_enter (z := zX10_merge) (y := yX10_merge) (cc := cX10_merge) (mL := 2) (rt := some .int) (ci := 10) (st := false) (np := 1) (L := [some (.ref 0), some (.int (nI r))]) rfl (by decide) (Nat.le_of_ble_eq_true rfl) rfl ?_
      refine ae_iload_n (pc := 0) dX10_merge_0 rfl ?_
      refine ae_iconst (pc := 1) (v := nI 1) dX10_merge_1 (by decide) ?_
      refine ae_bipush (pc := 2) (v := nI 16) dX10_merge_2 (by decide) ?_
      refine ae_pcallS (pc := 4) (z := zX10_isWithin) (As := [_, _, _]) dX10_merge_4 rfl rfl rfl rfl (Nat.le_of_ble_eq_true rfl) (hw) ?_
      refine ae_if_ne (pc := 7) (t := 13) dX10_merge_7 (by decide) (fun c7 => ?_) (fun c7 => ?_)
      rotate_left
      · exact absurd (Classical.not_not.mp c7) (by decide)
      refine ae_aload_n (pc := 13) dX10_merge_13 rfl ?_
      refine ae_callV (pc := 14) (z := zX10_beginRemake) (k := 0) (As := []) dX10_merge_14 rfl rfl rfl rfl (Nat.le_of_ble_eq_true rfl) rfl (Nat.le_of_ble_eq_true rfl) (Nat.le_of_ble_eq_true rfl) (sc_beginRemake 4 M f hg hf u past hh) (fun v M' hq => ?_)
      obtain ⟨rfl, q1, q2, -, q4⟩ := hq
      obtain ⟨ck, rs⟩ := rmk_ck hC q1 q2 q4
      skip
      have hmd := sc_mergeDownTo 3 M' (kpF f 1) ck.2.1 ck.1 (kp292 f) r r2
      refine ae_aload_n (pc := 17) dX10_merge_17 rfl ?_
      refine ae_getR (pc := 18) (k := 0) (c := 10) (j := 6) (q := 25) dX10_merge_18 rfl rfl (Nat.le_of_ble_eq_true rfl) rfl (Nat.le_of_ble_eq_true rfl) rfl ?_
      refine ae_iload_n (pc := 21) dX10_merge_21 rfl ?_
      refine ae_callV (pc := 22) (z := zX5_mergeDownTo) (k := 25) (As := [_]) dX10_merge_22 rfl rfl rfl rfl (Nat.le_of_ble_eq_true rfl) rfl (Nat.le_of_ble_eq_true rfl) (Nat.le_of_ble_eq_true rfl) hmd (fun v M2 hq => ?_)
      obtain ⟨rfl, p1, p2, p3⟩ := hq
      refine ae_aload_n (pc := 25) dX10_merge_25 rfl ?_
      refine ae_getR (pc := 26) (k := 0) (c := 10) (j := 0) (q := 1) dX10_merge_26 rfl rfl (Nat.le_of_ble_eq_true rfl) rfl (Nat.le_of_ble_eq_true rfl) rfl ?_
      refine ae_getI (pc := 29) (k := 1) (c := 7) (j := 3) (v := nI (fN (mgW r 16 (kpF f 1)))) dX10_merge_29 rfl rfl (Or.inl rfl) (Nat.le_of_ble_eq_true rfl) rfl (Nat.le_of_ble_eq_true rfl) ((AG_w p1 p2.1).2.2) ?_
      refine ae_ireturn (pc := 32) dX10_merge_32 rfl ?_
      exact ⟨rfl, CK_FR ck p1 p2 p3, fun k p q => (p3 k (by omega)).trans (rs k p q)⟩
    · have := sm_merge 1 M1 (by rw [h1.1]; exact hf.1) u h1.2.1 hu r ⟨r1, r2⟩
      rw [h1.1] at this
      refine this.mono (fun v M2 q => ?_)
      obtain ⟨q1, S, rfl⟩ := q
      obtain ⟨k1, k2⟩ := RI_kp h1 1 (mgW r 16 (kpF f 1))
      have e : ∀ k, k ≠ 42 → (rw34 (am_u (kpM M1 u 1).1 42 S, M1.2) (mgW r 16 (kpF f 1))).1 k = (rw34 (kpM M1 u 1) (mgW r 16 (kpF f 1))).1 k := by
        intro k h2
        show am_u (am_u (kpM M1 u 1).1 42 S) 34 _ k = am_u (kpM M1 u 1).1 34 _ k
        simp only [am_u]
        by_cases h4 : k = 34 <;> simp_all
      exact ⟨q1, RI_cg k1 ⟨e 34 (by decide), e 33 (by decide), e 35 (by decide), e 36 (by decide)⟩, fun k hk => (e k (by omega)).trans (k2 k hk)⟩
  · refine stepR (r := -2) hC hR ?_ (fun M1 h1 => roM (sm_merge0 6 M1 x h))
    refine ae_enter (z := zX10_merge) (y := yX10_merge) (cc := cX10_merge) (mL := 2) (rt := some .int) (ci := 10) (st := false) (np := 1) (L := [some (.ref 0), some (.int x)]) rfl (by decide) (Nat.le_of_ble_eq_true rfl) rfl ?_
    refine ae_iload_n (pc := 0) dX10_merge_0 rfl ?_
    refine ae_iconst (pc := 1) (v := nI 1) dX10_merge_1 (by decide) ?_
    refine ae_bipush (pc := 2) (v := nI 16) dX10_merge_2 (by decide) ?_
    refine ae_pcallS (pc := 4) (z := zX10_isWithin) (As := [_, _, _]) dX10_merge_4 rfl rfl rfl rfl (Nat.le_of_ble_eq_true rfl) (sc_isWithin 6 _ _ _ _) ?_
    refine ae_if_ne (pc := 7) (t := 13) dX10_merge_7 (by decide) (fun c7 => ?_) (fun c7 => ?_)
    · exact (h (bI_ne0.mp c7)).elim
    · refine ae_bipush (pc := 10) (v := (-2)) dX10_merge_10 (by decide) ?_
      refine ae_ireturn (pc := 12) dX10_merge_12 rfl ?_
      exact ⟨rfl, hg, FR_refl M⟩

