theorem st_build (M : am_M) (hI : INV M) (x y : Int32) : STEP M zX10_build [.ref 0, .int x, .int y] zX11_build [.ref 33, .int x, .int y] := by
  obtain ⟨f, u, past, n, t, hC, hR⟩ := hI
  obtain ⟨hf, hg, hh, ht⟩ := id hC
  have hu := hh.1
  have hN := hf.1.2.2.2
  have hlc := lcd_le f (fN f)
  by_cases h : (nI 1 ≤ x ∧ x ≤ nI 16) ∧ nI 0 ≤ y ∧ y ≤ nI 2
  · have hw1 := sc_isWithin 6 x (nI 1) (nI 16) M
    rw [bI_t h.1] at hw1
    have hw2 := sc_isWithin 6 y (nI 0) (nI 2) M
    rw [bI_t h.2] at hw2
    obtain ⟨k, k1, k2, rfl⟩ := rng h.1 (by decide)
    obtain ⟨r, -, r2, rfl⟩ := rng h.2 (by decide)
    have hle := sc_lockedEntries 6 M f hg hf
    by_cases hl : lcd f (fN f) ≤ k
    · obtain ⟨kw0, kw1, kw2, kw3⟩ := wf0_kp hf.1 1
      obtain ⟨g, hK⟩ := KE_ex kw0
      obtain ⟨gw, g292, gn⟩ := wf_ke (wf_kp hf 1) (kp292 f) hK
      rw [kw3, lcd_kp hN] at gn
      have hgk : fN g ≤ k := by rw [gn]; exact hl
      show am_R 8 _ _ M _
      refine ae_enter (z := zX10_build) (y := yX10_build) (cc := cX10_build) (mL := 3) (rt := some .int) (ci := 10) (st := false) (np := 2) (L := [some (.ref 0), some (.int (nI k)), some (.int (nI r))]) rfl (by decide) (Nat.le_of_ble_eq_true rfl) rfl ?_
      refine ae_iload_n (pc := 0) dX10_build_0 rfl ?_
      refine ae_iconst (pc := 1) (v := nI 1) dX10_build_1 (by decide) ?_
      refine ae_bipush (pc := 2) (v := nI 16) dX10_build_2 (by decide) ?_
      refine ae_pcallS (pc := 4) (z := zX10_isWithin) (As := [_, _, _]) dX10_build_4 rfl rfl rfl rfl (Nat.le_of_ble_eq_true rfl) (hw1) ?_
      refine ae_if_eq (pc := 7) (t := 19) dX10_build_7 (by decide) (fun c7 => ?_) (fun c7 => ?_)
      · exact absurd c7 (by decide)
      refine ae_iload_n (pc := 10) dX10_build_10 rfl ?_
      refine ae_iconst (pc := 11) (v := nI 0) dX10_build_11 (by decide) ?_
      refine ae_iconst (pc := 12) (v := nI 2) dX10_build_12 (by decide) ?_
      refine ae_pcallS (pc := 13) (z := zX10_isWithin) (As := [_, _, _]) dX10_build_13 rfl rfl rfl rfl (Nat.le_of_ble_eq_true rfl) (hw2) ?_
      refine ae_if_ne (pc := 16) (t := 22) dX10_build_16 (by decide) (fun c16 => ?_) (fun c16 => ?_)
      rotate_left
      · exact absurd (Classical.not_not.mp c16) (by decide)
      refine ae_aload_n (pc := 22) dX10_build_22 rfl ?_
      refine ae_getR (pc := 23) (k := 0) (c := 10) (j := 0) (q := 1) dX10_build_23 rfl rfl (Nat.le_of_ble_eq_true rfl) rfl (Nat.le_of_ble_eq_true rfl) rfl ?_
      refine ae_pcallV (pc := 26) (z := zX7_lockedEntries) (k := 1) (As := []) dX10_build_26 rfl rfl rfl rfl (Nat.le_of_ble_eq_true rfl) rfl (Nat.le_of_ble_eq_true rfl) (Nat.le_of_ble_eq_true rfl) (hle) ?_
      refine ae_iload_n (pc := 29) dX10_build_29 rfl ?_
      refine ae_icmp_le (pc := 30) (t := 36) dX10_build_30 (by decide) (fun c30 => ?_) (fun c30 => ?_)
      rotate_left
      · exact absurd ((nI_leI (by omega) (by omega)).mpr hl) c30
      refine ae_aload_n (pc := 36) dX10_build_36 rfl ?_
      refine ae_callV (pc := 37) (z := zX10_beginRemake) (k := 0) (As := []) dX10_build_37 rfl rfl rfl rfl (Nat.le_of_ble_eq_true rfl) rfl (Nat.le_of_ble_eq_true rfl) (Nat.le_of_ble_eq_true rfl) (sc_beginRemake 4 M f hg hf u past hh) (fun v M' hq => ?_)
      obtain ⟨rfl, q1, q2, -, q4⟩ := hq
      obtain ⟨ck, rs⟩ := rmk_ck hC q1 q2 q4
      skip
      have hkl := sc_keepLocked 5 M' (kpF f 1) ck.2.1 ck.1 g _ hK
      refine ae_aload_n (pc := 40) dX10_build_40 rfl ?_
      refine ae_getR (pc := 41) (k := 0) (c := 10) (j := 0) (q := 1) dX10_build_41 rfl rfl (Nat.le_of_ble_eq_true rfl) rfl (Nat.le_of_ble_eq_true rfl) rfl ?_
      refine ae_callV (pc := 44) (z := zX7_keepLocked) (k := 1) (As := []) dX10_build_44 rfl rfl rfl rfl (Nat.le_of_ble_eq_true rfl) rfl (Nat.le_of_ble_eq_true rfl) (Nat.le_of_ble_eq_true rfl) hkl (fun v M2 hq => ?_)
      obtain ⟨rfl, hnw⟩ := hq
      have hfl := sc_fill 1 M2 g (NW_AG hnw) gw g292 k r k2 hgk (by omega)
      refine ae_aload_n (pc := 47) dX10_build_47 rfl ?_
      refine ae_getR (pc := 48) (k := 0) (c := 10) (j := 5) (q := 21) dX10_build_48 rfl rfl (Nat.le_of_ble_eq_true rfl) rfl (Nat.le_of_ble_eq_true rfl) rfl ?_
      refine ae_iload_n (pc := 51) dX10_build_51 rfl ?_
      refine ae_iload_n (pc := 52) dX10_build_52 rfl ?_
      refine ae_callV (pc := 53) (z := zX4_fill) (k := 21) (As := [_, _]) dX10_build_53 rfl rfl rfl rfl (Nat.le_of_ble_eq_true rfl) rfl (Nat.le_of_ble_eq_true rfl) (Nat.le_of_ble_eq_true rfl) hfl (fun v M3 hq => ?_)
      obtain ⟨rfl, p1, p2, p3, p4⟩ := hq
      generalize hF : adA g (fun b => lMe (cnA g) ((bldR g r (k - fN g)).2 b) 3) (bldR g r (k - fN g)).1 = F at *
      have fr := FR_tr (FR_NW hnw) p4
      have ck3 := CK_FR ck p1 p2 fr
      have rs3 : RS M M3 := fun q a b => (fr q (by omega)).trans (rs q a b)
      have hsz : M3.1 1 3 = nI (fN g + (bldR g r (k - fN g)).1) := by rw [← p3]; exact (AG_w p1 p2.1).2.2
      refine ae_aload_n (pc := 56) dX10_build_56 rfl ?_
      refine ae_getR (pc := 57) (k := 0) (c := 10) (j := 0) (q := 1) dX10_build_57 rfl rfl (Nat.le_of_ble_eq_true rfl) rfl (Nat.le_of_ble_eq_true rfl) rfl ?_
      refine ae_getI (pc := 60) (k := 1) (c := 7) (j := 3) (v := nI (fN g + (bldR g r (k - fN g)).1)) dX10_build_60 rfl rfl (Or.inl rfl) (Nat.le_of_ble_eq_true rfl) rfl (Nat.le_of_ble_eq_true rfl) hsz ?_
      refine ae_ireturn (pc := 63) dX10_build_63 rfl ?_
      refine ⟨_, rfl, ?_⟩
      have hR3 := RI_RS hR rs3
      have := sm_build 2 M3 (by rw [hR3.1]; exact hf) u hR3.2.1 hu k r ⟨k1, k2⟩ (by omega) (by rw [hR3.1]; exact hl)
      rw [hR3.1] at this
      refine this.mono (fun v M4 q => ?_)
      obtain ⟨g', T', hK', q1, nh, h9, m9, nb, bx, rfl⟩ := q
      have hK2 : KE (kpF f 1) (fN (kpF f 1)) 0 g' T' := by rw [kw3]; exact hK'
      have eq := KE_EQ kw0 (kp292 f) hK hK2
      have en : fN g' = fN g := (EQ_w eq).2.1
      have eb := EQ_bld eq r (k - fN g)
      have ec := EQ_cnA eq
      rw [en, ← eb] at q1
      have hbl : (bldR g r (k - fN g)).1 ≤ k - fN g := by
        unfold bldR
        exact lRn_le _ _ _ (by split <;> omega)
      have eqF : EQ F (adA g' (fun b => lMe (cnA g') ((bldR g' r (k - fN g')).2 b) 3) (bldR g' r (k - fN g')).1) := by
        rw [← hF, en, ← eb, ← ec]
        exact (EQ_adA eq gw.1 (by omega)).1
      generalize adA g' (fun b => lMe (cnA g') ((bldR g' r (k - fN g')).2 b) 3) (bldR g' r (k - fN g')).1 = F' at *
      obtain ⟨z1, z2⟩ := RI_kp hR3 1 F'
      have er : ∀ q, q ≠ 33 → q ≠ 37 → q ≠ 38 → q ≠ 45 → (rw34 (spM (gaM (rw34 (kpM M3 u 1) g') nh h9 m9) nb bx) F').1 q = (rw34 (kpM M3 u 1) F').1 q := by
        intro q a1 a2 a3 a4
        by_cases h34 : q = 34
        · subst h34; rw [rw34_34, rw34_34]
        · rw [rw34_ne _ _ h34, rw34_ne _ _ h34, spM_ne _ _ _ ⟨a4, a1⟩, gaM_ne _ _ _ _ ⟨a1, a2, a3⟩, rw34_ne _ _ h34]
      have e33 : ∀ j, j ≠ 16 → j ≠ 7 → (rw34 (spM (gaM (rw34 (kpM M3 u 1) g') nh h9 m9) nb bx) F').1 33 j = (rw34 (kpM M3 u 1) F').1 33 j := by
        intro j a1 a2
        rw [rw34_ne _ _ (by decide), rw34_ne _ _ (by decide), spM_33, upd_ne _ _ a1, gaM_33, upd_ne _ _ a2, rw34_ne _ _ (by decide)]
      refine ⟨q1, F', kpN u, kpP past f u, n, t, CK_QS (EQ_CK eqF ck3) (fun q hq => (er q (by omega) (by omega) (by omega) (by omega)).trans (z2 q hq)), ?_⟩
      exact ⟨(er 34 (by decide) (by decide) (by decide) (by decide)).trans z1.1, (e33 2 (by decide) (by decide)).trans z1.2.1, (er 35 (by decide) (by decide) (by decide) (by decide)).trans z1.2.2.1, (e33 4 (by decide) (by decide)).trans z1.2.2.2.1, (er 36 (by decide) (by decide) (by decide) (by decide)).trans z1.2.2.2.2⟩
    · refine stepR (r := -3) hC hR ?_ (fun M1 h1 => roM (sm_buildS 6 M1 (by rw [h1.1]; exact hf) k r ⟨k1, k2⟩ (by omega) (by rw [h1.1]; omega)))
      refine ae_enter (z := zX10_build) (y := yX10_build) (cc := cX10_build) (mL := 3) (rt := some .int) (ci := 10) (st := false) (np := 2) (L := [some (.ref 0), some (.int (nI k)), some (.int (nI r))]) rfl (by decide) (Nat.le_of_ble_eq_true rfl) rfl ?_
      refine ae_iload_n (pc := 0) dX10_build_0 rfl ?_
      refine ae_iconst (pc := 1) (v := nI 1) dX10_build_1 (by decide) ?_
      refine ae_bipush (pc := 2) (v := nI 16) dX10_build_2 (by decide) ?_
      refine ae_pcallS (pc := 4) (z := zX10_isWithin) (As := [_, _, _]) dX10_build_4 rfl rfl rfl rfl (Nat.le_of_ble_eq_true rfl) (hw1) ?_
      refine ae_if_eq (pc := 7) (t := 19) dX10_build_7 (by decide) (fun c7 => ?_) (fun c7 => ?_)
      · exact absurd c7 (by decide)
      refine ae_iload_n (pc := 10) dX10_build_10 rfl ?_
      refine ae_iconst (pc := 11) (v := nI 0) dX10_build_11 (by decide) ?_
      refine ae_iconst (pc := 12) (v := nI 2) dX10_build_12 (by decide) ?_
      refine ae_pcallS (pc := 13) (z := zX10_isWithin) (As := [_, _, _]) dX10_build_13 rfl rfl rfl rfl (Nat.le_of_ble_eq_true rfl) (hw2) ?_
      refine ae_if_ne (pc := 16) (t := 22) dX10_build_16 (by decide) (fun c16 => ?_) (fun c16 => ?_)
      rotate_left
      · exact absurd (Classical.not_not.mp c16) (by decide)
      refine ae_aload_n (pc := 22) dX10_build_22 rfl ?_
      refine ae_getR (pc := 23) (k := 0) (c := 10) (j := 0) (q := 1) dX10_build_23 rfl rfl (Nat.le_of_ble_eq_true rfl) rfl (Nat.le_of_ble_eq_true rfl) rfl ?_
      refine ae_pcallV (pc := 26) (z := zX7_lockedEntries) (k := 1) (As := []) dX10_build_26 rfl rfl rfl rfl (Nat.le_of_ble_eq_true rfl) rfl (Nat.le_of_ble_eq_true rfl) (Nat.le_of_ble_eq_true rfl) (hle) ?_
      refine ae_iload_n (pc := 29) dX10_build_29 rfl ?_
      refine ae_icmp_le (pc := 30) (t := 36) dX10_build_30 (by decide) (fun c30 => ?_) (fun c30 => ?_)
      · exact absurd ((nI_leI (by omega) (by omega)).mp c30) hl
      · refine ae_bipush (pc := 33) (v := (-3)) dX10_build_33 (by decide) ?_
        refine ae_ireturn (pc := 35) dX10_build_35 rfl ?_
        exact ⟨rfl, hg, FR_refl M⟩
  · refine stepR (r := -2) hC hR ?_ (fun M1 h1 => roM (sm_build0 6 M1 x y h))
    refine ae_enter (z := zX10_build) (y := yX10_build) (cc := cX10_build) (mL := 3) (rt := some .int) (ci := 10) (st := false) (np := 2) (L := [some (.ref 0), some (.int x), some (.int y)]) rfl (by decide) (Nat.le_of_ble_eq_true rfl) rfl ?_
    refine ae_iload_n (pc := 0) dX10_build_0 rfl ?_
    refine ae_iconst (pc := 1) (v := nI 1) dX10_build_1 (by decide) ?_
    refine ae_bipush (pc := 2) (v := nI 16) dX10_build_2 (by decide) ?_
    refine ae_pcallS (pc := 4) (z := zX10_isWithin) (As := [_, _, _]) dX10_build_4 rfl rfl rfl rfl (Nat.le_of_ble_eq_true rfl) (sc_isWithin 6 _ _ _ _) ?_
    refine ae_if_eq (pc := 7) (t := 19) dX10_build_7 (by decide) (fun c7 => ?_) (fun c7 => ?_)
    · refine ae_bipush (pc := 19) (v := (-2)) dX10_build_19 (by decide) ?_
      refine ae_ireturn (pc := 21) dX10_build_21 rfl ?_
      exact ⟨rfl, hg, FR_refl M⟩
    · refine ae_iload_n (pc := 10) dX10_build_10 rfl ?_
      refine ae_iconst (pc := 11) (v := nI 0) dX10_build_11 (by decide) ?_
      refine ae_iconst (pc := 12) (v := nI 2) dX10_build_12 (by decide) ?_
      refine ae_pcallS (pc := 13) (z := zX10_isWithin) (As := [_, _, _]) dX10_build_13 rfl rfl rfl rfl (Nat.le_of_ble_eq_true rfl) (sc_isWithin 6 _ _ _ _) ?_
      refine ae_if_ne (pc := 16) (t := 22) dX10_build_16 (by decide) (fun c16 => ?_) (fun c16 => ?_)
      · exact (h ⟨bI_ne0.mp c7, bI_ne0.mp c16⟩).elim
      · refine ae_bipush (pc := 19) (v := (-2)) dX10_build_19 (by decide) ?_
        refine ae_ireturn (pc := 21) dX10_build_21 rfl ?_
        exact ⟨rfl, hg, FR_refl M⟩
theorem st_load (M : am_M) (hI : INV M) : STEP M zX10_load [.ref 0] zX11_load [.ref 33] := by
  obtain ⟨f, u, past, n, t, hC, hR⟩ := hI
  obtain ⟨hf, hg, hh, ht⟩ := id hC
  have hu := hh.1
  have hp := sc_parse 4 M n t ht (M.1 43) (M.1 44)
  have tx : ∀ (r : Nat) (cc cl : fT), CK (txM M (upd (M.1 8) 4 (nI r)) (M.1 9) cc cl) f u past n t := fun r cc cl => ⟨hf, AG_ne hg (fun k a b => txM_ne _ _ _ _ _ (by omega)), HI_ne hh (fun k hk => txM_ne _ _ _ _ _ (by omega)), ⟨ht.1, by rw [txM_8, upd_ne _ _ (by decide)]; exact ht.2.1, fun i hi => by rw [txM_9]; exact ht.2.2 i hi⟩⟩
  by_cases hm1 : (prs t n n 0 0 (M.1 43) (M.1 44)).1 = -1
  · have hpe := prs_all t n n 0 0 (M.1 43) (M.1 44) hm1
    have hok := prs_ok t n n 0 0 (M.1 43) (M.1 44) (fun j hj => absurd hj (Nat.not_lt_zero j))
    have hr16 := prs_le t n n 0 0 (M.1 43) (M.1 44) (by omega)
    rw [hm1] at hp
    generalize hr : (prs t n n 0 0 (M.1 43) (M.1 44)).2.1 = r at *
    generalize hrc : (prs t n n 0 0 (M.1 43) (M.1 44)).2.2.1 = rc at *
    generalize hrl : (prs t n n 0 0 (M.1 43) (M.1 44)).2.2.2 = rl at *
    refine comb2 (r := nI r) (f' := ldF (kpF f 1) rc rl r) (u' := kpN u) (past' := kpP past f u) (n' := 0) (t' := t) hR ?_ (fun M1 h1 hrs => ?_)
    · refine ae_enter (z := zX10_load) (y := yX10_load) (cc := cX10_load) (mL := 2) (rt := some .int) (ci := 10) (st := false) (np := 0) (L := [some (.ref 0), none]) rfl (by decide) (Nat.le_of_ble_eq_true rfl) rfl ?_
      refine ae_aload_n (pc := 0) dX10_load_0 rfl ?_
      refine ae_getR (pc := 1) (k := 0) (c := 10) (j := 2) (q := 8) dX10_load_1 rfl rfl (Nat.le_of_ble_eq_true rfl) rfl (Nat.le_of_ble_eq_true rfl) rfl ?_
      refine ae_callV (pc := 4) (z := zX9_parse) (k := 8) (As := []) dX10_load_4 rfl rfl rfl rfl (Nat.le_of_ble_eq_true rfl) rfl (Nat.le_of_ble_eq_true rfl) (Nat.le_of_ble_eq_true rfl) (hp) (fun v M' hq => ?_)
      obtain ⟨rfl, cc, cl, rfl, hcc⟩ := hq
      have ck1 := tx r cc cl
      have rs1 : RS M (txM M (upd (M.1 8) 4 (nI r)) (M.1 9) cc cl) := fun k a b => txM_ne _ _ _ _ _ (by omega)
      have e84 : (txM M (upd (M.1 8) 4 (nI r)) (M.1 9) cc cl).1 8 4 = nI r := by rw [txM_8, upd_self]
      have e10 : (txM M (upd (M.1 8) 4 (nI r)) (M.1 9) cc cl).1 10 = cc := txM_10 _ _ _ _ _
      have e11 : (txM M (upd (M.1 8) 4 (nI r)) (M.1 9) cc cl).1 11 = cl := txM_11 _ _ _ _ _
      generalize txM M (upd (M.1 8) 4 (nI r)) (M.1 9) cc cl = M1 at *
      have hbr := sc_beginRemake 4 M1 f ck1.2.1 hf u past ck1.2.2.1
      refine ae_iconst (pc := 7) (v := (-1)) dX10_load_7 (by decide) ?_
      refine ae_icmp_eq (pc := 8) (t := 14) dX10_load_8 (by decide) (fun c8 => ?_) (fun c8 => ?_)
      rotate_left
      · exact absurd rfl c8
      refine ae_aload_n (pc := 14) dX10_load_14 rfl ?_
      refine ae_callV (pc := 15) (z := zX10_beginRemake) (k := 0) (As := []) dX10_load_15 rfl rfl rfl rfl (Nat.le_of_ble_eq_true rfl) rfl (Nat.le_of_ble_eq_true rfl) (Nat.le_of_ble_eq_true rfl) (hbr) (fun v M' hq => ?_)
      obtain ⟨rfl, q1, q2, -, q4⟩ := hq
      obtain ⟨ck, rs⟩ := rmk_ck ck1 q1 q2 q4
      refine ae_aload_n (pc := 18) dX10_load_18 rfl ?_
      refine ae_getR (pc := 19) (k := 0) (c := 10) (j := 0) (q := 1) dX10_load_19 rfl rfl (Nat.le_of_ble_eq_true rfl) rfl (Nat.le_of_ble_eq_true rfl) rfl ?_
      refine ae_iconst (pc := 22) (v := nI 0) dX10_load_22 (by decide) ?_
      refine ae_putfield (pc := 23) (k := 1) (c := 7) (j := 3) dX10_load_23 rfl rfl (Nat.le_of_ble_eq_true rfl) rfl (Nat.le_of_ble_eq_true rfl) rfl rfl ?_
      refine ae_iconst (pc := 26) (v := nI 0) dX10_load_26 (by decide) ?_
      refine ae_istore_n (pc := 27) dX10_load_27 rfl (Nat.le_of_ble_eq_true rfl) ?_
      skip
      have lp : ∀ M2 : am_M, AG M2 (ldF (kpF f 1) rc rl 0) → wf (ldF (kpF f 1) rc rl 0) → ldF (kpF f 1) rc rl 0 292 = 0 → (∀ k, (k = 0 ∨ 6 ≤ k) → M2.1 k = M'.1 k) → am_E none (am_R 7) cX10_load 10 (some .int) (fun v M1 => v = some (.int (nI r)) ∧ CK M1 (ldF (kpF f 1) rc rl r) (kpN u) (kpP past f u) 0 t ∧ RS M M1) (28, [some (.ref 0), some (.int (nI 0))], [], M2) := by
        refine am_down (P := fun k => ∀ M2 : am_M, AG M2 (ldF (kpF f 1) rc rl k) → wf (ldF (kpF f 1) rc rl k) → ldF (kpF f 1) rc rl k 292 = 0 → (∀ k, (k = 0 ∨ 6 ≤ k) → M2.1 k = M'.1 k) → am_E none (am_R 7) cX10_load 10 (some .int) _ (28, [some (.ref 0), some (.int (nI k))], [], M2)) r (fun k hk ih M2 hg2 hw2 hz2 hr2 => ?_)
        have c84 : M2.1 8 4 = nI r := by rw [hr2 8 (by omega), q4 8 (by omega) (by omega)]; exact e84
        refine ae_iload_n (pc := 28) dX10_load_28 rfl ?_
        refine ae_aload_n (pc := 29) dX10_load_29 rfl ?_
        refine ae_getR (pc := 30) (k := 0) (c := 10) (j := 2) (q := 8) dX10_load_30 rfl rfl (Nat.le_of_ble_eq_true rfl) rfl (Nat.le_of_ble_eq_true rfl) rfl ?_
        refine ae_getI (pc := 33) (k := 8) (c := 9) (j := 4) (v := nI r) dX10_load_33 rfl rfl (Or.inl rfl) (Nat.le_of_ble_eq_true rfl) rfl (Nat.le_of_ble_eq_true rfl) c84 ?_
        refine ae_icmp_ge (pc := 36) (t := 70) dX10_load_36 (by decide) (fun c36 => ?_) (fun c36 => ?_)
        · have hk2 : k = r := by rw [nI_leI (by omega) (by omega)] at c36; omega
          subst hk2
          have hsz : M2.1 1 3 = nI k := by have := (AG_w hg2 hw2.1).2.2; rw [ldF_n (by omega)] at this; exact this
          refine ae_aload_n (pc := 70) dX10_load_70 rfl ?_
          refine ae_getR (pc := 71) (k := 0) (c := 10) (j := 2) (q := 8) dX10_load_71 rfl rfl (Nat.le_of_ble_eq_true rfl) rfl (Nat.le_of_ble_eq_true rfl) rfl ?_
          refine ae_iconst (pc := 74) (v := nI 0) dX10_load_74 (by decide) ?_
          refine ae_putfield (pc := 75) (k := 8) (c := 9) (j := 1) dX10_load_75 rfl rfl (Nat.le_of_ble_eq_true rfl) rfl (Nat.le_of_ble_eq_true rfl) rfl rfl ?_
          refine ae_aload_n (pc := 78) dX10_load_78 rfl ?_
          refine ae_getR (pc := 79) (k := 0) (c := 10) (j := 0) (q := 1) dX10_load_79 rfl rfl (Nat.le_of_ble_eq_true rfl) rfl (Nat.le_of_ble_eq_true rfl) rfl ?_
          refine ae_getI (pc := 82) (k := 1) (c := 7) (j := 3) (v := nI k) dX10_load_82 rfl rfl (Or.inl rfl) (Nat.le_of_ble_eq_true rfl) rfl (Nat.le_of_ble_eq_true rfl) (by rw [au0 (q := 1) _ _ _ (by decide)]; exact hsz) ?_
          refine ae_ireturn (pc := 85) dX10_load_85 rfl ?_
          refine ⟨rfl, ⟨hw2, AG_ne hg2 (fun q a b => am_u_ne M2.1 _ (by omega)), HI_ne ck.2.2.1 (fun q hq => (am_u_ne M2.1 _ (by omega)).trans (hr2 q (by omega))), ⟨by omega, by rw [au1, upd_self], fun i hi => absurd hi (Nat.not_lt_zero i)⟩⟩, fun q a b => (((am_u_ne M2.1 _ (by omega)).trans (hr2 q (by omega))).trans (rs q a b)).trans (rs1 q a b)⟩
        · have hk2 : k < r := by rw [nI_leI (by omega) (by omega)] at c36; omega
          have hn16 : fN (ldF (kpF f 1) rc rl k) < 16 := by rw [ldF_n (by omega)]; omega
          have ccv : M2.1 10 k = rc k := by rw [hr2 10 (by omega), q4 10 (by omega) (by omega), e10]; exact (hcc k hk2).1
          have clv : M2.1 11 k = rl k := by rw [hr2 11 (by omega), q4 11 (by omega) (by omega), e11]; exact (hcc k hk2).2
          have hap := sc_append 6 M2 k (by have := (AG_w hg2 hw2.1).2.2; rw [ldF_n (by omega)] at this; exact this) (by omega) (rc k) (rl k)
          have ag : AG (apM M2 k (rc k) (rl k)) (ldF (kpF f 1) rc rl (k + 1)) := by
            unfold apM
            rw [nar01 (hok k hk2).2, ← ldF_s (by omega)]
            have := agS_ad hw2.1 hg2 hn16 (rc k) (rl k)
            rw [ldF_n (show k < 1000 by omega)] at this
            exact AG_nw this
          have wf2 : wf (ldF (kpF f 1) rc rl (k + 1)) := by
            rw [← ldF_s (by omega)]
            exact wf_ad hw2 hn16 hz2 (hok k hk2).1 (hok k hk2).2
          have z2 : ldF (kpF f 1) rc rl (k + 1) 292 = 0 := by
            rw [← ldF_s (by omega), adF_292 hn16]; exact hz2
          have st := ih hk2 (apM M2 k (rc k) (rl k)) ag wf2 z2 (fun q hq => (apM_ne _ _ _ _ hq).trans (hr2 q hq))
          refine ae_aload_n (pc := 39) dX10_load_39 rfl ?_
          refine ae_getR (pc := 40) (k := 0) (c := 10) (j := 0) (q := 1) dX10_load_40 rfl rfl (Nat.le_of_ble_eq_true rfl) rfl (Nat.le_of_ble_eq_true rfl) rfl ?_
          refine ae_aload_n (pc := 43) dX10_load_43 rfl ?_
          refine ae_getR (pc := 44) (k := 0) (c := 10) (j := 2) (q := 8) dX10_load_44 rfl rfl (Nat.le_of_ble_eq_true rfl) rfl (Nat.le_of_ble_eq_true rfl) rfl ?_
          refine ae_getR (pc := 47) (k := 8) (c := 9) (j := 2) (q := 10) dX10_load_47 rfl rfl (Nat.le_of_ble_eq_true rfl) rfl (Nat.le_of_ble_eq_true rfl) rfl ?_
          refine ae_iload_n (pc := 50) dX10_load_50 rfl ?_
          refine ae_iaload (pc := 51) (k := 10) (N := 16) (v := rc k) (k) dX10_load_51 (Nat.le_of_ble_eq_true rfl) rfl rfl rfl (by omega) ccv ?_
          refine ae_aload_n (pc := 52) dX10_load_52 rfl ?_
          refine ae_getR (pc := 53) (k := 0) (c := 10) (j := 2) (q := 8) dX10_load_53 rfl rfl (Nat.le_of_ble_eq_true rfl) rfl (Nat.le_of_ble_eq_true rfl) rfl ?_
          refine ae_getR (pc := 56) (k := 8) (c := 9) (j := 3) (q := 11) dX10_load_56 rfl rfl (Nat.le_of_ble_eq_true rfl) rfl (Nat.le_of_ble_eq_true rfl) rfl ?_
          refine ae_iload_n (pc := 59) dX10_load_59 rfl ?_
          refine ae_baload (pc := 60) (k := 11) (N := 16) (v := rl k) (k) dX10_load_60 (Nat.le_of_ble_eq_true rfl) rfl rfl rfl (by omega) clv ?_
          refine ae_callV (pc := 61) (z := zX7_append) (k := 1) (As := [_, _]) dX10_load_61 rfl rfl rfl rfl (Nat.le_of_ble_eq_true rfl) rfl (Nat.le_of_ble_eq_true rfl) (Nat.le_of_ble_eq_true rfl) (hap) (fun v M' hq => ?_)
          obtain ⟨rfl, rfl⟩ := hq
          refine ae_iinc (pc := 64) (v := nI (k + 1)) dX10_load_64 rfl (nI_inc k) ?_
          refine ae_goto (pc := 67) (t := 28) dX10_load_67 (by decide) ?_
          exact st
      refine lp _ ?_ ?_ ?_ (fun k hk => am_u_ne M'.1 _ (by omega))
      · rw [ldF_0]
        unfold AG
        rw [au1, au0 (q := 2) _ _ _ (by decide), au0 (q := 3) _ _ _ (by decide), au0 (q := 4) _ _ _ (by decide), au0 (q := 5) _ _ _ (by decide)]
        exact agS_e0 ck.1.1 ck.2.1
      · rw [ldF_0]; exact wf_e0 ck.1 (kp292 f)
      · rw [ldF_0, upd_ne _ _ (by decide)]; exact kp292 f
    · obtain ⟨r1, r2, r3, r4, r5⟩ := h1
      have := sm_load 3 M1 u r2 hu n r4 ht.1 r rc rl (by rw [r5, hrs 43 (by omega) (by omega), hrs 44 (by omega) (by omega)]; exact hpe)
      rw [r1] at this
      refine this.mono (fun v M2 q => ?_)
      obtain ⟨q1, rfl⟩ := q
      have ef34 : (flM M1 r rc rl).1 34 = f := by rw [flM_ne _ _ _ _ (by decide)]; exact r1
      have ef35 : (flM M1 r rc rl).1 35 = past := by rw [flM_ne _ _ _ _ (by decide)]; exact r3
      refine ⟨q1, ⟨?_, ?_, ?_, ?_, ?_⟩, fun k hk => ?_⟩
      · rw [au0 (q := 34) _ _ _ (by decide), rw34_34]
      · rw [au1, upd_ne _ _ (by decide), upd_self]
      · rw [au0 (q := 35) _ _ _ (by decide), rw34_ne _ _ (by decide), kpM_35, ef34, ef35]
      · rw [au1, upd_self]
      · rw [au0 (q := 36) _ _ _ (by decide), rw34_ne _ _ (by decide), kpM_ne _ _ _ (by decide), flM_ne _ _ _ _ (by decide)]; exact r5
      · rw [au0 (q := k) _ _ _ (by omega), rw34_ne _ _ (by omega), kpM_ne _ _ _ (by omega), flM_ne _ _ _ _ (by omega)]
  · refine comb2 (r := -3) (f' := f) (u' := u) (past' := past) (n' := n) (t' := t) hR ?_ (fun M1 h1 hrs => ?_)
    · refine ae_enter (z := zX10_load) (y := yX10_load) (cc := cX10_load) (mL := 2) (rt := some .int) (ci := 10) (st := false) (np := 0) (L := [some (.ref 0), none]) rfl (by decide) (Nat.le_of_ble_eq_true rfl) rfl ?_
      refine ae_aload_n (pc := 0) dX10_load_0 rfl ?_
      refine ae_getR (pc := 1) (k := 0) (c := 10) (j := 2) (q := 8) dX10_load_1 rfl rfl (Nat.le_of_ble_eq_true rfl) rfl (Nat.le_of_ble_eq_true rfl) rfl ?_
      refine ae_callV (pc := 4) (z := zX9_parse) (k := 8) (As := []) dX10_load_4 rfl rfl rfl rfl (Nat.le_of_ble_eq_true rfl) rfl (Nat.le_of_ble_eq_true rfl) (Nat.le_of_ble_eq_true rfl) (hp) (fun v M' hq => ?_)
      obtain ⟨rfl, cc, cl, rfl, -⟩ := hq
      refine ae_iconst (pc := 7) (v := (-1)) dX10_load_7 (by decide) ?_
      refine ae_icmp_eq (pc := 8) (t := 14) dX10_load_8 (by decide) (fun c8 => ?_) (fun c8 => ?_)
      · exact absurd c8 hm1
      · refine ae_bipush (pc := 11) (v := (-3)) dX10_load_11 (by decide) ?_
        refine ae_ireturn (pc := 13) dX10_load_13 rfl ?_
        exact ⟨rfl, tx _ cc cl, fun k a b => txM_ne _ _ _ _ _ (by omega)⟩
    · have := sm_load0 3 M1 n h1.2.2.2.1 ht.1 (by rw [h1.2.2.2.2, prs_fst t n n 0 0 (M1.1 43) (M1.1 44) (M.1 43) (M.1 44)]; exact hm1)
      refine this.mono (fun v M2 q => ?_)
      obtain ⟨q1, rfl⟩ := q
      exact ⟨q1, RI_RK h1 (RK_fl _ _ _ _), (RK_fl _ _ _ _).2⟩
theorem sc_count_0 (d : Nat) (M : am_M) (f : fT) (u : Nat) (past : fT) (n : Nat) (t : fT) (hC : CK M f u past n t) : am_R (d + 3) zX10_count [.ref 0, .int (nI 0)] M (fun v M' => v = some (.int (cnt f (nI u) (nI n) 0)) ∧ M' = M) := by
  refine ae_enter (z := zX10_count) (y := yX10_count) (cc := cX10_count) (mL := 2) (rt := some .int) (ci := 10) (st := false) (np := 1) (L := [some (.ref 0), some (.int (nI 0))]) rfl (by decide) (Nat.le_of_ble_eq_true rfl) rfl ?_
  obtain ⟨hf, hg, -, -⟩ := id hC
  refine ae_iload_n (pc := 0) dX10_count_0 rfl ?_
  refine ae_tswI (pc := 1) (off := 55) (t := 56) dX10_count_1 (by decide) (by decide) rfl (by decide) ?_
  refine ae_aload_n (pc := 56) dX10_count_56 rfl ?_
  refine ae_getR (pc := 57) (k := 0) (c := 10) (j := 0) (q := 1) dX10_count_57 rfl rfl (Nat.le_of_ble_eq_true rfl) rfl (Nat.le_of_ble_eq_true rfl) rfl ?_
  refine ae_getI (pc := 60) (k := 1) (c := 7) (j := 0) (v := f 0) dX10_count_60 rfl rfl (Or.inl rfl) (Nat.le_of_ble_eq_true rfl) rfl (Nat.le_of_ble_eq_true rfl) (hg.1.1) ?_
  refine ae_ireturn (pc := 63) dX10_count_63 rfl ?_
  exact ⟨rfl, rfl⟩
theorem sc_count_1 (d : Nat) (M : am_M) (f : fT) (u : Nat) (past : fT) (n : Nat) (t : fT) (hC : CK M f u past n t) : am_R (d + 3) zX10_count [.ref 0, .int (nI 1)] M (fun v M' => v = some (.int (cnt f (nI u) (nI n) 1)) ∧ M' = M) := by
  refine ae_enter (z := zX10_count) (y := yX10_count) (cc := cX10_count) (mL := 2) (rt := some .int) (ci := 10) (st := false) (np := 1) (L := [some (.ref 0), some (.int (nI 1))]) rfl (by decide) (Nat.le_of_ble_eq_true rfl) rfl ?_
  obtain ⟨hf, hg, -, -⟩ := id hC
  refine ae_iload_n (pc := 0) dX10_count_0 rfl ?_
  refine ae_tswI (pc := 1) (off := 63) (t := 64) dX10_count_1 (by decide) (by decide) rfl (by decide) ?_
  refine ae_aload_n (pc := 64) dX10_count_64 rfl ?_
  refine ae_getR (pc := 65) (k := 0) (c := 10) (j := 0) (q := 1) dX10_count_65 rfl rfl (Nat.le_of_ble_eq_true rfl) rfl (Nat.le_of_ble_eq_true rfl) rfl ?_
  refine ae_getI (pc := 68) (k := 1) (c := 7) (j := 1) (v := f 1) dX10_count_68 rfl rfl (Or.inl rfl) (Nat.le_of_ble_eq_true rfl) rfl (Nat.le_of_ble_eq_true rfl) (hg.1.2.1) ?_
  refine ae_ireturn (pc := 71) dX10_count_71 rfl ?_
  exact ⟨rfl, rfl⟩
theorem sc_count_2 (d : Nat) (M : am_M) (f : fT) (u : Nat) (past : fT) (n : Nat) (t : fT) (hC : CK M f u past n t) : am_R (d + 3) zX10_count [.ref 0, .int (nI 2)] M (fun v M' => v = some (.int (cnt f (nI u) (nI n) 2)) ∧ M' = M) := by
  refine ae_enter (z := zX10_count) (y := yX10_count) (cc := cX10_count) (mL := 2) (rt := some .int) (ci := 10) (st := false) (np := 1) (L := [some (.ref 0), some (.int (nI 2))]) rfl (by decide) (Nat.le_of_ble_eq_true rfl) rfl ?_
  obtain ⟨hf, hg, -, -⟩ := id hC
  refine ae_iload_n (pc := 0) dX10_count_0 rfl ?_
  refine ae_tswI (pc := 1) (off := 71) (t := 72) dX10_count_1 (by decide) (by decide) rfl (by decide) ?_
  refine ae_aload_n (pc := 72) dX10_count_72 rfl ?_
  refine ae_getR (pc := 73) (k := 0) (c := 10) (j := 0) (q := 1) dX10_count_73 rfl rfl (Nat.le_of_ble_eq_true rfl) rfl (Nat.le_of_ble_eq_true rfl) rfl ?_
  refine ae_pcallV (pc := 76) (z := zX7_opaquePixels) (k := 1) (As := []) dX10_count_76 rfl rfl rfl rfl (Nat.le_of_ble_eq_true rfl) rfl (Nat.le_of_ble_eq_true rfl) (Nat.le_of_ble_eq_true rfl) (sc_opaquePixels d M f hg hf.1) ?_
  refine ae_ireturn (pc := 79) dX10_count_79 rfl ?_
  exact ⟨rfl, rfl⟩
theorem sc_count_3 (d : Nat) (M : am_M) (f : fT) (u : Nat) (past : fT) (n : Nat) (t : fT) (hC : CK M f u past n t) : am_R (d + 3) zX10_count [.ref 0, .int (nI 3)] M (fun v M' => v = some (.int (cnt f (nI u) (nI n) 3)) ∧ M' = M) := by
  refine ae_enter (z := zX10_count) (y := yX10_count) (cc := cX10_count) (mL := 2) (rt := some .int) (ci := 10) (st := false) (np := 1) (L := [some (.ref 0), some (.int (nI 3))]) rfl (by decide) (Nat.le_of_ble_eq_true rfl) rfl ?_
  obtain ⟨hf, hg, -, -⟩ := id hC
  refine ae_iload_n (pc := 0) dX10_count_0 rfl ?_
  refine ae_tswI (pc := 1) (off := 79) (t := 80) dX10_count_1 (by decide) (by decide) rfl (by decide) ?_
  refine ae_aload_n (pc := 80) dX10_count_80 rfl ?_
  refine ae_getR (pc := 81) (k := 0) (c := 10) (j := 0) (q := 1) dX10_count_81 rfl rfl (Nat.le_of_ble_eq_true rfl) rfl (Nat.le_of_ble_eq_true rfl) rfl ?_
  refine ae_pcallV (pc := 84) (z := zX7_area) (k := 1) (As := []) dX10_count_84 rfl rfl rfl rfl (Nat.le_of_ble_eq_true rfl) rfl (Nat.le_of_ble_eq_true rfl) (Nat.le_of_ble_eq_true rfl) (sc_area (d + 1) M f hg hf.1) ?_
  refine ae_aload_n (pc := 87) dX10_count_87 rfl ?_
  refine ae_getR (pc := 88) (k := 0) (c := 10) (j := 0) (q := 1) dX10_count_88 rfl rfl (Nat.le_of_ble_eq_true rfl) rfl (Nat.le_of_ble_eq_true rfl) rfl ?_
  refine ae_pcallV (pc := 91) (z := zX7_opaquePixels) (k := 1) (As := []) dX10_count_91 rfl rfl rfl rfl (Nat.le_of_ble_eq_true rfl) rfl (Nat.le_of_ble_eq_true rfl) (Nat.le_of_ble_eq_true rfl) (sc_opaquePixels d M f hg hf.1) ?_
  refine ae_isub (pc := 94) dX10_count_94 rfl ?_
  refine ae_ireturn (pc := 95) dX10_count_95 rfl ?_
  exact ⟨rfl, rfl⟩
theorem sc_count_4 (d : Nat) (M : am_M) (f : fT) (u : Nat) (past : fT) (n : Nat) (t : fT) (hC : CK M f u past n t) : am_R (d + 3) zX10_count [.ref 0, .int (nI 4)] M (fun v M' => v = some (.int (cnt f (nI u) (nI n) 4)) ∧ M' = M) := by
  refine ae_enter (z := zX10_count) (y := yX10_count) (cc := cX10_count) (mL := 2) (rt := some .int) (ci := 10) (st := false) (np := 1) (L := [some (.ref 0), some (.int (nI 4))]) rfl (by decide) (Nat.le_of_ble_eq_true rfl) rfl ?_
  obtain ⟨hf, hg, -, -⟩ := id hC
  refine ae_iload_n (pc := 0) dX10_count_0 rfl ?_
  refine ae_tswI (pc := 1) (off := 95) (t := 96) dX10_count_1 (by decide) (by decide) rfl (by decide) ?_
  refine ae_aload_n (pc := 96) dX10_count_96 rfl ?_
  refine ae_getR (pc := 97) (k := 0) (c := 10) (j := 0) (q := 1) dX10_count_97 rfl rfl (Nat.le_of_ble_eq_true rfl) rfl (Nat.le_of_ble_eq_true rfl) rfl ?_
  refine ae_getI (pc := 100) (k := 1) (c := 7) (j := 3) (v := f 258) dX10_count_100 rfl rfl (Or.inl rfl) (Nat.le_of_ble_eq_true rfl) rfl (Nat.le_of_ble_eq_true rfl) (hg.1.2.2.1) ?_
  refine ae_ireturn (pc := 103) dX10_count_103 rfl ?_
  exact ⟨rfl, rfl⟩
theorem sc_count_5 (d : Nat) (M : am_M) (f : fT) (u : Nat) (past : fT) (n : Nat) (t : fT) (hC : CK M f u past n t) : am_R (d + 3) zX10_count [.ref 0, .int (nI 5)] M (fun v M' => v = some (.int (cnt f (nI u) (nI n) 5)) ∧ M' = M) := by
  refine ae_enter (z := zX10_count) (y := yX10_count) (cc := cX10_count) (mL := 2) (rt := some .int) (ci := 10) (st := false) (np := 1) (L := [some (.ref 0), some (.int (nI 5))]) rfl (by decide) (Nat.le_of_ble_eq_true rfl) rfl ?_
  obtain ⟨hf, hg, -, -⟩ := id hC
  refine ae_iload_n (pc := 0) dX10_count_0 rfl ?_
  refine ae_tswI (pc := 1) (off := 103) (t := 104) dX10_count_1 (by decide) (by decide) rfl (by decide) ?_
  refine ae_aload_n (pc := 104) dX10_count_104 rfl ?_
  refine ae_getR (pc := 105) (k := 0) (c := 10) (j := 0) (q := 1) dX10_count_105 rfl rfl (Nat.le_of_ble_eq_true rfl) rfl (Nat.le_of_ble_eq_true rfl) rfl ?_
  refine ae_pcallV (pc := 108) (z := zX7_lockedEntries) (k := 1) (As := []) dX10_count_108 rfl rfl rfl rfl (Nat.le_of_ble_eq_true rfl) rfl (Nat.le_of_ble_eq_true rfl) (Nat.le_of_ble_eq_true rfl) (sc_lockedEntries (d + 1) M f hg hf) ?_
  refine ae_ireturn (pc := 111) dX10_count_111 rfl ?_
  exact ⟨rfl, rfl⟩
theorem sc_count_6 (d : Nat) (M : am_M) (f : fT) (u : Nat) (past : fT) (n : Nat) (t : fT) (hC : CK M f u past n t) : am_R (d + 3) zX10_count [.ref 0, .int (nI 6)] M (fun v M' => v = some (.int (cnt f (nI u) (nI n) 6)) ∧ M' = M) := by
  refine ae_enter (z := zX10_count) (y := yX10_count) (cc := cX10_count) (mL := 2) (rt := some .int) (ci := 10) (st := false) (np := 1) (L := [some (.ref 0), some (.int (nI 6))]) rfl (by decide) (Nat.le_of_ble_eq_true rfl) rfl ?_
  obtain ⟨hf, hg, -, -⟩ := id hC
  refine ae_iload_n (pc := 0) dX10_count_0 rfl ?_
  refine ae_tswI (pc := 1) (off := 111) (t := 112) dX10_count_1 (by decide) (by decide) rfl (by decide) ?_
  refine ae_aload_n (pc := 112) dX10_count_112 rfl ?_
  refine ae_getR (pc := 113) (k := 0) (c := 10) (j := 0) (q := 1) dX10_count_113 rfl rfl (Nat.le_of_ble_eq_true rfl) rfl (Nat.le_of_ble_eq_true rfl) rfl ?_
  refine ae_getI (pc := 116) (k := 1) (c := 7) (j := 6) (v := f 291) dX10_count_116 rfl rfl (Or.inl rfl) (Nat.le_of_ble_eq_true rfl) rfl (Nat.le_of_ble_eq_true rfl) (hg.1.2.2.2.1) ?_
  refine ae_ireturn (pc := 119) dX10_count_119 rfl ?_
  exact ⟨rfl, rfl⟩
theorem sc_count_7 (d : Nat) (M : am_M) (f : fT) (u : Nat) (past : fT) (n : Nat) (t : fT) (hC : CK M f u past n t) : am_R (d + 3) zX10_count [.ref 0, .int (nI 7)] M (fun v M' => v = some (.int (cnt f (nI u) (nI n) 7)) ∧ M' = M) := by
  refine ae_enter (z := zX10_count) (y := yX10_count) (cc := cX10_count) (mL := 2) (rt := some .int) (ci := 10) (st := false) (np := 1) (L := [some (.ref 0), some (.int (nI 7))]) rfl (by decide) (Nat.le_of_ble_eq_true rfl) rfl ?_
  obtain ⟨hf, hg, -, -⟩ := id hC
  refine ae_iload_n (pc := 0) dX10_count_0 rfl ?_
  refine ae_tswI (pc := 1) (off := 119) (t := 120) dX10_count_1 (by decide) (by decide) rfl (by decide) ?_
  refine ae_aload_n (pc := 120) dX10_count_120 rfl ?_
  refine ae_getR (pc := 121) (k := 0) (c := 10) (j := 0) (q := 1) dX10_count_121 rfl rfl (Nat.le_of_ble_eq_true rfl) rfl (Nat.le_of_ble_eq_true rfl) rfl ?_
  refine ae_getI (pc := 124) (k := 1) (c := 7) (j := 7) (v := f 292) dX10_count_124 rfl rfl (Or.inr rfl) (Nat.le_of_ble_eq_true rfl) rfl (Nat.le_of_ble_eq_true rfl) (hg.1.2.2.2.2) ?_
  refine ae_if_eq (pc := 127) (t := 134) dX10_count_127 (by decide) (fun c127 => ?_) (fun c127 => ?_)
  · refine ae_iconst (pc := 134) (v := nI 0) dX10_count_134 (by decide) ?_
    refine ae_ireturn (pc := 135) dX10_count_135 rfl ?_
    refine ⟨?_, rfl⟩
    show _ = some (Value.int (f 292))
    first | (rw [c127]; rfl) | (rw [hf.2.2.2.2.1.resolve_left c127]; rfl)
  · refine ae_iconst (pc := 130) (v := nI 1) dX10_count_130 (by decide) ?_
    refine ae_goto (pc := 131) (t := 135) dX10_count_131 (by decide) ?_
    refine ae_ireturn (pc := 135) dX10_count_135 rfl ?_
    refine ⟨?_, rfl⟩
    show _ = some (Value.int (f 292))
    first | (rw [c127]; rfl) | (rw [hf.2.2.2.2.1.resolve_left c127]; rfl)
theorem sc_count_8 (d : Nat) (M : am_M) (f : fT) (u : Nat) (past : fT) (n : Nat) (t : fT) (hC : CK M f u past n t) : am_R (d + 3) zX10_count [.ref 0, .int (nI 8)] M (fun v M' => v = some (.int (cnt f (nI u) (nI n) 8)) ∧ M' = M) := by
  refine ae_enter (z := zX10_count) (y := yX10_count) (cc := cX10_count) (mL := 2) (rt := some .int) (ci := 10) (st := false) (np := 1) (L := [some (.ref 0), some (.int (nI 8))]) rfl (by decide) (Nat.le_of_ble_eq_true rfl) rfl ?_
  obtain ⟨hf, hg, -, -⟩ := id hC
  refine ae_iload_n (pc := 0) dX10_count_0 rfl ?_
  refine ae_tswI (pc := 1) (off := 135) (t := 136) dX10_count_1 (by decide) (by decide) rfl (by decide) ?_
  refine ae_aload_n (pc := 136) dX10_count_136 rfl ?_
  refine ae_getR (pc := 137) (k := 0) (c := 10) (j := 1) (q := 6) dX10_count_137 rfl rfl (Nat.le_of_ble_eq_true rfl) rfl (Nat.le_of_ble_eq_true rfl) rfl ?_
  refine ae_getI (pc := 140) (k := 6) (c := 2) (j := 2) (v := nI u) dX10_count_140 rfl rfl (Or.inl rfl) (Nat.le_of_ble_eq_true rfl) rfl (Nat.le_of_ble_eq_true rfl) (hC.2.2.1.2.1) ?_
  refine ae_ireturn (pc := 143) dX10_count_143 rfl ?_
  exact ⟨rfl, rfl⟩
theorem sc_count_9 (d : Nat) (M : am_M) (f : fT) (u : Nat) (past : fT) (n : Nat) (t : fT) (hC : CK M f u past n t) : am_R (d + 3) zX10_count [.ref 0, .int (nI 9)] M (fun v M' => v = some (.int (cnt f (nI u) (nI n) 9)) ∧ M' = M) := by
  refine ae_enter (z := zX10_count) (y := yX10_count) (cc := cX10_count) (mL := 2) (rt := some .int) (ci := 10) (st := false) (np := 1) (L := [some (.ref 0), some (.int (nI 9))]) rfl (by decide) (Nat.le_of_ble_eq_true rfl) rfl ?_
  obtain ⟨hf, hg, -, -⟩ := id hC
  refine ae_iload_n (pc := 0) dX10_count_0 rfl ?_
  refine ae_tswI (pc := 1) (off := 143) (t := 144) dX10_count_1 (by decide) (by decide) rfl (by decide) ?_
  refine ae_aload_n (pc := 144) dX10_count_144 rfl ?_
  refine ae_getR (pc := 145) (k := 0) (c := 10) (j := 2) (q := 8) dX10_count_145 rfl rfl (Nat.le_of_ble_eq_true rfl) rfl (Nat.le_of_ble_eq_true rfl) rfl ?_
  refine ae_getI (pc := 148) (k := 8) (c := 9) (j := 1) (v := nI n) dX10_count_148 rfl rfl (Or.inl rfl) (Nat.le_of_ble_eq_true rfl) rfl (Nat.le_of_ble_eq_true rfl) (hC.2.2.2.2.1) ?_
  refine ae_ireturn (pc := 151) dX10_count_151 rfl ?_
  exact ⟨rfl, rfl⟩
theorem sc_count0 (d : Nat) (M : am_M) (x : Int32) (hx : x.toInt < 0 ∨ 9 < x.toInt) : am_R (d + 1) zX10_count [.ref 0, .int x] M (fun v M' => v = some (.int (-2)) ∧ M' = M) := by
  refine ae_enter (z := zX10_count) (y := yX10_count) (cc := cX10_count) (mL := 2) (rt := some .int) (ci := 10) (st := false) (np := 1) (L := [some (.ref 0), some (.int x)]) rfl (by decide) (Nat.le_of_ble_eq_true rfl) rfl ?_
  refine ae_iload_n (pc := 0) dX10_count_0 rfl ?_
  refine ae_tswO (pc := 1) (t := 152) dX10_count_1 hx (by decide) ?_
  refine ae_bipush (pc := 152) (v := (-2)) dX10_count_152 (by decide) ?_
  refine ae_ireturn (pc := 154) dX10_count_154 rfl ?_
  exact ⟨rfl, rfl⟩
theorem sc_count (d : Nat) (M : am_M) (f : fT) (u : Nat) (past : fT) (n : Nat) (t : fT) (hC : CK M f u past n t) (k : Nat) (hk : k < 10) : am_R (d + 3) zX10_count [.ref 0, .int (nI k)] M (fun v M' => v = some (.int (cnt f (nI u) (nI n) k)) ∧ M' = M) := by
  match k, hk with
  | 0, _ => exact sc_count_0 d M f u past n t hC
  | 1, _ => exact sc_count_1 d M f u past n t hC
  | 2, _ => exact sc_count_2 d M f u past n t hC
  | 3, _ => exact sc_count_3 d M f u past n t hC
  | 4, _ => exact sc_count_4 d M f u past n t hC
  | 5, _ => exact sc_count_5 d M f u past n t hC
  | 6, _ => exact sc_count_6 d M f u past n t hC
  | 7, _ => exact sc_count_7 d M f u past n t hC
  | 8, _ => exact sc_count_8 d M f u past n t hC
  | 9, _ => exact sc_count_9 d M f u past n t hC
theorem st_count (M : am_M) (hI : INV M) (x : Int32) : STEP M zX10_count [.ref 0, .int x] zX11_count [.ref 33, .int x] := by
  obtain ⟨f, u, past, n, t, hC, hR⟩ := hI
  obtain ⟨hf, hg, hh, ht⟩ := id hC
  by_cases h : x.toInt < 0 ∨ 9 < x.toInt
  · refine stepR (r := -2) hC hR ((sc_count0 7 M x h).mono (fun v M1 q => ⟨q.1, by rw [q.2]; exact hg, by rw [q.2]; exact FR_refl M⟩)) (fun M1 h1 => roM (sm_count0 7 M1 x h))
  · have hx0 : 0 ≤ x := by rw [Int32.le_iff_toInt_le, Int32.toInt_zero]; omega
    have hx := nI_ge0 hx0
    have hxl : x.toNatClampNeg < 10 := by unfold Int32.toNatClampNeg; omega
    generalize x.toNatClampNeg = k at *
    subst hx
    refine stepR (r := cnt f (nI u) (nI n) k) hC hR ((sc_count 5 M f u past n t hC k hxl).mono (fun v M1 q => ⟨q.1, by rw [q.2]; exact hg, by rw [q.2]; exact FR_refl M⟩)) (fun M1 h1 => ?_)
    have := sm_count 5 M1 (by rw [h1.1]; exact hf) k hxl
    rw [h1.1, h1.2.1, h1.2.2.2.1] at this
    exact roM this
theorem sc_mix (d : Nat) (M : am_M) (h : Int64) (x : Int32) : am_R (d + 1) zX10_mix [.long h, .int x] M (fun v M' => v = some (.long (31 * h + x.toInt64)) ∧ M' = M) := by
  refine ae_enter (z := zX10_mix) (y := yX10_mix) (cc := cX10_mix) (mL := 3) (rt := some .long) (ci := 10) (st := true) (np := 2) (L := [some (.long h), none, some (.int x)]) rfl (by decide) (Nat.le_of_ble_eq_true rfl) rfl ?_
  refine ae_ldc2_w (pc := 0) dX10_mix_0 rfl ?_
  refine ae_lload_n (pc := 3) dX10_mix_3 rfl ?_
  refine ae_lmul (pc := 4) dX10_mix_4 rfl ?_
  refine ae_iload_n (pc := 5) dX10_mix_5 rfl ?_
  refine ae_i2l (pc := 6) dX10_mix_6 rfl ?_
  refine ae_ladd (pc := 7) dX10_mix_7 rfl ?_
  refine ae_lreturn (pc := 8) dX10_mix_8 rfl ?_
  exact ⟨rfl, rfl⟩
theorem sc_mixAll_2 (d : Nat) (M : am_M) (h0 : Int64) (len : Nat) (hl : len ≤ 256) : am_R (d + 2) zX10_mixAll [.long h0, .ref 2, .int (nI len)] M (fun v M' => v = some (.long (mxR (M.1 2) h0 len)) ∧ M' = M) := by
  refine ae_enter (z := zX10_mixAll) (y := yX10_mixAll) (cc := cX10_mixAll) (mL := 7) (rt := some .long) (ci := 10) (st := true) (np := 3) (L := [some (.long h0), none, some (.ref 2), some (.int (nI len)), none, none, none]) rfl (by decide) (Nat.le_of_ble_eq_true rfl) rfl ?_
  have st : am_E none (am_R (d + 1)) cX10_mixAll 10 (some .long) (fun v M' => v = some (.long (mxR (M.1 2) h0 len)) ∧ M' = M) (6, [some (.long h0), none, some (.ref 2), some (.int (nI len)), some (.long (mxR (M.1 2) h0 0)), none, some (.int (nI 0))], [], M) := by
    refine am_down (P := fun k => am_E none (am_R (d + 1)) cX10_mixAll 10 (some .long) _ (6, [some (.long h0), none, some (.ref 2), some (.int (nI len)), some (.long (mxR (M.1 2) h0 k)), none, some (.int (nI k))], [], M)) len (fun k hk ih => ?_)
    refine ae_iload (pc := 6) dX10_mixAll_6 rfl ?_
    refine ae_iload_n (pc := 8) dX10_mixAll_8 rfl ?_
    refine ae_icmp_ge (pc := 9) (t := 36) dX10_mixAll_9 (by decide) (fun c9 => ?_) (fun c9 => ?_)
    · have hk2 : k = len := by rw [nI_leI (by omega) (by omega)] at c9; omega
      subst hk2
      refine ae_lload (pc := 36) dX10_mixAll_36 rfl ?_
      refine ae_lreturn (pc := 38) dX10_mixAll_38 rfl ?_
      exact ⟨rfl, rfl⟩
    · have hk2 : k < len := by rw [nI_leI (by omega) (by omega)] at c9; omega
      refine ae_iload (pc := 12) dX10_mixAll_12 rfl ?_
      refine ae_aload_n (pc := 14) dX10_mixAll_14 rfl ?_
      refine ae_arraylength (pc := 15) (k := 2) (v := nI 256) dX10_mixAll_15 (Nat.le_of_ble_eq_true rfl) (by decide) rfl ?_
      refine ae_icmp_ge (pc := 16) (t := 36) dX10_mixAll_16 (by decide) (fun c16 => ?_) (fun c16 => ?_)
      · exact absurd ((nI_leI (by omega) (by omega)).mp c16) (by omega)
      refine ae_lload (pc := 19) dX10_mixAll_19 rfl ?_
      refine ae_aload_n (pc := 21) dX10_mixAll_21 rfl ?_
      refine ae_iload (pc := 22) dX10_mixAll_22 rfl ?_
      refine ae_iaload (pc := 24) (k := 2) (N := 256) (k) dX10_mixAll_24 (Nat.le_of_ble_eq_true rfl) rfl rfl rfl (by omega) rfl ?_
      refine ae_pcallS (pc := 25) (z := zX10_mix) (As := [_, _]) dX10_mixAll_25 rfl rfl rfl rfl (Nat.le_of_ble_eq_true rfl) (sc_mix d _ _ _) ?_
      refine ae_lstore (pc := 28) dX10_mixAll_28 rfl (Nat.le_of_ble_eq_true rfl) ?_
      refine ae_iinc (pc := 30) (v := nI (k + 1)) dX10_mixAll_30 rfl (nI_inc k) ?_
      refine ae_goto (pc := 33) (t := 6) dX10_mixAll_33 (by decide) ?_
      exact ih hk2
  refine ae_lload_n (pc := 0) dX10_mixAll_0 rfl ?_
  refine ae_lstore (pc := 1) dX10_mixAll_1 rfl (Nat.le_of_ble_eq_true rfl) ?_
  refine ae_iconst (pc := 3) (v := nI 0) dX10_mixAll_3 (by decide) ?_
  refine ae_istore (pc := 4) dX10_mixAll_4 rfl (Nat.le_of_ble_eq_true rfl) ?_
  exact st
theorem sc_mixAll_5 (d : Nat) (M : am_M) (h0 : Int64) (len : Nat) (hl : len ≤ 256) : am_R (d + 2) zX10_mixAll [.long h0, .ref 5, .int (nI len)] M (fun v M' => v = some (.long (mxR (M.1 5) h0 len)) ∧ M' = M) := by
  refine ae_enter (z := zX10_mixAll) (y := yX10_mixAll) (cc := cX10_mixAll) (mL := 7) (rt := some .long) (ci := 10) (st := true) (np := 3) (L := [some (.long h0), none, some (.ref 5), some (.int (nI len)), none, none, none]) rfl (by decide) (Nat.le_of_ble_eq_true rfl) rfl ?_
  have st : am_E none (am_R (d + 1)) cX10_mixAll 10 (some .long) (fun v M' => v = some (.long (mxR (M.1 5) h0 len)) ∧ M' = M) (6, [some (.long h0), none, some (.ref 5), some (.int (nI len)), some (.long (mxR (M.1 5) h0 0)), none, some (.int (nI 0))], [], M) := by
    refine am_down (P := fun k => am_E none (am_R (d + 1)) cX10_mixAll 10 (some .long) _ (6, [some (.long h0), none, some (.ref 5), some (.int (nI len)), some (.long (mxR (M.1 5) h0 k)), none, some (.int (nI k))], [], M)) len (fun k hk ih => ?_)
    refine ae_iload (pc := 6) dX10_mixAll_6 rfl ?_
    refine ae_iload_n (pc := 8) dX10_mixAll_8 rfl ?_
    refine ae_icmp_ge (pc := 9) (t := 36) dX10_mixAll_9 (by decide) (fun c9 => ?_) (fun c9 => ?_)
    · have hk2 : k = len := by rw [nI_leI (by omega) (by omega)] at c9; omega
      subst hk2
      refine ae_lload (pc := 36) dX10_mixAll_36 rfl ?_
      refine ae_lreturn (pc := 38) dX10_mixAll_38 rfl ?_
      exact ⟨rfl, rfl⟩
    · have hk2 : k < len := by rw [nI_leI (by omega) (by omega)] at c9; omega
      refine ae_iload (pc := 12) dX10_mixAll_12 rfl ?_
      refine ae_aload_n (pc := 14) dX10_mixAll_14 rfl ?_
      refine ae_arraylength (pc := 15) (k := 5) (v := nI 256) dX10_mixAll_15 (Nat.le_of_ble_eq_true rfl) (by decide) rfl ?_
      refine ae_icmp_ge (pc := 16) (t := 36) dX10_mixAll_16 (by decide) (fun c16 => ?_) (fun c16 => ?_)
      · exact absurd ((nI_leI (by omega) (by omega)).mp c16) (by omega)
      refine ae_lload (pc := 19) dX10_mixAll_19 rfl ?_
      refine ae_aload_n (pc := 21) dX10_mixAll_21 rfl ?_
      refine ae_iload (pc := 22) dX10_mixAll_22 rfl ?_
      refine ae_iaload (pc := 24) (k := 5) (N := 256) (k) dX10_mixAll_24 (Nat.le_of_ble_eq_true rfl) rfl rfl rfl (by omega) rfl ?_
      refine ae_pcallS (pc := 25) (z := zX10_mix) (As := [_, _]) dX10_mixAll_25 rfl rfl rfl rfl (Nat.le_of_ble_eq_true rfl) (sc_mix d _ _ _) ?_
      refine ae_lstore (pc := 28) dX10_mixAll_28 rfl (Nat.le_of_ble_eq_true rfl) ?_
      refine ae_iinc (pc := 30) (v := nI (k + 1)) dX10_mixAll_30 rfl (nI_inc k) ?_
      refine ae_goto (pc := 33) (t := 6) dX10_mixAll_33 (by decide) ?_
      exact ih hk2
  refine ae_lload_n (pc := 0) dX10_mixAll_0 rfl ?_
  refine ae_lstore (pc := 1) dX10_mixAll_1 rfl (Nat.le_of_ble_eq_true rfl) ?_
  refine ae_iconst (pc := 3) (v := nI 0) dX10_mixAll_3 (by decide) ?_
  refine ae_istore (pc := 4) dX10_mixAll_4 rfl (Nat.le_of_ble_eq_true rfl) ?_
  exact st
theorem sc_mixAll_9 (d : Nat) (M : am_M) (h0 : Int64) (len : Nat) (hl : len ≤ 140) : am_R (d + 2) zX10_mixAll [.long h0, .ref 9, .int (nI len)] M (fun v M' => v = some (.long (mxR (M.1 9) h0 len)) ∧ M' = M) := by
  refine ae_enter (z := zX10_mixAll) (y := yX10_mixAll) (cc := cX10_mixAll) (mL := 7) (rt := some .long) (ci := 10) (st := true) (np := 3) (L := [some (.long h0), none, some (.ref 9), some (.int (nI len)), none, none, none]) rfl (by decide) (Nat.le_of_ble_eq_true rfl) rfl ?_
  have st : am_E none (am_R (d + 1)) cX10_mixAll 10 (some .long) (fun v M' => v = some (.long (mxR (M.1 9) h0 len)) ∧ M' = M) (6, [some (.long h0), none, some (.ref 9), some (.int (nI len)), some (.long (mxR (M.1 9) h0 0)), none, some (.int (nI 0))], [], M) := by
    refine am_down (P := fun k => am_E none (am_R (d + 1)) cX10_mixAll 10 (some .long) _ (6, [some (.long h0), none, some (.ref 9), some (.int (nI len)), some (.long (mxR (M.1 9) h0 k)), none, some (.int (nI k))], [], M)) len (fun k hk ih => ?_)
    refine ae_iload (pc := 6) dX10_mixAll_6 rfl ?_
    refine ae_iload_n (pc := 8) dX10_mixAll_8 rfl ?_
    refine ae_icmp_ge (pc := 9) (t := 36) dX10_mixAll_9 (by decide) (fun c9 => ?_) (fun c9 => ?_)
    · have hk2 : k = len := by rw [nI_leI (by omega) (by omega)] at c9; omega
      subst hk2
      refine ae_lload (pc := 36) dX10_mixAll_36 rfl ?_
      refine ae_lreturn (pc := 38) dX10_mixAll_38 rfl ?_
      exact ⟨rfl, rfl⟩
    · have hk2 : k < len := by rw [nI_leI (by omega) (by omega)] at c9; omega
      refine ae_iload (pc := 12) dX10_mixAll_12 rfl ?_
      refine ae_aload_n (pc := 14) dX10_mixAll_14 rfl ?_
      refine ae_arraylength (pc := 15) (k := 9) (v := nI 140) dX10_mixAll_15 (Nat.le_of_ble_eq_true rfl) (by decide) rfl ?_
      refine ae_icmp_ge (pc := 16) (t := 36) dX10_mixAll_16 (by decide) (fun c16 => ?_) (fun c16 => ?_)
      · exact absurd ((nI_leI (by omega) (by omega)).mp c16) (by omega)
      refine ae_lload (pc := 19) dX10_mixAll_19 rfl ?_
      refine ae_aload_n (pc := 21) dX10_mixAll_21 rfl ?_
      refine ae_iload (pc := 22) dX10_mixAll_22 rfl ?_
      refine ae_iaload (pc := 24) (k := 9) (N := 140) (k) dX10_mixAll_24 (Nat.le_of_ble_eq_true rfl) rfl rfl rfl (by omega) rfl ?_
      refine ae_pcallS (pc := 25) (z := zX10_mix) (As := [_, _]) dX10_mixAll_25 rfl rfl rfl rfl (Nat.le_of_ble_eq_true rfl) (sc_mix d _ _ _) ?_
      refine ae_lstore (pc := 28) dX10_mixAll_28 rfl (Nat.le_of_ble_eq_true rfl) ?_
      refine ae_iinc (pc := 30) (v := nI (k + 1)) dX10_mixAll_30 rfl (nI_inc k) ?_
      refine ae_goto (pc := 33) (t := 6) dX10_mixAll_33 (by decide) ?_
      exact ih hk2
  refine ae_lload_n (pc := 0) dX10_mixAll_0 rfl ?_
  refine ae_lstore (pc := 1) dX10_mixAll_1 rfl (Nat.le_of_ble_eq_true rfl) ?_
  refine ae_iconst (pc := 3) (v := nI 0) dX10_mixAll_3 (by decide) ?_
  refine ae_istore (pc := 4) dX10_mixAll_4 rfl (Nat.le_of_ble_eq_true rfl) ?_
  exact st
theorem sc_mixEntries (d : Nat) (M : am_M) (f : fT) (hg : AG M f) (hf : wf f) (h0 : Int64) : am_R (d + 4) zX10_mixEntries [.ref 0, .long h0] M (fun v M' => v = some (.long (mxR (fun k => ent f (k / 4) (k % 4)) h0 (4 * fN f))) ∧ AG M' f ∧ FR M M') := by
  refine ae_enter (z := zX10_mixEntries) (y := yX10_mixEntries) (cc := cX10_mixEntries) (mL := 6) (rt := some .long) (ci := 10) (st := false) (np := 1) (L := [some (.ref 0), some (.long h0), none, none, none, none]) rfl (by decide) (Nat.le_of_ble_eq_true rfl) rfl ?_
  have hN := hf.1.2.2.2
  refine ae_lload_n (pc := 0) dX10_mixEntries_0 rfl ?_
  refine ae_lstore_n (pc := 1) dX10_mixEntries_1 rfl (Nat.le_of_ble_eq_true rfl) ?_
  refine ae_aload_n (pc := 2) dX10_mixEntries_2 rfl ?_
  refine ae_getR (pc := 3) (k := 0) (c := 10) (j := 4) (q := 16) dX10_mixEntries_3 rfl rfl (Nat.le_of_ble_eq_true rfl) rfl (Nat.le_of_ble_eq_true rfl) rfl ?_
  refine ae_callV (pc := 6) (z := zX8_takeStock) (k := 16) (As := []) dX10_mixEntries_6 rfl rfl rfl rfl (Nat.le_of_ble_eq_true rfl) rfl (Nat.le_of_ble_eq_true rfl) (Nat.le_of_ble_eq_true rfl) (sc_takeStock d M f hg hf) (fun v M1 hq => ?_)
  obtain ⟨rfl, hsv⟩ := hq
  obtain ⟨hg1, fr1, -, -, sf⟩ := SV_of hg hsv
  obtain ⟨-, -, a3⟩ := AG_w hg1 hf.1
  have lp : am_E none (am_R (d + 3)) cX10_mixEntries 10 (some .long) (fun v M' => v = some (.long (mxR (fun k => ent f (k / 4) (k % 4)) h0 (4 * fN f))) ∧ AG M' f ∧ FR M M') (12, [some (.ref 0), some (.long h0), none, some (.long (mxR (fun k => ent f (k / 4) (k % 4)) h0 (4 * 0))), none, some (.int (nI 0))], [], M1) := by
    refine am_down (P := fun e => am_E none (am_R (d + 3)) cX10_mixEntries 10 (some .long) _ (12, [some (.ref 0), some (.long h0), none, some (.long (mxR (fun k => ent f (k / 4) (k % 4)) h0 (4 * e))), none, some (.int (nI e))], [], M1)) (fN f) (fun e he ih => ?_)
    refine ae_iload (pc := 12) dX10_mixEntries_12 rfl ?_
    refine ae_aload_n (pc := 14) dX10_mixEntries_14 rfl ?_
    refine ae_getR (pc := 15) (k := 0) (c := 10) (j := 0) (q := 1) dX10_mixEntries_15 rfl rfl (Nat.le_of_ble_eq_true rfl) rfl (Nat.le_of_ble_eq_true rfl) rfl ?_
    refine ae_getI (pc := 18) (k := 1) (c := 7) (j := 3) (v := nI (fN f)) dX10_mixEntries_18 rfl rfl (Or.inl rfl) (Nat.le_of_ble_eq_true rfl) rfl (Nat.le_of_ble_eq_true rfl) a3 ?_
    refine ae_icmp_ge (pc := 21) (t := 97) dX10_mixEntries_21 (by decide) (fun c21 => ?_) (fun c21 => ?_)
    · have he2 : e = fN f := by rw [nI_leI (by omega) (by omega)] at c21; omega
      subst he2
      refine ae_lload_n (pc := 97) dX10_mixEntries_97 rfl ?_
      refine ae_lreturn (pc := 98) dX10_mixEntries_98 rfl ?_
      exact ⟨rfl, hg1, fr1⟩
    · have he2 : e < fN f := by rw [nI_leI (by omega) (by omega)] at c21; omega
      have ih2 := ih he2
      rw [mxR4] at ih2
      have h01 := (hf.2.2.1 e he2).2
      have e1 : f (275 + e) = 0 → ent f e 1 = nI 0 := fun q => q
      have e2 : f (275 + e) = 1 → ent f e 1 = nI 1 := fun q => q
      refine ae_lload_n (pc := 24) dX10_mixEntries_24 rfl ?_
      refine ae_aload_n (pc := 25) dX10_mixEntries_25 rfl ?_
      refine ae_getR (pc := 26) (k := 0) (c := 10) (j := 0) (q := 1) dX10_mixEntries_26 rfl rfl (Nat.le_of_ble_eq_true rfl) rfl (Nat.le_of_ble_eq_true rfl) rfl ?_
      refine ae_getR (pc := 29) (k := 1) (c := 7) (j := 4) (q := 3) dX10_mixEntries_29 rfl rfl (Nat.le_of_ble_eq_true rfl) rfl (Nat.le_of_ble_eq_true rfl) rfl ?_
      refine ae_iload (pc := 32) dX10_mixEntries_32 rfl ?_
      refine ae_iaload (pc := 34) (k := 3) (N := 16) (v := ent f e 0) (e) dX10_mixEntries_34 (Nat.le_of_ble_eq_true rfl) rfl rfl rfl (by omega) ((hg1.2.2.1 e he2).1) ?_
      refine ae_pcallS (pc := 35) (z := zX10_mix) (As := [_, _]) dX10_mixEntries_35 rfl rfl rfl rfl (Nat.le_of_ble_eq_true rfl) (sc_mix (d + 2) _ _ _) ?_
      refine ae_lstore_n (pc := 38) dX10_mixEntries_38 rfl (Nat.le_of_ble_eq_true rfl) ?_
      refine ae_lload_n (pc := 39) dX10_mixEntries_39 rfl ?_
      refine ae_aload_n (pc := 40) dX10_mixEntries_40 rfl ?_
      refine ae_getR (pc := 41) (k := 0) (c := 10) (j := 0) (q := 1) dX10_mixEntries_41 rfl rfl (Nat.le_of_ble_eq_true rfl) rfl (Nat.le_of_ble_eq_true rfl) rfl ?_
      refine ae_getR (pc := 44) (k := 1) (c := 7) (j := 5) (q := 4) dX10_mixEntries_44 rfl rfl (Nat.le_of_ble_eq_true rfl) rfl (Nat.le_of_ble_eq_true rfl) rfl ?_
      refine ae_iload (pc := 47) dX10_mixEntries_47 rfl ?_
      refine ae_baload (pc := 49) (k := 4) (N := 16) (v := f (275 + e)) (e) dX10_mixEntries_49 (Nat.le_of_ble_eq_true rfl) rfl rfl rfl (by omega) ((hg1.2.2.1 e he2).2) ?_
      refine ae_if_eq (pc := 50) (t := 57) dX10_mixEntries_50 (by decide) (fun c50 => ?_) (fun c50 => ?_)
      · rw [e1 c50] at ih2
        refine ae_iconst (pc := 57) (v := nI 0) dX10_mixEntries_57 (by decide) ?_
        refine ae_pcallS (pc := 58) (z := zX10_mix) (As := [_, _]) dX10_mixEntries_58 rfl rfl rfl rfl (Nat.le_of_ble_eq_true rfl) (sc_mix (d + 2) _ _ _) ?_
        refine ae_lstore_n (pc := 61) dX10_mixEntries_61 rfl (Nat.le_of_ble_eq_true rfl) ?_
        refine ae_lload_n (pc := 62) dX10_mixEntries_62 rfl ?_
        refine ae_aload_n (pc := 63) dX10_mixEntries_63 rfl ?_
        refine ae_getR (pc := 64) (k := 0) (c := 10) (j := 4) (q := 16) dX10_mixEntries_64 rfl rfl (Nat.le_of_ble_eq_true rfl) rfl (Nat.le_of_ble_eq_true rfl) rfl ?_
        refine ae_getR (pc := 67) (k := 16) (c := 8) (j := 3) (q := 19) dX10_mixEntries_67 rfl rfl (Nat.le_of_ble_eq_true rfl) rfl (Nat.le_of_ble_eq_true rfl) rfl ?_
        refine ae_iload (pc := 70) dX10_mixEntries_70 rfl ?_
        refine ae_iaload (pc := 72) (k := 19) (N := 16) (v := ent f e 2) (e) dX10_mixEntries_72 (Nat.le_of_ble_eq_true rfl) rfl rfl rfl (by omega) (sf.2.2.1 e (by omega)) ?_
        refine ae_pcallS (pc := 73) (z := zX10_mix) (As := [_, _]) dX10_mixEntries_73 rfl rfl rfl rfl (Nat.le_of_ble_eq_true rfl) (sc_mix (d + 2) _ _ _) ?_
        refine ae_lstore_n (pc := 76) dX10_mixEntries_76 rfl (Nat.le_of_ble_eq_true rfl) ?_
        refine ae_lload_n (pc := 77) dX10_mixEntries_77 rfl ?_
        refine ae_aload_n (pc := 78) dX10_mixEntries_78 rfl ?_
        refine ae_getR (pc := 79) (k := 0) (c := 10) (j := 0) (q := 1) dX10_mixEntries_79 rfl rfl (Nat.le_of_ble_eq_true rfl) rfl (Nat.le_of_ble_eq_true rfl) rfl ?_
        refine ae_iload (pc := 82) dX10_mixEntries_82 rfl ?_
        refine ae_pcallV (pc := 84) (z := zX7_timesIndexed) (k := 1) (As := [_]) dX10_mixEntries_84 rfl rfl rfl rfl (Nat.le_of_ble_eq_true rfl) rfl (Nat.le_of_ble_eq_true rfl) (Nat.le_of_ble_eq_true rfl) (sc_timesIndexed (d + 1) M1 f hg1 hf (nI e)) ?_
        refine ae_pcallS (pc := 87) (z := zX10_mix) (As := [_, _]) dX10_mixEntries_87 rfl rfl rfl rfl (Nat.le_of_ble_eq_true rfl) (sc_mix (d + 2) _ _ _) ?_
        refine ae_lstore_n (pc := 90) dX10_mixEntries_90 rfl (Nat.le_of_ble_eq_true rfl) ?_
        refine ae_iinc (pc := 91) (v := nI (e + 1)) dX10_mixEntries_91 rfl (nI_inc e) ?_
        refine ae_goto (pc := 94) (t := 12) dX10_mixEntries_94 (by decide) ?_
        exact ih2
      · rw [e2 (h01.resolve_left c50)] at ih2
        refine ae_iconst (pc := 53) (v := nI 1) dX10_mixEntries_53 (by decide) ?_
        refine ae_goto (pc := 54) (t := 58) dX10_mixEntries_54 (by decide) ?_
        refine ae_pcallS (pc := 58) (z := zX10_mix) (As := [_, _]) dX10_mixEntries_58 rfl rfl rfl rfl (Nat.le_of_ble_eq_true rfl) (sc_mix (d + 2) _ _ _) ?_
        refine ae_lstore_n (pc := 61) dX10_mixEntries_61 rfl (Nat.le_of_ble_eq_true rfl) ?_
        refine ae_lload_n (pc := 62) dX10_mixEntries_62 rfl ?_
        refine ae_aload_n (pc := 63) dX10_mixEntries_63 rfl ?_
        refine ae_getR (pc := 64) (k := 0) (c := 10) (j := 4) (q := 16) dX10_mixEntries_64 rfl rfl (Nat.le_of_ble_eq_true rfl) rfl (Nat.le_of_ble_eq_true rfl) rfl ?_
        refine ae_getR (pc := 67) (k := 16) (c := 8) (j := 3) (q := 19) dX10_mixEntries_67 rfl rfl (Nat.le_of_ble_eq_true rfl) rfl (Nat.le_of_ble_eq_true rfl) rfl ?_
        refine ae_iload (pc := 70) dX10_mixEntries_70 rfl ?_
        refine ae_iaload (pc := 72) (k := 19) (N := 16) (v := ent f e 2) (e) dX10_mixEntries_72 (Nat.le_of_ble_eq_true rfl) rfl rfl rfl (by omega) (sf.2.2.1 e (by omega)) ?_
        refine ae_pcallS (pc := 73) (z := zX10_mix) (As := [_, _]) dX10_mixEntries_73 rfl rfl rfl rfl (Nat.le_of_ble_eq_true rfl) (sc_mix (d + 2) _ _ _) ?_
        refine ae_lstore_n (pc := 76) dX10_mixEntries_76 rfl (Nat.le_of_ble_eq_true rfl) ?_
        refine ae_lload_n (pc := 77) dX10_mixEntries_77 rfl ?_
        refine ae_aload_n (pc := 78) dX10_mixEntries_78 rfl ?_
        refine ae_getR (pc := 79) (k := 0) (c := 10) (j := 0) (q := 1) dX10_mixEntries_79 rfl rfl (Nat.le_of_ble_eq_true rfl) rfl (Nat.le_of_ble_eq_true rfl) rfl ?_
        refine ae_iload (pc := 82) dX10_mixEntries_82 rfl ?_
        refine ae_pcallV (pc := 84) (z := zX7_timesIndexed) (k := 1) (As := [_]) dX10_mixEntries_84 rfl rfl rfl rfl (Nat.le_of_ble_eq_true rfl) rfl (Nat.le_of_ble_eq_true rfl) (Nat.le_of_ble_eq_true rfl) (sc_timesIndexed (d + 1) M1 f hg1 hf (nI e)) ?_
        refine ae_pcallS (pc := 87) (z := zX10_mix) (As := [_, _]) dX10_mixEntries_87 rfl rfl rfl rfl (Nat.le_of_ble_eq_true rfl) (sc_mix (d + 2) _ _ _) ?_
        refine ae_lstore_n (pc := 90) dX10_mixEntries_90 rfl (Nat.le_of_ble_eq_true rfl) ?_
        refine ae_iinc (pc := 91) (v := nI (e + 1)) dX10_mixEntries_91 rfl (nI_inc e) ?_
        refine ae_goto (pc := 94) (t := 12) dX10_mixEntries_94 (by decide) ?_
        exact ih2
  refine ae_iconst (pc := 9) (v := nI 0) dX10_mixEntries_9 (by decide) ?_
  refine ae_istore (pc := 10) dX10_mixEntries_10 rfl (Nat.le_of_ble_eq_true rfl) ?_
  exact lp
theorem sc_digest (M : am_M) (f : fT) (u : Nat) (past : fT) (n : Nat) (t : fT) (hC : CK M f u past n t) : am_R 8 zX10_digest [.ref 0] M (fun v M' => v = some (.long (dgV5 f (nI u) (nI n) t n)) ∧ AG M' f ∧ FR M M') := by
  obtain ⟨hf, hg, hh, ht⟩ := id hC
  have hA := fA_le hf.1
  have hn := ht.1
  refine ae_enter (z := zX10_digest) (y := yX10_digest) (cc := cX10_digest) (mL := 4) (rt := some .long) (ci := 10) (st := false) (np := 0) (L := [some (.ref 0), none, none, none]) rfl (by decide) (Nat.le_of_ble_eq_true rfl) rfl ?_
  have third : ∀ (M1 : am_M) (h : Int64), CK M1 f u past n t → FR M M1 → h = dg4 f (nI u) (nI n) → am_E none (am_R 7) cX10_digest 10 (some .long) (fun v M' => v = some (.long (dgV5 f (nI u) (nI n) t n)) ∧ AG M' f ∧ FR M M') (130, [some (.ref 0), some (.long h), none, none], [], M1) := by
    intro M1 h ck fr hh4
    have e : mxR (M1.1 9) h n = dgV5 f (nI u) (nI n) t n := by
      rw [hh4]
      exact mxR_cg _ (fun j hj => ck.2.2.2.2.2 j hj)
    have hma := sc_mixAll_9 5 M1 h n hn
    rw [e] at hma
    refine ae_lload_n (pc := 130) dX10_digest_130 rfl ?_
    refine ae_aload_n (pc := 131) dX10_digest_131 rfl ?_
    refine ae_getR (pc := 132) (k := 0) (c := 10) (j := 2) (q := 8) dX10_digest_132 rfl rfl (Nat.le_of_ble_eq_true rfl) rfl (Nat.le_of_ble_eq_true rfl) rfl ?_
    refine ae_getR (pc := 135) (k := 8) (c := 9) (j := 0) (q := 9) dX10_digest_135 rfl rfl (Nat.le_of_ble_eq_true rfl) rfl (Nat.le_of_ble_eq_true rfl) rfl ?_
    refine ae_aload_n (pc := 138) dX10_digest_138 rfl ?_
    refine ae_getR (pc := 139) (k := 0) (c := 10) (j := 2) (q := 8) dX10_digest_139 rfl rfl (Nat.le_of_ble_eq_true rfl) rfl (Nat.le_of_ble_eq_true rfl) rfl ?_
    refine ae_getI (pc := 142) (k := 8) (c := 9) (j := 1) (v := nI n) dX10_digest_142 rfl rfl (Or.inl rfl) (Nat.le_of_ble_eq_true rfl) rfl (Nat.le_of_ble_eq_true rfl) (ck.2.2.2.2.1) ?_
    refine ae_pcallS (pc := 145) (z := zX10_mixAll) (As := [_, _, _]) dX10_digest_145 rfl rfl rfl rfl (Nat.le_of_ble_eq_true rfl) (hma) ?_
    refine ae_lreturn (pc := 148) dX10_digest_148 rfl ?_
    exact ⟨rfl, ck.2.1, fr⟩
  have second : ∀ (M1 : am_M) (h : Int64), CK M1 f u past n t → FR M M1 → h = dg3 f (nI u) (nI n) → am_E none (am_R 7) cX10_digest 10 (some .long) (fun v M' => v = some (.long (dgV5 f (nI u) (nI n) t n)) ∧ AG M' f ∧ FR M M') (53, [some (.ref 0), some (.long h), none, none], [], M1) := by
    intro M1 h ck fr hh3
    have a7 : M1.1 1 7 = f 292 := ck.2.1.1.2.2.2.2
    by_cases h1 : f 292 = 1
    · have e : mxR (M1.1 5) h (fA f) = mxR (fun p => f (293 + p)) (dg3 f (nI u) (nI n)) (fA f) := by
        rw [hh3]
        exact mxR_cg _ (fun j hj => ck.2.1.2.2.2 h1 j hj)
      have hma := sc_mixAll_5 5 M1 h (fA f) (by omega)
      rw [e] at hma
      have st := third M1 _ ck fr (show _ = dg4 f (nI u) (nI n) by unfold dg4; rw [if_pos h1])
      refine ae_aload_n (pc := 53) dX10_digest_53 rfl ?_
      refine ae_getR (pc := 54) (k := 0) (c := 10) (j := 0) (q := 1) dX10_digest_54 rfl rfl (Nat.le_of_ble_eq_true rfl) rfl (Nat.le_of_ble_eq_true rfl) rfl ?_
      refine ae_getI (pc := 57) (k := 1) (c := 7) (j := 7) (v := f 292) dX10_digest_57 rfl rfl (Or.inr rfl) (Nat.le_of_ble_eq_true rfl) rfl (Nat.le_of_ble_eq_true rfl) a7 ?_
      refine ae_if_eq (pc := 60) (t := 130) dX10_digest_60 (by decide) (fun c60 => ?_) (fun c60 => ?_)
      · exact absurd (h1.symm.trans c60) (by decide)
      refine ae_lload_n (pc := 63) dX10_digest_63 rfl ?_
      refine ae_aload_n (pc := 64) dX10_digest_64 rfl ?_
      refine ae_getR (pc := 65) (k := 0) (c := 10) (j := 0) (q := 1) dX10_digest_65 rfl rfl (Nat.le_of_ble_eq_true rfl) rfl (Nat.le_of_ble_eq_true rfl) rfl ?_
      refine ae_getR (pc := 68) (k := 1) (c := 7) (j := 8) (q := 5) dX10_digest_68 rfl rfl (Nat.le_of_ble_eq_true rfl) rfl (Nat.le_of_ble_eq_true rfl) rfl ?_
      refine ae_aload_n (pc := 71) dX10_digest_71 rfl ?_
      refine ae_getR (pc := 72) (k := 0) (c := 10) (j := 0) (q := 1) dX10_digest_72 rfl rfl (Nat.le_of_ble_eq_true rfl) rfl (Nat.le_of_ble_eq_true rfl) rfl ?_
      refine ae_pcallV (pc := 75) (z := zX7_area) (k := 1) (As := []) dX10_digest_75 rfl rfl rfl rfl (Nat.le_of_ble_eq_true rfl) rfl (Nat.le_of_ble_eq_true rfl) (Nat.le_of_ble_eq_true rfl) (sc_area 6 M1 f ck.2.1 hf.1) ?_
      refine ae_pcallS (pc := 78) (z := zX10_mixAll) (As := [_, _, _]) dX10_digest_78 rfl rfl rfl rfl (Nat.le_of_ble_eq_true rfl) (hma) ?_
      refine ae_lstore_n (pc := 81) dX10_digest_81 rfl (Nat.le_of_ble_eq_true rfl) ?_
      refine ae_lload_n (pc := 82) dX10_digest_82 rfl ?_
      refine ae_aload_n (pc := 83) dX10_digest_83 rfl ?_
      refine ae_getR (pc := 84) (k := 0) (c := 10) (j := 9) (q := 32) dX10_digest_84 rfl rfl (Nat.le_of_ble_eq_true rfl) rfl (Nat.le_of_ble_eq_true rfl) rfl ?_
      refine ae_pcallV (pc := 87) (z := zX6_totalError) (k := 32) (As := []) dX10_digest_87 rfl rfl rfl rfl (Nat.le_of_ble_eq_true rfl) rfl (Nat.le_of_ble_eq_true rfl) (Nat.le_of_ble_eq_true rfl) (sc_totalError 4 M1 f ck.2.1 hf h1) ?_
      refine ae_pcallS (pc := 90) (z := zX10_mix) (As := [_, _]) dX10_digest_90 rfl rfl rfl rfl (Nat.le_of_ble_eq_true rfl) (sc_mix 6 _ _ _) ?_
      refine ae_lstore_n (pc := 93) dX10_digest_93 rfl (Nat.le_of_ble_eq_true rfl) ?_
      refine ae_lload_n (pc := 94) dX10_digest_94 rfl ?_
      refine ae_aload_n (pc := 95) dX10_digest_95 rfl ?_
      refine ae_getR (pc := 96) (k := 0) (c := 10) (j := 9) (q := 32) dX10_digest_96 rfl rfl (Nat.le_of_ble_eq_true rfl) rfl (Nat.le_of_ble_eq_true rfl) rfl ?_
      refine ae_pcallV (pc := 99) (z := zX6_worstPixel) (k := 32) (As := []) dX10_digest_99 rfl rfl rfl rfl (Nat.le_of_ble_eq_true rfl) rfl (Nat.le_of_ble_eq_true rfl) (Nat.le_of_ble_eq_true rfl) (sc_worstPixel 4 M1 f ck.2.1 hf h1) ?_
      refine ae_pcallS (pc := 102) (z := zX10_mix) (As := [_, _]) dX10_digest_102 rfl rfl rfl rfl (Nat.le_of_ble_eq_true rfl) (sc_mix 6 _ _ _) ?_
      refine ae_lstore_n (pc := 105) dX10_digest_105 rfl (Nat.le_of_ble_eq_true rfl) ?_
      refine ae_lload_n (pc := 106) dX10_digest_106 rfl ?_
      refine ae_aload_n (pc := 107) dX10_digest_107 rfl ?_
      refine ae_getR (pc := 108) (k := 0) (c := 10) (j := 9) (q := 32) dX10_digest_108 rfl rfl (Nat.le_of_ble_eq_true rfl) rfl (Nat.le_of_ble_eq_true rfl) rfl ?_
      refine ae_pcallV (pc := 111) (z := zX6_meanErrorBits) (k := 32) (As := []) dX10_digest_111 rfl rfl rfl rfl (Nat.le_of_ble_eq_true rfl) rfl (Nat.le_of_ble_eq_true rfl) (Nat.le_of_ble_eq_true rfl) (sc_meanErrorBits 3 M1 f ck.2.1 hf h1) ?_
      refine ae_pcallS (pc := 114) (z := zX10_mix) (As := [_, _]) dX10_digest_114 rfl rfl rfl rfl (Nat.le_of_ble_eq_true rfl) (sc_mix 6 _ _ _) ?_
      refine ae_lstore_n (pc := 117) dX10_digest_117 rfl (Nat.le_of_ble_eq_true rfl) ?_
      refine ae_lload_n (pc := 118) dX10_digest_118 rfl ?_
      refine ae_aload_n (pc := 119) dX10_digest_119 rfl ?_
      refine ae_getR (pc := 120) (k := 0) (c := 10) (j := 9) (q := 32) dX10_digest_120 rfl rfl (Nat.le_of_ble_eq_true rfl) rfl (Nat.le_of_ble_eq_true rfl) rfl ?_
      refine ae_pcallV (pc := 123) (z := zX6_indexRuns) (k := 32) (As := []) dX10_digest_123 rfl rfl rfl rfl (Nat.le_of_ble_eq_true rfl) rfl (Nat.le_of_ble_eq_true rfl) (Nat.le_of_ble_eq_true rfl) (sc_indexRuns 5 M1 f ck.2.1 hf h1) ?_
      refine ae_pcallS (pc := 126) (z := zX10_mix) (As := [_, _]) dX10_digest_126 rfl rfl rfl rfl (Nat.le_of_ble_eq_true rfl) (sc_mix 6 _ _ _) ?_
      refine ae_lstore_n (pc := 129) dX10_digest_129 rfl (Nat.le_of_ble_eq_true rfl) ?_
      exact st
    · have h0 := hf.2.2.2.2.1.resolve_right h1
      have st := third M1 h ck fr (by rw [hh3]; unfold dg4; rw [if_neg h1])
      refine ae_aload_n (pc := 53) dX10_digest_53 rfl ?_
      refine ae_getR (pc := 54) (k := 0) (c := 10) (j := 0) (q := 1) dX10_digest_54 rfl rfl (Nat.le_of_ble_eq_true rfl) rfl (Nat.le_of_ble_eq_true rfl) rfl ?_
      refine ae_getI (pc := 57) (k := 1) (c := 7) (j := 7) (v := f 292) dX10_digest_57 rfl rfl (Or.inr rfl) (Nat.le_of_ble_eq_true rfl) rfl (Nat.le_of_ble_eq_true rfl) a7 ?_
      refine ae_if_eq (pc := 60) (t := 130) dX10_digest_60 (by decide) (fun c60 => ?_) (fun c60 => ?_)
      rotate_left
      · exact absurd h0 c60
      exact st
  have lp : am_E none (am_R 7) cX10_digest 10 (some .long) (fun v M' => v = some (.long (dgV5 f (nI u) (nI n) t n)) ∧ AG M' f ∧ FR M M') (6, [some (.ref 0), some (.long (mxR (cnt f (nI u) (nI n)) 77 0)), none, some (.int (nI 0))], [], M) := by
    refine am_down (P := fun k => am_E none (am_R 7) cX10_digest 10 (some .long) _ (6, [some (.ref 0), some (.long (mxR (cnt f (nI u) (nI n)) 77 k)), none, some (.int (nI k))], [], M)) 10 (fun k hk ih => ?_)
    refine ae_iload_n (pc := 6) dX10_digest_6 rfl ?_
    refine ae_bipush (pc := 7) (v := nI 9) dX10_digest_7 (by decide) ?_
    refine ae_icmp_gt (pc := 9) (t := 28) dX10_digest_9 (by decide) (fun c9 => ?_) (fun c9 => ?_)
    · have hk2 : k = 10 := by rw [nI_ltI (by omega) (by omega)] at c9; omega
      subst hk2
      have e : mxR (M.1 2) (mxR (cnt f (nI u) (nI n)) 77 10) (fA f) = mxR (fun p => f (2 + p)) (mxR (cnt f (nI u) (nI n)) 77 10) (fA f) := mxR_cg _ (fun j hj => hg.2.1 j hj)
      have hma := sc_mixAll_2 5 M (mxR (cnt f (nI u) (nI n)) 77 10) (fA f) (by omega)
      rw [e] at hma
      refine ae_lload_n (pc := 28) dX10_digest_28 rfl ?_
      refine ae_aload_n (pc := 29) dX10_digest_29 rfl ?_
      refine ae_getR (pc := 30) (k := 0) (c := 10) (j := 0) (q := 1) dX10_digest_30 rfl rfl (Nat.le_of_ble_eq_true rfl) rfl (Nat.le_of_ble_eq_true rfl) rfl ?_
      refine ae_getR (pc := 33) (k := 1) (c := 7) (j := 2) (q := 2) dX10_digest_33 rfl rfl (Nat.le_of_ble_eq_true rfl) rfl (Nat.le_of_ble_eq_true rfl) rfl ?_
      refine ae_aload_n (pc := 36) dX10_digest_36 rfl ?_
      refine ae_getR (pc := 37) (k := 0) (c := 10) (j := 0) (q := 1) dX10_digest_37 rfl rfl (Nat.le_of_ble_eq_true rfl) rfl (Nat.le_of_ble_eq_true rfl) rfl ?_
      refine ae_pcallV (pc := 40) (z := zX7_area) (k := 1) (As := []) dX10_digest_40 rfl rfl rfl rfl (Nat.le_of_ble_eq_true rfl) rfl (Nat.le_of_ble_eq_true rfl) (Nat.le_of_ble_eq_true rfl) (sc_area 6 M f hg hf.1) ?_
      refine ae_pcallS (pc := 43) (z := zX10_mixAll) (As := [_, _, _]) dX10_digest_43 rfl rfl rfl rfl (Nat.le_of_ble_eq_true rfl) (hma) ?_
      refine ae_lstore_n (pc := 46) dX10_digest_46 rfl (Nat.le_of_ble_eq_true rfl) ?_
      refine ae_aload_n (pc := 47) dX10_digest_47 rfl ?_
      refine ae_lload_n (pc := 48) dX10_digest_48 rfl ?_
      refine ae_callV (pc := 49) (z := zX10_mixEntries) (k := 0) (As := [_]) dX10_digest_49 rfl rfl rfl rfl (Nat.le_of_ble_eq_true rfl) rfl (Nat.le_of_ble_eq_true rfl) (Nat.le_of_ble_eq_true rfl) (sc_mixEntries 3 M f hg hf _) (fun v M' hq => ?_)
      obtain ⟨rfl, p1, p2⟩ := hq
      refine ae_lstore_n (pc := 52) dX10_digest_52 rfl (Nat.le_of_ble_eq_true rfl) ?_
      exact ae_forget [3] rfl (second _ _ (CK_FR hC p1 hf p2) p2 rfl)
    · have hk2 : k < 10 := by rw [nI_ltI (by omega) (by omega)] at c9; omega
      refine ae_lload_n (pc := 12) dX10_digest_12 rfl ?_
      refine ae_aload_n (pc := 13) dX10_digest_13 rfl ?_
      refine ae_iload_n (pc := 14) dX10_digest_14 rfl ?_
      refine ae_pcallV (pc := 15) (z := zX10_count) (k := 0) (As := [_]) dX10_digest_15 rfl rfl rfl rfl (Nat.le_of_ble_eq_true rfl) rfl (Nat.le_of_ble_eq_true rfl) (Nat.le_of_ble_eq_true rfl) (sc_count 4 M f u past n t hC k hk2) ?_
      refine ae_pcallS (pc := 18) (z := zX10_mix) (As := [_, _]) dX10_digest_18 rfl rfl rfl rfl (Nat.le_of_ble_eq_true rfl) (sc_mix 6 _ _ _) ?_
      refine ae_lstore_n (pc := 21) dX10_digest_21 rfl (Nat.le_of_ble_eq_true rfl) ?_
      refine ae_iinc (pc := 22) (v := nI (k + 1)) dX10_digest_22 rfl (nI_inc k) ?_
      refine ae_goto (pc := 25) (t := 6) dX10_digest_25 (by decide) ?_
      exact ih hk2
  refine ae_ldc2_w (pc := 0) dX10_digest_0 rfl ?_
  refine ae_lstore_n (pc := 3) dX10_digest_3 rfl (Nat.le_of_ble_eq_true rfl) ?_
  refine ae_iconst (pc := 4) (v := nI 0) dX10_digest_4 (by decide) ?_
  refine ae_istore_n (pc := 5) dX10_digest_5 rfl (Nat.le_of_ble_eq_true rfl) ?_
  exact lp
theorem st_digest (M : am_M) (hI : INV M) : STEPJ M zX10_digest [.ref 0] zX11_digest [.ref 33] := by
  obtain ⟨f, u, past, n, t, hC, hR⟩ := hI
  obtain ⟨hf, hg, hh, ht⟩ := id hC
  refine (sc_digest M f u past n t hC).mono (fun v M1 q => ?_)
  obtain ⟨q1, q2, q3⟩ := q
  have hR1 := RI_RS hR (RS_FR q3)
  refine ⟨_, q1, ?_⟩
  have := sm_digest 1 M1 (by rw [hR1.1]; exact hf) n hR1.2.2.2.1 ht.1
  rw [hR1.1, hR1.2.1, hR1.2.2.2.1, hR1.2.2.2.2] at this
  refine this.mono (fun w M2 k => ?_)
  obtain ⟨k1, S, h, rfl⟩ := k
  exact ⟨k1, f, u, past, n, t, CK_QS (CK_FR hC q2 hf q3) (RK_dg _ _ _).2, RI_RK hR1 (RK_dg _ _ _)⟩

