theorem st_image (M : am_M) (hI : INV M) (x y : Int32) : STEP M zX10_image [.ref 0, .int x, .int y] zX11_image [.ref 33, .int x, .int y] := by
  obtain ⟨f, u, past, n, t, hC, hR⟩ := hI
  obtain ⟨hf, hg, hh, ht⟩ := id hC
  have hu := hh.1
  by_cases h : (nI 1 ≤ x ∧ x ≤ nI 16) ∧ nI 1 ≤ y ∧ y ≤ nI 16
  · have hw1 := sc_isWithin 6 x (nI 1) (nI 16) M
    rw [bI_t h.1] at hw1
    have hw2 := sc_isWithin 6 y (nI 1) (nI 16) M
    rw [bI_t h.2] at hw2
    obtain ⟨a, a1, a2, rfl⟩ := rng h.1 (by decide)
    obtain ⟨b, b1, b2, rfl⟩ := rng h.2 (by decide)
    refine comb (r := nI (a * b)) (f' := imF (kpF f 1) a b) (u' := kpN u) (past' := kpP past f u) (n' := n) (t' := t) hR ?_ (fun M1 h1 => ?_)
    · refine ae_enter (z := zX10_image) (y := yX10_image) (cc := cX10_image) (mL := 3) (rt := some .int) (ci := 10) (st := false) (np := 2) (L := [some (.ref 0), some (.int (nI a)), some (.int (nI b))]) rfl (by decide) (Nat.le_of_ble_eq_true rfl) rfl ?_
      refine ae_iload_n (pc := 0) dX10_image_0 rfl ?_
      refine ae_iconst (pc := 1) (v := nI 1) dX10_image_1 (by decide) ?_
      refine ae_bipush (pc := 2) (v := nI 16) dX10_image_2 (by decide) ?_
      refine ae_pcallS (pc := 4) (z := zX10_isWithin) (As := [_, _, _]) dX10_image_4 rfl rfl rfl rfl (Nat.le_of_ble_eq_true rfl) (hw1) ?_
      refine ae_if_eq (pc := 7) (t := 20) dX10_image_7 (by decide) (fun c7 => ?_) (fun c7 => ?_)
      · exact absurd c7 (by decide)
      refine ae_iload_n (pc := 10) dX10_image_10 rfl ?_
      refine ae_iconst (pc := 11) (v := nI 1) dX10_image_11 (by decide) ?_
      refine ae_bipush (pc := 12) (v := nI 16) dX10_image_12 (by decide) ?_
      refine ae_pcallS (pc := 14) (z := zX10_isWithin) (As := [_, _, _]) dX10_image_14 rfl rfl rfl rfl (Nat.le_of_ble_eq_true rfl) (hw2) ?_
      refine ae_if_ne (pc := 17) (t := 23) dX10_image_17 (by decide) (fun c17 => ?_) (fun c17 => ?_)
      rotate_left
      · exact absurd (Classical.not_not.mp c17) (by decide)
      refine ae_aload_n (pc := 23) dX10_image_23 rfl ?_
      refine ae_callV (pc := 24) (z := zX10_beginRemake) (k := 0) (As := []) dX10_image_24 rfl rfl rfl rfl (Nat.le_of_ble_eq_true rfl) rfl (Nat.le_of_ble_eq_true rfl) (Nat.le_of_ble_eq_true rfl) (sc_beginRemake 4 M f hg hf u past hh) (fun v M' hq => ?_)
      obtain ⟨rfl, q1, q2, -, q4⟩ := hq
      obtain ⟨ck, rs⟩ := rmk_ck hC q1 q2 q4
      refine ae_aload_n (pc := 27) dX10_image_27 rfl ?_
      refine ae_getR (pc := 28) (k := 0) (c := 10) (j := 0) (q := 1) dX10_image_28 rfl rfl (Nat.le_of_ble_eq_true rfl) rfl (Nat.le_of_ble_eq_true rfl) rfl ?_
      refine ae_iload_n (pc := 31) dX10_image_31 rfl ?_
      refine ae_putfield (pc := 32) (k := 1) (c := 7) (j := 0) dX10_image_32 rfl rfl (Nat.le_of_ble_eq_true rfl) rfl (Nat.le_of_ble_eq_true rfl) rfl rfl ?_
      refine ae_aload_n (pc := 35) dX10_image_35 rfl ?_
      refine ae_getR (pc := 36) (k := 0) (c := 10) (j := 0) (q := 1) dX10_image_36 rfl rfl (Nat.le_of_ble_eq_true rfl) rfl (Nat.le_of_ble_eq_true rfl) rfl ?_
      refine ae_iload_n (pc := 39) dX10_image_39 rfl ?_
      refine ae_putfield (pc := 40) (k := 1) (c := 7) (j := 1) dX10_image_40 rfl rfl (Nat.le_of_ble_eq_true rfl) rfl (Nat.le_of_ble_eq_true rfl) rfl rfl ?_
      skip
      generalize hN : ((am_u (am_u M'.1 1 (upd (M'.1 1) 0 (nI a))) 1 (upd (am_u M'.1 1 (upd (M'.1 1) 0 (nI a)) 1) 1 (nI b)), M'.2) : am_M) = N
      have n1 : N.1 1 = upd (upd (M'.1 1) 0 (nI a)) 1 (nI b) := by rw [← hN, au1, am_u_self]
      have nne : ∀ k, k ≠ 1 → N.1 k = M'.1 k := fun k hk => by rw [← hN, au0 _ _ _ hk, am_u_ne _ _ hk]
      have w0 : N.1 1 0 = nI a := by rw [n1, upd_ne _ _ (by decide), upd_self]
      have w1 : N.1 1 1 = nI b := by rw [n1, upd_self]
      have hfa := sc_fillArea 5 N a b w0 w1 (by omega) (by omega) 0 0 a b (by omega) (by omega) (nI 0)
      have key := agS_im (p' := rcF (N.1 2) a 0 0 a b (nI 0)) ck.1.1 (kp292 f) ck.2.1 ⟨a1, a2⟩ ⟨b1, b2⟩ (fun q hq => by
        rw [rcF_v, if_pos ⟨Nat.zero_le _, by have := Nat.mod_lt q (show 0 < a by omega); omega, Nat.zero_le _, by rw [Nat.zero_add]; exact Nat.div_lt_of_lt_mul hq⟩]
        rfl)
      have har := sc_areaR 6 (am_u N.1 2 (rcF (N.1 2) a 0 0 a b (nI 0)), N.2) a b (by rw [au0 (q := 1) _ _ _ (by decide)]; exact w0) (by rw [au0 (q := 1) _ _ _ (by decide)]; exact w1)
      refine ae_aload_n (pc := 43) dX10_image_43 rfl ?_
      refine ae_getR (pc := 44) (k := 0) (c := 10) (j := 0) (q := 1) dX10_image_44 rfl rfl (Nat.le_of_ble_eq_true rfl) rfl (Nat.le_of_ble_eq_true rfl) rfl ?_
      refine ae_iconst (pc := 47) (v := nI 0) dX10_image_47 (by decide) ?_
      refine ae_iconst (pc := 48) (v := nI 0) dX10_image_48 (by decide) ?_
      refine ae_iload_n (pc := 49) dX10_image_49 rfl ?_
      refine ae_iload_n (pc := 50) dX10_image_50 rfl ?_
      refine ae_iconst (pc := 51) (v := nI 0) dX10_image_51 (by decide) ?_
      refine ae_callV (pc := 52) (z := zX7_fillArea) (k := 1) (As := [_, _, _, _, _]) dX10_image_52 rfl rfl rfl rfl (Nat.le_of_ble_eq_true rfl) rfl (Nat.le_of_ble_eq_true rfl) (Nat.le_of_ble_eq_true rfl) (hfa) (fun v M' hq => ?_)
      obtain ⟨rfl, rfl⟩ := hq
      refine ae_aload_n (pc := 55) dX10_image_55 rfl ?_
      refine ae_getR (pc := 56) (k := 0) (c := 10) (j := 0) (q := 1) dX10_image_56 rfl rfl (Nat.le_of_ble_eq_true rfl) rfl (Nat.le_of_ble_eq_true rfl) rfl ?_
      refine ae_pcallV (pc := 59) (z := zX7_area) (k := 1) (As := []) dX10_image_59 rfl rfl rfl rfl (Nat.le_of_ble_eq_true rfl) rfl (Nat.le_of_ble_eq_true rfl) (Nat.le_of_ble_eq_true rfl) (har) ?_
      refine ae_ireturn (pc := 62) dX10_image_62 rfl ?_
      refine ⟨rfl, ⟨wf_im ck.1 (kp292 f) ⟨a1, a2⟩ ⟨b1, b2⟩, ?_, HI_ne ck.2.2.1 (fun k hk => (am_u_ne N.1 _ (by omega)).trans (nne k (by omega))), TX_ne ck.2.2.2 (by rw [au0 (q := 8) _ _ _ (by decide)]; exact nne 8 (by decide)) (by rw [au0 (q := 9) _ _ _ (by decide)]; exact nne 9 (by decide))⟩, fun k p q => ((am_u_ne N.1 _ (by omega)).trans (nne k (by omega))).trans (rs k p q)⟩
      unfold AG
      rw [au1, au0 (q := 1) _ _ _ (by decide), au0 (q := 3) _ _ _ (by decide), au0 (q := 4) _ _ _ (by decide), au0 (q := 5) _ _ _ (by decide), n1, nne 3 (by decide), nne 4 (by decide), nne 5 (by decide)]
      exact key.1
    · have := sm_image 6 M1 u h1.2.1 hu a b ⟨a1, a2⟩ ⟨b1, b2⟩
      rw [h1.1] at this
      refine this.mono (fun v M2 q => ?_)
      obtain ⟨q1, rfl⟩ := q
      exact ⟨q1, RI_kp h1 1 _⟩
  · refine stepR (r := -2) hC hR ?_ (fun M1 h1 => roM (sm_image0 6 M1 x y h))
    refine ae_enter (z := zX10_image) (y := yX10_image) (cc := cX10_image) (mL := 3) (rt := some .int) (ci := 10) (st := false) (np := 2) (L := [some (.ref 0), some (.int x), some (.int y)]) rfl (by decide) (Nat.le_of_ble_eq_true rfl) rfl ?_
    refine ae_iload_n (pc := 0) dX10_image_0 rfl ?_
    refine ae_iconst (pc := 1) (v := nI 1) dX10_image_1 (by decide) ?_
    refine ae_bipush (pc := 2) (v := nI 16) dX10_image_2 (by decide) ?_
    refine ae_pcallS (pc := 4) (z := zX10_isWithin) (As := [_, _, _]) dX10_image_4 rfl rfl rfl rfl (Nat.le_of_ble_eq_true rfl) (sc_isWithin 6 _ _ _ _) ?_
    refine ae_if_eq (pc := 7) (t := 20) dX10_image_7 (by decide) (fun c7 => ?_) (fun c7 => ?_)
    · refine ae_bipush (pc := 20) (v := (-2)) dX10_image_20 (by decide) ?_
      refine ae_ireturn (pc := 22) dX10_image_22 rfl ?_
      exact ⟨rfl, hg, FR_refl M⟩
    · refine ae_iload_n (pc := 10) dX10_image_10 rfl ?_
      refine ae_iconst (pc := 11) (v := nI 1) dX10_image_11 (by decide) ?_
      refine ae_bipush (pc := 12) (v := nI 16) dX10_image_12 (by decide) ?_
      refine ae_pcallS (pc := 14) (z := zX10_isWithin) (As := [_, _, _]) dX10_image_14 rfl rfl rfl rfl (Nat.le_of_ble_eq_true rfl) (sc_isWithin 6 _ _ _ _) ?_
      refine ae_if_ne (pc := 17) (t := 23) dX10_image_17 (by decide) (fun c17 => ?_) (fun c17 => ?_)
      · exact (h ⟨bI_ne0.mp c7, bI_ne0.mp c17⟩).elim
      · refine ae_bipush (pc := 20) (v := (-2)) dX10_image_20 (by decide) ?_
        refine ae_ireturn (pc := 22) dX10_image_22 rfl ?_
        exact ⟨rfl, hg, FR_refl M⟩
/-- a step that changes pixels alone -/
theorem ck_px {M' N : am_M} {f g p' : fT} {u : Nat} {past : fT} {n : Nat} {t : fT} (ck : CK M' f u past n t) (h0 : f 292 = 0) (hN : N = (am_u M'.1 2 p', M'.2)) (hg : ∀ j, (j < 2 ∨ 258 ≤ j) → g j = f j) (hp : ∀ q, q < fA f → p' q = g (2 + q)) (hw : ∀ q, q < fA f → g (2 + q) = -1 ∨ okc (g (2 + q))) : CK N g u past n t := by
  subst hN
  refine ⟨wf_px ck.1 h0 hg hw, ?_, HI_ne ck.2.2.1 (fun k hk => am_u_ne M'.1 _ (by omega)), TX_ne ck.2.2.2 (by exact au0 (q := 8) _ _ _ (by decide)) (by exact au0 (q := 9) _ _ _ (by decide))⟩
  unfold AG
  rw [au1, au0 (q := 1) _ _ _ (by decide), au0 (q := 3) _ _ _ (by decide), au0 (q := 4) _ _ _ (by decide), au0 (q := 5) _ _ _ (by decide)]
  exact agS_px ck.1.1 ck.2.1 hg hp
theorem st_paint (M : am_M) (hI : INV M) (x y w h c : Int32) : STEP M zX10_paint [.ref 0, .int x, .int y, .int w, .int h, .int c] zX11_paint [.ref 33, .int x, .int y, .int w, .int h, .int c] := by
  obtain ⟨f, u, past, n, t, hC, hR⟩ := hI
  obtain ⟨hf, hg, hh, ht⟩ := id hC
  have hu := hh.1
  obtain ⟨a0, a1, -⟩ := AG_w hg hf.1
  obtain ⟨⟨e0, e1, e2⟩, ⟨g0, g1, g2⟩, -⟩ := id hf.1
  have hco := sc_contains 6 M f hg hf.1 x y
  by_cases hok : ptOK f x y w h c
  · obtain ⟨o1, o2, o3, o4⟩ := id hok
    rw [bI_t o1] at hco
    have hw0 := sc_isWithin 6 c (-1) 16777215 M
    rw [bI_t (okc_m1.mpr o4)] at hw0
    obtain ⟨xa, ya, hxa, hya, rfl, rfl⟩ := of_inP hf.1 o1
    rw [e0, nI_sub (by omega)] at o2
    rw [g0, nI_sub (by omega)] at o3
    have hw1 := sc_isWithin 6 w (nI 1) (nI (fW f - xa)) M
    rw [bI_t o2] at hw1
    have hw2 := sc_isWithin 6 h (nI 1) (nI (fH f - ya)) M
    rw [bI_t o3] at hw2
    obtain ⟨wn, wn1, wn2, rfl⟩ := rng o2 (by omega)
    obtain ⟨hn, hn1, hn2, rfl⟩ := rng o3 (by omega)
    refine comb (r := nI (wn * hn)) (f' := ptF (kpF f 1) xa ya wn c (wn * hn)) (u' := kpN u) (past' := kpP past f u) (n' := n) (t' := t) hR ?_ (fun M1 h1 => ?_)
    · refine ae_enter (z := zX10_paint) (y := yX10_paint) (cc := cX10_paint) (mL := 6) (rt := some .int) (ci := 10) (st := false) (np := 5) (L := [some (.ref 0), some (.int (nI xa)), some (.int (nI ya)), some (.int (nI wn)), some (.int (nI hn)), some (.int c)]) rfl (by decide) (Nat.le_of_ble_eq_true rfl) rfl ?_
      refine ae_aload_n (pc := 0) dX10_paint_0 rfl ?_
      refine ae_getR (pc := 1) (k := 0) (c := 10) (j := 0) (q := 1) dX10_paint_1 rfl rfl (Nat.le_of_ble_eq_true rfl) rfl (Nat.le_of_ble_eq_true rfl) rfl ?_
      refine ae_iload_n (pc := 4) dX10_paint_4 rfl ?_
      refine ae_iload_n (pc := 5) dX10_paint_5 rfl ?_
      refine ae_pcallV (pc := 6) (z := zX7_contains) (k := 1) (As := [_, _]) dX10_paint_6 rfl rfl rfl rfl (Nat.le_of_ble_eq_true rfl) rfl (Nat.le_of_ble_eq_true rfl) (Nat.le_of_ble_eq_true rfl) (hco) ?_
      refine ae_if_eq (pc := 9) (t := 23) dX10_paint_9 (by decide) (fun c9 => ?_) (fun c9 => ?_)
      · exact absurd c9 (by decide)
      refine ae_iload (pc := 12) dX10_paint_12 rfl ?_
      refine ae_iconst (pc := 14) (v := (-1)) dX10_paint_14 (by decide) ?_
      refine ae_ldc (pc := 15) dX10_paint_15 rfl rfl ?_
      refine ae_pcallS (pc := 17) (z := zX10_isWithin) (As := [_, _, _]) dX10_paint_17 rfl rfl rfl rfl (Nat.le_of_ble_eq_true rfl) (hw0) ?_
      refine ae_if_ne (pc := 20) (t := 26) dX10_paint_20 (by decide) (fun c20 => ?_) (fun c20 => ?_)
      rotate_left
      · exact absurd (Classical.not_not.mp c20) (by decide)
      refine ae_iload_n (pc := 26) dX10_paint_26 rfl ?_
      refine ae_iconst (pc := 27) (v := nI 1) dX10_paint_27 (by decide) ?_
      refine ae_aload_n (pc := 28) dX10_paint_28 rfl ?_
      refine ae_getR (pc := 29) (k := 0) (c := 10) (j := 0) (q := 1) dX10_paint_29 rfl rfl (Nat.le_of_ble_eq_true rfl) rfl (Nat.le_of_ble_eq_true rfl) rfl ?_
      refine ae_getI (pc := 32) (k := 1) (c := 7) (j := 0) (v := nI (fW f)) dX10_paint_32 rfl rfl (Or.inl rfl) (Nat.le_of_ble_eq_true rfl) rfl (Nat.le_of_ble_eq_true rfl) a0 ?_
      refine ae_iload_n (pc := 35) dX10_paint_35 rfl ?_
      refine ae_isub (pc := 36) (v := nI (fW f - xa)) dX10_paint_36 (nI_sub (by omega)) ?_
      refine ae_pcallS (pc := 37) (z := zX10_isWithin) (As := [_, _, _]) dX10_paint_37 rfl rfl rfl rfl (Nat.le_of_ble_eq_true rfl) (hw1) ?_
      refine ae_if_eq (pc := 40) (t := 61) dX10_paint_40 (by decide) (fun c40 => ?_) (fun c40 => ?_)
      · exact absurd c40 (by decide)
      refine ae_iload (pc := 43) dX10_paint_43 rfl ?_
      refine ae_iconst (pc := 45) (v := nI 1) dX10_paint_45 (by decide) ?_
      refine ae_aload_n (pc := 46) dX10_paint_46 rfl ?_
      refine ae_getR (pc := 47) (k := 0) (c := 10) (j := 0) (q := 1) dX10_paint_47 rfl rfl (Nat.le_of_ble_eq_true rfl) rfl (Nat.le_of_ble_eq_true rfl) rfl ?_
      refine ae_getI (pc := 50) (k := 1) (c := 7) (j := 1) (v := nI (fH f)) dX10_paint_50 rfl rfl (Or.inl rfl) (Nat.le_of_ble_eq_true rfl) rfl (Nat.le_of_ble_eq_true rfl) a1 ?_
      refine ae_iload_n (pc := 53) dX10_paint_53 rfl ?_
      refine ae_isub (pc := 54) (v := nI (fH f - ya)) dX10_paint_54 (nI_sub (by omega)) ?_
      refine ae_pcallS (pc := 55) (z := zX10_isWithin) (As := [_, _, _]) dX10_paint_55 rfl rfl rfl rfl (Nat.le_of_ble_eq_true rfl) (hw2) ?_
      refine ae_if_ne (pc := 58) (t := 64) dX10_paint_58 (by decide) (fun c58 => ?_) (fun c58 => ?_)
      rotate_left
      · exact absurd (Classical.not_not.mp c58) (by decide)
      refine ae_aload_n (pc := 64) dX10_paint_64 rfl ?_
      refine ae_callV (pc := 65) (z := zX10_beginRemake) (k := 0) (As := []) dX10_paint_65 rfl rfl rfl rfl (Nat.le_of_ble_eq_true rfl) rfl (Nat.le_of_ble_eq_true rfl) (Nat.le_of_ble_eq_true rfl) (sc_beginRemake 4 M f hg hf u past hh) (fun v M' hq => ?_)
      obtain ⟨rfl, q1, q2, -, q4⟩ := hq
      obtain ⟨ck, rs⟩ := rmk_ck hC q1 q2 q4
      skip
      obtain ⟨kw0, kw1, kw2, kw3⟩ := wf0_kp hf.1 1
      have kwA : fA (kpF f 1) = fA f := by unfold fA; rw [kw1, kw2]
      obtain ⟨b0, b1, -⟩ := AG_w ck.2.1 ck.1.1
      have hfa := sc_fillArea 5 M' (fW f) (fH f) (by rw [← kw1]; exact b0) (by rw [← kw2]; exact b1) (by omega) (by omega) xa ya wn hn (by omega) (by omega) c
      have fin := ck_px ck (kp292 f) (g := ptF (kpF f 1) xa ya wn c (wn * hn)) rfl (fun j hj => ptF_far c kw0 (by omega) (by omega) (Nat.le_refl _) hj) (p' := rcF (M'.1 2) (fW f) xa ya wn hn c) (fun q hq => by
        rw [rcF_v, ptF_all xa ya wn hn c (by omega) (by omega), kw1, ← ck.2.1.2.1 q hq]) (fun q hq => by
        rw [ptF_all xa ya wn hn c (by omega) (by omega)]
        split
        · exact o4.imp id okc_of
        · exact ck.1.2.1 q hq)
      refine ae_aload_n (pc := 68) dX10_paint_68 rfl ?_
      refine ae_getR (pc := 69) (k := 0) (c := 10) (j := 0) (q := 1) dX10_paint_69 rfl rfl (Nat.le_of_ble_eq_true rfl) rfl (Nat.le_of_ble_eq_true rfl) rfl ?_
      refine ae_iload_n (pc := 72) dX10_paint_72 rfl ?_
      refine ae_iload_n (pc := 73) dX10_paint_73 rfl ?_
      refine ae_iload_n (pc := 74) dX10_paint_74 rfl ?_
      refine ae_iload (pc := 75) dX10_paint_75 rfl ?_
      refine ae_iload (pc := 77) dX10_paint_77 rfl ?_
      refine ae_callV (pc := 79) (z := zX7_fillArea) (k := 1) (As := [_, _, _, _, _]) dX10_paint_79 rfl rfl rfl rfl (Nat.le_of_ble_eq_true rfl) rfl (Nat.le_of_ble_eq_true rfl) (Nat.le_of_ble_eq_true rfl) (hfa) (fun v M' hq => ?_)
      obtain ⟨rfl, rfl⟩ := hq
      refine ae_iload_n (pc := 82) dX10_paint_82 rfl ?_
      refine ae_iload (pc := 83) dX10_paint_83 rfl ?_
      refine ae_imul (pc := 85) (v := nI (wn * hn)) dX10_paint_85 (nI_mul _ _) ?_
      refine ae_ireturn (pc := 86) dX10_paint_86 rfl ?_
      exact ⟨rfl, fin, fun k p q => (am_u_ne M'.1 _ (by omega)).trans (rs k p q)⟩
    · have := sm_paint 5 M1 (by rw [h1.1]; exact hf.1) u h1.2.1 hu xa ya wn hn c (by rw [h1.1]; omega) (by rw [h1.1]; omega) o4
      rw [h1.1] at this
      refine this.mono (fun v M2 q => ?_)
      obtain ⟨q1, rfl⟩ := q
      exact ⟨q1, RI_kp h1 1 _⟩
  · refine stepR (r := -2) hC hR ?_ (fun M1 h1 => roM (sm_paint0 5 M1 x y w h c (by rw [h1.1]; exact hok)))
    refine ae_enter (z := zX10_paint) (y := yX10_paint) (cc := cX10_paint) (mL := 6) (rt := some .int) (ci := 10) (st := false) (np := 5) (L := [some (.ref 0), some (.int x), some (.int y), some (.int w), some (.int h), some (.int c)]) rfl (by decide) (Nat.le_of_ble_eq_true rfl) rfl ?_
    refine ae_aload_n (pc := 0) dX10_paint_0 rfl ?_
    refine ae_getR (pc := 1) (k := 0) (c := 10) (j := 0) (q := 1) dX10_paint_1 rfl rfl (Nat.le_of_ble_eq_true rfl) rfl (Nat.le_of_ble_eq_true rfl) rfl ?_
    refine ae_iload_n (pc := 4) dX10_paint_4 rfl ?_
    refine ae_iload_n (pc := 5) dX10_paint_5 rfl ?_
    refine ae_pcallV (pc := 6) (z := zX7_contains) (k := 1) (As := [_, _]) dX10_paint_6 rfl rfl rfl rfl (Nat.le_of_ble_eq_true rfl) rfl (Nat.le_of_ble_eq_true rfl) (Nat.le_of_ble_eq_true rfl) (hco) ?_
    refine ae_if_eq (pc := 9) (t := 23) dX10_paint_9 (by decide) (fun c9 => ?_) (fun c9 => ?_)
    · refine ae_bipush (pc := 23) (v := (-2)) dX10_paint_23 (by decide) ?_
      refine ae_ireturn (pc := 25) dX10_paint_25 rfl ?_
      exact ⟨rfl, hg, FR_refl M⟩
    · refine ae_iload (pc := 12) dX10_paint_12 rfl ?_
      refine ae_iconst (pc := 14) (v := (-1)) dX10_paint_14 (by decide) ?_
      refine ae_ldc (pc := 15) dX10_paint_15 rfl rfl ?_
      refine ae_pcallS (pc := 17) (z := zX10_isWithin) (As := [_, _, _]) dX10_paint_17 rfl rfl rfl rfl (Nat.le_of_ble_eq_true rfl) (sc_isWithin 6 _ _ _ _) ?_
      refine ae_if_ne (pc := 20) (t := 26) dX10_paint_20 (by decide) (fun c20 => ?_) (fun c20 => ?_)
      · refine ae_iload_n (pc := 26) dX10_paint_26 rfl ?_
        refine ae_iconst (pc := 27) (v := nI 1) dX10_paint_27 (by decide) ?_
        refine ae_aload_n (pc := 28) dX10_paint_28 rfl ?_
        refine ae_getR (pc := 29) (k := 0) (c := 10) (j := 0) (q := 1) dX10_paint_29 rfl rfl (Nat.le_of_ble_eq_true rfl) rfl (Nat.le_of_ble_eq_true rfl) rfl ?_
        refine ae_getI (pc := 32) (k := 1) (c := 7) (j := 0) (v := f 0) dX10_paint_32 rfl rfl (Or.inl rfl) (Nat.le_of_ble_eq_true rfl) rfl (Nat.le_of_ble_eq_true rfl) (a0.trans e0.symm) ?_
        refine ae_iload_n (pc := 35) dX10_paint_35 rfl ?_
        refine ae_isub (pc := 36) dX10_paint_36 rfl ?_
        refine ae_pcallS (pc := 37) (z := zX10_isWithin) (As := [_, _, _]) dX10_paint_37 rfl rfl rfl rfl (Nat.le_of_ble_eq_true rfl) (sc_isWithin 6 _ _ _ _) ?_
        refine ae_if_eq (pc := 40) (t := 61) dX10_paint_40 (by decide) (fun c40 => ?_) (fun c40 => ?_)
        · refine ae_bipush (pc := 61) (v := (-2)) dX10_paint_61 (by decide) ?_
          refine ae_ireturn (pc := 63) dX10_paint_63 rfl ?_
          exact ⟨rfl, hg, FR_refl M⟩
        · refine ae_iload (pc := 43) dX10_paint_43 rfl ?_
          refine ae_iconst (pc := 45) (v := nI 1) dX10_paint_45 (by decide) ?_
          refine ae_aload_n (pc := 46) dX10_paint_46 rfl ?_
          refine ae_getR (pc := 47) (k := 0) (c := 10) (j := 0) (q := 1) dX10_paint_47 rfl rfl (Nat.le_of_ble_eq_true rfl) rfl (Nat.le_of_ble_eq_true rfl) rfl ?_
          refine ae_getI (pc := 50) (k := 1) (c := 7) (j := 1) (v := f 1) dX10_paint_50 rfl rfl (Or.inl rfl) (Nat.le_of_ble_eq_true rfl) rfl (Nat.le_of_ble_eq_true rfl) (a1.trans g0.symm) ?_
          refine ae_iload_n (pc := 53) dX10_paint_53 rfl ?_
          refine ae_isub (pc := 54) dX10_paint_54 rfl ?_
          refine ae_pcallS (pc := 55) (z := zX10_isWithin) (As := [_, _, _]) dX10_paint_55 rfl rfl rfl rfl (Nat.le_of_ble_eq_true rfl) (sc_isWithin 6 _ _ _ _) ?_
          refine ae_if_ne (pc := 58) (t := 64) dX10_paint_58 (by decide) (fun c58 => ?_) (fun c58 => ?_)
          · exact (hok ⟨bI_ne0.mp c9, bI_ne0.mp c40, bI_ne0.mp c58, okc_m1.mp (bI_ne0.mp c20)⟩).elim
          · refine ae_bipush (pc := 61) (v := (-2)) dX10_paint_61 (by decide) ?_
            refine ae_ireturn (pc := 63) dX10_paint_63 rfl ?_
            exact ⟨rfl, hg, FR_refl M⟩
      · refine ae_bipush (pc := 23) (v := (-2)) dX10_paint_23 (by decide) ?_
        refine ae_ireturn (pc := 25) dX10_paint_25 rfl ?_
        exact ⟨rfl, hg, FR_refl M⟩
theorem sc_blend (d : Nat) (M : am_M) (fr to : Int32) (hfr : okc fr) (i n : Nat) (hi : i < n) (hn : n ≤ 16) : am_R (d + 2) zX10_blend [.int fr, .int to, .int (nI i), .int (nI n)] M (fun v M' => v = some (.int (grC fr to (nI i) (nI n) 3)) ∧ M' = M) := by
  refine ae_enter (z := zX10_blend) (y := yX10_blend) (cc := cX10_blend) (mL := 7) (rt := some .int) (ci := 10) (st := true) (np := 4) (L := [some (.int fr), some (.int to), some (.int (nI i)), some (.int (nI n)), none, none, none]) rfl (by decide) (Nat.le_of_ble_eq_true rfl) rfl ?_
  by_cases h1 : n = 1
  · subst h1
    rw [grC_1 hfr]
    refine ae_iload_n (pc := 0) dX10_blend_0 rfl ?_
    refine ae_iconst (pc := 1) (v := nI 1) dX10_blend_1 (by decide) ?_
    refine ae_icmp_gt (pc := 2) (t := 7) dX10_blend_2 (by decide) (fun c2 => ?_) (fun c2 => ?_)
    · exact absurd c2 (by decide)
    · refine ae_iload_n (pc := 5) dX10_blend_5 rfl ?_
      refine ae_ireturn (pc := 6) dX10_blend_6 rfl ?_
      exact ⟨rfl, rfl⟩
  · have hne : ¬ nI n = nI 1 := by rw [nI_eq (by omega) (by omega)]; exact h1
    have st : am_E none (am_R (d + 1)) cX10_blend 10 (some .int) (fun v M' => v = some (.int (grC fr to (nI i) (nI n) 3)) ∧ M' = M) (13, [some (.int fr), some (.int to), some (.int (nI i)), some (.int (nI n)), some (.int (grC fr to (nI i) (nI n) 0)), some (.int (nI 0)), none], [], M) := by
      refine am_down (P := fun k => am_E none (am_R (d + 1)) cX10_blend 10 (some .int) _ (13, [some (.int fr), some (.int to), some (.int (nI i)), some (.int (nI n)), some (.int (grC fr to (nI i) (nI n) k)), some (.int (nI k)), none], [], M)) 3 (fun k hk ih => ?_)
      refine ae_iload (pc := 13) dX10_blend_13 rfl ?_
      refine ae_iconst (pc := 15) (v := nI 3) dX10_blend_15 (by decide) ?_
      refine ae_icmp_ge (pc := 16) (t := 60) dX10_blend_16 (by decide) (fun c16 => ?_) (fun c16 => ?_)
      · have hk2 : k = 3 := by rw [nI_leI (by omega) (by omega)] at c16; omega
        subst hk2
        refine ae_iload (pc := 60) dX10_blend_60 rfl ?_
        refine ae_ireturn (pc := 62) dX10_blend_62 rfl ?_
        exact ⟨rfl, rfl⟩
      · have hk2 : k < 3 := by rw [nI_leI (by omega) (by omega)] at c16; omega
        have e : grC fr to (nI i) (nI n) (k + 1) = nI 256 * grC fr to (nI i) (nI n) k + cha fr k + (cha to k - cha fr k) * nI i / (nI n - nI 1) := by
          show nI 256 * grC fr to (nI i) (nI n) k + stp (cha fr k) (cha to k) (nI i) (nI n) = _
          unfold stp
          rw [if_neg hne, Int32.add_assoc]
        refine ae_iload_n (pc := 19) dX10_blend_19 rfl ?_
        refine ae_iload (pc := 20) dX10_blend_20 rfl ?_
        refine ae_pcallS (pc := 22) (z := zX10_channelOf) (As := [_, _]) dX10_blend_22 rfl rfl rfl rfl (Nat.le_of_ble_eq_true rfl) (sc_channelOf d _ _ _) ?_
        refine ae_istore (pc := 25) dX10_blend_25 rfl (Nat.le_of_ble_eq_true rfl) ?_
        refine ae_sipush (pc := 27) (v := nI 256) dX10_blend_27 (by decide) ?_
        refine ae_iload (pc := 30) dX10_blend_30 rfl ?_
        refine ae_imul (pc := 32) dX10_blend_32 rfl ?_
        refine ae_iload (pc := 33) dX10_blend_33 rfl ?_
        refine ae_iadd (pc := 35) dX10_blend_35 rfl ?_
        refine ae_iload_n (pc := 36) dX10_blend_36 rfl ?_
        refine ae_iload (pc := 37) dX10_blend_37 rfl ?_
        refine ae_pcallS (pc := 39) (z := zX10_channelOf) (As := [_, _]) dX10_blend_39 rfl rfl rfl rfl (Nat.le_of_ble_eq_true rfl) (sc_channelOf d _ _ _) ?_
        refine ae_iload (pc := 42) dX10_blend_42 rfl ?_
        refine ae_isub (pc := 44) dX10_blend_44 rfl ?_
        refine ae_iload_n (pc := 45) dX10_blend_45 rfl ?_
        refine ae_imul (pc := 46) dX10_blend_46 rfl ?_
        refine ae_iload_n (pc := 47) dX10_blend_47 rfl ?_
        refine ae_iconst (pc := 48) (v := nI 1) dX10_blend_48 (by decide) ?_
        refine ae_isub (pc := 49) (v := nI n - nI 1) dX10_blend_49 rfl ?_
        refine ae_idiv (pc := 50) dX10_blend_50 (by rw [nI_sub (by omega)]; exact nI_ne0 (by omega) (by omega)) rfl ?_
        refine ae_iadd (pc := 51) dX10_blend_51 rfl ?_
        refine ae_istore (pc := 52) (v := grC fr to (nI i) (nI n) (k + 1)) dX10_blend_52 e.symm (Nat.le_of_ble_eq_true rfl) ?_
        refine ae_iinc (pc := 54) (v := nI (k + 1)) dX10_blend_54 rfl (nI_inc k) ?_
        refine ae_goto (pc := 57) (t := 13) dX10_blend_57 (by decide) ?_
        exact ae_forget [6] rfl (ih hk2)
    refine ae_iload_n (pc := 0) dX10_blend_0 rfl ?_
    refine ae_iconst (pc := 1) (v := nI 1) dX10_blend_1 (by decide) ?_
    refine ae_icmp_gt (pc := 2) (t := 7) dX10_blend_2 (by decide) (fun c2 => ?_) (fun c2 => ?_)
    rotate_left
    · exact absurd ((nI_ltI (by decide) (by omega)).mpr (by omega)) c2
    refine ae_iconst (pc := 7) (v := nI 0) dX10_blend_7 (by decide) ?_
    refine ae_istore (pc := 8) dX10_blend_8 rfl (Nat.le_of_ble_eq_true rfl) ?_
    refine ae_iconst (pc := 10) (v := nI 0) dX10_blend_10 (by decide) ?_
    refine ae_istore (pc := 11) dX10_blend_11 rfl (Nat.le_of_ble_eq_true rfl) ?_
    exact st
theorem st_gradient (M : am_M) (hI : INV M) (x y vt : Int32) : STEP M zX10_gradient [.ref 0, .int x, .int y, .int vt] zX11_gradient [.ref 33, .int x, .int y, .int vt] := by
  obtain ⟨f, u, past, n, t, hC, hR⟩ := hI
  obtain ⟨hf, hg, hh, ht⟩ := id hC
  have hu := hh.1
  by_cases h : (0 ≤ x ∧ x ≤ 16777215) ∧ 0 ≤ y ∧ y ≤ 16777215
  · obtain ⟨kw0, kw1, kw2, kw3⟩ := wf0_kp hf.1 1
    have kwA : fA (kpF f 1) = fA f := by unfold fA; rw [kw1, kw2]
    have hA := fA_le hf.1
    obtain ⟨⟨-, e1, e2⟩, ⟨-, g1, g2⟩, -⟩ := id hf.1
    refine comb (r := nI (fA f)) (f' := grF (kpF f 1) x y vt (fA f)) (u' := kpN u) (past' := kpP past f u) (n' := n) (t' := t) hR ?_ (fun M1 h1 => ?_)
    · refine ae_enter (z := zX10_gradient) (y := yX10_gradient) (cc := cX10_gradient) (mL := 7) (rt := some .int) (ci := 10) (st := false) (np := 3) (L := [some (.ref 0), some (.int x), some (.int y), some (.int vt), none, none, none]) rfl (by decide) (Nat.le_of_ble_eq_true rfl) rfl ?_
      refine ae_iload_n (pc := 0) dX10_gradient_0 rfl ?_
      refine ae_pcallS (pc := 1) (z := zX10_isColor) (As := [_]) dX10_gradient_1 rfl rfl rfl rfl (Nat.le_of_ble_eq_true rfl) (sc_isColor 5 _ _) ?_
      refine ae_if_eq (pc := 4) (t := 14) dX10_gradient_4 (by decide) (fun c4 => ?_) (fun c4 => ?_)
      · exact absurd h.1 (bI_eq0.mp c4)
      refine ae_iload_n (pc := 7) dX10_gradient_7 rfl ?_
      refine ae_pcallS (pc := 8) (z := zX10_isColor) (As := [_]) dX10_gradient_8 rfl rfl rfl rfl (Nat.le_of_ble_eq_true rfl) (sc_isColor 5 _ _) ?_
      refine ae_if_ne (pc := 11) (t := 17) dX10_gradient_11 (by decide) (fun c11 => ?_) (fun c11 => ?_)
      rotate_left
      · exact absurd h.2 (bI_eq0.mp (Classical.not_not.mp c11))
      refine ae_aload_n (pc := 17) dX10_gradient_17 rfl ?_
      refine ae_callV (pc := 18) (z := zX10_beginRemake) (k := 0) (As := []) dX10_gradient_18 rfl rfl rfl rfl (Nat.le_of_ble_eq_true rfl) rfl (Nat.le_of_ble_eq_true rfl) (Nat.le_of_ble_eq_true rfl) (sc_beginRemake 4 M f hg hf u past hh) (fun v M' hq => ?_)
      obtain ⟨rfl, q1, q2, -, q4⟩ := hq
      obtain ⟨ck, rs⟩ := rmk_ck hC q1 q2 q4
      skip
      obtain ⟨b0, b1, -⟩ := AG_w ck.2.1 ck.1.1
      rw [kw1] at b0
      rw [kw2] at b1
      have n1 : ∀ p' : fT, ((am_u M'.1 2 p', M'.2) : am_M).1 1 = M'.1 1 := fun p' => au0 _ _ _ (by decide)
      have fin : ∀ p' : fT, (∀ q, q < fA f → p' q = grC x y (grI f vt q) (nI (if vt = 0 then fW f else fH f)) 3) → CK (am_u M'.1 2 p', M'.2) (grF (kpF f 1) x y vt (fA f)) (kpN u) (kpP past f u) n t ∧ RS M (am_u M'.1 2 p', M'.2) := by
        intro p' hp'
        have ev : ∀ q, q < fA f → grF (kpF f 1) x y vt (fA f) (2 + q) = grC x y (grI f vt q) (nI (if vt = 0 then fW f else fH f)) 3 := by
          intro q hq
          rw [grF_v _ _ _ _ hq]
          unfold grI
          rw [kw1, kw2]
        refine ⟨ck_px ck (kp292 f) rfl (fun j hj => gr_out _ _ _ _ _ _ (by omega)) (fun q hq => ?_) (fun q hq => ?_), fun k p q => (am_u_ne M'.1 _ (by omega)).trans (rs k p q)⟩
        · rw [kwA] at hq; rw [hp' q hq, ev q hq]
        · rw [kwA] at hq
          rw [ev q hq]
          refine Or.inr ?_
          unfold grI
          split
          · exact grC_ok (Nat.mod_lt _ (by omega)) (by omega)
          · exact grC_ok (Nat.div_lt_of_lt_mul hq) (by omega)
      have tail : ∀ (p' : fT) (s : Int32) (k : Int32), (∀ q, q < fA f → p' q = grC x y (grI f vt q) (nI (if vt = 0 then fW f else fH f)) 3) → am_E none (am_R 7) cX10_gradient 10 (some .int) (fun v M1 => v = some (.int (nI (fA f))) ∧ CK M1 (grF (kpF f 1) x y vt (fA f)) (kpN u) (kpP past f u) n t ∧ RS M M1) (118, [some (.ref 0), some (.int x), some (.int y), some (.int vt), some (.int s), some (.int k), none], [], (am_u M'.1 2 p', M'.2)) := by
        intro p' s k hp'
        refine ae_aload_n (pc := 118) dX10_gradient_118 rfl ?_
        refine ae_getR (pc := 119) (k := 0) (c := 10) (j := 0) (q := 1) dX10_gradient_119 rfl rfl (Nat.le_of_ble_eq_true rfl) rfl (Nat.le_of_ble_eq_true rfl) rfl ?_
        refine ae_pcallV (pc := 122) (z := zX7_area) (k := 1) (As := []) dX10_gradient_122 rfl rfl rfl rfl (Nat.le_of_ble_eq_true rfl) rfl (Nat.le_of_ble_eq_true rfl) (Nat.le_of_ble_eq_true rfl) (sc_areaR 6 _ (fW f) (fH f) (by rw [n1]; exact b0) (by rw [n1]; exact b1)) ?_
        refine ae_ireturn (pc := 125) dX10_gradient_125 rfl ?_
        exact ⟨rfl, fin p' hp'⟩
      by_cases hv : vt = 0
      · rw [if_pos hv] at tail
        have lp : ∀ p' : fT, (∀ q, q < fA f → q % fW f < 0 → p' q = grC x y (grI f vt q) (nI (fW f)) 3) → am_E none (am_R 7) cX10_gradient 10 (some .int) (fun v M1 => v = some (.int (nI (fA f))) ∧ CK M1 (grF (kpF f 1) x y vt (fA f)) (kpN u) (kpP past f u) n t ∧ RS M M1) (47, [some (.ref 0), some (.int x), some (.int y), some (.int vt), some (.int (nI (fW f))), some (.int (nI 0)), none], [], (am_u M'.1 2 p', M'.2)) := by
          refine am_down (P := fun k => ∀ p' : fT, (∀ q, q < fA f → q % fW f < k → p' q = grC x y (grI f vt q) (nI (fW f)) 3) → am_E none (am_R 7) cX10_gradient 10 (some .int) _ (47, [some (.ref 0), some (.int x), some (.int y), some (.int vt), some (.int (nI (fW f))), some (.int (nI k)), none], [], (am_u M'.1 2 p', M'.2))) (fW f) (fun k hk ih p' hp' => ?_)
          refine ae_iload (pc := 47) dX10_gradient_47 rfl ?_
          refine ae_iload (pc := 49) dX10_gradient_49 rfl ?_
          refine ae_icmp_ge (pc := 51) (t := 118) dX10_gradient_51 (by decide) (fun c51 => ?_) (fun c51 => ?_)
          · have hk2 : k = fW f := by rw [nI_leI (by omega) (by omega)] at c51; omega
            exact tail p' _ _ (fun q hq => hp' q hq (by rw [hk2]; exact Nat.mod_lt _ (by omega)))
          · have hk2 : k < fW f := by rw [nI_leI (by omega) (by omega)] at c51; omega
            have hfa := sc_fillArea 5 (am_u M'.1 2 p', M'.2) (fW f) (fH f) (by rw [n1]; exact b0) (by rw [n1]; exact b1) (by omega) (by omega) k 0 1 (fH f) (by omega) (by omega) (grC x y (nI k) (nI (fW f)) 3)
            rw [au1, show ((am_u (am_u M'.1 2 p', M'.2).1 2 (rcF p' (fW f) k 0 1 (fH f) (grC x y (nI k) (nI (fW f)) 3)), (am_u M'.1 2 p', M'.2).2) : am_M) = (am_u M'.1 2 (rcF p' (fW f) k 0 1 (fH f) (grC x y (nI k) (nI (fW f)) 3)), M'.2) by simp only [am_u_u]] at hfa
            have st := ih hk2 (rcF p' (fW f) k 0 1 (fH f) (grC x y (nI k) (nI (fW f)) 3)) (fun q hq hqk => by
              rw [rcF_v]
              have hd : q / fW f < fH f := Nat.div_lt_of_lt_mul hq
              by_cases z : q % fW f = k
              · rw [if_pos ⟨by omega, by omega, Nat.zero_le _, by omega⟩]
                unfold grI; rw [if_pos hv, z]
              · rw [if_neg (by omega)]; exact hp' q hq (by omega))
            refine ae_iload_n (pc := 54) dX10_gradient_54 rfl ?_
            refine ae_iload_n (pc := 55) dX10_gradient_55 rfl ?_
            refine ae_iload (pc := 56) dX10_gradient_56 rfl ?_
            refine ae_iload (pc := 58) dX10_gradient_58 rfl ?_
            refine ae_pcallS (pc := 60) (z := zX10_blend) (As := [_, _, _, _]) dX10_gradient_60 rfl rfl rfl rfl (Nat.le_of_ble_eq_true rfl) (sc_blend 5 _ x y (okc_of h.1) k (fW f) hk2 (by omega)) ?_
            refine ae_istore (pc := 63) dX10_gradient_63 rfl (Nat.le_of_ble_eq_true rfl) ?_
            refine ae_iload_n (pc := 65) dX10_gradient_65 rfl ?_
            refine ae_if_eq (pc := 66) (t := 92) dX10_gradient_66 (by decide) (fun c66 => ?_) (fun c66 => ?_)
            rotate_left
            · exact absurd hv c66
            refine ae_aload_n (pc := 92) dX10_gradient_92 rfl ?_
            refine ae_getR (pc := 93) (k := 0) (c := 10) (j := 0) (q := 1) dX10_gradient_93 rfl rfl (Nat.le_of_ble_eq_true rfl) rfl (Nat.le_of_ble_eq_true rfl) rfl ?_
            refine ae_iload (pc := 96) dX10_gradient_96 rfl ?_
            refine ae_iconst (pc := 98) (v := nI 0) dX10_gradient_98 (by decide) ?_
            refine ae_iconst (pc := 99) (v := nI 1) dX10_gradient_99 (by decide) ?_
            refine ae_aload_n (pc := 100) dX10_gradient_100 rfl ?_
            refine ae_getR (pc := 101) (k := 0) (c := 10) (j := 0) (q := 1) dX10_gradient_101 rfl rfl (Nat.le_of_ble_eq_true rfl) rfl (Nat.le_of_ble_eq_true rfl) rfl ?_
            refine ae_getI (pc := 104) (k := 1) (c := 7) (j := 1) (v := nI (fH f)) dX10_gradient_104 rfl rfl (Or.inl rfl) (Nat.le_of_ble_eq_true rfl) rfl (Nat.le_of_ble_eq_true rfl) (by rw [n1]; exact b1) ?_
            refine ae_iload (pc := 107) dX10_gradient_107 rfl ?_
            refine ae_callV (pc := 109) (z := zX7_fillArea) (k := 1) (As := [_, _, _, _, _]) dX10_gradient_109 rfl rfl rfl rfl (Nat.le_of_ble_eq_true rfl) rfl (Nat.le_of_ble_eq_true rfl) (Nat.le_of_ble_eq_true rfl) (hfa) (fun v M' hq => ?_)
            obtain ⟨rfl, rfl⟩ := hq
            refine ae_iinc (pc := 112) (v := nI (k + 1)) dX10_gradient_112 rfl (nI_inc k) ?_
            refine ae_goto (pc := 115) (t := 47) dX10_gradient_115 (by decide) ?_
            exact ae_forget [6] rfl st
        have st := lp (M'.1 2) (fun q _ hq => absurd hq (Nat.not_lt_zero _))
        rw [am_u_eta] at st
        refine ae_iload_n (pc := 21) dX10_gradient_21 rfl ?_
        refine ae_if_eq (pc := 22) (t := 35) dX10_gradient_22 (by decide) (fun c22 => ?_) (fun c22 => ?_)
        rotate_left
        · exact absurd hv c22
        refine ae_aload_n (pc := 35) dX10_gradient_35 rfl ?_
        refine ae_getR (pc := 36) (k := 0) (c := 10) (j := 0) (q := 1) dX10_gradient_36 rfl rfl (Nat.le_of_ble_eq_true rfl) rfl (Nat.le_of_ble_eq_true rfl) rfl ?_
        refine ae_getI (pc := 39) (k := 1) (c := 7) (j := 0) (v := nI (fW f)) dX10_gradient_39 rfl rfl (Or.inl rfl) (Nat.le_of_ble_eq_true rfl) rfl (Nat.le_of_ble_eq_true rfl) b0 ?_
        refine ae_istore (pc := 42) dX10_gradient_42 rfl (Nat.le_of_ble_eq_true rfl) ?_
        refine ae_iconst (pc := 44) (v := nI 0) dX10_gradient_44 (by decide) ?_
        refine ae_istore (pc := 45) dX10_gradient_45 rfl (Nat.le_of_ble_eq_true rfl) ?_
        exact st
      · rw [if_neg hv] at tail
        have lp : ∀ p' : fT, (∀ q, q < fA f → q / fW f < 0 → p' q = grC x y (grI f vt q) (nI (fH f)) 3) → am_E none (am_R 7) cX10_gradient 10 (some .int) (fun v M1 => v = some (.int (nI (fA f))) ∧ CK M1 (grF (kpF f 1) x y vt (fA f)) (kpN u) (kpP past f u) n t ∧ RS M M1) (47, [some (.ref 0), some (.int x), some (.int y), some (.int vt), some (.int (nI (fH f))), some (.int (nI 0)), none], [], (am_u M'.1 2 p', M'.2)) := by
          refine am_down (P := fun k => ∀ p' : fT, (∀ q, q < fA f → q / fW f < k → p' q = grC x y (grI f vt q) (nI (fH f)) 3) → am_E none (am_R 7) cX10_gradient 10 (some .int) _ (47, [some (.ref 0), some (.int x), some (.int y), some (.int vt), some (.int (nI (fH f))), some (.int (nI k)), none], [], (am_u M'.1 2 p', M'.2))) (fH f) (fun k hk ih p' hp' => ?_)
          refine ae_iload (pc := 47) dX10_gradient_47 rfl ?_
          refine ae_iload (pc := 49) dX10_gradient_49 rfl ?_
          refine ae_icmp_ge (pc := 51) (t := 118) dX10_gradient_51 (by decide) (fun c51 => ?_) (fun c51 => ?_)
          · have hk2 : k = fH f := by rw [nI_leI (by omega) (by omega)] at c51; omega
            exact tail p' _ _ (fun q hq => hp' q hq (by rw [hk2]; exact Nat.div_lt_of_lt_mul hq))
          · have hk2 : k < fH f := by rw [nI_leI (by omega) (by omega)] at c51; omega
            have hfa := sc_fillArea 5 (am_u M'.1 2 p', M'.2) (fW f) (fH f) (by rw [n1]; exact b0) (by rw [n1]; exact b1) (by omega) (by omega) 0 k (fW f) 1 (by omega) (by omega) (grC x y (nI k) (nI (fH f)) 3)
            rw [au1, show ((am_u (am_u M'.1 2 p', M'.2).1 2 (rcF p' (fW f) 0 k (fW f) 1 (grC x y (nI k) (nI (fH f)) 3)), (am_u M'.1 2 p', M'.2).2) : am_M) = (am_u M'.1 2 (rcF p' (fW f) 0 k (fW f) 1 (grC x y (nI k) (nI (fH f)) 3)), M'.2) by simp only [am_u_u]] at hfa
            have st := ih hk2 (rcF p' (fW f) 0 k (fW f) 1 (grC x y (nI k) (nI (fH f)) 3)) (fun q hq hqk => by
              rw [rcF_v]
              have hmo := Nat.mod_lt q (show 0 < fW f by omega)
              by_cases z : q / fW f = k
              · rw [if_pos ⟨Nat.zero_le _, by omega, by omega, by omega⟩]
                unfold grI; rw [if_neg hv, z]
              · rw [if_neg (by omega)]; exact hp' q hq (by omega))
            refine ae_iload_n (pc := 54) dX10_gradient_54 rfl ?_
            refine ae_iload_n (pc := 55) dX10_gradient_55 rfl ?_
            refine ae_iload (pc := 56) dX10_gradient_56 rfl ?_
            refine ae_iload (pc := 58) dX10_gradient_58 rfl ?_
            refine ae_pcallS (pc := 60) (z := zX10_blend) (As := [_, _, _, _]) dX10_gradient_60 rfl rfl rfl rfl (Nat.le_of_ble_eq_true rfl) (sc_blend 5 _ x y (okc_of h.1) k (fH f) hk2 (by omega)) ?_
            refine ae_istore (pc := 63) dX10_gradient_63 rfl (Nat.le_of_ble_eq_true rfl) ?_
            refine ae_iload_n (pc := 65) dX10_gradient_65 rfl ?_
            refine ae_if_eq (pc := 66) (t := 92) dX10_gradient_66 (by decide) (fun c66 => ?_) (fun c66 => ?_)
            · exact absurd c66 hv
            refine ae_aload_n (pc := 69) dX10_gradient_69 rfl ?_
            refine ae_getR (pc := 70) (k := 0) (c := 10) (j := 0) (q := 1) dX10_gradient_70 rfl rfl (Nat.le_of_ble_eq_true rfl) rfl (Nat.le_of_ble_eq_true rfl) rfl ?_
            refine ae_iconst (pc := 73) (v := nI 0) dX10_gradient_73 (by decide) ?_
            refine ae_iload (pc := 74) dX10_gradient_74 rfl ?_
            refine ae_aload_n (pc := 76) dX10_gradient_76 rfl ?_
            refine ae_getR (pc := 77) (k := 0) (c := 10) (j := 0) (q := 1) dX10_gradient_77 rfl rfl (Nat.le_of_ble_eq_true rfl) rfl (Nat.le_of_ble_eq_true rfl) rfl ?_
            refine ae_getI (pc := 80) (k := 1) (c := 7) (j := 0) (v := nI (fW f)) dX10_gradient_80 rfl rfl (Or.inl rfl) (Nat.le_of_ble_eq_true rfl) rfl (Nat.le_of_ble_eq_true rfl) (by rw [n1]; exact b0) ?_
            refine ae_iconst (pc := 83) (v := nI 1) dX10_gradient_83 (by decide) ?_
            refine ae_iload (pc := 84) dX10_gradient_84 rfl ?_
            refine ae_callV (pc := 86) (z := zX7_fillArea) (k := 1) (As := [_, _, _, _, _]) dX10_gradient_86 rfl rfl rfl rfl (Nat.le_of_ble_eq_true rfl) rfl (Nat.le_of_ble_eq_true rfl) (Nat.le_of_ble_eq_true rfl) (hfa) (fun v M' hq => ?_)
            obtain ⟨rfl, rfl⟩ := hq
            refine ae_goto (pc := 89) (t := 112) dX10_gradient_89 (by decide) ?_
            refine ae_iinc (pc := 112) (v := nI (k + 1)) dX10_gradient_112 rfl (nI_inc k) ?_
            refine ae_goto (pc := 115) (t := 47) dX10_gradient_115 (by decide) ?_
            exact ae_forget [6] rfl st
        have st := lp (M'.1 2) (fun q _ hq => absurd hq (Nat.not_lt_zero _))
        rw [am_u_eta] at st
        refine ae_iload_n (pc := 21) dX10_gradient_21 rfl ?_
        refine ae_if_eq (pc := 22) (t := 35) dX10_gradient_22 (by decide) (fun c22 => ?_) (fun c22 => ?_)
        · exact absurd c22 hv
        refine ae_aload_n (pc := 25) dX10_gradient_25 rfl ?_
        refine ae_getR (pc := 26) (k := 0) (c := 10) (j := 0) (q := 1) dX10_gradient_26 rfl rfl (Nat.le_of_ble_eq_true rfl) rfl (Nat.le_of_ble_eq_true rfl) rfl ?_
        refine ae_getI (pc := 29) (k := 1) (c := 7) (j := 1) (v := nI (fH f)) dX10_gradient_29 rfl rfl (Or.inl rfl) (Nat.le_of_ble_eq_true rfl) rfl (Nat.le_of_ble_eq_true rfl) b1 ?_
        refine ae_goto (pc := 32) (t := 42) dX10_gradient_32 (by decide) ?_
        refine ae_istore (pc := 42) dX10_gradient_42 rfl (Nat.le_of_ble_eq_true rfl) ?_
        refine ae_iconst (pc := 44) (v := nI 0) dX10_gradient_44 (by decide) ?_
        refine ae_istore (pc := 45) dX10_gradient_45 rfl (Nat.le_of_ble_eq_true rfl) ?_
        exact st
    · have := sm_gradient 5 M1 (by rw [h1.1]; exact hf.1) u h1.2.1 hu x y vt h.1 h.2
      rw [h1.1] at this
      refine this.mono (fun v M2 q => ?_)
      obtain ⟨q1, rfl⟩ := q
      exact ⟨q1, RI_kp h1 1 _⟩
  · refine stepR (r := -2) hC hR ?_ (fun M1 h1 => roM (sm_gradient0 5 M1 x y vt h))
    refine ae_enter (z := zX10_gradient) (y := yX10_gradient) (cc := cX10_gradient) (mL := 7) (rt := some .int) (ci := 10) (st := false) (np := 3) (L := [some (.ref 0), some (.int x), some (.int y), some (.int vt), none, none, none]) rfl (by decide) (Nat.le_of_ble_eq_true rfl) rfl ?_
    refine ae_iload_n (pc := 0) dX10_gradient_0 rfl ?_
    refine ae_pcallS (pc := 1) (z := zX10_isColor) (As := [_]) dX10_gradient_1 rfl rfl rfl rfl (Nat.le_of_ble_eq_true rfl) (sc_isColor 5 _ _) ?_
    refine ae_if_eq (pc := 4) (t := 14) dX10_gradient_4 (by decide) (fun c4 => ?_) (fun c4 => ?_)
    · refine ae_bipush (pc := 14) (v := (-2)) dX10_gradient_14 (by decide) ?_
      refine ae_ireturn (pc := 16) dX10_gradient_16 rfl ?_
      exact ⟨rfl, hg, FR_refl M⟩
    · refine ae_iload_n (pc := 7) dX10_gradient_7 rfl ?_
      refine ae_pcallS (pc := 8) (z := zX10_isColor) (As := [_]) dX10_gradient_8 rfl rfl rfl rfl (Nat.le_of_ble_eq_true rfl) (sc_isColor 5 _ _) ?_
      refine ae_if_ne (pc := 11) (t := 17) dX10_gradient_11 (by decide) (fun c11 => ?_) (fun c11 => ?_)
      · exact (h ⟨bI_ne0.mp c4, bI_ne0.mp c11⟩).elim
      · refine ae_bipush (pc := 14) (v := (-2)) dX10_gradient_14 (by decide) ?_
        refine ae_ireturn (pc := 16) dX10_gradient_16 rfl ?_
        exact ⟨rfl, hg, FR_refl M⟩

