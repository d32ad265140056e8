theorem st_pixel (M : am_M) (hI : INV M) (x y : Int32) : STEP M zX10_pixel [.ref 0, .int x, .int y] zX11_pixel [.ref 33, .int x, .int y] := by
  obtain ⟨f, u, past, n, t, hC, hR⟩ := hI
  obtain ⟨hf, hg, hh, ht⟩ := id hC
  have hA := fA_le hf.1
  have hco := sc_contains 6 M f hg hf.1 x y
  by_cases h : inP f x y
  · rw [bI_t h] at hco
    obtain ⟨a, b, ha, hb, rfl, rfl⟩ := of_inP hf.1 h
    have hp := pl_lt hf.1 ha hb
    refine stepR (r := f (2 + (b * fW f + a))) hC hR ?_ (fun M1 h1 => ?_)
    · refine ae_enter (z := zX10_pixel) (y := yX10_pixel) (cc := cX10_pixel) (mL := 3) (rt := some .int) (ci := 10) (st := false) (np := 2) (L := [some (.ref 0), some (.int (nI a)), some (.int (nI b))]) rfl (by decide) (Nat.le_of_ble_eq_true rfl) rfl ?_
      refine ae_aload_n (pc := 0) dX10_pixel_0 rfl ?_
      refine ae_getR (pc := 1) (k := 0) (c := 10) (j := 0) (q := 1) dX10_pixel_1 rfl rfl (Nat.le_of_ble_eq_true rfl) rfl (Nat.le_of_ble_eq_true rfl) rfl ?_
      refine ae_iload_n (pc := 4) dX10_pixel_4 rfl ?_
      refine ae_iload_n (pc := 5) dX10_pixel_5 rfl ?_
      refine ae_pcallV (pc := 6) (z := zX7_contains) (k := 1) (As := [_, _]) dX10_pixel_6 rfl rfl rfl rfl (Nat.le_of_ble_eq_true rfl) rfl (Nat.le_of_ble_eq_true rfl) (Nat.le_of_ble_eq_true rfl) (hco) ?_
      refine ae_if_eq (pc := 9) (t := 32) dX10_pixel_9 (by decide) (fun c9 => ?_) (fun c9 => ?_)
      · exact absurd c9 (by decide)
      refine ae_aload_n (pc := 12) dX10_pixel_12 rfl ?_
      refine ae_getR (pc := 13) (k := 0) (c := 10) (j := 0) (q := 1) dX10_pixel_13 rfl rfl (Nat.le_of_ble_eq_true rfl) rfl (Nat.le_of_ble_eq_true rfl) rfl ?_
      refine ae_getR (pc := 16) (k := 1) (c := 7) (j := 2) (q := 2) dX10_pixel_16 rfl rfl (Nat.le_of_ble_eq_true rfl) rfl (Nat.le_of_ble_eq_true rfl) rfl ?_
      refine ae_aload_n (pc := 19) dX10_pixel_19 rfl ?_
      refine ae_getR (pc := 20) (k := 0) (c := 10) (j := 0) (q := 1) dX10_pixel_20 rfl rfl (Nat.le_of_ble_eq_true rfl) rfl (Nat.le_of_ble_eq_true rfl) rfl ?_
      refine ae_iload_n (pc := 23) dX10_pixel_23 rfl ?_
      refine ae_iload_n (pc := 24) dX10_pixel_24 rfl ?_
      refine ae_pcallV (pc := 25) (z := zX7_place) (k := 1) (As := [_, _]) dX10_pixel_25 rfl rfl rfl rfl (Nat.le_of_ble_eq_true rfl) rfl (Nat.le_of_ble_eq_true rfl) (Nat.le_of_ble_eq_true rfl) (sc_place 6 M f hg hf.1 a b) ?_
      refine ae_iaload (pc := 28) (k := 2) (N := 256) (v := f (2 + (b * fW f + a))) (b * fW f + a) dX10_pixel_28 (Nat.le_of_ble_eq_true rfl) rfl rfl rfl (by omega) (hg.2.1 _ hp) ?_
      refine ae_goto (pc := 29) (t := 34) dX10_pixel_29 (by decide) ?_
      refine ae_ireturn (pc := 34) dX10_pixel_34 rfl ?_
      exact ⟨rfl, hg, FR_refl M⟩
    · have := sm_pixel 5 M1 (by rw [h1.1]; exact hf.1) a b (by rw [h1.1]; exact ha) (by rw [h1.1]; exact hb)
      rw [h1.1] at this
      exact roM this
  · rw [bI_f h] at hco
    refine stepR (r := -2) hC hR ?_ (fun M1 h1 => roM (sm_pixel0 5 M1 x y (by rw [h1.1]; exact h)))
    refine ae_enter (z := zX10_pixel) (y := yX10_pixel) (cc := cX10_pixel) (mL := 3) (rt := some .int) (ci := 10) (st := false) (np := 2) (L := [some (.ref 0), some (.int x), some (.int y)]) rfl (by decide) (Nat.le_of_ble_eq_true rfl) rfl ?_
    refine ae_aload_n (pc := 0) dX10_pixel_0 rfl ?_
    refine ae_getR (pc := 1) (k := 0) (c := 10) (j := 0) (q := 1) dX10_pixel_1 rfl rfl (Nat.le_of_ble_eq_true rfl) rfl (Nat.le_of_ble_eq_true rfl) rfl ?_
    refine ae_iload_n (pc := 4) dX10_pixel_4 rfl ?_
    refine ae_iload_n (pc := 5) dX10_pixel_5 rfl ?_
    refine ae_pcallV (pc := 6) (z := zX7_contains) (k := 1) (As := [_, _]) dX10_pixel_6 rfl rfl rfl rfl (Nat.le_of_ble_eq_true rfl) rfl (Nat.le_of_ble_eq_true rfl) (Nat.le_of_ble_eq_true rfl) (hco) ?_
    refine ae_if_eq (pc := 9) (t := 32) dX10_pixel_9 (by decide) (fun c9 => ?_) (fun c9 => ?_)
    rotate_left
    · exact absurd rfl c9
    refine ae_bipush (pc := 32) (v := (-2)) dX10_pixel_32 (by decide) ?_
    refine ae_ireturn (pc := 34) dX10_pixel_34 rfl ?_
    exact ⟨rfl, hg, FR_refl M⟩
theorem st_index (M : am_M) (hI : INV M) (x y : Int32) : STEP M zX10_index [.ref 0, .int x, .int y] zX11_index [.ref 33, .int x, .int y] := by
  obtain ⟨f, u, past, n, t, hC, hR⟩ := hI
  obtain ⟨hf, hg, hh, ht⟩ := id hC
  have hA := fA_le hf.1
  have a7 : M.1 1 7 = f 292 := hg.1.2.2.2.2
  have hco := sc_contains 6 M f hg hf.1 x y
  by_cases h : inP f x y
  · rw [bI_t h] at hco
    obtain ⟨a, b, ha, hb, rfl, rfl⟩ := of_inP hf.1 h
    have hp := pl_lt hf.1 ha hb
    have hm : ∀ M1, RI M1 f u past n t → am_R 8 zX11_index [.ref 33, .int (nI a), .int (nI b)] M1 (fun w M2 => w = some (.int (if f 292 = 1 then f (293 + (b * fW f + a)) else -3)) ∧ RK M1 M2) := by
      intro M1 h1
      have := sm_index 5 M1 (by rw [h1.1]; exact hf.1) a b (by rw [h1.1]; exact ha) (by rw [h1.1]; exact hb)
      rw [h1.1] at this
      exact roM this
    by_cases hm1 : f 292 = 1
    · rw [if_pos hm1] at hm
      refine stepR hC hR ?_ hm
      refine ae_enter (z := zX10_index) (y := yX10_index) (cc := cX10_index) (mL := 3) (rt := some .int) (ci := 10) (st := false) (np := 2) (L := [some (.ref 0), some (.int (nI a)), some (.int (nI b))]) rfl (by decide) (Nat.le_of_ble_eq_true rfl) rfl ?_
      refine ae_aload_n (pc := 0) dX10_index_0 rfl ?_
      refine ae_getR (pc := 1) (k := 0) (c := 10) (j := 0) (q := 1) dX10_index_1 rfl rfl (Nat.le_of_ble_eq_true rfl) rfl (Nat.le_of_ble_eq_true rfl) rfl ?_
      refine ae_iload_n (pc := 4) dX10_index_4 rfl ?_
      refine ae_iload_n (pc := 5) dX10_index_5 rfl ?_
      refine ae_pcallV (pc := 6) (z := zX7_contains) (k := 1) (As := [_, _]) dX10_index_6 rfl rfl rfl rfl (Nat.le_of_ble_eq_true rfl) rfl (Nat.le_of_ble_eq_true rfl) (Nat.le_of_ble_eq_true rfl) (hco) ?_
      refine ae_if_ne (pc := 9) (t := 15) dX10_index_9 (by decide) (fun c9 => ?_) (fun c9 => ?_)
      rotate_left
      · exact absurd (Classical.not_not.mp c9) (by decide)
      refine ae_aload_n (pc := 15) dX10_index_15 rfl ?_
      refine ae_getR (pc := 16) (k := 0) (c := 10) (j := 0) (q := 1) dX10_index_16 rfl rfl (Nat.le_of_ble_eq_true rfl) rfl (Nat.le_of_ble_eq_true rfl) rfl ?_
      refine ae_getI (pc := 19) (k := 1) (c := 7) (j := 7) (v := f 292) dX10_index_19 rfl rfl (Or.inr rfl) (Nat.le_of_ble_eq_true rfl) rfl (Nat.le_of_ble_eq_true rfl) a7 ?_
      refine ae_if_eq (pc := 22) (t := 45) dX10_index_22 (by decide) (fun c22 => ?_) (fun c22 => ?_)
      · exact absurd (hm1.symm.trans c22) (by decide)
      refine ae_aload_n (pc := 25) dX10_index_25 rfl ?_
      refine ae_getR (pc := 26) (k := 0) (c := 10) (j := 0) (q := 1) dX10_index_26 rfl rfl (Nat.le_of_ble_eq_true rfl) rfl (Nat.le_of_ble_eq_true rfl) rfl ?_
      refine ae_getR (pc := 29) (k := 1) (c := 7) (j := 8) (q := 5) dX10_index_29 rfl rfl (Nat.le_of_ble_eq_true rfl) rfl (Nat.le_of_ble_eq_true rfl) rfl ?_
      refine ae_aload_n (pc := 32) dX10_index_32 rfl ?_
      refine ae_getR (pc := 33) (k := 0) (c := 10) (j := 0) (q := 1) dX10_index_33 rfl rfl (Nat.le_of_ble_eq_true rfl) rfl (Nat.le_of_ble_eq_true rfl) rfl ?_
      refine ae_iload_n (pc := 36) dX10_index_36 rfl ?_
      refine ae_iload_n (pc := 37) dX10_index_37 rfl ?_
      refine ae_pcallV (pc := 38) (z := zX7_place) (k := 1) (As := [_, _]) dX10_index_38 rfl rfl rfl rfl (Nat.le_of_ble_eq_true rfl) rfl (Nat.le_of_ble_eq_true rfl) (Nat.le_of_ble_eq_true rfl) (sc_place 6 M f hg hf.1 a b) ?_
      refine ae_iaload (pc := 41) (k := 5) (N := 256) (v := f (293 + (b * fW f + a))) (b * fW f + a) dX10_index_41 (Nat.le_of_ble_eq_true rfl) rfl rfl rfl (by omega) (hg.2.2.2 hm1 _ hp) ?_
      refine ae_goto (pc := 42) (t := 47) dX10_index_42 (by decide) ?_
      refine ae_ireturn (pc := 47) dX10_index_47 rfl ?_
      exact ⟨rfl, hg, FR_refl M⟩
    · rw [if_neg hm1] at hm
      have hz := hf.2.2.2.2.1.resolve_right hm1
      refine stepR hC hR ?_ hm
      refine ae_enter (z := zX10_index) (y := yX10_index) (cc := cX10_index) (mL := 3) (rt := some .int) (ci := 10) (st := false) (np := 2) (L := [some (.ref 0), some (.int (nI a)), some (.int (nI b))]) rfl (by decide) (Nat.le_of_ble_eq_true rfl) rfl ?_
      refine ae_aload_n (pc := 0) dX10_index_0 rfl ?_
      refine ae_getR (pc := 1) (k := 0) (c := 10) (j := 0) (q := 1) dX10_index_1 rfl rfl (Nat.le_of_ble_eq_true rfl) rfl (Nat.le_of_ble_eq_true rfl) rfl ?_
      refine ae_iload_n (pc := 4) dX10_index_4 rfl ?_
      refine ae_iload_n (pc := 5) dX10_index_5 rfl ?_
      refine ae_pcallV (pc := 6) (z := zX7_contains) (k := 1) (As := [_, _]) dX10_index_6 rfl rfl rfl rfl (Nat.le_of_ble_eq_true rfl) rfl (Nat.le_of_ble_eq_true rfl) (Nat.le_of_ble_eq_true rfl) (hco) ?_
      refine ae_if_ne (pc := 9) (t := 15) dX10_index_9 (by decide) (fun c9 => ?_) (fun c9 => ?_)
      rotate_left
      · exact absurd (Classical.not_not.mp c9) (by decide)
      refine ae_aload_n (pc := 15) dX10_index_15 rfl ?_
      refine ae_getR (pc := 16) (k := 0) (c := 10) (j := 0) (q := 1) dX10_index_16 rfl rfl (Nat.le_of_ble_eq_true rfl) rfl (Nat.le_of_ble_eq_true rfl) rfl ?_
      refine ae_getI (pc := 19) (k := 1) (c := 7) (j := 7) (v := f 292) dX10_index_19 rfl rfl (Or.inr rfl) (Nat.le_of_ble_eq_true rfl) rfl (Nat.le_of_ble_eq_true rfl) a7 ?_
      refine ae_if_eq (pc := 22) (t := 45) dX10_index_22 (by decide) (fun c22 => ?_) (fun c22 => ?_)
      rotate_left
      · exact absurd hz c22
      refine ae_bipush (pc := 45) (v := (-3)) dX10_index_45 (by decide) ?_
      refine ae_ireturn (pc := 47) dX10_index_47 rfl ?_
      exact ⟨rfl, hg, FR_refl M⟩
  · rw [bI_f h] at hco
    refine stepR (r := -2) hC hR ?_ (fun M1 h1 => roM (sm_index0 5 M1 x y (by rw [h1.1]; exact h)))
    refine ae_enter (z := zX10_index) (y := yX10_index) (cc := cX10_index) (mL := 3) (rt := some .int) (ci := 10) (st := false) (np := 2) (L := [some (.ref 0), some (.int x), some (.int y)]) rfl (by decide) (Nat.le_of_ble_eq_true rfl) rfl ?_
    refine ae_aload_n (pc := 0) dX10_index_0 rfl ?_
    refine ae_getR (pc := 1) (k := 0) (c := 10) (j := 0) (q := 1) dX10_index_1 rfl rfl (Nat.le_of_ble_eq_true rfl) rfl (Nat.le_of_ble_eq_true rfl) rfl ?_
    refine ae_iload_n (pc := 4) dX10_index_4 rfl ?_
    refine ae_iload_n (pc := 5) dX10_index_5 rfl ?_
    refine ae_pcallV (pc := 6) (z := zX7_contains) (k := 1) (As := [_, _]) dX10_index_6 rfl rfl rfl rfl (Nat.le_of_ble_eq_true rfl) rfl (Nat.le_of_ble_eq_true rfl) (Nat.le_of_ble_eq_true rfl) (hco) ?_
    refine ae_if_ne (pc := 9) (t := 15) dX10_index_9 (by decide) (fun c9 => ?_) (fun c9 => ?_)
    · exact absurd rfl c9
    refine ae_bipush (pc := 12) (v := (-2)) dX10_index_12 (by decide) ?_
    refine ae_ireturn (pc := 14) dX10_index_14 rfl ?_
    exact ⟨rfl, hg, FR_refl M⟩
theorem st_colors (M : am_M) (hI : INV M) : STEP M zX10_colors [.ref 0] zX11_colors [.ref 33] := by
  obtain ⟨f, u, past, n, t, hC, hR⟩ := hI
  obtain ⟨hf, hg, hh, ht⟩ := id hC
  refine stepR (r := nI (colL f (exF f (nI 0)) (fA f)).length) hC hR ?_ (fun M1 h1 => ?_)
  · refine ae_enter (z := zX10_colors) (y := yX10_colors) (cc := cX10_colors) (mL := 1) (rt := some .int) (ci := 10) (st := false) (np := 0) (L := [some (.ref 0)]) rfl (by decide) (Nat.le_of_ble_eq_true rfl) rfl ?_
    refine ae_aload_n (pc := 0) dX10_colors_0 rfl ?_
    refine ae_getR (pc := 1) (k := 0) (c := 10) (j := 3) (q := 12) dX10_colors_1 rfl rfl (Nat.le_of_ble_eq_true rfl) rfl (Nat.le_of_ble_eq_true rfl) rfl ?_
    refine ae_callV (pc := 4) (z := zX1_collect) (k := 12) (As := []) dX10_colors_4 rfl rfl rfl rfl (Nat.le_of_ble_eq_true rfl) rfl (Nat.le_of_ble_eq_true rfl) (Nat.le_of_ble_eq_true rfl) (sc_collect 5 M f hg hf) (fun v M' hq => ?_)
    obtain ⟨rfl, k, K, h, m, rfl, hH⟩ := hq
    refine ae_aload_n (pc := 7) dX10_colors_7 rfl ?_
    refine ae_getR (pc := 8) (k := 0) (c := 10) (j := 3) (q := 12) dX10_colors_8 rfl rfl (Nat.le_of_ble_eq_true rfl) rfl (Nat.le_of_ble_eq_true rfl) rfl ?_
    refine ae_getI (pc := 11) (k := 12) (c := 1) (j := 4) (v := nI k) dX10_colors_11 rfl rfl (Or.inl rfl) (Nat.le_of_ble_eq_true rfl) rfl (Nat.le_of_ble_eq_true rfl) (by rw [hgM_12, upd_self]) ?_
    refine ae_ireturn (pc := 14) dX10_colors_14 rfl ?_
    exact ⟨by rw [GA_n hH.1], AG_hg hg _ _ _ _, FR_hg _ _ _ _ _⟩
  · have := sm_colors 4 M1 (by rw [h1.1]; exact hf.1)
    rw [h1.1] at this
    refine this.mono (fun v M2 q => ?_)
    obtain ⟨k, h, m, q1, q2, rfl⟩ := q
    exact ⟨by rw [q2, GA_n q1], RK_ga _ _ _ _⟩
theorem st_color (M : am_M) (hI : INV M) (x y : Int32) : STEP M zX10_color [.ref 0, .int x, .int y] zX11_color [.ref 33, .int x, .int y] := by
  obtain ⟨f, u, past, n, t, hC, hR⟩ := hI
  obtain ⟨hf, hg, hh, ht⟩ := id hC
  have hA := fA_le hf.1
  by_cases h : ¬ x < 0 ∧ nI 0 ≤ y ∧ y ≤ nI 1
  · have hx := nI_ge0 (Int32.not_lt.mp h.1)
    have hxl : x.toNatClampNeg < 2 ^ 31 := by
      have := Int32.toInt_lt x
      unfold Int32.toNatClampNeg
      omega
    generalize x.toNatClampNeg = k at *
    subst hx
    show am_R 8 _ _ M _
    refine ae_enter (z := zX10_color) (y := yX10_color) (cc := cX10_color) (mL := 3) (rt := some .int) (ci := 10) (st := false) (np := 2) (L := [some (.ref 0), some (.int (nI k)), some (.int y)]) rfl (by decide) (Nat.le_of_ble_eq_true rfl) rfl ?_
    refine ae_iload_n (pc := 0) dX10_color_0 rfl ?_
    refine ae_if_lt (pc := 1) (t := 13) dX10_color_1 (by decide) (fun q => absurd q h.1) (fun _ => ?_)
    refine ae_iload_n (pc := 4) dX10_color_4 rfl ?_
    refine ae_iconst (pc := 5) (v := nI 0) dX10_color_5 (by decide) ?_
    refine ae_iconst (pc := 6) (v := nI 1) dX10_color_6 (by decide) ?_
    refine ae_pcallS (pc := 7) (z := zX10_isWithin) (As := [_, _, _]) dX10_color_7 rfl rfl rfl rfl (Nat.le_of_ble_eq_true rfl) (sc_isWithin 6 _ _ _ _) ?_
    refine ae_if_ne (pc := 10) (t := 16) dX10_color_10 (by decide) (fun _ => ?_) (fun q => absurd h.2 (bI_eq0.mp (Classical.not_not.mp q)))
    refine ae_aload_n (pc := 16) dX10_color_16 rfl ?_
    refine ae_getR (pc := 17) (k := 0) (c := 10) (j := 3) (q := 12) dX10_color_17 rfl rfl (Nat.le_of_ble_eq_true rfl) rfl (Nat.le_of_ble_eq_true rfl) rfl ?_
    refine ae_callV (pc := 20) (z := zX1_collect) (k := 12) (As := []) dX10_color_20 rfl rfl rfl rfl (Nat.le_of_ble_eq_true rfl) rfl (Nat.le_of_ble_eq_true rfl) (Nat.le_of_ble_eq_true rfl) (sc_collect 5 M f hg hf) (fun v M' hq => ?_)
    obtain ⟨rfl, n', K, h', m', rfl, hH⟩ := hq
    have fin : ∀ (r : Int32) (M1 : am_M), AG M1 f → FR M M1 → (∀ n h m, GA f (exF f (nI 0)) (fA f) n h m → (match rkA h m n (nI k) n with | none => -1 | some a => if y = 0 then h a else m a) = r) → ∃ r', some (Value.int r) = some (.int r') ∧ am_R 8 zX11_color [.ref 33, .int (nI k), .int y] M1 (fun w M2 => w = some (.int r') ∧ INV M2) := by
      intro r M1 ag fr hr
      have hR1 := RI_RS hR (RS_FR fr)
      have := sm_color 4 M1 (by rw [hR1.1]; exact hf.1) (nI k) y h.1 h.2
      rw [hR1.1] at this
      refine ⟨r, rfl, this.mono (fun v M2 q => ?_)⟩
      obtain ⟨n2, h2, m2, q1, q2, rfl⟩ := q
      exact ⟨q2.trans (congrArg (fun r => some (Value.int r)) (hr n2 h2 m2 q1)), f, u, past, n, t, CK_QS (CK_FR hC ag hf fr) (RK_ga _ _ _ _).2, RI_RK hR1 (RK_ga _ _ _ _)⟩
    have e12 : (hgM M K (upd (M.1 12) 4 (nI n')) h' m').1 12 4 = nI n' := by rw [hgM_12, upd_self]
    have hle := hH.1.1
    by_cases hk : k < n'
    · obtain ⟨n2, h2, m2, g2⟩ : ∃ n2 h2 m2, GA f (exF f (nI 0)) (fA f) n2 h2 m2 := ⟨n', h', m', hH.1⟩
      have hrk := sc_rank 5 (hgM M K (upd (M.1 12) 4 (nI n')) h' m') f hf n' e12 (by rw [hgM_14, hgM_15]; exact hH)
      rw [hgM_14] at hrk
      refine ae_iload_n (pc := 23) dX10_color_23 rfl ?_
      refine ae_aload_n (pc := 24) dX10_color_24 rfl ?_
      refine ae_getR (pc := 25) (k := 0) (c := 10) (j := 3) (q := 12) dX10_color_25 rfl rfl (Nat.le_of_ble_eq_true rfl) rfl (Nat.le_of_ble_eq_true rfl) rfl ?_
      refine ae_getI (pc := 28) (k := 12) (c := 1) (j := 4) (v := nI n') dX10_color_28 rfl rfl (Or.inl rfl) (Nat.le_of_ble_eq_true rfl) rfl (Nat.le_of_ble_eq_true rfl) e12 ?_
      refine ae_icmp_lt (pc := 31) (t := 36) dX10_color_31 (by decide) (fun c31 => ?_) (fun c31 => ?_)
      rotate_left
      · exact absurd ((nI_ltI (by omega) (by omega)).mpr hk) c31
      refine ae_aload_n (pc := 36) dX10_color_36 rfl ?_
      refine ae_getR (pc := 37) (k := 0) (c := 10) (j := 3) (q := 12) dX10_color_37 rfl rfl (Nat.le_of_ble_eq_true rfl) rfl (Nat.le_of_ble_eq_true rfl) rfl ?_
      refine ae_callV (pc := 40) (z := zX1_rank) (k := 12) (As := []) dX10_color_40 rfl rfl rfl rfl (Nat.le_of_ble_eq_true rfl) rfl (Nat.le_of_ble_eq_true rfl) (Nat.le_of_ble_eq_true rfl) (hrk) (fun v M' hq => ?_)
      obtain ⟨rfl, K2, rfl, p1, p2⟩ := hq
      skip
      rw [hgM_ky]
      obtain ⟨a0, c0, u0, -, c1, v1, v2, -, -, hK0⟩ := rk_ok hf hH.1 hH.1 p1 p2 hk
      have ag : AG (hgM M K2 (upd (M.1 12) 4 (nI n')) h' m') f := AG_hg hg _ _ _ _
      have fr : FR M (hgM M K2 (upd (M.1 12) 4 (nI n')) h' m') := FR_hg _ _ _ _ _
      have hrc := sc_rankedColor 6 (hgM M K2 (upd (M.1 12) 4 (nI n')) h' m') n' (by rw [hgM_12, upd_self]) (by omega) k hk u0 c0 ⟨v1, v2⟩ c1 (by rw [hgM_13]; exact hK0)
      have hrn := sc_rankedNumber 6 (hgM M K2 (upd (M.1 12) 4 (nI n')) h' m') n' (by rw [hgM_12, upd_self]) (by omega) k hk u0 c0 ⟨v1, v2⟩ c1 (by rw [hgM_13]; exact hK0)
      have hres : ∀ n h m, GA f (exF f (nI 0)) (fA f) n h m → ∃ a, rkA h m n (nI k) n = some a ∧ h a = nI c0 ∧ m a = nI u0 := by
        intro n3 h3 m3 g3
        obtain ⟨a, c, w, r1, r2, r3, r4, r5, r6, r7⟩ := rk_ok hf g3 hH.1 p1 p2 hk
        have e := hK0.symm.trans r7
        rw [nL_eqI (by omega) (by omega)] at e
        exact ⟨a, r1, by rw [r5]; exact congrArg nI (by omega), by rw [r6]; exact congrArg nI (by omega)⟩
      by_cases hy : y = 0
      · refine ae_iload_n (pc := 43) dX10_color_43 rfl ?_
        refine ae_if_ne (pc := 44) (t := 58) dX10_color_44 (by decide) (fun c44 => ?_) (fun c44 => ?_)
        · exact absurd hy c44
        refine ae_aload_n (pc := 47) dX10_color_47 rfl ?_
        refine ae_getR (pc := 48) (k := 0) (c := 10) (j := 3) (q := 12) dX10_color_48 rfl rfl (Nat.le_of_ble_eq_true rfl) rfl (Nat.le_of_ble_eq_true rfl) rfl ?_
        refine ae_iload_n (pc := 51) dX10_color_51 rfl ?_
        refine ae_pcallV (pc := 52) (z := zX1_rankedColor) (k := 12) (As := [_]) dX10_color_52 rfl rfl rfl rfl (Nat.le_of_ble_eq_true rfl) rfl (Nat.le_of_ble_eq_true rfl) (Nat.le_of_ble_eq_true rfl) (hrc) ?_
        refine ae_goto (pc := 55) (t := 66) dX10_color_55 (by decide) ?_
        refine ae_ireturn (pc := 66) dX10_color_66 rfl ?_
        refine fin _ _ ag fr (fun n h m g => ?_)
        obtain ⟨a, r1, r2, -⟩ := hres n h m g
        rw [r1]
        dsimp only
        rw [if_pos hy, r2]
      · refine ae_iload_n (pc := 43) dX10_color_43 rfl ?_
        refine ae_if_ne (pc := 44) (t := 58) dX10_color_44 (by decide) (fun c44 => ?_) (fun c44 => ?_)
        rotate_left
        · exact absurd (Classical.not_not.mp c44) hy
        refine ae_aload_n (pc := 58) dX10_color_58 rfl ?_
        refine ae_getR (pc := 59) (k := 0) (c := 10) (j := 3) (q := 12) dX10_color_59 rfl rfl (Nat.le_of_ble_eq_true rfl) rfl (Nat.le_of_ble_eq_true rfl) rfl ?_
        refine ae_iload_n (pc := 62) dX10_color_62 rfl ?_
        refine ae_pcallV (pc := 63) (z := zX1_rankedNumber) (k := 12) (As := [_]) dX10_color_63 rfl rfl rfl rfl (Nat.le_of_ble_eq_true rfl) rfl (Nat.le_of_ble_eq_true rfl) (Nat.le_of_ble_eq_true rfl) (hrn) ?_
        refine ae_ireturn (pc := 66) dX10_color_66 rfl ?_
        refine fin _ _ ag fr (fun n h m g => ?_)
        obtain ⟨a, r1, -, r3⟩ := hres n h m g
        rw [r1]
        dsimp only
        rw [if_neg hy, r3]
    · refine ae_iload_n (pc := 23) dX10_color_23 rfl ?_
      refine ae_aload_n (pc := 24) dX10_color_24 rfl ?_
      refine ae_getR (pc := 25) (k := 0) (c := 10) (j := 3) (q := 12) dX10_color_25 rfl rfl (Nat.le_of_ble_eq_true rfl) rfl (Nat.le_of_ble_eq_true rfl) rfl ?_
      refine ae_getI (pc := 28) (k := 12) (c := 1) (j := 4) (v := nI n') dX10_color_28 rfl rfl (Or.inl rfl) (Nat.le_of_ble_eq_true rfl) rfl (Nat.le_of_ble_eq_true rfl) e12 ?_
      refine ae_icmp_lt (pc := 31) (t := 36) dX10_color_31 (by decide) (fun c31 => ?_) (fun c31 => ?_)
      · exact absurd ((nI_ltI (by omega) (by omega)).mp c31) hk
      · refine ae_iconst (pc := 34) (v := (-1)) dX10_color_34 (by decide) ?_
        refine ae_ireturn (pc := 35) dX10_color_35 rfl ?_
        refine fin _ _ (AG_hg hg _ _ _ _) (FR_hg _ _ _ _ _) (fun n h m g => ?_)
        have hn : n = n' := (GA_n g).trans (GA_n hH.1).symm
        rw [rk_no hf g (by omega) hxl]
  · refine stepR (r := -2) hC hR ?_ (fun M1 h1 => roM (sm_color0 6 M1 x y h))
    refine ae_enter (z := zX10_color) (y := yX10_color) (cc := cX10_color) (mL := 3) (rt := some .int) (ci := 10) (st := false) (np := 2) (L := [some (.ref 0), some (.int x), some (.int y)]) rfl (by decide) (Nat.le_of_ble_eq_true rfl) rfl ?_
    refine ae_iload_n (pc := 0) dX10_color_0 rfl ?_
    refine ae_if_lt (pc := 1) (t := 13) dX10_color_1 (by decide) (fun c1 => ?_) (fun c1 => ?_)
    · refine ae_bipush (pc := 13) (v := (-2)) dX10_color_13 (by decide) ?_
      refine ae_ireturn (pc := 15) dX10_color_15 rfl ?_
      exact ⟨rfl, hg, FR_refl M⟩
    · refine ae_iload_n (pc := 4) dX10_color_4 rfl ?_
      refine ae_iconst (pc := 5) (v := nI 0) dX10_color_5 (by decide) ?_
      refine ae_iconst (pc := 6) (v := nI 1) dX10_color_6 (by decide) ?_
      refine ae_pcallS (pc := 7) (z := zX10_isWithin) (As := [_, _, _]) dX10_color_7 rfl rfl rfl rfl (Nat.le_of_ble_eq_true rfl) (sc_isWithin 6 _ _ _ _) ?_
      refine ae_if_ne (pc := 10) (t := 16) dX10_color_10 (by decide) (fun c10 => ?_) (fun c10 => ?_)
      · exact (h ⟨c1, bI_ne0.mp c10⟩).elim
      · refine ae_bipush (pc := 13) (v := (-2)) dX10_color_13 (by decide) ?_
        refine ae_ireturn (pc := 15) dX10_color_15 rfl ?_
        exact ⟨rfl, hg, FR_refl M⟩
theorem st_nearest (M : am_M) (hI : INV M) (x : Int32) : STEP M zX10_nearest [.ref 0, .int x] zX11_nearest [.ref 33, .int x] := by
  obtain ⟨f, u, past, n, t, hC, hR⟩ := hI
  obtain ⟨hf, hg, hh, ht⟩ := id hC
  have hm : ∀ M1, RI M1 f u past n t → am_R 8 zX11_nearest [.ref 33, .int x] M1 (fun w M2 => w = some (.int (if 0 ≤ x ∧ x ≤ 16777215 then oI (ner f x) else -2)) ∧ RK M1 M2) := by
    intro M1 h1
    have := sm_nearest 3 M1 (by rw [h1.1]; exact hf.1) x
    rw [h1.1] at this
    exact roM this
  refine stepR hC hR ?_ hm
  by_cases h : 0 ≤ x ∧ x ≤ 16777215
  · rw [if_pos h]
    refine ae_enter (z := zX10_nearest) (y := yX10_nearest) (cc := cX10_nearest) (mL := 2) (rt := some .int) (ci := 10) (st := false) (np := 1) (L := [some (.ref 0), some (.int x)]) rfl (by decide) (Nat.le_of_ble_eq_true rfl) rfl ?_
    refine ae_iload_n (pc := 0) dX10_nearest_0 rfl ?_
    refine ae_pcallS (pc := 1) (z := zX10_isColor) (As := [_]) dX10_nearest_1 rfl rfl rfl rfl (Nat.le_of_ble_eq_true rfl) (sc_isColor 5 _ _) ?_
    refine ae_if_eq (pc := 4) (t := 18) dX10_nearest_4 (by decide) (fun c4 => ?_) (fun c4 => ?_)
    · exact absurd h (bI_eq0.mp c4)
    refine ae_aload_n (pc := 7) dX10_nearest_7 rfl ?_
    refine ae_getR (pc := 8) (k := 0) (c := 10) (j := 0) (q := 1) dX10_nearest_8 rfl rfl (Nat.le_of_ble_eq_true rfl) rfl (Nat.le_of_ble_eq_true rfl) rfl ?_
    refine ae_iload_n (pc := 11) dX10_nearest_11 rfl ?_
    refine ae_pcallV (pc := 12) (z := zX7_closestEntry) (k := 1) (As := [_]) dX10_nearest_12 rfl rfl rfl rfl (Nat.le_of_ble_eq_true rfl) rfl (Nat.le_of_ble_eq_true rfl) (Nat.le_of_ble_eq_true rfl) (sc_closestEntry 5 M f hg hf x (okc_of h)) ?_
    refine ae_goto (pc := 15) (t := 20) dX10_nearest_15 (by decide) ?_
    refine ae_ireturn (pc := 20) dX10_nearest_20 rfl ?_
    exact ⟨rfl, hg, FR_refl M⟩
  · rw [if_neg h]
    refine ae_enter (z := zX10_nearest) (y := yX10_nearest) (cc := cX10_nearest) (mL := 2) (rt := some .int) (ci := 10) (st := false) (np := 1) (L := [some (.ref 0), some (.int x)]) rfl (by decide) (Nat.le_of_ble_eq_true rfl) rfl ?_
    refine ae_iload_n (pc := 0) dX10_nearest_0 rfl ?_
    refine ae_pcallS (pc := 1) (z := zX10_isColor) (As := [_]) dX10_nearest_1 rfl rfl rfl rfl (Nat.le_of_ble_eq_true rfl) (sc_isColor 5 _ _) ?_
    refine ae_if_eq (pc := 4) (t := 18) dX10_nearest_4 (by decide) (fun c4 => ?_) (fun c4 => ?_)
    rotate_left
    · exact absurd (bI_ne0.mp c4) h
    refine ae_bipush (pc := 18) (v := (-2)) dX10_nearest_18 (by decide) ?_
    refine ae_ireturn (pc := 20) dX10_nearest_20 rfl ?_
    exact ⟨rfl, hg, FR_refl M⟩
theorem st_error (M : am_M) (hI : INV M) : STEP M zX10_error [.ref 0] zX11_error [.ref 33] := by
  obtain ⟨f, u, past, n, t, hC, hR⟩ := hI
  obtain ⟨hf, hg, hh, ht⟩ := id hC
  have a7 : M.1 1 7 = f 292 := hg.1.2.2.2.2
  rcases hf.2.2.2.2.1 with h0 | h1
  · refine stepR (r := -3) hC hR ?_ (fun M1 k => roM (sm_error0 4 M1 (by rw [k.1]; exact h0)))
    refine ae_enter (z := zX10_error) (y := yX10_error) (cc := cX10_error) (mL := 1) (rt := some .int) (ci := 10) (st := false) (np := 0) (L := [some (.ref 0)]) rfl (by decide) (Nat.le_of_ble_eq_true rfl) rfl ?_
    refine ae_aload_n (pc := 0) dX10_error_0 rfl ?_
    refine ae_getR (pc := 1) (k := 0) (c := 10) (j := 0) (q := 1) dX10_error_1 rfl rfl (Nat.le_of_ble_eq_true rfl) rfl (Nat.le_of_ble_eq_true rfl) rfl ?_
    refine ae_getI (pc := 4) (k := 1) (c := 7) (j := 7) (v := f 292) dX10_error_4 rfl rfl (Or.inr rfl) (Nat.le_of_ble_eq_true rfl) rfl (Nat.le_of_ble_eq_true rfl) a7 ?_
    refine ae_if_eq (pc := 7) (t := 20) dX10_error_7 (by decide) (fun c7 => ?_) (fun c7 => ?_)
    rotate_left
    · exact absurd h0 c7
    refine ae_bipush (pc := 20) (v := (-3)) dX10_error_20 (by decide) ?_
    refine ae_ireturn (pc := 22) dX10_error_22 rfl ?_
    exact ⟨rfl, hg, FR_refl M⟩
  · refine stepR (r := esum f (fA f)) hC hR ?_ (fun M1 k => ?_)
    · refine ae_enter (z := zX10_error) (y := yX10_error) (cc := cX10_error) (mL := 1) (rt := some .int) (ci := 10) (st := false) (np := 0) (L := [some (.ref 0)]) rfl (by decide) (Nat.le_of_ble_eq_true rfl) rfl ?_
      refine ae_aload_n (pc := 0) dX10_error_0 rfl ?_
      refine ae_getR (pc := 1) (k := 0) (c := 10) (j := 0) (q := 1) dX10_error_1 rfl rfl (Nat.le_of_ble_eq_true rfl) rfl (Nat.le_of_ble_eq_true rfl) rfl ?_
      refine ae_getI (pc := 4) (k := 1) (c := 7) (j := 7) (v := f 292) dX10_error_4 rfl rfl (Or.inr rfl) (Nat.le_of_ble_eq_true rfl) rfl (Nat.le_of_ble_eq_true rfl) a7 ?_
      refine ae_if_eq (pc := 7) (t := 20) dX10_error_7 (by decide) (fun c7 => ?_) (fun c7 => ?_)
      · exact absurd (h1.symm.trans c7) (by decide)
      refine ae_aload_n (pc := 10) dX10_error_10 rfl ?_
      refine ae_getR (pc := 11) (k := 0) (c := 10) (j := 9) (q := 32) dX10_error_11 rfl rfl (Nat.le_of_ble_eq_true rfl) rfl (Nat.le_of_ble_eq_true rfl) rfl ?_
      refine ae_pcallV (pc := 14) (z := zX6_totalError) (k := 32) (As := []) dX10_error_14 rfl rfl rfl rfl (Nat.le_of_ble_eq_true rfl) rfl (Nat.le_of_ble_eq_true rfl) (Nat.le_of_ble_eq_true rfl) (sc_totalError 4 M f hg hf h1) ?_
      refine ae_goto (pc := 17) (t := 22) dX10_error_17 (by decide) ?_
      refine ae_ireturn (pc := 22) dX10_error_22 rfl ?_
      exact ⟨rfl, hg, FR_refl M⟩
    · have := sm_error 4 M1 (by rw [k.1]; exact hf) (by rw [k.1]; exact h1)
      rw [k.1] at this
      exact roM this
theorem st_worst (M : am_M) (hI : INV M) : STEP M zX10_worst [.ref 0] zX11_worst [.ref 33] := by
  obtain ⟨f, u, past, n, t, hC, hR⟩ := hI
  obtain ⟨hf, hg, hh, ht⟩ := id hC
  have a7 : M.1 1 7 = f 292 := hg.1.2.2.2.2
  rcases hf.2.2.2.2.1 with h0 | h1
  · refine stepR (r := -3) hC hR ?_ (fun M1 k => roM (sm_worst0 4 M1 (by rw [k.1]; exact h0)))
    refine ae_enter (z := zX10_worst) (y := yX10_worst) (cc := cX10_worst) (mL := 1) (rt := some .int) (ci := 10) (st := false) (np := 0) (L := [some (.ref 0)]) rfl (by decide) (Nat.le_of_ble_eq_true rfl) rfl ?_
    refine ae_aload_n (pc := 0) dX10_worst_0 rfl ?_
    refine ae_getR (pc := 1) (k := 0) (c := 10) (j := 0) (q := 1) dX10_worst_1 rfl rfl (Nat.le_of_ble_eq_true rfl) rfl (Nat.le_of_ble_eq_true rfl) rfl ?_
    refine ae_getI (pc := 4) (k := 1) (c := 7) (j := 7) (v := f 292) dX10_worst_4 rfl rfl (Or.inr rfl) (Nat.le_of_ble_eq_true rfl) rfl (Nat.le_of_ble_eq_true rfl) a7 ?_
    refine ae_if_eq (pc := 7) (t := 20) dX10_worst_7 (by decide) (fun c7 => ?_) (fun c7 => ?_)
    rotate_left
    · exact absurd h0 c7
    refine ae_bipush (pc := 20) (v := (-3)) dX10_worst_20 (by decide) ?_
    refine ae_ireturn (pc := 22) dX10_worst_22 rfl ?_
    exact ⟨rfl, hg, FR_refl M⟩
  · refine stepR (r := wstV f) hC hR ?_ (fun M1 k => ?_)
    · refine ae_enter (z := zX10_worst) (y := yX10_worst) (cc := cX10_worst) (mL := 1) (rt := some .int) (ci := 10) (st := false) (np := 0) (L := [some (.ref 0)]) rfl (by decide) (Nat.le_of_ble_eq_true rfl) rfl ?_
      refine ae_aload_n (pc := 0) dX10_worst_0 rfl ?_
      refine ae_getR (pc := 1) (k := 0) (c := 10) (j := 0) (q := 1) dX10_worst_1 rfl rfl (Nat.le_of_ble_eq_true rfl) rfl (Nat.le_of_ble_eq_true rfl) rfl ?_
      refine ae_getI (pc := 4) (k := 1) (c := 7) (j := 7) (v := f 292) dX10_worst_4 rfl rfl (Or.inr rfl) (Nat.le_of_ble_eq_true rfl) rfl (Nat.le_of_ble_eq_true rfl) a7 ?_
      refine ae_if_eq (pc := 7) (t := 20) dX10_worst_7 (by decide) (fun c7 => ?_) (fun c7 => ?_)
      · exact absurd (h1.symm.trans c7) (by decide)
      refine ae_aload_n (pc := 10) dX10_worst_10 rfl ?_
      refine ae_getR (pc := 11) (k := 0) (c := 10) (j := 9) (q := 32) dX10_worst_11 rfl rfl (Nat.le_of_ble_eq_true rfl) rfl (Nat.le_of_ble_eq_true rfl) rfl ?_
      refine ae_pcallV (pc := 14) (z := zX6_worstPixel) (k := 32) (As := []) dX10_worst_14 rfl rfl rfl rfl (Nat.le_of_ble_eq_true rfl) rfl (Nat.le_of_ble_eq_true rfl) (Nat.le_of_ble_eq_true rfl) (sc_worstPixel 4 M f hg hf h1) ?_
      refine ae_goto (pc := 17) (t := 22) dX10_worst_17 (by decide) ?_
      refine ae_ireturn (pc := 22) dX10_worst_22 rfl ?_
      exact ⟨rfl, hg, FR_refl M⟩
    · have := sm_worst 4 M1 (by rw [k.1]; exact hf) (by rw [k.1]; exact h1)
      rw [k.1] at this
      exact roM this
theorem st_meanError (M : am_M) (hI : INV M) : STEP M zX10_meanError [.ref 0] zX11_meanError [.ref 33] := by
  obtain ⟨f, u, past, n, t, hC, hR⟩ := hI
  obtain ⟨hf, hg, hh, ht⟩ := id hC
  have a7 : M.1 1 7 = f 292 := hg.1.2.2.2.2
  rcases hf.2.2.2.2.1 with h0 | h1
  · refine stepR (r := -3) hC hR ?_ (fun M1 k => roM (sm_meanError0 7 M1 (by rw [k.1]; exact h0)))
    refine ae_enter (z := zX10_meanError) (y := yX10_meanError) (cc := cX10_meanError) (mL := 1) (rt := some .int) (ci := 10) (st := false) (np := 0) (L := [some (.ref 0)]) rfl (by decide) (Nat.le_of_ble_eq_true rfl) rfl ?_
    refine ae_aload_n (pc := 0) dX10_meanError_0 rfl ?_
    refine ae_getR (pc := 1) (k := 0) (c := 10) (j := 0) (q := 1) dX10_meanError_1 rfl rfl (Nat.le_of_ble_eq_true rfl) rfl (Nat.le_of_ble_eq_true rfl) rfl ?_
    refine ae_getI (pc := 4) (k := 1) (c := 7) (j := 7) (v := f 292) dX10_meanError_4 rfl rfl (Or.inr rfl) (Nat.le_of_ble_eq_true rfl) rfl (Nat.le_of_ble_eq_true rfl) a7 ?_
    refine ae_if_eq (pc := 7) (t := 20) dX10_meanError_7 (by decide) (fun c7 => ?_) (fun c7 => ?_)
    rotate_left
    · exact absurd h0 c7
    refine ae_bipush (pc := 20) (v := (-3)) dX10_meanError_20 (by decide) ?_
    refine ae_ireturn (pc := 22) dX10_meanError_22 rfl ?_
    exact ⟨rfl, hg, FR_refl M⟩
  · refine stepR (r := meV f) hC hR ?_ (fun M1 k => ?_)
    · refine ae_enter (z := zX10_meanError) (y := yX10_meanError) (cc := cX10_meanError) (mL := 1) (rt := some .int) (ci := 10) (st := false) (np := 0) (L := [some (.ref 0)]) rfl (by decide) (Nat.le_of_ble_eq_true rfl) rfl ?_
      refine ae_aload_n (pc := 0) dX10_meanError_0 rfl ?_
      refine ae_getR (pc := 1) (k := 0) (c := 10) (j := 0) (q := 1) dX10_meanError_1 rfl rfl (Nat.le_of_ble_eq_true rfl) rfl (Nat.le_of_ble_eq_true rfl) rfl ?_
      refine ae_getI (pc := 4) (k := 1) (c := 7) (j := 7) (v := f 292) dX10_meanError_4 rfl rfl (Or.inr rfl) (Nat.le_of_ble_eq_true rfl) rfl (Nat.le_of_ble_eq_true rfl) a7 ?_
      refine ae_if_eq (pc := 7) (t := 20) dX10_meanError_7 (by decide) (fun c7 => ?_) (fun c7 => ?_)
      · exact absurd (h1.symm.trans c7) (by decide)
      refine ae_aload_n (pc := 10) dX10_meanError_10 rfl ?_
      refine ae_getR (pc := 11) (k := 0) (c := 10) (j := 9) (q := 32) dX10_meanError_11 rfl rfl (Nat.le_of_ble_eq_true rfl) rfl (Nat.le_of_ble_eq_true rfl) rfl ?_
      refine ae_pcallV (pc := 14) (z := zX6_meanErrorBits) (k := 32) (As := []) dX10_meanError_14 rfl rfl rfl rfl (Nat.le_of_ble_eq_true rfl) rfl (Nat.le_of_ble_eq_true rfl) (Nat.le_of_ble_eq_true rfl) (sc_meanErrorBits 3 M f hg hf h1) ?_
      refine ae_goto (pc := 17) (t := 22) dX10_meanError_17 (by decide) ?_
      refine ae_ireturn (pc := 22) dX10_meanError_22 rfl ?_
      exact ⟨rfl, hg, FR_refl M⟩
    · have := sm_meanError 3 M1 (by rw [k.1]; exact hf) (by rw [k.1]; exact h1)
      rw [k.1] at this
      exact roM this
theorem st_runs (M : am_M) (hI : INV M) : STEP M zX10_runs [.ref 0] zX11_runs [.ref 33] := by
  obtain ⟨f, u, past, n, t, hC, hR⟩ := hI
  obtain ⟨hf, hg, hh, ht⟩ := id hC
  have a7 : M.1 1 7 = f 292 := hg.1.2.2.2.2
  rcases hf.2.2.2.2.1 with h0 | h1
  · refine stepR (r := -3) hC hR ?_ (fun M1 k => roM (sm_runs0 6 M1 (by rw [k.1]; exact h0)))
    refine ae_enter (z := zX10_runs) (y := yX10_runs) (cc := cX10_runs) (mL := 1) (rt := some .int) (ci := 10) (st := false) (np := 0) (L := [some (.ref 0)]) rfl (by decide) (Nat.le_of_ble_eq_true rfl) rfl ?_
    refine ae_aload_n (pc := 0) dX10_runs_0 rfl ?_
    refine ae_getR (pc := 1) (k := 0) (c := 10) (j := 0) (q := 1) dX10_runs_1 rfl rfl (Nat.le_of_ble_eq_true rfl) rfl (Nat.le_of_ble_eq_true rfl) rfl ?_
    refine ae_getI (pc := 4) (k := 1) (c := 7) (j := 7) (v := f 292) dX10_runs_4 rfl rfl (Or.inr rfl) (Nat.le_of_ble_eq_true rfl) rfl (Nat.le_of_ble_eq_true rfl) a7 ?_
    refine ae_if_eq (pc := 7) (t := 20) dX10_runs_7 (by decide) (fun c7 => ?_) (fun c7 => ?_)
    rotate_left
    · exact absurd h0 c7
    refine ae_bipush (pc := 20) (v := (-3)) dX10_runs_20 (by decide) ?_
    refine ae_ireturn (pc := 22) dX10_runs_22 rfl ?_
    exact ⟨rfl, hg, FR_refl M⟩
  · refine stepR (r := nI (rns f (fA f - 1))) hC hR ?_ (fun M1 k => ?_)
    · refine ae_enter (z := zX10_runs) (y := yX10_runs) (cc := cX10_runs) (mL := 1) (rt := some .int) (ci := 10) (st := false) (np := 0) (L := [some (.ref 0)]) rfl (by decide) (Nat.le_of_ble_eq_true rfl) rfl ?_
      refine ae_aload_n (pc := 0) dX10_runs_0 rfl ?_
      refine ae_getR (pc := 1) (k := 0) (c := 10) (j := 0) (q := 1) dX10_runs_1 rfl rfl (Nat.le_of_ble_eq_true rfl) rfl (Nat.le_of_ble_eq_true rfl) rfl ?_
      refine ae_getI (pc := 4) (k := 1) (c := 7) (j := 7) (v := f 292) dX10_runs_4 rfl rfl (Or.inr rfl) (Nat.le_of_ble_eq_true rfl) rfl (Nat.le_of_ble_eq_true rfl) a7 ?_
      refine ae_if_eq (pc := 7) (t := 20) dX10_runs_7 (by decide) (fun c7 => ?_) (fun c7 => ?_)
      · exact absurd (h1.symm.trans c7) (by decide)
      refine ae_aload_n (pc := 10) dX10_runs_10 rfl ?_
      refine ae_getR (pc := 11) (k := 0) (c := 10) (j := 9) (q := 32) dX10_runs_11 rfl rfl (Nat.le_of_ble_eq_true rfl) rfl (Nat.le_of_ble_eq_true rfl) rfl ?_
      refine ae_pcallV (pc := 14) (z := zX6_indexRuns) (k := 32) (As := []) dX10_runs_14 rfl rfl rfl rfl (Nat.le_of_ble_eq_true rfl) rfl (Nat.le_of_ble_eq_true rfl) (Nat.le_of_ble_eq_true rfl) (sc_indexRuns 5 M f hg hf h1) ?_
      refine ae_goto (pc := 17) (t := 22) dX10_runs_17 (by decide) ?_
      refine ae_ireturn (pc := 22) dX10_runs_22 rfl ?_
      exact ⟨rfl, hg, FR_refl M⟩
    · have := sm_runs 6 M1 (by rw [k.1]; exact hf) (by rw [k.1]; exact h1)
      rw [k.1] at this
      exact roM this
theorem st_packed (M : am_M) (hI : INV M) (x : Int32) : STEP M zX10_packed [.ref 0, .int x] zX11_packed [.ref 33, .int x] := by
  obtain ⟨f, u, past, n, t, hC, hR⟩ := hI
  obtain ⟨hf, hg, hh, ht⟩ := id hC
  have a7 : M.1 1 7 = f 292 := hg.1.2.2.2.2
  by_cases hx : x < -1
  · refine stepR (r := -2) hC hR ?_ (fun M1 k => roM (sm_packed0 7 M1 x hx))
    refine ae_enter (z := zX10_packed) (y := yX10_packed) (cc := cX10_packed) (mL := 2) (rt := some .int) (ci := 10) (st := false) (np := 1) (L := [some (.ref 0), some (.int x)]) rfl (by decide) (Nat.le_of_ble_eq_true rfl) rfl ?_
    refine ae_iload_n (pc := 0) dX10_packed_0 rfl ?_
    refine ae_iconst (pc := 1) (v := (-1)) dX10_packed_1 (by decide) ?_
    refine ae_icmp_ge (pc := 2) (t := 8) dX10_packed_2 (by decide) (fun c2 => ?_) (fun c2 => ?_)
    · exact absurd hx (Int32.not_lt.mpr c2)
    · refine ae_bipush (pc := 5) (v := (-2)) dX10_packed_5 (by decide) ?_
      refine ae_ireturn (pc := 7) dX10_packed_7 rfl ?_
      exact ⟨rfl, hg, FR_refl M⟩
  · rcases hf.2.2.2.2.1 with h0 | h1
    · refine stepR (r := -3) hC hR ?_ (fun M1 k => roM (sm_packedS 7 M1 x hx (by rw [k.1]; exact h0)))
      refine ae_enter (z := zX10_packed) (y := yX10_packed) (cc := cX10_packed) (mL := 2) (rt := some .int) (ci := 10) (st := false) (np := 1) (L := [some (.ref 0), some (.int x)]) rfl (by decide) (Nat.le_of_ble_eq_true rfl) rfl ?_
      refine ae_iload_n (pc := 0) dX10_packed_0 rfl ?_
      refine ae_iconst (pc := 1) (v := (-1)) dX10_packed_1 (by decide) ?_
      refine ae_icmp_ge (pc := 2) (t := 8) dX10_packed_2 (by decide) (fun c2 => ?_) (fun c2 => ?_)
      rotate_left
      · exact absurd (Int32.not_le.mp c2) hx
      refine ae_aload_n (pc := 8) dX10_packed_8 rfl ?_
      refine ae_getR (pc := 9) (k := 0) (c := 10) (j := 0) (q := 1) dX10_packed_9 rfl rfl (Nat.le_of_ble_eq_true rfl) rfl (Nat.le_of_ble_eq_true rfl) rfl ?_
      refine ae_getI (pc := 12) (k := 1) (c := 7) (j := 7) (v := f 292) dX10_packed_12 rfl rfl (Or.inr rfl) (Nat.le_of_ble_eq_true rfl) rfl (Nat.le_of_ble_eq_true rfl) a7 ?_
      refine ae_if_ne (pc := 15) (t := 21) dX10_packed_15 (by decide) (fun c15 => ?_) (fun c15 => ?_)
      · exact absurd h0 c15
      refine ae_bipush (pc := 18) (v := (-3)) dX10_packed_18 (by decide) ?_
      refine ae_ireturn (pc := 20) dX10_packed_20 rfl ?_
      exact ⟨rfl, hg, FR_refl M⟩
    · by_cases hm1 : x = -1
      · subst hm1
        refine stepR (r := nI (pkR f * fH f)) hC hR ?_ (fun M1 k => ?_)
        · refine ae_enter (z := zX10_packed) (y := yX10_packed) (cc := cX10_packed) (mL := 2) (rt := some .int) (ci := 10) (st := false) (np := 1) (L := [some (.ref 0), some (.int ((-1)))]) rfl (by decide) (Nat.le_of_ble_eq_true rfl) rfl ?_
          refine ae_iload_n (pc := 0) dX10_packed_0 rfl ?_
          refine ae_iconst (pc := 1) (v := (-1)) dX10_packed_1 (by decide) ?_
          refine ae_icmp_ge (pc := 2) (t := 8) dX10_packed_2 (by decide) (fun c2 => ?_) (fun c2 => ?_)
          rotate_left
          · exact absurd (Int32.not_le.mp c2) hx
          refine ae_aload_n (pc := 8) dX10_packed_8 rfl ?_
          refine ae_getR (pc := 9) (k := 0) (c := 10) (j := 0) (q := 1) dX10_packed_9 rfl rfl (Nat.le_of_ble_eq_true rfl) rfl (Nat.le_of_ble_eq_true rfl) rfl ?_
          refine ae_getI (pc := 12) (k := 1) (c := 7) (j := 7) (v := f 292) dX10_packed_12 rfl rfl (Or.inr rfl) (Nat.le_of_ble_eq_true rfl) rfl (Nat.le_of_ble_eq_true rfl) a7 ?_
          refine ae_if_ne (pc := 15) (t := 21) dX10_packed_15 (by decide) (fun c15 => ?_) (fun c15 => ?_)
          rotate_left
          · exact absurd (h1.symm.trans (Classical.not_not.mp c15)) (by decide)
          refine ae_iload_n (pc := 21) dX10_packed_21 rfl ?_
          refine ae_iconst (pc := 22) (v := (-1)) dX10_packed_22 (by decide) ?_
          refine ae_icmp_ne (pc := 23) (t := 36) dX10_packed_23 (by decide) (fun c23 => ?_) (fun c23 => ?_)
          · exact absurd rfl c23
          refine ae_aload_n (pc := 26) dX10_packed_26 rfl ?_
          refine ae_getR (pc := 27) (k := 0) (c := 10) (j := 9) (q := 32) dX10_packed_27 rfl rfl (Nat.le_of_ble_eq_true rfl) rfl (Nat.le_of_ble_eq_true rfl) rfl ?_
          refine ae_pcallV (pc := 30) (z := zX6_packedBytes) (k := 32) (As := []) dX10_packed_30 rfl rfl rfl rfl (Nat.le_of_ble_eq_true rfl) rfl (Nat.le_of_ble_eq_true rfl) (Nat.le_of_ble_eq_true rfl) (sc_packedBytes 4 M f hg hf h1) ?_
          refine ae_goto (pc := 33) (t := 44) dX10_packed_33 (by decide) ?_
          refine ae_ireturn (pc := 44) dX10_packed_44 rfl ?_
          exact ⟨rfl, hg, FR_refl M⟩
        · have := sm_packedN 6 M1 (by rw [k.1]; exact hf.1) (by rw [k.1]; exact h1)
          rw [k.1] at this
          exact roM this
      · have hx0 : 0 ≤ x := by
          rw [Int32.lt_iff_toInt_lt, show (-1 : Int32).toInt = -1 by decide] at hx
          have h2 : x.toInt ≠ -1 := fun q => hm1 (Int32.toInt_inj.mp (q.trans (by decide)))
          rw [Int32.le_iff_toInt_le, Int32.toInt_zero]
          omega
        have hxn := nI_ge0 hx0
        have hxl : x.toNatClampNeg < 2 ^ 31 := by
          have := Int32.toInt_lt x
          unfold Int32.toNatClampNeg
          omega
        generalize x.toNatClampNeg = k at *
        subst hxn
        refine stepR (r := if k < pkR f * fH f then pkV f k (8 / pkB f) else -1) hC hR ?_ (fun M1 k1 => ?_)
        · refine ae_enter (z := zX10_packed) (y := yX10_packed) (cc := cX10_packed) (mL := 2) (rt := some .int) (ci := 10) (st := false) (np := 1) (L := [some (.ref 0), some (.int (nI k))]) rfl (by decide) (Nat.le_of_ble_eq_true rfl) rfl ?_
          refine ae_iload_n (pc := 0) dX10_packed_0 rfl ?_
          refine ae_iconst (pc := 1) (v := (-1)) dX10_packed_1 (by decide) ?_
          refine ae_icmp_ge (pc := 2) (t := 8) dX10_packed_2 (by decide) (fun c2 => ?_) (fun c2 => ?_)
          rotate_left
          · exact absurd (Int32.not_le.mp c2) hx
          refine ae_aload_n (pc := 8) dX10_packed_8 rfl ?_
          refine ae_getR (pc := 9) (k := 0) (c := 10) (j := 0) (q := 1) dX10_packed_9 rfl rfl (Nat.le_of_ble_eq_true rfl) rfl (Nat.le_of_ble_eq_true rfl) rfl ?_
          refine ae_getI (pc := 12) (k := 1) (c := 7) (j := 7) (v := f 292) dX10_packed_12 rfl rfl (Or.inr rfl) (Nat.le_of_ble_eq_true rfl) rfl (Nat.le_of_ble_eq_true rfl) a7 ?_
          refine ae_if_ne (pc := 15) (t := 21) dX10_packed_15 (by decide) (fun c15 => ?_) (fun c15 => ?_)
          rotate_left
          · exact absurd (h1.symm.trans (Classical.not_not.mp c15)) (by decide)
          refine ae_iload_n (pc := 21) dX10_packed_21 rfl ?_
          refine ae_iconst (pc := 22) (v := (-1)) dX10_packed_22 (by decide) ?_
          refine ae_icmp_ne (pc := 23) (t := 36) dX10_packed_23 (by decide) (fun c23 => ?_) (fun c23 => ?_)
          rotate_left
          · exact absurd (Classical.not_not.mp c23) hm1
          refine ae_aload_n (pc := 36) dX10_packed_36 rfl ?_
          refine ae_getR (pc := 37) (k := 0) (c := 10) (j := 9) (q := 32) dX10_packed_37 rfl rfl (Nat.le_of_ble_eq_true rfl) rfl (Nat.le_of_ble_eq_true rfl) rfl ?_
          refine ae_iload_n (pc := 40) dX10_packed_40 rfl ?_
          refine ae_pcallV (pc := 41) (z := zX6_packedByte) (k := 32) (As := [_]) dX10_packed_41 rfl rfl rfl rfl (Nat.le_of_ble_eq_true rfl) rfl (Nat.le_of_ble_eq_true rfl) (Nat.le_of_ble_eq_true rfl) (sc_packedByte 4 M f hg hf h1 k hxl) ?_
          refine ae_ireturn (pc := 44) dX10_packed_44 rfl ?_
          exact ⟨rfl, hg, FR_refl M⟩
        · have := sm_packed 6 M1 (by rw [k1.1]; exact hf.1) (by rw [k1.1]; exact h1) k hxl
          rw [k1.1] at this
          exact roM this

