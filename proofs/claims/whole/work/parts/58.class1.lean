theorem sc_isWithin (d : Nat) (x a b : Int32) (M : am_M) : am_R (d + 1) zX10_isWithin [.int x, .int a, .int b] M (fun v M' => v = some (.int (bI (a ≤ x ∧ x ≤ b))) ∧ M' = M) := by
  refine ae_enter (z := zX10_isWithin) (y := yX10_isWithin) (cc := cX10_isWithin) (mL := 3) (rt := some .boolean) (ci := 10) (st := true) (np := 3) (L := [some (.int x), some (.int a), some (.int b)]) rfl (by decide) (Nat.le_of_ble_eq_true rfl) rfl ?_
  refine ae_iload_n (pc := 0) dX10_isWithin_0 rfl ?_
  refine ae_iload_n (pc := 1) dX10_isWithin_1 rfl ?_
  refine ae_icmp_lt (pc := 2) (t := 14) dX10_isWithin_2 (by decide) (fun c2 => ?_) (fun c2 => ?_)
  · refine ae_iconst (pc := 14) (v := nI 0) dX10_isWithin_14 (by decide) ?_
    refine ae_zreturn (pc := 15) dX10_isWithin_15 rfl (by decide) ?_
    first | exact And.intro (bret_f (fun q => Int32.not_lt.mpr q.1 c2)) rfl | exact And.intro (bret_f (fun q => Int32.not_lt.mpr q.2 c7)) rfl | exact And.intro (bret_t (And.intro (Int32.not_lt.mp c2) (Int32.not_lt.mp c7))) rfl
  · refine ae_iload_n (pc := 5) dX10_isWithin_5 rfl ?_
    refine ae_iload_n (pc := 6) dX10_isWithin_6 rfl ?_
    refine ae_icmp_gt (pc := 7) (t := 14) dX10_isWithin_7 (by decide) (fun c7 => ?_) (fun c7 => ?_)
    · refine ae_iconst (pc := 14) (v := nI 0) dX10_isWithin_14 (by decide) ?_
      refine ae_zreturn (pc := 15) dX10_isWithin_15 rfl (by decide) ?_
      first | exact And.intro (bret_f (fun q => Int32.not_lt.mpr q.1 c2)) rfl | exact And.intro (bret_f (fun q => Int32.not_lt.mpr q.2 c7)) rfl | exact And.intro (bret_t (And.intro (Int32.not_lt.mp c2) (Int32.not_lt.mp c7))) rfl
    · refine ae_iconst (pc := 10) (v := nI 1) dX10_isWithin_10 (by decide) ?_
      refine ae_goto (pc := 11) (t := 15) dX10_isWithin_11 (by decide) ?_
      refine ae_zreturn (pc := 15) dX10_isWithin_15 rfl (by decide) ?_
      first | exact And.intro (bret_f (fun q => Int32.not_lt.mpr q.1 c2)) rfl | exact And.intro (bret_f (fun q => Int32.not_lt.mpr q.2 c7)) rfl | exact And.intro (bret_t (And.intro (Int32.not_lt.mp c2) (Int32.not_lt.mp c7))) rfl
theorem sc_isColor (d : Nat) (x : Int32) (M : am_M) : am_R (d + 2) zX10_isColor [.int x] M (fun v M' => v = some (.int (bI (0 ≤ x ∧ x ≤ 16777215))) ∧ M' = M) := by
  refine ae_enter (z := zX10_isColor) (y := yX10_isColor) (cc := cX10_isColor) (mL := 1) (rt := some .boolean) (ci := 10) (st := true) (np := 1) (L := [some (.int x)]) rfl (by decide) (Nat.le_of_ble_eq_true rfl) rfl ?_
  refine ae_iload_n (pc := 0) dX10_isColor_0 rfl ?_
  refine ae_iconst (pc := 1) (v := nI 0) dX10_isColor_1 (by decide) ?_
  refine ae_ldc (pc := 2) dX10_isColor_2 rfl rfl ?_
  refine ae_pcallS (pc := 4) (z := zX10_isWithin) (As := [_, _, _]) dX10_isColor_4 rfl rfl rfl rfl (Nat.le_of_ble_eq_true rfl) (sc_isWithin d _ _ _ _) ?_
  refine ae_zreturn (pc := 7) dX10_isColor_7 rfl (bI_01 _) ?_
  exact ⟨rfl, rfl⟩
theorem sc_channelOf (d : Nat) (x : Int32) (k : Nat) (M : am_M) : am_R (d + 1) zX10_channelOf [.int x, .int (nI k)] M (fun v M' => v = some (.int (cha x k)) ∧ M' = M) := by
  refine ae_enter (z := zX10_channelOf) (y := yX10_channelOf) (cc := cX10_channelOf) (mL := 2) (rt := some .int) (ci := 10) (st := true) (np := 2) (L := [some (.int x), some (.int (nI k))]) rfl (by decide) (Nat.le_of_ble_eq_true rfl) rfl ?_
  refine ae_iload_n (pc := 0) dX10_channelOf_0 rfl ?_
  refine ae_bipush (pc := 1) (v := nI 16) dX10_channelOf_1 (by decide) ?_
  refine ae_bipush (pc := 3) (v := nI 8) dX10_channelOf_3 (by decide) ?_
  refine ae_iload_n (pc := 5) dX10_channelOf_5 rfl ?_
  refine ae_imul (pc := 6) (v := nI 8 * nI k) dX10_channelOf_6 rfl ?_
  refine ae_isub (pc := 7) dX10_channelOf_7 rfl ?_
  refine ae_ishr (pc := 8) dX10_channelOf_8 rfl ?_
  refine ae_sipush (pc := 9) (v := nI 255) dX10_channelOf_9 (by decide) ?_
  refine ae_iand (pc := 12) dX10_channelOf_12 rfl ?_
  refine ae_ireturn (pc := 13) dX10_channelOf_13 rfl ?_
  exact ⟨rfl, rfl⟩
theorem sc_colorOf (d : Nat) (r g b : Int32) (M : am_M) : am_R (d + 1) zX10_colorOf [.int r, .int g, .int b] M (fun v M' => v = some (.int (65536 * r + nI 256 * g + b)) ∧ M' = M) := by
  refine ae_enter (z := zX10_colorOf) (y := yX10_colorOf) (cc := cX10_colorOf) (mL := 3) (rt := some .int) (ci := 10) (st := true) (np := 3) (L := [some (.int r), some (.int g), some (.int b)]) rfl (by decide) (Nat.le_of_ble_eq_true rfl) rfl ?_
  refine ae_ldc_w (pc := 0) dX10_colorOf_0 rfl rfl ?_
  refine ae_iload_n (pc := 3) dX10_colorOf_3 rfl ?_
  refine ae_imul (pc := 4) dX10_colorOf_4 rfl ?_
  refine ae_sipush (pc := 5) (v := nI 256) dX10_colorOf_5 (by decide) ?_
  refine ae_iload_n (pc := 8) dX10_colorOf_8 rfl ?_
  refine ae_imul (pc := 9) dX10_colorOf_9 rfl ?_
  refine ae_iadd (pc := 10) dX10_colorOf_10 rfl ?_
  refine ae_iload_n (pc := 11) dX10_colorOf_11 rfl ?_
  refine ae_iadd (pc := 12) dX10_colorOf_12 rfl ?_
  refine ae_ireturn (pc := 13) dX10_colorOf_13 rfl ?_
  exact ⟨rfl, rfl⟩
theorem sc_max (d : Nat) (x y : Int32) (M : am_M) : am_R (d + 1) zJ9_max_7cf53 [.int x, .int y] M (fun v M' => v = some (.int (if x < y then y else x)) ∧ M' = M) := by
  refine ae_enter (z := zJ9_max_7cf53) (y := yJ9_max_7cf53) (cc := cJ9_max_7cf53) (mL := 2) (rt := some .int) (ci := 12) (st := true) (np := 2) (L := [some (.int x), some (.int y)]) rfl (by decide) (Nat.le_of_ble_eq_true rfl) rfl ?_
  refine ae_iload_n (pc := 0) dJ9_max_7cf53_0 rfl ?_
  refine ae_iload_n (pc := 1) dJ9_max_7cf53_1 rfl ?_
  refine ae_icmp_lt (pc := 2) (t := 9) dJ9_max_7cf53_2 (by decide) (fun c2 => ?_) (fun c2 => ?_)
  · refine ae_iload_n (pc := 9) dJ9_max_7cf53_9 rfl ?_
    refine ae_ireturn (pc := 10) dJ9_max_7cf53_10 rfl ?_
    refine ⟨?_, rfl⟩
    first | (rw [if_pos c2]; done) | (rw [if_neg c2]; done)
  · refine ae_iload_n (pc := 5) dJ9_max_7cf53_5 rfl ?_
    refine ae_goto (pc := 6) (t := 10) dJ9_max_7cf53_6 (by decide) ?_
    refine ae_ireturn (pc := 10) dJ9_max_7cf53_10 rfl ?_
    refine ⟨?_, rfl⟩
    first | (rw [if_pos c2]; done) | (rw [if_neg c2]; done)
theorem sc_min (d : Nat) (x y : Int32) (M : am_M) : am_R (d + 1) zJ9_min_7cf53 [.int x, .int y] M (fun v M' => v = some (.int (if y < x then y else x)) ∧ M' = M) := by
  refine ae_enter (z := zJ9_min_7cf53) (y := yJ9_min_7cf53) (cc := cJ9_min_7cf53) (mL := 2) (rt := some .int) (ci := 12) (st := true) (np := 2) (L := [some (.int x), some (.int y)]) rfl (by decide) (Nat.le_of_ble_eq_true rfl) rfl ?_
  refine ae_iload_n (pc := 0) dJ9_min_7cf53_0 rfl ?_
  refine ae_iload_n (pc := 1) dJ9_min_7cf53_1 rfl ?_
  refine ae_icmp_gt (pc := 2) (t := 9) dJ9_min_7cf53_2 (by decide) (fun c2 => ?_) (fun c2 => ?_)
  · refine ae_iload_n (pc := 9) dJ9_min_7cf53_9 rfl ?_
    refine ae_ireturn (pc := 10) dJ9_min_7cf53_10 rfl ?_
    refine ⟨?_, rfl⟩
    first | (rw [if_pos c2]; done) | (rw [if_neg c2]; done)
  · refine ae_iload_n (pc := 5) dJ9_min_7cf53_5 rfl ?_
    refine ae_goto (pc := 6) (t := 10) dJ9_min_7cf53_6 (by decide) ?_
    refine ae_ireturn (pc := 10) dJ9_min_7cf53_10 rfl ?_
    refine ⟨?_, rfl⟩
    first | (rw [if_pos c2]; done) | (rw [if_neg c2]; done)
theorem sc_limited (d : Nat) (x : Int32) (M : am_M) : am_R (d + 2) zX10_limited [.int x] M (fun v M' => v = some (.int (lim x)) ∧ M' = M) := by
  refine ae_enter (z := zX10_limited) (y := yX10_limited) (cc := cX10_limited) (mL := 1) (rt := some .int) (ci := 10) (st := true) (np := 1) (L := [some (.int x)]) rfl (by decide) (Nat.le_of_ble_eq_true rfl) rfl ?_
  refine ae_iconst (pc := 0) (v := nI 0) dX10_limited_0 (by decide) ?_
  refine ae_sipush (pc := 1) (v := nI 255) dX10_limited_1 (by decide) ?_
  refine ae_iload_n (pc := 4) dX10_limited_4 rfl ?_
  refine ae_pcallS (pc := 5) (z := zJ9_min_7cf53) (As := [_, _]) dX10_limited_5 rfl rfl rfl rfl (Nat.le_of_ble_eq_true rfl) (sc_min d _ _ _) ?_
  refine ae_pcallS (pc := 8) (z := zJ9_max_7cf53) (As := [_, _]) dX10_limited_8 rfl rfl rfl rfl (Nat.le_of_ble_eq_true rfl) (sc_max d _ _ _) ?_
  refine ae_ireturn (pc := 11) dX10_limited_11 rfl ?_
  exact ⟨by rw [← lim_mm x], rfl⟩
theorem sc_mean (d : Nat) (s n : Nat) (hn : n < 2 ^ 29) (hs : s < 2 ^ 29) (M : am_M) : am_R (d + 1) zX10_mean [.int (nI s), .int (nI n)] M (fun v M' => v = some (.int (nI (if 0 < n then (2 * s + n) / (2 * n) else 0))) ∧ M' = M) := by
  refine ae_enter (z := zX10_mean) (y := yX10_mean) (cc := cX10_mean) (mL := 2) (rt := some .int) (ci := 10) (st := true) (np := 2) (L := [some (.int (nI s)), some (.int (nI n))]) rfl (by decide) (Nat.le_of_ble_eq_true rfl) rfl ?_
  by_cases h : 0 < n
  · rw [if_pos h]
    refine ae_iload_n (pc := 0) dX10_mean_0 rfl ?_
    refine ae_if_le (pc := 1) (t := 16) dX10_mean_1 (by decide) (fun c1 => ?_) (fun c1 => ?_)
    · exact absurd c1 (by rw [show (0 : Int32) = nI 0 from rfl, nI_leI (by omega) (by omega)]; omega)
    refine ae_iconst (pc := 4) (v := nI 2) dX10_mean_4 (by decide) ?_
    refine ae_iload_n (pc := 5) dX10_mean_5 rfl ?_
    refine ae_imul (pc := 6) dX10_mean_6 (nI_mul _ _) ?_
    refine ae_iload_n (pc := 7) dX10_mean_7 rfl ?_
    refine ae_iadd (pc := 8) dX10_mean_8 (nI_add _ _) ?_
    refine ae_iconst (pc := 9) (v := nI 2) dX10_mean_9 (by decide) ?_
    refine ae_iload_n (pc := 10) dX10_mean_10 rfl ?_
    refine ae_imul (pc := 11) dX10_mean_11 (nI_mul _ _) ?_
    refine ae_idiv (pc := 12) (v := nI ((2 * s + n) / (2 * n))) dX10_mean_12 (nI_ne0 (by omega) (by omega)) (nI_div (by omega) (by omega)) ?_
    refine ae_goto (pc := 13) (t := 17) dX10_mean_13 (by decide) ?_
    refine ae_ireturn (pc := 17) dX10_mean_17 rfl ?_
    exact ⟨rfl, rfl⟩
  · rw [if_neg h]
    refine ae_iload_n (pc := 0) dX10_mean_0 rfl ?_
    refine ae_if_le (pc := 1) (t := 16) dX10_mean_1 (by decide) (fun c1 => ?_) (fun c1 => ?_)
    rotate_left
    · exact absurd (by rw [show (0 : Int32) = nI 0 from rfl, nI_leI (by omega) (by omega)]; omega) c1
    refine ae_iconst (pc := 16) (v := nI 0) dX10_mean_16 (by decide) ?_
    refine ae_ireturn (pc := 17) dX10_mean_17 rfl ?_
    exact ⟨rfl, rfl⟩
theorem sc_area (d : Nat) (M : am_M) (f : fT) (hg : AG M f) (hf : wf0 f) : am_R (d + 1) zX7_area [.ref 1] M (fun v M' => v = some (.int (nI (fA f))) ∧ M' = M) := by
  refine ae_enter (z := zX7_area) (y := yX7_area) (cc := cX7_area) (mL := 1) (rt := some .int) (ci := 7) (st := false) (np := 0) (L := [some (.ref 1)]) rfl (by decide) (Nat.le_of_ble_eq_true rfl) rfl ?_
  obtain ⟨a0, a1, -⟩ := AG_w hg hf
  refine ae_aload_n (pc := 0) dX7_area_0 rfl ?_
  refine ae_getI (pc := 1) (k := 1) (c := 7) (j := 0) (v := nI (fW f)) dX7_area_1 rfl rfl (Or.inl rfl) (Nat.le_of_ble_eq_true rfl) rfl (Nat.le_of_ble_eq_true rfl) a0 ?_
  refine ae_aload_n (pc := 4) dX7_area_4 rfl ?_
  refine ae_getI (pc := 5) (k := 1) (c := 7) (j := 1) (v := nI (fH f)) dX7_area_5 rfl rfl (Or.inl rfl) (Nat.le_of_ble_eq_true rfl) rfl (Nat.le_of_ble_eq_true rfl) a1 ?_
  refine ae_imul (pc := 8) (v := nI (fA f)) dX7_area_8 (nI_mul _ _) ?_
  refine ae_ireturn (pc := 9) dX7_area_9 rfl ?_
  exact ⟨rfl, rfl⟩
theorem sc_contains (d : Nat) (M : am_M) (f : fT) (hg : AG M f) (hf : wf0 f) (x y : Int32) : am_R (d + 1) zX7_contains [.ref 1, .int x, .int y] M (fun v M' => v = some (.int (bI (inP f x y))) ∧ M' = M) := by
  refine ae_enter (z := zX7_contains) (y := yX7_contains) (cc := cX7_contains) (mL := 3) (rt := some .boolean) (ci := 7) (st := false) (np := 2) (L := [some (.ref 1), some (.int x), some (.int y)]) rfl (by decide) (Nat.le_of_ble_eq_true rfl) rfl ?_
  obtain ⟨a0, a1, -⟩ := AG_w hg hf
  have hi := inP_iff hf x y
  refine ae_iload_n (pc := 0) dX7_contains_0 rfl ?_
  refine ae_if_lt (pc := 1) (t := 28) dX7_contains_1 (by decide) (fun c1 => ?_) (fun c1 => ?_)
  · refine ae_iconst (pc := 28) (v := nI 0) dX7_contains_28 (by decide) ?_
    refine ae_zreturn (pc := 29) dX7_contains_29 rfl (by decide) ?_
    first | exact And.intro (bret_f (fun q => ((hi.mp q).1.1) c1)) rfl | exact And.intro (bret_f (fun q => ((hi.mp q).1.2) c9)) rfl | exact And.intro (bret_f (fun q => ((hi.mp q).2.1) c13)) rfl | exact And.intro (bret_f (fun q => ((hi.mp q).2.2) c21)) rfl | exact And.intro (bret_t (hi.mpr (And.intro (And.intro c1 c9) (And.intro c13 c21)))) rfl
  · refine ae_iload_n (pc := 4) dX7_contains_4 rfl ?_
    refine ae_aload_n (pc := 5) dX7_contains_5 rfl ?_
    refine ae_getI (pc := 6) (k := 1) (c := 7) (j := 0) (v := nI (fW f)) dX7_contains_6 rfl rfl (Or.inl rfl) (Nat.le_of_ble_eq_true rfl) rfl (Nat.le_of_ble_eq_true rfl) a0 ?_
    refine ae_icmp_ge (pc := 9) (t := 28) dX7_contains_9 (by decide) (fun c9 => ?_) (fun c9 => ?_)
    · refine ae_iconst (pc := 28) (v := nI 0) dX7_contains_28 (by decide) ?_
      refine ae_zreturn (pc := 29) dX7_contains_29 rfl (by decide) ?_
      first | exact And.intro (bret_f (fun q => ((hi.mp q).1.1) c1)) rfl | exact And.intro (bret_f (fun q => ((hi.mp q).1.2) c9)) rfl | exact And.intro (bret_f (fun q => ((hi.mp q).2.1) c13)) rfl | exact And.intro (bret_f (fun q => ((hi.mp q).2.2) c21)) rfl | exact And.intro (bret_t (hi.mpr (And.intro (And.intro c1 c9) (And.intro c13 c21)))) rfl
    · refine ae_iload_n (pc := 12) dX7_contains_12 rfl ?_
      refine ae_if_lt (pc := 13) (t := 28) dX7_contains_13 (by decide) (fun c13 => ?_) (fun c13 => ?_)
      · refine ae_iconst (pc := 28) (v := nI 0) dX7_contains_28 (by decide) ?_
        refine ae_zreturn (pc := 29) dX7_contains_29 rfl (by decide) ?_
        first | exact And.intro (bret_f (fun q => ((hi.mp q).1.1) c1)) rfl | exact And.intro (bret_f (fun q => ((hi.mp q).1.2) c9)) rfl | exact And.intro (bret_f (fun q => ((hi.mp q).2.1) c13)) rfl | exact And.intro (bret_f (fun q => ((hi.mp q).2.2) c21)) rfl | exact And.intro (bret_t (hi.mpr (And.intro (And.intro c1 c9) (And.intro c13 c21)))) rfl
      · refine ae_iload_n (pc := 16) dX7_contains_16 rfl ?_
        refine ae_aload_n (pc := 17) dX7_contains_17 rfl ?_
        refine ae_getI (pc := 18) (k := 1) (c := 7) (j := 1) (v := nI (fH f)) dX7_contains_18 rfl rfl (Or.inl rfl) (Nat.le_of_ble_eq_true rfl) rfl (Nat.le_of_ble_eq_true rfl) a1 ?_
        refine ae_icmp_ge (pc := 21) (t := 28) dX7_contains_21 (by decide) (fun c21 => ?_) (fun c21 => ?_)
        · refine ae_iconst (pc := 28) (v := nI 0) dX7_contains_28 (by decide) ?_
          refine ae_zreturn (pc := 29) dX7_contains_29 rfl (by decide) ?_
          first | exact And.intro (bret_f (fun q => ((hi.mp q).1.1) c1)) rfl | exact And.intro (bret_f (fun q => ((hi.mp q).1.2) c9)) rfl | exact And.intro (bret_f (fun q => ((hi.mp q).2.1) c13)) rfl | exact And.intro (bret_f (fun q => ((hi.mp q).2.2) c21)) rfl | exact And.intro (bret_t (hi.mpr (And.intro (And.intro c1 c9) (And.intro c13 c21)))) rfl
        · refine ae_iconst (pc := 24) (v := nI 1) dX7_contains_24 (by decide) ?_
          refine ae_goto (pc := 25) (t := 29) dX7_contains_25 (by decide) ?_
          refine ae_zreturn (pc := 29) dX7_contains_29 rfl (by decide) ?_
          first | exact And.intro (bret_f (fun q => ((hi.mp q).1.1) c1)) rfl | exact And.intro (bret_f (fun q => ((hi.mp q).1.2) c9)) rfl | exact And.intro (bret_f (fun q => ((hi.mp q).2.1) c13)) rfl | exact And.intro (bret_f (fun q => ((hi.mp q).2.2) c21)) rfl | exact And.intro (bret_t (hi.mpr (And.intro (And.intro c1 c9) (And.intro c13 c21)))) rfl
theorem sc_place (d : Nat) (M : am_M) (f : fT) (hg : AG M f) (hf : wf0 f) (x y : Nat) : am_R (d + 1) zX7_place [.ref 1, .int (nI x), .int (nI y)] M (fun v M' => v = some (.int (nI (y * fW f + x))) ∧ M' = M) := by
  refine ae_enter (z := zX7_place) (y := yX7_place) (cc := cX7_place) (mL := 3) (rt := some .int) (ci := 7) (st := false) (np := 2) (L := [some (.ref 1), some (.int (nI x)), some (.int (nI y))]) rfl (by decide) (Nat.le_of_ble_eq_true rfl) rfl ?_
  obtain ⟨a0, -, -⟩ := AG_w hg hf
  refine ae_iload_n (pc := 0) dX7_place_0 rfl ?_
  refine ae_aload_n (pc := 1) dX7_place_1 rfl ?_
  refine ae_getI (pc := 2) (k := 1) (c := 7) (j := 0) (v := nI (fW f)) dX7_place_2 rfl rfl (Or.inl rfl) (Nat.le_of_ble_eq_true rfl) rfl (Nat.le_of_ble_eq_true rfl) a0 ?_
  refine ae_imul (pc := 5) (v := nI (y * fW f)) dX7_place_5 (nI_mul _ _) ?_
  refine ae_iload_n (pc := 6) dX7_place_6 rfl ?_
  refine ae_iadd (pc := 7) (v := nI (y * fW f + x)) dX7_place_7 (nI_add _ _) ?_
  refine ae_ireturn (pc := 8) dX7_place_8 rfl ?_
  exact ⟨rfl, rfl⟩
theorem sc_isOpaque (d : Nat) (M : am_M) (f : fT) (hg : AG M f) (hf : wf0 f) (p : Nat) (hp : p < fA f) : am_R (d + 1) zX7_isOpaque [.ref 1, .int (nI p)] M (fun v M' => v = some (.int (bI (f (2 + p) ≠ -1))) ∧ M' = M) := by
  refine ae_enter (z := zX7_isOpaque) (y := yX7_isOpaque) (cc := cX7_isOpaque) (mL := 2) (rt := some .boolean) (ci := 7) (st := false) (np := 1) (L := [some (.ref 1), some (.int (nI p))]) rfl (by decide) (Nat.le_of_ble_eq_true rfl) rfl ?_
  have hA := fA_le hf
  refine ae_aload_n (pc := 0) dX7_isOpaque_0 rfl ?_
  refine ae_getR (pc := 1) (k := 1) (c := 7) (j := 2) (q := 2) dX7_isOpaque_1 rfl rfl (Nat.le_of_ble_eq_true rfl) rfl (Nat.le_of_ble_eq_true rfl) rfl ?_
  refine ae_iload_n (pc := 4) dX7_isOpaque_4 rfl ?_
  refine ae_iaload (pc := 5) (k := 2) (N := 256) (v := f (2 + p)) _ dX7_isOpaque_5 (Nat.le_of_ble_eq_true rfl) rfl rfl rfl (by omega) (hg.2.1 p hp) ?_
  refine ae_iconst (pc := 6) (v := (-1)) dX7_isOpaque_6 (by decide) ?_
  refine ae_icmp_eq (pc := 7) (t := 14) dX7_isOpaque_7 (by decide) (fun c7 => ?_) (fun c7 => ?_)
  · refine ae_iconst (pc := 14) (v := nI 0) dX7_isOpaque_14 (by decide) ?_
    refine ae_zreturn (pc := 15) dX7_isOpaque_15 rfl (by decide) ?_
    first | exact And.intro (bret_f (fun q => q c7)) rfl | exact And.intro (bret_t c7) rfl
  · refine ae_iconst (pc := 10) (v := nI 1) dX7_isOpaque_10 (by decide) ?_
    refine ae_goto (pc := 11) (t := 15) dX7_isOpaque_11 (by decide) ?_
    refine ae_zreturn (pc := 15) dX7_isOpaque_15 rfl (by decide) ?_
    first | exact And.intro (bret_f (fun q => q c7)) rfl | exact And.intro (bret_t c7) rfl
theorem sc_opaquePixels (d : Nat) (M : am_M) (f : fT) (hg : AG M f) (hf : wf0 f) : am_R (d + 2) zX7_opaquePixels [.ref 1] M (fun v M' => v = some (.int (nI (opq f (fA f)))) ∧ M' = M) := by
  refine ae_enter (z := zX7_opaquePixels) (y := yX7_opaquePixels) (cc := cX7_opaquePixels) (mL := 3) (rt := some .int) (ci := 7) (st := false) (np := 0) (L := [some (.ref 1), none, none]) rfl (by decide) (Nat.le_of_ble_eq_true rfl) rfl ?_
  have hA := fA_le hf
  refine ae_iconst (pc := 0) (v := nI 0) dX7_opaquePixels_0 (by decide) ?_
  refine ae_istore_n (pc := 1) dX7_opaquePixels_1 rfl (Nat.le_of_ble_eq_true rfl) ?_
  refine ae_iconst (pc := 2) (v := nI 0) dX7_opaquePixels_2 (by decide) ?_
  refine ae_istore_n (pc := 3) dX7_opaquePixels_3 rfl (Nat.le_of_ble_eq_true rfl) ?_
  skip
  refine am_down (P := fun k => am_E none (am_R (d + 1)) cX7_opaquePixels 7 (some .int) _ (4, [some (.ref 1), some (.int (nI (opq f k))), some (.int (nI k))], [], M)) (fA f) (fun k hk ih => ?_)
  refine ae_iload_n (pc := 4) dX7_opaquePixels_4 rfl ?_
  refine ae_aload_n (pc := 5) dX7_opaquePixels_5 rfl ?_
  refine ae_pcallV (pc := 6) (z := zX7_area) (k := 1) (As := []) dX7_opaquePixels_6 rfl rfl rfl rfl (Nat.le_of_ble_eq_true rfl) rfl (Nat.le_of_ble_eq_true rfl) (Nat.le_of_ble_eq_true rfl) (sc_area d M f hg hf) ?_
  refine ae_icmp_ge (pc := 9) (t := 29) dX7_opaquePixels_9 (by decide) (fun c9 => ?_) (fun c9 => ?_)
  · have hk2 : k = fA f := by rw [nI_leI (by omega) (by omega)] at c9; omega
    subst hk2
    refine ae_iload_n (pc := 29) dX7_opaquePixels_29 rfl ?_
    refine ae_ireturn (pc := 30) dX7_opaquePixels_30 rfl ?_
    exact ⟨rfl, rfl⟩
  · have hk2 : k < fA f := by rw [nI_leI (by omega) (by omega)] at c9; omega
    have ih2 := ih hk2
    rw [opq_s] at ih2
    refine ae_aload_n (pc := 12) dX7_opaquePixels_12 rfl ?_
    refine ae_iload_n (pc := 13) dX7_opaquePixels_13 rfl ?_
    refine ae_pcallV (pc := 14) (z := zX7_isOpaque) (k := 1) (As := [_]) dX7_opaquePixels_14 rfl rfl rfl rfl (Nat.le_of_ble_eq_true rfl) rfl (Nat.le_of_ble_eq_true rfl) (Nat.le_of_ble_eq_true rfl) (sc_isOpaque d M f hg hf k hk2) ?_
    refine ae_if_eq (pc := 17) (t := 23) dX7_opaquePixels_17 (by decide) (fun c17 => ?_) (fun c17 => ?_)
    · refine ae_iinc (pc := 23) (v := nI (k + 1)) dX7_opaquePixels_23 rfl (nI_inc k) ?_
      refine ae_goto (pc := 26) (t := 4) dX7_opaquePixels_26 (by decide) ?_
      first | (rw [if_pos (Classical.not_not.mp (bI_eq0.mp c17))] at ih2; exact ih2) | (rw [if_neg (bI_ne0.mp c17)] at ih2; exact ih2)
    · refine ae_iinc (pc := 20) (v := nI (opq f k + 1)) dX7_opaquePixels_20 rfl (nI_inc _) ?_
      refine ae_iinc (pc := 23) (v := nI (k + 1)) dX7_opaquePixels_23 rfl (nI_inc k) ?_
      refine ae_goto (pc := 26) (t := 4) dX7_opaquePixels_26 (by decide) ?_
      first | (rw [if_pos (Classical.not_not.mp (bI_eq0.mp c17))] at ih2; exact ih2) | (rw [if_neg (bI_ne0.mp c17)] at ih2; exact ih2)
theorem sc_hasEntry (d : Nat) (M : am_M) (f : fT) (hg : AG M f) (hf : wf0 f) (x : Int32) : am_R (d + 1) zX7_hasEntry [.ref 1, .int x] M (fun v M' => v = some (.int (bI (inE f x))) ∧ M' = M) := by
  refine ae_enter (z := zX7_hasEntry) (y := yX7_hasEntry) (cc := cX7_hasEntry) (mL := 2) (rt := some .boolean) (ci := 7) (st := false) (np := 1) (L := [some (.ref 1), some (.int x)]) rfl (by decide) (Nat.le_of_ble_eq_true rfl) rfl ?_
  obtain ⟨-, -, a3⟩ := AG_w hg hf
  have hi := inE_iff hf x
  refine ae_iload_n (pc := 0) dX7_hasEntry_0 rfl ?_
  refine ae_if_lt (pc := 1) (t := 16) dX7_hasEntry_1 (by decide) (fun c1 => ?_) (fun c1 => ?_)
  · refine ae_iconst (pc := 16) (v := nI 0) dX7_hasEntry_16 (by decide) ?_
    refine ae_zreturn (pc := 17) dX7_hasEntry_17 rfl (by decide) ?_
    first | exact And.intro (bret_f (fun q => ((hi.mp q).1) c1)) rfl | exact And.intro (bret_f (fun q => ((hi.mp q).2) c9)) rfl | exact And.intro (bret_t (hi.mpr (And.intro c1 c9))) rfl
  · refine ae_iload_n (pc := 4) dX7_hasEntry_4 rfl ?_
    refine ae_aload_n (pc := 5) dX7_hasEntry_5 rfl ?_
    refine ae_getI (pc := 6) (k := 1) (c := 7) (j := 3) (v := nI (fN f)) dX7_hasEntry_6 rfl rfl (Or.inl rfl) (Nat.le_of_ble_eq_true rfl) rfl (Nat.le_of_ble_eq_true rfl) a3 ?_
    refine ae_icmp_ge (pc := 9) (t := 16) dX7_hasEntry_9 (by decide) (fun c9 => ?_) (fun c9 => ?_)
    · refine ae_iconst (pc := 16) (v := nI 0) dX7_hasEntry_16 (by decide) ?_
      refine ae_zreturn (pc := 17) dX7_hasEntry_17 rfl (by decide) ?_
      first | exact And.intro (bret_f (fun q => ((hi.mp q).1) c1)) rfl | exact And.intro (bret_f (fun q => ((hi.mp q).2) c9)) rfl | exact And.intro (bret_t (hi.mpr (And.intro c1 c9))) rfl
    · refine ae_iconst (pc := 12) (v := nI 1) dX7_hasEntry_12 (by decide) ?_
      refine ae_goto (pc := 13) (t := 17) dX7_hasEntry_13 (by decide) ?_
      refine ae_zreturn (pc := 17) dX7_hasEntry_17 rfl (by decide) ?_
      first | exact And.intro (bret_f (fun q => ((hi.mp q).1) c1)) rfl | exact And.intro (bret_f (fun q => ((hi.mp q).2) c9)) rfl | exact And.intro (bret_t (hi.mpr (And.intro c1 c9))) rfl
theorem sc_lockedEntries (d : Nat) (M : am_M) (f : fT) (hg : AG M f) (hf : wf f) : am_R (d + 1) zX7_lockedEntries [.ref 1] M (fun v M' => v = some (.int (nI (lcd f (fN f)))) ∧ M' = M) := by
  refine ae_enter (z := zX7_lockedEntries) (y := yX7_lockedEntries) (cc := cX7_lockedEntries) (mL := 3) (rt := some .int) (ci := 7) (st := false) (np := 0) (L := [some (.ref 1), none, none]) rfl (by decide) (Nat.le_of_ble_eq_true rfl) rfl ?_
  obtain ⟨-, -, a3⟩ := AG_w hg hf.1
  have hN := hf.1.2.2.2
  refine ae_iconst (pc := 0) (v := nI 0) dX7_lockedEntries_0 (by decide) ?_
  refine ae_istore_n (pc := 1) dX7_lockedEntries_1 rfl (Nat.le_of_ble_eq_true rfl) ?_
  refine ae_iconst (pc := 2) (v := nI 0) dX7_lockedEntries_2 (by decide) ?_
  refine ae_istore_n (pc := 3) dX7_lockedEntries_3 rfl (Nat.le_of_ble_eq_true rfl) ?_
  skip
  refine am_down (P := fun k => am_E none (am_R d) cX7_lockedEntries 7 (some .int) _ (4, [some (.ref 1), some (.int (nI (lcd f k))), some (.int (nI k))], [], M)) (fN f) (fun k hk ih => ?_)
  refine ae_iload_n (pc := 4) dX7_lockedEntries_4 rfl ?_
  refine ae_aload_n (pc := 5) dX7_lockedEntries_5 rfl ?_
  refine ae_getI (pc := 6) (k := 1) (c := 7) (j := 3) (v := nI (fN f)) dX7_lockedEntries_6 rfl rfl (Or.inl rfl) (Nat.le_of_ble_eq_true rfl) rfl (Nat.le_of_ble_eq_true rfl) a3 ?_
  refine ae_icmp_ge (pc := 9) (t := 30) dX7_lockedEntries_9 (by decide) (fun c9 => ?_) (fun c9 => ?_)
  · have hk2 : k = fN f := by rw [nI_leI (by omega) (by omega)] at c9; omega
    subst hk2
    refine ae_iload_n (pc := 30) dX7_lockedEntries_30 rfl ?_
    refine ae_ireturn (pc := 31) dX7_lockedEntries_31 rfl ?_
    exact ⟨rfl, rfl⟩
  · have hk2 : k < fN f := by rw [nI_leI (by omega) (by omega)] at c9; omega
    have ih2 := ih hk2
    rw [lcd_s] at ih2
    have h01 := (hf.2.2.1 k hk2).2
    refine ae_aload_n (pc := 12) dX7_lockedEntries_12 rfl ?_
    refine ae_getR (pc := 13) (k := 1) (c := 7) (j := 5) (q := 4) dX7_lockedEntries_13 rfl rfl (Nat.le_of_ble_eq_true rfl) rfl (Nat.le_of_ble_eq_true rfl) rfl ?_
    refine ae_iload_n (pc := 16) dX7_lockedEntries_16 rfl ?_
    refine ae_baload (pc := 17) (k := 4) (N := 16) (v := f (275 + k)) _ dX7_lockedEntries_17 (Nat.le_of_ble_eq_true rfl) rfl rfl rfl (by omega) ((hg.2.2.1 k hk2).2) ?_
    refine ae_if_eq (pc := 18) (t := 24) dX7_lockedEntries_18 (by decide) (fun c18 => ?_) (fun c18 => ?_)
    · refine ae_iinc (pc := 24) (v := nI (k + 1)) dX7_lockedEntries_24 rfl (nI_inc k) ?_
      refine ae_goto (pc := 27) (t := 4) dX7_lockedEntries_27 (by decide) ?_
      first | (rw [if_neg (fun q => absurd (c18.symm.trans q) (by decide))] at ih2; exact ih2) | (rw [if_pos (h01.resolve_left c18)] at ih2; exact ih2)
    · refine ae_iinc (pc := 21) (v := nI (lcd f k + 1)) dX7_lockedEntries_21 rfl (nI_inc _) ?_
      refine ae_iinc (pc := 24) (v := nI (k + 1)) dX7_lockedEntries_24 rfl (nI_inc k) ?_
      refine ae_goto (pc := 27) (t := 4) dX7_lockedEntries_27 (by decide) ?_
      first | (rw [if_neg (fun q => absurd (c18.symm.trans q) (by decide))] at ih2; exact ih2) | (rw [if_pos (h01.resolve_left c18)] at ih2; exact ih2)
theorem sc_distance (d : Nat) (M : am_M) (f : fT) (hg : AG M f) (a b : Int32) (ha : okc a) (hb : okc b) : am_R (d + 1) zX7_distance [.ref 1, .int a, .int b] M (fun v M' => v = some (.int (dst (f 291) a b)) ∧ M' = M) := by
  refine ae_enter (z := zX7_distance) (y := yX7_distance) (cc := cX7_distance) (mL := 6) (rt := some .int) (ci := 7) (st := false) (np := 2) (L := [some (.ref 1), some (.int a), some (.int b), none, none, none]) rfl (by decide) (Nat.le_of_ble_eq_true rfl) rfl ?_
  have a6 : M.1 1 6 = f 291 := hg.1.2.2.2.1
  refine ae_iload_n (pc := 0) dX7_distance_0 rfl ?_
  refine ae_bipush (pc := 1) (v := nI 16) dX7_distance_1 (by decide) ?_
  refine ae_ishr (pc := 3) (v := cha a 0) dX7_distance_3 (okc_r ha) ?_
  refine ae_iload_n (pc := 4) dX7_distance_4 rfl ?_
  refine ae_bipush (pc := 5) (v := nI 16) dX7_distance_5 (by decide) ?_
  refine ae_ishr (pc := 7) (v := cha b 0) dX7_distance_7 (okc_r hb) ?_
  refine ae_isub (pc := 8) dX7_distance_8 rfl ?_
  refine ae_istore_n (pc := 9) dX7_distance_9 rfl (Nat.le_of_ble_eq_true rfl) ?_
  refine ae_iload_n (pc := 10) dX7_distance_10 rfl ?_
  refine ae_bipush (pc := 11) (v := nI 8) dX7_distance_11 (by decide) ?_
  refine ae_ishr (pc := 13) dX7_distance_13 rfl ?_
  refine ae_sipush (pc := 14) (v := nI 255) dX7_distance_14 (by decide) ?_
  refine ae_iand (pc := 17) (v := cha a 1) dX7_distance_17 rfl ?_
  refine ae_iload_n (pc := 18) dX7_distance_18 rfl ?_
  refine ae_bipush (pc := 19) (v := nI 8) dX7_distance_19 (by decide) ?_
  refine ae_ishr (pc := 21) dX7_distance_21 rfl ?_
  refine ae_sipush (pc := 22) (v := nI 255) dX7_distance_22 (by decide) ?_
  refine ae_iand (pc := 25) (v := cha b 1) dX7_distance_25 rfl ?_
  refine ae_isub (pc := 26) dX7_distance_26 rfl ?_
  refine ae_istore (pc := 27) dX7_distance_27 rfl (Nat.le_of_ble_eq_true rfl) ?_
  refine ae_iload_n (pc := 29) dX7_distance_29 rfl ?_
  refine ae_sipush (pc := 30) (v := nI 255) dX7_distance_30 (by decide) ?_
  refine ae_iand (pc := 33) (v := cha a 2) dX7_distance_33 (okc_b ha) ?_
  refine ae_iload_n (pc := 34) dX7_distance_34 rfl ?_
  refine ae_sipush (pc := 35) (v := nI 255) dX7_distance_35 (by decide) ?_
  refine ae_iand (pc := 38) (v := cha b 2) dX7_distance_38 (okc_b hb) ?_
  refine ae_isub (pc := 39) dX7_distance_39 rfl ?_
  refine ae_istore (pc := 40) dX7_distance_40 rfl (Nat.le_of_ble_eq_true rfl) ?_
  refine ae_aload_n (pc := 42) dX7_distance_42 rfl ?_
  refine ae_getI (pc := 43) (k := 1) (c := 7) (j := 6) (v := f 291) dX7_distance_43 rfl rfl (Or.inl rfl) (Nat.le_of_ble_eq_true rfl) rfl (Nat.le_of_ble_eq_true rfl) a6 ?_
  refine ae_if_ne (pc := 46) (t := 65) dX7_distance_46 (by decide) (fun c46 => ?_) (fun c46 => ?_)
  · refine ae_iconst (pc := 65) (v := nI 2) dX7_distance_65 (by decide) ?_
    refine ae_iload_n (pc := 66) dX7_distance_66 rfl ?_
    refine ae_imul (pc := 67) dX7_distance_67 rfl ?_
    refine ae_iload_n (pc := 68) dX7_distance_68 rfl ?_
    refine ae_imul (pc := 69) dX7_distance_69 rfl ?_
    refine ae_iconst (pc := 70) (v := nI 4) dX7_distance_70 (by decide) ?_
    refine ae_iload (pc := 71) dX7_distance_71 rfl ?_
    refine ae_imul (pc := 73) dX7_distance_73 rfl ?_
    refine ae_iload (pc := 74) dX7_distance_74 rfl ?_
    refine ae_imul (pc := 76) dX7_distance_76 rfl ?_
    refine ae_iadd (pc := 77) dX7_distance_77 rfl ?_
    refine ae_iconst (pc := 78) (v := nI 3) dX7_distance_78 (by decide) ?_
    refine ae_iload (pc := 79) dX7_distance_79 rfl ?_
    refine ae_imul (pc := 81) dX7_distance_81 rfl ?_
    refine ae_iload (pc := 82) dX7_distance_82 rfl ?_
    refine ae_imul (pc := 84) dX7_distance_84 rfl ?_
    refine ae_iadd (pc := 85) dX7_distance_85 rfl ?_
    refine ae_ireturn (pc := 86) dX7_distance_86 rfl ?_
    refine ⟨?_, rfl⟩
    unfold dst
    first | (rw [if_pos (Classical.not_not.mp c46)]; done) | (rw [if_neg c46]; done)
  · refine ae_iload_n (pc := 49) dX7_distance_49 rfl ?_
    refine ae_iload_n (pc := 50) dX7_distance_50 rfl ?_
    refine ae_imul (pc := 51) dX7_distance_51 rfl ?_
    refine ae_iload (pc := 52) dX7_distance_52 rfl ?_
    refine ae_iload (pc := 54) dX7_distance_54 rfl ?_
    refine ae_imul (pc := 56) dX7_distance_56 rfl ?_
    refine ae_iadd (pc := 57) dX7_distance_57 rfl ?_
    refine ae_iload (pc := 58) dX7_distance_58 rfl ?_
    refine ae_iload (pc := 60) dX7_distance_60 rfl ?_
    refine ae_imul (pc := 62) dX7_distance_62 rfl ?_
    refine ae_iadd (pc := 63) dX7_distance_63 rfl ?_
    refine ae_ireturn (pc := 64) dX7_distance_64 rfl ?_
    refine ⟨?_, rfl⟩
    unfold dst
    first | (rw [if_pos (Classical.not_not.mp c46)]; done) | (rw [if_neg c46]; done)
theorem sc_closestEntry (d : Nat) (M : am_M) (f : fT) (hg : AG M f) (hf : wf f) (c : Int32) (hc : okc c) : am_R (d + 2) zX7_closestEntry [.ref 1, .int c] M (fun v M' => v = some (.int (oI (ner f c))) ∧ M' = M) := by
  refine ae_enter (z := zX7_closestEntry) (y := yX7_closestEntry) (cc := cX7_closestEntry) (mL := 6) (rt := some .int) (ci := 7) (st := false) (np := 1) (L := [some (.ref 1), some (.int c), none, none, none, none]) rfl (by decide) (Nat.le_of_ble_eq_true rfl) rfl ?_
  obtain ⟨-, -, a3⟩ := AG_w hg hf.1
  have hN := hf.1.2.2.2
  refine ae_iconst (pc := 0) (v := (-1)) dX7_closestEntry_0 (by decide) ?_
  refine ae_istore_n (pc := 1) dX7_closestEntry_1 rfl (Nat.le_of_ble_eq_true rfl) ?_
  refine ae_ldc (pc := 2) dX7_closestEntry_2 rfl rfl ?_
  refine ae_istore_n (pc := 4) dX7_closestEntry_4 rfl (Nat.le_of_ble_eq_true rfl) ?_
  refine ae_iconst (pc := 5) (v := nI 0) dX7_closestEntry_5 (by decide) ?_
  refine ae_istore (pc := 6) dX7_closestEntry_6 rfl (Nat.le_of_ble_eq_true rfl) ?_
  skip
  refine am_down (P := fun k => am_E none (am_R (d + 1)) cX7_closestEntry 7 (some .int) _ (8, [some (.ref 1), some (.int c), some (.int (oI (nbt f c (-1) k))), some (.int (cleD f c k)), some (.int (nI k)), none], [], M)) (fN f) (fun k hk ih => ?_)
  refine ae_iload (pc := 8) dX7_closestEntry_8 rfl ?_
  refine ae_aload_n (pc := 10) dX7_closestEntry_10 rfl ?_
  refine ae_getI (pc := 11) (k := 1) (c := 7) (j := 3) (v := nI (fN f)) dX7_closestEntry_11 rfl rfl (Or.inl rfl) (Nat.le_of_ble_eq_true rfl) rfl (Nat.le_of_ble_eq_true rfl) a3 ?_
  refine ae_icmp_ge (pc := 14) (t := 49) dX7_closestEntry_14 (by decide) (fun c14 => ?_) (fun c14 => ?_)
  · have hk2 : k = fN f := by rw [nI_leI (by omega) (by omega)] at c14; omega
    subst hk2
    refine ae_iload_n (pc := 49) dX7_closestEntry_49 rfl ?_
    refine ae_ireturn (pc := 50) dX7_closestEntry_50 rfl ?_
    exact ⟨rfl, rfl⟩
  · have hk2 : k < fN f := by rw [nI_leI (by omega) (by omega)] at c14; omega
    have ih2 := ih hk2
    unfold cleD at ih2 ⊢
    rw [nbt_s] at ih2
    have hn1 : ¬ nI k = -1 := nI_ne1 (by omega)
    have hds := sc_distance d M f hg c (f (259 + k)) hc (hf.2.2.1 k hk2).1
    cases hx : nbt f c (-1) k with
    | none =>
      rw [hx] at ih2
      simp only [if_neg hn1] at ih2
      refine ae_aload_n (pc := 17) dX7_closestEntry_17 rfl ?_
      refine ae_iload_n (pc := 18) dX7_closestEntry_18 rfl ?_
      refine ae_aload_n (pc := 19) dX7_closestEntry_19 rfl ?_
      refine ae_getR (pc := 20) (k := 1) (c := 7) (j := 4) (q := 3) dX7_closestEntry_20 rfl rfl (Nat.le_of_ble_eq_true rfl) rfl (Nat.le_of_ble_eq_true rfl) rfl ?_
      refine ae_iload (pc := 23) dX7_closestEntry_23 rfl ?_
      refine ae_iaload (pc := 25) (k := 3) (N := 16) (v := f (259 + k)) _ dX7_closestEntry_25 (Nat.le_of_ble_eq_true rfl) rfl rfl rfl (by omega) ((hg.2.2.1 k hk2).1) ?_
      refine ae_pcallV (pc := 26) (z := zX7_distance) (k := 1) (As := [_, _]) dX7_closestEntry_26 rfl rfl rfl rfl (Nat.le_of_ble_eq_true rfl) rfl (Nat.le_of_ble_eq_true rfl) (Nat.le_of_ble_eq_true rfl) (hds) ?_
      refine ae_istore (pc := 29) dX7_closestEntry_29 rfl (Nat.le_of_ble_eq_true rfl) ?_
      refine ae_iload (pc := 31) dX7_closestEntry_31 rfl ?_
      refine ae_iload_n (pc := 33) dX7_closestEntry_33 rfl ?_
      refine ae_icmp_ge (pc := 34) (t := 43) dX7_closestEntry_34 (by decide) (fun c34 => ?_) (fun c34 => ?_)
      · exact absurd (dst_lt _ _ _) (Int32.not_lt.mpr c34)
      refine ae_iload (pc := 37) dX7_closestEntry_37 rfl ?_
      refine ae_istore_n (pc := 39) dX7_closestEntry_39 rfl (Nat.le_of_ble_eq_true rfl) ?_
      refine ae_iload (pc := 40) dX7_closestEntry_40 rfl ?_
      refine ae_istore_n (pc := 42) dX7_closestEntry_42 rfl (Nat.le_of_ble_eq_true rfl) ?_
      refine ae_iinc (pc := 43) (v := nI (k + 1)) dX7_closestEntry_43 rfl (nI_inc k) ?_
      refine ae_goto (pc := 46) (t := 8) dX7_closestEntry_46 (by decide) ?_
      exact ae_forget [5] rfl ih2
    | some b =>
      rw [hx] at ih2
      simp only [if_neg hn1] at ih2
      by_cases hlt : dst (f 291) c (f (259 + k)) < dst (f 291) c (f (259 + b))
      · simp only [if_pos hlt] at ih2
        refine ae_aload_n (pc := 17) dX7_closestEntry_17 rfl ?_
        refine ae_iload_n (pc := 18) dX7_closestEntry_18 rfl ?_
        refine ae_aload_n (pc := 19) dX7_closestEntry_19 rfl ?_
        refine ae_getR (pc := 20) (k := 1) (c := 7) (j := 4) (q := 3) dX7_closestEntry_20 rfl rfl (Nat.le_of_ble_eq_true rfl) rfl (Nat.le_of_ble_eq_true rfl) rfl ?_
        refine ae_iload (pc := 23) dX7_closestEntry_23 rfl ?_
        refine ae_iaload (pc := 25) (k := 3) (N := 16) (v := f (259 + k)) _ dX7_closestEntry_25 (Nat.le_of_ble_eq_true rfl) rfl rfl rfl (by omega) ((hg.2.2.1 k hk2).1) ?_
        refine ae_pcallV (pc := 26) (z := zX7_distance) (k := 1) (As := [_, _]) dX7_closestEntry_26 rfl rfl rfl rfl (Nat.le_of_ble_eq_true rfl) rfl (Nat.le_of_ble_eq_true rfl) (Nat.le_of_ble_eq_true rfl) (hds) ?_
        refine ae_istore (pc := 29) dX7_closestEntry_29 rfl (Nat.le_of_ble_eq_true rfl) ?_
        refine ae_iload (pc := 31) dX7_closestEntry_31 rfl ?_
        refine ae_iload_n (pc := 33) dX7_closestEntry_33 rfl ?_
        refine ae_icmp_ge (pc := 34) (t := 43) dX7_closestEntry_34 (by decide) (fun c34 => ?_) (fun c34 => ?_)
        · exact absurd hlt (Int32.not_lt.mpr c34)
        refine ae_iload (pc := 37) dX7_closestEntry_37 rfl ?_
        refine ae_istore_n (pc := 39) dX7_closestEntry_39 rfl (Nat.le_of_ble_eq_true rfl) ?_
        refine ae_iload (pc := 40) dX7_closestEntry_40 rfl ?_
        refine ae_istore_n (pc := 42) dX7_closestEntry_42 rfl (Nat.le_of_ble_eq_true rfl) ?_
        refine ae_iinc (pc := 43) (v := nI (k + 1)) dX7_closestEntry_43 rfl (nI_inc k) ?_
        refine ae_goto (pc := 46) (t := 8) dX7_closestEntry_46 (by decide) ?_
        exact ae_forget [5] rfl ih2
      · simp only [if_neg hlt] at ih2
        refine ae_aload_n (pc := 17) dX7_closestEntry_17 rfl ?_
        refine ae_iload_n (pc := 18) dX7_closestEntry_18 rfl ?_
        refine ae_aload_n (pc := 19) dX7_closestEntry_19 rfl ?_
        refine ae_getR (pc := 20) (k := 1) (c := 7) (j := 4) (q := 3) dX7_closestEntry_20 rfl rfl (Nat.le_of_ble_eq_true rfl) rfl (Nat.le_of_ble_eq_true rfl) rfl ?_
        refine ae_iload (pc := 23) dX7_closestEntry_23 rfl ?_
        refine ae_iaload (pc := 25) (k := 3) (N := 16) (v := f (259 + k)) _ dX7_closestEntry_25 (Nat.le_of_ble_eq_true rfl) rfl rfl rfl (by omega) ((hg.2.2.1 k hk2).1) ?_
        refine ae_pcallV (pc := 26) (z := zX7_distance) (k := 1) (As := [_, _]) dX7_closestEntry_26 rfl rfl rfl rfl (Nat.le_of_ble_eq_true rfl) rfl (Nat.le_of_ble_eq_true rfl) (Nat.le_of_ble_eq_true rfl) (hds) ?_
        refine ae_istore (pc := 29) dX7_closestEntry_29 rfl (Nat.le_of_ble_eq_true rfl) ?_
        refine ae_iload (pc := 31) dX7_closestEntry_31 rfl ?_
        refine ae_iload_n (pc := 33) dX7_closestEntry_33 rfl ?_
        refine ae_icmp_ge (pc := 34) (t := 43) dX7_closestEntry_34 (by decide) (fun c34 => ?_) (fun c34 => ?_)
        rotate_left
        · exact absurd (Int32.not_le.mp c34) hlt
        refine ae_iinc (pc := 43) (v := nI (k + 1)) dX7_closestEntry_43 rfl (nI_inc k) ?_
        refine ae_goto (pc := 46) (t := 8) dX7_closestEntry_46 (by decide) ?_
        exact ae_forget [5] rfl ih2
theorem sc_timesIndexed (d : Nat) (M : am_M) (f : fT) (hg : AG M f) (hf : wf f) (x : Int32) : am_R (d + 2) zX7_timesIndexed [.ref 1, .int x] M (fun v M' => v = some (.int (nI (if f 292 = 1 then ixc f x (fA f) else 0))) ∧ M' = M) := by
  refine ae_enter (z := zX7_timesIndexed) (y := yX7_timesIndexed) (cc := cX7_timesIndexed) (mL := 4) (rt := some .int) (ci := 7) (st := false) (np := 1) (L := [some (.ref 1), some (.int x), none, none]) rfl (by decide) (Nat.le_of_ble_eq_true rfl) rfl ?_
  have hA := fA_le hf.1
  have a7 : M.1 1 7 = f 292 := hg.1.2.2.2.2
  by_cases h1 : f 292 = 1
  · rw [if_pos h1]
    refine ae_iconst (pc := 0) (v := nI 0) dX7_timesIndexed_0 (by decide) ?_
    refine ae_istore_n (pc := 1) dX7_timesIndexed_1 rfl (Nat.le_of_ble_eq_true rfl) ?_
    refine ae_iconst (pc := 2) (v := nI 0) dX7_timesIndexed_2 (by decide) ?_
    refine ae_istore_n (pc := 3) dX7_timesIndexed_3 rfl (Nat.le_of_ble_eq_true rfl) ?_
    skip
    refine am_down (P := fun k => am_E none (am_R (d + 1)) cX7_timesIndexed 7 (some .int) _ (4, [some (.ref 1), some (.int x), some (.int (nI (ixc f x k))), some (.int (nI k))], [], M)) (fA f) (fun k hk ih => ?_)
    refine ae_aload_n (pc := 4) dX7_timesIndexed_4 rfl ?_
    refine ae_getI (pc := 5) (k := 1) (c := 7) (j := 7) (v := f 292) dX7_timesIndexed_5 rfl rfl (Or.inr rfl) (Nat.le_of_ble_eq_true rfl) rfl (Nat.le_of_ble_eq_true rfl) a7 ?_
    refine ae_if_eq (pc := 8) (t := 38) dX7_timesIndexed_8 (by decide) (fun q => absurd (h1.symm.trans q) (by decide)) (fun _ => ?_)
    refine ae_iload_n (pc := 11) dX7_timesIndexed_11 rfl ?_
    refine ae_aload_n (pc := 12) dX7_timesIndexed_12 rfl ?_
    refine ae_pcallV (pc := 13) (z := zX7_area) (k := 1) (As := []) dX7_timesIndexed_13 rfl rfl rfl rfl (Nat.le_of_ble_eq_true rfl) rfl (Nat.le_of_ble_eq_true rfl) (Nat.le_of_ble_eq_true rfl) (sc_area d M f hg hf.1) ?_
    refine ae_icmp_ge (pc := 16) (t := 38) dX7_timesIndexed_16 (by decide) (fun c16 => ?_) (fun c16 => ?_)
    · have hk2 : k = fA f := by rw [nI_leI (by omega) (by omega)] at c16; omega
      subst hk2
      refine ae_iload_n (pc := 38) dX7_timesIndexed_38 rfl ?_
      refine ae_ireturn (pc := 39) dX7_timesIndexed_39 rfl ?_
      exact ⟨rfl, rfl⟩
    · have hk2 : k < fA f := by rw [nI_leI (by omega) (by omega)] at c16; omega
      have ih2 := ih hk2
      rw [ixc_s] at ih2
      refine ae_aload_n (pc := 19) dX7_timesIndexed_19 rfl ?_
      refine ae_getR (pc := 20) (k := 1) (c := 7) (j := 8) (q := 5) dX7_timesIndexed_20 rfl rfl (Nat.le_of_ble_eq_true rfl) rfl (Nat.le_of_ble_eq_true rfl) rfl ?_
      refine ae_iload_n (pc := 23) dX7_timesIndexed_23 rfl ?_
      refine ae_iaload (pc := 24) (k := 5) (N := 256) (v := f (293 + k)) _ dX7_timesIndexed_24 (Nat.le_of_ble_eq_true rfl) rfl rfl rfl (by omega) (hg.2.2.2 h1 k hk2) ?_
      refine ae_iload_n (pc := 25) dX7_timesIndexed_25 rfl ?_
      refine ae_icmp_ne (pc := 26) (t := 32) dX7_timesIndexed_26 (by decide) (fun c26 => ?_) (fun c26 => ?_)
      · refine ae_iinc (pc := 32) (v := nI (k + 1)) dX7_timesIndexed_32 rfl (nI_inc k) ?_
        refine ae_goto (pc := 35) (t := 4) dX7_timesIndexed_35 (by decide) ?_
        first | (rw [if_neg c26] at ih2; exact ih2) | (rw [if_pos (Classical.not_not.mp c26)] at ih2; exact ih2)
      · refine ae_iinc (pc := 29) (v := nI (ixc f x k + 1)) dX7_timesIndexed_29 rfl (nI_inc _) ?_
        refine ae_iinc (pc := 32) (v := nI (k + 1)) dX7_timesIndexed_32 rfl (nI_inc k) ?_
        refine ae_goto (pc := 35) (t := 4) dX7_timesIndexed_35 (by decide) ?_
        first | (rw [if_neg c26] at ih2; exact ih2) | (rw [if_pos (Classical.not_not.mp c26)] at ih2; exact ih2)
  · rw [if_neg h1]
    have h0 : f 292 = 0 := hf.2.2.2.2.1.resolve_right h1
    refine ae_iconst (pc := 0) (v := nI 0) dX7_timesIndexed_0 (by decide) ?_
    refine ae_istore_n (pc := 1) dX7_timesIndexed_1 rfl (Nat.le_of_ble_eq_true rfl) ?_
    refine ae_iconst (pc := 2) (v := nI 0) dX7_timesIndexed_2 (by decide) ?_
    refine ae_istore_n (pc := 3) dX7_timesIndexed_3 rfl (Nat.le_of_ble_eq_true rfl) ?_
    refine ae_aload_n (pc := 4) dX7_timesIndexed_4 rfl ?_
    refine ae_getI (pc := 5) (k := 1) (c := 7) (j := 7) (v := f 292) dX7_timesIndexed_5 rfl rfl (Or.inr rfl) (Nat.le_of_ble_eq_true rfl) rfl (Nat.le_of_ble_eq_true rfl) a7 ?_
    refine ae_if_eq (pc := 8) (t := 38) dX7_timesIndexed_8 (by decide) (fun c8 => ?_) (fun c8 => ?_)
    · refine ae_iload_n (pc := 38) dX7_timesIndexed_38 rfl ?_
      refine ae_ireturn (pc := 39) dX7_timesIndexed_39 rfl ?_
      exact ⟨rfl, rfl⟩
    · exact absurd h0 c8
theorem sc_usedEntries (d : Nat) (M : am_M) (f : fT) (hg : AG M f) (hf : wf f) : am_R (d + 3) zX7_usedEntries [.ref 1] M (fun v M' => v = some (.int (nI (usd f (fN f)))) ∧ M' = M) := by
  refine ae_enter (z := zX7_usedEntries) (y := yX7_usedEntries) (cc := cX7_usedEntries) (mL := 3) (rt := some .int) (ci := 7) (st := false) (np := 0) (L := [some (.ref 1), none, none]) rfl (by decide) (Nat.le_of_ble_eq_true rfl) rfl ?_
  obtain ⟨-, -, a3⟩ := AG_w hg hf.1
  have hN := hf.1.2.2.2
  have hA := fA_le hf.1
  refine ae_iconst (pc := 0) (v := nI 0) dX7_usedEntries_0 (by decide) ?_
  refine ae_istore_n (pc := 1) dX7_usedEntries_1 rfl (Nat.le_of_ble_eq_true rfl) ?_
  refine ae_iconst (pc := 2) (v := nI 0) dX7_usedEntries_2 (by decide) ?_
  refine ae_istore_n (pc := 3) dX7_usedEntries_3 rfl (Nat.le_of_ble_eq_true rfl) ?_
  skip
  refine am_down (P := fun k => am_E none (am_R (d + 2)) cX7_usedEntries 7 (some .int) _ (4, [some (.ref 1), some (.int (nI (usd f k))), some (.int (nI k))], [], M)) (fN f) (fun k hk ih => ?_)
  refine ae_iload_n (pc := 4) dX7_usedEntries_4 rfl ?_
  refine ae_aload_n (pc := 5) dX7_usedEntries_5 rfl ?_
  refine ae_getI (pc := 6) (k := 1) (c := 7) (j := 3) (v := nI (fN f)) dX7_usedEntries_6 rfl rfl (Or.inl rfl) (Nat.le_of_ble_eq_true rfl) rfl (Nat.le_of_ble_eq_true rfl) a3 ?_
  refine ae_icmp_ge (pc := 9) (t := 29) dX7_usedEntries_9 (by decide) (fun c9 => ?_) (fun c9 => ?_)
  · have hk2 : k = fN f := by rw [nI_leI (by omega) (by omega)] at c9; omega
    subst hk2
    refine ae_iload_n (pc := 29) dX7_usedEntries_29 rfl ?_
    refine ae_ireturn (pc := 30) dX7_usedEntries_30 rfl ?_
    exact ⟨rfl, rfl⟩
  · have hk2 : k < fN f := by rw [nI_leI (by omega) (by omega)] at c9; omega
    have ih2 := ih hk2
    rw [usd_s] at ih2
    have hle : (if f 292 = 1 then ixc f (nI k) (fA f) else 0) ≤ 256 := by
      split
      · exact Nat.le_trans (ixc_le _ _ _) hA.2
      · omega
    refine ae_aload_n (pc := 12) dX7_usedEntries_12 rfl ?_
    refine ae_iload_n (pc := 13) dX7_usedEntries_13 rfl ?_
    refine ae_pcallV (pc := 14) (z := zX7_timesIndexed) (k := 1) (As := [_]) dX7_usedEntries_14 rfl rfl rfl rfl (Nat.le_of_ble_eq_true rfl) rfl (Nat.le_of_ble_eq_true rfl) (Nat.le_of_ble_eq_true rfl) (sc_timesIndexed d M f hg hf (nI k)) ?_
    refine ae_if_le (pc := 17) (t := 23) dX7_usedEntries_17 (by decide) (fun c17 => ?_) (fun c17 => ?_)
    · rw [show (0 : Int32) = nI 0 from rfl, nI_leI (by omega) (by omega)] at c17
      rw [if_neg (by omega)] at ih2
      refine ae_iinc (pc := 23) (v := nI (k + 1)) dX7_usedEntries_23 rfl (nI_inc k) ?_
      refine ae_goto (pc := 26) (t := 4) dX7_usedEntries_26 (by decide) ?_
      exact ih2
    · rw [show (0 : Int32) = nI 0 from rfl, nI_leI (by omega) (by omega)] at c17
      rw [if_pos (by omega)] at ih2
      refine ae_iinc (pc := 20) (v := nI (usd f k + 1)) dX7_usedEntries_20 rfl (nI_inc _) ?_
      refine ae_iinc (pc := 23) (v := nI (k + 1)) dX7_usedEntries_23 rfl (nI_inc k) ?_
      refine ae_goto (pc := 26) (t := 4) dX7_usedEntries_26 (by decide) ?_
      exact ih2
theorem sc_errorAt (d : Nat) (M : am_M) (f : fT) (hg : AG M f) (hf : wf f) (h1 : f 292 = 1) (p : Nat) (hp : p < fA f) (ho : f (2 + p) ≠ -1) : am_R (d + 2) zX7_errorAt [.ref 1, .int (nI p)] M (fun v M' => v = some (.int (err f p)) ∧ M' = M) := by
  refine ae_enter (z := zX7_errorAt) (y := yX7_errorAt) (cc := cX7_errorAt) (mL := 2) (rt := some .int) (ci := 7) (st := false) (np := 1) (L := [some (.ref 1), some (.int (nI p))]) rfl (by decide) (Nat.le_of_ble_eq_true rfl) rfl ?_
  have hA := fA_le hf.1
  have hN := hf.1.2.2.2
  obtain ⟨i1, i2, i3⟩ := ixN_of hf h1 hp
  have i4 := i3 ho
  have hh := sc_hasEntry d M f hg hf.1 (nI (ixN f p))
  rw [bI_t (inE_of hf.1 i4)] at hh
  have hx : M.1 5 p = nI (ixN f p) := (hg.2.2.2 h1 p hp).trans i1
  refine ae_aload_n (pc := 0) dX7_errorAt_0 rfl ?_
  refine ae_aload_n (pc := 1) dX7_errorAt_1 rfl ?_
  refine ae_getR (pc := 2) (k := 1) (c := 7) (j := 8) (q := 5) dX7_errorAt_2 rfl rfl (Nat.le_of_ble_eq_true rfl) rfl (Nat.le_of_ble_eq_true rfl) rfl ?_
  refine ae_iload_n (pc := 5) dX7_errorAt_5 rfl ?_
  refine ae_iaload (pc := 6) (k := 5) (N := 256) (v := nI (ixN f p)) _ dX7_errorAt_6 (Nat.le_of_ble_eq_true rfl) rfl rfl rfl (by omega) hx ?_
  refine ae_pcallV (pc := 7) (z := zX7_hasEntry) (k := 1) (As := [_]) dX7_errorAt_7 rfl rfl rfl rfl (Nat.le_of_ble_eq_true rfl) rfl (Nat.le_of_ble_eq_true rfl) (Nat.le_of_ble_eq_true rfl) (hh) ?_
  refine ae_if_eq (pc := 10) (t := 37) dX7_errorAt_10 (by decide) (fun c10 => ?_) (fun c10 => ?_)
  · exact absurd c10 (by decide)
  refine ae_aload_n (pc := 13) dX7_errorAt_13 rfl ?_
  refine ae_aload_n (pc := 14) dX7_errorAt_14 rfl ?_
  refine ae_getR (pc := 15) (k := 1) (c := 7) (j := 2) (q := 2) dX7_errorAt_15 rfl rfl (Nat.le_of_ble_eq_true rfl) rfl (Nat.le_of_ble_eq_true rfl) rfl ?_
  refine ae_iload_n (pc := 18) dX7_errorAt_18 rfl ?_
  refine ae_iaload (pc := 19) (k := 2) (N := 256) (v := f (2 + p)) _ dX7_errorAt_19 (Nat.le_of_ble_eq_true rfl) rfl rfl rfl (by omega) (hg.2.1 p hp) ?_
  refine ae_aload_n (pc := 20) dX7_errorAt_20 rfl ?_
  refine ae_getR (pc := 21) (k := 1) (c := 7) (j := 4) (q := 3) dX7_errorAt_21 rfl rfl (Nat.le_of_ble_eq_true rfl) rfl (Nat.le_of_ble_eq_true rfl) rfl ?_
  refine ae_aload_n (pc := 24) dX7_errorAt_24 rfl ?_
  refine ae_getR (pc := 25) (k := 1) (c := 7) (j := 8) (q := 5) dX7_errorAt_25 rfl rfl (Nat.le_of_ble_eq_true rfl) rfl (Nat.le_of_ble_eq_true rfl) rfl ?_
  refine ae_iload_n (pc := 28) dX7_errorAt_28 rfl ?_
  refine ae_iaload (pc := 29) (k := 5) (N := 256) (v := nI (ixN f p)) _ dX7_errorAt_29 (Nat.le_of_ble_eq_true rfl) rfl rfl rfl (by omega) hx ?_
  refine ae_iaload (pc := 30) (k := 3) (N := 16) (v := f (259 + ixN f p)) (ixN f p) dX7_errorAt_30 (Nat.le_of_ble_eq_true rfl) rfl rfl rfl (by omega) ((hg.2.2.1 _ i4).1) ?_
  refine ae_pcallV (pc := 31) (z := zX7_distance) (k := 1) (As := [_, _]) dX7_errorAt_31 rfl rfl rfl rfl (Nat.le_of_ble_eq_true rfl) rfl (Nat.le_of_ble_eq_true rfl) (Nat.le_of_ble_eq_true rfl) (sc_distance d M f hg _ _ ((hf.2.1 p hp).resolve_left ho) (hf.2.2.1 _ i4).1) ?_
  refine ae_goto (pc := 34) (t := 38) dX7_errorAt_34 (by decide) ?_
  refine ae_ireturn (pc := 38) dX7_errorAt_38 rfl ?_
  exact ⟨rfl, rfl⟩
theorem sc_isLockedColor (d : Nat) (M : am_M) (f : fT) (hg : AG M f) (hf : wf f) (c : Int32) : am_R (d + 1) zX7_isLockedColor [.ref 1, .int c] M (fun v M' => v = some (.int (bI (lkc f c (fN f) = true))) ∧ M' = M) := by
  refine ae_enter (z := zX7_isLockedColor) (y := yX7_isLockedColor) (cc := cX7_isLockedColor) (mL := 3) (rt := some .boolean) (ci := 7) (st := false) (np := 1) (L := [some (.ref 1), some (.int c), none]) rfl (by decide) (Nat.le_of_ble_eq_true rfl) rfl ?_
  obtain ⟨-, -, a3⟩ := AG_w hg hf.1
  have hN := hf.1.2.2.2
  refine ae_iconst (pc := 0) (v := nI 0) dX7_isLockedColor_0 (by decide) ?_
  refine ae_istore_n (pc := 1) dX7_isLockedColor_1 rfl (Nat.le_of_ble_eq_true rfl) ?_
  skip
  refine am_down (P := fun k => lkc f c k = false → am_E none (am_R d) cX7_isLockedColor 7 (some .boolean) _ (2, [some (.ref 1), some (.int c), some (.int (nI k))], [], M)) (fN f) (fun k hk ih hz => ?_) rfl
  refine ae_iload_n (pc := 2) dX7_isLockedColor_2 rfl ?_
  refine ae_aload_n (pc := 3) dX7_isLockedColor_3 rfl ?_
  refine ae_getI (pc := 4) (k := 1) (c := 7) (j := 3) (v := nI (fN f)) dX7_isLockedColor_4 rfl rfl (Or.inl rfl) (Nat.le_of_ble_eq_true rfl) rfl (Nat.le_of_ble_eq_true rfl) a3 ?_
  refine ae_icmp_ge (pc := 7) (t := 37) dX7_isLockedColor_7 (by decide) (fun c7 => ?_) (fun c7 => ?_)
  · have hk2 : k = fN f := by rw [nI_leI (by omega) (by omega)] at c7; omega
    subst hk2
    refine ae_iconst (pc := 37) (v := nI 0) dX7_isLockedColor_37 (by decide) ?_
    refine ae_zreturn (pc := 38) dX7_isLockedColor_38 rfl (by decide) ?_
    exact ⟨by rw [bI_f (by rw [hz]; decide)]; rfl, rfl⟩
  · have hk2 : k < fN f := by rw [nI_leI (by omega) (by omega)] at c7; omega
    have h01 := (hf.2.2.1 k hk2).2
    have hno : ¬ (f (275 + k) = 1 ∧ f (259 + k) = c) → lkc f c (k + 1) = false := by
      intro q
      rw [lkc_s, hz]
      simpa using fun a b => q ⟨a, b⟩
    have hyes : f (275 + k) = 1 → f (259 + k) = c → lkc f c (fN f) = true := by
      intro q1 q2
      have : lkc f c (k + 1) = true := by rw [lkc_s, q1, q2]; simp
      have h2 := lkc_stop this (fN f - (k + 1))
      rwa [show k + 1 + (fN f - (k + 1)) = fN f by omega] at h2
    refine ae_aload_n (pc := 10) dX7_isLockedColor_10 rfl ?_
    refine ae_getR (pc := 11) (k := 1) (c := 7) (j := 5) (q := 4) dX7_isLockedColor_11 rfl rfl (Nat.le_of_ble_eq_true rfl) rfl (Nat.le_of_ble_eq_true rfl) rfl ?_
    refine ae_iload_n (pc := 14) dX7_isLockedColor_14 rfl ?_
    refine ae_baload (pc := 15) (k := 4) (N := 16) (v := f (275 + k)) _ dX7_isLockedColor_15 (Nat.le_of_ble_eq_true rfl) rfl rfl rfl (by omega) ((hg.2.2.1 k hk2).2) ?_
    refine ae_if_eq (pc := 16) (t := 31) dX7_isLockedColor_16 (by decide) (fun c16 => ?_) (fun c16 => ?_)
    · refine ae_iinc (pc := 31) (v := nI (k + 1)) dX7_isLockedColor_31 rfl (nI_inc k) ?_
      refine ae_goto (pc := 34) (t := 2) dX7_isLockedColor_34 (by decide) ?_
      first | exact ih hk2 (hno (fun q => absurd (c16.symm.trans q.1) (by decide))) | exact ih hk2 (hno (fun q => c26 q.2))
    · refine ae_aload_n (pc := 19) dX7_isLockedColor_19 rfl ?_
      refine ae_getR (pc := 20) (k := 1) (c := 7) (j := 4) (q := 3) dX7_isLockedColor_20 rfl rfl (Nat.le_of_ble_eq_true rfl) rfl (Nat.le_of_ble_eq_true rfl) rfl ?_
      refine ae_iload_n (pc := 23) dX7_isLockedColor_23 rfl ?_
      refine ae_iaload (pc := 24) (k := 3) (N := 16) (v := f (259 + k)) _ dX7_isLockedColor_24 (Nat.le_of_ble_eq_true rfl) rfl rfl rfl (by omega) ((hg.2.2.1 k hk2).1) ?_
      refine ae_iload_n (pc := 25) dX7_isLockedColor_25 rfl ?_
      refine ae_icmp_ne (pc := 26) (t := 31) dX7_isLockedColor_26 (by decide) (fun c26 => ?_) (fun c26 => ?_)
      · refine ae_iinc (pc := 31) (v := nI (k + 1)) dX7_isLockedColor_31 rfl (nI_inc k) ?_
        refine ae_goto (pc := 34) (t := 2) dX7_isLockedColor_34 (by decide) ?_
        first | exact ih hk2 (hno (fun q => absurd (c16.symm.trans q.1) (by decide))) | exact ih hk2 (hno (fun q => c26 q.2))
      · refine ae_iconst (pc := 29) (v := nI 1) dX7_isLockedColor_29 (by decide) ?_
        refine ae_zreturn (pc := 30) dX7_isLockedColor_30 rfl (by decide) ?_
        exact ⟨by rw [bI_t (hyes (h01.resolve_left c16) (Classical.not_not.mp c26))]; rfl, rfl⟩

