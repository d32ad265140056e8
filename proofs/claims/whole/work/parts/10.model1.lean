/-! the reference: its small methods -/
theorem sm_in (d : Nat) (x a b : Int32) (M : am_M) : am_R (d + 1) zX11_in [.int x, .int a, .int b] M (fun v M' => v = some (.int (bI (a ≤ x ∧ x ≤ b))) ∧ M' = M) := by
  refine ae_enter (z := zX11_in) (y := yX11_in) (cc := cX11_in) (mL := 3) (rt := some .boolean) (ci := 11) (st := true) (np := 3) (L := [some (.int x), some (.int a), some (.int b)]) rfl (by decide) (Nat.le_of_ble_eq_true rfl) rfl ?_
  refine ae_iload_n (pc := 0) dX11_in_0 rfl ?_
  refine ae_iload_n (pc := 1) dX11_in_1 rfl ?_
  refine ae_icmp_lt (pc := 2) (t := 14) dX11_in_2 (by decide) (fun c2 => ?_) (fun c2 => ?_)
  · refine ae_iconst (pc := 14) (v := nI 0) dX11_in_14 (by decide) ?_
    refine ae_zreturn (pc := 15) dX11_in_15 rfl (by decide) ?_
    exact ⟨by first | rw [bI_t (by simp_all [Int32.le_iff_toInt_le, Int32.lt_iff_toInt_lt]; first | done | omega)]; rfl | rw [bI_f (by simp_all [Int32.le_iff_toInt_le, Int32.lt_iff_toInt_lt]; first | done | omega)]; rfl, rfl⟩
  · refine ae_iload_n (pc := 5) dX11_in_5 rfl ?_
    refine ae_iload_n (pc := 6) dX11_in_6 rfl ?_
    refine ae_icmp_gt (pc := 7) (t := 14) dX11_in_7 (by decide) (fun c7 => ?_) (fun c7 => ?_)
    · refine ae_iconst (pc := 14) (v := nI 0) dX11_in_14 (by decide) ?_
      refine ae_zreturn (pc := 15) dX11_in_15 rfl (by decide) ?_
      exact ⟨by first | rw [bI_t (by simp_all [Int32.le_iff_toInt_le, Int32.lt_iff_toInt_lt]; first | done | omega)]; rfl | rw [bI_f (by simp_all [Int32.le_iff_toInt_le, Int32.lt_iff_toInt_lt]; first | done | omega)]; rfl, rfl⟩
    · refine ae_iconst (pc := 10) (v := nI 1) dX11_in_10 (by decide) ?_
      refine ae_goto (pc := 11) (t := 15) dX11_in_11 (by decide) ?_
      refine ae_zreturn (pc := 15) dX11_in_15 rfl (by decide) ?_
      exact ⟨by first | rw [bI_t (by simp_all [Int32.le_iff_toInt_le, Int32.lt_iff_toInt_lt]; first | done | omega)]; rfl | rw [bI_f (by simp_all [Int32.le_iff_toInt_le, Int32.lt_iff_toInt_lt]; first | done | omega)]; rfl, rfl⟩
theorem sm_isColor (d : Nat) (x : Int32) (M : am_M) : am_R (d + 2) zX11_isColor [.int x] M (fun v M' => v = some (.int (bI (0 ≤ x ∧ x ≤ 16777215))) ∧ M' = M) := by
  refine ae_enter (z := zX11_isColor) (y := yX11_isColor) (cc := cX11_isColor) (mL := 1) (rt := some .boolean) (ci := 11) (st := true) (np := 1) (L := [some (.int x)]) rfl (by decide) (Nat.le_of_ble_eq_true rfl) rfl ?_
  refine ae_iload_n (pc := 0) dX11_isColor_0 rfl ?_
  refine ae_iconst (pc := 1) (v := nI 0) dX11_isColor_1 (by decide) ?_
  refine ae_ldc (pc := 2) dX11_isColor_2 rfl rfl ?_
  refine ae_pcallS (pc := 4) (z := zX11_in) (As := [_, _, _]) dX11_isColor_4 rfl rfl rfl rfl (Nat.le_of_ble_eq_true rfl) (sm_in d _ _ _ _) ?_
  refine ae_zreturn (pc := 7) dX11_isColor_7 rfl (bI_01 _) ?_
  exact ⟨rfl, rfl⟩
theorem sm_channel (d : Nat) (x : Int32) (k : Nat) (M : am_M) : am_R (d + 1) zX11_channel [.int x, .int (nI k)] M (fun v M' => v = some (.int (cha x k)) ∧ M' = M) := by
  refine ae_enter (z := zX11_channel) (y := yX11_channel) (cc := cX11_channel) (mL := 2) (rt := some .int) (ci := 11) (st := true) (np := 2) (L := [some (.int x), some (.int (nI k))]) rfl (by decide) (Nat.le_of_ble_eq_true rfl) rfl ?_
  refine ae_iload_n (pc := 0) dX11_channel_0 rfl ?_
  refine ae_bipush (pc := 1) (v := nI 16) dX11_channel_1 (by decide) ?_
  refine ae_bipush (pc := 3) (v := nI 8) dX11_channel_3 (by decide) ?_
  refine ae_iload_n (pc := 5) dX11_channel_5 rfl ?_
  refine ae_imul (pc := 6) (v := nI 8 * nI k) dX11_channel_6 rfl ?_
  refine ae_isub (pc := 7) dX11_channel_7 rfl ?_
  refine ae_ishr (pc := 8) dX11_channel_8 rfl ?_
  refine ae_sipush (pc := 9) (v := nI 255) dX11_channel_9 (by decide) ?_
  refine ae_iand (pc := 12) dX11_channel_12 rfl ?_
  refine ae_ireturn (pc := 13) dX11_channel_13 rfl ?_
  exact ⟨rfl, rfl⟩
theorem sm_pixels (d : Nat) (M : am_M) (hf : wf0 (M.1 34)) : am_R (d + 1) zX11_pixels [.ref 33] M (fun v M' => v = some (.int (nI (fA (M.1 34)))) ∧ M' = M) := by
  refine ae_enter (z := zX11_pixels) (y := yX11_pixels) (cc := cX11_pixels) (mL := 1) (rt := some .int) (ci := 11) (st := false) (np := 0) (L := [some (.ref 33)]) rfl (by decide) (Nat.le_of_ble_eq_true rfl) rfl ?_
  refine ae_aload_n (pc := 0) dX11_pixels_0 rfl ?_
  refine ae_getR (pc := 1) (k := 33) (c := 11) (j := 0) (q := 34) dX11_pixels_1 rfl rfl (Nat.le_of_ble_eq_true rfl) rfl (Nat.le_of_ble_eq_true rfl) rfl ?_
  refine ae_iconst (pc := 4) (v := nI 0) dX11_pixels_4 (by decide) ?_
  refine ae_iaload (pc := 5) (k := 34) (N := 549) _ dX11_pixels_5 (Nat.le_of_ble_eq_true rfl) rfl rfl rfl (by omega) rfl ?_
  refine ae_aload_n (pc := 6) dX11_pixels_6 rfl ?_
  refine ae_getR (pc := 7) (k := 33) (c := 11) (j := 0) (q := 34) dX11_pixels_7 rfl rfl (Nat.le_of_ble_eq_true rfl) rfl (Nat.le_of_ble_eq_true rfl) rfl ?_
  refine ae_iconst (pc := 10) (v := nI 1) dX11_pixels_10 (by decide) ?_
  refine ae_iaload (pc := 11) (k := 34) (N := 549) _ dX11_pixels_11 (Nat.le_of_ble_eq_true rfl) rfl rfl rfl (by omega) rfl ?_
  refine ae_imul (pc := 12) (v := nI (fA (M.1 34))) dX11_pixels_12 (by rw [hf.1.1, hf.2.1.1, nI_mul]; rfl) ?_
  refine ae_ireturn (pc := 13) dX11_pixels_13 rfl ?_
  exact ⟨rfl, rfl⟩
theorem sm_isOpaque (d : Nat) (M : am_M) (p : Nat) (hp : p < 256) : am_R (d + 1) zX11_isOpaque [.ref 33, .int (nI p)] M (fun v M' => v = some (.int (bI (M.1 34 (2 + p) ≠ -1))) ∧ M' = M) := by
  refine ae_enter (z := zX11_isOpaque) (y := yX11_isOpaque) (cc := cX11_isOpaque) (mL := 2) (rt := some .boolean) (ci := 11) (st := false) (np := 1) (L := [some (.ref 33), some (.int (nI p))]) rfl (by decide) (Nat.le_of_ble_eq_true rfl) rfl ?_
  refine ae_aload_n (pc := 0) dX11_isOpaque_0 rfl ?_
  refine ae_getR (pc := 1) (k := 33) (c := 11) (j := 0) (q := 34) dX11_isOpaque_1 rfl rfl (Nat.le_of_ble_eq_true rfl) rfl (Nat.le_of_ble_eq_true rfl) rfl ?_
  refine ae_iconst (pc := 4) (v := nI 2) dX11_isOpaque_4 (by decide) ?_
  refine ae_iload_n (pc := 5) dX11_isOpaque_5 rfl ?_
  refine ae_iadd (pc := 6) dX11_isOpaque_6 (nI_add _ _) ?_
  refine ae_iaload (pc := 7) (k := 34) (N := 549) _ dX11_isOpaque_7 (Nat.le_of_ble_eq_true rfl) rfl rfl rfl (by omega) rfl ?_
  refine ae_iconst (pc := 8) (v := (-1)) dX11_isOpaque_8 (by decide) ?_
  refine ae_icmp_eq (pc := 9) (t := 16) dX11_isOpaque_9 (by decide) (fun c9 => ?_) (fun c9 => ?_)
  · refine ae_iconst (pc := 16) (v := nI 0) dX11_isOpaque_16 (by decide) ?_
    refine ae_zreturn (pc := 17) dX11_isOpaque_17 rfl (by decide) ?_
    exact ⟨by simp [bI, c9, nI], rfl⟩
  · refine ae_iconst (pc := 12) (v := nI 1) dX11_isOpaque_12 (by decide) ?_
    refine ae_goto (pc := 13) (t := 17) dX11_isOpaque_13 (by decide) ?_
    refine ae_zreturn (pc := 17) dX11_isOpaque_17 rfl (by decide) ?_
    exact ⟨by simp [bI, c9, nI], rfl⟩
theorem sm_opaque (d : Nat) (M : am_M) (hf : wf0 (M.1 34)) : am_R (d + 2) zX11_opaque [.ref 33] M (fun v M' => v = some (.int (nI (opq (M.1 34) (fA (M.1 34))))) ∧ M' = M) := by
  refine ae_enter (z := zX11_opaque) (y := yX11_opaque) (cc := cX11_opaque) (mL := 3) (rt := some .int) (ci := 11) (st := false) (np := 0) (L := [some (.ref 33), none, none]) rfl (by decide) (Nat.le_of_ble_eq_true rfl) rfl ?_
  have hA := fA_le hf
  have h31 : fA (M.1 34) < 2 ^ 31 := by omega
  refine ae_iconst (pc := 0) (v := nI 0) dX11_opaque_0 (by decide) ?_
  refine ae_istore_n (pc := 1) dX11_opaque_1 rfl (Nat.le_of_ble_eq_true rfl) ?_
  refine ae_iconst (pc := 2) (v := nI 0) dX11_opaque_2 (by decide) ?_
  refine ae_istore_n (pc := 3) dX11_opaque_3 rfl (Nat.le_of_ble_eq_true rfl) ?_
  skip
  refine am_down (P := fun k => am_E none (am_R (d + 1)) cX11_opaque 11 (some .int) _ (4, [some (.ref 33), some (.int (nI (opq (M.1 34) k))), some (.int (nI k))], [], M)) (fA (M.1 34)) (fun k hk ih => ?_)
  refine ae_iload_n (pc := 4) dX11_opaque_4 rfl ?_
  refine ae_aload_n (pc := 5) dX11_opaque_5 rfl ?_
  refine ae_pcallV (pc := 6) (z := zX11_pixels) (k := 33) (As := []) dX11_opaque_6 rfl rfl rfl rfl (Nat.le_of_ble_eq_true rfl) rfl (Nat.le_of_ble_eq_true rfl) (Nat.le_of_ble_eq_true rfl) (sm_pixels d M hf) ?_
  refine ae_icmp_ge (pc := 9) (t := 34) dX11_opaque_9 (by decide) (fun c9 => ?_) (fun c9 => ?_)
  · have hk2 : k = fA (M.1 34) := by rw [nI_leI h31 (by omega)] at c9; omega
    refine ae_iload_n (pc := 34) dX11_opaque_34 rfl ?_
    refine ae_ireturn (pc := 35) dX11_opaque_35 rfl ?_
    exact ⟨by rw [hk2], rfl⟩
  · have hk2 : k < fA (M.1 34) := by rw [nI_leI h31 (by omega)] at c9; omega
    refine ae_iload_n (pc := 12) dX11_opaque_12 rfl ?_
    refine ae_aload_n (pc := 13) dX11_opaque_13 rfl ?_
    refine ae_iload_n (pc := 14) dX11_opaque_14 rfl ?_
    refine ae_pcallV (pc := 15) (z := zX11_isOpaque) (k := 33) (As := [_]) dX11_opaque_15 rfl rfl rfl rfl (Nat.le_of_ble_eq_true rfl) rfl (Nat.le_of_ble_eq_true rfl) (Nat.le_of_ble_eq_true rfl) (sm_isOpaque d M k (by omega)) ?_
    refine ae_if_eq (pc := 18) (t := 25) dX11_opaque_18 (by decide) (fun c18 => ?_) (fun c18 => ?_)
    · refine ae_iconst (pc := 25) (v := nI 0) dX11_opaque_25 (by decide) ?_
      refine ae_iadd (pc := 26) dX11_opaque_26 (nI_add _ _) ?_
      refine ae_istore_n (pc := 27) (v := nI (opq (M.1 34) (k + 1))) dX11_opaque_27 (congrArg nI (by simp only [bI_eq0, bI_ne0] at c18; simp_all [opq])) (Nat.le_of_ble_eq_true rfl) ?_
      refine ae_iinc (pc := 28) (v := nI (k + 1)) dX11_opaque_28 rfl (nI_inc k) ?_
      refine ae_goto (pc := 31) (t := 4) dX11_opaque_31 (by decide) ?_
      exact ih hk2
    · refine ae_iconst (pc := 21) (v := nI 1) dX11_opaque_21 (by decide) ?_
      refine ae_goto (pc := 22) (t := 26) dX11_opaque_22 (by decide) ?_
      refine ae_iadd (pc := 26) dX11_opaque_26 (nI_add _ _) ?_
      refine ae_istore_n (pc := 27) (v := nI (opq (M.1 34) (k + 1))) dX11_opaque_27 (congrArg nI (by simp only [bI_eq0, bI_ne0] at c18; simp_all [opq])) (Nat.le_of_ble_eq_true rfl) ?_
      refine ae_iinc (pc := 28) (v := nI (k + 1)) dX11_opaque_28 rfl (nI_inc k) ?_
      refine ae_goto (pc := 31) (t := 4) dX11_opaque_31 (by decide) ?_
      exact ih hk2
theorem sm_limited (d : Nat) (x : Int32) (M : am_M) : am_R (d + 1) zX11_limited [.int x] M (fun v M' => v = some (.int (lim x)) ∧ M' = M) := by
  refine ae_enter (z := zX11_limited) (y := yX11_limited) (cc := cX11_limited) (mL := 1) (rt := some .int) (ci := 11) (st := true) (np := 1) (L := [some (.int x)]) rfl (by decide) (Nat.le_of_ble_eq_true rfl) rfl ?_
  refine ae_iload_n (pc := 0) dX11_limited_0 rfl ?_
  refine ae_if_ge (pc := 1) (t := 8) dX11_limited_1 (by decide) (fun c1 => ?_) (fun c1 => ?_)
  · refine ae_iload_n (pc := 8) dX11_limited_8 rfl ?_
    refine ae_sipush (pc := 9) (v := nI 255) dX11_limited_9 (by decide) ?_
    refine ae_icmp_le (pc := 12) (t := 21) dX11_limited_12 (by decide) (fun c12 => ?_) (fun c12 => ?_)
    · refine ae_iload_n (pc := 21) dX11_limited_21 rfl ?_
      refine ae_ireturn (pc := 22) dX11_limited_22 rfl ?_
      first | exact ⟨by rw [lim_lo c1]; rfl, rfl⟩ | exact ⟨by rw [lim_mid c1 c12], rfl⟩ | exact ⟨by rw [lim_hi c1 c12], rfl⟩
    · refine ae_sipush (pc := 15) (v := nI 255) dX11_limited_15 (by decide) ?_
      refine ae_goto (pc := 18) (t := 22) dX11_limited_18 (by decide) ?_
      refine ae_ireturn (pc := 22) dX11_limited_22 rfl ?_
      first | exact ⟨by rw [lim_lo c1]; rfl, rfl⟩ | exact ⟨by rw [lim_mid c1 c12], rfl⟩ | exact ⟨by rw [lim_hi c1 c12], rfl⟩
  · refine ae_iconst (pc := 4) (v := nI 0) dX11_limited_4 (by decide) ?_
    refine ae_goto (pc := 5) (t := 22) dX11_limited_5 (by decide) ?_
    refine ae_ireturn (pc := 22) dX11_limited_22 rfl ?_
    first | exact ⟨by rw [lim_lo c1]; rfl, rfl⟩ | exact ⟨by rw [lim_mid c1 c12], rfl⟩ | exact ⟨by rw [lim_hi c1 c12], rfl⟩
theorem sm_isPixel (d : Nat) (M : am_M) (x y : Int32) : am_R (d + 2) zX11_isPixel [.ref 33, .int x, .int y] M (fun v M' => v = some (.int (bI (inP (M.1 34) x y))) ∧ M' = M) := by
  refine ae_enter (z := zX11_isPixel) (y := yX11_isPixel) (cc := cX11_isPixel) (mL := 3) (rt := some .boolean) (ci := 11) (st := false) (np := 2) (L := [some (.ref 33), some (.int x), some (.int y)]) rfl (by decide) (Nat.le_of_ble_eq_true rfl) rfl ?_
  refine ae_iload_n (pc := 0) dX11_isPixel_0 rfl ?_
  refine ae_iconst (pc := 1) (v := nI 0) dX11_isPixel_1 (by decide) ?_
  refine ae_aload_n (pc := 2) dX11_isPixel_2 rfl ?_
  refine ae_getR (pc := 3) (k := 33) (c := 11) (j := 0) (q := 34) dX11_isPixel_3 rfl rfl (Nat.le_of_ble_eq_true rfl) rfl (Nat.le_of_ble_eq_true rfl) rfl ?_
  refine ae_iconst (pc := 6) (v := nI 0) dX11_isPixel_6 (by decide) ?_
  refine ae_iaload (pc := 7) (k := 34) (N := 549) _ dX11_isPixel_7 (Nat.le_of_ble_eq_true rfl) rfl rfl rfl (by omega) rfl ?_
  refine ae_iconst (pc := 8) (v := nI 1) dX11_isPixel_8 (by decide) ?_
  refine ae_isub (pc := 9) dX11_isPixel_9 rfl ?_
  refine ae_pcallS (pc := 10) (z := zX11_in) (As := [_, _, _]) dX11_isPixel_10 rfl rfl rfl rfl (Nat.le_of_ble_eq_true rfl) (sm_in d _ _ _ _) ?_
  refine ae_if_eq (pc := 13) (t := 36) dX11_isPixel_13 (by decide) (fun c13 => ?_) (fun c13 => ?_)
  · refine ae_iconst (pc := 36) (v := nI 0) dX11_isPixel_36 (by decide) ?_
    refine ae_zreturn (pc := 37) dX11_isPixel_37 rfl (by decide) ?_
    first | exact ⟨by rw [bI_t (p := inP (M.1 34) x y) ⟨bI_ne0.mp c13, bI_ne0.mp c29⟩]; rfl, rfl⟩ | exact ⟨by rw [bI_f (p := inP (M.1 34) x y) (fun q => bI_eq0.mp c29 q.2)]; rfl, rfl⟩ | exact ⟨by rw [bI_f (p := inP (M.1 34) x y) (fun q => bI_eq0.mp c13 q.1)]; rfl, rfl⟩
  · refine ae_iload_n (pc := 16) dX11_isPixel_16 rfl ?_
    refine ae_iconst (pc := 17) (v := nI 0) dX11_isPixel_17 (by decide) ?_
    refine ae_aload_n (pc := 18) dX11_isPixel_18 rfl ?_
    refine ae_getR (pc := 19) (k := 33) (c := 11) (j := 0) (q := 34) dX11_isPixel_19 rfl rfl (Nat.le_of_ble_eq_true rfl) rfl (Nat.le_of_ble_eq_true rfl) rfl ?_
    refine ae_iconst (pc := 22) (v := nI 1) dX11_isPixel_22 (by decide) ?_
    refine ae_iaload (pc := 23) (k := 34) (N := 549) _ dX11_isPixel_23 (Nat.le_of_ble_eq_true rfl) rfl rfl rfl (by omega) rfl ?_
    refine ae_iconst (pc := 24) (v := nI 1) dX11_isPixel_24 (by decide) ?_
    refine ae_isub (pc := 25) dX11_isPixel_25 rfl ?_
    refine ae_pcallS (pc := 26) (z := zX11_in) (As := [_, _, _]) dX11_isPixel_26 rfl rfl rfl rfl (Nat.le_of_ble_eq_true rfl) (sm_in d _ _ _ _) ?_
    refine ae_if_eq (pc := 29) (t := 36) dX11_isPixel_29 (by decide) (fun c29 => ?_) (fun c29 => ?_)
    · refine ae_iconst (pc := 36) (v := nI 0) dX11_isPixel_36 (by decide) ?_
      refine ae_zreturn (pc := 37) dX11_isPixel_37 rfl (by decide) ?_
      first | exact ⟨by rw [bI_t (p := inP (M.1 34) x y) ⟨bI_ne0.mp c13, bI_ne0.mp c29⟩]; rfl, rfl⟩ | exact ⟨by rw [bI_f (p := inP (M.1 34) x y) (fun q => bI_eq0.mp c29 q.2)]; rfl, rfl⟩ | exact ⟨by rw [bI_f (p := inP (M.1 34) x y) (fun q => bI_eq0.mp c13 q.1)]; rfl, rfl⟩
    · refine ae_iconst (pc := 32) (v := nI 1) dX11_isPixel_32 (by decide) ?_
      refine ae_goto (pc := 33) (t := 37) dX11_isPixel_33 (by decide) ?_
      refine ae_zreturn (pc := 37) dX11_isPixel_37 rfl (by decide) ?_
      first | exact ⟨by rw [bI_t (p := inP (M.1 34) x y) ⟨bI_ne0.mp c13, bI_ne0.mp c29⟩]; rfl, rfl⟩ | exact ⟨by rw [bI_f (p := inP (M.1 34) x y) (fun q => bI_eq0.mp c29 q.2)]; rfl, rfl⟩ | exact ⟨by rw [bI_f (p := inP (M.1 34) x y) (fun q => bI_eq0.mp c13 q.1)]; rfl, rfl⟩
theorem sm_isEntry (d : Nat) (M : am_M) (x : Int32) : am_R (d + 2) zX11_isEntry [.ref 33, .int x] M (fun v M' => v = some (.int (bI (inE (M.1 34) x))) ∧ M' = M) := by
  refine ae_enter (z := zX11_isEntry) (y := yX11_isEntry) (cc := cX11_isEntry) (mL := 2) (rt := some .boolean) (ci := 11) (st := false) (np := 1) (L := [some (.ref 33), some (.int x)]) rfl (by decide) (Nat.le_of_ble_eq_true rfl) rfl ?_
  refine ae_iload_n (pc := 0) dX11_isEntry_0 rfl ?_
  refine ae_iconst (pc := 1) (v := nI 0) dX11_isEntry_1 (by decide) ?_
  refine ae_aload_n (pc := 2) dX11_isEntry_2 rfl ?_
  refine ae_getR (pc := 3) (k := 33) (c := 11) (j := 0) (q := 34) dX11_isEntry_3 rfl rfl (Nat.le_of_ble_eq_true rfl) rfl (Nat.le_of_ble_eq_true rfl) rfl ?_
  refine ae_sipush (pc := 6) (v := nI 258) dX11_isEntry_6 (by decide) ?_
  refine ae_iaload (pc := 9) (k := 34) (N := 549) _ dX11_isEntry_9 (Nat.le_of_ble_eq_true rfl) rfl rfl rfl (by omega) rfl ?_
  refine ae_iconst (pc := 10) (v := nI 1) dX11_isEntry_10 (by decide) ?_
  refine ae_isub (pc := 11) dX11_isEntry_11 rfl ?_
  refine ae_pcallS (pc := 12) (z := zX11_in) (As := [_, _, _]) dX11_isEntry_12 rfl rfl rfl rfl (Nat.le_of_ble_eq_true rfl) (sm_in d _ _ _ _) ?_
  refine ae_zreturn (pc := 15) dX11_isEntry_15 rfl (bI_01 _) ?_
  exact ⟨rfl, rfl⟩
theorem sm_isLocked (d : Nat) (M : am_M) (e : Nat) (he : e < 16) : am_R (d + 1) zX11_isLocked [.ref 33, .int (nI e)] M (fun v M' => v = some (.int (bI (M.1 34 (275 + e) = 1))) ∧ M' = M) := by
  refine ae_enter (z := zX11_isLocked) (y := yX11_isLocked) (cc := cX11_isLocked) (mL := 2) (rt := some .boolean) (ci := 11) (st := false) (np := 1) (L := [some (.ref 33), some (.int (nI e))]) rfl (by decide) (Nat.le_of_ble_eq_true rfl) rfl ?_
  refine ae_aload_n (pc := 0) dX11_isLocked_0 rfl ?_
  refine ae_getR (pc := 1) (k := 33) (c := 11) (j := 0) (q := 34) dX11_isLocked_1 rfl rfl (Nat.le_of_ble_eq_true rfl) rfl (Nat.le_of_ble_eq_true rfl) rfl ?_
  refine ae_sipush (pc := 4) (v := nI 275) dX11_isLocked_4 (by decide) ?_
  refine ae_iload_n (pc := 7) dX11_isLocked_7 rfl ?_
  refine ae_iadd (pc := 8) dX11_isLocked_8 (nI_add _ _) ?_
  refine ae_iaload (pc := 9) (k := 34) (N := 549) _ dX11_isLocked_9 (Nat.le_of_ble_eq_true rfl) rfl rfl rfl (by omega) rfl ?_
  refine ae_iconst (pc := 10) (v := nI 1) dX11_isLocked_10 (by decide) ?_
  refine ae_icmp_ne (pc := 11) (t := 18) dX11_isLocked_11 (by decide) (fun c11 => ?_) (fun c11 => ?_)
  · refine ae_iconst (pc := 18) (v := nI 0) dX11_isLocked_18 (by decide) ?_
    refine ae_zreturn (pc := 19) dX11_isLocked_19 rfl (by decide) ?_
    exact ⟨by simp_all [bI, nI], rfl⟩
  · refine ae_iconst (pc := 14) (v := nI 1) dX11_isLocked_14 (by decide) ?_
    refine ae_goto (pc := 15) (t := 19) dX11_isLocked_15 (by decide) ?_
    refine ae_zreturn (pc := 19) dX11_isLocked_19 rfl (by decide) ?_
    exact ⟨by simp_all [bI, nI], rfl⟩
theorem sm_distance (d : Nat) (M : am_M) (a b : Int32) : am_R (d + 2) zX11_distance [.ref 33, .int a, .int b] M (fun v M' => v = some (.int (dst (M.1 34 291) a b)) ∧ M' = M) := by
  refine ae_enter (z := zX11_distance) (y := yX11_distance) (cc := cX11_distance) (mL := 6) (rt := some .int) (ci := 11) (st := false) (np := 2) (L := [some (.ref 33), some (.int a), some (.int b), none, none, none]) rfl (by decide) (Nat.le_of_ble_eq_true rfl) rfl ?_
  refine ae_iload_n (pc := 0) dX11_distance_0 rfl ?_
  refine ae_iconst (pc := 1) (v := nI 0) dX11_distance_1 (by decide) ?_
  refine ae_pcallS (pc := 2) (z := zX11_channel) (As := [_, _]) dX11_distance_2 rfl rfl rfl rfl (Nat.le_of_ble_eq_true rfl) (sm_channel d _ _ _) ?_
  refine ae_iload_n (pc := 5) dX11_distance_5 rfl ?_
  refine ae_iconst (pc := 6) (v := nI 0) dX11_distance_6 (by decide) ?_
  refine ae_pcallS (pc := 7) (z := zX11_channel) (As := [_, _]) dX11_distance_7 rfl rfl rfl rfl (Nat.le_of_ble_eq_true rfl) (sm_channel d _ _ _) ?_
  refine ae_isub (pc := 10) dX11_distance_10 rfl ?_
  refine ae_istore_n (pc := 11) dX11_distance_11 rfl (Nat.le_of_ble_eq_true rfl) ?_
  refine ae_iload_n (pc := 12) dX11_distance_12 rfl ?_
  refine ae_iconst (pc := 13) (v := nI 1) dX11_distance_13 (by decide) ?_
  refine ae_pcallS (pc := 14) (z := zX11_channel) (As := [_, _]) dX11_distance_14 rfl rfl rfl rfl (Nat.le_of_ble_eq_true rfl) (sm_channel d _ _ _) ?_
  refine ae_iload_n (pc := 17) dX11_distance_17 rfl ?_
  refine ae_iconst (pc := 18) (v := nI 1) dX11_distance_18 (by decide) ?_
  refine ae_pcallS (pc := 19) (z := zX11_channel) (As := [_, _]) dX11_distance_19 rfl rfl rfl rfl (Nat.le_of_ble_eq_true rfl) (sm_channel d _ _ _) ?_
  refine ae_isub (pc := 22) dX11_distance_22 rfl ?_
  refine ae_istore (pc := 23) dX11_distance_23 rfl (Nat.le_of_ble_eq_true rfl) ?_
  refine ae_iload_n (pc := 25) dX11_distance_25 rfl ?_
  refine ae_iconst (pc := 26) (v := nI 2) dX11_distance_26 (by decide) ?_
  refine ae_pcallS (pc := 27) (z := zX11_channel) (As := [_, _]) dX11_distance_27 rfl rfl rfl rfl (Nat.le_of_ble_eq_true rfl) (sm_channel d _ _ _) ?_
  refine ae_iload_n (pc := 30) dX11_distance_30 rfl ?_
  refine ae_iconst (pc := 31) (v := nI 2) dX11_distance_31 (by decide) ?_
  refine ae_pcallS (pc := 32) (z := zX11_channel) (As := [_, _]) dX11_distance_32 rfl rfl rfl rfl (Nat.le_of_ble_eq_true rfl) (sm_channel d _ _ _) ?_
  refine ae_isub (pc := 35) dX11_distance_35 rfl ?_
  refine ae_istore (pc := 36) dX11_distance_36 rfl (Nat.le_of_ble_eq_true rfl) ?_
  refine ae_aload_n (pc := 38) dX11_distance_38 rfl ?_
  refine ae_getR (pc := 39) (k := 33) (c := 11) (j := 0) (q := 34) dX11_distance_39 rfl rfl (Nat.le_of_ble_eq_true rfl) rfl (Nat.le_of_ble_eq_true rfl) rfl ?_
  refine ae_sipush (pc := 42) (v := nI 291) dX11_distance_42 (by decide) ?_
  refine ae_iaload (pc := 45) (k := 34) (N := 549) _ dX11_distance_45 (Nat.le_of_ble_eq_true rfl) rfl rfl rfl (by omega) rfl ?_
  refine ae_if_ne (pc := 46) (t := 67) dX11_distance_46 (by decide) (fun c46 => ?_) (fun c46 => ?_)
  · refine ae_iconst (pc := 67) (v := nI 2) dX11_distance_67 (by decide) ?_
    refine ae_iload_n (pc := 68) dX11_distance_68 rfl ?_
    refine ae_imul (pc := 69) dX11_distance_69 rfl ?_
    refine ae_iload_n (pc := 70) dX11_distance_70 rfl ?_
    refine ae_imul (pc := 71) dX11_distance_71 rfl ?_
    refine ae_iconst (pc := 72) (v := nI 4) dX11_distance_72 (by decide) ?_
    refine ae_iload (pc := 73) dX11_distance_73 rfl ?_
    refine ae_imul (pc := 75) dX11_distance_75 rfl ?_
    refine ae_iload (pc := 76) dX11_distance_76 rfl ?_
    refine ae_imul (pc := 78) dX11_distance_78 rfl ?_
    refine ae_iadd (pc := 79) dX11_distance_79 rfl ?_
    refine ae_iconst (pc := 80) (v := nI 3) dX11_distance_80 (by decide) ?_
    refine ae_iload (pc := 81) dX11_distance_81 rfl ?_
    refine ae_imul (pc := 83) dX11_distance_83 rfl ?_
    refine ae_iload (pc := 84) dX11_distance_84 rfl ?_
    refine ae_imul (pc := 86) dX11_distance_86 rfl ?_
    refine ae_iadd (pc := 87) dX11_distance_87 rfl ?_
    refine ae_ireturn (pc := 88) dX11_distance_88 rfl ?_
    exact ⟨by unfold dst; first | rw [if_pos (by simpa using c46)] | rw [if_neg (by simpa using c46)], rfl⟩
  · refine ae_iload_n (pc := 49) dX11_distance_49 rfl ?_
    refine ae_iload_n (pc := 50) dX11_distance_50 rfl ?_
    refine ae_imul (pc := 51) dX11_distance_51 rfl ?_
    refine ae_iload (pc := 52) dX11_distance_52 rfl ?_
    refine ae_iload (pc := 54) dX11_distance_54 rfl ?_
    refine ae_imul (pc := 56) dX11_distance_56 rfl ?_
    refine ae_iadd (pc := 57) dX11_distance_57 rfl ?_
    refine ae_iload (pc := 58) dX11_distance_58 rfl ?_
    refine ae_iload (pc := 60) dX11_distance_60 rfl ?_
    refine ae_imul (pc := 62) dX11_distance_62 rfl ?_
    refine ae_iadd (pc := 63) dX11_distance_63 rfl ?_
    refine ae_goto (pc := 64) (t := 88) dX11_distance_64 (by decide) ?_
    refine ae_ireturn (pc := 88) dX11_distance_88 rfl ?_
    exact ⟨by unfold dst; first | rw [if_pos (by simpa using c46)] | rw [if_neg (by simpa using c46)], rfl⟩
theorem sm_nearestBut (d : Nat) (M : am_M) (hf : wf0 (M.1 34)) (c but : Int32) : am_R (d + 3) zX11_nearestBut [.ref 33, .int c, .int but] M (fun v M' => v = some (.int (oI (nbt (M.1 34) c but (fN (M.1 34))))) ∧ M' = M) := by
  refine ae_enter (z := zX11_nearestBut) (y := yX11_nearestBut) (cc := cX11_nearestBut) (mL := 6) (rt := some .int) (ci := 11) (st := false) (np := 2) (L := [some (.ref 33), some (.int c), some (.int but), none, none, none]) rfl (by decide) (Nat.le_of_ble_eq_true rfl) rfl ?_
  obtain ⟨hn1, hn2⟩ := hf.2.2
  have h31 : fN (M.1 34) < 2 ^ 31 := by omega
  refine ae_iconst (pc := 0) (v := (-1)) dX11_nearestBut_0 (by decide) ?_
  refine ae_istore_n (pc := 1) dX11_nearestBut_1 rfl (Nat.le_of_ble_eq_true rfl) ?_
  refine ae_iconst (pc := 2) (v := nI 0) dX11_nearestBut_2 (by decide) ?_
  refine ae_istore (pc := 3) dX11_nearestBut_3 rfl (Nat.le_of_ble_eq_true rfl) ?_
  skip
  refine am_down (P := fun k => am_E none (am_R (d + 2)) cX11_nearestBut 11 (some .int) _ (5, [some (.ref 33), some (.int c), some (.int but), some (.int (oI (nbt (M.1 34) c but k))), some (.int (nI k)), none], [], M)) (fN (M.1 34)) (fun k hk ih => ?_)
  refine ae_iload (pc := 5) dX11_nearestBut_5 rfl ?_
  refine ae_aload_n (pc := 7) dX11_nearestBut_7 rfl ?_
  refine ae_getR (pc := 8) (k := 33) (c := 11) (j := 0) (q := 34) dX11_nearestBut_8 rfl rfl (Nat.le_of_ble_eq_true rfl) rfl (Nat.le_of_ble_eq_true rfl) rfl ?_
  refine ae_sipush (pc := 11) (v := nI 258) dX11_nearestBut_11 (by decide) ?_
  refine ae_iaload (pc := 14) (k := 34) (N := 549) (v := nI (fN (M.1 34))) _ dX11_nearestBut_14 (Nat.le_of_ble_eq_true rfl) rfl rfl rfl (by omega) hn1 ?_
  refine ae_icmp_ge (pc := 15) (t := 88) dX11_nearestBut_15 (by decide) (fun c15 => ?_) (fun c15 => ?_)
  · have hk2 : k = fN (M.1 34) := by rw [nI_leI h31 (by omega)] at c15; omega
    refine ae_iload_n (pc := 88) dX11_nearestBut_88 rfl ?_
    refine ae_ireturn (pc := 89) dX11_nearestBut_89 rfl ?_
    exact ⟨by rw [hk2], rfl⟩
  · have hk2 : k < fN (M.1 34) := by rw [nI_leI h31 (by omega)] at c15; omega
    cases hb : nbt (M.1 34) c but k with
    | none =>
      refine ae_iload (pc := 18) dX11_nearestBut_18 rfl ?_
      refine ae_iload_n (pc := 20) dX11_nearestBut_20 rfl ?_
      refine ae_icmp_eq (pc := 21) (t := 67) dX11_nearestBut_21 (by decide) (fun c21 => ?_) (fun c21 => ?_)
      · refine ae_iconst (pc := 67) (v := nI 0) dX11_nearestBut_67 (by decide) ?_
        refine ae_istore (pc := 68) dX11_nearestBut_68 rfl (Nat.le_of_ble_eq_true rfl) ?_
        refine ae_iload (pc := 70) dX11_nearestBut_70 rfl ?_
        refine ae_if_eq (pc := 72) (t := 80) dX11_nearestBut_72 (by decide) (fun _ => ?_) (fun q => absurd (by decide) q)
        refine ae_iload_n (pc := 80) dX11_nearestBut_80 rfl ?_
        refine ae_istore_n (pc := 81) (v := oI (nbt (M.1 34) c but (k + 1))) dX11_nearestBut_81 (by rw [nbt, hb]; first | rw [if_pos c21] | (rw [if_neg c21]; rfl)) (Nat.le_of_ble_eq_true rfl) ?_
        refine ae_iinc (pc := 82) (v := nI (k + 1)) dX11_nearestBut_82 rfl (nI_inc k) ?_
        refine ae_goto (pc := 85) (t := 5) dX11_nearestBut_85 (by decide) ?_
        exact ae_forget [5] rfl (ih hk2)
      · refine ae_iload_n (pc := 24) dX11_nearestBut_24 rfl ?_
        refine ae_iconst (pc := 25) (v := (-1)) dX11_nearestBut_25 (by decide) ?_
        refine ae_icmp_eq (pc := 26) (t := 63) dX11_nearestBut_26 (by decide) (fun c26 => ?_) (fun c26 => ?_)
        rotate_left
        · exact absurd rfl c26
        refine ae_iconst (pc := 63) (v := nI 1) dX11_nearestBut_63 (by decide) ?_
        refine ae_goto (pc := 64) (t := 68) dX11_nearestBut_64 (by decide) ?_
        refine ae_istore (pc := 68) dX11_nearestBut_68 rfl (Nat.le_of_ble_eq_true rfl) ?_
        refine ae_iload (pc := 70) dX11_nearestBut_70 rfl ?_
        refine ae_if_eq (pc := 72) (t := 80) dX11_nearestBut_72 (by decide) (fun q => absurd q (by decide)) (fun _ => ?_)
        refine ae_iload (pc := 75) dX11_nearestBut_75 rfl ?_
        refine ae_goto (pc := 77) (t := 81) dX11_nearestBut_77 (by decide) ?_
        refine ae_istore_n (pc := 81) (v := oI (nbt (M.1 34) c but (k + 1))) dX11_nearestBut_81 (by rw [nbt, hb]; first | rw [if_pos c21] | (rw [if_neg c21]; rfl)) (Nat.le_of_ble_eq_true rfl) ?_
        refine ae_iinc (pc := 82) (v := nI (k + 1)) dX11_nearestBut_82 rfl (nI_inc k) ?_
        refine ae_goto (pc := 85) (t := 5) dX11_nearestBut_85 (by decide) ?_
        exact ae_forget [5] rfl (ih hk2)
    | some b =>
      have hb2 := nbt_lt hb
      refine ae_iload (pc := 18) dX11_nearestBut_18 rfl ?_
      refine ae_iload_n (pc := 20) dX11_nearestBut_20 rfl ?_
      refine ae_icmp_eq (pc := 21) (t := 67) dX11_nearestBut_21 (by decide) (fun c21 => ?_) (fun c21 => ?_)
      · refine ae_iconst (pc := 67) (v := nI 0) dX11_nearestBut_67 (by decide) ?_
        refine ae_istore (pc := 68) dX11_nearestBut_68 rfl (Nat.le_of_ble_eq_true rfl) ?_
        refine ae_iload (pc := 70) dX11_nearestBut_70 rfl ?_
        refine ae_if_eq (pc := 72) (t := 80) dX11_nearestBut_72 (by decide) (fun _ => ?_) (fun q => absurd (by decide) q)
        refine ae_iload_n (pc := 80) dX11_nearestBut_80 rfl ?_
        refine ae_istore_n (pc := 81) (v := oI (nbt (M.1 34) c but (k + 1))) dX11_nearestBut_81 (by simp only [nbt, hb]; first | rw [if_pos c21] | (rw [if_neg c21, if_pos (Int32.not_le.mp c60)]; done) | (rw [if_neg c21, if_neg (Int32.not_lt.mpr c60)]; done) | (rw [if_neg c21, if_pos (Int32.not_le.mp c60)]; rfl)) (Nat.le_of_ble_eq_true rfl) ?_
        refine ae_iinc (pc := 82) (v := nI (k + 1)) dX11_nearestBut_82 rfl (nI_inc k) ?_
        refine ae_goto (pc := 85) (t := 5) dX11_nearestBut_85 (by decide) ?_
        exact ae_forget [5] rfl (ih hk2)
      · refine ae_iload_n (pc := 24) dX11_nearestBut_24 rfl ?_
        refine ae_iconst (pc := 25) (v := (-1)) dX11_nearestBut_25 (by decide) ?_
        refine ae_icmp_eq (pc := 26) (t := 63) dX11_nearestBut_26 (by decide) (fun c26 => ?_) (fun c26 => ?_)
        · exact absurd c26 (nI_ne1 (by omega))
        refine ae_aload_n (pc := 29) dX11_nearestBut_29 rfl ?_
        refine ae_iload_n (pc := 30) dX11_nearestBut_30 rfl ?_
        refine ae_aload_n (pc := 31) dX11_nearestBut_31 rfl ?_
        refine ae_getR (pc := 32) (k := 33) (c := 11) (j := 0) (q := 34) dX11_nearestBut_32 rfl rfl (Nat.le_of_ble_eq_true rfl) rfl (Nat.le_of_ble_eq_true rfl) rfl ?_
        refine ae_sipush (pc := 35) (v := nI 259) dX11_nearestBut_35 (by decide) ?_
        refine ae_iload (pc := 38) dX11_nearestBut_38 rfl ?_
        refine ae_iadd (pc := 40) dX11_nearestBut_40 (nI_add _ _) ?_
        refine ae_iaload (pc := 41) (k := 34) (N := 549) (_) dX11_nearestBut_41 (Nat.le_of_ble_eq_true rfl) rfl rfl rfl (by omega) rfl ?_
        refine ae_pcallV (pc := 42) (z := zX11_distance) (k := 33) (As := [_, _]) dX11_nearestBut_42 rfl rfl rfl rfl (Nat.le_of_ble_eq_true rfl) rfl (Nat.le_of_ble_eq_true rfl) (Nat.le_of_ble_eq_true rfl) (sm_distance d M _ _) ?_
        refine ae_aload_n (pc := 45) dX11_nearestBut_45 rfl ?_
        refine ae_iload_n (pc := 46) dX11_nearestBut_46 rfl ?_
        refine ae_aload_n (pc := 47) dX11_nearestBut_47 rfl ?_
        refine ae_getR (pc := 48) (k := 33) (c := 11) (j := 0) (q := 34) dX11_nearestBut_48 rfl rfl (Nat.le_of_ble_eq_true rfl) rfl (Nat.le_of_ble_eq_true rfl) rfl ?_
        refine ae_sipush (pc := 51) (v := nI 259) dX11_nearestBut_51 (by decide) ?_
        refine ae_iload_n (pc := 54) dX11_nearestBut_54 rfl ?_
        refine ae_iadd (pc := 55) (v := nI (259 + b)) dX11_nearestBut_55 (nI_add 259 b) ?_
        refine ae_iaload (pc := 56) (k := 34) (N := 549) (_) dX11_nearestBut_56 (Nat.le_of_ble_eq_true rfl) rfl rfl rfl (by omega) rfl ?_
        refine ae_pcallV (pc := 57) (z := zX11_distance) (k := 33) (As := [_, _]) dX11_nearestBut_57 rfl rfl rfl rfl (Nat.le_of_ble_eq_true rfl) rfl (Nat.le_of_ble_eq_true rfl) (Nat.le_of_ble_eq_true rfl) (sm_distance d M _ _) ?_
        refine ae_icmp_ge (pc := 60) (t := 67) dX11_nearestBut_60 (by decide) (fun c60 => ?_) (fun c60 => ?_)
        · refine ae_iconst (pc := 67) (v := nI 0) dX11_nearestBut_67 (by decide) ?_
          refine ae_istore (pc := 68) dX11_nearestBut_68 rfl (Nat.le_of_ble_eq_true rfl) ?_
          refine ae_iload (pc := 70) dX11_nearestBut_70 rfl ?_
          refine ae_if_eq (pc := 72) (t := 80) dX11_nearestBut_72 (by decide) (fun _ => ?_) (fun q => absurd (by decide) q)
          refine ae_iload_n (pc := 80) dX11_nearestBut_80 rfl ?_
          refine ae_istore_n (pc := 81) (v := oI (nbt (M.1 34) c but (k + 1))) dX11_nearestBut_81 (by simp only [nbt, hb]; first | rw [if_pos c21] | (rw [if_neg c21, if_pos (Int32.not_le.mp c60)]; done) | (rw [if_neg c21, if_neg (Int32.not_lt.mpr c60)]; done) | (rw [if_neg c21, if_pos (Int32.not_le.mp c60)]; rfl)) (Nat.le_of_ble_eq_true rfl) ?_
          refine ae_iinc (pc := 82) (v := nI (k + 1)) dX11_nearestBut_82 rfl (nI_inc k) ?_
          refine ae_goto (pc := 85) (t := 5) dX11_nearestBut_85 (by decide) ?_
          exact ae_forget [5] rfl (ih hk2)
        · refine ae_iconst (pc := 63) (v := nI 1) dX11_nearestBut_63 (by decide) ?_
          refine ae_goto (pc := 64) (t := 68) dX11_nearestBut_64 (by decide) ?_
          refine ae_istore (pc := 68) dX11_nearestBut_68 rfl (Nat.le_of_ble_eq_true rfl) ?_
          refine ae_iload (pc := 70) dX11_nearestBut_70 rfl ?_
          refine ae_if_eq (pc := 72) (t := 80) dX11_nearestBut_72 (by decide) (fun q => absurd q (by decide)) (fun _ => ?_)
          refine ae_iload (pc := 75) dX11_nearestBut_75 rfl ?_
          refine ae_goto (pc := 77) (t := 81) dX11_nearestBut_77 (by decide) ?_
          refine ae_istore_n (pc := 81) (v := oI (nbt (M.1 34) c but (k + 1))) dX11_nearestBut_81 (by simp only [nbt, hb]; first | rw [if_pos c21] | (rw [if_neg c21, if_pos (Int32.not_le.mp c60)]; done) | (rw [if_neg c21, if_neg (Int32.not_lt.mpr c60)]; done) | (rw [if_neg c21, if_pos (Int32.not_le.mp c60)]; rfl)) (Nat.le_of_ble_eq_true rfl) ?_
          refine ae_iinc (pc := 82) (v := nI (k + 1)) dX11_nearestBut_82 rfl (nI_inc k) ?_
          refine ae_goto (pc := 85) (t := 5) dX11_nearestBut_85 (by decide) ?_
          exact ae_forget [5] rfl (ih hk2)
theorem sm_near (d : Nat) (M : am_M) (hf : wf0 (M.1 34)) (c : Int32) : am_R (d + 4) zX11_near [.ref 33, .int c] M (fun v M' => v = some (.int (oI (nbt (M.1 34) c (-1) (fN (M.1 34))))) ∧ M' = M) := by
  refine ae_enter (z := zX11_near) (y := yX11_near) (cc := cX11_near) (mL := 2) (rt := some .int) (ci := 11) (st := false) (np := 1) (L := [some (.ref 33), some (.int c)]) rfl (by decide) (Nat.le_of_ble_eq_true rfl) rfl ?_
  refine ae_aload_n (pc := 0) dX11_near_0 rfl ?_
  refine ae_iload_n (pc := 1) dX11_near_1 rfl ?_
  refine ae_iconst (pc := 2) (v := (-1)) dX11_near_2 (by decide) ?_
  refine ae_pcallV (pc := 3) (z := zX11_nearestBut) (k := 33) (As := [_, _]) dX11_near_3 rfl rfl rfl rfl (Nat.le_of_ble_eq_true rfl) rfl (Nat.le_of_ble_eq_true rfl) (Nat.le_of_ble_eq_true rfl) (sm_nearestBut d M hf _ _) ?_
  refine ae_ireturn (pc := 6) dX11_near_6 rfl ?_
  exact ⟨rfl, rfl⟩

