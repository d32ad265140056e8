/-! the reference: its small methods -/
theorem sm_in (d : Nat) (x a b : Int32) (M : am_M) : am_R (d + 1) zX11_in [.int x, .int a, .int b] M (fun v M' => v = some (.int (bI (a ≤ x ∧ x ≤ b))) ∧ M' = M) := by
  refine ae_enter (z := zX11_in) (y := yX11_in) (cc := cX11_in) (mL := 3) (rt := some .boolean) (ci := 11) (st := true) (np := 3) (L := [some (.int x), some (.int a), some (.int b)]) rfl (by decide) (Nat.le_of_ble_eq_true rfl) rfl ?_
  refine ae_iload_n (pc := 0) dX11_in_0 rfl ?_
  refine ae_iload_n (pc := 1) dX11_in_1 rfl ?_
  refine ae_icmp_lt (pc := 2) (t := 14) dX11_in_2 (by decide) (fun c2 => ?_) (fun c2 => ?_)
  · refine ae_iconst (pc := 14) (v := nI 0) dX11_in_14 (by decide) ?_
    refine ae_zreturn (pc := 15) dX11_in_15 rfl (by decide) ?_
    exact ⟨by first | rw [bI_t (by simp_all [Int32.le_iff_toInt_le, Int32.lt_iff_toInt_lt]; first | done | omega)]; rfl | rw [bI_f (by simp_all [Int32.le_iff_toInt_le, Int32.lt_iff_toInt_lt]; first | done | omega)]; rfl, rfl⟩
  · refine ae_iload_n (pc := 5) dX11_in_5 rfl ?_
    refine ae_iload_n (pc := 6) dX11_in_6 rfl ?_
    refine ae_icmp_gt (pc := 7) (t := 14) dX11_in_7 (by decide) (fun c7 => ?_) (fun c7 => ?_)
    · refine ae_iconst (pc := 14) (v := nI 0) dX11_in_14 (by decide) ?_
      refine ae_zreturn (pc := 15) dX11_in_15 rfl (by decide) ?_
      exact ⟨by first | rw [bI_t (by simp_all [Int32.le_iff_toInt_le, Int32.lt_iff_toInt_lt]; first | done | omega)]; rfl | rw [bI_f (by simp_all [Int32.le_iff_toInt_le, Int32.lt_iff_toInt_lt]; first | done | omega)]; rfl, rfl⟩
    · refine ae_iconst (pc := 10) (v := nI 1) dX11_in_10 (by decide) ?_
      refine ae_goto (pc := 11) (t := 15) dX11_in_11 (by decide) ?_
      refine ae_zreturn (pc := 15) dX11_in_15 rfl (by decide) ?_
      exact ⟨by first | rw [bI_t (by simp_all [Int32.le_iff_toInt_le, Int32.lt_iff_toInt_lt]; first | done | omega)]; rfl | rw [bI_f (by simp_all [Int32.le_iff_toInt_le, Int32.lt_iff_toInt_lt]; first | done | omega)]; rfl, rfl⟩
theorem sm_isColor (d : Nat) (x : Int32) (M : am_M) : am_R (d + 2) zX11_isColor [.int x] M (fun v M' => v = some (.int (bI (0 ≤ x ∧ x ≤ 16777215))) ∧ M' = M) := by
  refine ae_enter (z := zX11_isColor) (y := yX11_isColor) (cc := cX11_isColor) (mL := 1) (rt := some .boolean) (ci := 11) (st := true) (np := 1) (L := [some (.int x)]) rfl (by decide) (Nat.le_of_ble_eq_true rfl) rfl ?_
  refine ae_iload_n (pc := 0) dX11_isColor_0 rfl ?_
  refine ae_iconst (pc := 1) (v := nI 0) dX11_isColor_1 (by decide) ?_
  refine ae_ldc (pc := 2) dX11_isColor_2 rfl rfl ?_
  refine ae_pcallS (pc := 4) (z := zX11_in) (As := [_, _, _]) dX11_isColor_4 rfl rfl rfl rfl (Nat.le_of_ble_eq_true rfl) (sm_in d _ _ _ _) ?_
  refine ae_zreturn (pc := 7) dX11_isColor_7 rfl (bI_01 _) ?_
  exact ⟨rfl, rfl⟩
theorem sm_channel (d : Nat) (x : Int32) (k : Nat) (M : am_M) : am_R (d + 1) zX11_channel [.int x, .int (nI k)] M (fun v M' => v = some (.int (cha x k)) ∧ M' = M) := by
  refine ae_enter (z := zX11_channel) (y := yX11_channel) (cc := cX11_channel) (mL := 2) (rt := some .int) (ci := 11) (st := true) (np := 2) (L := [some (.int x), some (.int (nI k))]) rfl (by decide) (Nat.le_of_ble_eq_true rfl) rfl ?_
  refine ae_iload_n (pc := 0) dX11_channel_0 rfl ?_
  refine ae_bipush (pc := 1) (v := nI 16) dX11_channel_1 (by decide) ?_
  refine ae_bipush (pc := 3) (v := nI 8) dX11_channel_3 (by decide) ?_
  refine ae_iload_n (pc := 5) dX11_channel_5 rfl ?_
  refine ae_imul (pc := 6) (v := nI 8 * nI k) dX11_channel_6 rfl ?_
  refine ae_isub (pc := 7) dX11_channel_7 rfl ?_
  refine ae_ishr (pc := 8) dX11_channel_8 rfl ?_
  refine ae_sipush (pc := 9) (v := nI 255) dX11_channel_9 (by decide) ?_
  refine ae_iand (pc := 12) dX11_channel_12 rfl ?_
  refine ae_ireturn (pc := 13) dX11_channel_13 rfl ?_
  exact ⟨rfl, rfl⟩
theorem sm_pixels (d : Nat) (M : am_M) (hf : wf0 (M.1 34)) : am_R (d + 1) zX11_pixels [.ref 33] M (fun v M' => v = some (.int (nI (fA (M.1 34)))) ∧ M' = M) := by
  refine ae_enter (z := zX11_pixels) (y := yX11_pixels) (cc := cX11_pixels) (mL := 1) (rt := some .int) (ci := 11) (st := false) (np := 0) (L := [some (.ref 33)]) rfl (by decide) (Nat.le_of_ble_eq_true rfl) rfl ?_
  refine ae_aload_n (pc := 0) dX11_pixels_0 rfl ?_
  refine ae_getR (pc := 1) (k := 33) (c := 11) (j := 0) (q := 34) dX11_pixels_1 rfl rfl (Nat.le_of_ble_eq_true rfl) rfl (Nat.le_of_ble_eq_true rfl) rfl ?_
  refine ae_iconst (pc := 4) (v := nI 0) dX11_pixels_4 (by decide) ?_
  refine ae_iaload (pc := 5) (k := 34) (N := 549) _ dX11_pixels_5 (Nat.le_of_ble_eq_true rfl) rfl rfl rfl (by omega) rfl ?_
  refine ae_aload_n (pc := 6) dX11_pixels_6 rfl ?_
  refine ae_getR (pc := 7) (k := 33) (c := 11) (j := 0) (q := 34) dX11_pixels_7 rfl rfl (Nat.le_of_ble_eq_true rfl) rfl (Nat.le_of_ble_eq_true rfl) rfl ?_
  refine ae_iconst (pc := 10) (v := nI 1) dX11_pixels_10 (by decide) ?_
  refine ae_iaload (pc := 11) (k := 34) (N := 549) _ dX11_pixels_11 (Nat.le_of_ble_eq_true rfl) rfl rfl rfl (by omega) rfl ?_
  refine ae_imul (pc := 12) (v := nI (fA (M.1 34))) dX11_pixels_12 (by rw [hf.1.1, hf.2.1.1, nI_mul]; rfl) ?_
  refine ae_ireturn (pc := 13) dX11_pixels_13 rfl ?_
  exact ⟨rfl, rfl⟩
theorem sm_isOpaque (d : Nat) (M : am_M) (p : Nat) (hp : p < 256) : am_R (d + 1) zX11_isOpaque [.ref 33, .int (nI p)] M (fun v M' => v = some (.int (bI (M.1 34 (2 + p) ≠ -1))) ∧ M' = M) := by
  refine ae_enter (z := zX11_isOpaque) (y := yX11_isOpaque) (cc := cX11_isOpaque) (mL := 2) (rt := some .boolean) (ci := 11) (st := false) (np := 1) (L := [some (.ref 33), some (.int (nI p))]) rfl (by decide) (Nat.le_of_ble_eq_true rfl) rfl ?_
  refine ae_aload_n (pc := 0) dX11_isOpaque_0 rfl ?_
  refine ae_getR (pc := 1) (k := 33) (c := 11) (j := 0) (q := 34) dX11_isOpaque_1 rfl rfl (Nat.le_of_ble_eq_true rfl) rfl (Nat.le_of_ble_eq_true rfl) rfl ?_
  refine ae_iconst (pc := 4) (v := nI 2) dX11_isOpaque_4 (by decide) ?_
  refine ae_iload_n (pc := 5) dX11_isOpaque_5 rfl ?_
  refine ae_iadd (pc := 6) dX11_isOpaque_6 (nI_add _ _) ?_
  refine ae_iaload (pc := 7) (k := 34) (N := 549) _ dX11_isOpaque_7 (Nat.le_of_ble_eq_true rfl) rfl rfl rfl (by omega) rfl ?_
  refine ae_iconst (pc := 8) (v := (-1)) dX11_isOpaque_8 (by decide) ?_
  refine ae_icmp_eq (pc := 9) (t := 16) dX11_isOpaque_9 (by decide) (fun c9 => ?_) (fun c9 => ?_)
  · refine ae_iconst (pc := 16) (v := nI 0) dX11_isOpaque_16 (by decide) ?_
    refine ae_zreturn (pc := 17) dX11_isOpaque_17 rfl (by decide) ?_
    exact ⟨by simp [bI, c9, nI], rfl⟩
  · refine ae_iconst (pc := 12) (v := nI 1) dX11_isOpaque_12 (by decide) ?_
    refine ae_goto (pc := 13) (t := 17) dX11_isOpaque_13 (by decide) ?_
    refine ae_zreturn (pc := 17) dX11_isOpaque_17 rfl (by decide) ?_
    exact ⟨by simp [bI, c9, nI], rfl⟩
theorem sm_opaque (d : Nat) (M : am_M) (hf : wf0 (M.1 34)) : am_R (d + 2) zX11_opaque [.ref 33] M (fun v M' => v = some (.int (nI (opq (M.1 34) (fA (M.1 34))))) ∧ M' = M) := by
  refine ae_enter (z := zX11_opaque) (y := yX11_opaque) (cc := cX11_opaque) (mL := 3) (rt := some .int) (ci := 11) (st := false) (np := 0) (L := [some (.ref 33), none, none]) rfl (by decide) (Nat.le_of_ble_eq_true rfl) rfl ?_
  have hA := fA_le hf
  have h31 : fA (M.1 34) < 2 ^ 31 := by omega
  refine ae_iconst (pc := 0) (v := nI 0) dX11_opaque_0 (by decide) ?_
  refine ae_istore_n (pc := 1) dX11_opaque_1 rfl (Nat.le_of_ble_eq_true rfl) ?_
  refine ae_iconst (pc := 2) (v := nI 0) dX11_opaque_2 (by decide) ?_
  refine ae_istore_n (pc := 3) dX11_opaque_3 rfl (Nat.le_of_ble_eq_true rfl) ?_
  skip
  refine am_down (P := fun k => am_E none (am_R (d + 1)) cX11_opaque 11 (some .int) _ (4, [some (.ref 33), some (.int (nI (opq (M.1 34) k))), some (.int (nI k))], [], M)) (fA (M.1 34)) (fun k hk ih => ?_)
  refine ae_iload_n (pc := 4) dX11_opaque_4 rfl ?_
  refine ae_aload_n (pc := 5) dX11_opaque_5 rfl ?_
  refine ae_pcallV (pc := 6) (z := zX11_pixels) (k := 33) (As := []) dX11_opaque_6 rfl rfl rfl rfl (Nat.le_of_ble_eq_true rfl) rfl (Nat.le_of_ble_eq_true rfl) (Nat.le_of_ble_eq_true rfl) (sm_pixels d M hf) ?_
  refine ae_icmp_ge (pc := 9) (t := 34) dX11_opaque_9 (by decide) (fun c9 => ?_) (fun c9 => ?_)
  · have hk2 : k = fA (M.1 34) := by rw [nI_leI h31 (by omega)] at c9; omega
    refine ae_iload_n (pc := 34) dX11_opaque_34 rfl ?_
    refine ae_ireturn (pc := 35) dX11_opaque_35 rfl ?_
    exact ⟨by rw [hk2], rfl⟩
  · have hk2 : k < fA (M.1 34) := by rw [nI_leI h31 (by omega)] at c9; omega
    refine ae_iload_n (pc := 12) dX11_opaque_12 rfl ?_
    refine ae_aload_n (pc := 13) dX11_opaque_13 rfl ?_
    refine ae_iload_n (pc := 14) dX11_opaque_14 rfl ?_
    refine ae_pcallV (pc := 15) (z := zX11_isOpaque) (k := 33) (As := [_]) dX11_opaque_15 rfl rfl rfl rfl (Nat.le_of_ble_eq_true rfl) rfl (Nat.le_of_ble_eq_true rfl) (Nat.le_of_ble_eq_true rfl) (sm_isOpaque d M k (by omega)) ?_
    refine ae_if_eq (pc := 18) (t := 25) dX11_opaque_18 (by decide) (fun c18 => ?_) (fun c18 => ?_)
    · refine ae_iconst (pc := 25) (v := nI 0) dX11_opaque_25 (by decide) ?_
      refine ae_iadd (pc := 26) dX11_opaque_26 (nI_add _ _) ?_
      refine ae_istore_n (pc := 27) (v := nI (opq (M.1 34) (k + 1))) dX11_opaque_27 (congrArg nI (by simp only [bI_eq0, bI_ne0] at c18; simp_all [opq])) (Nat.le_of_ble_eq_true rfl) ?_
      refine ae_iinc (pc := 28) (v := nI (k + 1)) dX11_opaque_28 rfl (nI_inc k) ?_
      refine ae_goto (pc := 31) (t := 4) dX11_opaque_31 (by decide) ?_
      exact ih hk2
    · refine ae_iconst (pc := 21) (v := nI 1) dX11_opaque_21 (by decide) ?_
      refine ae_goto (pc := 22) (t := 26) dX11_opaque_22 (by decide) ?_
      refine ae_iadd (pc := 26) dX11_opaque_26 (nI_add _ _) ?_
      refine ae_istore_n (pc := 27) (v := nI (opq (M.1 34) (k + 1))) dX11_opaque_27 (congrArg nI (by simp only [bI_eq0, bI_ne0] at c18; simp_all [opq])) (Nat.le_of_ble_eq_true rfl) ?_
      refine ae_iinc (pc := 28) (v := nI (k + 1)) dX11_opaque_28 rfl (nI_inc k) ?_
      refine ae_goto (pc := 31) (t := 4) dX11_opaque_31 (by decide) ?_
      exact ih hk2

