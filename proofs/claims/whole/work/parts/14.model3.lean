theorem sm_undo0 (d : Nat) (M : am_M) (hu : M.1 33 2 = 0) : am_R (d + 1) zX11_undo [.ref 33] M (fun v M' => v = some (.int (-3)) ∧ M' = M) := by
  refine ae_enter (z := zX11_undo) (y := yX11_undo) (cc := cX11_undo) (mL := 2) (rt := some .int) (ci := 11) (st := false) (np := 0) (L := [some (.ref 33), none]) rfl (by decide) (Nat.le_of_ble_eq_true rfl) rfl ?_
  refine ae_aload_n (pc := 0) dX11_undo_0 rfl ?_
  refine ae_getI (pc := 1) (k := 33) (c := 11) (j := 2) dX11_undo_1 rfl rfl (Or.inl rfl) (Nat.le_of_ble_eq_true rfl) rfl (Nat.le_of_ble_eq_true rfl) rfl ?_
  refine ae_if_ne (pc := 4) (t := 10) dX11_undo_4 (by decide) (fun c4 => ?_) (fun c4 => ?_)
  · exact absurd hu c4
  · refine ae_bipush (pc := 7) (v := (-3)) dX11_undo_7 (by decide) ?_
    refine ae_ireturn (pc := 9) dX11_undo_9 rfl ?_
    exact ⟨rfl, rfl⟩
theorem sm_undo (d : Nat) (M : am_M) (w : Nat) (hu : M.1 33 2 = nI (w + 1)) (hw : w < 10) : am_R (d + 1) zX11_undo [.ref 33] M (fun v M' => v = some (.int (nI w)) ∧ M' = rw34 (am_u M.1 33 (upd (M.1 33) 2 (nI w)), M.2) (udF (M.1 35) (M.1 34) w 549)) := by
  refine ae_enter (z := zX11_undo) (y := yX11_undo) (cc := cX11_undo) (mL := 2) (rt := some .int) (ci := 11) (st := false) (np := 0) (L := [some (.ref 33), none]) rfl (by decide) (Nat.le_of_ble_eq_true rfl) rfl ?_
  refine ae_aload_n (pc := 0) dX11_undo_0 rfl ?_
  refine ae_getI (pc := 1) (k := 33) (c := 11) (j := 2) (v := nI (w + 1)) dX11_undo_1 rfl rfl (Or.inl rfl) (Nat.le_of_ble_eq_true rfl) rfl (Nat.le_of_ble_eq_true rfl) hu ?_
  refine ae_if_ne (pc := 4) (t := 10) dX11_undo_4 (by decide) (fun c4 => ?_) (fun c4 => ?_)
  · refine ae_aload_n (pc := 10) dX11_undo_10 rfl ?_
    refine ae_dup (pc := 11) dX11_undo_11 rfl ?_
    refine ae_getI (pc := 12) (k := 33) (c := 11) (j := 2) (v := nI (w + 1)) dX11_undo_12 rfl rfl (Or.inl rfl) (Nat.le_of_ble_eq_true rfl) rfl (Nat.le_of_ble_eq_true rfl) hu ?_
    refine ae_iconst (pc := 15) (v := nI 1) dX11_undo_15 (by decide) ?_
    refine ae_isub (pc := 16) (v := nI w) dX11_undo_16 (nI_pred w) ?_
    refine ae_putfield (pc := 17) (k := 33) (c := 11) (j := 2) dX11_undo_17 rfl rfl (Nat.le_of_ble_eq_true rfl) rfl (Nat.le_of_ble_eq_true rfl) rfl rfl ?_
    refine ae_iconst (pc := 20) (v := nI 0) dX11_undo_20 (by decide) ?_
    refine ae_istore_n (pc := 21) dX11_undo_21 rfl (Nat.le_of_ble_eq_true rfl) ?_
    skip
    refine ae_M (M' := rw34 (am_u M.1 33 (upd (M.1 33) 2 (nI w)), M.2) (udF (M.1 35) (M.1 34) w 0)) (by rw [show udF (M.1 35) (M.1 34) w 0 = (am_u M.1 33 (upd (M.1 33) 2 (nI w))) 34 from funext fun j => by simp [udF, am_u]]; exact (rw34_eta _).symm) ?_
    refine am_down (P := fun k => am_E none (am_R d) cX11_undo 11 (some .int) _ (22, [some (.ref 33), some (.int (nI k))], [], rw34 (am_u M.1 33 (upd (M.1 33) 2 (nI w)), M.2) (udF (M.1 35) (M.1 34) w k))) 549 (fun k hk ih => ?_)
    have hU : ∀ g, (rw34 (am_u M.1 33 (upd (M.1 33) 2 (nI w)), M.2) g).1 33 2 = nI w := fun g => by simp [rw34, am_u, upd]
    refine ae_iload_n (pc := 22) dX11_undo_22 rfl ?_
    refine ae_sipush (pc := 23) (v := nI 549) dX11_undo_23 (by decide) ?_
    refine ae_icmp_ge (pc := 26) (t := 56) dX11_undo_26 (by decide) (fun c26 => ?_) (fun c26 => ?_)
    · have hk2 : k = 549 := by rw [nI_leI (by decide) (by omega)] at c26; omega
      subst hk2
      refine ae_aload_n (pc := 56) dX11_undo_56 rfl ?_
      refine ae_getI (pc := 57) (k := 33) (c := 11) (j := 2) (v := nI w) dX11_undo_57 rfl rfl (Or.inl rfl) (Nat.le_of_ble_eq_true rfl) rfl (Nat.le_of_ble_eq_true rfl) (hU _) ?_
      refine ae_ireturn (pc := 60) dX11_undo_60 rfl ?_
      exact ⟨rfl, rfl⟩
    · have hk2 : k < 549 := by rw [nI_leI (by decide) (by omega)] at c26; omega
      refine ae_aload_n (pc := 29) dX11_undo_29 rfl ?_
      refine ae_getR (pc := 30) (k := 33) (c := 11) (j := 0) (q := 34) dX11_undo_30 rfl rfl (Nat.le_of_ble_eq_true rfl) rfl (Nat.le_of_ble_eq_true rfl) rfl ?_
      refine ae_iload_n (pc := 33) dX11_undo_33 rfl ?_
      refine ae_aload_n (pc := 34) dX11_undo_34 rfl ?_
      refine ae_getR (pc := 35) (k := 33) (c := 11) (j := 1) (q := 35) dX11_undo_35 rfl rfl (Nat.le_of_ble_eq_true rfl) rfl (Nat.le_of_ble_eq_true rfl) rfl ?_
      refine ae_sipush (pc := 38) (v := nI 549) dX11_undo_38 (by decide) ?_
      refine ae_aload_n (pc := 41) dX11_undo_41 rfl ?_
      refine ae_getI (pc := 42) (k := 33) (c := 11) (j := 2) (v := nI w) dX11_undo_42 rfl rfl (Or.inl rfl) (Nat.le_of_ble_eq_true rfl) rfl (Nat.le_of_ble_eq_true rfl) (hU _) ?_
      refine ae_imul (pc := 45) (v := nI (549 * w)) dX11_undo_45 (nI_mul 549 w) ?_
      refine ae_iload_n (pc := 46) dX11_undo_46 rfl ?_
      refine ae_iadd (pc := 47) (v := nI (549 * w + k)) dX11_undo_47 (nI_add _ _) ?_
      refine ae_iaload (pc := 48) (k := 35) (N := 5490) (v := M.1 35 (549 * w + k)) (_) dX11_undo_48 (Nat.le_of_ble_eq_true rfl) rfl rfl rfl (by omega) (by simp [rw34, am_u]) ?_
      refine ae_iastore (pc := 49) (k := 34) (N := 549) _ dX11_undo_49 (Nat.le_of_ble_eq_true rfl) rfl rfl rfl (by omega) rfl ?_
      refine ae_iinc (pc := 50) (v := nI (k + 1)) dX11_undo_50 rfl (nI_inc k) ?_
      refine ae_goto (pc := 53) (t := 22) dX11_undo_53 (by decide) ?_
      exact ae_M (by rw [rw34_upd, ud_s]) (ih hk2)
  · exact absurd (nI_ne0 (by omega) (by omega)) c4
theorem sm_image0 (d : Nat) (M : am_M) (x y : Int32) (h : ¬ ((nI 1 ≤ x ∧ x ≤ nI 16) ∧ nI 1 ≤ y ∧ y ≤ nI 16)) : am_R (d + 2) zX11_image [.ref 33, .int x, .int y] M (fun v M' => v = some (.int (-2)) ∧ M' = M) := by
  refine ae_enter (z := zX11_image) (y := yX11_image) (cc := cX11_image) (mL := 4) (rt := some .int) (ci := 11) (st := false) (np := 2) (L := [some (.ref 33), some (.int x), some (.int y), none]) rfl (by decide) (Nat.le_of_ble_eq_true rfl) rfl ?_
  refine ae_iload_n (pc := 0) dX11_image_0 rfl ?_
  refine ae_iconst (pc := 1) (v := nI 1) dX11_image_1 (by decide) ?_
  refine ae_bipush (pc := 2) (v := nI 16) dX11_image_2 (by decide) ?_
  refine ae_pcallS (pc := 4) (z := zX11_in) (As := [_, _, _]) dX11_image_4 rfl rfl rfl rfl (Nat.le_of_ble_eq_true rfl) (sm_in d _ _ _ _) ?_
  refine ae_if_eq (pc := 7) (t := 20) dX11_image_7 (by decide) (fun c7 => ?_) (fun c7 => ?_)
  · refine ae_bipush (pc := 20) (v := (-2)) dX11_image_20 (by decide) ?_
    refine ae_ireturn (pc := 22) dX11_image_22 rfl ?_
    exact ⟨rfl, rfl⟩
  · refine ae_iload_n (pc := 10) dX11_image_10 rfl ?_
    refine ae_iconst (pc := 11) (v := nI 1) dX11_image_11 (by decide) ?_
    refine ae_bipush (pc := 12) (v := nI 16) dX11_image_12 (by decide) ?_
    refine ae_pcallS (pc := 14) (z := zX11_in) (As := [_, _, _]) dX11_image_14 rfl rfl rfl rfl (Nat.le_of_ble_eq_true rfl) (sm_in d _ _ _ _) ?_
    refine ae_if_ne (pc := 17) (t := 23) dX11_image_17 (by decide) (fun c17 => ?_) (fun c17 => ?_)
    · exact absurd ⟨bI_ne0.mp c7, bI_ne0.mp c17⟩ h
    · refine ae_bipush (pc := 20) (v := (-2)) dX11_image_20 (by decide) ?_
      refine ae_ireturn (pc := 22) dX11_image_22 rfl ?_
      exact ⟨rfl, rfl⟩
theorem sm_image (d : Nat) (M : am_M) (u : Nat) (hu : M.1 33 2 = nI u) (hu2 : u ≤ 10) (a b : Nat) (ha : 1 ≤ a ∧ a ≤ 16) (hb : 1 ≤ b ∧ b ≤ 16) : am_R (d + 2) zX11_image [.ref 33, .int (nI a), .int (nI b)] M (fun v M' => v = some (.int (nI (a * b))) ∧ M' = rw34 (kpM M u 1) (imF (kpF (M.1 34) 1) a b)) := by
  refine ae_enter (z := zX11_image) (y := yX11_image) (cc := cX11_image) (mL := 4) (rt := some .int) (ci := 11) (st := false) (np := 2) (L := [some (.ref 33), some (.int (nI a)), some (.int (nI b)), none]) rfl (by decide) (Nat.le_of_ble_eq_true rfl) rfl ?_
  refine ae_iload_n (pc := 0) dX11_image_0 rfl ?_
  refine ae_iconst (pc := 1) (v := nI 1) dX11_image_1 (by decide) ?_
  refine ae_bipush (pc := 2) (v := nI 16) dX11_image_2 (by decide) ?_
  refine ae_pcallS (pc := 4) (z := zX11_in) (As := [_, _, _]) dX11_image_4 rfl rfl rfl rfl (Nat.le_of_ble_eq_true rfl) (sm_in d _ _ _ _) ?_
  refine ae_if_eq (pc := 7) (t := 20) dX11_image_7 (by decide) (fun c7 => ?_) (fun c7 => ?_)
  · exact absurd (rngI ha.1 ha.2 (by decide)) (bI_eq0.mp c7)
  refine ae_iload_n (pc := 10) dX11_image_10 rfl ?_
  refine ae_iconst (pc := 11) (v := nI 1) dX11_image_11 (by decide) ?_
  refine ae_bipush (pc := 12) (v := nI 16) dX11_image_12 (by decide) ?_
  refine ae_pcallS (pc := 14) (z := zX11_in) (As := [_, _, _]) dX11_image_14 rfl rfl rfl rfl (Nat.le_of_ble_eq_true rfl) (sm_in d _ _ _ _) ?_
  refine ae_if_ne (pc := 17) (t := 23) dX11_image_17 (by decide) (fun c17 => ?_) (fun c17 => absurd (rngI hb.1 hb.2 (by decide)) (bI_eq0.mp (Classical.not_not.mp c17)))
  refine ae_aload_n (pc := 23) dX11_image_23 rfl ?_
  refine ae_iconst (pc := 24) (v := nI 1) dX11_image_24 (by decide) ?_
  refine ae_callV (pc := 25) (z := zX11_keeps) (k := 33) (As := [_]) dX11_image_25 rfl rfl rfl rfl (Nat.le_of_ble_eq_true rfl) rfl (Nat.le_of_ble_eq_true rfl) (Nat.le_of_ble_eq_true rfl) (sm_keeps d M u hu hu2 _) (fun v M' hq => ?_)
  obtain ⟨rfl, rfl⟩ := hq
  refine ae_M (M' := rw34 (kpM M u 1) (kpF (M.1 34) 1)) (by rw [← kp34 M u 1]; exact (rw34_eta _).symm) ?_
  refine ae_aload_n (pc := 28) dX11_image_28 rfl ?_
  refine ae_getR (pc := 29) (k := 33) (c := 11) (j := 0) (q := 34) dX11_image_29 rfl rfl (Nat.le_of_ble_eq_true rfl) rfl (Nat.le_of_ble_eq_true rfl) rfl ?_
  refine ae_iconst (pc := 32) (v := nI 0) dX11_image_32 (by decide) ?_
  refine ae_iload_n (pc := 33) dX11_image_33 rfl ?_
  refine ae_iastore (pc := 34) (k := 34) (N := 549) _ dX11_image_34 (Nat.le_of_ble_eq_true rfl) rfl rfl rfl (by omega) rfl ?_
  refine ae_M (rw34_upd _ _ _ _) ?_
  refine ae_aload_n (pc := 35) dX11_image_35 rfl ?_
  refine ae_getR (pc := 36) (k := 33) (c := 11) (j := 0) (q := 34) dX11_image_36 rfl rfl (Nat.le_of_ble_eq_true rfl) rfl (Nat.le_of_ble_eq_true rfl) rfl ?_
  refine ae_iconst (pc := 39) (v := nI 1) dX11_image_39 (by decide) ?_
  refine ae_iload_n (pc := 40) dX11_image_40 rfl ?_
  refine ae_iastore (pc := 41) (k := 34) (N := 549) _ dX11_image_41 (Nat.le_of_ble_eq_true rfl) rfl rfl rfl (by omega) rfl ?_
  refine ae_M (rw34_upd _ _ _ _) ?_
  refine ae_iconst (pc := 42) (v := nI 0) dX11_image_42 (by decide) ?_
  refine ae_istore_n (pc := 43) dX11_image_43 rfl (Nat.le_of_ble_eq_true rfl) ?_
  skip
  refine ae_M (M' := rw34 (kpM M u 1) (stF (upd (upd (kpF (M.1 34) 1) 0 (nI a)) 1 (nI b)) 2 0 (fun _ => 0))) (by rw [st_0]) ?_
  refine am_down (P := fun k => am_E none (am_R (d + 1)) cX11_image 11 (some .int) _ (44, [some (.ref 33), some (.int (nI a)), some (.int (nI b)), some (.int (nI k))], [], rw34 (kpM M u 1) (stF (upd (upd (kpF (M.1 34) 1) 0 (nI a)) 1 (nI b)) 2 k (fun _ => 0)))) 256 (fun k hk ih => ?_)
  refine ae_iload_n (pc := 44) dX11_image_44 rfl ?_
  refine ae_sipush (pc := 45) (v := nI 256) dX11_image_45 (by decide) ?_
  refine ae_icmp_ge (pc := 48) (t := 66) dX11_image_48 (by decide) (fun c48 => ?_) (fun c48 => ?_)
  · have hk2 : k = 256 := by rw [nI_leI (by decide) (by omega)] at c48; omega
    subst hk2
    refine ae_iload_n (pc := 66) dX11_image_66 rfl ?_
    refine ae_iload_n (pc := 67) dX11_image_67 rfl ?_
    refine ae_imul (pc := 68) dX11_image_68 (nI_mul _ _) ?_
    refine ae_ireturn (pc := 69) dX11_image_69 rfl ?_
    exact ⟨rfl, rfl⟩
  · have hk2 : k < 256 := by rw [nI_leI (by decide) (by omega)] at c48; omega
    refine ae_aload_n (pc := 51) dX11_image_51 rfl ?_
    refine ae_getR (pc := 52) (k := 33) (c := 11) (j := 0) (q := 34) dX11_image_52 rfl rfl (Nat.le_of_ble_eq_true rfl) rfl (Nat.le_of_ble_eq_true rfl) rfl ?_
    refine ae_iconst (pc := 55) (v := nI 2) dX11_image_55 (by decide) ?_
    refine ae_iload_n (pc := 56) dX11_image_56 rfl ?_
    refine ae_iadd (pc := 57) dX11_image_57 (nI_add _ _) ?_
    refine ae_iconst (pc := 58) (v := nI 0) dX11_image_58 (by decide) ?_
    refine ae_iastore (pc := 59) (k := 34) (N := 549) _ dX11_image_59 (Nat.le_of_ble_eq_true rfl) rfl rfl rfl (by omega) rfl ?_
    refine ae_iinc (pc := 60) (v := nI (k + 1)) dX11_image_60 rfl (nI_inc k) ?_
    refine ae_goto (pc := 63) (t := 44) dX11_image_63 (by decide) ?_
    exact ae_M (by rw [rw34_upd, ← st_s]; rfl) (ih hk2)
theorem sm_pixel0 (d : Nat) (M : am_M) (x y : Int32) (h : ¬ inP (M.1 34) x y) : am_R (d + 3) zX11_pixel [.ref 33, .int x, .int y] M (fun v M' => v = some (.int (-2)) ∧ M' = M) := by
  refine ae_enter (z := zX11_pixel) (y := yX11_pixel) (cc := cX11_pixel) (mL := 3) (rt := some .int) (ci := 11) (st := false) (np := 2) (L := [some (.ref 33), some (.int x), some (.int y)]) rfl (by decide) (Nat.le_of_ble_eq_true rfl) rfl ?_
  refine ae_aload_n (pc := 0) dX11_pixel_0 rfl ?_
  refine ae_iload_n (pc := 1) dX11_pixel_1 rfl ?_
  refine ae_iload_n (pc := 2) dX11_pixel_2 rfl ?_
  refine ae_pcallV (pc := 3) (z := zX11_isPixel) (k := 33) (As := [_, _]) dX11_pixel_3 rfl rfl rfl rfl (Nat.le_of_ble_eq_true rfl) rfl (Nat.le_of_ble_eq_true rfl) (Nat.le_of_ble_eq_true rfl) (sm_isPixel d M x y) ?_
  refine ae_if_eq (pc := 6) (t := 29) dX11_pixel_6 (by decide) (fun c6 => ?_) (fun c6 => ?_)
  rotate_left
  · exact absurd (bI_ne0.mp c6) h
  refine ae_bipush (pc := 29) (v := (-2)) dX11_pixel_29 (by decide) ?_
  refine ae_ireturn (pc := 31) dX11_pixel_31 rfl ?_
  exact ⟨rfl, rfl⟩
theorem sm_pixel (d : Nat) (M : am_M) (hf : wf0 (M.1 34)) (x y : Nat) (hx : x < fW (M.1 34)) (hy : y < fH (M.1 34)) : am_R (d + 3) zX11_pixel [.ref 33, .int (nI x), .int (nI y)] M (fun v M' => v = some (.int (M.1 34 (2 + (y * fW (M.1 34) + x)))) ∧ M' = M) := by
  refine ae_enter (z := zX11_pixel) (y := yX11_pixel) (cc := cX11_pixel) (mL := 3) (rt := some .int) (ci := 11) (st := false) (np := 2) (L := [some (.ref 33), some (.int (nI x)), some (.int (nI y))]) rfl (by decide) (Nat.le_of_ble_eq_true rfl) rfl ?_
  have hp := pl_lt hf hx hy
  have hA := fA_le hf
  refine ae_aload_n (pc := 0) dX11_pixel_0 rfl ?_
  refine ae_iload_n (pc := 1) dX11_pixel_1 rfl ?_
  refine ae_iload_n (pc := 2) dX11_pixel_2 rfl ?_
  refine ae_pcallV (pc := 3) (z := zX11_isPixel) (k := 33) (As := [_, _]) dX11_pixel_3 rfl rfl rfl rfl (Nat.le_of_ble_eq_true rfl) rfl (Nat.le_of_ble_eq_true rfl) (Nat.le_of_ble_eq_true rfl) (sm_isPixel d M _ _) ?_
  refine ae_if_eq (pc := 6) (t := 29) dX11_pixel_6 (by decide) (fun c6 => ?_) (fun c6 => ?_)
  · exact absurd (inP_of hf hx hy) (bI_eq0.mp c6)
  refine ae_aload_n (pc := 9) dX11_pixel_9 rfl ?_
  refine ae_getR (pc := 10) (k := 33) (c := 11) (j := 0) (q := 34) dX11_pixel_10 rfl rfl (Nat.le_of_ble_eq_true rfl) rfl (Nat.le_of_ble_eq_true rfl) rfl ?_
  refine ae_iconst (pc := 13) (v := nI 2) dX11_pixel_13 (by decide) ?_
  refine ae_iload_n (pc := 14) dX11_pixel_14 rfl ?_
  refine ae_aload_n (pc := 15) dX11_pixel_15 rfl ?_
  refine ae_getR (pc := 16) (k := 33) (c := 11) (j := 0) (q := 34) dX11_pixel_16 rfl rfl (Nat.le_of_ble_eq_true rfl) rfl (Nat.le_of_ble_eq_true rfl) rfl ?_
  refine ae_iconst (pc := 19) (v := nI 0) dX11_pixel_19 (by decide) ?_
  refine ae_iaload (pc := 20) (k := 34) (N := 549) (v := nI (fW (M.1 34))) _ dX11_pixel_20 (Nat.le_of_ble_eq_true rfl) rfl rfl rfl (by omega) hf.1.1 ?_
  refine ae_imul (pc := 21) (v := nI (y * fW (M.1 34))) dX11_pixel_21 (nI_mul _ _) ?_
  refine ae_iadd (pc := 22) (v := nI (2 + y * fW (M.1 34))) dX11_pixel_22 (nI_add _ _) ?_
  refine ae_iload_n (pc := 23) dX11_pixel_23 rfl ?_
  refine ae_iadd (pc := 24) (v := nI (2 + (y * fW (M.1 34) + x))) dX11_pixel_24 (by rw [nI_add, Nat.add_assoc]) ?_
  refine ae_iaload (pc := 25) (k := 34) (N := 549) (2 + (y * fW (M.1 34) + x)) dX11_pixel_25 (Nat.le_of_ble_eq_true rfl) rfl rfl rfl (by omega) rfl ?_
  refine ae_goto (pc := 26) (t := 31) dX11_pixel_26 (by decide) ?_
  refine ae_ireturn (pc := 31) dX11_pixel_31 rfl ?_
  exact ⟨rfl, rfl⟩

