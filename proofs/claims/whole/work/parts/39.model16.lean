theorem sm_down (d : Nat) (M : am_M) (a b : Int32) (hb : ¬ b = 0) : am_R (d + 1) zX11_down [.int a, .int b] M (fun v M' => v = some (.int (dwn a b)) ∧ M' = M) := by
  refine ae_enter (z := zX11_down) (y := yX11_down) (cc := cX11_down) (mL := 3) (rt := some .int) (ci := 11) (st := true) (np := 2) (L := [some (.int a), some (.int b), none]) rfl (by decide) (Nat.le_of_ble_eq_true rfl) rfl ?_
  refine ae_iload_n (pc := 0) dX11_down_0 rfl ?_
  refine ae_iload_n (pc := 1) dX11_down_1 rfl ?_
  refine ae_idiv (pc := 2) dX11_down_2 hb rfl ?_
  refine ae_istore_n (pc := 3) dX11_down_3 rfl (Nat.le_of_ble_eq_true rfl) ?_
  refine ae_iload_n (pc := 4) dX11_down_4 rfl ?_
  refine ae_iload_n (pc := 5) dX11_down_5 rfl ?_
  refine ae_irem (pc := 6) dX11_down_6 hb rfl ?_
  refine ae_if_ge (pc := 7) (t := 16) dX11_down_7 (by decide) (fun c7 => ?_) (fun c7 => ?_)
  · refine ae_iload_n (pc := 16) dX11_down_16 rfl ?_
    refine ae_ireturn (pc := 17) dX11_down_17 rfl ?_
    exact ⟨by unfold dwn; first | rw [if_pos c7] | rw [if_neg c7], rfl⟩
  · refine ae_iload_n (pc := 10) dX11_down_10 rfl ?_
    refine ae_iconst (pc := 11) (v := nI 1) dX11_down_11 (by decide) ?_
    refine ae_isub (pc := 12) dX11_down_12 rfl ?_
    refine ae_goto (pc := 13) (t := 17) dX11_down_13 (by decide) ?_
    refine ae_ireturn (pc := 17) dX11_down_17 rfl ?_
    exact ⟨by unfold dwn; first | rw [if_pos c7] | rw [if_neg c7], rfl⟩
theorem sm_element (d : Nat) (M : am_M) (x y : Nat) (hx : x < 1000) (hy : y < 1000) : am_R (d + 1) zX11_element [.int (nI x), .int (nI y)] M (fun v M' => v = some (.int (elN x y)) ∧ M' = M) := by
  refine ae_enter (z := zX11_element) (y := yX11_element) (cc := cX11_element) (mL := 5) (rt := some .int) (ci := 11) (st := true) (np := 2) (L := [some (.int (nI x)), some (.int (nI y)), none, none, none]) rfl (by decide) (Nat.le_of_ble_eq_true rfl) rfl ?_
  have key : ∀ a, a < 4 → ∀ b, b < 4 → ((if b = 0 then 2090 else if b = 1 then 50406 else if b = 2 then 15129 else 63445 : Int64) >>> ((nI 12 - nI 4 * nI a).toInt64 &&& 63)).toInt32 &&& nI 15 = am_mat (4 * b + a) := by decide +kernel
  have hx4 : x % 4 < 4 := Nat.mod_lt _ (by decide)
  have hy4 : y % 4 < 4 := Nat.mod_lt _ (by decide)
  have k9 := key (x % 4) hx4 (y % 4) hy4
  refine ae_iload_n (pc := 0) dX11_element_0 rfl ?_
  refine ae_iconst (pc := 1) (v := nI 4) dX11_element_1 (by decide) ?_
  refine ae_irem (pc := 2) (v := nI (y % 4)) dX11_element_2 (by decide) (nI_mod (by omega) (by decide)) ?_
  refine ae_istore_n (pc := 3) dX11_element_3 rfl (Nat.le_of_ble_eq_true rfl) ?_
  refine ae_iload_n (pc := 4) dX11_element_4 rfl ?_
  refine ae_if_ne (pc := 5) (t := 14) dX11_element_5 (by decide) (fun c5 => ?_) (fun c5 => ?_)
  · have d5 : ¬ y % 4 = 0 := fun q => c5 (by rw [q]; rfl)
    refine ae_iload_n (pc := 14) dX11_element_14 rfl ?_
    refine ae_iconst (pc := 15) (v := nI 1) dX11_element_15 (by decide) ?_
    refine ae_icmp_ne (pc := 16) (t := 25) dX11_element_16 (by decide) (fun c16 => ?_) (fun c16 => ?_)
    · rw [nI_eq (by omega) (by decide)] at c16
      refine ae_iload_n (pc := 25) dX11_element_25 rfl ?_
      refine ae_iconst (pc := 26) (v := nI 2) dX11_element_26 (by decide) ?_
      refine ae_icmp_ne (pc := 27) (t := 36) dX11_element_27 (by decide) (fun c27 => ?_) (fun c27 => ?_)
      · rw [nI_eq (by omega) (by decide)] at c27
        refine ae_ldc2_w (pc := 36) dX11_element_36 rfl ?_
        refine ae_lstore_n (pc := 39) dX11_element_39 rfl (Nat.le_of_ble_eq_true rfl) ?_
        refine ae_lload_n (pc := 40) dX11_element_40 rfl ?_
        refine ae_bipush (pc := 41) (v := nI 12) dX11_element_41 (by decide) ?_
        refine ae_iconst (pc := 43) (v := nI 4) dX11_element_43 (by decide) ?_
        refine ae_iload_n (pc := 44) dX11_element_44 rfl ?_
        refine ae_iconst (pc := 45) (v := nI 4) dX11_element_45 (by decide) ?_
        refine ae_irem (pc := 46) (v := nI (x % 4)) dX11_element_46 (by decide) (nI_mod (by omega) (by decide)) ?_
        refine ae_imul (pc := 47) (v := nI 4 * nI (x % 4)) dX11_element_47 rfl ?_
        refine ae_isub (pc := 48) dX11_element_48 rfl ?_
        refine ae_lshr (pc := 49) dX11_element_49 rfl ?_
        refine ae_l2i (pc := 50) dX11_element_50 rfl ?_
        refine ae_bipush (pc := 51) (v := nI 15) dX11_element_51 (by decide) ?_
        refine ae_iand (pc := 53) dX11_element_53 rfl ?_
        refine ae_ireturn (pc := 54) dX11_element_54 rfl ?_
        refine ⟨?_, rfl⟩
        unfold elN
        rw [← k9]
        first | (rw [if_pos d5]; done) | (rw [if_neg d5, if_pos (Classical.not_not.mp c16)]; done) | (rw [if_neg d5, if_neg c16, if_pos (Classical.not_not.mp c27)]; done) | (rw [if_neg d5, if_neg c16, if_neg c27]; done)
      · rw [nI_eq (by omega) (by decide)] at c27
        refine ae_ldc2_w (pc := 30) dX11_element_30 rfl ?_
        refine ae_goto (pc := 33) (t := 39) dX11_element_33 (by decide) ?_
        refine ae_lstore_n (pc := 39) dX11_element_39 rfl (Nat.le_of_ble_eq_true rfl) ?_
        refine ae_lload_n (pc := 40) dX11_element_40 rfl ?_
        refine ae_bipush (pc := 41) (v := nI 12) dX11_element_41 (by decide) ?_
        refine ae_iconst (pc := 43) (v := nI 4) dX11_element_43 (by decide) ?_
        refine ae_iload_n (pc := 44) dX11_element_44 rfl ?_
        refine ae_iconst (pc := 45) (v := nI 4) dX11_element_45 (by decide) ?_
        refine ae_irem (pc := 46) (v := nI (x % 4)) dX11_element_46 (by decide) (nI_mod (by omega) (by decide)) ?_
        refine ae_imul (pc := 47) (v := nI 4 * nI (x % 4)) dX11_element_47 rfl ?_
        refine ae_isub (pc := 48) dX11_element_48 rfl ?_
        refine ae_lshr (pc := 49) dX11_element_49 rfl ?_
        refine ae_l2i (pc := 50) dX11_element_50 rfl ?_
        refine ae_bipush (pc := 51) (v := nI 15) dX11_element_51 (by decide) ?_
        refine ae_iand (pc := 53) dX11_element_53 rfl ?_
        refine ae_ireturn (pc := 54) dX11_element_54 rfl ?_
        refine ⟨?_, rfl⟩
        unfold elN
        rw [← k9]
        first | (rw [if_pos d5]; done) | (rw [if_neg d5, if_pos (Classical.not_not.mp c16)]; done) | (rw [if_neg d5, if_neg c16, if_pos (Classical.not_not.mp c27)]; done) | (rw [if_neg d5, if_neg c16, if_neg c27]; done)
    · rw [nI_eq (by omega) (by decide)] at c16
      refine ae_ldc2_w (pc := 19) dX11_element_19 rfl ?_
      refine ae_goto (pc := 22) (t := 39) dX11_element_22 (by decide) ?_
      refine ae_lstore_n (pc := 39) dX11_element_39 rfl (Nat.le_of_ble_eq_true rfl) ?_
      refine ae_lload_n (pc := 40) dX11_element_40 rfl ?_
      refine ae_bipush (pc := 41) (v := nI 12) dX11_element_41 (by decide) ?_
      refine ae_iconst (pc := 43) (v := nI 4) dX11_element_43 (by decide) ?_
      refine ae_iload_n (pc := 44) dX11_element_44 rfl ?_
      refine ae_iconst (pc := 45) (v := nI 4) dX11_element_45 (by decide) ?_
      refine ae_irem (pc := 46) (v := nI (x % 4)) dX11_element_46 (by decide) (nI_mod (by omega) (by decide)) ?_
      refine ae_imul (pc := 47) (v := nI 4 * nI (x % 4)) dX11_element_47 rfl ?_
      refine ae_isub (pc := 48) dX11_element_48 rfl ?_
      refine ae_lshr (pc := 49) dX11_element_49 rfl ?_
      refine ae_l2i (pc := 50) dX11_element_50 rfl ?_
      refine ae_bipush (pc := 51) (v := nI 15) dX11_element_51 (by decide) ?_
      refine ae_iand (pc := 53) dX11_element_53 rfl ?_
      refine ae_ireturn (pc := 54) dX11_element_54 rfl ?_
      refine ⟨?_, rfl⟩
      unfold elN
      rw [← k9]
      first | (rw [if_pos d5]; done) | (rw [if_neg d5, if_pos (Classical.not_not.mp c16)]; done) | (rw [if_neg d5, if_neg c16, if_pos (Classical.not_not.mp c27)]; done) | (rw [if_neg d5, if_neg c16, if_neg c27]; done)
  · have d5 : y % 4 = 0 := by have := Classical.not_not.mp c5; rwa [show (0 : Int32) = nI 0 from rfl, nI_eq (by omega) (by decide)] at this
    refine ae_ldc2_w (pc := 8) dX11_element_8 rfl ?_
    refine ae_goto (pc := 11) (t := 39) dX11_element_11 (by decide) ?_
    refine ae_lstore_n (pc := 39) dX11_element_39 rfl (Nat.le_of_ble_eq_true rfl) ?_
    refine ae_lload_n (pc := 40) dX11_element_40 rfl ?_
    refine ae_bipush (pc := 41) (v := nI 12) dX11_element_41 (by decide) ?_
    refine ae_iconst (pc := 43) (v := nI 4) dX11_element_43 (by decide) ?_
    refine ae_iload_n (pc := 44) dX11_element_44 rfl ?_
    refine ae_iconst (pc := 45) (v := nI 4) dX11_element_45 (by decide) ?_
    refine ae_irem (pc := 46) (v := nI (x % 4)) dX11_element_46 (by decide) (nI_mod (by omega) (by decide)) ?_
    refine ae_imul (pc := 47) (v := nI 4 * nI (x % 4)) dX11_element_47 rfl ?_
    refine ae_isub (pc := 48) dX11_element_48 rfl ?_
    refine ae_lshr (pc := 49) dX11_element_49 rfl ?_
    refine ae_l2i (pc := 50) dX11_element_50 rfl ?_
    refine ae_bipush (pc := 51) (v := nI 15) dX11_element_51 (by decide) ?_
    refine ae_iand (pc := 53) dX11_element_53 rfl ?_
    refine ae_ireturn (pc := 54) dX11_element_54 rfl ?_
    refine ⟨?_, rfl⟩
    unfold elN
    rw [← k9]
    first | (rw [if_pos d5]; done) | (rw [if_neg d5, if_pos (Classical.not_not.mp c16)]; done) | (rw [if_neg d5, if_neg c16, if_pos (Classical.not_not.mp c27)]; done) | (rw [if_neg d5, if_neg c16, if_neg c27]; done)
theorem sm_dithered (d : Nat) (M : am_M) (hf : wf0 (M.1 34)) (p : Nat) (hp : p < fA (M.1 34)) (s : Int32) : am_R (d + 5) zX11_dithered [.ref 33, .int (nI p), .int s] M (fun v M' => v = some (.int (oI (ner (M.1 34) (diC (M.1 34) p s 3)))) ∧ M' = M) := by
  refine ae_enter (z := zX11_dithered) (y := yX11_dithered) (cc := cX11_dithered) (mL := 6) (rt := some .int) (ci := 11) (st := false) (np := 2) (L := [some (.ref 33), some (.int (nI p)), some (.int s), none, none, none]) rfl (by decide) (Nat.le_of_ble_eq_true rfl) rfl ?_
  have hA := fA_le hf
  obtain ⟨⟨w1, w2, w3⟩, -, -⟩ := id hf
  have m1 : p % fW (M.1 34) < 1000 := Nat.lt_of_le_of_lt (Nat.mod_le _ _) (by omega)
  have m2 : p / fW (M.1 34) < 1000 := Nat.lt_of_le_of_lt (Nat.div_le_self _ _) (by omega)
  refine ae_iconst (pc := 0) (v := nI 0) dX11_dithered_0 (by decide) ?_
  refine ae_istore_n (pc := 1) dX11_dithered_1 rfl (Nat.le_of_ble_eq_true rfl) ?_
  refine ae_iconst (pc := 2) (v := nI 2) dX11_dithered_2 (by decide) ?_
  refine ae_iload_n (pc := 3) dX11_dithered_3 rfl ?_
  refine ae_aload_n (pc := 4) dX11_dithered_4 rfl ?_
  refine ae_getR (pc := 5) (k := 33) (c := 11) (j := 0) (q := 34) dX11_dithered_5 rfl rfl (Nat.le_of_ble_eq_true rfl) rfl (Nat.le_of_ble_eq_true rfl) rfl ?_
  refine ae_iconst (pc := 8) (v := nI 0) dX11_dithered_8 (by decide) ?_
  refine ae_iaload (pc := 9) (k := 34) (N := 549) (v := nI (fW (M.1 34))) _ dX11_dithered_9 (Nat.le_of_ble_eq_true rfl) rfl rfl rfl (by omega) w1 ?_
  refine ae_irem (pc := 10) (v := nI (p % fW (M.1 34))) dX11_dithered_10 (nI_ne0 (by omega) (by omega)) (nI_mod (by omega) (by omega)) ?_
  refine ae_iload_n (pc := 11) dX11_dithered_11 rfl ?_
  refine ae_aload_n (pc := 12) dX11_dithered_12 rfl ?_
  refine ae_getR (pc := 13) (k := 33) (c := 11) (j := 0) (q := 34) dX11_dithered_13 rfl rfl (Nat.le_of_ble_eq_true rfl) rfl (Nat.le_of_ble_eq_true rfl) rfl ?_
  refine ae_iconst (pc := 16) (v := nI 0) dX11_dithered_16 (by decide) ?_
  refine ae_iaload (pc := 17) (k := 34) (N := 549) (v := nI (fW (M.1 34))) _ dX11_dithered_17 (Nat.le_of_ble_eq_true rfl) rfl rfl rfl (by omega) w1 ?_
  refine ae_idiv (pc := 18) (v := nI (p / fW (M.1 34))) dX11_dithered_18 (nI_ne0 (by omega) (by omega)) (nI_div (by omega) (by omega)) ?_
  refine ae_pcallS (pc := 19) (z := zX11_element) (As := [_, _]) dX11_dithered_19 rfl rfl rfl rfl (Nat.le_of_ble_eq_true rfl) (sm_element (d + 3) M _ _ m1 m2) ?_
  refine ae_imul (pc := 22) dX11_dithered_22 rfl ?_
  refine ae_bipush (pc := 23) (v := nI 15) dX11_dithered_23 (by decide) ?_
  refine ae_isub (pc := 25) dX11_dithered_25 rfl ?_
  refine ae_iload_n (pc := 26) dX11_dithered_26 rfl ?_
  refine ae_imul (pc := 27) dX11_dithered_27 rfl ?_
  refine ae_bipush (pc := 28) (v := nI 16) dX11_dithered_28 (by decide) ?_
  refine ae_idiv (pc := 30) dX11_dithered_30 (by decide) rfl ?_
  refine ae_istore (pc := 31) (v := diB (M.1 34) p s) dX11_dithered_31 rfl (Nat.le_of_ble_eq_true rfl) ?_
  refine ae_iconst (pc := 33) (v := nI 0) dX11_dithered_33 (by decide) ?_
  refine ae_istore (pc := 34) dX11_dithered_34 rfl (Nat.le_of_ble_eq_true rfl) ?_
  skip
  refine am_down (P := fun c => am_E none (am_R (d + 4)) cX11_dithered 11 (some .int) _ (36, [some (.ref 33), some (.int (nI p)), some (.int s), some (.int (diC (M.1 34) p s c)), some (.int (diB (M.1 34) p s)), some (.int (nI c))], [], M)) 3 (fun c hc ih => ?_)
  refine ae_iload (pc := 36) dX11_dithered_36 rfl ?_
  refine ae_iconst (pc := 38) (v := nI 3) dX11_dithered_38 (by decide) ?_
  refine ae_icmp_ge (pc := 39) (t := 74) dX11_dithered_39 (by decide) (fun c39 => ?_) (fun c39 => ?_)
  · have hc2 : c = 3 := by rw [nI_leI (by omega) (by omega)] at c39; omega
    subst hc2
    refine ae_aload_n (pc := 74) dX11_dithered_74 rfl ?_
    refine ae_iload_n (pc := 75) dX11_dithered_75 rfl ?_
    refine ae_pcallV (pc := 76) (z := zX11_near) (k := 33) (As := [_]) dX11_dithered_76 rfl rfl rfl rfl (Nat.le_of_ble_eq_true rfl) rfl (Nat.le_of_ble_eq_true rfl) (Nat.le_of_ble_eq_true rfl) (sm_near d M hf _) ?_
    refine ae_ireturn (pc := 79) dX11_dithered_79 rfl ?_
    exact ⟨rfl, rfl⟩
  · have hc2 : c < 3 := by rw [nI_leI (by omega) (by omega)] at c39; omega
    refine ae_sipush (pc := 42) (v := nI 256) dX11_dithered_42 (by decide) ?_
    refine ae_iload_n (pc := 45) dX11_dithered_45 rfl ?_
    refine ae_imul (pc := 46) dX11_dithered_46 rfl ?_
    refine ae_aload_n (pc := 47) dX11_dithered_47 rfl ?_
    refine ae_getR (pc := 48) (k := 33) (c := 11) (j := 0) (q := 34) dX11_dithered_48 rfl rfl (Nat.le_of_ble_eq_true rfl) rfl (Nat.le_of_ble_eq_true rfl) rfl ?_
    refine ae_iconst (pc := 51) (v := nI 2) dX11_dithered_51 (by decide) ?_
    refine ae_iload_n (pc := 52) dX11_dithered_52 rfl ?_
    refine ae_iadd (pc := 53) dX11_dithered_53 (nI_add _ _) ?_
    refine ae_iaload (pc := 54) (k := 34) (N := 549) _ dX11_dithered_54 (Nat.le_of_ble_eq_true rfl) rfl rfl rfl (by omega) rfl ?_
    refine ae_iload (pc := 55) dX11_dithered_55 rfl ?_
    refine ae_pcallS (pc := 57) (z := zX11_channel) (As := [_, _]) dX11_dithered_57 rfl rfl rfl rfl (Nat.le_of_ble_eq_true rfl) (sm_channel (d + 3) _ _ _) ?_
    refine ae_iload (pc := 60) dX11_dithered_60 rfl ?_
    refine ae_iadd (pc := 62) dX11_dithered_62 rfl ?_
    refine ae_pcallS (pc := 63) (z := zX11_limited) (As := [_]) dX11_dithered_63 rfl rfl rfl rfl (Nat.le_of_ble_eq_true rfl) (sm_limited (d + 3) _ _) ?_
    refine ae_iadd (pc := 66) dX11_dithered_66 rfl ?_
    refine ae_istore_n (pc := 67) (v := diC (M.1 34) p s (c + 1)) dX11_dithered_67 rfl (Nat.le_of_ble_eq_true rfl) ?_
    refine ae_iinc (pc := 68) (v := nI (c + 1)) dX11_dithered_68 rfl (nI_inc c) ?_
    refine ae_goto (pc := 71) (t := 36) dX11_dithered_71 (by decide) ?_
    exact ih hc2
theorem sm_gives (d : Nat) (M : am_M) (hf : wf0 (M.1 34)) (x y : Int32) (c : Nat) (hc : c < 3) (v : Int32) : am_R (d + 3) zX11_gives [.ref 33, .int x, .int y, .int (nI c), .int v] M (fun r M' => r = none ∧ M' = (am_u M.1 48 (gvT (M.1 34) x y c v (M.1 48)), M.2)) := by
  refine ae_enter (z := zX11_gives) (y := yX11_gives) (cc := cX11_gives) (mL := 5) (rt := none) (ci := 11) (st := false) (np := 4) (L := [some (.ref 33), some (.int x), some (.int y), some (.int (nI c)), some (.int v)]) rfl (by decide) (Nat.le_of_ble_eq_true rfl) rfl ?_
  have hA := fA_le hf
  by_cases h1 : inP (M.1 34) x y
  · obtain ⟨a, b, a1, b1, rfl, rfl, e1, e2⟩ := gvT_at hf h1 hc
    have hp := pl_lt hf a1 b1
    by_cases h2 : M.1 34 (2 + (b * fW (M.1 34) + a)) ≠ -1
    · have eg : gvT (M.1 34) (nI a) (nI b) c v (M.1 48) = upd (M.1 48) (3 * (b * fW (M.1 34) + a) + c) (M.1 48 (3 * (b * fW (M.1 34) + a) + c) + v) := by unfold gvT; rw [e1, if_pos ⟨h1, h2⟩]
      rw [eg]
      refine ae_aload_n (pc := 0) dX11_gives_0 rfl ?_
      refine ae_iload_n (pc := 1) dX11_gives_1 rfl ?_
      refine ae_iload_n (pc := 2) dX11_gives_2 rfl ?_
      refine ae_pcallV (pc := 3) (z := zX11_isPixel) (k := 33) (As := [_, _]) dX11_gives_3 rfl rfl rfl rfl (Nat.le_of_ble_eq_true rfl) rfl (Nat.le_of_ble_eq_true rfl) (Nat.le_of_ble_eq_true rfl) (sm_isPixel d M _ _) ?_
      refine ae_if_eq (pc := 6) (t := 50) dX11_gives_6 (by decide) (fun c6 => ?_) (fun c6 => ?_)
      · exact absurd h1 (bI_eq0.mp c6)
      refine ae_aload_n (pc := 9) dX11_gives_9 rfl ?_
      refine ae_iload_n (pc := 10) dX11_gives_10 rfl ?_
      refine ae_aload_n (pc := 11) dX11_gives_11 rfl ?_
      refine ae_getR (pc := 12) (k := 33) (c := 11) (j := 0) (q := 34) dX11_gives_12 rfl rfl (Nat.le_of_ble_eq_true rfl) rfl (Nat.le_of_ble_eq_true rfl) rfl ?_
      refine ae_iconst (pc := 15) (v := nI 0) dX11_gives_15 (by decide) ?_
      refine ae_iaload (pc := 16) (k := 34) (N := 549) (v := nI (fW (M.1 34))) _ dX11_gives_16 (Nat.le_of_ble_eq_true rfl) rfl rfl rfl (by omega) hf.1.1 ?_
      refine ae_imul (pc := 17) (v := nI (b * fW (M.1 34))) dX11_gives_17 (nI_mul _ _) ?_
      refine ae_iload_n (pc := 18) dX11_gives_18 rfl ?_
      refine ae_iadd (pc := 19) (v := nI (b * fW (M.1 34) + a)) dX11_gives_19 (nI_add _ _) ?_
      refine ae_pcallV (pc := 20) (z := zX11_isOpaque) (k := 33) (As := [_]) dX11_gives_20 rfl rfl rfl rfl (Nat.le_of_ble_eq_true rfl) rfl (Nat.le_of_ble_eq_true rfl) (Nat.le_of_ble_eq_true rfl) (sm_isOpaque (d + 1) M (b * fW (M.1 34) + a) (by omega)) ?_
      refine ae_if_eq (pc := 23) (t := 50) dX11_gives_23 (by decide) (fun c23 => ?_) (fun c23 => ?_)
      · exact absurd h2 (bI_eq0.mp c23)
      refine ae_aload_n (pc := 26) dX11_gives_26 rfl ?_
      refine ae_getR (pc := 27) (k := 33) (c := 11) (j := 19) (q := 48) dX11_gives_27 rfl rfl (Nat.le_of_ble_eq_true rfl) rfl (Nat.le_of_ble_eq_true rfl) rfl ?_
      refine ae_iconst (pc := 30) (v := nI 3) dX11_gives_30 (by decide) ?_
      refine ae_iload_n (pc := 31) dX11_gives_31 rfl ?_
      refine ae_aload_n (pc := 32) dX11_gives_32 rfl ?_
      refine ae_getR (pc := 33) (k := 33) (c := 11) (j := 0) (q := 34) dX11_gives_33 rfl rfl (Nat.le_of_ble_eq_true rfl) rfl (Nat.le_of_ble_eq_true rfl) rfl ?_
      refine ae_iconst (pc := 36) (v := nI 0) dX11_gives_36 (by decide) ?_
      refine ae_iaload (pc := 37) (k := 34) (N := 549) (v := nI (fW (M.1 34))) _ dX11_gives_37 (Nat.le_of_ble_eq_true rfl) rfl rfl rfl (by omega) hf.1.1 ?_
      refine ae_imul (pc := 38) (v := nI (b * fW (M.1 34))) dX11_gives_38 (nI_mul _ _) ?_
      refine ae_iload_n (pc := 39) dX11_gives_39 rfl ?_
      refine ae_iadd (pc := 40) (v := nI (b * fW (M.1 34) + a)) dX11_gives_40 (nI_add _ _) ?_
      refine ae_imul (pc := 41) (v := nI (3 * (b * fW (M.1 34) + a))) dX11_gives_41 (nI_mul _ _) ?_
      refine ae_iload_n (pc := 42) dX11_gives_42 rfl ?_
      refine ae_iadd (pc := 43) (v := nI (3 * (b * fW (M.1 34) + a) + c)) dX11_gives_43 (nI_add _ _) ?_
      refine ae_dup2 (pc := 44) dX11_gives_44 rfl rfl ?_
      refine ae_iaload (pc := 45) (k := 48) (N := 768) (3 * (b * fW (M.1 34) + a) + c) dX11_gives_45 (Nat.le_of_ble_eq_true rfl) rfl rfl rfl (by omega) rfl ?_
      refine ae_iload (pc := 46) dX11_gives_46 rfl ?_
      refine ae_iadd (pc := 48) dX11_gives_48 rfl ?_
      refine ae_iastore (pc := 49) (k := 48) (N := 768) (3 * (b * fW (M.1 34) + a) + c) dX11_gives_49 (Nat.le_of_ble_eq_true rfl) rfl rfl rfl (by omega) rfl ?_
      refine ae_return (pc := 50) dX11_gives_50 rfl ?_
      exact ⟨rfl, rfl⟩
    · have eg : gvT (M.1 34) (nI a) (nI b) c v (M.1 48) = M.1 48 := by unfold gvT; rw [e1, if_neg (fun q => h2 q.2)]
      rw [eg, am_u_eta]
      refine ae_aload_n (pc := 0) dX11_gives_0 rfl ?_
      refine ae_iload_n (pc := 1) dX11_gives_1 rfl ?_
      refine ae_iload_n (pc := 2) dX11_gives_2 rfl ?_
      refine ae_pcallV (pc := 3) (z := zX11_isPixel) (k := 33) (As := [_, _]) dX11_gives_3 rfl rfl rfl rfl (Nat.le_of_ble_eq_true rfl) rfl (Nat.le_of_ble_eq_true rfl) (Nat.le_of_ble_eq_true rfl) (sm_isPixel d M _ _) ?_
      refine ae_if_eq (pc := 6) (t := 50) dX11_gives_6 (by decide) (fun c6 => ?_) (fun c6 => ?_)
      · exact absurd h1 (bI_eq0.mp c6)
      refine ae_aload_n (pc := 9) dX11_gives_9 rfl ?_
      refine ae_iload_n (pc := 10) dX11_gives_10 rfl ?_
      refine ae_aload_n (pc := 11) dX11_gives_11 rfl ?_
      refine ae_getR (pc := 12) (k := 33) (c := 11) (j := 0) (q := 34) dX11_gives_12 rfl rfl (Nat.le_of_ble_eq_true rfl) rfl (Nat.le_of_ble_eq_true rfl) rfl ?_
      refine ae_iconst (pc := 15) (v := nI 0) dX11_gives_15 (by decide) ?_
      refine ae_iaload (pc := 16) (k := 34) (N := 549) (v := nI (fW (M.1 34))) _ dX11_gives_16 (Nat.le_of_ble_eq_true rfl) rfl rfl rfl (by omega) hf.1.1 ?_
      refine ae_imul (pc := 17) (v := nI (b * fW (M.1 34))) dX11_gives_17 (nI_mul _ _) ?_
      refine ae_iload_n (pc := 18) dX11_gives_18 rfl ?_
      refine ae_iadd (pc := 19) (v := nI (b * fW (M.1 34) + a)) dX11_gives_19 (nI_add _ _) ?_
      refine ae_pcallV (pc := 20) (z := zX11_isOpaque) (k := 33) (As := [_]) dX11_gives_20 rfl rfl rfl rfl (Nat.le_of_ble_eq_true rfl) rfl (Nat.le_of_ble_eq_true rfl) (Nat.le_of_ble_eq_true rfl) (sm_isOpaque (d + 1) M (b * fW (M.1 34) + a) (by omega)) ?_
      refine ae_if_eq (pc := 23) (t := 50) dX11_gives_23 (by decide) (fun c23 => ?_) (fun c23 => ?_)
      rotate_left
      · exact absurd (bI_ne0.mp c23) h2
      refine ae_return (pc := 50) dX11_gives_50 rfl ?_
      exact ⟨rfl, rfl⟩
  · have eg : gvT (M.1 34) x y c v (M.1 48) = M.1 48 := by unfold gvT; rw [if_neg (fun q => h1 q.1)]
    rw [eg, am_u_eta]
    refine ae_aload_n (pc := 0) dX11_gives_0 rfl ?_
    refine ae_iload_n (pc := 1) dX11_gives_1 rfl ?_
    refine ae_iload_n (pc := 2) dX11_gives_2 rfl ?_
    refine ae_pcallV (pc := 3) (z := zX11_isPixel) (k := 33) (As := [_, _]) dX11_gives_3 rfl rfl rfl rfl (Nat.le_of_ble_eq_true rfl) rfl (Nat.le_of_ble_eq_true rfl) (Nat.le_of_ble_eq_true rfl) (sm_isPixel d M _ _) ?_
    refine ae_if_eq (pc := 6) (t := 50) dX11_gives_6 (by decide) (fun c6 => ?_) (fun c6 => ?_)
    rotate_left
    · exact absurd (bI_ne0.mp c6) h1
    refine ae_return (pc := 50) dX11_gives_50 rfl ?_
    exact ⟨rfl, rfl⟩
theorem sm_gives' (d : Nat) (M : am_M) (hf : wf0 (M.1 34)) (T : fT) (x y : Int32) (c : Nat) (hc : c < 3) (v : Int32) : am_R (d + 3) zX11_gives [.ref 33, .int x, .int y, .int (nI c), .int v] (gM M T) (fun r M' => r = none ∧ M' = gM M (gvT (M.1 34) x y c v T)) := by
  have := sm_gives d (gM M T) (by rw [gM_34]; exact hf) x y c hc v
  rw [gM_34, gM_48] at this
  refine this.mono (fun r M' q => ⟨q.1, q.2.trans ?_⟩)
  unfold gM
  simp only [am_u_u]
theorem sm_spreads (d : Nat) (M : am_M) (hf : wf0 (M.1 34)) (T : fT) (x y c : Nat) (hc : c < 3) (hy : y < 100) (e : Int32) (mt : Nat) (hm : mt < 4) : am_R (d + 4) zX11_spreads [.ref 33, .int (nI x), .int (nI y), .int (nI c), .int e, .int (nI mt)] (gM M T) (fun r M' => r = none ∧ M' = gM M (spT (M.1 34) x y c e mt T)) := by
  refine ae_enter (z := zX11_spreads) (y := yX11_spreads) (cc := cX11_spreads) (mL := 10) (rt := none) (ci := 11) (st := false) (np := 5) (L := [some (.ref 33), some (.int (nI x)), some (.int (nI y)), some (.int (nI c)), some (.int e), some (.int (nI mt)), none, none, none, none]) rfl (by decide) (Nat.le_of_ble_eq_true rfl) rfl ?_
  have g := fun T x y v => sm_gives' d M hf T x y c hc v
  have ea : (nI (y % 2) = 0 ∧ ahd y = nI 1) ∨ (¬ nI (y % 2) = 0 ∧ ahd y = -1) := by
    unfold ahd
    rcases (show y % 2 = 0 ∨ y % 2 = 1 by omega) with q | q <;> rw [q]
    · exact Or.inl ⟨rfl, rfl⟩
    · exact Or.inr ⟨by decide, rfl⟩
  have go : am_E none (am_R (d + 3)) cX11_spreads 11 none (fun r M' => r = none ∧ M' = gM M (spT (M.1 34) x y c e mt T)) (11, [some (.ref 33), some (.int (nI x)), some (.int (nI y)), some (.int (nI c)), some (.int e), some (.int (nI mt)), none, none, none, none], [.int (ahd y)], gM M T) := by
    by_cases h2 : mt = 2
    · subst h2
      have e1 : spT (M.1 34) x y c e 2 T = sp2 (M.1 34) x y c e T := if_pos rfl
      rw [e1]
      unfold sp2
      refine ae_istore (pc := 11) dX11_spreads_11 rfl (Nat.le_of_ble_eq_true rfl) ?_
      refine ae_iload (pc := 13) dX11_spreads_13 rfl ?_
      refine ae_iconst (pc := 15) (v := nI 2) dX11_spreads_15 (by decide) ?_
      refine ae_icmp_ne (pc := 16) (t := 116) dX11_spreads_16 (by decide) (fun q => absurd rfl q) (fun _ => ?_)
      refine ae_bipush (pc := 19) (v := nI 7) dX11_spreads_19 (by decide) ?_
      refine ae_iload (pc := 21) dX11_spreads_21 rfl ?_
      refine ae_imul (pc := 23) dX11_spreads_23 rfl ?_
      refine ae_bipush (pc := 24) (v := nI 16) dX11_spreads_24 (by decide) ?_
      refine ae_pcallS (pc := 26) (z := zX11_down) (As := [_, _]) dX11_spreads_26 rfl rfl rfl rfl (Nat.le_of_ble_eq_true rfl) (sm_down (d + 2) _ _ _ (by decide)) ?_
      refine ae_istore (pc := 29) dX11_spreads_29 rfl (Nat.le_of_ble_eq_true rfl) ?_
      refine ae_iconst (pc := 31) (v := nI 3) dX11_spreads_31 (by decide) ?_
      refine ae_iload (pc := 32) dX11_spreads_32 rfl ?_
      refine ae_imul (pc := 34) dX11_spreads_34 rfl ?_
      refine ae_bipush (pc := 35) (v := nI 16) dX11_spreads_35 (by decide) ?_
      refine ae_pcallS (pc := 37) (z := zX11_down) (As := [_, _]) dX11_spreads_37 rfl rfl rfl rfl (Nat.le_of_ble_eq_true rfl) (sm_down (d + 2) _ _ _ (by decide)) ?_
      refine ae_istore (pc := 40) dX11_spreads_40 rfl (Nat.le_of_ble_eq_true rfl) ?_
      refine ae_iconst (pc := 42) (v := nI 5) dX11_spreads_42 (by decide) ?_
      refine ae_iload (pc := 43) dX11_spreads_43 rfl ?_
      refine ae_imul (pc := 45) dX11_spreads_45 rfl ?_
      refine ae_bipush (pc := 46) (v := nI 16) dX11_spreads_46 (by decide) ?_
      refine ae_pcallS (pc := 48) (z := zX11_down) (As := [_, _]) dX11_spreads_48 rfl rfl rfl rfl (Nat.le_of_ble_eq_true rfl) (sm_down (d + 2) _ _ _ (by decide)) ?_
      refine ae_istore (pc := 51) dX11_spreads_51 rfl (Nat.le_of_ble_eq_true rfl) ?_
      refine ae_aload_n (pc := 53) dX11_spreads_53 rfl ?_
      refine ae_iload_n (pc := 54) dX11_spreads_54 rfl ?_
      refine ae_iload (pc := 55) dX11_spreads_55 rfl ?_
      refine ae_iadd (pc := 57) dX11_spreads_57 rfl ?_
      refine ae_iload_n (pc := 58) dX11_spreads_58 rfl ?_
      refine ae_iload_n (pc := 59) dX11_spreads_59 rfl ?_
      refine ae_iload (pc := 60) dX11_spreads_60 rfl ?_
      refine ae_callV (pc := 62) (z := zX11_gives) (k := 33) (As := [_, _, _, _]) dX11_spreads_62 rfl rfl rfl rfl (Nat.le_of_ble_eq_true rfl) rfl (Nat.le_of_ble_eq_true rfl) (Nat.le_of_ble_eq_true rfl) (g _ _ _ _) (fun v M' hq => ?_)
      obtain ⟨rfl, rfl⟩ := hq
      refine ae_aload_n (pc := 65) dX11_spreads_65 rfl ?_
      refine ae_iload_n (pc := 66) dX11_spreads_66 rfl ?_
      refine ae_iload (pc := 67) dX11_spreads_67 rfl ?_
      refine ae_isub (pc := 69) dX11_spreads_69 rfl ?_
      refine ae_iload_n (pc := 70) dX11_spreads_70 rfl ?_
      refine ae_iconst (pc := 71) (v := nI 1) dX11_spreads_71 (by decide) ?_
      refine ae_iadd (pc := 72) (v := nI y + nI 1) dX11_spreads_72 rfl ?_
      refine ae_iload_n (pc := 73) dX11_spreads_73 rfl ?_
      refine ae_iload (pc := 74) dX11_spreads_74 rfl ?_
      refine ae_callV (pc := 76) (z := zX11_gives) (k := 33) (As := [_, _, _, _]) dX11_spreads_76 rfl rfl rfl rfl (Nat.le_of_ble_eq_true rfl) rfl (Nat.le_of_ble_eq_true rfl) (Nat.le_of_ble_eq_true rfl) (g _ _ _ _) (fun v M' hq => ?_)
      obtain ⟨rfl, rfl⟩ := hq
      refine ae_aload_n (pc := 79) dX11_spreads_79 rfl ?_
      refine ae_iload_n (pc := 80) dX11_spreads_80 rfl ?_
      refine ae_iload_n (pc := 81) dX11_spreads_81 rfl ?_
      refine ae_iconst (pc := 82) (v := nI 1) dX11_spreads_82 (by decide) ?_
      refine ae_iadd (pc := 83) (v := nI y + nI 1) dX11_spreads_83 rfl ?_
      refine ae_iload_n (pc := 84) dX11_spreads_84 rfl ?_
      refine ae_iload (pc := 85) dX11_spreads_85 rfl ?_
      refine ae_callV (pc := 87) (z := zX11_gives) (k := 33) (As := [_, _, _, _]) dX11_spreads_87 rfl rfl rfl rfl (Nat.le_of_ble_eq_true rfl) rfl (Nat.le_of_ble_eq_true rfl) (Nat.le_of_ble_eq_true rfl) (g _ _ _ _) (fun v M' hq => ?_)
      obtain ⟨rfl, rfl⟩ := hq
      refine ae_aload_n (pc := 90) dX11_spreads_90 rfl ?_
      refine ae_iload_n (pc := 91) dX11_spreads_91 rfl ?_
      refine ae_iload (pc := 92) dX11_spreads_92 rfl ?_
      refine ae_iadd (pc := 94) dX11_spreads_94 rfl ?_
      refine ae_iload_n (pc := 95) dX11_spreads_95 rfl ?_
      refine ae_iconst (pc := 96) (v := nI 1) dX11_spreads_96 (by decide) ?_
      refine ae_iadd (pc := 97) (v := nI y + nI 1) dX11_spreads_97 rfl ?_
      refine ae_iload_n (pc := 98) dX11_spreads_98 rfl ?_
      refine ae_iload (pc := 99) dX11_spreads_99 rfl ?_
      refine ae_iload (pc := 101) dX11_spreads_101 rfl ?_
      refine ae_isub (pc := 103) dX11_spreads_103 rfl ?_
      refine ae_iload (pc := 104) dX11_spreads_104 rfl ?_
      refine ae_isub (pc := 106) dX11_spreads_106 rfl ?_
      refine ae_iload (pc := 107) dX11_spreads_107 rfl ?_
      refine ae_isub (pc := 109) dX11_spreads_109 rfl ?_
      refine ae_callV (pc := 110) (z := zX11_gives) (k := 33) (As := [_, _, _, _]) dX11_spreads_110 rfl rfl rfl rfl (Nat.le_of_ble_eq_true rfl) rfl (Nat.le_of_ble_eq_true rfl) (Nat.le_of_ble_eq_true rfl) (g _ _ _ _) (fun v M' hq => ?_)
      obtain ⟨rfl, rfl⟩ := hq
      refine ae_goto (pc := 113) (t := 199) dX11_spreads_113 (by decide) ?_
      refine ae_return (pc := 199) dX11_spreads_199 rfl ?_
      exact ⟨rfl, rfl⟩
    · have e1 : spT (M.1 34) x y c e mt T = sp3 (M.1 34) x y c e T := by unfold spT; rw [if_neg h2]
      rw [e1]
      unfold sp3
      refine ae_istore (pc := 11) dX11_spreads_11 rfl (Nat.le_of_ble_eq_true rfl) ?_
      refine ae_iload (pc := 13) dX11_spreads_13 rfl ?_
      refine ae_iconst (pc := 15) (v := nI 2) dX11_spreads_15 (by decide) ?_
      refine ae_icmp_ne (pc := 16) (t := 116) dX11_spreads_16 (by decide) (fun _ => ?_) (fun q => absurd ((nI_eq (by omega) (by decide)).mp (Classical.not_not.mp q)) h2)
      refine ae_iload (pc := 116) dX11_spreads_116 rfl ?_
      refine ae_bipush (pc := 118) (v := nI 8) dX11_spreads_118 (by decide) ?_
      refine ae_pcallS (pc := 120) (z := zX11_down) (As := [_, _]) dX11_spreads_120 rfl rfl rfl rfl (Nat.le_of_ble_eq_true rfl) (sm_down (d + 2) _ _ _ (by decide)) ?_
      refine ae_istore (pc := 123) dX11_spreads_123 rfl (Nat.le_of_ble_eq_true rfl) ?_
      refine ae_aload_n (pc := 125) dX11_spreads_125 rfl ?_
      refine ae_iload_n (pc := 126) dX11_spreads_126 rfl ?_
      refine ae_iload (pc := 127) dX11_spreads_127 rfl ?_
      refine ae_iadd (pc := 129) dX11_spreads_129 rfl ?_
      refine ae_iload_n (pc := 130) dX11_spreads_130 rfl ?_
      refine ae_iload_n (pc := 131) dX11_spreads_131 rfl ?_
      refine ae_iload (pc := 132) dX11_spreads_132 rfl ?_
      refine ae_callV (pc := 134) (z := zX11_gives) (k := 33) (As := [_, _, _, _]) dX11_spreads_134 rfl rfl rfl rfl (Nat.le_of_ble_eq_true rfl) rfl (Nat.le_of_ble_eq_true rfl) (Nat.le_of_ble_eq_true rfl) (g _ _ _ _) (fun v M' hq => ?_)
      obtain ⟨rfl, rfl⟩ := hq
      refine ae_aload_n (pc := 137) dX11_spreads_137 rfl ?_
      refine ae_iload_n (pc := 138) dX11_spreads_138 rfl ?_
      refine ae_iconst (pc := 139) (v := nI 2) dX11_spreads_139 (by decide) ?_
      refine ae_iload (pc := 140) dX11_spreads_140 rfl ?_
      refine ae_imul (pc := 142) dX11_spreads_142 rfl ?_
      refine ae_iadd (pc := 143) dX11_spreads_143 rfl ?_
      refine ae_iload_n (pc := 144) dX11_spreads_144 rfl ?_
      refine ae_iload_n (pc := 145) dX11_spreads_145 rfl ?_
      refine ae_iload (pc := 146) dX11_spreads_146 rfl ?_
      refine ae_callV (pc := 148) (z := zX11_gives) (k := 33) (As := [_, _, _, _]) dX11_spreads_148 rfl rfl rfl rfl (Nat.le_of_ble_eq_true rfl) rfl (Nat.le_of_ble_eq_true rfl) (Nat.le_of_ble_eq_true rfl) (g _ _ _ _) (fun v M' hq => ?_)
      obtain ⟨rfl, rfl⟩ := hq
      refine ae_aload_n (pc := 151) dX11_spreads_151 rfl ?_
      refine ae_iload_n (pc := 152) dX11_spreads_152 rfl ?_
      refine ae_iconst (pc := 153) (v := nI 1) dX11_spreads_153 (by decide) ?_
      refine ae_isub (pc := 154) dX11_spreads_154 rfl ?_
      refine ae_iload_n (pc := 155) dX11_spreads_155 rfl ?_
      refine ae_iconst (pc := 156) (v := nI 1) dX11_spreads_156 (by decide) ?_
      refine ae_iadd (pc := 157) (v := nI y + nI 1) dX11_spreads_157 rfl ?_
      refine ae_iload_n (pc := 158) dX11_spreads_158 rfl ?_
      refine ae_iload (pc := 159) dX11_spreads_159 rfl ?_
      refine ae_callV (pc := 161) (z := zX11_gives) (k := 33) (As := [_, _, _, _]) dX11_spreads_161 rfl rfl rfl rfl (Nat.le_of_ble_eq_true rfl) rfl (Nat.le_of_ble_eq_true rfl) (Nat.le_of_ble_eq_true rfl) (g _ _ _ _) (fun v M' hq => ?_)
      obtain ⟨rfl, rfl⟩ := hq
      refine ae_aload_n (pc := 164) dX11_spreads_164 rfl ?_
      refine ae_iload_n (pc := 165) dX11_spreads_165 rfl ?_
      refine ae_iload_n (pc := 166) dX11_spreads_166 rfl ?_
      refine ae_iconst (pc := 167) (v := nI 1) dX11_spreads_167 (by decide) ?_
      refine ae_iadd (pc := 168) (v := nI y + nI 1) dX11_spreads_168 rfl ?_
      refine ae_iload_n (pc := 169) dX11_spreads_169 rfl ?_
      refine ae_iload (pc := 170) dX11_spreads_170 rfl ?_
      refine ae_callV (pc := 172) (z := zX11_gives) (k := 33) (As := [_, _, _, _]) dX11_spreads_172 rfl rfl rfl rfl (Nat.le_of_ble_eq_true rfl) rfl (Nat.le_of_ble_eq_true rfl) (Nat.le_of_ble_eq_true rfl) (g _ _ _ _) (fun v M' hq => ?_)
      obtain ⟨rfl, rfl⟩ := hq
      refine ae_aload_n (pc := 175) dX11_spreads_175 rfl ?_
      refine ae_iload_n (pc := 176) dX11_spreads_176 rfl ?_
      refine ae_iconst (pc := 177) (v := nI 1) dX11_spreads_177 (by decide) ?_
      refine ae_iadd (pc := 178) (v := nI x + nI 1) dX11_spreads_178 rfl ?_
      refine ae_iload_n (pc := 179) dX11_spreads_179 rfl ?_
      refine ae_iconst (pc := 180) (v := nI 1) dX11_spreads_180 (by decide) ?_
      refine ae_iadd (pc := 181) (v := nI y + nI 1) dX11_spreads_181 rfl ?_
      refine ae_iload_n (pc := 182) dX11_spreads_182 rfl ?_
      refine ae_iload (pc := 183) dX11_spreads_183 rfl ?_
      refine ae_callV (pc := 185) (z := zX11_gives) (k := 33) (As := [_, _, _, _]) dX11_spreads_185 rfl rfl rfl rfl (Nat.le_of_ble_eq_true rfl) rfl (Nat.le_of_ble_eq_true rfl) (Nat.le_of_ble_eq_true rfl) (g _ _ _ _) (fun v M' hq => ?_)
      obtain ⟨rfl, rfl⟩ := hq
      refine ae_aload_n (pc := 188) dX11_spreads_188 rfl ?_
      refine ae_iload_n (pc := 189) dX11_spreads_189 rfl ?_
      refine ae_iload_n (pc := 190) dX11_spreads_190 rfl ?_
      refine ae_iconst (pc := 191) (v := nI 2) dX11_spreads_191 (by decide) ?_
      refine ae_iadd (pc := 192) (v := nI y + nI 2) dX11_spreads_192 rfl ?_
      refine ae_iload_n (pc := 193) dX11_spreads_193 rfl ?_
      refine ae_iload (pc := 194) dX11_spreads_194 rfl ?_
      refine ae_callV (pc := 196) (z := zX11_gives) (k := 33) (As := [_, _, _, _]) dX11_spreads_196 rfl rfl rfl rfl (Nat.le_of_ble_eq_true rfl) rfl (Nat.le_of_ble_eq_true rfl) (Nat.le_of_ble_eq_true rfl) (g _ _ _ _) (fun v M' hq => ?_)
      obtain ⟨rfl, rfl⟩ := hq
      refine ae_return (pc := 199) dX11_spreads_199 rfl ?_
      exact ⟨rfl, rfl⟩
  rcases ea with ⟨z1, z2⟩ | ⟨z1, z2⟩
  · rw [z2] at go
    refine ae_iload_n (pc := 0) dX11_spreads_0 rfl ?_
    refine ae_iconst (pc := 1) (v := nI 2) dX11_spreads_1 (by decide) ?_
    refine ae_irem (pc := 2) (v := nI (y % 2)) dX11_spreads_2 (by decide) (nI_mod (by omega) (by decide)) ?_
    refine ae_if_ne (pc := 3) (t := 10) dX11_spreads_3 (by decide) (fun c3 => ?_) (fun c3 => ?_)
    · exact absurd z1 c3
    refine ae_iconst (pc := 6) (v := nI 1) dX11_spreads_6 (by decide) ?_
    refine ae_goto (pc := 7) (t := 11) dX11_spreads_7 (by decide) ?_
    exact go
  · rw [z2] at go
    refine ae_iload_n (pc := 0) dX11_spreads_0 rfl ?_
    refine ae_iconst (pc := 1) (v := nI 2) dX11_spreads_1 (by decide) ?_
    refine ae_irem (pc := 2) (v := nI (y % 2)) dX11_spreads_2 (by decide) (nI_mod (by omega) (by decide)) ?_
    refine ae_if_ne (pc := 3) (t := 10) dX11_spreads_3 (by decide) (fun c3 => ?_) (fun c3 => ?_)
    rotate_left
    · exact absurd (Classical.not_not.mp c3) z1
    refine ae_iconst (pc := 10) (v := (-1)) dX11_spreads_10 (by decide) ?_
    exact go
theorem sm_visits (d : Nat) (M : am_M) (f T : fT) (hf : wf0 f) (hz : 0 < fN f) (x y : Nat) (hx : x < fW f) (hy : y < fH f) (mt : Nat) (hm : mt < 4) : am_R (d + 5) zX11_visits [.ref 33, .int (nI x), .int (nI y), .int (nI mt)] (gM (rw34 M f) T) (fun r M' => r = none ∧ M' = gM (rw34 M (vsS mt x y (f, T)).1) (vsS mt x y (f, T)).2) := by
  refine ae_enter (z := zX11_visits) (y := yX11_visits) (cc := cX11_visits) (mL := 8) (rt := none) (ci := 11) (st := false) (np := 3) (L := [some (.ref 33), some (.int (nI x)), some (.int (nI y)), some (.int (nI mt)), none, none, none, none]) rfl (by decide) (Nat.le_of_ble_eq_true rfl) rfl ?_
  have hA := fA_le hf
  have hp := pl_lt hf hx hy
  have hh := hf.2.1.2.2
  obtain ⟨-, -, hn1, hn2⟩ := id hf
  have m34 : ∀ f T, (gM (rw34 M f) T).1 34 = f := fun f T => by rw [gM_34, rw34_34]
  generalize hpe : y * fW f + x = p at hp
  refine ae_iload_n (pc := 0) dX11_visits_0 rfl ?_
  refine ae_aload_n (pc := 1) dX11_visits_1 rfl ?_
  refine ae_getR (pc := 2) (k := 33) (c := 11) (j := 0) (q := 34) dX11_visits_2 rfl rfl (Nat.le_of_ble_eq_true rfl) rfl (Nat.le_of_ble_eq_true rfl) rfl ?_
  refine ae_iconst (pc := 5) (v := nI 0) dX11_visits_5 (by decide) ?_
  refine ae_iaload (pc := 6) (k := 34) (N := 549) (v := nI (fW f)) _ dX11_visits_6 (Nat.le_of_ble_eq_true rfl) rfl rfl rfl (by omega) (by rw [m34]; exact hf.1.1) ?_
  refine ae_imul (pc := 7) (v := nI (y * fW f)) dX11_visits_7 (nI_mul _ _) ?_
  refine ae_iload_n (pc := 8) dX11_visits_8 rfl ?_
  refine ae_iadd (pc := 9) (v := nI p) dX11_visits_9 (by rw [nI_add, hpe]) ?_
  refine ae_istore (pc := 10) dX11_visits_10 rfl (Nat.le_of_ble_eq_true rfl) ?_
  refine ae_iconst (pc := 12) (v := nI 0) dX11_visits_12 (by decide) ?_
  refine ae_istore (pc := 13) dX11_visits_13 rfl (Nat.le_of_ble_eq_true rfl) ?_
  refine ae_iconst (pc := 15) (v := nI 0) dX11_visits_15 (by decide) ?_
  refine ae_istore (pc := 16) dX11_visits_16 rfl (Nat.le_of_ble_eq_true rfl) ?_
  skip
  refine am_down (P := fun c => am_E none (am_R (d + 4)) cX11_visits 11 none _ (18, [some (.ref 33), some (.int (nI x)), some (.int (nI y)), some (.int (nI mt)), some (.int (nI p)), some (.int (vsC T p c)), some (.int (nI c)), none], [], gM (rw34 M f) T)) 3 (fun c hc ih => ?_)
  refine ae_iload (pc := 18) dX11_visits_18 rfl ?_
  refine ae_iconst (pc := 20) (v := nI 3) dX11_visits_20 (by decide) ?_
  refine ae_icmp_ge (pc := 21) (t := 62) dX11_visits_21 (by decide) (fun c21 => ?_) (fun c21 => ?_)
  rotate_left
  · have hc2 : c < 3 := by rw [nI_leI (by omega) (by omega)] at c21; omega
    refine ae_sipush (pc := 24) (v := nI 256) dX11_visits_24 (by decide) ?_
    refine ae_iload (pc := 27) dX11_visits_27 rfl ?_
    refine ae_imul (pc := 29) (v := nI 256 * vsC T p c) dX11_visits_29 rfl ?_
    refine ae_aload_n (pc := 30) dX11_visits_30 rfl ?_
    refine ae_getR (pc := 31) (k := 33) (c := 11) (j := 19) (q := 48) dX11_visits_31 rfl rfl (Nat.le_of_ble_eq_true rfl) rfl (Nat.le_of_ble_eq_true rfl) rfl ?_
    refine ae_iconst (pc := 34) (v := nI 3) dX11_visits_34 (by decide) ?_
    refine ae_iload (pc := 35) dX11_visits_35 rfl ?_
    refine ae_imul (pc := 37) dX11_visits_37 (nI_mul _ _) ?_
    refine ae_iload (pc := 38) dX11_visits_38 rfl ?_
    refine ae_iadd (pc := 40) dX11_visits_40 (nI_add _ _) ?_
    refine ae_iaload (pc := 41) (k := 48) (N := 768) (v := T (3 * p + c)) (3 * p + c) dX11_visits_41 (Nat.le_of_ble_eq_true rfl) rfl rfl rfl (by omega) (by rw [gM_48]) ?_
    refine ae_bipush (pc := 42) (v := nI 8) dX11_visits_42 (by decide) ?_
    refine ae_iadd (pc := 44) (v := T (3 * p + c) + nI 8) dX11_visits_44 rfl ?_
    refine ae_bipush (pc := 45) (v := nI 16) dX11_visits_45 (by decide) ?_
    refine ae_pcallS (pc := 47) (z := zX11_down) (As := [_, _]) dX11_visits_47 rfl rfl rfl rfl (Nat.le_of_ble_eq_true rfl) (sm_down (d + 3) _ _ _ (by decide)) ?_
    refine ae_pcallS (pc := 50) (z := zX11_limited) (As := [_]) dX11_visits_50 rfl rfl rfl rfl (Nat.le_of_ble_eq_true rfl) (sm_limited (d + 3) _ _) ?_
    refine ae_iadd (pc := 53) dX11_visits_53 rfl ?_
    refine ae_istore (pc := 54) (v := vsC T p (c + 1)) dX11_visits_54 rfl (Nat.le_of_ble_eq_true rfl) ?_
    refine ae_iinc (pc := 56) (v := nI (c + 1)) dX11_visits_56 rfl (nI_inc c) ?_
    refine ae_goto (pc := 59) (t := 18) dX11_visits_59 (by decide) ?_
    exact ih hc2
  have hc2 : c = 3 := by rw [nI_leI (by omega) (by omega)] at c21; omega
  subst hc2
  clear ih
  obtain ⟨e, he, he2⟩ := ner_some (f := f) (vsC T p 3) hz hn2
  have hnr := sm_near d (gM (rw34 M f) T) (by rw [m34]; exact hf) (vsC T p 3)
  rw [m34, he] at hnr
  have ev : vsS mt x y (f, T) = (upd f (293 + p) (nI e), vsT f x y mt (f (259 + e)) T 3) := by
    unfold vsS
    dsimp only
    have he' : ner f (vsC T p 3) = some e := he
    rw [hpe, he']
  rw [ev]
  have hsm : sm293 (upd f (293 + p) (nI e)) f := fun j hj => upd_ne _ _ (by omega)
  obtain ⟨w1, w2, w3, w4⟩ := hsm.wf hf
  have eu : gM (rw34 M (upd f (293 + p) (nI e))) T = gM (rw34 M (upd f (293 + p) (nI e))) (vsT f x y mt (f (259 + e)) T 0) := rfl
  refine ae_aload_n (pc := 62) dX11_visits_62 rfl ?_
  refine ae_iload (pc := 63) dX11_visits_63 rfl ?_
  refine ae_pcallV (pc := 65) (z := zX11_near) (k := 33) (As := [_]) dX11_visits_65 rfl rfl rfl rfl (Nat.le_of_ble_eq_true rfl) rfl (Nat.le_of_ble_eq_true rfl) (Nat.le_of_ble_eq_true rfl) (hnr) ?_
  refine ae_istore (pc := 68) dX11_visits_68 rfl (Nat.le_of_ble_eq_true rfl) ?_
  refine ae_aload_n (pc := 70) dX11_visits_70 rfl ?_
  refine ae_getR (pc := 71) (k := 33) (c := 11) (j := 0) (q := 34) dX11_visits_71 rfl rfl (Nat.le_of_ble_eq_true rfl) rfl (Nat.le_of_ble_eq_true rfl) rfl ?_
  refine ae_sipush (pc := 74) (v := nI 293) dX11_visits_74 (by decide) ?_
  refine ae_iload (pc := 77) dX11_visits_77 rfl ?_
  refine ae_iadd (pc := 79) dX11_visits_79 (nI_add _ _) ?_
  refine ae_iload (pc := 80) dX11_visits_80 rfl ?_
  refine ae_iastore (pc := 82) (k := 34) (N := 549) (v := nI e) (293 + p) dX11_visits_82 (Nat.le_of_ble_eq_true rfl) rfl rfl rfl (by omega) rfl ?_
  refine ae_M (M' := gM (rw34 M (upd f (293 + p) (nI e))) (vsT f x y mt (f (259 + e)) T 0)) (by rw [m34]; exact gM_u34 _ _ _ _) ?_
  refine ae_iconst (pc := 83) (v := nI 0) dX11_visits_83 (by decide) ?_
  refine ae_istore (pc := 84) dX11_visits_84 rfl (Nat.le_of_ble_eq_true rfl) ?_
  skip
  refine am_down (P := fun c => am_E none (am_R (d + 4)) cX11_visits 11 none _ (86, [some (.ref 33), some (.int (nI x)), some (.int (nI y)), some (.int (nI mt)), some (.int (nI p)), some (.int (vsC T p 3)), some (.int (nI e)), some (.int (nI c))], [], gM (rw34 M (upd f (293 + p) (nI e))) (vsT f x y mt (f (259 + e)) T c))) 3 (fun c hc ih => ?_)
  refine ae_iload (pc := 86) dX11_visits_86 rfl ?_
  refine ae_iconst (pc := 88) (v := nI 3) dX11_visits_88 (by decide) ?_
  refine ae_icmp_ge (pc := 89) (t := 139) dX11_visits_89 (by decide) (fun c89 => ?_) (fun c89 => ?_)
  · have hc2 : c = 3 := by rw [nI_leI (by omega) (by omega)] at c89; omega
    subst hc2
    refine ae_return (pc := 139) dX11_visits_139 rfl ?_
    exact ⟨rfl, rfl⟩
  · have hc2 : c < 3 := by rw [nI_leI (by omega) (by omega)] at c89; omega
    have hsp := sm_spreads d (rw34 M (upd f (293 + p) (nI e))) (by rw [rw34_34]; exact w1) (vsT f x y mt (f (259 + e)) T c) x y c hc2 (by omega) (vsT f x y mt (f (259 + e)) T c (3 * p + c) - nI 16 * cha (f (259 + e)) c) mt hm
    rw [rw34_34, spT_sm' hf hsm] at hsp
    refine ae_aload_n (pc := 92) dX11_visits_92 rfl ?_
    refine ae_iload_n (pc := 93) dX11_visits_93 rfl ?_
    refine ae_iload_n (pc := 94) dX11_visits_94 rfl ?_
    refine ae_iload (pc := 95) dX11_visits_95 rfl ?_
    refine ae_aload_n (pc := 97) dX11_visits_97 rfl ?_
    refine ae_getR (pc := 98) (k := 33) (c := 11) (j := 19) (q := 48) dX11_visits_98 rfl rfl (Nat.le_of_ble_eq_true rfl) rfl (Nat.le_of_ble_eq_true rfl) rfl ?_
    refine ae_iconst (pc := 101) (v := nI 3) dX11_visits_101 (by decide) ?_
    refine ae_iload (pc := 102) dX11_visits_102 rfl ?_
    refine ae_imul (pc := 104) dX11_visits_104 (nI_mul _ _) ?_
    refine ae_iload (pc := 105) dX11_visits_105 rfl ?_
    refine ae_iadd (pc := 107) dX11_visits_107 (nI_add _ _) ?_
    refine ae_iaload (pc := 108) (k := 48) (N := 768) (v := vsT f x y mt (f (259 + e)) T c (3 * p + c)) (3 * p + c) dX11_visits_108 (Nat.le_of_ble_eq_true rfl) rfl rfl rfl (by omega) (by rw [gM_48]) ?_
    refine ae_bipush (pc := 109) (v := nI 16) dX11_visits_109 (by decide) ?_
    refine ae_aload_n (pc := 111) dX11_visits_111 rfl ?_
    refine ae_getR (pc := 112) (k := 33) (c := 11) (j := 0) (q := 34) dX11_visits_112 rfl rfl (Nat.le_of_ble_eq_true rfl) rfl (Nat.le_of_ble_eq_true rfl) rfl ?_
    refine ae_sipush (pc := 115) (v := nI 259) dX11_visits_115 (by decide) ?_
    refine ae_iload (pc := 118) dX11_visits_118 rfl ?_
    refine ae_iadd (pc := 120) (v := nI (259 + e)) dX11_visits_120 (nI_add _ _) ?_
    refine ae_iaload (pc := 121) (k := 34) (N := 549) (v := f (259 + e)) (259 + e) dX11_visits_121 (Nat.le_of_ble_eq_true rfl) rfl rfl rfl (by omega) (by rw [m34, upd_ne _ _ (by omega)]) ?_
    refine ae_iload (pc := 122) dX11_visits_122 rfl ?_
    refine ae_pcallS (pc := 124) (z := zX11_channel) (As := [_, _]) dX11_visits_124 rfl rfl rfl rfl (Nat.le_of_ble_eq_true rfl) (sm_channel (d + 3) _ _ _) ?_
    refine ae_imul (pc := 127) dX11_visits_127 rfl ?_
    refine ae_isub (pc := 128) dX11_visits_128 rfl ?_
    refine ae_iload_n (pc := 129) dX11_visits_129 rfl ?_
    refine ae_callV (pc := 130) (z := zX11_spreads) (k := 33) (As := [_, _, _, _, _]) dX11_visits_130 rfl rfl rfl rfl (Nat.le_of_ble_eq_true rfl) rfl (Nat.le_of_ble_eq_true rfl) (Nat.le_of_ble_eq_true rfl) (hsp) (fun v M' hq => ?_)
    obtain ⟨rfl, rfl⟩ := hq
    refine ae_iinc (pc := 133) (v := nI (c + 1)) dX11_visits_133 rfl (nI_inc c) ?_
    refine ae_goto (pc := 136) (t := 86) dX11_visits_136 (by decide) ?_
    have h9 := ih hc2
    rw [vsT_s f x y mt (f (259 + e)) T c, hpe] at h9
    exact h9

