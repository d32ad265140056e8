theorem sc_cellColor (d : Nat) (M : am_M) (cn : Int32 → Nat) (c : Int32) (h : okc c ∧ cn c ≤ 256) : am_R (d + 1) zX4_cellColor [.long (cel cn c)] M (fun v M' => v = some (.int c) ∧ M' = M) := by
  refine ae_enter (z := zX4_cellColor) (y := yX4_cellColor) (cc := cX4_cellColor) (mL := 2) (rt := some .int) (ci := 4) (st := true) (np := 1) (L := [some (.long (cel cn c)), none]) rfl (by decide) (Nat.le_of_ble_eq_true rfl) rfl ?_
  obtain ⟨h1, h2⟩ := okc_n h.1
  have h3 := h.2
  have e : (512 * c.toNatClampNeg + cn c) / 512 = c.toNatClampNeg := by omega
  refine ae_lload_n (pc := 0) dX4_cellColor_0 rfl ?_
  refine ae_ldc2_w (pc := 1) dX4_cellColor_1 rfl ?_
  refine ae_ldiv (pc := 4) (v := nL c.toNatClampNeg) dX4_cellColor_4 (by decide) ((nL_div (b := 512) (by omega) (by decide)).trans (by rw [e])) ?_
  refine ae_l2i (pc := 5) (v := c) dX4_cellColor_5 ((nL_l2i (by omega)).trans h2) ?_
  refine ae_ireturn (pc := 6) dX4_cellColor_6 rfl ?_
  exact ⟨rfl, rfl⟩
theorem sc_cellNumber (d : Nat) (M : am_M) (cn : Int32 → Nat) (c : Int32) (h : okc c ∧ cn c ≤ 256) : am_R (d + 1) zX4_cellNumber [.long (cel cn c)] M (fun v M' => v = some (.int (nI (cn c))) ∧ M' = M) := by
  refine ae_enter (z := zX4_cellNumber) (y := yX4_cellNumber) (cc := cX4_cellNumber) (mL := 2) (rt := some .int) (ci := 4) (st := true) (np := 1) (L := [some (.long (cel cn c)), none]) rfl (by decide) (Nat.le_of_ble_eq_true rfl) rfl ?_
  obtain ⟨h1, h2⟩ := okc_n h.1
  have h3 := h.2
  have e : (512 * c.toNatClampNeg + cn c) % 512 = cn c := by omega
  refine ae_lload_n (pc := 0) dX4_cellNumber_0 rfl ?_
  refine ae_ldc2_w (pc := 1) dX4_cellNumber_1 rfl ?_
  refine ae_lrem (pc := 4) (v := nL (cn c)) dX4_cellNumber_4 (by decide) ((nL_mod (b := 512) (by omega) (by decide)).trans (by rw [e])) ?_
  refine ae_l2i (pc := 5) (v := nI (cn c)) dX4_cellNumber_5 (nL_l2i (by omega)) ?_
  refine ae_ireturn (pc := 6) dX4_cellNumber_6 rfl ?_
  exact ⟨rfl, rfl⟩
theorem sc_pixelsIn (d : Nat) (M : am_M) (cn : Int32 → Nat) (b s : Nat) (L : List Int32) (hb : b < 16) (hB : BOX M cn b s L) : am_R (d + 2) zX4_pixelsIn [.ref 21, .int (nI b)] M (fun v M' => v = some (.int (nI (lS cn L))) ∧ M' = M) := by
  refine ae_enter (z := zX4_pixelsIn) (y := yX4_pixelsIn) (cc := cX4_pixelsIn) (mL := 4) (rt := some .int) (ci := 4) (st := false) (np := 1) (L := [some (.ref 21), some (.int (nI b)), none, none]) rfl (by decide) (Nat.le_of_ble_eq_true rfl) rfl ?_
  obtain ⟨b1, b2, b3, b4, b5⟩ := hB
  have st : am_E none (am_R (d + 1)) cX4_pixelsIn 4 (some .int) (fun v M' => v = some (.int (nI (lS cn L))) ∧ M' = M) (9, [some (.ref 21), some (.int (nI b)), some (.int (nI (lTk cn L 0))), some (.int (nI (s + 0)))], [], M) := by
    refine am_down (P := fun k => am_E none (am_R (d + 1)) cX4_pixelsIn 4 (some .int) _ (9, [some (.ref 21), some (.int (nI b)), some (.int (nI (lTk cn L k))), some (.int (nI (s + k)))], [], M)) L.length (fun k hk ih => ?_)
    refine ae_iload_n (pc := 9) dX4_pixelsIn_9 rfl ?_
    refine ae_aload_n (pc := 10) dX4_pixelsIn_10 rfl ?_
    refine ae_getR (pc := 11) (k := 21) (c := 4) (j := 4) (q := 24) dX4_pixelsIn_11 rfl rfl (Nat.le_of_ble_eq_true rfl) rfl (Nat.le_of_ble_eq_true rfl) rfl ?_
    refine ae_iload_n (pc := 14) dX4_pixelsIn_14 rfl ?_
    refine ae_iaload (pc := 15) (k := 24) (N := 16) (v := nI (s + L.length)) (b) dX4_pixelsIn_15 (Nat.le_of_ble_eq_true rfl) rfl rfl rfl (by omega) b2 ?_
    refine ae_icmp_ge (pc := 16) (t := 37) dX4_pixelsIn_16 (by decide) (fun c16 => ?_) (fun c16 => ?_)
    · have hk2 : k = L.length := by rw [nI_leI (by omega) (by omega)] at c16; omega
      subst hk2
      refine ae_iload_n (pc := 37) dX4_pixelsIn_37 rfl ?_
      refine ae_ireturn (pc := 38) dX4_pixelsIn_38 rfl ?_
      exact ⟨by rw [lTk_all], rfl⟩
    · have hk2 : k < L.length := by rw [nI_leI (by omega) (by omega)] at c16; omega
      have ih2 := ih hk2
      rw [lTk_s cn L hk2] at ih2
      refine ae_iload_n (pc := 19) dX4_pixelsIn_19 rfl ?_
      refine ae_aload_n (pc := 20) dX4_pixelsIn_20 rfl ?_
      refine ae_getR (pc := 21) (k := 21) (c := 4) (j := 2) (q := 22) dX4_pixelsIn_21 rfl rfl (Nat.le_of_ble_eq_true rfl) rfl (Nat.le_of_ble_eq_true rfl) rfl ?_
      refine ae_iload_n (pc := 24) dX4_pixelsIn_24 rfl ?_
      refine ae_laload (pc := 25) (k := 22) (N := 256) (v := cel cn L[k]) (s + k) dX4_pixelsIn_25 (Nat.le_of_ble_eq_true rfl) rfl rfl rfl (by omega) (b4 k hk2) ?_
      refine ae_pcallS (pc := 26) (z := zX4_cellNumber) (As := [_]) dX4_pixelsIn_26 rfl rfl rfl rfl (Nat.le_of_ble_eq_true rfl) (sc_cellNumber d M cn _ (b5 _ (List.getElem_mem hk2))) ?_
      refine ae_iadd (pc := 29) (v := nI (lTk cn L k + cn L[k])) dX4_pixelsIn_29 (nI_add _ _) ?_
      refine ae_istore_n (pc := 30) dX4_pixelsIn_30 rfl (Nat.le_of_ble_eq_true rfl) ?_
      refine ae_iinc (pc := 31) (v := nI (s + (k + 1))) dX4_pixelsIn_31 rfl (nI_inc (s + k)) ?_
      refine ae_goto (pc := 34) (t := 9) dX4_pixelsIn_34 (by decide) ?_
      exact ih2
  refine ae_iconst (pc := 0) (v := nI 0) dX4_pixelsIn_0 (by decide) ?_
  refine ae_istore_n (pc := 1) dX4_pixelsIn_1 rfl (Nat.le_of_ble_eq_true rfl) ?_
  refine ae_aload_n (pc := 2) dX4_pixelsIn_2 rfl ?_
  refine ae_getR (pc := 3) (k := 21) (c := 4) (j := 3) (q := 23) dX4_pixelsIn_3 rfl rfl (Nat.le_of_ble_eq_true rfl) rfl (Nat.le_of_ble_eq_true rfl) rfl ?_
  refine ae_iload_n (pc := 6) dX4_pixelsIn_6 rfl ?_
  refine ae_iaload (pc := 7) (k := 23) (N := 16) (v := nI s) (b) dX4_pixelsIn_7 (Nat.le_of_ble_eq_true rfl) rfl rfl rfl (by omega) b1 ?_
  refine ae_istore_n (pc := 8) dX4_pixelsIn_8 rfl (Nat.le_of_ble_eq_true rfl) ?_
  exact st
theorem sc_sum (d : Nat) (M : am_M) (cn : Int32 → Nat) (b s : Nat) (L : List Int32) (hb : b < 16) (hB : BOX M cn b s L) (c : Nat) : am_R (d + 2) zX4_sum [.ref 21, .int (nI b), .int (nI c)] M (fun v M' => v = some (.int (nI (lS (gS cn c) L))) ∧ M' = M) := by
  refine ae_enter (z := zX4_sum) (y := yX4_sum) (cc := cX4_sum) (mL := 5) (rt := some .int) (ci := 4) (st := false) (np := 2) (L := [some (.ref 21), some (.int (nI b)), some (.int (nI c)), none, none]) rfl (by decide) (Nat.le_of_ble_eq_true rfl) rfl ?_
  obtain ⟨b1, b2, b3, b4, b5⟩ := hB
  have st : am_E none (am_R (d + 1)) cX4_sum 4 (some .int) (fun v M' => v = some (.int (nI (lS (gS cn c) L))) ∧ M' = M) (10, [some (.ref 21), some (.int (nI b)), some (.int (nI c)), some (.int (nI (lTk (gS cn c) L 0))), some (.int (nI (s + 0)))], [], M) := by
    refine am_down (P := fun k => am_E none (am_R (d + 1)) cX4_sum 4 (some .int) _ (10, [some (.ref 21), some (.int (nI b)), some (.int (nI c)), some (.int (nI (lTk (gS cn c) L k))), some (.int (nI (s + k)))], [], M)) L.length (fun k hk ih => ?_)
    refine ae_iload (pc := 10) dX4_sum_10 rfl ?_
    refine ae_aload_n (pc := 12) dX4_sum_12 rfl ?_
    refine ae_getR (pc := 13) (k := 21) (c := 4) (j := 4) (q := 24) dX4_sum_13 rfl rfl (Nat.le_of_ble_eq_true rfl) rfl (Nat.le_of_ble_eq_true rfl) rfl ?_
    refine ae_iload_n (pc := 16) dX4_sum_16 rfl ?_
    refine ae_iaload (pc := 17) (k := 24) (N := 16) (v := nI (s + L.length)) (b) dX4_sum_17 (Nat.le_of_ble_eq_true rfl) rfl rfl rfl (by omega) b2 ?_
    refine ae_icmp_ge (pc := 18) (t := 55) dX4_sum_18 (by decide) (fun c18 => ?_) (fun c18 => ?_)
    · have hk2 : k = L.length := by rw [nI_leI (by omega) (by omega)] at c18; omega
      subst hk2
      refine ae_iload_n (pc := 55) dX4_sum_55 rfl ?_
      refine ae_ireturn (pc := 56) dX4_sum_56 rfl ?_
      exact ⟨by rw [lTk_all], rfl⟩
    · have hk2 : k < L.length := by rw [nI_leI (by omega) (by omega)] at c18; omega
      have ih2 := ih hk2
      rw [lTk_s _ L hk2] at ih2
      have hm := b5 _ (List.getElem_mem hk2)
      refine ae_iload_n (pc := 21) dX4_sum_21 rfl ?_
      refine ae_aload_n (pc := 22) dX4_sum_22 rfl ?_
      refine ae_getR (pc := 23) (k := 21) (c := 4) (j := 2) (q := 22) dX4_sum_23 rfl rfl (Nat.le_of_ble_eq_true rfl) rfl (Nat.le_of_ble_eq_true rfl) rfl ?_
      refine ae_iload (pc := 26) dX4_sum_26 rfl ?_
      refine ae_laload (pc := 28) (k := 22) (N := 256) (v := cel cn L[k]) (s + k) dX4_sum_28 (Nat.le_of_ble_eq_true rfl) rfl rfl rfl (by omega) (b4 k hk2) ?_
      refine ae_pcallS (pc := 29) (z := zX4_cellNumber) (As := [_]) dX4_sum_29 rfl rfl rfl rfl (Nat.le_of_ble_eq_true rfl) (sc_cellNumber d M cn _ hm) ?_
      refine ae_aload_n (pc := 32) dX4_sum_32 rfl ?_
      refine ae_getR (pc := 33) (k := 21) (c := 4) (j := 2) (q := 22) dX4_sum_33 rfl rfl (Nat.le_of_ble_eq_true rfl) rfl (Nat.le_of_ble_eq_true rfl) rfl ?_
      refine ae_iload (pc := 36) dX4_sum_36 rfl ?_
      refine ae_laload (pc := 38) (k := 22) (N := 256) (v := cel cn L[k]) (s + k) dX4_sum_38 (Nat.le_of_ble_eq_true rfl) rfl rfl rfl (by omega) (b4 k hk2) ?_
      refine ae_pcallS (pc := 39) (z := zX4_cellColor) (As := [_]) dX4_sum_39 rfl rfl rfl rfl (Nat.le_of_ble_eq_true rfl) (sc_cellColor d M cn _ hm) ?_
      refine ae_iload_n (pc := 42) dX4_sum_42 rfl ?_
      refine ae_pcallS (pc := 43) (z := zX10_channelOf) (As := [_, _]) dX4_sum_43 rfl rfl rfl rfl (Nat.le_of_ble_eq_true rfl) (sc_channelOf d _ _ _) ?_
      refine ae_imul (pc := 46) (v := nI (gS cn c L[k])) dX4_sum_46 (by rw [(chN_lt L[k] c).2, nI_mul]; rfl) ?_
      refine ae_iadd (pc := 47) (v := nI (lTk (gS cn c) L k + gS cn c L[k])) dX4_sum_47 (nI_add _ _) ?_
      refine ae_istore_n (pc := 48) dX4_sum_48 rfl (Nat.le_of_ble_eq_true rfl) ?_
      refine ae_iinc (pc := 49) (v := nI (s + (k + 1))) dX4_sum_49 rfl (nI_inc (s + k)) ?_
      refine ae_goto (pc := 52) (t := 10) dX4_sum_52 (by decide) ?_
      exact ih2
  refine ae_iconst (pc := 0) (v := nI 0) dX4_sum_0 (by decide) ?_
  refine ae_istore_n (pc := 1) dX4_sum_1 rfl (Nat.le_of_ble_eq_true rfl) ?_
  refine ae_aload_n (pc := 2) dX4_sum_2 rfl ?_
  refine ae_getR (pc := 3) (k := 21) (c := 4) (j := 3) (q := 23) dX4_sum_3 rfl rfl (Nat.le_of_ble_eq_true rfl) rfl (Nat.le_of_ble_eq_true rfl) rfl ?_
  refine ae_iload_n (pc := 6) dX4_sum_6 rfl ?_
  refine ae_iaload (pc := 7) (k := 23) (N := 16) (v := nI s) (b) dX4_sum_7 (Nat.le_of_ble_eq_true rfl) rfl rfl rfl (by omega) b1 ?_
  refine ae_istore (pc := 8) dX4_sum_8 rfl (Nat.le_of_ble_eq_true rfl) ?_
  exact st
theorem sc_range (d : Nat) (M : am_M) (cn : Int32 → Nat) (b s : Nat) (L : List Int32) (hb : b < 16) (hB : BOX M cn b s L) (c : Nat) : am_R (d + 2) zX4_range [.ref 21, .int (nI b), .int (nI c)] M (fun v M' => v = some (.int (lRg L c)) ∧ M' = M) := by
  refine ae_enter (z := zX4_range) (y := yX4_range) (cc := cX4_range) (mL := 7) (rt := some .int) (ci := 4) (st := false) (np := 2) (L := [some (.ref 21), some (.int (nI b)), some (.int (nI c)), none, none, none, none]) rfl (by decide) (Nat.le_of_ble_eq_true rfl) rfl ?_
  obtain ⟨b1, b2, b3, b4, b5⟩ := hB
  have st : am_E none (am_R (d + 1)) cX4_range 4 (some .int) (fun v M' => v = some (.int (lRg L c)) ∧ M' = M) (15, [some (.ref 21), some (.int (nI b)), some (.int (nI c)), some (.int (nI (lMn c (L.take 0)))), some (.int (nI (lMx c (L.take 0)))), some (.int (nI (s + 0))), none], [], M) := by
    refine am_down (P := fun k => am_E none (am_R (d + 1)) cX4_range 4 (some .int) _ (15, [some (.ref 21), some (.int (nI b)), some (.int (nI c)), some (.int (nI (lMn c (L.take k)))), some (.int (nI (lMx c (L.take k)))), some (.int (nI (s + k))), none], [], M)) L.length (fun k hk ih => ?_)
    refine ae_iload (pc := 15) dX4_range_15 rfl ?_
    refine ae_aload_n (pc := 17) dX4_range_17 rfl ?_
    refine ae_getR (pc := 18) (k := 21) (c := 4) (j := 4) (q := 24) dX4_range_18 rfl rfl (Nat.le_of_ble_eq_true rfl) rfl (Nat.le_of_ble_eq_true rfl) rfl ?_
    refine ae_iload_n (pc := 21) dX4_range_21 rfl ?_
    refine ae_iaload (pc := 22) (k := 24) (N := 16) (v := nI (s + L.length)) (b) dX4_range_22 (Nat.le_of_ble_eq_true rfl) rfl rfl rfl (by omega) b2 ?_
    refine ae_icmp_ge (pc := 23) (t := 64) dX4_range_23 (by decide) (fun c23 => ?_) (fun c23 => ?_)
    · have hk2 : k = L.length := by rw [nI_leI (by omega) (by omega)] at c23; omega
      subst hk2
      refine ae_iload (pc := 64) dX4_range_64 rfl ?_
      refine ae_iload_n (pc := 66) dX4_range_66 rfl ?_
      refine ae_isub (pc := 67) dX4_range_67 rfl ?_
      refine ae_ireturn (pc := 68) dX4_range_68 rfl ?_
      exact ⟨by rw [List.take_length]; rfl, rfl⟩
    · have hk2 : k < L.length := by rw [nI_leI (by omega) (by omega)] at c23; omega
      have ih2 := ih hk2
      rw [lMx_t hk2, lMn_t hk2] at ih2
      have hm := b5 _ (List.getElem_mem hk2)
      obtain ⟨h1, h2⟩ := chN_lt L[k] c
      have h3 := lMx_lt c (L.take k)
      have h4 := lMn_lt c (L.take k)
      refine ae_aload_n (pc := 26) dX4_range_26 rfl ?_
      refine ae_getR (pc := 27) (k := 21) (c := 4) (j := 2) (q := 22) dX4_range_27 rfl rfl (Nat.le_of_ble_eq_true rfl) rfl (Nat.le_of_ble_eq_true rfl) rfl ?_
      refine ae_iload (pc := 30) dX4_range_30 rfl ?_
      refine ae_laload (pc := 32) (k := 22) (N := 256) (v := cel cn L[k]) (s + k) dX4_range_32 (Nat.le_of_ble_eq_true rfl) rfl rfl rfl (by omega) (b4 k hk2) ?_
      refine ae_pcallS (pc := 33) (z := zX4_cellColor) (As := [_]) dX4_range_33 rfl rfl rfl rfl (Nat.le_of_ble_eq_true rfl) (sc_cellColor d M cn _ hm) ?_
      refine ae_iload_n (pc := 36) dX4_range_36 rfl ?_
      refine ae_pcallS (pc := 37) (z := zX10_channelOf) (As := [_, _]) dX4_range_37 rfl rfl rfl rfl (Nat.le_of_ble_eq_true rfl) (sc_channelOf d _ _ _) ?_
      refine ae_istore (pc := 40) dX4_range_40 rfl (Nat.le_of_ble_eq_true rfl) ?_
      refine ae_iload_n (pc := 42) dX4_range_42 rfl ?_
      refine ae_iload (pc := 43) dX4_range_43 rfl ?_
      refine ae_pcallS (pc := 45) (z := zJ9_min_7cf53) (As := [_, _]) dX4_range_45 rfl rfl rfl rfl (Nat.le_of_ble_eq_true rfl) (sc_min d _ _ _) ?_
      refine ae_istore_n (pc := 48) (v := nI (if chN L[k] c < lMn c (L.take k) then chN L[k] c else lMn c (L.take k))) dX4_range_48 (by rw [h2]; exact minI (by omega) (by omega)) (Nat.le_of_ble_eq_true rfl) ?_
      refine ae_iload (pc := 49) dX4_range_49 rfl ?_
      refine ae_iload (pc := 51) dX4_range_51 rfl ?_
      refine ae_pcallS (pc := 53) (z := zJ9_max_7cf53) (As := [_, _]) dX4_range_53 rfl rfl rfl rfl (Nat.le_of_ble_eq_true rfl) (sc_max d _ _ _) ?_
      refine ae_istore (pc := 56) (v := nI (if lMx c (L.take k) < chN L[k] c then chN L[k] c else lMx c (L.take k))) dX4_range_56 (by rw [h2]; exact maxI (by omega) (by omega)) (Nat.le_of_ble_eq_true rfl) ?_
      refine ae_iinc (pc := 58) (v := nI (s + (k + 1))) dX4_range_58 rfl (nI_inc (s + k)) ?_
      refine ae_goto (pc := 61) (t := 15) dX4_range_61 (by decide) ?_
      exact ae_forget [6] rfl ih2
  refine ae_sipush (pc := 0) (v := nI 255) dX4_range_0 (by decide) ?_
  refine ae_istore_n (pc := 3) dX4_range_3 rfl (Nat.le_of_ble_eq_true rfl) ?_
  refine ae_iconst (pc := 4) (v := nI 0) dX4_range_4 (by decide) ?_
  refine ae_istore (pc := 5) dX4_range_5 rfl (Nat.le_of_ble_eq_true rfl) ?_
  refine ae_aload_n (pc := 7) dX4_range_7 rfl ?_
  refine ae_getR (pc := 8) (k := 21) (c := 4) (j := 3) (q := 23) dX4_range_8 rfl rfl (Nat.le_of_ble_eq_true rfl) rfl (Nat.le_of_ble_eq_true rfl) rfl ?_
  refine ae_iload_n (pc := 11) dX4_range_11 rfl ?_
  refine ae_iaload (pc := 12) (k := 23) (N := 16) (v := nI s) (b) dX4_range_12 (Nat.le_of_ble_eq_true rfl) rfl rfl rfl (by omega) b1 ?_
  refine ae_istore (pc := 13) dX4_range_13 rfl (Nat.le_of_ble_eq_true rfl) ?_
  exact st
theorem sc_widestChannel (d : Nat) (M : am_M) (cn : Int32 → Nat) (b s : Nat) (L : List Int32) (hb : b < 16) (hB : BOX M cn b s L) : am_R (d + 3) zX4_widestChannel [.ref 21, .int (nI b)] M (fun v M' => v = some (.int (nI (lWd L))) ∧ M' = M) := by
  refine ae_enter (z := zX4_widestChannel) (y := yX4_widestChannel) (cc := cX4_widestChannel) (mL := 4) (rt := some .int) (ci := 4) (st := false) (np := 1) (L := [some (.ref 21), some (.int (nI b)), none, none]) rfl (by decide) (Nat.le_of_ble_eq_true rfl) rfl ?_
  have hr := fun c => sc_range d M cn b s L hb hB c
  have last : am_E none (am_R (d + 2)) cX4_widestChannel 4 (some .int) (fun v M' => v = some (.int (nI (lWd L))) ∧ M' = M) (4, [some (.ref 21), some (.int (nI b)), some (.int (nI (lWd L))), some (.int (nI 3))], [], M) := by
    refine ae_iload_n (pc := 4) dX4_widestChannel_4 rfl ?_
    refine ae_iconst (pc := 5) (v := nI 3) dX4_widestChannel_5 (by decide) ?_
    refine ae_icmp_ge (pc := 6) (t := 32) dX4_widestChannel_6 (by decide) (fun c6 => ?_) (fun c6 => ?_)
    · refine ae_iload_n (pc := 32) dX4_widestChannel_32 rfl ?_
      refine ae_ireturn (pc := 33) dX4_widestChannel_33 rfl ?_
      exact ⟨rfl, rfl⟩
    · exact absurd (by decide) c6
  have mid : am_E none (am_R (d + 2)) cX4_widestChannel 4 (some .int) (fun v M' => v = some (.int (nI (lWd L))) ∧ M' = M) (4, [some (.ref 21), some (.int (nI b)), some (.int (nI (lW1 L))), some (.int (nI 2))], [], M) := by
    refine ae_iload_n (pc := 4) dX4_widestChannel_4 rfl ?_
    refine ae_iconst (pc := 5) (v := nI 3) dX4_widestChannel_5 (by decide) ?_
    refine ae_icmp_ge (pc := 6) (t := 32) dX4_widestChannel_6 (by decide) (fun c6 => ?_) (fun c6 => ?_)
    · exact absurd c6 (by decide)
    refine ae_aload_n (pc := 9) dX4_widestChannel_9 rfl ?_
    refine ae_iload_n (pc := 10) dX4_widestChannel_10 rfl ?_
    refine ae_iload_n (pc := 11) dX4_widestChannel_11 rfl ?_
    refine ae_pcallV (pc := 12) (z := zX4_range) (k := 21) (As := [_, _]) dX4_widestChannel_12 rfl rfl rfl rfl (Nat.le_of_ble_eq_true rfl) rfl (Nat.le_of_ble_eq_true rfl) (Nat.le_of_ble_eq_true rfl) (hr 2) ?_
    refine ae_aload_n (pc := 15) dX4_widestChannel_15 rfl ?_
    refine ae_iload_n (pc := 16) dX4_widestChannel_16 rfl ?_
    refine ae_iload_n (pc := 17) dX4_widestChannel_17 rfl ?_
    refine ae_pcallV (pc := 18) (z := zX4_range) (k := 21) (As := [_, _]) dX4_widestChannel_18 rfl rfl rfl rfl (Nat.le_of_ble_eq_true rfl) rfl (Nat.le_of_ble_eq_true rfl) (Nat.le_of_ble_eq_true rfl) (hr (lW1 L)) ?_
    refine ae_icmp_le (pc := 21) (t := 26) dX4_widestChannel_21 (by decide) (fun c21 => ?_) (fun c21 => ?_)
    · rw [show lWd L = lW1 L by unfold lWd; rw [if_neg (Int32.not_lt.mpr c21)]] at last ⊢
      refine ae_iinc (pc := 26) (v := nI 3) dX4_widestChannel_26 rfl (by decide) ?_
      refine ae_goto (pc := 29) (t := 4) dX4_widestChannel_29 (by decide) ?_
      exact last
    · rw [show lWd L = 2 by unfold lWd; rw [if_pos (Int32.not_le.mp c21)]] at last ⊢
      refine ae_iload_n (pc := 24) dX4_widestChannel_24 rfl ?_
      refine ae_istore_n (pc := 25) dX4_widestChannel_25 rfl (Nat.le_of_ble_eq_true rfl) ?_
      refine ae_iinc (pc := 26) (v := nI 3) dX4_widestChannel_26 rfl (by decide) ?_
      refine ae_goto (pc := 29) (t := 4) dX4_widestChannel_29 (by decide) ?_
      exact last
  refine ae_iconst (pc := 0) (v := nI 0) dX4_widestChannel_0 (by decide) ?_
  refine ae_istore_n (pc := 1) dX4_widestChannel_1 rfl (Nat.le_of_ble_eq_true rfl) ?_
  refine ae_iconst (pc := 2) (v := nI 1) dX4_widestChannel_2 (by decide) ?_
  refine ae_istore_n (pc := 3) dX4_widestChannel_3 rfl (Nat.le_of_ble_eq_true rfl) ?_
  skip
  refine ae_iload_n (pc := 4) dX4_widestChannel_4 rfl ?_
  refine ae_iconst (pc := 5) (v := nI 3) dX4_widestChannel_5 (by decide) ?_
  refine ae_icmp_ge (pc := 6) (t := 32) dX4_widestChannel_6 (by decide) (fun c6 => ?_) (fun c6 => ?_)
  · exact absurd c6 (by decide)
  refine ae_aload_n (pc := 9) dX4_widestChannel_9 rfl ?_
  refine ae_iload_n (pc := 10) dX4_widestChannel_10 rfl ?_
  refine ae_iload_n (pc := 11) dX4_widestChannel_11 rfl ?_
  refine ae_pcallV (pc := 12) (z := zX4_range) (k := 21) (As := [_, _]) dX4_widestChannel_12 rfl rfl rfl rfl (Nat.le_of_ble_eq_true rfl) rfl (Nat.le_of_ble_eq_true rfl) (Nat.le_of_ble_eq_true rfl) (hr 1) ?_
  refine ae_aload_n (pc := 15) dX4_widestChannel_15 rfl ?_
  refine ae_iload_n (pc := 16) dX4_widestChannel_16 rfl ?_
  refine ae_iload_n (pc := 17) dX4_widestChannel_17 rfl ?_
  refine ae_pcallV (pc := 18) (z := zX4_range) (k := 21) (As := [_, _]) dX4_widestChannel_18 rfl rfl rfl rfl (Nat.le_of_ble_eq_true rfl) rfl (Nat.le_of_ble_eq_true rfl) (Nat.le_of_ble_eq_true rfl) (hr 0) ?_
  refine ae_icmp_le (pc := 21) (t := 26) dX4_widestChannel_21 (by decide) (fun c21 => ?_) (fun c21 => ?_)
  · rw [show lW1 L = 0 by unfold lW1; rw [if_neg (Int32.not_lt.mpr c21)]] at mid
    refine ae_iinc (pc := 26) (v := nI 2) dX4_widestChannel_26 rfl (by decide) ?_
    refine ae_goto (pc := 29) (t := 4) dX4_widestChannel_29 (by decide) ?_
    exact mid
  · rw [show lW1 L = 1 by unfold lW1; rw [if_pos (Int32.not_le.mp c21)]] at mid
    refine ae_iload_n (pc := 24) dX4_widestChannel_24 rfl ?_
    refine ae_istore_n (pc := 25) dX4_widestChannel_25 rfl (Nat.le_of_ble_eq_true rfl) ?_
    refine ae_iinc (pc := 26) (v := nI 2) dX4_widestChannel_26 rfl (by decide) ?_
    refine ae_goto (pc := 29) (t := 4) dX4_widestChannel_29 (by decide) ?_
    exact mid
theorem sc_spread (d : Nat) (M : am_M) (cn : Int32 → Nat) (b s : Nat) (L : List Int32) (hb : b < 16) (hB : BOX M cn b s L) (c : Nat) : am_R (d + 3) zX4_spread [.ref 21, .int (nI b), .int (nI c)] M (fun v M' => v = some (.long (lSp cn L c)) ∧ M' = M) := by
  refine ae_enter (z := zX4_spread) (y := yX4_spread) (cc := cX4_spread) (mL := 8) (rt := some .long) (ci := 4) (st := false) (np := 2) (L := [some (.ref 21), some (.int (nI b)), some (.int (nI c)), none, none, none, none, none]) rfl (by decide) (Nat.le_of_ble_eq_true rfl) rfl ?_
  have hpx := sc_pixelsIn d M cn b s L hb hB
  have hsm := sc_sum d M cn b s L hb hB c
  obtain ⟨b1, b2, b3, b4, b5⟩ := hB
  have q1 : lS cn L ≤ 65536 := by
    refine Nat.le_trans (lS_le (b := 256) (fun c hc => (b5 c hc).2)) ?_
    have : L.length * 256 ≤ 256 * 256 := Nat.mul_le_mul_right _ (by omega)
    omega
  have q2 := lS_gS (cn := cn) c L
  have st : am_E none (am_R (d + 2)) cX4_spread 4 (some .long) (fun v M' => v = some (.long (lSp cn L c)) ∧ M' = M) (10, [some (.ref 21), some (.int (nI b)), some (.int (nI c)), some (.long (nL (lTk (gQ cn c) L 0))), none, some (.int (nI (s + 0))), none, none], [], M) := by
    refine am_down (P := fun k => am_E none (am_R (d + 2)) cX4_spread 4 (some .long) _ (10, [some (.ref 21), some (.int (nI b)), some (.int (nI c)), some (.long (nL (lTk (gQ cn c) L k))), none, some (.int (nI (s + k))), none, none], [], M)) L.length (fun k hk ih => ?_)
    refine ae_iload (pc := 10) dX4_spread_10 rfl ?_
    refine ae_aload_n (pc := 12) dX4_spread_12 rfl ?_
    refine ae_getR (pc := 13) (k := 21) (c := 4) (j := 4) (q := 24) dX4_spread_13 rfl rfl (Nat.le_of_ble_eq_true rfl) rfl (Nat.le_of_ble_eq_true rfl) rfl ?_
    refine ae_iload_n (pc := 16) dX4_spread_16 rfl ?_
    refine ae_iaload (pc := 17) (k := 24) (N := 16) (v := nI (s + L.length)) (b) dX4_spread_17 (Nat.le_of_ble_eq_true rfl) rfl rfl rfl (by omega) b2 ?_
    refine ae_icmp_ge (pc := 18) (t := 64) dX4_spread_18 (by decide) (fun c18 => ?_) (fun c18 => ?_)
    · have hk2 : k = L.length := by rw [nI_leI (by omega) (by omega)] at c18; omega
      subst hk2
      rw [lTk_all]
      refine ae_aload_n (pc := 64) dX4_spread_64 rfl ?_
      refine ae_iload_n (pc := 65) dX4_spread_65 rfl ?_
      refine ae_iload_n (pc := 66) dX4_spread_66 rfl ?_
      refine ae_pcallV (pc := 67) (z := zX4_sum) (k := 21) (As := [_, _]) dX4_spread_67 rfl rfl rfl rfl (Nat.le_of_ble_eq_true rfl) rfl (Nat.le_of_ble_eq_true rfl) (Nat.le_of_ble_eq_true rfl) (hsm) ?_
      refine ae_i2l (pc := 70) (v := nL (lS (gS cn c) L)) dX4_spread_70 (nI_i2l (by omega)) ?_
      refine ae_lstore (pc := 71) dX4_spread_71 rfl (Nat.le_of_ble_eq_true rfl) ?_
      refine ae_aload_n (pc := 73) dX4_spread_73 rfl ?_
      refine ae_iload_n (pc := 74) dX4_spread_74 rfl ?_
      refine ae_pcallV (pc := 75) (z := zX4_pixelsIn) (k := 21) (As := [_]) dX4_spread_75 rfl rfl rfl rfl (Nat.le_of_ble_eq_true rfl) rfl (Nat.le_of_ble_eq_true rfl) (Nat.le_of_ble_eq_true rfl) (hpx) ?_
      refine ae_i2l (pc := 78) (v := nL (lS cn L)) dX4_spread_78 (nI_i2l (by omega)) ?_
      refine ae_lload_n (pc := 79) dX4_spread_79 rfl ?_
      refine ae_lmul (pc := 80) dX4_spread_80 rfl ?_
      refine ae_lload (pc := 81) dX4_spread_81 rfl ?_
      refine ae_lload (pc := 83) dX4_spread_83 rfl ?_
      refine ae_lmul (pc := 85) dX4_spread_85 rfl ?_
      refine ae_lsub (pc := 86) dX4_spread_86 rfl ?_
      refine ae_lreturn (pc := 87) dX4_spread_87 rfl ?_
      exact ⟨rfl, rfl⟩
    · have hk2 : k < L.length := by rw [nI_leI (by omega) (by omega)] at c18; omega
      have ih2 := ih hk2
      rw [lTk_s _ L hk2] at ih2
      have hm := b5 _ (List.getElem_mem hk2)
      obtain ⟨h1, h2⟩ := chN_lt L[k] c
      have hm2 := hm.2
      refine ae_aload_n (pc := 21) dX4_spread_21 rfl ?_
      refine ae_getR (pc := 22) (k := 21) (c := 4) (j := 2) (q := 22) dX4_spread_22 rfl rfl (Nat.le_of_ble_eq_true rfl) rfl (Nat.le_of_ble_eq_true rfl) rfl ?_
      refine ae_iload (pc := 25) dX4_spread_25 rfl ?_
      refine ae_laload (pc := 27) (k := 22) (N := 256) (v := cel cn L[k]) (s + k) dX4_spread_27 (Nat.le_of_ble_eq_true rfl) rfl rfl rfl (by omega) (b4 k hk2) ?_
      refine ae_pcallS (pc := 28) (z := zX4_cellColor) (As := [_]) dX4_spread_28 rfl rfl rfl rfl (Nat.le_of_ble_eq_true rfl) (sc_cellColor (d + 1) M cn _ hm) ?_
      refine ae_iload_n (pc := 31) dX4_spread_31 rfl ?_
      refine ae_pcallS (pc := 32) (z := zX10_channelOf) (As := [_, _]) dX4_spread_32 rfl rfl rfl rfl (Nat.le_of_ble_eq_true rfl) (sc_channelOf (d + 1) _ _ _) ?_
      refine ae_i2l (pc := 35) (v := nL (chN L[k] c)) dX4_spread_35 (by rw [h2]; exact nI_i2l (by omega)) ?_
      refine ae_lstore (pc := 36) dX4_spread_36 rfl (Nat.le_of_ble_eq_true rfl) ?_
      refine ae_lload_n (pc := 38) dX4_spread_38 rfl ?_
      refine ae_aload_n (pc := 39) dX4_spread_39 rfl ?_
      refine ae_getR (pc := 40) (k := 21) (c := 4) (j := 2) (q := 22) dX4_spread_40 rfl rfl (Nat.le_of_ble_eq_true rfl) rfl (Nat.le_of_ble_eq_true rfl) rfl ?_
      refine ae_iload (pc := 43) dX4_spread_43 rfl ?_
      refine ae_laload (pc := 45) (k := 22) (N := 256) (v := cel cn L[k]) (s + k) dX4_spread_45 (Nat.le_of_ble_eq_true rfl) rfl rfl rfl (by omega) (b4 k hk2) ?_
      refine ae_pcallS (pc := 46) (z := zX4_cellNumber) (As := [_]) dX4_spread_46 rfl rfl rfl rfl (Nat.le_of_ble_eq_true rfl) (sc_cellNumber (d + 1) M cn _ hm) ?_
      refine ae_i2l (pc := 49) (v := nL (cn L[k])) dX4_spread_49 (nI_i2l (by omega)) ?_
      refine ae_lload (pc := 50) dX4_spread_50 rfl ?_
      refine ae_lmul (pc := 52) (v := nL (cn L[k] * chN L[k] c)) dX4_spread_52 (nL_mul _ _) ?_
      refine ae_lload (pc := 53) dX4_spread_53 rfl ?_
      refine ae_lmul (pc := 55) (v := nL (cn L[k] * chN L[k] c * chN L[k] c)) dX4_spread_55 (nL_mul _ _) ?_
      refine ae_ladd (pc := 56) (v := nL (lTk (gQ cn c) L k + gQ cn c L[k])) dX4_spread_56 (nL_add _ _) ?_
      refine ae_lstore_n (pc := 57) dX4_spread_57 rfl (Nat.le_of_ble_eq_true rfl) ?_
      refine ae_iinc (pc := 58) (v := nI (s + (k + 1))) dX4_spread_58 rfl (nI_inc (s + k)) ?_
      refine ae_goto (pc := 61) (t := 10) dX4_spread_61 (by decide) ?_
      exact ae_forget [6] rfl ih2
  refine ae_lconst (pc := 0) (v := 0) dX4_spread_0 (by decide) ?_
  refine ae_lstore_n (pc := 1) dX4_spread_1 rfl (Nat.le_of_ble_eq_true rfl) ?_
  refine ae_aload_n (pc := 2) dX4_spread_2 rfl ?_
  refine ae_getR (pc := 3) (k := 21) (c := 4) (j := 3) (q := 23) dX4_spread_3 rfl rfl (Nat.le_of_ble_eq_true rfl) rfl (Nat.le_of_ble_eq_true rfl) rfl ?_
  refine ae_iload_n (pc := 6) dX4_spread_6 rfl ?_
  refine ae_iaload (pc := 7) (k := 23) (N := 16) (v := nI s) (b) dX4_spread_7 (Nat.le_of_ble_eq_true rfl) rfl rfl rfl (by omega) b1 ?_
  refine ae_istore (pc := 8) dX4_spread_8 rfl (Nat.le_of_ble_eq_true rfl) ?_
  exact st
theorem sc_meanColor (d : Nat) (M : am_M) (cn : Int32 → Nat) (b s : Nat) (L : List Int32) (hb : b < 16) (hB : BOX M cn b s L) (hp : 0 < lS cn L) : am_R (d + 3) zX4_meanColor [.ref 21, .int (nI b)] M (fun v M' => v = some (.int (lMe cn L 3)) ∧ M' = M) := by
  refine ae_enter (z := zX4_meanColor) (y := yX4_meanColor) (cc := cX4_meanColor) (mL := 3) (rt := some .int) (ci := 4) (st := false) (np := 1) (L := [some (.ref 21), some (.int (nI b)), none]) rfl (by decide) (Nat.le_of_ble_eq_true rfl) rfl ?_
  have hpx := sc_pixelsIn d M cn b s L hb hB
  have hsm := fun c => sc_sum d M cn b s L hb hB c
  obtain ⟨b1, b2, b3, b4, b5⟩ := hB
  have q1 : lS cn L ≤ 65536 := by
    refine Nat.le_trans (lS_le (b := 256) (fun c hc => (b5 c hc).2)) ?_
    have : L.length * 256 ≤ 256 * 256 := Nat.mul_le_mul_right _ (by omega)
    omega
  have g := fun c => lS_gS (cn := cn) c L
  have g0 := g 0
  have g1 := g 1
  have g2 := g 2
  have m0 := sc_mean (d + 1) (lS (gS cn 0) L) (lS cn L) (by omega) (by omega) M
  have m1 := sc_mean (d + 1) (lS (gS cn 1) L) (lS cn L) (by omega) (by omega) M
  have m2 := sc_mean (d + 1) (lS (gS cn 2) L) (lS cn L) (by omega) (by omega) M
  rw [if_pos hp] at m0 m1 m2
  refine ae_aload_n (pc := 0) dX4_meanColor_0 rfl ?_
  refine ae_iload_n (pc := 1) dX4_meanColor_1 rfl ?_
  refine ae_pcallV (pc := 2) (z := zX4_pixelsIn) (k := 21) (As := [_]) dX4_meanColor_2 rfl rfl rfl rfl (Nat.le_of_ble_eq_true rfl) rfl (Nat.le_of_ble_eq_true rfl) (Nat.le_of_ble_eq_true rfl) (hpx) ?_
  refine ae_istore_n (pc := 5) dX4_meanColor_5 rfl (Nat.le_of_ble_eq_true rfl) ?_
  refine ae_aload_n (pc := 6) dX4_meanColor_6 rfl ?_
  refine ae_iload_n (pc := 7) dX4_meanColor_7 rfl ?_
  refine ae_iconst (pc := 8) (v := nI 0) dX4_meanColor_8 (by decide) ?_
  refine ae_pcallV (pc := 9) (z := zX4_sum) (k := 21) (As := [_, _]) dX4_meanColor_9 rfl rfl rfl rfl (Nat.le_of_ble_eq_true rfl) rfl (Nat.le_of_ble_eq_true rfl) (Nat.le_of_ble_eq_true rfl) (hsm 0) ?_
  refine ae_iload_n (pc := 12) dX4_meanColor_12 rfl ?_
  refine ae_pcallS (pc := 13) (z := zX10_mean) (As := [_, _]) dX4_meanColor_13 rfl rfl rfl rfl (Nat.le_of_ble_eq_true rfl) (m0) ?_
  refine ae_aload_n (pc := 16) dX4_meanColor_16 rfl ?_
  refine ae_iload_n (pc := 17) dX4_meanColor_17 rfl ?_
  refine ae_iconst (pc := 18) (v := nI 1) dX4_meanColor_18 (by decide) ?_
  refine ae_pcallV (pc := 19) (z := zX4_sum) (k := 21) (As := [_, _]) dX4_meanColor_19 rfl rfl rfl rfl (Nat.le_of_ble_eq_true rfl) rfl (Nat.le_of_ble_eq_true rfl) (Nat.le_of_ble_eq_true rfl) (hsm 1) ?_
  refine ae_iload_n (pc := 22) dX4_meanColor_22 rfl ?_
  refine ae_pcallS (pc := 23) (z := zX10_mean) (As := [_, _]) dX4_meanColor_23 rfl rfl rfl rfl (Nat.le_of_ble_eq_true rfl) (m1) ?_
  refine ae_aload_n (pc := 26) dX4_meanColor_26 rfl ?_
  refine ae_iload_n (pc := 27) dX4_meanColor_27 rfl ?_
  refine ae_iconst (pc := 28) (v := nI 2) dX4_meanColor_28 (by decide) ?_
  refine ae_pcallV (pc := 29) (z := zX4_sum) (k := 21) (As := [_, _]) dX4_meanColor_29 rfl rfl rfl rfl (Nat.le_of_ble_eq_true rfl) rfl (Nat.le_of_ble_eq_true rfl) (Nat.le_of_ble_eq_true rfl) (hsm 2) ?_
  refine ae_iload_n (pc := 32) dX4_meanColor_32 rfl ?_
  refine ae_pcallS (pc := 33) (z := zX10_mean) (As := [_, _]) dX4_meanColor_33 rfl rfl rfl rfl (Nat.le_of_ble_eq_true rfl) (m2) ?_
  refine ae_pcallS (pc := 36) (z := zX10_colorOf) (As := [_, _, _]) dX4_meanColor_36 rfl rfl rfl rfl (Nat.le_of_ble_eq_true rfl) (sc_colorOf (d + 1) _ _ _ _) ?_
  refine ae_ireturn (pc := 39) dX4_meanColor_39 rfl ?_
  exact ⟨by rw [(lMe_c hp).1], rfl⟩
theorem sc_measure_0 (d : Nat) (M : am_M) (cn : Int32 → Nat) (b s : Nat) (L : List Int32) (hb : b < 16) (hB : BOX M cn b s L) : am_R (d + 4) zX4_measure [.ref 21, .int (nI b), .int (nI 0)] M (fun v M' => v = some (.long (lMs cn 0 L)) ∧ M' = M) := by
  refine ae_enter (z := zX4_measure) (y := yX4_measure) (cc := cX4_measure) (mL := 3) (rt := some .long) (ci := 4) (st := false) (np := 2) (L := [some (.ref 21), some (.int (nI b)), some (.int (nI 0))]) rfl (by decide) (Nat.le_of_ble_eq_true rfl) rfl ?_
  have q1 : lS cn L ≤ 65536 := by
    refine Nat.le_trans (lS_le (b := 256) (fun c hc => (hB.2.2.2.2 c hc).2)) ?_
    have : L.length * 256 ≤ 256 * 256 := Nat.mul_le_mul_right _ (by have := hB.2.2.1; omega)
    omega
  refine ae_iload_n (pc := 0) dX4_measure_0 rfl ?_
  refine ae_if_ne (pc := 1) (t := 11) dX4_measure_1 (by decide) (fun q => absurd q (by decide)) (fun _ => ?_)
  refine ae_aload_n (pc := 4) dX4_measure_4 rfl ?_
  refine ae_iload_n (pc := 5) dX4_measure_5 rfl ?_
  refine ae_pcallV (pc := 6) (z := zX4_pixelsIn) (k := 21) (As := [_]) dX4_measure_6 rfl rfl rfl rfl (Nat.le_of_ble_eq_true rfl) rfl (Nat.le_of_ble_eq_true rfl) (Nat.le_of_ble_eq_true rfl) (sc_pixelsIn (d + 1) M cn b s L hb hB) ?_
  refine ae_i2l (pc := 9) (v := nL (lS cn L)) dX4_measure_9 (nI_i2l (by omega)) ?_
  refine ae_lreturn (pc := 10) dX4_measure_10 rfl ?_
  exact ⟨rfl, rfl⟩
theorem sc_measure_1 (d : Nat) (M : am_M) (cn : Int32 → Nat) (b s : Nat) (L : List Int32) (hb : b < 16) (hB : BOX M cn b s L) : am_R (d + 4) zX4_measure [.ref 21, .int (nI b), .int (nI 1)] M (fun v M' => v = some (.long (lMs cn 1 L)) ∧ M' = M) := by
  refine ae_enter (z := zX4_measure) (y := yX4_measure) (cc := cX4_measure) (mL := 3) (rt := some .long) (ci := 4) (st := false) (np := 2) (L := [some (.ref 21), some (.int (nI b)), some (.int (nI 1))]) rfl (by decide) (Nat.le_of_ble_eq_true rfl) rfl ?_
  refine ae_iload_n (pc := 0) dX4_measure_0 rfl ?_
  refine ae_if_ne (pc := 1) (t := 11) dX4_measure_1 (by decide) (fun _ => ?_) (fun q => absurd (by decide) q)
  refine ae_iload_n (pc := 11) dX4_measure_11 rfl ?_
  refine ae_iconst (pc := 12) (v := nI 1) dX4_measure_12 (by decide) ?_
  refine ae_icmp_ne (pc := 13) (t := 28) dX4_measure_13 (by decide) (fun c13 => ?_) (fun c13 => ?_)
  · exact absurd rfl c13
  refine ae_aload_n (pc := 16) dX4_measure_16 rfl ?_
  refine ae_iload_n (pc := 17) dX4_measure_17 rfl ?_
  refine ae_aload_n (pc := 18) dX4_measure_18 rfl ?_
  refine ae_iload_n (pc := 19) dX4_measure_19 rfl ?_
  refine ae_pcallV (pc := 20) (z := zX4_widestChannel) (k := 21) (As := [_]) dX4_measure_20 rfl rfl rfl rfl (Nat.le_of_ble_eq_true rfl) rfl (Nat.le_of_ble_eq_true rfl) (Nat.le_of_ble_eq_true rfl) (sc_widestChannel d M cn b s L hb hB) ?_
  refine ae_pcallV (pc := 23) (z := zX4_range) (k := 21) (As := [_, _]) dX4_measure_23 rfl rfl rfl rfl (Nat.le_of_ble_eq_true rfl) rfl (Nat.le_of_ble_eq_true rfl) (Nat.le_of_ble_eq_true rfl) (sc_range (d + 1) M cn b s L hb hB _) ?_
  refine ae_i2l (pc := 26) dX4_measure_26 rfl ?_
  refine ae_lreturn (pc := 27) dX4_measure_27 rfl ?_
  exact ⟨rfl, rfl⟩
theorem sc_measure_2 (d : Nat) (M : am_M) (cn : Int32 → Nat) (b s : Nat) (L : List Int32) (hb : b < 16) (hB : BOX M cn b s L) : am_R (d + 4) zX4_measure [.ref 21, .int (nI b), .int (nI 2)] M (fun v M' => v = some (.long (lMs cn 2 L)) ∧ M' = M) := by
  refine ae_enter (z := zX4_measure) (y := yX4_measure) (cc := cX4_measure) (mL := 3) (rt := some .long) (ci := 4) (st := false) (np := 2) (L := [some (.ref 21), some (.int (nI b)), some (.int (nI 2))]) rfl (by decide) (Nat.le_of_ble_eq_true rfl) rfl ?_
  have e : lMs cn 2 L = lSp cn L 0 + lSp cn L 1 + lSp cn L 2 := by
    show 0 + lSp cn L 0 + lSp cn L 1 + lSp cn L 2 = _
    rw [Int64.zero_add]
  refine ae_iload_n (pc := 0) dX4_measure_0 rfl ?_
  refine ae_if_ne (pc := 1) (t := 11) dX4_measure_1 (by decide) (fun _ => ?_) (fun q => absurd (by decide) q)
  refine ae_iload_n (pc := 11) dX4_measure_11 rfl ?_
  refine ae_iconst (pc := 12) (v := nI 1) dX4_measure_12 (by decide) ?_
  refine ae_icmp_ne (pc := 13) (t := 28) dX4_measure_13 (by decide) (fun c13 => ?_) (fun c13 => ?_)
  · refine ae_aload_n (pc := 28) dX4_measure_28 rfl ?_
    refine ae_iload_n (pc := 29) dX4_measure_29 rfl ?_
    refine ae_iconst (pc := 30) (v := nI 0) dX4_measure_30 (by decide) ?_
    refine ae_pcallV (pc := 31) (z := zX4_spread) (k := 21) (As := [_, _]) dX4_measure_31 rfl rfl rfl rfl (Nat.le_of_ble_eq_true rfl) rfl (Nat.le_of_ble_eq_true rfl) (Nat.le_of_ble_eq_true rfl) (sc_spread d M cn b s L hb hB 0) ?_
    refine ae_aload_n (pc := 34) dX4_measure_34 rfl ?_
    refine ae_iload_n (pc := 35) dX4_measure_35 rfl ?_
    refine ae_iconst (pc := 36) (v := nI 1) dX4_measure_36 (by decide) ?_
    refine ae_pcallV (pc := 37) (z := zX4_spread) (k := 21) (As := [_, _]) dX4_measure_37 rfl rfl rfl rfl (Nat.le_of_ble_eq_true rfl) rfl (Nat.le_of_ble_eq_true rfl) (Nat.le_of_ble_eq_true rfl) (sc_spread d M cn b s L hb hB 1) ?_
    refine ae_ladd (pc := 40) dX4_measure_40 rfl ?_
    refine ae_aload_n (pc := 41) dX4_measure_41 rfl ?_
    refine ae_iload_n (pc := 42) dX4_measure_42 rfl ?_
    refine ae_iconst (pc := 43) (v := nI 2) dX4_measure_43 (by decide) ?_
    refine ae_pcallV (pc := 44) (z := zX4_spread) (k := 21) (As := [_, _]) dX4_measure_44 rfl rfl rfl rfl (Nat.le_of_ble_eq_true rfl) rfl (Nat.le_of_ble_eq_true rfl) (Nat.le_of_ble_eq_true rfl) (sc_spread d M cn b s L hb hB 2) ?_
    refine ae_ladd (pc := 47) dX4_measure_47 rfl ?_
    refine ae_lreturn (pc := 48) dX4_measure_48 rfl ?_
    exact ⟨by rw [e], rfl⟩
  · exact absurd (Classical.not_not.mp c13) (by decide)
theorem sc_measure (d : Nat) (M : am_M) (cn : Int32 → Nat) (b s : Nat) (L : List Int32) (hb : b < 16) (hB : BOX M cn b s L) (r : Nat) (hr : r < 3) : am_R (d + 4) zX4_measure [.ref 21, .int (nI b), .int (nI r)] M (fun v M' => v = some (.long (lMs cn r L)) ∧ M' = M) := by
  match r, hr with
  | 0, _ => exact sc_measure_0 d M cn b s L hb hB
  | 1, _ => exact sc_measure_1 d M cn b s L hb hB
  | 2, _ => exact sc_measure_2 d M cn b s L hb hB
theorem sc_chooseBox (d : Nat) (M : am_M) (cn : Int32 → Nat) (nb : Nat) (B : Nat → List Int32) (hB : BXS M cn nb B) (r : Nat) (hr : r < 3) : am_R (d + 5) zX4_chooseBox [.ref 21, .int (nI r)] M (fun v M' => v = some (.int (oI (lGr cn r B nb))) ∧ M' = M) := by
  refine ae_enter (z := zX4_chooseBox) (y := yX4_chooseBox) (cc := cX4_chooseBox) (mL := 8) (rt := some .int) (ci := 4) (st := false) (np := 1) (L := [some (.ref 21), some (.int (nI r)), none, none, none, none, none, none]) rfl (by decide) (Nat.le_of_ble_eq_true rfl) rfl ?_
  obtain ⟨n1, n2, st, h1, h2⟩ := hB
  refine ae_iconst (pc := 0) (v := (-1)) dX4_chooseBox_0 (by decide) ?_
  refine ae_istore_n (pc := 1) dX4_chooseBox_1 rfl (Nat.le_of_ble_eq_true rfl) ?_
  refine ae_lconst (pc := 2) (v := 0) dX4_chooseBox_2 (by decide) ?_
  refine ae_lstore_n (pc := 3) dX4_chooseBox_3 rfl (Nat.le_of_ble_eq_true rfl) ?_
  refine ae_iconst (pc := 4) (v := nI 0) dX4_chooseBox_4 (by decide) ?_
  refine ae_istore (pc := 5) dX4_chooseBox_5 rfl (Nat.le_of_ble_eq_true rfl) ?_
  skip
  refine am_down (P := fun b => ∀ x : Int64, (∀ q, lGr cn r B b = some q → x = lMs cn r (B q)) → am_E none (am_R (d + 4)) cX4_chooseBox 4 (some .int) _ (7, [some (.ref 21), some (.int (nI r)), some (.int (oI (lGr cn r B b))), some (.long x), none, some (.int (nI b)), none, none], [], M)) nb (fun b hb ih x hx => ?_) 0 (fun q hq => (by cases hq))
  refine ae_iload (pc := 7) dX4_chooseBox_7 rfl ?_
  refine ae_aload_n (pc := 9) dX4_chooseBox_9 rfl ?_
  refine ae_getI (pc := 10) (k := 21) (c := 4) (j := 5) (v := nI nb) dX4_chooseBox_10 rfl rfl (Or.inl rfl) (Nat.le_of_ble_eq_true rfl) rfl (Nat.le_of_ble_eq_true rfl) n1 ?_
  refine ae_icmp_ge (pc := 13) (t := 71) dX4_chooseBox_13 (by decide) (fun c13 => ?_) (fun c13 => ?_)
  · have hb2 : b = nb := by rw [nI_leI (by omega) (by omega)] at c13; omega
    subst hb2
    refine ae_iload_n (pc := 71) dX4_chooseBox_71 rfl ?_
    refine ae_ireturn (pc := 72) dX4_chooseBox_72 rfl ?_
    exact ⟨rfl, rfl⟩
  · have hb2 : b < nb := by rw [nI_leI (by omega) (by omega)] at c13; omega
    have hbx := h1 b hb2
    have hms := sc_measure d M cn b (st b) (B b) (by omega) hbx r hr
    obtain ⟨b1, b2, b3, -, -⟩ := hbx
    have ih2 := ih hb2
    rw [lGr_s] at ih2
    by_cases hl : 1 < (B b).length
    · rw [if_pos hl] at ih2
      cases hg : lGr cn r B b with
      | none =>
        rw [hg] at ih2
        dsimp only at ih2
        have st2 := ih2 (lMs cn r (B b)) (fun q hq => by cases hq; rfl)
        refine ae_aload_n (pc := 16) dX4_chooseBox_16 rfl ?_
        refine ae_getR (pc := 17) (k := 21) (c := 4) (j := 4) (q := 24) dX4_chooseBox_17 rfl rfl (Nat.le_of_ble_eq_true rfl) rfl (Nat.le_of_ble_eq_true rfl) rfl ?_
        refine ae_iload (pc := 20) dX4_chooseBox_20 rfl ?_
        refine ae_iaload (pc := 22) (k := 24) (N := 16) (v := nI (st b + (B b).length)) (b) dX4_chooseBox_22 (Nat.le_of_ble_eq_true rfl) rfl rfl rfl (by omega) b2 ?_
        refine ae_aload_n (pc := 23) dX4_chooseBox_23 rfl ?_
        refine ae_getR (pc := 24) (k := 21) (c := 4) (j := 3) (q := 23) dX4_chooseBox_24 rfl rfl (Nat.le_of_ble_eq_true rfl) rfl (Nat.le_of_ble_eq_true rfl) rfl ?_
        refine ae_iload (pc := 27) dX4_chooseBox_27 rfl ?_
        refine ae_iaload (pc := 29) (k := 23) (N := 16) (v := nI (st b)) (b) dX4_chooseBox_29 (Nat.le_of_ble_eq_true rfl) rfl rfl rfl (by omega) b1 ?_
        refine ae_isub (pc := 30) (v := nI (B b).length) dX4_chooseBox_30 ((nI_sub (by omega)).trans (congrArg nI (by omega))) ?_
        refine ae_iconst (pc := 31) (v := nI 2) dX4_chooseBox_31 (by decide) ?_
        refine ae_icmp_ge (pc := 32) (t := 38) dX4_chooseBox_32 (by decide) (fun c32 => ?_) (fun c32 => ?_)
        rotate_left
        · exact absurd ((nI_leI (by omega) (by omega)).mpr hl) c32
        refine ae_aload_n (pc := 38) dX4_chooseBox_38 rfl ?_
        refine ae_iload (pc := 39) dX4_chooseBox_39 rfl ?_
        refine ae_iload_n (pc := 41) dX4_chooseBox_41 rfl ?_
        refine ae_pcallV (pc := 42) (z := zX4_measure) (k := 21) (As := [_, _]) dX4_chooseBox_42 rfl rfl rfl rfl (Nat.le_of_ble_eq_true rfl) rfl (Nat.le_of_ble_eq_true rfl) (Nat.le_of_ble_eq_true rfl) (hms) ?_
        refine ae_lstore (pc := 45) dX4_chooseBox_45 rfl (Nat.le_of_ble_eq_true rfl) ?_
        refine ae_iload_n (pc := 47) dX4_chooseBox_47 rfl ?_
        refine ae_iconst (pc := 48) (v := (-1)) dX4_chooseBox_48 (by decide) ?_
        refine ae_icmp_eq (pc := 49) (t := 59) dX4_chooseBox_49 (by decide) (fun c49 => ?_) (fun c49 => ?_)
        rotate_left
        · exact absurd rfl c49
        refine ae_iload (pc := 59) dX4_chooseBox_59 rfl ?_
        refine ae_istore_n (pc := 61) dX4_chooseBox_61 rfl (Nat.le_of_ble_eq_true rfl) ?_
        refine ae_lload (pc := 62) dX4_chooseBox_62 rfl ?_
        refine ae_lstore_n (pc := 64) dX4_chooseBox_64 rfl (Nat.le_of_ble_eq_true rfl) ?_
        refine ae_iinc (pc := 65) (v := nI (b + 1)) dX4_chooseBox_65 rfl (nI_inc b) ?_
        refine ae_goto (pc := 68) (t := 7) dX4_chooseBox_68 (by decide) ?_
        exact ae_forget [6] rfl st2
      | some q =>
        have hq := (lGr_lt hg).1
        rw [hg] at ih2
        dsimp only at ih2
        have hx2 := hx q hg
        by_cases hlt : lMs cn r (B q) < lMs cn r (B b)
        · rw [if_pos hlt] at ih2
          have st2 := ih2 (lMs cn r (B b)) (fun q hq => by cases hq; rfl)
          refine ae_aload_n (pc := 16) dX4_chooseBox_16 rfl ?_
          refine ae_getR (pc := 17) (k := 21) (c := 4) (j := 4) (q := 24) dX4_chooseBox_17 rfl rfl (Nat.le_of_ble_eq_true rfl) rfl (Nat.le_of_ble_eq_true rfl) rfl ?_
          refine ae_iload (pc := 20) dX4_chooseBox_20 rfl ?_
          refine ae_iaload (pc := 22) (k := 24) (N := 16) (v := nI (st b + (B b).length)) (b) dX4_chooseBox_22 (Nat.le_of_ble_eq_true rfl) rfl rfl rfl (by omega) b2 ?_
          refine ae_aload_n (pc := 23) dX4_chooseBox_23 rfl ?_
          refine ae_getR (pc := 24) (k := 21) (c := 4) (j := 3) (q := 23) dX4_chooseBox_24 rfl rfl (Nat.le_of_ble_eq_true rfl) rfl (Nat.le_of_ble_eq_true rfl) rfl ?_
          refine ae_iload (pc := 27) dX4_chooseBox_27 rfl ?_
          refine ae_iaload (pc := 29) (k := 23) (N := 16) (v := nI (st b)) (b) dX4_chooseBox_29 (Nat.le_of_ble_eq_true rfl) rfl rfl rfl (by omega) b1 ?_
          refine ae_isub (pc := 30) (v := nI (B b).length) dX4_chooseBox_30 ((nI_sub (by omega)).trans (congrArg nI (by omega))) ?_
          refine ae_iconst (pc := 31) (v := nI 2) dX4_chooseBox_31 (by decide) ?_
          refine ae_icmp_ge (pc := 32) (t := 38) dX4_chooseBox_32 (by decide) (fun c32 => ?_) (fun c32 => ?_)
          rotate_left
          · exact absurd ((nI_leI (by omega) (by omega)).mpr hl) c32
          refine ae_aload_n (pc := 38) dX4_chooseBox_38 rfl ?_
          refine ae_iload (pc := 39) dX4_chooseBox_39 rfl ?_
          refine ae_iload_n (pc := 41) dX4_chooseBox_41 rfl ?_
          refine ae_pcallV (pc := 42) (z := zX4_measure) (k := 21) (As := [_, _]) dX4_chooseBox_42 rfl rfl rfl rfl (Nat.le_of_ble_eq_true rfl) rfl (Nat.le_of_ble_eq_true rfl) (Nat.le_of_ble_eq_true rfl) (hms) ?_
          refine ae_lstore (pc := 45) dX4_chooseBox_45 rfl (Nat.le_of_ble_eq_true rfl) ?_
          refine ae_iload_n (pc := 47) dX4_chooseBox_47 rfl ?_
          refine ae_iconst (pc := 48) (v := (-1)) dX4_chooseBox_48 (by decide) ?_
          refine ae_icmp_eq (pc := 49) (t := 59) dX4_chooseBox_49 (by decide) (fun c49 => ?_) (fun c49 => ?_)
          · exact absurd c49 (nI_ne1 (by omega))
          refine ae_lload (pc := 52) dX4_chooseBox_52 rfl ?_
          refine ae_lload_n (pc := 54) dX4_chooseBox_54 rfl ?_
          refine ae_lcmp (pc := 55) dX4_chooseBox_55 rfl ?_
          refine ae_if_le (pc := 56) (t := 65) dX4_chooseBox_56 (by decide) (fun c56 => ?_) (fun c56 => ?_)
          · exact absurd (by rw [hx2]; exact hlt) (Int64.not_lt.mpr (lg_le0.mp c56))
          refine ae_iload (pc := 59) dX4_chooseBox_59 rfl ?_
          refine ae_istore_n (pc := 61) dX4_chooseBox_61 rfl (Nat.le_of_ble_eq_true rfl) ?_
          refine ae_lload (pc := 62) dX4_chooseBox_62 rfl ?_
          refine ae_lstore_n (pc := 64) dX4_chooseBox_64 rfl (Nat.le_of_ble_eq_true rfl) ?_
          refine ae_iinc (pc := 65) (v := nI (b + 1)) dX4_chooseBox_65 rfl (nI_inc b) ?_
          refine ae_goto (pc := 68) (t := 7) dX4_chooseBox_68 (by decide) ?_
          exact ae_forget [6] rfl st2
        · rw [if_neg hlt] at ih2
          have st2 := ih2 x (fun q' hq' => by cases hq'; exact hx2)
          refine ae_aload_n (pc := 16) dX4_chooseBox_16 rfl ?_
          refine ae_getR (pc := 17) (k := 21) (c := 4) (j := 4) (q := 24) dX4_chooseBox_17 rfl rfl (Nat.le_of_ble_eq_true rfl) rfl (Nat.le_of_ble_eq_true rfl) rfl ?_
          refine ae_iload (pc := 20) dX4_chooseBox_20 rfl ?_
          refine ae_iaload (pc := 22) (k := 24) (N := 16) (v := nI (st b + (B b).length)) (b) dX4_chooseBox_22 (Nat.le_of_ble_eq_true rfl) rfl rfl rfl (by omega) b2 ?_
          refine ae_aload_n (pc := 23) dX4_chooseBox_23 rfl ?_
          refine ae_getR (pc := 24) (k := 21) (c := 4) (j := 3) (q := 23) dX4_chooseBox_24 rfl rfl (Nat.le_of_ble_eq_true rfl) rfl (Nat.le_of_ble_eq_true rfl) rfl ?_
          refine ae_iload (pc := 27) dX4_chooseBox_27 rfl ?_
          refine ae_iaload (pc := 29) (k := 23) (N := 16) (v := nI (st b)) (b) dX4_chooseBox_29 (Nat.le_of_ble_eq_true rfl) rfl rfl rfl (by omega) b1 ?_
          refine ae_isub (pc := 30) (v := nI (B b).length) dX4_chooseBox_30 ((nI_sub (by omega)).trans (congrArg nI (by omega))) ?_
          refine ae_iconst (pc := 31) (v := nI 2) dX4_chooseBox_31 (by decide) ?_
          refine ae_icmp_ge (pc := 32) (t := 38) dX4_chooseBox_32 (by decide) (fun c32 => ?_) (fun c32 => ?_)
          rotate_left
          · exact absurd ((nI_leI (by omega) (by omega)).mpr hl) c32
          refine ae_aload_n (pc := 38) dX4_chooseBox_38 rfl ?_
          refine ae_iload (pc := 39) dX4_chooseBox_39 rfl ?_
          refine ae_iload_n (pc := 41) dX4_chooseBox_41 rfl ?_
          refine ae_pcallV (pc := 42) (z := zX4_measure) (k := 21) (As := [_, _]) dX4_chooseBox_42 rfl rfl rfl rfl (Nat.le_of_ble_eq_true rfl) rfl (Nat.le_of_ble_eq_true rfl) (Nat.le_of_ble_eq_true rfl) (hms) ?_
          refine ae_lstore (pc := 45) dX4_chooseBox_45 rfl (Nat.le_of_ble_eq_true rfl) ?_
          refine ae_iload_n (pc := 47) dX4_chooseBox_47 rfl ?_
          refine ae_iconst (pc := 48) (v := (-1)) dX4_chooseBox_48 (by decide) ?_
          refine ae_icmp_eq (pc := 49) (t := 59) dX4_chooseBox_49 (by decide) (fun c49 => ?_) (fun c49 => ?_)
          · exact absurd c49 (nI_ne1 (by omega))
          refine ae_lload (pc := 52) dX4_chooseBox_52 rfl ?_
          refine ae_lload_n (pc := 54) dX4_chooseBox_54 rfl ?_
          refine ae_lcmp (pc := 55) dX4_chooseBox_55 rfl ?_
          refine ae_if_le (pc := 56) (t := 65) dX4_chooseBox_56 (by decide) (fun c56 => ?_) (fun c56 => ?_)
          rotate_left
          · exact absurd (lg_le0.mpr (Int64.not_lt.mp (by rw [hx2]; exact hlt))) c56
          refine ae_iinc (pc := 65) (v := nI (b + 1)) dX4_chooseBox_65 rfl (nI_inc b) ?_
          refine ae_goto (pc := 68) (t := 7) dX4_chooseBox_68 (by decide) ?_
          exact ae_forget [6] rfl st2
    · rw [if_neg hl] at ih2
      have st2 := ih2 x hx
      refine ae_aload_n (pc := 16) dX4_chooseBox_16 rfl ?_
      refine ae_getR (pc := 17) (k := 21) (c := 4) (j := 4) (q := 24) dX4_chooseBox_17 rfl rfl (Nat.le_of_ble_eq_true rfl) rfl (Nat.le_of_ble_eq_true rfl) rfl ?_
      refine ae_iload (pc := 20) dX4_chooseBox_20 rfl ?_
      refine ae_iaload (pc := 22) (k := 24) (N := 16) (v := nI (st b + (B b).length)) (b) dX4_chooseBox_22 (Nat.le_of_ble_eq_true rfl) rfl rfl rfl (by omega) b2 ?_
      refine ae_aload_n (pc := 23) dX4_chooseBox_23 rfl ?_
      refine ae_getR (pc := 24) (k := 21) (c := 4) (j := 3) (q := 23) dX4_chooseBox_24 rfl rfl (Nat.le_of_ble_eq_true rfl) rfl (Nat.le_of_ble_eq_true rfl) rfl ?_
      refine ae_iload (pc := 27) dX4_chooseBox_27 rfl ?_
      refine ae_iaload (pc := 29) (k := 23) (N := 16) (v := nI (st b)) (b) dX4_chooseBox_29 (Nat.le_of_ble_eq_true rfl) rfl rfl rfl (by omega) b1 ?_
      refine ae_isub (pc := 30) (v := nI (B b).length) dX4_chooseBox_30 ((nI_sub (by omega)).trans (congrArg nI (by omega))) ?_
      refine ae_iconst (pc := 31) (v := nI 2) dX4_chooseBox_31 (by decide) ?_
      refine ae_icmp_ge (pc := 32) (t := 38) dX4_chooseBox_32 (by decide) (fun c32 => ?_) (fun c32 => ?_)
      · exact absurd ((nI_leI (by omega) (by omega)).mp c32) (by omega)
      refine ae_goto (pc := 35) (t := 65) dX4_chooseBox_35 (by decide) ?_
      refine ae_iinc (pc := 65) (v := nI (b + 1)) dX4_chooseBox_65 rfl (nI_inc b) ?_
      refine ae_goto (pc := 68) (t := 7) dX4_chooseBox_68 (by decide) ?_
      exact st2

