theorem sm_entry0 (d : Nat) (M : am_M) (x y : Int32) (hn : ¬ (inE (M.1 34) x ∧ nI 0 ≤ y ∧ y ≤ nI 3)) : am_R (d + 3) zX11_entry [.ref 33, .int x, .int y] M (fun v M' => v = some (.int (-2)) ∧ M' = M) := by
  refine ae_enter (z := zX11_entry) (y := yX11_entry) (cc := cX11_entry) (mL := 3) (rt := some .int) (ci := 11) (st := false) (np := 2) (L := [some (.ref 33), some (.int x), some (.int y)]) rfl (by decide) (Nat.le_of_ble_eq_true rfl) rfl ?_
  refine ae_aload_n (pc := 0) dX11_entry_0 rfl ?_
  refine ae_iload_n (pc := 1) dX11_entry_1 rfl ?_
  refine ae_pcallV (pc := 2) (z := zX11_isEntry) (k := 33) (As := [_]) dX11_entry_2 rfl rfl rfl rfl (Nat.le_of_ble_eq_true rfl) rfl (Nat.le_of_ble_eq_true rfl) (Nat.le_of_ble_eq_true rfl) (sm_isEntry d M _) ?_
  refine ae_if_eq (pc := 5) (t := 17) dX11_entry_5 (by decide) (fun c5 => ?_) (fun c5 => ?_)
  · refine ae_bipush (pc := 17) (v := (-2)) dX11_entry_17 (by decide) ?_
    refine ae_ireturn (pc := 19) dX11_entry_19 rfl ?_
    exact ⟨rfl, rfl⟩
  · refine ae_iload_n (pc := 8) dX11_entry_8 rfl ?_
    refine ae_iconst (pc := 9) (v := nI 0) dX11_entry_9 (by decide) ?_
    refine ae_iconst (pc := 10) (v := nI 3) dX11_entry_10 (by decide) ?_
    refine ae_pcallS (pc := 11) (z := zX11_in) (As := [_, _, _]) dX11_entry_11 rfl rfl rfl rfl (Nat.le_of_ble_eq_true rfl) (sm_in (d + 1) _ _ _ _) ?_
    refine ae_if_ne (pc := 14) (t := 20) dX11_entry_14 (by decide) (fun c14 => ?_) (fun c14 => ?_)
    · exact (hn ⟨bI_ne0.mp c5, bI_ne0.mp c14⟩).elim
    · refine ae_bipush (pc := 17) (v := (-2)) dX11_entry_17 (by decide) ?_
      refine ae_ireturn (pc := 19) dX11_entry_19 rfl ?_
      exact ⟨rfl, rfl⟩
theorem sm_entry_0 (d : Nat) (M : am_M) (hf : wf0 (M.1 34)) (e : Nat) (he : e < fN (M.1 34)) : am_R (d + 6) zX11_entry [.ref 33, .int (nI e), .int (nI 0)] M (fun v M' => v = some (.int (M.1 34 (259 + e))) ∧ M' = M) := by
  refine ae_enter (z := zX11_entry) (y := yX11_entry) (cc := cX11_entry) (mL := 3) (rt := some .int) (ci := 11) (st := false) (np := 2) (L := [some (.ref 33), some (.int (nI e)), some (.int (nI 0))]) rfl (by decide) (Nat.le_of_ble_eq_true rfl) rfl ?_
  have hN := hf.2.2.2
  refine ae_aload_n (pc := 0) dX11_entry_0 rfl ?_
  refine ae_iload_n (pc := 1) dX11_entry_1 rfl ?_
  refine ae_pcallV (pc := 2) (z := zX11_isEntry) (k := 33) (As := [_]) dX11_entry_2 rfl rfl rfl rfl (Nat.le_of_ble_eq_true rfl) rfl (Nat.le_of_ble_eq_true rfl) (Nat.le_of_ble_eq_true rfl) (sm_isEntry (d + 3) M _) ?_
  refine ae_if_eq (pc := 5) (t := 17) dX11_entry_5 (by decide) (fun c5 => ?_) (fun c5 => ?_)
  · exact absurd (inE_of hf he) (bI_eq0.mp c5)
  refine ae_iload_n (pc := 8) dX11_entry_8 rfl ?_
  refine ae_iconst (pc := 9) (v := nI 0) dX11_entry_9 (by decide) ?_
  refine ae_iconst (pc := 10) (v := nI 3) dX11_entry_10 (by decide) ?_
  refine ae_pcallS (pc := 11) (z := zX11_in) (As := [_, _, _]) dX11_entry_11 rfl rfl rfl rfl (Nat.le_of_ble_eq_true rfl) (sm_in (d + 4) _ _ _ _) ?_
  refine ae_if_ne (pc := 14) (t := 20) dX11_entry_14 (by decide) (fun c14 => ?_) (fun c14 => ?_)
  rotate_left
  · exact absurd (by decide) (bI_eq0.mp (Classical.not_not.mp c14))
  refine ae_iload_n (pc := 20) dX11_entry_20 rfl ?_
  refine ae_tswI (pc := 21) (off := 27) (t := 48) dX11_entry_21 (by decide) (by decide) rfl (by decide) ?_
  refine ae_aload_n (pc := 48) dX11_entry_48 rfl ?_
  refine ae_getR (pc := 49) (k := 33) (c := 11) (j := 0) (q := 34) dX11_entry_49 rfl rfl (Nat.le_of_ble_eq_true rfl) rfl (Nat.le_of_ble_eq_true rfl) rfl ?_
  refine ae_sipush (pc := 52) (v := nI 259) dX11_entry_52 (by decide) ?_
  refine ae_iload_n (pc := 55) dX11_entry_55 rfl ?_
  refine ae_iadd (pc := 56) dX11_entry_56 (nI_add _ _) ?_
  refine ae_iaload (pc := 57) (k := 34) (N := 549) _ dX11_entry_57 (Nat.le_of_ble_eq_true rfl) rfl rfl rfl (by omega) rfl ?_
  refine ae_ireturn (pc := 58) dX11_entry_58 rfl ?_
  exact ⟨rfl, rfl⟩
theorem sm_entry_1 (d : Nat) (M : am_M) (hf : wf0 (M.1 34)) (e : Nat) (he : e < fN (M.1 34)) : am_R (d + 6) zX11_entry [.ref 33, .int (nI e), .int (nI 1)] M (fun v M' => v = some (.int (M.1 34 (275 + e))) ∧ M' = M) := by
  refine ae_enter (z := zX11_entry) (y := yX11_entry) (cc := cX11_entry) (mL := 3) (rt := some .int) (ci := 11) (st := false) (np := 2) (L := [some (.ref 33), some (.int (nI e)), some (.int (nI 1))]) rfl (by decide) (Nat.le_of_ble_eq_true rfl) rfl ?_
  have hN := hf.2.2.2
  refine ae_aload_n (pc := 0) dX11_entry_0 rfl ?_
  refine ae_iload_n (pc := 1) dX11_entry_1 rfl ?_
  refine ae_pcallV (pc := 2) (z := zX11_isEntry) (k := 33) (As := [_]) dX11_entry_2 rfl rfl rfl rfl (Nat.le_of_ble_eq_true rfl) rfl (Nat.le_of_ble_eq_true rfl) (Nat.le_of_ble_eq_true rfl) (sm_isEntry (d + 3) M _) ?_
  refine ae_if_eq (pc := 5) (t := 17) dX11_entry_5 (by decide) (fun c5 => ?_) (fun c5 => ?_)
  · exact absurd (inE_of hf he) (bI_eq0.mp c5)
  refine ae_iload_n (pc := 8) dX11_entry_8 rfl ?_
  refine ae_iconst (pc := 9) (v := nI 0) dX11_entry_9 (by decide) ?_
  refine ae_iconst (pc := 10) (v := nI 3) dX11_entry_10 (by decide) ?_
  refine ae_pcallS (pc := 11) (z := zX11_in) (As := [_, _, _]) dX11_entry_11 rfl rfl rfl rfl (Nat.le_of_ble_eq_true rfl) (sm_in (d + 4) _ _ _ _) ?_
  refine ae_if_ne (pc := 14) (t := 20) dX11_entry_14 (by decide) (fun c14 => ?_) (fun c14 => ?_)
  rotate_left
  · exact absurd (by decide) (bI_eq0.mp (Classical.not_not.mp c14))
  refine ae_iload_n (pc := 20) dX11_entry_20 rfl ?_
  refine ae_tswI (pc := 21) (off := 38) (t := 59) dX11_entry_21 (by decide) (by decide) rfl (by decide) ?_
  refine ae_aload_n (pc := 59) dX11_entry_59 rfl ?_
  refine ae_getR (pc := 60) (k := 33) (c := 11) (j := 0) (q := 34) dX11_entry_60 rfl rfl (Nat.le_of_ble_eq_true rfl) rfl (Nat.le_of_ble_eq_true rfl) rfl ?_
  refine ae_sipush (pc := 63) (v := nI 275) dX11_entry_63 (by decide) ?_
  refine ae_iload_n (pc := 66) dX11_entry_66 rfl ?_
  refine ae_iadd (pc := 67) dX11_entry_67 (nI_add _ _) ?_
  refine ae_iaload (pc := 68) (k := 34) (N := 549) _ dX11_entry_68 (Nat.le_of_ble_eq_true rfl) rfl rfl rfl (by omega) rfl ?_
  refine ae_ireturn (pc := 69) dX11_entry_69 rfl ?_
  exact ⟨rfl, rfl⟩
theorem sm_entry_2 (d : Nat) (M : am_M) (hf : wf0 (M.1 34)) (e : Nat) (he : e < fN (M.1 34)) : am_R (d + 6) zX11_entry [.ref 33, .int (nI e), .int (nI 2)] M (fun v M' => v = some (.int (nI (svc (M.1 34) e (fA (M.1 34))))) ∧ M' = (am_u M.1 42 (svR (M.1 42) (M.1 34) (fA (M.1 34))), M.2)) := by
  refine ae_enter (z := zX11_entry) (y := yX11_entry) (cc := cX11_entry) (mL := 3) (rt := some .int) (ci := 11) (st := false) (np := 2) (L := [some (.ref 33), some (.int (nI e)), some (.int (nI 2))]) rfl (by decide) (Nat.le_of_ble_eq_true rfl) rfl ?_
  have hN := hf.2.2.2
  have hct := sm_counts d M hf
  rw [if_pos (by omega)] at hct
  refine ae_aload_n (pc := 0) dX11_entry_0 rfl ?_
  refine ae_iload_n (pc := 1) dX11_entry_1 rfl ?_
  refine ae_pcallV (pc := 2) (z := zX11_isEntry) (k := 33) (As := [_]) dX11_entry_2 rfl rfl rfl rfl (Nat.le_of_ble_eq_true rfl) rfl (Nat.le_of_ble_eq_true rfl) (Nat.le_of_ble_eq_true rfl) (sm_isEntry (d + 3) M _) ?_
  refine ae_if_eq (pc := 5) (t := 17) dX11_entry_5 (by decide) (fun c5 => ?_) (fun c5 => ?_)
  · exact absurd (inE_of hf he) (bI_eq0.mp c5)
  refine ae_iload_n (pc := 8) dX11_entry_8 rfl ?_
  refine ae_iconst (pc := 9) (v := nI 0) dX11_entry_9 (by decide) ?_
  refine ae_iconst (pc := 10) (v := nI 3) dX11_entry_10 (by decide) ?_
  refine ae_pcallS (pc := 11) (z := zX11_in) (As := [_, _, _]) dX11_entry_11 rfl rfl rfl rfl (Nat.le_of_ble_eq_true rfl) (sm_in (d + 4) _ _ _ _) ?_
  refine ae_if_ne (pc := 14) (t := 20) dX11_entry_14 (by decide) (fun c14 => ?_) (fun c14 => ?_)
  rotate_left
  · exact absurd (by decide) (bI_eq0.mp (Classical.not_not.mp c14))
  refine ae_iload_n (pc := 20) dX11_entry_20 rfl ?_
  refine ae_tswI (pc := 21) (off := 49) (t := 70) dX11_entry_21 (by decide) (by decide) rfl (by decide) ?_
  refine ae_aload_n (pc := 70) dX11_entry_70 rfl ?_
  refine ae_callV (pc := 71) (z := zX11_counts) (k := 33) (As := []) dX11_entry_71 rfl rfl rfl rfl (Nat.le_of_ble_eq_true rfl) rfl (Nat.le_of_ble_eq_true rfl) (Nat.le_of_ble_eq_true rfl) (hct) (fun v M' hq => ?_)
  obtain ⟨rfl, rfl⟩ := hq
  refine ae_aload_n (pc := 74) dX11_entry_74 rfl ?_
  refine ae_getR (pc := 75) (k := 33) (c := 11) (j := 11) (q := 42) dX11_entry_75 rfl rfl (Nat.le_of_ble_eq_true rfl) rfl (Nat.le_of_ble_eq_true rfl) rfl ?_
  refine ae_iload_n (pc := 78) dX11_entry_78 rfl ?_
  refine ae_iaload (pc := 79) (k := 42) (N := 16) (v := nI (svc (M.1 34) e (fA (M.1 34)))) _ dX11_entry_79 (Nat.le_of_ble_eq_true rfl) rfl rfl rfl (by omega) (by simp only [am_u_self]; unfold svR stF; rw [if_pos (by omega)]; rfl) ?_
  refine ae_ireturn (pc := 80) dX11_entry_80 rfl ?_
  exact ⟨rfl, rfl⟩
theorem sm_entry_3 (d : Nat) (M : am_M) (hf : wf0 (M.1 34)) (e : Nat) (he : e < fN (M.1 34)) : am_R (d + 6) zX11_entry [.ref 33, .int (nI e), .int (nI 3)] M (fun v M' => v = some (.int (nI (if M.1 34 292 = 1 then ixc (M.1 34) (nI e) (fA (M.1 34)) else 0))) ∧ M' = M) := by
  refine ae_enter (z := zX11_entry) (y := yX11_entry) (cc := cX11_entry) (mL := 3) (rt := some .int) (ci := 11) (st := false) (np := 2) (L := [some (.ref 33), some (.int (nI e)), some (.int (nI 3))]) rfl (by decide) (Nat.le_of_ble_eq_true rfl) rfl ?_
  have hN := hf.2.2.2
  refine ae_aload_n (pc := 0) dX11_entry_0 rfl ?_
  refine ae_iload_n (pc := 1) dX11_entry_1 rfl ?_
  refine ae_pcallV (pc := 2) (z := zX11_isEntry) (k := 33) (As := [_]) dX11_entry_2 rfl rfl rfl rfl (Nat.le_of_ble_eq_true rfl) rfl (Nat.le_of_ble_eq_true rfl) (Nat.le_of_ble_eq_true rfl) (sm_isEntry (d + 3) M _) ?_
  refine ae_if_eq (pc := 5) (t := 17) dX11_entry_5 (by decide) (fun c5 => ?_) (fun c5 => ?_)
  · exact absurd (inE_of hf he) (bI_eq0.mp c5)
  refine ae_iload_n (pc := 8) dX11_entry_8 rfl ?_
  refine ae_iconst (pc := 9) (v := nI 0) dX11_entry_9 (by decide) ?_
  refine ae_iconst (pc := 10) (v := nI 3) dX11_entry_10 (by decide) ?_
  refine ae_pcallS (pc := 11) (z := zX11_in) (As := [_, _, _]) dX11_entry_11 rfl rfl rfl rfl (Nat.le_of_ble_eq_true rfl) (sm_in (d + 4) _ _ _ _) ?_
  refine ae_if_ne (pc := 14) (t := 20) dX11_entry_14 (by decide) (fun c14 => ?_) (fun c14 => ?_)
  rotate_left
  · exact absurd (by decide) (bI_eq0.mp (Classical.not_not.mp c14))
  refine ae_iload_n (pc := 20) dX11_entry_20 rfl ?_
  refine ae_tswO (pc := 21) (t := 81) dX11_entry_21 (by decide) (by decide) ?_
  refine ae_aload_n (pc := 81) dX11_entry_81 rfl ?_
  refine ae_iload_n (pc := 82) dX11_entry_82 rfl ?_
  refine ae_pcallV (pc := 83) (z := zX11_indexed) (k := 33) (As := [_]) dX11_entry_83 rfl rfl rfl rfl (Nat.le_of_ble_eq_true rfl) rfl (Nat.le_of_ble_eq_true rfl) (Nat.le_of_ble_eq_true rfl) (sm_indexed (d + 3) M hf _) ?_
  refine ae_ireturn (pc := 86) dX11_entry_86 rfl ?_
  exact ⟨rfl, rfl⟩
theorem sm_count_0 (d : Nat) (M : am_M) (hf : wf (M.1 34)) : am_R (d + 3) zX11_count [.ref 33, .int (nI 0)] M (fun v M' => v = some (.int (M.1 34 0)) ∧ M' = M) := by
  refine ae_enter (z := zX11_count) (y := yX11_count) (cc := cX11_count) (mL := 2) (rt := some .int) (ci := 11) (st := false) (np := 1) (L := [some (.ref 33), some (.int (nI 0))]) rfl (by decide) (Nat.le_of_ble_eq_true rfl) rfl ?_
  refine ae_iload_n (pc := 0) dX11_count_0 rfl ?_
  refine ae_tswI (pc := 1) (off := 55) (t := 56) dX11_count_1 (by decide) (by decide) rfl (by decide) ?_
  refine ae_aload_n (pc := 56) dX11_count_56 rfl ?_
  refine ae_getR (pc := 57) (k := 33) (c := 11) (j := 0) (q := 34) dX11_count_57 rfl rfl (Nat.le_of_ble_eq_true rfl) rfl (Nat.le_of_ble_eq_true rfl) rfl ?_
  refine ae_iconst (pc := 60) (v := nI 0) dX11_count_60 (by decide) ?_
  refine ae_iaload (pc := 61) (k := 34) (N := 549) _ dX11_count_61 (Nat.le_of_ble_eq_true rfl) rfl rfl rfl (by omega) rfl ?_
  refine ae_ireturn (pc := 62) dX11_count_62 rfl ?_
  exact ⟨rfl, rfl⟩
theorem sm_count_1 (d : Nat) (M : am_M) (hf : wf (M.1 34)) : am_R (d + 3) zX11_count [.ref 33, .int (nI 1)] M (fun v M' => v = some (.int (M.1 34 1)) ∧ M' = M) := by
  refine ae_enter (z := zX11_count) (y := yX11_count) (cc := cX11_count) (mL := 2) (rt := some .int) (ci := 11) (st := false) (np := 1) (L := [some (.ref 33), some (.int (nI 1))]) rfl (by decide) (Nat.le_of_ble_eq_true rfl) rfl ?_
  refine ae_iload_n (pc := 0) dX11_count_0 rfl ?_
  refine ae_tswI (pc := 1) (off := 62) (t := 63) dX11_count_1 (by decide) (by decide) rfl (by decide) ?_
  refine ae_aload_n (pc := 63) dX11_count_63 rfl ?_
  refine ae_getR (pc := 64) (k := 33) (c := 11) (j := 0) (q := 34) dX11_count_64 rfl rfl (Nat.le_of_ble_eq_true rfl) rfl (Nat.le_of_ble_eq_true rfl) rfl ?_
  refine ae_iconst (pc := 67) (v := nI 1) dX11_count_67 (by decide) ?_
  refine ae_iaload (pc := 68) (k := 34) (N := 549) _ dX11_count_68 (Nat.le_of_ble_eq_true rfl) rfl rfl rfl (by omega) rfl ?_
  refine ae_ireturn (pc := 69) dX11_count_69 rfl ?_
  exact ⟨rfl, rfl⟩
theorem sm_count_2 (d : Nat) (M : am_M) (hf : wf (M.1 34)) : am_R (d + 3) zX11_count [.ref 33, .int (nI 2)] M (fun v M' => v = some (.int (nI (opq (M.1 34) (fA (M.1 34))))) ∧ M' = M) := by
  refine ae_enter (z := zX11_count) (y := yX11_count) (cc := cX11_count) (mL := 2) (rt := some .int) (ci := 11) (st := false) (np := 1) (L := [some (.ref 33), some (.int (nI 2))]) rfl (by decide) (Nat.le_of_ble_eq_true rfl) rfl ?_
  refine ae_iload_n (pc := 0) dX11_count_0 rfl ?_
  refine ae_tswI (pc := 1) (off := 69) (t := 70) dX11_count_1 (by decide) (by decide) rfl (by decide) ?_
  refine ae_aload_n (pc := 70) dX11_count_70 rfl ?_
  refine ae_pcallV (pc := 71) (z := zX11_opaque) (k := 33) (As := []) dX11_count_71 rfl rfl rfl rfl (Nat.le_of_ble_eq_true rfl) rfl (Nat.le_of_ble_eq_true rfl) (Nat.le_of_ble_eq_true rfl) (sm_opaque d M hf.1) ?_
  refine ae_ireturn (pc := 74) dX11_count_74 rfl ?_
  exact ⟨rfl, rfl⟩
theorem sm_count_3 (d : Nat) (M : am_M) (hf : wf (M.1 34)) : am_R (d + 3) zX11_count [.ref 33, .int (nI 3)] M (fun v M' => v = some (.int (nI (fA (M.1 34)) - nI (opq (M.1 34) (fA (M.1 34))))) ∧ M' = M) := by
  refine ae_enter (z := zX11_count) (y := yX11_count) (cc := cX11_count) (mL := 2) (rt := some .int) (ci := 11) (st := false) (np := 1) (L := [some (.ref 33), some (.int (nI 3))]) rfl (by decide) (Nat.le_of_ble_eq_true rfl) rfl ?_
  refine ae_iload_n (pc := 0) dX11_count_0 rfl ?_
  refine ae_tswI (pc := 1) (off := 74) (t := 75) dX11_count_1 (by decide) (by decide) rfl (by decide) ?_
  refine ae_aload_n (pc := 75) dX11_count_75 rfl ?_
  refine ae_pcallV (pc := 76) (z := zX11_pixels) (k := 33) (As := []) dX11_count_76 rfl rfl rfl rfl (Nat.le_of_ble_eq_true rfl) rfl (Nat.le_of_ble_eq_true rfl) (Nat.le_of_ble_eq_true rfl) (sm_pixels (d + 1) M hf.1) ?_
  refine ae_aload_n (pc := 79) dX11_count_79 rfl ?_
  refine ae_pcallV (pc := 80) (z := zX11_opaque) (k := 33) (As := []) dX11_count_80 rfl rfl rfl rfl (Nat.le_of_ble_eq_true rfl) rfl (Nat.le_of_ble_eq_true rfl) (Nat.le_of_ble_eq_true rfl) (sm_opaque d M hf.1) ?_
  refine ae_isub (pc := 83) dX11_count_83 rfl ?_
  refine ae_ireturn (pc := 84) dX11_count_84 rfl ?_
  exact ⟨rfl, rfl⟩
theorem sm_count_4 (d : Nat) (M : am_M) (hf : wf (M.1 34)) : am_R (d + 3) zX11_count [.ref 33, .int (nI 4)] M (fun v M' => v = some (.int (M.1 34 258)) ∧ M' = M) := by
  refine ae_enter (z := zX11_count) (y := yX11_count) (cc := cX11_count) (mL := 2) (rt := some .int) (ci := 11) (st := false) (np := 1) (L := [some (.ref 33), some (.int (nI 4))]) rfl (by decide) (Nat.le_of_ble_eq_true rfl) rfl ?_
  refine ae_iload_n (pc := 0) dX11_count_0 rfl ?_
  refine ae_tswI (pc := 1) (off := 84) (t := 85) dX11_count_1 (by decide) (by decide) rfl (by decide) ?_
  refine ae_aload_n (pc := 85) dX11_count_85 rfl ?_
  refine ae_getR (pc := 86) (k := 33) (c := 11) (j := 0) (q := 34) dX11_count_86 rfl rfl (Nat.le_of_ble_eq_true rfl) rfl (Nat.le_of_ble_eq_true rfl) rfl ?_
  refine ae_sipush (pc := 89) (v := nI 258) dX11_count_89 (by decide) ?_
  refine ae_iaload (pc := 92) (k := 34) (N := 549) _ dX11_count_92 (Nat.le_of_ble_eq_true rfl) rfl rfl rfl (by omega) rfl ?_
  refine ae_ireturn (pc := 93) dX11_count_93 rfl ?_
  exact ⟨rfl, rfl⟩
theorem sm_count_5 (d : Nat) (M : am_M) (hf : wf (M.1 34)) : am_R (d + 3) zX11_count [.ref 33, .int (nI 5)] M (fun v M' => v = some (.int (nI (lcd (M.1 34) (fN (M.1 34))))) ∧ M' = M) := by
  refine ae_enter (z := zX11_count) (y := yX11_count) (cc := cX11_count) (mL := 2) (rt := some .int) (ci := 11) (st := false) (np := 1) (L := [some (.ref 33), some (.int (nI 5))]) rfl (by decide) (Nat.le_of_ble_eq_true rfl) rfl ?_
  refine ae_iload_n (pc := 0) dX11_count_0 rfl ?_
  refine ae_tswI (pc := 1) (off := 93) (t := 94) dX11_count_1 (by decide) (by decide) rfl (by decide) ?_
  refine ae_aload_n (pc := 94) dX11_count_94 rfl ?_
  refine ae_pcallV (pc := 95) (z := zX11_locked) (k := 33) (As := []) dX11_count_95 rfl rfl rfl rfl (Nat.le_of_ble_eq_true rfl) rfl (Nat.le_of_ble_eq_true rfl) (Nat.le_of_ble_eq_true rfl) (sm_locked (d + 1) M hf) ?_
  refine ae_ireturn (pc := 98) dX11_count_98 rfl ?_
  exact ⟨rfl, rfl⟩
theorem sm_count_6 (d : Nat) (M : am_M) (hf : wf (M.1 34)) : am_R (d + 3) zX11_count [.ref 33, .int (nI 6)] M (fun v M' => v = some (.int (M.1 34 291)) ∧ M' = M) := by
  refine ae_enter (z := zX11_count) (y := yX11_count) (cc := cX11_count) (mL := 2) (rt := some .int) (ci := 11) (st := false) (np := 1) (L := [some (.ref 33), some (.int (nI 6))]) rfl (by decide) (Nat.le_of_ble_eq_true rfl) rfl ?_
  refine ae_iload_n (pc := 0) dX11_count_0 rfl ?_
  refine ae_tswI (pc := 1) (off := 98) (t := 99) dX11_count_1 (by decide) (by decide) rfl (by decide) ?_
  refine ae_aload_n (pc := 99) dX11_count_99 rfl ?_
  refine ae_getR (pc := 100) (k := 33) (c := 11) (j := 0) (q := 34) dX11_count_100 rfl rfl (Nat.le_of_ble_eq_true rfl) rfl (Nat.le_of_ble_eq_true rfl) rfl ?_
  refine ae_sipush (pc := 103) (v := nI 291) dX11_count_103 (by decide) ?_
  refine ae_iaload (pc := 106) (k := 34) (N := 549) _ dX11_count_106 (Nat.le_of_ble_eq_true rfl) rfl rfl rfl (by omega) rfl ?_
  refine ae_ireturn (pc := 107) dX11_count_107 rfl ?_
  exact ⟨rfl, rfl⟩
theorem sm_count_7 (d : Nat) (M : am_M) (hf : wf (M.1 34)) : am_R (d + 3) zX11_count [.ref 33, .int (nI 7)] M (fun v M' => v = some (.int (M.1 34 292)) ∧ M' = M) := by
  refine ae_enter (z := zX11_count) (y := yX11_count) (cc := cX11_count) (mL := 2) (rt := some .int) (ci := 11) (st := false) (np := 1) (L := [some (.ref 33), some (.int (nI 7))]) rfl (by decide) (Nat.le_of_ble_eq_true rfl) rfl ?_
  refine ae_iload_n (pc := 0) dX11_count_0 rfl ?_
  refine ae_tswI (pc := 1) (off := 107) (t := 108) dX11_count_1 (by decide) (by decide) rfl (by decide) ?_
  refine ae_aload_n (pc := 108) dX11_count_108 rfl ?_
  refine ae_getR (pc := 109) (k := 33) (c := 11) (j := 0) (q := 34) dX11_count_109 rfl rfl (Nat.le_of_ble_eq_true rfl) rfl (Nat.le_of_ble_eq_true rfl) rfl ?_
  refine ae_sipush (pc := 112) (v := nI 292) dX11_count_112 (by decide) ?_
  refine ae_iaload (pc := 115) (k := 34) (N := 549) _ dX11_count_115 (Nat.le_of_ble_eq_true rfl) rfl rfl rfl (by omega) rfl ?_
  refine ae_ireturn (pc := 116) dX11_count_116 rfl ?_
  exact ⟨rfl, rfl⟩
theorem sm_count_8 (d : Nat) (M : am_M) (hf : wf (M.1 34)) : am_R (d + 3) zX11_count [.ref 33, .int (nI 8)] M (fun v M' => v = some (.int (M.1 33 2)) ∧ M' = M) := by
  refine ae_enter (z := zX11_count) (y := yX11_count) (cc := cX11_count) (mL := 2) (rt := some .int) (ci := 11) (st := false) (np := 1) (L := [some (.ref 33), some (.int (nI 8))]) rfl (by decide) (Nat.le_of_ble_eq_true rfl) rfl ?_
  refine ae_iload_n (pc := 0) dX11_count_0 rfl ?_
  refine ae_tswI (pc := 1) (off := 116) (t := 117) dX11_count_1 (by decide) (by decide) rfl (by decide) ?_
  refine ae_aload_n (pc := 117) dX11_count_117 rfl ?_
  refine ae_getI (pc := 118) (k := 33) (c := 11) (j := 2) dX11_count_118 rfl rfl (Or.inl rfl) (Nat.le_of_ble_eq_true rfl) rfl (Nat.le_of_ble_eq_true rfl) rfl ?_
  refine ae_ireturn (pc := 121) dX11_count_121 rfl ?_
  exact ⟨rfl, rfl⟩
theorem sm_count_9 (d : Nat) (M : am_M) (hf : wf (M.1 34)) : am_R (d + 3) zX11_count [.ref 33, .int (nI 9)] M (fun v M' => v = some (.int (M.1 33 4)) ∧ M' = M) := by
  refine ae_enter (z := zX11_count) (y := yX11_count) (cc := cX11_count) (mL := 2) (rt := some .int) (ci := 11) (st := false) (np := 1) (L := [some (.ref 33), some (.int (nI 9))]) rfl (by decide) (Nat.le_of_ble_eq_true rfl) rfl ?_
  refine ae_iload_n (pc := 0) dX11_count_0 rfl ?_
  refine ae_tswI (pc := 1) (off := 121) (t := 122) dX11_count_1 (by decide) (by decide) rfl (by decide) ?_
  refine ae_aload_n (pc := 122) dX11_count_122 rfl ?_
  refine ae_getI (pc := 123) (k := 33) (c := 11) (j := 4) dX11_count_123 rfl rfl (Or.inl rfl) (Nat.le_of_ble_eq_true rfl) rfl (Nat.le_of_ble_eq_true rfl) rfl ?_
  refine ae_ireturn (pc := 126) dX11_count_126 rfl ?_
  exact ⟨rfl, rfl⟩
theorem sm_count0 (d : Nat) (M : am_M) (x : Int32) (hx : x.toInt < 0 ∨ 9 < x.toInt) : am_R (d + 1) zX11_count [.ref 33, .int x] M (fun v M' => v = some (.int (-2)) ∧ M' = M) := by
  refine ae_enter (z := zX11_count) (y := yX11_count) (cc := cX11_count) (mL := 2) (rt := some .int) (ci := 11) (st := false) (np := 1) (L := [some (.ref 33), some (.int x)]) rfl (by decide) (Nat.le_of_ble_eq_true rfl) rfl ?_
  refine ae_iload_n (pc := 0) dX11_count_0 rfl ?_
  refine ae_tswO (pc := 1) (t := 127) dX11_count_1 hx (by decide) ?_
  refine ae_bipush (pc := 127) (v := (-2)) dX11_count_127 (by decide) ?_
  refine ae_ireturn (pc := 129) dX11_count_129 rfl ?_
  exact ⟨rfl, rfl⟩

