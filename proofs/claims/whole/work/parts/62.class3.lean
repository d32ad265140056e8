theorem sc_copyTo (d : Nat) (M : am_M) (h7 : M.1 1 7 = 0 ∨ M.1 1 7 = 1) (j : Nat) (hj : j < 10) : am_R (d + 1) zX7_copyFrom [.ref (hnd j), .ref 1] M (fun v M' => v = none ∧ cpQ M M' (hnd j) 1) := by
  match j, hj with
  | 0, _ => exact sc_copy_49_1 d M h7
  | 1, _ => exact sc_copy_54_1 d M h7
  | 2, _ => exact sc_copy_59_1 d M h7
  | 3, _ => exact sc_copy_64_1 d M h7
  | 4, _ => exact sc_copy_69_1 d M h7
  | 5, _ => exact sc_copy_74_1 d M h7
  | 6, _ => exact sc_copy_79_1 d M h7
  | 7, _ => exact sc_copy_84_1 d M h7
  | 8, _ => exact sc_copy_89_1 d M h7
  | 9, _ => exact sc_copy_94_1 d M h7
theorem sc_copyOf (d : Nat) (M : am_M) (j : Nat) (hj : j < 10) (h7 : M.1 (hnd j) 7 = 0 ∨ M.1 (hnd j) 7 = 1) : am_R (d + 1) zX7_copyFrom [.ref 1, .ref (hnd j)] M (fun v M' => v = none ∧ cpQ M M' 1 (hnd j)) := by
  match j, hj, h7 with
  | 0, _, h7 => exact sc_copy_1_49 d M h7
  | 1, _, h7 => exact sc_copy_1_54 d M h7
  | 2, _, h7 => exact sc_copy_1_59 d M h7
  | 3, _, h7 => exact sc_copy_1_64 d M h7
  | 4, _, h7 => exact sc_copy_1_69 d M h7
  | 5, _, h7 => exact sc_copy_1_74 d M h7
  | 6, _, h7 => exact sc_copy_1_79 d M h7
  | 7, _, h7 => exact sc_copy_1_84 d M h7
  | 8, _, h7 => exact sc_copy_1_89 d M h7
  | 9, _, h7 => exact sc_copy_1_94 d M h7
theorem am_r7 (j : Nat) (hj : j < 10) : am_r 7 j = hnd j := by
  match j, hj with
  | 0, _ => rfl
  | 1, _ => rfl
  | 2, _ => rfl
  | 3, _ => rfl
  | 4, _ => rfl
  | 5, _ => rfl
  | 6, _ => rfl
  | 7, _ => rfl
  | 8, _ => rfl
  | 9, _ => rfl
theorem hnd_k (j : Nat) (hj : j < 10) : am_k (hnd j) = 7 ∧ hnd j < 99 := by
  match j, hj with
  | 0, _ => exact ⟨rfl, by decide⟩
  | 1, _ => exact ⟨rfl, by decide⟩
  | 2, _ => exact ⟨rfl, by decide⟩
  | 3, _ => exact ⟨rfl, by decide⟩
  | 4, _ => exact ⟨rfl, by decide⟩
  | 5, _ => exact ⟨rfl, by decide⟩
  | 6, _ => exact ⟨rfl, by decide⟩
  | 7, _ => exact ⟨rfl, by decide⟩
  | 8, _ => exact ⟨rfl, by decide⟩
  | 9, _ => exact ⟨rfl, by decide⟩
theorem sc_record (d : Nat) (M : am_M) (f : fT) (hg : AG M f) (hf : wf f) (u : Nat) (past : fT) (hh : HI M u past) : am_R (d + 2) zX2_record [.ref 6, .ref 1] M (fun v M' => v = none ∧ HI M' (kpN u) (kpP past f u) ∧ HF M M') := by
  refine ae_enter (z := zX2_record) (y := yX2_record) (cc := cX2_record) (mL := 2) (rt := none) (ci := 2) (st := false) (np := 1) (L := [some (.ref 6), some (.ref 1)]) rfl (by decide) (Nat.le_of_ble_eq_true rfl) rfl ?_
  obtain ⟨hu, h2, o, ho, h1, hall⟩ := hh
  have h7 : M.1 1 7 = 0 ∨ M.1 1 7 = 1 := by rw [hg.1.2.2.2.2]; exact hf.2.2.2.2.1
  refine ae_aload_n (pc := 0) dX2_record_0 rfl ?_
  refine ae_getR (pc := 1) (k := 6) (c := 2) (j := 0) (q := 7) dX2_record_1 rfl rfl (Nat.le_of_ble_eq_true rfl) rfl (Nat.le_of_ble_eq_true rfl) rfl ?_
  refine ae_aload_n (pc := 4) dX2_record_4 rfl ?_
  refine ae_getI (pc := 5) (k := 6) (c := 2) (j := 1) (v := nI o) dX2_record_5 rfl rfl (Or.inl rfl) (Nat.le_of_ble_eq_true rfl) rfl (Nat.le_of_ble_eq_true rfl) h1 ?_
  refine ae_aload_n (pc := 8) dX2_record_8 rfl ?_
  refine ae_getI (pc := 9) (k := 6) (c := 2) (j := 2) (v := nI u) dX2_record_9 rfl rfl (Or.inl rfl) (Nat.le_of_ble_eq_true rfl) rfl (Nat.le_of_ble_eq_true rfl) h2 ?_
  refine ae_iadd (pc := 12) (v := nI (o + u)) dX2_record_12 (nI_add _ _) ?_
  refine ae_bipush (pc := 13) (v := nI 10) dX2_record_13 (by decide) ?_
  refine ae_irem (pc := 15) (v := nI ((o + u) % 10)) dX2_record_15 (by decide) (nI_mod (by omega) (by decide)) ?_
  generalize hj : (o + u) % 10 = j
  have hj10 : j < 10 := by omega
  refine ae_aaload (pc := 16) (k := 7) (N := 10) j dX2_record_16 (Nat.le_of_ble_eq_true rfl) rfl rfl rfl hj10 (am_r7 j hj10) ?_
  refine ae_aload_n (pc := 17) dX2_record_17 rfl ?_
  obtain ⟨hk1, hk2⟩ := hnd_k j hj10
  refine ae_callV (pc := 18) (z := zX7_copyFrom) (k := hnd j) (As := [_]) dX2_record_18 rfl rfl rfl rfl hk2 hk1 (Nat.le_of_ble_eq_true rfl) (Nat.le_of_ble_eq_true rfl) (sc_copyTo d M h7 j hj10) (fun v M' hq => ?_)
  obtain ⟨rfl, hc⟩ := hq
  have e6 : M'.1 6 = M.1 6 := hc.2.1 6 (Or.inl (by unfold hnd; omega))
  have low : ∀ k, (k < 49 ∨ 98 < k) → M'.1 k = M.1 k := fun k hk => hc.2.1 k (by unfold hnd; omega)
  by_cases h10 : u = 10
  · refine ae_aload_n (pc := 21) dX2_record_21 rfl ?_
    refine ae_getI (pc := 22) (k := 6) (c := 2) (j := 2) (v := nI u) dX2_record_22 rfl rfl (Or.inl rfl) (Nat.le_of_ble_eq_true rfl) rfl (Nat.le_of_ble_eq_true rfl) (by rw [e6]; exact h2) ?_
    refine ae_bipush (pc := 25) (v := nI 10) dX2_record_25 (by decide) ?_
    refine ae_icmp_ge (pc := 27) (t := 43) dX2_record_27 (by decide) (fun c27 => ?_) (fun c27 => ?_)
    · refine ae_aload_n (pc := 43) dX2_record_43 rfl ?_
      refine ae_aload_n (pc := 44) dX2_record_44 rfl ?_
      refine ae_getI (pc := 45) (k := 6) (c := 2) (j := 1) (v := nI o) dX2_record_45 rfl rfl (Or.inl rfl) (Nat.le_of_ble_eq_true rfl) rfl (Nat.le_of_ble_eq_true rfl) (by rw [e6]; exact h1) ?_
      refine ae_iconst (pc := 48) (v := nI 1) dX2_record_48 (by decide) ?_
      refine ae_iadd (pc := 49) (v := nI (o + 1)) dX2_record_49 (nI_add _ _) ?_
      refine ae_bipush (pc := 50) (v := nI 10) dX2_record_50 (by decide) ?_
      refine ae_irem (pc := 52) (v := nI ((o + 1) % 10)) dX2_record_52 (by decide) (nI_mod (by omega) (by decide)) ?_
      refine ae_putfield (pc := 53) (k := 6) (c := 2) (j := 1) dX2_record_53 rfl rfl (Nat.le_of_ble_eq_true rfl) rfl (Nat.le_of_ble_eq_true rfl) rfl rfl ?_
      refine ae_return (pc := 56) dX2_record_56 rfl ?_
      refine ⟨rfl, ?_, hc.1, fun k k1 k2 => (am_u_ne M'.1 _ k1).trans (low k k2)⟩
      refine HI_rec hf hg hu ho hj.symm hall hc ((o + 1) % 10) (by rw [if_pos h10]) _ (fun k hk => am_u_ne M'.1 _ (by omega)) ?_ ?_
      · rw [au1, upd_ne _ _ (by decide), e6, h2, h10]; rfl
      · rw [au1, upd_self]
    · exact absurd ((nI_leI (by omega) (by omega)).mpr (by omega)) c27
  · refine ae_aload_n (pc := 21) dX2_record_21 rfl ?_
    refine ae_getI (pc := 22) (k := 6) (c := 2) (j := 2) (v := nI u) dX2_record_22 rfl rfl (Or.inl rfl) (Nat.le_of_ble_eq_true rfl) rfl (Nat.le_of_ble_eq_true rfl) (by rw [e6]; exact h2) ?_
    refine ae_bipush (pc := 25) (v := nI 10) dX2_record_25 (by decide) ?_
    refine ae_icmp_ge (pc := 27) (t := 43) dX2_record_27 (by decide) (fun c27 => ?_) (fun c27 => ?_)
    · exact absurd ((nI_leI (by omega) (by omega)).mp c27) (by omega)
    · refine ae_aload_n (pc := 30) dX2_record_30 rfl ?_
      refine ae_dup (pc := 31) dX2_record_31 rfl ?_
      refine ae_getI (pc := 32) (k := 6) (c := 2) (j := 2) (v := nI u) dX2_record_32 rfl rfl (Or.inl rfl) (Nat.le_of_ble_eq_true rfl) rfl (Nat.le_of_ble_eq_true rfl) (by rw [e6]; exact h2) ?_
      refine ae_iconst (pc := 35) (v := nI 1) dX2_record_35 (by decide) ?_
      refine ae_iadd (pc := 36) (v := nI (u + 1)) dX2_record_36 (nI_add _ _) ?_
      refine ae_putfield (pc := 37) (k := 6) (c := 2) (j := 2) dX2_record_37 rfl rfl (Nat.le_of_ble_eq_true rfl) rfl (Nat.le_of_ble_eq_true rfl) rfl rfl ?_
      refine ae_goto (pc := 40) (t := 56) dX2_record_40 (by decide) ?_
      refine ae_return (pc := 56) dX2_record_56 rfl ?_
      refine ⟨rfl, ?_, hc.1, fun k k1 k2 => (am_u_ne M'.1 _ k1).trans (low k k2)⟩
      refine HI_rec hf hg hu ho hj.symm hall hc o (by rw [if_neg h10]) _ (fun k hk => am_u_ne M'.1 _ (by omega)) ?_ ?_
      · rw [au1, upd_self]; unfold kpN; rw [if_neg h10]
      · rw [au1, upd_ne _ _ (by decide), e6, h1]
theorem sc_restore0 (d : Nat) (M : am_M) (past : fT) (hh : HI M 0 past) : am_R (d + 2) zX2_restore [.ref 6, .ref 1] M (fun v M' => v = some (.int (nI 0)) ∧ M' = M) := by
  refine ae_enter (z := zX2_restore) (y := yX2_restore) (cc := cX2_restore) (mL := 2) (rt := some .boolean) (ci := 2) (st := false) (np := 1) (L := [some (.ref 6), some (.ref 1)]) rfl (by decide) (Nat.le_of_ble_eq_true rfl) rfl ?_
  have h2 : M.1 6 2 = nI 0 := hh.2.1
  refine ae_aload_n (pc := 0) dX2_restore_0 rfl ?_
  refine ae_getI (pc := 1) (k := 6) (c := 2) (j := 2) (v := nI 0) dX2_restore_1 rfl rfl (Or.inl rfl) (Nat.le_of_ble_eq_true rfl) rfl (Nat.le_of_ble_eq_true rfl) h2 ?_
  refine ae_if_ne (pc := 4) (t := 9) dX2_restore_4 (by decide) (fun c4 => ?_) (fun c4 => ?_)
  · exact absurd rfl c4
  · refine ae_iconst (pc := 7) (v := nI 0) dX2_restore_7 (by decide) ?_
    refine ae_zreturn (pc := 8) dX2_restore_8 rfl (by decide) ?_
    exact ⟨rfl, rfl⟩
theorem sc_restore (d : Nat) (M : am_M) (w : Nat) (past f : fT) (hh : HI M (w + 1) past) : am_R (d + 2) zX2_restore [.ref 6, .ref 1] M (fun v M' => v = some (.int (nI 1)) ∧ HI M' w past ∧ AG M' (udF past f w 549) ∧ wf (udF past f w 549) ∧ M'.2 = M.2 ∧ ∀ k, (k = 0 ∨ 6 < k) → M'.1 k = M.1 k) := by
  refine ae_enter (z := zX2_restore) (y := yX2_restore) (cc := cX2_restore) (mL := 2) (rt := some .boolean) (ci := 2) (st := false) (np := 1) (L := [some (.ref 6), some (.ref 1)]) rfl (by decide) (Nat.le_of_ble_eq_true rfl) rfl ?_
  obtain ⟨hu, h2, o, ho, h1, hall⟩ := hh
  obtain ⟨w1, w2⟩ := hall w (by omega)
  have n6 : ∀ k g, k ≠ 6 → am_u M.1 6 g k = M.1 k := fun k g hk => am_u_ne _ _ hk
  refine ae_aload_n (pc := 0) dX2_restore_0 rfl ?_
  refine ae_getI (pc := 1) (k := 6) (c := 2) (j := 2) (v := nI (w + 1)) dX2_restore_1 rfl rfl (Or.inl rfl) (Nat.le_of_ble_eq_true rfl) rfl (Nat.le_of_ble_eq_true rfl) h2 ?_
  refine ae_if_ne (pc := 4) (t := 9) dX2_restore_4 (by decide) (fun c4 => ?_) (fun c4 => ?_)
  rotate_left
  · exact absurd (Classical.not_not.mp c4) (nI_ne0 (by omega) (by omega))
  refine ae_aload_n (pc := 9) dX2_restore_9 rfl ?_
  refine ae_dup (pc := 10) dX2_restore_10 rfl ?_
  refine ae_getI (pc := 11) (k := 6) (c := 2) (j := 2) (v := nI (w + 1)) dX2_restore_11 rfl rfl (Or.inl rfl) (Nat.le_of_ble_eq_true rfl) rfl (Nat.le_of_ble_eq_true rfl) h2 ?_
  refine ae_iconst (pc := 14) (v := nI 1) dX2_restore_14 (by decide) ?_
  refine ae_isub (pc := 15) (v := nI w) dX2_restore_15 (nI_sub (by omega)) ?_
  refine ae_putfield (pc := 16) (k := 6) (c := 2) (j := 2) dX2_restore_16 rfl rfl (Nat.le_of_ble_eq_true rfl) rfl (Nat.le_of_ble_eq_true rfl) rfl rfl ?_
  refine ae_aload_n (pc := 19) dX2_restore_19 rfl ?_
  skip
  generalize hN : ((am_u M.1 6 (upd (M.1 6) 2 (nI w)), M.2) : am_M) = N
  have e6 : N.1 6 = upd (M.1 6) 2 (nI w) := by rw [← hN]; exact au1 _ _ _ _
  have eN : ∀ k, k ≠ 6 → N.1 k = M.1 k := fun k hk => by rw [← hN]; exact n6 k _ hk
  refine ae_aload_n (pc := 20) dX2_restore_20 rfl ?_
  refine ae_getR (pc := 21) (k := 6) (c := 2) (j := 0) (q := 7) dX2_restore_21 rfl rfl (Nat.le_of_ble_eq_true rfl) rfl (Nat.le_of_ble_eq_true rfl) rfl ?_
  refine ae_aload_n (pc := 24) dX2_restore_24 rfl ?_
  refine ae_getI (pc := 25) (k := 6) (c := 2) (j := 1) (v := nI o) dX2_restore_25 rfl rfl (Or.inl rfl) (Nat.le_of_ble_eq_true rfl) rfl (Nat.le_of_ble_eq_true rfl) (by rw [e6, upd_ne _ _ (by decide)]; exact h1) ?_
  refine ae_aload_n (pc := 28) dX2_restore_28 rfl ?_
  refine ae_getI (pc := 29) (k := 6) (c := 2) (j := 2) (v := nI w) dX2_restore_29 rfl rfl (Or.inl rfl) (Nat.le_of_ble_eq_true rfl) rfl (Nat.le_of_ble_eq_true rfl) (by rw [e6, upd_self]) ?_
  refine ae_iadd (pc := 32) (v := nI (o + w)) dX2_restore_32 (nI_add _ _) ?_
  refine ae_bipush (pc := 33) (v := nI 10) dX2_restore_33 (by decide) ?_
  refine ae_irem (pc := 35) (v := nI ((o + w) % 10)) dX2_restore_35 (by decide) (nI_mod (by omega) (by decide)) ?_
  generalize hj : (o + w) % 10 = j
  rw [hj] at w2
  have hj10 : j < 10 := by omega
  refine ae_aaload (pc := 36) (k := 7) (N := 10) j dX2_restore_36 (Nat.le_of_ble_eq_true rfl) rfl rfl rfl hj10 (am_r7 j hj10) ?_
  have h7 : N.1 (hnd j) 7 = 0 ∨ N.1 (hnd j) 7 = 1 := by rw [eN _ (by unfold hnd; omega), w2.1.2.2.2.2]; exact w1.2.2.2.2.1
  refine ae_callV (pc := 37) (z := zX7_copyFrom) (k := 1) (As := [_]) dX2_restore_37 rfl rfl rfl rfl (Nat.le_of_ble_eq_true rfl) rfl (Nat.le_of_ble_eq_true rfl) (Nat.le_of_ble_eq_true rfl) (sc_copyOf d N j hj10 h7) (fun v M' hq => ?_)
  obtain ⟨rfl, c1, c2, c3, c4, c5, c6, c7⟩ := hq
  have eud : ∀ q, q < 549 → udF past f w 549 q = past1 past w q := fun q hq => by unfold udF past1; rw [if_pos hq]
  have w2' : agS (N.1 (hnd j)) (N.1 (hnd j + 1)) (N.1 (hnd j + 2)) (N.1 (hnd j + 3)) (N.1 (hnd j + 4)) (past1 past w) := by
    rw [eN _ (by unfold hnd; omega), eN _ (by unfold hnd; omega), eN _ (by unfold hnd; omega), eN _ (by unfold hnd; omega), eN _ (by unfold hnd; omega)]; exact w2
  have hN2 : N.2 = M.2 := by rw [← hN]
  have ag : AG M' (udF past f w 549) := agS_cg w1.1 (agS_cp w1 w2' c3 c4 c5 c6 c7) eud
  have hi : HI M' w past := by
    refine ⟨by omega, by rw [c2 6 (by omega), e6, upd_self], o, ho, by rw [c2 6 (by omega), e6, upd_ne _ _ (by decide)]; exact h1, fun i hi => ?_⟩
    obtain ⟨a1, a2⟩ := hall i (by omega)
    have e : ∀ t, M'.1 (hnd ((o + i) % 10) + t) = M.1 (hnd ((o + i) % 10) + t) := fun t => (c2 _ (by unfold hnd; omega)).trans (eN _ (by unfold hnd; omega))
    refine ⟨a1, ?_⟩
    rw [e 1, e 2, e 3, e 4, show M'.1 (hnd ((o + i) % 10)) = M.1 (hnd ((o + i) % 10)) from e 0]
    exact a2
  refine ae_iconst (pc := 40) (v := nI 1) dX2_restore_40 (by decide) ?_
  refine ae_zreturn (pc := 41) dX2_restore_41 rfl (by decide) ?_
  exact ⟨rfl, hi, ag, wf_cg w1 eud, c1.trans hN2, fun k hk => (c2 k (by omega)).trans (eN k (by omega))⟩
theorem sc_beginRemake (d : Nat) (M : am_M) (f : fT) (hg : AG M f) (hf : wf f) (u : Nat) (past : fT) (hh : HI M u past) : am_R (d + 3) zX10_beginRemake [.ref 0] M (fun v M' => v = none ∧ HI M' (kpN u) (kpP past f u) ∧ AG M' (kpF f 1) ∧ M'.2 = M.2 ∧ ∀ k, (k = 0 ∨ 6 < k) → (k < 49 ∨ 98 < k) → M'.1 k = M.1 k) := by
  refine ae_enter (z := zX10_beginRemake) (y := yX10_beginRemake) (cc := cX10_beginRemake) (mL := 1) (rt := none) (ci := 10) (st := false) (np := 0) (L := [some (.ref 0)]) rfl (by decide) (Nat.le_of_ble_eq_true rfl) rfl ?_
  refine ae_aload_n (pc := 0) dX10_beginRemake_0 rfl ?_
  refine ae_getR (pc := 1) (k := 0) (c := 10) (j := 1) (q := 6) dX10_beginRemake_1 rfl rfl (Nat.le_of_ble_eq_true rfl) rfl (Nat.le_of_ble_eq_true rfl) rfl ?_
  refine ae_aload_n (pc := 4) dX10_beginRemake_4 rfl ?_
  refine ae_getR (pc := 5) (k := 0) (c := 10) (j := 0) (q := 1) dX10_beginRemake_5 rfl rfl (Nat.le_of_ble_eq_true rfl) rfl (Nat.le_of_ble_eq_true rfl) rfl ?_
  refine ae_callV (pc := 8) (z := zX2_record) (k := 6) (As := [_]) dX10_beginRemake_8 rfl rfl rfl rfl (Nat.le_of_ble_eq_true rfl) rfl (Nat.le_of_ble_eq_true rfl) (Nat.le_of_ble_eq_true rfl) (sc_record d M f hg hf u past hh) (fun v M' hq => ?_)
  obtain ⟨rfl, q1, q2, q3⟩ := hq
  refine ae_aload_n (pc := 11) dX10_beginRemake_11 rfl ?_
  skip
  have ag : AG M' f := by
    unfold AG
    rw [q3 1 (by decide) (by decide), q3 2 (by decide) (by decide), q3 3 (by decide) (by decide), q3 4 (by decide) (by decide), q3 5 (by decide) (by decide)]
    exact hg
  have n1 : ∀ k g, k ≠ 1 → am_u M'.1 1 g k = M'.1 k := fun k g hk => am_u_ne _ _ hk
  have hi : HI (am_u M'.1 1 (upd (M'.1 1) 7 (nI 0)), M'.2) (kpN u) (kpP past f u) := by
    obtain ⟨a1, a2, o, a3, a4, a5⟩ := q1
    refine ⟨a1, ?_, o, a3, ?_, fun i hi => ?_⟩
    · rw [au0 (q := 6) _ _ _ (by decide)]; exact a2
    · rw [au0 (q := 6) _ _ _ (by decide)]; exact a4
    · obtain ⟨b1, b2⟩ := a5 i hi
      refine ⟨b1, ?_⟩
      rw [au0 (q := hnd ((o + i) % 10)) _ _ _ (by unfold hnd; omega), au0 (q := hnd ((o + i) % 10) + 1) _ _ _ (by unfold hnd; omega), au0 (q := hnd ((o + i) % 10) + 2) _ _ _ (by unfold hnd; omega), au0 (q := hnd ((o + i) % 10) + 3) _ _ _ (by unfold hnd; omega), au0 (q := hnd ((o + i) % 10) + 4) _ _ _ (by unfold hnd; omega)]
      exact b2
  refine ae_getR (pc := 12) (k := 0) (c := 10) (j := 0) (q := 1) dX10_beginRemake_12 rfl rfl (Nat.le_of_ble_eq_true rfl) rfl (Nat.le_of_ble_eq_true rfl) rfl ?_
  refine ae_iconst (pc := 15) (v := nI 0) dX10_beginRemake_15 (by decide) ?_
  refine ae_putfieldZ (pc := 16) (k := 1) (c := 7) (j := 7) dX10_beginRemake_16 rfl rfl (Nat.le_of_ble_eq_true rfl) rfl (Nat.le_of_ble_eq_true rfl) rfl (Or.inl rfl) ?_
  refine ae_return (pc := 19) dX10_beginRemake_19 rfl ?_
  refine ⟨rfl, hi, ?_, q2, fun k k1 k2 => (n1 k _ (by omega)).trans (q3 k (by omega) k2)⟩
  unfold AG
  rw [au1, au0 (q := 2) _ _ _ (by decide), au0 (q := 3) _ _ _ (by decide), au0 (q := 4) _ _ _ (by decide), au0 (q := 5) _ _ _ (by decide)]
  exact agS_kp hf.1 ag

