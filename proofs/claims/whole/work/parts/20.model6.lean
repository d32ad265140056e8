theorem sm_locked (d : Nat) (M : am_M) (hf : wf (M.1 34)) : am_R (d + 1) zX11_locked [.ref 33] M (fun v M' => v = some (.int (nI (lcd (M.1 34) (fN (M.1 34))))) ∧ M' = M) := by
  refine ae_enter (z := zX11_locked) (y := yX11_locked) (cc := cX11_locked) (mL := 3) (rt := some .int) (ci := 11) (st := false) (np := 0) (L := [some (.ref 33), none, none]) rfl (by decide) (Nat.le_of_ble_eq_true rfl) rfl ?_
  obtain ⟨-, -, hn1, hn2⟩ := id hf.1
  refine ae_iconst (pc := 0) (v := nI 0) dX11_locked_0 (by decide) ?_
  refine ae_istore_n (pc := 1) dX11_locked_1 rfl (Nat.le_of_ble_eq_true rfl) ?_
  refine ae_iconst (pc := 2) (v := nI 0) dX11_locked_2 (by decide) ?_
  refine ae_istore_n (pc := 3) dX11_locked_3 rfl (Nat.le_of_ble_eq_true rfl) ?_
  skip
  refine am_down (P := fun k => am_E none (am_R d) cX11_locked 11 (some .int) _ (4, [some (.ref 33), some (.int (nI (lcd (M.1 34) k))), some (.int (nI k))], [], M)) (fN (M.1 34)) (fun k hk ih => ?_)
  refine ae_iload_n (pc := 4) dX11_locked_4 rfl ?_
  refine ae_aload_n (pc := 5) dX11_locked_5 rfl ?_
  refine ae_getR (pc := 6) (k := 33) (c := 11) (j := 0) (q := 34) dX11_locked_6 rfl rfl (Nat.le_of_ble_eq_true rfl) rfl (Nat.le_of_ble_eq_true rfl) rfl ?_
  refine ae_sipush (pc := 9) (v := nI 258) dX11_locked_9 (by decide) ?_
  refine ae_iaload (pc := 12) (k := 34) (N := 549) (v := nI (fN (M.1 34))) _ dX11_locked_12 (Nat.le_of_ble_eq_true rfl) rfl rfl rfl (by omega) hn1 ?_
  refine ae_icmp_ge (pc := 13) (t := 35) dX11_locked_13 (by decide) (fun c13 => ?_) (fun c13 => ?_)
  · have hk2 : k = fN (M.1 34) := by rw [nI_leI (by omega) (by omega)] at c13; omega
    subst hk2
    refine ae_iload_n (pc := 35) dX11_locked_35 rfl ?_
    refine ae_ireturn (pc := 36) dX11_locked_36 rfl ?_
    exact ⟨rfl, rfl⟩
  · have hk2 : k < fN (M.1 34) := by rw [nI_leI (by omega) (by omega)] at c13; omega
    refine ae_iload_n (pc := 16) dX11_locked_16 rfl ?_
    refine ae_aload_n (pc := 17) dX11_locked_17 rfl ?_
    refine ae_getR (pc := 18) (k := 33) (c := 11) (j := 0) (q := 34) dX11_locked_18 rfl rfl (Nat.le_of_ble_eq_true rfl) rfl (Nat.le_of_ble_eq_true rfl) rfl ?_
    refine ae_sipush (pc := 21) (v := nI 275) dX11_locked_21 (by decide) ?_
    refine ae_iload_n (pc := 24) dX11_locked_24 rfl ?_
    refine ae_iadd (pc := 25) dX11_locked_25 (nI_add _ _) ?_
    refine ae_iaload (pc := 26) (k := 34) (N := 549) _ dX11_locked_26 (Nat.le_of_ble_eq_true rfl) rfl rfl rfl (by omega) rfl ?_
    refine ae_iadd (pc := 27) (v := nI (lcd (M.1 34) (k + 1))) dX11_locked_27 (by rw [lcd_s]; rcases (hf.2.2.1 k hk2).2 with q | q <;> rw [q, ← nI_add] <;> rfl) ?_
    refine ae_istore_n (pc := 28) dX11_locked_28 rfl (Nat.le_of_ble_eq_true rfl) ?_
    refine ae_iinc (pc := 29) (v := nI (k + 1)) dX11_locked_29 rfl (nI_inc k) ?_
    refine ae_goto (pc := 32) (t := 4) dX11_locked_32 (by decide) ?_
    exact ih hk2
theorem sm_indexed (d : Nat) (M : am_M) (hf : wf0 (M.1 34)) (x : Int32) : am_R (d + 2) zX11_indexed [.ref 33, .int x] M (fun v M' => v = some (.int (nI (if M.1 34 292 = 1 then ixc (M.1 34) x (fA (M.1 34)) else 0))) ∧ M' = M) := by
  refine ae_enter (z := zX11_indexed) (y := yX11_indexed) (cc := cX11_indexed) (mL := 4) (rt := some .int) (ci := 11) (st := false) (np := 1) (L := [some (.ref 33), some (.int x), none, none]) rfl (by decide) (Nat.le_of_ble_eq_true rfl) rfl ?_
  have hA := fA_le hf
  refine ae_iconst (pc := 0) (v := nI 0) dX11_indexed_0 (by decide) ?_
  refine ae_istore_n (pc := 1) (v := nI (if M.1 34 292 = 1 then ixc (M.1 34) x 0 else 0)) dX11_indexed_1 (by split <;> rfl) (Nat.le_of_ble_eq_true rfl) ?_
  refine ae_iconst (pc := 2) (v := nI 0) dX11_indexed_2 (by decide) ?_
  refine ae_istore_n (pc := 3) dX11_indexed_3 rfl (Nat.le_of_ble_eq_true rfl) ?_
  skip
  refine am_down (P := fun k => am_E none (am_R (d + 1)) cX11_indexed 11 (some .int) _ (4, [some (.ref 33), some (.int x), some (.int (nI (if M.1 34 292 = 1 then ixc (M.1 34) x k else 0))), some (.int (nI k))], [], M)) (fA (M.1 34)) (fun k hk ih => ?_)
  refine ae_iload_n (pc := 4) dX11_indexed_4 rfl ?_
  refine ae_aload_n (pc := 5) dX11_indexed_5 rfl ?_
  refine ae_pcallV (pc := 6) (z := zX11_pixels) (k := 33) (As := []) dX11_indexed_6 rfl rfl rfl rfl (Nat.le_of_ble_eq_true rfl) rfl (Nat.le_of_ble_eq_true rfl) (Nat.le_of_ble_eq_true rfl) (sm_pixels d M hf) ?_
  refine ae_icmp_ge (pc := 9) (t := 52) dX11_indexed_9 (by decide) (fun c9 => ?_) (fun c9 => ?_)
  · have hk2 : k = fA (M.1 34) := by rw [nI_leI (by omega) (by omega)] at c9; omega
    subst hk2
    refine ae_iload_n (pc := 52) dX11_indexed_52 rfl ?_
    refine ae_ireturn (pc := 53) dX11_indexed_53 rfl ?_
    exact ⟨rfl, rfl⟩
  · have hk2 : k < fA (M.1 34) := by rw [nI_leI (by omega) (by omega)] at c9; omega
    refine ae_aload_n (pc := 12) dX11_indexed_12 rfl ?_
    refine ae_getR (pc := 13) (k := 33) (c := 11) (j := 0) (q := 34) dX11_indexed_13 rfl rfl (Nat.le_of_ble_eq_true rfl) rfl (Nat.le_of_ble_eq_true rfl) rfl ?_
    refine ae_sipush (pc := 16) (v := nI 292) dX11_indexed_16 (by decide) ?_
    refine ae_iaload (pc := 19) (k := 34) (N := 549) _ dX11_indexed_19 (Nat.le_of_ble_eq_true rfl) rfl rfl rfl (by omega) rfl ?_
    refine ae_iconst (pc := 20) (v := nI 1) dX11_indexed_20 (by decide) ?_
    refine ae_icmp_ne (pc := 21) (t := 52) dX11_indexed_21 (by decide) (fun c21 => ?_) (fun c21 => ?_)
    · have c21' : ¬ M.1 34 292 = 1 := c21
      refine ae_iload_n (pc := 52) dX11_indexed_52 rfl ?_
      refine ae_ireturn (pc := 53) dX11_indexed_53 rfl ?_
      exact ⟨by rw [if_neg c21', if_neg c21'], rfl⟩
    · have c21' : M.1 34 292 = 1 := Classical.not_not.mp c21
      simp only [if_pos c21'] at ih ⊢
      refine ae_iload_n (pc := 24) dX11_indexed_24 rfl ?_
      refine ae_aload_n (pc := 25) dX11_indexed_25 rfl ?_
      refine ae_getR (pc := 26) (k := 33) (c := 11) (j := 0) (q := 34) dX11_indexed_26 rfl rfl (Nat.le_of_ble_eq_true rfl) rfl (Nat.le_of_ble_eq_true rfl) rfl ?_
      refine ae_sipush (pc := 29) (v := nI 293) dX11_indexed_29 (by decide) ?_
      refine ae_iload_n (pc := 32) dX11_indexed_32 rfl ?_
      refine ae_iadd (pc := 33) dX11_indexed_33 (nI_add _ _) ?_
      refine ae_iaload (pc := 34) (k := 34) (N := 549) _ dX11_indexed_34 (Nat.le_of_ble_eq_true rfl) rfl rfl rfl (by omega) rfl ?_
      refine ae_iload_n (pc := 35) dX11_indexed_35 rfl ?_
      refine ae_icmp_ne (pc := 36) (t := 43) dX11_indexed_36 (by decide) (fun c36 => ?_) (fun c36 => ?_)
      · refine ae_iconst (pc := 43) (v := nI 0) dX11_indexed_43 (by decide) ?_
        refine ae_iadd (pc := 44) dX11_indexed_44 (nI_add _ _) ?_
        refine ae_istore_n (pc := 45) (v := nI (ixc (M.1 34) x (k + 1))) dX11_indexed_45 (by rw [ixc_s]; first | rw [if_neg c36] | rw [if_pos (Classical.not_not.mp c36)]) (Nat.le_of_ble_eq_true rfl) ?_
        refine ae_iinc (pc := 46) (v := nI (k + 1)) dX11_indexed_46 rfl (nI_inc k) ?_
        refine ae_goto (pc := 49) (t := 4) dX11_indexed_49 (by decide) ?_
        exact ih hk2
      · refine ae_iconst (pc := 39) (v := nI 1) dX11_indexed_39 (by decide) ?_
        refine ae_goto (pc := 40) (t := 44) dX11_indexed_40 (by decide) ?_
        refine ae_iadd (pc := 44) dX11_indexed_44 (nI_add _ _) ?_
        refine ae_istore_n (pc := 45) (v := nI (ixc (M.1 34) x (k + 1))) dX11_indexed_45 (by rw [ixc_s]; first | rw [if_neg c36] | rw [if_pos (Classical.not_not.mp c36)]) (Nat.le_of_ble_eq_true rfl) ?_
        refine ae_iinc (pc := 46) (v := nI (k + 1)) dX11_indexed_46 rfl (nI_inc k) ?_
        refine ae_goto (pc := 49) (t := 4) dX11_indexed_49 (by decide) ?_
        exact ih hk2
theorem sm_counts (d : Nat) (M : am_M) (hf : wf0 (M.1 34)) : am_R (d + 5) zX11_counts [.ref 33] M (fun v M' => v = none ∧ M' = (am_u M.1 42 (svR (M.1 42) (M.1 34) (if 0 < fN (M.1 34) then fA (M.1 34) else 0)), M.2)) := by
  refine ae_enter (z := zX11_counts) (y := yX11_counts) (cc := cX11_counts) (mL := 2) (rt := none) (ci := 11) (st := false) (np := 0) (L := [some (.ref 33), none]) rfl (by decide) (Nat.le_of_ble_eq_true rfl) rfl ?_
  obtain ⟨-, -, hn1, hn2⟩ := id hf
  have hA := fA_le hf
  refine ae_iconst (pc := 0) (v := nI 0) dX11_counts_0 (by decide) ?_
  refine ae_istore_n (pc := 1) dX11_counts_1 rfl (Nat.le_of_ble_eq_true rfl) ?_
  skip
  refine ae_M (M' := (am_u M.1 42 (stF (M.1 42) 0 0 (fun _ => nI 0)), M.2)) (by rw [st_0, am_u_eta]) ?_
  refine am_down (P := fun k => am_E none (am_R (d + 4)) cX11_counts 11 none _ (2, [some (.ref 33), some (.int (nI k))], [], (am_u M.1 42 (stF (M.1 42) 0 k (fun _ => nI 0)), M.2))) 16 (fun k hk ih => ?_)
  refine ae_iload_n (pc := 2) dX11_counts_2 rfl ?_
  refine ae_bipush (pc := 3) (v := nI 16) dX11_counts_3 (by decide) ?_
  refine ae_icmp_ge (pc := 5) (t := 21) dX11_counts_5 (by decide) (fun c5 => ?_) (fun c5 => ?_)
  · have hk2 : k = 16 := by rw [nI_leI (by omega) (by omega)] at c5; omega
    subst hk2
    refine ae_iconst (pc := 21) (v := nI 0) dX11_counts_21 (by decide) ?_
    refine ae_istore_n (pc := 22) dX11_counts_22 rfl (Nat.le_of_ble_eq_true rfl) ?_
    skip
    have e34 : ∀ g : fT, ((am_u M.1 42 g, M.2) : am_M).1 34 = M.1 34 := fun g => by simp [am_u]
    refine ae_M (M' := (am_u M.1 42 (svR (M.1 42) (M.1 34) (if 0 < fN (M.1 34) then 0 else 0)), M.2)) (by split <;> rfl) ?_
    refine am_down (P := fun k => am_E none (am_R (d + 4)) cX11_counts 11 none _ (23, [some (.ref 33), some (.int (nI k))], [], (am_u M.1 42 (svR (M.1 42) (M.1 34) (if 0 < fN (M.1 34) then k else 0)), M.2))) (fA (M.1 34)) (fun k hk ih => ?_)
    have hpx := sm_pixels (d + 3) (am_u M.1 42 (svR (M.1 42) (M.1 34) (if 0 < fN (M.1 34) then k else 0)), M.2) (by rw [e34]; exact hf)
    rw [e34] at hpx
    refine ae_iload_n (pc := 23) dX11_counts_23 rfl ?_
    refine ae_aload_n (pc := 24) dX11_counts_24 rfl ?_
    refine ae_pcallV (pc := 25) (z := zX11_pixels) (k := 33) (As := []) dX11_counts_25 rfl rfl rfl rfl (Nat.le_of_ble_eq_true rfl) rfl (Nat.le_of_ble_eq_true rfl) (Nat.le_of_ble_eq_true rfl) (hpx) ?_
    refine ae_icmp_ge (pc := 28) (t := 77) dX11_counts_28 (by decide) (fun c28 => ?_) (fun c28 => ?_)
    · have hk2 : k = fA (M.1 34) := by rw [nI_leI (by omega) (by omega)] at c28; omega
      subst hk2
      refine ae_return (pc := 77) dX11_counts_77 rfl ?_
      exact ⟨rfl, rfl⟩
    · have hk2 : k < fA (M.1 34) := by rw [nI_leI (by omega) (by omega)] at c28; omega
      refine ae_aload_n (pc := 31) dX11_counts_31 rfl ?_
      refine ae_getR (pc := 32) (k := 33) (c := 11) (j := 0) (q := 34) dX11_counts_32 rfl rfl (Nat.le_of_ble_eq_true rfl) rfl (Nat.le_of_ble_eq_true rfl) rfl ?_
      refine ae_sipush (pc := 35) (v := nI 258) dX11_counts_35 (by decide) ?_
      refine ae_iaload (pc := 38) (k := 34) (N := 549) (v := nI (fN (M.1 34))) _ dX11_counts_38 (Nat.le_of_ble_eq_true rfl) rfl rfl rfl (by omega) (by rw [e34]; exact hn1) ?_
      refine ae_if_le (pc := 39) (t := 77) dX11_counts_39 (by decide) (fun c39 => ?_) (fun c39 => ?_)
      · have hz : ¬ 0 < fN (M.1 34) := fun q => nI_nle q (by omega) c39
        simp only [if_neg hz]
        refine ae_return (pc := 77) dX11_counts_77 rfl ?_
        exact ⟨rfl, rfl⟩
      · have hz : 0 < fN (M.1 34) := by
          rcases Nat.eq_zero_or_pos (fN (M.1 34)) with q | q
          · rw [q] at c39; exact absurd (by decide) c39
          · exact q
        simp only [if_pos hz] at hpx ih ⊢
        have hio := sm_isOpaque (d + 3) (am_u M.1 42 (svR (M.1 42) (M.1 34) k), M.2) k (by omega)
        have hnr := sm_near d (am_u M.1 42 (svR (M.1 42) (M.1 34) k), M.2) (by rw [e34]; exact hf) (M.1 34 (2 + k))
        obtain ⟨b, hb, hb2⟩ := ner_some (f := M.1 34) (M.1 34 (2 + k)) hz hn2
        rw [e34] at hio hnr
        rw [hb] at hnr
        refine ae_aload_n (pc := 42) dX11_counts_42 rfl ?_
        refine ae_iload_n (pc := 43) dX11_counts_43 rfl ?_
        refine ae_pcallV (pc := 44) (z := zX11_isOpaque) (k := 33) (As := [_]) dX11_counts_44 rfl rfl rfl rfl (Nat.le_of_ble_eq_true rfl) rfl (Nat.le_of_ble_eq_true rfl) (Nat.le_of_ble_eq_true rfl) (hio) ?_
        refine ae_if_eq (pc := 47) (t := 71) dX11_counts_47 (by decide) (fun c47 => ?_) (fun c47 => ?_)
        · refine ae_iinc (pc := 71) (v := nI (k + 1)) dX11_counts_71 rfl (nI_inc k) ?_
          refine ae_goto (pc := 74) (t := 23) dX11_counts_74 (by decide) ?_
          refine ae_M ?_ (ih hk2)
          first | (rw [svR_s0 _ (by simpa using bI_eq0.mp c47)]; done) | (rw [svR_s1 _ (bI_ne0.mp c47) hb (by omega)]; simp only [am_u_u, am_u_self]; done)
        · refine ae_aload_n (pc := 50) dX11_counts_50 rfl ?_
          refine ae_getR (pc := 51) (k := 33) (c := 11) (j := 11) (q := 42) dX11_counts_51 rfl rfl (Nat.le_of_ble_eq_true rfl) rfl (Nat.le_of_ble_eq_true rfl) rfl ?_
          refine ae_aload_n (pc := 54) dX11_counts_54 rfl ?_
          refine ae_aload_n (pc := 55) dX11_counts_55 rfl ?_
          refine ae_getR (pc := 56) (k := 33) (c := 11) (j := 0) (q := 34) dX11_counts_56 rfl rfl (Nat.le_of_ble_eq_true rfl) rfl (Nat.le_of_ble_eq_true rfl) rfl ?_
          refine ae_iconst (pc := 59) (v := nI 2) dX11_counts_59 (by decide) ?_
          refine ae_iload_n (pc := 60) dX11_counts_60 rfl ?_
          refine ae_iadd (pc := 61) dX11_counts_61 (nI_add _ _) ?_
          refine ae_iaload (pc := 62) (k := 34) (N := 549) (v := M.1 34 (2 + k)) _ dX11_counts_62 (Nat.le_of_ble_eq_true rfl) rfl rfl rfl (by omega) (by rw [e34]) ?_
          refine ae_pcallV (pc := 63) (z := zX11_near) (k := 33) (As := [_]) dX11_counts_63 rfl rfl rfl rfl (Nat.le_of_ble_eq_true rfl) rfl (Nat.le_of_ble_eq_true rfl) (Nat.le_of_ble_eq_true rfl) (hnr) ?_
          refine ae_dup2 (pc := 66) dX11_counts_66 rfl rfl ?_
          refine ae_iaload (pc := 67) (k := 42) (N := 16) (v := nI (svc (M.1 34) b k)) (b) dX11_counts_67 (Nat.le_of_ble_eq_true rfl) rfl rfl rfl (by omega) (by simp only [am_u_self]; unfold svR stF; rw [if_pos (by omega)]; rfl) ?_
          refine ae_iconst (pc := 68) (v := nI 1) dX11_counts_68 (by decide) ?_
          refine ae_iadd (pc := 69) (v := nI (svc (M.1 34) b k + 1)) dX11_counts_69 (nI_add _ 1) ?_
          refine ae_iastore (pc := 70) (k := 42) (N := 16) (b) dX11_counts_70 (Nat.le_of_ble_eq_true rfl) rfl rfl rfl (by omega) rfl ?_
          refine ae_iinc (pc := 71) (v := nI (k + 1)) dX11_counts_71 rfl (nI_inc k) ?_
          refine ae_goto (pc := 74) (t := 23) dX11_counts_74 (by decide) ?_
          refine ae_M ?_ (ih hk2)
          first | (rw [svR_s0 _ (by simpa using bI_eq0.mp c47)]; done) | (rw [svR_s1 _ (bI_ne0.mp c47) hb (by omega)]; simp only [am_u_u, am_u_self]; done)
  · have hk2 : k < 16 := by rw [nI_leI (by omega) (by omega)] at c5; omega
    refine ae_aload_n (pc := 8) dX11_counts_8 rfl ?_
    refine ae_getR (pc := 9) (k := 33) (c := 11) (j := 11) (q := 42) dX11_counts_9 rfl rfl (Nat.le_of_ble_eq_true rfl) rfl (Nat.le_of_ble_eq_true rfl) rfl ?_
    refine ae_iload_n (pc := 12) dX11_counts_12 rfl ?_
    refine ae_iconst (pc := 13) (v := nI 0) dX11_counts_13 (by decide) ?_
    refine ae_iastore (pc := 14) (k := 42) (N := 16) _ dX11_counts_14 (Nat.le_of_ble_eq_true rfl) rfl rfl rfl (by omega) rfl ?_
    refine ae_iinc (pc := 15) (v := nI (k + 1)) dX11_counts_15 rfl (nI_inc k) ?_
    refine ae_goto (pc := 18) (t := 2) dX11_counts_18 (by decide) ?_
    refine ae_M ?_ (ih hk2)
    rw [← st_s]
    simp only [am_u_u, am_u_self, Nat.zero_add]
theorem sm_nearest (d : Nat) (M : am_M) (hf : wf0 (M.1 34)) (c : Int32) : am_R (d + 5) zX11_nearest [.ref 33, .int c] M (fun v M' => v = some (.int (if 0 ≤ c ∧ c ≤ 16777215 then oI (ner (M.1 34) c) else -2)) ∧ M' = M) := by
  refine ae_enter (z := zX11_nearest) (y := yX11_nearest) (cc := cX11_nearest) (mL := 2) (rt := some .int) (ci := 11) (st := false) (np := 1) (L := [some (.ref 33), some (.int c)]) rfl (by decide) (Nat.le_of_ble_eq_true rfl) rfl ?_
  refine ae_iload_n (pc := 0) dX11_nearest_0 rfl ?_
  refine ae_pcallS (pc := 1) (z := zX11_isColor) (As := [_]) dX11_nearest_1 rfl rfl rfl rfl (Nat.le_of_ble_eq_true rfl) (sm_isColor (d + 2) _ _) ?_
  refine ae_if_eq (pc := 4) (t := 15) dX11_nearest_4 (by decide) (fun c4 => ?_) (fun c4 => ?_)
  · refine ae_bipush (pc := 15) (v := (-2)) dX11_nearest_15 (by decide) ?_
    refine ae_ireturn (pc := 17) dX11_nearest_17 rfl ?_
    first | exact ⟨by rw [if_neg (bI_eq0.mp c4)], rfl⟩ | exact ⟨by rw [if_pos (bI_ne0.mp c4)], rfl⟩
  · refine ae_aload_n (pc := 7) dX11_nearest_7 rfl ?_
    refine ae_iload_n (pc := 8) dX11_nearest_8 rfl ?_
    refine ae_pcallV (pc := 9) (z := zX11_near) (k := 33) (As := [_]) dX11_nearest_9 rfl rfl rfl rfl (Nat.le_of_ble_eq_true rfl) rfl (Nat.le_of_ble_eq_true rfl) (Nat.le_of_ble_eq_true rfl) (sm_near d M hf _) ?_
    refine ae_goto (pc := 12) (t := 17) dX11_nearest_12 (by decide) ?_
    refine ae_ireturn (pc := 17) dX11_nearest_17 rfl ?_
    first | exact ⟨by rw [if_neg (bI_eq0.mp c4)], rfl⟩ | exact ⟨by rw [if_pos (bI_ne0.mp c4)], rfl⟩
theorem sm_type0 (d : Nat) (M : am_M) (x : Int32) (hn : ¬ (nI 0 ≤ x ∧ x ≤ nI 127)) : am_R (d + 2) zX11_type [.ref 33, .int x] M (fun v M' => v = some (.int (-2)) ∧ M' = M) := by
  refine ae_enter (z := zX11_type) (y := yX11_type) (cc := cX11_type) (mL := 2) (rt := some .int) (ci := 11) (st := false) (np := 1) (L := [some (.ref 33), some (.int x)]) rfl (by decide) (Nat.le_of_ble_eq_true rfl) rfl ?_
  refine ae_iload_n (pc := 0) dX11_type_0 rfl ?_
  refine ae_iconst (pc := 1) (v := nI 0) dX11_type_1 (by decide) ?_
  refine ae_bipush (pc := 2) (v := nI 127) dX11_type_2 (by decide) ?_
  refine ae_pcallS (pc := 4) (z := zX11_in) (As := [_, _, _]) dX11_type_4 rfl rfl rfl rfl (Nat.le_of_ble_eq_true rfl) (sm_in d _ _ _ _) ?_
  refine ae_if_ne (pc := 7) (t := 13) dX11_type_7 (by decide) (fun c7 => ?_) (fun c7 => ?_)
  · exact (hn (bI_ne0.mp c7)).elim
  · refine ae_bipush (pc := 10) (v := (-2)) dX11_type_10 (by decide) ?_
    refine ae_ireturn (pc := 12) dX11_type_12 rfl ?_
    exact ⟨rfl, rfl⟩
theorem sm_typeF (d : Nat) (M : am_M) (x : Int32) (hx : nI 0 ≤ x ∧ x ≤ nI 127) (hl : M.1 33 4 = nI 140) : am_R (d + 2) zX11_type [.ref 33, .int x] M (fun v M' => v = some (.int (-4)) ∧ M' = M) := by
  refine ae_enter (z := zX11_type) (y := yX11_type) (cc := cX11_type) (mL := 2) (rt := some .int) (ci := 11) (st := false) (np := 1) (L := [some (.ref 33), some (.int x)]) rfl (by decide) (Nat.le_of_ble_eq_true rfl) rfl ?_
  refine ae_iload_n (pc := 0) dX11_type_0 rfl ?_
  refine ae_iconst (pc := 1) (v := nI 0) dX11_type_1 (by decide) ?_
  refine ae_bipush (pc := 2) (v := nI 127) dX11_type_2 (by decide) ?_
  refine ae_pcallS (pc := 4) (z := zX11_in) (As := [_, _, _]) dX11_type_4 rfl rfl rfl rfl (Nat.le_of_ble_eq_true rfl) (sm_in d _ _ _ _) ?_
  refine ae_if_ne (pc := 7) (t := 13) dX11_type_7 (by decide) (fun c7 => ?_) (fun c7 => ?_)
  rotate_left
  · exact absurd hx (bI_eq0.mp (Classical.not_not.mp c7))
  refine ae_aload_n (pc := 13) dX11_type_13 rfl ?_
  refine ae_getI (pc := 14) (k := 33) (c := 11) (j := 4) dX11_type_14 rfl rfl (Or.inl rfl) (Nat.le_of_ble_eq_true rfl) rfl (Nat.le_of_ble_eq_true rfl) rfl ?_
  refine ae_sipush (pc := 17) (v := nI 140) dX11_type_17 (by decide) ?_
  refine ae_icmp_ne (pc := 20) (t := 26) dX11_type_20 (by decide) (fun c20 => ?_) (fun c20 => ?_)
  · exact absurd hl c20
  refine ae_bipush (pc := 23) (v := (-4)) dX11_type_23 (by decide) ?_
  refine ae_ireturn (pc := 25) dX11_type_25 rfl ?_
  exact ⟨rfl, rfl⟩
theorem sm_type (d : Nat) (M : am_M) (x : Int32) (hx : nI 0 ≤ x ∧ x ≤ nI 127) (n : Nat) (hn : n < 140) (hl : M.1 33 4 = nI n) : am_R (d + 2) zX11_type [.ref 33, .int x] M (fun v M' => v = some (.int (nI (n + 1))) ∧ M' = (am_u (am_u M.1 36 (upd (M.1 36) n x)) 33 (upd (M.1 33) 4 (nI (n + 1))), M.2)) := by
  refine ae_enter (z := zX11_type) (y := yX11_type) (cc := cX11_type) (mL := 2) (rt := some .int) (ci := 11) (st := false) (np := 1) (L := [some (.ref 33), some (.int x)]) rfl (by decide) (Nat.le_of_ble_eq_true rfl) rfl ?_
  refine ae_iload_n (pc := 0) dX11_type_0 rfl ?_
  refine ae_iconst (pc := 1) (v := nI 0) dX11_type_1 (by decide) ?_
  refine ae_bipush (pc := 2) (v := nI 127) dX11_type_2 (by decide) ?_
  refine ae_pcallS (pc := 4) (z := zX11_in) (As := [_, _, _]) dX11_type_4 rfl rfl rfl rfl (Nat.le_of_ble_eq_true rfl) (sm_in d _ _ _ _) ?_
  refine ae_if_ne (pc := 7) (t := 13) dX11_type_7 (by decide) (fun c7 => ?_) (fun c7 => ?_)
  rotate_left
  · exact absurd hx (bI_eq0.mp (Classical.not_not.mp c7))
  refine ae_aload_n (pc := 13) dX11_type_13 rfl ?_
  refine ae_getI (pc := 14) (k := 33) (c := 11) (j := 4) (v := nI n) dX11_type_14 rfl rfl (Or.inl rfl) (Nat.le_of_ble_eq_true rfl) rfl (Nat.le_of_ble_eq_true rfl) hl ?_
  refine ae_sipush (pc := 17) (v := nI 140) dX11_type_17 (by decide) ?_
  refine ae_icmp_ne (pc := 20) (t := 26) dX11_type_20 (by decide) (fun c20 => ?_) (fun c20 => ?_)
  rotate_left
  · exact absurd (Classical.not_not.mp c20) (by rw [nI_eq (by omega) (by omega)]; omega)
  refine ae_aload_n (pc := 26) dX11_type_26 rfl ?_
  refine ae_getR (pc := 27) (k := 33) (c := 11) (j := 3) (q := 36) dX11_type_27 rfl rfl (Nat.le_of_ble_eq_true rfl) rfl (Nat.le_of_ble_eq_true rfl) rfl ?_
  refine ae_aload_n (pc := 30) dX11_type_30 rfl ?_
  refine ae_getI (pc := 31) (k := 33) (c := 11) (j := 4) (v := nI n) dX11_type_31 rfl rfl (Or.inl rfl) (Nat.le_of_ble_eq_true rfl) rfl (Nat.le_of_ble_eq_true rfl) hl ?_
  refine ae_iload_n (pc := 34) dX11_type_34 rfl ?_
  refine ae_iastore (pc := 35) (k := 36) (N := 140) _ dX11_type_35 (Nat.le_of_ble_eq_true rfl) rfl rfl rfl (by omega) rfl ?_
  refine ae_aload_n (pc := 36) dX11_type_36 rfl ?_
  refine ae_dup (pc := 37) dX11_type_37 rfl ?_
  refine ae_getI (pc := 38) (k := 33) (c := 11) (j := 4) (v := nI n) dX11_type_38 rfl rfl (Or.inl rfl) (Nat.le_of_ble_eq_true rfl) rfl (Nat.le_of_ble_eq_true rfl) (by simp [am_u, hl]) ?_
  refine ae_iconst (pc := 41) (v := nI 1) dX11_type_41 (by decide) ?_
  refine ae_iadd (pc := 42) (v := nI (n + 1)) dX11_type_42 (nI_add n 1) ?_
  refine ae_putfield (pc := 43) (k := 33) (c := 11) (j := 4) dX11_type_43 rfl rfl (Nat.le_of_ble_eq_true rfl) rfl (Nat.le_of_ble_eq_true rfl) rfl rfl ?_
  refine ae_aload_n (pc := 46) dX11_type_46 rfl ?_
  refine ae_getI (pc := 47) (k := 33) (c := 11) (j := 4) (v := nI (n + 1)) dX11_type_47 rfl rfl (Or.inl rfl) (Nat.le_of_ble_eq_true rfl) rfl (Nat.le_of_ble_eq_true rfl) (by simp [am_u, upd]) ?_
  refine ae_ireturn (pc := 50) dX11_type_50 rfl ?_
  exact ⟨rfl, by simp [am_u]⟩
theorem sm_clearText (d : Nat) (M : am_M) : am_R (d + 1) zX11_clearText [.ref 33] M (fun v M' => v = some (.int (M.1 33 4)) ∧ M' = (am_u M.1 33 (upd (M.1 33) 4 (nI 0)), M.2)) := by
  refine ae_enter (z := zX11_clearText) (y := yX11_clearText) (cc := cX11_clearText) (mL := 2) (rt := some .int) (ci := 11) (st := false) (np := 0) (L := [some (.ref 33), none]) rfl (by decide) (Nat.le_of_ble_eq_true rfl) rfl ?_
  refine ae_aload_n (pc := 0) dX11_clearText_0 rfl ?_
  refine ae_getI (pc := 1) (k := 33) (c := 11) (j := 4) dX11_clearText_1 rfl rfl (Or.inl rfl) (Nat.le_of_ble_eq_true rfl) rfl (Nat.le_of_ble_eq_true rfl) rfl ?_
  refine ae_istore_n (pc := 4) dX11_clearText_4 rfl (Nat.le_of_ble_eq_true rfl) ?_
  refine ae_aload_n (pc := 5) dX11_clearText_5 rfl ?_
  refine ae_iconst (pc := 6) (v := nI 0) dX11_clearText_6 (by decide) ?_
  refine ae_putfield (pc := 7) (k := 33) (c := 11) (j := 4) dX11_clearText_7 rfl rfl (Nat.le_of_ble_eq_true rfl) rfl (Nat.le_of_ble_eq_true rfl) rfl rfl ?_
  refine ae_iload_n (pc := 10) dX11_clearText_10 rfl ?_
  refine ae_ireturn (pc := 11) dX11_clearText_11 rfl ?_
  exact ⟨rfl, rfl⟩

