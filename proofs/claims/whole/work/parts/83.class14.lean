theorem sc_rank (d : Nat) (M : am_M) (f : fT) (hf : wf f) (n : Nat) (hn : M.1 12 4 = nI n) (hg : HG f n (M.1 14) (M.1 15)) : am_R (d + 2) zX1_rank [.ref 12] M (fun v M' => v = none ∧ ∃ K, M' = kyM M 13 K ∧ List.Perm (sgL K 0 n) ((hlL (M.1 14) n).map (kyC f)) ∧ SO K 0 n) := by
  refine ae_enter (z := zX1_rank) (y := yX1_rank) (cc := cX1_rank) (mL := 2) (rt := none) (ci := 1) (st := false) (np := 0) (L := [some (.ref 12), none]) rfl (by decide) (Nat.le_of_ble_eq_true rfl) rfl ?_
  have hA := fA_le hf.1
  have hle := hg.1.1
  have lp : ∀ K : jT, sgL K 0 0 = (hlL (M.1 14) 0).map (kyC f) → am_E none (am_R (d + 1)) cX1_rank 1 none (fun v M' => v = none ∧ ∃ K, M' = kyM M 13 K ∧ List.Perm (sgL K 0 n) ((hlL (M.1 14) n).map (kyC f)) ∧ SO K 0 n) (2, [some (.ref 12), some (.int (nI 0))], [], kyM M 13 K) := by
    refine am_down (P := fun k => ∀ K : jT, sgL K 0 k = (hlL (M.1 14) k).map (kyC f) → am_E none (am_R (d + 1)) cX1_rank 1 none _ (2, [some (.ref 12), some (.int (nI k))], [], kyM M 13 K)) n (fun k hk ih K hK => ?_)
    refine ae_iload_n (pc := 2) dX1_rank_2 rfl ?_
    refine ae_aload_n (pc := 3) dX1_rank_3 rfl ?_
    refine ae_getI (pc := 4) (k := 12) (c := 1) (j := 4) (v := nI n) dX1_rank_4 rfl rfl (Or.inl rfl) (Nat.le_of_ble_eq_true rfl) rfl (Nat.le_of_ble_eq_true rfl) hn ?_
    refine ae_icmp_ge (pc := 7) (t := 45) dX1_rank_7 (by decide) (fun c7 => ?_) (fun c7 => ?_)
    · have hk2 : k = n := by rw [nI_leI (by omega) (by omega)] at c7; omega
      subst hk2
      have hso := sc_sort_13 d (kyM M 13 K) 0 k (by omega)
      rw [Nat.zero_add, kyM_k] at hso
      refine ae_aload_n (pc := 45) dX1_rank_45 rfl ?_
      refine ae_getR (pc := 46) (k := 12) (c := 1) (j := 1) (q := 13) dX1_rank_46 rfl rfl (Nat.le_of_ble_eq_true rfl) rfl (Nat.le_of_ble_eq_true rfl) rfl ?_
      refine ae_iconst (pc := 49) (v := nI 0) dX1_rank_49 (by decide) ?_
      refine ae_aload_n (pc := 50) dX1_rank_50 rfl ?_
      refine ae_getI (pc := 51) (k := 12) (c := 1) (j := 4) (v := nI k) dX1_rank_51 rfl rfl (Or.inl rfl) (Nat.le_of_ble_eq_true rfl) rfl (Nat.le_of_ble_eq_true rfl) hn ?_
      refine ae_callS (pc := 54) (z := zX10_sortKeys) (As := [_, _, _]) dX1_rank_54 rfl rfl rfl rfl (Nat.le_of_ble_eq_true rfl) (hso) (fun v M' hq => ?_)
      obtain ⟨rfl, K', rfl, q1, q2⟩ := hq
      refine ae_return (pc := 57) dX1_rank_57 rfl ?_
      exact ⟨rfl, K', kyM_u M 13 K K', by rw [← hK]; exact q1.1, q2⟩
    · have hk2 : k < n := by rw [nI_leI (by omega) (by omega)] at c7; omega
      obtain ⟨c, u, c1, c2, u1, u2, -, u3, u4⟩ := GA_c hf hg.1 hk2
      have st := ih hk2 (vp_updL K k (kyC f (M.1 14 k))) (by
        rw [sgL_s, Nat.zero_add, updL_self, hlL_s, List.map_cons, ← hK]
        congr 1
        exact sgL_cg (fun j j1 j2 => by simp [vp_updL, show j ≠ k by omega]))
      rw [u4] at st
      refine ae_aload_n (pc := 10) dX1_rank_10 rfl ?_
      refine ae_getR (pc := 11) (k := 12) (c := 1) (j := 1) (q := 13) dX1_rank_11 rfl rfl (Nat.le_of_ble_eq_true rfl) rfl (Nat.le_of_ble_eq_true rfl) rfl ?_
      refine ae_iload_n (pc := 14) dX1_rank_14 rfl ?_
      refine ae_sipush (pc := 15) (v := nI 256) dX1_rank_15 (by decide) ?_
      refine ae_aload_n (pc := 18) dX1_rank_18 rfl ?_
      refine ae_getR (pc := 19) (k := 12) (c := 1) (j := 3) (q := 15) dX1_rank_19 rfl rfl (Nat.le_of_ble_eq_true rfl) rfl (Nat.le_of_ble_eq_true rfl) rfl ?_
      refine ae_iload_n (pc := 22) dX1_rank_22 rfl ?_
      refine ae_iaload (pc := 23) (k := 15) (N := 256) (v := nI u) (k) dX1_rank_23 (Nat.le_of_ble_eq_true rfl) rfl rfl rfl (by omega) u3 ?_
      refine ae_isub (pc := 24) (v := nI (256 - u)) dX1_rank_24 (nI_sub (by omega)) ?_
      refine ae_i2l (pc := 25) (v := nL (256 - u)) dX1_rank_25 (nI_i2l (by omega)) ?_
      refine ae_ldc2_w (pc := 26) dX1_rank_26 rfl ?_
      refine ae_lmul (pc := 29) (v := nL ((256 - u) * 16777216)) dX1_rank_29 (nL_mul _ _) ?_
      refine ae_aload_n (pc := 30) dX1_rank_30 rfl ?_
      refine ae_getR (pc := 31) (k := 12) (c := 1) (j := 2) (q := 14) dX1_rank_31 rfl rfl (Nat.le_of_ble_eq_true rfl) rfl (Nat.le_of_ble_eq_true rfl) rfl ?_
      refine ae_iload_n (pc := 34) dX1_rank_34 rfl ?_
      refine ae_iaload (pc := 35) (k := 14) (N := 256) (v := nI c) (k) dX1_rank_35 (Nat.le_of_ble_eq_true rfl) rfl rfl rfl (by omega) c2 ?_
      refine ae_i2l (pc := 36) (v := nL c) dX1_rank_36 (nI_i2l (by omega)) ?_
      refine ae_ladd (pc := 37) (v := nL ((256 - u) * 16777216 + c)) dX1_rank_37 (nL_add _ _) ?_
      refine ae_lastore (pc := 38) (k := 13) (N := 256) (k) dX1_rank_38 (Nat.le_of_ble_eq_true rfl) rfl rfl rfl (by omega) rfl ?_
      refine ae_M (kyM_u _ _ _ _) ?_
      rw [kyM_k]
      refine ae_iinc (pc := 39) (v := nI (k + 1)) dX1_rank_39 rfl (nI_inc k) ?_
      refine ae_goto (pc := 42) (t := 2) dX1_rank_42 (by decide) ?_
      exact st
  have st := lp (M.2 13) rfl
  rw [kyM_eta] at st
  refine ae_iconst (pc := 0) (v := nI 0) dX1_rank_0 (by decide) ?_
  refine ae_istore_n (pc := 1) dX1_rank_1 rfl (Nat.le_of_ble_eq_true rfl) ?_
  exact st
theorem sc_rankedColor (d : Nat) (M : am_M) (n : Nat) (hn : M.1 12 4 = nI n) (hn2 : n ≤ 256) (k : Nat) (hk : k < n) (u c : Nat) (hu : 1 ≤ u ∧ u ≤ 256) (hc : c < 16777216) (hK : M.2 13 k = nL ((256 - u) * 16777216 + c)) : am_R (d + 1) zX1_rankedColor [.ref 12, .int (nI k)] M (fun v M' => v = some (.int (nI c)) ∧ M' = M) := by
  refine ae_enter (z := zX1_rankedColor) (y := yX1_rankedColor) (cc := cX1_rankedColor) (mL := 2) (rt := some .int) (ci := 1) (st := false) (np := 1) (L := [some (.ref 12), some (.int (nI k))]) rfl (by decide) (Nat.le_of_ble_eq_true rfl) rfl ?_
  have e1 : ((256 - u) * 16777216 + c) % 16777216 = c := by omega
  refine ae_iload_n (pc := 0) dX1_rankedColor_0 rfl ?_
  refine ae_if_lt (pc := 1) (t := 26) dX1_rankedColor_1 (by decide) (fun c1 => ?_) (fun c1 => ?_)
  · exact absurd c1 (Int32.not_lt.mpr (nI_le (Nat.zero_le k) (by omega)))
  refine ae_iload_n (pc := 4) dX1_rankedColor_4 rfl ?_
  refine ae_aload_n (pc := 5) dX1_rankedColor_5 rfl ?_
  refine ae_getI (pc := 6) (k := 12) (c := 1) (j := 4) (v := nI n) dX1_rankedColor_6 rfl rfl (Or.inl rfl) (Nat.le_of_ble_eq_true rfl) rfl (Nat.le_of_ble_eq_true rfl) hn ?_
  refine ae_icmp_ge (pc := 9) (t := 26) dX1_rankedColor_9 (by decide) (fun c9 => ?_) (fun c9 => ?_)
  · exact absurd ((nI_leI (by omega) (by omega)).mp c9) (by omega)
  refine ae_aload_n (pc := 12) dX1_rankedColor_12 rfl ?_
  refine ae_getR (pc := 13) (k := 12) (c := 1) (j := 1) (q := 13) dX1_rankedColor_13 rfl rfl (Nat.le_of_ble_eq_true rfl) rfl (Nat.le_of_ble_eq_true rfl) rfl ?_
  refine ae_iload_n (pc := 16) dX1_rankedColor_16 rfl ?_
  refine ae_laload (pc := 17) (k := 13) (N := 256) (v := nL ((256 - u) * 16777216 + c)) (k) dX1_rankedColor_17 (Nat.le_of_ble_eq_true rfl) rfl rfl rfl (by omega) hK ?_
  refine ae_ldc2_w (pc := 18) dX1_rankedColor_18 rfl ?_
  refine ae_lrem (pc := 21) (v := nL c) dX1_rankedColor_21 (by decide) ((nL_mod (b := 16777216) (by omega) (by decide)).trans (by rw [e1])) ?_
  refine ae_l2i (pc := 22) (v := nI c) dX1_rankedColor_22 (nL_l2i (by omega)) ?_
  refine ae_goto (pc := 23) (t := 27) dX1_rankedColor_23 (by decide) ?_
  refine ae_ireturn (pc := 27) dX1_rankedColor_27 rfl ?_
  exact ⟨rfl, rfl⟩
theorem sc_rankedNumber (d : Nat) (M : am_M) (n : Nat) (hn : M.1 12 4 = nI n) (hn2 : n ≤ 256) (k : Nat) (hk : k < n) (u c : Nat) (hu : 1 ≤ u ∧ u ≤ 256) (hc : c < 16777216) (hK : M.2 13 k = nL ((256 - u) * 16777216 + c)) : am_R (d + 1) zX1_rankedNumber [.ref 12, .int (nI k)] M (fun v M' => v = some (.int (nI u)) ∧ M' = M) := by
  refine ae_enter (z := zX1_rankedNumber) (y := yX1_rankedNumber) (cc := cX1_rankedNumber) (mL := 2) (rt := some .int) (ci := 1) (st := false) (np := 1) (L := [some (.ref 12), some (.int (nI k))]) rfl (by decide) (Nat.le_of_ble_eq_true rfl) rfl ?_
  have e1 : ((256 - u) * 16777216 + c) / 16777216 = 256 - u := by omega
  refine ae_iload_n (pc := 0) dX1_rankedNumber_0 rfl ?_
  refine ae_if_lt (pc := 1) (t := 30) dX1_rankedNumber_1 (by decide) (fun c1 => ?_) (fun c1 => ?_)
  · exact absurd c1 (Int32.not_lt.mpr (nI_le (Nat.zero_le k) (by omega)))
  refine ae_iload_n (pc := 4) dX1_rankedNumber_4 rfl ?_
  refine ae_aload_n (pc := 5) dX1_rankedNumber_5 rfl ?_
  refine ae_getI (pc := 6) (k := 12) (c := 1) (j := 4) (v := nI n) dX1_rankedNumber_6 rfl rfl (Or.inl rfl) (Nat.le_of_ble_eq_true rfl) rfl (Nat.le_of_ble_eq_true rfl) hn ?_
  refine ae_icmp_ge (pc := 9) (t := 30) dX1_rankedNumber_9 (by decide) (fun c9 => ?_) (fun c9 => ?_)
  · exact absurd ((nI_leI (by omega) (by omega)).mp c9) (by omega)
  refine ae_sipush (pc := 12) (v := nI 256) dX1_rankedNumber_12 (by decide) ?_
  refine ae_aload_n (pc := 15) dX1_rankedNumber_15 rfl ?_
  refine ae_getR (pc := 16) (k := 12) (c := 1) (j := 1) (q := 13) dX1_rankedNumber_16 rfl rfl (Nat.le_of_ble_eq_true rfl) rfl (Nat.le_of_ble_eq_true rfl) rfl ?_
  refine ae_iload_n (pc := 19) dX1_rankedNumber_19 rfl ?_
  refine ae_laload (pc := 20) (k := 13) (N := 256) (v := nL ((256 - u) * 16777216 + c)) (k) dX1_rankedNumber_20 (Nat.le_of_ble_eq_true rfl) rfl rfl rfl (by omega) hK ?_
  refine ae_ldc2_w (pc := 21) dX1_rankedNumber_21 rfl ?_
  refine ae_ldiv (pc := 24) (v := nL (256 - u)) dX1_rankedNumber_24 (by decide) ((nL_div (b := 16777216) (by omega) (by decide)).trans (by rw [e1])) ?_
  refine ae_l2i (pc := 25) (v := nI (256 - u)) dX1_rankedNumber_25 (nL_l2i (by omega)) ?_
  refine ae_isub (pc := 26) (v := nI u) dX1_rankedNumber_26 ((nI_sub (by omega)).trans (congrArg nI (by omega))) ?_
  refine ae_goto (pc := 27) (t := 31) dX1_rankedNumber_27 (by decide) ?_
  refine ae_ireturn (pc := 31) dX1_rankedNumber_31 rfl ?_
  exact ⟨rfl, rfl⟩

