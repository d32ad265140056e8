theorem sm_placeOf (d : Nat) (M : am_M) (n : Nat) (hn : M.1 33 7 = nI n) (hn2 : n ≤ 256) (c : Int32) : am_R (d + 1) zX11_placeOf [.ref 33, .int c] M (fun v M' => v = some (.int (oI (plc (M.1 37) c n))) ∧ M' = M) := by
  refine ae_enter (z := zX11_placeOf) (y := yX11_placeOf) (cc := cX11_placeOf) (mL := 4) (rt := some .int) (ci := 11) (st := false) (np := 1) (L := [some (.ref 33), some (.int c), none, none]) rfl (by decide) (Nat.le_of_ble_eq_true rfl) rfl ?_
  refine ae_iconst (pc := 0) (v := (-1)) dX11_placeOf_0 (by decide) ?_
  refine ae_istore_n (pc := 1) dX11_placeOf_1 rfl (Nat.le_of_ble_eq_true rfl) ?_
  refine ae_iconst (pc := 2) (v := nI 0) dX11_placeOf_2 (by decide) ?_
  refine ae_istore_n (pc := 3) dX11_placeOf_3 rfl (Nat.le_of_ble_eq_true rfl) ?_
  skip
  refine am_down (P := fun k => am_E none (am_R d) cX11_placeOf 11 (some .int) _ (4, [some (.ref 33), some (.int c), some (.int (oI (plc (M.1 37) c k))), some (.int (nI k))], [], M)) n (fun k hk ih => ?_)
  refine ae_iload_n (pc := 4) dX11_placeOf_4 rfl ?_
  refine ae_aload_n (pc := 5) dX11_placeOf_5 rfl ?_
  refine ae_getI (pc := 6) (k := 33) (c := 11) (j := 7) (v := nI n) dX11_placeOf_6 rfl rfl (Or.inl rfl) (Nat.le_of_ble_eq_true rfl) rfl (Nat.le_of_ble_eq_true rfl) hn ?_
  refine ae_icmp_ge (pc := 9) (t := 39) dX11_placeOf_9 (by decide) (fun c9 => ?_) (fun c9 => ?_)
  · have hk2 : k = n := by rw [nI_leI (by omega) (by omega)] at c9; omega
    subst hk2
    refine ae_iload_n (pc := 39) dX11_placeOf_39 rfl ?_
    refine ae_ireturn (pc := 40) dX11_placeOf_40 rfl ?_
    exact ⟨rfl, rfl⟩
  · have hk2 : k < n := by rw [nI_leI (by omega) (by omega)] at c9; omega
    cases hx : plc (M.1 37) c k with
    | some q =>
      have hq := plc_some hx
      have h9 := plc_stop hx (n - k)
      rw [show k + (n - k) = n by omega] at h9
      rw [h9]
      refine ae_iload_n (pc := 12) dX11_placeOf_12 rfl ?_
      refine ae_iconst (pc := 13) (v := (-1)) dX11_placeOf_13 (by decide) ?_
      refine ae_icmp_ne (pc := 14) (t := 39) dX11_placeOf_14 (by decide) (fun c14 => ?_) (fun c14 => ?_)
      rotate_left
      · exact absurd (Classical.not_not.mp c14) (nI_ne1 (by omega))
      refine ae_iload_n (pc := 39) dX11_placeOf_39 rfl ?_
      refine ae_ireturn (pc := 40) dX11_placeOf_40 rfl ?_
      exact ⟨rfl, rfl⟩
    | none =>
      refine ae_iload_n (pc := 12) dX11_placeOf_12 rfl ?_
      refine ae_iconst (pc := 13) (v := (-1)) dX11_placeOf_13 (by decide) ?_
      refine ae_icmp_ne (pc := 14) (t := 39) dX11_placeOf_14 (by decide) (fun c14 => ?_) (fun c14 => ?_)
      · exact absurd rfl c14
      refine ae_aload_n (pc := 17) dX11_placeOf_17 rfl ?_
      refine ae_getR (pc := 18) (k := 33) (c := 11) (j := 5) (q := 37) dX11_placeOf_18 rfl rfl (Nat.le_of_ble_eq_true rfl) rfl (Nat.le_of_ble_eq_true rfl) rfl ?_
      refine ae_iload_n (pc := 21) dX11_placeOf_21 rfl ?_
      refine ae_iaload (pc := 22) (k := 37) (N := 256) _ dX11_placeOf_22 (Nat.le_of_ble_eq_true rfl) rfl rfl rfl (by omega) rfl ?_
      refine ae_iload_n (pc := 23) dX11_placeOf_23 rfl ?_
      refine ae_icmp_ne (pc := 24) (t := 31) dX11_placeOf_24 (by decide) (fun c24 => ?_) (fun c24 => ?_)
      · refine ae_iload_n (pc := 31) dX11_placeOf_31 rfl ?_
        refine ae_istore_n (pc := 32) (v := oI (plc (M.1 37) c (k + 1))) dX11_placeOf_32 (by rw [plc_s, hx]; dsimp only; first | (rw [if_pos (Classical.not_not.mp c24)]; rfl) | (rw [if_neg c24])) (Nat.le_of_ble_eq_true rfl) ?_
        refine ae_iinc (pc := 33) (v := nI (k + 1)) dX11_placeOf_33 rfl (nI_inc k) ?_
        refine ae_goto (pc := 36) (t := 4) dX11_placeOf_36 (by decide) ?_
        exact ih hk2
      · refine ae_iload_n (pc := 27) dX11_placeOf_27 rfl ?_
        refine ae_goto (pc := 28) (t := 32) dX11_placeOf_28 (by decide) ?_
        refine ae_istore_n (pc := 32) (v := oI (plc (M.1 37) c (k + 1))) dX11_placeOf_32 (by rw [plc_s, hx]; dsimp only; first | (rw [if_pos (Classical.not_not.mp c24)]; rfl) | (rw [if_neg c24])) (Nat.le_of_ble_eq_true rfl) ?_
        refine ae_iinc (pc := 33) (v := nI (k + 1)) dX11_placeOf_33 rfl (nI_inc k) ?_
        refine ae_goto (pc := 36) (t := 4) dX11_placeOf_36 (by decide) ?_
        exact ih hk2
theorem sm_gathers (d : Nat) (M : am_M) (hf : wf0 (M.1 34)) (b : Int32) : am_R (d + 3) zX11_gathers [.ref 33, .int b] M (fun v M' => v = none ∧ ∃ n h m, GA (M.1 34) (exF (M.1 34) b) (fA (M.1 34)) n h m ∧ M' = gaM M n h m) := by
  refine ae_enter (z := zX11_gathers) (y := yX11_gathers) (cc := cX11_gathers) (mL := 5) (rt := none) (ci := 11) (st := false) (np := 1) (L := [some (.ref 33), some (.int b), none, none, none]) rfl (by decide) (Nat.le_of_ble_eq_true rfl) rfl ?_
  have hA := fA_le hf
  have e34 : ∀ n h m, (gaM M n h m).1 34 = M.1 34 := fun n h m => gaM_ne M n h m (by decide)
  have main : ∀ n h m, GA (M.1 34) (exF (M.1 34) b) 0 n h m → am_E none (am_R (d + 2)) cX11_gathers 11 none (fun v M' => v = none ∧ ∃ n h m, GA (M.1 34) (exF (M.1 34) b) (fA (M.1 34)) n h m ∧ M' = gaM M n h m) (7, [some (.ref 33), some (.int b), some (.int (nI 0)), none, none], [], gaM M n h m) := by
    refine am_down (P := fun p => ∀ n h m, GA (M.1 34) (exF (M.1 34) b) p n h m → am_E none (am_R (d + 2)) cX11_gathers 11 none _ (7, [some (.ref 33), some (.int b), some (.int (nI p)), none, none], [], gaM M n h m)) (fA (M.1 34)) (fun p hp ih n h m g => ?_)
    have hnp := g.1
    have hpx := sm_pixels (d + 1) (gaM M n h m) (by rw [e34]; exact hf)
    rw [e34] at hpx
    refine ae_iload_n (pc := 7) dX11_gathers_7 rfl ?_
    refine ae_aload_n (pc := 8) dX11_gathers_8 rfl ?_
    refine ae_pcallV (pc := 9) (z := zX11_pixels) (k := 33) (As := []) dX11_gathers_9 rfl rfl rfl rfl (Nat.le_of_ble_eq_true rfl) rfl (Nat.le_of_ble_eq_true rfl) (Nat.le_of_ble_eq_true rfl) (hpx) ?_
    refine ae_icmp_ge (pc := 12) (t := 103) dX11_gathers_12 (by decide) (fun c12 => ?_) (fun c12 => ?_)
    · have hp2 : p = fA (M.1 34) := by rw [nI_leI (by omega) (by omega)] at c12; omega
      subst hp2
      refine ae_return (pc := 103) dX11_gathers_103 rfl ?_
      exact ⟨rfl, n, h, m, g, rfl⟩
    · have hp2 : p < fA (M.1 34) := by rw [nI_leI (by omega) (by omega)] at c12; omega
      have hlc := sm_isLockedColor d (gaM M n h m) (by rw [e34]; exact hf) (M.1 34 (2 + p))
      rw [e34] at hlc
      have hpo := sm_placeOf (d + 1) (gaM M n h m) n (gaM_7 _ _ _ _) (by omega) (M.1 34 (2 + p))
      rw [gaM_37] at hpo
      have skp : (M.1 34 (2 + p) = -1 ∨ exF (M.1 34) b (M.1 34 (2 + p)) = true) → am_E none (am_R (d + 2)) cX11_gathers 11 none (fun v M' => v = none ∧ ∃ n h m, GA (M.1 34) (exF (M.1 34) b) (fA (M.1 34)) n h m ∧ M' = gaM M n h m) (97, [some (.ref 33), some (.int b), some (.int (nI p)), some (.int (M.1 34 (2 + p))), none], [], gaM M n h m) := by
        intro hs
        refine ae_iinc (pc := 97) (v := nI (p + 1)) dX11_gathers_97 rfl (nI_inc p) ?_
        refine ae_goto (pc := 100) (t := 7) dX11_gathers_100 (by decide) ?_
        exact ae_forget [3] rfl (ih hp2 n h m (GA_skip g hs))
      have tak : M.1 34 (2 + p) ≠ -1 → exF (M.1 34) b (M.1 34 (2 + p)) = false → am_E none (am_R (d + 2)) cX11_gathers 11 none (fun v M' => v = none ∧ ∃ n h m, GA (M.1 34) (exF (M.1 34) b) (fA (M.1 34)) n h m ∧ M' = gaM M n h m) (41, [some (.ref 33), some (.int b), some (.int (nI p)), some (.int (M.1 34 (2 + p))), none], [], gaM M n h m) := by
        intro t1 t2
        cases hx : plc h (M.1 34 (2 + p)) n with
        | some k =>
          obtain ⟨k1, k2⟩ := plc_some hx
          rw [hx] at hpo
          obtain ⟨-, -, -, a5⟩ := g.2.1 k k1
          refine ae_aload_n (pc := 41) dX11_gathers_41 rfl ?_
          refine ae_iload_n (pc := 42) dX11_gathers_42 rfl ?_
          refine ae_pcallV (pc := 43) (z := zX11_placeOf) (k := 33) (As := [_]) dX11_gathers_43 rfl rfl rfl rfl (Nat.le_of_ble_eq_true rfl) rfl (Nat.le_of_ble_eq_true rfl) (Nat.le_of_ble_eq_true rfl) (hpo) ?_
          refine ae_istore (pc := 46) dX11_gathers_46 rfl (Nat.le_of_ble_eq_true rfl) ?_
          refine ae_iload (pc := 48) dX11_gathers_48 rfl ?_
          refine ae_iconst (pc := 50) (v := (-1)) dX11_gathers_50 (by decide) ?_
          refine ae_icmp_ne (pc := 51) (t := 86) dX11_gathers_51 (by decide) (fun c51 => ?_) (fun c51 => ?_)
          rotate_left
          · exact absurd (Classical.not_not.mp c51) (nI_ne1 (by omega))
          refine ae_aload_n (pc := 86) dX11_gathers_86 rfl ?_
          refine ae_getR (pc := 87) (k := 33) (c := 11) (j := 6) (q := 38) dX11_gathers_87 rfl rfl (Nat.le_of_ble_eq_true rfl) rfl (Nat.le_of_ble_eq_true rfl) rfl ?_
          refine ae_iload (pc := 90) dX11_gathers_90 rfl ?_
          refine ae_dup2 (pc := 92) dX11_gathers_92 rfl rfl ?_
          refine ae_iaload (pc := 93) (k := 38) (N := 256) (v := nI (cnC (M.1 34) (h k) p)) (k) dX11_gathers_93 (Nat.le_of_ble_eq_true rfl) rfl rfl rfl (by omega) (by rw [gaM_38]; exact a5) ?_
          refine ae_iconst (pc := 94) (v := nI 1) dX11_gathers_94 (by decide) ?_
          refine ae_iadd (pc := 95) (v := nI (cnC (M.1 34) (h k) p + 1)) dX11_gathers_95 (nI_add _ 1) ?_
          refine ae_iastore (pc := 96) (k := 38) (N := 256) (k) dX11_gathers_96 (Nat.le_of_ble_eq_true rfl) rfl rfl rfl (by omega) rfl ?_
          refine ae_M (gaM_m _ _ _ _ _) ?_
          rw [gaM_38]
          refine ae_iinc (pc := 97) (v := nI (p + 1)) dX11_gathers_97 rfl (nI_inc p) ?_
          refine ae_goto (pc := 100) (t := 7) dX11_gathers_100 (by decide) ?_
          exact ae_forget [3, 4] rfl (ih hp2 n h _ (GA_old g k1 k2))
        | none =>
          have hno := plc_none hx
          rw [hx] at hpo
          have hu : upd (upd m n (nI 0)) n (nI 1) = upd m n (nI 1) := by funext j; simp only [upd]; split <;> rfl
          refine ae_aload_n (pc := 41) dX11_gathers_41 rfl ?_
          refine ae_iload_n (pc := 42) dX11_gathers_42 rfl ?_
          refine ae_pcallV (pc := 43) (z := zX11_placeOf) (k := 33) (As := [_]) dX11_gathers_43 rfl rfl rfl rfl (Nat.le_of_ble_eq_true rfl) rfl (Nat.le_of_ble_eq_true rfl) (Nat.le_of_ble_eq_true rfl) (hpo) ?_
          refine ae_istore (pc := 46) dX11_gathers_46 rfl (Nat.le_of_ble_eq_true rfl) ?_
          refine ae_iload (pc := 48) dX11_gathers_48 rfl ?_
          refine ae_iconst (pc := 50) (v := (-1)) dX11_gathers_50 (by decide) ?_
          refine ae_icmp_ne (pc := 51) (t := 86) dX11_gathers_51 (by decide) (fun c51 => ?_) (fun c51 => ?_)
          · exact absurd rfl c51
          refine ae_aload_n (pc := 54) dX11_gathers_54 rfl ?_
          refine ae_getI (pc := 55) (k := 33) (c := 11) (j := 7) (v := nI n) dX11_gathers_55 rfl rfl (Or.inl rfl) (Nat.le_of_ble_eq_true rfl) rfl (Nat.le_of_ble_eq_true rfl) (gaM_7 _ _ _ _) ?_
          refine ae_istore (pc := 58) dX11_gathers_58 rfl (Nat.le_of_ble_eq_true rfl) ?_
          refine ae_aload_n (pc := 60) dX11_gathers_60 rfl ?_
          refine ae_getR (pc := 61) (k := 33) (c := 11) (j := 5) (q := 37) dX11_gathers_61 rfl rfl (Nat.le_of_ble_eq_true rfl) rfl (Nat.le_of_ble_eq_true rfl) rfl ?_
          refine ae_iload (pc := 64) dX11_gathers_64 rfl ?_
          refine ae_iload_n (pc := 66) dX11_gathers_66 rfl ?_
          refine ae_iastore (pc := 67) (k := 37) (N := 256) _ dX11_gathers_67 (Nat.le_of_ble_eq_true rfl) rfl rfl rfl (by omega) rfl ?_
          refine ae_M (gaM_h _ _ _ _ _) ?_
          rw [gaM_37]
          refine ae_aload_n (pc := 68) dX11_gathers_68 rfl ?_
          refine ae_getR (pc := 69) (k := 33) (c := 11) (j := 6) (q := 38) dX11_gathers_69 rfl rfl (Nat.le_of_ble_eq_true rfl) rfl (Nat.le_of_ble_eq_true rfl) rfl ?_
          refine ae_iload (pc := 72) dX11_gathers_72 rfl ?_
          refine ae_iconst (pc := 74) (v := nI 0) dX11_gathers_74 (by decide) ?_
          refine ae_iastore (pc := 75) (k := 38) (N := 256) _ dX11_gathers_75 (Nat.le_of_ble_eq_true rfl) rfl rfl rfl (by omega) rfl ?_
          refine ae_M (gaM_m _ _ _ _ _) ?_
          rw [gaM_38]
          refine ae_aload_n (pc := 76) dX11_gathers_76 rfl ?_
          refine ae_dup (pc := 77) dX11_gathers_77 rfl ?_
          refine ae_getI (pc := 78) (k := 33) (c := 11) (j := 7) (v := nI n) dX11_gathers_78 rfl rfl (Or.inl rfl) (Nat.le_of_ble_eq_true rfl) rfl (Nat.le_of_ble_eq_true rfl) (gaM_7 _ _ _ _) ?_
          refine ae_iconst (pc := 81) (v := nI 1) dX11_gathers_81 (by decide) ?_
          refine ae_iadd (pc := 82) (v := nI (n + 1)) dX11_gathers_82 (nI_add n 1) ?_
          refine ae_putfield (pc := 83) (k := 33) (c := 11) (j := 7) dX11_gathers_83 rfl rfl (Nat.le_of_ble_eq_true rfl) rfl (Nat.le_of_ble_eq_true rfl) rfl rfl ?_
          refine ae_M (gaM_n _ _ _ _ _) ?_
          refine ae_aload_n (pc := 86) dX11_gathers_86 rfl ?_
          refine ae_getR (pc := 87) (k := 33) (c := 11) (j := 6) (q := 38) dX11_gathers_87 rfl rfl (Nat.le_of_ble_eq_true rfl) rfl (Nat.le_of_ble_eq_true rfl) rfl ?_
          refine ae_iload (pc := 90) dX11_gathers_90 rfl ?_
          refine ae_dup2 (pc := 92) dX11_gathers_92 rfl rfl ?_
          refine ae_iaload (pc := 93) (k := 38) (N := 256) (v := nI 0) (n) dX11_gathers_93 (Nat.le_of_ble_eq_true rfl) rfl rfl rfl (by omega) (by rw [gaM_38, upd_self]) ?_
          refine ae_iconst (pc := 94) (v := nI 1) dX11_gathers_94 (by decide) ?_
          refine ae_iadd (pc := 95) (v := nI 1) dX11_gathers_95 (by decide) ?_
          refine ae_iastore (pc := 96) (k := 38) (N := 256) (n) dX11_gathers_96 (Nat.le_of_ble_eq_true rfl) rfl rfl rfl (by omega) rfl ?_
          refine ae_M (gaM_m _ _ _ _ _) ?_
          rw [gaM_38, hu]
          refine ae_iinc (pc := 97) (v := nI (p + 1)) dX11_gathers_97 rfl (nI_inc p) ?_
          refine ae_goto (pc := 100) (t := 7) dX11_gathers_100 (by decide) ?_
          exact ae_forget [3, 4] rfl (ih hp2 (n + 1) _ _ (GA_new g hno t1 t2))
      refine ae_aload_n (pc := 15) dX11_gathers_15 rfl ?_
      refine ae_getR (pc := 16) (k := 33) (c := 11) (j := 0) (q := 34) dX11_gathers_16 rfl rfl (Nat.le_of_ble_eq_true rfl) rfl (Nat.le_of_ble_eq_true rfl) rfl ?_
      refine ae_iconst (pc := 19) (v := nI 2) dX11_gathers_19 (by decide) ?_
      refine ae_iload_n (pc := 20) dX11_gathers_20 rfl ?_
      refine ae_iadd (pc := 21) dX11_gathers_21 (nI_add _ _) ?_
      refine ae_iaload (pc := 22) (k := 34) (N := 549) (v := M.1 34 (2 + p)) _ dX11_gathers_22 (Nat.le_of_ble_eq_true rfl) rfl rfl rfl (by omega) (by rw [e34]) ?_
      refine ae_istore_n (pc := 23) dX11_gathers_23 rfl (Nat.le_of_ble_eq_true rfl) ?_
      refine ae_iload_n (pc := 24) dX11_gathers_24 rfl ?_
      refine ae_iconst (pc := 25) (v := (-1)) dX11_gathers_25 (by decide) ?_
      refine ae_icmp_eq (pc := 26) (t := 97) dX11_gathers_26 (by decide) (fun c26 => ?_) (fun c26 => ?_)
      · exact skp (Or.inl c26)
      refine ae_iload_n (pc := 29) dX11_gathers_29 rfl ?_
      refine ae_if_eq (pc := 30) (t := 41) dX11_gathers_30 (by decide) (fun c30 => ?_) (fun c30 => ?_)
      · exact tak c26 (by first | (simp [exF, c30]; done) | (simp only [exF]; rw [Bool.eq_false_iff]; intro q; rw [Bool.and_eq_true] at q; exact bI_eq0.mp (Classical.not_not.mp c38) q.2))
      · refine ae_aload_n (pc := 33) dX11_gathers_33 rfl ?_
        refine ae_iload_n (pc := 34) dX11_gathers_34 rfl ?_
        refine ae_pcallV (pc := 35) (z := zX11_isLockedColor) (k := 33) (As := [_]) dX11_gathers_35 rfl rfl rfl rfl (Nat.le_of_ble_eq_true rfl) rfl (Nat.le_of_ble_eq_true rfl) (Nat.le_of_ble_eq_true rfl) (hlc) ?_
        refine ae_if_ne (pc := 38) (t := 97) dX11_gathers_38 (by decide) (fun c38 => ?_) (fun c38 => ?_)
        · exact skp (Or.inr (by simp only [exF]; rw [Bool.and_eq_true]; exact And.intro (decide_eq_true c30) (bI_ne0.mp c38)))
        · exact tak c26 (by first | (simp [exF, c30]; done) | (simp only [exF]; rw [Bool.eq_false_iff]; intro q; rw [Bool.and_eq_true] at q; exact bI_eq0.mp (Classical.not_not.mp c38) q.2))
  refine ae_aload_n (pc := 0) dX11_gathers_0 rfl ?_
  refine ae_iconst (pc := 1) (v := nI 0) dX11_gathers_1 (by decide) ?_
  refine ae_putfield (pc := 2) (k := 33) (c := 11) (j := 7) dX11_gathers_2 rfl rfl (Nat.le_of_ble_eq_true rfl) rfl (Nat.le_of_ble_eq_true rfl) rfl rfl ?_
  refine ae_iconst (pc := 5) (v := nI 0) dX11_gathers_5 (by decide) ?_
  refine ae_istore_n (pc := 6) dX11_gathers_6 rfl (Nat.le_of_ble_eq_true rfl) ?_
  skip
  refine ae_M (M' := gaM M 0 (M.1 37) (M.1 38)) ?_ (main 0 _ _ (GA_0 _ _ _ _))
  refine Prod.ext (funext fun q => ?_) rfl
  simp only [gaM, am_u]
  by_cases h4 : q = 38 <;> by_cases h3 : q = 37 <;> by_cases h33 : q = 33 <;> simp_all
theorem sm_colors (d : Nat) (M : am_M) (hf : wf0 (M.1 34)) : am_R (d + 4) zX11_colors [.ref 33] M (fun v M' => ∃ n h m, GA (M.1 34) (exF (M.1 34) (nI 0)) (fA (M.1 34)) n h m ∧ v = some (.int (nI n)) ∧ M' = gaM M n h m) := by
  refine ae_enter (z := zX11_colors) (y := yX11_colors) (cc := cX11_colors) (mL := 1) (rt := some .int) (ci := 11) (st := false) (np := 0) (L := [some (.ref 33)]) rfl (by decide) (Nat.le_of_ble_eq_true rfl) rfl ?_
  refine ae_aload_n (pc := 0) dX11_colors_0 rfl ?_
  refine ae_iconst (pc := 1) (v := nI 0) dX11_colors_1 (by decide) ?_
  refine ae_callV (pc := 2) (z := zX11_gathers) (k := 33) (As := [_]) dX11_colors_2 rfl rfl rfl rfl (Nat.le_of_ble_eq_true rfl) rfl (Nat.le_of_ble_eq_true rfl) (Nat.le_of_ble_eq_true rfl) (sm_gathers d M hf _) (fun v M' hq => ?_)
  obtain ⟨rfl, n, h, m, g, rfl⟩ := hq
  refine ae_aload_n (pc := 5) dX11_colors_5 rfl ?_
  refine ae_getI (pc := 6) (k := 33) (c := 11) (j := 7) (v := nI n) dX11_colors_6 rfl rfl (Or.inl rfl) (Nat.le_of_ble_eq_true rfl) rfl (Nat.le_of_ble_eq_true rfl) (gaM_7 _ _ _ _) ?_
  refine ae_ireturn (pc := 9) dX11_colors_9 rfl ?_
  exact ⟨n, h, m, g, rfl, rfl⟩
theorem sm_rank (d : Nat) (M : am_M) (n : Nat) (hn : M.1 33 7 = nI n) (hn2 : n ≤ 256) (a : Nat) (ha : a < n) : am_R (d + 1) zX11_rank [.ref 33, .int (nI a)] M (fun v M' => v = some (.int (nI (rkN (M.1 37) (M.1 38) a n))) ∧ M' = M) := by
  refine ae_enter (z := zX11_rank) (y := yX11_rank) (cc := cX11_rank) (mL := 4) (rt := some .int) (ci := 11) (st := false) (np := 1) (L := [some (.ref 33), some (.int (nI a)), none, none]) rfl (by decide) (Nat.le_of_ble_eq_true rfl) rfl ?_
  refine ae_iconst (pc := 0) (v := nI 0) dX11_rank_0 (by decide) ?_
  refine ae_istore_n (pc := 1) dX11_rank_1 rfl (Nat.le_of_ble_eq_true rfl) ?_
  refine ae_iconst (pc := 2) (v := nI 0) dX11_rank_2 (by decide) ?_
  refine ae_istore_n (pc := 3) dX11_rank_3 rfl (Nat.le_of_ble_eq_true rfl) ?_
  skip
  refine am_down (P := fun k => am_E none (am_R d) cX11_rank 11 (some .int) _ (4, [some (.ref 33), some (.int (nI a)), some (.int (nI (rkN (M.1 37) (M.1 38) a k))), some (.int (nI k))], [], M)) n (fun k hk ih => ?_)
  refine ae_iload_n (pc := 4) dX11_rank_4 rfl ?_
  refine ae_aload_n (pc := 5) dX11_rank_5 rfl ?_
  refine ae_getI (pc := 6) (k := 33) (c := 11) (j := 7) (v := nI n) dX11_rank_6 rfl rfl (Or.inl rfl) (Nat.le_of_ble_eq_true rfl) rfl (Nat.le_of_ble_eq_true rfl) hn ?_
  refine ae_icmp_ge (pc := 9) (t := 71) dX11_rank_9 (by decide) (fun c9 => ?_) (fun c9 => ?_)
  · have hk2 : k = n := by rw [nI_leI (by omega) (by omega)] at c9; omega
    subst hk2
    refine ae_iload_n (pc := 71) dX11_rank_71 rfl ?_
    refine ae_ireturn (pc := 72) dX11_rank_72 rfl ?_
    exact ⟨rfl, rfl⟩
  · have hk2 : k < n := by rw [nI_leI (by omega) (by omega)] at c9; omega
    refine ae_iload_n (pc := 12) dX11_rank_12 rfl ?_
    refine ae_aload_n (pc := 13) dX11_rank_13 rfl ?_
    refine ae_getR (pc := 14) (k := 33) (c := 11) (j := 6) (q := 38) dX11_rank_14 rfl rfl (Nat.le_of_ble_eq_true rfl) rfl (Nat.le_of_ble_eq_true rfl) rfl ?_
    refine ae_iload_n (pc := 17) dX11_rank_17 rfl ?_
    refine ae_iaload (pc := 18) (k := 38) (N := 256) _ dX11_rank_18 (Nat.le_of_ble_eq_true rfl) rfl rfl rfl (by omega) rfl ?_
    refine ae_aload_n (pc := 19) dX11_rank_19 rfl ?_
    refine ae_getR (pc := 20) (k := 33) (c := 11) (j := 6) (q := 38) dX11_rank_20 rfl rfl (Nat.le_of_ble_eq_true rfl) rfl (Nat.le_of_ble_eq_true rfl) rfl ?_
    refine ae_iload_n (pc := 23) dX11_rank_23 rfl ?_
    refine ae_iaload (pc := 24) (k := 38) (N := 256) _ dX11_rank_24 (Nat.le_of_ble_eq_true rfl) rfl rfl rfl (by omega) rfl ?_
    refine ae_icmp_gt (pc := 25) (t := 58) dX11_rank_25 (by decide) (fun c25 => ?_) (fun c25 => ?_)
    · refine ae_iconst (pc := 58) (v := nI 1) dX11_rank_58 (by decide) ?_
      refine ae_goto (pc := 59) (t := 63) dX11_rank_59 (by decide) ?_
      refine ae_iadd (pc := 63) dX11_rank_63 (nI_add _ _) ?_
      refine ae_istore_n (pc := 64) (v := nI (rkN (M.1 37) (M.1 38) a (k + 1))) dX11_rank_64 (by rw [rkN_s]; first | (rw [if_pos (Or.inl c25)]; done) | (rw [if_pos (Or.inr (And.intro (Classical.not_not.mp c40) (Int32.not_le.mp c55)))]; done) | (rw [if_neg (fun q => q.elim c25 (fun z => c40 z.1))]; done) | (rw [if_neg (fun q => q.elim c25 (fun z => Int32.not_lt.mpr c55 z.2))]; done)) (Nat.le_of_ble_eq_true rfl) ?_
      refine ae_iinc (pc := 65) (v := nI (k + 1)) dX11_rank_65 rfl (nI_inc k) ?_
      refine ae_goto (pc := 68) (t := 4) dX11_rank_68 (by decide) ?_
      exact ih hk2
    · refine ae_aload_n (pc := 28) dX11_rank_28 rfl ?_
      refine ae_getR (pc := 29) (k := 33) (c := 11) (j := 6) (q := 38) dX11_rank_29 rfl rfl (Nat.le_of_ble_eq_true rfl) rfl (Nat.le_of_ble_eq_true rfl) rfl ?_
      refine ae_iload_n (pc := 32) dX11_rank_32 rfl ?_
      refine ae_iaload (pc := 33) (k := 38) (N := 256) _ dX11_rank_33 (Nat.le_of_ble_eq_true rfl) rfl rfl rfl (by omega) rfl ?_
      refine ae_aload_n (pc := 34) dX11_rank_34 rfl ?_
      refine ae_getR (pc := 35) (k := 33) (c := 11) (j := 6) (q := 38) dX11_rank_35 rfl rfl (Nat.le_of_ble_eq_true rfl) rfl (Nat.le_of_ble_eq_true rfl) rfl ?_
      refine ae_iload_n (pc := 38) dX11_rank_38 rfl ?_
      refine ae_iaload (pc := 39) (k := 38) (N := 256) _ dX11_rank_39 (Nat.le_of_ble_eq_true rfl) rfl rfl rfl (by omega) rfl ?_
      refine ae_icmp_ne (pc := 40) (t := 62) dX11_rank_40 (by decide) (fun c40 => ?_) (fun c40 => ?_)
      · refine ae_iconst (pc := 62) (v := nI 0) dX11_rank_62 (by decide) ?_
        refine ae_iadd (pc := 63) dX11_rank_63 (nI_add _ _) ?_
        refine ae_istore_n (pc := 64) (v := nI (rkN (M.1 37) (M.1 38) a (k + 1))) dX11_rank_64 (by rw [rkN_s]; first | (rw [if_pos (Or.inl c25)]; done) | (rw [if_pos (Or.inr (And.intro (Classical.not_not.mp c40) (Int32.not_le.mp c55)))]; done) | (rw [if_neg (fun q => q.elim c25 (fun z => c40 z.1))]; done) | (rw [if_neg (fun q => q.elim c25 (fun z => Int32.not_lt.mpr c55 z.2))]; done)) (Nat.le_of_ble_eq_true rfl) ?_
        refine ae_iinc (pc := 65) (v := nI (k + 1)) dX11_rank_65 rfl (nI_inc k) ?_
        refine ae_goto (pc := 68) (t := 4) dX11_rank_68 (by decide) ?_
        exact ih hk2
      · refine ae_aload_n (pc := 43) dX11_rank_43 rfl ?_
        refine ae_getR (pc := 44) (k := 33) (c := 11) (j := 5) (q := 37) dX11_rank_44 rfl rfl (Nat.le_of_ble_eq_true rfl) rfl (Nat.le_of_ble_eq_true rfl) rfl ?_
        refine ae_iload_n (pc := 47) dX11_rank_47 rfl ?_
        refine ae_iaload (pc := 48) (k := 37) (N := 256) _ dX11_rank_48 (Nat.le_of_ble_eq_true rfl) rfl rfl rfl (by omega) rfl ?_
        refine ae_aload_n (pc := 49) dX11_rank_49 rfl ?_
        refine ae_getR (pc := 50) (k := 33) (c := 11) (j := 5) (q := 37) dX11_rank_50 rfl rfl (Nat.le_of_ble_eq_true rfl) rfl (Nat.le_of_ble_eq_true rfl) rfl ?_
        refine ae_iload_n (pc := 53) dX11_rank_53 rfl ?_
        refine ae_iaload (pc := 54) (k := 37) (N := 256) _ dX11_rank_54 (Nat.le_of_ble_eq_true rfl) rfl rfl rfl (by omega) rfl ?_
        refine ae_icmp_ge (pc := 55) (t := 62) dX11_rank_55 (by decide) (fun c55 => ?_) (fun c55 => ?_)
        · refine ae_iconst (pc := 62) (v := nI 0) dX11_rank_62 (by decide) ?_
          refine ae_iadd (pc := 63) dX11_rank_63 (nI_add _ _) ?_
          refine ae_istore_n (pc := 64) (v := nI (rkN (M.1 37) (M.1 38) a (k + 1))) dX11_rank_64 (by rw [rkN_s]; first | (rw [if_pos (Or.inl c25)]; done) | (rw [if_pos (Or.inr (And.intro (Classical.not_not.mp c40) (Int32.not_le.mp c55)))]; done) | (rw [if_neg (fun q => q.elim c25 (fun z => c40 z.1))]; done) | (rw [if_neg (fun q => q.elim c25 (fun z => Int32.not_lt.mpr c55 z.2))]; done)) (Nat.le_of_ble_eq_true rfl) ?_
          refine ae_iinc (pc := 65) (v := nI (k + 1)) dX11_rank_65 rfl (nI_inc k) ?_
          refine ae_goto (pc := 68) (t := 4) dX11_rank_68 (by decide) ?_
          exact ih hk2
        · refine ae_iconst (pc := 58) (v := nI 1) dX11_rank_58 (by decide) ?_
          refine ae_goto (pc := 59) (t := 63) dX11_rank_59 (by decide) ?_
          refine ae_iadd (pc := 63) dX11_rank_63 (nI_add _ _) ?_
          refine ae_istore_n (pc := 64) (v := nI (rkN (M.1 37) (M.1 38) a (k + 1))) dX11_rank_64 (by rw [rkN_s]; first | (rw [if_pos (Or.inl c25)]; done) | (rw [if_pos (Or.inr (And.intro (Classical.not_not.mp c40) (Int32.not_le.mp c55)))]; done) | (rw [if_neg (fun q => q.elim c25 (fun z => c40 z.1))]; done) | (rw [if_neg (fun q => q.elim c25 (fun z => Int32.not_lt.mpr c55 z.2))]; done)) (Nat.le_of_ble_eq_true rfl) ?_
          refine ae_iinc (pc := 65) (v := nI (k + 1)) dX11_rank_65 rfl (nI_inc k) ?_
          refine ae_goto (pc := 68) (t := 4) dX11_rank_68 (by decide) ?_
          exact ih hk2
theorem sm_color0 (d : Nat) (M : am_M) (x y : Int32) (hn : ¬ (¬ x < 0 ∧ nI 0 ≤ y ∧ y ≤ nI 1)) : am_R (d + 2) zX11_color [.ref 33, .int x, .int y] M (fun v M' => v = some (.int (-2)) ∧ M' = M) := by
  refine ae_enter (z := zX11_color) (y := yX11_color) (cc := cX11_color) (mL := 4) (rt := some .int) (ci := 11) (st := false) (np := 2) (L := [some (.ref 33), some (.int x), some (.int y), none]) rfl (by decide) (Nat.le_of_ble_eq_true rfl) rfl ?_
  refine ae_iload_n (pc := 0) dX11_color_0 rfl ?_
  refine ae_if_lt (pc := 1) (t := 13) dX11_color_1 (by decide) (fun c1 => ?_) (fun c1 => ?_)
  · refine ae_bipush (pc := 13) (v := (-2)) dX11_color_13 (by decide) ?_
    refine ae_ireturn (pc := 15) dX11_color_15 rfl ?_
    exact ⟨rfl, rfl⟩
  · refine ae_iload_n (pc := 4) dX11_color_4 rfl ?_
    refine ae_iconst (pc := 5) (v := nI 0) dX11_color_5 (by decide) ?_
    refine ae_iconst (pc := 6) (v := nI 1) dX11_color_6 (by decide) ?_
    refine ae_pcallS (pc := 7) (z := zX11_in) (As := [_, _, _]) dX11_color_7 rfl rfl rfl rfl (Nat.le_of_ble_eq_true rfl) (sm_in d _ _ _ _) ?_
    refine ae_if_ne (pc := 10) (t := 16) dX11_color_10 (by decide) (fun c10 => ?_) (fun c10 => ?_)
    · exact (hn ⟨c1, bI_ne0.mp c10⟩).elim
    · refine ae_bipush (pc := 13) (v := (-2)) dX11_color_13 (by decide) ?_
      refine ae_ireturn (pc := 15) dX11_color_15 rfl ?_
      exact ⟨rfl, rfl⟩
theorem sm_color (d : Nat) (M : am_M) (hf : wf0 (M.1 34)) (x y : Int32) (hx : ¬ x < 0) (hy : nI 0 ≤ y ∧ y ≤ nI 1) : am_R (d + 4) zX11_color [.ref 33, .int x, .int y] M (fun v M' => ∃ n h m, GA (M.1 34) (exF (M.1 34) (nI 0)) (fA (M.1 34)) n h m ∧ v = some (.int (match rkA h m n x n with
    | none => -1
    | some a => if y = 0 then h a else m a)) ∧ M' = gaM M n h m) := by
  refine ae_enter (z := zX11_color) (y := yX11_color) (cc := cX11_color) (mL := 4) (rt := some .int) (ci := 11) (st := false) (np := 2) (L := [some (.ref 33), some (.int x), some (.int y), none]) rfl (by decide) (Nat.le_of_ble_eq_true rfl) rfl ?_
  have hA := fA_le hf
  refine ae_iload_n (pc := 0) dX11_color_0 rfl ?_
  refine ae_if_lt (pc := 1) (t := 13) dX11_color_1 (by decide) (fun q => absurd q hx) (fun _ => ?_)
  refine ae_iload_n (pc := 4) dX11_color_4 rfl ?_
  refine ae_iconst (pc := 5) (v := nI 0) dX11_color_5 (by decide) ?_
  refine ae_iconst (pc := 6) (v := nI 1) dX11_color_6 (by decide) ?_
  refine ae_pcallS (pc := 7) (z := zX11_in) (As := [_, _, _]) dX11_color_7 rfl rfl rfl rfl (Nat.le_of_ble_eq_true rfl) (sm_in (d + 2) _ _ _ _) ?_
  refine ae_if_ne (pc := 10) (t := 16) dX11_color_10 (by decide) (fun _ => ?_) (fun q => absurd hy (bI_eq0.mp (Classical.not_not.mp q)))
  refine ae_aload_n (pc := 16) dX11_color_16 rfl ?_
  refine ae_iconst (pc := 17) (v := nI 0) dX11_color_17 (by decide) ?_
  refine ae_callV (pc := 18) (z := zX11_gathers) (k := 33) (As := [_]) dX11_color_18 rfl rfl rfl rfl (Nat.le_of_ble_eq_true rfl) rfl (Nat.le_of_ble_eq_true rfl) (Nat.le_of_ble_eq_true rfl) (sm_gathers d M hf _) (fun v M' hq => ?_)
  obtain ⟨rfl, n, h, m, g, rfl⟩ := hq
  have hn := g.1
  refine ae_iconst (pc := 21) (v := nI 0) dX11_color_21 (by decide) ?_
  refine ae_istore_n (pc := 22) dX11_color_22 rfl (Nat.le_of_ble_eq_true rfl) ?_
  skip
  refine am_down (P := fun k => rkA h m n x k = none → am_E none (am_R (d + 3)) cX11_color 11 (some .int) _ (23, [some (.ref 33), some (.int x), some (.int y), some (.int (nI k))], [], gaM M n h m)) n (fun k hk ih hkn => ?_) rfl
  refine ae_iload_n (pc := 23) dX11_color_23 rfl ?_
  refine ae_aload_n (pc := 24) dX11_color_24 rfl ?_
  refine ae_getI (pc := 25) (k := 33) (c := 11) (j := 7) (v := nI n) dX11_color_25 rfl rfl (Or.inl rfl) (Nat.le_of_ble_eq_true rfl) rfl (Nat.le_of_ble_eq_true rfl) (gaM_7 _ _ _ _) ?_
  refine ae_icmp_ge (pc := 28) (t := 66) dX11_color_28 (by decide) (fun c28 => ?_) (fun c28 => ?_)
  · have hk2 : k = n := by rw [nI_leI (by omega) (by omega)] at c28; omega
    subst hk2
    refine ae_iconst (pc := 66) (v := (-1)) dX11_color_66 (by decide) ?_
    refine ae_ireturn (pc := 67) dX11_color_67 rfl ?_
    exact ⟨k, h, m, g, by rw [hkn], rfl⟩
  · have hk2 : k < n := by rw [nI_leI (by omega) (by omega)] at c28; omega
    have hrk := sm_rank (d + 2) (gaM M n h m) n (gaM_7 _ _ _ _) (by omega) k hk2
    rw [gaM_37, gaM_38] at hrk
    have e9 : nI (rkN h m k n) = x → rkA h m n x n = some k := by
      intro q
      have := rkA_stop (k := k + 1) (q := k) (show rkA h m n x (k + 1) = some k by rw [rkA_s, hkn]; dsimp only; rw [if_pos q]) (n - (k + 1))
      rwa [show k + 1 + (n - (k + 1)) = n by omega] at this
    refine ae_aload_n (pc := 31) dX11_color_31 rfl ?_
    refine ae_iload_n (pc := 32) dX11_color_32 rfl ?_
    refine ae_pcallV (pc := 33) (z := zX11_rank) (k := 33) (As := [_]) dX11_color_33 rfl rfl rfl rfl (Nat.le_of_ble_eq_true rfl) rfl (Nat.le_of_ble_eq_true rfl) (Nat.le_of_ble_eq_true rfl) (hrk) ?_
    refine ae_iload_n (pc := 36) dX11_color_36 rfl ?_
    refine ae_icmp_ne (pc := 37) (t := 60) dX11_color_37 (by decide) (fun c37 => ?_) (fun c37 => ?_)
    · have hk3 : rkA h m n x (k + 1) = none := by rw [rkA_s, hkn]; dsimp only; rw [if_neg c37]
      refine ae_iinc (pc := 60) (v := nI (k + 1)) dX11_color_60 rfl (nI_inc k) ?_
      refine ae_goto (pc := 63) (t := 23) dX11_color_63 (by decide) ?_
      exact ih hk2 hk3
    · refine ae_iload_n (pc := 40) dX11_color_40 rfl ?_
      refine ae_if_ne (pc := 41) (t := 53) dX11_color_41 (by decide) (fun c41 => ?_) (fun c41 => ?_)
      · refine ae_aload_n (pc := 53) dX11_color_53 rfl ?_
        refine ae_getR (pc := 54) (k := 33) (c := 11) (j := 6) (q := 38) dX11_color_54 rfl rfl (Nat.le_of_ble_eq_true rfl) rfl (Nat.le_of_ble_eq_true rfl) rfl ?_
        refine ae_iload_n (pc := 57) dX11_color_57 rfl ?_
        refine ae_iaload (pc := 58) (k := 38) (N := 256) (v := m k) _ dX11_color_58 (Nat.le_of_ble_eq_true rfl) rfl rfl rfl (by omega) (by rw [gaM_38]) ?_
        refine ae_ireturn (pc := 59) dX11_color_59 rfl ?_
        refine ⟨n, h, m, g, ?_, rfl⟩
        rw [e9 (Classical.not_not.mp c37)]
        dsimp only
        first | (rw [if_neg c41]; done) | (rw [if_pos (Classical.not_not.mp c41)]; done)
      · refine ae_aload_n (pc := 44) dX11_color_44 rfl ?_
        refine ae_getR (pc := 45) (k := 33) (c := 11) (j := 5) (q := 37) dX11_color_45 rfl rfl (Nat.le_of_ble_eq_true rfl) rfl (Nat.le_of_ble_eq_true rfl) rfl ?_
        refine ae_iload_n (pc := 48) dX11_color_48 rfl ?_
        refine ae_iaload (pc := 49) (k := 37) (N := 256) (v := h k) _ dX11_color_49 (Nat.le_of_ble_eq_true rfl) rfl rfl rfl (by omega) (by rw [gaM_37]) ?_
        refine ae_goto (pc := 50) (t := 59) dX11_color_50 (by decide) ?_
        refine ae_ireturn (pc := 59) dX11_color_59 rfl ?_
        refine ⟨n, h, m, g, ?_, rfl⟩
        rw [e9 (Classical.not_not.mp c37)]
        dsimp only
        first | (rw [if_neg c41]; done) | (rw [if_pos (Classical.not_not.mp c41)]; done)

