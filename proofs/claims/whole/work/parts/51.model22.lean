theorem sm_splits (d : Nat) (M : am_M) (n : Nat) (hn : M.1 33 7 = nI n) (hn2 : n ≤ 256) (cn : Int32 → Nat) (hm : ∀ i, i < n → M.1 38 i = nI (cn (M.1 37 i)) ∧ 1 ≤ cn (M.1 37 i) ∧ cn (M.1 37 i) ≤ 256) (nb : Nat) (hnb : M.1 33 16 = nI nb) (hnb2 : nb ≤ 16) (hd : ∀ i j, i < n → j < n → M.1 37 i = M.1 37 j → i = j) (b : Nat) (hb : b < nb) (hl : 1 < (bL (M.1 37) (M.1 45) b n).length) (he : bL (M.1 37) (M.1 45) nb n = []) : am_R (d + 4) zX11_splits [.ref 33, .int (nI b)] M (fun v M' => v = none ∧ ∃ bx', M' = spM M (nb + 1) bx' ∧ (∀ q, q < nb + 1 → List.Perm (bL (M.1 37) bx' q n) (lSt cn (fun b => bL (M.1 37) (M.1 45) b n) nb b q)) ∧ ∀ q, nb < q → q < 2 ^ 31 → bL (M.1 37) bx' q n = bL (M.1 37) (M.1 45) q n) := by
  refine ae_enter (z := zX11_splits) (y := yX11_splits) (cc := cX11_splits) (mL := 8) (rt := none) (ci := 11) (st := false) (np := 1) (L := [some (.ref 33), some (.int (nI b)), none, none, none, none, none, none]) rfl (by decide) (Nat.le_of_ble_eq_true rfl) rfl ?_
  have hle := bL_le256 (h := M.1 37) (bx := M.1 45) (b := b) hn2
  have hps := bL_lS_le (h := M.1 37) (bx := M.1 45) (b := b) hn2 (g := cn) (B := 256) (fun i hi => (hm i hi).2.2) (Nat.le_refl n)
  have hnd : (bL (M.1 37) (M.1 45) b n).Nodup := bL_nodup hd
  have hst : ∀ q, lSt cn (fun b => bL (M.1 37) (M.1 45) b n) nb b q = if q = nb then (lSo (lWd (bL (M.1 37) (M.1 45) b n)) (bL (M.1 37) (M.1 45) b n)).drop (lLw cn (lSo (lWd (bL (M.1 37) (M.1 45) b n)) (bL (M.1 37) (M.1 45) b n))) else if q = b then (lSo (lWd (bL (M.1 37) (M.1 45) b n)) (bL (M.1 37) (M.1 45) b n)).take (lLw cn (lSo (lWd (bL (M.1 37) (M.1 45) b n)) (bL (M.1 37) (M.1 45) b n))) else bL (M.1 37) (M.1 45) q n := fun q => rfl
  refine ae_aload_n (pc := 0) dX11_splits_0 rfl ?_
  refine ae_iload_n (pc := 1) dX11_splits_1 rfl ?_
  refine ae_pcallV (pc := 2) (z := zX11_widest) (k := 33) (As := [_]) dX11_splits_2 rfl rfl rfl rfl (Nat.le_of_ble_eq_true rfl) rfl (Nat.le_of_ble_eq_true rfl) (Nat.le_of_ble_eq_true rfl) (sm_widest d M n hn hn2 b) ?_
  refine ae_istore_n (pc := 5) dX11_splits_5 rfl (Nat.le_of_ble_eq_true rfl) ?_
  refine ae_aload_n (pc := 6) dX11_splits_6 rfl ?_
  refine ae_iload_n (pc := 7) dX11_splits_7 rfl ?_
  refine ae_pcallV (pc := 8) (z := zX11_colorsIn) (k := 33) (As := [_]) dX11_splits_8 rfl rfl rfl rfl (Nat.le_of_ble_eq_true rfl) rfl (Nat.le_of_ble_eq_true rfl) (Nat.le_of_ble_eq_true rfl) (sm_colorsIn (d + 2) M n hn hn2 b) ?_
  refine ae_istore_n (pc := 11) dX11_splits_11 rfl (Nat.le_of_ble_eq_true rfl) ?_
  refine ae_aload_n (pc := 12) dX11_splits_12 rfl ?_
  refine ae_iload_n (pc := 13) dX11_splits_13 rfl ?_
  refine ae_pcallV (pc := 14) (z := zX11_pixelsIn) (k := 33) (As := [_]) dX11_splits_14 rfl rfl rfl rfl (Nat.le_of_ble_eq_true rfl) rfl (Nat.le_of_ble_eq_true rfl) (Nat.le_of_ble_eq_true rfl) (sm_pixelsIn (d + 2) M n hn hn2 cn (fun i hi => (hm i hi).1) b) ?_
  refine ae_istore (pc := 17) dX11_splits_17 rfl (Nat.le_of_ble_eq_true rfl) ?_
  refine ae_iconst (pc := 19) (v := nI 0) dX11_splits_19 (by decide) ?_
  refine ae_istore (pc := 20) dX11_splits_20 rfl (Nat.le_of_ble_eq_true rfl) ?_
  refine ae_iconst (pc := 22) (v := nI 0) dX11_splits_22 (by decide) ?_
  refine ae_istore (pc := 23) dX11_splits_23 rfl (Nat.le_of_ble_eq_true rfl) ?_
  skip
  have hs := lSo_sot (k := lWd (bL (M.1 37) (M.1 45) b n)) hnd
  have hp := (lSo_perm (lWd (bL (M.1 37) (M.1 45) b n)) (bL (M.1 37) (M.1 45) b n)).symm
  generalize hw : lWd (bL (M.1 37) (M.1 45) b n) = w at *
  generalize hsE : lSo w (bL (M.1 37) (M.1 45) b n) = s at *
  have hlen := hp.length_eq
  rw [hlen, lS_perm hp]
  rw [hlen] at hl hle
  rw [lS_perm hp] at hps
  have hcm : ∀ c, c ∈ s → 1 ≤ cn c := by
    intro c hc
    obtain ⟨i, i1, -, rfl⟩ := bL_mem.mp (hp.mem_iff.mpr hc)
    exact (hm i i1).2.1
  have hlp := lLw_pos hl hcm
  have hok := lLw_ok cn s
  have hll := LW_lt hok (by omega)
  have second : am_E none (am_R (d + 3)) cX11_splits 11 none (fun v M' => v = none ∧ ∃ bx', M' = spM M (nb + 1) bx' ∧ (∀ q, q < nb + 1 → List.Perm (bL (M.1 37) bx' q n) (lSt cn (fun b => bL (M.1 37) (M.1 45) b n) nb b q)) ∧ ∀ q, nb < q → q < 2 ^ 31 → bL (M.1 37) bx' q n = bL (M.1 37) (M.1 45) q n) (66, [some (.ref 33), some (.int (nI b)), some (.int (nI w)), some (.int (nI s.length)), some (.int (nI (lS cn s))), some (.int (nI (lLw cn s))), some (.int (nI (lTk cn s (lLw cn s)))), none], [], M) := by
    have main : ∀ m t, lLw cn s + m = t → t ≤ s.length → ∀ bx, List.Perm (bL (M.1 37) bx b n) (s.take t) → List.Perm (bL (M.1 37) bx nb n) (s.drop t) → (∀ q, q ≠ b → q ≠ nb → q < 2 ^ 31 → bL (M.1 37) bx q n = bL (M.1 37) (M.1 45) q n) → am_E none (am_R (d + 3)) cX11_splits 11 none (fun v M' => v = none ∧ ∃ bx', M' = spM M (nb + 1) bx' ∧ (∀ q, q < nb + 1 → List.Perm (bL (M.1 37) bx' q n) (lSt cn (fun b => bL (M.1 37) (M.1 45) b n) nb b q)) ∧ ∀ q, nb < q → q < 2 ^ 31 → bL (M.1 37) bx' q n = bL (M.1 37) (M.1 45) q n) (71, [some (.ref 33), some (.int (nI b)), some (.int (nI w)), some (.int (nI s.length)), some (.int (nI (lS cn s))), some (.int (nI (lLw cn s))), some (.int (nI (lTk cn s (lLw cn s)))), some (.int (nI (t - 1)))], [], bxM M bx) := by
      intro m
      induction m with
      | zero =>
        intro t ht htl bx h1 h2 h3
        have hfin : ∀ q, q < nb + 1 → List.Perm (bL (M.1 37) bx q n) (lSt cn (fun b => bL (M.1 37) (M.1 45) b n) nb b q) := by
          intro q hq
          rw [hst]
          have ht2 : t = lLw cn s := by omega
          subst ht2
          by_cases e1 : q = nb
          · rw [if_pos e1, e1]; exact h2
          · rw [if_neg e1]
            by_cases e2 : q = b
            · rw [if_pos e2, e2]; exact h1
            · rw [if_neg e2, h3 q e2 e1 (by omega)]
        refine ae_iload (pc := 71) dX11_splits_71 rfl ?_
        refine ae_iload (pc := 73) dX11_splits_73 rfl ?_
        refine ae_icmp_lt (pc := 75) (t := 101) dX11_splits_75 (by decide) (fun c75 => ?_) (fun c75 => ?_)
        · refine ae_aload_n (pc := 101) dX11_splits_101 rfl ?_
          refine ae_dup (pc := 102) dX11_splits_102 rfl ?_
          refine ae_getI (pc := 103) (k := 33) (c := 11) (j := 16) (v := nI nb) dX11_splits_103 rfl rfl (Or.inl rfl) (Nat.le_of_ble_eq_true rfl) rfl (Nat.le_of_ble_eq_true rfl) ((congrFun (bxM_ne M bx (k := 33) (by decide)) 16).trans hnb) ?_
          refine ae_iconst (pc := 106) (v := nI 1) dX11_splits_106 (by decide) ?_
          refine ae_iadd (pc := 107) (v := nI (nb + 1)) dX11_splits_107 (nI_add _ _) ?_
          refine ae_putfield (pc := 108) (k := 33) (c := 11) (j := 16) dX11_splits_108 rfl rfl (Nat.le_of_ble_eq_true rfl) rfl (Nat.le_of_ble_eq_true rfl) rfl rfl ?_
          refine ae_return (pc := 111) dX11_splits_111 rfl ?_
          refine ⟨rfl, bx, spM_bx M (nb + 1) bx, hfin, fun q q1 q2 => h3 q (by omega) (by omega) q2⟩
        · exact absurd ((nI_ltI (by omega) (by omega)).mpr (by omega)) c75
      | succ m ih =>
        intro t ht htl bx h1 h2 h3
        have ht1 : t - 1 < s.length := by omega
        have ht2 : t - 1 + 1 = t := by omega
        have hs2 : sot w (s.take t) := hs.sublist (List.take_sublist _ _)
        have hlt : t - 1 < (s.take t).length := by rw [List.length_take]; omega
        obtain ⟨i, i1, i2, i3, i4⟩ := cor_ok hs2 h1 (r := t - 1) hlt
        have i5 : M.1 37 i = s[t - 1] := by rw [i4]; exact List.getElem_take
        obtain ⟨p1, p2, p3⟩ := bL_move (h := M.1 37) (nb := nb) (r := t - 1) (s := s) (by omega) (by omega) (by omega) i2 i3 ht1 i5 (by rw [ht2]; exact h1) (by rw [ht2]; exact h2)
        have hcr := sm_colorOfRank d (bxM M bx) n (by rw [bxM_ne _ _ (by decide)]; exact hn) hn2 b w (t - 1) (by omega)
        rw [bxM_45, bxM_ne _ _ (show (37 : Nat) ≠ 45 by decide), i1] at hcr
        refine ae_iload (pc := 71) dX11_splits_71 rfl ?_
        refine ae_iload (pc := 73) dX11_splits_73 rfl ?_
        refine ae_icmp_lt (pc := 75) (t := 101) dX11_splits_75 (by decide) (fun c75 => ?_) (fun c75 => ?_)
        · exact absurd ((nI_ltI (by omega) (by omega)).mp c75) (by omega)
        refine ae_aload_n (pc := 78) dX11_splits_78 rfl ?_
        refine ae_getR (pc := 79) (k := 33) (c := 11) (j := 15) (q := 45) dX11_splits_79 rfl rfl (Nat.le_of_ble_eq_true rfl) rfl (Nat.le_of_ble_eq_true rfl) rfl ?_
        refine ae_aload_n (pc := 82) dX11_splits_82 rfl ?_
        refine ae_iload_n (pc := 83) dX11_splits_83 rfl ?_
        refine ae_iload_n (pc := 84) dX11_splits_84 rfl ?_
        refine ae_iload (pc := 85) dX11_splits_85 rfl ?_
        refine ae_pcallV (pc := 87) (z := zX11_colorOfRank) (k := 33) (As := [_, _, _]) dX11_splits_87 rfl rfl rfl rfl (Nat.le_of_ble_eq_true rfl) rfl (Nat.le_of_ble_eq_true rfl) (Nat.le_of_ble_eq_true rfl) (hcr) ?_
        refine ae_aload_n (pc := 90) dX11_splits_90 rfl ?_
        refine ae_getI (pc := 91) (k := 33) (c := 11) (j := 16) (v := nI nb) dX11_splits_91 rfl rfl (Or.inl rfl) (Nat.le_of_ble_eq_true rfl) rfl (Nat.le_of_ble_eq_true rfl) ((congrFun (bxM_ne M bx (k := 33) (by decide)) 16).trans hnb) ?_
        refine ae_iastore (pc := 94) (k := 45) (N := 256) (i) dX11_splits_94 (Nat.le_of_ble_eq_true rfl) rfl rfl rfl (by omega) rfl ?_
        refine ae_M (bxM_u _ _ _) ?_
        rw [bxM_45]
        refine ae_iinc (pc := 95) (v := nI (t - 1 - 1)) dX11_splits_95 rfl (nI_dec (by omega)) ?_
        refine ae_goto (pc := 98) (t := 71) dX11_splits_98 (by decide) ?_
        exact ih (t - 1) (by omega) (by omega) _ p1 p2 (fun q q1 q2 q3 => (p3 q q1 q2 q3).trans (h3 q q1 q2 q3))
    refine ae_iload_n (pc := 66) dX11_splits_66 rfl ?_
    refine ae_iconst (pc := 67) (v := nI 1) dX11_splits_67 (by decide) ?_
    refine ae_isub (pc := 68) (v := nI (s.length - 1)) dX11_splits_68 (nI_sub (by omega)) ?_
    refine ae_istore (pc := 69) dX11_splits_69 rfl (Nat.le_of_ble_eq_true rfl) ?_
    skip
    refine ae_M (bxM_eta M).symm (main (s.length - lLw cn s) s.length (by omega) (Nat.le_refl _) (M.1 45) ?_ ?_ (fun q _ _ _ => rfl))
    · rw [List.take_length]; exact hp
    · rw [List.drop_length, he]
  have first : ∀ m j, j + m = s.length → (∀ i, i < j → lCo cn s (lS cn s) i) → am_E none (am_R (d + 3)) cX11_splits 11 none (fun v M' => v = none ∧ ∃ bx', M' = spM M (nb + 1) bx' ∧ (∀ q, q < nb + 1 → List.Perm (bL (M.1 37) bx' q n) (lSt cn (fun b => bL (M.1 37) (M.1 45) b n) nb b q)) ∧ ∀ q, nb < q → q < 2 ^ 31 → bL (M.1 37) bx' q n = bL (M.1 37) (M.1 45) q n) (25, [some (.ref 33), some (.int (nI b)), some (.int (nI w)), some (.int (nI s.length)), some (.int (nI (lS cn s))), some (.int (nI j)), some (.int (nI (lTk cn s j))), none], [], M) := by
    intro m
    induction m with
    | zero =>
      intro j hj hc
      exfalso
      have := (hc (j - 1) (by omega)).2
      omega
    | succ m ih =>
      intro j hj hc
      have htk : lTk cn s j ≤ 256 * 256 := by
        refine Nat.le_trans (lS_le (b := 256) (fun c hc => ?_)) (Nat.mul_le_mul_right _ (by rw [List.length_take]; omega))
        obtain ⟨i, i1, -, rfl⟩ := bL_mem.mp (hp.mem_iff.mpr (List.mem_of_mem_take hc))
        exact (hm i i1).2.2
      have fin : ¬ lCo cn s (lS cn s) j → am_E none (am_R (d + 3)) cX11_splits 11 none (fun v M' => v = none ∧ ∃ bx', M' = spM M (nb + 1) bx' ∧ (∀ q, q < nb + 1 → List.Perm (bL (M.1 37) bx' q n) (lSt cn (fun b => bL (M.1 37) (M.1 45) b n) nb b q)) ∧ ∀ q, nb < q → q < 2 ^ 31 → bL (M.1 37) bx' q n = bL (M.1 37) (M.1 45) q n) (66, [some (.ref 33), some (.int (nI b)), some (.int (nI w)), some (.int (nI s.length)), some (.int (nI (lS cn s))), some (.int (nI j)), some (.int (nI (lTk cn s j))), none], [], M) := by
        intro hno
        have := LW_u (And.intro hc hno) hok
        subst this
        exact second
      obtain ⟨i, i1, i2, i3, i4⟩ := cor_ok hs hp (r := j) (by omega)
      have hcr := sm_colorOfRank d M n hn hn2 b w j (by omega)
      rw [i1] at hcr
      refine ae_iconst (pc := 25) (v := nI 2) dX11_splits_25 (by decide) ?_
      refine ae_iload (pc := 26) dX11_splits_26 rfl ?_
      refine ae_imul (pc := 28) (v := nI (2 * lTk cn s j)) dX11_splits_28 (nI_mul _ _) ?_
      refine ae_iload (pc := 29) dX11_splits_29 rfl ?_
      refine ae_icmp_ge (pc := 31) (t := 66) dX11_splits_31 (by decide) (fun c31 => ?_) (fun c31 => ?_)
      · rw [nI_leI (by omega) (by omega)] at c31
        exact fin (fun q => by have := q.1; omega)
      refine ae_iload (pc := 34) dX11_splits_34 rfl ?_
      refine ae_iload_n (pc := 36) dX11_splits_36 rfl ?_
      refine ae_iconst (pc := 37) (v := nI 1) dX11_splits_37 (by decide) ?_
      refine ae_isub (pc := 38) (v := nI (s.length - 1)) dX11_splits_38 (nI_sub (by omega)) ?_
      refine ae_icmp_ge (pc := 39) (t := 66) dX11_splits_39 (by decide) (fun c39 => ?_) (fun c39 => ?_)
      · rw [nI_leI (by omega) (by omega)] at c39
        exact fin (fun q => by have := q.2; omega)
      rw [nI_leI (by omega) (by omega)] at c31 c39
      refine ae_iload (pc := 42) dX11_splits_42 rfl ?_
      refine ae_aload_n (pc := 44) dX11_splits_44 rfl ?_
      refine ae_getR (pc := 45) (k := 33) (c := 11) (j := 6) (q := 38) dX11_splits_45 rfl rfl (Nat.le_of_ble_eq_true rfl) rfl (Nat.le_of_ble_eq_true rfl) rfl ?_
      refine ae_aload_n (pc := 48) dX11_splits_48 rfl ?_
      refine ae_iload_n (pc := 49) dX11_splits_49 rfl ?_
      refine ae_iload_n (pc := 50) dX11_splits_50 rfl ?_
      refine ae_iload (pc := 51) dX11_splits_51 rfl ?_
      refine ae_pcallV (pc := 53) (z := zX11_colorOfRank) (k := 33) (As := [_, _, _]) dX11_splits_53 rfl rfl rfl rfl (Nat.le_of_ble_eq_true rfl) rfl (Nat.le_of_ble_eq_true rfl) (Nat.le_of_ble_eq_true rfl) (hcr) ?_
      refine ae_iaload (pc := 56) (k := 38) (N := 256) (v := nI (cn s[j])) (i) dX11_splits_56 (Nat.le_of_ble_eq_true rfl) rfl rfl rfl (by omega) ((hm i i2).1.trans (by rw [i4])) ?_
      refine ae_iadd (pc := 57) (v := nI (lTk cn s (j + 1))) dX11_splits_57 (by rw [nI_add, lTk_s]) ?_
      refine ae_istore (pc := 58) dX11_splits_58 rfl (Nat.le_of_ble_eq_true rfl) ?_
      refine ae_iinc (pc := 60) (v := nI (j + 1)) dX11_splits_60 rfl (nI_inc j) ?_
      refine ae_goto (pc := 63) (t := 25) dX11_splits_63 (by decide) ?_
      refine ih (j + 1) (by omega) (fun i hi => ?_)
      by_cases hij : i = j
      · subst hij; exact And.intro (by omega) (by omega)
      · exact hc i (by omega)
  exact first s.length 0 (by omega) (fun i hi => absurd hi (Nat.not_lt_zero i))

