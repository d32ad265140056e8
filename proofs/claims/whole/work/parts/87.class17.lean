theorem sc_fill (d : Nat) (M : am_M) (g : fT) (hg : AG M g) (hf : wf g) (h0 : g 292 = 0) (n r : Nat) (hn : n ≤ 16) (hgn : fN g ≤ n) (hr : r < 3) : am_R (d + 6) zX4_fill [.ref 21, .int (nI n), .int (nI r)] M (fun v M' => v = none ∧ AG M' (adA g (fun b => lMe (cnA g) ((bldR g r (n - fN g)).2 b) 3) (bldR g r (n - fN g)).1) ∧ wf (adA g (fun b => lMe (cnA g) ((bldR g r (n - fN g)).2 b) 3) (bldR g r (n - fN g)).1) ∧ fN (adA g (fun b => lMe (cnA g) ((bldR g r (n - fN g)).2 b) 3) (bldR g r (n - fN g)).1) = fN g + (bldR g r (n - fN g)).1 ∧ FR M M') := by
  refine ae_enter (z := zX4_fill) (y := yX4_fill) (cc := cX4_fill) (mL := 6) (rt := none) (ci := 4) (st := false) (np := 2) (L := [some (.ref 21), some (.int (nI n)), some (.int (nI r)), none, none, none]) rfl (by decide) (Nat.le_of_ble_eq_true rfl) rfl ?_
  obtain ⟨-, -, a3⟩ := AG_w hg hf.1
  have hmn := sc_min (d + 4) (nI (n - fN g)) (nI 16) M
  have emn : (if nI 16 < nI (n - fN g) then nI 16 else nI (n - fN g)) = nI (n - fN g) := if_neg (fun q => by rw [nI_ltI (by omega) (by omega)] at q; omega)
  rw [emn] at hmn
  have hmf := sc_makeFirstBox (d + 2) M g hg hf (n - fN g) (by omega)
  refine ae_iload_n (pc := 0) dX4_fill_0 rfl ?_
  refine ae_aload_n (pc := 1) dX4_fill_1 rfl ?_
  refine ae_getR (pc := 2) (k := 21) (c := 4) (j := 0) (q := 1) dX4_fill_2 rfl rfl (Nat.le_of_ble_eq_true rfl) rfl (Nat.le_of_ble_eq_true rfl) rfl ?_
  refine ae_getI (pc := 5) (k := 1) (c := 7) (j := 3) (v := nI (fN g)) dX4_fill_5 rfl rfl (Or.inl rfl) (Nat.le_of_ble_eq_true rfl) rfl (Nat.le_of_ble_eq_true rfl) a3 ?_
  refine ae_isub (pc := 8) (v := nI (n - fN g)) dX4_fill_8 (nI_sub hgn) ?_
  refine ae_bipush (pc := 9) (v := nI 16) dX4_fill_9 (by decide) ?_
  refine ae_pcallS (pc := 11) (z := zJ9_min_7cf53) (As := [_, _]) dX4_fill_11 rfl rfl rfl rfl (Nat.le_of_ble_eq_true rfl) (hmn) ?_
  refine ae_istore_n (pc := 14) dX4_fill_14 rfl (Nat.le_of_ble_eq_true rfl) ?_
  refine ae_aload_n (pc := 15) dX4_fill_15 rfl ?_
  refine ae_iload_n (pc := 16) dX4_fill_16 rfl ?_
  refine ae_callV (pc := 17) (z := zX4_makeFirstBox) (k := 21) (As := [_]) dX4_fill_17 rfl rfl rfl rfl (Nat.le_of_ble_eq_true rfl) rfl (Nat.le_of_ble_eq_true rfl) (Nat.le_of_ble_eq_true rfl) (hmf) (fun v M' hq => ?_)
  obtain ⟨rfl, nh, h, m, hH, hB, hg1, fr1⟩ := hq
  skip
  obtain ⟨u1, u2, u3⟩ := uc_BI hf hH
  have hp := uc_perm hH
  generalize hmost : n - fN g = most at *
  have hI0 : BI (cnA g) (if 0 < (ucL g h nh).length ∧ 0 < most then 1 else 0) (fun _ => ucL g h nh) := by
    intro b hb
    by_cases hc : 0 < (ucL g h nh).length ∧ 0 < most
    · exact ⟨u1, hc.1, u2, fun c hc => (u3 c hc).2⟩
    · rw [if_neg hc] at hb; exact absurd hb (Nat.not_lt_zero b)
  have hnb0 : (if 0 < (ucL g h nh).length ∧ 0 < most then 1 else 0) ≤ most := by split <;> omega
  have elen := hp.length_eq
  have hper := lRn_perm (r := r) (most := most) 16 (if 0 < (ucL g h nh).length ∧ 0 < most then 1 else 0) (C := fun _ => colL g (exF g (nI 1)) (fA g)) hI0 (fun q _ => hp)
  have ebld : bldR g r most = lRn (cnA g) r most 16 (if 0 < (ucL g h nh).length ∧ 0 < most then 1 else 0) (fun _ => colL g (exF g (nI 1)) (fA g)) := by unfold bldR; rw [elen]
  rw [← ebld] at hper
  obtain ⟨hc1, hc2⟩ := hper
  have hIe := lRn_BI (r := r) (most := most) 16 _ hI0
  have hle := lRn_le (cn := cnA g) (r := r) (most := most) 16 _ (fun _ => ucL g h nh) hnb0
  generalize hnb : (if 0 < (ucL g h nh).length ∧ 0 < most then 1 else 0) = nb0 at *
  have hmean : adA g (fun b => lMe (cnA g) ((bldR g r most).2 b) 3) (bldR g r most).1 = adA g (fun b => lMe (cnA g) ((lRn (cnA g) r most 16 nb0 (fun _ => ucL g h nh)).2 b) 3) (lRn (cnA g) r most 16 nb0 (fun _ => ucL g h nh)).1 := by
    rw [← hc1]
    exact adA_cg (fun b hb => (lMe_perm (hc2 b hb) 3).symm)
  rw [hmean, ← hc1]
  clear hmean hc1 hc2 ebld
  have last : ∀ (M2 : am_M) (nb : Nat) (B : Nat → List Int32), BXS M2 (cnA g) nb B → BI (cnA g) nb B → nb ≤ most → AG M2 g → FR M M2 → am_E none (am_R (d + 5)) cX4_fill 4 none (fun v M' => v = none ∧ AG M' (adA g (fun b => lMe (cnA g) (B b) 3) nb) ∧ wf (adA g (fun b => lMe (cnA g) (B b) 3) nb) ∧ fN (adA g (fun b => lMe (cnA g) (B b) 3) nb) = fN g + nb ∧ FR M M') (60, [some (.ref 21), some (.int (nI n)), some (.int (nI r)), some (.int (nI most)), none, none], [], M2) := by
    intro M2 nb B hB hI hnm hg2 fr2
    have lp : ∀ M3 : am_M, BXS M3 (cnA g) nb B → AG M3 (adA g (fun b => lMe (cnA g) (B b) 3) 0) → wf (adA g (fun b => lMe (cnA g) (B b) 3) 0) → (adA g (fun b => lMe (cnA g) (B b) 3) 0) 292 = 0 → FR M M3 → am_E none (am_R (d + 5)) cX4_fill 4 none (fun v M' => v = none ∧ AG M' (adA g (fun b => lMe (cnA g) (B b) 3) nb) ∧ wf (adA g (fun b => lMe (cnA g) (B b) 3) nb) ∧ fN (adA g (fun b => lMe (cnA g) (B b) 3) nb) = fN g + nb ∧ FR M M') (63, [some (.ref 21), some (.int (nI n)), some (.int (nI r)), some (.int (nI most)), some (.int (nI 0)), none], [], M3) := by
      refine am_down (P := fun k => ∀ M3 : am_M, BXS M3 (cnA g) nb B → AG M3 (adA g (fun b => lMe (cnA g) (B b) 3) k) → wf (adA g (fun b => lMe (cnA g) (B b) 3) k) → (adA g (fun b => lMe (cnA g) (B b) 3) k) 292 = 0 → FR M M3 → am_E none (am_R (d + 5)) cX4_fill 4 none _ (63, [some (.ref 21), some (.int (nI n)), some (.int (nI r)), some (.int (nI most)), some (.int (nI k)), none], [], M3)) nb (fun k hk ih M3 hB3 hg3 hw3 hz3 fr3 => ?_)
      obtain ⟨w0, wn⟩ := adA_n (c := fun b => lMe (cnA g) (B b) 3) hf.1 (k := k) (by omega)
      obtain ⟨n1, n2, st, b1, b2⟩ := id hB3
      refine ae_iload (pc := 63) dX4_fill_63 rfl ?_
      refine ae_aload_n (pc := 65) dX4_fill_65 rfl ?_
      refine ae_getI (pc := 66) (k := 21) (c := 4) (j := 5) (v := nI nb) dX4_fill_66 rfl rfl (Or.inl rfl) (Nat.le_of_ble_eq_true rfl) rfl (Nat.le_of_ble_eq_true rfl) n1 ?_
      refine ae_icmp_ge (pc := 69) (t := 92) dX4_fill_69 (by decide) (fun c69 => ?_) (fun c69 => ?_)
      · have hk2 : k = nb := by rw [nI_leI (by omega) (by omega)] at c69; omega
        subst hk2
        refine ae_return (pc := 92) dX4_fill_92 rfl ?_
        exact ⟨rfl, hg3, hw3, wn, fr3⟩
      · have hk2 : k < nb := by rw [nI_leI (by omega) (by omega)] at c69; omega
        have hpos := (BI_pos hI hk2).1
        have hmc := sc_meanColor (d + 2) M3 (cnA g) k (st k) (B k) (by omega) (b1 k hk2) hpos
        have hap := sc_append (d + 4) M3 (fN g + k) (by rw [← wn]; exact (AG_w hg3 hw3.1).2.2) (by omega) (lMe (cnA g) (B k) 3) (nI 0)
        have hn16 : fN (adA g (fun b => lMe (cnA g) (B b) 3) k) < 16 := by omega
        have ag4 : AG (apM M3 (fN g + k) (lMe (cnA g) (B k) 3) (nI 0)) (adA g (fun b => lMe (cnA g) (B b) 3) (k + 1)) := by
          unfold apM
          refine AG_nw ?_
          have := agS_ad hw3.1 hg3 hn16 (lMe (cnA g) (B k) 3) (nI 0)
          rw [wn] at this
          exact this
        have st2 := ih hk2 (apM M3 (fN g + k) (lMe (cnA g) (B k) 3) (nI 0)) (BXS_ne hB3 (apM_ne _ _ _ _ (by omega)) (apM_ne _ _ _ _ (by omega)) (apM_ne _ _ _ _ (by omega)) rfl) ag4 (wf_ad hw3 hn16 hz3 (lMe_c hpos).2 (Or.inl rfl)) (by rw [adA_s, adF_292 hn16]; exact hz3) (FR_tr fr3 (fun q hq => apM_ne _ _ _ _ (by omega)))
        refine ae_aload_n (pc := 72) dX4_fill_72 rfl ?_
        refine ae_getR (pc := 73) (k := 21) (c := 4) (j := 0) (q := 1) dX4_fill_73 rfl rfl (Nat.le_of_ble_eq_true rfl) rfl (Nat.le_of_ble_eq_true rfl) rfl ?_
        refine ae_aload_n (pc := 76) dX4_fill_76 rfl ?_
        refine ae_iload (pc := 77) dX4_fill_77 rfl ?_
        refine ae_pcallV (pc := 79) (z := zX4_meanColor) (k := 21) (As := [_]) dX4_fill_79 rfl rfl rfl rfl (Nat.le_of_ble_eq_true rfl) rfl (Nat.le_of_ble_eq_true rfl) (Nat.le_of_ble_eq_true rfl) (hmc) ?_
        refine ae_iconst (pc := 82) (v := nI 0) dX4_fill_82 (by decide) ?_
        refine ae_callV (pc := 83) (z := zX7_append) (k := 1) (As := [_, _]) dX4_fill_83 rfl rfl rfl rfl (Nat.le_of_ble_eq_true rfl) rfl (Nat.le_of_ble_eq_true rfl) (Nat.le_of_ble_eq_true rfl) (hap) (fun v M' hq => ?_)
        obtain ⟨rfl, rfl⟩ := hq
        refine ae_iinc (pc := 86) (v := nI (k + 1)) dX4_fill_86 rfl (nI_inc k) ?_
        refine ae_goto (pc := 89) (t := 63) dX4_fill_89 (by decide) ?_
        exact st2
    have st := lp M2 hB hg2 hf h0 fr2
    refine ae_iconst (pc := 60) (v := nI 0) dX4_fill_60 (by decide) ?_
    refine ae_istore (pc := 61) dX4_fill_61 rfl (Nat.le_of_ble_eq_true rfl) ?_
    exact st
  have loop : ∀ k (M2 : am_M) (nb : Nat) (B : Nat → List Int32), BXS M2 (cnA g) nb B → BI (cnA g) nb B → nb ≤ most → most ≤ nb + k → AG M2 g → FR M M2 → am_E none (am_R (d + 5)) cX4_fill 4 none (fun v M' => v = none ∧ AG M' (adA g (fun b => lMe (cnA g) ((lRn (cnA g) r most k nb B).2 b) 3) (lRn (cnA g) r most k nb B).1) ∧ wf (adA g (fun b => lMe (cnA g) ((lRn (cnA g) r most k nb B).2 b) 3) (lRn (cnA g) r most k nb B).1) ∧ fN (adA g (fun b => lMe (cnA g) ((lRn (cnA g) r most k nb B).2 b) 3) (lRn (cnA g) r most k nb B).1) = fN g + (lRn (cnA g) r most k nb B).1 ∧ FR M M') (26, [some (.ref 21), some (.int (nI n)), some (.int (nI r)), some (.int (nI most)), some (.int (nI nb)), none], [], M2) := by
    intro k
    induction k with
    | zero =>
      intro M2 nb B hB hI hnm hmk hg2 fr2
      have st := last M2 nb B hB hI hnm hg2 fr2
      refine ae_iload (pc := 26) dX4_fill_26 rfl ?_
      refine ae_iload_n (pc := 28) dX4_fill_28 rfl ?_
      refine ae_icmp_ge (pc := 29) (t := 60) dX4_fill_29 (by decide) (fun c29 => ?_) (fun c29 => ?_)
      · exact ae_forget [4] rfl st
      · exact absurd ((nI_leI (by omega) (by omega)).mpr (by omega)) c29
    | succ k ih =>
      intro M2 nb B hB hI hnm hmk hg2 fr2
      have hnb16 := hB.2.1
      by_cases hlt : nb < most
      · have hch := sc_chooseBox d M2 (cnA g) nb B hB r hr
        cases hx : lGr (cnA g) r B nb with
        | none =>
          have e : lRn (cnA g) r most (k + 1) nb B = (nb, B) := by rw [lRn_s, if_pos hlt, hx]
          rw [e]
          rw [hx] at hch
          have st := last M2 nb B hB hI hnm hg2 fr2
          refine ae_iload (pc := 26) dX4_fill_26 rfl ?_
          refine ae_iload_n (pc := 28) dX4_fill_28 rfl ?_
          refine ae_icmp_ge (pc := 29) (t := 60) dX4_fill_29 (by decide) (fun c29 => ?_) (fun c29 => ?_)
          · exact absurd ((nI_leI (by omega) (by omega)).mp c29) (by omega)
          refine ae_aload_n (pc := 32) dX4_fill_32 rfl ?_
          refine ae_iload_n (pc := 33) dX4_fill_33 rfl ?_
          refine ae_pcallV (pc := 34) (z := zX4_chooseBox) (k := 21) (As := [_]) dX4_fill_34 rfl rfl rfl rfl (Nat.le_of_ble_eq_true rfl) rfl (Nat.le_of_ble_eq_true rfl) (Nat.le_of_ble_eq_true rfl) (hch) ?_
          refine ae_istore (pc := 37) dX4_fill_37 rfl (Nat.le_of_ble_eq_true rfl) ?_
          refine ae_iload (pc := 39) dX4_fill_39 rfl ?_
          refine ae_iconst (pc := 41) (v := (-1)) dX4_fill_41 (by decide) ?_
          refine ae_icmp_ne (pc := 42) (t := 48) dX4_fill_42 (by decide) (fun c42 => ?_) (fun c42 => ?_)
          · exact absurd rfl c42
          · refine ae_goto (pc := 45) (t := 60) dX4_fill_45 (by decide) ?_
            exact ae_forget [4, 5] rfl st
        | some b =>
          obtain ⟨b1, b2⟩ := lGr_lt hx
          have e : lRn (cnA g) r most (k + 1) nb B = lRn (cnA g) r most k (nb + 1) (lSt (cnA g) B nb b) := by rw [lRn_s, if_pos hlt, hx]
          rw [e]
          rw [hx] at hch
          have hsp := sc_split (d + 1) M2 (cnA g) nb B hB hI (by omega) b b1 b2
          refine ae_iload (pc := 26) dX4_fill_26 rfl ?_
          refine ae_iload_n (pc := 28) dX4_fill_28 rfl ?_
          refine ae_icmp_ge (pc := 29) (t := 60) dX4_fill_29 (by decide) (fun c29 => ?_) (fun c29 => ?_)
          · exact absurd ((nI_leI (by omega) (by omega)).mp c29) (by omega)
          refine ae_aload_n (pc := 32) dX4_fill_32 rfl ?_
          refine ae_iload_n (pc := 33) dX4_fill_33 rfl ?_
          refine ae_pcallV (pc := 34) (z := zX4_chooseBox) (k := 21) (As := [_]) dX4_fill_34 rfl rfl rfl rfl (Nat.le_of_ble_eq_true rfl) rfl (Nat.le_of_ble_eq_true rfl) (Nat.le_of_ble_eq_true rfl) (hch) ?_
          refine ae_istore (pc := 37) dX4_fill_37 rfl (Nat.le_of_ble_eq_true rfl) ?_
          refine ae_iload (pc := 39) dX4_fill_39 rfl ?_
          refine ae_iconst (pc := 41) (v := (-1)) dX4_fill_41 (by decide) ?_
          refine ae_icmp_ne (pc := 42) (t := 48) dX4_fill_42 (by decide) (fun c42 => ?_) (fun c42 => ?_)
          rotate_left
          · exact absurd (Classical.not_not.mp c42) (nI_ne1 (by omega))
          refine ae_aload_n (pc := 48) dX4_fill_48 rfl ?_
          refine ae_iload (pc := 49) dX4_fill_49 rfl ?_
          refine ae_callV (pc := 51) (z := zX4_split) (k := 21) (As := [_]) dX4_fill_51 rfl rfl rfl rfl (Nat.le_of_ble_eq_true rfl) rfl (Nat.le_of_ble_eq_true rfl) (Nat.le_of_ble_eq_true rfl) (hsp) (fun v M' hq => ?_)
          obtain ⟨rfl, q1, q2, q3⟩ := hq
          refine ae_iinc (pc := 54) (v := nI (nb + 1)) dX4_fill_54 rfl (nI_inc nb) ?_
          refine ae_goto (pc := 57) (t := 26) dX4_fill_57 (by decide) ?_
          exact ae_forget [5] rfl (ih _ _ _ q1 (BI_st hI b1 b2) (by omega) (by omega) (AG_ne hg2 (fun q a c => q2 q (by omega) (by omega) (by omega))) (FR_tr fr2 (fun q hq => q2 q (by omega) (by omega) (by omega))))
      · have e : lRn (cnA g) r most (k + 1) nb B = (nb, B) := by rw [lRn_s, if_neg hlt]
        rw [e]
        have st := last M2 nb B hB hI hnm hg2 fr2
        refine ae_iload (pc := 26) dX4_fill_26 rfl ?_
        refine ae_iload_n (pc := 28) dX4_fill_28 rfl ?_
        refine ae_icmp_ge (pc := 29) (t := 60) dX4_fill_29 (by decide) (fun c29 => ?_) (fun c29 => ?_)
        · exact ae_forget [4] rfl st
        · exact absurd ((nI_leI (by omega) (by omega)).mpr (by omega)) c29
  have st := loop 16 M' nb0 (fun _ => ucL g h nh) hB hI0 hnb0 (by omega) hg1 fr1
  refine ae_aload_n (pc := 20) dX4_fill_20 rfl ?_
  refine ae_getI (pc := 21) (k := 21) (c := 4) (j := 5) (v := nI nb0) dX4_fill_21 rfl rfl (Or.inl rfl) (Nat.le_of_ble_eq_true rfl) rfl (Nat.le_of_ble_eq_true rfl) hB.1 ?_
  refine ae_istore (pc := 24) dX4_fill_24 rfl (Nat.le_of_ble_eq_true rfl) ?_
  exact st

