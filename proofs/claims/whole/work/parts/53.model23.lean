theorem sm_build0 (d : Nat) (M : am_M) (x y : Int32) (hn : ¬ ((nI 1 ≤ x ∧ x ≤ nI 16) ∧ nI 0 ≤ y ∧ y ≤ nI 2)) : am_R (d + 2) zX11_build [.ref 33, .int x, .int y] M (fun v M' => v = some (.int (-2)) ∧ M' = M) := by
  refine ae_enter (z := zX11_build) (y := yX11_build) (cc := cX11_build) (mL := 6) (rt := some .int) (ci := 11) (st := false) (np := 2) (L := [some (.ref 33), some (.int x), some (.int y), none, none, none]) rfl (by decide) (Nat.le_of_ble_eq_true rfl) rfl ?_
  refine ae_iload_n (pc := 0) dX11_build_0 rfl ?_
  refine ae_iconst (pc := 1) (v := nI 1) dX11_build_1 (by decide) ?_
  refine ae_bipush (pc := 2) (v := nI 16) dX11_build_2 (by decide) ?_
  refine ae_pcallS (pc := 4) (z := zX11_in) (As := [_, _, _]) dX11_build_4 rfl rfl rfl rfl (Nat.le_of_ble_eq_true rfl) (sm_in d _ _ _ _) ?_
  refine ae_if_eq (pc := 7) (t := 19) dX11_build_7 (by decide) (fun c7 => ?_) (fun c7 => ?_)
  · refine ae_bipush (pc := 19) (v := (-2)) dX11_build_19 (by decide) ?_
    refine ae_ireturn (pc := 21) dX11_build_21 rfl ?_
    exact ⟨rfl, rfl⟩
  · refine ae_iload_n (pc := 10) dX11_build_10 rfl ?_
    refine ae_iconst (pc := 11) (v := nI 0) dX11_build_11 (by decide) ?_
    refine ae_iconst (pc := 12) (v := nI 2) dX11_build_12 (by decide) ?_
    refine ae_pcallS (pc := 13) (z := zX11_in) (As := [_, _, _]) dX11_build_13 rfl rfl rfl rfl (Nat.le_of_ble_eq_true rfl) (sm_in d _ _ _ _) ?_
    refine ae_if_ne (pc := 16) (t := 22) dX11_build_16 (by decide) (fun c16 => ?_) (fun c16 => ?_)
    · exact (hn ⟨bI_ne0.mp c7, bI_ne0.mp c16⟩).elim
    · refine ae_bipush (pc := 19) (v := (-2)) dX11_build_19 (by decide) ?_
      refine ae_ireturn (pc := 21) dX11_build_21 rfl ?_
      exact ⟨rfl, rfl⟩
theorem sm_buildS (d : Nat) (M : am_M) (hf : wf (M.1 34)) (n r : Nat) (hn : 1 ≤ n ∧ n ≤ 16) (hr : r < 3) (hl : n < lcd (M.1 34) (fN (M.1 34))) : am_R (d + 2) zX11_build [.ref 33, .int (nI n), .int (nI r)] M (fun v M' => v = some (.int (-3)) ∧ M' = M) := by
  refine ae_enter (z := zX11_build) (y := yX11_build) (cc := cX11_build) (mL := 6) (rt := some .int) (ci := 11) (st := false) (np := 2) (L := [some (.ref 33), some (.int (nI n)), some (.int (nI r)), none, none, none]) rfl (by decide) (Nat.le_of_ble_eq_true rfl) rfl ?_
  have h1 := rngI hn.1 hn.2 (by decide)
  have h2 := rngI (Nat.zero_le r) (show r ≤ 2 by omega) (by decide)
  have hle := lcd_le (M.1 34) (fN (M.1 34))
  have hN := hf.1.2.2.2
  refine ae_iload_n (pc := 0) dX11_build_0 rfl ?_
  refine ae_iconst (pc := 1) (v := nI 1) dX11_build_1 (by decide) ?_
  refine ae_bipush (pc := 2) (v := nI 16) dX11_build_2 (by decide) ?_
  refine ae_pcallS (pc := 4) (z := zX11_in) (As := [_, _, _]) dX11_build_4 rfl rfl rfl rfl (Nat.le_of_ble_eq_true rfl) (sm_in d _ _ _ _) ?_
  refine ae_if_eq (pc := 7) (t := 19) dX11_build_7 (by decide) (fun c7 => ?_) (fun c7 => ?_)
  · exact absurd h1 (bI_eq0.mp c7)
  refine ae_iload_n (pc := 10) dX11_build_10 rfl ?_
  refine ae_iconst (pc := 11) (v := nI 0) dX11_build_11 (by decide) ?_
  refine ae_iconst (pc := 12) (v := nI 2) dX11_build_12 (by decide) ?_
  refine ae_pcallS (pc := 13) (z := zX11_in) (As := [_, _, _]) dX11_build_13 rfl rfl rfl rfl (Nat.le_of_ble_eq_true rfl) (sm_in d _ _ _ _) ?_
  refine ae_if_ne (pc := 16) (t := 22) dX11_build_16 (by decide) (fun c16 => ?_) (fun c16 => ?_)
  rotate_left
  · exact absurd h2 (bI_eq0.mp (Classical.not_not.mp c16))
  refine ae_aload_n (pc := 22) dX11_build_22 rfl ?_
  refine ae_pcallV (pc := 23) (z := zX11_locked) (k := 33) (As := []) dX11_build_23 rfl rfl rfl rfl (Nat.le_of_ble_eq_true rfl) rfl (Nat.le_of_ble_eq_true rfl) (Nat.le_of_ble_eq_true rfl) (sm_locked d M hf) ?_
  refine ae_iload_n (pc := 26) dX11_build_26 rfl ?_
  refine ae_icmp_le (pc := 27) (t := 33) dX11_build_27 (by decide) (fun c27 => ?_) (fun c27 => ?_)
  · exact absurd ((nI_leI (by omega) (by omega)).mp c27) (by omega)
  · refine ae_bipush (pc := 30) (v := (-3)) dX11_build_30 (by decide) ?_
    refine ae_ireturn (pc := 32) dX11_build_32 rfl ?_
    exact ⟨rfl, rfl⟩
theorem sm_build (d : Nat) (M : am_M) (hf : wf (M.1 34)) (u : Nat) (hu : M.1 33 2 = nI u) (hu2 : u ≤ 10) (n r : Nat) (hn : 1 ≤ n ∧ n ≤ 16) (hr : r < 3) (hl : lcd (M.1 34) (fN (M.1 34)) ≤ n) : am_R (d + 6) zX11_build [.ref 33, .int (nI n), .int (nI r)] M (fun v M' => ∃ g T, KE (kpF (M.1 34) 1) (fN (M.1 34)) 0 g T ∧ v = some (.int (nI (fN g + (bldR g r (n - fN g)).1))) ∧ ∃ nh h m nb bx, M' = rw34 (spM (gaM (rw34 (kpM M u 1) g) nh h m) nb bx) (adA g (fun b => lMe (cnA g) ((bldR g r (n - fN g)).2 b) 3) (bldR g r (n - fN g)).1)) := by
  refine ae_enter (z := zX11_build) (y := yX11_build) (cc := cX11_build) (mL := 6) (rt := some .int) (ci := 11) (st := false) (np := 2) (L := [some (.ref 33), some (.int (nI n)), some (.int (nI r)), none, none, none]) rfl (by decide) (Nat.le_of_ble_eq_true rfl) rfl ?_
  have h1 := rngI hn.1 hn.2 (by decide)
  have h2 := rngI (Nat.zero_le r) (show r ≤ 2 by omega) (by decide)
  have hle := lcd_le (M.1 34) (fN (M.1 34))
  have hN := hf.1.2.2.2
  obtain ⟨kf1, kf2, kf3, kf4⟩ := wf0_kp hf.1 1
  refine ae_iload_n (pc := 0) dX11_build_0 rfl ?_
  refine ae_iconst (pc := 1) (v := nI 1) dX11_build_1 (by decide) ?_
  refine ae_bipush (pc := 2) (v := nI 16) dX11_build_2 (by decide) ?_
  refine ae_pcallS (pc := 4) (z := zX11_in) (As := [_, _, _]) dX11_build_4 rfl rfl rfl rfl (Nat.le_of_ble_eq_true rfl) (sm_in (d + 4) _ _ _ _) ?_
  refine ae_if_eq (pc := 7) (t := 19) dX11_build_7 (by decide) (fun c7 => ?_) (fun c7 => ?_)
  · exact absurd h1 (bI_eq0.mp c7)
  refine ae_iload_n (pc := 10) dX11_build_10 rfl ?_
  refine ae_iconst (pc := 11) (v := nI 0) dX11_build_11 (by decide) ?_
  refine ae_iconst (pc := 12) (v := nI 2) dX11_build_12 (by decide) ?_
  refine ae_pcallS (pc := 13) (z := zX11_in) (As := [_, _, _]) dX11_build_13 rfl rfl rfl rfl (Nat.le_of_ble_eq_true rfl) (sm_in (d + 4) _ _ _ _) ?_
  refine ae_if_ne (pc := 16) (t := 22) dX11_build_16 (by decide) (fun c16 => ?_) (fun c16 => ?_)
  rotate_left
  · exact absurd h2 (bI_eq0.mp (Classical.not_not.mp c16))
  refine ae_aload_n (pc := 22) dX11_build_22 rfl ?_
  refine ae_pcallV (pc := 23) (z := zX11_locked) (k := 33) (As := []) dX11_build_23 rfl rfl rfl rfl (Nat.le_of_ble_eq_true rfl) rfl (Nat.le_of_ble_eq_true rfl) (Nat.le_of_ble_eq_true rfl) (sm_locked (d + 4) M hf) ?_
  refine ae_iload_n (pc := 26) dX11_build_26 rfl ?_
  refine ae_icmp_le (pc := 27) (t := 33) dX11_build_27 (by decide) (fun c27 => ?_) (fun c27 => ?_)
  rotate_left
  · exact absurd ((nI_leI (by omega) (by omega)).mpr hl) c27
  refine ae_aload_n (pc := 33) dX11_build_33 rfl ?_
  refine ae_iconst (pc := 34) (v := nI 1) dX11_build_34 (by decide) ?_
  refine ae_callV (pc := 35) (z := zX11_keeps) (k := 33) (As := [_]) dX11_build_35 rfl rfl rfl rfl (Nat.le_of_ble_eq_true rfl) rfl (Nat.le_of_ble_eq_true rfl) (Nat.le_of_ble_eq_true rfl) (sm_keeps (d + 4) M u hu hu2 (nI 1)) (fun v M' hq => ?_)
  obtain ⟨rfl, rfl⟩ := hq
  refine ae_aload_n (pc := 38) dX11_build_38 rfl ?_
  refine ae_getR (pc := 39) (k := 33) (c := 11) (j := 0) (q := 34) dX11_build_39 rfl rfl (Nat.le_of_ble_eq_true rfl) rfl (Nat.le_of_ble_eq_true rfl) rfl ?_
  refine ae_sipush (pc := 42) (v := nI 258) dX11_build_42 (by decide) ?_
  skip
  refine ae_M (M' := rw34 (kpM M u 1) (kpF (M.1 34) 1)) (by rw [← kp34 M u 1, rw34_eta]; rfl) ?_
  refine ae_iaload (pc := 45) (k := 34) (N := 549) (v := nI (fN (M.1 34))) (258) dX11_build_45 (Nat.le_of_ble_eq_true rfl) rfl rfl rfl (by omega) (by rw [rw34_34, kf1.2.2.1, kf4]) ?_
  refine ae_iconst (pc := 46) (v := nI 1) dX11_build_46 (by decide) ?_
  refine ae_isub (pc := 47) (v := nI (fN (M.1 34)) - nI 1) dX11_build_47 rfl ?_
  refine ae_istore_n (pc := 48) dX11_build_48 rfl (Nat.le_of_ble_eq_true rfl) ?_
  skip
  have lk0 : lkL (kpF (M.1 34) 1) (fN (M.1 34)) = lkL (M.1 34) (fN (M.1 34)) := by
    have : ∀ k, k ≤ 16 → lkL (kpF (M.1 34) 1) k = lkL (M.1 34) k := by
      intro k
      induction k with
      | zero => intro _; rfl
      | succ k ih =>
        intro hk
        show (if _ then _ else _) = (if _ then _ else _)
        rw [kpF_ne _ _ (by omega), kpF_ne _ _ (by omega), ih (by omega)]
    exact this _ hN
  have behind : ∀ g T, KE (kpF (M.1 34) 1) (fN (M.1 34)) 0 g T → am_E none (am_R (d + 5)) cX11_build 11 (some .int) (fun v M' => ∃ g T, KE (kpF (M.1 34) 1) (fN (M.1 34)) 0 g T ∧ v = some (.int (nI (fN g + (bldR g r (n - fN g)).1))) ∧ ∃ nh h m nb bx, M' = rw34 (spM (gaM (rw34 (kpM M u 1) g) nh h m) nb bx) (adA g (fun b => lMe (cnA g) ((bldR g r (n - fN g)).2 b) 3) (bldR g r (n - fN g)).1)) (72, [some (.ref 33), some (.int (nI n)), some (.int (nI r)), none, none, none], [], rw34 (kpM M u 1) g) := by
    intro g T hK
    have hgn : fN g = T.length := by have := fN_of hK.2.1.1 (by have := hK.2.1.2; omega); omega
    have hTl : T.length ≤ n := by
      have e : lkL (kpF (M.1 34) 1) (fN (M.1 34)) = T := hK.2.2.2.2
      rw [lk0] at e
      rw [← e, lkL_len]; exact hl
    have hg : wf0 g := by
      have e0 : g 0 = kpF (M.1 34) 1 0 := hK.1 0 (by omega)
      have e1 : g 1 = kpF (M.1 34) 1 1 := hK.1 1 (by omega)
      refine ⟨?_, ?_, ?_, ?_⟩
      · unfold fW; rw [e0]; exact kf1.1
      · unfold fH; rw [e1]; exact kf1.2.1
      · rw [hgn, hK.2.1.1]; congr 1; omega
      · rw [hgn]; have := hK.2.1.2; omega
    have hgA := fA_le hg
    have e258 : g 258 = nI (fN g) := hg.2.2.1
    rw [← hgn] at hTl
    refine ae_iload_n (pc := 72) dX11_build_72 rfl ?_
    refine ae_aload_n (pc := 73) dX11_build_73 rfl ?_
    refine ae_getR (pc := 74) (k := 33) (c := 11) (j := 0) (q := 34) dX11_build_74 rfl rfl (Nat.le_of_ble_eq_true rfl) rfl (Nat.le_of_ble_eq_true rfl) rfl ?_
    refine ae_sipush (pc := 77) (v := nI 258) dX11_build_77 (by decide) ?_
    refine ae_iaload (pc := 80) (k := 34) (N := 549) (v := nI (fN g)) (258) dX11_build_80 (Nat.le_of_ble_eq_true rfl) rfl rfl rfl (by omega) (by rw [rw34_34, e258]) ?_
    refine ae_isub (pc := 81) (v := nI (n - fN g)) dX11_build_81 (nI_sub hTl) ?_
    refine ae_istore_n (pc := 82) dX11_build_82 rfl (Nat.le_of_ble_eq_true rfl) ?_
    refine ae_aload_n (pc := 83) dX11_build_83 rfl ?_
    refine ae_iconst (pc := 84) (v := nI 1) dX11_build_84 (by decide) ?_
    skip
    refine ae_callV (pc := 85) (z := zX11_gathers) (k := 33) (As := [_]) dX11_build_85 rfl rfl rfl rfl (Nat.le_of_ble_eq_true rfl) rfl (Nat.le_of_ble_eq_true rfl) (Nat.le_of_ble_eq_true rfl) (sm_gathers (d + 2) (rw34 (kpM M u 1) g) (by rw [rw34_34]; exact hg) (nI 1)) (fun v M' hq => ?_)
    rw [rw34_34] at hq
    obtain ⟨rfl, nh, h, m, ga, rfl⟩ := hq
    have hnh := ga.1
    generalize hN0 : gaM (rw34 (kpM M u 1) g) nh h m = N0
    have n7 : N0.1 33 7 = nI nh := by rw [← hN0]; exact gaM_7 _ _ _ _
    have n37 : N0.1 37 = h := by rw [← hN0]; exact gaM_37 _ _ _ _
    have n38 : N0.1 38 = m := by rw [← hN0]; exact gaM_38 _ _ _ _
    have n34 : N0.1 34 = g := by rw [← hN0, gaM_ne _ _ _ _ (by decide), rw34_34]
    have hcm : ∀ i, i < nh → m i = nI (cnA g (h i)) ∧ 1 ≤ cnA g (h i) ∧ cnA g (h i) ≤ 256 := by
      intro i hi
      obtain ⟨⟨q, q1, q2⟩, -, -, a5⟩ := ga.2.1 i hi
      exact ⟨a5, cnC_pos q1 q2, Nat.le_trans (cnC_le _ _ _) hgA.2⟩
    have last : ∀ bx, (∀ q, q < (bldR g r (n - fN g)).1 → List.Perm (bL h bx q nh) ((bldR g r (n - fN g)).2 q)) → BI (cnA g) (bldR g r (n - fN g)).1 (bldR g r (n - fN g)).2 → (bldR g r (n - fN g)).1 ≤ n - fN g → am_E none (am_R (d + 5)) cX11_build 11 (some .int) (fun v M' => ∃ g T, KE (kpF (M.1 34) 1) (fN (M.1 34)) 0 g T ∧ v = some (.int (nI (fN g + (bldR g r (n - fN g)).1))) ∧ ∃ nh h m nb bx, M' = rw34 (spM (gaM (rw34 (kpM M u 1) g) nh h m) nb bx) (adA g (fun b => lMe (cnA g) ((bldR g r (n - fN g)).2 b) 3) (bldR g r (n - fN g)).1)) (170, [some (.ref 33), some (.int (nI n)), some (.int (nI r)), some (.int (nI (n - fN g))), none, none], [], spM N0 (bldR g r (n - fN g)).1 bx) := by
      intro bx hbx hbi hbl
      generalize hc : (fun b => lMe (cnA g) ((bldR g r (n - fN g)).2 b) 3 : fT) = c
      have hcb : ∀ b, c b = lMe (cnA g) ((bldR g r (n - fN g)).2 b) 3 := fun b => by rw [← hc]
      generalize hnb : (bldR g r (n - fN g)).1 = nb at *
      have s34 : (spM N0 nb bx).1 34 = g := by rw [spM_ne _ _ _ (by decide), n34]
      refine ae_aload_n (pc := 170) dX11_build_170 rfl ?_
      refine ae_getR (pc := 171) (k := 33) (c := 11) (j := 0) (q := 34) dX11_build_171 rfl rfl (Nat.le_of_ble_eq_true rfl) rfl (Nat.le_of_ble_eq_true rfl) rfl ?_
      refine ae_sipush (pc := 174) (v := nI 258) dX11_build_174 (by decide) ?_
      refine ae_iaload (pc := 177) (k := 34) (N := 549) (v := nI (fN g)) (258) dX11_build_177 (Nat.le_of_ble_eq_true rfl) rfl rfl rfl (by omega) (by rw [s34, e258]) ?_
      refine ae_istore (pc := 178) dX11_build_178 rfl (Nat.le_of_ble_eq_true rfl) ?_
      refine ae_iconst (pc := 180) (v := nI 0) dX11_build_180 (by decide) ?_
      refine ae_istore (pc := 181) dX11_build_181 rfl (Nat.le_of_ble_eq_true rfl) ?_
      skip
      refine ae_M (M' := rw34 (spM N0 nb bx) (adA g c 0)) (by show _ = rw34 _ g; rw [← s34, rw34_eta]) ?_
      have lp : ∀ a, a ≤ 16 → am_E none (am_R (d + 5)) cX11_build 11 (some .int) (fun v M' => ∃ g T, KE (kpF (M.1 34) 1) (fN (M.1 34)) 0 g T ∧ v = some (.int (nI (fN g + (bldR g r (n - fN g)).1))) ∧ ∃ nh h m nb bx, M' = rw34 (spM (gaM (rw34 (kpM M u 1) g) nh h m) nb bx) (adA g (fun b => lMe (cnA g) ((bldR g r (n - fN g)).2 b) 3) (bldR g r (n - fN g)).1)) (183, [some (.ref 33), some (.int (nI n)), some (.int (nI r)), some (.int (nI (n - fN g))), some (.int (nI a)), some (.int (nI 0))], [], rw34 (spM N0 nb bx) (adA g c 0)) := by
        refine am_down (P := fun k => ∀ a, a ≤ 16 → am_E none (am_R (d + 5)) cX11_build 11 (some .int) _ (183, [some (.ref 33), some (.int (nI n)), some (.int (nI r)), some (.int (nI (n - fN g))), some (.int (nI a)), some (.int (nI k))], [], rw34 (spM N0 nb bx) (adA g c k))) nb (fun k hk ih a ha => ?_)
        obtain ⟨w1, w2⟩ := adA_n (c := c) hg (k := k) (by omega)
        have r33 : (rw34 (spM N0 nb bx) (adA g c k)).1 33 = upd (N0.1 33) 16 (nI nb) := by rw [rw34_ne _ _ (by decide), spM_33]
        refine ae_iload (pc := 183) dX11_build_183 rfl ?_
        refine ae_aload_n (pc := 185) dX11_build_185 rfl ?_
        refine ae_getI (pc := 186) (k := 33) (c := 11) (j := 16) (v := nI nb) dX11_build_186 rfl rfl (Or.inl rfl) (Nat.le_of_ble_eq_true rfl) rfl (Nat.le_of_ble_eq_true rfl) (by rw [r33, upd_self]) ?_
        refine ae_icmp_ge (pc := 189) (t := 211) dX11_build_189 (by decide) (fun c189 => ?_) (fun c189 => ?_)
        · have hk2 : k = nb := by rw [nI_leI (by omega) (by omega)] at c189; omega
          subst hk2
          refine ae_iload (pc := 211) dX11_build_211 rfl ?_
          refine ae_if_ge (pc := 213) (t := 221) dX11_build_213 (by decide) (fun c213 => ?_) (fun c213 => ?_)
          · refine ae_aload_n (pc := 221) dX11_build_221 rfl ?_
            refine ae_getR (pc := 222) (k := 33) (c := 11) (j := 0) (q := 34) dX11_build_222 rfl rfl (Nat.le_of_ble_eq_true rfl) rfl (Nat.le_of_ble_eq_true rfl) rfl ?_
            refine ae_sipush (pc := 225) (v := nI 258) dX11_build_225 (by decide) ?_
            refine ae_iaload (pc := 228) (k := 34) (N := 549) (v := nI (fN g + k)) (258) dX11_build_228 (Nat.le_of_ble_eq_true rfl) rfl rfl rfl (by omega) (by rw [rw34_34, w1.2.2.1, w2]) ?_
            refine ae_ireturn (pc := 229) dX11_build_229 rfl ?_
            exact ⟨g, T, hK, by rw [hnb], nh, h, m, k, bx, by rw [hN0, hnb, hc]⟩
          · exact absurd (nI_le (Nat.zero_le a) (by omega)) c213
        · have hk2 : k < nb := by rw [nI_leI (by omega) (by omega)] at c189; omega
          have hme := sm_meanOf (d + 3) (rw34 (spM N0 nb bx) (adA g c k)) nh (by rw [r33, upd_ne _ _ (by decide), n7]) (by omega) (cnA g) (by rw [rw34_ne _ _ (by decide), rw34_ne _ _ (by decide), spM_ne _ _ _ (by decide), spM_ne _ _ _ (by decide), n37, n38]; exact fun i hi => ⟨(hcm i hi).1, (hcm i hi).2.2⟩) k (by rw [rw34_ne _ _ (by decide), rw34_ne _ _ (by decide), spM_ne _ _ _ (by decide), spM_45, n37, lS_perm (hbx k hk2)]; exact (BI_pos hbi hk2).1)
          rw [rw34_ne _ _ (show (37 : Nat) ≠ 34 by decide), rw34_ne _ _ (show (45 : Nat) ≠ 34 by decide), spM_ne _ _ _ (by decide), spM_45, n37, lMe_perm (hbx k hk2), ← hcb k] at hme
          have had := sm_adds (d + 4) (rw34 (spM N0 nb bx) (adA g c k)) (by rw [rw34_34]; exact w1) (c k) (nI 0) (by rw [rw34_34, w2]; omega)
          rw [rw34_34, rw34_rw, ← adA_s] at had
          refine ae_aload_n (pc := 192) dX11_build_192 rfl ?_
          refine ae_aload_n (pc := 193) dX11_build_193 rfl ?_
          refine ae_iload (pc := 194) dX11_build_194 rfl ?_
          refine ae_pcallV (pc := 196) (z := zX11_meanOf) (k := 33) (As := [_]) dX11_build_196 rfl rfl rfl rfl (Nat.le_of_ble_eq_true rfl) rfl (Nat.le_of_ble_eq_true rfl) (Nat.le_of_ble_eq_true rfl) (hme) ?_
          refine ae_iconst (pc := 199) (v := nI 0) dX11_build_199 (by decide) ?_
          refine ae_callV (pc := 200) (z := zX11_adds) (k := 33) (As := [_, _]) dX11_build_200 rfl rfl rfl rfl (Nat.le_of_ble_eq_true rfl) rfl (Nat.le_of_ble_eq_true rfl) (Nat.le_of_ble_eq_true rfl) (had) (fun v M' hq => ?_)
          obtain ⟨rfl, rfl⟩ := hq
          refine ae_istore (pc := 203) dX11_build_203 rfl (Nat.le_of_ble_eq_true rfl) ?_
          refine ae_iinc (pc := 205) (v := nI (k + 1)) dX11_build_205 rfl (nI_inc k) ?_
          refine ae_goto (pc := 208) (t := 183) dX11_build_208 (by decide) ?_
          exact ih hk2 _ (by omega)
      exact lp (fN g) hg.2.2.2
    have loop : ∀ k nb bx B, lRn (cnA g) r (n - fN g) k nb B = bldR g r (n - fN g) → n - fN g ≤ nb + k → nb ≤ n - fN g → BI (cnA g) nb B → (∀ q, q < nb → List.Perm (bL h bx q nh) (B q)) → (∀ q, nb ≤ q → q < 2 ^ 31 → bL h bx q nh = [] ∨ nb = 0) → am_E none (am_R (d + 5)) cX11_build 11 (some .int) (fun v M' => ∃ g T, KE (kpF (M.1 34) 1) (fN (M.1 34)) 0 g T ∧ v = some (.int (nI (fN g + (bldR g r (n - fN g)).1))) ∧ ∃ nh h m nb bx, M' = rw34 (spM (gaM (rw34 (kpM M u 1) g) nh h m) nb bx) (adA g (fun b => lMe (cnA g) ((bldR g r (n - fN g)).2 b) 3) (bldR g r (n - fN g)).1)) (134, [some (.ref 33), some (.int (nI n)), some (.int (nI r)), some (.int (nI (n - fN g))), none, none], [], spM N0 nb bx) := by
      intro k
      induction k with
      | zero =>
        intro nb bx B hR hk hk2 hbi hbx he
        have b1 : (bldR g r (n - fN g)).1 = nb := by rw [← hR]; rfl
        have b2 : (bldR g r (n - fN g)).2 = B := by rw [← hR]; rfl
        have hlast := last bx (by rw [b1, b2]; exact hbx) (by rw [b1, b2]; exact hbi) (by rw [b1]; exact hk2)
        rw [b1] at hlast
        have s16 : (spM N0 nb bx).1 33 16 = nI nb := by rw [spM_33, upd_self]
        refine ae_aload_n (pc := 134) dX11_build_134 rfl ?_
        refine ae_getI (pc := 135) (k := 33) (c := 11) (j := 16) (v := nI nb) dX11_build_135 rfl rfl (Or.inl rfl) (Nat.le_of_ble_eq_true rfl) rfl (Nat.le_of_ble_eq_true rfl) s16 ?_
        refine ae_if_le (pc := 138) (t := 170) dX11_build_138 (by decide) (fun c138 => ?_) (fun c138 => ?_)
        · exact hlast
        · refine ae_aload_n (pc := 141) dX11_build_141 rfl ?_
          refine ae_getI (pc := 142) (k := 33) (c := 11) (j := 16) (v := nI nb) dX11_build_142 rfl rfl (Or.inl rfl) (Nat.le_of_ble_eq_true rfl) rfl (Nat.le_of_ble_eq_true rfl) s16 ?_
          refine ae_iload_n (pc := 145) dX11_build_145 rfl ?_
          refine ae_icmp_ge (pc := 146) (t := 170) dX11_build_146 (by decide) (fun c146 => ?_) (fun c146 => ?_)
          · exact hlast
          · exact absurd ((nI_leI (by omega) (by omega)).mpr (by omega)) c146
      | succ k ihk =>
        intro nb bx B hR hk hk2 hbi hbx he
        have s16 : (spM N0 nb bx).1 33 16 = nI nb := by rw [spM_33, upd_self]
        have s7 : (spM N0 nb bx).1 33 7 = nI nh := by rw [spM_33, upd_ne _ _ (by decide), n7]
        have s37 : (spM N0 nb bx).1 37 = h := by rw [spM_ne _ _ _ (by decide), n37]
        have s38 : (spM N0 nb bx).1 38 = m := by rw [spM_ne _ _ _ (by decide), n38]
        rw [lRn_s] at hR
        have hstop : (nb, B) = bldR g r (n - fN g) → am_E none (am_R (d + 5)) cX11_build 11 (some .int) (fun v M' => ∃ g T, KE (kpF (M.1 34) 1) (fN (M.1 34)) 0 g T ∧ v = some (.int (nI (fN g + (bldR g r (n - fN g)).1))) ∧ ∃ nh h m nb bx, M' = rw34 (spM (gaM (rw34 (kpM M u 1) g) nh h m) nb bx) (adA g (fun b => lMe (cnA g) ((bldR g r (n - fN g)).2 b) 3) (bldR g r (n - fN g)).1)) (170, [some (.ref 33), some (.int (nI n)), some (.int (nI r)), some (.int (nI (n - fN g))), none, none], [], spM N0 nb bx) := by
          intro hR2
          have b1 : (bldR g r (n - fN g)).1 = nb := by rw [← hR2]
          have b2 : (bldR g r (n - fN g)).2 = B := by rw [← hR2]
          have hlast := last bx (by rw [b1, b2]; exact hbx) (by rw [b1, b2]; exact hbi) (by rw [b1]; exact hk2)
          rwa [b1] at hlast
        by_cases hlt : nb < n - fN g
        · rw [if_pos hlt] at hR
          have hgr := sm_greatest d (spM N0 nb bx) nh s7 (by omega) (cnA g) (by rw [s37, s38]; exact fun i hi => ⟨(hcm i hi).1, (hcm i hi).2.2⟩) nb s16 (by omega) r hr
          rw [s37, spM_45, lGr_perm (C := B) hbx] at hgr
          cases hx : lGr (cnA g) r B nb with
          | none =>
            rw [hx] at hR hgr
            have := hstop hR
            refine ae_aload_n (pc := 134) dX11_build_134 rfl ?_
            refine ae_getI (pc := 135) (k := 33) (c := 11) (j := 16) (v := nI nb) dX11_build_135 rfl rfl (Or.inl rfl) (Nat.le_of_ble_eq_true rfl) rfl (Nat.le_of_ble_eq_true rfl) s16 ?_
            refine ae_if_le (pc := 138) (t := 170) dX11_build_138 (by decide) (fun c138 => ?_) (fun c138 => ?_)
            · exact this
            · refine ae_aload_n (pc := 141) dX11_build_141 rfl ?_
              refine ae_getI (pc := 142) (k := 33) (c := 11) (j := 16) (v := nI nb) dX11_build_142 rfl rfl (Or.inl rfl) (Nat.le_of_ble_eq_true rfl) rfl (Nat.le_of_ble_eq_true rfl) s16 ?_
              refine ae_iload_n (pc := 145) dX11_build_145 rfl ?_
              refine ae_icmp_ge (pc := 146) (t := 170) dX11_build_146 (by decide) (fun c146 => ?_) (fun c146 => ?_)
              · exact this
              · refine ae_aload_n (pc := 149) dX11_build_149 rfl ?_
                refine ae_iload_n (pc := 150) dX11_build_150 rfl ?_
                refine ae_pcallV (pc := 151) (z := zX11_greatest) (k := 33) (As := [_]) dX11_build_151 rfl rfl rfl rfl (Nat.le_of_ble_eq_true rfl) rfl (Nat.le_of_ble_eq_true rfl) (Nat.le_of_ble_eq_true rfl) (hgr) ?_
                refine ae_iconst (pc := 154) (v := (-1)) dX11_build_154 (by decide) ?_
                refine ae_icmp_eq (pc := 155) (t := 170) dX11_build_155 (by decide) (fun c155 => ?_) (fun c155 => ?_)
                · exact this
                · exact absurd rfl c155
          | some b =>
            rw [hx] at hR hgr
            dsimp only at hR
            obtain ⟨b1, b2⟩ := lGr_lt hx
            have hsp := sm_splits (d + 1) (spM N0 nb bx) nh s7 (by omega) (cnA g) (by rw [s37, s38]; exact hcm) nb s16 (by omega) (by rw [s37]; exact ga.2.2.1) b b1 (by rw [s37, spM_45, (hbx b b1).length_eq]; exact b2) (by rw [s37, spM_45]; exact (he nb (Nat.le_refl nb) (by omega)).resolve_right (by omega))
            rw [s37, spM_45] at hsp
            have hpos : ¬ nI nb ≤ 0 := by rw [show (0 : Int32) = nI 0 from rfl, nI_leI (by omega) (by omega)]; omega
            refine ae_aload_n (pc := 134) dX11_build_134 rfl ?_
            refine ae_getI (pc := 135) (k := 33) (c := 11) (j := 16) (v := nI nb) dX11_build_135 rfl rfl (Or.inl rfl) (Nat.le_of_ble_eq_true rfl) rfl (Nat.le_of_ble_eq_true rfl) s16 ?_
            refine ae_if_le (pc := 138) (t := 170) dX11_build_138 (by decide) (fun c138 => ?_) (fun c138 => ?_)
            · exact absurd c138 hpos
            refine ae_aload_n (pc := 141) dX11_build_141 rfl ?_
            refine ae_getI (pc := 142) (k := 33) (c := 11) (j := 16) (v := nI nb) dX11_build_142 rfl rfl (Or.inl rfl) (Nat.le_of_ble_eq_true rfl) rfl (Nat.le_of_ble_eq_true rfl) s16 ?_
            refine ae_iload_n (pc := 145) dX11_build_145 rfl ?_
            refine ae_icmp_ge (pc := 146) (t := 170) dX11_build_146 (by decide) (fun c146 => ?_) (fun c146 => ?_)
            · exact absurd ((nI_leI (by omega) (by omega)).mp c146) (by omega)
            refine ae_aload_n (pc := 149) dX11_build_149 rfl ?_
            refine ae_iload_n (pc := 150) dX11_build_150 rfl ?_
            refine ae_pcallV (pc := 151) (z := zX11_greatest) (k := 33) (As := [_]) dX11_build_151 rfl rfl rfl rfl (Nat.le_of_ble_eq_true rfl) rfl (Nat.le_of_ble_eq_true rfl) (Nat.le_of_ble_eq_true rfl) (hgr) ?_
            refine ae_iconst (pc := 154) (v := (-1)) dX11_build_154 (by decide) ?_
            refine ae_icmp_eq (pc := 155) (t := 170) dX11_build_155 (by decide) (fun c155 => ?_) (fun c155 => ?_)
            · exact absurd c155 (nI_ne1 (by omega))
            refine ae_aload_n (pc := 158) dX11_build_158 rfl ?_
            refine ae_aload_n (pc := 159) dX11_build_159 rfl ?_
            refine ae_iload_n (pc := 160) dX11_build_160 rfl ?_
            refine ae_pcallV (pc := 161) (z := zX11_greatest) (k := 33) (As := [_]) dX11_build_161 rfl rfl rfl rfl (Nat.le_of_ble_eq_true rfl) rfl (Nat.le_of_ble_eq_true rfl) (Nat.le_of_ble_eq_true rfl) (hgr) ?_
            skip
            refine ae_callV (pc := 164) (z := zX11_splits) (k := 33) (As := [_]) dX11_build_164 rfl rfl rfl rfl (Nat.le_of_ble_eq_true rfl) rfl (Nat.le_of_ble_eq_true rfl) (Nat.le_of_ble_eq_true rfl) (hsp) (fun v M' hq => ?_)
            obtain ⟨rfl, bx', rfl, q1, q2⟩ := hq
            rw [spM_sp]
            refine ae_goto (pc := 167) (t := 134) dX11_build_167 (by decide) ?_
            skip
            refine ihk (nb + 1) bx' (lSt (cnA g) B nb b) hR (by omega) (by omega) (BI_st hbi b1 b2) (fun q hq => (q1 q hq).trans ?_) (fun q e1 e2 => Or.inl ?_)
            · exact lSt_perm (B := fun b => bL h bx b nh) (bL_nodup ga.2.2.1) b1 hbx q hq
            · rw [q2 q (by omega) e2]
              exact (he q (by omega) e2).resolve_right (by omega)
        · rw [if_neg hlt] at hR
          have := hstop hR
          refine ae_aload_n (pc := 134) dX11_build_134 rfl ?_
          refine ae_getI (pc := 135) (k := 33) (c := 11) (j := 16) (v := nI nb) dX11_build_135 rfl rfl (Or.inl rfl) (Nat.le_of_ble_eq_true rfl) rfl (Nat.le_of_ble_eq_true rfl) s16 ?_
          refine ae_if_le (pc := 138) (t := 170) dX11_build_138 (by decide) (fun c138 => ?_) (fun c138 => ?_)
          · exact this
          · refine ae_aload_n (pc := 141) dX11_build_141 rfl ?_
            refine ae_getI (pc := 142) (k := 33) (c := 11) (j := 16) (v := nI nb) dX11_build_142 rfl rfl (Or.inl rfl) (Nat.le_of_ble_eq_true rfl) rfl (Nat.le_of_ble_eq_true rfl) s16 ?_
            refine ae_iload_n (pc := 145) dX11_build_145 rfl ?_
            refine ae_icmp_ge (pc := 146) (t := 170) dX11_build_146 (by decide) (fun c146 => ?_) (fun c146 => ?_)
            · exact this
            · exact absurd ((nI_leI (by omega) (by omega)).mpr (by omega)) c146
    have box0 : ∀ nb0, nb0 = (if 0 < (colL g (exF g (nI 1)) (fA g)).length ∧ 0 < n - fN g then 1 else 0) → am_E none (am_R (d + 5)) cX11_build 11 (some .int) (fun v M' => ∃ g T, KE (kpF (M.1 34) 1) (fN (M.1 34)) 0 g T ∧ v = some (.int (nI (fN g + (bldR g r (n - fN g)).1))) ∧ ∃ nh h m nb bx, M' = rw34 (spM (gaM (rw34 (kpM M u 1) g) nh h m) nb bx) (adA g (fun b => lMe (cnA g) ((bldR g r (n - fN g)).2 b) 3) (bldR g r (n - fN g)).1)) (111, [some (.ref 33), some (.int (nI n)), some (.int (nI r)), some (.int (nI (n - fN g))), some (.int (nI 0)), none], [], spM N0 nb0 (stF (N0.1 45) 0 0 (fun _ => nI 0))) := by
      intro nb0 hnb0
      refine am_down (P := fun k => am_E none (am_R (d + 5)) cX11_build 11 (some .int) _ (111, [some (.ref 33), some (.int (nI n)), some (.int (nI r)), some (.int (nI (n - fN g))), some (.int (nI k)), none], [], spM N0 nb0 (stF (N0.1 45) 0 k (fun _ => nI 0)))) nh (fun k hk ih => ?_)
      have s7 : (spM N0 nb0 (stF (N0.1 45) 0 k (fun _ => nI 0))).1 33 7 = nI nh := by rw [spM_33, upd_ne _ _ (by decide), n7]
      refine ae_iload (pc := 111) dX11_build_111 rfl ?_
      refine ae_aload_n (pc := 113) dX11_build_113 rfl ?_
      refine ae_getI (pc := 114) (k := 33) (c := 11) (j := 7) (v := nI nh) dX11_build_114 rfl rfl (Or.inl rfl) (Nat.le_of_ble_eq_true rfl) rfl (Nat.le_of_ble_eq_true rfl) s7 ?_
      refine ae_icmp_ge (pc := 117) (t := 134) dX11_build_117 (by decide) (fun c117 => ?_) (fun c117 => ?_)
      · have hk2 : k = nh := by rw [nI_leI (by omega) (by omega)] at c117; omega
        subst hk2
        have hb0 : ∀ i, i < k → stF (N0.1 45) 0 k (fun _ => nI 0) i = nI 0 := by
          intro i hi
          have := st_in (N0.1 45) (a := 0) (k := k) (p := i) (fun _ => nI 0) hi
          rwa [Nat.zero_add] at this
        have hpm := GA_perm ga hb0
        refine ae_forget [4] rfl (loop 16 nb0 _ (fun _ => colL g (exF g (nI 1)) (fA g)) ?_ (by omega) ?_ ?_ ?_ ?_)
        · unfold bldR; rw [hnb0]
        · rw [hnb0]; split <;> omega
        · intro b hb
          have hb1 : 0 < (colL g (exF g (nI 1)) (fA g)).length ∧ 0 < n - fN g := by
            rw [hnb0] at hb; split at hb
            · assumption
            · omega
          refine ⟨colL_nodup _ _ _, hb1.1, Nat.le_trans (colL_len _ _ _) hgA.2, fun c hc => ?_⟩
          obtain ⟨-, -, q, q1, q2⟩ := colL_mem.mp hc
          exact ⟨cnC_pos q1 q2, Nat.le_trans (cnC_le _ _ _) hgA.2⟩
        · intro q hq
          have : q = 0 := by rw [hnb0] at hq; split at hq <;> omega
          subst this
          exact hpm
        · intro q hq hq2
          by_cases hz : nb0 = 0
          · exact Or.inr hz
          · exact Or.inl (bL_nil hb0 (by omega) hq2)
      · have hk2 : k < nh := by rw [nI_leI (by omega) (by omega)] at c117; omega
        refine ae_aload_n (pc := 120) dX11_build_120 rfl ?_
        refine ae_getR (pc := 121) (k := 33) (c := 11) (j := 15) (q := 45) dX11_build_121 rfl rfl (Nat.le_of_ble_eq_true rfl) rfl (Nat.le_of_ble_eq_true rfl) rfl ?_
        refine ae_iload (pc := 124) dX11_build_124 rfl ?_
        refine ae_iconst (pc := 126) (v := nI 0) dX11_build_126 (by decide) ?_
        refine ae_iastore (pc := 127) (k := 45) (N := 256) (k) dX11_build_127 (Nat.le_of_ble_eq_true rfl) rfl rfl rfl (by omega) rfl ?_
        refine ae_iinc (pc := 128) (v := nI (k + 1)) dX11_build_128 rfl (nI_inc k) ?_
        refine ae_goto (pc := 131) (t := 111) dX11_build_131 (by decide) ?_
        refine ae_M ?_ (ih hk2)
        rw [spM_45, ← st_s, Nat.zero_add]
        unfold spM
        simp only [am_u_u]
    have hcl : (colL g (exF g (nI 1)) (fA g)).length = nh := by
      rw [← (GA_perm (bx := fun _ => nI 0) ga (fun i hi => rfl)).length_eq]
      exact bL_all (fun i hi => rfl)
    have e00 : ∀ nb0, ((am_u N0.1 33 (upd (N0.1 33) 16 (nI nb0)), N0.2) : am_M) = spM N0 nb0 (stF (N0.1 45) 0 0 (fun _ => nI 0)) := by
      intro nb0
      rw [st_0]
      unfold spM
      refine Prod.ext (funext fun q => ?_) rfl
      simp only [am_u]
      by_cases h4 : q = 45 <;> by_cases h3 : q = 33 <;> simp_all
    refine ae_aload_n (pc := 88) dX11_build_88 rfl ?_
    refine ae_aload_n (pc := 89) dX11_build_89 rfl ?_
    refine ae_getI (pc := 90) (k := 33) (c := 11) (j := 7) (v := nI nh) dX11_build_90 rfl rfl (Or.inl rfl) (Nat.le_of_ble_eq_true rfl) rfl (Nat.le_of_ble_eq_true rfl) n7 ?_
    refine ae_if_le (pc := 93) (t := 104) dX11_build_93 (by decide) (fun c93 => ?_) (fun c93 => ?_)
    · refine ae_iconst (pc := 104) (v := nI 0) dX11_build_104 (by decide) ?_
      refine ae_putfield (pc := 105) (k := 33) (c := 11) (j := 16) dX11_build_105 rfl rfl (Nat.le_of_ble_eq_true rfl) rfl (Nat.le_of_ble_eq_true rfl) rfl rfl ?_
      refine ae_iconst (pc := 108) (v := nI 0) dX11_build_108 (by decide) ?_
      refine ae_istore (pc := 109) dX11_build_109 rfl (Nat.le_of_ble_eq_true rfl) ?_
      first | exact ae_M (e00 0) (box0 0 (by rw [show (0 : Int32) = nI 0 from rfl, nI_leI (by omega) (by omega)] at c93; rw [if_neg (fun q => by have := q.1; omega)])) | exact ae_M (e00 0) (box0 0 (by rw [show (0 : Int32) = nI 0 from rfl, nI_leI (by omega) (by omega)] at c97; rw [if_neg (fun q => by have := q.2; omega)])) | exact ae_M (e00 1) (box0 1 (by rw [show (0 : Int32) = nI 0 from rfl, nI_leI (by omega) (by omega)] at c93 c97; rw [if_pos (And.intro (by omega) (by omega))]))
    · refine ae_iload_n (pc := 96) dX11_build_96 rfl ?_
      refine ae_if_le (pc := 97) (t := 104) dX11_build_97 (by decide) (fun c97 => ?_) (fun c97 => ?_)
      · refine ae_iconst (pc := 104) (v := nI 0) dX11_build_104 (by decide) ?_
        refine ae_putfield (pc := 105) (k := 33) (c := 11) (j := 16) dX11_build_105 rfl rfl (Nat.le_of_ble_eq_true rfl) rfl (Nat.le_of_ble_eq_true rfl) rfl rfl ?_
        refine ae_iconst (pc := 108) (v := nI 0) dX11_build_108 (by decide) ?_
        refine ae_istore (pc := 109) dX11_build_109 rfl (Nat.le_of_ble_eq_true rfl) ?_
        first | exact ae_M (e00 0) (box0 0 (by rw [show (0 : Int32) = nI 0 from rfl, nI_leI (by omega) (by omega)] at c93; rw [if_neg (fun q => by have := q.1; omega)])) | exact ae_M (e00 0) (box0 0 (by rw [show (0 : Int32) = nI 0 from rfl, nI_leI (by omega) (by omega)] at c97; rw [if_neg (fun q => by have := q.2; omega)])) | exact ae_M (e00 1) (box0 1 (by rw [show (0 : Int32) = nI 0 from rfl, nI_leI (by omega) (by omega)] at c93 c97; rw [if_pos (And.intro (by omega) (by omega))]))
      · refine ae_iconst (pc := 100) (v := nI 1) dX11_build_100 (by decide) ?_
        refine ae_goto (pc := 101) (t := 105) dX11_build_101 (by decide) ?_
        refine ae_putfield (pc := 105) (k := 33) (c := 11) (j := 16) dX11_build_105 rfl rfl (Nat.le_of_ble_eq_true rfl) rfl (Nat.le_of_ble_eq_true rfl) rfl rfl ?_
        refine ae_iconst (pc := 108) (v := nI 0) dX11_build_108 (by decide) ?_
        refine ae_istore (pc := 109) dX11_build_109 rfl (Nat.le_of_ble_eq_true rfl) ?_
        first | exact ae_M (e00 0) (box0 0 (by rw [show (0 : Int32) = nI 0 from rfl, nI_leI (by omega) (by omega)] at c93; rw [if_neg (fun q => by have := q.1; omega)])) | exact ae_M (e00 0) (box0 0 (by rw [show (0 : Int32) = nI 0 from rfl, nI_leI (by omega) (by omega)] at c97; rw [if_neg (fun q => by have := q.2; omega)])) | exact ae_M (e00 1) (box0 1 (by rw [show (0 : Int32) = nI 0 from rfl, nI_leI (by omega) (by omega)] at c93 c97; rw [if_pos (And.intro (by omega) (by omega))]))
  have back : ∀ e, e ≤ fN (M.1 34) → ∀ g T, KE (kpF (M.1 34) 1) (fN (M.1 34)) e g T → am_E none (am_R (d + 5)) cX11_build 11 (some .int) (fun v M' => ∃ g T, KE (kpF (M.1 34) 1) (fN (M.1 34)) 0 g T ∧ v = some (.int (nI (fN g + (bldR g r (n - fN g)).1))) ∧ ∃ nh h m nb bx, M' = rw34 (spM (gaM (rw34 (kpM M u 1) g) nh h m) nb bx) (adA g (fun b => lMe (cnA g) ((bldR g r (n - fN g)).2 b) 3) (bldR g r (n - fN g)).1)) (49, [some (.ref 33), some (.int (nI n)), some (.int (nI r)), some (.int (nI e - nI 1)), none, none], [], rw34 (kpM M u 1) g) := by
    intro e
    induction e with
    | zero =>
      intro _ g T hK
      refine ae_iload_n (pc := 49) dX11_build_49 rfl ?_
      refine ae_if_lt (pc := 50) (t := 72) dX11_build_50 (by decide) (fun c50 => ?_) (fun c50 => ?_)
      · exact ae_forget [3] rfl (behind g T hK)
      · exact absurd (by decide) c50
    | succ e ihe =>
      intro he g T hK
      have e1 : nI (e + 1) - nI 1 = nI e := nI_sub (by omega)
      rw [e1]
      have hge : ¬ nI e < 0 := Int32.not_lt.mpr (nI_le (Nat.zero_le e) (by omega))
      have hdec : nI e + Int32.ofInt (-1) = nI e - nI 1 := by rw [Int32.sub_eq_add_neg]; rfl
      have hlk := sm_isLocked (d + 4) (rw34 (kpM M u 1) g) e (by omega)
      rw [rw34_34, (hK.2.2.1 e (by omega)).2] at hlk
      have hgN : fN g = e + 1 + T.length := fN_of hK.2.1.1 (by have := hK.2.1.2; omega)
      by_cases hlo : kpF (M.1 34) 1 (275 + e) = 1
      · rw [bI_t hlo] at hlk
        refine ae_iload_n (pc := 49) dX11_build_49 rfl ?_
        refine ae_if_lt (pc := 50) (t := 72) dX11_build_50 (by decide) (fun c50 => ?_) (fun c50 => ?_)
        · exact absurd c50 hge
        refine ae_aload_n (pc := 53) dX11_build_53 rfl ?_
        refine ae_iload_n (pc := 54) dX11_build_54 rfl ?_
        refine ae_pcallV (pc := 55) (z := zX11_isLocked) (k := 33) (As := [_]) dX11_build_55 rfl rfl rfl rfl (Nat.le_of_ble_eq_true rfl) rfl (Nat.le_of_ble_eq_true rfl) (Nat.le_of_ble_eq_true rfl) (hlk) ?_
        refine ae_if_ne (pc := 58) (t := 66) dX11_build_58 (by decide) (fun c58 => ?_) (fun c58 => ?_)
        · refine ae_iinc (pc := 66) (v := nI e - nI 1) dX11_build_66 rfl hdec ?_
          refine ae_goto (pc := 69) (t := 49) dX11_build_69 (by decide) ?_
          exact ihe (by omega) g _ (KE_t hK hlo)
        · exact absurd (Classical.not_not.mp c58) (by decide)
      · rw [bI_f hlo] at hlk
        have hg : wf0 g := by
          have e0 : g 0 = kpF (M.1 34) 1 0 := hK.1 0 (by omega)
          have e1 : g 1 = kpF (M.1 34) 1 1 := hK.1 1 (by omega)
          refine ⟨?_, ?_, ?_, ?_⟩
          · unfold fW; rw [e0]; exact kf1.1
          · unfold fH; rw [e1]; exact kf1.2.1
          · rw [hgN]; exact hK.2.1.1
          · rw [hgN]; exact hK.2.1.2
        have hrm := sm_removes (d + 4) (rw34 (kpM M u 1) g) (by rw [rw34_34]; exact hg) e (by rw [rw34_34, hgN]; omega)
        rw [rw34_34, rw34_rw, show fN g - 1 - e = T.length by omega] at hrm
        refine ae_iload_n (pc := 49) dX11_build_49 rfl ?_
        refine ae_if_lt (pc := 50) (t := 72) dX11_build_50 (by decide) (fun c50 => ?_) (fun c50 => ?_)
        · exact absurd c50 hge
        refine ae_aload_n (pc := 53) dX11_build_53 rfl ?_
        refine ae_iload_n (pc := 54) dX11_build_54 rfl ?_
        refine ae_pcallV (pc := 55) (z := zX11_isLocked) (k := 33) (As := [_]) dX11_build_55 rfl rfl rfl rfl (Nat.le_of_ble_eq_true rfl) rfl (Nat.le_of_ble_eq_true rfl) (Nat.le_of_ble_eq_true rfl) (hlk) ?_
        refine ae_if_ne (pc := 58) (t := 66) dX11_build_58 (by decide) (fun c58 => ?_) (fun c58 => ?_)
        · exact absurd rfl c58
        refine ae_aload_n (pc := 61) dX11_build_61 rfl ?_
        refine ae_iload_n (pc := 62) dX11_build_62 rfl ?_
        refine ae_callV (pc := 63) (z := zX11_removes) (k := 33) (As := [_]) dX11_build_63 rfl rfl rfl rfl (Nat.le_of_ble_eq_true rfl) rfl (Nat.le_of_ble_eq_true rfl) (Nat.le_of_ble_eq_true rfl) (hrm) (fun v M' hq => ?_)
        obtain ⟨rfl, rfl⟩ := hq
        refine ae_iinc (pc := 66) (v := nI e - nI 1) dX11_build_66 rfl hdec ?_
        refine ae_goto (pc := 69) (t := 49) dX11_build_69 (by decide) ?_
        exact ihe (by omega) _ T (KE_f hK hlo)
  have hi := KE_i kf1
  rw [kf4] at hi
  exact back _ (Nat.le_refl _) _ _ hi

