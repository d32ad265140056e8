theorem sm_load0 (d : Nat) (M : am_M) (n : Nat) (hn : M.1 33 4 = nI n) (hn2 : n ≤ 140) (hp : (prs (M.1 36) n n 0 0 (M.1 43) (M.1 44)).1 ≠ -1) : am_R (d + 5) zX11_load [.ref 33] M (fun v M' => v = some (.int (-3)) ∧ M' = flM M (prs (M.1 36) n n 0 0 (M.1 43) (M.1 44)).2.1 (prs (M.1 36) n n 0 0 (M.1 43) (M.1 44)).2.2.1 (prs (M.1 36) n n 0 0 (M.1 43) (M.1 44)).2.2.2) := by
  refine ae_enter (z := zX11_load) (y := yX11_load) (cc := cX11_load) (mL := 2) (rt := some .int) (ci := 11) (st := false) (np := 0) (L := [some (.ref 33), none]) rfl (by decide) (Nat.le_of_ble_eq_true rfl) rfl ?_
  refine ae_aload_n (pc := 0) dX11_load_0 rfl ?_
  refine ae_callV (pc := 1) (z := zX11_fault) (k := 33) (As := []) dX11_load_1 rfl rfl rfl rfl (Nat.le_of_ble_eq_true rfl) rfl (Nat.le_of_ble_eq_true rfl) (Nat.le_of_ble_eq_true rfl) (sm_fault d M n hn hn2) (fun v M' hq => ?_)
  obtain ⟨rfl, rfl⟩ := hq
  refine ae_iconst (pc := 4) (v := (-1)) dX11_load_4 (by decide) ?_
  refine ae_icmp_eq (pc := 5) (t := 11) dX11_load_5 (by decide) (fun c5 => ?_) (fun c5 => ?_)
  · exact absurd c5 hp
  · refine ae_bipush (pc := 8) (v := (-3)) dX11_load_8 (by decide) ?_
    refine ae_ireturn (pc := 10) dX11_load_10 rfl ?_
    exact ⟨rfl, rfl⟩
theorem sm_load (d : Nat) (M : am_M) (u : Nat) (hu : M.1 33 2 = nI u) (hu2 : u ≤ 10) (n : Nat) (hn : M.1 33 4 = nI n) (hn2 : n ≤ 140) (r : Nat) (rc rl : fT) (hp : prs (M.1 36) n n 0 0 (M.1 43) (M.1 44) = (-1, r, rc, rl)) : am_R (d + 5) zX11_load [.ref 33] M (fun v M' => v = some (.int (nI r)) ∧ M' = (am_u (rw34 (kpM (flM M r rc rl) u 1) (ldF (kpF (M.1 34) 1) rc rl r)).1 33 (upd (upd (upd (M.1 33) 14 (nI r)) 2 (nI (kpN u))) 4 (nI 0)), M.2)) := by
  refine ae_enter (z := zX11_load) (y := yX11_load) (cc := cX11_load) (mL := 2) (rt := some .int) (ci := 11) (st := false) (np := 0) (L := [some (.ref 33), none]) rfl (by decide) (Nat.le_of_ble_eq_true rfl) rfl ?_
  have hr : r ≤ 16 := by have := prs_le (M.1 36) n n 0 0 (M.1 43) (M.1 44) (by omega); rw [hp] at this; exact this
  have hft := sm_fault d M n hn hn2
  rw [hp] at hft
  have e34 : (flM M r rc rl).1 34 = M.1 34 := flM_ne M r rc rl (by decide)
  refine ae_aload_n (pc := 0) dX11_load_0 rfl ?_
  refine ae_callV (pc := 1) (z := zX11_fault) (k := 33) (As := []) dX11_load_1 rfl rfl rfl rfl (Nat.le_of_ble_eq_true rfl) rfl (Nat.le_of_ble_eq_true rfl) (Nat.le_of_ble_eq_true rfl) (hft) (fun v M' hq => ?_)
  obtain ⟨rfl, rfl⟩ := hq
  refine ae_iconst (pc := 4) (v := (-1)) dX11_load_4 (by decide) ?_
  refine ae_icmp_eq (pc := 5) (t := 11) dX11_load_5 (by decide) (fun _ => ?_) (fun q => absurd rfl q)
  refine ae_aload_n (pc := 11) dX11_load_11 rfl ?_
  refine ae_iconst (pc := 12) (v := nI 1) dX11_load_12 (by decide) ?_
  refine ae_callV (pc := 13) (z := zX11_keeps) (k := 33) (As := [_]) dX11_load_13 rfl rfl rfl rfl (Nat.le_of_ble_eq_true rfl) rfl (Nat.le_of_ble_eq_true rfl) (Nat.le_of_ble_eq_true rfl) (sm_keeps (d + 3) (flM M r rc rl) u (by rw [flM_33, upd_ne _ _ (by decide)]; exact hu) hu2 _) (fun v M' hq => ?_)
  obtain ⟨rfl, rfl⟩ := hq
  refine ae_M (M' := rw34 (kpM (flM M r rc rl) u 1) (kpF (M.1 34) 1)) (by rw [← e34, ← kp34 (flM M r rc rl) u 1]; exact (rw34_eta _).symm) ?_
  have q33 : ∀ g, (rw34 (kpM (flM M r rc rl) u 1) g).1 33 = upd (upd (M.1 33) 14 (nI r)) 2 (nI (kpN u)) := fun g => by rw [rw34_ne _ _ (by decide), kpM_33, flM_33]
  have q14 : ∀ g, (rw34 (kpM (flM M r rc rl) u 1) g).1 33 14 = nI r := fun g => by rw [q33, upd_ne _ _ (by decide), upd_self]
  have q43 : ∀ g, (rw34 (kpM (flM M r rc rl) u 1) g).1 43 = rc := fun g => by rw [rw34_ne _ _ (by decide), kpM_ne _ _ _ (by decide), flM_43]
  have q44 : ∀ g, (rw34 (kpM (flM M r rc rl) u 1) g).1 44 = rl := fun g => by rw [rw34_ne _ _ (by decide), kpM_ne _ _ _ (by decide), flM_44]
  refine ae_aload_n (pc := 16) dX11_load_16 rfl ?_
  refine ae_getR (pc := 17) (k := 33) (c := 11) (j := 0) (q := 34) dX11_load_17 rfl rfl (Nat.le_of_ble_eq_true rfl) rfl (Nat.le_of_ble_eq_true rfl) rfl ?_
  refine ae_sipush (pc := 20) (v := nI 258) dX11_load_20 (by decide) ?_
  refine ae_iconst (pc := 23) (v := nI 0) dX11_load_23 (by decide) ?_
  refine ae_iastore (pc := 24) (k := 34) (N := 549) _ dX11_load_24 (Nat.le_of_ble_eq_true rfl) rfl rfl rfl (by omega) rfl ?_
  refine ae_M (rw34_upd _ _ _ _) ?_
  refine ae_iconst (pc := 25) (v := nI 0) dX11_load_25 (by decide) ?_
  refine ae_istore_n (pc := 26) dX11_load_26 rfl (Nat.le_of_ble_eq_true rfl) ?_
  skip
  refine ae_M (M' := rw34 (kpM (flM M r rc rl) u 1) (ldS (upd (kpF (M.1 34) 1) 258 (nI 0)) rc rl 0)) (by rw [ld_0]) ?_
  refine am_down (P := fun k => am_E none (am_R (d + 4)) cX11_load 11 (some .int) _ (27, [some (.ref 33), some (.int (nI k))], [], rw34 (kpM (flM M r rc rl) u 1) (ldS (upd (kpF (M.1 34) 1) 258 (nI 0)) rc rl k))) r (fun k hk ih => ?_)
  refine ae_iload_n (pc := 27) dX11_load_27 rfl ?_
  refine ae_aload_n (pc := 28) dX11_load_28 rfl ?_
  refine ae_getI (pc := 29) (k := 33) (c := 11) (j := 14) (v := nI r) dX11_load_29 rfl rfl (Or.inl rfl) (Nat.le_of_ble_eq_true rfl) rfl (Nat.le_of_ble_eq_true rfl) (q14 _) ?_
  refine ae_icmp_ge (pc := 32) (t := 73) dX11_load_32 (by decide) (fun c32 => ?_) (fun c32 => ?_)
  · have hk2 : k = r := by rw [nI_leI (by omega) (by omega)] at c32; omega
    subst hk2
    refine ae_aload_n (pc := 73) dX11_load_73 rfl ?_
    refine ae_getR (pc := 74) (k := 33) (c := 11) (j := 0) (q := 34) dX11_load_74 rfl rfl (Nat.le_of_ble_eq_true rfl) rfl (Nat.le_of_ble_eq_true rfl) rfl ?_
    refine ae_sipush (pc := 77) (v := nI 258) dX11_load_77 (by decide) ?_
    refine ae_aload_n (pc := 80) dX11_load_80 rfl ?_
    refine ae_getI (pc := 81) (k := 33) (c := 11) (j := 14) (v := nI k) dX11_load_81 rfl rfl (Or.inl rfl) (Nat.le_of_ble_eq_true rfl) rfl (Nat.le_of_ble_eq_true rfl) (q14 _) ?_
    refine ae_iastore (pc := 84) (k := 34) (N := 549) _ dX11_load_84 (Nat.le_of_ble_eq_true rfl) rfl rfl rfl (by omega) rfl ?_
    refine ae_M (rw34_upd _ _ _ _) ?_
    refine ae_aload_n (pc := 85) dX11_load_85 rfl ?_
    refine ae_iconst (pc := 86) (v := nI 0) dX11_load_86 (by decide) ?_
    refine ae_putfield (pc := 87) (k := 33) (c := 11) (j := 4) dX11_load_87 rfl rfl (Nat.le_of_ble_eq_true rfl) rfl (Nat.le_of_ble_eq_true rfl) rfl rfl ?_
    refine ae_aload_n (pc := 90) dX11_load_90 rfl ?_
    refine ae_getI (pc := 91) (k := 33) (c := 11) (j := 14) (v := nI k) dX11_load_91 rfl rfl (Or.inl rfl) (Nat.le_of_ble_eq_true rfl) rfl (Nat.le_of_ble_eq_true rfl) (by simp only [am_u_self]; rw [upd_ne _ _ (by decide)]; exact q14 _) ?_
    refine ae_ireturn (pc := 94) dX11_load_94 rfl ?_
    refine ⟨rfl, ?_⟩
    rw [q33]
    rfl
  · have hk2 : k < r := by rw [nI_leI (by omega) (by omega)] at c32; omega
    refine ae_aload_n (pc := 35) dX11_load_35 rfl ?_
    refine ae_getR (pc := 36) (k := 33) (c := 11) (j := 0) (q := 34) dX11_load_36 rfl rfl (Nat.le_of_ble_eq_true rfl) rfl (Nat.le_of_ble_eq_true rfl) rfl ?_
    refine ae_sipush (pc := 39) (v := nI 259) dX11_load_39 (by decide) ?_
    refine ae_iload_n (pc := 42) dX11_load_42 rfl ?_
    refine ae_iadd (pc := 43) dX11_load_43 (nI_add _ _) ?_
    refine ae_aload_n (pc := 44) dX11_load_44 rfl ?_
    refine ae_getR (pc := 45) (k := 33) (c := 11) (j := 12) (q := 43) dX11_load_45 rfl rfl (Nat.le_of_ble_eq_true rfl) rfl (Nat.le_of_ble_eq_true rfl) rfl ?_
    refine ae_iload_n (pc := 48) dX11_load_48 rfl ?_
    refine ae_iaload (pc := 49) (k := 43) (N := 16) (v := rc k) _ dX11_load_49 (Nat.le_of_ble_eq_true rfl) rfl rfl rfl (by omega) (by rw [q43]) ?_
    refine ae_iastore (pc := 50) (k := 34) (N := 549) _ dX11_load_50 (Nat.le_of_ble_eq_true rfl) rfl rfl rfl (by omega) rfl ?_
    refine ae_M (rw34_upd _ _ _ _) ?_
    refine ae_aload_n (pc := 51) dX11_load_51 rfl ?_
    refine ae_getR (pc := 52) (k := 33) (c := 11) (j := 0) (q := 34) dX11_load_52 rfl rfl (Nat.le_of_ble_eq_true rfl) rfl (Nat.le_of_ble_eq_true rfl) rfl ?_
    refine ae_sipush (pc := 55) (v := nI 275) dX11_load_55 (by decide) ?_
    refine ae_iload_n (pc := 58) dX11_load_58 rfl ?_
    refine ae_iadd (pc := 59) dX11_load_59 (nI_add _ _) ?_
    refine ae_aload_n (pc := 60) dX11_load_60 rfl ?_
    refine ae_getR (pc := 61) (k := 33) (c := 11) (j := 13) (q := 44) dX11_load_61 rfl rfl (Nat.le_of_ble_eq_true rfl) rfl (Nat.le_of_ble_eq_true rfl) rfl ?_
    refine ae_iload_n (pc := 64) dX11_load_64 rfl ?_
    refine ae_iaload (pc := 65) (k := 44) (N := 16) (v := rl k) _ dX11_load_65 (Nat.le_of_ble_eq_true rfl) rfl rfl rfl (by omega) (by rw [q44]) ?_
    refine ae_iastore (pc := 66) (k := 34) (N := 549) _ dX11_load_66 (Nat.le_of_ble_eq_true rfl) rfl rfl rfl (by omega) rfl ?_
    refine ae_M (rw34_upd _ _ _ _) ?_
    refine ae_iinc (pc := 67) (v := nI (k + 1)) dX11_load_67 rfl (nI_inc k) ?_
    refine ae_goto (pc := 70) (t := 27) dX11_load_70 (by decide) ?_
    exact ae_M (by rw [ld_s _ _ _ _ (by omega)]) (ih hk2)
theorem sm_keyOf_0 (d : Nat) (M : am_M) (e : Nat) (he : e < 16) (b : Int32) (bh : Option Nat) : am_R (d + 3) zX11_keyOf [.ref 33, .int (nI e), .int (nI 0), .int b] M (fun v M' => v = some (.int (keyF (M.1 34) (M.1 42) 0 bh e)) ∧ M' = M) := by
  refine ae_enter (z := zX11_keyOf) (y := yX11_keyOf) (cc := cX11_keyOf) (mL := 5) (rt := some .int) (ci := 11) (st := false) (np := 3) (L := [some (.ref 33), some (.int (nI e)), some (.int (nI 0)), some (.int b), none]) rfl (by decide) (Nat.le_of_ble_eq_true rfl) rfl ?_
  refine ae_aload_n (pc := 0) dX11_keyOf_0 rfl ?_
  refine ae_getR (pc := 1) (k := 33) (c := 11) (j := 0) (q := 34) dX11_keyOf_1 rfl rfl (Nat.le_of_ble_eq_true rfl) rfl (Nat.le_of_ble_eq_true rfl) rfl ?_
  refine ae_sipush (pc := 4) (v := nI 259) dX11_keyOf_4 (by decide) ?_
  refine ae_iload_n (pc := 7) dX11_keyOf_7 rfl ?_
  refine ae_iadd (pc := 8) dX11_keyOf_8 (nI_add _ _) ?_
  refine ae_iaload (pc := 9) (k := 34) (N := 549) _ dX11_keyOf_9 (Nat.le_of_ble_eq_true rfl) rfl rfl rfl (by omega) rfl ?_
  refine ae_istore (pc := 10) dX11_keyOf_10 rfl (Nat.le_of_ble_eq_true rfl) ?_
  refine ae_iload_n (pc := 12) dX11_keyOf_12 rfl ?_
  refine ae_if_ne (pc := 13) (t := 41) dX11_keyOf_13 (by decide) (fun q => absurd q (by decide)) (fun _ => ?_)
  refine ae_iconst (pc := 16) (v := nI 2) dX11_keyOf_16 (by decide) ?_
  refine ae_iload (pc := 17) dX11_keyOf_17 rfl ?_
  refine ae_iconst (pc := 19) (v := nI 0) dX11_keyOf_19 (by decide) ?_
  refine ae_pcallS (pc := 20) (z := zX11_channel) (As := [_, _]) dX11_keyOf_20 rfl rfl rfl rfl (Nat.le_of_ble_eq_true rfl) (sm_channel (d + 1) _ _ _) ?_
  refine ae_imul (pc := 23) dX11_keyOf_23 rfl ?_
  refine ae_iconst (pc := 24) (v := nI 5) dX11_keyOf_24 (by decide) ?_
  refine ae_iload (pc := 25) dX11_keyOf_25 rfl ?_
  refine ae_iconst (pc := 27) (v := nI 1) dX11_keyOf_27 (by decide) ?_
  refine ae_pcallS (pc := 28) (z := zX11_channel) (As := [_, _]) dX11_keyOf_28 rfl rfl rfl rfl (Nat.le_of_ble_eq_true rfl) (sm_channel (d + 1) _ _ _) ?_
  refine ae_imul (pc := 31) dX11_keyOf_31 rfl ?_
  refine ae_iadd (pc := 32) dX11_keyOf_32 rfl ?_
  refine ae_iload (pc := 33) dX11_keyOf_33 rfl ?_
  refine ae_iconst (pc := 35) (v := nI 2) dX11_keyOf_35 (by decide) ?_
  refine ae_pcallS (pc := 36) (z := zX11_channel) (As := [_, _]) dX11_keyOf_36 rfl rfl rfl rfl (Nat.le_of_ble_eq_true rfl) (sm_channel (d + 1) _ _ _) ?_
  refine ae_iadd (pc := 39) dX11_keyOf_39 rfl ?_
  refine ae_ireturn (pc := 40) dX11_keyOf_40 rfl ?_
  exact ⟨rfl, rfl⟩
theorem sm_keyOf_1 (d : Nat) (M : am_M) (e : Nat) (he : e < 16) (b : Int32) (bh : Option Nat) : am_R (d + 3) zX11_keyOf [.ref 33, .int (nI e), .int (nI 1), .int b] M (fun v M' => v = some (.int (keyF (M.1 34) (M.1 42) 1 bh e)) ∧ M' = M) := by
  refine ae_enter (z := zX11_keyOf) (y := yX11_keyOf) (cc := cX11_keyOf) (mL := 5) (rt := some .int) (ci := 11) (st := false) (np := 3) (L := [some (.ref 33), some (.int (nI e)), some (.int (nI 1)), some (.int b), none]) rfl (by decide) (Nat.le_of_ble_eq_true rfl) rfl ?_
  refine ae_aload_n (pc := 0) dX11_keyOf_0 rfl ?_
  refine ae_getR (pc := 1) (k := 33) (c := 11) (j := 0) (q := 34) dX11_keyOf_1 rfl rfl (Nat.le_of_ble_eq_true rfl) rfl (Nat.le_of_ble_eq_true rfl) rfl ?_
  refine ae_sipush (pc := 4) (v := nI 259) dX11_keyOf_4 (by decide) ?_
  refine ae_iload_n (pc := 7) dX11_keyOf_7 rfl ?_
  refine ae_iadd (pc := 8) dX11_keyOf_8 (nI_add _ _) ?_
  refine ae_iaload (pc := 9) (k := 34) (N := 549) _ dX11_keyOf_9 (Nat.le_of_ble_eq_true rfl) rfl rfl rfl (by omega) rfl ?_
  refine ae_istore (pc := 10) dX11_keyOf_10 rfl (Nat.le_of_ble_eq_true rfl) ?_
  refine ae_iload_n (pc := 12) dX11_keyOf_12 rfl ?_
  refine ae_if_ne (pc := 13) (t := 41) dX11_keyOf_13 (by decide) (fun _ => ?_) (fun q => absurd (by decide) q)
  refine ae_iload_n (pc := 41) dX11_keyOf_41 rfl ?_
  refine ae_iconst (pc := 42) (v := nI 1) dX11_keyOf_42 (by decide) ?_
  refine ae_icmp_ne (pc := 43) (t := 56) dX11_keyOf_43 (by decide) (fun c43 => ?_) (fun c43 => ?_)
  · exact absurd rfl c43
  refine ae_aload_n (pc := 46) dX11_keyOf_46 rfl ?_
  refine ae_getR (pc := 47) (k := 33) (c := 11) (j := 11) (q := 42) dX11_keyOf_47 rfl rfl (Nat.le_of_ble_eq_true rfl) rfl (Nat.le_of_ble_eq_true rfl) rfl ?_
  refine ae_iload_n (pc := 50) dX11_keyOf_50 rfl ?_
  refine ae_iaload (pc := 51) (k := 42) (N := 16) _ dX11_keyOf_51 (Nat.le_of_ble_eq_true rfl) rfl rfl rfl (by omega) rfl ?_
  refine ae_ineg (pc := 52) dX11_keyOf_52 rfl ?_
  refine ae_goto (pc := 53) (t := 82) dX11_keyOf_53 (by decide) ?_
  refine ae_ireturn (pc := 82) dX11_keyOf_82 rfl ?_
  exact ⟨rfl, rfl⟩
theorem sm_keyOf_2 (d : Nat) (M : am_M) (e : Nat) (he : e < 16) (bh : Option Nat) (hb : ∀ b, bh = some b → b < 16) : am_R (d + 3) zX11_keyOf [.ref 33, .int (nI e), .int (nI 2), .int (oI bh)] M (fun v M' => v = some (.int (keyF (M.1 34) (M.1 42) 2 bh e)) ∧ M' = M) := by
  refine ae_enter (z := zX11_keyOf) (y := yX11_keyOf) (cc := cX11_keyOf) (mL := 5) (rt := some .int) (ci := 11) (st := false) (np := 3) (L := [some (.ref 33), some (.int (nI e)), some (.int (nI 2)), some (.int (oI bh)), none]) rfl (by decide) (Nat.le_of_ble_eq_true rfl) rfl ?_
  cases bh with
  | none =>
    refine ae_aload_n (pc := 0) dX11_keyOf_0 rfl ?_
    refine ae_getR (pc := 1) (k := 33) (c := 11) (j := 0) (q := 34) dX11_keyOf_1 rfl rfl (Nat.le_of_ble_eq_true rfl) rfl (Nat.le_of_ble_eq_true rfl) rfl ?_
    refine ae_sipush (pc := 4) (v := nI 259) dX11_keyOf_4 (by decide) ?_
    refine ae_iload_n (pc := 7) dX11_keyOf_7 rfl ?_
    refine ae_iadd (pc := 8) dX11_keyOf_8 (nI_add _ _) ?_
    refine ae_iaload (pc := 9) (k := 34) (N := 549) _ dX11_keyOf_9 (Nat.le_of_ble_eq_true rfl) rfl rfl rfl (by omega) rfl ?_
    refine ae_istore (pc := 10) dX11_keyOf_10 rfl (Nat.le_of_ble_eq_true rfl) ?_
    refine ae_iload_n (pc := 12) dX11_keyOf_12 rfl ?_
    refine ae_if_ne (pc := 13) (t := 41) dX11_keyOf_13 (by decide) (fun _ => ?_) (fun q => absurd (by decide) q)
    refine ae_iload_n (pc := 41) dX11_keyOf_41 rfl ?_
    refine ae_iconst (pc := 42) (v := nI 1) dX11_keyOf_42 (by decide) ?_
    refine ae_icmp_ne (pc := 43) (t := 56) dX11_keyOf_43 (by decide) (fun c43 => ?_) (fun c43 => ?_)
    rotate_left
    · exact absurd (Classical.not_not.mp c43) (by decide)
    refine ae_iload_n (pc := 56) dX11_keyOf_56 rfl ?_
    refine ae_iconst (pc := 57) (v := (-1)) dX11_keyOf_57 (by decide) ?_
    refine ae_icmp_ne (pc := 58) (t := 66) dX11_keyOf_58 (by decide) (fun c58 => ?_) (fun c58 => ?_)
    · exact absurd rfl c58
    refine ae_iload (pc := 61) dX11_keyOf_61 rfl ?_
    refine ae_goto (pc := 63) (t := 82) dX11_keyOf_63 (by decide) ?_
    refine ae_ireturn (pc := 82) dX11_keyOf_82 rfl ?_
    exact ⟨rfl, rfl⟩
  | some b =>
    have hb := hb b rfl
    refine ae_aload_n (pc := 0) dX11_keyOf_0 rfl ?_
    refine ae_getR (pc := 1) (k := 33) (c := 11) (j := 0) (q := 34) dX11_keyOf_1 rfl rfl (Nat.le_of_ble_eq_true rfl) rfl (Nat.le_of_ble_eq_true rfl) rfl ?_
    refine ae_sipush (pc := 4) (v := nI 259) dX11_keyOf_4 (by decide) ?_
    refine ae_iload_n (pc := 7) dX11_keyOf_7 rfl ?_
    refine ae_iadd (pc := 8) dX11_keyOf_8 (nI_add _ _) ?_
    refine ae_iaload (pc := 9) (k := 34) (N := 549) _ dX11_keyOf_9 (Nat.le_of_ble_eq_true rfl) rfl rfl rfl (by omega) rfl ?_
    refine ae_istore (pc := 10) dX11_keyOf_10 rfl (Nat.le_of_ble_eq_true rfl) ?_
    refine ae_iload_n (pc := 12) dX11_keyOf_12 rfl ?_
    refine ae_if_ne (pc := 13) (t := 41) dX11_keyOf_13 (by decide) (fun _ => ?_) (fun q => absurd (by decide) q)
    refine ae_iload_n (pc := 41) dX11_keyOf_41 rfl ?_
    refine ae_iconst (pc := 42) (v := nI 1) dX11_keyOf_42 (by decide) ?_
    refine ae_icmp_ne (pc := 43) (t := 56) dX11_keyOf_43 (by decide) (fun c43 => ?_) (fun c43 => ?_)
    rotate_left
    · exact absurd (Classical.not_not.mp c43) (by decide)
    refine ae_iload_n (pc := 56) dX11_keyOf_56 rfl ?_
    refine ae_iconst (pc := 57) (v := (-1)) dX11_keyOf_57 (by decide) ?_
    refine ae_icmp_ne (pc := 58) (t := 66) dX11_keyOf_58 (by decide) (fun c58 => ?_) (fun c58 => ?_)
    rotate_left
    · exact absurd (Classical.not_not.mp c58) (nI_ne1 (by omega))
    refine ae_aload_n (pc := 66) dX11_keyOf_66 rfl ?_
    refine ae_iload (pc := 67) dX11_keyOf_67 rfl ?_
    refine ae_aload_n (pc := 69) dX11_keyOf_69 rfl ?_
    refine ae_getR (pc := 70) (k := 33) (c := 11) (j := 0) (q := 34) dX11_keyOf_70 rfl rfl (Nat.le_of_ble_eq_true rfl) rfl (Nat.le_of_ble_eq_true rfl) rfl ?_
    refine ae_sipush (pc := 73) (v := nI 259) dX11_keyOf_73 (by decide) ?_
    refine ae_iload_n (pc := 76) dX11_keyOf_76 rfl ?_
    refine ae_iadd (pc := 77) (v := nI (259 + b)) dX11_keyOf_77 (nI_add _ _) ?_
    refine ae_iaload (pc := 78) (k := 34) (N := 549) _ dX11_keyOf_78 (Nat.le_of_ble_eq_true rfl) rfl rfl rfl (by omega) rfl ?_
    refine ae_pcallV (pc := 79) (z := zX11_distance) (k := 33) (As := [_, _]) dX11_keyOf_79 rfl rfl rfl rfl (Nat.le_of_ble_eq_true rfl) rfl (Nat.le_of_ble_eq_true rfl) (Nat.le_of_ble_eq_true rfl) (sm_distance d M _ _) ?_
    refine ae_ireturn (pc := 82) dX11_keyOf_82 rfl ?_
    exact ⟨rfl, rfl⟩
theorem sm_keyOf (d : Nat) (M : am_M) (e : Nat) (he : e < 16) (o : Nat) (ho : o < 3) (bh : Option Nat) (hb : ∀ b, bh = some b → b < 16) : am_R (d + 3) zX11_keyOf [.ref 33, .int (nI e), .int (nI o), .int (oI bh)] M (fun v M' => v = some (.int (keyF (M.1 34) (M.1 42) o bh e)) ∧ M' = M) := by
  match o, ho with
  | 0, _ => exact sm_keyOf_0 d M e he _ bh
  | 1, _ => exact sm_keyOf_1 d M e he _ bh
  | 2, _ => exact sm_keyOf_2 d M e he bh hb
theorem sm_nextEntry (d : Nat) (M : am_M) (hf : wf0 (M.1 34)) (o : Nat) (ho : o < 3) (bh : Option Nat) (hb : ∀ b, bh = some b → b < 16) : am_R (d + 4) zX11_nextEntry [.ref 33, .int (nI o), .int (oI bh)] M (fun v M' => v = some (.int (oI (nxt (M.1 34) (M.1 42) (M.1 47) o bh (fN (M.1 34))))) ∧ M' = M) := by
  refine ae_enter (z := zX11_nextEntry) (y := yX11_nextEntry) (cc := cX11_nextEntry) (mL := 6) (rt := some .int) (ci := 11) (st := false) (np := 2) (L := [some (.ref 33), some (.int (nI o)), some (.int (oI bh)), none, none, none]) rfl (by decide) (Nat.le_of_ble_eq_true rfl) rfl ?_
  obtain ⟨-, -, hn1, hn2⟩ := id hf
  refine ae_iconst (pc := 0) (v := (-1)) dX11_nextEntry_0 (by decide) ?_
  refine ae_istore_n (pc := 1) dX11_nextEntry_1 rfl (Nat.le_of_ble_eq_true rfl) ?_
  refine ae_iconst (pc := 2) (v := nI 0) dX11_nextEntry_2 (by decide) ?_
  refine ae_istore (pc := 3) dX11_nextEntry_3 rfl (Nat.le_of_ble_eq_true rfl) ?_
  skip
  refine am_down (P := fun k => am_E none (am_R (d + 3)) cX11_nextEntry 11 (some .int) _ (5, [some (.ref 33), some (.int (nI o)), some (.int (oI bh)), some (.int (oI (nxt (M.1 34) (M.1 42) (M.1 47) o bh k))), some (.int (nI k)), none], [], M)) (fN (M.1 34)) (fun k hk ih => ?_)
  refine ae_iload (pc := 5) dX11_nextEntry_5 rfl ?_
  refine ae_aload_n (pc := 7) dX11_nextEntry_7 rfl ?_
  refine ae_getR (pc := 8) (k := 33) (c := 11) (j := 0) (q := 34) dX11_nextEntry_8 rfl rfl (Nat.le_of_ble_eq_true rfl) rfl (Nat.le_of_ble_eq_true rfl) rfl ?_
  refine ae_sipush (pc := 11) (v := nI 258) dX11_nextEntry_11 (by decide) ?_
  refine ae_iaload (pc := 14) (k := 34) (N := 549) (v := nI (fN (M.1 34))) _ dX11_nextEntry_14 (Nat.le_of_ble_eq_true rfl) rfl rfl rfl (by omega) hn1 ?_
  refine ae_icmp_ge (pc := 15) (t := 85) dX11_nextEntry_15 (by decide) (fun c15 => ?_) (fun c15 => ?_)
  · have hk2 : k = fN (M.1 34) := by rw [nI_leI (by omega) (by omega)] at c15; omega
    subst hk2
    refine ae_iload_n (pc := 85) dX11_nextEntry_85 rfl ?_
    refine ae_ireturn (pc := 86) dX11_nextEntry_86 rfl ?_
    exact ⟨rfl, rfl⟩
  · have hk2 : k < fN (M.1 34) := by rw [nI_leI (by omega) (by omega)] at c15; omega
    cases hx : nxt (M.1 34) (M.1 42) (M.1 47) o bh k with
    | none =>
      refine ae_aload_n (pc := 18) dX11_nextEntry_18 rfl ?_
      refine ae_iload (pc := 19) dX11_nextEntry_19 rfl ?_
      refine ae_pcallV (pc := 21) (z := zX11_isLocked) (k := 33) (As := [_]) dX11_nextEntry_21 rfl rfl rfl rfl (Nat.le_of_ble_eq_true rfl) rfl (Nat.le_of_ble_eq_true rfl) (Nat.le_of_ble_eq_true rfl) (sm_isLocked (d + 2) M k (by omega)) ?_
      refine ae_if_ne (pc := 24) (t := 41) dX11_nextEntry_24 (by decide) (fun c24 => ?_) (fun c24 => ?_)
      · refine ae_iconst (pc := 41) (v := nI 0) dX11_nextEntry_41 (by decide) ?_
        refine ae_istore (pc := 42) dX11_nextEntry_42 rfl (Nat.le_of_ble_eq_true rfl) ?_
        refine ae_iload (pc := 44) dX11_nextEntry_44 rfl ?_
        refine ae_if_eq (pc := 46) (t := 77) dX11_nextEntry_46 (by decide) (fun _ => ?_) (fun q => absurd (by decide) q)
        refine ae_iload_n (pc := 77) dX11_nextEntry_77 rfl ?_
        refine ae_istore_n (pc := 78) (v := oI (nxt (M.1 34) (M.1 42) (M.1 47) o bh (k + 1))) dX11_nextEntry_78 (by rw [nxt_s, hx]; first | (rw [if_pos (Or.inl (bI_ne0.mp c24))]; done) | (rw [if_pos (Or.inr c34)]; done) | (rw [if_neg (fun q => q.elim (bI_eq0.mp (Classical.not_not.mp c24)) c34)]; rfl)) (Nat.le_of_ble_eq_true rfl) ?_
        refine ae_iinc (pc := 79) (v := nI (k + 1)) dX11_nextEntry_79 rfl (nI_inc k) ?_
        refine ae_goto (pc := 82) (t := 5) dX11_nextEntry_82 (by decide) ?_
        exact ae_forget [5] rfl (ih hk2)
      · refine ae_aload_n (pc := 27) dX11_nextEntry_27 rfl ?_
        refine ae_getR (pc := 28) (k := 33) (c := 11) (j := 18) (q := 47) dX11_nextEntry_28 rfl rfl (Nat.le_of_ble_eq_true rfl) rfl (Nat.le_of_ble_eq_true rfl) rfl ?_
        refine ae_iload (pc := 31) dX11_nextEntry_31 rfl ?_
        refine ae_baload (pc := 33) (k := 47) (N := 16) _ dX11_nextEntry_33 (Nat.le_of_ble_eq_true rfl) rfl rfl rfl (by omega) rfl ?_
        refine ae_if_ne (pc := 34) (t := 41) dX11_nextEntry_34 (by decide) (fun c34 => ?_) (fun c34 => ?_)
        · refine ae_iconst (pc := 41) (v := nI 0) dX11_nextEntry_41 (by decide) ?_
          refine ae_istore (pc := 42) dX11_nextEntry_42 rfl (Nat.le_of_ble_eq_true rfl) ?_
          refine ae_iload (pc := 44) dX11_nextEntry_44 rfl ?_
          refine ae_if_eq (pc := 46) (t := 77) dX11_nextEntry_46 (by decide) (fun _ => ?_) (fun q => absurd (by decide) q)
          refine ae_iload_n (pc := 77) dX11_nextEntry_77 rfl ?_
          refine ae_istore_n (pc := 78) (v := oI (nxt (M.1 34) (M.1 42) (M.1 47) o bh (k + 1))) dX11_nextEntry_78 (by rw [nxt_s, hx]; first | (rw [if_pos (Or.inl (bI_ne0.mp c24))]; done) | (rw [if_pos (Or.inr c34)]; done) | (rw [if_neg (fun q => q.elim (bI_eq0.mp (Classical.not_not.mp c24)) c34)]; rfl)) (Nat.le_of_ble_eq_true rfl) ?_
          refine ae_iinc (pc := 79) (v := nI (k + 1)) dX11_nextEntry_79 rfl (nI_inc k) ?_
          refine ae_goto (pc := 82) (t := 5) dX11_nextEntry_82 (by decide) ?_
          exact ae_forget [5] rfl (ih hk2)
        · refine ae_iconst (pc := 37) (v := nI 1) dX11_nextEntry_37 (by decide) ?_
          refine ae_goto (pc := 38) (t := 42) dX11_nextEntry_38 (by decide) ?_
          refine ae_istore (pc := 42) dX11_nextEntry_42 rfl (Nat.le_of_ble_eq_true rfl) ?_
          refine ae_iload (pc := 44) dX11_nextEntry_44 rfl ?_
          refine ae_if_eq (pc := 46) (t := 77) dX11_nextEntry_46 (by decide) (fun q => absurd q (by decide)) (fun _ => ?_)
          refine ae_iload_n (pc := 49) dX11_nextEntry_49 rfl ?_
          refine ae_iconst (pc := 50) (v := (-1)) dX11_nextEntry_50 (by decide) ?_
          refine ae_icmp_eq (pc := 51) (t := 72) dX11_nextEntry_51 (by decide) (fun c51 => ?_) (fun c51 => ?_)
          rotate_left
          · exact absurd rfl c51
          refine ae_iload (pc := 72) dX11_nextEntry_72 rfl ?_
          refine ae_goto (pc := 74) (t := 78) dX11_nextEntry_74 (by decide) ?_
          refine ae_istore_n (pc := 78) (v := oI (nxt (M.1 34) (M.1 42) (M.1 47) o bh (k + 1))) dX11_nextEntry_78 (by rw [nxt_s, hx]; first | (rw [if_pos (Or.inl (bI_ne0.mp c24))]; done) | (rw [if_pos (Or.inr c34)]; done) | (rw [if_neg (fun q => q.elim (bI_eq0.mp (Classical.not_not.mp c24)) c34)]; rfl)) (Nat.le_of_ble_eq_true rfl) ?_
          refine ae_iinc (pc := 79) (v := nI (k + 1)) dX11_nextEntry_79 rfl (nI_inc k) ?_
          refine ae_goto (pc := 82) (t := 5) dX11_nextEntry_82 (by decide) ?_
          exact ae_forget [5] rfl (ih hk2)
    | some b =>
      have hb2 := (nxt_lt hx).1
      refine ae_aload_n (pc := 18) dX11_nextEntry_18 rfl ?_
      refine ae_iload (pc := 19) dX11_nextEntry_19 rfl ?_
      refine ae_pcallV (pc := 21) (z := zX11_isLocked) (k := 33) (As := [_]) dX11_nextEntry_21 rfl rfl rfl rfl (Nat.le_of_ble_eq_true rfl) rfl (Nat.le_of_ble_eq_true rfl) (Nat.le_of_ble_eq_true rfl) (sm_isLocked (d + 2) M k (by omega)) ?_
      refine ae_if_ne (pc := 24) (t := 41) dX11_nextEntry_24 (by decide) (fun c24 => ?_) (fun c24 => ?_)
      · refine ae_iconst (pc := 41) (v := nI 0) dX11_nextEntry_41 (by decide) ?_
        refine ae_istore (pc := 42) dX11_nextEntry_42 rfl (Nat.le_of_ble_eq_true rfl) ?_
        refine ae_iload (pc := 44) dX11_nextEntry_44 rfl ?_
        refine ae_if_eq (pc := 46) (t := 77) dX11_nextEntry_46 (by decide) (fun _ => ?_) (fun q => absurd (by decide) q)
        refine ae_iload_n (pc := 77) dX11_nextEntry_77 rfl ?_
        refine ae_istore_n (pc := 78) (v := oI (nxt (M.1 34) (M.1 42) (M.1 47) o bh (k + 1))) dX11_nextEntry_78 (by rw [nxt_s, hx]; first | (rw [if_pos (Or.inl (bI_ne0.mp c24))]; done) | (rw [if_pos (Or.inr c34)]; done) | (rw [if_neg (fun q => q.elim (bI_eq0.mp (Classical.not_not.mp c24)) c34)]; dsimp only; first | (rw [if_pos (Int32.not_le.mp c69)]; rfl) | (rw [if_neg (Int32.not_lt.mpr c69)]; rfl) | (rw [if_pos (Int32.not_le.mp c69)]; done) | (rw [if_neg (Int32.not_lt.mpr c69)]; done))) (Nat.le_of_ble_eq_true rfl) ?_
        refine ae_iinc (pc := 79) (v := nI (k + 1)) dX11_nextEntry_79 rfl (nI_inc k) ?_
        refine ae_goto (pc := 82) (t := 5) dX11_nextEntry_82 (by decide) ?_
        exact ae_forget [5] rfl (ih hk2)
      · refine ae_aload_n (pc := 27) dX11_nextEntry_27 rfl ?_
        refine ae_getR (pc := 28) (k := 33) (c := 11) (j := 18) (q := 47) dX11_nextEntry_28 rfl rfl (Nat.le_of_ble_eq_true rfl) rfl (Nat.le_of_ble_eq_true rfl) rfl ?_
        refine ae_iload (pc := 31) dX11_nextEntry_31 rfl ?_
        refine ae_baload (pc := 33) (k := 47) (N := 16) _ dX11_nextEntry_33 (Nat.le_of_ble_eq_true rfl) rfl rfl rfl (by omega) rfl ?_
        refine ae_if_ne (pc := 34) (t := 41) dX11_nextEntry_34 (by decide) (fun c34 => ?_) (fun c34 => ?_)
        · refine ae_iconst (pc := 41) (v := nI 0) dX11_nextEntry_41 (by decide) ?_
          refine ae_istore (pc := 42) dX11_nextEntry_42 rfl (Nat.le_of_ble_eq_true rfl) ?_
          refine ae_iload (pc := 44) dX11_nextEntry_44 rfl ?_
          refine ae_if_eq (pc := 46) (t := 77) dX11_nextEntry_46 (by decide) (fun _ => ?_) (fun q => absurd (by decide) q)
          refine ae_iload_n (pc := 77) dX11_nextEntry_77 rfl ?_
          refine ae_istore_n (pc := 78) (v := oI (nxt (M.1 34) (M.1 42) (M.1 47) o bh (k + 1))) dX11_nextEntry_78 (by rw [nxt_s, hx]; first | (rw [if_pos (Or.inl (bI_ne0.mp c24))]; done) | (rw [if_pos (Or.inr c34)]; done) | (rw [if_neg (fun q => q.elim (bI_eq0.mp (Classical.not_not.mp c24)) c34)]; dsimp only; first | (rw [if_pos (Int32.not_le.mp c69)]; rfl) | (rw [if_neg (Int32.not_lt.mpr c69)]; rfl) | (rw [if_pos (Int32.not_le.mp c69)]; done) | (rw [if_neg (Int32.not_lt.mpr c69)]; done))) (Nat.le_of_ble_eq_true rfl) ?_
          refine ae_iinc (pc := 79) (v := nI (k + 1)) dX11_nextEntry_79 rfl (nI_inc k) ?_
          refine ae_goto (pc := 82) (t := 5) dX11_nextEntry_82 (by decide) ?_
          exact ae_forget [5] rfl (ih hk2)
        · refine ae_iconst (pc := 37) (v := nI 1) dX11_nextEntry_37 (by decide) ?_
          refine ae_goto (pc := 38) (t := 42) dX11_nextEntry_38 (by decide) ?_
          refine ae_istore (pc := 42) dX11_nextEntry_42 rfl (Nat.le_of_ble_eq_true rfl) ?_
          refine ae_iload (pc := 44) dX11_nextEntry_44 rfl ?_
          refine ae_if_eq (pc := 46) (t := 77) dX11_nextEntry_46 (by decide) (fun q => absurd q (by decide)) (fun _ => ?_)
          refine ae_iload_n (pc := 49) dX11_nextEntry_49 rfl ?_
          refine ae_iconst (pc := 50) (v := (-1)) dX11_nextEntry_50 (by decide) ?_
          refine ae_icmp_eq (pc := 51) (t := 72) dX11_nextEntry_51 (by decide) (fun c51 => ?_) (fun c51 => ?_)
          · exact absurd c51 (nI_ne1 (by omega))
          refine ae_aload_n (pc := 54) dX11_nextEntry_54 rfl ?_
          refine ae_iload (pc := 55) dX11_nextEntry_55 rfl ?_
          refine ae_iload_n (pc := 57) dX11_nextEntry_57 rfl ?_
          refine ae_iload_n (pc := 58) dX11_nextEntry_58 rfl ?_
          refine ae_pcallV (pc := 59) (z := zX11_keyOf) (k := 33) (As := [_, _, _]) dX11_nextEntry_59 rfl rfl rfl rfl (Nat.le_of_ble_eq_true rfl) rfl (Nat.le_of_ble_eq_true rfl) (Nat.le_of_ble_eq_true rfl) (sm_keyOf d M k (by omega) o ho bh hb) ?_
          refine ae_aload_n (pc := 62) dX11_nextEntry_62 rfl ?_
          refine ae_iload_n (pc := 63) dX11_nextEntry_63 rfl ?_
          refine ae_iload_n (pc := 64) dX11_nextEntry_64 rfl ?_
          refine ae_iload_n (pc := 65) dX11_nextEntry_65 rfl ?_
          refine ae_pcallV (pc := 66) (z := zX11_keyOf) (k := 33) (As := [_, _, _]) dX11_nextEntry_66 rfl rfl rfl rfl (Nat.le_of_ble_eq_true rfl) rfl (Nat.le_of_ble_eq_true rfl) (Nat.le_of_ble_eq_true rfl) (sm_keyOf d M b (by omega) o ho bh hb) ?_
          refine ae_icmp_ge (pc := 69) (t := 77) dX11_nextEntry_69 (by decide) (fun c69 => ?_) (fun c69 => ?_)
          · refine ae_iload_n (pc := 77) dX11_nextEntry_77 rfl ?_
            refine ae_istore_n (pc := 78) (v := oI (nxt (M.1 34) (M.1 42) (M.1 47) o bh (k + 1))) dX11_nextEntry_78 (by rw [nxt_s, hx]; first | (rw [if_pos (Or.inl (bI_ne0.mp c24))]; done) | (rw [if_pos (Or.inr c34)]; done) | (rw [if_neg (fun q => q.elim (bI_eq0.mp (Classical.not_not.mp c24)) c34)]; dsimp only; first | (rw [if_pos (Int32.not_le.mp c69)]; rfl) | (rw [if_neg (Int32.not_lt.mpr c69)]; rfl) | (rw [if_pos (Int32.not_le.mp c69)]; done) | (rw [if_neg (Int32.not_lt.mpr c69)]; done))) (Nat.le_of_ble_eq_true rfl) ?_
            refine ae_iinc (pc := 79) (v := nI (k + 1)) dX11_nextEntry_79 rfl (nI_inc k) ?_
            refine ae_goto (pc := 82) (t := 5) dX11_nextEntry_82 (by decide) ?_
            exact ae_forget [5] rfl (ih hk2)
          · refine ae_iload (pc := 72) dX11_nextEntry_72 rfl ?_
            refine ae_goto (pc := 74) (t := 78) dX11_nextEntry_74 (by decide) ?_
            refine ae_istore_n (pc := 78) (v := oI (nxt (M.1 34) (M.1 42) (M.1 47) o bh (k + 1))) dX11_nextEntry_78 (by rw [nxt_s, hx]; first | (rw [if_pos (Or.inl (bI_ne0.mp c24))]; done) | (rw [if_pos (Or.inr c34)]; done) | (rw [if_neg (fun q => q.elim (bI_eq0.mp (Classical.not_not.mp c24)) c34)]; dsimp only; first | (rw [if_pos (Int32.not_le.mp c69)]; rfl) | (rw [if_neg (Int32.not_lt.mpr c69)]; rfl) | (rw [if_pos (Int32.not_le.mp c69)]; done) | (rw [if_neg (Int32.not_lt.mpr c69)]; done))) (Nat.le_of_ble_eq_true rfl) ?_
            refine ae_iinc (pc := 79) (v := nI (k + 1)) dX11_nextEntry_79 rfl (nI_inc k) ?_
            refine ae_goto (pc := 82) (t := 5) dX11_nextEntry_82 (by decide) ?_
            exact ae_forget [5] rfl (ih hk2)

