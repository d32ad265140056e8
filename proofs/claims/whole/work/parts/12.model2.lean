/-! the reference: history -/
theorem sm_keeps (d : Nat) (M : am_M) (u : Nat) (hu : M.1 33 2 = nI u) (hu2 : u ≤ 10) (b : Int32) : am_R (d + 1) zX11_keeps [.ref 33, .int b] M (fun v M' => v = none ∧ M' = kpM M u b) := by
  refine ae_enter (z := zX11_keeps) (y := yX11_keeps) (cc := cX11_keeps) (mL := 3) (rt := none) (ci := 11) (st := false) (np := 1) (L := [some (.ref 33), some (.int b), none]) rfl (by decide) (Nat.le_of_ble_eq_true rfl) rfl ?_
  have second : ∀ (o : Option Value) (past : fT) (U : fT) (w : Nat), w ≤ 9 → U 2 = nI w → past = kpS (M.1 35) u → w = kpU u → upd U 2 (nI (w + 1)) = upd (M.1 33) 2 (nI (kpN u)) → am_E none (am_R d) cX11_keeps 11 none (fun v M' => v = none ∧ M' = kpM M u b) (50, [some (.ref 33), some (.int b), none], [], (am_u (am_u M.1 35 past) 33 U, M.2)) := by
    intro o past U w hw hU hp hwu hUU
    refine ae_iconst (pc := 50) (v := nI 0) dX11_keeps_50 (by decide) ?_
    refine ae_istore_n (pc := 51) dX11_keeps_51 rfl (Nat.le_of_ble_eq_true rfl) ?_
    skip
    refine ae_M (M' := (am_u (am_u M.1 35 (kpC past (M.1 34) w 0)) 33 U, M.2)) (by rw [kp_c0]) ?_
    refine am_down (P := fun k => am_E none (am_R d) cX11_keeps 11 none _ (52, [some (.ref 33), some (.int b), some (.int (nI k))], [], (am_u (am_u M.1 35 (kpC past (M.1 34) w k)) 33 U, M.2))) 549 (fun k hk ih => ?_)
    refine ae_iload_n (pc := 52) dX11_keeps_52 rfl ?_
    refine ae_sipush (pc := 53) (v := nI 549) dX11_keeps_53 (by decide) ?_
    refine ae_icmp_ge (pc := 56) (t := 86) dX11_keeps_56 (by decide) (fun c56 => ?_) (fun c56 => ?_)
    · have hk2 : k = 549 := by rw [nI_leI (by decide) (by omega)] at c56; omega
      subst hk2
      refine ae_aload_n (pc := 86) dX11_keeps_86 rfl ?_
      refine ae_dup (pc := 87) dX11_keeps_87 rfl ?_
      refine ae_getI (pc := 88) (k := 33) (c := 11) (j := 2) (v := nI w) dX11_keeps_88 rfl rfl (Or.inl rfl) (Nat.le_of_ble_eq_true rfl) rfl (Nat.le_of_ble_eq_true rfl) (by simp [am_u, hU]) ?_
      refine ae_iconst (pc := 91) (v := nI 1) dX11_keeps_91 (by decide) ?_
      refine ae_iadd (pc := 92) (v := nI (w + 1)) dX11_keeps_92 (nI_add w 1) ?_
      refine ae_putfield (pc := 93) (k := 33) (c := 11) (j := 2) dX11_keeps_93 rfl rfl (Nat.le_of_ble_eq_true rfl) rfl (Nat.le_of_ble_eq_true rfl) rfl rfl ?_
      refine ae_aload_n (pc := 96) dX11_keeps_96 rfl ?_
      refine ae_getR (pc := 97) (k := 33) (c := 11) (j := 0) (q := 34) dX11_keeps_97 rfl rfl (Nat.le_of_ble_eq_true rfl) rfl (Nat.le_of_ble_eq_true rfl) rfl ?_
      refine ae_sipush (pc := 100) (v := nI 292) dX11_keeps_100 (by decide) ?_
      refine ae_iload_n (pc := 103) dX11_keeps_103 rfl ?_
      refine ae_if_eq (pc := 104) (t := 111) dX11_keeps_104 (by decide) (fun c104 => ?_) (fun c104 => ?_)
      · refine ae_aload_n (pc := 111) dX11_keeps_111 rfl ?_
        refine ae_getR (pc := 112) (k := 33) (c := 11) (j := 0) (q := 34) dX11_keeps_112 rfl rfl (Nat.le_of_ble_eq_true rfl) rfl (Nat.le_of_ble_eq_true rfl) rfl ?_
        refine ae_sipush (pc := 115) (v := nI 292) dX11_keeps_115 (by decide) ?_
        refine ae_iaload (pc := 118) (k := 34) (N := 549) _ dX11_keeps_118 (Nat.le_of_ble_eq_true rfl) rfl rfl rfl (by omega) rfl ?_
        refine ae_iastore (pc := 119) (k := 34) (N := 549) _ dX11_keeps_119 (Nat.le_of_ble_eq_true rfl) rfl rfl rfl (by omega) rfl ?_
        refine ae_return (pc := 120) dX11_keeps_120 rfl ?_
        refine ⟨rfl, Prod.ext (funext fun q => ?_) rfl⟩
        simp only [kpM, am_u, kpP]
        by_cases h4 : q = 34
        · subst h4; simp_all [kpF, nI_0]
        · by_cases h3 : q = 33 <;> by_cases h5 : q = 35 <;> simp_all
      · refine ae_iconst (pc := 107) (v := nI 0) dX11_keeps_107 (by decide) ?_
        refine ae_goto (pc := 108) (t := 119) dX11_keeps_108 (by decide) ?_
        refine ae_iastore (pc := 119) (k := 34) (N := 549) _ dX11_keeps_119 (Nat.le_of_ble_eq_true rfl) rfl rfl rfl (by omega) rfl ?_
        refine ae_return (pc := 120) dX11_keeps_120 rfl ?_
        refine ⟨rfl, Prod.ext (funext fun q => ?_) rfl⟩
        simp only [kpM, am_u, kpP]
        by_cases h4 : q = 34
        · subst h4; simp_all [kpF, nI_0]
        · by_cases h3 : q = 33 <;> by_cases h5 : q = 35 <;> simp_all
    · have hk2 : k < 549 := by rw [nI_leI (by decide) (by omega)] at c56; omega
      refine ae_aload_n (pc := 59) dX11_keeps_59 rfl ?_
      refine ae_getR (pc := 60) (k := 33) (c := 11) (j := 1) (q := 35) dX11_keeps_60 rfl rfl (Nat.le_of_ble_eq_true rfl) rfl (Nat.le_of_ble_eq_true rfl) rfl ?_
      refine ae_sipush (pc := 63) (v := nI 549) dX11_keeps_63 (by decide) ?_
      refine ae_aload_n (pc := 66) dX11_keeps_66 rfl ?_
      refine ae_getI (pc := 67) (k := 33) (c := 11) (j := 2) (v := nI w) dX11_keeps_67 rfl rfl (Or.inl rfl) (Nat.le_of_ble_eq_true rfl) rfl (Nat.le_of_ble_eq_true rfl) (by simp [am_u, hU]) ?_
      refine ae_imul (pc := 70) (v := nI (549 * w)) dX11_keeps_70 (nI_mul 549 w) ?_
      refine ae_iload_n (pc := 71) dX11_keeps_71 rfl ?_
      refine ae_iadd (pc := 72) (v := nI (549 * w + k)) dX11_keeps_72 (nI_add _ _) ?_
      refine ae_aload_n (pc := 73) dX11_keeps_73 rfl ?_
      refine ae_getR (pc := 74) (k := 33) (c := 11) (j := 0) (q := 34) dX11_keeps_74 rfl rfl (Nat.le_of_ble_eq_true rfl) rfl (Nat.le_of_ble_eq_true rfl) rfl ?_
      refine ae_iload_n (pc := 77) dX11_keeps_77 rfl ?_
      refine ae_iaload (pc := 78) (k := 34) (N := 549) (v := M.1 34 k) (_) dX11_keeps_78 (Nat.le_of_ble_eq_true rfl) rfl rfl rfl (by omega) (by simp [am_u]) ?_
      refine ae_iastore (pc := 79) (k := 35) (N := 5490) (549 * w + k) dX11_keeps_79 (Nat.le_of_ble_eq_true rfl) rfl rfl rfl (by omega) rfl ?_
      refine ae_iinc (pc := 80) (v := nI (k + 1)) dX11_keeps_80 rfl (nI_inc k) ?_
      refine ae_goto (pc := 83) (t := 52) dX11_keeps_83 (by decide) ?_
      refine ae_M (M' := (am_u (am_u M.1 35 (kpC past (M.1 34) w (k + 1))) 33 U, M.2)) ?_ (ih hk2)
      rw [← kp_cp]
      refine Prod.ext (funext fun q => ?_) rfl
      simp only [am_u]
      by_cases h3 : q = 33 <;> by_cases h5 : q = 35 <;> simp_all
  have heta : M = (am_u (am_u M.1 35 (M.1 35)) 33 (M.1 33), M.2) := by rw [am_u_eta, am_u_eta]
  refine ae_aload_n (pc := 0) dX11_keeps_0 rfl ?_
  refine ae_getI (pc := 1) (k := 33) (c := 11) (j := 2) (v := nI u) dX11_keeps_1 rfl rfl (Or.inl rfl) (Nat.le_of_ble_eq_true rfl) rfl (Nat.le_of_ble_eq_true rfl) hu ?_
  refine ae_bipush (pc := 4) (v := nI 10) dX11_keeps_4 (by decide) ?_
  refine ae_icmp_ne (pc := 6) (t := 50) dX11_keeps_6 (by decide) (fun c6 => ?_) (fun c6 => ?_)
  · have h10 : ¬ u = 10 := by rw [nI_eq (by omega) (by decide)] at c6; exact c6
    refine ae_M heta (second none _ _ u (by omega) hu ?_ ?_ ?_)
    · simp [kpS, h10]
    · simp [kpU, h10]
    · simp [kpN, h10]
  · have h10 : u = 10 := by rw [nI_eq (by omega) (by decide)] at c6; simpa using c6
    subst h10
    refine ae_iconst (pc := 9) (v := nI 0) dX11_keeps_9 (by decide) ?_
    refine ae_istore_n (pc := 10) dX11_keeps_10 rfl (Nat.le_of_ble_eq_true rfl) ?_
    skip
    refine ae_M (M' := (am_u M.1 35 (fun j => if j < 0 then M.1 35 (j + 549) else M.1 35 j), M.2)) (by simp [am_u_eta]) ?_
    refine am_down (P := fun k => am_E none (am_R d) cX11_keeps 11 none _ (11, [some (.ref 33), some (.int b), some (.int (nI k))], [], (am_u M.1 35 (fun j => if j < k then M.1 35 (j + 549) else M.1 35 j), M.2))) 4941 (fun k hk ih => ?_)
    refine ae_iload_n (pc := 11) dX11_keeps_11 rfl ?_
    refine ae_sipush (pc := 12) (v := nI 4941) dX11_keeps_12 (by decide) ?_
    refine ae_icmp_ge (pc := 15) (t := 40) dX11_keeps_15 (by decide) (fun c15 => ?_) (fun c15 => ?_)
    · have hk2 : k = 4941 := by rw [nI_leI (by decide) (by omega)] at c15; omega
      subst hk2
      refine ae_aload_n (pc := 40) dX11_keeps_40 rfl ?_
      refine ae_dup (pc := 41) dX11_keeps_41 rfl ?_
      refine ae_getI (pc := 42) (k := 33) (c := 11) (j := 2) (v := nI 10) dX11_keeps_42 rfl rfl (Or.inl rfl) (Nat.le_of_ble_eq_true rfl) rfl (Nat.le_of_ble_eq_true rfl) (by simp [am_u, hu]) ?_
      refine ae_iconst (pc := 45) (v := nI 1) dX11_keeps_45 (by decide) ?_
      refine ae_isub (pc := 46) (v := nI 9) dX11_keeps_46 (by decide) ?_
      refine ae_putfield (pc := 47) (k := 33) (c := 11) (j := 2) dX11_keeps_47 rfl rfl (Nat.le_of_ble_eq_true rfl) rfl (Nat.le_of_ble_eq_true rfl) rfl rfl ?_
      refine ae_forget [2] rfl (ae_M (M' := (am_u (am_u M.1 35 (kpS (M.1 35) 10)) 33 (upd (M.1 33) 2 (nI 9)), M.2)) ?_ (second none (kpS (M.1 35) 10) (upd (M.1 33) 2 (nI 9)) 9 (by omega) (upd_self _ _ _) rfl rfl ?_))
      · exact Prod.ext (by simp [am_u, kpS]) rfl
      · funext q; simp [upd, kpN]; split <;> rfl
    · have hk2 : k < 4941 := by rw [nI_leI (by decide) (by omega)] at c15; omega
      refine ae_aload_n (pc := 18) dX11_keeps_18 rfl ?_
      refine ae_getR (pc := 19) (k := 33) (c := 11) (j := 1) (q := 35) dX11_keeps_19 rfl rfl (Nat.le_of_ble_eq_true rfl) rfl (Nat.le_of_ble_eq_true rfl) rfl ?_
      refine ae_iload_n (pc := 22) dX11_keeps_22 rfl ?_
      refine ae_aload_n (pc := 23) dX11_keeps_23 rfl ?_
      refine ae_getR (pc := 24) (k := 33) (c := 11) (j := 1) (q := 35) dX11_keeps_24 rfl rfl (Nat.le_of_ble_eq_true rfl) rfl (Nat.le_of_ble_eq_true rfl) rfl ?_
      refine ae_iload_n (pc := 27) dX11_keeps_27 rfl ?_
      refine ae_sipush (pc := 28) (v := nI 549) dX11_keeps_28 (by decide) ?_
      refine ae_iadd (pc := 31) dX11_keeps_31 (nI_add _ _) ?_
      refine ae_iaload (pc := 32) (k := 35) (N := 5490) (v := M.1 35 (k + 549)) (k + 549) dX11_keeps_32 (Nat.le_of_ble_eq_true rfl) rfl rfl rfl (by omega) (by simp [am_u]; intro h; omega) ?_
      refine ae_iastore (pc := 33) (k := 35) (N := 5490) (k) dX11_keeps_33 (Nat.le_of_ble_eq_true rfl) rfl rfl rfl (by omega) rfl ?_
      refine ae_iinc (pc := 34) (v := nI (k + 1)) dX11_keeps_34 rfl (nI_inc k) ?_
      refine ae_goto (pc := 37) (t := 11) dX11_keeps_37 (by decide) ?_
      refine ae_M (M' := (am_u M.1 35 (fun j => if j < k + 1 then M.1 35 (j + 549) else M.1 35 j), M.2)) ?_ (ih hk2)
      rw [← kp_sh]
      simp only [am_u_u, am_u_self]

