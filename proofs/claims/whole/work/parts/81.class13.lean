theorem sc_collect (d : Nat) (M : am_M) (f : fT) (hg : AG M f) (hf : wf f) : am_R (d + 2) zX1_collect [.ref 12] M (fun v M' => v = none ∧ ∃ n K h m, M' = hgM M K (upd (M.1 12) 4 (nI n)) h m ∧ HG f n h m) := by
  refine ae_enter (z := zX1_collect) (y := yX1_collect) (cc := cX1_collect) (mL := 4) (rt := none) (ci := 1) (st := false) (np := 0) (L := [some (.ref 12), none, none, none]) rfl (by decide) (Nat.le_of_ble_eq_true rfl) rfl ?_
  have hA := fA_le hf.1
  have hO := opq_le f (fA f)
  have ag : ∀ K g0 h m, AG (hgM M K g0 h m) f := fun K g0 h m => AG_hg hg K g0 h m
  have uu : ∀ (r r' : Nat), upd (upd (M.1 12) 4 (nI r)) 4 (nI r') = upd (M.1 12) 4 (nI r') := fun r r' => by funext j; simp only [upd]; split <;> rfl
  have second : ∀ K : jT, List.Perm (sgL K 0 (opq f (fA f))) (pxL f (fA f)) → SO K 0 (opq f (fA f)) → ∀ n h m, HC K 0 n h m → am_E none (am_R (d + 1)) cX1_collect 1 none (fun v M' => v = none ∧ ∃ n K h m, M' = hgM M K (upd (M.1 12) 4 (nI n)) h m ∧ HG f n h m) (67, [some (.ref 12), some (.int (nI (opq f (fA f)))), some (.int (nI 0)), none], [], hgM M K (upd (M.1 12) 4 (nI n)) h m) := by
    intro K hp hso
    refine am_down (P := fun i => ∀ n h m, HC K i n h m → am_E none (am_R (d + 1)) cX1_collect 1 none _ (67, [some (.ref 12), some (.int (nI (opq f (fA f)))), some (.int (nI i)), none], [], hgM M K (upd (M.1 12) 4 (nI n)) h m)) (opq f (fA f)) (fun i hi ih n h m hc => ?_)
    refine ae_iload_n (pc := 67) dX1_collect_67 rfl ?_
    refine ae_iload_n (pc := 68) dX1_collect_68 rfl ?_
    refine ae_icmp_ge (pc := 69) (t := 156) dX1_collect_69 (by decide) (fun c69 => ?_) (fun c69 => ?_)
    · have hi2 : i = opq f (fA f) := by rw [nI_leI (by omega) (by omega)] at c69; omega
      subst hi2
      refine ae_return (pc := 156) dX1_collect_156 rfl ?_
      exact ⟨rfl, n, K, h, m, rfl, HC_end hf hp hc⟩
    · have hi2 : i < opq f (fA f) := by rw [nI_leI (by omega) (by omega)] at c69; omega
      have hn := hc.1
      obtain ⟨p, -, -, p3⟩ := pxL_mem.mp (hp.mem_iff.mp (sgL_mem.mpr ⟨i, hi2, rfl⟩))
      rw [Nat.zero_add] at p3
      generalize hcc : f (2 + p) = c at p3
      have e4 : (hgM M K (upd (M.1 12) 4 (nI n)) h m).1 12 4 = nI n := by rw [hgM_12, upd_self]
      have new : (0 < n → h (n - 1) ≠ c) → am_E none (am_R (d + 1)) cX1_collect 1 none (fun v M' => v = none ∧ ∃ n K h m, M' = hgM M K (upd (M.1 12) 4 (nI n)) h m ∧ HG f n h m) (120, [some (.ref 12), some (.int (nI (opq f (fA f)))), some (.int (nI i)), some (.int c)], [], hgM M K (upd (M.1 12) 4 (nI n)) h m) := by
        intro hne
        have st := ih hi2 (n + 1) (upd h n c) (upd m n (nI 1)) (HC_new hc (fun j hj => by have := hso j i (Nat.zero_le j) hj (by omega); exact this) p3.symm hne)
        refine ae_aload_n (pc := 120) dX1_collect_120 rfl ?_
        refine ae_getR (pc := 121) (k := 12) (c := 1) (j := 2) (q := 14) dX1_collect_121 rfl rfl (Nat.le_of_ble_eq_true rfl) rfl (Nat.le_of_ble_eq_true rfl) rfl ?_
        refine ae_aload_n (pc := 124) dX1_collect_124 rfl ?_
        refine ae_getI (pc := 125) (k := 12) (c := 1) (j := 4) (v := nI n) dX1_collect_125 rfl rfl (Or.inl rfl) (Nat.le_of_ble_eq_true rfl) rfl (Nat.le_of_ble_eq_true rfl) e4 ?_
        refine ae_iload_n (pc := 128) dX1_collect_128 rfl ?_
        refine ae_iastore (pc := 129) (k := 14) (N := 256) (n) dX1_collect_129 (Nat.le_of_ble_eq_true rfl) rfl rfl rfl (by omega) rfl ?_
        refine ae_M (hgM_u14 _ _ _ _ _ _) ?_
        rw [hgM_14]
        refine ae_aload_n (pc := 130) dX1_collect_130 rfl ?_
        refine ae_getR (pc := 131) (k := 12) (c := 1) (j := 3) (q := 15) dX1_collect_131 rfl rfl (Nat.le_of_ble_eq_true rfl) rfl (Nat.le_of_ble_eq_true rfl) rfl ?_
        refine ae_aload_n (pc := 134) dX1_collect_134 rfl ?_
        refine ae_getI (pc := 135) (k := 12) (c := 1) (j := 4) (v := nI n) dX1_collect_135 rfl rfl (Or.inl rfl) (Nat.le_of_ble_eq_true rfl) rfl (Nat.le_of_ble_eq_true rfl) (by rw [hgM_12, upd_self]) ?_
        refine ae_iconst (pc := 138) (v := nI 1) dX1_collect_138 (by decide) ?_
        refine ae_iastore (pc := 139) (k := 15) (N := 256) (n) dX1_collect_139 (Nat.le_of_ble_eq_true rfl) rfl rfl rfl (by omega) rfl ?_
        refine ae_M (hgM_u15 _ _ _ _ _ _) ?_
        rw [hgM_15]
        refine ae_aload_n (pc := 140) dX1_collect_140 rfl ?_
        refine ae_dup (pc := 141) dX1_collect_141 rfl ?_
        refine ae_getI (pc := 142) (k := 12) (c := 1) (j := 4) (v := nI n) dX1_collect_142 rfl rfl (Or.inl rfl) (Nat.le_of_ble_eq_true rfl) rfl (Nat.le_of_ble_eq_true rfl) (by rw [hgM_12, upd_self]) ?_
        refine ae_iconst (pc := 145) (v := nI 1) dX1_collect_145 (by decide) ?_
        refine ae_iadd (pc := 146) (v := nI (n + 1)) dX1_collect_146 (nI_add _ _) ?_
        refine ae_putfield (pc := 147) (k := 12) (c := 1) (j := 4) dX1_collect_147 rfl rfl (Nat.le_of_ble_eq_true rfl) rfl (Nat.le_of_ble_eq_true rfl) rfl rfl ?_
        refine ae_M (hgM_u12 _ _ _ _ _ _) ?_
        rw [hgM_12, uu]
        refine ae_iinc (pc := 150) (v := nI (i + 1)) dX1_collect_150 rfl (nI_inc i) ?_
        refine ae_goto (pc := 153) (t := 67) dX1_collect_153 (by decide) ?_
        exact ae_forget [3] rfl st
      by_cases h0 : 0 < n
      · have m0 : ¬ nI n ≤ 0 := by rw [show (0 : Int32) = nI 0 from rfl, nI_leI (by omega) (by omega)]; omega
        by_cases he : h (n - 1) = c
        · obtain ⟨-, hv⟩ := hc.2.2.1 (n - 1) (by omega)
          rw [he] at hv
          have st := ih hi2 n h _ (HC_same hc h0 p3.symm he _ hv rfl)
          refine ae_aload_n (pc := 72) dX1_collect_72 rfl ?_
          refine ae_getR (pc := 73) (k := 12) (c := 1) (j := 1) (q := 13) dX1_collect_73 rfl rfl (Nat.le_of_ble_eq_true rfl) rfl (Nat.le_of_ble_eq_true rfl) rfl ?_
          refine ae_iload_n (pc := 76) dX1_collect_76 rfl ?_
          refine ae_laload (pc := 77) (k := 13) (N := 256) (v := c.toInt64) (i) dX1_collect_77 (Nat.le_of_ble_eq_true rfl) rfl rfl rfl (by omega) (by rw [hgM_13]; exact p3.symm) ?_
          refine ae_l2i (pc := 78) (v := c) dX1_collect_78 (i64_back c) ?_
          refine ae_istore_n (pc := 79) dX1_collect_79 rfl (Nat.le_of_ble_eq_true rfl) ?_
          refine ae_aload_n (pc := 80) dX1_collect_80 rfl ?_
          refine ae_getI (pc := 81) (k := 12) (c := 1) (j := 4) (v := nI n) dX1_collect_81 rfl rfl (Or.inl rfl) (Nat.le_of_ble_eq_true rfl) rfl (Nat.le_of_ble_eq_true rfl) e4 ?_
          refine ae_if_le (pc := 84) (t := 120) dX1_collect_84 (by decide) (fun c84 => ?_) (fun c84 => ?_)
          · exact absurd c84 m0
          refine ae_aload_n (pc := 87) dX1_collect_87 rfl ?_
          refine ae_getR (pc := 88) (k := 12) (c := 1) (j := 2) (q := 14) dX1_collect_88 rfl rfl (Nat.le_of_ble_eq_true rfl) rfl (Nat.le_of_ble_eq_true rfl) rfl ?_
          refine ae_aload_n (pc := 91) dX1_collect_91 rfl ?_
          refine ae_getI (pc := 92) (k := 12) (c := 1) (j := 4) (v := nI n) dX1_collect_92 rfl rfl (Or.inl rfl) (Nat.le_of_ble_eq_true rfl) rfl (Nat.le_of_ble_eq_true rfl) e4 ?_
          refine ae_iconst (pc := 95) (v := nI 1) dX1_collect_95 (by decide) ?_
          refine ae_isub (pc := 96) (v := nI (n - 1)) dX1_collect_96 (nI_sub (by omega)) ?_
          refine ae_iaload (pc := 97) (k := 14) (N := 256) (v := c) (n - 1) dX1_collect_97 (Nat.le_of_ble_eq_true rfl) rfl rfl rfl (by omega) (by rw [hgM_14]; exact he) ?_
          refine ae_iload_n (pc := 98) dX1_collect_98 rfl ?_
          refine ae_icmp_ne (pc := 99) (t := 120) dX1_collect_99 (by decide) (fun c99 => ?_) (fun c99 => ?_)
          · exact absurd rfl c99
          refine ae_aload_n (pc := 102) dX1_collect_102 rfl ?_
          refine ae_getR (pc := 103) (k := 12) (c := 1) (j := 3) (q := 15) dX1_collect_103 rfl rfl (Nat.le_of_ble_eq_true rfl) rfl (Nat.le_of_ble_eq_true rfl) rfl ?_
          refine ae_aload_n (pc := 106) dX1_collect_106 rfl ?_
          refine ae_getI (pc := 107) (k := 12) (c := 1) (j := 4) (v := nI n) dX1_collect_107 rfl rfl (Or.inl rfl) (Nat.le_of_ble_eq_true rfl) rfl (Nat.le_of_ble_eq_true rfl) e4 ?_
          refine ae_iconst (pc := 110) (v := nI 1) dX1_collect_110 (by decide) ?_
          refine ae_isub (pc := 111) (v := nI (n - 1)) dX1_collect_111 (nI_sub (by omega)) ?_
          refine ae_dup2 (pc := 112) dX1_collect_112 rfl rfl ?_
          refine ae_iaload (pc := 113) (k := 15) (N := 256) (v := nI ((sgL K 0 i).count c.toInt64)) (n - 1) dX1_collect_113 (Nat.le_of_ble_eq_true rfl) rfl rfl rfl (by omega) (by rw [hgM_15]; exact hv) ?_
          refine ae_iconst (pc := 114) (v := nI 1) dX1_collect_114 (by decide) ?_
          refine ae_iadd (pc := 115) (v := nI ((sgL K 0 i).count c.toInt64 + 1)) dX1_collect_115 (nI_add _ _) ?_
          refine ae_iastore (pc := 116) (k := 15) (N := 256) (n - 1) dX1_collect_116 (Nat.le_of_ble_eq_true rfl) rfl rfl rfl (by omega) rfl ?_
          refine ae_M (hgM_u15 _ _ _ _ _ _) ?_
          rw [hgM_15]
          refine ae_goto (pc := 117) (t := 150) dX1_collect_117 (by decide) ?_
          refine ae_iinc (pc := 150) (v := nI (i + 1)) dX1_collect_150 rfl (nI_inc i) ?_
          refine ae_goto (pc := 153) (t := 67) dX1_collect_153 (by decide) ?_
          exact ae_forget [3] rfl st
        · have st := new (fun _ => he)
          refine ae_aload_n (pc := 72) dX1_collect_72 rfl ?_
          refine ae_getR (pc := 73) (k := 12) (c := 1) (j := 1) (q := 13) dX1_collect_73 rfl rfl (Nat.le_of_ble_eq_true rfl) rfl (Nat.le_of_ble_eq_true rfl) rfl ?_
          refine ae_iload_n (pc := 76) dX1_collect_76 rfl ?_
          refine ae_laload (pc := 77) (k := 13) (N := 256) (v := c.toInt64) (i) dX1_collect_77 (Nat.le_of_ble_eq_true rfl) rfl rfl rfl (by omega) (by rw [hgM_13]; exact p3.symm) ?_
          refine ae_l2i (pc := 78) (v := c) dX1_collect_78 (i64_back c) ?_
          refine ae_istore_n (pc := 79) dX1_collect_79 rfl (Nat.le_of_ble_eq_true rfl) ?_
          refine ae_aload_n (pc := 80) dX1_collect_80 rfl ?_
          refine ae_getI (pc := 81) (k := 12) (c := 1) (j := 4) (v := nI n) dX1_collect_81 rfl rfl (Or.inl rfl) (Nat.le_of_ble_eq_true rfl) rfl (Nat.le_of_ble_eq_true rfl) e4 ?_
          refine ae_if_le (pc := 84) (t := 120) dX1_collect_84 (by decide) (fun c84 => ?_) (fun c84 => ?_)
          · exact absurd c84 m0
          refine ae_aload_n (pc := 87) dX1_collect_87 rfl ?_
          refine ae_getR (pc := 88) (k := 12) (c := 1) (j := 2) (q := 14) dX1_collect_88 rfl rfl (Nat.le_of_ble_eq_true rfl) rfl (Nat.le_of_ble_eq_true rfl) rfl ?_
          refine ae_aload_n (pc := 91) dX1_collect_91 rfl ?_
          refine ae_getI (pc := 92) (k := 12) (c := 1) (j := 4) (v := nI n) dX1_collect_92 rfl rfl (Or.inl rfl) (Nat.le_of_ble_eq_true rfl) rfl (Nat.le_of_ble_eq_true rfl) e4 ?_
          refine ae_iconst (pc := 95) (v := nI 1) dX1_collect_95 (by decide) ?_
          refine ae_isub (pc := 96) (v := nI (n - 1)) dX1_collect_96 (nI_sub (by omega)) ?_
          refine ae_iaload (pc := 97) (k := 14) (N := 256) (v := h (n - 1)) (n - 1) dX1_collect_97 (Nat.le_of_ble_eq_true rfl) rfl rfl rfl (by omega) (by rw [hgM_14]) ?_
          refine ae_iload_n (pc := 98) dX1_collect_98 rfl ?_
          refine ae_icmp_ne (pc := 99) (t := 120) dX1_collect_99 (by decide) (fun c99 => ?_) (fun c99 => ?_)
          · exact st
          · exact absurd (Classical.not_not.mp c99) he
      · have st := new (fun q => absurd q h0)
        have hn0 : n = 0 := by omega
        refine ae_aload_n (pc := 72) dX1_collect_72 rfl ?_
        refine ae_getR (pc := 73) (k := 12) (c := 1) (j := 1) (q := 13) dX1_collect_73 rfl rfl (Nat.le_of_ble_eq_true rfl) rfl (Nat.le_of_ble_eq_true rfl) rfl ?_
        refine ae_iload_n (pc := 76) dX1_collect_76 rfl ?_
        refine ae_laload (pc := 77) (k := 13) (N := 256) (v := c.toInt64) (i) dX1_collect_77 (Nat.le_of_ble_eq_true rfl) rfl rfl rfl (by omega) (by rw [hgM_13]; exact p3.symm) ?_
        refine ae_l2i (pc := 78) (v := c) dX1_collect_78 (i64_back c) ?_
        refine ae_istore_n (pc := 79) dX1_collect_79 rfl (Nat.le_of_ble_eq_true rfl) ?_
        refine ae_aload_n (pc := 80) dX1_collect_80 rfl ?_
        refine ae_getI (pc := 81) (k := 12) (c := 1) (j := 4) (v := nI n) dX1_collect_81 rfl rfl (Or.inl rfl) (Nat.le_of_ble_eq_true rfl) rfl (Nat.le_of_ble_eq_true rfl) e4 ?_
        refine ae_if_le (pc := 84) (t := 120) dX1_collect_84 (by decide) (fun c84 => ?_) (fun c84 => ?_)
        · exact st
        · exact absurd (by rw [hn0]; decide) c84
  have first : ∀ K : jT, sgL K 0 (opq f 0) = pxL f 0 → am_E none (am_R (d + 1)) cX1_collect 1 none (fun v M' => v = none ∧ ∃ n K h m, M' = hgM M K (upd (M.1 12) 4 (nI n)) h m ∧ HG f n h m) (4, [some (.ref 12), some (.int (nI (opq f 0))), some (.int (nI 0)), none], [], hgM M K (M.1 12) (M.1 14) (M.1 15)) := by
    refine am_down (P := fun p => ∀ K : jT, sgL K 0 (opq f p) = pxL f p → am_E none (am_R (d + 1)) cX1_collect 1 none _ (4, [some (.ref 12), some (.int (nI (opq f p))), some (.int (nI p)), none], [], hgM M K (M.1 12) (M.1 14) (M.1 15))) (fA f) (fun p hp ih K hK => ?_)
    refine ae_iload_n (pc := 4) dX1_collect_4 rfl ?_
    refine ae_aload_n (pc := 5) dX1_collect_5 rfl ?_
    refine ae_getR (pc := 6) (k := 12) (c := 1) (j := 0) (q := 1) dX1_collect_6 rfl rfl (Nat.le_of_ble_eq_true rfl) rfl (Nat.le_of_ble_eq_true rfl) rfl ?_
    refine ae_pcallV (pc := 9) (z := zX7_area) (k := 1) (As := []) dX1_collect_9 rfl rfl rfl rfl (Nat.le_of_ble_eq_true rfl) rfl (Nat.le_of_ble_eq_true rfl) (Nat.le_of_ble_eq_true rfl) (sc_area d _ f (ag _ _ _ _) hf.1) ?_
    refine ae_icmp_ge (pc := 12) (t := 51) dX1_collect_12 (by decide) (fun c12 => ?_) (fun c12 => ?_)
    · have hp2 : p = fA f := by rw [nI_leI (by omega) (by omega)] at c12; omega
      subst hp2
      have hso := sc_sort_13 d (hgM M K (M.1 12) (M.1 14) (M.1 15)) 0 (opq f (fA f)) (by omega)
      rw [Nat.zero_add, hgM_13] at hso
      refine ae_aload_n (pc := 51) dX1_collect_51 rfl ?_
      refine ae_getR (pc := 52) (k := 12) (c := 1) (j := 1) (q := 13) dX1_collect_52 rfl rfl (Nat.le_of_ble_eq_true rfl) rfl (Nat.le_of_ble_eq_true rfl) rfl ?_
      refine ae_iconst (pc := 55) (v := nI 0) dX1_collect_55 (by decide) ?_
      refine ae_iload_n (pc := 56) dX1_collect_56 rfl ?_
      refine ae_callS (pc := 57) (z := zX10_sortKeys) (As := [_, _, _]) dX1_collect_57 rfl rfl rfl rfl (Nat.le_of_ble_eq_true rfl) (hso) (fun v M' hq => ?_)
      obtain ⟨rfl, K', rfl, q1, q2⟩ := hq
      rw [hgM_ky]
      rw [← hK] at second
      have st := second K' q1.1 q2 0 (M.1 14) (M.1 15) (HC_0 _ _ _)
      refine ae_aload_n (pc := 60) dX1_collect_60 rfl ?_
      refine ae_iconst (pc := 61) (v := nI 0) dX1_collect_61 (by decide) ?_
      refine ae_putfield (pc := 62) (k := 12) (c := 1) (j := 4) dX1_collect_62 rfl rfl (Nat.le_of_ble_eq_true rfl) rfl (Nat.le_of_ble_eq_true rfl) rfl rfl ?_
      refine ae_M (hgM_u12 _ _ _ _ _ _) ?_
      rw [hgM_12]
      refine ae_iconst (pc := 65) (v := nI 0) dX1_collect_65 (by decide) ?_
      refine ae_istore_n (pc := 66) dX1_collect_66 rfl (Nat.le_of_ble_eq_true rfl) ?_
      exact st
    · have hp2 : p < fA f := by rw [nI_leI (by omega) (by omega)] at c12; omega
      have hop := sc_isOpaque d (hgM M K (M.1 12) (M.1 14) (M.1 15)) f (ag _ _ _ _) hf.1 p hp2
      have ih2 := ih hp2
      rw [opq_s, pxL_s] at ih2
      by_cases ho : f (2 + p) = -1
      · rw [if_pos ho, if_pos ho] at ih2
        rw [bI_f (fun q => q ho)] at hop
        have st := ih2 K hK
        refine ae_aload_n (pc := 15) dX1_collect_15 rfl ?_
        refine ae_getR (pc := 16) (k := 12) (c := 1) (j := 0) (q := 1) dX1_collect_16 rfl rfl (Nat.le_of_ble_eq_true rfl) rfl (Nat.le_of_ble_eq_true rfl) rfl ?_
        refine ae_iload_n (pc := 19) dX1_collect_19 rfl ?_
        refine ae_pcallV (pc := 20) (z := zX7_isOpaque) (k := 1) (As := [_]) dX1_collect_20 rfl rfl rfl rfl (Nat.le_of_ble_eq_true rfl) rfl (Nat.le_of_ble_eq_true rfl) (Nat.le_of_ble_eq_true rfl) (hop) ?_
        refine ae_if_eq (pc := 23) (t := 45) dX1_collect_23 (by decide) (fun c23 => ?_) (fun c23 => ?_)
        rotate_left
        · exact absurd rfl c23
        refine ae_iinc (pc := 45) (v := nI (p + 1)) dX1_collect_45 rfl (nI_inc p) ?_
        refine ae_goto (pc := 48) (t := 4) dX1_collect_48 (by decide) ?_
        exact st
      · rw [if_neg ho, if_neg ho] at ih2
        rw [bI_t ho] at hop
        have hol := opq_le f p
        have st := ih2 (vp_updL K (opq f p) (f (2 + p)).toInt64) (by
          rw [sgL_s, Nat.zero_add, updL_self, ← hK]
          congr 1
          exact sgL_cg (fun j j1 j2 => by simp [vp_updL, show j ≠ opq f p by omega]))
        refine ae_aload_n (pc := 15) dX1_collect_15 rfl ?_
        refine ae_getR (pc := 16) (k := 12) (c := 1) (j := 0) (q := 1) dX1_collect_16 rfl rfl (Nat.le_of_ble_eq_true rfl) rfl (Nat.le_of_ble_eq_true rfl) rfl ?_
        refine ae_iload_n (pc := 19) dX1_collect_19 rfl ?_
        refine ae_pcallV (pc := 20) (z := zX7_isOpaque) (k := 1) (As := [_]) dX1_collect_20 rfl rfl rfl rfl (Nat.le_of_ble_eq_true rfl) rfl (Nat.le_of_ble_eq_true rfl) (Nat.le_of_ble_eq_true rfl) (hop) ?_
        refine ae_if_eq (pc := 23) (t := 45) dX1_collect_23 (by decide) (fun c23 => ?_) (fun c23 => ?_)
        · exact absurd c23 (by decide)
        refine ae_aload_n (pc := 26) dX1_collect_26 rfl ?_
        refine ae_getR (pc := 27) (k := 12) (c := 1) (j := 1) (q := 13) dX1_collect_27 rfl rfl (Nat.le_of_ble_eq_true rfl) rfl (Nat.le_of_ble_eq_true rfl) rfl ?_
        refine ae_iload_n (pc := 30) dX1_collect_30 rfl ?_
        refine ae_aload_n (pc := 31) dX1_collect_31 rfl ?_
        refine ae_getR (pc := 32) (k := 12) (c := 1) (j := 0) (q := 1) dX1_collect_32 rfl rfl (Nat.le_of_ble_eq_true rfl) rfl (Nat.le_of_ble_eq_true rfl) rfl ?_
        refine ae_getR (pc := 35) (k := 1) (c := 7) (j := 2) (q := 2) dX1_collect_35 rfl rfl (Nat.le_of_ble_eq_true rfl) rfl (Nat.le_of_ble_eq_true rfl) rfl ?_
        refine ae_iload_n (pc := 38) dX1_collect_38 rfl ?_
        refine ae_iaload (pc := 39) (k := 2) (N := 256) (v := f (2 + p)) (p) dX1_collect_39 (Nat.le_of_ble_eq_true rfl) rfl rfl rfl (by omega) ((ag _ _ _ _).2.1 p hp2) ?_
        refine ae_i2l (pc := 40) dX1_collect_40 rfl ?_
        refine ae_lastore (pc := 41) (k := 13) (N := 256) (opq f p) dX1_collect_41 (Nat.le_of_ble_eq_true rfl) rfl rfl rfl (by omega) rfl ?_
        refine ae_M (hgM_u13 _ _ _ _ _ _) ?_
        rw [hgM_13]
        refine ae_iinc (pc := 42) (v := nI (opq f p + 1)) dX1_collect_42 rfl (nI_inc _) ?_
        refine ae_iinc (pc := 45) (v := nI (p + 1)) dX1_collect_45 rfl (nI_inc p) ?_
        refine ae_goto (pc := 48) (t := 4) dX1_collect_48 (by decide) ?_
        exact st
  have st := first (M.2 13) rfl
  rw [hgM_eta] at st
  refine ae_iconst (pc := 0) (v := nI 0) dX1_collect_0 (by decide) ?_
  refine ae_istore_n (pc := 1) dX1_collect_1 rfl (Nat.le_of_ble_eq_true rfl) ?_
  refine ae_iconst (pc := 2) (v := nI 0) dX1_collect_2 (by decide) ?_
  refine ae_istore_n (pc := 3) dX1_collect_3 rfl (Nat.le_of_ble_eq_true rfl) ?_
  exact st

