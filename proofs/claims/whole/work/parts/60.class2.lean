theorem sc_append (d : Nat) (M : am_M) (s : Nat) (hs : M.1 1 3 = nI s) (hs2 : s < 16) (c l : Int32) : am_R (d + 1) zX7_append [.ref 1, .int c, .int l] M (fun v M' => v = none ∧ M' = apM M s c l) := by
  refine ae_enter (z := zX7_append) (y := yX7_append) (cc := cX7_append) (mL := 3) (rt := none) (ci := 7) (st := false) (np := 2) (L := [some (.ref 1), some (.int c), some (.int l)]) rfl (by decide) (Nat.le_of_ble_eq_true rfl) rfl ?_
  refine ae_aload_n (pc := 0) dX7_append_0 rfl ?_
  refine ae_getI (pc := 1) (k := 1) (c := 7) (j := 3) (v := nI s) dX7_append_1 rfl rfl (Or.inl rfl) (Nat.le_of_ble_eq_true rfl) rfl (Nat.le_of_ble_eq_true rfl) hs ?_
  refine ae_bipush (pc := 4) (v := nI 16) dX7_append_4 (by decide) ?_
  refine ae_icmp_lt (pc := 6) (t := 10) dX7_append_6 (by decide) (fun c6 => ?_) (fun c6 => ?_)
  · refine ae_aload_n (pc := 10) dX7_append_10 rfl ?_
    refine ae_getR (pc := 11) (k := 1) (c := 7) (j := 4) (q := 3) dX7_append_11 rfl rfl (Nat.le_of_ble_eq_true rfl) rfl (Nat.le_of_ble_eq_true rfl) rfl ?_
    refine ae_aload_n (pc := 14) dX7_append_14 rfl ?_
    refine ae_getI (pc := 15) (k := 1) (c := 7) (j := 3) (v := nI s) dX7_append_15 rfl rfl (Or.inl rfl) (Nat.le_of_ble_eq_true rfl) rfl (Nat.le_of_ble_eq_true rfl) hs ?_
    refine ae_iload_n (pc := 18) dX7_append_18 rfl ?_
    refine ae_iastore (pc := 19) (k := 3) (N := 16) (s) dX7_append_19 (Nat.le_of_ble_eq_true rfl) rfl rfl rfl (by omega) rfl ?_
    refine ae_aload_n (pc := 20) dX7_append_20 rfl ?_
    refine ae_getR (pc := 21) (k := 1) (c := 7) (j := 5) (q := 4) dX7_append_21 rfl rfl (Nat.le_of_ble_eq_true rfl) rfl (Nat.le_of_ble_eq_true rfl) rfl ?_
    refine ae_aload_n (pc := 24) dX7_append_24 rfl ?_
    refine ae_getI (pc := 25) (k := 1) (c := 7) (j := 3) (v := nI s) dX7_append_25 rfl rfl (Or.inl rfl) (Nat.le_of_ble_eq_true rfl) rfl (Nat.le_of_ble_eq_true rfl) hs ?_
    refine ae_iload_n (pc := 28) dX7_append_28 rfl ?_
    refine ae_bastore (pc := 29) (k := 4) (N := 16) (s) dX7_append_29 (Nat.le_of_ble_eq_true rfl) rfl rfl rfl (by omega) rfl ?_
    refine ae_aload_n (pc := 30) dX7_append_30 rfl ?_
    refine ae_dup (pc := 31) dX7_append_31 rfl ?_
    refine ae_getI (pc := 32) (k := 1) (c := 7) (j := 3) (v := nI s) dX7_append_32 rfl rfl (Or.inl rfl) (Nat.le_of_ble_eq_true rfl) rfl (Nat.le_of_ble_eq_true rfl) hs ?_
    refine ae_iconst (pc := 35) (v := nI 1) dX7_append_35 (by decide) ?_
    refine ae_iadd (pc := 36) (v := nI (s + 1)) dX7_append_36 (nI_add _ _) ?_
    refine ae_putfield (pc := 37) (k := 1) (c := 7) (j := 3) dX7_append_37 rfl rfl (Nat.le_of_ble_eq_true rfl) rfl (Nat.le_of_ble_eq_true rfl) rfl rfl ?_
    refine ae_return (pc := 40) dX7_append_40 rfl ?_
    exact ⟨rfl, apM_x M s c l⟩
  · exact absurd ((nI_ltI (by omega) (by omega)).mpr hs2) c6
theorem sc_dropEntry (d : Nat) (M : am_M) (f : fT) (hg : AG M f) (hf : wf f) (e : Nat) (he : e < fN f) : am_R (d + 2) zX7_dropEntry [.ref 1, .int (nI e)] M (fun v M' => v = none ∧ NW M (rmF f e (fN f - 1 - e)) M') := by
  refine ae_enter (z := zX7_dropEntry) (y := yX7_dropEntry) (cc := cX7_dropEntry) (mL := 3) (rt := none) (ci := 7) (st := false) (np := 1) (L := [some (.ref 1), some (.int (nI e)), none]) rfl (by decide) (Nat.le_of_ble_eq_true rfl) rfl ?_
  obtain ⟨-, -, a3⟩ := AG_w hg hf.1
  have hN := hf.1.2.2.2
  have hh := sc_hasEntry d M f hg hf.1 (nI e)
  rw [bI_t (inE_of hf.1 he)] at hh
  refine ae_aload_n (pc := 0) dX7_dropEntry_0 rfl ?_
  refine ae_iload_n (pc := 1) dX7_dropEntry_1 rfl ?_
  refine ae_pcallV (pc := 2) (z := zX7_hasEntry) (k := 1) (As := [_]) dX7_dropEntry_2 rfl rfl rfl rfl (Nat.le_of_ble_eq_true rfl) rfl (Nat.le_of_ble_eq_true rfl) (Nat.le_of_ble_eq_true rfl) (hh) ?_
  refine ae_if_ne (pc := 5) (t := 9) dX7_dropEntry_5 (by decide) (fun c5 => ?_) (fun c5 => ?_)
  rotate_left
  · exact absurd (Classical.not_not.mp c5) (by decide)
  refine ae_iload_n (pc := 9) dX7_dropEntry_9 rfl ?_
  refine ae_istore_n (pc := 10) dX7_dropEntry_10 rfl (Nat.le_of_ble_eq_true rfl) ?_
  skip
  refine ae_M (M' := nwM M (M.1 1) (M.1 2) (shD (M.1 3) e 0 id) (shD (M.1 4) e 0 (vp_nar .boolean)) (M.1 5)) (by rw [shD_0, shD_0, nwM_eta]) ?_
  have main : am_E none (am_R (d + 1)) cX7_dropEntry 7 none (fun v M' => v = none ∧ NW M (rmF f e (fN f - 1 - e)) M') (11, [some (.ref 1), some (.int (nI e)), some (.int (nI (e + 0)))], [], nwM M (M.1 1) (M.1 2) (shD (M.1 3) e 0 id) (shD (M.1 4) e 0 (vp_nar .boolean)) (M.1 5)) := by
    refine am_down (P := fun k => am_E none (am_R (d + 1)) cX7_dropEntry 7 none _ (11, [some (.ref 1), some (.int (nI e)), some (.int (nI (e + k)))], [], nwM M (M.1 1) (M.1 2) (shD (M.1 3) e k id) (shD (M.1 4) e k (vp_nar .boolean)) (M.1 5))) (fN f - 1 - e) (fun k hk ih => ?_)
    refine ae_iload_n (pc := 11) dX7_dropEntry_11 rfl ?_
    refine ae_iconst (pc := 12) (v := nI 1) dX7_dropEntry_12 (by decide) ?_
    refine ae_iadd (pc := 13) (v := nI (e + k + 1)) dX7_dropEntry_13 (nI_add _ _) ?_
    refine ae_aload_n (pc := 14) dX7_dropEntry_14 rfl ?_
    refine ae_getI (pc := 15) (k := 1) (c := 7) (j := 3) (v := nI (fN f)) dX7_dropEntry_15 rfl rfl (Or.inl rfl) (Nat.le_of_ble_eq_true rfl) rfl (Nat.le_of_ble_eq_true rfl) (by rw [nwM_1]; exact a3) ?_
    refine ae_icmp_ge (pc := 18) (t := 55) dX7_dropEntry_18 (by decide) (fun c18 => ?_) (fun c18 => ?_)
    · have hk2 : k = fN f - 1 - e := by rw [nI_leI (by omega) (by omega)] at c18; omega
      subst hk2
      refine ae_aload_n (pc := 55) dX7_dropEntry_55 rfl ?_
      refine ae_dup (pc := 56) dX7_dropEntry_56 rfl ?_
      refine ae_getI (pc := 57) (k := 1) (c := 7) (j := 3) (v := nI (fN f)) dX7_dropEntry_57 rfl rfl (Or.inl rfl) (Nat.le_of_ble_eq_true rfl) rfl (Nat.le_of_ble_eq_true rfl) (by rw [nwM_1]; exact a3) ?_
      refine ae_iconst (pc := 60) (v := nI 1) dX7_dropEntry_60 (by decide) ?_
      refine ae_isub (pc := 61) (v := nI (fN f - 1)) dX7_dropEntry_61 (nI_sub (by omega)) ?_
      refine ae_putfield (pc := 62) (k := 1) (c := 7) (j := 3) dX7_dropEntry_62 rfl rfl (Nat.le_of_ble_eq_true rfl) rfl (Nat.le_of_ble_eq_true rfl) rfl rfl ?_
      refine ae_return (pc := 65) dX7_dropEntry_65 rfl ?_
      refine ⟨rfl, _, _, _, _, _, nwM_u1 _ _ _ _ _ _ _, ?_⟩
      rw [nwM_1]
      exact agS_rm hf hg he
    · have hk2 : k < fN f - 1 - e := by rw [nI_leI (by omega) (by omega)] at c18; omega
      refine ae_aload_n (pc := 21) dX7_dropEntry_21 rfl ?_
      refine ae_getR (pc := 22) (k := 1) (c := 7) (j := 4) (q := 3) dX7_dropEntry_22 rfl rfl (Nat.le_of_ble_eq_true rfl) rfl (Nat.le_of_ble_eq_true rfl) rfl ?_
      refine ae_iload_n (pc := 25) dX7_dropEntry_25 rfl ?_
      refine ae_aload_n (pc := 26) dX7_dropEntry_26 rfl ?_
      refine ae_getR (pc := 27) (k := 1) (c := 7) (j := 4) (q := 3) dX7_dropEntry_27 rfl rfl (Nat.le_of_ble_eq_true rfl) rfl (Nat.le_of_ble_eq_true rfl) rfl ?_
      refine ae_iload_n (pc := 30) dX7_dropEntry_30 rfl ?_
      refine ae_iconst (pc := 31) (v := nI 1) dX7_dropEntry_31 (by decide) ?_
      refine ae_iadd (pc := 32) (v := nI (e + k + 1)) dX7_dropEntry_32 (nI_add _ _) ?_
      refine ae_iaload (pc := 33) (k := 3) (N := 16) (v := id (shD (M.1 3) e k id (e + k + 1))) (e + k + 1) dX7_dropEntry_33 (Nat.le_of_ble_eq_true rfl) rfl rfl rfl (by omega) (by rw [nwM_3]; rfl) ?_
      refine ae_iastore (pc := 34) (k := 3) (N := 16) (e + k) dX7_dropEntry_34 (Nat.le_of_ble_eq_true rfl) rfl rfl rfl (by omega) rfl ?_
      refine ae_M (nwM_u3 _ _ _ _ _ _ _) ?_
      rw [nwM_3, shD_s]
      refine ae_aload_n (pc := 35) dX7_dropEntry_35 rfl ?_
      refine ae_getR (pc := 36) (k := 1) (c := 7) (j := 5) (q := 4) dX7_dropEntry_36 rfl rfl (Nat.le_of_ble_eq_true rfl) rfl (Nat.le_of_ble_eq_true rfl) rfl ?_
      refine ae_iload_n (pc := 39) dX7_dropEntry_39 rfl ?_
      refine ae_aload_n (pc := 40) dX7_dropEntry_40 rfl ?_
      refine ae_getR (pc := 41) (k := 1) (c := 7) (j := 5) (q := 4) dX7_dropEntry_41 rfl rfl (Nat.le_of_ble_eq_true rfl) rfl (Nat.le_of_ble_eq_true rfl) rfl ?_
      refine ae_iload_n (pc := 44) dX7_dropEntry_44 rfl ?_
      refine ae_iconst (pc := 45) (v := nI 1) dX7_dropEntry_45 (by decide) ?_
      refine ae_iadd (pc := 46) (v := nI (e + k + 1)) dX7_dropEntry_46 (nI_add _ _) ?_
      refine ae_baload (pc := 47) (k := 4) (N := 16) (v := shD (M.1 4) e k (vp_nar .boolean) (e + k + 1)) (e + k + 1) dX7_dropEntry_47 (Nat.le_of_ble_eq_true rfl) rfl rfl rfl (by omega) (by rw [nwM_4]) ?_
      refine ae_bastore (pc := 48) (k := 4) (N := 16) (e + k) dX7_dropEntry_48 (Nat.le_of_ble_eq_true rfl) rfl rfl rfl (by omega) rfl ?_
      refine ae_M (nwM_u4 _ _ _ _ _ _ _) ?_
      rw [nwM_4, shD_s]
      refine ae_iinc (pc := 49) (v := nI (e + (k + 1))) dX7_dropEntry_49 rfl (nI_inc (e + k)) ?_
      refine ae_goto (pc := 52) (t := 11) dX7_dropEntry_52 (by decide) ?_
      exact ih hk2
  exact main
theorem sc_keepLocked (d : Nat) (M : am_M) (f : fT) (hg : AG M f) (hf : wf f) (g : fT) (T : List Int32) (hk : KE f (fN f) 0 g T) : am_R (d + 2) zX7_keepLocked [.ref 1] M (fun v M' => v = none ∧ NW M g M') := by
  refine ae_enter (z := zX7_keepLocked) (y := yX7_keepLocked) (cc := cX7_keepLocked) (mL := 3) (rt := none) (ci := 7) (st := false) (np := 0) (L := [some (.ref 1), none, none]) rfl (by decide) (Nat.le_of_ble_eq_true rfl) rfl ?_
  obtain ⟨-, -, a3⟩ := AG_w hg hf.1
  have hN := hf.1.2.2.2
  have main : ∀ a c l, KH f (M.1 1) (M.1 3) (M.1 4) 0 a c l → am_E none (am_R (d + 1)) cX7_keepLocked 7 none (fun v M' => v = none ∧ NW M g M') (12, [some (.ref 1), some (.int (nI (fN f))), some (.int (nI 0))], [], nwM M a (M.1 2) c l (M.1 5)) := by
    refine am_down (P := fun e => ∀ a c l, KH f (M.1 1) (M.1 3) (M.1 4) e a c l → am_E none (am_R (d + 1)) cX7_keepLocked 7 none _ (12, [some (.ref 1), some (.int (nI (fN f))), some (.int (nI e))], [], nwM M a (M.1 2) c l (M.1 5))) (fN f) (fun e he ih a c l hh => ?_)
    have hle := lkL_le f e
    refine ae_iload_n (pc := 12) dX7_keepLocked_12 rfl ?_
    refine ae_iload_n (pc := 13) dX7_keepLocked_13 rfl ?_
    refine ae_icmp_ge (pc := 14) (t := 43) dX7_keepLocked_14 (by decide) (fun c14 => ?_) (fun c14 => ?_)
    · have he2 : e = fN f := by rw [nI_leI (by omega) (by omega)] at c14; omega
      subst he2
      refine ae_return (pc := 43) dX7_keepLocked_43 rfl ?_
      exact ⟨rfl, _, _, _, _, _, rfl, agS_ke hf.1 hg hk hh⟩
    · have he2 : e < fN f := by rw [nI_leI (by omega) (by omega)] at c14; omega
      obtain ⟨b1, b2⟩ := hg.2.2.1 e he2
      obtain ⟨r1, r2⟩ := hh.2.2.2 e (Nat.le_refl e)
      by_cases hlo : f (275 + e) = 1
      · have hap := sc_append d (nwM M a (M.1 2) c l (M.1 5)) (lkL f e).length (by rw [nwM_1]; exact hh.2.1) (by omega) (f (259 + e)) (nI 1)
        unfold apM at hap
        rw [nwM_1, nwM_2, nwM_3, nwM_4, nwM_5, nwM_nw] at hap
        refine ae_aload_n (pc := 17) dX7_keepLocked_17 rfl ?_
        refine ae_getR (pc := 18) (k := 1) (c := 7) (j := 5) (q := 4) dX7_keepLocked_18 rfl rfl (Nat.le_of_ble_eq_true rfl) rfl (Nat.le_of_ble_eq_true rfl) rfl ?_
        refine ae_iload_n (pc := 21) dX7_keepLocked_21 rfl ?_
        refine ae_baload (pc := 22) (k := 4) (N := 16) (v := f (275 + e)) _ dX7_keepLocked_22 (Nat.le_of_ble_eq_true rfl) rfl rfl rfl (by omega) (by rw [nwM_4]; exact r2.trans b2) ?_
        refine ae_if_eq (pc := 23) (t := 37) dX7_keepLocked_23 (by decide) (fun c23 => ?_) (fun c23 => ?_)
        · exact absurd (hlo.symm.trans c23) (by decide)
        refine ae_aload_n (pc := 26) dX7_keepLocked_26 rfl ?_
        refine ae_aload_n (pc := 27) dX7_keepLocked_27 rfl ?_
        refine ae_getR (pc := 28) (k := 1) (c := 7) (j := 4) (q := 3) dX7_keepLocked_28 rfl rfl (Nat.le_of_ble_eq_true rfl) rfl (Nat.le_of_ble_eq_true rfl) rfl ?_
        refine ae_iload_n (pc := 31) dX7_keepLocked_31 rfl ?_
        refine ae_iaload (pc := 32) (k := 3) (N := 16) (v := f (259 + e)) _ dX7_keepLocked_32 (Nat.le_of_ble_eq_true rfl) rfl rfl rfl (by omega) (by rw [nwM_3]; exact r1.trans b1) ?_
        refine ae_iconst (pc := 33) (v := nI 1) dX7_keepLocked_33 (by decide) ?_
        refine ae_callV (pc := 34) (z := zX7_append) (k := 1) (As := [_, _]) dX7_keepLocked_34 rfl rfl rfl rfl (Nat.le_of_ble_eq_true rfl) rfl (Nat.le_of_ble_eq_true rfl) (Nat.le_of_ble_eq_true rfl) (hap) (fun v M' hq => ?_)
        obtain ⟨rfl, rfl⟩ := hq
        refine ae_iinc (pc := 37) (v := nI (e + 1)) dX7_keepLocked_37 rfl (nI_inc e) ?_
        refine ae_goto (pc := 40) (t := 12) dX7_keepLocked_40 (by decide) ?_
        exact ih he2 _ _ _ (KH_t hh hlo)
      · have h0 := (hf.2.2.1 e he2).2.resolve_right hlo
        refine ae_aload_n (pc := 17) dX7_keepLocked_17 rfl ?_
        refine ae_getR (pc := 18) (k := 1) (c := 7) (j := 5) (q := 4) dX7_keepLocked_18 rfl rfl (Nat.le_of_ble_eq_true rfl) rfl (Nat.le_of_ble_eq_true rfl) rfl ?_
        refine ae_iload_n (pc := 21) dX7_keepLocked_21 rfl ?_
        refine ae_baload (pc := 22) (k := 4) (N := 16) (v := f (275 + e)) _ dX7_keepLocked_22 (Nat.le_of_ble_eq_true rfl) rfl rfl rfl (by omega) (by rw [nwM_4]; exact r2.trans b2) ?_
        refine ae_if_eq (pc := 23) (t := 37) dX7_keepLocked_23 (by decide) (fun c23 => ?_) (fun c23 => ?_)
        rotate_left
        · exact absurd h0 c23
        refine ae_iinc (pc := 37) (v := nI (e + 1)) dX7_keepLocked_37 rfl (nI_inc e) ?_
        refine ae_goto (pc := 40) (t := 12) dX7_keepLocked_40 (by decide) ?_
        exact ih he2 _ _ _ (KH_f hh hlo)
  refine ae_aload_n (pc := 0) dX7_keepLocked_0 rfl ?_
  refine ae_getI (pc := 1) (k := 1) (c := 7) (j := 3) (v := nI (fN f)) dX7_keepLocked_1 rfl rfl (Or.inl rfl) (Nat.le_of_ble_eq_true rfl) rfl (Nat.le_of_ble_eq_true rfl) a3 ?_
  refine ae_istore_n (pc := 4) dX7_keepLocked_4 rfl (Nat.le_of_ble_eq_true rfl) ?_
  refine ae_aload_n (pc := 5) dX7_keepLocked_5 rfl ?_
  refine ae_iconst (pc := 6) (v := nI 0) dX7_keepLocked_6 (by decide) ?_
  refine ae_putfield (pc := 7) (k := 1) (c := 7) (j := 3) dX7_keepLocked_7 rfl rfl (Nat.le_of_ble_eq_true rfl) rfl (Nat.le_of_ble_eq_true rfl) rfl rfl ?_
  refine ae_iconst (pc := 10) (v := nI 0) dX7_keepLocked_10 (by decide) ?_
  refine ae_istore_n (pc := 11) dX7_keepLocked_11 rfl (Nat.le_of_ble_eq_true rfl) ?_
  skip
  refine ae_M ?_ (main _ _ _ (KH_0 f (M.1 1) (M.1 3) (M.1 4)))
  exact nwX1 M _
theorem sc_copy_49_1 (d : Nat) (M : am_M) (h7 : M.1 1 7 = 0 ∨ M.1 1 7 = 1) : am_R (d + 1) zX7_copyFrom [.ref 49, .ref 1] M (fun v M' => v = none ∧ M'.2 = M.2 ∧ (∀ k, (k < 49 ∨ 53 < k) → M'.1 k = M.1 k) ∧ (M'.1 49 0 = M.1 1 0 ∧ M'.1 49 1 = M.1 1 1 ∧ M'.1 49 3 = M.1 1 3 ∧ M'.1 49 6 = M.1 1 6 ∧ M'.1 49 7 = M.1 1 7) ∧ (∀ q, q < 256 → M'.1 50 q = M.1 2 q) ∧ (∀ q, q < 256 → M'.1 53 q = M.1 5 q) ∧ (∀ q, q < 16 → M'.1 51 q = M.1 3 q) ∧ (∀ q, q < 16 → M'.1 52 q = vp_nar .boolean (M.1 4 q))) := by
  refine ae_enter (z := zX7_copyFrom) (y := yX7_copyFrom) (cc := cX7_copyFrom) (mL := 3) (rt := none) (ci := 7) (st := false) (np := 1) (L := [some (.ref 49), some (.ref 1), none]) rfl (by decide) (Nat.le_of_ble_eq_true rfl) rfl ?_
  refine ae_aload_n (pc := 0) dX7_copyFrom_0 rfl ?_
  refine ae_aload_n (pc := 1) dX7_copyFrom_1 rfl ?_
  refine ae_getI (pc := 2) (k := 1) (c := 7) (j := 0) dX7_copyFrom_2 rfl rfl (Or.inl rfl) (Nat.le_of_ble_eq_true rfl) rfl (Nat.le_of_ble_eq_true rfl) rfl ?_
  refine ae_putfield (pc := 5) (k := 49) (c := 7) (j := 0) dX7_copyFrom_5 rfl rfl (Nat.le_of_ble_eq_true rfl) rfl (Nat.le_of_ble_eq_true rfl) rfl rfl ?_
  refine ae_aload_n (pc := 8) dX7_copyFrom_8 rfl ?_
  refine ae_aload_n (pc := 9) dX7_copyFrom_9 rfl ?_
  refine ae_getI (pc := 10) (k := 1) (c := 7) (j := 1) dX7_copyFrom_10 rfl rfl (Or.inl rfl) (Nat.le_of_ble_eq_true rfl) rfl (Nat.le_of_ble_eq_true rfl) rfl ?_
  refine ae_putfield (pc := 13) (k := 49) (c := 7) (j := 1) dX7_copyFrom_13 rfl rfl (Nat.le_of_ble_eq_true rfl) rfl (Nat.le_of_ble_eq_true rfl) rfl rfl ?_
  refine ae_aload_n (pc := 16) dX7_copyFrom_16 rfl ?_
  refine ae_aload_n (pc := 17) dX7_copyFrom_17 rfl ?_
  refine ae_getI (pc := 18) (k := 1) (c := 7) (j := 3) dX7_copyFrom_18 rfl rfl (Or.inl rfl) (Nat.le_of_ble_eq_true rfl) rfl (Nat.le_of_ble_eq_true rfl) rfl ?_
  refine ae_putfield (pc := 21) (k := 49) (c := 7) (j := 3) dX7_copyFrom_21 rfl rfl (Nat.le_of_ble_eq_true rfl) rfl (Nat.le_of_ble_eq_true rfl) rfl rfl ?_
  refine ae_aload_n (pc := 24) dX7_copyFrom_24 rfl ?_
  refine ae_aload_n (pc := 25) dX7_copyFrom_25 rfl ?_
  refine ae_getI (pc := 26) (k := 1) (c := 7) (j := 6) dX7_copyFrom_26 rfl rfl (Or.inl rfl) (Nat.le_of_ble_eq_true rfl) rfl (Nat.le_of_ble_eq_true rfl) rfl ?_
  refine ae_putfield (pc := 29) (k := 49) (c := 7) (j := 6) dX7_copyFrom_29 rfl rfl (Nat.le_of_ble_eq_true rfl) rfl (Nat.le_of_ble_eq_true rfl) rfl rfl ?_
  refine ae_aload_n (pc := 32) dX7_copyFrom_32 rfl ?_
  refine ae_aload_n (pc := 33) dX7_copyFrom_33 rfl ?_
  refine ae_getI (pc := 34) (k := 1) (c := 7) (j := 7) dX7_copyFrom_34 rfl rfl (Or.inr rfl) (Nat.le_of_ble_eq_true rfl) rfl (Nat.le_of_ble_eq_true rfl) rfl ?_
  refine ae_putfieldZ (pc := 37) (k := 49) (c := 7) (j := 7) dX7_copyFrom_37 rfl rfl (Nat.le_of_ble_eq_true rfl) rfl (Nat.le_of_ble_eq_true rfl) rfl h7 ?_
  refine ae_aload_n (pc := 40) dX7_copyFrom_40 rfl ?_
  refine ae_getR (pc := 41) (k := 1) (c := 7) (j := 2) (q := 2) dX7_copyFrom_41 rfl rfl (Nat.le_of_ble_eq_true rfl) rfl (Nat.le_of_ble_eq_true rfl) rfl ?_
  refine ae_iconst (pc := 44) (v := nI 0) dX7_copyFrom_44 (by decide) ?_
  refine ae_aload_n (pc := 45) dX7_copyFrom_45 rfl ?_
  refine ae_getR (pc := 46) (k := 49) (c := 7) (j := 2) (q := 50) dX7_copyFrom_46 rfl rfl (Nat.le_of_ble_eq_true rfl) rfl (Nat.le_of_ble_eq_true rfl) rfl ?_
  refine ae_iconst (pc := 49) (v := nI 0) dX7_copyFrom_49 (by decide) ?_
  refine ae_sipush (pc := 50) (v := nI 256) dX7_copyFrom_50 (by decide) ?_
  refine ae_copy (pc := 53) (s0 := 2) (d0 := 50) 0 0 256 dX7_copyFrom_53 (Or.inl ⟨rfl, rfl⟩) (by decide) (by decide) rfl rfl rfl rfl rfl rfl rfl (Nat.le_of_ble_eq_true rfl) (Nat.le_of_ble_eq_true rfl) (Nat.le_of_ble_eq_true rfl) ?_
  refine ae_aload_n (pc := 56) dX7_copyFrom_56 rfl ?_
  refine ae_getR (pc := 57) (k := 1) (c := 7) (j := 8) (q := 5) dX7_copyFrom_57 rfl rfl (Nat.le_of_ble_eq_true rfl) rfl (Nat.le_of_ble_eq_true rfl) rfl ?_
  refine ae_iconst (pc := 60) (v := nI 0) dX7_copyFrom_60 (by decide) ?_
  refine ae_aload_n (pc := 61) dX7_copyFrom_61 rfl ?_
  refine ae_getR (pc := 62) (k := 49) (c := 7) (j := 8) (q := 53) dX7_copyFrom_62 rfl rfl (Nat.le_of_ble_eq_true rfl) rfl (Nat.le_of_ble_eq_true rfl) rfl ?_
  refine ae_iconst (pc := 65) (v := nI 0) dX7_copyFrom_65 (by decide) ?_
  refine ae_sipush (pc := 66) (v := nI 256) dX7_copyFrom_66 (by decide) ?_
  refine ae_copy (pc := 69) (s0 := 5) (d0 := 53) 0 0 256 dX7_copyFrom_69 (Or.inl ⟨rfl, rfl⟩) (by decide) (by decide) rfl rfl rfl rfl rfl rfl rfl (Nat.le_of_ble_eq_true rfl) (Nat.le_of_ble_eq_true rfl) (Nat.le_of_ble_eq_true rfl) ?_
  refine ae_aload_n (pc := 72) dX7_copyFrom_72 rfl ?_
  refine ae_getR (pc := 73) (k := 1) (c := 7) (j := 4) (q := 3) dX7_copyFrom_73 rfl rfl (Nat.le_of_ble_eq_true rfl) rfl (Nat.le_of_ble_eq_true rfl) rfl ?_
  refine ae_iconst (pc := 76) (v := nI 0) dX7_copyFrom_76 (by decide) ?_
  refine ae_aload_n (pc := 77) dX7_copyFrom_77 rfl ?_
  refine ae_getR (pc := 78) (k := 49) (c := 7) (j := 4) (q := 51) dX7_copyFrom_78 rfl rfl (Nat.le_of_ble_eq_true rfl) rfl (Nat.le_of_ble_eq_true rfl) rfl ?_
  refine ae_iconst (pc := 81) (v := nI 0) dX7_copyFrom_81 (by decide) ?_
  refine ae_bipush (pc := 82) (v := nI 16) dX7_copyFrom_82 (by decide) ?_
  refine ae_copy (pc := 84) (s0 := 3) (d0 := 51) 0 0 16 dX7_copyFrom_84 (Or.inl ⟨rfl, rfl⟩) (by decide) (by decide) rfl rfl rfl rfl rfl rfl rfl (Nat.le_of_ble_eq_true rfl) (Nat.le_of_ble_eq_true rfl) (Nat.le_of_ble_eq_true rfl) ?_
  refine ae_iconst (pc := 87) (v := nI 0) dX7_copyFrom_87 (by decide) ?_
  refine ae_istore_n (pc := 88) dX7_copyFrom_88 rfl (Nat.le_of_ble_eq_true rfl) ?_
  skip
  have key : ∀ N : am_M, N.2 = M.2 → (∀ k, (k < 49 ∨ 53 < k) → N.1 k = M.1 k) → (N.1 49 0 = M.1 1 0 ∧ N.1 49 1 = M.1 1 1 ∧ N.1 49 3 = M.1 1 3 ∧ N.1 49 6 = M.1 1 6 ∧ N.1 49 7 = M.1 1 7) → (∀ q, q < 256 → N.1 50 q = M.1 2 q) → (∀ q, q < 256 → N.1 53 q = M.1 5 q) → (∀ q, q < 16 → N.1 51 q = M.1 3 q) → am_E none (am_R d) cX7_copyFrom 7 none (fun v M' => v = none ∧ M'.2 = M.2 ∧ (∀ k, (k < 49 ∨ 53 < k) → M'.1 k = M.1 k) ∧ (M'.1 49 0 = M.1 1 0 ∧ M'.1 49 1 = M.1 1 1 ∧ M'.1 49 3 = M.1 1 3 ∧ M'.1 49 6 = M.1 1 6 ∧ M'.1 49 7 = M.1 1 7) ∧ (∀ q, q < 256 → M'.1 50 q = M.1 2 q) ∧ (∀ q, q < 256 → M'.1 53 q = M.1 5 q) ∧ (∀ q, q < 16 → M'.1 51 q = M.1 3 q) ∧ (∀ q, q < 16 → M'.1 52 q = vp_nar .boolean (M.1 4 q))) (89, [some (.ref 49), some (.ref 1), some (.int (nI 0))], [], N) := by
    intro N n1 n2 n3 n4 n5 n6
    have lp : ∀ l : fT, (∀ q, q < 0 → l q = vp_nar .boolean (M.1 4 q)) → am_E none (am_R d) cX7_copyFrom 7 none (fun v M' => v = none ∧ M'.2 = M.2 ∧ (∀ k, (k < 49 ∨ 53 < k) → M'.1 k = M.1 k) ∧ (M'.1 49 0 = M.1 1 0 ∧ M'.1 49 1 = M.1 1 1 ∧ M'.1 49 3 = M.1 1 3 ∧ M'.1 49 6 = M.1 1 6 ∧ M'.1 49 7 = M.1 1 7) ∧ (∀ q, q < 256 → M'.1 50 q = M.1 2 q) ∧ (∀ q, q < 256 → M'.1 53 q = M.1 5 q) ∧ (∀ q, q < 16 → M'.1 51 q = M.1 3 q) ∧ (∀ q, q < 16 → M'.1 52 q = vp_nar .boolean (M.1 4 q))) (89, [some (.ref 49), some (.ref 1), some (.int (nI 0))], [], (am_u N.1 52 l, N.2)) := by
      refine am_down (P := fun k => ∀ l : fT, (∀ q, q < k → l q = vp_nar .boolean (M.1 4 q)) → am_E none (am_R d) cX7_copyFrom 7 none _ (89, [some (.ref 49), some (.ref 1), some (.int (nI k))], [], (am_u N.1 52 l, N.2))) 16 (fun k hk ih l hl => ?_)
      have ne : ∀ k, k ≠ 52 → (am_u N.1 52 l) k = N.1 k := fun k hk => am_u_ne _ _ hk
      refine ae_iload_n (pc := 89) dX7_copyFrom_89 rfl ?_
      refine ae_bipush (pc := 90) (v := nI 16) dX7_copyFrom_90 (by decide) ?_
      refine ae_icmp_ge (pc := 92) (t := 113) dX7_copyFrom_92 (by decide) (fun c92 => ?_) (fun c92 => ?_)
      · have hk2 : k = 16 := by rw [nI_leI (by omega) (by omega)] at c92; omega
        subst hk2
        refine ae_return (pc := 113) dX7_copyFrom_113 rfl ?_
        exact ⟨rfl, n1, fun k hk => (ne k (by omega)).trans (n2 k hk), ⟨(congrFun (ne 49 (by decide)) 0).trans n3.1, (congrFun (ne 49 (by decide)) 1).trans n3.2.1, (congrFun (ne 49 (by decide)) 3).trans n3.2.2.1, (congrFun (ne 49 (by decide)) 6).trans n3.2.2.2.1, (congrFun (ne 49 (by decide)) 7).trans n3.2.2.2.2⟩, fun q hq => (congrFun (ne 50 (by decide)) q).trans (n4 q hq), fun q hq => (congrFun (ne 53 (by decide)) q).trans (n5 q hq), fun q hq => (congrFun (ne 51 (by decide)) q).trans (n6 q hq), fun q hq => (congrFun (am_u_self N.1 52 l) q).trans (hl q hq)⟩
      · have hk2 : k < 16 := by rw [nI_leI (by omega) (by omega)] at c92; omega
        refine ae_aload_n (pc := 95) dX7_copyFrom_95 rfl ?_
        refine ae_getR (pc := 96) (k := 49) (c := 7) (j := 5) (q := 52) dX7_copyFrom_96 rfl rfl (Nat.le_of_ble_eq_true rfl) rfl (Nat.le_of_ble_eq_true rfl) rfl ?_
        refine ae_iload_n (pc := 99) dX7_copyFrom_99 rfl ?_
        refine ae_aload_n (pc := 100) dX7_copyFrom_100 rfl ?_
        refine ae_getR (pc := 101) (k := 1) (c := 7) (j := 5) (q := 4) dX7_copyFrom_101 rfl rfl (Nat.le_of_ble_eq_true rfl) rfl (Nat.le_of_ble_eq_true rfl) rfl ?_
        refine ae_iload_n (pc := 104) dX7_copyFrom_104 rfl ?_
        refine ae_baload (pc := 105) (k := 4) (N := 16) (v := M.1 4 k) _ dX7_copyFrom_105 (Nat.le_of_ble_eq_true rfl) rfl rfl rfl (by omega) ((congrFun (ne 4 (by decide)) k).trans (congrFun (n2 4 (by omega)) k)) ?_
        refine ae_bastore (pc := 106) (k := 52) (N := 16) (k) dX7_copyFrom_106 (Nat.le_of_ble_eq_true rfl) rfl rfl rfl (by omega) rfl ?_
        refine ae_M (M' := (am_u N.1 52 (upd l k (vp_nar .boolean (M.1 4 k))), N.2)) (by show ((am_u (am_u N.1 52 l) 52 (upd (am_u N.1 52 l 52) k _), N.2) : am_M) = _; rw [am_u_u, am_u_self]) ?_
        refine ae_iinc (pc := 107) (v := nI (k + 1)) dX7_copyFrom_107 rfl (nI_inc k) ?_
        refine ae_goto (pc := 110) (t := 89) dX7_copyFrom_110 (by decide) ?_
        refine ih hk2 _ (fun q hq => ?_)
        by_cases hqk : q = k
        · subst hqk; exact upd_self _ _ _
        · rw [upd_ne _ _ hqk]; exact hl q (by omega)
    have := lp (N.1 52) (fun q hq => absurd hq (Nat.not_lt_zero q))
    rwa [am_u_eta] at this
  refine key _ rfl (fun k hk => ?_) ?_ (fun q hq => ?_) (fun q hq => ?_) (fun q hq => ?_)
  · have : k ≠ 49 ∧ k ≠ 50 ∧ k ≠ 51 ∧ k ≠ 53 := by omega
    simp [am_u, this.1, this.2.1, this.2.2.1, this.2.2.2]
  · simp [am_u, upd]
  · simp [am_u, va_cpy, hq]
  · simp [am_u, va_cpy, hq]
  · simp [am_u, va_cpy, hq]
theorem sc_copy_1_49 (d : Nat) (M : am_M) (h7 : M.1 49 7 = 0 ∨ M.1 49 7 = 1) : am_R (d + 1) zX7_copyFrom [.ref 1, .ref 49] M (fun v M' => v = none ∧ M'.2 = M.2 ∧ (∀ k, (k < 1 ∨ 5 < k) → M'.1 k = M.1 k) ∧ (M'.1 1 0 = M.1 49 0 ∧ M'.1 1 1 = M.1 49 1 ∧ M'.1 1 3 = M.1 49 3 ∧ M'.1 1 6 = M.1 49 6 ∧ M'.1 1 7 = M.1 49 7) ∧ (∀ q, q < 256 → M'.1 2 q = M.1 50 q) ∧ (∀ q, q < 256 → M'.1 5 q = M.1 53 q) ∧ (∀ q, q < 16 → M'.1 3 q = M.1 51 q) ∧ (∀ q, q < 16 → M'.1 4 q = vp_nar .boolean (M.1 52 q))) := by
  refine ae_enter (z := zX7_copyFrom) (y := yX7_copyFrom) (cc := cX7_copyFrom) (mL := 3) (rt := none) (ci := 7) (st := false) (np := 1) (L := [some (.ref 1), some (.ref 49), none]) rfl (by decide) (Nat.le_of_ble_eq_true rfl) rfl ?_
  refine ae_aload_n (pc := 0) dX7_copyFrom_0 rfl ?_
  refine ae_aload_n (pc := 1) dX7_copyFrom_1 rfl ?_
  refine ae_getI (pc := 2) (k := 49) (c := 7) (j := 0) dX7_copyFrom_2 rfl rfl (Or.inl rfl) (Nat.le_of_ble_eq_true rfl) rfl (Nat.le_of_ble_eq_true rfl) rfl ?_
  refine ae_putfield (pc := 5) (k := 1) (c := 7) (j := 0) dX7_copyFrom_5 rfl rfl (Nat.le_of_ble_eq_true rfl) rfl (Nat.le_of_ble_eq_true rfl) rfl rfl ?_
  refine ae_aload_n (pc := 8) dX7_copyFrom_8 rfl ?_
  refine ae_aload_n (pc := 9) dX7_copyFrom_9 rfl ?_
  refine ae_getI (pc := 10) (k := 49) (c := 7) (j := 1) dX7_copyFrom_10 rfl rfl (Or.inl rfl) (Nat.le_of_ble_eq_true rfl) rfl (Nat.le_of_ble_eq_true rfl) rfl ?_
  refine ae_putfield (pc := 13) (k := 1) (c := 7) (j := 1) dX7_copyFrom_13 rfl rfl (Nat.le_of_ble_eq_true rfl) rfl (Nat.le_of_ble_eq_true rfl) rfl rfl ?_
  refine ae_aload_n (pc := 16) dX7_copyFrom_16 rfl ?_
  refine ae_aload_n (pc := 17) dX7_copyFrom_17 rfl ?_
  refine ae_getI (pc := 18) (k := 49) (c := 7) (j := 3) dX7_copyFrom_18 rfl rfl (Or.inl rfl) (Nat.le_of_ble_eq_true rfl) rfl (Nat.le_of_ble_eq_true rfl) rfl ?_
  refine ae_putfield (pc := 21) (k := 1) (c := 7) (j := 3) dX7_copyFrom_21 rfl rfl (Nat.le_of_ble_eq_true rfl) rfl (Nat.le_of_ble_eq_true rfl) rfl rfl ?_
  refine ae_aload_n (pc := 24) dX7_copyFrom_24 rfl ?_
  refine ae_aload_n (pc := 25) dX7_copyFrom_25 rfl ?_
  refine ae_getI (pc := 26) (k := 49) (c := 7) (j := 6) dX7_copyFrom_26 rfl rfl (Or.inl rfl) (Nat.le_of_ble_eq_true rfl) rfl (Nat.le_of_ble_eq_true rfl) rfl ?_
  refine ae_putfield (pc := 29) (k := 1) (c := 7) (j := 6) dX7_copyFrom_29 rfl rfl (Nat.le_of_ble_eq_true rfl) rfl (Nat.le_of_ble_eq_true rfl) rfl rfl ?_
  refine ae_aload_n (pc := 32) dX7_copyFrom_32 rfl ?_
  refine ae_aload_n (pc := 33) dX7_copyFrom_33 rfl ?_
  refine ae_getI (pc := 34) (k := 49) (c := 7) (j := 7) dX7_copyFrom_34 rfl rfl (Or.inr rfl) (Nat.le_of_ble_eq_true rfl) rfl (Nat.le_of_ble_eq_true rfl) rfl ?_
  refine ae_putfieldZ (pc := 37) (k := 1) (c := 7) (j := 7) dX7_copyFrom_37 rfl rfl (Nat.le_of_ble_eq_true rfl) rfl (Nat.le_of_ble_eq_true rfl) rfl h7 ?_
  refine ae_aload_n (pc := 40) dX7_copyFrom_40 rfl ?_
  refine ae_getR (pc := 41) (k := 49) (c := 7) (j := 2) (q := 50) dX7_copyFrom_41 rfl rfl (Nat.le_of_ble_eq_true rfl) rfl (Nat.le_of_ble_eq_true rfl) rfl ?_
  refine ae_iconst (pc := 44) (v := nI 0) dX7_copyFrom_44 (by decide) ?_
  refine ae_aload_n (pc := 45) dX7_copyFrom_45 rfl ?_
  refine ae_getR (pc := 46) (k := 1) (c := 7) (j := 2) (q := 2) dX7_copyFrom_46 rfl rfl (Nat.le_of_ble_eq_true rfl) rfl (Nat.le_of_ble_eq_true rfl) rfl ?_
  refine ae_iconst (pc := 49) (v := nI 0) dX7_copyFrom_49 (by decide) ?_
  refine ae_sipush (pc := 50) (v := nI 256) dX7_copyFrom_50 (by decide) ?_
  refine ae_copy (pc := 53) (s0 := 50) (d0 := 2) 0 0 256 dX7_copyFrom_53 (Or.inl ⟨rfl, rfl⟩) (by decide) (by decide) rfl rfl rfl rfl rfl rfl rfl (Nat.le_of_ble_eq_true rfl) (Nat.le_of_ble_eq_true rfl) (Nat.le_of_ble_eq_true rfl) ?_
  refine ae_aload_n (pc := 56) dX7_copyFrom_56 rfl ?_
  refine ae_getR (pc := 57) (k := 49) (c := 7) (j := 8) (q := 53) dX7_copyFrom_57 rfl rfl (Nat.le_of_ble_eq_true rfl) rfl (Nat.le_of_ble_eq_true rfl) rfl ?_
  refine ae_iconst (pc := 60) (v := nI 0) dX7_copyFrom_60 (by decide) ?_
  refine ae_aload_n (pc := 61) dX7_copyFrom_61 rfl ?_
  refine ae_getR (pc := 62) (k := 1) (c := 7) (j := 8) (q := 5) dX7_copyFrom_62 rfl rfl (Nat.le_of_ble_eq_true rfl) rfl (Nat.le_of_ble_eq_true rfl) rfl ?_
  refine ae_iconst (pc := 65) (v := nI 0) dX7_copyFrom_65 (by decide) ?_
  refine ae_sipush (pc := 66) (v := nI 256) dX7_copyFrom_66 (by decide) ?_
  refine ae_copy (pc := 69) (s0 := 53) (d0 := 5) 0 0 256 dX7_copyFrom_69 (Or.inl ⟨rfl, rfl⟩) (by decide) (by decide) rfl rfl rfl rfl rfl rfl rfl (Nat.le_of_ble_eq_true rfl) (Nat.le_of_ble_eq_true rfl) (Nat.le_of_ble_eq_true rfl) ?_
  refine ae_aload_n (pc := 72) dX7_copyFrom_72 rfl ?_
  refine ae_getR (pc := 73) (k := 49) (c := 7) (j := 4) (q := 51) dX7_copyFrom_73 rfl rfl (Nat.le_of_ble_eq_true rfl) rfl (Nat.le_of_ble_eq_true rfl) rfl ?_
  refine ae_iconst (pc := 76) (v := nI 0) dX7_copyFrom_76 (by decide) ?_
  refine ae_aload_n (pc := 77) dX7_copyFrom_77 rfl ?_
  refine ae_getR (pc := 78) (k := 1) (c := 7) (j := 4) (q := 3) dX7_copyFrom_78 rfl rfl (Nat.le_of_ble_eq_true rfl) rfl (Nat.le_of_ble_eq_true rfl) rfl ?_
  refine ae_iconst (pc := 81) (v := nI 0) dX7_copyFrom_81 (by decide) ?_
  refine ae_bipush (pc := 82) (v := nI 16) dX7_copyFrom_82 (by decide) ?_
  refine ae_copy (pc := 84) (s0 := 51) (d0 := 3) 0 0 16 dX7_copyFrom_84 (Or.inl ⟨rfl, rfl⟩) (by decide) (by decide) rfl rfl rfl rfl rfl rfl rfl (Nat.le_of_ble_eq_true rfl) (Nat.le_of_ble_eq_true rfl) (Nat.le_of_ble_eq_true rfl) ?_
  refine ae_iconst (pc := 87) (v := nI 0) dX7_copyFrom_87 (by decide) ?_
  refine ae_istore_n (pc := 88) dX7_copyFrom_88 rfl (Nat.le_of_ble_eq_true rfl) ?_
  skip
  have key : ∀ N : am_M, N.2 = M.2 → (∀ k, (k < 1 ∨ 5 < k) → N.1 k = M.1 k) → (N.1 1 0 = M.1 49 0 ∧ N.1 1 1 = M.1 49 1 ∧ N.1 1 3 = M.1 49 3 ∧ N.1 1 6 = M.1 49 6 ∧ N.1 1 7 = M.1 49 7) → (∀ q, q < 256 → N.1 2 q = M.1 50 q) → (∀ q, q < 256 → N.1 5 q = M.1 53 q) → (∀ q, q < 16 → N.1 3 q = M.1 51 q) → am_E none (am_R d) cX7_copyFrom 7 none (fun v M' => v = none ∧ M'.2 = M.2 ∧ (∀ k, (k < 1 ∨ 5 < k) → M'.1 k = M.1 k) ∧ (M'.1 1 0 = M.1 49 0 ∧ M'.1 1 1 = M.1 49 1 ∧ M'.1 1 3 = M.1 49 3 ∧ M'.1 1 6 = M.1 49 6 ∧ M'.1 1 7 = M.1 49 7) ∧ (∀ q, q < 256 → M'.1 2 q = M.1 50 q) ∧ (∀ q, q < 256 → M'.1 5 q = M.1 53 q) ∧ (∀ q, q < 16 → M'.1 3 q = M.1 51 q) ∧ (∀ q, q < 16 → M'.1 4 q = vp_nar .boolean (M.1 52 q))) (89, [some (.ref 1), some (.ref 49), some (.int (nI 0))], [], N) := by
    intro N n1 n2 n3 n4 n5 n6
    have lp : ∀ l : fT, (∀ q, q < 0 → l q = vp_nar .boolean (M.1 52 q)) → am_E none (am_R d) cX7_copyFrom 7 none (fun v M' => v = none ∧ M'.2 = M.2 ∧ (∀ k, (k < 1 ∨ 5 < k) → M'.1 k = M.1 k) ∧ (M'.1 1 0 = M.1 49 0 ∧ M'.1 1 1 = M.1 49 1 ∧ M'.1 1 3 = M.1 49 3 ∧ M'.1 1 6 = M.1 49 6 ∧ M'.1 1 7 = M.1 49 7) ∧ (∀ q, q < 256 → M'.1 2 q = M.1 50 q) ∧ (∀ q, q < 256 → M'.1 5 q = M.1 53 q) ∧ (∀ q, q < 16 → M'.1 3 q = M.1 51 q) ∧ (∀ q, q < 16 → M'.1 4 q = vp_nar .boolean (M.1 52 q))) (89, [some (.ref 1), some (.ref 49), some (.int (nI 0))], [], (am_u N.1 4 l, N.2)) := by
      refine am_down (P := fun k => ∀ l : fT, (∀ q, q < k → l q = vp_nar .boolean (M.1 52 q)) → am_E none (am_R d) cX7_copyFrom 7 none _ (89, [some (.ref 1), some (.ref 49), some (.int (nI k))], [], (am_u N.1 4 l, N.2))) 16 (fun k hk ih l hl => ?_)
      have ne : ∀ k, k ≠ 4 → (am_u N.1 4 l) k = N.1 k := fun k hk => am_u_ne _ _ hk
      refine ae_iload_n (pc := 89) dX7_copyFrom_89 rfl ?_
      refine ae_bipush (pc := 90) (v := nI 16) dX7_copyFrom_90 (by decide) ?_
      refine ae_icmp_ge (pc := 92) (t := 113) dX7_copyFrom_92 (by decide) (fun c92 => ?_) (fun c92 => ?_)
      · have hk2 : k = 16 := by rw [nI_leI (by omega) (by omega)] at c92; omega
        subst hk2
        refine ae_return (pc := 113) dX7_copyFrom_113 rfl ?_
        exact ⟨rfl, n1, fun k hk => (ne k (by omega)).trans (n2 k hk), ⟨(congrFun (ne 1 (by decide)) 0).trans n3.1, (congrFun (ne 1 (by decide)) 1).trans n3.2.1, (congrFun (ne 1 (by decide)) 3).trans n3.2.2.1, (congrFun (ne 1 (by decide)) 6).trans n3.2.2.2.1, (congrFun (ne 1 (by decide)) 7).trans n3.2.2.2.2⟩, fun q hq => (congrFun (ne 2 (by decide)) q).trans (n4 q hq), fun q hq => (congrFun (ne 5 (by decide)) q).trans (n5 q hq), fun q hq => (congrFun (ne 3 (by decide)) q).trans (n6 q hq), fun q hq => (congrFun (am_u_self N.1 4 l) q).trans (hl q hq)⟩
      · have hk2 : k < 16 := by rw [nI_leI (by omega) (by omega)] at c92; omega
        refine ae_aload_n (pc := 95) dX7_copyFrom_95 rfl ?_
        refine ae_getR (pc := 96) (k := 1) (c := 7) (j := 5) (q := 4) dX7_copyFrom_96 rfl rfl (Nat.le_of_ble_eq_true rfl) rfl (Nat.le_of_ble_eq_true rfl) rfl ?_
        refine ae_iload_n (pc := 99) dX7_copyFrom_99 rfl ?_
        refine ae_aload_n (pc := 100) dX7_copyFrom_100 rfl ?_
        refine ae_getR (pc := 101) (k := 49) (c := 7) (j := 5) (q := 52) dX7_copyFrom_101 rfl rfl (Nat.le_of_ble_eq_true rfl) rfl (Nat.le_of_ble_eq_true rfl) rfl ?_
        refine ae_iload_n (pc := 104) dX7_copyFrom_104 rfl ?_
        refine ae_baload (pc := 105) (k := 52) (N := 16) (v := M.1 52 k) _ dX7_copyFrom_105 (Nat.le_of_ble_eq_true rfl) rfl rfl rfl (by omega) ((congrFun (ne 52 (by decide)) k).trans (congrFun (n2 52 (by omega)) k)) ?_
        refine ae_bastore (pc := 106) (k := 4) (N := 16) (k) dX7_copyFrom_106 (Nat.le_of_ble_eq_true rfl) rfl rfl rfl (by omega) rfl ?_
        refine ae_M (M' := (am_u N.1 4 (upd l k (vp_nar .boolean (M.1 52 k))), N.2)) (by show ((am_u (am_u N.1 4 l) 4 (upd (am_u N.1 4 l 4) k _), N.2) : am_M) = _; rw [am_u_u, am_u_self]) ?_
        refine ae_iinc (pc := 107) (v := nI (k + 1)) dX7_copyFrom_107 rfl (nI_inc k) ?_
        refine ae_goto (pc := 110) (t := 89) dX7_copyFrom_110 (by decide) ?_
        refine ih hk2 _ (fun q hq => ?_)
        by_cases hqk : q = k
        · subst hqk; exact upd_self _ _ _
        · rw [upd_ne _ _ hqk]; exact hl q (by omega)
    have := lp (N.1 4) (fun q hq => absurd hq (Nat.not_lt_zero q))
    rwa [am_u_eta] at this
  refine key _ rfl (fun k hk => ?_) ?_ (fun q hq => ?_) (fun q hq => ?_) (fun q hq => ?_)
  · have : k ≠ 1 ∧ k ≠ 2 ∧ k ≠ 3 ∧ k ≠ 5 := by omega
    simp [am_u, this.1, this.2.1, this.2.2.1, this.2.2.2]
  · simp [am_u, upd]
  · simp [am_u, va_cpy, hq]
  · simp [am_u, va_cpy, hq]
  · simp [am_u, va_cpy, hq]
theorem sc_copy_54_1 (d : Nat) (M : am_M) (h7 : M.1 1 7 = 0 ∨ M.1 1 7 = 1) : am_R (d + 1) zX7_copyFrom [.ref 54, .ref 1] M (fun v M' => v = none ∧ M'.2 = M.2 ∧ (∀ k, (k < 54 ∨ 58 < k) → M'.1 k = M.1 k) ∧ (M'.1 54 0 = M.1 1 0 ∧ M'.1 54 1 = M.1 1 1 ∧ M'.1 54 3 = M.1 1 3 ∧ M'.1 54 6 = M.1 1 6 ∧ M'.1 54 7 = M.1 1 7) ∧ (∀ q, q < 256 → M'.1 55 q = M.1 2 q) ∧ (∀ q, q < 256 → M'.1 58 q = M.1 5 q) ∧ (∀ q, q < 16 → M'.1 56 q = M.1 3 q) ∧ (∀ q, q < 16 → M'.1 57 q = vp_nar .boolean (M.1 4 q))) := by
  refine ae_enter (z := zX7_copyFrom) (y := yX7_copyFrom) (cc := cX7_copyFrom) (mL := 3) (rt := none) (ci := 7) (st := false) (np := 1) (L := [some (.ref 54), some (.ref 1), none]) rfl (by decide) (Nat.le_of_ble_eq_true rfl) rfl ?_
  refine ae_aload_n (pc := 0) dX7_copyFrom_0 rfl ?_
  refine ae_aload_n (pc := 1) dX7_copyFrom_1 rfl ?_
  refine ae_getI (pc := 2) (k := 1) (c := 7) (j := 0) dX7_copyFrom_2 rfl rfl (Or.inl rfl) (Nat.le_of_ble_eq_true rfl) rfl (Nat.le_of_ble_eq_true rfl) rfl ?_
  refine ae_putfield (pc := 5) (k := 54) (c := 7) (j := 0) dX7_copyFrom_5 rfl rfl (Nat.le_of_ble_eq_true rfl) rfl (Nat.le_of_ble_eq_true rfl) rfl rfl ?_
  refine ae_aload_n (pc := 8) dX7_copyFrom_8 rfl ?_
  refine ae_aload_n (pc := 9) dX7_copyFrom_9 rfl ?_
  refine ae_getI (pc := 10) (k := 1) (c := 7) (j := 1) dX7_copyFrom_10 rfl rfl (Or.inl rfl) (Nat.le_of_ble_eq_true rfl) rfl (Nat.le_of_ble_eq_true rfl) rfl ?_
  refine ae_putfield (pc := 13) (k := 54) (c := 7) (j := 1) dX7_copyFrom_13 rfl rfl (Nat.le_of_ble_eq_true rfl) rfl (Nat.le_of_ble_eq_true rfl) rfl rfl ?_
  refine ae_aload_n (pc := 16) dX7_copyFrom_16 rfl ?_
  refine ae_aload_n (pc := 17) dX7_copyFrom_17 rfl ?_
  refine ae_getI (pc := 18) (k := 1) (c := 7) (j := 3) dX7_copyFrom_18 rfl rfl (Or.inl rfl) (Nat.le_of_ble_eq_true rfl) rfl (Nat.le_of_ble_eq_true rfl) rfl ?_
  refine ae_putfield (pc := 21) (k := 54) (c := 7) (j := 3) dX7_copyFrom_21 rfl rfl (Nat.le_of_ble_eq_true rfl) rfl (Nat.le_of_ble_eq_true rfl) rfl rfl ?_
  refine ae_aload_n (pc := 24) dX7_copyFrom_24 rfl ?_
  refine ae_aload_n (pc := 25) dX7_copyFrom_25 rfl ?_
  refine ae_getI (pc := 26) (k := 1) (c := 7) (j := 6) dX7_copyFrom_26 rfl rfl (Or.inl rfl) (Nat.le_of_ble_eq_true rfl) rfl (Nat.le_of_ble_eq_true rfl) rfl ?_
  refine ae_putfield (pc := 29) (k := 54) (c := 7) (j := 6) dX7_copyFrom_29 rfl rfl (Nat.le_of_ble_eq_true rfl) rfl (Nat.le_of_ble_eq_true rfl) rfl rfl ?_
  refine ae_aload_n (pc := 32) dX7_copyFrom_32 rfl ?_
  refine ae_aload_n (pc := 33) dX7_copyFrom_33 rfl ?_
  refine ae_getI (pc := 34) (k := 1) (c := 7) (j := 7) dX7_copyFrom_34 rfl rfl (Or.inr rfl) (Nat.le_of_ble_eq_true rfl) rfl (Nat.le_of_ble_eq_true rfl) rfl ?_
  refine ae_putfieldZ (pc := 37) (k := 54) (c := 7) (j := 7) dX7_copyFrom_37 rfl rfl (Nat.le_of_ble_eq_true rfl) rfl (Nat.le_of_ble_eq_true rfl) rfl h7 ?_
  refine ae_aload_n (pc := 40) dX7_copyFrom_40 rfl ?_
  refine ae_getR (pc := 41) (k := 1) (c := 7) (j := 2) (q := 2) dX7_copyFrom_41 rfl rfl (Nat.le_of_ble_eq_true rfl) rfl (Nat.le_of_ble_eq_true rfl) rfl ?_
  refine ae_iconst (pc := 44) (v := nI 0) dX7_copyFrom_44 (by decide) ?_
  refine ae_aload_n (pc := 45) dX7_copyFrom_45 rfl ?_
  refine ae_getR (pc := 46) (k := 54) (c := 7) (j := 2) (q := 55) dX7_copyFrom_46 rfl rfl (Nat.le_of_ble_eq_true rfl) rfl (Nat.le_of_ble_eq_true rfl) rfl ?_
  refine ae_iconst (pc := 49) (v := nI 0) dX7_copyFrom_49 (by decide) ?_
  refine ae_sipush (pc := 50) (v := nI 256) dX7_copyFrom_50 (by decide) ?_
  refine ae_copy (pc := 53) (s0 := 2) (d0 := 55) 0 0 256 dX7_copyFrom_53 (Or.inl ⟨rfl, rfl⟩) (by decide) (by decide) rfl rfl rfl rfl rfl rfl rfl (Nat.le_of_ble_eq_true rfl) (Nat.le_of_ble_eq_true rfl) (Nat.le_of_ble_eq_true rfl) ?_
  refine ae_aload_n (pc := 56) dX7_copyFrom_56 rfl ?_
  refine ae_getR (pc := 57) (k := 1) (c := 7) (j := 8) (q := 5) dX7_copyFrom_57 rfl rfl (Nat.le_of_ble_eq_true rfl) rfl (Nat.le_of_ble_eq_true rfl) rfl ?_
  refine ae_iconst (pc := 60) (v := nI 0) dX7_copyFrom_60 (by decide) ?_
  refine ae_aload_n (pc := 61) dX7_copyFrom_61 rfl ?_
  refine ae_getR (pc := 62) (k := 54) (c := 7) (j := 8) (q := 58) dX7_copyFrom_62 rfl rfl (Nat.le_of_ble_eq_true rfl) rfl (Nat.le_of_ble_eq_true rfl) rfl ?_
  refine ae_iconst (pc := 65) (v := nI 0) dX7_copyFrom_65 (by decide) ?_
  refine ae_sipush (pc := 66) (v := nI 256) dX7_copyFrom_66 (by decide) ?_
  refine ae_copy (pc := 69) (s0 := 5) (d0 := 58) 0 0 256 dX7_copyFrom_69 (Or.inl ⟨rfl, rfl⟩) (by decide) (by decide) rfl rfl rfl rfl rfl rfl rfl (Nat.le_of_ble_eq_true rfl) (Nat.le_of_ble_eq_true rfl) (Nat.le_of_ble_eq_true rfl) ?_
  refine ae_aload_n (pc := 72) dX7_copyFrom_72 rfl ?_
  refine ae_getR (pc := 73) (k := 1) (c := 7) (j := 4) (q := 3) dX7_copyFrom_73 rfl rfl (Nat.le_of_ble_eq_true rfl) rfl (Nat.le_of_ble_eq_true rfl) rfl ?_
  refine ae_iconst (pc := 76) (v := nI 0) dX7_copyFrom_76 (by decide) ?_
  refine ae_aload_n (pc := 77) dX7_copyFrom_77 rfl ?_
  refine ae_getR (pc := 78) (k := 54) (c := 7) (j := 4) (q := 56) dX7_copyFrom_78 rfl rfl (Nat.le_of_ble_eq_true rfl) rfl (Nat.le_of_ble_eq_true rfl) rfl ?_
  refine ae_iconst (pc := 81) (v := nI 0) dX7_copyFrom_81 (by decide) ?_
  refine ae_bipush (pc := 82) (v := nI 16) dX7_copyFrom_82 (by decide) ?_
  refine ae_copy (pc := 84) (s0 := 3) (d0 := 56) 0 0 16 dX7_copyFrom_84 (Or.inl ⟨rfl, rfl⟩) (by decide) (by decide) rfl rfl rfl rfl rfl rfl rfl (Nat.le_of_ble_eq_true rfl) (Nat.le_of_ble_eq_true rfl) (Nat.le_of_ble_eq_true rfl) ?_
  refine ae_iconst (pc := 87) (v := nI 0) dX7_copyFrom_87 (by decide) ?_
  refine ae_istore_n (pc := 88) dX7_copyFrom_88 rfl (Nat.le_of_ble_eq_true rfl) ?_
  skip
  have key : ∀ N : am_M, N.2 = M.2 → (∀ k, (k < 54 ∨ 58 < k) → N.1 k = M.1 k) → (N.1 54 0 = M.1 1 0 ∧ N.1 54 1 = M.1 1 1 ∧ N.1 54 3 = M.1 1 3 ∧ N.1 54 6 = M.1 1 6 ∧ N.1 54 7 = M.1 1 7) → (∀ q, q < 256 → N.1 55 q = M.1 2 q) → (∀ q, q < 256 → N.1 58 q = M.1 5 q) → (∀ q, q < 16 → N.1 56 q = M.1 3 q) → am_E none (am_R d) cX7_copyFrom 7 none (fun v M' => v = none ∧ M'.2 = M.2 ∧ (∀ k, (k < 54 ∨ 58 < k) → M'.1 k = M.1 k) ∧ (M'.1 54 0 = M.1 1 0 ∧ M'.1 54 1 = M.1 1 1 ∧ M'.1 54 3 = M.1 1 3 ∧ M'.1 54 6 = M.1 1 6 ∧ M'.1 54 7 = M.1 1 7) ∧ (∀ q, q < 256 → M'.1 55 q = M.1 2 q) ∧ (∀ q, q < 256 → M'.1 58 q = M.1 5 q) ∧ (∀ q, q < 16 → M'.1 56 q = M.1 3 q) ∧ (∀ q, q < 16 → M'.1 57 q = vp_nar .boolean (M.1 4 q))) (89, [some (.ref 54), some (.ref 1), some (.int (nI 0))], [], N) := by
    intro N n1 n2 n3 n4 n5 n6
    have lp : ∀ l : fT, (∀ q, q < 0 → l q = vp_nar .boolean (M.1 4 q)) → am_E none (am_R d) cX7_copyFrom 7 none (fun v M' => v = none ∧ M'.2 = M.2 ∧ (∀ k, (k < 54 ∨ 58 < k) → M'.1 k = M.1 k) ∧ (M'.1 54 0 = M.1 1 0 ∧ M'.1 54 1 = M.1 1 1 ∧ M'.1 54 3 = M.1 1 3 ∧ M'.1 54 6 = M.1 1 6 ∧ M'.1 54 7 = M.1 1 7) ∧ (∀ q, q < 256 → M'.1 55 q = M.1 2 q) ∧ (∀ q, q < 256 → M'.1 58 q = M.1 5 q) ∧ (∀ q, q < 16 → M'.1 56 q = M.1 3 q) ∧ (∀ q, q < 16 → M'.1 57 q = vp_nar .boolean (M.1 4 q))) (89, [some (.ref 54), some (.ref 1), some (.int (nI 0))], [], (am_u N.1 57 l, N.2)) := by
      refine am_down (P := fun k => ∀ l : fT, (∀ q, q < k → l q = vp_nar .boolean (M.1 4 q)) → am_E none (am_R d) cX7_copyFrom 7 none _ (89, [some (.ref 54), some (.ref 1), some (.int (nI k))], [], (am_u N.1 57 l, N.2))) 16 (fun k hk ih l hl => ?_)
      have ne : ∀ k, k ≠ 57 → (am_u N.1 57 l) k = N.1 k := fun k hk => am_u_ne _ _ hk
      refine ae_iload_n (pc := 89) dX7_copyFrom_89 rfl ?_
      refine ae_bipush (pc := 90) (v := nI 16) dX7_copyFrom_90 (by decide) ?_
      refine ae_icmp_ge (pc := 92) (t := 113) dX7_copyFrom_92 (by decide) (fun c92 => ?_) (fun c92 => ?_)
      · have hk2 : k = 16 := by rw [nI_leI (by omega) (by omega)] at c92; omega
        subst hk2
        refine ae_return (pc := 113) dX7_copyFrom_113 rfl ?_
        exact ⟨rfl, n1, fun k hk => (ne k (by omega)).trans (n2 k hk), ⟨(congrFun (ne 54 (by decide)) 0).trans n3.1, (congrFun (ne 54 (by decide)) 1).trans n3.2.1, (congrFun (ne 54 (by decide)) 3).trans n3.2.2.1, (congrFun (ne 54 (by decide)) 6).trans n3.2.2.2.1, (congrFun (ne 54 (by decide)) 7).trans n3.2.2.2.2⟩, fun q hq => (congrFun (ne 55 (by decide)) q).trans (n4 q hq), fun q hq => (congrFun (ne 58 (by decide)) q).trans (n5 q hq), fun q hq => (congrFun (ne 56 (by decide)) q).trans (n6 q hq), fun q hq => (congrFun (am_u_self N.1 57 l) q).trans (hl q hq)⟩
      · have hk2 : k < 16 := by rw [nI_leI (by omega) (by omega)] at c92; omega
        refine ae_aload_n (pc := 95) dX7_copyFrom_95 rfl ?_
        refine ae_getR (pc := 96) (k := 54) (c := 7) (j := 5) (q := 57) dX7_copyFrom_96 rfl rfl (Nat.le_of_ble_eq_true rfl) rfl (Nat.le_of_ble_eq_true rfl) rfl ?_
        refine ae_iload_n (pc := 99) dX7_copyFrom_99 rfl ?_
        refine ae_aload_n (pc := 100) dX7_copyFrom_100 rfl ?_
        refine ae_getR (pc := 101) (k := 1) (c := 7) (j := 5) (q := 4) dX7_copyFrom_101 rfl rfl (Nat.le_of_ble_eq_true rfl) rfl (Nat.le_of_ble_eq_true rfl) rfl ?_
        refine ae_iload_n (pc := 104) dX7_copyFrom_104 rfl ?_
        refine ae_baload (pc := 105) (k := 4) (N := 16) (v := M.1 4 k) _ dX7_copyFrom_105 (Nat.le_of_ble_eq_true rfl) rfl rfl rfl (by omega) ((congrFun (ne 4 (by decide)) k).trans (congrFun (n2 4 (by omega)) k)) ?_
        refine ae_bastore (pc := 106) (k := 57) (N := 16) (k) dX7_copyFrom_106 (Nat.le_of_ble_eq_true rfl) rfl rfl rfl (by omega) rfl ?_
        refine ae_M (M' := (am_u N.1 57 (upd l k (vp_nar .boolean (M.1 4 k))), N.2)) (by show ((am_u (am_u N.1 57 l) 57 (upd (am_u N.1 57 l 57) k _), N.2) : am_M) = _; rw [am_u_u, am_u_self]) ?_
        refine ae_iinc (pc := 107) (v := nI (k + 1)) dX7_copyFrom_107 rfl (nI_inc k) ?_
        refine ae_goto (pc := 110) (t := 89) dX7_copyFrom_110 (by decide) ?_
        refine ih hk2 _ (fun q hq => ?_)
        by_cases hqk : q = k
        · subst hqk; exact upd_self _ _ _
        · rw [upd_ne _ _ hqk]; exact hl q (by omega)
    have := lp (N.1 57) (fun q hq => absurd hq (Nat.not_lt_zero q))
    rwa [am_u_eta] at this
  refine key _ rfl (fun k hk => ?_) ?_ (fun q hq => ?_) (fun q hq => ?_) (fun q hq => ?_)
  · have : k ≠ 54 ∧ k ≠ 55 ∧ k ≠ 56 ∧ k ≠ 58 := by omega
    simp [am_u, this.1, this.2.1, this.2.2.1, this.2.2.2]
  · simp [am_u, upd]
  · simp [am_u, va_cpy, hq]
  · simp [am_u, va_cpy, hq]
  · simp [am_u, va_cpy, hq]
theorem sc_copy_1_54 (d : Nat) (M : am_M) (h7 : M.1 54 7 = 0 ∨ M.1 54 7 = 1) : am_R (d + 1) zX7_copyFrom [.ref 1, .ref 54] M (fun v M' => v = none ∧ M'.2 = M.2 ∧ (∀ k, (k < 1 ∨ 5 < k) → M'.1 k = M.1 k) ∧ (M'.1 1 0 = M.1 54 0 ∧ M'.1 1 1 = M.1 54 1 ∧ M'.1 1 3 = M.1 54 3 ∧ M'.1 1 6 = M.1 54 6 ∧ M'.1 1 7 = M.1 54 7) ∧ (∀ q, q < 256 → M'.1 2 q = M.1 55 q) ∧ (∀ q, q < 256 → M'.1 5 q = M.1 58 q) ∧ (∀ q, q < 16 → M'.1 3 q = M.1 56 q) ∧ (∀ q, q < 16 → M'.1 4 q = vp_nar .boolean (M.1 57 q))) := by
  refine ae_enter (z := zX7_copyFrom) (y := yX7_copyFrom) (cc := cX7_copyFrom) (mL := 3) (rt := none) (ci := 7) (st := false) (np := 1) (L := [some (.ref 1), some (.ref 54), none]) rfl (by decide) (Nat.le_of_ble_eq_true rfl) rfl ?_
  refine ae_aload_n (pc := 0) dX7_copyFrom_0 rfl ?_
  refine ae_aload_n (pc := 1) dX7_copyFrom_1 rfl ?_
  refine ae_getI (pc := 2) (k := 54) (c := 7) (j := 0) dX7_copyFrom_2 rfl rfl (Or.inl rfl) (Nat.le_of_ble_eq_true rfl) rfl (Nat.le_of_ble_eq_true rfl) rfl ?_
  refine ae_putfield (pc := 5) (k := 1) (c := 7) (j := 0) dX7_copyFrom_5 rfl rfl (Nat.le_of_ble_eq_true rfl) rfl (Nat.le_of_ble_eq_true rfl) rfl rfl ?_
  refine ae_aload_n (pc := 8) dX7_copyFrom_8 rfl ?_
  refine ae_aload_n (pc := 9) dX7_copyFrom_9 rfl ?_
  refine ae_getI (pc := 10) (k := 54) (c := 7) (j := 1) dX7_copyFrom_10 rfl rfl (Or.inl rfl) (Nat.le_of_ble_eq_true rfl) rfl (Nat.le_of_ble_eq_true rfl) rfl ?_
  refine ae_putfield (pc := 13) (k := 1) (c := 7) (j := 1) dX7_copyFrom_13 rfl rfl (Nat.le_of_ble_eq_true rfl) rfl (Nat.le_of_ble_eq_true rfl) rfl rfl ?_
  refine ae_aload_n (pc := 16) dX7_copyFrom_16 rfl ?_
  refine ae_aload_n (pc := 17) dX7_copyFrom_17 rfl ?_
  refine ae_getI (pc := 18) (k := 54) (c := 7) (j := 3) dX7_copyFrom_18 rfl rfl (Or.inl rfl) (Nat.le_of_ble_eq_true rfl) rfl (Nat.le_of_ble_eq_true rfl) rfl ?_
  refine ae_putfield (pc := 21) (k := 1) (c := 7) (j := 3) dX7_copyFrom_21 rfl rfl (Nat.le_of_ble_eq_true rfl) rfl (Nat.le_of_ble_eq_true rfl) rfl rfl ?_
  refine ae_aload_n (pc := 24) dX7_copyFrom_24 rfl ?_
  refine ae_aload_n (pc := 25) dX7_copyFrom_25 rfl ?_
  refine ae_getI (pc := 26) (k := 54) (c := 7) (j := 6) dX7_copyFrom_26 rfl rfl (Or.inl rfl) (Nat.le_of_ble_eq_true rfl) rfl (Nat.le_of_ble_eq_true rfl) rfl ?_
  refine ae_putfield (pc := 29) (k := 1) (c := 7) (j := 6) dX7_copyFrom_29 rfl rfl (Nat.le_of_ble_eq_true rfl) rfl (Nat.le_of_ble_eq_true rfl) rfl rfl ?_
  refine ae_aload_n (pc := 32) dX7_copyFrom_32 rfl ?_
  refine ae_aload_n (pc := 33) dX7_copyFrom_33 rfl ?_
  refine ae_getI (pc := 34) (k := 54) (c := 7) (j := 7) dX7_copyFrom_34 rfl rfl (Or.inr rfl) (Nat.le_of_ble_eq_true rfl) rfl (Nat.le_of_ble_eq_true rfl) rfl ?_
  refine ae_putfieldZ (pc := 37) (k := 1) (c := 7) (j := 7) dX7_copyFrom_37 rfl rfl (Nat.le_of_ble_eq_true rfl) rfl (Nat.le_of_ble_eq_true rfl) rfl h7 ?_
  refine ae_aload_n (pc := 40) dX7_copyFrom_40 rfl ?_
  refine ae_getR (pc := 41) (k := 54) (c := 7) (j := 2) (q := 55) dX7_copyFrom_41 rfl rfl (Nat.le_of_ble_eq_true rfl) rfl (Nat.le_of_ble_eq_true rfl) rfl ?_
  refine ae_iconst (pc := 44) (v := nI 0) dX7_copyFrom_44 (by decide) ?_
  refine ae_aload_n (pc := 45) dX7_copyFrom_45 rfl ?_
  refine ae_getR (pc := 46) (k := 1) (c := 7) (j := 2) (q := 2) dX7_copyFrom_46 rfl rfl (Nat.le_of_ble_eq_true rfl) rfl (Nat.le_of_ble_eq_true rfl) rfl ?_
  refine ae_iconst (pc := 49) (v := nI 0) dX7_copyFrom_49 (by decide) ?_
  refine ae_sipush (pc := 50) (v := nI 256) dX7_copyFrom_50 (by decide) ?_
  refine ae_copy (pc := 53) (s0 := 55) (d0 := 2) 0 0 256 dX7_copyFrom_53 (Or.inl ⟨rfl, rfl⟩) (by decide) (by decide) rfl rfl rfl rfl rfl rfl rfl (Nat.le_of_ble_eq_true rfl) (Nat.le_of_ble_eq_true rfl) (Nat.le_of_ble_eq_true rfl) ?_
  refine ae_aload_n (pc := 56) dX7_copyFrom_56 rfl ?_
  refine ae_getR (pc := 57) (k := 54) (c := 7) (j := 8) (q := 58) dX7_copyFrom_57 rfl rfl (Nat.le_of_ble_eq_true rfl) rfl (Nat.le_of_ble_eq_true rfl) rfl ?_
  refine ae_iconst (pc := 60) (v := nI 0) dX7_copyFrom_60 (by decide) ?_
  refine ae_aload_n (pc := 61) dX7_copyFrom_61 rfl ?_
  refine ae_getR (pc := 62) (k := 1) (c := 7) (j := 8) (q := 5) dX7_copyFrom_62 rfl rfl (Nat.le_of_ble_eq_true rfl) rfl (Nat.le_of_ble_eq_true rfl) rfl ?_
  refine ae_iconst (pc := 65) (v := nI 0) dX7_copyFrom_65 (by decide) ?_
  refine ae_sipush (pc := 66) (v := nI 256) dX7_copyFrom_66 (by decide) ?_
  refine ae_copy (pc := 69) (s0 := 58) (d0 := 5) 0 0 256 dX7_copyFrom_69 (Or.inl ⟨rfl, rfl⟩) (by decide) (by decide) rfl rfl rfl rfl rfl rfl rfl (Nat.le_of_ble_eq_true rfl) (Nat.le_of_ble_eq_true rfl) (Nat.le_of_ble_eq_true rfl) ?_
  refine ae_aload_n (pc := 72) dX7_copyFrom_72 rfl ?_
  refine ae_getR (pc := 73) (k := 54) (c := 7) (j := 4) (q := 56) dX7_copyFrom_73 rfl rfl (Nat.le_of_ble_eq_true rfl) rfl (Nat.le_of_ble_eq_true rfl) rfl ?_
  refine ae_iconst (pc := 76) (v := nI 0) dX7_copyFrom_76 (by decide) ?_
  refine ae_aload_n (pc := 77) dX7_copyFrom_77 rfl ?_
  refine ae_getR (pc := 78) (k := 1) (c := 7) (j := 4) (q := 3) dX7_copyFrom_78 rfl rfl (Nat.le_of_ble_eq_true rfl) rfl (Nat.le_of_ble_eq_true rfl) rfl ?_
  refine ae_iconst (pc := 81) (v := nI 0) dX7_copyFrom_81 (by decide) ?_
  refine ae_bipush (pc := 82) (v := nI 16) dX7_copyFrom_82 (by decide) ?_
  refine ae_copy (pc := 84) (s0 := 56) (d0 := 3) 0 0 16 dX7_copyFrom_84 (Or.inl ⟨rfl, rfl⟩) (by decide) (by decide) rfl rfl rfl rfl rfl rfl rfl (Nat.le_of_ble_eq_true rfl) (Nat.le_of_ble_eq_true rfl) (Nat.le_of_ble_eq_true rfl) ?_
  refine ae_iconst (pc := 87) (v := nI 0) dX7_copyFrom_87 (by decide) ?_
  refine ae_istore_n (pc := 88) dX7_copyFrom_88 rfl (Nat.le_of_ble_eq_true rfl) ?_
  skip
  have key : ∀ N : am_M, N.2 = M.2 → (∀ k, (k < 1 ∨ 5 < k) → N.1 k = M.1 k) → (N.1 1 0 = M.1 54 0 ∧ N.1 1 1 = M.1 54 1 ∧ N.1 1 3 = M.1 54 3 ∧ N.1 1 6 = M.1 54 6 ∧ N.1 1 7 = M.1 54 7) → (∀ q, q < 256 → N.1 2 q = M.1 55 q) → (∀ q, q < 256 → N.1 5 q = M.1 58 q) → (∀ q, q < 16 → N.1 3 q = M.1 56 q) → am_E none (am_R d) cX7_copyFrom 7 none (fun v M' => v = none ∧ M'.2 = M.2 ∧ (∀ k, (k < 1 ∨ 5 < k) → M'.1 k = M.1 k) ∧ (M'.1 1 0 = M.1 54 0 ∧ M'.1 1 1 = M.1 54 1 ∧ M'.1 1 3 = M.1 54 3 ∧ M'.1 1 6 = M.1 54 6 ∧ M'.1 1 7 = M.1 54 7) ∧ (∀ q, q < 256 → M'.1 2 q = M.1 55 q) ∧ (∀ q, q < 256 → M'.1 5 q = M.1 58 q) ∧ (∀ q, q < 16 → M'.1 3 q = M.1 56 q) ∧ (∀ q, q < 16 → M'.1 4 q = vp_nar .boolean (M.1 57 q))) (89, [some (.ref 1), some (.ref 54), some (.int (nI 0))], [], N) := by
    intro N n1 n2 n3 n4 n5 n6
    have lp : ∀ l : fT, (∀ q, q < 0 → l q = vp_nar .boolean (M.1 57 q)) → am_E none (am_R d) cX7_copyFrom 7 none (fun v M' => v = none ∧ M'.2 = M.2 ∧ (∀ k, (k < 1 ∨ 5 < k) → M'.1 k = M.1 k) ∧ (M'.1 1 0 = M.1 54 0 ∧ M'.1 1 1 = M.1 54 1 ∧ M'.1 1 3 = M.1 54 3 ∧ M'.1 1 6 = M.1 54 6 ∧ M'.1 1 7 = M.1 54 7) ∧ (∀ q, q < 256 → M'.1 2 q = M.1 55 q) ∧ (∀ q, q < 256 → M'.1 5 q = M.1 58 q) ∧ (∀ q, q < 16 → M'.1 3 q = M.1 56 q) ∧ (∀ q, q < 16 → M'.1 4 q = vp_nar .boolean (M.1 57 q))) (89, [some (.ref 1), some (.ref 54), some (.int (nI 0))], [], (am_u N.1 4 l, N.2)) := by
      refine am_down (P := fun k => ∀ l : fT, (∀ q, q < k → l q = vp_nar .boolean (M.1 57 q)) → am_E none (am_R d) cX7_copyFrom 7 none _ (89, [some (.ref 1), some (.ref 54), some (.int (nI k))], [], (am_u N.1 4 l, N.2))) 16 (fun k hk ih l hl => ?_)
      have ne : ∀ k, k ≠ 4 → (am_u N.1 4 l) k = N.1 k := fun k hk => am_u_ne _ _ hk
      refine ae_iload_n (pc := 89) dX7_copyFrom_89 rfl ?_
      refine ae_bipush (pc := 90) (v := nI 16) dX7_copyFrom_90 (by decide) ?_
      refine ae_icmp_ge (pc := 92) (t := 113) dX7_copyFrom_92 (by decide) (fun c92 => ?_) (fun c92 => ?_)
      · have hk2 : k = 16 := by rw [nI_leI (by omega) (by omega)] at c92; omega
        subst hk2
        refine ae_return (pc := 113) dX7_copyFrom_113 rfl ?_
        exact ⟨rfl, n1, fun k hk => (ne k (by omega)).trans (n2 k hk), ⟨(congrFun (ne 1 (by decide)) 0).trans n3.1, (congrFun (ne 1 (by decide)) 1).trans n3.2.1, (congrFun (ne 1 (by decide)) 3).trans n3.2.2.1, (congrFun (ne 1 (by decide)) 6).trans n3.2.2.2.1, (congrFun (ne 1 (by decide)) 7).trans n3.2.2.2.2⟩, fun q hq => (congrFun (ne 2 (by decide)) q).trans (n4 q hq), fun q hq => (congrFun (ne 5 (by decide)) q).trans (n5 q hq), fun q hq => (congrFun (ne 3 (by decide)) q).trans (n6 q hq), fun q hq => (congrFun (am_u_self N.1 4 l) q).trans (hl q hq)⟩
      · have hk2 : k < 16 := by rw [nI_leI (by omega) (by omega)] at c92; omega
        refine ae_aload_n (pc := 95) dX7_copyFrom_95 rfl ?_
        refine ae_getR (pc := 96) (k := 1) (c := 7) (j := 5) (q := 4) dX7_copyFrom_96 rfl rfl (Nat.le_of_ble_eq_true rfl) rfl (Nat.le_of_ble_eq_true rfl) rfl ?_
        refine ae_iload_n (pc := 99) dX7_copyFrom_99 rfl ?_
        refine ae_aload_n (pc := 100) dX7_copyFrom_100 rfl ?_
        refine ae_getR (pc := 101) (k := 54) (c := 7) (j := 5) (q := 57) dX7_copyFrom_101 rfl rfl (Nat.le_of_ble_eq_true rfl) rfl (Nat.le_of_ble_eq_true rfl) rfl ?_
        refine ae_iload_n (pc := 104) dX7_copyFrom_104 rfl ?_
        refine ae_baload (pc := 105) (k := 57) (N := 16) (v := M.1 57 k) _ dX7_copyFrom_105 (Nat.le_of_ble_eq_true rfl) rfl rfl rfl (by omega) ((congrFun (ne 57 (by decide)) k).trans (congrFun (n2 57 (by omega)) k)) ?_
        refine ae_bastore (pc := 106) (k := 4) (N := 16) (k) dX7_copyFrom_106 (Nat.le_of_ble_eq_true rfl) rfl rfl rfl (by omega) rfl ?_
        refine ae_M (M' := (am_u N.1 4 (upd l k (vp_nar .boolean (M.1 57 k))), N.2)) (by show ((am_u (am_u N.1 4 l) 4 (upd (am_u N.1 4 l 4) k _), N.2) : am_M) = _; rw [am_u_u, am_u_self]) ?_
        refine ae_iinc (pc := 107) (v := nI (k + 1)) dX7_copyFrom_107 rfl (nI_inc k) ?_
        refine ae_goto (pc := 110) (t := 89) dX7_copyFrom_110 (by decide) ?_
        refine ih hk2 _ (fun q hq => ?_)
        by_cases hqk : q = k
        · subst hqk; exact upd_self _ _ _
        · rw [upd_ne _ _ hqk]; exact hl q (by omega)
    have := lp (N.1 4) (fun q hq => absurd hq (Nat.not_lt_zero q))
    rwa [am_u_eta] at this
  refine key _ rfl (fun k hk => ?_) ?_ (fun q hq => ?_) (fun q hq => ?_) (fun q hq => ?_)
  · have : k ≠ 1 ∧ k ≠ 2 ∧ k ≠ 3 ∧ k ≠ 5 := by omega
    simp [am_u, this.1, this.2.1, this.2.2.1, this.2.2.2]
  · simp [am_u, upd]
  · simp [am_u, va_cpy, hq]
  · simp [am_u, va_cpy, hq]
  · simp [am_u, va_cpy, hq]
theorem sc_copy_59_1 (d : Nat) (M : am_M) (h7 : M.1 1 7 = 0 ∨ M.1 1 7 = 1) : am_R (d + 1) zX7_copyFrom [.ref 59, .ref 1] M (fun v M' => v = none ∧ M'.2 = M.2 ∧ (∀ k, (k < 59 ∨ 63 < k) → M'.1 k = M.1 k) ∧ (M'.1 59 0 = M.1 1 0 ∧ M'.1 59 1 = M.1 1 1 ∧ M'.1 59 3 = M.1 1 3 ∧ M'.1 59 6 = M.1 1 6 ∧ M'.1 59 7 = M.1 1 7) ∧ (∀ q, q < 256 → M'.1 60 q = M.1 2 q) ∧ (∀ q, q < 256 → M'.1 63 q = M.1 5 q) ∧ (∀ q, q < 16 → M'.1 61 q = M.1 3 q) ∧ (∀ q, q < 16 → M'.1 62 q = vp_nar .boolean (M.1 4 q))) := by
  refine ae_enter (z := zX7_copyFrom) (y := yX7_copyFrom) (cc := cX7_copyFrom) (mL := 3) (rt := none) (ci := 7) (st := false) (np := 1) (L := [some (.ref 59), some (.ref 1), none]) rfl (by decide) (Nat.le_of_ble_eq_true rfl) rfl ?_
  refine ae_aload_n (pc := 0) dX7_copyFrom_0 rfl ?_
  refine ae_aload_n (pc := 1) dX7_copyFrom_1 rfl ?_
  refine ae_getI (pc := 2) (k := 1) (c := 7) (j := 0) dX7_copyFrom_2 rfl rfl (Or.inl rfl) (Nat.le_of_ble_eq_true rfl) rfl (Nat.le_of_ble_eq_true rfl) rfl ?_
  refine ae_putfield (pc := 5) (k := 59) (c := 7) (j := 0) dX7_copyFrom_5 rfl rfl (Nat.le_of_ble_eq_true rfl) rfl (Nat.le_of_ble_eq_true rfl) rfl rfl ?_
  refine ae_aload_n (pc := 8) dX7_copyFrom_8 rfl ?_
  refine ae_aload_n (pc := 9) dX7_copyFrom_9 rfl ?_
  refine ae_getI (pc := 10) (k := 1) (c := 7) (j := 1) dX7_copyFrom_10 rfl rfl (Or.inl rfl) (Nat.le_of_ble_eq_true rfl) rfl (Nat.le_of_ble_eq_true rfl) rfl ?_
  refine ae_putfield (pc := 13) (k := 59) (c := 7) (j := 1) dX7_copyFrom_13 rfl rfl (Nat.le_of_ble_eq_true rfl) rfl (Nat.le_of_ble_eq_true rfl) rfl rfl ?_
  refine ae_aload_n (pc := 16) dX7_copyFrom_16 rfl ?_
  refine ae_aload_n (pc := 17) dX7_copyFrom_17 rfl ?_
  refine ae_getI (pc := 18) (k := 1) (c := 7) (j := 3) dX7_copyFrom_18 rfl rfl (Or.inl rfl) (Nat.le_of_ble_eq_true rfl) rfl (Nat.le_of_ble_eq_true rfl) rfl ?_
  refine ae_putfield (pc := 21) (k := 59) (c := 7) (j := 3) dX7_copyFrom_21 rfl rfl (Nat.le_of_ble_eq_true rfl) rfl (Nat.le_of_ble_eq_true rfl) rfl rfl ?_
  refine ae_aload_n (pc := 24) dX7_copyFrom_24 rfl ?_
  refine ae_aload_n (pc := 25) dX7_copyFrom_25 rfl ?_
  refine ae_getI (pc := 26) (k := 1) (c := 7) (j := 6) dX7_copyFrom_26 rfl rfl (Or.inl rfl) (Nat.le_of_ble_eq_true rfl) rfl (Nat.le_of_ble_eq_true rfl) rfl ?_
  refine ae_putfield (pc := 29) (k := 59) (c := 7) (j := 6) dX7_copyFrom_29 rfl rfl (Nat.le_of_ble_eq_true rfl) rfl (Nat.le_of_ble_eq_true rfl) rfl rfl ?_
  refine ae_aload_n (pc := 32) dX7_copyFrom_32 rfl ?_
  refine ae_aload_n (pc := 33) dX7_copyFrom_33 rfl ?_
  refine ae_getI (pc := 34) (k := 1) (c := 7) (j := 7) dX7_copyFrom_34 rfl rfl (Or.inr rfl) (Nat.le_of_ble_eq_true rfl) rfl (Nat.le_of_ble_eq_true rfl) rfl ?_
  refine ae_putfieldZ (pc := 37) (k := 59) (c := 7) (j := 7) dX7_copyFrom_37 rfl rfl (Nat.le_of_ble_eq_true rfl) rfl (Nat.le_of_ble_eq_true rfl) rfl h7 ?_
  refine ae_aload_n (pc := 40) dX7_copyFrom_40 rfl ?_
  refine ae_getR (pc := 41) (k := 1) (c := 7) (j := 2) (q := 2) dX7_copyFrom_41 rfl rfl (Nat.le_of_ble_eq_true rfl) rfl (Nat.le_of_ble_eq_true rfl) rfl ?_
  refine ae_iconst (pc := 44) (v := nI 0) dX7_copyFrom_44 (by decide) ?_
  refine ae_aload_n (pc := 45) dX7_copyFrom_45 rfl ?_
  refine ae_getR (pc := 46) (k := 59) (c := 7) (j := 2) (q := 60) dX7_copyFrom_46 rfl rfl (Nat.le_of_ble_eq_true rfl) rfl (Nat.le_of_ble_eq_true rfl) rfl ?_
  refine ae_iconst (pc := 49) (v := nI 0) dX7_copyFrom_49 (by decide) ?_
  refine ae_sipush (pc := 50) (v := nI 256) dX7_copyFrom_50 (by decide) ?_
  refine ae_copy (pc := 53) (s0 := 2) (d0 := 60) 0 0 256 dX7_copyFrom_53 (Or.inl ⟨rfl, rfl⟩) (by decide) (by decide) rfl rfl rfl rfl rfl rfl rfl (Nat.le_of_ble_eq_true rfl) (Nat.le_of_ble_eq_true rfl) (Nat.le_of_ble_eq_true rfl) ?_
  refine ae_aload_n (pc := 56) dX7_copyFrom_56 rfl ?_
  refine ae_getR (pc := 57) (k := 1) (c := 7) (j := 8) (q := 5) dX7_copyFrom_57 rfl rfl (Nat.le_of_ble_eq_true rfl) rfl (Nat.le_of_ble_eq_true rfl) rfl ?_
  refine ae_iconst (pc := 60) (v := nI 0) dX7_copyFrom_60 (by decide) ?_
  refine ae_aload_n (pc := 61) dX7_copyFrom_61 rfl ?_
  refine ae_getR (pc := 62) (k := 59) (c := 7) (j := 8) (q := 63) dX7_copyFrom_62 rfl rfl (Nat.le_of_ble_eq_true rfl) rfl (Nat.le_of_ble_eq_true rfl) rfl ?_
  refine ae_iconst (pc := 65) (v := nI 0) dX7_copyFrom_65 (by decide) ?_
  refine ae_sipush (pc := 66) (v := nI 256) dX7_copyFrom_66 (by decide) ?_
  refine ae_copy (pc := 69) (s0 := 5) (d0 := 63) 0 0 256 dX7_copyFrom_69 (Or.inl ⟨rfl, rfl⟩) (by decide) (by decide) rfl rfl rfl rfl rfl rfl rfl (Nat.le_of_ble_eq_true rfl) (Nat.le_of_ble_eq_true rfl) (Nat.le_of_ble_eq_true rfl) ?_
  refine ae_aload_n (pc := 72) dX7_copyFrom_72 rfl ?_
  refine ae_getR (pc := 73) (k := 1) (c := 7) (j := 4) (q := 3) dX7_copyFrom_73 rfl rfl (Nat.le_of_ble_eq_true rfl) rfl (Nat.le_of_ble_eq_true rfl) rfl ?_
  refine ae_iconst (pc := 76) (v := nI 0) dX7_copyFrom_76 (by decide) ?_
  refine ae_aload_n (pc := 77) dX7_copyFrom_77 rfl ?_
  refine ae_getR (pc := 78) (k := 59) (c := 7) (j := 4) (q := 61) dX7_copyFrom_78 rfl rfl (Nat.le_of_ble_eq_true rfl) rfl (Nat.le_of_ble_eq_true rfl) rfl ?_
  refine ae_iconst (pc := 81) (v := nI 0) dX7_copyFrom_81 (by decide) ?_
  refine ae_bipush (pc := 82) (v := nI 16) dX7_copyFrom_82 (by decide) ?_
  refine ae_copy (pc := 84) (s0 := 3) (d0 := 61) 0 0 16 dX7_copyFrom_84 (Or.inl ⟨rfl, rfl⟩) (by decide) (by decide) rfl rfl rfl rfl rfl rfl rfl (Nat.le_of_ble_eq_true rfl) (Nat.le_of_ble_eq_true rfl) (Nat.le_of_ble_eq_true rfl) ?_
  refine ae_iconst (pc := 87) (v := nI 0) dX7_copyFrom_87 (by decide) ?_
  refine ae_istore_n (pc := 88) dX7_copyFrom_88 rfl (Nat.le_of_ble_eq_true rfl) ?_
  skip
  have key : ∀ N : am_M, N.2 = M.2 → (∀ k, (k < 59 ∨ 63 < k) → N.1 k = M.1 k) → (N.1 59 0 = M.1 1 0 ∧ N.1 59 1 = M.1 1 1 ∧ N.1 59 3 = M.1 1 3 ∧ N.1 59 6 = M.1 1 6 ∧ N.1 59 7 = M.1 1 7) → (∀ q, q < 256 → N.1 60 q = M.1 2 q) → (∀ q, q < 256 → N.1 63 q = M.1 5 q) → (∀ q, q < 16 → N.1 61 q = M.1 3 q) → am_E none (am_R d) cX7_copyFrom 7 none (fun v M' => v = none ∧ M'.2 = M.2 ∧ (∀ k, (k < 59 ∨ 63 < k) → M'.1 k = M.1 k) ∧ (M'.1 59 0 = M.1 1 0 ∧ M'.1 59 1 = M.1 1 1 ∧ M'.1 59 3 = M.1 1 3 ∧ M'.1 59 6 = M.1 1 6 ∧ M'.1 59 7 = M.1 1 7) ∧ (∀ q, q < 256 → M'.1 60 q = M.1 2 q) ∧ (∀ q, q < 256 → M'.1 63 q = M.1 5 q) ∧ (∀ q, q < 16 → M'.1 61 q = M.1 3 q) ∧ (∀ q, q < 16 → M'.1 62 q = vp_nar .boolean (M.1 4 q))) (89, [some (.ref 59), some (.ref 1), some (.int (nI 0))], [], N) := by
    intro N n1 n2 n3 n4 n5 n6
    have lp : ∀ l : fT, (∀ q, q < 0 → l q = vp_nar .boolean (M.1 4 q)) → am_E none (am_R d) cX7_copyFrom 7 none (fun v M' => v = none ∧ M'.2 = M.2 ∧ (∀ k, (k < 59 ∨ 63 < k) → M'.1 k = M.1 k) ∧ (M'.1 59 0 = M.1 1 0 ∧ M'.1 59 1 = M.1 1 1 ∧ M'.1 59 3 = M.1 1 3 ∧ M'.1 59 6 = M.1 1 6 ∧ M'.1 59 7 = M.1 1 7) ∧ (∀ q, q < 256 → M'.1 60 q = M.1 2 q) ∧ (∀ q, q < 256 → M'.1 63 q = M.1 5 q) ∧ (∀ q, q < 16 → M'.1 61 q = M.1 3 q) ∧ (∀ q, q < 16 → M'.1 62 q = vp_nar .boolean (M.1 4 q))) (89, [some (.ref 59), some (.ref 1), some (.int (nI 0))], [], (am_u N.1 62 l, N.2)) := by
      refine am_down (P := fun k => ∀ l : fT, (∀ q, q < k → l q = vp_nar .boolean (M.1 4 q)) → am_E none (am_R d) cX7_copyFrom 7 none _ (89, [some (.ref 59), some (.ref 1), some (.int (nI k))], [], (am_u N.1 62 l, N.2))) 16 (fun k hk ih l hl => ?_)
      have ne : ∀ k, k ≠ 62 → (am_u N.1 62 l) k = N.1 k := fun k hk => am_u_ne _ _ hk
      refine ae_iload_n (pc := 89) dX7_copyFrom_89 rfl ?_
      refine ae_bipush (pc := 90) (v := nI 16) dX7_copyFrom_90 (by decide) ?_
      refine ae_icmp_ge (pc := 92) (t := 113) dX7_copyFrom_92 (by decide) (fun c92 => ?_) (fun c92 => ?_)
      · have hk2 : k = 16 := by rw [nI_leI (by omega) (by omega)] at c92; omega
        subst hk2
        refine ae_return (pc := 113) dX7_copyFrom_113 rfl ?_
        exact ⟨rfl, n1, fun k hk => (ne k (by omega)).trans (n2 k hk), ⟨(congrFun (ne 59 (by decide)) 0).trans n3.1, (congrFun (ne 59 (by decide)) 1).trans n3.2.1, (congrFun (ne 59 (by decide)) 3).trans n3.2.2.1, (congrFun (ne 59 (by decide)) 6).trans n3.2.2.2.1, (congrFun (ne 59 (by decide)) 7).trans n3.2.2.2.2⟩, fun q hq => (congrFun (ne 60 (by decide)) q).trans (n4 q hq), fun q hq => (congrFun (ne 63 (by decide)) q).trans (n5 q hq), fun q hq => (congrFun (ne 61 (by decide)) q).trans (n6 q hq), fun q hq => (congrFun (am_u_self N.1 62 l) q).trans (hl q hq)⟩
      · have hk2 : k < 16 := by rw [nI_leI (by omega) (by omega)] at c92; omega
        refine ae_aload_n (pc := 95) dX7_copyFrom_95 rfl ?_
        refine ae_getR (pc := 96) (k := 59) (c := 7) (j := 5) (q := 62) dX7_copyFrom_96 rfl rfl (Nat.le_of_ble_eq_true rfl) rfl (Nat.le_of_ble_eq_true rfl) rfl ?_
        refine ae_iload_n (pc := 99) dX7_copyFrom_99 rfl ?_
        refine ae_aload_n (pc := 100) dX7_copyFrom_100 rfl ?_
        refine ae_getR (pc := 101) (k := 1) (c := 7) (j := 5) (q := 4) dX7_copyFrom_101 rfl rfl (Nat.le_of_ble_eq_true rfl) rfl (Nat.le_of_ble_eq_true rfl) rfl ?_
        refine ae_iload_n (pc := 104) dX7_copyFrom_104 rfl ?_
        refine ae_baload (pc := 105) (k := 4) (N := 16) (v := M.1 4 k) _ dX7_copyFrom_105 (Nat.le_of_ble_eq_true rfl) rfl rfl rfl (by omega) ((congrFun (ne 4 (by decide)) k).trans (congrFun (n2 4 (by omega)) k)) ?_
        refine ae_bastore (pc := 106) (k := 62) (N := 16) (k) dX7_copyFrom_106 (Nat.le_of_ble_eq_true rfl) rfl rfl rfl (by omega) rfl ?_
        refine ae_M (M' := (am_u N.1 62 (upd l k (vp_nar .boolean (M.1 4 k))), N.2)) (by show ((am_u (am_u N.1 62 l) 62 (upd (am_u N.1 62 l 62) k _), N.2) : am_M) = _; rw [am_u_u, am_u_self]) ?_
        refine ae_iinc (pc := 107) (v := nI (k + 1)) dX7_copyFrom_107 rfl (nI_inc k) ?_
        refine ae_goto (pc := 110) (t := 89) dX7_copyFrom_110 (by decide) ?_
        refine ih hk2 _ (fun q hq => ?_)
        by_cases hqk : q = k
        · subst hqk; exact upd_self _ _ _
        · rw [upd_ne _ _ hqk]; exact hl q (by omega)
    have := lp (N.1 62) (fun q hq => absurd hq (Nat.not_lt_zero q))
    rwa [am_u_eta] at this
  refine key _ rfl (fun k hk => ?_) ?_ (fun q hq => ?_) (fun q hq => ?_) (fun q hq => ?_)
  · have : k ≠ 59 ∧ k ≠ 60 ∧ k ≠ 61 ∧ k ≠ 63 := by omega
    simp [am_u, this.1, this.2.1, this.2.2.1, this.2.2.2]
  · simp [am_u, upd]
  · simp [am_u, va_cpy, hq]
  · simp [am_u, va_cpy, hq]
  · simp [am_u, va_cpy, hq]
theorem sc_copy_1_59 (d : Nat) (M : am_M) (h7 : M.1 59 7 = 0 ∨ M.1 59 7 = 1) : am_R (d + 1) zX7_copyFrom [.ref 1, .ref 59] M (fun v M' => v = none ∧ M'.2 = M.2 ∧ (∀ k, (k < 1 ∨ 5 < k) → M'.1 k = M.1 k) ∧ (M'.1 1 0 = M.1 59 0 ∧ M'.1 1 1 = M.1 59 1 ∧ M'.1 1 3 = M.1 59 3 ∧ M'.1 1 6 = M.1 59 6 ∧ M'.1 1 7 = M.1 59 7) ∧ (∀ q, q < 256 → M'.1 2 q = M.1 60 q) ∧ (∀ q, q < 256 → M'.1 5 q = M.1 63 q) ∧ (∀ q, q < 16 → M'.1 3 q = M.1 61 q) ∧ (∀ q, q < 16 → M'.1 4 q = vp_nar .boolean (M.1 62 q))) := by
  refine ae_enter (z := zX7_copyFrom) (y := yX7_copyFrom) (cc := cX7_copyFrom) (mL := 3) (rt := none) (ci := 7) (st := false) (np := 1) (L := [some (.ref 1), some (.ref 59), none]) rfl (by decide) (Nat.le_of_ble_eq_true rfl) rfl ?_
  refine ae_aload_n (pc := 0) dX7_copyFrom_0 rfl ?_
  refine ae_aload_n (pc := 1) dX7_copyFrom_1 rfl ?_
  refine ae_getI (pc := 2) (k := 59) (c := 7) (j := 0) dX7_copyFrom_2 rfl rfl (Or.inl rfl) (Nat.le_of_ble_eq_true rfl) rfl (Nat.le_of_ble_eq_true rfl) rfl ?_
  refine ae_putfield (pc := 5) (k := 1) (c := 7) (j := 0) dX7_copyFrom_5 rfl rfl (Nat.le_of_ble_eq_true rfl) rfl (Nat.le_of_ble_eq_true rfl) rfl rfl ?_
  refine ae_aload_n (pc := 8) dX7_copyFrom_8 rfl ?_
  refine ae_aload_n (pc := 9) dX7_copyFrom_9 rfl ?_
  refine ae_getI (pc := 10) (k := 59) (c := 7) (j := 1) dX7_copyFrom_10 rfl rfl (Or.inl rfl) (Nat.le_of_ble_eq_true rfl) rfl (Nat.le_of_ble_eq_true rfl) rfl ?_
  refine ae_putfield (pc := 13) (k := 1) (c := 7) (j := 1) dX7_copyFrom_13 rfl rfl (Nat.le_of_ble_eq_true rfl) rfl (Nat.le_of_ble_eq_true rfl) rfl rfl ?_
  refine ae_aload_n (pc := 16) dX7_copyFrom_16 rfl ?_
  refine ae_aload_n (pc := 17) dX7_copyFrom_17 rfl ?_
  refine ae_getI (pc := 18) (k := 59) (c := 7) (j := 3) dX7_copyFrom_18 rfl rfl (Or.inl rfl) (Nat.le_of_ble_eq_true rfl) rfl (Nat.le_of_ble_eq_true rfl) rfl ?_
  refine ae_putfield (pc := 21) (k := 1) (c := 7) (j := 3) dX7_copyFrom_21 rfl rfl (Nat.le_of_ble_eq_true rfl) rfl (Nat.le_of_ble_eq_true rfl) rfl rfl ?_
  refine ae_aload_n (pc := 24) dX7_copyFrom_24 rfl ?_
  refine ae_aload_n (pc := 25) dX7_copyFrom_25 rfl ?_
  refine ae_getI (pc := 26) (k := 59) (c := 7) (j := 6) dX7_copyFrom_26 rfl rfl (Or.inl rfl) (Nat.le_of_ble_eq_true rfl) rfl (Nat.le_of_ble_eq_true rfl) rfl ?_
  refine ae_putfield (pc := 29) (k := 1) (c := 7) (j := 6) dX7_copyFrom_29 rfl rfl (Nat.le_of_ble_eq_true rfl) rfl (Nat.le_of_ble_eq_true rfl) rfl rfl ?_
  refine ae_aload_n (pc := 32) dX7_copyFrom_32 rfl ?_
  refine ae_aload_n (pc := 33) dX7_copyFrom_33 rfl ?_
  refine ae_getI (pc := 34) (k := 59) (c := 7) (j := 7) dX7_copyFrom_34 rfl rfl (Or.inr rfl) (Nat.le_of_ble_eq_true rfl) rfl (Nat.le_of_ble_eq_true rfl) rfl ?_
  refine ae_putfieldZ (pc := 37) (k := 1) (c := 7) (j := 7) dX7_copyFrom_37 rfl rfl (Nat.le_of_ble_eq_true rfl) rfl (Nat.le_of_ble_eq_true rfl) rfl h7 ?_
  refine ae_aload_n (pc := 40) dX7_copyFrom_40 rfl ?_
  refine ae_getR (pc := 41) (k := 59) (c := 7) (j := 2) (q := 60) dX7_copyFrom_41 rfl rfl (Nat.le_of_ble_eq_true rfl) rfl (Nat.le_of_ble_eq_true rfl) rfl ?_
  refine ae_iconst (pc := 44) (v := nI 0) dX7_copyFrom_44 (by decide) ?_
  refine ae_aload_n (pc := 45) dX7_copyFrom_45 rfl ?_
  refine ae_getR (pc := 46) (k := 1) (c := 7) (j := 2) (q := 2) dX7_copyFrom_46 rfl rfl (Nat.le_of_ble_eq_true rfl) rfl (Nat.le_of_ble_eq_true rfl) rfl ?_
  refine ae_iconst (pc := 49) (v := nI 0) dX7_copyFrom_49 (by decide) ?_
  refine ae_sipush (pc := 50) (v := nI 256) dX7_copyFrom_50 (by decide) ?_
  refine ae_copy (pc := 53) (s0 := 60) (d0 := 2) 0 0 256 dX7_copyFrom_53 (Or.inl ⟨rfl, rfl⟩) (by decide) (by decide) rfl rfl rfl rfl rfl rfl rfl (Nat.le_of_ble_eq_true rfl) (Nat.le_of_ble_eq_true rfl) (Nat.le_of_ble_eq_true rfl) ?_
  refine ae_aload_n (pc := 56) dX7_copyFrom_56 rfl ?_
  refine ae_getR (pc := 57) (k := 59) (c := 7) (j := 8) (q := 63) dX7_copyFrom_57 rfl rfl (Nat.le_of_ble_eq_true rfl) rfl (Nat.le_of_ble_eq_true rfl) rfl ?_
  refine ae_iconst (pc := 60) (v := nI 0) dX7_copyFrom_60 (by decide) ?_
  refine ae_aload_n (pc := 61) dX7_copyFrom_61 rfl ?_
  refine ae_getR (pc := 62) (k := 1) (c := 7) (j := 8) (q := 5) dX7_copyFrom_62 rfl rfl (Nat.le_of_ble_eq_true rfl) rfl (Nat.le_of_ble_eq_true rfl) rfl ?_
  refine ae_iconst (pc := 65) (v := nI 0) dX7_copyFrom_65 (by decide) ?_
  refine ae_sipush (pc := 66) (v := nI 256) dX7_copyFrom_66 (by decide) ?_
  refine ae_copy (pc := 69) (s0 := 63) (d0 := 5) 0 0 256 dX7_copyFrom_69 (Or.inl ⟨rfl, rfl⟩) (by decide) (by decide) rfl rfl rfl rfl rfl rfl rfl (Nat.le_of_ble_eq_true rfl) (Nat.le_of_ble_eq_true rfl) (Nat.le_of_ble_eq_true rfl) ?_
  refine ae_aload_n (pc := 72) dX7_copyFrom_72 rfl ?_
  refine ae_getR (pc := 73) (k := 59) (c := 7) (j := 4) (q := 61) dX7_copyFrom_73 rfl rfl (Nat.le_of_ble_eq_true rfl) rfl (Nat.le_of_ble_eq_true rfl) rfl ?_
  refine ae_iconst (pc := 76) (v := nI 0) dX7_copyFrom_76 (by decide) ?_
  refine ae_aload_n (pc := 77) dX7_copyFrom_77 rfl ?_
  refine ae_getR (pc := 78) (k := 1) (c := 7) (j := 4) (q := 3) dX7_copyFrom_78 rfl rfl (Nat.le_of_ble_eq_true rfl) rfl (Nat.le_of_ble_eq_true rfl) rfl ?_
  refine ae_iconst (pc := 81) (v := nI 0) dX7_copyFrom_81 (by decide) ?_
  refine ae_bipush (pc := 82) (v := nI 16) dX7_copyFrom_82 (by decide) ?_
  refine ae_copy (pc := 84) (s0 := 61) (d0 := 3) 0 0 16 dX7_copyFrom_84 (Or.inl ⟨rfl, rfl⟩) (by decide) (by decide) rfl rfl rfl rfl rfl rfl rfl (Nat.le_of_ble_eq_true rfl) (Nat.le_of_ble_eq_true rfl) (Nat.le_of_ble_eq_true rfl) ?_
  refine ae_iconst (pc := 87) (v := nI 0) dX7_copyFrom_87 (by decide) ?_
  refine ae_istore_n (pc := 88) dX7_copyFrom_88 rfl (Nat.le_of_ble_eq_true rfl) ?_
  skip
  have key : ∀ N : am_M, N.2 = M.2 → (∀ k, (k < 1 ∨ 5 < k) → N.1 k = M.1 k) → (N.1 1 0 = M.1 59 0 ∧ N.1 1 1 = M.1 59 1 ∧ N.1 1 3 = M.1 59 3 ∧ N.1 1 6 = M.1 59 6 ∧ N.1 1 7 = M.1 59 7) → (∀ q, q < 256 → N.1 2 q = M.1 60 q) → (∀ q, q < 256 → N.1 5 q = M.1 63 q) → (∀ q, q < 16 → N.1 3 q = M.1 61 q) → am_E none (am_R d) cX7_copyFrom 7 none (fun v M' => v = none ∧ M'.2 = M.2 ∧ (∀ k, (k < 1 ∨ 5 < k) → M'.1 k = M.1 k) ∧ (M'.1 1 0 = M.1 59 0 ∧ M'.1 1 1 = M.1 59 1 ∧ M'.1 1 3 = M.1 59 3 ∧ M'.1 1 6 = M.1 59 6 ∧ M'.1 1 7 = M.1 59 7) ∧ (∀ q, q < 256 → M'.1 2 q = M.1 60 q) ∧ (∀ q, q < 256 → M'.1 5 q = M.1 63 q) ∧ (∀ q, q < 16 → M'.1 3 q = M.1 61 q) ∧ (∀ q, q < 16 → M'.1 4 q = vp_nar .boolean (M.1 62 q))) (89, [some (.ref 1), some (.ref 59), some (.int (nI 0))], [], N) := by
    intro N n1 n2 n3 n4 n5 n6
    have lp : ∀ l : fT, (∀ q, q < 0 → l q = vp_nar .boolean (M.1 62 q)) → am_E none (am_R d) cX7_copyFrom 7 none (fun v M' => v = none ∧ M'.2 = M.2 ∧ (∀ k, (k < 1 ∨ 5 < k) → M'.1 k = M.1 k) ∧ (M'.1 1 0 = M.1 59 0 ∧ M'.1 1 1 = M.1 59 1 ∧ M'.1 1 3 = M.1 59 3 ∧ M'.1 1 6 = M.1 59 6 ∧ M'.1 1 7 = M.1 59 7) ∧ (∀ q, q < 256 → M'.1 2 q = M.1 60 q) ∧ (∀ q, q < 256 → M'.1 5 q = M.1 63 q) ∧ (∀ q, q < 16 → M'.1 3 q = M.1 61 q) ∧ (∀ q, q < 16 → M'.1 4 q = vp_nar .boolean (M.1 62 q))) (89, [some (.ref 1), some (.ref 59), some (.int (nI 0))], [], (am_u N.1 4 l, N.2)) := by
      refine am_down (P := fun k => ∀ l : fT, (∀ q, q < k → l q = vp_nar .boolean (M.1 62 q)) → am_E none (am_R d) cX7_copyFrom 7 none _ (89, [some (.ref 1), some (.ref 59), some (.int (nI k))], [], (am_u N.1 4 l, N.2))) 16 (fun k hk ih l hl => ?_)
      have ne : ∀ k, k ≠ 4 → (am_u N.1 4 l) k = N.1 k := fun k hk => am_u_ne _ _ hk
      refine ae_iload_n (pc := 89) dX7_copyFrom_89 rfl ?_
      refine ae_bipush (pc := 90) (v := nI 16) dX7_copyFrom_90 (by decide) ?_
      refine ae_icmp_ge (pc := 92) (t := 113) dX7_copyFrom_92 (by decide) (fun c92 => ?_) (fun c92 => ?_)
      · have hk2 : k = 16 := by rw [nI_leI (by omega) (by omega)] at c92; omega
        subst hk2
        refine ae_return (pc := 113) dX7_copyFrom_113 rfl ?_
        exact ⟨rfl, n1, fun k hk => (ne k (by omega)).trans (n2 k hk), ⟨(congrFun (ne 1 (by decide)) 0).trans n3.1, (congrFun (ne 1 (by decide)) 1).trans n3.2.1, (congrFun (ne 1 (by decide)) 3).trans n3.2.2.1, (congrFun (ne 1 (by decide)) 6).trans n3.2.2.2.1, (congrFun (ne 1 (by decide)) 7).trans n3.2.2.2.2⟩, fun q hq => (congrFun (ne 2 (by decide)) q).trans (n4 q hq), fun q hq => (congrFun (ne 5 (by decide)) q).trans (n5 q hq), fun q hq => (congrFun (ne 3 (by decide)) q).trans (n6 q hq), fun q hq => (congrFun (am_u_self N.1 4 l) q).trans (hl q hq)⟩
      · have hk2 : k < 16 := by rw [nI_leI (by omega) (by omega)] at c92; omega
        refine ae_aload_n (pc := 95) dX7_copyFrom_95 rfl ?_
        refine ae_getR (pc := 96) (k := 1) (c := 7) (j := 5) (q := 4) dX7_copyFrom_96 rfl rfl (Nat.le_of_ble_eq_true rfl) rfl (Nat.le_of_ble_eq_true rfl) rfl ?_
        refine ae_iload_n (pc := 99) dX7_copyFrom_99 rfl ?_
        refine ae_aload_n (pc := 100) dX7_copyFrom_100 rfl ?_
        refine ae_getR (pc := 101) (k := 59) (c := 7) (j := 5) (q := 62) dX7_copyFrom_101 rfl rfl (Nat.le_of_ble_eq_true rfl) rfl (Nat.le_of_ble_eq_true rfl) rfl ?_
        refine ae_iload_n (pc := 104) dX7_copyFrom_104 rfl ?_
        refine ae_baload (pc := 105) (k := 62) (N := 16) (v := M.1 62 k) _ dX7_copyFrom_105 (Nat.le_of_ble_eq_true rfl) rfl rfl rfl (by omega) ((congrFun (ne 62 (by decide)) k).trans (congrFun (n2 62 (by omega)) k)) ?_
        refine ae_bastore (pc := 106) (k := 4) (N := 16) (k) dX7_copyFrom_106 (Nat.le_of_ble_eq_true rfl) rfl rfl rfl (by omega) rfl ?_
        refine ae_M (M' := (am_u N.1 4 (upd l k (vp_nar .boolean (M.1 62 k))), N.2)) (by show ((am_u (am_u N.1 4 l) 4 (upd (am_u N.1 4 l 4) k _), N.2) : am_M) = _; rw [am_u_u, am_u_self]) ?_
        refine ae_iinc (pc := 107) (v := nI (k + 1)) dX7_copyFrom_107 rfl (nI_inc k) ?_
        refine ae_goto (pc := 110) (t := 89) dX7_copyFrom_110 (by decide) ?_
        refine ih hk2 _ (fun q hq => ?_)
        by_cases hqk : q = k
        · subst hqk; exact upd_self _ _ _
        · rw [upd_ne _ _ hqk]; exact hl q (by omega)
    have := lp (N.1 4) (fun q hq => absurd hq (Nat.not_lt_zero q))
    rwa [am_u_eta] at this
  refine key _ rfl (fun k hk => ?_) ?_ (fun q hq => ?_) (fun q hq => ?_) (fun q hq => ?_)
  · have : k ≠ 1 ∧ k ≠ 2 ∧ k ≠ 3 ∧ k ≠ 5 := by omega
    simp [am_u, this.1, this.2.1, this.2.2.1, this.2.2.2]
  · simp [am_u, upd]
  · simp [am_u, va_cpy, hq]
  · simp [am_u, va_cpy, hq]
  · simp [am_u, va_cpy, hq]
theorem sc_copy_64_1 (d : Nat) (M : am_M) (h7 : M.1 1 7 = 0 ∨ M.1 1 7 = 1) : am_R (d + 1) zX7_copyFrom [.ref 64, .ref 1] M (fun v M' => v = none ∧ M'.2 = M.2 ∧ (∀ k, (k < 64 ∨ 68 < k) → M'.1 k = M.1 k) ∧ (M'.1 64 0 = M.1 1 0 ∧ M'.1 64 1 = M.1 1 1 ∧ M'.1 64 3 = M.1 1 3 ∧ M'.1 64 6 = M.1 1 6 ∧ M'.1 64 7 = M.1 1 7) ∧ (∀ q, q < 256 → M'.1 65 q = M.1 2 q) ∧ (∀ q, q < 256 → M'.1 68 q = M.1 5 q) ∧ (∀ q, q < 16 → M'.1 66 q = M.1 3 q) ∧ (∀ q, q < 16 → M'.1 67 q = vp_nar .boolean (M.1 4 q))) := by
  refine ae_enter (z := zX7_copyFrom) (y := yX7_copyFrom) (cc := cX7_copyFrom) (mL := 3) (rt := none) (ci := 7) (st := false) (np := 1) (L := [some (.ref 64), some (.ref 1), none]) rfl (by decide) (Nat.le_of_ble_eq_true rfl) rfl ?_
  refine ae_aload_n (pc := 0) dX7_copyFrom_0 rfl ?_
  refine ae_aload_n (pc := 1) dX7_copyFrom_1 rfl ?_
  refine ae_getI (pc := 2) (k := 1) (c := 7) (j := 0) dX7_copyFrom_2 rfl rfl (Or.inl rfl) (Nat.le_of_ble_eq_true rfl) rfl (Nat.le_of_ble_eq_true rfl) rfl ?_
  refine ae_putfield (pc := 5) (k := 64) (c := 7) (j := 0) dX7_copyFrom_5 rfl rfl (Nat.le_of_ble_eq_true rfl) rfl (Nat.le_of_ble_eq_true rfl) rfl rfl ?_
  refine ae_aload_n (pc := 8) dX7_copyFrom_8 rfl ?_
  refine ae_aload_n (pc := 9) dX7_copyFrom_9 rfl ?_
  refine ae_getI (pc := 10) (k := 1) (c := 7) (j := 1) dX7_copyFrom_10 rfl rfl (Or.inl rfl) (Nat.le_of_ble_eq_true rfl) rfl (Nat.le_of_ble_eq_true rfl) rfl ?_
  refine ae_putfield (pc := 13) (k := 64) (c := 7) (j := 1) dX7_copyFrom_13 rfl rfl (Nat.le_of_ble_eq_true rfl) rfl (Nat.le_of_ble_eq_true rfl) rfl rfl ?_
  refine ae_aload_n (pc := 16) dX7_copyFrom_16 rfl ?_
  refine ae_aload_n (pc := 17) dX7_copyFrom_17 rfl ?_
  refine ae_getI (pc := 18) (k := 1) (c := 7) (j := 3) dX7_copyFrom_18 rfl rfl (Or.inl rfl) (Nat.le_of_ble_eq_true rfl) rfl (Nat.le_of_ble_eq_true rfl) rfl ?_
  refine ae_putfield (pc := 21) (k := 64) (c := 7) (j := 3) dX7_copyFrom_21 rfl rfl (Nat.le_of_ble_eq_true rfl) rfl (Nat.le_of_ble_eq_true rfl) rfl rfl ?_
  refine ae_aload_n (pc := 24) dX7_copyFrom_24 rfl ?_
  refine ae_aload_n (pc := 25) dX7_copyFrom_25 rfl ?_
  refine ae_getI (pc := 26) (k := 1) (c := 7) (j := 6) dX7_copyFrom_26 rfl rfl (Or.inl rfl) (Nat.le_of_ble_eq_true rfl) rfl (Nat.le_of_ble_eq_true rfl) rfl ?_
  refine ae_putfield (pc := 29) (k := 64) (c := 7) (j := 6) dX7_copyFrom_29 rfl rfl (Nat.le_of_ble_eq_true rfl) rfl (Nat.le_of_ble_eq_true rfl) rfl rfl ?_
  refine ae_aload_n (pc := 32) dX7_copyFrom_32 rfl ?_
  refine ae_aload_n (pc := 33) dX7_copyFrom_33 rfl ?_
  refine ae_getI (pc := 34) (k := 1) (c := 7) (j := 7) dX7_copyFrom_34 rfl rfl (Or.inr rfl) (Nat.le_of_ble_eq_true rfl) rfl (Nat.le_of_ble_eq_true rfl) rfl ?_
  refine ae_putfieldZ (pc := 37) (k := 64) (c := 7) (j := 7) dX7_copyFrom_37 rfl rfl (Nat.le_of_ble_eq_true rfl) rfl (Nat.le_of_ble_eq_true rfl) rfl h7 ?_
  refine ae_aload_n (pc := 40) dX7_copyFrom_40 rfl ?_
  refine ae_getR (pc := 41) (k := 1) (c := 7) (j := 2) (q := 2) dX7_copyFrom_41 rfl rfl (Nat.le_of_ble_eq_true rfl) rfl (Nat.le_of_ble_eq_true rfl) rfl ?_
  refine ae_iconst (pc := 44) (v := nI 0) dX7_copyFrom_44 (by decide) ?_
  refine ae_aload_n (pc := 45) dX7_copyFrom_45 rfl ?_
  refine ae_getR (pc := 46) (k := 64) (c := 7) (j := 2) (q := 65) dX7_copyFrom_46 rfl rfl (Nat.le_of_ble_eq_true rfl) rfl (Nat.le_of_ble_eq_true rfl) rfl ?_
  refine ae_iconst (pc := 49) (v := nI 0) dX7_copyFrom_49 (by decide) ?_
  refine ae_sipush (pc := 50) (v := nI 256) dX7_copyFrom_50 (by decide) ?_
  refine ae_copy (pc := 53) (s0 := 2) (d0 := 65) 0 0 256 dX7_copyFrom_53 (Or.inl ⟨rfl, rfl⟩) (by decide) (by decide) rfl rfl rfl rfl rfl rfl rfl (Nat.le_of_ble_eq_true rfl) (Nat.le_of_ble_eq_true rfl) (Nat.le_of_ble_eq_true rfl) ?_
  refine ae_aload_n (pc := 56) dX7_copyFrom_56 rfl ?_
  refine ae_getR (pc := 57) (k := 1) (c := 7) (j := 8) (q := 5) dX7_copyFrom_57 rfl rfl (Nat.le_of_ble_eq_true rfl) rfl (Nat.le_of_ble_eq_true rfl) rfl ?_
  refine ae_iconst (pc := 60) (v := nI 0) dX7_copyFrom_60 (by decide) ?_
  refine ae_aload_n (pc := 61) dX7_copyFrom_61 rfl ?_
  refine ae_getR (pc := 62) (k := 64) (c := 7) (j := 8) (q := 68) dX7_copyFrom_62 rfl rfl (Nat.le_of_ble_eq_true rfl) rfl (Nat.le_of_ble_eq_true rfl) rfl ?_
  refine ae_iconst (pc := 65) (v := nI 0) dX7_copyFrom_65 (by decide) ?_
  refine ae_sipush (pc := 66) (v := nI 256) dX7_copyFrom_66 (by decide) ?_
  refine ae_copy (pc := 69) (s0 := 5) (d0 := 68) 0 0 256 dX7_copyFrom_69 (Or.inl ⟨rfl, rfl⟩) (by decide) (by decide) rfl rfl rfl rfl rfl rfl rfl (Nat.le_of_ble_eq_true rfl) (Nat.le_of_ble_eq_true rfl) (Nat.le_of_ble_eq_true rfl) ?_
  refine ae_aload_n (pc := 72) dX7_copyFrom_72 rfl ?_
  refine ae_getR (pc := 73) (k := 1) (c := 7) (j := 4) (q := 3) dX7_copyFrom_73 rfl rfl (Nat.le_of_ble_eq_true rfl) rfl (Nat.le_of_ble_eq_true rfl) rfl ?_
  refine ae_iconst (pc := 76) (v := nI 0) dX7_copyFrom_76 (by decide) ?_
  refine ae_aload_n (pc := 77) dX7_copyFrom_77 rfl ?_
  refine ae_getR (pc := 78) (k := 64) (c := 7) (j := 4) (q := 66) dX7_copyFrom_78 rfl rfl (Nat.le_of_ble_eq_true rfl) rfl (Nat.le_of_ble_eq_true rfl) rfl ?_
  refine ae_iconst (pc := 81) (v := nI 0) dX7_copyFrom_81 (by decide) ?_
  refine ae_bipush (pc := 82) (v := nI 16) dX7_copyFrom_82 (by decide) ?_
  refine ae_copy (pc := 84) (s0 := 3) (d0 := 66) 0 0 16 dX7_copyFrom_84 (Or.inl ⟨rfl, rfl⟩) (by decide) (by decide) rfl rfl rfl rfl rfl rfl rfl (Nat.le_of_ble_eq_true rfl) (Nat.le_of_ble_eq_true rfl) (Nat.le_of_ble_eq_true rfl) ?_
  refine ae_iconst (pc := 87) (v := nI 0) dX7_copyFrom_87 (by decide) ?_
  refine ae_istore_n (pc := 88) dX7_copyFrom_88 rfl (Nat.le_of_ble_eq_true rfl) ?_
  skip
  have key : ∀ N : am_M, N.2 = M.2 → (∀ k, (k < 64 ∨ 68 < k) → N.1 k = M.1 k) → (N.1 64 0 = M.1 1 0 ∧ N.1 64 1 = M.1 1 1 ∧ N.1 64 3 = M.1 1 3 ∧ N.1 64 6 = M.1 1 6 ∧ N.1 64 7 = M.1 1 7) → (∀ q, q < 256 → N.1 65 q = M.1 2 q) → (∀ q, q < 256 → N.1 68 q = M.1 5 q) → (∀ q, q < 16 → N.1 66 q = M.1 3 q) → am_E none (am_R d) cX7_copyFrom 7 none (fun v M' => v = none ∧ M'.2 = M.2 ∧ (∀ k, (k < 64 ∨ 68 < k) → M'.1 k = M.1 k) ∧ (M'.1 64 0 = M.1 1 0 ∧ M'.1 64 1 = M.1 1 1 ∧ M'.1 64 3 = M.1 1 3 ∧ M'.1 64 6 = M.1 1 6 ∧ M'.1 64 7 = M.1 1 7) ∧ (∀ q, q < 256 → M'.1 65 q = M.1 2 q) ∧ (∀ q, q < 256 → M'.1 68 q = M.1 5 q) ∧ (∀ q, q < 16 → M'.1 66 q = M.1 3 q) ∧ (∀ q, q < 16 → M'.1 67 q = vp_nar .boolean (M.1 4 q))) (89, [some (.ref 64), some (.ref 1), some (.int (nI 0))], [], N) := by
    intro N n1 n2 n3 n4 n5 n6
    have lp : ∀ l : fT, (∀ q, q < 0 → l q = vp_nar .boolean (M.1 4 q)) → am_E none (am_R d) cX7_copyFrom 7 none (fun v M' => v = none ∧ M'.2 = M.2 ∧ (∀ k, (k < 64 ∨ 68 < k) → M'.1 k = M.1 k) ∧ (M'.1 64 0 = M.1 1 0 ∧ M'.1 64 1 = M.1 1 1 ∧ M'.1 64 3 = M.1 1 3 ∧ M'.1 64 6 = M.1 1 6 ∧ M'.1 64 7 = M.1 1 7) ∧ (∀ q, q < 256 → M'.1 65 q = M.1 2 q) ∧ (∀ q, q < 256 → M'.1 68 q = M.1 5 q) ∧ (∀ q, q < 16 → M'.1 66 q = M.1 3 q) ∧ (∀ q, q < 16 → M'.1 67 q = vp_nar .boolean (M.1 4 q))) (89, [some (.ref 64), some (.ref 1), some (.int (nI 0))], [], (am_u N.1 67 l, N.2)) := by
      refine am_down (P := fun k => ∀ l : fT, (∀ q, q < k → l q = vp_nar .boolean (M.1 4 q)) → am_E none (am_R d) cX7_copyFrom 7 none _ (89, [some (.ref 64), some (.ref 1), some (.int (nI k))], [], (am_u N.1 67 l, N.2))) 16 (fun k hk ih l hl => ?_)
      have ne : ∀ k, k ≠ 67 → (am_u N.1 67 l) k = N.1 k := fun k hk => am_u_ne _ _ hk
      refine ae_iload_n (pc := 89) dX7_copyFrom_89 rfl ?_
      refine ae_bipush (pc := 90) (v := nI 16) dX7_copyFrom_90 (by decide) ?_
      refine ae_icmp_ge (pc := 92) (t := 113) dX7_copyFrom_92 (by decide) (fun c92 => ?_) (fun c92 => ?_)
      · have hk2 : k = 16 := by rw [nI_leI (by omega) (by omega)] at c92; omega
        subst hk2
        refine ae_return (pc := 113) dX7_copyFrom_113 rfl ?_
        exact ⟨rfl, n1, fun k hk => (ne k (by omega)).trans (n2 k hk), ⟨(congrFun (ne 64 (by decide)) 0).trans n3.1, (congrFun (ne 64 (by decide)) 1).trans n3.2.1, (congrFun (ne 64 (by decide)) 3).trans n3.2.2.1, (congrFun (ne 64 (by decide)) 6).trans n3.2.2.2.1, (congrFun (ne 64 (by decide)) 7).trans n3.2.2.2.2⟩, fun q hq => (congrFun (ne 65 (by decide)) q).trans (n4 q hq), fun q hq => (congrFun (ne 68 (by decide)) q).trans (n5 q hq), fun q hq => (congrFun (ne 66 (by decide)) q).trans (n6 q hq), fun q hq => (congrFun (am_u_self N.1 67 l) q).trans (hl q hq)⟩
      · have hk2 : k < 16 := by rw [nI_leI (by omega) (by omega)] at c92; omega
        refine ae_aload_n (pc := 95) dX7_copyFrom_95 rfl ?_
        refine ae_getR (pc := 96) (k := 64) (c := 7) (j := 5) (q := 67) dX7_copyFrom_96 rfl rfl (Nat.le_of_ble_eq_true rfl) rfl (Nat.le_of_ble_eq_true rfl) rfl ?_
        refine ae_iload_n (pc := 99) dX7_copyFrom_99 rfl ?_
        refine ae_aload_n (pc := 100) dX7_copyFrom_100 rfl ?_
        refine ae_getR (pc := 101) (k := 1) (c := 7) (j := 5) (q := 4) dX7_copyFrom_101 rfl rfl (Nat.le_of_ble_eq_true rfl) rfl (Nat.le_of_ble_eq_true rfl) rfl ?_
        refine ae_iload_n (pc := 104) dX7_copyFrom_104 rfl ?_
        refine ae_baload (pc := 105) (k := 4) (N := 16) (v := M.1 4 k) _ dX7_copyFrom_105 (Nat.le_of_ble_eq_true rfl) rfl rfl rfl (by omega) ((congrFun (ne 4 (by decide)) k).trans (congrFun (n2 4 (by omega)) k)) ?_
        refine ae_bastore (pc := 106) (k := 67) (N := 16) (k) dX7_copyFrom_106 (Nat.le_of_ble_eq_true rfl) rfl rfl rfl (by omega) rfl ?_
        refine ae_M (M' := (am_u N.1 67 (upd l k (vp_nar .boolean (M.1 4 k))), N.2)) (by show ((am_u (am_u N.1 67 l) 67 (upd (am_u N.1 67 l 67) k _), N.2) : am_M) = _; rw [am_u_u, am_u_self]) ?_
        refine ae_iinc (pc := 107) (v := nI (k + 1)) dX7_copyFrom_107 rfl (nI_inc k) ?_
        refine ae_goto (pc := 110) (t := 89) dX7_copyFrom_110 (by decide) ?_
        refine ih hk2 _ (fun q hq => ?_)
        by_cases hqk : q = k
        · subst hqk; exact upd_self _ _ _
        · rw [upd_ne _ _ hqk]; exact hl q (by omega)
    have := lp (N.1 67) (fun q hq => absurd hq (Nat.not_lt_zero q))
    rwa [am_u_eta] at this
  refine key _ rfl (fun k hk => ?_) ?_ (fun q hq => ?_) (fun q hq => ?_) (fun q hq => ?_)
  · have : k ≠ 64 ∧ k ≠ 65 ∧ k ≠ 66 ∧ k ≠ 68 := by omega
    simp [am_u, this.1, this.2.1, this.2.2.1, this.2.2.2]
  · simp [am_u, upd]
  · simp [am_u, va_cpy, hq]
  · simp [am_u, va_cpy, hq]
  · simp [am_u, va_cpy, hq]
theorem sc_copy_1_64 (d : Nat) (M : am_M) (h7 : M.1 64 7 = 0 ∨ M.1 64 7 = 1) : am_R (d + 1) zX7_copyFrom [.ref 1, .ref 64] M (fun v M' => v = none ∧ M'.2 = M.2 ∧ (∀ k, (k < 1 ∨ 5 < k) → M'.1 k = M.1 k) ∧ (M'.1 1 0 = M.1 64 0 ∧ M'.1 1 1 = M.1 64 1 ∧ M'.1 1 3 = M.1 64 3 ∧ M'.1 1 6 = M.1 64 6 ∧ M'.1 1 7 = M.1 64 7) ∧ (∀ q, q < 256 → M'.1 2 q = M.1 65 q) ∧ (∀ q, q < 256 → M'.1 5 q = M.1 68 q) ∧ (∀ q, q < 16 → M'.1 3 q = M.1 66 q) ∧ (∀ q, q < 16 → M'.1 4 q = vp_nar .boolean (M.1 67 q))) := by
  refine ae_enter (z := zX7_copyFrom) (y := yX7_copyFrom) (cc := cX7_copyFrom) (mL := 3) (rt := none) (ci := 7) (st := false) (np := 1) (L := [some (.ref 1), some (.ref 64), none]) rfl (by decide) (Nat.le_of_ble_eq_true rfl) rfl ?_
  refine ae_aload_n (pc := 0) dX7_copyFrom_0 rfl ?_
  refine ae_aload_n (pc := 1) dX7_copyFrom_1 rfl ?_
  refine ae_getI (pc := 2) (k := 64) (c := 7) (j := 0) dX7_copyFrom_2 rfl rfl (Or.inl rfl) (Nat.le_of_ble_eq_true rfl) rfl (Nat.le_of_ble_eq_true rfl) rfl ?_
  refine ae_putfield (pc := 5) (k := 1) (c := 7) (j := 0) dX7_copyFrom_5 rfl rfl (Nat.le_of_ble_eq_true rfl) rfl (Nat.le_of_ble_eq_true rfl) rfl rfl ?_
  refine ae_aload_n (pc := 8) dX7_copyFrom_8 rfl ?_
  refine ae_aload_n (pc := 9) dX7_copyFrom_9 rfl ?_
  refine ae_getI (pc := 10) (k := 64) (c := 7) (j := 1) dX7_copyFrom_10 rfl rfl (Or.inl rfl) (Nat.le_of_ble_eq_true rfl) rfl (Nat.le_of_ble_eq_true rfl) rfl ?_
  refine ae_putfield (pc := 13) (k := 1) (c := 7) (j := 1) dX7_copyFrom_13 rfl rfl (Nat.le_of_ble_eq_true rfl) rfl (Nat.le_of_ble_eq_true rfl) rfl rfl ?_
  refine ae_aload_n (pc := 16) dX7_copyFrom_16 rfl ?_
  refine ae_aload_n (pc := 17) dX7_copyFrom_17 rfl ?_
  refine ae_getI (pc := 18) (k := 64) (c := 7) (j := 3) dX7_copyFrom_18 rfl rfl (Or.inl rfl) (Nat.le_of_ble_eq_true rfl) rfl (Nat.le_of_ble_eq_true rfl) rfl ?_
  refine ae_putfield (pc := 21) (k := 1) (c := 7) (j := 3) dX7_copyFrom_21 rfl rfl (Nat.le_of_ble_eq_true rfl) rfl (Nat.le_of_ble_eq_true rfl) rfl rfl ?_
  refine ae_aload_n (pc := 24) dX7_copyFrom_24 rfl ?_
  refine ae_aload_n (pc := 25) dX7_copyFrom_25 rfl ?_
  refine ae_getI (pc := 26) (k := 64) (c := 7) (j := 6) dX7_copyFrom_26 rfl rfl (Or.inl rfl) (Nat.le_of_ble_eq_true rfl) rfl (Nat.le_of_ble_eq_true rfl) rfl ?_
  refine ae_putfield (pc := 29) (k := 1) (c := 7) (j := 6) dX7_copyFrom_29 rfl rfl (Nat.le_of_ble_eq_true rfl) rfl (Nat.le_of_ble_eq_true rfl) rfl rfl ?_
  refine ae_aload_n (pc := 32) dX7_copyFrom_32 rfl ?_
  refine ae_aload_n (pc := 33) dX7_copyFrom_33 rfl ?_
  refine ae_getI (pc := 34) (k := 64) (c := 7) (j := 7) dX7_copyFrom_34 rfl rfl (Or.inr rfl) (Nat.le_of_ble_eq_true rfl) rfl (Nat.le_of_ble_eq_true rfl) rfl ?_
  refine ae_putfieldZ (pc := 37) (k := 1) (c := 7) (j := 7) dX7_copyFrom_37 rfl rfl (Nat.le_of_ble_eq_true rfl) rfl (Nat.le_of_ble_eq_true rfl) rfl h7 ?_
  refine ae_aload_n (pc := 40) dX7_copyFrom_40 rfl ?_
  refine ae_getR (pc := 41) (k := 64) (c := 7) (j := 2) (q := 65) dX7_copyFrom_41 rfl rfl (Nat.le_of_ble_eq_true rfl) rfl (Nat.le_of_ble_eq_true rfl) rfl ?_
  refine ae_iconst (pc := 44) (v := nI 0) dX7_copyFrom_44 (by decide) ?_
  refine ae_aload_n (pc := 45) dX7_copyFrom_45 rfl ?_
  refine ae_getR (pc := 46) (k := 1) (c := 7) (j := 2) (q := 2) dX7_copyFrom_46 rfl rfl (Nat.le_of_ble_eq_true rfl) rfl (Nat.le_of_ble_eq_true rfl) rfl ?_
  refine ae_iconst (pc := 49) (v := nI 0) dX7_copyFrom_49 (by decide) ?_
  refine ae_sipush (pc := 50) (v := nI 256) dX7_copyFrom_50 (by decide) ?_
  refine ae_copy (pc := 53) (s0 := 65) (d0 := 2) 0 0 256 dX7_copyFrom_53 (Or.inl ⟨rfl, rfl⟩) (by decide) (by decide) rfl rfl rfl rfl rfl rfl rfl (Nat.le_of_ble_eq_true rfl) (Nat.le_of_ble_eq_true rfl) (Nat.le_of_ble_eq_true rfl) ?_
  refine ae_aload_n (pc := 56) dX7_copyFrom_56 rfl ?_
  refine ae_getR (pc := 57) (k := 64) (c := 7) (j := 8) (q := 68) dX7_copyFrom_57 rfl rfl (Nat.le_of_ble_eq_true rfl) rfl (Nat.le_of_ble_eq_true rfl) rfl ?_
  refine ae_iconst (pc := 60) (v := nI 0) dX7_copyFrom_60 (by decide) ?_
  refine ae_aload_n (pc := 61) dX7_copyFrom_61 rfl ?_
  refine ae_getR (pc := 62) (k := 1) (c := 7) (j := 8) (q := 5) dX7_copyFrom_62 rfl rfl (Nat.le_of_ble_eq_true rfl) rfl (Nat.le_of_ble_eq_true rfl) rfl ?_
  refine ae_iconst (pc := 65) (v := nI 0) dX7_copyFrom_65 (by decide) ?_
  refine ae_sipush (pc := 66) (v := nI 256) dX7_copyFrom_66 (by decide) ?_
  refine ae_copy (pc := 69) (s0 := 68) (d0 := 5) 0 0 256 dX7_copyFrom_69 (Or.inl ⟨rfl, rfl⟩) (by decide) (by decide) rfl rfl rfl rfl rfl rfl rfl (Nat.le_of_ble_eq_true rfl) (Nat.le_of_ble_eq_true rfl) (Nat.le_of_ble_eq_true rfl) ?_
  refine ae_aload_n (pc := 72) dX7_copyFrom_72 rfl ?_
  refine ae_getR (pc := 73) (k := 64) (c := 7) (j := 4) (q := 66) dX7_copyFrom_73 rfl rfl (Nat.le_of_ble_eq_true rfl) rfl (Nat.le_of_ble_eq_true rfl) rfl ?_
  refine ae_iconst (pc := 76) (v := nI 0) dX7_copyFrom_76 (by decide) ?_
  refine ae_aload_n (pc := 77) dX7_copyFrom_77 rfl ?_
  refine ae_getR (pc := 78) (k := 1) (c := 7) (j := 4) (q := 3) dX7_copyFrom_78 rfl rfl (Nat.le_of_ble_eq_true rfl) rfl (Nat.le_of_ble_eq_true rfl) rfl ?_
  refine ae_iconst (pc := 81) (v := nI 0) dX7_copyFrom_81 (by decide) ?_
  refine ae_bipush (pc := 82) (v := nI 16) dX7_copyFrom_82 (by decide) ?_
  refine ae_copy (pc := 84) (s0 := 66) (d0 := 3) 0 0 16 dX7_copyFrom_84 (Or.inl ⟨rfl, rfl⟩) (by decide) (by decide) rfl rfl rfl rfl rfl rfl rfl (Nat.le_of_ble_eq_true rfl) (Nat.le_of_ble_eq_true rfl) (Nat.le_of_ble_eq_true rfl) ?_
  refine ae_iconst (pc := 87) (v := nI 0) dX7_copyFrom_87 (by decide) ?_
  refine ae_istore_n (pc := 88) dX7_copyFrom_88 rfl (Nat.le_of_ble_eq_true rfl) ?_
  skip
  have key : ∀ N : am_M, N.2 = M.2 → (∀ k, (k < 1 ∨ 5 < k) → N.1 k = M.1 k) → (N.1 1 0 = M.1 64 0 ∧ N.1 1 1 = M.1 64 1 ∧ N.1 1 3 = M.1 64 3 ∧ N.1 1 6 = M.1 64 6 ∧ N.1 1 7 = M.1 64 7) → (∀ q, q < 256 → N.1 2 q = M.1 65 q) → (∀ q, q < 256 → N.1 5 q = M.1 68 q) → (∀ q, q < 16 → N.1 3 q = M.1 66 q) → am_E none (am_R d) cX7_copyFrom 7 none (fun v M' => v = none ∧ M'.2 = M.2 ∧ (∀ k, (k < 1 ∨ 5 < k) → M'.1 k = M.1 k) ∧ (M'.1 1 0 = M.1 64 0 ∧ M'.1 1 1 = M.1 64 1 ∧ M'.1 1 3 = M.1 64 3 ∧ M'.1 1 6 = M.1 64 6 ∧ M'.1 1 7 = M.1 64 7) ∧ (∀ q, q < 256 → M'.1 2 q = M.1 65 q) ∧ (∀ q, q < 256 → M'.1 5 q = M.1 68 q) ∧ (∀ q, q < 16 → M'.1 3 q = M.1 66 q) ∧ (∀ q, q < 16 → M'.1 4 q = vp_nar .boolean (M.1 67 q))) (89, [some (.ref 1), some (.ref 64), some (.int (nI 0))], [], N) := by
    intro N n1 n2 n3 n4 n5 n6
    have lp : ∀ l : fT, (∀ q, q < 0 → l q = vp_nar .boolean (M.1 67 q)) → am_E none (am_R d) cX7_copyFrom 7 none (fun v M' => v = none ∧ M'.2 = M.2 ∧ (∀ k, (k < 1 ∨ 5 < k) → M'.1 k = M.1 k) ∧ (M'.1 1 0 = M.1 64 0 ∧ M'.1 1 1 = M.1 64 1 ∧ M'.1 1 3 = M.1 64 3 ∧ M'.1 1 6 = M.1 64 6 ∧ M'.1 1 7 = M.1 64 7) ∧ (∀ q, q < 256 → M'.1 2 q = M.1 65 q) ∧ (∀ q, q < 256 → M'.1 5 q = M.1 68 q) ∧ (∀ q, q < 16 → M'.1 3 q = M.1 66 q) ∧ (∀ q, q < 16 → M'.1 4 q = vp_nar .boolean (M.1 67 q))) (89, [some (.ref 1), some (.ref 64), some (.int (nI 0))], [], (am_u N.1 4 l, N.2)) := by
      refine am_down (P := fun k => ∀ l : fT, (∀ q, q < k → l q = vp_nar .boolean (M.1 67 q)) → am_E none (am_R d) cX7_copyFrom 7 none _ (89, [some (.ref 1), some (.ref 64), some (.int (nI k))], [], (am_u N.1 4 l, N.2))) 16 (fun k hk ih l hl => ?_)
      have ne : ∀ k, k ≠ 4 → (am_u N.1 4 l) k = N.1 k := fun k hk => am_u_ne _ _ hk
      refine ae_iload_n (pc := 89) dX7_copyFrom_89 rfl ?_
      refine ae_bipush (pc := 90) (v := nI 16) dX7_copyFrom_90 (by decide) ?_
      refine ae_icmp_ge (pc := 92) (t := 113) dX7_copyFrom_92 (by decide) (fun c92 => ?_) (fun c92 => ?_)
      · have hk2 : k = 16 := by rw [nI_leI (by omega) (by omega)] at c92; omega
        subst hk2
        refine ae_return (pc := 113) dX7_copyFrom_113 rfl ?_
        exact ⟨rfl, n1, fun k hk => (ne k (by omega)).trans (n2 k hk), ⟨(congrFun (ne 1 (by decide)) 0).trans n3.1, (congrFun (ne 1 (by decide)) 1).trans n3.2.1, (congrFun (ne 1 (by decide)) 3).trans n3.2.2.1, (congrFun (ne 1 (by decide)) 6).trans n3.2.2.2.1, (congrFun (ne 1 (by decide)) 7).trans n3.2.2.2.2⟩, fun q hq => (congrFun (ne 2 (by decide)) q).trans (n4 q hq), fun q hq => (congrFun (ne 5 (by decide)) q).trans (n5 q hq), fun q hq => (congrFun (ne 3 (by decide)) q).trans (n6 q hq), fun q hq => (congrFun (am_u_self N.1 4 l) q).trans (hl q hq)⟩
      · have hk2 : k < 16 := by rw [nI_leI (by omega) (by omega)] at c92; omega
        refine ae_aload_n (pc := 95) dX7_copyFrom_95 rfl ?_
        refine ae_getR (pc := 96) (k := 1) (c := 7) (j := 5) (q := 4) dX7_copyFrom_96 rfl rfl (Nat.le_of_ble_eq_true rfl) rfl (Nat.le_of_ble_eq_true rfl) rfl ?_
        refine ae_iload_n (pc := 99) dX7_copyFrom_99 rfl ?_
        refine ae_aload_n (pc := 100) dX7_copyFrom_100 rfl ?_
        refine ae_getR (pc := 101) (k := 64) (c := 7) (j := 5) (q := 67) dX7_copyFrom_101 rfl rfl (Nat.le_of_ble_eq_true rfl) rfl (Nat.le_of_ble_eq_true rfl) rfl ?_
        refine ae_iload_n (pc := 104) dX7_copyFrom_104 rfl ?_
        refine ae_baload (pc := 105) (k := 67) (N := 16) (v := M.1 67 k) _ dX7_copyFrom_105 (Nat.le_of_ble_eq_true rfl) rfl rfl rfl (by omega) ((congrFun (ne 67 (by decide)) k).trans (congrFun (n2 67 (by omega)) k)) ?_
        refine ae_bastore (pc := 106) (k := 4) (N := 16) (k) dX7_copyFrom_106 (Nat.le_of_ble_eq_true rfl) rfl rfl rfl (by omega) rfl ?_
        refine ae_M (M' := (am_u N.1 4 (upd l k (vp_nar .boolean (M.1 67 k))), N.2)) (by show ((am_u (am_u N.1 4 l) 4 (upd (am_u N.1 4 l 4) k _), N.2) : am_M) = _; rw [am_u_u, am_u_self]) ?_
        refine ae_iinc (pc := 107) (v := nI (k + 1)) dX7_copyFrom_107 rfl (nI_inc k) ?_
        refine ae_goto (pc := 110) (t := 89) dX7_copyFrom_110 (by decide) ?_
        refine ih hk2 _ (fun q hq => ?_)
        by_cases hqk : q = k
        · subst hqk; exact upd_self _ _ _
        · rw [upd_ne _ _ hqk]; exact hl q (by omega)
    have := lp (N.1 4) (fun q hq => absurd hq (Nat.not_lt_zero q))
    rwa [am_u_eta] at this
  refine key _ rfl (fun k hk => ?_) ?_ (fun q hq => ?_) (fun q hq => ?_) (fun q hq => ?_)
  · have : k ≠ 1 ∧ k ≠ 2 ∧ k ≠ 3 ∧ k ≠ 5 := by omega
    simp [am_u, this.1, this.2.1, this.2.2.1, this.2.2.2]
  · simp [am_u, upd]
  · simp [am_u, va_cpy, hq]
  · simp [am_u, va_cpy, hq]
  · simp [am_u, va_cpy, hq]
theorem sc_copy_69_1 (d : Nat) (M : am_M) (h7 : M.1 1 7 = 0 ∨ M.1 1 7 = 1) : am_R (d + 1) zX7_copyFrom [.ref 69, .ref 1] M (fun v M' => v = none ∧ M'.2 = M.2 ∧ (∀ k, (k < 69 ∨ 73 < k) → M'.1 k = M.1 k) ∧ (M'.1 69 0 = M.1 1 0 ∧ M'.1 69 1 = M.1 1 1 ∧ M'.1 69 3 = M.1 1 3 ∧ M'.1 69 6 = M.1 1 6 ∧ M'.1 69 7 = M.1 1 7) ∧ (∀ q, q < 256 → M'.1 70 q = M.1 2 q) ∧ (∀ q, q < 256 → M'.1 73 q = M.1 5 q) ∧ (∀ q, q < 16 → M'.1 71 q = M.1 3 q) ∧ (∀ q, q < 16 → M'.1 72 q = vp_nar .boolean (M.1 4 q))) := by
  refine ae_enter (z := zX7_copyFrom) (y := yX7_copyFrom) (cc := cX7_copyFrom) (mL := 3) (rt := none) (ci := 7) (st := false) (np := 1) (L := [some (.ref 69), some (.ref 1), none]) rfl (by decide) (Nat.le_of_ble_eq_true rfl) rfl ?_
  refine ae_aload_n (pc := 0) dX7_copyFrom_0 rfl ?_
  refine ae_aload_n (pc := 1) dX7_copyFrom_1 rfl ?_
  refine ae_getI (pc := 2) (k := 1) (c := 7) (j := 0) dX7_copyFrom_2 rfl rfl (Or.inl rfl) (Nat.le_of_ble_eq_true rfl) rfl (Nat.le_of_ble_eq_true rfl) rfl ?_
  refine ae_putfield (pc := 5) (k := 69) (c := 7) (j := 0) dX7_copyFrom_5 rfl rfl (Nat.le_of_ble_eq_true rfl) rfl (Nat.le_of_ble_eq_true rfl) rfl rfl ?_
  refine ae_aload_n (pc := 8) dX7_copyFrom_8 rfl ?_
  refine ae_aload_n (pc := 9) dX7_copyFrom_9 rfl ?_
  refine ae_getI (pc := 10) (k := 1) (c := 7) (j := 1) dX7_copyFrom_10 rfl rfl (Or.inl rfl) (Nat.le_of_ble_eq_true rfl) rfl (Nat.le_of_ble_eq_true rfl) rfl ?_
  refine ae_putfield (pc := 13) (k := 69) (c := 7) (j := 1) dX7_copyFrom_13 rfl rfl (Nat.le_of_ble_eq_true rfl) rfl (Nat.le_of_ble_eq_true rfl) rfl rfl ?_
  refine ae_aload_n (pc := 16) dX7_copyFrom_16 rfl ?_
  refine ae_aload_n (pc := 17) dX7_copyFrom_17 rfl ?_
  refine ae_getI (pc := 18) (k := 1) (c := 7) (j := 3) dX7_copyFrom_18 rfl rfl (Or.inl rfl) (Nat.le_of_ble_eq_true rfl) rfl (Nat.le_of_ble_eq_true rfl) rfl ?_
  refine ae_putfield (pc := 21) (k := 69) (c := 7) (j := 3) dX7_copyFrom_21 rfl rfl (Nat.le_of_ble_eq_true rfl) rfl (Nat.le_of_ble_eq_true rfl) rfl rfl ?_
  refine ae_aload_n (pc := 24) dX7_copyFrom_24 rfl ?_
  refine ae_aload_n (pc := 25) dX7_copyFrom_25 rfl ?_
  refine ae_getI (pc := 26) (k := 1) (c := 7) (j := 6) dX7_copyFrom_26 rfl rfl (Or.inl rfl) (Nat.le_of_ble_eq_true rfl) rfl (Nat.le_of_ble_eq_true rfl) rfl ?_
  refine ae_putfield (pc := 29) (k := 69) (c := 7) (j := 6) dX7_copyFrom_29 rfl rfl (Nat.le_of_ble_eq_true rfl) rfl (Nat.le_of_ble_eq_true rfl) rfl rfl ?_
  refine ae_aload_n (pc := 32) dX7_copyFrom_32 rfl ?_
  refine ae_aload_n (pc := 33) dX7_copyFrom_33 rfl ?_
  refine ae_getI (pc := 34) (k := 1) (c := 7) (j := 7) dX7_copyFrom_34 rfl rfl (Or.inr rfl) (Nat.le_of_ble_eq_true rfl) rfl (Nat.le_of_ble_eq_true rfl) rfl ?_
  refine ae_putfieldZ (pc := 37) (k := 69) (c := 7) (j := 7) dX7_copyFrom_37 rfl rfl (Nat.le_of_ble_eq_true rfl) rfl (Nat.le_of_ble_eq_true rfl) rfl h7 ?_
  refine ae_aload_n (pc := 40) dX7_copyFrom_40 rfl ?_
  refine ae_getR (pc := 41) (k := 1) (c := 7) (j := 2) (q := 2) dX7_copyFrom_41 rfl rfl (Nat.le_of_ble_eq_true rfl) rfl (Nat.le_of_ble_eq_true rfl) rfl ?_
  refine ae_iconst (pc := 44) (v := nI 0) dX7_copyFrom_44 (by decide) ?_
  refine ae_aload_n (pc := 45) dX7_copyFrom_45 rfl ?_
  refine ae_getR (pc := 46) (k := 69) (c := 7) (j := 2) (q := 70) dX7_copyFrom_46 rfl rfl (Nat.le_of_ble_eq_true rfl) rfl (Nat.le_of_ble_eq_true rfl) rfl ?_
  refine ae_iconst (pc := 49) (v := nI 0) dX7_copyFrom_49 (by decide) ?_
  refine ae_sipush (pc := 50) (v := nI 256) dX7_copyFrom_50 (by decide) ?_
  refine ae_copy (pc := 53) (s0 := 2) (d0 := 70) 0 0 256 dX7_copyFrom_53 (Or.inl ⟨rfl, rfl⟩) (by decide) (by decide) rfl rfl rfl rfl rfl rfl rfl (Nat.le_of_ble_eq_true rfl) (Nat.le_of_ble_eq_true rfl) (Nat.le_of_ble_eq_true rfl) ?_
  refine ae_aload_n (pc := 56) dX7_copyFrom_56 rfl ?_
  refine ae_getR (pc := 57) (k := 1) (c := 7) (j := 8) (q := 5) dX7_copyFrom_57 rfl rfl (Nat.le_of_ble_eq_true rfl) rfl (Nat.le_of_ble_eq_true rfl) rfl ?_
  refine ae_iconst (pc := 60) (v := nI 0) dX7_copyFrom_60 (by decide) ?_
  refine ae_aload_n (pc := 61) dX7_copyFrom_61 rfl ?_
  refine ae_getR (pc := 62) (k := 69) (c := 7) (j := 8) (q := 73) dX7_copyFrom_62 rfl rfl (Nat.le_of_ble_eq_true rfl) rfl (Nat.le_of_ble_eq_true rfl) rfl ?_
  refine ae_iconst (pc := 65) (v := nI 0) dX7_copyFrom_65 (by decide) ?_
  refine ae_sipush (pc := 66) (v := nI 256) dX7_copyFrom_66 (by decide) ?_
  refine ae_copy (pc := 69) (s0 := 5) (d0 := 73) 0 0 256 dX7_copyFrom_69 (Or.inl ⟨rfl, rfl⟩) (by decide) (by decide) rfl rfl rfl rfl rfl rfl rfl (Nat.le_of_ble_eq_true rfl) (Nat.le_of_ble_eq_true rfl) (Nat.le_of_ble_eq_true rfl) ?_
  refine ae_aload_n (pc := 72) dX7_copyFrom_72 rfl ?_
  refine ae_getR (pc := 73) (k := 1) (c := 7) (j := 4) (q := 3) dX7_copyFrom_73 rfl rfl (Nat.le_of_ble_eq_true rfl) rfl (Nat.le_of_ble_eq_true rfl) rfl ?_
  refine ae_iconst (pc := 76) (v := nI 0) dX7_copyFrom_76 (by decide) ?_
  refine ae_aload_n (pc := 77) dX7_copyFrom_77 rfl ?_
  refine ae_getR (pc := 78) (k := 69) (c := 7) (j := 4) (q := 71) dX7_copyFrom_78 rfl rfl (Nat.le_of_ble_eq_true rfl) rfl (Nat.le_of_ble_eq_true rfl) rfl ?_
  refine ae_iconst (pc := 81) (v := nI 0) dX7_copyFrom_81 (by decide) ?_
  refine ae_bipush (pc := 82) (v := nI 16) dX7_copyFrom_82 (by decide) ?_
  refine ae_copy (pc := 84) (s0 := 3) (d0 := 71) 0 0 16 dX7_copyFrom_84 (Or.inl ⟨rfl, rfl⟩) (by decide) (by decide) rfl rfl rfl rfl rfl rfl rfl (Nat.le_of_ble_eq_true rfl) (Nat.le_of_ble_eq_true rfl) (Nat.le_of_ble_eq_true rfl) ?_
  refine ae_iconst (pc := 87) (v := nI 0) dX7_copyFrom_87 (by decide) ?_
  refine ae_istore_n (pc := 88) dX7_copyFrom_88 rfl (Nat.le_of_ble_eq_true rfl) ?_
  skip
  have key : ∀ N : am_M, N.2 = M.2 → (∀ k, (k < 69 ∨ 73 < k) → N.1 k = M.1 k) → (N.1 69 0 = M.1 1 0 ∧ N.1 69 1 = M.1 1 1 ∧ N.1 69 3 = M.1 1 3 ∧ N.1 69 6 = M.1 1 6 ∧ N.1 69 7 = M.1 1 7) → (∀ q, q < 256 → N.1 70 q = M.1 2 q) → (∀ q, q < 256 → N.1 73 q = M.1 5 q) → (∀ q, q < 16 → N.1 71 q = M.1 3 q) → am_E none (am_R d) cX7_copyFrom 7 none (fun v M' => v = none ∧ M'.2 = M.2 ∧ (∀ k, (k < 69 ∨ 73 < k) → M'.1 k = M.1 k) ∧ (M'.1 69 0 = M.1 1 0 ∧ M'.1 69 1 = M.1 1 1 ∧ M'.1 69 3 = M.1 1 3 ∧ M'.1 69 6 = M.1 1 6 ∧ M'.1 69 7 = M.1 1 7) ∧ (∀ q, q < 256 → M'.1 70 q = M.1 2 q) ∧ (∀ q, q < 256 → M'.1 73 q = M.1 5 q) ∧ (∀ q, q < 16 → M'.1 71 q = M.1 3 q) ∧ (∀ q, q < 16 → M'.1 72 q = vp_nar .boolean (M.1 4 q))) (89, [some (.ref 69), some (.ref 1), some (.int (nI 0))], [], N) := by
    intro N n1 n2 n3 n4 n5 n6
    have lp : ∀ l : fT, (∀ q, q < 0 → l q = vp_nar .boolean (M.1 4 q)) → am_E none (am_R d) cX7_copyFrom 7 none (fun v M' => v = none ∧ M'.2 = M.2 ∧ (∀ k, (k < 69 ∨ 73 < k) → M'.1 k = M.1 k) ∧ (M'.1 69 0 = M.1 1 0 ∧ M'.1 69 1 = M.1 1 1 ∧ M'.1 69 3 = M.1 1 3 ∧ M'.1 69 6 = M.1 1 6 ∧ M'.1 69 7 = M.1 1 7) ∧ (∀ q, q < 256 → M'.1 70 q = M.1 2 q) ∧ (∀ q, q < 256 → M'.1 73 q = M.1 5 q) ∧ (∀ q, q < 16 → M'.1 71 q = M.1 3 q) ∧ (∀ q, q < 16 → M'.1 72 q = vp_nar .boolean (M.1 4 q))) (89, [some (.ref 69), some (.ref 1), some (.int (nI 0))], [], (am_u N.1 72 l, N.2)) := by
      refine am_down (P := fun k => ∀ l : fT, (∀ q, q < k → l q = vp_nar .boolean (M.1 4 q)) → am_E none (am_R d) cX7_copyFrom 7 none _ (89, [some (.ref 69), some (.ref 1), some (.int (nI k))], [], (am_u N.1 72 l, N.2))) 16 (fun k hk ih l hl => ?_)
      have ne : ∀ k, k ≠ 72 → (am_u N.1 72 l) k = N.1 k := fun k hk => am_u_ne _ _ hk
      refine ae_iload_n (pc := 89) dX7_copyFrom_89 rfl ?_
      refine ae_bipush (pc := 90) (v := nI 16) dX7_copyFrom_90 (by decide) ?_
      refine ae_icmp_ge (pc := 92) (t := 113) dX7_copyFrom_92 (by decide) (fun c92 => ?_) (fun c92 => ?_)
      · have hk2 : k = 16 := by rw [nI_leI (by omega) (by omega)] at c92; omega
        subst hk2
        refine ae_return (pc := 113) dX7_copyFrom_113 rfl ?_
        exact ⟨rfl, n1, fun k hk => (ne k (by omega)).trans (n2 k hk), ⟨(congrFun (ne 69 (by decide)) 0).trans n3.1, (congrFun (ne 69 (by decide)) 1).trans n3.2.1, (congrFun (ne 69 (by decide)) 3).trans n3.2.2.1, (congrFun (ne 69 (by decide)) 6).trans n3.2.2.2.1, (congrFun (ne 69 (by decide)) 7).trans n3.2.2.2.2⟩, fun q hq => (congrFun (ne 70 (by decide)) q).trans (n4 q hq), fun q hq => (congrFun (ne 73 (by decide)) q).trans (n5 q hq), fun q hq => (congrFun (ne 71 (by decide)) q).trans (n6 q hq), fun q hq => (congrFun (am_u_self N.1 72 l) q).trans (hl q hq)⟩
      · have hk2 : k < 16 := by rw [nI_leI (by omega) (by omega)] at c92; omega
        refine ae_aload_n (pc := 95) dX7_copyFrom_95 rfl ?_
        refine ae_getR (pc := 96) (k := 69) (c := 7) (j := 5) (q := 72) dX7_copyFrom_96 rfl rfl (Nat.le_of_ble_eq_true rfl) rfl (Nat.le_of_ble_eq_true rfl) rfl ?_
        refine ae_iload_n (pc := 99) dX7_copyFrom_99 rfl ?_
        refine ae_aload_n (pc := 100) dX7_copyFrom_100 rfl ?_
        refine ae_getR (pc := 101) (k := 1) (c := 7) (j := 5) (q := 4) dX7_copyFrom_101 rfl rfl (Nat.le_of_ble_eq_true rfl) rfl (Nat.le_of_ble_eq_true rfl) rfl ?_
        refine ae_iload_n (pc := 104) dX7_copyFrom_104 rfl ?_
        refine ae_baload (pc := 105) (k := 4) (N := 16) (v := M.1 4 k) _ dX7_copyFrom_105 (Nat.le_of_ble_eq_true rfl) rfl rfl rfl (by omega) ((congrFun (ne 4 (by decide)) k).trans (congrFun (n2 4 (by omega)) k)) ?_
        refine ae_bastore (pc := 106) (k := 72) (N := 16) (k) dX7_copyFrom_106 (Nat.le_of_ble_eq_true rfl) rfl rfl rfl (by omega) rfl ?_
        refine ae_M (M' := (am_u N.1 72 (upd l k (vp_nar .boolean (M.1 4 k))), N.2)) (by show ((am_u (am_u N.1 72 l) 72 (upd (am_u N.1 72 l 72) k _), N.2) : am_M) = _; rw [am_u_u, am_u_self]) ?_
        refine ae_iinc (pc := 107) (v := nI (k + 1)) dX7_copyFrom_107 rfl (nI_inc k) ?_
        refine ae_goto (pc := 110) (t := 89) dX7_copyFrom_110 (by decide) ?_
        refine ih hk2 _ (fun q hq => ?_)
        by_cases hqk : q = k
        · subst hqk; exact upd_self _ _ _
        · rw [upd_ne _ _ hqk]; exact hl q (by omega)
    have := lp (N.1 72) (fun q hq => absurd hq (Nat.not_lt_zero q))
    rwa [am_u_eta] at this
  refine key _ rfl (fun k hk => ?_) ?_ (fun q hq => ?_) (fun q hq => ?_) (fun q hq => ?_)
  · have : k ≠ 69 ∧ k ≠ 70 ∧ k ≠ 71 ∧ k ≠ 73 := by omega
    simp [am_u, this.1, this.2.1, this.2.2.1, this.2.2.2]
  · simp [am_u, upd]
  · simp [am_u, va_cpy, hq]
  · simp [am_u, va_cpy, hq]
  · simp [am_u, va_cpy, hq]
theorem sc_copy_1_69 (d : Nat) (M : am_M) (h7 : M.1 69 7 = 0 ∨ M.1 69 7 = 1) : am_R (d + 1) zX7_copyFrom [.ref 1, .ref 69] M (fun v M' => v = none ∧ M'.2 = M.2 ∧ (∀ k, (k < 1 ∨ 5 < k) → M'.1 k = M.1 k) ∧ (M'.1 1 0 = M.1 69 0 ∧ M'.1 1 1 = M.1 69 1 ∧ M'.1 1 3 = M.1 69 3 ∧ M'.1 1 6 = M.1 69 6 ∧ M'.1 1 7 = M.1 69 7) ∧ (∀ q, q < 256 → M'.1 2 q = M.1 70 q) ∧ (∀ q, q < 256 → M'.1 5 q = M.1 73 q) ∧ (∀ q, q < 16 → M'.1 3 q = M.1 71 q) ∧ (∀ q, q < 16 → M'.1 4 q = vp_nar .boolean (M.1 72 q))) := by
  refine ae_enter (z := zX7_copyFrom) (y := yX7_copyFrom) (cc := cX7_copyFrom) (mL := 3) (rt := none) (ci := 7) (st := false) (np := 1) (L := [some (.ref 1), some (.ref 69), none]) rfl (by decide) (Nat.le_of_ble_eq_true rfl) rfl ?_
  refine ae_aload_n (pc := 0) dX7_copyFrom_0 rfl ?_
  refine ae_aload_n (pc := 1) dX7_copyFrom_1 rfl ?_
  refine ae_getI (pc := 2) (k := 69) (c := 7) (j := 0) dX7_copyFrom_2 rfl rfl (Or.inl rfl) (Nat.le_of_ble_eq_true rfl) rfl (Nat.le_of_ble_eq_true rfl) rfl ?_
  refine ae_putfield (pc := 5) (k := 1) (c := 7) (j := 0) dX7_copyFrom_5 rfl rfl (Nat.le_of_ble_eq_true rfl) rfl (Nat.le_of_ble_eq_true rfl) rfl rfl ?_
  refine ae_aload_n (pc := 8) dX7_copyFrom_8 rfl ?_
  refine ae_aload_n (pc := 9) dX7_copyFrom_9 rfl ?_
  refine ae_getI (pc := 10) (k := 69) (c := 7) (j := 1) dX7_copyFrom_10 rfl rfl (Or.inl rfl) (Nat.le_of_ble_eq_true rfl) rfl (Nat.le_of_ble_eq_true rfl) rfl ?_
  refine ae_putfield (pc := 13) (k := 1) (c := 7) (j := 1) dX7_copyFrom_13 rfl rfl (Nat.le_of_ble_eq_true rfl) rfl (Nat.le_of_ble_eq_true rfl) rfl rfl ?_
  refine ae_aload_n (pc := 16) dX7_copyFrom_16 rfl ?_
  refine ae_aload_n (pc := 17) dX7_copyFrom_17 rfl ?_
  refine ae_getI (pc := 18) (k := 69) (c := 7) (j := 3) dX7_copyFrom_18 rfl rfl (Or.inl rfl) (Nat.le_of_ble_eq_true rfl) rfl (Nat.le_of_ble_eq_true rfl) rfl ?_
  refine ae_putfield (pc := 21) (k := 1) (c := 7) (j := 3) dX7_copyFrom_21 rfl rfl (Nat.le_of_ble_eq_true rfl) rfl (Nat.le_of_ble_eq_true rfl) rfl rfl ?_
  refine ae_aload_n (pc := 24) dX7_copyFrom_24 rfl ?_
  refine ae_aload_n (pc := 25) dX7_copyFrom_25 rfl ?_
  refine ae_getI (pc := 26) (k := 69) (c := 7) (j := 6) dX7_copyFrom_26 rfl rfl (Or.inl rfl) (Nat.le_of_ble_eq_true rfl) rfl (Nat.le_of_ble_eq_true rfl) rfl ?_
  refine ae_putfield (pc := 29) (k := 1) (c := 7) (j := 6) dX7_copyFrom_29 rfl rfl (Nat.le_of_ble_eq_true rfl) rfl (Nat.le_of_ble_eq_true rfl) rfl rfl ?_
  refine ae_aload_n (pc := 32) dX7_copyFrom_32 rfl ?_
  refine ae_aload_n (pc := 33) dX7_copyFrom_33 rfl ?_
  refine ae_getI (pc := 34) (k := 69) (c := 7) (j := 7) dX7_copyFrom_34 rfl rfl (Or.inr rfl) (Nat.le_of_ble_eq_true rfl) rfl (Nat.le_of_ble_eq_true rfl) rfl ?_
  refine ae_putfieldZ (pc := 37) (k := 1) (c := 7) (j := 7) dX7_copyFrom_37 rfl rfl (Nat.le_of_ble_eq_true rfl) rfl (Nat.le_of_ble_eq_true rfl) rfl h7 ?_
  refine ae_aload_n (pc := 40) dX7_copyFrom_40 rfl ?_
  refine ae_getR (pc := 41) (k := 69) (c := 7) (j := 2) (q := 70) dX7_copyFrom_41 rfl rfl (Nat.le_of_ble_eq_true rfl) rfl (Nat.le_of_ble_eq_true rfl) rfl ?_
  refine ae_iconst (pc := 44) (v := nI 0) dX7_copyFrom_44 (by decide) ?_
  refine ae_aload_n (pc := 45) dX7_copyFrom_45 rfl ?_
  refine ae_getR (pc := 46) (k := 1) (c := 7) (j := 2) (q := 2) dX7_copyFrom_46 rfl rfl (Nat.le_of_ble_eq_true rfl) rfl (Nat.le_of_ble_eq_true rfl) rfl ?_
  refine ae_iconst (pc := 49) (v := nI 0) dX7_copyFrom_49 (by decide) ?_
  refine ae_sipush (pc := 50) (v := nI 256) dX7_copyFrom_50 (by decide) ?_
  refine ae_copy (pc := 53) (s0 := 70) (d0 := 2) 0 0 256 dX7_copyFrom_53 (Or.inl ⟨rfl, rfl⟩) (by decide) (by decide) rfl rfl rfl rfl rfl rfl rfl (Nat.le_of_ble_eq_true rfl) (Nat.le_of_ble_eq_true rfl) (Nat.le_of_ble_eq_true rfl) ?_
  refine ae_aload_n (pc := 56) dX7_copyFrom_56 rfl ?_
  refine ae_getR (pc := 57) (k := 69) (c := 7) (j := 8) (q := 73) dX7_copyFrom_57 rfl rfl (Nat.le_of_ble_eq_true rfl) rfl (Nat.le_of_ble_eq_true rfl) rfl ?_
  refine ae_iconst (pc := 60) (v := nI 0) dX7_copyFrom_60 (by decide) ?_
  refine ae_aload_n (pc := 61) dX7_copyFrom_61 rfl ?_
  refine ae_getR (pc := 62) (k := 1) (c := 7) (j := 8) (q := 5) dX7_copyFrom_62 rfl rfl (Nat.le_of_ble_eq_true rfl) rfl (Nat.le_of_ble_eq_true rfl) rfl ?_
  refine ae_iconst (pc := 65) (v := nI 0) dX7_copyFrom_65 (by decide) ?_
  refine ae_sipush (pc := 66) (v := nI 256) dX7_copyFrom_66 (by decide) ?_
  refine ae_copy (pc := 69) (s0 := 73) (d0 := 5) 0 0 256 dX7_copyFrom_69 (Or.inl ⟨rfl, rfl⟩) (by decide) (by decide) rfl rfl rfl rfl rfl rfl rfl (Nat.le_of_ble_eq_true rfl) (Nat.le_of_ble_eq_true rfl) (Nat.le_of_ble_eq_true rfl) ?_
  refine ae_aload_n (pc := 72) dX7_copyFrom_72 rfl ?_
  refine ae_getR (pc := 73) (k := 69) (c := 7) (j := 4) (q := 71) dX7_copyFrom_73 rfl rfl (Nat.le_of_ble_eq_true rfl) rfl (Nat.le_of_ble_eq_true rfl) rfl ?_
  refine ae_iconst (pc := 76) (v := nI 0) dX7_copyFrom_76 (by decide) ?_
  refine ae_aload_n (pc := 77) dX7_copyFrom_77 rfl ?_
  refine ae_getR (pc := 78) (k := 1) (c := 7) (j := 4) (q := 3) dX7_copyFrom_78 rfl rfl (Nat.le_of_ble_eq_true rfl) rfl (Nat.le_of_ble_eq_true rfl) rfl ?_
  refine ae_iconst (pc := 81) (v := nI 0) dX7_copyFrom_81 (by decide) ?_
  refine ae_bipush (pc := 82) (v := nI 16) dX7_copyFrom_82 (by decide) ?_
  refine ae_copy (pc := 84) (s0 := 71) (d0 := 3) 0 0 16 dX7_copyFrom_84 (Or.inl ⟨rfl, rfl⟩) (by decide) (by decide) rfl rfl rfl rfl rfl rfl rfl (Nat.le_of_ble_eq_true rfl) (Nat.le_of_ble_eq_true rfl) (Nat.le_of_ble_eq_true rfl) ?_
  refine ae_iconst (pc := 87) (v := nI 0) dX7_copyFrom_87 (by decide) ?_
  refine ae_istore_n (pc := 88) dX7_copyFrom_88 rfl (Nat.le_of_ble_eq_true rfl) ?_
  skip
  have key : ∀ N : am_M, N.2 = M.2 → (∀ k, (k < 1 ∨ 5 < k) → N.1 k = M.1 k) → (N.1 1 0 = M.1 69 0 ∧ N.1 1 1 = M.1 69 1 ∧ N.1 1 3 = M.1 69 3 ∧ N.1 1 6 = M.1 69 6 ∧ N.1 1 7 = M.1 69 7) → (∀ q, q < 256 → N.1 2 q = M.1 70 q) → (∀ q, q < 256 → N.1 5 q = M.1 73 q) → (∀ q, q < 16 → N.1 3 q = M.1 71 q) → am_E none (am_R d) cX7_copyFrom 7 none (fun v M' => v = none ∧ M'.2 = M.2 ∧ (∀ k, (k < 1 ∨ 5 < k) → M'.1 k = M.1 k) ∧ (M'.1 1 0 = M.1 69 0 ∧ M'.1 1 1 = M.1 69 1 ∧ M'.1 1 3 = M.1 69 3 ∧ M'.1 1 6 = M.1 69 6 ∧ M'.1 1 7 = M.1 69 7) ∧ (∀ q, q < 256 → M'.1 2 q = M.1 70 q) ∧ (∀ q, q < 256 → M'.1 5 q = M.1 73 q) ∧ (∀ q, q < 16 → M'.1 3 q = M.1 71 q) ∧ (∀ q, q < 16 → M'.1 4 q = vp_nar .boolean (M.1 72 q))) (89, [some (.ref 1), some (.ref 69), some (.int (nI 0))], [], N) := by
    intro N n1 n2 n3 n4 n5 n6
    have lp : ∀ l : fT, (∀ q, q < 0 → l q = vp_nar .boolean (M.1 72 q)) → am_E none (am_R d) cX7_copyFrom 7 none (fun v M' => v = none ∧ M'.2 = M.2 ∧ (∀ k, (k < 1 ∨ 5 < k) → M'.1 k = M.1 k) ∧ (M'.1 1 0 = M.1 69 0 ∧ M'.1 1 1 = M.1 69 1 ∧ M'.1 1 3 = M.1 69 3 ∧ M'.1 1 6 = M.1 69 6 ∧ M'.1 1 7 = M.1 69 7) ∧ (∀ q, q < 256 → M'.1 2 q = M.1 70 q) ∧ (∀ q, q < 256 → M'.1 5 q = M.1 73 q) ∧ (∀ q, q < 16 → M'.1 3 q = M.1 71 q) ∧ (∀ q, q < 16 → M'.1 4 q = vp_nar .boolean (M.1 72 q))) (89, [some (.ref 1), some (.ref 69), some (.int (nI 0))], [], (am_u N.1 4 l, N.2)) := by
      refine am_down (P := fun k => ∀ l : fT, (∀ q, q < k → l q = vp_nar .boolean (M.1 72 q)) → am_E none (am_R d) cX7_copyFrom 7 none _ (89, [some (.ref 1), some (.ref 69), some (.int (nI k))], [], (am_u N.1 4 l, N.2))) 16 (fun k hk ih l hl => ?_)
      have ne : ∀ k, k ≠ 4 → (am_u N.1 4 l) k = N.1 k := fun k hk => am_u_ne _ _ hk
      refine ae_iload_n (pc := 89) dX7_copyFrom_89 rfl ?_
      refine ae_bipush (pc := 90) (v := nI 16) dX7_copyFrom_90 (by decide) ?_
      refine ae_icmp_ge (pc := 92) (t := 113) dX7_copyFrom_92 (by decide) (fun c92 => ?_) (fun c92 => ?_)
      · have hk2 : k = 16 := by rw [nI_leI (by omega) (by omega)] at c92; omega
        subst hk2
        refine ae_return (pc := 113) dX7_copyFrom_113 rfl ?_
        exact ⟨rfl, n1, fun k hk => (ne k (by omega)).trans (n2 k hk), ⟨(congrFun (ne 1 (by decide)) 0).trans n3.1, (congrFun (ne 1 (by decide)) 1).trans n3.2.1, (congrFun (ne 1 (by decide)) 3).trans n3.2.2.1, (congrFun (ne 1 (by decide)) 6).trans n3.2.2.2.1, (congrFun (ne 1 (by decide)) 7).trans n3.2.2.2.2⟩, fun q hq => (congrFun (ne 2 (by decide)) q).trans (n4 q hq), fun q hq => (congrFun (ne 5 (by decide)) q).trans (n5 q hq), fun q hq => (congrFun (ne 3 (by decide)) q).trans (n6 q hq), fun q hq => (congrFun (am_u_self N.1 4 l) q).trans (hl q hq)⟩
      · have hk2 : k < 16 := by rw [nI_leI (by omega) (by omega)] at c92; omega
        refine ae_aload_n (pc := 95) dX7_copyFrom_95 rfl ?_
        refine ae_getR (pc := 96) (k := 1) (c := 7) (j := 5) (q := 4) dX7_copyFrom_96 rfl rfl (Nat.le_of_ble_eq_true rfl) rfl (Nat.le_of_ble_eq_true rfl) rfl ?_
        refine ae_iload_n (pc := 99) dX7_copyFrom_99 rfl ?_
        refine ae_aload_n (pc := 100) dX7_copyFrom_100 rfl ?_
        refine ae_getR (pc := 101) (k := 69) (c := 7) (j := 5) (q := 72) dX7_copyFrom_101 rfl rfl (Nat.le_of_ble_eq_true rfl) rfl (Nat.le_of_ble_eq_true rfl) rfl ?_
        refine ae_iload_n (pc := 104) dX7_copyFrom_104 rfl ?_
        refine ae_baload (pc := 105) (k := 72) (N := 16) (v := M.1 72 k) _ dX7_copyFrom_105 (Nat.le_of_ble_eq_true rfl) rfl rfl rfl (by omega) ((congrFun (ne 72 (by decide)) k).trans (congrFun (n2 72 (by omega)) k)) ?_
        refine ae_bastore (pc := 106) (k := 4) (N := 16) (k) dX7_copyFrom_106 (Nat.le_of_ble_eq_true rfl) rfl rfl rfl (by omega) rfl ?_
        refine ae_M (M' := (am_u N.1 4 (upd l k (vp_nar .boolean (M.1 72 k))), N.2)) (by show ((am_u (am_u N.1 4 l) 4 (upd (am_u N.1 4 l 4) k _), N.2) : am_M) = _; rw [am_u_u, am_u_self]) ?_
        refine ae_iinc (pc := 107) (v := nI (k + 1)) dX7_copyFrom_107 rfl (nI_inc k) ?_
        refine ae_goto (pc := 110) (t := 89) dX7_copyFrom_110 (by decide) ?_
        refine ih hk2 _ (fun q hq => ?_)
        by_cases hqk : q = k
        · subst hqk; exact upd_self _ _ _
        · rw [upd_ne _ _ hqk]; exact hl q (by omega)
    have := lp (N.1 4) (fun q hq => absurd hq (Nat.not_lt_zero q))
    rwa [am_u_eta] at this
  refine key _ rfl (fun k hk => ?_) ?_ (fun q hq => ?_) (fun q hq => ?_) (fun q hq => ?_)
  · have : k ≠ 1 ∧ k ≠ 2 ∧ k ≠ 3 ∧ k ≠ 5 := by omega
    simp [am_u, this.1, this.2.1, this.2.2.1, this.2.2.2]
  · simp [am_u, upd]
  · simp [am_u, va_cpy, hq]
  · simp [am_u, va_cpy, hq]
  · simp [am_u, va_cpy, hq]
theorem sc_copy_74_1 (d : Nat) (M : am_M) (h7 : M.1 1 7 = 0 ∨ M.1 1 7 = 1) : am_R (d + 1) zX7_copyFrom [.ref 74, .ref 1] M (fun v M' => v = none ∧ M'.2 = M.2 ∧ (∀ k, (k < 74 ∨ 78 < k) → M'.1 k = M.1 k) ∧ (M'.1 74 0 = M.1 1 0 ∧ M'.1 74 1 = M.1 1 1 ∧ M'.1 74 3 = M.1 1 3 ∧ M'.1 74 6 = M.1 1 6 ∧ M'.1 74 7 = M.1 1 7) ∧ (∀ q, q < 256 → M'.1 75 q = M.1 2 q) ∧ (∀ q, q < 256 → M'.1 78 q = M.1 5 q) ∧ (∀ q, q < 16 → M'.1 76 q = M.1 3 q) ∧ (∀ q, q < 16 → M'.1 77 q = vp_nar .boolean (M.1 4 q))) := by
  refine ae_enter (z := zX7_copyFrom) (y := yX7_copyFrom) (cc := cX7_copyFrom) (mL := 3) (rt := none) (ci := 7) (st := false) (np := 1) (L := [some (.ref 74), some (.ref 1), none]) rfl (by decide) (Nat.le_of_ble_eq_true rfl) rfl ?_
  refine ae_aload_n (pc := 0) dX7_copyFrom_0 rfl ?_
  refine ae_aload_n (pc := 1) dX7_copyFrom_1 rfl ?_
  refine ae_getI (pc := 2) (k := 1) (c := 7) (j := 0) dX7_copyFrom_2 rfl rfl (Or.inl rfl) (Nat.le_of_ble_eq_true rfl) rfl (Nat.le_of_ble_eq_true rfl) rfl ?_
  refine ae_putfield (pc := 5) (k := 74) (c := 7) (j := 0) dX7_copyFrom_5 rfl rfl (Nat.le_of_ble_eq_true rfl) rfl (Nat.le_of_ble_eq_true rfl) rfl rfl ?_
  refine ae_aload_n (pc := 8) dX7_copyFrom_8 rfl ?_
  refine ae_aload_n (pc := 9) dX7_copyFrom_9 rfl ?_
  refine ae_getI (pc := 10) (k := 1) (c := 7) (j := 1) dX7_copyFrom_10 rfl rfl (Or.inl rfl) (Nat.le_of_ble_eq_true rfl) rfl (Nat.le_of_ble_eq_true rfl) rfl ?_
  refine ae_putfield (pc := 13) (k := 74) (c := 7) (j := 1) dX7_copyFrom_13 rfl rfl (Nat.le_of_ble_eq_true rfl) rfl (Nat.le_of_ble_eq_true rfl) rfl rfl ?_
  refine ae_aload_n (pc := 16) dX7_copyFrom_16 rfl ?_
  refine ae_aload_n (pc := 17) dX7_copyFrom_17 rfl ?_
  refine ae_getI (pc := 18) (k := 1) (c := 7) (j := 3) dX7_copyFrom_18 rfl rfl (Or.inl rfl) (Nat.le_of_ble_eq_true rfl) rfl (Nat.le_of_ble_eq_true rfl) rfl ?_
  refine ae_putfield (pc := 21) (k := 74) (c := 7) (j := 3) dX7_copyFrom_21 rfl rfl (Nat.le_of_ble_eq_true rfl) rfl (Nat.le_of_ble_eq_true rfl) rfl rfl ?_
  refine ae_aload_n (pc := 24) dX7_copyFrom_24 rfl ?_
  refine ae_aload_n (pc := 25) dX7_copyFrom_25 rfl ?_
  refine ae_getI (pc := 26) (k := 1) (c := 7) (j := 6) dX7_copyFrom_26 rfl rfl (Or.inl rfl) (Nat.le_of_ble_eq_true rfl) rfl (Nat.le_of_ble_eq_true rfl) rfl ?_
  refine ae_putfield (pc := 29) (k := 74) (c := 7) (j := 6) dX7_copyFrom_29 rfl rfl (Nat.le_of_ble_eq_true rfl) rfl (Nat.le_of_ble_eq_true rfl) rfl rfl ?_
  refine ae_aload_n (pc := 32) dX7_copyFrom_32 rfl ?_
  refine ae_aload_n (pc := 33) dX7_copyFrom_33 rfl ?_
  refine ae_getI (pc := 34) (k := 1) (c := 7) (j := 7) dX7_copyFrom_34 rfl rfl (Or.inr rfl) (Nat.le_of_ble_eq_true rfl) rfl (Nat.le_of_ble_eq_true rfl) rfl ?_
  refine ae_putfieldZ (pc := 37) (k := 74) (c := 7) (j := 7) dX7_copyFrom_37 rfl rfl (Nat.le_of_ble_eq_true rfl) rfl (Nat.le_of_ble_eq_true rfl) rfl h7 ?_
  refine ae_aload_n (pc := 40) dX7_copyFrom_40 rfl ?_
  refine ae_getR (pc := 41) (k := 1) (c := 7) (j := 2) (q := 2) dX7_copyFrom_41 rfl rfl (Nat.le_of_ble_eq_true rfl) rfl (Nat.le_of_ble_eq_true rfl) rfl ?_
  refine ae_iconst (pc := 44) (v := nI 0) dX7_copyFrom_44 (by decide) ?_
  refine ae_aload_n (pc := 45) dX7_copyFrom_45 rfl ?_
  refine ae_getR (pc := 46) (k := 74) (c := 7) (j := 2) (q := 75) dX7_copyFrom_46 rfl rfl (Nat.le_of_ble_eq_true rfl) rfl (Nat.le_of_ble_eq_true rfl) rfl ?_
  refine ae_iconst (pc := 49) (v := nI 0) dX7_copyFrom_49 (by decide) ?_
  refine ae_sipush (pc := 50) (v := nI 256) dX7_copyFrom_50 (by decide) ?_
  refine ae_copy (pc := 53) (s0 := 2) (d0 := 75) 0 0 256 dX7_copyFrom_53 (Or.inl ⟨rfl, rfl⟩) (by decide) (by decide) rfl rfl rfl rfl rfl rfl rfl (Nat.le_of_ble_eq_true rfl) (Nat.le_of_ble_eq_true rfl) (Nat.le_of_ble_eq_true rfl) ?_
  refine ae_aload_n (pc := 56) dX7_copyFrom_56 rfl ?_
  refine ae_getR (pc := 57) (k := 1) (c := 7) (j := 8) (q := 5) dX7_copyFrom_57 rfl rfl (Nat.le_of_ble_eq_true rfl) rfl (Nat.le_of_ble_eq_true rfl) rfl ?_
  refine ae_iconst (pc := 60) (v := nI 0) dX7_copyFrom_60 (by decide) ?_
  refine ae_aload_n (pc := 61) dX7_copyFrom_61 rfl ?_
  refine ae_getR (pc := 62) (k := 74) (c := 7) (j := 8) (q := 78) dX7_copyFrom_62 rfl rfl (Nat.le_of_ble_eq_true rfl) rfl (Nat.le_of_ble_eq_true rfl) rfl ?_
  refine ae_iconst (pc := 65) (v := nI 0) dX7_copyFrom_65 (by decide) ?_
  refine ae_sipush (pc := 66) (v := nI 256) dX7_copyFrom_66 (by decide) ?_
  refine ae_copy (pc := 69) (s0 := 5) (d0 := 78) 0 0 256 dX7_copyFrom_69 (Or.inl ⟨rfl, rfl⟩) (by decide) (by decide) rfl rfl rfl rfl rfl rfl rfl (Nat.le_of_ble_eq_true rfl) (Nat.le_of_ble_eq_true rfl) (Nat.le_of_ble_eq_true rfl) ?_
  refine ae_aload_n (pc := 72) dX7_copyFrom_72 rfl ?_
  refine ae_getR (pc := 73) (k := 1) (c := 7) (j := 4) (q := 3) dX7_copyFrom_73 rfl rfl (Nat.le_of_ble_eq_true rfl) rfl (Nat.le_of_ble_eq_true rfl) rfl ?_
  refine ae_iconst (pc := 76) (v := nI 0) dX7_copyFrom_76 (by decide) ?_
  refine ae_aload_n (pc := 77) dX7_copyFrom_77 rfl ?_
  refine ae_getR (pc := 78) (k := 74) (c := 7) (j := 4) (q := 76) dX7_copyFrom_78 rfl rfl (Nat.le_of_ble_eq_true rfl) rfl (Nat.le_of_ble_eq_true rfl) rfl ?_
  refine ae_iconst (pc := 81) (v := nI 0) dX7_copyFrom_81 (by decide) ?_
  refine ae_bipush (pc := 82) (v := nI 16) dX7_copyFrom_82 (by decide) ?_
  refine ae_copy (pc := 84) (s0 := 3) (d0 := 76) 0 0 16 dX7_copyFrom_84 (Or.inl ⟨rfl, rfl⟩) (by decide) (by decide) rfl rfl rfl rfl rfl rfl rfl (Nat.le_of_ble_eq_true rfl) (Nat.le_of_ble_eq_true rfl) (Nat.le_of_ble_eq_true rfl) ?_
  refine ae_iconst (pc := 87) (v := nI 0) dX7_copyFrom_87 (by decide) ?_
  refine ae_istore_n (pc := 88) dX7_copyFrom_88 rfl (Nat.le_of_ble_eq_true rfl) ?_
  skip
  have key : ∀ N : am_M, N.2 = M.2 → (∀ k, (k < 74 ∨ 78 < k) → N.1 k = M.1 k) → (N.1 74 0 = M.1 1 0 ∧ N.1 74 1 = M.1 1 1 ∧ N.1 74 3 = M.1 1 3 ∧ N.1 74 6 = M.1 1 6 ∧ N.1 74 7 = M.1 1 7) → (∀ q, q < 256 → N.1 75 q = M.1 2 q) → (∀ q, q < 256 → N.1 78 q = M.1 5 q) → (∀ q, q < 16 → N.1 76 q = M.1 3 q) → am_E none (am_R d) cX7_copyFrom 7 none (fun v M' => v = none ∧ M'.2 = M.2 ∧ (∀ k, (k < 74 ∨ 78 < k) → M'.1 k = M.1 k) ∧ (M'.1 74 0 = M.1 1 0 ∧ M'.1 74 1 = M.1 1 1 ∧ M'.1 74 3 = M.1 1 3 ∧ M'.1 74 6 = M.1 1 6 ∧ M'.1 74 7 = M.1 1 7) ∧ (∀ q, q < 256 → M'.1 75 q = M.1 2 q) ∧ (∀ q, q < 256 → M'.1 78 q = M.1 5 q) ∧ (∀ q, q < 16 → M'.1 76 q = M.1 3 q) ∧ (∀ q, q < 16 → M'.1 77 q = vp_nar .boolean (M.1 4 q))) (89, [some (.ref 74), some (.ref 1), some (.int (nI 0))], [], N) := by
    intro N n1 n2 n3 n4 n5 n6
    have lp : ∀ l : fT, (∀ q, q < 0 → l q = vp_nar .boolean (M.1 4 q)) → am_E none (am_R d) cX7_copyFrom 7 none (fun v M' => v = none ∧ M'.2 = M.2 ∧ (∀ k, (k < 74 ∨ 78 < k) → M'.1 k = M.1 k) ∧ (M'.1 74 0 = M.1 1 0 ∧ M'.1 74 1 = M.1 1 1 ∧ M'.1 74 3 = M.1 1 3 ∧ M'.1 74 6 = M.1 1 6 ∧ M'.1 74 7 = M.1 1 7) ∧ (∀ q, q < 256 → M'.1 75 q = M.1 2 q) ∧ (∀ q, q < 256 → M'.1 78 q = M.1 5 q) ∧ (∀ q, q < 16 → M'.1 76 q = M.1 3 q) ∧ (∀ q, q < 16 → M'.1 77 q = vp_nar .boolean (M.1 4 q))) (89, [some (.ref 74), some (.ref 1), some (.int (nI 0))], [], (am_u N.1 77 l, N.2)) := by
      refine am_down (P := fun k => ∀ l : fT, (∀ q, q < k → l q = vp_nar .boolean (M.1 4 q)) → am_E none (am_R d) cX7_copyFrom 7 none _ (89, [some (.ref 74), some (.ref 1), some (.int (nI k))], [], (am_u N.1 77 l, N.2))) 16 (fun k hk ih l hl => ?_)
      have ne : ∀ k, k ≠ 77 → (am_u N.1 77 l) k = N.1 k := fun k hk => am_u_ne _ _ hk
      refine ae_iload_n (pc := 89) dX7_copyFrom_89 rfl ?_
      refine ae_bipush (pc := 90) (v := nI 16) dX7_copyFrom_90 (by decide) ?_
      refine ae_icmp_ge (pc := 92) (t := 113) dX7_copyFrom_92 (by decide) (fun c92 => ?_) (fun c92 => ?_)
      · have hk2 : k = 16 := by rw [nI_leI (by omega) (by omega)] at c92; omega
        subst hk2
        refine ae_return (pc := 113) dX7_copyFrom_113 rfl ?_
        exact ⟨rfl, n1, fun k hk => (ne k (by omega)).trans (n2 k hk), ⟨(congrFun (ne 74 (by decide)) 0).trans n3.1, (congrFun (ne 74 (by decide)) 1).trans n3.2.1, (congrFun (ne 74 (by decide)) 3).trans n3.2.2.1, (congrFun (ne 74 (by decide)) 6).trans n3.2.2.2.1, (congrFun (ne 74 (by decide)) 7).trans n3.2.2.2.2⟩, fun q hq => (congrFun (ne 75 (by decide)) q).trans (n4 q hq), fun q hq => (congrFun (ne 78 (by decide)) q).trans (n5 q hq), fun q hq => (congrFun (ne 76 (by decide)) q).trans (n6 q hq), fun q hq => (congrFun (am_u_self N.1 77 l) q).trans (hl q hq)⟩
      · have hk2 : k < 16 := by rw [nI_leI (by omega) (by omega)] at c92; omega
        refine ae_aload_n (pc := 95) dX7_copyFrom_95 rfl ?_
        refine ae_getR (pc := 96) (k := 74) (c := 7) (j := 5) (q := 77) dX7_copyFrom_96 rfl rfl (Nat.le_of_ble_eq_true rfl) rfl (Nat.le_of_ble_eq_true rfl) rfl ?_
        refine ae_iload_n (pc := 99) dX7_copyFrom_99 rfl ?_
        refine ae_aload_n (pc := 100) dX7_copyFrom_100 rfl ?_
        refine ae_getR (pc := 101) (k := 1) (c := 7) (j := 5) (q := 4) dX7_copyFrom_101 rfl rfl (Nat.le_of_ble_eq_true rfl) rfl (Nat.le_of_ble_eq_true rfl) rfl ?_
        refine ae_iload_n (pc := 104) dX7_copyFrom_104 rfl ?_
        refine ae_baload (pc := 105) (k := 4) (N := 16) (v := M.1 4 k) _ dX7_copyFrom_105 (Nat.le_of_ble_eq_true rfl) rfl rfl rfl (by omega) ((congrFun (ne 4 (by decide)) k).trans (congrFun (n2 4 (by omega)) k)) ?_
        refine ae_bastore (pc := 106) (k := 77) (N := 16) (k) dX7_copyFrom_106 (Nat.le_of_ble_eq_true rfl) rfl rfl rfl (by omega) rfl ?_
        refine ae_M (M' := (am_u N.1 77 (upd l k (vp_nar .boolean (M.1 4 k))), N.2)) (by show ((am_u (am_u N.1 77 l) 77 (upd (am_u N.1 77 l 77) k _), N.2) : am_M) = _; rw [am_u_u, am_u_self]) ?_
        refine ae_iinc (pc := 107) (v := nI (k + 1)) dX7_copyFrom_107 rfl (nI_inc k) ?_
        refine ae_goto (pc := 110) (t := 89) dX7_copyFrom_110 (by decide) ?_
        refine ih hk2 _ (fun q hq => ?_)
        by_cases hqk : q = k
        · subst hqk; exact upd_self _ _ _
        · rw [upd_ne _ _ hqk]; exact hl q (by omega)
    have := lp (N.1 77) (fun q hq => absurd hq (Nat.not_lt_zero q))
    rwa [am_u_eta] at this
  refine key _ rfl (fun k hk => ?_) ?_ (fun q hq => ?_) (fun q hq => ?_) (fun q hq => ?_)
  · have : k ≠ 74 ∧ k ≠ 75 ∧ k ≠ 76 ∧ k ≠ 78 := by omega
    simp [am_u, this.1, this.2.1, this.2.2.1, this.2.2.2]
  · simp [am_u, upd]
  · simp [am_u, va_cpy, hq]
  · simp [am_u, va_cpy, hq]
  · simp [am_u, va_cpy, hq]
theorem sc_copy_1_74 (d : Nat) (M : am_M) (h7 : M.1 74 7 = 0 ∨ M.1 74 7 = 1) : am_R (d + 1) zX7_copyFrom [.ref 1, .ref 74] M (fun v M' => v = none ∧ M'.2 = M.2 ∧ (∀ k, (k < 1 ∨ 5 < k) → M'.1 k = M.1 k) ∧ (M'.1 1 0 = M.1 74 0 ∧ M'.1 1 1 = M.1 74 1 ∧ M'.1 1 3 = M.1 74 3 ∧ M'.1 1 6 = M.1 74 6 ∧ M'.1 1 7 = M.1 74 7) ∧ (∀ q, q < 256 → M'.1 2 q = M.1 75 q) ∧ (∀ q, q < 256 → M'.1 5 q = M.1 78 q) ∧ (∀ q, q < 16 → M'.1 3 q = M.1 76 q) ∧ (∀ q, q < 16 → M'.1 4 q = vp_nar .boolean (M.1 77 q))) := by
  refine ae_enter (z := zX7_copyFrom) (y := yX7_copyFrom) (cc := cX7_copyFrom) (mL := 3) (rt := none) (ci := 7) (st := false) (np := 1) (L := [some (.ref 1), some (.ref 74), none]) rfl (by decide) (Nat.le_of_ble_eq_true rfl) rfl ?_
  refine ae_aload_n (pc := 0) dX7_copyFrom_0 rfl ?_
  refine ae_aload_n (pc := 1) dX7_copyFrom_1 rfl ?_
  refine ae_getI (pc := 2) (k := 74) (c := 7) (j := 0) dX7_copyFrom_2 rfl rfl (Or.inl rfl) (Nat.le_of_ble_eq_true rfl) rfl (Nat.le_of_ble_eq_true rfl) rfl ?_
  refine ae_putfield (pc := 5) (k := 1) (c := 7) (j := 0) dX7_copyFrom_5 rfl rfl (Nat.le_of_ble_eq_true rfl) rfl (Nat.le_of_ble_eq_true rfl) rfl rfl ?_
  refine ae_aload_n (pc := 8) dX7_copyFrom_8 rfl ?_
  refine ae_aload_n (pc := 9) dX7_copyFrom_9 rfl ?_
  refine ae_getI (pc := 10) (k := 74) (c := 7) (j := 1) dX7_copyFrom_10 rfl rfl (Or.inl rfl) (Nat.le_of_ble_eq_true rfl) rfl (Nat.le_of_ble_eq_true rfl) rfl ?_
  refine ae_putfield (pc := 13) (k := 1) (c := 7) (j := 1) dX7_copyFrom_13 rfl rfl (Nat.le_of_ble_eq_true rfl) rfl (Nat.le_of_ble_eq_true rfl) rfl rfl ?_
  refine ae_aload_n (pc := 16) dX7_copyFrom_16 rfl ?_
  refine ae_aload_n (pc := 17) dX7_copyFrom_17 rfl ?_
  refine ae_getI (pc := 18) (k := 74) (c := 7) (j := 3) dX7_copyFrom_18 rfl rfl (Or.inl rfl) (Nat.le_of_ble_eq_true rfl) rfl (Nat.le_of_ble_eq_true rfl) rfl ?_
  refine ae_putfield (pc := 21) (k := 1) (c := 7) (j := 3) dX7_copyFrom_21 rfl rfl (Nat.le_of_ble_eq_true rfl) rfl (Nat.le_of_ble_eq_true rfl) rfl rfl ?_
  refine ae_aload_n (pc := 24) dX7_copyFrom_24 rfl ?_
  refine ae_aload_n (pc := 25) dX7_copyFrom_25 rfl ?_
  refine ae_getI (pc := 26) (k := 74) (c := 7) (j := 6) dX7_copyFrom_26 rfl rfl (Or.inl rfl) (Nat.le_of_ble_eq_true rfl) rfl (Nat.le_of_ble_eq_true rfl) rfl ?_
  refine ae_putfield (pc := 29) (k := 1) (c := 7) (j := 6) dX7_copyFrom_29 rfl rfl (Nat.le_of_ble_eq_true rfl) rfl (Nat.le_of_ble_eq_true rfl) rfl rfl ?_
  refine ae_aload_n (pc := 32) dX7_copyFrom_32 rfl ?_
  refine ae_aload_n (pc := 33) dX7_copyFrom_33 rfl ?_
  refine ae_getI (pc := 34) (k := 74) (c := 7) (j := 7) dX7_copyFrom_34 rfl rfl (Or.inr rfl) (Nat.le_of_ble_eq_true rfl) rfl (Nat.le_of_ble_eq_true rfl) rfl ?_
  refine ae_putfieldZ (pc := 37) (k := 1) (c := 7) (j := 7) dX7_copyFrom_37 rfl rfl (Nat.le_of_ble_eq_true rfl) rfl (Nat.le_of_ble_eq_true rfl) rfl h7 ?_
  refine ae_aload_n (pc := 40) dX7_copyFrom_40 rfl ?_
  refine ae_getR (pc := 41) (k := 74) (c := 7) (j := 2) (q := 75) dX7_copyFrom_41 rfl rfl (Nat.le_of_ble_eq_true rfl) rfl (Nat.le_of_ble_eq_true rfl) rfl ?_
  refine ae_iconst (pc := 44) (v := nI 0) dX7_copyFrom_44 (by decide) ?_
  refine ae_aload_n (pc := 45) dX7_copyFrom_45 rfl ?_
  refine ae_getR (pc := 46) (k := 1) (c := 7) (j := 2) (q := 2) dX7_copyFrom_46 rfl rfl (Nat.le_of_ble_eq_true rfl) rfl (Nat.le_of_ble_eq_true rfl) rfl ?_
  refine ae_iconst (pc := 49) (v := nI 0) dX7_copyFrom_49 (by decide) ?_
  refine ae_sipush (pc := 50) (v := nI 256) dX7_copyFrom_50 (by decide) ?_
  refine ae_copy (pc := 53) (s0 := 75) (d0 := 2) 0 0 256 dX7_copyFrom_53 (Or.inl ⟨rfl, rfl⟩) (by decide) (by decide) rfl rfl rfl rfl rfl rfl rfl (Nat.le_of_ble_eq_true rfl) (Nat.le_of_ble_eq_true rfl) (Nat.le_of_ble_eq_true rfl) ?_
  refine ae_aload_n (pc := 56) dX7_copyFrom_56 rfl ?_
  refine ae_getR (pc := 57) (k := 74) (c := 7) (j := 8) (q := 78) dX7_copyFrom_57 rfl rfl (Nat.le_of_ble_eq_true rfl) rfl (Nat.le_of_ble_eq_true rfl) rfl ?_
  refine ae_iconst (pc := 60) (v := nI 0) dX7_copyFrom_60 (by decide) ?_
  refine ae_aload_n (pc := 61) dX7_copyFrom_61 rfl ?_
  refine ae_getR (pc := 62) (k := 1) (c := 7) (j := 8) (q := 5) dX7_copyFrom_62 rfl rfl (Nat.le_of_ble_eq_true rfl) rfl (Nat.le_of_ble_eq_true rfl) rfl ?_
  refine ae_iconst (pc := 65) (v := nI 0) dX7_copyFrom_65 (by decide) ?_
  refine ae_sipush (pc := 66) (v := nI 256) dX7_copyFrom_66 (by decide) ?_
  refine ae_copy (pc := 69) (s0 := 78) (d0 := 5) 0 0 256 dX7_copyFrom_69 (Or.inl ⟨rfl, rfl⟩) (by decide) (by decide) rfl rfl rfl rfl rfl rfl rfl (Nat.le_of_ble_eq_true rfl) (Nat.le_of_ble_eq_true rfl) (Nat.le_of_ble_eq_true rfl) ?_
  refine ae_aload_n (pc := 72) dX7_copyFrom_72 rfl ?_
  refine ae_getR (pc := 73) (k := 74) (c := 7) (j := 4) (q := 76) dX7_copyFrom_73 rfl rfl (Nat.le_of_ble_eq_true rfl) rfl (Nat.le_of_ble_eq_true rfl) rfl ?_
  refine ae_iconst (pc := 76) (v := nI 0) dX7_copyFrom_76 (by decide) ?_
  refine ae_aload_n (pc := 77) dX7_copyFrom_77 rfl ?_
  refine ae_getR (pc := 78) (k := 1) (c := 7) (j := 4) (q := 3) dX7_copyFrom_78 rfl rfl (Nat.le_of_ble_eq_true rfl) rfl (Nat.le_of_ble_eq_true rfl) rfl ?_
  refine ae_iconst (pc := 81) (v := nI 0) dX7_copyFrom_81 (by decide) ?_
  refine ae_bipush (pc := 82) (v := nI 16) dX7_copyFrom_82 (by decide) ?_
  refine ae_copy (pc := 84) (s0 := 76) (d0 := 3) 0 0 16 dX7_copyFrom_84 (Or.inl ⟨rfl, rfl⟩) (by decide) (by decide) rfl rfl rfl rfl rfl rfl rfl (Nat.le_of_ble_eq_true rfl) (Nat.le_of_ble_eq_true rfl) (Nat.le_of_ble_eq_true rfl) ?_
  refine ae_iconst (pc := 87) (v := nI 0) dX7_copyFrom_87 (by decide) ?_
  refine ae_istore_n (pc := 88) dX7_copyFrom_88 rfl (Nat.le_of_ble_eq_true rfl) ?_
  skip
  have key : ∀ N : am_M, N.2 = M.2 → (∀ k, (k < 1 ∨ 5 < k) → N.1 k = M.1 k) → (N.1 1 0 = M.1 74 0 ∧ N.1 1 1 = M.1 74 1 ∧ N.1 1 3 = M.1 74 3 ∧ N.1 1 6 = M.1 74 6 ∧ N.1 1 7 = M.1 74 7) → (∀ q, q < 256 → N.1 2 q = M.1 75 q) → (∀ q, q < 256 → N.1 5 q = M.1 78 q) → (∀ q, q < 16 → N.1 3 q = M.1 76 q) → am_E none (am_R d) cX7_copyFrom 7 none (fun v M' => v = none ∧ M'.2 = M.2 ∧ (∀ k, (k < 1 ∨ 5 < k) → M'.1 k = M.1 k) ∧ (M'.1 1 0 = M.1 74 0 ∧ M'.1 1 1 = M.1 74 1 ∧ M'.1 1 3 = M.1 74 3 ∧ M'.1 1 6 = M.1 74 6 ∧ M'.1 1 7 = M.1 74 7) ∧ (∀ q, q < 256 → M'.1 2 q = M.1 75 q) ∧ (∀ q, q < 256 → M'.1 5 q = M.1 78 q) ∧ (∀ q, q < 16 → M'.1 3 q = M.1 76 q) ∧ (∀ q, q < 16 → M'.1 4 q = vp_nar .boolean (M.1 77 q))) (89, [some (.ref 1), some (.ref 74), some (.int (nI 0))], [], N) := by
    intro N n1 n2 n3 n4 n5 n6
    have lp : ∀ l : fT, (∀ q, q < 0 → l q = vp_nar .boolean (M.1 77 q)) → am_E none (am_R d) cX7_copyFrom 7 none (fun v M' => v = none ∧ M'.2 = M.2 ∧ (∀ k, (k < 1 ∨ 5 < k) → M'.1 k = M.1 k) ∧ (M'.1 1 0 = M.1 74 0 ∧ M'.1 1 1 = M.1 74 1 ∧ M'.1 1 3 = M.1 74 3 ∧ M'.1 1 6 = M.1 74 6 ∧ M'.1 1 7 = M.1 74 7) ∧ (∀ q, q < 256 → M'.1 2 q = M.1 75 q) ∧ (∀ q, q < 256 → M'.1 5 q = M.1 78 q) ∧ (∀ q, q < 16 → M'.1 3 q = M.1 76 q) ∧ (∀ q, q < 16 → M'.1 4 q = vp_nar .boolean (M.1 77 q))) (89, [some (.ref 1), some (.ref 74), some (.int (nI 0))], [], (am_u N.1 4 l, N.2)) := by
      refine am_down (P := fun k => ∀ l : fT, (∀ q, q < k → l q = vp_nar .boolean (M.1 77 q)) → am_E none (am_R d) cX7_copyFrom 7 none _ (89, [some (.ref 1), some (.ref 74), some (.int (nI k))], [], (am_u N.1 4 l, N.2))) 16 (fun k hk ih l hl => ?_)
      have ne : ∀ k, k ≠ 4 → (am_u N.1 4 l) k = N.1 k := fun k hk => am_u_ne _ _ hk
      refine ae_iload_n (pc := 89) dX7_copyFrom_89 rfl ?_
      refine ae_bipush (pc := 90) (v := nI 16) dX7_copyFrom_90 (by decide) ?_
      refine ae_icmp_ge (pc := 92) (t := 113) dX7_copyFrom_92 (by decide) (fun c92 => ?_) (fun c92 => ?_)
      · have hk2 : k = 16 := by rw [nI_leI (by omega) (by omega)] at c92; omega
        subst hk2
        refine ae_return (pc := 113) dX7_copyFrom_113 rfl ?_
        exact ⟨rfl, n1, fun k hk => (ne k (by omega)).trans (n2 k hk), ⟨(congrFun (ne 1 (by decide)) 0).trans n3.1, (congrFun (ne 1 (by decide)) 1).trans n3.2.1, (congrFun (ne 1 (by decide)) 3).trans n3.2.2.1, (congrFun (ne 1 (by decide)) 6).trans n3.2.2.2.1, (congrFun (ne 1 (by decide)) 7).trans n3.2.2.2.2⟩, fun q hq => (congrFun (ne 2 (by decide)) q).trans (n4 q hq), fun q hq => (congrFun (ne 5 (by decide)) q).trans (n5 q hq), fun q hq => (congrFun (ne 3 (by decide)) q).trans (n6 q hq), fun q hq => (congrFun (am_u_self N.1 4 l) q).trans (hl q hq)⟩
      · have hk2 : k < 16 := by rw [nI_leI (by omega) (by omega)] at c92; omega
        refine ae_aload_n (pc := 95) dX7_copyFrom_95 rfl ?_
        refine ae_getR (pc := 96) (k := 1) (c := 7) (j := 5) (q := 4) dX7_copyFrom_96 rfl rfl (Nat.le_of_ble_eq_true rfl) rfl (Nat.le_of_ble_eq_true rfl) rfl ?_
        refine ae_iload_n (pc := 99) dX7_copyFrom_99 rfl ?_
        refine ae_aload_n (pc := 100) dX7_copyFrom_100 rfl ?_
        refine ae_getR (pc := 101) (k := 74) (c := 7) (j := 5) (q := 77) dX7_copyFrom_101 rfl rfl (Nat.le_of_ble_eq_true rfl) rfl (Nat.le_of_ble_eq_true rfl) rfl ?_
        refine ae_iload_n (pc := 104) dX7_copyFrom_104 rfl ?_
        refine ae_baload (pc := 105) (k := 77) (N := 16) (v := M.1 77 k) _ dX7_copyFrom_105 (Nat.le_of_ble_eq_true rfl) rfl rfl rfl (by omega) ((congrFun (ne 77 (by decide)) k).trans (congrFun (n2 77 (by omega)) k)) ?_
        refine ae_bastore (pc := 106) (k := 4) (N := 16) (k) dX7_copyFrom_106 (Nat.le_of_ble_eq_true rfl) rfl rfl rfl (by omega) rfl ?_
        refine ae_M (M' := (am_u N.1 4 (upd l k (vp_nar .boolean (M.1 77 k))), N.2)) (by show ((am_u (am_u N.1 4 l) 4 (upd (am_u N.1 4 l 4) k _), N.2) : am_M) = _; rw [am_u_u, am_u_self]) ?_
        refine ae_iinc (pc := 107) (v := nI (k + 1)) dX7_copyFrom_107 rfl (nI_inc k) ?_
        refine ae_goto (pc := 110) (t := 89) dX7_copyFrom_110 (by decide) ?_
        refine ih hk2 _ (fun q hq => ?_)
        by_cases hqk : q = k
        · subst hqk; exact upd_self _ _ _
        · rw [upd_ne _ _ hqk]; exact hl q (by omega)
    have := lp (N.1 4) (fun q hq => absurd hq (Nat.not_lt_zero q))
    rwa [am_u_eta] at this
  refine key _ rfl (fun k hk => ?_) ?_ (fun q hq => ?_) (fun q hq => ?_) (fun q hq => ?_)
  · have : k ≠ 1 ∧ k ≠ 2 ∧ k ≠ 3 ∧ k ≠ 5 := by omega
    simp [am_u, this.1, this.2.1, this.2.2.1, this.2.2.2]
  · simp [am_u, upd]
  · simp [am_u, va_cpy, hq]
  · simp [am_u, va_cpy, hq]
  · simp [am_u, va_cpy, hq]
theorem sc_copy_79_1 (d : Nat) (M : am_M) (h7 : M.1 1 7 = 0 ∨ M.1 1 7 = 1) : am_R (d + 1) zX7_copyFrom [.ref 79, .ref 1] M (fun v M' => v = none ∧ M'.2 = M.2 ∧ (∀ k, (k < 79 ∨ 83 < k) → M'.1 k = M.1 k) ∧ (M'.1 79 0 = M.1 1 0 ∧ M'.1 79 1 = M.1 1 1 ∧ M'.1 79 3 = M.1 1 3 ∧ M'.1 79 6 = M.1 1 6 ∧ M'.1 79 7 = M.1 1 7) ∧ (∀ q, q < 256 → M'.1 80 q = M.1 2 q) ∧ (∀ q, q < 256 → M'.1 83 q = M.1 5 q) ∧ (∀ q, q < 16 → M'.1 81 q = M.1 3 q) ∧ (∀ q, q < 16 → M'.1 82 q = vp_nar .boolean (M.1 4 q))) := by
  refine ae_enter (z := zX7_copyFrom) (y := yX7_copyFrom) (cc := cX7_copyFrom) (mL := 3) (rt := none) (ci := 7) (st := false) (np := 1) (L := [some (.ref 79), some (.ref 1), none]) rfl (by decide) (Nat.le_of_ble_eq_true rfl) rfl ?_
  refine ae_aload_n (pc := 0) dX7_copyFrom_0 rfl ?_
  refine ae_aload_n (pc := 1) dX7_copyFrom_1 rfl ?_
  refine ae_getI (pc := 2) (k := 1) (c := 7) (j := 0) dX7_copyFrom_2 rfl rfl (Or.inl rfl) (Nat.le_of_ble_eq_true rfl) rfl (Nat.le_of_ble_eq_true rfl) rfl ?_
  refine ae_putfield (pc := 5) (k := 79) (c := 7) (j := 0) dX7_copyFrom_5 rfl rfl (Nat.le_of_ble_eq_true rfl) rfl (Nat.le_of_ble_eq_true rfl) rfl rfl ?_
  refine ae_aload_n (pc := 8) dX7_copyFrom_8 rfl ?_
  refine ae_aload_n (pc := 9) dX7_copyFrom_9 rfl ?_
  refine ae_getI (pc := 10) (k := 1) (c := 7) (j := 1) dX7_copyFrom_10 rfl rfl (Or.inl rfl) (Nat.le_of_ble_eq_true rfl) rfl (Nat.le_of_ble_eq_true rfl) rfl ?_
  refine ae_putfield (pc := 13) (k := 79) (c := 7) (j := 1) dX7_copyFrom_13 rfl rfl (Nat.le_of_ble_eq_true rfl) rfl (Nat.le_of_ble_eq_true rfl) rfl rfl ?_
  refine ae_aload_n (pc := 16) dX7_copyFrom_16 rfl ?_
  refine ae_aload_n (pc := 17) dX7_copyFrom_17 rfl ?_
  refine ae_getI (pc := 18) (k := 1) (c := 7) (j := 3) dX7_copyFrom_18 rfl rfl (Or.inl rfl) (Nat.le_of_ble_eq_true rfl) rfl (Nat.le_of_ble_eq_true rfl) rfl ?_
  refine ae_putfield (pc := 21) (k := 79) (c := 7) (j := 3) dX7_copyFrom_21 rfl rfl (Nat.le_of_ble_eq_true rfl) rfl (Nat.le_of_ble_eq_true rfl) rfl rfl ?_
  refine ae_aload_n (pc := 24) dX7_copyFrom_24 rfl ?_
  refine ae_aload_n (pc := 25) dX7_copyFrom_25 rfl ?_
  refine ae_getI (pc := 26) (k := 1) (c := 7) (j := 6) dX7_copyFrom_26 rfl rfl (Or.inl rfl) (Nat.le_of_ble_eq_true rfl) rfl (Nat.le_of_ble_eq_true rfl) rfl ?_
  refine ae_putfield (pc := 29) (k := 79) (c := 7) (j := 6) dX7_copyFrom_29 rfl rfl (Nat.le_of_ble_eq_true rfl) rfl (Nat.le_of_ble_eq_true rfl) rfl rfl ?_
  refine ae_aload_n (pc := 32) dX7_copyFrom_32 rfl ?_
  refine ae_aload_n (pc := 33) dX7_copyFrom_33 rfl ?_
  refine ae_getI (pc := 34) (k := 1) (c := 7) (j := 7) dX7_copyFrom_34 rfl rfl (Or.inr rfl) (Nat.le_of_ble_eq_true rfl) rfl (Nat.le_of_ble_eq_true rfl) rfl ?_
  refine ae_putfieldZ (pc := 37) (k := 79) (c := 7) (j := 7) dX7_copyFrom_37 rfl rfl (Nat.le_of_ble_eq_true rfl) rfl (Nat.le_of_ble_eq_true rfl) rfl h7 ?_
  refine ae_aload_n (pc := 40) dX7_copyFrom_40 rfl ?_
  refine ae_getR (pc := 41) (k := 1) (c := 7) (j := 2) (q := 2) dX7_copyFrom_41 rfl rfl (Nat.le_of_ble_eq_true rfl) rfl (Nat.le_of_ble_eq_true rfl) rfl ?_
  refine ae_iconst (pc := 44) (v := nI 0) dX7_copyFrom_44 (by decide) ?_
  refine ae_aload_n (pc := 45) dX7_copyFrom_45 rfl ?_
  refine ae_getR (pc := 46) (k := 79) (c := 7) (j := 2) (q := 80) dX7_copyFrom_46 rfl rfl (Nat.le_of_ble_eq_true rfl) rfl (Nat.le_of_ble_eq_true rfl) rfl ?_
  refine ae_iconst (pc := 49) (v := nI 0) dX7_copyFrom_49 (by decide) ?_
  refine ae_sipush (pc := 50) (v := nI 256) dX7_copyFrom_50 (by decide) ?_
  refine ae_copy (pc := 53) (s0 := 2) (d0 := 80) 0 0 256 dX7_copyFrom_53 (Or.inl ⟨rfl, rfl⟩) (by decide) (by decide) rfl rfl rfl rfl rfl rfl rfl (Nat.le_of_ble_eq_true rfl) (Nat.le_of_ble_eq_true rfl) (Nat.le_of_ble_eq_true rfl) ?_
  refine ae_aload_n (pc := 56) dX7_copyFrom_56 rfl ?_
  refine ae_getR (pc := 57) (k := 1) (c := 7) (j := 8) (q := 5) dX7_copyFrom_57 rfl rfl (Nat.le_of_ble_eq_true rfl) rfl (Nat.le_of_ble_eq_true rfl) rfl ?_
  refine ae_iconst (pc := 60) (v := nI 0) dX7_copyFrom_60 (by decide) ?_
  refine ae_aload_n (pc := 61) dX7_copyFrom_61 rfl ?_
  refine ae_getR (pc := 62) (k := 79) (c := 7) (j := 8) (q := 83) dX7_copyFrom_62 rfl rfl (Nat.le_of_ble_eq_true rfl) rfl (Nat.le_of_ble_eq_true rfl) rfl ?_
  refine ae_iconst (pc := 65) (v := nI 0) dX7_copyFrom_65 (by decide) ?_
  refine ae_sipush (pc := 66) (v := nI 256) dX7_copyFrom_66 (by decide) ?_
  refine ae_copy (pc := 69) (s0 := 5) (d0 := 83) 0 0 256 dX7_copyFrom_69 (Or.inl ⟨rfl, rfl⟩) (by decide) (by decide) rfl rfl rfl rfl rfl rfl rfl (Nat.le_of_ble_eq_true rfl) (Nat.le_of_ble_eq_true rfl) (Nat.le_of_ble_eq_true rfl) ?_
  refine ae_aload_n (pc := 72) dX7_copyFrom_72 rfl ?_
  refine ae_getR (pc := 73) (k := 1) (c := 7) (j := 4) (q := 3) dX7_copyFrom_73 rfl rfl (Nat.le_of_ble_eq_true rfl) rfl (Nat.le_of_ble_eq_true rfl) rfl ?_
  refine ae_iconst (pc := 76) (v := nI 0) dX7_copyFrom_76 (by decide) ?_
  refine ae_aload_n (pc := 77) dX7_copyFrom_77 rfl ?_
  refine ae_getR (pc := 78) (k := 79) (c := 7) (j := 4) (q := 81) dX7_copyFrom_78 rfl rfl (Nat.le_of_ble_eq_true rfl) rfl (Nat.le_of_ble_eq_true rfl) rfl ?_
  refine ae_iconst (pc := 81) (v := nI 0) dX7_copyFrom_81 (by decide) ?_
  refine ae_bipush (pc := 82) (v := nI 16) dX7_copyFrom_82 (by decide) ?_
  refine ae_copy (pc := 84) (s0 := 3) (d0 := 81) 0 0 16 dX7_copyFrom_84 (Or.inl ⟨rfl, rfl⟩) (by decide) (by decide) rfl rfl rfl rfl rfl rfl rfl (Nat.le_of_ble_eq_true rfl) (Nat.le_of_ble_eq_true rfl) (Nat.le_of_ble_eq_true rfl) ?_
  refine ae_iconst (pc := 87) (v := nI 0) dX7_copyFrom_87 (by decide) ?_
  refine ae_istore_n (pc := 88) dX7_copyFrom_88 rfl (Nat.le_of_ble_eq_true rfl) ?_
  skip
  have key : ∀ N : am_M, N.2 = M.2 → (∀ k, (k < 79 ∨ 83 < k) → N.1 k = M.1 k) → (N.1 79 0 = M.1 1 0 ∧ N.1 79 1 = M.1 1 1 ∧ N.1 79 3 = M.1 1 3 ∧ N.1 79 6 = M.1 1 6 ∧ N.1 79 7 = M.1 1 7) → (∀ q, q < 256 → N.1 80 q = M.1 2 q) → (∀ q, q < 256 → N.1 83 q = M.1 5 q) → (∀ q, q < 16 → N.1 81 q = M.1 3 q) → am_E none (am_R d) cX7_copyFrom 7 none (fun v M' => v = none ∧ M'.2 = M.2 ∧ (∀ k, (k < 79 ∨ 83 < k) → M'.1 k = M.1 k) ∧ (M'.1 79 0 = M.1 1 0 ∧ M'.1 79 1 = M.1 1 1 ∧ M'.1 79 3 = M.1 1 3 ∧ M'.1 79 6 = M.1 1 6 ∧ M'.1 79 7 = M.1 1 7) ∧ (∀ q, q < 256 → M'.1 80 q = M.1 2 q) ∧ (∀ q, q < 256 → M'.1 83 q = M.1 5 q) ∧ (∀ q, q < 16 → M'.1 81 q = M.1 3 q) ∧ (∀ q, q < 16 → M'.1 82 q = vp_nar .boolean (M.1 4 q))) (89, [some (.ref 79), some (.ref 1), some (.int (nI 0))], [], N) := by
    intro N n1 n2 n3 n4 n5 n6
    have lp : ∀ l : fT, (∀ q, q < 0 → l q = vp_nar .boolean (M.1 4 q)) → am_E none (am_R d) cX7_copyFrom 7 none (fun v M' => v = none ∧ M'.2 = M.2 ∧ (∀ k, (k < 79 ∨ 83 < k) → M'.1 k = M.1 k) ∧ (M'.1 79 0 = M.1 1 0 ∧ M'.1 79 1 = M.1 1 1 ∧ M'.1 79 3 = M.1 1 3 ∧ M'.1 79 6 = M.1 1 6 ∧ M'.1 79 7 = M.1 1 7) ∧ (∀ q, q < 256 → M'.1 80 q = M.1 2 q) ∧ (∀ q, q < 256 → M'.1 83 q = M.1 5 q) ∧ (∀ q, q < 16 → M'.1 81 q = M.1 3 q) ∧ (∀ q, q < 16 → M'.1 82 q = vp_nar .boolean (M.1 4 q))) (89, [some (.ref 79), some (.ref 1), some (.int (nI 0))], [], (am_u N.1 82 l, N.2)) := by
      refine am_down (P := fun k => ∀ l : fT, (∀ q, q < k → l q = vp_nar .boolean (M.1 4 q)) → am_E none (am_R d) cX7_copyFrom 7 none _ (89, [some (.ref 79), some (.ref 1), some (.int (nI k))], [], (am_u N.1 82 l, N.2))) 16 (fun k hk ih l hl => ?_)
      have ne : ∀ k, k ≠ 82 → (am_u N.1 82 l) k = N.1 k := fun k hk => am_u_ne _ _ hk
      refine ae_iload_n (pc := 89) dX7_copyFrom_89 rfl ?_
      refine ae_bipush (pc := 90) (v := nI 16) dX7_copyFrom_90 (by decide) ?_
      refine ae_icmp_ge (pc := 92) (t := 113) dX7_copyFrom_92 (by decide) (fun c92 => ?_) (fun c92 => ?_)
      · have hk2 : k = 16 := by rw [nI_leI (by omega) (by omega)] at c92; omega
        subst hk2
        refine ae_return (pc := 113) dX7_copyFrom_113 rfl ?_
        exact ⟨rfl, n1, fun k hk => (ne k (by omega)).trans (n2 k hk), ⟨(congrFun (ne 79 (by decide)) 0).trans n3.1, (congrFun (ne 79 (by decide)) 1).trans n3.2.1, (congrFun (ne 79 (by decide)) 3).trans n3.2.2.1, (congrFun (ne 79 (by decide)) 6).trans n3.2.2.2.1, (congrFun (ne 79 (by decide)) 7).trans n3.2.2.2.2⟩, fun q hq => (congrFun (ne 80 (by decide)) q).trans (n4 q hq), fun q hq => (congrFun (ne 83 (by decide)) q).trans (n5 q hq), fun q hq => (congrFun (ne 81 (by decide)) q).trans (n6 q hq), fun q hq => (congrFun (am_u_self N.1 82 l) q).trans (hl q hq)⟩
      · have hk2 : k < 16 := by rw [nI_leI (by omega) (by omega)] at c92; omega
        refine ae_aload_n (pc := 95) dX7_copyFrom_95 rfl ?_
        refine ae_getR (pc := 96) (k := 79) (c := 7) (j := 5) (q := 82) dX7_copyFrom_96 rfl rfl (Nat.le_of_ble_eq_true rfl) rfl (Nat.le_of_ble_eq_true rfl) rfl ?_
        refine ae_iload_n (pc := 99) dX7_copyFrom_99 rfl ?_
        refine ae_aload_n (pc := 100) dX7_copyFrom_100 rfl ?_
        refine ae_getR (pc := 101) (k := 1) (c := 7) (j := 5) (q := 4) dX7_copyFrom_101 rfl rfl (Nat.le_of_ble_eq_true rfl) rfl (Nat.le_of_ble_eq_true rfl) rfl ?_
        refine ae_iload_n (pc := 104) dX7_copyFrom_104 rfl ?_
        refine ae_baload (pc := 105) (k := 4) (N := 16) (v := M.1 4 k) _ dX7_copyFrom_105 (Nat.le_of_ble_eq_true rfl) rfl rfl rfl (by omega) ((congrFun (ne 4 (by decide)) k).trans (congrFun (n2 4 (by omega)) k)) ?_
        refine ae_bastore (pc := 106) (k := 82) (N := 16) (k) dX7_copyFrom_106 (Nat.le_of_ble_eq_true rfl) rfl rfl rfl (by omega) rfl ?_
        refine ae_M (M' := (am_u N.1 82 (upd l k (vp_nar .boolean (M.1 4 k))), N.2)) (by show ((am_u (am_u N.1 82 l) 82 (upd (am_u N.1 82 l 82) k _), N.2) : am_M) = _; rw [am_u_u, am_u_self]) ?_
        refine ae_iinc (pc := 107) (v := nI (k + 1)) dX7_copyFrom_107 rfl (nI_inc k) ?_
        refine ae_goto (pc := 110) (t := 89) dX7_copyFrom_110 (by decide) ?_
        refine ih hk2 _ (fun q hq => ?_)
        by_cases hqk : q = k
        · subst hqk; exact upd_self _ _ _
        · rw [upd_ne _ _ hqk]; exact hl q (by omega)
    have := lp (N.1 82) (fun q hq => absurd hq (Nat.not_lt_zero q))
    rwa [am_u_eta] at this
  refine key _ rfl (fun k hk => ?_) ?_ (fun q hq => ?_) (fun q hq => ?_) (fun q hq => ?_)
  · have : k ≠ 79 ∧ k ≠ 80 ∧ k ≠ 81 ∧ k ≠ 83 := by omega
    simp [am_u, this.1, this.2.1, this.2.2.1, this.2.2.2]
  · simp [am_u, upd]
  · simp [am_u, va_cpy, hq]
  · simp [am_u, va_cpy, hq]
  · simp [am_u, va_cpy, hq]
theorem sc_copy_1_79 (d : Nat) (M : am_M) (h7 : M.1 79 7 = 0 ∨ M.1 79 7 = 1) : am_R (d + 1) zX7_copyFrom [.ref 1, .ref 79] M (fun v M' => v = none ∧ M'.2 = M.2 ∧ (∀ k, (k < 1 ∨ 5 < k) → M'.1 k = M.1 k) ∧ (M'.1 1 0 = M.1 79 0 ∧ M'.1 1 1 = M.1 79 1 ∧ M'.1 1 3 = M.1 79 3 ∧ M'.1 1 6 = M.1 79 6 ∧ M'.1 1 7 = M.1 79 7) ∧ (∀ q, q < 256 → M'.1 2 q = M.1 80 q) ∧ (∀ q, q < 256 → M'.1 5 q = M.1 83 q) ∧ (∀ q, q < 16 → M'.1 3 q = M.1 81 q) ∧ (∀ q, q < 16 → M'.1 4 q = vp_nar .boolean (M.1 82 q))) := by
  refine ae_enter (z := zX7_copyFrom) (y := yX7_copyFrom) (cc := cX7_copyFrom) (mL := 3) (rt := none) (ci := 7) (st := false) (np := 1) (L := [some (.ref 1), some (.ref 79), none]) rfl (by decide) (Nat.le_of_ble_eq_true rfl) rfl ?_
  refine ae_aload_n (pc := 0) dX7_copyFrom_0 rfl ?_
  refine ae_aload_n (pc := 1) dX7_copyFrom_1 rfl ?_
  refine ae_getI (pc := 2) (k := 79) (c := 7) (j := 0) dX7_copyFrom_2 rfl rfl (Or.inl rfl) (Nat.le_of_ble_eq_true rfl) rfl (Nat.le_of_ble_eq_true rfl) rfl ?_
  refine ae_putfield (pc := 5) (k := 1) (c := 7) (j := 0) dX7_copyFrom_5 rfl rfl (Nat.le_of_ble_eq_true rfl) rfl (Nat.le_of_ble_eq_true rfl) rfl rfl ?_
  refine ae_aload_n (pc := 8) dX7_copyFrom_8 rfl ?_
  refine ae_aload_n (pc := 9) dX7_copyFrom_9 rfl ?_
  refine ae_getI (pc := 10) (k := 79) (c := 7) (j := 1) dX7_copyFrom_10 rfl rfl (Or.inl rfl) (Nat.le_of_ble_eq_true rfl) rfl (Nat.le_of_ble_eq_true rfl) rfl ?_
  refine ae_putfield (pc := 13) (k := 1) (c := 7) (j := 1) dX7_copyFrom_13 rfl rfl (Nat.le_of_ble_eq_true rfl) rfl (Nat.le_of_ble_eq_true rfl) rfl rfl ?_
  refine ae_aload_n (pc := 16) dX7_copyFrom_16 rfl ?_
  refine ae_aload_n (pc := 17) dX7_copyFrom_17 rfl ?_
  refine ae_getI (pc := 18) (k := 79) (c := 7) (j := 3) dX7_copyFrom_18 rfl rfl (Or.inl rfl) (Nat.le_of_ble_eq_true rfl) rfl (Nat.le_of_ble_eq_true rfl) rfl ?_
  refine ae_putfield (pc := 21) (k := 1) (c := 7) (j := 3) dX7_copyFrom_21 rfl rfl (Nat.le_of_ble_eq_true rfl) rfl (Nat.le_of_ble_eq_true rfl) rfl rfl ?_
  refine ae_aload_n (pc := 24) dX7_copyFrom_24 rfl ?_
  refine ae_aload_n (pc := 25) dX7_copyFrom_25 rfl ?_
  refine ae_getI (pc := 26) (k := 79) (c := 7) (j := 6) dX7_copyFrom_26 rfl rfl (Or.inl rfl) (Nat.le_of_ble_eq_true rfl) rfl (Nat.le_of_ble_eq_true rfl) rfl ?_
  refine ae_putfield (pc := 29) (k := 1) (c := 7) (j := 6) dX7_copyFrom_29 rfl rfl (Nat.le_of_ble_eq_true rfl) rfl (Nat.le_of_ble_eq_true rfl) rfl rfl ?_
  refine ae_aload_n (pc := 32) dX7_copyFrom_32 rfl ?_
  refine ae_aload_n (pc := 33) dX7_copyFrom_33 rfl ?_
  refine ae_getI (pc := 34) (k := 79) (c := 7) (j := 7) dX7_copyFrom_34 rfl rfl (Or.inr rfl) (Nat.le_of_ble_eq_true rfl) rfl (Nat.le_of_ble_eq_true rfl) rfl ?_
  refine ae_putfieldZ (pc := 37) (k := 1) (c := 7) (j := 7) dX7_copyFrom_37 rfl rfl (Nat.le_of_ble_eq_true rfl) rfl (Nat.le_of_ble_eq_true rfl) rfl h7 ?_
  refine ae_aload_n (pc := 40) dX7_copyFrom_40 rfl ?_
  refine ae_getR (pc := 41) (k := 79) (c := 7) (j := 2) (q := 80) dX7_copyFrom_41 rfl rfl (Nat.le_of_ble_eq_true rfl) rfl (Nat.le_of_ble_eq_true rfl) rfl ?_
  refine ae_iconst (pc := 44) (v := nI 0) dX7_copyFrom_44 (by decide) ?_
  refine ae_aload_n (pc := 45) dX7_copyFrom_45 rfl ?_
  refine ae_getR (pc := 46) (k := 1) (c := 7) (j := 2) (q := 2) dX7_copyFrom_46 rfl rfl (Nat.le_of_ble_eq_true rfl) rfl (Nat.le_of_ble_eq_true rfl) rfl ?_
  refine ae_iconst (pc := 49) (v := nI 0) dX7_copyFrom_49 (by decide) ?_
  refine ae_sipush (pc := 50) (v := nI 256) dX7_copyFrom_50 (by decide) ?_
  refine ae_copy (pc := 53) (s0 := 80) (d0 := 2) 0 0 256 dX7_copyFrom_53 (Or.inl ⟨rfl, rfl⟩) (by decide) (by decide) rfl rfl rfl rfl rfl rfl rfl (Nat.le_of_ble_eq_true rfl) (Nat.le_of_ble_eq_true rfl) (Nat.le_of_ble_eq_true rfl) ?_
  refine ae_aload_n (pc := 56) dX7_copyFrom_56 rfl ?_
  refine ae_getR (pc := 57) (k := 79) (c := 7) (j := 8) (q := 83) dX7_copyFrom_57 rfl rfl (Nat.le_of_ble_eq_true rfl) rfl (Nat.le_of_ble_eq_true rfl) rfl ?_
  refine ae_iconst (pc := 60) (v := nI 0) dX7_copyFrom_60 (by decide) ?_
  refine ae_aload_n (pc := 61) dX7_copyFrom_61 rfl ?_
  refine ae_getR (pc := 62) (k := 1) (c := 7) (j := 8) (q := 5) dX7_copyFrom_62 rfl rfl (Nat.le_of_ble_eq_true rfl) rfl (Nat.le_of_ble_eq_true rfl) rfl ?_
  refine ae_iconst (pc := 65) (v := nI 0) dX7_copyFrom_65 (by decide) ?_
  refine ae_sipush (pc := 66) (v := nI 256) dX7_copyFrom_66 (by decide) ?_
  refine ae_copy (pc := 69) (s0 := 83) (d0 := 5) 0 0 256 dX7_copyFrom_69 (Or.inl ⟨rfl, rfl⟩) (by decide) (by decide) rfl rfl rfl rfl rfl rfl rfl (Nat.le_of_ble_eq_true rfl) (Nat.le_of_ble_eq_true rfl) (Nat.le_of_ble_eq_true rfl) ?_
  refine ae_aload_n (pc := 72) dX7_copyFrom_72 rfl ?_
  refine ae_getR (pc := 73) (k := 79) (c := 7) (j := 4) (q := 81) dX7_copyFrom_73 rfl rfl (Nat.le_of_ble_eq_true rfl) rfl (Nat.le_of_ble_eq_true rfl) rfl ?_
  refine ae_iconst (pc := 76) (v := nI 0) dX7_copyFrom_76 (by decide) ?_
  refine ae_aload_n (pc := 77) dX7_copyFrom_77 rfl ?_
  refine ae_getR (pc := 78) (k := 1) (c := 7) (j := 4) (q := 3) dX7_copyFrom_78 rfl rfl (Nat.le_of_ble_eq_true rfl) rfl (Nat.le_of_ble_eq_true rfl) rfl ?_
  refine ae_iconst (pc := 81) (v := nI 0) dX7_copyFrom_81 (by decide) ?_
  refine ae_bipush (pc := 82) (v := nI 16) dX7_copyFrom_82 (by decide) ?_
  refine ae_copy (pc := 84) (s0 := 81) (d0 := 3) 0 0 16 dX7_copyFrom_84 (Or.inl ⟨rfl, rfl⟩) (by decide) (by decide) rfl rfl rfl rfl rfl rfl rfl (Nat.le_of_ble_eq_true rfl) (Nat.le_of_ble_eq_true rfl) (Nat.le_of_ble_eq_true rfl) ?_
  refine ae_iconst (pc := 87) (v := nI 0) dX7_copyFrom_87 (by decide) ?_
  refine ae_istore_n (pc := 88) dX7_copyFrom_88 rfl (Nat.le_of_ble_eq_true rfl) ?_
  skip
  have key : ∀ N : am_M, N.2 = M.2 → (∀ k, (k < 1 ∨ 5 < k) → N.1 k = M.1 k) → (N.1 1 0 = M.1 79 0 ∧ N.1 1 1 = M.1 79 1 ∧ N.1 1 3 = M.1 79 3 ∧ N.1 1 6 = M.1 79 6 ∧ N.1 1 7 = M.1 79 7) → (∀ q, q < 256 → N.1 2 q = M.1 80 q) → (∀ q, q < 256 → N.1 5 q = M.1 83 q) → (∀ q, q < 16 → N.1 3 q = M.1 81 q) → am_E none (am_R d) cX7_copyFrom 7 none (fun v M' => v = none ∧ M'.2 = M.2 ∧ (∀ k, (k < 1 ∨ 5 < k) → M'.1 k = M.1 k) ∧ (M'.1 1 0 = M.1 79 0 ∧ M'.1 1 1 = M.1 79 1 ∧ M'.1 1 3 = M.1 79 3 ∧ M'.1 1 6 = M.1 79 6 ∧ M'.1 1 7 = M.1 79 7) ∧ (∀ q, q < 256 → M'.1 2 q = M.1 80 q) ∧ (∀ q, q < 256 → M'.1 5 q = M.1 83 q) ∧ (∀ q, q < 16 → M'.1 3 q = M.1 81 q) ∧ (∀ q, q < 16 → M'.1 4 q = vp_nar .boolean (M.1 82 q))) (89, [some (.ref 1), some (.ref 79), some (.int (nI 0))], [], N) := by
    intro N n1 n2 n3 n4 n5 n6
    have lp : ∀ l : fT, (∀ q, q < 0 → l q = vp_nar .boolean (M.1 82 q)) → am_E none (am_R d) cX7_copyFrom 7 none (fun v M' => v = none ∧ M'.2 = M.2 ∧ (∀ k, (k < 1 ∨ 5 < k) → M'.1 k = M.1 k) ∧ (M'.1 1 0 = M.1 79 0 ∧ M'.1 1 1 = M.1 79 1 ∧ M'.1 1 3 = M.1 79 3 ∧ M'.1 1 6 = M.1 79 6 ∧ M'.1 1 7 = M.1 79 7) ∧ (∀ q, q < 256 → M'.1 2 q = M.1 80 q) ∧ (∀ q, q < 256 → M'.1 5 q = M.1 83 q) ∧ (∀ q, q < 16 → M'.1 3 q = M.1 81 q) ∧ (∀ q, q < 16 → M'.1 4 q = vp_nar .boolean (M.1 82 q))) (89, [some (.ref 1), some (.ref 79), some (.int (nI 0))], [], (am_u N.1 4 l, N.2)) := by
      refine am_down (P := fun k => ∀ l : fT, (∀ q, q < k → l q = vp_nar .boolean (M.1 82 q)) → am_E none (am_R d) cX7_copyFrom 7 none _ (89, [some (.ref 1), some (.ref 79), some (.int (nI k))], [], (am_u N.1 4 l, N.2))) 16 (fun k hk ih l hl => ?_)
      have ne : ∀ k, k ≠ 4 → (am_u N.1 4 l) k = N.1 k := fun k hk => am_u_ne _ _ hk
      refine ae_iload_n (pc := 89) dX7_copyFrom_89 rfl ?_
      refine ae_bipush (pc := 90) (v := nI 16) dX7_copyFrom_90 (by decide) ?_
      refine ae_icmp_ge (pc := 92) (t := 113) dX7_copyFrom_92 (by decide) (fun c92 => ?_) (fun c92 => ?_)
      · have hk2 : k = 16 := by rw [nI_leI (by omega) (by omega)] at c92; omega
        subst hk2
        refine ae_return (pc := 113) dX7_copyFrom_113 rfl ?_
        exact ⟨rfl, n1, fun k hk => (ne k (by omega)).trans (n2 k hk), ⟨(congrFun (ne 1 (by decide)) 0).trans n3.1, (congrFun (ne 1 (by decide)) 1).trans n3.2.1, (congrFun (ne 1 (by decide)) 3).trans n3.2.2.1, (congrFun (ne 1 (by decide)) 6).trans n3.2.2.2.1, (congrFun (ne 1 (by decide)) 7).trans n3.2.2.2.2⟩, fun q hq => (congrFun (ne 2 (by decide)) q).trans (n4 q hq), fun q hq => (congrFun (ne 5 (by decide)) q).trans (n5 q hq), fun q hq => (congrFun (ne 3 (by decide)) q).trans (n6 q hq), fun q hq => (congrFun (am_u_self N.1 4 l) q).trans (hl q hq)⟩
      · have hk2 : k < 16 := by rw [nI_leI (by omega) (by omega)] at c92; omega
        refine ae_aload_n (pc := 95) dX7_copyFrom_95 rfl ?_
        refine ae_getR (pc := 96) (k := 1) (c := 7) (j := 5) (q := 4) dX7_copyFrom_96 rfl rfl (Nat.le_of_ble_eq_true rfl) rfl (Nat.le_of_ble_eq_true rfl) rfl ?_
        refine ae_iload_n (pc := 99) dX7_copyFrom_99 rfl ?_
        refine ae_aload_n (pc := 100) dX7_copyFrom_100 rfl ?_
        refine ae_getR (pc := 101) (k := 79) (c := 7) (j := 5) (q := 82) dX7_copyFrom_101 rfl rfl (Nat.le_of_ble_eq_true rfl) rfl (Nat.le_of_ble_eq_true rfl) rfl ?_
        refine ae_iload_n (pc := 104) dX7_copyFrom_104 rfl ?_
        refine ae_baload (pc := 105) (k := 82) (N := 16) (v := M.1 82 k) _ dX7_copyFrom_105 (Nat.le_of_ble_eq_true rfl) rfl rfl rfl (by omega) ((congrFun (ne 82 (by decide)) k).trans (congrFun (n2 82 (by omega)) k)) ?_
        refine ae_bastore (pc := 106) (k := 4) (N := 16) (k) dX7_copyFrom_106 (Nat.le_of_ble_eq_true rfl) rfl rfl rfl (by omega) rfl ?_
        refine ae_M (M' := (am_u N.1 4 (upd l k (vp_nar .boolean (M.1 82 k))), N.2)) (by show ((am_u (am_u N.1 4 l) 4 (upd (am_u N.1 4 l 4) k _), N.2) : am_M) = _; rw [am_u_u, am_u_self]) ?_
        refine ae_iinc (pc := 107) (v := nI (k + 1)) dX7_copyFrom_107 rfl (nI_inc k) ?_
        refine ae_goto (pc := 110) (t := 89) dX7_copyFrom_110 (by decide) ?_
        refine ih hk2 _ (fun q hq => ?_)
        by_cases hqk : q = k
        · subst hqk; exact upd_self _ _ _
        · rw [upd_ne _ _ hqk]; exact hl q (by omega)
    have := lp (N.1 4) (fun q hq => absurd hq (Nat.not_lt_zero q))
    rwa [am_u_eta] at this
  refine key _ rfl (fun k hk => ?_) ?_ (fun q hq => ?_) (fun q hq => ?_) (fun q hq => ?_)
  · have : k ≠ 1 ∧ k ≠ 2 ∧ k ≠ 3 ∧ k ≠ 5 := by omega
    simp [am_u, this.1, this.2.1, this.2.2.1, this.2.2.2]
  · simp [am_u, upd]
  · simp [am_u, va_cpy, hq]
  · simp [am_u, va_cpy, hq]
  · simp [am_u, va_cpy, hq]
theorem sc_copy_84_1 (d : Nat) (M : am_M) (h7 : M.1 1 7 = 0 ∨ M.1 1 7 = 1) : am_R (d + 1) zX7_copyFrom [.ref 84, .ref 1] M (fun v M' => v = none ∧ M'.2 = M.2 ∧ (∀ k, (k < 84 ∨ 88 < k) → M'.1 k = M.1 k) ∧ (M'.1 84 0 = M.1 1 0 ∧ M'.1 84 1 = M.1 1 1 ∧ M'.1 84 3 = M.1 1 3 ∧ M'.1 84 6 = M.1 1 6 ∧ M'.1 84 7 = M.1 1 7) ∧ (∀ q, q < 256 → M'.1 85 q = M.1 2 q) ∧ (∀ q, q < 256 → M'.1 88 q = M.1 5 q) ∧ (∀ q, q < 16 → M'.1 86 q = M.1 3 q) ∧ (∀ q, q < 16 → M'.1 87 q = vp_nar .boolean (M.1 4 q))) := by
  refine ae_enter (z := zX7_copyFrom) (y := yX7_copyFrom) (cc := cX7_copyFrom) (mL := 3) (rt := none) (ci := 7) (st := false) (np := 1) (L := [some (.ref 84), some (.ref 1), none]) rfl (by decide) (Nat.le_of_ble_eq_true rfl) rfl ?_
  refine ae_aload_n (pc := 0) dX7_copyFrom_0 rfl ?_
  refine ae_aload_n (pc := 1) dX7_copyFrom_1 rfl ?_
  refine ae_getI (pc := 2) (k := 1) (c := 7) (j := 0) dX7_copyFrom_2 rfl rfl (Or.inl rfl) (Nat.le_of_ble_eq_true rfl) rfl (Nat.le_of_ble_eq_true rfl) rfl ?_
  refine ae_putfield (pc := 5) (k := 84) (c := 7) (j := 0) dX7_copyFrom_5 rfl rfl (Nat.le_of_ble_eq_true rfl) rfl (Nat.le_of_ble_eq_true rfl) rfl rfl ?_
  refine ae_aload_n (pc := 8) dX7_copyFrom_8 rfl ?_
  refine ae_aload_n (pc := 9) dX7_copyFrom_9 rfl ?_
  refine ae_getI (pc := 10) (k := 1) (c := 7) (j := 1) dX7_copyFrom_10 rfl rfl (Or.inl rfl) (Nat.le_of_ble_eq_true rfl) rfl (Nat.le_of_ble_eq_true rfl) rfl ?_
  refine ae_putfield (pc := 13) (k := 84) (c := 7) (j := 1) dX7_copyFrom_13 rfl rfl (Nat.le_of_ble_eq_true rfl) rfl (Nat.le_of_ble_eq_true rfl) rfl rfl ?_
  refine ae_aload_n (pc := 16) dX7_copyFrom_16 rfl ?_
  refine ae_aload_n (pc := 17) dX7_copyFrom_17 rfl ?_
  refine ae_getI (pc := 18) (k := 1) (c := 7) (j := 3) dX7_copyFrom_18 rfl rfl (Or.inl rfl) (Nat.le_of_ble_eq_true rfl) rfl (Nat.le_of_ble_eq_true rfl) rfl ?_
  refine ae_putfield (pc := 21) (k := 84) (c := 7) (j := 3) dX7_copyFrom_21 rfl rfl (Nat.le_of_ble_eq_true rfl) rfl (Nat.le_of_ble_eq_true rfl) rfl rfl ?_
  refine ae_aload_n (pc := 24) dX7_copyFrom_24 rfl ?_
  refine ae_aload_n (pc := 25) dX7_copyFrom_25 rfl ?_
  refine ae_getI (pc := 26) (k := 1) (c := 7) (j := 6) dX7_copyFrom_26 rfl rfl (Or.inl rfl) (Nat.le_of_ble_eq_true rfl) rfl (Nat.le_of_ble_eq_true rfl) rfl ?_
  refine ae_putfield (pc := 29) (k := 84) (c := 7) (j := 6) dX7_copyFrom_29 rfl rfl (Nat.le_of_ble_eq_true rfl) rfl (Nat.le_of_ble_eq_true rfl) rfl rfl ?_
  refine ae_aload_n (pc := 32) dX7_copyFrom_32 rfl ?_
  refine ae_aload_n (pc := 33) dX7_copyFrom_33 rfl ?_
  refine ae_getI (pc := 34) (k := 1) (c := 7) (j := 7) dX7_copyFrom_34 rfl rfl (Or.inr rfl) (Nat.le_of_ble_eq_true rfl) rfl (Nat.le_of_ble_eq_true rfl) rfl ?_
  refine ae_putfieldZ (pc := 37) (k := 84) (c := 7) (j := 7) dX7_copyFrom_37 rfl rfl (Nat.le_of_ble_eq_true rfl) rfl (Nat.le_of_ble_eq_true rfl) rfl h7 ?_
  refine ae_aload_n (pc := 40) dX7_copyFrom_40 rfl ?_
  refine ae_getR (pc := 41) (k := 1) (c := 7) (j := 2) (q := 2) dX7_copyFrom_41 rfl rfl (Nat.le_of_ble_eq_true rfl) rfl (Nat.le_of_ble_eq_true rfl) rfl ?_
  refine ae_iconst (pc := 44) (v := nI 0) dX7_copyFrom_44 (by decide) ?_
  refine ae_aload_n (pc := 45) dX7_copyFrom_45 rfl ?_
  refine ae_getR (pc := 46) (k := 84) (c := 7) (j := 2) (q := 85) dX7_copyFrom_46 rfl rfl (Nat.le_of_ble_eq_true rfl) rfl (Nat.le_of_ble_eq_true rfl) rfl ?_
  refine ae_iconst (pc := 49) (v := nI 0) dX7_copyFrom_49 (by decide) ?_
  refine ae_sipush (pc := 50) (v := nI 256) dX7_copyFrom_50 (by decide) ?_
  refine ae_copy (pc := 53) (s0 := 2) (d0 := 85) 0 0 256 dX7_copyFrom_53 (Or.inl ⟨rfl, rfl⟩) (by decide) (by decide) rfl rfl rfl rfl rfl rfl rfl (Nat.le_of_ble_eq_true rfl) (Nat.le_of_ble_eq_true rfl) (Nat.le_of_ble_eq_true rfl) ?_
  refine ae_aload_n (pc := 56) dX7_copyFrom_56 rfl ?_
  refine ae_getR (pc := 57) (k := 1) (c := 7) (j := 8) (q := 5) dX7_copyFrom_57 rfl rfl (Nat.le_of_ble_eq_true rfl) rfl (Nat.le_of_ble_eq_true rfl) rfl ?_
  refine ae_iconst (pc := 60) (v := nI 0) dX7_copyFrom_60 (by decide) ?_
  refine ae_aload_n (pc := 61) dX7_copyFrom_61 rfl ?_
  refine ae_getR (pc := 62) (k := 84) (c := 7) (j := 8) (q := 88) dX7_copyFrom_62 rfl rfl (Nat.le_of_ble_eq_true rfl) rfl (Nat.le_of_ble_eq_true rfl) rfl ?_
  refine ae_iconst (pc := 65) (v := nI 0) dX7_copyFrom_65 (by decide) ?_
  refine ae_sipush (pc := 66) (v := nI 256) dX7_copyFrom_66 (by decide) ?_
  refine ae_copy (pc := 69) (s0 := 5) (d0 := 88) 0 0 256 dX7_copyFrom_69 (Or.inl ⟨rfl, rfl⟩) (by decide) (by decide) rfl rfl rfl rfl rfl rfl rfl (Nat.le_of_ble_eq_true rfl) (Nat.le_of_ble_eq_true rfl) (Nat.le_of_ble_eq_true rfl) ?_
  refine ae_aload_n (pc := 72) dX7_copyFrom_72 rfl ?_
  refine ae_getR (pc := 73) (k := 1) (c := 7) (j := 4) (q := 3) dX7_copyFrom_73 rfl rfl (Nat.le_of_ble_eq_true rfl) rfl (Nat.le_of_ble_eq_true rfl) rfl ?_
  refine ae_iconst (pc := 76) (v := nI 0) dX7_copyFrom_76 (by decide) ?_
  refine ae_aload_n (pc := 77) dX7_copyFrom_77 rfl ?_
  refine ae_getR (pc := 78) (k := 84) (c := 7) (j := 4) (q := 86) dX7_copyFrom_78 rfl rfl (Nat.le_of_ble_eq_true rfl) rfl (Nat.le_of_ble_eq_true rfl) rfl ?_
  refine ae_iconst (pc := 81) (v := nI 0) dX7_copyFrom_81 (by decide) ?_
  refine ae_bipush (pc := 82) (v := nI 16) dX7_copyFrom_82 (by decide) ?_
  refine ae_copy (pc := 84) (s0 := 3) (d0 := 86) 0 0 16 dX7_copyFrom_84 (Or.inl ⟨rfl, rfl⟩) (by decide) (by decide) rfl rfl rfl rfl rfl rfl rfl (Nat.le_of_ble_eq_true rfl) (Nat.le_of_ble_eq_true rfl) (Nat.le_of_ble_eq_true rfl) ?_
  refine ae_iconst (pc := 87) (v := nI 0) dX7_copyFrom_87 (by decide) ?_
  refine ae_istore_n (pc := 88) dX7_copyFrom_88 rfl (Nat.le_of_ble_eq_true rfl) ?_
  skip
  have key : ∀ N : am_M, N.2 = M.2 → (∀ k, (k < 84 ∨ 88 < k) → N.1 k = M.1 k) → (N.1 84 0 = M.1 1 0 ∧ N.1 84 1 = M.1 1 1 ∧ N.1 84 3 = M.1 1 3 ∧ N.1 84 6 = M.1 1 6 ∧ N.1 84 7 = M.1 1 7) → (∀ q, q < 256 → N.1 85 q = M.1 2 q) → (∀ q, q < 256 → N.1 88 q = M.1 5 q) → (∀ q, q < 16 → N.1 86 q = M.1 3 q) → am_E none (am_R d) cX7_copyFrom 7 none (fun v M' => v = none ∧ M'.2 = M.2 ∧ (∀ k, (k < 84 ∨ 88 < k) → M'.1 k = M.1 k) ∧ (M'.1 84 0 = M.1 1 0 ∧ M'.1 84 1 = M.1 1 1 ∧ M'.1 84 3 = M.1 1 3 ∧ M'.1 84 6 = M.1 1 6 ∧ M'.1 84 7 = M.1 1 7) ∧ (∀ q, q < 256 → M'.1 85 q = M.1 2 q) ∧ (∀ q, q < 256 → M'.1 88 q = M.1 5 q) ∧ (∀ q, q < 16 → M'.1 86 q = M.1 3 q) ∧ (∀ q, q < 16 → M'.1 87 q = vp_nar .boolean (M.1 4 q))) (89, [some (.ref 84), some (.ref 1), some (.int (nI 0))], [], N) := by
    intro N n1 n2 n3 n4 n5 n6
    have lp : ∀ l : fT, (∀ q, q < 0 → l q = vp_nar .boolean (M.1 4 q)) → am_E none (am_R d) cX7_copyFrom 7 none (fun v M' => v = none ∧ M'.2 = M.2 ∧ (∀ k, (k < 84 ∨ 88 < k) → M'.1 k = M.1 k) ∧ (M'.1 84 0 = M.1 1 0 ∧ M'.1 84 1 = M.1 1 1 ∧ M'.1 84 3 = M.1 1 3 ∧ M'.1 84 6 = M.1 1 6 ∧ M'.1 84 7 = M.1 1 7) ∧ (∀ q, q < 256 → M'.1 85 q = M.1 2 q) ∧ (∀ q, q < 256 → M'.1 88 q = M.1 5 q) ∧ (∀ q, q < 16 → M'.1 86 q = M.1 3 q) ∧ (∀ q, q < 16 → M'.1 87 q = vp_nar .boolean (M.1 4 q))) (89, [some (.ref 84), some (.ref 1), some (.int (nI 0))], [], (am_u N.1 87 l, N.2)) := by
      refine am_down (P := fun k => ∀ l : fT, (∀ q, q < k → l q = vp_nar .boolean (M.1 4 q)) → am_E none (am_R d) cX7_copyFrom 7 none _ (89, [some (.ref 84), some (.ref 1), some (.int (nI k))], [], (am_u N.1 87 l, N.2))) 16 (fun k hk ih l hl => ?_)
      have ne : ∀ k, k ≠ 87 → (am_u N.1 87 l) k = N.1 k := fun k hk => am_u_ne _ _ hk
      refine ae_iload_n (pc := 89) dX7_copyFrom_89 rfl ?_
      refine ae_bipush (pc := 90) (v := nI 16) dX7_copyFrom_90 (by decide) ?_
      refine ae_icmp_ge (pc := 92) (t := 113) dX7_copyFrom_92 (by decide) (fun c92 => ?_) (fun c92 => ?_)
      · have hk2 : k = 16 := by rw [nI_leI (by omega) (by omega)] at c92; omega
        subst hk2
        refine ae_return (pc := 113) dX7_copyFrom_113 rfl ?_
        exact ⟨rfl, n1, fun k hk => (ne k (by omega)).trans (n2 k hk), ⟨(congrFun (ne 84 (by decide)) 0).trans n3.1, (congrFun (ne 84 (by decide)) 1).trans n3.2.1, (congrFun (ne 84 (by decide)) 3).trans n3.2.2.1, (congrFun (ne 84 (by decide)) 6).trans n3.2.2.2.1, (congrFun (ne 84 (by decide)) 7).trans n3.2.2.2.2⟩, fun q hq => (congrFun (ne 85 (by decide)) q).trans (n4 q hq), fun q hq => (congrFun (ne 88 (by decide)) q).trans (n5 q hq), fun q hq => (congrFun (ne 86 (by decide)) q).trans (n6 q hq), fun q hq => (congrFun (am_u_self N.1 87 l) q).trans (hl q hq)⟩
      · have hk2 : k < 16 := by rw [nI_leI (by omega) (by omega)] at c92; omega
        refine ae_aload_n (pc := 95) dX7_copyFrom_95 rfl ?_
        refine ae_getR (pc := 96) (k := 84) (c := 7) (j := 5) (q := 87) dX7_copyFrom_96 rfl rfl (Nat.le_of_ble_eq_true rfl) rfl (Nat.le_of_ble_eq_true rfl) rfl ?_
        refine ae_iload_n (pc := 99) dX7_copyFrom_99 rfl ?_
        refine ae_aload_n (pc := 100) dX7_copyFrom_100 rfl ?_
        refine ae_getR (pc := 101) (k := 1) (c := 7) (j := 5) (q := 4) dX7_copyFrom_101 rfl rfl (Nat.le_of_ble_eq_true rfl) rfl (Nat.le_of_ble_eq_true rfl) rfl ?_
        refine ae_iload_n (pc := 104) dX7_copyFrom_104 rfl ?_
        refine ae_baload (pc := 105) (k := 4) (N := 16) (v := M.1 4 k) _ dX7_copyFrom_105 (Nat.le_of_ble_eq_true rfl) rfl rfl rfl (by omega) ((congrFun (ne 4 (by decide)) k).trans (congrFun (n2 4 (by omega)) k)) ?_
        refine ae_bastore (pc := 106) (k := 87) (N := 16) (k) dX7_copyFrom_106 (Nat.le_of_ble_eq_true rfl) rfl rfl rfl (by omega) rfl ?_
        refine ae_M (M' := (am_u N.1 87 (upd l k (vp_nar .boolean (M.1 4 k))), N.2)) (by show ((am_u (am_u N.1 87 l) 87 (upd (am_u N.1 87 l 87) k _), N.2) : am_M) = _; rw [am_u_u, am_u_self]) ?_
        refine ae_iinc (pc := 107) (v := nI (k + 1)) dX7_copyFrom_107 rfl (nI_inc k) ?_
        refine ae_goto (pc := 110) (t := 89) dX7_copyFrom_110 (by decide) ?_
        refine ih hk2 _ (fun q hq => ?_)
        by_cases hqk : q = k
        · subst hqk; exact upd_self _ _ _
        · rw [upd_ne _ _ hqk]; exact hl q (by omega)
    have := lp (N.1 87) (fun q hq => absurd hq (Nat.not_lt_zero q))
    rwa [am_u_eta] at this
  refine key _ rfl (fun k hk => ?_) ?_ (fun q hq => ?_) (fun q hq => ?_) (fun q hq => ?_)
  · have : k ≠ 84 ∧ k ≠ 85 ∧ k ≠ 86 ∧ k ≠ 88 := by omega
    simp [am_u, this.1, this.2.1, this.2.2.1, this.2.2.2]
  · simp [am_u, upd]
  · simp [am_u, va_cpy, hq]
  · simp [am_u, va_cpy, hq]
  · simp [am_u, va_cpy, hq]
theorem sc_copy_1_84 (d : Nat) (M : am_M) (h7 : M.1 84 7 = 0 ∨ M.1 84 7 = 1) : am_R (d + 1) zX7_copyFrom [.ref 1, .ref 84] M (fun v M' => v = none ∧ M'.2 = M.2 ∧ (∀ k, (k < 1 ∨ 5 < k) → M'.1 k = M.1 k) ∧ (M'.1 1 0 = M.1 84 0 ∧ M'.1 1 1 = M.1 84 1 ∧ M'.1 1 3 = M.1 84 3 ∧ M'.1 1 6 = M.1 84 6 ∧ M'.1 1 7 = M.1 84 7) ∧ (∀ q, q < 256 → M'.1 2 q = M.1 85 q) ∧ (∀ q, q < 256 → M'.1 5 q = M.1 88 q) ∧ (∀ q, q < 16 → M'.1 3 q = M.1 86 q) ∧ (∀ q, q < 16 → M'.1 4 q = vp_nar .boolean (M.1 87 q))) := by
  refine ae_enter (z := zX7_copyFrom) (y := yX7_copyFrom) (cc := cX7_copyFrom) (mL := 3) (rt := none) (ci := 7) (st := false) (np := 1) (L := [some (.ref 1), some (.ref 84), none]) rfl (by decide) (Nat.le_of_ble_eq_true rfl) rfl ?_
  refine ae_aload_n (pc := 0) dX7_copyFrom_0 rfl ?_
  refine ae_aload_n (pc := 1) dX7_copyFrom_1 rfl ?_
  refine ae_getI (pc := 2) (k := 84) (c := 7) (j := 0) dX7_copyFrom_2 rfl rfl (Or.inl rfl) (Nat.le_of_ble_eq_true rfl) rfl (Nat.le_of_ble_eq_true rfl) rfl ?_
  refine ae_putfield (pc := 5) (k := 1) (c := 7) (j := 0) dX7_copyFrom_5 rfl rfl (Nat.le_of_ble_eq_true rfl) rfl (Nat.le_of_ble_eq_true rfl) rfl rfl ?_
  refine ae_aload_n (pc := 8) dX7_copyFrom_8 rfl ?_
  refine ae_aload_n (pc := 9) dX7_copyFrom_9 rfl ?_
  refine ae_getI (pc := 10) (k := 84) (c := 7) (j := 1) dX7_copyFrom_10 rfl rfl (Or.inl rfl) (Nat.le_of_ble_eq_true rfl) rfl (Nat.le_of_ble_eq_true rfl) rfl ?_
  refine ae_putfield (pc := 13) (k := 1) (c := 7) (j := 1) dX7_copyFrom_13 rfl rfl (Nat.le_of_ble_eq_true rfl) rfl (Nat.le_of_ble_eq_true rfl) rfl rfl ?_
  refine ae_aload_n (pc := 16) dX7_copyFrom_16 rfl ?_
  refine ae_aload_n (pc := 17) dX7_copyFrom_17 rfl ?_
  refine ae_getI (pc := 18) (k := 84) (c := 7) (j := 3) dX7_copyFrom_18 rfl rfl (Or.inl rfl) (Nat.le_of_ble_eq_true rfl) rfl (Nat.le_of_ble_eq_true rfl) rfl ?_
  refine ae_putfield (pc := 21) (k := 1) (c := 7) (j := 3) dX7_copyFrom_21 rfl rfl (Nat.le_of_ble_eq_true rfl) rfl (Nat.le_of_ble_eq_true rfl) rfl rfl ?_
  refine ae_aload_n (pc := 24) dX7_copyFrom_24 rfl ?_
  refine ae_aload_n (pc := 25) dX7_copyFrom_25 rfl ?_
  refine ae_getI (pc := 26) (k := 84) (c := 7) (j := 6) dX7_copyFrom_26 rfl rfl (Or.inl rfl) (Nat.le_of_ble_eq_true rfl) rfl (Nat.le_of_ble_eq_true rfl) rfl ?_
  refine ae_putfield (pc := 29) (k := 1) (c := 7) (j := 6) dX7_copyFrom_29 rfl rfl (Nat.le_of_ble_eq_true rfl) rfl (Nat.le_of_ble_eq_true rfl) rfl rfl ?_
  refine ae_aload_n (pc := 32) dX7_copyFrom_32 rfl ?_
  refine ae_aload_n (pc := 33) dX7_copyFrom_33 rfl ?_
  refine ae_getI (pc := 34) (k := 84) (c := 7) (j := 7) dX7_copyFrom_34 rfl rfl (Or.inr rfl) (Nat.le_of_ble_eq_true rfl) rfl (Nat.le_of_ble_eq_true rfl) rfl ?_
  refine ae_putfieldZ (pc := 37) (k := 1) (c := 7) (j := 7) dX7_copyFrom_37 rfl rfl (Nat.le_of_ble_eq_true rfl) rfl (Nat.le_of_ble_eq_true rfl) rfl h7 ?_
  refine ae_aload_n (pc := 40) dX7_copyFrom_40 rfl ?_
  refine ae_getR (pc := 41) (k := 84) (c := 7) (j := 2) (q := 85) dX7_copyFrom_41 rfl rfl (Nat.le_of_ble_eq_true rfl) rfl (Nat.le_of_ble_eq_true rfl) rfl ?_
  refine ae_iconst (pc := 44) (v := nI 0) dX7_copyFrom_44 (by decide) ?_
  refine ae_aload_n (pc := 45) dX7_copyFrom_45 rfl ?_
  refine ae_getR (pc := 46) (k := 1) (c := 7) (j := 2) (q := 2) dX7_copyFrom_46 rfl rfl (Nat.le_of_ble_eq_true rfl) rfl (Nat.le_of_ble_eq_true rfl) rfl ?_
  refine ae_iconst (pc := 49) (v := nI 0) dX7_copyFrom_49 (by decide) ?_
  refine ae_sipush (pc := 50) (v := nI 256) dX7_copyFrom_50 (by decide) ?_
  refine ae_copy (pc := 53) (s0 := 85) (d0 := 2) 0 0 256 dX7_copyFrom_53 (Or.inl ⟨rfl, rfl⟩) (by decide) (by decide) rfl rfl rfl rfl rfl rfl rfl (Nat.le_of_ble_eq_true rfl) (Nat.le_of_ble_eq_true rfl) (Nat.le_of_ble_eq_true rfl) ?_
  refine ae_aload_n (pc := 56) dX7_copyFrom_56 rfl ?_
  refine ae_getR (pc := 57) (k := 84) (c := 7) (j := 8) (q := 88) dX7_copyFrom_57 rfl rfl (Nat.le_of_ble_eq_true rfl) rfl (Nat.le_of_ble_eq_true rfl) rfl ?_
  refine ae_iconst (pc := 60) (v := nI 0) dX7_copyFrom_60 (by decide) ?_
  refine ae_aload_n (pc := 61) dX7_copyFrom_61 rfl ?_
  refine ae_getR (pc := 62) (k := 1) (c := 7) (j := 8) (q := 5) dX7_copyFrom_62 rfl rfl (Nat.le_of_ble_eq_true rfl) rfl (Nat.le_of_ble_eq_true rfl) rfl ?_
  refine ae_iconst (pc := 65) (v := nI 0) dX7_copyFrom_65 (by decide) ?_
  refine ae_sipush (pc := 66) (v := nI 256) dX7_copyFrom_66 (by decide) ?_
  refine ae_copy (pc := 69) (s0 := 88) (d0 := 5) 0 0 256 dX7_copyFrom_69 (Or.inl ⟨rfl, rfl⟩) (by decide) (by decide) rfl rfl rfl rfl rfl rfl rfl (Nat.le_of_ble_eq_true rfl) (Nat.le_of_ble_eq_true rfl) (Nat.le_of_ble_eq_true rfl) ?_
  refine ae_aload_n (pc := 72) dX7_copyFrom_72 rfl ?_
  refine ae_getR (pc := 73) (k := 84) (c := 7) (j := 4) (q := 86) dX7_copyFrom_73 rfl rfl (Nat.le_of_ble_eq_true rfl) rfl (Nat.le_of_ble_eq_true rfl) rfl ?_
  refine ae_iconst (pc := 76) (v := nI 0) dX7_copyFrom_76 (by decide) ?_
  refine ae_aload_n (pc := 77) dX7_copyFrom_77 rfl ?_
  refine ae_getR (pc := 78) (k := 1) (c := 7) (j := 4) (q := 3) dX7_copyFrom_78 rfl rfl (Nat.le_of_ble_eq_true rfl) rfl (Nat.le_of_ble_eq_true rfl) rfl ?_
  refine ae_iconst (pc := 81) (v := nI 0) dX7_copyFrom_81 (by decide) ?_
  refine ae_bipush (pc := 82) (v := nI 16) dX7_copyFrom_82 (by decide) ?_
  refine ae_copy (pc := 84) (s0 := 86) (d0 := 3) 0 0 16 dX7_copyFrom_84 (Or.inl ⟨rfl, rfl⟩) (by decide) (by decide) rfl rfl rfl rfl rfl rfl rfl (Nat.le_of_ble_eq_true rfl) (Nat.le_of_ble_eq_true rfl) (Nat.le_of_ble_eq_true rfl) ?_
  refine ae_iconst (pc := 87) (v := nI 0) dX7_copyFrom_87 (by decide) ?_
  refine ae_istore_n (pc := 88) dX7_copyFrom_88 rfl (Nat.le_of_ble_eq_true rfl) ?_
  skip
  have key : ∀ N : am_M, N.2 = M.2 → (∀ k, (k < 1 ∨ 5 < k) → N.1 k = M.1 k) → (N.1 1 0 = M.1 84 0 ∧ N.1 1 1 = M.1 84 1 ∧ N.1 1 3 = M.1 84 3 ∧ N.1 1 6 = M.1 84 6 ∧ N.1 1 7 = M.1 84 7) → (∀ q, q < 256 → N.1 2 q = M.1 85 q) → (∀ q, q < 256 → N.1 5 q = M.1 88 q) → (∀ q, q < 16 → N.1 3 q = M.1 86 q) → am_E none (am_R d) cX7_copyFrom 7 none (fun v M' => v = none ∧ M'.2 = M.2 ∧ (∀ k, (k < 1 ∨ 5 < k) → M'.1 k = M.1 k) ∧ (M'.1 1 0 = M.1 84 0 ∧ M'.1 1 1 = M.1 84 1 ∧ M'.1 1 3 = M.1 84 3 ∧ M'.1 1 6 = M.1 84 6 ∧ M'.1 1 7 = M.1 84 7) ∧ (∀ q, q < 256 → M'.1 2 q = M.1 85 q) ∧ (∀ q, q < 256 → M'.1 5 q = M.1 88 q) ∧ (∀ q, q < 16 → M'.1 3 q = M.1 86 q) ∧ (∀ q, q < 16 → M'.1 4 q = vp_nar .boolean (M.1 87 q))) (89, [some (.ref 1), some (.ref 84), some (.int (nI 0))], [], N) := by
    intro N n1 n2 n3 n4 n5 n6
    have lp : ∀ l : fT, (∀ q, q < 0 → l q = vp_nar .boolean (M.1 87 q)) → am_E none (am_R d) cX7_copyFrom 7 none (fun v M' => v = none ∧ M'.2 = M.2 ∧ (∀ k, (k < 1 ∨ 5 < k) → M'.1 k = M.1 k) ∧ (M'.1 1 0 = M.1 84 0 ∧ M'.1 1 1 = M.1 84 1 ∧ M'.1 1 3 = M.1 84 3 ∧ M'.1 1 6 = M.1 84 6 ∧ M'.1 1 7 = M.1 84 7) ∧ (∀ q, q < 256 → M'.1 2 q = M.1 85 q) ∧ (∀ q, q < 256 → M'.1 5 q = M.1 88 q) ∧ (∀ q, q < 16 → M'.1 3 q = M.1 86 q) ∧ (∀ q, q < 16 → M'.1 4 q = vp_nar .boolean (M.1 87 q))) (89, [some (.ref 1), some (.ref 84), some (.int (nI 0))], [], (am_u N.1 4 l, N.2)) := by
      refine am_down (P := fun k => ∀ l : fT, (∀ q, q < k → l q = vp_nar .boolean (M.1 87 q)) → am_E none (am_R d) cX7_copyFrom 7 none _ (89, [some (.ref 1), some (.ref 84), some (.int (nI k))], [], (am_u N.1 4 l, N.2))) 16 (fun k hk ih l hl => ?_)
      have ne : ∀ k, k ≠ 4 → (am_u N.1 4 l) k = N.1 k := fun k hk => am_u_ne _ _ hk
      refine ae_iload_n (pc := 89) dX7_copyFrom_89 rfl ?_
      refine ae_bipush (pc := 90) (v := nI 16) dX7_copyFrom_90 (by decide) ?_
      refine ae_icmp_ge (pc := 92) (t := 113) dX7_copyFrom_92 (by decide) (fun c92 => ?_) (fun c92 => ?_)
      · have hk2 : k = 16 := by rw [nI_leI (by omega) (by omega)] at c92; omega
        subst hk2
        refine ae_return (pc := 113) dX7_copyFrom_113 rfl ?_
        exact ⟨rfl, n1, fun k hk => (ne k (by omega)).trans (n2 k hk), ⟨(congrFun (ne 1 (by decide)) 0).trans n3.1, (congrFun (ne 1 (by decide)) 1).trans n3.2.1, (congrFun (ne 1 (by decide)) 3).trans n3.2.2.1, (congrFun (ne 1 (by decide)) 6).trans n3.2.2.2.1, (congrFun (ne 1 (by decide)) 7).trans n3.2.2.2.2⟩, fun q hq => (congrFun (ne 2 (by decide)) q).trans (n4 q hq), fun q hq => (congrFun (ne 5 (by decide)) q).trans (n5 q hq), fun q hq => (congrFun (ne 3 (by decide)) q).trans (n6 q hq), fun q hq => (congrFun (am_u_self N.1 4 l) q).trans (hl q hq)⟩
      · have hk2 : k < 16 := by rw [nI_leI (by omega) (by omega)] at c92; omega
        refine ae_aload_n (pc := 95) dX7_copyFrom_95 rfl ?_
        refine ae_getR (pc := 96) (k := 1) (c := 7) (j := 5) (q := 4) dX7_copyFrom_96 rfl rfl (Nat.le_of_ble_eq_true rfl) rfl (Nat.le_of_ble_eq_true rfl) rfl ?_
        refine ae_iload_n (pc := 99) dX7_copyFrom_99 rfl ?_
        refine ae_aload_n (pc := 100) dX7_copyFrom_100 rfl ?_
        refine ae_getR (pc := 101) (k := 84) (c := 7) (j := 5) (q := 87) dX7_copyFrom_101 rfl rfl (Nat.le_of_ble_eq_true rfl) rfl (Nat.le_of_ble_eq_true rfl) rfl ?_
        refine ae_iload_n (pc := 104) dX7_copyFrom_104 rfl ?_
        refine ae_baload (pc := 105) (k := 87) (N := 16) (v := M.1 87 k) _ dX7_copyFrom_105 (Nat.le_of_ble_eq_true rfl) rfl rfl rfl (by omega) ((congrFun (ne 87 (by decide)) k).trans (congrFun (n2 87 (by omega)) k)) ?_
        refine ae_bastore (pc := 106) (k := 4) (N := 16) (k) dX7_copyFrom_106 (Nat.le_of_ble_eq_true rfl) rfl rfl rfl (by omega) rfl ?_
        refine ae_M (M' := (am_u N.1 4 (upd l k (vp_nar .boolean (M.1 87 k))), N.2)) (by show ((am_u (am_u N.1 4 l) 4 (upd (am_u N.1 4 l 4) k _), N.2) : am_M) = _; rw [am_u_u, am_u_self]) ?_
        refine ae_iinc (pc := 107) (v := nI (k + 1)) dX7_copyFrom_107 rfl (nI_inc k) ?_
        refine ae_goto (pc := 110) (t := 89) dX7_copyFrom_110 (by decide) ?_
        refine ih hk2 _ (fun q hq => ?_)
        by_cases hqk : q = k
        · subst hqk; exact upd_self _ _ _
        · rw [upd_ne _ _ hqk]; exact hl q (by omega)
    have := lp (N.1 4) (fun q hq => absurd hq (Nat.not_lt_zero q))
    rwa [am_u_eta] at this
  refine key _ rfl (fun k hk => ?_) ?_ (fun q hq => ?_) (fun q hq => ?_) (fun q hq => ?_)
  · have : k ≠ 1 ∧ k ≠ 2 ∧ k ≠ 3 ∧ k ≠ 5 := by omega
    simp [am_u, this.1, this.2.1, this.2.2.1, this.2.2.2]
  · simp [am_u, upd]
  · simp [am_u, va_cpy, hq]
  · simp [am_u, va_cpy, hq]
  · simp [am_u, va_cpy, hq]
theorem sc_copy_89_1 (d : Nat) (M : am_M) (h7 : M.1 1 7 = 0 ∨ M.1 1 7 = 1) : am_R (d + 1) zX7_copyFrom [.ref 89, .ref 1] M (fun v M' => v = none ∧ M'.2 = M.2 ∧ (∀ k, (k < 89 ∨ 93 < k) → M'.1 k = M.1 k) ∧ (M'.1 89 0 = M.1 1 0 ∧ M'.1 89 1 = M.1 1 1 ∧ M'.1 89 3 = M.1 1 3 ∧ M'.1 89 6 = M.1 1 6 ∧ M'.1 89 7 = M.1 1 7) ∧ (∀ q, q < 256 → M'.1 90 q = M.1 2 q) ∧ (∀ q, q < 256 → M'.1 93 q = M.1 5 q) ∧ (∀ q, q < 16 → M'.1 91 q = M.1 3 q) ∧ (∀ q, q < 16 → M'.1 92 q = vp_nar .boolean (M.1 4 q))) := by
  refine ae_enter (z := zX7_copyFrom) (y := yX7_copyFrom) (cc := cX7_copyFrom) (mL := 3) (rt := none) (ci := 7) (st := false) (np := 1) (L := [some (.ref 89), some (.ref 1), none]) rfl (by decide) (Nat.le_of_ble_eq_true rfl) rfl ?_
  refine ae_aload_n (pc := 0) dX7_copyFrom_0 rfl ?_
  refine ae_aload_n (pc := 1) dX7_copyFrom_1 rfl ?_
  refine ae_getI (pc := 2) (k := 1) (c := 7) (j := 0) dX7_copyFrom_2 rfl rfl (Or.inl rfl) (Nat.le_of_ble_eq_true rfl) rfl (Nat.le_of_ble_eq_true rfl) rfl ?_
  refine ae_putfield (pc := 5) (k := 89) (c := 7) (j := 0) dX7_copyFrom_5 rfl rfl (Nat.le_of_ble_eq_true rfl) rfl (Nat.le_of_ble_eq_true rfl) rfl rfl ?_
  refine ae_aload_n (pc := 8) dX7_copyFrom_8 rfl ?_
  refine ae_aload_n (pc := 9) dX7_copyFrom_9 rfl ?_
  refine ae_getI (pc := 10) (k := 1) (c := 7) (j := 1) dX7_copyFrom_10 rfl rfl (Or.inl rfl) (Nat.le_of_ble_eq_true rfl) rfl (Nat.le_of_ble_eq_true rfl) rfl ?_
  refine ae_putfield (pc := 13) (k := 89) (c := 7) (j := 1) dX7_copyFrom_13 rfl rfl (Nat.le_of_ble_eq_true rfl) rfl (Nat.le_of_ble_eq_true rfl) rfl rfl ?_
  refine ae_aload_n (pc := 16) dX7_copyFrom_16 rfl ?_
  refine ae_aload_n (pc := 17) dX7_copyFrom_17 rfl ?_
  refine ae_getI (pc := 18) (k := 1) (c := 7) (j := 3) dX7_copyFrom_18 rfl rfl (Or.inl rfl) (Nat.le_of_ble_eq_true rfl) rfl (Nat.le_of_ble_eq_true rfl) rfl ?_
  refine ae_putfield (pc := 21) (k := 89) (c := 7) (j := 3) dX7_copyFrom_21 rfl rfl (Nat.le_of_ble_eq_true rfl) rfl (Nat.le_of_ble_eq_true rfl) rfl rfl ?_
  refine ae_aload_n (pc := 24) dX7_copyFrom_24 rfl ?_
  refine ae_aload_n (pc := 25) dX7_copyFrom_25 rfl ?_
  refine ae_getI (pc := 26) (k := 1) (c := 7) (j := 6) dX7_copyFrom_26 rfl rfl (Or.inl rfl) (Nat.le_of_ble_eq_true rfl) rfl (Nat.le_of_ble_eq_true rfl) rfl ?_
  refine ae_putfield (pc := 29) (k := 89) (c := 7) (j := 6) dX7_copyFrom_29 rfl rfl (Nat.le_of_ble_eq_true rfl) rfl (Nat.le_of_ble_eq_true rfl) rfl rfl ?_
  refine ae_aload_n (pc := 32) dX7_copyFrom_32 rfl ?_
  refine ae_aload_n (pc := 33) dX7_copyFrom_33 rfl ?_
  refine ae_getI (pc := 34) (k := 1) (c := 7) (j := 7) dX7_copyFrom_34 rfl rfl (Or.inr rfl) (Nat.le_of_ble_eq_true rfl) rfl (Nat.le_of_ble_eq_true rfl) rfl ?_
  refine ae_putfieldZ (pc := 37) (k := 89) (c := 7) (j := 7) dX7_copyFrom_37 rfl rfl (Nat.le_of_ble_eq_true rfl) rfl (Nat.le_of_ble_eq_true rfl) rfl h7 ?_
  refine ae_aload_n (pc := 40) dX7_copyFrom_40 rfl ?_
  refine ae_getR (pc := 41) (k := 1) (c := 7) (j := 2) (q := 2) dX7_copyFrom_41 rfl rfl (Nat.le_of_ble_eq_true rfl) rfl (Nat.le_of_ble_eq_true rfl) rfl ?_
  refine ae_iconst (pc := 44) (v := nI 0) dX7_copyFrom_44 (by decide) ?_
  refine ae_aload_n (pc := 45) dX7_copyFrom_45 rfl ?_
  refine ae_getR (pc := 46) (k := 89) (c := 7) (j := 2) (q := 90) dX7_copyFrom_46 rfl rfl (Nat.le_of_ble_eq_true rfl) rfl (Nat.le_of_ble_eq_true rfl) rfl ?_
  refine ae_iconst (pc := 49) (v := nI 0) dX7_copyFrom_49 (by decide) ?_
  refine ae_sipush (pc := 50) (v := nI 256) dX7_copyFrom_50 (by decide) ?_
  refine ae_copy (pc := 53) (s0 := 2) (d0 := 90) 0 0 256 dX7_copyFrom_53 (Or.inl ⟨rfl, rfl⟩) (by decide) (by decide) rfl rfl rfl rfl rfl rfl rfl (Nat.le_of_ble_eq_true rfl) (Nat.le_of_ble_eq_true rfl) (Nat.le_of_ble_eq_true rfl) ?_
  refine ae_aload_n (pc := 56) dX7_copyFrom_56 rfl ?_
  refine ae_getR (pc := 57) (k := 1) (c := 7) (j := 8) (q := 5) dX7_copyFrom_57 rfl rfl (Nat.le_of_ble_eq_true rfl) rfl (Nat.le_of_ble_eq_true rfl) rfl ?_
  refine ae_iconst (pc := 60) (v := nI 0) dX7_copyFrom_60 (by decide) ?_
  refine ae_aload_n (pc := 61) dX7_copyFrom_61 rfl ?_
  refine ae_getR (pc := 62) (k := 89) (c := 7) (j := 8) (q := 93) dX7_copyFrom_62 rfl rfl (Nat.le_of_ble_eq_true rfl) rfl (Nat.le_of_ble_eq_true rfl) rfl ?_
  refine ae_iconst (pc := 65) (v := nI 0) dX7_copyFrom_65 (by decide) ?_
  refine ae_sipush (pc := 66) (v := nI 256) dX7_copyFrom_66 (by decide) ?_
  refine ae_copy (pc := 69) (s0 := 5) (d0 := 93) 0 0 256 dX7_copyFrom_69 (Or.inl ⟨rfl, rfl⟩) (by decide) (by decide) rfl rfl rfl rfl rfl rfl rfl (Nat.le_of_ble_eq_true rfl) (Nat.le_of_ble_eq_true rfl) (Nat.le_of_ble_eq_true rfl) ?_
  refine ae_aload_n (pc := 72) dX7_copyFrom_72 rfl ?_
  refine ae_getR (pc := 73) (k := 1) (c := 7) (j := 4) (q := 3) dX7_copyFrom_73 rfl rfl (Nat.le_of_ble_eq_true rfl) rfl (Nat.le_of_ble_eq_true rfl) rfl ?_
  refine ae_iconst (pc := 76) (v := nI 0) dX7_copyFrom_76 (by decide) ?_
  refine ae_aload_n (pc := 77) dX7_copyFrom_77 rfl ?_
  refine ae_getR (pc := 78) (k := 89) (c := 7) (j := 4) (q := 91) dX7_copyFrom_78 rfl rfl (Nat.le_of_ble_eq_true rfl) rfl (Nat.le_of_ble_eq_true rfl) rfl ?_
  refine ae_iconst (pc := 81) (v := nI 0) dX7_copyFrom_81 (by decide) ?_
  refine ae_bipush (pc := 82) (v := nI 16) dX7_copyFrom_82 (by decide) ?_
  refine ae_copy (pc := 84) (s0 := 3) (d0 := 91) 0 0 16 dX7_copyFrom_84 (Or.inl ⟨rfl, rfl⟩) (by decide) (by decide) rfl rfl rfl rfl rfl rfl rfl (Nat.le_of_ble_eq_true rfl) (Nat.le_of_ble_eq_true rfl) (Nat.le_of_ble_eq_true rfl) ?_
  refine ae_iconst (pc := 87) (v := nI 0) dX7_copyFrom_87 (by decide) ?_
  refine ae_istore_n (pc := 88) dX7_copyFrom_88 rfl (Nat.le_of_ble_eq_true rfl) ?_
  skip
  have key : ∀ N : am_M, N.2 = M.2 → (∀ k, (k < 89 ∨ 93 < k) → N.1 k = M.1 k) → (N.1 89 0 = M.1 1 0 ∧ N.1 89 1 = M.1 1 1 ∧ N.1 89 3 = M.1 1 3 ∧ N.1 89 6 = M.1 1 6 ∧ N.1 89 7 = M.1 1 7) → (∀ q, q < 256 → N.1 90 q = M.1 2 q) → (∀ q, q < 256 → N.1 93 q = M.1 5 q) → (∀ q, q < 16 → N.1 91 q = M.1 3 q) → am_E none (am_R d) cX7_copyFrom 7 none (fun v M' => v = none ∧ M'.2 = M.2 ∧ (∀ k, (k < 89 ∨ 93 < k) → M'.1 k = M.1 k) ∧ (M'.1 89 0 = M.1 1 0 ∧ M'.1 89 1 = M.1 1 1 ∧ M'.1 89 3 = M.1 1 3 ∧ M'.1 89 6 = M.1 1 6 ∧ M'.1 89 7 = M.1 1 7) ∧ (∀ q, q < 256 → M'.1 90 q = M.1 2 q) ∧ (∀ q, q < 256 → M'.1 93 q = M.1 5 q) ∧ (∀ q, q < 16 → M'.1 91 q = M.1 3 q) ∧ (∀ q, q < 16 → M'.1 92 q = vp_nar .boolean (M.1 4 q))) (89, [some (.ref 89), some (.ref 1), some (.int (nI 0))], [], N) := by
    intro N n1 n2 n3 n4 n5 n6
    have lp : ∀ l : fT, (∀ q, q < 0 → l q = vp_nar .boolean (M.1 4 q)) → am_E none (am_R d) cX7_copyFrom 7 none (fun v M' => v = none ∧ M'.2 = M.2 ∧ (∀ k, (k < 89 ∨ 93 < k) → M'.1 k = M.1 k) ∧ (M'.1 89 0 = M.1 1 0 ∧ M'.1 89 1 = M.1 1 1 ∧ M'.1 89 3 = M.1 1 3 ∧ M'.1 89 6 = M.1 1 6 ∧ M'.1 89 7 = M.1 1 7) ∧ (∀ q, q < 256 → M'.1 90 q = M.1 2 q) ∧ (∀ q, q < 256 → M'.1 93 q = M.1 5 q) ∧ (∀ q, q < 16 → M'.1 91 q = M.1 3 q) ∧ (∀ q, q < 16 → M'.1 92 q = vp_nar .boolean (M.1 4 q))) (89, [some (.ref 89), some (.ref 1), some (.int (nI 0))], [], (am_u N.1 92 l, N.2)) := by
      refine am_down (P := fun k => ∀ l : fT, (∀ q, q < k → l q = vp_nar .boolean (M.1 4 q)) → am_E none (am_R d) cX7_copyFrom 7 none _ (89, [some (.ref 89), some (.ref 1), some (.int (nI k))], [], (am_u N.1 92 l, N.2))) 16 (fun k hk ih l hl => ?_)
      have ne : ∀ k, k ≠ 92 → (am_u N.1 92 l) k = N.1 k := fun k hk => am_u_ne _ _ hk
      refine ae_iload_n (pc := 89) dX7_copyFrom_89 rfl ?_
      refine ae_bipush (pc := 90) (v := nI 16) dX7_copyFrom_90 (by decide) ?_
      refine ae_icmp_ge (pc := 92) (t := 113) dX7_copyFrom_92 (by decide) (fun c92 => ?_) (fun c92 => ?_)
      · have hk2 : k = 16 := by rw [nI_leI (by omega) (by omega)] at c92; omega
        subst hk2
        refine ae_return (pc := 113) dX7_copyFrom_113 rfl ?_
        exact ⟨rfl, n1, fun k hk => (ne k (by omega)).trans (n2 k hk), ⟨(congrFun (ne 89 (by decide)) 0).trans n3.1, (congrFun (ne 89 (by decide)) 1).trans n3.2.1, (congrFun (ne 89 (by decide)) 3).trans n3.2.2.1, (congrFun (ne 89 (by decide)) 6).trans n3.2.2.2.1, (congrFun (ne 89 (by decide)) 7).trans n3.2.2.2.2⟩, fun q hq => (congrFun (ne 90 (by decide)) q).trans (n4 q hq), fun q hq => (congrFun (ne 93 (by decide)) q).trans (n5 q hq), fun q hq => (congrFun (ne 91 (by decide)) q).trans (n6 q hq), fun q hq => (congrFun (am_u_self N.1 92 l) q).trans (hl q hq)⟩
      · have hk2 : k < 16 := by rw [nI_leI (by omega) (by omega)] at c92; omega
        refine ae_aload_n (pc := 95) dX7_copyFrom_95 rfl ?_
        refine ae_getR (pc := 96) (k := 89) (c := 7) (j := 5) (q := 92) dX7_copyFrom_96 rfl rfl (Nat.le_of_ble_eq_true rfl) rfl (Nat.le_of_ble_eq_true rfl) rfl ?_
        refine ae_iload_n (pc := 99) dX7_copyFrom_99 rfl ?_
        refine ae_aload_n (pc := 100) dX7_copyFrom_100 rfl ?_
        refine ae_getR (pc := 101) (k := 1) (c := 7) (j := 5) (q := 4) dX7_copyFrom_101 rfl rfl (Nat.le_of_ble_eq_true rfl) rfl (Nat.le_of_ble_eq_true rfl) rfl ?_
        refine ae_iload_n (pc := 104) dX7_copyFrom_104 rfl ?_
        refine ae_baload (pc := 105) (k := 4) (N := 16) (v := M.1 4 k) _ dX7_copyFrom_105 (Nat.le_of_ble_eq_true rfl) rfl rfl rfl (by omega) ((congrFun (ne 4 (by decide)) k).trans (congrFun (n2 4 (by omega)) k)) ?_
        refine ae_bastore (pc := 106) (k := 92) (N := 16) (k) dX7_copyFrom_106 (Nat.le_of_ble_eq_true rfl) rfl rfl rfl (by omega) rfl ?_
        refine ae_M (M' := (am_u N.1 92 (upd l k (vp_nar .boolean (M.1 4 k))), N.2)) (by show ((am_u (am_u N.1 92 l) 92 (upd (am_u N.1 92 l 92) k _), N.2) : am_M) = _; rw [am_u_u, am_u_self]) ?_
        refine ae_iinc (pc := 107) (v := nI (k + 1)) dX7_copyFrom_107 rfl (nI_inc k) ?_
        refine ae_goto (pc := 110) (t := 89) dX7_copyFrom_110 (by decide) ?_
        refine ih hk2 _ (fun q hq => ?_)
        by_cases hqk : q = k
        · subst hqk; exact upd_self _ _ _
        · rw [upd_ne _ _ hqk]; exact hl q (by omega)
    have := lp (N.1 92) (fun q hq => absurd hq (Nat.not_lt_zero q))
    rwa [am_u_eta] at this
  refine key _ rfl (fun k hk => ?_) ?_ (fun q hq => ?_) (fun q hq => ?_) (fun q hq => ?_)
  · have : k ≠ 89 ∧ k ≠ 90 ∧ k ≠ 91 ∧ k ≠ 93 := by omega
    simp [am_u, this.1, this.2.1, this.2.2.1, this.2.2.2]
  · simp [am_u, upd]
  · simp [am_u, va_cpy, hq]
  · simp [am_u, va_cpy, hq]
  · simp [am_u, va_cpy, hq]
theorem sc_copy_1_89 (d : Nat) (M : am_M) (h7 : M.1 89 7 = 0 ∨ M.1 89 7 = 1) : am_R (d + 1) zX7_copyFrom [.ref 1, .ref 89] M (fun v M' => v = none ∧ M'.2 = M.2 ∧ (∀ k, (k < 1 ∨ 5 < k) → M'.1 k = M.1 k) ∧ (M'.1 1 0 = M.1 89 0 ∧ M'.1 1 1 = M.1 89 1 ∧ M'.1 1 3 = M.1 89 3 ∧ M'.1 1 6 = M.1 89 6 ∧ M'.1 1 7 = M.1 89 7) ∧ (∀ q, q < 256 → M'.1 2 q = M.1 90 q) ∧ (∀ q, q < 256 → M'.1 5 q = M.1 93 q) ∧ (∀ q, q < 16 → M'.1 3 q = M.1 91 q) ∧ (∀ q, q < 16 → M'.1 4 q = vp_nar .boolean (M.1 92 q))) := by
  refine ae_enter (z := zX7_copyFrom) (y := yX7_copyFrom) (cc := cX7_copyFrom) (mL := 3) (rt := none) (ci := 7) (st := false) (np := 1) (L := [some (.ref 1), some (.ref 89), none]) rfl (by decide) (Nat.le_of_ble_eq_true rfl) rfl ?_
  refine ae_aload_n (pc := 0) dX7_copyFrom_0 rfl ?_
  refine ae_aload_n (pc := 1) dX7_copyFrom_1 rfl ?_
  refine ae_getI (pc := 2) (k := 89) (c := 7) (j := 0) dX7_copyFrom_2 rfl rfl (Or.inl rfl) (Nat.le_of_ble_eq_true rfl) rfl (Nat.le_of_ble_eq_true rfl) rfl ?_
  refine ae_putfield (pc := 5) (k := 1) (c := 7) (j := 0) dX7_copyFrom_5 rfl rfl (Nat.le_of_ble_eq_true rfl) rfl (Nat.le_of_ble_eq_true rfl) rfl rfl ?_
  refine ae_aload_n (pc := 8) dX7_copyFrom_8 rfl ?_
  refine ae_aload_n (pc := 9) dX7_copyFrom_9 rfl ?_
  refine ae_getI (pc := 10) (k := 89) (c := 7) (j := 1) dX7_copyFrom_10 rfl rfl (Or.inl rfl) (Nat.le_of_ble_eq_true rfl) rfl (Nat.le_of_ble_eq_true rfl) rfl ?_
  refine ae_putfield (pc := 13) (k := 1) (c := 7) (j := 1) dX7_copyFrom_13 rfl rfl (Nat.le_of_ble_eq_true rfl) rfl (Nat.le_of_ble_eq_true rfl) rfl rfl ?_
  refine ae_aload_n (pc := 16) dX7_copyFrom_16 rfl ?_
  refine ae_aload_n (pc := 17) dX7_copyFrom_17 rfl ?_
  refine ae_getI (pc := 18) (k := 89) (c := 7) (j := 3) dX7_copyFrom_18 rfl rfl (Or.inl rfl) (Nat.le_of_ble_eq_true rfl) rfl (Nat.le_of_ble_eq_true rfl) rfl ?_
  refine ae_putfield (pc := 21) (k := 1) (c := 7) (j := 3) dX7_copyFrom_21 rfl rfl (Nat.le_of_ble_eq_true rfl) rfl (Nat.le_of_ble_eq_true rfl) rfl rfl ?_
  refine ae_aload_n (pc := 24) dX7_copyFrom_24 rfl ?_
  refine ae_aload_n (pc := 25) dX7_copyFrom_25 rfl ?_
  refine ae_getI (pc := 26) (k := 89) (c := 7) (j := 6) dX7_copyFrom_26 rfl rfl (Or.inl rfl) (Nat.le_of_ble_eq_true rfl) rfl (Nat.le_of_ble_eq_true rfl) rfl ?_
  refine ae_putfield (pc := 29) (k := 1) (c := 7) (j := 6) dX7_copyFrom_29 rfl rfl (Nat.le_of_ble_eq_true rfl) rfl (Nat.le_of_ble_eq_true rfl) rfl rfl ?_
  refine ae_aload_n (pc := 32) dX7_copyFrom_32 rfl ?_
  refine ae_aload_n (pc := 33) dX7_copyFrom_33 rfl ?_
  refine ae_getI (pc := 34) (k := 89) (c := 7) (j := 7) dX7_copyFrom_34 rfl rfl (Or.inr rfl) (Nat.le_of_ble_eq_true rfl) rfl (Nat.le_of_ble_eq_true rfl) rfl ?_
  refine ae_putfieldZ (pc := 37) (k := 1) (c := 7) (j := 7) dX7_copyFrom_37 rfl rfl (Nat.le_of_ble_eq_true rfl) rfl (Nat.le_of_ble_eq_true rfl) rfl h7 ?_
  refine ae_aload_n (pc := 40) dX7_copyFrom_40 rfl ?_
  refine ae_getR (pc := 41) (k := 89) (c := 7) (j := 2) (q := 90) dX7_copyFrom_41 rfl rfl (Nat.le_of_ble_eq_true rfl) rfl (Nat.le_of_ble_eq_true rfl) rfl ?_
  refine ae_iconst (pc := 44) (v := nI 0) dX7_copyFrom_44 (by decide) ?_
  refine ae_aload_n (pc := 45) dX7_copyFrom_45 rfl ?_
  refine ae_getR (pc := 46) (k := 1) (c := 7) (j := 2) (q := 2) dX7_copyFrom_46 rfl rfl (Nat.le_of_ble_eq_true rfl) rfl (Nat.le_of_ble_eq_true rfl) rfl ?_
  refine ae_iconst (pc := 49) (v := nI 0) dX7_copyFrom_49 (by decide) ?_
  refine ae_sipush (pc := 50) (v := nI 256) dX7_copyFrom_50 (by decide) ?_
  refine ae_copy (pc := 53) (s0 := 90) (d0 := 2) 0 0 256 dX7_copyFrom_53 (Or.inl ⟨rfl, rfl⟩) (by decide) (by decide) rfl rfl rfl rfl rfl rfl rfl (Nat.le_of_ble_eq_true rfl) (Nat.le_of_ble_eq_true rfl) (Nat.le_of_ble_eq_true rfl) ?_
  refine ae_aload_n (pc := 56) dX7_copyFrom_56 rfl ?_
  refine ae_getR (pc := 57) (k := 89) (c := 7) (j := 8) (q := 93) dX7_copyFrom_57 rfl rfl (Nat.le_of_ble_eq_true rfl) rfl (Nat.le_of_ble_eq_true rfl) rfl ?_
  refine ae_iconst (pc := 60) (v := nI 0) dX7_copyFrom_60 (by decide) ?_
  refine ae_aload_n (pc := 61) dX7_copyFrom_61 rfl ?_
  refine ae_getR (pc := 62) (k := 1) (c := 7) (j := 8) (q := 5) dX7_copyFrom_62 rfl rfl (Nat.le_of_ble_eq_true rfl) rfl (Nat.le_of_ble_eq_true rfl) rfl ?_
  refine ae_iconst (pc := 65) (v := nI 0) dX7_copyFrom_65 (by decide) ?_
  refine ae_sipush (pc := 66) (v := nI 256) dX7_copyFrom_66 (by decide) ?_
  refine ae_copy (pc := 69) (s0 := 93) (d0 := 5) 0 0 256 dX7_copyFrom_69 (Or.inl ⟨rfl, rfl⟩) (by decide) (by decide) rfl rfl rfl rfl rfl rfl rfl (Nat.le_of_ble_eq_true rfl) (Nat.le_of_ble_eq_true rfl) (Nat.le_of_ble_eq_true rfl) ?_
  refine ae_aload_n (pc := 72) dX7_copyFrom_72 rfl ?_
  refine ae_getR (pc := 73) (k := 89) (c := 7) (j := 4) (q := 91) dX7_copyFrom_73 rfl rfl (Nat.le_of_ble_eq_true rfl) rfl (Nat.le_of_ble_eq_true rfl) rfl ?_
  refine ae_iconst (pc := 76) (v := nI 0) dX7_copyFrom_76 (by decide) ?_
  refine ae_aload_n (pc := 77) dX7_copyFrom_77 rfl ?_
  refine ae_getR (pc := 78) (k := 1) (c := 7) (j := 4) (q := 3) dX7_copyFrom_78 rfl rfl (Nat.le_of_ble_eq_true rfl) rfl (Nat.le_of_ble_eq_true rfl) rfl ?_
  refine ae_iconst (pc := 81) (v := nI 0) dX7_copyFrom_81 (by decide) ?_
  refine ae_bipush (pc := 82) (v := nI 16) dX7_copyFrom_82 (by decide) ?_
  refine ae_copy (pc := 84) (s0 := 91) (d0 := 3) 0 0 16 dX7_copyFrom_84 (Or.inl ⟨rfl, rfl⟩) (by decide) (by decide) rfl rfl rfl rfl rfl rfl rfl (Nat.le_of_ble_eq_true rfl) (Nat.le_of_ble_eq_true rfl) (Nat.le_of_ble_eq_true rfl) ?_
  refine ae_iconst (pc := 87) (v := nI 0) dX7_copyFrom_87 (by decide) ?_
  refine ae_istore_n (pc := 88) dX7_copyFrom_88 rfl (Nat.le_of_ble_eq_true rfl) ?_
  skip
  have key : ∀ N : am_M, N.2 = M.2 → (∀ k, (k < 1 ∨ 5 < k) → N.1 k = M.1 k) → (N.1 1 0 = M.1 89 0 ∧ N.1 1 1 = M.1 89 1 ∧ N.1 1 3 = M.1 89 3 ∧ N.1 1 6 = M.1 89 6 ∧ N.1 1 7 = M.1 89 7) → (∀ q, q < 256 → N.1 2 q = M.1 90 q) → (∀ q, q < 256 → N.1 5 q = M.1 93 q) → (∀ q, q < 16 → N.1 3 q = M.1 91 q) → am_E none (am_R d) cX7_copyFrom 7 none (fun v M' => v = none ∧ M'.2 = M.2 ∧ (∀ k, (k < 1 ∨ 5 < k) → M'.1 k = M.1 k) ∧ (M'.1 1 0 = M.1 89 0 ∧ M'.1 1 1 = M.1 89 1 ∧ M'.1 1 3 = M.1 89 3 ∧ M'.1 1 6 = M.1 89 6 ∧ M'.1 1 7 = M.1 89 7) ∧ (∀ q, q < 256 → M'.1 2 q = M.1 90 q) ∧ (∀ q, q < 256 → M'.1 5 q = M.1 93 q) ∧ (∀ q, q < 16 → M'.1 3 q = M.1 91 q) ∧ (∀ q, q < 16 → M'.1 4 q = vp_nar .boolean (M.1 92 q))) (89, [some (.ref 1), some (.ref 89), some (.int (nI 0))], [], N) := by
    intro N n1 n2 n3 n4 n5 n6
    have lp : ∀ l : fT, (∀ q, q < 0 → l q = vp_nar .boolean (M.1 92 q)) → am_E none (am_R d) cX7_copyFrom 7 none (fun v M' => v = none ∧ M'.2 = M.2 ∧ (∀ k, (k < 1 ∨ 5 < k) → M'.1 k = M.1 k) ∧ (M'.1 1 0 = M.1 89 0 ∧ M'.1 1 1 = M.1 89 1 ∧ M'.1 1 3 = M.1 89 3 ∧ M'.1 1 6 = M.1 89 6 ∧ M'.1 1 7 = M.1 89 7) ∧ (∀ q, q < 256 → M'.1 2 q = M.1 90 q) ∧ (∀ q, q < 256 → M'.1 5 q = M.1 93 q) ∧ (∀ q, q < 16 → M'.1 3 q = M.1 91 q) ∧ (∀ q, q < 16 → M'.1 4 q = vp_nar .boolean (M.1 92 q))) (89, [some (.ref 1), some (.ref 89), some (.int (nI 0))], [], (am_u N.1 4 l, N.2)) := by
      refine am_down (P := fun k => ∀ l : fT, (∀ q, q < k → l q = vp_nar .boolean (M.1 92 q)) → am_E none (am_R d) cX7_copyFrom 7 none _ (89, [some (.ref 1), some (.ref 89), some (.int (nI k))], [], (am_u N.1 4 l, N.2))) 16 (fun k hk ih l hl => ?_)
      have ne : ∀ k, k ≠ 4 → (am_u N.1 4 l) k = N.1 k := fun k hk => am_u_ne _ _ hk
      refine ae_iload_n (pc := 89) dX7_copyFrom_89 rfl ?_
      refine ae_bipush (pc := 90) (v := nI 16) dX7_copyFrom_90 (by decide) ?_
      refine ae_icmp_ge (pc := 92) (t := 113) dX7_copyFrom_92 (by decide) (fun c92 => ?_) (fun c92 => ?_)
      · have hk2 : k = 16 := by rw [nI_leI (by omega) (by omega)] at c92; omega
        subst hk2
        refine ae_return (pc := 113) dX7_copyFrom_113 rfl ?_
        exact ⟨rfl, n1, fun k hk => (ne k (by omega)).trans (n2 k hk), ⟨(congrFun (ne 1 (by decide)) 0).trans n3.1, (congrFun (ne 1 (by decide)) 1).trans n3.2.1, (congrFun (ne 1 (by decide)) 3).trans n3.2.2.1, (congrFun (ne 1 (by decide)) 6).trans n3.2.2.2.1, (congrFun (ne 1 (by decide)) 7).trans n3.2.2.2.2⟩, fun q hq => (congrFun (ne 2 (by decide)) q).trans (n4 q hq), fun q hq => (congrFun (ne 5 (by decide)) q).trans (n5 q hq), fun q hq => (congrFun (ne 3 (by decide)) q).trans (n6 q hq), fun q hq => (congrFun (am_u_self N.1 4 l) q).trans (hl q hq)⟩
      · have hk2 : k < 16 := by rw [nI_leI (by omega) (by omega)] at c92; omega
        refine ae_aload_n (pc := 95) dX7_copyFrom_95 rfl ?_
        refine ae_getR (pc := 96) (k := 1) (c := 7) (j := 5) (q := 4) dX7_copyFrom_96 rfl rfl (Nat.le_of_ble_eq_true rfl) rfl (Nat.le_of_ble_eq_true rfl) rfl ?_
        refine ae_iload_n (pc := 99) dX7_copyFrom_99 rfl ?_
        refine ae_aload_n (pc := 100) dX7_copyFrom_100 rfl ?_
        refine ae_getR (pc := 101) (k := 89) (c := 7) (j := 5) (q := 92) dX7_copyFrom_101 rfl rfl (Nat.le_of_ble_eq_true rfl) rfl (Nat.le_of_ble_eq_true rfl) rfl ?_
        refine ae_iload_n (pc := 104) dX7_copyFrom_104 rfl ?_
        refine ae_baload (pc := 105) (k := 92) (N := 16) (v := M.1 92 k) _ dX7_copyFrom_105 (Nat.le_of_ble_eq_true rfl) rfl rfl rfl (by omega) ((congrFun (ne 92 (by decide)) k).trans (congrFun (n2 92 (by omega)) k)) ?_
        refine ae_bastore (pc := 106) (k := 4) (N := 16) (k) dX7_copyFrom_106 (Nat.le_of_ble_eq_true rfl) rfl rfl rfl (by omega) rfl ?_
        refine ae_M (M' := (am_u N.1 4 (upd l k (vp_nar .boolean (M.1 92 k))), N.2)) (by show ((am_u (am_u N.1 4 l) 4 (upd (am_u N.1 4 l 4) k _), N.2) : am_M) = _; rw [am_u_u, am_u_self]) ?_
        refine ae_iinc (pc := 107) (v := nI (k + 1)) dX7_copyFrom_107 rfl (nI_inc k) ?_
        refine ae_goto (pc := 110) (t := 89) dX7_copyFrom_110 (by decide) ?_
        refine ih hk2 _ (fun q hq => ?_)
        by_cases hqk : q = k
        · subst hqk; exact upd_self _ _ _
        · rw [upd_ne _ _ hqk]; exact hl q (by omega)
    have := lp (N.1 4) (fun q hq => absurd hq (Nat.not_lt_zero q))
    rwa [am_u_eta] at this
  refine key _ rfl (fun k hk => ?_) ?_ (fun q hq => ?_) (fun q hq => ?_) (fun q hq => ?_)
  · have : k ≠ 1 ∧ k ≠ 2 ∧ k ≠ 3 ∧ k ≠ 5 := by omega
    simp [am_u, this.1, this.2.1, this.2.2.1, this.2.2.2]
  · simp [am_u, upd]
  · simp [am_u, va_cpy, hq]
  · simp [am_u, va_cpy, hq]
  · simp [am_u, va_cpy, hq]
theorem sc_copy_94_1 (d : Nat) (M : am_M) (h7 : M.1 1 7 = 0 ∨ M.1 1 7 = 1) : am_R (d + 1) zX7_copyFrom [.ref 94, .ref 1] M (fun v M' => v = none ∧ M'.2 = M.2 ∧ (∀ k, (k < 94 ∨ 98 < k) → M'.1 k = M.1 k) ∧ (M'.1 94 0 = M.1 1 0 ∧ M'.1 94 1 = M.1 1 1 ∧ M'.1 94 3 = M.1 1 3 ∧ M'.1 94 6 = M.1 1 6 ∧ M'.1 94 7 = M.1 1 7) ∧ (∀ q, q < 256 → M'.1 95 q = M.1 2 q) ∧ (∀ q, q < 256 → M'.1 98 q = M.1 5 q) ∧ (∀ q, q < 16 → M'.1 96 q = M.1 3 q) ∧ (∀ q, q < 16 → M'.1 97 q = vp_nar .boolean (M.1 4 q))) := by
  refine ae_enter (z := zX7_copyFrom) (y := yX7_copyFrom) (cc := cX7_copyFrom) (mL := 3) (rt := none) (ci := 7) (st := false) (np := 1) (L := [some (.ref 94), some (.ref 1), none]) rfl (by decide) (Nat.le_of_ble_eq_true rfl) rfl ?_
  refine ae_aload_n (pc := 0) dX7_copyFrom_0 rfl ?_
  refine ae_aload_n (pc := 1) dX7_copyFrom_1 rfl ?_
  refine ae_getI (pc := 2) (k := 1) (c := 7) (j := 0) dX7_copyFrom_2 rfl rfl (Or.inl rfl) (Nat.le_of_ble_eq_true rfl) rfl (Nat.le_of_ble_eq_true rfl) rfl ?_
  refine ae_putfield (pc := 5) (k := 94) (c := 7) (j := 0) dX7_copyFrom_5 rfl rfl (Nat.le_of_ble_eq_true rfl) rfl (Nat.le_of_ble_eq_true rfl) rfl rfl ?_
  refine ae_aload_n (pc := 8) dX7_copyFrom_8 rfl ?_
  refine ae_aload_n (pc := 9) dX7_copyFrom_9 rfl ?_
  refine ae_getI (pc := 10) (k := 1) (c := 7) (j := 1) dX7_copyFrom_10 rfl rfl (Or.inl rfl) (Nat.le_of_ble_eq_true rfl) rfl (Nat.le_of_ble_eq_true rfl) rfl ?_
  refine ae_putfield (pc := 13) (k := 94) (c := 7) (j := 1) dX7_copyFrom_13 rfl rfl (Nat.le_of_ble_eq_true rfl) rfl (Nat.le_of_ble_eq_true rfl) rfl rfl ?_
  refine ae_aload_n (pc := 16) dX7_copyFrom_16 rfl ?_
  refine ae_aload_n (pc := 17) dX7_copyFrom_17 rfl ?_
  refine ae_getI (pc := 18) (k := 1) (c := 7) (j := 3) dX7_copyFrom_18 rfl rfl (Or.inl rfl) (Nat.le_of_ble_eq_true rfl) rfl (Nat.le_of_ble_eq_true rfl) rfl ?_
  refine ae_putfield (pc := 21) (k := 94) (c := 7) (j := 3) dX7_copyFrom_21 rfl rfl (Nat.le_of_ble_eq_true rfl) rfl (Nat.le_of_ble_eq_true rfl) rfl rfl ?_
  refine ae_aload_n (pc := 24) dX7_copyFrom_24 rfl ?_
  refine ae_aload_n (pc := 25) dX7_copyFrom_25 rfl ?_
  refine ae_getI (pc := 26) (k := 1) (c := 7) (j := 6) dX7_copyFrom_26 rfl rfl (Or.inl rfl) (Nat.le_of_ble_eq_true rfl) rfl (Nat.le_of_ble_eq_true rfl) rfl ?_
  refine ae_putfield (pc := 29) (k := 94) (c := 7) (j := 6) dX7_copyFrom_29 rfl rfl (Nat.le_of_ble_eq_true rfl) rfl (Nat.le_of_ble_eq_true rfl) rfl rfl ?_
  refine ae_aload_n (pc := 32) dX7_copyFrom_32 rfl ?_
  refine ae_aload_n (pc := 33) dX7_copyFrom_33 rfl ?_
  refine ae_getI (pc := 34) (k := 1) (c := 7) (j := 7) dX7_copyFrom_34 rfl rfl (Or.inr rfl) (Nat.le_of_ble_eq_true rfl) rfl (Nat.le_of_ble_eq_true rfl) rfl ?_
  refine ae_putfieldZ (pc := 37) (k := 94) (c := 7) (j := 7) dX7_copyFrom_37 rfl rfl (Nat.le_of_ble_eq_true rfl) rfl (Nat.le_of_ble_eq_true rfl) rfl h7 ?_
  refine ae_aload_n (pc := 40) dX7_copyFrom_40 rfl ?_
  refine ae_getR (pc := 41) (k := 1) (c := 7) (j := 2) (q := 2) dX7_copyFrom_41 rfl rfl (Nat.le_of_ble_eq_true rfl) rfl (Nat.le_of_ble_eq_true rfl) rfl ?_
  refine ae_iconst (pc := 44) (v := nI 0) dX7_copyFrom_44 (by decide) ?_
  refine ae_aload_n (pc := 45) dX7_copyFrom_45 rfl ?_
  refine ae_getR (pc := 46) (k := 94) (c := 7) (j := 2) (q := 95) dX7_copyFrom_46 rfl rfl (Nat.le_of_ble_eq_true rfl) rfl (Nat.le_of_ble_eq_true rfl) rfl ?_
  refine ae_iconst (pc := 49) (v := nI 0) dX7_copyFrom_49 (by decide) ?_
  refine ae_sipush (pc := 50) (v := nI 256) dX7_copyFrom_50 (by decide) ?_
  refine ae_copy (pc := 53) (s0 := 2) (d0 := 95) 0 0 256 dX7_copyFrom_53 (Or.inl ⟨rfl, rfl⟩) (by decide) (by decide) rfl rfl rfl rfl rfl rfl rfl (Nat.le_of_ble_eq_true rfl) (Nat.le_of_ble_eq_true rfl) (Nat.le_of_ble_eq_true rfl) ?_
  refine ae_aload_n (pc := 56) dX7_copyFrom_56 rfl ?_
  refine ae_getR (pc := 57) (k := 1) (c := 7) (j := 8) (q := 5) dX7_copyFrom_57 rfl rfl (Nat.le_of_ble_eq_true rfl) rfl (Nat.le_of_ble_eq_true rfl) rfl ?_
  refine ae_iconst (pc := 60) (v := nI 0) dX7_copyFrom_60 (by decide) ?_
  refine ae_aload_n (pc := 61) dX7_copyFrom_61 rfl ?_
  refine ae_getR (pc := 62) (k := 94) (c := 7) (j := 8) (q := 98) dX7_copyFrom_62 rfl rfl (Nat.le_of_ble_eq_true rfl) rfl (Nat.le_of_ble_eq_true rfl) rfl ?_
  refine ae_iconst (pc := 65) (v := nI 0) dX7_copyFrom_65 (by decide) ?_
  refine ae_sipush (pc := 66) (v := nI 256) dX7_copyFrom_66 (by decide) ?_
  refine ae_copy (pc := 69) (s0 := 5) (d0 := 98) 0 0 256 dX7_copyFrom_69 (Or.inl ⟨rfl, rfl⟩) (by decide) (by decide) rfl rfl rfl rfl rfl rfl rfl (Nat.le_of_ble_eq_true rfl) (Nat.le_of_ble_eq_true rfl) (Nat.le_of_ble_eq_true rfl) ?_
  refine ae_aload_n (pc := 72) dX7_copyFrom_72 rfl ?_
  refine ae_getR (pc := 73) (k := 1) (c := 7) (j := 4) (q := 3) dX7_copyFrom_73 rfl rfl (Nat.le_of_ble_eq_true rfl) rfl (Nat.le_of_ble_eq_true rfl) rfl ?_
  refine ae_iconst (pc := 76) (v := nI 0) dX7_copyFrom_76 (by decide) ?_
  refine ae_aload_n (pc := 77) dX7_copyFrom_77 rfl ?_
  refine ae_getR (pc := 78) (k := 94) (c := 7) (j := 4) (q := 96) dX7_copyFrom_78 rfl rfl (Nat.le_of_ble_eq_true rfl) rfl (Nat.le_of_ble_eq_true rfl) rfl ?_
  refine ae_iconst (pc := 81) (v := nI 0) dX7_copyFrom_81 (by decide) ?_
  refine ae_bipush (pc := 82) (v := nI 16) dX7_copyFrom_82 (by decide) ?_
  refine ae_copy (pc := 84) (s0 := 3) (d0 := 96) 0 0 16 dX7_copyFrom_84 (Or.inl ⟨rfl, rfl⟩) (by decide) (by decide) rfl rfl rfl rfl rfl rfl rfl (Nat.le_of_ble_eq_true rfl) (Nat.le_of_ble_eq_true rfl) (Nat.le_of_ble_eq_true rfl) ?_
  refine ae_iconst (pc := 87) (v := nI 0) dX7_copyFrom_87 (by decide) ?_
  refine ae_istore_n (pc := 88) dX7_copyFrom_88 rfl (Nat.le_of_ble_eq_true rfl) ?_
  skip
  have key : ∀ N : am_M, N.2 = M.2 → (∀ k, (k < 94 ∨ 98 < k) → N.1 k = M.1 k) → (N.1 94 0 = M.1 1 0 ∧ N.1 94 1 = M.1 1 1 ∧ N.1 94 3 = M.1 1 3 ∧ N.1 94 6 = M.1 1 6 ∧ N.1 94 7 = M.1 1 7) → (∀ q, q < 256 → N.1 95 q = M.1 2 q) → (∀ q, q < 256 → N.1 98 q = M.1 5 q) → (∀ q, q < 16 → N.1 96 q = M.1 3 q) → am_E none (am_R d) cX7_copyFrom 7 none (fun v M' => v = none ∧ M'.2 = M.2 ∧ (∀ k, (k < 94 ∨ 98 < k) → M'.1 k = M.1 k) ∧ (M'.1 94 0 = M.1 1 0 ∧ M'.1 94 1 = M.1 1 1 ∧ M'.1 94 3 = M.1 1 3 ∧ M'.1 94 6 = M.1 1 6 ∧ M'.1 94 7 = M.1 1 7) ∧ (∀ q, q < 256 → M'.1 95 q = M.1 2 q) ∧ (∀ q, q < 256 → M'.1 98 q = M.1 5 q) ∧ (∀ q, q < 16 → M'.1 96 q = M.1 3 q) ∧ (∀ q, q < 16 → M'.1 97 q = vp_nar .boolean (M.1 4 q))) (89, [some (.ref 94), some (.ref 1), some (.int (nI 0))], [], N) := by
    intro N n1 n2 n3 n4 n5 n6
    have lp : ∀ l : fT, (∀ q, q < 0 → l q = vp_nar .boolean (M.1 4 q)) → am_E none (am_R d) cX7_copyFrom 7 none (fun v M' => v = none ∧ M'.2 = M.2 ∧ (∀ k, (k < 94 ∨ 98 < k) → M'.1 k = M.1 k) ∧ (M'.1 94 0 = M.1 1 0 ∧ M'.1 94 1 = M.1 1 1 ∧ M'.1 94 3 = M.1 1 3 ∧ M'.1 94 6 = M.1 1 6 ∧ M'.1 94 7 = M.1 1 7) ∧ (∀ q, q < 256 → M'.1 95 q = M.1 2 q) ∧ (∀ q, q < 256 → M'.1 98 q = M.1 5 q) ∧ (∀ q, q < 16 → M'.1 96 q = M.1 3 q) ∧ (∀ q, q < 16 → M'.1 97 q = vp_nar .boolean (M.1 4 q))) (89, [some (.ref 94), some (.ref 1), some (.int (nI 0))], [], (am_u N.1 97 l, N.2)) := by
      refine am_down (P := fun k => ∀ l : fT, (∀ q, q < k → l q = vp_nar .boolean (M.1 4 q)) → am_E none (am_R d) cX7_copyFrom 7 none _ (89, [some (.ref 94), some (.ref 1), some (.int (nI k))], [], (am_u N.1 97 l, N.2))) 16 (fun k hk ih l hl => ?_)
      have ne : ∀ k, k ≠ 97 → (am_u N.1 97 l) k = N.1 k := fun k hk => am_u_ne _ _ hk
      refine ae_iload_n (pc := 89) dX7_copyFrom_89 rfl ?_
      refine ae_bipush (pc := 90) (v := nI 16) dX7_copyFrom_90 (by decide) ?_
      refine ae_icmp_ge (pc := 92) (t := 113) dX7_copyFrom_92 (by decide) (fun c92 => ?_) (fun c92 => ?_)
      · have hk2 : k = 16 := by rw [nI_leI (by omega) (by omega)] at c92; omega
        subst hk2
        refine ae_return (pc := 113) dX7_copyFrom_113 rfl ?_
        exact ⟨rfl, n1, fun k hk => (ne k (by omega)).trans (n2 k hk), ⟨(congrFun (ne 94 (by decide)) 0).trans n3.1, (congrFun (ne 94 (by decide)) 1).trans n3.2.1, (congrFun (ne 94 (by decide)) 3).trans n3.2.2.1, (congrFun (ne 94 (by decide)) 6).trans n3.2.2.2.1, (congrFun (ne 94 (by decide)) 7).trans n3.2.2.2.2⟩, fun q hq => (congrFun (ne 95 (by decide)) q).trans (n4 q hq), fun q hq => (congrFun (ne 98 (by decide)) q).trans (n5 q hq), fun q hq => (congrFun (ne 96 (by decide)) q).trans (n6 q hq), fun q hq => (congrFun (am_u_self N.1 97 l) q).trans (hl q hq)⟩
      · have hk2 : k < 16 := by rw [nI_leI (by omega) (by omega)] at c92; omega
        refine ae_aload_n (pc := 95) dX7_copyFrom_95 rfl ?_
        refine ae_getR (pc := 96) (k := 94) (c := 7) (j := 5) (q := 97) dX7_copyFrom_96 rfl rfl (Nat.le_of_ble_eq_true rfl) rfl (Nat.le_of_ble_eq_true rfl) rfl ?_
        refine ae_iload_n (pc := 99) dX7_copyFrom_99 rfl ?_
        refine ae_aload_n (pc := 100) dX7_copyFrom_100 rfl ?_
        refine ae_getR (pc := 101) (k := 1) (c := 7) (j := 5) (q := 4) dX7_copyFrom_101 rfl rfl (Nat.le_of_ble_eq_true rfl) rfl (Nat.le_of_ble_eq_true rfl) rfl ?_
        refine ae_iload_n (pc := 104) dX7_copyFrom_104 rfl ?_
        refine ae_baload (pc := 105) (k := 4) (N := 16) (v := M.1 4 k) _ dX7_copyFrom_105 (Nat.le_of_ble_eq_true rfl) rfl rfl rfl (by omega) ((congrFun (ne 4 (by decide)) k).trans (congrFun (n2 4 (by omega)) k)) ?_
        refine ae_bastore (pc := 106) (k := 97) (N := 16) (k) dX7_copyFrom_106 (Nat.le_of_ble_eq_true rfl) rfl rfl rfl (by omega) rfl ?_
        refine ae_M (M' := (am_u N.1 97 (upd l k (vp_nar .boolean (M.1 4 k))), N.2)) (by show ((am_u (am_u N.1 97 l) 97 (upd (am_u N.1 97 l 97) k _), N.2) : am_M) = _; rw [am_u_u, am_u_self]) ?_
        refine ae_iinc (pc := 107) (v := nI (k + 1)) dX7_copyFrom_107 rfl (nI_inc k) ?_
        refine ae_goto (pc := 110) (t := 89) dX7_copyFrom_110 (by decide) ?_
        refine ih hk2 _ (fun q hq => ?_)
        by_cases hqk : q = k
        · subst hqk; exact upd_self _ _ _
        · rw [upd_ne _ _ hqk]; exact hl q (by omega)
    have := lp (N.1 97) (fun q hq => absurd hq (Nat.not_lt_zero q))
    rwa [am_u_eta] at this
  refine key _ rfl (fun k hk => ?_) ?_ (fun q hq => ?_) (fun q hq => ?_) (fun q hq => ?_)
  · have : k ≠ 94 ∧ k ≠ 95 ∧ k ≠ 96 ∧ k ≠ 98 := by omega
    simp [am_u, this.1, this.2.1, this.2.2.1, this.2.2.2]
  · simp [am_u, upd]
  · simp [am_u, va_cpy, hq]
  · simp [am_u, va_cpy, hq]
  · simp [am_u, va_cpy, hq]
theorem sc_copy_1_94 (d : Nat) (M : am_M) (h7 : M.1 94 7 = 0 ∨ M.1 94 7 = 1) : am_R (d + 1) zX7_copyFrom [.ref 1, .ref 94] M (fun v M' => v = none ∧ M'.2 = M.2 ∧ (∀ k, (k < 1 ∨ 5 < k) → M'.1 k = M.1 k) ∧ (M'.1 1 0 = M.1 94 0 ∧ M'.1 1 1 = M.1 94 1 ∧ M'.1 1 3 = M.1 94 3 ∧ M'.1 1 6 = M.1 94 6 ∧ M'.1 1 7 = M.1 94 7) ∧ (∀ q, q < 256 → M'.1 2 q = M.1 95 q) ∧ (∀ q, q < 256 → M'.1 5 q = M.1 98 q) ∧ (∀ q, q < 16 → M'.1 3 q = M.1 96 q) ∧ (∀ q, q < 16 → M'.1 4 q = vp_nar .boolean (M.1 97 q))) := by
  refine ae_enter (z := zX7_copyFrom) (y := yX7_copyFrom) (cc := cX7_copyFrom) (mL := 3) (rt := none) (ci := 7) (st := false) (np := 1) (L := [some (.ref 1), some (.ref 94), none]) rfl (by decide) (Nat.le_of_ble_eq_true rfl) rfl ?_
  refine ae_aload_n (pc := 0) dX7_copyFrom_0 rfl ?_
  refine ae_aload_n (pc := 1) dX7_copyFrom_1 rfl ?_
  refine ae_getI (pc := 2) (k := 94) (c := 7) (j := 0) dX7_copyFrom_2 rfl rfl (Or.inl rfl) (Nat.le_of_ble_eq_true rfl) rfl (Nat.le_of_ble_eq_true rfl) rfl ?_
  refine ae_putfield (pc := 5) (k := 1) (c := 7) (j := 0) dX7_copyFrom_5 rfl rfl (Nat.le_of_ble_eq_true rfl) rfl (Nat.le_of_ble_eq_true rfl) rfl rfl ?_
  refine ae_aload_n (pc := 8) dX7_copyFrom_8 rfl ?_
  refine ae_aload_n (pc := 9) dX7_copyFrom_9 rfl ?_
  refine ae_getI (pc := 10) (k := 94) (c := 7) (j := 1) dX7_copyFrom_10 rfl rfl (Or.inl rfl) (Nat.le_of_ble_eq_true rfl) rfl (Nat.le_of_ble_eq_true rfl) rfl ?_
  refine ae_putfield (pc := 13) (k := 1) (c := 7) (j := 1) dX7_copyFrom_13 rfl rfl (Nat.le_of_ble_eq_true rfl) rfl (Nat.le_of_ble_eq_true rfl) rfl rfl ?_
  refine ae_aload_n (pc := 16) dX7_copyFrom_16 rfl ?_
  refine ae_aload_n (pc := 17) dX7_copyFrom_17 rfl ?_
  refine ae_getI (pc := 18) (k := 94) (c := 7) (j := 3) dX7_copyFrom_18 rfl rfl (Or.inl rfl) (Nat.le_of_ble_eq_true rfl) rfl (Nat.le_of_ble_eq_true rfl) rfl ?_
  refine ae_putfield (pc := 21) (k := 1) (c := 7) (j := 3) dX7_copyFrom_21 rfl rfl (Nat.le_of_ble_eq_true rfl) rfl (Nat.le_of_ble_eq_true rfl) rfl rfl ?_
  refine ae_aload_n (pc := 24) dX7_copyFrom_24 rfl ?_
  refine ae_aload_n (pc := 25) dX7_copyFrom_25 rfl ?_
  refine ae_getI (pc := 26) (k := 94) (c := 7) (j := 6) dX7_copyFrom_26 rfl rfl (Or.inl rfl) (Nat.le_of_ble_eq_true rfl) rfl (Nat.le_of_ble_eq_true rfl) rfl ?_
  refine ae_putfield (pc := 29) (k := 1) (c := 7) (j := 6) dX7_copyFrom_29 rfl rfl (Nat.le_of_ble_eq_true rfl) rfl (Nat.le_of_ble_eq_true rfl) rfl rfl ?_
  refine ae_aload_n (pc := 32) dX7_copyFrom_32 rfl ?_
  refine ae_aload_n (pc := 33) dX7_copyFrom_33 rfl ?_
  refine ae_getI (pc := 34) (k := 94) (c := 7) (j := 7) dX7_copyFrom_34 rfl rfl (Or.inr rfl) (Nat.le_of_ble_eq_true rfl) rfl (Nat.le_of_ble_eq_true rfl) rfl ?_
  refine ae_putfieldZ (pc := 37) (k := 1) (c := 7) (j := 7) dX7_copyFrom_37 rfl rfl (Nat.le_of_ble_eq_true rfl) rfl (Nat.le_of_ble_eq_true rfl) rfl h7 ?_
  refine ae_aload_n (pc := 40) dX7_copyFrom_40 rfl ?_
  refine ae_getR (pc := 41) (k := 94) (c := 7) (j := 2) (q := 95) dX7_copyFrom_41 rfl rfl (Nat.le_of_ble_eq_true rfl) rfl (Nat.le_of_ble_eq_true rfl) rfl ?_
  refine ae_iconst (pc := 44) (v := nI 0) dX7_copyFrom_44 (by decide) ?_
  refine ae_aload_n (pc := 45) dX7_copyFrom_45 rfl ?_
  refine ae_getR (pc := 46) (k := 1) (c := 7) (j := 2) (q := 2) dX7_copyFrom_46 rfl rfl (Nat.le_of_ble_eq_true rfl) rfl (Nat.le_of_ble_eq_true rfl) rfl ?_
  refine ae_iconst (pc := 49) (v := nI 0) dX7_copyFrom_49 (by decide) ?_
  refine ae_sipush (pc := 50) (v := nI 256) dX7_copyFrom_50 (by decide) ?_
  refine ae_copy (pc := 53) (s0 := 95) (d0 := 2) 0 0 256 dX7_copyFrom_53 (Or.inl ⟨rfl, rfl⟩) (by decide) (by decide) rfl rfl rfl rfl rfl rfl rfl (Nat.le_of_ble_eq_true rfl) (Nat.le_of_ble_eq_true rfl) (Nat.le_of_ble_eq_true rfl) ?_
  refine ae_aload_n (pc := 56) dX7_copyFrom_56 rfl ?_
  refine ae_getR (pc := 57) (k := 94) (c := 7) (j := 8) (q := 98) dX7_copyFrom_57 rfl rfl (Nat.le_of_ble_eq_true rfl) rfl (Nat.le_of_ble_eq_true rfl) rfl ?_
  refine ae_iconst (pc := 60) (v := nI 0) dX7_copyFrom_60 (by decide) ?_
  refine ae_aload_n (pc := 61) dX7_copyFrom_61 rfl ?_
  refine ae_getR (pc := 62) (k := 1) (c := 7) (j := 8) (q := 5) dX7_copyFrom_62 rfl rfl (Nat.le_of_ble_eq_true rfl) rfl (Nat.le_of_ble_eq_true rfl) rfl ?_
  refine ae_iconst (pc := 65) (v := nI 0) dX7_copyFrom_65 (by decide) ?_
  refine ae_sipush (pc := 66) (v := nI 256) dX7_copyFrom_66 (by decide) ?_
  refine ae_copy (pc := 69) (s0 := 98) (d0 := 5) 0 0 256 dX7_copyFrom_69 (Or.inl ⟨rfl, rfl⟩) (by decide) (by decide) rfl rfl rfl rfl rfl rfl rfl (Nat.le_of_ble_eq_true rfl) (Nat.le_of_ble_eq_true rfl) (Nat.le_of_ble_eq_true rfl) ?_
  refine ae_aload_n (pc := 72) dX7_copyFrom_72 rfl ?_
  refine ae_getR (pc := 73) (k := 94) (c := 7) (j := 4) (q := 96) dX7_copyFrom_73 rfl rfl (Nat.le_of_ble_eq_true rfl) rfl (Nat.le_of_ble_eq_true rfl) rfl ?_
  refine ae_iconst (pc := 76) (v := nI 0) dX7_copyFrom_76 (by decide) ?_
  refine ae_aload_n (pc := 77) dX7_copyFrom_77 rfl ?_
  refine ae_getR (pc := 78) (k := 1) (c := 7) (j := 4) (q := 3) dX7_copyFrom_78 rfl rfl (Nat.le_of_ble_eq_true rfl) rfl (Nat.le_of_ble_eq_true rfl) rfl ?_
  refine ae_iconst (pc := 81) (v := nI 0) dX7_copyFrom_81 (by decide) ?_
  refine ae_bipush (pc := 82) (v := nI 16) dX7_copyFrom_82 (by decide) ?_
  refine ae_copy (pc := 84) (s0 := 96) (d0 := 3) 0 0 16 dX7_copyFrom_84 (Or.inl ⟨rfl, rfl⟩) (by decide) (by decide) rfl rfl rfl rfl rfl rfl rfl (Nat.le_of_ble_eq_true rfl) (Nat.le_of_ble_eq_true rfl) (Nat.le_of_ble_eq_true rfl) ?_
  refine ae_iconst (pc := 87) (v := nI 0) dX7_copyFrom_87 (by decide) ?_
  refine ae_istore_n (pc := 88) dX7_copyFrom_88 rfl (Nat.le_of_ble_eq_true rfl) ?_
  skip
  have key : ∀ N : am_M, N.2 = M.2 → (∀ k, (k < 1 ∨ 5 < k) → N.1 k = M.1 k) → (N.1 1 0 = M.1 94 0 ∧ N.1 1 1 = M.1 94 1 ∧ N.1 1 3 = M.1 94 3 ∧ N.1 1 6 = M.1 94 6 ∧ N.1 1 7 = M.1 94 7) → (∀ q, q < 256 → N.1 2 q = M.1 95 q) → (∀ q, q < 256 → N.1 5 q = M.1 98 q) → (∀ q, q < 16 → N.1 3 q = M.1 96 q) → am_E none (am_R d) cX7_copyFrom 7 none (fun v M' => v = none ∧ M'.2 = M.2 ∧ (∀ k, (k < 1 ∨ 5 < k) → M'.1 k = M.1 k) ∧ (M'.1 1 0 = M.1 94 0 ∧ M'.1 1 1 = M.1 94 1 ∧ M'.1 1 3 = M.1 94 3 ∧ M'.1 1 6 = M.1 94 6 ∧ M'.1 1 7 = M.1 94 7) ∧ (∀ q, q < 256 → M'.1 2 q = M.1 95 q) ∧ (∀ q, q < 256 → M'.1 5 q = M.1 98 q) ∧ (∀ q, q < 16 → M'.1 3 q = M.1 96 q) ∧ (∀ q, q < 16 → M'.1 4 q = vp_nar .boolean (M.1 97 q))) (89, [some (.ref 1), some (.ref 94), some (.int (nI 0))], [], N) := by
    intro N n1 n2 n3 n4 n5 n6
    have lp : ∀ l : fT, (∀ q, q < 0 → l q = vp_nar .boolean (M.1 97 q)) → am_E none (am_R d) cX7_copyFrom 7 none (fun v M' => v = none ∧ M'.2 = M.2 ∧ (∀ k, (k < 1 ∨ 5 < k) → M'.1 k = M.1 k) ∧ (M'.1 1 0 = M.1 94 0 ∧ M'.1 1 1 = M.1 94 1 ∧ M'.1 1 3 = M.1 94 3 ∧ M'.1 1 6 = M.1 94 6 ∧ M'.1 1 7 = M.1 94 7) ∧ (∀ q, q < 256 → M'.1 2 q = M.1 95 q) ∧ (∀ q, q < 256 → M'.1 5 q = M.1 98 q) ∧ (∀ q, q < 16 → M'.1 3 q = M.1 96 q) ∧ (∀ q, q < 16 → M'.1 4 q = vp_nar .boolean (M.1 97 q))) (89, [some (.ref 1), some (.ref 94), some (.int (nI 0))], [], (am_u N.1 4 l, N.2)) := by
      refine am_down (P := fun k => ∀ l : fT, (∀ q, q < k → l q = vp_nar .boolean (M.1 97 q)) → am_E none (am_R d) cX7_copyFrom 7 none _ (89, [some (.ref 1), some (.ref 94), some (.int (nI k))], [], (am_u N.1 4 l, N.2))) 16 (fun k hk ih l hl => ?_)
      have ne : ∀ k, k ≠ 4 → (am_u N.1 4 l) k = N.1 k := fun k hk => am_u_ne _ _ hk
      refine ae_iload_n (pc := 89) dX7_copyFrom_89 rfl ?_
      refine ae_bipush (pc := 90) (v := nI 16) dX7_copyFrom_90 (by decide) ?_
      refine ae_icmp_ge (pc := 92) (t := 113) dX7_copyFrom_92 (by decide) (fun c92 => ?_) (fun c92 => ?_)
      · have hk2 : k = 16 := by rw [nI_leI (by omega) (by omega)] at c92; omega
        subst hk2
        refine ae_return (pc := 113) dX7_copyFrom_113 rfl ?_
        exact ⟨rfl, n1, fun k hk => (ne k (by omega)).trans (n2 k hk), ⟨(congrFun (ne 1 (by decide)) 0).trans n3.1, (congrFun (ne 1 (by decide)) 1).trans n3.2.1, (congrFun (ne 1 (by decide)) 3).trans n3.2.2.1, (congrFun (ne 1 (by decide)) 6).trans n3.2.2.2.1, (congrFun (ne 1 (by decide)) 7).trans n3.2.2.2.2⟩, fun q hq => (congrFun (ne 2 (by decide)) q).trans (n4 q hq), fun q hq => (congrFun (ne 5 (by decide)) q).trans (n5 q hq), fun q hq => (congrFun (ne 3 (by decide)) q).trans (n6 q hq), fun q hq => (congrFun (am_u_self N.1 4 l) q).trans (hl q hq)⟩
      · have hk2 : k < 16 := by rw [nI_leI (by omega) (by omega)] at c92; omega
        refine ae_aload_n (pc := 95) dX7_copyFrom_95 rfl ?_
        refine ae_getR (pc := 96) (k := 1) (c := 7) (j := 5) (q := 4) dX7_copyFrom_96 rfl rfl (Nat.le_of_ble_eq_true rfl) rfl (Nat.le_of_ble_eq_true rfl) rfl ?_
        refine ae_iload_n (pc := 99) dX7_copyFrom_99 rfl ?_
        refine ae_aload_n (pc := 100) dX7_copyFrom_100 rfl ?_
        refine ae_getR (pc := 101) (k := 94) (c := 7) (j := 5) (q := 97) dX7_copyFrom_101 rfl rfl (Nat.le_of_ble_eq_true rfl) rfl (Nat.le_of_ble_eq_true rfl) rfl ?_
        refine ae_iload_n (pc := 104) dX7_copyFrom_104 rfl ?_
        refine ae_baload (pc := 105) (k := 97) (N := 16) (v := M.1 97 k) _ dX7_copyFrom_105 (Nat.le_of_ble_eq_true rfl) rfl rfl rfl (by omega) ((congrFun (ne 97 (by decide)) k).trans (congrFun (n2 97 (by omega)) k)) ?_
        refine ae_bastore (pc := 106) (k := 4) (N := 16) (k) dX7_copyFrom_106 (Nat.le_of_ble_eq_true rfl) rfl rfl rfl (by omega) rfl ?_
        refine ae_M (M' := (am_u N.1 4 (upd l k (vp_nar .boolean (M.1 97 k))), N.2)) (by show ((am_u (am_u N.1 4 l) 4 (upd (am_u N.1 4 l 4) k _), N.2) : am_M) = _; rw [am_u_u, am_u_self]) ?_
        refine ae_iinc (pc := 107) (v := nI (k + 1)) dX7_copyFrom_107 rfl (nI_inc k) ?_
        refine ae_goto (pc := 110) (t := 89) dX7_copyFrom_110 (by decide) ?_
        refine ih hk2 _ (fun q hq => ?_)
        by_cases hqk : q = k
        · subst hqk; exact upd_self _ _ _
        · rw [upd_ne _ _ hqk]; exact hl q (by omega)
    have := lp (N.1 4) (fun q hq => absurd hq (Nat.not_lt_zero q))
    rwa [am_u_eta] at this
  refine key _ rfl (fun k hk => ?_) ?_ (fun q hq => ?_) (fun q hq => ?_) (fun q hq => ?_)
  · have : k ≠ 1 ∧ k ≠ 2 ∧ k ≠ 3 ∧ k ≠ 5 := by omega
    simp [am_u, this.1, this.2.1, this.2.2.1, this.2.2.2]
  · simp [am_u, upd]
  · simp [am_u, va_cpy, hq]
  · simp [am_u, va_cpy, hq]
  · simp [am_u, va_cpy, hq]

