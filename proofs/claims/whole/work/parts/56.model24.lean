theorem sm_bitsOf0 (d : Nat) (M : am_M) : am_R (d + 1) zX11_bitsOf [.float 0] M (fun v M' => v = some (.int (nI 0)) ∧ M' = M) := by
  refine ae_enter (z := zX11_bitsOf) (y := yX11_bitsOf) (cc := cX11_bitsOf) (mL := 3) (rt := some .int) (ci := 11) (st := true) (np := 1) (L := [some (.float 0), none, none]) rfl (by decide) (Nat.le_of_ble_eq_true rfl) rfl ?_
  refine ae_fload_n (pc := 0) dX11_bitsOf_0 rfl ?_
  refine ae_fconst (pc := 1) dX11_bitsOf_1 rfl ?_
  refine ae_fcmp (pc := 2) (v := 0) dX11_bitsOf_2 (by decide) ?_
  refine ae_if_ne (pc := 3) (t := 8) dX11_bitsOf_3 (by decide) (fun c3 => ?_) (fun c3 => ?_)
  · exact absurd rfl c3
  · refine ae_iconst (pc := 6) (v := nI 0) dX11_bitsOf_6 (by decide) ?_
    refine ae_ireturn (pc := 7) dX11_bitsOf_7 rfl ?_
    exact ⟨rfl, rfl⟩
theorem sm_bitsOf (d : Nat) (M : am_M) (x : UInt32) (c : Nat) (q : Int) (h : NF x c q) (h1 : -40 ≤ q) (h2 : q ≤ 40) : am_R (d + 1) zX11_bitsOf [.float x] M (fun v M' => v = some (.int (nI x.toNat)) ∧ M' = M) := by
  refine ae_enter (z := zX11_bitsOf) (y := yX11_bitsOf) (cc := cX11_bitsOf) (mL := 3) (rt := some .int) (ci := 11) (st := true) (np := 1) (L := [some (.float x), none, none]) rfl (by decide) (Nat.le_of_ble_eq_true rfl) rfl ?_
  have end44 : ∀ y, NF y c (-23) → am_E none (am_R d) cX11_bitsOf 11 (some .int) (fun v M' => v = some (.int (nI x.toNat)) ∧ M' = M) (44, [some (.float x), some (.int (Int32.ofInt (q + 23))), some (.float y)], [], M) := by
    intro y hy
    have hm := NF_mul hy NF_K (by omega) (by omega) (by omega)
    have e1 : Int32.ofInt (q + 23) + nI 126 = nI (q + 149).toNat := by
      show Int32.ofInt (q + 23) + Int32.ofNat 126 = Int32.ofNat _
      rw [← Int32.ofInt_eq_ofNat, ← Int32.ofInt_eq_ofNat, ← Int32.ofInt_add]
      congr 1
      omega
    refine ae_iload_n (pc := 44) dX11_bitsOf_44 rfl ?_
    refine ae_bipush (pc := 45) (v := nI 126) dX11_bitsOf_45 (by decide) ?_
    refine ae_iadd (pc := 47) (v := nI (q + 149).toNat) dX11_bitsOf_47 e1 ?_
    refine ae_bipush (pc := 48) (v := nI 23) dX11_bitsOf_48 (by decide) ?_
    refine ae_ishl (pc := 50) (v := nI ((q + 149).toNat * 8388608)) dX11_bitsOf_50 (sh23 _ (by omega)) ?_
    refine ae_fload_n (pc := 51) dX11_bitsOf_51 rfl ?_
    refine ae_ldc_w (pc := 52) dX11_bitsOf_52 rfl rfl ?_
    refine ae_fmul (pc := 55) dX11_bitsOf_55 (NF_n hm) rfl ?_
    refine ae_f2i (pc := 56) (v := nI c) dX11_bitsOf_56 (NF_f2i hm) ?_
    refine ae_iadd (pc := 57) (v := nI x.toNat) dX11_bitsOf_57 (by rw [nI_add, h.1]) ?_
    refine ae_ireturn (pc := 58) dX11_bitsOf_58 rfl ?_
    exact ⟨rfl, rfl⟩
  have up : ∀ (m : Nat) (y : UInt32) (w z : Int), NF y c w → w + (m : Int) = -23 → m ≤ 50 → z = q - w → am_E none (am_R d) cX11_bitsOf 11 (some .int) (fun v M' => v = some (.int (nI x.toNat)) ∧ M' = M) (28, [some (.float x), some (.int (Int32.ofInt z)), some (.float y)], [], M) := by
    intro m
    induction m with
    | zero =>
      intro y w z hy hw hm9 hz
      have hw2 : w = -23 := by omega
      subst hw2
      have hz2 : z = q + 23 := by omega
      subst hz2
      refine ae_fload_n (pc := 28) dX11_bitsOf_28 rfl ?_
      refine ae_fconst (pc := 29) (v := FP.fconst1) dX11_bitsOf_29 rfl ?_
      refine ae_fcmp (pc := 30) dX11_bitsOf_30 rfl ?_
      refine ae_if_ge (pc := 31) (t := 44) dX11_bitsOf_31 (by decide) (fun c31 => ?_) (fun c31 => ?_)
      · exact end44 y hy
      · exact absurd (NF_ge hy NF_1 (by omega)) c31
    | succ m ih =>
      intro y w z hy hw hm9 hz
      have hy4 := hy.2.2.2
      have hm := NF_mul hy NF_2 (by omega) (by omega) (by omega)
      refine ae_fload_n (pc := 28) dX11_bitsOf_28 rfl ?_
      refine ae_fconst (pc := 29) (v := FP.fconst1) dX11_bitsOf_29 rfl ?_
      refine ae_fcmp (pc := 30) (v := (-1)) dX11_bitsOf_30 (NF_lt hy NF_1 (by omega)) ?_
      refine ae_if_ge (pc := 31) (t := 44) dX11_bitsOf_31 (by decide) (fun c31 => ?_) (fun c31 => ?_)
      · exact absurd c31 (by decide)
      refine ae_fload_n (pc := 34) dX11_bitsOf_34 rfl ?_
      refine ae_fconst (pc := 35) (v := FP.fconst2) dX11_bitsOf_35 rfl ?_
      refine ae_fmul (pc := 36) dX11_bitsOf_36 (NF_n hm) rfl ?_
      refine ae_fstore_n (pc := 37) dX11_bitsOf_37 rfl (Nat.le_of_ble_eq_true rfl) ?_
      refine ae_iinc (pc := 38) (v := Int32.ofInt (z - 1)) dX11_bitsOf_38 rfl (by rw [← Int32.ofInt_add]; rfl) ?_
      refine ae_goto (pc := 41) (t := 28) dX11_bitsOf_41 (by decide) ?_
      exact ih _ _ _ hm (by omega) (by omega) (by omega)
  have dn : ∀ (m : Nat) (y : UInt32) (w z : Int), NF y c w → w = -23 + (m : Int) → m ≤ 70 → z = q - w → am_E none (am_R d) cX11_bitsOf 11 (some .int) (fun v M' => v = some (.int (nI x.toNat)) ∧ M' = M) (12, [some (.float x), some (.int (Int32.ofInt z)), some (.float y)], [], M) := by
    intro m
    induction m with
    | zero =>
      intro y w z hy hw hm9 hz
      refine ae_fload_n (pc := 12) dX11_bitsOf_12 rfl ?_
      refine ae_fconst (pc := 13) (v := FP.fconst2) dX11_bitsOf_13 rfl ?_
      refine ae_fcmp (pc := 14) (v := (-1)) dX11_bitsOf_14 (NF_lt hy NF_2 (by omega)) ?_
      refine ae_if_lt (pc := 15) (t := 28) dX11_bitsOf_15 (by decide) (fun c15 => ?_) (fun c15 => ?_)
      · exact up 0 y w z hy (by omega) (by omega) hz
      · exact absurd (by decide) c15
    | succ m ih =>
      intro y w z hy hw hm9 hz
      have hy4 := hy.2.2.2
      have hm := NF_div hy NF_2 (by omega) (by omega)
      refine ae_fload_n (pc := 12) dX11_bitsOf_12 rfl ?_
      refine ae_fconst (pc := 13) (v := FP.fconst2) dX11_bitsOf_13 rfl ?_
      refine ae_fcmp (pc := 14) dX11_bitsOf_14 rfl ?_
      refine ae_if_lt (pc := 15) (t := 28) dX11_bitsOf_15 (by decide) (fun c15 => ?_) (fun c15 => ?_)
      · exact absurd c15 (Int32.not_lt.mpr (NF_ge hy NF_2 (by omega)))
      refine ae_fload_n (pc := 18) dX11_bitsOf_18 rfl ?_
      refine ae_fconst (pc := 19) (v := FP.fconst2) dX11_bitsOf_19 rfl ?_
      refine ae_fdiv (pc := 20) dX11_bitsOf_20 (NF_n hm) rfl ?_
      refine ae_fstore_n (pc := 21) dX11_bitsOf_21 rfl (Nat.le_of_ble_eq_true rfl) ?_
      refine ae_iinc (pc := 22) (v := Int32.ofInt (z + 1)) dX11_bitsOf_22 rfl (by rw [← Int32.ofInt_add]) ?_
      refine ae_goto (pc := 25) (t := 12) dX11_bitsOf_25 (by decide) ?_
      exact ih _ _ _ hm (by omega) (by omega) (by omega)
  have fin : am_E none (am_R d) cX11_bitsOf 11 (some .int) (fun v M' => v = some (.int (nI x.toNat)) ∧ M' = M) (12, [some (.float x), some (.int (Int32.ofInt 0)), some (.float x)], [], M) := by
    rcases Int.le_total q (-23) with hq | hq
    · have := up (-23 - q).toNat x q (q - q) h (by omega) (by omega) rfl
      rw [Int.sub_self] at this
      refine ae_fload_n (pc := 12) dX11_bitsOf_12 rfl ?_
      refine ae_fconst (pc := 13) (v := FP.fconst2) dX11_bitsOf_13 rfl ?_
      refine ae_fcmp (pc := 14) (v := (-1)) dX11_bitsOf_14 (NF_lt h NF_2 (by omega)) ?_
      refine ae_if_lt (pc := 15) (t := 28) dX11_bitsOf_15 (by decide) (fun c15 => ?_) (fun c15 => ?_)
      · exact this
      · exact absurd (by decide) c15
    · have := dn (q + 23).toNat x q (q - q) h (by omega) (by omega) rfl
      rw [Int.sub_self] at this
      exact this
  refine ae_fload_n (pc := 0) dX11_bitsOf_0 rfl ?_
  refine ae_fconst (pc := 1) (v := FP.fconst0) dX11_bitsOf_1 rfl ?_
  refine ae_fcmp (pc := 2) (v := 1) dX11_bitsOf_2 (NF_gt0 h) ?_
  refine ae_if_ne (pc := 3) (t := 8) dX11_bitsOf_3 (by decide) (fun c3 => ?_) (fun c3 => ?_)
  · refine ae_iconst (pc := 8) (v := nI 0) dX11_bitsOf_8 (by decide) ?_
    refine ae_istore_n (pc := 9) dX11_bitsOf_9 rfl (Nat.le_of_ble_eq_true rfl) ?_
    refine ae_fload_n (pc := 10) dX11_bitsOf_10 rfl ?_
    refine ae_fstore_n (pc := 11) dX11_bitsOf_11 rfl (Nat.le_of_ble_eq_true rfl) ?_
    exact fin
  · exact absurd (Classical.not_not.mp c3) (by decide)
theorem sm_meanError0 (d : Nat) (M : am_M) (h : M.1 34 292 = 0) : am_R (d + 1) zX11_meanError [.ref 33] M (fun v M' => v = some (.int (-3)) ∧ M' = M) := by
  refine ae_enter (z := zX11_meanError) (y := yX11_meanError) (cc := cX11_meanError) (mL := 2) (rt := some .int) (ci := 11) (st := false) (np := 0) (L := [some (.ref 33), none]) rfl (by decide) (Nat.le_of_ble_eq_true rfl) rfl ?_
  refine ae_aload_n (pc := 0) dX11_meanError_0 rfl ?_
  refine ae_getR (pc := 1) (k := 33) (c := 11) (j := 0) (q := 34) dX11_meanError_1 rfl rfl (Nat.le_of_ble_eq_true rfl) rfl (Nat.le_of_ble_eq_true rfl) rfl ?_
  refine ae_sipush (pc := 4) (v := nI 292) dX11_meanError_4 (by decide) ?_
  refine ae_iaload (pc := 7) (k := 34) (N := 549) _ dX11_meanError_7 (Nat.le_of_ble_eq_true rfl) rfl rfl rfl (by omega) rfl ?_
  refine ae_if_ne (pc := 8) (t := 14) dX11_meanError_8 (by decide) (fun c8 => ?_) (fun c8 => ?_)
  · exact absurd h c8
  · refine ae_bipush (pc := 11) (v := (-3)) dX11_meanError_11 (by decide) ?_
    refine ae_ireturn (pc := 13) dX11_meanError_13 rfl ?_
    exact ⟨rfl, rfl⟩
theorem sm_meanError (d : Nat) (M : am_M) (hf : wf (M.1 34)) (h1 : M.1 34 292 = 1) : am_R (d + 5) zX11_meanError [.ref 33] M (fun v M' => v = some (.int (meV (M.1 34))) ∧ M' = M) := by
  refine ae_enter (z := zX11_meanError) (y := yX11_meanError) (cc := cX11_meanError) (mL := 2) (rt := some .int) (ci := 11) (st := false) (np := 0) (L := [some (.ref 33), none]) rfl (by decide) (Nat.le_of_ble_eq_true rfl) rfl ?_
  have hA := fA_le hf.1
  have hO := opq_le (M.1 34) (fA (M.1 34))
  by_cases ho : opq (M.1 34) (fA (M.1 34)) = 0
  · have hop := sm_opaque (d + 2) M hf.1
    rw [ho] at hop
    refine ae_aload_n (pc := 0) dX11_meanError_0 rfl ?_
    refine ae_getR (pc := 1) (k := 33) (c := 11) (j := 0) (q := 34) dX11_meanError_1 rfl rfl (Nat.le_of_ble_eq_true rfl) rfl (Nat.le_of_ble_eq_true rfl) rfl ?_
    refine ae_sipush (pc := 4) (v := nI 292) dX11_meanError_4 (by decide) ?_
    refine ae_iaload (pc := 7) (k := 34) (N := 549) _ dX11_meanError_7 (Nat.le_of_ble_eq_true rfl) rfl rfl rfl (by omega) rfl ?_
    refine ae_if_ne (pc := 8) (t := 14) dX11_meanError_8 (by decide) (fun c8 => ?_) (fun c8 => ?_)
    rotate_left
    · exact absurd (h1.symm.trans (Classical.not_not.mp c8)) (by decide)
    refine ae_aload_n (pc := 14) dX11_meanError_14 rfl ?_
    refine ae_pcallV (pc := 15) (z := zX11_opaque) (k := 33) (As := []) dX11_meanError_15 rfl rfl rfl rfl (Nat.le_of_ble_eq_true rfl) rfl (Nat.le_of_ble_eq_true rfl) (Nat.le_of_ble_eq_true rfl) (hop) ?_
    refine ae_istore_n (pc := 18) dX11_meanError_18 rfl (Nat.le_of_ble_eq_true rfl) ?_
    refine ae_iload_n (pc := 19) dX11_meanError_19 rfl ?_
    refine ae_if_ne (pc := 20) (t := 27) dX11_meanError_20 (by decide) (fun c20 => ?_) (fun c20 => ?_)
    · exact absurd rfl c20
    · refine ae_iconst (pc := 23) (v := (-1)) dX11_meanError_23 (by decide) ?_
      refine ae_goto (pc := 24) (t := 38) dX11_meanError_24 (by decide) ?_
      refine ae_ireturn (pc := 38) dX11_meanError_38 rfl ?_
      exact ⟨by unfold meV; rw [if_pos ho], rfl⟩
  · obtain ⟨m1, m2⟩ := meX_ok hf.1 (by omega)
    have hb : am_R (d + 4) zX11_bitsOf [.float (meX (M.1 34))] M (fun v M' => v = some (.int (nI (meX (M.1 34)).toNat)) ∧ M' = M) := by
      rcases m2 with z | ⟨c, q, x1, x2, x3⟩
      · rw [z]; exact sm_bitsOf0 (d + 3) M
      · exact sm_bitsOf (d + 3) M _ c q x1 x2 (by omega)
    refine ae_aload_n (pc := 0) dX11_meanError_0 rfl ?_
    refine ae_getR (pc := 1) (k := 33) (c := 11) (j := 0) (q := 34) dX11_meanError_1 rfl rfl (Nat.le_of_ble_eq_true rfl) rfl (Nat.le_of_ble_eq_true rfl) rfl ?_
    refine ae_sipush (pc := 4) (v := nI 292) dX11_meanError_4 (by decide) ?_
    refine ae_iaload (pc := 7) (k := 34) (N := 549) _ dX11_meanError_7 (Nat.le_of_ble_eq_true rfl) rfl rfl rfl (by omega) rfl ?_
    refine ae_if_ne (pc := 8) (t := 14) dX11_meanError_8 (by decide) (fun c8 => ?_) (fun c8 => ?_)
    rotate_left
    · exact absurd (h1.symm.trans (Classical.not_not.mp c8)) (by decide)
    refine ae_aload_n (pc := 14) dX11_meanError_14 rfl ?_
    refine ae_pcallV (pc := 15) (z := zX11_opaque) (k := 33) (As := []) dX11_meanError_15 rfl rfl rfl rfl (Nat.le_of_ble_eq_true rfl) rfl (Nat.le_of_ble_eq_true rfl) (Nat.le_of_ble_eq_true rfl) (sm_opaque (d + 2) M hf.1) ?_
    refine ae_istore_n (pc := 18) dX11_meanError_18 rfl (Nat.le_of_ble_eq_true rfl) ?_
    refine ae_iload_n (pc := 19) dX11_meanError_19 rfl ?_
    refine ae_if_ne (pc := 20) (t := 27) dX11_meanError_20 (by decide) (fun c20 => ?_) (fun c20 => ?_)
    · refine ae_aload_n (pc := 27) dX11_meanError_27 rfl ?_
      refine ae_pcallV (pc := 28) (z := zX11_error) (k := 33) (As := []) dX11_meanError_28 rfl rfl rfl rfl (Nat.le_of_ble_eq_true rfl) rfl (Nat.le_of_ble_eq_true rfl) (Nat.le_of_ble_eq_true rfl) (sm_error d M hf h1) ?_
      refine ae_i2f (pc := 31) dX11_meanError_31 rfl ?_
      refine ae_iload_n (pc := 32) dX11_meanError_32 rfl ?_
      refine ae_i2f (pc := 33) dX11_meanError_33 rfl ?_
      refine ae_fdiv (pc := 34) (v := meX (M.1 34)) dX11_meanError_34 m1 rfl ?_
      refine ae_pcallS (pc := 35) (z := zX11_bitsOf) (As := [_]) dX11_meanError_35 rfl rfl rfl rfl (Nat.le_of_ble_eq_true rfl) (hb) ?_
      refine ae_ireturn (pc := 38) dX11_meanError_38 rfl ?_
      exact ⟨by unfold meV; rw [if_neg ho], rfl⟩
    · exact absurd (Classical.not_not.mp c20) (nI_ne0 (by omega) (by omega))
theorem sm_count (d : Nat) (M : am_M) (hf : wf (M.1 34)) (k : Nat) (hk : k < 10) : am_R (d + 3) zX11_count [.ref 33, .int (nI k)] M (fun v M' => v = some (.int (cnt (M.1 34) (M.1 33 2) (M.1 33 4) k)) ∧ M' = M) := by
  match k, hk with
  | 0, _ => exact sm_count_0 d M hf
  | 1, _ => exact sm_count_1 d M hf
  | 2, _ => exact sm_count_2 d M hf
  | 3, _ => exact sm_count_3 d M hf
  | 4, _ => exact sm_count_4 d M hf
  | 5, _ => exact sm_count_5 d M hf
  | 6, _ => exact sm_count_6 d M hf
  | 7, _ => exact sm_count_7 d M hf
  | 8, _ => exact sm_count_8 d M hf
  | 9, _ => exact sm_count_9 d M hf
theorem sm_entry (d : Nat) (M : am_M) (hf : wf0 (M.1 34)) (e : Nat) (he : e < fN (M.1 34)) (k : Nat) (hk : k < 4) : am_R (d + 6) zX11_entry [.ref 33, .int (nI e), .int (nI k)] M (fun v M' => v = some (.int (ent (M.1 34) e k)) ∧ ∃ S, M' = (am_u M.1 42 S, M.2)) := by
  have id2 : M = (am_u M.1 42 (M.1 42), M.2) := by rw [am_u_eta]
  match k, hk with
  | 0, _ => exact (sm_entry_0 d M hf e he).mono (fun v M' h => ⟨h.1, M.1 42, h.2.trans id2⟩)
  | 1, _ => exact (sm_entry_1 d M hf e he).mono (fun v M' h => ⟨h.1, M.1 42, h.2.trans id2⟩)
  | 2, _ => exact (sm_entry_2 d M hf e he).mono (fun v M' h => ⟨h.1, _, h.2⟩)
  | 3, _ => exact (sm_entry_3 d M hf e he).mono (fun v M' h => ⟨h.1, M.1 42, h.2.trans id2⟩)
theorem sm_digest (d : Nat) (M : am_M) (hf : wf (M.1 34)) (n : Nat) (hn : M.1 33 4 = nI n) (hn2 : n ≤ 140) : am_R (d + 7) zX11_digest [.ref 33] M (fun v M' => v = some (.long (dgV5 (M.1 34) (M.1 33 2) (M.1 33 4) (M.1 36) n)) ∧ ∃ S h, M' = dgM M S h) := by
  refine ae_enter (z := zX11_digest) (y := yX11_digest) (cc := cX11_digest) (mL := 2) (rt := some .long) (ci := 11) (st := false) (np := 0) (L := [some (.ref 33), none]) rfl (by decide) (Nat.le_of_ble_eq_true rfl) rfl ?_
  have hA := fA_le hf.1
  obtain ⟨-, -, hN1, hN2⟩ := id hf.1
  have e34 : ∀ S h, (dgM M S h).1 34 = M.1 34 := fun S h => dgM_ne M S h (by decide)
  have e33 : ∀ S h, (dgM M S h).1 33 = M.1 33 := fun S h => dgM_ne M S h (by decide)
  have e36 : ∀ S h, (dgM M S h).1 36 = M.1 36 := fun S h => dgM_ne M S h (by decide)
  have mix : ∀ S h x, am_R (d + 6) zX11_mixes [.ref 33, .int x] (dgM M S h) (fun v M' => v = none ∧ M' = dgM M S (31 * h + x.toInt64)) := by
    intro S h x
    have := sm_mixes (d + 5) (dgM M S h) x h (dgM_h _ _ _)
    rwa [dgM_m] at this
  have px : ∀ S h, am_R (d + 6) zX11_pixels [.ref 33] (dgM M S h) (fun v M' => v = some (.int (nI (fA (M.1 34)))) ∧ M' = dgM M S h) := by
    intro S h
    have := sm_pixels (d + 5) (dgM M S h) (by rw [e34]; exact hf.1)
    rwa [e34] at this
  have cn : ∀ S h k, k < 10 → am_R (d + 6) zX11_count [.ref 33, .int (nI k)] (dgM M S h) (fun v M' => v = some (.int (cnt (M.1 34) (M.1 33 2) (M.1 33 4) k)) ∧ M' = dgM M S h) := by
    intro S h k hk
    have := sm_count (d + 3) (dgM M S h) (by rw [e34]; exact hf) k hk
    rwa [e34, e33] at this
  have en : ∀ S h e k, e < fN (M.1 34) → k < 4 → am_R (d + 6) zX11_entry [.ref 33, .int (nI e), .int (nI k)] (dgM M S h) (fun v M' => v = some (.int (ent (M.1 34) e k)) ∧ ∃ S', M' = dgM M S' h) := by
    intro S h e k he hk
    have := sm_entry d (dgM M S h) (by rw [e34]; exact hf.1) e (by rw [e34]; exact he) k hk
    rw [e34] at this
    exact this.mono (fun v M' q => ⟨q.1, q.2.elim (fun S' z => ⟨S', z.trans (dgM_S _ _ _ _)⟩)⟩)
  have l5 : ∀ S, am_E none (am_R (d + 6)) cX11_digest 11 (some .long) (fun v M' => v = some (.long (dgV5 (M.1 34) (M.1 33 2) (M.1 33 4) (M.1 36) n)) ∧ ∃ S h, M' = dgM M S h) (168, [some (.ref 33), none], [], dgM M S (dg4 (M.1 34) (M.1 33 2) (M.1 33 4))) := by
    intro S
    refine ae_iconst (pc := 168) (v := nI 0) dX11_digest_168 (by decide) ?_
    refine ae_istore_n (pc := 169) dX11_digest_169 rfl (Nat.le_of_ble_eq_true rfl) ?_
    skip
    refine am_down (P := fun k => am_E none (am_R (d + 6)) cX11_digest 11 (some .long) _ (170, [some (.ref 33), some (.int (nI k))], [], dgM M S (mxR (M.1 36) (dg4 (M.1 34) (M.1 33 2) (M.1 33 4)) k))) n (fun k hk ih => ?_)
    refine ae_iload_n (pc := 170) dX11_digest_170 rfl ?_
    refine ae_aload_n (pc := 171) dX11_digest_171 rfl ?_
    refine ae_getI (pc := 172) (k := 33) (c := 11) (j := 4) (v := nI n) dX11_digest_172 rfl rfl (Or.inl rfl) (Nat.le_of_ble_eq_true rfl) rfl (Nat.le_of_ble_eq_true rfl) (by rw [e33]; exact hn) ?_
    refine ae_icmp_ge (pc := 175) (t := 194) dX11_digest_175 (by decide) (fun c175 => ?_) (fun c175 => ?_)
    · have hk2 : k = n := by rw [nI_leI (by omega) (by omega)] at c175; omega
      subst hk2
      refine ae_aload_n (pc := 194) dX11_digest_194 rfl ?_
      refine ae_getJ (pc := 195) (k := 33) (c := 11) (j := 20) dX11_digest_195 rfl rfl (Nat.le_of_ble_eq_true rfl) rfl (Nat.le_of_ble_eq_true rfl) ?_
      refine ae_lreturn (pc := 198) dX11_digest_198 rfl ?_
      refine ⟨?_, S, _, rfl⟩
      rw [dgM_h]
      rfl
    · have hk2 : k < n := by rw [nI_leI (by omega) (by omega)] at c175; omega
      refine ae_aload_n (pc := 178) dX11_digest_178 rfl ?_
      refine ae_aload_n (pc := 179) dX11_digest_179 rfl ?_
      refine ae_getR (pc := 180) (k := 33) (c := 11) (j := 3) (q := 36) dX11_digest_180 rfl rfl (Nat.le_of_ble_eq_true rfl) rfl (Nat.le_of_ble_eq_true rfl) rfl ?_
      refine ae_iload_n (pc := 183) dX11_digest_183 rfl ?_
      refine ae_iaload (pc := 184) (k := 36) (N := 140) (v := M.1 36 k) _ dX11_digest_184 (Nat.le_of_ble_eq_true rfl) rfl rfl rfl (by omega) (by rw [e36]) ?_
      refine ae_callV (pc := 185) (z := zX11_mixes) (k := 33) (As := [_]) dX11_digest_185 rfl rfl rfl rfl (Nat.le_of_ble_eq_true rfl) rfl (Nat.le_of_ble_eq_true rfl) (Nat.le_of_ble_eq_true rfl) (mix _ _ _) (fun v M' hq => ?_)
      obtain ⟨rfl, rfl⟩ := hq
      refine ae_iinc (pc := 188) (v := nI (k + 1)) dX11_digest_188 rfl (nI_inc k) ?_
      refine ae_goto (pc := 191) (t := 170) dX11_digest_191 (by decide) ?_
      exact ih hk2
  have l4 : ∀ S, am_E none (am_R (d + 6)) cX11_digest 11 (some .long) (fun v M' => v = some (.long (dgV5 (M.1 34) (M.1 33 2) (M.1 33 4) (M.1 36) n)) ∧ ∃ S h, M' = dgM M S h) (94, [some (.ref 33), none], [], dgM M S (dg3 (M.1 34) (M.1 33 2) (M.1 33 4))) := by
    intro S
    by_cases h1 : M.1 34 292 = 1
    rotate_left
    · have := l5 S
      rw [show dg4 (M.1 34) (M.1 33 2) (M.1 33 4) = dg3 (M.1 34) (M.1 33 2) (M.1 33 4) by unfold dg4; rw [if_neg h1]] at this
      refine ae_aload_n (pc := 94) dX11_digest_94 rfl ?_
      refine ae_getR (pc := 95) (k := 33) (c := 11) (j := 0) (q := 34) dX11_digest_95 rfl rfl (Nat.le_of_ble_eq_true rfl) rfl (Nat.le_of_ble_eq_true rfl) rfl ?_
      refine ae_sipush (pc := 98) (v := nI 292) dX11_digest_98 (by decide) ?_
      refine ae_iaload (pc := 101) (k := 34) (N := 549) (v := M.1 34 292) _ dX11_digest_101 (Nat.le_of_ble_eq_true rfl) rfl rfl rfl (by omega) (by rw [e34]) ?_
      refine ae_iconst (pc := 102) (v := nI 1) dX11_digest_102 (by decide) ?_
      refine ae_icmp_ne (pc := 103) (t := 168) dX11_digest_103 (by decide) (fun c103 => ?_) (fun c103 => ?_)
      · exact this
      · exact absurd (Classical.not_not.mp c103) h1
    have t1 := l5 S
    have t2 : dg4 (M.1 34) (M.1 33 2) (M.1 33 4) = _ := if_pos h1
    rw [t2] at t1
    refine ae_aload_n (pc := 94) dX11_digest_94 rfl ?_
    refine ae_getR (pc := 95) (k := 33) (c := 11) (j := 0) (q := 34) dX11_digest_95 rfl rfl (Nat.le_of_ble_eq_true rfl) rfl (Nat.le_of_ble_eq_true rfl) rfl ?_
    refine ae_sipush (pc := 98) (v := nI 292) dX11_digest_98 (by decide) ?_
    refine ae_iaload (pc := 101) (k := 34) (N := 549) (v := M.1 34 292) _ dX11_digest_101 (Nat.le_of_ble_eq_true rfl) rfl rfl rfl (by omega) (by rw [e34]) ?_
    refine ae_iconst (pc := 102) (v := nI 1) dX11_digest_102 (by decide) ?_
    refine ae_icmp_ne (pc := 103) (t := 168) dX11_digest_103 (by decide) (fun c103 => ?_) (fun c103 => ?_)
    · exact absurd h1 c103
    refine ae_iconst (pc := 106) (v := nI 0) dX11_digest_106 (by decide) ?_
    refine ae_istore_n (pc := 107) dX11_digest_107 rfl (Nat.le_of_ble_eq_true rfl) ?_
    skip
    refine am_down (P := fun k => am_E none (am_R (d + 6)) cX11_digest 11 (some .long) _ (108, [some (.ref 33), some (.int (nI k))], [], dgM M S (mxR (fun p => M.1 34 (293 + p)) (dg3 (M.1 34) (M.1 33 2) (M.1 33 4)) k))) (fA (M.1 34)) (fun k hk ih => ?_)
    refine ae_iload_n (pc := 108) dX11_digest_108 rfl ?_
    refine ae_aload_n (pc := 109) dX11_digest_109 rfl ?_
    refine ae_pcallV (pc := 110) (z := zX11_pixels) (k := 33) (As := []) dX11_digest_110 rfl rfl rfl rfl (Nat.le_of_ble_eq_true rfl) rfl (Nat.le_of_ble_eq_true rfl) (Nat.le_of_ble_eq_true rfl) (px _ _) ?_
    refine ae_icmp_ge (pc := 113) (t := 136) dX11_digest_113 (by decide) (fun c113 => ?_) (fun c113 => ?_)
    · have hk2 : k = fA (M.1 34) := by rw [nI_leI (by omega) (by omega)] at c113; omega
      subst hk2
      have er : ∀ h, am_R (d + 6) zX11_error [.ref 33] (dgM M S h) (fun v M' => v = some (.int (esum (M.1 34) (fA (M.1 34)))) ∧ M' = dgM M S h) := by
        intro h
        have := sm_error (d + 2) (dgM M S h) (by rw [e34]; exact hf) (by rw [e34]; exact h1)
        rwa [e34] at this
      have wo : ∀ h, am_R (d + 6) zX11_worst [.ref 33] (dgM M S h) (fun v M' => v = some (.int (wstV (M.1 34))) ∧ M' = dgM M S h) := by
        intro h
        have := sm_worst (d + 2) (dgM M S h) (by rw [e34]; exact hf) (by rw [e34]; exact h1)
        rwa [e34] at this
      have me : ∀ h, am_R (d + 6) zX11_meanError [.ref 33] (dgM M S h) (fun v M' => v = some (.int (meV (M.1 34))) ∧ M' = dgM M S h) := by
        intro h
        have := sm_meanError (d + 1) (dgM M S h) (by rw [e34]; exact hf) (by rw [e34]; exact h1)
        rwa [e34] at this
      have ru : ∀ h, am_R (d + 6) zX11_runs [.ref 33] (dgM M S h) (fun v M' => v = some (.int (nI (rns (M.1 34) (fA (M.1 34) - 1)))) ∧ M' = dgM M S h) := by
        intro h
        have := sm_runs (d + 4) (dgM M S h) (by rw [e34]; exact hf) (by rw [e34]; exact h1)
        rwa [e34] at this
      refine ae_aload_n (pc := 136) dX11_digest_136 rfl ?_
      refine ae_aload_n (pc := 137) dX11_digest_137 rfl ?_
      refine ae_pcallV (pc := 138) (z := zX11_error) (k := 33) (As := []) dX11_digest_138 rfl rfl rfl rfl (Nat.le_of_ble_eq_true rfl) rfl (Nat.le_of_ble_eq_true rfl) (Nat.le_of_ble_eq_true rfl) (er _) ?_
      refine ae_callV (pc := 141) (z := zX11_mixes) (k := 33) (As := [_]) dX11_digest_141 rfl rfl rfl rfl (Nat.le_of_ble_eq_true rfl) rfl (Nat.le_of_ble_eq_true rfl) (Nat.le_of_ble_eq_true rfl) (mix _ _ _) (fun v M' hq => ?_)
      obtain ⟨rfl, rfl⟩ := hq
      refine ae_aload_n (pc := 144) dX11_digest_144 rfl ?_
      refine ae_aload_n (pc := 145) dX11_digest_145 rfl ?_
      refine ae_pcallV (pc := 146) (z := zX11_worst) (k := 33) (As := []) dX11_digest_146 rfl rfl rfl rfl (Nat.le_of_ble_eq_true rfl) rfl (Nat.le_of_ble_eq_true rfl) (Nat.le_of_ble_eq_true rfl) (wo _) ?_
      refine ae_callV (pc := 149) (z := zX11_mixes) (k := 33) (As := [_]) dX11_digest_149 rfl rfl rfl rfl (Nat.le_of_ble_eq_true rfl) rfl (Nat.le_of_ble_eq_true rfl) (Nat.le_of_ble_eq_true rfl) (mix _ _ _) (fun v M' hq => ?_)
      obtain ⟨rfl, rfl⟩ := hq
      refine ae_aload_n (pc := 152) dX11_digest_152 rfl ?_
      refine ae_aload_n (pc := 153) dX11_digest_153 rfl ?_
      refine ae_pcallV (pc := 154) (z := zX11_meanError) (k := 33) (As := []) dX11_digest_154 rfl rfl rfl rfl (Nat.le_of_ble_eq_true rfl) rfl (Nat.le_of_ble_eq_true rfl) (Nat.le_of_ble_eq_true rfl) (me _) ?_
      refine ae_callV (pc := 157) (z := zX11_mixes) (k := 33) (As := [_]) dX11_digest_157 rfl rfl rfl rfl (Nat.le_of_ble_eq_true rfl) rfl (Nat.le_of_ble_eq_true rfl) (Nat.le_of_ble_eq_true rfl) (mix _ _ _) (fun v M' hq => ?_)
      obtain ⟨rfl, rfl⟩ := hq
      refine ae_aload_n (pc := 160) dX11_digest_160 rfl ?_
      refine ae_aload_n (pc := 161) dX11_digest_161 rfl ?_
      refine ae_pcallV (pc := 162) (z := zX11_runs) (k := 33) (As := []) dX11_digest_162 rfl rfl rfl rfl (Nat.le_of_ble_eq_true rfl) rfl (Nat.le_of_ble_eq_true rfl) (Nat.le_of_ble_eq_true rfl) (ru _) ?_
      refine ae_callV (pc := 165) (z := zX11_mixes) (k := 33) (As := [_]) dX11_digest_165 rfl rfl rfl rfl (Nat.le_of_ble_eq_true rfl) rfl (Nat.le_of_ble_eq_true rfl) (Nat.le_of_ble_eq_true rfl) (mix _ _ _) (fun v M' hq => ?_)
      obtain ⟨rfl, rfl⟩ := hq
      exact ae_forget [1] rfl t1
    · have hk2 : k < fA (M.1 34) := by rw [nI_leI (by omega) (by omega)] at c113; omega
      refine ae_aload_n (pc := 116) dX11_digest_116 rfl ?_
      refine ae_aload_n (pc := 117) dX11_digest_117 rfl ?_
      refine ae_getR (pc := 118) (k := 33) (c := 11) (j := 0) (q := 34) dX11_digest_118 rfl rfl (Nat.le_of_ble_eq_true rfl) rfl (Nat.le_of_ble_eq_true rfl) rfl ?_
      refine ae_sipush (pc := 121) (v := nI 293) dX11_digest_121 (by decide) ?_
      refine ae_iload_n (pc := 124) dX11_digest_124 rfl ?_
      refine ae_iadd (pc := 125) dX11_digest_125 (nI_add _ _) ?_
      refine ae_iaload (pc := 126) (k := 34) (N := 549) (v := M.1 34 (293 + k)) _ dX11_digest_126 (Nat.le_of_ble_eq_true rfl) rfl rfl rfl (by omega) (by rw [e34]) ?_
      refine ae_callV (pc := 127) (z := zX11_mixes) (k := 33) (As := [_]) dX11_digest_127 rfl rfl rfl rfl (Nat.le_of_ble_eq_true rfl) rfl (Nat.le_of_ble_eq_true rfl) (Nat.le_of_ble_eq_true rfl) (mix _ _ _) (fun v M' hq => ?_)
      obtain ⟨rfl, rfl⟩ := hq
      refine ae_iinc (pc := 130) (v := nI (k + 1)) dX11_digest_130 rfl (nI_inc k) ?_
      refine ae_goto (pc := 133) (t := 108) dX11_digest_133 (by decide) ?_
      exact ih hk2
  have l3 : ∀ S, am_E none (am_R (d + 6)) cX11_digest 11 (some .long) (fun v M' => v = some (.long (dgV5 (M.1 34) (M.1 33 2) (M.1 33 4) (M.1 36) n)) ∧ ∃ S h, M' = dgM M S h) (58, [some (.ref 33), none], [], dgM M S (mxR (fun p => M.1 34 (2 + p)) (mxR (cnt (M.1 34) (M.1 33 2) (M.1 33 4)) 77 10) (fA (M.1 34)))) := by
    intro S
    refine ae_iconst (pc := 58) (v := nI 0) dX11_digest_58 (by decide) ?_
    refine ae_istore_n (pc := 59) dX11_digest_59 rfl (Nat.le_of_ble_eq_true rfl) ?_
    skip
    have main : ∀ S, am_E none (am_R (d + 6)) cX11_digest 11 (some .long) (fun v M' => v = some (.long (dgV5 (M.1 34) (M.1 33 2) (M.1 33 4) (M.1 36) n)) ∧ ∃ S h, M' = dgM M S h) (60, [some (.ref 33), some (.int (nI 0))], [], dgM M S (mxR (fun k => ent (M.1 34) (k / 4) (k % 4)) (mxR (fun p => M.1 34 (2 + p)) (mxR (cnt (M.1 34) (M.1 33 2) (M.1 33 4)) 77 10) (fA (M.1 34))) 0)) := by
      refine am_down (P := fun k => ∀ S, am_E none (am_R (d + 6)) cX11_digest 11 (some .long) _ (60, [some (.ref 33), some (.int (nI k))], [], dgM M S (mxR (fun k => ent (M.1 34) (k / 4) (k % 4)) (mxR (fun p => M.1 34 (2 + p)) (mxR (cnt (M.1 34) (M.1 33 2) (M.1 33 4)) 77 10) (fA (M.1 34))) k))) (4 * fN (M.1 34)) (fun k hk ih S => ?_)
      refine ae_iload_n (pc := 60) dX11_digest_60 rfl ?_
      refine ae_iconst (pc := 61) (v := nI 4) dX11_digest_61 (by decide) ?_
      refine ae_aload_n (pc := 62) dX11_digest_62 rfl ?_
      refine ae_getR (pc := 63) (k := 33) (c := 11) (j := 0) (q := 34) dX11_digest_63 rfl rfl (Nat.le_of_ble_eq_true rfl) rfl (Nat.le_of_ble_eq_true rfl) rfl ?_
      refine ae_sipush (pc := 66) (v := nI 258) dX11_digest_66 (by decide) ?_
      refine ae_iaload (pc := 69) (k := 34) (N := 549) (v := nI (fN (M.1 34))) _ dX11_digest_69 (Nat.le_of_ble_eq_true rfl) rfl rfl rfl (by omega) (by rw [e34]; exact hN1) ?_
      refine ae_imul (pc := 70) (v := nI (4 * fN (M.1 34))) dX11_digest_70 (nI_mul _ _) ?_
      refine ae_icmp_ge (pc := 71) (t := 94) dX11_digest_71 (by decide) (fun c71 => ?_) (fun c71 => ?_)
      · have hk2 : k = 4 * fN (M.1 34) := by rw [nI_leI (by omega) (by omega)] at c71; omega
        subst hk2
        exact ae_forget [1] rfl (l4 S)
      · have hk2 : k < 4 * fN (M.1 34) := by rw [nI_leI (by omega) (by omega)] at c71; omega
        refine ae_aload_n (pc := 74) dX11_digest_74 rfl ?_
        refine ae_aload_n (pc := 75) dX11_digest_75 rfl ?_
        refine ae_iload_n (pc := 76) dX11_digest_76 rfl ?_
        refine ae_iconst (pc := 77) (v := nI 4) dX11_digest_77 (by decide) ?_
        refine ae_idiv (pc := 78) (v := nI (k / 4)) dX11_digest_78 (by decide) (nI_div (by omega) (by decide)) ?_
        refine ae_iload_n (pc := 79) dX11_digest_79 rfl ?_
        refine ae_iconst (pc := 80) (v := nI 4) dX11_digest_80 (by decide) ?_
        refine ae_irem (pc := 81) (v := nI (k % 4)) dX11_digest_81 (by decide) (nI_mod (by omega) (by decide)) ?_
        refine ae_callV (pc := 82) (z := zX11_entry) (k := 33) (As := [_, _]) dX11_digest_82 rfl rfl rfl rfl (Nat.le_of_ble_eq_true rfl) rfl (Nat.le_of_ble_eq_true rfl) (Nat.le_of_ble_eq_true rfl) (en _ _ _ _ (by omega) (by omega)) (fun v M' hq => ?_)
        obtain ⟨rfl, S', rfl⟩ := hq
        refine ae_callV (pc := 85) (z := zX11_mixes) (k := 33) (As := [_]) dX11_digest_85 rfl rfl rfl rfl (Nat.le_of_ble_eq_true rfl) rfl (Nat.le_of_ble_eq_true rfl) (Nat.le_of_ble_eq_true rfl) (mix _ _ _) (fun v M' hq => ?_)
        obtain ⟨rfl, rfl⟩ := hq
        refine ae_iinc (pc := 88) (v := nI (k + 1)) dX11_digest_88 rfl (nI_inc k) ?_
        refine ae_goto (pc := 91) (t := 60) dX11_digest_91 (by decide) ?_
        exact ih hk2 S'
    exact main S
  have l2 : ∀ S, am_E none (am_R (d + 6)) cX11_digest 11 (some .long) (fun v M' => v = some (.long (dgV5 (M.1 34) (M.1 33 2) (M.1 33 4) (M.1 36) n)) ∧ ∃ S h, M' = dgM M S h) (30, [some (.ref 33), none], [], dgM M S (mxR (cnt (M.1 34) (M.1 33 2) (M.1 33 4)) 77 10)) := by
    intro S
    refine ae_iconst (pc := 30) (v := nI 0) dX11_digest_30 (by decide) ?_
    refine ae_istore_n (pc := 31) dX11_digest_31 rfl (Nat.le_of_ble_eq_true rfl) ?_
    skip
    refine am_down (P := fun k => am_E none (am_R (d + 6)) cX11_digest 11 (some .long) _ (32, [some (.ref 33), some (.int (nI k))], [], dgM M S (mxR (fun p => M.1 34 (2 + p)) (mxR (cnt (M.1 34) (M.1 33 2) (M.1 33 4)) 77 10) k))) (fA (M.1 34)) (fun k hk ih => ?_)
    refine ae_iload_n (pc := 32) dX11_digest_32 rfl ?_
    refine ae_aload_n (pc := 33) dX11_digest_33 rfl ?_
    refine ae_pcallV (pc := 34) (z := zX11_pixels) (k := 33) (As := []) dX11_digest_34 rfl rfl rfl rfl (Nat.le_of_ble_eq_true rfl) rfl (Nat.le_of_ble_eq_true rfl) (Nat.le_of_ble_eq_true rfl) (px _ _) ?_
    refine ae_icmp_ge (pc := 37) (t := 58) dX11_digest_37 (by decide) (fun c37 => ?_) (fun c37 => ?_)
    · have hk2 : k = fA (M.1 34) := by rw [nI_leI (by omega) (by omega)] at c37; omega
      subst hk2
      exact ae_forget [1] rfl (l3 S)
    · have hk2 : k < fA (M.1 34) := by rw [nI_leI (by omega) (by omega)] at c37; omega
      refine ae_aload_n (pc := 40) dX11_digest_40 rfl ?_
      refine ae_aload_n (pc := 41) dX11_digest_41 rfl ?_
      refine ae_getR (pc := 42) (k := 33) (c := 11) (j := 0) (q := 34) dX11_digest_42 rfl rfl (Nat.le_of_ble_eq_true rfl) rfl (Nat.le_of_ble_eq_true rfl) rfl ?_
      refine ae_iconst (pc := 45) (v := nI 2) dX11_digest_45 (by decide) ?_
      refine ae_iload_n (pc := 46) dX11_digest_46 rfl ?_
      refine ae_iadd (pc := 47) dX11_digest_47 (nI_add _ _) ?_
      refine ae_iaload (pc := 48) (k := 34) (N := 549) (v := M.1 34 (2 + k)) _ dX11_digest_48 (Nat.le_of_ble_eq_true rfl) rfl rfl rfl (by omega) (by rw [e34]) ?_
      refine ae_callV (pc := 49) (z := zX11_mixes) (k := 33) (As := [_]) dX11_digest_49 rfl rfl rfl rfl (Nat.le_of_ble_eq_true rfl) rfl (Nat.le_of_ble_eq_true rfl) (Nat.le_of_ble_eq_true rfl) (mix _ _ _) (fun v M' hq => ?_)
      obtain ⟨rfl, rfl⟩ := hq
      refine ae_iinc (pc := 52) (v := nI (k + 1)) dX11_digest_52 rfl (nI_inc k) ?_
      refine ae_goto (pc := 55) (t := 32) dX11_digest_55 (by decide) ?_
      exact ih hk2
  refine ae_aload_n (pc := 0) dX11_digest_0 rfl ?_
  refine ae_ldc2_w (pc := 1) dX11_digest_1 rfl ?_
  refine ae_putfieldJ (pc := 4) (k := 33) (c := 11) (j := 20) dX11_digest_4 rfl rfl (Nat.le_of_ble_eq_true rfl) rfl (Nat.le_of_ble_eq_true rfl) rfl ?_
  refine ae_iconst (pc := 7) (v := nI 0) dX11_digest_7 (by decide) ?_
  refine ae_istore_n (pc := 8) dX11_digest_8 rfl (Nat.le_of_ble_eq_true rfl) ?_
  skip
  refine ae_M (M' := dgM M (M.1 42) (mxR (cnt (M.1 34) (M.1 33 2) (M.1 33 4)) 77 0)) (by unfold dgM; rw [am_u_eta]; rfl) ?_
  refine am_down (P := fun k => am_E none (am_R (d + 6)) cX11_digest 11 (some .long) _ (9, [some (.ref 33), some (.int (nI k))], [], dgM M (M.1 42) (mxR (cnt (M.1 34) (M.1 33 2) (M.1 33 4)) 77 k))) 10 (fun k hk ih => ?_)
  refine ae_iload_n (pc := 9) dX11_digest_9 rfl ?_
  refine ae_bipush (pc := 10) (v := nI 10) dX11_digest_10 (by decide) ?_
  refine ae_icmp_ge (pc := 12) (t := 30) dX11_digest_12 (by decide) (fun c12 => ?_) (fun c12 => ?_)
  · have hk2 : k = 10 := by rw [nI_leI (by omega) (by omega)] at c12; omega
    subst hk2
    exact ae_forget [1] rfl (l2 _)
  · have hk2 : k < 10 := by rw [nI_leI (by omega) (by omega)] at c12; omega
    refine ae_aload_n (pc := 15) dX11_digest_15 rfl ?_
    refine ae_aload_n (pc := 16) dX11_digest_16 rfl ?_
    refine ae_iload_n (pc := 17) dX11_digest_17 rfl ?_
    refine ae_pcallV (pc := 18) (z := zX11_count) (k := 33) (As := [_]) dX11_digest_18 rfl rfl rfl rfl (Nat.le_of_ble_eq_true rfl) rfl (Nat.le_of_ble_eq_true rfl) (Nat.le_of_ble_eq_true rfl) (cn _ _ k hk2) ?_
    refine ae_callV (pc := 21) (z := zX11_mixes) (k := 33) (As := [_]) dX11_digest_21 rfl rfl rfl rfl (Nat.le_of_ble_eq_true rfl) rfl (Nat.le_of_ble_eq_true rfl) (Nat.le_of_ble_eq_true rfl) (mix _ _ _) (fun v M' hq => ?_)
    obtain ⟨rfl, rfl⟩ := hq
    refine ae_iinc (pc := 24) (v := nI (k + 1)) dX11_digest_24 rfl (nI_inc k) ?_
    refine ae_goto (pc := 27) (t := 9) dX11_digest_27 (by decide) ?_
    exact ih hk2

