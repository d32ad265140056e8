theorem kyM_ky (M : am_M) (k : Nat) (K L : jT) : kyM (kyM M k K) k L = kyM M k L := kyM_u M k K L
theorem sc_order (d : Nat) (M : am_M) (cn : Int32 → Nat) (b s : Nat) (L : List Int32) (hb : b < 16) (hB : BOX M cn b s L) (hn : L.Nodup) (c : Nat) : am_R (d + 2) zX4_order [.ref 21, .int (nI b), .int (nI c)] M (fun v M' => v = none ∧ ∃ K, M' = kyM M 22 K ∧ (∀ q, (q < s ∨ s + L.length ≤ q) → K q = M.2 22 q) ∧ ∀ i (hi : i < (lSo c L).length), K (s + i) = cel cn (lSo c L)[i]) := by
  refine ae_enter (z := zX4_order) (y := yX4_order) (cc := cX4_order) (mL := 4) (rt := none) (ci := 4) (st := false) (np := 2) (L := [some (.ref 21), some (.int (nI b)), some (.int (nI c)), none]) rfl (by decide) (Nat.le_of_ble_eq_true rfl) rfl ?_
  obtain ⟨b1, b2, b3, b4, b5⟩ := hB
  have hlen := (lSo_perm c L).length_eq
  have third : ∀ K : jT, (∀ q, (q < s ∨ s + L.length ≤ q) → K q = M.2 22 q) → (∀ i (hi : i < (lSo c L).length), i < 0 → K (s + i) = cel cn (lSo c L)[i]) → (∀ i (hi : i < (lSo c L).length), 0 ≤ i → K (s + i) = bky cn c (lSo c L)[i]) → am_E none (am_R (d + 1)) cX4_order 4 none (fun v M' => v = none ∧ ∃ K, M' = kyM M 22 K ∧ (∀ q, (q < s ∨ s + L.length ≤ q) → K q = M.2 22 q) ∧ ∀ i (hi : i < (lSo c L).length), K (s + i) = cel cn (lSo c L)[i]) (76, [some (.ref 21), some (.int (nI b)), some (.int (nI c)), some (.int (nI (s + 0)))], [], kyM M 22 K) := by
    refine am_down (P := fun k => ∀ K : jT, (∀ q, (q < s ∨ s + L.length ≤ q) → K q = M.2 22 q) → (∀ i (hi : i < (lSo c L).length), i < k → K (s + i) = cel cn (lSo c L)[i]) → (∀ i (hi : i < (lSo c L).length), k ≤ i → K (s + i) = bky cn c (lSo c L)[i]) → am_E none (am_R (d + 1)) cX4_order 4 none _ (76, [some (.ref 21), some (.int (nI b)), some (.int (nI c)), some (.int (nI (s + k)))], [], kyM M 22 K)) L.length (fun k hk ih K k1 k2 k3 => ?_)
    refine ae_iload_n (pc := 76) dX4_order_76 rfl ?_
    refine ae_aload_n (pc := 77) dX4_order_77 rfl ?_
    refine ae_getR (pc := 78) (k := 21) (c := 4) (j := 4) (q := 24) dX4_order_78 rfl rfl (Nat.le_of_ble_eq_true rfl) rfl (Nat.le_of_ble_eq_true rfl) rfl ?_
    refine ae_iload_n (pc := 81) dX4_order_81 rfl ?_
    refine ae_iaload (pc := 82) (k := 24) (N := 16) (v := nI (s + L.length)) (b) dX4_order_82 (Nat.le_of_ble_eq_true rfl) rfl rfl rfl (by omega) b2 ?_
    refine ae_icmp_ge (pc := 83) (t := 108) dX4_order_83 (by decide) (fun c83 => ?_) (fun c83 => ?_)
    · have hk2 : k = L.length := by rw [nI_leI (by omega) (by omega)] at c83; omega
      refine ae_return (pc := 108) dX4_order_108 rfl ?_
      exact ⟨rfl, K, rfl, k1, fun i hi => k2 i hi (by omega)⟩
    · have hk2 : k < L.length := by rw [nI_leI (by omega) (by omega)] at c83; omega
      have hk3 : k < (lSo c L).length := by omega
      have hm := b5 _ ((lSo_perm c L).mem_iff.mp (List.getElem_mem hk3))
      obtain ⟨o1, o2⟩ := okc_n hm.1
      have hm2 := hm.2
      have hch := (chN_lt (lSo c L)[k] c).1
      have e : (512 * (lSo c L)[k].toNatClampNeg + cn (lSo c L)[k] + 8589934592 * chN (lSo c L)[k] c) % 8589934592 = 512 * (lSo c L)[k].toNatClampNeg + cn (lSo c L)[k] := by omega
      have st := ih hk2 (vp_updL K (s + k) (cel cn (lSo c L)[k])) (fun q hq => by
        rw [show vp_updL K (s + k) (cel cn (lSo c L)[k]) q = K q by simp [vp_updL, show q ≠ s + k by omega]]
        exact k1 q hq) (fun i hi hik => by
        by_cases q : i = k
        · subst q; exact updL_self _ _ _
        · rw [show vp_updL K (s + k) (cel cn (lSo c L)[k]) (s + i) = K (s + i) by simp [vp_updL, q]]
          exact k2 i hi (by omega)) (fun i hi hik => by
        rw [show vp_updL K (s + k) (cel cn (lSo c L)[k]) (s + i) = K (s + i) by simp [vp_updL, show i ≠ k by omega]]
        exact k3 i hi (by omega))
      refine ae_aload_n (pc := 86) dX4_order_86 rfl ?_
      refine ae_getR (pc := 87) (k := 21) (c := 4) (j := 2) (q := 22) dX4_order_87 rfl rfl (Nat.le_of_ble_eq_true rfl) rfl (Nat.le_of_ble_eq_true rfl) rfl ?_
      refine ae_iload_n (pc := 90) dX4_order_90 rfl ?_
      refine ae_aload_n (pc := 91) dX4_order_91 rfl ?_
      refine ae_getR (pc := 92) (k := 21) (c := 4) (j := 2) (q := 22) dX4_order_92 rfl rfl (Nat.le_of_ble_eq_true rfl) rfl (Nat.le_of_ble_eq_true rfl) rfl ?_
      refine ae_iload_n (pc := 95) dX4_order_95 rfl ?_
      refine ae_laload (pc := 96) (k := 22) (N := 256) (v := bky cn c (lSo c L)[k]) (s + k) dX4_order_96 (Nat.le_of_ble_eq_true rfl) rfl rfl rfl (by omega) (by rw [kyM_k]; exact k3 k hk3 (Nat.le_refl k)) ?_
      refine ae_ldc2_w (pc := 97) dX4_order_97 rfl ?_
      refine ae_lrem (pc := 100) (v := cel cn (lSo c L)[k]) dX4_order_100 (by decide) ((nL_mod (b := 8589934592) (by omega) (by decide)).trans (by rw [e]; rfl)) ?_
      refine ae_lastore (pc := 101) (k := 22) (N := 256) (s + k) dX4_order_101 (Nat.le_of_ble_eq_true rfl) rfl rfl rfl (by omega) rfl ?_
      refine ae_M (kyM_u _ _ _ _) ?_
      rw [kyM_k]
      refine ae_iinc (pc := 102) (v := nI (s + (k + 1))) dX4_order_102 rfl (nI_inc (s + k)) ?_
      refine ae_goto (pc := 105) (t := 76) dX4_order_105 (by decide) ?_
      exact st
  have first : ∀ K : jT, (∀ q, (q < s ∨ s + L.length ≤ q) → K q = M.2 22 q) → (∀ i (hi : i < L.length), i < 0 → K (s + i) = bky cn c L[i]) → (∀ i (hi : i < L.length), 0 ≤ i → K (s + i) = cel cn L[i]) → am_E none (am_R (d + 1)) cX4_order 4 none (fun v M' => v = none ∧ ∃ K, M' = kyM M 22 K ∧ (∀ q, (q < s ∨ s + L.length ≤ q) → K q = M.2 22 q) ∧ ∀ i (hi : i < (lSo c L).length), K (s + i) = cel cn (lSo c L)[i]) (7, [some (.ref 21), some (.int (nI b)), some (.int (nI c)), some (.int (nI (s + 0)))], [], kyM M 22 K) := by
    refine am_down (P := fun k => ∀ K : jT, (∀ q, (q < s ∨ s + L.length ≤ q) → K q = M.2 22 q) → (∀ i (hi : i < L.length), i < k → K (s + i) = bky cn c L[i]) → (∀ i (hi : i < L.length), k ≤ i → K (s + i) = cel cn L[i]) → am_E none (am_R (d + 1)) cX4_order 4 none _ (7, [some (.ref 21), some (.int (nI b)), some (.int (nI c)), some (.int (nI (s + k)))], [], kyM M 22 K)) L.length (fun k hk ih K k1 k2 k3 => ?_)
    refine ae_iload_n (pc := 7) dX4_order_7 rfl ?_
    refine ae_aload_n (pc := 8) dX4_order_8 rfl ?_
    refine ae_getR (pc := 9) (k := 21) (c := 4) (j := 4) (q := 24) dX4_order_9 rfl rfl (Nat.le_of_ble_eq_true rfl) rfl (Nat.le_of_ble_eq_true rfl) rfl ?_
    refine ae_iload_n (pc := 12) dX4_order_12 rfl ?_
    refine ae_iaload (pc := 13) (k := 24) (N := 16) (v := nI (s + L.length)) (b) dX4_order_13 (Nat.le_of_ble_eq_true rfl) rfl rfl rfl (by omega) b2 ?_
    refine ae_icmp_ge (pc := 14) (t := 50) dX4_order_14 (by decide) (fun c14 => ?_) (fun c14 => ?_)
    · have hk2 : k = L.length := by rw [nI_leI (by omega) (by omega)] at c14; omega
      have hso := sc_sort_22 d (kyM M 22 K) s L.length b3
      rw [kyM_k] at hso
      refine ae_aload_n (pc := 50) dX4_order_50 rfl ?_
      refine ae_getR (pc := 51) (k := 21) (c := 4) (j := 2) (q := 22) dX4_order_51 rfl rfl (Nat.le_of_ble_eq_true rfl) rfl (Nat.le_of_ble_eq_true rfl) rfl ?_
      refine ae_aload_n (pc := 54) dX4_order_54 rfl ?_
      refine ae_getR (pc := 55) (k := 21) (c := 4) (j := 3) (q := 23) dX4_order_55 rfl rfl (Nat.le_of_ble_eq_true rfl) rfl (Nat.le_of_ble_eq_true rfl) rfl ?_
      refine ae_iload_n (pc := 58) dX4_order_58 rfl ?_
      refine ae_iaload (pc := 59) (k := 23) (N := 16) (v := nI s) (b) dX4_order_59 (Nat.le_of_ble_eq_true rfl) rfl rfl rfl (by omega) b1 ?_
      refine ae_aload_n (pc := 60) dX4_order_60 rfl ?_
      refine ae_getR (pc := 61) (k := 21) (c := 4) (j := 4) (q := 24) dX4_order_61 rfl rfl (Nat.le_of_ble_eq_true rfl) rfl (Nat.le_of_ble_eq_true rfl) rfl ?_
      refine ae_iload_n (pc := 64) dX4_order_64 rfl ?_
      refine ae_iaload (pc := 65) (k := 24) (N := 16) (v := nI (s + L.length)) (b) dX4_order_65 (Nat.le_of_ble_eq_true rfl) rfl rfl rfl (by omega) b2 ?_
      refine ae_callS (pc := 66) (z := zX10_sortKeys) (As := [_, _, _]) dX4_order_66 rfl rfl rfl rfl (Nat.le_of_ble_eq_true rfl) (hso) (fun v M' hq => ?_)
      obtain ⟨rfl, K', rfl, q1, q2⟩ := hq
      rw [kyM_ky]
      have st := third K' (fun q hq => (q1.2 q hq).trans (k1 q hq)) (fun i _ hi => absurd hi (Nat.not_lt_zero i)) (fun i hi _ => ord_ok hn b5 (fun j hj => k2 j hj (by omega)) q1 q2 i hi)
      refine ae_aload_n (pc := 69) dX4_order_69 rfl ?_
      refine ae_getR (pc := 70) (k := 21) (c := 4) (j := 3) (q := 23) dX4_order_70 rfl rfl (Nat.le_of_ble_eq_true rfl) rfl (Nat.le_of_ble_eq_true rfl) rfl ?_
      refine ae_iload_n (pc := 73) dX4_order_73 rfl ?_
      refine ae_iaload (pc := 74) (k := 23) (N := 16) (v := nI s) (b) dX4_order_74 (Nat.le_of_ble_eq_true rfl) rfl rfl rfl (by omega) b1 ?_
      refine ae_istore_n (pc := 75) dX4_order_75 rfl (Nat.le_of_ble_eq_true rfl) ?_
      exact ae_forget [] rfl st
    · have hk2 : k < L.length := by rw [nI_leI (by omega) (by omega)] at c14; omega
      have hm := b5 _ (List.getElem_mem hk2)
      obtain ⟨o1, o2⟩ := okc_n hm.1
      have hm2 := hm.2
      obtain ⟨h1, h2⟩ := chN_lt L[k] c
      have hck : (kyM M 22 K).2 22 (s + k) = cel cn L[k] := by rw [kyM_k]; exact k3 k hk2 (Nat.le_refl k)
      have st := ih hk2 (vp_updL K (s + k) (bky cn c L[k])) (fun q hq => by
        rw [show vp_updL K (s + k) (bky cn c L[k]) q = K q by simp [vp_updL, show q ≠ s + k by omega]]
        exact k1 q hq) (fun i hi hik => by
        by_cases q : i = k
        · subst q; exact updL_self _ _ _
        · rw [show vp_updL K (s + k) (bky cn c L[k]) (s + i) = K (s + i) by simp [vp_updL, q]]
          exact k2 i hi (by omega)) (fun i hi hik => by
        rw [show vp_updL K (s + k) (bky cn c L[k]) (s + i) = K (s + i) by simp [vp_updL, show i ≠ k by omega]]
        exact k3 i hi (by omega))
      refine ae_aload_n (pc := 17) dX4_order_17 rfl ?_
      refine ae_getR (pc := 18) (k := 21) (c := 4) (j := 2) (q := 22) dX4_order_18 rfl rfl (Nat.le_of_ble_eq_true rfl) rfl (Nat.le_of_ble_eq_true rfl) rfl ?_
      refine ae_iload_n (pc := 21) dX4_order_21 rfl ?_
      refine ae_dup2 (pc := 22) dX4_order_22 rfl rfl ?_
      refine ae_laload (pc := 23) (k := 22) (N := 256) (v := cel cn L[k]) (s + k) dX4_order_23 (Nat.le_of_ble_eq_true rfl) rfl rfl rfl (by omega) hck ?_
      refine ae_ldc2_w (pc := 24) dX4_order_24 rfl ?_
      refine ae_aload_n (pc := 27) dX4_order_27 rfl ?_
      refine ae_getR (pc := 28) (k := 21) (c := 4) (j := 2) (q := 22) dX4_order_28 rfl rfl (Nat.le_of_ble_eq_true rfl) rfl (Nat.le_of_ble_eq_true rfl) rfl ?_
      refine ae_iload_n (pc := 31) dX4_order_31 rfl ?_
      refine ae_laload (pc := 32) (k := 22) (N := 256) (v := cel cn L[k]) (s + k) dX4_order_32 (Nat.le_of_ble_eq_true rfl) rfl rfl rfl (by omega) hck ?_
      refine ae_pcallS (pc := 33) (z := zX4_cellColor) (As := [_]) dX4_order_33 rfl rfl rfl rfl (Nat.le_of_ble_eq_true rfl) (sc_cellColor d _ cn _ hm) ?_
      refine ae_iload_n (pc := 36) dX4_order_36 rfl ?_
      refine ae_pcallS (pc := 37) (z := zX10_channelOf) (As := [_, _]) dX4_order_37 rfl rfl rfl rfl (Nat.le_of_ble_eq_true rfl) (sc_channelOf d _ _ _) ?_
      refine ae_i2l (pc := 40) (v := nL (chN L[k] c)) dX4_order_40 (by rw [h2]; exact nI_i2l (by omega)) ?_
      refine ae_lmul (pc := 41) (v := nL (8589934592 * chN L[k] c)) dX4_order_41 (nL_mul _ _) ?_
      refine ae_ladd (pc := 42) (v := bky cn c L[k]) dX4_order_42 (nL_add _ _) ?_
      refine ae_lastore (pc := 43) (k := 22) (N := 256) (s + k) dX4_order_43 (Nat.le_of_ble_eq_true rfl) rfl rfl rfl (by omega) rfl ?_
      refine ae_M (kyM_u _ _ _ _) ?_
      rw [kyM_k]
      refine ae_iinc (pc := 44) (v := nI (s + (k + 1))) dX4_order_44 rfl (nI_inc (s + k)) ?_
      refine ae_goto (pc := 47) (t := 7) dX4_order_47 (by decide) ?_
      exact st
  have st := first (M.2 22) (fun q _ => rfl) (fun i _ hi => absurd hi (Nat.not_lt_zero i)) (fun i hi _ => b4 i hi)
  rw [kyM_eta] at st
  refine ae_aload_n (pc := 0) dX4_order_0 rfl ?_
  refine ae_getR (pc := 1) (k := 21) (c := 4) (j := 3) (q := 23) dX4_order_1 rfl rfl (Nat.le_of_ble_eq_true rfl) rfl (Nat.le_of_ble_eq_true rfl) rfl ?_
  refine ae_iload_n (pc := 4) dX4_order_4 rfl ?_
  refine ae_iaload (pc := 5) (k := 23) (N := 16) (v := nI s) (b) dX4_order_5 (Nat.le_of_ble_eq_true rfl) rfl rfl rfl (by omega) b1 ?_
  refine ae_istore_n (pc := 6) dX4_order_6 rfl (Nat.le_of_ble_eq_true rfl) ?_
  exact st
theorem sc_middleOf (d : Nat) (M : am_M) (cn : Int32 → Nat) (b s : Nat) (L : List Int32) (hb : b < 16) (hB : BOX M cn b s L) (hl : 0 < L.length) : am_R (d + 3) zX4_middleOf [.ref 21, .int (nI b)] M (fun v M' => v = some (.int (nI (s + lLw cn L))) ∧ M' = M) := by
  refine ae_enter (z := zX4_middleOf) (y := yX4_middleOf) (cc := cX4_middleOf) (mL := 5) (rt := some .int) (ci := 4) (st := false) (np := 1) (L := [some (.ref 21), some (.int (nI b)), none, none, none]) rfl (by decide) (Nat.le_of_ble_eq_true rfl) rfl ?_
  have hpx := sc_pixelsIn d M cn b s L hb hB
  obtain ⟨b1, b2, b3, b4, b5⟩ := hB
  have q1 : lS cn L ≤ 65536 := by
    refine Nat.le_trans (lS_le (b := 256) (fun c hc => (b5 c hc).2)) ?_
    have : L.length * 256 ≤ 256 * 256 := Nat.mul_le_mul_right _ (by omega)
    omega
  have qt : ∀ j, lTk cn L j ≤ 65536 := fun j => by
    refine Nat.le_trans (lTk_le (b := 256) (fun c hc => (b5 c hc).2) j) ?_
    have : L.length * 256 ≤ 256 * 256 := Nat.mul_le_mul_right _ (by omega)
    omega
  have fin : ∀ j, (∀ i, i < j → lCo cn L (lS cn L) i) → ¬ lCo cn L (lS cn L) j → some (Value.int (nI (s + j))) = some (Value.int (nI (s + lLw cn L))) := by
    intro j h1 h2
    rw [LW_u ⟨h1, h2⟩ (lLw_ok cn L)]
  have st : (∀ i, i < 0 → lCo cn L (lS cn L) i) → am_E none (am_R (d + 2)) cX4_middleOf 4 (some .int) (fun v M' => v = some (.int (nI (s + lLw cn L))) ∧ M' = M) (16, [some (.ref 21), some (.int (nI b)), some (.int (nI (lS cn L))), some (.int (nI (lTk cn L 0))), some (.int (nI (s + 0)))], [], M) := by
    refine am_down (P := fun j => (∀ i, i < j → lCo cn L (lS cn L) i) → am_E none (am_R (d + 2)) cX4_middleOf 4 (some .int) _ (16, [some (.ref 21), some (.int (nI b)), some (.int (nI (lS cn L))), some (.int (nI (lTk cn L j))), some (.int (nI (s + j)))], [], M)) L.length (fun j hj ih hjl => ?_)
    have qj := qt j
    refine ae_iload (pc := 16) dX4_middleOf_16 rfl ?_
    refine ae_aload_n (pc := 18) dX4_middleOf_18 rfl ?_
    refine ae_getR (pc := 19) (k := 21) (c := 4) (j := 4) (q := 24) dX4_middleOf_19 rfl rfl (Nat.le_of_ble_eq_true rfl) rfl (Nat.le_of_ble_eq_true rfl) rfl ?_
    refine ae_iload_n (pc := 22) dX4_middleOf_22 rfl ?_
    refine ae_iaload (pc := 23) (k := 24) (N := 16) (v := nI (s + L.length)) (b) dX4_middleOf_23 (Nat.le_of_ble_eq_true rfl) rfl rfl rfl (by omega) b2 ?_
    refine ae_iconst (pc := 24) (v := nI 1) dX4_middleOf_24 (by decide) ?_
    refine ae_isub (pc := 25) (v := nI (s + L.length - 1)) dX4_middleOf_25 (nI_sub (by omega)) ?_
    refine ae_icmp_ge (pc := 26) (t := 55) dX4_middleOf_26 (by decide) (fun c26 => ?_) (fun c26 => ?_)
    · rw [nI_leI (by omega) (by omega)] at c26
      refine ae_iload (pc := 55) dX4_middleOf_55 rfl ?_
      refine ae_ireturn (pc := 57) dX4_middleOf_57 rfl ?_
      exact ⟨fin j hjl (fun q => by have := q.2; omega), rfl⟩
    · rw [nI_leI (by omega) (by omega)] at c26
      have hj2 : j < L.length := by omega
      refine ae_iconst (pc := 29) (v := nI 2) dX4_middleOf_29 (by decide) ?_
      refine ae_iload_n (pc := 30) dX4_middleOf_30 rfl ?_
      refine ae_imul (pc := 31) (v := nI (2 * lTk cn L j)) dX4_middleOf_31 (nI_mul _ _) ?_
      refine ae_iload_n (pc := 32) dX4_middleOf_32 rfl ?_
      refine ae_icmp_ge (pc := 33) (t := 55) dX4_middleOf_33 (by decide) (fun c33 => ?_) (fun c33 => ?_)
      · rw [nI_leI (by omega) (by omega)] at c33
        refine ae_iload (pc := 55) dX4_middleOf_55 rfl ?_
        refine ae_ireturn (pc := 57) dX4_middleOf_57 rfl ?_
        exact ⟨fin j hjl (fun q => by have := q.1; omega), rfl⟩
      · rw [nI_leI (by omega) (by omega)] at c33
        have ih2 := ih hj2 (fun i hi => by
          by_cases q : i = j
          · subst q; exact ⟨by omega, by omega⟩
          · exact hjl i (by omega))
        rw [lTk_s cn L hj2] at ih2
        refine ae_iload_n (pc := 36) dX4_middleOf_36 rfl ?_
        refine ae_aload_n (pc := 37) dX4_middleOf_37 rfl ?_
        refine ae_getR (pc := 38) (k := 21) (c := 4) (j := 2) (q := 22) dX4_middleOf_38 rfl rfl (Nat.le_of_ble_eq_true rfl) rfl (Nat.le_of_ble_eq_true rfl) rfl ?_
        refine ae_iload (pc := 41) dX4_middleOf_41 rfl ?_
        refine ae_laload (pc := 43) (k := 22) (N := 256) (v := cel cn L[j]) (s + j) dX4_middleOf_43 (Nat.le_of_ble_eq_true rfl) rfl rfl rfl (by omega) (b4 j hj2) ?_
        refine ae_pcallS (pc := 44) (z := zX4_cellNumber) (As := [_]) dX4_middleOf_44 rfl rfl rfl rfl (Nat.le_of_ble_eq_true rfl) (sc_cellNumber (d + 1) M cn _ (b5 _ (List.getElem_mem hj2))) ?_
        refine ae_iadd (pc := 47) (v := nI (lTk cn L j + cn L[j])) dX4_middleOf_47 (nI_add _ _) ?_
        refine ae_istore_n (pc := 48) dX4_middleOf_48 rfl (Nat.le_of_ble_eq_true rfl) ?_
        refine ae_iinc (pc := 49) (v := nI (s + (j + 1))) dX4_middleOf_49 rfl (nI_inc (s + j)) ?_
        refine ae_goto (pc := 52) (t := 16) dX4_middleOf_52 (by decide) ?_
        exact ih2
  have st := st (fun i hi => absurd hi (Nat.not_lt_zero i))
  refine ae_aload_n (pc := 0) dX4_middleOf_0 rfl ?_
  refine ae_iload_n (pc := 1) dX4_middleOf_1 rfl ?_
  refine ae_pcallV (pc := 2) (z := zX4_pixelsIn) (k := 21) (As := [_]) dX4_middleOf_2 rfl rfl rfl rfl (Nat.le_of_ble_eq_true rfl) rfl (Nat.le_of_ble_eq_true rfl) (Nat.le_of_ble_eq_true rfl) (hpx) ?_
  refine ae_istore_n (pc := 5) dX4_middleOf_5 rfl (Nat.le_of_ble_eq_true rfl) ?_
  refine ae_iconst (pc := 6) (v := nI 0) dX4_middleOf_6 (by decide) ?_
  refine ae_istore_n (pc := 7) dX4_middleOf_7 rfl (Nat.le_of_ble_eq_true rfl) ?_
  refine ae_aload_n (pc := 8) dX4_middleOf_8 rfl ?_
  refine ae_getR (pc := 9) (k := 21) (c := 4) (j := 3) (q := 23) dX4_middleOf_9 rfl rfl (Nat.le_of_ble_eq_true rfl) rfl (Nat.le_of_ble_eq_true rfl) rfl ?_
  refine ae_iload_n (pc := 12) dX4_middleOf_12 rfl ?_
  refine ae_iaload (pc := 13) (k := 23) (N := 16) (v := nI s) (b) dX4_middleOf_13 (Nat.le_of_ble_eq_true rfl) rfl rfl rfl (by omega) b1 ?_
  refine ae_istore (pc := 14) dX4_middleOf_14 rfl (Nat.le_of_ble_eq_true rfl) ?_
  exact st
theorem sc_split (d : Nat) (M : am_M) (cn : Int32 → Nat) (nb : Nat) (B : Nat → List Int32) (hB : BXS M cn nb B) (hI : BI cn nb B) (hnb : nb < 16) (b : Nat) (hb : b < nb) (hl : 1 < (B b).length) : am_R (d + 4) zX4_split [.ref 21, .int (nI b)] M (fun v M' => v = none ∧ BXS M' cn (nb + 1) (lSt cn B nb b) ∧ (∀ k, k ≠ 21 → k ≠ 23 → k ≠ 24 → M'.1 k = M.1 k) ∧ ∀ k, k ≠ 22 → M'.2 k = M.2 k) := by
  refine ae_enter (z := zX4_split) (y := yX4_split) (cc := cX4_split) (mL := 3) (rt := none) (ci := 4) (st := false) (np := 1) (L := [some (.ref 21), some (.int (nI b)), none]) rfl (by decide) (Nat.le_of_ble_eq_true rfl) rfl ?_
  obtain ⟨n1, n2, st, h1, h2⟩ := hB
  have hbx := h1 b hb
  obtain ⟨i1, i2, i3, i4⟩ := hI b hb
  have hwd := sc_widestChannel d M cn b (st b) (B b) (by omega) hbx
  have hor := sc_order (d + 1) M cn b (st b) (B b) (by omega) hbx i1 (lWd (B b))
  have hp := lSo_perm (lWd (B b)) (B b)
  have hlen := hp.length_eq
  refine ae_aload_n (pc := 0) dX4_split_0 rfl ?_
  refine ae_getI (pc := 1) (k := 21) (c := 4) (j := 5) (v := nI nb) dX4_split_1 rfl rfl (Or.inl rfl) (Nat.le_of_ble_eq_true rfl) rfl (Nat.le_of_ble_eq_true rfl) n1 ?_
  refine ae_bipush (pc := 4) (v := nI 16) dX4_split_4 (by decide) ?_
  refine ae_icmp_lt (pc := 6) (t := 10) dX4_split_6 (by decide) (fun c6 => ?_) (fun c6 => ?_)
  rotate_left
  · exact absurd ((nI_ltI (by omega) (by omega)).mpr hnb) c6
  refine ae_aload_n (pc := 10) dX4_split_10 rfl ?_
  refine ae_iload_n (pc := 11) dX4_split_11 rfl ?_
  refine ae_aload_n (pc := 12) dX4_split_12 rfl ?_
  refine ae_iload_n (pc := 13) dX4_split_13 rfl ?_
  refine ae_pcallV (pc := 14) (z := zX4_widestChannel) (k := 21) (As := [_]) dX4_split_14 rfl rfl rfl rfl (Nat.le_of_ble_eq_true rfl) rfl (Nat.le_of_ble_eq_true rfl) (Nat.le_of_ble_eq_true rfl) (hwd) ?_
  refine ae_callV (pc := 17) (z := zX4_order) (k := 21) (As := [_, _]) dX4_split_17 rfl rfl rfl rfl (Nat.le_of_ble_eq_true rfl) rfl (Nat.le_of_ble_eq_true rfl) (Nat.le_of_ble_eq_true rfl) (hor) (fun v M' hq => ?_)
  obtain ⟨rfl, K, rfl, k1, k2⟩ := hq
  skip
  obtain ⟨b1, b2, b3, b4, b5⟩ := id hbx
  have hbx2 : BOX (kyM M 22 K) cn b (st b) (lSo (lWd (B b)) (B b)) := ⟨b1, by rw [hlen]; exact b2, by rw [hlen]; exact b3, fun j hj => by rw [kyM_k]; exact k2 j hj, okL_perm b5 hp⟩
  have hmi := sc_middleOf d (kyM M 22 K) cn b (st b) (lSo (lWd (B b)) (B b)) (by omega) hbx2 (by omega)
  have hjlt := LW_lt (lLw_ok cn (lSo (lWd (B b)) (B b))) (by omega)
  rw [hlen] at hjlt
  generalize hj : lLw cn (lSo (lWd (B b)) (B b)) = j at *
  refine ae_aload_n (pc := 20) dX4_split_20 rfl ?_
  refine ae_iload_n (pc := 21) dX4_split_21 rfl ?_
  refine ae_pcallV (pc := 22) (z := zX4_middleOf) (k := 21) (As := [_]) dX4_split_22 rfl rfl rfl rfl (Nat.le_of_ble_eq_true rfl) rfl (Nat.le_of_ble_eq_true rfl) (Nat.le_of_ble_eq_true rfl) (hmi) ?_
  refine ae_istore_n (pc := 25) dX4_split_25 rfl (Nat.le_of_ble_eq_true rfl) ?_
  refine ae_aload_n (pc := 26) dX4_split_26 rfl ?_
  refine ae_getR (pc := 27) (k := 21) (c := 4) (j := 3) (q := 23) dX4_split_27 rfl rfl (Nat.le_of_ble_eq_true rfl) rfl (Nat.le_of_ble_eq_true rfl) rfl ?_
  refine ae_aload_n (pc := 30) dX4_split_30 rfl ?_
  refine ae_getI (pc := 31) (k := 21) (c := 4) (j := 5) (v := nI nb) dX4_split_31 rfl rfl (Or.inl rfl) (Nat.le_of_ble_eq_true rfl) rfl (Nat.le_of_ble_eq_true rfl) n1 ?_
  refine ae_iload_n (pc := 34) dX4_split_34 rfl ?_
  refine ae_iastore (pc := 35) (k := 23) (N := 16) (nb) dX4_split_35 (Nat.le_of_ble_eq_true rfl) rfl rfl rfl (by omega) rfl ?_
  refine ae_aload_n (pc := 36) dX4_split_36 rfl ?_
  refine ae_getR (pc := 37) (k := 21) (c := 4) (j := 4) (q := 24) dX4_split_37 rfl rfl (Nat.le_of_ble_eq_true rfl) rfl (Nat.le_of_ble_eq_true rfl) rfl ?_
  refine ae_aload_n (pc := 40) dX4_split_40 rfl ?_
  refine ae_getI (pc := 41) (k := 21) (c := 4) (j := 5) (v := nI nb) dX4_split_41 rfl rfl (Or.inl rfl) (Nat.le_of_ble_eq_true rfl) rfl (Nat.le_of_ble_eq_true rfl) n1 ?_
  refine ae_aload_n (pc := 44) dX4_split_44 rfl ?_
  refine ae_getR (pc := 45) (k := 21) (c := 4) (j := 4) (q := 24) dX4_split_45 rfl rfl (Nat.le_of_ble_eq_true rfl) rfl (Nat.le_of_ble_eq_true rfl) rfl ?_
  refine ae_iload_n (pc := 48) dX4_split_48 rfl ?_
  refine ae_iaload (pc := 49) (k := 24) (N := 16) (v := nI (st b + (B b).length)) (b) dX4_split_49 (Nat.le_of_ble_eq_true rfl) rfl rfl rfl (by omega) b2 ?_
  refine ae_iastore (pc := 50) (k := 24) (N := 16) (nb) dX4_split_50 (Nat.le_of_ble_eq_true rfl) rfl rfl rfl (by omega) rfl ?_
  refine ae_aload_n (pc := 51) dX4_split_51 rfl ?_
  refine ae_getR (pc := 52) (k := 21) (c := 4) (j := 4) (q := 24) dX4_split_52 rfl rfl (Nat.le_of_ble_eq_true rfl) rfl (Nat.le_of_ble_eq_true rfl) rfl ?_
  refine ae_iload_n (pc := 55) dX4_split_55 rfl ?_
  refine ae_iload_n (pc := 56) dX4_split_56 rfl ?_
  refine ae_iastore (pc := 57) (k := 24) (N := 16) (b) dX4_split_57 (Nat.le_of_ble_eq_true rfl) rfl rfl rfl (by omega) rfl ?_
  refine ae_aload_n (pc := 58) dX4_split_58 rfl ?_
  refine ae_dup (pc := 59) dX4_split_59 rfl ?_
  refine ae_getI (pc := 60) (k := 21) (c := 4) (j := 5) (v := nI nb) dX4_split_60 rfl rfl (Or.inl rfl) (Nat.le_of_ble_eq_true rfl) rfl (Nat.le_of_ble_eq_true rfl) n1 ?_
  refine ae_iconst (pc := 63) (v := nI 1) dX4_split_63 (by decide) ?_
  refine ae_iadd (pc := 64) (v := nI (nb + 1)) dX4_split_64 (nI_add _ _) ?_
  refine ae_putfield (pc := 65) (k := 21) (c := 4) (j := 5) dX4_split_65 rfl rfl (Nat.le_of_ble_eq_true rfl) rfl (Nat.le_of_ble_eq_true rfl) rfl rfl ?_
  refine ae_return (pc := 68) dX4_split_68 rfl ?_
  refine ⟨rfl, BXS_st (M := M) (s := st b) (j := j) hb hnb h1 h2 rfl hj.symm hjlt ?_ (fun q => ?_) (fun q => ?_) (fun q hq => k1 q hq) (fun i hi => k2 i hi), fun k a1 a2 a3 => ?_, fun k hk => am_u_ne _ _ hk⟩
  · simp [am_u, upd]
  · simp only [am_u, upd, kyM_1]
    by_cases q1 : q = nb <;> simp [upd, q1]
  · simp only [am_u, upd, kyM_1]
    by_cases q1 : q = b
    · simp [upd, q1]
    · by_cases q2 : q = nb <;> simp [upd, q1, q2]
  · simp [am_u, a1, a2, a3, kyM_1]
theorem sc_makeFirstBox (d : Nat) (M : am_M) (f : fT) (hg : AG M f) (hf : wf f) (most : Nat) (hm : most ≤ 16) : am_R (d + 3) zX4_makeFirstBox [.ref 21, .int (nI most)] M (fun v M' => v = none ∧ ∃ n h m, HG f n h m ∧ BXS M' (cnA f) (if 0 < (ucL f h n).length ∧ 0 < most then 1 else 0) (fun _ => ucL f h n) ∧ AG M' f ∧ FR M M') := by
  refine ae_enter (z := zX4_makeFirstBox) (y := yX4_makeFirstBox) (cc := cX4_makeFirstBox) (mL := 4) (rt := none) (ci := 4) (st := false) (np := 1) (L := [some (.ref 21), some (.int (nI most)), none, none]) rfl (by decide) (Nat.le_of_ble_eq_true rfl) rfl ?_
  have hA := fA_le hf.1
  refine ae_aload_n (pc := 0) dX4_makeFirstBox_0 rfl ?_
  refine ae_iconst (pc := 1) (v := nI 0) dX4_makeFirstBox_1 (by decide) ?_
  refine ae_putfield (pc := 2) (k := 21) (c := 4) (j := 5) dX4_makeFirstBox_2 rfl rfl (Nat.le_of_ble_eq_true rfl) rfl (Nat.le_of_ble_eq_true rfl) rfl rfl ?_
  generalize hM1 : ((am_u M.1 21 (upd (M.1 21) 5 (nI 0)), M.2) : am_M) = M1
  have e1 : ∀ k, k ≠ 21 → M1.1 k = M.1 k := fun k hk => by rw [← hM1]; exact am_u_ne _ _ hk
  have e21 : M1.1 21 5 = nI 0 := by rw [← hM1]; simp [am_u, upd]
  have hg1 : AG M1 f := AG_ne hg (fun k a b => e1 k (by omega))
  refine ae_aload_n (pc := 5) dX4_makeFirstBox_5 rfl ?_
  refine ae_getR (pc := 6) (k := 21) (c := 4) (j := 1) (q := 12) dX4_makeFirstBox_6 rfl rfl (Nat.le_of_ble_eq_true rfl) rfl (Nat.le_of_ble_eq_true rfl) rfl ?_
  refine ae_callV (pc := 9) (z := zX1_collect) (k := 12) (As := []) dX4_makeFirstBox_9 rfl rfl rfl rfl (Nat.le_of_ble_eq_true rfl) rfl (Nat.le_of_ble_eq_true rfl) (Nat.le_of_ble_eq_true rfl) (sc_collect (d) M1 f hg1 hf) (fun v M' hq => ?_)
  obtain ⟨rfl, n, K, h, m, rfl, hH⟩ := hq
  generalize hM2 : hgM M1 K (upd (M1.1 12) 4 (nI n)) h m = M2
  have hg2 : AG M2 f := by rw [← hM2]; exact AG_hg hg1 _ _ _ _
  have n12 : M2.1 12 4 = nI n := by rw [← hM2, hgM_12, upd_self]
  have n14 : M2.1 14 = h := by rw [← hM2, hgM_14]
  have n15 : M2.1 15 = m := by rw [← hM2, hgM_15]
  have f2 : ∀ k, k ≠ 21 → k ≠ 12 → k ≠ 14 → k ≠ 15 → M2.1 k = M.1 k := fun k a b c e => by rw [← hM2, hgM_ne _ _ _ _ _ ⟨b, c, e⟩]; exact e1 k a
  have e21b : M2.1 21 5 = nI 0 := by rw [← hM2, hgM_ne _ _ _ _ _ (by omega)]; exact e21
  have hle := hH.1.1
  obtain ⟨u1, u2, u3⟩ := uc_BI hf hH
  clear hM2
  have lp : ∀ Kc : jT, (∀ j (hj : j < (ucL f h 0).length), Kc j = cel (cnA f) (ucL f h 0)[j]) → am_E none (am_R (d + 2)) cX4_makeFirstBox 4 none (fun v M' => v = none ∧ ∃ n h m, HG f n h m ∧ BXS M' (cnA f) (if 0 < (ucL f h n).length ∧ 0 < most then 1 else 0) (fun _ => ucL f h n) ∧ AG M' f ∧ FR M M') (16, [some (.ref 21), some (.int (nI most)), some (.int (nI (ucL f h 0).length)), some (.int (nI 0))], [], kyM M2 22 Kc) := by
    refine am_down (P := fun k => ∀ Kc : jT, (∀ j (hj : j < (ucL f h k).length), Kc j = cel (cnA f) (ucL f h k)[j]) → am_E none (am_R (d + 2)) cX4_makeFirstBox 4 none _ (16, [some (.ref 21), some (.int (nI most)), some (.int (nI (ucL f h k).length)), some (.int (nI k))], [], kyM M2 22 Kc)) n (fun k hk ih Kc hKc => ?_)
    have hul := ucL_len f h k
    refine ae_iload_n (pc := 16) dX4_makeFirstBox_16 rfl ?_
    refine ae_aload_n (pc := 17) dX4_makeFirstBox_17 rfl ?_
    refine ae_getR (pc := 18) (k := 21) (c := 4) (j := 1) (q := 12) dX4_makeFirstBox_18 rfl rfl (Nat.le_of_ble_eq_true rfl) rfl (Nat.le_of_ble_eq_true rfl) rfl ?_
    refine ae_getI (pc := 21) (k := 12) (c := 1) (j := 4) (v := nI n) dX4_makeFirstBox_21 rfl rfl (Or.inl rfl) (Nat.le_of_ble_eq_true rfl) rfl (Nat.le_of_ble_eq_true rfl) n12 ?_
    refine ae_icmp_ge (pc := 24) (t := 86) dX4_makeFirstBox_24 (by decide) (fun c24 => ?_) (fun c24 => ?_)
    · have hk2 : k = n := by rw [nI_leI (by omega) (by omega)] at c24; omega
      subst hk2
      have okU : okL (cnA f) (ucL f h k) := fun c hc => ⟨(u3 c hc).1, (u3 c hc).2.2⟩
      by_cases hc : 0 < (ucL f h k).length ∧ 0 < most
      · have l1 : ¬ nI (ucL f h k).length ≤ 0 := by rw [show (0 : Int32) = nI 0 from rfl, nI_leI (by omega) (by omega)]; omega
        have l2 : ¬ nI most ≤ 0 := by rw [show (0 : Int32) = nI 0 from rfl, nI_leI (by omega) (by omega)]; omega
        refine ae_iload_n (pc := 86) dX4_makeFirstBox_86 rfl ?_
        refine ae_if_le (pc := 87) (t := 113) dX4_makeFirstBox_87 (by decide) (fun c87 => ?_) (fun c87 => ?_)
        · exact absurd c87 l1
        refine ae_iload_n (pc := 90) dX4_makeFirstBox_90 rfl ?_
        refine ae_if_le (pc := 91) (t := 113) dX4_makeFirstBox_91 (by decide) (fun c91 => ?_) (fun c91 => ?_)
        · exact absurd c91 l2
        refine ae_aload_n (pc := 94) dX4_makeFirstBox_94 rfl ?_
        refine ae_getR (pc := 95) (k := 21) (c := 4) (j := 3) (q := 23) dX4_makeFirstBox_95 rfl rfl (Nat.le_of_ble_eq_true rfl) rfl (Nat.le_of_ble_eq_true rfl) rfl ?_
        refine ae_iconst (pc := 98) (v := nI 0) dX4_makeFirstBox_98 (by decide) ?_
        refine ae_iconst (pc := 99) (v := nI 0) dX4_makeFirstBox_99 (by decide) ?_
        refine ae_iastore (pc := 100) (k := 23) (N := 16) (0) dX4_makeFirstBox_100 (Nat.le_of_ble_eq_true rfl) rfl rfl rfl (by omega) rfl ?_
        refine ae_aload_n (pc := 101) dX4_makeFirstBox_101 rfl ?_
        refine ae_getR (pc := 102) (k := 21) (c := 4) (j := 4) (q := 24) dX4_makeFirstBox_102 rfl rfl (Nat.le_of_ble_eq_true rfl) rfl (Nat.le_of_ble_eq_true rfl) rfl ?_
        refine ae_iconst (pc := 105) (v := nI 0) dX4_makeFirstBox_105 (by decide) ?_
        refine ae_iload_n (pc := 106) dX4_makeFirstBox_106 rfl ?_
        refine ae_iastore (pc := 107) (k := 24) (N := 16) (0) dX4_makeFirstBox_107 (Nat.le_of_ble_eq_true rfl) rfl rfl rfl (by omega) rfl ?_
        refine ae_aload_n (pc := 108) dX4_makeFirstBox_108 rfl ?_
        refine ae_iconst (pc := 109) (v := nI 1) dX4_makeFirstBox_109 (by decide) ?_
        refine ae_putfield (pc := 110) (k := 21) (c := 4) (j := 5) dX4_makeFirstBox_110 rfl rfl (Nat.le_of_ble_eq_true rfl) rfl (Nat.le_of_ble_eq_true rfl) rfl rfl ?_
        refine ae_return (pc := 113) dX4_makeFirstBox_113 rfl ?_
        refine ⟨rfl, k, h, m, hH, ?_, ?_, fun q hq => ?_⟩
        · rw [if_pos hc]
          refine ⟨by simp [am_u, upd, nI], by omega, fun _ => 0, fun b hb => ?_, fun b b' h1 h2 h3 => by omega⟩
          have hb0 : b = 0 := by omega
          subst hb0
          refine ⟨by simp [am_u, upd], by simp [am_u, upd], (by show 0 + (ucL f h k).length ≤ 256; omega), fun j hj => ?_, okU⟩
          rw [Nat.zero_add]
          exact (congrFun (kyM_k M2 22 Kc) j).trans (hKc j hj)
        · refine AG_ne hg2 (fun q a b => ?_)
          simp [am_u, show q ≠ 21 by omega, show q ≠ 23 by omega, show q ≠ 24 by omega, kyM_1]
        · simp only [am_u, kyM_1]
          rw [if_neg (by omega), if_neg (by omega), if_neg (by omega)]
          exact f2 q (by omega) (by omega) (by omega) (by omega)
      · refine ae_iload_n (pc := 86) dX4_makeFirstBox_86 rfl ?_
        refine ae_if_le (pc := 87) (t := 113) dX4_makeFirstBox_87 (by decide) (fun c87 => ?_) (fun c87 => ?_)
        · refine ae_return (pc := 113) dX4_makeFirstBox_113 rfl ?_
          refine ⟨rfl, k, h, m, hH, ?_, AG_ne hg2 (fun q a b => rfl), fun q hq => f2 q (by omega) (by omega) (by omega) (by omega)⟩
          rw [if_neg hc]
          exact ⟨e21b, by omega, fun _ => 0, fun b hb => absurd hb (Nat.not_lt_zero b), fun b b' hb => absurd hb (Nat.not_lt_zero b)⟩
        · refine ae_iload_n (pc := 90) dX4_makeFirstBox_90 rfl ?_
          refine ae_if_le (pc := 91) (t := 113) dX4_makeFirstBox_91 (by decide) (fun c91 => ?_) (fun c91 => ?_)
          · refine ae_return (pc := 113) dX4_makeFirstBox_113 rfl ?_
            refine ⟨rfl, k, h, m, hH, ?_, AG_ne hg2 (fun q a b => rfl), fun q hq => f2 q (by omega) (by omega) (by omega) (by omega)⟩
            rw [if_neg hc]
            exact ⟨e21b, by omega, fun _ => 0, fun b hb => absurd hb (Nat.not_lt_zero b), fun b b' hb => absurd hb (Nat.not_lt_zero b)⟩
          · exact absurd ⟨Nat.pos_of_ne_zero (fun q => c87 (by rw [q]; decide)), Nat.pos_of_ne_zero (fun q => c91 (by rw [q]; decide))⟩ hc
    · have hk2 : k < n := by rw [nI_leI (by omega) (by omega)] at c24; omega
      obtain ⟨c, u, c1, c2, v1, v2, v5, v3, v4⟩ := GA_c hf hH.1 hk2
      have hlc := sc_isLockedColor (d + 1) (kyM M2 22 Kc) f (AG_ne hg2 (fun q a b => rfl)) hf (h k)
      have ih2 := ih hk2
      rw [ucL_s] at ih2
      by_cases hlk : lkc f (h k) (fN f) = true
      · rw [if_pos hlk] at ih2
        rw [bI_t hlk] at hlc
        have st := ih2 Kc hKc
        refine ae_aload_n (pc := 27) dX4_makeFirstBox_27 rfl ?_
        refine ae_getR (pc := 28) (k := 21) (c := 4) (j := 0) (q := 1) dX4_makeFirstBox_28 rfl rfl (Nat.le_of_ble_eq_true rfl) rfl (Nat.le_of_ble_eq_true rfl) rfl ?_
        refine ae_aload_n (pc := 31) dX4_makeFirstBox_31 rfl ?_
        refine ae_getR (pc := 32) (k := 21) (c := 4) (j := 1) (q := 12) dX4_makeFirstBox_32 rfl rfl (Nat.le_of_ble_eq_true rfl) rfl (Nat.le_of_ble_eq_true rfl) rfl ?_
        refine ae_getR (pc := 35) (k := 12) (c := 1) (j := 2) (q := 14) dX4_makeFirstBox_35 rfl rfl (Nat.le_of_ble_eq_true rfl) rfl (Nat.le_of_ble_eq_true rfl) rfl ?_
        refine ae_iload_n (pc := 38) dX4_makeFirstBox_38 rfl ?_
        refine ae_iaload (pc := 39) (k := 14) (N := 256) (v := h k) (k) dX4_makeFirstBox_39 (Nat.le_of_ble_eq_true rfl) rfl rfl rfl (by omega) (by rw [kyM_1, n14]) ?_
        refine ae_pcallV (pc := 40) (z := zX7_isLockedColor) (k := 1) (As := [_]) dX4_makeFirstBox_40 rfl rfl rfl rfl (Nat.le_of_ble_eq_true rfl) rfl (Nat.le_of_ble_eq_true rfl) (Nat.le_of_ble_eq_true rfl) (hlc) ?_
        refine ae_if_ne (pc := 43) (t := 80) dX4_makeFirstBox_43 (by decide) (fun c43 => ?_) (fun c43 => ?_)
        rotate_left
        · exact absurd (Classical.not_not.mp c43) (by decide)
        refine ae_iinc (pc := 80) (v := nI (k + 1)) dX4_makeFirstBox_80 rfl (nI_inc k) ?_
        refine ae_goto (pc := 83) (t := 16) dX4_makeFirstBox_83 (by decide) ?_
        exact st
      · rw [if_neg hlk] at ih2
        rw [bI_f hlk] at hlc
        have ecl : cel (cnA f) (h k) = nL (512 * c + u) := by
          unfold cel
          rw [c2, nI_clamp (by omega)]
          show nL (512 * c + cnC f (nI c) (fA f)) = _
          rw [← c2, v5]
        have st := ih2 (vp_updL Kc (ucL f h k).length (cel (cnA f) (h k))) (fun j hj => by
          rw [List.length_append, List.length_singleton] at hj
          by_cases q : j = (ucL f h k).length
          · subst q; rw [updL_self]; simp
          · have hj2 : j < (ucL f h k).length := by omega
            rw [List.getElem_append_left hj2, show vp_updL Kc (ucL f h k).length (cel (cnA f) (h k)) j = Kc j by simp [vp_updL, q]]
            exact hKc j hj2)
        rw [List.length_append, List.length_singleton, ecl] at st
        refine ae_aload_n (pc := 27) dX4_makeFirstBox_27 rfl ?_
        refine ae_getR (pc := 28) (k := 21) (c := 4) (j := 0) (q := 1) dX4_makeFirstBox_28 rfl rfl (Nat.le_of_ble_eq_true rfl) rfl (Nat.le_of_ble_eq_true rfl) rfl ?_
        refine ae_aload_n (pc := 31) dX4_makeFirstBox_31 rfl ?_
        refine ae_getR (pc := 32) (k := 21) (c := 4) (j := 1) (q := 12) dX4_makeFirstBox_32 rfl rfl (Nat.le_of_ble_eq_true rfl) rfl (Nat.le_of_ble_eq_true rfl) rfl ?_
        refine ae_getR (pc := 35) (k := 12) (c := 1) (j := 2) (q := 14) dX4_makeFirstBox_35 rfl rfl (Nat.le_of_ble_eq_true rfl) rfl (Nat.le_of_ble_eq_true rfl) rfl ?_
        refine ae_iload_n (pc := 38) dX4_makeFirstBox_38 rfl ?_
        refine ae_iaload (pc := 39) (k := 14) (N := 256) (v := h k) (k) dX4_makeFirstBox_39 (Nat.le_of_ble_eq_true rfl) rfl rfl rfl (by omega) (by rw [kyM_1, n14]) ?_
        refine ae_pcallV (pc := 40) (z := zX7_isLockedColor) (k := 1) (As := [_]) dX4_makeFirstBox_40 rfl rfl rfl rfl (Nat.le_of_ble_eq_true rfl) rfl (Nat.le_of_ble_eq_true rfl) (Nat.le_of_ble_eq_true rfl) (hlc) ?_
        refine ae_if_ne (pc := 43) (t := 80) dX4_makeFirstBox_43 (by decide) (fun c43 => ?_) (fun c43 => ?_)
        · exact absurd rfl c43
        refine ae_aload_n (pc := 46) dX4_makeFirstBox_46 rfl ?_
        refine ae_getR (pc := 47) (k := 21) (c := 4) (j := 2) (q := 22) dX4_makeFirstBox_47 rfl rfl (Nat.le_of_ble_eq_true rfl) rfl (Nat.le_of_ble_eq_true rfl) rfl ?_
        refine ae_iload_n (pc := 50) dX4_makeFirstBox_50 rfl ?_
        refine ae_ldc2_w (pc := 51) dX4_makeFirstBox_51 rfl ?_
        refine ae_aload_n (pc := 54) dX4_makeFirstBox_54 rfl ?_
        refine ae_getR (pc := 55) (k := 21) (c := 4) (j := 1) (q := 12) dX4_makeFirstBox_55 rfl rfl (Nat.le_of_ble_eq_true rfl) rfl (Nat.le_of_ble_eq_true rfl) rfl ?_
        refine ae_getR (pc := 58) (k := 12) (c := 1) (j := 2) (q := 14) dX4_makeFirstBox_58 rfl rfl (Nat.le_of_ble_eq_true rfl) rfl (Nat.le_of_ble_eq_true rfl) rfl ?_
        refine ae_iload_n (pc := 61) dX4_makeFirstBox_61 rfl ?_
        refine ae_iaload (pc := 62) (k := 14) (N := 256) (v := nI c) (k) dX4_makeFirstBox_62 (Nat.le_of_ble_eq_true rfl) rfl rfl rfl (by omega) (by rw [kyM_1, n14]; exact c2) ?_
        refine ae_i2l (pc := 63) (v := nL c) dX4_makeFirstBox_63 (nI_i2l (by omega)) ?_
        refine ae_lmul (pc := 64) (v := nL (512 * c)) dX4_makeFirstBox_64 (nL_mul _ _) ?_
        refine ae_aload_n (pc := 65) dX4_makeFirstBox_65 rfl ?_
        refine ae_getR (pc := 66) (k := 21) (c := 4) (j := 1) (q := 12) dX4_makeFirstBox_66 rfl rfl (Nat.le_of_ble_eq_true rfl) rfl (Nat.le_of_ble_eq_true rfl) rfl ?_
        refine ae_getR (pc := 69) (k := 12) (c := 1) (j := 3) (q := 15) dX4_makeFirstBox_69 rfl rfl (Nat.le_of_ble_eq_true rfl) rfl (Nat.le_of_ble_eq_true rfl) rfl ?_
        refine ae_iload_n (pc := 72) dX4_makeFirstBox_72 rfl ?_
        refine ae_iaload (pc := 73) (k := 15) (N := 256) (v := nI u) (k) dX4_makeFirstBox_73 (Nat.le_of_ble_eq_true rfl) rfl rfl rfl (by omega) (by rw [kyM_1, n15]; exact v3) ?_
        refine ae_i2l (pc := 74) (v := nL u) dX4_makeFirstBox_74 (nI_i2l (by omega)) ?_
        refine ae_ladd (pc := 75) (v := nL (512 * c + u)) dX4_makeFirstBox_75 (nL_add _ _) ?_
        refine ae_lastore (pc := 76) (k := 22) (N := 256) ((ucL f h k).length) dX4_makeFirstBox_76 (Nat.le_of_ble_eq_true rfl) rfl rfl rfl (by omega) rfl ?_
        refine ae_M (kyM_u _ _ _ _) ?_
        rw [kyM_k]
        refine ae_iinc (pc := 77) (v := nI ((ucL f h k).length + 1)) dX4_makeFirstBox_77 rfl (nI_inc _) ?_
        refine ae_iinc (pc := 80) (v := nI (k + 1)) dX4_makeFirstBox_80 rfl (nI_inc k) ?_
        refine ae_goto (pc := 83) (t := 16) dX4_makeFirstBox_83 (by decide) ?_
        exact st
  have st := lp (M2.2 22) (fun j hj => absurd hj (Nat.not_lt_zero j))
  rw [kyM_eta] at st
  refine ae_iconst (pc := 12) (v := nI 0) dX4_makeFirstBox_12 (by decide) ?_
  refine ae_istore_n (pc := 13) dX4_makeFirstBox_13 rfl (Nat.le_of_ble_eq_true rfl) ?_
  refine ae_iconst (pc := 14) (v := nI 0) dX4_makeFirstBox_14 (by decide) ?_
  refine ae_istore_n (pc := 15) dX4_makeFirstBox_15 rfl (Nat.le_of_ble_eq_true rfl) ?_
  exact st

