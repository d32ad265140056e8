theorem sc_floorDiv (d : Nat) (M : am_M) (a : Int32) (m : Nat) (h1 : 1 ≤ m) (h2 : m < 1000) : am_R (d + 1) zJ9_floorDiv_7cf53 [.int a, .int (nI m)] M (fun v M' => v = some (.int (dwn a (nI m))) ∧ M' = M) := by
  refine ae_enter (z := zJ9_floorDiv_7cf53) (y := yJ9_floorDiv_7cf53) (cc := cJ9_floorDiv_7cf53) (mL := 3) (rt := some .int) (ci := 12) (st := true) (np := 2) (L := [some (.int a), some (.int (nI m)), none]) rfl (by decide) (Nat.le_of_ble_eq_true rfl) rfl ?_
  have hm : (0 : Int32) ≤ nI m := nI_le (Nat.zero_le m) (by omega)
  refine ae_iload_n (pc := 0) dJ9_floorDiv_7cf53_0 rfl ?_
  refine ae_iload_n (pc := 1) dJ9_floorDiv_7cf53_1 rfl ?_
  refine ae_idiv (pc := 2) dJ9_floorDiv_7cf53_2 (nI_ne0 (by omega) (by omega)) rfl ?_
  refine ae_istore_n (pc := 3) dJ9_floorDiv_7cf53_3 rfl (Nat.le_of_ble_eq_true rfl) ?_
  refine ae_iload_n (pc := 4) dJ9_floorDiv_7cf53_4 rfl ?_
  refine ae_iload_n (pc := 5) dJ9_floorDiv_7cf53_5 rfl ?_
  refine ae_ixor (pc := 6) dJ9_floorDiv_7cf53_6 rfl ?_
  refine ae_if_ge (pc := 7) (t := 21) dJ9_floorDiv_7cf53_7 (by decide) (fun c7 => ?_) (fun c7 => ?_)
  · refine ae_iload_n (pc := 21) dJ9_floorDiv_7cf53_21 rfl ?_
    refine ae_ireturn (pc := 22) dJ9_floorDiv_7cf53_22 rfl ?_
    refine ⟨?_, rfl⟩
    first | (rw [fd_a h1 h2 ((xor_ge hm).mp c7)]; done) | (rw [fd_b c14]; done) | (rw [fd_c h1 h2 (fun q => c7 ((xor_ge hm).mpr q)) c14]; done)
  · refine ae_iload_n (pc := 10) dJ9_floorDiv_7cf53_10 rfl ?_
    refine ae_iload_n (pc := 11) dJ9_floorDiv_7cf53_11 rfl ?_
    refine ae_imul (pc := 12) dJ9_floorDiv_7cf53_12 rfl ?_
    refine ae_iload_n (pc := 13) dJ9_floorDiv_7cf53_13 rfl ?_
    refine ae_icmp_eq (pc := 14) (t := 21) dJ9_floorDiv_7cf53_14 (by decide) (fun c14 => ?_) (fun c14 => ?_)
    · refine ae_iload_n (pc := 21) dJ9_floorDiv_7cf53_21 rfl ?_
      refine ae_ireturn (pc := 22) dJ9_floorDiv_7cf53_22 rfl ?_
      refine ⟨?_, rfl⟩
      first | (rw [fd_a h1 h2 ((xor_ge hm).mp c7)]; done) | (rw [fd_b c14]; done) | (rw [fd_c h1 h2 (fun q => c7 ((xor_ge hm).mpr q)) c14]; done)
    · refine ae_iload_n (pc := 17) dJ9_floorDiv_7cf53_17 rfl ?_
      refine ae_iconst (pc := 18) (v := nI 1) dJ9_floorDiv_7cf53_18 (by decide) ?_
      refine ae_isub (pc := 19) dJ9_floorDiv_7cf53_19 rfl ?_
      refine ae_ireturn (pc := 20) dJ9_floorDiv_7cf53_20 rfl ?_
      refine ⟨?_, rfl⟩
      first | (rw [fd_a h1 h2 ((xor_ge hm).mp c7)]; done) | (rw [fd_b c14]; done) | (rw [fd_c h1 h2 (fun q => c7 ((xor_ge hm).mpr q)) c14]; done)
theorem m_place (d : Nat) (M : am_M) (f : fT) (h : AGm M f) (x y : Nat) : am_R (d + 1) zX7_place [.ref 1, .int (nI x), .int (nI y)] M (fun v M' => v = some (.int (nI (y * fW f + x))) ∧ M' = M) := sc_placeR d M (fW f) (AGm_f h).2.1.1 x y
theorem m_area (d : Nat) (M : am_M) (f : fT) (h : AGm M f) : am_R (d + 1) zX7_area [.ref 1] M (fun v M' => v = some (.int (nI (fA f))) ∧ M' = M) := sc_areaR d M (fW f) (fH f) (AGm_f h).2.1.1 (AGm_f h).2.1.2.1
theorem m_isOpaque (d : Nat) (M : am_M) (f : fT) (h : AGm M f) (p : Nat) (hp : p < fA f) : am_R (d + 1) zX7_isOpaque [.ref 1, .int (nI p)] M (fun v M' => v = some (.int (bI (f (2 + p) ≠ -1))) ∧ M' = M) := sc_isOpaqueR d M p (by have := fA_le (AGm_f h).1; omega) _ ((AGm_f h).2.2.1 p hp).1
theorem m_contains (d : Nat) (M : am_M) (f : fT) (h : AGm M f) (x y : Int32) : am_R (d + 1) zX7_contains [.ref 1, .int x, .int y] M (fun v M' => v = some (.int (bI (inP f x y))) ∧ M' = M) := by
  obtain ⟨g, h1, h2, h3⟩ := h
  have := sc_contains d M g h1 h2.1 x y
  have e : inP g x y ↔ inP f x y := by unfold inP; rw [h3 0 (by decide), h3 1 (by decide)]
  rwa [show bI (inP g x y) = bI (inP f x y) by unfold bI; simp only [e]] at this
theorem m_hasEntry (d : Nat) (M : am_M) (f : fT) (h : AGm M f) (x : Int32) : am_R (d + 1) zX7_hasEntry [.ref 1, .int x] M (fun v M' => v = some (.int (bI (inE f x))) ∧ M' = M) := by
  obtain ⟨g, h1, h2, h3⟩ := h
  have := sc_hasEntry d M g h1 h2.1 x
  have e : inE g x ↔ inE f x := by unfold inE; rw [h3 258 (by decide)]
  rwa [show bI (inE g x) = bI (inE f x) by unfold bI; simp only [e]] at this
theorem m_closestEntry (d : Nat) (M : am_M) (f : fT) (h : AGm M f) (c : Int32) (hc : okc c) : am_R (d + 2) zX7_closestEntry [.ref 1, .int c] M (fun v M' => v = some (.int (oI (ner f c))) ∧ M' = M) := by
  have hf := (AGm_f h).1
  obtain ⟨g, h1, h2, h3⟩ := h
  have := sc_closestEntry d M g h1 h2 c hc
  have e : ner g c = ner f c := by
    show nbt g c (-1) (fN g) = nbt f c (-1) (fN f)
    rw [(h3.w h2.1).2.2.2.1]
    exact sm292_nbt h3 c (-1) _ hf.2.2.2
  rwa [e] at this
theorem sc_shifted (d : Nat) (M : am_M) (c s : Int32) : am_R (d + 3) zX3_shifted [.int c, .int s] M (fun v M' => v = some (.int (65536 * lim (cha c 0 + s) + nI 256 * lim (cha c 1 + s) + lim (cha c 2 + s))) ∧ M' = M) := by
  refine ae_enter (z := zX3_shifted) (y := yX3_shifted) (cc := cX3_shifted) (mL := 2) (rt := some .int) (ci := 3) (st := true) (np := 2) (L := [some (.int c), some (.int s)]) rfl (by decide) (Nat.le_of_ble_eq_true rfl) rfl ?_
  refine ae_iload_n (pc := 0) dX3_shifted_0 rfl ?_
  refine ae_iconst (pc := 1) (v := nI 0) dX3_shifted_1 (by decide) ?_
  refine ae_pcallS (pc := 2) (z := zX10_channelOf) (As := [_, _]) dX3_shifted_2 rfl rfl rfl rfl (Nat.le_of_ble_eq_true rfl) (sc_channelOf (d + 1) _ _ _) ?_
  refine ae_iload_n (pc := 5) dX3_shifted_5 rfl ?_
  refine ae_iadd (pc := 6) dX3_shifted_6 rfl ?_
  refine ae_pcallS (pc := 7) (z := zX10_limited) (As := [_]) dX3_shifted_7 rfl rfl rfl rfl (Nat.le_of_ble_eq_true rfl) (sc_limited d _ _) ?_
  refine ae_iload_n (pc := 10) dX3_shifted_10 rfl ?_
  refine ae_iconst (pc := 11) (v := nI 1) dX3_shifted_11 (by decide) ?_
  refine ae_pcallS (pc := 12) (z := zX10_channelOf) (As := [_, _]) dX3_shifted_12 rfl rfl rfl rfl (Nat.le_of_ble_eq_true rfl) (sc_channelOf (d + 1) _ _ _) ?_
  refine ae_iload_n (pc := 15) dX3_shifted_15 rfl ?_
  refine ae_iadd (pc := 16) dX3_shifted_16 rfl ?_
  refine ae_pcallS (pc := 17) (z := zX10_limited) (As := [_]) dX3_shifted_17 rfl rfl rfl rfl (Nat.le_of_ble_eq_true rfl) (sc_limited d _ _) ?_
  refine ae_iload_n (pc := 20) dX3_shifted_20 rfl ?_
  refine ae_iconst (pc := 21) (v := nI 2) dX3_shifted_21 (by decide) ?_
  refine ae_pcallS (pc := 22) (z := zX10_channelOf) (As := [_, _]) dX3_shifted_22 rfl rfl rfl rfl (Nat.le_of_ble_eq_true rfl) (sc_channelOf (d + 1) _ _ _) ?_
  refine ae_iload_n (pc := 25) dX3_shifted_25 rfl ?_
  refine ae_iadd (pc := 26) dX3_shifted_26 rfl ?_
  refine ae_pcallS (pc := 27) (z := zX10_limited) (As := [_]) dX3_shifted_27 rfl rfl rfl rfl (Nat.le_of_ble_eq_true rfl) (sc_limited d _ _) ?_
  refine ae_pcallS (pc := 30) (z := zX10_colorOf) (As := [_, _, _]) dX3_shifted_30 rfl rfl rfl rfl (Nat.le_of_ble_eq_true rfl) (sc_colorOf (d + 1) _ _ _ _) ?_
  refine ae_ireturn (pc := 33) dX3_shifted_33 rfl ?_
  exact ⟨rfl, rfl⟩
theorem sc_assign (d : Nat) (M : am_M) (f : fT) (hg : AGm M f) (hz : 0 < fN f) (s : Int32) : am_R (d + 4) zX3_assign [.ref 30, .int s] M (fun v M' => v = none ∧ ∃ i, M' = iM M i ∧ ∀ p, p < fA f → i p = asV f s p) := by
  refine ae_enter (z := zX3_assign) (y := yX3_assign) (cc := cX3_assign) (mL := 6) (rt := none) (ci := 3) (st := false) (np := 1) (L := [some (.ref 30), some (.int s), none, none, none, none]) rfl (by decide) (Nat.le_of_ble_eq_true rfl) rfl ?_
  have hf := (AGm_f hg).1
  have hA := fA_le hf
  obtain ⟨⟨-, v2, v3⟩, ⟨-, w2, w3⟩, -⟩ := id hf
  have row : ∀ i k j, k ≠ 5 → (iM M i).1 k j = M.1 k j := fun i k j hk => by rw [iM_ne _ _ hk]
  have a0 : ∀ i, (iM M i).1 1 0 = nI (fW f) := fun i => by rw [iM_ne _ _ (by decide)]; exact (AGm_f hg).2.1.1
  have a1 : ∀ i, (iM M i).1 1 1 = nI (fH f) := fun i => by rw [iM_ne _ _ (by decide)]; exact (AGm_f hg).2.1.2.1
  have a3 : ∀ i, (iM M i).1 1 3 = nI (fN f) := fun i => by rw [iM_ne _ _ (by decide)]; exact (AGm_f hg).2.1.2.2
  have outer : ∀ i, AGm (iM M i) f → (∀ q, q < 0 * fW f → i q = asV f s q) → am_E none (am_R (d + 3)) cX3_assign 3 none (fun v M' => v = none ∧ ∃ i, M' = iM M i ∧ ∀ p, p < fA f → i p = asV f s p) (2, [some (.ref 30), some (.int s), some (.int (nI 0)), none, none, none], [], iM M i) := by
    refine am_down (P := fun y => ∀ i, AGm (iM M i) f → (∀ q, q < y * fW f → i q = asV f s q) → am_E none (am_R (d + 3)) cX3_assign 3 none _ (2, [some (.ref 30), some (.int s), some (.int (nI y)), none, none, none], [], iM M i)) (fH f) (fun y hy ih i hgi hi => ?_)
    refine ae_iload_n (pc := 2) dX3_assign_2 rfl ?_
    refine ae_aload_n (pc := 3) dX3_assign_3 rfl ?_
    refine ae_getR (pc := 4) (k := 30) (c := 3) (j := 0) (q := 1) dX3_assign_4 rfl rfl (Nat.le_of_ble_eq_true rfl) rfl (Nat.le_of_ble_eq_true rfl) rfl ?_
    refine ae_getI (pc := 7) (k := 1) (c := 7) (j := 1) (v := nI (fH f)) dX3_assign_7 rfl rfl (Or.inl rfl) (Nat.le_of_ble_eq_true rfl) rfl (Nat.le_of_ble_eq_true rfl) (a1 i) ?_
    refine ae_icmp_ge (pc := 10) (t := 128) dX3_assign_10 (by decide) (fun c10 => ?_) (fun c10 => ?_)
    · have hy2 : y = fH f := by rw [nI_leI (by omega) (by omega)] at c10; omega
      subst hy2
      refine ae_return (pc := 128) dX3_assign_128 rfl ?_
      exact ⟨rfl, i, rfl, fun p hp => hi p (by rw [Nat.mul_comm]; exact hp)⟩
    · have hy2 : y < fH f := by rw [nI_leI (by omega) (by omega)] at c10; omega
      have inner : ∀ i, AGm (iM M i) f → (∀ q, q < y * fW f + 0 → i q = asV f s q) → am_E none (am_R (d + 3)) cX3_assign 3 none (fun v M' => v = none ∧ ∃ i, M' = iM M i ∧ ∀ p, p < fA f → i p = asV f s p) (15, [some (.ref 30), some (.int s), some (.int (nI y)), some (.int (nI 0)), none, none], [], iM M i) := by
        refine am_down (P := fun x => ∀ i, AGm (iM M i) f → (∀ q, q < y * fW f + x → i q = asV f s q) → am_E none (am_R (d + 3)) cX3_assign 3 none _ (15, [some (.ref 30), some (.int s), some (.int (nI y)), some (.int (nI x)), none, none], [], iM M i)) (fW f) (fun x hx ihx i hgi hi => ?_)
        refine ae_iload_n (pc := 15) dX3_assign_15 rfl ?_
        refine ae_aload_n (pc := 16) dX3_assign_16 rfl ?_
        refine ae_getR (pc := 17) (k := 30) (c := 3) (j := 0) (q := 1) dX3_assign_17 rfl rfl (Nat.le_of_ble_eq_true rfl) rfl (Nat.le_of_ble_eq_true rfl) rfl ?_
        refine ae_getI (pc := 20) (k := 1) (c := 7) (j := 0) (v := nI (fW f)) dX3_assign_20 rfl rfl (Or.inl rfl) (Nat.le_of_ble_eq_true rfl) rfl (Nat.le_of_ble_eq_true rfl) (a0 i) ?_
        refine ae_icmp_ge (pc := 23) (t := 122) dX3_assign_23 (by decide) (fun c23 => ?_) (fun c23 => ?_)
        · have hx2 : x = fW f := by rw [nI_leI (by omega) (by omega)] at c23; omega
          subst hx2
          have ih2 := ih hy2 i hgi (by rw [Nat.succ_mul]; exact hi)
          refine ae_iinc (pc := 122) (v := nI (y + 1)) dX3_assign_122 rfl (nI_inc y) ?_
          refine ae_goto (pc := 125) (t := 2) dX3_assign_125 (by decide) ?_
          exact ae_forget [3] rfl ih2
        · have hx2 : x < fW f := by rw [nI_leI (by omega) (by omega)] at c23; omega
          have hp := pl_lt hf hx2 hy2
          obtain ⟨m1, m2⟩ := dmW (W := fW f) (x := x) (y := y) hx2
          have hop := m_isOpaque (d + 2) (iM M i) f hgi (y * fW f + x) hp
          have st : ∀ v, v = asV f s (y * fW f + x) → am_E none (am_R (d + 3)) cX3_assign 3 none (fun v M' => v = none ∧ ∃ i, M' = iM M i ∧ ∀ p, p < fA f → i p = asV f s p) (15, [some (.ref 30), some (.int s), some (.int (nI y)), some (.int (nI (x + 1))), none, none], [], iM M (upd i (y * fW f + x) v)) := by
            intro v hv
            have hv2 := asV_mV hf hz s (y * fW f + x)
            rw [← hv] at hv2
            have a := AGm_i hgi hp hv2
            rw [iM_5] at a
            have ee : iM (iM M i) (upd i (y * fW f + x) v) = iM M (upd i (y * fW f + x) v) := iM_u M i _
            rw [ee] at a
            refine ihx hx2 _ a (fun q hq => ?_)
            by_cases hqp : q = y * fW f + x
            · subst hqp; rw [upd_self, hv]
            · rw [upd_ne _ _ hqp]; exact hi q (by omega)
          have hdb : (nI 2 * elN x y - nI 15) * s / nI 16 = diB f (y * fW f + x) s := by unfold diB; rw [m1, m2]
          by_cases ho : f (2 + (y * fW f + x)) = -1
          · rw [bI_f (fun q => q ho)] at hop
            have hv : nI (fN f) = asV f s (y * fW f + x) := by unfold asV; rw [if_neg (fun q => q ho)]
            refine ae_aload_n (pc := 26) dX3_assign_26 rfl ?_
            refine ae_getR (pc := 27) (k := 30) (c := 3) (j := 0) (q := 1) dX3_assign_27 rfl rfl (Nat.le_of_ble_eq_true rfl) rfl (Nat.le_of_ble_eq_true rfl) rfl ?_
            refine ae_iload_n (pc := 30) dX3_assign_30 rfl ?_
            refine ae_iload_n (pc := 31) dX3_assign_31 rfl ?_
            refine ae_pcallV (pc := 32) (z := zX7_place) (k := 1) (As := [_, _]) dX3_assign_32 rfl rfl rfl rfl (Nat.le_of_ble_eq_true rfl) rfl (Nat.le_of_ble_eq_true rfl) (Nat.le_of_ble_eq_true rfl) (m_place (d + 2) _ f hgi x y) ?_
            refine ae_istore (pc := 35) dX3_assign_35 rfl (Nat.le_of_ble_eq_true rfl) ?_
            refine ae_iconst (pc := 37) (v := nI 2) dX3_assign_37 (by decide) ?_
            refine ae_getstatic (pc := 38) dX3_assign_38 rfl ?_
            refine ae_iconst (pc := 41) (v := nI 4) dX3_assign_41 (by decide) ?_
            refine ae_iload_n (pc := 42) dX3_assign_42 rfl ?_
            refine ae_iconst (pc := 43) (v := nI 3) dX3_assign_43 (by decide) ?_
            refine ae_iand (pc := 44) (v := nI (y % 4)) dX3_assign_44 (and3 (by omega)) ?_
            refine ae_imul (pc := 45) (v := nI (4 * (y % 4))) dX3_assign_45 (nI_mul _ _) ?_
            refine ae_iload_n (pc := 46) dX3_assign_46 rfl ?_
            refine ae_iconst (pc := 47) (v := nI 3) dX3_assign_47 (by decide) ?_
            refine ae_iand (pc := 48) (v := nI (x % 4)) dX3_assign_48 (and3 (by omega)) ?_
            refine ae_iadd (pc := 49) (v := nI (4 * (y % 4) + x % 4)) dX3_assign_49 (nI_add _ _) ?_
            refine ae_ialoadM (pc := 50) (v := elN x y) (4 * (y % 4) + x % 4) dX3_assign_50 rfl (by omega) rfl ?_
            refine ae_imul (pc := 51) dX3_assign_51 rfl ?_
            refine ae_bipush (pc := 52) (v := nI 15) dX3_assign_52 (by decide) ?_
            refine ae_isub (pc := 54) dX3_assign_54 rfl ?_
            refine ae_iload_n (pc := 55) dX3_assign_55 rfl ?_
            refine ae_imul (pc := 56) dX3_assign_56 rfl ?_
            refine ae_bipush (pc := 57) (v := nI 16) dX3_assign_57 (by decide) ?_
            refine ae_idiv (pc := 59) (v := diB f (y * fW f + x) s) dX3_assign_59 (by decide) hdb ?_
            refine ae_istore (pc := 60) dX3_assign_60 rfl (Nat.le_of_ble_eq_true rfl) ?_
            refine ae_aload_n (pc := 62) dX3_assign_62 rfl ?_
            refine ae_getR (pc := 63) (k := 30) (c := 3) (j := 0) (q := 1) dX3_assign_63 rfl rfl (Nat.le_of_ble_eq_true rfl) rfl (Nat.le_of_ble_eq_true rfl) rfl ?_
            refine ae_getR (pc := 66) (k := 1) (c := 7) (j := 8) (q := 5) dX3_assign_66 rfl rfl (Nat.le_of_ble_eq_true rfl) rfl (Nat.le_of_ble_eq_true rfl) rfl ?_
            refine ae_iload (pc := 69) dX3_assign_69 rfl ?_
            refine ae_aload_n (pc := 71) dX3_assign_71 rfl ?_
            refine ae_getR (pc := 72) (k := 30) (c := 3) (j := 0) (q := 1) dX3_assign_72 rfl rfl (Nat.le_of_ble_eq_true rfl) rfl (Nat.le_of_ble_eq_true rfl) rfl ?_
            refine ae_iload (pc := 75) dX3_assign_75 rfl ?_
            refine ae_pcallV (pc := 77) (z := zX7_isOpaque) (k := 1) (As := [_]) dX3_assign_77 rfl rfl rfl rfl (Nat.le_of_ble_eq_true rfl) rfl (Nat.le_of_ble_eq_true rfl) (Nat.le_of_ble_eq_true rfl) (hop) ?_
            refine ae_if_eq (pc := 80) (t := 108) dX3_assign_80 (by decide) (fun c80 => ?_) (fun c80 => ?_)
            rotate_left
            · exact absurd rfl c80
            refine ae_aload_n (pc := 108) dX3_assign_108 rfl ?_
            refine ae_getR (pc := 109) (k := 30) (c := 3) (j := 0) (q := 1) dX3_assign_109 rfl rfl (Nat.le_of_ble_eq_true rfl) rfl (Nat.le_of_ble_eq_true rfl) rfl ?_
            refine ae_getI (pc := 112) (k := 1) (c := 7) (j := 3) (v := nI (fN f)) dX3_assign_112 rfl rfl (Or.inl rfl) (Nat.le_of_ble_eq_true rfl) rfl (Nat.le_of_ble_eq_true rfl) (a3 i) ?_
            refine ae_iastore (pc := 115) (k := 5) (N := 256) (y * fW f + x) dX3_assign_115 (Nat.le_of_ble_eq_true rfl) rfl rfl rfl (by omega) rfl ?_
            refine ae_M (iM_u _ _ _) ?_
            rw [iM_5]
            refine ae_iinc (pc := 116) (v := nI (x + 1)) dX3_assign_116 rfl (nI_inc x) ?_
            refine ae_goto (pc := 119) (t := 15) dX3_assign_119 (by decide) ?_
            exact ae_forget [4, 5] rfl (st _ hv)
          · rw [bI_t ho] at hop
            obtain ⟨dc1, dc2⟩ := diC_c f (y * fW f + x) s
            have hv : oI (ner f (diC f (y * fW f + x) s 3)) = asV f s (y * fW f + x) := by unfold asV; rw [if_pos ho]
            have hsh := sc_shifted d (iM M i) (f (2 + (y * fW f + x))) (diB f (y * fW f + x) s)
            rw [dc1] at hsh
            have hce := m_closestEntry (d + 1) (iM M i) f hgi _ dc2
            refine ae_aload_n (pc := 26) dX3_assign_26 rfl ?_
            refine ae_getR (pc := 27) (k := 30) (c := 3) (j := 0) (q := 1) dX3_assign_27 rfl rfl (Nat.le_of_ble_eq_true rfl) rfl (Nat.le_of_ble_eq_true rfl) rfl ?_
            refine ae_iload_n (pc := 30) dX3_assign_30 rfl ?_
            refine ae_iload_n (pc := 31) dX3_assign_31 rfl ?_
            refine ae_pcallV (pc := 32) (z := zX7_place) (k := 1) (As := [_, _]) dX3_assign_32 rfl rfl rfl rfl (Nat.le_of_ble_eq_true rfl) rfl (Nat.le_of_ble_eq_true rfl) (Nat.le_of_ble_eq_true rfl) (m_place (d + 2) _ f hgi x y) ?_
            refine ae_istore (pc := 35) dX3_assign_35 rfl (Nat.le_of_ble_eq_true rfl) ?_
            refine ae_iconst (pc := 37) (v := nI 2) dX3_assign_37 (by decide) ?_
            refine ae_getstatic (pc := 38) dX3_assign_38 rfl ?_
            refine ae_iconst (pc := 41) (v := nI 4) dX3_assign_41 (by decide) ?_
            refine ae_iload_n (pc := 42) dX3_assign_42 rfl ?_
            refine ae_iconst (pc := 43) (v := nI 3) dX3_assign_43 (by decide) ?_
            refine ae_iand (pc := 44) (v := nI (y % 4)) dX3_assign_44 (and3 (by omega)) ?_
            refine ae_imul (pc := 45) (v := nI (4 * (y % 4))) dX3_assign_45 (nI_mul _ _) ?_
            refine ae_iload_n (pc := 46) dX3_assign_46 rfl ?_
            refine ae_iconst (pc := 47) (v := nI 3) dX3_assign_47 (by decide) ?_
            refine ae_iand (pc := 48) (v := nI (x % 4)) dX3_assign_48 (and3 (by omega)) ?_
            refine ae_iadd (pc := 49) (v := nI (4 * (y % 4) + x % 4)) dX3_assign_49 (nI_add _ _) ?_
            refine ae_ialoadM (pc := 50) (v := elN x y) (4 * (y % 4) + x % 4) dX3_assign_50 rfl (by omega) rfl ?_
            refine ae_imul (pc := 51) dX3_assign_51 rfl ?_
            refine ae_bipush (pc := 52) (v := nI 15) dX3_assign_52 (by decide) ?_
            refine ae_isub (pc := 54) dX3_assign_54 rfl ?_
            refine ae_iload_n (pc := 55) dX3_assign_55 rfl ?_
            refine ae_imul (pc := 56) dX3_assign_56 rfl ?_
            refine ae_bipush (pc := 57) (v := nI 16) dX3_assign_57 (by decide) ?_
            refine ae_idiv (pc := 59) (v := diB f (y * fW f + x) s) dX3_assign_59 (by decide) hdb ?_
            refine ae_istore (pc := 60) dX3_assign_60 rfl (Nat.le_of_ble_eq_true rfl) ?_
            refine ae_aload_n (pc := 62) dX3_assign_62 rfl ?_
            refine ae_getR (pc := 63) (k := 30) (c := 3) (j := 0) (q := 1) dX3_assign_63 rfl rfl (Nat.le_of_ble_eq_true rfl) rfl (Nat.le_of_ble_eq_true rfl) rfl ?_
            refine ae_getR (pc := 66) (k := 1) (c := 7) (j := 8) (q := 5) dX3_assign_66 rfl rfl (Nat.le_of_ble_eq_true rfl) rfl (Nat.le_of_ble_eq_true rfl) rfl ?_
            refine ae_iload (pc := 69) dX3_assign_69 rfl ?_
            refine ae_aload_n (pc := 71) dX3_assign_71 rfl ?_
            refine ae_getR (pc := 72) (k := 30) (c := 3) (j := 0) (q := 1) dX3_assign_72 rfl rfl (Nat.le_of_ble_eq_true rfl) rfl (Nat.le_of_ble_eq_true rfl) rfl ?_
            refine ae_iload (pc := 75) dX3_assign_75 rfl ?_
            refine ae_pcallV (pc := 77) (z := zX7_isOpaque) (k := 1) (As := [_]) dX3_assign_77 rfl rfl rfl rfl (Nat.le_of_ble_eq_true rfl) rfl (Nat.le_of_ble_eq_true rfl) (Nat.le_of_ble_eq_true rfl) (hop) ?_
            refine ae_if_eq (pc := 80) (t := 108) dX3_assign_80 (by decide) (fun c80 => ?_) (fun c80 => ?_)
            · exact absurd c80 (by decide)
            refine ae_aload_n (pc := 83) dX3_assign_83 rfl ?_
            refine ae_getR (pc := 84) (k := 30) (c := 3) (j := 0) (q := 1) dX3_assign_84 rfl rfl (Nat.le_of_ble_eq_true rfl) rfl (Nat.le_of_ble_eq_true rfl) rfl ?_
            refine ae_aload_n (pc := 87) dX3_assign_87 rfl ?_
            refine ae_getR (pc := 88) (k := 30) (c := 3) (j := 0) (q := 1) dX3_assign_88 rfl rfl (Nat.le_of_ble_eq_true rfl) rfl (Nat.le_of_ble_eq_true rfl) rfl ?_
            refine ae_getR (pc := 91) (k := 1) (c := 7) (j := 2) (q := 2) dX3_assign_91 rfl rfl (Nat.le_of_ble_eq_true rfl) rfl (Nat.le_of_ble_eq_true rfl) rfl ?_
            refine ae_iload (pc := 94) dX3_assign_94 rfl ?_
            refine ae_iaload (pc := 96) (k := 2) (N := 256) (v := f (2 + (y * fW f + x))) (y * fW f + x) dX3_assign_96 (Nat.le_of_ble_eq_true rfl) rfl rfl rfl (by omega) (((AGm_f hgi).2.2.1 _ hp).1) ?_
            refine ae_iload (pc := 97) dX3_assign_97 rfl ?_
            refine ae_pcallS (pc := 99) (z := zX3_shifted) (As := [_, _]) dX3_assign_99 rfl rfl rfl rfl (Nat.le_of_ble_eq_true rfl) (hsh) ?_
            refine ae_pcallV (pc := 102) (z := zX7_closestEntry) (k := 1) (As := [_]) dX3_assign_102 rfl rfl rfl rfl (Nat.le_of_ble_eq_true rfl) rfl (Nat.le_of_ble_eq_true rfl) (Nat.le_of_ble_eq_true rfl) (hce) ?_
            refine ae_goto (pc := 105) (t := 115) dX3_assign_105 (by decide) ?_
            refine ae_iastore (pc := 115) (k := 5) (N := 256) (y * fW f + x) dX3_assign_115 (Nat.le_of_ble_eq_true rfl) rfl rfl rfl (by omega) rfl ?_
            refine ae_M (iM_u _ _ _) ?_
            rw [iM_5]
            refine ae_iinc (pc := 116) (v := nI (x + 1)) dX3_assign_116 rfl (nI_inc x) ?_
            refine ae_goto (pc := 119) (t := 15) dX3_assign_119 (by decide) ?_
            exact ae_forget [4, 5] rfl (st _ hv)
      have st := inner i hgi hi
      refine ae_iconst (pc := 13) (v := nI 0) dX3_assign_13 (by decide) ?_
      refine ae_istore_n (pc := 14) dX3_assign_14 rfl (Nat.le_of_ble_eq_true rfl) ?_
      exact st
  have st := outer (M.1 5) (by rw [iM_eta]; exact hg) (fun q hq => by rw [Nat.zero_mul] at hq; exact absurd hq (Nat.not_lt_zero q))
  rw [iM_eta] at st
  refine ae_iconst (pc := 0) (v := nI 0) dX3_assign_0 (by decide) ?_
  refine ae_istore_n (pc := 1) dX3_assign_1 rfl (Nat.le_of_ble_eq_true rfl) ?_
  exact st
theorem sc_wantedValue (d : Nat) (M : am_M) (p c : Nat) (hp : p < 256) (hc : c < 3) : am_R (d + 3) zX3_wantedValue [.ref 30, .int (nI p), .int (nI c)] M (fun v M' => v = some (.int (lim (dwn (M.1 31 (3 * p + c) + nI 8) (nI 16)))) ∧ M' = M) := by
  refine ae_enter (z := zX3_wantedValue) (y := yX3_wantedValue) (cc := cX3_wantedValue) (mL := 3) (rt := some .int) (ci := 3) (st := false) (np := 2) (L := [some (.ref 30), some (.int (nI p)), some (.int (nI c))]) rfl (by decide) (Nat.le_of_ble_eq_true rfl) rfl ?_
  refine ae_aload_n (pc := 0) dX3_wantedValue_0 rfl ?_
  refine ae_getR (pc := 1) (k := 30) (c := 3) (j := 1) (q := 31) dX3_wantedValue_1 rfl rfl (Nat.le_of_ble_eq_true rfl) rfl (Nat.le_of_ble_eq_true rfl) rfl ?_
  refine ae_iconst (pc := 4) (v := nI 3) dX3_wantedValue_4 (by decide) ?_
  refine ae_iload_n (pc := 5) dX3_wantedValue_5 rfl ?_
  refine ae_imul (pc := 6) (v := nI (3 * p)) dX3_wantedValue_6 (nI_mul _ _) ?_
  refine ae_iload_n (pc := 7) dX3_wantedValue_7 rfl ?_
  refine ae_iadd (pc := 8) (v := nI (3 * p + c)) dX3_wantedValue_8 (nI_add _ _) ?_
  refine ae_iaload (pc := 9) (k := 31) (N := 768) (v := M.1 31 (3 * p + c)) (3 * p + c) dX3_wantedValue_9 (Nat.le_of_ble_eq_true rfl) rfl rfl rfl (by omega) rfl ?_
  refine ae_bipush (pc := 10) (v := nI 8) dX3_wantedValue_10 (by decide) ?_
  refine ae_iadd (pc := 12) dX3_wantedValue_12 rfl ?_
  refine ae_bipush (pc := 13) (v := nI 16) dX3_wantedValue_13 (by decide) ?_
  refine ae_pcallS (pc := 15) (z := zJ9_floorDiv_7cf53) (As := [_, _]) dX3_wantedValue_15 rfl rfl rfl rfl (Nat.le_of_ble_eq_true rfl) (sc_floorDiv (d + 1) _ _ 16 (by decide) (by decide)) ?_
  refine ae_pcallS (pc := 18) (z := zX10_limited) (As := [_]) dX3_wantedValue_18 rfl rfl rfl rfl (Nat.le_of_ble_eq_true rfl) (sc_limited d _ _) ?_
  refine ae_ireturn (pc := 21) dX3_wantedValue_21 rfl ?_
  exact ⟨rfl, rfl⟩
theorem sc_give (d : Nat) (M : am_M) (f : fT) (hg : AGm M f) (x y : Int32) (c : Nat) (hc : c < 3) (v : Int32) : am_R (d + 2) zX3_give [.ref 30, .int x, .int y, .int (nI c), .int v] M (fun r M' => r = none ∧ M' = sM M (gvC f x y c v (M.1 31))) := by
  refine ae_enter (z := zX3_give) (y := yX3_give) (cc := cX3_give) (mL := 5) (rt := none) (ci := 3) (st := false) (np := 4) (L := [some (.ref 30), some (.int x), some (.int y), some (.int (nI c)), some (.int v)]) rfl (by decide) (Nat.le_of_ble_eq_true rfl) rfl ?_
  have hf := (AGm_f hg).1
  have hco := m_contains d M f hg x y
  by_cases hi : inP f x y
  · obtain ⟨a, b, ha, hb, rfl, rfl, e, hlt⟩ := gvT_at hf hi hc
    rw [bI_t hi] at hco
    have eg : gvC f (nI a) (nI b) c v (M.1 31) = upd (M.1 31) (3 * (b * fW f + a) + c) (M.1 31 (3 * (b * fW f + a) + c) + v) := by unfold gvC; rw [if_pos hi, e]
    refine ae_aload_n (pc := 0) dX3_give_0 rfl ?_
    refine ae_getR (pc := 1) (k := 30) (c := 3) (j := 0) (q := 1) dX3_give_1 rfl rfl (Nat.le_of_ble_eq_true rfl) rfl (Nat.le_of_ble_eq_true rfl) rfl ?_
    refine ae_iload_n (pc := 4) dX3_give_4 rfl ?_
    refine ae_iload_n (pc := 5) dX3_give_5 rfl ?_
    refine ae_pcallV (pc := 6) (z := zX7_contains) (k := 1) (As := [_, _]) dX3_give_6 rfl rfl rfl rfl (Nat.le_of_ble_eq_true rfl) rfl (Nat.le_of_ble_eq_true rfl) (Nat.le_of_ble_eq_true rfl) (hco) ?_
    refine ae_if_eq (pc := 9) (t := 35) dX3_give_9 (by decide) (fun c9 => ?_) (fun c9 => ?_)
    · exact absurd c9 (by decide)
    refine ae_aload_n (pc := 12) dX3_give_12 rfl ?_
    refine ae_getR (pc := 13) (k := 30) (c := 3) (j := 1) (q := 31) dX3_give_13 rfl rfl (Nat.le_of_ble_eq_true rfl) rfl (Nat.le_of_ble_eq_true rfl) rfl ?_
    refine ae_iconst (pc := 16) (v := nI 3) dX3_give_16 (by decide) ?_
    refine ae_aload_n (pc := 17) dX3_give_17 rfl ?_
    refine ae_getR (pc := 18) (k := 30) (c := 3) (j := 0) (q := 1) dX3_give_18 rfl rfl (Nat.le_of_ble_eq_true rfl) rfl (Nat.le_of_ble_eq_true rfl) rfl ?_
    refine ae_iload_n (pc := 21) dX3_give_21 rfl ?_
    refine ae_iload_n (pc := 22) dX3_give_22 rfl ?_
    refine ae_pcallV (pc := 23) (z := zX7_place) (k := 1) (As := [_, _]) dX3_give_23 rfl rfl rfl rfl (Nat.le_of_ble_eq_true rfl) rfl (Nat.le_of_ble_eq_true rfl) (Nat.le_of_ble_eq_true rfl) (m_place d M f hg a b) ?_
    refine ae_imul (pc := 26) (v := nI (3 * (b * fW f + a))) dX3_give_26 (nI_mul _ _) ?_
    refine ae_iload_n (pc := 27) dX3_give_27 rfl ?_
    refine ae_iadd (pc := 28) (v := nI (3 * (b * fW f + a) + c)) dX3_give_28 (nI_add _ _) ?_
    refine ae_dup2 (pc := 29) dX3_give_29 rfl rfl ?_
    refine ae_iaload (pc := 30) (k := 31) (N := 768) (v := M.1 31 (3 * (b * fW f + a) + c)) (3 * (b * fW f + a) + c) dX3_give_30 (Nat.le_of_ble_eq_true rfl) rfl rfl rfl hlt rfl ?_
    refine ae_iload (pc := 31) dX3_give_31 rfl ?_
    refine ae_iadd (pc := 33) dX3_give_33 rfl ?_
    refine ae_iastore (pc := 34) (k := 31) (N := 768) (3 * (b * fW f + a) + c) dX3_give_34 (Nat.le_of_ble_eq_true rfl) rfl rfl rfl hlt rfl ?_
    refine ae_return (pc := 35) dX3_give_35 rfl ?_
    exact ⟨rfl, by rw [eg]; rfl⟩
  · rw [bI_f hi] at hco
    have eg : gvC f x y c v (M.1 31) = M.1 31 := by unfold gvC; rw [if_neg hi]
    refine ae_aload_n (pc := 0) dX3_give_0 rfl ?_
    refine ae_getR (pc := 1) (k := 30) (c := 3) (j := 0) (q := 1) dX3_give_1 rfl rfl (Nat.le_of_ble_eq_true rfl) rfl (Nat.le_of_ble_eq_true rfl) rfl ?_
    refine ae_iload_n (pc := 4) dX3_give_4 rfl ?_
    refine ae_iload_n (pc := 5) dX3_give_5 rfl ?_
    refine ae_pcallV (pc := 6) (z := zX7_contains) (k := 1) (As := [_, _]) dX3_give_6 rfl rfl rfl rfl (Nat.le_of_ble_eq_true rfl) rfl (Nat.le_of_ble_eq_true rfl) (Nat.le_of_ble_eq_true rfl) (hco) ?_
    refine ae_if_eq (pc := 9) (t := 35) dX3_give_9 (by decide) (fun c9 => ?_) (fun c9 => ?_)
    rotate_left
    · exact absurd rfl c9
    refine ae_return (pc := 35) dX3_give_35 rfl ?_
    exact ⟨rfl, by rw [eg, sM_eta]⟩
theorem sc_give' (d : Nat) (M : am_M) (f : fT) (hg : AGm M f) (S : fT) (x y : Int32) (c : Nat) (hc : c < 3) (v : Int32) : am_R (d + 2) zX3_give [.ref 30, .int x, .int y, .int (nI c), .int v] (sM M S) (fun r M' => r = none ∧ M' = sM M (gvC f x y c v S)) := by
  have := sc_give d (sM M S) f (AGm_s hg S) x y c hc v
  rw [sM_31] at this
  rwa [show sM (sM M S) (gvC f x y c v S) = sM M (gvC f x y c v S) from sM_u _ _ _] at this
theorem sc_spreadInFour (d : Nat) (M : am_M) (f : fT) (hg : AGm M f) (S : fT) (x y : Nat) (c : Nat) (hc : c < 3) (e : Int32) : am_R (d + 3) zX3_spreadInFour [.ref 30, .int (nI x), .int (nI y), .int (ahd y), .int (nI c), .int e] (sM M S) (fun r M' => r = none ∧ ∃ S', M' = sM M S' ∧ ∀ T, SR f S T → SR f S' (sp2 f x y c e T)) := by
  refine ae_enter (z := zX3_spreadInFour) (y := yX3_spreadInFour) (cc := cX3_spreadInFour) (mL := 9) (rt := none) (ci := 3) (st := false) (np := 5) (L := [some (.ref 30), some (.int (nI x)), some (.int (nI y)), some (.int (ahd y)), some (.int (nI c)), some (.int e), none, none, none]) rfl (by decide) (Nat.le_of_ble_eq_true rfl) rfl ?_
  have hf := (AGm_f hg).1
  refine ae_bipush (pc := 0) (v := nI 7) dX3_spreadInFour_0 (by decide) ?_
  refine ae_iload (pc := 2) dX3_spreadInFour_2 rfl ?_
  refine ae_imul (pc := 4) dX3_spreadInFour_4 rfl ?_
  refine ae_bipush (pc := 5) (v := nI 16) dX3_spreadInFour_5 (by decide) ?_
  refine ae_pcallS (pc := 7) (z := zJ9_floorDiv_7cf53) (As := [_, _]) dX3_spreadInFour_7 rfl rfl rfl rfl (Nat.le_of_ble_eq_true rfl) (sc_floorDiv (d + 1) _ _ 16 (by decide) (by decide)) ?_
  refine ae_istore (pc := 10) dX3_spreadInFour_10 rfl (Nat.le_of_ble_eq_true rfl) ?_
  refine ae_iconst (pc := 12) (v := nI 3) dX3_spreadInFour_12 (by decide) ?_
  refine ae_iload (pc := 13) dX3_spreadInFour_13 rfl ?_
  refine ae_imul (pc := 15) dX3_spreadInFour_15 rfl ?_
  refine ae_bipush (pc := 16) (v := nI 16) dX3_spreadInFour_16 (by decide) ?_
  refine ae_pcallS (pc := 18) (z := zJ9_floorDiv_7cf53) (As := [_, _]) dX3_spreadInFour_18 rfl rfl rfl rfl (Nat.le_of_ble_eq_true rfl) (sc_floorDiv (d + 1) _ _ 16 (by decide) (by decide)) ?_
  refine ae_istore (pc := 21) dX3_spreadInFour_21 rfl (Nat.le_of_ble_eq_true rfl) ?_
  refine ae_iconst (pc := 23) (v := nI 5) dX3_spreadInFour_23 (by decide) ?_
  refine ae_iload (pc := 24) dX3_spreadInFour_24 rfl ?_
  refine ae_imul (pc := 26) dX3_spreadInFour_26 rfl ?_
  refine ae_bipush (pc := 27) (v := nI 16) dX3_spreadInFour_27 (by decide) ?_
  refine ae_pcallS (pc := 29) (z := zJ9_floorDiv_7cf53) (As := [_, _]) dX3_spreadInFour_29 rfl rfl rfl rfl (Nat.le_of_ble_eq_true rfl) (sc_floorDiv (d + 1) _ _ 16 (by decide) (by decide)) ?_
  refine ae_istore (pc := 32) dX3_spreadInFour_32 rfl (Nat.le_of_ble_eq_true rfl) ?_
  refine ae_aload_n (pc := 34) dX3_spreadInFour_34 rfl ?_
  refine ae_iload_n (pc := 35) dX3_spreadInFour_35 rfl ?_
  refine ae_iload_n (pc := 36) dX3_spreadInFour_36 rfl ?_
  refine ae_iadd (pc := 37) dX3_spreadInFour_37 rfl ?_
  refine ae_iload_n (pc := 38) dX3_spreadInFour_38 rfl ?_
  refine ae_iload (pc := 39) dX3_spreadInFour_39 rfl ?_
  refine ae_iload (pc := 41) dX3_spreadInFour_41 rfl ?_
  refine ae_callV (pc := 43) (z := zX3_give) (k := 30) (As := [_, _, _, _]) dX3_spreadInFour_43 rfl rfl rfl rfl (Nat.le_of_ble_eq_true rfl) rfl (Nat.le_of_ble_eq_true rfl) (Nat.le_of_ble_eq_true rfl) (sc_give' d M f hg _ _ _ c hc _) (fun v M' hq => ?_)
  obtain ⟨rfl, rfl⟩ := hq
  refine ae_aload_n (pc := 46) dX3_spreadInFour_46 rfl ?_
  refine ae_iload_n (pc := 47) dX3_spreadInFour_47 rfl ?_
  refine ae_iload_n (pc := 48) dX3_spreadInFour_48 rfl ?_
  refine ae_isub (pc := 49) dX3_spreadInFour_49 rfl ?_
  refine ae_iload_n (pc := 50) dX3_spreadInFour_50 rfl ?_
  refine ae_iconst (pc := 51) (v := nI 1) dX3_spreadInFour_51 (by decide) ?_
  refine ae_iadd (pc := 52) (v := nI y + nI 1) dX3_spreadInFour_52 rfl ?_
  refine ae_iload (pc := 53) dX3_spreadInFour_53 rfl ?_
  refine ae_iload (pc := 55) dX3_spreadInFour_55 rfl ?_
  refine ae_callV (pc := 57) (z := zX3_give) (k := 30) (As := [_, _, _, _]) dX3_spreadInFour_57 rfl rfl rfl rfl (Nat.le_of_ble_eq_true rfl) rfl (Nat.le_of_ble_eq_true rfl) (Nat.le_of_ble_eq_true rfl) (sc_give' d M f hg _ _ _ c hc _) (fun v M' hq => ?_)
  obtain ⟨rfl, rfl⟩ := hq
  refine ae_aload_n (pc := 60) dX3_spreadInFour_60 rfl ?_
  refine ae_iload_n (pc := 61) dX3_spreadInFour_61 rfl ?_
  refine ae_iload_n (pc := 62) dX3_spreadInFour_62 rfl ?_
  refine ae_iconst (pc := 63) (v := nI 1) dX3_spreadInFour_63 (by decide) ?_
  refine ae_iadd (pc := 64) (v := nI y + nI 1) dX3_spreadInFour_64 rfl ?_
  refine ae_iload (pc := 65) dX3_spreadInFour_65 rfl ?_
  refine ae_iload (pc := 67) dX3_spreadInFour_67 rfl ?_
  refine ae_callV (pc := 69) (z := zX3_give) (k := 30) (As := [_, _, _, _]) dX3_spreadInFour_69 rfl rfl rfl rfl (Nat.le_of_ble_eq_true rfl) rfl (Nat.le_of_ble_eq_true rfl) (Nat.le_of_ble_eq_true rfl) (sc_give' d M f hg _ _ _ c hc _) (fun v M' hq => ?_)
  obtain ⟨rfl, rfl⟩ := hq
  refine ae_aload_n (pc := 72) dX3_spreadInFour_72 rfl ?_
  refine ae_iload_n (pc := 73) dX3_spreadInFour_73 rfl ?_
  refine ae_iload_n (pc := 74) dX3_spreadInFour_74 rfl ?_
  refine ae_iadd (pc := 75) dX3_spreadInFour_75 rfl ?_
  refine ae_iload_n (pc := 76) dX3_spreadInFour_76 rfl ?_
  refine ae_iconst (pc := 77) (v := nI 1) dX3_spreadInFour_77 (by decide) ?_
  refine ae_iadd (pc := 78) (v := nI y + nI 1) dX3_spreadInFour_78 rfl ?_
  refine ae_iload (pc := 79) dX3_spreadInFour_79 rfl ?_
  refine ae_iload (pc := 81) dX3_spreadInFour_81 rfl ?_
  refine ae_iload (pc := 83) dX3_spreadInFour_83 rfl ?_
  refine ae_isub (pc := 85) dX3_spreadInFour_85 rfl ?_
  refine ae_iload (pc := 86) dX3_spreadInFour_86 rfl ?_
  refine ae_isub (pc := 88) dX3_spreadInFour_88 rfl ?_
  refine ae_iload (pc := 89) dX3_spreadInFour_89 rfl ?_
  refine ae_isub (pc := 91) dX3_spreadInFour_91 rfl ?_
  refine ae_callV (pc := 92) (z := zX3_give) (k := 30) (As := [_, _, _, _]) dX3_spreadInFour_92 rfl rfl rfl rfl (Nat.le_of_ble_eq_true rfl) rfl (Nat.le_of_ble_eq_true rfl) (Nat.le_of_ble_eq_true rfl) (sc_give' d M f hg _ _ _ c hc _) (fun v M' hq => ?_)
  obtain ⟨rfl, rfl⟩ := hq
  refine ae_return (pc := 95) dX3_spreadInFour_95 rfl ?_
  refine ⟨rfl, _, rfl, fun T hT => ?_⟩
  exact SR_gv hf (SR_gv hf (SR_gv hf (SR_gv hf hT _ _ hc _) _ _ hc _) _ _ hc _) _ _ hc _
theorem sc_spreadInSix (d : Nat) (M : am_M) (f : fT) (hg : AGm M f) (S : fT) (x y : Nat) (c : Nat) (hc : c < 3) (e : Int32) : am_R (d + 3) zX3_spreadInSix [.ref 30, .int (nI x), .int (nI y), .int (ahd y), .int (nI c), .int e] (sM M S) (fun r M' => r = none ∧ ∃ S', M' = sM M S' ∧ ∀ T, SR f S T → SR f S' (sp3 f x y c e T)) := by
  refine ae_enter (z := zX3_spreadInSix) (y := yX3_spreadInSix) (cc := cX3_spreadInSix) (mL := 7) (rt := none) (ci := 3) (st := false) (np := 5) (L := [some (.ref 30), some (.int (nI x)), some (.int (nI y)), some (.int (ahd y)), some (.int (nI c)), some (.int e), none]) rfl (by decide) (Nat.le_of_ble_eq_true rfl) rfl ?_
  have hf := (AGm_f hg).1
  refine ae_iload (pc := 0) dX3_spreadInSix_0 rfl ?_
  refine ae_bipush (pc := 2) (v := nI 8) dX3_spreadInSix_2 (by decide) ?_
  refine ae_pcallS (pc := 4) (z := zJ9_floorDiv_7cf53) (As := [_, _]) dX3_spreadInSix_4 rfl rfl rfl rfl (Nat.le_of_ble_eq_true rfl) (sc_floorDiv (d + 1) _ _ 8 (by decide) (by decide)) ?_
  refine ae_istore (pc := 7) dX3_spreadInSix_7 rfl (Nat.le_of_ble_eq_true rfl) ?_
  refine ae_aload_n (pc := 9) dX3_spreadInSix_9 rfl ?_
  refine ae_iload_n (pc := 10) dX3_spreadInSix_10 rfl ?_
  refine ae_iload_n (pc := 11) dX3_spreadInSix_11 rfl ?_
  refine ae_iadd (pc := 12) dX3_spreadInSix_12 rfl ?_
  refine ae_iload_n (pc := 13) dX3_spreadInSix_13 rfl ?_
  refine ae_iload (pc := 14) dX3_spreadInSix_14 rfl ?_
  refine ae_iload (pc := 16) dX3_spreadInSix_16 rfl ?_
  refine ae_callV (pc := 18) (z := zX3_give) (k := 30) (As := [_, _, _, _]) dX3_spreadInSix_18 rfl rfl rfl rfl (Nat.le_of_ble_eq_true rfl) rfl (Nat.le_of_ble_eq_true rfl) (Nat.le_of_ble_eq_true rfl) (sc_give' d M f hg _ _ _ c hc _) (fun v M' hq => ?_)
  obtain ⟨rfl, rfl⟩ := hq
  refine ae_aload_n (pc := 21) dX3_spreadInSix_21 rfl ?_
  refine ae_iload_n (pc := 22) dX3_spreadInSix_22 rfl ?_
  refine ae_iconst (pc := 23) (v := nI 2) dX3_spreadInSix_23 (by decide) ?_
  refine ae_iload_n (pc := 24) dX3_spreadInSix_24 rfl ?_
  refine ae_imul (pc := 25) dX3_spreadInSix_25 rfl ?_
  refine ae_iadd (pc := 26) dX3_spreadInSix_26 rfl ?_
  refine ae_iload_n (pc := 27) dX3_spreadInSix_27 rfl ?_
  refine ae_iload (pc := 28) dX3_spreadInSix_28 rfl ?_
  refine ae_iload (pc := 30) dX3_spreadInSix_30 rfl ?_
  refine ae_callV (pc := 32) (z := zX3_give) (k := 30) (As := [_, _, _, _]) dX3_spreadInSix_32 rfl rfl rfl rfl (Nat.le_of_ble_eq_true rfl) rfl (Nat.le_of_ble_eq_true rfl) (Nat.le_of_ble_eq_true rfl) (sc_give' d M f hg _ _ _ c hc _) (fun v M' hq => ?_)
  obtain ⟨rfl, rfl⟩ := hq
  refine ae_aload_n (pc := 35) dX3_spreadInSix_35 rfl ?_
  refine ae_iload_n (pc := 36) dX3_spreadInSix_36 rfl ?_
  refine ae_iconst (pc := 37) (v := nI 1) dX3_spreadInSix_37 (by decide) ?_
  refine ae_isub (pc := 38) (v := nI x - nI 1) dX3_spreadInSix_38 rfl ?_
  refine ae_iload_n (pc := 39) dX3_spreadInSix_39 rfl ?_
  refine ae_iconst (pc := 40) (v := nI 1) dX3_spreadInSix_40 (by decide) ?_
  refine ae_iadd (pc := 41) (v := nI y + nI 1) dX3_spreadInSix_41 rfl ?_
  refine ae_iload (pc := 42) dX3_spreadInSix_42 rfl ?_
  refine ae_iload (pc := 44) dX3_spreadInSix_44 rfl ?_
  refine ae_callV (pc := 46) (z := zX3_give) (k := 30) (As := [_, _, _, _]) dX3_spreadInSix_46 rfl rfl rfl rfl (Nat.le_of_ble_eq_true rfl) rfl (Nat.le_of_ble_eq_true rfl) (Nat.le_of_ble_eq_true rfl) (sc_give' d M f hg _ _ _ c hc _) (fun v M' hq => ?_)
  obtain ⟨rfl, rfl⟩ := hq
  refine ae_aload_n (pc := 49) dX3_spreadInSix_49 rfl ?_
  refine ae_iload_n (pc := 50) dX3_spreadInSix_50 rfl ?_
  refine ae_iload_n (pc := 51) dX3_spreadInSix_51 rfl ?_
  refine ae_iconst (pc := 52) (v := nI 1) dX3_spreadInSix_52 (by decide) ?_
  refine ae_iadd (pc := 53) (v := nI y + nI 1) dX3_spreadInSix_53 rfl ?_
  refine ae_iload (pc := 54) dX3_spreadInSix_54 rfl ?_
  refine ae_iload (pc := 56) dX3_spreadInSix_56 rfl ?_
  refine ae_callV (pc := 58) (z := zX3_give) (k := 30) (As := [_, _, _, _]) dX3_spreadInSix_58 rfl rfl rfl rfl (Nat.le_of_ble_eq_true rfl) rfl (Nat.le_of_ble_eq_true rfl) (Nat.le_of_ble_eq_true rfl) (sc_give' d M f hg _ _ _ c hc _) (fun v M' hq => ?_)
  obtain ⟨rfl, rfl⟩ := hq
  refine ae_aload_n (pc := 61) dX3_spreadInSix_61 rfl ?_
  refine ae_iload_n (pc := 62) dX3_spreadInSix_62 rfl ?_
  refine ae_iconst (pc := 63) (v := nI 1) dX3_spreadInSix_63 (by decide) ?_
  refine ae_iadd (pc := 64) (v := nI x + nI 1) dX3_spreadInSix_64 rfl ?_
  refine ae_iload_n (pc := 65) dX3_spreadInSix_65 rfl ?_
  refine ae_iconst (pc := 66) (v := nI 1) dX3_spreadInSix_66 (by decide) ?_
  refine ae_iadd (pc := 67) (v := nI y + nI 1) dX3_spreadInSix_67 rfl ?_
  refine ae_iload (pc := 68) dX3_spreadInSix_68 rfl ?_
  refine ae_iload (pc := 70) dX3_spreadInSix_70 rfl ?_
  refine ae_callV (pc := 72) (z := zX3_give) (k := 30) (As := [_, _, _, _]) dX3_spreadInSix_72 rfl rfl rfl rfl (Nat.le_of_ble_eq_true rfl) rfl (Nat.le_of_ble_eq_true rfl) (Nat.le_of_ble_eq_true rfl) (sc_give' d M f hg _ _ _ c hc _) (fun v M' hq => ?_)
  obtain ⟨rfl, rfl⟩ := hq
  refine ae_aload_n (pc := 75) dX3_spreadInSix_75 rfl ?_
  refine ae_iload_n (pc := 76) dX3_spreadInSix_76 rfl ?_
  refine ae_iload_n (pc := 77) dX3_spreadInSix_77 rfl ?_
  refine ae_iconst (pc := 78) (v := nI 2) dX3_spreadInSix_78 (by decide) ?_
  refine ae_iadd (pc := 79) (v := nI y + nI 2) dX3_spreadInSix_79 rfl ?_
  refine ae_iload (pc := 80) dX3_spreadInSix_80 rfl ?_
  refine ae_iload (pc := 82) dX3_spreadInSix_82 rfl ?_
  refine ae_callV (pc := 84) (z := zX3_give) (k := 30) (As := [_, _, _, _]) dX3_spreadInSix_84 rfl rfl rfl rfl (Nat.le_of_ble_eq_true rfl) rfl (Nat.le_of_ble_eq_true rfl) (Nat.le_of_ble_eq_true rfl) (sc_give' d M f hg _ _ _ c hc _) (fun v M' hq => ?_)
  obtain ⟨rfl, rfl⟩ := hq
  refine ae_return (pc := 87) dX3_spreadInSix_87 rfl ?_
  refine ⟨rfl, _, rfl, fun T hT => ?_⟩
  exact SR_gv hf (SR_gv hf (SR_gv hf (SR_gv hf (SR_gv hf (SR_gv hf hT _ _ hc _) _ _ hc _) _ _ hc _) _ _ hc _) _ _ hc _) _ _ hc _
theorem sc_visitT (d : Nat) (M : am_M) (f : fT) (hg : AGm M f) (x y : Nat) (hx : x < fW f) (hy : y < fH f) (mt : Nat) (ho : f (2 + (y * fW f + x)) = -1) : am_R (d + 4) zX3_visit [.ref 30, .int (nI x), .int (nI y), .int (ahd y), .int (nI mt)] M (fun r M' => r = none ∧ M' = iM M (upd (M.1 5) (y * fW f + x) (nI (fN f)))) := by
  refine ae_enter (z := zX3_visit) (y := yX3_visit) (cc := cX3_visit) (mL := 10) (rt := none) (ci := 3) (st := false) (np := 4) (L := [some (.ref 30), some (.int (nI x)), some (.int (nI y)), some (.int (ahd y)), some (.int (nI mt)), none, none, none, none, none]) rfl (by decide) (Nat.le_of_ble_eq_true rfl) rfl ?_
  have hf := (AGm_f hg).1
  have hA := fA_le hf
  have hp := pl_lt hf hx hy
  have hop := m_isOpaque (d + 2) M f hg _ hp
  rw [bI_f (fun q => q ho)] at hop
  refine ae_aload_n (pc := 0) dX3_visit_0 rfl ?_
  refine ae_getR (pc := 1) (k := 30) (c := 3) (j := 0) (q := 1) dX3_visit_1 rfl rfl (Nat.le_of_ble_eq_true rfl) rfl (Nat.le_of_ble_eq_true rfl) rfl ?_
  refine ae_iload_n (pc := 4) dX3_visit_4 rfl ?_
  refine ae_iload_n (pc := 5) dX3_visit_5 rfl ?_
  refine ae_pcallV (pc := 6) (z := zX7_place) (k := 1) (As := [_, _]) dX3_visit_6 rfl rfl rfl rfl (Nat.le_of_ble_eq_true rfl) rfl (Nat.le_of_ble_eq_true rfl) (Nat.le_of_ble_eq_true rfl) (m_place (d + 2) M f hg x y) ?_
  refine ae_istore (pc := 9) dX3_visit_9 rfl (Nat.le_of_ble_eq_true rfl) ?_
  refine ae_aload_n (pc := 11) dX3_visit_11 rfl ?_
  refine ae_getR (pc := 12) (k := 30) (c := 3) (j := 0) (q := 1) dX3_visit_12 rfl rfl (Nat.le_of_ble_eq_true rfl) rfl (Nat.le_of_ble_eq_true rfl) rfl ?_
  refine ae_iload (pc := 15) dX3_visit_15 rfl ?_
  refine ae_pcallV (pc := 17) (z := zX7_isOpaque) (k := 1) (As := [_]) dX3_visit_17 rfl rfl rfl rfl (Nat.le_of_ble_eq_true rfl) rfl (Nat.le_of_ble_eq_true rfl) (Nat.le_of_ble_eq_true rfl) (hop) ?_
  refine ae_if_ne (pc := 20) (t := 41) dX3_visit_20 (by decide) (fun c20 => ?_) (fun c20 => ?_)
  · exact absurd rfl c20
  refine ae_aload_n (pc := 23) dX3_visit_23 rfl ?_
  refine ae_getR (pc := 24) (k := 30) (c := 3) (j := 0) (q := 1) dX3_visit_24 rfl rfl (Nat.le_of_ble_eq_true rfl) rfl (Nat.le_of_ble_eq_true rfl) rfl ?_
  refine ae_getR (pc := 27) (k := 1) (c := 7) (j := 8) (q := 5) dX3_visit_27 rfl rfl (Nat.le_of_ble_eq_true rfl) rfl (Nat.le_of_ble_eq_true rfl) rfl ?_
  refine ae_iload (pc := 30) dX3_visit_30 rfl ?_
  refine ae_aload_n (pc := 32) dX3_visit_32 rfl ?_
  refine ae_getR (pc := 33) (k := 30) (c := 3) (j := 0) (q := 1) dX3_visit_33 rfl rfl (Nat.le_of_ble_eq_true rfl) rfl (Nat.le_of_ble_eq_true rfl) rfl ?_
  refine ae_getI (pc := 36) (k := 1) (c := 7) (j := 3) (v := nI (fN f)) dX3_visit_36 rfl rfl (Or.inl rfl) (Nat.le_of_ble_eq_true rfl) rfl (Nat.le_of_ble_eq_true rfl) ((AGm_f hg).2.1.2.2) ?_
  refine ae_iastore (pc := 39) (k := 5) (N := 256) (y * fW f + x) dX3_visit_39 (Nat.le_of_ble_eq_true rfl) rfl rfl rfl (by omega) rfl ?_
  refine ae_return (pc := 40) dX3_visit_40 rfl ?_
  exact ⟨rfl, rfl⟩
theorem sc_visit (d : Nat) (M : am_M) (f : fT) (hg : AGm M f) (x y : Nat) (hx : x < fW f) (hy : y < fH f) (mt : Nat) (hmt : mt < 4) (ho : f (2 + (y * fW f + x)) ≠ -1) (T : fT) (hT : SR f (M.1 31) T) (e : Nat) (he : ner f (vsC T (y * fW f + x) 3) = some e) : am_R (d + 4) zX3_visit [.ref 30, .int (nI x), .int (nI y), .int (ahd y), .int (nI mt)] M (fun r M' => r = none ∧ ∃ S', M' = sM (iM M (upd (M.1 5) (y * fW f + x) (nI e))) S' ∧ SR f S' (vsT f x y mt (f (259 + e)) T 3)) := by
  refine ae_enter (z := zX3_visit) (y := yX3_visit) (cc := cX3_visit) (mL := 10) (rt := none) (ci := 3) (st := false) (np := 4) (L := [some (.ref 30), some (.int (nI x)), some (.int (nI y)), some (.int (ahd y)), some (.int (nI mt)), none, none, none, none, none]) rfl (by decide) (Nat.le_of_ble_eq_true rfl) rfl ?_
  have hf := (AGm_f hg).1
  have hA := fA_le hf
  have hN := hf.2.2.2
  have hp := pl_lt hf hx hy
  have hop := m_isOpaque (d + 2) M f hg _ hp
  rw [bI_t ho] at hop
  have hb := (nbt_ok he).1
  obtain ⟨vc1, vc2⟩ := vsC_c (M.1 31) (y * fW f + x)
  rw [vsC_eq hT hp ho] at vc1 vc2
  have hce := m_closestEntry (d + 1) M f hg _ vc2
  rw [he] at hce
  have hco := sc_colorOf (d + 2) (lim (dwn (M.1 31 (3 * (y * fW f + x) + 0) + nI 8) (nI 16))) (lim (dwn (M.1 31 (3 * (y * fW f + x) + 1) + nI 8) (nI 16))) (lim (dwn (M.1 31 (3 * (y * fW f + x) + 2) + nI 8) (nI 16))) M
  rw [vc1] at hco
  have hg2 : AGm (iM M (upd (M.1 5) (y * fW f + x) (nI e))) f := AGm_i hg hp ⟨fun q => absurd q ho, fun _ => ⟨e, hb, rfl⟩⟩
  have hhe := m_hasEntry (d + 2) _ f hg2 (nI e)
  rw [bI_t (inE_of hf hb)] at hhe
  generalize hN2 : iM M (upd (M.1 5) (y * fW f + x) (nI e)) = N at *
  have n31 : N.1 31 = M.1 31 := by rw [← hN2]; exact iM_ne _ _ (by decide)
  have hcol := ((AGm_f hg2).2.2.2 e hb).1
  have lp : ∀ S, SR f S (vsT f x y mt (f (259 + e)) T 0) → am_E none (am_R (d + 3)) cX3_visit 3 none (fun r M' => r = none ∧ ∃ S', M' = sM N S' ∧ SR f S' (vsT f x y mt (f (259 + e)) T 3)) (106, [some (.ref 30), some (.int (nI x)), some (.int (nI y)), some (.int (ahd y)), some (.int (nI mt)), some (.int (nI (y * fW f + x))), some (.int (vsC T (y * fW f + x) 3)), some (.int (nI e)), some (.int (nI 0)), none], [], sM N S) := by
    refine am_down (P := fun c => ∀ S, SR f S (vsT f x y mt (f (259 + e)) T c) → am_E none (am_R (d + 3)) cX3_visit 3 none _ (106, [some (.ref 30), some (.int (nI x)), some (.int (nI y)), some (.int (ahd y)), some (.int (nI mt)), some (.int (nI (y * fW f + x))), some (.int (vsC T (y * fW f + x) 3)), some (.int (nI e)), some (.int (nI c)), none], [], sM N S)) 3 (fun c hc ih S hS => ?_)
    refine ae_iload (pc := 106) dX3_visit_106 rfl ?_
    refine ae_iconst (pc := 108) (v := nI 3) dX3_visit_108 (by decide) ?_
    refine ae_icmp_ge (pc := 109) (t := 182) dX3_visit_109 (by decide) (fun c109 => ?_) (fun c109 => ?_)
    · have hc2 : c = 3 := by rw [nI_leI (by omega) (by omega)] at c109; omega
      subst hc2
      refine ae_return (pc := 182) dX3_visit_182 rfl ?_
      exact ⟨rfl, S, rfl, hS⟩
    · have hc2 : c < 3 := by rw [nI_leI (by omega) (by omega)] at c109; omega
      have ih2 := ih hc2
      rw [vsT_s] at ih2
      have hSp := hS _ hp ho c hc2
      generalize hE : vsT f x y mt (f (259 + e)) T c (3 * (y * fW f + x) + c) - nI 16 * cha (f (259 + e)) c = E at *
      have hE2 : S (3 * (y * fW f + x) + c) - nI 16 * cha (f (259 + e)) c = E := by rw [hSp]; exact hE
      have r3 : (sM N S).1 3 e = f (259 + e) := by rw [sM_ne _ _ (by decide)]; exact hcol
      by_cases h2 : mt = 2
      · have es : ∀ U, spT f x y c E mt U = sp2 f x y c E U := fun U => by unfold spT; rw [if_pos h2]
        rw [es] at ih2
        refine ae_aload_n (pc := 112) dX3_visit_112 rfl ?_
        refine ae_getR (pc := 113) (k := 30) (c := 3) (j := 1) (q := 31) dX3_visit_113 rfl rfl (Nat.le_of_ble_eq_true rfl) rfl (Nat.le_of_ble_eq_true rfl) rfl ?_
        refine ae_iconst (pc := 116) (v := nI 3) dX3_visit_116 (by decide) ?_
        refine ae_iload (pc := 117) dX3_visit_117 rfl ?_
        refine ae_imul (pc := 119) (v := nI (3 * (y * fW f + x))) dX3_visit_119 (nI_mul _ _) ?_
        refine ae_iload (pc := 120) dX3_visit_120 rfl ?_
        refine ae_iadd (pc := 122) (v := nI (3 * (y * fW f + x) + c)) dX3_visit_122 (nI_add _ _) ?_
        refine ae_iaload (pc := 123) (k := 31) (N := 768) (v := S (3 * (y * fW f + x) + c)) (3 * (y * fW f + x) + c) dX3_visit_123 (Nat.le_of_ble_eq_true rfl) rfl rfl rfl (by omega) (by rw [sM_31]) ?_
        refine ae_bipush (pc := 124) (v := nI 16) dX3_visit_124 (by decide) ?_
        refine ae_aload_n (pc := 126) dX3_visit_126 rfl ?_
        refine ae_getR (pc := 127) (k := 30) (c := 3) (j := 0) (q := 1) dX3_visit_127 rfl rfl (Nat.le_of_ble_eq_true rfl) rfl (Nat.le_of_ble_eq_true rfl) rfl ?_
        refine ae_getR (pc := 130) (k := 1) (c := 7) (j := 4) (q := 3) dX3_visit_130 rfl rfl (Nat.le_of_ble_eq_true rfl) rfl (Nat.le_of_ble_eq_true rfl) rfl ?_
        refine ae_iload (pc := 133) dX3_visit_133 rfl ?_
        refine ae_iaload (pc := 135) (k := 3) (N := 16) (v := f (259 + e)) (e) dX3_visit_135 (Nat.le_of_ble_eq_true rfl) rfl rfl rfl (by omega) r3 ?_
        refine ae_iload (pc := 136) dX3_visit_136 rfl ?_
        refine ae_pcallS (pc := 138) (z := zX10_channelOf) (As := [_, _]) dX3_visit_138 rfl rfl rfl rfl (Nat.le_of_ble_eq_true rfl) (sc_channelOf (d + 2) _ _ _) ?_
        refine ae_imul (pc := 141) dX3_visit_141 rfl ?_
        refine ae_isub (pc := 142) (v := E) dX3_visit_142 hE2 ?_
        refine ae_istore (pc := 143) dX3_visit_143 rfl (Nat.le_of_ble_eq_true rfl) ?_
        refine ae_iload (pc := 145) dX3_visit_145 rfl ?_
        refine ae_iconst (pc := 147) (v := nI 2) dX3_visit_147 (by decide) ?_
        refine ae_icmp_ne (pc := 148) (t := 165) dX3_visit_148 (by decide) (fun c148 => ?_) (fun c148 => ?_)
        · exact absurd (by rw [h2]) c148
        refine ae_aload_n (pc := 151) dX3_visit_151 rfl ?_
        refine ae_iload_n (pc := 152) dX3_visit_152 rfl ?_
        refine ae_iload_n (pc := 153) dX3_visit_153 rfl ?_
        refine ae_iload_n (pc := 154) dX3_visit_154 rfl ?_
        refine ae_iload (pc := 155) dX3_visit_155 rfl ?_
        refine ae_iload (pc := 157) dX3_visit_157 rfl ?_
        refine ae_callV (pc := 159) (z := zX3_spreadInFour) (k := 30) (As := [_, _, _, _, _]) dX3_visit_159 rfl rfl rfl rfl (Nat.le_of_ble_eq_true rfl) rfl (Nat.le_of_ble_eq_true rfl) (Nat.le_of_ble_eq_true rfl) (sc_spreadInFour d N f hg2 S x y c hc2 E) (fun v M' hq => ?_)
        obtain ⟨rfl, S', rfl, hq2⟩ := hq
        refine ae_goto (pc := 162) (t := 176) dX3_visit_162 (by decide) ?_
        refine ae_iinc (pc := 176) (v := nI (c + 1)) dX3_visit_176 rfl (nI_inc c) ?_
        refine ae_goto (pc := 179) (t := 106) dX3_visit_179 (by decide) ?_
        exact ae_forget [9] rfl (ih2 S' (hq2 _ hS))
      · have es : ∀ U, spT f x y c E mt U = sp3 f x y c E U := fun U => by unfold spT; rw [if_neg h2]
        rw [es] at ih2
        refine ae_aload_n (pc := 112) dX3_visit_112 rfl ?_
        refine ae_getR (pc := 113) (k := 30) (c := 3) (j := 1) (q := 31) dX3_visit_113 rfl rfl (Nat.le_of_ble_eq_true rfl) rfl (Nat.le_of_ble_eq_true rfl) rfl ?_
        refine ae_iconst (pc := 116) (v := nI 3) dX3_visit_116 (by decide) ?_
        refine ae_iload (pc := 117) dX3_visit_117 rfl ?_
        refine ae_imul (pc := 119) (v := nI (3 * (y * fW f + x))) dX3_visit_119 (nI_mul _ _) ?_
        refine ae_iload (pc := 120) dX3_visit_120 rfl ?_
        refine ae_iadd (pc := 122) (v := nI (3 * (y * fW f + x) + c)) dX3_visit_122 (nI_add _ _) ?_
        refine ae_iaload (pc := 123) (k := 31) (N := 768) (v := S (3 * (y * fW f + x) + c)) (3 * (y * fW f + x) + c) dX3_visit_123 (Nat.le_of_ble_eq_true rfl) rfl rfl rfl (by omega) (by rw [sM_31]) ?_
        refine ae_bipush (pc := 124) (v := nI 16) dX3_visit_124 (by decide) ?_
        refine ae_aload_n (pc := 126) dX3_visit_126 rfl ?_
        refine ae_getR (pc := 127) (k := 30) (c := 3) (j := 0) (q := 1) dX3_visit_127 rfl rfl (Nat.le_of_ble_eq_true rfl) rfl (Nat.le_of_ble_eq_true rfl) rfl ?_
        refine ae_getR (pc := 130) (k := 1) (c := 7) (j := 4) (q := 3) dX3_visit_130 rfl rfl (Nat.le_of_ble_eq_true rfl) rfl (Nat.le_of_ble_eq_true rfl) rfl ?_
        refine ae_iload (pc := 133) dX3_visit_133 rfl ?_
        refine ae_iaload (pc := 135) (k := 3) (N := 16) (v := f (259 + e)) (e) dX3_visit_135 (Nat.le_of_ble_eq_true rfl) rfl rfl rfl (by omega) r3 ?_
        refine ae_iload (pc := 136) dX3_visit_136 rfl ?_
        refine ae_pcallS (pc := 138) (z := zX10_channelOf) (As := [_, _]) dX3_visit_138 rfl rfl rfl rfl (Nat.le_of_ble_eq_true rfl) (sc_channelOf (d + 2) _ _ _) ?_
        refine ae_imul (pc := 141) dX3_visit_141 rfl ?_
        refine ae_isub (pc := 142) (v := E) dX3_visit_142 hE2 ?_
        refine ae_istore (pc := 143) dX3_visit_143 rfl (Nat.le_of_ble_eq_true rfl) ?_
        refine ae_iload (pc := 145) dX3_visit_145 rfl ?_
        refine ae_iconst (pc := 147) (v := nI 2) dX3_visit_147 (by decide) ?_
        refine ae_icmp_ne (pc := 148) (t := 165) dX3_visit_148 (by decide) (fun c148 => ?_) (fun c148 => ?_)
        rotate_left
        · exact absurd ((nI_eq (by omega) (by omega)).mp (Classical.not_not.mp c148)) h2
        refine ae_aload_n (pc := 165) dX3_visit_165 rfl ?_
        refine ae_iload_n (pc := 166) dX3_visit_166 rfl ?_
        refine ae_iload_n (pc := 167) dX3_visit_167 rfl ?_
        refine ae_iload_n (pc := 168) dX3_visit_168 rfl ?_
        refine ae_iload (pc := 169) dX3_visit_169 rfl ?_
        refine ae_iload (pc := 171) dX3_visit_171 rfl ?_
        refine ae_callV (pc := 173) (z := zX3_spreadInSix) (k := 30) (As := [_, _, _, _, _]) dX3_visit_173 rfl rfl rfl rfl (Nat.le_of_ble_eq_true rfl) rfl (Nat.le_of_ble_eq_true rfl) (Nat.le_of_ble_eq_true rfl) (sc_spreadInSix d N f hg2 S x y c hc2 E) (fun v M' hq => ?_)
        obtain ⟨rfl, S', rfl, hq2⟩ := hq
        refine ae_iinc (pc := 176) (v := nI (c + 1)) dX3_visit_176 rfl (nI_inc c) ?_
        refine ae_goto (pc := 179) (t := 106) dX3_visit_179 (by decide) ?_
        exact ae_forget [9] rfl (ih2 S' (hq2 _ hS))
  have st := lp (N.1 31) (by rw [n31]; exact hT)
  rw [sM_eta] at st
  refine ae_aload_n (pc := 0) dX3_visit_0 rfl ?_
  refine ae_getR (pc := 1) (k := 30) (c := 3) (j := 0) (q := 1) dX3_visit_1 rfl rfl (Nat.le_of_ble_eq_true rfl) rfl (Nat.le_of_ble_eq_true rfl) rfl ?_
  refine ae_iload_n (pc := 4) dX3_visit_4 rfl ?_
  refine ae_iload_n (pc := 5) dX3_visit_5 rfl ?_
  refine ae_pcallV (pc := 6) (z := zX7_place) (k := 1) (As := [_, _]) dX3_visit_6 rfl rfl rfl rfl (Nat.le_of_ble_eq_true rfl) rfl (Nat.le_of_ble_eq_true rfl) (Nat.le_of_ble_eq_true rfl) (m_place (d + 2) M f hg x y) ?_
  refine ae_istore (pc := 9) dX3_visit_9 rfl (Nat.le_of_ble_eq_true rfl) ?_
  refine ae_aload_n (pc := 11) dX3_visit_11 rfl ?_
  refine ae_getR (pc := 12) (k := 30) (c := 3) (j := 0) (q := 1) dX3_visit_12 rfl rfl (Nat.le_of_ble_eq_true rfl) rfl (Nat.le_of_ble_eq_true rfl) rfl ?_
  refine ae_iload (pc := 15) dX3_visit_15 rfl ?_
  refine ae_pcallV (pc := 17) (z := zX7_isOpaque) (k := 1) (As := [_]) dX3_visit_17 rfl rfl rfl rfl (Nat.le_of_ble_eq_true rfl) rfl (Nat.le_of_ble_eq_true rfl) (Nat.le_of_ble_eq_true rfl) (hop) ?_
  refine ae_if_ne (pc := 20) (t := 41) dX3_visit_20 (by decide) (fun c20 => ?_) (fun c20 => ?_)
  rotate_left
  · exact absurd (Classical.not_not.mp c20) (by decide)
  refine ae_aload_n (pc := 41) dX3_visit_41 rfl ?_
  refine ae_iload (pc := 42) dX3_visit_42 rfl ?_
  refine ae_iconst (pc := 44) (v := nI 0) dX3_visit_44 (by decide) ?_
  refine ae_pcallV (pc := 45) (z := zX3_wantedValue) (k := 30) (As := [_, _]) dX3_visit_45 rfl rfl rfl rfl (Nat.le_of_ble_eq_true rfl) rfl (Nat.le_of_ble_eq_true rfl) (Nat.le_of_ble_eq_true rfl) (sc_wantedValue d M (y * fW f + x) 0 (by omega) (by decide)) ?_
  refine ae_aload_n (pc := 48) dX3_visit_48 rfl ?_
  refine ae_iload (pc := 49) dX3_visit_49 rfl ?_
  refine ae_iconst (pc := 51) (v := nI 1) dX3_visit_51 (by decide) ?_
  refine ae_pcallV (pc := 52) (z := zX3_wantedValue) (k := 30) (As := [_, _]) dX3_visit_52 rfl rfl rfl rfl (Nat.le_of_ble_eq_true rfl) rfl (Nat.le_of_ble_eq_true rfl) (Nat.le_of_ble_eq_true rfl) (sc_wantedValue d M (y * fW f + x) 1 (by omega) (by decide)) ?_
  refine ae_aload_n (pc := 55) dX3_visit_55 rfl ?_
  refine ae_iload (pc := 56) dX3_visit_56 rfl ?_
  refine ae_iconst (pc := 58) (v := nI 2) dX3_visit_58 (by decide) ?_
  refine ae_pcallV (pc := 59) (z := zX3_wantedValue) (k := 30) (As := [_, _]) dX3_visit_59 rfl rfl rfl rfl (Nat.le_of_ble_eq_true rfl) rfl (Nat.le_of_ble_eq_true rfl) (Nat.le_of_ble_eq_true rfl) (sc_wantedValue d M (y * fW f + x) 2 (by omega) (by decide)) ?_
  refine ae_pcallS (pc := 62) (z := zX10_colorOf) (As := [_, _, _]) dX3_visit_62 rfl rfl rfl rfl (Nat.le_of_ble_eq_true rfl) (hco) ?_
  refine ae_istore (pc := 65) dX3_visit_65 rfl (Nat.le_of_ble_eq_true rfl) ?_
  refine ae_aload_n (pc := 67) dX3_visit_67 rfl ?_
  refine ae_getR (pc := 68) (k := 30) (c := 3) (j := 0) (q := 1) dX3_visit_68 rfl rfl (Nat.le_of_ble_eq_true rfl) rfl (Nat.le_of_ble_eq_true rfl) rfl ?_
  refine ae_iload (pc := 71) dX3_visit_71 rfl ?_
  refine ae_pcallV (pc := 73) (z := zX7_closestEntry) (k := 1) (As := [_]) dX3_visit_73 rfl rfl rfl rfl (Nat.le_of_ble_eq_true rfl) rfl (Nat.le_of_ble_eq_true rfl) (Nat.le_of_ble_eq_true rfl) (hce) ?_
  refine ae_istore (pc := 76) dX3_visit_76 rfl (Nat.le_of_ble_eq_true rfl) ?_
  refine ae_aload_n (pc := 78) dX3_visit_78 rfl ?_
  refine ae_getR (pc := 79) (k := 30) (c := 3) (j := 0) (q := 1) dX3_visit_79 rfl rfl (Nat.le_of_ble_eq_true rfl) rfl (Nat.le_of_ble_eq_true rfl) rfl ?_
  refine ae_getR (pc := 82) (k := 1) (c := 7) (j := 8) (q := 5) dX3_visit_82 rfl rfl (Nat.le_of_ble_eq_true rfl) rfl (Nat.le_of_ble_eq_true rfl) rfl ?_
  refine ae_iload (pc := 85) dX3_visit_85 rfl ?_
  refine ae_iload (pc := 87) dX3_visit_87 rfl ?_
  refine ae_iastore (pc := 89) (k := 5) (N := 256) (y * fW f + x) dX3_visit_89 (Nat.le_of_ble_eq_true rfl) rfl rfl rfl (by omega) rfl ?_
  refine ae_M hN2 ?_
  refine ae_aload_n (pc := 90) dX3_visit_90 rfl ?_
  refine ae_getR (pc := 91) (k := 30) (c := 3) (j := 0) (q := 1) dX3_visit_91 rfl rfl (Nat.le_of_ble_eq_true rfl) rfl (Nat.le_of_ble_eq_true rfl) rfl ?_
  refine ae_iload (pc := 94) dX3_visit_94 rfl ?_
  refine ae_pcallV (pc := 96) (z := zX7_hasEntry) (k := 1) (As := [_]) dX3_visit_96 rfl rfl rfl rfl (Nat.le_of_ble_eq_true rfl) rfl (Nat.le_of_ble_eq_true rfl) (Nat.le_of_ble_eq_true rfl) (hhe) ?_
  refine ae_if_ne (pc := 99) (t := 103) dX3_visit_99 (by decide) (fun c99 => ?_) (fun c99 => ?_)
  rotate_left
  · exact absurd (Classical.not_not.mp c99) (by decide)
  refine ae_iconst (pc := 103) (v := nI 0) dX3_visit_103 (by decide) ?_
  refine ae_istore (pc := 104) dX3_visit_104 rfl (Nat.le_of_ble_eq_true rfl) ?_
  exact st
theorem sc_diffuse (d : Nat) (M : am_M) (f g T0 : fT) (hg : AGm M f) (hz : 0 < fN f) (hs : sm293 g f) (hgi : ∀ p, p < fA f → g (293 + p) = nI (fN f)) (mt : Nat) (hmt : mt < 4) : am_R (d + 5) zX3_diffuse [.ref 30, .int (nI mt)] M (fun v M' => v = none ∧ ∃ i S, M' = sM (iM M i) S ∧ ∀ p, p < fA f → i p = (dfS mt g (dfI T0 g (3 * fA f)) (fA f)).1 (293 + p) ∧ mV f p (i p)) := by
  refine ae_enter (z := zX3_diffuse) (y := yX3_diffuse) (cc := cX3_diffuse) (mL := 5) (rt := none) (ci := 3) (st := false) (np := 1) (L := [some (.ref 30), some (.int (nI mt)), none, none, none]) rfl (by decide) (Nat.le_of_ble_eq_true rfl) rfl ?_
  have hf := (AGm_f hg).1
  have hA := fA_le hf
  obtain ⟨⟨-, v2, v3⟩, ⟨-, w2, w3⟩, -, hN⟩ := id hf
  have row : ∀ i S k j, k ≠ 5 → k ≠ 31 → (sM (iM M i) S).1 k j = M.1 k j := fun i S k j h5 h31 => by rw [sM_ne _ _ h31, iM_ne _ _ h5]
  have a0 : ∀ i S, (sM (iM M i) S).1 1 0 = nI (fW f) := fun i S => by rw [row _ _ _ _ (by decide) (by decide)]; exact (AGm_f hg).2.1.1
  have a1 : ∀ i S, (sM (iM M i) S).1 1 1 = nI (fH f) := fun i S => by rw [row _ _ _ _ (by decide) (by decide)]; exact (AGm_f hg).2.1.2.1
  generalize hT : dfI T0 g (3 * fA f) = T at *
  have second : ∀ i S, AGm (sM (iM M i) S) f → DV mt f g T (0 * fW f) i S → am_E none (am_R (d + 4)) cX3_diffuse 3 none (fun v M' => v = none ∧ ∃ i S, M' = sM (iM M i) S ∧ ∀ p, p < fA f → i p = (dfS mt g T (fA f)).1 (293 + p) ∧ mV f p (i p)) (60, [some (.ref 30), some (.int (nI mt)), some (.int (nI 0)), none, none], [], sM (iM M i) S) := by
    refine am_down (P := fun y => ∀ i S, AGm (sM (iM M i) S) f → DV mt f g T (y * fW f) i S → am_E none (am_R (d + 4)) cX3_diffuse 3 none _ (60, [some (.ref 30), some (.int (nI mt)), some (.int (nI y)), none, none], [], sM (iM M i) S)) (fH f) (fun y hy ih i S hgi2 hd => ?_)
    refine ae_iload_n (pc := 60) dX3_diffuse_60 rfl ?_
    refine ae_aload_n (pc := 61) dX3_diffuse_61 rfl ?_
    refine ae_getR (pc := 62) (k := 30) (c := 3) (j := 0) (q := 1) dX3_diffuse_62 rfl rfl (Nat.le_of_ble_eq_true rfl) rfl (Nat.le_of_ble_eq_true rfl) rfl ?_
    refine ae_getI (pc := 65) (k := 1) (c := 7) (j := 1) (v := nI (fH f)) dX3_diffuse_65 rfl rfl (Or.inl rfl) (Nat.le_of_ble_eq_true rfl) rfl (Nat.le_of_ble_eq_true rfl) (a1 i S) ?_
    refine ae_icmp_ge (pc := 68) (t := 146) dX3_diffuse_68 (by decide) (fun c68 => ?_) (fun c68 => ?_)
    · have hy2 : y = fH f := by rw [nI_leI (by omega) (by omega)] at c68; omega
      subst hy2
      rw [Nat.mul_comm] at hd
      refine ae_return (pc := 146) dX3_diffuse_146 rfl ?_
      exact ⟨rfl, i, S, rfl, DV_end hf hd⟩
    · have hy2 : y < fH f := by rw [nI_leI (by omega) (by omega)] at c68; omega
      have inner : ∀ (r : Nat), r = (if y % 2 = 0 then 1 else 0) → ∀ i S, AGm (sM (iM M i) S) f → DV mt f g T (y * fW f + 0) i S → am_E none (am_R (d + 4)) cX3_diffuse 3 none (fun v M' => v = none ∧ ∃ i S, M' = sM (iM M i) S ∧ ∀ p, p < fA f → i p = (dfS mt g T (fA f)).1 (293 + p) ∧ mV f p (i p)) (86, [some (.ref 30), some (.int (nI mt)), some (.int (nI y)), some (.int (nI r)), some (.int (nI 0))], [], sM (iM M i) S) := by
        intro r hr
        refine am_down (P := fun x => ∀ i S, AGm (sM (iM M i) S) f → DV mt f g T (y * fW f + x) i S → am_E none (am_R (d + 4)) cX3_diffuse 3 none _ (86, [some (.ref 30), some (.int (nI mt)), some (.int (nI y)), some (.int (nI r)), some (.int (nI x))], [], sM (iM M i) S)) (fW f) (fun x hx ihx i S hgi2 hd => ?_)
        refine ae_iload (pc := 86) dX3_diffuse_86 rfl ?_
        refine ae_aload_n (pc := 88) dX3_diffuse_88 rfl ?_
        refine ae_getR (pc := 89) (k := 30) (c := 3) (j := 0) (q := 1) dX3_diffuse_89 rfl rfl (Nat.le_of_ble_eq_true rfl) rfl (Nat.le_of_ble_eq_true rfl) rfl ?_
        refine ae_getI (pc := 92) (k := 1) (c := 7) (j := 0) (v := nI (fW f)) dX3_diffuse_92 rfl rfl (Or.inl rfl) (Nat.le_of_ble_eq_true rfl) rfl (Nat.le_of_ble_eq_true rfl) (a0 i S) ?_
        refine ae_icmp_ge (pc := 95) (t := 140) dX3_diffuse_95 (by decide) (fun c95 => ?_) (fun c95 => ?_)
        · have hx2 : x = fW f := by rw [nI_leI (by omega) (by omega)] at c95; omega
          subst hx2
          have ih2 := ih hy2 i S hgi2 (by rw [Nat.succ_mul]; exact hd)
          refine ae_iinc (pc := 140) (v := nI (y + 1)) dX3_diffuse_140 rfl (nI_inc y) ?_
          refine ae_goto (pc := 143) (t := 60) dX3_diffuse_143 (by decide) ?_
          exact ae_forget [3, 4] rfl ih2
        · have hx2 : x < fW f := by rw [nI_leI (by omega) (by omega)] at c95; omega
          have hk : y * fW f + x < fA f := pl_lt hf hx2 hy2
          obtain ⟨p1, p2⟩ := vpl_at (f := f) (y := y) hx2
          obtain ⟨m1, m2⟩ := dmW (W := fW f) (x := x) (y := y) hx2
          have hxx : (if y % 2 = 0 then x else fW f - 1 - x) < fW f := by split <;> omega
          have hvl := vpl_lt hf hk
          have vis : ∃ Q1, am_R (d + 4) zX3_visit [.ref 30, .int (nI (if y % 2 = 0 then x else fW f - 1 - x)), .int (nI y), .int (ahd y), .int (nI mt)] (sM (iM M i) S) Q1 ∧ ∀ v M', Q1 v M' → v = none ∧ ∃ i' S', M' = sM (iM M i') S' ∧ AGm (sM (iM M i') S') f ∧ DV mt f g T (y * fW f + (x + 1)) i' S' := by
            by_cases ho : f (2 + vpl f (y * fW f + x)) = -1
            · refine ⟨_, sc_visitT d (sM (iM M i) S) f hgi2 _ y hxx hy2 mt (by rw [← p1]; exact ho), fun v M' hq => ?_⟩
              obtain ⟨rfl, rfl⟩ := hq
              have e5 : (sM (iM M i) S).1 5 = i := by rw [sM_ne _ _ (by decide), iM_5]
              refine ⟨rfl, upd i (vpl f (y * fW f + x)) (nI (fN f)), S, ?_, ?_, ?_⟩
              · rw [e5, ← p1]; exact isM_u _ _ _ _
              · have := AGm_i hgi2 hvl (v := nI (fN f)) ⟨fun _ => rfl, fun q => absurd ho q⟩
                rw [e5] at this
                rwa [show iM (sM (iM M i) S) (upd i (vpl f (y * fW f + x)) (nI (fN f))) = sM (iM M (upd i (vpl f (y * fW f + x)) (nI (fN f)))) S from isM_u _ _ _ _] at this
              · exact DV_t hf hs hk (hgi _ hvl) hd ho
            · obtain ⟨e, he, he2⟩ := ner_some (f := f) (vsC (dfS mt g T (y * fW f + x)).2 (vpl f (y * fW f + x)) 3) hz hN
              have e5 : (sM (iM M i) S).1 5 = i := by rw [sM_ne _ _ (by decide), iM_5]
              refine ⟨_, sc_visit d (sM (iM M i) S) f hgi2 _ y hxx hy2 mt hmt (by rw [← p1]; exact ho) (dfS mt g T (y * fW f + x)).2 (by rw [sM_31]; exact hd.2) e (by rw [← p1]; exact he), fun v M' hq => ?_⟩
              obtain ⟨rfl, S', rfl, hS'⟩ := hq
              have ee : sM (iM (sM (iM M i) S) (upd i (vpl f (y * fW f + x)) (nI e))) S' = sM (iM M (upd i (vpl f (y * fW f + x)) (nI e))) S' := by
                rw [show iM (sM (iM M i) S) (upd i (vpl f (y * fW f + x)) (nI e)) = sM (iM M (upd i (vpl f (y * fW f + x)) (nI e))) S from isM_u _ _ _ _]
                exact sM_u _ _ _
              refine ⟨rfl, upd i (vpl f (y * fW f + x)) (nI e), S', ?_, ?_, ?_⟩
              · rw [e5, ← p1, ee]
              · have := AGm_s (AGm_i hgi2 hvl (v := nI e) ⟨fun q => absurd q ho, fun _ => ⟨e, he2, rfl⟩⟩) S'
                rw [e5, ee] at this
                exact this
              · refine DV_o hf hs hk hd ho he ?_
                rw [p2, m1]
                exact hS'
          obtain ⟨Q1, v1, vv2⟩ := vis
          by_cases hy0 : y % 2 = 0
          · rw [if_pos hy0] at hr v1
            subst hr
            have ea : ahd y = nI 1 := by unfold ahd; rw [if_pos hy0]
            rw [ea] at v1
            refine ae_aload_n (pc := 98) dX3_diffuse_98 rfl ?_
            refine ae_iload_n (pc := 99) dX3_diffuse_99 rfl ?_
            refine ae_if_eq (pc := 100) (t := 108) dX3_diffuse_100 (by decide) (fun c100 => ?_) (fun c100 => ?_)
            · exact absurd c100 (by decide)
            refine ae_iload (pc := 103) dX3_diffuse_103 rfl ?_
            refine ae_goto (pc := 105) (t := 120) dX3_diffuse_105 (by decide) ?_
            refine ae_iload_n (pc := 120) dX3_diffuse_120 rfl ?_
            refine ae_iload_n (pc := 121) dX3_diffuse_121 rfl ?_
            refine ae_if_eq (pc := 122) (t := 129) dX3_diffuse_122 (by decide) (fun c122 => ?_) (fun c122 => ?_)
            · exact absurd c122 (by decide)
            refine ae_iconst (pc := 125) (v := nI 1) dX3_diffuse_125 (by decide) ?_
            refine ae_goto (pc := 126) (t := 130) dX3_diffuse_126 (by decide) ?_
            refine ae_iload_n (pc := 130) dX3_diffuse_130 rfl ?_
            refine ae_callV (pc := 131) (z := zX3_visit) (k := 30) (As := [_, _, _, _]) dX3_diffuse_131 rfl rfl rfl rfl (Nat.le_of_ble_eq_true rfl) rfl (Nat.le_of_ble_eq_true rfl) (Nat.le_of_ble_eq_true rfl) (v1) (fun v M' hq => ?_)
            obtain ⟨rfl, i', S', rfl, q1, q2⟩ := vv2 _ _ hq
            refine ae_iinc (pc := 134) (v := nI (x + 1)) dX3_diffuse_134 rfl (nI_inc x) ?_
            refine ae_goto (pc := 137) (t := 86) dX3_diffuse_137 (by decide) ?_
            exact ihx hx2 i' S' q1 q2
          · rw [if_neg hy0] at hr v1
            subst hr
            have ea : ahd y = -1 := by unfold ahd; rw [if_neg hy0]
            rw [ea] at v1
            refine ae_aload_n (pc := 98) dX3_diffuse_98 rfl ?_
            refine ae_iload_n (pc := 99) dX3_diffuse_99 rfl ?_
            refine ae_if_eq (pc := 100) (t := 108) dX3_diffuse_100 (by decide) (fun c100 => ?_) (fun c100 => ?_)
            rotate_left
            · exact absurd rfl c100
            refine ae_aload_n (pc := 108) dX3_diffuse_108 rfl ?_
            refine ae_getR (pc := 109) (k := 30) (c := 3) (j := 0) (q := 1) dX3_diffuse_109 rfl rfl (Nat.le_of_ble_eq_true rfl) rfl (Nat.le_of_ble_eq_true rfl) rfl ?_
            refine ae_getI (pc := 112) (k := 1) (c := 7) (j := 0) (v := nI (fW f)) dX3_diffuse_112 rfl rfl (Or.inl rfl) (Nat.le_of_ble_eq_true rfl) rfl (Nat.le_of_ble_eq_true rfl) (a0 i S) ?_
            refine ae_iconst (pc := 115) (v := nI 1) dX3_diffuse_115 (by decide) ?_
            refine ae_isub (pc := 116) (v := nI (fW f - 1)) dX3_diffuse_116 (nI_sub (by omega)) ?_
            refine ae_iload (pc := 117) dX3_diffuse_117 rfl ?_
            refine ae_isub (pc := 119) (v := nI (fW f - 1 - x)) dX3_diffuse_119 (nI_sub (by omega)) ?_
            refine ae_iload_n (pc := 120) dX3_diffuse_120 rfl ?_
            refine ae_iload_n (pc := 121) dX3_diffuse_121 rfl ?_
            refine ae_if_eq (pc := 122) (t := 129) dX3_diffuse_122 (by decide) (fun c122 => ?_) (fun c122 => ?_)
            rotate_left
            · exact absurd rfl c122
            refine ae_iconst (pc := 129) (v := (-1)) dX3_diffuse_129 (by decide) ?_
            refine ae_iload_n (pc := 130) dX3_diffuse_130 rfl ?_
            refine ae_callV (pc := 131) (z := zX3_visit) (k := 30) (As := [_, _, _, _]) dX3_diffuse_131 rfl rfl rfl rfl (Nat.le_of_ble_eq_true rfl) rfl (Nat.le_of_ble_eq_true rfl) (Nat.le_of_ble_eq_true rfl) (v1) (fun v M' hq => ?_)
            obtain ⟨rfl, i', S', rfl, q1, q2⟩ := vv2 _ _ hq
            refine ae_iinc (pc := 134) (v := nI (x + 1)) dX3_diffuse_134 rfl (nI_inc x) ?_
            refine ae_goto (pc := 137) (t := 86) dX3_diffuse_137 (by decide) ?_
            exact ihx hx2 i' S' q1 q2
      by_cases hy0 : y % 2 = 0
      · have st := inner 1 (by rw [if_pos hy0]) i S hgi2 hd
        refine ae_iload_n (pc := 71) dX3_diffuse_71 rfl ?_
        refine ae_iconst (pc := 72) (v := nI 1) dX3_diffuse_72 (by decide) ?_
        refine ae_iand (pc := 73) (v := nI (y % 2)) dX3_diffuse_73 (and1 (by omega)) ?_
        refine ae_if_ne (pc := 74) (t := 81) dX3_diffuse_74 (by decide) (fun c74 => ?_) (fun c74 => ?_)
        · exact absurd (by rw [hy0]; rfl) c74
        refine ae_iconst (pc := 77) (v := nI 1) dX3_diffuse_77 (by decide) ?_
        refine ae_goto (pc := 78) (t := 82) dX3_diffuse_78 (by decide) ?_
        refine ae_istore_n (pc := 82) dX3_diffuse_82 rfl (Nat.le_of_ble_eq_true rfl) ?_
        refine ae_iconst (pc := 83) (v := nI 0) dX3_diffuse_83 (by decide) ?_
        refine ae_istore (pc := 84) dX3_diffuse_84 rfl (Nat.le_of_ble_eq_true rfl) ?_
        exact st
      · have st := inner 0 (by rw [if_neg hy0]) i S hgi2 hd
        have hy1 : y % 2 = 1 := by omega
        refine ae_iload_n (pc := 71) dX3_diffuse_71 rfl ?_
        refine ae_iconst (pc := 72) (v := nI 1) dX3_diffuse_72 (by decide) ?_
        refine ae_iand (pc := 73) (v := nI (y % 2)) dX3_diffuse_73 (and1 (by omega)) ?_
        refine ae_if_ne (pc := 74) (t := 81) dX3_diffuse_74 (by decide) (fun c74 => ?_) (fun c74 => ?_)
        rotate_left
        · exact absurd (Classical.not_not.mp c74) (by rw [hy1]; decide)
        refine ae_iconst (pc := 81) (v := nI 0) dX3_diffuse_81 (by decide) ?_
        refine ae_istore_n (pc := 82) dX3_diffuse_82 rfl (Nat.le_of_ble_eq_true rfl) ?_
        refine ae_iconst (pc := 83) (v := nI 0) dX3_diffuse_83 (by decide) ?_
        refine ae_istore (pc := 84) dX3_diffuse_84 rfl (Nat.le_of_ble_eq_true rfl) ?_
        exact st
  have first : ∀ S, (∀ q, q < 0 → ∀ c, c < 3 → S (3 * q + c) = nI 16 * cha (f (2 + q)) c) → am_E none (am_R (d + 4)) cX3_diffuse 3 none (fun v M' => v = none ∧ ∃ i S, M' = sM (iM M i) S ∧ ∀ p, p < fA f → i p = (dfS mt g T (fA f)).1 (293 + p) ∧ mV f p (i p)) (2, [some (.ref 30), some (.int (nI mt)), some (.int (nI 0)), none, none], [], sM M S) := by
    refine am_down (P := fun p => ∀ S, (∀ q, q < p → ∀ c, c < 3 → S (3 * q + c) = nI 16 * cha (f (2 + q)) c) → am_E none (am_R (d + 4)) cX3_diffuse 3 none _ (2, [some (.ref 30), some (.int (nI mt)), some (.int (nI p)), none, none], [], sM M S)) (fA f) (fun p hp ih S hS => ?_)
    refine ae_iload_n (pc := 2) dX3_diffuse_2 rfl ?_
    refine ae_aload_n (pc := 3) dX3_diffuse_3 rfl ?_
    refine ae_getR (pc := 4) (k := 30) (c := 3) (j := 0) (q := 1) dX3_diffuse_4 rfl rfl (Nat.le_of_ble_eq_true rfl) rfl (Nat.le_of_ble_eq_true rfl) rfl ?_
    refine ae_pcallV (pc := 7) (z := zX7_area) (k := 1) (As := []) dX3_diffuse_7 rfl rfl rfl rfl (Nat.le_of_ble_eq_true rfl) rfl (Nat.le_of_ble_eq_true rfl) (Nat.le_of_ble_eq_true rfl) (m_area (d + 3) _ f (AGm_s hg S)) ?_
    refine ae_icmp_ge (pc := 10) (t := 58) dX3_diffuse_10 (by decide) (fun c10 => ?_) (fun c10 => ?_)
    · have hp2 : p = fA f := by rw [nI_leI (by omega) (by omega)] at c10; omega
      subst hp2
      have st := second (M.1 5) S (by rw [iM_eta]; exact AGm_s hg S) ⟨fun j hj => by rw [Nat.zero_mul] at hj; exact absurd hj (Nat.not_lt_zero j), fun q hq ho c hc => by
        rw [Nat.zero_mul, hS q hq c hc, ← hT]
        rw [show (dfS mt g (dfI T0 g (3 * fA f)) 0).2 = dfI T0 g (3 * fA f) from rfl]
        unfold dfI
        have := st_in T0 (a := 0) (k := 3 * fA f) (p := 3 * q + c) (fun j => if g (2 + j / 3) = -1 then nI 0 else nI 16 * cha (g (2 + j / 3)) (j % 3)) (by omega)
        rw [Nat.zero_add] at this
        rw [this]
        rw [show (3 * q + c) / 3 = q by omega, show (3 * q + c) % 3 = c by omega, hs (2 + q) (by omega), if_neg ho]⟩
      rw [iM_eta] at st
      refine ae_iconst (pc := 58) (v := nI 0) dX3_diffuse_58 (by decide) ?_
      refine ae_istore_n (pc := 59) dX3_diffuse_59 rfl (Nat.le_of_ble_eq_true rfl) ?_
      exact st
    · have hp2 : p < fA f := by rw [nI_leI (by omega) (by omega)] at c10; omega
      have inner : ∀ S, (∀ q, q < p → ∀ c, c < 3 → S (3 * q + c) = nI 16 * cha (f (2 + q)) c) → (∀ c, c < 0 → S (3 * p + c) = nI 16 * cha (f (2 + p)) c) → am_E none (am_R (d + 4)) cX3_diffuse 3 none (fun v M' => v = none ∧ ∃ i S, M' = sM (iM M i) S ∧ ∀ p, p < fA f → i p = (dfS mt g T (fA f)).1 (293 + p) ∧ mV f p (i p)) (15, [some (.ref 30), some (.int (nI mt)), some (.int (nI p)), some (.int (nI 0)), none], [], sM M S) := by
        refine am_down (P := fun k => ∀ S, (∀ q, q < p → ∀ c, c < 3 → S (3 * q + c) = nI 16 * cha (f (2 + q)) c) → (∀ c, c < k → S (3 * p + c) = nI 16 * cha (f (2 + p)) c) → am_E none (am_R (d + 4)) cX3_diffuse 3 none _ (15, [some (.ref 30), some (.int (nI mt)), some (.int (nI p)), some (.int (nI k)), none], [], sM M S)) 3 (fun k hk ihk S hS hSk => ?_)
        refine ae_iload_n (pc := 15) dX3_diffuse_15 rfl ?_
        refine ae_iconst (pc := 16) (v := nI 3) dX3_diffuse_16 (by decide) ?_
        refine ae_icmp_ge (pc := 17) (t := 52) dX3_diffuse_17 (by decide) (fun c17 => ?_) (fun c17 => ?_)
        · have hk2 : k = 3 := by rw [nI_leI (by omega) (by omega)] at c17; omega
          subst hk2
          have st := ih hp2 S (fun q hq c hc => by
            by_cases hqp : q = p
            · subst hqp; exact hSk c hc
            · exact hS q (by omega) c hc)
          refine ae_iinc (pc := 52) (v := nI (p + 1)) dX3_diffuse_52 rfl (nI_inc p) ?_
          refine ae_goto (pc := 55) (t := 2) dX3_diffuse_55 (by decide) ?_
          exact ae_forget [3] rfl st
        · have hk2 : k < 3 := by rw [nI_leI (by omega) (by omega)] at c17; omega
          have st := ihk hk2 (upd S (3 * p + k) (nI 16 * cha (f (2 + p)) k)) (fun q hq c hc => by rw [upd_ne _ _ (by omega)]; exact hS q hq c hc) (fun c hc => by
            by_cases hck : c = k
            · subst hck; rw [upd_self]
            · rw [upd_ne _ _ (by omega)]; exact hSk c (by omega))
          refine ae_aload_n (pc := 20) dX3_diffuse_20 rfl ?_
          refine ae_getR (pc := 21) (k := 30) (c := 3) (j := 1) (q := 31) dX3_diffuse_21 rfl rfl (Nat.le_of_ble_eq_true rfl) rfl (Nat.le_of_ble_eq_true rfl) rfl ?_
          refine ae_iconst (pc := 24) (v := nI 3) dX3_diffuse_24 (by decide) ?_
          refine ae_iload_n (pc := 25) dX3_diffuse_25 rfl ?_
          refine ae_imul (pc := 26) (v := nI (3 * p)) dX3_diffuse_26 (nI_mul _ _) ?_
          refine ae_iload_n (pc := 27) dX3_diffuse_27 rfl ?_
          refine ae_iadd (pc := 28) (v := nI (3 * p + k)) dX3_diffuse_28 (nI_add _ _) ?_
          refine ae_bipush (pc := 29) (v := nI 16) dX3_diffuse_29 (by decide) ?_
          refine ae_aload_n (pc := 31) dX3_diffuse_31 rfl ?_
          refine ae_getR (pc := 32) (k := 30) (c := 3) (j := 0) (q := 1) dX3_diffuse_32 rfl rfl (Nat.le_of_ble_eq_true rfl) rfl (Nat.le_of_ble_eq_true rfl) rfl ?_
          refine ae_getR (pc := 35) (k := 1) (c := 7) (j := 2) (q := 2) dX3_diffuse_35 rfl rfl (Nat.le_of_ble_eq_true rfl) rfl (Nat.le_of_ble_eq_true rfl) rfl ?_
          refine ae_iload_n (pc := 38) dX3_diffuse_38 rfl ?_
          refine ae_iaload (pc := 39) (k := 2) (N := 256) (v := f (2 + p)) (p) dX3_diffuse_39 (Nat.le_of_ble_eq_true rfl) rfl rfl rfl (by omega) (by rw [sM_ne _ _ (by decide)]; exact ((AGm_f hg).2.2.1 p hp2).1) ?_
          refine ae_iload_n (pc := 40) dX3_diffuse_40 rfl ?_
          refine ae_pcallS (pc := 41) (z := zX10_channelOf) (As := [_, _]) dX3_diffuse_41 rfl rfl rfl rfl (Nat.le_of_ble_eq_true rfl) (sc_channelOf (d + 3) _ _ _) ?_
          refine ae_imul (pc := 44) dX3_diffuse_44 rfl ?_
          refine ae_iastore (pc := 45) (k := 31) (N := 768) (3 * p + k) dX3_diffuse_45 (Nat.le_of_ble_eq_true rfl) rfl rfl rfl (by omega) rfl ?_
          refine ae_M (sM_u _ _ _) ?_
          rw [sM_31]
          refine ae_iinc (pc := 46) (v := nI (k + 1)) dX3_diffuse_46 rfl (nI_inc k) ?_
          refine ae_goto (pc := 49) (t := 15) dX3_diffuse_49 (by decide) ?_
          exact st
      have st := inner S hS (fun c hc => absurd hc (Nat.not_lt_zero c))
      refine ae_iconst (pc := 13) (v := nI 0) dX3_diffuse_13 (by decide) ?_
      refine ae_istore_n (pc := 14) dX3_diffuse_14 rfl (Nat.le_of_ble_eq_true rfl) ?_
      exact st
  have st := first (M.1 31) (fun q hq => absurd hq (Nat.not_lt_zero q))
  rw [sM_eta] at st
  refine ae_iconst (pc := 0) (v := nI 0) dX3_diffuse_0 (by decide) ?_
  refine ae_istore_n (pc := 1) dX3_diffuse_1 rfl (Nat.le_of_ble_eq_true rfl) ?_
  exact st

