theorem st_setMetric (M : am_M) (hI : INV M) (x : Int32) : STEP M zX10_setMetric [.ref 0, .int x] zX11_setMetric [.ref 33, .int x] := by
  obtain ⟨f, u, past, n, t, hC, hR⟩ := hI
  obtain ⟨hf, hg, hh, ht⟩ := id hC
  have hu := hh.1
  by_cases h : nI 0 ≤ x ∧ x ≤ nI 1
  · have hx : x = 0 ∨ x = 1 := by
      obtain ⟨k, -, hk, rfl⟩ := rng h (by decide)
      rcases (show k = 0 ∨ k = 1 by omega) with q | q <;> subst q
      · exact Or.inl rfl
      · exact Or.inr rfl
    refine comb (r := f 291) (f' := upd f 291 x) (u' := kpN u) (past' := kpP past f u) (n' := n) (t' := t) hR ?_ (fun M1 h1 => ?_)
    · have hw := sc_isWithin 6 x (nI 0) (nI 1) M
      rw [bI_t h] at hw
      refine ae_enter (z := zX10_setMetric) (y := yX10_setMetric) (cc := cX10_setMetric) (mL := 3) (rt := some .int) (ci := 10) (st := false) (np := 1) (L := [some (.ref 0), some (.int x), none]) rfl (by decide) (Nat.le_of_ble_eq_true rfl) rfl ?_
      refine ae_iload_n (pc := 0) dX10_setMetric_0 rfl ?_
      refine ae_iconst (pc := 1) (v := nI 0) dX10_setMetric_1 (by decide) ?_
      refine ae_iconst (pc := 2) (v := nI 1) dX10_setMetric_2 (by decide) ?_
      refine ae_pcallS (pc := 3) (z := zX10_isWithin) (As := [_, _, _]) dX10_setMetric_3 rfl rfl rfl rfl (Nat.le_of_ble_eq_true rfl) (hw) ?_
      refine ae_if_ne (pc := 6) (t := 12) dX10_setMetric_6 (by decide) (fun c6 => ?_) (fun c6 => ?_)
      rotate_left
      · exact absurd (Classical.not_not.mp c6) (by decide)
      refine ae_aload_n (pc := 12) dX10_setMetric_12 rfl ?_
      refine ae_getR (pc := 13) (k := 0) (c := 10) (j := 1) (q := 6) dX10_setMetric_13 rfl rfl (Nat.le_of_ble_eq_true rfl) rfl (Nat.le_of_ble_eq_true rfl) rfl ?_
      refine ae_aload_n (pc := 16) dX10_setMetric_16 rfl ?_
      refine ae_getR (pc := 17) (k := 0) (c := 10) (j := 0) (q := 1) dX10_setMetric_17 rfl rfl (Nat.le_of_ble_eq_true rfl) rfl (Nat.le_of_ble_eq_true rfl) rfl ?_
      refine ae_callV (pc := 20) (z := zX2_record) (k := 6) (As := [_]) dX10_setMetric_20 rfl rfl rfl rfl (Nat.le_of_ble_eq_true rfl) rfl (Nat.le_of_ble_eq_true rfl) (Nat.le_of_ble_eq_true rfl) (sc_record 5 M f hg hf u past hh) (fun v M' hq => ?_)
      obtain ⟨rfl, q1, q2⟩ := hq
      obtain ⟨ck, rs⟩ := rec_ck hC q1 q2
      refine ae_aload_n (pc := 23) dX10_setMetric_23 rfl ?_
      refine ae_getR (pc := 24) (k := 0) (c := 10) (j := 0) (q := 1) dX10_setMetric_24 rfl rfl (Nat.le_of_ble_eq_true rfl) rfl (Nat.le_of_ble_eq_true rfl) rfl ?_
      refine ae_getI (pc := 27) (k := 1) (c := 7) (j := 6) (v := f 291) dX10_setMetric_27 rfl rfl (Or.inl rfl) (Nat.le_of_ble_eq_true rfl) rfl (Nat.le_of_ble_eq_true rfl) (ck.2.1.1.2.2.2.1) ?_
      refine ae_istore_n (pc := 30) dX10_setMetric_30 rfl (Nat.le_of_ble_eq_true rfl) ?_
      refine ae_aload_n (pc := 31) dX10_setMetric_31 rfl ?_
      refine ae_getR (pc := 32) (k := 0) (c := 10) (j := 0) (q := 1) dX10_setMetric_32 rfl rfl (Nat.le_of_ble_eq_true rfl) rfl (Nat.le_of_ble_eq_true rfl) rfl ?_
      refine ae_iload_n (pc := 35) dX10_setMetric_35 rfl ?_
      refine ae_putfield (pc := 36) (k := 1) (c := 7) (j := 6) dX10_setMetric_36 rfl rfl (Nat.le_of_ble_eq_true rfl) rfl (Nat.le_of_ble_eq_true rfl) rfl rfl ?_
      refine ae_iload_n (pc := 39) dX10_setMetric_39 rfl ?_
      refine ae_ireturn (pc := 40) dX10_setMetric_40 rfl ?_
      refine ⟨rfl, ⟨wf_met hf hx, ?_, HI_ne ck.2.2.1 (fun k hk => am_u_ne M'.1 _ (by omega)), TX_ne ck.2.2.2 (by exact au0 (q := 8) _ _ _ (by decide)) (by exact au0 (q := 9) _ _ _ (by decide))⟩, fun k a b => (am_u_ne M'.1 _ (by omega)).trans (rs k a b)⟩
      unfold AG
      rw [au1, au0 (q := 2) _ _ _ (by decide), au0 (q := 3) _ _ _ (by decide), au0 (q := 4) _ _ _ (by decide), au0 (q := 5) _ _ _ (by decide)]
      exact agS_met hf.1 ck.2.1 x
    · have := sm_setMetric 6 M1 u h1.2.1 hu x h
      rw [h1.1, kp0] at this
      refine this.mono (fun v M2 q => ?_)
      obtain ⟨q1, rfl⟩ := q
      exact ⟨q1, RI_kp h1 0 _⟩
  · refine stepR (r := -2) hC hR ?_ (fun M1 h1 => roM (sm_setMetric0 6 M1 x h))
    refine ae_enter (z := zX10_setMetric) (y := yX10_setMetric) (cc := cX10_setMetric) (mL := 3) (rt := some .int) (ci := 10) (st := false) (np := 1) (L := [some (.ref 0), some (.int x), none]) rfl (by decide) (Nat.le_of_ble_eq_true rfl) rfl ?_
    refine ae_iload_n (pc := 0) dX10_setMetric_0 rfl ?_
    refine ae_iconst (pc := 1) (v := nI 0) dX10_setMetric_1 (by decide) ?_
    refine ae_iconst (pc := 2) (v := nI 1) dX10_setMetric_2 (by decide) ?_
    refine ae_pcallS (pc := 3) (z := zX10_isWithin) (As := [_, _, _]) dX10_setMetric_3 rfl rfl rfl rfl (Nat.le_of_ble_eq_true rfl) (sc_isWithin 6 _ _ _ _) ?_
    refine ae_if_ne (pc := 6) (t := 12) dX10_setMetric_6 (by decide) (fun c6 => ?_) (fun c6 => ?_)
    · exact (h (bI_ne0.mp c6)).elim
    · refine ae_bipush (pc := 9) (v := (-2)) dX10_setMetric_9 (by decide) ?_
      refine ae_ireturn (pc := 11) dX10_setMetric_11 rfl ?_
      exact ⟨rfl, hg, FR_refl M⟩
theorem st_lock (M : am_M) (hI : INV M) (x l : Int32) (hl : l = 0 ∨ l = 1) : STEP M zX10_lock [.ref 0, .int x, .int l] zX11_lock [.ref 33, .int x, .int l] := by
  obtain ⟨f, u, past, n, t, hC, hR⟩ := hI
  obtain ⟨hf, hg, hh, ht⟩ := id hC
  have hu := hh.1
  have hN := hf.1.2.2.2
  have hhe := sc_hasEntry 6 M f hg hf.1 x
  have hbl : bI (l ≠ 0) = l := by rcases hl with q | q <;> subst q <;> decide
  by_cases h : inE f x
  · rw [bI_t h] at hhe
    obtain ⟨e, he, rfl⟩ := of_inE hf.1 h
    have h01 := (hf.2.2.1 e he).2
    have hfar : ∀ j, (j < 259 ∨ 291 ≤ j) → upd f (275 + e) l j = f j := fun j hj => upd_ne _ _ (by omega)
    refine comb (r := f (275 + e)) (f' := upd f (275 + e) l) (u' := kpN u) (past' := kpP past f u) (n' := n) (t' := t) hR ?_ (fun M1 h1 => ?_)
    · refine ae_enter (z := zX10_lock) (y := yX10_lock) (cc := cX10_lock) (mL := 4) (rt := some .int) (ci := 10) (st := false) (np := 2) (L := [some (.ref 0), some (.int (nI e)), some (.int l), none]) rfl (by decide) (Nat.le_of_ble_eq_true rfl) rfl ?_
      refine ae_aload_n (pc := 0) dX10_lock_0 rfl ?_
      refine ae_getR (pc := 1) (k := 0) (c := 10) (j := 0) (q := 1) dX10_lock_1 rfl rfl (Nat.le_of_ble_eq_true rfl) rfl (Nat.le_of_ble_eq_true rfl) rfl ?_
      refine ae_iload_n (pc := 4) dX10_lock_4 rfl ?_
      refine ae_pcallV (pc := 5) (z := zX7_hasEntry) (k := 1) (As := [_]) dX10_lock_5 rfl rfl rfl rfl (Nat.le_of_ble_eq_true rfl) rfl (Nat.le_of_ble_eq_true rfl) (Nat.le_of_ble_eq_true rfl) (hhe) ?_
      refine ae_if_ne (pc := 8) (t := 14) dX10_lock_8 (by decide) (fun _ => ?_) (fun q => absurd (Classical.not_not.mp q) (by decide))
      refine ae_aload_n (pc := 14) dX10_lock_14 rfl ?_
      refine ae_getR (pc := 15) (k := 0) (c := 10) (j := 1) (q := 6) dX10_lock_15 rfl rfl (Nat.le_of_ble_eq_true rfl) rfl (Nat.le_of_ble_eq_true rfl) rfl ?_
      refine ae_aload_n (pc := 18) dX10_lock_18 rfl ?_
      refine ae_getR (pc := 19) (k := 0) (c := 10) (j := 0) (q := 1) dX10_lock_19 rfl rfl (Nat.le_of_ble_eq_true rfl) rfl (Nat.le_of_ble_eq_true rfl) rfl ?_
      refine ae_callV (pc := 22) (z := zX2_record) (k := 6) (As := [_]) dX10_lock_22 rfl rfl rfl rfl (Nat.le_of_ble_eq_true rfl) rfl (Nat.le_of_ble_eq_true rfl) (Nat.le_of_ble_eq_true rfl) (sc_record 5 M f hg hf u past hh) (fun v M' hq => ?_)
      obtain ⟨rfl, q1, q2⟩ := hq
      obtain ⟨ck, rs⟩ := rec_ck hC q1 q2
      have fin : CK (am_u M'.1 4 (upd (M'.1 4) e l), M'.2) (upd f (275 + e) l) (kpN u) (kpP past f u) n t ∧ RS M (am_u M'.1 4 (upd (M'.1 4) e l), M'.2) := by
        refine ⟨⟨wf_pal hf hfar (fun q hq => ?_), ?_, HI_ne ck.2.2.1 (fun k hk => am_u_ne M'.1 _ (by omega)), TX_ne ck.2.2.2 (by exact au0 (q := 8) _ _ _ (by decide)) (by exact au0 (q := 9) _ _ _ (by decide))⟩, fun k a b => (am_u_ne M'.1 _ (by omega)).trans (rs k a b)⟩
        · rw [upd_ne _ _ (by omega)]
          refine ⟨(hf.2.2.1 q hq).1, ?_⟩
          by_cases z : q = e
          · subst z; rw [upd_self]; exact hl
          · rw [upd_ne _ _ (by omega)]; exact (hf.2.2.1 q hq).2
        · unfold AG
          rw [au1, au0 (q := 1) _ _ _ (by decide), au0 (q := 2) _ _ _ (by decide), au0 (q := 3) _ _ _ (by decide), au0 (q := 5) _ _ _ (by decide)]
          refine agS_pal hf.1 ck.2.1 hfar (fun q hq => ?_)
          rw [upd_ne f _ (show 259 + q ≠ 275 + e by omega)]
          refine ⟨(ck.2.1.2.2.1 q hq).1, ?_⟩
          by_cases z : q = e
          · subst z; rw [upd_self, upd_self]
          · rw [upd_ne _ _ z, upd_ne _ _ (by omega)]; exact (ck.2.1.2.2.1 q hq).2
      refine ae_aload_n (pc := 25) dX10_lock_25 rfl ?_
      refine ae_getR (pc := 26) (k := 0) (c := 10) (j := 0) (q := 1) dX10_lock_26 rfl rfl (Nat.le_of_ble_eq_true rfl) rfl (Nat.le_of_ble_eq_true rfl) rfl ?_
      refine ae_getR (pc := 29) (k := 1) (c := 7) (j := 5) (q := 4) dX10_lock_29 rfl rfl (Nat.le_of_ble_eq_true rfl) rfl (Nat.le_of_ble_eq_true rfl) rfl ?_
      refine ae_iload_n (pc := 32) dX10_lock_32 rfl ?_
      refine ae_baload (pc := 33) (k := 4) (N := 16) (v := f (275 + e)) (e) dX10_lock_33 (Nat.le_of_ble_eq_true rfl) rfl rfl rfl (by omega) ((ck.2.1.2.2.1 e he).2) ?_
      refine ae_if_eq (pc := 34) (t := 41) dX10_lock_34 (by decide) (fun c34 => ?_) (fun c34 => ?_)
      · refine ae_iconst (pc := 41) (v := nI 0) dX10_lock_41 (by decide) ?_
        refine ae_istore_n (pc := 42) dX10_lock_42 rfl (Nat.le_of_ble_eq_true rfl) ?_
        refine ae_aload_n (pc := 43) dX10_lock_43 rfl ?_
        refine ae_getR (pc := 44) (k := 0) (c := 10) (j := 0) (q := 1) dX10_lock_44 rfl rfl (Nat.le_of_ble_eq_true rfl) rfl (Nat.le_of_ble_eq_true rfl) rfl ?_
        refine ae_getR (pc := 47) (k := 1) (c := 7) (j := 5) (q := 4) dX10_lock_47 rfl rfl (Nat.le_of_ble_eq_true rfl) rfl (Nat.le_of_ble_eq_true rfl) rfl ?_
        refine ae_iload_n (pc := 50) dX10_lock_50 rfl ?_
        refine ae_iload_n (pc := 51) dX10_lock_51 rfl ?_
        refine ae_bastore (pc := 52) (k := 4) (N := 16) (v := l) (e) dX10_lock_52 (Nat.le_of_ble_eq_true rfl) rfl rfl rfl (by omega) (nar01 hl) ?_
        refine ae_iload_n (pc := 53) dX10_lock_53 rfl ?_
        refine ae_ireturn (pc := 54) dX10_lock_54 rfl ?_
        refine ⟨?_, fin⟩
        first | (rw [c34]; rfl) | (rw [h01.resolve_left c34]; rfl)
      · refine ae_iconst (pc := 37) (v := nI 1) dX10_lock_37 (by decide) ?_
        refine ae_goto (pc := 38) (t := 42) dX10_lock_38 (by decide) ?_
        refine ae_istore_n (pc := 42) dX10_lock_42 rfl (Nat.le_of_ble_eq_true rfl) ?_
        refine ae_aload_n (pc := 43) dX10_lock_43 rfl ?_
        refine ae_getR (pc := 44) (k := 0) (c := 10) (j := 0) (q := 1) dX10_lock_44 rfl rfl (Nat.le_of_ble_eq_true rfl) rfl (Nat.le_of_ble_eq_true rfl) rfl ?_
        refine ae_getR (pc := 47) (k := 1) (c := 7) (j := 5) (q := 4) dX10_lock_47 rfl rfl (Nat.le_of_ble_eq_true rfl) rfl (Nat.le_of_ble_eq_true rfl) rfl ?_
        refine ae_iload_n (pc := 50) dX10_lock_50 rfl ?_
        refine ae_iload_n (pc := 51) dX10_lock_51 rfl ?_
        refine ae_bastore (pc := 52) (k := 4) (N := 16) (v := l) (e) dX10_lock_52 (Nat.le_of_ble_eq_true rfl) rfl rfl rfl (by omega) (nar01 hl) ?_
        refine ae_iload_n (pc := 53) dX10_lock_53 rfl ?_
        refine ae_ireturn (pc := 54) dX10_lock_54 rfl ?_
        refine ⟨?_, fin⟩
        first | (rw [c34]; rfl) | (rw [h01.resolve_left c34]; rfl)
    · have := sm_lock 5 M1 (by rw [h1.1]; exact hf.1) u h1.2.1 hu e l (by rw [h1.1]; exact he)
      rw [h1.1, kp0, hbl] at this
      refine this.mono (fun v M2 q => ?_)
      obtain ⟨q1, rfl⟩ := q
      exact ⟨q1, RI_kp h1 0 _⟩
  · rw [bI_f h] at hhe
    refine stepR (r := -2) hC hR ?_ (fun M1 h1 => roM (sm_lock0 5 M1 x l (by rw [h1.1]; exact h)))
    refine ae_enter (z := zX10_lock) (y := yX10_lock) (cc := cX10_lock) (mL := 4) (rt := some .int) (ci := 10) (st := false) (np := 2) (L := [some (.ref 0), some (.int x), some (.int l), none]) rfl (by decide) (Nat.le_of_ble_eq_true rfl) rfl ?_
    refine ae_aload_n (pc := 0) dX10_lock_0 rfl ?_
    refine ae_getR (pc := 1) (k := 0) (c := 10) (j := 0) (q := 1) dX10_lock_1 rfl rfl (Nat.le_of_ble_eq_true rfl) rfl (Nat.le_of_ble_eq_true rfl) rfl ?_
    refine ae_iload_n (pc := 4) dX10_lock_4 rfl ?_
    refine ae_pcallV (pc := 5) (z := zX7_hasEntry) (k := 1) (As := [_]) dX10_lock_5 rfl rfl rfl rfl (Nat.le_of_ble_eq_true rfl) rfl (Nat.le_of_ble_eq_true rfl) (Nat.le_of_ble_eq_true rfl) (hhe) ?_
    refine ae_if_ne (pc := 8) (t := 14) dX10_lock_8 (by decide) (fun c8 => ?_) (fun c8 => ?_)
    · exact absurd rfl c8
    refine ae_bipush (pc := 11) (v := (-2)) dX10_lock_11 (by decide) ?_
    refine ae_ireturn (pc := 13) dX10_lock_13 rfl ?_
    exact ⟨rfl, hg, FR_refl M⟩
theorem st_swap (M : am_M) (hI : INV M) (x y : Int32) : STEP M zX10_swap [.ref 0, .int x, .int y] zX11_swap [.ref 33, .int x, .int y] := by
  obtain ⟨f, u, past, n, t, hC, hR⟩ := hI
  obtain ⟨hf, hg, hh, ht⟩ := id hC
  have hu := hh.1
  have hN := hf.1.2.2.2
  by_cases h : inE f x ∧ inE f y
  · have he1 := sc_hasEntry 6 M f hg hf.1 x
    rw [bI_t h.1] at he1
    have he2 := sc_hasEntry 6 M f hg hf.1 y
    rw [bI_t h.2] at he2
    obtain ⟨a, ha, rfl⟩ := of_inE hf.1 h.1
    obtain ⟨b, hb, rfl⟩ := of_inE hf.1 h.2
    refine comb (r := f (259 + a)) (f' := raF f (swO a b)) (u' := kpN u) (past' := kpP past f u) (n' := n) (t' := t) hR ?_ (fun M1 h1 => ?_)
    · refine ae_enter (z := zX10_swap) (y := yX10_swap) (cc := cX10_swap) (mL := 4) (rt := some .int) (ci := 10) (st := false) (np := 2) (L := [some (.ref 0), some (.int (nI a)), some (.int (nI b)), none]) rfl (by decide) (Nat.le_of_ble_eq_true rfl) rfl ?_
      refine ae_aload_n (pc := 0) dX10_swap_0 rfl ?_
      refine ae_getR (pc := 1) (k := 0) (c := 10) (j := 0) (q := 1) dX10_swap_1 rfl rfl (Nat.le_of_ble_eq_true rfl) rfl (Nat.le_of_ble_eq_true rfl) rfl ?_
      refine ae_iload_n (pc := 4) dX10_swap_4 rfl ?_
      refine ae_pcallV (pc := 5) (z := zX7_hasEntry) (k := 1) (As := [_]) dX10_swap_5 rfl rfl rfl rfl (Nat.le_of_ble_eq_true rfl) rfl (Nat.le_of_ble_eq_true rfl) (Nat.le_of_ble_eq_true rfl) (he1) ?_
      refine ae_if_eq (pc := 8) (t := 22) dX10_swap_8 (by decide) (fun c8 => ?_) (fun c8 => ?_)
      · exact absurd c8 (by decide)
      refine ae_aload_n (pc := 11) dX10_swap_11 rfl ?_
      refine ae_getR (pc := 12) (k := 0) (c := 10) (j := 0) (q := 1) dX10_swap_12 rfl rfl (Nat.le_of_ble_eq_true rfl) rfl (Nat.le_of_ble_eq_true rfl) rfl ?_
      refine ae_iload_n (pc := 15) dX10_swap_15 rfl ?_
      refine ae_pcallV (pc := 16) (z := zX7_hasEntry) (k := 1) (As := [_]) dX10_swap_16 rfl rfl rfl rfl (Nat.le_of_ble_eq_true rfl) rfl (Nat.le_of_ble_eq_true rfl) (Nat.le_of_ble_eq_true rfl) (he2) ?_
      refine ae_if_ne (pc := 19) (t := 25) dX10_swap_19 (by decide) (fun c19 => ?_) (fun c19 => ?_)
      rotate_left
      · exact absurd (Classical.not_not.mp c19) (by decide)
      refine ae_aload_n (pc := 25) dX10_swap_25 rfl ?_
      refine ae_getR (pc := 26) (k := 0) (c := 10) (j := 1) (q := 6) dX10_swap_26 rfl rfl (Nat.le_of_ble_eq_true rfl) rfl (Nat.le_of_ble_eq_true rfl) rfl ?_
      refine ae_aload_n (pc := 29) dX10_swap_29 rfl ?_
      refine ae_getR (pc := 30) (k := 0) (c := 10) (j := 0) (q := 1) dX10_swap_30 rfl rfl (Nat.le_of_ble_eq_true rfl) rfl (Nat.le_of_ble_eq_true rfl) rfl ?_
      refine ae_callV (pc := 33) (z := zX2_record) (k := 6) (As := [_]) dX10_swap_33 rfl rfl rfl rfl (Nat.le_of_ble_eq_true rfl) rfl (Nat.le_of_ble_eq_true rfl) (Nat.le_of_ble_eq_true rfl) (sc_record 5 M f hg hf u past hh) (fun v M' hq => ?_)
      obtain ⟨rfl, q1, q2⟩ := hq
      obtain ⟨ck, rs⟩ := rec_ck hC q1 q2
      refine ae_aload_n (pc := 36) dX10_swap_36 rfl ?_
      refine ae_getR (pc := 37) (k := 0) (c := 10) (j := 0) (q := 1) dX10_swap_37 rfl rfl (Nat.le_of_ble_eq_true rfl) rfl (Nat.le_of_ble_eq_true rfl) rfl ?_
      refine ae_getR (pc := 40) (k := 1) (c := 7) (j := 4) (q := 3) dX10_swap_40 rfl rfl (Nat.le_of_ble_eq_true rfl) rfl (Nat.le_of_ble_eq_true rfl) rfl ?_
      refine ae_iload_n (pc := 43) dX10_swap_43 rfl ?_
      refine ae_iaload (pc := 44) (k := 3) (N := 16) (v := f (259 + a)) (a) dX10_swap_44 (Nat.le_of_ble_eq_true rfl) rfl rfl rfl (by omega) ((ck.2.1.2.2.1 a ha).1) ?_
      refine ae_istore_n (pc := 45) dX10_swap_45 rfl (Nat.le_of_ble_eq_true rfl) ?_
      skip
      have hex := sc_exchange 5 M' f ck.2.1 hf a b ha hb
      refine ae_aload_n (pc := 46) dX10_swap_46 rfl ?_
      refine ae_getR (pc := 47) (k := 0) (c := 10) (j := 0) (q := 1) dX10_swap_47 rfl rfl (Nat.le_of_ble_eq_true rfl) rfl (Nat.le_of_ble_eq_true rfl) rfl ?_
      refine ae_iload_n (pc := 50) dX10_swap_50 rfl ?_
      refine ae_iload_n (pc := 51) dX10_swap_51 rfl ?_
      refine ae_callV (pc := 52) (z := zX7_exchange) (k := 1) (As := [_, _]) dX10_swap_52 rfl rfl rfl rfl (Nat.le_of_ble_eq_true rfl) rfl (Nat.le_of_ble_eq_true rfl) (Nat.le_of_ble_eq_true rfl) hex (fun v M2 hq => ?_)
      obtain ⟨rfl, hnw⟩ := hq
      refine ae_iload_n (pc := 55) dX10_swap_55 rfl ?_
      refine ae_ireturn (pc := 56) dX10_swap_56 rfl ?_
      exact ⟨rfl, CK_FR ck (NW_AG hnw) (wf_sw hf ha hb) (FR_NW hnw), fun k p q => (NW_ne hnw (by omega)).trans (rs k p q)⟩
    · have := sm_swap 5 M1 (by rw [h1.1]; exact hf.1) u h1.2.1 hu a b (by rw [h1.1]; exact ha) (by rw [h1.1]; exact hb)
      rw [h1.1, kp0] at this
      refine this.mono (fun v M2 q => ?_)
      obtain ⟨q1, O, A, B, rfl⟩ := q
      obtain ⟨k1, k2⟩ := RI_kp h1 0 (raF f (swO a b))
      refine ⟨q1, ⟨raM_34 _ _ _ _, ?_, ?_, ?_, ?_⟩, fun k hk => ?_⟩
      · rw [raM_ne _ _ _ _ (by decide)]; have := k1.2.1; rw [rw34_ne _ _ (by decide)] at this; simpa [am_u] using this
      · rw [raM_ne _ _ _ _ (by decide)]; have := k1.2.2.1; rw [rw34_ne _ _ (by decide)] at this; simpa [am_u] using this
      · rw [raM_ne _ _ _ _ (by decide)]; have := k1.2.2.2.1; rw [rw34_ne _ _ (by decide)] at this; simpa [am_u] using this
      · rw [raM_ne _ _ _ _ (by decide)]; have := k1.2.2.2.2; rw [rw34_ne _ _ (by decide)] at this; simpa [am_u] using this
      · rw [raM_ne _ _ _ _ (by omega)]; have := k2 k hk; rw [rw34_ne _ _ (by omega)] at this; show am_u (kpM M1 u 0).1 39 O k = _; rw [am_u_ne _ _ (by omega)]; exact this
  · refine stepR (r := -2) hC hR ?_ (fun M1 h1 => roM (sm_swap0 5 M1 x y (by rw [h1.1]; exact h)))
    refine ae_enter (z := zX10_swap) (y := yX10_swap) (cc := cX10_swap) (mL := 4) (rt := some .int) (ci := 10) (st := false) (np := 2) (L := [some (.ref 0), some (.int x), some (.int y), none]) rfl (by decide) (Nat.le_of_ble_eq_true rfl) rfl ?_
    refine ae_aload_n (pc := 0) dX10_swap_0 rfl ?_
    refine ae_getR (pc := 1) (k := 0) (c := 10) (j := 0) (q := 1) dX10_swap_1 rfl rfl (Nat.le_of_ble_eq_true rfl) rfl (Nat.le_of_ble_eq_true rfl) rfl ?_
    refine ae_iload_n (pc := 4) dX10_swap_4 rfl ?_
    refine ae_pcallV (pc := 5) (z := zX7_hasEntry) (k := 1) (As := [_]) dX10_swap_5 rfl rfl rfl rfl (Nat.le_of_ble_eq_true rfl) rfl (Nat.le_of_ble_eq_true rfl) (Nat.le_of_ble_eq_true rfl) (sc_hasEntry 6 M f hg hf.1 _) ?_
    refine ae_if_eq (pc := 8) (t := 22) dX10_swap_8 (by decide) (fun c8 => ?_) (fun c8 => ?_)
    · refine ae_bipush (pc := 22) (v := (-2)) dX10_swap_22 (by decide) ?_
      refine ae_ireturn (pc := 24) dX10_swap_24 rfl ?_
      exact ⟨rfl, hg, FR_refl M⟩
    · refine ae_aload_n (pc := 11) dX10_swap_11 rfl ?_
      refine ae_getR (pc := 12) (k := 0) (c := 10) (j := 0) (q := 1) dX10_swap_12 rfl rfl (Nat.le_of_ble_eq_true rfl) rfl (Nat.le_of_ble_eq_true rfl) rfl ?_
      refine ae_iload_n (pc := 15) dX10_swap_15 rfl ?_
      refine ae_pcallV (pc := 16) (z := zX7_hasEntry) (k := 1) (As := [_]) dX10_swap_16 rfl rfl rfl rfl (Nat.le_of_ble_eq_true rfl) rfl (Nat.le_of_ble_eq_true rfl) (Nat.le_of_ble_eq_true rfl) (sc_hasEntry 6 M f hg hf.1 _) ?_
      refine ae_if_ne (pc := 19) (t := 25) dX10_swap_19 (by decide) (fun c19 => ?_) (fun c19 => ?_)
      · exact (h ⟨bI_ne0.mp c8, bI_ne0.mp c19⟩).elim
      · refine ae_bipush (pc := 22) (v := (-2)) dX10_swap_22 (by decide) ?_
        refine ae_ireturn (pc := 24) dX10_swap_24 rfl ?_
        exact ⟨rfl, hg, FR_refl M⟩
theorem st_sort (M : am_M) (hI : INV M) (x : Int32) : STEP M zX10_sort [.ref 0, .int x] zX11_sort [.ref 33, .int x] := by
  obtain ⟨f, u, past, n, t, hC, hR⟩ := hI
  obtain ⟨hf, hg, hh, ht⟩ := id hC
  have hu := hh.1
  have hN := hf.1.2.2.2
  by_cases h : nI 0 ≤ x ∧ x ≤ nI 2
  · have hw := sc_isWithin 6 x (nI 0) (nI 2) M
    rw [bI_t h] at hw
    obtain ⟨o, -, ho, rfl⟩ := rng h (by decide)
    refine comb (r := nI (mvd (srt f (fun e => nI (svc f e (fA f))) (fun _ => 0) o (fN f)).2.2 (fN f))) (f' := raF f (srt f (fun e => nI (svc f e (fA f))) (fun _ => 0) o (fN f)).2.2) (u' := kpN u) (past' := kpP past f u) (n' := n) (t' := t) hR ?_ (fun M1 h1 => ?_)
    · refine ae_enter (z := zX10_sort) (y := yX10_sort) (cc := cX10_sort) (mL := 2) (rt := some .int) (ci := 10) (st := false) (np := 1) (L := [some (.ref 0), some (.int (nI o))]) rfl (by decide) (Nat.le_of_ble_eq_true rfl) rfl ?_
      refine ae_iload_n (pc := 0) dX10_sort_0 rfl ?_
      refine ae_iconst (pc := 1) (v := nI 0) dX10_sort_1 (by decide) ?_
      refine ae_iconst (pc := 2) (v := nI 2) dX10_sort_2 (by decide) ?_
      refine ae_pcallS (pc := 3) (z := zX10_isWithin) (As := [_, _, _]) dX10_sort_3 rfl rfl rfl rfl (Nat.le_of_ble_eq_true rfl) (hw) ?_
      refine ae_if_ne (pc := 6) (t := 12) dX10_sort_6 (by decide) (fun c6 => ?_) (fun c6 => ?_)
      rotate_left
      · exact absurd (Classical.not_not.mp c6) (by decide)
      refine ae_aload_n (pc := 12) dX10_sort_12 rfl ?_
      refine ae_getR (pc := 13) (k := 0) (c := 10) (j := 1) (q := 6) dX10_sort_13 rfl rfl (Nat.le_of_ble_eq_true rfl) rfl (Nat.le_of_ble_eq_true rfl) rfl ?_
      refine ae_aload_n (pc := 16) dX10_sort_16 rfl ?_
      refine ae_getR (pc := 17) (k := 0) (c := 10) (j := 0) (q := 1) dX10_sort_17 rfl rfl (Nat.le_of_ble_eq_true rfl) rfl (Nat.le_of_ble_eq_true rfl) rfl ?_
      refine ae_callV (pc := 20) (z := zX2_record) (k := 6) (As := [_]) dX10_sort_20 rfl rfl rfl rfl (Nat.le_of_ble_eq_true rfl) rfl (Nat.le_of_ble_eq_true rfl) (Nat.le_of_ble_eq_true rfl) (sc_record 5 M f hg hf u past hh) (fun v M' hq => ?_)
      obtain ⟨rfl, q1, q2⟩ := hq
      obtain ⟨ck, rs⟩ := rec_ck hC q1 q2
      skip
      have har := sc_arrange 3 M' f ck.2.1 hf o (by omega) (fun e => nI (svc f e (fA f))) (fun _ => 0) (fun e _ => rfl)
      refine ae_aload_n (pc := 23) dX10_sort_23 rfl ?_
      refine ae_getR (pc := 24) (k := 0) (c := 10) (j := 7) (q := 27) dX10_sort_24 rfl rfl (Nat.le_of_ble_eq_true rfl) rfl (Nat.le_of_ble_eq_true rfl) rfl ?_
      refine ae_iload_n (pc := 27) dX10_sort_27 rfl ?_
      refine ae_callV (pc := 28) (z := zX0_arrange) (k := 27) (As := [_]) dX10_sort_28 rfl rfl rfl rfl (Nat.le_of_ble_eq_true rfl) rfl (Nat.le_of_ble_eq_true rfl) (Nat.le_of_ble_eq_true rfl) har (fun v M2 hq => ?_)
      obtain ⟨rfl, p1, p2, p3⟩ := hq
      refine ae_ireturn (pc := 31) dX10_sort_31 rfl ?_
      exact ⟨rfl, CK_FR ck p1 p2 p3, fun k p q => (p3 k (by omega)).trans (rs k p q)⟩
    · have := sm_sort 2 M1 (by rw [h1.1]; exact hf.1) u h1.2.1 hu o (by omega)
      rw [h1.1, kp0] at this
      refine this.mono (fun v M2 q => ?_)
      obtain ⟨srv, pl0, hs, q1, O, A, B, P, rfl⟩ := q
      have e := (srt_cg (f := f) (srv := srv) (srv' := fun e => nI (svc f e (fA f))) (pl0 := pl0) (pl0' := fun _ => 0) (o := o) hN (fun e he => by rw [hs e he, sv_srv hf.1]) (fN f)).2.2
      rw [e] at q1 ⊢
      obtain ⟨k1, k2⟩ := RI_kp h1 0 (raF f (srt f (fun e => nI (svc f e (fA f))) (fun _ => 0) o (fN f)).2.2)
      refine ⟨q1, ⟨raM_34 _ _ _ _, ?_, ?_, ?_, ?_⟩, fun k hk => ?_⟩
      · rw [raM_ne _ _ _ _ (by decide)]; have := k1.2.1; rw [rw34_ne _ _ (by decide)] at this; simpa [am_u] using this
      · rw [raM_ne _ _ _ _ (by decide)]; have := k1.2.2.1; rw [rw34_ne _ _ (by decide)] at this; simpa [am_u] using this
      · rw [raM_ne _ _ _ _ (by decide)]; have := k1.2.2.2.1; rw [rw34_ne _ _ (by decide)] at this; simpa [am_u] using this
      · rw [raM_ne _ _ _ _ (by decide)]; have := k1.2.2.2.2; rw [rw34_ne _ _ (by decide)] at this; simpa [am_u] using this
      · rw [raM_ne _ _ _ _ (by omega)]; have := k2 k hk; rw [rw34_ne _ _ (by omega)] at this; show am_u (am_u (am_u (kpM M1 u 0).1 42 srv) 47 P) 39 O k = _; rw [am_u_ne _ _ (by omega), am_u_ne _ _ (by omega), am_u_ne _ _ (by omega)]; exact this
  · refine stepR (r := -2) hC hR ?_ (fun M1 h1 => roM (sm_sort0 6 M1 x h))
    refine ae_enter (z := zX10_sort) (y := yX10_sort) (cc := cX10_sort) (mL := 2) (rt := some .int) (ci := 10) (st := false) (np := 1) (L := [some (.ref 0), some (.int x)]) rfl (by decide) (Nat.le_of_ble_eq_true rfl) rfl ?_
    refine ae_iload_n (pc := 0) dX10_sort_0 rfl ?_
    refine ae_iconst (pc := 1) (v := nI 0) dX10_sort_1 (by decide) ?_
    refine ae_iconst (pc := 2) (v := nI 2) dX10_sort_2 (by decide) ?_
    refine ae_pcallS (pc := 3) (z := zX10_isWithin) (As := [_, _, _]) dX10_sort_3 rfl rfl rfl rfl (Nat.le_of_ble_eq_true rfl) (sc_isWithin 6 _ _ _ _) ?_
    refine ae_if_ne (pc := 6) (t := 12) dX10_sort_6 (by decide) (fun c6 => ?_) (fun c6 => ?_)
    · exact (h (bI_ne0.mp c6)).elim
    · refine ae_bipush (pc := 9) (v := (-2)) dX10_sort_9 (by decide) ?_
      refine ae_ireturn (pc := 11) dX10_sort_11 rfl ?_
      exact ⟨rfl, hg, FR_refl M⟩
theorem st_map (M : am_M) (hI : INV M) (x y : Int32) : STEP M zX10_map [.ref 0, .int x, .int y] zX11_map [.ref 33, .int x, .int y] := by
  obtain ⟨f, u, past, n, t, hC, hR⟩ := hI
  obtain ⟨hf, hg, hh, ht⟩ := id hC
  have hu := hh.1
  have hN := hf.1.2.2.2
  obtain ⟨-, -, a3⟩ := AG_w hg hf.1
  by_cases h : (nI 0 ≤ x ∧ x ≤ nI 3) ∧ nI 0 ≤ y ∧ y ≤ nI 64
  · have hw1 := sc_isWithin 6 x (nI 0) (nI 3) M
    rw [bI_t h.1] at hw1
    have hw2 := sc_isWithin 6 y (nI 0) (nI 64) M
    rw [bI_t h.2] at hw2
    obtain ⟨mt, -, hmt, rfl⟩ := rng h.1 (by decide)
    obtain ⟨sg, -, hsg, rfl⟩ := rng h.2 (by decide)
    by_cases hz : fN f = 0
    · rw [hz] at a3
      refine stepR (r := -3) hC hR ?_ (fun M1 h1 => roM (sm_mapS 6 M1 (by rw [h1.1]; exact hf.1) mt sg (by omega) hsg (by rw [h1.1]; exact hz)))
      refine ae_enter (z := zX10_map) (y := yX10_map) (cc := cX10_map) (mL := 3) (rt := some .int) (ci := 10) (st := false) (np := 2) (L := [some (.ref 0), some (.int (nI mt)), some (.int (nI sg))]) rfl (by decide) (Nat.le_of_ble_eq_true rfl) rfl ?_
      refine ae_iload_n (pc := 0) dX10_map_0 rfl ?_
      refine ae_iconst (pc := 1) (v := nI 0) dX10_map_1 (by decide) ?_
      refine ae_iconst (pc := 2) (v := nI 3) dX10_map_2 (by decide) ?_
      refine ae_pcallS (pc := 3) (z := zX10_isWithin) (As := [_, _, _]) dX10_map_3 rfl rfl rfl rfl (Nat.le_of_ble_eq_true rfl) (hw1) ?_
      refine ae_if_eq (pc := 6) (t := 19) dX10_map_6 (by decide) (fun c6 => ?_) (fun c6 => ?_)
      · exact absurd c6 (by decide)
      refine ae_iload_n (pc := 9) dX10_map_9 rfl ?_
      refine ae_iconst (pc := 10) (v := nI 0) dX10_map_10 (by decide) ?_
      refine ae_bipush (pc := 11) (v := nI 64) dX10_map_11 (by decide) ?_
      refine ae_pcallS (pc := 13) (z := zX10_isWithin) (As := [_, _, _]) dX10_map_13 rfl rfl rfl rfl (Nat.le_of_ble_eq_true rfl) (hw2) ?_
      refine ae_if_ne (pc := 16) (t := 22) dX10_map_16 (by decide) (fun c16 => ?_) (fun c16 => ?_)
      rotate_left
      · exact absurd (Classical.not_not.mp c16) (by decide)
      refine ae_aload_n (pc := 22) dX10_map_22 rfl ?_
      refine ae_getR (pc := 23) (k := 0) (c := 10) (j := 0) (q := 1) dX10_map_23 rfl rfl (Nat.le_of_ble_eq_true rfl) rfl (Nat.le_of_ble_eq_true rfl) rfl ?_
      refine ae_getI (pc := 26) (k := 1) (c := 7) (j := 3) (v := nI 0) dX10_map_26 rfl rfl (Or.inl rfl) (Nat.le_of_ble_eq_true rfl) rfl (Nat.le_of_ble_eq_true rfl) a3 ?_
      refine ae_if_ne (pc := 29) (t := 35) dX10_map_29 (by decide) (fun c29 => ?_) (fun c29 => ?_)
      · exact absurd rfl c29
      refine ae_bipush (pc := 32) (v := (-3)) dX10_map_32 (by decide) ?_
      refine ae_ireturn (pc := 34) dX10_map_34 rfl ?_
      exact ⟨rfl, hg, FR_refl M⟩
    · generalize hG : upd (kpF f 1) 292 (nI 1) = g
      have g292 : g 292 = 1 := by rw [← hG, upd_self]; rfl
      have sm0 : sm292 f g := fun j hj => by rw [← hG, upd_ne _ _ (by omega), kpF_ne _ _ (by omega)]
      obtain ⟨gw1, gw2, gw3, gw4, gw5⟩ := sm0.w hf.1
      generalize hF : mapF g (M.1 48) mt (nI sg) = F
      have smF : sm293 F g := by rw [← hF]; exact mapF_sm _ _ _ _
      have F292 : F 292 = 1 := (smF 292 (by decide)).trans g292
      have smfF : sm292 f F := fun j hj => (sm0 j hj).trans (smF j (by omega)).symm
      obtain ⟨fw1, fw2, fw3, fw4, fw5⟩ := smfF.w hf.1
      refine comb2 (r := nI (usd F (fN f))) (f' := F) (u' := kpN u) (past' := kpP past f u) (n' := n) (t' := t) hR ?_ (fun M1 h1 hrs => ?_)
      · have tail : ∀ (M2 : am_M) (i : fT), CK M2 f (kpN u) (kpP past f u) n t → RS M M2 → ∀ M3 : am_M, M3.1 5 = i → (∀ k, k ≠ 5 → k ≠ 31 → M3.1 k = M2.1 k) → (∀ p, p < fA g → i p = F (293 + p) ∧ mV g p (i p)) → am_E none (am_R 7) cX10_map 10 (some .int) (fun v M1 => v = some (.int (nI (usd F (fN f)))) ∧ CK M1 F (kpN u) (kpP past f u) n t ∧ RS M M1) (78, [some (.ref 0), some (.int (nI mt)), some (.int (nI sg))], [], M3) := by
          intro M2 i ck rs M3 e5 er hi
          have wF : wf F := wf_map hf smfF F292 (fun q hq => by
            rw [← fw5, gw5] at hq
            rw [← (hi q hq).1]
            refine mV_sm gw1 (fun j hj => ?_) hq (hi q hq).2
            exact (smF j (by omega)).symm)
          have ag : AG (am_u M3.1 1 (upd (M3.1 1) 7 (nI 1)), M3.2) F := by
            unfold AG
            rw [au1, au0 (q := 2) _ _ _ (by decide), au0 (q := 3) _ _ _ (by decide), au0 (q := 4) _ _ _ (by decide), au0 (q := 5) _ _ _ (by decide), e5, er 1 (by decide) (by decide), er 2 (by decide) (by decide), er 3 (by decide) (by decide), er 4 (by decide) (by decide)]
            exact agS_map hf.1 ck.2.1 smfF F292 (fun q hq => (hi q (by rw [← gw5, fw5]; exact hq)).1)
          have hus := sc_usedEntries 4 _ F ag wF
          rw [← fw4] at hus
          refine ae_aload_n (pc := 78) dX10_map_78 rfl ?_
          refine ae_getR (pc := 79) (k := 0) (c := 10) (j := 0) (q := 1) dX10_map_79 rfl rfl (Nat.le_of_ble_eq_true rfl) rfl (Nat.le_of_ble_eq_true rfl) rfl ?_
          refine ae_iconst (pc := 82) (v := nI 1) dX10_map_82 (by decide) ?_
          refine ae_putfieldZ (pc := 83) (k := 1) (c := 7) (j := 7) dX10_map_83 rfl rfl (Nat.le_of_ble_eq_true rfl) rfl (Nat.le_of_ble_eq_true rfl) rfl (Or.inr rfl) ?_
          refine ae_aload_n (pc := 86) dX10_map_86 rfl ?_
          refine ae_getR (pc := 87) (k := 0) (c := 10) (j := 0) (q := 1) dX10_map_87 rfl rfl (Nat.le_of_ble_eq_true rfl) rfl (Nat.le_of_ble_eq_true rfl) rfl ?_
          refine ae_pcallV (pc := 90) (z := zX7_usedEntries) (k := 1) (As := []) dX10_map_90 rfl rfl rfl rfl (Nat.le_of_ble_eq_true rfl) rfl (Nat.le_of_ble_eq_true rfl) (Nat.le_of_ble_eq_true rfl) (hus) ?_
          refine ae_ireturn (pc := 93) dX10_map_93 rfl ?_
          exact ⟨rfl, ⟨wF, ag, HI_ne ck.2.2.1 (fun k hk => (am_u_ne M3.1 _ (by omega)).trans (er k (by omega) (by omega))), TX_ne ck.2.2.2 (by rw [au0 (q := 8) _ _ _ (by decide)]; exact er 8 (by decide) (by decide)) (by rw [au0 (q := 9) _ _ _ (by decide)]; exact er 9 (by decide) (by decide))⟩, fun k p q => ((am_u_ne M3.1 _ (by omega)).trans (er k (by omega) (by omega))).trans (rs k p q)⟩
        refine ae_enter (z := zX10_map) (y := yX10_map) (cc := cX10_map) (mL := 3) (rt := some .int) (ci := 10) (st := false) (np := 2) (L := [some (.ref 0), some (.int (nI mt)), some (.int (nI sg))]) rfl (by decide) (Nat.le_of_ble_eq_true rfl) rfl ?_
        refine ae_iload_n (pc := 0) dX10_map_0 rfl ?_
        refine ae_iconst (pc := 1) (v := nI 0) dX10_map_1 (by decide) ?_
        refine ae_iconst (pc := 2) (v := nI 3) dX10_map_2 (by decide) ?_
        refine ae_pcallS (pc := 3) (z := zX10_isWithin) (As := [_, _, _]) dX10_map_3 rfl rfl rfl rfl (Nat.le_of_ble_eq_true rfl) (hw1) ?_
        refine ae_if_eq (pc := 6) (t := 19) dX10_map_6 (by decide) (fun c6 => ?_) (fun c6 => ?_)
        · exact absurd c6 (by decide)
        refine ae_iload_n (pc := 9) dX10_map_9 rfl ?_
        refine ae_iconst (pc := 10) (v := nI 0) dX10_map_10 (by decide) ?_
        refine ae_bipush (pc := 11) (v := nI 64) dX10_map_11 (by decide) ?_
        refine ae_pcallS (pc := 13) (z := zX10_isWithin) (As := [_, _, _]) dX10_map_13 rfl rfl rfl rfl (Nat.le_of_ble_eq_true rfl) (hw2) ?_
        refine ae_if_ne (pc := 16) (t := 22) dX10_map_16 (by decide) (fun c16 => ?_) (fun c16 => ?_)
        rotate_left
        · exact absurd (Classical.not_not.mp c16) (by decide)
        refine ae_aload_n (pc := 22) dX10_map_22 rfl ?_
        refine ae_getR (pc := 23) (k := 0) (c := 10) (j := 0) (q := 1) dX10_map_23 rfl rfl (Nat.le_of_ble_eq_true rfl) rfl (Nat.le_of_ble_eq_true rfl) rfl ?_
        refine ae_getI (pc := 26) (k := 1) (c := 7) (j := 3) (v := nI (fN f)) dX10_map_26 rfl rfl (Or.inl rfl) (Nat.le_of_ble_eq_true rfl) rfl (Nat.le_of_ble_eq_true rfl) a3 ?_
        refine ae_if_ne (pc := 29) (t := 35) dX10_map_29 (by decide) (fun c29 => ?_) (fun c29 => ?_)
        rotate_left
        · exact absurd (Classical.not_not.mp c29) (nI_ne0 (by omega) (by omega))
        refine ae_aload_n (pc := 35) dX10_map_35 rfl ?_
        refine ae_getR (pc := 36) (k := 0) (c := 10) (j := 1) (q := 6) dX10_map_36 rfl rfl (Nat.le_of_ble_eq_true rfl) rfl (Nat.le_of_ble_eq_true rfl) rfl ?_
        refine ae_aload_n (pc := 39) dX10_map_39 rfl ?_
        refine ae_getR (pc := 40) (k := 0) (c := 10) (j := 0) (q := 1) dX10_map_40 rfl rfl (Nat.le_of_ble_eq_true rfl) rfl (Nat.le_of_ble_eq_true rfl) rfl ?_
        refine ae_callV (pc := 43) (z := zX2_record) (k := 6) (As := [_]) dX10_map_43 rfl rfl rfl rfl (Nat.le_of_ble_eq_true rfl) rfl (Nat.le_of_ble_eq_true rfl) (Nat.le_of_ble_eq_true rfl) (sc_record 5 M f hg hf u past hh) (fun v M' hq => ?_)
        obtain ⟨rfl, q1, q2⟩ := hq
        obtain ⟨ck, rs⟩ := rec_ck hC q1 q2
        skip
        have agm : AGm M' g := ⟨f, ck.2.1, hf, sm0⟩
        have gz : 0 < fN g := by rw [← gw4]; omega
        refine ae_iload_n (pc := 46) dX10_map_46 rfl ?_
        refine ae_iconst (pc := 47) (v := nI 2) dX10_map_47 (by decide) ?_
        refine ae_icmp_ge (pc := 48) (t := 70) dX10_map_48 (by decide) (fun c48 => ?_) (fun c48 => ?_)
        · rw [nI_leI (by decide) (by omega)] at c48
          have hdf := sc_diffuse 2 M' g (mpF g mt (nI sg) (fA g)) (M.1 48) agm gz (mp_sm _ _ _ _) (fun p hp => by
            show stF g 293 (fA g) _ (293 + p) = _
            rw [st_in _ _ hp]
            exact if_neg (fun q => by omega)) mt (by omega)
          have eF : F = (dfS mt (mpF g mt (nI sg) (fA g)) (dfI (M.1 48) (mpF g mt (nI sg) (fA g)) (3 * fA g)) (fA g)).1 := by rw [← hF]; unfold mapF; rw [if_neg (by omega)]
          rw [← eF] at hdf
          refine ae_aload_n (pc := 70) dX10_map_70 rfl ?_
          refine ae_getR (pc := 71) (k := 0) (c := 10) (j := 8) (q := 30) dX10_map_71 rfl rfl (Nat.le_of_ble_eq_true rfl) rfl (Nat.le_of_ble_eq_true rfl) rfl ?_
          refine ae_iload_n (pc := 74) dX10_map_74 rfl ?_
          refine ae_callV (pc := 75) (z := zX3_diffuse) (k := 30) (As := [_]) dX10_map_75 rfl rfl rfl rfl (Nat.le_of_ble_eq_true rfl) rfl (Nat.le_of_ble_eq_true rfl) (Nat.le_of_ble_eq_true rfl) hdf (fun v M2 hq => ?_)
          obtain ⟨rfl, i, S, rfl, hi⟩ := hq
          exact tail M' i ck rs _ (by rw [sM_ne _ _ (by decide), iM_5]) (fun k a b => by rw [sM_ne _ _ b, iM_ne _ _ a]) hi
        · rw [nI_leI (by decide) (by omega)] at c48
          have has : ∀ s, s = (if mt = 0 then nI 0 else nI sg) → am_R 7 zX3_assign [.ref 30, .int s] M' (fun v M2 => v = none ∧ ∃ i, M2 = iM M' i ∧ ∀ p, p < fA g → i p = F (293 + p) ∧ mV g p (i p)) := by
            intro s hs
            refine (sc_assign 3 M' g agm gz s).mono (fun v M2 q => ?_)
            obtain ⟨q1, i, q2, q3⟩ := q
            refine ⟨q1, i, q2, fun p hp => ⟨?_, ?_⟩⟩
            · rw [q3 p hp, ← hF, mapF_lo (by omega) hp, hs]
            · rw [q3 p hp]; exact asV_mV gw1 gz s p
          by_cases hm0 : mt = 0
          · refine ae_aload_n (pc := 51) dX10_map_51 rfl ?_
            refine ae_getR (pc := 52) (k := 0) (c := 10) (j := 8) (q := 30) dX10_map_52 rfl rfl (Nat.le_of_ble_eq_true rfl) rfl (Nat.le_of_ble_eq_true rfl) rfl ?_
            refine ae_iload_n (pc := 55) dX10_map_55 rfl ?_
            refine ae_if_ne (pc := 56) (t := 63) dX10_map_56 (by decide) (fun c56 => ?_) (fun c56 => ?_)
            · exact absurd (by rw [hm0]; rfl) c56
            refine ae_iconst (pc := 59) (v := nI 0) dX10_map_59 (by decide) ?_
            refine ae_goto (pc := 60) (t := 64) dX10_map_60 (by decide) ?_
            refine ae_callV (pc := 64) (z := zX3_assign) (k := 30) (As := [_]) dX10_map_64 rfl rfl rfl rfl (Nat.le_of_ble_eq_true rfl) rfl (Nat.le_of_ble_eq_true rfl) (Nat.le_of_ble_eq_true rfl) (has (nI 0) (by rw [if_pos hm0])) (fun v M' hq => ?_)
            obtain ⟨rfl, i, rfl, hi⟩ := hq
            refine ae_goto (pc := 67) (t := 78) dX10_map_67 (by decide) ?_
            exact tail _ i ck rs _ (iM_5 _ _) (fun k a b => iM_ne _ _ a) hi
          · refine ae_aload_n (pc := 51) dX10_map_51 rfl ?_
            refine ae_getR (pc := 52) (k := 0) (c := 10) (j := 8) (q := 30) dX10_map_52 rfl rfl (Nat.le_of_ble_eq_true rfl) rfl (Nat.le_of_ble_eq_true rfl) rfl ?_
            refine ae_iload_n (pc := 55) dX10_map_55 rfl ?_
            refine ae_if_ne (pc := 56) (t := 63) dX10_map_56 (by decide) (fun c56 => ?_) (fun c56 => ?_)
            rotate_left
            · exact absurd (Classical.not_not.mp c56) (nI_ne0 (by omega) (by omega))
            refine ae_iload_n (pc := 63) dX10_map_63 rfl ?_
            refine ae_callV (pc := 64) (z := zX3_assign) (k := 30) (As := [_]) dX10_map_64 rfl rfl rfl rfl (Nat.le_of_ble_eq_true rfl) rfl (Nat.le_of_ble_eq_true rfl) (Nat.le_of_ble_eq_true rfl) (has (nI sg) (by rw [if_neg hm0])) (fun v M' hq => ?_)
            obtain ⟨rfl, i, rfl, hi⟩ := hq
            refine ae_goto (pc := 67) (t := 78) dX10_map_67 (by decide) ?_
            exact tail _ i ck rs _ (iM_5 _ _) (fun k a b => iM_ne _ _ a) hi
      · have := sm_map 1 M1 (by rw [h1.1]; exact hf.1) u h1.2.1 hu mt sg (by omega) hsg (by rw [h1.1]; omega)
        rw [h1.1, hG, hrs 48 (by omega) (by omega), hF] at this
        refine this.mono (fun v M2 q => ?_)
        obtain ⟨q1, T, rfl⟩ := q
        obtain ⟨k1, k2⟩ := RI_kp h1 1 F
        have e : ∀ k, k ≠ 48 → (gM (rw34 (kpM M1 u 1) F) T).1 k = (rw34 (kpM M1 u 1) F).1 k := fun k hk => am_u_ne _ _ hk
        exact ⟨q1, RI_cg k1 ⟨e 34 (by decide), e 33 (by decide), e 35 (by decide), e 36 (by decide)⟩, fun k hk => (e k (by omega)).trans (k2 k hk)⟩
  · refine stepR (r := -2) hC hR ?_ (fun M1 h1 => roM (sm_map0 6 M1 x y h))
    refine ae_enter (z := zX10_map) (y := yX10_map) (cc := cX10_map) (mL := 3) (rt := some .int) (ci := 10) (st := false) (np := 2) (L := [some (.ref 0), some (.int x), some (.int y)]) rfl (by decide) (Nat.le_of_ble_eq_true rfl) rfl ?_
    refine ae_iload_n (pc := 0) dX10_map_0 rfl ?_
    refine ae_iconst (pc := 1) (v := nI 0) dX10_map_1 (by decide) ?_
    refine ae_iconst (pc := 2) (v := nI 3) dX10_map_2 (by decide) ?_
    refine ae_pcallS (pc := 3) (z := zX10_isWithin) (As := [_, _, _]) dX10_map_3 rfl rfl rfl rfl (Nat.le_of_ble_eq_true rfl) (sc_isWithin 6 _ _ _ _) ?_
    refine ae_if_eq (pc := 6) (t := 19) dX10_map_6 (by decide) (fun c6 => ?_) (fun c6 => ?_)
    · refine ae_bipush (pc := 19) (v := (-2)) dX10_map_19 (by decide) ?_
      refine ae_ireturn (pc := 21) dX10_map_21 rfl ?_
      exact ⟨rfl, hg, FR_refl M⟩
    · refine ae_iload_n (pc := 9) dX10_map_9 rfl ?_
      refine ae_iconst (pc := 10) (v := nI 0) dX10_map_10 (by decide) ?_
      refine ae_bipush (pc := 11) (v := nI 64) dX10_map_11 (by decide) ?_
      refine ae_pcallS (pc := 13) (z := zX10_isWithin) (As := [_, _, _]) dX10_map_13 rfl rfl rfl rfl (Nat.le_of_ble_eq_true rfl) (sc_isWithin 6 _ _ _ _) ?_
      refine ae_if_ne (pc := 16) (t := 22) dX10_map_16 (by decide) (fun c16 => ?_) (fun c16 => ?_)
      · exact (h ⟨bI_ne0.mp c6, bI_ne0.mp c16⟩).elim
      · refine ae_bipush (pc := 19) (v := (-2)) dX10_map_19 (by decide) ?_
        refine ae_ireturn (pc := 21) dX10_map_21 rfl ?_
        exact ⟨rfl, hg, FR_refl M⟩

