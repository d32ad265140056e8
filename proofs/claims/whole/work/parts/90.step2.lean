theorem sc_entry_0 (M : am_M) (f : fT) (hg : AG M f) (hf : wf f) (e : Nat) (he : e < fN f) : am_R 8 zX10_entry [.ref 0, .int (nI e), .int (nI 0)] M (fun v M1 => v = some (.int (ent f e 0)) ∧ AG M1 f ∧ FR M M1) := by
  refine ae_enter (z := zX10_entry) (y := yX10_entry) (cc := cX10_entry) (mL := 3) (rt := some .int) (ci := 10) (st := false) (np := 2) (L := [some (.ref 0), some (.int (nI e)), some (.int (nI 0))]) rfl (by decide) (Nat.le_of_ble_eq_true rfl) rfl ?_
  have hN := hf.1.2.2.2
  have hh := sc_hasEntry 6 M f hg hf.1 (nI e)
  rw [bI_t (inE_of hf.1 he)] at hh
  have hw := sc_isWithin 6 (nI 0) (nI 0) (nI 3) M
  rw [bI_t (by decide)] at hw
  refine ae_aload_n (pc := 0) dX10_entry_0 rfl ?_
  refine ae_getR (pc := 1) (k := 0) (c := 10) (j := 0) (q := 1) dX10_entry_1 rfl rfl (Nat.le_of_ble_eq_true rfl) rfl (Nat.le_of_ble_eq_true rfl) rfl ?_
  refine ae_iload_n (pc := 4) dX10_entry_4 rfl ?_
  refine ae_pcallV (pc := 5) (z := zX7_hasEntry) (k := 1) (As := [_]) dX10_entry_5 rfl rfl rfl rfl (Nat.le_of_ble_eq_true rfl) rfl (Nat.le_of_ble_eq_true rfl) (Nat.le_of_ble_eq_true rfl) (hh) ?_
  refine ae_if_eq (pc := 8) (t := 20) dX10_entry_8 (by decide) (fun c8 => ?_) (fun c8 => ?_)
  · exact absurd c8 (by decide)
  refine ae_iload_n (pc := 11) dX10_entry_11 rfl ?_
  refine ae_iconst (pc := 12) (v := nI 0) dX10_entry_12 (by decide) ?_
  refine ae_iconst (pc := 13) (v := nI 3) dX10_entry_13 (by decide) ?_
  refine ae_pcallS (pc := 14) (z := zX10_isWithin) (As := [_, _, _]) dX10_entry_14 rfl rfl rfl rfl (Nat.le_of_ble_eq_true rfl) (hw) ?_
  refine ae_if_ne (pc := 17) (t := 23) dX10_entry_17 (by decide) (fun c17 => ?_) (fun c17 => ?_)
  rotate_left
  · exact absurd (Classical.not_not.mp c17) (by decide)
  refine ae_iload_n (pc := 23) dX10_entry_23 rfl ?_
  refine ae_if_ne (pc := 24) (t := 37) dX10_entry_24 (by decide) (fun q => absurd q (by decide)) (fun _ => ?_)
  refine ae_aload_n (pc := 27) dX10_entry_27 rfl ?_
  refine ae_getR (pc := 28) (k := 0) (c := 10) (j := 0) (q := 1) dX10_entry_28 rfl rfl (Nat.le_of_ble_eq_true rfl) rfl (Nat.le_of_ble_eq_true rfl) rfl ?_
  refine ae_getR (pc := 31) (k := 1) (c := 7) (j := 4) (q := 3) dX10_entry_31 rfl rfl (Nat.le_of_ble_eq_true rfl) rfl (Nat.le_of_ble_eq_true rfl) rfl ?_
  refine ae_iload_n (pc := 34) dX10_entry_34 rfl ?_
  refine ae_iaload (pc := 35) (k := 3) (N := 16) (v := f (259 + e)) (e) dX10_entry_35 (Nat.le_of_ble_eq_true rfl) rfl rfl rfl (by omega) ((hg.2.2.1 e he).1) ?_
  refine ae_ireturn (pc := 36) dX10_entry_36 rfl ?_
  exact ⟨rfl, hg, FR_refl M⟩
theorem sc_entry_1 (M : am_M) (f : fT) (hg : AG M f) (hf : wf f) (e : Nat) (he : e < fN f) : am_R 8 zX10_entry [.ref 0, .int (nI e), .int (nI 1)] M (fun v M1 => v = some (.int (ent f e 1)) ∧ AG M1 f ∧ FR M M1) := by
  refine ae_enter (z := zX10_entry) (y := yX10_entry) (cc := cX10_entry) (mL := 3) (rt := some .int) (ci := 10) (st := false) (np := 2) (L := [some (.ref 0), some (.int (nI e)), some (.int (nI 1))]) rfl (by decide) (Nat.le_of_ble_eq_true rfl) rfl ?_
  have hN := hf.1.2.2.2
  have hh := sc_hasEntry 6 M f hg hf.1 (nI e)
  rw [bI_t (inE_of hf.1 he)] at hh
  have hw := sc_isWithin 6 (nI 1) (nI 0) (nI 3) M
  rw [bI_t (by decide)] at hw
  have h01 := (hf.2.2.1 e he).2
  refine ae_aload_n (pc := 0) dX10_entry_0 rfl ?_
  refine ae_getR (pc := 1) (k := 0) (c := 10) (j := 0) (q := 1) dX10_entry_1 rfl rfl (Nat.le_of_ble_eq_true rfl) rfl (Nat.le_of_ble_eq_true rfl) rfl ?_
  refine ae_iload_n (pc := 4) dX10_entry_4 rfl ?_
  refine ae_pcallV (pc := 5) (z := zX7_hasEntry) (k := 1) (As := [_]) dX10_entry_5 rfl rfl rfl rfl (Nat.le_of_ble_eq_true rfl) rfl (Nat.le_of_ble_eq_true rfl) (Nat.le_of_ble_eq_true rfl) (hh) ?_
  refine ae_if_eq (pc := 8) (t := 20) dX10_entry_8 (by decide) (fun c8 => ?_) (fun c8 => ?_)
  · exact absurd c8 (by decide)
  refine ae_iload_n (pc := 11) dX10_entry_11 rfl ?_
  refine ae_iconst (pc := 12) (v := nI 0) dX10_entry_12 (by decide) ?_
  refine ae_iconst (pc := 13) (v := nI 3) dX10_entry_13 (by decide) ?_
  refine ae_pcallS (pc := 14) (z := zX10_isWithin) (As := [_, _, _]) dX10_entry_14 rfl rfl rfl rfl (Nat.le_of_ble_eq_true rfl) (hw) ?_
  refine ae_if_ne (pc := 17) (t := 23) dX10_entry_17 (by decide) (fun c17 => ?_) (fun c17 => ?_)
  rotate_left
  · exact absurd (Classical.not_not.mp c17) (by decide)
  refine ae_iload_n (pc := 23) dX10_entry_23 rfl ?_
  refine ae_if_ne (pc := 24) (t := 37) dX10_entry_24 (by decide) (fun _ => ?_) (fun q => absurd (by decide) q)
  refine ae_iload_n (pc := 37) dX10_entry_37 rfl ?_
  refine ae_iconst (pc := 38) (v := nI 1) dX10_entry_38 (by decide) ?_
  refine ae_icmp_ne (pc := 39) (t := 60) dX10_entry_39 (by decide) (fun c39 => ?_) (fun c39 => ?_)
  · exact absurd rfl c39
  refine ae_aload_n (pc := 42) dX10_entry_42 rfl ?_
  refine ae_getR (pc := 43) (k := 0) (c := 10) (j := 0) (q := 1) dX10_entry_43 rfl rfl (Nat.le_of_ble_eq_true rfl) rfl (Nat.le_of_ble_eq_true rfl) rfl ?_
  refine ae_getR (pc := 46) (k := 1) (c := 7) (j := 5) (q := 4) dX10_entry_46 rfl rfl (Nat.le_of_ble_eq_true rfl) rfl (Nat.le_of_ble_eq_true rfl) rfl ?_
  refine ae_iload_n (pc := 49) dX10_entry_49 rfl ?_
  refine ae_baload (pc := 50) (k := 4) (N := 16) (v := f (275 + e)) (e) dX10_entry_50 (Nat.le_of_ble_eq_true rfl) rfl rfl rfl (by omega) ((hg.2.2.1 e he).2) ?_
  refine ae_if_eq (pc := 51) (t := 58) dX10_entry_51 (by decide) (fun c51 => ?_) (fun c51 => ?_)
  · refine ae_iconst (pc := 58) (v := nI 0) dX10_entry_58 (by decide) ?_
    refine ae_ireturn (pc := 59) dX10_entry_59 rfl ?_
    refine ⟨?_, hg, FR_refl M⟩
    show _ = some (Value.int (f (275 + e)))
    first | (rw [c51]; rfl) | (rw [h01.resolve_left c51]; rfl)
  · refine ae_iconst (pc := 54) (v := nI 1) dX10_entry_54 (by decide) ?_
    refine ae_goto (pc := 55) (t := 59) dX10_entry_55 (by decide) ?_
    refine ae_ireturn (pc := 59) dX10_entry_59 rfl ?_
    refine ⟨?_, hg, FR_refl M⟩
    show _ = some (Value.int (f (275 + e)))
    first | (rw [c51]; rfl) | (rw [h01.resolve_left c51]; rfl)
theorem sc_entry_3 (M : am_M) (f : fT) (hg : AG M f) (hf : wf f) (e : Nat) (he : e < fN f) : am_R 8 zX10_entry [.ref 0, .int (nI e), .int (nI 3)] M (fun v M1 => v = some (.int (ent f e 3)) ∧ AG M1 f ∧ FR M M1) := by
  refine ae_enter (z := zX10_entry) (y := yX10_entry) (cc := cX10_entry) (mL := 3) (rt := some .int) (ci := 10) (st := false) (np := 2) (L := [some (.ref 0), some (.int (nI e)), some (.int (nI 3))]) rfl (by decide) (Nat.le_of_ble_eq_true rfl) rfl ?_
  have hh := sc_hasEntry 6 M f hg hf.1 (nI e)
  rw [bI_t (inE_of hf.1 he)] at hh
  have hw := sc_isWithin 6 (nI 3) (nI 0) (nI 3) M
  rw [bI_t (by decide)] at hw
  refine ae_aload_n (pc := 0) dX10_entry_0 rfl ?_
  refine ae_getR (pc := 1) (k := 0) (c := 10) (j := 0) (q := 1) dX10_entry_1 rfl rfl (Nat.le_of_ble_eq_true rfl) rfl (Nat.le_of_ble_eq_true rfl) rfl ?_
  refine ae_iload_n (pc := 4) dX10_entry_4 rfl ?_
  refine ae_pcallV (pc := 5) (z := zX7_hasEntry) (k := 1) (As := [_]) dX10_entry_5 rfl rfl rfl rfl (Nat.le_of_ble_eq_true rfl) rfl (Nat.le_of_ble_eq_true rfl) (Nat.le_of_ble_eq_true rfl) (hh) ?_
  refine ae_if_eq (pc := 8) (t := 20) dX10_entry_8 (by decide) (fun c8 => ?_) (fun c8 => ?_)
  · exact absurd c8 (by decide)
  refine ae_iload_n (pc := 11) dX10_entry_11 rfl ?_
  refine ae_iconst (pc := 12) (v := nI 0) dX10_entry_12 (by decide) ?_
  refine ae_iconst (pc := 13) (v := nI 3) dX10_entry_13 (by decide) ?_
  refine ae_pcallS (pc := 14) (z := zX10_isWithin) (As := [_, _, _]) dX10_entry_14 rfl rfl rfl rfl (Nat.le_of_ble_eq_true rfl) (hw) ?_
  refine ae_if_ne (pc := 17) (t := 23) dX10_entry_17 (by decide) (fun c17 => ?_) (fun c17 => ?_)
  rotate_left
  · exact absurd (Classical.not_not.mp c17) (by decide)
  refine ae_iload_n (pc := 23) dX10_entry_23 rfl ?_
  refine ae_if_ne (pc := 24) (t := 37) dX10_entry_24 (by decide) (fun _ => ?_) (fun q => absurd (by decide) q)
  refine ae_iload_n (pc := 37) dX10_entry_37 rfl ?_
  refine ae_iconst (pc := 38) (v := nI 1) dX10_entry_38 (by decide) ?_
  refine ae_icmp_ne (pc := 39) (t := 60) dX10_entry_39 (by decide) (fun c39 => ?_) (fun c39 => ?_)
  · refine ae_iload_n (pc := 60) dX10_entry_60 rfl ?_
    refine ae_iconst (pc := 61) (v := nI 3) dX10_entry_61 (by decide) ?_
    refine ae_icmp_ne (pc := 62) (t := 74) dX10_entry_62 (by decide) (fun c62 => ?_) (fun c62 => ?_)
    · exact absurd rfl c62
    refine ae_aload_n (pc := 65) dX10_entry_65 rfl ?_
    refine ae_getR (pc := 66) (k := 0) (c := 10) (j := 0) (q := 1) dX10_entry_66 rfl rfl (Nat.le_of_ble_eq_true rfl) rfl (Nat.le_of_ble_eq_true rfl) rfl ?_
    refine ae_iload_n (pc := 69) dX10_entry_69 rfl ?_
    refine ae_pcallV (pc := 70) (z := zX7_timesIndexed) (k := 1) (As := [_]) dX10_entry_70 rfl rfl rfl rfl (Nat.le_of_ble_eq_true rfl) rfl (Nat.le_of_ble_eq_true rfl) (Nat.le_of_ble_eq_true rfl) (sc_timesIndexed 5 M f hg hf (nI e)) ?_
    refine ae_ireturn (pc := 73) dX10_entry_73 rfl ?_
    exact ⟨rfl, hg, FR_refl M⟩
  · exact absurd (Classical.not_not.mp c39) (by decide)
theorem sc_entry_2 (M : am_M) (f : fT) (hg : AG M f) (hf : wf f) (e : Nat) (he : e < fN f) : am_R 8 zX10_entry [.ref 0, .int (nI e), .int (nI 2)] M (fun v M1 => v = some (.int (ent f e 2)) ∧ AG M1 f ∧ FR M M1) := by
  refine ae_enter (z := zX10_entry) (y := yX10_entry) (cc := cX10_entry) (mL := 3) (rt := some .int) (ci := 10) (st := false) (np := 2) (L := [some (.ref 0), some (.int (nI e)), some (.int (nI 2))]) rfl (by decide) (Nat.le_of_ble_eq_true rfl) rfl ?_
  have hN := hf.1.2.2.2
  have hh := sc_hasEntry 6 M f hg hf.1 (nI e)
  rw [bI_t (inE_of hf.1 he)] at hh
  have hw := sc_isWithin 6 (nI 2) (nI 0) (nI 3) M
  rw [bI_t (by decide)] at hw
  refine ae_aload_n (pc := 0) dX10_entry_0 rfl ?_
  refine ae_getR (pc := 1) (k := 0) (c := 10) (j := 0) (q := 1) dX10_entry_1 rfl rfl (Nat.le_of_ble_eq_true rfl) rfl (Nat.le_of_ble_eq_true rfl) rfl ?_
  refine ae_iload_n (pc := 4) dX10_entry_4 rfl ?_
  refine ae_pcallV (pc := 5) (z := zX7_hasEntry) (k := 1) (As := [_]) dX10_entry_5 rfl rfl rfl rfl (Nat.le_of_ble_eq_true rfl) rfl (Nat.le_of_ble_eq_true rfl) (Nat.le_of_ble_eq_true rfl) (hh) ?_
  refine ae_if_eq (pc := 8) (t := 20) dX10_entry_8 (by decide) (fun c8 => ?_) (fun c8 => ?_)
  · exact absurd c8 (by decide)
  refine ae_iload_n (pc := 11) dX10_entry_11 rfl ?_
  refine ae_iconst (pc := 12) (v := nI 0) dX10_entry_12 (by decide) ?_
  refine ae_iconst (pc := 13) (v := nI 3) dX10_entry_13 (by decide) ?_
  refine ae_pcallS (pc := 14) (z := zX10_isWithin) (As := [_, _, _]) dX10_entry_14 rfl rfl rfl rfl (Nat.le_of_ble_eq_true rfl) (hw) ?_
  refine ae_if_ne (pc := 17) (t := 23) dX10_entry_17 (by decide) (fun c17 => ?_) (fun c17 => ?_)
  rotate_left
  · exact absurd (Classical.not_not.mp c17) (by decide)
  refine ae_iload_n (pc := 23) dX10_entry_23 rfl ?_
  refine ae_if_ne (pc := 24) (t := 37) dX10_entry_24 (by decide) (fun _ => ?_) (fun q => absurd (by decide) q)
  refine ae_iload_n (pc := 37) dX10_entry_37 rfl ?_
  refine ae_iconst (pc := 38) (v := nI 1) dX10_entry_38 (by decide) ?_
  refine ae_icmp_ne (pc := 39) (t := 60) dX10_entry_39 (by decide) (fun c39 => ?_) (fun c39 => ?_)
  · refine ae_iload_n (pc := 60) dX10_entry_60 rfl ?_
    refine ae_iconst (pc := 61) (v := nI 3) dX10_entry_61 (by decide) ?_
    refine ae_icmp_ne (pc := 62) (t := 74) dX10_entry_62 (by decide) (fun c62 => ?_) (fun c62 => ?_)
    · refine ae_aload_n (pc := 74) dX10_entry_74 rfl ?_
      refine ae_getR (pc := 75) (k := 0) (c := 10) (j := 4) (q := 16) dX10_entry_75 rfl rfl (Nat.le_of_ble_eq_true rfl) rfl (Nat.le_of_ble_eq_true rfl) rfl ?_
      refine ae_callV (pc := 78) (z := zX8_takeStock) (k := 16) (As := []) dX10_entry_78 rfl rfl rfl rfl (Nat.le_of_ble_eq_true rfl) rfl (Nat.le_of_ble_eq_true rfl) (Nat.le_of_ble_eq_true rfl) (sc_takeStock 4 M f hg hf) (fun v M' hq => ?_)
      obtain ⟨rfl, hsv⟩ := hq
      obtain ⟨hg1, fr1, -, -, sf⟩ := SV_of hg hsv
      refine ae_aload_n (pc := 81) dX10_entry_81 rfl ?_
      refine ae_getR (pc := 82) (k := 0) (c := 10) (j := 4) (q := 16) dX10_entry_82 rfl rfl (Nat.le_of_ble_eq_true rfl) rfl (Nat.le_of_ble_eq_true rfl) rfl ?_
      refine ae_getR (pc := 85) (k := 16) (c := 8) (j := 3) (q := 19) dX10_entry_85 rfl rfl (Nat.le_of_ble_eq_true rfl) rfl (Nat.le_of_ble_eq_true rfl) rfl ?_
      refine ae_iload_n (pc := 88) dX10_entry_88 rfl ?_
      refine ae_iaload (pc := 89) (k := 19) (N := 16) (v := nI (svc f e (fA f))) (e) dX10_entry_89 (Nat.le_of_ble_eq_true rfl) rfl rfl rfl (by omega) (sf.2.2.1 e (by omega)) ?_
      refine ae_ireturn (pc := 90) dX10_entry_90 rfl ?_
      exact ⟨rfl, hg1, fr1⟩
    · exact absurd (Classical.not_not.mp c62) (by decide)
  · exact absurd (Classical.not_not.mp c39) (by decide)
theorem st_entry (M : am_M) (hI : INV M) (x y : Int32) : STEP M zX10_entry [.ref 0, .int x, .int y] zX11_entry [.ref 33, .int x, .int y] := by
  obtain ⟨f, u, past, n, t, hC, hR⟩ := hI
  obtain ⟨hf, hg, hh, ht⟩ := id hC
  by_cases h : inE f x ∧ nI 0 ≤ y ∧ y ≤ nI 3
  · obtain ⟨e, he, rfl⟩ := of_inE hf.1 h.1
    obtain ⟨k, -, hk, rfl⟩ := rng h.2 (by decide)
    refine stepR (r := ent f e k) hC hR ?_ (fun M1 h1 => ?_)
    · match k, (show k < 4 by omega) with
      | 0, _ => exact sc_entry_0 M f hg hf e he
      | 1, _ => exact sc_entry_1 M f hg hf e he
      | 2, _ => exact sc_entry_2 M f hg hf e he
      | 3, _ => exact sc_entry_3 M f hg hf e he
    · have := sm_entry 2 M1 (by rw [h1.1]; exact hf.1) e (by rw [h1.1]; exact he) k (by omega)
      rw [h1.1] at this
      refine this.mono (fun v M2 q => ?_)
      obtain ⟨q1, S, rfl⟩ := q
      exact ⟨q1, RK_42 _ _⟩
  · refine stepR (r := -2) hC hR ?_ (fun M1 h1 => roM (sm_entry0 5 M1 x y (by rw [h1.1]; exact h)))
    refine ae_enter (z := zX10_entry) (y := yX10_entry) (cc := cX10_entry) (mL := 3) (rt := some .int) (ci := 10) (st := false) (np := 2) (L := [some (.ref 0), some (.int x), some (.int y)]) rfl (by decide) (Nat.le_of_ble_eq_true rfl) rfl ?_
    refine ae_aload_n (pc := 0) dX10_entry_0 rfl ?_
    refine ae_getR (pc := 1) (k := 0) (c := 10) (j := 0) (q := 1) dX10_entry_1 rfl rfl (Nat.le_of_ble_eq_true rfl) rfl (Nat.le_of_ble_eq_true rfl) rfl ?_
    refine ae_iload_n (pc := 4) dX10_entry_4 rfl ?_
    refine ae_pcallV (pc := 5) (z := zX7_hasEntry) (k := 1) (As := [_]) dX10_entry_5 rfl rfl rfl rfl (Nat.le_of_ble_eq_true rfl) rfl (Nat.le_of_ble_eq_true rfl) (Nat.le_of_ble_eq_true rfl) (sc_hasEntry 6 M f hg hf.1 x) ?_
    refine ae_if_eq (pc := 8) (t := 20) dX10_entry_8 (by decide) (fun c8 => ?_) (fun c8 => ?_)
    · refine ae_bipush (pc := 20) (v := (-2)) dX10_entry_20 (by decide) ?_
      refine ae_ireturn (pc := 22) dX10_entry_22 rfl ?_
      exact ⟨rfl, hg, FR_refl M⟩
    · refine ae_iload_n (pc := 11) dX10_entry_11 rfl ?_
      refine ae_iconst (pc := 12) (v := nI 0) dX10_entry_12 (by decide) ?_
      refine ae_iconst (pc := 13) (v := nI 3) dX10_entry_13 (by decide) ?_
      refine ae_pcallS (pc := 14) (z := zX10_isWithin) (As := [_, _, _]) dX10_entry_14 rfl rfl rfl rfl (Nat.le_of_ble_eq_true rfl) (sc_isWithin 6 _ _ _ _) ?_
      refine ae_if_ne (pc := 17) (t := 23) dX10_entry_17 (by decide) (fun c17 => ?_) (fun c17 => ?_)
      · exact (h ⟨bI_ne0.mp c8, bI_ne0.mp c17⟩).elim
      · refine ae_bipush (pc := 20) (v := (-2)) dX10_entry_20 (by decide) ?_
        refine ae_ireturn (pc := 22) dX10_entry_22 rfl ?_
        exact ⟨rfl, hg, FR_refl M⟩
theorem st_type (M : am_M) (hI : INV M) (x : Int32) : STEP M zX10_type [.ref 0, .int x] zX11_type [.ref 33, .int x] := by
  obtain ⟨f, u, past, n, t, hC, hR⟩ := hI
  obtain ⟨hf, hg, hh, ht⟩ := id hC
  by_cases h : nI 0 ≤ x ∧ x ≤ nI 127
  · have hw := sc_isWithin 6 x (nI 0) (nI 127) M
    rw [bI_t h] at hw
    by_cases hn : n < 140
    · refine comb (r := nI (n + 1)) (f' := f) (u' := u) (past' := past) (n' := n + 1) (t' := upd t n x) hR ?_ (fun M1 h1 => ?_)
      · refine ae_enter (z := zX10_type) (y := yX10_type) (cc := cX10_type) (mL := 2) (rt := some .int) (ci := 10) (st := false) (np := 1) (L := [some (.ref 0), some (.int x)]) rfl (by decide) (Nat.le_of_ble_eq_true rfl) rfl ?_
        refine ae_iload_n (pc := 0) dX10_type_0 rfl ?_
        refine ae_iconst (pc := 1) (v := nI 0) dX10_type_1 (by decide) ?_
        refine ae_bipush (pc := 2) (v := nI 127) dX10_type_2 (by decide) ?_
        refine ae_pcallS (pc := 4) (z := zX10_isWithin) (As := [_, _, _]) dX10_type_4 rfl rfl rfl rfl (Nat.le_of_ble_eq_true rfl) (hw) ?_
        refine ae_if_ne (pc := 7) (t := 13) dX10_type_7 (by decide) (fun c7 => ?_) (fun c7 => ?_)
        rotate_left
        · exact absurd (Classical.not_not.mp c7) (by decide)
        refine ae_aload_n (pc := 13) dX10_type_13 rfl ?_
        refine ae_getR (pc := 14) (k := 0) (c := 10) (j := 2) (q := 8) dX10_type_14 rfl rfl (Nat.le_of_ble_eq_true rfl) rfl (Nat.le_of_ble_eq_true rfl) rfl ?_
        refine ae_iload_n (pc := 17) dX10_type_17 rfl ?_
        refine ae_callV (pc := 18) (z := zX9_append) (k := 8) (As := [_]) dX10_type_18 rfl rfl rfl rfl (Nat.le_of_ble_eq_true rfl) rfl (Nat.le_of_ble_eq_true rfl) (Nat.le_of_ble_eq_true rfl) (sc_textAppend 6 M n t ht hn x) (fun v M' hq => ?_)
        obtain ⟨rfl, rfl⟩ := hq
        refine ae_if_eq (pc := 21) (t := 34) dX10_type_21 (by decide) (fun c21 => ?_) (fun c21 => ?_)
        · exact absurd c21 (by decide)
        refine ae_aload_n (pc := 24) dX10_type_24 rfl ?_
        refine ae_getR (pc := 25) (k := 0) (c := 10) (j := 2) (q := 8) dX10_type_25 rfl rfl (Nat.le_of_ble_eq_true rfl) rfl (Nat.le_of_ble_eq_true rfl) rfl ?_
        refine ae_getI (pc := 28) (k := 8) (c := 9) (j := 1) (v := nI (n + 1)) dX10_type_28 rfl rfl (Or.inl rfl) (Nat.le_of_ble_eq_true rfl) rfl (Nat.le_of_ble_eq_true rfl) (by rw [txM_8, upd_self]) ?_
        refine ae_goto (pc := 31) (t := 36) dX10_type_31 (by decide) ?_
        refine ae_ireturn (pc := 36) dX10_type_36 rfl ?_
        refine ⟨rfl, ⟨hf, AG_ne hg (fun k a b => txM_ne _ _ _ _ _ (by omega)), HI_ne hh (fun k hk => txM_ne _ _ _ _ _ (by omega)), ⟨by omega, by rw [txM_8, upd_self], fun i hi => ?_⟩⟩, fun k a b => txM_ne _ _ _ _ _ (by omega)⟩
        rw [txM_9]
        by_cases q : i = n
        · subst q; rw [upd_self, upd_self]
        · rw [upd_ne _ _ q, upd_ne _ _ q]; exact ht.2.2 i (by omega)
      · obtain ⟨r1, r2, r3, r4, r5⟩ := h1
        have := sm_type 6 M1 x h n hn r4
        refine this.mono (fun v M2 q => ?_)
        obtain ⟨q1, rfl⟩ := q
        refine ⟨q1, ⟨?_, ?_, ?_, ?_, ?_⟩, fun k hk => ?_⟩
        · simp [am_u]; exact r1
        · simp [am_u, upd]; exact r2
        · simp [am_u]; exact r3
        · simp [am_u, upd]
        · simp [am_u, r5]
        · have : k ≠ 33 ∧ k ≠ 36 := by omega
          simp [am_u, this.1, this.2]
    · have hn2 : n = 140 := by have := ht.1; omega
      subst hn2
      refine stepR (r := -4) hC hR ?_ (fun M1 h1 => roM (sm_typeF 6 M1 x h h1.2.2.2.1))
      refine ae_enter (z := zX10_type) (y := yX10_type) (cc := cX10_type) (mL := 2) (rt := some .int) (ci := 10) (st := false) (np := 1) (L := [some (.ref 0), some (.int x)]) rfl (by decide) (Nat.le_of_ble_eq_true rfl) rfl ?_
      refine ae_iload_n (pc := 0) dX10_type_0 rfl ?_
      refine ae_iconst (pc := 1) (v := nI 0) dX10_type_1 (by decide) ?_
      refine ae_bipush (pc := 2) (v := nI 127) dX10_type_2 (by decide) ?_
      refine ae_pcallS (pc := 4) (z := zX10_isWithin) (As := [_, _, _]) dX10_type_4 rfl rfl rfl rfl (Nat.le_of_ble_eq_true rfl) (hw) ?_
      refine ae_if_ne (pc := 7) (t := 13) dX10_type_7 (by decide) (fun c7 => ?_) (fun c7 => ?_)
      rotate_left
      · exact absurd (Classical.not_not.mp c7) (by decide)
      refine ae_aload_n (pc := 13) dX10_type_13 rfl ?_
      refine ae_getR (pc := 14) (k := 0) (c := 10) (j := 2) (q := 8) dX10_type_14 rfl rfl (Nat.le_of_ble_eq_true rfl) rfl (Nat.le_of_ble_eq_true rfl) rfl ?_
      refine ae_iload_n (pc := 17) dX10_type_17 rfl ?_
      refine ae_pcallV (pc := 18) (z := zX9_append) (k := 8) (As := [_]) dX10_type_18 rfl rfl rfl rfl (Nat.le_of_ble_eq_true rfl) rfl (Nat.le_of_ble_eq_true rfl) (Nat.le_of_ble_eq_true rfl) (sc_textFull 6 M ht.2.1 x) ?_
      refine ae_if_eq (pc := 21) (t := 34) dX10_type_21 (by decide) (fun c21 => ?_) (fun c21 => ?_)
      rotate_left
      · exact absurd rfl c21
      refine ae_bipush (pc := 34) (v := (-4)) dX10_type_34 (by decide) ?_
      refine ae_ireturn (pc := 36) dX10_type_36 rfl ?_
      exact ⟨rfl, hg, FR_refl M⟩
  · refine stepR (r := -2) hC hR ?_ (fun M1 h1 => roM (sm_type0 6 M1 x h))
    refine ae_enter (z := zX10_type) (y := yX10_type) (cc := cX10_type) (mL := 2) (rt := some .int) (ci := 10) (st := false) (np := 1) (L := [some (.ref 0), some (.int x)]) rfl (by decide) (Nat.le_of_ble_eq_true rfl) rfl ?_
    refine ae_iload_n (pc := 0) dX10_type_0 rfl ?_
    refine ae_iconst (pc := 1) (v := nI 0) dX10_type_1 (by decide) ?_
    refine ae_bipush (pc := 2) (v := nI 127) dX10_type_2 (by decide) ?_
    refine ae_pcallS (pc := 4) (z := zX10_isWithin) (As := [_, _, _]) dX10_type_4 rfl rfl rfl rfl (Nat.le_of_ble_eq_true rfl) (sc_isWithin 6 _ _ _ _) ?_
    refine ae_if_ne (pc := 7) (t := 13) dX10_type_7 (by decide) (fun c7 => ?_) (fun c7 => ?_)
    · exact (h (bI_ne0.mp c7)).elim
    · refine ae_bipush (pc := 10) (v := (-2)) dX10_type_10 (by decide) ?_
      refine ae_ireturn (pc := 12) dX10_type_12 rfl ?_
      exact ⟨rfl, hg, FR_refl M⟩
theorem st_clearText (M : am_M) (hI : INV M) : STEP M zX10_clearText [.ref 0] zX11_clearText [.ref 33] := by
  obtain ⟨f, u, past, n, t, hC, hR⟩ := hI
  obtain ⟨hf, hg, hh, ht⟩ := id hC
  refine comb (r := nI n) (f' := f) (u' := u) (past' := past) (n' := 0) (t' := t) hR ?_ (fun M1 h1 => ?_)
  · refine ae_enter (z := zX10_clearText) (y := yX10_clearText) (cc := cX10_clearText) (mL := 2) (rt := some .int) (ci := 10) (st := false) (np := 0) (L := [some (.ref 0), none]) rfl (by decide) (Nat.le_of_ble_eq_true rfl) rfl ?_
    refine ae_aload_n (pc := 0) dX10_clearText_0 rfl ?_
    refine ae_getR (pc := 1) (k := 0) (c := 10) (j := 2) (q := 8) dX10_clearText_1 rfl rfl (Nat.le_of_ble_eq_true rfl) rfl (Nat.le_of_ble_eq_true rfl) rfl ?_
    refine ae_getI (pc := 4) (k := 8) (c := 9) (j := 1) (v := nI n) dX10_clearText_4 rfl rfl (Or.inl rfl) (Nat.le_of_ble_eq_true rfl) rfl (Nat.le_of_ble_eq_true rfl) (ht.2.1) ?_
    refine ae_istore_n (pc := 7) dX10_clearText_7 rfl (Nat.le_of_ble_eq_true rfl) ?_
    refine ae_aload_n (pc := 8) dX10_clearText_8 rfl ?_
    refine ae_getR (pc := 9) (k := 0) (c := 10) (j := 2) (q := 8) dX10_clearText_9 rfl rfl (Nat.le_of_ble_eq_true rfl) rfl (Nat.le_of_ble_eq_true rfl) rfl ?_
    refine ae_iconst (pc := 12) (v := nI 0) dX10_clearText_12 (by decide) ?_
    refine ae_putfield (pc := 13) (k := 8) (c := 9) (j := 1) dX10_clearText_13 rfl rfl (Nat.le_of_ble_eq_true rfl) rfl (Nat.le_of_ble_eq_true rfl) rfl rfl ?_
    refine ae_iload_n (pc := 16) dX10_clearText_16 rfl ?_
    refine ae_ireturn (pc := 17) dX10_clearText_17 rfl ?_
    refine ⟨rfl, ⟨hf, AG_ne hg (fun k a b => am_u_ne M.1 _ (by omega)), HI_ne hh (fun k hk => am_u_ne M.1 _ (by omega)), ⟨by omega, by rw [au1, upd_self], fun i hi => absurd hi (Nat.not_lt_zero i)⟩⟩, fun k a b => am_u_ne M.1 _ (by omega)⟩
  · obtain ⟨r1, r2, r3, r4, r5⟩ := h1
    have := sm_clearText 7 M1
    rw [r4] at this
    refine this.mono (fun v M2 q => ?_)
    obtain ⟨q1, rfl⟩ := q
    refine ⟨q1, ⟨?_, ?_, ?_, ?_, ?_⟩, fun k hk => am_u_ne M1.1 _ (by omega)⟩
    · simp [am_u]; exact r1
    · simp [am_u, upd]; exact r2
    · simp [am_u]; exact r3
    · simp [am_u, upd]
    · simp [am_u]; exact r5
theorem st_fault (M : am_M) (hI : INV M) : STEP M zX10_fault [.ref 0] zX11_fault [.ref 33] := by
  obtain ⟨f, u, past, n, t, hC, hR⟩ := hI
  obtain ⟨hf, hg, hh, ht⟩ := id hC
  refine comb (r := (prs t n n 0 0 (M.1 43) (M.1 44)).1) (f' := f) (u' := u) (past' := past) (n' := n) (t' := t) hR ?_ (fun M1 h1 => ?_)
  · have hp := sc_parse 4 M n t ht (M.1 43) (M.1 44)
    refine ae_enter (z := zX10_fault) (y := yX10_fault) (cc := cX10_fault) (mL := 1) (rt := some .int) (ci := 10) (st := false) (np := 0) (L := [some (.ref 0)]) rfl (by decide) (Nat.le_of_ble_eq_true rfl) rfl ?_
    refine ae_aload_n (pc := 0) dX10_fault_0 rfl ?_
    refine ae_getR (pc := 1) (k := 0) (c := 10) (j := 2) (q := 8) dX10_fault_1 rfl rfl (Nat.le_of_ble_eq_true rfl) rfl (Nat.le_of_ble_eq_true rfl) rfl ?_
    refine ae_callV (pc := 4) (z := zX9_parse) (k := 8) (As := []) dX10_fault_4 rfl rfl rfl rfl (Nat.le_of_ble_eq_true rfl) rfl (Nat.le_of_ble_eq_true rfl) (Nat.le_of_ble_eq_true rfl) (hp) (fun v M' hq => ?_)
    obtain ⟨rfl, cc, cl, rfl, -⟩ := hq
    refine ae_ireturn (pc := 7) dX10_fault_7 rfl ?_
    exact ⟨rfl, ⟨hf, AG_ne hg (fun k a b => txM_ne _ _ _ _ _ (by omega)), HI_ne hh (fun k hk => txM_ne _ _ _ _ _ (by omega)), ⟨ht.1, by rw [txM_8, upd_ne _ _ (by decide)]; exact ht.2.1, fun i hi => by rw [txM_9]; exact ht.2.2 i hi⟩⟩, fun k a b => txM_ne _ _ _ _ _ (by omega)⟩
  · have := sm_fault 4 M1 n h1.2.2.2.1 ht.1
    rw [h1.2.2.2.2] at this
    refine this.mono (fun v M2 q => ?_)
    obtain ⟨q1, rfl⟩ := q
    refine ⟨?_, RI_RK h1 (RK_fl _ _ _ _), (RK_fl _ _ _ _).2⟩
    rw [q1, prs_fst t n n 0 0 (M1.1 43) (M1.1 44) (M.1 43) (M.1 44)]
theorem st_bestError (M : am_M) (hI : INV M) : STEP M zX10_bestError [.ref 0] zX11_bestError [.ref 33] := by
  obtain ⟨f, u, past, n, t, hC, hR⟩ := hI
  obtain ⟨hf, hg, hh, ht⟩ := id hC
  have hN := hf.1.2.2.2
  have hA := fA_le hf.1
  have hO := opq_le f (fA f)
  obtain ⟨-, -, a3⟩ := AG_w hg hf.1
  have hm : ∀ M1, RI M1 f u past n t → am_R 8 zX11_bestError [.ref 33] M1 (fun w M2 => w = some (.int (if fN f = 0 then (if opq f (fA f) = 0 then 0 else -3) else bsum f (-1) (fA f))) ∧ RK M1 M2) := by
    intro M1 h1
    have := sm_bestError 3 M1 (by rw [h1.1]; exact hf.1)
    rw [h1.1] at this
    exact roM this
  refine stepR hC hR ?_ hm
  by_cases hz : fN f = 0
  · rw [if_pos hz]
    rw [hz] at a3
    refine ae_enter (z := zX10_bestError) (y := yX10_bestError) (cc := cX10_bestError) (mL := 1) (rt := some .int) (ci := 10) (st := false) (np := 0) (L := [some (.ref 0)]) rfl (by decide) (Nat.le_of_ble_eq_true rfl) rfl ?_
    refine ae_aload_n (pc := 0) dX10_bestError_0 rfl ?_
    refine ae_getR (pc := 1) (k := 0) (c := 10) (j := 0) (q := 1) dX10_bestError_1 rfl rfl (Nat.le_of_ble_eq_true rfl) rfl (Nat.le_of_ble_eq_true rfl) rfl ?_
    refine ae_getI (pc := 4) (k := 1) (c := 7) (j := 3) (v := nI 0) dX10_bestError_4 rfl rfl (Or.inl rfl) (Nat.le_of_ble_eq_true rfl) rfl (Nat.le_of_ble_eq_true rfl) a3 ?_
    refine ae_if_ne (pc := 7) (t := 27) dX10_bestError_7 (by decide) (fun c7 => ?_) (fun c7 => ?_)
    · exact absurd rfl c7
    refine ae_aload_n (pc := 10) dX10_bestError_10 rfl ?_
    refine ae_getR (pc := 11) (k := 0) (c := 10) (j := 0) (q := 1) dX10_bestError_11 rfl rfl (Nat.le_of_ble_eq_true rfl) rfl (Nat.le_of_ble_eq_true rfl) rfl ?_
    refine ae_pcallV (pc := 14) (z := zX7_opaquePixels) (k := 1) (As := []) dX10_bestError_14 rfl rfl rfl rfl (Nat.le_of_ble_eq_true rfl) rfl (Nat.le_of_ble_eq_true rfl) (Nat.le_of_ble_eq_true rfl) (sc_opaquePixels 5 M f hg hf.1) ?_
    refine ae_if_ne (pc := 17) (t := 24) dX10_bestError_17 (by decide) (fun c17 => ?_) (fun c17 => ?_)
    · refine ae_bipush (pc := 24) (v := (-3)) dX10_bestError_24 (by decide) ?_
      refine ae_ireturn (pc := 26) dX10_bestError_26 rfl ?_
      refine ⟨?_, hg, FR_refl M⟩
      first | (rw [if_pos ((nI_eq (by omega) (by decide)).mp (Classical.not_not.mp c17))]; rfl) | (rw [if_neg (fun q => c17 (by rw [q]; rfl))])
    · refine ae_iconst (pc := 20) (v := nI 0) dX10_bestError_20 (by decide) ?_
      refine ae_goto (pc := 21) (t := 26) dX10_bestError_21 (by decide) ?_
      refine ae_ireturn (pc := 26) dX10_bestError_26 rfl ?_
      refine ⟨?_, hg, FR_refl M⟩
      first | (rw [if_pos ((nI_eq (by omega) (by decide)).mp (Classical.not_not.mp c17))]; rfl) | (rw [if_neg (fun q => c17 (by rw [q]; rfl))])
  · rw [if_neg hz]
    refine ae_enter (z := zX10_bestError) (y := yX10_bestError) (cc := cX10_bestError) (mL := 1) (rt := some .int) (ci := 10) (st := false) (np := 0) (L := [some (.ref 0)]) rfl (by decide) (Nat.le_of_ble_eq_true rfl) rfl ?_
    refine ae_aload_n (pc := 0) dX10_bestError_0 rfl ?_
    refine ae_getR (pc := 1) (k := 0) (c := 10) (j := 0) (q := 1) dX10_bestError_1 rfl rfl (Nat.le_of_ble_eq_true rfl) rfl (Nat.le_of_ble_eq_true rfl) rfl ?_
    refine ae_getI (pc := 4) (k := 1) (c := 7) (j := 3) (v := nI (fN f)) dX10_bestError_4 rfl rfl (Or.inl rfl) (Nat.le_of_ble_eq_true rfl) rfl (Nat.le_of_ble_eq_true rfl) a3 ?_
    refine ae_if_ne (pc := 7) (t := 27) dX10_bestError_7 (by decide) (fun c7 => ?_) (fun c7 => ?_)
    rotate_left
    · exact absurd (Classical.not_not.mp c7) (nI_ne0 (by omega) (by omega))
    refine ae_aload_n (pc := 27) dX10_bestError_27 rfl ?_
    refine ae_getR (pc := 28) (k := 0) (c := 10) (j := 4) (q := 16) dX10_bestError_28 rfl rfl (Nat.le_of_ble_eq_true rfl) rfl (Nat.le_of_ble_eq_true rfl) rfl ?_
    refine ae_callV (pc := 31) (z := zX8_takeStock) (k := 16) (As := []) dX10_bestError_31 rfl rfl rfl rfl (Nat.le_of_ble_eq_true rfl) rfl (Nat.le_of_ble_eq_true rfl) (Nat.le_of_ble_eq_true rfl) (sc_takeStock 4 M f hg hf) (fun v M' hq => ?_)
    obtain ⟨rfl, hsv⟩ := hq
    obtain ⟨hg1, fr1, -, -, sf⟩ := SV_of hg hsv
    refine ae_aload_n (pc := 34) dX10_bestError_34 rfl ?_
    refine ae_getR (pc := 35) (k := 0) (c := 10) (j := 4) (q := 16) dX10_bestError_35 rfl rfl (Nat.le_of_ble_eq_true rfl) rfl (Nat.le_of_ble_eq_true rfl) rfl ?_
    refine ae_getI (pc := 38) (k := 16) (c := 8) (j := 5) (v := bsum f (-1) (fA f)) dX10_bestError_38 rfl rfl (Or.inl rfl) (Nat.le_of_ble_eq_true rfl) rfl (Nat.le_of_ble_eq_true rfl) (sf.1) ?_
    refine ae_ireturn (pc := 41) dX10_bestError_41 rfl ?_
    exact ⟨rfl, hg1, fr1⟩
theorem st_loss (M : am_M) (hI : INV M) (x : Int32) : STEP M zX10_loss [.ref 0, .int x] zX11_loss [.ref 33, .int x] := by
  obtain ⟨f, u, past, n, t, hC, hR⟩ := hI
  obtain ⟨hf, hg, hh, ht⟩ := id hC
  have hN := hf.1.2.2.2
  obtain ⟨-, -, a3⟩ := AG_w hg hf.1
  have hhe := sc_hasEntry 6 M f hg hf.1 x
  by_cases h : inE f x
  · rw [bI_t h] at hhe
    obtain ⟨e, he, rfl⟩ := of_inE hf.1 h
    have hm : ∀ M1, RI M1 f u past n t → am_R 8 zX11_loss [.ref 33, .int (nI e)] M1 (fun w M2 => w = some (.int (if fN f = 1 then -3 else bsum f (nI e) (fA f) - bsum f (-1) (fA f))) ∧ RK M1 M2) := by
      intro M1 h1
      have := sm_loss 3 M1 (by rw [h1.1]; exact hf.1) e (by rw [h1.1]; exact he)
      rw [h1.1] at this
      exact roM this
    refine stepR hC hR ?_ hm
    by_cases h1 : fN f = 1
    · rw [if_pos h1]
      rw [h1] at a3
      refine ae_enter (z := zX10_loss) (y := yX10_loss) (cc := cX10_loss) (mL := 2) (rt := some .int) (ci := 10) (st := false) (np := 1) (L := [some (.ref 0), some (.int (nI e))]) rfl (by decide) (Nat.le_of_ble_eq_true rfl) rfl ?_
      refine ae_aload_n (pc := 0) dX10_loss_0 rfl ?_
      refine ae_getR (pc := 1) (k := 0) (c := 10) (j := 0) (q := 1) dX10_loss_1 rfl rfl (Nat.le_of_ble_eq_true rfl) rfl (Nat.le_of_ble_eq_true rfl) rfl ?_
      refine ae_iload_n (pc := 4) dX10_loss_4 rfl ?_
      refine ae_pcallV (pc := 5) (z := zX7_hasEntry) (k := 1) (As := [_]) dX10_loss_5 rfl rfl rfl rfl (Nat.le_of_ble_eq_true rfl) rfl (Nat.le_of_ble_eq_true rfl) (Nat.le_of_ble_eq_true rfl) (hhe) ?_
      refine ae_if_ne (pc := 8) (t := 14) dX10_loss_8 (by decide) (fun c8 => ?_) (fun c8 => ?_)
      rotate_left
      · exact absurd (Classical.not_not.mp c8) (by decide)
      refine ae_aload_n (pc := 14) dX10_loss_14 rfl ?_
      refine ae_getR (pc := 15) (k := 0) (c := 10) (j := 0) (q := 1) dX10_loss_15 rfl rfl (Nat.le_of_ble_eq_true rfl) rfl (Nat.le_of_ble_eq_true rfl) rfl ?_
      refine ae_getI (pc := 18) (k := 1) (c := 7) (j := 3) (v := nI 1) dX10_loss_18 rfl rfl (Or.inl rfl) (Nat.le_of_ble_eq_true rfl) rfl (Nat.le_of_ble_eq_true rfl) a3 ?_
      refine ae_iconst (pc := 21) (v := nI 1) dX10_loss_21 (by decide) ?_
      refine ae_icmp_ne (pc := 22) (t := 28) dX10_loss_22 (by decide) (fun c22 => ?_) (fun c22 => ?_)
      · exact absurd rfl c22
      refine ae_bipush (pc := 25) (v := (-3)) dX10_loss_25 (by decide) ?_
      refine ae_ireturn (pc := 27) dX10_loss_27 rfl ?_
      exact ⟨rfl, hg, FR_refl M⟩
    · rw [if_neg h1]
      refine ae_enter (z := zX10_loss) (y := yX10_loss) (cc := cX10_loss) (mL := 2) (rt := some .int) (ci := 10) (st := false) (np := 1) (L := [some (.ref 0), some (.int (nI e))]) rfl (by decide) (Nat.le_of_ble_eq_true rfl) rfl ?_
      refine ae_aload_n (pc := 0) dX10_loss_0 rfl ?_
      refine ae_getR (pc := 1) (k := 0) (c := 10) (j := 0) (q := 1) dX10_loss_1 rfl rfl (Nat.le_of_ble_eq_true rfl) rfl (Nat.le_of_ble_eq_true rfl) rfl ?_
      refine ae_iload_n (pc := 4) dX10_loss_4 rfl ?_
      refine ae_pcallV (pc := 5) (z := zX7_hasEntry) (k := 1) (As := [_]) dX10_loss_5 rfl rfl rfl rfl (Nat.le_of_ble_eq_true rfl) rfl (Nat.le_of_ble_eq_true rfl) (Nat.le_of_ble_eq_true rfl) (hhe) ?_
      refine ae_if_ne (pc := 8) (t := 14) dX10_loss_8 (by decide) (fun c8 => ?_) (fun c8 => ?_)
      rotate_left
      · exact absurd (Classical.not_not.mp c8) (by decide)
      refine ae_aload_n (pc := 14) dX10_loss_14 rfl ?_
      refine ae_getR (pc := 15) (k := 0) (c := 10) (j := 0) (q := 1) dX10_loss_15 rfl rfl (Nat.le_of_ble_eq_true rfl) rfl (Nat.le_of_ble_eq_true rfl) rfl ?_
      refine ae_getI (pc := 18) (k := 1) (c := 7) (j := 3) (v := nI (fN f)) dX10_loss_18 rfl rfl (Or.inl rfl) (Nat.le_of_ble_eq_true rfl) rfl (Nat.le_of_ble_eq_true rfl) a3 ?_
      refine ae_iconst (pc := 21) (v := nI 1) dX10_loss_21 (by decide) ?_
      refine ae_icmp_ne (pc := 22) (t := 28) dX10_loss_22 (by decide) (fun c22 => ?_) (fun c22 => ?_)
      rotate_left
      · exact absurd ((nI_eq (by omega) (by decide)).mp (Classical.not_not.mp c22)) h1
      refine ae_aload_n (pc := 28) dX10_loss_28 rfl ?_
      refine ae_getR (pc := 29) (k := 0) (c := 10) (j := 4) (q := 16) dX10_loss_29 rfl rfl (Nat.le_of_ble_eq_true rfl) rfl (Nat.le_of_ble_eq_true rfl) rfl ?_
      refine ae_callV (pc := 32) (z := zX8_takeStock) (k := 16) (As := []) dX10_loss_32 rfl rfl rfl rfl (Nat.le_of_ble_eq_true rfl) rfl (Nat.le_of_ble_eq_true rfl) (Nat.le_of_ble_eq_true rfl) (sc_takeStock 4 M f hg hf) (fun v M' hq => ?_)
      obtain ⟨rfl, hsv⟩ := hq
      obtain ⟨hg1, fr1, -, -, sf⟩ := SV_of hg hsv
      refine ae_aload_n (pc := 35) dX10_loss_35 rfl ?_
      refine ae_getR (pc := 36) (k := 0) (c := 10) (j := 4) (q := 16) dX10_loss_36 rfl rfl (Nat.le_of_ble_eq_true rfl) rfl (Nat.le_of_ble_eq_true rfl) rfl ?_
      refine ae_getR (pc := 39) (k := 16) (c := 8) (j := 4) (q := 20) dX10_loss_39 rfl rfl (Nat.le_of_ble_eq_true rfl) rfl (Nat.le_of_ble_eq_true rfl) rfl ?_
      refine ae_iload_n (pc := 42) dX10_loss_42 rfl ?_
      refine ae_iaload (pc := 43) (k := 20) (N := 16) (v := bsum f (nI e) (fA f) - bsum f (-1) (fA f)) (e) dX10_loss_43 (Nat.le_of_ble_eq_true rfl) rfl rfl rfl (by omega) (sf.2.2.2 (by omega) e he) ?_
      refine ae_ireturn (pc := 44) dX10_loss_44 rfl ?_
      exact ⟨rfl, hg1, fr1⟩
  · rw [bI_f h] at hhe
    refine stepR (r := -2) hC hR ?_ (fun M1 h1 => roM (sm_loss0 3 M1 x (by rw [h1.1]; exact h)))
    refine ae_enter (z := zX10_loss) (y := yX10_loss) (cc := cX10_loss) (mL := 2) (rt := some .int) (ci := 10) (st := false) (np := 1) (L := [some (.ref 0), some (.int x)]) rfl (by decide) (Nat.le_of_ble_eq_true rfl) rfl ?_
    refine ae_aload_n (pc := 0) dX10_loss_0 rfl ?_
    refine ae_getR (pc := 1) (k := 0) (c := 10) (j := 0) (q := 1) dX10_loss_1 rfl rfl (Nat.le_of_ble_eq_true rfl) rfl (Nat.le_of_ble_eq_true rfl) rfl ?_
    refine ae_iload_n (pc := 4) dX10_loss_4 rfl ?_
    refine ae_pcallV (pc := 5) (z := zX7_hasEntry) (k := 1) (As := [_]) dX10_loss_5 rfl rfl rfl rfl (Nat.le_of_ble_eq_true rfl) rfl (Nat.le_of_ble_eq_true rfl) (Nat.le_of_ble_eq_true rfl) (hhe) ?_
    refine ae_if_ne (pc := 8) (t := 14) dX10_loss_8 (by decide) (fun c8 => ?_) (fun c8 => ?_)
    · exact absurd rfl c8
    refine ae_bipush (pc := 11) (v := (-2)) dX10_loss_11 (by decide) ?_
    refine ae_ireturn (pc := 13) dX10_loss_13 rfl ?_
    exact ⟨rfl, hg, FR_refl M⟩
theorem st_cheapest (M : am_M) (hI : INV M) : STEP M zX10_cheapest [.ref 0] zX11_cheapest [.ref 33] := by
  obtain ⟨f, u, past, n, t, hC, hR⟩ := hI
  obtain ⟨hf, hg, hh, ht⟩ := id hC
  have hN := hf.1.2.2.2
  obtain ⟨-, -, a3⟩ := AG_w hg hf.1
  by_cases h : 2 ≤ fN f
  · refine stepR (r := oI (chp f (fN f))) hC hR ?_ (fun M1 h1 => ?_)
    · refine ae_enter (z := zX10_cheapest) (y := yX10_cheapest) (cc := cX10_cheapest) (mL := 1) (rt := some .int) (ci := 10) (st := false) (np := 0) (L := [some (.ref 0)]) rfl (by decide) (Nat.le_of_ble_eq_true rfl) rfl ?_
      refine ae_aload_n (pc := 0) dX10_cheapest_0 rfl ?_
      refine ae_getR (pc := 1) (k := 0) (c := 10) (j := 0) (q := 1) dX10_cheapest_1 rfl rfl (Nat.le_of_ble_eq_true rfl) rfl (Nat.le_of_ble_eq_true rfl) rfl ?_
      refine ae_getI (pc := 4) (k := 1) (c := 7) (j := 3) (v := nI (fN f)) dX10_cheapest_4 rfl rfl (Or.inl rfl) (Nat.le_of_ble_eq_true rfl) rfl (Nat.le_of_ble_eq_true rfl) a3 ?_
      refine ae_iconst (pc := 7) (v := nI 2) dX10_cheapest_7 (by decide) ?_
      refine ae_icmp_ge (pc := 8) (t := 14) dX10_cheapest_8 (by decide) (fun c8 => ?_) (fun c8 => ?_)
      rotate_left
      · exact absurd ((nI_leI (by decide) (by omega)).mpr h) c8
      refine ae_aload_n (pc := 14) dX10_cheapest_14 rfl ?_
      refine ae_getR (pc := 15) (k := 0) (c := 10) (j := 4) (q := 16) dX10_cheapest_15 rfl rfl (Nat.le_of_ble_eq_true rfl) rfl (Nat.le_of_ble_eq_true rfl) rfl ?_
      refine ae_callV (pc := 18) (z := zX8_takeStock) (k := 16) (As := []) dX10_cheapest_18 rfl rfl rfl rfl (Nat.le_of_ble_eq_true rfl) rfl (Nat.le_of_ble_eq_true rfl) (Nat.le_of_ble_eq_true rfl) (sc_takeStock 4 M f hg hf) (fun v M' hq => ?_)
      obtain ⟨rfl, hsv⟩ := hq
      obtain ⟨hg1, fr1, -, -, sf⟩ := SV_of hg hsv
      refine ae_aload_n (pc := 21) dX10_cheapest_21 rfl ?_
      refine ae_getR (pc := 22) (k := 0) (c := 10) (j := 4) (q := 16) dX10_cheapest_22 rfl rfl (Nat.le_of_ble_eq_true rfl) rfl (Nat.le_of_ble_eq_true rfl) rfl ?_
      refine ae_pcallV (pc := 25) (z := zX8_cheapestEntry) (k := 16) (As := []) dX10_cheapest_25 rfl rfl rfl rfl (Nat.le_of_ble_eq_true rfl) rfl (Nat.le_of_ble_eq_true rfl) (Nat.le_of_ble_eq_true rfl) (sc_cheapestEntry 6 M' f hg1 hf h (fun e he => sf.2.2.2 h e he)) ?_
      refine ae_ireturn (pc := 28) dX10_cheapest_28 rfl ?_
      exact ⟨rfl, hg1, fr1⟩
    · have := sm_cheapest 3 M1 (by rw [h1.1]; exact hf.1) (by rw [h1.1]; exact h)
      rw [h1.1] at this
      exact roM this
  · refine stepR (r := -3) hC hR ?_ (fun M1 h1 => roM (sm_cheapest0 3 M1 (by rw [h1.1]; exact hf.1) (by rw [h1.1]; omega)))
    refine ae_enter (z := zX10_cheapest) (y := yX10_cheapest) (cc := cX10_cheapest) (mL := 1) (rt := some .int) (ci := 10) (st := false) (np := 0) (L := [some (.ref 0)]) rfl (by decide) (Nat.le_of_ble_eq_true rfl) rfl ?_
    refine ae_aload_n (pc := 0) dX10_cheapest_0 rfl ?_
    refine ae_getR (pc := 1) (k := 0) (c := 10) (j := 0) (q := 1) dX10_cheapest_1 rfl rfl (Nat.le_of_ble_eq_true rfl) rfl (Nat.le_of_ble_eq_true rfl) rfl ?_
    refine ae_getI (pc := 4) (k := 1) (c := 7) (j := 3) (v := nI (fN f)) dX10_cheapest_4 rfl rfl (Or.inl rfl) (Nat.le_of_ble_eq_true rfl) rfl (Nat.le_of_ble_eq_true rfl) a3 ?_
    refine ae_iconst (pc := 7) (v := nI 2) dX10_cheapest_7 (by decide) ?_
    refine ae_icmp_ge (pc := 8) (t := 14) dX10_cheapest_8 (by decide) (fun c8 => ?_) (fun c8 => ?_)
    · exact absurd ((nI_leI (by decide) (by omega)).mp c8) h
    · refine ae_bipush (pc := 11) (v := (-3)) dX10_cheapest_11 (by decide) ?_
      refine ae_ireturn (pc := 13) dX10_cheapest_13 rfl ?_
      exact ⟨rfl, hg, FR_refl M⟩
theorem st_gain (M : am_M) (hI : INV M) (x : Int32) : STEP M zX10_gain [.ref 0, .int x] zX11_gain [.ref 33, .int x] := by
  obtain ⟨f, u, past, n, t, hC, hR⟩ := hI
  obtain ⟨hf, hg, hh, ht⟩ := id hC
  have hN := hf.1.2.2.2
  obtain ⟨-, -, a3⟩ := AG_w hg hf.1
  have hm : ∀ M1, RI M1 f u past n t → am_R 8 zX11_gain [.ref 33, .int x] M1 (fun w M2 => w = some (.int (if 0 ≤ x ∧ x ≤ 16777215 then (if fN f = 0 then -3 else gsum f x (fA f)) else -2)) ∧ RK M1 M2) := by
    intro M1 h1
    have := sm_gain 2 M1 (by rw [h1.1]; exact hf.1) x
    rw [h1.1] at this
    exact roM this
  refine stepR hC hR ?_ hm
  by_cases h : 0 ≤ x ∧ x ≤ 16777215
  · rw [if_pos h]
    by_cases hz : fN f = 0
    · rw [if_pos hz]
      rw [hz] at a3
      refine ae_enter (z := zX10_gain) (y := yX10_gain) (cc := cX10_gain) (mL := 2) (rt := some .int) (ci := 10) (st := false) (np := 1) (L := [some (.ref 0), some (.int x)]) rfl (by decide) (Nat.le_of_ble_eq_true rfl) rfl ?_
      refine ae_iload_n (pc := 0) dX10_gain_0 rfl ?_
      refine ae_pcallS (pc := 1) (z := zX10_isColor) (As := [_]) dX10_gain_1 rfl rfl rfl rfl (Nat.le_of_ble_eq_true rfl) (sc_isColor 5 _ _) ?_
      refine ae_if_ne (pc := 4) (t := 10) dX10_gain_4 (by decide) (fun c4 => ?_) (fun c4 => ?_)
      rotate_left
      · exact absurd h (bI_eq0.mp (Classical.not_not.mp c4))
      refine ae_aload_n (pc := 10) dX10_gain_10 rfl ?_
      refine ae_getR (pc := 11) (k := 0) (c := 10) (j := 0) (q := 1) dX10_gain_11 rfl rfl (Nat.le_of_ble_eq_true rfl) rfl (Nat.le_of_ble_eq_true rfl) rfl ?_
      refine ae_getI (pc := 14) (k := 1) (c := 7) (j := 3) (v := nI 0) dX10_gain_14 rfl rfl (Or.inl rfl) (Nat.le_of_ble_eq_true rfl) rfl (Nat.le_of_ble_eq_true rfl) a3 ?_
      refine ae_if_ne (pc := 17) (t := 23) dX10_gain_17 (by decide) (fun c17 => ?_) (fun c17 => ?_)
      · exact absurd rfl c17
      refine ae_bipush (pc := 20) (v := (-3)) dX10_gain_20 (by decide) ?_
      refine ae_ireturn (pc := 22) dX10_gain_22 rfl ?_
      exact ⟨rfl, hg, FR_refl M⟩
    · rw [if_neg hz]
      refine ae_enter (z := zX10_gain) (y := yX10_gain) (cc := cX10_gain) (mL := 2) (rt := some .int) (ci := 10) (st := false) (np := 1) (L := [some (.ref 0), some (.int x)]) rfl (by decide) (Nat.le_of_ble_eq_true rfl) rfl ?_
      refine ae_iload_n (pc := 0) dX10_gain_0 rfl ?_
      refine ae_pcallS (pc := 1) (z := zX10_isColor) (As := [_]) dX10_gain_1 rfl rfl rfl rfl (Nat.le_of_ble_eq_true rfl) (sc_isColor 5 _ _) ?_
      refine ae_if_ne (pc := 4) (t := 10) dX10_gain_4 (by decide) (fun c4 => ?_) (fun c4 => ?_)
      rotate_left
      · exact absurd h (bI_eq0.mp (Classical.not_not.mp c4))
      refine ae_aload_n (pc := 10) dX10_gain_10 rfl ?_
      refine ae_getR (pc := 11) (k := 0) (c := 10) (j := 0) (q := 1) dX10_gain_11 rfl rfl (Nat.le_of_ble_eq_true rfl) rfl (Nat.le_of_ble_eq_true rfl) rfl ?_
      refine ae_getI (pc := 14) (k := 1) (c := 7) (j := 3) (v := nI (fN f)) dX10_gain_14 rfl rfl (Or.inl rfl) (Nat.le_of_ble_eq_true rfl) rfl (Nat.le_of_ble_eq_true rfl) a3 ?_
      refine ae_if_ne (pc := 17) (t := 23) dX10_gain_17 (by decide) (fun c17 => ?_) (fun c17 => ?_)
      rotate_left
      · exact absurd (Classical.not_not.mp c17) (nI_ne0 (by omega) (by omega))
      refine ae_aload_n (pc := 23) dX10_gain_23 rfl ?_
      refine ae_getR (pc := 24) (k := 0) (c := 10) (j := 4) (q := 16) dX10_gain_24 rfl rfl (Nat.le_of_ble_eq_true rfl) rfl (Nat.le_of_ble_eq_true rfl) rfl ?_
      refine ae_callV (pc := 27) (z := zX8_takeStock) (k := 16) (As := []) dX10_gain_27 rfl rfl rfl rfl (Nat.le_of_ble_eq_true rfl) rfl (Nat.le_of_ble_eq_true rfl) (Nat.le_of_ble_eq_true rfl) (sc_takeStock 4 M f hg hf) (fun v M' hq => ?_)
      obtain ⟨rfl, hsv⟩ := hq
      obtain ⟨hg1, fr1, -, -, sf⟩ := SV_of hg hsv
      refine ae_aload_n (pc := 30) dX10_gain_30 rfl ?_
      refine ae_getR (pc := 31) (k := 0) (c := 10) (j := 4) (q := 16) dX10_gain_31 rfl rfl (Nat.le_of_ble_eq_true rfl) rfl (Nat.le_of_ble_eq_true rfl) rfl ?_
      refine ae_iload_n (pc := 34) dX10_gain_34 rfl ?_
      refine ae_pcallV (pc := 35) (z := zX8_gainOf) (k := 16) (As := [_]) dX10_gain_35 rfl rfl rfl rfl (Nat.le_of_ble_eq_true rfl) rfl (Nat.le_of_ble_eq_true rfl) (Nat.le_of_ble_eq_true rfl) (sc_gainOf 5 M' f hg1 hf (by omega) (fun q hq => (sf.2.1 q hq).2) x (okc_of h)) ?_
      refine ae_ireturn (pc := 38) dX10_gain_38 rfl ?_
      exact ⟨rfl, hg1, fr1⟩
  · rw [if_neg h]
    refine ae_enter (z := zX10_gain) (y := yX10_gain) (cc := cX10_gain) (mL := 2) (rt := some .int) (ci := 10) (st := false) (np := 1) (L := [some (.ref 0), some (.int x)]) rfl (by decide) (Nat.le_of_ble_eq_true rfl) rfl ?_
    refine ae_iload_n (pc := 0) dX10_gain_0 rfl ?_
    refine ae_pcallS (pc := 1) (z := zX10_isColor) (As := [_]) dX10_gain_1 rfl rfl rfl rfl (Nat.le_of_ble_eq_true rfl) (sc_isColor 5 _ _) ?_
    refine ae_if_ne (pc := 4) (t := 10) dX10_gain_4 (by decide) (fun c4 => ?_) (fun c4 => ?_)
    · exact absurd (bI_ne0.mp c4) h
    refine ae_bipush (pc := 7) (v := (-2)) dX10_gain_7 (by decide) ?_
    refine ae_ireturn (pc := 9) dX10_gain_9 rfl ?_
    exact ⟨rfl, hg, FR_refl M⟩
theorem st_bestAddition (M : am_M) (hI : INV M) : STEP M zX10_bestAddition [.ref 0] zX11_bestAddition [.ref 33] := by
  obtain ⟨f, u, past, n, t, hC, hR⟩ := hI
  obtain ⟨hf, hg, hh, ht⟩ := id hC
  have hN := hf.1.2.2.2
  have hA := fA_le hf.1
  obtain ⟨-, -, a3⟩ := AG_w hg hf.1
  by_cases hz : fN f = 0
  · rw [hz] at a3
    refine stepR (r := -3) hC hR ?_ (fun M1 h1 => roM (sm_bestAddition0 7 M1 (by rw [h1.1]; exact hf.1) (by rw [h1.1]; exact hz)))
    refine ae_enter (z := zX10_bestAddition) (y := yX10_bestAddition) (cc := cX10_bestAddition) (mL := 5) (rt := some .int) (ci := 10) (st := false) (np := 0) (L := [some (.ref 0), none, none, none, none]) rfl (by decide) (Nat.le_of_ble_eq_true rfl) rfl ?_
    refine ae_aload_n (pc := 0) dX10_bestAddition_0 rfl ?_
    refine ae_getR (pc := 1) (k := 0) (c := 10) (j := 0) (q := 1) dX10_bestAddition_1 rfl rfl (Nat.le_of_ble_eq_true rfl) rfl (Nat.le_of_ble_eq_true rfl) rfl ?_
    refine ae_getI (pc := 4) (k := 1) (c := 7) (j := 3) (v := nI 0) dX10_bestAddition_4 rfl rfl (Or.inl rfl) (Nat.le_of_ble_eq_true rfl) rfl (Nat.le_of_ble_eq_true rfl) a3 ?_
    refine ae_if_ne (pc := 7) (t := 13) dX10_bestAddition_7 (by decide) (fun c7 => ?_) (fun c7 => ?_)
    · exact absurd rfl c7
    refine ae_bipush (pc := 10) (v := (-3)) dX10_bestAddition_10 (by decide) ?_
    refine ae_ireturn (pc := 12) dX10_bestAddition_12 rfl ?_
    exact ⟨rfl, hg, FR_refl M⟩
  · show am_R 8 _ _ M _
    refine ae_enter (z := zX10_bestAddition) (y := yX10_bestAddition) (cc := cX10_bestAddition) (mL := 5) (rt := some .int) (ci := 10) (st := false) (np := 0) (L := [some (.ref 0), none, none, none, none]) rfl (by decide) (Nat.le_of_ble_eq_true rfl) rfl ?_
    refine ae_aload_n (pc := 0) dX10_bestAddition_0 rfl ?_
    refine ae_getR (pc := 1) (k := 0) (c := 10) (j := 0) (q := 1) dX10_bestAddition_1 rfl rfl (Nat.le_of_ble_eq_true rfl) rfl (Nat.le_of_ble_eq_true rfl) rfl ?_
    refine ae_getI (pc := 4) (k := 1) (c := 7) (j := 3) (v := nI (fN f)) dX10_bestAddition_4 rfl rfl (Or.inl rfl) (Nat.le_of_ble_eq_true rfl) rfl (Nat.le_of_ble_eq_true rfl) a3 ?_
    refine ae_if_ne (pc := 7) (t := 13) dX10_bestAddition_7 (by decide) (fun c7 => ?_) (fun c7 => ?_)
    rotate_left
    · exact absurd (Classical.not_not.mp c7) (nI_ne0 (by omega) (by omega))
    refine ae_aload_n (pc := 13) dX10_bestAddition_13 rfl ?_
    refine ae_getR (pc := 14) (k := 0) (c := 10) (j := 3) (q := 12) dX10_bestAddition_14 rfl rfl (Nat.le_of_ble_eq_true rfl) rfl (Nat.le_of_ble_eq_true rfl) rfl ?_
    refine ae_callV (pc := 17) (z := zX1_collect) (k := 12) (As := []) dX10_bestAddition_17 rfl rfl rfl rfl (Nat.le_of_ble_eq_true rfl) rfl (Nat.le_of_ble_eq_true rfl) (Nat.le_of_ble_eq_true rfl) (sc_collect 5 M f hg hf) (fun v M' hq => ?_)
    obtain ⟨rfl, n', K, h', m', rfl, hH⟩ := hq
    skip
    have hg1 := AG_hg hg K (upd (M.1 12) 4 (nI n')) h' m'
    have fr1 := FR_hg M K (upd (M.1 12) 4 (nI n')) h' m'
    have e12 : (hgM M K (upd (M.1 12) 4 (nI n')) h' m').1 12 4 = nI n' := by rw [hgM_12, upd_self]
    have e14 : (hgM M K (upd (M.1 12) 4 (nI n')) h' m').1 14 = h' := hgM_14 _ _ _ _ _
    generalize hgM M K (upd (M.1 12) 4 (nI n')) h' m' = M1 at *
    refine ae_aload_n (pc := 20) dX10_bestAddition_20 rfl ?_
    refine ae_getR (pc := 21) (k := 0) (c := 10) (j := 4) (q := 16) dX10_bestAddition_21 rfl rfl (Nat.le_of_ble_eq_true rfl) rfl (Nat.le_of_ble_eq_true rfl) rfl ?_
    refine ae_callV (pc := 24) (z := zX8_takeStock) (k := 16) (As := []) dX10_bestAddition_24 rfl rfl rfl rfl (Nat.le_of_ble_eq_true rfl) rfl (Nat.le_of_ble_eq_true rfl) (Nat.le_of_ble_eq_true rfl) (sc_takeStock 4 M1 f hg1 hf) (fun v M2 hq => ?_)
    obtain ⟨rfl, hsv⟩ := hq
    obtain ⟨hg2, fr2, -, nr2, sf⟩ := SV_of hg1 hsv
    have f12 : M2.1 12 4 = nI n' := by rw [nr2 12 (by omega)]; exact e12
    have f14 : M2.1 14 = h' := by rw [nr2 14 (by omega)]; exact e14
    have hle := hH.1.1
    have lp : am_E none (am_R 7) cX10_bestAddition 10 (some .int) (fun v M1 => ∃ r, v = some (.int r) ∧ am_R 8 zX11_bestAddition [.ref 33] M1 (fun w M2 => w = some (.int r) ∧ INV M2)) (33, [some (.ref 0), some (.int (cba f h' 0).1), some (.int (cba f h' 0).2), some (.int (nI 0)), none], [], M2) := by
      refine am_down (P := fun k => am_E none (am_R 7) cX10_bestAddition 10 (some .int) _ (33, [some (.ref 0), some (.int (cba f h' k).1), some (.int (cba f h' k).2), some (.int (nI k)), none], [], M2)) n' (fun k hk ih => ?_)
      refine ae_iload_n (pc := 33) dX10_bestAddition_33 rfl ?_
      refine ae_aload_n (pc := 34) dX10_bestAddition_34 rfl ?_
      refine ae_getR (pc := 35) (k := 0) (c := 10) (j := 3) (q := 12) dX10_bestAddition_35 rfl rfl (Nat.le_of_ble_eq_true rfl) rfl (Nat.le_of_ble_eq_true rfl) rfl ?_
      refine ae_getI (pc := 38) (k := 12) (c := 1) (j := 4) (v := nI n') dX10_bestAddition_38 rfl rfl (Or.inl rfl) (Nat.le_of_ble_eq_true rfl) rfl (Nat.le_of_ble_eq_true rfl) f12 ?_
      refine ae_icmp_ge (pc := 41) (t := 87) dX10_bestAddition_41 (by decide) (fun c41 => ?_) (fun c41 => ?_)
      · have hk2 : k = n' := by rw [nI_leI (by omega) (by omega)] at c41; omega
        subst hk2
        refine ae_iload_n (pc := 87) dX10_bestAddition_87 rfl ?_
        refine ae_ireturn (pc := 88) dX10_bestAddition_88 rfl ?_
        refine ⟨_, rfl, ?_⟩
        have fr := FR_tr fr1 fr2
        have hR1 := RI_RS hR (RS_FR fr)
        have := sm_bestAddition 2 M2 (by rw [hR1.1]; exact hf.1) (by rw [hR1.1]; omega)
        rw [hR1.1] at this
        refine this.mono (fun v M3 q => ?_)
        obtain ⟨n3, h3, m3, q1, q2, rfl⟩ := q
        exact ⟨by rw [q2, ba_eq hf q1 hH.1 hH.2], f, u, past, n, t, CK_QS (CK_FR hC hg2 hf fr) (RK_ga _ _ _ _).2, RI_RK hR1 (RK_ga _ _ _ _)⟩
      · have hk2 : k < n' := by rw [nI_leI (by omega) (by omega)] at c41; omega
        have ih2 := ih hk2
        rw [cba_s] at ih2
        obtain ⟨c, w, c1, c2, -⟩ := GA_c hf hH.1 hk2
        have hgn := sc_gainOf 5 M2 f hg2 hf (by omega) (fun q hq => (sf.2.1 q hq).2) (h' k) ⟨c, c1, c2⟩
        refine ae_aload_n (pc := 44) dX10_bestAddition_44 rfl ?_
        refine ae_getR (pc := 45) (k := 0) (c := 10) (j := 4) (q := 16) dX10_bestAddition_45 rfl rfl (Nat.le_of_ble_eq_true rfl) rfl (Nat.le_of_ble_eq_true rfl) rfl ?_
        refine ae_aload_n (pc := 48) dX10_bestAddition_48 rfl ?_
        refine ae_getR (pc := 49) (k := 0) (c := 10) (j := 3) (q := 12) dX10_bestAddition_49 rfl rfl (Nat.le_of_ble_eq_true rfl) rfl (Nat.le_of_ble_eq_true rfl) rfl ?_
        refine ae_getR (pc := 52) (k := 12) (c := 1) (j := 2) (q := 14) dX10_bestAddition_52 rfl rfl (Nat.le_of_ble_eq_true rfl) rfl (Nat.le_of_ble_eq_true rfl) rfl ?_
        refine ae_iload_n (pc := 55) dX10_bestAddition_55 rfl ?_
        refine ae_iaload (pc := 56) (k := 14) (N := 256) (v := h' k) (k) dX10_bestAddition_56 (Nat.le_of_ble_eq_true rfl) rfl rfl rfl (by omega) (by rw [f14]) ?_
        refine ae_pcallV (pc := 57) (z := zX8_gainOf) (k := 16) (As := [_]) dX10_bestAddition_57 rfl rfl rfl rfl (Nat.le_of_ble_eq_true rfl) rfl (Nat.le_of_ble_eq_true rfl) (Nat.le_of_ble_eq_true rfl) (hgn) ?_
        refine ae_istore (pc := 60) dX10_bestAddition_60 rfl (Nat.le_of_ble_eq_true rfl) ?_
        refine ae_iload (pc := 62) dX10_bestAddition_62 rfl ?_
        refine ae_iload_n (pc := 64) dX10_bestAddition_64 rfl ?_
        refine ae_icmp_le (pc := 65) (t := 81) dX10_bestAddition_65 (by decide) (fun c65 => ?_) (fun c65 => ?_)
        · rw [if_neg (Int32.not_lt.mpr c65)] at ih2
          refine ae_iinc (pc := 81) (v := nI (k + 1)) dX10_bestAddition_81 rfl (nI_inc k) ?_
          refine ae_goto (pc := 84) (t := 33) dX10_bestAddition_84 (by decide) ?_
          exact ae_forget [4] rfl ih2
        · rw [if_pos (Int32.not_le.mp c65)] at ih2
          refine ae_aload_n (pc := 68) dX10_bestAddition_68 rfl ?_
          refine ae_getR (pc := 69) (k := 0) (c := 10) (j := 3) (q := 12) dX10_bestAddition_69 rfl rfl (Nat.le_of_ble_eq_true rfl) rfl (Nat.le_of_ble_eq_true rfl) rfl ?_
          refine ae_getR (pc := 72) (k := 12) (c := 1) (j := 2) (q := 14) dX10_bestAddition_72 rfl rfl (Nat.le_of_ble_eq_true rfl) rfl (Nat.le_of_ble_eq_true rfl) rfl ?_
          refine ae_iload_n (pc := 75) dX10_bestAddition_75 rfl ?_
          refine ae_iaload (pc := 76) (k := 14) (N := 256) (v := h' k) (k) dX10_bestAddition_76 (Nat.le_of_ble_eq_true rfl) rfl rfl rfl (by omega) (by rw [f14]) ?_
          refine ae_istore_n (pc := 77) dX10_bestAddition_77 rfl (Nat.le_of_ble_eq_true rfl) ?_
          refine ae_iload (pc := 78) dX10_bestAddition_78 rfl ?_
          refine ae_istore_n (pc := 80) dX10_bestAddition_80 rfl (Nat.le_of_ble_eq_true rfl) ?_
          refine ae_iinc (pc := 81) (v := nI (k + 1)) dX10_bestAddition_81 rfl (nI_inc k) ?_
          refine ae_goto (pc := 84) (t := 33) dX10_bestAddition_84 (by decide) ?_
          exact ae_forget [4] rfl ih2
    refine ae_iconst (pc := 27) (v := (-1)) dX10_bestAddition_27 (by decide) ?_
    refine ae_istore_n (pc := 28) dX10_bestAddition_28 rfl (Nat.le_of_ble_eq_true rfl) ?_
    refine ae_iconst (pc := 29) (v := (-1)) dX10_bestAddition_29 (by decide) ?_
    refine ae_istore_n (pc := 30) dX10_bestAddition_30 rfl (Nat.le_of_ble_eq_true rfl) ?_
    refine ae_iconst (pc := 31) (v := nI 0) dX10_bestAddition_31 (by decide) ?_
    refine ae_istore_n (pc := 32) dX10_bestAddition_32 rfl (Nat.le_of_ble_eq_true rfl) ?_
    exact lp
theorem st_undo (M : am_M) (hI : INV M) : STEP M zX10_undo [.ref 0] zX11_undo [.ref 33] := by
  obtain ⟨f, u, past, n, t, hC, hR⟩ := hI
  obtain ⟨hf, hg, hh, ht⟩ := id hC
  cases u with
  | zero =>
    refine stepR (r := -3) hC hR ?_ (fun M1 h1 => roM (sm_undo0 7 M1 h1.2.1))
    refine ae_enter (z := zX10_undo) (y := yX10_undo) (cc := cX10_undo) (mL := 1) (rt := some .int) (ci := 10) (st := false) (np := 0) (L := [some (.ref 0)]) rfl (by decide) (Nat.le_of_ble_eq_true rfl) rfl ?_
    refine ae_aload_n (pc := 0) dX10_undo_0 rfl ?_
    refine ae_getR (pc := 1) (k := 0) (c := 10) (j := 1) (q := 6) dX10_undo_1 rfl rfl (Nat.le_of_ble_eq_true rfl) rfl (Nat.le_of_ble_eq_true rfl) rfl ?_
    refine ae_aload_n (pc := 4) dX10_undo_4 rfl ?_
    refine ae_getR (pc := 5) (k := 0) (c := 10) (j := 0) (q := 1) dX10_undo_5 rfl rfl (Nat.le_of_ble_eq_true rfl) rfl (Nat.le_of_ble_eq_true rfl) rfl ?_
    refine ae_pcallV (pc := 8) (z := zX2_restore) (k := 6) (As := [_]) dX10_undo_8 rfl rfl rfl rfl (Nat.le_of_ble_eq_true rfl) rfl (Nat.le_of_ble_eq_true rfl) (Nat.le_of_ble_eq_true rfl) (sc_restore0 5 M past hh) ?_
    refine ae_if_eq (pc := 11) (t := 24) dX10_undo_11 (by decide) (fun c11 => ?_) (fun c11 => ?_)
    rotate_left
    · exact absurd rfl c11
    refine ae_bipush (pc := 24) (v := (-3)) dX10_undo_24 (by decide) ?_
    refine ae_ireturn (pc := 26) dX10_undo_26 rfl ?_
    exact ⟨rfl, hg, FR_refl M⟩
  | succ w =>
    have hw := hh.1
    refine comb (r := nI w) (f' := udF past f w 549) (u' := w) (past' := past) (n' := n) (t' := t) hR ?_ (fun M1 h1 => ?_)
    · have hrs := sc_restore 5 M w past f hh
      refine ae_enter (z := zX10_undo) (y := yX10_undo) (cc := cX10_undo) (mL := 1) (rt := some .int) (ci := 10) (st := false) (np := 0) (L := [some (.ref 0)]) rfl (by decide) (Nat.le_of_ble_eq_true rfl) rfl ?_
      refine ae_aload_n (pc := 0) dX10_undo_0 rfl ?_
      refine ae_getR (pc := 1) (k := 0) (c := 10) (j := 1) (q := 6) dX10_undo_1 rfl rfl (Nat.le_of_ble_eq_true rfl) rfl (Nat.le_of_ble_eq_true rfl) rfl ?_
      refine ae_aload_n (pc := 4) dX10_undo_4 rfl ?_
      refine ae_getR (pc := 5) (k := 0) (c := 10) (j := 0) (q := 1) dX10_undo_5 rfl rfl (Nat.le_of_ble_eq_true rfl) rfl (Nat.le_of_ble_eq_true rfl) rfl ?_
      refine ae_callV (pc := 8) (z := zX2_restore) (k := 6) (As := [_]) dX10_undo_8 rfl rfl rfl rfl (Nat.le_of_ble_eq_true rfl) rfl (Nat.le_of_ble_eq_true rfl) (Nat.le_of_ble_eq_true rfl) (hrs) (fun v M' hq => ?_)
      obtain ⟨rfl, q1, q2, q3, q4, q5⟩ := hq
      refine ae_if_eq (pc := 11) (t := 24) dX10_undo_11 (by decide) (fun c11 => ?_) (fun c11 => ?_)
      · exact absurd c11 (by decide)
      refine ae_aload_n (pc := 14) dX10_undo_14 rfl ?_
      refine ae_getR (pc := 15) (k := 0) (c := 10) (j := 1) (q := 6) dX10_undo_15 rfl rfl (Nat.le_of_ble_eq_true rfl) rfl (Nat.le_of_ble_eq_true rfl) rfl ?_
      refine ae_getI (pc := 18) (k := 6) (c := 2) (j := 2) (v := nI w) dX10_undo_18 rfl rfl (Or.inl rfl) (Nat.le_of_ble_eq_true rfl) rfl (Nat.le_of_ble_eq_true rfl) (q1.2.1) ?_
      refine ae_goto (pc := 21) (t := 26) dX10_undo_21 (by decide) ?_
      refine ae_ireturn (pc := 26) dX10_undo_26 rfl ?_
      exact ⟨rfl, ⟨q3, q2, q1, TX_ne ht (q5 8 (by omega)) (q5 9 (by omega))⟩, fun k a b => q5 k (by omega)⟩
    · obtain ⟨r1, r2, r3, r4, r5⟩ := h1
      have := sm_undo 7 M1 w r2 (by omega)
      rw [r1, r3] at this
      refine this.mono (fun v M2 q => ?_)
      obtain ⟨q1, rfl⟩ := q
      refine ⟨q1, ⟨rw34_34 _ _, ?_, ?_, ?_, ?_⟩, fun k hk => ?_⟩
      · rw [rw34_ne _ _ (by decide)]; simp [am_u, upd]
      · rw [rw34_ne _ _ (by decide)]; simp [am_u]; exact r3
      · rw [rw34_ne _ _ (by decide)]; simp [am_u, upd]; exact r4
      · rw [rw34_ne _ _ (by decide)]; simp [am_u]; exact r5
      · rw [rw34_ne _ _ (by omega)]; exact am_u_ne M1.1 _ (by omega)

