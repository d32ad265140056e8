theorem sc_hasEntryR (d : Nat) (M : am_M) (f : fT) (hf : wf0 f) (h3 : M.1 1 3 = nI (fN f)) (x : Int32) : am_R (d + 1) zX7_hasEntry [.ref 1, .int x] M (fun v M' => v = some (.int (bI (inE f x))) ∧ M' = M) := by
  refine ae_enter (z := zX7_hasEntry) (y := yX7_hasEntry) (cc := cX7_hasEntry) (mL := 2) (rt := some .boolean) (ci := 7) (st := false) (np := 1) (L := [some (.ref 1), some (.int x)]) rfl (by decide) (Nat.le_of_ble_eq_true rfl) rfl ?_
  have hi := inE_iff hf x
  refine ae_iload_n (pc := 0) dX7_hasEntry_0 rfl ?_
  refine ae_if_lt (pc := 1) (t := 16) dX7_hasEntry_1 (by decide) (fun c1 => ?_) (fun c1 => ?_)
  · refine ae_iconst (pc := 16) (v := nI 0) dX7_hasEntry_16 (by decide) ?_
    refine ae_zreturn (pc := 17) dX7_hasEntry_17 rfl (by decide) ?_
    first | exact And.intro (bret_f (fun q => ((hi.mp q).1) c1)) rfl | exact And.intro (bret_f (fun q => ((hi.mp q).2) c9)) rfl | exact And.intro (bret_t (hi.mpr (And.intro c1 c9))) rfl
  · refine ae_iload_n (pc := 4) dX7_hasEntry_4 rfl ?_
    refine ae_aload_n (pc := 5) dX7_hasEntry_5 rfl ?_
    refine ae_getI (pc := 6) (k := 1) (c := 7) (j := 3) (v := nI (fN f)) dX7_hasEntry_6 rfl rfl (Or.inl rfl) (Nat.le_of_ble_eq_true rfl) rfl (Nat.le_of_ble_eq_true rfl) h3 ?_
    refine ae_icmp_ge (pc := 9) (t := 16) dX7_hasEntry_9 (by decide) (fun c9 => ?_) (fun c9 => ?_)
    · refine ae_iconst (pc := 16) (v := nI 0) dX7_hasEntry_16 (by decide) ?_
      refine ae_zreturn (pc := 17) dX7_hasEntry_17 rfl (by decide) ?_
      first | exact And.intro (bret_f (fun q => ((hi.mp q).1) c1)) rfl | exact And.intro (bret_f (fun q => ((hi.mp q).2) c9)) rfl | exact And.intro (bret_t (hi.mpr (And.intro c1 c9))) rfl
    · refine ae_iconst (pc := 12) (v := nI 1) dX7_hasEntry_12 (by decide) ?_
      refine ae_goto (pc := 13) (t := 17) dX7_hasEntry_13 (by decide) ?_
      refine ae_zreturn (pc := 17) dX7_hasEntry_17 rfl (by decide) ?_
      first | exact And.intro (bret_f (fun q => ((hi.mp q).1) c1)) rfl | exact And.intro (bret_f (fun q => ((hi.mp q).2) c9)) rfl | exact And.intro (bret_t (hi.mpr (And.intro c1 c9))) rfl
theorem sc_rankOf_0 (d : Nat) (M : am_M) (f srv : fT) (hg : AG M f) (hf : wf f) (e : Nat) (he : e < fN f) (b : Int32) (bh : Option Nat) : am_R (d + 2) zX0_rankOf [.ref 27, .int (nI e), .int (nI 0), .int b] M (fun v M' => v = some (.int (keyF f srv 0 bh e)) ∧ M' = M) := by
  refine ae_enter (z := zX0_rankOf) (y := yX0_rankOf) (cc := cX0_rankOf) (mL := 5) (rt := some .int) (ci := 0) (st := false) (np := 3) (L := [some (.ref 27), some (.int (nI e)), some (.int (nI 0)), some (.int b), none]) rfl (by decide) (Nat.le_of_ble_eq_true rfl) rfl ?_
  have hN := hf.1.2.2.2
  refine ae_aload_n (pc := 0) dX0_rankOf_0 rfl ?_
  refine ae_getR (pc := 1) (k := 27) (c := 0) (j := 0) (q := 1) dX0_rankOf_1 rfl rfl (Nat.le_of_ble_eq_true rfl) rfl (Nat.le_of_ble_eq_true rfl) rfl ?_
  refine ae_getR (pc := 4) (k := 1) (c := 7) (j := 4) (q := 3) dX0_rankOf_4 rfl rfl (Nat.le_of_ble_eq_true rfl) rfl (Nat.le_of_ble_eq_true rfl) rfl ?_
  refine ae_iload_n (pc := 7) dX0_rankOf_7 rfl ?_
  refine ae_iaload (pc := 8) (k := 3) (N := 16) (v := f (259 + e)) (e) dX0_rankOf_8 (Nat.le_of_ble_eq_true rfl) rfl rfl rfl (by omega) ((hg.2.2.1 e he).1) ?_
  refine ae_istore (pc := 9) dX0_rankOf_9 rfl (Nat.le_of_ble_eq_true rfl) ?_
  refine ae_iload_n (pc := 11) dX0_rankOf_11 rfl ?_
  refine ae_if_ne (pc := 12) (t := 40) dX0_rankOf_12 (by decide) (fun q => absurd q (by decide)) (fun _ => ?_)
  refine ae_iconst (pc := 15) (v := nI 2) dX0_rankOf_15 (by decide) ?_
  refine ae_iload (pc := 16) dX0_rankOf_16 rfl ?_
  refine ae_iconst (pc := 18) (v := nI 0) dX0_rankOf_18 (by decide) ?_
  refine ae_pcallS (pc := 19) (z := zX10_channelOf) (As := [_, _]) dX0_rankOf_19 rfl rfl rfl rfl (Nat.le_of_ble_eq_true rfl) (sc_channelOf d _ _ _) ?_
  refine ae_imul (pc := 22) dX0_rankOf_22 rfl ?_
  refine ae_iconst (pc := 23) (v := nI 5) dX0_rankOf_23 (by decide) ?_
  refine ae_iload (pc := 24) dX0_rankOf_24 rfl ?_
  refine ae_iconst (pc := 26) (v := nI 1) dX0_rankOf_26 (by decide) ?_
  refine ae_pcallS (pc := 27) (z := zX10_channelOf) (As := [_, _]) dX0_rankOf_27 rfl rfl rfl rfl (Nat.le_of_ble_eq_true rfl) (sc_channelOf d _ _ _) ?_
  refine ae_imul (pc := 30) dX0_rankOf_30 rfl ?_
  refine ae_iadd (pc := 31) dX0_rankOf_31 rfl ?_
  refine ae_iload (pc := 32) dX0_rankOf_32 rfl ?_
  refine ae_iconst (pc := 34) (v := nI 2) dX0_rankOf_34 (by decide) ?_
  refine ae_pcallS (pc := 35) (z := zX10_channelOf) (As := [_, _]) dX0_rankOf_35 rfl rfl rfl rfl (Nat.le_of_ble_eq_true rfl) (sc_channelOf d _ _ _) ?_
  refine ae_iadd (pc := 38) dX0_rankOf_38 rfl ?_
  refine ae_ireturn (pc := 39) dX0_rankOf_39 rfl ?_
  exact ⟨rfl, rfl⟩
theorem sc_rankOf_1 (d : Nat) (M : am_M) (f srv : fT) (hg : AG M f) (hf : wf f) (hs : ∀ e, e < 16 → M.1 19 e = srv e) (e : Nat) (he : e < fN f) (b : Int32) (bh : Option Nat) : am_R (d + 2) zX0_rankOf [.ref 27, .int (nI e), .int (nI 1), .int b] M (fun v M' => v = some (.int (keyF f srv 1 bh e)) ∧ M' = M) := by
  refine ae_enter (z := zX0_rankOf) (y := yX0_rankOf) (cc := cX0_rankOf) (mL := 5) (rt := some .int) (ci := 0) (st := false) (np := 3) (L := [some (.ref 27), some (.int (nI e)), some (.int (nI 1)), some (.int b), none]) rfl (by decide) (Nat.le_of_ble_eq_true rfl) rfl ?_
  have hN := hf.1.2.2.2
  refine ae_aload_n (pc := 0) dX0_rankOf_0 rfl ?_
  refine ae_getR (pc := 1) (k := 27) (c := 0) (j := 0) (q := 1) dX0_rankOf_1 rfl rfl (Nat.le_of_ble_eq_true rfl) rfl (Nat.le_of_ble_eq_true rfl) rfl ?_
  refine ae_getR (pc := 4) (k := 1) (c := 7) (j := 4) (q := 3) dX0_rankOf_4 rfl rfl (Nat.le_of_ble_eq_true rfl) rfl (Nat.le_of_ble_eq_true rfl) rfl ?_
  refine ae_iload_n (pc := 7) dX0_rankOf_7 rfl ?_
  refine ae_iaload (pc := 8) (k := 3) (N := 16) (v := f (259 + e)) (e) dX0_rankOf_8 (Nat.le_of_ble_eq_true rfl) rfl rfl rfl (by omega) ((hg.2.2.1 e he).1) ?_
  refine ae_istore (pc := 9) dX0_rankOf_9 rfl (Nat.le_of_ble_eq_true rfl) ?_
  refine ae_iload_n (pc := 11) dX0_rankOf_11 rfl ?_
  refine ae_if_ne (pc := 12) (t := 40) dX0_rankOf_12 (by decide) (fun _ => ?_) (fun q => absurd (by decide) q)
  refine ae_iload_n (pc := 40) dX0_rankOf_40 rfl ?_
  refine ae_iconst (pc := 41) (v := nI 1) dX0_rankOf_41 (by decide) ?_
  refine ae_icmp_ne (pc := 42) (t := 56) dX0_rankOf_42 (by decide) (fun c42 => ?_) (fun c42 => ?_)
  · exact absurd rfl c42
  refine ae_aload_n (pc := 45) dX0_rankOf_45 rfl ?_
  refine ae_getR (pc := 46) (k := 27) (c := 0) (j := 1) (q := 16) dX0_rankOf_46 rfl rfl (Nat.le_of_ble_eq_true rfl) rfl (Nat.le_of_ble_eq_true rfl) rfl ?_
  refine ae_getR (pc := 49) (k := 16) (c := 8) (j := 3) (q := 19) dX0_rankOf_49 rfl rfl (Nat.le_of_ble_eq_true rfl) rfl (Nat.le_of_ble_eq_true rfl) rfl ?_
  refine ae_iload_n (pc := 52) dX0_rankOf_52 rfl ?_
  refine ae_iaload (pc := 53) (k := 19) (N := 16) (v := srv e) (e) dX0_rankOf_53 (Nat.le_of_ble_eq_true rfl) rfl rfl rfl (by omega) (hs e (by omega)) ?_
  refine ae_ineg (pc := 54) dX0_rankOf_54 rfl ?_
  refine ae_ireturn (pc := 55) dX0_rankOf_55 rfl ?_
  exact ⟨rfl, rfl⟩
theorem sc_rankOf_2 (d : Nat) (M : am_M) (f srv : fT) (hg : AG M f) (hf : wf f) (e : Nat) (he : e < fN f) (bh : Option Nat) (hb : ∀ b, bh = some b → b < fN f) : am_R (d + 2) zX0_rankOf [.ref 27, .int (nI e), .int (nI 2), .int (oI bh)] M (fun v M' => v = some (.int (keyF f srv 2 bh e)) ∧ M' = M) := by
  refine ae_enter (z := zX0_rankOf) (y := yX0_rankOf) (cc := cX0_rankOf) (mL := 5) (rt := some .int) (ci := 0) (st := false) (np := 3) (L := [some (.ref 27), some (.int (nI e)), some (.int (nI 2)), some (.int (oI bh)), none]) rfl (by decide) (Nat.le_of_ble_eq_true rfl) rfl ?_
  have hN := hf.1.2.2.2
  have hh := sc_hasEntry d M f hg hf.1 (oI bh)
  cases bh with
  | none =>
    rw [bI_f (fun q => ((inE_iff hf.1 _).mp q).1 (by decide))] at hh
    refine ae_aload_n (pc := 0) dX0_rankOf_0 rfl ?_
    refine ae_getR (pc := 1) (k := 27) (c := 0) (j := 0) (q := 1) dX0_rankOf_1 rfl rfl (Nat.le_of_ble_eq_true rfl) rfl (Nat.le_of_ble_eq_true rfl) rfl ?_
    refine ae_getR (pc := 4) (k := 1) (c := 7) (j := 4) (q := 3) dX0_rankOf_4 rfl rfl (Nat.le_of_ble_eq_true rfl) rfl (Nat.le_of_ble_eq_true rfl) rfl ?_
    refine ae_iload_n (pc := 7) dX0_rankOf_7 rfl ?_
    refine ae_iaload (pc := 8) (k := 3) (N := 16) (v := f (259 + e)) (e) dX0_rankOf_8 (Nat.le_of_ble_eq_true rfl) rfl rfl rfl (by omega) ((hg.2.2.1 e he).1) ?_
    refine ae_istore (pc := 9) dX0_rankOf_9 rfl (Nat.le_of_ble_eq_true rfl) ?_
    refine ae_iload_n (pc := 11) dX0_rankOf_11 rfl ?_
    refine ae_if_ne (pc := 12) (t := 40) dX0_rankOf_12 (by decide) (fun _ => ?_) (fun q => absurd (by decide) q)
    refine ae_iload_n (pc := 40) dX0_rankOf_40 rfl ?_
    refine ae_iconst (pc := 41) (v := nI 1) dX0_rankOf_41 (by decide) ?_
    refine ae_icmp_ne (pc := 42) (t := 56) dX0_rankOf_42 (by decide) (fun c42 => ?_) (fun c42 => ?_)
    rotate_left
    · exact absurd (Classical.not_not.mp c42) (by decide)
    refine ae_aload_n (pc := 56) dX0_rankOf_56 rfl ?_
    refine ae_getR (pc := 57) (k := 27) (c := 0) (j := 0) (q := 1) dX0_rankOf_57 rfl rfl (Nat.le_of_ble_eq_true rfl) rfl (Nat.le_of_ble_eq_true rfl) rfl ?_
    refine ae_iload_n (pc := 60) dX0_rankOf_60 rfl ?_
    refine ae_pcallV (pc := 61) (z := zX7_hasEntry) (k := 1) (As := [_]) dX0_rankOf_61 rfl rfl rfl rfl (Nat.le_of_ble_eq_true rfl) rfl (Nat.le_of_ble_eq_true rfl) (Nat.le_of_ble_eq_true rfl) (hh) ?_
    refine ae_if_eq (pc := 64) (t := 88) dX0_rankOf_64 (by decide) (fun c64 => ?_) (fun c64 => ?_)
    rotate_left
    · exact absurd rfl c64
    refine ae_iload (pc := 88) dX0_rankOf_88 rfl ?_
    refine ae_ireturn (pc := 90) dX0_rankOf_90 rfl ?_
    exact ⟨rfl, rfl⟩
  | some b =>
    have hb1 := hb b rfl
    rw [bI_t (p := inE f (oI (some b))) (inE_of hf.1 hb1)] at hh
    refine ae_aload_n (pc := 0) dX0_rankOf_0 rfl ?_
    refine ae_getR (pc := 1) (k := 27) (c := 0) (j := 0) (q := 1) dX0_rankOf_1 rfl rfl (Nat.le_of_ble_eq_true rfl) rfl (Nat.le_of_ble_eq_true rfl) rfl ?_
    refine ae_getR (pc := 4) (k := 1) (c := 7) (j := 4) (q := 3) dX0_rankOf_4 rfl rfl (Nat.le_of_ble_eq_true rfl) rfl (Nat.le_of_ble_eq_true rfl) rfl ?_
    refine ae_iload_n (pc := 7) dX0_rankOf_7 rfl ?_
    refine ae_iaload (pc := 8) (k := 3) (N := 16) (v := f (259 + e)) (e) dX0_rankOf_8 (Nat.le_of_ble_eq_true rfl) rfl rfl rfl (by omega) ((hg.2.2.1 e he).1) ?_
    refine ae_istore (pc := 9) dX0_rankOf_9 rfl (Nat.le_of_ble_eq_true rfl) ?_
    refine ae_iload_n (pc := 11) dX0_rankOf_11 rfl ?_
    refine ae_if_ne (pc := 12) (t := 40) dX0_rankOf_12 (by decide) (fun _ => ?_) (fun q => absurd (by decide) q)
    refine ae_iload_n (pc := 40) dX0_rankOf_40 rfl ?_
    refine ae_iconst (pc := 41) (v := nI 1) dX0_rankOf_41 (by decide) ?_
    refine ae_icmp_ne (pc := 42) (t := 56) dX0_rankOf_42 (by decide) (fun c42 => ?_) (fun c42 => ?_)
    rotate_left
    · exact absurd (Classical.not_not.mp c42) (by decide)
    refine ae_aload_n (pc := 56) dX0_rankOf_56 rfl ?_
    refine ae_getR (pc := 57) (k := 27) (c := 0) (j := 0) (q := 1) dX0_rankOf_57 rfl rfl (Nat.le_of_ble_eq_true rfl) rfl (Nat.le_of_ble_eq_true rfl) rfl ?_
    refine ae_iload_n (pc := 60) dX0_rankOf_60 rfl ?_
    refine ae_pcallV (pc := 61) (z := zX7_hasEntry) (k := 1) (As := [_]) dX0_rankOf_61 rfl rfl rfl rfl (Nat.le_of_ble_eq_true rfl) rfl (Nat.le_of_ble_eq_true rfl) (Nat.le_of_ble_eq_true rfl) (hh) ?_
    refine ae_if_eq (pc := 64) (t := 88) dX0_rankOf_64 (by decide) (fun c64 => ?_) (fun c64 => ?_)
    · exact absurd c64 (by decide)
    refine ae_aload_n (pc := 67) dX0_rankOf_67 rfl ?_
    refine ae_getR (pc := 68) (k := 27) (c := 0) (j := 0) (q := 1) dX0_rankOf_68 rfl rfl (Nat.le_of_ble_eq_true rfl) rfl (Nat.le_of_ble_eq_true rfl) rfl ?_
    refine ae_iload (pc := 71) dX0_rankOf_71 rfl ?_
    refine ae_aload_n (pc := 73) dX0_rankOf_73 rfl ?_
    refine ae_getR (pc := 74) (k := 27) (c := 0) (j := 0) (q := 1) dX0_rankOf_74 rfl rfl (Nat.le_of_ble_eq_true rfl) rfl (Nat.le_of_ble_eq_true rfl) rfl ?_
    refine ae_getR (pc := 77) (k := 1) (c := 7) (j := 4) (q := 3) dX0_rankOf_77 rfl rfl (Nat.le_of_ble_eq_true rfl) rfl (Nat.le_of_ble_eq_true rfl) rfl ?_
    refine ae_iload_n (pc := 80) dX0_rankOf_80 rfl ?_
    refine ae_iaload (pc := 81) (k := 3) (N := 16) (v := f (259 + b)) (b) dX0_rankOf_81 (Nat.le_of_ble_eq_true rfl) rfl rfl rfl (by omega) ((hg.2.2.1 b hb1).1) ?_
    refine ae_pcallV (pc := 82) (z := zX7_distance) (k := 1) (As := [_, _]) dX0_rankOf_82 rfl rfl rfl rfl (Nat.le_of_ble_eq_true rfl) rfl (Nat.le_of_ble_eq_true rfl) (Nat.le_of_ble_eq_true rfl) (sc_distance d M f hg _ _ (hf.2.2.1 e he).1 (hf.2.2.1 b hb1).1) ?_
    refine ae_goto (pc := 85) (t := 90) dX0_rankOf_85 (by decide) ?_
    refine ae_ireturn (pc := 90) dX0_rankOf_90 rfl ?_
    exact ⟨rfl, rfl⟩
theorem sc_rankOf (d : Nat) (M : am_M) (f srv : fT) (hg : AG M f) (hf : wf f) (hs : ∀ e, e < 16 → M.1 19 e = srv e) (e : Nat) (he : e < fN f) (o : Nat) (ho : o < 3) (bh : Option Nat) (hb : ∀ b, bh = some b → b < fN f) : am_R (d + 2) zX0_rankOf [.ref 27, .int (nI e), .int (nI o), .int (oI bh)] M (fun v M' => v = some (.int (keyF f srv o bh e)) ∧ M' = M) := by
  match o, ho with
  | 0, _ => exact sc_rankOf_0 d M f srv hg hf e he _ bh
  | 1, _ => exact sc_rankOf_1 d M f srv hg hf hs e he _ bh
  | 2, _ => exact sc_rankOf_2 d M f srv hg hf e he bh hb
theorem sc_chooseNext (d : Nat) (M : am_M) (f srv pl : fT) (hg : AG M f) (hf : wf f) (hs : ∀ e, e < 16 → M.1 19 e = srv e) (o : Nat) (ho : o < 3) (bh : Option Nat) (hb : ∀ b, bh = some b → b < fN f) (hnn : ∀ x, x < fN f → (M.1 28 x = -1 ↔ ¬ (f (275 + x) = 1 ∨ ¬ pl x = 0))) : am_R (d + 3) zX0_chooseNext [.ref 27, .int (nI o), .int (oI bh)] M (fun v M' => v = some (.int (oI (nxt f srv pl o bh (fN f)))) ∧ M' = M) := by
  refine ae_enter (z := zX0_chooseNext) (y := yX0_chooseNext) (cc := cX0_chooseNext) (mL := 7) (rt := some .int) (ci := 0) (st := false) (np := 2) (L := [some (.ref 27), some (.int (nI o)), some (.int (oI bh)), none, none, none, none]) rfl (by decide) (Nat.le_of_ble_eq_true rfl) rfl ?_
  obtain ⟨-, -, a3⟩ := AG_w hg hf.1
  have hN := hf.1.2.2.2
  refine ae_iconst (pc := 0) (v := (-1)) dX0_chooseNext_0 (by decide) ?_
  refine ae_istore_n (pc := 1) dX0_chooseNext_1 rfl (Nat.le_of_ble_eq_true rfl) ?_
  refine ae_iconst (pc := 2) (v := nI 0) dX0_chooseNext_2 (by decide) ?_
  refine ae_istore (pc := 3) dX0_chooseNext_3 rfl (Nat.le_of_ble_eq_true rfl) ?_
  refine ae_iconst (pc := 5) (v := nI 0) dX0_chooseNext_5 (by decide) ?_
  refine ae_istore (pc := 6) dX0_chooseNext_6 rfl (Nat.le_of_ble_eq_true rfl) ?_
  skip
  refine am_down (P := fun k => am_E none (am_R (d + 2)) cX0_chooseNext 0 (some .int) _ (8, [some (.ref 27), some (.int (nI o)), some (.int (oI bh)), some (.int (oI (nxt f srv pl o bh k))), some (.int (match nxt f srv pl o bh k with | none => nI 0 | some b => keyF f srv o bh b)), some (.int (nI k)), none], [], M)) (fN f) (fun k hk ih => ?_)
  refine ae_iload (pc := 8) dX0_chooseNext_8 rfl ?_
  refine ae_aload_n (pc := 10) dX0_chooseNext_10 rfl ?_
  refine ae_getR (pc := 11) (k := 27) (c := 0) (j := 0) (q := 1) dX0_chooseNext_11 rfl rfl (Nat.le_of_ble_eq_true rfl) rfl (Nat.le_of_ble_eq_true rfl) rfl ?_
  refine ae_getI (pc := 14) (k := 1) (c := 7) (j := 3) (v := nI (fN f)) dX0_chooseNext_14 rfl rfl (Or.inl rfl) (Nat.le_of_ble_eq_true rfl) rfl (Nat.le_of_ble_eq_true rfl) a3 ?_
  refine ae_icmp_ge (pc := 17) (t := 69) dX0_chooseNext_17 (by decide) (fun c17 => ?_) (fun c17 => ?_)
  · have hk2 : k = fN f := by rw [nI_leI (by omega) (by omega)] at c17; omega
    subst hk2
    refine ae_iload_n (pc := 69) dX0_chooseNext_69 rfl ?_
    refine ae_ireturn (pc := 70) dX0_chooseNext_70 rfl ?_
    exact ⟨rfl, rfl⟩
  · have hk2 : k < fN f := by rw [nI_leI (by omega) (by omega)] at c17; omega
    have ih2 := ih hk2
    rw [nxt_s] at ih2
    have hrk := sc_rankOf d M f srv hg hf hs k hk2 o ho bh hb
    by_cases hsk : f (275 + k) = 1 ∨ ¬ pl k = 0
    · simp only [if_pos hsk] at ih2
      refine ae_aload_n (pc := 20) dX0_chooseNext_20 rfl ?_
      refine ae_getR (pc := 21) (k := 27) (c := 0) (j := 2) (q := 28) dX0_chooseNext_21 rfl rfl (Nat.le_of_ble_eq_true rfl) rfl (Nat.le_of_ble_eq_true rfl) rfl ?_
      refine ae_iload (pc := 24) dX0_chooseNext_24 rfl ?_
      refine ae_iaload (pc := 26) (k := 28) (N := 16) (k) dX0_chooseNext_26 (Nat.le_of_ble_eq_true rfl) rfl rfl rfl (by omega) rfl ?_
      refine ae_iconst (pc := 27) (v := (-1)) dX0_chooseNext_27 (by decide) ?_
      refine ae_icmp_eq (pc := 28) (t := 34) dX0_chooseNext_28 (by decide) (fun c28 => ?_) (fun c28 => ?_)
      · exact absurd hsk ((hnn k hk2).mp c28)
      refine ae_goto (pc := 31) (t := 63) dX0_chooseNext_31 (by decide) ?_
      refine ae_iinc (pc := 63) (v := nI (k + 1)) dX0_chooseNext_63 rfl (nI_inc k) ?_
      refine ae_goto (pc := 66) (t := 8) dX0_chooseNext_66 (by decide) ?_
      exact ih2
    · simp only [if_neg hsk] at ih2
      have hm1 := (hnn k hk2).mpr hsk
      cases hx : nxt f srv pl o bh k with
      | none =>
        simp only [hx] at ih2
        refine ae_aload_n (pc := 20) dX0_chooseNext_20 rfl ?_
        refine ae_getR (pc := 21) (k := 27) (c := 0) (j := 2) (q := 28) dX0_chooseNext_21 rfl rfl (Nat.le_of_ble_eq_true rfl) rfl (Nat.le_of_ble_eq_true rfl) rfl ?_
        refine ae_iload (pc := 24) dX0_chooseNext_24 rfl ?_
        refine ae_iaload (pc := 26) (k := 28) (N := 16) (v := (-1)) (k) dX0_chooseNext_26 (Nat.le_of_ble_eq_true rfl) rfl rfl rfl (by omega) hm1 ?_
        refine ae_iconst (pc := 27) (v := (-1)) dX0_chooseNext_27 (by decide) ?_
        refine ae_icmp_eq (pc := 28) (t := 34) dX0_chooseNext_28 (by decide) (fun c28 => ?_) (fun c28 => ?_)
        rotate_left
        · exact absurd rfl c28
        refine ae_aload_n (pc := 34) dX0_chooseNext_34 rfl ?_
        refine ae_iload (pc := 35) dX0_chooseNext_35 rfl ?_
        refine ae_iload_n (pc := 37) dX0_chooseNext_37 rfl ?_
        refine ae_iload_n (pc := 38) dX0_chooseNext_38 rfl ?_
        refine ae_pcallV (pc := 39) (z := zX0_rankOf) (k := 27) (As := [_, _, _]) dX0_chooseNext_39 rfl rfl rfl rfl (Nat.le_of_ble_eq_true rfl) rfl (Nat.le_of_ble_eq_true rfl) (Nat.le_of_ble_eq_true rfl) (hrk) ?_
        refine ae_istore (pc := 42) dX0_chooseNext_42 rfl (Nat.le_of_ble_eq_true rfl) ?_
        refine ae_iload_n (pc := 44) dX0_chooseNext_44 rfl ?_
        refine ae_iconst (pc := 45) (v := (-1)) dX0_chooseNext_45 (by decide) ?_
        refine ae_icmp_eq (pc := 46) (t := 56) dX0_chooseNext_46 (by decide) (fun c46 => ?_) (fun c46 => ?_)
        rotate_left
        · exact absurd rfl c46
        refine ae_iload (pc := 56) dX0_chooseNext_56 rfl ?_
        refine ae_istore_n (pc := 58) dX0_chooseNext_58 rfl (Nat.le_of_ble_eq_true rfl) ?_
        refine ae_iload (pc := 59) dX0_chooseNext_59 rfl ?_
        refine ae_istore (pc := 61) dX0_chooseNext_61 rfl (Nat.le_of_ble_eq_true rfl) ?_
        refine ae_iinc (pc := 63) (v := nI (k + 1)) dX0_chooseNext_63 rfl (nI_inc k) ?_
        refine ae_goto (pc := 66) (t := 8) dX0_chooseNext_66 (by decide) ?_
        exact ae_forget [6] rfl ih2
      | some b =>
        have hb2 := (nxt_lt hx).1
        simp only [hx] at ih2
        by_cases hlt : keyF f srv o bh k < keyF f srv o bh b
        · simp only [if_pos hlt] at ih2
          refine ae_aload_n (pc := 20) dX0_chooseNext_20 rfl ?_
          refine ae_getR (pc := 21) (k := 27) (c := 0) (j := 2) (q := 28) dX0_chooseNext_21 rfl rfl (Nat.le_of_ble_eq_true rfl) rfl (Nat.le_of_ble_eq_true rfl) rfl ?_
          refine ae_iload (pc := 24) dX0_chooseNext_24 rfl ?_
          refine ae_iaload (pc := 26) (k := 28) (N := 16) (v := (-1)) (k) dX0_chooseNext_26 (Nat.le_of_ble_eq_true rfl) rfl rfl rfl (by omega) hm1 ?_
          refine ae_iconst (pc := 27) (v := (-1)) dX0_chooseNext_27 (by decide) ?_
          refine ae_icmp_eq (pc := 28) (t := 34) dX0_chooseNext_28 (by decide) (fun c28 => ?_) (fun c28 => ?_)
          rotate_left
          · exact absurd rfl c28
          refine ae_aload_n (pc := 34) dX0_chooseNext_34 rfl ?_
          refine ae_iload (pc := 35) dX0_chooseNext_35 rfl ?_
          refine ae_iload_n (pc := 37) dX0_chooseNext_37 rfl ?_
          refine ae_iload_n (pc := 38) dX0_chooseNext_38 rfl ?_
          refine ae_pcallV (pc := 39) (z := zX0_rankOf) (k := 27) (As := [_, _, _]) dX0_chooseNext_39 rfl rfl rfl rfl (Nat.le_of_ble_eq_true rfl) rfl (Nat.le_of_ble_eq_true rfl) (Nat.le_of_ble_eq_true rfl) (hrk) ?_
          refine ae_istore (pc := 42) dX0_chooseNext_42 rfl (Nat.le_of_ble_eq_true rfl) ?_
          refine ae_iload_n (pc := 44) dX0_chooseNext_44 rfl ?_
          refine ae_iconst (pc := 45) (v := (-1)) dX0_chooseNext_45 (by decide) ?_
          refine ae_icmp_eq (pc := 46) (t := 56) dX0_chooseNext_46 (by decide) (fun c46 => ?_) (fun c46 => ?_)
          · exact absurd c46 (nI_ne1 (by omega))
          refine ae_iload (pc := 49) dX0_chooseNext_49 rfl ?_
          refine ae_iload (pc := 51) dX0_chooseNext_51 rfl ?_
          refine ae_icmp_ge (pc := 53) (t := 63) dX0_chooseNext_53 (by decide) (fun c53 => ?_) (fun c53 => ?_)
          · exact absurd hlt (Int32.not_lt.mpr c53)
          refine ae_iload (pc := 56) dX0_chooseNext_56 rfl ?_
          refine ae_istore_n (pc := 58) dX0_chooseNext_58 rfl (Nat.le_of_ble_eq_true rfl) ?_
          refine ae_iload (pc := 59) dX0_chooseNext_59 rfl ?_
          refine ae_istore (pc := 61) dX0_chooseNext_61 rfl (Nat.le_of_ble_eq_true rfl) ?_
          refine ae_iinc (pc := 63) (v := nI (k + 1)) dX0_chooseNext_63 rfl (nI_inc k) ?_
          refine ae_goto (pc := 66) (t := 8) dX0_chooseNext_66 (by decide) ?_
          exact ae_forget [6] rfl ih2
        · simp only [if_neg hlt] at ih2
          refine ae_aload_n (pc := 20) dX0_chooseNext_20 rfl ?_
          refine ae_getR (pc := 21) (k := 27) (c := 0) (j := 2) (q := 28) dX0_chooseNext_21 rfl rfl (Nat.le_of_ble_eq_true rfl) rfl (Nat.le_of_ble_eq_true rfl) rfl ?_
          refine ae_iload (pc := 24) dX0_chooseNext_24 rfl ?_
          refine ae_iaload (pc := 26) (k := 28) (N := 16) (v := (-1)) (k) dX0_chooseNext_26 (Nat.le_of_ble_eq_true rfl) rfl rfl rfl (by omega) hm1 ?_
          refine ae_iconst (pc := 27) (v := (-1)) dX0_chooseNext_27 (by decide) ?_
          refine ae_icmp_eq (pc := 28) (t := 34) dX0_chooseNext_28 (by decide) (fun c28 => ?_) (fun c28 => ?_)
          rotate_left
          · exact absurd rfl c28
          refine ae_aload_n (pc := 34) dX0_chooseNext_34 rfl ?_
          refine ae_iload (pc := 35) dX0_chooseNext_35 rfl ?_
          refine ae_iload_n (pc := 37) dX0_chooseNext_37 rfl ?_
          refine ae_iload_n (pc := 38) dX0_chooseNext_38 rfl ?_
          refine ae_pcallV (pc := 39) (z := zX0_rankOf) (k := 27) (As := [_, _, _]) dX0_chooseNext_39 rfl rfl rfl rfl (Nat.le_of_ble_eq_true rfl) rfl (Nat.le_of_ble_eq_true rfl) (Nat.le_of_ble_eq_true rfl) (hrk) ?_
          refine ae_istore (pc := 42) dX0_chooseNext_42 rfl (Nat.le_of_ble_eq_true rfl) ?_
          refine ae_iload_n (pc := 44) dX0_chooseNext_44 rfl ?_
          refine ae_iconst (pc := 45) (v := (-1)) dX0_chooseNext_45 (by decide) ?_
          refine ae_icmp_eq (pc := 46) (t := 56) dX0_chooseNext_46 (by decide) (fun c46 => ?_) (fun c46 => ?_)
          · exact absurd c46 (nI_ne1 (by omega))
          refine ae_iload (pc := 49) dX0_chooseNext_49 rfl ?_
          refine ae_iload (pc := 51) dX0_chooseNext_51 rfl ?_
          refine ae_icmp_ge (pc := 53) (t := 63) dX0_chooseNext_53 (by decide) (fun c53 => ?_) (fun c53 => ?_)
          rotate_left
          · exact absurd (Int32.not_le.mp c53) hlt
          refine ae_iinc (pc := 63) (v := nI (k + 1)) dX0_chooseNext_63 rfl (nI_inc k) ?_
          refine ae_goto (pc := 66) (t := 8) dX0_chooseNext_66 (by decide) ?_
          exact ae_forget [6] rfl ih2
theorem sc_renumberIndices (d : Nat) (M : am_M) (f : fT) (hf : wf0 f) (h0 : M.1 1 0 = nI (fW f)) (h1 : M.1 1 1 = nI (fH f)) (h3 : M.1 1 3 = nI (fN f)) : am_R (d + 2) zX0_renumberIndices [.ref 27] M (fun v M' => v = none ∧ ∃ i, M' = iM M i ∧ ∀ q, q < fA f → i q = rnV f (M.1 28) (M.1 5 q)) := by
  refine ae_enter (z := zX0_renumberIndices) (y := yX0_renumberIndices) (cc := cX0_renumberIndices) (mL := 3) (rt := none) (ci := 0) (st := false) (np := 0) (L := [some (.ref 27), none, none]) rfl (by decide) (Nat.le_of_ble_eq_true rfl) rfl ?_
  have hA := fA_le hf
  have hN := hf.2.2.2
  have r1 : ∀ i k, k ≠ 5 → (iM M i).1 k = M.1 k := fun i k hk => iM_ne _ _ hk
  have lp : ∀ i : fT, (∀ q, q < 0 → i q = rnV f (M.1 28) (M.1 5 q)) → (∀ q, 0 ≤ q → i q = M.1 5 q) → am_E none (am_R (d + 1)) cX0_renumberIndices 0 none (fun v M' => v = none ∧ ∃ i, M' = iM M i ∧ ∀ q, q < fA f → i q = rnV f (M.1 28) (M.1 5 q)) (2, [some (.ref 27), some (.int (nI 0)), none], [], iM M i) := by
    refine am_down (P := fun p => ∀ i : fT, (∀ q, q < p → i q = rnV f (M.1 28) (M.1 5 q)) → (∀ q, p ≤ q → i q = M.1 5 q) → am_E none (am_R (d + 1)) cX0_renumberIndices 0 none _ (2, [some (.ref 27), some (.int (nI p)), none], [], iM M i)) (fA f) (fun p hp ih i hi1 hi2 => ?_)
    refine ae_iload_n (pc := 2) dX0_renumberIndices_2 rfl ?_
    refine ae_aload_n (pc := 3) dX0_renumberIndices_3 rfl ?_
    refine ae_getR (pc := 4) (k := 27) (c := 0) (j := 0) (q := 1) dX0_renumberIndices_4 rfl rfl (Nat.le_of_ble_eq_true rfl) rfl (Nat.le_of_ble_eq_true rfl) rfl ?_
    refine ae_pcallV (pc := 7) (z := zX7_area) (k := 1) (As := []) dX0_renumberIndices_7 rfl rfl rfl rfl (Nat.le_of_ble_eq_true rfl) rfl (Nat.le_of_ble_eq_true rfl) (Nat.le_of_ble_eq_true rfl) (sc_areaR d _ (fW f) (fH f) (by rw [r1 _ _ (by decide)]; exact h0) (by rw [r1 _ _ (by decide)]; exact h1)) ?_
    refine ae_icmp_ge (pc := 10) (t := 55) dX0_renumberIndices_10 (by decide) (fun c10 => ?_) (fun c10 => ?_)
    · have hp2 : p = fA f := by have c' : nI (fA f) ≤ nI p := c10; rw [nI_leI (by omega) (by omega)] at c'; omega
      subst hp2
      refine ae_return (pc := 55) dX0_renumberIndices_55 rfl ?_
      exact ⟨rfl, i, rfl, hi1⟩
    · have hp2 : p < fA f := by have c' : ¬ nI (fA f) ≤ nI p := c10; rw [nI_leI (by omega) (by omega)] at c'; omega
      have hh := sc_hasEntryR d (iM M i) f hf (by rw [r1 _ _ (by decide)]; exact h3) (M.1 5 p)
      have st := ih hp2
      by_cases he : inE f (M.1 5 p)
      · obtain ⟨x, x1, x2⟩ := of_inE hf he
        have ev : rnV f (M.1 28) (M.1 5 p) = M.1 28 x := by unfold rnV; rw [if_pos he, x2, nI_clamp (by omega)]
        rw [bI_t he] at hh
        have st2 := st (upd i p (M.1 28 x)) (fun q hq => by
          by_cases hqp : q = p
          · subst hqp; rw [upd_self, ev]
          · rw [upd_ne _ _ hqp]; exact hi1 q (by omega)) (fun q hq => by rw [upd_ne _ _ (by omega)]; exact hi2 q (by omega))
        refine ae_aload_n (pc := 13) dX0_renumberIndices_13 rfl ?_
        refine ae_getR (pc := 14) (k := 27) (c := 0) (j := 0) (q := 1) dX0_renumberIndices_14 rfl rfl (Nat.le_of_ble_eq_true rfl) rfl (Nat.le_of_ble_eq_true rfl) rfl ?_
        refine ae_getR (pc := 17) (k := 1) (c := 7) (j := 8) (q := 5) dX0_renumberIndices_17 rfl rfl (Nat.le_of_ble_eq_true rfl) rfl (Nat.le_of_ble_eq_true rfl) rfl ?_
        refine ae_iload_n (pc := 20) dX0_renumberIndices_20 rfl ?_
        refine ae_iaload (pc := 21) (k := 5) (N := 256) (v := M.1 5 p) (p) dX0_renumberIndices_21 (Nat.le_of_ble_eq_true rfl) rfl rfl rfl (by omega) (by rw [iM_5]; exact hi2 p (Nat.le_refl p)) ?_
        refine ae_istore_n (pc := 22) dX0_renumberIndices_22 rfl (Nat.le_of_ble_eq_true rfl) ?_
        refine ae_aload_n (pc := 23) dX0_renumberIndices_23 rfl ?_
        refine ae_getR (pc := 24) (k := 27) (c := 0) (j := 0) (q := 1) dX0_renumberIndices_24 rfl rfl (Nat.le_of_ble_eq_true rfl) rfl (Nat.le_of_ble_eq_true rfl) rfl ?_
        refine ae_iload_n (pc := 27) dX0_renumberIndices_27 rfl ?_
        refine ae_pcallV (pc := 28) (z := zX7_hasEntry) (k := 1) (As := [_]) dX0_renumberIndices_28 rfl rfl rfl rfl (Nat.le_of_ble_eq_true rfl) rfl (Nat.le_of_ble_eq_true rfl) (Nat.le_of_ble_eq_true rfl) (hh) ?_
        refine ae_if_eq (pc := 31) (t := 49) dX0_renumberIndices_31 (by decide) (fun c31 => ?_) (fun c31 => ?_)
        · exact absurd c31 (by decide)
        refine ae_aload_n (pc := 34) dX0_renumberIndices_34 rfl ?_
        refine ae_getR (pc := 35) (k := 27) (c := 0) (j := 0) (q := 1) dX0_renumberIndices_35 rfl rfl (Nat.le_of_ble_eq_true rfl) rfl (Nat.le_of_ble_eq_true rfl) rfl ?_
        refine ae_getR (pc := 38) (k := 1) (c := 7) (j := 8) (q := 5) dX0_renumberIndices_38 rfl rfl (Nat.le_of_ble_eq_true rfl) rfl (Nat.le_of_ble_eq_true rfl) rfl ?_
        refine ae_iload_n (pc := 41) dX0_renumberIndices_41 rfl ?_
        refine ae_aload_n (pc := 42) dX0_renumberIndices_42 rfl ?_
        refine ae_getR (pc := 43) (k := 27) (c := 0) (j := 2) (q := 28) dX0_renumberIndices_43 rfl rfl (Nat.le_of_ble_eq_true rfl) rfl (Nat.le_of_ble_eq_true rfl) rfl ?_
        refine ae_iload_n (pc := 46) dX0_renumberIndices_46 rfl ?_
        refine ae_iaload (pc := 47) (k := 28) (N := 16) (v := M.1 28 x) (x) dX0_renumberIndices_47 (Nat.le_of_ble_eq_true rfl) rfl rfl x2 (by omega) (by rw [r1 _ _ (by decide)]) ?_
        refine ae_iastore (pc := 48) (k := 5) (N := 256) (p) dX0_renumberIndices_48 (Nat.le_of_ble_eq_true rfl) rfl rfl rfl (by omega) rfl ?_
        refine ae_M (iM_u _ _ _) ?_
        rw [iM_5]
        refine ae_iinc (pc := 49) (v := nI (p + 1)) dX0_renumberIndices_49 rfl (nI_inc p) ?_
        refine ae_goto (pc := 52) (t := 2) dX0_renumberIndices_52 (by decide) ?_
        exact ae_forget [2] rfl st2
      · have ev : rnV f (M.1 28) (M.1 5 p) = M.1 5 p := by unfold rnV; rw [if_neg he]
        rw [bI_f he] at hh
        have st2 := st i (fun q hq => by
          by_cases hqp : q = p
          · subst hqp; rw [ev]; exact hi2 q (Nat.le_refl q)
          · exact hi1 q (by omega)) (fun q hq => hi2 q (by omega))
        refine ae_aload_n (pc := 13) dX0_renumberIndices_13 rfl ?_
        refine ae_getR (pc := 14) (k := 27) (c := 0) (j := 0) (q := 1) dX0_renumberIndices_14 rfl rfl (Nat.le_of_ble_eq_true rfl) rfl (Nat.le_of_ble_eq_true rfl) rfl ?_
        refine ae_getR (pc := 17) (k := 1) (c := 7) (j := 8) (q := 5) dX0_renumberIndices_17 rfl rfl (Nat.le_of_ble_eq_true rfl) rfl (Nat.le_of_ble_eq_true rfl) rfl ?_
        refine ae_iload_n (pc := 20) dX0_renumberIndices_20 rfl ?_
        refine ae_iaload (pc := 21) (k := 5) (N := 256) (v := M.1 5 p) (p) dX0_renumberIndices_21 (Nat.le_of_ble_eq_true rfl) rfl rfl rfl (by omega) (by rw [iM_5]; exact hi2 p (Nat.le_refl p)) ?_
        refine ae_istore_n (pc := 22) dX0_renumberIndices_22 rfl (Nat.le_of_ble_eq_true rfl) ?_
        refine ae_aload_n (pc := 23) dX0_renumberIndices_23 rfl ?_
        refine ae_getR (pc := 24) (k := 27) (c := 0) (j := 0) (q := 1) dX0_renumberIndices_24 rfl rfl (Nat.le_of_ble_eq_true rfl) rfl (Nat.le_of_ble_eq_true rfl) rfl ?_
        refine ae_iload_n (pc := 27) dX0_renumberIndices_27 rfl ?_
        refine ae_pcallV (pc := 28) (z := zX7_hasEntry) (k := 1) (As := [_]) dX0_renumberIndices_28 rfl rfl rfl rfl (Nat.le_of_ble_eq_true rfl) rfl (Nat.le_of_ble_eq_true rfl) (Nat.le_of_ble_eq_true rfl) (hh) ?_
        refine ae_if_eq (pc := 31) (t := 49) dX0_renumberIndices_31 (by decide) (fun c31 => ?_) (fun c31 => ?_)
        rotate_left
        · exact absurd rfl c31
        refine ae_iinc (pc := 49) (v := nI (p + 1)) dX0_renumberIndices_49 rfl (nI_inc p) ?_
        refine ae_goto (pc := 52) (t := 2) dX0_renumberIndices_52 (by decide) ?_
        exact ae_forget [2] rfl st2
  have st := lp (M.1 5) (fun q hq => absurd hq (Nat.not_lt_zero q)) (fun q _ => rfl)
  rw [iM_eta] at st
  refine ae_iconst (pc := 0) (v := nI 0) dX0_renumberIndices_0 (by decide) ?_
  refine ae_istore_n (pc := 1) dX0_renumberIndices_1 rfl (Nat.le_of_ble_eq_true rfl) ?_
  exact st
theorem sc_moveColors (d : Nat) (M : am_M) (f : fT) (hf : wf0 f) (h3 : M.1 1 3 = nI (fN f)) (og : Nat → Nat) (hI : IVs f og (M.1 28)) : am_R (d + 2) zX0_moveColors [.ref 27] M (fun v M' => v = some (.int (nI (mvd og (fN f)))) ∧ ∃ c o, M' = pcM M c o ∧ mcR f (M.1 3) (M.1 28) og (fN f) c) := by
  refine ae_enter (z := zX0_moveColors) (y := yX0_moveColors) (cc := cX0_moveColors) (mL := 4) (rt := some .int) (ci := 0) (st := false) (np := 0) (L := [some (.ref 27), none, none, none]) rfl (by decide) (Nat.le_of_ble_eq_true rfl) rfl ?_
  have hN := hf.2.2.2
  have r1 : ∀ c o k, k ≠ 3 → k ≠ 29 → (pcM M c o).1 k = M.1 k := fun c o k a b => pcM_ne _ _ _ a b
  have lp : ∀ o : fT, (∀ q, q < 16 → o q = M.1 3 q) → ∀ c, mcR f (M.1 3) (M.1 28) og 0 c → am_E none (am_R (d + 1)) cX0_moveColors 0 (some .int) (fun v M' => v = some (.int (nI (mvd og (fN f)))) ∧ ∃ c o, M' = pcM M c o ∧ mcR f (M.1 3) (M.1 28) og (fN f) c) (22, [some (.ref 27), some (.int (nI (mvd og 0))), some (.int (nI 0)), none], [], pcM M c o) := by
    intro o ho
    refine am_down (P := fun k => ∀ c, mcR f (M.1 3) (M.1 28) og k c → am_E none (am_R (d + 1)) cX0_moveColors 0 (some .int) _ (22, [some (.ref 27), some (.int (nI (mvd og k))), some (.int (nI k)), none], [], pcM M c o)) (fN f) (fun k hk ih c hc => ?_)
    refine ae_iload_n (pc := 22) dX0_moveColors_22 rfl ?_
    refine ae_aload_n (pc := 23) dX0_moveColors_23 rfl ?_
    refine ae_getR (pc := 24) (k := 27) (c := 0) (j := 0) (q := 1) dX0_moveColors_24 rfl rfl (Nat.le_of_ble_eq_true rfl) rfl (Nat.le_of_ble_eq_true rfl) rfl ?_
    refine ae_getI (pc := 27) (k := 1) (c := 7) (j := 3) (v := nI (fN f)) dX0_moveColors_27 rfl rfl (Or.inl rfl) (Nat.le_of_ble_eq_true rfl) rfl (Nat.le_of_ble_eq_true rfl) (by rw [r1 _ _ _ (by decide) (by decide)]; exact h3) ?_
    refine ae_icmp_ge (pc := 30) (t := 80) dX0_moveColors_30 (by decide) (fun c30 => ?_) (fun c30 => ?_)
    · have hk2 : k = fN f := by rw [nI_leI (by omega) (by omega)] at c30; omega
      subst hk2
      refine ae_iload_n (pc := 80) dX0_moveColors_80 rfl ?_
      refine ae_ireturn (pc := 81) dX0_moveColors_81 rfl ?_
      exact ⟨rfl, c, o, rfl, hc⟩
    · have hk2 : k < fN f := by rw [nI_leI (by omega) (by omega)] at c30; omega
      obtain ⟨j, j1, j2, j3⟩ := hI.1 k hk2
      have hfix := mvd_cg hN hI hk2
      have hh := sc_hasEntryR d (pcM M c o) f hf (by rw [r1 _ _ _ (by decide) (by decide)]; exact h3) (nI j)
      rw [bI_t (inE_of hf j1)] at hh
      have ih2 := ih hk2
      rw [mvd_s] at ih2
      by_cases hjk : og k = k
      · rw [if_pos hjk] at ih2
        have st := ih2 c (mcR_id hN hI hc hk2 hjk)
        have e1 := hfix.mp hjk
        refine ae_aload_n (pc := 33) dX0_moveColors_33 rfl ?_
        refine ae_getR (pc := 34) (k := 27) (c := 0) (j := 2) (q := 28) dX0_moveColors_34 rfl rfl (Nat.le_of_ble_eq_true rfl) rfl (Nat.le_of_ble_eq_true rfl) rfl ?_
        refine ae_iload_n (pc := 37) dX0_moveColors_37 rfl ?_
        refine ae_iaload (pc := 38) (k := 28) (N := 16) (v := nI k) (k) dX0_moveColors_38 (Nat.le_of_ble_eq_true rfl) rfl rfl rfl (by omega) (by rw [r1 _ _ _ (by decide) (by decide)]; exact e1) ?_
        refine ae_istore_n (pc := 39) dX0_moveColors_39 rfl (Nat.le_of_ble_eq_true rfl) ?_
        refine ae_iload_n (pc := 40) dX0_moveColors_40 rfl ?_
        refine ae_iload_n (pc := 41) dX0_moveColors_41 rfl ?_
        refine ae_icmp_eq (pc := 42) (t := 74) dX0_moveColors_42 (by decide) (fun c42 => ?_) (fun c42 => ?_)
        rotate_left
        · exact absurd rfl c42
        refine ae_iinc (pc := 74) (v := nI (k + 1)) dX0_moveColors_74 rfl (nI_inc k) ?_
        refine ae_goto (pc := 77) (t := 22) dX0_moveColors_77 (by decide) ?_
        exact ae_forget [3] rfl st
      · rw [if_neg hjk] at ih2
        have st := ih2 (upd c j (M.1 3 k)) (mcR_s hN hI hc j1 j3)
        refine ae_aload_n (pc := 33) dX0_moveColors_33 rfl ?_
        refine ae_getR (pc := 34) (k := 27) (c := 0) (j := 2) (q := 28) dX0_moveColors_34 rfl rfl (Nat.le_of_ble_eq_true rfl) rfl (Nat.le_of_ble_eq_true rfl) rfl ?_
        refine ae_iload_n (pc := 37) dX0_moveColors_37 rfl ?_
        refine ae_iaload (pc := 38) (k := 28) (N := 16) (v := nI j) (k) dX0_moveColors_38 (Nat.le_of_ble_eq_true rfl) rfl rfl rfl (by omega) (by rw [r1 _ _ _ (by decide) (by decide)]; exact j2) ?_
        refine ae_istore_n (pc := 39) dX0_moveColors_39 rfl (Nat.le_of_ble_eq_true rfl) ?_
        refine ae_iload_n (pc := 40) dX0_moveColors_40 rfl ?_
        refine ae_iload_n (pc := 41) dX0_moveColors_41 rfl ?_
        refine ae_icmp_eq (pc := 42) (t := 74) dX0_moveColors_42 (by decide) (fun c42 => ?_) (fun c42 => ?_)
        · exact absurd (hfix.mpr (j2.trans c42)) hjk
        refine ae_aload_n (pc := 45) dX0_moveColors_45 rfl ?_
        refine ae_getR (pc := 46) (k := 27) (c := 0) (j := 0) (q := 1) dX0_moveColors_46 rfl rfl (Nat.le_of_ble_eq_true rfl) rfl (Nat.le_of_ble_eq_true rfl) rfl ?_
        refine ae_iload_n (pc := 49) dX0_moveColors_49 rfl ?_
        refine ae_pcallV (pc := 50) (z := zX7_hasEntry) (k := 1) (As := [_]) dX0_moveColors_50 rfl rfl rfl rfl (Nat.le_of_ble_eq_true rfl) rfl (Nat.le_of_ble_eq_true rfl) (Nat.le_of_ble_eq_true rfl) (hh) ?_
        refine ae_if_eq (pc := 53) (t := 74) dX0_moveColors_53 (by decide) (fun c53 => ?_) (fun c53 => ?_)
        · exact absurd c53 (by decide)
        refine ae_aload_n (pc := 56) dX0_moveColors_56 rfl ?_
        refine ae_getR (pc := 57) (k := 27) (c := 0) (j := 0) (q := 1) dX0_moveColors_57 rfl rfl (Nat.le_of_ble_eq_true rfl) rfl (Nat.le_of_ble_eq_true rfl) rfl ?_
        refine ae_getR (pc := 60) (k := 1) (c := 7) (j := 4) (q := 3) dX0_moveColors_60 rfl rfl (Nat.le_of_ble_eq_true rfl) rfl (Nat.le_of_ble_eq_true rfl) rfl ?_
        refine ae_iload_n (pc := 63) dX0_moveColors_63 rfl ?_
        refine ae_aload_n (pc := 64) dX0_moveColors_64 rfl ?_
        refine ae_getR (pc := 65) (k := 27) (c := 0) (j := 3) (q := 29) dX0_moveColors_65 rfl rfl (Nat.le_of_ble_eq_true rfl) rfl (Nat.le_of_ble_eq_true rfl) rfl ?_
        refine ae_iload_n (pc := 68) dX0_moveColors_68 rfl ?_
        refine ae_iaload (pc := 69) (k := 29) (N := 16) (v := M.1 3 k) (k) dX0_moveColors_69 (Nat.le_of_ble_eq_true rfl) rfl rfl rfl (by omega) (by rw [pcM_29]; exact ho k (by omega)) ?_
        refine ae_iastore (pc := 70) (k := 3) (N := 16) (j) dX0_moveColors_70 (Nat.le_of_ble_eq_true rfl) rfl rfl rfl (by omega) rfl ?_
        refine ae_M (pcM_u _ _ _ _) ?_
        rw [pcM_3]
        refine ae_iinc (pc := 71) (v := nI (mvd og k + 1)) dX0_moveColors_71 rfl (nI_inc _) ?_
        refine ae_iinc (pc := 74) (v := nI (k + 1)) dX0_moveColors_74 rfl (nI_inc k) ?_
        refine ae_goto (pc := 77) (t := 22) dX0_moveColors_77 (by decide) ?_
        exact ae_forget [3] rfl st
  have st := lp (va_cpy (M.1 3) (M.1 29) 0 0 16) (fun q hq => by simp [va_cpy, hq]) (M.1 3) (mcR_0 _ _ _ _)
  refine ae_aload_n (pc := 0) dX0_moveColors_0 rfl ?_
  refine ae_getR (pc := 1) (k := 27) (c := 0) (j := 0) (q := 1) dX0_moveColors_1 rfl rfl (Nat.le_of_ble_eq_true rfl) rfl (Nat.le_of_ble_eq_true rfl) rfl ?_
  refine ae_getR (pc := 4) (k := 1) (c := 7) (j := 4) (q := 3) dX0_moveColors_4 rfl rfl (Nat.le_of_ble_eq_true rfl) rfl (Nat.le_of_ble_eq_true rfl) rfl ?_
  refine ae_iconst (pc := 7) (v := nI 0) dX0_moveColors_7 (by decide) ?_
  refine ae_aload_n (pc := 8) dX0_moveColors_8 rfl ?_
  refine ae_getR (pc := 9) (k := 27) (c := 0) (j := 3) (q := 29) dX0_moveColors_9 rfl rfl (Nat.le_of_ble_eq_true rfl) rfl (Nat.le_of_ble_eq_true rfl) rfl ?_
  refine ae_iconst (pc := 12) (v := nI 0) dX0_moveColors_12 (by decide) ?_
  refine ae_bipush (pc := 13) (v := nI 16) dX0_moveColors_13 (by decide) ?_
  refine ae_copy (pc := 15) (s0 := 3) (d0 := 29) 0 0 16 dX0_moveColors_15 (Or.inr ⟨rfl, rfl⟩) (by decide) (by decide) rfl rfl rfl rfl rfl rfl rfl (Nat.le_of_ble_eq_true rfl) (Nat.le_of_ble_eq_true rfl) (Nat.le_of_ble_eq_true rfl) ?_
  refine ae_iconst (pc := 18) (v := nI 0) dX0_moveColors_18 (by decide) ?_
  refine ae_istore_n (pc := 19) dX0_moveColors_19 rfl (Nat.le_of_ble_eq_true rfl) ?_
  refine ae_iconst (pc := 20) (v := nI 0) dX0_moveColors_20 (by decide) ?_
  refine ae_istore_n (pc := 21) dX0_moveColors_21 rfl (Nat.le_of_ble_eq_true rfl) ?_
  refine ae_M ?_ st
  refine Prod.ext (funext fun q => ?_) rfl
  show am_u M.1 29 _ q = am_u (am_u M.1 29 _) 3 (M.1 3) q
  simp only [am_u]
  by_cases h3 : q = 3 <;> simp_all
theorem sc_arrange (d : Nat) (M : am_M) (f : fT) (hg : AG M f) (hf : wf f) (o : Nat) (ho : o < 3) (srv pl0 : fT) (hs : ∀ e, e < 16 → srv e = nI (svc f e (fA f))) : am_R (d + 4) zX0_arrange [.ref 27, .int (nI o)] M (fun v M' => v = some (.int (nI (mvd (srt f srv pl0 o (fN f)).2.2 (fN f)))) ∧ AG M' (raF f (srt f srv pl0 o (fN f)).2.2) ∧ wf (raF f (srt f srv pl0 o (fN f)).2.2) ∧ FR M M') := by
  refine ae_enter (z := zX0_arrange) (y := yX0_arrange) (cc := cX0_arrange) (mL := 4) (rt := some .int) (ci := 0) (st := false) (np := 1) (L := [some (.ref 27), some (.int (nI o)), none, none]) rfl (by decide) (Nat.le_of_ble_eq_true rfl) rfl ?_
  have hN := hf.1.2.2.2
  have hA := fA_le hf.1
  refine ae_aload_n (pc := 0) dX0_arrange_0 rfl ?_
  refine ae_getR (pc := 1) (k := 27) (c := 0) (j := 1) (q := 16) dX0_arrange_1 rfl rfl (Nat.le_of_ble_eq_true rfl) rfl (Nat.le_of_ble_eq_true rfl) rfl ?_
  refine ae_callV (pc := 4) (z := zX8_takeStock) (k := 16) (As := []) dX0_arrange_4 rfl rfl rfl rfl (Nat.le_of_ble_eq_true rfl) rfl (Nat.le_of_ble_eq_true rfl) (Nat.le_of_ble_eq_true rfl) (sc_takeStock d M f hg hf) (fun v M' hq => ?_)
  obtain ⟨rfl, hsv⟩ := hq
  obtain ⟨hg1, fr1, -, -, sf⟩ := SV_of hg hsv
  have hs19 : ∀ e, e < 16 → M'.1 19 e = srv e := fun e he => (sf.2.2.1 e he).trans (hs e he).symm
  clear sf hsv
  have ag := fun nn => AG_nn hg1 nn
  have a3 : ∀ nn, (nnM M' nn).1 1 3 = nI (fN f) := fun nn => (AG_w (ag nn) hf.1).2.2
  have l4 : ∀ nn k, k < fN f → (nnM M' nn).1 4 k = f (275 + k) := fun nn k hk => ((ag nn).2.2.1 k hk).2
  have fin : ∀ nn, IVs f (srt f srv pl0 o (fN f)).2.2 nn → am_E none (am_R (d + 3)) cX0_arrange 0 (some .int) (fun v M'' => v = some (.int (nI (mvd (srt f srv pl0 o (fN f)).2.2 (fN f)))) ∧ AG M'' (raF f (srt f srv pl0 o (fN f)).2.2) ∧ wf (raF f (srt f srv pl0 o (fN f)).2.2) ∧ FR M M'') (104, [some (.ref 27), some (.int (nI o)), none, none], [], nnM M' nn) := by
    intro nn hI
    obtain ⟨b0, b1, b3⟩ := AG_w (ag nn) hf.1
    have hrn := sc_renumberIndices (d + 1) (nnM M' nn) f hf.1 b0 b1 b3
    refine ae_aload_n (pc := 104) dX0_arrange_104 rfl ?_
    refine ae_callV (pc := 105) (z := zX0_renumberIndices) (k := 27) (As := []) dX0_arrange_105 rfl rfl rfl rfl (Nat.le_of_ble_eq_true rfl) rfl (Nat.le_of_ble_eq_true rfl) (Nat.le_of_ble_eq_true rfl) (hrn) (fun v M' hq => ?_)
    obtain ⟨rfl, i, rfl, hi⟩ := hq
    rw [nnM_28] at hi
    have h28 : (iM (nnM M' nn) i).1 28 = nn := by rw [iM_ne _ _ (by decide), nnM_28]
    have hmv := sc_moveColors (d + 1) (iM (nnM M' nn) i) f hf.1 (by rw [iM_ne _ _ (by decide)]; exact b3) (srt f srv pl0 o (fN f)).2.2 (by rw [h28]; exact hI)
    refine ae_aload_n (pc := 108) dX0_arrange_108 rfl ?_
    refine ae_callV (pc := 109) (z := zX0_moveColors) (k := 27) (As := []) dX0_arrange_109 rfl rfl rfl rfl (Nat.le_of_ble_eq_true rfl) rfl (Nat.le_of_ble_eq_true rfl) (Nat.le_of_ble_eq_true rfl) (hmv) (fun v M' hq => ?_)
    obtain ⟨rfl, c, oc, rfl, hc⟩ := hq
    rw [h28, iM_ne _ _ (by decide), nnM_ne _ _ (by decide)] at hc
    have hgx : agS ((nnM M' nn).1 1) ((nnM M' nn).1 2) ((nnM M' nn).1 3) ((nnM M' nn).1 4) ((nnM M' nn).1 5) f := ag nn
    rw [show (nnM M' nn).1 3 = M'.1 3 from nnM_ne _ _ (by decide)] at hgx
    refine ae_ireturn (pc := 112) dX0_arrange_112 rfl ?_
    refine ⟨rfl, ?_, wf_sort hf hI, ?_⟩
    · unfold AG
      rw [pcM_3, pcM_ne _ _ _ (by decide) (by decide), pcM_ne _ _ _ (by decide) (by decide), pcM_ne _ _ _ (by decide) (by decide), pcM_ne _ _ _ (by decide) (by decide), iM_5, iM_ne _ _ (by decide), iM_ne _ _ (by decide), iM_ne _ _ (by decide)]
      exact agS_sort hf hgx hI hc hi
    · refine FR_tr fr1 (fun k hk => ?_)
      rw [pcM_ne _ _ _ (by omega) (by omega), iM_ne _ _ (by omega), nnM_ne _ _ (by omega)]
  have lp2 : ∀ nn, AN f (srt f srv pl0 o 0).2.1 (srt f srv pl0 o 0).2.2 nn 0 → am_E none (am_R (d + 3)) cX0_arrange 0 (some .int) (fun v M'' => v = some (.int (nI (mvd (srt f srv pl0 o (fN f)).2.2 (fN f)))) ∧ AG M'' (raF f (srt f srv pl0 o (fN f)).2.2) ∧ wf (raF f (srt f srv pl0 o (fN f)).2.2) ∧ FR M M'') (53, [some (.ref 27), some (.int (nI o)), some (.int (oI (srt f srv pl0 o 0).1)), some (.int (nI 0))], [], nnM M' nn) := by
    refine am_down (P := fun e => ∀ nn, AN f (srt f srv pl0 o e).2.1 (srt f srv pl0 o e).2.2 nn e → am_E none (am_R (d + 3)) cX0_arrange 0 (some .int) _ (53, [some (.ref 27), some (.int (nI o)), some (.int (oI (srt f srv pl0 o e).1)), some (.int (nI e))], [], nnM M' nn)) (fN f) (fun e he ih nn hn => ?_)
    obtain ⟨s1, s2, s3, s4, s5⟩ := srt_ok f srv pl0 o hN he
    refine ae_iload_n (pc := 53) dX0_arrange_53 rfl ?_
    refine ae_aload_n (pc := 54) dX0_arrange_54 rfl ?_
    refine ae_getR (pc := 55) (k := 27) (c := 0) (j := 0) (q := 1) dX0_arrange_55 rfl rfl (Nat.le_of_ble_eq_true rfl) rfl (Nat.le_of_ble_eq_true rfl) rfl ?_
    refine ae_getI (pc := 58) (k := 1) (c := 7) (j := 3) (v := nI (fN f)) dX0_arrange_58 rfl rfl (Or.inl rfl) (Nat.le_of_ble_eq_true rfl) rfl (Nat.le_of_ble_eq_true rfl) (a3 nn) ?_
    refine ae_icmp_ge (pc := 61) (t := 104) dX0_arrange_61 (by decide) (fun c61 => ?_) (fun c61 => ?_)
    · have he2 : e = fN f := by rw [nI_leI (by omega) (by omega)] at c61; omega
      subst he2
      exact ae_forget [2, 3] rfl (fin nn (AN_end hn (upl_all s1)))
    · have he2 : e < fN f := by rw [nI_leI (by omega) (by omega)] at c61; omega
      have ih2 := ih he2
      have h01 := (hf.2.2.1 e he2).2
      by_cases hl : f (275 + e) = 1
      · have es : srt f srv pl0 o (e + 1) = srt f srv pl0 o e := by rw [srt_s, if_pos hl]
        rw [es] at ih2
        have st := ih2 nn (AN_l hn hl)
        refine ae_aload_n (pc := 64) dX0_arrange_64 rfl ?_
        refine ae_getR (pc := 65) (k := 27) (c := 0) (j := 0) (q := 1) dX0_arrange_65 rfl rfl (Nat.le_of_ble_eq_true rfl) rfl (Nat.le_of_ble_eq_true rfl) rfl ?_
        refine ae_getR (pc := 68) (k := 1) (c := 7) (j := 5) (q := 4) dX0_arrange_68 rfl rfl (Nat.le_of_ble_eq_true rfl) rfl (Nat.le_of_ble_eq_true rfl) rfl ?_
        refine ae_iload_n (pc := 71) dX0_arrange_71 rfl ?_
        refine ae_baload (pc := 72) (k := 4) (N := 16) (v := f (275 + e)) (e) dX0_arrange_72 (Nat.le_of_ble_eq_true rfl) rfl rfl rfl (by omega) (l4 nn e he2) ?_
        refine ae_if_eq (pc := 73) (t := 79) dX0_arrange_73 (by decide) (fun c73 => ?_) (fun c73 => ?_)
        · exact absurd (hl.symm.trans c73) (by decide)
        refine ae_goto (pc := 76) (t := 98) dX0_arrange_76 (by decide) ?_
        refine ae_iinc (pc := 98) (v := nI (e + 1)) dX0_arrange_98 rfl (nI_inc e) ?_
        refine ae_goto (pc := 101) (t := 53) dX0_arrange_101 (by decide) ?_
        exact st
      · obtain ⟨s6, s7, s8, s9, s10⟩ := srt_ok f srv pl0 o hN (show e + 1 ≤ fN f by omega)
        obtain ⟨b, hb⟩ := s10 e (by omega) hl
        obtain ⟨b1, b2, b3⟩ := nxt_lt hb
        have es : srt f srv pl0 o (e + 1) = (some b, upd (srt f srv pl0 o e).2.1 b 1, fun j => if j = e then b else (srt f srv pl0 o e).2.2 j) := by rw [srt_s, if_neg hl, hb]
        rw [es] at ih2
        have st := ih2 (upd nn b (nI e)) (AN_s hN he2 hn hl b1 b2 b3)
        have h0 := h01.resolve_right hl
        have hch := sc_chooseNext d (nnM M' nn) f srv (srt f srv pl0 o e).2.1 (ag nn) hf (fun x hx => by rw [nnM_ne _ _ (by decide)]; exact hs19 x hx) o ho (srt f srv pl0 o e).1 s2 (fun x hx => by
          rw [nnM_28]
          obtain ⟨n1, n2, n3, n4⟩ := hn
          by_cases hxl : f (275 + x) = 1
          · rw [(n1 x hx hxl).1]
            exact ⟨fun q => absurd q (nI_ne1 (by omega)), fun q => absurd (Or.inl hxl) q⟩
          · by_cases hxp : (srt f srv pl0 o e).2.1 x = 0
            · exact ⟨fun _ q => q.elim hxl (fun z => z hxp), fun _ => n2 x hx hxl hxp⟩
            · obtain ⟨j, j1, j2, j3, j4⟩ := n3 x hx hxl hxp
              rw [j3]
              exact ⟨fun q => absurd q (nI_ne1 (by omega)), fun q => absurd (Or.inr hxp) q⟩)
        rw [hb] at hch
        refine ae_aload_n (pc := 64) dX0_arrange_64 rfl ?_
        refine ae_getR (pc := 65) (k := 27) (c := 0) (j := 0) (q := 1) dX0_arrange_65 rfl rfl (Nat.le_of_ble_eq_true rfl) rfl (Nat.le_of_ble_eq_true rfl) rfl ?_
        refine ae_getR (pc := 68) (k := 1) (c := 7) (j := 5) (q := 4) dX0_arrange_68 rfl rfl (Nat.le_of_ble_eq_true rfl) rfl (Nat.le_of_ble_eq_true rfl) rfl ?_
        refine ae_iload_n (pc := 71) dX0_arrange_71 rfl ?_
        refine ae_baload (pc := 72) (k := 4) (N := 16) (v := f (275 + e)) (e) dX0_arrange_72 (Nat.le_of_ble_eq_true rfl) rfl rfl rfl (by omega) (l4 nn e he2) ?_
        refine ae_if_eq (pc := 73) (t := 79) dX0_arrange_73 (by decide) (fun c73 => ?_) (fun c73 => ?_)
        rotate_left
        · exact absurd h0 c73
        refine ae_aload_n (pc := 79) dX0_arrange_79 rfl ?_
        refine ae_iload_n (pc := 80) dX0_arrange_80 rfl ?_
        refine ae_iload_n (pc := 81) dX0_arrange_81 rfl ?_
        refine ae_pcallV (pc := 82) (z := zX0_chooseNext) (k := 27) (As := [_, _]) dX0_arrange_82 rfl rfl rfl rfl (Nat.le_of_ble_eq_true rfl) rfl (Nat.le_of_ble_eq_true rfl) (Nat.le_of_ble_eq_true rfl) (hch) ?_
        refine ae_istore_n (pc := 85) dX0_arrange_85 rfl (Nat.le_of_ble_eq_true rfl) ?_
        refine ae_iload_n (pc := 86) dX0_arrange_86 rfl ?_
        refine ae_iconst (pc := 87) (v := (-1)) dX0_arrange_87 (by decide) ?_
        refine ae_icmp_eq (pc := 88) (t := 98) dX0_arrange_88 (by decide) (fun c88 => ?_) (fun c88 => ?_)
        · exact absurd c88 (nI_ne1 (by omega))
        refine ae_aload_n (pc := 91) dX0_arrange_91 rfl ?_
        refine ae_getR (pc := 92) (k := 27) (c := 0) (j := 2) (q := 28) dX0_arrange_92 rfl rfl (Nat.le_of_ble_eq_true rfl) rfl (Nat.le_of_ble_eq_true rfl) rfl ?_
        refine ae_iload_n (pc := 95) dX0_arrange_95 rfl ?_
        refine ae_iload_n (pc := 96) dX0_arrange_96 rfl ?_
        refine ae_iastore (pc := 97) (k := 28) (N := 16) (b) dX0_arrange_97 (Nat.le_of_ble_eq_true rfl) rfl rfl rfl (by omega) rfl ?_
        refine ae_M (nnM_u _ _ _) ?_
        rw [nnM_28]
        refine ae_iinc (pc := 98) (v := nI (e + 1)) dX0_arrange_98 rfl (nI_inc e) ?_
        refine ae_goto (pc := 101) (t := 53) dX0_arrange_101 (by decide) ?_
        exact st
  have lp1 : ∀ nn : fT, (∀ x, x < 0 → nn x = if f (275 + x) = 1 then nI x else -1) → am_E none (am_R (d + 3)) cX0_arrange 0 (some .int) (fun v M'' => v = some (.int (nI (mvd (srt f srv pl0 o (fN f)).2.2 (fN f)))) ∧ AG M'' (raF f (srt f srv pl0 o (fN f)).2.2) ∧ wf (raF f (srt f srv pl0 o (fN f)).2.2) ∧ FR M M'') (9, [some (.ref 27), some (.int (nI o)), some (.int (nI 0)), none], [], nnM M' nn) := by
    refine am_down (P := fun e => ∀ nn : fT, (∀ x, x < e → nn x = if f (275 + x) = 1 then nI x else -1) → am_E none (am_R (d + 3)) cX0_arrange 0 (some .int) _ (9, [some (.ref 27), some (.int (nI o)), some (.int (nI e)), none], [], nnM M' nn)) (fN f) (fun e he ih nn hn => ?_)
    refine ae_iload_n (pc := 9) dX0_arrange_9 rfl ?_
    refine ae_aload_n (pc := 10) dX0_arrange_10 rfl ?_
    refine ae_getR (pc := 11) (k := 27) (c := 0) (j := 0) (q := 1) dX0_arrange_11 rfl rfl (Nat.le_of_ble_eq_true rfl) rfl (Nat.le_of_ble_eq_true rfl) rfl ?_
    refine ae_getI (pc := 14) (k := 1) (c := 7) (j := 3) (v := nI (fN f)) dX0_arrange_14 rfl rfl (Or.inl rfl) (Nat.le_of_ble_eq_true rfl) rfl (Nat.le_of_ble_eq_true rfl) (a3 nn) ?_
    refine ae_icmp_ge (pc := 17) (t := 49) dX0_arrange_17 (by decide) (fun c17 => ?_) (fun c17 => ?_)
    · have he2 : e = fN f := by rw [nI_leI (by omega) (by omega)] at c17; omega
      subst he2
      have st := lp2 nn (AN_0 hN hn)
      refine ae_iconst (pc := 49) (v := (-1)) dX0_arrange_49 (by decide) ?_
      refine ae_istore_n (pc := 50) dX0_arrange_50 rfl (Nat.le_of_ble_eq_true rfl) ?_
      refine ae_iconst (pc := 51) (v := nI 0) dX0_arrange_51 (by decide) ?_
      refine ae_istore_n (pc := 52) dX0_arrange_52 rfl (Nat.le_of_ble_eq_true rfl) ?_
      exact st
    · have he2 : e < fN f := by rw [nI_leI (by omega) (by omega)] at c17; omega
      have h01 := (hf.2.2.1 e he2).2
      have st : ∀ v, v = (if f (275 + e) = 1 then nI e else -1) → am_E none (am_R (d + 3)) cX0_arrange 0 (some .int) (fun v M'' => v = some (.int (nI (mvd (srt f srv pl0 o (fN f)).2.2 (fN f)))) ∧ AG M'' (raF f (srt f srv pl0 o (fN f)).2.2) ∧ wf (raF f (srt f srv pl0 o (fN f)).2.2) ∧ FR M M'') (9, [some (.ref 27), some (.int (nI o)), some (.int (nI (e + 1))), none], [], nnM M' (upd nn e v)) := by
        intro v hv
        refine ih he2 _ (fun x hx => ?_)
        by_cases hxe : x = e
        · subst hxe; rw [upd_self, hv]
        · rw [upd_ne _ _ hxe]; exact hn x (by omega)
      refine ae_aload_n (pc := 20) dX0_arrange_20 rfl ?_
      refine ae_getR (pc := 21) (k := 27) (c := 0) (j := 2) (q := 28) dX0_arrange_21 rfl rfl (Nat.le_of_ble_eq_true rfl) rfl (Nat.le_of_ble_eq_true rfl) rfl ?_
      refine ae_iload_n (pc := 24) dX0_arrange_24 rfl ?_
      refine ae_aload_n (pc := 25) dX0_arrange_25 rfl ?_
      refine ae_getR (pc := 26) (k := 27) (c := 0) (j := 0) (q := 1) dX0_arrange_26 rfl rfl (Nat.le_of_ble_eq_true rfl) rfl (Nat.le_of_ble_eq_true rfl) rfl ?_
      refine ae_getR (pc := 29) (k := 1) (c := 7) (j := 5) (q := 4) dX0_arrange_29 rfl rfl (Nat.le_of_ble_eq_true rfl) rfl (Nat.le_of_ble_eq_true rfl) rfl ?_
      refine ae_iload_n (pc := 32) dX0_arrange_32 rfl ?_
      refine ae_baload (pc := 33) (k := 4) (N := 16) (v := f (275 + e)) (e) dX0_arrange_33 (Nat.le_of_ble_eq_true rfl) rfl rfl rfl (by omega) (l4 nn e he2) ?_
      refine ae_if_eq (pc := 34) (t := 41) dX0_arrange_34 (by decide) (fun c34 => ?_) (fun c34 => ?_)
      · refine ae_iconst (pc := 41) (v := (-1)) dX0_arrange_41 (by decide) ?_
        refine ae_iastore (pc := 42) (k := 28) (N := 16) (e) dX0_arrange_42 (Nat.le_of_ble_eq_true rfl) rfl rfl rfl (by omega) rfl ?_
        refine ae_M (nnM_u _ _ _) ?_
        rw [nnM_28]
        refine ae_iinc (pc := 43) (v := nI (e + 1)) dX0_arrange_43 rfl (nI_inc e) ?_
        refine ae_goto (pc := 46) (t := 9) dX0_arrange_46 (by decide) ?_
        first | exact st _ (by rw [if_neg (fun q => absurd (c34.symm.trans q) (by decide))]) | exact st _ (by rw [if_pos (h01.resolve_left c34)])
      · refine ae_iload_n (pc := 37) dX0_arrange_37 rfl ?_
        refine ae_goto (pc := 38) (t := 42) dX0_arrange_38 (by decide) ?_
        refine ae_iastore (pc := 42) (k := 28) (N := 16) (e) dX0_arrange_42 (Nat.le_of_ble_eq_true rfl) rfl rfl rfl (by omega) rfl ?_
        refine ae_M (nnM_u _ _ _) ?_
        rw [nnM_28]
        refine ae_iinc (pc := 43) (v := nI (e + 1)) dX0_arrange_43 rfl (nI_inc e) ?_
        refine ae_goto (pc := 46) (t := 9) dX0_arrange_46 (by decide) ?_
        first | exact st _ (by rw [if_neg (fun q => absurd (c34.symm.trans q) (by decide))]) | exact st _ (by rw [if_pos (h01.resolve_left c34)])
  have st := lp1 (M'.1 28) (fun x hx => absurd hx (Nat.not_lt_zero x))
  rw [nnM_eta] at st
  refine ae_iconst (pc := 7) (v := nI 0) dX0_arrange_7 (by decide) ?_
  refine ae_istore_n (pc := 8) dX0_arrange_8 rfl (Nat.le_of_ble_eq_true rfl) ?_
  exact st

