theorem sm_swap0 (d : Nat) (M : am_M) (x y : Int32) (hn : ¬ (inE (M.1 34) x ∧ inE (M.1 34) y)) : am_R (d + 3) zX11_swap [.ref 33, .int x, .int y] M (fun v M' => v = some (.int (-2)) ∧ M' = M) := by
  refine ae_enter (z := zX11_swap) (y := yX11_swap) (cc := cX11_swap) (mL := 5) (rt := some .int) (ci := 11) (st := false) (np := 2) (L := [some (.ref 33), some (.int x), some (.int y), none, none]) rfl (by decide) (Nat.le_of_ble_eq_true rfl) rfl ?_
  refine ae_aload_n (pc := 0) dX11_swap_0 rfl ?_
  refine ae_iload_n (pc := 1) dX11_swap_1 rfl ?_
  refine ae_pcallV (pc := 2) (z := zX11_isEntry) (k := 33) (As := [_]) dX11_swap_2 rfl rfl rfl rfl (Nat.le_of_ble_eq_true rfl) rfl (Nat.le_of_ble_eq_true rfl) (Nat.le_of_ble_eq_true rfl) (sm_isEntry d M _) ?_
  refine ae_if_eq (pc := 5) (t := 16) dX11_swap_5 (by decide) (fun c5 => ?_) (fun c5 => ?_)
  · refine ae_bipush (pc := 16) (v := (-2)) dX11_swap_16 (by decide) ?_
    refine ae_ireturn (pc := 18) dX11_swap_18 rfl ?_
    exact ⟨rfl, rfl⟩
  · refine ae_aload_n (pc := 8) dX11_swap_8 rfl ?_
    refine ae_iload_n (pc := 9) dX11_swap_9 rfl ?_
    refine ae_pcallV (pc := 10) (z := zX11_isEntry) (k := 33) (As := [_]) dX11_swap_10 rfl rfl rfl rfl (Nat.le_of_ble_eq_true rfl) rfl (Nat.le_of_ble_eq_true rfl) (Nat.le_of_ble_eq_true rfl) (sm_isEntry d M _) ?_
    refine ae_if_ne (pc := 13) (t := 19) dX11_swap_13 (by decide) (fun c13 => ?_) (fun c13 => ?_)
    · exact (hn ⟨bI_ne0.mp c5, bI_ne0.mp c13⟩).elim
    · refine ae_bipush (pc := 16) (v := (-2)) dX11_swap_16 (by decide) ?_
      refine ae_ireturn (pc := 18) dX11_swap_18 rfl ?_
      exact ⟨rfl, rfl⟩
theorem sm_swap (d : Nat) (M : am_M) (hf : wf0 (M.1 34)) (u : Nat) (hu : M.1 33 2 = nI u) (hu2 : u ≤ 10) (a b : Nat) (ha : a < fN (M.1 34)) (hb : b < fN (M.1 34)) : am_R (d + 3) zX11_swap [.ref 33, .int (nI a), .int (nI b)] M (fun v M' => v = some (.int (M.1 34 (259 + a))) ∧ ∃ O A B, M' = raM (am_u (kpM M u 0).1 39 O, M.2) A B (raF (kpF (M.1 34) 0) (swO a b))) := by
  refine ae_enter (z := zX11_swap) (y := yX11_swap) (cc := cX11_swap) (mL := 5) (rt := some .int) (ci := 11) (st := false) (np := 2) (L := [some (.ref 33), some (.int (nI a)), some (.int (nI b)), none, none]) rfl (by decide) (Nat.le_of_ble_eq_true rfl) rfl ?_
  obtain ⟨-, -, hn1, hn2⟩ := id hf
  obtain ⟨q1, q2, q3, q4⟩ := wf0_kp hf 0
  refine ae_aload_n (pc := 0) dX11_swap_0 rfl ?_
  refine ae_iload_n (pc := 1) dX11_swap_1 rfl ?_
  refine ae_pcallV (pc := 2) (z := zX11_isEntry) (k := 33) (As := [_]) dX11_swap_2 rfl rfl rfl rfl (Nat.le_of_ble_eq_true rfl) rfl (Nat.le_of_ble_eq_true rfl) (Nat.le_of_ble_eq_true rfl) (sm_isEntry d M _) ?_
  refine ae_if_eq (pc := 5) (t := 16) dX11_swap_5 (by decide) (fun q => absurd (inE_of hf ha) (bI_eq0.mp q)) (fun _ => ?_)
  refine ae_aload_n (pc := 8) dX11_swap_8 rfl ?_
  refine ae_iload_n (pc := 9) dX11_swap_9 rfl ?_
  refine ae_pcallV (pc := 10) (z := zX11_isEntry) (k := 33) (As := [_]) dX11_swap_10 rfl rfl rfl rfl (Nat.le_of_ble_eq_true rfl) rfl (Nat.le_of_ble_eq_true rfl) (Nat.le_of_ble_eq_true rfl) (sm_isEntry d M _) ?_
  refine ae_if_ne (pc := 13) (t := 19) dX11_swap_13 (by decide) (fun _ => ?_) (fun q => absurd (inE_of hf hb) (bI_eq0.mp (Classical.not_not.mp q)))
  refine ae_aload_n (pc := 19) dX11_swap_19 rfl ?_
  refine ae_iconst (pc := 20) (v := nI 0) dX11_swap_20 (by decide) ?_
  refine ae_callV (pc := 21) (z := zX11_keeps) (k := 33) (As := [_]) dX11_swap_21 rfl rfl rfl rfl (Nat.le_of_ble_eq_true rfl) rfl (Nat.le_of_ble_eq_true rfl) (Nat.le_of_ble_eq_true rfl) (sm_keeps (d + 1) M u hu hu2 _) (fun v M' hq => ?_)
  obtain ⟨rfl, rfl⟩ := hq
  refine ae_aload_n (pc := 24) dX11_swap_24 rfl ?_
  refine ae_getR (pc := 25) (k := 33) (c := 11) (j := 0) (q := 34) dX11_swap_25 rfl rfl (Nat.le_of_ble_eq_true rfl) rfl (Nat.le_of_ble_eq_true rfl) rfl ?_
  refine ae_sipush (pc := 28) (v := nI 259) dX11_swap_28 (by decide) ?_
  refine ae_iload_n (pc := 31) dX11_swap_31 rfl ?_
  refine ae_iadd (pc := 32) dX11_swap_32 (nI_add _ _) ?_
  refine ae_iaload (pc := 33) (k := 34) (N := 549) (v := M.1 34 (259 + a)) _ dX11_swap_33 (Nat.le_of_ble_eq_true rfl) rfl rfl rfl (by omega) (by rw [kp34, kpF_ne _ _ (by omega)]) ?_
  refine ae_istore_n (pc := 34) dX11_swap_34 rfl (Nat.le_of_ble_eq_true rfl) ?_
  refine ae_iconst (pc := 35) (v := nI 0) dX11_swap_35 (by decide) ?_
  refine ae_istore (pc := 36) dX11_swap_36 rfl (Nat.le_of_ble_eq_true rfl) ?_
  skip
  refine ae_M (M' := (am_u (kpM M u 0).1 39 (stF ((kpM M u 0).1 39) 0 0 (fun e => nI (swO a b e))), M.2)) (by rw [st_0, am_u_eta]; rfl) ?_
  refine am_down (P := fun k => am_E none (am_R (d + 2)) cX11_swap 11 (some .int) _ (38, [some (.ref 33), some (.int (nI a)), some (.int (nI b)), some (.int (M.1 34 (259 + a))), some (.int (nI k))], [], (am_u (kpM M u 0).1 39 (stF ((kpM M u 0).1 39) 0 k (fun e => nI (swO a b e))), M.2))) 16 (fun k hk ih => ?_)
  refine ae_iload (pc := 38) dX11_swap_38 rfl ?_
  refine ae_bipush (pc := 40) (v := nI 16) dX11_swap_40 (by decide) ?_
  refine ae_icmp_ge (pc := 42) (t := 80) dX11_swap_42 (by decide) (fun c42 => ?_) (fun c42 => ?_)
  · have hk2 : k = 16 := by rw [nI_leI (by omega) (by omega)] at c42; omega
    subst hk2
    clear ih
    generalize hOe : stF ((kpM M u 0).1 39) 0 16 (fun e => nI (swO a b e)) = O
    have e34 : ((am_u (kpM M u 0).1 39 O, M.2) : am_M).1 34 = kpF (M.1 34) 0 := by simp only [am_u]; exact kp34 M u 0
    have sp := sm_rearranges d (am_u (kpM M u 0).1 39 O, M.2) (by rw [e34]; exact q1) (swO a b) (by
      rw [e34, q4]
      intro e he
      refine ⟨?_, ?_⟩
      · simp only [am_u_self]
        rw [← hOe]
        have := st_in ((kpM M u 0).1 39) (a := 0) (k := 16) (p := e) (fun e => nI (swO a b e)) (by omega)
        rwa [Nat.zero_add] at this
      · unfold swO; split
        · exact hb
        · split
          · exact ha
          · exact he)
    rw [e34, q4] at sp
    have hm := mvd_le (swO a b) (fN (M.1 34))
    refine ae_aload_n (pc := 80) dX11_swap_80 rfl ?_
    refine ae_callV (pc := 81) (z := zX11_rearranges) (k := 33) (As := []) dX11_swap_81 rfl rfl rfl rfl (Nat.le_of_ble_eq_true rfl) rfl (Nat.le_of_ble_eq_true rfl) (Nat.le_of_ble_eq_true rfl) (sp) (fun v M' hq => ?_)
    obtain ⟨rfl, rfl⟩ := hq
    refine ae_istore (pc := 84) dX11_swap_84 rfl (Nat.le_of_ble_eq_true rfl) ?_
    refine ae_iload (pc := 86) dX11_swap_86 rfl ?_
    refine ae_if_ge (pc := 88) (t := 96) dX11_swap_88 (by decide) (fun c88 => ?_) (fun c88 => ?_)
    rotate_left
    · exact absurd (nI_pos' (by omega)) c88
    refine ae_iload_n (pc := 96) dX11_swap_96 rfl ?_
    refine ae_ireturn (pc := 97) dX11_swap_97 rfl ?_
    exact ⟨rfl, _, _, _, rfl⟩
  · have hk2 : k < 16 := by rw [nI_leI (by omega) (by omega)] at c42; omega
    refine ae_aload_n (pc := 45) dX11_swap_45 rfl ?_
    refine ae_getR (pc := 46) (k := 33) (c := 11) (j := 8) (q := 39) dX11_swap_46 rfl rfl (Nat.le_of_ble_eq_true rfl) rfl (Nat.le_of_ble_eq_true rfl) rfl ?_
    refine ae_iload (pc := 49) dX11_swap_49 rfl ?_
    refine ae_iload (pc := 51) dX11_swap_51 rfl ?_
    refine ae_iload_n (pc := 53) dX11_swap_53 rfl ?_
    refine ae_icmp_ne (pc := 54) (t := 61) dX11_swap_54 (by decide) (fun c54 => ?_) (fun c54 => ?_)
    · rw [nI_eq (by omega) (by omega)] at c54
      refine ae_iload (pc := 61) dX11_swap_61 rfl ?_
      refine ae_iload_n (pc := 63) dX11_swap_63 rfl ?_
      refine ae_icmp_ne (pc := 64) (t := 71) dX11_swap_64 (by decide) (fun c64 => ?_) (fun c64 => ?_)
      · rw [nI_eq (by omega) (by omega)] at c64
        refine ae_iload (pc := 71) dX11_swap_71 rfl ?_
        refine ae_iastore (pc := 73) (k := 39) (N := 16) (v := nI (swO a b k)) _ dX11_swap_73 (Nat.le_of_ble_eq_true rfl) rfl rfl rfl (by omega) (by unfold swO; first | rw [if_pos (Classical.not_not.mp c54)] | rw [if_neg c54, if_pos (Classical.not_not.mp c64)] | rw [if_neg c54, if_neg c64]) ?_
        refine ae_iinc (pc := 74) (v := nI (k + 1)) dX11_swap_74 rfl (nI_inc k) ?_
        refine ae_goto (pc := 77) (t := 38) dX11_swap_77 (by decide) ?_
        refine ae_M ?_ (ih hk2)
        rw [← st_s, Nat.zero_add]
        simp only [am_u_u, am_u_self]
      · rw [nI_eq (by omega) (by omega)] at c64
        refine ae_iload_n (pc := 67) dX11_swap_67 rfl ?_
        refine ae_goto (pc := 68) (t := 73) dX11_swap_68 (by decide) ?_
        refine ae_iastore (pc := 73) (k := 39) (N := 16) (v := nI (swO a b k)) _ dX11_swap_73 (Nat.le_of_ble_eq_true rfl) rfl rfl rfl (by omega) (by unfold swO; first | rw [if_pos (Classical.not_not.mp c54)] | rw [if_neg c54, if_pos (Classical.not_not.mp c64)] | rw [if_neg c54, if_neg c64]) ?_
        refine ae_iinc (pc := 74) (v := nI (k + 1)) dX11_swap_74 rfl (nI_inc k) ?_
        refine ae_goto (pc := 77) (t := 38) dX11_swap_77 (by decide) ?_
        refine ae_M ?_ (ih hk2)
        rw [← st_s, Nat.zero_add]
        simp only [am_u_u, am_u_self]
    · rw [nI_eq (by omega) (by omega)] at c54
      refine ae_iload_n (pc := 57) dX11_swap_57 rfl ?_
      refine ae_goto (pc := 58) (t := 73) dX11_swap_58 (by decide) ?_
      refine ae_iastore (pc := 73) (k := 39) (N := 16) (v := nI (swO a b k)) _ dX11_swap_73 (Nat.le_of_ble_eq_true rfl) rfl rfl rfl (by omega) (by unfold swO; first | rw [if_pos (Classical.not_not.mp c54)] | rw [if_neg c54, if_pos (Classical.not_not.mp c64)] | rw [if_neg c54, if_neg c64]) ?_
      refine ae_iinc (pc := 74) (v := nI (k + 1)) dX11_swap_74 rfl (nI_inc k) ?_
      refine ae_goto (pc := 77) (t := 38) dX11_swap_77 (by decide) ?_
      refine ae_M ?_ (ih hk2)
      rw [← st_s, Nat.zero_add]
      simp only [am_u_u, am_u_self]
theorem sm_sort0 (d : Nat) (M : am_M) (x : Int32) (hn : ¬ (nI 0 ≤ x ∧ x ≤ nI 2)) : am_R (d + 2) zX11_sort [.ref 33, .int x] M (fun v M' => v = some (.int (-2)) ∧ M' = M) := by
  refine ae_enter (z := zX11_sort) (y := yX11_sort) (cc := cX11_sort) (mL := 4) (rt := some .int) (ci := 11) (st := false) (np := 1) (L := [some (.ref 33), some (.int x), none, none]) rfl (by decide) (Nat.le_of_ble_eq_true rfl) rfl ?_
  refine ae_iload_n (pc := 0) dX11_sort_0 rfl ?_
  refine ae_iconst (pc := 1) (v := nI 0) dX11_sort_1 (by decide) ?_
  refine ae_iconst (pc := 2) (v := nI 2) dX11_sort_2 (by decide) ?_
  refine ae_pcallS (pc := 3) (z := zX11_in) (As := [_, _, _]) dX11_sort_3 rfl rfl rfl rfl (Nat.le_of_ble_eq_true rfl) (sm_in d _ _ _ _) ?_
  refine ae_if_ne (pc := 6) (t := 12) dX11_sort_6 (by decide) (fun c6 => ?_) (fun c6 => ?_)
  · exact (hn (bI_ne0.mp c6)).elim
  · refine ae_bipush (pc := 9) (v := (-2)) dX11_sort_9 (by decide) ?_
    refine ae_ireturn (pc := 11) dX11_sort_11 rfl ?_
    exact ⟨rfl, rfl⟩
theorem sm_sort (d : Nat) (M : am_M) (hf : wf0 (M.1 34)) (u : Nat) (hu : M.1 33 2 = nI u) (hu2 : u ≤ 10) (o : Nat) (ho : o < 3) : am_R (d + 6) zX11_sort [.ref 33, .int (nI o)] M (fun v M' => ∃ srv pl0, (∀ e, e < 16 → srv e = nI (svc (kpF (M.1 34) 0) e (if 0 < fN (M.1 34) then fA (M.1 34) else 0))) ∧ v = some (.int (nI (mvd (srt (kpF (M.1 34) 0) srv pl0 o (fN (M.1 34))).2.2 (fN (M.1 34))))) ∧ ∃ O A B P, M' = raM (am_u (am_u (am_u (kpM M u 0).1 42 srv) 47 P) 39 O, M.2) A B (raF (kpF (M.1 34) 0) (srt (kpF (M.1 34) 0) srv pl0 o (fN (M.1 34))).2.2)) := by
  refine ae_enter (z := zX11_sort) (y := yX11_sort) (cc := cX11_sort) (mL := 4) (rt := some .int) (ci := 11) (st := false) (np := 1) (L := [some (.ref 33), some (.int (nI o)), none, none]) rfl (by decide) (Nat.le_of_ble_eq_true rfl) rfl ?_
  obtain ⟨-, -, hn1, hn2⟩ := id hf
  obtain ⟨q1, q2, q3, q4⟩ := wf0_kp hf 0
  have q5 : fA (kpF (M.1 34) 0) = fA (M.1 34) := by unfold fA; rw [q2, q3]
  refine ae_iload_n (pc := 0) dX11_sort_0 rfl ?_
  refine ae_iconst (pc := 1) (v := nI 0) dX11_sort_1 (by decide) ?_
  refine ae_iconst (pc := 2) (v := nI 2) dX11_sort_2 (by decide) ?_
  refine ae_pcallS (pc := 3) (z := zX11_in) (As := [_, _, _]) dX11_sort_3 rfl rfl rfl rfl (Nat.le_of_ble_eq_true rfl) (sm_in (d + 4) _ _ _ _) ?_
  refine ae_if_ne (pc := 6) (t := 12) dX11_sort_6 (by decide) (fun _ => ?_) (fun q => absurd (rngI (Nat.zero_le o) (by omega) (by decide)) (bI_eq0.mp (Classical.not_not.mp q)))
  refine ae_aload_n (pc := 12) dX11_sort_12 rfl ?_
  refine ae_iconst (pc := 13) (v := nI 0) dX11_sort_13 (by decide) ?_
  refine ae_callV (pc := 14) (z := zX11_keeps) (k := 33) (As := [_]) dX11_sort_14 rfl rfl rfl rfl (Nat.le_of_ble_eq_true rfl) rfl (Nat.le_of_ble_eq_true rfl) (Nat.le_of_ble_eq_true rfl) (sm_keeps (d + 4) M u hu hu2 _) (fun v M' hq => ?_)
  obtain ⟨rfl, rfl⟩ := hq
  have sc := sm_counts d (kpM M u 0) (by rw [kp34]; exact q1)
  rw [kp34, q4, q5] at sc
  generalize hse : svR ((kpM M u 0).1 42) (kpF (M.1 34) 0) (if 0 < fN (M.1 34) then fA (M.1 34) else 0) = srv at sc
  have hsrv : ∀ e, e < 16 → srv e = nI (svc (kpF (M.1 34) 0) e (if 0 < fN (M.1 34) then fA (M.1 34) else 0)) := by
    intro e he
    rw [← hse]
    have := st_in ((kpM M u 0).1 42) (a := 0) (k := 16) (p := e) (fun e => nI (svc (kpF (M.1 34) 0) e (if 0 < fN (M.1 34) then fA (M.1 34) else 0))) he
    rwa [Nat.zero_add] at this
  refine ae_aload_n (pc := 17) dX11_sort_17 rfl ?_
  refine ae_callV (pc := 18) (z := zX11_counts) (k := 33) (As := []) dX11_sort_18 rfl rfl rfl rfl (Nat.le_of_ble_eq_true rfl) rfl (Nat.le_of_ble_eq_true rfl) (Nat.le_of_ble_eq_true rfl) (sc) (fun v M' hq => ?_)
  obtain ⟨rfl, rfl⟩ := hq
  generalize hN : ((am_u (kpM M u 0).1 42 srv, (kpM M u 0).2) : am_M) = N0
  have n34 : N0.1 34 = kpF (M.1 34) 0 := by rw [← hN]; simp only [am_u]; exact kp34 M u 0
  have n42 : N0.1 42 = srv := by rw [← hN]; simp only [am_u_self]
  have n2 : N0.2 = M.2 := by rw [← hN]; rfl
  have n1 : N0.1 = am_u (kpM M u 0).1 42 srv := by rw [← hN]
  generalize hp0 : N0.1 47 = pl0
  refine ae_iconst (pc := 21) (v := nI 0) dX11_sort_21 (by decide) ?_
  refine ae_istore_n (pc := 22) dX11_sort_22 rfl (Nat.le_of_ble_eq_true rfl) ?_
  skip
  refine ae_M (M' := (am_u (am_u N0.1 47 (stF pl0 0 0 (fun _ => 0))) 39 (stF (N0.1 39) 0 0 (fun e => nI e)), N0.2)) (by rw [st_0, st_0, ← hp0, am_u_eta, am_u_eta]) ?_
  refine am_down (P := fun k => am_E none (am_R (d + 5)) cX11_sort 11 (some .int) _ (23, [some (.ref 33), some (.int (nI o)), some (.int (nI k)), none], [], (am_u (am_u N0.1 47 (stF pl0 0 k (fun _ => 0))) 39 (stF (N0.1 39) 0 k (fun e => nI e)), N0.2))) 16 (fun k hk ih => ?_)
  refine ae_iload_n (pc := 23) dX11_sort_23 rfl ?_
  refine ae_bipush (pc := 24) (v := nI 16) dX11_sort_24 (by decide) ?_
  refine ae_icmp_ge (pc := 26) (t := 49) dX11_sort_26 (by decide) (fun c26 => ?_) (fun c26 => ?_)
  rotate_left
  · have hk2 : k < 16 := by rw [nI_leI (by omega) (by omega)] at c26; omega
    refine ae_aload_n (pc := 29) dX11_sort_29 rfl ?_
    refine ae_getR (pc := 30) (k := 33) (c := 11) (j := 18) (q := 47) dX11_sort_30 rfl rfl (Nat.le_of_ble_eq_true rfl) rfl (Nat.le_of_ble_eq_true rfl) rfl ?_
    refine ae_iload_n (pc := 33) dX11_sort_33 rfl ?_
    refine ae_iconst (pc := 34) (v := nI 0) dX11_sort_34 (by decide) ?_
    refine ae_bastore (pc := 35) (k := 47) (N := 16) (v := 0) _ dX11_sort_35 (Nat.le_of_ble_eq_true rfl) rfl rfl rfl (by omega) (by decide) ?_
    refine ae_aload_n (pc := 36) dX11_sort_36 rfl ?_
    refine ae_getR (pc := 37) (k := 33) (c := 11) (j := 8) (q := 39) dX11_sort_37 rfl rfl (Nat.le_of_ble_eq_true rfl) rfl (Nat.le_of_ble_eq_true rfl) rfl ?_
    refine ae_iload_n (pc := 40) dX11_sort_40 rfl ?_
    refine ae_iload_n (pc := 41) dX11_sort_41 rfl ?_
    refine ae_iastore (pc := 42) (k := 39) (N := 16) _ dX11_sort_42 (Nat.le_of_ble_eq_true rfl) rfl rfl rfl (by omega) rfl ?_
    refine ae_iinc (pc := 43) (v := nI (k + 1)) dX11_sort_43 rfl (nI_inc k) ?_
    refine ae_goto (pc := 46) (t := 23) dX11_sort_46 (by decide) ?_
    refine ae_M ?_ (ih hk2)
    rw [← st_s, ← st_s, Nat.zero_add]
    refine Prod.ext (funext fun q => ?_) rfl
    simp only [am_u]
    by_cases h9 : q = 39 <;> by_cases h7 : q = 47 <;> simp_all
  have hk2 : k = 16 := by rw [nI_leI (by omega) (by omega)] at c26; omega
  subst hk2
  clear ih
  have hso := fun e (he : e ≤ fN (M.1 34)) => srt_ok (kpF (M.1 34) 0) srv pl0 o (by rw [q4]; exact hn2) (e := e) (by rw [q4]; exact he)
  refine ae_iconst (pc := 49) (v := (-1)) dX11_sort_49 (by decide) ?_
  refine ae_istore_n (pc := 50) dX11_sort_50 rfl (Nat.le_of_ble_eq_true rfl) ?_
  refine ae_iconst (pc := 51) (v := nI 0) dX11_sort_51 (by decide) ?_
  refine ae_istore_n (pc := 52) dX11_sort_52 rfl (Nat.le_of_ble_eq_true rfl) ?_
  skip
  have main : ∀ O : fT, (∀ e, e < 16 → O e = nI ((srt (kpF (M.1 34) 0) srv pl0 o 0).2.2 e)) → am_E none (am_R (d + 5)) cX11_sort 11 (some .int) (fun v M' => ∃ srv pl0, (∀ e, e < 16 → srv e = nI (svc (kpF (M.1 34) 0) e (if 0 < fN (M.1 34) then fA (M.1 34) else 0))) ∧ v = some (.int (nI (mvd (srt (kpF (M.1 34) 0) srv pl0 o (fN (M.1 34))).2.2 (fN (M.1 34))))) ∧ ∃ O A B P, M' = raM (am_u (am_u (am_u (kpM M u 0).1 42 srv) 47 P) 39 O, M.2) A B (raF (kpF (M.1 34) 0) (srt (kpF (M.1 34) 0) srv pl0 o (fN (M.1 34))).2.2)) (53, [some (.ref 33), some (.int (nI o)), some (.int (oI (srt (kpF (M.1 34) 0) srv pl0 o 0).1)), some (.int (nI 0))], [], (am_u (am_u N0.1 47 (srt (kpF (M.1 34) 0) srv pl0 o 0).2.1) 39 O, N0.2)) := by
    refine am_down (P := fun e => ∀ O : fT, (∀ j, j < 16 → O j = nI ((srt (kpF (M.1 34) 0) srv pl0 o e).2.2 j)) → am_E none (am_R (d + 5)) cX11_sort 11 (some .int) _ (53, [some (.ref 33), some (.int (nI o)), some (.int (oI (srt (kpF (M.1 34) 0) srv pl0 o e).1)), some (.int (nI e))], [], (am_u (am_u N0.1 47 (srt (kpF (M.1 34) 0) srv pl0 o e).2.1) 39 O, N0.2))) (fN (M.1 34)) (fun e he ih O hO => ?_)
    have m34 : ((am_u (am_u N0.1 47 (srt (kpF (M.1 34) 0) srv pl0 o e).2.1) 39 O, N0.2) : am_M).1 34 = kpF (M.1 34) 0 := by simp only [am_u]; exact n34
    have m42 : ((am_u (am_u N0.1 47 (srt (kpF (M.1 34) 0) srv pl0 o e).2.1) 39 O, N0.2) : am_M).1 42 = srv := by simp only [am_u]; exact n42
    have m47 : ((am_u (am_u N0.1 47 (srt (kpF (M.1 34) 0) srv pl0 o e).2.1) 39 O, N0.2) : am_M).1 47 = (srt (kpF (M.1 34) 0) srv pl0 o e).2.1 := by simp [am_u]
    obtain ⟨s1, s2, s3, s4, s5⟩ := hso e he
    refine ae_iload_n (pc := 53) dX11_sort_53 rfl ?_
    refine ae_aload_n (pc := 54) dX11_sort_54 rfl ?_
    refine ae_getR (pc := 55) (k := 33) (c := 11) (j := 0) (q := 34) dX11_sort_55 rfl rfl (Nat.le_of_ble_eq_true rfl) rfl (Nat.le_of_ble_eq_true rfl) rfl ?_
    refine ae_sipush (pc := 58) (v := nI 258) dX11_sort_58 (by decide) ?_
    refine ae_iaload (pc := 61) (k := 34) (N := 549) (v := nI (fN (M.1 34))) _ dX11_sort_61 (Nat.le_of_ble_eq_true rfl) rfl rfl rfl (by omega) (by rw [m34, kpF_ne _ _ (by omega)]; exact hn1) ?_
    refine ae_icmp_ge (pc := 62) (t := 100) dX11_sort_62 (by decide) (fun c62 => ?_) (fun c62 => ?_)
    · have he2 : e = fN (M.1 34) := by rw [nI_leI (by omega) (by omega)] at c62; omega
      subst he2
      have sp := sm_rearranges (d + 3) (am_u (am_u N0.1 47 (srt (kpF (M.1 34) 0) srv pl0 o (fN (M.1 34))).2.1) 39 O, N0.2) (by rw [m34]; exact q1) (srt (kpF (M.1 34) 0) srv pl0 o (fN (M.1 34))).2.2 (by
        rw [m34, q4]
        rw [q4] at s3
        intro j hj
        exact ⟨by simp only [am_u_self]; exact hO j (by omega), s3 j hj⟩)
      rw [m34, q4] at sp
      refine ae_aload_n (pc := 100) dX11_sort_100 rfl ?_
      refine ae_callV (pc := 101) (z := zX11_rearranges) (k := 33) (As := []) dX11_sort_101 rfl rfl rfl rfl (Nat.le_of_ble_eq_true rfl) rfl (Nat.le_of_ble_eq_true rfl) (Nat.le_of_ble_eq_true rfl) (sp) (fun v M' hq => ?_)
      obtain ⟨rfl, rfl⟩ := hq
      refine ae_ireturn (pc := 104) dX11_sort_104 rfl ?_
      refine ⟨srv, pl0, hsrv, rfl, ?_⟩
      rw [n1, n2]
      exact ⟨_, _, _, _, rfl⟩
    · have he2 : e < fN (M.1 34) := by rw [nI_leI (by omega) (by omega)] at c62; omega
      have hil := sm_isLocked (d + 4) (am_u (am_u N0.1 47 (srt (kpF (M.1 34) 0) srv pl0 o e).2.1) 39 O, N0.2) e (by omega)
      rw [m34] at hil
      by_cases hl : kpF (M.1 34) 0 (275 + e) = 1
      · rw [srt_s, if_pos hl] at ih
        rw [bI_t hl] at hil
        refine ae_aload_n (pc := 65) dX11_sort_65 rfl ?_
        refine ae_iload_n (pc := 66) dX11_sort_66 rfl ?_
        refine ae_pcallV (pc := 67) (z := zX11_isLocked) (k := 33) (As := [_]) dX11_sort_67 rfl rfl rfl rfl (Nat.le_of_ble_eq_true rfl) rfl (Nat.le_of_ble_eq_true rfl) (Nat.le_of_ble_eq_true rfl) (hil) ?_
        refine ae_if_ne (pc := 70) (t := 94) dX11_sort_70 (by decide) (fun c70 => ?_) (fun c70 => ?_)
        rotate_left
        · exact absurd (Classical.not_not.mp c70) (by decide)
        refine ae_iinc (pc := 94) (v := nI (e + 1)) dX11_sort_94 rfl (nI_inc e) ?_
        refine ae_goto (pc := 97) (t := 53) dX11_sort_97 (by decide) ?_
        exact ih he2 O hO
      · rw [bI_f hl] at hil
        obtain ⟨t1, t2, t3, t4, t5⟩ := hso (e + 1) (by omega)
        obtain ⟨b, hb⟩ := t5 e (by omega) hl
        obtain ⟨b1, b2, b3⟩ := nxt_lt hb
        rw [q4] at b1
        rw [srt_s, if_neg hl, hb] at ih
        dsimp only at ih
        have hnx := sm_nextEntry (d + 1) (am_u (am_u N0.1 47 (srt (kpF (M.1 34) 0) srv pl0 o e).2.1) 39 O, N0.2) (by rw [m34]; exact q1) o ho (srt (kpF (M.1 34) 0) srv pl0 o e).1 (fun b hb => by have := s2 b hb; rw [q4] at this; omega)
        rw [m34, m42, m47, hb] at hnx
        refine ae_aload_n (pc := 65) dX11_sort_65 rfl ?_
        refine ae_iload_n (pc := 66) dX11_sort_66 rfl ?_
        refine ae_pcallV (pc := 67) (z := zX11_isLocked) (k := 33) (As := [_]) dX11_sort_67 rfl rfl rfl rfl (Nat.le_of_ble_eq_true rfl) rfl (Nat.le_of_ble_eq_true rfl) (Nat.le_of_ble_eq_true rfl) (hil) ?_
        refine ae_if_ne (pc := 70) (t := 94) dX11_sort_70 (by decide) (fun c70 => ?_) (fun c70 => ?_)
        · exact absurd rfl c70
        refine ae_aload_n (pc := 73) dX11_sort_73 rfl ?_
        refine ae_iload_n (pc := 74) dX11_sort_74 rfl ?_
        refine ae_iload_n (pc := 75) dX11_sort_75 rfl ?_
        refine ae_pcallV (pc := 76) (z := zX11_nextEntry) (k := 33) (As := [_, _]) dX11_sort_76 rfl rfl rfl rfl (Nat.le_of_ble_eq_true rfl) rfl (Nat.le_of_ble_eq_true rfl) (Nat.le_of_ble_eq_true rfl) (hnx) ?_
        refine ae_istore_n (pc := 79) dX11_sort_79 rfl (Nat.le_of_ble_eq_true rfl) ?_
        refine ae_aload_n (pc := 80) dX11_sort_80 rfl ?_
        refine ae_getR (pc := 81) (k := 33) (c := 11) (j := 18) (q := 47) dX11_sort_81 rfl rfl (Nat.le_of_ble_eq_true rfl) rfl (Nat.le_of_ble_eq_true rfl) rfl ?_
        refine ae_iload_n (pc := 84) dX11_sort_84 rfl ?_
        refine ae_iconst (pc := 85) (v := nI 1) dX11_sort_85 (by decide) ?_
        refine ae_bastore (pc := 86) (k := 47) (N := 16) (v := 1) (b) dX11_sort_86 (Nat.le_of_ble_eq_true rfl) rfl rfl rfl (by omega) (by decide) ?_
        refine ae_aload_n (pc := 87) dX11_sort_87 rfl ?_
        refine ae_getR (pc := 88) (k := 33) (c := 11) (j := 8) (q := 39) dX11_sort_88 rfl rfl (Nat.le_of_ble_eq_true rfl) rfl (Nat.le_of_ble_eq_true rfl) rfl ?_
        refine ae_iload_n (pc := 91) dX11_sort_91 rfl ?_
        refine ae_iload_n (pc := 92) dX11_sort_92 rfl ?_
        refine ae_iastore (pc := 93) (k := 39) (N := 16) (v := nI b) _ dX11_sort_93 (Nat.le_of_ble_eq_true rfl) rfl rfl rfl (by omega) rfl ?_
        refine ae_iinc (pc := 94) (v := nI (e + 1)) dX11_sort_94 rfl (nI_inc e) ?_
        refine ae_goto (pc := 97) (t := 53) dX11_sort_97 (by decide) ?_
        refine ae_M ?_ (ih he2 (upd O e (nI b)) (fun j hj => ?_))
        · refine Prod.ext (funext fun q => ?_) rfl; simp only [am_u]; by_cases h9 : q = 39 <;> by_cases h7 : q = 47 <;> simp_all
        · by_cases q : j = e; (subst q; rw [upd_self, if_pos rfl]); (rw [upd_ne _ _ q, if_neg q]; exact hO j hj)
  exact main _ (fun e he => by have := st_in (N0.1 39) (a := 0) (k := 16) (p := e) (fun e => nI e) he; rwa [Nat.zero_add] at this)

