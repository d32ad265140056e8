theorem sc_pass_13 (d : Nat) (M : am_M) (a n : Nat) (hn : a + n ≤ 256) (Q : am_PT) (g : Nat) (hg : 1 ≤ g) (hg2 : g ≤ 121) (L : jT) (nxt : ∀ K, PS K L a n → (g = 1 → SO K a n) → am_E none (am_R d) cX10_sortKeys 10 none Q (90, [some (.ref 13), some (.int (nI a)), some (.int (nI (a + n))), some (.int (nI g)), none, none, none, none], [], kyM M 13 K)) (K : jT) (hK : PS K L a n) : am_E none (am_R d) cX10_sortKeys 10 none Q (18, [some (.ref 13), some (.int (nI a)), some (.int (nI (a + n))), some (.int (nI g)), none, none, none, none], [], kyM M 13 K) := by
  have outer : ∀ m i, i + m = a + n ∨ (m = 0 ∧ a + n ≤ i) → a + g ≤ i → i < 1000 → ∀ K, PS K L a n → (g = 1 → SO K a (i - a) ∨ n = 0) → am_E none (am_R d) cX10_sortKeys 10 none Q (23, [some (.ref 13), some (.int (nI a)), some (.int (nI (a + n))), some (.int (nI g)), some (.int (nI i)), none, none, none], [], kyM M 13 K) := by
    intro m
    induction m with
    | zero =>
      intro i hi hi2 hi3 K hK hs
      have := nxt K hK (fun q => by
        subst q
        rcases hs rfl with z | z
        · intro p r p1 p2 p3; exact z p r p1 p2 (by omega)
        · intro p r p1 p2 p3; omega)
      refine ae_iload (pc := 23) dX10_sortKeys_23 rfl ?_
      refine ae_iload_n (pc := 25) dX10_sortKeys_25 rfl ?_
      refine ae_icmp_ge (pc := 26) (t := 90) dX10_sortKeys_26 (by decide) (fun c26 => ?_) (fun c26 => ?_)
      · exact ae_forget [4] rfl this
      · exact absurd ((nI_leI (by omega) (by omega)).mpr (by omega)) c26
    | succ m ih =>
      intro i hi hi2 hi3 K hK hs
      have hin : i < a + n := by omega
      have inner : ∀ fr, ∀ K', fr ≤ i → a ≤ fr → PH K' L a n fr (K i) → (g = 1 → HO K' a i fr (K i)) → am_E none (am_R d) cX10_sortKeys 10 none Q (39, [some (.ref 13), some (.int (nI a)), some (.int (nI (a + n))), some (.int (nI g)), some (.int (nI i)), some (.long (K i)), none, some (.int (nI fr))], [], kyM M 13 K') := by
        intro fr
        induction fr using Nat.strongRecOn with
        | ind fr ihf =>
          intro K' f1 f2 hp hh
          have fin : (g = 1 → a + 1 ≤ fr → K' (fr - 1) ≤ K i) → am_E none (am_R d) cX10_sortKeys 10 none Q (78, [some (.ref 13), some (.int (nI a)), some (.int (nI (a + n))), some (.int (nI g)), some (.int (nI i)), some (.long (K i)), none, some (.int (nI fr))], [], kyM M 13 K') := by
            intro hk
            have st := ih (i + 1) (by omega) (by omega) (by omega) (vp_updL K' fr (K i)) (PH_e hp f2 (by omega)) (fun q => Or.inl (by have := HO_e (hh q) f2 f1 (hk q); exact this))
            refine ae_aload_n (pc := 78) dX10_sortKeys_78 rfl ?_
            refine ae_iload (pc := 79) dX10_sortKeys_79 rfl ?_
            refine ae_lload (pc := 81) dX10_sortKeys_81 rfl ?_
            refine ae_lastore (pc := 83) (k := 13) (N := 256) (fr) dX10_sortKeys_83 (Nat.le_of_ble_eq_true rfl) rfl rfl rfl (by omega) rfl ?_
            refine ae_M (kyM_u _ _ _ _) ?_
            rw [kyM_k]
            refine ae_iinc (pc := 84) (v := nI (i + 1)) dX10_sortKeys_84 rfl (nI_inc i) ?_
            refine ae_goto (pc := 87) (t := 23) dX10_sortKeys_87 (by decide) ?_
            exact ae_forget [5, 6, 7] rfl st
          refine ae_iload (pc := 39) dX10_sortKeys_39 rfl ?_
          refine ae_iload_n (pc := 41) dX10_sortKeys_41 rfl ?_
          refine ae_isub (pc := 42) dX10_sortKeys_42 rfl ?_
          refine ae_iload_n (pc := 43) dX10_sortKeys_43 rfl ?_
          refine ae_icmp_lt (pc := 44) (t := 78) dX10_sortKeys_44 (by decide) (fun c44 => ?_) (fun c44 => ?_)
          · rw [subLt (by omega) (by omega) (by omega)] at c44
            exact fin (fun q1 q2 => by omega)
          · rw [subLt (by omega) (by omega) (by omega)] at c44
            refine ae_aload_n (pc := 47) dX10_sortKeys_47 rfl ?_
            refine ae_iload (pc := 48) dX10_sortKeys_48 rfl ?_
            refine ae_iload_n (pc := 50) dX10_sortKeys_50 rfl ?_
            refine ae_isub (pc := 51) (v := nI (fr - g)) dX10_sortKeys_51 (nI_sub (by omega)) ?_
            refine ae_laload (pc := 52) (k := 13) (N := 256) (v := K' (fr - g)) (fr - g) dX10_sortKeys_52 (Nat.le_of_ble_eq_true rfl) rfl rfl rfl (by omega) (by rw [kyM_k]) ?_
            refine ae_lload (pc := 53) dX10_sortKeys_53 rfl ?_
            refine ae_lcmp (pc := 55) dX10_sortKeys_55 rfl ?_
            refine ae_if_le (pc := 56) (t := 78) dX10_sortKeys_56 (by decide) (fun c56 => ?_) (fun c56 => ?_)
            · exact fin (fun q _ => by subst q; exact lg_le0.mp c56)
            · have hlt : K i < K' (fr - g) := lg_gt0.mp (Int32.not_le.mp c56)
              have st := ihf (fr - g) (by omega) (vp_updL K' fr (K' (fr - g))) (by omega) (by omega) (PH_s hp (by omega) (by omega) hg) (fun q => by subst q; exact HO_s (hh rfl) (by omega) f1 hlt)
              refine ae_aload_n (pc := 59) dX10_sortKeys_59 rfl ?_
              refine ae_iload (pc := 60) dX10_sortKeys_60 rfl ?_
              refine ae_aload_n (pc := 62) dX10_sortKeys_62 rfl ?_
              refine ae_iload (pc := 63) dX10_sortKeys_63 rfl ?_
              refine ae_iload_n (pc := 65) dX10_sortKeys_65 rfl ?_
              refine ae_isub (pc := 66) (v := nI (fr - g)) dX10_sortKeys_66 (nI_sub (by omega)) ?_
              refine ae_laload (pc := 67) (k := 13) (N := 256) (v := K' (fr - g)) (fr - g) dX10_sortKeys_67 (Nat.le_of_ble_eq_true rfl) rfl rfl rfl (by omega) (by rw [kyM_k]) ?_
              refine ae_lastore (pc := 68) (k := 13) (N := 256) (fr) dX10_sortKeys_68 (Nat.le_of_ble_eq_true rfl) rfl rfl rfl (by omega) rfl ?_
              refine ae_M (kyM_u _ _ _ _) ?_
              rw [kyM_k]
              refine ae_iload (pc := 69) dX10_sortKeys_69 rfl ?_
              refine ae_iload_n (pc := 71) dX10_sortKeys_71 rfl ?_
              refine ae_isub (pc := 72) (v := nI (fr - g)) dX10_sortKeys_72 (nI_sub (by omega)) ?_
              refine ae_istore (pc := 73) dX10_sortKeys_73 rfl (Nat.le_of_ble_eq_true rfl) ?_
              refine ae_goto (pc := 75) (t := 39) dX10_sortKeys_75 (by decide) ?_
              exact st
      have st := inner i K (Nat.le_refl i) (by omega) (PH_0 hK) (fun q => by
        subst q
        rcases hs rfl with z | z
        · exact HO_0 z (by omega)
        · omega)
      refine ae_iload (pc := 23) dX10_sortKeys_23 rfl ?_
      refine ae_iload_n (pc := 25) dX10_sortKeys_25 rfl ?_
      refine ae_icmp_ge (pc := 26) (t := 90) dX10_sortKeys_26 (by decide) (fun c26 => ?_) (fun c26 => ?_)
      · exact absurd ((nI_leI (by omega) (by omega)).mp c26) (by omega)
      · refine ae_aload_n (pc := 29) dX10_sortKeys_29 rfl ?_
        refine ae_iload (pc := 30) dX10_sortKeys_30 rfl ?_
        refine ae_laload (pc := 32) (k := 13) (N := 256) (v := K i) (i) dX10_sortKeys_32 (Nat.le_of_ble_eq_true rfl) rfl rfl rfl (by omega) (by rw [kyM_k]) ?_
        refine ae_lstore (pc := 33) dX10_sortKeys_33 rfl (Nat.le_of_ble_eq_true rfl) ?_
        refine ae_iload (pc := 35) dX10_sortKeys_35 rfl ?_
        refine ae_istore (pc := 37) dX10_sortKeys_37 rfl (Nat.le_of_ble_eq_true rfl) ?_
        exact st
  have st := outer (a + n - (a + g)) (a + g) (by omega) (Nat.le_refl _) (by omega) K hK (fun q => by
    subst q
    exact Or.inl (fun p r p1 p2 p3 => by omega))
  refine ae_iload_n (pc := 18) dX10_sortKeys_18 rfl ?_
  refine ae_iload_n (pc := 19) dX10_sortKeys_19 rfl ?_
  refine ae_iadd (pc := 20) (v := nI (a + g)) dX10_sortKeys_20 (nI_add _ _) ?_
  refine ae_istore (pc := 21) dX10_sortKeys_21 rfl (Nat.le_of_ble_eq_true rfl) ?_
  exact st
theorem sc_sort_13 (d : Nat) (M : am_M) (a n : Nat) (hn : a + n ≤ 256) : am_R (d + 1) zX10_sortKeys [.ref 13, .int (nI a), .int (nI (a + n))] M (fun v M' => v = none ∧ ∃ K, M' = kyM M 13 K ∧ PS K (M.2 13) a n ∧ SO K a n) := by
  refine ae_enter (z := zX10_sortKeys) (y := yX10_sortKeys) (cc := cX10_sortKeys) (mL := 8) (rt := none) (ci := 10) (st := true) (np := 3) (L := [some (.ref 13), some (.int (nI a)), some (.int (nI (a + n))), none, none, none, none, none]) rfl (by decide) (Nat.le_of_ble_eq_true rfl) rfl ?_
  have l0 : ∀ K, PS K (M.2 13) a n → SO K a n → am_E none (am_R d) cX10_sortKeys 10 none (fun v M' => v = none ∧ ∃ K, M' = kyM M 13 K ∧ PS K (M.2 13) a n ∧ SO K a n) (14, [some (.ref 13), some (.int (nI a)), some (.int (nI (a + n))), some (.int (nI 0)), none, none, none, none], [], kyM M 13 K) := by
    intro K h1 h2
    refine ae_iload_n (pc := 14) dX10_sortKeys_14 rfl ?_
    refine ae_if_le (pc := 15) (t := 97) dX10_sortKeys_15 (by decide) (fun c15 => ?_) (fun c15 => ?_)
    · refine ae_return (pc := 97) dX10_sortKeys_97 rfl ?_
      exact ⟨rfl, K, rfl, h1, h2⟩
    · exact absurd (by decide) c15
  have step : ∀ g g', 1 ≤ g → g ≤ 121 → g / 3 = g' → (∀ K, PS K (M.2 13) a n → (g = 1 → SO K a n) → am_E none (am_R d) cX10_sortKeys 10 none (fun v M' => v = none ∧ ∃ K, M' = kyM M 13 K ∧ PS K (M.2 13) a n ∧ SO K a n) (14, [some (.ref 13), some (.int (nI a)), some (.int (nI (a + n))), some (.int (nI g')), none, none, none, none], [], kyM M 13 K)) → ∀ K, PS K (M.2 13) a n → am_E none (am_R d) cX10_sortKeys 10 none (fun v M' => v = none ∧ ∃ K, M' = kyM M 13 K ∧ PS K (M.2 13) a n ∧ SO K a n) (14, [some (.ref 13), some (.int (nI a)), some (.int (nI (a + n))), some (.int (nI g)), none, none, none, none], [], kyM M 13 K) := by
    intro g g' h1 h2 h3 nx K hK
    have st := sc_pass_13 d M a n hn (fun v M' => v = none ∧ ∃ K, M' = kyM M 13 K ∧ PS K (M.2 13) a n ∧ SO K a n) g h1 h2 (M.2 13) (fun K k1 k2 => by
      have := nx K k1 k2
      refine ae_iload_n (pc := 90) dX10_sortKeys_90 rfl ?_
      refine ae_iconst (pc := 91) (v := nI 3) dX10_sortKeys_91 (by decide) ?_
      refine ae_idiv (pc := 92) (v := nI g') dX10_sortKeys_92 (by decide) ((nI_div (by omega) (by decide)).trans (by rw [h3])) ?_
      refine ae_istore_n (pc := 93) dX10_sortKeys_93 rfl (Nat.le_of_ble_eq_true rfl) ?_
      refine ae_goto (pc := 94) (t := 14) dX10_sortKeys_94 (by decide) ?_
      exact this) K hK
    refine ae_iload_n (pc := 14) dX10_sortKeys_14 rfl ?_
    refine ae_if_le (pc := 15) (t := 97) dX10_sortKeys_15 (by decide) (fun c15 => ?_) (fun c15 => ?_)
    · exact absurd c15 (by rw [show (0 : Int32) = nI 0 from rfl, nI_leI (by omega) (by omega)]; omega)
    · exact st
  have l1 := step 1 0 (by decide) (by decide) rfl (fun K h1 h2 => l0 K h1 (h2 rfl))
  have l4 := step 4 1 (by decide) (by decide) rfl (fun K h1 _ => l1 K h1)
  have l13 := step 13 4 (by decide) (by decide) rfl (fun K h1 _ => l4 K h1)
  have l40 := step 40 13 (by decide) (by decide) rfl (fun K h1 _ => l13 K h1)
  have l121 := step 121 40 (by decide) (by decide) rfl (fun K h1 _ => l40 K h1) (M.2 13) (PS_refl _ _ _)
  rw [kyM_eta] at l121
  refine ae_iload_n (pc := 0) dX10_sortKeys_0 rfl ?_
  refine ae_if_lt (pc := 1) (t := 10) dX10_sortKeys_1 (by decide) (fun c1 => ?_) (fun c1 => ?_)
  · exact absurd c1 (Int32.not_lt.mpr (nI_le (Nat.zero_le a) (by omega)))
  refine ae_iload_n (pc := 4) dX10_sortKeys_4 rfl ?_
  refine ae_aload_n (pc := 5) dX10_sortKeys_5 rfl ?_
  refine ae_arraylength (pc := 6) (k := 13) (v := nI 256) dX10_sortKeys_6 (Nat.le_of_ble_eq_true rfl) (by decide) rfl ?_
  refine ae_icmp_le (pc := 7) (t := 11) dX10_sortKeys_7 (by decide) (fun c7 => ?_) (fun c7 => ?_)
  rotate_left
  · exact absurd ((nI_leI (by omega) (by decide)).mpr hn) c7
  refine ae_bipush (pc := 11) (v := nI 121) dX10_sortKeys_11 (by decide) ?_
  refine ae_istore_n (pc := 13) dX10_sortKeys_13 rfl (Nat.le_of_ble_eq_true rfl) ?_
  exact l121
theorem sc_pass_22 (d : Nat) (M : am_M) (a n : Nat) (hn : a + n ≤ 256) (Q : am_PT) (g : Nat) (hg : 1 ≤ g) (hg2 : g ≤ 121) (L : jT) (nxt : ∀ K, PS K L a n → (g = 1 → SO K a n) → am_E none (am_R d) cX10_sortKeys 10 none Q (90, [some (.ref 22), some (.int (nI a)), some (.int (nI (a + n))), some (.int (nI g)), none, none, none, none], [], kyM M 22 K)) (K : jT) (hK : PS K L a n) : am_E none (am_R d) cX10_sortKeys 10 none Q (18, [some (.ref 22), some (.int (nI a)), some (.int (nI (a + n))), some (.int (nI g)), none, none, none, none], [], kyM M 22 K) := by
  have outer : ∀ m i, i + m = a + n ∨ (m = 0 ∧ a + n ≤ i) → a + g ≤ i → i < 1000 → ∀ K, PS K L a n → (g = 1 → SO K a (i - a) ∨ n = 0) → am_E none (am_R d) cX10_sortKeys 10 none Q (23, [some (.ref 22), some (.int (nI a)), some (.int (nI (a + n))), some (.int (nI g)), some (.int (nI i)), none, none, none], [], kyM M 22 K) := by
    intro m
    induction m with
    | zero =>
      intro i hi hi2 hi3 K hK hs
      have := nxt K hK (fun q => by
        subst q
        rcases hs rfl with z | z
        · intro p r p1 p2 p3; exact z p r p1 p2 (by omega)
        · intro p r p1 p2 p3; omega)
      refine ae_iload (pc := 23) dX10_sortKeys_23 rfl ?_
      refine ae_iload_n (pc := 25) dX10_sortKeys_25 rfl ?_
      refine ae_icmp_ge (pc := 26) (t := 90) dX10_sortKeys_26 (by decide) (fun c26 => ?_) (fun c26 => ?_)
      · exact ae_forget [4] rfl this
      · exact absurd ((nI_leI (by omega) (by omega)).mpr (by omega)) c26
    | succ m ih =>
      intro i hi hi2 hi3 K hK hs
      have hin : i < a + n := by omega
      have inner : ∀ fr, ∀ K', fr ≤ i → a ≤ fr → PH K' L a n fr (K i) → (g = 1 → HO K' a i fr (K i)) → am_E none (am_R d) cX10_sortKeys 10 none Q (39, [some (.ref 22), some (.int (nI a)), some (.int (nI (a + n))), some (.int (nI g)), some (.int (nI i)), some (.long (K i)), none, some (.int (nI fr))], [], kyM M 22 K') := by
        intro fr
        induction fr using Nat.strongRecOn with
        | ind fr ihf =>
          intro K' f1 f2 hp hh
          have fin : (g = 1 → a + 1 ≤ fr → K' (fr - 1) ≤ K i) → am_E none (am_R d) cX10_sortKeys 10 none Q (78, [some (.ref 22), some (.int (nI a)), some (.int (nI (a + n))), some (.int (nI g)), some (.int (nI i)), some (.long (K i)), none, some (.int (nI fr))], [], kyM M 22 K') := by
            intro hk
            have st := ih (i + 1) (by omega) (by omega) (by omega) (vp_updL K' fr (K i)) (PH_e hp f2 (by omega)) (fun q => Or.inl (by have := HO_e (hh q) f2 f1 (hk q); exact this))
            refine ae_aload_n (pc := 78) dX10_sortKeys_78 rfl ?_
            refine ae_iload (pc := 79) dX10_sortKeys_79 rfl ?_
            refine ae_lload (pc := 81) dX10_sortKeys_81 rfl ?_
            refine ae_lastore (pc := 83) (k := 22) (N := 256) (fr) dX10_sortKeys_83 (Nat.le_of_ble_eq_true rfl) rfl rfl rfl (by omega) rfl ?_
            refine ae_M (kyM_u _ _ _ _) ?_
            rw [kyM_k]
            refine ae_iinc (pc := 84) (v := nI (i + 1)) dX10_sortKeys_84 rfl (nI_inc i) ?_
            refine ae_goto (pc := 87) (t := 23) dX10_sortKeys_87 (by decide) ?_
            exact ae_forget [5, 6, 7] rfl st
          refine ae_iload (pc := 39) dX10_sortKeys_39 rfl ?_
          refine ae_iload_n (pc := 41) dX10_sortKeys_41 rfl ?_
          refine ae_isub (pc := 42) dX10_sortKeys_42 rfl ?_
          refine ae_iload_n (pc := 43) dX10_sortKeys_43 rfl ?_
          refine ae_icmp_lt (pc := 44) (t := 78) dX10_sortKeys_44 (by decide) (fun c44 => ?_) (fun c44 => ?_)
          · rw [subLt (by omega) (by omega) (by omega)] at c44
            exact fin (fun q1 q2 => by omega)
          · rw [subLt (by omega) (by omega) (by omega)] at c44
            refine ae_aload_n (pc := 47) dX10_sortKeys_47 rfl ?_
            refine ae_iload (pc := 48) dX10_sortKeys_48 rfl ?_
            refine ae_iload_n (pc := 50) dX10_sortKeys_50 rfl ?_
            refine ae_isub (pc := 51) (v := nI (fr - g)) dX10_sortKeys_51 (nI_sub (by omega)) ?_
            refine ae_laload (pc := 52) (k := 22) (N := 256) (v := K' (fr - g)) (fr - g) dX10_sortKeys_52 (Nat.le_of_ble_eq_true rfl) rfl rfl rfl (by omega) (by rw [kyM_k]) ?_
            refine ae_lload (pc := 53) dX10_sortKeys_53 rfl ?_
            refine ae_lcmp (pc := 55) dX10_sortKeys_55 rfl ?_
            refine ae_if_le (pc := 56) (t := 78) dX10_sortKeys_56 (by decide) (fun c56 => ?_) (fun c56 => ?_)
            · exact fin (fun q _ => by subst q; exact lg_le0.mp c56)
            · have hlt : K i < K' (fr - g) := lg_gt0.mp (Int32.not_le.mp c56)
              have st := ihf (fr - g) (by omega) (vp_updL K' fr (K' (fr - g))) (by omega) (by omega) (PH_s hp (by omega) (by omega) hg) (fun q => by subst q; exact HO_s (hh rfl) (by omega) f1 hlt)
              refine ae_aload_n (pc := 59) dX10_sortKeys_59 rfl ?_
              refine ae_iload (pc := 60) dX10_sortKeys_60 rfl ?_
              refine ae_aload_n (pc := 62) dX10_sortKeys_62 rfl ?_
              refine ae_iload (pc := 63) dX10_sortKeys_63 rfl ?_
              refine ae_iload_n (pc := 65) dX10_sortKeys_65 rfl ?_
              refine ae_isub (pc := 66) (v := nI (fr - g)) dX10_sortKeys_66 (nI_sub (by omega)) ?_
              refine ae_laload (pc := 67) (k := 22) (N := 256) (v := K' (fr - g)) (fr - g) dX10_sortKeys_67 (Nat.le_of_ble_eq_true rfl) rfl rfl rfl (by omega) (by rw [kyM_k]) ?_
              refine ae_lastore (pc := 68) (k := 22) (N := 256) (fr) dX10_sortKeys_68 (Nat.le_of_ble_eq_true rfl) rfl rfl rfl (by omega) rfl ?_
              refine ae_M (kyM_u _ _ _ _) ?_
              rw [kyM_k]
              refine ae_iload (pc := 69) dX10_sortKeys_69 rfl ?_
              refine ae_iload_n (pc := 71) dX10_sortKeys_71 rfl ?_
              refine ae_isub (pc := 72) (v := nI (fr - g)) dX10_sortKeys_72 (nI_sub (by omega)) ?_
              refine ae_istore (pc := 73) dX10_sortKeys_73 rfl (Nat.le_of_ble_eq_true rfl) ?_
              refine ae_goto (pc := 75) (t := 39) dX10_sortKeys_75 (by decide) ?_
              exact st
      have st := inner i K (Nat.le_refl i) (by omega) (PH_0 hK) (fun q => by
        subst q
        rcases hs rfl with z | z
        · exact HO_0 z (by omega)
        · omega)
      refine ae_iload (pc := 23) dX10_sortKeys_23 rfl ?_
      refine ae_iload_n (pc := 25) dX10_sortKeys_25 rfl ?_
      refine ae_icmp_ge (pc := 26) (t := 90) dX10_sortKeys_26 (by decide) (fun c26 => ?_) (fun c26 => ?_)
      · exact absurd ((nI_leI (by omega) (by omega)).mp c26) (by omega)
      · refine ae_aload_n (pc := 29) dX10_sortKeys_29 rfl ?_
        refine ae_iload (pc := 30) dX10_sortKeys_30 rfl ?_
        refine ae_laload (pc := 32) (k := 22) (N := 256) (v := K i) (i) dX10_sortKeys_32 (Nat.le_of_ble_eq_true rfl) rfl rfl rfl (by omega) (by rw [kyM_k]) ?_
        refine ae_lstore (pc := 33) dX10_sortKeys_33 rfl (Nat.le_of_ble_eq_true rfl) ?_
        refine ae_iload (pc := 35) dX10_sortKeys_35 rfl ?_
        refine ae_istore (pc := 37) dX10_sortKeys_37 rfl (Nat.le_of_ble_eq_true rfl) ?_
        exact st
  have st := outer (a + n - (a + g)) (a + g) (by omega) (Nat.le_refl _) (by omega) K hK (fun q => by
    subst q
    exact Or.inl (fun p r p1 p2 p3 => by omega))
  refine ae_iload_n (pc := 18) dX10_sortKeys_18 rfl ?_
  refine ae_iload_n (pc := 19) dX10_sortKeys_19 rfl ?_
  refine ae_iadd (pc := 20) (v := nI (a + g)) dX10_sortKeys_20 (nI_add _ _) ?_
  refine ae_istore (pc := 21) dX10_sortKeys_21 rfl (Nat.le_of_ble_eq_true rfl) ?_
  exact st
theorem sc_sort_22 (d : Nat) (M : am_M) (a n : Nat) (hn : a + n ≤ 256) : am_R (d + 1) zX10_sortKeys [.ref 22, .int (nI a), .int (nI (a + n))] M (fun v M' => v = none ∧ ∃ K, M' = kyM M 22 K ∧ PS K (M.2 22) a n ∧ SO K a n) := by
  refine ae_enter (z := zX10_sortKeys) (y := yX10_sortKeys) (cc := cX10_sortKeys) (mL := 8) (rt := none) (ci := 10) (st := true) (np := 3) (L := [some (.ref 22), some (.int (nI a)), some (.int (nI (a + n))), none, none, none, none, none]) rfl (by decide) (Nat.le_of_ble_eq_true rfl) rfl ?_
  have l0 : ∀ K, PS K (M.2 22) a n → SO K a n → am_E none (am_R d) cX10_sortKeys 10 none (fun v M' => v = none ∧ ∃ K, M' = kyM M 22 K ∧ PS K (M.2 22) a n ∧ SO K a n) (14, [some (.ref 22), some (.int (nI a)), some (.int (nI (a + n))), some (.int (nI 0)), none, none, none, none], [], kyM M 22 K) := by
    intro K h1 h2
    refine ae_iload_n (pc := 14) dX10_sortKeys_14 rfl ?_
    refine ae_if_le (pc := 15) (t := 97) dX10_sortKeys_15 (by decide) (fun c15 => ?_) (fun c15 => ?_)
    · refine ae_return (pc := 97) dX10_sortKeys_97 rfl ?_
      exact ⟨rfl, K, rfl, h1, h2⟩
    · exact absurd (by decide) c15
  have step : ∀ g g', 1 ≤ g → g ≤ 121 → g / 3 = g' → (∀ K, PS K (M.2 22) a n → (g = 1 → SO K a n) → am_E none (am_R d) cX10_sortKeys 10 none (fun v M' => v = none ∧ ∃ K, M' = kyM M 22 K ∧ PS K (M.2 22) a n ∧ SO K a n) (14, [some (.ref 22), some (.int (nI a)), some (.int (nI (a + n))), some (.int (nI g')), none, none, none, none], [], kyM M 22 K)) → ∀ K, PS K (M.2 22) a n → am_E none (am_R d) cX10_sortKeys 10 none (fun v M' => v = none ∧ ∃ K, M' = kyM M 22 K ∧ PS K (M.2 22) a n ∧ SO K a n) (14, [some (.ref 22), some (.int (nI a)), some (.int (nI (a + n))), some (.int (nI g)), none, none, none, none], [], kyM M 22 K) := by
    intro g g' h1 h2 h3 nx K hK
    have st := sc_pass_22 d M a n hn (fun v M' => v = none ∧ ∃ K, M' = kyM M 22 K ∧ PS K (M.2 22) a n ∧ SO K a n) g h1 h2 (M.2 22) (fun K k1 k2 => by
      have := nx K k1 k2
      refine ae_iload_n (pc := 90) dX10_sortKeys_90 rfl ?_
      refine ae_iconst (pc := 91) (v := nI 3) dX10_sortKeys_91 (by decide) ?_
      refine ae_idiv (pc := 92) (v := nI g') dX10_sortKeys_92 (by decide) ((nI_div (by omega) (by decide)).trans (by rw [h3])) ?_
      refine ae_istore_n (pc := 93) dX10_sortKeys_93 rfl (Nat.le_of_ble_eq_true rfl) ?_
      refine ae_goto (pc := 94) (t := 14) dX10_sortKeys_94 (by decide) ?_
      exact this) K hK
    refine ae_iload_n (pc := 14) dX10_sortKeys_14 rfl ?_
    refine ae_if_le (pc := 15) (t := 97) dX10_sortKeys_15 (by decide) (fun c15 => ?_) (fun c15 => ?_)
    · exact absurd c15 (by rw [show (0 : Int32) = nI 0 from rfl, nI_leI (by omega) (by omega)]; omega)
    · exact st
  have l1 := step 1 0 (by decide) (by decide) rfl (fun K h1 h2 => l0 K h1 (h2 rfl))
  have l4 := step 4 1 (by decide) (by decide) rfl (fun K h1 _ => l1 K h1)
  have l13 := step 13 4 (by decide) (by decide) rfl (fun K h1 _ => l4 K h1)
  have l40 := step 40 13 (by decide) (by decide) rfl (fun K h1 _ => l13 K h1)
  have l121 := step 121 40 (by decide) (by decide) rfl (fun K h1 _ => l40 K h1) (M.2 22) (PS_refl _ _ _)
  rw [kyM_eta] at l121
  refine ae_iload_n (pc := 0) dX10_sortKeys_0 rfl ?_
  refine ae_if_lt (pc := 1) (t := 10) dX10_sortKeys_1 (by decide) (fun c1 => ?_) (fun c1 => ?_)
  · exact absurd c1 (Int32.not_lt.mpr (nI_le (Nat.zero_le a) (by omega)))
  refine ae_iload_n (pc := 4) dX10_sortKeys_4 rfl ?_
  refine ae_aload_n (pc := 5) dX10_sortKeys_5 rfl ?_
  refine ae_arraylength (pc := 6) (k := 22) (v := nI 256) dX10_sortKeys_6 (Nat.le_of_ble_eq_true rfl) (by decide) rfl ?_
  refine ae_icmp_le (pc := 7) (t := 11) dX10_sortKeys_7 (by decide) (fun c7 => ?_) (fun c7 => ?_)
  rotate_left
  · exact absurd ((nI_leI (by omega) (by decide)).mpr hn) c7
  refine ae_bipush (pc := 11) (v := nI 121) dX10_sortKeys_11 (by decide) ?_
  refine ae_istore_n (pc := 13) dX10_sortKeys_13 rfl (Nat.le_of_ble_eq_true rfl) ?_
  exact l121

