theorem ct_in0 : ∀ w ∈ u_ws RX0 TX0 4, w ∈ am_wG := by
  obtain ⟨N, ty0, k1, k2, -⟩ := am_cls0
  have h : 4 = N := congrArg (fun x : vw_C => x.2.2) (Option.some.inj (show some (RX0, TX0, 4) = some (am_cn 0, am_T 0, N) from k1))
  subst h
  exact fun w hw => List.mem_filter.mpr (k2 w hw)
theorem ct_in1 : ∀ w ∈ u_ws RX1 TX1 5, w ∈ am_wG := by
  obtain ⟨N, ty0, k1, k2, -⟩ := am_cls1
  have h : 5 = N := congrArg (fun x : vw_C => x.2.2) (Option.some.inj (show some (RX1, TX1, 5) = some (am_cn 1, am_T 1, N) from k1))
  subst h
  exact fun w hw => List.mem_filter.mpr (k2 w hw)
theorem ct_in2 : ∀ w ∈ u_ws RX2 TX2 3, w ∈ am_wG := by
  obtain ⟨N, ty0, k1, k2, -⟩ := am_cls2
  have h : 3 = N := congrArg (fun x : vw_C => x.2.2) (Option.some.inj (show some (RX2, TX2, 3) = some (am_cn 2, am_T 2, N) from k1))
  subst h
  exact fun w hw => List.mem_filter.mpr (k2 w hw)
theorem ct_in3 : ∀ w ∈ u_ws RX3 TX3 2, w ∈ am_wG := by
  obtain ⟨N, ty0, k1, k2, -⟩ := am_cls3
  have h : 2 = N := congrArg (fun x : vw_C => x.2.2) (Option.some.inj (show some (RX3, TX3, 2) = some (am_cn 3, am_T 3, N) from k1))
  subst h
  exact fun w hw => List.mem_filter.mpr (k2 w hw)
theorem ct_in4 : ∀ w ∈ u_ws RX4 TX4 6, w ∈ am_wG := by
  obtain ⟨N, ty0, k1, k2, -⟩ := am_cls4
  have h : 6 = N := congrArg (fun x : vw_C => x.2.2) (Option.some.inj (show some (RX4, TX4, 6) = some (am_cn 4, am_T 4, N) from k1))
  subst h
  exact fun w hw => List.mem_filter.mpr (k2 w hw)
theorem ct_in5 : ∀ w ∈ u_ws RX5 TX5 5, w ∈ am_wG := by
  obtain ⟨N, ty0, k1, k2, -⟩ := am_cls5
  have h : 5 = N := congrArg (fun x : vw_C => x.2.2) (Option.some.inj (show some (RX5, TX5, 5) = some (am_cn 5, am_T 5, N) from k1))
  subst h
  exact fun w hw => List.mem_filter.mpr (k2 w hw)
theorem ct_in6 : ∀ w ∈ u_ws RX6 TX6 1, w ∈ am_wG := by
  obtain ⟨N, ty0, k1, k2, -⟩ := am_cls6
  have h : 1 = N := congrArg (fun x : vw_C => x.2.2) (Option.some.inj (show some (RX6, TX6, 1) = some (am_cn 6, am_T 6, N) from k1))
  subst h
  exact fun w hw => List.mem_filter.mpr (k2 w hw)
theorem ct_in7 : ∀ w ∈ u_ws RX7 TX7 9, w ∈ am_wG := by
  obtain ⟨N, ty0, k1, k2, -⟩ := am_cls7
  have h : 9 = N := congrArg (fun x : vw_C => x.2.2) (Option.some.inj (show some (RX7, TX7, 9) = some (am_cn 7, am_T 7, N) from k1))
  subst h
  exact fun w hw => List.mem_filter.mpr (k2 w hw)
theorem ct_in8 : ∀ w ∈ u_ws RX8 TX8 6, w ∈ am_wG := by
  obtain ⟨N, ty0, k1, k2, -⟩ := am_cls8
  have h : 6 = N := congrArg (fun x : vw_C => x.2.2) (Option.some.inj (show some (RX8, TX8, 6) = some (am_cn 8, am_T 8, N) from k1))
  subst h
  exact fun w hw => List.mem_filter.mpr (k2 w hw)
theorem ct_in9 : ∀ w ∈ u_ws RX9 TX9 5, w ∈ am_wG := by
  obtain ⟨N, ty0, k1, k2, -⟩ := am_cls9
  have h : 5 = N := congrArg (fun x : vw_C => x.2.2) (Option.some.inj (show some (RX9, TX9, 5) = some (am_cn 9, am_T 9, N) from k1))
  subst h
  exact fun w hw => List.mem_filter.mpr (k2 w hw)
theorem ct_in10 : ∀ w ∈ u_ws RX10 TX10 10, w ∈ am_wG := by
  obtain ⟨N, ty0, k1, k2, -⟩ := am_cls10
  have h : 10 = N := congrArg (fun x : vw_C => x.2.2) (Option.some.inj (show some (RX10, TX10, 10) = some (am_cn 10, am_T 10, N) from k1))
  subst h
  exact fun w hw => List.mem_filter.mpr (k2 w hw)
theorem ct_in11 : ∀ w ∈ u_ws RX11 TX11 21, w ∈ am_wG := by
  obtain ⟨N, ty0, k1, k2, -⟩ := am_cls11
  have h : 21 = N := congrArg (fun x : vw_C => x.2.2) (Option.some.inj (show some (RX11, TX11, 21) = some (am_cn 11, am_T 11, N) from k1))
  subst h
  exact fun w hw => List.mem_filter.mpr (k2 w hw)
/-- the memory at the start -/
def am_M0 : am_M := (fun k => if k = 34 then upd (upd (fun _ => 0) 0 1) 1 1 else fun j => if (k = 1 ∨ (49 ≤ k ∧ k % 5 = 4)) ∧ j < 2 then 1 else 0, fun _ _ => 0)
theorem e0_0 (cy : Nat → ClassId) (adr : Nat → Nat) : am_e cy adr am_M0 0 = .inr (10, [.ref (adr 1), .ref (adr 6), .ref (adr 8), .ref (adr 12), .ref (adr 16), .ref (adr 21), .ref (adr 25), .ref (adr 27), .ref (adr 30), .ref (adr 32)]) := rfl
theorem e0_1 (cy : Nat → ClassId) (adr : Nat → Nat) : am_e cy adr am_M0 1 = .inr (7, [.int 1, .int 1, .ref (adr 2), .int 0, .ref (adr 3), .ref (adr 4), .int 0, .int 0, .ref (adr 5)]) := rfl
theorem e0_2 (cy : Nat → ClassId) (adr : Nat → Nat) : am_e cy adr am_M0 2 = .inl (cy 0, 256, .inl (fun _ => 0)) := rfl
theorem e0_3 (cy : Nat → ClassId) (adr : Nat → Nat) : am_e cy adr am_M0 3 = .inl (cy 0, 16, .inl (fun _ => 0)) := rfl
theorem e0_4 (cy : Nat → ClassId) (adr : Nat → Nat) : am_e cy adr am_M0 4 = .inl (cy 2, 16, .inl (fun _ => 0)) := rfl
theorem e0_5 (cy : Nat → ClassId) (adr : Nat → Nat) : am_e cy adr am_M0 5 = .inl (cy 0, 256, .inl (fun _ => 0)) := rfl
theorem e0_6 (cy : Nat → ClassId) (adr : Nat → Nat) : am_e cy adr am_M0 6 = .inr (2, [.ref (adr 7), .int 0, .int 0]) := rfl
theorem e0_7 (cy : Nat → ClassId) (adr : Nat → Nat) : am_e cy adr am_M0 7 = .inl (cy 3, 10, .inr (.inr (.inr (.inr (fun i => some (adr (am_r 7 i))))))) := rfl
theorem e0_8 (cy : Nat → ClassId) (adr : Nat → Nat) : am_e cy adr am_M0 8 = .inr (9, [.ref (adr 9), .int 0, .ref (adr 10), .ref (adr 11), .int 0]) := rfl
theorem e0_9 (cy : Nat → ClassId) (adr : Nat → Nat) : am_e cy adr am_M0 9 = .inl (cy 0, 140, .inl (fun _ => 0)) := rfl
theorem e0_10 (cy : Nat → ClassId) (adr : Nat → Nat) : am_e cy adr am_M0 10 = .inl (cy 0, 16, .inl (fun _ => 0)) := rfl
theorem e0_11 (cy : Nat → ClassId) (adr : Nat → Nat) : am_e cy adr am_M0 11 = .inl (cy 2, 16, .inl (fun _ => 0)) := rfl
theorem e0_12 (cy : Nat → ClassId) (adr : Nat → Nat) : am_e cy adr am_M0 12 = .inr (1, [.ref (adr 1), .ref (adr 13), .ref (adr 14), .ref (adr 15), .int 0]) := rfl
theorem e0_13 (cy : Nat → ClassId) (adr : Nat → Nat) : am_e cy adr am_M0 13 = .inl (cy 1, 256, .inr (.inl (fun _ => 0))) := rfl
theorem e0_14 (cy : Nat → ClassId) (adr : Nat → Nat) : am_e cy adr am_M0 14 = .inl (cy 0, 256, .inl (fun _ => 0)) := rfl
theorem e0_15 (cy : Nat → ClassId) (adr : Nat → Nat) : am_e cy adr am_M0 15 = .inl (cy 0, 256, .inl (fun _ => 0)) := rfl
theorem e0_16 (cy : Nat → ClassId) (adr : Nat → Nat) : am_e cy adr am_M0 16 = .inr (8, [.ref (adr 1), .ref (adr 17), .ref (adr 18), .ref (adr 19), .ref (adr 20), .int 0]) := rfl
theorem e0_17 (cy : Nat → ClassId) (adr : Nat → Nat) : am_e cy adr am_M0 17 = .inl (cy 0, 256, .inl (fun _ => 0)) := rfl
theorem e0_18 (cy : Nat → ClassId) (adr : Nat → Nat) : am_e cy adr am_M0 18 = .inl (cy 0, 256, .inl (fun _ => 0)) := rfl
theorem e0_19 (cy : Nat → ClassId) (adr : Nat → Nat) : am_e cy adr am_M0 19 = .inl (cy 0, 16, .inl (fun _ => 0)) := rfl
theorem e0_20 (cy : Nat → ClassId) (adr : Nat → Nat) : am_e cy adr am_M0 20 = .inl (cy 0, 16, .inl (fun _ => 0)) := rfl
theorem e0_21 (cy : Nat → ClassId) (adr : Nat → Nat) : am_e cy adr am_M0 21 = .inr (4, [.ref (adr 1), .ref (adr 12), .ref (adr 22), .ref (adr 23), .ref (adr 24), .int 0]) := rfl
theorem e0_22 (cy : Nat → ClassId) (adr : Nat → Nat) : am_e cy adr am_M0 22 = .inl (cy 1, 256, .inr (.inl (fun _ => 0))) := rfl
theorem e0_23 (cy : Nat → ClassId) (adr : Nat → Nat) : am_e cy adr am_M0 23 = .inl (cy 0, 16, .inl (fun _ => 0)) := rfl
theorem e0_24 (cy : Nat → ClassId) (adr : Nat → Nat) : am_e cy adr am_M0 24 = .inl (cy 0, 16, .inl (fun _ => 0)) := rfl
theorem e0_25 (cy : Nat → ClassId) (adr : Nat → Nat) : am_e cy adr am_M0 25 = .inr (5, [.ref (adr 1), .ref (adr 16), .ref (adr 26), .int 0, .int 0]) := rfl
theorem e0_26 (cy : Nat → ClassId) (adr : Nat → Nat) : am_e cy adr am_M0 26 = .inl (cy 0, 48, .inl (fun _ => 0)) := rfl
theorem e0_27 (cy : Nat → ClassId) (adr : Nat → Nat) : am_e cy adr am_M0 27 = .inr (0, [.ref (adr 1), .ref (adr 16), .ref (adr 28), .ref (adr 29)]) := rfl
theorem e0_28 (cy : Nat → ClassId) (adr : Nat → Nat) : am_e cy adr am_M0 28 = .inl (cy 0, 16, .inl (fun _ => 0)) := rfl
theorem e0_29 (cy : Nat → ClassId) (adr : Nat → Nat) : am_e cy adr am_M0 29 = .inl (cy 0, 16, .inl (fun _ => 0)) := rfl
theorem e0_30 (cy : Nat → ClassId) (adr : Nat → Nat) : am_e cy adr am_M0 30 = .inr (3, [.ref (adr 1), .ref (adr 31)]) := rfl
theorem e0_31 (cy : Nat → ClassId) (adr : Nat → Nat) : am_e cy adr am_M0 31 = .inl (cy 0, 768, .inl (fun _ => 0)) := rfl
theorem e0_32 (cy : Nat → ClassId) (adr : Nat → Nat) : am_e cy adr am_M0 32 = .inr (6, [.ref (adr 1)]) := rfl
theorem e0_33 (cy : Nat → ClassId) (adr : Nat → Nat) : am_e cy adr am_M0 33 = .inr (11, [.ref (adr 34), .ref (adr 35), .int 0, .ref (adr 36), .int 0, .ref (adr 37), .ref (adr 38), .int 0, .ref (adr 39), .ref (adr 40), .ref (adr 41), .ref (adr 42), .ref (adr 43), .ref (adr 44), .int 0, .ref (adr 45), .int 0, .ref (adr 46), .ref (adr 47), .ref (adr 48), .long 0]) := by
  rw [am_e_ob (c := 11) (by decide +kernel) (by decide)]
  show Sum.inr (11, List.mapIdx _ ([2, 2, 0, 2, 0, 2, 2, 0, 2, 2, 2, 2, 2, 2, 0, 2, 0, 2, 2, 2, 1] : List Nat)) = _
  simp only [List.mapIdx_cons, List.mapIdx_nil]
  rfl
theorem e0_34 (cy : Nat → ClassId) (adr : Nat → Nat) : am_e cy adr am_M0 34 = .inl (cy 0, 549, .inl (upd (upd (fun _ => 0) 0 1) 1 1)) := rfl
theorem e0_35 (cy : Nat → ClassId) (adr : Nat → Nat) : am_e cy adr am_M0 35 = .inl (cy 0, 5490, .inl (fun _ => 0)) := rfl
theorem e0_36 (cy : Nat → ClassId) (adr : Nat → Nat) : am_e cy adr am_M0 36 = .inl (cy 0, 140, .inl (fun _ => 0)) := rfl
theorem e0_37 (cy : Nat → ClassId) (adr : Nat → Nat) : am_e cy adr am_M0 37 = .inl (cy 0, 256, .inl (fun _ => 0)) := rfl
theorem e0_38 (cy : Nat → ClassId) (adr : Nat → Nat) : am_e cy adr am_M0 38 = .inl (cy 0, 256, .inl (fun _ => 0)) := rfl
theorem e0_39 (cy : Nat → ClassId) (adr : Nat → Nat) : am_e cy adr am_M0 39 = .inl (cy 0, 16, .inl (fun _ => 0)) := rfl
theorem e0_40 (cy : Nat → ClassId) (adr : Nat → Nat) : am_e cy adr am_M0 40 = .inl (cy 0, 16, .inl (fun _ => 0)) := rfl
theorem e0_41 (cy : Nat → ClassId) (adr : Nat → Nat) : am_e cy adr am_M0 41 = .inl (cy 0, 16, .inl (fun _ => 0)) := rfl
theorem e0_42 (cy : Nat → ClassId) (adr : Nat → Nat) : am_e cy adr am_M0 42 = .inl (cy 0, 16, .inl (fun _ => 0)) := rfl
theorem e0_43 (cy : Nat → ClassId) (adr : Nat → Nat) : am_e cy adr am_M0 43 = .inl (cy 0, 16, .inl (fun _ => 0)) := rfl
theorem e0_44 (cy : Nat → ClassId) (adr : Nat → Nat) : am_e cy adr am_M0 44 = .inl (cy 0, 16, .inl (fun _ => 0)) := rfl
theorem e0_45 (cy : Nat → ClassId) (adr : Nat → Nat) : am_e cy adr am_M0 45 = .inl (cy 0, 256, .inl (fun _ => 0)) := rfl
theorem e0_46 (cy : Nat → ClassId) (adr : Nat → Nat) : am_e cy adr am_M0 46 = .inl (cy 0, 48, .inl (fun _ => 0)) := rfl
theorem e0_47 (cy : Nat → ClassId) (adr : Nat → Nat) : am_e cy adr am_M0 47 = .inl (cy 2, 16, .inl (fun _ => 0)) := rfl
theorem e0_48 (cy : Nat → ClassId) (adr : Nat → Nat) : am_e cy adr am_M0 48 = .inl (cy 0, 768, .inl (fun _ => 0)) := rfl
theorem e0_49 (cy : Nat → ClassId) (adr : Nat → Nat) : am_e cy adr am_M0 49 = .inr (7, [.int 1, .int 1, .ref (adr 50), .int 0, .ref (adr 51), .ref (adr 52), .int 0, .int 0, .ref (adr 53)]) := rfl
theorem e0_50 (cy : Nat → ClassId) (adr : Nat → Nat) : am_e cy adr am_M0 50 = .inl (cy 0, 256, .inl (fun _ => 0)) := rfl
theorem e0_51 (cy : Nat → ClassId) (adr : Nat → Nat) : am_e cy adr am_M0 51 = .inl (cy 0, 16, .inl (fun _ => 0)) := rfl
theorem e0_52 (cy : Nat → ClassId) (adr : Nat → Nat) : am_e cy adr am_M0 52 = .inl (cy 2, 16, .inl (fun _ => 0)) := rfl
theorem e0_53 (cy : Nat → ClassId) (adr : Nat → Nat) : am_e cy adr am_M0 53 = .inl (cy 0, 256, .inl (fun _ => 0)) := rfl
theorem e0_54 (cy : Nat → ClassId) (adr : Nat → Nat) : am_e cy adr am_M0 54 = .inr (7, [.int 1, .int 1, .ref (adr 55), .int 0, .ref (adr 56), .ref (adr 57), .int 0, .int 0, .ref (adr 58)]) := rfl
theorem e0_55 (cy : Nat → ClassId) (adr : Nat → Nat) : am_e cy adr am_M0 55 = .inl (cy 0, 256, .inl (fun _ => 0)) := rfl
theorem e0_56 (cy : Nat → ClassId) (adr : Nat → Nat) : am_e cy adr am_M0 56 = .inl (cy 0, 16, .inl (fun _ => 0)) := rfl
theorem e0_57 (cy : Nat → ClassId) (adr : Nat → Nat) : am_e cy adr am_M0 57 = .inl (cy 2, 16, .inl (fun _ => 0)) := rfl
theorem e0_58 (cy : Nat → ClassId) (adr : Nat → Nat) : am_e cy adr am_M0 58 = .inl (cy 0, 256, .inl (fun _ => 0)) := rfl
theorem e0_59 (cy : Nat → ClassId) (adr : Nat → Nat) : am_e cy adr am_M0 59 = .inr (7, [.int 1, .int 1, .ref (adr 60), .int 0, .ref (adr 61), .ref (adr 62), .int 0, .int 0, .ref (adr 63)]) := rfl
theorem e0_60 (cy : Nat → ClassId) (adr : Nat → Nat) : am_e cy adr am_M0 60 = .inl (cy 0, 256, .inl (fun _ => 0)) := rfl
theorem e0_61 (cy : Nat → ClassId) (adr : Nat → Nat) : am_e cy adr am_M0 61 = .inl (cy 0, 16, .inl (fun _ => 0)) := rfl
theorem e0_62 (cy : Nat → ClassId) (adr : Nat → Nat) : am_e cy adr am_M0 62 = .inl (cy 2, 16, .inl (fun _ => 0)) := rfl
theorem e0_63 (cy : Nat → ClassId) (adr : Nat → Nat) : am_e cy adr am_M0 63 = .inl (cy 0, 256, .inl (fun _ => 0)) := rfl
theorem e0_64 (cy : Nat → ClassId) (adr : Nat → Nat) : am_e cy adr am_M0 64 = .inr (7, [.int 1, .int 1, .ref (adr 65), .int 0, .ref (adr 66), .ref (adr 67), .int 0, .int 0, .ref (adr 68)]) := rfl
theorem e0_65 (cy : Nat → ClassId) (adr : Nat → Nat) : am_e cy adr am_M0 65 = .inl (cy 0, 256, .inl (fun _ => 0)) := rfl
theorem e0_66 (cy : Nat → ClassId) (adr : Nat → Nat) : am_e cy adr am_M0 66 = .inl (cy 0, 16, .inl (fun _ => 0)) := rfl
theorem e0_67 (cy : Nat → ClassId) (adr : Nat → Nat) : am_e cy adr am_M0 67 = .inl (cy 2, 16, .inl (fun _ => 0)) := rfl
theorem e0_68 (cy : Nat → ClassId) (adr : Nat → Nat) : am_e cy adr am_M0 68 = .inl (cy 0, 256, .inl (fun _ => 0)) := rfl
theorem e0_69 (cy : Nat → ClassId) (adr : Nat → Nat) : am_e cy adr am_M0 69 = .inr (7, [.int 1, .int 1, .ref (adr 70), .int 0, .ref (adr 71), .ref (adr 72), .int 0, .int 0, .ref (adr 73)]) := rfl
theorem e0_70 (cy : Nat → ClassId) (adr : Nat → Nat) : am_e cy adr am_M0 70 = .inl (cy 0, 256, .inl (fun _ => 0)) := rfl
theorem e0_71 (cy : Nat → ClassId) (adr : Nat → Nat) : am_e cy adr am_M0 71 = .inl (cy 0, 16, .inl (fun _ => 0)) := rfl
theorem e0_72 (cy : Nat → ClassId) (adr : Nat → Nat) : am_e cy adr am_M0 72 = .inl (cy 2, 16, .inl (fun _ => 0)) := rfl
theorem e0_73 (cy : Nat → ClassId) (adr : Nat → Nat) : am_e cy adr am_M0 73 = .inl (cy 0, 256, .inl (fun _ => 0)) := rfl
theorem e0_74 (cy : Nat → ClassId) (adr : Nat → Nat) : am_e cy adr am_M0 74 = .inr (7, [.int 1, .int 1, .ref (adr 75), .int 0, .ref (adr 76), .ref (adr 77), .int 0, .int 0, .ref (adr 78)]) := rfl
theorem e0_75 (cy : Nat → ClassId) (adr : Nat → Nat) : am_e cy adr am_M0 75 = .inl (cy 0, 256, .inl (fun _ => 0)) := rfl
theorem e0_76 (cy : Nat → ClassId) (adr : Nat → Nat) : am_e cy adr am_M0 76 = .inl (cy 0, 16, .inl (fun _ => 0)) := rfl
theorem e0_77 (cy : Nat → ClassId) (adr : Nat → Nat) : am_e cy adr am_M0 77 = .inl (cy 2, 16, .inl (fun _ => 0)) := rfl
theorem e0_78 (cy : Nat → ClassId) (adr : Nat → Nat) : am_e cy adr am_M0 78 = .inl (cy 0, 256, .inl (fun _ => 0)) := rfl
theorem e0_79 (cy : Nat → ClassId) (adr : Nat → Nat) : am_e cy adr am_M0 79 = .inr (7, [.int 1, .int 1, .ref (adr 80), .int 0, .ref (adr 81), .ref (adr 82), .int 0, .int 0, .ref (adr 83)]) := rfl
theorem e0_80 (cy : Nat → ClassId) (adr : Nat → Nat) : am_e cy adr am_M0 80 = .inl (cy 0, 256, .inl (fun _ => 0)) := rfl
theorem e0_81 (cy : Nat → ClassId) (adr : Nat → Nat) : am_e cy adr am_M0 81 = .inl (cy 0, 16, .inl (fun _ => 0)) := rfl
theorem e0_82 (cy : Nat → ClassId) (adr : Nat → Nat) : am_e cy adr am_M0 82 = .inl (cy 2, 16, .inl (fun _ => 0)) := rfl
theorem e0_83 (cy : Nat → ClassId) (adr : Nat → Nat) : am_e cy adr am_M0 83 = .inl (cy 0, 256, .inl (fun _ => 0)) := rfl
theorem e0_84 (cy : Nat → ClassId) (adr : Nat → Nat) : am_e cy adr am_M0 84 = .inr (7, [.int 1, .int 1, .ref (adr 85), .int 0, .ref (adr 86), .ref (adr 87), .int 0, .int 0, .ref (adr 88)]) := rfl
theorem e0_85 (cy : Nat → ClassId) (adr : Nat → Nat) : am_e cy adr am_M0 85 = .inl (cy 0, 256, .inl (fun _ => 0)) := rfl
theorem e0_86 (cy : Nat → ClassId) (adr : Nat → Nat) : am_e cy adr am_M0 86 = .inl (cy 0, 16, .inl (fun _ => 0)) := rfl
theorem e0_87 (cy : Nat → ClassId) (adr : Nat → Nat) : am_e cy adr am_M0 87 = .inl (cy 2, 16, .inl (fun _ => 0)) := rfl
theorem e0_88 (cy : Nat → ClassId) (adr : Nat → Nat) : am_e cy adr am_M0 88 = .inl (cy 0, 256, .inl (fun _ => 0)) := rfl
theorem e0_89 (cy : Nat → ClassId) (adr : Nat → Nat) : am_e cy adr am_M0 89 = .inr (7, [.int 1, .int 1, .ref (adr 90), .int 0, .ref (adr 91), .ref (adr 92), .int 0, .int 0, .ref (adr 93)]) := rfl
theorem e0_90 (cy : Nat → ClassId) (adr : Nat → Nat) : am_e cy adr am_M0 90 = .inl (cy 0, 256, .inl (fun _ => 0)) := rfl
theorem e0_91 (cy : Nat → ClassId) (adr : Nat → Nat) : am_e cy adr am_M0 91 = .inl (cy 0, 16, .inl (fun _ => 0)) := rfl
theorem e0_92 (cy : Nat → ClassId) (adr : Nat → Nat) : am_e cy adr am_M0 92 = .inl (cy 2, 16, .inl (fun _ => 0)) := rfl
theorem e0_93 (cy : Nat → ClassId) (adr : Nat → Nat) : am_e cy adr am_M0 93 = .inl (cy 0, 256, .inl (fun _ => 0)) := rfl
theorem e0_94 (cy : Nat → ClassId) (adr : Nat → Nat) : am_e cy adr am_M0 94 = .inr (7, [.int 1, .int 1, .ref (adr 95), .int 0, .ref (adr 96), .ref (adr 97), .int 0, .int 0, .ref (adr 98)]) := rfl
theorem e0_95 (cy : Nat → ClassId) (adr : Nat → Nat) : am_e cy adr am_M0 95 = .inl (cy 0, 256, .inl (fun _ => 0)) := rfl
theorem e0_96 (cy : Nat → ClassId) (adr : Nat → Nat) : am_e cy adr am_M0 96 = .inl (cy 0, 16, .inl (fun _ => 0)) := rfl
theorem e0_97 (cy : Nat → ClassId) (adr : Nat → Nat) : am_e cy adr am_M0 97 = .inl (cy 2, 16, .inl (fun _ => 0)) := rfl
theorem e0_98 (cy : Nat → ClassId) (adr : Nat → Nat) : am_e cy adr am_M0 98 = .inl (cy 0, 256, .inl (fun _ => 0)) := rfl
set_option maxHeartbeats 4000000 in
set_option maxRecDepth 100000 in
theorem ct_X7 (l : Launch) (D : va_G) (cy : Nat → ClassId) (h0 : Nat) : ct_Met l D cy yX7_init cX7_init 1 ({ frames := 1, cells := 4, slots := 544, locals := 12 }) h0 [] (.inr (7, [.int 0, .int 0, .null, .int 0, .null, .null, .int 0, .int 0, .null])) 4 544 (fun w => ∃ q1 q2 q3 q4 : Nat, w = [(h0, .inr (7, [.int 1, .int 1, .ref q1, .int 0, .ref q2, .ref q3, .int 0, .int 0, .ref q4])), (q1, .inl (cy 0, 256, .inl (fun _ => 0))), (q2, .inl (cy 0, 16, .inl (fun _ => 0))), (q3, .inl (cy 2, 16, .inl (fun _ => 0))), (q4, .inl (cy 0, 256, .inl (fun _ => 0)))]) := by
  intro sz
  refine Met.ofW (cc := cX7_init) (maxL := 1) (ret := none) (by decide) rfl ?_
  intro p e s m args below meth c s₁ B hml hv
  obtain ⟨rfl, hsz, hat, hK⟩ := hv
  have hx := B.exec
  have hb := B.bytes
  have hr := B.returns
  have hts := atoms_spec (ws := Cond.code yX7_init cX7_init 1 none :: am_wG) B.pre
  have hown : s.vm.findClass RX7 = some m.cls := findClass_of_methodNamed B.named
  have hin : meth.name = "<init>" := (name_of_methodNamed B.named B.method).1
  have hG : ∀ w ∈ am_wG, w ∈ Cond.code yX7_init cX7_init 1 none :: am_wG := fun w hw => List.mem_cons_of_mem _ hw
  have hA : ct_At p s m _ c cX7_init 1 D cy (Cond.code yX7_init cX7_init 1 none :: am_wG) RX7 := ⟨hx, hb, hml, hown, hts, hG, hK⟩
  subst hsz
  have hq : ∀ q, s.heap.size ≤ q → ct_A h0 s.heap.size q := fun q h => Or.inr h
  have hS : va_S (ct_A h0 s.heap.size) s.heap s.heap [] := va_S.rf
  obtain ⟨hP, hD⟩ := ct_one (sz := s.heap.size) hat
  have hl := lv_entry ([.ref h0]) (n := 1) (Nat.le_of_ble_eq_true rfl)
  rw [lg_entry_eq]
  generalize (lg_sl ([.ref h0]) ++ List.replicate (1 - (lg_sl ([.ref h0])).length) Slot.unset).toArray = ls at hl ⊢
  have hl : lv_has ls 1 [(0, .ref h0)] := hl
  refine lv_aload_n hx hb dX7_init_0 rfl (lv_at hl 0 rfl) ?_
  refine ct_obj hA 111 (by decide +kernel) hl.1 dX7_init_1 (Nat.le_of_ble_eq_true rfl) (Nat.le_of_ble_eq_true rfl) ?_
  refine lv_aload_n hx hb dX7_init_4 rfl (lv_at hl 0 rfl) ?_
  refine lv_iconst (v := 1) hx hb dX7_init_5 (by decide) ?_
  refine ct_put hA tyX7 rfl ct_in7 tyX7_ok nmX7 hP hD hS 0 (by decide) 112 (by decide +kernel) rfl rfl (v := .int 1) (by decide) rfl (Nat.le_of_ble_eq_true rfl) dX7_init_6 (fun H locs hP hD hS => ?_)
  have hP : va_P D vwCl [(h0, .inr (7, [.int 1, .int 0, .null, .int 0, .null, .null, .int 0, .int 0, .null]))] H := hP
  have hD : va_D (ct_A h0 s.heap.size) [(h0, .inr (7, [.int 1, .int 0, .null, .int 0, .null, .null, .int 0, .int 0, .null]))] := hD
  refine lv_aload_n hx hb dX7_init_9 rfl (lv_at hl 0 rfl) ?_
  refine lv_iconst (v := 1) hx hb dX7_init_10 (by decide) ?_
  refine ct_put hA tyX7 rfl ct_in7 tyX7_ok nmX7 hP hD hS 1 (by decide) 116 (by decide +kernel) rfl rfl (v := .int 1) (by decide) rfl (Nat.le_of_ble_eq_true rfl) dX7_init_11 (fun H locs hP hD hS => ?_)
  have hP : va_P D vwCl [(h0, .inr (7, [.int 1, .int 1, .null, .int 0, .null, .null, .int 0, .int 0, .null]))] H := hP
  have hD : va_D (ct_A h0 s.heap.size) [(h0, .inr (7, [.int 1, .int 1, .null, .int 0, .null, .null, .int 0, .int 0, .null]))] := hD
  refine lv_aload_n hx hb dX7_init_14 rfl (lv_at hl 0 rfl) ?_
  refine lv_sipush (v := 256) hx hb dX7_init_15 (by decide) ?_
  refine ct_newi hA hP hD hS hq 256 (by decide) (by decide) (Nat.le_of_ble_eq_true rfl) (Nat.le_of_ble_eq_true rfl) (Nat.le_of_ble_eq_true rfl) dX7_init_18 (fun q1 H hP hD hS => ?_)
  have hP : va_P D vwCl [(h0, .inr (7, [.int 1, .int 1, .null, .int 0, .null, .null, .int 0, .int 0, .null])), (q1, .inl (cy 0, 256, .inl (fun _ => 0)))] H := hP
  have hD : va_D (ct_A h0 s.heap.size) [(h0, .inr (7, [.int 1, .int 1, .null, .int 0, .null, .null, .int 0, .int 0, .null])), (q1, .inl (cy 0, 256, .inl (fun _ => 0)))] := hD
  refine ct_putF hA tyX7 rfl ct_in7 tyX7_ok nmX7 hP hD hS 2 (by decide) 120 (by decide +kernel) rfl hin rfl (v := .ref q1) rfl rfl (Nat.le_of_ble_eq_true rfl) dX7_init_20 (fun H locs hP hD hS => ?_)
  have hP : va_P D vwCl [(h0, .inr (7, [.int 1, .int 1, .ref q1, .int 0, .null, .null, .int 0, .int 0, .null])), (q1, .inl (cy 0, 256, .inl (fun _ => 0)))] H := hP
  have hD : va_D (ct_A h0 s.heap.size) [(h0, .inr (7, [.int 1, .int 1, .ref q1, .int 0, .null, .null, .int 0, .int 0, .null])), (q1, .inl (cy 0, 256, .inl (fun _ => 0)))] := hD
  refine lv_aload_n hx hb dX7_init_23 rfl (lv_at hl 0 rfl) ?_
  refine lv_iconst (v := 0) hx hb dX7_init_24 (by decide) ?_
  refine ct_put hA tyX7 rfl ct_in7 tyX7_ok nmX7 hP hD hS 3 (by decide) 126 (by decide +kernel) rfl rfl (v := .int 0) (by decide) rfl (Nat.le_of_ble_eq_true rfl) dX7_init_25 (fun H locs hP hD hS => ?_)
  have hP : va_P D vwCl [(h0, .inr (7, [.int 1, .int 1, .ref q1, .int 0, .null, .null, .int 0, .int 0, .null])), (q1, .inl (cy 0, 256, .inl (fun _ => 0)))] H := hP
  have hD : va_D (ct_A h0 s.heap.size) [(h0, .inr (7, [.int 1, .int 1, .ref q1, .int 0, .null, .null, .int 0, .int 0, .null])), (q1, .inl (cy 0, 256, .inl (fun _ => 0)))] := hD
  refine lv_aload_n hx hb dX7_init_28 rfl (lv_at hl 0 rfl) ?_
  refine lv_bipush (v := 16) hx hb dX7_init_29 (by decide) ?_
  refine ct_newi hA hP hD hS hq 16 (by decide) (by decide) (Nat.le_of_ble_eq_true rfl) (Nat.le_of_ble_eq_true rfl) (Nat.le_of_ble_eq_true rfl) dX7_init_31 (fun q2 H hP hD hS => ?_)
  have hP : va_P D vwCl [(h0, .inr (7, [.int 1, .int 1, .ref q1, .int 0, .null, .null, .int 0, .int 0, .null])), (q1, .inl (cy 0, 256, .inl (fun _ => 0))), (q2, .inl (cy 0, 16, .inl (fun _ => 0)))] H := hP
  have hD : va_D (ct_A h0 s.heap.size) [(h0, .inr (7, [.int 1, .int 1, .ref q1, .int 0, .null, .null, .int 0, .int 0, .null])), (q1, .inl (cy 0, 256, .inl (fun _ => 0))), (q2, .inl (cy 0, 16, .inl (fun _ => 0)))] := hD
  refine ct_putF hA tyX7 rfl ct_in7 tyX7_ok nmX7 hP hD hS 4 (by decide) 133 (by decide +kernel) rfl hin rfl (v := .ref q2) rfl rfl (Nat.le_of_ble_eq_true rfl) dX7_init_33 (fun H locs hP hD hS => ?_)
  have hP : va_P D vwCl [(h0, .inr (7, [.int 1, .int 1, .ref q1, .int 0, .ref q2, .null, .int 0, .int 0, .null])), (q1, .inl (cy 0, 256, .inl (fun _ => 0))), (q2, .inl (cy 0, 16, .inl (fun _ => 0)))] H := hP
  have hD : va_D (ct_A h0 s.heap.size) [(h0, .inr (7, [.int 1, .int 1, .ref q1, .int 0, .ref q2, .null, .int 0, .int 0, .null])), (q1, .inl (cy 0, 256, .inl (fun _ => 0))), (q2, .inl (cy 0, 16, .inl (fun _ => 0)))] := hD
  refine lv_aload_n hx hb dX7_init_36 rfl (lv_at hl 0 rfl) ?_
  refine lv_bipush (v := 16) hx hb dX7_init_37 (by decide) ?_
  refine ct_newz hA hP hD hS hq 16 (by decide) (by decide) (Nat.le_of_ble_eq_true rfl) (Nat.le_of_ble_eq_true rfl) (Nat.le_of_ble_eq_true rfl) dX7_init_39 (fun q3 H hP hD hS => ?_)
  have hP : va_P D vwCl [(h0, .inr (7, [.int 1, .int 1, .ref q1, .int 0, .ref q2, .null, .int 0, .int 0, .null])), (q1, .inl (cy 0, 256, .inl (fun _ => 0))), (q2, .inl (cy 0, 16, .inl (fun _ => 0))), (q3, .inl (cy 2, 16, .inl (fun _ => 0)))] H := hP
  have hD : va_D (ct_A h0 s.heap.size) [(h0, .inr (7, [.int 1, .int 1, .ref q1, .int 0, .ref q2, .null, .int 0, .int 0, .null])), (q1, .inl (cy 0, 256, .inl (fun _ => 0))), (q2, .inl (cy 0, 16, .inl (fun _ => 0))), (q3, .inl (cy 2, 16, .inl (fun _ => 0)))] := hD
  refine ct_putF hA tyX7 rfl ct_in7 tyX7_ok nmX7 hP hD hS 5 (by decide) 139 (by decide +kernel) rfl hin rfl (v := .ref q3) rfl rfl (Nat.le_of_ble_eq_true rfl) dX7_init_41 (fun H locs hP hD hS => ?_)
  have hP : va_P D vwCl [(h0, .inr (7, [.int 1, .int 1, .ref q1, .int 0, .ref q2, .ref q3, .int 0, .int 0, .null])), (q1, .inl (cy 0, 256, .inl (fun _ => 0))), (q2, .inl (cy 0, 16, .inl (fun _ => 0))), (q3, .inl (cy 2, 16, .inl (fun _ => 0)))] H := hP
  have hD : va_D (ct_A h0 s.heap.size) [(h0, .inr (7, [.int 1, .int 1, .ref q1, .int 0, .ref q2, .ref q3, .int 0, .int 0, .null])), (q1, .inl (cy 0, 256, .inl (fun _ => 0))), (q2, .inl (cy 0, 16, .inl (fun _ => 0))), (q3, .inl (cy 2, 16, .inl (fun _ => 0)))] := hD
  refine lv_aload_n hx hb dX7_init_44 rfl (lv_at hl 0 rfl) ?_
  refine lv_iconst (v := 0) hx hb dX7_init_45 (by decide) ?_
  refine ct_put hA tyX7 rfl ct_in7 tyX7_ok nmX7 hP hD hS 6 (by decide) 144 (by decide +kernel) rfl rfl (v := .int 0) (by decide) rfl (Nat.le_of_ble_eq_true rfl) dX7_init_46 (fun H locs hP hD hS => ?_)
  have hP : va_P D vwCl [(h0, .inr (7, [.int 1, .int 1, .ref q1, .int 0, .ref q2, .ref q3, .int 0, .int 0, .null])), (q1, .inl (cy 0, 256, .inl (fun _ => 0))), (q2, .inl (cy 0, 16, .inl (fun _ => 0))), (q3, .inl (cy 2, 16, .inl (fun _ => 0)))] H := hP
  have hD : va_D (ct_A h0 s.heap.size) [(h0, .inr (7, [.int 1, .int 1, .ref q1, .int 0, .ref q2, .ref q3, .int 0, .int 0, .null])), (q1, .inl (cy 0, 256, .inl (fun _ => 0))), (q2, .inl (cy 0, 16, .inl (fun _ => 0))), (q3, .inl (cy 2, 16, .inl (fun _ => 0)))] := hD
  refine lv_aload_n hx hb dX7_init_49 rfl (lv_at hl 0 rfl) ?_
  refine lv_iconst (v := 0) hx hb dX7_init_50 (by decide) ?_
  refine ct_put hA tyX7 rfl ct_in7 tyX7_ok nmX7 hP hD hS 7 (by decide) 146 (by decide +kernel) rfl rfl (v := .int 0) (by decide) rfl (Nat.le_of_ble_eq_true rfl) dX7_init_51 (fun H locs hP hD hS => ?_)
  have hP : va_P D vwCl [(h0, .inr (7, [.int 1, .int 1, .ref q1, .int 0, .ref q2, .ref q3, .int 0, .int 0, .null])), (q1, .inl (cy 0, 256, .inl (fun _ => 0))), (q2, .inl (cy 0, 16, .inl (fun _ => 0))), (q3, .inl (cy 2, 16, .inl (fun _ => 0)))] H := hP
  have hD : va_D (ct_A h0 s.heap.size) [(h0, .inr (7, [.int 1, .int 1, .ref q1, .int 0, .ref q2, .ref q3, .int 0, .int 0, .null])), (q1, .inl (cy 0, 256, .inl (fun _ => 0))), (q2, .inl (cy 0, 16, .inl (fun _ => 0))), (q3, .inl (cy 2, 16, .inl (fun _ => 0)))] := hD
  refine lv_aload_n hx hb dX7_init_54 rfl (lv_at hl 0 rfl) ?_
  refine lv_sipush (v := 256) hx hb dX7_init_55 (by decide) ?_
  refine ct_newi hA hP hD hS hq 256 (by decide) (by decide) (Nat.le_of_ble_eq_true rfl) (Nat.le_of_ble_eq_true rfl) (Nat.le_of_ble_eq_true rfl) dX7_init_58 (fun q4 H hP hD hS => ?_)
  have hP : va_P D vwCl [(h0, .inr (7, [.int 1, .int 1, .ref q1, .int 0, .ref q2, .ref q3, .int 0, .int 0, .null])), (q1, .inl (cy 0, 256, .inl (fun _ => 0))), (q2, .inl (cy 0, 16, .inl (fun _ => 0))), (q3, .inl (cy 2, 16, .inl (fun _ => 0))), (q4, .inl (cy 0, 256, .inl (fun _ => 0)))] H := hP
  have hD : va_D (ct_A h0 s.heap.size) [(h0, .inr (7, [.int 1, .int 1, .ref q1, .int 0, .ref q2, .ref q3, .int 0, .int 0, .null])), (q1, .inl (cy 0, 256, .inl (fun _ => 0))), (q2, .inl (cy 0, 16, .inl (fun _ => 0))), (q3, .inl (cy 2, 16, .inl (fun _ => 0))), (q4, .inl (cy 0, 256, .inl (fun _ => 0)))] := hD
  refine ct_putF hA tyX7 rfl ct_in7 tyX7_ok nmX7 hP hD hS 8 (by decide) 148 (by decide +kernel) rfl hin rfl (v := .ref q4) rfl rfl (Nat.le_of_ble_eq_true rfl) dX7_init_60 (fun H locs hP hD hS => ?_)
  have hP : va_P D vwCl [(h0, .inr (7, [.int 1, .int 1, .ref q1, .int 0, .ref q2, .ref q3, .int 0, .int 0, .ref q4])), (q1, .inl (cy 0, 256, .inl (fun _ => 0))), (q2, .inl (cy 0, 16, .inl (fun _ => 0))), (q3, .inl (cy 2, 16, .inl (fun _ => 0))), (q4, .inl (cy 0, 256, .inl (fun _ => 0)))] H := hP
  have hD : va_D (ct_A h0 s.heap.size) [(h0, .inr (7, [.int 1, .int 1, .ref q1, .int 0, .ref q2, .ref q3, .int 0, .int 0, .ref q4])), (q1, .inl (cy 0, 256, .inl (fun _ => 0))), (q2, .inl (cy 0, 16, .inl (fun _ => 0))), (q3, .inl (cy 2, 16, .inl (fun _ => 0))), (q4, .inl (cy 0, 256, .inl (fun _ => 0)))] := hD
  exact W.vret hx hb hr (fun t ht hW => ⟨⟨_, rfl, ⟨q1, q2, q3, q4, rfl⟩, by rw [ht]; exact hP, hD⟩, hS.F ht⟩) hS.2.2 dX7_init_63
set_option maxHeartbeats 4000000 in
set_option maxRecDepth 100000 in
theorem ct_X9 (l : Launch) (D : va_G) (cy : Nat → ClassId) (h0 : Nat) : ct_Met l D cy yX9_init cX9_init 1 ({ frames := 1, cells := 3, slots := 172, locals := 12 }) h0 [] (.inr (9, [.null, .int 0, .null, .null, .int 0])) 3 172 (fun w => ∃ q1 q2 q3 : Nat, w = [(h0, .inr (9, [.ref q1, .int 0, .ref q2, .ref q3, .int 0])), (q1, .inl (cy 0, 140, .inl (fun _ => 0))), (q2, .inl (cy 0, 16, .inl (fun _ => 0))), (q3, .inl (cy 2, 16, .inl (fun _ => 0)))]) := by
  intro sz
  refine Met.ofW (cc := cX9_init) (maxL := 1) (ret := none) (by decide) rfl ?_
  intro p e s m args below meth c s₁ B hml hv
  obtain ⟨rfl, hsz, hat, hK⟩ := hv
  have hx := B.exec
  have hb := B.bytes
  have hr := B.returns
  have hts := atoms_spec (ws := Cond.code yX9_init cX9_init 1 none :: am_wG) B.pre
  have hown : s.vm.findClass RX9 = some m.cls := findClass_of_methodNamed B.named
  have hin : meth.name = "<init>" := (name_of_methodNamed B.named B.method).1
  have hG : ∀ w ∈ am_wG, w ∈ Cond.code yX9_init cX9_init 1 none :: am_wG := fun w hw => List.mem_cons_of_mem _ hw
  have hA : ct_At p s m _ c cX9_init 1 D cy (Cond.code yX9_init cX9_init 1 none :: am_wG) RX9 := ⟨hx, hb, hml, hown, hts, hG, hK⟩
  subst hsz
  have hq : ∀ q, s.heap.size ≤ q → ct_A h0 s.heap.size q := fun q h => Or.inr h
  have hS : va_S (ct_A h0 s.heap.size) s.heap s.heap [] := va_S.rf
  obtain ⟨hP, hD⟩ := ct_one (sz := s.heap.size) hat
  have hl := lv_entry ([.ref h0]) (n := 1) (Nat.le_of_ble_eq_true rfl)
  rw [lg_entry_eq]
  generalize (lg_sl ([.ref h0]) ++ List.replicate (1 - (lg_sl ([.ref h0])).length) Slot.unset).toArray = ls at hl ⊢
  have hl : lv_has ls 1 [(0, .ref h0)] := hl
  refine lv_aload_n hx hb dX9_init_0 rfl (lv_at hl 0 rfl) ?_
  refine ct_obj hA 199 (by decide +kernel) hl.1 dX9_init_1 (Nat.le_of_ble_eq_true rfl) (Nat.le_of_ble_eq_true rfl) ?_
  refine lv_aload_n hx hb dX9_init_4 rfl (lv_at hl 0 rfl) ?_
  refine lv_sipush (v := 140) hx hb dX9_init_5 (by decide) ?_
  refine ct_newi hA hP hD hS hq 140 (by decide) (by decide) (Nat.le_of_ble_eq_true rfl) (Nat.le_of_ble_eq_true rfl) (Nat.le_of_ble_eq_true rfl) dX9_init_8 (fun q1 H hP hD hS => ?_)
  have hP : va_P D vwCl [(h0, .inr (9, [.null, .int 0, .null, .null, .int 0])), (q1, .inl (cy 0, 140, .inl (fun _ => 0)))] H := hP
  have hD : va_D (ct_A h0 s.heap.size) [(h0, .inr (9, [.null, .int 0, .null, .null, .int 0])), (q1, .inl (cy 0, 140, .inl (fun _ => 0)))] := hD
  refine ct_putF hA tyX9 rfl ct_in9 tyX9_ok nmX9 hP hD hS 0 (by decide) 200 (by decide +kernel) rfl hin rfl (v := .ref q1) rfl rfl (Nat.le_of_ble_eq_true rfl) dX9_init_10 (fun H locs hP hD hS => ?_)
  have hP : va_P D vwCl [(h0, .inr (9, [.ref q1, .int 0, .null, .null, .int 0])), (q1, .inl (cy 0, 140, .inl (fun _ => 0)))] H := hP
  have hD : va_D (ct_A h0 s.heap.size) [(h0, .inr (9, [.ref q1, .int 0, .null, .null, .int 0])), (q1, .inl (cy 0, 140, .inl (fun _ => 0)))] := hD
  refine lv_aload_n hx hb dX9_init_13 rfl (lv_at hl 0 rfl) ?_
  refine lv_iconst (v := 0) hx hb dX9_init_14 (by decide) ?_
  refine ct_put hA tyX9 rfl ct_in9 tyX9_ok nmX9 hP hD hS 1 (by decide) 202 (by decide +kernel) rfl rfl (v := .int 0) (by decide) rfl (Nat.le_of_ble_eq_true rfl) dX9_init_15 (fun H locs hP hD hS => ?_)
  have hP : va_P D vwCl [(h0, .inr (9, [.ref q1, .int 0, .null, .null, .int 0])), (q1, .inl (cy 0, 140, .inl (fun _ => 0)))] H := hP
  have hD : va_D (ct_A h0 s.heap.size) [(h0, .inr (9, [.ref q1, .int 0, .null, .null, .int 0])), (q1, .inl (cy 0, 140, .inl (fun _ => 0)))] := hD
  refine lv_aload_n hx hb dX9_init_18 rfl (lv_at hl 0 rfl) ?_
  refine lv_bipush (v := 16) hx hb dX9_init_19 (by decide) ?_
  refine ct_newi hA hP hD hS hq 16 (by decide) (by decide) (Nat.le_of_ble_eq_true rfl) (Nat.le_of_ble_eq_true rfl) (Nat.le_of_ble_eq_true rfl) dX9_init_21 (fun q2 H hP hD hS => ?_)
  have hP : va_P D vwCl [(h0, .inr (9, [.ref q1, .int 0, .null, .null, .int 0])), (q1, .inl (cy 0, 140, .inl (fun _ => 0))), (q2, .inl (cy 0, 16, .inl (fun _ => 0)))] H := hP
  have hD : va_D (ct_A h0 s.heap.size) [(h0, .inr (9, [.ref q1, .int 0, .null, .null, .int 0])), (q1, .inl (cy 0, 140, .inl (fun _ => 0))), (q2, .inl (cy 0, 16, .inl (fun _ => 0)))] := hD
  refine ct_putF hA tyX9 rfl ct_in9 tyX9_ok nmX9 hP hD hS 2 (by decide) 204 (by decide +kernel) rfl hin rfl (v := .ref q2) rfl rfl (Nat.le_of_ble_eq_true rfl) dX9_init_23 (fun H locs hP hD hS => ?_)
  have hP : va_P D vwCl [(h0, .inr (9, [.ref q1, .int 0, .ref q2, .null, .int 0])), (q1, .inl (cy 0, 140, .inl (fun _ => 0))), (q2, .inl (cy 0, 16, .inl (fun _ => 0)))] H := hP
  have hD : va_D (ct_A h0 s.heap.size) [(h0, .inr (9, [.ref q1, .int 0, .ref q2, .null, .int 0])), (q1, .inl (cy 0, 140, .inl (fun _ => 0))), (q2, .inl (cy 0, 16, .inl (fun _ => 0)))] := hD
  refine lv_aload_n hx hb dX9_init_26 rfl (lv_at hl 0 rfl) ?_
  refine lv_bipush (v := 16) hx hb dX9_init_27 (by decide) ?_
  refine ct_newz hA hP hD hS hq 16 (by decide) (by decide) (Nat.le_of_ble_eq_true rfl) (Nat.le_of_ble_eq_true rfl) (Nat.le_of_ble_eq_true rfl) dX9_init_29 (fun q3 H hP hD hS => ?_)
  have hP : va_P D vwCl [(h0, .inr (9, [.ref q1, .int 0, .ref q2, .null, .int 0])), (q1, .inl (cy 0, 140, .inl (fun _ => 0))), (q2, .inl (cy 0, 16, .inl (fun _ => 0))), (q3, .inl (cy 2, 16, .inl (fun _ => 0)))] H := hP
  have hD : va_D (ct_A h0 s.heap.size) [(h0, .inr (9, [.ref q1, .int 0, .ref q2, .null, .int 0])), (q1, .inl (cy 0, 140, .inl (fun _ => 0))), (q2, .inl (cy 0, 16, .inl (fun _ => 0))), (q3, .inl (cy 2, 16, .inl (fun _ => 0)))] := hD
  refine ct_putF hA tyX9 rfl ct_in9 tyX9_ok nmX9 hP hD hS 3 (by decide) 206 (by decide +kernel) rfl hin rfl (v := .ref q3) rfl rfl (Nat.le_of_ble_eq_true rfl) dX9_init_31 (fun H locs hP hD hS => ?_)
  have hP : va_P D vwCl [(h0, .inr (9, [.ref q1, .int 0, .ref q2, .ref q3, .int 0])), (q1, .inl (cy 0, 140, .inl (fun _ => 0))), (q2, .inl (cy 0, 16, .inl (fun _ => 0))), (q3, .inl (cy 2, 16, .inl (fun _ => 0)))] H := hP
  have hD : va_D (ct_A h0 s.heap.size) [(h0, .inr (9, [.ref q1, .int 0, .ref q2, .ref q3, .int 0])), (q1, .inl (cy 0, 140, .inl (fun _ => 0))), (q2, .inl (cy 0, 16, .inl (fun _ => 0))), (q3, .inl (cy 2, 16, .inl (fun _ => 0)))] := hD
  refine lv_aload_n hx hb dX9_init_34 rfl (lv_at hl 0 rfl) ?_
  refine lv_iconst (v := 0) hx hb dX9_init_35 (by decide) ?_
  refine ct_put hA tyX9 rfl ct_in9 tyX9_ok nmX9 hP hD hS 4 (by decide) 208 (by decide +kernel) rfl rfl (v := .int 0) (by decide) rfl (Nat.le_of_ble_eq_true rfl) dX9_init_36 (fun H locs hP hD hS => ?_)
  have hP : va_P D vwCl [(h0, .inr (9, [.ref q1, .int 0, .ref q2, .ref q3, .int 0])), (q1, .inl (cy 0, 140, .inl (fun _ => 0))), (q2, .inl (cy 0, 16, .inl (fun _ => 0))), (q3, .inl (cy 2, 16, .inl (fun _ => 0)))] H := hP
  have hD : va_D (ct_A h0 s.heap.size) [(h0, .inr (9, [.ref q1, .int 0, .ref q2, .ref q3, .int 0])), (q1, .inl (cy 0, 140, .inl (fun _ => 0))), (q2, .inl (cy 0, 16, .inl (fun _ => 0))), (q3, .inl (cy 2, 16, .inl (fun _ => 0)))] := hD
  exact W.vret hx hb hr (fun t ht hW => ⟨⟨_, rfl, ⟨q1, q2, q3, rfl⟩, by rw [ht]; exact hP, hD⟩, hS.F ht⟩) hS.2.2 dX9_init_39
set_option maxHeartbeats 4000000 in
set_option maxRecDepth 100000 in
theorem ct_X1 (l : Launch) (D : va_G) (cy : Nat → ClassId) (h0 : Nat) (p1 : Nat) : ct_Met l D cy yX1_init cX1_init 2 ({ frames := 1, cells := 3, slots := 768, locals := 12 }) h0 [.ref p1] (.inr (1, [.null, .null, .null, .null, .int 0])) 3 768 (fun w => ∃ q1 q2 q3 : Nat, w = [(h0, .inr (1, [.ref p1, .ref q1, .ref q2, .ref q3, .int 0])), (q1, .inl (cy 1, 256, .inr (.inl (fun _ => 0)))), (q2, .inl (cy 0, 256, .inl (fun _ => 0))), (q3, .inl (cy 0, 256, .inl (fun _ => 0)))]) := by
  intro sz
  refine Met.ofW (cc := cX1_init) (maxL := 2) (ret := none) (by decide) rfl ?_
  intro p e s m args below meth c s₁ B hml hv
  obtain ⟨rfl, hsz, hat, hK⟩ := hv
  have hx := B.exec
  have hb := B.bytes
  have hr := B.returns
  have hts := atoms_spec (ws := Cond.code yX1_init cX1_init 2 none :: am_wG) B.pre
  have hown : s.vm.findClass RX1 = some m.cls := findClass_of_methodNamed B.named
  have hin : meth.name = "<init>" := (name_of_methodNamed B.named B.method).1
  have hG : ∀ w ∈ am_wG, w ∈ Cond.code yX1_init cX1_init 2 none :: am_wG := fun w hw => List.mem_cons_of_mem _ hw
  have hA : ct_At p s m _ c cX1_init 2 D cy (Cond.code yX1_init cX1_init 2 none :: am_wG) RX1 := ⟨hx, hb, hml, hown, hts, hG, hK⟩
  subst hsz
  have hq : ∀ q, s.heap.size ≤ q → ct_A h0 s.heap.size q := fun q h => Or.inr h
  have hS : va_S (ct_A h0 s.heap.size) s.heap s.heap [] := va_S.rf
  obtain ⟨hP, hD⟩ := ct_one (sz := s.heap.size) hat
  have hl := lv_entry ([.ref h0, .ref p1]) (n := 2) (Nat.le_of_ble_eq_true rfl)
  rw [lg_entry_eq]
  generalize (lg_sl ([.ref h0, .ref p1]) ++ List.replicate (2 - (lg_sl ([.ref h0, .ref p1])).length) Slot.unset).toArray = ls at hl ⊢
  have hl : lv_has ls 2 [(0, .ref h0), (1, .ref p1)] := hl
  refine lv_aload_n hx hb dX1_init_0 rfl (lv_at hl 0 rfl) ?_
  refine ct_obj hA 226 (by decide +kernel) hl.1 dX1_init_1 (Nat.le_of_ble_eq_true rfl) (Nat.le_of_ble_eq_true rfl) ?_
  refine lv_aload_n hx hb dX1_init_4 rfl (lv_at hl 0 rfl) ?_
  refine lv_sipush (v := 256) hx hb dX1_init_5 (by decide) ?_
  refine ct_newj hA hP hD hS hq 256 (by decide) (by decide) (Nat.le_of_ble_eq_true rfl) (Nat.le_of_ble_eq_true rfl) (Nat.le_of_ble_eq_true rfl) dX1_init_8 (fun q1 H hP hD hS => ?_)
  have hP : va_P D vwCl [(h0, .inr (1, [.null, .null, .null, .null, .int 0])), (q1, .inl (cy 1, 256, .inr (.inl (fun _ => 0))))] H := hP
  have hD : va_D (ct_A h0 s.heap.size) [(h0, .inr (1, [.null, .null, .null, .null, .int 0])), (q1, .inl (cy 1, 256, .inr (.inl (fun _ => 0))))] := hD
  refine ct_putF hA tyX1 rfl ct_in1 tyX1_ok nmX1 hP hD hS 1 (by decide) 228 (by decide +kernel) rfl hin rfl (v := .ref q1) rfl rfl (Nat.le_of_ble_eq_true rfl) dX1_init_10 (fun H locs hP hD hS => ?_)
  have hP : va_P D vwCl [(h0, .inr (1, [.null, .ref q1, .null, .null, .int 0])), (q1, .inl (cy 1, 256, .inr (.inl (fun _ => 0))))] H := hP
  have hD : va_D (ct_A h0 s.heap.size) [(h0, .inr (1, [.null, .ref q1, .null, .null, .int 0])), (q1, .inl (cy 1, 256, .inr (.inl (fun _ => 0))))] := hD
  refine lv_aload_n hx hb dX1_init_13 rfl (lv_at hl 0 rfl) ?_
  refine lv_sipush (v := 256) hx hb dX1_init_14 (by decide) ?_
  refine ct_newi hA hP hD hS hq 256 (by decide) (by decide) (Nat.le_of_ble_eq_true rfl) (Nat.le_of_ble_eq_true rfl) (Nat.le_of_ble_eq_true rfl) dX1_init_17 (fun q2 H hP hD hS => ?_)
  have hP : va_P D vwCl [(h0, .inr (1, [.null, .ref q1, .null, .null, .int 0])), (q1, .inl (cy 1, 256, .inr (.inl (fun _ => 0)))), (q2, .inl (cy 0, 256, .inl (fun _ => 0)))] H := hP
  have hD : va_D (ct_A h0 s.heap.size) [(h0, .inr (1, [.null, .ref q1, .null, .null, .int 0])), (q1, .inl (cy 1, 256, .inr (.inl (fun _ => 0)))), (q2, .inl (cy 0, 256, .inl (fun _ => 0)))] := hD
  refine ct_putF hA tyX1 rfl ct_in1 tyX1_ok nmX1 hP hD hS 2 (by decide) 229 (by decide +kernel) rfl hin rfl (v := .ref q2) rfl rfl (Nat.le_of_ble_eq_true rfl) dX1_init_19 (fun H locs hP hD hS => ?_)
  have hP : va_P D vwCl [(h0, .inr (1, [.null, .ref q1, .ref q2, .null, .int 0])), (q1, .inl (cy 1, 256, .inr (.inl (fun _ => 0)))), (q2, .inl (cy 0, 256, .inl (fun _ => 0)))] H := hP
  have hD : va_D (ct_A h0 s.heap.size) [(h0, .inr (1, [.null, .ref q1, .ref q2, .null, .int 0])), (q1, .inl (cy 1, 256, .inr (.inl (fun _ => 0)))), (q2, .inl (cy 0, 256, .inl (fun _ => 0)))] := hD
  refine lv_aload_n hx hb dX1_init_22 rfl (lv_at hl 0 rfl) ?_
  refine lv_sipush (v := 256) hx hb dX1_init_23 (by decide) ?_
  refine ct_newi hA hP hD hS hq 256 (by decide) (by decide) (Nat.le_of_ble_eq_true rfl) (Nat.le_of_ble_eq_true rfl) (Nat.le_of_ble_eq_true rfl) dX1_init_26 (fun q3 H hP hD hS => ?_)
  have hP : va_P D vwCl [(h0, .inr (1, [.null, .ref q1, .ref q2, .null, .int 0])), (q1, .inl (cy 1, 256, .inr (.inl (fun _ => 0)))), (q2, .inl (cy 0, 256, .inl (fun _ => 0))), (q3, .inl (cy 0, 256, .inl (fun _ => 0)))] H := hP
  have hD : va_D (ct_A h0 s.heap.size) [(h0, .inr (1, [.null, .ref q1, .ref q2, .null, .int 0])), (q1, .inl (cy 1, 256, .inr (.inl (fun _ => 0)))), (q2, .inl (cy 0, 256, .inl (fun _ => 0))), (q3, .inl (cy 0, 256, .inl (fun _ => 0)))] := hD
  refine ct_putF hA tyX1 rfl ct_in1 tyX1_ok nmX1 hP hD hS 3 (by decide) 232 (by decide +kernel) rfl hin rfl (v := .ref q3) rfl rfl (Nat.le_of_ble_eq_true rfl) dX1_init_28 (fun H locs hP hD hS => ?_)
  have hP : va_P D vwCl [(h0, .inr (1, [.null, .ref q1, .ref q2, .ref q3, .int 0])), (q1, .inl (cy 1, 256, .inr (.inl (fun _ => 0)))), (q2, .inl (cy 0, 256, .inl (fun _ => 0))), (q3, .inl (cy 0, 256, .inl (fun _ => 0)))] H := hP
  have hD : va_D (ct_A h0 s.heap.size) [(h0, .inr (1, [.null, .ref q1, .ref q2, .ref q3, .int 0])), (q1, .inl (cy 1, 256, .inr (.inl (fun _ => 0)))), (q2, .inl (cy 0, 256, .inl (fun _ => 0))), (q3, .inl (cy 0, 256, .inl (fun _ => 0)))] := hD
  refine lv_aload_n hx hb dX1_init_31 rfl (lv_at hl 0 rfl) ?_
  refine lv_iconst (v := 0) hx hb dX1_init_32 (by decide) ?_
  refine ct_put hA tyX1 rfl ct_in1 tyX1_ok nmX1 hP hD hS 4 (by decide) 234 (by decide +kernel) rfl rfl (v := .int 0) (by decide) rfl (Nat.le_of_ble_eq_true rfl) dX1_init_33 (fun H locs hP hD hS => ?_)
  have hP : va_P D vwCl [(h0, .inr (1, [.null, .ref q1, .ref q2, .ref q3, .int 0])), (q1, .inl (cy 1, 256, .inr (.inl (fun _ => 0)))), (q2, .inl (cy 0, 256, .inl (fun _ => 0))), (q3, .inl (cy 0, 256, .inl (fun _ => 0)))] H := hP
  have hD : va_D (ct_A h0 s.heap.size) [(h0, .inr (1, [.null, .ref q1, .ref q2, .ref q3, .int 0])), (q1, .inl (cy 1, 256, .inr (.inl (fun _ => 0)))), (q2, .inl (cy 0, 256, .inl (fun _ => 0))), (q3, .inl (cy 0, 256, .inl (fun _ => 0)))] := hD
  refine lv_aload_n hx hb dX1_init_36 rfl (lv_at hl 0 rfl) ?_
  refine lv_aload_n hx hb dX1_init_37 rfl (lv_at hl 1 rfl) ?_
  refine ct_putF hA tyX1 rfl ct_in1 tyX1_ok nmX1 hP hD hS 0 (by decide) 227 (by decide +kernel) rfl hin rfl (v := .ref p1) rfl rfl (Nat.le_of_ble_eq_true rfl) dX1_init_38 (fun H locs hP hD hS => ?_)
  have hP : va_P D vwCl [(h0, .inr (1, [.ref p1, .ref q1, .ref q2, .ref q3, .int 0])), (q1, .inl (cy 1, 256, .inr (.inl (fun _ => 0)))), (q2, .inl (cy 0, 256, .inl (fun _ => 0))), (q3, .inl (cy 0, 256, .inl (fun _ => 0)))] H := hP
  have hD : va_D (ct_A h0 s.heap.size) [(h0, .inr (1, [.ref p1, .ref q1, .ref q2, .ref q3, .int 0])), (q1, .inl (cy 1, 256, .inr (.inl (fun _ => 0)))), (q2, .inl (cy 0, 256, .inl (fun _ => 0))), (q3, .inl (cy 0, 256, .inl (fun _ => 0)))] := hD
  exact W.vret hx hb hr (fun t ht hW => ⟨⟨_, rfl, ⟨q1, q2, q3, rfl⟩, by rw [ht]; exact hP, hD⟩, hS.F ht⟩) hS.2.2 dX1_init_41
set_option maxHeartbeats 4000000 in
set_option maxRecDepth 100000 in
theorem ct_X8 (l : Launch) (D : va_G) (cy : Nat → ClassId) (h0 : Nat) (p1 : Nat) : ct_Met l D cy yX8_init cX8_init 2 ({ frames := 1, cells := 4, slots := 544, locals := 12 }) h0 [.ref p1] (.inr (8, [.null, .null, .null, .null, .null, .int 0])) 4 544 (fun w => ∃ q1 q2 q3 q4 : Nat, w = [(h0, .inr (8, [.ref p1, .ref q1, .ref q2, .ref q3, .ref q4, .int 0])), (q1, .inl (cy 0, 256, .inl (fun _ => 0))), (q2, .inl (cy 0, 256, .inl (fun _ => 0))), (q3, .inl (cy 0, 16, .inl (fun _ => 0))), (q4, .inl (cy 0, 16, .inl (fun _ => 0)))]) := by
  intro sz
  refine Met.ofW (cc := cX8_init) (maxL := 2) (ret := none) (by decide) rfl ?_
  intro p e s m args below meth c s₁ B hml hv
  obtain ⟨rfl, hsz, hat, hK⟩ := hv
  have hx := B.exec
  have hb := B.bytes
  have hr := B.returns
  have hts := atoms_spec (ws := Cond.code yX8_init cX8_init 2 none :: am_wG) B.pre
  have hown : s.vm.findClass RX8 = some m.cls := findClass_of_methodNamed B.named
  have hin : meth.name = "<init>" := (name_of_methodNamed B.named B.method).1
  have hG : ∀ w ∈ am_wG, w ∈ Cond.code yX8_init cX8_init 2 none :: am_wG := fun w hw => List.mem_cons_of_mem _ hw
  have hA : ct_At p s m _ c cX8_init 2 D cy (Cond.code yX8_init cX8_init 2 none :: am_wG) RX8 := ⟨hx, hb, hml, hown, hts, hG, hK⟩
  subst hsz
  have hq : ∀ q, s.heap.size ≤ q → ct_A h0 s.heap.size q := fun q h => Or.inr h
  have hS : va_S (ct_A h0 s.heap.size) s.heap s.heap [] := va_S.rf
  obtain ⟨hP, hD⟩ := ct_one (sz := s.heap.size) hat
  have hl := lv_entry ([.ref h0, .ref p1]) (n := 2) (Nat.le_of_ble_eq_true rfl)
  rw [lg_entry_eq]
  generalize (lg_sl ([.ref h0, .ref p1]) ++ List.replicate (2 - (lg_sl ([.ref h0, .ref p1])).length) Slot.unset).toArray = ls at hl ⊢
  have hl : lv_has ls 2 [(0, .ref h0), (1, .ref p1)] := hl
  refine lv_aload_n hx hb dX8_init_0 rfl (lv_at hl 0 rfl) ?_
  refine ct_obj hA 254 (by decide +kernel) hl.1 dX8_init_1 (Nat.le_of_ble_eq_true rfl) (Nat.le_of_ble_eq_true rfl) ?_
  refine lv_aload_n hx hb dX8_init_4 rfl (lv_at hl 0 rfl) ?_
  refine lv_sipush (v := 256) hx hb dX8_init_5 (by decide) ?_
  refine ct_newi hA hP hD hS hq 256 (by decide) (by decide) (Nat.le_of_ble_eq_true rfl) (Nat.le_of_ble_eq_true rfl) (Nat.le_of_ble_eq_true rfl) dX8_init_8 (fun q1 H hP hD hS => ?_)
  have hP : va_P D vwCl [(h0, .inr (8, [.null, .null, .null, .null, .null, .int 0])), (q1, .inl (cy 0, 256, .inl (fun _ => 0)))] H := hP
  have hD : va_D (ct_A h0 s.heap.size) [(h0, .inr (8, [.null, .null, .null, .null, .null, .int 0])), (q1, .inl (cy 0, 256, .inl (fun _ => 0)))] := hD
  refine ct_putF hA tyX8 rfl ct_in8 tyX8_ok nmX8 hP hD hS 1 (by decide) 256 (by decide +kernel) rfl hin rfl (v := .ref q1) rfl rfl (Nat.le_of_ble_eq_true rfl) dX8_init_10 (fun H locs hP hD hS => ?_)
  have hP : va_P D vwCl [(h0, .inr (8, [.null, .ref q1, .null, .null, .null, .int 0])), (q1, .inl (cy 0, 256, .inl (fun _ => 0)))] H := hP
  have hD : va_D (ct_A h0 s.heap.size) [(h0, .inr (8, [.null, .ref q1, .null, .null, .null, .int 0])), (q1, .inl (cy 0, 256, .inl (fun _ => 0)))] := hD
  refine lv_aload_n hx hb dX8_init_13 rfl (lv_at hl 0 rfl) ?_
  refine lv_sipush (v := 256) hx hb dX8_init_14 (by decide) ?_
  refine ct_newi hA hP hD hS hq 256 (by decide) (by decide) (Nat.le_of_ble_eq_true rfl) (Nat.le_of_ble_eq_true rfl) (Nat.le_of_ble_eq_true rfl) dX8_init_17 (fun q2 H hP hD hS => ?_)
  have hP : va_P D vwCl [(h0, .inr (8, [.null, .ref q1, .null, .null, .null, .int 0])), (q1, .inl (cy 0, 256, .inl (fun _ => 0))), (q2, .inl (cy 0, 256, .inl (fun _ => 0)))] H := hP
  have hD : va_D (ct_A h0 s.heap.size) [(h0, .inr (8, [.null, .ref q1, .null, .null, .null, .int 0])), (q1, .inl (cy 0, 256, .inl (fun _ => 0))), (q2, .inl (cy 0, 256, .inl (fun _ => 0)))] := hD
  refine ct_putF hA tyX8 rfl ct_in8 tyX8_ok nmX8 hP hD hS 2 (by decide) 258 (by decide +kernel) rfl hin rfl (v := .ref q2) rfl rfl (Nat.le_of_ble_eq_true rfl) dX8_init_19 (fun H locs hP hD hS => ?_)
  have hP : va_P D vwCl [(h0, .inr (8, [.null, .ref q1, .ref q2, .null, .null, .int 0])), (q1, .inl (cy 0, 256, .inl (fun _ => 0))), (q2, .inl (cy 0, 256, .inl (fun _ => 0)))] H := hP
  have hD : va_D (ct_A h0 s.heap.size) [(h0, .inr (8, [.null, .ref q1, .ref q2, .null, .null, .int 0])), (q1, .inl (cy 0, 256, .inl (fun _ => 0))), (q2, .inl (cy 0, 256, .inl (fun _ => 0)))] := hD
  refine lv_aload_n hx hb dX8_init_22 rfl (lv_at hl 0 rfl) ?_
  refine lv_bipush (v := 16) hx hb dX8_init_23 (by decide) ?_
  refine ct_newi hA hP hD hS hq 16 (by decide) (by decide) (Nat.le_of_ble_eq_true rfl) (Nat.le_of_ble_eq_true rfl) (Nat.le_of_ble_eq_true rfl) dX8_init_25 (fun q3 H hP hD hS => ?_)
  have hP : va_P D vwCl [(h0, .inr (8, [.null, .ref q1, .ref q2, .null, .null, .int 0])), (q1, .inl (cy 0, 256, .inl (fun _ => 0))), (q2, .inl (cy 0, 256, .inl (fun _ => 0))), (q3, .inl (cy 0, 16, .inl (fun _ => 0)))] H := hP
  have hD : va_D (ct_A h0 s.heap.size) [(h0, .inr (8, [.null, .ref q1, .ref q2, .null, .null, .int 0])), (q1, .inl (cy 0, 256, .inl (fun _ => 0))), (q2, .inl (cy 0, 256, .inl (fun _ => 0))), (q3, .inl (cy 0, 16, .inl (fun _ => 0)))] := hD
  refine ct_putF hA tyX8 rfl ct_in8 tyX8_ok nmX8 hP hD hS 3 (by decide) 259 (by decide +kernel) rfl hin rfl (v := .ref q3) rfl rfl (Nat.le_of_ble_eq_true rfl) dX8_init_27 (fun H locs hP hD hS => ?_)
  have hP : va_P D vwCl [(h0, .inr (8, [.null, .ref q1, .ref q2, .ref q3, .null, .int 0])), (q1, .inl (cy 0, 256, .inl (fun _ => 0))), (q2, .inl (cy 0, 256, .inl (fun _ => 0))), (q3, .inl (cy 0, 16, .inl (fun _ => 0)))] H := hP
  have hD : va_D (ct_A h0 s.heap.size) [(h0, .inr (8, [.null, .ref q1, .ref q2, .ref q3, .null, .int 0])), (q1, .inl (cy 0, 256, .inl (fun _ => 0))), (q2, .inl (cy 0, 256, .inl (fun _ => 0))), (q3, .inl (cy 0, 16, .inl (fun _ => 0)))] := hD
  refine lv_aload_n hx hb dX8_init_30 rfl (lv_at hl 0 rfl) ?_
  refine lv_bipush (v := 16) hx hb dX8_init_31 (by decide) ?_
  refine ct_newi hA hP hD hS hq 16 (by decide) (by decide) (Nat.le_of_ble_eq_true rfl) (Nat.le_of_ble_eq_true rfl) (Nat.le_of_ble_eq_true rfl) dX8_init_33 (fun q4 H hP hD hS => ?_)
  have hP : va_P D vwCl [(h0, .inr (8, [.null, .ref q1, .ref q2, .ref q3, .null, .int 0])), (q1, .inl (cy 0, 256, .inl (fun _ => 0))), (q2, .inl (cy 0, 256, .inl (fun _ => 0))), (q3, .inl (cy 0, 16, .inl (fun _ => 0))), (q4, .inl (cy 0, 16, .inl (fun _ => 0)))] H := hP
  have hD : va_D (ct_A h0 s.heap.size) [(h0, .inr (8, [.null, .ref q1, .ref q2, .ref q3, .null, .int 0])), (q1, .inl (cy 0, 256, .inl (fun _ => 0))), (q2, .inl (cy 0, 256, .inl (fun _ => 0))), (q3, .inl (cy 0, 16, .inl (fun _ => 0))), (q4, .inl (cy 0, 16, .inl (fun _ => 0)))] := hD
  refine ct_putF hA tyX8 rfl ct_in8 tyX8_ok nmX8 hP hD hS 4 (by decide) 263 (by decide +kernel) rfl hin rfl (v := .ref q4) rfl rfl (Nat.le_of_ble_eq_true rfl) dX8_init_35 (fun H locs hP hD hS => ?_)
  have hP : va_P D vwCl [(h0, .inr (8, [.null, .ref q1, .ref q2, .ref q3, .ref q4, .int 0])), (q1, .inl (cy 0, 256, .inl (fun _ => 0))), (q2, .inl (cy 0, 256, .inl (fun _ => 0))), (q3, .inl (cy 0, 16, .inl (fun _ => 0))), (q4, .inl (cy 0, 16, .inl (fun _ => 0)))] H := hP
  have hD : va_D (ct_A h0 s.heap.size) [(h0, .inr (8, [.null, .ref q1, .ref q2, .ref q3, .ref q4, .int 0])), (q1, .inl (cy 0, 256, .inl (fun _ => 0))), (q2, .inl (cy 0, 256, .inl (fun _ => 0))), (q3, .inl (cy 0, 16, .inl (fun _ => 0))), (q4, .inl (cy 0, 16, .inl (fun _ => 0)))] := hD
  refine lv_aload_n hx hb dX8_init_38 rfl (lv_at hl 0 rfl) ?_
  refine lv_iconst (v := 0) hx hb dX8_init_39 (by decide) ?_
  refine ct_put hA tyX8 rfl ct_in8 tyX8_ok nmX8 hP hD hS 5 (by decide) 265 (by decide +kernel) rfl rfl (v := .int 0) (by decide) rfl (Nat.le_of_ble_eq_true rfl) dX8_init_40 (fun H locs hP hD hS => ?_)
  have hP : va_P D vwCl [(h0, .inr (8, [.null, .ref q1, .ref q2, .ref q3, .ref q4, .int 0])), (q1, .inl (cy 0, 256, .inl (fun _ => 0))), (q2, .inl (cy 0, 256, .inl (fun _ => 0))), (q3, .inl (cy 0, 16, .inl (fun _ => 0))), (q4, .inl (cy 0, 16, .inl (fun _ => 0)))] H := hP
  have hD : va_D (ct_A h0 s.heap.size) [(h0, .inr (8, [.null, .ref q1, .ref q2, .ref q3, .ref q4, .int 0])), (q1, .inl (cy 0, 256, .inl (fun _ => 0))), (q2, .inl (cy 0, 256, .inl (fun _ => 0))), (q3, .inl (cy 0, 16, .inl (fun _ => 0))), (q4, .inl (cy 0, 16, .inl (fun _ => 0)))] := hD
  refine lv_aload_n hx hb dX8_init_43 rfl (lv_at hl 0 rfl) ?_
  refine lv_aload_n hx hb dX8_init_44 rfl (lv_at hl 1 rfl) ?_
  refine ct_putF hA tyX8 rfl ct_in8 tyX8_ok nmX8 hP hD hS 0 (by decide) 255 (by decide +kernel) rfl hin rfl (v := .ref p1) rfl rfl (Nat.le_of_ble_eq_true rfl) dX8_init_45 (fun H locs hP hD hS => ?_)
  have hP : va_P D vwCl [(h0, .inr (8, [.ref p1, .ref q1, .ref q2, .ref q3, .ref q4, .int 0])), (q1, .inl (cy 0, 256, .inl (fun _ => 0))), (q2, .inl (cy 0, 256, .inl (fun _ => 0))), (q3, .inl (cy 0, 16, .inl (fun _ => 0))), (q4, .inl (cy 0, 16, .inl (fun _ => 0)))] H := hP
  have hD : va_D (ct_A h0 s.heap.size) [(h0, .inr (8, [.ref p1, .ref q1, .ref q2, .ref q3, .ref q4, .int 0])), (q1, .inl (cy 0, 256, .inl (fun _ => 0))), (q2, .inl (cy 0, 256, .inl (fun _ => 0))), (q3, .inl (cy 0, 16, .inl (fun _ => 0))), (q4, .inl (cy 0, 16, .inl (fun _ => 0)))] := hD
  exact W.vret hx hb hr (fun t ht hW => ⟨⟨_, rfl, ⟨q1, q2, q3, q4, rfl⟩, by rw [ht]; exact hP, hD⟩, hS.F ht⟩) hS.2.2 dX8_init_48
set_option maxHeartbeats 4000000 in
set_option maxRecDepth 100000 in
theorem ct_X4 (l : Launch) (D : va_G) (cy : Nat → ClassId) (h0 : Nat) (p1 : Nat) (p2 : Nat) : ct_Met l D cy yX4_init cX4_init 3 ({ frames := 1, cells := 3, slots := 288, locals := 12 }) h0 [.ref p1, .ref p2] (.inr (4, [.null, .null, .null, .null, .null, .int 0])) 3 288 (fun w => ∃ q1 q2 q3 : Nat, w = [(h0, .inr (4, [.ref p1, .ref p2, .ref q1, .ref q2, .ref q3, .int 0])), (q1, .inl (cy 1, 256, .inr (.inl (fun _ => 0)))), (q2, .inl (cy 0, 16, .inl (fun _ => 0))), (q3, .inl (cy 0, 16, .inl (fun _ => 0)))]) := by
  intro sz
  refine Met.ofW (cc := cX4_init) (maxL := 3) (ret := none) (by decide) rfl ?_
  intro p e s m args below meth c s₁ B hml hv
  obtain ⟨rfl, hsz, hat, hK⟩ := hv
  have hx := B.exec
  have hb := B.bytes
  have hr := B.returns
  have hts := atoms_spec (ws := Cond.code yX4_init cX4_init 3 none :: am_wG) B.pre
  have hown : s.vm.findClass RX4 = some m.cls := findClass_of_methodNamed B.named
  have hin : meth.name = "<init>" := (name_of_methodNamed B.named B.method).1
  have hG : ∀ w ∈ am_wG, w ∈ Cond.code yX4_init cX4_init 3 none :: am_wG := fun w hw => List.mem_cons_of_mem _ hw
  have hA : ct_At p s m _ c cX4_init 3 D cy (Cond.code yX4_init cX4_init 3 none :: am_wG) RX4 := ⟨hx, hb, hml, hown, hts, hG, hK⟩
  subst hsz
  have hq : ∀ q, s.heap.size ≤ q → ct_A h0 s.heap.size q := fun q h => Or.inr h
  have hS : va_S (ct_A h0 s.heap.size) s.heap s.heap [] := va_S.rf
  obtain ⟨hP, hD⟩ := ct_one (sz := s.heap.size) hat
  have hl := lv_entry ([.ref h0, .ref p1, .ref p2]) (n := 3) (Nat.le_of_ble_eq_true rfl)
  rw [lg_entry_eq]
  generalize (lg_sl ([.ref h0, .ref p1, .ref p2]) ++ List.replicate (3 - (lg_sl ([.ref h0, .ref p1, .ref p2])).length) Slot.unset).toArray = ls at hl ⊢
  have hl : lv_has ls 3 [(0, .ref h0), (1, .ref p1), (2, .ref p2)] := hl
  refine lv_aload_n hx hb dX4_init_0 rfl (lv_at hl 0 rfl) ?_
  refine ct_obj hA 285 (by decide +kernel) hl.1 dX4_init_1 (Nat.le_of_ble_eq_true rfl) (Nat.le_of_ble_eq_true rfl) ?_
  refine lv_aload_n hx hb dX4_init_4 rfl (lv_at hl 0 rfl) ?_
  refine lv_sipush (v := 256) hx hb dX4_init_5 (by decide) ?_
  refine ct_newj hA hP hD hS hq 256 (by decide) (by decide) (Nat.le_of_ble_eq_true rfl) (Nat.le_of_ble_eq_true rfl) (Nat.le_of_ble_eq_true rfl) dX4_init_8 (fun q1 H hP hD hS => ?_)
  have hP : va_P D vwCl [(h0, .inr (4, [.null, .null, .null, .null, .null, .int 0])), (q1, .inl (cy 1, 256, .inr (.inl (fun _ => 0))))] H := hP
  have hD : va_D (ct_A h0 s.heap.size) [(h0, .inr (4, [.null, .null, .null, .null, .null, .int 0])), (q1, .inl (cy 1, 256, .inr (.inl (fun _ => 0))))] := hD
  refine ct_putF hA tyX4 rfl ct_in4 tyX4_ok nmX4 hP hD hS 2 (by decide) 288 (by decide +kernel) rfl hin rfl (v := .ref q1) rfl rfl (Nat.le_of_ble_eq_true rfl) dX4_init_10 (fun H locs hP hD hS => ?_)
  have hP : va_P D vwCl [(h0, .inr (4, [.null, .null, .ref q1, .null, .null, .int 0])), (q1, .inl (cy 1, 256, .inr (.inl (fun _ => 0))))] H := hP
  have hD : va_D (ct_A h0 s.heap.size) [(h0, .inr (4, [.null, .null, .ref q1, .null, .null, .int 0])), (q1, .inl (cy 1, 256, .inr (.inl (fun _ => 0))))] := hD
  refine lv_aload_n hx hb dX4_init_13 rfl (lv_at hl 0 rfl) ?_
  refine lv_bipush (v := 16) hx hb dX4_init_14 (by decide) ?_
  refine ct_newi hA hP hD hS hq 16 (by decide) (by decide) (Nat.le_of_ble_eq_true rfl) (Nat.le_of_ble_eq_true rfl) (Nat.le_of_ble_eq_true rfl) dX4_init_16 (fun q2 H hP hD hS => ?_)
  have hP : va_P D vwCl [(h0, .inr (4, [.null, .null, .ref q1, .null, .null, .int 0])), (q1, .inl (cy 1, 256, .inr (.inl (fun _ => 0)))), (q2, .inl (cy 0, 16, .inl (fun _ => 0)))] H := hP
  have hD : va_D (ct_A h0 s.heap.size) [(h0, .inr (4, [.null, .null, .ref q1, .null, .null, .int 0])), (q1, .inl (cy 1, 256, .inr (.inl (fun _ => 0)))), (q2, .inl (cy 0, 16, .inl (fun _ => 0)))] := hD
  refine ct_putF hA tyX4 rfl ct_in4 tyX4_ok nmX4 hP hD hS 3 (by decide) 289 (by decide +kernel) rfl hin rfl (v := .ref q2) rfl rfl (Nat.le_of_ble_eq_true rfl) dX4_init_18 (fun H locs hP hD hS => ?_)
  have hP : va_P D vwCl [(h0, .inr (4, [.null, .null, .ref q1, .ref q2, .null, .int 0])), (q1, .inl (cy 1, 256, .inr (.inl (fun _ => 0)))), (q2, .inl (cy 0, 16, .inl (fun _ => 0)))] H := hP
  have hD : va_D (ct_A h0 s.heap.size) [(h0, .inr (4, [.null, .null, .ref q1, .ref q2, .null, .int 0])), (q1, .inl (cy 1, 256, .inr (.inl (fun _ => 0)))), (q2, .inl (cy 0, 16, .inl (fun _ => 0)))] := hD
  refine lv_aload_n hx hb dX4_init_21 rfl (lv_at hl 0 rfl) ?_
  refine lv_bipush (v := 16) hx hb dX4_init_22 (by decide) ?_
  refine ct_newi hA hP hD hS hq 16 (by decide) (by decide) (Nat.le_of_ble_eq_true rfl) (Nat.le_of_ble_eq_true rfl) (Nat.le_of_ble_eq_true rfl) dX4_init_24 (fun q3 H hP hD hS => ?_)
  have hP : va_P D vwCl [(h0, .inr (4, [.null, .null, .ref q1, .ref q2, .null, .int 0])), (q1, .inl (cy 1, 256, .inr (.inl (fun _ => 0)))), (q2, .inl (cy 0, 16, .inl (fun _ => 0))), (q3, .inl (cy 0, 16, .inl (fun _ => 0)))] H := hP
  have hD : va_D (ct_A h0 s.heap.size) [(h0, .inr (4, [.null, .null, .ref q1, .ref q2, .null, .int 0])), (q1, .inl (cy 1, 256, .inr (.inl (fun _ => 0)))), (q2, .inl (cy 0, 16, .inl (fun _ => 0))), (q3, .inl (cy 0, 16, .inl (fun _ => 0)))] := hD
  refine ct_putF hA tyX4 rfl ct_in4 tyX4_ok nmX4 hP hD hS 4 (by decide) 290 (by decide +kernel) rfl hin rfl (v := .ref q3) rfl rfl (Nat.le_of_ble_eq_true rfl) dX4_init_26 (fun H locs hP hD hS => ?_)
  have hP : va_P D vwCl [(h0, .inr (4, [.null, .null, .ref q1, .ref q2, .ref q3, .int 0])), (q1, .inl (cy 1, 256, .inr (.inl (fun _ => 0)))), (q2, .inl (cy 0, 16, .inl (fun _ => 0))), (q3, .inl (cy 0, 16, .inl (fun _ => 0)))] H := hP
  have hD : va_D (ct_A h0 s.heap.size) [(h0, .inr (4, [.null, .null, .ref q1, .ref q2, .ref q3, .int 0])), (q1, .inl (cy 1, 256, .inr (.inl (fun _ => 0)))), (q2, .inl (cy 0, 16, .inl (fun _ => 0))), (q3, .inl (cy 0, 16, .inl (fun _ => 0)))] := hD
  refine lv_aload_n hx hb dX4_init_29 rfl (lv_at hl 0 rfl) ?_
  refine lv_iconst (v := 0) hx hb dX4_init_30 (by decide) ?_
  refine ct_put hA tyX4 rfl ct_in4 tyX4_ok nmX4 hP hD hS 5 (by decide) 291 (by decide +kernel) rfl rfl (v := .int 0) (by decide) rfl (Nat.le_of_ble_eq_true rfl) dX4_init_31 (fun H locs hP hD hS => ?_)
  have hP : va_P D vwCl [(h0, .inr (4, [.null, .null, .ref q1, .ref q2, .ref q3, .int 0])), (q1, .inl (cy 1, 256, .inr (.inl (fun _ => 0)))), (q2, .inl (cy 0, 16, .inl (fun _ => 0))), (q3, .inl (cy 0, 16, .inl (fun _ => 0)))] H := hP
  have hD : va_D (ct_A h0 s.heap.size) [(h0, .inr (4, [.null, .null, .ref q1, .ref q2, .ref q3, .int 0])), (q1, .inl (cy 1, 256, .inr (.inl (fun _ => 0)))), (q2, .inl (cy 0, 16, .inl (fun _ => 0))), (q3, .inl (cy 0, 16, .inl (fun _ => 0)))] := hD
  refine lv_aload_n hx hb dX4_init_34 rfl (lv_at hl 0 rfl) ?_
  refine lv_aload_n hx hb dX4_init_35 rfl (lv_at hl 1 rfl) ?_
  refine ct_putF hA tyX4 rfl ct_in4 tyX4_ok nmX4 hP hD hS 0 (by decide) 286 (by decide +kernel) rfl hin rfl (v := .ref p1) rfl rfl (Nat.le_of_ble_eq_true rfl) dX4_init_36 (fun H locs hP hD hS => ?_)
  have hP : va_P D vwCl [(h0, .inr (4, [.ref p1, .null, .ref q1, .ref q2, .ref q3, .int 0])), (q1, .inl (cy 1, 256, .inr (.inl (fun _ => 0)))), (q2, .inl (cy 0, 16, .inl (fun _ => 0))), (q3, .inl (cy 0, 16, .inl (fun _ => 0)))] H := hP
  have hD : va_D (ct_A h0 s.heap.size) [(h0, .inr (4, [.ref p1, .null, .ref q1, .ref q2, .ref q3, .int 0])), (q1, .inl (cy 1, 256, .inr (.inl (fun _ => 0)))), (q2, .inl (cy 0, 16, .inl (fun _ => 0))), (q3, .inl (cy 0, 16, .inl (fun _ => 0)))] := hD
  refine lv_aload_n hx hb dX4_init_39 rfl (lv_at hl 0 rfl) ?_
  refine lv_aload_n hx hb dX4_init_40 rfl (lv_at hl 2 rfl) ?_
  refine ct_putF hA tyX4 rfl ct_in4 tyX4_ok nmX4 hP hD hS 1 (by decide) 287 (by decide +kernel) rfl hin rfl (v := .ref p2) rfl rfl (Nat.le_of_ble_eq_true rfl) dX4_init_41 (fun H locs hP hD hS => ?_)
  have hP : va_P D vwCl [(h0, .inr (4, [.ref p1, .ref p2, .ref q1, .ref q2, .ref q3, .int 0])), (q1, .inl (cy 1, 256, .inr (.inl (fun _ => 0)))), (q2, .inl (cy 0, 16, .inl (fun _ => 0))), (q3, .inl (cy 0, 16, .inl (fun _ => 0)))] H := hP
  have hD : va_D (ct_A h0 s.heap.size) [(h0, .inr (4, [.ref p1, .ref p2, .ref q1, .ref q2, .ref q3, .int 0])), (q1, .inl (cy 1, 256, .inr (.inl (fun _ => 0)))), (q2, .inl (cy 0, 16, .inl (fun _ => 0))), (q3, .inl (cy 0, 16, .inl (fun _ => 0)))] := hD
  exact W.vret hx hb hr (fun t ht hW => ⟨⟨_, rfl, ⟨q1, q2, q3, rfl⟩, by rw [ht]; exact hP, hD⟩, hS.F ht⟩) hS.2.2 dX4_init_44
set_option maxHeartbeats 4000000 in
set_option maxRecDepth 100000 in
theorem ct_X5 (l : Launch) (D : va_G) (cy : Nat → ClassId) (h0 : Nat) (p1 : Nat) (p2 : Nat) : ct_Met l D cy yX5_init cX5_init 3 ({ frames := 1, cells := 1, slots := 48, locals := 12 }) h0 [.ref p1, .ref p2] (.inr (5, [.null, .null, .null, .int 0, .int 0])) 1 48 (fun w => ∃ q1 : Nat, w = [(h0, .inr (5, [.ref p1, .ref p2, .ref q1, .int 0, .int 0])), (q1, .inl (cy 0, 48, .inl (fun _ => 0)))]) := by
  intro sz
  refine Met.ofW (cc := cX5_init) (maxL := 3) (ret := none) (by decide) rfl ?_
  intro p e s m args below meth c s₁ B hml hv
  obtain ⟨rfl, hsz, hat, hK⟩ := hv
  have hx := B.exec
  have hb := B.bytes
  have hr := B.returns
  have hts := atoms_spec (ws := Cond.code yX5_init cX5_init 3 none :: am_wG) B.pre
  have hown : s.vm.findClass RX5 = some m.cls := findClass_of_methodNamed B.named
  have hin : meth.name = "<init>" := (name_of_methodNamed B.named B.method).1
  have hG : ∀ w ∈ am_wG, w ∈ Cond.code yX5_init cX5_init 3 none :: am_wG := fun w hw => List.mem_cons_of_mem _ hw
  have hA : ct_At p s m _ c cX5_init 3 D cy (Cond.code yX5_init cX5_init 3 none :: am_wG) RX5 := ⟨hx, hb, hml, hown, hts, hG, hK⟩
  subst hsz
  have hq : ∀ q, s.heap.size ≤ q → ct_A h0 s.heap.size q := fun q h => Or.inr h
  have hS : va_S (ct_A h0 s.heap.size) s.heap s.heap [] := va_S.rf
  obtain ⟨hP, hD⟩ := ct_one (sz := s.heap.size) hat
  have hl := lv_entry ([.ref h0, .ref p1, .ref p2]) (n := 3) (Nat.le_of_ble_eq_true rfl)
  rw [lg_entry_eq]
  generalize (lg_sl ([.ref h0, .ref p1, .ref p2]) ++ List.replicate (3 - (lg_sl ([.ref h0, .ref p1, .ref p2])).length) Slot.unset).toArray = ls at hl ⊢
  have hl : lv_has ls 3 [(0, .ref h0), (1, .ref p1), (2, .ref p2)] := hl
  refine lv_aload_n hx hb dX5_init_0 rfl (lv_at hl 0 rfl) ?_
  refine ct_obj hA 310 (by decide +kernel) hl.1 dX5_init_1 (Nat.le_of_ble_eq_true rfl) (Nat.le_of_ble_eq_true rfl) ?_
  refine lv_aload_n hx hb dX5_init_4 rfl (lv_at hl 0 rfl) ?_
  refine lv_bipush (v := 48) hx hb dX5_init_5 (by decide) ?_
  refine ct_newi hA hP hD hS hq 48 (by decide) (by decide) (Nat.le_of_ble_eq_true rfl) (Nat.le_of_ble_eq_true rfl) (Nat.le_of_ble_eq_true rfl) dX5_init_7 (fun q1 H hP hD hS => ?_)
  have hP : va_P D vwCl [(h0, .inr (5, [.null, .null, .null, .int 0, .int 0])), (q1, .inl (cy 0, 48, .inl (fun _ => 0)))] H := hP
  have hD : va_D (ct_A h0 s.heap.size) [(h0, .inr (5, [.null, .null, .null, .int 0, .int 0])), (q1, .inl (cy 0, 48, .inl (fun _ => 0)))] := hD
  refine ct_putF hA tyX5 rfl ct_in5 tyX5_ok nmX5 hP hD hS 2 (by decide) 313 (by decide +kernel) rfl hin rfl (v := .ref q1) rfl rfl (Nat.le_of_ble_eq_true rfl) dX5_init_9 (fun H locs hP hD hS => ?_)
  have hP : va_P D vwCl [(h0, .inr (5, [.null, .null, .ref q1, .int 0, .int 0])), (q1, .inl (cy 0, 48, .inl (fun _ => 0)))] H := hP
  have hD : va_D (ct_A h0 s.heap.size) [(h0, .inr (5, [.null, .null, .ref q1, .int 0, .int 0])), (q1, .inl (cy 0, 48, .inl (fun _ => 0)))] := hD
  refine lv_aload_n hx hb dX5_init_12 rfl (lv_at hl 0 rfl) ?_
  refine lv_iconst (v := 0) hx hb dX5_init_13 (by decide) ?_
  refine ct_put hA tyX5 rfl ct_in5 tyX5_ok nmX5 hP hD hS 3 (by decide) 314 (by decide +kernel) rfl rfl (v := .int 0) (by decide) rfl (Nat.le_of_ble_eq_true rfl) dX5_init_14 (fun H locs hP hD hS => ?_)
  have hP : va_P D vwCl [(h0, .inr (5, [.null, .null, .ref q1, .int 0, .int 0])), (q1, .inl (cy 0, 48, .inl (fun _ => 0)))] H := hP
  have hD : va_D (ct_A h0 s.heap.size) [(h0, .inr (5, [.null, .null, .ref q1, .int 0, .int 0])), (q1, .inl (cy 0, 48, .inl (fun _ => 0)))] := hD
  refine lv_aload_n hx hb dX5_init_17 rfl (lv_at hl 0 rfl) ?_
  refine lv_iconst (v := 0) hx hb dX5_init_18 (by decide) ?_
  refine ct_put hA tyX5 rfl ct_in5 tyX5_ok nmX5 hP hD hS 4 (by decide) 315 (by decide +kernel) rfl rfl (v := .int 0) (by decide) rfl (Nat.le_of_ble_eq_true rfl) dX5_init_19 (fun H locs hP hD hS => ?_)
  have hP : va_P D vwCl [(h0, .inr (5, [.null, .null, .ref q1, .int 0, .int 0])), (q1, .inl (cy 0, 48, .inl (fun _ => 0)))] H := hP
  have hD : va_D (ct_A h0 s.heap.size) [(h0, .inr (5, [.null, .null, .ref q1, .int 0, .int 0])), (q1, .inl (cy 0, 48, .inl (fun _ => 0)))] := hD
  refine lv_aload_n hx hb dX5_init_22 rfl (lv_at hl 0 rfl) ?_
  refine lv_aload_n hx hb dX5_init_23 rfl (lv_at hl 1 rfl) ?_
  refine ct_putF hA tyX5 rfl ct_in5 tyX5_ok nmX5 hP hD hS 0 (by decide) 311 (by decide +kernel) rfl hin rfl (v := .ref p1) rfl rfl (Nat.le_of_ble_eq_true rfl) dX5_init_24 (fun H locs hP hD hS => ?_)
  have hP : va_P D vwCl [(h0, .inr (5, [.ref p1, .null, .ref q1, .int 0, .int 0])), (q1, .inl (cy 0, 48, .inl (fun _ => 0)))] H := hP
  have hD : va_D (ct_A h0 s.heap.size) [(h0, .inr (5, [.ref p1, .null, .ref q1, .int 0, .int 0])), (q1, .inl (cy 0, 48, .inl (fun _ => 0)))] := hD
  refine lv_aload_n hx hb dX5_init_27 rfl (lv_at hl 0 rfl) ?_
  refine lv_aload_n hx hb dX5_init_28 rfl (lv_at hl 2 rfl) ?_
  refine ct_putF hA tyX5 rfl ct_in5 tyX5_ok nmX5 hP hD hS 1 (by decide) 312 (by decide +kernel) rfl hin rfl (v := .ref p2) rfl rfl (Nat.le_of_ble_eq_true rfl) dX5_init_29 (fun H locs hP hD hS => ?_)
  have hP : va_P D vwCl [(h0, .inr (5, [.ref p1, .ref p2, .ref q1, .int 0, .int 0])), (q1, .inl (cy 0, 48, .inl (fun _ => 0)))] H := hP
  have hD : va_D (ct_A h0 s.heap.size) [(h0, .inr (5, [.ref p1, .ref p2, .ref q1, .int 0, .int 0])), (q1, .inl (cy 0, 48, .inl (fun _ => 0)))] := hD
  exact W.vret hx hb hr (fun t ht hW => ⟨⟨_, rfl, ⟨q1, rfl⟩, by rw [ht]; exact hP, hD⟩, hS.F ht⟩) hS.2.2 dX5_init_32
set_option maxHeartbeats 4000000 in
set_option maxRecDepth 100000 in
theorem ct_X0 (l : Launch) (D : va_G) (cy : Nat → ClassId) (h0 : Nat) (p1 : Nat) (p2 : Nat) : ct_Met l D cy yX0_init cX0_init 3 ({ frames := 1, cells := 2, slots := 32, locals := 12 }) h0 [.ref p1, .ref p2] (.inr (0, [.null, .null, .null, .null])) 2 32 (fun w => ∃ q1 q2 : Nat, w = [(h0, .inr (0, [.ref p1, .ref p2, .ref q1, .ref q2])), (q1, .inl (cy 0, 16, .inl (fun _ => 0))), (q2, .inl (cy 0, 16, .inl (fun _ => 0)))]) := by
  intro sz
  refine Met.ofW (cc := cX0_init) (maxL := 3) (ret := none) (by decide) rfl ?_
  intro p e s m args below meth c s₁ B hml hv
  obtain ⟨rfl, hsz, hat, hK⟩ := hv
  have hx := B.exec
  have hb := B.bytes
  have hr := B.returns
  have hts := atoms_spec (ws := Cond.code yX0_init cX0_init 3 none :: am_wG) B.pre
  have hown : s.vm.findClass RX0 = some m.cls := findClass_of_methodNamed B.named
  have hin : meth.name = "<init>" := (name_of_methodNamed B.named B.method).1
  have hG : ∀ w ∈ am_wG, w ∈ Cond.code yX0_init cX0_init 3 none :: am_wG := fun w hw => List.mem_cons_of_mem _ hw
  have hA : ct_At p s m _ c cX0_init 3 D cy (Cond.code yX0_init cX0_init 3 none :: am_wG) RX0 := ⟨hx, hb, hml, hown, hts, hG, hK⟩
  subst hsz
  have hq : ∀ q, s.heap.size ≤ q → ct_A h0 s.heap.size q := fun q h => Or.inr h
  have hS : va_S (ct_A h0 s.heap.size) s.heap s.heap [] := va_S.rf
  obtain ⟨hP, hD⟩ := ct_one (sz := s.heap.size) hat
  have hl := lv_entry ([.ref h0, .ref p1, .ref p2]) (n := 3) (Nat.le_of_ble_eq_true rfl)
  rw [lg_entry_eq]
  generalize (lg_sl ([.ref h0, .ref p1, .ref p2]) ++ List.replicate (3 - (lg_sl ([.ref h0, .ref p1, .ref p2])).length) Slot.unset).toArray = ls at hl ⊢
  have hl : lv_has ls 3 [(0, .ref h0), (1, .ref p1), (2, .ref p2)] := hl
  refine lv_aload_n hx hb dX0_init_0 rfl (lv_at hl 0 rfl) ?_
  refine ct_obj hA 332 (by decide +kernel) hl.1 dX0_init_1 (Nat.le_of_ble_eq_true rfl) (Nat.le_of_ble_eq_true rfl) ?_
  refine lv_aload_n hx hb dX0_init_4 rfl (lv_at hl 0 rfl) ?_
  refine lv_bipush (v := 16) hx hb dX0_init_5 (by decide) ?_
  refine ct_newi hA hP hD hS hq 16 (by decide) (by decide) (Nat.le_of_ble_eq_true rfl) (Nat.le_of_ble_eq_true rfl) (Nat.le_of_ble_eq_true rfl) dX0_init_7 (fun q1 H hP hD hS => ?_)
  have hP : va_P D vwCl [(h0, .inr (0, [.null, .null, .null, .null])), (q1, .inl (cy 0, 16, .inl (fun _ => 0)))] H := hP
  have hD : va_D (ct_A h0 s.heap.size) [(h0, .inr (0, [.null, .null, .null, .null])), (q1, .inl (cy 0, 16, .inl (fun _ => 0)))] := hD
  refine ct_putF hA tyX0 rfl ct_in0 tyX0_ok nmX0 hP hD hS 2 (by decide) 335 (by decide +kernel) rfl hin rfl (v := .ref q1) rfl rfl (Nat.le_of_ble_eq_true rfl) dX0_init_9 (fun H locs hP hD hS => ?_)
  have hP : va_P D vwCl [(h0, .inr (0, [.null, .null, .ref q1, .null])), (q1, .inl (cy 0, 16, .inl (fun _ => 0)))] H := hP
  have hD : va_D (ct_A h0 s.heap.size) [(h0, .inr (0, [.null, .null, .ref q1, .null])), (q1, .inl (cy 0, 16, .inl (fun _ => 0)))] := hD
  refine lv_aload_n hx hb dX0_init_12 rfl (lv_at hl 0 rfl) ?_
  refine lv_bipush (v := 16) hx hb dX0_init_13 (by decide) ?_
  refine ct_newi hA hP hD hS hq 16 (by decide) (by decide) (Nat.le_of_ble_eq_true rfl) (Nat.le_of_ble_eq_true rfl) (Nat.le_of_ble_eq_true rfl) dX0_init_15 (fun q2 H hP hD hS => ?_)
  have hP : va_P D vwCl [(h0, .inr (0, [.null, .null, .ref q1, .null])), (q1, .inl (cy 0, 16, .inl (fun _ => 0))), (q2, .inl (cy 0, 16, .inl (fun _ => 0)))] H := hP
  have hD : va_D (ct_A h0 s.heap.size) [(h0, .inr (0, [.null, .null, .ref q1, .null])), (q1, .inl (cy 0, 16, .inl (fun _ => 0))), (q2, .inl (cy 0, 16, .inl (fun _ => 0)))] := hD
  refine ct_putF hA tyX0 rfl ct_in0 tyX0_ok nmX0 hP hD hS 3 (by decide) 336 (by decide +kernel) rfl hin rfl (v := .ref q2) rfl rfl (Nat.le_of_ble_eq_true rfl) dX0_init_17 (fun H locs hP hD hS => ?_)
  have hP : va_P D vwCl [(h0, .inr (0, [.null, .null, .ref q1, .ref q2])), (q1, .inl (cy 0, 16, .inl (fun _ => 0))), (q2, .inl (cy 0, 16, .inl (fun _ => 0)))] H := hP
  have hD : va_D (ct_A h0 s.heap.size) [(h0, .inr (0, [.null, .null, .ref q1, .ref q2])), (q1, .inl (cy 0, 16, .inl (fun _ => 0))), (q2, .inl (cy 0, 16, .inl (fun _ => 0)))] := hD
  refine lv_aload_n hx hb dX0_init_20 rfl (lv_at hl 0 rfl) ?_
  refine lv_aload_n hx hb dX0_init_21 rfl (lv_at hl 1 rfl) ?_
  refine ct_putF hA tyX0 rfl ct_in0 tyX0_ok nmX0 hP hD hS 0 (by decide) 333 (by decide +kernel) rfl hin rfl (v := .ref p1) rfl rfl (Nat.le_of_ble_eq_true rfl) dX0_init_22 (fun H locs hP hD hS => ?_)
  have hP : va_P D vwCl [(h0, .inr (0, [.ref p1, .null, .ref q1, .ref q2])), (q1, .inl (cy 0, 16, .inl (fun _ => 0))), (q2, .inl (cy 0, 16, .inl (fun _ => 0)))] H := hP
  have hD : va_D (ct_A h0 s.heap.size) [(h0, .inr (0, [.ref p1, .null, .ref q1, .ref q2])), (q1, .inl (cy 0, 16, .inl (fun _ => 0))), (q2, .inl (cy 0, 16, .inl (fun _ => 0)))] := hD
  refine lv_aload_n hx hb dX0_init_25 rfl (lv_at hl 0 rfl) ?_
  refine lv_aload_n hx hb dX0_init_26 rfl (lv_at hl 2 rfl) ?_
  refine ct_putF hA tyX0 rfl ct_in0 tyX0_ok nmX0 hP hD hS 1 (by decide) 334 (by decide +kernel) rfl hin rfl (v := .ref p2) rfl rfl (Nat.le_of_ble_eq_true rfl) dX0_init_27 (fun H locs hP hD hS => ?_)
  have hP : va_P D vwCl [(h0, .inr (0, [.ref p1, .ref p2, .ref q1, .ref q2])), (q1, .inl (cy 0, 16, .inl (fun _ => 0))), (q2, .inl (cy 0, 16, .inl (fun _ => 0)))] H := hP
  have hD : va_D (ct_A h0 s.heap.size) [(h0, .inr (0, [.ref p1, .ref p2, .ref q1, .ref q2])), (q1, .inl (cy 0, 16, .inl (fun _ => 0))), (q2, .inl (cy 0, 16, .inl (fun _ => 0)))] := hD
  exact W.vret hx hb hr (fun t ht hW => ⟨⟨_, rfl, ⟨q1, q2, rfl⟩, by rw [ht]; exact hP, hD⟩, hS.F ht⟩) hS.2.2 dX0_init_30
set_option maxHeartbeats 4000000 in
set_option maxRecDepth 100000 in
theorem ct_X3 (l : Launch) (D : va_G) (cy : Nat → ClassId) (h0 : Nat) (p1 : Nat) : ct_Met l D cy yX3_init cX3_init 2 ({ frames := 1, cells := 1, slots := 768, locals := 12 }) h0 [.ref p1] (.inr (3, [.null, .null])) 1 768 (fun w => ∃ q1 : Nat, w = [(h0, .inr (3, [.ref p1, .ref q1])), (q1, .inl (cy 0, 768, .inl (fun _ => 0)))]) := by
  intro sz
  refine Met.ofW (cc := cX3_init) (maxL := 2) (ret := none) (by decide) rfl ?_
  intro p e s m args below meth c s₁ B hml hv
  obtain ⟨rfl, hsz, hat, hK⟩ := hv
  have hx := B.exec
  have hb := B.bytes
  have hr := B.returns
  have hts := atoms_spec (ws := Cond.code yX3_init cX3_init 2 none :: am_wG) B.pre
  have hown : s.vm.findClass RX3 = some m.cls := findClass_of_methodNamed B.named
  have hin : meth.name = "<init>" := (name_of_methodNamed B.named B.method).1
  have hG : ∀ w ∈ am_wG, w ∈ Cond.code yX3_init cX3_init 2 none :: am_wG := fun w hw => List.mem_cons_of_mem _ hw
  have hA : ct_At p s m _ c cX3_init 2 D cy (Cond.code yX3_init cX3_init 2 none :: am_wG) RX3 := ⟨hx, hb, hml, hown, hts, hG, hK⟩
  subst hsz
  have hq : ∀ q, s.heap.size ≤ q → ct_A h0 s.heap.size q := fun q h => Or.inr h
  have hS : va_S (ct_A h0 s.heap.size) s.heap s.heap [] := va_S.rf
  obtain ⟨hP, hD⟩ := ct_one (sz := s.heap.size) hat
  have hl := lv_entry ([.ref h0, .ref p1]) (n := 2) (Nat.le_of_ble_eq_true rfl)
  rw [lg_entry_eq]
  generalize (lg_sl ([.ref h0, .ref p1]) ++ List.replicate (2 - (lg_sl ([.ref h0, .ref p1])).length) Slot.unset).toArray = ls at hl ⊢
  have hl : lv_has ls 2 [(0, .ref h0), (1, .ref p1)] := hl
  refine lv_aload_n hx hb dX3_init_0 rfl (lv_at hl 0 rfl) ?_
  refine ct_obj hA 351 (by decide +kernel) hl.1 dX3_init_1 (Nat.le_of_ble_eq_true rfl) (Nat.le_of_ble_eq_true rfl) ?_
  refine lv_aload_n hx hb dX3_init_4 rfl (lv_at hl 0 rfl) ?_
  refine lv_sipush (v := 768) hx hb dX3_init_5 (by decide) ?_
  refine ct_newi hA hP hD hS hq 768 (by decide) (by decide) (Nat.le_of_ble_eq_true rfl) (Nat.le_of_ble_eq_true rfl) (Nat.le_of_ble_eq_true rfl) dX3_init_8 (fun q1 H hP hD hS => ?_)
  have hP : va_P D vwCl [(h0, .inr (3, [.null, .null])), (q1, .inl (cy 0, 768, .inl (fun _ => 0)))] H := hP
  have hD : va_D (ct_A h0 s.heap.size) [(h0, .inr (3, [.null, .null])), (q1, .inl (cy 0, 768, .inl (fun _ => 0)))] := hD
  refine ct_putF hA tyX3 rfl ct_in3 tyX3_ok nmX3 hP hD hS 1 (by decide) 353 (by decide +kernel) rfl hin rfl (v := .ref q1) rfl rfl (Nat.le_of_ble_eq_true rfl) dX3_init_10 (fun H locs hP hD hS => ?_)
  have hP : va_P D vwCl [(h0, .inr (3, [.null, .ref q1])), (q1, .inl (cy 0, 768, .inl (fun _ => 0)))] H := hP
  have hD : va_D (ct_A h0 s.heap.size) [(h0, .inr (3, [.null, .ref q1])), (q1, .inl (cy 0, 768, .inl (fun _ => 0)))] := hD
  refine lv_aload_n hx hb dX3_init_13 rfl (lv_at hl 0 rfl) ?_
  refine lv_aload_n hx hb dX3_init_14 rfl (lv_at hl 1 rfl) ?_
  refine ct_putF hA tyX3 rfl ct_in3 tyX3_ok nmX3 hP hD hS 0 (by decide) 352 (by decide +kernel) rfl hin rfl (v := .ref p1) rfl rfl (Nat.le_of_ble_eq_true rfl) dX3_init_15 (fun H locs hP hD hS => ?_)
  have hP : va_P D vwCl [(h0, .inr (3, [.ref p1, .ref q1])), (q1, .inl (cy 0, 768, .inl (fun _ => 0)))] H := hP
  have hD : va_D (ct_A h0 s.heap.size) [(h0, .inr (3, [.ref p1, .ref q1])), (q1, .inl (cy 0, 768, .inl (fun _ => 0)))] := hD
  exact W.vret hx hb hr (fun t ht hW => ⟨⟨_, rfl, ⟨q1, rfl⟩, by rw [ht]; exact hP, hD⟩, hS.F ht⟩) hS.2.2 dX3_init_18
set_option maxHeartbeats 4000000 in
set_option maxRecDepth 100000 in
theorem ct_X6 (l : Launch) (D : va_G) (cy : Nat → ClassId) (h0 : Nat) (p1 : Nat) : ct_Met l D cy yX6_init cX6_init 2 ({ frames := 1, cells := 0, slots := 0, locals := 12 }) h0 [.ref p1] (.inr (6, [.null])) 0 0 (fun w => w = [(h0, .inr (6, [.ref p1]))]) := by
  intro sz
  refine Met.ofW (cc := cX6_init) (maxL := 2) (ret := none) (by decide) rfl ?_
  intro p e s m args below meth c s₁ B hml hv
  obtain ⟨rfl, hsz, hat, hK⟩ := hv
  have hx := B.exec
  have hb := B.bytes
  have hr := B.returns
  have hts := atoms_spec (ws := Cond.code yX6_init cX6_init 2 none :: am_wG) B.pre
  have hown : s.vm.findClass RX6 = some m.cls := findClass_of_methodNamed B.named
  have hin : meth.name = "<init>" := (name_of_methodNamed B.named B.method).1
  have hG : ∀ w ∈ am_wG, w ∈ Cond.code yX6_init cX6_init 2 none :: am_wG := fun w hw => List.mem_cons_of_mem _ hw
  have hA : ct_At p s m _ c cX6_init 2 D cy (Cond.code yX6_init cX6_init 2 none :: am_wG) RX6 := ⟨hx, hb, hml, hown, hts, hG, hK⟩
  subst hsz
  have hq : ∀ q, s.heap.size ≤ q → ct_A h0 s.heap.size q := fun q h => Or.inr h
  have hS : va_S (ct_A h0 s.heap.size) s.heap s.heap [] := va_S.rf
  obtain ⟨hP, hD⟩ := ct_one (sz := s.heap.size) hat
  have hl := lv_entry ([.ref h0, .ref p1]) (n := 2) (Nat.le_of_ble_eq_true rfl)
  rw [lg_entry_eq]
  generalize (lg_sl ([.ref h0, .ref p1]) ++ List.replicate (2 - (lg_sl ([.ref h0, .ref p1])).length) Slot.unset).toArray = ls at hl ⊢
  have hl : lv_has ls 2 [(0, .ref h0), (1, .ref p1)] := hl
  refine lv_aload_n hx hb dX6_init_0 rfl (lv_at hl 0 rfl) ?_
  refine ct_obj hA 364 (by decide +kernel) hl.1 dX6_init_1 (Nat.le_of_ble_eq_true rfl) (Nat.le_of_ble_eq_true rfl) ?_
  refine lv_aload_n hx hb dX6_init_4 rfl (lv_at hl 0 rfl) ?_
  refine lv_aload_n hx hb dX6_init_5 rfl (lv_at hl 1 rfl) ?_
  refine ct_putF hA tyX6 rfl ct_in6 tyX6_ok nmX6 hP hD hS 0 (by decide) 365 (by decide +kernel) rfl hin rfl (v := .ref p1) rfl rfl (Nat.le_of_ble_eq_true rfl) dX6_init_6 (fun H locs hP hD hS => ?_)
  have hP : va_P D vwCl [(h0, .inr (6, [.ref p1]))] H := hP
  have hD : va_D (ct_A h0 s.heap.size) [(h0, .inr (6, [.ref p1]))] := hD
  exact W.vret hx hb hr (fun t ht hW => ⟨⟨_, rfl, rfl, by rw [ht]; exact hP, hD⟩, hS.F ht⟩) hS.2.2 dX6_init_9
set_option maxHeartbeats 4000000 in
set_option maxRecDepth 100000 in
theorem ct_X11 (l : Launch) (D : va_G) (cy : Nat → ClassId) (h0 : Nat) : ct_Met l D cy yX11_init cX11_init 1 ({ frames := 1, cells := 15, slots := 7875, locals := 12 }) h0 [] (.inr (11, [.null, .null, .int 0, .null, .int 0, .null, .null, .int 0, .null, .null, .null, .null, .null, .null, .int 0, .null, .int 0, .null, .null, .null, .long 0])) 15 7875 (fun w => ∃ adr : Nat → Nat, adr 33 = h0 ∧ w = (List.range 16).map (fun j => (adr (33 + j), am_e cy adr am_M0 (33 + j)))) := by
  intro sz
  refine Met.ofW (cc := cX11_init) (maxL := 1) (ret := none) (by decide) rfl ?_
  intro p e s m args below meth c s₁ B hml hv
  obtain ⟨rfl, hsz, hat, hK⟩ := hv
  have hx := B.exec
  have hb := B.bytes
  have hr := B.returns
  have hts := atoms_spec (ws := Cond.code yX11_init cX11_init 1 none :: am_wG) B.pre
  have hown : s.vm.findClass RX11 = some m.cls := findClass_of_methodNamed B.named
  have hin : meth.name = "<init>" := (name_of_methodNamed B.named B.method).1
  have hG : ∀ w ∈ am_wG, w ∈ Cond.code yX11_init cX11_init 1 none :: am_wG := fun w hw => List.mem_cons_of_mem _ hw
  have hA : ct_At p s m _ c cX11_init 1 D cy (Cond.code yX11_init cX11_init 1 none :: am_wG) RX11 := ⟨hx, hb, hml, hown, hts, hG, hK⟩
  subst hsz
  have hq : ∀ q, s.heap.size ≤ q → ct_A h0 s.heap.size q := fun q h => Or.inr h
  have hS : va_S (ct_A h0 s.heap.size) s.heap s.heap [] := va_S.rf
  obtain ⟨hP, hD⟩ := ct_one (sz := s.heap.size) hat
  have hl := lv_entry ([.ref h0]) (n := 1) (Nat.le_of_ble_eq_true rfl)
  rw [lg_entry_eq]
  generalize (lg_sl ([.ref h0]) ++ List.replicate (1 - (lg_sl ([.ref h0])).length) Slot.unset).toArray = ls at hl ⊢
  have hl : lv_has ls 1 [(0, .ref h0)] := hl
  refine lv_aload_n hx hb dX11_init_0 rfl (lv_at hl 0 rfl) ?_
  refine ct_obj hA 987 (by decide +kernel) hl.1 dX11_init_1 (Nat.le_of_ble_eq_true rfl) (Nat.le_of_ble_eq_true rfl) ?_
  refine lv_aload_n hx hb dX11_init_4 rfl (lv_at hl 0 rfl) ?_
  refine lv_sipush (v := 549) hx hb dX11_init_5 (by decide) ?_
  refine ct_newi hA hP hD hS hq 549 (by decide) (by decide) (Nat.le_of_ble_eq_true rfl) (Nat.le_of_ble_eq_true rfl) (Nat.le_of_ble_eq_true rfl) dX11_init_8 (fun q1 H hP hD hS => ?_)
  have hP : va_P D vwCl [(h0, .inr (11, [.null, .null, .int 0, .null, .int 0, .null, .null, .int 0, .null, .null, .null, .null, .null, .null, .int 0, .null, .int 0, .null, .null, .null, .long 0])), (q1, .inl (cy 0, 549, .inl (fun _ => 0)))] H := hP
  have hD : va_D (ct_A h0 s.heap.size) [(h0, .inr (11, [.null, .null, .int 0, .null, .int 0, .null, .null, .int 0, .null, .null, .null, .null, .null, .null, .int 0, .null, .int 0, .null, .null, .null, .long 0])), (q1, .inl (cy 0, 549, .inl (fun _ => 0)))] := hD
  refine ct_putF hA tyX11 rfl ct_in11 tyX11_ok nmX11 hP hD hS 0 (by decide) 988 (by decide +kernel) rfl hin rfl (v := .ref q1) rfl rfl (Nat.le_of_ble_eq_true rfl) dX11_init_10 (fun H locs hP hD hS => ?_)
  have hP : va_P D vwCl [(h0, .inr (11, [.ref q1, .null, .int 0, .null, .int 0, .null, .null, .int 0, .null, .null, .null, .null, .null, .null, .int 0, .null, .int 0, .null, .null, .null, .long 0])), (q1, .inl (cy 0, 549, .inl (fun _ => 0)))] H := hP
  have hD : va_D (ct_A h0 s.heap.size) [(h0, .inr (11, [.ref q1, .null, .int 0, .null, .int 0, .null, .null, .int 0, .null, .null, .null, .null, .null, .null, .int 0, .null, .int 0, .null, .null, .null, .long 0])), (q1, .inl (cy 0, 549, .inl (fun _ => 0)))] := hD
  refine lv_aload_n hx hb dX11_init_13 rfl (lv_at hl 0 rfl) ?_
  refine lv_sipush (v := 5490) hx hb dX11_init_14 (by decide) ?_
  refine ct_newi hA hP hD hS hq 5490 (by decide) (by decide) (Nat.le_of_ble_eq_true rfl) (Nat.le_of_ble_eq_true rfl) (Nat.le_of_ble_eq_true rfl) dX11_init_17 (fun q2 H hP hD hS => ?_)
  have hP : va_P D vwCl [(h0, .inr (11, [.ref q1, .null, .int 0, .null, .int 0, .null, .null, .int 0, .null, .null, .null, .null, .null, .null, .int 0, .null, .int 0, .null, .null, .null, .long 0])), (q1, .inl (cy 0, 549, .inl (fun _ => 0))), (q2, .inl (cy 0, 5490, .inl (fun _ => 0)))] H := hP
  have hD : va_D (ct_A h0 s.heap.size) [(h0, .inr (11, [.ref q1, .null, .int 0, .null, .int 0, .null, .null, .int 0, .null, .null, .null, .null, .null, .null, .int 0, .null, .int 0, .null, .null, .null, .long 0])), (q1, .inl (cy 0, 549, .inl (fun _ => 0))), (q2, .inl (cy 0, 5490, .inl (fun _ => 0)))] := hD
  refine ct_putF hA tyX11 rfl ct_in11 tyX11_ok nmX11 hP hD hS 1 (by decide) 989 (by decide +kernel) rfl hin rfl (v := .ref q2) rfl rfl (Nat.le_of_ble_eq_true rfl) dX11_init_19 (fun H locs hP hD hS => ?_)
  have hP : va_P D vwCl [(h0, .inr (11, [.ref q1, .ref q2, .int 0, .null, .int 0, .null, .null, .int 0, .null, .null, .null, .null, .null, .null, .int 0, .null, .int 0, .null, .null, .null, .long 0])), (q1, .inl (cy 0, 549, .inl (fun _ => 0))), (q2, .inl (cy 0, 5490, .inl (fun _ => 0)))] H := hP
  have hD : va_D (ct_A h0 s.heap.size) [(h0, .inr (11, [.ref q1, .ref q2, .int 0, .null, .int 0, .null, .null, .int 0, .null, .null, .null, .null, .null, .null, .int 0, .null, .int 0, .null, .null, .null, .long 0])), (q1, .inl (cy 0, 549, .inl (fun _ => 0))), (q2, .inl (cy 0, 5490, .inl (fun _ => 0)))] := hD
  refine lv_aload_n hx hb dX11_init_22 rfl (lv_at hl 0 rfl) ?_
  refine lv_sipush (v := 140) hx hb dX11_init_23 (by decide) ?_
  refine ct_newi hA hP hD hS hq 140 (by decide) (by decide) (Nat.le_of_ble_eq_true rfl) (Nat.le_of_ble_eq_true rfl) (Nat.le_of_ble_eq_true rfl) dX11_init_26 (fun q3 H hP hD hS => ?_)
  have hP : va_P D vwCl [(h0, .inr (11, [.ref q1, .ref q2, .int 0, .null, .int 0, .null, .null, .int 0, .null, .null, .null, .null, .null, .null, .int 0, .null, .int 0, .null, .null, .null, .long 0])), (q1, .inl (cy 0, 549, .inl (fun _ => 0))), (q2, .inl (cy 0, 5490, .inl (fun _ => 0))), (q3, .inl (cy 0, 140, .inl (fun _ => 0)))] H := hP
  have hD : va_D (ct_A h0 s.heap.size) [(h0, .inr (11, [.ref q1, .ref q2, .int 0, .null, .int 0, .null, .null, .int 0, .null, .null, .null, .null, .null, .null, .int 0, .null, .int 0, .null, .null, .null, .long 0])), (q1, .inl (cy 0, 549, .inl (fun _ => 0))), (q2, .inl (cy 0, 5490, .inl (fun _ => 0))), (q3, .inl (cy 0, 140, .inl (fun _ => 0)))] := hD
  refine ct_putF hA tyX11 rfl ct_in11 tyX11_ok nmX11 hP hD hS 3 (by decide) 991 (by decide +kernel) rfl hin rfl (v := .ref q3) rfl rfl (Nat.le_of_ble_eq_true rfl) dX11_init_28 (fun H locs hP hD hS => ?_)
  have hP : va_P D vwCl [(h0, .inr (11, [.ref q1, .ref q2, .int 0, .ref q3, .int 0, .null, .null, .int 0, .null, .null, .null, .null, .null, .null, .int 0, .null, .int 0, .null, .null, .null, .long 0])), (q1, .inl (cy 0, 549, .inl (fun _ => 0))), (q2, .inl (cy 0, 5490, .inl (fun _ => 0))), (q3, .inl (cy 0, 140, .inl (fun _ => 0)))] H := hP
  have hD : va_D (ct_A h0 s.heap.size) [(h0, .inr (11, [.ref q1, .ref q2, .int 0, .ref q3, .int 0, .null, .null, .int 0, .null, .null, .null, .null, .null, .null, .int 0, .null, .int 0, .null, .null, .null, .long 0])), (q1, .inl (cy 0, 549, .inl (fun _ => 0))), (q2, .inl (cy 0, 5490, .inl (fun _ => 0))), (q3, .inl (cy 0, 140, .inl (fun _ => 0)))] := hD
  refine lv_aload_n hx hb dX11_init_31 rfl (lv_at hl 0 rfl) ?_
  refine lv_sipush (v := 256) hx hb dX11_init_32 (by decide) ?_
  refine ct_newi hA hP hD hS hq 256 (by decide) (by decide) (Nat.le_of_ble_eq_true rfl) (Nat.le_of_ble_eq_true rfl) (Nat.le_of_ble_eq_true rfl) dX11_init_35 (fun q4 H hP hD hS => ?_)
  have hP : va_P D vwCl [(h0, .inr (11, [.ref q1, .ref q2, .int 0, .ref q3, .int 0, .null, .null, .int 0, .null, .null, .null, .null, .null, .null, .int 0, .null, .int 0, .null, .null, .null, .long 0])), (q1, .inl (cy 0, 549, .inl (fun _ => 0))), (q2, .inl (cy 0, 5490, .inl (fun _ => 0))), (q3, .inl (cy 0, 140, .inl (fun _ => 0))), (q4, .inl (cy 0, 256, .inl (fun _ => 0)))] H := hP
  have hD : va_D (ct_A h0 s.heap.size) [(h0, .inr (11, [.ref q1, .ref q2, .int 0, .ref q3, .int 0, .null, .null, .int 0, .null, .null, .null, .null, .null, .null, .int 0, .null, .int 0, .null, .null, .null, .long 0])), (q1, .inl (cy 0, 549, .inl (fun _ => 0))), (q2, .inl (cy 0, 5490, .inl (fun _ => 0))), (q3, .inl (cy 0, 140, .inl (fun _ => 0))), (q4, .inl (cy 0, 256, .inl (fun _ => 0)))] := hD
  refine ct_putF hA tyX11 rfl ct_in11 tyX11_ok nmX11 hP hD hS 5 (by decide) 993 (by decide +kernel) rfl hin rfl (v := .ref q4) rfl rfl (Nat.le_of_ble_eq_true rfl) dX11_init_37 (fun H locs hP hD hS => ?_)
  have hP : va_P D vwCl [(h0, .inr (11, [.ref q1, .ref q2, .int 0, .ref q3, .int 0, .ref q4, .null, .int 0, .null, .null, .null, .null, .null, .null, .int 0, .null, .int 0, .null, .null, .null, .long 0])), (q1, .inl (cy 0, 549, .inl (fun _ => 0))), (q2, .inl (cy 0, 5490, .inl (fun _ => 0))), (q3, .inl (cy 0, 140, .inl (fun _ => 0))), (q4, .inl (cy 0, 256, .inl (fun _ => 0)))] H := hP
  have hD : va_D (ct_A h0 s.heap.size) [(h0, .inr (11, [.ref q1, .ref q2, .int 0, .ref q3, .int 0, .ref q4, .null, .int 0, .null, .null, .null, .null, .null, .null, .int 0, .null, .int 0, .null, .null, .null, .long 0])), (q1, .inl (cy 0, 549, .inl (fun _ => 0))), (q2, .inl (cy 0, 5490, .inl (fun _ => 0))), (q3, .inl (cy 0, 140, .inl (fun _ => 0))), (q4, .inl (cy 0, 256, .inl (fun _ => 0)))] := hD
  refine lv_aload_n hx hb dX11_init_40 rfl (lv_at hl 0 rfl) ?_
  refine lv_sipush (v := 256) hx hb dX11_init_41 (by decide) ?_
  refine ct_newi hA hP hD hS hq 256 (by decide) (by decide) (Nat.le_of_ble_eq_true rfl) (Nat.le_of_ble_eq_true rfl) (Nat.le_of_ble_eq_true rfl) dX11_init_44 (fun q5 H hP hD hS => ?_)
  have hP : va_P D vwCl [(h0, .inr (11, [.ref q1, .ref q2, .int 0, .ref q3, .int 0, .ref q4, .null, .int 0, .null, .null, .null, .null, .null, .null, .int 0, .null, .int 0, .null, .null, .null, .long 0])), (q1, .inl (cy 0, 549, .inl (fun _ => 0))), (q2, .inl (cy 0, 5490, .inl (fun _ => 0))), (q3, .inl (cy 0, 140, .inl (fun _ => 0))), (q4, .inl (cy 0, 256, .inl (fun _ => 0))), (q5, .inl (cy 0, 256, .inl (fun _ => 0)))] H := hP
  have hD : va_D (ct_A h0 s.heap.size) [(h0, .inr (11, [.ref q1, .ref q2, .int 0, .ref q3, .int 0, .ref q4, .null, .int 0, .null, .null, .null, .null, .null, .null, .int 0, .null, .int 0, .null, .null, .null, .long 0])), (q1, .inl (cy 0, 549, .inl (fun _ => 0))), (q2, .inl (cy 0, 5490, .inl (fun _ => 0))), (q3, .inl (cy 0, 140, .inl (fun _ => 0))), (q4, .inl (cy 0, 256, .inl (fun _ => 0))), (q5, .inl (cy 0, 256, .inl (fun _ => 0)))] := hD
  refine ct_putF hA tyX11 rfl ct_in11 tyX11_ok nmX11 hP hD hS 6 (by decide) 994 (by decide +kernel) rfl hin rfl (v := .ref q5) rfl rfl (Nat.le_of_ble_eq_true rfl) dX11_init_46 (fun H locs hP hD hS => ?_)
  have hP : va_P D vwCl [(h0, .inr (11, [.ref q1, .ref q2, .int 0, .ref q3, .int 0, .ref q4, .ref q5, .int 0, .null, .null, .null, .null, .null, .null, .int 0, .null, .int 0, .null, .null, .null, .long 0])), (q1, .inl (cy 0, 549, .inl (fun _ => 0))), (q2, .inl (cy 0, 5490, .inl (fun _ => 0))), (q3, .inl (cy 0, 140, .inl (fun _ => 0))), (q4, .inl (cy 0, 256, .inl (fun _ => 0))), (q5, .inl (cy 0, 256, .inl (fun _ => 0)))] H := hP
  have hD : va_D (ct_A h0 s.heap.size) [(h0, .inr (11, [.ref q1, .ref q2, .int 0, .ref q3, .int 0, .ref q4, .ref q5, .int 0, .null, .null, .null, .null, .null, .null, .int 0, .null, .int 0, .null, .null, .null, .long 0])), (q1, .inl (cy 0, 549, .inl (fun _ => 0))), (q2, .inl (cy 0, 5490, .inl (fun _ => 0))), (q3, .inl (cy 0, 140, .inl (fun _ => 0))), (q4, .inl (cy 0, 256, .inl (fun _ => 0))), (q5, .inl (cy 0, 256, .inl (fun _ => 0)))] := hD
  refine lv_aload_n hx hb dX11_init_49 rfl (lv_at hl 0 rfl) ?_
  refine lv_bipush (v := 16) hx hb dX11_init_50 (by decide) ?_
  refine ct_newi hA hP hD hS hq 16 (by decide) (by decide) (Nat.le_of_ble_eq_true rfl) (Nat.le_of_ble_eq_true rfl) (Nat.le_of_ble_eq_true rfl) dX11_init_52 (fun q6 H hP hD hS => ?_)
  have hP : va_P D vwCl [(h0, .inr (11, [.ref q1, .ref q2, .int 0, .ref q3, .int 0, .ref q4, .ref q5, .int 0, .null, .null, .null, .null, .null, .null, .int 0, .null, .int 0, .null, .null, .null, .long 0])), (q1, .inl (cy 0, 549, .inl (fun _ => 0))), (q2, .inl (cy 0, 5490, .inl (fun _ => 0))), (q3, .inl (cy 0, 140, .inl (fun _ => 0))), (q4, .inl (cy 0, 256, .inl (fun _ => 0))), (q5, .inl (cy 0, 256, .inl (fun _ => 0))), (q6, .inl (cy 0, 16, .inl (fun _ => 0)))] H := hP
  have hD : va_D (ct_A h0 s.heap.size) [(h0, .inr (11, [.ref q1, .ref q2, .int 0, .ref q3, .int 0, .ref q4, .ref q5, .int 0, .null, .null, .null, .null, .null, .null, .int 0, .null, .int 0, .null, .null, .null, .long 0])), (q1, .inl (cy 0, 549, .inl (fun _ => 0))), (q2, .inl (cy 0, 5490, .inl (fun _ => 0))), (q3, .inl (cy 0, 140, .inl (fun _ => 0))), (q4, .inl (cy 0, 256, .inl (fun _ => 0))), (q5, .inl (cy 0, 256, .inl (fun _ => 0))), (q6, .inl (cy 0, 16, .inl (fun _ => 0)))] := hD
  refine ct_putF hA tyX11 rfl ct_in11 tyX11_ok nmX11 hP hD hS 8 (by decide) 996 (by decide +kernel) rfl hin rfl (v := .ref q6) rfl rfl (Nat.le_of_ble_eq_true rfl) dX11_init_54 (fun H locs hP hD hS => ?_)
  have hP : va_P D vwCl [(h0, .inr (11, [.ref q1, .ref q2, .int 0, .ref q3, .int 0, .ref q4, .ref q5, .int 0, .ref q6, .null, .null, .null, .null, .null, .int 0, .null, .int 0, .null, .null, .null, .long 0])), (q1, .inl (cy 0, 549, .inl (fun _ => 0))), (q2, .inl (cy 0, 5490, .inl (fun _ => 0))), (q3, .inl (cy 0, 140, .inl (fun _ => 0))), (q4, .inl (cy 0, 256, .inl (fun _ => 0))), (q5, .inl (cy 0, 256, .inl (fun _ => 0))), (q6, .inl (cy 0, 16, .inl (fun _ => 0)))] H := hP
  have hD : va_D (ct_A h0 s.heap.size) [(h0, .inr (11, [.ref q1, .ref q2, .int 0, .ref q3, .int 0, .ref q4, .ref q5, .int 0, .ref q6, .null, .null, .null, .null, .null, .int 0, .null, .int 0, .null, .null, .null, .long 0])), (q1, .inl (cy 0, 549, .inl (fun _ => 0))), (q2, .inl (cy 0, 5490, .inl (fun _ => 0))), (q3, .inl (cy 0, 140, .inl (fun _ => 0))), (q4, .inl (cy 0, 256, .inl (fun _ => 0))), (q5, .inl (cy 0, 256, .inl (fun _ => 0))), (q6, .inl (cy 0, 16, .inl (fun _ => 0)))] := hD
  refine lv_aload_n hx hb dX11_init_57 rfl (lv_at hl 0 rfl) ?_
  refine lv_bipush (v := 16) hx hb dX11_init_58 (by decide) ?_
  refine ct_newi hA hP hD hS hq 16 (by decide) (by decide) (Nat.le_of_ble_eq_true rfl) (Nat.le_of_ble_eq_true rfl) (Nat.le_of_ble_eq_true rfl) dX11_init_60 (fun q7 H hP hD hS => ?_)
  have hP : va_P D vwCl [(h0, .inr (11, [.ref q1, .ref q2, .int 0, .ref q3, .int 0, .ref q4, .ref q5, .int 0, .ref q6, .null, .null, .null, .null, .null, .int 0, .null, .int 0, .null, .null, .null, .long 0])), (q1, .inl (cy 0, 549, .inl (fun _ => 0))), (q2, .inl (cy 0, 5490, .inl (fun _ => 0))), (q3, .inl (cy 0, 140, .inl (fun _ => 0))), (q4, .inl (cy 0, 256, .inl (fun _ => 0))), (q5, .inl (cy 0, 256, .inl (fun _ => 0))), (q6, .inl (cy 0, 16, .inl (fun _ => 0))), (q7, .inl (cy 0, 16, .inl (fun _ => 0)))] H := hP
  have hD : va_D (ct_A h0 s.heap.size) [(h0, .inr (11, [.ref q1, .ref q2, .int 0, .ref q3, .int 0, .ref q4, .ref q5, .int 0, .ref q6, .null, .null, .null, .null, .null, .int 0, .null, .int 0, .null, .null, .null, .long 0])), (q1, .inl (cy 0, 549, .inl (fun _ => 0))), (q2, .inl (cy 0, 5490, .inl (fun _ => 0))), (q3, .inl (cy 0, 140, .inl (fun _ => 0))), (q4, .inl (cy 0, 256, .inl (fun _ => 0))), (q5, .inl (cy 0, 256, .inl (fun _ => 0))), (q6, .inl (cy 0, 16, .inl (fun _ => 0))), (q7, .inl (cy 0, 16, .inl (fun _ => 0)))] := hD
  refine ct_putF hA tyX11 rfl ct_in11 tyX11_ok nmX11 hP hD hS 9 (by decide) 997 (by decide +kernel) rfl hin rfl (v := .ref q7) rfl rfl (Nat.le_of_ble_eq_true rfl) dX11_init_62 (fun H locs hP hD hS => ?_)
  have hP : va_P D vwCl [(h0, .inr (11, [.ref q1, .ref q2, .int 0, .ref q3, .int 0, .ref q4, .ref q5, .int 0, .ref q6, .ref q7, .null, .null, .null, .null, .int 0, .null, .int 0, .null, .null, .null, .long 0])), (q1, .inl (cy 0, 549, .inl (fun _ => 0))), (q2, .inl (cy 0, 5490, .inl (fun _ => 0))), (q3, .inl (cy 0, 140, .inl (fun _ => 0))), (q4, .inl (cy 0, 256, .inl (fun _ => 0))), (q5, .inl (cy 0, 256, .inl (fun _ => 0))), (q6, .inl (cy 0, 16, .inl (fun _ => 0))), (q7, .inl (cy 0, 16, .inl (fun _ => 0)))] H := hP
  have hD : va_D (ct_A h0 s.heap.size) [(h0, .inr (11, [.ref q1, .ref q2, .int 0, .ref q3, .int 0, .ref q4, .ref q5, .int 0, .ref q6, .ref q7, .null, .null, .null, .null, .int 0, .null, .int 0, .null, .null, .null, .long 0])), (q1, .inl (cy 0, 549, .inl (fun _ => 0))), (q2, .inl (cy 0, 5490, .inl (fun _ => 0))), (q3, .inl (cy 0, 140, .inl (fun _ => 0))), (q4, .inl (cy 0, 256, .inl (fun _ => 0))), (q5, .inl (cy 0, 256, .inl (fun _ => 0))), (q6, .inl (cy 0, 16, .inl (fun _ => 0))), (q7, .inl (cy 0, 16, .inl (fun _ => 0)))] := hD
  refine lv_aload_n hx hb dX11_init_65 rfl (lv_at hl 0 rfl) ?_
  refine lv_bipush (v := 16) hx hb dX11_init_66 (by decide) ?_
  refine ct_newi hA hP hD hS hq 16 (by decide) (by decide) (Nat.le_of_ble_eq_true rfl) (Nat.le_of_ble_eq_true rfl) (Nat.le_of_ble_eq_true rfl) dX11_init_68 (fun q8 H hP hD hS => ?_)
  have hP : va_P D vwCl [(h0, .inr (11, [.ref q1, .ref q2, .int 0, .ref q3, .int 0, .ref q4, .ref q5, .int 0, .ref q6, .ref q7, .null, .null, .null, .null, .int 0, .null, .int 0, .null, .null, .null, .long 0])), (q1, .inl (cy 0, 549, .inl (fun _ => 0))), (q2, .inl (cy 0, 5490, .inl (fun _ => 0))), (q3, .inl (cy 0, 140, .inl (fun _ => 0))), (q4, .inl (cy 0, 256, .inl (fun _ => 0))), (q5, .inl (cy 0, 256, .inl (fun _ => 0))), (q6, .inl (cy 0, 16, .inl (fun _ => 0))), (q7, .inl (cy 0, 16, .inl (fun _ => 0))), (q8, .inl (cy 0, 16, .inl (fun _ => 0)))] H := hP
  have hD : va_D (ct_A h0 s.heap.size) [(h0, .inr (11, [.ref q1, .ref q2, .int 0, .ref q3, .int 0, .ref q4, .ref q5, .int 0, .ref q6, .ref q7, .null, .null, .null, .null, .int 0, .null, .int 0, .null, .null, .null, .long 0])), (q1, .inl (cy 0, 549, .inl (fun _ => 0))), (q2, .inl (cy 0, 5490, .inl (fun _ => 0))), (q3, .inl (cy 0, 140, .inl (fun _ => 0))), (q4, .inl (cy 0, 256, .inl (fun _ => 0))), (q5, .inl (cy 0, 256, .inl (fun _ => 0))), (q6, .inl (cy 0, 16, .inl (fun _ => 0))), (q7, .inl (cy 0, 16, .inl (fun _ => 0))), (q8, .inl (cy 0, 16, .inl (fun _ => 0)))] := hD
  refine ct_putF hA tyX11 rfl ct_in11 tyX11_ok nmX11 hP hD hS 10 (by decide) 998 (by decide +kernel) rfl hin rfl (v := .ref q8) rfl rfl (Nat.le_of_ble_eq_true rfl) dX11_init_70 (fun H locs hP hD hS => ?_)
  have hP : va_P D vwCl [(h0, .inr (11, [.ref q1, .ref q2, .int 0, .ref q3, .int 0, .ref q4, .ref q5, .int 0, .ref q6, .ref q7, .ref q8, .null, .null, .null, .int 0, .null, .int 0, .null, .null, .null, .long 0])), (q1, .inl (cy 0, 549, .inl (fun _ => 0))), (q2, .inl (cy 0, 5490, .inl (fun _ => 0))), (q3, .inl (cy 0, 140, .inl (fun _ => 0))), (q4, .inl (cy 0, 256, .inl (fun _ => 0))), (q5, .inl (cy 0, 256, .inl (fun _ => 0))), (q6, .inl (cy 0, 16, .inl (fun _ => 0))), (q7, .inl (cy 0, 16, .inl (fun _ => 0))), (q8, .inl (cy 0, 16, .inl (fun _ => 0)))] H := hP
  have hD : va_D (ct_A h0 s.heap.size) [(h0, .inr (11, [.ref q1, .ref q2, .int 0, .ref q3, .int 0, .ref q4, .ref q5, .int 0, .ref q6, .ref q7, .ref q8, .null, .null, .null, .int 0, .null, .int 0, .null, .null, .null, .long 0])), (q1, .inl (cy 0, 549, .inl (fun _ => 0))), (q2, .inl (cy 0, 5490, .inl (fun _ => 0))), (q3, .inl (cy 0, 140, .inl (fun _ => 0))), (q4, .inl (cy 0, 256, .inl (fun _ => 0))), (q5, .inl (cy 0, 256, .inl (fun _ => 0))), (q6, .inl (cy 0, 16, .inl (fun _ => 0))), (q7, .inl (cy 0, 16, .inl (fun _ => 0))), (q8, .inl (cy 0, 16, .inl (fun _ => 0)))] := hD
  refine lv_aload_n hx hb dX11_init_73 rfl (lv_at hl 0 rfl) ?_
  refine lv_bipush (v := 16) hx hb dX11_init_74 (by decide) ?_
  refine ct_newi hA hP hD hS hq 16 (by decide) (by decide) (Nat.le_of_ble_eq_true rfl) (Nat.le_of_ble_eq_true rfl) (Nat.le_of_ble_eq_true rfl) dX11_init_76 (fun q9 H hP hD hS => ?_)
  have hP : va_P D vwCl [(h0, .inr (11, [.ref q1, .ref q2, .int 0, .ref q3, .int 0, .ref q4, .ref q5, .int 0, .ref q6, .ref q7, .ref q8, .null, .null, .null, .int 0, .null, .int 0, .null, .null, .null, .long 0])), (q1, .inl (cy 0, 549, .inl (fun _ => 0))), (q2, .inl (cy 0, 5490, .inl (fun _ => 0))), (q3, .inl (cy 0, 140, .inl (fun _ => 0))), (q4, .inl (cy 0, 256, .inl (fun _ => 0))), (q5, .inl (cy 0, 256, .inl (fun _ => 0))), (q6, .inl (cy 0, 16, .inl (fun _ => 0))), (q7, .inl (cy 0, 16, .inl (fun _ => 0))), (q8, .inl (cy 0, 16, .inl (fun _ => 0))), (q9, .inl (cy 0, 16, .inl (fun _ => 0)))] H := hP
  have hD : va_D (ct_A h0 s.heap.size) [(h0, .inr (11, [.ref q1, .ref q2, .int 0, .ref q3, .int 0, .ref q4, .ref q5, .int 0, .ref q6, .ref q7, .ref q8, .null, .null, .null, .int 0, .null, .int 0, .null, .null, .null, .long 0])), (q1, .inl (cy 0, 549, .inl (fun _ => 0))), (q2, .inl (cy 0, 5490, .inl (fun _ => 0))), (q3, .inl (cy 0, 140, .inl (fun _ => 0))), (q4, .inl (cy 0, 256, .inl (fun _ => 0))), (q5, .inl (cy 0, 256, .inl (fun _ => 0))), (q6, .inl (cy 0, 16, .inl (fun _ => 0))), (q7, .inl (cy 0, 16, .inl (fun _ => 0))), (q8, .inl (cy 0, 16, .inl (fun _ => 0))), (q9, .inl (cy 0, 16, .inl (fun _ => 0)))] := hD
  refine ct_putF hA tyX11 rfl ct_in11 tyX11_ok nmX11 hP hD hS 11 (by decide) 999 (by decide +kernel) rfl hin rfl (v := .ref q9) rfl rfl (Nat.le_of_ble_eq_true rfl) dX11_init_78 (fun H locs hP hD hS => ?_)
  have hP : va_P D vwCl [(h0, .inr (11, [.ref q1, .ref q2, .int 0, .ref q3, .int 0, .ref q4, .ref q5, .int 0, .ref q6, .ref q7, .ref q8, .ref q9, .null, .null, .int 0, .null, .int 0, .null, .null, .null, .long 0])), (q1, .inl (cy 0, 549, .inl (fun _ => 0))), (q2, .inl (cy 0, 5490, .inl (fun _ => 0))), (q3, .inl (cy 0, 140, .inl (fun _ => 0))), (q4, .inl (cy 0, 256, .inl (fun _ => 0))), (q5, .inl (cy 0, 256, .inl (fun _ => 0))), (q6, .inl (cy 0, 16, .inl (fun _ => 0))), (q7, .inl (cy 0, 16, .inl (fun _ => 0))), (q8, .inl (cy 0, 16, .inl (fun _ => 0))), (q9, .inl (cy 0, 16, .inl (fun _ => 0)))] H := hP
  have hD : va_D (ct_A h0 s.heap.size) [(h0, .inr (11, [.ref q1, .ref q2, .int 0, .ref q3, .int 0, .ref q4, .ref q5, .int 0, .ref q6, .ref q7, .ref q8, .ref q9, .null, .null, .int 0, .null, .int 0, .null, .null, .null, .long 0])), (q1, .inl (cy 0, 549, .inl (fun _ => 0))), (q2, .inl (cy 0, 5490, .inl (fun _ => 0))), (q3, .inl (cy 0, 140, .inl (fun _ => 0))), (q4, .inl (cy 0, 256, .inl (fun _ => 0))), (q5, .inl (cy 0, 256, .inl (fun _ => 0))), (q6, .inl (cy 0, 16, .inl (fun _ => 0))), (q7, .inl (cy 0, 16, .inl (fun _ => 0))), (q8, .inl (cy 0, 16, .inl (fun _ => 0))), (q9, .inl (cy 0, 16, .inl (fun _ => 0)))] := hD
  refine lv_aload_n hx hb dX11_init_81 rfl (lv_at hl 0 rfl) ?_
  refine lv_bipush (v := 16) hx hb dX11_init_82 (by decide) ?_
  refine ct_newi hA hP hD hS hq 16 (by decide) (by decide) (Nat.le_of_ble_eq_true rfl) (Nat.le_of_ble_eq_true rfl) (Nat.le_of_ble_eq_true rfl) dX11_init_84 (fun q10 H hP hD hS => ?_)
  have hP : va_P D vwCl [(h0, .inr (11, [.ref q1, .ref q2, .int 0, .ref q3, .int 0, .ref q4, .ref q5, .int 0, .ref q6, .ref q7, .ref q8, .ref q9, .null, .null, .int 0, .null, .int 0, .null, .null, .null, .long 0])), (q1, .inl (cy 0, 549, .inl (fun _ => 0))), (q2, .inl (cy 0, 5490, .inl (fun _ => 0))), (q3, .inl (cy 0, 140, .inl (fun _ => 0))), (q4, .inl (cy 0, 256, .inl (fun _ => 0))), (q5, .inl (cy 0, 256, .inl (fun _ => 0))), (q6, .inl (cy 0, 16, .inl (fun _ => 0))), (q7, .inl (cy 0, 16, .inl (fun _ => 0))), (q8, .inl (cy 0, 16, .inl (fun _ => 0))), (q9, .inl (cy 0, 16, .inl (fun _ => 0))), (q10, .inl (cy 0, 16, .inl (fun _ => 0)))] H := hP
  have hD : va_D (ct_A h0 s.heap.size) [(h0, .inr (11, [.ref q1, .ref q2, .int 0, .ref q3, .int 0, .ref q4, .ref q5, .int 0, .ref q6, .ref q7, .ref q8, .ref q9, .null, .null, .int 0, .null, .int 0, .null, .null, .null, .long 0])), (q1, .inl (cy 0, 549, .inl (fun _ => 0))), (q2, .inl (cy 0, 5490, .inl (fun _ => 0))), (q3, .inl (cy 0, 140, .inl (fun _ => 0))), (q4, .inl (cy 0, 256, .inl (fun _ => 0))), (q5, .inl (cy 0, 256, .inl (fun _ => 0))), (q6, .inl (cy 0, 16, .inl (fun _ => 0))), (q7, .inl (cy 0, 16, .inl (fun _ => 0))), (q8, .inl (cy 0, 16, .inl (fun _ => 0))), (q9, .inl (cy 0, 16, .inl (fun _ => 0))), (q10, .inl (cy 0, 16, .inl (fun _ => 0)))] := hD
  refine ct_putF hA tyX11 rfl ct_in11 tyX11_ok nmX11 hP hD hS 12 (by decide) 1000 (by decide +kernel) rfl hin rfl (v := .ref q10) rfl rfl (Nat.le_of_ble_eq_true rfl) dX11_init_86 (fun H locs hP hD hS => ?_)
  have hP : va_P D vwCl [(h0, .inr (11, [.ref q1, .ref q2, .int 0, .ref q3, .int 0, .ref q4, .ref q5, .int 0, .ref q6, .ref q7, .ref q8, .ref q9, .ref q10, .null, .int 0, .null, .int 0, .null, .null, .null, .long 0])), (q1, .inl (cy 0, 549, .inl (fun _ => 0))), (q2, .inl (cy 0, 5490, .inl (fun _ => 0))), (q3, .inl (cy 0, 140, .inl (fun _ => 0))), (q4, .inl (cy 0, 256, .inl (fun _ => 0))), (q5, .inl (cy 0, 256, .inl (fun _ => 0))), (q6, .inl (cy 0, 16, .inl (fun _ => 0))), (q7, .inl (cy 0, 16, .inl (fun _ => 0))), (q8, .inl (cy 0, 16, .inl (fun _ => 0))), (q9, .inl (cy 0, 16, .inl (fun _ => 0))), (q10, .inl (cy 0, 16, .inl (fun _ => 0)))] H := hP
  have hD : va_D (ct_A h0 s.heap.size) [(h0, .inr (11, [.ref q1, .ref q2, .int 0, .ref q3, .int 0, .ref q4, .ref q5, .int 0, .ref q6, .ref q7, .ref q8, .ref q9, .ref q10, .null, .int 0, .null, .int 0, .null, .null, .null, .long 0])), (q1, .inl (cy 0, 549, .inl (fun _ => 0))), (q2, .inl (cy 0, 5490, .inl (fun _ => 0))), (q3, .inl (cy 0, 140, .inl (fun _ => 0))), (q4, .inl (cy 0, 256, .inl (fun _ => 0))), (q5, .inl (cy 0, 256, .inl (fun _ => 0))), (q6, .inl (cy 0, 16, .inl (fun _ => 0))), (q7, .inl (cy 0, 16, .inl (fun _ => 0))), (q8, .inl (cy 0, 16, .inl (fun _ => 0))), (q9, .inl (cy 0, 16, .inl (fun _ => 0))), (q10, .inl (cy 0, 16, .inl (fun _ => 0)))] := hD
  refine lv_aload_n hx hb dX11_init_89 rfl (lv_at hl 0 rfl) ?_
  refine lv_bipush (v := 16) hx hb dX11_init_90 (by decide) ?_
  refine ct_newi hA hP hD hS hq 16 (by decide) (by decide) (Nat.le_of_ble_eq_true rfl) (Nat.le_of_ble_eq_true rfl) (Nat.le_of_ble_eq_true rfl) dX11_init_92 (fun q11 H hP hD hS => ?_)
  have hP : va_P D vwCl [(h0, .inr (11, [.ref q1, .ref q2, .int 0, .ref q3, .int 0, .ref q4, .ref q5, .int 0, .ref q6, .ref q7, .ref q8, .ref q9, .ref q10, .null, .int 0, .null, .int 0, .null, .null, .null, .long 0])), (q1, .inl (cy 0, 549, .inl (fun _ => 0))), (q2, .inl (cy 0, 5490, .inl (fun _ => 0))), (q3, .inl (cy 0, 140, .inl (fun _ => 0))), (q4, .inl (cy 0, 256, .inl (fun _ => 0))), (q5, .inl (cy 0, 256, .inl (fun _ => 0))), (q6, .inl (cy 0, 16, .inl (fun _ => 0))), (q7, .inl (cy 0, 16, .inl (fun _ => 0))), (q8, .inl (cy 0, 16, .inl (fun _ => 0))), (q9, .inl (cy 0, 16, .inl (fun _ => 0))), (q10, .inl (cy 0, 16, .inl (fun _ => 0))), (q11, .inl (cy 0, 16, .inl (fun _ => 0)))] H := hP
  have hD : va_D (ct_A h0 s.heap.size) [(h0, .inr (11, [.ref q1, .ref q2, .int 0, .ref q3, .int 0, .ref q4, .ref q5, .int 0, .ref q6, .ref q7, .ref q8, .ref q9, .ref q10, .null, .int 0, .null, .int 0, .null, .null, .null, .long 0])), (q1, .inl (cy 0, 549, .inl (fun _ => 0))), (q2, .inl (cy 0, 5490, .inl (fun _ => 0))), (q3, .inl (cy 0, 140, .inl (fun _ => 0))), (q4, .inl (cy 0, 256, .inl (fun _ => 0))), (q5, .inl (cy 0, 256, .inl (fun _ => 0))), (q6, .inl (cy 0, 16, .inl (fun _ => 0))), (q7, .inl (cy 0, 16, .inl (fun _ => 0))), (q8, .inl (cy 0, 16, .inl (fun _ => 0))), (q9, .inl (cy 0, 16, .inl (fun _ => 0))), (q10, .inl (cy 0, 16, .inl (fun _ => 0))), (q11, .inl (cy 0, 16, .inl (fun _ => 0)))] := hD
  refine ct_putF hA tyX11 rfl ct_in11 tyX11_ok nmX11 hP hD hS 13 (by decide) 1001 (by decide +kernel) rfl hin rfl (v := .ref q11) rfl rfl (Nat.le_of_ble_eq_true rfl) dX11_init_94 (fun H locs hP hD hS => ?_)
  have hP : va_P D vwCl [(h0, .inr (11, [.ref q1, .ref q2, .int 0, .ref q3, .int 0, .ref q4, .ref q5, .int 0, .ref q6, .ref q7, .ref q8, .ref q9, .ref q10, .ref q11, .int 0, .null, .int 0, .null, .null, .null, .long 0])), (q1, .inl (cy 0, 549, .inl (fun _ => 0))), (q2, .inl (cy 0, 5490, .inl (fun _ => 0))), (q3, .inl (cy 0, 140, .inl (fun _ => 0))), (q4, .inl (cy 0, 256, .inl (fun _ => 0))), (q5, .inl (cy 0, 256, .inl (fun _ => 0))), (q6, .inl (cy 0, 16, .inl (fun _ => 0))), (q7, .inl (cy 0, 16, .inl (fun _ => 0))), (q8, .inl (cy 0, 16, .inl (fun _ => 0))), (q9, .inl (cy 0, 16, .inl (fun _ => 0))), (q10, .inl (cy 0, 16, .inl (fun _ => 0))), (q11, .inl (cy 0, 16, .inl (fun _ => 0)))] H := hP
  have hD : va_D (ct_A h0 s.heap.size) [(h0, .inr (11, [.ref q1, .ref q2, .int 0, .ref q3, .int 0, .ref q4, .ref q5, .int 0, .ref q6, .ref q7, .ref q8, .ref q9, .ref q10, .ref q11, .int 0, .null, .int 0, .null, .null, .null, .long 0])), (q1, .inl (cy 0, 549, .inl (fun _ => 0))), (q2, .inl (cy 0, 5490, .inl (fun _ => 0))), (q3, .inl (cy 0, 140, .inl (fun _ => 0))), (q4, .inl (cy 0, 256, .inl (fun _ => 0))), (q5, .inl (cy 0, 256, .inl (fun _ => 0))), (q6, .inl (cy 0, 16, .inl (fun _ => 0))), (q7, .inl (cy 0, 16, .inl (fun _ => 0))), (q8, .inl (cy 0, 16, .inl (fun _ => 0))), (q9, .inl (cy 0, 16, .inl (fun _ => 0))), (q10, .inl (cy 0, 16, .inl (fun _ => 0))), (q11, .inl (cy 0, 16, .inl (fun _ => 0)))] := hD
  refine lv_aload_n hx hb dX11_init_97 rfl (lv_at hl 0 rfl) ?_
  refine lv_sipush (v := 256) hx hb dX11_init_98 (by decide) ?_
  refine ct_newi hA hP hD hS hq 256 (by decide) (by decide) (Nat.le_of_ble_eq_true rfl) (Nat.le_of_ble_eq_true rfl) (Nat.le_of_ble_eq_true rfl) dX11_init_101 (fun q12 H hP hD hS => ?_)
  have hP : va_P D vwCl [(h0, .inr (11, [.ref q1, .ref q2, .int 0, .ref q3, .int 0, .ref q4, .ref q5, .int 0, .ref q6, .ref q7, .ref q8, .ref q9, .ref q10, .ref q11, .int 0, .null, .int 0, .null, .null, .null, .long 0])), (q1, .inl (cy 0, 549, .inl (fun _ => 0))), (q2, .inl (cy 0, 5490, .inl (fun _ => 0))), (q3, .inl (cy 0, 140, .inl (fun _ => 0))), (q4, .inl (cy 0, 256, .inl (fun _ => 0))), (q5, .inl (cy 0, 256, .inl (fun _ => 0))), (q6, .inl (cy 0, 16, .inl (fun _ => 0))), (q7, .inl (cy 0, 16, .inl (fun _ => 0))), (q8, .inl (cy 0, 16, .inl (fun _ => 0))), (q9, .inl (cy 0, 16, .inl (fun _ => 0))), (q10, .inl (cy 0, 16, .inl (fun _ => 0))), (q11, .inl (cy 0, 16, .inl (fun _ => 0))), (q12, .inl (cy 0, 256, .inl (fun _ => 0)))] H := hP
  have hD : va_D (ct_A h0 s.heap.size) [(h0, .inr (11, [.ref q1, .ref q2, .int 0, .ref q3, .int 0, .ref q4, .ref q5, .int 0, .ref q6, .ref q7, .ref q8, .ref q9, .ref q10, .ref q11, .int 0, .null, .int 0, .null, .null, .null, .long 0])), (q1, .inl (cy 0, 549, .inl (fun _ => 0))), (q2, .inl (cy 0, 5490, .inl (fun _ => 0))), (q3, .inl (cy 0, 140, .inl (fun _ => 0))), (q4, .inl (cy 0, 256, .inl (fun _ => 0))), (q5, .inl (cy 0, 256, .inl (fun _ => 0))), (q6, .inl (cy 0, 16, .inl (fun _ => 0))), (q7, .inl (cy 0, 16, .inl (fun _ => 0))), (q8, .inl (cy 0, 16, .inl (fun _ => 0))), (q9, .inl (cy 0, 16, .inl (fun _ => 0))), (q10, .inl (cy 0, 16, .inl (fun _ => 0))), (q11, .inl (cy 0, 16, .inl (fun _ => 0))), (q12, .inl (cy 0, 256, .inl (fun _ => 0)))] := hD
  refine ct_putF hA tyX11 rfl ct_in11 tyX11_ok nmX11 hP hD hS 15 (by decide) 1003 (by decide +kernel) rfl hin rfl (v := .ref q12) rfl rfl (Nat.le_of_ble_eq_true rfl) dX11_init_103 (fun H locs hP hD hS => ?_)
  have hP : va_P D vwCl [(h0, .inr (11, [.ref q1, .ref q2, .int 0, .ref q3, .int 0, .ref q4, .ref q5, .int 0, .ref q6, .ref q7, .ref q8, .ref q9, .ref q10, .ref q11, .int 0, .ref q12, .int 0, .null, .null, .null, .long 0])), (q1, .inl (cy 0, 549, .inl (fun _ => 0))), (q2, .inl (cy 0, 5490, .inl (fun _ => 0))), (q3, .inl (cy 0, 140, .inl (fun _ => 0))), (q4, .inl (cy 0, 256, .inl (fun _ => 0))), (q5, .inl (cy 0, 256, .inl (fun _ => 0))), (q6, .inl (cy 0, 16, .inl (fun _ => 0))), (q7, .inl (cy 0, 16, .inl (fun _ => 0))), (q8, .inl (cy 0, 16, .inl (fun _ => 0))), (q9, .inl (cy 0, 16, .inl (fun _ => 0))), (q10, .inl (cy 0, 16, .inl (fun _ => 0))), (q11, .inl (cy 0, 16, .inl (fun _ => 0))), (q12, .inl (cy 0, 256, .inl (fun _ => 0)))] H := hP
  have hD : va_D (ct_A h0 s.heap.size) [(h0, .inr (11, [.ref q1, .ref q2, .int 0, .ref q3, .int 0, .ref q4, .ref q5, .int 0, .ref q6, .ref q7, .ref q8, .ref q9, .ref q10, .ref q11, .int 0, .ref q12, .int 0, .null, .null, .null, .long 0])), (q1, .inl (cy 0, 549, .inl (fun _ => 0))), (q2, .inl (cy 0, 5490, .inl (fun _ => 0))), (q3, .inl (cy 0, 140, .inl (fun _ => 0))), (q4, .inl (cy 0, 256, .inl (fun _ => 0))), (q5, .inl (cy 0, 256, .inl (fun _ => 0))), (q6, .inl (cy 0, 16, .inl (fun _ => 0))), (q7, .inl (cy 0, 16, .inl (fun _ => 0))), (q8, .inl (cy 0, 16, .inl (fun _ => 0))), (q9, .inl (cy 0, 16, .inl (fun _ => 0))), (q10, .inl (cy 0, 16, .inl (fun _ => 0))), (q11, .inl (cy 0, 16, .inl (fun _ => 0))), (q12, .inl (cy 0, 256, .inl (fun _ => 0)))] := hD
  refine lv_aload_n hx hb dX11_init_106 rfl (lv_at hl 0 rfl) ?_
  refine lv_bipush (v := 48) hx hb dX11_init_107 (by decide) ?_
  refine ct_newi hA hP hD hS hq 48 (by decide) (by decide) (Nat.le_of_ble_eq_true rfl) (Nat.le_of_ble_eq_true rfl) (Nat.le_of_ble_eq_true rfl) dX11_init_109 (fun q13 H hP hD hS => ?_)
  have hP : va_P D vwCl [(h0, .inr (11, [.ref q1, .ref q2, .int 0, .ref q3, .int 0, .ref q4, .ref q5, .int 0, .ref q6, .ref q7, .ref q8, .ref q9, .ref q10, .ref q11, .int 0, .ref q12, .int 0, .null, .null, .null, .long 0])), (q1, .inl (cy 0, 549, .inl (fun _ => 0))), (q2, .inl (cy 0, 5490, .inl (fun _ => 0))), (q3, .inl (cy 0, 140, .inl (fun _ => 0))), (q4, .inl (cy 0, 256, .inl (fun _ => 0))), (q5, .inl (cy 0, 256, .inl (fun _ => 0))), (q6, .inl (cy 0, 16, .inl (fun _ => 0))), (q7, .inl (cy 0, 16, .inl (fun _ => 0))), (q8, .inl (cy 0, 16, .inl (fun _ => 0))), (q9, .inl (cy 0, 16, .inl (fun _ => 0))), (q10, .inl (cy 0, 16, .inl (fun _ => 0))), (q11, .inl (cy 0, 16, .inl (fun _ => 0))), (q12, .inl (cy 0, 256, .inl (fun _ => 0))), (q13, .inl (cy 0, 48, .inl (fun _ => 0)))] H := hP
  have hD : va_D (ct_A h0 s.heap.size) [(h0, .inr (11, [.ref q1, .ref q2, .int 0, .ref q3, .int 0, .ref q4, .ref q5, .int 0, .ref q6, .ref q7, .ref q8, .ref q9, .ref q10, .ref q11, .int 0, .ref q12, .int 0, .null, .null, .null, .long 0])), (q1, .inl (cy 0, 549, .inl (fun _ => 0))), (q2, .inl (cy 0, 5490, .inl (fun _ => 0))), (q3, .inl (cy 0, 140, .inl (fun _ => 0))), (q4, .inl (cy 0, 256, .inl (fun _ => 0))), (q5, .inl (cy 0, 256, .inl (fun _ => 0))), (q6, .inl (cy 0, 16, .inl (fun _ => 0))), (q7, .inl (cy 0, 16, .inl (fun _ => 0))), (q8, .inl (cy 0, 16, .inl (fun _ => 0))), (q9, .inl (cy 0, 16, .inl (fun _ => 0))), (q10, .inl (cy 0, 16, .inl (fun _ => 0))), (q11, .inl (cy 0, 16, .inl (fun _ => 0))), (q12, .inl (cy 0, 256, .inl (fun _ => 0))), (q13, .inl (cy 0, 48, .inl (fun _ => 0)))] := hD
  refine ct_putF hA tyX11 rfl ct_in11 tyX11_ok nmX11 hP hD hS 17 (by decide) 1005 (by decide +kernel) rfl hin rfl (v := .ref q13) rfl rfl (Nat.le_of_ble_eq_true rfl) dX11_init_111 (fun H locs hP hD hS => ?_)
  have hP : va_P D vwCl [(h0, .inr (11, [.ref q1, .ref q2, .int 0, .ref q3, .int 0, .ref q4, .ref q5, .int 0, .ref q6, .ref q7, .ref q8, .ref q9, .ref q10, .ref q11, .int 0, .ref q12, .int 0, .ref q13, .null, .null, .long 0])), (q1, .inl (cy 0, 549, .inl (fun _ => 0))), (q2, .inl (cy 0, 5490, .inl (fun _ => 0))), (q3, .inl (cy 0, 140, .inl (fun _ => 0))), (q4, .inl (cy 0, 256, .inl (fun _ => 0))), (q5, .inl (cy 0, 256, .inl (fun _ => 0))), (q6, .inl (cy 0, 16, .inl (fun _ => 0))), (q7, .inl (cy 0, 16, .inl (fun _ => 0))), (q8, .inl (cy 0, 16, .inl (fun _ => 0))), (q9, .inl (cy 0, 16, .inl (fun _ => 0))), (q10, .inl (cy 0, 16, .inl (fun _ => 0))), (q11, .inl (cy 0, 16, .inl (fun _ => 0))), (q12, .inl (cy 0, 256, .inl (fun _ => 0))), (q13, .inl (cy 0, 48, .inl (fun _ => 0)))] H := hP
  have hD : va_D (ct_A h0 s.heap.size) [(h0, .inr (11, [.ref q1, .ref q2, .int 0, .ref q3, .int 0, .ref q4, .ref q5, .int 0, .ref q6, .ref q7, .ref q8, .ref q9, .ref q10, .ref q11, .int 0, .ref q12, .int 0, .ref q13, .null, .null, .long 0])), (q1, .inl (cy 0, 549, .inl (fun _ => 0))), (q2, .inl (cy 0, 5490, .inl (fun _ => 0))), (q3, .inl (cy 0, 140, .inl (fun _ => 0))), (q4, .inl (cy 0, 256, .inl (fun _ => 0))), (q5, .inl (cy 0, 256, .inl (fun _ => 0))), (q6, .inl (cy 0, 16, .inl (fun _ => 0))), (q7, .inl (cy 0, 16, .inl (fun _ => 0))), (q8, .inl (cy 0, 16, .inl (fun _ => 0))), (q9, .inl (cy 0, 16, .inl (fun _ => 0))), (q10, .inl (cy 0, 16, .inl (fun _ => 0))), (q11, .inl (cy 0, 16, .inl (fun _ => 0))), (q12, .inl (cy 0, 256, .inl (fun _ => 0))), (q13, .inl (cy 0, 48, .inl (fun _ => 0)))] := hD
  refine lv_aload_n hx hb dX11_init_114 rfl (lv_at hl 0 rfl) ?_
  refine lv_bipush (v := 16) hx hb dX11_init_115 (by decide) ?_
  refine ct_newz hA hP hD hS hq 16 (by decide) (by decide) (Nat.le_of_ble_eq_true rfl) (Nat.le_of_ble_eq_true rfl) (Nat.le_of_ble_eq_true rfl) dX11_init_117 (fun q14 H hP hD hS => ?_)
  have hP : va_P D vwCl [(h0, .inr (11, [.ref q1, .ref q2, .int 0, .ref q3, .int 0, .ref q4, .ref q5, .int 0, .ref q6, .ref q7, .ref q8, .ref q9, .ref q10, .ref q11, .int 0, .ref q12, .int 0, .ref q13, .null, .null, .long 0])), (q1, .inl (cy 0, 549, .inl (fun _ => 0))), (q2, .inl (cy 0, 5490, .inl (fun _ => 0))), (q3, .inl (cy 0, 140, .inl (fun _ => 0))), (q4, .inl (cy 0, 256, .inl (fun _ => 0))), (q5, .inl (cy 0, 256, .inl (fun _ => 0))), (q6, .inl (cy 0, 16, .inl (fun _ => 0))), (q7, .inl (cy 0, 16, .inl (fun _ => 0))), (q8, .inl (cy 0, 16, .inl (fun _ => 0))), (q9, .inl (cy 0, 16, .inl (fun _ => 0))), (q10, .inl (cy 0, 16, .inl (fun _ => 0))), (q11, .inl (cy 0, 16, .inl (fun _ => 0))), (q12, .inl (cy 0, 256, .inl (fun _ => 0))), (q13, .inl (cy 0, 48, .inl (fun _ => 0))), (q14, .inl (cy 2, 16, .inl (fun _ => 0)))] H := hP
  have hD : va_D (ct_A h0 s.heap.size) [(h0, .inr (11, [.ref q1, .ref q2, .int 0, .ref q3, .int 0, .ref q4, .ref q5, .int 0, .ref q6, .ref q7, .ref q8, .ref q9, .ref q10, .ref q11, .int 0, .ref q12, .int 0, .ref q13, .null, .null, .long 0])), (q1, .inl (cy 0, 549, .inl (fun _ => 0))), (q2, .inl (cy 0, 5490, .inl (fun _ => 0))), (q3, .inl (cy 0, 140, .inl (fun _ => 0))), (q4, .inl (cy 0, 256, .inl (fun _ => 0))), (q5, .inl (cy 0, 256, .inl (fun _ => 0))), (q6, .inl (cy 0, 16, .inl (fun _ => 0))), (q7, .inl (cy 0, 16, .inl (fun _ => 0))), (q8, .inl (cy 0, 16, .inl (fun _ => 0))), (q9, .inl (cy 0, 16, .inl (fun _ => 0))), (q10, .inl (cy 0, 16, .inl (fun _ => 0))), (q11, .inl (cy 0, 16, .inl (fun _ => 0))), (q12, .inl (cy 0, 256, .inl (fun _ => 0))), (q13, .inl (cy 0, 48, .inl (fun _ => 0))), (q14, .inl (cy 2, 16, .inl (fun _ => 0)))] := hD
  refine ct_putF hA tyX11 rfl ct_in11 tyX11_ok nmX11 hP hD hS 18 (by decide) 1006 (by decide +kernel) rfl hin rfl (v := .ref q14) rfl rfl (Nat.le_of_ble_eq_true rfl) dX11_init_119 (fun H locs hP hD hS => ?_)
  have hP : va_P D vwCl [(h0, .inr (11, [.ref q1, .ref q2, .int 0, .ref q3, .int 0, .ref q4, .ref q5, .int 0, .ref q6, .ref q7, .ref q8, .ref q9, .ref q10, .ref q11, .int 0, .ref q12, .int 0, .ref q13, .ref q14, .null, .long 0])), (q1, .inl (cy 0, 549, .inl (fun _ => 0))), (q2, .inl (cy 0, 5490, .inl (fun _ => 0))), (q3, .inl (cy 0, 140, .inl (fun _ => 0))), (q4, .inl (cy 0, 256, .inl (fun _ => 0))), (q5, .inl (cy 0, 256, .inl (fun _ => 0))), (q6, .inl (cy 0, 16, .inl (fun _ => 0))), (q7, .inl (cy 0, 16, .inl (fun _ => 0))), (q8, .inl (cy 0, 16, .inl (fun _ => 0))), (q9, .inl (cy 0, 16, .inl (fun _ => 0))), (q10, .inl (cy 0, 16, .inl (fun _ => 0))), (q11, .inl (cy 0, 16, .inl (fun _ => 0))), (q12, .inl (cy 0, 256, .inl (fun _ => 0))), (q13, .inl (cy 0, 48, .inl (fun _ => 0))), (q14, .inl (cy 2, 16, .inl (fun _ => 0)))] H := hP
  have hD : va_D (ct_A h0 s.heap.size) [(h0, .inr (11, [.ref q1, .ref q2, .int 0, .ref q3, .int 0, .ref q4, .ref q5, .int 0, .ref q6, .ref q7, .ref q8, .ref q9, .ref q10, .ref q11, .int 0, .ref q12, .int 0, .ref q13, .ref q14, .null, .long 0])), (q1, .inl (cy 0, 549, .inl (fun _ => 0))), (q2, .inl (cy 0, 5490, .inl (fun _ => 0))), (q3, .inl (cy 0, 140, .inl (fun _ => 0))), (q4, .inl (cy 0, 256, .inl (fun _ => 0))), (q5, .inl (cy 0, 256, .inl (fun _ => 0))), (q6, .inl (cy 0, 16, .inl (fun _ => 0))), (q7, .inl (cy 0, 16, .inl (fun _ => 0))), (q8, .inl (cy 0, 16, .inl (fun _ => 0))), (q9, .inl (cy 0, 16, .inl (fun _ => 0))), (q10, .inl (cy 0, 16, .inl (fun _ => 0))), (q11, .inl (cy 0, 16, .inl (fun _ => 0))), (q12, .inl (cy 0, 256, .inl (fun _ => 0))), (q13, .inl (cy 0, 48, .inl (fun _ => 0))), (q14, .inl (cy 2, 16, .inl (fun _ => 0)))] := hD
  refine lv_aload_n hx hb dX11_init_122 rfl (lv_at hl 0 rfl) ?_
  refine lv_sipush (v := 768) hx hb dX11_init_123 (by decide) ?_
  refine ct_newi hA hP hD hS hq 768 (by decide) (by decide) (Nat.le_of_ble_eq_true rfl) (Nat.le_of_ble_eq_true rfl) (Nat.le_of_ble_eq_true rfl) dX11_init_126 (fun q15 H hP hD hS => ?_)
  have hP : va_P D vwCl [(h0, .inr (11, [.ref q1, .ref q2, .int 0, .ref q3, .int 0, .ref q4, .ref q5, .int 0, .ref q6, .ref q7, .ref q8, .ref q9, .ref q10, .ref q11, .int 0, .ref q12, .int 0, .ref q13, .ref q14, .null, .long 0])), (q1, .inl (cy 0, 549, .inl (fun _ => 0))), (q2, .inl (cy 0, 5490, .inl (fun _ => 0))), (q3, .inl (cy 0, 140, .inl (fun _ => 0))), (q4, .inl (cy 0, 256, .inl (fun _ => 0))), (q5, .inl (cy 0, 256, .inl (fun _ => 0))), (q6, .inl (cy 0, 16, .inl (fun _ => 0))), (q7, .inl (cy 0, 16, .inl (fun _ => 0))), (q8, .inl (cy 0, 16, .inl (fun _ => 0))), (q9, .inl (cy 0, 16, .inl (fun _ => 0))), (q10, .inl (cy 0, 16, .inl (fun _ => 0))), (q11, .inl (cy 0, 16, .inl (fun _ => 0))), (q12, .inl (cy 0, 256, .inl (fun _ => 0))), (q13, .inl (cy 0, 48, .inl (fun _ => 0))), (q14, .inl (cy 2, 16, .inl (fun _ => 0))), (q15, .inl (cy 0, 768, .inl (fun _ => 0)))] H := hP
  have hD : va_D (ct_A h0 s.heap.size) [(h0, .inr (11, [.ref q1, .ref q2, .int 0, .ref q3, .int 0, .ref q4, .ref q5, .int 0, .ref q6, .ref q7, .ref q8, .ref q9, .ref q10, .ref q11, .int 0, .ref q12, .int 0, .ref q13, .ref q14, .null, .long 0])), (q1, .inl (cy 0, 549, .inl (fun _ => 0))), (q2, .inl (cy 0, 5490, .inl (fun _ => 0))), (q3, .inl (cy 0, 140, .inl (fun _ => 0))), (q4, .inl (cy 0, 256, .inl (fun _ => 0))), (q5, .inl (cy 0, 256, .inl (fun _ => 0))), (q6, .inl (cy 0, 16, .inl (fun _ => 0))), (q7, .inl (cy 0, 16, .inl (fun _ => 0))), (q8, .inl (cy 0, 16, .inl (fun _ => 0))), (q9, .inl (cy 0, 16, .inl (fun _ => 0))), (q10, .inl (cy 0, 16, .inl (fun _ => 0))), (q11, .inl (cy 0, 16, .inl (fun _ => 0))), (q12, .inl (cy 0, 256, .inl (fun _ => 0))), (q13, .inl (cy 0, 48, .inl (fun _ => 0))), (q14, .inl (cy 2, 16, .inl (fun _ => 0))), (q15, .inl (cy 0, 768, .inl (fun _ => 0)))] := hD
  refine ct_putF hA tyX11 rfl ct_in11 tyX11_ok nmX11 hP hD hS 19 (by decide) 1007 (by decide +kernel) rfl hin rfl (v := .ref q15) rfl rfl (Nat.le_of_ble_eq_true rfl) dX11_init_128 (fun H locs hP hD hS => ?_)
  have hP : va_P D vwCl [(h0, .inr (11, [.ref q1, .ref q2, .int 0, .ref q3, .int 0, .ref q4, .ref q5, .int 0, .ref q6, .ref q7, .ref q8, .ref q9, .ref q10, .ref q11, .int 0, .ref q12, .int 0, .ref q13, .ref q14, .ref q15, .long 0])), (q1, .inl (cy 0, 549, .inl (fun _ => 0))), (q2, .inl (cy 0, 5490, .inl (fun _ => 0))), (q3, .inl (cy 0, 140, .inl (fun _ => 0))), (q4, .inl (cy 0, 256, .inl (fun _ => 0))), (q5, .inl (cy 0, 256, .inl (fun _ => 0))), (q6, .inl (cy 0, 16, .inl (fun _ => 0))), (q7, .inl (cy 0, 16, .inl (fun _ => 0))), (q8, .inl (cy 0, 16, .inl (fun _ => 0))), (q9, .inl (cy 0, 16, .inl (fun _ => 0))), (q10, .inl (cy 0, 16, .inl (fun _ => 0))), (q11, .inl (cy 0, 16, .inl (fun _ => 0))), (q12, .inl (cy 0, 256, .inl (fun _ => 0))), (q13, .inl (cy 0, 48, .inl (fun _ => 0))), (q14, .inl (cy 2, 16, .inl (fun _ => 0))), (q15, .inl (cy 0, 768, .inl (fun _ => 0)))] H := hP
  have hD : va_D (ct_A h0 s.heap.size) [(h0, .inr (11, [.ref q1, .ref q2, .int 0, .ref q3, .int 0, .ref q4, .ref q5, .int 0, .ref q6, .ref q7, .ref q8, .ref q9, .ref q10, .ref q11, .int 0, .ref q12, .int 0, .ref q13, .ref q14, .ref q15, .long 0])), (q1, .inl (cy 0, 549, .inl (fun _ => 0))), (q2, .inl (cy 0, 5490, .inl (fun _ => 0))), (q3, .inl (cy 0, 140, .inl (fun _ => 0))), (q4, .inl (cy 0, 256, .inl (fun _ => 0))), (q5, .inl (cy 0, 256, .inl (fun _ => 0))), (q6, .inl (cy 0, 16, .inl (fun _ => 0))), (q7, .inl (cy 0, 16, .inl (fun _ => 0))), (q8, .inl (cy 0, 16, .inl (fun _ => 0))), (q9, .inl (cy 0, 16, .inl (fun _ => 0))), (q10, .inl (cy 0, 16, .inl (fun _ => 0))), (q11, .inl (cy 0, 16, .inl (fun _ => 0))), (q12, .inl (cy 0, 256, .inl (fun _ => 0))), (q13, .inl (cy 0, 48, .inl (fun _ => 0))), (q14, .inl (cy 2, 16, .inl (fun _ => 0))), (q15, .inl (cy 0, 768, .inl (fun _ => 0)))] := hD
  refine lv_aload_n hx hb dX11_init_131 rfl (lv_at hl 0 rfl) ?_
  refine va_get hx hb hts (fun w hw => hG w (ct_in11 w hw)) hown hK.1 hP 0 rfl rfl 0 (by decide) (hts _ (hG _ (am_gw (p := 988) (by decide +kernel) rfl))) (fun _ h9 => h9) (v := .ref q1) rfl dX11_init_132 ?_
  refine lv_iconst (v := 0) hx hb dX11_init_135 (by decide) ?_
  refine lv_iconst (v := 1) hx hb dX11_init_136 (by decide) ?_
  refine va_iast hx hb hK.1 hP hD hS 1 0 rfl rfl (by unfold vp_in; decide) dX11_init_137 (fun H locs hP hD hS => ?_)
  rw [show Int32.toNatClampNeg 0 = 0 from by decide] at hP hD
  have hP : va_P D vwCl [(h0, .inr (11, [.ref q1, .ref q2, .int 0, .ref q3, .int 0, .ref q4, .ref q5, .int 0, .ref q6, .ref q7, .ref q8, .ref q9, .ref q10, .ref q11, .int 0, .ref q12, .int 0, .ref q13, .ref q14, .ref q15, .long 0])), (q1, .inl (cy 0, 549, .inl (upd (fun _ => 0) 0 1))), (q2, .inl (cy 0, 5490, .inl (fun _ => 0))), (q3, .inl (cy 0, 140, .inl (fun _ => 0))), (q4, .inl (cy 0, 256, .inl (fun _ => 0))), (q5, .inl (cy 0, 256, .inl (fun _ => 0))), (q6, .inl (cy 0, 16, .inl (fun _ => 0))), (q7, .inl (cy 0, 16, .inl (fun _ => 0))), (q8, .inl (cy 0, 16, .inl (fun _ => 0))), (q9, .inl (cy 0, 16, .inl (fun _ => 0))), (q10, .inl (cy 0, 16, .inl (fun _ => 0))), (q11, .inl (cy 0, 16, .inl (fun _ => 0))), (q12, .inl (cy 0, 256, .inl (fun _ => 0))), (q13, .inl (cy 0, 48, .inl (fun _ => 0))), (q14, .inl (cy 2, 16, .inl (fun _ => 0))), (q15, .inl (cy 0, 768, .inl (fun _ => 0)))] H := hP
  have hD : va_D (ct_A h0 s.heap.size) [(h0, .inr (11, [.ref q1, .ref q2, .int 0, .ref q3, .int 0, .ref q4, .ref q5, .int 0, .ref q6, .ref q7, .ref q8, .ref q9, .ref q10, .ref q11, .int 0, .ref q12, .int 0, .ref q13, .ref q14, .ref q15, .long 0])), (q1, .inl (cy 0, 549, .inl (upd (fun _ => 0) 0 1))), (q2, .inl (cy 0, 5490, .inl (fun _ => 0))), (q3, .inl (cy 0, 140, .inl (fun _ => 0))), (q4, .inl (cy 0, 256, .inl (fun _ => 0))), (q5, .inl (cy 0, 256, .inl (fun _ => 0))), (q6, .inl (cy 0, 16, .inl (fun _ => 0))), (q7, .inl (cy 0, 16, .inl (fun _ => 0))), (q8, .inl (cy 0, 16, .inl (fun _ => 0))), (q9, .inl (cy 0, 16, .inl (fun _ => 0))), (q10, .inl (cy 0, 16, .inl (fun _ => 0))), (q11, .inl (cy 0, 16, .inl (fun _ => 0))), (q12, .inl (cy 0, 256, .inl (fun _ => 0))), (q13, .inl (cy 0, 48, .inl (fun _ => 0))), (q14, .inl (cy 2, 16, .inl (fun _ => 0))), (q15, .inl (cy 0, 768, .inl (fun _ => 0)))] := hD
  refine lv_aload_n hx hb dX11_init_138 rfl (lv_at hl 0 rfl) ?_
  refine va_get hx hb hts (fun w hw => hG w (ct_in11 w hw)) hown hK.1 hP 0 rfl rfl 0 (by decide) (hts _ (hG _ (am_gw (p := 988) (by decide +kernel) rfl))) (fun _ h9 => h9) (v := .ref q1) rfl dX11_init_139 ?_
  refine lv_iconst (v := 1) hx hb dX11_init_142 (by decide) ?_
  refine lv_iconst (v := 1) hx hb dX11_init_143 (by decide) ?_
  refine va_iast hx hb hK.1 hP hD hS 1 0 rfl rfl (by unfold vp_in; decide) dX11_init_144 (fun H locs hP hD hS => ?_)
  rw [show Int32.toNatClampNeg 1 = 1 from by decide] at hP hD
  have hP : va_P D vwCl [(h0, .inr (11, [.ref q1, .ref q2, .int 0, .ref q3, .int 0, .ref q4, .ref q5, .int 0, .ref q6, .ref q7, .ref q8, .ref q9, .ref q10, .ref q11, .int 0, .ref q12, .int 0, .ref q13, .ref q14, .ref q15, .long 0])), (q1, .inl (cy 0, 549, .inl (upd (upd (fun _ => 0) 0 1) 1 1))), (q2, .inl (cy 0, 5490, .inl (fun _ => 0))), (q3, .inl (cy 0, 140, .inl (fun _ => 0))), (q4, .inl (cy 0, 256, .inl (fun _ => 0))), (q5, .inl (cy 0, 256, .inl (fun _ => 0))), (q6, .inl (cy 0, 16, .inl (fun _ => 0))), (q7, .inl (cy 0, 16, .inl (fun _ => 0))), (q8, .inl (cy 0, 16, .inl (fun _ => 0))), (q9, .inl (cy 0, 16, .inl (fun _ => 0))), (q10, .inl (cy 0, 16, .inl (fun _ => 0))), (q11, .inl (cy 0, 16, .inl (fun _ => 0))), (q12, .inl (cy 0, 256, .inl (fun _ => 0))), (q13, .inl (cy 0, 48, .inl (fun _ => 0))), (q14, .inl (cy 2, 16, .inl (fun _ => 0))), (q15, .inl (cy 0, 768, .inl (fun _ => 0)))] H := hP
  have hD : va_D (ct_A h0 s.heap.size) [(h0, .inr (11, [.ref q1, .ref q2, .int 0, .ref q3, .int 0, .ref q4, .ref q5, .int 0, .ref q6, .ref q7, .ref q8, .ref q9, .ref q10, .ref q11, .int 0, .ref q12, .int 0, .ref q13, .ref q14, .ref q15, .long 0])), (q1, .inl (cy 0, 549, .inl (upd (upd (fun _ => 0) 0 1) 1 1))), (q2, .inl (cy 0, 5490, .inl (fun _ => 0))), (q3, .inl (cy 0, 140, .inl (fun _ => 0))), (q4, .inl (cy 0, 256, .inl (fun _ => 0))), (q5, .inl (cy 0, 256, .inl (fun _ => 0))), (q6, .inl (cy 0, 16, .inl (fun _ => 0))), (q7, .inl (cy 0, 16, .inl (fun _ => 0))), (q8, .inl (cy 0, 16, .inl (fun _ => 0))), (q9, .inl (cy 0, 16, .inl (fun _ => 0))), (q10, .inl (cy 0, 16, .inl (fun _ => 0))), (q11, .inl (cy 0, 16, .inl (fun _ => 0))), (q12, .inl (cy 0, 256, .inl (fun _ => 0))), (q13, .inl (cy 0, 48, .inl (fun _ => 0))), (q14, .inl (cy 2, 16, .inl (fun _ => 0))), (q15, .inl (cy 0, 768, .inl (fun _ => 0)))] := hD
  have ew : [(h0, .inr (11, [.ref q1, .ref q2, .int 0, .ref q3, .int 0, .ref q4, .ref q5, .int 0, .ref q6, .ref q7, .ref q8, .ref q9, .ref q10, .ref q11, .int 0, .ref q12, .int 0, .ref q13, .ref q14, .ref q15, .long 0])), (q1, .inl (cy 0, 549, .inl (upd (upd (fun _ => 0) 0 1) 1 1))), (q2, .inl (cy 0, 5490, .inl (fun _ => 0))), (q3, .inl (cy 0, 140, .inl (fun _ => 0))), (q4, .inl (cy 0, 256, .inl (fun _ => 0))), (q5, .inl (cy 0, 256, .inl (fun _ => 0))), (q6, .inl (cy 0, 16, .inl (fun _ => 0))), (q7, .inl (cy 0, 16, .inl (fun _ => 0))), (q8, .inl (cy 0, 16, .inl (fun _ => 0))), (q9, .inl (cy 0, 16, .inl (fun _ => 0))), (q10, .inl (cy 0, 16, .inl (fun _ => 0))), (q11, .inl (cy 0, 16, .inl (fun _ => 0))), (q12, .inl (cy 0, 256, .inl (fun _ => 0))), (q13, .inl (cy 0, 48, .inl (fun _ => 0))), (q14, .inl (cy 2, 16, .inl (fun _ => 0))), (q15, .inl (cy 0, 768, .inl (fun _ => 0)))] = (List.range 16).map (fun j => ((fun k => ([h0, q1, q2, q3, q4, q5, q6, q7, q8, q9, q10, q11, q12, q13, q14, q15] : List Nat).getD (k - 33) 0) (33 + j), am_e cy (fun k => ([h0, q1, q2, q3, q4, q5, q6, q7, q8, q9, q10, q11, q12, q13, q14, q15] : List Nat).getD (k - 33) 0) am_M0 (33 + j))) := by
    show _ = [(_, am_e cy _ am_M0 33), (_, am_e cy _ am_M0 34), (_, am_e cy _ am_M0 35), (_, am_e cy _ am_M0 36), (_, am_e cy _ am_M0 37), (_, am_e cy _ am_M0 38), (_, am_e cy _ am_M0 39), (_, am_e cy _ am_M0 40), (_, am_e cy _ am_M0 41), (_, am_e cy _ am_M0 42), (_, am_e cy _ am_M0 43), (_, am_e cy _ am_M0 44), (_, am_e cy _ am_M0 45), (_, am_e cy _ am_M0 46), (_, am_e cy _ am_M0 47), (_, am_e cy _ am_M0 48)]
    rw [e0_33, e0_34, e0_35, e0_36, e0_37, e0_38, e0_39, e0_40, e0_41, e0_42, e0_43, e0_44, e0_45, e0_46, e0_47, e0_48]
    rfl
  rw [ew] at hP hD
  exact W.vret hx hb hr (fun t ht hW => ⟨⟨_, rfl, ⟨fun k => ([h0, q1, q2, q3, q4, q5, q6, q7, q8, q9, q10, q11, q12, q13, q14, q15] : List Nat).getD (k - 33) 0, rfl, rfl⟩, by rw [ht]; exact hP, hD⟩, hS.F ht⟩) hS.2.2 dX11_init_145
