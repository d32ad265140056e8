/-! THE START: the two worlds made one, the memory at the start keeps the invariant, the tables -/
theorem ct_g1o : ∀ k, k < 99 → (k < 33 ∨ 49 ≤ k) → ∀ x ∈ (am_shape.getD k (99, 0, [])).2.2, x < 33 ∨ (49 ≤ x ∧ x < 99) := by decide +kernel
theorem ct_g1 {k : Nat} (h : k < 99) (h2 : k < 33 ∨ 49 ≤ k) (j : Nat) : am_r k j < 33 ∨ (49 ≤ am_r k j ∧ am_r k j < 99) := ct_getD (P := fun x => x < 33 ∨ (49 ≤ x ∧ x < 99)) (ct_g1o k h h2) (Or.inl (by decide)) j
def ct_adr (adr1 adr2 : Nat → Nat) (t b : Nat) : Nat → Nat := fun k => if k = 99 then t else if k = 100 then b else if 33 ≤ k ∧ k < 49 then adr2 k else adr1 k
theorem ct_adr1 {adr1 adr2 : Nat → Nat} {t b k : Nat} (h : k < 33 ∨ (49 ≤ k ∧ k < 99)) : ct_adr adr1 adr2 t b k = adr1 k := by
  unfold ct_adr
  rw [if_neg (by omega), if_neg (by omega), if_neg (by omega)]
theorem ct_adr2 {adr1 adr2 : Nat → Nat} {t b k : Nat} (h : 33 ≤ k ∧ k < 49) : ct_adr adr1 adr2 t b k = adr2 k := by
  unfold ct_adr
  rw [if_neg (by omega), if_neg (by omega), if_pos h]
theorem ct_all (cy : Nat → ClassId) (adr1 adr2 : Nat → Nat) (t b : Nat) : List.Perm (((List.range 33).map (fun k => (adr1 k, am_e cy adr1 am_M0 k)) ++ ct_SN cy adr1 50) ++ (List.range 16).map (fun j => (adr2 (33 + j), am_e cy adr2 am_M0 (33 + j)))) (am_W cy (ct_adr adr1 adr2 t b) am_M0) := by
  obtain ⟨adr, ha⟩ : ∃ adr, adr = ct_adr adr1 adr2 t b := ⟨_, rfl⟩
  rw [← ha]
  have h1 : ∀ k, (k < 33 ∨ (49 ≤ k ∧ k < 99)) → adr1 k = adr k := fun k h => by rw [ha, ct_adr1 h]
  have h2 : ∀ k, 33 ≤ k → k < 49 → adr2 k = adr k := fun k g1 g2 => by rw [ha, ct_adr2 ⟨g1, g2⟩]
  have e1 : (List.range 33).map (fun k => (adr1 k, am_e cy adr1 am_M0 k)) = (List.range 33).map (fun k => (adr k, am_e cy adr am_M0 k)) := by
    refine List.map_congr_left (fun k hk => ?_)
    have hk := List.mem_range.mp hk
    rw [h1 k (Or.inl hk), am_e_adr (fun j => h1 _ (ct_g1 (by omega) (Or.inl hk) j))]
  have e2 : ct_SN cy adr1 50 = ct_SN cy adr 50 := by
    unfold ct_SN
    refine List.map_congr_left (fun k hk => ?_)
    have hk := List.mem_range.mp hk
    rw [h1 (49 + k) (Or.inr (by omega)), am_e_adr (fun j => h1 _ (ct_g1 (k := 49 + k) (by omega) (Or.inr (by omega)) j))]
  have e3 : (List.range 16).map (fun j => (adr2 (33 + j), am_e cy adr2 am_M0 (33 + j))) = (List.range 16).map (fun j => (adr (33 + j), am_e cy adr am_M0 (33 + j))) := by
    show [(adr2 33, am_e cy adr2 am_M0 33), (adr2 34, am_e cy adr2 am_M0 34), (adr2 35, am_e cy adr2 am_M0 35), (adr2 36, am_e cy adr2 am_M0 36), (adr2 37, am_e cy adr2 am_M0 37), (adr2 38, am_e cy adr2 am_M0 38), (adr2 39, am_e cy adr2 am_M0 39), (adr2 40, am_e cy adr2 am_M0 40), (adr2 41, am_e cy adr2 am_M0 41), (adr2 42, am_e cy adr2 am_M0 42), (adr2 43, am_e cy adr2 am_M0 43), (adr2 44, am_e cy adr2 am_M0 44), (adr2 45, am_e cy adr2 am_M0 45), (adr2 46, am_e cy adr2 am_M0 46), (adr2 47, am_e cy adr2 am_M0 47), (adr2 48, am_e cy adr2 am_M0 48)] = [(adr 33, am_e cy adr am_M0 33), (adr 34, am_e cy adr am_M0 34), (adr 35, am_e cy adr am_M0 35), (adr 36, am_e cy adr am_M0 36), (adr 37, am_e cy adr am_M0 37), (adr 38, am_e cy adr am_M0 38), (adr 39, am_e cy adr am_M0 39), (adr 40, am_e cy adr am_M0 40), (adr 41, am_e cy adr am_M0 41), (adr 42, am_e cy adr am_M0 42), (adr 43, am_e cy adr am_M0 43), (adr 44, am_e cy adr am_M0 44), (adr 45, am_e cy adr am_M0 45), (adr 46, am_e cy adr am_M0 46), (adr 47, am_e cy adr am_M0 47), (adr 48, am_e cy adr am_M0 48)]
    rw [e0_33 cy adr2, e0_33 cy adr, e0_34 cy adr2, e0_34 cy adr, e0_35 cy adr2, e0_35 cy adr, e0_36 cy adr2, e0_36 cy adr, e0_37 cy adr2, e0_37 cy adr, e0_38 cy adr2, e0_38 cy adr, e0_39 cy adr2, e0_39 cy adr, e0_40 cy adr2, e0_40 cy adr, e0_41 cy adr2, e0_41 cy adr, e0_42 cy adr2, e0_42 cy adr, e0_43 cy adr2, e0_43 cy adr, e0_44 cy adr2, e0_44 cy adr, e0_45 cy adr2, e0_45 cy adr, e0_46 cy adr2, e0_46 cy adr, e0_47 cy adr2, e0_47 cy adr, e0_48 cy adr2, e0_48 cy adr]
    rw [h2 33 (by decide) (by decide), h2 34 (by decide) (by decide), h2 35 (by decide) (by decide), h2 36 (by decide) (by decide), h2 37 (by decide) (by decide), h2 38 (by decide) (by decide), h2 39 (by decide) (by decide), h2 40 (by decide) (by decide), h2 41 (by decide) (by decide), h2 42 (by decide) (by decide), h2 43 (by decide) (by decide), h2 44 (by decide) (by decide), h2 45 (by decide) (by decide), h2 46 (by decide) (by decide), h2 47 (by decide) (by decide), h2 48 (by decide) (by decide)]
  rw [e1, e2, e3]
  have er : am_W cy adr am_M0 = ((List.range 33).map (fun k => (adr k, am_e cy adr am_M0 k)) ++ (List.range 16).map (fun j => (adr (33 + j), am_e cy adr am_M0 (33 + j)))) ++ ct_SN cy adr 50 := by
    unfold am_W ct_SN
    rw [show (99 : Nat) = (33 + 16) + 50 from rfl, List.range_add (n := 33 + 16), List.range_add (n := 33)]
    simp only [List.map_append, List.map_map]
    rfl
  rw [er, List.append_assoc, List.append_assoc]
  exact List.Perm.append_left _ List.perm_append_comm
theorem am_M0_34 (j : Nat) (h : 2 ≤ j) : am_M0.1 34 j = 0 := by
  show upd (upd (fun _ => 0) 0 1) 1 1 j = 0
  rw [upd_ne _ _ (by omega), upd_ne _ _ (by omega)]
theorem am_M0_wf : wf (am_M0.1 34) := by
  have hA : fA (am_M0.1 34) = 1 := by decide +kernel
  have hN : fN (am_M0.1 34) = 0 := by decide +kernel
  refine ⟨⟨⟨by decide +kernel, by decide +kernel, by decide +kernel⟩, ⟨by decide +kernel, by decide +kernel, by decide +kernel⟩, ⟨by decide +kernel, by decide +kernel⟩⟩, fun p hp => Or.inr ⟨0, by decide, ?_⟩, fun q hq => absurd hq (by rw [hN]; omega), Or.inl (am_M0_34 _ (by decide)), Or.inl (am_M0_34 _ (by decide)), fun h => absurd h (by rw [am_M0_34 _ (by decide)]; decide)⟩
  rw [am_M0_34 _ (by omega)]
  exact nI_0.symm
theorem am_M0_INV : INV am_M0 := by
  have hN : fN (am_M0.1 34) = 0 := by decide +kernel
  refine ⟨am_M0.1 34, 0, am_M0.1 35, 0, am_M0.1 36, ⟨am_M0_wf, ⟨⟨by decide +kernel, by decide +kernel, by decide +kernel, by decide +kernel, by decide +kernel⟩, fun q hq => ?_, fun q hq => absurd hq (by rw [hN]; omega), fun h => absurd h (by rw [am_M0_34 _ (by decide)]; decide)⟩, ⟨by decide, by decide +kernel, 0, by decide, by decide +kernel, fun i hi => absurd hi (by omega)⟩, ⟨by decide, by decide +kernel, fun i hi => absurd hi (by omega)⟩⟩, ⟨rfl, by decide +kernel, rfl, by decide +kernel, rfl⟩⟩
  rw [am_M0_34 _ (by omega)]
  rfl
theorem ct_inj {cy : Nat → ClassId} {adr : Nat → Nat} {M : am_M} {A : Nat → Prop} (h : va_D A (am_W cy adr M)) : (∀ i j, i < 99 → j < 99 → adr i = adr j → i = j) ∧ ∀ q, am_A adr q → A q := by
  refine ⟨fun i j hi hj e => h.1 i j _ _ (am_W_get hi) (am_W_get hj) e, ?_⟩
  rintro q ⟨k, hk, rfl⟩
  exact h.2 k _ (am_W_get hk)
/-- what the tables say at the law's entry -/
theorem ct_start {args : Array Value} {s : State} (hts : ∀ w ∈ lw_tbl, w.before args s = true) : ∃ (D : va_G) (cy : Nat → ClassId), ct_K D cy s := by
  have hG : ∀ w ∈ am_wG, w ∈ lw_tbl := fun w hw => (List.mem_filter.mp hw).1
  have hk : ∀ k : Nat, ∃ x : ClassId × (Nat → Nat), ∀ q, vwCl[k]? = some q → u_Kn s q.1 q.2.1 q.2.2 x.1 x.2 := by
    intro k
    match k with
    | 0 =>
      obtain ⟨c0, i0, h⟩ := u_known (C := RX0) (T := TX0) (N := 4) (n := 4) hts (fun w hw => hG w (ct_in0 w hw)) (hts (.instantiable RX0 4) (List.mem_of_getElem? (i := 328) (by decide +kernel)))
      exact ⟨(c0, i0), fun q hq => by cases hq; exact h⟩
    | 1 =>
      obtain ⟨c0, i0, h⟩ := u_known (C := RX1) (T := TX1) (N := 5) (n := 5) hts (fun w hw => hG w (ct_in1 w hw)) (hts (.instantiable RX1 5) (List.mem_of_getElem? (i := 222) (by decide +kernel)))
      exact ⟨(c0, i0), fun q hq => by cases hq; exact h⟩
    | 2 =>
      obtain ⟨c0, i0, h⟩ := u_known (C := RX2) (T := TX2) (N := 3) (n := 3) hts (fun w hw => hG w (ct_in2 w hw)) (hts (.instantiable RX2 3) (List.mem_of_getElem? (i := 175) (by decide +kernel)))
      exact ⟨(c0, i0), fun q hq => by cases hq; exact h⟩
    | 3 =>
      obtain ⟨c0, i0, h⟩ := u_known (C := RX3) (T := TX3) (N := 2) (n := 2) hts (fun w hw => hG w (ct_in3 w hw)) (hts (.instantiable RX3 2) (List.mem_of_getElem? (i := 347) (by decide +kernel)))
      exact ⟨(c0, i0), fun q hq => by cases hq; exact h⟩
    | 4 =>
      obtain ⟨c0, i0, h⟩ := u_known (C := RX4) (T := TX4) (N := 6) (n := 6) hts (fun w hw => hG w (ct_in4 w hw)) (hts (.instantiable RX4 6) (List.mem_of_getElem? (i := 281) (by decide +kernel)))
      exact ⟨(c0, i0), fun q hq => by cases hq; exact h⟩
    | 5 =>
      obtain ⟨c0, i0, h⟩ := u_known (C := RX5) (T := TX5) (N := 5) (n := 5) hts (fun w hw => hG w (ct_in5 w hw)) (hts (.instantiable RX5 5) (List.mem_of_getElem? (i := 306) (by decide +kernel)))
      exact ⟨(c0, i0), fun q hq => by cases hq; exact h⟩
    | 6 =>
      obtain ⟨c0, i0, h⟩ := u_known (C := RX6) (T := TX6) (N := 1) (n := 1) hts (fun w hw => hG w (ct_in6 w hw)) (hts (.instantiable RX6 1) (List.mem_of_getElem? (i := 360) (by decide +kernel)))
      exact ⟨(c0, i0), fun q hq => by cases hq; exact h⟩
    | 7 =>
      obtain ⟨c0, i0, h⟩ := u_known (C := RX7) (T := TX7) (N := 9) (n := 9) hts (fun w hw => hG w (ct_in7 w hw)) (hts (.instantiable RX7 9) (List.mem_of_getElem? (i := 107) (by decide +kernel)))
      exact ⟨(c0, i0), fun q hq => by cases hq; exact h⟩
    | 8 =>
      obtain ⟨c0, i0, h⟩ := u_known (C := RX8) (T := TX8) (N := 6) (n := 6) hts (fun w hw => hG w (ct_in8 w hw)) (hts (.instantiable RX8 6) (List.mem_of_getElem? (i := 250) (by decide +kernel)))
      exact ⟨(c0, i0), fun q hq => by cases hq; exact h⟩
    | 9 =>
      obtain ⟨c0, i0, h⟩ := u_known (C := RX9) (T := TX9) (N := 5) (n := 5) hts (fun w hw => hG w (ct_in9 w hw)) (hts (.instantiable RX9 5) (List.mem_of_getElem? (i := 195) (by decide +kernel)))
      exact ⟨(c0, i0), fun q hq => by cases hq; exact h⟩
    | 10 =>
      obtain ⟨c0, i0, h⟩ := u_known (C := RX10) (T := TX10) (N := 10) (n := 10) hts (fun w hw => hG w (ct_in10 w hw)) (hts (.instantiable RX10 10) (List.mem_of_getElem? (i := 99) (by decide +kernel)))
      exact ⟨(c0, i0), fun q hq => by cases hq; exact h⟩
    | 11 =>
      obtain ⟨c0, i0, h⟩ := u_known (C := RX11) (T := TX11) (N := 21) (n := 21) hts (fun w hw => hG w (ct_in11 w hw)) (hts (.instantiable RX11 21) (List.mem_of_getElem? (i := 983) (by decide +kernel)))
      exact ⟨(c0, i0), fun q hq => by cases hq; exact h⟩
    | k + 12 => exact ⟨(default, fun _ => 0), fun q hq => by simp [vwCl] at hq⟩
  obtain ⟨g, hg⟩ := Classical.axiomOfChoice hk
  obtain ⟨cI, kI, oI, i1, i2, i3⟩ := Cond.arrayClass_spec (hts _ (hG _ ct_ai))
  obtain ⟨cJ, kJ, oJ, j1, j2, j3⟩ := Cond.arrayClass_spec (hts _ (hG _ ct_aj))
  obtain ⟨cZ, kZ, oZ, z1, z2, z3⟩ := Cond.arrayClass_spec (hts _ (hG _ ct_az))
  have hov : (Cond.arrayOver (.object "PaletteBuilder$Snapshot")).before args s = true := hts _ (List.mem_of_getElem? (i := 181) (by decide +kernel))
  obtain ⟨oS, cS, kS, s1, -, s3, s4, s5⟩ := Cond.arrayOver_spec hov
  refine ⟨(fun k => (g k).1, fun k => (g k).2), fun i => if i = 0 then cI else if i = 1 then cJ else if i = 2 then cZ else cS, ⟨hg, fun k q hq => ?_⟩, fun w hw => ?_, va_AO.of hov⟩
  · match k, hq with
    | 0, hq => cases hq; exact ⟨fun n z => ⟨fun k h => (by cases h), kI, i2, oI, i3⟩, i1⟩
    | 1, hq => cases hq; exact ⟨fun n z => ⟨fun k h => (by cases h), kJ, j2, oJ, j3⟩, j1⟩
    | 2, hq => cases hq; exact ⟨fun n z => ⟨fun k h => (by cases h), kZ, z2, oZ, z3⟩, z1⟩
    | 3, hq => cases hq; exact ⟨fun n z => ⟨fun k h => (by cases h), kS, s3, oS, s4⟩, kS, oS, s3, s4, s1, s5⟩
    | k + 4, hq => simp [am_tys] at hq
  · have hm := (List.mem_filter.mp hw).1
    obtain ⟨a, i, x, b, rfl⟩ := am_nest_of hw
    exact va_Nw.of rfl (hts _ hm)

theorem ct_matrix {args : Array Value} {s : State} (hts : ∀ w ∈ lw_tbl, w.before args s = true) (hgv : (Jvm.Cond.and given_1 narrow_1).before args s = true) : ∃ t : Nat, va_Z "PaletteBuilder$Mapper" "MATRIX" "[I" (.ref t) (fun q => s.heap.size ≤ q) s s.heap ∧ va_T .int t 16 (fun i => .int (am_mat i)) (fun q => s.heap.size ≤ q) s s.heap := by
  have hs := flat_of_before _ hgv
  have harr : (Cond.arrayOf (.static "PaletteBuilder$Mapper" "MATRIX" "[I") .int).before args s = true := hs _ (by decide +kernel)
  have hlen : (Term.length (.static "PaletteBuilder$Mapper" "MATRIX" "[I")).eval args s none [] s = some (.int (Int32.ofNat 16)) := va_eqt (hs (Cond.eq (.length (.static "PaletteBuilder$Mapper" "MATRIX" "[I")) (.int (Int32.ofNat 16))) (by decide +kernel))
  have hel : ∀ j : Nat, j < 16 → (Term.elem (.static "PaletteBuilder$Mapper" "MATRIX" "[I") (.int (Int32.ofNat j))).eval args s none [] s = some (.int (am_mat j)) := by
    intro j hj
    match j, hj with
    | 0, _ => exact va_eqt (hs (Cond.eq (.elem (.static "PaletteBuilder$Mapper" "MATRIX" "[I") (.int (Int32.ofNat 0))) (.int (am_mat 0))) (by decide +kernel))
    | 1, _ => exact va_eqt (hs (Cond.eq (.elem (.static "PaletteBuilder$Mapper" "MATRIX" "[I") (.int (Int32.ofNat 1))) (.int (am_mat 1))) (by decide +kernel))
    | 2, _ => exact va_eqt (hs (Cond.eq (.elem (.static "PaletteBuilder$Mapper" "MATRIX" "[I") (.int (Int32.ofNat 2))) (.int (am_mat 2))) (by decide +kernel))
    | 3, _ => exact va_eqt (hs (Cond.eq (.elem (.static "PaletteBuilder$Mapper" "MATRIX" "[I") (.int (Int32.ofNat 3))) (.int (am_mat 3))) (by decide +kernel))
    | 4, _ => exact va_eqt (hs (Cond.eq (.elem (.static "PaletteBuilder$Mapper" "MATRIX" "[I") (.int (Int32.ofNat 4))) (.int (am_mat 4))) (by decide +kernel))
    | 5, _ => exact va_eqt (hs (Cond.eq (.elem (.static "PaletteBuilder$Mapper" "MATRIX" "[I") (.int (Int32.ofNat 5))) (.int (am_mat 5))) (by decide +kernel))
    | 6, _ => exact va_eqt (hs (Cond.eq (.elem (.static "PaletteBuilder$Mapper" "MATRIX" "[I") (.int (Int32.ofNat 6))) (.int (am_mat 6))) (by decide +kernel))
    | 7, _ => exact va_eqt (hs (Cond.eq (.elem (.static "PaletteBuilder$Mapper" "MATRIX" "[I") (.int (Int32.ofNat 7))) (.int (am_mat 7))) (by decide +kernel))
    | 8, _ => exact va_eqt (hs (Cond.eq (.elem (.static "PaletteBuilder$Mapper" "MATRIX" "[I") (.int (Int32.ofNat 8))) (.int (am_mat 8))) (by decide +kernel))
    | 9, _ => exact va_eqt (hs (Cond.eq (.elem (.static "PaletteBuilder$Mapper" "MATRIX" "[I") (.int (Int32.ofNat 9))) (.int (am_mat 9))) (by decide +kernel))
    | 10, _ => exact va_eqt (hs (Cond.eq (.elem (.static "PaletteBuilder$Mapper" "MATRIX" "[I") (.int (Int32.ofNat 10))) (.int (am_mat 10))) (by decide +kernel))
    | 11, _ => exact va_eqt (hs (Cond.eq (.elem (.static "PaletteBuilder$Mapper" "MATRIX" "[I") (.int (Int32.ofNat 11))) (.int (am_mat 11))) (by decide +kernel))
    | 12, _ => exact va_eqt (hs (Cond.eq (.elem (.static "PaletteBuilder$Mapper" "MATRIX" "[I") (.int (Int32.ofNat 12))) (.int (am_mat 12))) (by decide +kernel))
    | 13, _ => exact va_eqt (hs (Cond.eq (.elem (.static "PaletteBuilder$Mapper" "MATRIX" "[I") (.int (Int32.ofNat 13))) (.int (am_mat 13))) (by decide +kernel))
    | 14, _ => exact va_eqt (hs (Cond.eq (.elem (.static "PaletteBuilder$Mapper" "MATRIX" "[I") (.int (Int32.ofNat 14))) (.int (am_mat 14))) (by decide +kernel))
    | 15, _ => exact va_eqt (hs (Cond.eq (.elem (.static "PaletteBuilder$Mapper" "MATRIX" "[I") (.int (Int32.ofNat 15))) (.int (am_mat 15))) (by decide +kernel))
    | _ + 16, h => exact absurd h (by omega)
  obtain ⟨t, ht, hT⟩ := va_Tof (A := fun q => s.heap.size ≤ q) (by decide) harr hlen hel (fun a h => Nat.not_le.mpr h)
  exact ⟨t, va_Zref (hts (.laysStatic "PaletteBuilder$Mapper" "MATRIX" "[I") (List.mem_of_getElem? (i := 808) (by decide +kernel))) (hts (.initialized "PaletteBuilder$Mapper") (List.mem_of_getElem? (i := 93) (by decide +kernel))) ht (fun a h => Nat.not_le.mpr h), hT⟩
theorem ct_im10 : Cond.instanceMethod yX10_init ∈ am_wG := am_gw (p := 101) (by decide +kernel) rfl
theorem ct_co10 : Cond.code yX10_init cX10_init 1 none ∈ am_wG := am_gw (p := 102) (by decide +kernel) rfl
theorem ct_ii10 : Cond.initialized yX10_init.cls ∈ am_wG := am_gw (p := 84) (by decide +kernel) rfl
theorem ct_lm10 : Cond.methodLink RL 9 yX10_init ∈ am_wG := am_gw (p := 100) (by decide +kernel) rfl
theorem ct_im11 : Cond.instanceMethod yX11_init ∈ am_wG := am_gw (p := 985) (by decide +kernel) rfl
theorem ct_co11 : Cond.code yX11_init cX11_init 1 none ∈ am_wG := am_gw (p := 986) (by decide +kernel) rfl
theorem ct_ii11 : Cond.initialized yX11_init.cls ∈ am_wG := am_gw (p := 95) (by decide +kernel) rfl
theorem ct_lm11 : Cond.methodLink RL 12 yX11_init ∈ am_wG := am_gw (p := 984) (by decide +kernel) rfl
