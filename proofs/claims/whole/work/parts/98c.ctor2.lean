/-! History's constructor: ten snapshots -/
theorem am_e_adr {cy : Nat → ClassId} {adr adr' : Nat → Nat} {M : am_M} {k : Nat} (h : ∀ j, adr (am_r k j) = adr' (am_r k j)) : am_e cy adr M k = am_e cy adr' M k := by
  unfold am_e
  split
  · rfl
  · rfl
  · rfl
  · have : (fun i => some (adr (am_r k i))) = (fun i => some (adr' (am_r k i))) := funext (fun i => by rw [h i])
    rw [this]
  · next c _ _ _ _ =>
    have : (fun j t => am_v adr (am_av M k j t)) = (fun j t => am_v adr' (am_av M k j t)) := by
      funext j t
      unfold am_av
      split
      · rfl
      · show Value.ref (adr (am_r k j)) = Value.ref (adr' (am_r k j))
        rw [h j]
      · rfl
    rw [this]
theorem ct_getD {P : Nat → Prop} {l : List Nat} (h : ∀ x ∈ l, P x) (h0 : P 0) (j : Nat) : P (l.getD j 0) := by
  rw [List.getD_eq_getElem?_getD]
  cases hj : l[j]? with
  | none => exact h0
  | some x => exact h x (List.mem_of_getElem? hj)
theorem ct_rlo : ∀ k, k < 99 → 49 ≤ k → ∀ x ∈ (am_shape.getD k (99, 0, [])).2.2, x ≤ 49 + 5 * ((k - 49) / 5) + 4 := by decide +kernel
theorem ct_rlt {k : Nat} (h : k < 99) (h2 : 49 ≤ k) (j : Nat) : am_r k j ≤ 49 + 5 * ((k - 49) / 5) + 4 := ct_getD (ct_rlo k h h2) (Nat.zero_le _) j
theorem ct_rhi : ∀ k, k < 99 → (k = 7 ∨ 49 ≤ k) → ∀ x ∈ (am_shape.getD k (99, 0, [])).2.2, x = 0 ∨ 49 ≤ x := by decide +kernel
theorem ct_rge {k : Nat} (h : k < 99) (h2 : k = 7 ∨ 49 ≤ k) (j : Nat) : am_r k j = 0 ∨ 49 ≤ am_r k j := ct_getD (P := fun x => x = 0 ∨ 49 ≤ x) (ct_rhi k h h2) (Or.inl rfl) j
def ct_SN (cy : Nat → ClassId) (a : Nat → Nat) (n : Nat) : va_W := (List.range n).map (fun j => (a (49 + j), am_e cy a am_M0 (49 + j)))
def ct_hf (a : Nat → Nat) (i : Nat) : Nat → Option Nat := fun k => if k < i then some (a (49 + 5 * k)) else none
def ct_sn (cy : Nat → ClassId) (q q1 q2 q3 q4 : Nat) : va_W := [(q, .inr (7, [.int 1, .int 1, .ref q1, .int 0, .ref q2, .ref q3, .int 0, .int 0, .ref q4])), (q1, .inl (cy 0, 256, .inl (fun _ => 0))), (q2, .inl (cy 0, 16, .inl (fun _ => 0))), (q3, .inl (cy 2, 16, .inl (fun _ => 0))), (q4, .inl (cy 0, 256, .inl (fun _ => 0)))]
theorem ct_sn5 (cy : Nat → ClassId) (a : Nat → Nat) {i : Nat} (h : i < 10) : [(a (49 + 5 * i), am_e cy a am_M0 (49 + 5 * i)), (a (49 + (5 * i + 1)), am_e cy a am_M0 (49 + (5 * i + 1))), (a (49 + (5 * i + 2)), am_e cy a am_M0 (49 + (5 * i + 2))), (a (49 + (5 * i + 3)), am_e cy a am_M0 (49 + (5 * i + 3))), (a (49 + (5 * i + 4)), am_e cy a am_M0 (49 + (5 * i + 4)))] = ct_sn cy (a (49 + 5 * i)) (a (49 + (5 * i + 1))) (a (49 + (5 * i + 2))) (a (49 + (5 * i + 3))) (a (49 + (5 * i + 4))) := by
  match i, h with
  | 0, _ => rw [e0_49, e0_50, e0_51, e0_52, e0_53]; rfl
  | 1, _ => rw [e0_54, e0_55, e0_56, e0_57, e0_58]; rfl
  | 2, _ => rw [e0_59, e0_60, e0_61, e0_62, e0_63]; rfl
  | 3, _ => rw [e0_64, e0_65, e0_66, e0_67, e0_68]; rfl
  | 4, _ => rw [e0_69, e0_70, e0_71, e0_72, e0_73]; rfl
  | 5, _ => rw [e0_74, e0_75, e0_76, e0_77, e0_78]; rfl
  | 6, _ => rw [e0_79, e0_80, e0_81, e0_82, e0_83]; rfl
  | 7, _ => rw [e0_84, e0_85, e0_86, e0_87, e0_88]; rfl
  | 8, _ => rw [e0_89, e0_90, e0_91, e0_92, e0_93]; rfl
  | 9, _ => rw [e0_94, e0_95, e0_96, e0_97, e0_98]; rfl
  | _ + 10, h => exact absurd h (by omega)
def ct_nx (a : Nat → Nat) (i q q1 q2 q3 q4 : Nat) : Nat → Nat := fun k => if k < 49 + 5 * i then a k else ([q, q1, q2, q3, q4] : List Nat).getD (k - (49 + 5 * i)) 0
theorem ct_nx_lt {a : Nat → Nat} {i q q1 q2 q3 q4 k : Nat} (h : k < 49 + 5 * i) : ct_nx a i q q1 q2 q3 q4 k = a k := if_pos h
theorem ct_nx_ge {a : Nat → Nat} {i q q1 q2 q3 q4 : Nat} (t : Nat) : ct_nx a i q q1 q2 q3 q4 (49 + (5 * i + t)) = ([q, q1, q2, q3, q4] : List Nat).getD t 0 := by
  unfold ct_nx
  rw [if_neg (by omega), show 49 + (5 * i + t) - (49 + 5 * i) = t by omega]
theorem ct_SNs (cy : Nat → ClassId) (a : Nat → Nat) {i : Nat} (h : i < 10) (q q1 q2 q3 q4 : Nat) : ct_SN cy (ct_nx a i q q1 q2 q3 q4) (5 * (i + 1)) = ct_SN cy a (5 * i) ++ ct_sn cy q q1 q2 q3 q4 := by
  have e : ct_SN cy (ct_nx a i q q1 q2 q3 q4) (5 * i) = ct_SN cy a (5 * i) := by
    unfold ct_SN
    refine List.map_congr_left (fun j hj => ?_)
    have hj := List.mem_range.mp hj
    rw [ct_nx_lt (by omega), am_e_adr (fun t => ct_nx_lt ?_)]
    have := ct_rlt (k := 49 + j) (by omega) (by omega) t
    omega
  rw [← e]
  have s5 := ct_sn5 cy (ct_nx a i q q1 q2 q3 q4) h
  have g0 := ct_nx_ge (a := a) (i := i) (q := q) (q1 := q1) (q2 := q2) (q3 := q3) (q4 := q4) 0
  have g1 := ct_nx_ge (a := a) (i := i) (q := q) (q1 := q1) (q2 := q2) (q3 := q3) (q4 := q4) 1
  have g2 := ct_nx_ge (a := a) (i := i) (q := q) (q1 := q1) (q2 := q2) (q3 := q3) (q4 := q4) 2
  have g3 := ct_nx_ge (a := a) (i := i) (q := q) (q1 := q1) (q2 := q2) (q3 := q3) (q4 := q4) 3
  have g4 := ct_nx_ge (a := a) (i := i) (q := q) (q1 := q1) (q2 := q2) (q3 := q3) (q4 := q4) 4
  have s6 : ct_sn cy q q1 q2 q3 q4 = ct_sn cy (ct_nx a i q q1 q2 q3 q4 (49 + 5 * i)) (ct_nx a i q q1 q2 q3 q4 (49 + (5 * i + 1))) (ct_nx a i q q1 q2 q3 q4 (49 + (5 * i + 2))) (ct_nx a i q q1 q2 q3 q4 (49 + (5 * i + 3))) (ct_nx a i q q1 q2 q3 q4 (49 + (5 * i + 4))) := by
    rw [show 49 + 5 * i = 49 + (5 * i + 0) from rfl, g0, g1, g2, g3, g4]
    rfl
  rw [s6, ← s5]
  unfold ct_SN
  rw [show 5 * (i + 1) = 5 * i + 1 + 1 + 1 + 1 + 1 by omega, List.range_succ, List.range_succ, List.range_succ, List.range_succ, List.range_succ]
  simp only [List.map_append, List.map_cons, List.map_nil, List.append_assoc, List.cons_append, List.nil_append]
theorem ct_cellq {cA : ClassId} {n : Nat} {f f' : Nat → Option Nat} (h : ∀ i, i < n → f i = f' i) : vp_cell cA (n, .inr (.inr (.inr (.inr f)))) = vp_cell cA (n, .inr (.inr (.inr (.inr f')))) := by
  rw [vp_cell_q, vp_cell_q]
  unfold arrV
  have : (fun j : Fin n => va_rf (f j.val)) = (fun j : Fin n => va_rf (f' j.val)) := funext (fun j => by rw [h j.val j.isLt])
  rw [this]
theorem ct_Dm {A : Nat → Prop} {ws ws' : va_W} (h : ws.map Prod.fst = ws'.map Prod.fst) (hD : va_D A ws) : va_D A ws' := by
  have at' : ∀ (k : Nat) (y : Nat × va_E), ws'[k]? = some y → ∃ x, ws[k]? = some x ∧ x.1 = y.1 := by
    intro k y hy
    have h1 : (ws.map Prod.fst)[k]? = some y.1 := by rw [h, List.getElem?_map, hy]; rfl
    rw [List.getElem?_map] at h1
    cases hx : ws[k]? with
    | none => rw [hx] at h1; cases h1
    | some x => rw [hx] at h1; exact ⟨x, rfl, Option.some.inj h1⟩
  refine ⟨fun i j x y hi hj e => ?_, fun k y hk => ?_⟩
  · obtain ⟨x', h1, h2⟩ := at' i x hi
    obtain ⟨y', h3, h4⟩ := at' j y hj
    exact hD.1 i j x' y' h1 h3 (by rw [h2, h4]; exact e)
  · obtain ⟨y', h1, h2⟩ := at' k y hk
    rw [← h2]
    exact hD.2 k y' h1
theorem ct_fq {D : va_G} {A : Nat → Prop} {x : Nat × va_E} {q n : Nat} {cA : ClassId} {f f' : Nat → Option Nat} {r : va_W} {H : Heap} (hP : va_P D vwCl (x :: (q, .inl (cA, n, .inr (.inr (.inr (.inr f))))) :: r) H) (hD : va_D A (x :: (q, .inl (cA, n, .inr (.inr (.inr (.inr f))))) :: r)) (h : ∀ i, i < n → f i = f' i) : va_P D vwCl (x :: (q, .inl (cA, n, .inr (.inr (.inr (.inr f'))))) :: r) H ∧ va_D A (x :: (q, .inl (cA, n, .inr (.inr (.inr (.inr f'))))) :: r) := by
  refine ⟨ct_Pp.mpr (fun y hy => ?_), ct_Dm (by simp only [List.map_cons]) hD⟩
  have hp := ct_Pp.mp hP
  rcases List.mem_cons.mp hy with rfl | hy
  · exact hp _ List.mem_cons_self
  · rcases List.mem_cons.mp hy with rfl | hy
    · have h1 := hp _ (List.mem_cons_of_mem _ List.mem_cons_self)
      show H[q]? = some (vp_cell _ _)
      rw [← ct_cellq h]
      exact h1
    · exact hp _ (List.mem_cons_of_mem _ (List.mem_cons_of_mem _ hy))
theorem ct_n40 : Cond.methodLinkNest RX2 22 yX7_init "PaletteBuilder" ∈ am_nest := am_nest_in (p := 182) (by decide +kernel)
theorem ct_im7 : Cond.instanceMethod yX7_init ∈ am_wG := am_gw (p := 109) (by decide +kernel) rfl
theorem ct_co7 : Cond.code yX7_init cX7_init 1 none ∈ am_wG := am_gw (p := 110) (by decide +kernel) rfl
theorem ct_ii7 : Cond.initialized yX7_init.cls ∈ am_wG := am_gw (p := 85) (by decide +kernel) rfl
set_option maxHeartbeats 4000000 in
set_option maxRecDepth 100000 in
theorem ct_X2 (l : Launch) (D : va_G) (cy : Nat → ClassId) (h0 a0 : Nat) : ct_Met l D cy yX2_init cX2_init 2 ({ frames := 2, cells := 51, slots := 5540, locals := 32 }) h0 [] (.inr (2, [.null, .int 0, .int 0])) 51 5540 (fun w => ∃ (qs : Nat) (a : Nat → Nat), a 0 = a0 ∧ w = (h0, .inr (2, [.ref qs, .int 0, .int 0])) :: (qs, .inl (cy 3, 10, .inr (.inr (.inr (.inr (fun i => some (a (am_r 7 i)))))))) :: ct_SN cy a 50) := by
  intro sz
  refine Met.ofW (cc := cX2_init) (maxL := 2) (ret := none) (by decide) rfl ?_
  intro p e s m args below meth c s₁ B hml hv
  obtain ⟨rfl, hsz, hat, hK⟩ := hv
  have hx := B.exec
  have hb := B.bytes
  have hr := B.returns
  have hts := atoms_spec (ws := Cond.code yX2_init cX2_init 2 none :: am_wG) B.pre
  have hown : s.vm.findClass RX2 = some m.cls := findClass_of_methodNamed B.named
  have hin : meth.name = "<init>" := (name_of_methodNamed B.named B.method).1
  have hG : ∀ w ∈ am_wG, w ∈ Cond.code yX2_init cX2_init 2 none :: am_wG := fun w hw => List.mem_cons_of_mem _ hw
  have hA : ct_At p s m _ c cX2_init 2 D cy (Cond.code yX2_init cX2_init 2 none :: am_wG) RX2 := ⟨hx, hb, hml, hown, hts, hG, hK⟩
  subst hsz
  have hq : ∀ q, s.heap.size ≤ q → ct_A h0 s.heap.size q := fun q h => Or.inr h
  have hS : va_S (ct_A h0 s.heap.size) s.heap s.heap [] := va_S.rf
  obtain ⟨hP, hD⟩ := ct_one (sz := s.heap.size) hat
  have hl := lv_entry ([.ref h0]) (n := 2) (Nat.le_of_ble_eq_true rfl)
  rw [lg_entry_eq]
  generalize (lg_sl ([.ref h0]) ++ List.replicate (2 - (lg_sl ([.ref h0])).length) Slot.unset).toArray = ls at hl ⊢
  have hl : lv_has ls 2 [(0, .ref h0)] := hl
  refine lv_aload_n hx hb dX2_init_0 rfl (lv_at hl 0 rfl) ?_
  refine ct_obj hA 179 (by decide +kernel) hl.1 dX2_init_1 (Nat.le_of_ble_eq_true rfl) (Nat.le_of_ble_eq_true rfl) ?_
  refine lv_aload_n hx hb dX2_init_4 rfl (lv_at hl 0 rfl) ?_
  refine lv_bipush (v := 10) hx hb dX2_init_5 (by decide) ?_
  refine va_newq (C := "PaletteBuilder$Snapshot") (N' := 10) hx hb hown (hts _ (hG _ (am_gw (p := 180) (by decide +kernel) rfl))) hK.2.2 hK.1 hP hD hS hq (by decide) (by decide) (Nat.le_of_ble_eq_true rfl) (Nat.le_of_ble_eq_true rfl) (Nat.le_of_ble_eq_true rfl) dX2_init_7 (fun qs cA H hK1 hP hD hS => ?_)
  have ec : cA = cy 3 := by
    obtain ⟨_, _, _, _, _, h4⟩ := (hK1.2 4 (cA, .object "PaletteBuilder$Snapshot") rfl).2
    obtain ⟨_, _, _, _, _, h4'⟩ := (hK.1.2 3 (cy 3, .object "PaletteBuilder$Snapshot") rfl).2
    exact Option.some.inj (h4.symm.trans h4')
  subst ec
  have hP : va_P D vwCl [(h0, .inr (2, [.null, .int 0, .int 0])), (qs, .inl (cy 3, 10, .inr (.inr (.inr (.inr (fun _ => none))))))] H := hP
  have hD : va_D (ct_A h0 s.heap.size) [(h0, .inr (2, [.null, .int 0, .int 0])), (qs, .inl (cy 3, 10, .inr (.inr (.inr (.inr (fun _ => none))))))] := hD
  refine ct_putF hA tyX2 rfl ct_in2 tyX2_ok nmX2 hP hD hS 0 (by decide) 183 (by decide +kernel) rfl hin rfl (v := .ref qs) rfl rfl (Nat.le_of_ble_eq_true rfl) dX2_init_10 (fun H locs hP hD hS => ?_)
  refine lv_aload_n hx hb dX2_init_13 rfl (lv_at hl 0 rfl) ?_
  refine lv_iconst (v := 0) hx hb dX2_init_14 (by decide) ?_
  refine ct_put hA tyX2 rfl ct_in2 tyX2_ok nmX2 hP hD hS 1 (by decide) 184 (by decide +kernel) rfl rfl (v := .int 0) (by decide) rfl (Nat.le_of_ble_eq_true rfl) dX2_init_15 (fun H locs hP hD hS => ?_)
  refine lv_aload_n hx hb dX2_init_18 rfl (lv_at hl 0 rfl) ?_
  refine lv_iconst (v := 0) hx hb dX2_init_19 (by decide) ?_
  refine ct_put hA tyX2 rfl ct_in2 tyX2_ok nmX2 hP hD hS 2 (by decide) 185 (by decide +kernel) rfl rfl (v := .int 0) (by decide) rfl (Nat.le_of_ble_eq_true rfl) dX2_init_20 (fun H locs hP hD hS => ?_)
  refine lv_iconst (v := 0) hx hb dX2_init_23 (by decide) ?_
  refine lv_istore_n (lv' := [(1, .int 0), (0, .ref h0)]) hx hb dX2_init_24 rfl hl (by decide) rfl (fun ls hl => ?_)
  have loop : ∀ (n i : Nat), i + n = 10 → ∀ (a : Nat → Nat), a 0 = a0 → ∀ (H : Heap) (locs : List Loc) (ls : Array Slot), va_P D vwCl ((h0, .inr (2, [.ref qs, .int 0, .int 0])) :: (qs, .inl (cy 3, 10, .inr (.inr (.inr (.inr (ct_hf a i)))))) :: ct_SN cy a (5 * i)) H → va_D (ct_A h0 s.heap.size) ((h0, .inr (2, [.ref qs, .int 0, .int 0])) :: (qs, .inl (cy 3, 10, .inr (.inr (.inr (.inr (ct_hf a i)))))) :: ct_SN cy a (5 * i)) → va_S (ct_A h0 s.heap.size) s.heap H locs → lv_has ls 2 [(1, .int (nI i)), (0, .ref h0)] → W p l e ({ frames := 2, cells := 51, slots := 5540, locals := 32 }) s m (Value.ref h0 :: []).toArray below meth c H locs (1 + 5 * i) (10 + 553 * i) (MQ below (va_Qv (fun w => ∃ (qs : Nat) (a : Nat → Nat), a 0 = a0 ∧ w = (h0, .inr (2, [.ref qs, .int 0, .int 0])) :: (qs, .inl (cy 3, 10, .inr (.inr (.inr (.inr (fun i => some (a (am_r 7 i)))))))) :: ct_SN cy a 50) (fun w t => va_P D vwCl w t.heap ∧ va_D (ct_A h0 s.heap.size) w) (ct_A h0 s.heap.size)) (Value.ref h0 :: []).toArray s 51 5540 (ct_A h0 s.heap.size)) (F0 m 25 ls []) := by
    intro n
    induction n with
    | zero =>
      intro i hi a ha H locs ls hP hD hS hl
      have : i = 10 := by omega
      subst this
      refine lv_iload_n hx hb dX2_init_25 rfl (lv_at hl 0 rfl) ?_
      refine lv_bipush (v := 10) hx hb dX2_init_26 (by decide) ?_
      refine lv_icmp_ge (tgt := 50) hx hb dX2_init_28 (by decide) (fun cc => ?_) (fun cc => absurd (by decide) cc)
      obtain ⟨hP, hD⟩ := ct_fq (f' := fun i => some (a (am_r 7 i))) hP hD (fun i hi => by
        show (if i < 10 then some (a (49 + 5 * i)) else none) = some (a (am_r 7 i))
        rw [if_pos hi, show am_r 7 i = 49 + 5 * i from by
          match i, hi with
          | 0, _ => rfl
          | 1, _ => rfl
          | 2, _ => rfl
          | 3, _ => rfl
          | 4, _ => rfl
          | 5, _ => rfl
          | 6, _ => rfl
          | 7, _ => rfl
          | 8, _ => rfl
          | 9, _ => rfl
          | _ + 10, h => exact absurd h (by omega)])
      exact W.vret hx hb hr (fun t ht hW => ⟨⟨_, rfl, ⟨qs, a, ha, rfl⟩, by rw [ht]; exact hP, hD⟩, hS.F ht⟩) hS.2.2 dX2_init_50
    | succ n ih =>
      intro i hi a ha H locs ls hP hD hS hl
      refine lv_iload_n hx hb dX2_init_25 rfl (lv_at hl 0 rfl) ?_
      refine lv_bipush (v := 10) hx hb dX2_init_26 (by decide) ?_
      refine lv_icmp_ge (tgt := 50) hx hb dX2_init_28 (by decide) (fun cc => absurd (show nI 10 ≤ nI i from cc) (nI_ge (by omega) (by decide))) (fun cc => ?_)
      refine lv_aload_n hx hb dX2_init_31 rfl (lv_at hl 1 rfl) ?_
      refine va_get hx hb hts (fun w hw => hG w (ct_in2 w hw)) hown hK.1 hP 0 rfl rfl 0 (by decide) (hts _ (hG _ (am_gw (p := 183) (by decide +kernel) rfl))) (fun _ h9 => h9) (v := .ref qs) rfl dX2_init_32 ?_
      refine lv_iload_n hx hb dX2_init_35 rfl (lv_at hl 0 rfl) ?_
      refine ct_new (ci := 7) hA tyX7 rfl ct_in7 tyX7_ok 180 107 85 (by decide +kernel) (by decide +kernel) (by decide +kernel) hP hD hS hq [.int 0, .int 0, .null, .int 0, .null, .null, .int 0, .int 0, .null] (by decide) (by show 1 + 5 * i + 1 ≤ 51; omega) (by show 10 + 553 * i + 9 ≤ 5540; omega) dX2_init_36 (fun q H hP hD hS => ?_)
      refine lv_dup hx hb dX2_init_39 rfl ?_
      refine ct_call (ct_runN (As := []) (rest := [.ref q, .int (nI i), .ref qs]) hA (ct_X7 l D cy q) rfl rfl ct_co7 ct_ii7 ct_n40 ct_im7 rfl (n := 0) (by decide +kernel) ⟨Nat.le_of_ble_eq_true rfl, Nat.le_of_ble_eq_true rfl⟩ (hP 0 _ rfl) rfl hl.1 (Nat.le_of_ble_eq_true rfl) dX2_init_40 ⟨by show 1 + 5 * i + 1 + 4 ≤ 51; omega, by show 10 + 553 * i + 9 + 544 ≤ 5540; omega⟩) hP hD hS hq (fun w H locs hB hP hD hS => ?_)
      obtain ⟨q1, q2, q3, q4, rfl⟩ := hB
      have hp : List.Perm (((h0, .inr (2, [.ref qs, .int 0, .int 0])) :: (qs, .inl (cy 3, 10, .inr (.inr (.inr (.inr (ct_hf a i)))))) :: ct_SN cy a (5 * i)) ++ ct_sn cy q q1 q2 q3 q4) ((h0, .inr (2, [.ref qs, .int 0, .int 0])) :: (qs, .inl (cy 3, 10, .inr (.inr (.inr (.inr (ct_hf a i)))))) :: (ct_sn cy q q1 q2 q3 q4 ++ ct_SN cy a (5 * i))) := List.Perm.cons _ (List.Perm.cons _ List.perm_append_comm)
      have hP := ct_permP hp hP
      have hD := ct_permD hp hD
      refine va_astq hx hb hK.1 hP hD hS 1 3 2 7 (r := (RX7, TX7, 9)) rfl rfl rfl rfl (nI_in (by omega) (by decide)) dX2_init_43 (fun H locs hP hD hS => ?_)
      rw [nI_clamp (show i < 2 ^ 31 by omega)] at hP hD
      have eu : va_up (ct_hf a i) i (some q) = ct_hf (ct_nx a i q q1 q2 q3 q4) (i + 1) := by
        funext k
        unfold ct_hf
        by_cases hk : k = i
        · subst hk
          rw [va_up_self, if_pos (by omega)]
          exact congrArg some (ct_nx_ge (a := a) (i := k) (q := q) (q1 := q1) (q2 := q2) (q3 := q3) (q4 := q4) 0).symm
        · rw [va_up_ne _ _ hk]
          by_cases hk2 : k < i
          · rw [if_pos hk2, if_pos (by omega), ct_nx_lt (by omega)]
          · rw [if_neg hk2, if_neg (by omega)]
      have hp2 : List.Perm ((h0, .inr (2, [.ref qs, .int 0, .int 0])) :: (qs, .inl (cy 3, 10, .inr (.inr (.inr (.inr (va_up (ct_hf a i) i (some q))))))) :: (ct_sn cy q q1 q2 q3 q4 ++ ct_SN cy a (5 * i))) ((h0, .inr (2, [.ref qs, .int 0, .int 0])) :: (qs, .inl (cy 3, 10, .inr (.inr (.inr (.inr (ct_hf (ct_nx a i q q1 q2 q3 q4) (i + 1))))))) :: ct_SN cy (ct_nx a i q q1 q2 q3 q4) (5 * (i + 1))) := by
        rw [eu, ct_SNs cy a (by omega)]
        exact List.Perm.cons _ (List.Perm.cons _ List.perm_append_comm)
      have hP := ct_permP hp2 hP
      have hD := ct_permD hp2 hD
      refine lv_iinc (v := nI (i + 1)) (lv' := [(1, .int (nI (i + 1))), (0, .ref h0)]) hx hb dX2_init_44 hl (k := 0) rfl (by rw [← nI_1]; rfl) (by decide) rfl (fun ls hl => ?_)
      refine lv_goto (tgt := 25) hx hb dX2_init_47 (by decide) ?_
      refine W.widen (k := 1 + 5 * (i + 1)) (n := 10 + 553 * (i + 1)) (by omega) (by omega) ?_
      exact ih (i + 1) (by omega) (ct_nx a i q q1 q2 q3 q4) (by rw [ct_nx_lt (by omega)]; exact ha) H locs ls hP hD hS hl
  exact loop 10 0 rfl (fun _ => a0) rfl H locs ls hP hD hS hl
