section AER2
variable {scr : am_S} {d : Nat} {cc : ByteArray} {ci : Nat} {ret : Option FieldType} {Q : am_PT} {pc : Nat} {L : am_L} {st r : List Value} {M : am_M}
theorem ae_getI {idx k c j t p : Nat} {v : Int32} (hd : decode cc pc = .ok (.getfield idx, 3)) (hf : am_lk (am_flT ci) idx = some (c, j, p)) (ht : (am_ft c)[j]? = some t) (ht2 : t = 0 ∨ t = 3) (hk : k < 99) (hc : am_k k = c) (hc2 : c < 12) (hv : M.1 k j = v) (h : am_E scr (am_R d) cc ci ret Q (pc + 3, L, .int v :: r, M)) : am_E scr (am_R d) cc ci ret Q (pc, L, .ref k :: r, M) := ae_getfield hd hf ht hk hc hc2 (by rcases ht2 with rfl | rfl <;> exact congrArg Value.int hv) h
theorem ae_getJ {idx k c j p : Nat} (hd : decode cc pc = .ok (.getfield idx, 3)) (hf : am_lk (am_flT ci) idx = some (c, j, p)) (ht : (am_ft c)[j]? = some 1) (hk : k < 99) (hc : am_k k = c) (hc2 : c < 12) (h : am_E scr (am_R d) cc ci ret Q (pc + 3, L, .long (M.2 k j) :: r, M)) : am_E scr (am_R d) cc ci ret Q (pc, L, .ref k :: r, M) := ae_getfield hd hf ht hk hc hc2 rfl h
theorem ae_getR {idx k c j p q : Nat} (hd : decode cc pc = .ok (.getfield idx, 3)) (hf : am_lk (am_flT ci) idx = some (c, j, p)) (ht : (am_ft c)[j]? = some 2) (hk : k < 99) (hc : am_k k = c) (hc2 : c < 12) (hq : am_r k j = q) (h : am_E scr (am_R d) cc ci ret Q (pc + 3, L, .ref q :: r, M)) : am_E scr (am_R d) cc ci ret Q (pc, L, .ref k :: r, M) := ae_getfield hd hf ht hk hc hc2 (congrArg Value.ref hq) h
end AER2
theorem nI_mul (a b : Nat) : nI a * nI b = nI (a * b) := (Int32.ofNat_mul a b).symm
theorem nI_sub {a b : Nat} (h : b ≤ a) : nI a - nI b = nI (a - b) := by
  have e : nI (a - b) + nI b = nI a := by rw [nI_add, Nat.sub_add_cancel h]
  rw [← e]
  simp
theorem nI_ge0 {x : Int32} (h : 0 ≤ x) : x = nI x.toNatClampNeg := by
  have h1 : 0 ≤ x.toInt := by rwa [Int32.le_iff_toInt_le, Int32.toInt_zero] at h
  have h2 : x.toInt = ((x.toNatClampNeg : Nat) : Int) := (Int.toNat_of_nonneg h1).symm
  have h3 := Int32.toInt_lt x
  apply Int32.toInt_inj.mp
  rw [nI_toInt (by omega), ← h2]
