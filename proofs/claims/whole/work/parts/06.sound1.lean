/-! SOUNDNESS OF THE ABSTRACT MACHINE, first half: the world, the locals, the tables -/
theorem am_lk_mem {α : Type} {l : List (Nat × α)} {i : Nat} {a : α} (h : am_lk l i = some a) : (i, a) ∈ l := by
  induction l with
  | nil => simp [am_lk] at h
  | cons q t ih =>
    unfold am_lk at h
    split at h
    · next hq => cases h; subst hq; exact List.mem_cons_self
    · exact List.mem_cons_of_mem _ (ih h)
theorem am_gw {w : Cond} {p : Nat} (h : lw_tbl[p]? = some w) (hg : goodWord w = true) : w ∈ am_wG := List.mem_filter.mpr ⟨List.mem_of_getElem? h, hg⟩
def am_nest : List Cond := lw_tbl.filter (fun w => match w with
  | .methodLinkNest _ _ _ _ => true
  | _ => false)
theorem am_nest_of {w : Cond} (h : w ∈ am_nest) : ∃ a i x b, w = .methodLinkNest a i x b := by
  have h2 := (List.mem_filter.mp h).2
  cases w <;> first | exact ⟨_, _, _, _, rfl⟩ | exact absurd (show false = true from h2) (by decide)
theorem am_nest_in {a : String} {i : Nat} {x : MethodName} {b : String} {p : Nat} (h : lw_tbl[p]? = some (.methodLinkNest a i x b)) : Cond.methodLinkNest a i x b ∈ am_nest := List.mem_filter.mpr ⟨List.mem_of_getElem? h, rfl⟩
theorem am_mfact {z : Nat} {y : MethodName} {cc : ByteArray} {mL c np p0 p1 p2 p3 : Nat} {rt : Option FieldType} {st : Bool} (h : am_ms[z]? = some (y, cc, mL, rt, c, st, np, p0, p1, p2, p3)) :
    Cond.code y cc mL rt ∈ am_wG ∧ Cond.initialized y.cls ∈ am_wG ∧ (st = true → Cond.static y ∈ am_wG) ∧ (st = false → Cond.instanceMethod y ∈ am_wG ∧ Cond.selects y.cls y y ∈ am_wG) ∧ mL ≤ 19 ∧ plainFor y = true ∧ y.cls = am_cn c ∧ (y.cls ≠ "java/lang/invoke/MethodHandle" ∧ y.cls ≠ "java/lang/invoke/VarHandle") ∧ (parseMethodDescriptor y.desc).map (fun d => d.parameters.length) = some np := by
  have h1 := List.all_eq_true.mp am_ms_ok _ (List.mem_of_getElem? h)
  simp only [am_mokB, Bool.and_eq_true, decide_eq_true_eq] at h1
  obtain ⟨⟨⟨⟨⟨⟨⟨h1, h2⟩, h3⟩, h4⟩, h5⟩, h6⟩, h7⟩, h8⟩ := h1
  refine ⟨am_gw h1 (by first | rfl | simp [goodWord, Cond.onTables, Cond.keeps, Cond.steady]), am_gw h2 (by first | rfl | simp [goodWord, Cond.onTables, Cond.keeps, Cond.steady]), fun e => ?_, fun e => ?_, h4, h5, h6, h7, h8⟩
  · subst e
    simp only [if_true, decide_eq_true_eq] at h3
    exact am_gw h3 (by first | rfl | simp [goodWord, Cond.onTables, Cond.keeps, Cond.steady])
  · subst e
    simp only [Bool.false_eq_true, if_false, Bool.and_eq_true, decide_eq_true_eq] at h3
    exact ⟨am_gw h3.1 (by first | rfl | simp [goodWord, Cond.onTables, Cond.keeps, Cond.steady]), am_gw h3.2 (by first | rfl | simp [goodWord, Cond.onTables, Cond.keeps, Cond.steady])⟩
theorem am_mlfact {ci idx z p : Nat} {nest : Bool} (h : am_lk (am_mlT ci) idx = some (z, nest, p)) : lw_tbl[p]? = some (if nest = true then Cond.methodLinkNest (am_cn ci) idx (am_y z) am_host else Cond.methodLink (am_cn ci) idx (am_y z)) := by
  have h1 := List.all_eq_true.mp (am_mlT_ok ci) _ (am_lk_mem h)
  simpa only [am_mlok, decide_eq_true_eq] using h1
theorem am_flfact {ci idx c j p : Nat} (h : am_lk (am_flT ci) idx = some (c, j, p)) : Cond.fieldLink (am_cn ci) idx (am_cn c) (am_T c j).2.1 (am_T c j).2.2.1 ∈ am_wG := by
  have h1 := List.all_eq_true.mp (am_flT_ok ci) _ (am_lk_mem h)
  simp only [am_flok, decide_eq_true_eq] at h1
  exact am_gw h1 (by first | rfl | simp [goodWord, Cond.onTables, Cond.keeps, Cond.steady])
theorem am_ktfact {ci idx p : Nat} {v : Value} (h : am_lk (am_ktT ci) idx = some (v, p)) : ∃ w, am_kw ci idx v = some w ∧ w ∈ am_wG := by
  have h1 := List.all_eq_true.mp (am_ktT_ok ci) _ (am_lk_mem h)
  simp only [am_ktok, Bool.and_eq_true, decide_eq_true_eq] at h1
  obtain ⟨h1, -, h2⟩ := h1
  cases v with
  | int x => exact ⟨_, rfl, am_gw (h1.symm.trans rfl) (by first | rfl | simp [goodWord, Cond.onTables, Cond.keeps, Cond.steady])⟩
  | long x => exact ⟨_, rfl, am_gw (h1.symm.trans rfl) (by first | rfl | simp [goodWord, Cond.onTables, Cond.keeps, Cond.steady])⟩
  | float x => exact ⟨_, rfl, am_gw (h1.symm.trans rfl) (by first | rfl | simp [goodWord, Cond.onTables, Cond.keeps, Cond.steady])⟩
  | double x => exact absurd rfl h2
  | null => exact absurd rfl h2
  | ref x => exact absurd rfl h2
  | retAddr x => exact absurd rfl h2
/-! the world -/
theorem am_W_get {cy : Nat → ClassId} {adr : Nat → Nat} {M : am_M} {k : Nat} (h : k < 99) : (am_W cy adr M)[k]? = some (adr k, am_e cy adr M k) := by
  simp [am_W, h]
theorem am_W_some {cy : Nat → ClassId} {adr : Nat → Nat} {M : am_M} {k : Nat} {q : Nat × va_E} (h : (am_W cy adr M)[k]? = some q) : k < 99 ∧ q = (adr k, am_e cy adr M k) := by
  have hk : k < 99 := by
    have := (List.getElem?_eq_some_iff.mp h).1
    simpa [am_W] using this
  rw [am_W_get hk] at h
  exact ⟨hk, (Option.some.inj h).symm⟩
theorem am_W_set {cy : Nat → ClassId} {adr : Nat → Nat} {M M' : am_M} {k : Nat} {x : va_E} (hx : am_e cy adr M' k = x) (h : ∀ j, j ≠ k → am_e cy adr M' j = am_e cy adr M j) : (am_W cy adr M).set k (adr k, x) = am_W cy adr M' := by
  apply List.ext_getElem?
  intro j
  by_cases hj : j = k
  · subst hj
    by_cases hl : j < 99
    · rw [List.getElem?_set_self (by simpa [am_W] using hl), am_W_get hl, hx]
    · rw [List.getElem?_eq_none (by simpa [am_W] using hl), List.getElem?_eq_none (by simpa [am_W] using hl)]
  · rw [List.getElem?_set_ne (Ne.symm hj)]
    by_cases hl : j < 99
    · rw [am_W_get hl, am_W_get hl, h j hj]
    · rw [List.getElem?_eq_none (by simpa [am_W] using hl), List.getElem?_eq_none (by simpa [am_W] using hl)]
theorem am_e_congr {cy : Nat → ClassId} {adr : Nat → Nat} {M M' : am_M} {k : Nat} (h1 : M.1 k = M'.1 k) (h2 : M.2 k = M'.2 k) : am_e cy adr M k = am_e cy adr M' k := by
  unfold am_e am_av
  simp only [h1, h2]
theorem am_u_self {α : Type} (f : Nat → Nat → α) (k : Nat) (g : Nat → α) : am_u f k g k = g := by simp [am_u]
theorem am_u_ne {α : Type} (f : Nat → Nat → α) {k j : Nat} (g : Nat → α) (h : j ≠ k) : am_u f k g j = f j := by simp [am_u, h]
theorem am_e_12 {cy : Nat → ClassId} {adr : Nat → Nat} {M : am_M} {k : Nat} (h : am_k k = 12) : am_e cy adr M k = .inl (cy 0, am_n k, .inl (M.1 k)) := by unfold am_e; rw [h]; rfl
theorem am_e_13 {cy : Nat → ClassId} {adr : Nat → Nat} {M : am_M} {k : Nat} (h : am_k k = 13) : am_e cy adr M k = .inl (cy 1, am_n k, .inr (.inl (M.2 k))) := by unfold am_e; rw [h]; rfl
theorem am_e_14 {cy : Nat → ClassId} {adr : Nat → Nat} {M : am_M} {k : Nat} (h : am_k k = 14) : am_e cy adr M k = .inl (cy 2, am_n k, .inl (M.1 k)) := by unfold am_e; rw [h]; rfl
theorem am_e_15 {cy : Nat → ClassId} {adr : Nat → Nat} {M : am_M} {k : Nat} (h : am_k k = 15) : am_e cy adr M k = .inl (cy 3, am_n k, .inr (.inr (.inr (.inr (fun i => some (adr (am_r k i))))))) := by unfold am_e; rw [h]; rfl
theorem am_e_ob {cy : Nat → ClassId} {adr : Nat → Nat} {M : am_M} {k c : Nat} (h : am_k k = c) (hc : c < 12) : am_e cy adr M k = .inr (c, (am_ft c).mapIdx (fun j t => am_v adr (am_av M k j t))) := by
  unfold am_e
  rw [h]
  split
  · omega
  · omega
  · omega
  · omega
  · rfl
theorem am_inj {adr : Nat → Nat} {cy : Nat → ClassId} {M : am_M} (h : ∀ i j, i < 99 → j < 99 → adr i = adr j → i = j) : va_D (am_A adr) (am_W cy adr M) := by
  refine ⟨fun i j x y hi hj hxy => ?_, fun k q hk => ?_⟩
  · obtain ⟨a1, rfl⟩ := am_W_some hi
    obtain ⟨a2, rfl⟩ := am_W_some hj
    exact h i j a1 a2 hxy
  · obtain ⟨a1, rfl⟩ := am_W_some hk
    exact ⟨k, a1, rfl⟩
theorem am_v_cat (adr : Nat → Nat) (v : Value) : (am_v adr v).category = v.category := by cases v <;> rfl
theorem am_v_sum (adr : Nat → Nat) (r : List Value) : ((r.map (am_v adr)).map fun v => v.category).sum = (r.map fun v => v.category).sum := by
  rw [List.map_map]
  congr 1
  exact List.map_congr_left (fun v _ => am_v_cat adr v)
/-! the locals -/
def am_LL (adr : Nat → Nat) (ls : Array Slot) (nL : Nat) (L : am_L) : Prop := ls.size = nL ∧ L.length = nL ∧ lv_wf ls ∧ ∀ (i : Nat) (v : Value), L[i]? = some (some v) → ls[i]? = some (.val (am_v adr v))
def am_lv (adr : Nat → Nat) (L : am_L) : List (Nat × Value) := (List.range L.length).filterMap (fun i => match L[i]? with
  | some (some v) => some (i, am_v adr v)
  | _ => none)
theorem am_lv_mem {adr : Nat → Nat} {L : am_L} {q : Nat × Value} : q ∈ am_lv adr L ↔ ∃ v, L[q.1]? = some (some v) ∧ q.2 = am_v adr v := by
  unfold am_lv
  rw [List.mem_filterMap]
  constructor
  · rintro ⟨i, -, h⟩
    split at h
    · next v hv => cases h; exact ⟨v, hv, rfl⟩
    · cases h
  · rintro ⟨v, h1, h2⟩
    refine ⟨q.1, List.mem_range.mpr (List.getElem?_eq_some_iff.mp h1).1, ?_⟩
    rw [h1]
    show some (q.1, am_v adr v) = some q
    rw [← h2]
theorem am_LL.has {adr : Nat → Nat} {ls : Array Slot} {nL : Nat} {L : am_L} (h : am_LL adr ls nL L) : lv_has ls nL (am_lv adr L) := by
  refine ⟨h.1, h.2.2.1, fun q hq => ?_⟩
  obtain ⟨v, h1, h2⟩ := am_lv_mem.mp hq
  rw [h2]
  exact h.2.2.2 _ _ h1
theorem am_kill_len (L : am_L) (i : Nat) : (am_kill L i).length = L.length := by
  unfold am_kill
  split
  · rfl
  · split
    · split
      · simp
      · rfl
    · rfl
theorem am_kill_get {L : am_L} {i j : Nat} {v : Value} (h : (am_kill L i)[j]? = some (some v)) : L[j]? = some (some v) ∧ (j + 1 = i → v.category ≠ 2) := by
  unfold am_kill at h
  split at h
  · exact ⟨h, fun q => by omega⟩
  · next j0 =>
    split at h
    · next w hw =>
      split at h
      · next hc =>
        by_cases hj : j = j0
        · subst hj
          rw [List.getElem?_set_self (List.getElem?_eq_some_iff.mp hw).1] at h
          cases h
        · rw [List.getElem?_set_ne (Ne.symm hj)] at h
          exact ⟨h, fun q => by omega⟩
      · next hc =>
        refine ⟨h, fun q => ?_⟩
        have : j = j0 := by omega
        subst this
        rw [hw] at h
        cases h
        exact hc
    · next hne =>
      refine ⟨h, fun q => ?_⟩
      have : j = j0 := by omega
      subst this
      exact absurd h (hne v)
theorem am_LL.s1 {adr : Nat → Nat} {nL i : Nat} {L : am_L} {v : Value} {ls' : Array Slot} (hL : L.length = nL) (h : lv_has ls' nL ((i, am_v adr v) :: (am_lv adr L).filter (fun q => !(q.1 == i) && !(q.1 + 1 == i && q.2.category == 2)))) : am_LL adr ls' nL (am_s1 L i v) := by
  refine ⟨h.1, by unfold am_s1; rw [List.length_set, am_kill_len, hL], h.2.1, fun j w hj => ?_⟩
  unfold am_s1 at hj
  by_cases hji : j = i
  · subst hji
    have hl := (List.getElem?_eq_some_iff.mp hj).1
    rw [List.length_set] at hl
    rw [List.getElem?_set_self hl] at hj
    cases hj
    exact h.2.2 (j, am_v adr v) List.mem_cons_self
  · rw [List.getElem?_set_ne (Ne.symm hji)] at hj
    obtain ⟨h1, h2⟩ := am_kill_get hj
    refine h.2.2 (j, am_v adr w) (List.mem_cons_of_mem _ (List.mem_filter.mpr ⟨am_lv_mem.mpr ⟨w, h1, rfl⟩, ?_⟩))
    simp only [Bool.and_eq_true, Bool.not_eq_true', beq_eq_false_iff_ne, ne_eq, Bool.and_eq_false_iff]
    refine ⟨hji, ?_⟩
    by_cases hq : j + 1 = i
    · exact Or.inr (by rw [am_v_cat]; exact h2 hq)
    · exact Or.inl hq
theorem am_LL.s2 {adr : Nat → Nat} {nL i : Nat} {L : am_L} {v : Value} {ls' : Array Slot} (hL : L.length = nL) (h : lv_has ls' nL ((i, am_v adr v) :: (am_lv adr L).filter (fun q => !(q.1 == i) && (!(q.1 == i + 1) && !(q.1 + 1 == i && q.2.category == 2))))) : am_LL adr ls' nL (am_s2 L i v) := by
  refine ⟨h.1, by unfold am_s2; rw [List.length_set, List.length_set, am_kill_len, hL], h.2.1, fun j w hj => ?_⟩
  unfold am_s2 at hj
  by_cases hj1 : j = i + 1
  · subst hj1
    have hl := (List.getElem?_eq_some_iff.mp hj).1
    rw [List.length_set] at hl
    rw [List.getElem?_set_self hl] at hj
    cases hj
  · rw [List.getElem?_set_ne (Ne.symm hj1)] at hj
    by_cases hji : j = i
    · subst hji
      have hl := (List.getElem?_eq_some_iff.mp hj).1
      rw [List.length_set] at hl
      rw [List.getElem?_set_self hl] at hj
      cases hj
      exact h.2.2 (j, am_v adr v) List.mem_cons_self
    · rw [List.getElem?_set_ne (Ne.symm hji)] at hj
      obtain ⟨h1, h2⟩ := am_kill_get hj
      refine h.2.2 (j, am_v adr w) (List.mem_cons_of_mem _ (List.mem_filter.mpr ⟨am_lv_mem.mpr ⟨w, h1, rfl⟩, ?_⟩))
      simp only [Bool.and_eq_true, Bool.not_eq_true', beq_eq_false_iff_ne, ne_eq, Bool.and_eq_false_iff]
      refine ⟨hji, hj1, ?_⟩
      by_cases hq : j + 1 = i
      · exact Or.inr (by rw [am_v_cat]; exact h2 hq)
      · exact Or.inl hq
theorem am_LL.entry {adr : Nat → Nat} {a : List Value} {n : Nat} (h : (am_sl a).length ≤ n) : am_LL adr ((lg_sl (a.map (am_v adr)) ++ List.replicate (n - (lg_sl (a.map (am_v adr))).length) Slot.unset).toArray) n (am_entry a n) := by
  have e1 : lg_sl (a.map (am_v adr)) = (am_sl a).map (fun o => match o with
      | some v => Slot.val (am_v adr v)
      | none => Slot.second) := by
    unfold lg_sl am_sl
    induction a with
    | nil => rfl
    | cons v t ih =>
      have ih' := ih (by
        have : (am_sl (v :: t)).length = (if v.category = 2 then [some v, none] else [some v]).length + (am_sl t).length := by simp [am_sl, List.flatMap_cons]
        omega)
      simp only [List.map_cons, List.flatMap_cons, List.map_append]
      rw [ih', am_v_cat]
      congr 1
      split <;> rfl
  have e2 : (lg_sl (a.map (am_v adr))).length = (am_sl a).length := by rw [e1, List.length_map]
  have h1 := lv_entry (a.map (am_v adr)) (n := n) (by rw [e2]; exact h)
  refine ⟨h1.1, by unfold am_entry; simp; omega, h1.2.1, fun i v hi => ?_⟩
  unfold am_entry at hi
  by_cases hl : i < (am_sl a).length
  · rw [List.getElem?_append_left hl] at hi
    simp only [List.getElem?_toArray]
    rw [List.getElem?_append_left (by rw [e2]; exact hl), e1, List.getElem?_map, hi]
    rfl
  · rw [List.getElem?_append_right (by omega), List.getElem?_replicate] at hi
    split at hi <;> cases hi
