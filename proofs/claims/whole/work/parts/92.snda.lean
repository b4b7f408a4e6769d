/-! THE WORLD of a pure state: place k stands at base + k -/
def zs_mv (ad : Nat → Nat) (v : Value) : Value := match v with
  | .ref k => .ref (ad k)
  | v => v
def zs_fv (ad : Nat → Nat) (ci k : Nat) (M : zk_M) (j : Nat) : Value := bif zk_fk ci j then va_rf ((M.2.2 k j).map ad) else .int (M.2.1 k j)
abbrev zs_Y : Type := ClassId × ClassId × ClassId × ClassId
def zs_ct (ad : Nat → Nat) (Y : zs_Y) (k : Nat) (M : zk_M) : va_E :=
  if (zk_sh k).1 = 0 then .inr ((zk_sh k).2.1, (List.range (zk_sh k).2.2).map (zs_fv ad (zk_sh k).2.1 k M))
  else if (zk_sh k).1 = 1 then .inl (Y.1, (zk_sh k).2.1, .inl (M.2.1 k))
  else if (zk_sh k).1 = 2 then .inl (Y.2.1, (zk_sh k).2.1, .inl (M.2.1 k))
  else .inl ((if (zk_sh k).2.2 = 2 then Y.2.2.2 else Y.2.2.1), (zk_sh k).2.1, .inr (.inr (.inr (.inr (fun j => (M.2.2 k j).map ad)))))
def zs_ws (base : Nat) (ad : Nat → Nat) (Y : zs_Y) (M : zk_M) : va_W := (List.range M.1).map (fun k => (base + k, zs_ct ad Y k M))
def zs_W (base : Nat) (ad : Nat → Nat) (Y : zs_Y) (D : va_G) (M : zk_M) (H : Heap) : Prop := (base ≤ H.size ∧ (M.1 < 83 → H.size = base + M.1)) ∧ va_P D zf_cls (zs_ws base ad Y M) H ∧ M.1 ≤ 83
def zs_A (base : Nat) : Nat → Prop := fun q => base ≤ q
def zs_ty (Y : zs_Y) : List (ClassId × FieldType) := [(Y.1, .int), (Y.2.1, .boolean), (Y.2.2.1, .object "TwoHeapsAlike$Text"), (Y.2.2.2, .object "TwoHeapsAlike$Sheet")]
def zs_K (D : va_G) (Y : zs_Y) (U : State) : Prop := va_K D zf_cls (zs_ty Y) U
theorem zs_at {base : Nat} {ad : Nat → Nat} {Y : zs_Y} {M : zk_M} {k : Nat} (h : k < M.1) : (zs_ws base ad Y M)[k]? = some (base + k, zs_ct ad Y k M) := by
  unfold zs_ws
  rw [List.getElem?_map, List.getElem?_range h]
  rfl
theorem zs_len (base : Nat) (ad : Nat → Nat) (Y : zs_Y) (M : zk_M) : (zs_ws base ad Y M).length = M.1 := by simp [zs_ws]
theorem zs_D (base : Nat) (ad : Nat → Nat) (Y : zs_Y) (M : zk_M) : va_D (zs_A base) (zs_ws base ad Y M) := by
  have key : ∀ (k : Nat) (q : Nat × va_E), (zs_ws base ad Y M)[k]? = some q → q.1 = base + k := by
    intro k q h
    have hl : k < M.1 := by
      have := (List.getElem?_eq_some_iff.mp h).1
      rwa [zs_len] at this
    rw [zs_at hl] at h
    cases h
    rfl
  refine ⟨fun i j p q hi hj hpq => ?_, fun k q hk => ?_⟩
  · have h1 := key i p hi
    have h2 := key j q hj
    omega
  · show base ≤ q.1
    rw [key k q hk]
    omega
theorem zs_setW {base : Nat} {ad : Nat → Nat} {Y : zs_Y} {M M' : zk_M} {k : Nat} {e : va_E} (hn : M'.1 = M.1) (he : zs_ct ad Y k M' = e) (ho : ∀ j, j ≠ k → zs_ct ad Y j M' = zs_ct ad Y j M) : (zs_ws base ad Y M).set k (base + k, e) = zs_ws base ad Y M' := by
  apply List.ext_getElem?
  intro j
  by_cases hj : j < M.1
  · rw [zs_at (M := M') (by omega)]
    by_cases hk : k = j
    · subst hk
      rw [List.getElem?_set_self (by rw [zs_len]; exact hj), he]
    · rw [List.getElem?_set_ne hk, zs_at hj, ho j (fun h => hk h.symm)]
  · rw [List.getElem?_eq_none (by rw [List.length_set, zs_len]; omega), List.getElem?_eq_none (by rw [zs_len]; omega)]
theorem zs_pushW {base : Nat} {ad : Nat → Nat} {Y : zs_Y} {M M' : zk_M} {e : va_E} (hn : M'.1 = M.1 + 1) (he : zs_ct ad Y M.1 M' = e) (ho : ∀ j, j < M.1 → zs_ct ad Y j M' = zs_ct ad Y j M) : zs_ws base ad Y M ++ [(base + M.1, e)] = zs_ws base ad Y M' := by
  apply List.ext_getElem?
  intro j
  by_cases hj : j < M.1
  · rw [List.getElem?_append_left (by rw [zs_len]; exact hj), zs_at hj, zs_at (M := M') (by omega), ho j hj]
  · by_cases hj2 : j = M.1
    · subst hj2
      rw [List.getElem?_append_right (by rw [zs_len]; omega), zs_len, zs_at (M := M') (by omega), he]
      simp
    · rw [List.getElem?_eq_none (by rw [List.length_append, zs_len]; simp; omega), List.getElem?_eq_none (by rw [zs_len]; omega)]
theorem zs_ct_setI {ad : Nat → Nat} {Y : zs_Y} {M : zk_M} {k i : Nat} {v : Int32} (j : Nat) (h : j ≠ k) : zs_ct ad Y j (zk_setI M k i v) = zs_ct ad Y j M := by
  have e : (zk_setI M k i v).2.1 j = M.2.1 j := by
    funext b
    simp [zk_setI, zk_up2, h]
  have e2 : zs_fv ad (zk_sh j).2.1 j (zk_setI M k i v) = zs_fv ad (zk_sh j).2.1 j M := by
    funext b
    unfold zs_fv
    rw [e]
    rfl
  unfold zs_ct
  rw [e, e2]
  rfl
theorem zs_ct_setR {ad : Nat → Nat} {Y : zs_Y} {M : zk_M} {k i : Nat} {v : Option Nat} (j : Nat) (h : j ≠ k) : zs_ct ad Y j (zk_setR M k i v) = zs_ct ad Y j M := by
  have e : (zk_setR M k i v).2.2 j = M.2.2 j := by
    funext b
    simp [zk_setR, zk_up2, h]
  have e2 : zs_fv ad (zk_sh j).2.1 j (zk_setR M k i v) = zs_fv ad (zk_sh j).2.1 j M := by
    funext b
    unfold zs_fv
    rw [e]
    rfl
  unfold zs_ct
  rw [e, e2]
  rfl
theorem zs_ct_new {ad : Nat → Nat} {Y : zs_Y} {M : zk_M} (j : Nat) (h : j < M.1) : zs_ct ad Y j (zk_new M) = zs_ct ad Y j M := by
  have e : (zk_new M).2.1 j = M.2.1 j := by
    funext b
    have : j ≠ M.1 := by omega
    simp [zk_new, this]
  have e1 : (zk_new M).2.2 j = M.2.2 j := by
    funext b
    have : j ≠ M.1 := by omega
    simp [zk_new, this]
  have e2 : zs_fv ad (zk_sh j).2.1 j (zk_new M) = zs_fv ad (zk_sh j).2.1 j M := by
    funext b
    unfold zs_fv
    rw [e, e1]
  unfold zs_ct
  rw [e, e1, e2]
/-- the locals -/
def zs_lv (ad : Nat → Nat) : Nat → List (Option Value) → List (Nat × Value)
  | _, [] => []
  | i, none :: l => zs_lv ad (i + 1) l
  | i, some v :: l => (i, zs_mv ad v) :: zs_lv ad (i + 1) l
theorem zs_lv_mem (ad : Nat → Nat) : ∀ (l : List (Option Value)) (i : Nat) (q : Nat × Value), q ∈ zs_lv ad i l ↔ ∃ (j : Nat) (v : Value), l[j]? = some (some v) ∧ q = (i + j, zs_mv ad v)
  | [], i, q => by simp [zs_lv]
  | none :: l, i, q => by
    rw [zs_lv, zs_lv_mem ad l]
    constructor
    · rintro ⟨j, v, h1, h2⟩
      exact ⟨j + 1, v, by simpa using h1, by rw [h2]; congr 1; omega⟩
    · rintro ⟨j, v, h1, h2⟩
      cases j with
      | zero => simp at h1
      | succ j => exact ⟨j, v, by simpa using h1, by rw [h2]; congr 1; omega⟩
  | some w :: l, i, q => by
    rw [zs_lv, List.mem_cons, zs_lv_mem ad l]
    constructor
    · rintro (h | ⟨j, v, h1, h2⟩)
      · exact ⟨0, w, by simp, by rw [h]; rfl⟩
      · exact ⟨j + 1, v, by simpa using h1, by rw [h2]; congr 1; omega⟩
    · rintro ⟨j, v, h1, h2⟩
      cases j with
      | zero => simp at h1; left; rw [h2, h1]; rfl
      | succ j => right; exact ⟨j, v, by simpa using h1, by rw [h2]; congr 1; omega⟩
def zs_g (L : List Nat) (ls : List (Option Value)) : Prop := ∀ (j : Nat) (v : Value), ls[j]? = some (some v) → v.category = 2 → L.contains j = true
def zs_L (ad : Nat → Nat) (c : zk_C) (arr : Array Slot) (ls : List (Option Value)) : Prop := lv_has arr c.2.1 (zs_lv ad 0 ls) ∧ ls.length = c.2.1 ∧ zs_g c.2.2.2.1 ls
theorem zs_ld {ad : Nat → Nat} {c : zk_C} {arr : Array Slot} {ls : List (Option Value)} (h : zs_L ad c arr ls) {k : Nat} {v : Value} (hk : ls[k]? = some (some v)) : arr[k]? = some (.val (zs_mv ad v)) :=
  h.1.2.2 (k, zs_mv ad v) ((zs_lv_mem ad ls 0 _).mpr ⟨k, v, hk, by simp⟩)
theorem zs_cat (ad : Nat → Nat) (v : Value) : (zs_mv ad v).category = v.category := by cases v <;> rfl
theorem zs_st1 {ad : Nat → Nat} {c : zk_C} {arr arr' : Array Slot} {ls : List (Option Value)} {k : Nat} {v w : Value} (h : zs_L ad c arr ls) (hs : zk_sli c.2.2.2.1 k = true) (hc : v.category = 1) (hv : zs_mv ad v = w)
    (h' : lv_has arr' c.2.1 ((k, w) :: (zs_lv ad 0 ls).filter (fun q => !(q.1 == k) && !(q.1 + 1 == k && q.2.category == 2)))) : zs_L ad c arr' (ls.set k (some v)) := by
  obtain ⟨h1, h2, h3⟩ := h
  refine ⟨⟨h'.1, h'.2.1, fun q hq => h'.2.2 q ?_⟩, by rw [List.length_set]; exact h2, fun j u hu hu2 => ?_⟩
  · obtain ⟨j, u, hj, rfl⟩ := (zs_lv_mem ad _ 0 q).mp hq
    by_cases hjk : k = j
    · subst hjk
      have hl : k < ls.length := by
        have := (List.getElem?_eq_some_iff.mp hj).1
        rwa [List.length_set] at this
      rw [List.getElem?_set_self hl] at hj
      cases hj
      rw [hv, Nat.zero_add]
      exact List.mem_cons_self
    · rw [List.getElem?_set_ne hjk] at hj
      refine List.mem_cons_of_mem _ (List.mem_filter.mpr ⟨(zs_lv_mem ad ls 0 _).mpr ⟨j, u, hj, rfl⟩, ?_⟩)
      have e1 : ((0 + j) == k) = false := by simp; omega
      have e2 : ((0 + j + 1 == k) && (zs_mv ad u).category == 2) = false := by
        by_cases hq2 : j + 1 = k
        · subst hq2
          have hn : ¬ u.category = 2 := by
            intro hu2
            have := h3 j u hj hu2
            simp only [zk_sli, this] at hs
            cases hs
          rw [zs_cat]
          simp [hn]
        · have : (0 + j + 1 == k) = false := by simp; omega
          rw [this]
          rfl
      show (!((0 + j) == k) && !((0 + j + 1 == k) && (zs_mv ad u).category == 2)) = true
      rw [e1, e2]
      rfl
  · by_cases hjk : k = j
    · subst hjk
      have hl : k < ls.length := by
        have := (List.getElem?_eq_some_iff.mp hu).1
        rwa [List.length_set] at this
      rw [List.getElem?_set_self hl] at hu
      cases hu
      rw [hc] at hu2
      cases hu2
    · rw [List.getElem?_set_ne hjk] at hu
      exact h3 j u hu hu2
theorem zs_st2 {ad : Nat → Nat} {c : zk_C} {arr arr' : Array Slot} {ls : List (Option Value)} {k : Nat} {x : Int64} (h : zs_L ad c arr ls) (hs : zk_sli c.2.2.2.1 k = true) (hk : c.2.2.2.1.contains k = true)
    (h' : lv_has arr' c.2.1 ((k, .long x) :: (zs_lv ad 0 ls).filter (fun q => !(q.1 == k) && (!(q.1 == k + 1) && !(q.1 + 1 == k && q.2.category == 2))))) : zs_L ad c arr' ((ls.set k (some (.long x))).set (k + 1) none) := by
  obtain ⟨h1, h2, h3⟩ := h
  have key : ∀ (j : Nat) (u : Value), ((ls.set k (some (.long x))).set (k + 1) none)[j]? = some (some u) → (j = k ∧ u = .long x) ∨ (j ≠ k ∧ j ≠ k + 1 ∧ ls[j]? = some (some u)) := by
    intro j u hj
    by_cases hj1 : k + 1 = j
    · subst hj1
      have hl := (List.getElem?_eq_some_iff.mp hj).1
      rw [List.length_set] at hl
      rw [List.getElem?_set_self hl] at hj
      cases hj
    · rw [List.getElem?_set_ne hj1] at hj
      by_cases hjk : k = j
      · subst hjk
        have hl := (List.getElem?_eq_some_iff.mp hj).1
        rw [List.length_set] at hl
        rw [List.getElem?_set_self hl] at hj
        cases hj
        exact Or.inl ⟨rfl, rfl⟩
      · rw [List.getElem?_set_ne hjk] at hj
        exact Or.inr ⟨fun z => hjk z.symm, fun z => hj1 z.symm, hj⟩
  refine ⟨⟨h'.1, h'.2.1, fun q hq => h'.2.2 q ?_⟩, by rw [List.length_set, List.length_set]; exact h2, fun j u hu hu2 => ?_⟩
  · obtain ⟨j, u, hj, rfl⟩ := (zs_lv_mem ad _ 0 q).mp hq
    rcases key j u hj with ⟨rfl, rfl⟩ | ⟨n1, n2, hj3⟩
    · rw [Nat.zero_add]
      exact List.mem_cons_self
    · refine List.mem_cons_of_mem _ (List.mem_filter.mpr ⟨(zs_lv_mem ad ls 0 _).mpr ⟨j, u, hj3, rfl⟩, ?_⟩)
      have e1 : ((0 + j) == k) = false := by simp; omega
      have e3 : ((0 + j) == k + 1) = false := by simp; omega
      have e2 : ((0 + j + 1 == k) && (zs_mv ad u).category == 2) = false := by
        by_cases hq2 : j + 1 = k
        · subst hq2
          have hn : ¬ u.category = 2 := by
            intro hu2
            have := h3 j u hj3 hu2
            simp only [zk_sli, this] at hs
            cases hs
          rw [zs_cat]
          simp [hn]
        · have : (0 + j + 1 == k) = false := by simp; omega
          rw [this]
          rfl
      show (!((0 + j) == k) && (!((0 + j) == k + 1) && !((0 + j + 1 == k) && (zs_mv ad u).category == 2))) = true
      rw [e1, e2, e3]
      rfl
  · rcases key j u hu with ⟨rfl, -⟩ | ⟨-, -, hj⟩
    · exact hk
    · exact h3 j u hj hu2
/-- the locals at a method's start -/
theorem zs_fl2_len (ad : Nat → Nat) : ∀ vs : List Value, (∀ v ∈ vs, v.category = 2 → ∃ x, v = .long x) → (lg_sl (vs.map (zs_mv ad))).length = (zk_fl2 vs).length
  | [], _ => rfl
  | v :: t, h => by
    have ih := zs_fl2_len ad t (fun u hu => h u (List.mem_cons_of_mem _ hu))
    have hv := h v List.mem_cons_self
    cases v with
    | long x => simp [lg_sl, zs_mv, zk_fl2, Value.category] at ih ⊢; omega
    | double x => obtain ⟨y, hy⟩ := hv rfl; cases hy
    | _ => simp [lg_sl, zs_mv, zk_fl2, Value.category] at ih ⊢; omega
theorem zs_args (ad : Nat → Nat) : ∀ (vs : List Value) (i : Nat) (r : List (Option Value)) (q : Nat × Value), (∀ v ∈ vs, v.category = 2 → ∃ x, v = .long x) → (∀ x ∈ r, x = none) → q ∈ zs_lv ad i (zk_fl2 vs ++ r) → q ∈ lv_args i (vs.map (zs_mv ad))
  | [], i, r, q, _, hr, h => by
    obtain ⟨j, v, h1, -⟩ := (zs_lv_mem ad _ i q).mp h
    have := hr _ (List.mem_of_getElem? h1)
    cases this
  | v :: t, i, r, q, hv, hr, h => by
    have ih := fun k => zs_args ad t k r q (fun u hu => hv u (List.mem_cons_of_mem _ hu)) hr
    have hv0 := hv v List.mem_cons_self
    cases v with
    | long x =>
      have h' : q ∈ (i, Value.long x) :: zs_lv ad (i + 1 + 1) (zk_fl2 t ++ r) := h
      rcases List.mem_cons.mp h' with h1 | h1
      · rw [h1]; exact List.mem_cons_self
      · exact List.mem_cons_of_mem _ (ih _ h1)
    | double x => obtain ⟨y, hy⟩ := hv0 rfl; cases hy
    | int x =>
      have h' : q ∈ (i, Value.int x) :: zs_lv ad (i + 1) (zk_fl2 t ++ r) := h
      rcases List.mem_cons.mp h' with h1 | h1
      · rw [h1]; exact List.mem_cons_self
      · exact List.mem_cons_of_mem _ (ih _ h1)
    | float x =>
      have h' : q ∈ (i, Value.float x) :: zs_lv ad (i + 1) (zk_fl2 t ++ r) := h
      rcases List.mem_cons.mp h' with h1 | h1
      · rw [h1]; exact List.mem_cons_self
      · exact List.mem_cons_of_mem _ (ih _ h1)
    | null =>
      have h' : q ∈ (i, Value.null) :: zs_lv ad (i + 1) (zk_fl2 t ++ r) := h
      rcases List.mem_cons.mp h' with h1 | h1
      · rw [h1]; exact List.mem_cons_self
      · exact List.mem_cons_of_mem _ (ih _ h1)
    | ref x =>
      have h' : q ∈ (i, Value.ref (ad x)) :: zs_lv ad (i + 1) (zk_fl2 t ++ r) := h
      rcases List.mem_cons.mp h' with h1 | h1
      · rw [h1]; exact List.mem_cons_self
      · exact List.mem_cons_of_mem _ (ih _ h1)
    | retAddr x =>
      have h' : q ∈ (i, Value.retAddr x) :: zs_lv ad (i + 1) (zk_fl2 t ++ r) := h
      rcases List.mem_cons.mp h' with h1 | h1
      · rw [h1]; exact List.mem_cons_self
      · exact List.mem_cons_of_mem _ (ih _ h1)
theorem zs_lgo_spec (L : List Nat) : ∀ (l : List (Option Value)) (i : Nat), zk_lgo L i l = true → ∀ (j : Nat) (v : Value), l[j]? = some (some v) → (v.category = 2 → L.contains (i + j) = true) ∧ ((∃ x, v = .long x) ∨ (∃ x, v = .int x) ∨ ∃ x, v = .ref x)
  | [], i, _, j, v, h => by simp at h
  | a :: t, i, hL, j, v, h => by
    rcases a with _ | (x | x | x | x | _ | x | x)
    case none =>
      have h1 : zk_lgo L (i + 1) t = true := hL
      cases j with
      | zero => simp at h
      | succ j => have := zs_lgo_spec L t (i + 1) h1 j v (by simpa using h); rw [show i + 1 + j = i + (j + 1) by omega] at this; exact this
    case some.int =>
      have h1 : zk_lgo L (i + 1) t = true := hL
      cases j with
      | zero => simp at h; subst h; exact ⟨fun z => by simp [Value.category] at z, Or.inr (Or.inl ⟨_, rfl⟩)⟩
      | succ j => have := zs_lgo_spec L t (i + 1) h1 j v (by simpa using h); rw [show i + 1 + j = i + (j + 1) by omega] at this; exact this
    case some.long =>
      have h0 : (L.contains i && zk_lgo L (i + 1) t) = true := hL
      rw [Bool.and_eq_true] at h0
      cases j with
      | zero => simp at h; subst h; exact ⟨fun _ => h0.1, Or.inl ⟨_, rfl⟩⟩
      | succ j => have := zs_lgo_spec L t (i + 1) h0.2 j v (by simpa using h); rw [show i + 1 + j = i + (j + 1) by omega] at this; exact this
    case some.float => simp [zk_lgo] at hL
    case some.double => simp [zk_lgo] at hL
    case some.null => simp [zk_lgo] at hL
    case some.ref =>
      have h1 : zk_lgo L (i + 1) t = true := hL
      cases j with
      | zero => simp at h; subst h; exact ⟨fun z => by simp [Value.category] at z, Or.inr (Or.inr ⟨_, rfl⟩)⟩
      | succ j => have := zs_lgo_spec L t (i + 1) h1 j v (by simpa using h); rw [show i + 1 + j = i + (j + 1) by omega] at this; exact this
    case some.retAddr => simp [zk_lgo] at hL
theorem zs_fl2_mem : ∀ (vs : List Value) (v : Value), v ∈ vs → ∃ j : Nat, (zk_fl2 vs)[j]? = some (some v)
  | [], v, h => by cases h
  | u :: t, v, h => by
    rcases List.mem_cons.mp h with rfl | h
    · cases v <;> exact ⟨0, rfl⟩
    · obtain ⟨j, hj⟩ := zs_fl2_mem t v h
      cases u with
      | long x => exact ⟨j + 2, by simpa [zk_fl2] using hj⟩
      | _ => exact ⟨j + 1, by simpa [zk_fl2] using hj⟩
theorem zs_entry {ad : Nat → Nat} {y : Nat} {c : zk_C} {args : List Value} (hc : zk_mt y = some c) (h : zk_okc y args = true) : zs_L ad c ((lg_sl (args.map (zs_mv ad)) ++ List.replicate (c.2.1 - (lg_sl (args.map (zs_mv ad))).length) Slot.unset).toArray) (zk_ent c.2.1 args) := by
  unfold zk_okc at h
  rw [hc] at h
  simp only [Bool.and_eq_true, decide_eq_true_eq] at h
  obtain ⟨h1, h2⟩ := h
  have sp := zs_lgo_spec _ _ _ h2
  have hlong : ∀ v ∈ args, v.category = 2 → ∃ x, v = Value.long x := by
    intro v hv hv2
    obtain ⟨j, hj⟩ := zs_fl2_mem args v hv
    rcases (sp j v hj).2 with q | ⟨x, rfl⟩ | ⟨x, rfl⟩
    · exact q
    · cases hv2
    · cases hv2
  have hlen := zs_fl2_len ad args hlong
  obtain ⟨e1, e2, e3⟩ := lv_entry (args.map (zs_mv ad)) (n := c.2.1) (by rw [hlen]; exact h1)
  refine ⟨⟨e1, e2, fun q hq => e3 q (zs_args ad args 0 _ q hlong (fun x hx => (List.mem_replicate.mp hx).2) hq)⟩, ?_, ?_⟩
  · simp only [zk_ent, List.length_append, List.length_replicate]
    omega
  · intro j v hj hv2
    have hj2 : (zk_fl2 args)[j]? = some (some v) := by
      unfold zk_ent at hj
      by_cases hl : j < (zk_fl2 args).length
      · rwa [List.getElem?_append_left hl] at hj
      · rw [List.getElem?_append_right (by omega)] at hj
        have := (List.mem_replicate.mp (List.mem_of_getElem? hj)).2
        cases this
    have := (sp j v hj2).1 hv2
    rwa [Nat.zero_add] at this
