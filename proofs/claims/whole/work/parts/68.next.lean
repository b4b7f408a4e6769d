/-! next: how far any two sums are apart -/
def zdist (f : Nat → Int32) (n a b : Nat) : Nat := (zsv f n a - zsv f n b).natAbs
def zdt (f : Nat → Int32) (n v : Nat) : Prop := ∃ a b, a < 2 ^ n ∧ b < 2 ^ n ∧ a ≠ b ∧ zdist f n a b = v
theorem zdist_c (f : Nat → Int32) (n a b : Nat) : zdist f n a b = zdist f n b a := by unfold zdist; omega
theorem zfar_nat {f : Nat → Int32} {n a b : Nat} (hb : zbd f n) (hn : n ≤ 10) : zw_far (zsum f a n - zsum f b n) = nI (zdist f n a b) ∧ zdist f n a b ≤ 40140 := by
  have b1 := zsum_bd (h := a) hb hn
  have b2 := zsum_bd (h := b) hb hn
  have e := zi_sub (a := zsum f a n) (b := zsum f b n) (by omega) (by omega) (by omega) (by omega)
  have hd : zdist f n a b = ((zsum f a n).toInt - (zsum f b n).toInt).natAbs := rfl
  refine ⟨?_, by omega⟩
  apply Int32.toInt.inj
  rw [nI_toInt (by omega)]
  unfold zw_far
  simp only [Int32.lt_iff_toInt_lt, zn_zi, e]
  split
  · rw [zi_neg (by omega) (by omega), e]; omega
  · rw [e]; omega
theorem zsum_split {f : Nat → Int32} {a b : Nat} : ∀ m, zsum f a m = zsum f (zdf a b) m + zsum f (a &&& b) m
  | 0 => by show (0 : Int32) = 0 + 0; decide
  | m + 1 => by
    rw [zsum, zsum, zsum, zsum_split (b := b) m]
    have h1 := zdf_bit a b m
    have h2 := Nat.testBit_and a b m
    rw [Nat.testBit_eq_decide_div_mod_eq, Nat.testBit_eq_decide_div_mod_eq, Nat.testBit_eq_decide_div_mod_eq] at h1 h2
    by_cases ca : a / 2 ^ m % 2 = 1
    · by_cases cb : b / 2 ^ m % 2 = 1
      · rw [decide_eq_true ca, decide_eq_true cb] at h1 h2
        have k1 : ¬ zdf a b / 2 ^ m % 2 = 1 := of_decide_eq_false h1
        have k2 : (a &&& b) / 2 ^ m % 2 = 1 := of_decide_eq_true h2
        rw [if_pos ca, if_neg k1, if_pos k2]; grind
      · rw [decide_eq_true ca, decide_eq_false cb] at h1 h2
        have k1 : zdf a b / 2 ^ m % 2 = 1 := of_decide_eq_true h1
        have k2 : ¬ (a &&& b) / 2 ^ m % 2 = 1 := of_decide_eq_false h2
        rw [if_pos ca, if_pos k1, if_neg k2]; grind
    · rw [decide_eq_false ca] at h1 h2
      have k1 : ¬ zdf a b / 2 ^ m % 2 = 1 := of_decide_eq_false h1
      have k2 : ¬ (a &&& b) / 2 ^ m % 2 = 1 := of_decide_eq_false h2
      rw [if_neg ca, if_neg k1, if_neg k2]; grind
theorem zdist_df {f : Nat → Int32} {n a b : Nat} (hb : zbd f n) (hn : n ≤ 10) : zdist f n (zdf a b) (zdf b a) = zdist f n a b := by
  have e1 := zsum_split (f := f) (a := a) (b := b) n
  have e2 := zsum_split (f := f) (a := b) (b := a) n
  have e3 : zsum f (zdf a b) n - zsum f (zdf b a) n = zsum f a n - zsum f b n := by rw [e1, e2, Nat.and_comm b a]; grind
  have h1 := zfar_nat (a := zdf a b) (b := zdf b a) hb hn
  have h2 := zfar_nat (a := a) (b := b) hb hn
  rw [e3, h2.1] at h1
  have := congrArg Int32.toInt h1.1
  rw [nI_toInt (by omega), nI_toInt (by omega)] at this
  omega
theorem zdf_dis (a b : Nat) : zdf b a &&& zdf a b = 0 := by
  apply Nat.eq_of_testBit_eq
  intro i
  rw [Nat.testBit_and, zdf_bit, zdf_bit, Nat.zero_testBit]
  cases a.testBit i <;> cases b.testBit i <;> rfl
theorem zdf_00 {a b : Nat} (h1 : zdf a b = 0) (h2 : zdf b a = 0) : a = b := Nat.le_antisymm (zle_le h1) (zle_le h2)
theorem zdt_dis {f : Nat → Int32} {n v : Nat} (hb : zbd f n) (hn : n ≤ 10) : zdt f n v ↔ ∃ a b, 1 ≤ a ∧ a < 2 ^ n ∧ zdf b (zdf (2 ^ n - 1) a) = 0 ∧ zdist f n a b = v := by
  have p1 : 1 ≤ 2 ^ n := Nat.one_le_two_pow
  constructor
  · rintro ⟨a, b, ha, hbn, hne, hd⟩
    have la : zdf a b < 2 ^ n := zdf_lt ha
    have lb : zdf b a < 2 ^ n := zdf_lt hbn
    by_cases h0 : zdf a b = 0
    · have h1 : ¬ zdf b a = 0 := fun q => hne (zdf_00 h0 q)
      refine ⟨zdf b a, zdf a b, by omega, lb, (zle_dall la).mpr (zdf_dis b a), ?_⟩
      rw [zdist_c, zdist_df hb hn]; exact hd
    · refine ⟨zdf a b, zdf b a, by omega, la, (zle_dall lb).mpr (zdf_dis a b), ?_⟩
      rw [zdist_df hb hn]; exact hd
  · rintro ⟨a, b, h1, ha, hs, hd⟩
    have hbl : b < 2 ^ n := Nat.lt_of_le_of_lt (zle_le hs) (zdf_lt (by omega))
    refine ⟨a, b, ha, hbl, fun e => ?_, hd⟩
    rw [← e] at hs
    have := (zle_dall ha).mp hs
    rw [Nat.and_self] at this
    omega
noncomputable def zdtB (f : Nat → Int32) (n v : Nat) : Bool := @decide (zdt f n v) (Classical.propDecidable _)
noncomputable def znext (f : Nat → Int32) (n : Nat) : Int32 := if zdtB f n 0 = true then -1 else zfirst (fun v => !zdtB f n v) 1 999
theorem zdtB_t {f : Nat → Int32} {n v : Nat} : zdtB f n v = true ↔ zdt f n v := by
  unfold zdtB
  exact @decide_eq_true_iff _ (Classical.propDecidable _)
theorem znext_0 {f : Nat → Int32} {n : Nat} (h : zdt f n 0) : znext f n = -1 := if_pos (zdtB_t.mpr h)
theorem znext_1 {f : Nat → Int32} {n : Nat} (h : ¬ zdt f n 0) : znext f n = zfirst (fun v => !zdtB f n v) 1 999 := if_neg (fun q => h (zdtB_t.mp q))
/-- what is marked in a row of yes and no -/
def zmarks (I : Nat → Nat → Int32) (k : Nat) (s : Nat → Prop) : Prop := ∀ v, 1 ≤ v → v < 1000 → (s v → I k v = 1) ∧ (¬ s v → I k v = 0)
theorem zmarks_up {I : Nat → Nat → Int32} {k x : Nat} {s : Nat → Prop} (h : zmarks I k s) : zmarks (zk_up2 I k x 1) k (fun v => s v ∨ v = x) := by
  intro v h1 h2
  obtain ⟨a, b⟩ := h v h1 h2
  rw [zk_up2_i]
  by_cases e : v = x
  · rw [if_pos e]
    exact ⟨fun _ => rfl, fun q => absurd (Or.inr e) q⟩
  · rw [if_neg e]
    exact ⟨fun q => q.elim a (fun w => absurd w e), fun q => b (fun w => q (Or.inl w))⟩
theorem zmarks_iff {I : Nat → Nat → Int32} {k : Nat} {s s' : Nat → Prop} (h : zmarks I k s) (e : ∀ v, 1 ≤ v → v < 1000 → (s v ↔ s' v)) : zmarks I k s' := by
  intro v h1 h2
  obtain ⟨a, b⟩ := h v h1 h2
  exact ⟨fun q => a ((e v h1 h2).mpr q), fun q => b (fun w => q ((e v h1 h2).mp w))⟩
theorem znar1 : vp_nar .boolean 1 = 1 := by decide
theorem znar0 : vp_nar .boolean 0 = 0 := by decide
def znst (f : Nat → Int32) (n a r : Nat) (s : Nat → Prop) : Nat → Prop := fun v => s v ∨ (zdf r (zdf (2 ^ n - 1) a) = 0 ∧ zdist f n a r = v)
theorem znst_for {f : Nat → Int32} {n a : Nat} {s : Nat → Prop} {v : Nat} : ∀ m, zfor (znst f n a) s m v ↔ s v ∨ ∃ r, r < m ∧ zdf r (zdf (2 ^ n - 1) a) = 0 ∧ zdist f n a r = v
  | 0 => ⟨fun h => Or.inl h, fun h => h.elim id (fun ⟨r, hr, _⟩ => absurd hr (Nat.not_lt_zero _))⟩
  | m + 1 => by
    show (zfor (znst f n a) s m v ∨ _) ↔ _
    rw [znst_for m]
    constructor
    · rintro ((h | ⟨r, hr, h⟩) | h)
      · exact Or.inl h
      · exact Or.inr ⟨r, by omega, h⟩
      · exact Or.inr ⟨m, by omega, h⟩
    · rintro (h | ⟨r, hr, h⟩)
      · exact Or.inl (Or.inl h)
      · by_cases e : r = m
        · subst e; exact Or.inr h
        · exact Or.inl (Or.inr ⟨r, by omega, h⟩)
def znQ (f : Nat → Int32) (n m : Nat) (v : Nat) : Prop := ∃ a b, 1 ≤ a ∧ a < m ∧ zdf b (zdf (2 ^ n - 1) a) = 0 ∧ zdist f n a b = v
theorem s78 {sc : zk_X} {d : Nat} {I : Nat → Nat → Int32} {tg : Option Nat} {P : Option Value → zk_M → Prop} {n : Nat} {f : Nat → Int32} (h10 : n ≤ 10) (hall : I 15 3 = nI (2 ^ n - 1)) (hs : ∀ h, h < 2 ^ n → I 18 h = zsum f h n) (hb : zbd f n)
    (K : ∀ I' : Nat → Nat → Int32, (∀ j, j ≠ 22 → I' j = I j) → P (some (.int (znext f n))) (zk_mk I' tg)) : zk_R sc (d + 1) 78 0 [some (.ref (15 : Nat)), none, none, none, none, none] [] (zk_mk I tg) P := by
  have p10 := zp_10 h10
  have h999 : (999 : Int32) = nI 999 := rfl
  -- the last walk
  have last : ∀ (x2 x3 x4 x5 : Option Value) (I' : Nat → Nat → Int32), (∀ j, j ≠ 22 → I' j = I j) → zmarks I' 22 (zdt f n) → ¬ zdt f n 0 → zk_R sc (d + 1) 78 122 [some (.ref (15 : Nat)), some (.int (nI 1)), x2, x3, x4, x5] [] (zk_mk I' tg) P := by
    intro x2 x3 x4 x5 I' h1 hm h0
    have K2 := K I' h1
    rw [znext_1 h0] at K2
    have loop := zl_up (τ := Unit) (fun v _ => zk_R sc (d + 1) 78 122 [some (.ref (15 : Nat)), some (.int (nI v)), x2, x3, x4, x5] [] (zk_mk I' tg) P)
      (fun v _ => 1 ≤ v ∧ zfirst (fun v => !zdtB f n v) 1 999 = zfirst (fun v => !zdtB f n v) v (1000 - v)) 1000 (by
        rintro _ ⟨g0, g1⟩
        rw [g1] at K2
        rw [u78_122]
        have hcond : (999 : Int32) < nI 1000 := by decide
        have hcond2 : ¬ nI 1000 ≤ (999 : Int32) := by decide
        simp only [u78_0, u78_1, u78_3, u78_6, u78_9, u78_10, u78_13, u78_14, u78_15, u78_16, u78_19, u78_22, u78_23, u78_25, u78_26, u78_29, u78_32, u78_33, u78_36, u78_37, u78_38, u78_39, u78_40, u78_41, u78_42, u78_43, u78_44, u78_48, u78_51, u78_54, u78_55, u78_58, u78_59, u78_60, u78_61, u78_64, u78_65, u78_66, u78_67, u78_70, u78_72, u78_74, u78_77, u78_78, u78_79, u78_81, u78_84, u78_87, u78_88, u78_91, u78_93, u78_94, u78_95, u78_96, u78_97, u78_100, u78_101, u78_102, u78_105, u78_108, u78_111, u78_114, u78_117, u78_120, u78_121, u78_123, u78_126, u78_129, u78_130, u78_133, u78_134, u78_135, u78_138, u78_139, u78_140, u78_143, u78_146, u78_147, zk_mk_1, zk_mk_I, zk_mk_R, zk_mk_set, zk_mk_setR, zk_mk_cpy, zk_rv_some, zk_rv_none, Option.toList_some, Option.toList_none, List.cons_append, List.nil_append, reduceIte, eq_self, Nat.reduceLT, Nat.reduceEqDiff, and_true, true_and, reduceCtorEq, hcond, hcond2]
        exact K2) (by
        rintro v _ hv ⟨g0, g1⟩ ih
        obtain ⟨m1, m2⟩ := hm v g0 hv
        have hcond : ¬ (999 : Int32) < nI v := by rw [h999, zn_lt (by omega) (by omega)]; omega
        have hcond2 : nI v ≤ (999 : Int32) := Int32.not_lt.mp hcond
        have z1 : zk_inb (nI v) 1000 = true := by rw [zn_in (by omega)]; omega
        have z2 : (nI v).toNatClampNeg = v := zn_cl (by omega)
        have ez : zfirst (fun v => !zdtB f n v) v (1000 - v) = if (!zdtB f n v) = true then nI v else zfirst (fun v => !zdtB f n v) (v + 1) (1000 - (v + 1)) := by
          rw [show 1000 - v = (1000 - (v + 1)) + 1 by omega]; rfl
        rw [u78_122]
        simp only [u78_0, u78_1, u78_3, u78_6, u78_9, u78_10, u78_13, u78_14, u78_15, u78_16, u78_19, u78_22, u78_23, u78_25, u78_26, u78_29, u78_32, u78_33, u78_36, u78_37, u78_38, u78_39, u78_40, u78_41, u78_42, u78_43, u78_44, u78_48, u78_51, u78_54, u78_55, u78_58, u78_59, u78_60, u78_61, u78_64, u78_65, u78_66, u78_67, u78_70, u78_72, u78_74, u78_77, u78_78, u78_79, u78_81, u78_84, u78_87, u78_88, u78_91, u78_93, u78_94, u78_95, u78_96, u78_97, u78_100, u78_101, u78_102, u78_105, u78_108, u78_111, u78_114, u78_117, u78_120, u78_121, u78_123, u78_126, u78_129, u78_130, u78_133, u78_134, u78_135, u78_138, u78_139, u78_140, u78_143, u78_146, u78_147, zk_mk_1, zk_mk_I, zk_mk_R, zk_mk_set, zk_mk_setR, zk_mk_cpy, zk_rv_some, zk_rv_none, Option.toList_some, Option.toList_none, List.cons_append, List.nil_append, reduceIte, eq_self, Nat.reduceLT, Nat.reduceEqDiff, and_true, true_and, reduceCtorEq, zsh_15, zsh_22, zrf_15_7, hcond, hcond2, z1, z2, nI_1]
        by_cases hz : zdt f n v
        · rw [m1 hz]
          simp only [show ((1 : Int32) = 0) = False from by decide, reduceIte]
          refine ih () ⟨by omega, ?_⟩
          rw [g1, ez, zdtB_t.mpr hz, if_neg (by decide)]
        · rw [m2 hz]
          have hzb : zdtB f n v = false := by
            cases hv2 : zdtB f n v with
            | true => exact absurd (zdtB_t.mp hv2) hz
            | false => rfl
          rw [g1, ez, hzb, if_pos (by decide)] at K2
          simp only [reduceIte]
          exact K2)
    exact loop 1 () (by decide) ⟨Nat.le_refl _, rfl⟩
  -- the walk over all heaps
  have main : ∀ (x2 x3 x4 x5 : Option Value) (I' : Nat → Nat → Int32), (∀ j, j ≠ 22 → I' j = I j) → zmarks I' 22 (fun _ => False) → zk_R sc (d + 1) 78 24 [some (.ref (15 : Nat)), some (.int (nI 1)), x2, x3, x4, x5] [] (zk_mk I' tg) P := by
    intro x2 x3 x4 x5 I' h1 hm
    have outer := zl_up (τ := (Nat → Nat → Int32) × Option Value × Option Value × Option Value × Option Value) (fun a q => zk_R sc (d + 1) 78 24 [some (.ref (15 : Nat)), some (.int (nI a)), q.2.1, q.2.2.1, q.2.2.2.1, q.2.2.2.2] [] (zk_mk q.1 tg) P)
      (fun a q => 1 ≤ a ∧ (∀ j, j ≠ 22 → q.1 j = I j) ∧ zmarks q.1 22 (znQ f n a) ∧ ¬ znQ f n a 0) (2 ^ n) (by
        rintro ⟨I2, y2, y3, y4, y5⟩ ⟨g0, g1, g2, g3⟩
        have g1 : ∀ j, j ≠ 22 → I2 j = I j := g1
        have e15 : I2 15 = I 15 := g1 15 (by decide)
        have hiff : ∀ v, znQ f n (2 ^ n) v ↔ zdt f n v := fun v => (zdt_dis hb h10).symm
        have hcond : nI (2 ^ n - 1) < nI (2 ^ n) := by rw [zn_lt (by omega) (by omega)]; omega
        have hcond2 : ¬ nI (2 ^ n) ≤ nI (2 ^ n - 1) := Int32.not_le.mpr hcond
        show zk_R sc (d + 1) 78 24 [some (.ref (15 : Nat)), some (.int (nI (2 ^ n))), y2, y3, y4, y5] [] (zk_mk I2 tg) P
        rw [u78_24]
        simp only [u78_0, u78_1, u78_3, u78_6, u78_9, u78_10, u78_13, u78_14, u78_15, u78_16, u78_19, u78_22, u78_23, u78_25, u78_26, u78_29, u78_32, u78_33, u78_36, u78_37, u78_38, u78_39, u78_40, u78_41, u78_42, u78_43, u78_44, u78_48, u78_51, u78_54, u78_55, u78_58, u78_59, u78_60, u78_61, u78_64, u78_65, u78_66, u78_67, u78_70, u78_72, u78_74, u78_77, u78_78, u78_79, u78_81, u78_84, u78_87, u78_88, u78_91, u78_93, u78_94, u78_95, u78_96, u78_97, u78_100, u78_101, u78_102, u78_105, u78_108, u78_111, u78_114, u78_117, u78_120, u78_121, u78_123, u78_126, u78_129, u78_130, u78_133, u78_134, u78_135, u78_138, u78_139, u78_140, u78_143, u78_146, u78_147, zk_mk_1, zk_mk_I, zk_mk_R, zk_mk_set, zk_mk_setR, zk_mk_cpy, zk_rv_some, zk_rv_none, Option.toList_some, Option.toList_none, List.cons_append, List.nil_append, reduceIte, eq_self, Nat.reduceLT, Nat.reduceEqDiff, and_true, true_and, reduceCtorEq, zsh_15, e15, hall, hcond, hcond2]
        exact last _ _ _ _ I2 g1 (zmarks_iff g2 (fun v _ _ => hiff v)) (fun q => g3 ((hiff 0).mpr q))) (by
        rintro a ⟨I2, y2, y3, y4, y5⟩ ha ⟨g0, g1, g2, g3⟩ ih
        have g0 : 1 ≤ a := g0
        have g1 : ∀ j, j ≠ 22 → I2 j = I j := g1
        have g2 : zmarks I2 22 (znQ f n a) := g2
        have e15 : I2 15 = I 15 := g1 15 (by decide)
        have hS : zdf (2 ^ n - 1) a < 2 ^ n := zdf_lt (by omega)
        have hS2 : zdf (2 ^ n - 1) a < 1024 := by omega
        have hcond : ¬ nI (2 ^ n - 1) < nI a := by rw [zn_lt (by omega) (by omega)]; omega
        have hcond2 : nI a ≤ nI (2 ^ n - 1) := Int32.not_lt.mp hcond
        show zk_R sc (d + 1) 78 24 [some (.ref (15 : Nat)), some (.int (nI a)), y2, y3, y4, y5] [] (zk_mk I2 tg) P
        rw [u78_24]
        simp only [u78_0, u78_1, u78_3, u78_6, u78_9, u78_10, u78_13, u78_14, u78_15, u78_16, u78_19, u78_22, u78_23, u78_25, u78_26, u78_29, u78_32, u78_33, u78_36, u78_37, u78_38, u78_39, u78_40, u78_41, u78_42, u78_43, u78_44, u78_48, u78_51, u78_54, u78_55, u78_58, u78_59, u78_60, u78_61, u78_64, u78_65, u78_66, u78_67, u78_70, u78_72, u78_74, u78_77, u78_78, u78_79, u78_81, u78_84, u78_87, u78_88, u78_91, u78_93, u78_94, u78_95, u78_96, u78_97, u78_100, u78_101, u78_102, u78_105, u78_108, u78_111, u78_114, u78_117, u78_120, u78_121, u78_123, u78_126, u78_129, u78_130, u78_133, u78_134, u78_135, u78_138, u78_139, u78_140, u78_143, u78_146, u78_147, zk_mk_1, zk_mk_I, zk_mk_R, zk_mk_set, zk_mk_setR, zk_mk_cpy, zk_rv_some, zk_rv_none, Option.toList_some, Option.toList_none, List.cons_append, List.nil_append, reduceIte, eq_self, Nat.reduceLT, Nat.reduceEqDiff, and_true, true_and, reduceCtorEq, zsh_15, e15, hall, hcond, hcond2, zq_andn]
        refine zl_sub0 hS2 hS (znst f n a) (fun x s hx => ?_) (fun i r s => ∀ (I3 : Nat → Nat → Int32) (w : Option Value), (∀ j, j ≠ 22 → I3 j = I j) → zmarks I3 22 s → ¬ s 0 → zk_R sc (d + 1) 78 46 [some (.ref (15 : Nat)), some (.int (nI a)), some (.int (nI (zdf (2 ^ n - 1) a))), some (.int (nI r)), some (.int (nI i)), w] [] (zk_mk I3 tg) P)
          (fun s => ∀ (I3 : Nat → Nat → Int32) (r i : Nat) (w : Option Value), (∀ j, j ≠ 22 → I3 j = I j) → zmarks I3 22 s → ¬ s 0 → zk_R sc (d + 1) 78 114 [some (.ref (15 : Nat)), some (.int (nI a)), some (.int (nI (zdf (2 ^ n - 1) a))), some (.int (nI r)), some (.int (nI i)), w] [] (zk_mk I3 tg) P) ?_ (fun i r s hsr hi hrS hr hX hW => ?_) I2 y5 g1 g2 g3
        · funext v
          apply propext
          exact ⟨fun q => q.elim id (fun w => absurd w.1 hx), fun q => Or.inl q⟩
        · intro I3 r i w k1 k2 k3
          simp only [u78_0, u78_1, u78_3, u78_6, u78_9, u78_10, u78_13, u78_14, u78_15, u78_16, u78_19, u78_22, u78_23, u78_25, u78_26, u78_29, u78_32, u78_33, u78_36, u78_37, u78_38, u78_39, u78_40, u78_41, u78_42, u78_43, u78_44, u78_48, u78_51, u78_54, u78_55, u78_58, u78_59, u78_60, u78_61, u78_64, u78_65, u78_66, u78_67, u78_70, u78_72, u78_74, u78_77, u78_78, u78_79, u78_81, u78_84, u78_87, u78_88, u78_91, u78_93, u78_94, u78_95, u78_96, u78_97, u78_100, u78_101, u78_102, u78_105, u78_108, u78_111, u78_114, u78_117, u78_120, u78_121, u78_123, u78_126, u78_129, u78_130, u78_133, u78_134, u78_135, u78_138, u78_139, u78_140, u78_143, u78_146, u78_147, zk_mk_1, zk_mk_I, zk_mk_R, zk_mk_set, zk_mk_setR, zk_mk_cpy, zk_rv_some, zk_rv_none, Option.toList_some, Option.toList_none, List.cons_append, List.nil_append, reduceIte, eq_self, Nat.reduceLT, Nat.reduceEqDiff, and_true, true_and, reduceCtorEq, nI_1]
          have hiff : ∀ v, zfor (znst f n a) (znQ f n a) (2 ^ n) v ↔ znQ f n (a + 1) v := by
            intro v
            rw [znst_for]
            constructor
            · rintro (⟨a', b, q1, q2, q3⟩ | ⟨r, q1, q2, q3⟩)
              · exact ⟨a', b, q1, by omega, q3⟩
              · exact ⟨a, r, g0, by omega, q2, q3⟩
            · rintro ⟨a', b, q1, q2, q3, q4⟩
              by_cases e : a' = a
              · subst e
                exact Or.inr ⟨b, Nat.lt_of_le_of_lt (zle_le q3) hS, q3, q4⟩
              · exact Or.inl ⟨a', b, q1, by omega, q3, q4⟩
          exact ih (I3, _, _, _, _) ⟨by omega, k1, zmarks_iff k2 (fun v _ _ => hiff v), fun q => k3 ((hiff 0).mpr q)⟩
        · intro I3 w k1 k2 k3
          have e18 : I3 18 = I 18 := k1 18 (by decide)
          have hr2 : r < 2 ^ n := by omega
          have z1 : zk_inb (nI a) 1024 = true := by rw [zn_in (by omega)]; omega
          have z2 : (nI a).toNatClampNeg = a := zn_cl (by omega)
          have z3 : zk_inb (nI r) 1024 = true := by rw [zn_in (by omega)]; omega
          have z4 : (nI r).toNatClampNeg = r := zn_cl (by omega)
          obtain ⟨fd, fl⟩ := zfar_nat (a := a) (b := r) hb h10
          have y0 : (nI (zdist f n a r) = 0) = (zdist f n a r = 0) := zn_eq (b := 0) (by omega) (by decide)
          have hx1 : znx 10 (zdf (2 ^ n - 1) a) r < 2147483648 := by
            by_cases e : r = zdf (2 ^ n - 1) a
            · rw [e, znx_self]; decide
            · obtain ⟨-, n2, -⟩ := znx_next (f := 10) (show zdf (2 ^ n - 1) a < 2 ^ 10 by omega) hr e
              have := zle_le n2
              omega
          have yx : (nI (znx 10 (zdf (2 ^ n - 1) a) r) = 0) = (znx 10 (zdf (2 ^ n - 1) a) r = 0) := zn_eq (b := 0) hx1 (by decide)
          have after : ¬ zdist f n a r = 0 → ∀ (I4 : Nat → Nat → Int32), (∀ j, j ≠ 22 → I4 j = I j) → zmarks I4 22 (znst f n a r s) → zk_R sc (d + 1) 78 95 [some (.ref (15 : Nat)), some (.int (nI a)), some (.int (nI (zdf (2 ^ n - 1) a))), some (.int (nI r)), some (.int (nI i)), some (.int (nI (zdist f n a r)))] [] (zk_mk I4 tg) P := by
            intro hd0 I4 m1 m2
            have m3 : ¬ znst f n a r s 0 := fun q => q.elim k3 (fun w => hd0 w.2)
            simp only [u78_0, u78_1, u78_3, u78_6, u78_9, u78_10, u78_13, u78_14, u78_15, u78_16, u78_19, u78_22, u78_23, u78_25, u78_26, u78_29, u78_32, u78_33, u78_36, u78_37, u78_38, u78_39, u78_40, u78_41, u78_42, u78_43, u78_44, u78_48, u78_51, u78_54, u78_55, u78_58, u78_59, u78_60, u78_61, u78_64, u78_65, u78_66, u78_67, u78_70, u78_72, u78_74, u78_77, u78_78, u78_79, u78_81, u78_84, u78_87, u78_88, u78_91, u78_93, u78_94, u78_95, u78_96, u78_97, u78_100, u78_101, u78_102, u78_105, u78_108, u78_111, u78_117, u78_120, u78_121, u78_123, u78_126, u78_129, u78_130, u78_133, u78_134, u78_135, u78_138, u78_139, u78_140, u78_143, u78_146, u78_147, zk_mk_1, zk_mk_I, zk_mk_R, zk_mk_set, zk_mk_setR, zk_mk_cpy, zk_rv_some, zk_rv_none, Option.toList_some, Option.toList_none, List.cons_append, List.nil_append, reduceIte, eq_self, Nat.reduceLT, Nat.reduceEqDiff, and_true, true_and, reduceCtorEq, s66, zq_next hS2 hr, yx, nI_1]
            by_cases hz : znx 10 (zdf (2 ^ n - 1) a) r = 0
            · rw [if_pos hz]
              exact hX hz I4 _ _ _ m1 m2 m3
            · rw [if_neg hz]
              exact hW hz I4 _ m1 m2 m3
          rw [u78_46]
          simp only [u78_0, u78_1, u78_3, u78_6, u78_9, u78_10, u78_13, u78_14, u78_15, u78_16, u78_19, u78_22, u78_23, u78_25, u78_26, u78_29, u78_32, u78_33, u78_36, u78_37, u78_38, u78_39, u78_40, u78_41, u78_42, u78_43, u78_44, u78_48, u78_51, u78_54, u78_55, u78_58, u78_59, u78_60, u78_61, u78_64, u78_65, u78_66, u78_67, u78_70, u78_72, u78_74, u78_77, u78_78, u78_79, u78_81, u78_84, u78_87, u78_88, u78_91, u78_93, u78_94, u78_96, u78_97, u78_100, u78_101, u78_102, u78_105, u78_108, u78_111, u78_114, u78_117, u78_120, u78_121, u78_123, u78_126, u78_129, u78_130, u78_133, u78_134, u78_135, u78_138, u78_139, u78_140, u78_143, u78_146, u78_147, zk_mk_1, zk_mk_I, zk_mk_R, zk_mk_set, zk_mk_setR, zk_mk_cpy, zk_rv_some, zk_rv_none, Option.toList_some, Option.toList_none, List.cons_append, List.nil_append, reduceIte, eq_self, Nat.reduceLT, Nat.reduceEqDiff, and_true, true_and, reduceCtorEq, zsh_15, zsh_18, zsh_22, zrf_15_2, zrf_15_7, e18, z1, z2, z3, z4, hs a ha, hs r hr2, zw_abs, fd, y0, znar1]
          rw [if_neg (show ¬ (1024 : Int32) ≤ nI i from nI_ge (b := 1024) (by omega) (by decide))]
          by_cases hd0 : zdist f n a r = 0
          · rw [if_pos hd0]
            have K2 := K I3 k1
            rw [znext_0 ((zdt_dis hb h10).mpr ⟨a, r, g0, ha, hr, hd0⟩)] at K2
            exact K2
          · rw [if_neg hd0]
            by_cases hd : zdist f n a r < 1000
            · have hc1 : ¬ (999 : Int32) < nI (zdist f n a r) := by rw [h999, zn_lt (by decide) (by omega)]; omega
              have hc2 : nI (zdist f n a r) ≤ (999 : Int32) := Int32.not_lt.mp hc1
              have z5 : zk_inb (nI (zdist f n a r)) 1000 = true := by rw [zn_in (by omega)]; omega
              have z6 : (nI (zdist f n a r)).toNatClampNeg = zdist f n a r := zn_cl (by omega)
              simp only [hc1, hc2, z5, z6, reduceIte, true_and]
              refine after hd0 _ (fun j hj => ?_) ?_
              · rw [zk_up2_r hj]; exact k1 j hj
              · refine zmarks_iff (zmarks_up k2) (fun v _ _ => ?_)
                show (s v ∨ v = zdist f n a r) ↔ (s v ∨ (zdf r (zdf (2 ^ n - 1) a) = 0 ∧ zdist f n a r = v))
                exact ⟨fun q => q.elim Or.inl (fun w => Or.inr ⟨hr, w.symm⟩), fun q => q.elim Or.inl (fun w => Or.inr w.2.symm)⟩
            · have hc1 : (999 : Int32) < nI (zdist f n a r) := by rw [h999, zn_lt (by decide) (by omega)]; omega
              have hc2 : ¬ nI (zdist f n a r) ≤ (999 : Int32) := Int32.not_le.mpr hc1
              simp only [hc1, hc2, reduceIte]
              refine after hd0 I3 k1 (zmarks_iff k2 (fun v _ hv => ?_))
              exact ⟨fun q => Or.inl q, fun q => q.elim id (fun w => absurd w.2 (by omega))⟩)
    exact outer 1 (I', x2, x3, x4, x5) p10.1 ⟨Nat.le_refl _, h1, zmarks_iff hm (fun v _ _ => ⟨False.elim, fun ⟨a, b, q1, q2, _⟩ => by omega⟩), fun ⟨a, b, q1, q2, _⟩ => by omega⟩
  -- all is wiped first
  have wipe := zl_up (τ := Nat → Nat → Int32) (fun i I' => zk_R sc (d + 1) 78 2 [some (.ref (15 : Nat)), some (.int (nI i)), none, none, none, none] [] (zk_mk I' tg) P)
    (fun i I' => (∀ j, j ≠ 22 → I' j = I j) ∧ ∀ v, v < i → I' 22 v = 0) 1000 (by
      rintro I' ⟨h1, h2⟩
      have hcond : (999 : Int32) < nI 1000 := by decide
      have hcond2 : ¬ nI 1000 ≤ (999 : Int32) := by decide
      rw [u78_2]
      simp only [u78_0, u78_1, u78_3, u78_6, u78_9, u78_10, u78_13, u78_14, u78_15, u78_16, u78_19, u78_22, u78_23, u78_25, u78_26, u78_29, u78_32, u78_33, u78_36, u78_37, u78_38, u78_39, u78_40, u78_41, u78_42, u78_43, u78_44, u78_48, u78_51, u78_54, u78_55, u78_58, u78_59, u78_60, u78_61, u78_64, u78_65, u78_66, u78_67, u78_70, u78_72, u78_74, u78_77, u78_78, u78_79, u78_81, u78_84, u78_87, u78_88, u78_91, u78_93, u78_94, u78_95, u78_96, u78_97, u78_100, u78_101, u78_102, u78_105, u78_108, u78_111, u78_114, u78_117, u78_120, u78_121, u78_123, u78_126, u78_129, u78_130, u78_133, u78_134, u78_135, u78_138, u78_139, u78_140, u78_143, u78_146, u78_147, zk_mk_1, zk_mk_I, zk_mk_R, zk_mk_set, zk_mk_setR, zk_mk_cpy, zk_rv_some, zk_rv_none, Option.toList_some, Option.toList_none, List.cons_append, List.nil_append, reduceIte, eq_self, Nat.reduceLT, Nat.reduceEqDiff, and_true, true_and, reduceCtorEq, hcond, hcond2]
      exact main _ _ _ _ I' h1 (fun v _ hv => ⟨False.elim, fun _ => h2 v hv⟩)) (by
      rintro i I' hi ⟨h1, h2⟩ ih
      have hcond : ¬ (999 : Int32) < nI i := by rw [h999, zn_lt (by omega) (by omega)]; omega
      have hcond2 : nI i ≤ (999 : Int32) := Int32.not_lt.mp hcond
      have z1 : zk_inb (nI i) 1000 = true := by rw [zn_in (by omega)]; omega
      have z2 : (nI i).toNatClampNeg = i := zn_cl (by omega)
      rw [u78_2]
      simp only [u78_0, u78_1, u78_3, u78_6, u78_9, u78_10, u78_13, u78_14, u78_15, u78_16, u78_19, u78_22, u78_23, u78_25, u78_26, u78_29, u78_32, u78_33, u78_36, u78_37, u78_38, u78_39, u78_40, u78_41, u78_42, u78_43, u78_44, u78_48, u78_51, u78_54, u78_55, u78_58, u78_59, u78_60, u78_61, u78_64, u78_65, u78_66, u78_67, u78_70, u78_72, u78_74, u78_77, u78_78, u78_79, u78_81, u78_84, u78_87, u78_88, u78_91, u78_93, u78_94, u78_95, u78_96, u78_97, u78_100, u78_101, u78_102, u78_105, u78_108, u78_111, u78_114, u78_117, u78_120, u78_121, u78_123, u78_126, u78_129, u78_130, u78_133, u78_134, u78_135, u78_138, u78_139, u78_140, u78_143, u78_146, u78_147, zk_mk_1, zk_mk_I, zk_mk_R, zk_mk_set, zk_mk_setR, zk_mk_cpy, zk_rv_some, zk_rv_none, Option.toList_some, Option.toList_none, List.cons_append, List.nil_append, reduceIte, eq_self, Nat.reduceLT, Nat.reduceEqDiff, and_true, true_and, reduceCtorEq, zsh_15, zsh_22, zrf_15_7, hcond, hcond2, z1, z2, znar0, nI_1]
      refine ih _ ⟨fun j hj => ?_, fun v hv => ?_⟩
      · rw [zk_up2_r hj]; exact h1 j hj
      · rw [zk_up2_i]
        by_cases e : v = i
        · rw [if_pos e]
        · rw [if_neg e]; exact h2 v (by omega))
  simp only [u78_0, u78_1, u78_3, u78_6, u78_9, u78_10, u78_13, u78_14, u78_15, u78_16, u78_19, u78_22, u78_23, u78_25, u78_26, u78_29, u78_32, u78_33, u78_36, u78_37, u78_38, u78_39, u78_40, u78_41, u78_42, u78_43, u78_44, u78_48, u78_51, u78_54, u78_55, u78_58, u78_59, u78_60, u78_61, u78_64, u78_65, u78_66, u78_67, u78_70, u78_72, u78_74, u78_77, u78_78, u78_79, u78_81, u78_84, u78_87, u78_88, u78_91, u78_93, u78_94, u78_95, u78_96, u78_97, u78_100, u78_101, u78_102, u78_105, u78_108, u78_111, u78_114, u78_117, u78_120, u78_121, u78_123, u78_126, u78_129, u78_130, u78_133, u78_134, u78_135, u78_138, u78_139, u78_140, u78_143, u78_146, u78_147, zk_mk_1, zk_mk_I, zk_mk_R, zk_mk_set, zk_mk_setR, zk_mk_cpy, zk_rv_some, zk_rv_none, Option.toList_some, Option.toList_none, List.cons_append, List.nil_append, reduceIte, eq_self, Nat.reduceLT, Nat.reduceEqDiff, and_true, true_and, reduceCtorEq]
  exact wipe 0 I (Nat.zero_le _) ⟨fun _ _ => rfl, fun v hv => absurd hv (Nat.not_lt_zero _)⟩
