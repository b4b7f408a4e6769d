/-! next by both -/
noncomputable def zA_next (I : Nat → Nat → Int32) (n : Nat) (T e : Nat → Nat) : Int32 := znext (zv_now I n T e) n
theorem s31 {sc : zk_X} {d : Nat} {I : Nat → Nat → Int32} {tg : Option Nat} {P : Option Value → zk_M → Prop} {n t : Nat} {T e : Nat → Nat} (hq : zj_q I n t T e)
    (K : ∀ I' : Nat → Nat → Int32, zF I I' → P (some (.int (zA_next I n T e))) (zk_mk I' tg)) : zk_R sc (d + 6) 31 0 [some (.ref (0 : Nat))] [] (zk_mk I tg) P := by
  obtain ⟨hj, hl, hr, ht, hx⟩ := hq
  simp only [u31_0, u31_1, u31_4, u31_5, u31_8, u31_11, zk_mk_1, zk_mk_I, zk_mk_R, zk_mk_set, zk_mk_setR, zk_mk_cpy, zk_rv_some, zk_rv_none, Option.toList_some, Option.toList_none, List.cons_append, List.nil_append, reduceIte, eq_self, Nat.reduceLT, Nat.reduceEqDiff, and_true, true_and, reduceCtorEq, zsh_0]
  refine s21 hj ht hl hx (fun I' h1 h2 h3 h4 => ?_)
  simp only [u31_0, u31_1, u31_4, u31_5, u31_8, u31_11, zk_mk_1, zk_mk_I, zk_mk_R, zk_mk_set, zk_mk_setR, zk_mk_cpy, zk_rv_some, zk_rv_none, Option.toList_some, Option.toList_none, List.cons_append, List.nil_append, reduceIte, eq_self, Nat.reduceLT, Nat.reduceEqDiff, and_true, true_and, reduceCtorEq, zsh_0, zsh_15, zrf_0_7]
  refine s78 hj.2.2.1 h3 (fun h hh => (h4 h hh).1) (zv_now_bd hj) (fun I2 g1 => ?_)
  simp only [u31_0, u31_1, u31_4, u31_5, u31_8, u31_11, zk_mk_1, zk_mk_I, zk_mk_R, zk_mk_set, zk_mk_setR, zk_mk_cpy, zk_rv_some, zk_rv_none, Option.toList_some, Option.toList_none, List.cons_append, List.nil_append, reduceIte, eq_self, Nat.reduceLT, Nat.reduceEqDiff, and_true, true_and, reduceCtorEq]
  exact K I2 (h1.trans (fun j hj => g1 j (by have := zKp_no hj; omega)))
theorem zct_full {p : Nat → Bool} : ∀ {n : Nat}, zct p n = n → ∀ i, i < n → p i = true
  | 0, _, i, hi => absurd hi (Nat.not_lt_zero _)
  | n + 1, h, i, hi => by
    have := zct_le p n
    rw [zct] at h
    by_cases hp : p n = true
    · rw [if_pos hp] at h
      by_cases e : i = n
      · rw [e]; exact hp
      · exact zct_full (n := n) (by omega) i (by omega)
    · rw [if_neg hp] at h
      omega
theorem zct_all {p : Nat → Bool} : ∀ {n : Nat}, (∀ i, i < n → p i = true) → zct p n = n
  | 0, _ => rfl
  | n + 1, h => by
    rw [zct, if_pos (h n (by omega)), zct_all (fun i hi => h i (by omega))]
theorem zmany_lt {f : Nat → Int32} {n : Nat} : zmany f n < 2 ^ n ↔ zdt f n 0 := by
  have hle : zmany f n ≤ 2 ^ n := zct_le _ _
  have e0 : ∀ a b, zdist f n a b = 0 ↔ zsum f a n = zsum f b n := by
    intro a b
    unfold zdist
    rw [← zsv_eq]
    omega
  constructor
  · intro h
    refine Classical.byContradiction (fun hq => ?_)
    have : zmany f n = 2 ^ n := zct_all (fun i hi => by
      have : zles f n i = false := by
        unfold zles
        refine decide_eq_false (fun ⟨o, ho, eo⟩ => hq ⟨o, i, by omega, hi, by omega, (e0 o i).mpr eo⟩)
      rw [this]; rfl)
    omega
  · rintro ⟨a, b, ha, hb, hne, hd⟩
    have hs := (e0 a b).mp hd
    have key : ∀ x y, x < y → y < 2 ^ n → zsum f x n = zsum f y n → zmany f n < 2 ^ n := by
      intro x y hxy hy hs
      refine Classical.byContradiction (fun hq => ?_)
      have h1 := zct_full (p := fun h => !zles f n h) (n := 2 ^ n) (show zmany f n = 2 ^ n by omega) y hy
      have h2 : zles f n y = true := by
        unfold zles
        exact decide_eq_true ⟨x, hxy, hs⟩
      have h1 : (!zles f n y) = true := h1
      rw [h2] at h1
      cases h1
    rcases (show a < b ∨ b < a by omega) with h | h
    · exact key a b h hb hs
    · exact key b a h ha hs.symm
def znR (f : Nat → Int32) (n m c : Nat) (v : Nat) : Prop := ∃ a b, (a < m ∨ (a = m ∧ b < c)) ∧ b < a ∧ zdist f n a b = v
theorem s182 {sc : zk_X} {d : Nat} {I : Nat → Nat → Int32} {tg : Option Nat} {P : Option Value → zk_M → Prop} {n t : Nat} {T e : Nat → Nat} (hq : zj_q I n t T e)
    (K : ∀ I' : Nat → Nat → Int32, zF I I' → P (some (.int (zA_next I n T e))) (zk_mk I' tg)) : zk_R sc (d + 6) 182 0 [some (.ref (60 : Nat)), none, none, none] [] (zk_mk I tg) P := by
  obtain ⟨hj, hl, hr, ht, hx⟩ := hq
  have h10 := hj.2.2.1
  have p10 := zp_10 h10
  have h1000 : (1000 : Int32) = nI 1000 := rfl
  unfold zA_next at K
  simp only [u182_0, u182_1, u182_4, u182_5, u182_8, u182_9, u182_10, u182_13, u182_14, u182_17, u182_18, u182_19, u182_20, u182_22, u182_25, u182_28, u182_29, u182_32, u182_33, u182_34, u182_35, u182_38, u182_41, u182_42, u182_44, u182_45, u182_48, u182_51, u182_52, u182_54, u182_55, u182_58, u182_59, u182_62, u182_63, u182_64, u182_65, u182_68, u182_69, u182_70, u182_71, u182_74, u182_75, u182_76, u182_79, u182_80, u182_83, u182_86, u182_87, u182_90, u182_91, u182_92, u182_93, u182_96, u182_99, u182_102, u182_105, u182_106, u182_108, u182_111, u182_114, u182_115, u182_118, u182_119, u182_120, u182_123, u182_124, u182_125, u182_128, u182_131, u182_132, zk_mk_1, zk_mk_I, zk_mk_R, zk_mk_set, zk_mk_setR, zk_mk_cpy, zk_rv_some, zk_rv_none, Option.toList_some, Option.toList_none, List.cons_append, List.nil_append, reduceIte, eq_self, Nat.reduceLT, Nat.reduceEqDiff, and_true, true_and, reduceCtorEq, zsh_60]
  refine s162 hj ht hr hx (fun I1 h1 h2 h3 => ?_)
  have hn' : I1 60 0 = nI n := (h1.tab hj).2.1
  have eall : (1 : Int32) <<< (nI n &&& 31) - 1 = nI (2 ^ n - 1) := by rw [zq_all h10]; exact zn_sub (b := 1) (by omega)
  have hb : zbd (zv_now I n T e) n := zv_now_bd hj
  have hle : zmany (zv_now I n T e) n ≤ 2 ^ n := zct_le _ _
  simp only [u182_0, u182_1, u182_4, u182_5, u182_8, u182_9, u182_10, u182_13, u182_14, u182_17, u182_18, u182_19, u182_20, u182_22, u182_25, u182_28, u182_29, u182_32, u182_33, u182_34, u182_35, u182_38, u182_41, u182_42, u182_44, u182_45, u182_48, u182_51, u182_52, u182_54, u182_55, u182_58, u182_59, u182_62, u182_63, u182_64, u182_65, u182_68, u182_69, u182_70, u182_71, u182_74, u182_75, u182_76, u182_79, u182_80, u182_83, u182_86, u182_87, u182_90, u182_91, u182_92, u182_93, u182_96, u182_99, u182_102, u182_105, u182_106, u182_108, u182_111, u182_114, u182_115, u182_118, u182_119, u182_120, u182_123, u182_124, u182_125, u182_128, u182_131, u182_132, zk_mk_1, zk_mk_I, zk_mk_R, zk_mk_set, zk_mk_setR, zk_mk_cpy, zk_rv_some, zk_rv_none, Option.toList_some, Option.toList_none, List.cons_append, List.nil_append, reduceIte, eq_self, Nat.reduceLT, Nat.reduceEqDiff, and_true, true_and, reduceCtorEq, zsh_60, s180 h10 hn' h3, hn', zq_all h10]
  have K : ∀ I' : Nat → Nat → Int32, (∀ j, j ≠ 80 → I' j = I1 j) → P (some (.int (znext (zv_now I n T e) n))) (zk_mk I' tg) := fun I' h => K I' (h1.trans (fun j hj => h j (by have := zKp_no hj; omega)))
  generalize zv_now I n T e = f at *
  by_cases hm : zmany f n < 2 ^ n
  · have hm2 : nI (zmany f n) < nI (2 ^ n) := by rw [zn_lt (by omega) (by omega)]; exact hm
    first | rw [if_pos hm2] | rw [if_neg (Int32.not_le.mpr hm2)]
    have K2 := K I1 (fun _ _ => rfl)
    rw [znext_0 (zmany_lt.mp hm)] at K2
    exact K2
  · have hm2 : nI (2 ^ n) ≤ nI (zmany f n) := by rw [zn_le (by omega) (by omega)]; omega
    first | rw [if_pos hm2] | rw [if_neg (Int32.not_lt.mpr hm2)]
    have h0 : ¬ zdt f n 0 := fun q => hm (zmany_lt.mpr q)
    have hcE : nI (2 ^ n - 1) < nI (2 ^ n) := by rw [zn_lt (by omega) (by omega)]; omega
    have hcE2 : ¬ nI (2 ^ n) ≤ nI (2 ^ n - 1) := Int32.not_le.mpr hcE
    have hcI : ∀ a, a < 2 ^ n → ¬ nI (2 ^ n - 1) < nI a := fun a ha => by rw [zn_lt (by omega) (by omega)]; omega
    have hcI2 : ∀ a, a < 2 ^ n → nI a ≤ nI (2 ^ n - 1) := fun a ha => Int32.not_lt.mp (hcI a ha)
    have z1 : ∀ a, a < 2 ^ n → zk_inb (nI a) 1024 = true := fun a ha => by rw [zn_in (by omega)]; omega
    have z2 : ∀ a, a < 2 ^ n → (nI a).toNatClampNeg = a := fun a ha => zn_cl (by omega)
    have last : ∀ (x2 x3 : Option Value) (I' : Nat → Nat → Int32), (∀ j, j ≠ 80 → I' j = I1 j) → zmarks I' 80 (zdt f n) → zk_R sc (d + 6) 182 107 [some (.ref (60 : Nat)), some (.int (nI 1)), x2, x3] [] (zk_mk I' tg) P := by
      intro x2 x3 I' g1 gm
      have K2 := K I' g1
      rw [znext_1 h0] at K2
      have loop := zl_up (τ := Unit) (fun v _ => zk_R sc (d + 6) 182 107 [some (.ref (60 : Nat)), some (.int (nI v)), x2, x3] [] (zk_mk I' tg) P)
        (fun v _ => 1 ≤ v ∧ zfirst (fun v => !zdtB f n v) 1 999 = zfirst (fun v => !zdtB f n v) v (1000 - v)) 1000 (by
          rintro _ ⟨g0, g1⟩
          rw [g1] at K2
          rw [u182_107]
          have hcond : (1000 : Int32) ≤ nI 1000 := by decide
          have hcond2 : ¬ nI 1000 < (1000 : Int32) := by decide
          simp only [u182_0, u182_1, u182_4, u182_5, u182_8, u182_9, u182_10, u182_13, u182_14, u182_17, u182_18, u182_19, u182_20, u182_22, u182_25, u182_28, u182_29, u182_32, u182_33, u182_34, u182_35, u182_38, u182_41, u182_42, u182_44, u182_45, u182_48, u182_51, u182_52, u182_54, u182_55, u182_58, u182_59, u182_62, u182_63, u182_64, u182_65, u182_68, u182_69, u182_70, u182_71, u182_74, u182_75, u182_76, u182_79, u182_80, u182_83, u182_86, u182_87, u182_90, u182_91, u182_92, u182_93, u182_96, u182_99, u182_102, u182_105, u182_106, u182_108, u182_111, u182_114, u182_115, u182_118, u182_119, u182_120, u182_123, u182_124, u182_125, u182_128, u182_131, u182_132, zk_mk_1, zk_mk_I, zk_mk_R, zk_mk_set, zk_mk_setR, zk_mk_cpy, zk_rv_some, zk_rv_none, Option.toList_some, Option.toList_none, List.cons_append, List.nil_append, reduceIte, eq_self, Nat.reduceLT, Nat.reduceEqDiff, and_true, true_and, reduceCtorEq, hcond, hcond2]
          exact K2) (by
          rintro v _ hv ⟨g0, g1⟩ ih
          obtain ⟨m1, m2⟩ := gm v g0 hv
          have hcond : nI v < (1000 : Int32) := by rw [h1000, zn_lt (by omega) (by omega)]; omega
          have hcond2 : ¬ (1000 : Int32) ≤ nI v := Int32.not_le.mpr hcond
          have z3 : zk_inb (nI v) 1000 = true := by rw [zn_in (by omega)]; omega
          have z4 : (nI v).toNatClampNeg = v := zn_cl (by omega)
          have ez : zfirst (fun v => !zdtB f n v) v (1000 - v) = if (!zdtB f n v) = true then nI v else zfirst (fun v => !zdtB f n v) (v + 1) (1000 - (v + 1)) := by
            rw [show 1000 - v = (1000 - (v + 1)) + 1 by omega]; rfl
          rw [u182_107]
          simp only [u182_0, u182_1, u182_4, u182_5, u182_8, u182_9, u182_10, u182_13, u182_14, u182_17, u182_18, u182_19, u182_20, u182_22, u182_25, u182_28, u182_29, u182_32, u182_33, u182_34, u182_35, u182_38, u182_41, u182_42, u182_44, u182_45, u182_48, u182_51, u182_52, u182_54, u182_55, u182_58, u182_59, u182_62, u182_63, u182_64, u182_65, u182_68, u182_69, u182_70, u182_71, u182_74, u182_75, u182_76, u182_79, u182_80, u182_83, u182_86, u182_87, u182_90, u182_91, u182_92, u182_93, u182_96, u182_99, u182_102, u182_105, u182_106, u182_108, u182_111, u182_114, u182_115, u182_118, u182_119, u182_120, u182_123, u182_124, u182_125, u182_128, u182_131, u182_132, zk_mk_1, zk_mk_I, zk_mk_R, zk_mk_set, zk_mk_setR, zk_mk_cpy, zk_rv_some, zk_rv_none, Option.toList_some, Option.toList_none, List.cons_append, List.nil_append, reduceIte, eq_self, Nat.reduceLT, Nat.reduceEqDiff, and_true, true_and, reduceCtorEq, zsh_60, zsh_80, zrf_60_33, hcond, hcond2, z3, z4, nI_1]
          by_cases hz : zdt f n v
          · rw [m1 hz]
            simp only [show ((1 : Int32) = 0) = False from by decide, reduceIte]
            refine ih () ⟨by omega, ?_⟩
            rw [g1, ez, zdtB_t.mpr hz, if_neg (by decide)]
          · rw [m2 hz]
            have hzb : zdtB f n v = false := by
              cases hv2 : zdtB f n v with
              | true => exact absurd (zdtB_t.mp hv2) hz
              | false => rfl
            rw [g1, ez, hzb, if_pos (by decide)] at K2
            simp only [reduceIte]
            exact K2)
      exact loop 1 () (by decide) ⟨Nat.le_refl _, rfl⟩
    have main : ∀ (x2 x3 : Option Value) (I' : Nat → Nat → Int32), (∀ j, j ≠ 80 → I' j = I1 j) → zmarks I' 80 (fun _ => False) → zk_R sc (d + 6) 182 43 [some (.ref (60 : Nat)), some (.int (nI 0)), x2, x3] [] (zk_mk I' tg) P := by
      intro x2 x3 I' g1 gm
      have outer := zl_up (τ := (Nat → Nat → Int32) × Option Value × Option Value) (fun a q => zk_R sc (d + 6) 182 43 [some (.ref (60 : Nat)), some (.int (nI a)), q.2.1, q.2.2] [] (zk_mk q.1 tg) P)
        (fun a q => (∀ j, j ≠ 80 → q.1 j = I1 j) ∧ zmarks q.1 80 (znR f n a 0)) (2 ^ n) (by
          rintro ⟨I2, y2, y3⟩ ⟨k1, k2⟩
          have k1 : ∀ j, j ≠ 80 → I2 j = I1 j := k1
          have e60 : I2 60 0 = nI n := by rw [k1 60 (by decide)]; exact hn'
          have hiff : ∀ v, znR f n (2 ^ n) 0 v ↔ zdt f n v := by
            intro v
            constructor
            · rintro ⟨a, b, q1, q2, q3⟩
              exact ⟨a, b, by omega, by omega, by omega, q3⟩
            · rintro ⟨a, b, q1, q2, q3, q4⟩
              rcases (show b < a ∨ a < b by omega) with h | h
              · exact ⟨a, b, Or.inl q1, h, q4⟩
              · exact ⟨b, a, Or.inl q2, h, by rw [zdist_c]; exact q4⟩
          show zk_R sc (d + 6) 182 43 [some (.ref (60 : Nat)), some (.int (nI (2 ^ n))), y2, y3] [] (zk_mk I2 tg) P
          rw [u182_43]
          simp only [u182_0, u182_1, u182_4, u182_5, u182_8, u182_9, u182_10, u182_13, u182_14, u182_17, u182_18, u182_19, u182_20, u182_22, u182_25, u182_28, u182_29, u182_32, u182_33, u182_34, u182_35, u182_38, u182_41, u182_42, u182_44, u182_45, u182_48, u182_51, u182_52, u182_54, u182_55, u182_58, u182_59, u182_62, u182_63, u182_64, u182_65, u182_68, u182_69, u182_70, u182_71, u182_74, u182_75, u182_76, u182_79, u182_80, u182_83, u182_86, u182_87, u182_90, u182_91, u182_92, u182_93, u182_96, u182_99, u182_102, u182_105, u182_106, u182_108, u182_111, u182_114, u182_115, u182_118, u182_119, u182_120, u182_123, u182_124, u182_125, u182_128, u182_131, u182_132, zk_mk_1, zk_mk_I, zk_mk_R, zk_mk_set, zk_mk_setR, zk_mk_cpy, zk_rv_some, zk_rv_none, Option.toList_some, Option.toList_none, List.cons_append, List.nil_append, reduceIte, eq_self, Nat.reduceLT, Nat.reduceEqDiff, and_true, true_and, reduceCtorEq, zsh_60, s161, e60, eall, hcE, hcE2]
          exact last _ _ I2 k1 (zmarks_iff k2 (fun v _ _ => hiff v))) (by
          rintro a ⟨I2, y2, y3⟩ ha ⟨k1, k2⟩ ih
          have k1 : ∀ j, j ≠ 80 → I2 j = I1 j := k1
          have e60 : I2 60 0 = nI n := by rw [k1 60 (by decide)]; exact hn'
          have inner := zl_up (τ := (Nat → Nat → Int32) × Option Value) (fun b q => zk_R sc (d + 6) 182 53 [some (.ref (60 : Nat)), some (.int (nI a)), some (.int (nI b)), q.2] [] (zk_mk q.1 tg) P)
            (fun b q => (∀ j, j ≠ 80 → q.1 j = I1 j) ∧ zmarks q.1 80 (znR f n a b)) a (by
              rintro ⟨I3, y3⟩ ⟨m1, m2⟩
              show zk_R sc (d + 6) 182 53 [some (.ref (60 : Nat)), some (.int (nI a)), some (.int (nI a)), y3] [] (zk_mk I3 tg) P
              rw [u182_53]
              simp only [u182_0, u182_1, u182_4, u182_5, u182_8, u182_9, u182_10, u182_13, u182_14, u182_17, u182_18, u182_19, u182_20, u182_22, u182_25, u182_28, u182_29, u182_32, u182_33, u182_34, u182_35, u182_38, u182_41, u182_42, u182_44, u182_45, u182_48, u182_51, u182_52, u182_54, u182_55, u182_58, u182_59, u182_62, u182_63, u182_64, u182_65, u182_68, u182_69, u182_70, u182_71, u182_74, u182_75, u182_76, u182_79, u182_80, u182_83, u182_86, u182_87, u182_90, u182_91, u182_92, u182_93, u182_96, u182_99, u182_102, u182_105, u182_106, u182_108, u182_111, u182_114, u182_115, u182_118, u182_119, u182_120, u182_123, u182_124, u182_125, u182_128, u182_131, u182_132, zk_mk_1, zk_mk_I, zk_mk_R, zk_mk_set, zk_mk_setR, zk_mk_cpy, zk_rv_some, zk_rv_none, Option.toList_some, Option.toList_none, List.cons_append, List.nil_append, reduceIte, eq_self, Nat.reduceLT, Nat.reduceEqDiff, and_true, true_and, reduceCtorEq, nI_1]
              rw [if_pos (nI_le (Nat.le_refl _) (by omega))]
              refine ih (I3, _, _) ⟨m1, zmarks_iff m2 (fun v _ _ => ?_)⟩
              constructor
              · rintro ⟨a', b, q1, q2, q3⟩
                exact ⟨a', b, Or.inl (by omega), q2, q3⟩
              · rintro ⟨a', b, q1, q2, q3⟩
                refine ⟨a', b, ?_, q2, q3⟩
                omega) (by
              rintro b ⟨I3, y3⟩ hb2 ⟨m1, m2⟩ ih2
              have m1 : ∀ j, j ≠ 80 → I3 j = I1 j := m1
              have m2 : zmarks I3 80 (znR f n a b) := m2
              have e78 : I3 78 = I1 78 := m1 78 (by decide)
              obtain ⟨fd, fl⟩ := zfar_nat (a := a) (b := b) hb h10
              show zk_R sc (d + 6) 182 53 [some (.ref (60 : Nat)), some (.int (nI a)), some (.int (nI b)), y3] [] (zk_mk I3 tg) P
              rw [u182_53]
              simp only [u182_0, u182_1, u182_4, u182_5, u182_8, u182_9, u182_10, u182_13, u182_14, u182_17, u182_18, u182_19, u182_20, u182_22, u182_25, u182_28, u182_29, u182_32, u182_33, u182_34, u182_35, u182_38, u182_41, u182_42, u182_44, u182_45, u182_48, u182_51, u182_52, u182_54, u182_55, u182_58, u182_59, u182_62, u182_63, u182_64, u182_65, u182_68, u182_69, u182_70, u182_71, u182_74, u182_75, u182_76, u182_79, u182_80, u182_83, u182_86, u182_87, u182_90, u182_91, u182_92, u182_93, u182_96, u182_99, u182_102, u182_105, u182_106, u182_108, u182_111, u182_114, u182_115, u182_118, u182_119, u182_120, u182_123, u182_124, u182_125, u182_128, u182_131, u182_132, zk_mk_1, zk_mk_I, zk_mk_R, zk_mk_set, zk_mk_setR, zk_mk_cpy, zk_rv_some, zk_rv_none, Option.toList_some, Option.toList_none, List.cons_append, List.nil_append, reduceIte, eq_self, Nat.reduceLT, Nat.reduceEqDiff, and_true, true_and, reduceCtorEq, zsh_60, zsh_78, zsh_80, zrf_60_31, zrf_60_33, e78, z1 a ha, z2 a ha, z1 b (by omega), z2 b (by omega), (h3 a ha).1, (h3 b (by omega)).1, s172, fd, znar1, nI_1]
              rw [if_neg (nI_ge hb2 (by omega))]
              by_cases hd : zdist f n a b < 1000
              · have hc1 : nI (zdist f n a b) < (1000 : Int32) := by rw [h1000, zn_lt (by omega) (by decide)]; exact hd
                have hc2 : ¬ (1000 : Int32) ≤ nI (zdist f n a b) := Int32.not_le.mpr hc1
                have z5 : zk_inb (nI (zdist f n a b)) 1000 = true := by rw [zn_in (by omega)]; omega
                have z6 : (nI (zdist f n a b)).toNatClampNeg = zdist f n a b := zn_cl (by omega)
                simp only [hc1, hc2, z5, z6, reduceIte, true_and]
                refine ih2 (_, _) ⟨fun j hj => ?_, ?_⟩
                · show zk_up2 I3 80 _ _ j = _
                  rw [zk_up2_r hj]; exact m1 j hj
                · refine zmarks_iff (zmarks_up m2) (fun v _ _ => ?_)
                  constructor
                  · rintro (⟨a', b', q1, q2, q3⟩ | q)
                    · exact ⟨a', b', by omega, q2, q3⟩
                    · exact ⟨a, b, Or.inr ⟨rfl, Nat.lt_succ_self _⟩, hb2, q.symm⟩
                  · rintro ⟨a', b', q1, q2, q3⟩
                    by_cases e : a' = a ∧ b' = b
                    · refine Or.inr ?_
                      rw [← q3, e.1, e.2]
                    · exact Or.inl ⟨a', b', by omega, q2, q3⟩
              · have hc1 : (1000 : Int32) ≤ nI (zdist f n a b) := by rw [h1000, zn_le (by decide) (by omega)]; omega
                have hc2 : ¬ nI (zdist f n a b) < (1000 : Int32) := Int32.not_lt.mpr hc1
                simp only [hc1, hc2, reduceIte, show zk_inb (0 : Int32) 1000 = true from by decide, show (0 : Int32).toNatClampNeg = 0 from by decide, true_and]
                refine ih2 (_, _) ⟨fun j hj => ?_, ?_⟩
                · show zk_up2 I3 80 _ _ j = _
                  rw [zk_up2_r hj]; exact m1 j hj
                · refine zmarks_iff (zmarks_up m2) (fun v hv1 hv2 => ?_)
                  constructor
                  · rintro (⟨a', b', q1, q2, q3⟩ | q)
                    · exact ⟨a', b', by omega, q2, q3⟩
                    · omega
                  · rintro ⟨a', b', q1, q2, q3⟩
                    by_cases e : a' = a ∧ b' = b
                    · rw [e.1, e.2] at q3
                      omega
                    · exact Or.inl ⟨a', b', by omega, q2, q3⟩)
          show zk_R sc (d + 6) 182 43 [some (.ref (60 : Nat)), some (.int (nI a)), y2, y3] [] (zk_mk I2 tg) P
          rw [u182_43]
          simp only [u182_0, u182_1, u182_4, u182_5, u182_8, u182_9, u182_10, u182_13, u182_14, u182_17, u182_18, u182_19, u182_20, u182_22, u182_25, u182_28, u182_29, u182_32, u182_33, u182_34, u182_35, u182_38, u182_41, u182_42, u182_44, u182_45, u182_48, u182_51, u182_52, u182_54, u182_55, u182_58, u182_59, u182_62, u182_63, u182_64, u182_65, u182_68, u182_69, u182_70, u182_71, u182_74, u182_75, u182_76, u182_79, u182_80, u182_83, u182_86, u182_87, u182_90, u182_91, u182_92, u182_93, u182_96, u182_99, u182_102, u182_105, u182_106, u182_108, u182_111, u182_114, u182_115, u182_118, u182_119, u182_120, u182_123, u182_124, u182_125, u182_128, u182_131, u182_132, zk_mk_1, zk_mk_I, zk_mk_R, zk_mk_set, zk_mk_setR, zk_mk_cpy, zk_rv_some, zk_rv_none, Option.toList_some, Option.toList_none, List.cons_append, List.nil_append, reduceIte, eq_self, Nat.reduceLT, Nat.reduceEqDiff, and_true, true_and, reduceCtorEq, zsh_60, s161, e60, eall, hcI a ha, hcI2 a ha]
          exact inner 0 (I2, y3) (Nat.zero_le _) ⟨k1, k2⟩)
      exact outer 0 (I', x2, x3) (Nat.zero_le _) ⟨g1, zmarks_iff gm (fun v _ _ => ⟨False.elim, fun ⟨a, b, q1, q2, _⟩ => by omega⟩)⟩
    have wipe := zl_up (τ := Nat → Nat → Int32) (fun i I' => zk_R sc (d + 6) 182 21 [some (.ref (60 : Nat)), some (.int (nI i)), none, none] [] (zk_mk I' tg) P)
      (fun i I' => (∀ j, j ≠ 80 → I' j = I1 j) ∧ ∀ v, v < i → I' 80 v = 0) 1000 (by
        rintro I' ⟨g1, g2⟩
        have hcond : (1000 : Int32) ≤ nI 1000 := by decide
        have hcond2 : ¬ nI 1000 < (1000 : Int32) := by decide
        rw [u182_21]
        simp only [u182_0, u182_1, u182_4, u182_5, u182_8, u182_9, u182_10, u182_13, u182_14, u182_17, u182_18, u182_19, u182_20, u182_22, u182_25, u182_28, u182_29, u182_32, u182_33, u182_34, u182_35, u182_38, u182_41, u182_42, u182_44, u182_45, u182_48, u182_51, u182_52, u182_54, u182_55, u182_58, u182_59, u182_62, u182_63, u182_64, u182_65, u182_68, u182_69, u182_70, u182_71, u182_74, u182_75, u182_76, u182_79, u182_80, u182_83, u182_86, u182_87, u182_90, u182_91, u182_92, u182_93, u182_96, u182_99, u182_102, u182_105, u182_106, u182_108, u182_111, u182_114, u182_115, u182_118, u182_119, u182_120, u182_123, u182_124, u182_125, u182_128, u182_131, u182_132, zk_mk_1, zk_mk_I, zk_mk_R, zk_mk_set, zk_mk_setR, zk_mk_cpy, zk_rv_some, zk_rv_none, Option.toList_some, Option.toList_none, List.cons_append, List.nil_append, reduceIte, eq_self, Nat.reduceLT, Nat.reduceEqDiff, and_true, true_and, reduceCtorEq, hcond, hcond2]
        exact main _ _ I' g1 (fun v _ hv => ⟨False.elim, fun _ => g2 v hv⟩)) (by
        rintro i I' hi ⟨g1, g2⟩ ih
        have hcond : nI i < (1000 : Int32) := by rw [h1000, zn_lt (by omega) (by omega)]; omega
        have hcond2 : ¬ (1000 : Int32) ≤ nI i := Int32.not_le.mpr hcond
        have z3 : zk_inb (nI i) 1000 = true := by rw [zn_in (by omega)]; omega
        have z4 : (nI i).toNatClampNeg = i := zn_cl (by omega)
        rw [u182_21]
        simp only [u182_0, u182_1, u182_4, u182_5, u182_8, u182_9, u182_10, u182_13, u182_14, u182_17, u182_18, u182_19, u182_20, u182_22, u182_25, u182_28, u182_29, u182_32, u182_33, u182_34, u182_35, u182_38, u182_41, u182_42, u182_44, u182_45, u182_48, u182_51, u182_52, u182_54, u182_55, u182_58, u182_59, u182_62, u182_63, u182_64, u182_65, u182_68, u182_69, u182_70, u182_71, u182_74, u182_75, u182_76, u182_79, u182_80, u182_83, u182_86, u182_87, u182_90, u182_91, u182_92, u182_93, u182_96, u182_99, u182_102, u182_105, u182_106, u182_108, u182_111, u182_114, u182_115, u182_118, u182_119, u182_120, u182_123, u182_124, u182_125, u182_128, u182_131, u182_132, zk_mk_1, zk_mk_I, zk_mk_R, zk_mk_set, zk_mk_setR, zk_mk_cpy, zk_rv_some, zk_rv_none, Option.toList_some, Option.toList_none, List.cons_append, List.nil_append, reduceIte, eq_self, Nat.reduceLT, Nat.reduceEqDiff, and_true, true_and, reduceCtorEq, zsh_60, zsh_80, zrf_60_33, hcond, hcond2, z3, z4, znar0, nI_1]
        refine ih _ ⟨fun j hj => ?_, fun v hv => ?_⟩
        · rw [zk_up2_r hj]; exact g1 j hj
        · rw [zk_up2_i]
          by_cases e : v = i
          · rw [if_pos e]
          · rw [if_neg e]; exact g2 v (by omega))
    exact wipe 0 I1 (Nat.zero_le _) ⟨fun _ _ => rfl, fun v hv => absurd hv (Nat.not_lt_zero _)⟩
