/-! copy by both -/
def zfit (z : Nat) (i n : Int32) : Prop := 0 ≤ i.toInt ∧ 0 ≤ n.toInt ∧ i.toInt + n.toInt ≤ (z : Int)
theorem zfit_nat {z : Nat} {i n : Int32} (hz : z ≤ 40) (h : zfit z i n) : ∃ a b : Nat, a + b ≤ z ∧ i = nI a ∧ n = nI b := by
  obtain ⟨h1, h2, h3⟩ := h
  refine ⟨i.toInt.toNat, n.toInt.toNat, by omega, ?_, ?_⟩
  · apply Int32.toInt.inj; rw [nI_toInt (by omega)]; omega
  · apply Int32.toInt.inj; rw [nI_toInt (by omega)]; omega
theorem zfit_t {z : Nat} {i n : Int32} (hz : z ≤ 40) : (0 ≤ i ∧ 0 ≤ n ∧ n ≤ nI z ∧ i ≤ nI z - n) = zfit z i n := by
  unfold zfit
  have ez : (nI z).toInt = z := nI_toInt (by omega)
  apply propext
  simp only [Int32.le_iff_toInt_le, zn_zi, ez]
  constructor
  · rintro ⟨h1, h2, h3, h4⟩
    rw [zi_sub (by omega) (by omega) (by omega) (by omega), ez] at h4
    omega
  · rintro ⟨h1, h2, h3⟩
    refine ⟨h1, h2, by omega, ?_⟩
    rw [zi_sub (by omega) (by omega) (by omega) (by omega), ez]
    omega
theorem s90 {sc : zk_X} {d : Nat} {I : Nat → Nat → Int32} {tg : Option Nat} {P : Option Value → zk_M → Prop} {s : Nat} {i n : Int32} (hs : s < 4) : zk_R sc d 90 0 [some (.ref (52 + 2 * s)), some (.int i), some (.int n)] [] (zk_mk I tg) P = P (some (.int (zb (0 ≤ i ∧ 0 ≤ n ∧ n ≤ I (52 + 2 * s) 2 ∧ i ≤ I (52 + 2 * s) 2 - n)))) (zk_mk I tg) := by
  obtain ⟨x3, x4, x5, x6⟩ := zx_s1 hs
  simp only [u90_0, u90_1, u90_4, u90_5, u90_8, u90_9, u90_10, u90_13, u90_16, u90_17, u90_18, u90_21, u90_22, u90_23, u90_26, u90_27, u90_30, u90_31, zk_mk_1, zk_mk_I, zk_mk_R, zk_mk_set, zk_mk_setR, zk_mk_cpy, zk_rv_some, zk_rv_none, Option.toList_some, Option.toList_none, List.cons_append, List.nil_append, reduceIte, eq_self, Nat.reduceLT, Nat.reduceEqDiff, and_true, true_and, reduceCtorEq, x3, x5, true_or, or_true, zb, ← Int32.not_lt]
  (repeat' split) <;> simp_all
theorem s90y {sc : zk_X} {d : Nat} {I : Nat → Nat → Int32} {tg : Option Nat} {P : Option Value → zk_M → Prop} {s z : Nat} {i n : Int32} (hs : s < 4) (h2 : I (52 + 2 * s) 2 = nI z) (hz : z ≤ 40) (hf : zfit z i n) : zk_R sc d 90 0 [some (.ref (52 + 2 * s)), some (.int i), some (.int n)] [] (zk_mk I tg) P = P (some (.int 1)) (zk_mk I tg) := by
  rw [s90 hs, zb_t (by rw [h2, zfit_t hz]; exact hf)]
theorem s90n {sc : zk_X} {d : Nat} {I : Nat → Nat → Int32} {tg : Option Nat} {P : Option Value → zk_M → Prop} {s z : Nat} {i n : Int32} (hs : s < 4) (h2 : I (52 + 2 * s) 2 = nI z) (hz : z ≤ 40) (hf : ¬ zfit z i n) : zk_R sc d 90 0 [some (.ref (52 + 2 * s)), some (.int i), some (.int n)] [] (zk_mk I tg) P = P (some (.int 0)) (zk_mk I tg) := by
  rw [s90 hs, zb_f (by rw [h2, zfit_t hz]; exact hf)]
noncomputable def zA_copy (I : Nat → Nat → Int32) (Z : Nat → Nat) (s i o j n : Int32) : Int32 := if (0 ≤ s ∧ s < 4) ∧ 0 ≤ o ∧ o < 4 then (if I (52 + 2 * s.toNatClampNeg) 1 = -1 ∨ I (52 + 2 * o.toNatClampNeg) 1 = -1 then -11 else if ¬ I (52 + 2 * s.toNatClampNeg) 1 = I (52 + 2 * o.toNatClampNeg) 1 then -13 else @ite _ (zfit (Z s.toNatClampNeg) i n ∧ zfit (Z o.toNatClampNeg) j n) (Classical.propDecidable _) n (-12)) else -2
/-- nothing changes, or a row of cells is taken over -/
def zMy (I I1 : Nat → Nat → Int32) (Z : Nat → Nat) (s i o j n : Int32) : Prop := (I1 = I ∧ ¬ ((0 ≤ s ∧ s < 4) ∧ (0 ≤ o ∧ o < 4) ∧ (¬ (I (52 + 2 * s.toNatClampNeg) 1 = -1 ∨ I (52 + 2 * o.toNatClampNeg) 1 = -1)) ∧ I (52 + 2 * s.toNatClampNeg) 1 = I (52 + 2 * o.toNatClampNeg) 1 ∧ zfit (Z s.toNatClampNeg) i n ∧ zfit (Z o.toNatClampNeg) j n)) ∨ ∃ ks a ko b l, ks < 4 ∧ ko < 4 ∧ s = nI ks ∧ o = nI ko ∧ i = nI a ∧ j = nI b ∧ n = nI l ∧ a + l ≤ Z ks ∧ b + l ≤ Z ko ∧ (¬ (I (52 + 2 * ks) 1 = -1 ∨ I (52 + 2 * ko) 1 = -1)) ∧ I (52 + 2 * ks) 1 = I (52 + 2 * ko) 1 ∧ I1 = zk_cp2 I (53 + 2 * ks) a (53 + 2 * ko) b l
theorem zn_nn (a : Nat) (h : a < 2147483648) : 0 ≤ (nI a).toInt := by rw [nI_toInt h]; omega
theorem s56 {sc : zk_X} {d : Nat} {I : Nat → Nat → Int32} {tg : Option Nat} {P : Option Value → zk_M → Prop} {Z : Nat → Nat} {s i o j n : Int32} (hz : zj_sh I Z)
    (K : ∀ I1 : Nat → Nat → Int32, zMy I I1 Z s i o j n → P (some (.int (zA_copy I Z s i o j n))) (zk_mk I1 tg)) : zk_R sc (d + 1) 56 0 [some (.ref (0 : Nat)), some (.int s), some (.int i), some (.int o), some (.int j), some (.int n)] [] (zk_mk I tg) P := by
  simp only [u56_0, u56_1, u56_4, u56_7, u56_8, u56_11, u56_14, u56_16, u56_17, u56_18, u56_21, u56_22, u56_23, u56_26, u56_27, u56_30, u56_31, u56_34, u56_35, u56_36, u56_39, u56_40, u56_43, u56_45, u56_46, u56_47, u56_50, u56_51, u56_52, u56_55, u56_56, u56_59, u56_60, u56_61, u56_64, u56_67, u56_69, u56_70, u56_71, u56_74, u56_75, u56_76, u56_77, u56_79, u56_82, u56_85, u56_86, u56_89, u56_90, u56_91, u56_93, u56_95, u56_98, u56_101, u56_103, u56_104, u56_105, u56_108, u56_109, u56_110, u56_113, u56_114, u56_115, u56_118, u56_119, u56_120, u56_123, u56_125, u56_127, u56_130, u56_132, zk_mk_1, zk_mk_I, zk_mk_R, zk_mk_set, zk_mk_setR, zk_mk_cpy, zk_rv_some, zk_rv_none, Option.toList_some, Option.toList_none, List.cons_append, List.nil_append, reduceIte, eq_self, Nat.reduceLT, Nat.reduceEqDiff, and_true, true_and, reduceCtorEq, zsh_0, s38, zb_z]
  by_cases hs : 0 ≤ s ∧ s < 4
  · rw [if_neg (fun q => q hs)]
    by_cases ho : 0 ≤ o ∧ o < 4
    · rw [if_neg (fun q => q ho)]
      obtain ⟨k, hk, rfl⟩ := zn_of (m := 4) hs.1 hs.2 (by decide)
      obtain ⟨p, hp, rfl⟩ := zn_of (m := 4) ho.1 ho.2 (by decide)
      have y1 : zk_inb (nI k) 4 = true := by rw [zn_in (by omega)]; omega
      have y2 : (nI k).toNatClampNeg = k := zn_cl (by omega)
      have y3 : zk_inb (nI p) 4 = true := by rw [zn_in (by omega)]; omega
      have y4 : (nI p).toNatClampNeg = p := zn_cl (by omega)
      obtain ⟨x1, x2⟩ := zx_s hk tg
      obtain ⟨x3, x4, x5, x6⟩ := zx_s1 hk
      obtain ⟨w1, w2⟩ := zx_s hp tg
      obtain ⟨w3, w4, w5, w6⟩ := zx_s1 hp
      obtain ⟨q1, q2, q3, q4, q5⟩ := hz k hk
      obtain ⟨r1, r2, r3, r4, r5⟩ := hz p hp
      unfold zA_copy zMy at K
      rw [if_pos ⟨hs, ho⟩] at K
      rw [y2, y4] at K
      simp only [u56_0, u56_1, u56_4, u56_7, u56_8, u56_11, u56_14, u56_16, u56_17, u56_18, u56_21, u56_22, u56_23, u56_26, u56_27, u56_30, u56_31, u56_34, u56_35, u56_36, u56_39, u56_40, u56_43, u56_45, u56_46, u56_47, u56_50, u56_51, u56_52, u56_55, u56_56, u56_59, u56_60, u56_61, u56_64, u56_67, u56_69, u56_70, u56_71, u56_74, u56_75, u56_76, u56_77, u56_79, u56_82, u56_85, u56_86, u56_89, u56_90, u56_91, u56_93, u56_95, u56_98, u56_101, u56_103, u56_104, u56_105, u56_108, u56_109, u56_110, u56_113, u56_114, u56_115, u56_118, u56_119, u56_120, u56_123, u56_125, u56_127, u56_130, u56_132, zk_mk_1, zk_mk_I, zk_mk_R, zk_mk_set, zk_mk_setR, zk_mk_cpy, zk_rv_some, zk_rv_none, Option.toList_some, Option.toList_none, List.cons_append, List.nil_append, reduceIte, eq_self, Nat.reduceLT, Nat.reduceEqDiff, and_true, true_and, reduceCtorEq, zsh_0, zsh_26, zrf_0_8, y1, y2, y3, y4, x1, x2, x3, x4, x5, x6, w1, w2, w3, w4, w5, w6]
      by_cases c1 : I (52 + 2 * k) 1 = -1
      · rw [if_pos c1]
        rw [if_pos (Or.inl c1)] at K
        exact K I (Or.inl ⟨rfl, fun w => w.2.2.1 (Or.inl c1)⟩)
      · rw [if_neg c1]
        by_cases c2 : I (52 + 2 * p) 1 = -1
        · rw [if_pos c2]
          rw [if_pos (Or.inr c2)] at K
          exact K I (Or.inl ⟨rfl, fun w => w.2.2.1 (Or.inr c2)⟩)
        · rw [if_neg c2]
          rw [if_neg (fun w => w.elim c1 c2)] at K
          by_cases c3 : I (52 + 2 * k) 1 = I (52 + 2 * p) 1
          · rw [if_pos c3]
            rw [if_neg (fun w => w c3)] at K
            have one : ((1 : Int32) = 0) = False := by decide
            by_cases f1 : zfit (Z k) i n
            · rw [s90y hk q2 q4 f1]
              by_cases f2 : zfit (Z p) j n
              · rw [if_pos ⟨f1, f2⟩] at K
                simp only [one, u56_0, u56_1, u56_4, u56_7, u56_8, u56_11, u56_14, u56_16, u56_17, u56_18, u56_21, u56_22, u56_23, u56_26, u56_27, u56_30, u56_31, u56_34, u56_35, u56_36, u56_39, u56_40, u56_43, u56_45, u56_46, u56_47, u56_50, u56_51, u56_52, u56_55, u56_56, u56_59, u56_60, u56_61, u56_64, u56_67, u56_69, u56_70, u56_71, u56_74, u56_75, u56_76, u56_77, u56_79, u56_82, u56_85, u56_86, u56_89, u56_90, u56_91, u56_93, u56_95, u56_98, u56_101, u56_103, u56_104, u56_105, u56_108, u56_109, u56_110, u56_113, u56_114, u56_115, u56_118, u56_119, u56_120, u56_123, u56_125, u56_127, u56_130, u56_132, zk_mk_1, zk_mk_I, zk_mk_R, zk_mk_set, zk_mk_setR, zk_mk_cpy, zk_rv_some, zk_rv_none, Option.toList_some, Option.toList_none, List.cons_append, List.nil_append, reduceIte, eq_self, Nat.reduceLT, Nat.reduceEqDiff, and_true, true_and, reduceCtorEq, zsh_0, zsh_26, zrf_0_8, y1, y2, y3, y4, x1, x2, x3, x4, x5, x6, w1, w2, w3, w4, w5, w6]
                rw [s90y hp r2 r4 f2]
                obtain ⟨a, l, hal, rfl, rfl⟩ := zfit_nat q4 f1
                obtain ⟨b, l', hbl, rfl, el⟩ := zfit_nat r4 f2
                have el : l = l' := by rw [zn_eq (by omega) (by omega)] at el; exact el
                subst el
                have v1 : (nI a).toNatClampNeg = a := zn_cl (by omega)
                have v2 : (nI b).toNatClampNeg = b := zn_cl (by omega)
                have v3 : (nI l).toNatClampNeg = l := zn_cl (by omega)
                have t1 : (nI a).toInt = a := nI_toInt (by omega)
                have t2 : (nI b).toInt = b := nI_toInt (by omega)
                have t3 : (nI l).toInt = l := nI_toInt (by omega)
                have u1 : ((nI a).toInt + (nI l).toInt ≤ ((40 : Nat) : Int)) = True := by rw [t1, t3]; simp; omega
                have u2 : ((nI b).toInt + (nI l).toInt ≤ ((40 : Nat) : Int)) = True := by rw [t2, t3]; simp; omega
                have u3 : (0 ≤ (nI a).toInt) = True := by rw [t1]; simp
                have u4 : (0 ≤ (nI b).toInt) = True := by rw [t2]; simp
                have u5 : (0 ≤ (nI l).toInt) = True := by rw [t3]; simp
                simp only [one, u56_0, u56_1, u56_4, u56_7, u56_8, u56_11, u56_14, u56_16, u56_17, u56_18, u56_21, u56_22, u56_23, u56_26, u56_27, u56_30, u56_31, u56_34, u56_35, u56_36, u56_39, u56_40, u56_43, u56_45, u56_46, u56_47, u56_50, u56_51, u56_52, u56_55, u56_56, u56_59, u56_60, u56_61, u56_64, u56_67, u56_69, u56_70, u56_71, u56_74, u56_75, u56_76, u56_77, u56_79, u56_82, u56_85, u56_86, u56_89, u56_90, u56_91, u56_93, u56_95, u56_98, u56_101, u56_103, u56_104, u56_105, u56_108, u56_109, u56_110, u56_113, u56_114, u56_115, u56_118, u56_119, u56_120, u56_123, u56_125, u56_127, u56_130, u56_132, zk_mk_1, zk_mk_I, zk_mk_R, zk_mk_set, zk_mk_setR, zk_mk_cpy, zk_rv_some, zk_rv_none, Option.toList_some, Option.toList_none, List.cons_append, List.nil_append, reduceIte, eq_self, Nat.reduceLT, Nat.reduceEqDiff, and_true, true_and, reduceCtorEq, zsh_0, zsh_26, zrf_0_8, y1, y2, y3, y4, x1, x2, x3, x4, x5, x6, w1, w2, w3, w4, w5, w6, v1, v2, v3, u1, u2, u3, u4, u5, Nat.le_refl]
                exact K _ (Or.inr ⟨k, a, p, b, l, hk, hp, rfl, rfl, rfl, rfl, rfl, hal, hbl, fun w => w.elim c1 c2, c3, rfl⟩)
              · rw [if_neg (fun w => f2 w.2)] at K
                simp only [one, u56_0, u56_1, u56_4, u56_7, u56_8, u56_11, u56_14, u56_16, u56_17, u56_18, u56_21, u56_22, u56_23, u56_26, u56_27, u56_30, u56_31, u56_34, u56_35, u56_36, u56_39, u56_40, u56_43, u56_45, u56_46, u56_47, u56_50, u56_51, u56_52, u56_55, u56_56, u56_59, u56_60, u56_61, u56_64, u56_67, u56_69, u56_70, u56_71, u56_74, u56_75, u56_76, u56_77, u56_79, u56_82, u56_85, u56_86, u56_89, u56_90, u56_91, u56_93, u56_95, u56_98, u56_101, u56_103, u56_104, u56_105, u56_108, u56_109, u56_110, u56_113, u56_114, u56_115, u56_118, u56_119, u56_120, u56_123, u56_125, u56_127, u56_130, u56_132, zk_mk_1, zk_mk_I, zk_mk_R, zk_mk_set, zk_mk_setR, zk_mk_cpy, zk_rv_some, zk_rv_none, Option.toList_some, Option.toList_none, List.cons_append, List.nil_append, reduceIte, eq_self, Nat.reduceLT, Nat.reduceEqDiff, and_true, true_and, reduceCtorEq, zsh_0, zsh_26, zrf_0_8, y1, y2, y3, y4, x1, x2, x3, x4, x5, x6, w1, w2, w3, w4, w5, w6]
                rw [s90n hp r2 r4 f2]
                simp only [one, u56_0, u56_1, u56_4, u56_7, u56_8, u56_11, u56_14, u56_16, u56_17, u56_18, u56_21, u56_22, u56_23, u56_26, u56_27, u56_30, u56_31, u56_34, u56_35, u56_36, u56_39, u56_40, u56_43, u56_45, u56_46, u56_47, u56_50, u56_51, u56_52, u56_55, u56_56, u56_59, u56_60, u56_61, u56_64, u56_67, u56_69, u56_70, u56_71, u56_74, u56_75, u56_76, u56_77, u56_79, u56_82, u56_85, u56_86, u56_89, u56_90, u56_91, u56_93, u56_95, u56_98, u56_101, u56_103, u56_104, u56_105, u56_108, u56_109, u56_110, u56_113, u56_114, u56_115, u56_118, u56_119, u56_120, u56_123, u56_125, u56_127, u56_130, u56_132, zk_mk_1, zk_mk_I, zk_mk_R, zk_mk_set, zk_mk_setR, zk_mk_cpy, zk_rv_some, zk_rv_none, Option.toList_some, Option.toList_none, List.cons_append, List.nil_append, reduceIte, eq_self, Nat.reduceLT, Nat.reduceEqDiff, and_true, true_and, reduceCtorEq, zsh_0, zsh_26, zrf_0_8, y1, y2, y3, y4, x1, x2, x3, x4, x5, x6, w1, w2, w3, w4, w5, w6]
                exact K I (Or.inl ⟨rfl, fun w => f2 w.2.2.2.2.2⟩)
            · rw [s90n hk q2 q4 f1]
              rw [if_neg (fun w => f1 w.1)] at K
              simp only [one, u56_0, u56_1, u56_4, u56_7, u56_8, u56_11, u56_14, u56_16, u56_17, u56_18, u56_21, u56_22, u56_23, u56_26, u56_27, u56_30, u56_31, u56_34, u56_35, u56_36, u56_39, u56_40, u56_43, u56_45, u56_46, u56_47, u56_50, u56_51, u56_52, u56_55, u56_56, u56_59, u56_60, u56_61, u56_64, u56_67, u56_69, u56_70, u56_71, u56_74, u56_75, u56_76, u56_77, u56_79, u56_82, u56_85, u56_86, u56_89, u56_90, u56_91, u56_93, u56_95, u56_98, u56_101, u56_103, u56_104, u56_105, u56_108, u56_109, u56_110, u56_113, u56_114, u56_115, u56_118, u56_119, u56_120, u56_123, u56_125, u56_127, u56_130, u56_132, zk_mk_1, zk_mk_I, zk_mk_R, zk_mk_set, zk_mk_setR, zk_mk_cpy, zk_rv_some, zk_rv_none, Option.toList_some, Option.toList_none, List.cons_append, List.nil_append, reduceIte, eq_self, Nat.reduceLT, Nat.reduceEqDiff, and_true, true_and, reduceCtorEq, zsh_0, zsh_26, zrf_0_8, y1, y2, y3, y4, x1, x2, x3, x4, x5, x6, w1, w2, w3, w4, w5, w6]
              exact K I (Or.inl ⟨rfl, fun w => f1 w.2.2.2.2.1⟩)
          · rw [if_neg c3]
            rw [if_pos c3] at K
            exact K I (Or.inl ⟨rfl, fun w => c3 w.2.2.2.1⟩)
    · rw [if_pos ho]
      unfold zA_copy zMy at K
      rw [if_neg (fun w => ho w.2)] at K
      exact K I (Or.inl ⟨rfl, fun w => ho w.2.1⟩)
  · rw [if_pos hs]
    unfold zA_copy zMy at K
    rw [if_neg (fun w => hs w.1)] at K
    exact K I (Or.inl ⟨rfl, fun w => hs w.1⟩)
