/-! asks, told -/
def zA_asks (I : Nat → Nat → Int32) (n : Nat) (T e : Nat → Nat) (part c side : Int32) : Int32 := if 0 ≤ c ∧ c < nI n then (if (0 ≤ part ∧ part ≤ 2) ∧ 0 ≤ side ∧ side ≤ 1 then zv_said I n T e part.toNatClampNeg c.toNatClampNeg side else -20000) else -10000
theorem zn_lt1 {x : Int32} {m : Nat} (hm : m < 2147483647) : (x < nI (m + 1)) = (x ≤ nI m) := by
  apply propext
  rw [Int32.le_iff_toInt_le, Int32.lt_iff_toInt_lt, nI_toInt (by omega), nI_toInt (by omega)]
  omega
theorem zn_lem0 {x : Int32} {m : Nat} (hm : m < 2147483648) : (0 ≤ x ∧ x ≤ nI m - 1) = (0 ≤ x ∧ x < nI m) := by
  cases m with
  | zero =>
    apply propext
    have e1 : nI 0 - 1 = -1 := by decide
    rw [e1]
    simp only [Int32.le_iff_toInt_le, Int32.lt_iff_toInt_lt]
    have a : (0 : Int32).toInt = 0 := by decide
    have b : (-1 : Int32).toInt = -1 := by decide
    have c : (nI 0).toInt = 0 := by decide
    omega
  | succ k => rw [zn_lem hm (by omega)]
theorem s6 {sc : zk_X} {d : Nat} {I : Nat → Nat → Int32} {tg : Option Nat} {P : Option Value → zk_M → Prop} {n t : Nat} {T e : Nat → Nat} {part c side : Int32} (hq : zj_q I n t T e)
    (K : ∀ I' : Nat → Nat → Int32, zF I I' → P (some (.int (zA_asks I n T e part c side))) (zk_mk I' tg)) : zk_R sc (d + 3) 6 0 [some (.ref (0 : Nat)), some (.int part), some (.int c), some (.int side)] [] (zk_mk I tg) P := by
  obtain ⟨hj, hl, hr, ht, hx⟩ := hq
  obtain ⟨w1, w2, w3, w4⟩ := zx_83 ht
  have h10 := hj.2.2.1
  unfold zA_asks at K
  simp only [u6_0, u6_1, u6_4, u6_5, u6_8, u6_11, u6_14, u6_15, u6_16, u6_19, u6_20, u6_21, u6_24, u6_25, u6_28, u6_29, u6_30, u6_33, u6_36, u6_37, u6_38, u6_39, u6_42, u6_43, u6_44, u6_45, u6_48, zk_mk_1, zk_mk_I, zk_mk_R, zk_mk_set, zk_mk_setR, zk_mk_cpy, zk_rv_some, zk_rv_none, Option.toList_some, Option.toList_none, List.cons_append, List.nil_append, reduceIte, eq_self, Nat.reduceLT, Nat.reduceEqDiff, and_true, true_and, reduceCtorEq, zsh_0, zsh_1, zrf_0_0, s93, hj.1, zb_z]
  by_cases hc : 0 ≤ c ∧ c < nI n
  · obtain ⟨c, hc2, rfl⟩ := zn_of hc.1 hc.2 (by omega)
    rw [if_pos hc] at K
    rw [if_neg (fun q => q hc)]
    by_cases hp : (0 ≤ part ∧ part ≤ 2) ∧ 0 ≤ side ∧ side ≤ 1
    · rw [if_pos hp] at K
      obtain ⟨p, hp2, rfl⟩ := zn_of (m := 3) hp.1.1 (by rw [zn_lt1 (by decide)]; exact hp.1.2) (by decide)
      rw [if_neg (Int32.not_lt.mpr hp.1.1), if_neg (show ¬ (3 : Int32) ≤ nI p from nI_ge (b := 3) hp2 (by decide)), if_neg (Int32.not_lt.mpr hp.2.1), if_pos hp.2.2]
      rw [zn_cl (by omega), zn_cl (by omega)] at K
      simp only [u6_0, u6_1, u6_4, u6_5, u6_8, u6_11, u6_14, u6_15, u6_16, u6_19, u6_20, u6_21, u6_24, u6_25, u6_28, u6_29, u6_30, u6_33, u6_36, u6_37, u6_38, u6_39, u6_42, u6_43, u6_44, u6_45, u6_48, zk_mk_1, zk_mk_I, zk_mk_R, zk_mk_set, zk_mk_setR, zk_mk_cpy, zk_rv_some, zk_rv_none, Option.toList_some, Option.toList_none, List.cons_append, List.nil_append, reduceIte, eq_self, Nat.reduceLT, Nat.reduceEqDiff, and_true, true_and, reduceCtorEq, zsh_0, s7 ht hl, zx_28 ht, w1]
      refine s8 hj ht hp2 hc2 hx (fun I' hz => ?_)
      simp only [u6_0, u6_1, u6_4, u6_5, u6_8, u6_11, u6_14, u6_15, u6_16, u6_19, u6_20, u6_21, u6_24, u6_25, u6_28, u6_29, u6_30, u6_33, u6_36, u6_37, u6_38, u6_39, u6_42, u6_43, u6_44, u6_45, u6_48, zk_mk_1, zk_mk_I, zk_mk_R, zk_mk_set, zk_mk_setR, zk_mk_cpy, zk_rv_some, zk_rv_none, Option.toList_some, Option.toList_none, List.cons_append, List.nil_append, reduceIte, eq_self, Nat.reduceLT, Nat.reduceEqDiff, and_true, true_and, reduceCtorEq]
      exact K I' hz.F
    · rw [if_neg hp] at K
      have K2 := K I (zF_refl I)
      have e3 : (3 : Int32) ≤ part ↔ ¬ part ≤ 2 := by
        rw [Int32.not_le]
        have := zn_lt1 (x := part) (m := 2) (by decide)
        rw [Int32.le_iff_toInt_le, Int32.lt_iff_toInt_lt]
        have a : (3 : Int32).toInt = 3 := by decide
        have b : (2 : Int32).toInt = 2 := by decide
        omega
      split
      · exact K2
      · next h1 =>
        split
        · exact K2
        · next h2 =>
          split
          · exact K2
          · next h3 =>
            split
            · next h4 => exact absurd ⟨⟨Int32.not_lt.mp h1, Decidable.byContradiction fun q => h2 (e3.mpr q)⟩, Int32.not_lt.mp h3, h4⟩ hp
            · exact K2
  · rw [if_neg hc] at K
    rw [if_pos hc]
    exact K I (zF_refl I)
theorem s144 {sc : zk_X} {d : Nat} {I : Nat → Nat → Int32} {tg : Option Nat} {P : Option Value → zk_M → Prop} {n t : Nat} {T e : Nat → Nat} {part c side : Int32} (hq : zj_q I n t T e)
    (K : ∀ I' : Nat → Nat → Int32, zF I I' → P (some (.int (zA_asks I n T e part c side))) (zk_mk I' tg)) : zk_R sc (d + 3) 144 0 [some (.ref (60 : Nat)), some (.int part), some (.int c), some (.int side)] [] (zk_mk I tg) P := by
  obtain ⟨hj, hl, hr, ht, hx⟩ := hq
  have h10 := hj.2.2.1
  unfold zA_asks at K
  simp only [u144_0, u144_1, u144_2, u144_5, u144_8, u144_11, u144_12, u144_13, u144_14, u144_15, u144_18, u144_21, u144_22, u144_23, u144_24, u144_27, u144_30, u144_31, u144_32, u144_33, u144_34, u144_37, u144_40, u144_43, zk_mk_1, zk_mk_I, zk_mk_R, zk_mk_set, zk_mk_setR, zk_mk_cpy, zk_rv_some, zk_rv_none, Option.toList_some, Option.toList_none, List.cons_append, List.nil_append, reduceIte, eq_self, Nat.reduceLT, Nat.reduceEqDiff, and_true, true_and, reduceCtorEq, zsh_60, s145, hj.2.1, zb_z, zn_lem0 (show n < 2147483648 by omega)]
  by_cases hc : 0 ≤ c ∧ c < nI n
  · obtain ⟨c, hc2, rfl⟩ := zn_of hc.1 hc.2 (by omega)
    rw [if_pos hc] at K
    rw [if_neg (fun q => q hc)]
    simp only [s129, u144_0, u144_1, u144_2, u144_5, u144_8, u144_11, u144_12, u144_13, u144_14, u144_15, u144_18, u144_21, u144_22, u144_23, u144_24, u144_27, u144_30, u144_31, u144_32, u144_33, u144_34, u144_37, u144_40, u144_43, zk_mk_1, zk_mk_I, zk_mk_R, zk_mk_set, zk_mk_setR, zk_mk_cpy, zk_rv_some, zk_rv_none, Option.toList_some, Option.toList_none, List.cons_append, List.nil_append, reduceIte, eq_self, Nat.reduceLT, Nat.reduceEqDiff, and_true, true_and, reduceCtorEq, zb_z]
    by_cases hp1 : 0 ≤ part ∧ part ≤ 2
    · rw [if_neg (fun q => q hp1)]
      by_cases hp2 : 0 ≤ side ∧ side ≤ 1
      · rw [if_pos ⟨hp1, hp2⟩] at K
        rw [if_neg (fun q => q hp2)]
        obtain ⟨p, hp3, rfl⟩ := zn_of (m := 3) hp1.1 (by rw [zn_lt1 (by decide)]; exact hp1.2) (by decide)
        rw [zn_cl (by omega), zn_cl (by omega)] at K
        simp only [u144_0, u144_1, u144_2, u144_5, u144_8, u144_11, u144_12, u144_13, u144_14, u144_15, u144_18, u144_21, u144_22, u144_23, u144_24, u144_27, u144_30, u144_31, u144_32, u144_33, u144_34, u144_37, u144_40, u144_43, zk_mk_1, zk_mk_I, zk_mk_R, zk_mk_set, zk_mk_setR, zk_mk_cpy, zk_rv_some, zk_rv_none, Option.toList_some, Option.toList_none, List.cons_append, List.nil_append, reduceIte, eq_self, Nat.reduceLT, Nat.reduceEqDiff, and_true, true_and, reduceCtorEq, zsh_60]
        refine s146 hj ht hr hp3 hc2 hx (fun I' hz => ?_)
        simp only [u144_0, u144_1, u144_2, u144_5, u144_8, u144_11, u144_12, u144_13, u144_14, u144_15, u144_18, u144_21, u144_22, u144_23, u144_24, u144_27, u144_30, u144_31, u144_32, u144_33, u144_34, u144_37, u144_40, u144_43, zk_mk_1, zk_mk_I, zk_mk_R, zk_mk_set, zk_mk_setR, zk_mk_cpy, zk_rv_some, zk_rv_none, Option.toList_some, Option.toList_none, List.cons_append, List.nil_append, reduceIte, eq_self, Nat.reduceLT, Nat.reduceEqDiff, and_true, true_and, reduceCtorEq]
        exact K I' hz.F
      · rw [if_neg (fun q => hp2 q.2)] at K
        rw [if_pos hp2]
        exact K I (zF_refl I)
    · rw [if_neg (fun q => hp1 q.1)] at K
      rw [if_pos hp1]
      exact K I (zF_refl I)
  · rw [if_neg hc] at K
    rw [if_pos hc]
    exact K I (zF_refl I)
def zA_told (I : Nat → Nat → Int32) (n : Nat) (T e : Nat → Nat) (c what : Int32) : Int32 := if 0 ≤ c ∧ c < nI n then (if what = 0 then I 2 c.toNatClampNeg else if what = 1 then I 3 c.toNatClampNeg else if what = 2 then I 4 c.toNatClampNeg else if what = 3 then I 5 c.toNatClampNeg else if what = 4 then zv_now I n T e c.toNatClampNeg else if what = 5 then zw_sides (I 2 c.toNatClampNeg) (I 4 c.toNatClampNeg) else if what = 6 then zv_mv (I 2 c.toNatClampNeg) (zv_said I n T e 1 c.toNatClampNeg (zb (I 5 c.toNatClampNeg = 1))) else -20000) else -10000
theorem zA_told_no {I : Nat → Nat → Int32} {n : Nat} {T e : Nat → Nat} {c what : Int32} (hc : 0 ≤ c ∧ c < nI n) (hw : ¬ (0 ≤ what ∧ what < 7)) : zA_told I n T e c what = -20000 ∧ (what.toInt < 0 ∨ 6 < what.toInt) := by
  unfold zA_told
  rw [if_pos hc]
  refine ⟨?_, ?_⟩
  · rw [if_neg (fun q => hw (by rw [q]; decide)), if_neg (fun q => hw (by rw [q]; decide)), if_neg (fun q => hw (by rw [q]; decide)), if_neg (fun q => hw (by rw [q]; decide)), if_neg (fun q => hw (by rw [q]; decide)), if_neg (fun q => hw (by rw [q]; decide)), if_neg (fun q => hw (by rw [q]; decide))]
  · rw [Int32.le_iff_toInt_le, Int32.lt_iff_toInt_lt] at hw
    have a : (0 : Int32).toInt = 0 := by decide
    have b : (7 : Int32).toInt = 7 := by decide
    omega
theorem s13 {sc : zk_X} {d : Nat} {I : Nat → Nat → Int32} {tg : Option Nat} {P : Option Value → zk_M → Prop} {n t : Nat} {T e : Nat → Nat} {c what : Int32} (hq : zj_q I n t T e)
    (K : ∀ I' : Nat → Nat → Int32, zF I I' → P (some (.int (zA_told I n T e c what))) (zk_mk I' tg)) : zk_R sc (d + 4) 13 0 [some (.ref (0 : Nat)), some (.int c), some (.int what)] [] (zk_mk I tg) P := by
  obtain ⟨hj, hl, hr, ht, hx⟩ := hq
  obtain ⟨w1, w2, w3, w4⟩ := zx_83 ht
  have h10 := hj.2.2.1
  simp only [u13_0, u13_1, u13_4, u13_5, u13_8, u13_11, u13_14, u13_15, u13_16, u13_60, u13_61, u13_64, u13_67, u13_68, u13_69, u13_70, u13_71, u13_74, u13_77, u13_78, u13_79, u13_80, u13_81, u13_84, u13_87, u13_88, u13_89, u13_90, u13_91, u13_94, u13_97, u13_98, u13_99, u13_100, u13_101, u13_102, u13_105, u13_106, u13_107, u13_110, u13_111, u13_114, u13_117, u13_118, u13_119, u13_122, u13_123, u13_126, u13_127, u13_128, u13_129, u13_132, u13_133, u13_136, zk_mk_1, zk_mk_I, zk_mk_R, zk_mk_set, zk_mk_setR, zk_mk_cpy, zk_rv_some, zk_rv_none, Option.toList_some, Option.toList_none, List.cons_append, List.nil_append, reduceIte, eq_self, Nat.reduceLT, Nat.reduceEqDiff, and_true, true_and, reduceCtorEq, zsh_0, zsh_1, zrf_0_0, s93, hj.1, zb_z]
  by_cases hc : 0 ≤ c ∧ c < nI n
  · rw [if_neg (fun q => q hc)]
    by_cases hw : 0 ≤ what ∧ what < 7
    · obtain ⟨w, hw2, rfl⟩ := zn_of (m := 7) hw.1 hw.2 (by decide)
      obtain ⟨c, hc2, rfl⟩ := zn_of hc.1 hc.2 (by omega)
      unfold zA_told at K
      rw [if_pos hc, zn_cl (by omega)] at K
      have z1 : zk_inb (nI c) 10 = true := by rw [zn_in (by omega)]; omega
      have z2 : (nI c).toNatClampNeg = c := zn_cl (by omega)
      rcases (show w = 0 ∨ w = 1 ∨ w = 2 ∨ w = 3 ∨ w = 4 ∨ w = 5 ∨ w = 6 by omega) with rfl | rfl | rfl | rfl | rfl | rfl | rfl
      · rw [show zk_sw 16 (117) (0) (6) #[44, 54, 64, 74, 84, 102, 111] (nI 0) = 60 from by decide +kernel]
        simp only [u13_0, u13_1, u13_4, u13_5, u13_8, u13_11, u13_14, u13_15, u13_16, u13_60, u13_61, u13_64, u13_67, u13_68, u13_69, u13_70, u13_71, u13_74, u13_77, u13_78, u13_79, u13_80, u13_81, u13_84, u13_87, u13_88, u13_89, u13_90, u13_91, u13_94, u13_97, u13_98, u13_99, u13_100, u13_101, u13_102, u13_105, u13_106, u13_107, u13_110, u13_111, u13_114, u13_117, u13_118, u13_119, u13_122, u13_123, u13_126, u13_127, u13_128, u13_129, u13_132, u13_133, u13_136, zk_mk_1, zk_mk_I, zk_mk_R, zk_mk_set, zk_mk_setR, zk_mk_cpy, zk_rv_some, zk_rv_none, Option.toList_some, Option.toList_none, List.cons_append, List.nil_append, reduceIte, eq_self, Nat.reduceLT, Nat.reduceEqDiff, and_true, true_and, reduceCtorEq, zsh_0, zsh_1, zsh_2, zsh_3, zsh_4, zsh_5, zrf_0_0, zrf_1_0, zrf_1_1, zrf_1_2, zrf_1_3, z1, z2]
        exact K I (zF_refl I)
      · rw [show zk_sw 16 (117) (0) (6) #[44, 54, 64, 74, 84, 102, 111] (nI 1) = 70 from by decide +kernel]
        simp only [u13_0, u13_1, u13_4, u13_5, u13_8, u13_11, u13_14, u13_15, u13_16, u13_60, u13_61, u13_64, u13_67, u13_68, u13_69, u13_70, u13_71, u13_74, u13_77, u13_78, u13_79, u13_80, u13_81, u13_84, u13_87, u13_88, u13_89, u13_90, u13_91, u13_94, u13_97, u13_98, u13_99, u13_100, u13_101, u13_102, u13_105, u13_106, u13_107, u13_110, u13_111, u13_114, u13_117, u13_118, u13_119, u13_122, u13_123, u13_126, u13_127, u13_128, u13_129, u13_132, u13_133, u13_136, zk_mk_1, zk_mk_I, zk_mk_R, zk_mk_set, zk_mk_setR, zk_mk_cpy, zk_rv_some, zk_rv_none, Option.toList_some, Option.toList_none, List.cons_append, List.nil_append, reduceIte, eq_self, Nat.reduceLT, Nat.reduceEqDiff, and_true, true_and, reduceCtorEq, zsh_0, zsh_1, zsh_2, zsh_3, zsh_4, zsh_5, zrf_0_0, zrf_1_0, zrf_1_1, zrf_1_2, zrf_1_3, z1, z2]
        exact K I (zF_refl I)
      · rw [show zk_sw 16 (117) (0) (6) #[44, 54, 64, 74, 84, 102, 111] (nI 2) = 80 from by decide +kernel]
        simp only [u13_0, u13_1, u13_4, u13_5, u13_8, u13_11, u13_14, u13_15, u13_16, u13_60, u13_61, u13_64, u13_67, u13_68, u13_69, u13_70, u13_71, u13_74, u13_77, u13_78, u13_79, u13_80, u13_81, u13_84, u13_87, u13_88, u13_89, u13_90, u13_91, u13_94, u13_97, u13_98, u13_99, u13_100, u13_101, u13_102, u13_105, u13_106, u13_107, u13_110, u13_111, u13_114, u13_117, u13_118, u13_119, u13_122, u13_123, u13_126, u13_127, u13_128, u13_129, u13_132, u13_133, u13_136, zk_mk_1, zk_mk_I, zk_mk_R, zk_mk_set, zk_mk_setR, zk_mk_cpy, zk_rv_some, zk_rv_none, Option.toList_some, Option.toList_none, List.cons_append, List.nil_append, reduceIte, eq_self, Nat.reduceLT, Nat.reduceEqDiff, and_true, true_and, reduceCtorEq, zsh_0, zsh_1, zsh_2, zsh_3, zsh_4, zsh_5, zrf_0_0, zrf_1_0, zrf_1_1, zrf_1_2, zrf_1_3, z1, z2]
        exact K I (zF_refl I)
      · rw [show zk_sw 16 (117) (0) (6) #[44, 54, 64, 74, 84, 102, 111] (nI 3) = 90 from by decide +kernel]
        simp only [u13_0, u13_1, u13_4, u13_5, u13_8, u13_11, u13_14, u13_15, u13_16, u13_60, u13_61, u13_64, u13_67, u13_68, u13_69, u13_70, u13_71, u13_74, u13_77, u13_78, u13_79, u13_80, u13_81, u13_84, u13_87, u13_88, u13_89, u13_90, u13_91, u13_94, u13_97, u13_98, u13_99, u13_100, u13_101, u13_102, u13_105, u13_106, u13_107, u13_110, u13_111, u13_114, u13_117, u13_118, u13_119, u13_122, u13_123, u13_126, u13_127, u13_128, u13_129, u13_132, u13_133, u13_136, zk_mk_1, zk_mk_I, zk_mk_R, zk_mk_set, zk_mk_setR, zk_mk_cpy, zk_rv_some, zk_rv_none, Option.toList_some, Option.toList_none, List.cons_append, List.nil_append, reduceIte, eq_self, Nat.reduceLT, Nat.reduceEqDiff, and_true, true_and, reduceCtorEq, zsh_0, zsh_1, zsh_2, zsh_3, zsh_4, zsh_5, zrf_0_0, zrf_1_0, zrf_1_1, zrf_1_2, zrf_1_3, z1, z2]
        exact K I (zF_refl I)
      · rw [show zk_sw 16 (117) (0) (6) #[44, 54, 64, 74, 84, 102, 111] (nI 4) = 100 from by decide +kernel]
        simp only [u13_0, u13_1, u13_4, u13_5, u13_8, u13_11, u13_14, u13_15, u13_16, u13_60, u13_61, u13_64, u13_67, u13_68, u13_69, u13_70, u13_71, u13_74, u13_77, u13_78, u13_79, u13_80, u13_81, u13_84, u13_87, u13_88, u13_89, u13_90, u13_91, u13_94, u13_97, u13_98, u13_99, u13_100, u13_101, u13_102, u13_105, u13_106, u13_107, u13_110, u13_111, u13_114, u13_117, u13_118, u13_119, u13_122, u13_123, u13_126, u13_127, u13_128, u13_129, u13_132, u13_133, u13_136, zk_mk_1, zk_mk_I, zk_mk_R, zk_mk_set, zk_mk_setR, zk_mk_cpy, zk_rv_some, zk_rv_none, Option.toList_some, Option.toList_none, List.cons_append, List.nil_append, reduceIte, eq_self, Nat.reduceLT, Nat.reduceEqDiff, and_true, true_and, reduceCtorEq, zsh_0, s7 ht hl, zsh_1, zrf_0_0]
        rw [s96 (by omega)]
        simp only [u13_0, u13_1, u13_4, u13_5, u13_8, u13_11, u13_14, u13_15, u13_16, u13_60, u13_61, u13_64, u13_67, u13_68, u13_69, u13_70, u13_71, u13_74, u13_77, u13_78, u13_79, u13_80, u13_81, u13_84, u13_87, u13_88, u13_89, u13_90, u13_91, u13_94, u13_97, u13_98, u13_99, u13_100, u13_101, u13_102, u13_105, u13_106, u13_107, u13_110, u13_111, u13_114, u13_117, u13_118, u13_119, u13_122, u13_123, u13_126, u13_127, u13_128, u13_129, u13_132, u13_133, u13_136, zk_mk_1, zk_mk_I, zk_mk_R, zk_mk_set, zk_mk_setR, zk_mk_cpy, zk_rv_some, zk_rv_none, Option.toList_some, Option.toList_none, List.cons_append, List.nil_append, reduceIte, eq_self, Nat.reduceLT, Nat.reduceEqDiff, and_true, true_and, reduceCtorEq, zsh_0, zx_28 ht, w1]
        refine s14 hj ht hc2 hx (fun I' hz => ?_)
        simp only [u13_0, u13_1, u13_4, u13_5, u13_8, u13_11, u13_14, u13_15, u13_16, u13_60, u13_61, u13_64, u13_67, u13_68, u13_69, u13_70, u13_71, u13_74, u13_77, u13_78, u13_79, u13_80, u13_81, u13_84, u13_87, u13_88, u13_89, u13_90, u13_91, u13_94, u13_97, u13_98, u13_99, u13_100, u13_101, u13_102, u13_105, u13_106, u13_107, u13_110, u13_111, u13_114, u13_117, u13_118, u13_119, u13_122, u13_123, u13_126, u13_127, u13_128, u13_129, u13_132, u13_133, u13_136, zk_mk_1, zk_mk_I, zk_mk_R, zk_mk_set, zk_mk_setR, zk_mk_cpy, zk_rv_some, zk_rv_none, Option.toList_some, Option.toList_none, List.cons_append, List.nil_append, reduceIte, eq_self, Nat.reduceLT, Nat.reduceEqDiff, and_true, true_and, reduceCtorEq]
        exact K I' hz.F
      · rw [show zk_sw 16 (117) (0) (6) #[44, 54, 64, 74, 84, 102, 111] (nI 5) = 118 from by decide +kernel]
        simp only [u13_0, u13_1, u13_4, u13_5, u13_8, u13_11, u13_14, u13_15, u13_16, u13_60, u13_61, u13_64, u13_67, u13_68, u13_69, u13_70, u13_71, u13_74, u13_77, u13_78, u13_79, u13_80, u13_81, u13_84, u13_87, u13_88, u13_89, u13_90, u13_91, u13_94, u13_97, u13_98, u13_99, u13_100, u13_101, u13_102, u13_105, u13_106, u13_107, u13_110, u13_111, u13_114, u13_117, u13_118, u13_119, u13_122, u13_123, u13_126, u13_127, u13_128, u13_129, u13_132, u13_133, u13_136, zk_mk_1, zk_mk_I, zk_mk_R, zk_mk_set, zk_mk_setR, zk_mk_cpy, zk_rv_some, zk_rv_none, Option.toList_some, Option.toList_none, List.cons_append, List.nil_append, reduceIte, eq_self, Nat.reduceLT, Nat.reduceEqDiff, and_true, true_and, reduceCtorEq, zsh_0, zsh_1, zrf_0_0]
        rw [s95 (by omega)]
        simp only [u13_0, u13_1, u13_4, u13_5, u13_8, u13_11, u13_14, u13_15, u13_16, u13_60, u13_61, u13_64, u13_67, u13_68, u13_69, u13_70, u13_71, u13_74, u13_77, u13_78, u13_79, u13_80, u13_81, u13_84, u13_87, u13_88, u13_89, u13_90, u13_91, u13_94, u13_97, u13_98, u13_99, u13_100, u13_101, u13_102, u13_105, u13_106, u13_107, u13_110, u13_111, u13_114, u13_117, u13_118, u13_119, u13_122, u13_123, u13_126, u13_127, u13_128, u13_129, u13_132, u13_133, u13_136, zk_mk_1, zk_mk_I, zk_mk_R, zk_mk_set, zk_mk_setR, zk_mk_cpy, zk_rv_some, zk_rv_none, Option.toList_some, Option.toList_none, List.cons_append, List.nil_append, reduceIte, eq_self, Nat.reduceLT, Nat.reduceEqDiff, and_true, true_and, reduceCtorEq]
        exact K I (zF_refl I)
      · rw [show zk_sw 16 (117) (0) (6) #[44, 54, 64, 74, 84, 102, 111] (nI 6) = 127 from by decide +kernel]
        simp only [u13_0, u13_1, u13_4, u13_5, u13_8, u13_11, u13_14, u13_15, u13_16, u13_60, u13_61, u13_64, u13_67, u13_68, u13_69, u13_70, u13_71, u13_74, u13_77, u13_78, u13_79, u13_80, u13_81, u13_84, u13_87, u13_88, u13_89, u13_90, u13_91, u13_94, u13_97, u13_98, u13_99, u13_100, u13_101, u13_102, u13_105, u13_106, u13_107, u13_110, u13_111, u13_114, u13_117, u13_118, u13_119, u13_122, u13_123, u13_126, u13_127, u13_128, u13_129, u13_132, u13_133, u13_136, zk_mk_1, zk_mk_I, zk_mk_R, zk_mk_set, zk_mk_setR, zk_mk_cpy, zk_rv_some, zk_rv_none, Option.toList_some, Option.toList_none, List.cons_append, List.nil_append, reduceIte, eq_self, Nat.reduceLT, Nat.reduceEqDiff, and_true, true_and, reduceCtorEq, zsh_0]
        refine s15 hj ht hl hc2 hx (fun I' hz => ?_)
        simp only [u13_0, u13_1, u13_4, u13_5, u13_8, u13_11, u13_14, u13_15, u13_16, u13_60, u13_61, u13_64, u13_67, u13_68, u13_69, u13_70, u13_71, u13_74, u13_77, u13_78, u13_79, u13_80, u13_81, u13_84, u13_87, u13_88, u13_89, u13_90, u13_91, u13_94, u13_97, u13_98, u13_99, u13_100, u13_101, u13_102, u13_105, u13_106, u13_107, u13_110, u13_111, u13_114, u13_117, u13_118, u13_119, u13_122, u13_123, u13_126, u13_127, u13_128, u13_129, u13_132, u13_133, u13_136, zk_mk_1, zk_mk_I, zk_mk_R, zk_mk_set, zk_mk_setR, zk_mk_cpy, zk_rv_some, zk_rv_none, Option.toList_some, Option.toList_none, List.cons_append, List.nil_append, reduceIte, eq_self, Nat.reduceLT, Nat.reduceEqDiff, and_true, true_and, reduceCtorEq]
        exact K I' hz.F
    · obtain ⟨a, b⟩ := zA_told_no (I := I) (T := T) (e := e) hc hw
      rw [a] at K
      rw [zr_swo b, show zk_tg 16 (117) = 133 from by decide]
      simp only [u13_0, u13_1, u13_4, u13_5, u13_8, u13_11, u13_14, u13_15, u13_16, u13_60, u13_61, u13_64, u13_67, u13_68, u13_69, u13_70, u13_71, u13_74, u13_77, u13_78, u13_79, u13_80, u13_81, u13_84, u13_87, u13_88, u13_89, u13_90, u13_91, u13_94, u13_97, u13_98, u13_99, u13_100, u13_101, u13_102, u13_105, u13_106, u13_107, u13_110, u13_111, u13_114, u13_117, u13_118, u13_119, u13_122, u13_123, u13_126, u13_127, u13_128, u13_129, u13_132, u13_133, u13_136, zk_mk_1, zk_mk_I, zk_mk_R, zk_mk_set, zk_mk_setR, zk_mk_cpy, zk_rv_some, zk_rv_none, Option.toList_some, Option.toList_none, List.cons_append, List.nil_append, reduceIte, eq_self, Nat.reduceLT, Nat.reduceEqDiff, and_true, true_and, reduceCtorEq]
      exact K I (zF_refl I)
  · unfold zA_told at K
    rw [if_neg hc] at K
    rw [if_pos hc]
    exact K I (zF_refl I)
theorem s155 {sc : zk_X} {d : Nat} {I : Nat → Nat → Int32} {tg : Option Nat} {P : Option Value → zk_M → Prop} {n t : Nat} {T e : Nat → Nat} {c what : Int32} (hq : zj_q I n t T e)
    (K : ∀ I' : Nat → Nat → Int32, zF I I' → P (some (.int (zA_told I n T e c what))) (zk_mk I' tg)) : zk_R sc (d + 5) 155 0 [some (.ref (60 : Nat)), some (.int c), some (.int what)] [] (zk_mk I tg) P := by
  obtain ⟨hj, hl, hr, ht, hx⟩ := hq
  have h10 := hj.2.2.1
  simp only [u155_0, u155_1, u155_2, u155_5, u155_8, u155_11, u155_12, u155_13, u155_56, u155_57, u155_60, u155_61, u155_62, u155_63, u155_64, u155_67, u155_68, u155_69, u155_70, u155_71, u155_74, u155_75, u155_76, u155_77, u155_78, u155_81, u155_82, u155_83, u155_84, u155_85, u155_86, u155_89, u155_90, u155_91, u155_92, u155_95, u155_96, u155_97, u155_98, u155_101, u155_102, u155_105, zk_mk_1, zk_mk_I, zk_mk_R, zk_mk_set, zk_mk_setR, zk_mk_cpy, zk_rv_some, zk_rv_none, Option.toList_some, Option.toList_none, List.cons_append, List.nil_append, reduceIte, eq_self, Nat.reduceLT, Nat.reduceEqDiff, and_true, true_and, reduceCtorEq, zsh_60, s145, hj.2.1, zb_z, zn_lem0 (show n < 2147483648 by omega)]
  by_cases hc : 0 ≤ c ∧ c < nI n
  · rw [if_neg (fun q => q hc)]
    by_cases hw : 0 ≤ what ∧ what < 7
    · obtain ⟨w, hw2, rfl⟩ := zn_of (m := 7) hw.1 hw.2 (by decide)
      obtain ⟨c, hc2, rfl⟩ := zn_of hc.1 hc.2 (by omega)
      obtain ⟨⟨c1, c2, c3, c4⟩, -⟩ := hj.2.2.2 c hc2
      unfold zA_told at K
      rw [if_pos hc, zn_cl (by omega)] at K
      have z1 : zk_inb (nI c) 10 = true := by rw [zn_in (by omega)]; omega
      have z2 : (nI c).toNatClampNeg = c := zn_cl (by omega)
      rcases (show w = 0 ∨ w = 1 ∨ w = 2 ∨ w = 3 ∨ w = 4 ∨ w = 5 ∨ w = 6 by omega) with rfl | rfl | rfl | rfl | rfl | rfl | rfl
      · rw [show zk_sw 13 (89) (0) (6) #[43, 50, 57, 64, 71, 77, 83] (nI 0) = 56 from by decide +kernel]
        simp only [u155_0, u155_1, u155_2, u155_5, u155_8, u155_11, u155_12, u155_13, u155_56, u155_57, u155_60, u155_61, u155_62, u155_63, u155_64, u155_67, u155_68, u155_69, u155_70, u155_71, u155_74, u155_75, u155_76, u155_77, u155_78, u155_81, u155_82, u155_83, u155_84, u155_85, u155_86, u155_89, u155_90, u155_91, u155_92, u155_95, u155_96, u155_97, u155_98, u155_101, u155_102, u155_105, zk_mk_1, zk_mk_I, zk_mk_R, zk_mk_set, zk_mk_setR, zk_mk_cpy, zk_rv_some, zk_rv_none, Option.toList_some, Option.toList_none, List.cons_append, List.nil_append, reduceIte, eq_self, Nat.reduceLT, Nat.reduceEqDiff, and_true, true_and, reduceCtorEq, zsh_60, zsh_61, zsh_62, zsh_63, zsh_64, zrf_60_1, zrf_60_2, zrf_60_3, zrf_60_4, z1, z2, c1, c2, c3, c4]
        exact K I (zF_refl I)
      · rw [show zk_sw 13 (89) (0) (6) #[43, 50, 57, 64, 71, 77, 83] (nI 1) = 63 from by decide +kernel]
        simp only [u155_0, u155_1, u155_2, u155_5, u155_8, u155_11, u155_12, u155_13, u155_56, u155_57, u155_60, u155_61, u155_62, u155_63, u155_64, u155_67, u155_68, u155_69, u155_70, u155_71, u155_74, u155_75, u155_76, u155_77, u155_78, u155_81, u155_82, u155_83, u155_84, u155_85, u155_86, u155_89, u155_90, u155_91, u155_92, u155_95, u155_96, u155_97, u155_98, u155_101, u155_102, u155_105, zk_mk_1, zk_mk_I, zk_mk_R, zk_mk_set, zk_mk_setR, zk_mk_cpy, zk_rv_some, zk_rv_none, Option.toList_some, Option.toList_none, List.cons_append, List.nil_append, reduceIte, eq_self, Nat.reduceLT, Nat.reduceEqDiff, and_true, true_and, reduceCtorEq, zsh_60, zsh_61, zsh_62, zsh_63, zsh_64, zrf_60_1, zrf_60_2, zrf_60_3, zrf_60_4, z1, z2, c1, c2, c3, c4]
        exact K I (zF_refl I)
      · rw [show zk_sw 13 (89) (0) (6) #[43, 50, 57, 64, 71, 77, 83] (nI 2) = 70 from by decide +kernel]
        simp only [u155_0, u155_1, u155_2, u155_5, u155_8, u155_11, u155_12, u155_13, u155_56, u155_57, u155_60, u155_61, u155_62, u155_63, u155_64, u155_67, u155_68, u155_69, u155_70, u155_71, u155_74, u155_75, u155_76, u155_77, u155_78, u155_81, u155_82, u155_83, u155_84, u155_85, u155_86, u155_89, u155_90, u155_91, u155_92, u155_95, u155_96, u155_97, u155_98, u155_101, u155_102, u155_105, zk_mk_1, zk_mk_I, zk_mk_R, zk_mk_set, zk_mk_setR, zk_mk_cpy, zk_rv_some, zk_rv_none, Option.toList_some, Option.toList_none, List.cons_append, List.nil_append, reduceIte, eq_self, Nat.reduceLT, Nat.reduceEqDiff, and_true, true_and, reduceCtorEq, zsh_60, zsh_61, zsh_62, zsh_63, zsh_64, zrf_60_1, zrf_60_2, zrf_60_3, zrf_60_4, z1, z2, c1, c2, c3, c4]
        exact K I (zF_refl I)
      · rw [show zk_sw 13 (89) (0) (6) #[43, 50, 57, 64, 71, 77, 83] (nI 3) = 77 from by decide +kernel]
        simp only [u155_0, u155_1, u155_2, u155_5, u155_8, u155_11, u155_12, u155_13, u155_56, u155_57, u155_60, u155_61, u155_62, u155_63, u155_64, u155_67, u155_68, u155_69, u155_70, u155_71, u155_74, u155_75, u155_76, u155_77, u155_78, u155_81, u155_82, u155_83, u155_84, u155_85, u155_86, u155_89, u155_90, u155_91, u155_92, u155_95, u155_96, u155_97, u155_98, u155_101, u155_102, u155_105, zk_mk_1, zk_mk_I, zk_mk_R, zk_mk_set, zk_mk_setR, zk_mk_cpy, zk_rv_some, zk_rv_none, Option.toList_some, Option.toList_none, List.cons_append, List.nil_append, reduceIte, eq_self, Nat.reduceLT, Nat.reduceEqDiff, and_true, true_and, reduceCtorEq, zsh_60, zsh_61, zsh_62, zsh_63, zsh_64, zrf_60_1, zrf_60_2, zrf_60_3, zrf_60_4, z1, z2, c1, c2, c3, c4]
        exact K I (zF_refl I)
      · rw [show zk_sw 13 (89) (0) (6) #[43, 50, 57, 64, 71, 77, 83] (nI 4) = 84 from by decide +kernel]
        simp only [u155_0, u155_1, u155_2, u155_5, u155_8, u155_11, u155_12, u155_13, u155_56, u155_57, u155_60, u155_61, u155_62, u155_63, u155_64, u155_67, u155_68, u155_69, u155_70, u155_71, u155_74, u155_75, u155_76, u155_77, u155_78, u155_81, u155_82, u155_83, u155_84, u155_85, u155_86, u155_89, u155_90, u155_91, u155_92, u155_95, u155_96, u155_97, u155_98, u155_101, u155_102, u155_105, zk_mk_1, zk_mk_I, zk_mk_R, zk_mk_set, zk_mk_setR, zk_mk_cpy, zk_rv_some, zk_rv_none, Option.toList_some, Option.toList_none, List.cons_append, List.nil_append, reduceIte, eq_self, Nat.reduceLT, Nat.reduceEqDiff, and_true, true_and, reduceCtorEq, zsh_60]
        refine s156 hj ht hr hc2 hx (fun I' hz => ?_)
        simp only [u155_0, u155_1, u155_2, u155_5, u155_8, u155_11, u155_12, u155_13, u155_56, u155_57, u155_60, u155_61, u155_62, u155_63, u155_64, u155_67, u155_68, u155_69, u155_70, u155_71, u155_74, u155_75, u155_76, u155_77, u155_78, u155_81, u155_82, u155_83, u155_84, u155_85, u155_86, u155_89, u155_90, u155_91, u155_92, u155_95, u155_96, u155_97, u155_98, u155_101, u155_102, u155_105, zk_mk_1, zk_mk_I, zk_mk_R, zk_mk_set, zk_mk_setR, zk_mk_cpy, zk_rv_some, zk_rv_none, Option.toList_some, Option.toList_none, List.cons_append, List.nil_append, reduceIte, eq_self, Nat.reduceLT, Nat.reduceEqDiff, and_true, true_and, reduceCtorEq, c4]
        exact K I' hz.F
      · rw [show zk_sw 13 (89) (0) (6) #[43, 50, 57, 64, 71, 77, 83] (nI 5) = 90 from by decide +kernel]
        simp only [u155_0, u155_1, u155_2, u155_5, u155_8, u155_11, u155_12, u155_13, u155_56, u155_57, u155_60, u155_61, u155_62, u155_63, u155_64, u155_67, u155_68, u155_69, u155_70, u155_71, u155_74, u155_75, u155_76, u155_77, u155_78, u155_81, u155_82, u155_83, u155_84, u155_85, u155_86, u155_89, u155_90, u155_91, u155_92, u155_95, u155_96, u155_97, u155_98, u155_101, u155_102, u155_105, zk_mk_1, zk_mk_I, zk_mk_R, zk_mk_set, zk_mk_setR, zk_mk_cpy, zk_rv_some, zk_rv_none, Option.toList_some, Option.toList_none, List.cons_append, List.nil_append, reduceIte, eq_self, Nat.reduceLT, Nat.reduceEqDiff, and_true, true_and, reduceCtorEq, zsh_60]
        rw [s154 (by omega)]
        simp only [u155_0, u155_1, u155_2, u155_5, u155_8, u155_11, u155_12, u155_13, u155_56, u155_57, u155_60, u155_61, u155_62, u155_63, u155_64, u155_67, u155_68, u155_69, u155_70, u155_71, u155_74, u155_75, u155_76, u155_77, u155_78, u155_81, u155_82, u155_83, u155_84, u155_85, u155_86, u155_89, u155_90, u155_91, u155_92, u155_95, u155_96, u155_97, u155_98, u155_101, u155_102, u155_105, zk_mk_1, zk_mk_I, zk_mk_R, zk_mk_set, zk_mk_setR, zk_mk_cpy, zk_rv_some, zk_rv_none, Option.toList_some, Option.toList_none, List.cons_append, List.nil_append, reduceIte, eq_self, Nat.reduceLT, Nat.reduceEqDiff, and_true, true_and, reduceCtorEq, c1, c3]
        exact K I (zF_refl I)
      · rw [show zk_sw 13 (89) (0) (6) #[43, 50, 57, 64, 71, 77, 83] (nI 6) = 96 from by decide +kernel]
        simp only [u155_0, u155_1, u155_2, u155_5, u155_8, u155_11, u155_12, u155_13, u155_56, u155_57, u155_60, u155_61, u155_62, u155_63, u155_64, u155_67, u155_68, u155_69, u155_70, u155_71, u155_74, u155_75, u155_76, u155_77, u155_78, u155_81, u155_82, u155_83, u155_84, u155_85, u155_86, u155_89, u155_90, u155_91, u155_92, u155_95, u155_96, u155_97, u155_98, u155_101, u155_102, u155_105, zk_mk_1, zk_mk_I, zk_mk_R, zk_mk_set, zk_mk_setR, zk_mk_cpy, zk_rv_some, zk_rv_none, Option.toList_some, Option.toList_none, List.cons_append, List.nil_append, reduceIte, eq_self, Nat.reduceLT, Nat.reduceEqDiff, and_true, true_and, reduceCtorEq, zsh_60]
        refine s158 hj ht hr hc2 hx (fun I' hz => ?_)
        simp only [u155_0, u155_1, u155_2, u155_5, u155_8, u155_11, u155_12, u155_13, u155_56, u155_57, u155_60, u155_61, u155_62, u155_63, u155_64, u155_67, u155_68, u155_69, u155_70, u155_71, u155_74, u155_75, u155_76, u155_77, u155_78, u155_81, u155_82, u155_83, u155_84, u155_85, u155_86, u155_89, u155_90, u155_91, u155_92, u155_95, u155_96, u155_97, u155_98, u155_101, u155_102, u155_105, zk_mk_1, zk_mk_I, zk_mk_R, zk_mk_set, zk_mk_setR, zk_mk_cpy, zk_rv_some, zk_rv_none, Option.toList_some, Option.toList_none, List.cons_append, List.nil_append, reduceIte, eq_self, Nat.reduceLT, Nat.reduceEqDiff, and_true, true_and, reduceCtorEq, c4]
        exact K I' hz.F
    · obtain ⟨a, b⟩ := zA_told_no (I := I) (T := T) (e := e) hc hw
      rw [a] at K
      rw [zr_swo b, show zk_tg 13 (89) = 102 from by decide]
      simp only [u155_0, u155_1, u155_2, u155_5, u155_8, u155_11, u155_12, u155_13, u155_56, u155_57, u155_60, u155_61, u155_62, u155_63, u155_64, u155_67, u155_68, u155_69, u155_70, u155_71, u155_74, u155_75, u155_76, u155_77, u155_78, u155_81, u155_82, u155_83, u155_84, u155_85, u155_86, u155_89, u155_90, u155_91, u155_92, u155_95, u155_96, u155_97, u155_98, u155_101, u155_102, u155_105, zk_mk_1, zk_mk_I, zk_mk_R, zk_mk_set, zk_mk_setR, zk_mk_cpy, zk_rv_some, zk_rv_none, Option.toList_some, Option.toList_none, List.cons_append, List.nil_append, reduceIte, eq_self, Nat.reduceLT, Nat.reduceEqDiff, and_true, true_and, reduceCtorEq]
      exact K I (zF_refl I)
  · unfold zA_told at K
    rw [if_neg hc] at K
    rw [if_pos hc]
    exact K I (zF_refl I)
