/-! cell by both -/
def zcv (so v : Int32) : Int32 := if so = 0 then v.toInt8.toInt32 else if so = 1 then v.toInt16.toInt32 else v
theorem s89 {sc : zk_X} {d : Nat} {I : Nat → Nat → Int32} {tg : Option Nat} {P : Option Value → zk_M → Prop} {s : Nat} {i : Int32} (hs : s < 4) : zk_R sc d 89 0 [some (.ref (52 + 2 * s)), some (.int i)] [] (zk_mk I tg) P = P (some (.int (zb (0 ≤ i ∧ i < I (52 + 2 * s) 2)))) (zk_mk I tg) := by
  obtain ⟨x3, x4, x5, x6⟩ := zx_s1 hs
  simp only [u89_0, u89_1, u89_4, u89_5, u89_6, u89_9, u89_12, u89_13, u89_16, u89_17, zk_mk_1, zk_mk_I, zk_mk_R, zk_mk_set, zk_mk_setR, zk_mk_cpy, zk_rv_some, zk_rv_none, Option.toList_some, Option.toList_none, List.cons_append, List.nil_append, reduceIte, eq_self, Nat.reduceLT, Nat.reduceEqDiff, and_true, true_and, reduceCtorEq, x3, x5, true_or, or_true, zb, ← Int32.not_lt]
  (repeat' split) <;> simp_all
theorem s88 {sc : zk_X} {d : Nat} {I : Nat → Nat → Int32} {tg : Option Nat} {P : Option Value → zk_M → Prop} {s z j : Nat} {v : Int32} (hs : s < 4) (hz : I (52 + 2 * s) 2 = nI z) (hz40 : z ≤ 40) (hj : j < z) : zk_R sc (d + 1) 88 0 [some (.ref (52 + 2 * s)), some (.int (nI j)), some (.int v)] [] (zk_mk I tg) P = P none (zk_mk (zk_up2 I (53 + 2 * s) j (zcv (I (52 + 2 * s) 1) v)) tg) := by
  obtain ⟨x1, x2⟩ := zx_s hs tg
  obtain ⟨x3, x4, x5, x6⟩ := zx_s1 hs
  have z1 : zk_inb (nI j) 40 = true := by rw [zn_in (by omega)]; omega
  have z2 : (nI j).toNatClampNeg = j := zn_cl (by omega)
  have hh : 0 ≤ nI j ∧ nI j < nI z := ⟨by rw [show (0 : Int32) = nI 0 from rfl, zn_le (by decide) (by omega)]; omega, by rw [zn_lt (by omega) (by omega)]; exact hj⟩
  unfold zcv
  simp only [u88_0, u88_1, u88_2, u88_5, u88_8, u88_9, u88_12, u88_13, u88_14, u88_17, u88_20, u88_21, u88_22, u88_25, u88_26, u88_29, u88_30, u88_33, u88_34, u88_35, u88_38, u88_39, u88_40, zk_mk_1, zk_mk_I, zk_mk_R, zk_mk_set, zk_mk_setR, zk_mk_cpy, zk_rv_some, zk_rv_none, Option.toList_some, Option.toList_none, List.cons_append, List.nil_append, reduceIte, eq_self, Nat.reduceLT, Nat.reduceEqDiff, and_true, true_and, reduceCtorEq, x2, x3, x4, x5, x6, s89 hs, hz, zb_z, z1, z2]
  rw [if_neg (fun q => q hh)]
  by_cases c0 : I (52 + 2 * s) 1 = 0
  · rw [if_pos c0, if_pos c0]
  · rw [if_neg c0, if_neg c0]
    by_cases c1 : I (52 + 2 * s) 1 = 1
    · rw [if_pos c1, if_pos c1]
    · rw [if_neg c1, if_neg c1]
def zA_cell (I : Nat → Nat → Int32) (Z : Nat → Nat) (s i : Int32) : Int32 := if 0 ≤ s ∧ s < 4 then (if I (52 + 2 * s.toNatClampNeg) 1 = -1 then -11 else if 0 ≤ i ∧ i < nI (Z s.toNatClampNeg) then 1 else -12) else -2
def zMc (I I1 : Nat → Nat → Int32) (Z : Nat → Nat) (s i v : Int32) : Prop := if zA_cell I Z s i = 1 then I1 = zk_up2 I (53 + 2 * s.toNatClampNeg) i.toNatClampNeg (zcv (I (52 + 2 * s.toNatClampNeg) 1) v) else I1 = I
theorem s55 {sc : zk_X} {d : Nat} {I : Nat → Nat → Int32} {tg : Option Nat} {P : Option Value → zk_M → Prop} {Z : Nat → Nat} {s i v : Int32} (hz : zj_sh I Z)
    (K : ∀ I1 : Nat → Nat → Int32, zMc I I1 Z s i v → P (some (.int (zA_cell I Z s i))) (zk_mk I1 tg)) : zk_R sc (d + 2) 55 0 [some (.ref (0 : Nat)), some (.int s), some (.int i), some (.int v)] [] (zk_mk I tg) P := by
  unfold zMc at K
  simp only [u55_0, u55_1, u55_4, u55_7, u55_9, u55_10, u55_11, u55_14, u55_15, u55_16, u55_19, u55_20, u55_23, u55_25, u55_26, u55_27, u55_30, u55_31, u55_32, u55_33, u55_36, u55_39, u55_41, u55_42, u55_43, u55_46, u55_47, u55_48, u55_49, u55_50, u55_53, u55_54, zk_mk_1, zk_mk_I, zk_mk_R, zk_mk_set, zk_mk_setR, zk_mk_cpy, zk_rv_some, zk_rv_none, Option.toList_some, Option.toList_none, List.cons_append, List.nil_append, reduceIte, eq_self, Nat.reduceLT, Nat.reduceEqDiff, and_true, true_and, reduceCtorEq, zsh_0, s38, zb_z]
  by_cases hs : 0 ≤ s ∧ s < 4
  · rw [if_neg (fun q => q hs)]
    obtain ⟨k, hk, rfl⟩ := zn_of (m := 4) hs.1 hs.2 (by decide)
    have y1 : zk_inb (nI k) 4 = true := by rw [zn_in (by omega)]; omega
    have y2 : (nI k).toNatClampNeg = k := zn_cl (by omega)
    obtain ⟨x1, x2⟩ := zx_s hk tg
    obtain ⟨x3, x4, x5, x6⟩ := zx_s1 hk
    obtain ⟨q1, q2, q3, q4, q5⟩ := hz k hk
    simp only [u55_0, u55_1, u55_4, u55_7, u55_9, u55_10, u55_11, u55_14, u55_15, u55_16, u55_19, u55_20, u55_23, u55_25, u55_26, u55_27, u55_30, u55_31, u55_32, u55_33, u55_36, u55_39, u55_41, u55_42, u55_43, u55_46, u55_47, u55_48, u55_49, u55_50, u55_53, u55_54, zk_mk_1, zk_mk_I, zk_mk_R, zk_mk_set, zk_mk_setR, zk_mk_cpy, zk_rv_some, zk_rv_none, Option.toList_some, Option.toList_none, List.cons_append, List.nil_append, reduceIte, eq_self, Nat.reduceLT, Nat.reduceEqDiff, and_true, true_and, reduceCtorEq, zsh_0, zsh_26, zrf_0_8, y1, y2, x1, x3, x5]
    by_cases hm : I (52 + 2 * k) 1 = -1
    · have e : zA_cell I Z (nI k) i = -11 := by unfold zA_cell; rw [if_pos hs, y2, if_pos hm]
      rw [if_pos hm]
      rw [e] at K
      exact K I (by rw [if_neg (by decide)])
    · rw [if_neg hm, s89 hk]
      simp only [u55_0, u55_1, u55_4, u55_7, u55_9, u55_10, u55_11, u55_14, u55_15, u55_16, u55_19, u55_20, u55_23, u55_25, u55_26, u55_27, u55_30, u55_31, u55_32, u55_33, u55_36, u55_39, u55_41, u55_42, u55_43, u55_46, u55_47, u55_48, u55_49, u55_50, u55_53, u55_54, zk_mk_1, zk_mk_I, zk_mk_R, zk_mk_set, zk_mk_setR, zk_mk_cpy, zk_rv_some, zk_rv_none, Option.toList_some, Option.toList_none, List.cons_append, List.nil_append, reduceIte, eq_self, Nat.reduceLT, Nat.reduceEqDiff, and_true, true_and, reduceCtorEq, q2, zb_z]
      by_cases hi : 0 ≤ i ∧ i < nI (Z k)
      · have e : zA_cell I Z (nI k) i = 1 := by unfold zA_cell; rw [if_pos hs, y2, if_neg hm, if_pos hi]
        rw [if_neg (fun q => q hi)]
        obtain ⟨j, hj, rfl⟩ := zn_of hi.1 hi.2 (show Z k < 2147483648 by omega)
        have y3 : (nI j).toNatClampNeg = j := zn_cl (by omega)
        simp only [u55_0, u55_1, u55_4, u55_7, u55_9, u55_10, u55_11, u55_14, u55_15, u55_16, u55_19, u55_20, u55_23, u55_25, u55_26, u55_27, u55_30, u55_31, u55_32, u55_33, u55_36, u55_39, u55_41, u55_42, u55_43, u55_46, u55_47, u55_48, u55_49, u55_50, u55_53, u55_54, zk_mk_1, zk_mk_I, zk_mk_R, zk_mk_set, zk_mk_setR, zk_mk_cpy, zk_rv_some, zk_rv_none, Option.toList_some, Option.toList_none, List.cons_append, List.nil_append, reduceIte, eq_self, Nat.reduceLT, Nat.reduceEqDiff, and_true, true_and, reduceCtorEq, zsh_0, zsh_26, zrf_0_8, y1, y2, x1, x3, x5, s88 hk q2 q4 hj]
        rw [e, y2, y3] at K
        exact K _ (by rw [if_pos rfl])
      · have e : zA_cell I Z (nI k) i = -12 := by unfold zA_cell; rw [if_pos hs, y2, if_neg hm, if_neg hi]
        rw [if_pos hi]
        rw [e] at K
        exact K I (by rw [if_neg (by decide)])
  · rw [if_pos hs]
    have e : zA_cell I Z s i = -2 := if_neg hs
    rw [e] at K
    exact K I (by rw [if_neg (by decide)])
theorem s211 {sc : zk_X} {d : Nat} {I I1 : Nat → Nat → Int32} {tg : Option Nat} {P : Option Value → zk_M → Prop} {n t q m : Nat} {TT EE : Nat → Nat → Nat} {Z : Nat → Nat} {s i v : Int32} (hJ : zJ I n t q m TT EE Z) (hM : zMc I I1 Z s i v)
    (K : ∀ I2 : Nat → Nat → Int32, zJ I2 n t q m TT EE Z → P (some (.int (zA_cell I Z s i))) (zk_mk I2 tg)) : zk_R sc (d + 1) 211 0 [some (.ref (60 : Nat)), some (.int s), some (.int i), some (.int v)] [] (zk_mk I1 tg) P := by
  have hz := hJ.2.2.2.2.1
  unfold zMc at hM
  have ref : zA_cell I Z s i ≠ 1 → I1 = I ∧ P (some (.int (zA_cell I Z s i))) (zk_mk I1 tg) := by
    intro h
    rw [if_neg h] at hM
    rw [hM]
    exact ⟨rfl, K I hJ⟩
  simp only [u211_0, u211_1, u211_2, u211_3, u211_6, u211_9, u211_11, u211_12, u211_13, u211_16, u211_17, u211_18, u211_19, u211_22, u211_24, u211_25, u211_26, u211_27, u211_28, u211_31, u211_32, u211_33, u211_34, u211_35, u211_38, u211_41, u211_43, u211_44, u211_45, u211_48, u211_50, u211_51, u211_52, u211_53, u211_54, u211_55, u211_58, u211_59, u211_60, u211_63, u211_64, u211_65, u211_68, u211_69, u211_72, u211_73, u211_74, u211_75, u211_78, u211_79, u211_80, u211_83, u211_84, u211_85, u211_86, zk_mk_1, zk_mk_I, zk_mk_R, zk_mk_set, zk_mk_setR, zk_mk_cpy, zk_rv_some, zk_rv_none, Option.toList_some, Option.toList_none, List.cons_append, List.nil_append, reduceIte, eq_self, Nat.reduceLT, Nat.reduceEqDiff, and_true, true_and, reduceCtorEq, zsh_60, s129, zb_z, zn_34]
  by_cases hs : 0 ≤ s ∧ s < 4
  · rw [if_neg (fun q => q hs)]
    obtain ⟨k, hk, rfl⟩ := zn_of (m := 4) hs.1 hs.2 (by decide)
    have y1 : zk_inb (nI k) 4 = true := by rw [zn_in (by omega)]; omega
    have y2 : (nI k).toNatClampNeg = k := zn_cl (by omega)
    obtain ⟨q1, q2, q3, q4, q5⟩ := hz k hk
    by_cases hm : I (52 + 2 * k) 1 = -1
    · have e : zA_cell I Z (nI k) i = -11 := by unfold zA_cell; rw [if_pos hs, y2, if_pos hm]
      obtain ⟨r1, r2⟩ := ref (by rw [e]; decide)
      rw [e] at r2
      rw [r1] at r2 ⊢
      simp only [u211_0, u211_1, u211_2, u211_3, u211_6, u211_9, u211_11, u211_12, u211_13, u211_16, u211_17, u211_18, u211_19, u211_22, u211_24, u211_25, u211_26, u211_27, u211_28, u211_31, u211_32, u211_33, u211_34, u211_35, u211_38, u211_41, u211_43, u211_44, u211_45, u211_48, u211_50, u211_51, u211_52, u211_53, u211_54, u211_55, u211_58, u211_59, u211_60, u211_63, u211_64, u211_65, u211_68, u211_69, u211_72, u211_73, u211_74, u211_75, u211_78, u211_79, u211_80, u211_83, u211_84, u211_85, u211_86, zk_mk_1, zk_mk_I, zk_mk_R, zk_mk_set, zk_mk_setR, zk_mk_cpy, zk_rv_some, zk_rv_none, Option.toList_some, Option.toList_none, List.cons_append, List.nil_append, reduceIte, eq_self, Nat.reduceLT, Nat.reduceEqDiff, and_true, true_and, reduceCtorEq, zsh_60, zsh_69, zrf_60_15, y1, y2, q1, hm]
      exact r2
    · by_cases hi : 0 ≤ i ∧ i < nI (Z k)
      · have e : zA_cell I Z (nI k) i = 1 := by unfold zA_cell; rw [if_pos hs, y2, if_neg hm, if_pos hi]
        obtain ⟨j, hj, rfl⟩ := zn_of hi.1 hi.2 (show Z k < 2147483648 by omega)
        have y3 : (nI j).toNatClampNeg = j := zn_cl (by omega)
        rw [if_pos e, y2, y3] at hM
        rw [e] at K
        have e69 : I1 69 k = I (52 + 2 * k) 1 := by rw [hM, zk_up2_k (by omega)]; exact q1
        have e70 : I1 70 k = nI (Z k) := by rw [hM, zk_up2_k (by omega)]; exact q3
        have ei : (40 : Int32) * nI k + nI j = nI (40 * k + j) := by rw [show (40 : Int32) = nI 40 from rfl, zn_mul, zn_add]
        have z1 : zk_inb (nI (40 * k + j)) 160 = true := by rw [zn_in (by omega)]; omega
        have z2 : (nI (40 * k + j)).toNatClampNeg = 40 * k + j := zn_cl (by omega)
        -- what both have put there
        have fin : ∀ w, w = zcv (I (52 + 2 * k) 1) v → P (some (.int 1)) (zk_mk (zk_up2 I1 71 (40 * k + j) w) tg) := by
          rintro w rfl
          refine K _ (zJ_sh hJ (fun p j1 j2 j3 j4 j5 => by rw [zk_up2_r (by omega), hM, zk_up2_r (by omega)]) (fun s' hs' => ?_))
          obtain ⟨r1, r2, r3, r4, r5⟩ := hz s' hs'
          rw [zk_up2_r (show (69 : Nat) ≠ 71 by decide), zk_up2_r (show (52 + 2 * s' : Nat) ≠ 71 by omega), zk_up2_r (show (70 : Nat) ≠ 71 by decide), hM]
          rw [zk_up2_r (show (69 : Nat) ≠ 53 + 2 * k by omega), zk_up2_r (show (52 + 2 * s' : Nat) ≠ 53 + 2 * k by omega), zk_up2_r (show (70 : Nat) ≠ 53 + 2 * k by omega)]
          refine ⟨r1, r2, r3, r4, fun b hb => ?_⟩
          rw [zk_up2_i, zk_up2_k (show (53 + 2 * s' : Nat) ≠ 71 by omega)]
          by_cases es : s' = k
          · subst es
            rw [zk_up2_i, zk_up2_k (show (71 : Nat) ≠ 53 + 2 * s' by omega)]
            by_cases eb : b = j
            · rw [if_pos (by omega), if_pos eb]
            · rw [if_neg (by omega), if_neg eb]; exact r5 b hb
          · rw [if_neg (by omega), zk_up2_k (show (71 : Nat) ≠ 53 + 2 * k by omega), zk_up2_k (by omega)]
            exact r5 b hb
        have hi2 : 0 ≤ nI j ∧ nI j ≤ nI (Z k) - 1 := by rw [zn_lem0 (show Z k < 2147483648 by omega)]; exact hi
        simp only [u211_0, u211_1, u211_2, u211_3, u211_6, u211_9, u211_11, u211_12, u211_13, u211_16, u211_17, u211_18, u211_19, u211_22, u211_24, u211_25, u211_26, u211_27, u211_28, u211_31, u211_32, u211_33, u211_34, u211_35, u211_38, u211_41, u211_43, u211_44, u211_45, u211_48, u211_50, u211_51, u211_52, u211_53, u211_54, u211_55, u211_58, u211_59, u211_60, u211_63, u211_64, u211_65, u211_68, u211_69, u211_72, u211_73, u211_74, u211_75, u211_78, u211_79, u211_80, u211_83, u211_84, u211_85, u211_86, zk_mk_1, zk_mk_I, zk_mk_R, zk_mk_set, zk_mk_setR, zk_mk_cpy, zk_rv_some, zk_rv_none, Option.toList_some, Option.toList_none, List.cons_append, List.nil_append, reduceIte, eq_self, Nat.reduceLT, Nat.reduceEqDiff, and_true, true_and, reduceCtorEq, zsh_60, zsh_69, zsh_70, zsh_71, zrf_60_15, zrf_60_16, zrf_60_17, y1, y2, e69, e70, hm, s129, zb_z, hi2, and_self, not_true_eq_false, ei, z1, z2]
        unfold zcv at fin
        by_cases c0 : I (52 + 2 * k) 1 = 0
        · rw [if_pos c0]
          exact fin _ (by rw [if_pos c0])
        · rw [if_neg c0]
          by_cases c1 : I (52 + 2 * k) 1 = 1
          · rw [if_pos c1]
            exact fin _ (by rw [if_neg c0, if_pos c1])
          · rw [if_neg c1]
            exact fin _ (by rw [if_neg c0, if_neg c1])
      · have e : zA_cell I Z (nI k) i = -12 := by unfold zA_cell; rw [if_pos hs, y2, if_neg hm, if_neg hi]
        obtain ⟨r1, r2⟩ := ref (by rw [e]; decide)
        rw [e] at r2
        rw [r1] at r2 ⊢
        have hi2 : ¬ (0 ≤ i ∧ i ≤ nI (Z k) - 1) := by rw [zn_lem0 (show Z k < 2147483648 by omega)]; exact hi
        simp only [u211_0, u211_1, u211_2, u211_3, u211_6, u211_9, u211_11, u211_12, u211_13, u211_16, u211_17, u211_18, u211_19, u211_22, u211_24, u211_25, u211_26, u211_27, u211_28, u211_31, u211_32, u211_33, u211_34, u211_35, u211_38, u211_41, u211_43, u211_44, u211_45, u211_48, u211_50, u211_51, u211_52, u211_53, u211_54, u211_55, u211_58, u211_59, u211_60, u211_63, u211_64, u211_65, u211_68, u211_69, u211_72, u211_73, u211_74, u211_75, u211_78, u211_79, u211_80, u211_83, u211_84, u211_85, u211_86, zk_mk_1, zk_mk_I, zk_mk_R, zk_mk_set, zk_mk_setR, zk_mk_cpy, zk_rv_some, zk_rv_none, Option.toList_some, Option.toList_none, List.cons_append, List.nil_append, reduceIte, eq_self, Nat.reduceLT, Nat.reduceEqDiff, and_true, true_and, reduceCtorEq, zsh_60, zsh_69, zsh_70, zrf_60_15, zrf_60_16, y1, y2, q1, q3, hm, s129, zb_z]
        rw [if_pos hi2]
        exact r2
  · rw [if_pos hs]
    have e : zA_cell I Z s i = -2 := if_neg hs
    have := (ref (by rw [e]; decide)).2
    rw [e] at this
    exact this
