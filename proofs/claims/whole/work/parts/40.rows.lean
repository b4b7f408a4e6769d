/-! told rows: what is refused, the first wrong one -/
def zgood (n : Nat) (v : Nat → Int32) : Nat → Bool
  | 0 => true
  | k + 1 => zgood n v k && decide (0 ≤ v (2 * k) ∧ v (2 * k) < nI (2 ^ n))
theorem zgood_lt {n : Nat} {v : Nat → Int32} : ∀ {m : Nat}, zgood n v m = true → ∀ j, j < m → 0 ≤ v (2 * j) ∧ v (2 * j) < nI (2 ^ n)
  | 0, _, j, hj => absurd hj (Nat.not_lt_zero _)
  | m + 1, h, j, hj => by
    rw [zgood, Bool.and_eq_true, decide_eq_true_eq] at h
    by_cases e : j = m
    · subst e; exact h.2
    · exact zgood_lt h.1 j (by omega)
theorem zgood_no {n : Nat} {v : Nat → Int32} {j : Nat} (hj : ¬ (0 ≤ v (2 * j) ∧ v (2 * j) < nI (2 ^ n))) : ∀ m, j < m → zgood n v m = false
  | 0, h => absurd h (Nat.not_lt_zero _)
  | m + 1, h => by
    rw [zgood]
    by_cases e : j = m
    · subst e; rw [decide_eq_false hj, Bool.and_false]
    · rw [zgood_no hj m (by omega), Bool.false_and]
theorem z_rem2 : ∀ z : Nat, z < 41 → ((nI z - nI z / 2 * 2 = 0) = (z % 2 = 0)) := by
  have h : ∀ z : Nat, z < 41 → (decide (nI z - nI z / 2 * 2 = 0)) = decide (z % 2 = 0) := by decide +kernel
  intro z hz
  have := h z hz
  simpa using this
theorem z_div2 : ∀ z : Nat, z < 41 → nI z / 2 = nI (z / 2) := by decide +kernel
theorem zn_2k (k : Nat) : nI (2 * k) + 2 = nI (2 * (k + 1)) := zn_add (2 * k) 2
def zR (I : Nat → Nat → Int32) (n k z : Nat) : Int32 := if I (52 + 2 * k) 1 = -1 then -11 else if z % 2 = 0 ∧ zgood n (I (53 + 2 * k)) (z / 2) = true then 0 else -2
theorem s37 {sc : zk_X} {d : Nat} {I : Nat → Nat → Int32} {tg : Option Nat} {P : Option Value → zk_M → Prop} {n k : Nat} {Z : Nat → Nat} (hn : I 1 4 = nI n) (h10 : n ≤ 10) (hz : zj_sh I Z) (hk : k < 4) : zk_R sc (d + 1) 37 0 [some (.ref (0 : Nat)), some (.int (nI k)), none, none] [] (zk_mk I tg) P = P (some (.int (zR I n k (Z k)))) (zk_mk I tg) := by
  refine zk_R_det ?_ P
  have p10 := zp_10 h10
  have y1 : zk_inb (nI k) 4 = true := by rw [zn_in (by omega)]; omega
  have y2 : (nI k).toNatClampNeg = k := zn_cl (by omega)
  have y3 : 0 ≤ nI k ∧ nI k < 4 := by
    rw [show (0 : Int32) = nI 0 from rfl, show (4 : Int32) = nI 4 from rfl, zn_le (by decide) (by omega), zn_lt (by omega) (by decide)]; omega
  obtain ⟨x1, x2⟩ := zx_s hk tg
  obtain ⟨x3, x4, x5, x6⟩ := zx_s1 hk
  obtain ⟨q1, q2, q3, q4, q5⟩ := hz k hk
  unfold zR
  simp only [u37_0, u37_1, u37_4, u37_7, u37_9, u37_10, u37_11, u37_14, u37_15, u37_16, u37_17, u37_18, u37_21, u37_22, u37_25, u37_27, u37_28, u37_29, u37_32, u37_33, u37_34, u37_37, u37_39, u37_40, u37_41, u37_43, u37_44, u37_47, u37_50, u37_51, u37_54, u37_55, u37_58, u37_59, u37_60, u37_63, u37_66, u37_68, u37_69, u37_72, u37_75, u37_76, zk_mk_1, zk_mk_I, zk_mk_R, zk_mk_set, zk_mk_setR, zk_mk_cpy, zk_rv_some, zk_rv_none, Option.toList_some, Option.toList_none, List.cons_append, List.nil_append, reduceIte, eq_self, Nat.reduceLT, Nat.reduceEqDiff, and_true, true_and, reduceCtorEq, zsh_0, zsh_26, zrf_0_8, s38, zb_z, y1, y2, x1, x2, x3, x4, x5, x6, q2, zq_2, not_false_eq_true]
  rw [if_neg (fun q => q y3)]
  by_cases hm : I (52 + 2 * k) 1 = -1
  · rw [if_pos hm, if_pos hm] <;> trivial
  · rw [if_neg hm, if_neg hm]
    simp only [z_rem2 _ (show Z k < 41 by omega)]
    by_cases ho : Z k % 2 = 0
    · rw [if_pos ho]
      have loop := zl_up (τ := Unit) (fun i _ => zk_R sc (d + 1) 37 42 [some (.ref (0 : Nat)), some (.int (nI k)), some (.ref (52 + 2 * k)), some (.int (nI (2 * i)))] [] (zk_mk I tg) (fun r M' => r = some (.int (if Z k % 2 = 0 ∧ zgood n (I (53 + 2 * k)) (Z k / 2) = true then 0 else -2)) ∧ M' = zk_mk I tg))
        (fun i _ => zgood n (I (53 + 2 * k)) i = true) (Z k / 2) (by
          intro _ hg
          rw [u37_42]
          simp only [u37_0, u37_1, u37_4, u37_7, u37_9, u37_10, u37_11, u37_14, u37_15, u37_16, u37_17, u37_18, u37_21, u37_22, u37_25, u37_27, u37_28, u37_29, u37_32, u37_33, u37_34, u37_37, u37_39, u37_40, u37_41, u37_43, u37_44, u37_47, u37_50, u37_51, u37_54, u37_55, u37_58, u37_59, u37_60, u37_63, u37_66, u37_68, u37_69, u37_72, u37_75, u37_76, zk_mk_1, zk_mk_I, zk_mk_R, zk_mk_set, zk_mk_setR, zk_mk_cpy, zk_rv_some, zk_rv_none, Option.toList_some, Option.toList_none, List.cons_append, List.nil_append, reduceIte, eq_self, Nat.reduceLT, Nat.reduceEqDiff, and_true, true_and, reduceCtorEq, x2, x3, x4, x5, x6, q2]
          rw [if_pos (nI_le (by omega) (by omega)), if_pos ⟨ho, hg⟩] <;> trivial) (by
          intro i _ hi hg ih
          have z1 : zk_inb (nI (2 * i)) 40 = true := by rw [zn_in (by omega)]; omega
          have z2 : (nI (2 * i)).toNatClampNeg = 2 * i := zn_cl (by omega)
          rw [u37_42]
          simp only [u37_0, u37_1, u37_4, u37_7, u37_9, u37_10, u37_11, u37_14, u37_15, u37_16, u37_17, u37_18, u37_21, u37_22, u37_25, u37_27, u37_28, u37_29, u37_32, u37_33, u37_34, u37_37, u37_39, u37_40, u37_41, u37_43, u37_44, u37_47, u37_50, u37_51, u37_54, u37_55, u37_58, u37_59, u37_60, u37_63, u37_66, u37_68, u37_69, u37_72, u37_75, u37_76, zk_mk_1, zk_mk_I, zk_mk_R, zk_mk_set, zk_mk_setR, zk_mk_cpy, zk_rv_some, zk_rv_none, Option.toList_some, Option.toList_none, List.cons_append, List.nil_append, reduceIte, eq_self, Nat.reduceLT, Nat.reduceEqDiff, and_true, true_and, reduceCtorEq, zsh_0, zsh_1, zrf_0_0, x2, x3, x4, x5, x6, q2, z1, z2, s97, hn, zq_all h10, zb_z, zn_2k]
          rw [if_neg (nI_ge (by omega) (by omega))]
          by_cases hc : 0 ≤ I (53 + 2 * k) (2 * i) ∧ I (53 + 2 * k) (2 * i) < nI (2 ^ n)
          · rw [if_neg (fun q => q hc)]
            exact ih () (by rw [zgood, hg, decide_eq_true hc]; rfl)
          · rw [if_pos hc, zgood_no hc _ hi, if_neg (fun q => by cases q.2)] <;> trivial)
      exact loop 0 () (Nat.zero_le _) rfl
    · rw [if_neg ho, if_neg (fun q => ho q.1)] <;> trivial
theorem s37n {sc : zk_X} {d : Nat} {I : Nat → Nat → Int32} {tg : Option Nat} {P : Option Value → zk_M → Prop} {s : Int32} (hs : ¬ (0 ≤ s ∧ s < 4)) : zk_R sc (d + 1) 37 0 [some (.ref (0 : Nat)), some (.int s), none, none] [] (zk_mk I tg) P = P (some (.int (-2))) (zk_mk I tg) := by
  simp only [u37_0, u37_1, u37_4, u37_7, u37_9, u37_10, u37_11, u37_14, u37_15, u37_16, u37_17, u37_18, u37_21, u37_22, u37_25, u37_27, u37_28, u37_29, u37_32, u37_33, u37_34, u37_37, u37_39, u37_40, u37_41, u37_43, u37_44, u37_47, u37_50, u37_51, u37_54, u37_55, u37_58, u37_59, u37_60, u37_63, u37_66, u37_68, u37_69, u37_72, u37_75, u37_76, zk_mk_1, zk_mk_I, zk_mk_R, zk_mk_set, zk_mk_setR, zk_mk_cpy, zk_rv_some, zk_rv_none, Option.toList_some, Option.toList_none, List.cons_append, List.nil_append, reduceIte, eq_self, Nat.reduceLT, Nat.reduceEqDiff, and_true, true_and, reduceCtorEq, zsh_0, s38, zb_z]
  rw [if_pos hs]
theorem s191 {sc : zk_X} {d : Nat} {I : Nat → Nat → Int32} {tg : Option Nat} {P : Option Value → zk_M → Prop} {n k : Nat} {Z : Nat → Nat} (hn : I 60 0 = nI n) (h10 : n ≤ 10) (hz : zj_sh I Z) (hk : k < 4) : zk_R sc (d + 2) 191 0 [some (.ref (60 : Nat)), some (.int (nI k)), none, none, none] [] (zk_mk I tg) P = P (some (.int (zR I n k (Z k)))) (zk_mk I tg) := by
  refine zk_R_det ?_ P
  have p10 := zp_10 h10
  have y1 : zk_inb (nI k) 4 = true := by rw [zn_in (by omega)]; omega
  have y2 : (nI k).toNatClampNeg = k := zn_cl (by omega)
  have y3 : 0 ≤ nI k ∧ nI k < 4 := by
    rw [show (0 : Int32) = nI 0 from rfl, show (4 : Int32) = nI 4 from rfl, zn_le (by decide) (by omega), zn_lt (by omega) (by decide)]; omega
  obtain ⟨q1, q2, q3, q4, q5⟩ := hz k hk
  unfold zR
  simp only [u191_0, u191_1, u191_2, u191_5, u191_6, u191_7, u191_10, u191_11, u191_12, u191_13, u191_16, u191_17, u191_18, u191_19, u191_20, u191_23, u191_24, u191_27, u191_28, u191_29, u191_30, u191_34, u191_35, u191_36, u191_37, u191_40, u191_41, u191_42, u191_45, u191_46, u191_49, u191_50, u191_51, u191_54, u191_56, u191_57, u191_58, u191_60, u191_61, u191_62, u191_65, u191_68, u191_69, u191_72, u191_73, u191_74, u191_77, u191_80, u191_81, u191_84, u191_85, u191_88, u191_90, u192_0, u192_1, u192_2, u192_3, u192_6, u192_9, u192_11, u192_12, u192_13, u192_16, u192_17, u192_18, u192_19, u192_22, u192_24, u192_27, u192_28, zk_mk_1, zk_mk_I, zk_mk_R, zk_mk_set, zk_mk_setR, zk_mk_cpy, zk_rv_some, zk_rv_none, Option.toList_some, Option.toList_none, List.cons_append, List.nil_append, reduceIte, eq_self, Nat.reduceLT, Nat.reduceEqDiff, and_true, true_and, reduceCtorEq, zsh_60, zsh_69, zsh_70, zrf_60_15, zrf_60_16, s129, zb_z, zn_34, y1, y2, q1, q3, zq_2, not_false_eq_true]
  rw [if_neg (fun q => q y3)]
  by_cases hm : I (52 + 2 * k) 1 = -1
  · rw [if_pos hm, if_pos hm]
    simp only [u191_0, u191_1, u191_2, u191_5, u191_6, u191_7, u191_10, u191_11, u191_12, u191_13, u191_16, u191_17, u191_18, u191_19, u191_20, u191_23, u191_24, u191_27, u191_28, u191_29, u191_30, u191_34, u191_35, u191_36, u191_37, u191_40, u191_41, u191_42, u191_45, u191_46, u191_49, u191_50, u191_51, u191_54, u191_56, u191_57, u191_58, u191_60, u191_61, u191_62, u191_65, u191_68, u191_69, u191_72, u191_73, u191_74, u191_77, u191_80, u191_81, u191_84, u191_85, u191_88, u191_90, zk_mk_1, zk_mk_I, zk_mk_R, zk_mk_set, zk_mk_setR, zk_mk_cpy, zk_rv_some, zk_rv_none, Option.toList_some, Option.toList_none, List.cons_append, List.nil_append, reduceIte, eq_self, Nat.reduceLT, Nat.reduceEqDiff, and_true, true_and, reduceCtorEq, show ((-11 : Int32) = 0) = False from by decide]
  · rw [if_neg hm, if_neg hm]
    simp only [u191_0, u191_1, u191_2, u191_5, u191_6, u191_7, u191_10, u191_11, u191_12, u191_13, u191_16, u191_17, u191_18, u191_19, u191_20, u191_23, u191_24, u191_27, u191_28, u191_29, u191_30, u191_34, u191_35, u191_36, u191_37, u191_40, u191_41, u191_42, u191_45, u191_46, u191_49, u191_50, u191_51, u191_54, u191_56, u191_57, u191_58, u191_60, u191_61, u191_62, u191_65, u191_68, u191_69, u191_72, u191_73, u191_74, u191_77, u191_80, u191_81, u191_84, u191_85, u191_88, u191_90, zk_mk_1, zk_mk_I, zk_mk_R, zk_mk_set, zk_mk_setR, zk_mk_cpy, zk_rv_some, zk_rv_none, Option.toList_some, Option.toList_none, List.cons_append, List.nil_append, reduceIte, eq_self, Nat.reduceLT, Nat.reduceEqDiff, and_true, true_and, reduceCtorEq, zsh_60, zsh_69, zsh_70, zrf_60_15, zrf_60_16, y1, y2, q3, zq_2, not_false_eq_true, z_rem2 _ (show Z k < 41 by omega)]
    have loop := zl_up (τ := Unit) (fun i _ => zk_R sc (d + 2) 191 32 [some (.ref (60 : Nat)), some (.int (nI k)), some (.int 0), some (.int (zb (Z k % 2 = 0 ∧ zgood n (I (53 + 2 * k)) i = true))), some (.int (nI (2 * i)))] [] (zk_mk I tg) (fun r M' => r = some (.int (if Z k % 2 = 0 ∧ zgood n (I (53 + 2 * k)) (Z k / 2) = true then 0 else -2)) ∧ M' = zk_mk I tg))
      (fun i _ => True) (Z k / 2) (by
        intro _ _
        rw [u191_32]
        simp only [u191_0, u191_1, u191_2, u191_5, u191_6, u191_7, u191_10, u191_11, u191_12, u191_13, u191_16, u191_17, u191_18, u191_19, u191_20, u191_23, u191_24, u191_27, u191_28, u191_29, u191_30, u191_34, u191_35, u191_36, u191_37, u191_40, u191_41, u191_42, u191_45, u191_46, u191_49, u191_50, u191_51, u191_54, u191_56, u191_57, u191_58, u191_60, u191_61, u191_62, u191_65, u191_68, u191_69, u191_72, u191_73, u191_74, u191_77, u191_80, u191_81, u191_84, u191_85, u191_88, u191_90, zk_mk_1, zk_mk_I, zk_mk_R, zk_mk_set, zk_mk_setR, zk_mk_cpy, zk_rv_some, zk_rv_none, Option.toList_some, Option.toList_none, List.cons_append, List.nil_append, reduceIte, eq_self, Nat.reduceLT, Nat.reduceEqDiff, and_true, true_and, reduceCtorEq, zsh_60, zsh_70, zrf_60_16, y1, y2, q3, nI_1, zb_z]
        rw [if_pos (nI_le (by omega) (by omega))]
        by_cases hg : Z k % 2 = 0 ∧ zgood n (I (53 + 2 * k)) (Z k / 2) = true
        · rw [if_neg (fun q => q hg), if_pos hg] <;> trivial
        · rw [if_pos hg, if_neg hg] <;> trivial) (by
        intro i _ hi _ ih
        have ei : (40 : Int32) * nI k + nI (2 * i) = nI (40 * k + 2 * i) := by rw [show (40 : Int32) = nI 40 from rfl, zn_mul, zn_add]
        have z1 : zk_inb (nI (40 * k + 2 * i)) 160 = true := by rw [zn_in (by omega)]; omega
        have z2 : (nI (40 * k + 2 * i)).toNatClampNeg = 40 * k + 2 * i := zn_cl (by omega)
        rw [u191_32]
        simp only [u191_0, u191_1, u191_2, u191_5, u191_6, u191_7, u191_10, u191_11, u191_12, u191_13, u191_16, u191_17, u191_18, u191_19, u191_20, u191_23, u191_24, u191_27, u191_28, u191_29, u191_30, u191_34, u191_35, u191_36, u191_37, u191_40, u191_41, u191_42, u191_45, u191_46, u191_49, u191_50, u191_51, u191_54, u191_56, u191_57, u191_58, u191_60, u191_61, u191_62, u191_65, u191_68, u191_69, u191_72, u191_73, u191_74, u191_77, u191_80, u191_81, u191_84, u191_85, u191_88, u191_90, zk_mk_1, zk_mk_I, zk_mk_R, zk_mk_set, zk_mk_setR, zk_mk_cpy, zk_rv_some, zk_rv_none, Option.toList_some, Option.toList_none, List.cons_append, List.nil_append, reduceIte, eq_self, Nat.reduceLT, Nat.reduceEqDiff, and_true, true_and, reduceCtorEq, zsh_60, zsh_70, zsh_71, zrf_60_16, zrf_60_17, y1, y2, q3, nI_1, zb_z, ei, z1, z2, q5 (2 * i) (by omega), s160, hn, zq_all h10, zn_lem (show 2 ^ n < 2147483648 by omega) p10.1, zn_2k]
        rw [if_neg (nI_ge (by omega) (by omega))]
        have ih2 := ih () trivial
        by_cases hg : Z k % 2 = 0 ∧ zgood n (I (53 + 2 * k)) i = true
        · rw [if_neg (fun q => q hg)]
          by_cases hc : 0 ≤ I (53 + 2 * k) (2 * i) ∧ I (53 + 2 * k) (2 * i) < nI (2 ^ n)
          · rw [if_neg (fun q => q hc)]
            rw [zb_t (show Z k % 2 = 0 ∧ zgood n (I (53 + 2 * k)) (i + 1) = true from ⟨hg.1, by rw [zgood, hg.2, decide_eq_true hc]; rfl⟩)] at ih2
            exact ih2
          · rw [if_pos hc]
            rw [zb_f (show ¬ (Z k % 2 = 0 ∧ zgood n (I (53 + 2 * k)) (i + 1) = true) from fun q => by rw [zgood_no hc _ (Nat.lt_succ_self i)] at q; cases q.2)] at ih2
            exact ih2
        · rw [if_pos hg]
          rw [zb_f (show ¬ (Z k % 2 = 0 ∧ zgood n (I (53 + 2 * k)) (i + 1) = true) from fun q => hg ⟨q.1, by
            have := q.2
            rw [zgood, Bool.and_eq_true] at this
            exact this.1⟩)] at ih2
          exact ih2)
    have l0 := loop 0 () (Nat.zero_le _) trivial
    by_cases ho : Z k % 2 = 0
    · rw [if_pos ho]
      rw [zb_t (show Z k % 2 = 0 ∧ zgood n (I (53 + 2 * k)) 0 = true from ⟨ho, rfl⟩)] at l0
      exact l0
    · rw [if_neg ho]
      rw [zb_f (show ¬ (Z k % 2 = 0 ∧ zgood n (I (53 + 2 * k)) 0 = true) from fun q => ho q.1)] at l0
      exact l0
theorem s191n {sc : zk_X} {d : Nat} {I : Nat → Nat → Int32} {tg : Option Nat} {P : Option Value → zk_M → Prop} {s : Int32} (hs : ¬ (0 ≤ s ∧ s < 4)) : zk_R sc (d + 2) 191 0 [some (.ref (60 : Nat)), some (.int s), none, none, none] [] (zk_mk I tg) P = P (some (.int (-2))) (zk_mk I tg) := by
  simp only [u191_0, u191_1, u191_2, u191_5, u191_6, u191_7, u191_10, u191_11, u191_12, u191_13, u191_16, u191_17, u191_18, u191_19, u191_20, u191_23, u191_24, u191_27, u191_28, u191_29, u191_30, u191_34, u191_35, u191_36, u191_37, u191_40, u191_41, u191_42, u191_45, u191_46, u191_49, u191_50, u191_51, u191_54, u191_56, u191_57, u191_58, u191_60, u191_61, u191_62, u191_65, u191_68, u191_69, u191_72, u191_73, u191_74, u191_77, u191_80, u191_81, u191_84, u191_85, u191_88, u191_90, u192_0, u192_1, u192_2, u192_3, u192_6, u192_9, u192_11, u192_12, u192_13, u192_16, u192_17, u192_18, u192_19, u192_22, u192_24, u192_27, u192_28, zk_mk_1, zk_mk_I, zk_mk_R, zk_mk_set, zk_mk_setR, zk_mk_cpy, zk_rv_some, zk_rv_none, Option.toList_some, Option.toList_none, List.cons_append, List.nil_append, reduceIte, eq_self, Nat.reduceLT, Nat.reduceEqDiff, and_true, true_and, reduceCtorEq, zsh_60, s129, zb_z, zn_34]
  rw [if_pos hs]
  simp only [u191_0, u191_1, u191_2, u191_5, u191_6, u191_7, u191_10, u191_11, u191_12, u191_13, u191_16, u191_17, u191_18, u191_19, u191_20, u191_23, u191_24, u191_27, u191_28, u191_29, u191_30, u191_34, u191_35, u191_36, u191_37, u191_40, u191_41, u191_42, u191_45, u191_46, u191_49, u191_50, u191_51, u191_54, u191_56, u191_57, u191_58, u191_60, u191_61, u191_62, u191_65, u191_68, u191_69, u191_72, u191_73, u191_74, u191_77, u191_80, u191_81, u191_84, u191_85, u191_88, u191_90, zk_mk_1, zk_mk_I, zk_mk_R, zk_mk_set, zk_mk_setR, zk_mk_cpy, zk_rv_some, zk_rv_none, Option.toList_some, Option.toList_none, List.cons_append, List.nil_append, reduceIte, eq_self, Nat.reduceLT, Nat.reduceEqDiff, and_true, true_and, reduceCtorEq, show ((-2 : Int32) = 0) = False from by decide]
