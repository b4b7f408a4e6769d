/-! unlike by both -/
theorem zct_le (p : Nat → Bool) : ∀ n, zct p n ≤ n
  | 0 => Nat.le_refl _
  | n + 1 => by
    have := zct_le p n
    rw [zct]
    split <;> omega
def zA_unlike (I : Nat → Nat → Int32) (n : Nat) (T e : Nat → Nat) (what : Int32) : Int32 := if 0 ≤ what ∧ what ≤ 1 then (if what = 1 then nI (zmany (zv_now I n T e) n) else zb (zmany (zv_now I n T e) n = 2 ^ n)) else -2
theorem s30 {sc : zk_X} {d : Nat} {I : Nat → Nat → Int32} {tg : Option Nat} {P : Option Value → zk_M → Prop} {n t : Nat} {T e : Nat → Nat} {what : Int32} (hq : zj_q I n t T e)
    (K : ∀ I' : Nat → Nat → Int32, zF I I' → P (some (.int (zA_unlike I n T e what))) (zk_mk I' tg)) : zk_R sc (d + 6) 30 0 [some (.ref (0 : Nat)), some (.int what), none] [] (zk_mk I tg) P := by
  obtain ⟨hj, hl, hr, ht, hx⟩ := hq
  have h10 := hj.2.2.1
  have p10 := zp_10 h10
  unfold zA_unlike at K
  simp only [u30_0, u30_1, u30_4, u30_5, u30_6, u30_9, u30_11, u30_12, u30_13, u30_16, u30_17, u30_20, u30_23, u30_24, u30_25, u30_26, u30_29, u30_30, u30_33, u30_34, u30_35, u30_38, u30_41, u30_42, u30_43, u30_46, u30_47, u30_50, u30_51, zk_mk_1, zk_mk_I, zk_mk_R, zk_mk_set, zk_mk_setR, zk_mk_cpy, zk_rv_some, zk_rv_none, Option.toList_some, Option.toList_none, List.cons_append, List.nil_append, reduceIte, eq_self, Nat.reduceLT, Nat.reduceEqDiff, and_true, true_and, reduceCtorEq, zsh_0]
  by_cases hw : 0 ≤ what ∧ what ≤ 1
  · rw [if_pos hw] at K
    rw [if_neg (Int32.not_lt.mpr hw.1), if_pos hw.2]
    refine s21 hj ht hl hx (fun I' h1 h2 h3 h4 => ?_)
    simp only [u30_0, u30_1, u30_4, u30_5, u30_6, u30_9, u30_11, u30_12, u30_13, u30_16, u30_17, u30_20, u30_23, u30_24, u30_25, u30_26, u30_29, u30_30, u30_33, u30_34, u30_35, u30_38, u30_41, u30_42, u30_43, u30_46, u30_47, u30_50, u30_51, zk_mk_1, zk_mk_I, zk_mk_R, zk_mk_set, zk_mk_setR, zk_mk_cpy, zk_rv_some, zk_rv_none, Option.toList_some, Option.toList_none, List.cons_append, List.nil_append, reduceIte, eq_self, Nat.reduceLT, Nat.reduceEqDiff, and_true, true_and, reduceCtorEq, zsh_0, zsh_15, zrf_0_7]
    refine s75 h10 h3 (fun h hh => (h4 h hh).1) (zv_now_bd hj) (fun I2 g1 => ?_)
    have K2 := K I2 (h1.trans (fun j hj => g1 j (by have := zKp_no hj; omega) (by have := zKp_no hj; omega)))
    have e15 : I2 15 3 = nI (2 ^ n - 1) := by rw [g1 15 (by decide) (by decide)]; exact h3
    have hle := zct_le (fun h => !zles (zv_now I n T e) n h) (2 ^ n)
    have hle : zmany (zv_now I n T e) n ≤ 2 ^ n := hle
    have e1 : nI (2 ^ n - 1) + 1 = nI (2 ^ n) := by rw [nI_1]; congr 1; omega
    have y1 : (nI (zmany (zv_now I n T e) n) = nI (2 ^ n)) = (zmany (zv_now I n T e) n = 2 ^ n) := zn_eq (by omega) (by omega)
    simp only [u30_0, u30_1, u30_4, u30_5, u30_6, u30_9, u30_11, u30_12, u30_13, u30_16, u30_17, u30_20, u30_23, u30_24, u30_25, u30_26, u30_29, u30_30, u30_33, u30_34, u30_35, u30_38, u30_41, u30_42, u30_43, u30_46, u30_47, u30_50, u30_51, zk_mk_1, zk_mk_I, zk_mk_R, zk_mk_set, zk_mk_setR, zk_mk_cpy, zk_rv_some, zk_rv_none, Option.toList_some, Option.toList_none, List.cons_append, List.nil_append, reduceIte, eq_self, Nat.reduceLT, Nat.reduceEqDiff, and_true, true_and, reduceCtorEq, zsh_0, zsh_15, zrf_0_7, e15, e1, y1]
    by_cases w1 : what = 1
    · rw [if_pos w1] at K2 ⊢; exact K2
    · rw [if_neg w1] at K2 ⊢
      by_cases hc : zmany (zv_now I n T e) n = 2 ^ n
      · rw [zb_t hc] at K2
        rw [if_pos hc]; exact K2
      · rw [zb_f hc] at K2
        rw [if_neg hc]; exact K2
  · rw [if_neg hw] at K
    have K2 := K I (zF_refl I)
    split
    · exact K2
    · next h =>
      rw [if_neg (fun q => hw ⟨Int32.not_lt.mp h, q⟩)]
      exact K2
theorem s181 {sc : zk_X} {d : Nat} {I : Nat → Nat → Int32} {tg : Option Nat} {P : Option Value → zk_M → Prop} {n h : Nat} {f : Nat → Int32} (h10 : n ≤ 10) (hs : zv_rows I 78 79 f n) (hh : h < 2 ^ n) : zk_R sc d 181 0 [some (.ref (60 : Nat)), some (.int (nI h)), none] [] (zk_mk I tg) P = P (some (.int (zb (zles f n h = true)))) (zk_mk I tg) := by
  refine zk_R_det ?_ P
  have p10 := zp_10 h10
  have z1 : zk_inb (nI h) 1024 = true := by rw [zn_in (by omega)]; omega
  have z2 : (nI h).toNatClampNeg = h := zn_cl (by omega)
  have loop := zl_up (τ := Unit) (fun i _ => zk_R sc d 181 2 [some (.ref (60 : Nat)), some (.int (nI h)), some (.int (nI i))] [] (zk_mk I tg) (fun r M' => r = some (.int (zb (zles f n h = true))) ∧ M' = zk_mk I tg))
    (fun i _ => ∀ o, o < i → ¬ zsum f o n = zsum f h n) h (by
      intro _ hno
      have e : zles f n h = false := by
        unfold zles
        exact decide_eq_false (fun ⟨o, ho, eo⟩ => hno o ho eo)
      rw [u181_2]
      simp only [u181_0, u181_1, u181_3, u181_4, u181_7, u181_8, u181_11, u181_12, u181_13, u181_14, u181_17, u181_18, u181_19, u181_22, u181_23, u181_24, u181_27, u181_30, u181_31, zk_mk_1, zk_mk_I, zk_mk_R, zk_mk_set, zk_mk_setR, zk_mk_cpy, zk_rv_some, zk_rv_none, Option.toList_some, Option.toList_none, List.cons_append, List.nil_append, reduceIte, eq_self, Nat.reduceLT, Nat.reduceEqDiff, and_true, true_and, reduceCtorEq, true_or, or_true]
      rw [if_pos (nI_le (Nat.le_refl _) (by omega))]
      rw [zb_f (by rw [e]; decide)] <;> trivial) (by
      intro i _ hi hno ih
      have z3 : zk_inb (nI i) 1024 = true := by rw [zn_in (by omega)]; omega
      have z4 : (nI i).toNatClampNeg = i := zn_cl (by omega)
      rw [u181_2]
      simp only [u181_0, u181_1, u181_3, u181_4, u181_7, u181_8, u181_11, u181_12, u181_13, u181_14, u181_17, u181_18, u181_19, u181_22, u181_23, u181_24, u181_27, u181_30, u181_31, zk_mk_1, zk_mk_I, zk_mk_R, zk_mk_set, zk_mk_setR, zk_mk_cpy, zk_rv_some, zk_rv_none, Option.toList_some, Option.toList_none, List.cons_append, List.nil_append, reduceIte, eq_self, Nat.reduceLT, Nat.reduceEqDiff, and_true, true_and, reduceCtorEq, zsh_60, zsh_78, zrf_60_31, z1, z2, z3, z4, (hs i (by omega)).1, (hs h hh).1, true_or, or_true, nI_1]
      rw [if_neg (nI_ge hi (by omega))]
      by_cases hc : zsum f i n = zsum f h n
      · rw [if_pos hc]
        have e : zles f n h = true := by
          unfold zles
          exact decide_eq_true ⟨i, hi, hc⟩
        rw [zb_t e] <;> trivial
      · rw [if_neg hc]
        exact ih () (fun o ho => by
          by_cases e : o = i
          · rw [e]; exact hc
          · exact hno o (by omega)))
  simp only [u181_0, u181_1, u181_3, u181_4, u181_7, u181_8, u181_11, u181_12, u181_13, u181_14, u181_17, u181_18, u181_19, u181_22, u181_23, u181_24, u181_27, u181_30, u181_31, zk_mk_1, zk_mk_I, zk_mk_R, zk_mk_set, zk_mk_setR, zk_mk_cpy, zk_rv_some, zk_rv_none, Option.toList_some, Option.toList_none, List.cons_append, List.nil_append, reduceIte, eq_self, Nat.reduceLT, Nat.reduceEqDiff, and_true, true_and, reduceCtorEq]
  exact loop 0 () (Nat.zero_le _) (fun o ho => absurd ho (Nat.not_lt_zero _))
theorem s180 {sc : zk_X} {d : Nat} {I : Nat → Nat → Int32} {tg : Option Nat} {P : Option Value → zk_M → Prop} {n : Nat} {f : Nat → Int32} (h10 : n ≤ 10) (hn : I 60 0 = nI n) (hs : zv_rows I 78 79 f n) : zk_R sc (d + 1) 180 0 [some (.ref (60 : Nat)), none, none] [] (zk_mk I tg) P = P (some (.int (nI (zmany f n)))) (zk_mk I tg) := by
  refine zk_R_det ?_ P
  have p10 := zp_10 h10
  have eall : (1 : Int32) <<< (nI n &&& 31) - 1 = nI (2 ^ n - 1) := by rw [zq_all h10]; exact zn_sub (b := 1) (by omega)
  have loop := zl_fn (fun i => zk_R sc (d + 1) 180 4 [some (.ref (60 : Nat)), some (.int (nI (zct (fun h => !zles f n h) i))), some (.int (nI i))] [] (zk_mk I tg) (fun r M' => r = some (.int (nI (zmany f n))) ∧ M' = zk_mk I tg)) (2 ^ n) (by
      have hcond : nI (2 ^ n - 1) < nI (2 ^ n) := by rw [zn_lt (by omega) (by omega)]; omega
      have hcond2 : ¬ nI (2 ^ n) ≤ nI (2 ^ n - 1) := Int32.not_le.mpr hcond
      rw [u180_4]
      simp only [u180_0, u180_1, u180_2, u180_3, u180_5, u180_6, u180_9, u180_12, u180_13, u180_14, u180_15, u180_18, u180_21, u180_22, u180_25, u180_26, u180_27, u180_28, u180_31, u180_34, u180_35, zk_mk_1, zk_mk_I, zk_mk_R, zk_mk_set, zk_mk_setR, zk_mk_cpy, zk_rv_some, zk_rv_none, Option.toList_some, Option.toList_none, List.cons_append, List.nil_append, reduceIte, eq_self, Nat.reduceLT, Nat.reduceEqDiff, and_true, true_and, reduceCtorEq, zsh_60, s161, hn, eall, hcond, hcond2]
      first | rfl | trivial) (by
      intro i hi ih
      have hcond : ¬ nI (2 ^ n - 1) < nI i := by rw [zn_lt (by omega) (by omega)]; omega
      have hcond2 : nI i ≤ nI (2 ^ n - 1) := Int32.not_lt.mp hcond
      rw [u180_4]
      simp only [u180_0, u180_1, u180_2, u180_3, u180_5, u180_6, u180_9, u180_12, u180_13, u180_14, u180_15, u180_18, u180_21, u180_22, u180_25, u180_26, u180_27, u180_28, u180_31, u180_34, u180_35, zk_mk_1, zk_mk_I, zk_mk_R, zk_mk_set, zk_mk_setR, zk_mk_cpy, zk_rv_some, zk_rv_none, Option.toList_some, Option.toList_none, List.cons_append, List.nil_append, reduceIte, eq_self, Nat.reduceLT, Nat.reduceEqDiff, and_true, true_and, reduceCtorEq, zsh_60, s161, hn, eall, hcond, hcond2, s181 h10 hs hi, zb_z, nI_1]
      rw [zct] at ih
      cases hz : zles f n i with
      | true =>
        simp only [hz, Bool.not_true, Bool.false_eq_true, reduceIte, not_true, Int32.add_zero] at ih ⊢
        exact ih
      | false =>
        simp only [hz, Bool.not_false, Bool.false_eq_true, reduceIte, not_false_eq_true, nI_1] at ih ⊢
        exact ih)
  simp only [u180_0, u180_1, u180_2, u180_3, u180_5, u180_6, u180_9, u180_12, u180_13, u180_14, u180_15, u180_18, u180_21, u180_22, u180_25, u180_26, u180_27, u180_28, u180_31, u180_34, u180_35, zk_mk_1, zk_mk_I, zk_mk_R, zk_mk_set, zk_mk_setR, zk_mk_cpy, zk_rv_some, zk_rv_none, Option.toList_some, Option.toList_none, List.cons_append, List.nil_append, reduceIte, eq_self, Nat.reduceLT, Nat.reduceEqDiff, and_true, true_and, reduceCtorEq]
  exact loop 0 (Nat.zero_le _)
theorem s179 {sc : zk_X} {d : Nat} {I : Nat → Nat → Int32} {tg : Option Nat} {P : Option Value → zk_M → Prop} {n t : Nat} {T e : Nat → Nat} {what : Int32} (hq : zj_q I n t T e)
    (K : ∀ I' : Nat → Nat → Int32, zF I I' → P (some (.int (zA_unlike I n T e what))) (zk_mk I' tg)) : zk_R sc (d + 6) 179 0 [some (.ref (60 : Nat)), some (.int what), none] [] (zk_mk I tg) P := by
  obtain ⟨hj, hl, hr, ht, hx⟩ := hq
  have h10 := hj.2.2.1
  have p10 := zp_10 h10
  unfold zA_unlike at K
  simp only [u179_0, u179_1, u179_2, u179_3, u179_6, u179_9, u179_11, u179_12, u179_13, u179_16, u179_17, u179_20, u179_21, u179_22, u179_23, u179_26, u179_27, u179_30, u179_31, u179_32, u179_33, u179_36, u179_37, u179_40, u179_41, u179_44, u179_45, zk_mk_1, zk_mk_I, zk_mk_R, zk_mk_set, zk_mk_setR, zk_mk_cpy, zk_rv_some, zk_rv_none, Option.toList_some, Option.toList_none, List.cons_append, List.nil_append, reduceIte, eq_self, Nat.reduceLT, Nat.reduceEqDiff, and_true, true_and, reduceCtorEq, zsh_60, s129, zb_z]
  by_cases hw : 0 ≤ what ∧ what ≤ 1
  · rw [if_neg (fun q => q hw)]
    rw [if_pos hw] at K
    refine s162 hj ht hr hx (fun I' h1 h2 h3 => ?_)
    have hn' : I' 60 0 = nI n := (h1.tab hj).2.1
    have K2 := K I' h1
    have hle : zmany (zv_now I n T e) n ≤ 2 ^ n := zct_le _ (2 ^ n)
    have y1 : (nI (zmany (zv_now I n T e) n) = nI (2 ^ n)) = (zmany (zv_now I n T e) n = 2 ^ n) := zn_eq (by omega) (by omega)
    simp only [u179_0, u179_1, u179_2, u179_3, u179_6, u179_9, u179_11, u179_12, u179_13, u179_16, u179_17, u179_20, u179_21, u179_22, u179_23, u179_26, u179_27, u179_30, u179_31, u179_32, u179_33, u179_36, u179_37, u179_40, u179_41, u179_44, u179_45, zk_mk_1, zk_mk_I, zk_mk_R, zk_mk_set, zk_mk_setR, zk_mk_cpy, zk_rv_some, zk_rv_none, Option.toList_some, Option.toList_none, List.cons_append, List.nil_append, reduceIte, eq_self, Nat.reduceLT, Nat.reduceEqDiff, and_true, true_and, reduceCtorEq, zsh_60, s180 h10 hn' h3, hn', zq_all h10, y1]
    by_cases w1 : what = 1
    · rw [if_pos w1] at K2 ⊢; exact K2
    · rw [if_neg w1] at K2 ⊢
      by_cases hc : zmany (zv_now I n T e) n = 2 ^ n
      · rw [zb_t hc] at K2
        rw [if_pos hc]; exact K2
      · rw [zb_f hc] at K2
        rw [if_neg hc]; exact K2
  · rw [if_pos hw]
    rw [if_neg hw] at K
    exact K I (zF_refl I)
