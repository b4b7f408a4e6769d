/-! taken by the class -/
theorem s58 {sc : zk_X} {d : Nat} {I : Nat → Nat → Int32} {tg : Option Nat} {P : Option Value → zk_M → Prop} {n t : Nat} {T e : Nat → Nat} {i kind : Int32} (hq : zj_q I n t T e)
    (K : ∀ I' : Nat → Nat → Int32, zF I I' → P (some (.int (zA_taken I n T e i kind))) (zk_mk I' tg)) : zk_R sc (d + 6) 58 0 [some (.ref (0 : Nat)), some (.int i), some (.int kind)] [] (zk_mk I tg) P := by
  have hj := hq.1
  have hlt : ∀ q, zv_lie I n q < 2 ^ n := fun q => zset_lt _ n
  have el : ∀ q, zset (fun c => decide (I 5 c = q)) n = zv_lie I n q := fun _ => rfl
  unfold zA_taken at K
  simp only [u58_0, u58_1, u58_4, u58_5, u58_7, u58_10, u58_12, u58_13, u58_14, u58_17, u58_18, u58_20, u58_23, u58_26, u58_27, u58_28, u58_29, u58_32, u58_33, u58_34, u58_37, u58_38, u58_41, u58_42, u58_45, u58_46, u58_49, u58_50, u58_53, u58_56, u58_57, u58_58, u58_59, u58_60, u58_61, u58_64, zk_mk_1, zk_mk_I, zk_mk_R, zk_mk_set, zk_mk_setR, zk_mk_cpy, zk_rv_some, zk_rv_none, Option.toList_some, Option.toList_none, List.cons_append, List.nil_append, reduceIte, eq_self, Nat.reduceLT, Nat.reduceEqDiff, and_true, true_and, reduceCtorEq, zsh_0, zsh_1, zrf_0_0, s92 hj.1 hj.2.2.1, el]
  by_cases hk : 0 ≤ kind ∧ kind ≤ 6
  · rw [if_pos hk] at K
    rw [if_neg (Int32.not_lt.mpr hk.1), if_pos hk.2]
    by_cases hi : 0 ≤ i ∧ i ≤ 11
    · rw [if_pos hi] at K
      obtain ⟨j, hj12, rfl⟩ := zn_of (m := 12) hi.1 (by rw [zn_lt1 (by decide)]; exact hi.2) (by decide)
      rw [if_neg (Int32.not_lt.mpr hi.1), if_pos (show nI j < (12 : Int32) from (zn_lt (b := 12) (by omega) (by decide)).mpr hj12)]
      have y0 : (nI j = 0) = (j = 0) := zn_eq (b := 0) (by omega) (by decide)
      have y1 : (nI j = 1) = (j = 1) := zn_eq (b := 1) (by omega) (by decide)
      have y2 : ((2 : Int32) ≤ nI j) = (2 ≤ j) := zn_le (a := 2) (by decide) (by omega)
      simp only [y0, y1, y2, zn_cl (show j < 2147483648 by omega)] at K ⊢
      by_cases h2 : 2 ≤ j
      · rw [if_pos h2, show nI j - 2 = nI (j - 2) from zn_sub (b := 2) h2]
        rw [if_neg (by omega), if_neg (by omega)] at K
        refine s60 hj (by omega) ?_
        simp only [u58_0, u58_1, u58_4, u58_5, u58_7, u58_10, u58_12, u58_13, u58_14, u58_17, u58_18, u58_20, u58_23, u58_26, u58_27, u58_28, u58_29, u58_32, u58_33, u58_34, u58_37, u58_38, u58_41, u58_42, u58_45, u58_46, u58_49, u58_50, u58_53, u58_56, u58_57, u58_58, u58_59, u58_60, u58_61, u58_64, zk_mk_1, zk_mk_I, zk_mk_R, zk_mk_set, zk_mk_setR, zk_mk_cpy, zk_rv_some, zk_rv_none, Option.toList_some, Option.toList_none, List.cons_append, List.nil_append, reduceIte, eq_self, Nat.reduceLT, Nat.reduceEqDiff, and_true, true_and, reduceCtorEq]
        exact K I (zF_refl I)
      · rw [if_neg h2]
        by_cases h0 : j = 0
        · rw [if_pos h0] at K ⊢
          refine s59 hq (hlt 1) (fun I' h1 => ?_)
          simp only [u58_0, u58_1, u58_4, u58_5, u58_7, u58_10, u58_12, u58_13, u58_14, u58_17, u58_18, u58_20, u58_23, u58_26, u58_27, u58_28, u58_29, u58_32, u58_33, u58_34, u58_37, u58_38, u58_41, u58_42, u58_45, u58_46, u58_49, u58_50, u58_53, u58_56, u58_57, u58_58, u58_59, u58_60, u58_61, u58_64, zk_mk_1, zk_mk_I, zk_mk_R, zk_mk_set, zk_mk_setR, zk_mk_cpy, zk_rv_some, zk_rv_none, Option.toList_some, Option.toList_none, List.cons_append, List.nil_append, reduceIte, eq_self, Nat.reduceLT, Nat.reduceEqDiff, and_true, true_and, reduceCtorEq]
          exact K I' h1
        · rw [if_neg h0] at K ⊢
          rw [if_pos (by omega)] at K
          refine s59 hq (hlt 2) (fun I' h1 => ?_)
          simp only [u58_0, u58_1, u58_4, u58_5, u58_7, u58_10, u58_12, u58_13, u58_14, u58_17, u58_18, u58_20, u58_23, u58_26, u58_27, u58_28, u58_29, u58_32, u58_33, u58_34, u58_37, u58_38, u58_41, u58_42, u58_45, u58_46, u58_49, u58_50, u58_53, u58_56, u58_57, u58_58, u58_59, u58_60, u58_61, u58_64, zk_mk_1, zk_mk_I, zk_mk_R, zk_mk_set, zk_mk_setR, zk_mk_cpy, zk_rv_some, zk_rv_none, Option.toList_some, Option.toList_none, List.cons_append, List.nil_append, reduceIte, eq_self, Nat.reduceLT, Nat.reduceEqDiff, and_true, true_and, reduceCtorEq]
          exact K I' h1
    · rw [if_neg hi] at K
      have K2 := K I (zF_refl I)
      split
      · exact K2
      · next q1 =>
        rw [if_neg (fun q => hi ⟨Int32.not_lt.mp q1, (show i ≤ nI 11 from by rw [← zn_lt1 (m := 11) (by decide)]; exact q)⟩)]
        exact K2
  · rw [if_neg hk] at K
    have K2 := K I (zF_refl I)
    split
    · exact K2
    · next q1 =>
      rw [if_neg (fun q => hk ⟨Int32.not_lt.mp q1, q⟩)]
      exact K2
