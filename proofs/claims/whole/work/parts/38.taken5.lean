/-! taken by the reference -/
theorem s214 {sc : zk_X} {d : Nat} {I : Nat → Nat → Int32} {tg : Option Nat} {P : Option Value → zk_M → Prop} {n t : Nat} {T e : Nat → Nat} {i kind : Int32} (hq : zj_q I n t T e)
    (K : ∀ I' : Nat → Nat → Int32, zF I I' → P (some (.int (zA_taken I n T e i kind))) (zk_mk I' tg)) : zk_R sc (d + 7) 214 0 [some (.ref (60 : Nat)), some (.int i), some (.int kind)] [] (zk_mk I tg) P := by
  have hj := hq.1
  have h10 := hj.2.2.1
  have hlt : ∀ q, zv_lie I n q < 2 ^ n := fun q => zset_lt _ n
  unfold zA_taken at K
  simp only [u214_0, u214_1, u214_2, u214_4, u214_7, u214_10, u214_12, u214_13, u214_14, u214_15, u214_17, u214_20, u214_23, u214_26, u214_27, u214_28, u214_29, u214_32, u214_33, u214_34, u214_35, u214_36, u214_37, u214_40, u214_41, u214_44, u214_45, u214_46, u214_47, u214_48, u214_49, u214_52, u214_55, u214_58, u214_61, u214_62, u214_64, u214_67, u214_68, u214_71, u214_72, u214_73, u214_74, u214_75, u214_76, u214_79, u214_82, u214_83, u214_84, u214_85, u214_88, u214_91, zk_mk_1, zk_mk_I, zk_mk_R, zk_mk_set, zk_mk_setR, zk_mk_cpy, zk_rv_some, zk_rv_none, Option.toList_some, Option.toList_none, List.cons_append, List.nil_append, reduceIte, eq_self, Nat.reduceLT, Nat.reduceEqDiff, and_true, true_and, reduceCtorEq, zsh_60, s129, zb_z]
  by_cases hk : 0 ≤ kind ∧ kind ≤ 6
  · rw [if_pos hk] at K
    rw [if_neg (fun q => q hk)]
    by_cases hi : 0 ≤ i ∧ i ≤ 11
    · rw [if_pos hi] at K
      rw [if_neg (fun q => q hi)]
      obtain ⟨j, hj12, rfl⟩ := zn_of (m := 12) hi.1 (by rw [zn_lt1 (by decide)]; exact hi.2) (by decide)
      have y0 : (nI j = 0) = (j = 0) := zn_eq (b := 0) (by omega) (by decide)
      have y1 : (nI j = 1) = (j = 1) := zn_eq (b := 1) (by omega) (by decide)
      have y2 : ((2 : Int32) ≤ nI j) = (2 ≤ j) := zn_le (a := 2) (by decide) (by omega)
      simp only [y0, y1, y2, zn_cl (show j < 2147483648 by omega)] at K ⊢
      by_cases h2 : 2 ≤ j
      · rw [if_pos h2, show nI j - 2 = nI (j - 2) from zn_sub (b := 2) h2]
        rw [if_neg (by omega), if_neg (by omega)] at K
        have K2 := K I (zF_refl I)
        simp only [u214_0, u214_1, u214_2, u214_4, u214_7, u214_10, u214_12, u214_13, u214_14, u214_15, u214_17, u214_20, u214_23, u214_26, u214_27, u214_28, u214_29, u214_32, u214_33, u214_34, u214_35, u214_36, u214_37, u214_40, u214_41, u214_44, u214_45, u214_46, u214_47, u214_48, u214_49, u214_52, u214_55, u214_58, u214_61, u214_62, u214_64, u214_67, u214_68, u214_71, u214_72, u214_73, u214_74, u214_75, u214_76, u214_79, u214_82, u214_83, u214_84, u214_85, u214_88, u214_91, zk_mk_1, zk_mk_I, zk_mk_R, zk_mk_set, zk_mk_setR, zk_mk_cpy, zk_rv_some, zk_rv_none, Option.toList_some, Option.toList_none, List.cons_append, List.nil_append, reduceIte, eq_self, Nat.reduceLT, Nat.reduceEqDiff, and_true, true_and, reduceCtorEq, zsh_60, zsh_61, zrf_60_1, hj.2.1, s216, zb_z]
        have y3 : (nI (j - 2) < nI n) = (j - 2 < n) := zn_lt (by omega) (by omega)
        simp only [y3]
        by_cases hc : j - 2 < n
        · rw [if_pos hc] at K2 ⊢
          have z1 : zk_inb (nI (j - 2)) 10 = true := by rw [zn_in (by omega)]; omega
          have z2 : (nI (j - 2)).toNatClampNeg = j - 2 := zn_cl (by omega)
          obtain ⟨⟨m1, m2, m3, m4⟩, ⟨kk, hkk, hk2⟩, -⟩ := hj.2.2.2 (j - 2) hc
          by_cases h6 : (6 : Int32) ≤ kind
          · have e6 : kind = 6 := Int32.le_antisymm hk.2 h6
            rw [zA_card_n (by
              rw [e6, hk2]
              rcases (show kk = 0 ∨ kk = 1 ∨ kk = 2 ∨ kk = 3 ∨ kk = 4 ∨ kk = 5 by omega) with rfl | rfl | rfl | rfl | rfl | rfl <;> decide)] at K2
            rw [if_pos h6]
            exact K2
          · rw [if_neg h6]
            refine ⟨z1, ?_⟩
            rw [z2, m1]
            by_cases hu : zA_under (I 2 (j - 2)) kind
            · rw [zA_card_y hu] at K2
              rw [if_neg (fun q => q hu), show nI j - 2 = nI (j - 2) from zn_sub (b := 2) h2]
              exact K2
            · rw [zA_card_n hu] at K2
              rw [if_pos hu]
              exact K2
        · rw [if_neg hc] at K2 ⊢
          exact K2
      · rw [if_neg h2]
        simp only [s140 hj.2.1 h10, zv_lie_m hj, u214_0, u214_1, u214_2, u214_4, u214_7, u214_10, u214_12, u214_13, u214_14, u214_15, u214_17, u214_20, u214_23, u214_26, u214_27, u214_28, u214_29, u214_32, u214_33, u214_34, u214_35, u214_36, u214_37, u214_40, u214_41, u214_44, u214_45, u214_46, u214_47, u214_48, u214_49, u214_52, u214_55, u214_58, u214_61, u214_62, u214_64, u214_67, u214_68, u214_71, u214_72, u214_73, u214_74, u214_75, u214_76, u214_79, u214_82, u214_83, u214_84, u214_85, u214_88, u214_91, zk_mk_1, zk_mk_I, zk_mk_R, zk_mk_set, zk_mk_setR, zk_mk_cpy, zk_rv_some, zk_rv_none, Option.toList_some, Option.toList_none, List.cons_append, List.nil_append, reduceIte, eq_self, Nat.reduceLT, Nat.reduceEqDiff, and_true, true_and, reduceCtorEq, zsh_60]
        by_cases h0 : j = 0
        · subst h0
          rw [if_pos rfl] at K
          refine s215 hq (hlt 1) (fun I' h1 => ?_)
          simp only [u214_0, u214_1, u214_2, u214_4, u214_7, u214_10, u214_12, u214_13, u214_14, u214_15, u214_17, u214_20, u214_23, u214_26, u214_27, u214_28, u214_29, u214_32, u214_33, u214_34, u214_35, u214_36, u214_37, u214_40, u214_41, u214_44, u214_45, u214_46, u214_47, u214_48, u214_49, u214_52, u214_55, u214_58, u214_61, u214_62, u214_64, u214_67, u214_68, u214_71, u214_72, u214_73, u214_74, u214_75, u214_76, u214_79, u214_82, u214_83, u214_84, u214_85, u214_88, u214_91, zk_mk_1, zk_mk_I, zk_mk_R, zk_mk_set, zk_mk_setR, zk_mk_cpy, zk_rv_some, zk_rv_none, Option.toList_some, Option.toList_none, List.cons_append, List.nil_append, reduceIte, eq_self, Nat.reduceLT, Nat.reduceEqDiff, and_true, true_and, reduceCtorEq]
          exact K I' h1
        · have h1 : j = 1 := by omega
          subst h1
          rw [if_neg h0, if_pos rfl] at K
          refine s215 hq (hlt 2) (fun I' h1 => ?_)
          simp only [u214_0, u214_1, u214_2, u214_4, u214_7, u214_10, u214_12, u214_13, u214_14, u214_15, u214_17, u214_20, u214_23, u214_26, u214_27, u214_28, u214_29, u214_32, u214_33, u214_34, u214_35, u214_36, u214_37, u214_40, u214_41, u214_44, u214_45, u214_46, u214_47, u214_48, u214_49, u214_52, u214_55, u214_58, u214_61, u214_62, u214_64, u214_67, u214_68, u214_71, u214_72, u214_73, u214_74, u214_75, u214_76, u214_79, u214_82, u214_83, u214_84, u214_85, u214_88, u214_91, zk_mk_1, zk_mk_I, zk_mk_R, zk_mk_set, zk_mk_setR, zk_mk_cpy, zk_rv_some, zk_rv_none, Option.toList_some, Option.toList_none, List.cons_append, List.nil_append, reduceIte, eq_self, Nat.reduceLT, Nat.reduceEqDiff, and_true, true_and, reduceCtorEq]
          exact K I' h1
    · rw [if_neg hi] at K
      rw [if_pos hi]
      exact K I (zF_refl I)
  · rw [if_neg hk] at K
    rw [if_pos hk]
    exact K I (zF_refl I)
