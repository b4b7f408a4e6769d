/-! lots by the reference -/
theorem s203 {sc : zk_X} {d : Nat} {I : Nat → Nat → Int32} {tg : Option Nat} {P : Option Value → zk_M → Prop} {n : Nat} {seed : Int32} (hj : zj_tab I n) : zk_R sc (d + 1) 203 0 [some (.ref (60 : Nat)), some (.int seed), none, none, none, none, none] [] (zk_mk I tg) P = P (some (.int (nI (zdraw (fun c => zw_sides (I 2 c) (I 4 c)) seed n).2))) (zk_mk I tg) := by
  refine zk_R_det ?_ P
  have hn := hj.2.1
  have h10 := hj.2.2.1
  obtain ⟨ql1, ql2⟩ := zq_l
  have loop := zl_up (τ := Option Value) (fun i x => zk_R sc (d + 1) 203 11 [some (.ref (60 : Nat)), some (.int seed), some (.long (zdraw (fun c => zw_sides (I 2 c) (I 4 c)) seed i).1), none, some (.int (nI (zdraw (fun c => zw_sides (I 2 c) (I 4 c)) seed i).2)), some (.int (nI i)), x] [] (zk_mk I tg) (fun r M' => r = some (.int (nI (zdraw (fun c => zw_sides (I 2 c) (I 4 c)) seed n).2)) ∧ M' = zk_mk I tg)) (fun _ _ => True) n (by
      intro x _
      rw [u203_11]
      simp only [u203_0, u203_1, u203_2, u203_3, u203_4, u203_5, u203_6, u203_8, u203_9, u203_13, u203_14, u203_17, u203_20, u203_21, u203_24, u203_25, u203_28, u203_29, u203_30, u203_31, u203_33, u203_36, u203_38, u203_40, u203_42, u203_43, u203_46, u203_48, u203_49, u203_52, u203_53, u203_56, u203_57, u203_58, u203_59, u203_62, u203_63, u203_65, u203_66, u203_69, u203_70, u203_71, u203_73, u203_76, u203_79, u203_81, zk_mk_1, zk_mk_I, zk_mk_R, zk_mk_set, zk_mk_setR, zk_mk_cpy, zk_rv_some, zk_rv_none, Option.toList_some, Option.toList_none, List.cons_append, List.nil_append, reduceIte, eq_self, Nat.reduceLT, Nat.reduceEqDiff, and_true, true_and, reduceCtorEq, zsh_60, hn]
      rw [if_pos (nI_le (Nat.le_refl _) (by omega))]
      trivial) (by
      intro i x hi _ ih
      obtain ⟨⟨m1, m2, m3, m4⟩, -⟩ := hj.2.2.2 i hi
      rw [u203_11]
      simp only [u203_0, u203_1, u203_2, u203_3, u203_4, u203_5, u203_6, u203_8, u203_9, u203_13, u203_14, u203_17, u203_20, u203_21, u203_24, u203_25, u203_28, u203_29, u203_30, u203_31, u203_33, u203_36, u203_38, u203_40, u203_42, u203_43, u203_46, u203_48, u203_49, u203_52, u203_53, u203_56, u203_57, u203_58, u203_59, u203_62, u203_63, u203_65, u203_66, u203_69, u203_70, u203_71, u203_73, u203_76, u203_79, u203_81, zk_mk_1, zk_mk_I, zk_mk_R, zk_mk_set, zk_mk_setR, zk_mk_cpy, zk_rv_some, zk_rv_none, Option.toList_some, Option.toList_none, List.cons_append, List.nil_append, reduceIte, eq_self, Nat.reduceLT, Nat.reduceEqDiff, and_true, true_and, reduceCtorEq, zsh_60, hn, ql1, not_false_eq_true]
      rw [if_neg (nI_ge hi (by omega)), s154 (by omega), m1, m3]
      simp only [u203_0, u203_1, u203_2, u203_3, u203_4, u203_5, u203_6, u203_8, u203_9, u203_13, u203_14, u203_17, u203_20, u203_21, u203_24, u203_25, u203_28, u203_29, u203_30, u203_31, u203_33, u203_36, u203_38, u203_40, u203_42, u203_43, u203_46, u203_48, u203_49, u203_52, u203_53, u203_56, u203_57, u203_58, u203_59, u203_62, u203_63, u203_65, u203_66, u203_69, u203_70, u203_71, u203_73, u203_76, u203_79, u203_81, zk_mk_1, zk_mk_I, zk_mk_R, zk_mk_set, zk_mk_setR, zk_mk_cpy, zk_rv_some, zk_rv_none, Option.toList_some, Option.toList_none, List.cons_append, List.nil_append, reduceIte, eq_self, Nat.reduceLT, Nat.reduceEqDiff, and_true, true_and, reduceCtorEq, zsh_60, hn, ql2, not_false_eq_true, nI_1]
      have e1 : (zdraw (fun c => zw_sides (I 2 c) (I 4 c)) seed i).1 * 48271 - (zdraw (fun c => zw_sides (I 2 c) (I 4 c)) seed i).1 * 48271 / 2147483647 * 2147483647 = zlot (zdraw (fun c => zw_sides (I 2 c) (I 4 c)) seed i).1 := rfl
      have e0 : nI (zdraw (fun c => zw_sides (I 2 c) (I 4 c)) seed i).2 ||| 0 = nI (zdraw (fun c => zw_sides (I 2 c) (I 4 c)) seed i).2 := by
        rw [show (0 : Int32) = nI 0 from rfl, zq_or, Nat.or_zero]
      rw [e1, zq_pow (by omega), zq_or]
      simp only [zcmp0, e0]
      have ek : zdraw (fun c => zw_sides (I 2 c) (I 4 c)) seed (i + 1) = (zlot (zdraw (fun c => zw_sides (I 2 c) (I 4 c)) seed i).1, if zw_sides (I 2 i) (I 4 i) = 1 ∨ zw_sides (I 2 i) (I 4 i) = 3 ∧ zlot (zdraw (fun c => zw_sides (I 2 c) (I 4 c)) seed i).1 - zlot (zdraw (fun c => zw_sides (I 2 c) (I 4 c)) seed i).1 / 2 * 2 = 0 then (zdraw (fun c => zw_sides (I 2 c) (I 4 c)) seed i).2 ||| 2 ^ i else (zdraw (fun c => zw_sides (I 2 c) (I 4 c)) seed i).2) := rfl
      have ih2 := ih (some (.int (zw_sides (I 2 i) (I 4 i)))) trivial
      rw [ek] at ih2
      by_cases k1 : zw_sides (I 2 i) (I 4 i) = 1
      · rw [if_pos k1]
        rw [if_pos (Or.inl k1)] at ih2
        exact ih2
      · rw [if_neg k1]
        by_cases k2 : zw_sides (I 2 i) (I 4 i) = 3
        · rw [if_pos k2]
          by_cases k3 : zlot (zdraw (fun c => zw_sides (I 2 c) (I 4 c)) seed i).1 - zlot (zdraw (fun c => zw_sides (I 2 c) (I 4 c)) seed i).1 / 2 * 2 = 0
          · rw [if_pos k3]
            rw [if_pos (Or.inr ⟨k2, k3⟩)] at ih2
            exact ih2
          · rw [if_neg k3]
            rw [if_neg (fun q => q.elim k1 (fun q => k3 q.2))] at ih2
            exact ih2
        · rw [if_neg k2]
          rw [if_neg (fun q => q.elim k1 (fun q => k2 q.1))] at ih2
          exact ih2)
  simp only [u203_0, u203_1, u203_2, u203_3, u203_4, u203_5, u203_6, u203_8, u203_9, u203_13, u203_14, u203_17, u203_20, u203_21, u203_24, u203_25, u203_28, u203_29, u203_30, u203_31, u203_33, u203_36, u203_38, u203_40, u203_42, u203_43, u203_46, u203_48, u203_49, u203_52, u203_53, u203_56, u203_57, u203_58, u203_59, u203_62, u203_63, u203_65, u203_66, u203_69, u203_70, u203_71, u203_73, u203_76, u203_79, u203_81, zk_mk_1, zk_mk_I, zk_mk_R, zk_mk_set, zk_mk_setR, zk_mk_cpy, zk_rv_some, zk_rv_none, Option.toList_some, Option.toList_none, List.cons_append, List.nil_append, reduceIte, eq_self, Nat.reduceLT, Nat.reduceEqDiff, and_true, true_and, reduceCtorEq]
  exact loop 0 none (Nat.zero_le _) trivial
