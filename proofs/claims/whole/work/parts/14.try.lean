/-! cards that lie somewhere -/
def zl_lying (pl : Nat → Int32) (q : Int32) : Nat → Int32
  | 0 => 0
  | c + 1 => if pl c = q then zl_lying pl q c ||| (1 <<< (nI c &&& 31)) else zl_lying pl q c
theorem sT_lying {sc : zk_X} {d : Nat} {I : Nat → Nat → Int32} {tg : Option Nat} {P : Option Value → zk_M → Prop} {n : Nat} {q : Int32} (hn : I 1 4 = nI n) (h10 : n ≤ 10) (k : P (some (.int (zl_lying (I 5) q n))) (zk_mk I tg)) : zk_R sc d 92 0 [some (.ref (1 : Nat)), some (.int q), none, none] [] (zk_mk I tg) P := by
  have loop := zl_fn (fun i => zk_R sc d 92 4 [some (.ref (1 : Nat)), some (.int q), some (.int (zl_lying (I 5) q i)), some (.int (nI i))] [] (zk_mk I tg) P) n (by
      rw [u92_4]
      simp only [u92_0, u92_1, u92_2, u92_3, u92_5, u92_6, u92_9, u92_12, u92_13, u92_16, u92_17, u92_18, u92_19, u92_22, u92_23, u92_24, u92_25, u92_26, u92_27, u92_28, u92_31, u92_34, u92_35, zk_mk_1, zk_mk_I, zk_mk_R, zk_mk_set, zk_mk_setR, zk_mk_cpy, zk_rv_some, zk_rv_none, Option.toList_some, Option.toList_none, List.cons_append, List.nil_append, reduceIte, eq_self, Nat.reduceLT, Nat.reduceEqDiff, and_true, true_and, reduceCtorEq, zsh_1, zsh_5, zrf_1_3, hn]
      rw [if_pos (nI_le (Nat.le_refl _) (by omega))]
      exact k) (by
      intro i hi ih
      rw [u92_4]
      simp only [u92_0, u92_1, u92_2, u92_3, u92_5, u92_6, u92_9, u92_12, u92_13, u92_16, u92_17, u92_18, u92_19, u92_22, u92_23, u92_24, u92_25, u92_26, u92_27, u92_28, u92_31, u92_34, u92_35, zk_mk_1, zk_mk_I, zk_mk_R, zk_mk_set, zk_mk_setR, zk_mk_cpy, zk_rv_some, zk_rv_none, Option.toList_some, Option.toList_none, List.cons_append, List.nil_append, reduceIte, eq_self, Nat.reduceLT, Nat.reduceEqDiff, and_true, true_and, reduceCtorEq, zsh_1, zsh_5, zrf_1_3, hn]
      rw [if_neg (nI_ge hi (by omega))]
      simp (disch := omega) only [zn_in, zn_cl, nI_1]
      refine ⟨by omega, ?_⟩
      unfold zl_lying at ih
      split
      · next h => rw [if_pos h] at ih; exact ih
      · next h => rw [if_neg h] at ih; exact ih)
  simp only [u92_0, u92_1, u92_2, u92_3, u92_5, u92_6, u92_9, u92_12, u92_13, u92_16, u92_17, u92_18, u92_19, u92_22, u92_23, u92_24, u92_25, u92_26, u92_27, u92_28, u92_31, u92_34, u92_35, zk_mk_1, zk_mk_I, zk_mk_R, zk_mk_set, zk_mk_setR, zk_mk_cpy, zk_rv_some, zk_rv_none, Option.toList_some, Option.toList_none, List.cons_append, List.nil_append, reduceIte, eq_self, Nat.reduceLT, Nat.reduceEqDiff, and_true, true_and, reduceCtorEq]
  exact loop 0 (Nat.zero_le _)
