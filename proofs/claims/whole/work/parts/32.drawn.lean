/-! drawn -/
def zv_draw (I : Nat → Nat → Int32) (n : Nat) (seed : Int32) : Nat := (zdraw (fun c => zw_sides (I 2 c) (I 4 c)) seed n).2
def zA_drawn (I : Nat → Nat → Int32) (n : Nat) (T e : Nat → Nat) (seed what : Int32) : Int32 := if (0 ≤ seed ∧ seed ≤ 99999) ∧ 0 ≤ what ∧ what ≤ 1 then (if what = 0 then nI (zv_draw I n seed) else zfval (zv_now I n T e) n (zv_draw I n seed)) else -2
theorem s46 {sc : zk_X} {d : Nat} {I : Nat → Nat → Int32} {tg : Option Nat} {P : Option Value → zk_M → Prop} {n t : Nat} {T e : Nat → Nat} {seed what : Int32} (hq : zj_q I n t T e)
    (K : ∀ I' : Nat → Nat → Int32, zF I I' → P (some (.int (zA_drawn I n T e seed what))) (zk_mk I' tg)) : zk_R sc (d + 5) 46 0 [some (.ref (0 : Nat)), some (.int seed), some (.int what), none] [] (zk_mk I tg) P := by
  obtain ⟨hj, hl, hr, ht, hx⟩ := hq
  obtain ⟨w1, w2, w3, w4⟩ := zx_83 ht
  have hlt : zv_draw I n seed < 2 ^ n := zdraw_lt _ _ _
  have ed : (zdraw (fun c => zw_sides (I 2 c) (I 4 c)) seed n).2 = zv_draw I n seed := rfl
  unfold zA_drawn at K
  simp only [u46_0, u46_1, u46_4, u46_7, u46_8, u46_11, u46_12, u46_13, u46_16, u46_18, u46_19, u46_20, u46_21, u46_24, u46_25, u46_26, u46_29, u46_30, u46_31, u46_32, u46_33, u46_36, u46_39, u46_40, u46_43, u46_44, u46_47, zk_mk_1, zk_mk_I, zk_mk_R, zk_mk_set, zk_mk_setR, zk_mk_cpy, zk_rv_some, zk_rv_none, Option.toList_some, Option.toList_none, List.cons_append, List.nil_append, reduceIte, eq_self, Nat.reduceLT, Nat.reduceEqDiff, and_true, true_and, reduceCtorEq, zsh_0, s47, zb_z, s48 hj.1 hj.2.2.1, ed]
  by_cases hw : (0 ≤ seed ∧ seed ≤ 99999) ∧ 0 ≤ what ∧ what ≤ 1
  · rw [if_pos hw] at K
    rw [if_neg (fun q => q hw.1), if_neg (Int32.not_lt.mpr hw.2.1), if_pos hw.2.2]
    by_cases h0 : what = 0
    · rw [if_pos h0] at K ⊢
      exact K I (zF_refl I)
    · rw [if_neg h0] at K ⊢
      simp only [s7 ht hl, u46_0, u46_1, u46_4, u46_7, u46_8, u46_11, u46_12, u46_13, u46_16, u46_18, u46_19, u46_20, u46_21, u46_24, u46_25, u46_26, u46_29, u46_30, u46_31, u46_32, u46_33, u46_36, u46_39, u46_40, u46_43, u46_44, u46_47, zk_mk_1, zk_mk_I, zk_mk_R, zk_mk_set, zk_mk_setR, zk_mk_cpy, zk_rv_some, zk_rv_none, Option.toList_some, Option.toList_none, List.cons_append, List.nil_append, reduceIte, eq_self, Nat.reduceLT, Nat.reduceEqDiff, and_true, true_and, reduceCtorEq, zsh_0, zx_28 ht, w1]
      refine s17 hj ht hx (fun I' h1 h2 h3 => ?_)
      simp only [u46_0, u46_1, u46_4, u46_7, u46_8, u46_11, u46_12, u46_13, u46_16, u46_18, u46_19, u46_20, u46_21, u46_24, u46_25, u46_26, u46_29, u46_30, u46_31, u46_32, u46_33, u46_36, u46_39, u46_40, u46_43, u46_44, u46_47, zk_mk_1, zk_mk_I, zk_mk_R, zk_mk_set, zk_mk_setR, zk_mk_cpy, zk_rv_some, zk_rv_none, Option.toList_some, Option.toList_none, List.cons_append, List.nil_append, reduceIte, eq_self, Nat.reduceLT, Nat.reduceEqDiff, and_true, true_and, reduceCtorEq, zsh_0, zsh_15, zrf_0_7, s85 hj.2.2.1 h3 h2 hlt]
      exact K I' h1
  · rw [if_neg hw] at K
    have K2 := K I (zF_refl I)
    by_cases h1 : 0 ≤ seed ∧ seed ≤ 99999
    · rw [if_neg (fun q => q h1)]
      split
      · exact K2
      · next q3 =>
        rw [if_neg (fun q => hw ⟨h1, Int32.not_lt.mp q3, q⟩)]
        exact K2
    · rw [if_pos h1]
      exact K2
theorem s202 {sc : zk_X} {d : Nat} {I : Nat → Nat → Int32} {tg : Option Nat} {P : Option Value → zk_M → Prop} {n t : Nat} {T e : Nat → Nat} {seed what : Int32} (hq : zj_q I n t T e)
    (K : ∀ I' : Nat → Nat → Int32, zF I I' → P (some (.int (zA_drawn I n T e seed what))) (zk_mk I' tg)) : zk_R sc (d + 6) 202 0 [some (.ref (60 : Nat)), some (.int seed), some (.int what), none] [] (zk_mk I tg) P := by
  obtain ⟨hj, hl, hr, ht, hx⟩ := hq
  have hlt : zv_draw I n seed < 2 ^ n := zdraw_lt _ _ _
  unfold zA_drawn at K
  simp only [u202_0, u202_1, u202_2, u202_5, u202_8, u202_11, u202_12, u202_13, u202_14, u202_17, u202_20, u202_22, u202_23, u202_24, u202_27, u202_28, u202_29, u202_32, u202_33, u202_34, u202_37, u202_38, u202_41, u202_42, u202_43, u202_46, zk_mk_1, zk_mk_I, zk_mk_R, zk_mk_set, zk_mk_setR, zk_mk_cpy, zk_rv_some, zk_rv_none, Option.toList_some, Option.toList_none, List.cons_append, List.nil_append, reduceIte, eq_self, Nat.reduceLT, Nat.reduceEqDiff, and_true, true_and, reduceCtorEq, zsh_60, s129, zb_z]
  by_cases hw1 : 0 ≤ seed ∧ seed ≤ 99999
  · rw [if_neg (fun q => q hw1)]
    by_cases hw2 : 0 ≤ what ∧ what ≤ 1
    · rw [if_neg (fun q => q hw2)]
      rw [if_pos ⟨hw1, hw2⟩] at K
      refine s162 hj ht hr hx (fun I' h1 h2 h3 => ?_)
      have hj' := h1.tab hj
      have K2 := K I' h1
      have ed : (zdraw (fun c => zw_sides (I' 2 c) (I' 4 c)) seed n).2 = zv_draw I n seed := by rw [h1 2 rfl, h1 4 rfl]; rfl
      simp only [u202_0, u202_1, u202_2, u202_5, u202_8, u202_11, u202_12, u202_13, u202_14, u202_17, u202_20, u202_22, u202_23, u202_24, u202_27, u202_28, u202_29, u202_32, u202_33, u202_34, u202_37, u202_38, u202_41, u202_42, u202_43, u202_46, zk_mk_1, zk_mk_I, zk_mk_R, zk_mk_set, zk_mk_setR, zk_mk_cpy, zk_rv_some, zk_rv_none, Option.toList_some, Option.toList_none, List.cons_append, List.nil_append, reduceIte, eq_self, Nat.reduceLT, Nat.reduceEqDiff, and_true, true_and, reduceCtorEq, zsh_60, s203 hj', ed, s204 hj' h3 hlt]
      by_cases h0 : what = 0
      · rw [if_pos h0] at K2 ⊢; exact K2
      · rw [if_neg h0] at K2 ⊢; exact K2
    · rw [if_pos hw2]
      rw [if_neg (fun q => hw2 q.2)] at K
      exact K I (zF_refl I)
  · rw [if_pos hw1]
    rw [if_neg (fun q => hw1 q.1)] at K
    exact K I (zF_refl I)
