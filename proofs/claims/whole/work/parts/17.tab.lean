/-! cards: where they lie, where they may; what heaps count -/
theorem s92 {sc : zk_X} {d : Nat} {I : Nat → Nat → Int32} {tg : Option Nat} {P : Option Value → zk_M → Prop} {n : Nat} {q : Int32} (hn : I 1 4 = nI n) (h10 : n ≤ 10) : zk_R sc d 92 0 [some (.ref (1 : Nat)), some (.int q), none, none] [] (zk_mk I tg) P = P (some (.int (nI (zset (fun c => decide (I 5 c = q)) n)))) (zk_mk I tg) := by
  refine zk_R_det ?_ P
  have loop := zl_fn (fun i => zk_R sc d 92 4 [some (.ref (1 : Nat)), some (.int q), some (.int (nI (zset (fun c => decide (I 5 c = q)) i))), some (.int (nI i))] [] (zk_mk I tg) (fun r M' => r = some (.int (nI (zset (fun c => decide (I 5 c = q)) n))) ∧ M' = zk_mk I tg)) n (by
      rw [u92_4]
      simp only [u92_0, u92_1, u92_2, u92_3, u92_5, u92_6, u92_9, u92_12, u92_13, u92_16, u92_17, u92_18, u92_19, u92_22, u92_23, u92_24, u92_25, u92_26, u92_27, u92_28, u92_31, u92_34, u92_35, zk_mk_1, zk_mk_I, zk_mk_R, zk_mk_set, zk_mk_setR, zk_mk_cpy, zk_rv_some, zk_rv_none, Option.toList_some, Option.toList_none, List.cons_append, List.nil_append, reduceIte, eq_self, Nat.reduceLT, Nat.reduceEqDiff, and_true, true_and, reduceCtorEq, zsh_1, zsh_5, zrf_1_3, hn]
      rw [if_pos (nI_le (Nat.le_refl _) (by omega))]
      trivial) (by
      intro i hi ih
      rw [u92_4]
      simp only [u92_0, u92_1, u92_2, u92_3, u92_5, u92_6, u92_9, u92_12, u92_13, u92_16, u92_17, u92_18, u92_19, u92_22, u92_23, u92_24, u92_25, u92_26, u92_27, u92_28, u92_31, u92_34, u92_35, zk_mk_1, zk_mk_I, zk_mk_R, zk_mk_set, zk_mk_setR, zk_mk_cpy, zk_rv_some, zk_rv_none, Option.toList_some, Option.toList_none, List.cons_append, List.nil_append, reduceIte, eq_self, Nat.reduceLT, Nat.reduceEqDiff, and_true, true_and, reduceCtorEq, zsh_1, zsh_5, zrf_1_3, hn]
      rw [if_neg (nI_ge hi (by omega))]
      simp (disch := omega) only [zn_in, zn_cl, nI_1]
      refine ⟨by omega, ?_⟩
      rw [zset] at ih
      rw [zq_pow (by omega), zq_or]
      by_cases h : I 5 i = q
      · simp only [h, decide_true, reduceIte] at ih ⊢; exact ih
      · simp only [h, decide_false, Bool.false_eq_true, reduceIte] at ih ⊢; exact ih)
  simp only [u92_0, u92_1, u92_2, u92_3, u92_5, u92_6, u92_9, u92_12, u92_13, u92_16, u92_17, u92_18, u92_19, u92_22, u92_23, u92_24, u92_25, u92_26, u92_27, u92_28, u92_31, u92_34, u92_35, zk_mk_1, zk_mk_I, zk_mk_R, zk_mk_set, zk_mk_setR, zk_mk_cpy, zk_rv_some, zk_rv_none, Option.toList_some, Option.toList_none, List.cons_append, List.nil_append, reduceIte, eq_self, Nat.reduceLT, Nat.reduceEqDiff, and_true, true_and, reduceCtorEq]
  exact loop 0 (Nat.zero_le _)
theorem s140 {sc : zk_X} {d : Nat} {I : Nat → Nat → Int32} {tg : Option Nat} {P : Option Value → zk_M → Prop} {n : Nat} {q : Int32} (hn : I 60 0 = nI n) (h10 : n ≤ 10) : zk_R sc d 140 0 [some (.ref (60 : Nat)), some (.int q), none, none] [] (zk_mk I tg) P = P (some (.int (nI (zset (fun c => decide (I 64 c = q)) n)))) (zk_mk I tg) := by
  refine zk_R_det ?_ P
  have loop := zl_fn (fun i => zk_R sc d 140 4 [some (.ref (60 : Nat)), some (.int q), some (.int (nI (zset (fun c => decide (I 64 c = q)) i))), some (.int (nI i))] [] (zk_mk I tg) (fun r M' => r = some (.int (nI (zset (fun c => decide (I 64 c = q)) n))) ∧ M' = zk_mk I tg)) n (by
      rw [u140_4]
      simp only [u140_0, u140_1, u140_2, u140_3, u140_5, u140_6, u140_9, u140_12, u140_13, u140_14, u140_17, u140_18, u140_19, u140_20, u140_23, u140_24, u140_25, u140_26, u140_29, u140_30, u140_31, u140_32, u140_35, u140_38, u140_39, zk_mk_1, zk_mk_I, zk_mk_R, zk_mk_set, zk_mk_setR, zk_mk_cpy, zk_rv_some, zk_rv_none, Option.toList_some, Option.toList_none, List.cons_append, List.nil_append, reduceIte, eq_self, Nat.reduceLT, Nat.reduceEqDiff, and_true, true_and, reduceCtorEq, zsh_60, zsh_64, zrf_60_4, hn]
      rw [if_pos (nI_le (Nat.le_refl _) (by omega))]
      trivial) (by
      intro i hi ih
      rw [u140_4]
      simp only [u140_0, u140_1, u140_2, u140_3, u140_5, u140_6, u140_9, u140_12, u140_13, u140_14, u140_17, u140_18, u140_19, u140_20, u140_23, u140_24, u140_25, u140_26, u140_29, u140_30, u140_31, u140_32, u140_35, u140_38, u140_39, zk_mk_1, zk_mk_I, zk_mk_R, zk_mk_set, zk_mk_setR, zk_mk_cpy, zk_rv_some, zk_rv_none, Option.toList_some, Option.toList_none, List.cons_append, List.nil_append, reduceIte, eq_self, Nat.reduceLT, Nat.reduceEqDiff, and_true, true_and, reduceCtorEq, zsh_60, zsh_64, zrf_60_4, hn]
      rw [if_neg (nI_ge hi (by omega))]
      simp (disch := omega) only [zn_in, zn_cl, nI_1]
      refine ⟨by omega, ?_⟩
      rw [zset] at ih
      rw [zq_pow (by omega), zq_or]
      by_cases h : I 64 i = q
      · simp only [h, decide_true, reduceIte] at ih ⊢; exact ih
      · simp only [h, decide_false, Bool.false_eq_true, reduceIte] at ih ⊢
        rw [show (0 : Int32) = nI 0 from rfl, zq_or, Nat.or_zero]; exact ih)
  simp only [u140_0, u140_1, u140_2, u140_3, u140_5, u140_6, u140_9, u140_12, u140_13, u140_14, u140_17, u140_18, u140_19, u140_20, u140_23, u140_24, u140_25, u140_26, u140_29, u140_30, u140_31, u140_32, u140_35, u140_38, u140_39, zk_mk_1, zk_mk_I, zk_mk_R, zk_mk_set, zk_mk_setR, zk_mk_cpy, zk_rv_some, zk_rv_none, Option.toList_some, Option.toList_none, List.cons_append, List.nil_append, reduceIte, eq_self, Nat.reduceLT, Nat.reduceEqDiff, and_true, true_and, reduceCtorEq]
  exact loop 0 (Nat.zero_le _)
theorem s98 {sc : zk_X} {d : Nat} {I : Nat → Nat → Int32} {tg : Option Nat} {P : Option Value → zk_M → Prop} {n : Nat} {q : Int32} (hn : I 1 4 = nI n) (h10 : n ≤ 10) : zk_R sc (d + 1) 98 0 [some (.ref (1 : Nat)), some (.int q), none, none] [] (zk_mk I tg) P = P (some (.int (nI (zset (fun c => decide (¬ zw_sides (I 2 c) (I 4 c) &&& q = 0)) n)))) (zk_mk I tg) := by
  refine zk_R_det ?_ P
  have loop := zl_fn (fun i => zk_R sc (d + 1) 98 4 [some (.ref (1 : Nat)), some (.int q), some (.int (nI (zset (fun c => decide (¬ zw_sides (I 2 c) (I 4 c) &&& q = 0)) i))), some (.int (nI i))] [] (zk_mk I tg) (fun r M' => r = some (.int (nI (zset (fun c => decide (¬ zw_sides (I 2 c) (I 4 c) &&& q = 0)) n))) ∧ M' = zk_mk I tg)) n (by
      rw [u98_4]
      simp only [u98_0, u98_1, u98_2, u98_3, u98_5, u98_6, u98_9, u98_12, u98_13, u98_14, u98_17, u98_18, u98_19, u98_22, u98_23, u98_24, u98_25, u98_26, u98_27, u98_28, u98_31, u98_34, u98_35, zk_mk_1, zk_mk_I, zk_mk_R, zk_mk_set, zk_mk_setR, zk_mk_cpy, zk_rv_some, zk_rv_none, Option.toList_some, Option.toList_none, List.cons_append, List.nil_append, reduceIte, eq_self, Nat.reduceLT, Nat.reduceEqDiff, and_true, true_and, reduceCtorEq, zsh_1, hn]
      rw [if_pos (nI_le (Nat.le_refl _) (by omega))]
      trivial) (by
      intro i hi ih
      rw [u98_4]
      simp only [u98_0, u98_1, u98_2, u98_3, u98_5, u98_6, u98_9, u98_12, u98_13, u98_14, u98_17, u98_18, u98_19, u98_22, u98_23, u98_24, u98_25, u98_26, u98_27, u98_28, u98_31, u98_34, u98_35, zk_mk_1, zk_mk_I, zk_mk_R, zk_mk_set, zk_mk_setR, zk_mk_cpy, zk_rv_some, zk_rv_none, Option.toList_some, Option.toList_none, List.cons_append, List.nil_append, reduceIte, eq_self, Nat.reduceLT, Nat.reduceEqDiff, and_true, true_and, reduceCtorEq, zsh_1, hn]
      rw [if_neg (nI_ge hi (by omega)), s95 (by omega)]
      simp only [u98_0, u98_1, u98_2, u98_3, u98_5, u98_6, u98_9, u98_12, u98_13, u98_14, u98_17, u98_18, u98_19, u98_22, u98_23, u98_24, u98_25, u98_26, u98_27, u98_28, u98_31, u98_34, u98_35, zk_mk_1, zk_mk_I, zk_mk_R, zk_mk_set, zk_mk_setR, zk_mk_cpy, zk_rv_some, zk_rv_none, Option.toList_some, Option.toList_none, List.cons_append, List.nil_append, reduceIte, eq_self, Nat.reduceLT, Nat.reduceEqDiff, and_true, true_and, reduceCtorEq, zsh_1, hn]
      simp (disch := omega) only [zn_in, zn_cl, nI_1]
      rw [zset] at ih
      rw [zq_pow (by omega), zq_or]
      by_cases h : zw_sides (I 2 i) (I 4 i) &&& q = 0
      · simp only [h, decide_true, decide_false, not_true, Bool.false_eq_true, reduceIte] at ih ⊢; exact ih
      · simp only [h, decide_true, decide_false, not_false_eq_true, Bool.false_eq_true, reduceIte] at ih ⊢; exact ih)
  simp only [u98_0, u98_1, u98_2, u98_3, u98_5, u98_6, u98_9, u98_12, u98_13, u98_14, u98_17, u98_18, u98_19, u98_22, u98_23, u98_24, u98_25, u98_26, u98_27, u98_28, u98_31, u98_34, u98_35, zk_mk_1, zk_mk_I, zk_mk_R, zk_mk_set, zk_mk_setR, zk_mk_cpy, zk_rv_some, zk_rv_none, Option.toList_some, Option.toList_none, List.cons_append, List.nil_append, reduceIte, eq_self, Nat.reduceLT, Nat.reduceEqDiff, and_true, true_and, reduceCtorEq]
  exact loop 0 (Nat.zero_le _)
theorem s168 {sc : zk_X} {d : Nat} {I : Nat → Nat → Int32} {tg : Option Nat} {P : Option Value → zk_M → Prop} {n : Nat} {q : Int32} (hn : I 60 0 = nI n) (h10 : n ≤ 10) : zk_R sc (d + 2) 168 0 [some (.ref (60 : Nat)), some (.int q), none, none] [] (zk_mk I tg) P = P (some (.int (nI (zset (fun c => decide (¬ zw_sides (I 61 c) (I 63 c) &&& q = 0)) n)))) (zk_mk I tg) := by
  refine zk_R_det ?_ P
  have loop := zl_fn (fun i => zk_R sc (d + 2) 168 4 [some (.ref (60 : Nat)), some (.int q), some (.int (nI (zset (fun c => decide (¬ zw_sides (I 61 c) (I 63 c) &&& q = 0)) i))), some (.int (nI i))] [] (zk_mk I tg) (fun r M' => r = some (.int (nI (zset (fun c => decide (¬ zw_sides (I 61 c) (I 63 c) &&& q = 0)) n))) ∧ M' = zk_mk I tg)) n (by
      rw [u168_4]
      simp only [u168_0, u168_1, u168_2, u168_3, u168_5, u168_6, u168_9, u168_12, u168_13, u168_14, u168_15, u168_16, u168_19, u168_22, u168_23, u168_24, u168_25, u168_28, u168_29, u168_30, u168_31, u168_34, u168_37, u168_38, zk_mk_1, zk_mk_I, zk_mk_R, zk_mk_set, zk_mk_setR, zk_mk_cpy, zk_rv_some, zk_rv_none, Option.toList_some, Option.toList_none, List.cons_append, List.nil_append, reduceIte, eq_self, Nat.reduceLT, Nat.reduceEqDiff, and_true, true_and, reduceCtorEq, zsh_60, hn]
      rw [if_pos (nI_le (Nat.le_refl _) (by omega))]
      trivial) (by
      intro i hi ih
      rw [u168_4]
      simp only [u168_0, u168_1, u168_2, u168_3, u168_5, u168_6, u168_9, u168_12, u168_13, u168_14, u168_15, u168_16, u168_19, u168_22, u168_23, u168_24, u168_25, u168_28, u168_29, u168_30, u168_31, u168_34, u168_37, u168_38, zk_mk_1, zk_mk_I, zk_mk_R, zk_mk_set, zk_mk_setR, zk_mk_cpy, zk_rv_some, zk_rv_none, Option.toList_some, Option.toList_none, List.cons_append, List.nil_append, reduceIte, eq_self, Nat.reduceLT, Nat.reduceEqDiff, and_true, true_and, reduceCtorEq, zsh_60, hn]
      rw [if_neg (nI_ge hi (by omega)), s153 (by omega)]
      simp only [u168_0, u168_1, u168_2, u168_3, u168_5, u168_6, u168_9, u168_12, u168_13, u168_14, u168_15, u168_16, u168_19, u168_22, u168_23, u168_24, u168_25, u168_28, u168_29, u168_30, u168_31, u168_34, u168_37, u168_38, zk_mk_1, zk_mk_I, zk_mk_R, zk_mk_set, zk_mk_setR, zk_mk_cpy, zk_rv_some, zk_rv_none, Option.toList_some, Option.toList_none, List.cons_append, List.nil_append, reduceIte, eq_self, Nat.reduceLT, Nat.reduceEqDiff, and_true, true_and, reduceCtorEq, zsh_60, hn]
      simp (disch := omega) only [zn_in, zn_cl, nI_1]
      rw [zset] at ih
      rw [zq_pow (by omega), zq_or]
      by_cases h : zw_sides (I 61 i) (I 63 i) &&& q = 0
      · simp only [h, zb, decide_true, decide_false, not_true, Bool.false_eq_true, reduceIte] at ih ⊢
        rw [show (0 : Int32) = nI 0 from rfl, zq_or, Nat.or_zero]; exact ih
      · simp only [h, zb, decide_true, decide_false, not_false_eq_true, Bool.false_eq_true, reduceIte, zn_1] at ih ⊢; exact ih)
  simp only [u168_0, u168_1, u168_2, u168_3, u168_5, u168_6, u168_9, u168_12, u168_13, u168_14, u168_15, u168_16, u168_19, u168_22, u168_23, u168_24, u168_25, u168_28, u168_29, u168_30, u168_31, u168_34, u168_37, u168_38, zk_mk_1, zk_mk_I, zk_mk_R, zk_mk_set, zk_mk_setR, zk_mk_cpy, zk_rv_some, zk_rv_none, Option.toList_some, Option.toList_none, List.cons_append, List.nil_append, reduceIte, eq_self, Nat.reduceLT, Nat.reduceEqDiff, and_true, true_and, reduceCtorEq]
  exact loop 0 (Nat.zero_le _)
/-- what the cards of a heap count together, among the first n -/
def zsum (cnt : Nat → Int32) (h : Nat) : Nat → Int32
  | 0 => 0
  | c + 1 => zsum cnt h c + (if h / 2 ^ c % 2 = 1 then cnt c else 0)
theorem zsum_ext {a b : Nat → Int32} {h n : Nat} (k : ∀ c, c < n → a c = b c) : zsum a h n = zsum b h n := by
  induction n with
  | zero => rfl
  | succ n ih =>
    unfold zsum
    rw [ih (fun c hc => k c (by omega)), k n (by omega)]
theorem zsum_more {a : Nat → Int32} {h n : Nat} (k : h < 2 ^ n) : ∀ m, zsum a h (n + m) = zsum a h n
  | 0 => rfl
  | m + 1 => by
    show zsum a h (n + m) + (if h / 2 ^ (n + m) % 2 = 1 then a (n + m) else 0) = _
    have : h / 2 ^ (n + m) = 0 := Nat.div_eq_of_lt (Nat.lt_of_lt_of_le k (Nat.pow_le_pow_right (by omega) (by omega)))
    rw [zsum_more k m, this]
    simp
theorem zsum_10 {a : Nat → Int32} {h n : Nat} (hn : n ≤ 10) (k : h < 2 ^ n) : zsum a h 10 = zsum a h n := by
  have := zsum_more (a := a) k (10 - n)
  rwa [show n + (10 - n) = 10 by omega] at this
theorem zb_mul (b : Nat) (x : Int32) : nI (b % 2) * x = if b % 2 = 1 then x else 0 := by
  rcases (show b % 2 = 0 ∨ b % 2 = 1 by omega) with h | h
  · rw [h]; show nI 0 * x = 0; rw [← zn_0]; simp
  · rw [h]; show nI 1 * x = x; rw [← zn_1]; simp
theorem s62 {sc : zk_X} {d : Nat} {I : Nat → Nat → Int32} {tg : Option Nat} {P : Option Value → zk_M → Prop} {h : Nat} (hh : h < 2147483648) : zk_R sc d 62 0 [some (.ref (15 : Nat)), some (.int (nI h)), none, none] [] (zk_mk I tg) P = P (some (.int (zsum (I 16) h 10))) (zk_mk I tg) := by
  refine zk_R_det ?_ P
  have loop := zl_fn (fun i => zk_R sc d 62 4 [some (.ref (15 : Nat)), some (.int (nI h)), some (.int (zsum (I 16) h i)), some (.int (nI i))] [] (zk_mk I tg) (fun r M' => r = some (.int (zsum (I 16) h 10)) ∧ M' = zk_mk I tg)) 10 (by
      rw [u62_4]
      simp only [u62_0, u62_1, u62_2, u62_3, u62_5, u62_7, u62_10, u62_11, u62_12, u62_13, u62_14, u62_15, u62_16, u62_17, u62_20, u62_21, u62_22, u62_23, u62_24, u62_25, u62_28, u62_31, u62_32, zk_mk_1, zk_mk_I, zk_mk_R, zk_mk_set, zk_mk_setR, zk_mk_cpy, zk_rv_some, zk_rv_none, Option.toList_some, Option.toList_none, List.cons_append, List.nil_append, reduceIte, eq_self, Nat.reduceLT, Nat.reduceEqDiff, and_true, true_and, reduceCtorEq, zsh_15, zsh_16, zrf_15_0]
      rw [if_pos (by decide)]
      trivial) (by
      intro i hi ih
      rw [u62_4]
      simp only [u62_0, u62_1, u62_2, u62_3, u62_5, u62_7, u62_10, u62_11, u62_12, u62_13, u62_14, u62_15, u62_16, u62_17, u62_20, u62_21, u62_22, u62_23, u62_24, u62_25, u62_28, u62_31, u62_32, zk_mk_1, zk_mk_I, zk_mk_R, zk_mk_set, zk_mk_setR, zk_mk_cpy, zk_rv_some, zk_rv_none, Option.toList_some, Option.toList_none, List.cons_append, List.nil_append, reduceIte, eq_self, Nat.reduceLT, Nat.reduceEqDiff, and_true, true_and, reduceCtorEq, zsh_15, zsh_16, zrf_15_0]
      rw [if_neg (show ¬ (10 : Int32) ≤ nI i from nI_ge (b := 10) hi (by decide))]
      simp (disch := omega) only [zn_in, zn_cl, nI_1, zq_bit, zb_mul]
      exact ⟨by omega, ih⟩)
  simp only [u62_0, u62_1, u62_2, u62_3, u62_5, u62_7, u62_10, u62_11, u62_12, u62_13, u62_14, u62_15, u62_16, u62_17, u62_20, u62_21, u62_22, u62_23, u62_24, u62_25, u62_28, u62_31, u62_32, zk_mk_1, zk_mk_I, zk_mk_R, zk_mk_set, zk_mk_setR, zk_mk_cpy, zk_rv_some, zk_rv_none, Option.toList_some, Option.toList_none, List.cons_append, List.nil_append, reduceIte, eq_self, Nat.reduceLT, Nat.reduceEqDiff, and_true, true_and, reduceCtorEq]
  exact loop 0 (Nat.zero_le _)
theorem s74 {sc : zk_X} {d : Nat} {I : Nat → Nat → Int32} {tg : Option Nat} {P : Option Value → zk_M → Prop} {h : Nat} (hh : h < 2147483648) : zk_R sc d 74 0 [some (.ref (15 : Nat)), some (.int (nI h)), none, none] [] (zk_mk I tg) P = P (some (.int (zsum (I 17) h 10))) (zk_mk I tg) := by
  refine zk_R_det ?_ P
  have loop := zl_fn (fun i => zk_R sc d 74 4 [some (.ref (15 : Nat)), some (.int (nI h)), some (.int (zsum (I 17) h i)), some (.int (nI i))] [] (zk_mk I tg) (fun r M' => r = some (.int (zsum (I 17) h 10)) ∧ M' = zk_mk I tg)) 10 (by
      rw [u74_4]
      simp only [u74_0, u74_1, u74_2, u74_3, u74_5, u74_7, u74_10, u74_11, u74_12, u74_13, u74_14, u74_15, u74_16, u74_17, u74_20, u74_21, u74_22, u74_23, u74_24, u74_25, u74_28, u74_31, u74_32, zk_mk_1, zk_mk_I, zk_mk_R, zk_mk_set, zk_mk_setR, zk_mk_cpy, zk_rv_some, zk_rv_none, Option.toList_some, Option.toList_none, List.cons_append, List.nil_append, reduceIte, eq_self, Nat.reduceLT, Nat.reduceEqDiff, and_true, true_and, reduceCtorEq, zsh_15, zsh_17, zrf_15_1]
      rw [if_pos (by decide)]
      trivial) (by
      intro i hi ih
      rw [u74_4]
      simp only [u74_0, u74_1, u74_2, u74_3, u74_5, u74_7, u74_10, u74_11, u74_12, u74_13, u74_14, u74_15, u74_16, u74_17, u74_20, u74_21, u74_22, u74_23, u74_24, u74_25, u74_28, u74_31, u74_32, zk_mk_1, zk_mk_I, zk_mk_R, zk_mk_set, zk_mk_setR, zk_mk_cpy, zk_rv_some, zk_rv_none, Option.toList_some, Option.toList_none, List.cons_append, List.nil_append, reduceIte, eq_self, Nat.reduceLT, Nat.reduceEqDiff, and_true, true_and, reduceCtorEq, zsh_15, zsh_17, zrf_15_1]
      rw [if_neg (show ¬ (10 : Int32) ≤ nI i from nI_ge (b := 10) hi (by decide))]
      simp (disch := omega) only [zn_in, zn_cl, nI_1, zq_bit, zb_mul]
      exact ⟨by omega, ih⟩)
  simp only [u74_0, u74_1, u74_2, u74_3, u74_5, u74_7, u74_10, u74_11, u74_12, u74_13, u74_14, u74_15, u74_16, u74_17, u74_20, u74_21, u74_22, u74_23, u74_24, u74_25, u74_28, u74_31, u74_32, zk_mk_1, zk_mk_I, zk_mk_R, zk_mk_set, zk_mk_setR, zk_mk_cpy, zk_rv_some, zk_rv_none, Option.toList_some, Option.toList_none, List.cons_append, List.nil_append, reduceIte, eq_self, Nat.reduceLT, Nat.reduceEqDiff, and_true, true_and, reduceCtorEq]
  exact loop 0 (Nat.zero_le _)
theorem s63 {sc : zk_X} {d : Nat} {I : Nat → Nat → Int32} {tg : Option Nat} {P : Option Value → zk_M → Prop} {h : Nat} (hh : h < 2147483648) : zk_R sc d 63 0 [some (.ref (15 : Nat)), some (.int (nI h)), none, none] [] (zk_mk I tg) P = P (some (.int (zsum (fun c => I 16 c * I 16 c) h 10))) (zk_mk I tg) := by
  refine zk_R_det ?_ P
  have loop := zl_fn (fun i => zk_R sc d 63 4 [some (.ref (15 : Nat)), some (.int (nI h)), some (.int (zsum (fun c => I 16 c * I 16 c) h i)), some (.int (nI i))] [] (zk_mk I tg) (fun r M' => r = some (.int (zsum (fun c => I 16 c * I 16 c) h 10)) ∧ M' = zk_mk I tg)) 10 (by
      rw [u63_4]
      simp only [u63_0, u63_1, u63_2, u63_3, u63_5, u63_7, u63_10, u63_11, u63_12, u63_13, u63_14, u63_15, u63_16, u63_17, u63_20, u63_21, u63_22, u63_23, u63_24, u63_27, u63_28, u63_29, u63_30, u63_31, u63_32, u63_35, u63_38, u63_39, zk_mk_1, zk_mk_I, zk_mk_R, zk_mk_set, zk_mk_setR, zk_mk_cpy, zk_rv_some, zk_rv_none, Option.toList_some, Option.toList_none, List.cons_append, List.nil_append, reduceIte, eq_self, Nat.reduceLT, Nat.reduceEqDiff, and_true, true_and, reduceCtorEq, zsh_15, zsh_16, zrf_15_0]
      rw [if_pos (by decide)]
      trivial) (by
      intro i hi ih
      rw [u63_4]
      simp only [u63_0, u63_1, u63_2, u63_3, u63_5, u63_7, u63_10, u63_11, u63_12, u63_13, u63_14, u63_15, u63_16, u63_17, u63_20, u63_21, u63_22, u63_23, u63_24, u63_27, u63_28, u63_29, u63_30, u63_31, u63_32, u63_35, u63_38, u63_39, zk_mk_1, zk_mk_I, zk_mk_R, zk_mk_set, zk_mk_setR, zk_mk_cpy, zk_rv_some, zk_rv_none, Option.toList_some, Option.toList_none, List.cons_append, List.nil_append, reduceIte, eq_self, Nat.reduceLT, Nat.reduceEqDiff, and_true, true_and, reduceCtorEq, zsh_15, zsh_16, zrf_15_0]
      rw [if_neg (show ¬ (10 : Int32) ≤ nI i from nI_ge (b := 10) hi (by decide))]
      simp (disch := omega) only [zn_in, zn_cl, nI_1, zq_bit]
      rw [Int32.mul_assoc, zb_mul]
      exact ⟨by omega, by omega, ih⟩)
  simp only [u63_0, u63_1, u63_2, u63_3, u63_5, u63_7, u63_10, u63_11, u63_12, u63_13, u63_14, u63_15, u63_16, u63_17, u63_20, u63_21, u63_22, u63_23, u63_24, u63_27, u63_28, u63_29, u63_30, u63_31, u63_32, u63_35, u63_38, u63_39, zk_mk_1, zk_mk_I, zk_mk_R, zk_mk_set, zk_mk_setR, zk_mk_cpy, zk_rv_some, zk_rv_none, Option.toList_some, Option.toList_none, List.cons_append, List.nil_append, reduceIte, eq_self, Nat.reduceLT, Nat.reduceEqDiff, and_true, true_and, reduceCtorEq]
  exact loop 0 (Nat.zero_le _)
/-- how many cards a heap has -/
def zones (h : Nat) : Nat → Nat
  | 0 => 0
  | c + 1 => zones h c + h / 2 ^ c % 2
theorem s163 {sc : zk_X} {d : Nat} {M : zk_M} {P : Option Value → zk_M → Prop} {h : Nat} (hh : h < 2147483648) : zk_R sc d 163 0 [some (.int (nI h)), none, none] [] M P = P (some (.int (nI (zones h 12)))) M := by
  refine zk_R_det ?_ P
  have loop := zl_fn (fun i => zk_R sc d 163 4 [some (.int (nI h)), some (.int (nI (zones h i))), some (.int (nI i))] [] M (fun r M' => r = some (.int (nI (zones h 12))) ∧ M' = M)) 12 (by
      rw [u163_4]
      simp only [u163_0, u163_1, u163_2, u163_3, u163_5, u163_7, u163_10, u163_11, u163_12, u163_13, u163_14, u163_15, u163_16, u163_17, u163_18, u163_21, u163_24, u163_25, zk_mk_1, zk_mk_I, zk_mk_R, zk_mk_set, zk_mk_setR, zk_mk_cpy, zk_rv_some, zk_rv_none, Option.toList_some, Option.toList_none, List.cons_append, List.nil_append, reduceIte, eq_self, Nat.reduceLT, Nat.reduceEqDiff, and_true, true_and, reduceCtorEq]
      rw [if_pos (by decide)]
      trivial) (by
      intro i hi ih
      rw [u163_4]
      simp only [u163_0, u163_1, u163_2, u163_3, u163_5, u163_7, u163_10, u163_11, u163_12, u163_13, u163_14, u163_15, u163_16, u163_17, u163_18, u163_21, u163_24, u163_25, zk_mk_1, zk_mk_I, zk_mk_R, zk_mk_set, zk_mk_setR, zk_mk_cpy, zk_rv_some, zk_rv_none, Option.toList_some, Option.toList_none, List.cons_append, List.nil_append, reduceIte, eq_self, Nat.reduceLT, Nat.reduceEqDiff, and_true, true_and, reduceCtorEq]
      rw [if_neg (show ¬ (12 : Int32) ≤ nI i from nI_ge (b := 12) hi (by decide))]
      simp (disch := omega) only [zn_in, zn_cl, nI_1, zq_bit, zn_add]
      exact ih)
  simp only [u163_0, u163_1, u163_2, u163_3, u163_5, u163_7, u163_10, u163_11, u163_12, u163_13, u163_14, u163_15, u163_16, u163_17, u163_18, u163_21, u163_24, u163_25, zk_mk_1, zk_mk_I, zk_mk_R, zk_mk_set, zk_mk_setR, zk_mk_cpy, zk_rv_some, zk_rv_none, Option.toList_some, Option.toList_none, List.cons_append, List.nil_append, reduceIte, eq_self, Nat.reduceLT, Nat.reduceEqDiff, and_true, true_and, reduceCtorEq]
  exact loop 0 (Nat.zero_le _)
