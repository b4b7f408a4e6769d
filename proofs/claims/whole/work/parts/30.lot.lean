/-! heaps by lot -/
theorem s85 {sc : zk_X} {d : Nat} {I : Nat → Nat → Int32} {tg : Option Nat} {P : Option Value → zk_M → Prop} {n h : Nat} {f : Nat → Int32} (h10 : n ≤ 10) (hall : I 15 3 = nI (2 ^ n - 1)) (hc : ∀ c, c < n → I 16 c = f c) (hh : h < 2 ^ n) : zk_R sc (d + 1) 85 0 [some (.ref (15 : Nat)), some (.int (nI h))] [] (zk_mk I tg) P = P (some (.int (zfval f n h))) (zk_mk I tg) := by
  have p10 := zp_10 h10
  have hr : zdf (2 ^ n - 1) h < 2 ^ n := zdf_lt (by omega)
  simp only [u85_0, u85_1, u85_2, u85_5, u85_6, u85_7, u85_10, u85_11, u85_12, u85_13, u85_14, u85_17, u85_18, u85_21, zk_mk_1, zk_mk_I, zk_mk_R, zk_mk_set, zk_mk_setR, zk_mk_cpy, zk_rv_some, zk_rv_none, Option.toList_some, Option.toList_none, List.cons_append, List.nil_append, reduceIte, eq_self, Nat.reduceLT, Nat.reduceEqDiff, and_true, true_and, reduceCtorEq, zsh_15, s62 (show h < 2147483648 by omega), hall, zq_andn, s62 (show zdf (2 ^ n - 1) h < 2147483648 by omega), zw_abs]
  rw [zv_sum h10 hh hc, zv_sum h10 hr hc]
  rfl
theorem s204 {sc : zk_X} {d : Nat} {I : Nat → Nat → Int32} {tg : Option Nat} {P : Option Value → zk_M → Prop} {n h : Nat} {f : Nat → Int32} (hj : zj_tab I n) (hs : zv_rows I 78 79 f n) (hh : h < 2 ^ n) : zk_R sc (d + 1) 204 0 [some (.ref (60 : Nat)), some (.int (nI h))] [] (zk_mk I tg) P = P (some (.int (zfval f n h))) (zk_mk I tg) := by
  have p10 := zp_10 hj.2.2.1
  have eall : (1 : Int32) <<< (nI n &&& 31) - 1 = nI (2 ^ n - 1) := by rw [zq_all hj.2.2.1]; exact zn_sub (b := 1) (by omega)
  have hr : zdf (2 ^ n - 1) h < 2 ^ n := zdf_lt (by omega)
  have z1 : zk_inb (nI h) 1024 = true := by rw [zn_in (by omega)]; omega
  have z2 : (nI h).toNatClampNeg = h := zn_cl (by omega)
  have z3 : zk_inb (nI (zdf (2 ^ n - 1) h)) 1024 = true := by rw [zn_in (by omega)]; omega
  have z4 : (nI (zdf (2 ^ n - 1) h)).toNatClampNeg = zdf (2 ^ n - 1) h := zn_cl (by omega)
  simp only [u204_0, u204_1, u204_4, u204_5, u204_6, u204_7, u204_10, u204_11, u204_14, u204_15, u204_16, u204_17, u204_18, u204_19, u204_20, u204_23, zk_mk_1, zk_mk_I, zk_mk_R, zk_mk_set, zk_mk_setR, zk_mk_cpy, zk_rv_some, zk_rv_none, Option.toList_some, Option.toList_none, List.cons_append, List.nil_append, reduceIte, eq_self, Nat.reduceLT, Nat.reduceEqDiff, and_true, true_and, reduceCtorEq, zsh_60, zsh_78, zrf_60_31, s161, hj.2.1, eall, zq_andn, z1, z2, z3, z4, (hs h hh).1, (hs _ hr).1, s172]
  rfl
/-- the lots of a seed, and who lies to the left by them -/
def zlot (x : Int64) : Int64 := x * 48271 - x * 48271 / 2147483647 * 2147483647
def zdraw (sd : Nat → Int32) (seed : Int32) : Nat → Int64 × Nat
  | 0 => (seed.toInt64 + 1, 0)
  | c + 1 => (zlot (zdraw sd seed c).1, if sd c = 1 ∨ sd c = 3 ∧ zlot (zdraw sd seed c).1 - zlot (zdraw sd seed c).1 / 2 * 2 = 0 then (zdraw sd seed c).2 ||| 2 ^ c else (zdraw sd seed c).2)
theorem zdraw_lt (sd : Nat → Int32) (seed : Int32) : ∀ n, (zdraw sd seed n).2 < 2 ^ n
  | 0 => by simp [zdraw]
  | n + 1 => by
    have ih := zdraw_lt sd seed n
    have h2 : 2 ^ (n + 1) = 2 * 2 ^ n := by rw [Nat.pow_succ]; omega
    show (if sd n = 1 ∨ sd n = 3 ∧ zlot (zdraw sd seed n).1 - zlot (zdraw sd seed n).1 / 2 * 2 = 0 then (zdraw sd seed n).2 ||| 2 ^ n else (zdraw sd seed n).2) < _
    split
    · exact Nat.or_lt_two_pow (by omega) (by omega)
    · omega
theorem zcmp0 (v w : Int64) : (lg_cmp v w = 0) = (v = w) := by
  unfold lg_cmp
  apply propext
  constructor
  · intro h
    (repeat' split at h) <;> first | assumption | (exfalso; revert h; decide) | (apply Int64.toInt.inj; simp only [Int64.lt_iff_toInt_lt] at *; omega)
  · intro h
    subst h
    simp
theorem zq_l : ((2147483647 : Int64) = 0) = False ∧ ((2 : Int64) = 0) = False := by decide
theorem s48 {sc : zk_X} {d : Nat} {I : Nat → Nat → Int32} {tg : Option Nat} {P : Option Value → zk_M → Prop} {n : Nat} {seed : Int32} (hn : I 1 4 = nI n) (h10 : n ≤ 10) : zk_R sc (d + 1) 48 0 [some (.ref (0 : Nat)), some (.int seed), none, none, none, none, none] [] (zk_mk I tg) P = P (some (.int (nI (zdraw (fun c => zw_sides (I 2 c) (I 4 c)) seed n).2))) (zk_mk I tg) := by
  refine zk_R_det ?_ P
  obtain ⟨ql1, ql2⟩ := zq_l
  have loop := zl_up (τ := Option Value) (fun i x => zk_R sc (d + 1) 48 10 [some (.ref (0 : Nat)), some (.int seed), some (.int (nI (zdraw (fun c => zw_sides (I 2 c) (I 4 c)) seed i).2)), some (.long (zdraw (fun c => zw_sides (I 2 c) (I 4 c)) seed i).1), none, some (.int (nI i)), x] [] (zk_mk I tg) (fun r M' => r = some (.int (nI (zdraw (fun c => zw_sides (I 2 c) (I 4 c)) seed n).2)) ∧ M' = zk_mk I tg)) (fun _ _ => True) n (by
      intro x _
      rw [u48_10]
      simp only [u48_0, u48_1, u48_2, u48_3, u48_4, u48_5, u48_6, u48_7, u48_8, u48_12, u48_13, u48_16, u48_19, u48_22, u48_23, u48_26, u48_27, u48_30, u48_31, u48_32, u48_33, u48_36, u48_38, u48_41, u48_43, u48_45, u48_46, u48_49, u48_51, u48_52, u48_55, u48_56, u48_59, u48_60, u48_61, u48_62, u48_65, u48_66, u48_67, u48_69, u48_70, u48_71, u48_72, u48_75, u48_78, u48_79, zk_mk_1, zk_mk_I, zk_mk_R, zk_mk_set, zk_mk_setR, zk_mk_cpy, zk_rv_some, zk_rv_none, Option.toList_some, Option.toList_none, List.cons_append, List.nil_append, reduceIte, eq_self, Nat.reduceLT, Nat.reduceEqDiff, and_true, true_and, reduceCtorEq, zsh_0, zsh_1, zrf_0_0, hn]
      rw [if_pos (nI_le (Nat.le_refl _) (by omega))]
      trivial) (by
      intro i x hi _ ih
      rw [u48_10]
      simp only [u48_0, u48_1, u48_2, u48_3, u48_4, u48_5, u48_6, u48_7, u48_8, u48_12, u48_13, u48_16, u48_19, u48_22, u48_23, u48_26, u48_27, u48_30, u48_31, u48_32, u48_33, u48_36, u48_38, u48_41, u48_43, u48_45, u48_46, u48_49, u48_51, u48_52, u48_55, u48_56, u48_59, u48_60, u48_61, u48_62, u48_65, u48_66, u48_67, u48_69, u48_70, u48_71, u48_72, u48_75, u48_78, u48_79, zk_mk_1, zk_mk_I, zk_mk_R, zk_mk_set, zk_mk_setR, zk_mk_cpy, zk_rv_some, zk_rv_none, Option.toList_some, Option.toList_none, List.cons_append, List.nil_append, reduceIte, eq_self, Nat.reduceLT, Nat.reduceEqDiff, and_true, true_and, reduceCtorEq, zsh_0, zsh_1, zrf_0_0, hn, ql1, not_false_eq_true]
      rw [if_neg (nI_ge hi (by omega)), s95 (by omega)]
      simp only [u48_0, u48_1, u48_2, u48_3, u48_4, u48_5, u48_6, u48_7, u48_8, u48_12, u48_13, u48_16, u48_19, u48_22, u48_23, u48_26, u48_27, u48_30, u48_31, u48_32, u48_33, u48_36, u48_38, u48_41, u48_43, u48_45, u48_46, u48_49, u48_51, u48_52, u48_55, u48_56, u48_59, u48_60, u48_61, u48_62, u48_65, u48_66, u48_67, u48_69, u48_70, u48_71, u48_72, u48_75, u48_78, u48_79, zk_mk_1, zk_mk_I, zk_mk_R, zk_mk_set, zk_mk_setR, zk_mk_cpy, zk_rv_some, zk_rv_none, Option.toList_some, Option.toList_none, List.cons_append, List.nil_append, reduceIte, eq_self, Nat.reduceLT, Nat.reduceEqDiff, and_true, true_and, reduceCtorEq, zsh_0, zsh_1, zrf_0_0, hn, ql2, not_false_eq_true, nI_1]
      have e1 : (zdraw (fun c => zw_sides (I 2 c) (I 4 c)) seed i).1 * 48271 - (zdraw (fun c => zw_sides (I 2 c) (I 4 c)) seed i).1 * 48271 / 2147483647 * 2147483647 = zlot (zdraw (fun c => zw_sides (I 2 c) (I 4 c)) seed i).1 := rfl
      rw [e1, zq_pow (by omega), zq_or]
      simp only [zcmp0]
      have ek : zdraw (fun c => zw_sides (I 2 c) (I 4 c)) seed (i + 1) = (zlot (zdraw (fun c => zw_sides (I 2 c) (I 4 c)) seed i).1, if zw_sides (I 2 i) (I 4 i) = 1 ∨ zw_sides (I 2 i) (I 4 i) = 3 ∧ zlot (zdraw (fun c => zw_sides (I 2 c) (I 4 c)) seed i).1 - zlot (zdraw (fun c => zw_sides (I 2 c) (I 4 c)) seed i).1 / 2 * 2 = 0 then (zdraw (fun c => zw_sides (I 2 c) (I 4 c)) seed i).2 ||| 2 ^ i else (zdraw (fun c => zw_sides (I 2 c) (I 4 c)) seed i).2) := rfl
      have ih2 := ih (some (.int (zw_sides (I 2 i) (I 4 i)))) trivial
      rw [ek] at ih2
      by_cases k1 : zw_sides (I 2 i) (I 4 i) = 1
      · rw [if_pos k1]
        rw [if_pos (Or.inl k1)] at ih2
        exact ih2
      · rw [if_neg k1]
        by_cases k2 : zw_sides (I 2 i) (I 4 i) = 3
        · rw [if_pos k2]
          by_cases k3 : zlot (zdraw (fun c => zw_sides (I 2 c) (I 4 c)) seed i).1 - zlot (zdraw (fun c => zw_sides (I 2 c) (I 4 c)) seed i).1 / 2 * 2 = 0
          · rw [if_pos k3]
            rw [if_pos (Or.inr ⟨k2, k3⟩)] at ih2
            exact ih2
          · rw [if_neg k3]
            rw [if_neg (fun q => q.elim k1 (fun q => k3 q.2))] at ih2
            exact ih2
        · rw [if_neg k2]
          rw [if_neg (fun q => q.elim k1 (fun q => k2 q.1))] at ih2
          exact ih2)
  simp only [u48_0, u48_1, u48_2, u48_3, u48_4, u48_5, u48_6, u48_7, u48_8, u48_12, u48_13, u48_16, u48_19, u48_22, u48_23, u48_26, u48_27, u48_30, u48_31, u48_32, u48_33, u48_36, u48_38, u48_41, u48_43, u48_45, u48_46, u48_49, u48_51, u48_52, u48_55, u48_56, u48_59, u48_60, u48_61, u48_62, u48_65, u48_66, u48_67, u48_69, u48_70, u48_71, u48_72, u48_75, u48_78, u48_79, zk_mk_1, zk_mk_I, zk_mk_R, zk_mk_set, zk_mk_setR, zk_mk_cpy, zk_rv_some, zk_rv_none, Option.toList_some, Option.toList_none, List.cons_append, List.nil_append, reduceIte, eq_self, Nat.reduceLT, Nat.reduceEqDiff, and_true, true_and, reduceCtorEq]
  exact loop 0 none (Nat.zero_le _) trivial
