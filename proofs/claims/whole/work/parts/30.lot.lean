/-! heaps by lot -/
theorem s85 {sc : zk_X} {d : Nat} {I : Nat → Nat → Int32} {tg : Option Nat} {P : Option Value → zk_M → Prop} {n h : Nat} {f : Nat → Int32} (h10 : n ≤ 10) (hall : I 15 3 = nI (2 ^ n - 1)) (hc : ∀ c, c < n → I 16 c = f c) (hh : h < 2 ^ n) : zk_R sc (d + 1) 85 0 [some (.ref (15 : Nat)), some (.int (nI h))] [] (zk_mk I tg) P = P (some (.int (zfval f n h))) (zk_mk I tg) := by
  have p10 := zp_10 h10
  have hr : zdf (2 ^ n - 1) h < 2 ^ n := zdf_lt (by omega)
  simp only [u85_0, u85_1, u85_2, u85_5, u85_6, u85_7, u85_10, u85_11, u85_12, u85_13, u85_14, u85_17, u85_18, u85_21, zk_mk_1, zk_mk_I, zk_mk_R, zk_mk_set, zk_mk_setR, zk_mk_cpy, zk_rv_some, zk_rv_none, Option.toList_some, Option.toList_none, List.cons_append, List.nil_append, reduceIte, eq_self, Nat.reduceLT, Nat.reduceEqDiff, and_true, true_and, reduceCtorEq, zsh_15, s62 (show h < 2147483648 by omega), hall, zq_andn, s62 (show zdf (2 ^ n - 1) h < 2147483648 by omega), zw_abs]
  rw [zv_sum h10 hh hc, zv_sum h10 hr hc]
  rfl
theorem s204 {sc : zk_X} {d : Nat} {I : Nat → Nat → Int32} {tg : Option Nat} {P : Option Value → zk_M → Prop} {n h : Nat} {f : Nat → Int32} (hj : zj_tab I n) (hs : zv_rows I 78 79 f n) (hh : h < 2 ^ n) : zk_R sc (d + 1) 204 0 [some (.ref (60 : Nat)), some (.int (nI h))] [] (zk_mk I tg) P = P (some (.int (zfval f n h))) (zk_mk I tg) := by
  have p10 := zp_10 hj.2.2.1
  have eall : (1 : Int32) <<< (nI n &&& 31) - 1 = nI (2 ^ n - 1) := by rw [zq_all hj.2.2.1]; exact zn_sub (b := 1) (by omega)
  have hr : zdf (2 ^ n - 1) h < 2 ^ n := zdf_lt (by omega)
  have z1 : zk_inb (nI h) 1024 = true := by rw [zn_in (by omega)]; omega
  have z2 : (nI h).toNatClampNeg = h := zn_cl (by omega)
  have z3 : zk_inb (nI (zdf (2 ^ n - 1) h)) 1024 = true := by rw [zn_in (by omega)]; omega
  have z4 : (nI (zdf (2 ^ n - 1) h)).toNatClampNeg = zdf (2 ^ n - 1) h := zn_cl (by omega)
  simp only [u204_0, u204_1, u204_4, u204_5, u204_6, u204_7, u204_10, u204_11, u204_14, u204_15, u204_16, u204_17, u204_18, u204_19, u204_20, u204_23, zk_mk_1, zk_mk_I, zk_mk_R, zk_mk_set, zk_mk_setR, zk_mk_cpy, zk_rv_some, zk_rv_none, Option.toList_some, Option.toList_none, List.cons_append, List.nil_append, reduceIte, eq_self, Nat.reduceLT, Nat.reduceEqDiff, and_true, true_and, reduceCtorEq, zsh_60, zsh_78, zrf_60_31, s161, hj.2.1, eall, zq_andn, z1, z2, z3, z4, (hs h hh).1, (hs _ hr).1, s172]
  rfl
/-- the lots of a seed, and who lies to the left by them -/
def zlot (x : Int64) : Int64 := x * 48271 - x * 48271 / 2147483647 * 2147483647
def zdraw (sd : Nat → Int32) (seed : Int32) : Nat → Int64 × Nat
  | 0 => (seed.toInt64 + 1, 0)
  | c + 1 => (zlot (zdraw sd seed c).1, if sd c = 1 ∨ sd c = 3 ∧ zlot (zdraw sd seed c).1 - zlot (zdraw sd seed c).1 / 2 * 2 = 0 then (zdraw sd seed c).2 ||| 2 ^ c else (zdraw sd seed c).2)
theorem zdraw_lt (sd : Nat → Int32) (seed : Int32) : ∀ n, (zdraw sd seed n).2 < 2 ^ n
  | 0 => by simp [zdraw]
  | n + 1 => by
    have ih := zdraw_lt sd seed n
    have h2 : 2 ^ (n + 1) = 2 * 2 ^ n := by rw [Nat.pow_succ]; omega
    show (if sd n = 1 ∨ sd n = 3 ∧ zlot (zdraw sd seed n).1 - zlot (zdraw sd seed n).1 / 2 * 2 = 0 then (zdraw sd seed n).2 ||| 2 ^ n else (zdraw sd seed n).2) < _
    split
    · exact Nat.or_lt_two_pow (by omega) (by omega)
    · omega
