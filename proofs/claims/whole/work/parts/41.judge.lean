/-! judge: the first wrong row by both -/
def zwrong (f : Nat → Int32) (n : Nat) (v : Nat → Int32) (m : Nat) : Int32 := zfirst (fun j => decide (¬ zsum f (v (2 * j)).toNatClampNeg n = v (2 * j + 1))) 0 m
theorem zg_of {n : Nat} {v : Nat → Int32} {m j : Nat} (h10 : n ≤ 10) (hg : zgood n v m = true) (hj : j < m) : ∃ h, h < 2 ^ n ∧ v (2 * j) = nI h := by
  have p10 := zp_10 h10
  have := zgood_lt hg j hj
  exact zn_of this.1 this.2 (by omega)
theorem s39 {sc : zk_X} {d : Nat} {I : Nat → Nat → Int32} {tg : Option Nat} {P : Option Value → zk_M → Prop} {n k : Nat} {Z : Nat → Nat} {f : Nat → Int32} (h10 : n ≤ 10) (hz : zj_sh I Z) (hk : k < 4) (he : Z k % 2 = 0) (hg : zgood n (I (53 + 2 * k)) (Z k / 2) = true) (hc : ∀ c, c < n → I 16 c = f c) : zk_R sc (d + 1) 39 0 [some (.ref (0 : Nat)), some (.ref (52 + 2 * k)), none] [] (zk_mk I tg) P = P (some (.int (zwrong f n (I (53 + 2 * k)) (Z k / 2)))) (zk_mk I tg) := by
  refine zk_R_det ?_ P
  have p10 := zp_10 h10
  obtain ⟨x1, x2⟩ := zx_s hk tg
  obtain ⟨x3, x4, x5, x6⟩ := zx_s1 hk
  obtain ⟨q1, q2, q3, q4, q5⟩ := hz k hk
  have loop := zl_up (τ := Unit) (fun i _ => zk_R sc (d + 1) 39 2 [some (.ref (0 : Nat)), some (.ref (52 + 2 * k)), some (.int (nI (2 * i)))] [] (zk_mk I tg) (fun r M' => r = some (.int (zwrong f n (I (53 + 2 * k)) (Z k / 2))) ∧ M' = zk_mk I tg))
    (fun i _ => ∀ j, j < i → decide (¬ zsum f (I (53 + 2 * k) (2 * j)).toNatClampNeg n = I (53 + 2 * k) (2 * j + 1)) = false) (Z k / 2) (by
      intro _ hw
      rw [u39_2]
      simp only [u39_0, u39_1, u39_3, u39_4, u39_5, u39_6, u39_9, u39_12, u39_13, u39_16, u39_17, u39_20, u39_21, u39_22, u39_25, u39_26, u39_29, u39_30, u39_31, u39_32, u39_33, u39_36, u39_37, u39_38, u39_39, u39_40, u39_43, u39_46, u39_47, zk_mk_1, zk_mk_I, zk_mk_R, zk_mk_set, zk_mk_setR, zk_mk_cpy, zk_rv_some, zk_rv_none, Option.toList_some, Option.toList_none, List.cons_append, List.nil_append, reduceIte, eq_self, Nat.reduceLT, Nat.reduceEqDiff, and_true, true_and, reduceCtorEq, x2, x3, x4, x5, x6, q2, nI_1]
      rw [if_pos (nI_le (by omega) (by omega))]
      rw [show zwrong f n (I (53 + 2 * k)) (Z k / 2) = -1 from zfirst_no hw] <;> trivial) (by
      intro i _ hi hw ih
      obtain ⟨h, hh, eh⟩ := zg_of h10 hg hi
      have z1 : zk_inb (nI (2 * i)) 40 = true := by rw [zn_in (by omega)]; omega
      have z2 : (nI (2 * i)).toNatClampNeg = 2 * i := zn_cl (by omega)
      have z3 : zk_inb (nI (2 * i + 1)) 40 = true := by rw [zn_in (by omega)]; omega
      have z4 : (nI (2 * i + 1)).toNatClampNeg = 2 * i + 1 := zn_cl (by omega)
      rw [u39_2]
      simp only [u39_0, u39_1, u39_3, u39_4, u39_5, u39_6, u39_9, u39_12, u39_13, u39_16, u39_17, u39_20, u39_21, u39_22, u39_25, u39_26, u39_29, u39_30, u39_31, u39_32, u39_33, u39_36, u39_37, u39_38, u39_39, u39_40, u39_43, u39_46, u39_47, zk_mk_1, zk_mk_I, zk_mk_R, zk_mk_set, zk_mk_setR, zk_mk_cpy, zk_rv_some, zk_rv_none, Option.toList_some, Option.toList_none, List.cons_append, List.nil_append, reduceIte, eq_self, Nat.reduceLT, Nat.reduceEqDiff, and_true, true_and, reduceCtorEq, zsh_0, zsh_15, zrf_0_7, x2, x3, x4, x5, x6, q2, nI_1, z1, z2, z3, z4, eh, s62 (show h < 2147483648 by omega), zv_sum h10 hh hc, zq_2, not_false_eq_true, z_div2 (2 * i) (by omega), zn_2k]
      rw [if_neg (nI_ge (by omega) (by omega))]
      have ec : (I (53 + 2 * k) (2 * i)).toNatClampNeg = h := by rw [eh]; exact zn_cl (by omega)
      by_cases hq : zsum f h n = I (53 + 2 * k) (2 * i + 1)
      · rw [if_pos hq]
        exact ih () (fun j hj => by
          by_cases e : j = i
          · subst e; rw [ec]; exact decide_eq_false (fun q => q hq)
          · exact hw j (by omega))
      · rw [if_neg hq]
        rw [show zwrong f n (I (53 + 2 * k)) (Z k / 2) = nI i from zfirst_at hi hw (by rw [ec]; exact decide_eq_true hq), show 2 * i / 2 = i by omega] <;> trivial)
  simp only [u39_0, u39_1, u39_3, u39_4, u39_5, u39_6, u39_9, u39_12, u39_13, u39_16, u39_17, u39_20, u39_21, u39_22, u39_25, u39_26, u39_29, u39_30, u39_31, u39_32, u39_33, u39_36, u39_37, u39_38, u39_39, u39_40, u39_43, u39_46, u39_47, zk_mk_1, zk_mk_I, zk_mk_R, zk_mk_set, zk_mk_setR, zk_mk_cpy, zk_rv_some, zk_rv_none, Option.toList_some, Option.toList_none, List.cons_append, List.nil_append, reduceIte, eq_self, Nat.reduceLT, Nat.reduceEqDiff, and_true, true_and, reduceCtorEq]
  exact loop 0 () (Nat.zero_le _) (fun j hj => absurd hj (Nat.not_lt_zero _))
def zoff (f : Nat → Int32) (n : Nat) (v : Nat → Int32) (j : Nat) : Int64 := (v (2 * j + 1)).toInt64 - (zsum f (v (2 * j)).toNatClampNeg n).toInt64
theorem zs64 (a b : Int32) : (a.toInt64 - b.toInt64).toInt = a.toInt - b.toInt := by
  have h1 := Int32.le_toInt a
  have h2 := Int32.toInt_lt a
  have h3 := Int32.le_toInt b
  have h4 := Int32.toInt_lt b
  rw [Int64.toInt_sub, Int32.toInt_toInt64, Int32.toInt_toInt64]
  apply Int.bmod_eq_of_le <;> omega
theorem zoff_0 (a b : Int32) : (a.toInt64 - b.toInt64 = 0) = (b = a) := by
  apply propext
  constructor
  · intro h
    have := congrArg Int64.toInt h
    rw [zs64] at this
    apply Int32.toInt.inj
    have e0 : (0 : Int64).toInt = 0 := by decide
    omega
  · rintro rfl
    apply Int64.toInt.inj
    rw [zs64]
    have e0 : (0 : Int64).toInt = 0 := by decide
    omega
theorem zoff_no (f : Nat → Int32) (n : Nat) (v : Nat → Int32) (j : Nat) : ¬ zoff f n v j = -4611686018427387904 := by
  intro h
  have := congrArg Int64.toInt h
  unfold zoff at this
  rw [zs64] at this
  have e0 : (-4611686018427387904 : Int64).toInt = -4611686018427387904 := by decide
  have h1 := Int32.le_toInt (v (2 * j + 1))
  have h2 := Int32.toInt_lt (v (2 * j + 1))
  have h3 := Int32.le_toInt (zsum f (v (2 * j)).toNatClampNeg n)
  have h4 := Int32.toInt_lt (zsum f (v (2 * j)).toNatClampNeg n)
  omega
theorem s194 {sc : zk_X} {d : Nat} {I : Nat → Nat → Int32} {tg : Option Nat} {P : Option Value → zk_M → Prop} {n k j : Nat} {Z : Nat → Nat} {f : Nat → Int32} (h10 : n ≤ 10) (hz : zj_sh I Z) (hk : k < 4) (hj : j < Z k / 2) (hg : zgood n (I (53 + 2 * k)) (Z k / 2) = true) (hs : zv_rows I 78 79 f n) : zk_R sc d 194 0 [some (.ref (60 : Nat)), some (.int (nI k)), some (.int (nI j))] [] (zk_mk I tg) P = P (some (.long (zoff f n (I (53 + 2 * k)) j))) (zk_mk I tg) := by
  have p10 := zp_10 h10
  obtain ⟨q1, q2, q3, q4, q5⟩ := hz k hk
  obtain ⟨h, hh, eh⟩ := zg_of h10 hg hj
  have ei : (40 : Int32) * nI k + 2 * nI j = nI (40 * k + 2 * j) := by rw [show (40 : Int32) = nI 40 from rfl, show (2 : Int32) = nI 2 from rfl, zn_mul, zn_mul, zn_add]
  have z1 : zk_inb (nI (40 * k + 2 * j)) 160 = true := by rw [zn_in (by omega)]; omega
  have z2 : (nI (40 * k + 2 * j)).toNatClampNeg = 40 * k + 2 * j := zn_cl (by omega)
  have z3 : zk_inb (nI (40 * k + 2 * j + 1)) 160 = true := by rw [zn_in (by omega)]; omega
  have z4 : (nI (40 * k + 2 * j + 1)).toNatClampNeg = 40 * k + (2 * j + 1) := zn_cl (by omega)
  have z5 : zk_inb (nI h) 1024 = true := by rw [zn_in (by omega)]; omega
  have z6 : (nI h).toNatClampNeg = h := zn_cl (by omega)
  unfold zoff
  simp only [u194_0, u194_1, u194_4, u194_6, u194_7, u194_8, u194_9, u194_10, u194_11, u194_12, u194_13, u194_14, u194_15, u194_16, u194_17, u194_20, u194_21, u194_24, u194_26, u194_27, u194_28, u194_29, u194_30, u194_31, u194_32, u194_33, u194_34, u194_35, u194_36, zk_mk_1, zk_mk_I, zk_mk_R, zk_mk_set, zk_mk_setR, zk_mk_cpy, zk_rv_some, zk_rv_none, Option.toList_some, Option.toList_none, List.cons_append, List.nil_append, reduceIte, eq_self, Nat.reduceLT, Nat.reduceEqDiff, and_true, true_and, reduceCtorEq, zsh_60, zsh_71, zsh_78, zrf_60_17, zrf_60_31, ei, nI_1, z1, z2, z3, z4, q5 (2 * j) (by omega), q5 (2 * j + 1) (by omega), eh, z5, z6, (hs h hh).1]
theorem s193 {sc : zk_X} {d : Nat} {I : Nat → Nat → Int32} {tg : Option Nat} {P : Option Value → zk_M → Prop} {n t k : Nat} {T e : Nat → Nat} {Z : Nat → Nat} (hj : zj_tab I n) (ht : t < 6) (hr : I 60 10 = nI t) (hx : zj_text I t T e) (hz : zj_sh I Z) (hk : k < 4) (hg : zgood n (I (53 + 2 * k)) (Z k / 2) = true)
    (K : ∀ I' : Nat → Nat → Int32, zF I I' → zv_rows I' 78 79 (zv_now I n T e) n → P (some (.int (zwrong (zv_now I n T e) n (I (53 + 2 * k)) (Z k / 2)))) (zk_mk I' tg)) : zk_R sc (d + 6) 193 0 [some (.ref (60 : Nat)), some (.int (nI k)), none] [] (zk_mk I tg) P := by
  have h10 := hj.2.2.1
  have y1 : zk_inb (nI k) 4 = true := by rw [zn_in (by omega)]; omega
  have y2 : (nI k).toNatClampNeg = k := zn_cl (by omega)
  obtain ⟨q1, q2, q3, q4, q5⟩ := hz k hk
  simp only [u193_0, u193_1, u193_4, u193_5, u193_7, u193_8, u193_11, u193_12, u193_13, u193_14, u193_15, u193_18, u193_19, u193_20, u193_21, u193_24, u193_25, u193_26, u193_29, u193_30, u193_31, u193_34, u193_37, u193_38, zk_mk_1, zk_mk_I, zk_mk_R, zk_mk_set, zk_mk_setR, zk_mk_cpy, zk_rv_some, zk_rv_none, Option.toList_some, Option.toList_none, List.cons_append, List.nil_append, reduceIte, eq_self, Nat.reduceLT, Nat.reduceEqDiff, and_true, true_and, reduceCtorEq, zsh_60]
  refine s162 hj ht hr hx (fun I' h1 h2 h3 => ?_)
  have K2 := K I' h1 h3
  obtain ⟨k1, k2⟩ := zs_k hk I I' h1
  have e70 : I' 70 = I 70 := h1 70 rfl
  have hz' := h1.sh hz
  have hg' : zgood n (I' (53 + 2 * k)) (Z k / 2) = true := by rw [k2]; exact hg
  generalize zv_now I n T e = f at *
  have loop := zl_up (τ := Unit) (fun i _ => zk_R sc (d + 6) 193 6 [some (.ref (60 : Nat)), some (.int (nI k)), some (.int (nI i))] [] (zk_mk I' tg) P)
    (fun i _ => ∀ j, j < i → decide (¬ zsum f (I (53 + 2 * k) (2 * j)).toNatClampNeg n = I (53 + 2 * k) (2 * j + 1)) = false) (Z k / 2) (by
      intro _ hw
      rw [u193_6]
      simp only [u193_0, u193_1, u193_4, u193_5, u193_7, u193_8, u193_11, u193_12, u193_13, u193_14, u193_15, u193_18, u193_19, u193_20, u193_21, u193_24, u193_25, u193_26, u193_29, u193_30, u193_31, u193_34, u193_37, u193_38, zk_mk_1, zk_mk_I, zk_mk_R, zk_mk_set, zk_mk_setR, zk_mk_cpy, zk_rv_some, zk_rv_none, Option.toList_some, Option.toList_none, List.cons_append, List.nil_append, reduceIte, eq_self, Nat.reduceLT, Nat.reduceEqDiff, and_true, true_and, reduceCtorEq, zsh_60, zsh_70, zrf_60_16, y1, y2, e70, q3, zq_2, not_false_eq_true, z_div2 _ (show Z k < 41 by omega)]
      rw [if_pos (nI_le (by omega) (by omega))]
      rw [show zwrong f n (I (53 + 2 * k)) (Z k / 2) = -1 from zfirst_no hw] at K2
      exact K2) (by
      intro i _ hi hw ih
      rw [u193_6]
      simp only [u193_0, u193_1, u193_4, u193_5, u193_7, u193_8, u193_11, u193_12, u193_13, u193_14, u193_15, u193_18, u193_19, u193_20, u193_21, u193_24, u193_25, u193_26, u193_29, u193_30, u193_31, u193_34, u193_37, u193_38, zk_mk_1, zk_mk_I, zk_mk_R, zk_mk_set, zk_mk_setR, zk_mk_cpy, zk_rv_some, zk_rv_none, Option.toList_some, Option.toList_none, List.cons_append, List.nil_append, reduceIte, eq_self, Nat.reduceLT, Nat.reduceEqDiff, and_true, true_and, reduceCtorEq, zsh_60, zsh_70, zrf_60_16, y1, y2, e70, q3, zq_2, not_false_eq_true, z_div2 _ (show Z k < 41 by omega), s194 h10 hz' hk hi hg' h3, zcmp0, nI_1]
      rw [if_neg (nI_ge (by omega) (by omega)), k2]
      unfold zoff
      simp only [zoff_0]
      by_cases hq : zsum f (I (53 + 2 * k) (2 * i)).toNatClampNeg n = I (53 + 2 * k) (2 * i + 1)
      · rw [if_pos hq]
        exact ih () (fun j hj => by
          by_cases e : j = i
          · subst e; exact decide_eq_false (fun q => q hq)
          · exact hw j (by omega))
      · rw [if_neg hq]
        rw [show zwrong f n (I (53 + 2 * k)) (Z k / 2) = nI i from zfirst_at hi hw (decide_eq_true hq)] at K2
        exact K2)
  simp only [u193_0, u193_1, u193_4, u193_5, u193_7, u193_8, u193_11, u193_12, u193_13, u193_14, u193_15, u193_18, u193_19, u193_20, u193_21, u193_24, u193_25, u193_26, u193_29, u193_30, u193_31, u193_34, u193_37, u193_38, zk_mk_1, zk_mk_I, zk_mk_R, zk_mk_set, zk_mk_setR, zk_mk_cpy, zk_rv_some, zk_rv_none, Option.toList_some, Option.toList_none, List.cons_append, List.nil_append, reduceIte, eq_self, Nat.reduceLT, Nat.reduceEqDiff, and_true, true_and, reduceCtorEq]
  exact loop 0 () (Nat.zero_le _) (fun j hj => absurd hj (Nat.not_lt_zero _))
def zA_judge (I : Nat → Nat → Int32) (n : Nat) (T e : Nat → Nat) (Z : Nat → Nat) (s : Int32) : Int32 := if 0 ≤ s ∧ s < 4 then (if zR I n s.toNatClampNeg (Z s.toNatClampNeg) = 0 then zwrong (zv_now I n T e) n (I (53 + 2 * s.toNatClampNeg)) (Z s.toNatClampNeg / 2) else zR I n s.toNatClampNeg (Z s.toNatClampNeg)) else -2
theorem zR_0 {I : Nat → Nat → Int32} {n k z : Nat} (h : zR I n k z = 0) : z % 2 = 0 ∧ zgood n (I (53 + 2 * k)) (z / 2) = true := by
  unfold zR at h
  by_cases hm : I (52 + 2 * k) 1 = -1
  · rw [if_pos hm] at h; exact absurd h (by decide)
  · rw [if_neg hm] at h
    by_cases hq : z % 2 = 0 ∧ zgood n (I (53 + 2 * k)) (z / 2) = true
    · exact hq
    · rw [if_neg hq] at h; exact absurd h (by decide)
theorem s36 {sc : zk_X} {d : Nat} {I : Nat → Nat → Int32} {tg : Option Nat} {P : Option Value → zk_M → Prop} {n t : Nat} {T e : Nat → Nat} {Z : Nat → Nat} {s : Int32} (hq : zj_q I n t T e) (hz : zj_sh I Z)
    (K : ∀ I' : Nat → Nat → Int32, zF I I' → P (some (.int (zA_judge I n T e Z s))) (zk_mk I' tg)) : zk_R sc (d + 5) 36 0 [some (.ref (0 : Nat)), some (.int s), none] [] (zk_mk I tg) P := by
  obtain ⟨hj, hl, hr, ht, hx⟩ := hq
  obtain ⟨w1, w2, w3, w4⟩ := zx_83 ht
  have h10 := hj.2.2.1
  unfold zA_judge at K
  by_cases hs : 0 ≤ s ∧ s < 4
  · rw [if_pos hs] at K
    obtain ⟨k, hk, rfl⟩ := zn_of (m := 4) hs.1 hs.2 (by decide)
    have y1 : zk_inb (nI k) 4 = true := by rw [zn_in (by omega)]; omega
    have y2 : (nI k).toNatClampNeg = k := zn_cl (by omega)
    obtain ⟨x1, x2⟩ := zx_s hk tg
    obtain ⟨x3, x4, x5, x6⟩ := zx_s1 hk
    simp only [y2] at K
    simp only [u36_0, u36_1, u36_2, u36_5, u36_6, u36_7, u36_10, u36_11, u36_12, u36_13, u36_14, u36_17, u36_20, u36_21, u36_22, u36_25, u36_26, u36_27, u36_30, zk_mk_1, zk_mk_I, zk_mk_R, zk_mk_set, zk_mk_setR, zk_mk_cpy, zk_rv_some, zk_rv_none, Option.toList_some, Option.toList_none, List.cons_append, List.nil_append, reduceIte, eq_self, Nat.reduceLT, Nat.reduceEqDiff, and_true, true_and, reduceCtorEq, zsh_0, s37 hj.1 h10 hz hk]
    by_cases hr0 : zR I n k (Z k) = 0
    · rw [if_pos hr0] at K ⊢
      obtain ⟨g1, g2⟩ := zR_0 hr0
      simp only [u36_0, u36_1, u36_2, u36_5, u36_6, u36_7, u36_10, u36_11, u36_12, u36_13, u36_14, u36_17, u36_20, u36_21, u36_22, u36_25, u36_26, u36_27, u36_30, zk_mk_1, zk_mk_I, zk_mk_R, zk_mk_set, zk_mk_setR, zk_mk_cpy, zk_rv_some, zk_rv_none, Option.toList_some, Option.toList_none, List.cons_append, List.nil_append, reduceIte, eq_self, Nat.reduceLT, Nat.reduceEqDiff, and_true, true_and, reduceCtorEq, zsh_0, s7 ht hl, zx_28 ht, w1]
      refine s17 hj ht hx (fun I' h1 h2 h3 => ?_)
      obtain ⟨k1, k2⟩ := zs_k hk I I' h1
      simp only [u36_0, u36_1, u36_2, u36_5, u36_6, u36_7, u36_10, u36_11, u36_12, u36_13, u36_14, u36_17, u36_20, u36_21, u36_22, u36_25, u36_26, u36_27, u36_30, zk_mk_1, zk_mk_I, zk_mk_R, zk_mk_set, zk_mk_setR, zk_mk_cpy, zk_rv_some, zk_rv_none, Option.toList_some, Option.toList_none, List.cons_append, List.nil_append, reduceIte, eq_self, Nat.reduceLT, Nat.reduceEqDiff, and_true, true_and, reduceCtorEq, zsh_0, zsh_26, zrf_0_8, y1, y2, x1, x3, x5, s39 h10 (h1.sh hz) hk g1 (by rw [k2]; exact g2) h2]
      rw [k2]
      exact K I' h1
    · rw [if_neg hr0] at K ⊢
      exact K I (zF_refl I)
  · rw [if_neg hs] at K
    simp only [u36_0, u36_1, u36_2, u36_5, u36_6, u36_7, u36_10, u36_11, u36_12, u36_13, u36_14, u36_17, u36_20, u36_21, u36_22, u36_25, u36_26, u36_27, u36_30, zk_mk_1, zk_mk_I, zk_mk_R, zk_mk_set, zk_mk_setR, zk_mk_cpy, zk_rv_some, zk_rv_none, Option.toList_some, Option.toList_none, List.cons_append, List.nil_append, reduceIte, eq_self, Nat.reduceLT, Nat.reduceEqDiff, and_true, true_and, reduceCtorEq, zsh_0, s37n hs, show ((-2 : Int32) = 0) = False from by decide]
    exact K I (zF_refl I)
theorem s190 {sc : zk_X} {d : Nat} {I : Nat → Nat → Int32} {tg : Option Nat} {P : Option Value → zk_M → Prop} {n t : Nat} {T e : Nat → Nat} {Z : Nat → Nat} {s : Int32} (hq : zj_q I n t T e) (hz : zj_sh I Z)
    (K : ∀ I' : Nat → Nat → Int32, zF I I' → P (some (.int (zA_judge I n T e Z s))) (zk_mk I' tg)) : zk_R sc (d + 7) 190 0 [some (.ref (60 : Nat)), some (.int s), none] [] (zk_mk I tg) P := by
  obtain ⟨hj, hl, hr, ht, hx⟩ := hq
  have h10 := hj.2.2.1
  unfold zA_judge at K
  by_cases hs : 0 ≤ s ∧ s < 4
  · rw [if_pos hs] at K
    obtain ⟨k, hk, rfl⟩ := zn_of (m := 4) hs.1 hs.2 (by decide)
    have y2 : (nI k).toNatClampNeg = k := zn_cl (by omega)
    simp only [y2] at K
    simp only [u190_0, u190_1, u190_2, u190_5, u190_6, u190_7, u190_10, u190_11, u190_12, u190_15, u190_18, u190_19, zk_mk_1, zk_mk_I, zk_mk_R, zk_mk_set, zk_mk_setR, zk_mk_cpy, zk_rv_some, zk_rv_none, Option.toList_some, Option.toList_none, List.cons_append, List.nil_append, reduceIte, eq_self, Nat.reduceLT, Nat.reduceEqDiff, and_true, true_and, reduceCtorEq, zsh_60, s191 hj.2.1 h10 hz hk]
    by_cases hr0 : zR I n k (Z k) = 0
    · rw [if_pos hr0] at K ⊢
      obtain ⟨g1, g2⟩ := zR_0 hr0
      refine s193 hj ht hr hx hz hk g2 (fun I' h1 h3 => ?_)
      simp only [u190_0, u190_1, u190_2, u190_5, u190_6, u190_7, u190_10, u190_11, u190_12, u190_15, u190_18, u190_19, zk_mk_1, zk_mk_I, zk_mk_R, zk_mk_set, zk_mk_setR, zk_mk_cpy, zk_rv_some, zk_rv_none, Option.toList_some, Option.toList_none, List.cons_append, List.nil_append, reduceIte, eq_self, Nat.reduceLT, Nat.reduceEqDiff, and_true, true_and, reduceCtorEq]
      exact K I' h1
    · rw [if_neg hr0] at K ⊢
      exact K I (zF_refl I)
  · rw [if_neg hs] at K
    simp only [u190_0, u190_1, u190_2, u190_5, u190_6, u190_7, u190_10, u190_11, u190_12, u190_15, u190_18, u190_19, zk_mk_1, zk_mk_I, zk_mk_R, zk_mk_set, zk_mk_setR, zk_mk_cpy, zk_rv_some, zk_rv_none, Option.toList_some, Option.toList_none, List.cons_append, List.nil_append, reduceIte, eq_self, Nat.reduceLT, Nat.reduceEqDiff, and_true, true_and, reduceCtorEq, zsh_60, s191n hs, show ((-2 : Int32) = 0) = False from by decide]
    exact K I (zF_refl I)
