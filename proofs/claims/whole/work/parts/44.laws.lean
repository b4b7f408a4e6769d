/-! blame, more by both -/
theorem zF.nowf {I I' : Nat → Nat → Int32} {n : Nat} {T e : Nat → Nat} (h : zF I I') : zv_now I' n T e = zv_now I n T e := funext (fun _ => h.now)
def zA_blame (I : Nat → Nat → Int32) (n : Nat) (T e : Nat → Nat) (Z : Nat → Nat) (s : Int32) : Int32 := if 0 ≤ s ∧ s < 4 then (if zR I n s.toNatClampNeg (Z s.toNatClampNeg) = 0 then nI (zset (fun c => decide (¬ zmore (zv_now I n T e) n (I (53 + 2 * s.toNatClampNeg)) (Z s.toNatClampNeg / 2) c = 0)) n) else zR I n s.toNatClampNeg (Z s.toNatClampNeg)) else -2
theorem s40 {sc : zk_X} {d : Nat} {I : Nat → Nat → Int32} {tg : Option Nat} {P : Option Value → zk_M → Prop} {n t : Nat} {T e : Nat → Nat} {Z : Nat → Nat} {s : Int32} (hq : zj_q I n t T e) (hz : zj_sh I Z)
    (K : ∀ I' : Nat → Nat → Int32, zF I I' → P (some (.int (zA_blame I n T e Z s))) (zk_mk I' tg)) : zk_R sc (d + 5) 40 0 [some (.ref (0 : Nat)), some (.int s), none, none, none] [] (zk_mk I tg) P := by
  obtain ⟨hj, hl, hr, ht, hx⟩ := hq
  obtain ⟨w1, w2, w3, w4⟩ := zx_83 ht
  have h10 := hj.2.2.1
  unfold zA_blame at K
  by_cases hs : 0 ≤ s ∧ s < 4
  · rw [if_pos hs] at K
    obtain ⟨k, hk, rfl⟩ := zn_of (m := 4) hs.1 hs.2 (by decide)
    have y1 : zk_inb (nI k) 4 = true := by rw [zn_in (by omega)]; omega
    have y2 : (nI k).toNatClampNeg = k := zn_cl (by omega)
    obtain ⟨x1, x2⟩ := zx_s hk tg
    obtain ⟨x3, x4, x5, x6⟩ := zx_s1 hk
    simp only [y2] at K
    simp only [u40_0, u40_1, u40_2, u40_5, u40_6, u40_7, u40_10, u40_11, u40_12, u40_13, u40_14, u40_17, u40_20, u40_21, u40_22, u40_23, u40_27, u40_28, u40_31, u40_34, u40_37, u40_38, u40_39, u40_42, u40_43, u40_44, u40_46, u40_49, u40_52, u40_53, u40_56, u40_57, u40_58, u40_60, u40_61, u40_62, u40_63, u40_66, u40_69, u40_70, zk_mk_1, zk_mk_I, zk_mk_R, zk_mk_set, zk_mk_setR, zk_mk_cpy, zk_rv_some, zk_rv_none, Option.toList_some, Option.toList_none, List.cons_append, List.nil_append, reduceIte, eq_self, Nat.reduceLT, Nat.reduceEqDiff, and_true, true_and, reduceCtorEq, zsh_0, s37 hj.1 h10 hz hk]
    by_cases hr0 : zR I n k (Z k) = 0
    · rw [if_pos hr0] at K ⊢
      obtain ⟨g1, g2⟩ := zR_0 hr0
      simp only [u40_0, u40_1, u40_2, u40_5, u40_6, u40_7, u40_10, u40_11, u40_12, u40_13, u40_14, u40_17, u40_20, u40_21, u40_22, u40_23, u40_27, u40_28, u40_31, u40_34, u40_37, u40_38, u40_39, u40_42, u40_43, u40_44, u40_46, u40_49, u40_52, u40_53, u40_56, u40_57, u40_58, u40_60, u40_61, u40_62, u40_63, u40_66, u40_69, u40_70, zk_mk_1, zk_mk_I, zk_mk_R, zk_mk_set, zk_mk_setR, zk_mk_cpy, zk_rv_some, zk_rv_none, Option.toList_some, Option.toList_none, List.cons_append, List.nil_append, reduceIte, eq_self, Nat.reduceLT, Nat.reduceEqDiff, and_true, true_and, reduceCtorEq, zsh_0, s7 ht hl, zx_28 ht, w1, hr0]
      refine s17 hj ht hx (fun I' h1 h2 h3 => ?_)
      obtain ⟨k1, k2⟩ := zs_k hk I I' h1
      have K2 := K I' h1
      have hn' : I' 1 4 = nI n := (h1.tab hj).1
      have hz' := h1.sh hz
      have hg' : zgood n (I' (53 + 2 * k)) (Z k / 2) = true := by rw [k2]; exact g2
      generalize zv_now I n T e = f at *
      have loop := zl_fn (fun i => zk_R sc (d + 5) 40 25 [some (.ref (0 : Nat)), some (.int (nI k)), some (.int 0), some (.int (nI (zset (fun c => decide (¬ zmore f n (I (53 + 2 * k)) (Z k / 2) c = 0)) i))), some (.int (nI i))] [] (zk_mk I' tg) P) n (by
          rw [u40_25]
          simp only [u40_0, u40_1, u40_2, u40_5, u40_6, u40_7, u40_10, u40_11, u40_12, u40_13, u40_14, u40_17, u40_20, u40_21, u40_22, u40_23, u40_27, u40_28, u40_31, u40_34, u40_37, u40_38, u40_39, u40_42, u40_43, u40_44, u40_46, u40_49, u40_52, u40_53, u40_56, u40_57, u40_58, u40_60, u40_61, u40_62, u40_63, u40_66, u40_69, u40_70, zk_mk_1, zk_mk_I, zk_mk_R, zk_mk_set, zk_mk_setR, zk_mk_cpy, zk_rv_some, zk_rv_none, Option.toList_some, Option.toList_none, List.cons_append, List.nil_append, reduceIte, eq_self, Nat.reduceLT, Nat.reduceEqDiff, and_true, true_and, reduceCtorEq, zsh_0, zsh_1, zrf_0_0, hn']
          rw [if_pos (nI_le (Nat.le_refl _) (by omega))]
          exact K2) (by
          intro i hi ih
          rw [u40_25]
          simp only [u40_0, u40_1, u40_2, u40_5, u40_6, u40_7, u40_10, u40_11, u40_12, u40_13, u40_14, u40_17, u40_20, u40_21, u40_22, u40_23, u40_27, u40_28, u40_31, u40_34, u40_37, u40_38, u40_39, u40_42, u40_43, u40_44, u40_46, u40_49, u40_52, u40_53, u40_56, u40_57, u40_58, u40_60, u40_61, u40_62, u40_63, u40_66, u40_69, u40_70, zk_mk_1, zk_mk_I, zk_mk_R, zk_mk_set, zk_mk_setR, zk_mk_cpy, zk_rv_some, zk_rv_none, Option.toList_some, Option.toList_none, List.cons_append, List.nil_append, reduceIte, eq_self, Nat.reduceLT, Nat.reduceEqDiff, and_true, true_and, reduceCtorEq, zsh_0, zsh_1, zsh_26, zrf_0_0, zrf_0_8, hn', y1, y2, x1, x3, x5, s41 h10 hz' hk (show i < 32 by omega) g1 hg' h2, zcmp0, zno_no, nI_1]
          rw [if_neg (nI_ge hi (by omega)), k2, zq_pow (by omega), zq_or]
          rw [zset] at ih
          by_cases hm : zmore f n (I (53 + 2 * k)) (Z k / 2) i = 0
          · rw [if_pos hm]
            rw [decide_eq_false (fun q => q hm), if_neg (by decide)] at ih
            exact ih
          · rw [if_neg hm]
            rw [decide_eq_true hm, if_pos rfl] at ih
            exact ih)
      simp only [u40_0, u40_1, u40_2, u40_5, u40_6, u40_7, u40_10, u40_11, u40_12, u40_13, u40_14, u40_17, u40_20, u40_21, u40_22, u40_23, u40_27, u40_28, u40_31, u40_34, u40_37, u40_38, u40_39, u40_42, u40_43, u40_44, u40_46, u40_49, u40_52, u40_53, u40_56, u40_57, u40_58, u40_60, u40_61, u40_62, u40_63, u40_66, u40_69, u40_70, zk_mk_1, zk_mk_I, zk_mk_R, zk_mk_set, zk_mk_setR, zk_mk_cpy, zk_rv_some, zk_rv_none, Option.toList_some, Option.toList_none, List.cons_append, List.nil_append, reduceIte, eq_self, Nat.reduceLT, Nat.reduceEqDiff, and_true, true_and, reduceCtorEq]
      exact loop 0 (Nat.zero_le _)
    · rw [if_neg hr0] at K ⊢
      exact K I (zF_refl I)
  · rw [if_neg hs] at K
    simp only [u40_0, u40_1, u40_2, u40_5, u40_6, u40_7, u40_10, u40_11, u40_12, u40_13, u40_14, u40_17, u40_20, u40_21, u40_22, u40_23, u40_27, u40_28, u40_31, u40_34, u40_37, u40_38, u40_39, u40_42, u40_43, u40_44, u40_46, u40_49, u40_52, u40_53, u40_56, u40_57, u40_58, u40_60, u40_61, u40_62, u40_63, u40_66, u40_69, u40_70, zk_mk_1, zk_mk_I, zk_mk_R, zk_mk_set, zk_mk_setR, zk_mk_cpy, zk_rv_some, zk_rv_none, Option.toList_some, Option.toList_none, List.cons_append, List.nil_append, reduceIte, eq_self, Nat.reduceLT, Nat.reduceEqDiff, and_true, true_and, reduceCtorEq, zsh_0, s37n hs, show ((-2 : Int32) = 0) = False from by decide]
    exact K I (zF_refl I)
theorem s195 {sc : zk_X} {d : Nat} {I : Nat → Nat → Int32} {tg : Option Nat} {P : Option Value → zk_M → Prop} {n t : Nat} {T e : Nat → Nat} {Z : Nat → Nat} {s : Int32} (hq : zj_q I n t T e) (hz : zj_sh I Z)
    (K : ∀ I' : Nat → Nat → Int32, zF I I' → P (some (.int (zA_blame I n T e Z s))) (zk_mk I' tg)) : zk_R sc (d + 8) 195 0 [some (.ref (60 : Nat)), some (.int s), none, none, none] [] (zk_mk I tg) P := by
  obtain ⟨hj, hl, hr, ht, hx⟩ := hq
  have h10 := hj.2.2.1
  unfold zA_blame at K
  by_cases hs : 0 ≤ s ∧ s < 4
  · rw [if_pos hs] at K
    obtain ⟨k, hk, rfl⟩ := zn_of (m := 4) hs.1 hs.2 (by decide)
    have y2 : (nI k).toNatClampNeg = k := zn_cl (by omega)
    simp only [y2] at K
    simp only [u195_0, u195_1, u195_2, u195_5, u195_6, u195_7, u195_10, u195_11, u195_12, u195_13, u195_14, u195_15, u195_19, u195_20, u195_23, u195_26, u195_27, u195_28, u195_29, u195_31, u195_34, u195_35, u195_36, u195_39, u195_40, u195_42, u195_43, u195_46, u195_47, u195_48, u195_49, u195_52, u195_55, u195_56, zk_mk_1, zk_mk_I, zk_mk_R, zk_mk_set, zk_mk_setR, zk_mk_cpy, zk_rv_some, zk_rv_none, Option.toList_some, Option.toList_none, List.cons_append, List.nil_append, reduceIte, eq_self, Nat.reduceLT, Nat.reduceEqDiff, and_true, true_and, reduceCtorEq, zsh_60, s191 hj.2.1 h10 hz hk]
    by_cases hr0 : zR I n k (Z k) = 0
    · rw [if_pos hr0] at K ⊢
      obtain ⟨g1, g2⟩ := zR_0 hr0
      have loop := zl_up (τ := Nat → Nat → Int32) (fun i I' => zk_R sc (d + 8) 195 17 [some (.ref (60 : Nat)), some (.int (nI k)), some (.int 0), some (.int (nI (zset (fun c => decide (¬ zmore (zv_now I n T e) n (I (53 + 2 * k)) (Z k / 2) c = 0)) i))), some (.int (nI i))] [] (zk_mk I' tg) P)
        (fun i I' => zF I I') n (by
          intro I' h1
          have hn' : I' 60 0 = nI n := (h1.tab hj).2.1
          rw [u195_17]
          simp only [u195_0, u195_1, u195_2, u195_5, u195_6, u195_7, u195_10, u195_11, u195_12, u195_13, u195_14, u195_15, u195_19, u195_20, u195_23, u195_26, u195_27, u195_28, u195_29, u195_31, u195_34, u195_35, u195_36, u195_39, u195_40, u195_42, u195_43, u195_46, u195_47, u195_48, u195_49, u195_52, u195_55, u195_56, zk_mk_1, zk_mk_I, zk_mk_R, zk_mk_set, zk_mk_setR, zk_mk_cpy, zk_rv_some, zk_rv_none, Option.toList_some, Option.toList_none, List.cons_append, List.nil_append, reduceIte, eq_self, Nat.reduceLT, Nat.reduceEqDiff, and_true, true_and, reduceCtorEq, zsh_60, hn']
          rw [if_pos (nI_le (Nat.le_refl _) (by omega))]
          exact K I' h1) (by
          intro i I' hi h1 ih
          have hn' : I' 60 0 = nI n := (h1.tab hj).2.1
          have hr' : I' 60 10 = nI t := by rw [h1 60 rfl]; exact hr
          obtain ⟨k1, k2⟩ := zs_k hk I I' h1
          rw [u195_17]
          simp only [u195_0, u195_1, u195_2, u195_5, u195_6, u195_7, u195_10, u195_11, u195_12, u195_13, u195_14, u195_15, u195_19, u195_20, u195_23, u195_26, u195_27, u195_28, u195_29, u195_31, u195_34, u195_35, u195_36, u195_39, u195_40, u195_42, u195_43, u195_46, u195_47, u195_48, u195_49, u195_52, u195_55, u195_56, zk_mk_1, zk_mk_I, zk_mk_R, zk_mk_set, zk_mk_setR, zk_mk_cpy, zk_rv_some, zk_rv_none, Option.toList_some, Option.toList_none, List.cons_append, List.nil_append, reduceIte, eq_self, Nat.reduceLT, Nat.reduceEqDiff, and_true, true_and, reduceCtorEq, zsh_60, hn']
          rw [if_neg (nI_ge hi (by omega))]
          refine s196 (h1.tab hj) ht hr' (h1.text ht hx) (h1.sh hz) hk (by omega) (by rw [k2]; exact g2) (fun I2 h2 => ?_)
          rw [h1.nowf, k2]
          simp only [u195_0, u195_1, u195_2, u195_5, u195_6, u195_7, u195_10, u195_11, u195_12, u195_13, u195_14, u195_15, u195_19, u195_20, u195_23, u195_26, u195_27, u195_28, u195_29, u195_31, u195_34, u195_35, u195_36, u195_39, u195_40, u195_42, u195_43, u195_46, u195_47, u195_48, u195_49, u195_52, u195_55, u195_56, zk_mk_1, zk_mk_I, zk_mk_R, zk_mk_set, zk_mk_setR, zk_mk_cpy, zk_rv_some, zk_rv_none, Option.toList_some, Option.toList_none, List.cons_append, List.nil_append, reduceIte, eq_self, Nat.reduceLT, Nat.reduceEqDiff, and_true, true_and, reduceCtorEq, zcmp0, nI_1]
          have ih2 := ih I2 (h1.trans h2)
          rw [zset] at ih2
          by_cases hm : zmore (zv_now I n T e) n (I (53 + 2 * k)) (Z k / 2) i = 0
          · rw [if_pos hm]
            rw [decide_eq_false (fun q => q hm), if_neg (by decide)] at ih2
            rw [show (0 : Int32) = nI 0 from rfl, zq_or, Nat.or_zero]
            exact ih2
          · rw [if_neg hm]
            rw [decide_eq_true hm, if_pos rfl] at ih2
            rw [zq_pow (by omega), zq_or]
            exact ih2)
      simp only [u195_0, u195_1, u195_2, u195_5, u195_6, u195_7, u195_10, u195_11, u195_12, u195_13, u195_14, u195_15, u195_19, u195_20, u195_23, u195_26, u195_27, u195_28, u195_29, u195_31, u195_34, u195_35, u195_36, u195_39, u195_40, u195_42, u195_43, u195_46, u195_47, u195_48, u195_49, u195_52, u195_55, u195_56, zk_mk_1, zk_mk_I, zk_mk_R, zk_mk_set, zk_mk_setR, zk_mk_cpy, zk_rv_some, zk_rv_none, Option.toList_some, Option.toList_none, List.cons_append, List.nil_append, reduceIte, eq_self, Nat.reduceLT, Nat.reduceEqDiff, and_true, true_and, reduceCtorEq, hr0]
      exact loop 0 I (Nat.zero_le _) (zF_refl I)
    · rw [if_neg hr0] at K ⊢
      exact K I (zF_refl I)
  · rw [if_neg hs] at K
    simp only [u195_0, u195_1, u195_2, u195_5, u195_6, u195_7, u195_10, u195_11, u195_12, u195_13, u195_14, u195_15, u195_19, u195_20, u195_23, u195_26, u195_27, u195_28, u195_29, u195_31, u195_34, u195_35, u195_36, u195_39, u195_40, u195_42, u195_43, u195_46, u195_47, u195_48, u195_49, u195_52, u195_55, u195_56, zk_mk_1, zk_mk_I, zk_mk_R, zk_mk_set, zk_mk_setR, zk_mk_cpy, zk_rv_some, zk_rv_none, Option.toList_some, Option.toList_none, List.cons_append, List.nil_append, reduceIte, eq_self, Nat.reduceLT, Nat.reduceEqDiff, and_true, true_and, reduceCtorEq, zsh_60, s191n hs, show ((-2 : Int32) = 0) = False from by decide]
    exact K I (zF_refl I)
def zA_more (I : Nat → Nat → Int32) (n : Nat) (T e : Nat → Nat) (Z : Nat → Nat) (s c : Int32) : Int64 := if (0 ≤ s ∧ s < 4) ∧ zR I n s.toNatClampNeg (Z s.toNatClampNeg) = 0 ∧ 0 ≤ c ∧ c < nI n then zno (zmore (zv_now I n T e) n (I (53 + 2 * s.toNatClampNeg)) (Z s.toNatClampNeg / 2) c.toNatClampNeg) else -4611686018427387904
theorem s42 {sc : zk_X} {d : Nat} {I : Nat → Nat → Int32} {tg : Option Nat} {P : Option Value → zk_M → Prop} {n t : Nat} {T e : Nat → Nat} {Z : Nat → Nat} {s c : Int32} (hq : zj_q I n t T e) (hz : zj_sh I Z)
    (K : ∀ I' : Nat → Nat → Int32, zF I I' → P (some (.long (zA_more I n T e Z s c))) (zk_mk I' tg)) : zk_R sc (d + 5) 42 0 [some (.ref (0 : Nat)), some (.int s), some (.int c)] [] (zk_mk I tg) P := by
  obtain ⟨hj, hl, hr, ht, hx⟩ := hq
  obtain ⟨w1, w2, w3, w4⟩ := zx_83 ht
  have h10 := hj.2.2.1
  unfold zA_more at K
  by_cases hs : 0 ≤ s ∧ s < 4
  · obtain ⟨k, hk, rfl⟩ := zn_of (m := 4) hs.1 hs.2 (by decide)
    have y1 : zk_inb (nI k) 4 = true := by rw [zn_in (by omega)]; omega
    have y2 : (nI k).toNatClampNeg = k := zn_cl (by omega)
    obtain ⟨x1, x2⟩ := zx_s hk tg
    obtain ⟨x3, x4, x5, x6⟩ := zx_s1 hk
    simp only [y2] at K
    simp only [u42_0, u42_1, u42_2, u42_5, u42_8, u42_9, u42_12, u42_13, u42_16, u42_19, u42_22, u42_23, u42_24, u42_25, u42_28, u42_31, u42_32, u42_33, u42_36, u42_37, u42_38, u42_39, u42_42, zk_mk_1, zk_mk_I, zk_mk_R, zk_mk_set, zk_mk_setR, zk_mk_cpy, zk_rv_some, zk_rv_none, Option.toList_some, Option.toList_none, List.cons_append, List.nil_append, reduceIte, eq_self, Nat.reduceLT, Nat.reduceEqDiff, and_true, true_and, reduceCtorEq, zsh_0, zsh_1, zrf_0_0, s37 hj.1 h10 hz hk, s93, hj.1, zb_z]
    by_cases hr0 : zR I n k (Z k) = 0
    · rw [if_pos hr0]
      by_cases hc : 0 ≤ c ∧ c < nI n
      · rw [if_neg (fun q => q hc)]
        rw [if_pos ⟨hs, hr0, hc⟩] at K
        obtain ⟨c, hc2, rfl⟩ := zn_of hc.1 hc.2 (by omega)
        rw [zn_cl (show c < 2147483648 by omega)] at K
        obtain ⟨g1, g2⟩ := zR_0 hr0
        simp only [u42_0, u42_1, u42_2, u42_5, u42_8, u42_9, u42_12, u42_13, u42_16, u42_19, u42_22, u42_23, u42_24, u42_25, u42_28, u42_31, u42_32, u42_33, u42_36, u42_37, u42_38, u42_39, u42_42, zk_mk_1, zk_mk_I, zk_mk_R, zk_mk_set, zk_mk_setR, zk_mk_cpy, zk_rv_some, zk_rv_none, Option.toList_some, Option.toList_none, List.cons_append, List.nil_append, reduceIte, eq_self, Nat.reduceLT, Nat.reduceEqDiff, and_true, true_and, reduceCtorEq, zsh_0, s7 ht hl, zx_28 ht, w1]
        refine s17 hj ht hx (fun I' h1 h2 h3 => ?_)
        obtain ⟨k1, k2⟩ := zs_k hk I I' h1
        simp only [u42_0, u42_1, u42_2, u42_5, u42_8, u42_9, u42_12, u42_13, u42_16, u42_19, u42_22, u42_23, u42_24, u42_25, u42_28, u42_31, u42_32, u42_33, u42_36, u42_37, u42_38, u42_39, u42_42, zk_mk_1, zk_mk_I, zk_mk_R, zk_mk_set, zk_mk_setR, zk_mk_cpy, zk_rv_some, zk_rv_none, Option.toList_some, Option.toList_none, List.cons_append, List.nil_append, reduceIte, eq_self, Nat.reduceLT, Nat.reduceEqDiff, and_true, true_and, reduceCtorEq, zsh_0, zsh_26, zrf_0_8, y1, y2, x1, x3, x5, s41 h10 (h1.sh hz) hk (show c < 32 by omega) g1 (show zgood n (I' (53 + 2 * k)) (Z k / 2) = true by rw [k2]; exact g2) h2]
        rw [k2]
        exact K I' h1
      · rw [if_pos hc]
        rw [if_neg (fun q => hc q.2.2)] at K
        exact K I (zF_refl I)
    · rw [if_neg hr0]
      rw [if_neg (fun q => hr0 q.2.1)] at K
      exact K I (zF_refl I)
  · rw [if_neg (fun q => hs q.1)] at K
    simp only [u42_0, u42_1, u42_2, u42_5, u42_8, u42_9, u42_12, u42_13, u42_16, u42_19, u42_22, u42_23, u42_24, u42_25, u42_28, u42_31, u42_32, u42_33, u42_36, u42_37, u42_38, u42_39, u42_42, zk_mk_1, zk_mk_I, zk_mk_R, zk_mk_set, zk_mk_setR, zk_mk_cpy, zk_rv_some, zk_rv_none, Option.toList_some, Option.toList_none, List.cons_append, List.nil_append, reduceIte, eq_self, Nat.reduceLT, Nat.reduceEqDiff, and_true, true_and, reduceCtorEq, zsh_0, s37n hs, show ((-2 : Int32) = 0) = False from by decide]
    exact K I (zF_refl I)
theorem s197 {sc : zk_X} {d : Nat} {I : Nat → Nat → Int32} {tg : Option Nat} {P : Option Value → zk_M → Prop} {n t : Nat} {T e : Nat → Nat} {Z : Nat → Nat} {s c : Int32} (hq : zj_q I n t T e) (hz : zj_sh I Z)
    (K : ∀ I' : Nat → Nat → Int32, zF I I' → P (some (.long (zA_more I n T e Z s c))) (zk_mk I' tg)) : zk_R sc (d + 8) 197 0 [some (.ref (60 : Nat)), some (.int s), some (.int c), none, none] [] (zk_mk I tg) P := by
  obtain ⟨hj, hl, hr, ht, hx⟩ := hq
  have h10 := hj.2.2.1
  unfold zA_more at K
  by_cases hs : 0 ≤ s ∧ s < 4
  · obtain ⟨k, hk, rfl⟩ := zn_of (m := 4) hs.1 hs.2 (by decide)
    have y2 : (nI k).toNatClampNeg = k := zn_cl (by omega)
    simp only [y2] at K
    simp only [u197_0, u197_1, u197_2, u197_5, u197_8, u197_9, u197_10, u197_13, u197_16, u197_19, u197_20, u197_21, u197_22, u197_23, u197_26, u197_27, u197_28, u197_29, u197_30, u197_33, u197_36, u197_39, u197_40, zk_mk_1, zk_mk_I, zk_mk_R, zk_mk_set, zk_mk_setR, zk_mk_cpy, zk_rv_some, zk_rv_none, Option.toList_some, Option.toList_none, List.cons_append, List.nil_append, reduceIte, eq_self, Nat.reduceLT, Nat.reduceEqDiff, and_true, true_and, reduceCtorEq, zsh_60, s191 hj.2.1 h10 hz hk, s145, hj.2.1, zb_z, zn_lem0 (show n < 2147483648 by omega)]
    by_cases hr0 : zR I n k (Z k) = 0
    · rw [if_pos hr0]
      by_cases hc : 0 ≤ c ∧ c < nI n
      · rw [if_neg (fun q => q hc)]
        rw [if_pos ⟨hs, hr0, hc⟩] at K
        obtain ⟨c, hc2, rfl⟩ := zn_of hc.1 hc.2 (by omega)
        rw [zn_cl (show c < 2147483648 by omega)] at K
        obtain ⟨g1, g2⟩ := zR_0 hr0
        refine s196 hj ht hr hx hz hk (by omega) g2 (fun I' h1 => ?_)
        have K2 := K I' h1
        unfold zno at K2
        simp only [u197_0, u197_1, u197_2, u197_5, u197_8, u197_9, u197_10, u197_13, u197_16, u197_19, u197_20, u197_21, u197_22, u197_23, u197_26, u197_27, u197_28, u197_29, u197_30, u197_33, u197_36, u197_39, u197_40, zk_mk_1, zk_mk_I, zk_mk_R, zk_mk_set, zk_mk_setR, zk_mk_cpy, zk_rv_some, zk_rv_none, Option.toList_some, Option.toList_none, List.cons_append, List.nil_append, reduceIte, eq_self, Nat.reduceLT, Nat.reduceEqDiff, and_true, true_and, reduceCtorEq, zcmp0]
        by_cases hm : zmore (zv_now I n T e) n (I (53 + 2 * k)) (Z k / 2) c = 0
        · rw [if_pos hm] at K2 ⊢; exact K2
        · rw [if_neg hm] at K2 ⊢; exact K2
      · rw [if_pos hc]
        rw [if_neg (fun q => hc q.2.2)] at K
        exact K I (zF_refl I)
    · rw [if_neg hr0]
      rw [if_neg (fun q => hr0 q.2.1)] at K
      exact K I (zF_refl I)
  · rw [if_neg (fun q => hs q.1)] at K
    simp only [u197_0, u197_1, u197_2, u197_5, u197_8, u197_9, u197_10, u197_13, u197_16, u197_19, u197_20, u197_21, u197_22, u197_23, u197_26, u197_27, u197_28, u197_29, u197_30, u197_33, u197_36, u197_39, u197_40, zk_mk_1, zk_mk_I, zk_mk_R, zk_mk_set, zk_mk_setR, zk_mk_cpy, zk_rv_some, zk_rv_none, Option.toList_some, Option.toList_none, List.cons_append, List.nil_append, reduceIte, eq_self, Nat.reduceLT, Nat.reduceEqDiff, and_true, true_and, reduceCtorEq, zsh_60, s191n hs, show ((-2 : Int32) = 0) = False from by decide]
    exact K I (zF_refl I)
