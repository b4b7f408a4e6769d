/-! laws by both -/
def zj_txs (I : Nat → Nat → Int32) (q : Nat) (TT EE : Nat → Nat → Nat) : Prop := I 0 5 = nI q ∧ I 60 9 = nI q ∧ q ≤ 6 ∧ ∀ t, t < q → zj_text I t (TT t) (EE t)
theorem zF.txs {I I' : Nat → Nat → Int32} {q : Nat} {TT EE : Nat → Nat → Nat} (h : zF I I') (hx : zj_txs I q TT EE) : zj_txs I' q TT EE := by
  obtain ⟨a, b, c, f⟩ := hx
  exact ⟨by rw [h 0 rfl]; exact a, by rw [h 60 rfl]; exact b, c, fun t ht => h.text (by omega) (f t ht)⟩
def zA_laws (I : Nat → Nat → Int32) (n q : Nat) (TT EE : Nat → Nat → Nat) (Z : Nat → Nat) (s : Int32) : Int32 := if 0 ≤ s ∧ s < 4 then (if zR I n s.toNatClampNeg (Z s.toNatClampNeg) = 0 then nI (zset (fun t => decide (zwrong (zv_now I n (TT t) (EE t)) n (I (53 + 2 * s.toNatClampNeg)) (Z s.toNatClampNeg / 2) = -1)) q) else zR I n s.toNatClampNeg (Z s.toNatClampNeg)) else -2
theorem s43 {sc : zk_X} {d : Nat} {I : Nat → Nat → Int32} {tg : Option Nat} {P : Option Value → zk_M → Prop} {n q : Nat} {TT EE : Nat → Nat → Nat} {Z : Nat → Nat} {s : Int32} (hj : zj_tab I n) (hx : zj_txs I q TT EE) (hz : zj_sh I Z)
    (K : ∀ I' : Nat → Nat → Int32, zF I I' → P (some (.int (zA_laws I n q TT EE Z s))) (zk_mk I' tg)) : zk_R sc (d + 5) 43 0 [some (.ref (0 : Nat)), some (.int s), none, none, none] [] (zk_mk I tg) P := by
  have h10 := hj.2.2.1
  obtain ⟨hx1, hx2, hx3, hx4⟩ := hx
  unfold zA_laws at K
  by_cases hs : 0 ≤ s ∧ s < 4
  · rw [if_pos hs] at K
    obtain ⟨k, hk, rfl⟩ := zn_of (m := 4) hs.1 hs.2 (by decide)
    have y1 : zk_inb (nI k) 4 = true := by rw [zn_in (by omega)]; omega
    have y2 : (nI k).toNatClampNeg = k := zn_cl (by omega)
    obtain ⟨x1, x2⟩ := zx_s hk tg
    obtain ⟨x3, x4, x5, x6⟩ := zx_s1 hk
    simp only [y2] at K
    simp only [u43_0, u43_1, u43_2, u43_5, u43_6, u43_7, u43_10, u43_11, u43_12, u43_13, u43_14, u43_15, u43_19, u43_20, u43_23, u43_26, u43_28, u43_30, u43_33, u43_34, u43_35, u43_38, u43_40, u43_41, u43_44, u43_45, u43_46, u43_49, u43_50, u43_51, u43_54, u43_55, u43_58, u43_59, u43_60, u43_62, u43_63, u43_64, u43_65, u43_68, u43_71, u43_72, zk_mk_1, zk_mk_I, zk_mk_R, zk_mk_set, zk_mk_setR, zk_mk_cpy, zk_rv_some, zk_rv_none, Option.toList_some, Option.toList_none, List.cons_append, List.nil_append, reduceIte, eq_self, Nat.reduceLT, Nat.reduceEqDiff, and_true, true_and, reduceCtorEq, zsh_0, s37 hj.1 h10 hz hk]
    by_cases hr0 : zR I n k (Z k) = 0
    · rw [if_pos hr0] at K ⊢
      obtain ⟨g1, g2⟩ := zR_0 hr0
      have loop := zl_up (τ := Nat → Nat → Int32) (fun i I' => zk_R sc (d + 5) 43 17 [some (.ref (0 : Nat)), some (.int (nI k)), some (.int 0), some (.int (nI (zset (fun t => decide (zwrong (zv_now I n (TT t) (EE t)) n (I (53 + 2 * k)) (Z k / 2) = -1)) i))), some (.int (nI i))] [] (zk_mk I' tg) P)
        (fun i I' => zF I I') q (by
          intro I' h1
          have e0 : I' 0 5 = nI q := by rw [h1 0 rfl]; exact hx1
          rw [u43_17]
          simp only [u43_0, u43_1, u43_2, u43_5, u43_6, u43_7, u43_10, u43_11, u43_12, u43_13, u43_14, u43_15, u43_19, u43_20, u43_23, u43_26, u43_28, u43_30, u43_33, u43_34, u43_35, u43_38, u43_40, u43_41, u43_44, u43_45, u43_46, u43_49, u43_50, u43_51, u43_54, u43_55, u43_58, u43_59, u43_60, u43_62, u43_63, u43_64, u43_65, u43_68, u43_71, u43_72, zk_mk_1, zk_mk_I, zk_mk_R, zk_mk_set, zk_mk_setR, zk_mk_cpy, zk_rv_some, zk_rv_none, Option.toList_some, Option.toList_none, List.cons_append, List.nil_append, reduceIte, eq_self, Nat.reduceLT, Nat.reduceEqDiff, and_true, true_and, reduceCtorEq, zsh_0, e0]
          rw [if_pos (nI_le (Nat.le_refl _) (by omega))]
          exact K I' h1) (by
          intro i I' hi h1 ih
          have e0 : I' 0 5 = nI q := by rw [h1 0 rfl]; exact hx1
          have ht : i < 6 := by omega
          obtain ⟨w1, w2, w3, w4⟩ := zx_83 ht
          have v1 : zk_inb (nI i) 6 = true := by rw [zn_in (by omega)]; omega
          have v2 : (nI i).toNatClampNeg = i := zn_cl (by omega)
          obtain ⟨k1, k2⟩ := zs_k hk I I' h1
          have hi6 : ¬ (6 : Int32) ≤ nI i := nI_ge (b := 6) ht (by decide)
          rw [u43_17]
          simp only [u43_0, u43_1, u43_2, u43_5, u43_6, u43_7, u43_10, u43_11, u43_12, u43_13, u43_14, u43_15, u43_19, u43_20, u43_23, u43_26, u43_28, u43_30, u43_33, u43_34, u43_35, u43_38, u43_40, u43_41, u43_44, u43_45, u43_46, u43_49, u43_50, u43_51, u43_54, u43_55, u43_58, u43_59, u43_60, u43_62, u43_63, u43_64, u43_65, u43_68, u43_71, u43_72, zk_mk_1, zk_mk_I, zk_mk_R, zk_mk_set, zk_mk_setR, zk_mk_cpy, zk_rv_some, zk_rv_none, Option.toList_some, Option.toList_none, List.cons_append, List.nil_append, reduceIte, eq_self, Nat.reduceLT, Nat.reduceEqDiff, and_true, true_and, reduceCtorEq, zsh_0, zsh_13, zrf_0_4, e0, v1, v2, zx_13 ht, zx_28 ht, w1]
          rw [if_neg (nI_ge hi (by omega)), if_neg hi6]
          refine s17 (h1.tab hj) ht (h1.text ht (hx4 i hi)) (fun I2 h2 h3 h4 => ?_)
          have h12 := h1.trans h2
          obtain ⟨k3, k4⟩ := zs_k hk I I2 h12
          rw [h1.nowf] at h3
          simp only [u43_0, u43_1, u43_2, u43_5, u43_6, u43_7, u43_10, u43_11, u43_12, u43_13, u43_14, u43_15, u43_19, u43_20, u43_23, u43_26, u43_28, u43_30, u43_33, u43_34, u43_35, u43_38, u43_40, u43_41, u43_44, u43_45, u43_46, u43_49, u43_50, u43_51, u43_54, u43_55, u43_58, u43_59, u43_60, u43_62, u43_63, u43_64, u43_65, u43_68, u43_71, u43_72, zk_mk_1, zk_mk_I, zk_mk_R, zk_mk_set, zk_mk_setR, zk_mk_cpy, zk_rv_some, zk_rv_none, Option.toList_some, Option.toList_none, List.cons_append, List.nil_append, reduceIte, eq_self, Nat.reduceLT, Nat.reduceEqDiff, and_true, true_and, reduceCtorEq, zsh_0, zsh_26, zrf_0_8, y1, y2, x1, x3, x5, s39 h10 (h12.sh hz) hk g1 (show zgood n (I2 (53 + 2 * k)) (Z k / 2) = true by rw [k4]; exact g2) h3, nI_1]
          rw [k4]
          have ih2 := ih I2 h12
          rw [zset] at ih2
          by_cases hm : zwrong (zv_now I n (TT i) (EE i)) n (I (53 + 2 * k)) (Z k / 2) = -1
          · rw [if_pos hm]
            rw [decide_eq_true hm, if_pos rfl] at ih2
            rw [zq_pow (by omega), zq_or]
            exact ih2
          · rw [if_neg hm]
            rw [decide_eq_false hm, if_neg (by decide)] at ih2
            exact ih2)
      simp only [u43_0, u43_1, u43_2, u43_5, u43_6, u43_7, u43_10, u43_11, u43_12, u43_13, u43_14, u43_15, u43_19, u43_20, u43_23, u43_26, u43_28, u43_30, u43_33, u43_34, u43_35, u43_38, u43_40, u43_41, u43_44, u43_45, u43_46, u43_49, u43_50, u43_51, u43_54, u43_55, u43_58, u43_59, u43_60, u43_62, u43_63, u43_64, u43_65, u43_68, u43_71, u43_72, zk_mk_1, zk_mk_I, zk_mk_R, zk_mk_set, zk_mk_setR, zk_mk_cpy, zk_rv_some, zk_rv_none, Option.toList_some, Option.toList_none, List.cons_append, List.nil_append, reduceIte, eq_self, Nat.reduceLT, Nat.reduceEqDiff, and_true, true_and, reduceCtorEq, hr0]
      exact loop 0 I (Nat.zero_le _) (zF_refl I)
    · rw [if_neg hr0] at K ⊢
      exact K I (zF_refl I)
  · rw [if_neg hs] at K
    simp only [u43_0, u43_1, u43_2, u43_5, u43_6, u43_7, u43_10, u43_11, u43_12, u43_13, u43_14, u43_15, u43_19, u43_20, u43_23, u43_26, u43_28, u43_30, u43_33, u43_34, u43_35, u43_38, u43_40, u43_41, u43_44, u43_45, u43_46, u43_49, u43_50, u43_51, u43_54, u43_55, u43_58, u43_59, u43_60, u43_62, u43_63, u43_64, u43_65, u43_68, u43_71, u43_72, zk_mk_1, zk_mk_I, zk_mk_R, zk_mk_set, zk_mk_setR, zk_mk_cpy, zk_rv_some, zk_rv_none, Option.toList_some, Option.toList_none, List.cons_append, List.nil_append, reduceIte, eq_self, Nat.reduceLT, Nat.reduceEqDiff, and_true, true_and, reduceCtorEq, zsh_0, s37n hs, show ((-2 : Int32) = 0) = False from by decide]
    exact K I (zF_refl I)
/-- another law for the reference alone -/
theorem zrl_tab {I : Nat → Nat → Int32} {n : Nat} {v : Int32} (hj : zj_tab I n) : zj_tab (zk_up2 I 60 10 v) n := by
  unfold zj_tab zj_card at *
  simp only [zk_up2_r (show (1 : Nat) ≠ 60 by decide), zk_up2_j (show (0 : Nat) ≠ 10 by decide), zk_up2_r (show (2 : Nat) ≠ 60 by decide), zk_up2_r (show (3 : Nat) ≠ 60 by decide), zk_up2_r (show (4 : Nat) ≠ 60 by decide), zk_up2_r (show (5 : Nat) ≠ 60 by decide), zk_up2_r (show (61 : Nat) ≠ 60 by decide), zk_up2_r (show (62 : Nat) ≠ 60 by decide), zk_up2_r (show (63 : Nat) ≠ 60 by decide), zk_up2_r (show (64 : Nat) ≠ 60 by decide)]
  exact hj
theorem zrl_text {I : Nat → Nat → Int32} {t : Nat} {T e : Nat → Nat} {v : Int32} (ht : t < 6) (hx : zj_text I t T e) : zj_text (zk_up2 I 60 10 v) t T e := by
  unfold zj_text at *
  rw [zk_up2_r (show (30 + 4 * t : Nat) ≠ 60 by omega), zk_up2_r (show (29 + 4 * t : Nat) ≠ 60 by omega), zk_up2_r (show (66 : Nat) ≠ 60 by decide), zk_up2_r (show (67 : Nat) ≠ 60 by decide)]
  exact hx
theorem zrl_sh {I : Nat → Nat → Int32} {Z : Nat → Nat} {v : Int32} (hz : zj_sh I Z) : zj_sh (zk_up2 I 60 10 v) Z := by
  intro s hs
  rw [zk_up2_r (show (52 + 2 * s : Nat) ≠ 60 by omega), zk_up2_r (show (53 + 2 * s : Nat) ≠ 60 by omega), zk_up2_r (show (69 : Nat) ≠ 60 by decide), zk_up2_r (show (70 : Nat) ≠ 60 by decide), zk_up2_r (show (71 : Nat) ≠ 60 by decide)]
  exact hz s hs
theorem zrl_now {I : Nat → Nat → Int32} {n : Nat} {T e : Nat → Nat} {v : Int32} : zv_now (zk_up2 I 60 10 v) n T e = zv_now I n T e := by
  funext c
  unfold zv_now zv_cnt zv_said
  have e1 : ∀ left, zv_nm (zk_up2 I 60 10 v) n c left = zv_nm I n c left := by
    intro left
    funext j
    unfold zv_nm
    rw [zk_up2_r (show (2 : Nat) ≠ 60 by decide), zk_up2_r (show (3 : Nat) ≠ 60 by decide), zk_up2_r (show (4 : Nat) ≠ 60 by decide)]
  rw [zk_up2_r (show (2 : Nat) ≠ 60 by decide), zk_up2_r (show (5 : Nat) ≠ 60 by decide), zk_up2_r (show (4 : Nat) ≠ 60 by decide)]
  simp only [e1]
theorem zrl_F {I I' : Nat → Nat → Int32} {v w : Int32} (h : zF (zk_up2 I 60 10 v) I') : zF (zk_up2 I 60 10 w) (zk_up2 I' 60 10 w) := by
  intro j hj
  by_cases e : j = 60
  · subst e
    funext b
    rw [zk_up2_i, zk_up2_i]
    by_cases hb : b = 10
    · rw [if_pos hb, if_pos hb]
    · rw [if_neg hb, if_neg hb, h 60 rfl, zk_up2_j hb]
  · rw [zk_up2_r e, zk_up2_r e, h j hj, zk_up2_r e]
theorem zrl_same {I : Nat → Nat → Int32} : zk_up2 I 60 10 (I 60 10) = I := by
  funext a b
  unfold zk_up2
  split
  · next h => rw [h.1, h.2]
  · rfl
theorem s198 {sc : zk_X} {d : Nat} {I : Nat → Nat → Int32} {tg : Option Nat} {P : Option Value → zk_M → Prop} {n q : Nat} {TT EE : Nat → Nat → Nat} {Z : Nat → Nat} {s : Int32} (hj : zj_tab I n) (hx : zj_txs I q TT EE) (hz : zj_sh I Z)
    (K : ∀ I' : Nat → Nat → Int32, zF I I' → P (some (.int (zA_laws I n q TT EE Z s))) (zk_mk I' tg)) : zk_R sc (d + 7) 198 0 [some (.ref (60 : Nat)), some (.int s), none, none, none, none] [] (zk_mk I tg) P := by
  have h10 := hj.2.2.1
  obtain ⟨hx1, hx2, hx3, hx4⟩ := hx
  unfold zA_laws at K
  by_cases hs : 0 ≤ s ∧ s < 4
  · rw [if_pos hs] at K
    obtain ⟨k, hk, rfl⟩ := zn_of (m := 4) hs.1 hs.2 (by decide)
    have y2 : (nI k).toNatClampNeg = k := zn_cl (by omega)
    simp only [y2] at K
    simp only [u198_0, u198_1, u198_2, u198_5, u198_6, u198_7, u198_10, u198_11, u198_12, u198_13, u198_16, u198_17, u198_18, u198_20, u198_21, u198_25, u198_26, u198_29, u198_32, u198_33, u198_35, u198_38, u198_40, u198_41, u198_42, u198_45, u198_46, u198_49, u198_50, u198_52, u198_53, u198_56, u198_57, u198_58, u198_60, u198_63, u198_66, u198_67, u198_68, u198_71, u198_73, zk_mk_1, zk_mk_I, zk_mk_R, zk_mk_set, zk_mk_setR, zk_mk_cpy, zk_rv_some, zk_rv_none, Option.toList_some, Option.toList_none, List.cons_append, List.nil_append, reduceIte, eq_self, Nat.reduceLT, Nat.reduceEqDiff, and_true, true_and, reduceCtorEq, zsh_60, s191 hj.2.1 h10 hz hk]
    by_cases hr0 : zR I n k (Z k) = 0
    · rw [if_pos hr0] at K ⊢
      obtain ⟨g1, g2⟩ := zR_0 hr0
      have loop := zl_up (τ := Nat → Nat → Int32) (fun i I' => zk_R sc (d + 7) 198 23 [some (.ref (60 : Nat)), some (.int (nI k)), some (.int 0), some (.int (I 60 10)), some (.int (nI (zset (fun t => decide (zwrong (zv_now I n (TT t) (EE t)) n (I (53 + 2 * k)) (Z k / 2) = -1)) i))), some (.int (nI i))] [] (zk_mk I' tg) P)
        (fun i I' => ∃ v, zF (zk_up2 I 60 10 v) I') q (by
          rintro I' ⟨v, h1⟩
          have e9 : I' 60 9 = nI q := by rw [h1 60 rfl, zk_up2_j (by decide)]; exact hx2
          rw [u198_23]
          simp only [u198_0, u198_1, u198_2, u198_5, u198_6, u198_7, u198_10, u198_11, u198_12, u198_13, u198_16, u198_17, u198_18, u198_20, u198_21, u198_25, u198_26, u198_29, u198_32, u198_33, u198_35, u198_38, u198_40, u198_41, u198_42, u198_45, u198_46, u198_49, u198_50, u198_52, u198_53, u198_56, u198_57, u198_58, u198_60, u198_63, u198_66, u198_67, u198_68, u198_71, u198_73, zk_mk_1, zk_mk_I, zk_mk_R, zk_mk_set, zk_mk_setR, zk_mk_cpy, zk_rv_some, zk_rv_none, Option.toList_some, Option.toList_none, List.cons_append, List.nil_append, reduceIte, eq_self, Nat.reduceLT, Nat.reduceEqDiff, and_true, true_and, reduceCtorEq, zsh_60, e9]
          rw [if_pos (nI_le (Nat.le_refl _) (by omega))]
          have := zrl_F (w := I 60 10) h1
          rw [zrl_same] at this
          exact K _ this) (by
          rintro i I' hi ⟨v, h1⟩ ih
          have e9 : I' 60 9 = nI q := by rw [h1 60 rfl, zk_up2_j (by decide)]; exact hx2
          have ht : i < 6 := by omega
          have h2 := zrl_F (w := nI i) h1
          rw [u198_23]
          simp only [u198_0, u198_1, u198_2, u198_5, u198_6, u198_7, u198_10, u198_11, u198_12, u198_13, u198_16, u198_17, u198_18, u198_20, u198_21, u198_25, u198_26, u198_29, u198_32, u198_33, u198_35, u198_38, u198_40, u198_41, u198_42, u198_45, u198_46, u198_49, u198_50, u198_52, u198_53, u198_56, u198_57, u198_58, u198_60, u198_63, u198_66, u198_67, u198_68, u198_71, u198_73, zk_mk_1, zk_mk_I, zk_mk_R, zk_mk_set, zk_mk_setR, zk_mk_cpy, zk_rv_some, zk_rv_none, Option.toList_some, Option.toList_none, List.cons_append, List.nil_append, reduceIte, eq_self, Nat.reduceLT, Nat.reduceEqDiff, and_true, true_and, reduceCtorEq, zsh_60, e9]
          rw [if_neg (nI_ge hi (by omega))]
          obtain ⟨k1, k2⟩ := zs_k hk _ _ h2
          have k2 := k2.trans (zk_up2_r (show (53 + 2 * k : Nat) ≠ 60 by omega))
          refine s193 (h2.tab (zrl_tab hj)) ht zk_up2_s (h2.text ht (zrl_text ht (hx4 i hi))) (h2.sh (zrl_sh hz)) hk (by rw [k2]; exact g2) (fun I2 h3 h4 => ?_)
          rw [h2.nowf, zrl_now, k2]
          simp only [u198_0, u198_1, u198_2, u198_5, u198_6, u198_7, u198_10, u198_11, u198_12, u198_13, u198_16, u198_17, u198_18, u198_20, u198_21, u198_25, u198_26, u198_29, u198_32, u198_33, u198_35, u198_38, u198_40, u198_41, u198_42, u198_45, u198_46, u198_49, u198_50, u198_52, u198_53, u198_56, u198_57, u198_58, u198_60, u198_63, u198_66, u198_67, u198_68, u198_71, u198_73, zk_mk_1, zk_mk_I, zk_mk_R, zk_mk_set, zk_mk_setR, zk_mk_cpy, zk_rv_some, zk_rv_none, Option.toList_some, Option.toList_none, List.cons_append, List.nil_append, reduceIte, eq_self, Nat.reduceLT, Nat.reduceEqDiff, and_true, true_and, reduceCtorEq, nI_1]
          have ih2 := ih I2 ⟨nI i, h2.trans h3⟩
          rw [zset] at ih2
          by_cases hm : zwrong (zv_now I n (TT i) (EE i)) n (I (53 + 2 * k)) (Z k / 2) = -1
          · rw [if_pos hm]
            rw [decide_eq_true hm, if_pos rfl] at ih2
            rw [zq_pow (by omega), zq_or]
            exact ih2
          · rw [if_neg hm]
            rw [decide_eq_false hm, if_neg (by decide)] at ih2
            rw [show (0 : Int32) = nI 0 from rfl, zq_or, Nat.or_zero]
            exact ih2)
      simp only [u198_0, u198_1, u198_2, u198_5, u198_6, u198_7, u198_10, u198_11, u198_12, u198_13, u198_16, u198_17, u198_18, u198_20, u198_21, u198_25, u198_26, u198_29, u198_32, u198_33, u198_35, u198_38, u198_40, u198_41, u198_42, u198_45, u198_46, u198_49, u198_50, u198_52, u198_53, u198_56, u198_57, u198_58, u198_60, u198_63, u198_66, u198_67, u198_68, u198_71, u198_73, zk_mk_1, zk_mk_I, zk_mk_R, zk_mk_set, zk_mk_setR, zk_mk_cpy, zk_rv_some, zk_rv_none, Option.toList_some, Option.toList_none, List.cons_append, List.nil_append, reduceIte, eq_self, Nat.reduceLT, Nat.reduceEqDiff, and_true, true_and, reduceCtorEq, hr0, zsh_60]
      exact loop 0 I (Nat.zero_le _) ⟨I 60 10, by rw [zrl_same]; exact zF_refl I⟩
    · rw [if_neg hr0] at K ⊢
      exact K I (zF_refl I)
  · rw [if_neg hs] at K
    simp only [u198_0, u198_1, u198_2, u198_5, u198_6, u198_7, u198_10, u198_11, u198_12, u198_13, u198_16, u198_17, u198_18, u198_20, u198_21, u198_25, u198_26, u198_29, u198_32, u198_33, u198_35, u198_38, u198_40, u198_41, u198_42, u198_45, u198_46, u198_49, u198_50, u198_52, u198_53, u198_56, u198_57, u198_58, u198_60, u198_63, u198_66, u198_67, u198_68, u198_71, u198_73, zk_mk_1, zk_mk_I, zk_mk_R, zk_mk_set, zk_mk_setR, zk_mk_cpy, zk_rv_some, zk_rv_none, Option.toList_some, Option.toList_none, List.cons_append, List.nil_append, reduceIte, eq_self, Nat.reduceLT, Nat.reduceEqDiff, and_true, true_and, reduceCtorEq, zsh_60, s191n hs, show ((-2 : Int32) = 0) = False from by decide]
    exact K I (zF_refl I)
