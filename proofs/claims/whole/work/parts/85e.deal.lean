/-! deal by both -/
def zdls (x : Nat) (c : Nat) : Int32 := if x / 2 ^ c % 2 = 1 then 1 else 2
def zdl (I : Nat → Nat → Int32) (p n x : Nat) : Nat → Nat → Int32 := fun k c => if k = p ∧ c < n then zdls x c else I k c
theorem zdl_o {I : Nat → Nat → Int32} {p n x k : Nat} (h : k ≠ p) : zdl I p n x k = I k := funext (fun _ => if_neg (fun q => h q.1))
theorem zdl_p {I : Nat → Nat → Int32} {p n x c : Nat} (h : c < n) : zdl I p n x p c = zdls x c := if_pos ⟨rfl, h⟩
theorem zdl_step {I : Nat → Nat → Int32} {p n x : Nat} : zk_up2 (zdl I p n x) p n (zdls x n) = zdl I p (n + 1) x := by
  funext k c
  unfold zk_up2 zdl
  by_cases h1 : k = p ∧ c = n
  · rw [if_pos h1, if_pos ⟨h1.1, by omega⟩, h1.2]
  · rw [if_neg h1]
    by_cases h2 : k = p ∧ c < n
    · rw [if_pos h2, if_pos ⟨h2.1, by omega⟩]
    · rw [if_neg h2, if_neg (fun q => by have := q.1; have := q.2; by_cases hc : c = n; exact h1 ⟨q.1, hc⟩; exact h2 ⟨q.1, by omega⟩)]
def zA_deal (I : Nat → Nat → Int32) (n : Nat) (T e : Nat → Nat) (seed : Int32) : Int32 := if 0 ≤ seed ∧ seed ≤ 99999 then zfval (zv_now (zdl I 5 n (zv_draw I n seed)) n T e) n (zv_draw I n seed) else -2
def zMd (I I1 : Nat → Nat → Int32) (n : Nat) (seed : Int32) : Prop := if 0 ≤ seed ∧ seed ≤ 99999 then zF (zdl I 5 n (zv_draw I n seed)) I1 else I1 = I
theorem zdl_w {I : Nat → Nat → Int32} {n x p : Nat} (hp : p = 5 ∨ p = 64) (hj : zj_tabw I n) : zj_tabw (zdl I p n x) n := by
  unfold zj_tabw zj_cardw at *
  rw [zdl_o (k := 1) (by omega), zdl_o (k := 60) (by omega), zdl_o (k := 2) (by omega), zdl_o (k := 3) (by omega), zdl_o (k := 4) (by omega), zdl_o (k := 61) (by omega), zdl_o (k := 62) (by omega), zdl_o (k := 63) (by omega)]
  exact hj
theorem zdl_text {I : Nat → Nat → Int32} {n x p t : Nat} {T e : Nat → Nat} (hp : p = 5 ∨ p = 64) (ht : t < 6) (hx : zj_text I t T e) : zj_text (zdl I p n x) t T e := by
  unfold zj_text at *
  rw [zdl_o (k := 30 + 4 * t) (by omega), zdl_o (k := 29 + 4 * t) (by omega), zdl_o (k := 66) (by omega), zdl_o (k := 67) (by omega)]
  exact hx
theorem zdls_ok (x c : Nat) : ∃ k, k < 3 ∧ zdls x c = nI k := by
  unfold zdls
  split
  · exact ⟨1, by decide, rfl⟩
  · exact ⟨2, by decide, rfl⟩
theorem s49 {sc : zk_X} {d : Nat} {I : Nat → Nat → Int32} {tg : Option Nat} {P : Option Value → zk_M → Prop} {n t : Nat} {T e : Nat → Nat} {seed : Int32} (hq : zj_q I n t T e)
    (K : ∀ I1 : Nat → Nat → Int32, zMd I I1 n seed → P (some (.int (zA_deal I n T e seed))) (zk_mk I1 tg)) : zk_R sc (d + 5) 49 0 [some (.ref (0 : Nat)), some (.int seed), none, none] [] (zk_mk I tg) P := by
  obtain ⟨hj, hl, hr, ht, hx⟩ := hq
  obtain ⟨w1, w2, w3, w4⟩ := zx_83 ht
  have h10 := hj.2.2.1
  have p10 := zp_10 h10
  have hlt : zv_draw I n seed < 2 ^ n := zdraw_lt _ _ _
  have ed : (zdraw (fun c => zw_sides (I 2 c) (I 4 c)) seed n).2 = zv_draw I n seed := rfl
  unfold zA_deal zMd at K
  simp only [u49_0, u49_1, u49_4, u49_7, u49_9, u49_10, u49_11, u49_12, u49_15, u49_16, u49_17, u49_19, u49_20, u49_23, u49_26, u49_29, u49_30, u49_33, u49_36, u49_37, u49_38, u49_39, u49_40, u49_41, u49_42, u49_43, u49_46, u49_47, u49_50, u49_51, u49_52, u49_55, u49_58, u49_59, u49_60, u49_63, u49_66, u49_67, u49_70, u49_71, u49_74, zk_mk_1, zk_mk_I, zk_mk_R, zk_mk_set, zk_mk_setR, zk_mk_cpy, zk_rv_some, zk_rv_none, Option.toList_some, Option.toList_none, List.cons_append, List.nil_append, reduceIte, eq_self, Nat.reduceLT, Nat.reduceEqDiff, and_true, true_and, reduceCtorEq, zsh_0, s47, zb_z, s48 hj.1 h10, ed]
  by_cases hw : 0 ≤ seed ∧ seed ≤ 99999
  · rw [if_neg (fun q => q hw)]
    simp only [if_pos hw] at K
    generalize zv_draw I n seed = x at *
    have loop := zl_fn (fun i => zk_R sc (d + 5) 49 18 [some (.ref (0 : Nat)), some (.int seed), some (.int (nI x)), some (.int (nI i))] [] (zk_mk (zdl I 5 i x) tg) P) n (by
        have hj1 := zdl_w (x := x) (Or.inl rfl) hj.w
        have hl1 : zdl I 5 n x 1 5 = nI t := by rw [zdl_o (by decide)]; exact hl
        rw [u49_18]
        simp only [u49_0, u49_1, u49_4, u49_7, u49_9, u49_10, u49_11, u49_12, u49_15, u49_16, u49_17, u49_19, u49_20, u49_23, u49_26, u49_29, u49_30, u49_33, u49_36, u49_37, u49_38, u49_39, u49_40, u49_41, u49_42, u49_43, u49_46, u49_47, u49_50, u49_51, u49_52, u49_55, u49_58, u49_59, u49_60, u49_63, u49_66, u49_67, u49_70, u49_71, u49_74, zk_mk_1, zk_mk_I, zk_mk_R, zk_mk_set, zk_mk_setR, zk_mk_cpy, zk_rv_some, zk_rv_none, Option.toList_some, Option.toList_none, List.cons_append, List.nil_append, reduceIte, eq_self, Nat.reduceLT, Nat.reduceEqDiff, and_true, true_and, reduceCtorEq, zsh_0, zsh_1, zrf_0_0, hj1.1]
        rw [if_pos (nI_le (Nat.le_refl _) (by omega))]
        simp only [u49_0, u49_1, u49_4, u49_7, u49_9, u49_10, u49_11, u49_12, u49_15, u49_16, u49_17, u49_19, u49_20, u49_23, u49_26, u49_29, u49_30, u49_33, u49_36, u49_37, u49_38, u49_39, u49_40, u49_41, u49_42, u49_43, u49_46, u49_47, u49_50, u49_51, u49_52, u49_55, u49_58, u49_59, u49_60, u49_63, u49_66, u49_67, u49_70, u49_71, u49_74, zk_mk_1, zk_mk_I, zk_mk_R, zk_mk_set, zk_mk_setR, zk_mk_cpy, zk_rv_some, zk_rv_none, Option.toList_some, Option.toList_none, List.cons_append, List.nil_append, reduceIte, eq_self, Nat.reduceLT, Nat.reduceEqDiff, and_true, true_and, reduceCtorEq, zsh_0, zsh_1, zrf_0_0, s7 ht hl1, zx_28 ht, w1]
        refine s17w hj1 ht (zdl_text (Or.inl rfl) ht hx) (fun I2 h1 h2 h3 => ?_)
        simp only [u49_0, u49_1, u49_4, u49_7, u49_9, u49_10, u49_11, u49_12, u49_15, u49_16, u49_17, u49_19, u49_20, u49_23, u49_26, u49_29, u49_30, u49_33, u49_36, u49_37, u49_38, u49_39, u49_40, u49_41, u49_42, u49_43, u49_46, u49_47, u49_50, u49_51, u49_52, u49_55, u49_58, u49_59, u49_60, u49_63, u49_66, u49_67, u49_70, u49_71, u49_74, zk_mk_1, zk_mk_I, zk_mk_R, zk_mk_set, zk_mk_setR, zk_mk_cpy, zk_rv_some, zk_rv_none, Option.toList_some, Option.toList_none, List.cons_append, List.nil_append, reduceIte, eq_self, Nat.reduceLT, Nat.reduceEqDiff, and_true, true_and, reduceCtorEq, zsh_0, zsh_15, zrf_0_7, s85 h10 h3 h2 hlt]
        exact K I2 h1) (by
        intro i hi ih
        have z1 : zk_inb (nI i) 10 = true := by rw [zn_in (by omega)]; omega
        have z2 : (nI i).toNatClampNeg = i := zn_cl (by omega)
        have e1 : zdl I 5 i x 1 4 = nI n := by rw [zdl_o (by decide)]; exact hj.1
        have y1 : (nI (x / 2 ^ i % 2) = 1) = (x / 2 ^ i % 2 = 1) := zn_eq (b := 1) (by omega) (by decide)
        rw [← zdl_step] at ih
        unfold zdls at ih
        rw [u49_18]
        simp only [u49_0, u49_1, u49_4, u49_7, u49_9, u49_10, u49_11, u49_12, u49_15, u49_16, u49_17, u49_19, u49_20, u49_23, u49_26, u49_29, u49_30, u49_33, u49_36, u49_37, u49_38, u49_39, u49_40, u49_41, u49_42, u49_43, u49_46, u49_47, u49_50, u49_51, u49_52, u49_55, u49_58, u49_59, u49_60, u49_63, u49_66, u49_67, u49_70, u49_71, u49_74, zk_mk_1, zk_mk_I, zk_mk_R, zk_mk_set, zk_mk_setR, zk_mk_cpy, zk_rv_some, zk_rv_none, Option.toList_some, Option.toList_none, List.cons_append, List.nil_append, reduceIte, eq_self, Nat.reduceLT, Nat.reduceEqDiff, and_true, true_and, reduceCtorEq, zsh_0, zsh_1, zsh_5, zrf_0_0, zrf_1_3, e1, z1, z2, zq_bit (show x < 2147483648 by omega) (show i < 32 by omega), y1, nI_1]
        rw [if_neg (nI_ge hi (by omega))]
        by_cases hb : x / 2 ^ i % 2 = 1
        · rw [if_pos hb] at ih ⊢; exact ih
        · rw [if_neg hb] at ih ⊢; exact ih)
    have e0 : zdl I 5 0 x = I := by
      funext k c
      exact if_neg (fun q => Nat.not_lt_zero _ q.2)
    have l0 := loop 0 (Nat.zero_le _)
    rw [e0] at l0
    exact l0
  · rw [if_pos hw]
    simp only [if_neg hw] at K
    exact K I rfl
theorem zJ_deal {I : Nat → Nat → Int32} {n t q m x : Nat} {TT EE : Nat → Nat → Nat} {Z : Nat → Nat} (hJ : zJ I n t q m TT EE Z) : zJ (zdl (zdl I 5 n x) 64 n x) n t q m TT EE Z := by
  obtain ⟨a, b, c, d, e, f, g⟩ := hJ
  have o : ∀ k, k ≠ 5 → k ≠ 64 → zdl (zdl I 5 n x) 64 n x k = I k := fun k h1 h2 => by rw [zdl_o h2, zdl_o h1]
  refine ⟨⟨by rw [o 1 (by decide) (by decide)]; exact a.1, by rw [o 60 (by decide) (by decide)]; exact a.2.1, a.2.2.1, fun k hk => ?_⟩, b.cg (by rw [o 1 (by decide) (by decide)]) (by rw [o 60 (by decide) (by decide)]), c.cg (by rw [o 0 (by decide) (by decide)]) (by rw [o 60 (by decide) (by decide)]) (fun k hk => o k (by omega) (by omega)), d.cg (by rw [o 11 (by decide) (by decide)]) (by rw [o 60 (by decide) (by decide)]) (o 12 (by decide) (by decide)) (o 65 (by decide) (by decide)), e.cg (fun k hk => o k (by omega) (by omega)), f.cg (by rw [o 0 (by decide) (by decide)]) (by rw [o 60 (by decide) (by decide)]) (by rw [o 60 (by decide) (by decide)]) (by rw [o 60 (by decide) (by decide)]) (fun k hk => o k (by omega) (by omega)), g.cg (o 73 (by decide) (by decide))⟩
  have := a.2.2.2 k hk
  unfold zj_card at *
  rw [o 2 (by decide) (by decide), o 3 (by decide) (by decide), o 4 (by decide) (by decide), o 61 (by decide) (by decide), o 62 (by decide) (by decide), o 63 (by decide) (by decide), zdl_p hk, zdl_o (show (5 : Nat) ≠ 64 by decide), zdl_p hk]
  obtain ⟨⟨q1, q2, q3, q4⟩, q5, q6, q7, q8⟩ := this
  exact ⟨⟨q1, q2, q3, rfl⟩, q5, q6, q7, zdls_ok x k⟩
theorem zdl_F {I I1 : Nat → Nat → Int32} {n x p : Nat} (h : zF I I1) : zF (zdl I p n x) (zdl I1 p n x) := by
  intro k hk
  funext c
  unfold zdl
  rw [h k hk]
theorem s205 {sc : zk_X} {d : Nat} {I I1 : Nat → Nat → Int32} {tg : Option Nat} {P : Option Value → zk_M → Prop} {n t q m : Nat} {TT EE : Nat → Nat → Nat} {Z : Nat → Nat} {seed : Int32} (hJ : zJ I n t q m TT EE Z) (hM : zMd I I1 n seed)
    (K : ∀ I2 : Nat → Nat → Int32, zJ I2 n t q m TT EE Z → P (some (.int (zA_deal I n (TT t) (EE t) seed))) (zk_mk I2 tg)) : zk_R sc (d + 6) 205 0 [some (.ref (60 : Nat)), some (.int seed), none, none] [] (zk_mk I1 tg) P := by
  obtain ⟨hj, hl, hr, ht, hx⟩ := hJ.q
  have h10 := hj.2.2.1
  have p10 := zp_10 h10
  have hlt : zv_draw I n seed < 2 ^ n := zdraw_lt _ _ _
  unfold zMd at hM
  unfold zA_deal at K
  simp only [u205_0, u205_1, u205_2, u205_5, u205_8, u205_11, u205_13, u205_14, u205_15, u205_16, u205_19, u205_20, u205_21, u205_23, u205_24, u205_27, u205_30, u205_31, u205_34, u205_35, u205_36, u205_37, u205_38, u205_39, u205_40, u205_41, u205_44, u205_45, u205_48, u205_49, u205_50, u205_53, u205_56, u205_57, u205_60, u205_61, u205_62, u205_65, zk_mk_1, zk_mk_I, zk_mk_R, zk_mk_set, zk_mk_setR, zk_mk_cpy, zk_rv_some, zk_rv_none, Option.toList_some, Option.toList_none, List.cons_append, List.nil_append, reduceIte, eq_self, Nat.reduceLT, Nat.reduceEqDiff, and_true, true_and, reduceCtorEq, zsh_60, s129, zb_z]
  by_cases hw : 0 ≤ seed ∧ seed ≤ 99999
  · rw [if_neg (fun q => q hw)]
    rw [if_pos hw] at hM
    simp only [if_pos hw] at K
    have hw1 : zj_tabw I1 n := hM.tabw (zdl_w (Or.inl rfl) hj.w)
    have ed : (zdraw (fun c => zw_sides (I1 2 c) (I1 4 c)) seed n).2 = zv_draw I n seed := by
      rw [hM 2 rfl, hM 4 rfl, zdl_o (by decide), zdl_o (by decide)]; rfl
    simp only [u205_0, u205_1, u205_2, u205_5, u205_8, u205_11, u205_13, u205_14, u205_15, u205_16, u205_19, u205_20, u205_21, u205_23, u205_24, u205_27, u205_30, u205_31, u205_34, u205_35, u205_36, u205_37, u205_38, u205_39, u205_40, u205_41, u205_44, u205_45, u205_48, u205_49, u205_50, u205_53, u205_56, u205_57, u205_60, u205_61, u205_62, u205_65, zk_mk_1, zk_mk_I, zk_mk_R, zk_mk_set, zk_mk_setR, zk_mk_cpy, zk_rv_some, zk_rv_none, Option.toList_some, Option.toList_none, List.cons_append, List.nil_append, reduceIte, eq_self, Nat.reduceLT, Nat.reduceEqDiff, and_true, true_and, reduceCtorEq, zsh_60, s203w hw1, ed]
    generalize zv_draw I n seed = x at *
    have loop := zl_fn (fun i => zk_R sc (d + 6) 205 22 [some (.ref (60 : Nat)), some (.int seed), some (.int (nI x)), some (.int (nI i))] [] (zk_mk (zdl I1 64 i x) tg) P) n (by
        have hF2 : zF (zdl (zdl I 5 n x) 64 n x) (zdl I1 64 n x) := zdl_F hM
        have hJ2 := hF2.J (zJ_deal (x := x) hJ)
        obtain ⟨hj2, hl2, hr2, ht2, hx2⟩ := hJ2.q
        rw [u205_22]
        simp only [u205_0, u205_1, u205_2, u205_5, u205_8, u205_11, u205_13, u205_14, u205_15, u205_16, u205_19, u205_20, u205_21, u205_23, u205_24, u205_27, u205_30, u205_31, u205_34, u205_35, u205_36, u205_37, u205_38, u205_39, u205_40, u205_41, u205_44, u205_45, u205_48, u205_49, u205_50, u205_53, u205_56, u205_57, u205_60, u205_61, u205_62, u205_65, zk_mk_1, zk_mk_I, zk_mk_R, zk_mk_set, zk_mk_setR, zk_mk_cpy, zk_rv_some, zk_rv_none, Option.toList_some, Option.toList_none, List.cons_append, List.nil_append, reduceIte, eq_self, Nat.reduceLT, Nat.reduceEqDiff, and_true, true_and, reduceCtorEq, zsh_60, hj2.2.1]
        rw [if_pos (nI_le (Nat.le_refl _) (by omega))]
        refine s162 hj2 ht2 hr2 hx2 (fun I3 h1 h2 h3 => ?_)
        have enow : zv_now (zdl I1 64 n x) n (TT t) (EE t) = zv_now (zdl I 5 n x) n (TT t) (EE t) := by
          rw [hF2.nowf]
          funext c
          unfold zv_now zv_cnt zv_said
          have e1 : ∀ left, zv_nm (zdl (zdl I 5 n x) 64 n x) n c left = zv_nm (zdl I 5 n x) n c left := by
            intro left
            funext j
            unfold zv_nm
            rw [zdl_o (I := zdl I 5 n x) (k := 2) (by decide), zdl_o (I := zdl I 5 n x) (k := 3) (by decide), zdl_o (I := zdl I 5 n x) (k := 4) (by decide)]
          rw [zdl_o (I := zdl I 5 n x) (k := 2) (by decide), zdl_o (I := zdl I 5 n x) (k := 4) (by decide), zdl_o (I := zdl I 5 n x) (k := 5) (by decide)]
          simp only [e1]
        rw [enow] at h3
        simp only [u205_0, u205_1, u205_2, u205_5, u205_8, u205_11, u205_13, u205_14, u205_15, u205_16, u205_19, u205_20, u205_21, u205_23, u205_24, u205_27, u205_30, u205_31, u205_34, u205_35, u205_36, u205_37, u205_38, u205_39, u205_40, u205_41, u205_44, u205_45, u205_48, u205_49, u205_50, u205_53, u205_56, u205_57, u205_60, u205_61, u205_62, u205_65, zk_mk_1, zk_mk_I, zk_mk_R, zk_mk_set, zk_mk_setR, zk_mk_cpy, zk_rv_some, zk_rv_none, Option.toList_some, Option.toList_none, List.cons_append, List.nil_append, reduceIte, eq_self, Nat.reduceLT, Nat.reduceEqDiff, and_true, true_and, reduceCtorEq, zsh_60, s204 (h1.tab hj2) h3 hlt]
        exact K I3 (h1.J hJ2)) (by
        intro i hi ih
        have z1 : zk_inb (nI i) 10 = true := by rw [zn_in (by omega)]; omega
        have z2 : (nI i).toNatClampNeg = i := zn_cl (by omega)
        have e1 : zdl I1 64 i x 60 0 = nI n := by rw [zdl_o (by decide)]; exact hw1.2.1
        have y1 : (nI (x / 2 ^ i % 2) = 1) = (x / 2 ^ i % 2 = 1) := zn_eq (b := 1) (by omega) (by decide)
        rw [← zdl_step] at ih
        unfold zdls at ih
        rw [u205_22]
        simp only [u205_0, u205_1, u205_2, u205_5, u205_8, u205_11, u205_13, u205_14, u205_15, u205_16, u205_19, u205_20, u205_21, u205_23, u205_24, u205_27, u205_30, u205_31, u205_34, u205_35, u205_36, u205_37, u205_38, u205_39, u205_40, u205_41, u205_44, u205_45, u205_48, u205_49, u205_50, u205_53, u205_56, u205_57, u205_60, u205_61, u205_62, u205_65, zk_mk_1, zk_mk_I, zk_mk_R, zk_mk_set, zk_mk_setR, zk_mk_cpy, zk_rv_some, zk_rv_none, Option.toList_some, Option.toList_none, List.cons_append, List.nil_append, reduceIte, eq_self, Nat.reduceLT, Nat.reduceEqDiff, and_true, true_and, reduceCtorEq, zsh_60, zsh_64, zrf_60_4, e1, z1, z2, zq_bit (show x < 2147483648 by omega) (show i < 32 by omega), y1, nI_1]
        rw [if_neg (nI_ge hi (by omega))]
        by_cases hb : x / 2 ^ i % 2 = 1
        · rw [if_pos hb] at ih ⊢; exact ih
        · rw [if_neg hb] at ih ⊢; exact ih)
    have e0 : zdl I1 64 0 x = I1 := by
      funext k c
      exact if_neg (fun q => Nat.not_lt_zero _ q.2)
    have l0 := loop 0 (Nat.zero_le _)
    rw [e0] at l0
    exact l0
  · rw [if_pos hw]
    rw [if_neg hw] at hM
    simp only [if_neg hw] at K
    rw [hM]
    exact K I hJ
