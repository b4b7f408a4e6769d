/-! drop, lay -/
theorem zJ_cards {I : Nat → Nat → Int32} {n t q m : Nat} {TT EE : Nat → Nat → Nat} {Z : Nat → Nat} (hJ : zJ I n t q m TT EE Z) : I 1 4 = nI n ∧ I 60 0 = nI n ∧ n ≤ 10 := ⟨hJ.1.1, hJ.1.2.1, hJ.1.2.2.1⟩
def zA_drop (n : Nat) : Int32 := if n = 0 then -3 else nI (n - 1)
def zUt_drop (I : Nat → Nat → Int32) (n : Nat) : Nat → Nat → Int32 := if n = 0 then I else zk_up2 I 1 4 (nI (n - 1))
def zUm_drop (I : Nat → Nat → Int32) (n : Nat) : Nat → Nat → Int32 := if n = 0 then I else zk_up2 I 60 0 (nI (n - 1))
theorem s11 {sc : zk_X} {d : Nat} {I : Nat → Nat → Int32} {tg : Option Nat} {P : Option Value → zk_M → Prop} {n : Nat} (hn : I 1 4 = nI n) (h10 : n ≤ 10) : zk_R sc d 11 0 [some (.ref (0 : Nat))] [] (zk_mk I tg) P = P (some (.int (zA_drop n))) (zk_mk (zUt_drop I n) tg) := by
  simp only [u11_0, u11_1, u11_4, u11_7, u11_10, u11_12, u11_13, u11_14, u11_17, u11_18, u11_21, u11_22, u11_23, u11_26, u11_27, u11_30, u11_33, zk_mk_1, zk_mk_I, zk_mk_R, zk_mk_set, zk_mk_setR, zk_mk_cpy, zk_rv_some, zk_rv_none, Option.toList_some, Option.toList_none, List.cons_append, List.nil_append, reduceIte, eq_self, Nat.reduceLT, Nat.reduceEqDiff, and_true, true_and, reduceCtorEq, zsh_0, zsh_1, zrf_0_0, hn, zA_drop, zUt_drop, zk_up2_s]
  by_cases h : n = 0
  · subst h
    have h1 : nI 0 ≤ 0 := by decide
    have h2 : ¬ 0 < nI 0 := by decide
    simp only [h1, h2, reduceIte]
  · have h1 : 0 < nI n := by rw [show (0 : Int32) = nI 0 from rfl, zn_lt (by decide) (by omega)]; omega
    have h2 : ¬ nI n ≤ 0 := Int32.not_le.mpr h1
    have e1 : nI n - 1 = nI (n - 1) := zn_sub (b := 1) (by omega)
    simp only [h1, h2, h, e1, reduceIte]
theorem s151 {sc : zk_X} {d : Nat} {I : Nat → Nat → Int32} {tg : Option Nat} {P : Option Value → zk_M → Prop} {n : Nat} (hn : I 60 0 = nI n) (h10 : n ≤ 10) : zk_R sc d 151 0 [some (.ref (60 : Nat))] [] (zk_mk I tg) P = P (some (.int (zA_drop n))) (zk_mk (zUm_drop I n) tg) := by
  have y : (nI n = 0) = (n = 0) := zn_eq (b := 0) (by omega) (by decide)
  simp only [u151_0, u151_1, u151_4, u151_7, u151_9, u151_10, u151_11, u151_12, u151_15, u151_16, u151_17, u151_20, u151_21, u151_24, zk_mk_1, zk_mk_I, zk_mk_R, zk_mk_set, zk_mk_setR, zk_mk_cpy, zk_rv_some, zk_rv_none, Option.toList_some, Option.toList_none, List.cons_append, List.nil_append, reduceIte, eq_self, Nat.reduceLT, Nat.reduceEqDiff, and_true, true_and, reduceCtorEq, zsh_60, hn, zA_drop, zUm_drop, zk_up2_s, y]
  by_cases h : n = 0
  · simp only [h, reduceIte]
  · have e1 : nI n - 1 = nI (n - 1) := zn_sub (b := 1) (by omega)
    simp only [h, e1, reduceIte]
theorem zJ_drop {I : Nat → Nat → Int32} {n t q m : Nat} {TT EE : Nat → Nat → Nat} {Z : Nat → Nat} (hJ : zJ I n t q m TT EE Z) : ∃ n', zJ (zUm_drop (zUt_drop I n) n) n' t q m TT EE Z := by
  obtain ⟨a, b, c, d, e, f, g⟩ := hJ
  unfold zUm_drop zUt_drop
  by_cases h : n = 0
  · simp only [h, reduceIte]
    rw [h] at a
    exact ⟨0, a, b, c, d, e, f, g⟩
  · simp only [if_neg h]
    have o : ∀ j, j ≠ 1 → j ≠ 60 → zk_up2 (zk_up2 I 1 4 (nI (n - 1))) 60 0 (nI (n - 1)) j = I j := fun j j1 j2 => by rw [zk_up2_r j2, zk_up2_r j1]
    have o1 : ∀ b, b ≠ 4 → zk_up2 (zk_up2 I 1 4 (nI (n - 1))) 60 0 (nI (n - 1)) 1 b = I 1 b := fun b hb => by rw [zk_up2_k (by decide), zk_up2_j hb]
    have o60 : ∀ b, b ≠ 0 → zk_up2 (zk_up2 I 1 4 (nI (n - 1))) 60 0 (nI (n - 1)) 60 b = I 60 b := fun b hb => by rw [zk_up2_j hb, zk_up2_k (by decide)]
    refine ⟨n - 1, ⟨?_, ?_, by have := a.2.2.1; omega, fun c hc => ?_⟩, b.cg (o1 5 (by decide)) (o60 10 (by decide)), c.cg (by rw [o 0 (by decide) (by decide)]) (o60 9 (by decide)) (fun j hj => o j (by omega) (by omega)), d.cg (by rw [o 11 (by decide) (by decide)]) (o60 6 (by decide)) (o 12 (by decide) (by decide)) (o 65 (by decide) (by decide)), e.cg (fun j hj => o j (by omega) (by omega)), f.cg (by rw [o 0 (by decide) (by decide)]) (o60 11 (by decide)) (o60 12 (by decide)) (o60 13 (by decide)) (fun j hj => o j (by omega) (by omega)), g.cg (o 73 (by decide) (by decide))⟩
    · rw [zk_up2_k (by decide), zk_up2_s]
    · rw [zk_up2_s]
    · have := a.2.2.2 c (by omega)
      unfold zj_card at *
      rw [o 2 (by decide) (by decide), o 3 (by decide) (by decide), o 4 (by decide) (by decide), o 5 (by decide) (by decide), o 61 (by decide) (by decide), o 62 (by decide) (by decide), o 63 (by decide) (by decide), o 64 (by decide) (by decide)]
      exact this
/-- whether a card may lie there -/
def zlok (I : Nat → Nat → Int32) (c : Nat) (w : Int32) : Prop := w = 0 ∨ ¬ zw_sides (I 2 c) (I 4 c) &&& w = 0
noncomputable def zA_lay (I : Nat → Nat → Int32) (p n : Nat) (c w : Int32) : Int32 := if 0 ≤ c ∧ c < nI n then (if 0 ≤ w ∧ w ≤ 2 then @ite _ (zlok I c.toNatClampNeg w) (Classical.propDecidable _) (I p c.toNatClampNeg) (-3) else -7) else -5
noncomputable def zU_lay (I : Nat → Nat → Int32) (p n : Nat) (c w : Int32) : Nat → Nat → Int32 := @ite _ ((0 ≤ c ∧ c < nI n) ∧ (0 ≤ w ∧ w ≤ 2) ∧ zlok I c.toNatClampNeg w) (Classical.propDecidable _) (zk_up2 I p c.toNatClampNeg w) I
theorem zA_lay_1 {I : Nat → Nat → Int32} {p n : Nat} {c w : Int32} (hc : 0 ≤ c ∧ c < nI n) (hw : 0 ≤ w ∧ w ≤ 2) (hl : zlok I c.toNatClampNeg w) : zA_lay I p n c w = I p c.toNatClampNeg ∧ zU_lay I p n c w = zk_up2 I p c.toNatClampNeg w := by
  unfold zA_lay zU_lay
  rw [if_pos hc, if_pos hw, if_pos hl, if_pos ⟨hc, hw, hl⟩]
  exact ⟨rfl, rfl⟩
theorem zA_lay_2 {I : Nat → Nat → Int32} {p n : Nat} {c w : Int32} (hc : 0 ≤ c ∧ c < nI n) (hw : 0 ≤ w ∧ w ≤ 2) (hl : ¬ zlok I c.toNatClampNeg w) : zA_lay I p n c w = -3 ∧ zU_lay I p n c w = I := by
  unfold zA_lay zU_lay
  rw [if_pos hc, if_pos hw, if_neg hl, if_neg (fun q => hl q.2.2)]
  exact ⟨rfl, rfl⟩
theorem zA_lay_3 {I : Nat → Nat → Int32} {p n : Nat} {c w : Int32} (hc : 0 ≤ c ∧ c < nI n) (hw : ¬ (0 ≤ w ∧ w ≤ 2)) : zA_lay I p n c w = -7 ∧ zU_lay I p n c w = I := by
  unfold zA_lay zU_lay
  rw [if_pos hc, if_neg hw, if_neg (fun q => hw q.2.1)]
  exact ⟨rfl, rfl⟩
theorem zA_lay_4 {I : Nat → Nat → Int32} {p n : Nat} {c w : Int32} (hc : ¬ (0 ≤ c ∧ c < nI n)) : zA_lay I p n c w = -5 ∧ zU_lay I p n c w = I := by
  unfold zA_lay zU_lay
  rw [if_neg hc, if_neg (fun q => hc q.1)]
  exact ⟨rfl, rfl⟩
theorem s12 {sc : zk_X} {d : Nat} {I : Nat → Nat → Int32} {tg : Option Nat} {P : Option Value → zk_M → Prop} {n : Nat} {c w : Int32} (hn : I 1 4 = nI n) (h10 : n ≤ 10) : zk_R sc (d + 1) 12 0 [some (.ref (0 : Nat)), some (.int c), some (.int w), none] [] (zk_mk I tg) P = P (some (.int (zA_lay I 5 n c w))) (zk_mk (zU_lay I 5 n c w) tg) := by
  simp only [u12_0, u12_1, u12_4, u12_5, u12_8, u12_11, u12_13, u12_14, u12_15, u12_18, u12_19, u12_20, u12_23, u12_25, u12_26, u12_27, u12_30, u12_31, u12_34, u12_35, u12_38, u12_39, u12_40, u12_43, u12_45, u12_46, u12_47, u12_50, u12_53, u12_54, u12_55, u12_56, u12_57, u12_60, u12_63, u12_64, u12_65, u12_66, u12_67, zk_mk_1, zk_mk_I, zk_mk_R, zk_mk_set, zk_mk_setR, zk_mk_cpy, zk_rv_some, zk_rv_none, Option.toList_some, Option.toList_none, List.cons_append, List.nil_append, reduceIte, eq_self, Nat.reduceLT, Nat.reduceEqDiff, and_true, true_and, reduceCtorEq, zsh_0, zsh_1, zrf_0_0, s93, hn, zb_z]
  by_cases hc : 0 ≤ c ∧ c < nI n
  · rw [if_neg (fun q => q hc)]
    obtain ⟨k, hk, rfl⟩ := zn_of hc.1 hc.2 (show n < 2147483648 by omega)
    have z1 : zk_inb (nI k) 10 = true := by rw [zn_in (by omega)]; omega
    have z2 : (nI k).toNatClampNeg = k := zn_cl (by omega)
    by_cases hw : 0 ≤ w ∧ w ≤ 2
    · have w1 : ¬ w < 0 := Int32.not_lt.mpr hw.1
      have w2 : ¬ 2 < w := Int32.not_lt.mpr hw.2
      by_cases hl : zlok I (nI k).toNatClampNeg w
      · rw [(zA_lay_1 hc hw hl).1, (zA_lay_1 hc hw hl).2]
        unfold zlok at hl
        rw [z2] at hl ⊢
        by_cases h0 : w = 0
        · subst h0
          have v1 : (0 : Int32) ≤ 2 := by decide
          simp only [w1, w2, v1, reduceIte, u12_0, u12_1, u12_4, u12_5, u12_8, u12_11, u12_13, u12_14, u12_15, u12_18, u12_19, u12_20, u12_23, u12_25, u12_26, u12_27, u12_30, u12_31, u12_34, u12_35, u12_38, u12_39, u12_40, u12_43, u12_45, u12_46, u12_47, u12_50, u12_53, u12_54, u12_55, u12_56, u12_57, u12_60, u12_63, u12_64, u12_65, u12_66, u12_67, zk_mk_1, zk_mk_I, zk_mk_R, zk_mk_set, zk_mk_setR, zk_mk_cpy, zk_rv_some, zk_rv_none, Option.toList_some, Option.toList_none, List.cons_append, List.nil_append, reduceIte, eq_self, Nat.reduceLT, Nat.reduceEqDiff, and_true, true_and, reduceCtorEq, zsh_0, zsh_1, zsh_5, zrf_0_0, zrf_1_3, z1, z2]
        · have hl2 := hl.resolve_left h0
          have v1 := hw.2
          simp only [w1, w2, v1, h0, reduceIte, s95 (show k < 10 by omega), u12_0, u12_1, u12_4, u12_5, u12_8, u12_11, u12_13, u12_14, u12_15, u12_18, u12_19, u12_20, u12_23, u12_25, u12_26, u12_27, u12_30, u12_31, u12_34, u12_35, u12_38, u12_39, u12_40, u12_43, u12_45, u12_46, u12_47, u12_50, u12_53, u12_54, u12_55, u12_56, u12_57, u12_60, u12_63, u12_64, u12_65, u12_66, u12_67, zk_mk_1, zk_mk_I, zk_mk_R, zk_mk_set, zk_mk_setR, zk_mk_cpy, zk_rv_some, zk_rv_none, Option.toList_some, Option.toList_none, List.cons_append, List.nil_append, reduceIte, eq_self, Nat.reduceLT, Nat.reduceEqDiff, and_true, true_and, reduceCtorEq, zsh_0, zsh_1, zsh_5, zrf_0_0, zrf_1_3, z1, z2, hl2]
      · rw [(zA_lay_2 hc hw hl).1, (zA_lay_2 hc hw hl).2]
        unfold zlok at hl
        rw [z2] at hl
        have h0 : ¬ w = 0 := fun q => hl (Or.inl q)
        have hl2 : zw_sides (I 2 k) (I 4 k) &&& w = 0 := Classical.not_not.mp (fun q => hl (Or.inr q))
        have v1 := hw.2
        simp only [w1, w2, v1, h0, reduceIte, s95 (show k < 10 by omega), u12_0, u12_1, u12_4, u12_5, u12_8, u12_11, u12_13, u12_14, u12_15, u12_18, u12_19, u12_20, u12_23, u12_25, u12_26, u12_27, u12_30, u12_31, u12_34, u12_35, u12_38, u12_39, u12_40, u12_43, u12_45, u12_46, u12_47, u12_50, u12_53, u12_54, u12_55, u12_56, u12_57, u12_60, u12_63, u12_64, u12_65, u12_66, u12_67, zk_mk_1, zk_mk_I, zk_mk_R, zk_mk_set, zk_mk_setR, zk_mk_cpy, zk_rv_some, zk_rv_none, Option.toList_some, Option.toList_none, List.cons_append, List.nil_append, reduceIte, eq_self, Nat.reduceLT, Nat.reduceEqDiff, and_true, true_and, reduceCtorEq, hl2]
    · rw [(zA_lay_3 hc hw).1, (zA_lay_3 hc hw).2]
      by_cases w1 : w < 0
      · simp only [w1, reduceIte]
      · by_cases w2 : 2 < w
        · have w3 : ¬ w ≤ 2 := Int32.not_le.mpr w2
          simp only [w1, w2, w3, reduceIte]
        · exact absurd ⟨Int32.not_lt.mp w1, Int32.not_lt.mp w2⟩ hw
  · rw [if_pos hc, (zA_lay_4 hc).1, (zA_lay_4 hc).2]
theorem zw_pos {w : Int32} (h : 0 ≤ w) : (0 < w) = ¬ w = 0 := by
  apply propext
  have h := Int32.le_iff_toInt_le.mp h
  rw [zn_zi] at h
  rw [Int32.lt_iff_toInt_lt, zn_zi]
  constructor
  · rintro q rfl; rw [zn_zi] at q; omega
  · intro q
    have : ¬ w.toInt = 0 := fun e => q (Int32.toInt.inj (by rw [e, zn_zi]))
    omega
theorem s152 {sc : zk_X} {d : Nat} {I : Nat → Nat → Int32} {tg : Option Nat} {P : Option Value → zk_M → Prop} {n : Nat} {c w : Int32} (hj : zj_tabw I n) : zk_R sc (d + 2) 152 0 [some (.ref (60 : Nat)), some (.int c), some (.int w), none] [] (zk_mk I tg) P = P (some (.int (zA_lay I 64 n c w))) (zk_mk (zU_lay I 64 n c w) tg) := by
  obtain ⟨hn1, hn, h10, hcs⟩ := hj
  simp only [u152_0, u152_1, u152_2, u152_5, u152_8, u152_10, u152_11, u152_12, u152_13, u152_14, u152_17, u152_20, u152_22, u152_23, u152_24, u152_27, u152_28, u152_29, u152_30, u152_33, u152_36, u152_38, u152_39, u152_40, u152_43, u152_44, u152_45, u152_46, u152_47, u152_50, u152_51, u152_52, u152_53, u152_54, zk_mk_1, zk_mk_I, zk_mk_R, zk_mk_set, zk_mk_setR, zk_mk_cpy, zk_rv_some, zk_rv_none, Option.toList_some, Option.toList_none, List.cons_append, List.nil_append, reduceIte, eq_self, Nat.reduceLT, Nat.reduceEqDiff, and_true, true_and, reduceCtorEq, zsh_60, s145, hn, s129, zb_z, zn_lem0 (show n < 2147483648 by omega)]
  by_cases hc : 0 ≤ c ∧ c < nI n
  · rw [if_neg (fun q => q hc)]
    obtain ⟨k, hk, rfl⟩ := zn_of hc.1 hc.2 (show n < 2147483648 by omega)
    have z1 : zk_inb (nI k) 10 = true := by rw [zn_in (by omega)]; omega
    have z2 : (nI k).toNatClampNeg = k := zn_cl (by omega)
    obtain ⟨⟨m1, m2, m3, -⟩, -⟩ := hcs k hk
    by_cases hw : 0 ≤ w ∧ w ≤ 2
    · rw [if_neg (fun q => q hw)]
      have hp := zw_pos hw.1
      by_cases hl : zlok I (nI k).toNatClampNeg w
      · rw [(zA_lay_1 hc hw hl).1, (zA_lay_1 hc hw hl).2]
        unfold zlok at hl
        rw [z2] at hl ⊢
        by_cases h0 : w = 0
        · subst h0
          have v1 : ¬ (0 : Int32) < 0 := by decide
          have v2 : (0 : Int32) ≤ 0 := by decide
          simp only [v1, v2, reduceIte, u152_0, u152_1, u152_2, u152_5, u152_8, u152_10, u152_11, u152_12, u152_13, u152_14, u152_17, u152_20, u152_22, u152_23, u152_24, u152_27, u152_28, u152_29, u152_30, u152_33, u152_36, u152_38, u152_39, u152_40, u152_43, u152_44, u152_45, u152_46, u152_47, u152_50, u152_51, u152_52, u152_53, u152_54, zk_mk_1, zk_mk_I, zk_mk_R, zk_mk_set, zk_mk_setR, zk_mk_cpy, zk_rv_some, zk_rv_none, Option.toList_some, Option.toList_none, List.cons_append, List.nil_append, reduceIte, eq_self, Nat.reduceLT, Nat.reduceEqDiff, and_true, true_and, reduceCtorEq, zsh_60, zsh_64, zrf_60_4, z1, z2]
        · have hl2 := hl.resolve_left h0
          have v1 : 0 < w := by rw [hp]; exact h0
          have v2 : ¬ w ≤ 0 := Int32.not_le.mpr v1
          simp only [v1, v2, reduceIte, s153 (show k < 10 by omega), m1, m3, zb_z, u152_0, u152_1, u152_2, u152_5, u152_8, u152_10, u152_11, u152_12, u152_13, u152_14, u152_17, u152_20, u152_22, u152_23, u152_24, u152_27, u152_28, u152_29, u152_30, u152_33, u152_36, u152_38, u152_39, u152_40, u152_43, u152_44, u152_45, u152_46, u152_47, u152_50, u152_51, u152_52, u152_53, u152_54, zk_mk_1, zk_mk_I, zk_mk_R, zk_mk_set, zk_mk_setR, zk_mk_cpy, zk_rv_some, zk_rv_none, Option.toList_some, Option.toList_none, List.cons_append, List.nil_append, reduceIte, eq_self, Nat.reduceLT, Nat.reduceEqDiff, and_true, true_and, reduceCtorEq, zsh_60, zsh_64, zrf_60_4, z1, z2, hl2, not_true_eq_false, not_false_eq_true]
      · rw [(zA_lay_2 hc hw hl).1, (zA_lay_2 hc hw hl).2]
        unfold zlok at hl
        rw [z2] at hl
        have h0 : ¬ w = 0 := fun q => hl (Or.inl q)
        have hl2 : zw_sides (I 2 k) (I 4 k) &&& w = 0 := Classical.not_not.mp (fun q => hl (Or.inr q))
        have v1 : 0 < w := by rw [hp]; exact h0
        have v2 : ¬ w ≤ 0 := Int32.not_le.mpr v1
        simp only [v1, v2, reduceIte, s153 (show k < 10 by omega), m1, m3, zb_z, u152_0, u152_1, u152_2, u152_5, u152_8, u152_10, u152_11, u152_12, u152_13, u152_14, u152_17, u152_20, u152_22, u152_23, u152_24, u152_27, u152_28, u152_29, u152_30, u152_33, u152_36, u152_38, u152_39, u152_40, u152_43, u152_44, u152_45, u152_46, u152_47, u152_50, u152_51, u152_52, u152_53, u152_54, zk_mk_1, zk_mk_I, zk_mk_R, zk_mk_set, zk_mk_setR, zk_mk_cpy, zk_rv_some, zk_rv_none, Option.toList_some, Option.toList_none, List.cons_append, List.nil_append, reduceIte, eq_self, Nat.reduceLT, Nat.reduceEqDiff, and_true, true_and, reduceCtorEq, zsh_60, hl2, not_true_eq_false, not_false_eq_true]
    · rw [if_pos hw, (zA_lay_3 hc hw).1, (zA_lay_3 hc hw).2]
  · rw [if_pos hc, (zA_lay_4 hc).1, (zA_lay_4 hc).2]
theorem zU_lay_cases {I : Nat → Nat → Int32} {n : Nat} {c w : Int32} (hn : n ≤ 10) : (∀ p, zU_lay I p n c w = I) ∨ ∃ k u, k < n ∧ u < 3 ∧ w = nI u ∧ c = nI k ∧ zlok I k w ∧ ∀ p, zU_lay I p n c w = zk_up2 I p k w := by
  by_cases hc : 0 ≤ c ∧ c < nI n
  · by_cases hw : 0 ≤ w ∧ w ≤ 2
    · by_cases hl : zlok I c.toNatClampNeg w
      · obtain ⟨k, hk, rfl⟩ := zn_of hc.1 hc.2 (show n < 2147483648 by omega)
        obtain ⟨u, hu, rfl⟩ := zn_of (x := w) (m := 3) hw.1 (by rw [zn_lt1 (by decide)]; exact hw.2) (by decide)
        have z2 : (nI k).toNatClampNeg = k := zn_cl (by omega)
        have h1 := fun p => (zA_lay_1 (p := p) hc hw hl).2
        rw [z2] at hl h1
        exact Or.inr ⟨k, u, hk, hu, rfl, rfl, hl, h1⟩
      · exact Or.inl (fun p => (zA_lay_2 hc hw hl).2)
    · exact Or.inl (fun p => (zA_lay_3 hc hw).2)
  · exact Or.inl (fun p => (zA_lay_4 hc).2)
/-- both, one after the other -/
theorem zJ_lay {I : Nat → Nat → Int32} {n t q m : Nat} {TT EE : Nat → Nat → Nat} {Z : Nat → Nat} {c w : Int32} (hJ : zJ I n t q m TT EE Z) : zj_tabw (zU_lay I 5 n c w) n ∧ zA_lay (zU_lay I 5 n c w) 64 n c w = zA_lay I 5 n c w ∧ zJ (zU_lay (zU_lay I 5 n c w) 64 n c w) n t q m TT EE Z := by
  have hJ0 := hJ
  obtain ⟨a, b, cc, d, e, f, g⟩ := hJ
  have h10 := a.2.2.1
  have hlk : ∀ J : Nat → Nat → Int32, J 2 = I 2 → J 4 = I 4 → ∀ k w, zlok J k w ↔ zlok I k w := fun J h2 h4 k w => by unfold zlok; rw [h2, h4]
  have hw2 : zj_tabw (zU_lay I 5 n c w) n := by
    have hw := a.w
    rcases zU_lay_cases (I := I) (c := c) (w := w) h10 with h | ⟨k, u, hk, hu, rfl, rfl, hl, h⟩
    · rw [h]; exact hw
    · rw [h]
      unfold zj_tabw zj_cardw at *
      simp only [zk_up2_r (show (1 : Nat) ≠ 5 by decide), zk_up2_r (show (60 : Nat) ≠ 5 by decide), zk_up2_r (show (2 : Nat) ≠ 5 by decide), zk_up2_r (show (3 : Nat) ≠ 5 by decide), zk_up2_r (show (4 : Nat) ≠ 5 by decide), zk_up2_r (show (61 : Nat) ≠ 5 by decide), zk_up2_r (show (62 : Nat) ≠ 5 by decide), zk_up2_r (show (63 : Nat) ≠ 5 by decide)]
      exact hw
  refine ⟨hw2, ?_, ?_⟩
  · by_cases hc : 0 ≤ c ∧ c < nI n
    · by_cases hw : 0 ≤ w ∧ w ≤ 2
      · by_cases hl : zlok I c.toNatClampNeg w
        · rw [(zA_lay_1 hc hw hl).1, (zA_lay_1 hc hw hl).2]
          have hl2 : zlok (zk_up2 I 5 c.toNatClampNeg w) c.toNatClampNeg w := (hlk _ (zk_up2_r (by decide)) (zk_up2_r (by decide)) _ _).mpr hl
          rw [(zA_lay_1 hc hw hl2).1, zk_up2_r (show (64 : Nat) ≠ 5 by decide)]
          obtain ⟨k, hk, rfl⟩ := zn_of hc.1 hc.2 (show n < 2147483648 by omega)
          rw [zn_cl (show k < 2147483648 by omega)]
          exact zj_side a hk
        · rw [(zA_lay_2 hc hw hl).1, (zA_lay_2 hc hw hl).2, (zA_lay_2 hc hw hl).1]
      · rw [(zA_lay_3 hc hw).1, (zA_lay_3 hc hw).1]
    · rw [(zA_lay_4 hc).1, (zA_lay_4 hc).1]
  · rcases zU_lay_cases (I := I) (c := c) (w := w) h10 with h | ⟨k, u, hk, hu, rfl, rfl, hl, h⟩
    · rw [h 5, h 64]; exact hJ0
    · rw [h 5]
      have hl2 : zlok (zk_up2 I 5 k (nI u)) k (nI u) := (hlk _ (zk_up2_r (by decide)) (zk_up2_r (by decide)) _ _).mpr hl
      have e1 : zU_lay (zk_up2 I 5 k (nI u)) 64 n (nI k) (nI u) = zk_up2 (zk_up2 I 5 k (nI u)) 64 k (nI u) := by
        have z2 : (nI k).toNatClampNeg = k := zn_cl (by omega)
        have := (zA_lay_1 (I := zk_up2 I 5 k (nI u)) (p := 64) (n := n) (c := nI k) (w := nI u) ⟨by rw [show (0 : Int32) = nI 0 from rfl, zn_le (by decide) (by omega)]; omega, by rw [zn_lt (by omega) (by omega)]; exact hk⟩ ⟨by rw [show (0 : Int32) = nI 0 from rfl, zn_le (by decide) (by omega)]; omega, by rw [show (2 : Int32) = nI 2 from rfl, zn_le (by omega) (by decide)]; omega⟩ (by rw [z2]; exact hl2)).2
        rw [z2] at this
        exact this
      rw [e1]
      have o : ∀ j, j ≠ 5 → j ≠ 64 → zk_up2 (zk_up2 I 5 k (nI u)) 64 k (nI u) j = I j := fun j j1 j2 => by rw [zk_up2_r j2, zk_up2_r j1]
      refine ⟨⟨by rw [o 1 (by decide) (by decide)]; exact a.1, by rw [o 60 (by decide) (by decide)]; exact a.2.1, h10, fun c hc => ?_⟩, b.cg (by rw [o 1 (by decide) (by decide)]) (by rw [o 60 (by decide) (by decide)]), cc.cg (by rw [o 0 (by decide) (by decide)]) (by rw [o 60 (by decide) (by decide)]) (fun j hj => o j (by omega) (by omega)), d.cg (by rw [o 11 (by decide) (by decide)]) (by rw [o 60 (by decide) (by decide)]) (o 12 (by decide) (by decide)) (o 65 (by decide) (by decide)), e.cg (fun j hj => o j (by omega) (by omega)), f.cg (by rw [o 0 (by decide) (by decide)]) (by rw [o 60 (by decide) (by decide)]) (by rw [o 60 (by decide) (by decide)]) (by rw [o 60 (by decide) (by decide)]) (fun j hj => o j (by omega) (by omega)), g.cg (o 73 (by decide) (by decide))⟩
      have := a.2.2.2 c hc
      unfold zj_card at *
      rw [o 2 (by decide) (by decide), o 3 (by decide) (by decide), o 4 (by decide) (by decide), o 61 (by decide) (by decide), o 62 (by decide) (by decide), o 63 (by decide) (by decide), zk_up2_i, zk_up2_k (show (5 : Nat) ≠ 64 by decide), zk_up2_k (show (64 : Nat) ≠ 5 by decide), zk_up2_i]
      obtain ⟨⟨q1, q2, q3, q4⟩, q5, q6, q7, q8⟩ := this
      by_cases ec : c = k
      · rw [if_pos ec, if_pos ec]
        exact ⟨⟨q1, q2, q3, rfl⟩, q5, q6, q7, ⟨u, hu, rfl⟩⟩
      · rw [if_neg ec, if_neg ec]
        exact ⟨⟨q1, q2, q3, q4⟩, q5, q6, q7, q8⟩
