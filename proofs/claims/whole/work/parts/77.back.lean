/-! back by both -/
def zA_back (I : Nat → Nat → Int32) : Int32 := if I 0 2 = 0 then -3 else I 6 4
def zMb (I I1 : Nat → Nat → Int32) (k : Nat) : Prop := (∀ j, ¬ (1 ≤ j ∧ j ≤ 5) → I1 j = I j) ∧ I1 1 4 = nI k ∧ I1 1 5 = I 6 5 ∧ ∀ c, c < k → I1 2 c = I 7 c ∧ I1 3 c = I 8 c ∧ I1 4 c = I 9 c ∧ I1 5 c = I 10 c
theorem s53 {sc : zk_X} {d : Nat} {I : Nat → Nat → Int32} {tg : Option Nat} {P : Option Value → zk_M → Prop} {n t q m : Nat} {TT EE : Nat → Nat → Nat} {Z : Nat → Nat} (hJ : zJ I n t q m TT EE Z)
    (K : ∀ I1 : Nat → Nat → Int32, (I 0 2 = 0 → I1 = I) → (¬ I 0 2 = 0 → ∀ k, k ≤ 10 → I 6 4 = nI k → zMb I I1 k) → P (some (.int (zA_back I))) (zk_mk I1 tg)) : zk_R sc (d + 1) 53 0 [some (.ref (0 : Nat))] [] (zk_mk I tg) P := by
  obtain ⟨a, b, c, dd, e, f, g⟩ := hJ
  unfold zA_back at K
  simp only [u53_0, u53_1, u53_4, u53_7, u53_9, u53_10, u53_11, u53_14, u53_15, u53_18, u53_21, u53_22, u53_25, u53_28, zk_mk_1, zk_mk_I, zk_mk_R, zk_mk_set, zk_mk_setR, zk_mk_cpy, zk_rv_some, zk_rv_none, Option.toList_some, Option.toList_none, List.cons_append, List.nil_append, reduceIte, eq_self, Nat.reduceLT, Nat.reduceEqDiff, and_true, true_and, reduceCtorEq, zsh_0, zsh_1, zsh_6, zrf_0_0, zrf_0_1]
  by_cases h0 : I 0 2 = 0
  · rw [if_pos h0] at K ⊢
    exact K I (fun _ => rfl) (fun q => absurd h0 q)
  · rw [if_neg h0] at K ⊢
    obtain ⟨k, t', hk, ht', f1, f2, f3, f4, f5⟩ := f.2 h0
    refine s99b hk f1 (fun I' h1 h2 h3 h4 h5 => ?_)
    rw [f1] at K
    simp only [u53_0, u53_1, u53_4, u53_7, u53_9, u53_10, u53_11, u53_14, u53_15, u53_18, u53_21, u53_22, u53_25, u53_28, zk_mk_1, zk_mk_I, zk_mk_R, zk_mk_set, zk_mk_setR, zk_mk_cpy, zk_rv_some, zk_rv_none, Option.toList_some, Option.toList_none, List.cons_append, List.nil_append, reduceIte, eq_self, Nat.reduceLT, Nat.reduceEqDiff, and_true, true_and, reduceCtorEq, zsh_0, zsh_1, zrf_0_0, h3]
    refine K I' (fun q => absurd q h0) (fun _ k2 hk2 e2 => ?_)
    have ek : k = k2 := by
      rw [zn_eq (by omega) (by omega)] at e2
      exact e2
    subst ek
    exact ⟨h1, h3, h4, h5⟩
theorem s209 {sc : zk_X} {d : Nat} {I I1 : Nat → Nat → Int32} {tg : Option Nat} {P : Option Value → zk_M → Prop} {n t q m : Nat} {TT EE : Nat → Nat → Nat} {Z : Nat → Nat} (hJ : zJ I n t q m TT EE Z) (hM0 : I 0 2 = 0 → I1 = I) (hM1 : ¬ I 0 2 = 0 → ∀ k, k ≤ 10 → I 6 4 = nI k → zMb I I1 k)
    (K : ∀ (I2 : Nat → Nat → Int32) (n' t' : Nat), zJ I2 n' t' q m TT EE Z → P (some (.int (zA_back I))) (zk_mk I2 tg)) : zk_R sc d 209 0 [some (.ref (60 : Nat)), none] [] (zk_mk I1 tg) P := by
  have hJ0 := hJ
  obtain ⟨a, b, c, dd, e, f, g⟩ := hJ
  unfold zA_back at K
  by_cases h0 : I 0 2 = 0
  · rw [if_pos h0] at K
    rw [hM0 h0]
    have e11 : I 60 11 = 0 := by rw [f.1]; exact h0
    simp only [u209_0, u209_1, u209_4, u209_7, u209_9, u209_10, u209_11, u209_12, u209_15, u209_18, u209_19, u209_20, u209_23, u209_26, u209_27, u209_29, u209_31, u209_34, u209_35, u209_38, u209_39, u209_40, u209_43, u209_44, u209_45, u209_46, u209_47, u209_50, u209_51, u209_52, u209_55, u209_57, u209_58, u209_59, u209_60, u209_61, u209_62, u209_65, u209_66, u209_67, u209_70, u209_72, u209_73, u209_74, u209_75, u209_76, u209_77, u209_80, u209_81, u209_82, u209_85, u209_87, u209_88, u209_89, u209_90, u209_91, u209_94, u209_97, u209_98, u209_101, zk_mk_1, zk_mk_I, zk_mk_R, zk_mk_set, zk_mk_setR, zk_mk_cpy, zk_rv_some, zk_rv_none, Option.toList_some, Option.toList_none, List.cons_append, List.nil_append, reduceIte, eq_self, Nat.reduceLT, Nat.reduceEqDiff, and_true, true_and, reduceCtorEq, zsh_60, e11]
    exact K I n t hJ0
  · rw [if_neg h0] at K
    obtain ⟨k, t', hk, ht', f1, f2, f3, f4, f5⟩ := f.2 h0
    obtain ⟨m1, m2, m3, m4⟩ := hM1 h0 k hk f1
    have e60 : I1 60 = I 60 := m1 60 (by omega)
    have e68 : I1 68 = I 68 := m1 68 (by omega)
    have e11 : ¬ I 60 11 = 0 := by rw [f.1]; exact h0
    rw [f1] at K
    have loop := zl_up (τ := Nat → Nat → Int32) (fun i I' => zk_R sc d 209 28 [some (.ref (60 : Nat)), some (.int (nI i))] [] (zk_mk I' tg) P)
      (fun i I' => (∀ j, ¬ (60 ≤ j ∧ j ≤ 64) → I' j = I1 j) ∧ (∀ b, b ≠ 0 → b ≠ 10 → I' 60 b = I 60 b) ∧ I' 60 0 = nI k ∧ I' 60 10 = nI t' ∧ ∀ c, c < i → I' 61 c = I 68 c ∧ I' 62 c = I 68 (10 + c) ∧ I' 63 c = I 68 (20 + c) ∧ I' 64 c = I 68 (30 + c)) 10 (by
        rintro I' ⟨h1, h2, h3, h4, h6⟩
        rw [u209_28]
        have hcond : (10 : Int32) ≤ nI 10 := by decide
        simp only [u209_0, u209_1, u209_4, u209_7, u209_9, u209_10, u209_11, u209_12, u209_15, u209_18, u209_19, u209_20, u209_23, u209_26, u209_27, u209_29, u209_31, u209_34, u209_35, u209_38, u209_39, u209_40, u209_43, u209_44, u209_45, u209_46, u209_47, u209_50, u209_51, u209_52, u209_55, u209_57, u209_58, u209_59, u209_60, u209_61, u209_62, u209_65, u209_66, u209_67, u209_70, u209_72, u209_73, u209_74, u209_75, u209_76, u209_77, u209_80, u209_81, u209_82, u209_85, u209_87, u209_88, u209_89, u209_90, u209_91, u209_94, u209_97, u209_98, u209_101, zk_mk_1, zk_mk_I, zk_mk_R, zk_mk_set, zk_mk_setR, zk_mk_cpy, zk_rv_some, zk_rv_none, Option.toList_some, Option.toList_none, List.cons_append, List.nil_append, reduceIte, eq_self, Nat.reduceLT, Nat.reduceEqDiff, and_true, true_and, reduceCtorEq, zsh_60, h3]
        first | rw [if_pos hcond] | rw [if_neg (Int32.not_lt.mpr hcond)]
        have o : ∀ j, ¬ (1 ≤ j ∧ j ≤ 5) → ¬ (60 ≤ j ∧ j ≤ 64) → I' j = I j := fun j j1 j2 => by rw [h1 j j2, m1 j j1]
        have o1 : ∀ j, j ≤ 5 → I' j = I1 j := fun j j1 => h1 j (by omega)
        refine K I' k t' ⟨⟨by rw [o1 1 (by decide)]; exact m2, h3, hk, fun c hc => ?_⟩, ⟨by rw [o1 1 (by decide), m3]; exact f3, h4, ht'⟩, c.cg (by rw [o 0 (by omega) (by omega)]) (h2 9 (by decide) (by decide)) (fun j hj => o j (by omega) (by omega)), dd.cg (by rw [o 11 (by omega) (by omega)]) (h2 6 (by decide) (by decide)) (o 12 (by omega) (by omega)) (o 65 (by omega) (by omega)), e.cg (fun j hj => o j (by omega) (by omega)), f.cg (by rw [o 0 (by omega) (by omega)]) (h2 11 (by decide) (by decide)) (h2 12 (by decide) (by decide)) (h2 13 (by decide) (by decide)) (fun j hj => o j (by omega) (by omega)), g.cg (o 73 (by omega) (by omega))⟩
        obtain ⟨q1, q2, q3, q4⟩ := h6 c (by omega)
        obtain ⟨r1, r2, r3, r4⟩ := m4 c hc
        have := f5 c hc
        unfold zj_ic at this
        obtain ⟨⟨v1, v2, v3, v4⟩, v5⟩ := this
        unfold zj_card
        rw [o1 2 (by decide), o1 3 (by decide), o1 4 (by decide), o1 5 (by decide), q1, q2, q3, q4, r1, r2, r3, r4]
        exact ⟨⟨v1, v2, v3, v4⟩, v5⟩) (by
        rintro i I' hi ⟨h1, h2, h3, h4, h6⟩ ih
        have k1 : I' 68 = I 68 := by rw [h1 68 (by omega), e68]
        have z1 : zk_inb (nI i) 10 = true := by rw [zn_in (by omega)]; omega
        have z2 : (nI i).toNatClampNeg = i := zn_cl (by omega)
        have z3 : zk_inb (nI i) 40 = true := by rw [zn_in (by omega)]; omega
        have e1 : (10 : Int32) + nI i = nI (10 + i) := zn_add 10 i
        have e2 : (20 : Int32) + nI i = nI (20 + i) := zn_add 20 i
        have e3 : (30 : Int32) + nI i = nI (30 + i) := zn_add 30 i
        have z4 : zk_inb (nI (10 + i)) 40 = true := by rw [zn_in (by omega)]; omega
        have z5 : (nI (10 + i)).toNatClampNeg = 10 + i := zn_cl (by omega)
        have z6 : zk_inb (nI (20 + i)) 40 = true := by rw [zn_in (by omega)]; omega
        have z7 : (nI (20 + i)).toNatClampNeg = 20 + i := zn_cl (by omega)
        have z8 : zk_inb (nI (30 + i)) 40 = true := by rw [zn_in (by omega)]; omega
        have z9 : (nI (30 + i)).toNatClampNeg = 30 + i := zn_cl (by omega)
        have hcond : ¬ (10 : Int32) ≤ nI i := nI_ge (b := 10) hi (by decide)
        rw [u209_28]
        simp only [u209_0, u209_1, u209_4, u209_7, u209_9, u209_10, u209_11, u209_12, u209_15, u209_18, u209_19, u209_20, u209_23, u209_26, u209_27, u209_29, u209_31, u209_34, u209_35, u209_38, u209_39, u209_40, u209_43, u209_44, u209_45, u209_46, u209_47, u209_50, u209_51, u209_52, u209_55, u209_57, u209_58, u209_59, u209_60, u209_61, u209_62, u209_65, u209_66, u209_67, u209_70, u209_72, u209_73, u209_74, u209_75, u209_76, u209_77, u209_80, u209_81, u209_82, u209_85, u209_87, u209_88, u209_89, u209_90, u209_91, u209_94, u209_97, u209_98, u209_101, zk_mk_1, zk_mk_I, zk_mk_R, zk_mk_set, zk_mk_setR, zk_mk_cpy, zk_rv_some, zk_rv_none, Option.toList_some, Option.toList_none, List.cons_append, List.nil_append, reduceIte, eq_self, Nat.reduceLT, Nat.reduceEqDiff, and_true, true_and, reduceCtorEq, zsh_60, zsh_61, zsh_62, zsh_63, zsh_64, zsh_68, zrf_60_1, zrf_60_2, zrf_60_3, zrf_60_4, zrf_60_14, z1, z2, z3, e1, e2, e3, z4, z5, z6, z7, z8, z9, zk_up2_k (show (68 : Nat) ≠ 61 by decide), zk_up2_k (show (68 : Nat) ≠ 62 by decide), zk_up2_k (show (68 : Nat) ≠ 63 by decide), k1, hcond, nI_1]
        refine ih _ ⟨fun j j1 => ?_, fun b b1 b2 => ?_, ?_, ?_, fun c hc => ?_⟩
        · rw [zk_up2_r (by omega), zk_up2_r (by omega), zk_up2_r (by omega), zk_up2_r (by omega)]; exact h1 j j1
        · rw [zk_up2_k (by decide), zk_up2_k (by decide), zk_up2_k (by decide), zk_up2_k (by decide)]; exact h2 b b1 b2
        · rw [zk_up2_k (by decide), zk_up2_k (by decide), zk_up2_k (by decide), zk_up2_k (by decide)]; exact h3
        · rw [zk_up2_k (by decide), zk_up2_k (by decide), zk_up2_k (by decide), zk_up2_k (by decide)]; exact h4
        · rw [zk_up2_k (show (61 : Nat) ≠ 64 by decide), zk_up2_k (show (61 : Nat) ≠ 63 by decide), zk_up2_k (show (61 : Nat) ≠ 62 by decide), zk_up2_i, zk_up2_k (show (62 : Nat) ≠ 64 by decide), zk_up2_k (show (62 : Nat) ≠ 63 by decide), zk_up2_i, zk_up2_k (show (63 : Nat) ≠ 64 by decide), zk_up2_i, zk_up2_i, zk_up2_k (show (62 : Nat) ≠ 61 by decide), zk_up2_k (show (63 : Nat) ≠ 62 by decide), zk_up2_k (show (63 : Nat) ≠ 61 by decide), zk_up2_k (show (64 : Nat) ≠ 63 by decide), zk_up2_k (show (64 : Nat) ≠ 62 by decide), zk_up2_k (show (64 : Nat) ≠ 61 by decide)]
          by_cases ec : c = i
          · rw [if_pos ec, if_pos ec, if_pos ec, if_pos ec, ec]
            exact ⟨rfl, rfl, rfl, rfl⟩
          · rw [if_neg ec, if_neg ec, if_neg ec, if_neg ec]
            exact h6 c (by omega))
    have e11' : ¬ I1 60 11 = 0 := by rw [e60]; exact e11
    simp only [u209_0, u209_1, u209_4, u209_7, u209_9, u209_10, u209_11, u209_12, u209_15, u209_18, u209_19, u209_20, u209_23, u209_26, u209_27, u209_29, u209_31, u209_34, u209_35, u209_38, u209_39, u209_40, u209_43, u209_44, u209_45, u209_46, u209_47, u209_50, u209_51, u209_52, u209_55, u209_57, u209_58, u209_59, u209_60, u209_61, u209_62, u209_65, u209_66, u209_67, u209_70, u209_72, u209_73, u209_74, u209_75, u209_76, u209_77, u209_80, u209_81, u209_82, u209_85, u209_87, u209_88, u209_89, u209_90, u209_91, u209_94, u209_97, u209_98, u209_101, zk_mk_1, zk_mk_I, zk_mk_R, zk_mk_set, zk_mk_setR, zk_mk_cpy, zk_rv_some, zk_rv_none, Option.toList_some, Option.toList_none, List.cons_append, List.nil_append, reduceIte, eq_self, Nat.reduceLT, Nat.reduceEqDiff, and_true, true_and, reduceCtorEq, zsh_60, e11, e60, zk_up2_j (show (13 : Nat) ≠ 0 by decide), f2, f4]
    refine loop 0 _ (Nat.zero_le _) ⟨fun j j1 => ?_, fun b b1 b2 => ?_, ?_, ?_, fun c hc => absurd hc (Nat.not_lt_zero _)⟩
    · rw [zk_up2_r (by omega), zk_up2_r (by omega)]
    · rw [zk_up2_j b2, zk_up2_j b1, e60]
    · rw [zk_up2_j (by decide), zk_up2_s]
    · rw [zk_up2_s]
