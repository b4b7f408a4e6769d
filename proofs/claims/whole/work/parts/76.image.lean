/-! image and back -/
theorem s99a {sc : zk_X} {d : Nat} {I : Nat → Nat → Int32} {tg : Option Nat} {P : Option Value → zk_M → Prop} {n : Nat} (h10 : n ≤ 10) (hn : I 1 4 = nI n)
    (K : ∀ I' : Nat → Nat → Int32, (∀ j, ¬ (6 ≤ j ∧ j ≤ 10) → I' j = I j) → (∀ b, b ≠ 4 → b ≠ 5 → I' 6 b = I 6 b) → I' 6 4 = nI n → I' 6 5 = I 1 5 → (∀ c, c < n → I' 7 c = I 2 c ∧ I' 8 c = I 3 c ∧ I' 9 c = I 4 c ∧ I' 10 c = I 5 c) → P none (zk_mk I' tg)) : zk_R sc d 99 0 [some (.ref (6 : Nat)), some (.ref (1 : Nat)), none] [] (zk_mk I tg) P := by
  have loop := zl_up (τ := Nat → Nat → Int32) (fun i I' => zk_R sc d 99 2 [some (.ref (6 : Nat)), some (.ref (1 : Nat)), some (.int (nI i))] [] (zk_mk I' tg) P)
    (fun i I' => (∀ j, ¬ (7 ≤ j ∧ j ≤ 10) → I' j = I j) ∧ ∀ c, c < i → I' 7 c = I 2 c ∧ I' 8 c = I 3 c ∧ I' 9 c = I 4 c ∧ I' 10 c = I 5 c) n (by
      rintro I' ⟨h1, h2⟩
      have es : I' 1 = I 1 := h1 1 (by omega)
      rw [u99_2]
      simp only [u99_0, u99_1, u99_3, u99_4, u99_7, u99_10, u99_11, u99_14, u99_15, u99_16, u99_19, u99_20, u99_21, u99_22, u99_23, u99_26, u99_27, u99_28, u99_31, u99_32, u99_33, u99_34, u99_35, u99_38, u99_39, u99_40, u99_43, u99_44, u99_45, u99_46, u99_47, u99_50, u99_51, u99_52, u99_55, u99_56, u99_57, u99_58, u99_61, u99_64, u99_65, u99_66, u99_69, u99_72, u99_73, u99_74, u99_77, u99_80, zk_mk_1, zk_mk_I, zk_mk_R, zk_mk_set, zk_mk_setR, zk_mk_cpy, zk_rv_some, zk_rv_none, Option.toList_some, Option.toList_none, List.cons_append, List.nil_append, reduceIte, eq_self, Nat.reduceLT, Nat.reduceEqDiff, and_true, true_and, reduceCtorEq, zsh_6, zsh_1, es, hn, zk_up2_k (show (1 : Nat) ≠ 6 by decide)]
      rw [if_pos (nI_le (Nat.le_refl _) (by omega))]
      refine K _ (fun j hj => ?_) (fun b b4 b5 => ?_) ?_ ?_ (fun c hc => ?_)
      · rw [zk_up2_r (by omega), zk_up2_r (by omega)]; exact h1 j (by omega)
      · rw [zk_up2_j b5, zk_up2_j b4, h1 6 (by omega)]
      · rw [zk_up2_j (by decide), zk_up2_s]
      · rw [zk_up2_s]
      · rw [zk_up2_k (show (7 : Nat) ≠ 6 by decide), zk_up2_k (show (7 : Nat) ≠ 6 by decide), zk_up2_k (show (8 : Nat) ≠ 6 by decide), zk_up2_k (show (8 : Nat) ≠ 6 by decide), zk_up2_k (show (9 : Nat) ≠ 6 by decide), zk_up2_k (show (9 : Nat) ≠ 6 by decide), zk_up2_k (show (10 : Nat) ≠ 6 by decide), zk_up2_k (show (10 : Nat) ≠ 6 by decide)]
        exact h2 c hc) (by
      rintro i I' hi ⟨h1, h2⟩ ih
      have es : I' 1 = I 1 := h1 1 (by omega)
      have e1 : I' 2 = I 2 := h1 _ (by omega)
      have e2 : I' 3 = I 3 := h1 _ (by omega)
      have e3 : I' 4 = I 4 := h1 _ (by omega)
      have e4 : I' 5 = I 5 := h1 _ (by omega)
      have z1 : zk_inb (nI i) 10 = true := by rw [zn_in (by omega)]; omega
      have z2 : (nI i).toNatClampNeg = i := zn_cl (by omega)
      rw [u99_2]
      simp only [u99_0, u99_1, u99_3, u99_4, u99_7, u99_10, u99_11, u99_14, u99_15, u99_16, u99_19, u99_20, u99_21, u99_22, u99_23, u99_26, u99_27, u99_28, u99_31, u99_32, u99_33, u99_34, u99_35, u99_38, u99_39, u99_40, u99_43, u99_44, u99_45, u99_46, u99_47, u99_50, u99_51, u99_52, u99_55, u99_56, u99_57, u99_58, u99_61, u99_64, u99_65, u99_66, u99_69, u99_72, u99_73, u99_74, u99_77, u99_80, zk_mk_1, zk_mk_I, zk_mk_R, zk_mk_set, zk_mk_setR, zk_mk_cpy, zk_rv_some, zk_rv_none, Option.toList_some, Option.toList_none, List.cons_append, List.nil_append, reduceIte, eq_self, Nat.reduceLT, Nat.reduceEqDiff, and_true, true_and, reduceCtorEq, zsh_6, zsh_1, zsh_7, zrf_6_0, zsh_8, zrf_6_1, zsh_9, zrf_6_2, zsh_10, zrf_6_3, zsh_2, zrf_1_0, zsh_3, zrf_1_1, zsh_4, zrf_1_2, zsh_5, zrf_1_3, es, hn, z1, z2, zk_up2_k (show (2 : Nat) ≠ 7 by decide), zk_up2_k (show (2 : Nat) ≠ 8 by decide), zk_up2_k (show (2 : Nat) ≠ 9 by decide), zk_up2_k (show (2 : Nat) ≠ 10 by decide), zk_up2_k (show (3 : Nat) ≠ 7 by decide), zk_up2_k (show (3 : Nat) ≠ 8 by decide), zk_up2_k (show (3 : Nat) ≠ 9 by decide), zk_up2_k (show (3 : Nat) ≠ 10 by decide), zk_up2_k (show (4 : Nat) ≠ 7 by decide), zk_up2_k (show (4 : Nat) ≠ 8 by decide), zk_up2_k (show (4 : Nat) ≠ 9 by decide), zk_up2_k (show (4 : Nat) ≠ 10 by decide), zk_up2_k (show (5 : Nat) ≠ 7 by decide), zk_up2_k (show (5 : Nat) ≠ 8 by decide), zk_up2_k (show (5 : Nat) ≠ 9 by decide), zk_up2_k (show (5 : Nat) ≠ 10 by decide), e1, e2, e3, e4, nI_1]
      rw [if_neg (nI_ge hi (by omega))]
      refine ih _ ⟨fun j hj => ?_, fun c hc => ?_⟩
      · rw [zk_up2_r (by omega), zk_up2_r (by omega), zk_up2_r (by omega), zk_up2_r (by omega)]; exact h1 j hj
      · rw [zk_up2_k (show (7 : Nat) ≠ 10 by decide), zk_up2_k (show (7 : Nat) ≠ 9 by decide), zk_up2_k (show (7 : Nat) ≠ 8 by decide), zk_up2_k (show (8 : Nat) ≠ 10 by decide), zk_up2_k (show (8 : Nat) ≠ 9 by decide), zk_up2_k (show (9 : Nat) ≠ 10 by decide), zk_up2_i, zk_up2_i, zk_up2_i, zk_up2_i, zk_up2_k (show (8 : Nat) ≠ 7 by decide), zk_up2_k (show (9 : Nat) ≠ 8 by decide), zk_up2_k (show (9 : Nat) ≠ 7 by decide), zk_up2_k (show (10 : Nat) ≠ 9 by decide), zk_up2_k (show (10 : Nat) ≠ 8 by decide), zk_up2_k (show (10 : Nat) ≠ 7 by decide)]
        by_cases e : c = i
        · rw [if_pos e, if_pos e, if_pos e, if_pos e, e]
          exact ⟨rfl, rfl, rfl, rfl⟩
        · rw [if_neg e, if_neg e, if_neg e, if_neg e]
          exact h2 c (by omega))
  simp only [u99_0, u99_1, u99_3, u99_4, u99_7, u99_10, u99_11, u99_14, u99_15, u99_16, u99_19, u99_20, u99_21, u99_22, u99_23, u99_26, u99_27, u99_28, u99_31, u99_32, u99_33, u99_34, u99_35, u99_38, u99_39, u99_40, u99_43, u99_44, u99_45, u99_46, u99_47, u99_50, u99_51, u99_52, u99_55, u99_56, u99_57, u99_58, u99_61, u99_64, u99_65, u99_66, u99_69, u99_72, u99_73, u99_74, u99_77, u99_80, zk_mk_1, zk_mk_I, zk_mk_R, zk_mk_set, zk_mk_setR, zk_mk_cpy, zk_rv_some, zk_rv_none, Option.toList_some, Option.toList_none, List.cons_append, List.nil_append, reduceIte, eq_self, Nat.reduceLT, Nat.reduceEqDiff, and_true, true_and, reduceCtorEq]
  exact loop 0 I (Nat.zero_le _) ⟨fun _ _ => rfl, fun c hc => absurd hc (Nat.not_lt_zero _)⟩
theorem s99b {sc : zk_X} {d : Nat} {I : Nat → Nat → Int32} {tg : Option Nat} {P : Option Value → zk_M → Prop} {n : Nat} (h10 : n ≤ 10) (hn : I 6 4 = nI n)
    (K : ∀ I' : Nat → Nat → Int32, (∀ j, ¬ (1 ≤ j ∧ j ≤ 5) → I' j = I j) → (∀ b, b ≠ 4 → b ≠ 5 → I' 1 b = I 1 b) → I' 1 4 = nI n → I' 1 5 = I 6 5 → (∀ c, c < n → I' 2 c = I 7 c ∧ I' 3 c = I 8 c ∧ I' 4 c = I 9 c ∧ I' 5 c = I 10 c) → P none (zk_mk I' tg)) : zk_R sc d 99 0 [some (.ref (1 : Nat)), some (.ref (6 : Nat)), none] [] (zk_mk I tg) P := by
  have loop := zl_up (τ := Nat → Nat → Int32) (fun i I' => zk_R sc d 99 2 [some (.ref (1 : Nat)), some (.ref (6 : Nat)), some (.int (nI i))] [] (zk_mk I' tg) P)
    (fun i I' => (∀ j, ¬ (2 ≤ j ∧ j ≤ 5) → I' j = I j) ∧ ∀ c, c < i → I' 2 c = I 7 c ∧ I' 3 c = I 8 c ∧ I' 4 c = I 9 c ∧ I' 5 c = I 10 c) n (by
      rintro I' ⟨h1, h2⟩
      have es : I' 6 = I 6 := h1 6 (by omega)
      rw [u99_2]
      simp only [u99_0, u99_1, u99_3, u99_4, u99_7, u99_10, u99_11, u99_14, u99_15, u99_16, u99_19, u99_20, u99_21, u99_22, u99_23, u99_26, u99_27, u99_28, u99_31, u99_32, u99_33, u99_34, u99_35, u99_38, u99_39, u99_40, u99_43, u99_44, u99_45, u99_46, u99_47, u99_50, u99_51, u99_52, u99_55, u99_56, u99_57, u99_58, u99_61, u99_64, u99_65, u99_66, u99_69, u99_72, u99_73, u99_74, u99_77, u99_80, zk_mk_1, zk_mk_I, zk_mk_R, zk_mk_set, zk_mk_setR, zk_mk_cpy, zk_rv_some, zk_rv_none, Option.toList_some, Option.toList_none, List.cons_append, List.nil_append, reduceIte, eq_self, Nat.reduceLT, Nat.reduceEqDiff, and_true, true_and, reduceCtorEq, zsh_1, zsh_6, es, hn, zk_up2_k (show (6 : Nat) ≠ 1 by decide)]
      rw [if_pos (nI_le (Nat.le_refl _) (by omega))]
      refine K _ (fun j hj => ?_) (fun b b4 b5 => ?_) ?_ ?_ (fun c hc => ?_)
      · rw [zk_up2_r (by omega), zk_up2_r (by omega)]; exact h1 j (by omega)
      · rw [zk_up2_j b5, zk_up2_j b4, h1 1 (by omega)]
      · rw [zk_up2_j (by decide), zk_up2_s]
      · rw [zk_up2_s]
      · rw [zk_up2_k (show (2 : Nat) ≠ 1 by decide), zk_up2_k (show (2 : Nat) ≠ 1 by decide), zk_up2_k (show (3 : Nat) ≠ 1 by decide), zk_up2_k (show (3 : Nat) ≠ 1 by decide), zk_up2_k (show (4 : Nat) ≠ 1 by decide), zk_up2_k (show (4 : Nat) ≠ 1 by decide), zk_up2_k (show (5 : Nat) ≠ 1 by decide), zk_up2_k (show (5 : Nat) ≠ 1 by decide)]
        exact h2 c hc) (by
      rintro i I' hi ⟨h1, h2⟩ ih
      have es : I' 6 = I 6 := h1 6 (by omega)
      have e1 : I' 7 = I 7 := h1 _ (by omega)
      have e2 : I' 8 = I 8 := h1 _ (by omega)
      have e3 : I' 9 = I 9 := h1 _ (by omega)
      have e4 : I' 10 = I 10 := h1 _ (by omega)
      have z1 : zk_inb (nI i) 10 = true := by rw [zn_in (by omega)]; omega
      have z2 : (nI i).toNatClampNeg = i := zn_cl (by omega)
      rw [u99_2]
      simp only [u99_0, u99_1, u99_3, u99_4, u99_7, u99_10, u99_11, u99_14, u99_15, u99_16, u99_19, u99_20, u99_21, u99_22, u99_23, u99_26, u99_27, u99_28, u99_31, u99_32, u99_33, u99_34, u99_35, u99_38, u99_39, u99_40, u99_43, u99_44, u99_45, u99_46, u99_47, u99_50, u99_51, u99_52, u99_55, u99_56, u99_57, u99_58, u99_61, u99_64, u99_65, u99_66, u99_69, u99_72, u99_73, u99_74, u99_77, u99_80, zk_mk_1, zk_mk_I, zk_mk_R, zk_mk_set, zk_mk_setR, zk_mk_cpy, zk_rv_some, zk_rv_none, Option.toList_some, Option.toList_none, List.cons_append, List.nil_append, reduceIte, eq_self, Nat.reduceLT, Nat.reduceEqDiff, and_true, true_and, reduceCtorEq, zsh_1, zsh_6, zsh_2, zrf_1_0, zsh_3, zrf_1_1, zsh_4, zrf_1_2, zsh_5, zrf_1_3, zsh_7, zrf_6_0, zsh_8, zrf_6_1, zsh_9, zrf_6_2, zsh_10, zrf_6_3, es, hn, z1, z2, zk_up2_k (show (7 : Nat) ≠ 2 by decide), zk_up2_k (show (7 : Nat) ≠ 3 by decide), zk_up2_k (show (7 : Nat) ≠ 4 by decide), zk_up2_k (show (7 : Nat) ≠ 5 by decide), zk_up2_k (show (8 : Nat) ≠ 2 by decide), zk_up2_k (show (8 : Nat) ≠ 3 by decide), zk_up2_k (show (8 : Nat) ≠ 4 by decide), zk_up2_k (show (8 : Nat) ≠ 5 by decide), zk_up2_k (show (9 : Nat) ≠ 2 by decide), zk_up2_k (show (9 : Nat) ≠ 3 by decide), zk_up2_k (show (9 : Nat) ≠ 4 by decide), zk_up2_k (show (9 : Nat) ≠ 5 by decide), zk_up2_k (show (10 : Nat) ≠ 2 by decide), zk_up2_k (show (10 : Nat) ≠ 3 by decide), zk_up2_k (show (10 : Nat) ≠ 4 by decide), zk_up2_k (show (10 : Nat) ≠ 5 by decide), e1, e2, e3, e4, nI_1]
      rw [if_neg (nI_ge hi (by omega))]
      refine ih _ ⟨fun j hj => ?_, fun c hc => ?_⟩
      · rw [zk_up2_r (by omega), zk_up2_r (by omega), zk_up2_r (by omega), zk_up2_r (by omega)]; exact h1 j hj
      · rw [zk_up2_k (show (2 : Nat) ≠ 5 by decide), zk_up2_k (show (2 : Nat) ≠ 4 by decide), zk_up2_k (show (2 : Nat) ≠ 3 by decide), zk_up2_k (show (3 : Nat) ≠ 5 by decide), zk_up2_k (show (3 : Nat) ≠ 4 by decide), zk_up2_k (show (4 : Nat) ≠ 5 by decide), zk_up2_i, zk_up2_i, zk_up2_i, zk_up2_i, zk_up2_k (show (3 : Nat) ≠ 2 by decide), zk_up2_k (show (4 : Nat) ≠ 3 by decide), zk_up2_k (show (4 : Nat) ≠ 2 by decide), zk_up2_k (show (5 : Nat) ≠ 4 by decide), zk_up2_k (show (5 : Nat) ≠ 3 by decide), zk_up2_k (show (5 : Nat) ≠ 2 by decide)]
        by_cases e : c = i
        · rw [if_pos e, if_pos e, if_pos e, if_pos e, e]
          exact ⟨rfl, rfl, rfl, rfl⟩
        · rw [if_neg e, if_neg e, if_neg e, if_neg e]
          exact h2 c (by omega))
  simp only [u99_0, u99_1, u99_3, u99_4, u99_7, u99_10, u99_11, u99_14, u99_15, u99_16, u99_19, u99_20, u99_21, u99_22, u99_23, u99_26, u99_27, u99_28, u99_31, u99_32, u99_33, u99_34, u99_35, u99_38, u99_39, u99_40, u99_43, u99_44, u99_45, u99_46, u99_47, u99_50, u99_51, u99_52, u99_55, u99_56, u99_57, u99_58, u99_61, u99_64, u99_65, u99_66, u99_69, u99_72, u99_73, u99_74, u99_77, u99_80, zk_mk_1, zk_mk_I, zk_mk_R, zk_mk_set, zk_mk_setR, zk_mk_cpy, zk_rv_some, zk_rv_none, Option.toList_some, Option.toList_none, List.cons_append, List.nil_append, reduceIte, eq_self, Nat.reduceLT, Nat.reduceEqDiff, and_true, true_and, reduceCtorEq]
  exact loop 0 I (Nat.zero_le _) ⟨fun _ _ => rfl, fun c hc => absurd hc (Nat.not_lt_zero _)⟩
/-- what an image leaves, before the reference makes its own -/
def zMi (I I1 : Nat → Nat → Int32) (n : Nat) : Prop := (∀ j, j ≠ 0 → ¬ (6 ≤ j ∧ j ≤ 10) → I1 j = I j) ∧ (∀ b, b ≠ 2 → I1 0 b = I 0 b) ∧ I1 0 2 = 1 ∧ I1 6 4 = nI n ∧ I1 6 5 = I 1 5 ∧ ∀ c, c < n → I1 7 c = I 2 c ∧ I1 8 c = I 3 c ∧ I1 9 c = I 4 c ∧ I1 10 c = I 5 c
theorem s52 {sc : zk_X} {d : Nat} {I : Nat → Nat → Int32} {tg : Option Nat} {P : Option Value → zk_M → Prop} {n : Nat} (h10 : n ≤ 10) (hn : I 1 4 = nI n) (K : ∀ I1 : Nat → Nat → Int32, zMi I I1 n → P (some (.int (nI n))) (zk_mk I1 tg)) : zk_R sc (d + 1) 52 0 [some (.ref (0 : Nat))] [] (zk_mk I tg) P := by
  simp only [u52_0, u52_1, u52_4, u52_5, u52_8, u52_11, u52_12, u52_13, u52_16, u52_17, u52_20, u52_23, zk_mk_1, zk_mk_I, zk_mk_R, zk_mk_set, zk_mk_setR, zk_mk_cpy, zk_rv_some, zk_rv_none, Option.toList_some, Option.toList_none, List.cons_append, List.nil_append, reduceIte, eq_self, Nat.reduceLT, Nat.reduceEqDiff, and_true, true_and, reduceCtorEq, zsh_0, zsh_1, zsh_6, zrf_0_0, zrf_0_1, or_true]
  refine s99a h10 hn (fun I' h1 h2 h3 h4 h5 => ?_)
  simp only [u52_0, u52_1, u52_4, u52_5, u52_8, u52_11, u52_12, u52_13, u52_16, u52_17, u52_20, u52_23, zk_mk_1, zk_mk_I, zk_mk_R, zk_mk_set, zk_mk_setR, zk_mk_cpy, zk_rv_some, zk_rv_none, Option.toList_some, Option.toList_none, List.cons_append, List.nil_append, reduceIte, eq_self, Nat.reduceLT, Nat.reduceEqDiff, and_true, true_and, reduceCtorEq, zsh_0, zsh_6, zrf_0_1, or_true, zk_up2_k (show (6 : Nat) ≠ 0 by decide), h3]
  refine K _ ⟨fun j j1 j2 => ?_, fun b hb => ?_, ?_, ?_, ?_, fun c hc => ?_⟩
  · rw [zk_up2_r j1]; exact h1 j j2
  · rw [zk_up2_j hb, h1 0 (by omega)]
  · rw [zk_up2_s]
  · rw [zk_up2_k (by decide)]; exact h3
  · rw [zk_up2_k (by decide)]; exact h4
  · rw [zk_up2_k (by decide), zk_up2_k (by decide), zk_up2_k (by decide), zk_up2_k (by decide)]; exact h5 c hc
theorem s208 {sc : zk_X} {d : Nat} {I I1 : Nat → Nat → Int32} {tg : Option Nat} {P : Option Value → zk_M → Prop} {n t q m : Nat} {TT EE : Nat → Nat → Nat} {Z : Nat → Nat} (hJ : zJ I n t q m TT EE Z) (hM : zMi I I1 n) (K : ∀ I2 : Nat → Nat → Int32, zJ I2 n t q m TT EE Z → P (some (.int (nI n))) (zk_mk I2 tg)) : zk_R sc d 208 0 [some (.ref (60 : Nat)), none] [] (zk_mk I1 tg) P := by
  obtain ⟨a, b, c, dd, e, f, g⟩ := hJ
  obtain ⟨m1, m2, m3, m4, m5, m6⟩ := hM
  have h10 := a.2.2.1
  have e60 : I1 60 = I 60 := m1 60 (by decide) (by omega)
  have loop := zl_up (τ := Nat → Nat → Int32) (fun i I' => zk_R sc d 208 23 [some (.ref (60 : Nat)), some (.int (nI i))] [] (zk_mk I' tg) P)
    (fun i I' => (∀ j, j ≠ 60 → j ≠ 68 → I' j = I1 j) ∧ (∀ b, b ≠ 11 → b ≠ 12 → b ≠ 13 → I' 60 b = I 60 b) ∧ I' 60 11 = 1 ∧ I' 60 12 = nI n ∧ I' 60 13 = I 60 10 ∧ ∀ c, c < i → I' 68 c = I 61 c ∧ I' 68 (10 + c) = I 62 c ∧ I' 68 (20 + c) = I 63 c ∧ I' 68 (30 + c) = I 64 c) 10 (by
      rintro I' ⟨h1, h2, h3, h4, h5, h6⟩
      rw [u208_23]
      have hcond : (10 : Int32) ≤ nI 10 := by decide
      simp only [u208_0, u208_1, u208_2, u208_5, u208_6, u208_7, u208_10, u208_13, u208_14, u208_15, u208_18, u208_21, u208_22, u208_24, u208_26, u208_29, u208_30, u208_33, u208_34, u208_35, u208_38, u208_39, u208_40, u208_41, u208_42, u208_45, u208_47, u208_48, u208_49, u208_50, u208_53, u208_54, u208_55, u208_56, u208_57, u208_60, u208_62, u208_63, u208_64, u208_65, u208_68, u208_69, u208_70, u208_71, u208_72, u208_75, u208_77, u208_78, u208_79, u208_80, u208_83, u208_84, u208_85, u208_86, u208_89, u208_92, u208_93, u208_96, zk_mk_1, zk_mk_I, zk_mk_R, zk_mk_set, zk_mk_setR, zk_mk_cpy, zk_rv_some, zk_rv_none, Option.toList_some, Option.toList_none, List.cons_append, List.nil_append, reduceIte, eq_self, Nat.reduceLT, Nat.reduceEqDiff, and_true, true_and, reduceCtorEq, zsh_60, h2 0 (by decide) (by decide) (by decide), a.2.1]
      first | rw [if_pos hcond] | rw [if_neg (Int32.not_lt.mpr hcond)]
      have o : ∀ j, j ≠ 0 → ¬ (6 ≤ j ∧ j ≤ 10) → j ≠ 60 → j ≠ 68 → I' j = I j := fun j j1 j2 j3 j4 => by rw [h1 j j3 j4, m1 j j1 j2]
      have o0 : I' 0 = I1 0 := h1 0 (by decide) (by decide)
      refine K I' ⟨a.cg (by rw [o 1 (by decide) (by omega) (by decide) (by decide)]) (h2 0 (by decide) (by decide) (by decide)) (fun j hj => o j (by omega) (by omega) (by omega) (by omega)), b.cg (by rw [o 1 (by decide) (by omega) (by decide) (by decide)]) (h2 10 (by decide) (by decide) (by decide)), c.cg (by rw [o0, m2 5 (by decide)]) (h2 9 (by decide) (by decide) (by decide)) (fun j hj => o j (by omega) (by omega) (by omega) (by omega)), dd.cg (by rw [o 11 (by decide) (by omega) (by decide) (by decide)]) (h2 6 (by decide) (by decide) (by decide)) (o 12 (by decide) (by omega) (by decide) (by decide)) (o 65 (by decide) (by omega) (by decide) (by decide)), e.cg (fun j hj => o j (by omega) (by omega) (by omega) (by omega)), ⟨by rw [h3, o0, m3], fun _ => ⟨n, t, h10, b.2.2, ?_, h4, ?_, ?_, fun c hc => ?_⟩⟩, g.cg (o 73 (by decide) (by omega) (by decide) (by decide))⟩
      · rw [h1 6 (by decide) (by decide)]; exact m4
      · rw [h1 6 (by decide) (by decide), m5]; exact b.1
      · rw [h5]; exact b.2.1
      · obtain ⟨q1, q2, q3, q4⟩ := h6 c (by omega)
        obtain ⟨r1, r2, r3, r4⟩ := m6 c hc
        have := a.2.2.2 c hc
        unfold zj_card at this
        unfold zj_ic
        rw [h1 7 (by decide) (by decide), h1 8 (by decide) (by decide), h1 9 (by decide) (by decide), h1 10 (by decide) (by decide), q1, q2, q3, q4, r1, r2, r3, r4]
        exact this) (by
      rintro i I' hi ⟨h1, h2, h3, h4, h5, h6⟩ ih
      have k1 : I' 61 i = I 61 i := by rw [h1 61 (by decide) (by decide), m1 61 (by decide) (by omega)]
      have k2 : I' 62 i = I 62 i := by rw [h1 62 (by decide) (by decide), m1 62 (by decide) (by omega)]
      have k3 : I' 63 i = I 63 i := by rw [h1 63 (by decide) (by decide), m1 63 (by decide) (by omega)]
      have k4 : I' 64 i = I 64 i := by rw [h1 64 (by decide) (by decide), m1 64 (by decide) (by omega)]
      have z1 : zk_inb (nI i) 10 = true := by rw [zn_in (by omega)]; omega
      have z2 : (nI i).toNatClampNeg = i := zn_cl (by omega)
      have z3 : zk_inb (nI i) 40 = true := by rw [zn_in (by omega)]; omega
      have e1 : (10 : Int32) + nI i = nI (10 + i) := zn_add 10 i
      have e2 : (20 : Int32) + nI i = nI (20 + i) := zn_add 20 i
      have e3 : (30 : Int32) + nI i = nI (30 + i) := zn_add 30 i
      have z4 : zk_inb (nI (10 + i)) 40 = true := by rw [zn_in (by omega)]; omega
      have z5 : (nI (10 + i)).toNatClampNeg = 10 + i := zn_cl (by omega)
      have z6 : zk_inb (nI (20 + i)) 40 = true := by rw [zn_in (by omega)]; omega
      have z7 : (nI (20 + i)).toNatClampNeg = 20 + i := zn_cl (by omega)
      have z8 : zk_inb (nI (30 + i)) 40 = true := by rw [zn_in (by omega)]; omega
      have z9 : (nI (30 + i)).toNatClampNeg = 30 + i := zn_cl (by omega)
      have hcond : ¬ (10 : Int32) ≤ nI i := nI_ge (b := 10) hi (by decide)
      rw [u208_23]
      simp only [u208_0, u208_1, u208_2, u208_5, u208_6, u208_7, u208_10, u208_13, u208_14, u208_15, u208_18, u208_21, u208_22, u208_24, u208_26, u208_29, u208_30, u208_33, u208_34, u208_35, u208_38, u208_39, u208_40, u208_41, u208_42, u208_45, u208_47, u208_48, u208_49, u208_50, u208_53, u208_54, u208_55, u208_56, u208_57, u208_60, u208_62, u208_63, u208_64, u208_65, u208_68, u208_69, u208_70, u208_71, u208_72, u208_75, u208_77, u208_78, u208_79, u208_80, u208_83, u208_84, u208_85, u208_86, u208_89, u208_92, u208_93, u208_96, zk_mk_1, zk_mk_I, zk_mk_R, zk_mk_set, zk_mk_setR, zk_mk_cpy, zk_rv_some, zk_rv_none, Option.toList_some, Option.toList_none, List.cons_append, List.nil_append, reduceIte, eq_self, Nat.reduceLT, Nat.reduceEqDiff, and_true, true_and, reduceCtorEq, zsh_60, zsh_61, zsh_62, zsh_63, zsh_64, zsh_68, zrf_60_1, zrf_60_2, zrf_60_3, zrf_60_4, zrf_60_14, z1, z2, z3, e1, e2, e3, z4, z5, z6, z7, z8, z9, zk_up2_k (show (62 : Nat) ≠ 68 by decide), zk_up2_k (show (63 : Nat) ≠ 68 by decide), zk_up2_k (show (64 : Nat) ≠ 68 by decide), k1, k2, k3, k4, hcond, nI_1]
      refine ih _ ⟨fun j j1 j2 => ?_, fun b b1 b2 b3 => ?_, ?_, ?_, ?_, fun c hc => ?_⟩
      · rw [zk_up2_r j2, zk_up2_r j2, zk_up2_r j2, zk_up2_r j2]; exact h1 j j1 j2
      · rw [zk_up2_k (by decide), zk_up2_k (by decide), zk_up2_k (by decide), zk_up2_k (by decide)]; exact h2 b b1 b2 b3
      · rw [zk_up2_k (by decide), zk_up2_k (by decide), zk_up2_k (by decide), zk_up2_k (by decide)]; exact h3
      · rw [zk_up2_k (by decide), zk_up2_k (by decide), zk_up2_k (by decide), zk_up2_k (by decide)]; exact h4
      · rw [zk_up2_k (by decide), zk_up2_k (by decide), zk_up2_k (by decide), zk_up2_k (by decide)]; exact h5
      · have hc10 : c < 10 := by omega
        simp only [zk_up2_i]
        by_cases ec : c = i
        · subst ec
          rw [if_neg (by omega), if_neg (by omega), if_neg (by omega), if_pos rfl, if_neg (by omega), if_neg (by omega), if_pos rfl, if_neg (by omega), if_pos rfl, if_pos rfl]
          exact ⟨rfl, rfl, rfl, rfl⟩
        · have := h6 c (by omega)
          rw [if_neg (by omega), if_neg (by omega), if_neg (by omega), if_neg ec, if_neg (by omega), if_neg (by omega), if_neg (by omega), if_neg (by omega), if_neg (by omega), if_neg (by omega), if_neg (by omega), if_neg (by omega), if_neg (by omega), if_neg (by omega), if_neg (by omega), if_neg (by omega)]
          exact this)
  simp only [u208_0, u208_1, u208_2, u208_5, u208_6, u208_7, u208_10, u208_13, u208_14, u208_15, u208_18, u208_21, u208_22, u208_24, u208_26, u208_29, u208_30, u208_33, u208_34, u208_35, u208_38, u208_39, u208_40, u208_41, u208_42, u208_45, u208_47, u208_48, u208_49, u208_50, u208_53, u208_54, u208_55, u208_56, u208_57, u208_60, u208_62, u208_63, u208_64, u208_65, u208_68, u208_69, u208_70, u208_71, u208_72, u208_75, u208_77, u208_78, u208_79, u208_80, u208_83, u208_84, u208_85, u208_86, u208_89, u208_92, u208_93, u208_96, zk_mk_1, zk_mk_I, zk_mk_R, zk_mk_set, zk_mk_setR, zk_mk_cpy, zk_rv_some, zk_rv_none, Option.toList_some, Option.toList_none, List.cons_append, List.nil_append, reduceIte, eq_self, Nat.reduceLT, Nat.reduceEqDiff, and_true, true_and, reduceCtorEq, zsh_60, or_true, zk_up2_j (show (0 : Nat) ≠ 11 by decide), zk_up2_j (show (10 : Nat) ≠ 12 by decide), zk_up2_j (show (10 : Nat) ≠ 11 by decide), e60, a.2.1]
  refine loop 0 _ (Nat.zero_le _) ⟨fun j j1 _ => ?_, fun b b1 b2 b3 => ?_, ?_, ?_, ?_, fun c hc => absurd hc (Nat.not_lt_zero _)⟩
  · rw [zk_up2_r j1, zk_up2_r j1, zk_up2_r j1]
  · rw [zk_up2_j b3, zk_up2_j b2, zk_up2_j b1, e60]
  · rw [zk_up2_j (by decide), zk_up2_j (by decide), zk_up2_s]
  · rw [zk_up2_j (by decide), zk_up2_s]
  · rw [zk_up2_s]
