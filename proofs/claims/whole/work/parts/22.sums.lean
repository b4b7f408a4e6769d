/-! the rows of all sums: by the class from the row of one card less, by the reference one by one -/
theorem s64 {sc : zk_X} {d : Nat} {I : Nat → Nat → Int32} {tg : Option Nat} {P : Option Value → zk_M → Prop} {n : Nat} (h10 : n ≤ 10)
    (K : ∀ I' : Nat → Nat → Int32, (∀ j, j ≠ 18 → j ≠ 19 → I' j = I j) → zv_rows I' 18 19 (I 16) n → P none (zk_mk I' tg)) : zk_R sc d 64 0 [some (.ref (15 : Nat)), some (.int (nI n)), none, none, none] [] (zk_mk I tg) P := by
  have loop := zl_up (τ := (Nat → Nat → Int32) × Option Value × Option Value) (fun i q => zk_R sc d 64 16 [some (.ref (15 : Nat)), some (.int (nI n)), some (.int (nI i)), q.2.1, q.2.2] [] (zk_mk q.1 tg) P)
    (fun i q => (∀ j, j ≠ 18 → j ≠ 19 → q.1 j = I j) ∧ zv_rows q.1 18 19 (I 16) i) n (by
      rintro ⟨I', x3, x4⟩ ⟨h1, h2⟩
      show zk_R sc d 64 16 [some (.ref (15 : Nat)), some (.int (nI n)), some (.int (nI n)), x3, x4] [] (zk_mk I' tg) P
      rw [u64_16]
      simp only [u64_0, u64_1, u64_4, u64_5, u64_6, u64_7, u64_8, u64_11, u64_12, u64_13, u64_14, u64_15, u64_17, u64_18, u64_21, u64_22, u64_24, u64_27, u64_28, u64_29, u64_30, u64_31, u64_32, u64_34, u64_36, u64_37, u64_40, u64_41, u64_44, u64_46, u64_47, u64_48, u64_49, u64_52, u64_54, u64_55, u64_56, u64_59, u64_60, u64_61, u64_62, u64_63, u64_64, u64_67, u64_69, u64_70, u64_71, u64_72, u64_75, u64_77, u64_78, u64_79, u64_82, u64_83, u64_84, u64_85, u64_88, u64_89, u64_90, u64_91, u64_92, u64_93, u64_96, u64_99, u64_102, u64_105, zk_mk_1, zk_mk_I, zk_mk_R, zk_mk_set, zk_mk_setR, zk_mk_cpy, zk_rv_some, zk_rv_none, Option.toList_some, Option.toList_none, List.cons_append, List.nil_append, reduceIte, eq_self, Nat.reduceLT, Nat.reduceEqDiff, and_true, true_and, reduceCtorEq]
      rw [if_pos (nI_le (Nat.le_refl _) (by omega))]
      exact K I' h1 h2) (by
      rintro i ⟨I', x3, x4⟩ hi ⟨h1, h2⟩ ih
      show zk_R sc d 64 16 [some (.ref (15 : Nat)), some (.int (nI n)), some (.int (nI i)), x3, x4] [] (zk_mk I' tg) P
      have p10 := zp_10 (n := i) (by omega)
      have p9 : 2 ^ i ≤ 512 := Nat.le_trans (Nat.pow_le_pow_right (by omega) (show i ≤ 9 by omega)) (by decide)
      have inner := zl_up (τ := Nat → Nat → Int32) (fun g I2 => zk_R sc d 64 34 [some (.ref (15 : Nat)), some (.int (nI n)), some (.int (nI i)), some (.int (nI (2 ^ i))), some (.int (nI g))] [] (zk_mk I2 tg) P)
        (fun g I2 => (∀ j, j ≠ 18 → j ≠ 19 → I2 j = I j) ∧ zv_rows I2 18 19 (I 16) i ∧ ∀ h, h < g → I2 18 (2 ^ i + h) = zsum (I 16) h i + I 16 i ∧ I2 19 (2 ^ i + h) = zsum (fun c => I 16 c * I 16 c) h i + I 16 i * I 16 i) (2 ^ i) (by
          rintro I2 ⟨g1, g2, g3⟩
          show zk_R sc d 64 34 [some (.ref (15 : Nat)), some (.int (nI n)), some (.int (nI i)), some (.int (nI (2 ^ i))), some (.int (nI (2 ^ i)))] [] (zk_mk I2 tg) P
          rw [u64_34]
          simp only [u64_0, u64_1, u64_4, u64_5, u64_6, u64_7, u64_8, u64_11, u64_12, u64_13, u64_14, u64_15, u64_17, u64_18, u64_21, u64_22, u64_24, u64_27, u64_28, u64_29, u64_30, u64_31, u64_32, u64_36, u64_37, u64_40, u64_41, u64_44, u64_46, u64_47, u64_48, u64_49, u64_52, u64_54, u64_55, u64_56, u64_59, u64_60, u64_61, u64_62, u64_63, u64_64, u64_67, u64_69, u64_70, u64_71, u64_72, u64_75, u64_77, u64_78, u64_79, u64_82, u64_83, u64_84, u64_85, u64_88, u64_89, u64_90, u64_91, u64_92, u64_93, u64_96, u64_99, u64_102, u64_105, zk_mk_1, zk_mk_I, zk_mk_R, zk_mk_set, zk_mk_setR, zk_mk_cpy, zk_rv_some, zk_rv_none, Option.toList_some, Option.toList_none, List.cons_append, List.nil_append, reduceIte, eq_self, Nat.reduceLT, Nat.reduceEqDiff, and_true, true_and, reduceCtorEq]
          rw [if_pos (nI_le (Nat.le_refl _) (by omega)), nI_1]
          refine ih (I2, _, _) ⟨g1, fun h hh => ?_⟩
          by_cases hl : h < 2 ^ i
          · rw [zs_lo hl, zs_lo hl]; exact g2 h hl
          · have hh2 : h < 2 * 2 ^ i := by rw [Nat.pow_succ] at hh; omega
            obtain ⟨g, rfl⟩ : ∃ g, h = 2 ^ i + g := ⟨h - 2 ^ i, by omega⟩
            rw [zs_hi (by omega), zs_hi (by omega)]
            exact g3 g (by omega)) (by
          rintro g I2 hg ⟨g1, g2, g3⟩ ih2
          show zk_R sc d 64 34 [some (.ref (15 : Nat)), some (.int (nI n)), some (.int (nI i)), some (.int (nI (2 ^ i))), some (.int (nI g))] [] (zk_mk I2 tg) P
          have e16 : I2 16 = I 16 := g1 16 (by decide) (by decide)
          rw [u64_34]
          simp only [u64_0, u64_1, u64_4, u64_5, u64_6, u64_7, u64_8, u64_11, u64_12, u64_13, u64_14, u64_15, u64_17, u64_18, u64_21, u64_22, u64_24, u64_27, u64_28, u64_29, u64_30, u64_31, u64_32, u64_36, u64_37, u64_40, u64_41, u64_44, u64_46, u64_47, u64_48, u64_49, u64_52, u64_54, u64_55, u64_56, u64_59, u64_60, u64_61, u64_62, u64_63, u64_64, u64_67, u64_69, u64_70, u64_71, u64_72, u64_75, u64_77, u64_78, u64_79, u64_82, u64_83, u64_84, u64_85, u64_88, u64_89, u64_90, u64_91, u64_92, u64_93, u64_96, u64_99, u64_102, u64_105, zk_mk_1, zk_mk_I, zk_mk_R, zk_mk_set, zk_mk_setR, zk_mk_cpy, zk_rv_some, zk_rv_none, Option.toList_some, Option.toList_none, List.cons_append, List.nil_append, reduceIte, eq_self, Nat.reduceLT, Nat.reduceEqDiff, and_true, true_and, reduceCtorEq, zsh_15, zsh_16, zsh_18, zsh_19, zrf_15_0, zrf_15_2, zrf_15_4]
          rw [if_neg (nI_ge hg (by omega)), zq_or, zor_add hg]
          simp (disch := omega) only [zn_in, zn_cl, nI_1, zk_up2_k (show (16 : Nat) ≠ 18 by decide), zk_up2_k (show (19 : Nat) ≠ 18 by decide), e16]
          refine ⟨by omega, by omega, by omega, by omega, by omega, by omega, by omega, ?_⟩
          refine ih2 _ ⟨fun j j1 j2 => ?_, fun h hh => ?_, fun h hh => ?_⟩
          · rw [zk_up2_r j2, zk_up2_r j1]; exact g1 j j1 j2
          · rw [zk_up2_k (show (18 : Nat) ≠ 19 by decide), zk_up2_i, zk_up2_i, if_neg (by omega), if_neg (by omega), zk_up2_k (show (19 : Nat) ≠ 18 by decide)]
            exact g2 h hh
          · rw [zk_up2_k (show (18 : Nat) ≠ 19 by decide), zk_up2_i, zk_up2_i, zk_up2_k (show (19 : Nat) ≠ 18 by decide)]
            by_cases hgh : h = g
            · subst hgh
              rw [if_pos rfl, if_pos rfl, (g2 h (by omega)).1, (g2 h (by omega)).2]
              exact ⟨rfl, rfl⟩
            · rw [if_neg (by omega), if_neg (by omega)]
              exact g3 h (by omega))
      rw [u64_16]
      simp only [u64_0, u64_1, u64_4, u64_5, u64_6, u64_7, u64_8, u64_11, u64_12, u64_13, u64_14, u64_15, u64_17, u64_18, u64_21, u64_22, u64_24, u64_27, u64_28, u64_29, u64_30, u64_31, u64_32, u64_36, u64_37, u64_40, u64_41, u64_44, u64_46, u64_47, u64_48, u64_49, u64_52, u64_54, u64_55, u64_56, u64_59, u64_60, u64_61, u64_62, u64_63, u64_64, u64_67, u64_69, u64_70, u64_71, u64_72, u64_75, u64_77, u64_78, u64_79, u64_82, u64_83, u64_84, u64_85, u64_88, u64_89, u64_90, u64_91, u64_92, u64_93, u64_96, u64_99, u64_102, u64_105, zk_mk_1, zk_mk_I, zk_mk_R, zk_mk_set, zk_mk_setR, zk_mk_cpy, zk_rv_some, zk_rv_none, Option.toList_some, Option.toList_none, List.cons_append, List.nil_append, reduceIte, eq_self, Nat.reduceLT, Nat.reduceEqDiff, and_true, true_and, reduceCtorEq]
      rw [if_neg (nI_ge hi (by omega)), if_neg (show ¬ (10 : Int32) ≤ nI i from nI_ge (b := 10) (by omega) (by decide)), zq_pow (by omega)]
      exact inner 0 I' (Nat.zero_le _) ⟨h1, h2, fun h hh => absurd hh (Nat.not_lt_zero _)⟩)
  simp only [u64_0, u64_1, u64_4, u64_5, u64_6, u64_7, u64_8, u64_11, u64_12, u64_13, u64_14, u64_15, u64_17, u64_18, u64_21, u64_22, u64_24, u64_27, u64_28, u64_29, u64_30, u64_31, u64_32, u64_34, u64_36, u64_37, u64_40, u64_41, u64_44, u64_46, u64_47, u64_48, u64_49, u64_52, u64_54, u64_55, u64_56, u64_59, u64_60, u64_61, u64_62, u64_63, u64_64, u64_67, u64_69, u64_70, u64_71, u64_72, u64_75, u64_77, u64_78, u64_79, u64_82, u64_83, u64_84, u64_85, u64_88, u64_89, u64_90, u64_91, u64_92, u64_93, u64_96, u64_99, u64_102, u64_105, zk_mk_1, zk_mk_I, zk_mk_R, zk_mk_set, zk_mk_setR, zk_mk_cpy, zk_rv_some, zk_rv_none, Option.toList_some, Option.toList_none, List.cons_append, List.nil_append, reduceIte, eq_self, Nat.reduceLT, Nat.reduceEqDiff, and_true, true_and, reduceCtorEq, zsh_15, zsh_18, zsh_19, zrf_15_2, zrf_15_4, show zk_inb (0 : Int32) 1024 = true from by decide, show (0 : Int32).toNatClampNeg = 0 from by decide]
  refine loop 0 (_, none, none) (Nat.zero_le _) ⟨fun j j1 j2 => ?_, fun h hh => ?_⟩
  · show zk_up2 (zk_up2 I 18 0 0) 19 0 0 j = I j
    rw [zk_up2_r j2, zk_up2_r j1]
  · have h0 : h = 0 := by simpa using hh
    subst h0
    show zk_up2 (zk_up2 I 18 0 0) 19 0 0 18 0 = _ ∧ zk_up2 (zk_up2 I 18 0 0) 19 0 0 19 0 = _
    rw [zk_up2_k (by decide), zk_up2_s, zk_up2_s]
    exact ⟨rfl, rfl⟩
theorem s21 {sc : zk_X} {d : Nat} {I : Nat → Nat → Int32} {tg : Option Nat} {P : Option Value → zk_M → Prop} {n t : Nat} {T e : Nat → Nat} (hj : zj_tab I n) (ht : t < 6) (hl : I 1 5 = nI t) (hx : zj_text I t T e)
    (K : ∀ I' : Nat → Nat → Int32, zF I I' → (∀ c, c < n → I' 16 c = zv_now I n T e c) → I' 15 3 = nI (2 ^ n - 1) → zv_rows I' 18 19 (zv_now I n T e) n → P none (zk_mk I' tg)) : zk_R sc (d + 5) 21 0 [some (.ref (0 : Nat))] [] (zk_mk I tg) P := by
  obtain ⟨w1, w2, w3, w4⟩ := zx_83 ht
  simp only [u21_0, u21_1, u21_2, u21_5, u21_8, u21_9, u21_12, u21_13, u21_16, u21_19, u21_22, zk_mk_1, zk_mk_I, zk_mk_R, zk_mk_set, zk_mk_setR, zk_mk_cpy, zk_rv_some, zk_rv_none, Option.toList_some, Option.toList_none, List.cons_append, List.nil_append, reduceIte, eq_self, Nat.reduceLT, Nat.reduceEqDiff, and_true, true_and, reduceCtorEq, zsh_0, s7 ht hl, zx_28 ht, w1]
  refine s17 hj ht hx (fun I' h1 h2 h3 => ?_)
  have hj' := h1.tab hj
  simp only [u21_0, u21_1, u21_2, u21_5, u21_8, u21_9, u21_12, u21_13, u21_16, u21_19, u21_22, zk_mk_1, zk_mk_I, zk_mk_R, zk_mk_set, zk_mk_setR, zk_mk_cpy, zk_rv_some, zk_rv_none, Option.toList_some, Option.toList_none, List.cons_append, List.nil_append, reduceIte, eq_self, Nat.reduceLT, Nat.reduceEqDiff, and_true, true_and, reduceCtorEq, zsh_0, zsh_1, zsh_15, zrf_0_0, zrf_0_7, hj'.1]
  refine s64 hj.2.2.1 (fun I2 g1 g2 => ?_)
  simp only [u21_0, u21_1, u21_2, u21_5, u21_8, u21_9, u21_12, u21_13, u21_16, u21_19, u21_22, zk_mk_1, zk_mk_I, zk_mk_R, zk_mk_set, zk_mk_setR, zk_mk_cpy, zk_rv_some, zk_rv_none, Option.toList_some, Option.toList_none, List.cons_append, List.nil_append, reduceIte, eq_self, Nat.reduceLT, Nat.reduceEqDiff, and_true, true_and, reduceCtorEq]
  refine K I2 (h1.trans (fun j hj => g1 j (by have := zKp_no hj; omega) (by have := zKp_no hj; omega))) (fun c hc => ?_) ?_ (fun h hh => ?_)
  · rw [g1 16 (by decide) (by decide)]; exact h2 c hc
  · rw [g1 15 (by decide) (by decide)]; exact h3
  · obtain ⟨a, b⟩ := g2 h hh
    rw [a, b]
    refine ⟨zsum_ext (fun c hc => h2 c hc), zsum_ext (fun c hc => ?_)⟩
    rw [h2 c hc]
