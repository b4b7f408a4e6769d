/-! weigh, where the two sides need not agree on where the cards lie -/
theorem zF.tabw {I I' : Nat → Nat → Int32} {n : Nat} (h : zF I I') (hj : zj_tabw I n) : zj_tabw I' n := by
  unfold zj_tabw zj_cardw at *
  rw [h 1 rfl, h 60 rfl, h 2 rfl, h 3 rfl, h 4 rfl, h 61 rfl, h 62 rfl, h 63 rfl]
  exact hj
theorem s8w {sc : zk_X} {d : Nat} {I : Nat → Nat → Int32} {tg : Option Nat} {P : Option Value → zk_M → Prop} {n t p c : Nat} {left : Int32} {T e : Nat → Nat} (hj : zj_tabw I n) (ht : t < 6) (hp : p < 3) (hc : c < n) (hx : zj_text I t T e)
    (K : ∀ I' : Nat → Nat → Int32, zf1 I I' → P (some (.int (zv_said I n T e p c left))) (zk_mk I' tg)) : zk_R sc (d + 2) 8 0 [some (.ref (0 : Nat)), some (.ref (28 + 4 * t)), some (.int (nI p)), some (.int (nI c)), some (.int left), none] [] (zk_mk I tg) P := by
  obtain ⟨hn, hn2, h10, hcs⟩ := hj
  obtain ⟨w1, w2, w3, w4⟩ := zx_83 ht
  have z1 : zk_inb (nI c) 10 = true := by rw [zn_in (by omega)]; omega
  have z2 : (nI c).toNatClampNeg = c := zn_cl (by omega)
  simp only [u8_0, u8_1, u8_4, u8_5, u8_6, u8_9, u8_12, u8_13, u8_14, u8_15, u8_16, u8_19, u8_20, u8_21, u8_24, u8_27, u8_28, u8_29, u8_30, u8_31, u8_34, u8_35, u8_36, u8_37, u8_38, u8_41, u8_42, u8_43, u8_46, u8_49, u8_50, u8_51, u8_54, u8_55, u8_56, u8_59, u8_62, u8_63, u8_64, u8_65, u8_66, u8_69, u8_70, u8_72, u8_73, u8_74, u8_75, u8_76, u8_79, u8_82, u8_84, u8_85, u8_88, u8_90, u8_93, u8_96, u8_99, u8_102, u8_104, u8_105, u8_107, u8_110, zk_mk_1, zk_mk_I, zk_mk_R, zk_mk_set, zk_mk_setR, zk_mk_cpy, zk_rv_some, zk_rv_none, Option.toList_some, Option.toList_none, List.cons_append, List.nil_append, reduceIte, eq_self, Nat.reduceLT, Nat.reduceEqDiff, and_true, true_and, reduceCtorEq, zsh_0, zsh_1, zsh_2, zsh_3, zsh_4, zsh_14, zx_28 ht, zrf_0_0, zrf_0_6, zrf_1_0, zrf_1_1, zrf_1_2, z1, z2, w1, hn, show zk_inb (0 : Int32) 6 = true from by decide, show zk_inb (1 : Int32) 6 = true from by decide, show zk_inb (2 : Int32) 6 = true from by decide, show zk_inb (3 : Int32) 6 = true from by decide, show zk_inb (4 : Int32) 6 = true from by decide, show zk_inb (5 : Int32) 6 = true from by decide, show (0 : Int32).toNatClampNeg = 0 from by decide, show (1 : Int32).toNatClampNeg = 1 from by decide, show (2 : Int32).toNatClampNeg = 2 from by decide, show (3 : Int32).toNatClampNeg = 3 from by decide, show (4 : Int32).toNatClampNeg = 4 from by decide, show (5 : Int32).toNatClampNeg = 5 from by decide, zk_up2_s, zk_up2_k (show (1 : Nat) ≠ 14 by decide), zk_up2_k (show (2 : Nat) ≠ 14 by decide), zk_up2_k (show (3 : Nat) ≠ 14 by decide), zk_up2_k (show (4 : Nat) ≠ 14 by decide)]
  generalize hI : zk_up2 (zk_up2 (zk_up2 (zk_up2 (zk_up2 (zk_up2 I 14 0 (I 3 c)) 14 1 (I 4 c)) 14 2 (nI c)) 14 3 (nI n)) 14 4 (I 2 c)) 14 5 left = I6
  have fr : ∀ j, j ≠ 14 → I6 j = I j := by
    intro j hj
    rw [← hI]
    simp only [zk_up2_r hj]
  have nm : ∀ j, j < 6 → I6 14 j = zv_nm I n c left j := by
    rw [← hI]
    apply zv_six <;> simp [zk_up2_i, zv_nm]
  obtain ⟨x1, x2, x3, x4, x5⟩ := hx
  have ap := zj_ap x3 hp
  refine s124 (T := T) (a := zj_a e p) (k := e p - zj_a e p) ht hp ?_ ?_ (by omega) ?_ (x5 p hp) (fun I' hI' => ?_)
  · rw [fr _ (by omega)]
    unfold zj_a
    by_cases hp0 : p = 0
    · rw [if_pos hp0, if_pos hp0]
    · rw [if_neg hp0, if_neg hp0]; exact (x1 (p - 1) (by omega)).1
  · rw [fr _ (by omega), (x1 p hp).1]
    congr 1
    omega
  · intro i hi
    rw [fr _ (by omega)]
    exact (x4 _ (by omega)).1
  · rw [zt_val_ext nm]
    have hz : zf1 I I' := fun j h1 h2 => by
      rw [hI' j (fun q => h2 (by omega)), fr j h1]
    have K2 := K I' hz
    unfold zv_said at K2
    simp only [u8_0, u8_1, u8_4, u8_5, u8_6, u8_9, u8_12, u8_13, u8_14, u8_15, u8_16, u8_19, u8_20, u8_21, u8_24, u8_27, u8_28, u8_29, u8_30, u8_31, u8_34, u8_35, u8_36, u8_37, u8_38, u8_41, u8_42, u8_43, u8_46, u8_49, u8_50, u8_51, u8_54, u8_55, u8_56, u8_59, u8_62, u8_63, u8_64, u8_65, u8_66, u8_69, u8_70, u8_72, u8_73, u8_74, u8_75, u8_76, u8_79, u8_82, u8_84, u8_85, u8_88, u8_90, u8_93, u8_96, u8_99, u8_102, u8_104, u8_105, u8_107, u8_110, zk_mk_1, zk_mk_I, zk_mk_R, zk_mk_set, zk_mk_setR, zk_mk_cpy, zk_rv_some, zk_rv_none, Option.toList_some, Option.toList_none, List.cons_append, List.nil_append, reduceIte, eq_self, Nat.reduceLT, Nat.reduceEqDiff, and_true, true_and, reduceCtorEq]
    by_cases hp0 : p = 0
    · rw [if_pos hp0] at K2
      rw [if_pos (show nI p = 0 by rw [hp0]; rfl), s9 (by decide)]
      simp only [u8_0, u8_1, u8_4, u8_5, u8_6, u8_9, u8_12, u8_13, u8_14, u8_15, u8_16, u8_19, u8_20, u8_21, u8_24, u8_27, u8_28, u8_29, u8_30, u8_31, u8_34, u8_35, u8_36, u8_37, u8_38, u8_41, u8_42, u8_43, u8_46, u8_49, u8_50, u8_51, u8_54, u8_55, u8_56, u8_59, u8_62, u8_63, u8_64, u8_65, u8_66, u8_69, u8_70, u8_72, u8_73, u8_74, u8_75, u8_76, u8_79, u8_82, u8_84, u8_85, u8_88, u8_90, u8_93, u8_96, u8_99, u8_102, u8_104, u8_105, u8_107, u8_110, zk_mk_1, zk_mk_I, zk_mk_R, zk_mk_set, zk_mk_setR, zk_mk_cpy, zk_rv_some, zk_rv_none, Option.toList_some, Option.toList_none, List.cons_append, List.nil_append, reduceIte, eq_self, Nat.reduceLT, Nat.reduceEqDiff, and_true, true_and, reduceCtorEq]
      exact K2
    · rw [if_neg hp0] at K2
      rw [if_neg (show ¬ nI p = 0 by rw [show (0 : Int32) = nI 0 from rfl, zn_eq (by omega) (by omega)]; exact hp0), s9 (by decide)]
      simp only [u8_0, u8_1, u8_4, u8_5, u8_6, u8_9, u8_12, u8_13, u8_14, u8_15, u8_16, u8_19, u8_20, u8_21, u8_24, u8_27, u8_28, u8_29, u8_30, u8_31, u8_34, u8_35, u8_36, u8_37, u8_38, u8_41, u8_42, u8_43, u8_46, u8_49, u8_50, u8_51, u8_54, u8_55, u8_56, u8_59, u8_62, u8_63, u8_64, u8_65, u8_66, u8_69, u8_70, u8_72, u8_73, u8_74, u8_75, u8_76, u8_79, u8_82, u8_84, u8_85, u8_88, u8_90, u8_93, u8_96, u8_99, u8_102, u8_104, u8_105, u8_107, u8_110, zk_mk_1, zk_mk_I, zk_mk_R, zk_mk_set, zk_mk_setR, zk_mk_cpy, zk_rv_some, zk_rv_none, Option.toList_some, Option.toList_none, List.cons_append, List.nil_append, reduceIte, eq_self, Nat.reduceLT, Nat.reduceEqDiff, and_true, true_and, reduceCtorEq]
      exact K2
theorem s14w {sc : zk_X} {d : Nat} {I : Nat → Nat → Int32} {tg : Option Nat} {P : Option Value → zk_M → Prop} {n t c : Nat} {left : Int32} {T e : Nat → Nat} (hj : zj_tabw I n) (ht : t < 6) (hc : c < n) (hx : zj_text I t T e)
    (K : ∀ I' : Nat → Nat → Int32, zf1 I I' → P (some (.int (zv_cnt I n T e c left))) (zk_mk I' tg)) : zk_R sc (d + 3) 14 0 [some (.ref (0 : Nat)), some (.ref (28 + 4 * t)), some (.int (nI c)), some (.int left), none] [] (zk_mk I tg) P := by
  have h10 := hj.2.2.1
  obtain ⟨-, ⟨kk, hkk, hk⟩, -⟩ := hj.2.2.2 c hc
  obtain ⟨w1, w2, w3, w4⟩ := zx_83 ht
  have z1 : zk_inb (nI c) 10 = true := by rw [zn_in (by omega)]; omega
  have z2 : (nI c).toNatClampNeg = c := zn_cl (by omega)
  simp only [u14_0, u14_1, u14_2, u14_3, u14_4, u14_5, u14_8, u14_10, u14_11, u14_14, u14_17, u14_18, u14_19, u14_52, u14_53, u14_55, u14_56, u14_57, u14_58, u14_60, u14_61, u14_62, u14_65, u14_68, u14_69, u14_70, u14_71, u14_72, u14_74, u14_75, u14_76, u14_77, u14_80, u14_83, u14_84, u14_85, u14_86, u14_88, zk_mk_1, zk_mk_I, zk_mk_R, zk_mk_set, zk_mk_setR, zk_mk_cpy, zk_rv_some, zk_rv_none, Option.toList_some, Option.toList_none, List.cons_append, List.nil_append, reduceIte, eq_self, Nat.reduceLT, Nat.reduceEqDiff, and_true, true_and, reduceCtorEq, zsh_0, zx_28 ht, w1]
  refine s8w (p := 0) hj ht (by decide) hc hx (fun I' hz => ?_)
  have K2 := K I' hz
  have e2 : I' 2 = I 2 := hz _ (by decide) (by decide)
  have e4 : I' 4 = I 4 := hz _ (by decide) (by decide)
  unfold zv_cnt at K2
  simp only [u14_0, u14_1, u14_2, u14_3, u14_4, u14_5, u14_8, u14_10, u14_11, u14_14, u14_17, u14_18, u14_19, u14_52, u14_53, u14_55, u14_56, u14_57, u14_58, u14_60, u14_61, u14_62, u14_65, u14_68, u14_69, u14_70, u14_71, u14_72, u14_74, u14_75, u14_76, u14_77, u14_80, u14_83, u14_84, u14_85, u14_86, u14_88, zk_mk_1, zk_mk_I, zk_mk_R, zk_mk_set, zk_mk_setR, zk_mk_cpy, zk_rv_some, zk_rv_none, Option.toList_some, Option.toList_none, List.cons_append, List.nil_append, reduceIte, eq_self, Nat.reduceLT, Nat.reduceEqDiff, and_true, true_and, reduceCtorEq, zsh_0, zsh_1, zsh_2, zrf_0_0, zrf_1_0, z1, z2, e2]
  rw [hk] at K2 ⊢
  rcases (show kk = 0 ∨ kk = 1 ∨ kk = 2 ∨ kk = 3 ∨ kk = 4 ∨ kk = 5 by omega) with rfl | rfl | rfl | rfl | rfl | rfl
  · rw [show zk_sw 19 (67) (1) (5) #[33, 67, 38, 53, 57] (nI 0) = 86 from by decide +kernel]
    simp only [u14_0, u14_1, u14_2, u14_3, u14_4, u14_5, u14_8, u14_10, u14_11, u14_14, u14_17, u14_18, u14_19, u14_52, u14_53, u14_55, u14_56, u14_57, u14_58, u14_60, u14_61, u14_62, u14_65, u14_68, u14_69, u14_70, u14_71, u14_72, u14_74, u14_75, u14_76, u14_77, u14_80, u14_83, u14_84, u14_85, u14_86, u14_88, zk_mk_1, zk_mk_I, zk_mk_R, zk_mk_set, zk_mk_setR, zk_mk_cpy, zk_rv_some, zk_rv_none, Option.toList_some, Option.toList_none, List.cons_append, List.nil_append, reduceIte, eq_self, Nat.reduceLT, Nat.reduceEqDiff, and_true, true_and, reduceCtorEq, zsh_0, zsh_1, zsh_4, zrf_0_0, zrf_1_2, z1, z2, e4]
    exact K2
  · rw [show zk_sw 19 (67) (1) (5) #[33, 67, 38, 53, 57] (nI 1) = 52 from by decide +kernel]
    simp only [u14_0, u14_1, u14_2, u14_3, u14_4, u14_5, u14_8, u14_10, u14_11, u14_14, u14_17, u14_18, u14_19, u14_52, u14_53, u14_55, u14_56, u14_57, u14_58, u14_60, u14_61, u14_62, u14_65, u14_68, u14_69, u14_70, u14_71, u14_72, u14_74, u14_75, u14_76, u14_77, u14_80, u14_83, u14_84, u14_85, u14_86, u14_88, zk_mk_1, zk_mk_I, zk_mk_R, zk_mk_set, zk_mk_setR, zk_mk_cpy, zk_rv_some, zk_rv_none, Option.toList_some, Option.toList_none, List.cons_append, List.nil_append, reduceIte, eq_self, Nat.reduceLT, Nat.reduceEqDiff, and_true, true_and, reduceCtorEq, zsh_0, zsh_1, zsh_4, zrf_0_0, zrf_1_2, z1, z2, e4]
    exact K2
  · rw [show zk_sw 19 (67) (1) (5) #[33, 67, 38, 53, 57] (nI 2) = 86 from by decide +kernel]
    simp only [u14_0, u14_1, u14_2, u14_3, u14_4, u14_5, u14_8, u14_10, u14_11, u14_14, u14_17, u14_18, u14_19, u14_52, u14_53, u14_55, u14_56, u14_57, u14_58, u14_60, u14_61, u14_62, u14_65, u14_68, u14_69, u14_70, u14_71, u14_72, u14_74, u14_75, u14_76, u14_77, u14_80, u14_83, u14_84, u14_85, u14_86, u14_88, zk_mk_1, zk_mk_I, zk_mk_R, zk_mk_set, zk_mk_setR, zk_mk_cpy, zk_rv_some, zk_rv_none, Option.toList_some, Option.toList_none, List.cons_append, List.nil_append, reduceIte, eq_self, Nat.reduceLT, Nat.reduceEqDiff, and_true, true_and, reduceCtorEq, zsh_0, zsh_1, zsh_4, zrf_0_0, zrf_1_2, z1, z2, e4]
    exact K2
  · rw [show zk_sw 19 (67) (1) (5) #[33, 67, 38, 53, 57] (nI 3) = 57 from by decide +kernel]
    simp only [u14_0, u14_1, u14_2, u14_3, u14_4, u14_5, u14_8, u14_10, u14_11, u14_14, u14_17, u14_18, u14_19, u14_52, u14_53, u14_55, u14_56, u14_57, u14_58, u14_60, u14_61, u14_62, u14_65, u14_68, u14_69, u14_70, u14_71, u14_72, u14_74, u14_75, u14_76, u14_77, u14_80, u14_83, u14_84, u14_85, u14_86, u14_88, zk_mk_1, zk_mk_I, zk_mk_R, zk_mk_set, zk_mk_setR, zk_mk_cpy, zk_rv_some, zk_rv_none, Option.toList_some, Option.toList_none, List.cons_append, List.nil_append, reduceIte, eq_self, Nat.reduceLT, Nat.reduceEqDiff, and_true, true_and, reduceCtorEq, zsh_0, zsh_1, zsh_4, zrf_0_0, zrf_1_2, z1, z2, e4]
    exact K2
  · rw [show zk_sw 19 (67) (1) (5) #[33, 67, 38, 53, 57] (nI 4) = 72 from by decide +kernel]
    simp only [u14_0, u14_1, u14_2, u14_3, u14_4, u14_5, u14_8, u14_10, u14_11, u14_14, u14_17, u14_18, u14_19, u14_52, u14_53, u14_55, u14_56, u14_57, u14_58, u14_60, u14_61, u14_62, u14_65, u14_68, u14_69, u14_70, u14_71, u14_72, u14_74, u14_75, u14_76, u14_77, u14_80, u14_83, u14_84, u14_85, u14_86, u14_88, zk_mk_1, zk_mk_I, zk_mk_R, zk_mk_set, zk_mk_setR, zk_mk_cpy, zk_rv_some, zk_rv_none, Option.toList_some, Option.toList_none, List.cons_append, List.nil_append, reduceIte, eq_self, Nat.reduceLT, Nat.reduceEqDiff, and_true, true_and, reduceCtorEq, zsh_0, zsh_1, zsh_4, zrf_0_0, zrf_1_2, z1, z2, e4]
    exact K2
  · rw [show zk_sw 19 (67) (1) (5) #[33, 67, 38, 53, 57] (nI 5) = 76 from by decide +kernel]
    simp only [u14_0, u14_1, u14_2, u14_3, u14_4, u14_5, u14_8, u14_10, u14_11, u14_14, u14_17, u14_18, u14_19, u14_52, u14_53, u14_55, u14_56, u14_57, u14_58, u14_60, u14_61, u14_62, u14_65, u14_68, u14_69, u14_70, u14_71, u14_72, u14_74, u14_75, u14_76, u14_77, u14_80, u14_83, u14_84, u14_85, u14_86, u14_88, zk_mk_1, zk_mk_I, zk_mk_R, zk_mk_set, zk_mk_setR, zk_mk_cpy, zk_rv_some, zk_rv_none, Option.toList_some, Option.toList_none, List.cons_append, List.nil_append, reduceIte, eq_self, Nat.reduceLT, Nat.reduceEqDiff, and_true, true_and, reduceCtorEq, zsh_0, zsh_1, zsh_4, zrf_0_0, zrf_1_2, z1, z2, e4]
    exact K2
theorem s17w {sc : zk_X} {d : Nat} {I : Nat → Nat → Int32} {tg : Option Nat} {P : Option Value → zk_M → Prop} {n t : Nat} {T e : Nat → Nat} (hj : zj_tabw I n) (ht : t < 6) (hx : zj_text I t T e)
    (K : ∀ I' : Nat → Nat → Int32, zF I I' → (∀ c, c < n → I' 16 c = zv_now I n T e c) → I' 15 3 = nI (2 ^ n - 1) → P none (zk_mk I' tg)) : zk_R sc (d + 4) 17 0 [some (.ref (0 : Nat)), some (.ref (28 + 4 * t)), none] [] (zk_mk I tg) P := by
  have h10 := hj.2.2.1
  have hn := hj.1
  have p10 := zp_10 h10
  obtain ⟨w1, w2, w3, w4⟩ := zx_83 ht
  have loop := zl_up (τ := Nat → Nat → Int32) (fun i I' => zk_R sc (d + 4) 17 2 [some (.ref (0 : Nat)), some (.ref (28 + 4 * t)), some (.int (nI i))] [] (zk_mk I' tg) P)
    (fun i I' => zF I I' ∧ ∀ c, c < i → I' 16 c = zv_now I n T e c) n (by
      rintro I' ⟨h1, h2⟩
      have e1 : I' 1 = I 1 := h1 1 rfl
      show zk_R sc (d + 4) 17 2 [some (.ref (0 : Nat)), some (.ref (28 + 4 * t)), some (.int (nI n))] [] (zk_mk I' tg) P
      rw [u17_2]
      simp only [u17_0, u17_1, u17_3, u17_4, u17_7, u17_10, u17_13, u17_14, u17_17, u17_20, u17_21, u17_22, u17_23, u17_24, u17_25, u17_28, u17_29, u17_32, u17_35, u17_36, u17_39, u17_42, u17_43, u17_46, u17_47, u17_48, u17_51, u17_54, u17_55, u17_56, u17_57, u17_60, zk_mk_1, zk_mk_I, zk_mk_R, zk_mk_set, zk_mk_setR, zk_mk_cpy, zk_rv_some, zk_rv_none, Option.toList_some, Option.toList_none, List.cons_append, List.nil_append, reduceIte, eq_self, Nat.reduceLT, Nat.reduceEqDiff, and_true, true_and, reduceCtorEq, zsh_0, zsh_1, zsh_15, zrf_0_0, zrf_0_7, e1, hn]
      rw [if_pos (nI_le (Nat.le_refl _) (by omega)), zq_all h10, show nI (2 ^ n) - 1 = nI (2 ^ n - 1) from zn_sub (b := 1) (by omega)]
      exact K _ (h1.up rfl) (fun c hc => by rw [zk_up2_k (by decide)]; exact h2 c hc) zk_up2_s) (by
      rintro i I' hi ⟨h1, h2⟩ ih
      have e1 : I' 1 = I 1 := h1 1 rfl
      have e5 : I' 5 = I 5 := h1 5 rfl
      show zk_R sc (d + 4) 17 2 [some (.ref (0 : Nat)), some (.ref (28 + 4 * t)), some (.int (nI i))] [] (zk_mk I' tg) P
      rw [u17_2]
      simp only [u17_0, u17_1, u17_3, u17_4, u17_7, u17_10, u17_13, u17_14, u17_17, u17_20, u17_21, u17_22, u17_23, u17_24, u17_25, u17_28, u17_29, u17_32, u17_35, u17_36, u17_39, u17_42, u17_43, u17_46, u17_47, u17_48, u17_51, u17_54, u17_55, u17_56, u17_57, u17_60, zk_mk_1, zk_mk_I, zk_mk_R, zk_mk_set, zk_mk_setR, zk_mk_cpy, zk_rv_some, zk_rv_none, Option.toList_some, Option.toList_none, List.cons_append, List.nil_append, reduceIte, eq_self, Nat.reduceLT, Nat.reduceEqDiff, and_true, true_and, reduceCtorEq, zsh_0, zsh_1, zsh_15, zsh_16, zrf_0_0, zrf_0_7, zrf_15_0, e1, hn]
      rw [if_neg (nI_ge hi (by omega)), s96 (by omega)]
      simp only [u17_0, u17_1, u17_3, u17_4, u17_7, u17_10, u17_13, u17_14, u17_17, u17_20, u17_21, u17_22, u17_23, u17_24, u17_25, u17_28, u17_29, u17_32, u17_35, u17_36, u17_39, u17_42, u17_43, u17_46, u17_47, u17_48, u17_51, u17_54, u17_55, u17_56, u17_57, u17_60, zk_mk_1, zk_mk_I, zk_mk_R, zk_mk_set, zk_mk_setR, zk_mk_cpy, zk_rv_some, zk_rv_none, Option.toList_some, Option.toList_none, List.cons_append, List.nil_append, reduceIte, eq_self, Nat.reduceLT, Nat.reduceEqDiff, and_true, true_and, reduceCtorEq, zsh_0, zsh_1, zsh_15, zsh_16, zrf_0_0, zrf_0_7, zrf_15_0, zx_28 ht, w1, e5]
      refine s14w (h1.tabw hj) ht hi (h1.text ht hx) (fun I2 hz => ?_)
      simp only [u17_0, u17_1, u17_3, u17_4, u17_7, u17_10, u17_13, u17_14, u17_17, u17_20, u17_21, u17_22, u17_23, u17_24, u17_25, u17_28, u17_29, u17_32, u17_35, u17_36, u17_39, u17_42, u17_43, u17_46, u17_47, u17_48, u17_51, u17_54, u17_55, u17_56, u17_57, u17_60, zk_mk_1, zk_mk_I, zk_mk_R, zk_mk_set, zk_mk_setR, zk_mk_cpy, zk_rv_some, zk_rv_none, Option.toList_some, Option.toList_none, List.cons_append, List.nil_append, reduceIte, eq_self, Nat.reduceLT, Nat.reduceEqDiff, and_true, true_and, reduceCtorEq, zsh_16]
      simp (disch := omega) only [zn_in, zn_cl, nI_1]
      refine ⟨by omega, ?_⟩
      refine ih _ ⟨(h1.trans hz.F).up rfl, fun c hc => ?_⟩
      rw [h1.cnt, zk_up2_i]
      by_cases hci : c = i
      · rw [if_pos hci, hci]; rfl
      · rw [if_neg hci, hz 16 (by decide) (by decide)]; exact h2 c (by omega))
  simp only [u17_0, u17_1, u17_3, u17_4, u17_7, u17_10, u17_13, u17_14, u17_17, u17_20, u17_21, u17_22, u17_23, u17_24, u17_25, u17_28, u17_29, u17_32, u17_35, u17_36, u17_39, u17_42, u17_43, u17_46, u17_47, u17_48, u17_51, u17_54, u17_55, u17_56, u17_57, u17_60, zk_mk_1, zk_mk_I, zk_mk_R, zk_mk_set, zk_mk_setR, zk_mk_cpy, zk_rv_some, zk_rv_none, Option.toList_some, Option.toList_none, List.cons_append, List.nil_append, reduceIte, eq_self, Nat.reduceLT, Nat.reduceEqDiff, and_true, true_and, reduceCtorEq]
  exact loop 0 I (Nat.zero_le _) ⟨zF_refl I, fun c hc => absurd hc (Nat.not_lt_zero _)⟩
theorem s203w {sc : zk_X} {d : Nat} {I : Nat → Nat → Int32} {tg : Option Nat} {P : Option Value → zk_M → Prop} {n : Nat} {seed : Int32} (hj : zj_tabw I n) : zk_R sc (d + 1) 203 0 [some (.ref (60 : Nat)), some (.int seed), none, none, none, none, none] [] (zk_mk I tg) P = P (some (.int (nI (zdraw (fun c => zw_sides (I 2 c) (I 4 c)) seed n).2))) (zk_mk I tg) := by
  refine zk_R_det ?_ P
  have hn := hj.2.1
  have h10 := hj.2.2.1
  obtain ⟨ql1, ql2⟩ := zq_l
  have loop := zl_up (τ := Option Value) (fun i x => zk_R sc (d + 1) 203 11 [some (.ref (60 : Nat)), some (.int seed), some (.long (zdraw (fun c => zw_sides (I 2 c) (I 4 c)) seed i).1), none, some (.int (nI (zdraw (fun c => zw_sides (I 2 c) (I 4 c)) seed i).2)), some (.int (nI i)), x] [] (zk_mk I tg) (fun r M' => r = some (.int (nI (zdraw (fun c => zw_sides (I 2 c) (I 4 c)) seed n).2)) ∧ M' = zk_mk I tg)) (fun _ _ => True) n (by
      intro x _
      rw [u203_11]
      simp only [u203_0, u203_1, u203_2, u203_3, u203_4, u203_5, u203_6, u203_8, u203_9, u203_13, u203_14, u203_17, u203_20, u203_21, u203_24, u203_25, u203_28, u203_29, u203_30, u203_31, u203_33, u203_36, u203_38, u203_40, u203_42, u203_43, u203_46, u203_48, u203_49, u203_52, u203_53, u203_56, u203_57, u203_58, u203_59, u203_62, u203_63, u203_65, u203_66, u203_69, u203_70, u203_71, u203_73, u203_76, u203_79, u203_81, zk_mk_1, zk_mk_I, zk_mk_R, zk_mk_set, zk_mk_setR, zk_mk_cpy, zk_rv_some, zk_rv_none, Option.toList_some, Option.toList_none, List.cons_append, List.nil_append, reduceIte, eq_self, Nat.reduceLT, Nat.reduceEqDiff, and_true, true_and, reduceCtorEq, zsh_60, hn]
      rw [if_pos (nI_le (Nat.le_refl _) (by omega))]
      trivial) (by
      intro i x hi _ ih
      obtain ⟨⟨m1, m2, m3, m4⟩, -⟩ := hj.2.2.2 i hi
      rw [u203_11]
      simp only [u203_0, u203_1, u203_2, u203_3, u203_4, u203_5, u203_6, u203_8, u203_9, u203_13, u203_14, u203_17, u203_20, u203_21, u203_24, u203_25, u203_28, u203_29, u203_30, u203_31, u203_33, u203_36, u203_38, u203_40, u203_42, u203_43, u203_46, u203_48, u203_49, u203_52, u203_53, u203_56, u203_57, u203_58, u203_59, u203_62, u203_63, u203_65, u203_66, u203_69, u203_70, u203_71, u203_73, u203_76, u203_79, u203_81, zk_mk_1, zk_mk_I, zk_mk_R, zk_mk_set, zk_mk_setR, zk_mk_cpy, zk_rv_some, zk_rv_none, Option.toList_some, Option.toList_none, List.cons_append, List.nil_append, reduceIte, eq_self, Nat.reduceLT, Nat.reduceEqDiff, and_true, true_and, reduceCtorEq, zsh_60, hn, ql1, not_false_eq_true]
      rw [if_neg (nI_ge hi (by omega)), s154 (by omega), m1, m3]
      simp only [u203_0, u203_1, u203_2, u203_3, u203_4, u203_5, u203_6, u203_8, u203_9, u203_13, u203_14, u203_17, u203_20, u203_21, u203_24, u203_25, u203_28, u203_29, u203_30, u203_31, u203_33, u203_36, u203_38, u203_40, u203_42, u203_43, u203_46, u203_48, u203_49, u203_52, u203_53, u203_56, u203_57, u203_58, u203_59, u203_62, u203_63, u203_65, u203_66, u203_69, u203_70, u203_71, u203_73, u203_76, u203_79, u203_81, zk_mk_1, zk_mk_I, zk_mk_R, zk_mk_set, zk_mk_setR, zk_mk_cpy, zk_rv_some, zk_rv_none, Option.toList_some, Option.toList_none, List.cons_append, List.nil_append, reduceIte, eq_self, Nat.reduceLT, Nat.reduceEqDiff, and_true, true_and, reduceCtorEq, zsh_60, hn, ql2, not_false_eq_true, nI_1]
      have e1 : (zdraw (fun c => zw_sides (I 2 c) (I 4 c)) seed i).1 * 48271 - (zdraw (fun c => zw_sides (I 2 c) (I 4 c)) seed i).1 * 48271 / 2147483647 * 2147483647 = zlot (zdraw (fun c => zw_sides (I 2 c) (I 4 c)) seed i).1 := rfl
      have e0 : nI (zdraw (fun c => zw_sides (I 2 c) (I 4 c)) seed i).2 ||| 0 = nI (zdraw (fun c => zw_sides (I 2 c) (I 4 c)) seed i).2 := by
        rw [show (0 : Int32) = nI 0 from rfl, zq_or, Nat.or_zero]
      rw [e1, zq_pow (by omega), zq_or]
      simp only [zcmp0, e0]
      have ek : zdraw (fun c => zw_sides (I 2 c) (I 4 c)) seed (i + 1) = (zlot (zdraw (fun c => zw_sides (I 2 c) (I 4 c)) seed i).1, if zw_sides (I 2 i) (I 4 i) = 1 ∨ zw_sides (I 2 i) (I 4 i) = 3 ∧ zlot (zdraw (fun c => zw_sides (I 2 c) (I 4 c)) seed i).1 - zlot (zdraw (fun c => zw_sides (I 2 c) (I 4 c)) seed i).1 / 2 * 2 = 0 then (zdraw (fun c => zw_sides (I 2 c) (I 4 c)) seed i).2 ||| 2 ^ i else (zdraw (fun c => zw_sides (I 2 c) (I 4 c)) seed i).2) := rfl
      have ih2 := ih (some (.int (zw_sides (I 2 i) (I 4 i)))) trivial
      rw [ek] at ih2
      by_cases k1 : zw_sides (I 2 i) (I 4 i) = 1
      · rw [if_pos k1]
        rw [if_pos (Or.inl k1)] at ih2
        exact ih2
      · rw [if_neg k1]
        by_cases k2 : zw_sides (I 2 i) (I 4 i) = 3
        · rw [if_pos k2]
          by_cases k3 : zlot (zdraw (fun c => zw_sides (I 2 c) (I 4 c)) seed i).1 - zlot (zdraw (fun c => zw_sides (I 2 c) (I 4 c)) seed i).1 / 2 * 2 = 0
          · rw [if_pos k3]
            rw [if_pos (Or.inr ⟨k2, k3⟩)] at ih2
            exact ih2
          · rw [if_neg k3]
            rw [if_neg (fun q => q.elim k1 (fun q => k3 q.2))] at ih2
            exact ih2
        · rw [if_neg k2]
          rw [if_neg (fun q => q.elim k1 (fun q => k2 q.1))] at ih2
          exact ih2)
  simp only [u203_0, u203_1, u203_2, u203_3, u203_4, u203_5, u203_6, u203_8, u203_9, u203_13, u203_14, u203_17, u203_20, u203_21, u203_24, u203_25, u203_28, u203_29, u203_30, u203_31, u203_33, u203_36, u203_38, u203_40, u203_42, u203_43, u203_46, u203_48, u203_49, u203_52, u203_53, u203_56, u203_57, u203_58, u203_59, u203_62, u203_63, u203_65, u203_66, u203_69, u203_70, u203_71, u203_73, u203_76, u203_79, u203_81, zk_mk_1, zk_mk_I, zk_mk_R, zk_mk_set, zk_mk_setR, zk_mk_cpy, zk_rv_some, zk_rv_none, Option.toList_some, Option.toList_none, List.cons_append, List.nil_append, reduceIte, eq_self, Nat.reduceLT, Nat.reduceEqDiff, and_true, true_and, reduceCtorEq]
  exact loop 0 none (Nat.zero_le _) trivial
