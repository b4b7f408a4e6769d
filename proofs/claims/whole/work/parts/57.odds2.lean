theorem s207 {sc : zk_X} {d : Nat} {M : zk_M} {P : Option Value → zk_M → Prop} {a b : Nat} {part : Int32} (ha : a < 41) (hb : b < 41) (hb0 : ¬ b = 0) : zk_R sc d 207 0 [some (.long (nL a)), none, some (.long (nL b)), none, some (.int part), none, none, none, none, none, none] [] M P = P (some (.long (if a = 0 then part.toInt64 else if part = 0 then nL (a / Nat.gcd a b) else nL (b / Nat.gcd a b)))) M := by
  refine zk_R_det ?_ P
  by_cases h0 : a = 0
  · rw [if_pos h0]
    subst h0
    simp only [u207_0, u207_1, u207_2, u207_3, u207_6, u207_8, u207_9, u207_10, u207_11, u207_13, u207_14, u207_18, u207_19, u207_20, u207_23, u207_25, u207_27, u207_28, u207_30, u207_32, u207_34, u207_36, u207_38, u207_41, u207_43, u207_46, u207_47, u207_50, u207_51, u207_53, u207_54, zk_mk_1, zk_mk_I, zk_mk_R, zk_mk_set, zk_mk_setR, zk_mk_cpy, zk_rv_some, zk_rv_none, Option.toList_some, Option.toList_none, List.cons_append, List.nil_append, reduceIte, eq_self, Nat.reduceLT, Nat.reduceEqDiff, and_true, true_and, reduceCtorEq, zcmp0, show nL 0 = 0 from rfl]
  · rw [if_neg h0]
    have loop : ∀ k y x z w, y ≤ k → x < 41 → y < 41 → ¬ (x = 0 ∧ y = 0) → Nat.gcd x y = Nat.gcd a b → zk_R sc d 207 16 [some (.long (nL a)), none, some (.long (nL b)), none, some (.int part), some (.long (nL x)), none, some (.long (nL y)), none, z, w] [] M (fun r M' => r = some (.long (if part = 0 then nL (a / Nat.gcd a b) else nL (b / Nat.gcd a b))) ∧ M' = M) := by
      intro k
      induction k with
      | zero =>
        intro y x z w hy hx hy2 hne hg
        have e : y = 0 := Nat.le_zero.mp hy
        subst e
        rw [Nat.gcd_zero_right] at hg
        have hx0 : ¬ nL x = 0 := fun q => hne ⟨(znL0 x hx).mp q, rfl⟩
        have d1 := (zdivl a ha x hx).resolve_left (fun q => hne ⟨q, rfl⟩)
        have d2 := (zdivl b hb x hx).resolve_left (fun q => hne ⟨q, rfl⟩)
        rw [u207_16]
        simp only [u207_0, u207_1, u207_2, u207_3, u207_6, u207_8, u207_9, u207_10, u207_11, u207_13, u207_14, u207_18, u207_19, u207_20, u207_23, u207_25, u207_27, u207_28, u207_30, u207_32, u207_34, u207_36, u207_38, u207_41, u207_43, u207_46, u207_47, u207_50, u207_51, u207_53, u207_54, zk_mk_1, zk_mk_I, zk_mk_R, zk_mk_set, zk_mk_setR, zk_mk_cpy, zk_rv_some, zk_rv_none, Option.toList_some, Option.toList_none, List.cons_append, List.nil_append, reduceIte, eq_self, Nat.reduceLT, Nat.reduceEqDiff, and_true, true_and, reduceCtorEq, zcmp0, show nL 0 = 0 from rfl, hx0, not_false_eq_true, d1, d2, ← hg]
        by_cases hp : part = 0
        · rw [if_pos hp, if_pos hp] <;> trivial
        · rw [if_neg hp, if_neg hp] <;> trivial
      | succ k ih =>
        intro y x z w hy hx hy2 hne hg
        by_cases hy0 : y = 0
        · exact ih y x z w (by omega) hx hy2 hne hg
        · have hyl : (nL y = 0) = False := by
            apply propext
            exact ⟨fun q => hy0 ((znL0 y hy2).mp q), False.elim⟩
          have r1 := (zreml x hx y hy2).resolve_left hy0
          have hm : x % y < y := Nat.mod_lt _ (by omega)
          rw [u207_16]
          simp only [u207_0, u207_1, u207_2, u207_3, u207_6, u207_8, u207_9, u207_10, u207_11, u207_13, u207_14, u207_18, u207_19, u207_20, u207_23, u207_25, u207_27, u207_28, u207_30, u207_32, u207_34, u207_36, u207_38, u207_41, u207_43, u207_46, u207_47, u207_50, u207_51, u207_53, u207_54, zk_mk_1, zk_mk_I, zk_mk_R, zk_mk_set, zk_mk_setR, zk_mk_cpy, zk_rv_some, zk_rv_none, Option.toList_some, Option.toList_none, List.cons_append, List.nil_append, reduceIte, eq_self, Nat.reduceLT, Nat.reduceEqDiff, and_true, true_and, reduceCtorEq, zcmp0, hyl, not_false_eq_true, r1]
          refine ih (x % y) y _ _ (by omega) hy2 (by omega) (fun q => hy0 q.1) ?_
          rw [← hg, Nat.gcd_comm y (x % y), ← Nat.gcd_rec, Nat.gcd_comm]
    have ha0 : (nL a = 0) = False := by
      apply propext
      exact ⟨fun q => h0 ((znL0 a ha).mp q), False.elim⟩
    simp only [u207_0, u207_1, u207_2, u207_3, u207_6, u207_8, u207_9, u207_10, u207_11, u207_13, u207_14, u207_18, u207_19, u207_20, u207_23, u207_25, u207_27, u207_28, u207_30, u207_32, u207_34, u207_36, u207_38, u207_41, u207_43, u207_46, u207_47, u207_50, u207_51, u207_53, u207_54, zk_mk_1, zk_mk_I, zk_mk_R, zk_mk_set, zk_mk_setR, zk_mk_cpy, zk_rv_some, zk_rv_none, Option.toList_some, Option.toList_none, List.cons_append, List.nil_append, reduceIte, eq_self, Nat.reduceLT, Nat.reduceEqDiff, and_true, true_and, reduceCtorEq, zcmp0, ha0]
    exact loop b b a none none (Nat.le_refl _) ha hb (fun q => h0 q.1) rfl
def zod (I : Nat → Nat → Int32) (f : Nat → Int32) (n : Nat) (seed most : Int32) : Nat → Nat
  | 0 => 0
  | i + 1 => if zfval f n (zv_draw I n (seed + nI i)) ≤ most then zod I f n seed most i + 1 else zod I f n seed most i
theorem zod_le (I : Nat → Nat → Int32) (f : Nat → Int32) (n : Nat) (seed most : Int32) : ∀ i, zod I f n seed most i ≤ i
  | 0 => Nat.le_refl _
  | i + 1 => by
    have ih := zod_le I f n seed most i
    rw [zod]
    split <;> omega
def zlow (a b : Nat) (part : Int32) : Int64 := if part = 0 then nL (a / zcd a b b) else nL (b / zcd a b b)
def zA_odds (I : Nat → Nat → Int32) (n : Nat) (T e : Nat → Nat) (seed seeds most part : Int32) : Int64 := if (0 ≤ seed ∧ seed ≤ 99999) ∧ (1 ≤ seeds ∧ seeds ≤ 40) ∧ (0 ≤ most ∧ most ≤ 9999) ∧ 0 ≤ part ∧ part ≤ 1 then zlow (zod I (zv_now I n T e) n seed most seeds.toNatClampNeg) seeds.toNatClampNeg part else -4611686018427387904
theorem znL_add (a : Nat) : nL a + 1 = nL (a + 1) := by
  unfold nL
  rw [Int64.ofNat_add]; rfl
theorem zs40 {s : Int32} (h : 1 ≤ s ∧ s ≤ 40) : ∃ k : Nat, 1 ≤ k ∧ k ≤ 40 ∧ s = nI k := by
  obtain ⟨k, hk, rfl⟩ := zn_of (x := s) (m := 41) (by
    have := Int32.le_iff_toInt_le.mp h.1
    rw [Int32.le_iff_toInt_le]
    have e1 : (1 : Int32).toInt = 1 := by decide
    have e0 : (0 : Int32).toInt = 0 := by decide
    omega) (by rw [zn_lt1 (by decide)]; exact h.2) (by decide)
  refine ⟨k, ?_, by omega, rfl⟩
  have := h.1
  rw [show (1 : Int32) = nI 1 from rfl, zn_le (by decide) (by omega)] at this
  exact this
theorem s50 {sc : zk_X} {d : Nat} {I : Nat → Nat → Int32} {tg : Option Nat} {P : Option Value → zk_M → Prop} {n t : Nat} {T e : Nat → Nat} {seed seeds most part : Int32} (hq : zj_q I n t T e)
    (K : ∀ I' : Nat → Nat → Int32, zF I I' → P (some (.long (zA_odds I n T e seed seeds most part))) (zk_mk I' tg)) : zk_R sc (d + 5) 50 0 [some (.ref (0 : Nat)), some (.int seed), some (.int seeds), some (.int most), some (.int part), none, none, none] [] (zk_mk I tg) P := by
  obtain ⟨hj, hl, hr, ht, hx⟩ := hq
  obtain ⟨w1, w2, w3, w4⟩ := zx_83 ht
  have h10 := hj.2.2.1
  unfold zA_odds at K
  by_cases hw : (0 ≤ seed ∧ seed ≤ 99999) ∧ (1 ≤ seeds ∧ seeds ≤ 40) ∧ (0 ≤ most ∧ most ≤ 9999) ∧ 0 ≤ part ∧ part ≤ 1
  · rw [if_pos hw] at K
    obtain ⟨v1, v2, v3, v4⟩ := hw
    simp only [u50_0, u50_1, u50_2, u50_5, u50_6, u50_8, u50_11, u50_12, u50_15, u50_16, u50_18, u50_19, u50_22, u50_25, u50_27, u50_30, u50_31, u50_34, u50_35, u50_38, u50_41, u50_43, u50_46, u50_48, u50_49, u50_52, u50_55, u50_56, u50_57, u50_58, u50_61, u50_64, u50_65, u50_67, u50_68, u50_72, u50_73, u50_76, u50_77, u50_80, u50_81, u50_82, u50_84, u50_85, u50_88, u50_91, u50_92, u50_95, u50_98, u50_101, u50_104, u50_106, u50_107, u50_110, u50_112, u50_114, u50_117, u50_119, u50_121, u50_122, u50_123, u50_126, u50_127, u50_129, u50_130, u50_131, zk_mk_1, zk_mk_I, zk_mk_R, zk_mk_set, zk_mk_setR, zk_mk_cpy, zk_rv_some, zk_rv_none, Option.toList_some, Option.toList_none, List.cons_append, List.nil_append, reduceIte, eq_self, Nat.reduceLT, Nat.reduceEqDiff, and_true, true_and, reduceCtorEq, zsh_0, s47, zb_z]
    rw [if_neg (Int32.not_lt.mpr v2.1), if_neg (Int32.not_lt.mpr v2.2)]
    simp only [u50_0, u50_1, u50_2, u50_5, u50_6, u50_8, u50_11, u50_12, u50_15, u50_16, u50_18, u50_19, u50_22, u50_25, u50_27, u50_30, u50_31, u50_34, u50_35, u50_38, u50_41, u50_43, u50_46, u50_48, u50_49, u50_52, u50_55, u50_56, u50_57, u50_58, u50_61, u50_64, u50_65, u50_67, u50_68, u50_72, u50_73, u50_76, u50_77, u50_80, u50_81, u50_82, u50_84, u50_85, u50_88, u50_91, u50_92, u50_95, u50_98, u50_101, u50_104, u50_106, u50_107, u50_110, u50_112, u50_114, u50_117, u50_119, u50_121, u50_122, u50_123, u50_126, u50_127, u50_129, u50_130, u50_131, zk_mk_1, zk_mk_I, zk_mk_R, zk_mk_set, zk_mk_setR, zk_mk_cpy, zk_rv_some, zk_rv_none, Option.toList_some, Option.toList_none, List.cons_append, List.nil_append, reduceIte, eq_self, Nat.reduceLT, Nat.reduceEqDiff, and_true, true_and, reduceCtorEq, zsh_0, s47, zb_z, show ((1 : Int32) = 0) = False from by decide]
    rw [if_neg (fun q => q v1), if_neg (Int32.not_lt.mpr v3.1), if_neg (Int32.not_lt.mpr v3.2), if_neg (Int32.not_lt.mpr v4.1), if_pos v4.2]
    simp only [s7 ht hl, u50_0, u50_1, u50_2, u50_5, u50_6, u50_8, u50_11, u50_12, u50_15, u50_16, u50_18, u50_19, u50_22, u50_25, u50_27, u50_30, u50_31, u50_34, u50_35, u50_38, u50_41, u50_43, u50_46, u50_48, u50_49, u50_52, u50_55, u50_56, u50_57, u50_58, u50_61, u50_64, u50_65, u50_67, u50_68, u50_72, u50_73, u50_76, u50_77, u50_80, u50_81, u50_82, u50_84, u50_85, u50_88, u50_91, u50_92, u50_95, u50_98, u50_101, u50_104, u50_106, u50_107, u50_110, u50_112, u50_114, u50_117, u50_119, u50_121, u50_122, u50_123, u50_126, u50_127, u50_129, u50_130, u50_131, zk_mk_1, zk_mk_I, zk_mk_R, zk_mk_set, zk_mk_setR, zk_mk_cpy, zk_rv_some, zk_rv_none, Option.toList_some, Option.toList_none, List.cons_append, List.nil_append, reduceIte, eq_self, Nat.reduceLT, Nat.reduceEqDiff, and_true, true_and, reduceCtorEq, zsh_0, zx_28 ht, w1]
    refine s17 hj ht hx (fun I' h1 h2 h3 => ?_)
    have hj' := h1.tab hj
    have K2 := K I' h1
    obtain ⟨m, m1, m2, rfl⟩ := zs40 v2
    rw [zn_cl (show m < 2147483648 by omega)] at K2
    have hlt : ∀ sd, zv_draw I n sd < 2 ^ n := fun sd => zdraw_lt _ _ _
    have ed : ∀ sd, (zdraw (fun c => zw_sides (I' 2 c) (I' 4 c)) sd n).2 = zv_draw I n sd := fun sd => by rw [h1 2 rfl, h1 4 rfl]; rfl
    generalize zv_now I n T e = f at *
    have loop := zl_fn (fun i => zk_R sc (d + 5) 50 70 [some (.ref (0 : Nat)), some (.int seed), some (.int (nI m)), some (.int most), some (.int part), some (.int 1), some (.int (nI (zod I f n seed most i))), some (.int (nI i))] [] (zk_mk I' tg) P) m (by
        have ha := zod_le I f n seed most m
        have hg := zcd_pos (zod I f n seed most m) m m
        generalize zod I f n seed most m = a at *
        have hg2 : zcd a m m < 41 := by
          by_cases h0 : a = 0
          · rw [h0, (zcd_0 m (by omega)).resolve_left (by omega)]; omega
          · rw [((zcd_gcd m (by omega) a (by omega)).resolve_left h0).resolve_left (by omega)]
            have := Nat.gcd_le_right a (n := m) (by omega)
            omega
        have y0 : ¬ nI (zcd a m m) = 0 := by rw [show (0 : Int32) = nI 0 from rfl, zn_eq (by omega) (by decide)]; omega
        have d1 := (zdiv a (by omega) (zcd a m m) hg2).resolve_left (by omega)
        have d2 := (zdiv m (by omega) (zcd a m m) hg2).resolve_left (by omega)
        have l1 := znL (a / zcd a m m) (Nat.lt_of_le_of_lt (Nat.div_le_self _ _) (by omega))
        have l2 := znL (m / zcd a m m) (Nat.lt_of_le_of_lt (Nat.div_le_self _ _) (by omega))
        rw [u50_70]
        simp only [u50_0, u50_1, u50_2, u50_5, u50_6, u50_8, u50_11, u50_12, u50_15, u50_16, u50_18, u50_19, u50_22, u50_25, u50_27, u50_30, u50_31, u50_34, u50_35, u50_38, u50_41, u50_43, u50_46, u50_48, u50_49, u50_52, u50_55, u50_56, u50_57, u50_58, u50_61, u50_64, u50_65, u50_67, u50_68, u50_72, u50_73, u50_76, u50_77, u50_80, u50_81, u50_82, u50_84, u50_85, u50_88, u50_91, u50_92, u50_95, u50_98, u50_101, u50_104, u50_106, u50_107, u50_110, u50_112, u50_114, u50_117, u50_119, u50_121, u50_122, u50_123, u50_126, u50_127, u50_129, u50_130, u50_131, zk_mk_1, zk_mk_I, zk_mk_R, zk_mk_set, zk_mk_setR, zk_mk_cpy, zk_rv_some, zk_rv_none, Option.toList_some, Option.toList_none, List.cons_append, List.nil_append, reduceIte, eq_self, Nat.reduceLT, Nat.reduceEqDiff, and_true, true_and, reduceCtorEq, s51 (show a < 41 by omega) (show m < 41 by omega), y0, not_false_eq_true, d1, d2, l1, l2]
        rw [if_pos (nI_le (Nat.le_refl _) (by omega))]
        unfold zlow at K2
        by_cases hp : part = 0
        · rw [if_pos hp] at K2 ⊢; exact K2
        · rw [if_neg hp] at K2 ⊢; exact K2) (by
        intro i hi ih
        rw [u50_70]
        simp only [u50_0, u50_1, u50_2, u50_5, u50_6, u50_8, u50_11, u50_12, u50_15, u50_16, u50_18, u50_19, u50_22, u50_25, u50_27, u50_30, u50_31, u50_34, u50_35, u50_38, u50_41, u50_43, u50_46, u50_48, u50_49, u50_52, u50_55, u50_56, u50_57, u50_58, u50_61, u50_64, u50_65, u50_67, u50_68, u50_72, u50_73, u50_76, u50_77, u50_80, u50_81, u50_82, u50_84, u50_85, u50_88, u50_91, u50_92, u50_95, u50_98, u50_101, u50_104, u50_106, u50_107, u50_110, u50_112, u50_114, u50_117, u50_119, u50_121, u50_122, u50_123, u50_126, u50_127, u50_129, u50_130, u50_131, zk_mk_1, zk_mk_I, zk_mk_R, zk_mk_set, zk_mk_setR, zk_mk_cpy, zk_rv_some, zk_rv_none, Option.toList_some, Option.toList_none, List.cons_append, List.nil_append, reduceIte, eq_self, Nat.reduceLT, Nat.reduceEqDiff, and_true, true_and, reduceCtorEq, zsh_0, zsh_15, zrf_0_7, s48 hj'.1 h10, ed, s85 h10 h3 h2 (hlt _), nI_1]
        rw [if_neg (nI_ge hi (by omega))]
        rw [zod] at ih
        by_cases hc : zfval f n (zv_draw I n (seed + nI i)) ≤ most
        · rw [if_pos hc] at ih
          first | rw [if_pos hc] | rw [if_neg (Int32.not_lt.mpr hc)]
          exact ih
        · rw [if_neg hc] at ih
          first | rw [if_neg hc] | rw [if_pos (Int32.not_le.mp hc)]
          exact ih)
    simp only [u50_0, u50_1, u50_2, u50_5, u50_6, u50_8, u50_11, u50_12, u50_15, u50_16, u50_18, u50_19, u50_22, u50_25, u50_27, u50_30, u50_31, u50_34, u50_35, u50_38, u50_41, u50_43, u50_46, u50_48, u50_49, u50_52, u50_55, u50_56, u50_57, u50_58, u50_61, u50_64, u50_65, u50_67, u50_68, u50_72, u50_73, u50_76, u50_77, u50_80, u50_81, u50_82, u50_84, u50_85, u50_88, u50_91, u50_92, u50_95, u50_98, u50_101, u50_104, u50_106, u50_107, u50_110, u50_112, u50_114, u50_117, u50_119, u50_121, u50_122, u50_123, u50_126, u50_127, u50_129, u50_130, u50_131, zk_mk_1, zk_mk_I, zk_mk_R, zk_mk_set, zk_mk_setR, zk_mk_cpy, zk_rv_some, zk_rv_none, Option.toList_some, Option.toList_none, List.cons_append, List.nil_append, reduceIte, eq_self, Nat.reduceLT, Nat.reduceEqDiff, and_true, true_and, reduceCtorEq]
    exact loop 0 (Nat.zero_le _)
  · rw [if_neg hw] at K
    have K2 := K I (zF_refl I)
    simp only [u50_0, u50_1, u50_2, u50_5, u50_6, u50_8, u50_11, u50_12, u50_15, u50_16, u50_18, u50_19, u50_22, u50_25, u50_27, u50_30, u50_31, u50_34, u50_35, u50_38, u50_41, u50_43, u50_46, u50_48, u50_49, u50_52, u50_55, u50_56, u50_57, u50_58, u50_61, u50_64, u50_65, u50_67, u50_68, u50_72, u50_73, u50_76, u50_77, u50_80, u50_81, u50_82, u50_84, u50_85, u50_88, u50_91, u50_92, u50_95, u50_98, u50_101, u50_104, u50_106, u50_107, u50_110, u50_112, u50_114, u50_117, u50_119, u50_121, u50_122, u50_123, u50_126, u50_127, u50_129, u50_130, u50_131, zk_mk_1, zk_mk_I, zk_mk_R, zk_mk_set, zk_mk_setR, zk_mk_cpy, zk_rv_some, zk_rv_none, Option.toList_some, Option.toList_none, List.cons_append, List.nil_append, reduceIte, eq_self, Nat.reduceLT, Nat.reduceEqDiff, and_true, true_and, reduceCtorEq, zsh_0, s47, zb_z]
    have fin : ∀ q : Prop, [Decidable q] → q ∨ ¬ q := fun q _ => Classical.em q
    by_cases c1 : seeds < 1
    · rw [if_pos c1]
      split <;> exact K2
    · rw [if_neg c1]
      by_cases c2 : 40 < seeds
      · rw [if_pos c2]
        split <;> exact K2
      · rw [if_neg c2]
        simp only [u50_0, u50_1, u50_2, u50_5, u50_6, u50_8, u50_11, u50_12, u50_15, u50_16, u50_18, u50_19, u50_22, u50_25, u50_27, u50_30, u50_31, u50_34, u50_35, u50_38, u50_41, u50_43, u50_46, u50_48, u50_49, u50_52, u50_55, u50_56, u50_57, u50_58, u50_61, u50_64, u50_65, u50_67, u50_68, u50_72, u50_73, u50_76, u50_77, u50_80, u50_81, u50_82, u50_84, u50_85, u50_88, u50_91, u50_92, u50_95, u50_98, u50_101, u50_104, u50_106, u50_107, u50_110, u50_112, u50_114, u50_117, u50_119, u50_121, u50_122, u50_123, u50_126, u50_127, u50_129, u50_130, u50_131, zk_mk_1, zk_mk_I, zk_mk_R, zk_mk_set, zk_mk_setR, zk_mk_cpy, zk_rv_some, zk_rv_none, Option.toList_some, Option.toList_none, List.cons_append, List.nil_append, reduceIte, eq_self, Nat.reduceLT, Nat.reduceEqDiff, and_true, true_and, reduceCtorEq, show ((1 : Int32) = 0) = False from by decide]
        by_cases c3 : 0 ≤ seed ∧ seed ≤ 99999
        · rw [if_neg (fun q => q c3)]
          by_cases c4 : most < 0
          · rw [if_pos c4]; exact K2
          · rw [if_neg c4]
            by_cases c5 : 9999 < most
            · rw [if_pos c5]; exact K2
            · rw [if_neg c5]
              by_cases c6 : part < 0
              · rw [if_pos c6]; exact K2
              · rw [if_neg c6, if_neg (fun q => hw ⟨c3, ⟨Int32.not_lt.mp c1, Int32.not_lt.mp c2⟩, ⟨Int32.not_lt.mp c4, Int32.not_lt.mp c5⟩, Int32.not_lt.mp c6, q⟩)]
                exact K2
        · rw [if_pos c3]; exact K2
theorem s206 {sc : zk_X} {d : Nat} {I : Nat → Nat → Int32} {tg : Option Nat} {P : Option Value → zk_M → Prop} {n t : Nat} {T e : Nat → Nat} {seed seeds most part : Int32} (hq : zj_q I n t T e)
    (K : ∀ I' : Nat → Nat → Int32, zF I I' → P (some (.long (zA_odds I n T e seed seeds most part))) (zk_mk I' tg)) : zk_R sc (d + 6) 206 0 [some (.ref (60 : Nat)), some (.int seed), some (.int seeds), some (.int most), some (.int part), none, none, none] [] (zk_mk I tg) P := by
  obtain ⟨hj, hl, hr, ht, hx⟩ := hq
  have h10 := hj.2.2.1
  unfold zA_odds at K
  simp only [u206_0, u206_1, u206_2, u206_5, u206_8, u206_11, u206_12, u206_13, u206_15, u206_18, u206_21, u206_22, u206_23, u206_26, u206_29, u206_32, u206_34, u206_35, u206_36, u206_39, u206_42, u206_45, u206_46, u206_47, u206_50, u206_51, u206_53, u206_54, u206_58, u206_59, u206_62, u206_64, u206_65, u206_66, u206_67, u206_69, u206_70, u206_73, u206_76, u206_77, u206_80, u206_81, u206_84, u206_85, u206_86, u206_88, u206_91, u206_94, u206_96, u206_97, u206_98, u206_100, u206_103, zk_mk_1, zk_mk_I, zk_mk_R, zk_mk_set, zk_mk_setR, zk_mk_cpy, zk_rv_some, zk_rv_none, Option.toList_some, Option.toList_none, List.cons_append, List.nil_append, reduceIte, eq_self, Nat.reduceLT, Nat.reduceEqDiff, and_true, true_and, reduceCtorEq, zsh_60, s129, zb_z]
  by_cases v1 : 0 ≤ seed ∧ seed ≤ 99999
  · rw [if_neg (fun q => q v1)]
    by_cases v2 : 1 ≤ seeds ∧ seeds ≤ 40
    · rw [if_neg (fun q => q v2)]
      by_cases v3 : 0 ≤ most ∧ most ≤ 9999
      · rw [if_neg (fun q => q v3)]
        by_cases v4 : 0 ≤ part ∧ part ≤ 1
        · rw [if_neg (fun q => q v4)]
          rw [if_pos ⟨v1, v2, v3, v4⟩] at K
          refine s162 hj ht hr hx (fun I' h1 h2 h3 => ?_)
          have hj' := h1.tab hj
          have K2 := K I' h1
          obtain ⟨m, m1, m2, rfl⟩ := zs40 v2
          rw [zn_cl (show m < 2147483648 by omega)] at K2
          have hlt : ∀ sd, zv_draw I n sd < 2 ^ n := fun sd => zdraw_lt _ _ _
          have ed : ∀ sd, (zdraw (fun c => zw_sides (I' 2 c) (I' 4 c)) sd n).2 = zv_draw I n sd := fun sd => by rw [h1 2 rfl, h1 4 rfl]; rfl
          generalize zv_now I n T e = f at *
          have loop := zl_fn (fun i => zk_R sc (d + 6) 206 56 [some (.ref (60 : Nat)), some (.int seed), some (.int (nI m)), some (.int most), some (.int part), some (.long (nL (zod I f n seed most i))), none, some (.int (nI i))] [] (zk_mk I' tg) P) m (by
              have ha := zod_le I f n seed most m
              generalize zod I f n seed most m = a at *
              rw [u206_56]
              simp only [u206_0, u206_1, u206_2, u206_5, u206_8, u206_11, u206_12, u206_13, u206_15, u206_18, u206_21, u206_22, u206_23, u206_26, u206_29, u206_32, u206_34, u206_35, u206_36, u206_39, u206_42, u206_45, u206_46, u206_47, u206_50, u206_51, u206_53, u206_54, u206_58, u206_59, u206_62, u206_64, u206_65, u206_66, u206_67, u206_69, u206_70, u206_73, u206_76, u206_77, u206_80, u206_81, u206_84, u206_85, u206_86, u206_88, u206_91, u206_94, u206_96, u206_97, u206_98, u206_100, u206_103, zk_mk_1, zk_mk_I, zk_mk_R, zk_mk_set, zk_mk_setR, zk_mk_cpy, zk_rv_some, zk_rv_none, Option.toList_some, Option.toList_none, List.cons_append, List.nil_append, reduceIte, eq_self, Nat.reduceLT, Nat.reduceEqDiff, and_true, true_and, reduceCtorEq, znL m (by omega), s207 (show a < 41 by omega) (show m < 41 by omega) (show ¬ m = 0 by omega)]
              rw [if_pos (nI_le (Nat.le_refl _) (by omega))]
              unfold zlow at K2
              by_cases h0 : a = 0
              · rw [if_pos h0]
                rw [h0, (zcd_0 m (by omega)).resolve_left (by omega), Nat.zero_div, Nat.div_self (by omega)] at K2
                rcases zw_01 v4 with rfl | rfl
                · exact K2
                · exact K2
              · rw [if_neg h0]
                rw [((zcd_gcd m (by omega) a (by omega)).resolve_left h0).resolve_left (by omega)] at K2
                exact K2) (by
              intro i hi ih
              rw [u206_56]
              simp only [u206_0, u206_1, u206_2, u206_5, u206_8, u206_11, u206_12, u206_13, u206_15, u206_18, u206_21, u206_22, u206_23, u206_26, u206_29, u206_32, u206_34, u206_35, u206_36, u206_39, u206_42, u206_45, u206_46, u206_47, u206_50, u206_51, u206_53, u206_54, u206_58, u206_59, u206_62, u206_64, u206_65, u206_66, u206_67, u206_69, u206_70, u206_73, u206_76, u206_77, u206_80, u206_81, u206_84, u206_85, u206_86, u206_88, u206_91, u206_94, u206_96, u206_97, u206_98, u206_100, u206_103, zk_mk_1, zk_mk_I, zk_mk_R, zk_mk_set, zk_mk_setR, zk_mk_cpy, zk_rv_some, zk_rv_none, Option.toList_some, Option.toList_none, List.cons_append, List.nil_append, reduceIte, eq_self, Nat.reduceLT, Nat.reduceEqDiff, and_true, true_and, reduceCtorEq, zsh_60, s203 hj', ed, s204 hj' h3 (hlt _), nI_1]
              rw [if_neg (nI_ge hi (by omega))]
              rw [zod] at ih
              by_cases hc : zfval f n (zv_draw I n (seed + nI i)) ≤ most
              · rw [if_pos hc] at ih
                first | rw [if_pos hc] | rw [if_neg (Int32.not_lt.mpr hc)]
                rw [znL_add]
                exact ih
              · rw [if_neg hc] at ih
                first | rw [if_neg hc] | rw [if_pos (Int32.not_le.mp hc)]
                rw [Int64.add_zero]
                exact ih)
          simp only [u206_0, u206_1, u206_2, u206_5, u206_8, u206_11, u206_12, u206_13, u206_15, u206_18, u206_21, u206_22, u206_23, u206_26, u206_29, u206_32, u206_34, u206_35, u206_36, u206_39, u206_42, u206_45, u206_46, u206_47, u206_50, u206_51, u206_53, u206_54, u206_58, u206_59, u206_62, u206_64, u206_65, u206_66, u206_67, u206_69, u206_70, u206_73, u206_76, u206_77, u206_80, u206_81, u206_84, u206_85, u206_86, u206_88, u206_91, u206_94, u206_96, u206_97, u206_98, u206_100, u206_103, zk_mk_1, zk_mk_I, zk_mk_R, zk_mk_set, zk_mk_setR, zk_mk_cpy, zk_rv_some, zk_rv_none, Option.toList_some, Option.toList_none, List.cons_append, List.nil_append, reduceIte, eq_self, Nat.reduceLT, Nat.reduceEqDiff, and_true, true_and, reduceCtorEq]
          exact loop 0 (Nat.zero_le _)
        · rw [if_pos v4]
          rw [if_neg (fun q => v4 q.2.2.2)] at K
          exact K I (zF_refl I)
      · rw [if_pos v3]
        rw [if_neg (fun q => v3 q.2.2.1)] at K
        exact K I (zF_refl I)
    · rw [if_pos v2]
      rw [if_neg (fun q => v2 q.2.1)] at K
      exact K I (zF_refl I)
  · rw [if_pos v1]
    rw [if_neg (fun q => v1 q.1)] at K
    exact K I (zF_refl I)
