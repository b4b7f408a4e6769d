/-! a new sheet by the reference -/
theorem zn_eqS {a b : Nat} (ha : a < 4) (hb : b < 4) : (nI a = nI b) = (a = b) := zn_eq (by omega) (by omega)
theorem zJ_sh {I I2 : Nat → Nat → Int32} {n t q m : Nat} {TT EE : Nat → Nat → Nat} {Z Z' : Nat → Nat} (hJ : zJ I n t q m TT EE Z) (h : ∀ j, j < 52 ∨ 60 ≤ j → ¬ (69 ≤ j ∧ j ≤ 71) → ¬ (75 ≤ j) → ¬ (14 ≤ j ∧ j ≤ 27) → ¬ (28 ≤ j ∧ j < 52 ∧ j % 4 = 3) → I2 j = I j) (hs : zj_sh I2 Z') : zJ I2 n t q m TT EE Z' := by
  obtain ⟨a, b, c, d, e, f, g⟩ := hJ
  exact ⟨a.cg (by rw [h 1 (by omega) (by omega) (by omega) (by omega) (by omega)]) (by rw [h 60 (by omega) (by omega) (by omega) (by omega) (by omega)]) (fun j hj => h j (by omega) (by omega) (by omega) (by omega) (by omega)), b.cg (by rw [h 1 (by omega) (by omega) (by omega) (by omega) (by omega)]) (by rw [h 60 (by omega) (by omega) (by omega) (by omega) (by omega)]), c.cg (by rw [h 0 (by omega) (by omega) (by omega) (by omega) (by omega)]) (by rw [h 60 (by omega) (by omega) (by omega) (by omega) (by omega)]) (fun j hj => h j (by omega) (by omega) (by omega) (by omega) (by omega)), d.cg (by rw [h 11 (by omega) (by omega) (by omega) (by omega) (by omega)]) (by rw [h 60 (by omega) (by omega) (by omega) (by omega) (by omega)]) (h 12 (by omega) (by omega) (by omega) (by omega) (by omega)) (h 65 (by omega) (by omega) (by omega) (by omega) (by omega)), hs, f.cg (by rw [h 0 (by omega) (by omega) (by omega) (by omega) (by omega)]) (by rw [h 60 (by omega) (by omega) (by omega) (by omega) (by omega)]) (by rw [h 60 (by omega) (by omega) (by omega) (by omega) (by omega)]) (by rw [h 60 (by omega) (by omega) (by omega) (by omega) (by omega)]) (fun j hj => h j (by omega) (by omega) (by omega) (by omega) (by omega)), g.cg (h 73 (by omega) (by omega) (by omega) (by omega) (by omega))⟩
theorem s210 {sc : zk_X} {d : Nat} {I I1 : Nat → Nat → Int32} {tg : Option Nat} {P : Option Value → zk_M → Prop} {n t q m : Nat} {TT EE : Nat → Nat → Nat} {Z : Nat → Nat} {s so nn : Int32} (hJ : zJ I n t q m TT EE Z) (hM : zMs I I1 s so nn)
    (K : ∀ (I2 : Nat → Nat → Int32) (Z' : Nat → Nat), zJ I2 n t q m TT EE Z' → P (some (.int (zA_sheet s so nn))) (zk_mk I2 tg)) : zk_R sc (d + 1) 210 0 [some (.ref (60 : Nat)), some (.int s), some (.int so), some (.int nn), none] [] (zk_mk I1 tg) P := by
  unfold zMs at hM
  have ref : zA_sheet s so nn ≠ 1 → P (some (.int (zA_sheet s so nn))) (zk_mk I1 tg) := by
    intro h
    rw [if_neg h] at hM
    rw [hM]
    exact K I Z hJ
  simp only [u210_0, u210_1, u210_2, u210_3, u210_6, u210_9, u210_10, u210_11, u210_12, u210_15, u210_18, u210_19, u210_20, u210_23, u210_24, u210_26, u210_29, u210_31, u210_32, u210_33, u210_34, u210_37, u210_38, u210_41, u210_43, u210_44, u210_45, u210_48, u210_49, u210_50, u210_51, u210_52, u210_55, u210_56, u210_57, u210_58, u210_61, u210_62, u210_65, u210_66, u210_67, u210_68, u210_72, u210_74, u210_77, u210_78, u210_81, u210_83, u210_84, u210_85, u210_87, u210_88, u210_89, u210_90, u210_93, u210_96, u210_97, zk_mk_1, zk_mk_I, zk_mk_R, zk_mk_set, zk_mk_setR, zk_mk_cpy, zk_rv_some, zk_rv_none, Option.toList_some, Option.toList_none, List.cons_append, List.nil_append, reduceIte, eq_self, Nat.reduceLT, Nat.reduceEqDiff, and_true, true_and, reduceCtorEq, zsh_60, s129, zb_z, zn_34]
  by_cases hs : 0 ≤ s ∧ s < 4
  · rw [if_neg (fun q => q hs)]
    by_cases hso : -1 ≤ so ∧ so ≤ 2
    · rw [if_neg (fun q => q hso)]
      obtain ⟨k, hk, rfl⟩ := zn_of (m := 4) hs.1 hs.2 (by decide)
      have y1 : zk_inb (nI k) 4 = true := by rw [zn_in (by omega)]; omega
      have y2 : (nI k).toNatClampNeg = k := zn_cl (by omega)
      rw [y2] at hM
      -- what is left to do where it is allowed
      have fill : ∀ z : Nat, z ≤ 40 → zA_sheet (nI k) so nn = 1 → zsz so nn = z → zk_R sc (d + 1) 210 70 [some (.ref (60 : Nat)), some (.int (nI k)), some (.int so), some (.int nn), some (.int (nI 0))] [] (zk_mk (zk_up2 (zk_up2 I1 69 k so) 70 k (nI z)) tg) P := by
        intro z hz he ez
        rw [if_pos he, ez] at hM
        rw [he] at K
        obtain ⟨m1, m2, m3, m4⟩ := hM
        have loop := zl_up (τ := Nat → Nat → Int32) (fun i I' => zk_R sc (d + 1) 210 70 [some (.ref (60 : Nat)), some (.int (nI k)), some (.int so), some (.int nn), some (.int (nI i))] [] (zk_mk I' tg) P)
          (fun i I' => (∀ j, j ≠ 69 → j ≠ 70 → j ≠ 71 → I' j = I1 j) ∧ (∀ b, I' 69 b = if b = k then so else I1 69 b) ∧ (∀ b, I' 70 b = if b = k then nI z else I1 70 b) ∧ ∀ b, I' 71 b = if 40 * k ≤ b ∧ b < 40 * k + i then 0 else I1 71 b) 40 (by
            rintro I' ⟨h1, h2, h3, h4⟩
            rw [u210_70]
            have hcond : (40 : Int32) ≤ nI 40 := by decide
            simp only [u210_0, u210_1, u210_2, u210_3, u210_6, u210_9, u210_10, u210_11, u210_12, u210_15, u210_18, u210_19, u210_20, u210_23, u210_24, u210_26, u210_29, u210_31, u210_32, u210_33, u210_34, u210_37, u210_38, u210_41, u210_43, u210_44, u210_45, u210_48, u210_49, u210_50, u210_51, u210_52, u210_55, u210_56, u210_57, u210_58, u210_61, u210_62, u210_65, u210_66, u210_67, u210_68, u210_72, u210_74, u210_77, u210_78, u210_81, u210_83, u210_84, u210_85, u210_87, u210_88, u210_89, u210_90, u210_93, u210_96, u210_97, zk_mk_1, zk_mk_I, zk_mk_R, zk_mk_set, zk_mk_setR, zk_mk_cpy, zk_rv_some, zk_rv_none, Option.toList_some, Option.toList_none, List.cons_append, List.nil_append, reduceIte, eq_self, Nat.reduceLT, Nat.reduceEqDiff, and_true, true_and, reduceCtorEq]
            first | rw [if_pos hcond] | rw [if_neg (Int32.not_lt.mpr hcond)]
            refine K I' (zup_fn Z k z) (zJ_sh hJ (fun j j1 j2 j3 j4 j5 => by rw [h1 j (by omega) (by omega) (by omega), m1 j (by omega) (by omega)]) (fun s' hs' => ?_))
            obtain ⟨q1, q2, q3, q4, q5⟩ := hJ.2.2.2.2.1 s' hs'
            unfold zup_fn
            rw [h1 (52 + 2 * s') (by omega) (by omega) (by omega), h1 (53 + 2 * s') (by omega) (by omega) (by omega), h2, h3]
            by_cases e : s' = k
            · subst e
              rw [if_pos rfl, if_pos rfl, if_pos rfl]
              refine ⟨m2.symm, m3, rfl, hz, fun j hj => ?_⟩
              rw [h4, if_pos (by omega), m4 j hj]
            · rw [if_neg e, if_neg e, if_neg e, m1 (52 + 2 * s') (by omega) (by omega), m1 (53 + 2 * s') (by omega) (by omega), m1 69 (by omega) (by omega), m1 70 (by omega) (by omega)]
              refine ⟨q1, q2, q3, q4, fun j hj => ?_⟩
              rw [h4, if_neg (by omega), m1 71 (by omega) (by omega)]
              exact q5 j hj) (by
            rintro i I' hi ⟨h1, h2, h3, h4⟩ ih
            have ei : (40 : Int32) * nI k + nI i = nI (40 * k + i) := by rw [show (40 : Int32) = nI 40 from rfl, zn_mul, zn_add]
            have z1 : zk_inb (nI (40 * k + i)) 160 = true := by rw [zn_in (by omega)]; omega
            have z2 : (nI (40 * k + i)).toNatClampNeg = 40 * k + i := zn_cl (by omega)
            have hcond : ¬ (40 : Int32) ≤ nI i := nI_ge (b := 40) hi (by decide)
            rw [u210_70]
            simp only [u210_0, u210_1, u210_2, u210_3, u210_6, u210_9, u210_10, u210_11, u210_12, u210_15, u210_18, u210_19, u210_20, u210_23, u210_24, u210_26, u210_29, u210_31, u210_32, u210_33, u210_34, u210_37, u210_38, u210_41, u210_43, u210_44, u210_45, u210_48, u210_49, u210_50, u210_51, u210_52, u210_55, u210_56, u210_57, u210_58, u210_61, u210_62, u210_65, u210_66, u210_67, u210_68, u210_72, u210_74, u210_77, u210_78, u210_81, u210_83, u210_84, u210_85, u210_87, u210_88, u210_89, u210_90, u210_93, u210_96, u210_97, zk_mk_1, zk_mk_I, zk_mk_R, zk_mk_set, zk_mk_setR, zk_mk_cpy, zk_rv_some, zk_rv_none, Option.toList_some, Option.toList_none, List.cons_append, List.nil_append, reduceIte, eq_self, Nat.reduceLT, Nat.reduceEqDiff, and_true, true_and, reduceCtorEq, zsh_60, zsh_71, zrf_60_17, ei, z1, z2, hcond, nI_1]
            refine ih _ ⟨fun j j1 j2 j3 => ?_, fun b => ?_, fun b => ?_, fun b => ?_⟩
            · rw [zk_up2_r j3]; exact h1 j j1 j2 j3
            · rw [zk_up2_k (by decide)]; exact h2 b
            · rw [zk_up2_k (by decide)]; exact h3 b
            · rw [zk_up2_i]
              by_cases e : b = 40 * k + i
              · rw [if_pos e, if_pos (by omega)]
              · rw [if_neg e, h4]
                by_cases e2 : 40 * k ≤ b ∧ b < 40 * k + i
                · rw [if_pos e2, if_pos (by omega)]
                · rw [if_neg e2, if_neg (by omega)])
        refine loop 0 _ (Nat.zero_le _) ⟨fun j j1 j2 j3 => ?_, fun b => ?_, fun b => ?_, fun b => ?_⟩
        · rw [zk_up2_r j2, zk_up2_r j1]
        · rw [zk_up2_k (by decide), zk_up2_i]
        · rw [zk_up2_i, zk_up2_k (by decide)]
        · rw [zk_up2_k (by decide), zk_up2_k (by decide), if_neg (by omega)]
      by_cases c3 : so = -1
      · subst c3
        have e : zA_sheet (nI k) (-1) nn = 1 := by unfold zA_sheet; rw [if_pos ⟨hs, hso⟩, if_pos rfl]
        have ez : zsz (-1) nn = 0 := if_pos rfl
        simp only [reduceIte, u210_0, u210_1, u210_2, u210_3, u210_6, u210_9, u210_10, u210_11, u210_12, u210_15, u210_18, u210_19, u210_20, u210_23, u210_24, u210_26, u210_29, u210_31, u210_32, u210_33, u210_34, u210_37, u210_38, u210_41, u210_43, u210_44, u210_45, u210_48, u210_49, u210_50, u210_51, u210_52, u210_55, u210_56, u210_57, u210_58, u210_61, u210_62, u210_65, u210_66, u210_67, u210_68, u210_72, u210_74, u210_77, u210_78, u210_81, u210_83, u210_84, u210_85, u210_87, u210_88, u210_89, u210_90, u210_93, u210_96, u210_97, zk_mk_1, zk_mk_I, zk_mk_R, zk_mk_set, zk_mk_setR, zk_mk_cpy, zk_rv_some, zk_rv_none, Option.toList_some, Option.toList_none, List.cons_append, List.nil_append, reduceIte, eq_self, Nat.reduceLT, Nat.reduceEqDiff, and_true, true_and, reduceCtorEq, zsh_60, zsh_69, zsh_70, zrf_60_15, zrf_60_16, y1, y2]
        exact fill 0 (by decide) e ez
      · by_cases c4 : 40 < nn
        · have c4' : ¬ nn ≤ 40 := Int32.not_le.mpr c4
          have e : zA_sheet (nI k) so nn = -2 := by unfold zA_sheet; rw [if_pos ⟨hs, hso⟩, if_neg c3, if_pos c4]
          simp only [c3, c4, c4', reduceIte]
          have := ref (by rw [e]; decide)
          rw [e] at this
          exact this
        · have c4' : nn ≤ 40 := Int32.not_lt.mp c4
          by_cases c5 : nn < 0
          · have c5' : ¬ 0 ≤ nn := Int32.not_le.mpr c5
            have e : zA_sheet (nI k) so nn = -14 := by unfold zA_sheet; rw [if_pos ⟨hs, hso⟩, if_neg c3, if_neg c4, if_pos c5]
            simp only [c3, c4, c4', c5, c5', reduceIte]
            have := ref (by rw [e]; decide)
            rw [e] at this
            exact this
          · have c5' : 0 ≤ nn := Int32.not_lt.mp c5
            have e : zA_sheet (nI k) so nn = 1 := by unfold zA_sheet; rw [if_pos ⟨hs, hso⟩, if_neg c3, if_neg c4, if_neg c5]
            obtain ⟨z, hz, rfl⟩ := zn40 c5 c4
            have ez : zsz so (nI z) = z := by unfold zsz; rw [if_neg c3]; exact zn_cl (by omega)
            simp only [c3, c4, c4', c5, c5', reduceIte, u210_0, u210_1, u210_2, u210_3, u210_6, u210_9, u210_10, u210_11, u210_12, u210_15, u210_18, u210_19, u210_20, u210_23, u210_24, u210_26, u210_29, u210_31, u210_32, u210_33, u210_34, u210_37, u210_38, u210_41, u210_43, u210_44, u210_45, u210_48, u210_49, u210_50, u210_51, u210_52, u210_55, u210_56, u210_57, u210_58, u210_61, u210_62, u210_65, u210_66, u210_67, u210_68, u210_72, u210_74, u210_77, u210_78, u210_81, u210_83, u210_84, u210_85, u210_87, u210_88, u210_89, u210_90, u210_93, u210_96, u210_97, zk_mk_1, zk_mk_I, zk_mk_R, zk_mk_set, zk_mk_setR, zk_mk_cpy, zk_rv_some, zk_rv_none, Option.toList_some, Option.toList_none, List.cons_append, List.nil_append, reduceIte, eq_self, Nat.reduceLT, Nat.reduceEqDiff, and_true, true_and, reduceCtorEq, zsh_60, zsh_69, zsh_70, zrf_60_15, zrf_60_16, y1, y2]
            exact fill z hz e ez
    · rw [if_pos hso]
      have e : zA_sheet s so nn = -2 := if_neg (fun q => hso q.2)
      have := ref (by rw [e]; decide)
      rw [e] at this
      exact this
  · rw [if_pos hs]
    have e : zA_sheet s so nn = -2 := if_neg (fun q => hs q.1)
    have := ref (by rw [e]; decide)
    rw [e] at this
    exact this
