/-! sheet, cell -/
def zup_fn (Z : Nat → Nat) (k z : Nat) : Nat → Nat := fun s => if s = k then z else Z s
theorem s87 {sc : zk_X} {d : Nat} {I : Nat → Nat → Int32} {tg : Option Nat} {P : Option Value → zk_M → Prop} {s z : Nat} {so : Int32} (hs : s < 4) (hz : z ≤ 40)
    (K : ∀ I' : Nat → Nat → Int32, (∀ j, j ≠ 52 + 2 * s → j ≠ 53 + 2 * s → I' j = I j) → I' (52 + 2 * s) 1 = so → I' (52 + 2 * s) 2 = nI z → (∀ i, i < z → I' (53 + 2 * s) i = 0) → P none (zk_mk I' tg)) : zk_R sc d 87 0 [some (.ref (52 + 2 * s)), some (.int so), some (.int (nI z)), none] [] (zk_mk I tg) P := by
  obtain ⟨x1, x2⟩ := zx_s hs tg
  obtain ⟨x3, x4, x5, x6⟩ := zx_s1 hs
  have loop := zl_up (τ := Nat → Nat → Int32) (fun i I' => zk_R sc d 87 12 [some (.ref (52 + 2 * s)), some (.int so), some (.int (nI z)), some (.int (nI i))] [] (zk_mk I' tg) P)
    (fun i I' => (∀ j, j ≠ 52 + 2 * s → j ≠ 53 + 2 * s → I' j = I j) ∧ I' (52 + 2 * s) 1 = so ∧ I' (52 + 2 * s) 2 = nI z ∧ ∀ j, j < i → I' (53 + 2 * s) j = 0) z (by
      rintro I' ⟨h1, h2, h3, h4⟩
      rw [u87_12]
      simp only [u87_0, u87_1, u87_2, u87_5, u87_6, u87_7, u87_10, u87_11, u87_13, u87_14, u87_17, u87_20, u87_21, u87_23, u87_26, u87_27, u87_30, u87_31, u87_32, u87_33, u87_36, u87_39, zk_mk_1, zk_mk_I, zk_mk_R, zk_mk_set, zk_mk_setR, zk_mk_cpy, zk_rv_some, zk_rv_none, Option.toList_some, Option.toList_none, List.cons_append, List.nil_append, reduceIte, eq_self, Nat.reduceLT, Nat.reduceEqDiff, and_true, true_and, reduceCtorEq, x3, x5, h3]
      rw [if_pos (nI_le (Nat.le_refl _) (by omega))]
      exact K I' h1 h2 h3 h4) (by
      rintro i I' hi ⟨h1, h2, h3, h4⟩ ih
      have z1 : zk_inb (nI i) 40 = true := by rw [zn_in (by omega)]; omega
      have z2 : (nI i).toNatClampNeg = i := zn_cl (by omega)
      have hcond : ¬ (40 : Int32) ≤ nI i := nI_ge (b := 40) (by omega) (by decide)
      rw [u87_12]
      simp only [u87_0, u87_1, u87_2, u87_5, u87_6, u87_7, u87_10, u87_11, u87_13, u87_14, u87_17, u87_20, u87_21, u87_23, u87_26, u87_27, u87_30, u87_31, u87_32, u87_33, u87_36, u87_39, zk_mk_1, zk_mk_I, zk_mk_R, zk_mk_set, zk_mk_setR, zk_mk_cpy, zk_rv_some, zk_rv_none, Option.toList_some, Option.toList_none, List.cons_append, List.nil_append, reduceIte, eq_self, Nat.reduceLT, Nat.reduceEqDiff, and_true, true_and, reduceCtorEq, x2, x3, x4, x5, x6, h3, z1, z2, hcond, nI_1]
      rw [if_neg (nI_ge hi (by omega))]
      refine ih _ ⟨fun j j1 j2 => ?_, ?_, ?_, fun j hj => ?_⟩
      · rw [zk_up2_r j2]; exact h1 j j1 j2
      · rw [zk_up2_k (by omega)]; exact h2
      · rw [zk_up2_k (by omega)]; exact h3
      · rw [zk_up2_i]
        by_cases e : j = i
        · rw [if_pos e]
        · rw [if_neg e]; exact h4 j (by omega))
  simp only [u87_0, u87_1, u87_2, u87_5, u87_6, u87_7, u87_10, u87_11, u87_13, u87_14, u87_17, u87_20, u87_21, u87_23, u87_26, u87_27, u87_30, u87_31, u87_32, u87_33, u87_36, u87_39, zk_mk_1, zk_mk_I, zk_mk_R, zk_mk_set, zk_mk_setR, zk_mk_cpy, zk_rv_some, zk_rv_none, Option.toList_some, Option.toList_none, List.cons_append, List.nil_append, reduceIte, eq_self, Nat.reduceLT, Nat.reduceEqDiff, and_true, true_and, reduceCtorEq, x3, x5]
  refine loop 0 _ (Nat.zero_le _) ⟨fun j j1 j2 => ?_, ?_, ?_, fun j hj => absurd hj (Nat.not_lt_zero _)⟩
  · rw [zk_up2_r j1, zk_up2_r j1]
  · rw [zk_up2_j (by decide), zk_up2_s]
  · rw [zk_up2_s]
/-- what a new sheet is: nothing where it is refused -/
def zA_sheet (s so n : Int32) : Int32 := if (0 ≤ s ∧ s < 4) ∧ (-1 ≤ so ∧ so ≤ 2) then (if so = -1 then 1 else if 40 < n then -2 else if n < 0 then -14 else 1) else -2
def zsz (so n : Int32) : Nat := if so = -1 then 0 else n.toNatClampNeg
def zMs (I I1 : Nat → Nat → Int32) (s so n : Int32) : Prop := if zA_sheet s so n = 1 then (∀ j, j ≠ 52 + 2 * s.toNatClampNeg → j ≠ 53 + 2 * s.toNatClampNeg → I1 j = I j) ∧ I1 (52 + 2 * s.toNatClampNeg) 1 = so ∧ I1 (52 + 2 * s.toNatClampNeg) 2 = nI (zsz so n) ∧ ∀ i, i < zsz so n → I1 (53 + 2 * s.toNatClampNeg) i = 0 else I1 = I
theorem zn40 {n : Int32} (h1 : ¬ n < 0) (h2 : ¬ 40 < n) : ∃ k : Nat, k ≤ 40 ∧ n = nI k := by
  obtain ⟨k, hk, rfl⟩ := zn_of (x := n) (m := 41) (Int32.not_lt.mp h1) (by rw [zn_lt1 (by decide)]; exact Int32.not_lt.mp h2) (by decide)
  exact ⟨k, by omega, rfl⟩
theorem s54 {sc : zk_X} {d : Nat} {I : Nat → Nat → Int32} {tg : Option Nat} {P : Option Value → zk_M → Prop} {s so n : Int32}
    (K : ∀ I1 : Nat → Nat → Int32, zMs I I1 s so n → P (some (.int (zA_sheet s so n))) (zk_mk I1 tg)) : zk_R sc (d + 1) 54 0 [some (.ref (0 : Nat)), some (.int s), some (.int so), some (.int n)] [] (zk_mk I tg) P := by
  unfold zMs at K
  simp only [u54_0, u54_1, u54_4, u54_7, u54_8, u54_9, u54_12, u54_13, u54_14, u54_17, u54_19, u54_20, u54_21, u54_22, u54_25, u54_26, u54_29, u54_30, u54_31, u54_32, u54_33, u54_36, u54_37, u54_38, u54_39, u54_41, u54_44, u54_46, u54_47, u54_48, u54_51, u54_53, u54_54, u54_55, u54_58, u54_59, u54_60, u54_61, u54_62, u54_65, u54_66, zk_mk_1, zk_mk_I, zk_mk_R, zk_mk_set, zk_mk_setR, zk_mk_cpy, zk_rv_some, zk_rv_none, Option.toList_some, Option.toList_none, List.cons_append, List.nil_append, reduceIte, eq_self, Nat.reduceLT, Nat.reduceEqDiff, and_true, true_and, reduceCtorEq, zsh_0, s38, zb_z]
  by_cases hs : 0 ≤ s ∧ s < 4
  · rw [if_neg (fun q => q hs)]
    obtain ⟨k, hk, rfl⟩ := zn_of (m := 4) hs.1 hs.2 (by decide)
    have y1 : zk_inb (nI k) 4 = true := by rw [zn_in (by omega)]; omega
    have y2 : (nI k).toNatClampNeg = k := zn_cl (by omega)
    obtain ⟨x1, x2⟩ := zx_s hk tg
    obtain ⟨x3, x4, x5, x6⟩ := zx_s1 hk
    by_cases c1 : so < -1
    · rw [if_pos c1]
      have e : zA_sheet (nI k) so n = -2 := if_neg (fun q => Int32.not_lt.mpr q.2.1 c1)
      rw [e] at K
      exact K I (by rw [if_neg (by decide)])
    · rw [if_neg c1]
      by_cases c2 : so ≤ 2
      · have hso : -1 ≤ so ∧ so ≤ 2 := ⟨Int32.not_lt.mp c1, c2⟩
        first | rw [if_pos c2] | rw [if_neg (Int32.not_lt.mpr c2)]
        by_cases c3 : so = -1
        · subst c3
          have e : zA_sheet (nI k) (-1) n = 1 := by unfold zA_sheet; rw [if_pos ⟨hs, hso⟩, if_pos rfl]
          have ez : zsz (-1) n = 0 := if_pos rfl
          simp only [reduceIte, u54_0, u54_1, u54_4, u54_7, u54_8, u54_9, u54_12, u54_13, u54_14, u54_17, u54_19, u54_20, u54_21, u54_22, u54_25, u54_26, u54_29, u54_30, u54_31, u54_32, u54_33, u54_36, u54_37, u54_38, u54_39, u54_41, u54_44, u54_46, u54_47, u54_48, u54_51, u54_53, u54_54, u54_55, u54_58, u54_59, u54_60, u54_61, u54_62, u54_65, u54_66, zk_mk_1, zk_mk_I, zk_mk_R, zk_mk_set, zk_mk_setR, zk_mk_cpy, zk_rv_some, zk_rv_none, Option.toList_some, Option.toList_none, List.cons_append, List.nil_append, reduceIte, eq_self, Nat.reduceLT, Nat.reduceEqDiff, and_true, true_and, reduceCtorEq, zsh_0, zsh_26, zrf_0_8, y1, y2, x1, x3, x5]
          rw [show (0 : Int32) = nI 0 from rfl]
          refine s87 hk (by decide) (fun I' h1 h2 h3 h4 => ?_)
          simp only [u54_0, u54_1, u54_4, u54_7, u54_8, u54_9, u54_12, u54_13, u54_14, u54_17, u54_19, u54_20, u54_21, u54_22, u54_25, u54_26, u54_29, u54_30, u54_31, u54_32, u54_33, u54_36, u54_37, u54_38, u54_39, u54_41, u54_44, u54_46, u54_47, u54_48, u54_51, u54_53, u54_54, u54_55, u54_58, u54_59, u54_60, u54_61, u54_62, u54_65, u54_66, zk_mk_1, zk_mk_I, zk_mk_R, zk_mk_set, zk_mk_setR, zk_mk_cpy, zk_rv_some, zk_rv_none, Option.toList_some, Option.toList_none, List.cons_append, List.nil_append, reduceIte, eq_self, Nat.reduceLT, Nat.reduceEqDiff, and_true, true_and, reduceCtorEq]
          rw [e, ez, y2] at K
          exact K I' (by rw [if_pos rfl]; exact ⟨h1, h2, h3, h4⟩)
        · simp only [c3, reduceIte]
          by_cases c4 : 40 < n
          · have c4' : ¬ n ≤ 40 := Int32.not_le.mpr c4
            have e : zA_sheet (nI k) so n = -2 := by unfold zA_sheet; rw [if_pos ⟨hs, hso⟩, if_neg c3, if_pos c4]
            simp only [c4, c4', reduceIte]
            rw [e] at K
            exact K I (by rw [if_neg (by decide)])
          · have c4' : n ≤ 40 := Int32.not_lt.mp c4
            by_cases c5 : n < 0
            · have c5' : ¬ 0 ≤ n := Int32.not_le.mpr c5
              have e : zA_sheet (nI k) so n = -14 := by unfold zA_sheet; rw [if_pos ⟨hs, hso⟩, if_neg c3, if_neg c4, if_pos c5]
              simp only [c4, c4', c5, c5', reduceIte]
              rw [e] at K
              exact K I (by rw [if_neg (by decide)])
            · have c5' : 0 ≤ n := Int32.not_lt.mp c5
              have e : zA_sheet (nI k) so n = 1 := by unfold zA_sheet; rw [if_pos ⟨hs, hso⟩, if_neg c3, if_neg c4, if_neg c5]
              obtain ⟨z, hz, rfl⟩ := zn40 c5 c4
              have ez : zsz so (nI z) = z := by unfold zsz; rw [if_neg c3]; exact zn_cl (by omega)
              simp only [c4, c4', c5, c5', reduceIte, u54_0, u54_1, u54_4, u54_7, u54_8, u54_9, u54_12, u54_13, u54_14, u54_17, u54_19, u54_20, u54_21, u54_22, u54_25, u54_26, u54_29, u54_30, u54_31, u54_32, u54_33, u54_36, u54_37, u54_38, u54_39, u54_41, u54_44, u54_46, u54_47, u54_48, u54_51, u54_53, u54_54, u54_55, u54_58, u54_59, u54_60, u54_61, u54_62, u54_65, u54_66, zk_mk_1, zk_mk_I, zk_mk_R, zk_mk_set, zk_mk_setR, zk_mk_cpy, zk_rv_some, zk_rv_none, Option.toList_some, Option.toList_none, List.cons_append, List.nil_append, reduceIte, eq_self, Nat.reduceLT, Nat.reduceEqDiff, and_true, true_and, reduceCtorEq, zsh_0, zsh_26, zrf_0_8, y1, y2, x1, x3, x5]
              refine s87 hk hz (fun I' h1 h2 h3 h4 => ?_)
              simp only [u54_0, u54_1, u54_4, u54_7, u54_8, u54_9, u54_12, u54_13, u54_14, u54_17, u54_19, u54_20, u54_21, u54_22, u54_25, u54_26, u54_29, u54_30, u54_31, u54_32, u54_33, u54_36, u54_37, u54_38, u54_39, u54_41, u54_44, u54_46, u54_47, u54_48, u54_51, u54_53, u54_54, u54_55, u54_58, u54_59, u54_60, u54_61, u54_62, u54_65, u54_66, zk_mk_1, zk_mk_I, zk_mk_R, zk_mk_set, zk_mk_setR, zk_mk_cpy, zk_rv_some, zk_rv_none, Option.toList_some, Option.toList_none, List.cons_append, List.nil_append, reduceIte, eq_self, Nat.reduceLT, Nat.reduceEqDiff, and_true, true_and, reduceCtorEq]
              rw [e, ez, y2] at K
              exact K I' (by rw [if_pos rfl]; exact ⟨h1, h2, h3, h4⟩)
      · first | rw [if_neg c2] | rw [if_pos (Int32.not_le.mp c2)]
        have e : zA_sheet (nI k) so n = -2 := if_neg (fun q => c2 q.2.2)
        rw [e] at K
        exact K I (by rw [if_neg (by decide)])
  · rw [if_pos hs]
    have e : zA_sheet s so n = -2 := if_neg (fun q => hs q.1)
    rw [e] at K
    exact K I (by rw [if_neg (by decide)])
