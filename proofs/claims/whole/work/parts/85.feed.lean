/-! feed by both -/
def zfdok (n a b c d e : Int32) : Prop := (1 ≤ n ∧ n ≤ 5) ∧ (0 ≤ a ∧ a ≤ 255) ∧ (0 ≤ b ∧ b ≤ 255) ∧ (0 ≤ c ∧ c ≤ 255) ∧ (0 ≤ d ∧ d ≤ 255) ∧ 0 ≤ e ∧ e ≤ 255
def zfv (a b c d e : Int32) (i : Nat) : Int32 := if i = 0 then a else if i = 1 then b else if i = 2 then c else if i = 3 then d else e
noncomputable def zA_feed (m : Nat) (n a b c d e : Int32) : Int32 := @ite _ (zfdok n a b c d e) (Classical.propDecidable _) (if m + n.toNatClampNeg ≤ 160 then nI (m + n.toNatClampNeg) else -4) (-2)
/-- the bytes of a tape at place p, how many told in field k j -/
def zfd2 (I I1 : Nat → Nat → Int32) (p k j m l : Nat) (v : Nat → Int32) : Prop := (∀ x, x ≠ p → x ≠ k → I1 x = I x) ∧ (∀ y, y ≠ j → I1 k y = I k y) ∧ I1 k j = nI (m + l) ∧ ∀ y, I1 p y = if m ≤ y ∧ y < m + l then v (y - m) else I p y
def zMf (I I1 : Nat → Nat → Int32) (p k j m : Nat) (n a b c d e : Int32) : Prop := (I1 = I ∧ ¬ (zfdok n a b c d e ∧ m + n.toNatClampNeg ≤ 160)) ∨ ((zfdok n a b c d e ∧ m + n.toNatClampNeg ≤ 160) ∧ zfd2 I I1 p k j m n.toNatClampNeg (zfv a b c d e))
theorem s101 {sc : zk_X} {d : Nat} {I : Nat → Nat → Int32} {tg : Option Nat} {P : Option Value → zk_M → Prop} {m : Nat} {v : Int32} (hm : I 11 1 = nI m) (h : m < 160) : zk_R sc d 101 0 [some (.ref (11 : Nat)), some (.int v)] [] (zk_mk I tg) P = P none (zk_mk (zk_up2 (zk_up2 I 12 m v) 11 1 (nI (m + 1))) tg) := by
  have z1 : zk_inb (nI m) 160 = true := by rw [zn_in (by omega)]; omega
  have z2 : (nI m).toNatClampNeg = m := zn_cl (by omega)
  have hcond : ¬ (160 : Int32) ≤ nI m := nI_ge (b := 160) h (by decide)
  simp only [u101_0, u101_1, u101_4, u101_7, u101_10, u101_11, u101_14, u101_15, u101_18, u101_19, u101_20, u101_21, u101_22, u101_25, u101_26, u101_27, u101_30, zk_mk_1, zk_mk_I, zk_mk_R, zk_mk_set, zk_mk_setR, zk_mk_cpy, zk_rv_some, zk_rv_none, Option.toList_some, Option.toList_none, List.cons_append, List.nil_append, reduceIte, eq_self, Nat.reduceLT, Nat.reduceEqDiff, and_true, true_and, reduceCtorEq, zsh_11, zsh_12, zrf_11_0, hm, hcond, z1, z2, zk_up2_k (show (11 : Nat) ≠ 12 by decide), nI_1]
theorem zs5 {s : Int32} (h : 1 ≤ s ∧ s ≤ 5) : ∃ k : Nat, 1 ≤ k ∧ k ≤ 5 ∧ s = nI k := by
  obtain ⟨k, hk, rfl⟩ := zn_of (x := s) (m := 6) (by
    have := Int32.le_iff_toInt_le.mp h.1
    rw [Int32.le_iff_toInt_le]
    have e1 : (1 : Int32).toInt = 1 := by decide
    have e0 : (0 : Int32).toInt = 0 := by decide
    omega) (by rw [zn_lt1 (by decide)]; exact h.2) (by decide)
  refine ⟨k, ?_, by omega, rfl⟩
  have := h.1
  rw [show (1 : Int32) = nI 1 from rfl, zn_le (by decide) (by omega)] at this
  exact this
theorem zfv_sel {a b c d e : Int32} {i : Nat} (h : i < 5) : (if nI i = 0 then a else if nI i = 1 then b else if nI i = 2 then c else if nI i = 3 then d else e) = zfv a b c d e i := by
  unfold zfv
  have y : ∀ k, k < 5 → (nI i = nI k) = (i = k) := fun k hk => zn_eq (by omega) (by omega)
  rw [show (0 : Int32) = nI 0 from rfl, show (1 : Int32) = nI 1 from rfl, show (2 : Int32) = nI 2 from rfl, show (3 : Int32) = nI 3 from rfl]
  simp only [y 0 (by decide), y 1 (by decide), y 2 (by decide), y 3 (by decide)]
theorem s2 {sc : zk_X} {dd : Nat} {I : Nat → Nat → Int32} {tg : Option Nat} {P : Option Value → zk_M → Prop} {m : Nat} {n a b c d e : Int32} (hm : I 11 1 = nI m) (h160 : m ≤ 160)
    (K : ∀ I1 : Nat → Nat → Int32, zMf I I1 12 11 1 m n a b c d e → P (some (.int (zA_feed m n a b c d e))) (zk_mk I1 tg)) : zk_R sc (dd + 1) 2 0 [some (.ref (0 : Nat)), some (.int n), some (.int a), some (.int b), some (.int c), some (.int d), some (.int e), none, none] [] (zk_mk I tg) P := by
  have ref : ¬ zfdok n a b c d e → P (some (.int (-2))) (zk_mk I tg) := by
    intro h
    have K2 := K I (Or.inl ⟨rfl, fun q => h q.1⟩)
    unfold zA_feed at K2
    rw [if_neg h] at K2
    exact K2
  have fails : ¬ ((0 ≤ a ∧ a ≤ 255) ∧ (0 ≤ b ∧ b ≤ 255) ∧ (0 ≤ c ∧ c ≤ 255) ∧ (0 ≤ d ∧ d ≤ 255) ∧ 0 ≤ e ∧ e ≤ 255) → zk_R sc (dd + 1) 2 43 [some (.ref (0 : Nat)), some (.int n), some (.int a), some (.int b), some (.int c), some (.int d), some (.int e), none, none] [.int 0] (zk_mk I tg) P := by
    intro h
    have r := ref (fun q => h q.2)
    simp only [u2_0, u2_1, u2_4, u2_7, u2_8, u2_11, u2_14, u2_16, u2_19, u2_22, u2_24, u2_27, u2_30, u2_32, u2_35, u2_38, u2_39, u2_42, u2_43, u2_45, u2_46, u2_47, u2_50, u2_51, u2_52, u2_55, u2_57, u2_60, u2_62, u2_63, u2_64, u2_67, u2_70, u2_71, u2_72, u2_75, u2_78, u2_80, u2_81, u2_82, u2_86, u2_87, u2_90, u2_91, u2_94, u2_96, u2_99, u2_100, u2_103, u2_105, u2_106, u2_109, u2_110, u2_113, u2_115, u2_116, u2_119, u2_121, u2_124, u2_126, u2_127, u2_130, u2_132, u2_135, u2_137, u2_140, u2_143, u2_146, u2_147, u2_150, u2_153, zk_mk_1, zk_mk_I, zk_mk_R, zk_mk_set, zk_mk_setR, zk_mk_cpy, zk_rv_some, zk_rv_none, Option.toList_some, Option.toList_none, List.cons_append, List.nil_append, reduceIte, eq_self, Nat.reduceLT, Nat.reduceEqDiff, and_true, true_and, reduceCtorEq]
    (repeat' split) <;> exact r
  simp only [u2_0, u2_1, u2_4, u2_7, u2_8, u2_11, u2_14, u2_16, u2_19, u2_22, u2_24, u2_27, u2_30, u2_32, u2_35, u2_38, u2_39, u2_42, u2_45, u2_46, u2_47, u2_50, u2_51, u2_52, u2_55, u2_57, u2_60, u2_62, u2_63, u2_64, u2_67, u2_70, u2_71, u2_72, u2_75, u2_78, u2_80, u2_81, u2_82, u2_86, u2_87, u2_90, u2_91, u2_94, u2_96, u2_99, u2_100, u2_103, u2_105, u2_106, u2_109, u2_110, u2_113, u2_115, u2_116, u2_119, u2_121, u2_124, u2_126, u2_127, u2_130, u2_132, u2_135, u2_137, u2_140, u2_143, u2_146, u2_147, u2_150, u2_153, zk_mk_1, zk_mk_I, zk_mk_R, zk_mk_set, zk_mk_setR, zk_mk_cpy, zk_rv_some, zk_rv_none, Option.toList_some, Option.toList_none, List.cons_append, List.nil_append, reduceIte, eq_self, Nat.reduceLT, Nat.reduceEqDiff, and_true, true_and, reduceCtorEq, s3, zb_z]
  by_cases ha : 0 ≤ a ∧ a ≤ 255
  · rw [if_neg (fun q => q ha)]
    by_cases hb : 0 ≤ b ∧ b ≤ 255
    · rw [if_neg (fun q => q hb)]
      by_cases hc : 0 ≤ c ∧ c ≤ 255
      · rw [if_neg (fun q => q hc)]
        by_cases hd : 0 ≤ d ∧ d ≤ 255
        · rw [if_neg (fun q => q hd)]
          by_cases he : 0 ≤ e ∧ e ≤ 255
          · rw [if_neg (fun q => q he)]
            have one : ((1 : Int32) = 0) = False := by decide
            by_cases hn : 1 ≤ n ∧ n ≤ 5
            · have hok : zfdok n a b c d e := ⟨hn, ha, hb, hc, hd, he⟩
              have n1 : ¬ n < 1 := Int32.not_lt.mpr hn.1
              have n2 : ¬ 5 < n := Int32.not_lt.mpr hn.2
              obtain ⟨l, l1, l2, rfl⟩ := zs5 hn
              have y1 : (nI l).toNatClampNeg = l := zn_cl (by omega)
              unfold zMf at K
              unfold zA_feed at K
              rw [if_pos hok, y1] at K
              simp only [u2_0, u2_1, u2_4, u2_7, u2_8, u2_11, u2_14, u2_16, u2_19, u2_22, u2_24, u2_27, u2_30, u2_32, u2_35, u2_38, u2_39, u2_42, u2_43, u2_45, u2_46, u2_47, u2_50, u2_51, u2_52, u2_55, u2_57, u2_60, u2_62, u2_63, u2_64, u2_67, u2_70, u2_71, u2_72, u2_75, u2_78, u2_80, u2_81, u2_82, u2_86, u2_87, u2_90, u2_91, u2_94, u2_96, u2_99, u2_100, u2_103, u2_105, u2_106, u2_109, u2_110, u2_113, u2_115, u2_116, u2_119, u2_121, u2_124, u2_126, u2_127, u2_130, u2_132, u2_135, u2_137, u2_140, u2_143, u2_146, u2_147, u2_150, u2_153, zk_mk_1, zk_mk_I, zk_mk_R, zk_mk_set, zk_mk_setR, zk_mk_cpy, zk_rv_some, zk_rv_none, Option.toList_some, Option.toList_none, List.cons_append, List.nil_append, reduceIte, eq_self, Nat.reduceLT, Nat.reduceEqDiff, and_true, true_and, reduceCtorEq, zsh_0, zsh_11, zrf_0_3, n1, n2, one, hm, zn_add]
              by_cases hl : m + l ≤ 160
              · have h1 : nI (m + l) ≤ 160 := by rw [show (160 : Int32) = nI 160 from rfl, zn_le (by omega) (by decide)]; exact hl
                have h2 : ¬ 160 < nI (m + l) := Int32.not_lt.mpr h1
                first | rw [if_pos h1] | rw [if_neg h2]
                rw [if_pos hl] at K
                have loop := zl_up (τ := Nat → Nat → Int32) (fun i I' => zk_R sc (dd + 1) 2 84 [some (.ref (0 : Nat)), some (.int (nI l)), some (.int a), some (.int b), some (.int c), some (.int d), some (.int e), some (.int 1), some (.int (nI i))] [] (zk_mk I' tg) P)
                  (fun i I' => zfd2 I I' 12 11 1 m i (zfv a b c d e)) l (by
                    rintro I' ⟨g1, g2, g3, g4⟩
                    rw [u2_84]
                    simp only [u2_0, u2_1, u2_4, u2_7, u2_8, u2_11, u2_14, u2_16, u2_19, u2_22, u2_24, u2_27, u2_30, u2_32, u2_35, u2_38, u2_39, u2_42, u2_43, u2_45, u2_46, u2_47, u2_50, u2_51, u2_52, u2_55, u2_57, u2_60, u2_62, u2_63, u2_64, u2_67, u2_70, u2_71, u2_72, u2_75, u2_78, u2_80, u2_81, u2_82, u2_86, u2_87, u2_90, u2_91, u2_94, u2_96, u2_99, u2_100, u2_103, u2_105, u2_106, u2_109, u2_110, u2_113, u2_115, u2_116, u2_119, u2_121, u2_124, u2_126, u2_127, u2_130, u2_132, u2_135, u2_137, u2_140, u2_143, u2_146, u2_147, u2_150, u2_153, zk_mk_1, zk_mk_I, zk_mk_R, zk_mk_set, zk_mk_setR, zk_mk_cpy, zk_rv_some, zk_rv_none, Option.toList_some, Option.toList_none, List.cons_append, List.nil_append, reduceIte, eq_self, Nat.reduceLT, Nat.reduceEqDiff, and_true, true_and, reduceCtorEq, zsh_0, zsh_11, zrf_0_3, g3]
                    rw [if_pos (nI_le (Nat.le_refl _) (by omega))]
                    exact K I' (Or.inr ⟨⟨hok, hl⟩, g1, g2, g3, g4⟩)) (by
                    rintro i I' hi ⟨g1, g2, g3, g4⟩ ih
                    have nx : ∀ w, w = zfv a b c d e i → zk_R sc (dd + 1) 2 137 [some (.ref (0 : Nat)), some (.int (nI l)), some (.int a), some (.int b), some (.int c), some (.int d), some (.int e), some (.int 1), some (.int (nI i))] [.int w, .ref (11 : Nat)] (zk_mk I' tg) P := by
                      rintro w rfl
                      simp only [u2_0, u2_1, u2_4, u2_7, u2_8, u2_11, u2_14, u2_16, u2_19, u2_22, u2_24, u2_27, u2_30, u2_32, u2_35, u2_38, u2_39, u2_42, u2_43, u2_45, u2_46, u2_47, u2_50, u2_51, u2_52, u2_55, u2_57, u2_60, u2_62, u2_63, u2_64, u2_67, u2_70, u2_71, u2_72, u2_75, u2_78, u2_80, u2_81, u2_82, u2_86, u2_87, u2_90, u2_91, u2_94, u2_96, u2_99, u2_100, u2_103, u2_105, u2_106, u2_109, u2_110, u2_113, u2_115, u2_116, u2_119, u2_121, u2_124, u2_126, u2_127, u2_130, u2_132, u2_135, u2_137, u2_140, u2_143, u2_146, u2_147, u2_150, u2_153, zk_mk_1, zk_mk_I, zk_mk_R, zk_mk_set, zk_mk_setR, zk_mk_cpy, zk_rv_some, zk_rv_none, Option.toList_some, Option.toList_none, List.cons_append, List.nil_append, reduceIte, eq_self, Nat.reduceLT, Nat.reduceEqDiff, and_true, true_and, reduceCtorEq, zsh_11, s101 g3 (show m + i < 160 by omega), nI_1]
                      refine ih _ ⟨fun x x1 x2 => ?_, fun y hy => ?_, ?_, fun y => ?_⟩
                      · rw [zk_up2_r x2, zk_up2_r x1]; exact g1 x x1 x2
                      · rw [zk_up2_j hy, zk_up2_k (by decide)]; exact g2 y hy
                      · rw [zk_up2_s, Nat.add_assoc]
                      · rw [zk_up2_k (by decide), zk_up2_i, g4]
                        by_cases ey : y = m + i
                        · rw [if_pos ey, if_pos (by omega), ey, show m + i - m = i by omega]
                        · rw [if_neg ey]
                          by_cases e2 : m ≤ y ∧ y < m + i
                          · rw [if_pos e2, if_pos (by omega)]
                          · rw [if_neg e2, if_neg (by omega)]
                    have y : ∀ k, k < 5 → (nI i = nI k) = (i = k) := fun k hk => zn_eq (by omega) (by omega)
                    have y0 : (nI i = 0) = (i = 0) := y 0 (by decide)
                    have y1 : (nI i = 1) = (i = 1) := y 1 (by decide)
                    have y2 : (nI i = 2) = (i = 2) := y 2 (by decide)
                    have y3 : (nI i = 3) = (i = 3) := y 3 (by decide)
                    rw [u2_84]
                    simp only [u2_0, u2_1, u2_4, u2_7, u2_8, u2_11, u2_14, u2_16, u2_19, u2_22, u2_24, u2_27, u2_30, u2_32, u2_35, u2_38, u2_39, u2_42, u2_43, u2_45, u2_46, u2_47, u2_50, u2_51, u2_52, u2_55, u2_57, u2_60, u2_62, u2_63, u2_64, u2_67, u2_70, u2_71, u2_72, u2_75, u2_78, u2_80, u2_81, u2_82, u2_86, u2_87, u2_90, u2_91, u2_94, u2_96, u2_99, u2_100, u2_103, u2_105, u2_106, u2_109, u2_110, u2_113, u2_115, u2_116, u2_119, u2_121, u2_124, u2_126, u2_127, u2_130, u2_132, u2_135, u2_140, u2_143, u2_146, u2_147, u2_150, u2_153, zk_mk_1, zk_mk_I, zk_mk_R, zk_mk_set, zk_mk_setR, zk_mk_cpy, zk_rv_some, zk_rv_none, Option.toList_some, Option.toList_none, List.cons_append, List.nil_append, reduceIte, eq_self, Nat.reduceLT, Nat.reduceEqDiff, and_true, true_and, reduceCtorEq, zsh_0, zrf_0_3, y0, y1, y2, y3]
                    rw [if_neg (nI_ge hi (by omega))]
                    unfold zfv at nx
                    by_cases q0 : i = 0
                    · rw [if_pos q0]; exact nx _ (by rw [if_pos q0])
                    · rw [if_neg q0]
                      by_cases q1 : i = 1
                      · rw [if_pos q1]; exact nx _ (by rw [if_neg q0, if_pos q1])
                      · rw [if_neg q1]
                        by_cases q2 : i = 2
                        · rw [if_pos q2]; exact nx _ (by rw [if_neg q0, if_neg q1, if_pos q2])
                        · rw [if_neg q2]
                          by_cases q3 : i = 3
                          · rw [if_pos q3]; exact nx _ (by rw [if_neg q0, if_neg q1, if_neg q2, if_pos q3])
                          · rw [if_neg q3]; exact nx _ (by rw [if_neg q0, if_neg q1, if_neg q2, if_neg q3]))
                exact loop 0 I (Nat.zero_le _) ⟨fun _ _ _ => rfl, fun _ _ => rfl, hm, fun y => by rw [if_neg (by omega)]⟩
              · have h1 : 160 < nI (m + l) := by rw [show (160 : Int32) = nI 160 from rfl, zn_lt (by decide) (by omega)]; omega
                have h2 : ¬ nI (m + l) ≤ 160 := Int32.not_le.mpr h1
                first | rw [if_neg h2] | rw [if_pos h1]
                rw [if_neg hl] at K
                exact K I (Or.inl ⟨rfl, fun q => hl q.2⟩)
            · have r := ref (fun q => hn q.1)
              simp only [u2_0, u2_1, u2_4, u2_7, u2_8, u2_11, u2_14, u2_16, u2_19, u2_22, u2_24, u2_27, u2_30, u2_32, u2_35, u2_38, u2_39, u2_42, u2_43, u2_45, u2_46, u2_47, u2_50, u2_51, u2_52, u2_55, u2_57, u2_60, u2_62, u2_63, u2_64, u2_67, u2_70, u2_71, u2_72, u2_75, u2_78, u2_80, u2_81, u2_82, u2_86, u2_87, u2_90, u2_91, u2_94, u2_96, u2_99, u2_100, u2_103, u2_105, u2_106, u2_109, u2_110, u2_113, u2_115, u2_116, u2_119, u2_121, u2_124, u2_126, u2_127, u2_130, u2_132, u2_135, u2_137, u2_140, u2_143, u2_146, u2_147, u2_150, u2_153, zk_mk_1, zk_mk_I, zk_mk_R, zk_mk_set, zk_mk_setR, zk_mk_cpy, zk_rv_some, zk_rv_none, Option.toList_some, Option.toList_none, List.cons_append, List.nil_append, reduceIte, eq_self, Nat.reduceLT, Nat.reduceEqDiff, and_true, true_and, reduceCtorEq, one]
              by_cases n1 : n < 1
              · rw [if_pos n1]; exact r
              · rw [if_neg n1]
                by_cases n2 : 5 < n
                · first | rw [if_pos n2] | rw [if_neg (Int32.not_le.mpr n2)]
                  exact r
                · exact absurd ⟨Int32.not_lt.mp n1, Int32.not_lt.mp n2⟩ hn
          · rw [if_pos he]
            exact fails (fun q => he q.2.2.2.2)
        · rw [if_pos hd]
          exact fails (fun q => hd q.2.2.2.1)
      · rw [if_pos hc]
        exact fails (fun q => hc q.2.2.1)
    · rw [if_pos hb]
      exact fails (fun q => hb q.2.1)
  · rw [if_pos ha]
    exact fails (fun q => ha q.1)
