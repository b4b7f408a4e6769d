/-! feed by the reference -/
theorem s141 {sc : zk_X} {dd : Nat} {I I1 : Nat → Nat → Int32} {tg : Option Nat} {P : Option Value → zk_M → Prop} {nn t q m : Nat} {TT EE : Nat → Nat → Nat} {Z : Nat → Nat} {n a b c d e : Int32} (hJ : zJ I nn t q m TT EE Z) (hM : zMf I I1 12 11 1 m n a b c d e)
    (K : ∀ (I2 : Nat → Nat → Int32) (m' : Nat), zJ I2 nn t q m' TT EE Z → P (some (.int (zA_feed m n a b c d e))) (zk_mk I2 tg)) : zk_R sc (dd + 2) 141 0 [some (.ref (60 : Nat)), some (.int n), some (.int a), some (.int b), some (.int c), some (.int d), some (.int e), none] [] (zk_mk I1 tg) P := by
  have ref : ¬ (zfdok n a b c d e ∧ m + n.toNatClampNeg ≤ 160) → P (some (.int (zA_feed m n a b c d e))) (zk_mk I1 tg) := by
    intro h
    rcases hM with ⟨e1, -⟩ | ⟨e1, -⟩
    · rw [e1]; exact K I m hJ
    · exact absurd e1 h
  have bad : ¬ zfdok n a b c d e → P (some (.int (-2))) (zk_mk I1 tg) := by
    intro h
    have := ref (fun q => h q.1)
    unfold zA_feed at this
    rw [if_neg h] at this
    exact this
  have e6 : I1 60 6 = nI m := by
    rcases hM with ⟨e1, -⟩ | ⟨-, e1, -⟩
    · rw [e1]; exact hJ.2.2.2.1.2.1
    · rw [e1 60 (by decide) (by decide)]; exact hJ.2.2.2.1.2.1
  have h160 : m ≤ 160 := hJ.2.2.2.1.2.2.1
  simp only [u141_0, u141_1, u141_2, u141_3, u141_6, u141_9, u141_10, u141_13, u141_16, u141_17, u141_20, u141_23, u141_25, u141_28, u141_31, u141_33, u141_36, u141_39, u141_41, u141_44, u141_47, u141_49, u141_50, u141_51, u141_54, u141_55, u141_56, u141_59, u141_62, u141_64, u141_65, u141_66, u141_70, u141_71, u141_74, u141_75, u141_78, u141_79, u141_82, u141_84, u141_87, u141_88, u141_91, u141_93, u141_94, u141_97, u141_98, u141_101, u141_103, u141_104, u141_107, u141_109, u141_112, u141_114, u141_115, u141_118, u141_120, u141_123, u141_125, u141_126, u141_127, u141_128, u141_131, u141_132, u141_133, u141_136, u141_139, u141_142, u141_143, u141_146, zk_mk_1, zk_mk_I, zk_mk_R, zk_mk_set, zk_mk_setR, zk_mk_cpy, zk_rv_some, zk_rv_none, Option.toList_some, Option.toList_none, List.cons_append, List.nil_append, reduceIte, eq_self, Nat.reduceLT, Nat.reduceEqDiff, and_true, true_and, reduceCtorEq, zsh_60, s129, s142, zb_z]
  by_cases hn : 1 ≤ n ∧ n ≤ 5
  · rw [if_neg (fun w => w hn)]
    by_cases ha : 0 ≤ a ∧ a ≤ 255
    · rw [if_neg (fun w => w ha)]
      by_cases hb : 0 ≤ b ∧ b ≤ 255
      · rw [if_neg (fun w => w hb)]
        by_cases hc : 0 ≤ c ∧ c ≤ 255
        · rw [if_neg (fun w => w hc)]
          by_cases hd : 0 ≤ d ∧ d ≤ 255
          · rw [if_neg (fun w => w hd)]
            by_cases he : 0 ≤ e ∧ e ≤ 255
            · rw [if_neg (fun w => w he)]
              have hok : zfdok n a b c d e := ⟨hn, ha, hb, hc, hd, he⟩
              obtain ⟨l, l1, l2, rfl⟩ := zs5 hn
              have y1 : (nI l).toNatClampNeg = l := zn_cl (by omega)
              have eA : zA_feed m (nI l) a b c d e = if m + l ≤ 160 then nI (m + l) else -4 := by
                unfold zA_feed
                rw [if_pos hok, y1]
              simp only [u141_0, u141_1, u141_2, u141_3, u141_6, u141_9, u141_10, u141_13, u141_16, u141_17, u141_20, u141_23, u141_25, u141_28, u141_31, u141_33, u141_36, u141_39, u141_41, u141_44, u141_47, u141_49, u141_50, u141_51, u141_54, u141_55, u141_56, u141_59, u141_62, u141_64, u141_65, u141_66, u141_70, u141_71, u141_74, u141_75, u141_78, u141_79, u141_82, u141_84, u141_87, u141_88, u141_91, u141_93, u141_94, u141_97, u141_98, u141_101, u141_103, u141_104, u141_107, u141_109, u141_112, u141_114, u141_115, u141_118, u141_120, u141_123, u141_125, u141_126, u141_127, u141_128, u141_131, u141_132, u141_133, u141_136, u141_139, u141_142, u141_143, u141_146, zk_mk_1, zk_mk_I, zk_mk_R, zk_mk_set, zk_mk_setR, zk_mk_cpy, zk_rv_some, zk_rv_none, Option.toList_some, Option.toList_none, List.cons_append, List.nil_append, reduceIte, eq_self, Nat.reduceLT, Nat.reduceEqDiff, and_true, true_and, reduceCtorEq, zsh_60, e6, zn_add]
              by_cases hl : m + l ≤ 160
              · have h1 : nI (m + l) ≤ 160 := by rw [show (160 : Int32) = nI 160 from rfl, zn_le (by omega) (by decide)]; exact hl
                have h2 : ¬ 160 < nI (m + l) := Int32.not_lt.mpr h1
                first | rw [if_pos h1] | rw [if_neg h2]
                rw [eA, if_pos hl] at K
                have hf : zfd2 I I1 12 11 1 m l (zfv a b c d e) := by
                  rcases hM with ⟨-, e1⟩ | ⟨-, e1⟩
                  · rw [y1] at e1; exact absurd ⟨hok, hl⟩ e1
                  · rw [y1] at e1; exact e1
                obtain ⟨f1, f2, f3, f4⟩ := hf
                have loop := zl_up (τ := Nat → Nat → Int32) (fun i I' => zk_R sc (dd + 2) 141 68 [some (.ref (60 : Nat)), some (.int (nI l)), some (.int a), some (.int b), some (.int c), some (.int d), some (.int e), some (.int (nI i))] [] (zk_mk I' tg) P)
                  (fun i I' => zfd2 I1 I' 65 60 6 m i (zfv a b c d e)) l (by
                    rintro I' ⟨g1, g2, g3, g4⟩
                    rw [u141_68]
                    simp only [u141_0, u141_1, u141_2, u141_3, u141_6, u141_9, u141_10, u141_13, u141_16, u141_17, u141_20, u141_23, u141_25, u141_28, u141_31, u141_33, u141_36, u141_39, u141_41, u141_44, u141_47, u141_49, u141_50, u141_51, u141_54, u141_55, u141_56, u141_59, u141_62, u141_64, u141_65, u141_66, u141_70, u141_71, u141_74, u141_75, u141_78, u141_79, u141_82, u141_84, u141_87, u141_88, u141_91, u141_93, u141_94, u141_97, u141_98, u141_101, u141_103, u141_104, u141_107, u141_109, u141_112, u141_114, u141_115, u141_118, u141_120, u141_123, u141_125, u141_126, u141_127, u141_128, u141_131, u141_132, u141_133, u141_136, u141_139, u141_142, u141_143, u141_146, zk_mk_1, zk_mk_I, zk_mk_R, zk_mk_set, zk_mk_setR, zk_mk_cpy, zk_rv_some, zk_rv_none, Option.toList_some, Option.toList_none, List.cons_append, List.nil_append, reduceIte, eq_self, Nat.reduceLT, Nat.reduceEqDiff, and_true, true_and, reduceCtorEq, zsh_60, g3]
                    rw [if_pos (nI_le (Nat.le_refl _) (by omega))]
                    obtain ⟨ja, jb, jc, jd, je, jf, jg⟩ := hJ
                    have o : ∀ x, x ≠ 11 → x ≠ 12 → x ≠ 60 → x ≠ 65 → I' x = I x := fun x x1 x2 x3 x4 => by rw [g1 x x4 x3, f1 x x2 x1]
                    have o60 : ∀ y, y ≠ 6 → I' 60 y = I 60 y := fun y hy => by rw [g2 y hy, f1 60 (by decide) (by decide)]
                    refine K I' (m + l) ⟨ja.cg (by rw [o 1 (by decide) (by decide) (by decide) (by decide)]) (o60 0 (by decide)) (fun x hx => o x (by omega) (by omega) (by omega) (by omega)), jb.cg (by rw [o 1 (by decide) (by decide) (by decide) (by decide)]) (o60 10 (by decide)), jc.cg (by rw [o 0 (by decide) (by decide) (by decide) (by decide)]) (o60 9 (by decide)) (fun x hx => o x (by omega) (by omega) (by omega) (by omega)), ⟨?_, g3, hl, fun y hy => ?_⟩, je.cg (fun x hx => o x (by omega) (by omega) (by omega) (by omega)), jf.cg (by rw [o 0 (by decide) (by decide) (by decide) (by decide)]) (o60 11 (by decide)) (o60 12 (by decide)) (o60 13 (by decide)) (fun x hx => o x (by omega) (by omega) (by omega) (by omega)), jg.cg (o 73 (by decide) (by decide) (by decide) (by decide))⟩
                    · rw [g1 11 (by decide) (by decide)]; exact f3
                    · rw [g4, g1 12 (by decide) (by decide), f4, f1 65 (by decide) (by decide)]
                      by_cases hy2 : m ≤ y ∧ y < m + l
                      · rw [if_pos hy2, if_pos hy2]
                        refine ⟨?_, rfl⟩
                        have key : ∀ v : Int32, 0 ≤ v ∧ v ≤ 255 → ∃ b, b < 256 ∧ v = nI b := fun v hv => by
                          obtain ⟨b, hb2, eb⟩ := zn_of (x := v) (m := 256) hv.1 (by rw [zn_lt1 (by decide)]; exact hv.2) (by decide)
                          exact ⟨b, hb2, eb⟩
                        unfold zfv
                        (repeat' split) <;> first | exact key _ ha | exact key _ hb | exact key _ hc | exact key _ hd | exact key _ he
                      · rw [if_neg hy2, if_neg hy2]
                        exact jd.2.2.2 y (by omega)) (by
                    rintro i I' hi ⟨g1, g2, g3, g4⟩ ih
                    have z1 : zk_inb (nI (m + i)) 160 = true := by rw [zn_in (by omega)]; omega
                    have z2 : (nI (m + i)).toNatClampNeg = m + i := zn_cl (by omega)
                    have nx : ∀ w, w = zfv a b c d e i → zk_R sc (dd + 2) 141 125 [some (.ref (60 : Nat)), some (.int (nI l)), some (.int a), some (.int b), some (.int c), some (.int d), some (.int e), some (.int (nI i))] [.int w, .int (nI (m + i)), .ref (65 : Nat)] (zk_mk I' tg) P := by
                      rintro w rfl
                      simp only [u141_0, u141_1, u141_2, u141_3, u141_6, u141_9, u141_10, u141_13, u141_16, u141_17, u141_20, u141_23, u141_25, u141_28, u141_31, u141_33, u141_36, u141_39, u141_41, u141_44, u141_47, u141_49, u141_50, u141_51, u141_54, u141_55, u141_56, u141_59, u141_62, u141_64, u141_65, u141_66, u141_70, u141_71, u141_74, u141_75, u141_78, u141_79, u141_82, u141_84, u141_87, u141_88, u141_91, u141_93, u141_94, u141_97, u141_98, u141_101, u141_103, u141_104, u141_107, u141_109, u141_112, u141_114, u141_115, u141_118, u141_120, u141_123, u141_125, u141_126, u141_127, u141_128, u141_131, u141_132, u141_133, u141_136, u141_139, u141_142, u141_143, u141_146, zk_mk_1, zk_mk_I, zk_mk_R, zk_mk_set, zk_mk_setR, zk_mk_cpy, zk_rv_some, zk_rv_none, Option.toList_some, Option.toList_none, List.cons_append, List.nil_append, reduceIte, eq_self, Nat.reduceLT, Nat.reduceEqDiff, and_true, true_and, reduceCtorEq, zsh_60, zsh_65, z1, z2, zk_up2_k (show (60 : Nat) ≠ 65 by decide), g3, nI_1]
                      refine ih _ ⟨fun x x1 x2 => ?_, fun y hy => ?_, ?_, fun y => ?_⟩
                      · rw [zk_up2_r x2, zk_up2_r x1]; exact g1 x x1 x2
                      · rw [zk_up2_j hy, zk_up2_k (by decide)]; exact g2 y hy
                      · rw [zk_up2_s, Nat.add_assoc]
                      · rw [zk_up2_k (by decide), zk_up2_i, g4]
                        by_cases ey : y = m + i
                        · rw [if_pos ey, if_pos (by omega), ey, show m + i - m = i by omega]
                        · rw [if_neg ey]
                          by_cases e2 : m ≤ y ∧ y < m + i
                          · rw [if_pos e2, if_pos (by omega)]
                          · rw [if_neg e2, if_neg (by omega)]
                    have y : ∀ k, k < 5 → (nI i = nI k) = (i = k) := fun k hk => zn_eq (by omega) (by omega)
                    have y0 : (nI i = 0) = (i = 0) := y 0 (by decide)
                    have y1 : (nI i = 1) = (i = 1) := y 1 (by decide)
                    have y2 : (nI i = 2) = (i = 2) := y 2 (by decide)
                    have y3 : (nI i = 3) = (i = 3) := y 3 (by decide)
                    rw [u141_68]
                    simp only [u141_0, u141_1, u141_2, u141_3, u141_6, u141_9, u141_10, u141_13, u141_16, u141_17, u141_20, u141_23, u141_25, u141_28, u141_31, u141_33, u141_36, u141_39, u141_41, u141_44, u141_47, u141_49, u141_50, u141_51, u141_54, u141_55, u141_56, u141_59, u141_62, u141_64, u141_65, u141_66, u141_70, u141_71, u141_74, u141_75, u141_78, u141_79, u141_82, u141_84, u141_87, u141_88, u141_91, u141_93, u141_94, u141_97, u141_98, u141_101, u141_103, u141_104, u141_107, u141_109, u141_112, u141_114, u141_115, u141_118, u141_120, u141_123, u141_126, u141_127, u141_128, u141_131, u141_132, u141_133, u141_136, u141_139, u141_142, u141_143, u141_146, zk_mk_1, zk_mk_I, zk_mk_R, zk_mk_set, zk_mk_setR, zk_mk_cpy, zk_rv_some, zk_rv_none, Option.toList_some, Option.toList_none, List.cons_append, List.nil_append, reduceIte, eq_self, Nat.reduceLT, Nat.reduceEqDiff, and_true, true_and, reduceCtorEq, zsh_60, zrf_60_5, g3, y0, y1, y2, y3]
                    rw [if_neg (nI_ge hi (by omega))]
                    unfold zfv at nx
                    by_cases q0 : i = 0
                    · rw [if_pos q0]; exact nx _ (by rw [if_pos q0])
                    · rw [if_neg q0]
                      by_cases q1 : i = 1
                      · rw [if_pos q1]; exact nx _ (by rw [if_neg q0, if_pos q1])
                      · rw [if_neg q1]
                        by_cases q2 : i = 2
                        · rw [if_pos q2]; exact nx _ (by rw [if_neg q0, if_neg q1, if_pos q2])
                        · rw [if_neg q2]
                          by_cases q3 : i = 3
                          · rw [if_pos q3]; exact nx _ (by rw [if_neg q0, if_neg q1, if_neg q2, if_pos q3])
                          · rw [if_neg q3]; exact nx _ (by rw [if_neg q0, if_neg q1, if_neg q2, if_neg q3]))
                exact loop 0 I1 (Nat.zero_le _) ⟨fun _ _ _ => rfl, fun _ _ => rfl, e6, fun y => by rw [if_neg (by omega)]⟩
              · have h1 : 160 < nI (m + l) := by rw [show (160 : Int32) = nI 160 from rfl, zn_lt (by decide) (by omega)]; omega
                have h2 : ¬ nI (m + l) ≤ 160 := Int32.not_le.mpr h1
                first | rw [if_neg h2] | rw [if_pos h1]
                have := ref (fun w => hl (by have := w.2; rw [y1] at this; exact this))
                rw [eA, if_neg hl] at this
                exact this
            · rw [if_pos he]; exact bad (fun w => he w.2.2.2.2.2)
          · rw [if_pos hd]; exact bad (fun w => hd w.2.2.2.2.1)
        · rw [if_pos hc]; exact bad (fun w => hc w.2.2.2.1)
      · rw [if_pos hb]; exact bad (fun w => hb w.2.2.1)
    · rw [if_pos ha]; exact bad (fun w => ha w.2.1)
  · rw [if_pos hn]; exact bad (fun w => hn w.1)
