/-! cards by a sheet by the reference -/
theorem z_fr0 (fr : Int32) : fr + 2 * nI 0 = fr := by
  rw [show (2 : Int32) * nI 0 = 0 from by decide, Int32.add_zero]
theorem zfit_fr {z j : Nat} {fr : Int32} (hz : z ≤ 40) (hj : j < 11) (h0 : j = 0 ∨ 0 ≤ fr) : zfit z (fr + 2 * nI j) 2 ↔ (¬ fr < 0 ∧ ¬ fr + 2 * nI j < fr ∧ ¬ nI z - 2 < fr + 2 * nI j) := by
  have ez : (nI z).toInt = z := nI_toInt (by omega)
  have e2 : (2 : Int32).toInt = 2 := by decide
  have e22 : (nI z - 2).toInt = (z : Int) - 2 := by rw [zi_sub (by omega) (by omega) (by omega) (by omega), ez, e2]
  have ej : (2 * nI j).toInt = 2 * (j : Int) := by rw [zi_two (by rw [nI_toInt (by omega)]; omega) (by rw [nI_toInt (by omega)]; omega), nI_toInt (by omega)]
  have b1 := Int32.le_toInt fr
  have b2 := Int32.toInt_lt fr
  unfold zfit
  simp only [Int32.lt_iff_toInt_lt, zn_zi, e2, e22]
  by_cases hf : fr.toInt < 0
  · rcases h0 with h0 | h0
    · subst h0
      rw [z_fr0]
      omega
    · have := Int32.le_iff_toInt_le.mp h0
      rw [zn_zi] at this
      omega
  · have hs : (fr + 2 * nI j).toInt = fr.toInt + 2 * (j : Int) ∨ (fr + 2 * nI j).toInt < 0 := by
      rw [Int32.toInt_add, ej]
      by_cases ho : fr.toInt + 2 * (j : Int) < 2147483648
      · refine Or.inl (Int.bmod_eq_of_le ?_ ?_) <;> omega
      · refine Or.inr ?_
        rw [Int.bmod_def]
        omega
    omega
theorem s213 {sc : zk_X} {d : Nat} {I : Nat → Nat → Int32} {tg : Option Nat} {P : Option Value → zk_M → Prop} {n t q m : Nat} {TT EE : Nat → Nat → Nat} {Z : Nat → Nat} {s so fr nn : Int32} (hJ : zJ I n t q m TT EE Z)
    (K : ∀ (I2 : Nat → Nat → Int32) (n' : Nat), zJ I2 n' t q m TT EE Z → P (some (.int (zA_cby I n Z s so fr nn))) (zk_mk I2 tg)) : zk_R sc (d + 2) 213 0 [some (.ref (60 : Nat)), some (.int s), some (.int so), some (.int fr), some (.int nn), none, none, none, none] [] (zk_mk (zfT I (zL_cby I n Z s so fr nn)) tg) P := by
  have hn := hJ.1.2.1
  have h10 := hJ.1.2.2.1
  have hz := hJ.2.2.2.2.1
  unfold zA_cby zL_cby at *
  simp only [u213_0, u213_1, u213_2, u213_3, u213_6, u213_9, u213_10, u213_11, u213_12, u213_15, u213_18, u213_20, u213_21, u213_23, u213_26, u213_29, u213_31, u213_32, u213_33, u213_36, u213_37, u213_38, u213_39, u213_42, u213_44, u213_45, u213_46, u213_49, u213_50, u213_51, u213_52, u213_55, u213_57, u213_58, u213_59, u213_61, u213_62, u213_66, u213_68, u213_71, u213_72, u213_73, u213_75, u213_76, u213_77, u213_79, u213_80, u213_83, u213_85, u213_86, u213_89, u213_91, u213_92, u213_95, u213_96, u213_97, u213_98, u213_99, u213_102, u213_104, u213_105, u213_107, u213_108, u213_109, u213_111, u213_112, u213_114, u213_116, u213_117, u213_118, u213_121, u213_123, u213_124, u213_125, u213_128, u213_130, u213_131, u213_132, u213_133, u213_136, u213_139, u213_140, u213_143, u213_144, u213_145, u213_147, u213_150, u213_153, u213_155, zk_mk_1, zk_mk_I, zk_mk_R, zk_mk_set, zk_mk_setR, zk_mk_cpy, zk_rv_some, zk_rv_none, Option.toList_some, Option.toList_none, List.cons_append, List.nil_append, reduceIte, eq_self, Nat.reduceLT, Nat.reduceEqDiff, and_true, true_and, reduceCtorEq, zsh_60, s129, zb_z, zn_34]
  by_cases hs : 0 ≤ s ∧ s < 4
  · rw [if_neg (fun w => w hs)]
    by_cases g1 : 0 ≤ so ∧ so ≤ 2
    · rw [if_neg (fun w => w g1)]
      by_cases g3 : 0 ≤ nn ∧ nn ≤ 10
      · rw [if_neg (fun w => w g3)]
        have hgd : (0 ≤ s ∧ s < 4) ∧ (0 ≤ so ∧ so ≤ 2) ∧ 0 ≤ nn ∧ nn ≤ 10 := ⟨hs, g1, g3⟩
        simp only [if_pos hgd] at K ⊢
        clear hgd
        obtain ⟨k, hk, rfl⟩ := zn_of (m := 4) hs.1 hs.2 (by decide)
        obtain ⟨N, hN, rfl⟩ := zn_of (x := nn) (m := 11) g3.1 (by rw [zn_lt1 (by decide)]; exact g3.2) (by decide)
        have y1 : zk_inb (nI k) 4 = true := by rw [zn_in (by omega)]; omega
        have y2 : (nI k).toNatClampNeg = k := zn_cl (by omega)
        have y3 : (nI N).toNatClampNeg = N := zn_cl (by omega)
        obtain ⟨q1, q2, q3, q4, q5⟩ := hz k hk
        rw [y2, y3] at K
        rw [y2, y3]
        by_cases c1 : I (52 + 2 * k) 1 = -1
        · simp only [if_pos c1] at K ⊢
          have e69 : I 69 k = -1 := by rw [q1]; exact c1
          rw [show zfT I [] = I from rfl]
          simp only [u213_0, u213_1, u213_2, u213_3, u213_6, u213_9, u213_10, u213_11, u213_12, u213_15, u213_18, u213_20, u213_21, u213_23, u213_26, u213_29, u213_31, u213_32, u213_33, u213_36, u213_37, u213_38, u213_39, u213_42, u213_44, u213_45, u213_46, u213_49, u213_50, u213_51, u213_52, u213_55, u213_57, u213_58, u213_59, u213_61, u213_62, u213_66, u213_68, u213_71, u213_72, u213_73, u213_75, u213_76, u213_77, u213_79, u213_80, u213_83, u213_85, u213_86, u213_89, u213_91, u213_92, u213_95, u213_96, u213_97, u213_98, u213_99, u213_102, u213_104, u213_105, u213_107, u213_108, u213_109, u213_111, u213_112, u213_114, u213_116, u213_117, u213_118, u213_121, u213_123, u213_124, u213_125, u213_128, u213_130, u213_131, u213_132, u213_133, u213_136, u213_139, u213_140, u213_143, u213_144, u213_145, u213_147, u213_150, u213_153, u213_155, zk_mk_1, zk_mk_I, zk_mk_R, zk_mk_set, zk_mk_setR, zk_mk_cpy, zk_rv_some, zk_rv_none, Option.toList_some, Option.toList_none, List.cons_append, List.nil_append, reduceIte, eq_self, Nat.reduceLT, Nat.reduceEqDiff, and_true, true_and, reduceCtorEq, zsh_60, zsh_69, zrf_60_15, y1, y2, e69]
          exact K I n hJ
        · simp only [if_neg c1] at K ⊢
          by_cases c2 : I (52 + 2 * k) 1 = so
          · simp only [if_pos c2] at K ⊢
            obtain ⟨nf, hf⟩ := zJ_cards2 (v := I (53 + 2 * k)) (z := Z k) (fr := fr) N (k := 0) hJ
            rw [← zfC_eq] at hf
            have KK := K _ _ hf
            have loop : ∀ r j n' c (x7 x8 : Option Value) (I' : Nat → Nat → Int32), j + r = N → n' ≤ 10 → c ≤ j → (j = 0 ∨ 0 ≤ fr) → I' 60 0 = nI n' → (∀ x, 69 ≤ x → I' x = I x) → P (some (.int (zcbA (I (53 + 2 * k)) (Z k) fr r n' c j))) (zk_mk (zfM I' (zcbL (I (53 + 2 * k)) (Z k) fr r n' j)) tg) → zk_R sc (d + 2) 213 64 [some (.ref (60 : Nat)), some (.int (nI k)), some (.int so), some (.int fr), some (.int (nI N)), some (.int (nI c)), some (.int (nI j)), x7, x8] [] (zk_mk I' tg) P := by
              intro r
              induction r with
              | zero =>
                intro j n' c x7 x8 I' hj hn' hc hfr h1 h2 KK
                rw [u213_64]
                simp only [u213_0, u213_1, u213_2, u213_3, u213_6, u213_9, u213_10, u213_11, u213_12, u213_15, u213_18, u213_20, u213_21, u213_23, u213_26, u213_29, u213_31, u213_32, u213_33, u213_36, u213_37, u213_38, u213_39, u213_42, u213_44, u213_45, u213_46, u213_49, u213_50, u213_51, u213_52, u213_55, u213_57, u213_58, u213_59, u213_61, u213_62, u213_66, u213_68, u213_71, u213_72, u213_73, u213_75, u213_76, u213_77, u213_79, u213_80, u213_83, u213_85, u213_86, u213_89, u213_91, u213_92, u213_95, u213_96, u213_97, u213_98, u213_99, u213_102, u213_104, u213_105, u213_107, u213_108, u213_109, u213_111, u213_112, u213_114, u213_116, u213_117, u213_118, u213_121, u213_123, u213_124, u213_125, u213_128, u213_130, u213_131, u213_132, u213_133, u213_136, u213_139, u213_140, u213_143, u213_144, u213_145, u213_147, u213_150, u213_153, u213_155, zk_mk_1, zk_mk_I, zk_mk_R, zk_mk_set, zk_mk_setR, zk_mk_cpy, zk_rv_some, zk_rv_none, Option.toList_some, Option.toList_none, List.cons_append, List.nil_append, reduceIte, eq_self, Nat.reduceLT, Nat.reduceEqDiff, and_true, true_and, reduceCtorEq]
                rw [if_pos (nI_le (by omega) (by omega))]
                exact KK
              | succ r ih =>
                intro j n' c x7 x8 I' hj hn' hc hfr h1 h2 KK
                have e70 : I' 70 k = nI (Z k) := by rw [h2 70 (by omega)]; exact q3
                have e71 : I' 71 = I 71 := h2 71 (by omega)
                have hfit := zfit_fr (z := Z k) (fr := fr) q4 (show j < 11 by omega) hfr
                rw [zcbA, zcbL] at KK
                rw [u213_64]
                simp only [u213_0, u213_1, u213_2, u213_3, u213_6, u213_9, u213_10, u213_11, u213_12, u213_15, u213_18, u213_20, u213_21, u213_23, u213_26, u213_29, u213_31, u213_32, u213_33, u213_36, u213_37, u213_38, u213_39, u213_42, u213_44, u213_45, u213_46, u213_49, u213_50, u213_51, u213_52, u213_55, u213_57, u213_58, u213_59, u213_61, u213_62, u213_66, u213_68, u213_71, u213_72, u213_73, u213_75, u213_76, u213_77, u213_79, u213_80, u213_83, u213_85, u213_86, u213_89, u213_91, u213_92, u213_95, u213_96, u213_97, u213_98, u213_99, u213_102, u213_104, u213_105, u213_107, u213_108, u213_109, u213_111, u213_112, u213_114, u213_116, u213_117, u213_118, u213_121, u213_123, u213_124, u213_125, u213_128, u213_130, u213_131, u213_132, u213_133, u213_136, u213_139, u213_140, u213_143, u213_144, u213_145, u213_147, u213_150, u213_153, u213_155, zk_mk_1, zk_mk_I, zk_mk_R, zk_mk_set, zk_mk_setR, zk_mk_cpy, zk_rv_some, zk_rv_none, Option.toList_some, Option.toList_none, List.cons_append, List.nil_append, reduceIte, eq_self, Nat.reduceLT, Nat.reduceEqDiff, and_true, true_and, reduceCtorEq, zsh_60, zsh_70, zrf_60_16, y1, y2, e70]
                rw [if_neg (nI_ge (by omega) (by omega))]
                by_cases f : zfit (Z k) (fr + 2 * nI j) 2
                · rw [if_pos f, if_pos f] at KK
                  obtain ⟨w1, w2, w3⟩ := hfit.mp f
                  obtain ⟨a, l, hal, ea, el⟩ := zfit_nat q4 f
                  have el : l = 2 := by
                    rw [show (2 : Int32) = nI 2 from rfl, zn_eq (by decide) (by omega)] at el
                    exact el.symm
                  subst el
                  rw [if_neg w1, if_neg w2]
                  have w3' : fr + 2 * nI j ≤ nI (Z k) - 2 := Int32.not_lt.mp w3
                  first | rw [if_pos w3'] | rw [if_neg w3]
                  rw [ea] at KK ⊢
                  have ei : (40 : Int32) * nI k + nI a = nI (40 * k + a) := by rw [show (40 : Int32) = nI 40 from rfl, zn_mul, zn_add]
                  have z1 : zk_inb (nI (40 * k + a)) 160 = true := by rw [zn_in (by omega)]; omega
                  have z2 : (nI (40 * k + a)).toNatClampNeg = 40 * k + a := zn_cl (by omega)
                  have z3 : zk_inb (nI (40 * k + a + 1)) 160 = true := by rw [zn_in (by omega)]; omega
                  have z4 : (nI (40 * k + a + 1)).toNatClampNeg = 40 * k + (a + 1) := zn_cl (by omega)
                  have z5 : (nI a).toNatClampNeg = a := zn_cl (by omega)
                  rw [z5] at KK
                  have KK : P (some (.int (zcbA (I (53 + 2 * k)) (Z k) fr r (znxt n' (I (53 + 2 * k) a) (I (53 + 2 * k) (a + 1))) (if zA_card2 n' (I (53 + 2 * k) a) (I (53 + 2 * k) (a + 1)) < 0 then c else c + 1) (j + 1)))) (zk_mk (zfM (zcM I' n' (I (53 + 2 * k) a) (I (53 + 2 * k) (a + 1))) (zcbL (I (53 + 2 * k)) (Z k) fr r (znxt n' (I (53 + 2 * k) a) (I (53 + 2 * k) (a + 1))) (j + 1))) tg) := KK
                  simp only [u213_0, u213_1, u213_2, u213_3, u213_6, u213_9, u213_10, u213_11, u213_12, u213_15, u213_18, u213_20, u213_21, u213_23, u213_26, u213_29, u213_31, u213_32, u213_33, u213_36, u213_37, u213_38, u213_39, u213_42, u213_44, u213_45, u213_46, u213_49, u213_50, u213_51, u213_52, u213_55, u213_57, u213_58, u213_59, u213_61, u213_62, u213_66, u213_68, u213_71, u213_72, u213_73, u213_75, u213_76, u213_77, u213_79, u213_80, u213_83, u213_85, u213_86, u213_89, u213_91, u213_92, u213_95, u213_96, u213_97, u213_98, u213_99, u213_102, u213_104, u213_105, u213_107, u213_108, u213_109, u213_111, u213_112, u213_114, u213_116, u213_117, u213_118, u213_121, u213_123, u213_124, u213_125, u213_128, u213_130, u213_131, u213_132, u213_133, u213_136, u213_139, u213_140, u213_143, u213_144, u213_145, u213_147, u213_150, u213_153, u213_155, zk_mk_1, zk_mk_I, zk_mk_R, zk_mk_set, zk_mk_setR, zk_mk_cpy, zk_rv_some, zk_rv_none, Option.toList_some, Option.toList_none, List.cons_append, List.nil_append, reduceIte, eq_self, Nat.reduceLT, Nat.reduceEqDiff, and_true, true_and, reduceCtorEq, zsh_60, zsh_71, zrf_60_17, ei, nI_1, z1, z2, z3, z4, e71, q5 a (by omega), q5 (a + 1) (by omega), s150 h1 hn']
                  have nx : ∀ c' x7 x8, c' ≤ j + 1 → P (some (.int (zcbA (I (53 + 2 * k)) (Z k) fr r (znxt n' (I (53 + 2 * k) a) (I (53 + 2 * k) (a + 1))) c' (j + 1)))) (zk_mk (zfM (zcM I' n' (I (53 + 2 * k) a) (I (53 + 2 * k) (a + 1))) (zcbL (I (53 + 2 * k)) (Z k) fr r (znxt n' (I (53 + 2 * k) a) (I (53 + 2 * k) (a + 1))) (j + 1))) tg) → zk_R sc (d + 2) 213 64 [some (.ref (60 : Nat)), some (.int (nI k)), some (.int so), some (.int fr), some (.int (nI N)), some (.int (nI c')), some (.int (nI (j + 1))), x7, x8] [] (zk_mk (zcM I' n' (I (53 + 2 * k) a) (I (53 + 2 * k) (a + 1))) tg) P := by
                    intro c' x7 x8 hc' KK'
                    refine ih (j + 1) _ c' x7 x8 _ (by omega) (znxt_le hn') hc' (Or.inr (Int32.not_lt.mp w1)) ?_ (fun x hx => by rw [zcM_o (by omega), h2 x hx]) KK'
                    unfold znxt
                    by_cases cc : zcok (I (53 + 2 * k) a) (I (53 + 2 * k) (a + 1)) ∧ n' < 10
                    · rw [if_pos cc, zcM_y cc]
                      unfold zput5
                      rw [zk_up2_s]
                    · rw [if_neg cc, zcM_n cc]; exact h1
                  by_cases cc : zA_card2 n' (I (53 + 2 * k) a) (I (53 + 2 * k) (a + 1)) < 0
                  · rw [if_pos cc] at KK
                    have cc' : ¬ 0 ≤ zA_card2 n' (I (53 + 2 * k) a) (I (53 + 2 * k) (a + 1)) := Int32.not_le.mpr cc
                    simp only [cc, cc', reduceIte, Int32.add_zero]
                    exact nx c _ _ (by omega) KK
                  · rw [if_neg cc] at KK
                    have cc' : 0 ≤ zA_card2 n' (I (53 + 2 * k) a) (I (53 + 2 * k) (a + 1)) := Int32.not_lt.mp cc
                    simp only [cc, cc', reduceIte, nI_1]
                    exact nx (c + 1) _ _ (by omega) KK
                · rw [if_neg f, if_neg f] at KK
                  by_cases w1 : fr < 0
                  · rw [if_pos w1]; exact KK
                  · rw [if_neg w1]
                    by_cases w2 : fr + 2 * nI j < fr
                    · rw [if_pos w2]; exact KK
                    · rw [if_neg w2]
                      by_cases w3 : nI (Z k) - 2 < fr + 2 * nI j
                      · first | rw [if_pos w3] | rw [if_neg (Int32.not_le.mpr w3)]
                        exact KK
                      · exact absurd (hfit.mpr ⟨w1, w2, w3⟩) f
            have o : ∀ x, ¬ (1 ≤ x ∧ x ≤ 5) → ∀ (L : List (Nat × Int32 × Int32)) (J : Nat → Nat → Int32), zfT J L x = J x := by
              intro x hx L
              induction L with
              | nil => intro J; rfl
              | cons p L ih =>
                intro J
                show zfT (zcT J p.1 p.2.1 p.2.2) L x = J x
                rw [ih, zcT_o hx]
            have e69 : zfT I (zcbL (I (53 + 2 * k)) (Z k) fr N n 0) 69 k = so := by rw [o 69 (by omega), q1]; exact c2
            have hso1 : ¬ so = -1 := by rw [← c2]; exact c1
            simp only [u213_0, u213_1, u213_2, u213_3, u213_6, u213_9, u213_10, u213_11, u213_12, u213_15, u213_18, u213_20, u213_21, u213_23, u213_26, u213_29, u213_31, u213_32, u213_33, u213_36, u213_37, u213_38, u213_39, u213_42, u213_44, u213_45, u213_46, u213_49, u213_50, u213_51, u213_52, u213_55, u213_57, u213_58, u213_59, u213_61, u213_62, u213_66, u213_68, u213_71, u213_72, u213_73, u213_75, u213_76, u213_77, u213_79, u213_80, u213_83, u213_85, u213_86, u213_89, u213_91, u213_92, u213_95, u213_96, u213_97, u213_98, u213_99, u213_102, u213_104, u213_105, u213_107, u213_108, u213_109, u213_111, u213_112, u213_114, u213_116, u213_117, u213_118, u213_121, u213_123, u213_124, u213_125, u213_128, u213_130, u213_131, u213_132, u213_133, u213_136, u213_139, u213_140, u213_143, u213_144, u213_145, u213_147, u213_150, u213_153, u213_155, zk_mk_1, zk_mk_I, zk_mk_R, zk_mk_set, zk_mk_setR, zk_mk_cpy, zk_rv_some, zk_rv_none, Option.toList_some, Option.toList_none, List.cons_append, List.nil_append, reduceIte, eq_self, Nat.reduceLT, Nat.reduceEqDiff, and_true, true_and, reduceCtorEq, zsh_60, zsh_69, zrf_60_15, y1, y2, e69, hso1]
            exact loop N 0 n 0 none none _ (by omega) h10 (Nat.le_refl _) (Or.inl rfl) (by rw [o 60 (by omega)]; exact hn) (fun x hx => o x (by omega) _ _) KK
          · simp only [if_neg c2] at K ⊢
            have e69 : I 69 k = I (52 + 2 * k) 1 := q1
            rw [show zfT I [] = I from rfl]
            simp only [u213_0, u213_1, u213_2, u213_3, u213_6, u213_9, u213_10, u213_11, u213_12, u213_15, u213_18, u213_20, u213_21, u213_23, u213_26, u213_29, u213_31, u213_32, u213_33, u213_36, u213_37, u213_38, u213_39, u213_42, u213_44, u213_45, u213_46, u213_49, u213_50, u213_51, u213_52, u213_55, u213_57, u213_58, u213_59, u213_61, u213_62, u213_66, u213_68, u213_71, u213_72, u213_73, u213_75, u213_76, u213_77, u213_79, u213_80, u213_83, u213_85, u213_86, u213_89, u213_91, u213_92, u213_95, u213_96, u213_97, u213_98, u213_99, u213_102, u213_104, u213_105, u213_107, u213_108, u213_109, u213_111, u213_112, u213_114, u213_116, u213_117, u213_118, u213_121, u213_123, u213_124, u213_125, u213_128, u213_130, u213_131, u213_132, u213_133, u213_136, u213_139, u213_140, u213_143, u213_144, u213_145, u213_147, u213_150, u213_153, u213_155, zk_mk_1, zk_mk_I, zk_mk_R, zk_mk_set, zk_mk_setR, zk_mk_cpy, zk_rv_some, zk_rv_none, Option.toList_some, Option.toList_none, List.cons_append, List.nil_append, reduceIte, eq_self, Nat.reduceLT, Nat.reduceEqDiff, and_true, true_and, reduceCtorEq, zsh_60, zsh_69, zrf_60_15, y1, y2, e69, c1, c2]
            exact K I n hJ
      · rw [if_pos g3]
        have hgd : ¬ ((0 ≤ s ∧ s < 4) ∧ (0 ≤ so ∧ so ≤ 2) ∧ 0 ≤ nn ∧ nn ≤ 10) := fun w => g3 w.2.2
        simp only [if_neg hgd] at K ⊢
        exact K I n hJ
    · rw [if_pos g1]
      have hgd : ¬ ((0 ≤ s ∧ s < 4) ∧ (0 ≤ so ∧ so ≤ 2) ∧ 0 ≤ nn ∧ nn ≤ 10) := fun w => g1 w.2.1
      simp only [if_neg hgd] at K ⊢
      exact K I n hJ
  · rw [if_pos hs]
    have hgd : ¬ ((0 ≤ s ∧ s < 4) ∧ (0 ≤ so ∧ so ≤ 2) ∧ 0 ≤ nn ∧ nn ≤ 10) := fun w => hs w.1
    simp only [if_neg hgd] at K ⊢
    exact K I n hJ
