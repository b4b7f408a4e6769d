/-! copy by the reference -/
theorem zfit_m {z : Nat} {i n : Int32} (hz : z ≤ 40) (h1 : ¬ n < 0) (h2 : ¬ i < 0) (h3 : ¬ nI z < i) (h4 : ¬ nI z - i < n) : zfit z i n := by
  have ez : (nI z).toInt = z := nI_toInt (by omega)
  simp only [Int32.lt_iff_toInt_lt, zn_zi, ez] at h1 h2 h3 h4
  rw [zi_sub (by omega) (by omega) (by omega) (by omega), ez] at h4
  unfold zfit
  omega
def zcpI (v : Nat → Int32) (a b lo hi : Nat) : Nat → Int32 := fun x => if b + lo ≤ x ∧ x < b + hi then v (a + (x - b)) else v x
theorem s212 {sc : zk_X} {d : Nat} {I I1 : Nat → Nat → Int32} {tg : Option Nat} {P : Option Value → zk_M → Prop} {n t q m : Nat} {TT EE : Nat → Nat → Nat} {Z : Nat → Nat} {s i o j nn : Int32} (hJ : zJ I n t q m TT EE Z) (hM : zMy I I1 Z s i o j nn)
    (K : ∀ I2 : Nat → Nat → Int32, zJ I2 n t q m TT EE Z → P (some (.int (zA_copy I Z s i o j nn))) (zk_mk I2 tg)) : zk_R sc (d + 1) 212 0 [some (.ref (60 : Nat)), some (.int s), some (.int i), some (.int o), some (.int j), some (.int nn), none, none, none, none] [] (zk_mk I1 tg) P := by
  have hz := hJ.2.2.2.2.1
  have ref : (¬ ((0 ≤ s ∧ s < 4) ∧ (0 ≤ o ∧ o < 4) ∧ (¬ (I (52 + 2 * s.toNatClampNeg) 1 = -1 ∨ I (52 + 2 * o.toNatClampNeg) 1 = -1)) ∧ I (52 + 2 * s.toNatClampNeg) 1 = I (52 + 2 * o.toNatClampNeg) 1 ∧ zfit (Z s.toNatClampNeg) i nn ∧ zfit (Z o.toNatClampNeg) j nn)) → I1 = I ∧ P (some (.int (zA_copy I Z s i o j nn))) (zk_mk I tg) := by
    intro h
    rcases hM with ⟨e, -⟩ | ⟨ks, a, ko, b, l, hks, hko, rfl, rfl, rfl, rfl, rfl, hal, hbl, h1, h2, e⟩
    · exact ⟨e, K I hJ⟩
    · exfalso
      obtain ⟨q1, q2, q3, q4, q5⟩ := hz ks hks
      obtain ⟨r1, r2, r3, r4, r5⟩ := hz ko hko
      apply h
      rw [zn_cl (show ks < 2147483648 by omega), zn_cl (show ko < 2147483648 by omega)]
      have v : ∀ k, k < 4 → 0 ≤ nI k ∧ nI k < 4 := fun k hk => ⟨by rw [show (0 : Int32) = nI 0 from rfl, zn_le (by decide) (by omega)]; omega, by rw [show (4 : Int32) = nI 4 from rfl, zn_lt (by omega) (by decide)]; exact hk⟩
      refine ⟨v ks hks, v ko hko, h1, h2, ?_, ?_⟩
      · unfold zfit
        rw [nI_toInt (by omega), nI_toInt (by omega)]; omega
      · unfold zfit
        rw [nI_toInt (by omega), nI_toInt (by omega)]; omega
  simp only [u212_0, u212_1, u212_2, u212_3, u212_6, u212_9, u212_10, u212_11, u212_12, u212_15, u212_18, u212_20, u212_21, u212_22, u212_25, u212_26, u212_27, u212_28, u212_31, u212_32, u212_35, u212_36, u212_37, u212_38, u212_41, u212_43, u212_44, u212_45, u212_48, u212_49, u212_50, u212_51, u212_54, u212_55, u212_56, u212_59, u212_61, u212_62, u212_64, u212_67, u212_68, u212_71, u212_73, u212_76, u212_77, u212_78, u212_81, u212_82, u212_83, u212_86, u212_88, u212_89, u212_92, u212_93, u212_94, u212_97, u212_99, u212_100, u212_103, u212_104, u212_105, u212_106, u212_107, u212_110, u212_112, u212_113, u212_116, u212_117, u212_118, u212_120, u212_121, u212_124, u212_126, u212_127, u212_129, u212_130, u212_131, u212_132, u212_133, u212_135, u212_137, u212_138, u212_139, u212_141, u212_142, u212_144, u212_145, u212_149, u212_151, u212_154, u212_156, u212_158, u212_161, u212_163, u212_164, u212_165, u212_167, u212_168, u212_171, u212_173, u212_175, u212_176, u212_179, u212_181, u212_183, u212_184, u212_185, u212_188, u212_190, u212_192, u212_193, u212_194, u212_195, u212_198, u212_201, u212_203, zk_mk_1, zk_mk_I, zk_mk_R, zk_mk_set, zk_mk_setR, zk_mk_cpy, zk_rv_some, zk_rv_none, Option.toList_some, Option.toList_none, List.cons_append, List.nil_append, reduceIte, eq_self, Nat.reduceLT, Nat.reduceEqDiff, and_true, true_and, reduceCtorEq, zsh_60, s129, zb_z, zn_34]
  by_cases hs : 0 ≤ s ∧ s < 4
  · rw [if_neg (fun w => w hs)]
    by_cases ho : 0 ≤ o ∧ o < 4
    · rw [if_neg (fun w => w ho)]
      obtain ⟨k, hk, rfl⟩ := zn_of (m := 4) hs.1 hs.2 (by decide)
      obtain ⟨p, hp, rfl⟩ := zn_of (m := 4) ho.1 ho.2 (by decide)
      have y1 : zk_inb (nI k) 4 = true := by rw [zn_in (by omega)]; omega
      have y2 : (nI k).toNatClampNeg = k := zn_cl (by omega)
      have y3 : zk_inb (nI p) 4 = true := by rw [zn_in (by omega)]; omega
      have y4 : (nI p).toNatClampNeg = p := zn_cl (by omega)
      obtain ⟨q1, q2, q3, q4, q5⟩ := hz k hk
      obtain ⟨r1, r2, r3, r4, r5⟩ := hz p hp
      rw [y2, y4] at ref
      unfold zA_copy at ref K
      rw [if_pos ⟨hs, ho⟩] at ref K
      rw [y2, y4] at ref K
      have e69 : ∀ x, I1 69 x = I 69 x := by
        intro x
        rcases hM with ⟨e, -⟩ | ⟨ks, a, ko, b, l, hks, hko, -, -, -, -, -, hal, hbl, h1, h2, e⟩
        · rw [e]
        · rw [e]; exact if_neg (fun w => by omega)
      have e70 : ∀ x, I1 70 x = I 70 x := by
        intro x
        rcases hM with ⟨e, -⟩ | ⟨ks, a, ko, b, l, hks, hko, -, -, -, -, -, hal, hbl, h1, h2, e⟩
        · rw [e]
        · rw [e]; exact if_neg (fun w => by omega)
      simp only [u212_0, u212_1, u212_2, u212_3, u212_6, u212_9, u212_10, u212_11, u212_12, u212_15, u212_18, u212_20, u212_21, u212_22, u212_25, u212_26, u212_27, u212_28, u212_31, u212_32, u212_35, u212_36, u212_37, u212_38, u212_41, u212_43, u212_44, u212_45, u212_48, u212_49, u212_50, u212_51, u212_54, u212_55, u212_56, u212_59, u212_61, u212_62, u212_64, u212_67, u212_68, u212_71, u212_73, u212_76, u212_77, u212_78, u212_81, u212_82, u212_83, u212_86, u212_88, u212_89, u212_92, u212_93, u212_94, u212_97, u212_99, u212_100, u212_103, u212_104, u212_105, u212_106, u212_107, u212_110, u212_112, u212_113, u212_116, u212_117, u212_118, u212_120, u212_121, u212_124, u212_126, u212_127, u212_129, u212_130, u212_131, u212_132, u212_133, u212_135, u212_137, u212_138, u212_139, u212_141, u212_142, u212_144, u212_145, u212_149, u212_151, u212_154, u212_156, u212_158, u212_161, u212_163, u212_164, u212_165, u212_167, u212_168, u212_171, u212_173, u212_175, u212_176, u212_179, u212_181, u212_183, u212_184, u212_185, u212_188, u212_190, u212_192, u212_193, u212_194, u212_195, u212_198, u212_201, u212_203, zk_mk_1, zk_mk_I, zk_mk_R, zk_mk_set, zk_mk_setR, zk_mk_cpy, zk_rv_some, zk_rv_none, Option.toList_some, Option.toList_none, List.cons_append, List.nil_append, reduceIte, eq_self, Nat.reduceLT, Nat.reduceEqDiff, and_true, true_and, reduceCtorEq, zsh_60, zsh_69, zsh_70, zrf_60_15, zrf_60_16, y1, y2, y3, y4, e69, e70, q1, r1, q3, r3]
      by_cases c1 : I (52 + 2 * k) 1 = -1
      · rw [if_pos c1]
        rw [if_pos (Or.inl c1)] at ref
        obtain ⟨e, h⟩ := ref (fun w => w.2.2.1 (Or.inl c1))
        rw [e]; exact h
      · rw [if_neg c1]
        by_cases c2 : I (52 + 2 * p) 1 = -1
        · rw [if_pos c2]
          rw [if_pos (Or.inr c2)] at ref
          obtain ⟨e, h⟩ := ref (fun w => w.2.2.1 (Or.inr c2))
          rw [e]; exact h
        · rw [if_neg c2]
          rw [if_neg (fun w => w.elim c1 c2)] at ref K
          by_cases c3 : I (52 + 2 * k) 1 = I (52 + 2 * p) 1
          · rw [if_pos c3]
            rw [if_neg (fun w => w c3)] at ref K
            by_cases hf : zfit (Z k) i nn ∧ zfit (Z p) j nn
            · rw [if_pos hf] at K
              obtain ⟨a, l, hal, rfl, rfl⟩ := zfit_nat q4 hf.1
              obtain ⟨b, l', hbl, rfl, el⟩ := zfit_nat r4 hf.2
              have el : l = l' := by rw [zn_eq (by omega) (by omega)] at el; exact el
              subst el
              have hI1 : I1 = zk_cp2 I (53 + 2 * k) a (53 + 2 * p) b l := by
                rcases hM with ⟨-, e⟩ | ⟨ks, a', ko, b', l', hks, hko, e1, e2, e3, e4, e5, hal', hbl', h1, h2, e⟩
                · rw [y2, y4] at e
                  exact absurd ⟨hs, ho, fun w => w.elim c1 c2, c3, hf⟩ e
                · rw [zn_eq (by omega) (by omega)] at e1 e2
                  subst e1
                  subst e2
                  obtain ⟨-, -, -, w4, -⟩ := hz k hks
                  obtain ⟨-, -, -, w4', -⟩ := hz p hko
                  rw [zn_eq (by omega) (by omega)] at e3 e4 e5
                  subst e3
                  subst e4
                  subst e5
                  exact e
              have pos : ∀ x, x < 2147483648 → ¬ nI x < 0 := fun x hx => by rw [zn_neg hx]; exact id
              have ngt : ∀ x y, x < 1000 → y < 1000 → y ≤ x → ¬ nI x < nI y := fun x y hx hy h => by rw [zn_lt (by omega) (by omega)]; omega
              have sub1 : nI (Z k) - nI a = nI (Z k - a) := zn_sub (by omega)
              have sub2 : nI (Z p) - nI b = nI (Z p - b) := zn_sub (by omega)
              have le1 : nI l ≤ nI (Z p - b) := by rw [zn_le (by omega) (by omega)]; omega
              have ea : (40 : Int32) * nI k + nI a = nI (40 * k + a) := by rw [show (40 : Int32) = nI 40 from rfl, zn_mul, zn_add]
              have eb : (40 : Int32) * nI p + nI b = nI (40 * p + b) := by rw [show (40 : Int32) = nI 40 from rfl, zn_mul, zn_add]
              -- the walk
              have hfin : ∀ I' : Nat → Nat → Int32, (∀ x, x ≠ 71 → I' x = I1 x) → I' 71 = zcpI (I 71) (40 * k + a) (40 * p + b) 0 l → P (some (.int (nI l))) (zk_mk I' tg) := by
                intro I' h1 h2
                refine K I' (zJ_sh hJ (fun x j1 j2 j3 j4 j5 => by rw [h1 x (by omega), hI1]; funext y; exact if_neg (fun w => by omega)) (fun s' hs' => ?_))
                obtain ⟨w1, w2, w3, w4, w5⟩ := hz s' hs'
                have f1 : ∀ x y, x ≠ 53 + 2 * p → x ≠ 71 → I' x y = I x y := fun x y hx hx2 => by rw [h1 x hx2, hI1]; exact if_neg (fun w => hx w.1)
                rw [f1 69 _ (by omega) (by omega), f1 (52 + 2 * s') _ (by omega) (by omega), f1 (52 + 2 * s') _ (by omega) (by omega), f1 70 _ (by omega) (by omega)]
                refine ⟨w1, w2, w3, w4, fun y hy => ?_⟩
                rw [h2]
                unfold zcpI
                by_cases es : s' = p
                · subst es
                  rw [h1 (53 + 2 * s') (by omega), hI1]
                  show _ = if (53 + 2 * s') = 53 + 2 * s' ∧ b ≤ y ∧ y < b + l then I (53 + 2 * k) (a + (y - b)) else I (53 + 2 * s') y
                  by_cases hyb : b ≤ y ∧ y < b + l
                  · rw [if_pos (by omega), if_pos ⟨rfl, hyb⟩, show 40 * k + a + (40 * s' + y - (40 * s' + b)) = 40 * k + (a + (y - b)) by omega]
                    exact q5 _ (by omega)
                  · rw [if_neg (by omega), if_neg (fun w => hyb w.2)]
                    exact w5 y hy
                · rw [f1 (53 + 2 * s') _ (by omega) (by omega), if_neg (by omega)]
                  exact w5 y hy
              have e71 : I1 71 = I 71 := by rw [hI1]; funext y; exact if_neg (fun w => by omega)
              have walk : ∀ x9 : Option Value, zk_R sc (d + 1) 212 147 [some (.ref (60 : Nat)), some (.int (nI k)), some (.int (nI a)), some (.int (nI p)), some (.int (nI b)), some (.int (nI l)), some (.int (nI (40 * k + a))), some (.int (nI (40 * p + b))), some (.int (nI 0)), x9] [] (zk_mk I1 tg) P := by
                intro x9
                by_cases hab : 40 * k + a < 40 * p + b
                · have hab1 : nI (40 * k + a) < nI (40 * p + b) := by rw [zn_lt (by omega) (by omega)]; exact hab
                  have hab2 : ¬ nI (40 * p + b) ≤ nI (40 * k + a) := Int32.not_le.mpr hab1
                  have loop := zl_up (τ := (Nat → Nat → Int32) × Option Value) (fun c w => zk_R sc (d + 1) 212 147 [some (.ref (60 : Nat)), some (.int (nI k)), some (.int (nI a)), some (.int (nI p)), some (.int (nI b)), some (.int (nI l)), some (.int (nI (40 * k + a))), some (.int (nI (40 * p + b))), some (.int (nI c)), w.2] [] (zk_mk w.1 tg) P)
                    (fun c w => (∀ x, x ≠ 71 → w.1 x = I1 x) ∧ w.1 71 = zcpI (I 71) (40 * k + a) (40 * p + b) (l - c) l) l (by
                      rintro ⟨I', x9⟩ ⟨h1, h2⟩
                      have h2 : I' 71 = zcpI (I 71) (40 * k + a) (40 * p + b) (l - l) l := h2
                      show zk_R sc (d + 1) 212 147 [some (.ref (60 : Nat)), some (.int (nI k)), some (.int (nI a)), some (.int (nI p)), some (.int (nI b)), some (.int (nI l)), some (.int (nI (40 * k + a))), some (.int (nI (40 * p + b))), some (.int (nI l)), x9] [] (zk_mk I' tg) P
                      rw [u212_147]
                      simp only [u212_0, u212_1, u212_2, u212_3, u212_6, u212_9, u212_10, u212_11, u212_12, u212_15, u212_18, u212_20, u212_21, u212_22, u212_25, u212_26, u212_27, u212_28, u212_31, u212_32, u212_35, u212_36, u212_37, u212_38, u212_41, u212_43, u212_44, u212_45, u212_48, u212_49, u212_50, u212_51, u212_54, u212_55, u212_56, u212_59, u212_61, u212_62, u212_64, u212_67, u212_68, u212_71, u212_73, u212_76, u212_77, u212_78, u212_81, u212_82, u212_83, u212_86, u212_88, u212_89, u212_92, u212_93, u212_94, u212_97, u212_99, u212_100, u212_103, u212_104, u212_105, u212_106, u212_107, u212_110, u212_112, u212_113, u212_116, u212_117, u212_118, u212_120, u212_121, u212_124, u212_126, u212_127, u212_129, u212_130, u212_131, u212_132, u212_133, u212_135, u212_137, u212_138, u212_139, u212_141, u212_142, u212_144, u212_145, u212_149, u212_151, u212_154, u212_156, u212_158, u212_161, u212_163, u212_164, u212_165, u212_167, u212_168, u212_171, u212_173, u212_175, u212_176, u212_179, u212_181, u212_183, u212_184, u212_185, u212_188, u212_190, u212_192, u212_193, u212_194, u212_195, u212_198, u212_201, u212_203, zk_mk_1, zk_mk_I, zk_mk_R, zk_mk_set, zk_mk_setR, zk_mk_cpy, zk_rv_some, zk_rv_none, Option.toList_some, Option.toList_none, List.cons_append, List.nil_append, reduceIte, eq_self, Nat.reduceLT, Nat.reduceEqDiff, and_true, true_and, reduceCtorEq]
                      rw [if_pos (nI_le (Nat.le_refl _) (by omega))]
                      exact hfin I' h1 (by rw [h2, Nat.sub_self])) (by
                      rintro c ⟨I', x9⟩ hc ⟨h1, h2⟩ ih
                      have h2 : I' 71 = zcpI (I 71) (40 * k + a) (40 * p + b) (l - c) l := h2
                      have e1 : nI l - 1 - nI c = nI (l - 1 - c) := by rw [show nI l - 1 = nI (l - 1) from zn_sub (b := 1) (by omega), zn_sub (by omega)]
                      have z1 : zk_inb (nI (40 * k + a + (l - 1 - c))) 160 = true := by rw [zn_in (by omega)]; omega
                      have z2 : (nI (40 * k + a + (l - 1 - c))).toNatClampNeg = 40 * k + a + (l - 1 - c) := zn_cl (by omega)
                      have z3 : zk_inb (nI (40 * p + b + (l - 1 - c))) 160 = true := by rw [zn_in (by omega)]; omega
                      have z4 : (nI (40 * p + b + (l - 1 - c))).toNatClampNeg = 40 * p + b + (l - 1 - c) := zn_cl (by omega)
                      show zk_R sc (d + 1) 212 147 [some (.ref (60 : Nat)), some (.int (nI k)), some (.int (nI a)), some (.int (nI p)), some (.int (nI b)), some (.int (nI l)), some (.int (nI (40 * k + a))), some (.int (nI (40 * p + b))), some (.int (nI c)), x9] [] (zk_mk I' tg) P
                      rw [u212_147]
                      simp only [u212_0, u212_1, u212_2, u212_3, u212_6, u212_9, u212_10, u212_11, u212_12, u212_15, u212_18, u212_20, u212_21, u212_22, u212_25, u212_26, u212_27, u212_28, u212_31, u212_32, u212_35, u212_36, u212_37, u212_38, u212_41, u212_43, u212_44, u212_45, u212_48, u212_49, u212_50, u212_51, u212_54, u212_55, u212_56, u212_59, u212_61, u212_62, u212_64, u212_67, u212_68, u212_71, u212_73, u212_76, u212_77, u212_78, u212_81, u212_82, u212_83, u212_86, u212_88, u212_89, u212_92, u212_93, u212_94, u212_97, u212_99, u212_100, u212_103, u212_104, u212_105, u212_106, u212_107, u212_110, u212_112, u212_113, u212_116, u212_117, u212_118, u212_120, u212_121, u212_124, u212_126, u212_127, u212_129, u212_130, u212_131, u212_132, u212_133, u212_135, u212_137, u212_138, u212_139, u212_141, u212_142, u212_144, u212_145, u212_149, u212_151, u212_154, u212_156, u212_158, u212_161, u212_163, u212_164, u212_165, u212_167, u212_168, u212_171, u212_173, u212_175, u212_176, u212_179, u212_181, u212_183, u212_184, u212_185, u212_188, u212_190, u212_192, u212_193, u212_194, u212_195, u212_198, u212_201, u212_203, zk_mk_1, zk_mk_I, zk_mk_R, zk_mk_set, zk_mk_setR, zk_mk_cpy, zk_rv_some, zk_rv_none, Option.toList_some, Option.toList_none, List.cons_append, List.nil_append, reduceIte, eq_self, Nat.reduceLT, Nat.reduceEqDiff, and_true, true_and, reduceCtorEq, zsh_60, zsh_71, zrf_60_17, hab1, hab2, e1, zn_add, z1, z2, z3, z4, nI_1]
                      rw [if_neg (nI_ge hc (by omega))]
                      refine ih (_, _) ⟨fun x hx => ?_, ?_⟩
                      · show zk_up2 I' 71 _ _ x = I1 x
                        rw [zk_up2_r hx]; exact h1 x hx
                      · show zk_up2 I' 71 _ _ 71 = _
                        funext y
                        rw [zk_up2_i, h2]
                        unfold zcpI
                        by_cases ey : y = 40 * p + b + (l - 1 - c)
                        · rw [if_pos ey, if_neg (by omega), if_pos (by omega)]
                          congr 1; omega
                        · rw [if_neg ey]
                          by_cases e2 : 40 * p + b + (l - c) ≤ y ∧ y < 40 * p + b + l
                          · rw [if_pos e2, if_pos (by omega)]
                          · rw [if_neg e2, if_neg (by omega)])
                  refine loop 0 (I1, x9) (Nat.zero_le _) ⟨fun _ _ => rfl, ?_⟩
                  show I1 71 = _
                  rw [e71]
                  funext y
                  unfold zcpI
                  rw [if_neg (by omega)]
                · have hab2 : nI (40 * p + b) ≤ nI (40 * k + a) := by rw [zn_le (by omega) (by omega)]; omega
                  have hab1 : ¬ nI (40 * k + a) < nI (40 * p + b) := Int32.not_lt.mpr hab2
                  have loop := zl_up (τ := (Nat → Nat → Int32) × Option Value) (fun c w => zk_R sc (d + 1) 212 147 [some (.ref (60 : Nat)), some (.int (nI k)), some (.int (nI a)), some (.int (nI p)), some (.int (nI b)), some (.int (nI l)), some (.int (nI (40 * k + a))), some (.int (nI (40 * p + b))), some (.int (nI c)), w.2] [] (zk_mk w.1 tg) P)
                    (fun c w => (∀ x, x ≠ 71 → w.1 x = I1 x) ∧ w.1 71 = zcpI (I 71) (40 * k + a) (40 * p + b) 0 c) l (by
                      rintro ⟨I', x9⟩ ⟨h1, h2⟩
                      show zk_R sc (d + 1) 212 147 [some (.ref (60 : Nat)), some (.int (nI k)), some (.int (nI a)), some (.int (nI p)), some (.int (nI b)), some (.int (nI l)), some (.int (nI (40 * k + a))), some (.int (nI (40 * p + b))), some (.int (nI l)), x9] [] (zk_mk I' tg) P
                      rw [u212_147]
                      simp only [u212_0, u212_1, u212_2, u212_3, u212_6, u212_9, u212_10, u212_11, u212_12, u212_15, u212_18, u212_20, u212_21, u212_22, u212_25, u212_26, u212_27, u212_28, u212_31, u212_32, u212_35, u212_36, u212_37, u212_38, u212_41, u212_43, u212_44, u212_45, u212_48, u212_49, u212_50, u212_51, u212_54, u212_55, u212_56, u212_59, u212_61, u212_62, u212_64, u212_67, u212_68, u212_71, u212_73, u212_76, u212_77, u212_78, u212_81, u212_82, u212_83, u212_86, u212_88, u212_89, u212_92, u212_93, u212_94, u212_97, u212_99, u212_100, u212_103, u212_104, u212_105, u212_106, u212_107, u212_110, u212_112, u212_113, u212_116, u212_117, u212_118, u212_120, u212_121, u212_124, u212_126, u212_127, u212_129, u212_130, u212_131, u212_132, u212_133, u212_135, u212_137, u212_138, u212_139, u212_141, u212_142, u212_144, u212_145, u212_149, u212_151, u212_154, u212_156, u212_158, u212_161, u212_163, u212_164, u212_165, u212_167, u212_168, u212_171, u212_173, u212_175, u212_176, u212_179, u212_181, u212_183, u212_184, u212_185, u212_188, u212_190, u212_192, u212_193, u212_194, u212_195, u212_198, u212_201, u212_203, zk_mk_1, zk_mk_I, zk_mk_R, zk_mk_set, zk_mk_setR, zk_mk_cpy, zk_rv_some, zk_rv_none, Option.toList_some, Option.toList_none, List.cons_append, List.nil_append, reduceIte, eq_self, Nat.reduceLT, Nat.reduceEqDiff, and_true, true_and, reduceCtorEq]
                      rw [if_pos (nI_le (Nat.le_refl _) (by omega))]
                      exact hfin I' h1 h2) (by
                      rintro c ⟨I', x9⟩ hc ⟨h1, h2⟩ ih
                      have h2 : I' 71 = zcpI (I 71) (40 * k + a) (40 * p + b) 0 c := h2
                      have z1 : zk_inb (nI (40 * k + a + c)) 160 = true := by rw [zn_in (by omega)]; omega
                      have z2 : (nI (40 * k + a + c)).toNatClampNeg = 40 * k + a + c := zn_cl (by omega)
                      have z3 : zk_inb (nI (40 * p + b + c)) 160 = true := by rw [zn_in (by omega)]; omega
                      have z4 : (nI (40 * p + b + c)).toNatClampNeg = 40 * p + b + c := zn_cl (by omega)
                      show zk_R sc (d + 1) 212 147 [some (.ref (60 : Nat)), some (.int (nI k)), some (.int (nI a)), some (.int (nI p)), some (.int (nI b)), some (.int (nI l)), some (.int (nI (40 * k + a))), some (.int (nI (40 * p + b))), some (.int (nI c)), x9] [] (zk_mk I' tg) P
                      rw [u212_147]
                      simp only [u212_0, u212_1, u212_2, u212_3, u212_6, u212_9, u212_10, u212_11, u212_12, u212_15, u212_18, u212_20, u212_21, u212_22, u212_25, u212_26, u212_27, u212_28, u212_31, u212_32, u212_35, u212_36, u212_37, u212_38, u212_41, u212_43, u212_44, u212_45, u212_48, u212_49, u212_50, u212_51, u212_54, u212_55, u212_56, u212_59, u212_61, u212_62, u212_64, u212_67, u212_68, u212_71, u212_73, u212_76, u212_77, u212_78, u212_81, u212_82, u212_83, u212_86, u212_88, u212_89, u212_92, u212_93, u212_94, u212_97, u212_99, u212_100, u212_103, u212_104, u212_105, u212_106, u212_107, u212_110, u212_112, u212_113, u212_116, u212_117, u212_118, u212_120, u212_121, u212_124, u212_126, u212_127, u212_129, u212_130, u212_131, u212_132, u212_133, u212_135, u212_137, u212_138, u212_139, u212_141, u212_142, u212_144, u212_145, u212_149, u212_151, u212_154, u212_156, u212_158, u212_161, u212_163, u212_164, u212_165, u212_167, u212_168, u212_171, u212_173, u212_175, u212_176, u212_179, u212_181, u212_183, u212_184, u212_185, u212_188, u212_190, u212_192, u212_193, u212_194, u212_195, u212_198, u212_201, u212_203, zk_mk_1, zk_mk_I, zk_mk_R, zk_mk_set, zk_mk_setR, zk_mk_cpy, zk_rv_some, zk_rv_none, Option.toList_some, Option.toList_none, List.cons_append, List.nil_append, reduceIte, eq_self, Nat.reduceLT, Nat.reduceEqDiff, and_true, true_and, reduceCtorEq, zsh_60, zsh_71, zrf_60_17, hab1, hab2, zn_add, z1, z2, z3, z4, nI_1]
                      rw [if_neg (nI_ge hc (by omega))]
                      refine ih (_, _) ⟨fun x hx => ?_, ?_⟩
                      · show zk_up2 I' 71 _ _ x = I1 x
                        rw [zk_up2_r hx]; exact h1 x hx
                      · show zk_up2 I' 71 _ _ 71 = _
                        funext y
                        rw [zk_up2_i, h2]
                        unfold zcpI
                        by_cases ey : y = 40 * p + b + c
                        · rw [if_pos ey, if_neg (by omega), if_pos (by omega)]
                          congr 1; omega
                        · rw [if_neg ey]
                          by_cases e2 : 40 * p + b + 0 ≤ y ∧ y < 40 * p + b + c
                          · rw [if_pos e2, if_pos (by omega)]
                          · rw [if_neg e2, if_neg (by omega)])
                  refine loop 0 (I1, x9) (Nat.zero_le _) ⟨fun _ _ => rfl, ?_⟩
                  show I1 71 = _
                  rw [e71]
                  funext y
                  unfold zcpI
                  rw [if_neg (by omega)]
              rw [if_neg (pos l (by omega)), if_neg (pos a (by omega)), if_neg (pos b (by omega)), if_neg (ngt (Z k) a (by omega) (by omega) (by omega)), if_neg (ngt (Z p) b (by omega) (by omega) (by omega)), sub1, if_neg (ngt (Z k - a) l (by omega) (by omega) (by omega)), sub2]
              first | rw [if_pos le1] | rw [if_neg (Int32.not_lt.mpr le1)]
              rw [ea, eb]
              exact walk _
            · rw [if_neg hf] at ref
              obtain ⟨e, h⟩ := ref (fun w => hf w.2.2.2.2)
              rw [e]
              by_cases g1 : nn < 0
              · rw [if_pos g1]; exact h
              · rw [if_neg g1]
                by_cases g2 : i < 0
                · rw [if_pos g2]; exact h
                · rw [if_neg g2]
                  by_cases g3 : j < 0
                  · rw [if_pos g3]; exact h
                  · rw [if_neg g3]
                    by_cases g4 : nI (Z k) < i
                    · rw [if_pos g4]; exact h
                    · rw [if_neg g4]
                      by_cases g5 : nI (Z p) < j
                      · rw [if_pos g5]; exact h
                      · rw [if_neg g5]
                        by_cases g6 : nI (Z k) - i < nn
                        · rw [if_pos g6]; exact h
                        · rw [if_neg g6]
                          by_cases g7 : nI (Z p) - j < nn
                          · first | rw [if_pos g7] | rw [if_neg (Int32.not_le.mpr g7)]
                            exact h
                          · exact absurd ⟨zfit_m q4 g1 g2 g4 g6, zfit_m r4 g1 g3 g5 g7⟩ hf
          · rw [if_neg c3]
            rw [if_pos c3] at ref
            obtain ⟨e, h⟩ := ref (fun w => c3 w.2.2.2.1)
            rw [e]; exact h
    · rw [if_pos ho]
      obtain ⟨e, h⟩ := ref (fun w => ho w.2.1)
      unfold zA_copy at h
      rw [if_neg (fun w => ho w.2)] at h
      rw [e]; exact h
  · rw [if_pos hs]
    obtain ⟨e, h⟩ := ref (fun w => hs w.1)
    unfold zA_copy at h
    rw [if_neg (fun w => hs w.1)] at h
    rw [e]; exact h
