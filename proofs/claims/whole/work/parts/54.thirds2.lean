/-! thirds by the reference -/
theorem zdf_or (x a b : Nat) : zdf x (a ||| b) = zdf (zdf x a) b := by
  apply Nat.eq_of_testBit_eq
  intro i
  rw [zdf_bit, zdf_bit, zdf_bit, Nat.testBit_or]
  cases x.testBit i <;> cases a.testBit i <;> cases b.testBit i <;> rfl
def zhl (s : zH3) : Int32 × Int32 × Int32 := match s with
  | none => (-1, -1, 0)
  | some q => (nI q.1, nI q.2.1, q.2.2)
theorem s173 {sc : zk_X} {d : Nat} {I : Nat → Nat → Int32} {tg : Option Nat} {P : Option Value → zk_M → Prop} {n t : Nat} {T e : Nat → Nat} {what : Int32} (hq : zj_q I n t T e)
    (K : ∀ I' : Nat → Nat → Int32, zF I I' → P (some (.int (zA_thirds I n T e what))) (zk_mk I' tg)) : zk_R sc (d + 6) 173 0 [some (.ref (60 : Nat)), some (.int what), none, none, none, none, none, none, none] [] (zk_mk I tg) P := by
  obtain ⟨hj, hl, hr, ht, hx⟩ := hq
  have h10 := hj.2.2.1
  have p10 := zp_10 h10
  unfold zA_thirds at K
  simp only [u173_0, u173_1, u173_2, u173_3, u173_6, u173_9, u173_11, u173_12, u173_13, u173_16, u173_17, u173_18, u173_19, u173_20, u173_21, u173_23, u173_24, u173_28, u173_29, u173_32, u173_35, u173_36, u173_40, u173_41, u173_44, u173_47, u173_49, u173_51, u173_52, u173_55, u173_56, u173_57, u173_60, u173_62, u173_63, u173_64, u173_67, u173_69, u173_70, u173_71, u173_74, u173_75, u173_78, u173_80, u173_82, u173_83, u173_84, u173_85, u173_86, u173_87, u173_90, u173_92, u173_93, u173_94, u173_97, u173_99, u173_101, u173_104, u173_105, u173_108, u173_109, u173_111, u173_113, u173_116, u173_118, u173_121, u173_122, u173_123, u173_125, u173_128, u173_130, u173_133, u173_134, u173_135, u173_137, u173_140, u173_142, u173_145, u173_147, u173_149, u173_152, u173_155, u173_158, u173_161, u173_162, u173_165, u173_166, u173_169, u173_170, u173_171, u173_174, u173_175, u173_178, u173_180, zk_mk_1, zk_mk_I, zk_mk_R, zk_mk_set, zk_mk_setR, zk_mk_cpy, zk_rv_some, zk_rv_none, Option.toList_some, Option.toList_none, List.cons_append, List.nil_append, reduceIte, eq_self, Nat.reduceLT, Nat.reduceEqDiff, and_true, true_and, reduceCtorEq, zsh_60, s129, zb_z]
  by_cases hw : 0 ≤ what ∧ what ≤ 2
  · rw [if_neg (fun q => q hw)]
    rw [if_pos hw] at K
    refine s162 hj ht hr hx (fun I' h1 h2 h3 => ?_)
    have hn' : I' 60 0 = nI n := (h1.tab hj).2.1
    have eall : (1 : Int32) <<< (nI n &&& 31) - 1 = nI (2 ^ n - 1) := by rw [zq_all h10]; exact zn_sub (b := 1) (by omega)
    have K2 := K I' h1
    obtain ⟨qf, eqf⟩ := zth_some (zv_now I n T e) n
    generalize zv_now I n T e = f at *
    have hcE : nI (2 ^ n - 1) < nI (2 ^ n) := by rw [zn_lt (by omega) (by omega)]; omega
    have hcE2 : ¬ nI (2 ^ n) ≤ nI (2 ^ n - 1) := Int32.not_le.mpr hcE
    have hcI : ∀ a, a < 2 ^ n → ¬ nI (2 ^ n - 1) < nI a := fun a ha => by rw [zn_lt (by omega) (by omega)]; omega
    have hcI2 : ∀ a, a < 2 ^ n → nI a ≤ nI (2 ^ n - 1) := fun a ha => Int32.not_lt.mp (hcI a ha)
    have z1 : ∀ a, a < 2 ^ n → zk_inb (nI a) 1024 = true := fun a ha => by rw [zn_in (by omega)]; omega
    have z2 : ∀ a, a < 2 ^ n → (nI a).toNatClampNeg = a := fun a ha => zn_cl (by omega)
    have outer := zl_up (τ := zH3 × Option Value × Option Value × Option Value) (fun a q => zk_R sc (d + 6) 173 26 [some (.ref (60 : Nat)), some (.int what), some (.int (zhl q.1).1), some (.int (zhl q.1).2.1), some (.int (zhl q.1).2.2), some (.int (nI a)), q.2.1, q.2.2.1, q.2.2.2] [] (zk_mk I' tg) P)
      (fun a q => q.1 = zth f n a ∧ ∀ p : Nat × Nat × Int32, q.1 = some p → p.1 < 1024) (2 ^ n) (by
        rintro ⟨s, x, y, z⟩ ⟨hs, -⟩
        have hs' : s = zth f n (2 ^ n) := hs
        rw [← hs'] at K2
        rw [hs'.trans eqf] at K2 ⊢
        have K3 : P (some (.int (if what = 0 then nI qf.1 else if what = 1 then nI qf.2.1 else qf.2.2))) (zk_mk I' tg) := K2
        show zk_R sc (d + 6) 173 26 [some (.ref (60 : Nat)), some (.int what), some (.int (nI qf.1)), some (.int (nI qf.2.1)), some (.int qf.2.2), some (.int (nI (2 ^ n))), x, y, z] [] (zk_mk I' tg) P
        rw [u173_26]
        simp only [u173_0, u173_1, u173_2, u173_3, u173_6, u173_9, u173_11, u173_12, u173_13, u173_16, u173_17, u173_18, u173_19, u173_20, u173_21, u173_23, u173_24, u173_28, u173_29, u173_32, u173_35, u173_36, u173_40, u173_41, u173_44, u173_47, u173_49, u173_51, u173_52, u173_55, u173_56, u173_57, u173_60, u173_62, u173_63, u173_64, u173_67, u173_69, u173_70, u173_71, u173_74, u173_75, u173_78, u173_80, u173_82, u173_83, u173_84, u173_85, u173_86, u173_87, u173_90, u173_92, u173_93, u173_94, u173_97, u173_99, u173_101, u173_104, u173_105, u173_108, u173_109, u173_111, u173_113, u173_116, u173_118, u173_121, u173_122, u173_123, u173_125, u173_128, u173_130, u173_133, u173_134, u173_135, u173_137, u173_140, u173_142, u173_145, u173_147, u173_149, u173_152, u173_155, u173_158, u173_161, u173_162, u173_165, u173_166, u173_169, u173_170, u173_171, u173_174, u173_175, u173_178, u173_180, zk_mk_1, zk_mk_I, zk_mk_R, zk_mk_set, zk_mk_setR, zk_mk_cpy, zk_rv_some, zk_rv_none, Option.toList_some, Option.toList_none, List.cons_append, List.nil_append, reduceIte, eq_self, Nat.reduceLT, Nat.reduceEqDiff, and_true, true_and, reduceCtorEq, zsh_60, s161, hn', eall, hcE, hcE2]
        by_cases w0 : what = 0
        · rw [if_pos w0] at K3 ⊢; exact K3
        · rw [if_neg w0] at K3 ⊢
          by_cases w1 : what = 1
          · rw [if_pos w1] at K3 ⊢; exact K3
          · rw [if_neg w1] at K3 ⊢; exact K3) (by
        rintro a ⟨s, x, y, z⟩ ha ⟨hs, hp⟩ ih
        have hs' : s = zth f n a := hs
        have inner := zl_up (τ := zH3 × Option Value × Option Value) (fun b q => zk_R sc (d + 6) 173 38 [some (.ref (60 : Nat)), some (.int what), some (.int (zhl q.1).1), some (.int (zhl q.1).2.1), some (.int (zhl q.1).2.2), some (.int (nI a)), some (.int (nI b)), q.2.1, q.2.2] [] (zk_mk I' tg) P)
          (fun b q => q.1 = zfor (zhi f n a) s b ∧ ∀ p : Nat × Nat × Int32, q.1 = some p → p.1 < 1024) (2 ^ n) (by
            rintro ⟨s2, x, y⟩ ⟨g1, g2⟩
            have g1' : s2 = zfor (zhi f n a) s (2 ^ n) := g1
            show zk_R sc (d + 6) 173 38 [some (.ref (60 : Nat)), some (.int what), some (.int (zhl s2).1), some (.int (zhl s2).2.1), some (.int (zhl s2).2.2), some (.int (nI a)), some (.int (nI (2 ^ n))), x, y] [] (zk_mk I' tg) P
            rw [u173_38]
            simp only [u173_0, u173_1, u173_2, u173_3, u173_6, u173_9, u173_11, u173_12, u173_13, u173_16, u173_17, u173_18, u173_19, u173_20, u173_21, u173_23, u173_24, u173_28, u173_29, u173_32, u173_35, u173_36, u173_40, u173_41, u173_44, u173_47, u173_49, u173_51, u173_52, u173_55, u173_56, u173_57, u173_60, u173_62, u173_63, u173_64, u173_67, u173_69, u173_70, u173_71, u173_74, u173_75, u173_78, u173_80, u173_82, u173_83, u173_84, u173_85, u173_86, u173_87, u173_90, u173_92, u173_93, u173_94, u173_97, u173_99, u173_101, u173_104, u173_105, u173_108, u173_109, u173_111, u173_113, u173_116, u173_118, u173_121, u173_122, u173_123, u173_125, u173_128, u173_130, u173_133, u173_134, u173_135, u173_137, u173_140, u173_142, u173_145, u173_147, u173_149, u173_152, u173_155, u173_158, u173_161, u173_162, u173_165, u173_166, u173_169, u173_170, u173_171, u173_174, u173_175, u173_178, u173_180, zk_mk_1, zk_mk_I, zk_mk_R, zk_mk_set, zk_mk_setR, zk_mk_cpy, zk_rv_some, zk_rv_none, Option.toList_some, Option.toList_none, List.cons_append, List.nil_append, reduceIte, eq_self, Nat.reduceLT, Nat.reduceEqDiff, and_true, true_and, reduceCtorEq, zsh_60, s161, hn', eall, hcE, hcE2, nI_1]
            refine ih (s2, _, _, _) ⟨?_, g2⟩
            show s2 = zho f n a (zth f n a)
            rw [g1', hs']; rfl) (by
            rintro b ⟨s2, x, y⟩ hb ⟨g1, g2⟩ ih2
            have g1' : s2 = zfor (zhi f n a) s b := g1
            have hab : a &&& b < 2147483648 := by have := Nat.and_le_left (n := a) (m := b); omega
            have y0 : (nI (a &&& b) = 0) = (a &&& b = 0) := zn_eq (b := 0) hab (by decide)
            have hd : zdf (2 ^ n - 1) (a ||| b) < 2 ^ n := zdf_lt (by omega)
            have ev : zfar3 (zsum f a n) (zsum f b n) (zsum f (zdf (2 ^ n - 1) (a ||| b)) n) = zhv f n a b := by unfold zhv; rw [zdf_or]
            show zk_R sc (d + 6) 173 38 [some (.ref (60 : Nat)), some (.int what), some (.int (zhl s2).1), some (.int (zhl s2).2.1), some (.int (zhl s2).2.2), some (.int (nI a)), some (.int (nI b)), x, y] [] (zk_mk I' tg) P
            have go : ∀ s4 x y, s4 = zhi f n a b s2 → zk_R sc (d + 6) 173 38 [some (.ref (60 : Nat)), some (.int what), some (.int (zhl s4).1), some (.int (zhl s4).2.1), some (.int (zhl s4).2.2), some (.int (nI a)), some (.int (nI (b + 1))), x, y] [] (zk_mk I' tg) P := by
              intro s4 x y h4
              refine ih2 (s4, x, y) ⟨?_, ?_⟩
              · show s4 = zhi f n a b (zfor (zhi f n a) s b)
                rw [← g1']; exact h4
              · intro p hp4
                have hp4' : s4 = some p := hp4
                by_cases hc : zdf b (zdf (2 ^ n - 1) a) = 0
                · rw [h4, zhi_y hc] at hp4'
                  cases s2 with
                  | none =>
                    cases hp4'
                    show a < 1024
                    omega
                  | some q =>
                    by_cases hv : zhv f n a b < q.2.2
                    · rw [show zhu (zhv f n a b) a b (some q) = some (a, b, zhv f n a b) from if_pos hv] at hp4'
                      cases hp4'
                      show a < 1024
                      omega
                    · rw [show zhu (zhv f n a b) a b (some q) = some q from if_neg hv] at hp4'
                      exact g2 p hp4'
                · rw [h4, zhi_n hc] at hp4'
                  exact g2 p hp4'
            rw [u173_38]
            simp only [u173_0, u173_1, u173_2, u173_3, u173_6, u173_9, u173_11, u173_12, u173_13, u173_16, u173_17, u173_18, u173_19, u173_20, u173_21, u173_23, u173_24, u173_28, u173_29, u173_32, u173_35, u173_36, u173_40, u173_41, u173_44, u173_47, u173_49, u173_51, u173_52, u173_55, u173_56, u173_57, u173_60, u173_62, u173_63, u173_64, u173_67, u173_69, u173_70, u173_71, u173_74, u173_75, u173_78, u173_80, u173_82, u173_83, u173_84, u173_85, u173_86, u173_87, u173_90, u173_92, u173_93, u173_94, u173_97, u173_99, u173_101, u173_104, u173_105, u173_108, u173_109, u173_111, u173_113, u173_116, u173_118, u173_121, u173_122, u173_123, u173_125, u173_128, u173_130, u173_133, u173_134, u173_135, u173_137, u173_140, u173_142, u173_145, u173_147, u173_149, u173_152, u173_155, u173_158, u173_161, u173_162, u173_165, u173_166, u173_169, u173_170, u173_171, u173_174, u173_175, u173_178, u173_180, zk_mk_1, zk_mk_I, zk_mk_R, zk_mk_set, zk_mk_setR, zk_mk_cpy, zk_rv_some, zk_rv_none, Option.toList_some, Option.toList_none, List.cons_append, List.nil_append, reduceIte, eq_self, Nat.reduceLT, Nat.reduceEqDiff, and_true, true_and, reduceCtorEq, zsh_60, zsh_78, zrf_60_31, s161, hn', eall, hcI b hb, hcI2 b hb, z1 a ha, z2 a ha, z1 b hb, z2 b hb, (h3 a ha).1, (h3 b hb).1, zq_and, y0, zq_or, zq_andn, z1 _ hd, z2 _ hd, (h3 _ hd).1, s174, ev, nI_1]
            by_cases k1 : a &&& b = 0
            · rw [if_pos k1]
              have hc : zdf b (zdf (2 ^ n - 1) a) = 0 := (zle_dall hb).mpr (by rw [Nat.and_comm]; exact k1)
              have h5 := fun s4 x y (h : s4 = zhu (zhv f n a b) a b s2) => go s4 x y (h.trans (zhi_y hc).symm)
              cases s2 with
              | none =>
                have h6 := fun x y => h5 (some (a, b, zhv f n a b)) x y rfl
                simp only [zhl, reduceIte, show ((1 : Int32) = 0) = False from by decide] at h6 ⊢
                exact h6 _ _
              | some q =>
                have hq1 := g2 q rfl
                by_cases hv : zhv f n a b < q.2.2
                · have h6 := fun x y => h5 (some (a, b, zhv f n a b)) x y (if_pos hv).symm
                  have hv2 : ¬ q.2.2 ≤ zhv f n a b := Int32.not_le.mpr hv
                  simp only [zhl, reduceIte, zn_m1 (show q.1 < 2147483648 by omega), hv, hv2, show ((1 : Int32) = 0) = False from by decide] at h6 ⊢
                  exact h6 _ _
                · have h6 := fun x y => h5 (some q) x y (if_neg hv).symm
                  have hv2 : q.2.2 ≤ zhv f n a b := Int32.not_lt.mp hv
                  simp only [zhl, reduceIte, zn_m1 (show q.1 < 2147483648 by omega), hv, hv2] at h6 ⊢
                  exact h6 _ _
            · rw [if_neg k1]
              exact go s2 _ _ (zhi_n (fun q => k1 (by rw [Nat.and_comm]; exact (zle_dall hb).mp q))).symm)
        show zk_R sc (d + 6) 173 26 [some (.ref (60 : Nat)), some (.int what), some (.int (zhl s).1), some (.int (zhl s).2.1), some (.int (zhl s).2.2), some (.int (nI a)), x, y, z] [] (zk_mk I' tg) P
        rw [u173_26]
        simp only [u173_0, u173_1, u173_2, u173_3, u173_6, u173_9, u173_11, u173_12, u173_13, u173_16, u173_17, u173_18, u173_19, u173_20, u173_21, u173_23, u173_24, u173_28, u173_29, u173_32, u173_35, u173_36, u173_40, u173_41, u173_44, u173_47, u173_49, u173_51, u173_52, u173_55, u173_56, u173_57, u173_60, u173_62, u173_63, u173_64, u173_67, u173_69, u173_70, u173_71, u173_74, u173_75, u173_78, u173_80, u173_82, u173_83, u173_84, u173_85, u173_86, u173_87, u173_90, u173_92, u173_93, u173_94, u173_97, u173_99, u173_101, u173_104, u173_105, u173_108, u173_109, u173_111, u173_113, u173_116, u173_118, u173_121, u173_122, u173_123, u173_125, u173_128, u173_130, u173_133, u173_134, u173_135, u173_137, u173_140, u173_142, u173_145, u173_147, u173_149, u173_152, u173_155, u173_158, u173_161, u173_162, u173_165, u173_166, u173_169, u173_170, u173_171, u173_174, u173_175, u173_178, u173_180, zk_mk_1, zk_mk_I, zk_mk_R, zk_mk_set, zk_mk_setR, zk_mk_cpy, zk_rv_some, zk_rv_none, Option.toList_some, Option.toList_none, List.cons_append, List.nil_append, reduceIte, eq_self, Nat.reduceLT, Nat.reduceEqDiff, and_true, true_and, reduceCtorEq, zsh_60, s161, hn', eall, hcI a ha, hcI2 a ha]
        exact inner 0 (s, _, _) (Nat.zero_le _) ⟨rfl, hp⟩)
    simp only [u173_0, u173_1, u173_2, u173_3, u173_6, u173_9, u173_11, u173_12, u173_13, u173_16, u173_17, u173_18, u173_19, u173_20, u173_21, u173_23, u173_24, u173_28, u173_29, u173_32, u173_35, u173_36, u173_40, u173_41, u173_44, u173_47, u173_49, u173_51, u173_52, u173_55, u173_56, u173_57, u173_60, u173_62, u173_63, u173_64, u173_67, u173_69, u173_70, u173_71, u173_74, u173_75, u173_78, u173_80, u173_82, u173_83, u173_84, u173_85, u173_86, u173_87, u173_90, u173_92, u173_93, u173_94, u173_97, u173_99, u173_101, u173_104, u173_105, u173_108, u173_109, u173_111, u173_113, u173_116, u173_118, u173_121, u173_122, u173_123, u173_125, u173_128, u173_130, u173_133, u173_134, u173_135, u173_137, u173_140, u173_142, u173_145, u173_147, u173_149, u173_152, u173_155, u173_158, u173_161, u173_162, u173_165, u173_166, u173_169, u173_170, u173_171, u173_174, u173_175, u173_178, u173_180, zk_mk_1, zk_mk_I, zk_mk_R, zk_mk_set, zk_mk_setR, zk_mk_cpy, zk_rv_some, zk_rv_none, Option.toList_some, Option.toList_none, List.cons_append, List.nil_append, reduceIte, eq_self, Nat.reduceLT, Nat.reduceEqDiff, and_true, true_and, reduceCtorEq]
    refine outer 0 ((none : zH3), none, none, none) (Nat.zero_le _) ⟨rfl, fun p hp => ?_⟩
    cases hp
  · rw [if_pos hw]
    rw [if_neg hw] at K
    exact K I (zF_refl I)
