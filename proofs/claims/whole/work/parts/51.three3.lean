/-! three alike by the reference -/
theorem zfor_low {σ : Type} {step : Nat → σ → σ} {s0 : σ} {m : Nat} (h : ∀ x, x < m → ∀ s, step x s = s) : zfor step s0 m = s0 := by
  have := zfor_skip (step := step) (s0 := s0) (a := 0) m (fun x _ h2 => h x (by omega))
  rwa [Nat.zero_add] at this
theorem zfor_none {σ : Type} {step : Nat → σ → σ} {s0 : σ} (h : ∀ x s, step x s = s) (m : Nat) : zfor step s0 m = s0 := zfor_low (fun x _ s => h x s)
theorem s170 {sc : zk_X} {d : Nat} {I : Nat → Nat → Int32} {tg : Option Nat} {P : Option Value → zk_M → Prop} {n t : Nat} {T e : Nat → Nat} {what : Int32} (hq : zj_q I n t T e)
    (K : ∀ I' : Nat → Nat → Int32, zF I I' → P (some (.int (zA_three I n T e what))) (zk_mk I' tg)) : zk_R sc (d + 6) 170 0 [some (.ref (60 : Nat)), some (.int what), none, none, none, none, none, none, none, none] [] (zk_mk I tg) P := by
  obtain ⟨hj, hl, hr, ht, hx⟩ := hq
  have h10 := hj.2.2.1
  have p10 := zp_10 h10
  unfold zA_three at K
  simp only [u170_0, u170_1, u170_2, u170_3, u170_6, u170_9, u170_11, u170_12, u170_13, u170_16, u170_17, u170_18, u170_19, u170_20, u170_21, u170_23, u170_24, u170_26, u170_27, u170_31, u170_32, u170_35, u170_38, u170_40, u170_41, u170_42, u170_46, u170_47, u170_50, u170_53, u170_55, u170_57, u170_58, u170_61, u170_62, u170_65, u170_67, u170_68, u170_69, u170_72, u170_74, u170_75, u170_78, u170_79, u170_82, u170_83, u170_85, u170_87, u170_88, u170_89, u170_93, u170_94, u170_97, u170_100, u170_102, u170_105, u170_107, u170_109, u170_111, u170_112, u170_113, u170_116, u170_117, u170_120, u170_122, u170_123, u170_124, u170_127, u170_129, u170_130, u170_133, u170_134, u170_137, u170_139, u170_142, u170_143, u170_144, u170_145, u170_148, u170_150, u170_153, u170_155, u170_157, u170_158, u170_161, u170_163, u170_166, u170_168, u170_170, u170_173, u170_176, u170_179, u170_182, u170_185, u170_188, u170_191, u170_192, u170_195, u170_196, u170_199, u170_200, u170_201, u170_204, u170_205, u170_208, u170_209, u170_210, u170_213, u170_215, u170_218, u170_220, zk_mk_1, zk_mk_I, zk_mk_R, zk_mk_set, zk_mk_setR, zk_mk_cpy, zk_rv_some, zk_rv_none, Option.toList_some, Option.toList_none, List.cons_append, List.nil_append, reduceIte, eq_self, Nat.reduceLT, Nat.reduceEqDiff, and_true, true_and, reduceCtorEq, zsh_60, s129, zb_z]
  by_cases hw : 0 ≤ what ∧ what ≤ 3
  · rw [if_neg (fun q => q hw)]
    rw [if_pos hw] at K
    refine s162 hj ht hr hx (fun I' h1 h2 h3 => ?_)
    have hn' : I' 60 0 = nI n := (h1.tab hj).2.1
    have eall : (1 : Int32) <<< (nI n &&& 31) - 1 = nI (2 ^ n - 1) := by rw [zq_all h10]; exact zn_sub (b := 1) (by omega)
    have K2 := K I' h1
    generalize zv_now I n T e = f at *
    have hcE : nI (2 ^ n - 1) < nI (2 ^ n) := by rw [zn_lt (by omega) (by omega)]; omega
    have hcE2 : ¬ nI (2 ^ n) ≤ nI (2 ^ n - 1) := Int32.not_le.mpr hcE
    have hcI : ∀ a, a < 2 ^ n → ¬ nI (2 ^ n - 1) < nI a := fun a ha => by rw [zn_lt (by omega) (by omega)]; omega
    have hcI2 : ∀ a, a < 2 ^ n → nI a ≤ nI (2 ^ n - 1) := fun a ha => Int32.not_lt.mp (hcI a ha)
    have z1 : ∀ a, a < 2 ^ n → zk_inb (nI a) 1024 = true := fun a ha => by rw [zn_in (by omega)]; omega
    have z2 : ∀ a, a < 2 ^ n → (nI a).toNatClampNeg = a := fun a ha => zn_cl (by omega)
    have outer := zl_up (τ := zT4 × Option Value × Option Value × Option Value) (fun a q => zk_R sc (d + 6) 170 29 [some (.ref (60 : Nat)), some (.int what), some (.int (nI q.1.1)), some (.int q.1.2.1), some (.int q.1.2.2.1), some (.int q.1.2.2.2), some (.int (nI a)), q.2.1, q.2.2.1, q.2.2.2] [] (zk_mk I' tg) P)
      (fun a q => 1 ≤ a ∧ q.1 = zthr f n a) (2 ^ n) (by
        rintro ⟨s, x, y, z⟩ ⟨h0, hs⟩
        have hs' : s = zthr f n (2 ^ n) := hs
        rw [← hs'] at K2
        show zk_R sc (d + 6) 170 29 [some (.ref (60 : Nat)), some (.int what), some (.int (nI s.1)), some (.int s.2.1), some (.int s.2.2.1), some (.int s.2.2.2), some (.int (nI (2 ^ n))), x, y, z] [] (zk_mk I' tg) P
        unfold zA_t4 at K2
        rw [u170_29]
        simp only [u170_0, u170_1, u170_2, u170_3, u170_6, u170_9, u170_11, u170_12, u170_13, u170_16, u170_17, u170_18, u170_19, u170_20, u170_21, u170_23, u170_24, u170_26, u170_27, u170_31, u170_32, u170_35, u170_38, u170_40, u170_41, u170_42, u170_46, u170_47, u170_50, u170_53, u170_55, u170_57, u170_58, u170_61, u170_62, u170_65, u170_67, u170_68, u170_69, u170_72, u170_74, u170_75, u170_78, u170_79, u170_82, u170_83, u170_85, u170_87, u170_88, u170_89, u170_93, u170_94, u170_97, u170_100, u170_102, u170_105, u170_107, u170_109, u170_111, u170_112, u170_113, u170_116, u170_117, u170_120, u170_122, u170_123, u170_124, u170_127, u170_129, u170_130, u170_133, u170_134, u170_137, u170_139, u170_142, u170_143, u170_144, u170_145, u170_148, u170_150, u170_153, u170_155, u170_157, u170_158, u170_161, u170_163, u170_166, u170_168, u170_170, u170_173, u170_176, u170_179, u170_182, u170_185, u170_188, u170_191, u170_192, u170_195, u170_196, u170_199, u170_200, u170_201, u170_204, u170_205, u170_208, u170_209, u170_210, u170_213, u170_215, u170_218, u170_220, zk_mk_1, zk_mk_I, zk_mk_R, zk_mk_set, zk_mk_setR, zk_mk_cpy, zk_rv_some, zk_rv_none, Option.toList_some, Option.toList_none, List.cons_append, List.nil_append, reduceIte, eq_self, Nat.reduceLT, Nat.reduceEqDiff, and_true, true_and, reduceCtorEq, zsh_60, s161, hn', eall, hcE, hcE2]
        by_cases w0 : what = 0
        · rw [if_pos w0] at K2 ⊢; exact K2
        · rw [if_neg w0] at K2 ⊢
          by_cases w1 : what = 1
          · rw [if_pos w1] at K2 ⊢; exact K2
          · rw [if_neg w1] at K2 ⊢
            by_cases w2 : what = 2
            · rw [if_pos w2] at K2 ⊢; exact K2
            · rw [if_neg w2] at K2 ⊢; exact K2) (by
        rintro a ⟨s, x, y, z⟩ ha ⟨h0, hs⟩ ih
        have h0' : 1 ≤ a := h0
        have hs' : s = zthr f n a := hs
        have ek : zthr f n (a + 1) = zfor (ztm f n a) s (2 ^ n) := by rw [hs']; exact zto_y (by omega)
        have bs : s.1 ≤ 0 + a * (2 ^ n * 2 ^ n) := by rw [hs']; exact zfor_le (s0 := ((0, -1, -1, -1) : zT4)) (zto_le f n) a
        have mid := zl_up (τ := zT4 × Option Value × Option Value) (fun b q => zk_R sc (d + 6) 170 44 [some (.ref (60 : Nat)), some (.int what), some (.int (nI q.1.1)), some (.int q.1.2.1), some (.int q.1.2.2.1), some (.int q.1.2.2.2), some (.int (nI a)), some (.int (nI b)), q.2.1, q.2.2] [] (zk_mk I' tg) P)
          (fun b q => a < b ∧ q.1 = zfor (ztm f n a) s b) (2 ^ n) (by
            rintro ⟨s2, x, y⟩ ⟨g0, g1⟩
            have g1' : s2 = zfor (ztm f n a) s (2 ^ n) := g1
            show zk_R sc (d + 6) 170 44 [some (.ref (60 : Nat)), some (.int what), some (.int (nI s2.1)), some (.int s2.2.1), some (.int s2.2.2.1), some (.int s2.2.2.2), some (.int (nI a)), some (.int (nI (2 ^ n))), x, y] [] (zk_mk I' tg) P
            rw [u170_44]
            simp only [u170_0, u170_1, u170_2, u170_3, u170_6, u170_9, u170_11, u170_12, u170_13, u170_16, u170_17, u170_18, u170_19, u170_20, u170_21, u170_23, u170_24, u170_26, u170_27, u170_31, u170_32, u170_35, u170_38, u170_40, u170_41, u170_42, u170_46, u170_47, u170_50, u170_53, u170_55, u170_57, u170_58, u170_61, u170_62, u170_65, u170_67, u170_68, u170_69, u170_72, u170_74, u170_75, u170_78, u170_79, u170_82, u170_83, u170_85, u170_87, u170_88, u170_89, u170_93, u170_94, u170_97, u170_100, u170_102, u170_105, u170_107, u170_109, u170_111, u170_112, u170_113, u170_116, u170_117, u170_120, u170_122, u170_123, u170_124, u170_127, u170_129, u170_130, u170_133, u170_134, u170_137, u170_139, u170_142, u170_143, u170_144, u170_145, u170_148, u170_150, u170_153, u170_155, u170_157, u170_158, u170_161, u170_163, u170_166, u170_168, u170_170, u170_173, u170_176, u170_179, u170_182, u170_185, u170_188, u170_191, u170_192, u170_195, u170_196, u170_199, u170_200, u170_201, u170_204, u170_205, u170_208, u170_209, u170_210, u170_213, u170_215, u170_218, u170_220, zk_mk_1, zk_mk_I, zk_mk_R, zk_mk_set, zk_mk_setR, zk_mk_cpy, zk_rv_some, zk_rv_none, Option.toList_some, Option.toList_none, List.cons_append, List.nil_append, reduceIte, eq_self, Nat.reduceLT, Nat.reduceEqDiff, and_true, true_and, reduceCtorEq, zsh_60, s161, hn', eall, hcE, hcE2, nI_1]
            exact ih (s2, _, _, _) ⟨by omega, by rw [ek]; exact g1'⟩) (by
            rintro b ⟨s2, x, y⟩ hb ⟨g0, g1⟩ ih2
            have g0' : a < b := g0
            have g1' : s2 = zfor (ztm f n a) s b := g1
            have bs2 : s2.1 ≤ s.1 + b * 2 ^ n := by rw [g1']; exact zfor_le (ztm_le f n a) b
            have hbd := zbound h10 ha hb
            have hab : a &&& b < 2147483648 := by have := Nat.and_le_left (n := a) (m := b); omega
            have hor := zor_lt ha hb
            have y0 : (nI (a &&& b) = 0) = (a &&& b = 0) := zn_eq (b := 0) hab (by decide)
            show zk_R sc (d + 6) 170 44 [some (.ref (60 : Nat)), some (.int what), some (.int (nI s2.1)), some (.int s2.2.1), some (.int s2.2.2.1), some (.int s2.2.2.2), some (.int (nI a)), some (.int (nI b)), x, y] [] (zk_mk I' tg) P
            have nob : ∀ x y, (¬ (a &&& b = 0 ∧ zsum f a n = zsum f b n)) → zk_R sc (d + 6) 170 44 [some (.ref (60 : Nat)), some (.int what), some (.int (nI s2.1)), some (.int s2.2.1), some (.int s2.2.2.1), some (.int s2.2.2.2), some (.int (nI a)), some (.int (nI (b + 1))), x, y] [] (zk_mk I' tg) P := by
              intro x y hq
              refine ih2 (s2, x, y) ⟨by omega, ?_⟩
              show s2 = ztm f n a b (zfor (ztm f n a) s b)
              rw [ztm_n (fun q => hq ⟨by rw [Nat.and_comm]; exact (zle_dall hb).mp q.2.1, q.2.2.2.symm⟩)]
              exact g1'
            have skip : (¬ (a &&& b = 0 ∧ zsum f a n = zsum f b n)) → zk_R sc (d + 6) 170 91 [some (.ref (60 : Nat)), some (.int what), some (.int (nI s2.1)), some (.int s2.2.1), some (.int s2.2.2.1), some (.int s2.2.2.2), some (.int (nI a)), some (.int (nI b)), some (.int 0), some (.int (nI (b + 1)))] [] (zk_mk I' tg) P := by
              intro hq
              rw [u170_91]
              simp only [u170_0, u170_1, u170_2, u170_3, u170_6, u170_9, u170_11, u170_12, u170_13, u170_16, u170_17, u170_18, u170_19, u170_20, u170_21, u170_23, u170_24, u170_26, u170_27, u170_31, u170_32, u170_35, u170_38, u170_40, u170_41, u170_42, u170_46, u170_47, u170_50, u170_53, u170_55, u170_57, u170_58, u170_61, u170_62, u170_65, u170_67, u170_68, u170_69, u170_72, u170_74, u170_75, u170_78, u170_79, u170_82, u170_83, u170_85, u170_87, u170_88, u170_89, u170_93, u170_94, u170_97, u170_100, u170_102, u170_105, u170_107, u170_109, u170_111, u170_112, u170_113, u170_116, u170_117, u170_120, u170_122, u170_123, u170_124, u170_127, u170_129, u170_130, u170_133, u170_134, u170_137, u170_139, u170_142, u170_143, u170_144, u170_145, u170_148, u170_150, u170_153, u170_155, u170_157, u170_158, u170_161, u170_163, u170_166, u170_168, u170_170, u170_173, u170_176, u170_179, u170_182, u170_185, u170_188, u170_191, u170_192, u170_195, u170_196, u170_199, u170_200, u170_201, u170_204, u170_205, u170_208, u170_209, u170_210, u170_213, u170_215, u170_218, u170_220, zk_mk_1, zk_mk_I, zk_mk_R, zk_mk_set, zk_mk_setR, zk_mk_cpy, zk_rv_some, zk_rv_none, Option.toList_some, Option.toList_none, List.cons_append, List.nil_append, reduceIte, eq_self, Nat.reduceLT, Nat.reduceEqDiff, and_true, true_and, reduceCtorEq, zsh_60, s161, hn', eall, nI_1]
              have := nob (some (.int 0)) (some (.int (nI (b + 1)))) hq
              split <;> exact this
            rw [u170_44]
            simp only [u170_0, u170_1, u170_2, u170_3, u170_6, u170_9, u170_11, u170_12, u170_13, u170_16, u170_17, u170_18, u170_19, u170_20, u170_21, u170_23, u170_24, u170_26, u170_27, u170_31, u170_32, u170_35, u170_38, u170_40, u170_41, u170_42, u170_46, u170_47, u170_50, u170_53, u170_55, u170_57, u170_58, u170_61, u170_62, u170_65, u170_67, u170_68, u170_69, u170_72, u170_74, u170_75, u170_78, u170_79, u170_82, u170_83, u170_85, u170_87, u170_88, u170_89, u170_93, u170_94, u170_97, u170_100, u170_102, u170_105, u170_107, u170_109, u170_111, u170_112, u170_113, u170_116, u170_117, u170_120, u170_122, u170_123, u170_124, u170_127, u170_129, u170_130, u170_133, u170_134, u170_137, u170_139, u170_142, u170_143, u170_144, u170_145, u170_148, u170_150, u170_153, u170_155, u170_157, u170_158, u170_161, u170_163, u170_166, u170_168, u170_170, u170_173, u170_176, u170_179, u170_182, u170_185, u170_188, u170_191, u170_192, u170_195, u170_196, u170_199, u170_200, u170_201, u170_204, u170_205, u170_208, u170_209, u170_210, u170_213, u170_215, u170_218, u170_220, zk_mk_1, zk_mk_I, zk_mk_R, zk_mk_set, zk_mk_setR, zk_mk_cpy, zk_rv_some, zk_rv_none, Option.toList_some, Option.toList_none, List.cons_append, List.nil_append, reduceIte, eq_self, Nat.reduceLT, Nat.reduceEqDiff, and_true, true_and, reduceCtorEq, zsh_60, zsh_78, zrf_60_31, s161, hn', eall, hcI b hb, hcI2 b hb, z1 a ha, z2 a ha, z1 b hb, z2 b hb, (h3 a ha).1, (h3 b hb).1, zq_and, y0, nI_1]
            by_cases k1 : a &&& b = 0
            · rw [if_pos k1]
              by_cases k2 : zsum f a n = zsum f b n
              · rw [if_pos k2]
                have em : ztm f n a b s2 = zfor (zti f n a b) s2 (2 ^ n) := ztm_y ⟨by omega, (zle_dall hb).mpr (by rw [Nat.and_comm]; exact k1), g0', k2.symm⟩
                have inn := zl_up (τ := zT4) (fun c q => zk_R sc (d + 6) 170 91 [some (.ref (60 : Nat)), some (.int what), some (.int (nI q.1)), some (.int q.2.1), some (.int q.2.2.1), some (.int q.2.2.2), some (.int (nI a)), some (.int (nI b)), some (.int 1), some (.int (nI c))] [] (zk_mk I' tg) P)
                  (fun c q => b < c ∧ q = zfor (zti f n a b) s2 c) (2 ^ n) (by
                    rintro s3 ⟨j0, j1⟩
                    show zk_R sc (d + 6) 170 91 [some (.ref (60 : Nat)), some (.int what), some (.int (nI s3.1)), some (.int s3.2.1), some (.int s3.2.2.1), some (.int s3.2.2.2), some (.int (nI a)), some (.int (nI b)), some (.int 1), some (.int (nI (2 ^ n)))] [] (zk_mk I' tg) P
                    rw [u170_91]
                    simp only [u170_0, u170_1, u170_2, u170_3, u170_6, u170_9, u170_11, u170_12, u170_13, u170_16, u170_17, u170_18, u170_19, u170_20, u170_21, u170_23, u170_24, u170_26, u170_27, u170_31, u170_32, u170_35, u170_38, u170_40, u170_41, u170_42, u170_46, u170_47, u170_50, u170_53, u170_55, u170_57, u170_58, u170_61, u170_62, u170_65, u170_67, u170_68, u170_69, u170_72, u170_74, u170_75, u170_78, u170_79, u170_82, u170_83, u170_85, u170_87, u170_88, u170_89, u170_93, u170_94, u170_97, u170_100, u170_102, u170_105, u170_107, u170_109, u170_111, u170_112, u170_113, u170_116, u170_117, u170_120, u170_122, u170_123, u170_124, u170_127, u170_129, u170_130, u170_133, u170_134, u170_137, u170_139, u170_142, u170_143, u170_144, u170_145, u170_148, u170_150, u170_153, u170_155, u170_157, u170_158, u170_161, u170_163, u170_166, u170_168, u170_170, u170_173, u170_176, u170_179, u170_182, u170_185, u170_188, u170_191, u170_192, u170_195, u170_196, u170_199, u170_200, u170_201, u170_204, u170_205, u170_208, u170_209, u170_210, u170_213, u170_215, u170_218, u170_220, zk_mk_1, zk_mk_I, zk_mk_R, zk_mk_set, zk_mk_setR, zk_mk_cpy, zk_rv_some, zk_rv_none, Option.toList_some, Option.toList_none, List.cons_append, List.nil_append, reduceIte, eq_self, Nat.reduceLT, Nat.reduceEqDiff, and_true, true_and, reduceCtorEq, zsh_60, s161, hn', eall, hcE, hcE2, nI_1]
                    refine ih2 (s3, _, _) ⟨by omega, ?_⟩
                    show s3 = ztm f n a b (zfor (ztm f n a) s b)
                    rw [← g1', em]; exact j1) (by
                    rintro c s3 hc ⟨j0, j1⟩ ih3
                    have bs3 : s3.1 ≤ s2.1 + c * 1 := by rw [j1]; exact zfor_le (zti_le f n a b) c
                    have hcab : c &&& (a ||| b) < 2147483648 := by have := Nat.and_le_left (n := c) (m := a ||| b); omega
                    have y1 : (nI (c &&& (a ||| b)) = 0) = (c &&& (a ||| b) = 0) := zn_eq (b := 0) hcab (by decide)
                    have y2 : (nI s3.1 = 0) = (s3.1 = 0) := zn_eq (b := 0) (by omega) (by decide)
                    show zk_R sc (d + 6) 170 91 [some (.ref (60 : Nat)), some (.int what), some (.int (nI s3.1)), some (.int s3.2.1), some (.int s3.2.2.1), some (.int s3.2.2.2), some (.int (nI a)), some (.int (nI b)), some (.int 1), some (.int (nI c))] [] (zk_mk I' tg) P
                    have go : ∀ s4, s4 = zti f n a b c s3 → zk_R sc (d + 6) 170 91 [some (.ref (60 : Nat)), some (.int what), some (.int (nI s4.1)), some (.int s4.2.1), some (.int s4.2.2.1), some (.int s4.2.2.2), some (.int (nI a)), some (.int (nI b)), some (.int 1), some (.int (nI (c + 1)))] [] (zk_mk I' tg) P := by
                      intro s4 h4
                      refine ih3 s4 ⟨by omega, ?_⟩
                      rw [h4, j1]; rfl
                    rw [u170_91]
                    simp only [u170_0, u170_1, u170_2, u170_3, u170_6, u170_9, u170_11, u170_12, u170_13, u170_16, u170_17, u170_18, u170_19, u170_20, u170_21, u170_23, u170_24, u170_26, u170_27, u170_31, u170_32, u170_35, u170_38, u170_40, u170_41, u170_42, u170_46, u170_47, u170_50, u170_53, u170_55, u170_57, u170_58, u170_61, u170_62, u170_65, u170_67, u170_68, u170_69, u170_72, u170_74, u170_75, u170_78, u170_79, u170_82, u170_83, u170_85, u170_87, u170_88, u170_89, u170_93, u170_94, u170_97, u170_100, u170_102, u170_105, u170_107, u170_109, u170_111, u170_112, u170_113, u170_116, u170_117, u170_120, u170_122, u170_123, u170_124, u170_127, u170_129, u170_130, u170_133, u170_134, u170_137, u170_139, u170_142, u170_143, u170_144, u170_145, u170_148, u170_150, u170_153, u170_155, u170_157, u170_158, u170_161, u170_163, u170_166, u170_168, u170_170, u170_173, u170_176, u170_179, u170_182, u170_185, u170_188, u170_191, u170_192, u170_195, u170_196, u170_199, u170_200, u170_201, u170_204, u170_205, u170_208, u170_209, u170_210, u170_213, u170_215, u170_218, u170_220, zk_mk_1, zk_mk_I, zk_mk_R, zk_mk_set, zk_mk_setR, zk_mk_cpy, zk_rv_some, zk_rv_none, Option.toList_some, Option.toList_none, List.cons_append, List.nil_append, reduceIte, eq_self, Nat.reduceLT, Nat.reduceEqDiff, and_true, true_and, reduceCtorEq, zsh_60, zsh_78, zrf_60_31, s161, hn', eall, hcI c hc, hcI2 c hc, z1 a ha, z2 a ha, z1 c hc, z2 c hc, (h3 a ha).1, (h3 c hc).1, zq_and, zq_or, y1, y2, nI_1, show ((1 : Int32) = 0) = False from by decide]
                    by_cases m1 : c &&& (a ||| b) = 0
                    · rw [if_pos m1]
                      by_cases m2 : zsum f c n = zsum f a n
                      · rw [if_pos m2]
                        have h5 := go _ rfl
                        rw [zti_y ⟨by omega, (zle_dall hc).mpr m1, j0, m2⟩] at h5
                        by_cases m0 : s3.1 = 0
                        · simp only [m0, reduceIte] at h5 ⊢
                          exact h5
                        · simp only [m0, reduceIte] at h5 ⊢
                          exact h5
                      · rw [if_neg m2]
                        exact go s3 (zti_n (fun q => m2 q.2.2.2)).symm
                    · rw [if_neg m1]
                      exact go s3 (zti_n (fun q => m1 ((zle_dall hc).mp q.2.1))).symm)
                refine inn (b + 1) s2 hb ⟨Nat.lt_succ_self _, ?_⟩
                rw [zfor_low (fun x hx s => zti_n (fun q => by omega))]
              · rw [if_neg k2]
                exact skip (fun q => k2 q.2)
            · rw [if_neg k1]
              exact skip (fun q => k1 q.1))
        rw [u170_29]
        simp only [u170_0, u170_1, u170_2, u170_3, u170_6, u170_9, u170_11, u170_12, u170_13, u170_16, u170_17, u170_18, u170_19, u170_20, u170_21, u170_23, u170_24, u170_26, u170_27, u170_31, u170_32, u170_35, u170_38, u170_40, u170_41, u170_42, u170_46, u170_47, u170_50, u170_53, u170_55, u170_57, u170_58, u170_61, u170_62, u170_65, u170_67, u170_68, u170_69, u170_72, u170_74, u170_75, u170_78, u170_79, u170_82, u170_83, u170_85, u170_87, u170_88, u170_89, u170_93, u170_94, u170_97, u170_100, u170_102, u170_105, u170_107, u170_109, u170_111, u170_112, u170_113, u170_116, u170_117, u170_120, u170_122, u170_123, u170_124, u170_127, u170_129, u170_130, u170_133, u170_134, u170_137, u170_139, u170_142, u170_143, u170_144, u170_145, u170_148, u170_150, u170_153, u170_155, u170_157, u170_158, u170_161, u170_163, u170_166, u170_168, u170_170, u170_173, u170_176, u170_179, u170_182, u170_185, u170_188, u170_191, u170_192, u170_195, u170_196, u170_199, u170_200, u170_201, u170_204, u170_205, u170_208, u170_209, u170_210, u170_213, u170_215, u170_218, u170_220, zk_mk_1, zk_mk_I, zk_mk_R, zk_mk_set, zk_mk_setR, zk_mk_cpy, zk_rv_some, zk_rv_none, Option.toList_some, Option.toList_none, List.cons_append, List.nil_append, reduceIte, eq_self, Nat.reduceLT, Nat.reduceEqDiff, and_true, true_and, reduceCtorEq, zsh_60, s161, hn', eall, hcI a ha, hcI2 a ha, nI_1]
        refine mid (a + 1) (s, _, _) ha ⟨Nat.lt_succ_self _, ?_⟩
        show s = _
        rw [zfor_low (fun x hx s => ztm_n (fun q => by omega))])
    simp only [u170_0, u170_1, u170_2, u170_3, u170_6, u170_9, u170_11, u170_12, u170_13, u170_16, u170_17, u170_18, u170_19, u170_20, u170_21, u170_23, u170_24, u170_26, u170_27, u170_31, u170_32, u170_35, u170_38, u170_40, u170_41, u170_42, u170_46, u170_47, u170_50, u170_53, u170_55, u170_57, u170_58, u170_61, u170_62, u170_65, u170_67, u170_68, u170_69, u170_72, u170_74, u170_75, u170_78, u170_79, u170_82, u170_83, u170_85, u170_87, u170_88, u170_89, u170_93, u170_94, u170_97, u170_100, u170_102, u170_105, u170_107, u170_109, u170_111, u170_112, u170_113, u170_116, u170_117, u170_120, u170_122, u170_123, u170_124, u170_127, u170_129, u170_130, u170_133, u170_134, u170_137, u170_139, u170_142, u170_143, u170_144, u170_145, u170_148, u170_150, u170_153, u170_155, u170_157, u170_158, u170_161, u170_163, u170_166, u170_168, u170_170, u170_173, u170_176, u170_179, u170_182, u170_185, u170_188, u170_191, u170_192, u170_195, u170_196, u170_199, u170_200, u170_201, u170_204, u170_205, u170_208, u170_209, u170_210, u170_213, u170_215, u170_218, u170_220, zk_mk_1, zk_mk_I, zk_mk_R, zk_mk_set, zk_mk_setR, zk_mk_cpy, zk_rv_some, zk_rv_none, Option.toList_some, Option.toList_none, List.cons_append, List.nil_append, reduceIte, eq_self, Nat.reduceLT, Nat.reduceEqDiff, and_true, true_and, reduceCtorEq]
    refine outer 1 (((0, -1, -1, -1) : zT4), none, none, none) p10.1 ⟨Nat.le_refl _, ?_⟩
    exact (zto_n (f := f) (n := n) (s := ((0, -1, -1, -1) : zT4)) (a := 0) rfl).symm
  · rw [if_pos hw]
    rw [if_neg hw] at K
    exact K I (zF_refl I)
