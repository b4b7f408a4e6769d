/-! swap: the calls -/
theorem s25 {sc : zk_X} {d : Nat} {I : Nat → Nat → Int32} {tg : Option Nat} {P : Option Value → zk_M → Prop} {n t : Nat} {T e : Nat → Nat} {what : Int32} (hq : zj_q I n t T e)
    (K : ∀ I' : Nat → Nat → Int32, zF I I' → P (some (.int (zA_swap I n T e what))) (zk_mk I' tg)) : zk_R sc (d + 6) 25 0 [some (.ref (0 : Nat)), some (.int what)] [] (zk_mk I tg) P := by
  obtain ⟨b0, b1, b2, b3⟩ := zi_lit4
  obtain ⟨c0, c1, c2, c3⟩ := zi_cl4
  unfold zA_swap at K
  simp only [u25_0, u25_1, u25_4, u25_5, u25_6, u25_9, u25_11, u25_12, u25_13, u25_16, u25_17, u25_20, u25_21, u25_22, zk_mk_1, zk_mk_I, zk_mk_R, zk_mk_set, zk_mk_setR, zk_mk_cpy, zk_rv_some, zk_rv_none, Option.toList_some, Option.toList_none, List.cons_append, List.nil_append, reduceIte, eq_self, Nat.reduceLT, Nat.reduceEqDiff, and_true, true_and, reduceCtorEq, zsh_0]
  by_cases hw : 0 ≤ what ∧ what ≤ 1
  · rw [if_pos hw] at K
    rw [if_neg (Int32.not_lt.mpr hw.1), if_pos hw.2]
    refine s26 hq (fun I' h1 h2 h3 => ?_)
    have K2 := K I' h1
    simp only [u25_0, u25_1, u25_4, u25_5, u25_6, u25_9, u25_11, u25_12, u25_13, u25_16, u25_17, u25_20, u25_21, u25_22, zk_mk_1, zk_mk_I, zk_mk_R, zk_mk_set, zk_mk_setR, zk_mk_cpy, zk_rv_some, zk_rv_none, Option.toList_some, Option.toList_none, List.cons_append, List.nil_append, reduceIte, eq_self, Nat.reduceLT, Nat.reduceEqDiff, and_true, true_and, reduceCtorEq, zsh_0, zsh_27, zrf_0_9]
    rcases zw_01 hw with rfl | rfl
    · rw [c0, h2]; exact ⟨b0, K2⟩
    · rw [c1, h3]; exact ⟨b1, K2⟩
  · rw [if_neg hw] at K
    have K2 := K I (zF_refl I)
    split
    · exact K2
    · next h =>
      rw [if_neg (fun q => hw ⟨Int32.not_lt.mp h, q⟩)]
      exact K2
theorem s175 {sc : zk_X} {d : Nat} {I : Nat → Nat → Int32} {tg : Option Nat} {P : Option Value → zk_M → Prop} {n t : Nat} {T e : Nat → Nat} {what : Int32} (hq : zj_q I n t T e)
    (K : ∀ I' : Nat → Nat → Int32, zF I I' → P (some (.int (zA_swap I n T e what))) (zk_mk I' tg)) : zk_R sc (d + 6) 175 0 [some (.ref (60 : Nat)), some (.int what), none, none, none, none, none, none] [] (zk_mk I tg) P := by
  have hq0 := hq
  obtain ⟨hj, hl, hr, ht, hx⟩ := hq
  have h10 := hj.2.2.1
  unfold zA_swap at K
  simp only [u175_0, u175_1, u175_2, u175_3, u175_6, u175_9, u175_11, u175_12, u175_13, u175_16, u175_17, u175_18, u175_19, u175_22, u175_25, u175_26, u175_27, u175_31, u175_32, u175_35, u175_38, u175_39, u175_43, u175_44, u175_47, u175_50, u175_51, u175_54, u175_56, u175_57, u175_58, u175_61, u175_62, u175_65, u175_67, u175_68, u175_69, u175_72, u175_73, u175_75, u175_76, u175_79, u175_82, u175_83, u175_85, u175_86, u175_89, u175_92, u175_93, u175_96, u175_97, u175_99, u175_101, u175_104, u175_105, u175_107, u175_109, u175_112, u175_115, u175_116, u175_118, u175_120, u175_121, u175_124, u175_126, u175_128, u175_129, u175_131, u175_132, u175_135, u175_136, u175_137, u175_139, u175_140, u175_143, u175_145, u175_148, u175_149, u175_150, u175_153, u175_156, u175_159, u175_162, u175_163, u175_166, u175_167, u175_170, u175_171, zk_mk_1, zk_mk_I, zk_mk_R, zk_mk_set, zk_mk_setR, zk_mk_cpy, zk_rv_some, zk_rv_none, Option.toList_some, Option.toList_none, List.cons_append, List.nil_append, reduceIte, eq_self, Nat.reduceLT, Nat.reduceEqDiff, and_true, true_and, reduceCtorEq, zsh_60, s129, zb_z]
  by_cases hw : 0 ≤ what ∧ what ≤ 1
  · rw [if_neg (fun q => q hw)]
    rw [if_pos hw] at K
    refine s162 hj ht hr hx (fun I' h1 h2 h3 => ?_)
    have hj' := h1.tab hj
    have e5 : ∀ q, zv_lie I' n q = zv_lie I n q := fun q => by unfold zv_lie; rw [h1 5 rfl]
    simp only [u175_0, u175_1, u175_2, u175_3, u175_6, u175_9, u175_11, u175_12, u175_13, u175_16, u175_17, u175_18, u175_19, u175_22, u175_25, u175_26, u175_27, u175_31, u175_32, u175_35, u175_38, u175_39, u175_43, u175_44, u175_47, u175_50, u175_51, u175_54, u175_56, u175_57, u175_58, u175_61, u175_62, u175_65, u175_67, u175_68, u175_69, u175_72, u175_73, u175_75, u175_76, u175_79, u175_82, u175_83, u175_85, u175_86, u175_89, u175_92, u175_93, u175_96, u175_97, u175_99, u175_101, u175_104, u175_105, u175_107, u175_109, u175_112, u175_115, u175_116, u175_118, u175_120, u175_121, u175_124, u175_126, u175_128, u175_129, u175_131, u175_132, u175_135, u175_136, u175_137, u175_139, u175_140, u175_143, u175_145, u175_148, u175_149, u175_150, u175_153, u175_156, u175_159, u175_162, u175_163, u175_166, u175_167, u175_170, u175_171, zk_mk_1, zk_mk_I, zk_mk_R, zk_mk_set, zk_mk_setR, zk_mk_cpy, zk_rv_some, zk_rv_none, Option.toList_some, Option.toList_none, List.cons_append, List.nil_append, reduceIte, eq_self, Nat.reduceLT, Nat.reduceEqDiff, and_true, true_and, reduceCtorEq, zsh_60, s165 hj' h3, s172, e5]
    rw [show zsum (zv_now I n T e) (zv_lie I n 1) n - zsum (zv_now I n T e) (zv_lie I n 2) n = zA_apart I n T e from rfl]
    have enow : zaps (I 5) (fun c => zv_cnt I n T e c 1) (fun c => zv_cnt I n T e c 0) n = zA_apart I n T e := zaps_now.symm
    generalize zA_apart I n T e = now at *
    have loop := zl_up (τ := (Nat → Nat → Int32) × (Int32 × Int32) × Option Value × Option Value × Option Value) (fun c q => zk_R sc (d + 6) 175 29 [some (.ref (60 : Nat)), some (.int what), some (.int q.2.1.1), some (.int q.2.1.2), some (.int (nI c)), q.2.2.1, q.2.2.2.1, q.2.2.2.2] [] (zk_mk q.1 tg) P)
      (fun c q => zF I q.1 ∧ q.2.1 = zsw I (zv_both I n T e) now n c) n (by
        rintro ⟨I2, s, x, y, z⟩ ⟨g1, g2⟩
        have g2' : s = zsw I (zv_both I n T e) now n n := g2
        have hn2 : I2 60 0 = nI n := (g1.tab hj).2.1
        have K2 := K I2 g1
        rw [← g2'] at K2
        show zk_R sc (d + 6) 175 29 [some (.ref (60 : Nat)), some (.int what), some (.int s.1), some (.int s.2), some (.int (nI n)), x, y, z] [] (zk_mk I2 tg) P
        rw [u175_29]
        simp only [u175_0, u175_1, u175_2, u175_3, u175_6, u175_9, u175_11, u175_12, u175_13, u175_16, u175_17, u175_18, u175_19, u175_22, u175_25, u175_26, u175_27, u175_31, u175_32, u175_35, u175_38, u175_39, u175_43, u175_44, u175_47, u175_50, u175_51, u175_54, u175_56, u175_57, u175_58, u175_61, u175_62, u175_65, u175_67, u175_68, u175_69, u175_72, u175_73, u175_75, u175_76, u175_79, u175_82, u175_83, u175_85, u175_86, u175_89, u175_92, u175_93, u175_96, u175_97, u175_99, u175_101, u175_104, u175_105, u175_107, u175_109, u175_112, u175_115, u175_116, u175_118, u175_120, u175_121, u175_124, u175_126, u175_128, u175_129, u175_131, u175_132, u175_135, u175_136, u175_137, u175_139, u175_140, u175_143, u175_145, u175_148, u175_149, u175_150, u175_153, u175_156, u175_159, u175_162, u175_163, u175_166, u175_167, u175_170, u175_171, zk_mk_1, zk_mk_I, zk_mk_R, zk_mk_set, zk_mk_setR, zk_mk_cpy, zk_rv_some, zk_rv_none, Option.toList_some, Option.toList_none, List.cons_append, List.nil_append, reduceIte, eq_self, Nat.reduceLT, Nat.reduceEqDiff, and_true, true_and, reduceCtorEq, zsh_60, hn2]
        rw [if_pos (nI_le (Nat.le_refl _) (by omega))]
        by_cases w0 : what = 0
        · rw [if_pos w0] at K2 ⊢; exact K2
        · rw [if_neg w0] at K2 ⊢; exact K2) (by
        rintro c ⟨I2, s, x, y, z⟩ hc ⟨g1, g2⟩ ih
        have g2' : s = zsw I (zv_both I n T e) now n c := g2
        have hn2 : I2 60 0 = nI n := (g1.tab hj).2.1
        have inner := zl_up (τ := (Nat → Nat → Int32) × (Int32 × Int32) × Option Value × Option Value) (fun k q => zk_R sc (d + 6) 175 41 [some (.ref (60 : Nat)), some (.int what), some (.int q.2.1.1), some (.int q.2.1.2), some (.int (nI c)), some (.int (nI k)), q.2.2.1, q.2.2.2] [] (zk_mk q.1 tg) P)
          (fun k q => zF I q.1 ∧ q.2.1 = zfor (zswi I (zv_both I n T e) now c) s k) n (by
            rintro ⟨I3, s2, x, y⟩ ⟨k1, k2⟩
            have k2' : s2 = zfor (zswi I (zv_both I n T e) now c) s n := k2
            have hn3 : I3 60 0 = nI n := (k1.tab hj).2.1
            show zk_R sc (d + 6) 175 41 [some (.ref (60 : Nat)), some (.int what), some (.int s2.1), some (.int s2.2), some (.int (nI c)), some (.int (nI n)), x, y] [] (zk_mk I3 tg) P
            rw [u175_41]
            simp only [u175_0, u175_1, u175_2, u175_3, u175_6, u175_9, u175_11, u175_12, u175_13, u175_16, u175_17, u175_18, u175_19, u175_22, u175_25, u175_26, u175_27, u175_31, u175_32, u175_35, u175_38, u175_39, u175_43, u175_44, u175_47, u175_50, u175_51, u175_54, u175_56, u175_57, u175_58, u175_61, u175_62, u175_65, u175_67, u175_68, u175_69, u175_72, u175_73, u175_75, u175_76, u175_79, u175_82, u175_83, u175_85, u175_86, u175_89, u175_92, u175_93, u175_96, u175_97, u175_99, u175_101, u175_104, u175_105, u175_107, u175_109, u175_112, u175_115, u175_116, u175_118, u175_120, u175_121, u175_124, u175_126, u175_128, u175_129, u175_131, u175_132, u175_135, u175_136, u175_137, u175_139, u175_140, u175_143, u175_145, u175_148, u175_149, u175_150, u175_153, u175_156, u175_159, u175_162, u175_163, u175_166, u175_167, u175_170, u175_171, zk_mk_1, zk_mk_I, zk_mk_R, zk_mk_set, zk_mk_setR, zk_mk_cpy, zk_rv_some, zk_rv_none, Option.toList_some, Option.toList_none, List.cons_append, List.nil_append, reduceIte, eq_self, Nat.reduceLT, Nat.reduceEqDiff, and_true, true_and, reduceCtorEq, zsh_60, hn3, nI_1]
            rw [if_pos (nI_le (Nat.le_refl _) (by omega))]
            refine ih (I3, s2, _, _, _) ⟨k1, ?_⟩
            show s2 = zswo I (zv_both I n T e) now n c (zsw I (zv_both I n T e) now n c)
            rw [k2', g2']; rfl) (by
            rintro k ⟨I3, s2, x, y⟩ hk ⟨k1, k2⟩ ih2
            have k2' : s2 = zfor (zswi I (zv_both I n T e) now c) s k := k2
            have k1 : zF I I3 := k1
            have hj3 := k1.tab hj
            have hn3 : I3 60 0 = nI n := hj3.2.1
            have hr3 : I3 60 10 = nI t := by rw [k1 60 rfl]; exact hr
            have z1 : zk_inb (nI c) 10 = true := by rw [zn_in (by omega)]; omega
            have z2 : (nI c).toNatClampNeg = c := zn_cl (by omega)
            have z3 : zk_inb (nI k) 10 = true := by rw [zn_in (by omega)]; omega
            have z4 : (nI k).toNatClampNeg = k := zn_cl (by omega)
            have m5 : I3 64 c = I 5 c := by rw [zj_side hj3 hc, k1 5 rfl]
            have m6 : I3 64 k = I 5 k := by rw [zj_side hj3 hk, k1 5 rfl]
            obtain ⟨⟨a1, -, a3, -⟩, -⟩ := hj3.2.2.2 c hc
            obtain ⟨⟨b1, -, b3, -⟩, -⟩ := hj3.2.2.2 k hk
            have a1' : I3 61 c = I 2 c := by rw [a1, k1 2 rfl]
            have a3' : I3 63 c = I 4 c := by rw [a3, k1 4 rfl]
            have b1' : I3 61 k = I 2 k := by rw [b1, k1 2 rfl]
            have b3' : I3 63 k = I 4 k := by rw [b3, k1 4 rfl]
            have go : ∀ I4 s4 x y, zF I I4 → s4 = zswi I (zv_both I n T e) now c k s2 → zk_R sc (d + 6) 175 41 [some (.ref (60 : Nat)), some (.int what), some (.int s4.1), some (.int s4.2), some (.int (nI c)), some (.int (nI (k + 1))), x, y] [] (zk_mk I4 tg) P := by
              intro I4 s4 x y m1 m2
              refine ih2 (I4, s4, x, y) ⟨m1, ?_⟩
              show s4 = zswi I (zv_both I n T e) now c k (zfor (zswi I (zv_both I n T e) now c) s k)
              rw [← k2']; exact m2
            show zk_R sc (d + 6) 175 41 [some (.ref (60 : Nat)), some (.int what), some (.int s2.1), some (.int s2.2), some (.int (nI c)), some (.int (nI k)), x, y] [] (zk_mk I3 tg) P
            rw [u175_41]
            simp only [u175_0, u175_1, u175_2, u175_3, u175_6, u175_9, u175_11, u175_12, u175_13, u175_16, u175_17, u175_18, u175_19, u175_22, u175_25, u175_26, u175_27, u175_31, u175_32, u175_35, u175_38, u175_39, u175_43, u175_44, u175_47, u175_50, u175_51, u175_54, u175_56, u175_57, u175_58, u175_61, u175_62, u175_65, u175_67, u175_68, u175_69, u175_72, u175_73, u175_75, u175_76, u175_79, u175_82, u175_83, u175_85, u175_86, u175_89, u175_92, u175_93, u175_96, u175_97, u175_99, u175_101, u175_104, u175_105, u175_107, u175_109, u175_112, u175_115, u175_116, u175_118, u175_120, u175_121, u175_124, u175_126, u175_128, u175_129, u175_131, u175_132, u175_135, u175_136, u175_137, u175_139, u175_140, u175_143, u175_145, u175_148, u175_149, u175_150, u175_153, u175_156, u175_159, u175_162, u175_163, u175_166, u175_167, u175_170, u175_171, zk_mk_1, zk_mk_I, zk_mk_R, zk_mk_set, zk_mk_setR, zk_mk_cpy, zk_rv_some, zk_rv_none, Option.toList_some, Option.toList_none, List.cons_append, List.nil_append, reduceIte, eq_self, Nat.reduceLT, Nat.reduceEqDiff, and_true, true_and, reduceCtorEq, zsh_60, zsh_64, zrf_60_4, hn3, z1, z2, z3, z4, m5, m6, s153 (show c < 10 by omega), s153 (show k < 10 by omega), a1', a3', b1', b3', zb_z, show ((1 : Int32) = 0) = False from by decide, Int32.lt_irrefl, Int32.le_refl, nI_1]
            rw [if_neg (nI_ge hk (by omega))]
            have no : zcan I c k = false → ∀ x y, zk_R sc (d + 6) 175 41 [some (.ref (60 : Nat)), some (.int what), some (.int s2.1), some (.int s2.2), some (.int (nI c)), some (.int (nI (k + 1))), x, y] [] (zk_mk I3 tg) P := by
              intro hq x y
              exact go I3 s2 x y k1 (zswi_n (fun q => by rw [hq] at q; cases q.1)).symm
            by_cases p1 : I 5 c = 1
            · rw [if_pos p1]
              by_cases p2 : I 5 k = 2
              · rw [if_pos p2]
                by_cases p3 : zw_sides (I 2 c) (I 4 c) &&& 2 = 0
                · rw [if_pos (fun q => q p3)]
                  exact no (by unfold zcan; simp [p3]) _ _
                · rw [if_neg (fun q => q p3)]
                  by_cases p4 : zw_sides (I 2 k) (I 4 k) &&& 1 = 0
                  · rw [if_pos (fun q => q p4)]
                    exact no (by unfold zcan; simp [p4]) _ _
                  · rw [if_neg (fun q => q p4)]
                    have hcan : zcan I c k = true := by unfold zcan; simp [p1, p2, p3, p4]
                    refine s176 hj3 ht hr3 (k1.text ht hx) hc hk (by rw [k1 5 rfl]; exact p1) (by rw [k1 5 rfl]; exact p2) (fun I4 q1 => ?_)
                    have f1 : (fun c => zv_cnt I3 n T e c 1) = fun c => zv_cnt I n T e c 1 := funext (fun c => k1.cnt)
                    have f0 : (fun c => zv_cnt I3 n T e c 0) = fun c => zv_cnt I n T e c 0 := funext (fun c => k1.cnt)
                    rw [f1, f0, k1 5 rfl, enow, k1.cnt, k1.cnt, k1.cnt, k1.cnt]
                    rw [show zw_far (now - (zv_cnt I n T e c 1 + zv_cnt I n T e c 0) + (zv_cnt I n T e k 1 + zv_cnt I n T e k 0)) = zswv (zv_both I n T e) now c k from rfl]
                    have ei : (10 : Int32) * nI c + nI k = nI (10 * c + k) := by rw [show (10 : Int32) = nI 10 from rfl, zn_mul, zn_add]
                    simp only [u175_0, u175_1, u175_2, u175_3, u175_6, u175_9, u175_11, u175_12, u175_13, u175_16, u175_17, u175_18, u175_19, u175_22, u175_25, u175_26, u175_27, u175_31, u175_32, u175_35, u175_38, u175_39, u175_43, u175_44, u175_47, u175_50, u175_51, u175_54, u175_56, u175_57, u175_58, u175_61, u175_62, u175_65, u175_67, u175_68, u175_69, u175_72, u175_73, u175_75, u175_76, u175_79, u175_82, u175_83, u175_85, u175_86, u175_89, u175_92, u175_93, u175_96, u175_97, u175_99, u175_101, u175_104, u175_105, u175_107, u175_109, u175_112, u175_115, u175_116, u175_118, u175_120, u175_121, u175_124, u175_126, u175_128, u175_129, u175_131, u175_132, u175_135, u175_136, u175_137, u175_139, u175_140, u175_143, u175_145, u175_148, u175_149, u175_150, u175_153, u175_156, u175_159, u175_162, u175_163, u175_166, u175_167, u175_170, u175_171, zk_mk_1, zk_mk_I, zk_mk_R, zk_mk_set, zk_mk_setR, zk_mk_cpy, zk_rv_some, zk_rv_none, Option.toList_some, Option.toList_none, List.cons_append, List.nil_append, reduceIte, eq_self, Nat.reduceLT, Nat.reduceEqDiff, and_true, true_and, reduceCtorEq, ei, nI_1]
                    by_cases m3 : zswv (zv_both I n T e) now c k < s2.2
                    · have m3' : ¬ s2.2 ≤ zswv (zv_both I n T e) now c k := Int32.not_le.mpr m3
                      have := fun x y => go I4 _ x y (k1.trans q1.F) (zswi_y ⟨hcan, m3⟩).symm
                      simp only [m3, m3', reduceIte]
                      exact this _ _
                    · have m3' : s2.2 ≤ zswv (zv_both I n T e) now c k := Int32.not_lt.mp m3
                      have := fun x y => go I4 _ x y (k1.trans q1.F) (zswi_n (fun q => m3 q.2)).symm
                      simp only [m3, m3', reduceIte]
                      exact this _ _
              · rw [if_neg p2]
                exact no (by unfold zcan; simp [p2]) _ _
            · rw [if_neg p1]
              exact no (by unfold zcan; simp [p1]) _ _)
        show zk_R sc (d + 6) 175 29 [some (.ref (60 : Nat)), some (.int what), some (.int s.1), some (.int s.2), some (.int (nI c)), x, y, z] [] (zk_mk I2 tg) P
        rw [u175_29]
        simp only [u175_0, u175_1, u175_2, u175_3, u175_6, u175_9, u175_11, u175_12, u175_13, u175_16, u175_17, u175_18, u175_19, u175_22, u175_25, u175_26, u175_27, u175_31, u175_32, u175_35, u175_38, u175_39, u175_43, u175_44, u175_47, u175_50, u175_51, u175_54, u175_56, u175_57, u175_58, u175_61, u175_62, u175_65, u175_67, u175_68, u175_69, u175_72, u175_73, u175_75, u175_76, u175_79, u175_82, u175_83, u175_85, u175_86, u175_89, u175_92, u175_93, u175_96, u175_97, u175_99, u175_101, u175_104, u175_105, u175_107, u175_109, u175_112, u175_115, u175_116, u175_118, u175_120, u175_121, u175_124, u175_126, u175_128, u175_129, u175_131, u175_132, u175_135, u175_136, u175_137, u175_139, u175_140, u175_143, u175_145, u175_148, u175_149, u175_150, u175_153, u175_156, u175_159, u175_162, u175_163, u175_166, u175_167, u175_170, u175_171, zk_mk_1, zk_mk_I, zk_mk_R, zk_mk_set, zk_mk_setR, zk_mk_cpy, zk_rv_some, zk_rv_none, Option.toList_some, Option.toList_none, List.cons_append, List.nil_append, reduceIte, eq_self, Nat.reduceLT, Nat.reduceEqDiff, and_true, true_and, reduceCtorEq, zsh_60, hn2]
        rw [if_neg (nI_ge hc (by omega))]
        exact inner 0 (I2, s, _, _) (Nat.zero_le _) ⟨g1, rfl⟩)
    exact loop 0 (I', (-1, zw_far now), none, none, none) (Nat.zero_le _) ⟨h1, rfl⟩
  · rw [if_pos hw]
    rw [if_neg hw] at K
    exact K I (zF_refl I)
