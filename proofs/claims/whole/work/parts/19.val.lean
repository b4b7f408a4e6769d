/-! the value of a part of a text, by both -/
theorem zx_28 {t : Nat} (h : t < 6) : zk_sh (28 + 4 * t) = (0, 5, 4) := by match t, h with | 0, _ => rfl | 1, _ => rfl | 2, _ => rfl | 3, _ => rfl | 4, _ => rfl | 5, _ => rfl
theorem zx_29 {t : Nat} (h : t < 6) : zk_sh (29 + 4 * t) = (1, 160, 0) := by match t, h with | 0, _ => rfl | 1, _ => rfl | 2, _ => rfl | 3, _ => rfl | 4, _ => rfl | 5, _ => rfl
theorem zx_30 {t : Nat} (h : t < 6) : zk_sh (30 + 4 * t) = (1, 3, 0) := by match t, h with | 0, _ => rfl | 1, _ => rfl | 2, _ => rfl | 3, _ => rfl | 4, _ => rfl | 5, _ => rfl
theorem zx_31 {t : Nat} (h : t < 6) : zk_sh (31 + 4 * t) = (1, 40, 0) := by match t, h with | 0, _ => rfl | 1, _ => rfl | 2, _ => rfl | 3, _ => rfl | 4, _ => rfl | 5, _ => rfl
theorem zx_r0 {t : Nat} (h : t < 6) (tg : Option Nat) : zk_rf tg (28 + 4 * t) 0 = some (29 + 4 * t) := by match t, h with | 0, _ => cases tg <;> rfl | 1, _ => cases tg <;> rfl | 2, _ => cases tg <;> rfl | 3, _ => cases tg <;> rfl | 4, _ => cases tg <;> rfl | 5, _ => cases tg <;> rfl
theorem zx_r1 {t : Nat} (h : t < 6) (tg : Option Nat) : zk_rf tg (28 + 4 * t) 1 = some (30 + 4 * t) := by match t, h with | 0, _ => cases tg <;> rfl | 1, _ => cases tg <;> rfl | 2, _ => cases tg <;> rfl | 3, _ => cases tg <;> rfl | 4, _ => cases tg <;> rfl | 5, _ => cases tg <;> rfl
theorem zx_r2 {t : Nat} (h : t < 6) (tg : Option Nat) : zk_rf tg (28 + 4 * t) 2 = some (31 + 4 * t) := by match t, h with | 0, _ => cases tg <;> rfl | 1, _ => cases tg <;> rfl | 2, _ => cases tg <;> rfl | 3, _ => cases tg <;> rfl | 4, _ => cases tg <;> rfl | 5, _ => cases tg <;> rfl
theorem zx_13 {t : Nat} (h : t < 6) (tg : Option Nat) : zk_rf tg 13 t = some (28 + 4 * t) := by match t, h with | 0, _ => cases tg <;> rfl | 1, _ => cases tg <;> rfl | 2, _ => cases tg <;> rfl | 3, _ => cases tg <;> rfl | 4, _ => cases tg <;> rfl | 5, _ => cases tg <;> rfl
theorem zx_83 {t : Nat} (h : t < 6) : (28 + 4 * t < 83) = True ∧ (29 + 4 * t < 83) = True ∧ (30 + 4 * t < 83) = True ∧ (31 + 4 * t < 83) = True := by
  refine ⟨?_, ?_, ?_, ?_⟩ <;> (apply eq_true; omega)
theorem zt_upk {f : Nat → Int32} {a : Nat} {v : Int32} : zt_up f a v a = v := by simp [zt_up]
theorem zt_upn {f : Nat → Int32} {a b : Nat} {v : Int32} (h : b ≠ a) : zt_up f a v b = f b := by simp [zt_up, h]
/-- a write above keeps two stacks alike -/
theorem zt_like {A S : Nat → Int32} {n m a : Nat} {v w : Int32} (h : ∀ j, j < n → A j = S j) (hv : v = w) (hm : ∀ j, j < m → j ≠ a → j < n) : ∀ j, j < m → (if j = a then v else A j) = zt_up S a w j := by
  intro j hj
  unfold zt_up
  by_cases hja : j = a
  · rw [if_pos hja, if_pos hja, hv]
  · rw [if_neg hja, if_neg hja, h j (hm j hj hja)]
theorem zk_up2_at {I : Nat → Nat → Int32} {k j : Nat} {v : Int32} : zk_up2 I k j v k = fun b => if b = j then v else I k b := by funext b; simp [zk_up2]
theorem zt_c1 {t : Nat} (h : t < 10000) : zt_c t = nI t := by unfold zt_c; rw [if_pos h]
theorem zt_lit6 {t : Nat} (h : t < 10000) : ¬ nI t < -6 := by
  intro q
  have := Int32.lt_iff_toInt_lt.mp q
  rw [nI_toInt (by omega)] at this
  have e : (-6 : Int32).toInt = -6 := by decide
  omega
theorem zt_lit0 {t : Nat} (h : t < 2147483648) : ¬ nI t < 0 := fun q => nI_pos h q
theorem zj1_l6 : ((-1 : Int32) < -6) = False := by decide
theorem zj1_l11 : ((-1 : Int32) < -11) = False := by decide
theorem zj1_e10 : ((-1 : Int32) = -10) = False := by decide
theorem zj1_l0 : ((-1 : Int32) < 0) = True := by decide
theorem zj2_l6 : ((-2 : Int32) < -6) = False := by decide
theorem zj2_l11 : ((-2 : Int32) < -11) = False := by decide
theorem zj2_e10 : ((-2 : Int32) = -10) = False := by decide
theorem zj2_l0 : ((-2 : Int32) < 0) = True := by decide
theorem zj3_l6 : ((-3 : Int32) < -6) = False := by decide
theorem zj3_l11 : ((-3 : Int32) < -11) = False := by decide
theorem zj3_e10 : ((-3 : Int32) = -10) = False := by decide
theorem zj3_l0 : ((-3 : Int32) < 0) = True := by decide
theorem zj4_l6 : ((-4 : Int32) < -6) = False := by decide
theorem zj4_l11 : ((-4 : Int32) < -11) = False := by decide
theorem zj4_e10 : ((-4 : Int32) = -10) = False := by decide
theorem zj4_l0 : ((-4 : Int32) < 0) = True := by decide
theorem zj5_l6 : ((-5 : Int32) < -6) = False := by decide
theorem zj5_l11 : ((-5 : Int32) < -11) = False := by decide
theorem zj5_e10 : ((-5 : Int32) = -10) = False := by decide
theorem zj5_l0 : ((-5 : Int32) < 0) = True := by decide
theorem zj6_l6 : ((-6 : Int32) < -6) = False := by decide
theorem zj6_l11 : ((-6 : Int32) < -11) = False := by decide
theorem zj6_e10 : ((-6 : Int32) = -10) = False := by decide
theorem zj6_l0 : ((-6 : Int32) < 0) = True := by decide
theorem zj18_l6 : ((-18 : Int32) < -6) = True := by decide
theorem zj18_l11 : ((-18 : Int32) < -11) = True := by decide
theorem zj18_e10 : ((-18 : Int32) = -10) = False := by decide
theorem zj18_l0 : ((-18 : Int32) < 0) = True := by decide
theorem zj17_l6 : ((-17 : Int32) < -6) = True := by decide
theorem zj17_l11 : ((-17 : Int32) < -11) = True := by decide
theorem zj17_e10 : ((-17 : Int32) = -10) = False := by decide
theorem zj17_l0 : ((-17 : Int32) < 0) = True := by decide
theorem zj16_l6 : ((-16 : Int32) < -6) = True := by decide
theorem zj16_l11 : ((-16 : Int32) < -11) = True := by decide
theorem zj16_e10 : ((-16 : Int32) = -10) = False := by decide
theorem zj16_l0 : ((-16 : Int32) < 0) = True := by decide
theorem zj15_l6 : ((-15 : Int32) < -6) = True := by decide
theorem zj15_l11 : ((-15 : Int32) < -11) = True := by decide
theorem zj15_e10 : ((-15 : Int32) = -10) = False := by decide
theorem zj15_l0 : ((-15 : Int32) < 0) = True := by decide
theorem zj14_l6 : ((-14 : Int32) < -6) = True := by decide
theorem zj14_l11 : ((-14 : Int32) < -11) = True := by decide
theorem zj14_e10 : ((-14 : Int32) = -10) = False := by decide
theorem zj14_l0 : ((-14 : Int32) < 0) = True := by decide
theorem zj13_l6 : ((-13 : Int32) < -6) = True := by decide
theorem zj13_l11 : ((-13 : Int32) < -11) = True := by decide
theorem zj13_e10 : ((-13 : Int32) = -10) = False := by decide
theorem zj13_l0 : ((-13 : Int32) < 0) = True := by decide
theorem zj12_l6 : ((-12 : Int32) < -6) = True := by decide
theorem zj12_l11 : ((-12 : Int32) < -11) = True := by decide
theorem zj12_e10 : ((-12 : Int32) = -10) = False := by decide
theorem zj12_l0 : ((-12 : Int32) < 0) = True := by decide
theorem zj11_l6 : ((-11 : Int32) < -6) = True := by decide
theorem zj11_l11 : ((-11 : Int32) < -11) = False := by decide
theorem zj11_e10 : ((-11 : Int32) = -10) = False := by decide
theorem zj11_l0 : ((-11 : Int32) < 0) = True := by decide
theorem zj10_l6 : ((-10 : Int32) < -6) = True := by decide
theorem zj10_l11 : ((-10 : Int32) < -11) = False := by decide
theorem zj10_e10 : ((-10 : Int32) = -10) = True := by decide
theorem zj10_l0 : ((-10 : Int32) < 0) = True := by decide
theorem s124 {sc : zk_X} {d : Nat} {I : Nat → Nat → Int32} {tg : Option Nat} {P : Option Value → zk_M → Prop} {t a k part : Nat} {T : Nat → Nat} (ht : t < 6) (hp : part < 3) (hst : if part = 0 then a = 0 else I (30 + 4 * t) (part - 1) = nI a) (hend : I (30 + 4 * t) part = nI (a + k)) (h160 : a + k ≤ 160) (hT : ∀ i, i < k → I (29 + 4 * t) (a + i) = zt_c (T (a + i))) (hwf : zt_wf T a k)
    (K : ∀ I' : Nat → Nat → Int32, (∀ j, j ≠ 31 + 4 * t → I' j = I j) → P (some (.int (zt_val (I 14) T a k))) (zk_mk I' tg)) : zk_R sc (d + 1) 124 0 [some (.ref (28 + 4 * t)), some (.int (nI part)), some (.ref (14 : Nat)), none, none, none] [] (zk_mk I tg) P := by
  obtain ⟨w1, w2, w3, w4⟩ := zx_83 ht
  have loop := zl_up (τ := (Nat → Nat → Int32) × Option Value) (fun i q => zk_R sc (d + 1) 124 20 [some (.ref (28 + 4 * t)), some (.int (nI part)), some (.ref (14 : Nat)), some (.int (nI (zt_run (I 14) T a i).1)), some (.int (nI (a + i))), q.2] [] (zk_mk q.1 tg) P)
    (fun i q => (∀ j, j ≠ 31 + 4 * t → q.1 j = I j) ∧ ∀ j, j < (zt_run (I 14) T a i).1 → q.1 (31 + 4 * t) j = (zt_run (I 14) T a i).2 j) k (by
      rintro ⟨I', x⟩ ⟨h1, h2⟩
      show zk_R sc (d + 1) 124 20 [some (.ref (28 + 4 * t)), some (.int (nI part)), some (.ref (14 : Nat)), some (.int (nI (zt_run (I 14) T a k).1)), some (.int (nI (a + k))), x] [] (zk_mk I' tg) P
      have e30 : I' (30 + 4 * t) = I (30 + 4 * t) := h1 _ (by omega)
      rw [u124_20]
      simp only [u124_0, u124_1, u124_2, u124_3, u124_6, u124_7, u124_10, u124_11, u124_14, u124_15, u124_16, u124_17, u124_18, u124_22, u124_23, u124_26, u124_27, u124_28, u124_31, u124_32, u124_35, u124_37, u124_38, u124_40, u124_42, u124_44, u124_47, u124_48, u124_50, u124_53, u124_54, u124_57, u124_58, u124_60, u124_63, u124_65, u124_68, u124_69, u124_70, u124_72, u124_73, u124_74, u124_75, u124_78, u124_81, u124_83, u124_85, u124_88, u124_89, u124_90, u124_93, u124_94, u124_97, u124_98, u124_99, u124_100, u124_102, u124_104, u124_107, u124_108, u124_111, u124_112, u124_113, u124_114, u124_115, u124_116, u124_119, u124_120, u124_123, u124_124, u124_125, u124_126, u124_127, u124_130, u124_131, u124_134, u124_135, u124_136, u124_139, u124_140, u124_141, u124_144, u124_147, u124_148, u124_151, u124_152, u124_153, u124_154, u124_156, u124_157, u124_160, u124_161, u124_162, u124_163, u124_164, u124_165, u124_168, u124_169, u124_170, u124_173, u124_174, u124_177, u124_180, u124_181, u124_184, u124_185, u124_186, zk_mk_1, zk_mk_I, zk_mk_R, zk_mk_set, zk_mk_setR, zk_mk_cpy, zk_rv_some, zk_rv_none, Option.toList_some, Option.toList_none, List.cons_append, List.nil_append, reduceIte, eq_self, Nat.reduceLT, Nat.reduceEqDiff, and_true, true_and, reduceCtorEq, zx_28 ht, zx_29 ht, zx_30 ht, zx_31 ht, zx_r0 ht, zx_r1 ht, zx_r2 ht, w1, w2, w3, w4, e30]
      simp (disch := omega) only [zn_in, zn_cl, hend]
      refine ⟨hp, ?_⟩
      rw [if_pos (nI_le (Nat.le_refl _) (by omega))]
      refine ⟨by decide, ?_⟩
      have e0 : I' (31 + 4 * t) (0 : Int32).toNatClampNeg = zt_val (I 14) T a k := by
        have := hwf.2
        exact h2 0 (by rw [zt_run1]; omega)
      rw [e0]
      exact K I' h1) (by
      rintro i ⟨I', x⟩ hi ⟨h1, h2⟩ ih
      show zk_R sc (d + 1) 124 20 [some (.ref (28 + 4 * t)), some (.int (nI part)), some (.ref (14 : Nat)), some (.int (nI (zt_run (I 14) T a i).1)), some (.int (nI (a + i))), x] [] (zk_mk I' tg) P
      have e30 : I' (30 + 4 * t) = I (30 + 4 * t) := h1 _ (by omega)
      have e29 : I' (29 + 4 * t) = I (29 + 4 * t) := h1 _ (by omega)
      have e14 : I' 14 = I 14 := h1 _ (by omega)
      have hok := hwf.1 i hi
      have hd40 := zt_dp40 hwf.1 i (by omega)
      rw [← zt_run1 (I 14) T a i] at hok hd40
      have hstep := hT i hi
      have hcs := zt_cases hok
      have hrun : zt_run (I 14) T a (i + 1) = zt_st (I 14) (T (a + i)) (zt_run (I 14) T a i) := rfl
      generalize zt_run (I 14) T a i = q at *
      obtain ⟨top, S⟩ := q
      have ih2 : ∀ (nt : Nat) (nS : Nat → Int32), zt_run (I 14) T a (i + 1) = (nt, nS) → ∀ (I2 : Nat → Nat → Int32) (y : Option Value), (∀ j, j ≠ 31 + 4 * t → I2 j = I j) → (∀ j, j < nt → I2 (31 + 4 * t) j = nS j) → zk_R sc (d + 1) 124 20 [some (.ref (28 + 4 * t)), some (.int (nI part)), some (.ref (14 : Nat)), some (.int (nI nt)), some (.int (nI (a + i + 1))), y] [] (zk_mk I2 tg) P := by
        intro nt nS e I2 y g1 g2
        have := ih (I2, y) ⟨g1, by rw [e]; exact g2⟩
        rw [e] at this
        exact this
      have fr : ∀ (x : Nat) (v : Int32), ∀ j, j ≠ 31 + 4 * t → zk_up2 I' (31 + 4 * t) x v j = I j := fun x v j hj => by rw [zk_up2_r hj]; exact h1 j hj
      generalize T (a + i) = v at *
      have z1 : (nI (a + i)).toNatClampNeg = a + i := zn_cl (by omega)
      have z2 : zk_inb (nI (a + i)) 160 = true := by rw [zn_in (by omega)]; omega
      have z3 : zk_inb (nI part) 3 = true := by rw [zn_in (by omega)]; omega
      have z4 : (nI part).toNatClampNeg = part := zn_cl (by omega)
      have z5 : ¬ nI (a + k) ≤ nI (a + i) := nI_ge (by omega) (by omega)
      unfold zt_ok at hok
      have h2' : ∀ j, j < top → I' (31 + 4 * t) j = S j := h2
      have hok' : (v < 10006 ∧ top < 40) ∨ ((v = 10010 ∨ v = 10011) ∧ 1 ≤ top) ∨ (10012 ≤ v ∧ v < 10019 ∧ 2 ≤ top) := hok
      have hd40' : top ≤ 40 := hd40
      rw [u124_20]
      rcases hcs with h | h | h | h | h | h | h | h | h | h | h
      · rw [zt_c1 h] at hstep
        simp only [u124_0, u124_1, u124_2, u124_3, u124_6, u124_7, u124_10, u124_11, u124_14, u124_15, u124_16, u124_17, u124_18, u124_22, u124_23, u124_26, u124_27, u124_28, u124_31, u124_32, u124_35, u124_37, u124_38, u124_40, u124_42, u124_44, u124_47, u124_48, u124_50, u124_53, u124_54, u124_57, u124_58, u124_60, u124_63, u124_65, u124_68, u124_69, u124_70, u124_72, u124_73, u124_74, u124_75, u124_78, u124_81, u124_83, u124_85, u124_88, u124_89, u124_90, u124_93, u124_94, u124_97, u124_98, u124_99, u124_100, u124_102, u124_104, u124_107, u124_108, u124_111, u124_112, u124_113, u124_114, u124_115, u124_116, u124_119, u124_120, u124_123, u124_124, u124_125, u124_126, u124_127, u124_130, u124_131, u124_134, u124_135, u124_136, u124_139, u124_140, u124_141, u124_144, u124_147, u124_148, u124_151, u124_152, u124_153, u124_154, u124_156, u124_157, u124_160, u124_161, u124_162, u124_163, u124_164, u124_165, u124_168, u124_169, u124_170, u124_173, u124_174, u124_177, u124_180, u124_181, u124_184, u124_185, u124_186, zk_mk_1, zk_mk_I, zk_mk_R, zk_mk_set, zk_mk_setR, zk_mk_cpy, zk_rv_some, zk_rv_none, Option.toList_some, Option.toList_none, List.cons_append, List.nil_append, reduceIte, eq_self, Nat.reduceLT, Nat.reduceEqDiff, and_true, true_and, reduceCtorEq, zx_28 ht, zx_29 ht, zx_30 ht, zx_31 ht, zx_r0 ht, zx_r1 ht, zx_r2 ht, w1, w2, w3, w4, e30, e29, e14, zsh_14, z1, z2, z3, z4, hend, z5, hstep, zt_lit6 h, zt_lit0 (show v < 2147483648 by omega)]
        rw [if_neg (show ¬ (40 : Int32) ≤ nI top from nI_ge (b := 40) (by omega) (by decide))]
        simp (disch := omega) only [zn_in, zn_cl, nI_1]
        refine ⟨by omega, ?_⟩
        exact ih2 (top + 1) _ (by rw [hrun, zt_st, if_pos h]) _ _ (fr _ _) (by rw [zk_up2_at]; exact zt_like h2' rfl (by omega))
      · rcases (show v = 10000 ∨ v = 10001 ∨ v = 10002 ∨ v = 10003 ∨ v = 10004 ∨ v = 10005 by omega) with rfl | rfl | rfl | rfl | rfl | rfl
        · replace hstep := hstep.trans (show zt_c 10000 = -1 from by decide)
          simp only [u124_0, u124_1, u124_2, u124_3, u124_6, u124_7, u124_10, u124_11, u124_14, u124_15, u124_16, u124_17, u124_18, u124_22, u124_23, u124_26, u124_27, u124_28, u124_31, u124_32, u124_35, u124_37, u124_38, u124_40, u124_42, u124_44, u124_47, u124_48, u124_50, u124_53, u124_54, u124_57, u124_58, u124_60, u124_63, u124_65, u124_68, u124_69, u124_70, u124_72, u124_73, u124_74, u124_75, u124_78, u124_81, u124_83, u124_85, u124_88, u124_89, u124_90, u124_93, u124_94, u124_97, u124_98, u124_99, u124_100, u124_102, u124_104, u124_107, u124_108, u124_111, u124_112, u124_113, u124_114, u124_115, u124_116, u124_119, u124_120, u124_123, u124_124, u124_125, u124_126, u124_127, u124_130, u124_131, u124_134, u124_135, u124_136, u124_139, u124_140, u124_141, u124_144, u124_147, u124_148, u124_151, u124_152, u124_153, u124_154, u124_156, u124_157, u124_160, u124_161, u124_162, u124_163, u124_164, u124_165, u124_168, u124_169, u124_170, u124_173, u124_174, u124_177, u124_180, u124_181, u124_184, u124_185, u124_186, zk_mk_1, zk_mk_I, zk_mk_R, zk_mk_set, zk_mk_setR, zk_mk_cpy, zk_rv_some, zk_rv_none, Option.toList_some, Option.toList_none, List.cons_append, List.nil_append, reduceIte, eq_self, Nat.reduceLT, Nat.reduceEqDiff, and_true, true_and, reduceCtorEq, zx_28 ht, zx_29 ht, zx_30 ht, zx_31 ht, zx_r0 ht, zx_r1 ht, zx_r2 ht, w1, w2, w3, w4, e30, e29, e14, zsh_14, z1, z2, z3, z4, hend, z5, hstep, zj1_l6, zj1_l11, zj1_e10, zj1_l0]
          rw [if_neg (show ¬ (40 : Int32) ≤ nI top from nI_ge (b := 40) (by omega) (by decide))]
          simp (disch := omega) only [zn_in, zn_cl, nI_1, show (-1 : Int32) - -1 = nI 0 from by decide]
          refine ⟨by omega, by omega, ?_⟩
          exact ih2 (top + 1) _ hrun _ _ (fr _ _) (by rw [zk_up2_at]; exact zt_like h2' rfl (by omega))
        · replace hstep := hstep.trans (show zt_c 10001 = -2 from by decide)
          simp only [u124_0, u124_1, u124_2, u124_3, u124_6, u124_7, u124_10, u124_11, u124_14, u124_15, u124_16, u124_17, u124_18, u124_22, u124_23, u124_26, u124_27, u124_28, u124_31, u124_32, u124_35, u124_37, u124_38, u124_40, u124_42, u124_44, u124_47, u124_48, u124_50, u124_53, u124_54, u124_57, u124_58, u124_60, u124_63, u124_65, u124_68, u124_69, u124_70, u124_72, u124_73, u124_74, u124_75, u124_78, u124_81, u124_83, u124_85, u124_88, u124_89, u124_90, u124_93, u124_94, u124_97, u124_98, u124_99, u124_100, u124_102, u124_104, u124_107, u124_108, u124_111, u124_112, u124_113, u124_114, u124_115, u124_116, u124_119, u124_120, u124_123, u124_124, u124_125, u124_126, u124_127, u124_130, u124_131, u124_134, u124_135, u124_136, u124_139, u124_140, u124_141, u124_144, u124_147, u124_148, u124_151, u124_152, u124_153, u124_154, u124_156, u124_157, u124_160, u124_161, u124_162, u124_163, u124_164, u124_165, u124_168, u124_169, u124_170, u124_173, u124_174, u124_177, u124_180, u124_181, u124_184, u124_185, u124_186, zk_mk_1, zk_mk_I, zk_mk_R, zk_mk_set, zk_mk_setR, zk_mk_cpy, zk_rv_some, zk_rv_none, Option.toList_some, Option.toList_none, List.cons_append, List.nil_append, reduceIte, eq_self, Nat.reduceLT, Nat.reduceEqDiff, and_true, true_and, reduceCtorEq, zx_28 ht, zx_29 ht, zx_30 ht, zx_31 ht, zx_r0 ht, zx_r1 ht, zx_r2 ht, w1, w2, w3, w4, e30, e29, e14, zsh_14, z1, z2, z3, z4, hend, z5, hstep, zj2_l6, zj2_l11, zj2_e10, zj2_l0]
          rw [if_neg (show ¬ (40 : Int32) ≤ nI top from nI_ge (b := 40) (by omega) (by decide))]
          simp (disch := omega) only [zn_in, zn_cl, nI_1, show (-1 : Int32) - -2 = nI 1 from by decide]
          refine ⟨by omega, by omega, ?_⟩
          exact ih2 (top + 1) _ hrun _ _ (fr _ _) (by rw [zk_up2_at]; exact zt_like h2' rfl (by omega))
        · replace hstep := hstep.trans (show zt_c 10002 = -3 from by decide)
          simp only [u124_0, u124_1, u124_2, u124_3, u124_6, u124_7, u124_10, u124_11, u124_14, u124_15, u124_16, u124_17, u124_18, u124_22, u124_23, u124_26, u124_27, u124_28, u124_31, u124_32, u124_35, u124_37, u124_38, u124_40, u124_42, u124_44, u124_47, u124_48, u124_50, u124_53, u124_54, u124_57, u124_58, u124_60, u124_63, u124_65, u124_68, u124_69, u124_70, u124_72, u124_73, u124_74, u124_75, u124_78, u124_81, u124_83, u124_85, u124_88, u124_89, u124_90, u124_93, u124_94, u124_97, u124_98, u124_99, u124_100, u124_102, u124_104, u124_107, u124_108, u124_111, u124_112, u124_113, u124_114, u124_115, u124_116, u124_119, u124_120, u124_123, u124_124, u124_125, u124_126, u124_127, u124_130, u124_131, u124_134, u124_135, u124_136, u124_139, u124_140, u124_141, u124_144, u124_147, u124_148, u124_151, u124_152, u124_153, u124_154, u124_156, u124_157, u124_160, u124_161, u124_162, u124_163, u124_164, u124_165, u124_168, u124_169, u124_170, u124_173, u124_174, u124_177, u124_180, u124_181, u124_184, u124_185, u124_186, zk_mk_1, zk_mk_I, zk_mk_R, zk_mk_set, zk_mk_setR, zk_mk_cpy, zk_rv_some, zk_rv_none, Option.toList_some, Option.toList_none, List.cons_append, List.nil_append, reduceIte, eq_self, Nat.reduceLT, Nat.reduceEqDiff, and_true, true_and, reduceCtorEq, zx_28 ht, zx_29 ht, zx_30 ht, zx_31 ht, zx_r0 ht, zx_r1 ht, zx_r2 ht, w1, w2, w3, w4, e30, e29, e14, zsh_14, z1, z2, z3, z4, hend, z5, hstep, zj3_l6, zj3_l11, zj3_e10, zj3_l0]
          rw [if_neg (show ¬ (40 : Int32) ≤ nI top from nI_ge (b := 40) (by omega) (by decide))]
          simp (disch := omega) only [zn_in, zn_cl, nI_1, show (-1 : Int32) - -3 = nI 2 from by decide]
          refine ⟨by omega, by omega, ?_⟩
          exact ih2 (top + 1) _ hrun _ _ (fr _ _) (by rw [zk_up2_at]; exact zt_like h2' rfl (by omega))
        · replace hstep := hstep.trans (show zt_c 10003 = -4 from by decide)
          simp only [u124_0, u124_1, u124_2, u124_3, u124_6, u124_7, u124_10, u124_11, u124_14, u124_15, u124_16, u124_17, u124_18, u124_22, u124_23, u124_26, u124_27, u124_28, u124_31, u124_32, u124_35, u124_37, u124_38, u124_40, u124_42, u124_44, u124_47, u124_48, u124_50, u124_53, u124_54, u124_57, u124_58, u124_60, u124_63, u124_65, u124_68, u124_69, u124_70, u124_72, u124_73, u124_74, u124_75, u124_78, u124_81, u124_83, u124_85, u124_88, u124_89, u124_90, u124_93, u124_94, u124_97, u124_98, u124_99, u124_100, u124_102, u124_104, u124_107, u124_108, u124_111, u124_112, u124_113, u124_114, u124_115, u124_116, u124_119, u124_120, u124_123, u124_124, u124_125, u124_126, u124_127, u124_130, u124_131, u124_134, u124_135, u124_136, u124_139, u124_140, u124_141, u124_144, u124_147, u124_148, u124_151, u124_152, u124_153, u124_154, u124_156, u124_157, u124_160, u124_161, u124_162, u124_163, u124_164, u124_165, u124_168, u124_169, u124_170, u124_173, u124_174, u124_177, u124_180, u124_181, u124_184, u124_185, u124_186, zk_mk_1, zk_mk_I, zk_mk_R, zk_mk_set, zk_mk_setR, zk_mk_cpy, zk_rv_some, zk_rv_none, Option.toList_some, Option.toList_none, List.cons_append, List.nil_append, reduceIte, eq_self, Nat.reduceLT, Nat.reduceEqDiff, and_true, true_and, reduceCtorEq, zx_28 ht, zx_29 ht, zx_30 ht, zx_31 ht, zx_r0 ht, zx_r1 ht, zx_r2 ht, w1, w2, w3, w4, e30, e29, e14, zsh_14, z1, z2, z3, z4, hend, z5, hstep, zj4_l6, zj4_l11, zj4_e10, zj4_l0]
          rw [if_neg (show ¬ (40 : Int32) ≤ nI top from nI_ge (b := 40) (by omega) (by decide))]
          simp (disch := omega) only [zn_in, zn_cl, nI_1, show (-1 : Int32) - -4 = nI 3 from by decide]
          refine ⟨by omega, by omega, ?_⟩
          exact ih2 (top + 1) _ hrun _ _ (fr _ _) (by rw [zk_up2_at]; exact zt_like h2' rfl (by omega))
        · replace hstep := hstep.trans (show zt_c 10004 = -5 from by decide)
          simp only [u124_0, u124_1, u124_2, u124_3, u124_6, u124_7, u124_10, u124_11, u124_14, u124_15, u124_16, u124_17, u124_18, u124_22, u124_23, u124_26, u124_27, u124_28, u124_31, u124_32, u124_35, u124_37, u124_38, u124_40, u124_42, u124_44, u124_47, u124_48, u124_50, u124_53, u124_54, u124_57, u124_58, u124_60, u124_63, u124_65, u124_68, u124_69, u124_70, u124_72, u124_73, u124_74, u124_75, u124_78, u124_81, u124_83, u124_85, u124_88, u124_89, u124_90, u124_93, u124_94, u124_97, u124_98, u124_99, u124_100, u124_102, u124_104, u124_107, u124_108, u124_111, u124_112, u124_113, u124_114, u124_115, u124_116, u124_119, u124_120, u124_123, u124_124, u124_125, u124_126, u124_127, u124_130, u124_131, u124_134, u124_135, u124_136, u124_139, u124_140, u124_141, u124_144, u124_147, u124_148, u124_151, u124_152, u124_153, u124_154, u124_156, u124_157, u124_160, u124_161, u124_162, u124_163, u124_164, u124_165, u124_168, u124_169, u124_170, u124_173, u124_174, u124_177, u124_180, u124_181, u124_184, u124_185, u124_186, zk_mk_1, zk_mk_I, zk_mk_R, zk_mk_set, zk_mk_setR, zk_mk_cpy, zk_rv_some, zk_rv_none, Option.toList_some, Option.toList_none, List.cons_append, List.nil_append, reduceIte, eq_self, Nat.reduceLT, Nat.reduceEqDiff, and_true, true_and, reduceCtorEq, zx_28 ht, zx_29 ht, zx_30 ht, zx_31 ht, zx_r0 ht, zx_r1 ht, zx_r2 ht, w1, w2, w3, w4, e30, e29, e14, zsh_14, z1, z2, z3, z4, hend, z5, hstep, zj5_l6, zj5_l11, zj5_e10, zj5_l0]
          rw [if_neg (show ¬ (40 : Int32) ≤ nI top from nI_ge (b := 40) (by omega) (by decide))]
          simp (disch := omega) only [zn_in, zn_cl, nI_1, show (-1 : Int32) - -5 = nI 4 from by decide]
          refine ⟨by omega, by omega, ?_⟩
          exact ih2 (top + 1) _ hrun _ _ (fr _ _) (by rw [zk_up2_at]; exact zt_like h2' rfl (by omega))
        · replace hstep := hstep.trans (show zt_c 10005 = -6 from by decide)
          simp only [u124_0, u124_1, u124_2, u124_3, u124_6, u124_7, u124_10, u124_11, u124_14, u124_15, u124_16, u124_17, u124_18, u124_22, u124_23, u124_26, u124_27, u124_28, u124_31, u124_32, u124_35, u124_37, u124_38, u124_40, u124_42, u124_44, u124_47, u124_48, u124_50, u124_53, u124_54, u124_57, u124_58, u124_60, u124_63, u124_65, u124_68, u124_69, u124_70, u124_72, u124_73, u124_74, u124_75, u124_78, u124_81, u124_83, u124_85, u124_88, u124_89, u124_90, u124_93, u124_94, u124_97, u124_98, u124_99, u124_100, u124_102, u124_104, u124_107, u124_108, u124_111, u124_112, u124_113, u124_114, u124_115, u124_116, u124_119, u124_120, u124_123, u124_124, u124_125, u124_126, u124_127, u124_130, u124_131, u124_134, u124_135, u124_136, u124_139, u124_140, u124_141, u124_144, u124_147, u124_148, u124_151, u124_152, u124_153, u124_154, u124_156, u124_157, u124_160, u124_161, u124_162, u124_163, u124_164, u124_165, u124_168, u124_169, u124_170, u124_173, u124_174, u124_177, u124_180, u124_181, u124_184, u124_185, u124_186, zk_mk_1, zk_mk_I, zk_mk_R, zk_mk_set, zk_mk_setR, zk_mk_cpy, zk_rv_some, zk_rv_none, Option.toList_some, Option.toList_none, List.cons_append, List.nil_append, reduceIte, eq_self, Nat.reduceLT, Nat.reduceEqDiff, and_true, true_and, reduceCtorEq, zx_28 ht, zx_29 ht, zx_30 ht, zx_31 ht, zx_r0 ht, zx_r1 ht, zx_r2 ht, w1, w2, w3, w4, e30, e29, e14, zsh_14, z1, z2, z3, z4, hend, z5, hstep, zj6_l6, zj6_l11, zj6_e10, zj6_l0]
          rw [if_neg (show ¬ (40 : Int32) ≤ nI top from nI_ge (b := 40) (by omega) (by decide))]
          simp (disch := omega) only [zn_in, zn_cl, nI_1, show (-1 : Int32) - -6 = nI 5 from by decide]
          refine ⟨by omega, by omega, ?_⟩
          exact ih2 (top + 1) _ hrun _ _ (fr _ _) (by rw [zk_up2_at]; exact zt_like h2' rfl (by omega))
      · subst h
        replace hstep := hstep.trans (show zt_c 10010 = -10 from by decide)
        have y1 : nI top - 1 = nI (top - 1) := zn_sub (b := 1) (by omega)
        have y2 : ¬ nI top < 1 := by rw [show (1 : Int32) = nI 1 from rfl, zn_lt (by omega) (by omega)]; omega
        simp only [u124_0, u124_1, u124_2, u124_3, u124_6, u124_7, u124_10, u124_11, u124_14, u124_15, u124_16, u124_17, u124_18, u124_22, u124_23, u124_26, u124_27, u124_28, u124_31, u124_32, u124_35, u124_37, u124_38, u124_40, u124_42, u124_44, u124_47, u124_48, u124_50, u124_53, u124_54, u124_57, u124_58, u124_60, u124_63, u124_65, u124_68, u124_69, u124_70, u124_72, u124_73, u124_74, u124_75, u124_78, u124_81, u124_83, u124_85, u124_88, u124_89, u124_90, u124_93, u124_94, u124_97, u124_98, u124_99, u124_100, u124_102, u124_104, u124_107, u124_108, u124_111, u124_112, u124_113, u124_114, u124_115, u124_116, u124_119, u124_120, u124_123, u124_124, u124_125, u124_126, u124_127, u124_130, u124_131, u124_134, u124_135, u124_136, u124_139, u124_140, u124_141, u124_144, u124_147, u124_148, u124_151, u124_152, u124_153, u124_154, u124_156, u124_157, u124_160, u124_161, u124_162, u124_163, u124_164, u124_165, u124_168, u124_169, u124_170, u124_173, u124_174, u124_177, u124_180, u124_181, u124_184, u124_185, u124_186, zk_mk_1, zk_mk_I, zk_mk_R, zk_mk_set, zk_mk_setR, zk_mk_cpy, zk_rv_some, zk_rv_none, Option.toList_some, Option.toList_none, List.cons_append, List.nil_append, reduceIte, eq_self, Nat.reduceLT, Nat.reduceEqDiff, and_true, true_and, reduceCtorEq, zx_28 ht, zx_29 ht, zx_30 ht, zx_31 ht, zx_r0 ht, zx_r1 ht, zx_r2 ht, w1, w2, w3, w4, e30, e29, e14, zsh_14, z1, z2, z3, z4, hend, z5, hstep, zj10_l6, zj10_l11, zj10_e10, zj10_l0, y1, y2]
        simp (disch := omega) only [zn_in, zn_cl, nI_1]
        refine ⟨by omega, by omega, ?_⟩
        exact ih2 top _ hrun _ _ (fr _ _) (by rw [zk_up2_at]; exact zt_like h2' (by rw [h2' _ (by omega)]; rfl) (by omega))
      · subst h
        replace hstep := hstep.trans (show zt_c 10011 = -11 from by decide)
        have y1 : nI top - 1 = nI (top - 1) := zn_sub (b := 1) (by omega)
        have y2 : ¬ nI top < 1 := by rw [show (1 : Int32) = nI 1 from rfl, zn_lt (by omega) (by omega)]; omega
        simp only [u124_0, u124_1, u124_2, u124_3, u124_6, u124_7, u124_10, u124_11, u124_14, u124_15, u124_16, u124_17, u124_18, u124_22, u124_23, u124_26, u124_27, u124_28, u124_31, u124_32, u124_35, u124_37, u124_38, u124_40, u124_42, u124_44, u124_47, u124_48, u124_50, u124_53, u124_54, u124_57, u124_58, u124_60, u124_63, u124_65, u124_68, u124_69, u124_70, u124_72, u124_73, u124_74, u124_75, u124_78, u124_81, u124_83, u124_85, u124_88, u124_89, u124_90, u124_93, u124_94, u124_97, u124_98, u124_99, u124_100, u124_102, u124_104, u124_107, u124_108, u124_111, u124_112, u124_113, u124_114, u124_115, u124_116, u124_119, u124_120, u124_123, u124_124, u124_125, u124_126, u124_127, u124_130, u124_131, u124_134, u124_135, u124_136, u124_139, u124_140, u124_141, u124_144, u124_147, u124_148, u124_151, u124_152, u124_153, u124_154, u124_156, u124_157, u124_160, u124_161, u124_162, u124_163, u124_164, u124_165, u124_168, u124_169, u124_170, u124_173, u124_174, u124_177, u124_180, u124_181, u124_184, u124_185, u124_186, zk_mk_1, zk_mk_I, zk_mk_R, zk_mk_set, zk_mk_setR, zk_mk_cpy, zk_rv_some, zk_rv_none, Option.toList_some, Option.toList_none, List.cons_append, List.nil_append, reduceIte, eq_self, Nat.reduceLT, Nat.reduceEqDiff, and_true, true_and, reduceCtorEq, zx_28 ht, zx_29 ht, zx_30 ht, zx_31 ht, zx_r0 ht, zx_r1 ht, zx_r2 ht, w1, w2, w3, w4, e30, e29, e14, zsh_14, z1, z2, z3, z4, hend, z5, hstep, zj11_l6, zj11_l11, zj11_e10, zj11_l0, y1, y2]
        simp (disch := omega) only [zn_in, zn_cl, nI_1]
        refine ⟨by omega, ?_⟩
        by_cases hz : I' (31 + 4 * t) (top - 1) = 0
        · rw [if_pos hz]
          refine ⟨by omega, ?_⟩
          exact ih2 top _ hrun _ _ (fr _ _) (by rw [zk_up2_at]; exact zt_like h2' (by rw [h2' _ (by omega)] at hz; show 1 = zt_un 10011 (S (top - 1)); rw [hz]; rfl) (by omega))
        · rw [if_neg hz]
          refine ⟨by omega, ?_⟩
          exact ih2 top _ hrun _ _ (fr _ _) (by rw [zk_up2_at]; exact zt_like h2' (by rw [h2' _ (by omega)] at hz; show 0 = zt_un 10011 (S (top - 1)); unfold zt_un; rw [if_neg (by decide), if_neg hz]) (by omega))
      · subst h
        replace hstep := hstep.trans (show zt_c 10012 = -12 from by decide)
        have y1 : nI top + -1 = nI (top - 1) := by rw [← Int32.sub_eq_add_neg]; exact zn_sub (b := 1) (by omega)
        have y3 : nI (top - 1) - 1 = nI (top - 2) := zn_sub (b := 1) (by omega)
        have y2 : ¬ nI top < 2 := by rw [show (2 : Int32) = nI 2 from rfl, zn_lt (by omega) (by omega)]; omega
        simp only [u124_0, u124_1, u124_2, u124_3, u124_6, u124_7, u124_10, u124_11, u124_14, u124_15, u124_16, u124_17, u124_18, u124_22, u124_23, u124_26, u124_27, u124_28, u124_31, u124_32, u124_35, u124_37, u124_38, u124_40, u124_42, u124_44, u124_47, u124_48, u124_50, u124_53, u124_54, u124_57, u124_58, u124_60, u124_63, u124_65, u124_68, u124_69, u124_70, u124_72, u124_73, u124_74, u124_75, u124_78, u124_81, u124_83, u124_85, u124_88, u124_89, u124_90, u124_93, u124_94, u124_97, u124_98, u124_99, u124_100, u124_102, u124_104, u124_107, u124_108, u124_111, u124_112, u124_113, u124_114, u124_115, u124_116, u124_119, u124_120, u124_123, u124_124, u124_125, u124_126, u124_127, u124_130, u124_131, u124_134, u124_135, u124_136, u124_139, u124_140, u124_141, u124_144, u124_147, u124_148, u124_151, u124_152, u124_153, u124_154, u124_156, u124_157, u124_160, u124_161, u124_162, u124_163, u124_164, u124_165, u124_168, u124_169, u124_170, u124_173, u124_174, u124_177, u124_180, u124_181, u124_184, u124_185, u124_186, zk_mk_1, zk_mk_I, zk_mk_R, zk_mk_set, zk_mk_setR, zk_mk_cpy, zk_rv_some, zk_rv_none, Option.toList_some, Option.toList_none, List.cons_append, List.nil_append, reduceIte, eq_self, Nat.reduceLT, Nat.reduceEqDiff, and_true, true_and, reduceCtorEq, zx_28 ht, zx_29 ht, zx_30 ht, zx_31 ht, zx_r0 ht, zx_r1 ht, zx_r2 ht, w1, w2, w3, w4, e30, e29, e14, zsh_14, z1, z2, z3, z4, hend, z5, hstep, zj12_l6, zj12_l11, zj12_e10, zj12_l0, y1, y2, y3]
        simp (disch := omega) only [zn_in, zn_cl, nI_1]
        refine ⟨by omega, by omega, ?_⟩
        have ej := fun (M : zk_M) (P : Option Value → zk_M → Prop) => s125 (sc := sc) (d := d) (M := M) (P := P) (t := 10012) (a := I' (31 + 4 * t) (top - 2)) (b := I' (31 + 4 * t) (top - 1)) (by decide) (by decide)
        rw [show zt_c 10012 = -12 from by decide] at ej
        rw [ej]
        simp only [u124_0, u124_1, u124_2, u124_3, u124_6, u124_7, u124_10, u124_11, u124_14, u124_15, u124_16, u124_17, u124_18, u124_22, u124_23, u124_26, u124_27, u124_28, u124_31, u124_32, u124_35, u124_37, u124_38, u124_40, u124_42, u124_44, u124_47, u124_48, u124_50, u124_53, u124_54, u124_57, u124_58, u124_60, u124_63, u124_65, u124_68, u124_69, u124_70, u124_72, u124_73, u124_74, u124_75, u124_78, u124_81, u124_83, u124_85, u124_88, u124_89, u124_90, u124_93, u124_94, u124_97, u124_98, u124_99, u124_100, u124_102, u124_104, u124_107, u124_108, u124_111, u124_112, u124_113, u124_114, u124_115, u124_116, u124_119, u124_120, u124_123, u124_124, u124_125, u124_126, u124_127, u124_130, u124_131, u124_134, u124_135, u124_136, u124_139, u124_140, u124_141, u124_144, u124_147, u124_148, u124_151, u124_152, u124_153, u124_154, u124_156, u124_157, u124_160, u124_161, u124_162, u124_163, u124_164, u124_165, u124_168, u124_169, u124_170, u124_173, u124_174, u124_177, u124_180, u124_181, u124_184, u124_185, u124_186, zk_mk_1, zk_mk_I, zk_mk_R, zk_mk_set, zk_mk_setR, zk_mk_cpy, zk_rv_some, zk_rv_none, Option.toList_some, Option.toList_none, List.cons_append, List.nil_append, reduceIte, eq_self, Nat.reduceLT, Nat.reduceEqDiff, and_true, true_and, reduceCtorEq, zx_28 ht, zx_29 ht, zx_30 ht, zx_31 ht, zx_r0 ht, zx_r1 ht, zx_r2 ht, w1, w2, w3, w4, e30, e29, e14, zsh_14, z1, z2, z3, z4, hend, z5, y3]
        simp (disch := omega) only [zn_in, zn_cl, nI_1]
        refine ⟨by omega, ?_⟩
        exact ih2 (top - 1) _ hrun _ _ (fr _ _) (by rw [zk_up2_at]; exact zt_like h2' (by rw [h2' _ (by omega), h2' _ (by omega)]) (by omega))
      · subst h
        replace hstep := hstep.trans (show zt_c 10013 = -13 from by decide)
        have y1 : nI top + -1 = nI (top - 1) := by rw [← Int32.sub_eq_add_neg]; exact zn_sub (b := 1) (by omega)
        have y3 : nI (top - 1) - 1 = nI (top - 2) := zn_sub (b := 1) (by omega)
        have y2 : ¬ nI top < 2 := by rw [show (2 : Int32) = nI 2 from rfl, zn_lt (by omega) (by omega)]; omega
        simp only [u124_0, u124_1, u124_2, u124_3, u124_6, u124_7, u124_10, u124_11, u124_14, u124_15, u124_16, u124_17, u124_18, u124_22, u124_23, u124_26, u124_27, u124_28, u124_31, u124_32, u124_35, u124_37, u124_38, u124_40, u124_42, u124_44, u124_47, u124_48, u124_50, u124_53, u124_54, u124_57, u124_58, u124_60, u124_63, u124_65, u124_68, u124_69, u124_70, u124_72, u124_73, u124_74, u124_75, u124_78, u124_81, u124_83, u124_85, u124_88, u124_89, u124_90, u124_93, u124_94, u124_97, u124_98, u124_99, u124_100, u124_102, u124_104, u124_107, u124_108, u124_111, u124_112, u124_113, u124_114, u124_115, u124_116, u124_119, u124_120, u124_123, u124_124, u124_125, u124_126, u124_127, u124_130, u124_131, u124_134, u124_135, u124_136, u124_139, u124_140, u124_141, u124_144, u124_147, u124_148, u124_151, u124_152, u124_153, u124_154, u124_156, u124_157, u124_160, u124_161, u124_162, u124_163, u124_164, u124_165, u124_168, u124_169, u124_170, u124_173, u124_174, u124_177, u124_180, u124_181, u124_184, u124_185, u124_186, zk_mk_1, zk_mk_I, zk_mk_R, zk_mk_set, zk_mk_setR, zk_mk_cpy, zk_rv_some, zk_rv_none, Option.toList_some, Option.toList_none, List.cons_append, List.nil_append, reduceIte, eq_self, Nat.reduceLT, Nat.reduceEqDiff, and_true, true_and, reduceCtorEq, zx_28 ht, zx_29 ht, zx_30 ht, zx_31 ht, zx_r0 ht, zx_r1 ht, zx_r2 ht, w1, w2, w3, w4, e30, e29, e14, zsh_14, z1, z2, z3, z4, hend, z5, hstep, zj13_l6, zj13_l11, zj13_e10, zj13_l0, y1, y2, y3]
        simp (disch := omega) only [zn_in, zn_cl, nI_1]
        refine ⟨by omega, by omega, ?_⟩
        have ej := fun (M : zk_M) (P : Option Value → zk_M → Prop) => s125 (sc := sc) (d := d) (M := M) (P := P) (t := 10013) (a := I' (31 + 4 * t) (top - 2)) (b := I' (31 + 4 * t) (top - 1)) (by decide) (by decide)
        rw [show zt_c 10013 = -13 from by decide] at ej
        rw [ej]
        simp only [u124_0, u124_1, u124_2, u124_3, u124_6, u124_7, u124_10, u124_11, u124_14, u124_15, u124_16, u124_17, u124_18, u124_22, u124_23, u124_26, u124_27, u124_28, u124_31, u124_32, u124_35, u124_37, u124_38, u124_40, u124_42, u124_44, u124_47, u124_48, u124_50, u124_53, u124_54, u124_57, u124_58, u124_60, u124_63, u124_65, u124_68, u124_69, u124_70, u124_72, u124_73, u124_74, u124_75, u124_78, u124_81, u124_83, u124_85, u124_88, u124_89, u124_90, u124_93, u124_94, u124_97, u124_98, u124_99, u124_100, u124_102, u124_104, u124_107, u124_108, u124_111, u124_112, u124_113, u124_114, u124_115, u124_116, u124_119, u124_120, u124_123, u124_124, u124_125, u124_126, u124_127, u124_130, u124_131, u124_134, u124_135, u124_136, u124_139, u124_140, u124_141, u124_144, u124_147, u124_148, u124_151, u124_152, u124_153, u124_154, u124_156, u124_157, u124_160, u124_161, u124_162, u124_163, u124_164, u124_165, u124_168, u124_169, u124_170, u124_173, u124_174, u124_177, u124_180, u124_181, u124_184, u124_185, u124_186, zk_mk_1, zk_mk_I, zk_mk_R, zk_mk_set, zk_mk_setR, zk_mk_cpy, zk_rv_some, zk_rv_none, Option.toList_some, Option.toList_none, List.cons_append, List.nil_append, reduceIte, eq_self, Nat.reduceLT, Nat.reduceEqDiff, and_true, true_and, reduceCtorEq, zx_28 ht, zx_29 ht, zx_30 ht, zx_31 ht, zx_r0 ht, zx_r1 ht, zx_r2 ht, w1, w2, w3, w4, e30, e29, e14, zsh_14, z1, z2, z3, z4, hend, z5, y3]
        simp (disch := omega) only [zn_in, zn_cl, nI_1]
        refine ⟨by omega, ?_⟩
        exact ih2 (top - 1) _ hrun _ _ (fr _ _) (by rw [zk_up2_at]; exact zt_like h2' (by rw [h2' _ (by omega), h2' _ (by omega)]) (by omega))
      · subst h
        replace hstep := hstep.trans (show zt_c 10014 = -14 from by decide)
        have y1 : nI top + -1 = nI (top - 1) := by rw [← Int32.sub_eq_add_neg]; exact zn_sub (b := 1) (by omega)
        have y3 : nI (top - 1) - 1 = nI (top - 2) := zn_sub (b := 1) (by omega)
        have y2 : ¬ nI top < 2 := by rw [show (2 : Int32) = nI 2 from rfl, zn_lt (by omega) (by omega)]; omega
        simp only [u124_0, u124_1, u124_2, u124_3, u124_6, u124_7, u124_10, u124_11, u124_14, u124_15, u124_16, u124_17, u124_18, u124_22, u124_23, u124_26, u124_27, u124_28, u124_31, u124_32, u124_35, u124_37, u124_38, u124_40, u124_42, u124_44, u124_47, u124_48, u124_50, u124_53, u124_54, u124_57, u124_58, u124_60, u124_63, u124_65, u124_68, u124_69, u124_70, u124_72, u124_73, u124_74, u124_75, u124_78, u124_81, u124_83, u124_85, u124_88, u124_89, u124_90, u124_93, u124_94, u124_97, u124_98, u124_99, u124_100, u124_102, u124_104, u124_107, u124_108, u124_111, u124_112, u124_113, u124_114, u124_115, u124_116, u124_119, u124_120, u124_123, u124_124, u124_125, u124_126, u124_127, u124_130, u124_131, u124_134, u124_135, u124_136, u124_139, u124_140, u124_141, u124_144, u124_147, u124_148, u124_151, u124_152, u124_153, u124_154, u124_156, u124_157, u124_160, u124_161, u124_162, u124_163, u124_164, u124_165, u124_168, u124_169, u124_170, u124_173, u124_174, u124_177, u124_180, u124_181, u124_184, u124_185, u124_186, zk_mk_1, zk_mk_I, zk_mk_R, zk_mk_set, zk_mk_setR, zk_mk_cpy, zk_rv_some, zk_rv_none, Option.toList_some, Option.toList_none, List.cons_append, List.nil_append, reduceIte, eq_self, Nat.reduceLT, Nat.reduceEqDiff, and_true, true_and, reduceCtorEq, zx_28 ht, zx_29 ht, zx_30 ht, zx_31 ht, zx_r0 ht, zx_r1 ht, zx_r2 ht, w1, w2, w3, w4, e30, e29, e14, zsh_14, z1, z2, z3, z4, hend, z5, hstep, zj14_l6, zj14_l11, zj14_e10, zj14_l0, y1, y2, y3]
        simp (disch := omega) only [zn_in, zn_cl, nI_1]
        refine ⟨by omega, by omega, ?_⟩
        have ej := fun (M : zk_M) (P : Option Value → zk_M → Prop) => s125 (sc := sc) (d := d) (M := M) (P := P) (t := 10014) (a := I' (31 + 4 * t) (top - 2)) (b := I' (31 + 4 * t) (top - 1)) (by decide) (by decide)
        rw [show zt_c 10014 = -14 from by decide] at ej
        rw [ej]
        simp only [u124_0, u124_1, u124_2, u124_3, u124_6, u124_7, u124_10, u124_11, u124_14, u124_15, u124_16, u124_17, u124_18, u124_22, u124_23, u124_26, u124_27, u124_28, u124_31, u124_32, u124_35, u124_37, u124_38, u124_40, u124_42, u124_44, u124_47, u124_48, u124_50, u124_53, u124_54, u124_57, u124_58, u124_60, u124_63, u124_65, u124_68, u124_69, u124_70, u124_72, u124_73, u124_74, u124_75, u124_78, u124_81, u124_83, u124_85, u124_88, u124_89, u124_90, u124_93, u124_94, u124_97, u124_98, u124_99, u124_100, u124_102, u124_104, u124_107, u124_108, u124_111, u124_112, u124_113, u124_114, u124_115, u124_116, u124_119, u124_120, u124_123, u124_124, u124_125, u124_126, u124_127, u124_130, u124_131, u124_134, u124_135, u124_136, u124_139, u124_140, u124_141, u124_144, u124_147, u124_148, u124_151, u124_152, u124_153, u124_154, u124_156, u124_157, u124_160, u124_161, u124_162, u124_163, u124_164, u124_165, u124_168, u124_169, u124_170, u124_173, u124_174, u124_177, u124_180, u124_181, u124_184, u124_185, u124_186, zk_mk_1, zk_mk_I, zk_mk_R, zk_mk_set, zk_mk_setR, zk_mk_cpy, zk_rv_some, zk_rv_none, Option.toList_some, Option.toList_none, List.cons_append, List.nil_append, reduceIte, eq_self, Nat.reduceLT, Nat.reduceEqDiff, and_true, true_and, reduceCtorEq, zx_28 ht, zx_29 ht, zx_30 ht, zx_31 ht, zx_r0 ht, zx_r1 ht, zx_r2 ht, w1, w2, w3, w4, e30, e29, e14, zsh_14, z1, z2, z3, z4, hend, z5, y3]
        simp (disch := omega) only [zn_in, zn_cl, nI_1]
        refine ⟨by omega, ?_⟩
        exact ih2 (top - 1) _ hrun _ _ (fr _ _) (by rw [zk_up2_at]; exact zt_like h2' (by rw [h2' _ (by omega), h2' _ (by omega)]) (by omega))
      · subst h
        replace hstep := hstep.trans (show zt_c 10015 = -15 from by decide)
        have y1 : nI top + -1 = nI (top - 1) := by rw [← Int32.sub_eq_add_neg]; exact zn_sub (b := 1) (by omega)
        have y3 : nI (top - 1) - 1 = nI (top - 2) := zn_sub (b := 1) (by omega)
        have y2 : ¬ nI top < 2 := by rw [show (2 : Int32) = nI 2 from rfl, zn_lt (by omega) (by omega)]; omega
        simp only [u124_0, u124_1, u124_2, u124_3, u124_6, u124_7, u124_10, u124_11, u124_14, u124_15, u124_16, u124_17, u124_18, u124_22, u124_23, u124_26, u124_27, u124_28, u124_31, u124_32, u124_35, u124_37, u124_38, u124_40, u124_42, u124_44, u124_47, u124_48, u124_50, u124_53, u124_54, u124_57, u124_58, u124_60, u124_63, u124_65, u124_68, u124_69, u124_70, u124_72, u124_73, u124_74, u124_75, u124_78, u124_81, u124_83, u124_85, u124_88, u124_89, u124_90, u124_93, u124_94, u124_97, u124_98, u124_99, u124_100, u124_102, u124_104, u124_107, u124_108, u124_111, u124_112, u124_113, u124_114, u124_115, u124_116, u124_119, u124_120, u124_123, u124_124, u124_125, u124_126, u124_127, u124_130, u124_131, u124_134, u124_135, u124_136, u124_139, u124_140, u124_141, u124_144, u124_147, u124_148, u124_151, u124_152, u124_153, u124_154, u124_156, u124_157, u124_160, u124_161, u124_162, u124_163, u124_164, u124_165, u124_168, u124_169, u124_170, u124_173, u124_174, u124_177, u124_180, u124_181, u124_184, u124_185, u124_186, zk_mk_1, zk_mk_I, zk_mk_R, zk_mk_set, zk_mk_setR, zk_mk_cpy, zk_rv_some, zk_rv_none, Option.toList_some, Option.toList_none, List.cons_append, List.nil_append, reduceIte, eq_self, Nat.reduceLT, Nat.reduceEqDiff, and_true, true_and, reduceCtorEq, zx_28 ht, zx_29 ht, zx_30 ht, zx_31 ht, zx_r0 ht, zx_r1 ht, zx_r2 ht, w1, w2, w3, w4, e30, e29, e14, zsh_14, z1, z2, z3, z4, hend, z5, hstep, zj15_l6, zj15_l11, zj15_e10, zj15_l0, y1, y2, y3]
        simp (disch := omega) only [zn_in, zn_cl, nI_1]
        refine ⟨by omega, by omega, ?_⟩
        have ej := fun (M : zk_M) (P : Option Value → zk_M → Prop) => s125 (sc := sc) (d := d) (M := M) (P := P) (t := 10015) (a := I' (31 + 4 * t) (top - 2)) (b := I' (31 + 4 * t) (top - 1)) (by decide) (by decide)
        rw [show zt_c 10015 = -15 from by decide] at ej
        rw [ej]
        simp only [u124_0, u124_1, u124_2, u124_3, u124_6, u124_7, u124_10, u124_11, u124_14, u124_15, u124_16, u124_17, u124_18, u124_22, u124_23, u124_26, u124_27, u124_28, u124_31, u124_32, u124_35, u124_37, u124_38, u124_40, u124_42, u124_44, u124_47, u124_48, u124_50, u124_53, u124_54, u124_57, u124_58, u124_60, u124_63, u124_65, u124_68, u124_69, u124_70, u124_72, u124_73, u124_74, u124_75, u124_78, u124_81, u124_83, u124_85, u124_88, u124_89, u124_90, u124_93, u124_94, u124_97, u124_98, u124_99, u124_100, u124_102, u124_104, u124_107, u124_108, u124_111, u124_112, u124_113, u124_114, u124_115, u124_116, u124_119, u124_120, u124_123, u124_124, u124_125, u124_126, u124_127, u124_130, u124_131, u124_134, u124_135, u124_136, u124_139, u124_140, u124_141, u124_144, u124_147, u124_148, u124_151, u124_152, u124_153, u124_154, u124_156, u124_157, u124_160, u124_161, u124_162, u124_163, u124_164, u124_165, u124_168, u124_169, u124_170, u124_173, u124_174, u124_177, u124_180, u124_181, u124_184, u124_185, u124_186, zk_mk_1, zk_mk_I, zk_mk_R, zk_mk_set, zk_mk_setR, zk_mk_cpy, zk_rv_some, zk_rv_none, Option.toList_some, Option.toList_none, List.cons_append, List.nil_append, reduceIte, eq_self, Nat.reduceLT, Nat.reduceEqDiff, and_true, true_and, reduceCtorEq, zx_28 ht, zx_29 ht, zx_30 ht, zx_31 ht, zx_r0 ht, zx_r1 ht, zx_r2 ht, w1, w2, w3, w4, e30, e29, e14, zsh_14, z1, z2, z3, z4, hend, z5, y3]
        simp (disch := omega) only [zn_in, zn_cl, nI_1]
        refine ⟨by omega, ?_⟩
        exact ih2 (top - 1) _ hrun _ _ (fr _ _) (by rw [zk_up2_at]; exact zt_like h2' (by rw [h2' _ (by omega), h2' _ (by omega)]) (by omega))
      · subst h
        replace hstep := hstep.trans (show zt_c 10016 = -16 from by decide)
        have y1 : nI top + -1 = nI (top - 1) := by rw [← Int32.sub_eq_add_neg]; exact zn_sub (b := 1) (by omega)
        have y3 : nI (top - 1) - 1 = nI (top - 2) := zn_sub (b := 1) (by omega)
        have y2 : ¬ nI top < 2 := by rw [show (2 : Int32) = nI 2 from rfl, zn_lt (by omega) (by omega)]; omega
        simp only [u124_0, u124_1, u124_2, u124_3, u124_6, u124_7, u124_10, u124_11, u124_14, u124_15, u124_16, u124_17, u124_18, u124_22, u124_23, u124_26, u124_27, u124_28, u124_31, u124_32, u124_35, u124_37, u124_38, u124_40, u124_42, u124_44, u124_47, u124_48, u124_50, u124_53, u124_54, u124_57, u124_58, u124_60, u124_63, u124_65, u124_68, u124_69, u124_70, u124_72, u124_73, u124_74, u124_75, u124_78, u124_81, u124_83, u124_85, u124_88, u124_89, u124_90, u124_93, u124_94, u124_97, u124_98, u124_99, u124_100, u124_102, u124_104, u124_107, u124_108, u124_111, u124_112, u124_113, u124_114, u124_115, u124_116, u124_119, u124_120, u124_123, u124_124, u124_125, u124_126, u124_127, u124_130, u124_131, u124_134, u124_135, u124_136, u124_139, u124_140, u124_141, u124_144, u124_147, u124_148, u124_151, u124_152, u124_153, u124_154, u124_156, u124_157, u124_160, u124_161, u124_162, u124_163, u124_164, u124_165, u124_168, u124_169, u124_170, u124_173, u124_174, u124_177, u124_180, u124_181, u124_184, u124_185, u124_186, zk_mk_1, zk_mk_I, zk_mk_R, zk_mk_set, zk_mk_setR, zk_mk_cpy, zk_rv_some, zk_rv_none, Option.toList_some, Option.toList_none, List.cons_append, List.nil_append, reduceIte, eq_self, Nat.reduceLT, Nat.reduceEqDiff, and_true, true_and, reduceCtorEq, zx_28 ht, zx_29 ht, zx_30 ht, zx_31 ht, zx_r0 ht, zx_r1 ht, zx_r2 ht, w1, w2, w3, w4, e30, e29, e14, zsh_14, z1, z2, z3, z4, hend, z5, hstep, zj16_l6, zj16_l11, zj16_e10, zj16_l0, y1, y2, y3]
        simp (disch := omega) only [zn_in, zn_cl, nI_1]
        refine ⟨by omega, by omega, ?_⟩
        have ej := fun (M : zk_M) (P : Option Value → zk_M → Prop) => s125 (sc := sc) (d := d) (M := M) (P := P) (t := 10016) (a := I' (31 + 4 * t) (top - 2)) (b := I' (31 + 4 * t) (top - 1)) (by decide) (by decide)
        rw [show zt_c 10016 = -16 from by decide] at ej
        rw [ej]
        simp only [u124_0, u124_1, u124_2, u124_3, u124_6, u124_7, u124_10, u124_11, u124_14, u124_15, u124_16, u124_17, u124_18, u124_22, u124_23, u124_26, u124_27, u124_28, u124_31, u124_32, u124_35, u124_37, u124_38, u124_40, u124_42, u124_44, u124_47, u124_48, u124_50, u124_53, u124_54, u124_57, u124_58, u124_60, u124_63, u124_65, u124_68, u124_69, u124_70, u124_72, u124_73, u124_74, u124_75, u124_78, u124_81, u124_83, u124_85, u124_88, u124_89, u124_90, u124_93, u124_94, u124_97, u124_98, u124_99, u124_100, u124_102, u124_104, u124_107, u124_108, u124_111, u124_112, u124_113, u124_114, u124_115, u124_116, u124_119, u124_120, u124_123, u124_124, u124_125, u124_126, u124_127, u124_130, u124_131, u124_134, u124_135, u124_136, u124_139, u124_140, u124_141, u124_144, u124_147, u124_148, u124_151, u124_152, u124_153, u124_154, u124_156, u124_157, u124_160, u124_161, u124_162, u124_163, u124_164, u124_165, u124_168, u124_169, u124_170, u124_173, u124_174, u124_177, u124_180, u124_181, u124_184, u124_185, u124_186, zk_mk_1, zk_mk_I, zk_mk_R, zk_mk_set, zk_mk_setR, zk_mk_cpy, zk_rv_some, zk_rv_none, Option.toList_some, Option.toList_none, List.cons_append, List.nil_append, reduceIte, eq_self, Nat.reduceLT, Nat.reduceEqDiff, and_true, true_and, reduceCtorEq, zx_28 ht, zx_29 ht, zx_30 ht, zx_31 ht, zx_r0 ht, zx_r1 ht, zx_r2 ht, w1, w2, w3, w4, e30, e29, e14, zsh_14, z1, z2, z3, z4, hend, z5, y3]
        simp (disch := omega) only [zn_in, zn_cl, nI_1]
        refine ⟨by omega, ?_⟩
        exact ih2 (top - 1) _ hrun _ _ (fr _ _) (by rw [zk_up2_at]; exact zt_like h2' (by rw [h2' _ (by omega), h2' _ (by omega)]) (by omega))
      · subst h
        replace hstep := hstep.trans (show zt_c 10017 = -17 from by decide)
        have y1 : nI top + -1 = nI (top - 1) := by rw [← Int32.sub_eq_add_neg]; exact zn_sub (b := 1) (by omega)
        have y3 : nI (top - 1) - 1 = nI (top - 2) := zn_sub (b := 1) (by omega)
        have y2 : ¬ nI top < 2 := by rw [show (2 : Int32) = nI 2 from rfl, zn_lt (by omega) (by omega)]; omega
        simp only [u124_0, u124_1, u124_2, u124_3, u124_6, u124_7, u124_10, u124_11, u124_14, u124_15, u124_16, u124_17, u124_18, u124_22, u124_23, u124_26, u124_27, u124_28, u124_31, u124_32, u124_35, u124_37, u124_38, u124_40, u124_42, u124_44, u124_47, u124_48, u124_50, u124_53, u124_54, u124_57, u124_58, u124_60, u124_63, u124_65, u124_68, u124_69, u124_70, u124_72, u124_73, u124_74, u124_75, u124_78, u124_81, u124_83, u124_85, u124_88, u124_89, u124_90, u124_93, u124_94, u124_97, u124_98, u124_99, u124_100, u124_102, u124_104, u124_107, u124_108, u124_111, u124_112, u124_113, u124_114, u124_115, u124_116, u124_119, u124_120, u124_123, u124_124, u124_125, u124_126, u124_127, u124_130, u124_131, u124_134, u124_135, u124_136, u124_139, u124_140, u124_141, u124_144, u124_147, u124_148, u124_151, u124_152, u124_153, u124_154, u124_156, u124_157, u124_160, u124_161, u124_162, u124_163, u124_164, u124_165, u124_168, u124_169, u124_170, u124_173, u124_174, u124_177, u124_180, u124_181, u124_184, u124_185, u124_186, zk_mk_1, zk_mk_I, zk_mk_R, zk_mk_set, zk_mk_setR, zk_mk_cpy, zk_rv_some, zk_rv_none, Option.toList_some, Option.toList_none, List.cons_append, List.nil_append, reduceIte, eq_self, Nat.reduceLT, Nat.reduceEqDiff, and_true, true_and, reduceCtorEq, zx_28 ht, zx_29 ht, zx_30 ht, zx_31 ht, zx_r0 ht, zx_r1 ht, zx_r2 ht, w1, w2, w3, w4, e30, e29, e14, zsh_14, z1, z2, z3, z4, hend, z5, hstep, zj17_l6, zj17_l11, zj17_e10, zj17_l0, y1, y2, y3]
        simp (disch := omega) only [zn_in, zn_cl, nI_1]
        refine ⟨by omega, by omega, ?_⟩
        have ej := fun (M : zk_M) (P : Option Value → zk_M → Prop) => s125 (sc := sc) (d := d) (M := M) (P := P) (t := 10017) (a := I' (31 + 4 * t) (top - 2)) (b := I' (31 + 4 * t) (top - 1)) (by decide) (by decide)
        rw [show zt_c 10017 = -17 from by decide] at ej
        rw [ej]
        simp only [u124_0, u124_1, u124_2, u124_3, u124_6, u124_7, u124_10, u124_11, u124_14, u124_15, u124_16, u124_17, u124_18, u124_22, u124_23, u124_26, u124_27, u124_28, u124_31, u124_32, u124_35, u124_37, u124_38, u124_40, u124_42, u124_44, u124_47, u124_48, u124_50, u124_53, u124_54, u124_57, u124_58, u124_60, u124_63, u124_65, u124_68, u124_69, u124_70, u124_72, u124_73, u124_74, u124_75, u124_78, u124_81, u124_83, u124_85, u124_88, u124_89, u124_90, u124_93, u124_94, u124_97, u124_98, u124_99, u124_100, u124_102, u124_104, u124_107, u124_108, u124_111, u124_112, u124_113, u124_114, u124_115, u124_116, u124_119, u124_120, u124_123, u124_124, u124_125, u124_126, u124_127, u124_130, u124_131, u124_134, u124_135, u124_136, u124_139, u124_140, u124_141, u124_144, u124_147, u124_148, u124_151, u124_152, u124_153, u124_154, u124_156, u124_157, u124_160, u124_161, u124_162, u124_163, u124_164, u124_165, u124_168, u124_169, u124_170, u124_173, u124_174, u124_177, u124_180, u124_181, u124_184, u124_185, u124_186, zk_mk_1, zk_mk_I, zk_mk_R, zk_mk_set, zk_mk_setR, zk_mk_cpy, zk_rv_some, zk_rv_none, Option.toList_some, Option.toList_none, List.cons_append, List.nil_append, reduceIte, eq_self, Nat.reduceLT, Nat.reduceEqDiff, and_true, true_and, reduceCtorEq, zx_28 ht, zx_29 ht, zx_30 ht, zx_31 ht, zx_r0 ht, zx_r1 ht, zx_r2 ht, w1, w2, w3, w4, e30, e29, e14, zsh_14, z1, z2, z3, z4, hend, z5, y3]
        simp (disch := omega) only [zn_in, zn_cl, nI_1]
        refine ⟨by omega, ?_⟩
        exact ih2 (top - 1) _ hrun _ _ (fr _ _) (by rw [zk_up2_at]; exact zt_like h2' (by rw [h2' _ (by omega), h2' _ (by omega)]) (by omega))
      · subst h
        replace hstep := hstep.trans (show zt_c 10018 = -18 from by decide)
        have y1 : nI top + -1 = nI (top - 1) := by rw [← Int32.sub_eq_add_neg]; exact zn_sub (b := 1) (by omega)
        have y3 : nI (top - 1) - 1 = nI (top - 2) := zn_sub (b := 1) (by omega)
        have y2 : ¬ nI top < 2 := by rw [show (2 : Int32) = nI 2 from rfl, zn_lt (by omega) (by omega)]; omega
        simp only [u124_0, u124_1, u124_2, u124_3, u124_6, u124_7, u124_10, u124_11, u124_14, u124_15, u124_16, u124_17, u124_18, u124_22, u124_23, u124_26, u124_27, u124_28, u124_31, u124_32, u124_35, u124_37, u124_38, u124_40, u124_42, u124_44, u124_47, u124_48, u124_50, u124_53, u124_54, u124_57, u124_58, u124_60, u124_63, u124_65, u124_68, u124_69, u124_70, u124_72, u124_73, u124_74, u124_75, u124_78, u124_81, u124_83, u124_85, u124_88, u124_89, u124_90, u124_93, u124_94, u124_97, u124_98, u124_99, u124_100, u124_102, u124_104, u124_107, u124_108, u124_111, u124_112, u124_113, u124_114, u124_115, u124_116, u124_119, u124_120, u124_123, u124_124, u124_125, u124_126, u124_127, u124_130, u124_131, u124_134, u124_135, u124_136, u124_139, u124_140, u124_141, u124_144, u124_147, u124_148, u124_151, u124_152, u124_153, u124_154, u124_156, u124_157, u124_160, u124_161, u124_162, u124_163, u124_164, u124_165, u124_168, u124_169, u124_170, u124_173, u124_174, u124_177, u124_180, u124_181, u124_184, u124_185, u124_186, zk_mk_1, zk_mk_I, zk_mk_R, zk_mk_set, zk_mk_setR, zk_mk_cpy, zk_rv_some, zk_rv_none, Option.toList_some, Option.toList_none, List.cons_append, List.nil_append, reduceIte, eq_self, Nat.reduceLT, Nat.reduceEqDiff, and_true, true_and, reduceCtorEq, zx_28 ht, zx_29 ht, zx_30 ht, zx_31 ht, zx_r0 ht, zx_r1 ht, zx_r2 ht, w1, w2, w3, w4, e30, e29, e14, zsh_14, z1, z2, z3, z4, hend, z5, hstep, zj18_l6, zj18_l11, zj18_e10, zj18_l0, y1, y2, y3]
        simp (disch := omega) only [zn_in, zn_cl, nI_1]
        refine ⟨by omega, by omega, ?_⟩
        have ej := fun (M : zk_M) (P : Option Value → zk_M → Prop) => s125 (sc := sc) (d := d) (M := M) (P := P) (t := 10018) (a := I' (31 + 4 * t) (top - 2)) (b := I' (31 + 4 * t) (top - 1)) (by decide) (by decide)
        rw [show zt_c 10018 = -18 from by decide] at ej
        rw [ej]
        simp only [u124_0, u124_1, u124_2, u124_3, u124_6, u124_7, u124_10, u124_11, u124_14, u124_15, u124_16, u124_17, u124_18, u124_22, u124_23, u124_26, u124_27, u124_28, u124_31, u124_32, u124_35, u124_37, u124_38, u124_40, u124_42, u124_44, u124_47, u124_48, u124_50, u124_53, u124_54, u124_57, u124_58, u124_60, u124_63, u124_65, u124_68, u124_69, u124_70, u124_72, u124_73, u124_74, u124_75, u124_78, u124_81, u124_83, u124_85, u124_88, u124_89, u124_90, u124_93, u124_94, u124_97, u124_98, u124_99, u124_100, u124_102, u124_104, u124_107, u124_108, u124_111, u124_112, u124_113, u124_114, u124_115, u124_116, u124_119, u124_120, u124_123, u124_124, u124_125, u124_126, u124_127, u124_130, u124_131, u124_134, u124_135, u124_136, u124_139, u124_140, u124_141, u124_144, u124_147, u124_148, u124_151, u124_152, u124_153, u124_154, u124_156, u124_157, u124_160, u124_161, u124_162, u124_163, u124_164, u124_165, u124_168, u124_169, u124_170, u124_173, u124_174, u124_177, u124_180, u124_181, u124_184, u124_185, u124_186, zk_mk_1, zk_mk_I, zk_mk_R, zk_mk_set, zk_mk_setR, zk_mk_cpy, zk_rv_some, zk_rv_none, Option.toList_some, Option.toList_none, List.cons_append, List.nil_append, reduceIte, eq_self, Nat.reduceLT, Nat.reduceEqDiff, and_true, true_and, reduceCtorEq, zx_28 ht, zx_29 ht, zx_30 ht, zx_31 ht, zx_r0 ht, zx_r1 ht, zx_r2 ht, w1, w2, w3, w4, e30, e29, e14, zsh_14, z1, z2, z3, z4, hend, z5, y3]
        simp (disch := omega) only [zn_in, zn_cl, nI_1]
        refine ⟨by omega, ?_⟩
        exact ih2 (top - 1) _ hrun _ _ (fr _ _) (by rw [zk_up2_at]; exact zt_like h2' (by rw [h2' _ (by omega), h2' _ (by omega)]) (by omega)))
  by_cases hp0 : part = 0
  · subst hp0
    rw [if_pos rfl] at hst
    subst hst
    simp only [u124_0, u124_1, u124_2, u124_3, u124_6, u124_7, u124_10, u124_11, u124_14, u124_15, u124_16, u124_17, u124_18, u124_22, u124_23, u124_26, u124_27, u124_28, u124_31, u124_32, u124_35, u124_37, u124_38, u124_40, u124_42, u124_44, u124_47, u124_48, u124_50, u124_53, u124_54, u124_57, u124_58, u124_60, u124_63, u124_65, u124_68, u124_69, u124_70, u124_72, u124_73, u124_74, u124_75, u124_78, u124_81, u124_83, u124_85, u124_88, u124_89, u124_90, u124_93, u124_94, u124_97, u124_98, u124_99, u124_100, u124_102, u124_104, u124_107, u124_108, u124_111, u124_112, u124_113, u124_114, u124_115, u124_116, u124_119, u124_120, u124_123, u124_124, u124_125, u124_126, u124_127, u124_130, u124_131, u124_134, u124_135, u124_136, u124_139, u124_140, u124_141, u124_144, u124_147, u124_148, u124_151, u124_152, u124_153, u124_154, u124_156, u124_157, u124_160, u124_161, u124_162, u124_163, u124_164, u124_165, u124_168, u124_169, u124_170, u124_173, u124_174, u124_177, u124_180, u124_181, u124_184, u124_185, u124_186, zk_mk_1, zk_mk_I, zk_mk_R, zk_mk_set, zk_mk_setR, zk_mk_cpy, zk_rv_some, zk_rv_none, Option.toList_some, Option.toList_none, List.cons_append, List.nil_append, reduceIte, eq_self, Nat.reduceLT, Nat.reduceEqDiff, and_true, true_and, reduceCtorEq, show (nI 0 = 0) = True from eq_true rfl]
    exact loop 0 (I, none) (Nat.zero_le _) ⟨fun _ _ => rfl, fun j hj => absurd hj (Nat.not_lt_zero _)⟩
  · rw [if_neg hp0] at hst
    have y1 : nI part - 1 = nI (part - 1) := zn_sub (b := 1) (by omega)
    have y2 : ¬ nI part = 0 := by rw [show (0 : Int32) = nI 0 from rfl, zn_eq (by omega) (by omega)]; exact hp0
    simp only [u124_0, u124_1, u124_2, u124_3, u124_6, u124_7, u124_10, u124_11, u124_14, u124_15, u124_16, u124_17, u124_18, u124_22, u124_23, u124_26, u124_27, u124_28, u124_31, u124_32, u124_35, u124_37, u124_38, u124_40, u124_42, u124_44, u124_47, u124_48, u124_50, u124_53, u124_54, u124_57, u124_58, u124_60, u124_63, u124_65, u124_68, u124_69, u124_70, u124_72, u124_73, u124_74, u124_75, u124_78, u124_81, u124_83, u124_85, u124_88, u124_89, u124_90, u124_93, u124_94, u124_97, u124_98, u124_99, u124_100, u124_102, u124_104, u124_107, u124_108, u124_111, u124_112, u124_113, u124_114, u124_115, u124_116, u124_119, u124_120, u124_123, u124_124, u124_125, u124_126, u124_127, u124_130, u124_131, u124_134, u124_135, u124_136, u124_139, u124_140, u124_141, u124_144, u124_147, u124_148, u124_151, u124_152, u124_153, u124_154, u124_156, u124_157, u124_160, u124_161, u124_162, u124_163, u124_164, u124_165, u124_168, u124_169, u124_170, u124_173, u124_174, u124_177, u124_180, u124_181, u124_184, u124_185, u124_186, zk_mk_1, zk_mk_I, zk_mk_R, zk_mk_set, zk_mk_setR, zk_mk_cpy, zk_rv_some, zk_rv_none, Option.toList_some, Option.toList_none, List.cons_append, List.nil_append, reduceIte, eq_self, Nat.reduceLT, Nat.reduceEqDiff, and_true, true_and, reduceCtorEq, y1, y2, zx_28 ht, zx_30 ht, zx_r1 ht, w1, w3]
    simp (disch := omega) only [zn_in, zn_cl, hst]
    refine ⟨by omega, ?_⟩
    exact loop 0 (I, none) (Nat.zero_le _) ⟨fun _ _ => rfl, fun j hj => absurd hj (Nat.not_lt_zero _)⟩
theorem zm0_g : ((100000 : Int32) ≤ 0) = False := by decide
theorem zm0_k : ((11 : Int32) ≤ 0) = False := by decide
theorem zm0_d : ((0 : Int32) = 13) = False := by decide
theorem zm0_n : ((0 : Int32) = 19) = False := by decide
theorem zm1_g : ((100000 : Int32) ≤ 1) = False := by decide
theorem zm1_k : ((11 : Int32) ≤ 1) = False := by decide
theorem zm1_d : ((1 : Int32) = 13) = False := by decide
theorem zm1_n : ((1 : Int32) = 19) = False := by decide
theorem zm2_g : ((100000 : Int32) ≤ 2) = False := by decide
theorem zm2_k : ((11 : Int32) ≤ 2) = False := by decide
theorem zm2_d : ((2 : Int32) = 13) = False := by decide
theorem zm2_n : ((2 : Int32) = 19) = False := by decide
theorem zm3_g : ((100000 : Int32) ≤ 3) = False := by decide
theorem zm3_k : ((11 : Int32) ≤ 3) = False := by decide
theorem zm3_d : ((3 : Int32) = 13) = False := by decide
theorem zm3_n : ((3 : Int32) = 19) = False := by decide
theorem zm4_g : ((100000 : Int32) ≤ 4) = False := by decide
theorem zm4_k : ((11 : Int32) ≤ 4) = False := by decide
theorem zm4_d : ((4 : Int32) = 13) = False := by decide
theorem zm4_n : ((4 : Int32) = 19) = False := by decide
theorem zm5_g : ((100000 : Int32) ≤ 5) = False := by decide
theorem zm5_k : ((11 : Int32) ≤ 5) = False := by decide
theorem zm5_d : ((5 : Int32) = 13) = False := by decide
theorem zm5_n : ((5 : Int32) = 19) = False := by decide
theorem zm11_g : ((100000 : Int32) ≤ 11) = False := by decide
theorem zm11_k : ((11 : Int32) ≤ 11) = True := by decide
theorem zm11_d : ((11 : Int32) = 13) = False := by decide
theorem zm11_n : ((11 : Int32) = 19) = False := by decide
theorem zm12_g : ((100000 : Int32) ≤ 12) = False := by decide
theorem zm12_k : ((11 : Int32) ≤ 12) = True := by decide
theorem zm12_d : ((12 : Int32) = 13) = False := by decide
theorem zm12_n : ((12 : Int32) = 19) = False := by decide
theorem zm13_g : ((100000 : Int32) ≤ 13) = False := by decide
theorem zm13_k : ((11 : Int32) ≤ 13) = True := by decide
theorem zm13_d : ((13 : Int32) = 13) = True := by decide
theorem zm13_n : ((13 : Int32) = 19) = False := by decide
theorem zm14_g : ((100000 : Int32) ≤ 14) = False := by decide
theorem zm14_k : ((11 : Int32) ≤ 14) = True := by decide
theorem zm14_d : ((14 : Int32) = 13) = False := by decide
theorem zm14_n : ((14 : Int32) = 19) = False := by decide
theorem zm15_g : ((100000 : Int32) ≤ 15) = False := by decide
theorem zm15_k : ((11 : Int32) ≤ 15) = True := by decide
theorem zm15_d : ((15 : Int32) = 13) = False := by decide
theorem zm15_n : ((15 : Int32) = 19) = False := by decide
theorem zm16_g : ((100000 : Int32) ≤ 16) = False := by decide
theorem zm16_k : ((11 : Int32) ≤ 16) = True := by decide
theorem zm16_d : ((16 : Int32) = 13) = False := by decide
theorem zm16_n : ((16 : Int32) = 19) = False := by decide
theorem zm17_g : ((100000 : Int32) ≤ 17) = False := by decide
theorem zm17_k : ((11 : Int32) ≤ 17) = True := by decide
theorem zm17_d : ((17 : Int32) = 13) = False := by decide
theorem zm17_n : ((17 : Int32) = 19) = False := by decide
theorem zm18_g : ((100000 : Int32) ≤ 18) = False := by decide
theorem zm18_k : ((11 : Int32) ≤ 18) = True := by decide
theorem zm18_d : ((18 : Int32) = 13) = False := by decide
theorem zm18_n : ((18 : Int32) = 19) = False := by decide
theorem zm19_g : ((100000 : Int32) ≤ 19) = False := by decide
theorem zm19_k : ((11 : Int32) ≤ 19) = True := by decide
theorem zm19_d : ((19 : Int32) = 13) = False := by decide
theorem zm19_n : ((19 : Int32) = 19) = True := by decide
theorem zm_big {t : Nat} (h : t < 10000) : ((100000 : Int32) ≤ nI (100000 + t)) = True ∧ ((11 : Int32) ≤ nI (100000 + t)) = True ∧ nI (100000 + t) - 100000 = nI t := by
  refine ⟨?_, ?_, ?_⟩
  · rw [show (100000 : Int32) = nI 100000 from rfl, zn_le (by omega) (by omega)]; apply eq_true; omega
  · rw [show (11 : Int32) = nI 11 from rfl, zn_le (by omega) (by omega)]; apply eq_true; omega
  · rw [show (100000 : Int32) = nI 100000 from rfl, zn_sub (by omega), Nat.add_sub_cancel_left]
theorem s147 {sc : zk_X} {d : Nat} {I : Nat → Nat → Int32} {tg : Option Nat} {P : Option Value → zk_M → Prop} {t a k part : Nat} {T : Nat → Nat} (ht : t < 6) (hr : I 60 10 = nI t) (hp : part < 3) (hst : I 67 (4 * t + part) = nI a) (hend : I 67 (4 * t + part + 1) = nI (a + k)) (h160 : a + k ≤ 160) (hT : ∀ i, i < k → I 66 (200 * t + (a + i)) = zt_m (T (a + i))) (hwf : zt_wf T a k)
    (K : ∀ I' : Nat → Nat → Int32, (∀ j, j ≠ 75 → I' j = I j) → P (some (.int (zt_val (I 76) T a k))) (zk_mk I' tg)) : zk_R sc (d + 1) 147 0 [some (.ref (60 : Nat)), some (.int (nI part)), none, none, none] [] (zk_mk I tg) P := by
  have loop := zl_up (τ := (Nat → Nat → Int32) × Option Value) (fun i q => zk_R sc (d + 1) 147 16 [some (.ref (60 : Nat)), some (.int (nI part)), some (.int (nI (zt_run (I 76) T a i).1)), some (.int (nI (a + i))), q.2] [] (zk_mk q.1 tg) P)
    (fun i q => (∀ j, j ≠ 75 → q.1 j = I j) ∧ ∀ j, j < (zt_run (I 76) T a i).1 → q.1 75 j = (zt_run (I 76) T a i).2 j) k (by
      rintro ⟨I', x⟩ ⟨h1, h2⟩
      show zk_R sc (d + 1) 147 16 [some (.ref (60 : Nat)), some (.int (nI part)), some (.int (nI (zt_run (I 76) T a k).1)), some (.int (nI (a + k))), x] [] (zk_mk I' tg) P
      have e60 : I' 60 = I 60 := h1 _ (by omega)
      have e67 : I' 67 = I 67 := h1 _ (by omega)
      rw [u147_16]
      simp only [u147_0, u147_1, u147_2, u147_3, u147_6, u147_7, u147_8, u147_11, u147_12, u147_13, u147_14, u147_15, u147_17, u147_18, u147_21, u147_22, u147_23, u147_26, u147_27, u147_28, u147_29, u147_30, u147_31, u147_32, u147_35, u147_36, u147_39, u147_42, u147_43, u147_46, u147_47, u147_48, u147_49, u147_50, u147_52, u147_54, u147_56, u147_59, u147_61, u147_63, u147_66, u147_67, u147_70, u147_71, u147_73, u147_75, u147_78, u147_79, u147_82, u147_84, u147_85, u147_88, u147_90, u147_92, u147_93, u147_94, u147_97, u147_100, u147_102, u147_104, u147_107, u147_108, u147_111, u147_112, u147_113, u147_114, u147_115, u147_118, u147_119, u147_120, u147_121, u147_122, u147_125, u147_126, u147_129, u147_130, u147_131, u147_134, u147_136, u147_138, u147_141, u147_142, u147_145, u147_146, u147_147, u147_148, u147_149, u147_152, u147_153, u147_154, u147_155, u147_156, u147_157, u147_158, u147_161, u147_164, u147_165, u147_168, u147_169, u147_170, u147_171, u147_173, u147_174, u147_177, u147_178, u147_179, u147_180, u147_181, u147_182, u147_185, u147_186, u147_187, u147_190, u147_191, u147_194, u147_197, u147_198, u147_201, u147_202, u147_203, zk_mk_1, zk_mk_I, zk_mk_R, zk_mk_set, zk_mk_setR, zk_mk_cpy, zk_rv_some, zk_rv_none, Option.toList_some, Option.toList_none, List.cons_append, List.nil_append, reduceIte, eq_self, Nat.reduceLT, Nat.reduceEqDiff, and_true, true_and, reduceCtorEq, zsh_60, zsh_66, zsh_67, zsh_75, zsh_76, zrf_60_7, zrf_60_8, zrf_60_28, zrf_60_29, e60, e67, hr]
      simp (disch := omega) only [zn_in, zn_cl, nI_1, show (4 : Int32) = nI 4 from rfl, zn_mul, zn_add, hend]
      refine ⟨by omega, ?_⟩
      rw [if_pos (nI_le (Nat.le_refl _) (by omega))]
      refine ⟨by decide, ?_⟩
      have e0 : I' 75 (0 : Int32).toNatClampNeg = zt_val (I 76) T a k := by
        have := hwf.2
        exact h2 0 (by rw [zt_run1]; omega)
      rw [e0]
      exact K I' h1) (by
      rintro i ⟨I', x⟩ hi ⟨h1, h2⟩ ih
      show zk_R sc (d + 1) 147 16 [some (.ref (60 : Nat)), some (.int (nI part)), some (.int (nI (zt_run (I 76) T a i).1)), some (.int (nI (a + i))), x] [] (zk_mk I' tg) P
      have e60 : I' 60 = I 60 := h1 _ (by omega)
      have e67 : I' 67 = I 67 := h1 _ (by omega)
      have e66 : I' 66 = I 66 := h1 _ (by omega)
      have e76 : I' 76 = I 76 := h1 _ (by omega)
      have hok := hwf.1 i hi
      have hd40 := zt_dp40 hwf.1 i (by omega)
      rw [← zt_run1 (I 76) T a i] at hok hd40
      have hstep := hT i hi
      have hcs := zt_cases hok
      have hrun : zt_run (I 76) T a (i + 1) = zt_st (I 76) (T (a + i)) (zt_run (I 76) T a i) := rfl
      generalize zt_run (I 76) T a i = q at *
      obtain ⟨top, S⟩ := q
      have ih2 : ∀ (nt : Nat) (nS : Nat → Int32), zt_run (I 76) T a (i + 1) = (nt, nS) → ∀ (I2 : Nat → Nat → Int32) (y : Option Value), (∀ j, j ≠ 75 → I2 j = I j) → (∀ j, j < nt → I2 75 j = nS j) → zk_R sc (d + 1) 147 16 [some (.ref (60 : Nat)), some (.int (nI part)), some (.int (nI nt)), some (.int (nI (a + i + 1))), y] [] (zk_mk I2 tg) P := by
        intro nt nS e I2 y g1 g2
        have := ih (I2, y) ⟨g1, by rw [e]; exact g2⟩
        rw [e] at this
        exact this
      have fr : ∀ (x : Nat) (v : Int32), ∀ j, j ≠ 75 → zk_up2 I' 75 x v j = I j := fun x v j hj => by rw [zk_up2_r hj]; exact h1 j hj
      generalize T (a + i) = v at *
      have z1 : (4 : Int32) * nI t + nI part + 1 = nI (4 * t + part + 1) := by rw [show (4 : Int32) = nI 4 from rfl, zn_mul, zn_add, nI_1]
      have z2 : zk_inb (nI (4 * t + part + 1)) 24 = true := by rw [zn_in (by omega)]; omega
      have z3 : (nI (4 * t + part + 1)).toNatClampNeg = 4 * t + part + 1 := zn_cl (by omega)
      have z4 : (200 : Int32) * nI t + nI (a + i) = nI (200 * t + (a + i)) := by rw [show (200 : Int32) = nI 200 from rfl, zn_mul, zn_add]
      have z5 : ¬ nI (a + k) ≤ nI (a + i) := nI_ge (by omega) (by omega)
      have z6 : zk_inb (nI (200 * t + (a + i))) 1200 = true := by rw [zn_in (by omega)]; omega
      have z7 : (nI (200 * t + (a + i))).toNatClampNeg = 200 * t + (a + i) := zn_cl (by omega)
      unfold zt_ok at hok
      have h2' : ∀ j, j < top → I' 75 j = S j := h2
      have hok' : (v < 10006 ∧ top < 40) ∨ ((v = 10010 ∨ v = 10011) ∧ 1 ≤ top) ∨ (10012 ≤ v ∧ v < 10019 ∧ 2 ≤ top) := hok
      have hd40' : top ≤ 40 := hd40
      rw [u147_16]
      rcases hcs with h | h | h | h | h | h | h | h | h | h | h
      · rw [show zt_m v = nI (100000 + v) by unfold zt_m; rw [if_pos h]] at hstep
        obtain ⟨q1, q2, q3⟩ := zm_big h
        simp only [u147_0, u147_1, u147_2, u147_3, u147_6, u147_7, u147_8, u147_11, u147_12, u147_13, u147_14, u147_15, u147_17, u147_18, u147_21, u147_22, u147_23, u147_26, u147_27, u147_28, u147_29, u147_30, u147_31, u147_32, u147_35, u147_36, u147_39, u147_42, u147_43, u147_46, u147_47, u147_48, u147_49, u147_50, u147_52, u147_54, u147_56, u147_59, u147_61, u147_63, u147_66, u147_67, u147_70, u147_71, u147_73, u147_75, u147_78, u147_79, u147_82, u147_84, u147_85, u147_88, u147_90, u147_92, u147_93, u147_94, u147_97, u147_100, u147_102, u147_104, u147_107, u147_108, u147_111, u147_112, u147_113, u147_114, u147_115, u147_118, u147_119, u147_120, u147_121, u147_122, u147_125, u147_126, u147_129, u147_130, u147_131, u147_134, u147_136, u147_138, u147_141, u147_142, u147_145, u147_146, u147_147, u147_148, u147_149, u147_152, u147_153, u147_154, u147_155, u147_156, u147_157, u147_158, u147_161, u147_164, u147_165, u147_168, u147_169, u147_170, u147_171, u147_173, u147_174, u147_177, u147_178, u147_179, u147_180, u147_181, u147_182, u147_185, u147_186, u147_187, u147_190, u147_191, u147_194, u147_197, u147_198, u147_201, u147_202, u147_203, zk_mk_1, zk_mk_I, zk_mk_R, zk_mk_set, zk_mk_setR, zk_mk_cpy, zk_rv_some, zk_rv_none, Option.toList_some, Option.toList_none, List.cons_append, List.nil_append, reduceIte, eq_self, Nat.reduceLT, Nat.reduceEqDiff, and_true, true_and, reduceCtorEq, zsh_60, zsh_66, zsh_67, zsh_75, zsh_76, zrf_60_7, zrf_60_8, zrf_60_28, zrf_60_29, e60, e67, hr, e66, e76, z1, z2, z3, z4, z5, z6, z7, hend, hstep, q1, q2, q3]
        simp (disch := omega) only [zn_in, zn_cl, nI_1]
        refine ⟨by omega, ?_⟩
        exact ih2 (top + 1) _ (by rw [hrun, zt_st, if_pos h]) _ _ (fr _ _) (by rw [zk_up2_at]; exact zt_like h2' rfl (by omega))
      · rcases (show v = 10000 ∨ v = 10001 ∨ v = 10002 ∨ v = 10003 ∨ v = 10004 ∨ v = 10005 by omega) with rfl | rfl | rfl | rfl | rfl | rfl
        · replace hstep := hstep.trans (show zt_m 10000 = 0 from by decide)
          simp only [u147_0, u147_1, u147_2, u147_3, u147_6, u147_7, u147_8, u147_11, u147_12, u147_13, u147_14, u147_15, u147_17, u147_18, u147_21, u147_22, u147_23, u147_26, u147_27, u147_28, u147_29, u147_30, u147_31, u147_32, u147_35, u147_36, u147_39, u147_42, u147_43, u147_46, u147_47, u147_48, u147_49, u147_50, u147_52, u147_54, u147_56, u147_59, u147_61, u147_63, u147_66, u147_67, u147_70, u147_71, u147_73, u147_75, u147_78, u147_79, u147_82, u147_84, u147_85, u147_88, u147_90, u147_92, u147_93, u147_94, u147_97, u147_100, u147_102, u147_104, u147_107, u147_108, u147_111, u147_112, u147_113, u147_114, u147_115, u147_118, u147_119, u147_120, u147_121, u147_122, u147_125, u147_126, u147_129, u147_130, u147_131, u147_134, u147_136, u147_138, u147_141, u147_142, u147_145, u147_146, u147_147, u147_148, u147_149, u147_152, u147_153, u147_154, u147_155, u147_156, u147_157, u147_158, u147_161, u147_164, u147_165, u147_168, u147_169, u147_170, u147_171, u147_173, u147_174, u147_177, u147_178, u147_179, u147_180, u147_181, u147_182, u147_185, u147_186, u147_187, u147_190, u147_191, u147_194, u147_197, u147_198, u147_201, u147_202, u147_203, zk_mk_1, zk_mk_I, zk_mk_R, zk_mk_set, zk_mk_setR, zk_mk_cpy, zk_rv_some, zk_rv_none, Option.toList_some, Option.toList_none, List.cons_append, List.nil_append, reduceIte, eq_self, Nat.reduceLT, Nat.reduceEqDiff, and_true, true_and, reduceCtorEq, zsh_60, zsh_66, zsh_67, zsh_75, zsh_76, zrf_60_7, zrf_60_8, zrf_60_28, zrf_60_29, e60, e67, hr, e66, e76, z1, z2, z3, z4, z5, z6, z7, hend, hstep, zm0_g, zm0_k, zm0_d, zm0_n]
          simp (disch := omega) only [zn_in, zn_cl, nI_1, show zk_inb (0 : Int32) 6 = true from by decide, show (0 : Int32).toNatClampNeg = 0 from by decide, true_and]
          refine ⟨by omega, ?_⟩
          exact ih2 (top + 1) _ hrun _ _ (fr _ _) (by rw [zk_up2_at]; exact zt_like h2' rfl (by omega))
        · replace hstep := hstep.trans (show zt_m 10001 = 1 from by decide)
          simp only [u147_0, u147_1, u147_2, u147_3, u147_6, u147_7, u147_8, u147_11, u147_12, u147_13, u147_14, u147_15, u147_17, u147_18, u147_21, u147_22, u147_23, u147_26, u147_27, u147_28, u147_29, u147_30, u147_31, u147_32, u147_35, u147_36, u147_39, u147_42, u147_43, u147_46, u147_47, u147_48, u147_49, u147_50, u147_52, u147_54, u147_56, u147_59, u147_61, u147_63, u147_66, u147_67, u147_70, u147_71, u147_73, u147_75, u147_78, u147_79, u147_82, u147_84, u147_85, u147_88, u147_90, u147_92, u147_93, u147_94, u147_97, u147_100, u147_102, u147_104, u147_107, u147_108, u147_111, u147_112, u147_113, u147_114, u147_115, u147_118, u147_119, u147_120, u147_121, u147_122, u147_125, u147_126, u147_129, u147_130, u147_131, u147_134, u147_136, u147_138, u147_141, u147_142, u147_145, u147_146, u147_147, u147_148, u147_149, u147_152, u147_153, u147_154, u147_155, u147_156, u147_157, u147_158, u147_161, u147_164, u147_165, u147_168, u147_169, u147_170, u147_171, u147_173, u147_174, u147_177, u147_178, u147_179, u147_180, u147_181, u147_182, u147_185, u147_186, u147_187, u147_190, u147_191, u147_194, u147_197, u147_198, u147_201, u147_202, u147_203, zk_mk_1, zk_mk_I, zk_mk_R, zk_mk_set, zk_mk_setR, zk_mk_cpy, zk_rv_some, zk_rv_none, Option.toList_some, Option.toList_none, List.cons_append, List.nil_append, reduceIte, eq_self, Nat.reduceLT, Nat.reduceEqDiff, and_true, true_and, reduceCtorEq, zsh_60, zsh_66, zsh_67, zsh_75, zsh_76, zrf_60_7, zrf_60_8, zrf_60_28, zrf_60_29, e60, e67, hr, e66, e76, z1, z2, z3, z4, z5, z6, z7, hend, hstep, zm1_g, zm1_k, zm1_d, zm1_n]
          simp (disch := omega) only [zn_in, zn_cl, nI_1, show zk_inb (1 : Int32) 6 = true from by decide, show (1 : Int32).toNatClampNeg = 1 from by decide, true_and]
          refine ⟨by omega, ?_⟩
          exact ih2 (top + 1) _ hrun _ _ (fr _ _) (by rw [zk_up2_at]; exact zt_like h2' rfl (by omega))
        · replace hstep := hstep.trans (show zt_m 10002 = 2 from by decide)
          simp only [u147_0, u147_1, u147_2, u147_3, u147_6, u147_7, u147_8, u147_11, u147_12, u147_13, u147_14, u147_15, u147_17, u147_18, u147_21, u147_22, u147_23, u147_26, u147_27, u147_28, u147_29, u147_30, u147_31, u147_32, u147_35, u147_36, u147_39, u147_42, u147_43, u147_46, u147_47, u147_48, u147_49, u147_50, u147_52, u147_54, u147_56, u147_59, u147_61, u147_63, u147_66, u147_67, u147_70, u147_71, u147_73, u147_75, u147_78, u147_79, u147_82, u147_84, u147_85, u147_88, u147_90, u147_92, u147_93, u147_94, u147_97, u147_100, u147_102, u147_104, u147_107, u147_108, u147_111, u147_112, u147_113, u147_114, u147_115, u147_118, u147_119, u147_120, u147_121, u147_122, u147_125, u147_126, u147_129, u147_130, u147_131, u147_134, u147_136, u147_138, u147_141, u147_142, u147_145, u147_146, u147_147, u147_148, u147_149, u147_152, u147_153, u147_154, u147_155, u147_156, u147_157, u147_158, u147_161, u147_164, u147_165, u147_168, u147_169, u147_170, u147_171, u147_173, u147_174, u147_177, u147_178, u147_179, u147_180, u147_181, u147_182, u147_185, u147_186, u147_187, u147_190, u147_191, u147_194, u147_197, u147_198, u147_201, u147_202, u147_203, zk_mk_1, zk_mk_I, zk_mk_R, zk_mk_set, zk_mk_setR, zk_mk_cpy, zk_rv_some, zk_rv_none, Option.toList_some, Option.toList_none, List.cons_append, List.nil_append, reduceIte, eq_self, Nat.reduceLT, Nat.reduceEqDiff, and_true, true_and, reduceCtorEq, zsh_60, zsh_66, zsh_67, zsh_75, zsh_76, zrf_60_7, zrf_60_8, zrf_60_28, zrf_60_29, e60, e67, hr, e66, e76, z1, z2, z3, z4, z5, z6, z7, hend, hstep, zm2_g, zm2_k, zm2_d, zm2_n]
          simp (disch := omega) only [zn_in, zn_cl, nI_1, show zk_inb (2 : Int32) 6 = true from by decide, show (2 : Int32).toNatClampNeg = 2 from by decide, true_and]
          refine ⟨by omega, ?_⟩
          exact ih2 (top + 1) _ hrun _ _ (fr _ _) (by rw [zk_up2_at]; exact zt_like h2' rfl (by omega))
        · replace hstep := hstep.trans (show zt_m 10003 = 3 from by decide)
          simp only [u147_0, u147_1, u147_2, u147_3, u147_6, u147_7, u147_8, u147_11, u147_12, u147_13, u147_14, u147_15, u147_17, u147_18, u147_21, u147_22, u147_23, u147_26, u147_27, u147_28, u147_29, u147_30, u147_31, u147_32, u147_35, u147_36, u147_39, u147_42, u147_43, u147_46, u147_47, u147_48, u147_49, u147_50, u147_52, u147_54, u147_56, u147_59, u147_61, u147_63, u147_66, u147_67, u147_70, u147_71, u147_73, u147_75, u147_78, u147_79, u147_82, u147_84, u147_85, u147_88, u147_90, u147_92, u147_93, u147_94, u147_97, u147_100, u147_102, u147_104, u147_107, u147_108, u147_111, u147_112, u147_113, u147_114, u147_115, u147_118, u147_119, u147_120, u147_121, u147_122, u147_125, u147_126, u147_129, u147_130, u147_131, u147_134, u147_136, u147_138, u147_141, u147_142, u147_145, u147_146, u147_147, u147_148, u147_149, u147_152, u147_153, u147_154, u147_155, u147_156, u147_157, u147_158, u147_161, u147_164, u147_165, u147_168, u147_169, u147_170, u147_171, u147_173, u147_174, u147_177, u147_178, u147_179, u147_180, u147_181, u147_182, u147_185, u147_186, u147_187, u147_190, u147_191, u147_194, u147_197, u147_198, u147_201, u147_202, u147_203, zk_mk_1, zk_mk_I, zk_mk_R, zk_mk_set, zk_mk_setR, zk_mk_cpy, zk_rv_some, zk_rv_none, Option.toList_some, Option.toList_none, List.cons_append, List.nil_append, reduceIte, eq_self, Nat.reduceLT, Nat.reduceEqDiff, and_true, true_and, reduceCtorEq, zsh_60, zsh_66, zsh_67, zsh_75, zsh_76, zrf_60_7, zrf_60_8, zrf_60_28, zrf_60_29, e60, e67, hr, e66, e76, z1, z2, z3, z4, z5, z6, z7, hend, hstep, zm3_g, zm3_k, zm3_d, zm3_n]
          simp (disch := omega) only [zn_in, zn_cl, nI_1, show zk_inb (3 : Int32) 6 = true from by decide, show (3 : Int32).toNatClampNeg = 3 from by decide, true_and]
          refine ⟨by omega, ?_⟩
          exact ih2 (top + 1) _ hrun _ _ (fr _ _) (by rw [zk_up2_at]; exact zt_like h2' rfl (by omega))
        · replace hstep := hstep.trans (show zt_m 10004 = 4 from by decide)
          simp only [u147_0, u147_1, u147_2, u147_3, u147_6, u147_7, u147_8, u147_11, u147_12, u147_13, u147_14, u147_15, u147_17, u147_18, u147_21, u147_22, u147_23, u147_26, u147_27, u147_28, u147_29, u147_30, u147_31, u147_32, u147_35, u147_36, u147_39, u147_42, u147_43, u147_46, u147_47, u147_48, u147_49, u147_50, u147_52, u147_54, u147_56, u147_59, u147_61, u147_63, u147_66, u147_67, u147_70, u147_71, u147_73, u147_75, u147_78, u147_79, u147_82, u147_84, u147_85, u147_88, u147_90, u147_92, u147_93, u147_94, u147_97, u147_100, u147_102, u147_104, u147_107, u147_108, u147_111, u147_112, u147_113, u147_114, u147_115, u147_118, u147_119, u147_120, u147_121, u147_122, u147_125, u147_126, u147_129, u147_130, u147_131, u147_134, u147_136, u147_138, u147_141, u147_142, u147_145, u147_146, u147_147, u147_148, u147_149, u147_152, u147_153, u147_154, u147_155, u147_156, u147_157, u147_158, u147_161, u147_164, u147_165, u147_168, u147_169, u147_170, u147_171, u147_173, u147_174, u147_177, u147_178, u147_179, u147_180, u147_181, u147_182, u147_185, u147_186, u147_187, u147_190, u147_191, u147_194, u147_197, u147_198, u147_201, u147_202, u147_203, zk_mk_1, zk_mk_I, zk_mk_R, zk_mk_set, zk_mk_setR, zk_mk_cpy, zk_rv_some, zk_rv_none, Option.toList_some, Option.toList_none, List.cons_append, List.nil_append, reduceIte, eq_self, Nat.reduceLT, Nat.reduceEqDiff, and_true, true_and, reduceCtorEq, zsh_60, zsh_66, zsh_67, zsh_75, zsh_76, zrf_60_7, zrf_60_8, zrf_60_28, zrf_60_29, e60, e67, hr, e66, e76, z1, z2, z3, z4, z5, z6, z7, hend, hstep, zm4_g, zm4_k, zm4_d, zm4_n]
          simp (disch := omega) only [zn_in, zn_cl, nI_1, show zk_inb (4 : Int32) 6 = true from by decide, show (4 : Int32).toNatClampNeg = 4 from by decide, true_and]
          refine ⟨by omega, ?_⟩
          exact ih2 (top + 1) _ hrun _ _ (fr _ _) (by rw [zk_up2_at]; exact zt_like h2' rfl (by omega))
        · replace hstep := hstep.trans (show zt_m 10005 = 5 from by decide)
          simp only [u147_0, u147_1, u147_2, u147_3, u147_6, u147_7, u147_8, u147_11, u147_12, u147_13, u147_14, u147_15, u147_17, u147_18, u147_21, u147_22, u147_23, u147_26, u147_27, u147_28, u147_29, u147_30, u147_31, u147_32, u147_35, u147_36, u147_39, u147_42, u147_43, u147_46, u147_47, u147_48, u147_49, u147_50, u147_52, u147_54, u147_56, u147_59, u147_61, u147_63, u147_66, u147_67, u147_70, u147_71, u147_73, u147_75, u147_78, u147_79, u147_82, u147_84, u147_85, u147_88, u147_90, u147_92, u147_93, u147_94, u147_97, u147_100, u147_102, u147_104, u147_107, u147_108, u147_111, u147_112, u147_113, u147_114, u147_115, u147_118, u147_119, u147_120, u147_121, u147_122, u147_125, u147_126, u147_129, u147_130, u147_131, u147_134, u147_136, u147_138, u147_141, u147_142, u147_145, u147_146, u147_147, u147_148, u147_149, u147_152, u147_153, u147_154, u147_155, u147_156, u147_157, u147_158, u147_161, u147_164, u147_165, u147_168, u147_169, u147_170, u147_171, u147_173, u147_174, u147_177, u147_178, u147_179, u147_180, u147_181, u147_182, u147_185, u147_186, u147_187, u147_190, u147_191, u147_194, u147_197, u147_198, u147_201, u147_202, u147_203, zk_mk_1, zk_mk_I, zk_mk_R, zk_mk_set, zk_mk_setR, zk_mk_cpy, zk_rv_some, zk_rv_none, Option.toList_some, Option.toList_none, List.cons_append, List.nil_append, reduceIte, eq_self, Nat.reduceLT, Nat.reduceEqDiff, and_true, true_and, reduceCtorEq, zsh_60, zsh_66, zsh_67, zsh_75, zsh_76, zrf_60_7, zrf_60_8, zrf_60_28, zrf_60_29, e60, e67, hr, e66, e76, z1, z2, z3, z4, z5, z6, z7, hend, hstep, zm5_g, zm5_k, zm5_d, zm5_n]
          simp (disch := omega) only [zn_in, zn_cl, nI_1, show zk_inb (5 : Int32) 6 = true from by decide, show (5 : Int32).toNatClampNeg = 5 from by decide, true_and]
          refine ⟨by omega, ?_⟩
          exact ih2 (top + 1) _ hrun _ _ (fr _ _) (by rw [zk_up2_at]; exact zt_like h2' rfl (by omega))
      · subst h
        replace hstep := hstep.trans (show zt_m 10010 = 19 from by decide)
        have y1 : nI top - 1 = nI (top - 1) := zn_sub (b := 1) (by omega)
        simp only [u147_0, u147_1, u147_2, u147_3, u147_6, u147_7, u147_8, u147_11, u147_12, u147_13, u147_14, u147_15, u147_17, u147_18, u147_21, u147_22, u147_23, u147_26, u147_27, u147_28, u147_29, u147_30, u147_31, u147_32, u147_35, u147_36, u147_39, u147_42, u147_43, u147_46, u147_47, u147_48, u147_49, u147_50, u147_52, u147_54, u147_56, u147_59, u147_61, u147_63, u147_66, u147_67, u147_70, u147_71, u147_73, u147_75, u147_78, u147_79, u147_82, u147_84, u147_85, u147_88, u147_90, u147_92, u147_93, u147_94, u147_97, u147_100, u147_102, u147_104, u147_107, u147_108, u147_111, u147_112, u147_113, u147_114, u147_115, u147_118, u147_119, u147_120, u147_121, u147_122, u147_125, u147_126, u147_129, u147_130, u147_131, u147_134, u147_136, u147_138, u147_141, u147_142, u147_145, u147_146, u147_147, u147_148, u147_149, u147_152, u147_153, u147_154, u147_155, u147_156, u147_157, u147_158, u147_161, u147_164, u147_165, u147_168, u147_169, u147_170, u147_171, u147_173, u147_174, u147_177, u147_178, u147_179, u147_180, u147_181, u147_182, u147_185, u147_186, u147_187, u147_190, u147_191, u147_194, u147_197, u147_198, u147_201, u147_202, u147_203, zk_mk_1, zk_mk_I, zk_mk_R, zk_mk_set, zk_mk_setR, zk_mk_cpy, zk_rv_some, zk_rv_none, Option.toList_some, Option.toList_none, List.cons_append, List.nil_append, reduceIte, eq_self, Nat.reduceLT, Nat.reduceEqDiff, and_true, true_and, reduceCtorEq, zsh_60, zsh_66, zsh_67, zsh_75, zsh_76, zrf_60_7, zrf_60_8, zrf_60_28, zrf_60_29, e60, e67, hr, e66, e76, z1, z2, z3, z4, z5, z6, z7, hend, hstep, zm19_g, zm19_k, zm19_d, zm19_n, y1]
        simp (disch := omega) only [zn_in, zn_cl, nI_1]
        refine ⟨by omega, by omega, ?_⟩
        exact ih2 top _ hrun _ _ (fr _ _) (by rw [zk_up2_at]; exact zt_like h2' (by rw [h2' _ (by omega)]; rfl) (by omega))
      · subst h
        replace hstep := hstep.trans (show zt_m 10011 = 13 from by decide)
        have y1 : nI top - 1 = nI (top - 1) := zn_sub (b := 1) (by omega)
        simp only [u147_0, u147_1, u147_2, u147_3, u147_6, u147_7, u147_8, u147_11, u147_12, u147_13, u147_14, u147_15, u147_17, u147_18, u147_21, u147_22, u147_23, u147_26, u147_27, u147_28, u147_29, u147_30, u147_31, u147_32, u147_35, u147_36, u147_39, u147_42, u147_43, u147_46, u147_47, u147_48, u147_49, u147_50, u147_52, u147_54, u147_56, u147_59, u147_61, u147_63, u147_66, u147_67, u147_70, u147_71, u147_73, u147_75, u147_78, u147_79, u147_82, u147_84, u147_85, u147_88, u147_90, u147_92, u147_93, u147_94, u147_97, u147_100, u147_102, u147_104, u147_107, u147_108, u147_111, u147_112, u147_113, u147_114, u147_115, u147_118, u147_119, u147_120, u147_121, u147_122, u147_125, u147_126, u147_129, u147_130, u147_131, u147_134, u147_136, u147_138, u147_141, u147_142, u147_145, u147_146, u147_147, u147_148, u147_149, u147_152, u147_153, u147_154, u147_155, u147_156, u147_157, u147_158, u147_161, u147_164, u147_165, u147_168, u147_169, u147_170, u147_171, u147_173, u147_174, u147_177, u147_178, u147_179, u147_180, u147_181, u147_182, u147_185, u147_186, u147_187, u147_190, u147_191, u147_194, u147_197, u147_198, u147_201, u147_202, u147_203, zk_mk_1, zk_mk_I, zk_mk_R, zk_mk_set, zk_mk_setR, zk_mk_cpy, zk_rv_some, zk_rv_none, Option.toList_some, Option.toList_none, List.cons_append, List.nil_append, reduceIte, eq_self, Nat.reduceLT, Nat.reduceEqDiff, and_true, true_and, reduceCtorEq, zsh_60, zsh_66, zsh_67, zsh_75, zsh_76, zrf_60_7, zrf_60_8, zrf_60_28, zrf_60_29, e60, e67, hr, e66, e76, z1, z2, z3, z4, z5, z6, z7, hend, hstep, zm13_g, zm13_k, zm13_d, zm13_n, y1]
        simp (disch := omega) only [zn_in, zn_cl, nI_1]
        refine ⟨by omega, ?_⟩
        by_cases hz : I' 75 (top - 1) = 0
        · rw [if_pos hz]
          refine ⟨by omega, ?_⟩
          exact ih2 top _ hrun _ _ (fr _ _) (by rw [zk_up2_at]; exact zt_like h2' (by rw [h2' _ (by omega)] at hz; show 1 = zt_un 10011 (S (top - 1)); rw [hz]; rfl) (by omega))
        · rw [if_neg hz]
          refine ⟨by omega, ?_⟩
          exact ih2 top _ hrun _ _ (fr _ _) (by rw [zk_up2_at]; exact zt_like h2' (by rw [h2' _ (by omega)] at hz; show 0 = zt_un 10011 (S (top - 1)); unfold zt_un; rw [if_neg (by decide), if_neg hz]) (by omega))
      · subst h
        replace hstep := hstep.trans (show zt_m 10012 = 18 from by decide)
        have y1 : nI top + -1 = nI (top - 1) := by rw [← Int32.sub_eq_add_neg]; exact zn_sub (b := 1) (by omega)
        have y3 : nI (top - 1) - 1 = nI (top - 2) := zn_sub (b := 1) (by omega)
        simp only [u147_0, u147_1, u147_2, u147_3, u147_6, u147_7, u147_8, u147_11, u147_12, u147_13, u147_14, u147_15, u147_17, u147_18, u147_21, u147_22, u147_23, u147_26, u147_27, u147_28, u147_29, u147_30, u147_31, u147_32, u147_35, u147_36, u147_39, u147_42, u147_43, u147_46, u147_47, u147_48, u147_49, u147_50, u147_52, u147_54, u147_56, u147_59, u147_61, u147_63, u147_66, u147_67, u147_70, u147_71, u147_73, u147_75, u147_78, u147_79, u147_82, u147_84, u147_85, u147_88, u147_90, u147_92, u147_93, u147_94, u147_97, u147_100, u147_102, u147_104, u147_107, u147_108, u147_111, u147_112, u147_113, u147_114, u147_115, u147_118, u147_119, u147_120, u147_121, u147_122, u147_125, u147_126, u147_129, u147_130, u147_131, u147_134, u147_136, u147_138, u147_141, u147_142, u147_145, u147_146, u147_147, u147_148, u147_149, u147_152, u147_153, u147_154, u147_155, u147_156, u147_157, u147_158, u147_161, u147_164, u147_165, u147_168, u147_169, u147_170, u147_171, u147_173, u147_174, u147_177, u147_178, u147_179, u147_180, u147_181, u147_182, u147_185, u147_186, u147_187, u147_190, u147_191, u147_194, u147_197, u147_198, u147_201, u147_202, u147_203, zk_mk_1, zk_mk_I, zk_mk_R, zk_mk_set, zk_mk_setR, zk_mk_cpy, zk_rv_some, zk_rv_none, Option.toList_some, Option.toList_none, List.cons_append, List.nil_append, reduceIte, eq_self, Nat.reduceLT, Nat.reduceEqDiff, and_true, true_and, reduceCtorEq, zsh_60, zsh_66, zsh_67, zsh_75, zsh_76, zrf_60_7, zrf_60_8, zrf_60_28, zrf_60_29, e60, e67, hr, e66, e76, z1, z2, z3, z4, z5, z6, z7, hend, hstep, zm18_g, zm18_k, zm18_d, zm18_n, y1, y3]
        simp (disch := omega) only [zn_in, zn_cl, nI_1]
        refine ⟨by omega, by omega, ?_⟩
        have ej := fun (M : zk_M) (P : Option Value → zk_M → Prop) => s148 (sc := sc) (d := d) (M := M) (P := P) (t := 10012) (a := I' 75 (top - 2)) (b := I' 75 (top - 1)) (by decide) (by decide)
        rw [show zt_m 10012 = 18 from by decide] at ej
        rw [ej]
        simp only [u147_0, u147_1, u147_2, u147_3, u147_6, u147_7, u147_8, u147_11, u147_12, u147_13, u147_14, u147_15, u147_17, u147_18, u147_21, u147_22, u147_23, u147_26, u147_27, u147_28, u147_29, u147_30, u147_31, u147_32, u147_35, u147_36, u147_39, u147_42, u147_43, u147_46, u147_47, u147_48, u147_49, u147_50, u147_52, u147_54, u147_56, u147_59, u147_61, u147_63, u147_66, u147_67, u147_70, u147_71, u147_73, u147_75, u147_78, u147_79, u147_82, u147_84, u147_85, u147_88, u147_90, u147_92, u147_93, u147_94, u147_97, u147_100, u147_102, u147_104, u147_107, u147_108, u147_111, u147_112, u147_113, u147_114, u147_115, u147_118, u147_119, u147_120, u147_121, u147_122, u147_125, u147_126, u147_129, u147_130, u147_131, u147_134, u147_136, u147_138, u147_141, u147_142, u147_145, u147_146, u147_147, u147_148, u147_149, u147_152, u147_153, u147_154, u147_155, u147_156, u147_157, u147_158, u147_161, u147_164, u147_165, u147_168, u147_169, u147_170, u147_171, u147_173, u147_174, u147_177, u147_178, u147_179, u147_180, u147_181, u147_182, u147_185, u147_186, u147_187, u147_190, u147_191, u147_194, u147_197, u147_198, u147_201, u147_202, u147_203, zk_mk_1, zk_mk_I, zk_mk_R, zk_mk_set, zk_mk_setR, zk_mk_cpy, zk_rv_some, zk_rv_none, Option.toList_some, Option.toList_none, List.cons_append, List.nil_append, reduceIte, eq_self, Nat.reduceLT, Nat.reduceEqDiff, and_true, true_and, reduceCtorEq, zsh_60, zsh_66, zsh_67, zsh_75, zsh_76, zrf_60_7, zrf_60_8, zrf_60_28, zrf_60_29, e60, e67, hr, e66, e76, z1, z2, z3, z4, z5, z6, z7, hend, y3]
        simp (disch := omega) only [zn_in, zn_cl, nI_1]
        refine ⟨by omega, ?_⟩
        exact ih2 (top - 1) _ hrun _ _ (fr _ _) (by rw [zk_up2_at]; exact zt_like h2' (by rw [h2' _ (by omega), h2' _ (by omega)]) (by omega))
      · subst h
        replace hstep := hstep.trans (show zt_m 10013 = 16 from by decide)
        have y1 : nI top + -1 = nI (top - 1) := by rw [← Int32.sub_eq_add_neg]; exact zn_sub (b := 1) (by omega)
        have y3 : nI (top - 1) - 1 = nI (top - 2) := zn_sub (b := 1) (by omega)
        simp only [u147_0, u147_1, u147_2, u147_3, u147_6, u147_7, u147_8, u147_11, u147_12, u147_13, u147_14, u147_15, u147_17, u147_18, u147_21, u147_22, u147_23, u147_26, u147_27, u147_28, u147_29, u147_30, u147_31, u147_32, u147_35, u147_36, u147_39, u147_42, u147_43, u147_46, u147_47, u147_48, u147_49, u147_50, u147_52, u147_54, u147_56, u147_59, u147_61, u147_63, u147_66, u147_67, u147_70, u147_71, u147_73, u147_75, u147_78, u147_79, u147_82, u147_84, u147_85, u147_88, u147_90, u147_92, u147_93, u147_94, u147_97, u147_100, u147_102, u147_104, u147_107, u147_108, u147_111, u147_112, u147_113, u147_114, u147_115, u147_118, u147_119, u147_120, u147_121, u147_122, u147_125, u147_126, u147_129, u147_130, u147_131, u147_134, u147_136, u147_138, u147_141, u147_142, u147_145, u147_146, u147_147, u147_148, u147_149, u147_152, u147_153, u147_154, u147_155, u147_156, u147_157, u147_158, u147_161, u147_164, u147_165, u147_168, u147_169, u147_170, u147_171, u147_173, u147_174, u147_177, u147_178, u147_179, u147_180, u147_181, u147_182, u147_185, u147_186, u147_187, u147_190, u147_191, u147_194, u147_197, u147_198, u147_201, u147_202, u147_203, zk_mk_1, zk_mk_I, zk_mk_R, zk_mk_set, zk_mk_setR, zk_mk_cpy, zk_rv_some, zk_rv_none, Option.toList_some, Option.toList_none, List.cons_append, List.nil_append, reduceIte, eq_self, Nat.reduceLT, Nat.reduceEqDiff, and_true, true_and, reduceCtorEq, zsh_60, zsh_66, zsh_67, zsh_75, zsh_76, zrf_60_7, zrf_60_8, zrf_60_28, zrf_60_29, e60, e67, hr, e66, e76, z1, z2, z3, z4, z5, z6, z7, hend, hstep, zm16_g, zm16_k, zm16_d, zm16_n, y1, y3]
        simp (disch := omega) only [zn_in, zn_cl, nI_1]
        refine ⟨by omega, by omega, ?_⟩
        have ej := fun (M : zk_M) (P : Option Value → zk_M → Prop) => s148 (sc := sc) (d := d) (M := M) (P := P) (t := 10013) (a := I' 75 (top - 2)) (b := I' 75 (top - 1)) (by decide) (by decide)
        rw [show zt_m 10013 = 16 from by decide] at ej
        rw [ej]
        simp only [u147_0, u147_1, u147_2, u147_3, u147_6, u147_7, u147_8, u147_11, u147_12, u147_13, u147_14, u147_15, u147_17, u147_18, u147_21, u147_22, u147_23, u147_26, u147_27, u147_28, u147_29, u147_30, u147_31, u147_32, u147_35, u147_36, u147_39, u147_42, u147_43, u147_46, u147_47, u147_48, u147_49, u147_50, u147_52, u147_54, u147_56, u147_59, u147_61, u147_63, u147_66, u147_67, u147_70, u147_71, u147_73, u147_75, u147_78, u147_79, u147_82, u147_84, u147_85, u147_88, u147_90, u147_92, u147_93, u147_94, u147_97, u147_100, u147_102, u147_104, u147_107, u147_108, u147_111, u147_112, u147_113, u147_114, u147_115, u147_118, u147_119, u147_120, u147_121, u147_122, u147_125, u147_126, u147_129, u147_130, u147_131, u147_134, u147_136, u147_138, u147_141, u147_142, u147_145, u147_146, u147_147, u147_148, u147_149, u147_152, u147_153, u147_154, u147_155, u147_156, u147_157, u147_158, u147_161, u147_164, u147_165, u147_168, u147_169, u147_170, u147_171, u147_173, u147_174, u147_177, u147_178, u147_179, u147_180, u147_181, u147_182, u147_185, u147_186, u147_187, u147_190, u147_191, u147_194, u147_197, u147_198, u147_201, u147_202, u147_203, zk_mk_1, zk_mk_I, zk_mk_R, zk_mk_set, zk_mk_setR, zk_mk_cpy, zk_rv_some, zk_rv_none, Option.toList_some, Option.toList_none, List.cons_append, List.nil_append, reduceIte, eq_self, Nat.reduceLT, Nat.reduceEqDiff, and_true, true_and, reduceCtorEq, zsh_60, zsh_66, zsh_67, zsh_75, zsh_76, zrf_60_7, zrf_60_8, zrf_60_28, zrf_60_29, e60, e67, hr, e66, e76, z1, z2, z3, z4, z5, z6, z7, hend, y3]
        simp (disch := omega) only [zn_in, zn_cl, nI_1]
        refine ⟨by omega, ?_⟩
        exact ih2 (top - 1) _ hrun _ _ (fr _ _) (by rw [zk_up2_at]; exact zt_like h2' (by rw [h2' _ (by omega), h2' _ (by omega)]) (by omega))
      · subst h
        replace hstep := hstep.trans (show zt_m 10014 = 17 from by decide)
        have y1 : nI top + -1 = nI (top - 1) := by rw [← Int32.sub_eq_add_neg]; exact zn_sub (b := 1) (by omega)
        have y3 : nI (top - 1) - 1 = nI (top - 2) := zn_sub (b := 1) (by omega)
        simp only [u147_0, u147_1, u147_2, u147_3, u147_6, u147_7, u147_8, u147_11, u147_12, u147_13, u147_14, u147_15, u147_17, u147_18, u147_21, u147_22, u147_23, u147_26, u147_27, u147_28, u147_29, u147_30, u147_31, u147_32, u147_35, u147_36, u147_39, u147_42, u147_43, u147_46, u147_47, u147_48, u147_49, u147_50, u147_52, u147_54, u147_56, u147_59, u147_61, u147_63, u147_66, u147_67, u147_70, u147_71, u147_73, u147_75, u147_78, u147_79, u147_82, u147_84, u147_85, u147_88, u147_90, u147_92, u147_93, u147_94, u147_97, u147_100, u147_102, u147_104, u147_107, u147_108, u147_111, u147_112, u147_113, u147_114, u147_115, u147_118, u147_119, u147_120, u147_121, u147_122, u147_125, u147_126, u147_129, u147_130, u147_131, u147_134, u147_136, u147_138, u147_141, u147_142, u147_145, u147_146, u147_147, u147_148, u147_149, u147_152, u147_153, u147_154, u147_155, u147_156, u147_157, u147_158, u147_161, u147_164, u147_165, u147_168, u147_169, u147_170, u147_171, u147_173, u147_174, u147_177, u147_178, u147_179, u147_180, u147_181, u147_182, u147_185, u147_186, u147_187, u147_190, u147_191, u147_194, u147_197, u147_198, u147_201, u147_202, u147_203, zk_mk_1, zk_mk_I, zk_mk_R, zk_mk_set, zk_mk_setR, zk_mk_cpy, zk_rv_some, zk_rv_none, Option.toList_some, Option.toList_none, List.cons_append, List.nil_append, reduceIte, eq_self, Nat.reduceLT, Nat.reduceEqDiff, and_true, true_and, reduceCtorEq, zsh_60, zsh_66, zsh_67, zsh_75, zsh_76, zrf_60_7, zrf_60_8, zrf_60_28, zrf_60_29, e60, e67, hr, e66, e76, z1, z2, z3, z4, z5, z6, z7, hend, hstep, zm17_g, zm17_k, zm17_d, zm17_n, y1, y3]
        simp (disch := omega) only [zn_in, zn_cl, nI_1]
        refine ⟨by omega, by omega, ?_⟩
        have ej := fun (M : zk_M) (P : Option Value → zk_M → Prop) => s148 (sc := sc) (d := d) (M := M) (P := P) (t := 10014) (a := I' 75 (top - 2)) (b := I' 75 (top - 1)) (by decide) (by decide)
        rw [show zt_m 10014 = 17 from by decide] at ej
        rw [ej]
        simp only [u147_0, u147_1, u147_2, u147_3, u147_6, u147_7, u147_8, u147_11, u147_12, u147_13, u147_14, u147_15, u147_17, u147_18, u147_21, u147_22, u147_23, u147_26, u147_27, u147_28, u147_29, u147_30, u147_31, u147_32, u147_35, u147_36, u147_39, u147_42, u147_43, u147_46, u147_47, u147_48, u147_49, u147_50, u147_52, u147_54, u147_56, u147_59, u147_61, u147_63, u147_66, u147_67, u147_70, u147_71, u147_73, u147_75, u147_78, u147_79, u147_82, u147_84, u147_85, u147_88, u147_90, u147_92, u147_93, u147_94, u147_97, u147_100, u147_102, u147_104, u147_107, u147_108, u147_111, u147_112, u147_113, u147_114, u147_115, u147_118, u147_119, u147_120, u147_121, u147_122, u147_125, u147_126, u147_129, u147_130, u147_131, u147_134, u147_136, u147_138, u147_141, u147_142, u147_145, u147_146, u147_147, u147_148, u147_149, u147_152, u147_153, u147_154, u147_155, u147_156, u147_157, u147_158, u147_161, u147_164, u147_165, u147_168, u147_169, u147_170, u147_171, u147_173, u147_174, u147_177, u147_178, u147_179, u147_180, u147_181, u147_182, u147_185, u147_186, u147_187, u147_190, u147_191, u147_194, u147_197, u147_198, u147_201, u147_202, u147_203, zk_mk_1, zk_mk_I, zk_mk_R, zk_mk_set, zk_mk_setR, zk_mk_cpy, zk_rv_some, zk_rv_none, Option.toList_some, Option.toList_none, List.cons_append, List.nil_append, reduceIte, eq_self, Nat.reduceLT, Nat.reduceEqDiff, and_true, true_and, reduceCtorEq, zsh_60, zsh_66, zsh_67, zsh_75, zsh_76, zrf_60_7, zrf_60_8, zrf_60_28, zrf_60_29, e60, e67, hr, e66, e76, z1, z2, z3, z4, z5, z6, z7, hend, y3]
        simp (disch := omega) only [zn_in, zn_cl, nI_1]
        refine ⟨by omega, ?_⟩
        exact ih2 (top - 1) _ hrun _ _ (fr _ _) (by rw [zk_up2_at]; exact zt_like h2' (by rw [h2' _ (by omega), h2' _ (by omega)]) (by omega))
      · subst h
        replace hstep := hstep.trans (show zt_m 10015 = 14 from by decide)
        have y1 : nI top + -1 = nI (top - 1) := by rw [← Int32.sub_eq_add_neg]; exact zn_sub (b := 1) (by omega)
        have y3 : nI (top - 1) - 1 = nI (top - 2) := zn_sub (b := 1) (by omega)
        simp only [u147_0, u147_1, u147_2, u147_3, u147_6, u147_7, u147_8, u147_11, u147_12, u147_13, u147_14, u147_15, u147_17, u147_18, u147_21, u147_22, u147_23, u147_26, u147_27, u147_28, u147_29, u147_30, u147_31, u147_32, u147_35, u147_36, u147_39, u147_42, u147_43, u147_46, u147_47, u147_48, u147_49, u147_50, u147_52, u147_54, u147_56, u147_59, u147_61, u147_63, u147_66, u147_67, u147_70, u147_71, u147_73, u147_75, u147_78, u147_79, u147_82, u147_84, u147_85, u147_88, u147_90, u147_92, u147_93, u147_94, u147_97, u147_100, u147_102, u147_104, u147_107, u147_108, u147_111, u147_112, u147_113, u147_114, u147_115, u147_118, u147_119, u147_120, u147_121, u147_122, u147_125, u147_126, u147_129, u147_130, u147_131, u147_134, u147_136, u147_138, u147_141, u147_142, u147_145, u147_146, u147_147, u147_148, u147_149, u147_152, u147_153, u147_154, u147_155, u147_156, u147_157, u147_158, u147_161, u147_164, u147_165, u147_168, u147_169, u147_170, u147_171, u147_173, u147_174, u147_177, u147_178, u147_179, u147_180, u147_181, u147_182, u147_185, u147_186, u147_187, u147_190, u147_191, u147_194, u147_197, u147_198, u147_201, u147_202, u147_203, zk_mk_1, zk_mk_I, zk_mk_R, zk_mk_set, zk_mk_setR, zk_mk_cpy, zk_rv_some, zk_rv_none, Option.toList_some, Option.toList_none, List.cons_append, List.nil_append, reduceIte, eq_self, Nat.reduceLT, Nat.reduceEqDiff, and_true, true_and, reduceCtorEq, zsh_60, zsh_66, zsh_67, zsh_75, zsh_76, zrf_60_7, zrf_60_8, zrf_60_28, zrf_60_29, e60, e67, hr, e66, e76, z1, z2, z3, z4, z5, z6, z7, hend, hstep, zm14_g, zm14_k, zm14_d, zm14_n, y1, y3]
        simp (disch := omega) only [zn_in, zn_cl, nI_1]
        refine ⟨by omega, by omega, ?_⟩
        have ej := fun (M : zk_M) (P : Option Value → zk_M → Prop) => s148 (sc := sc) (d := d) (M := M) (P := P) (t := 10015) (a := I' 75 (top - 2)) (b := I' 75 (top - 1)) (by decide) (by decide)
        rw [show zt_m 10015 = 14 from by decide] at ej
        rw [ej]
        simp only [u147_0, u147_1, u147_2, u147_3, u147_6, u147_7, u147_8, u147_11, u147_12, u147_13, u147_14, u147_15, u147_17, u147_18, u147_21, u147_22, u147_23, u147_26, u147_27, u147_28, u147_29, u147_30, u147_31, u147_32, u147_35, u147_36, u147_39, u147_42, u147_43, u147_46, u147_47, u147_48, u147_49, u147_50, u147_52, u147_54, u147_56, u147_59, u147_61, u147_63, u147_66, u147_67, u147_70, u147_71, u147_73, u147_75, u147_78, u147_79, u147_82, u147_84, u147_85, u147_88, u147_90, u147_92, u147_93, u147_94, u147_97, u147_100, u147_102, u147_104, u147_107, u147_108, u147_111, u147_112, u147_113, u147_114, u147_115, u147_118, u147_119, u147_120, u147_121, u147_122, u147_125, u147_126, u147_129, u147_130, u147_131, u147_134, u147_136, u147_138, u147_141, u147_142, u147_145, u147_146, u147_147, u147_148, u147_149, u147_152, u147_153, u147_154, u147_155, u147_156, u147_157, u147_158, u147_161, u147_164, u147_165, u147_168, u147_169, u147_170, u147_171, u147_173, u147_174, u147_177, u147_178, u147_179, u147_180, u147_181, u147_182, u147_185, u147_186, u147_187, u147_190, u147_191, u147_194, u147_197, u147_198, u147_201, u147_202, u147_203, zk_mk_1, zk_mk_I, zk_mk_R, zk_mk_set, zk_mk_setR, zk_mk_cpy, zk_rv_some, zk_rv_none, Option.toList_some, Option.toList_none, List.cons_append, List.nil_append, reduceIte, eq_self, Nat.reduceLT, Nat.reduceEqDiff, and_true, true_and, reduceCtorEq, zsh_60, zsh_66, zsh_67, zsh_75, zsh_76, zrf_60_7, zrf_60_8, zrf_60_28, zrf_60_29, e60, e67, hr, e66, e76, z1, z2, z3, z4, z5, z6, z7, hend, y3]
        simp (disch := omega) only [zn_in, zn_cl, nI_1]
        refine ⟨by omega, ?_⟩
        exact ih2 (top - 1) _ hrun _ _ (fr _ _) (by rw [zk_up2_at]; exact zt_like h2' (by rw [h2' _ (by omega), h2' _ (by omega)]) (by omega))
      · subst h
        replace hstep := hstep.trans (show zt_m 10016 = 15 from by decide)
        have y1 : nI top + -1 = nI (top - 1) := by rw [← Int32.sub_eq_add_neg]; exact zn_sub (b := 1) (by omega)
        have y3 : nI (top - 1) - 1 = nI (top - 2) := zn_sub (b := 1) (by omega)
        simp only [u147_0, u147_1, u147_2, u147_3, u147_6, u147_7, u147_8, u147_11, u147_12, u147_13, u147_14, u147_15, u147_17, u147_18, u147_21, u147_22, u147_23, u147_26, u147_27, u147_28, u147_29, u147_30, u147_31, u147_32, u147_35, u147_36, u147_39, u147_42, u147_43, u147_46, u147_47, u147_48, u147_49, u147_50, u147_52, u147_54, u147_56, u147_59, u147_61, u147_63, u147_66, u147_67, u147_70, u147_71, u147_73, u147_75, u147_78, u147_79, u147_82, u147_84, u147_85, u147_88, u147_90, u147_92, u147_93, u147_94, u147_97, u147_100, u147_102, u147_104, u147_107, u147_108, u147_111, u147_112, u147_113, u147_114, u147_115, u147_118, u147_119, u147_120, u147_121, u147_122, u147_125, u147_126, u147_129, u147_130, u147_131, u147_134, u147_136, u147_138, u147_141, u147_142, u147_145, u147_146, u147_147, u147_148, u147_149, u147_152, u147_153, u147_154, u147_155, u147_156, u147_157, u147_158, u147_161, u147_164, u147_165, u147_168, u147_169, u147_170, u147_171, u147_173, u147_174, u147_177, u147_178, u147_179, u147_180, u147_181, u147_182, u147_185, u147_186, u147_187, u147_190, u147_191, u147_194, u147_197, u147_198, u147_201, u147_202, u147_203, zk_mk_1, zk_mk_I, zk_mk_R, zk_mk_set, zk_mk_setR, zk_mk_cpy, zk_rv_some, zk_rv_none, Option.toList_some, Option.toList_none, List.cons_append, List.nil_append, reduceIte, eq_self, Nat.reduceLT, Nat.reduceEqDiff, and_true, true_and, reduceCtorEq, zsh_60, zsh_66, zsh_67, zsh_75, zsh_76, zrf_60_7, zrf_60_8, zrf_60_28, zrf_60_29, e60, e67, hr, e66, e76, z1, z2, z3, z4, z5, z6, z7, hend, hstep, zm15_g, zm15_k, zm15_d, zm15_n, y1, y3]
        simp (disch := omega) only [zn_in, zn_cl, nI_1]
        refine ⟨by omega, by omega, ?_⟩
        have ej := fun (M : zk_M) (P : Option Value → zk_M → Prop) => s148 (sc := sc) (d := d) (M := M) (P := P) (t := 10016) (a := I' 75 (top - 2)) (b := I' 75 (top - 1)) (by decide) (by decide)
        rw [show zt_m 10016 = 15 from by decide] at ej
        rw [ej]
        simp only [u147_0, u147_1, u147_2, u147_3, u147_6, u147_7, u147_8, u147_11, u147_12, u147_13, u147_14, u147_15, u147_17, u147_18, u147_21, u147_22, u147_23, u147_26, u147_27, u147_28, u147_29, u147_30, u147_31, u147_32, u147_35, u147_36, u147_39, u147_42, u147_43, u147_46, u147_47, u147_48, u147_49, u147_50, u147_52, u147_54, u147_56, u147_59, u147_61, u147_63, u147_66, u147_67, u147_70, u147_71, u147_73, u147_75, u147_78, u147_79, u147_82, u147_84, u147_85, u147_88, u147_90, u147_92, u147_93, u147_94, u147_97, u147_100, u147_102, u147_104, u147_107, u147_108, u147_111, u147_112, u147_113, u147_114, u147_115, u147_118, u147_119, u147_120, u147_121, u147_122, u147_125, u147_126, u147_129, u147_130, u147_131, u147_134, u147_136, u147_138, u147_141, u147_142, u147_145, u147_146, u147_147, u147_148, u147_149, u147_152, u147_153, u147_154, u147_155, u147_156, u147_157, u147_158, u147_161, u147_164, u147_165, u147_168, u147_169, u147_170, u147_171, u147_173, u147_174, u147_177, u147_178, u147_179, u147_180, u147_181, u147_182, u147_185, u147_186, u147_187, u147_190, u147_191, u147_194, u147_197, u147_198, u147_201, u147_202, u147_203, zk_mk_1, zk_mk_I, zk_mk_R, zk_mk_set, zk_mk_setR, zk_mk_cpy, zk_rv_some, zk_rv_none, Option.toList_some, Option.toList_none, List.cons_append, List.nil_append, reduceIte, eq_self, Nat.reduceLT, Nat.reduceEqDiff, and_true, true_and, reduceCtorEq, zsh_60, zsh_66, zsh_67, zsh_75, zsh_76, zrf_60_7, zrf_60_8, zrf_60_28, zrf_60_29, e60, e67, hr, e66, e76, z1, z2, z3, z4, z5, z6, z7, hend, y3]
        simp (disch := omega) only [zn_in, zn_cl, nI_1]
        refine ⟨by omega, ?_⟩
        exact ih2 (top - 1) _ hrun _ _ (fr _ _) (by rw [zk_up2_at]; exact zt_like h2' (by rw [h2' _ (by omega), h2' _ (by omega)]) (by omega))
      · subst h
        replace hstep := hstep.trans (show zt_m 10017 = 12 from by decide)
        have y1 : nI top + -1 = nI (top - 1) := by rw [← Int32.sub_eq_add_neg]; exact zn_sub (b := 1) (by omega)
        have y3 : nI (top - 1) - 1 = nI (top - 2) := zn_sub (b := 1) (by omega)
        simp only [u147_0, u147_1, u147_2, u147_3, u147_6, u147_7, u147_8, u147_11, u147_12, u147_13, u147_14, u147_15, u147_17, u147_18, u147_21, u147_22, u147_23, u147_26, u147_27, u147_28, u147_29, u147_30, u147_31, u147_32, u147_35, u147_36, u147_39, u147_42, u147_43, u147_46, u147_47, u147_48, u147_49, u147_50, u147_52, u147_54, u147_56, u147_59, u147_61, u147_63, u147_66, u147_67, u147_70, u147_71, u147_73, u147_75, u147_78, u147_79, u147_82, u147_84, u147_85, u147_88, u147_90, u147_92, u147_93, u147_94, u147_97, u147_100, u147_102, u147_104, u147_107, u147_108, u147_111, u147_112, u147_113, u147_114, u147_115, u147_118, u147_119, u147_120, u147_121, u147_122, u147_125, u147_126, u147_129, u147_130, u147_131, u147_134, u147_136, u147_138, u147_141, u147_142, u147_145, u147_146, u147_147, u147_148, u147_149, u147_152, u147_153, u147_154, u147_155, u147_156, u147_157, u147_158, u147_161, u147_164, u147_165, u147_168, u147_169, u147_170, u147_171, u147_173, u147_174, u147_177, u147_178, u147_179, u147_180, u147_181, u147_182, u147_185, u147_186, u147_187, u147_190, u147_191, u147_194, u147_197, u147_198, u147_201, u147_202, u147_203, zk_mk_1, zk_mk_I, zk_mk_R, zk_mk_set, zk_mk_setR, zk_mk_cpy, zk_rv_some, zk_rv_none, Option.toList_some, Option.toList_none, List.cons_append, List.nil_append, reduceIte, eq_self, Nat.reduceLT, Nat.reduceEqDiff, and_true, true_and, reduceCtorEq, zsh_60, zsh_66, zsh_67, zsh_75, zsh_76, zrf_60_7, zrf_60_8, zrf_60_28, zrf_60_29, e60, e67, hr, e66, e76, z1, z2, z3, z4, z5, z6, z7, hend, hstep, zm12_g, zm12_k, zm12_d, zm12_n, y1, y3]
        simp (disch := omega) only [zn_in, zn_cl, nI_1]
        refine ⟨by omega, by omega, ?_⟩
        have ej := fun (M : zk_M) (P : Option Value → zk_M → Prop) => s148 (sc := sc) (d := d) (M := M) (P := P) (t := 10017) (a := I' 75 (top - 2)) (b := I' 75 (top - 1)) (by decide) (by decide)
        rw [show zt_m 10017 = 12 from by decide] at ej
        rw [ej]
        simp only [u147_0, u147_1, u147_2, u147_3, u147_6, u147_7, u147_8, u147_11, u147_12, u147_13, u147_14, u147_15, u147_17, u147_18, u147_21, u147_22, u147_23, u147_26, u147_27, u147_28, u147_29, u147_30, u147_31, u147_32, u147_35, u147_36, u147_39, u147_42, u147_43, u147_46, u147_47, u147_48, u147_49, u147_50, u147_52, u147_54, u147_56, u147_59, u147_61, u147_63, u147_66, u147_67, u147_70, u147_71, u147_73, u147_75, u147_78, u147_79, u147_82, u147_84, u147_85, u147_88, u147_90, u147_92, u147_93, u147_94, u147_97, u147_100, u147_102, u147_104, u147_107, u147_108, u147_111, u147_112, u147_113, u147_114, u147_115, u147_118, u147_119, u147_120, u147_121, u147_122, u147_125, u147_126, u147_129, u147_130, u147_131, u147_134, u147_136, u147_138, u147_141, u147_142, u147_145, u147_146, u147_147, u147_148, u147_149, u147_152, u147_153, u147_154, u147_155, u147_156, u147_157, u147_158, u147_161, u147_164, u147_165, u147_168, u147_169, u147_170, u147_171, u147_173, u147_174, u147_177, u147_178, u147_179, u147_180, u147_181, u147_182, u147_185, u147_186, u147_187, u147_190, u147_191, u147_194, u147_197, u147_198, u147_201, u147_202, u147_203, zk_mk_1, zk_mk_I, zk_mk_R, zk_mk_set, zk_mk_setR, zk_mk_cpy, zk_rv_some, zk_rv_none, Option.toList_some, Option.toList_none, List.cons_append, List.nil_append, reduceIte, eq_self, Nat.reduceLT, Nat.reduceEqDiff, and_true, true_and, reduceCtorEq, zsh_60, zsh_66, zsh_67, zsh_75, zsh_76, zrf_60_7, zrf_60_8, zrf_60_28, zrf_60_29, e60, e67, hr, e66, e76, z1, z2, z3, z4, z5, z6, z7, hend, y3]
        simp (disch := omega) only [zn_in, zn_cl, nI_1]
        refine ⟨by omega, ?_⟩
        exact ih2 (top - 1) _ hrun _ _ (fr _ _) (by rw [zk_up2_at]; exact zt_like h2' (by rw [h2' _ (by omega), h2' _ (by omega)]) (by omega))
      · subst h
        replace hstep := hstep.trans (show zt_m 10018 = 11 from by decide)
        have y1 : nI top + -1 = nI (top - 1) := by rw [← Int32.sub_eq_add_neg]; exact zn_sub (b := 1) (by omega)
        have y3 : nI (top - 1) - 1 = nI (top - 2) := zn_sub (b := 1) (by omega)
        simp only [u147_0, u147_1, u147_2, u147_3, u147_6, u147_7, u147_8, u147_11, u147_12, u147_13, u147_14, u147_15, u147_17, u147_18, u147_21, u147_22, u147_23, u147_26, u147_27, u147_28, u147_29, u147_30, u147_31, u147_32, u147_35, u147_36, u147_39, u147_42, u147_43, u147_46, u147_47, u147_48, u147_49, u147_50, u147_52, u147_54, u147_56, u147_59, u147_61, u147_63, u147_66, u147_67, u147_70, u147_71, u147_73, u147_75, u147_78, u147_79, u147_82, u147_84, u147_85, u147_88, u147_90, u147_92, u147_93, u147_94, u147_97, u147_100, u147_102, u147_104, u147_107, u147_108, u147_111, u147_112, u147_113, u147_114, u147_115, u147_118, u147_119, u147_120, u147_121, u147_122, u147_125, u147_126, u147_129, u147_130, u147_131, u147_134, u147_136, u147_138, u147_141, u147_142, u147_145, u147_146, u147_147, u147_148, u147_149, u147_152, u147_153, u147_154, u147_155, u147_156, u147_157, u147_158, u147_161, u147_164, u147_165, u147_168, u147_169, u147_170, u147_171, u147_173, u147_174, u147_177, u147_178, u147_179, u147_180, u147_181, u147_182, u147_185, u147_186, u147_187, u147_190, u147_191, u147_194, u147_197, u147_198, u147_201, u147_202, u147_203, zk_mk_1, zk_mk_I, zk_mk_R, zk_mk_set, zk_mk_setR, zk_mk_cpy, zk_rv_some, zk_rv_none, Option.toList_some, Option.toList_none, List.cons_append, List.nil_append, reduceIte, eq_self, Nat.reduceLT, Nat.reduceEqDiff, and_true, true_and, reduceCtorEq, zsh_60, zsh_66, zsh_67, zsh_75, zsh_76, zrf_60_7, zrf_60_8, zrf_60_28, zrf_60_29, e60, e67, hr, e66, e76, z1, z2, z3, z4, z5, z6, z7, hend, hstep, zm11_g, zm11_k, zm11_d, zm11_n, y1, y3]
        simp (disch := omega) only [zn_in, zn_cl, nI_1]
        refine ⟨by omega, by omega, ?_⟩
        have ej := fun (M : zk_M) (P : Option Value → zk_M → Prop) => s148 (sc := sc) (d := d) (M := M) (P := P) (t := 10018) (a := I' 75 (top - 2)) (b := I' 75 (top - 1)) (by decide) (by decide)
        rw [show zt_m 10018 = 11 from by decide] at ej
        rw [ej]
        simp only [u147_0, u147_1, u147_2, u147_3, u147_6, u147_7, u147_8, u147_11, u147_12, u147_13, u147_14, u147_15, u147_17, u147_18, u147_21, u147_22, u147_23, u147_26, u147_27, u147_28, u147_29, u147_30, u147_31, u147_32, u147_35, u147_36, u147_39, u147_42, u147_43, u147_46, u147_47, u147_48, u147_49, u147_50, u147_52, u147_54, u147_56, u147_59, u147_61, u147_63, u147_66, u147_67, u147_70, u147_71, u147_73, u147_75, u147_78, u147_79, u147_82, u147_84, u147_85, u147_88, u147_90, u147_92, u147_93, u147_94, u147_97, u147_100, u147_102, u147_104, u147_107, u147_108, u147_111, u147_112, u147_113, u147_114, u147_115, u147_118, u147_119, u147_120, u147_121, u147_122, u147_125, u147_126, u147_129, u147_130, u147_131, u147_134, u147_136, u147_138, u147_141, u147_142, u147_145, u147_146, u147_147, u147_148, u147_149, u147_152, u147_153, u147_154, u147_155, u147_156, u147_157, u147_158, u147_161, u147_164, u147_165, u147_168, u147_169, u147_170, u147_171, u147_173, u147_174, u147_177, u147_178, u147_179, u147_180, u147_181, u147_182, u147_185, u147_186, u147_187, u147_190, u147_191, u147_194, u147_197, u147_198, u147_201, u147_202, u147_203, zk_mk_1, zk_mk_I, zk_mk_R, zk_mk_set, zk_mk_setR, zk_mk_cpy, zk_rv_some, zk_rv_none, Option.toList_some, Option.toList_none, List.cons_append, List.nil_append, reduceIte, eq_self, Nat.reduceLT, Nat.reduceEqDiff, and_true, true_and, reduceCtorEq, zsh_60, zsh_66, zsh_67, zsh_75, zsh_76, zrf_60_7, zrf_60_8, zrf_60_28, zrf_60_29, e60, e67, hr, e66, e76, z1, z2, z3, z4, z5, z6, z7, hend, y3]
        simp (disch := omega) only [zn_in, zn_cl, nI_1]
        refine ⟨by omega, ?_⟩
        exact ih2 (top - 1) _ hrun _ _ (fr _ _) (by rw [zk_up2_at]; exact zt_like h2' (by rw [h2' _ (by omega), h2' _ (by omega)]) (by omega)))
  have z1 : (4 : Int32) * nI t + nI part = nI (4 * t + part) := by rw [show (4 : Int32) = nI 4 from rfl, zn_mul, zn_add]
  simp only [u147_0, u147_1, u147_2, u147_3, u147_6, u147_7, u147_8, u147_11, u147_12, u147_13, u147_14, u147_15, u147_17, u147_18, u147_21, u147_22, u147_23, u147_26, u147_27, u147_28, u147_29, u147_30, u147_31, u147_32, u147_35, u147_36, u147_39, u147_42, u147_43, u147_46, u147_47, u147_48, u147_49, u147_50, u147_52, u147_54, u147_56, u147_59, u147_61, u147_63, u147_66, u147_67, u147_70, u147_71, u147_73, u147_75, u147_78, u147_79, u147_82, u147_84, u147_85, u147_88, u147_90, u147_92, u147_93, u147_94, u147_97, u147_100, u147_102, u147_104, u147_107, u147_108, u147_111, u147_112, u147_113, u147_114, u147_115, u147_118, u147_119, u147_120, u147_121, u147_122, u147_125, u147_126, u147_129, u147_130, u147_131, u147_134, u147_136, u147_138, u147_141, u147_142, u147_145, u147_146, u147_147, u147_148, u147_149, u147_152, u147_153, u147_154, u147_155, u147_156, u147_157, u147_158, u147_161, u147_164, u147_165, u147_168, u147_169, u147_170, u147_171, u147_173, u147_174, u147_177, u147_178, u147_179, u147_180, u147_181, u147_182, u147_185, u147_186, u147_187, u147_190, u147_191, u147_194, u147_197, u147_198, u147_201, u147_202, u147_203, zk_mk_1, zk_mk_I, zk_mk_R, zk_mk_set, zk_mk_setR, zk_mk_cpy, zk_rv_some, zk_rv_none, Option.toList_some, Option.toList_none, List.cons_append, List.nil_append, reduceIte, eq_self, Nat.reduceLT, Nat.reduceEqDiff, and_true, true_and, reduceCtorEq, zsh_60, zsh_67, zrf_60_8, hr, z1]
  simp (disch := omega) only [zn_in, zn_cl, hst]
  refine ⟨by omega, ?_⟩
  exact loop 0 (I, none) (Nat.zero_le _) ⟨fun _ _ => rfl, fun j hj => absurd hj (Nat.not_lt_zero _)⟩
