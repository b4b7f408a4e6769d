/-! film by both -/
def zA_film (n : Nat) (s fr k : Int32) : Int32 := if 0 ≤ s ∧ s < 4 then (if (0 ≤ fr ∧ fr < nI (2 ^ n)) ∧ 0 ≤ k ∧ k ≤ 20 then nI (min k.toNatClampNeg (2 ^ n - fr.toNatClampNeg)) else -7) else -2
def zgdf (n : Nat) (s fr k : Int32) : Prop := (0 ≤ s ∧ s < 4) ∧ (0 ≤ fr ∧ fr < nI (2 ^ n)) ∧ 0 ≤ k ∧ k ≤ 20
def zMfi (I I1 : Nat → Nat → Int32) (n : Nat) (T e : Nat → Nat) (s fr k : Int32) : Prop := (I1 = I ∧ ¬ zgdf n s fr k) ∨ ∃ ks a l I0, ks < 4 ∧ a < 2 ^ n ∧ l ≤ 20 ∧ s = nI ks ∧ fr = nI a ∧ k = nI l ∧ zF I I0 ∧ (∀ j, j ≠ 52 + 2 * ks → j ≠ 53 + 2 * ks → I1 j = I0 j) ∧ I1 (52 + 2 * ks) 1 = 2 ∧ I1 (52 + 2 * ks) 2 = nI (2 * min l (2 ^ n - a)) ∧ ∀ y, y < min l (2 ^ n - a) → I1 (53 + 2 * ks) (2 * y) = nI (a + y) ∧ I1 (53 + 2 * ks) (2 * y + 1) = zsum (zv_now I n T e) (a + y) n
theorem s44 {sc : zk_X} {d : Nat} {I : Nat → Nat → Int32} {tg : Option Nat} {P : Option Value → zk_M → Prop} {n t : Nat} {T e : Nat → Nat} {s fr k : Int32} (hq : zj_q I n t T e)
    (K : ∀ I1 : Nat → Nat → Int32, zMfi I I1 n T e s fr k → P (some (.int (zA_film n s fr k))) (zk_mk I1 tg)) : zk_R sc (d + 5) 44 0 [some (.ref (0 : Nat)), some (.int s), some (.int fr), some (.int k), none, none] [] (zk_mk I tg) P := by
  obtain ⟨hj, hl, hr, ht, hx⟩ := hq
  obtain ⟨w1, w2, w3, w4⟩ := zx_83 ht
  have h10 := hj.2.2.1
  have p10 := zp_10 h10
  simp only [u44_0, u44_1, u44_4, u44_7, u44_9, u44_10, u44_11, u44_14, u44_15, u44_18, u44_21, u44_22, u44_25, u44_26, u44_28, u44_31, u44_33, u44_34, u44_35, u44_36, u44_39, u44_42, u44_43, u44_44, u44_45, u44_48, u44_51, u44_52, u44_53, u44_54, u44_57, u44_59, u44_60, u44_63, u44_64, u44_65, u44_66, u44_67, u44_69, u44_70, u44_73, u44_74, u44_78, u44_80, u44_83, u44_84, u44_87, u44_88, u44_89, u44_90, u44_92, u44_93, u44_94, u44_96, u44_97, u44_100, u44_101, u44_104, u44_105, u44_106, u44_107, u44_109, u44_110, u44_111, u44_112, u44_113, u44_116, u44_117, u44_119, u44_120, u44_123, u44_126, u44_129, u44_132, u44_134, zk_mk_1, zk_mk_I, zk_mk_R, zk_mk_set, zk_mk_setR, zk_mk_cpy, zk_rv_some, zk_rv_none, Option.toList_some, Option.toList_none, List.cons_append, List.nil_append, reduceIte, eq_self, Nat.reduceLT, Nat.reduceEqDiff, and_true, true_and, reduceCtorEq, zsh_0, zsh_1, zrf_0_0, s38, s97, hj.1, zq_all h10, zb_z]
  by_cases hs : 0 ≤ s ∧ s < 4
  · rw [if_neg (fun q => q hs)]
    by_cases hf : 0 ≤ fr ∧ fr < nI (2 ^ n)
    · rw [if_neg (fun q => q hf)]
      by_cases hk : 0 ≤ k ∧ k ≤ 20
      · rw [if_neg (Int32.not_lt.mpr hk.1), if_pos hk.2]
        obtain ⟨ks, hks, rfl⟩ := zn_of (m := 4) hs.1 hs.2 (by decide)
        obtain ⟨a, ha, rfl⟩ := zn_of hf.1 hf.2 (by omega)
        obtain ⟨l, hl2, rfl⟩ := zn_of (x := k) (m := 21) hk.1 (by rw [zn_lt1 (by decide)]; exact hk.2) (by decide)
        have y1 : zk_inb (nI ks) 4 = true := by rw [zn_in (by omega)]; omega
        have y2 : (nI ks).toNatClampNeg = ks := zn_cl (by omega)
        have y3 : (nI a).toNatClampNeg = a := zn_cl (by omega)
        have y4 : (nI l).toNatClampNeg = l := zn_cl (by omega)
        obtain ⟨x1, x2⟩ := zx_s hks tg
        obtain ⟨x3, x4, x5, x6⟩ := zx_s1 hks
        have eA : zA_film n (nI ks) (nI a) (nI l) = nI (min l (2 ^ n - a)) := by
          unfold zA_film
          rw [if_pos hs, if_pos ⟨hf, hk⟩, y3, y4]
        rw [eA] at K
        simp only [s7 ht hl, u44_0, u44_1, u44_4, u44_7, u44_9, u44_10, u44_11, u44_14, u44_15, u44_18, u44_21, u44_22, u44_25, u44_26, u44_28, u44_31, u44_33, u44_34, u44_35, u44_36, u44_39, u44_42, u44_43, u44_44, u44_45, u44_48, u44_51, u44_52, u44_53, u44_54, u44_57, u44_59, u44_60, u44_63, u44_64, u44_65, u44_66, u44_67, u44_69, u44_70, u44_73, u44_74, u44_78, u44_80, u44_83, u44_84, u44_87, u44_88, u44_89, u44_90, u44_92, u44_93, u44_94, u44_96, u44_97, u44_100, u44_101, u44_104, u44_105, u44_106, u44_107, u44_109, u44_110, u44_111, u44_112, u44_113, u44_116, u44_117, u44_119, u44_120, u44_123, u44_126, u44_129, u44_132, u44_134, zk_mk_1, zk_mk_I, zk_mk_R, zk_mk_set, zk_mk_setR, zk_mk_cpy, zk_rv_some, zk_rv_none, Option.toList_some, Option.toList_none, List.cons_append, List.nil_append, reduceIte, eq_self, Nat.reduceLT, Nat.reduceEqDiff, and_true, true_and, reduceCtorEq, zsh_0, zx_28 ht, w1]
        refine s17 hj ht hx (fun I0 h1 h2 h3 => ?_)
        have hn0 : I0 1 4 = nI n := (h1.tab hj).1
        have esub : nI (2 ^ n) - nI a = nI (2 ^ n - a) := zn_sub (by omega)
        have emin : (if nI (2 ^ n - a) < nI l then nI (2 ^ n - a) else nI l) = nI (min l (2 ^ n - a)) := by
          by_cases c : 2 ^ n - a < l
          · rw [if_pos (by rw [zn_lt (by omega) (by omega)]; exact c), Nat.min_eq_right (by omega)]
          · rw [if_neg (by rw [zn_lt (by omega) (by omega)]; exact c), Nat.min_eq_left (by omega)]
        have hrl : min l (2 ^ n - a) ≤ 20 := Nat.le_trans (Nat.min_le_left _ _) (by omega)
        have hra : a + min l (2 ^ n - a) ≤ 2 ^ n := by have := Nat.min_le_right l (2 ^ n - a); omega
        have K := fun I1 (h : ∃ I0, zF I I0 ∧ (∀ j, j ≠ 52 + 2 * ks → j ≠ 53 + 2 * ks → I1 j = I0 j) ∧ I1 (52 + 2 * ks) 1 = 2 ∧ I1 (52 + 2 * ks) 2 = nI (2 * min l (2 ^ n - a)) ∧ ∀ y, y < min l (2 ^ n - a) → I1 (53 + 2 * ks) (2 * y) = nI (a + y) ∧ I1 (53 + 2 * ks) (2 * y + 1) = zsum (zv_now I n T e) (a + y) n) => K I1 (Or.inr ⟨ks, a, l, h.choose, hks, ha, by omega, rfl, rfl, rfl, h.choose_spec⟩)
        generalize hrr : min l (2 ^ n - a) = r at *
        have e2r : (2 : Int32) * nI r = nI (2 * r) := zn_mul 2 r
        simp only [u44_0, u44_1, u44_4, u44_7, u44_9, u44_10, u44_11, u44_14, u44_15, u44_18, u44_21, u44_22, u44_25, u44_26, u44_28, u44_31, u44_33, u44_34, u44_35, u44_36, u44_39, u44_42, u44_43, u44_44, u44_45, u44_48, u44_51, u44_52, u44_53, u44_54, u44_57, u44_59, u44_60, u44_63, u44_64, u44_65, u44_66, u44_67, u44_69, u44_70, u44_73, u44_74, u44_78, u44_80, u44_83, u44_84, u44_87, u44_88, u44_89, u44_90, u44_92, u44_93, u44_94, u44_96, u44_97, u44_100, u44_101, u44_104, u44_105, u44_106, u44_107, u44_109, u44_110, u44_111, u44_112, u44_113, u44_116, u44_117, u44_119, u44_120, u44_123, u44_126, u44_129, u44_132, u44_134, zk_mk_1, zk_mk_I, zk_mk_R, zk_mk_set, zk_mk_setR, zk_mk_cpy, zk_rv_some, zk_rv_none, Option.toList_some, Option.toList_none, List.cons_append, List.nil_append, reduceIte, eq_self, Nat.reduceLT, Nat.reduceEqDiff, and_true, true_and, reduceCtorEq, zsh_0, zsh_1, zsh_26, zrf_0_0, zrf_0_8, hn0, zq_all h10, esub, emin, y1, y2, x1, x3, x5, e2r]
        refine s87 hks (by omega) (fun I2 g1 g2 g3 g4 => ?_)
        simp only [u44_0, u44_1, u44_4, u44_7, u44_9, u44_10, u44_11, u44_14, u44_15, u44_18, u44_21, u44_22, u44_25, u44_26, u44_28, u44_31, u44_33, u44_34, u44_35, u44_36, u44_39, u44_42, u44_43, u44_44, u44_45, u44_48, u44_51, u44_52, u44_53, u44_54, u44_57, u44_59, u44_60, u44_63, u44_64, u44_65, u44_66, u44_67, u44_69, u44_70, u44_73, u44_74, u44_78, u44_80, u44_83, u44_84, u44_87, u44_88, u44_89, u44_90, u44_92, u44_93, u44_94, u44_96, u44_97, u44_100, u44_101, u44_104, u44_105, u44_106, u44_107, u44_109, u44_110, u44_111, u44_112, u44_113, u44_116, u44_117, u44_119, u44_120, u44_123, u44_126, u44_129, u44_132, u44_134, zk_mk_1, zk_mk_I, zk_mk_R, zk_mk_set, zk_mk_setR, zk_mk_cpy, zk_rv_some, zk_rv_none, Option.toList_some, Option.toList_none, List.cons_append, List.nil_append, reduceIte, eq_self, Nat.reduceLT, Nat.reduceEqDiff, and_true, true_and, reduceCtorEq]
        have loop := zl_up (τ := Nat → Nat → Int32) (fun i I' => zk_R sc (d + 5) 44 76 [some (.ref (0 : Nat)), some (.int (nI ks)), some (.int (nI a)), some (.int (nI l)), some (.int (nI r)), some (.int (nI i))] [] (zk_mk I' tg) P)
          (fun i I' => (∀ j, j ≠ 52 + 2 * ks → j ≠ 53 + 2 * ks → I' j = I0 j) ∧ I' (52 + 2 * ks) 1 = 2 ∧ I' (52 + 2 * ks) 2 = nI (2 * r) ∧ ∀ y, y < i → I' (53 + 2 * ks) (2 * y) = nI (a + y) ∧ I' (53 + 2 * ks) (2 * y + 1) = zsum (zv_now I n T e) (a + y) n) r (by
            rintro I' ⟨m1, m2, m3, m4⟩
            rw [u44_76]
            simp only [u44_0, u44_1, u44_4, u44_7, u44_9, u44_10, u44_11, u44_14, u44_15, u44_18, u44_21, u44_22, u44_25, u44_26, u44_28, u44_31, u44_33, u44_34, u44_35, u44_36, u44_39, u44_42, u44_43, u44_44, u44_45, u44_48, u44_51, u44_52, u44_53, u44_54, u44_57, u44_59, u44_60, u44_63, u44_64, u44_65, u44_66, u44_67, u44_69, u44_70, u44_73, u44_74, u44_78, u44_80, u44_83, u44_84, u44_87, u44_88, u44_89, u44_90, u44_92, u44_93, u44_94, u44_96, u44_97, u44_100, u44_101, u44_104, u44_105, u44_106, u44_107, u44_109, u44_110, u44_111, u44_112, u44_113, u44_116, u44_117, u44_119, u44_120, u44_123, u44_126, u44_129, u44_132, u44_134, zk_mk_1, zk_mk_I, zk_mk_R, zk_mk_set, zk_mk_setR, zk_mk_cpy, zk_rv_some, zk_rv_none, Option.toList_some, Option.toList_none, List.cons_append, List.nil_append, reduceIte, eq_self, Nat.reduceLT, Nat.reduceEqDiff, and_true, true_and, reduceCtorEq]
            rw [if_pos (nI_le (Nat.le_refl _) (by omega))]
            exact K I' ⟨I0, h1, m1, m2, m3, m4⟩) (by
            rintro i I' hi ⟨m1, m2, m3, m4⟩ ih
            have hh : a + i < 2 ^ n := by omega
            have e16 : ∀ J : Nat → Nat → Int32, J 16 = I0 16 → zsum (J 16) (a + i) 10 = zsum (zv_now I n T e) (a + i) n := fun J hJ => by
              rw [hJ]; exact zv_sum h10 hh h2
            have e2i : (2 : Int32) * nI i = nI (2 * i) := zn_mul 2 i
            have f16 : I' 16 = I0 16 := m1 16 (by omega) (by omega)
            have z2 : zcv 2 (nI (a + i)) = nI (a + i) := by unfold zcv; rw [if_neg (by decide), if_neg (by decide)]
            have z3 : ∀ v, zcv 2 v = v := fun v => by unfold zcv; rw [if_neg (by decide), if_neg (by decide)]
            rw [u44_76]
            simp only [u44_0, u44_1, u44_4, u44_7, u44_9, u44_10, u44_11, u44_14, u44_15, u44_18, u44_21, u44_22, u44_25, u44_26, u44_28, u44_31, u44_33, u44_34, u44_35, u44_36, u44_39, u44_42, u44_43, u44_44, u44_45, u44_48, u44_51, u44_52, u44_53, u44_54, u44_57, u44_59, u44_60, u44_63, u44_64, u44_65, u44_66, u44_67, u44_69, u44_70, u44_73, u44_74, u44_78, u44_80, u44_83, u44_84, u44_87, u44_88, u44_89, u44_90, u44_92, u44_93, u44_94, u44_96, u44_97, u44_100, u44_101, u44_104, u44_105, u44_106, u44_107, u44_109, u44_110, u44_111, u44_112, u44_113, u44_116, u44_117, u44_119, u44_120, u44_123, u44_126, u44_129, u44_132, u44_134, zk_mk_1, zk_mk_I, zk_mk_R, zk_mk_set, zk_mk_setR, zk_mk_cpy, zk_rv_some, zk_rv_none, Option.toList_some, Option.toList_none, List.cons_append, List.nil_append, reduceIte, eq_self, Nat.reduceLT, Nat.reduceEqDiff, and_true, true_and, reduceCtorEq, zsh_0, zsh_26, zrf_0_8, y1, y2, x1, x3, x5, e2i, zn_add]
            rw [if_neg (nI_ge hi (by omega)), s88 hks m3 (by omega) (show 2 * i < 2 * r by omega), m2, z3]
            have n3 : zk_up2 I' (53 + 2 * ks) (2 * i) (nI (a + i)) (52 + 2 * ks) 2 = nI (2 * r) := by rw [zk_up2_k (by omega)]; exact m3
            have n2 : zk_up2 I' (53 + 2 * ks) (2 * i) (nI (a + i)) (52 + 2 * ks) 1 = 2 := by rw [zk_up2_k (by omega)]; exact m2
            have n16 : zk_up2 I' (53 + 2 * ks) (2 * i) (nI (a + i)) 16 = I0 16 := by rw [zk_up2_r (by omega)]; exact f16
            generalize hJ : zk_up2 I' (53 + 2 * ks) (2 * i) (nI (a + i)) = J at *
            simp only [u44_0, u44_1, u44_4, u44_7, u44_9, u44_10, u44_11, u44_14, u44_15, u44_18, u44_21, u44_22, u44_25, u44_26, u44_28, u44_31, u44_33, u44_34, u44_35, u44_36, u44_39, u44_42, u44_43, u44_44, u44_45, u44_48, u44_51, u44_52, u44_53, u44_54, u44_57, u44_59, u44_60, u44_63, u44_64, u44_65, u44_66, u44_67, u44_69, u44_70, u44_73, u44_74, u44_78, u44_80, u44_83, u44_84, u44_87, u44_88, u44_89, u44_90, u44_92, u44_93, u44_94, u44_96, u44_97, u44_100, u44_101, u44_104, u44_105, u44_106, u44_107, u44_109, u44_110, u44_111, u44_112, u44_113, u44_116, u44_117, u44_119, u44_120, u44_123, u44_126, u44_129, u44_132, u44_134, zk_mk_1, zk_mk_I, zk_mk_R, zk_mk_set, zk_mk_setR, zk_mk_cpy, zk_rv_some, zk_rv_none, Option.toList_some, Option.toList_none, List.cons_append, List.nil_append, reduceIte, eq_self, Nat.reduceLT, Nat.reduceEqDiff, and_true, true_and, reduceCtorEq, zsh_0, zsh_15, zsh_26, zrf_0_7, zrf_0_8, y1, y2, x1, x3, x5, e2i, zn_add, nI_1, s62 (show a + i < 2147483648 by omega), e16 J n16]
            rw [s88 hks n3 (by omega) (show 2 * i + 1 < 2 * r by omega), n2, z3]
            simp only [u44_0, u44_1, u44_4, u44_7, u44_9, u44_10, u44_11, u44_14, u44_15, u44_18, u44_21, u44_22, u44_25, u44_26, u44_28, u44_31, u44_33, u44_34, u44_35, u44_36, u44_39, u44_42, u44_43, u44_44, u44_45, u44_48, u44_51, u44_52, u44_53, u44_54, u44_57, u44_59, u44_60, u44_63, u44_64, u44_65, u44_66, u44_67, u44_69, u44_70, u44_73, u44_74, u44_78, u44_80, u44_83, u44_84, u44_87, u44_88, u44_89, u44_90, u44_92, u44_93, u44_94, u44_96, u44_97, u44_100, u44_101, u44_104, u44_105, u44_106, u44_107, u44_109, u44_110, u44_111, u44_112, u44_113, u44_116, u44_117, u44_119, u44_120, u44_123, u44_126, u44_129, u44_132, u44_134, zk_mk_1, zk_mk_I, zk_mk_R, zk_mk_set, zk_mk_setR, zk_mk_cpy, zk_rv_some, zk_rv_none, Option.toList_some, Option.toList_none, List.cons_append, List.nil_append, reduceIte, eq_self, Nat.reduceLT, Nat.reduceEqDiff, and_true, true_and, reduceCtorEq, nI_1]
            refine ih _ ⟨fun j j1 j2 => ?_, ?_, ?_, fun y hy => ?_⟩
            · rw [zk_up2_r j2, ← hJ, zk_up2_r j2]; exact m1 j j1 j2
            · rw [zk_up2_k (by omega)]; exact n2
            · rw [zk_up2_k (by omega)]; exact n3
            · rw [zk_up2_i, zk_up2_i, ← hJ, zk_up2_i, zk_up2_i]
              by_cases ey : y = i
              · subst ey
                rw [if_neg (by omega), if_pos rfl, if_pos rfl]
                exact ⟨rfl, rfl⟩
              · rw [if_neg (by omega), if_neg (by omega), if_neg (by omega), if_neg (by omega)]
                exact m4 y (by omega))
        exact loop 0 I2 (Nat.zero_le _) ⟨g1, g2, g3, fun y hy => absurd hy (Nat.not_lt_zero _)⟩
      · have eA : zA_film n s fr k = -7 := by unfold zA_film; rw [if_pos hs, if_neg (fun w => hk w.2)]
        have K2 := K I (Or.inl ⟨rfl, fun w => hk w.2.2⟩)
        rw [eA] at K2
        by_cases k1 : k < 0
        · rw [if_pos k1]; exact K2
        · rw [if_neg k1]
          by_cases k2 : 20 < k
          · first | rw [if_neg (Int32.not_le.mpr k2)] | rw [if_pos k2]
            exact K2
          · exact absurd ⟨Int32.not_lt.mp k1, Int32.not_lt.mp k2⟩ hk
    · have eA : zA_film n s fr k = -7 := by unfold zA_film; rw [if_pos hs, if_neg (fun w => hf w.1)]
      have K2 := K I (Or.inl ⟨rfl, fun w => hf w.2.1⟩)
      rw [eA] at K2
      rw [if_pos hf]; exact K2
  · have eA : zA_film n s fr k = -2 := by unfold zA_film; rw [if_neg hs]
    have K2 := K I (Or.inl ⟨rfl, fun w => hs w.1⟩)
    rw [eA] at K2
    rw [if_pos hs]; exact K2
