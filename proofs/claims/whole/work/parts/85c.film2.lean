/-! film by the reference -/
def zfcell (f : Nat → Int32) (n a r k : Nat) : Int32 := if 2 * r ≤ k then 0 else if k % 2 = 0 then nI (a + k / 2) else zsum f (a + k / 2) n
theorem s199 {sc : zk_X} {d : Nat} {I I1 : Nat → Nat → Int32} {tg : Option Nat} {P : Option Value → zk_M → Prop} {n t q m : Nat} {TT EE : Nat → Nat → Nat} {Z : Nat → Nat} {s fr kk : Int32} (hJ : zJ I n t q m TT EE Z) (hM : zMfi I I1 n (TT t) (EE t) s fr kk)
    (K : ∀ (I2 : Nat → Nat → Int32) (Z' : Nat → Nat), zJ I2 n t q m TT EE Z' → P (some (.int (zA_film n s fr kk))) (zk_mk I2 tg)) : zk_R sc (d + 6) 199 0 [some (.ref (60 : Nat)), some (.int s), some (.int fr), some (.int kk), none, none] [] (zk_mk I1 tg) P := by
  obtain ⟨hj, hl, hr, ht, hx⟩ := hJ.q
  have h10 := hj.2.2.1
  have p10 := zp_10 h10
  have bad : ¬ zgdf n s fr kk → I1 = I ∧ P (some (.int (zA_film n s fr kk))) (zk_mk I1 tg) := by
    intro h
    rcases hM with ⟨e, -⟩ | ⟨ks, a, l, I0, hks, ha, hl2, rfl, rfl, rfl, -⟩
    · rw [e]; exact ⟨rfl, K I Z hJ⟩
    · exfalso
      apply h
      refine ⟨⟨?_, ?_⟩, ⟨?_, ?_⟩, ?_, ?_⟩
      · rw [show (0 : Int32) = nI 0 from rfl, zn_le (by decide) (by omega)]; omega
      · rw [show (4 : Int32) = nI 4 from rfl, zn_lt (by omega) (by decide)]; exact hks
      · rw [show (0 : Int32) = nI 0 from rfl, zn_le (by decide) (by omega)]; omega
      · rw [zn_lt (by omega) (by omega)]; exact ha
      · rw [show (0 : Int32) = nI 0 from rfl, zn_le (by decide) (by omega)]; omega
      · rw [show (20 : Int32) = nI 20 from rfl, zn_le (by omega) (by decide)]; exact hl2
  have e60 : I1 60 0 = nI n := by
    rcases hM with ⟨e, -⟩ | ⟨ks, a, l, I0, hks, ha, hl2, -, -, -, hF, hfr, -⟩
    · rw [e]; exact hj.2.1
    · rw [hfr 60 (by omega) (by omega), hF 60 rfl]; exact hj.2.1
  simp only [u199_0, u199_1, u199_2, u199_3, u199_6, u199_9, u199_11, u199_12, u199_13, u199_14, u199_17, u199_20, u199_21, u199_22, u199_24, u199_27, u199_30, u199_32, u199_33, u199_34, u199_37, u199_38, u199_39, u199_40, u199_41, u199_44, u199_45, u199_46, u199_49, u199_50, u199_53, u199_54, u199_55, u199_56, u199_57, u199_60, u199_61, u199_63, u199_64, u199_67, u199_68, u199_69, u199_70, u199_71, u199_74, u199_75, u199_76, u199_78, u199_79, u199_80, u199_81, u199_85, u199_87, u199_90, u199_91, u199_94, u199_96, u199_97, u199_98, u199_100, u199_101, u199_103, u199_104, u199_106, u199_107, u199_110, u199_111, u199_114, u199_116, u199_117, u199_118, u199_121, u199_122, u199_124, u199_125, u199_126, u199_127, u199_130, u199_131, u199_134, u199_135, u199_137, u199_138, u199_139, u199_140, u199_141, u199_142, u199_145, u199_148, u199_150, zk_mk_1, zk_mk_I, zk_mk_R, zk_mk_set, zk_mk_setR, zk_mk_cpy, zk_rv_some, zk_rv_none, Option.toList_some, Option.toList_none, List.cons_append, List.nil_append, reduceIte, eq_self, Nat.reduceLT, Nat.reduceEqDiff, and_true, true_and, reduceCtorEq, zsh_60, s129, s160, e60, zq_all h10, zb_z, zn_34, zn_lem (show 2 ^ n < 2147483648 by omega) p10.1]
  by_cases hs : 0 ≤ s ∧ s < 4
  · rw [if_neg (fun w => w hs)]
    by_cases hf : 0 ≤ fr ∧ fr < nI (2 ^ n)
    · rw [if_neg (fun w => w hf)]
      by_cases hk : 0 ≤ kk ∧ kk ≤ 20
      · rw [if_neg (fun w => w hk)]
        have hgd : zgdf n s fr kk := ⟨hs, hf, hk⟩
        obtain ⟨ks, a, l, I0, hks, ha, hl2, rfl, rfl, rfl, hF, hfr, f1, f2, f3⟩ : ∃ ks a l I0, ks < 4 ∧ a < 2 ^ n ∧ l ≤ 20 ∧ s = nI ks ∧ fr = nI a ∧ kk = nI l ∧ zF I I0 ∧ (∀ j, j ≠ 52 + 2 * ks → j ≠ 53 + 2 * ks → I1 j = I0 j) ∧ I1 (52 + 2 * ks) 1 = 2 ∧ I1 (52 + 2 * ks) 2 = nI (2 * min l (2 ^ n - a)) ∧ ∀ y, y < min l (2 ^ n - a) → I1 (53 + 2 * ks) (2 * y) = nI (a + y) ∧ I1 (53 + 2 * ks) (2 * y + 1) = zsum (zv_now I n (TT t) (EE t)) (a + y) n := by
          rcases hM with ⟨-, e⟩ | h
          · exact absurd hgd e
          · exact h
        have o : ∀ j, j < 52 ∨ 60 ≤ j → I1 j = I0 j := fun j hj => hfr j (by omega) (by omega)
        have hJ0 := hF.J hJ
        obtain ⟨j0, l0, x0, ta0, sh0, im0, co0⟩ := hJ0
        have hj1 : zj_tab I1 n := j0.cg (by rw [o 1 (by omega)]) (by rw [o 60 (by omega)]) (fun k hk => o k (by omega))
        have hr1 : I1 60 10 = nI t := by rw [o 60 (by omega)]; exact l0.2.1
        have hx1 : zj_text I1 t (TT t) (EE t) := (x0.cg (I' := I1) (by rw [o 0 (by omega)]) (by rw [o 60 (by omega)]) (fun k hk => o k (by omega))).2.2.2 t l0.2.2
        have enow : zv_now I1 n (TT t) (EE t) = zv_now I n (TT t) (EE t) := by
          rw [← hF.nowf]
          funext c
          unfold zv_now zv_cnt zv_said
          have e1 : ∀ left, zv_nm I1 n c left = zv_nm I0 n c left := by
            intro left
            funext j
            unfold zv_nm
            rw [o 2 (by omega), o 3 (by omega), o 4 (by omega)]
          rw [o 2 (by omega), o 4 (by omega), o 5 (by omega)]
          simp only [e1]
        have y1 : zk_inb (nI ks) 4 = true := by rw [zn_in (by omega)]; omega
        have y2 : (nI ks).toNatClampNeg = ks := zn_cl (by omega)
        have y3 : (nI a).toNatClampNeg = a := zn_cl (by omega)
        have y4 : (nI l).toNatClampNeg = l := zn_cl (by omega)
        have eA : zA_film n (nI ks) (nI a) (nI l) = nI (min l (2 ^ n - a)) := by
          unfold zA_film
          rw [if_pos hs, if_pos ⟨hf, hk⟩, y3, y4]
        rw [eA] at K
        refine s162 hj1 ht hr1 hx1 (fun I2 h1 h2 h3 => ?_)
        rw [enow] at h3
        have hn2 : I2 60 0 = nI n := (h1.tab hj1).2.1
        have eall : (1 : Int32) <<< (nI n &&& 31) - 1 = nI (2 ^ n - 1) := by rw [zq_all h10]; exact zn_sub (b := 1) (by omega)
        have eall2 : nI (2 ^ n - 1) + 1 = nI (2 ^ n) := by rw [nI_1]; congr 1; omega
        have esub : nI (2 ^ n) - nI a = nI (2 ^ n - a) := zn_sub (by omega)
        have hrl : min l (2 ^ n - a) ≤ 20 := Nat.le_trans (Nat.min_le_left _ _) (by omega)
        have hra : a + min l (2 ^ n - a) ≤ 2 ^ n := by have := Nat.min_le_right l (2 ^ n - a); omega
        generalize zv_now I n (TT t) (EE t) = f at *
        have tail : ∀ r, r = min l (2 ^ n - a) → zk_R sc (d + 6) 199 61 [some (.ref (60 : Nat)), some (.int (nI ks)), some (.int (nI a)), some (.int (nI l)), none, none] [.int (nI r)] (zk_mk I2 tg) P := by
          intro r hr2
          rw [← hr2] at hrl hra f2 f3 K
          have e2r : (2 : Int32) * nI r = nI (2 * r) := zn_mul 2 r
          have loop := zl_up (τ := Nat → Nat → Int32) (fun i I' => zk_R sc (d + 6) 199 83 [some (.ref (60 : Nat)), some (.int (nI ks)), some (.int (nI a)), some (.int (nI l)), some (.int (nI r)), some (.int (nI i))] [] (zk_mk I' tg) P)
            (fun i I' => (∀ j, j ≠ 69 → j ≠ 70 → j ≠ 71 → I' j = I2 j) ∧ (∀ b, I' 69 b = if b = ks then 2 else I2 69 b) ∧ (∀ b, I' 70 b = if b = ks then nI (2 * r) else I2 70 b) ∧ ∀ b, I' 71 b = if 40 * ks ≤ b ∧ b < 40 * ks + i then zfcell f n a r (b - 40 * ks) else I2 71 b) 40 (by
              rintro I' ⟨m1, m2, m3, m4⟩
              have hcond : (40 : Int32) ≤ nI 40 := by decide
              rw [u199_83]
              simp only [u199_0, u199_1, u199_2, u199_3, u199_6, u199_9, u199_11, u199_12, u199_13, u199_14, u199_17, u199_20, u199_21, u199_22, u199_24, u199_27, u199_30, u199_32, u199_33, u199_34, u199_37, u199_38, u199_39, u199_40, u199_41, u199_44, u199_45, u199_46, u199_49, u199_50, u199_53, u199_54, u199_55, u199_56, u199_57, u199_60, u199_61, u199_63, u199_64, u199_67, u199_68, u199_69, u199_70, u199_71, u199_74, u199_75, u199_76, u199_78, u199_79, u199_80, u199_81, u199_85, u199_87, u199_90, u199_91, u199_94, u199_96, u199_97, u199_98, u199_100, u199_101, u199_103, u199_104, u199_106, u199_107, u199_110, u199_111, u199_114, u199_116, u199_117, u199_118, u199_121, u199_122, u199_124, u199_125, u199_126, u199_127, u199_130, u199_131, u199_134, u199_135, u199_137, u199_138, u199_139, u199_140, u199_141, u199_142, u199_145, u199_148, u199_150, zk_mk_1, zk_mk_I, zk_mk_R, zk_mk_set, zk_mk_setR, zk_mk_cpy, zk_rv_some, zk_rv_none, Option.toList_some, Option.toList_none, List.cons_append, List.nil_append, reduceIte, eq_self, Nat.reduceLT, Nat.reduceEqDiff, and_true, true_and, reduceCtorEq]
              first | rw [if_pos hcond] | rw [if_neg (Int32.not_lt.mpr hcond)]
              have hz := hJ.2.2.2.2.1
              have ok1 : ∀ j, zKp j = true → ¬ (j = 52 + 2 * ks) → ¬ (j = 53 + 2 * ks) → ¬ (69 ≤ j ∧ j ≤ 71) → I' j = I j := fun j hk2 j1 j2 j3 => by rw [m1 j (by omega) (by omega) (by omega), h1 j hk2, hfr j j1 j2, hF j hk2]
              have ok2 : ∀ j, zKp j = true → ¬ (j = 52 + 2 * ks) → ¬ (j = 53 + 2 * ks) → I2 j = I j := fun j hk2 j1 j2 => by rw [h1 j hk2, hfr j j1 j2, hF j hk2]
              have okp : ∀ j, (j ≤ 13 ∨ (28 ≤ j ∧ j < 52 ∧ ¬ j % 4 = 3) ∨ (52 ≤ j ∧ j ≤ 74)) → zKp j = true := fun j hj2 => by unfold zKp; simp; omega
              refine K I' (zup_fn Z ks (2 * r)) (zJ_sh hJ (fun j j1 j2 j3 j4 j5 => ok1 j (okp j (by omega)) (by omega) (by omega) (by omega)) (fun s' hs' => ?_))
              obtain ⟨q1, q2, q3, q4, q5⟩ := hz s' hs'
              unfold zup_fn
              rw [m2, m3]
              by_cases es : s' = ks
              · subst es
                rw [if_pos rfl, if_pos rfl, if_pos rfl, m1 (52 + 2 * s') (by omega) (by omega) (by omega), m1 (53 + 2 * s') (by omega) (by omega) (by omega), h1 (52 + 2 * s') (okp _ (by omega)), h1 (53 + 2 * s') (okp _ (by omega))]
                refine ⟨f1.symm, f2, rfl, by omega, fun y hy => ?_⟩
                rw [m4, if_pos (by omega), show 40 * s' + y - 40 * s' = y by omega]
                unfold zfcell
                rw [if_neg (by omega)]
                obtain ⟨v1, v2⟩ := f3 (y / 2) (by omega)
                by_cases ey : y % 2 = 0
                · rw [if_pos ey, ← v1, show 2 * (y / 2) = y by omega]
                · rw [if_neg ey, ← v2, show 2 * (y / 2) + 1 = y by omega]
              · rw [if_neg es, if_neg es, if_neg es, ok1 (52 + 2 * s') (okp _ (by omega)) (by omega) (by omega) (by omega), ok1 (53 + 2 * s') (okp _ (by omega)) (by omega) (by omega) (by omega), ok2 69 rfl (by omega) (by omega), ok2 70 rfl (by omega) (by omega)]
                refine ⟨q1, q2, q3, q4, fun y hy => ?_⟩
                rw [m4, if_neg (by omega), ok2 71 rfl (by omega) (by omega)]
                exact q5 y hy) (by
              rintro i I' hi ⟨m1, m2, m3, m4⟩ ih
              have e78 : I' 78 = I2 78 := m1 78 (by decide) (by decide) (by decide)
              have ei : (40 : Int32) * nI ks + nI i = nI (40 * ks + i) := by rw [show (40 : Int32) = nI 40 from rfl, zn_mul, zn_add]
              have z1 : zk_inb (nI (40 * ks + i)) 160 = true := by rw [zn_in (by omega)]; omega
              have z2 : (nI (40 * ks + i)).toNatClampNeg = 40 * ks + i := zn_cl (by omega)
              have hcond : ¬ (40 : Int32) ≤ nI i := nI_ge (b := 40) hi (by decide)
              have nx : ∀ w, w = zfcell f n a r i → zk_R sc (d + 6) 199 141 [some (.ref (60 : Nat)), some (.int (nI ks)), some (.int (nI a)), some (.int (nI l)), some (.int (nI r)), some (.int (nI i))] [.int w, .int (nI (40 * ks + i)), .ref (71 : Nat)] (zk_mk I' tg) P := by
                rintro w rfl
                simp only [u199_0, u199_1, u199_2, u199_3, u199_6, u199_9, u199_11, u199_12, u199_13, u199_14, u199_17, u199_20, u199_21, u199_22, u199_24, u199_27, u199_30, u199_32, u199_33, u199_34, u199_37, u199_38, u199_39, u199_40, u199_41, u199_44, u199_45, u199_46, u199_49, u199_50, u199_53, u199_54, u199_55, u199_56, u199_57, u199_60, u199_61, u199_63, u199_64, u199_67, u199_68, u199_69, u199_70, u199_71, u199_74, u199_75, u199_76, u199_78, u199_79, u199_80, u199_81, u199_85, u199_87, u199_90, u199_91, u199_94, u199_96, u199_97, u199_98, u199_100, u199_101, u199_103, u199_104, u199_106, u199_107, u199_110, u199_111, u199_114, u199_116, u199_117, u199_118, u199_121, u199_122, u199_124, u199_125, u199_126, u199_127, u199_130, u199_131, u199_134, u199_135, u199_137, u199_138, u199_139, u199_140, u199_141, u199_142, u199_145, u199_148, u199_150, zk_mk_1, zk_mk_I, zk_mk_R, zk_mk_set, zk_mk_setR, zk_mk_cpy, zk_rv_some, zk_rv_none, Option.toList_some, Option.toList_none, List.cons_append, List.nil_append, reduceIte, eq_self, Nat.reduceLT, Nat.reduceEqDiff, and_true, true_and, reduceCtorEq, zsh_71, z1, z2, nI_1]
                refine ih _ ⟨fun j j1 j2 j3 => ?_, fun b => ?_, fun b => ?_, fun b => ?_⟩
                · rw [zk_up2_r j3]; exact m1 j j1 j2 j3
                · rw [zk_up2_k (by decide)]; exact m2 b
                · rw [zk_up2_k (by decide)]; exact m3 b
                · rw [zk_up2_i, m4]
                  by_cases eb : b = 40 * ks + i
                  · rw [if_pos eb, if_pos (by omega), eb, show 40 * ks + i - 40 * ks = i by omega]
                  · rw [if_neg eb]
                    by_cases e2 : 40 * ks ≤ b ∧ b < 40 * ks + i
                    · rw [if_pos e2, if_pos (by omega)]
                    · rw [if_neg e2, if_neg (by omega)]
              have yrem : (nI i - nI (i / 2) * 2 = 0) = (i % 2 = 0) := by
                rw [← z_div2 i (by omega)]
                exact z_rem2 i (by omega)
              unfold zfcell at nx
              rw [u199_83]
              simp only [u199_0, u199_1, u199_2, u199_3, u199_6, u199_9, u199_11, u199_12, u199_13, u199_14, u199_17, u199_20, u199_21, u199_22, u199_24, u199_27, u199_30, u199_32, u199_33, u199_34, u199_37, u199_38, u199_39, u199_40, u199_41, u199_44, u199_45, u199_46, u199_49, u199_50, u199_53, u199_54, u199_55, u199_56, u199_57, u199_60, u199_61, u199_63, u199_64, u199_67, u199_68, u199_69, u199_70, u199_71, u199_74, u199_75, u199_76, u199_78, u199_79, u199_80, u199_81, u199_85, u199_87, u199_90, u199_91, u199_94, u199_96, u199_97, u199_98, u199_100, u199_101, u199_103, u199_104, u199_106, u199_107, u199_110, u199_111, u199_114, u199_116, u199_117, u199_118, u199_121, u199_122, u199_124, u199_125, u199_126, u199_127, u199_130, u199_131, u199_134, u199_135, u199_137, u199_138, u199_139, u199_140, u199_142, u199_145, u199_148, u199_150, zk_mk_1, zk_mk_I, zk_mk_R, zk_mk_set, zk_mk_setR, zk_mk_cpy, zk_rv_some, zk_rv_none, Option.toList_some, Option.toList_none, List.cons_append, List.nil_append, reduceIte, eq_self, Nat.reduceLT, Nat.reduceEqDiff, and_true, true_and, reduceCtorEq, zsh_60, zrf_60_17, ei, hcond, e2r, zq_2, not_false_eq_true, yrem, z_div2 i (by omega), zn_add]
              by_cases c1 : 2 * r ≤ i
              · have c2 : ¬ nI i < nI (2 * r) := by rw [zn_lt (by omega) (by omega)]; omega
                have c3 : nI (2 * r) ≤ nI i := Int32.not_lt.mp c2
                first | rw [if_neg c2] | rw [if_pos c3]
                exact nx _ (by rw [if_pos c1])
              · have c2 : nI i < nI (2 * r) := by rw [zn_lt (by omega) (by omega)]; omega
                have c3 : ¬ nI (2 * r) ≤ nI i := Int32.not_le.mpr c2
                first | rw [if_pos c2] | rw [if_neg c3]
                by_cases c4 : i % 2 = 0
                · rw [if_pos c4]
                  exact nx _ (by rw [if_neg c1, if_pos c4])
                · rw [if_neg c4]
                  have hh : a + i / 2 < 2 ^ n := by omega
                  have z3 : zk_inb (nI (a + i / 2)) 1024 = true := by rw [zn_in (by omega)]; omega
                  have z4 : (nI (a + i / 2)).toNatClampNeg = a + i / 2 := zn_cl (by omega)
                  simp only [u199_0, u199_1, u199_2, u199_3, u199_6, u199_9, u199_11, u199_12, u199_13, u199_14, u199_17, u199_20, u199_21, u199_22, u199_24, u199_27, u199_30, u199_32, u199_33, u199_34, u199_37, u199_38, u199_39, u199_40, u199_41, u199_44, u199_45, u199_46, u199_49, u199_50, u199_53, u199_54, u199_55, u199_56, u199_57, u199_60, u199_61, u199_63, u199_64, u199_67, u199_68, u199_69, u199_70, u199_71, u199_74, u199_75, u199_76, u199_78, u199_79, u199_80, u199_81, u199_85, u199_87, u199_90, u199_91, u199_94, u199_96, u199_97, u199_98, u199_100, u199_101, u199_103, u199_104, u199_106, u199_107, u199_110, u199_111, u199_114, u199_116, u199_117, u199_118, u199_121, u199_122, u199_124, u199_125, u199_126, u199_127, u199_130, u199_131, u199_134, u199_135, u199_137, u199_138, u199_139, u199_140, u199_142, u199_145, u199_148, u199_150, zk_mk_1, zk_mk_I, zk_mk_R, zk_mk_set, zk_mk_setR, zk_mk_cpy, zk_rv_some, zk_rv_none, Option.toList_some, Option.toList_none, List.cons_append, List.nil_append, reduceIte, eq_self, Nat.reduceLT, Nat.reduceEqDiff, and_true, true_and, reduceCtorEq, zsh_60, zsh_78, zrf_60_31, z3, z4, e78, (h3 _ hh).1]
                  exact nx _ (by rw [if_neg c1, if_neg c4]))
          simp only [u199_0, u199_1, u199_2, u199_3, u199_6, u199_9, u199_11, u199_12, u199_13, u199_14, u199_17, u199_20, u199_21, u199_22, u199_24, u199_27, u199_30, u199_32, u199_33, u199_34, u199_37, u199_38, u199_39, u199_40, u199_41, u199_44, u199_45, u199_46, u199_49, u199_50, u199_53, u199_54, u199_55, u199_56, u199_57, u199_60, u199_61, u199_63, u199_64, u199_67, u199_68, u199_69, u199_70, u199_71, u199_74, u199_75, u199_76, u199_78, u199_79, u199_80, u199_81, u199_85, u199_87, u199_90, u199_91, u199_94, u199_96, u199_97, u199_98, u199_100, u199_101, u199_103, u199_104, u199_106, u199_107, u199_110, u199_111, u199_114, u199_116, u199_117, u199_118, u199_121, u199_122, u199_124, u199_125, u199_126, u199_127, u199_130, u199_131, u199_134, u199_135, u199_137, u199_138, u199_139, u199_140, u199_141, u199_142, u199_145, u199_148, u199_150, zk_mk_1, zk_mk_I, zk_mk_R, zk_mk_set, zk_mk_setR, zk_mk_cpy, zk_rv_some, zk_rv_none, Option.toList_some, Option.toList_none, List.cons_append, List.nil_append, reduceIte, eq_self, Nat.reduceLT, Nat.reduceEqDiff, and_true, true_and, reduceCtorEq, zsh_60, zsh_69, zsh_70, zrf_60_15, zrf_60_16, y1, y2, e2r]
          refine loop 0 _ (Nat.zero_le _) ⟨fun j j1 j2 j3 => ?_, fun b => ?_, fun b => ?_, fun b => ?_⟩
          · rw [zk_up2_r j2, zk_up2_r j1]
          · rw [zk_up2_k (by decide), zk_up2_i]
          · rw [zk_up2_i, zk_up2_k (by decide)]
          · rw [zk_up2_k (by decide), zk_up2_k (by decide), if_neg (by omega)]
        simp only [u199_0, u199_1, u199_2, u199_3, u199_6, u199_9, u199_11, u199_12, u199_13, u199_14, u199_17, u199_20, u199_21, u199_22, u199_24, u199_27, u199_30, u199_32, u199_33, u199_34, u199_37, u199_38, u199_39, u199_40, u199_41, u199_44, u199_45, u199_46, u199_49, u199_50, u199_53, u199_54, u199_55, u199_56, u199_57, u199_60, u199_63, u199_64, u199_67, u199_68, u199_69, u199_70, u199_71, u199_74, u199_75, u199_76, u199_78, u199_79, u199_80, u199_81, u199_85, u199_87, u199_90, u199_91, u199_94, u199_96, u199_97, u199_98, u199_100, u199_101, u199_103, u199_104, u199_106, u199_107, u199_110, u199_111, u199_114, u199_116, u199_117, u199_118, u199_121, u199_122, u199_124, u199_125, u199_126, u199_127, u199_130, u199_131, u199_134, u199_135, u199_137, u199_138, u199_139, u199_140, u199_141, u199_142, u199_145, u199_148, u199_150, zk_mk_1, zk_mk_I, zk_mk_R, zk_mk_set, zk_mk_setR, zk_mk_cpy, zk_rv_some, zk_rv_none, Option.toList_some, Option.toList_none, List.cons_append, List.nil_append, reduceIte, eq_self, Nat.reduceLT, Nat.reduceEqDiff, and_true, true_and, reduceCtorEq, zsh_60, s161, hn2, eall, eall2, esub, zn_add]
        by_cases c : a + l ≤ 2 ^ n
        · have c2 : nI (a + l) ≤ nI (2 ^ n) := by rw [zn_le (by omega) (by omega)]; exact c
          have c3 : ¬ nI (2 ^ n) < nI (a + l) := Int32.not_lt.mpr c2
          first | rw [if_pos c2] | rw [if_neg c3]
          exact tail l (by rw [Nat.min_eq_left (by omega)])
        · have c3 : nI (2 ^ n) < nI (a + l) := by rw [zn_lt (by omega) (by omega)]; omega
          have c2 : ¬ nI (a + l) ≤ nI (2 ^ n) := Int32.not_le.mpr c3
          first | rw [if_neg c2] | rw [if_pos c3]
          exact tail (2 ^ n - a) (by rw [Nat.min_eq_right (by omega)])
      · rw [if_pos hk]
        have := (bad (fun w => hk w.2.2)).2
        unfold zA_film at this
        rw [if_pos hs, if_neg (fun w => hk w.2)] at this
        exact this
    · rw [if_pos hf]
      have := (bad (fun w => hf w.2.1)).2
      unfold zA_film at this
      rw [if_pos hs, if_neg (fun w => hf w.1)] at this
      exact this
  · rw [if_pos hs]
    have := (bad (fun w => hs w.1)).2
    unfold zA_film at this
    rw [if_neg hs] at this
    exact this
