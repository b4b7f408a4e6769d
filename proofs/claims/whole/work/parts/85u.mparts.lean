/-! a part of a text by the reference -/
theorem s131b {sc : zk_X} {d : Nat} {I : Nat → Nat → Int32} {tg : Option Nat} {P : Option Value → zk_M → Prop} {m q p : Nat} {B : Nat → Nat} {O : List Nat} (hq : q < 6) (hmp : zj_mp I m B) (h19 : I 60 19 = nI p) (hO : zOm I q O) (hp : p ≤ m) (hl : O.length ≤ p) (K : ∀ I' S', zrch m B (0, p, [], O) S' → (S'.1 = 3 ∨ S'.1 = 4) → zME q I I' → (S'.1 = 3 → I' 60 20 = nI S'.2.1) → (S'.1 = 4 → I' 60 19 = nI S'.2.1 ∧ zOm I' q S'.2.2.2) → P (some (.int (zb (S'.1 = 4)))) (zk_mk I' tg)) : zk_R sc (d + 3) 131 0 [some (.ref (60 : Nat)), none, none, none] [] (zk_mk I tg) P := by
  have hb : ∀ j, j < m → B j < 256 := fun j hj => (hmp.2.2.1 j hj).2
  have i2 := zI2_0 hp hl
  refine s131 hq hmp h19 hp hO hl ?_
  intro I' S' a1 a2 a3 a4 a5
  refine K I' S' a1 ?_ a3 a4 a5
  obtain ⟨k, hk⟩ := a1
  have := zInv_rch (B := B) (O0 := O) hb k (0, p, [], O) (Or.inr (Or.inr ⟨by show 0 ≤ 2; decide, i2⟩))
  rw [hk] at this
  rcases this with w | w | w
  · exact Or.inl w
  · exact Or.inr w.1
  · omega
def zMyy (q : Nat) (I I' : Nat → Nat → Int32) : Prop := (∀ k, k ≠ 60 → k ≠ 66 → k ≠ 67 → k ≠ 74 → I' k = I k) ∧ (∀ j, j < 19 ∨ (22 < j ∧ j < 25) ∨ 27 < j → I' 60 j = I 60 j) ∧ (∀ j, j < 200 * q → I' 66 j = I 66 j)
theorem zMyy.trans {q : Nat} {I I' I'' : Nat → Nat → Int32} (h : zMyy q I I') (g : zMyy q I' I'') : zMyy q I I'' := ⟨fun k a b c e => by rw [g.1 k a b c e, h.1 k a b c e], fun j hj => by rw [g.2.1 j hj, h.2.1 j hj], fun j hj => by rw [g.2.2 j hj, h.2.2 j hj]⟩
theorem zMyy.mp {q m : Nat} {B : Nat → Nat} {I I' : Nat → Nat → Int32} (h : zMyy q I I') (g : zj_mp I m B) : zj_mp I' m B := by
  obtain ⟨a, b, c, e⟩ := g
  refine ⟨by rw [h.2.1 6 (by decide)]; exact a, b, fun j hj => by rw [h.1 65 (by decide) (by decide) (by decide) (by decide)]; exact c j hj, ?_⟩
  unfold zj_con
  rw [h.1 73 (by decide) (by decide) (by decide) (by decide)]; exact e
theorem zmtk_3 {c : Nat} (h : zwcok c) : (zmtk c = 3) = (6 ≤ c ∧ c ≤ 8) := by
  rcases zwcok_l h with rfl | rfl | rfl | rfl | rfl | rfl | rfl | rfl | rfl | rfl | rfl | rfl | rfl | rfl | rfl | rfl | h | h
  all_goals first
    | exact propext (by decide)
    | (rw [zmtk_n h.1 h.2]; exact propext ⟨fun w => absurd w (by decide), fun w => by omega⟩)
    | (rw [zmtk_w h.1]; exact propext ⟨fun w => absurd w (by decide), fun w => by omega⟩)
theorem zMprt {sc : zk_X} {m q i p d : Nat} {B : Nat → Nat} {O : List Nat} {I : Nat → Nat → Int32} {tg : Option Nat} {P : Option Value → zk_M → Prop} (hq : q < 6) (hi : i < 3) (hmp : zj_mp I m B) (h19 : I 60 19 = nI p) (hO : zOm I q O) (hp : p ≤ m) (hl : O.length ≤ p) (K : ∀ I', zMyy q I I' → (∀ j, j ≠ 4 * q + i → I' 67 j = I 67 j) → I' 67 (4 * q + i) = nI O.length → ((zpr1 m B i p O).1 = 2 → I' 60 19 = nI (zpr1 m B i p O).2.1 ∧ zOm I' q (zpr1 m B i p O).2.2) → ((zpr1 m B i p O).1 = 3 → I' 60 20 = nI (zpr1 m B i p O).2.1) → zk_R sc (d + 4) 127 26 [some (.ref (60 : Nat)), some (.int (zb ((zpr1 m B i p O).1 = 2))), some (.int (nI (i + 1)))] [] (zk_mk I' tg) P) : zk_R sc (d + 4) 127 26 [some (.ref (60 : Nat)), some (.int 1), some (.int (nI i))] [] (zk_mk I tg) P := by
  have hb : ∀ j, j < m → B j < 256 := fun j hj => (hmp.2.2.1 j hj).2
  have hm160 := hmp.2.1
  have c3 : ¬ (3 : Int32) ≤ nI i := nI_ge (b := 3) hi (by decide)
  have p1 : (nI i + 1 : Int32) = nI (i + 1) := zn_add _ 1
  have z0 : (4 : Int32) * nI q + nI i = nI (4 * q + i) := by rw [show (4 : Int32) = nI 4 from rfl, zn_mul, zn_add]
  have z1 : zk_inb (nI (4 * q + i)) 24 = true := by rw [zn_in (by omega)]; omega
  have z2 : (nI (4 * q + i)).toNatClampNeg = 4 * q + i := zn_cl (by omega)
  rw [u127_26]
  simp only [u127_0, u127_1, u127_4, u127_6, u127_9, u127_11, u127_12, u127_13, u127_14, u127_17, u127_18, u127_19, u127_22, u127_23, u127_24, u127_25, u127_27, u127_28, u127_31, u127_32, u127_35, u127_36, u127_39, u127_40, u127_43, u127_44, u127_47, u127_48, u127_51, u127_52, u127_55, u127_56, u127_59, u127_60, u127_61, u127_62, u127_65, u127_66, u127_67, u127_70, u127_71, u127_72, u127_73, u127_74, u127_77, u127_78, u127_79, u127_82, u127_83, u127_86, u127_89, u127_90, u127_93, u127_94, u127_95, u127_98, u127_101, u127_102, u127_105, u127_106, u127_109, u127_110, u127_113, u127_116, u127_117, u127_120, u127_121, u127_122, u127_123, u127_126, u127_127, u127_128, u127_131, u127_132, u127_133, u127_134, u127_135, u127_138, u127_139, u127_140, u127_141, u127_144, u127_145, u127_148, u127_150, u127_151, u127_154, u127_155, u127_156, u127_157, u127_158, u127_161, u127_162, u127_163, u127_166, u127_167, u127_170, u127_171, u127_172, zk_mk_1, zk_mk_I, zk_mk_R, zk_mk_set, zk_mk_setR, zk_mk_cpy, zk_rv_some, zk_rv_none, Option.toList_some, Option.toList_none, List.cons_append, List.nil_append, reduceIte, eq_self, Nat.reduceLT, Nat.reduceEqDiff, and_true, true_and, reduceCtorEq, zsh_60, c3, show ¬ (1 : Int32) = 0 from by decide]
  refine s128 (d := d + 2) hmp h19 hp ?_
  intro I1 f1 f2 ft fv fa fb
  have hc : zwcok (zyc m B (zsk m B 160 p)) := zyc_cases hb
  have m1 : zMyy q I I1 := ⟨fun k a b c e => f1 k a, fun j hj => f2 j (by omega), fun j hj => by rw [f1 66 (by decide)]⟩
  have e9 : I1 60 9 = nI q := by rw [f2 9 (by decide)]; exact hO.1
  have e27 : I1 60 27 = nI O.length := by rw [f2 27 (by decide)]; exact hO.2.1
  have e66 : ∀ j, I1 66 j = I 66 j := fun j => by rw [f1 66 (by decide)]
  have e67 : ∀ j, I1 67 j = I 67 j := fun j => by rw [f1 67 (by decide)]
  have ms : zMyy q I1 (zk_up2 I1 67 (4 * q + i) (nI O.length)) := ⟨fun k a b c e => by rw [zk_up2_r c], fun j hj => by rw [zk_up2_k (by decide)], fun j hj => by rw [zk_up2_k (by decide)]⟩
  by_cases c : zqc m B p = 6 + i
  · have c' : zyc m B (zsk m B 160 p) = 6 + i := c
    have t3 : I1 60 21 = 3 := by rw [ft, zmtk_3 hc]; omega
    have v3 : I1 60 22 = nI i := by
      rw [fv (by omega)]
      unfold zmtv
      rw [if_pos (by omega)]
      exact congrArg nI (by omega)
    have hgt := zqb_gt (B := B) hp (by omega)
    simp only [u127_0, u127_1, u127_4, u127_6, u127_9, u127_11, u127_12, u127_13, u127_14, u127_17, u127_18, u127_19, u127_22, u127_23, u127_24, u127_25, u127_27, u127_28, u127_31, u127_32, u127_35, u127_36, u127_39, u127_40, u127_43, u127_44, u127_47, u127_48, u127_51, u127_52, u127_55, u127_56, u127_59, u127_60, u127_61, u127_62, u127_65, u127_66, u127_67, u127_70, u127_71, u127_72, u127_73, u127_74, u127_77, u127_78, u127_79, u127_82, u127_83, u127_86, u127_89, u127_90, u127_93, u127_94, u127_95, u127_98, u127_101, u127_102, u127_105, u127_106, u127_109, u127_110, u127_113, u127_116, u127_117, u127_120, u127_121, u127_122, u127_123, u127_126, u127_127, u127_128, u127_131, u127_132, u127_133, u127_134, u127_135, u127_138, u127_139, u127_140, u127_141, u127_144, u127_145, u127_148, u127_150, u127_151, u127_154, u127_155, u127_156, u127_157, u127_158, u127_161, u127_162, u127_163, u127_166, u127_167, u127_170, u127_171, u127_172, zk_mk_1, zk_mk_I, zk_mk_R, zk_mk_set, zk_mk_setR, zk_mk_cpy, zk_rv_some, zk_rv_none, Option.toList_some, Option.toList_none, List.cons_append, List.nil_append, reduceIte, eq_self, Nat.reduceLT, Nat.reduceEqDiff, and_true, true_and, reduceCtorEq, zsh_60, zsh_67, zrf_60_8, t3, v3, e9, e27, z0, z1, z2, zk_up2_k, ne_eq, Nat.reduceEqDiff, not_false_eq_true, show ¬ (1 : Int32) = 0 from by decide]
    refine s131b (d := d) (B := B) (O := O) (p := zqb m B p) hq (ms.mp (m1.mp hmp)) (by rw [zk_up2_k (by decide)]; exact fb) ⟨by rw [zk_up2_k (by decide)]; exact e9, by rw [zk_up2_k (by decide)]; exact e27, fun k hk => by rw [zk_up2_k (by decide), e66]; exact hO.2.2 k hk⟩ hgt.2.1 (by omega) ?_
    intro I2 S' a1 a2 a3 a4 a5
    have m2 : zMyy q (zk_up2 I1 67 (4 * q + i) (nI O.length)) I2 := ⟨fun k a b _ e => a3.1 k a b e, a3.2.1, a3.2.2⟩
    have k67 : ∀ j, I2 67 j = zk_up2 I1 67 (4 * q + i) (nI O.length) 67 j := fun j => by rw [a3.1 67 (by decide) (by decide) (by decide)]
    have g1 : ∀ j, j ≠ 4 * q + i → I2 67 j = I 67 j := fun j hj => by rw [k67, zk_up2_j hj, e67]
    have g2 : I2 67 (4 * q + i) = nI O.length := by rw [k67, zk_up2_s]
    have key := zfnl_eq a1 (by rcases a2 with w | w <;> omega)
    have ez : zpr1 m B i p O = (if S'.1 = 4 then (2, S'.2.1, S'.2.2.2) else (3, S'.2.1, O)) := by
      unfold zpr1
      rw [if_pos c, key]
    rcases a2 with w | w
    · have w4 : ¬ S'.1 = 4 := by omega
      rw [if_neg w4] at ez
      rw [ez] at K
      simp only [u127_0, u127_1, u127_4, u127_6, u127_9, u127_11, u127_12, u127_13, u127_14, u127_17, u127_18, u127_19, u127_22, u127_23, u127_24, u127_25, u127_27, u127_28, u127_31, u127_32, u127_35, u127_36, u127_39, u127_40, u127_43, u127_44, u127_47, u127_48, u127_51, u127_52, u127_55, u127_56, u127_59, u127_60, u127_61, u127_62, u127_65, u127_66, u127_67, u127_70, u127_71, u127_72, u127_73, u127_74, u127_77, u127_78, u127_79, u127_82, u127_83, u127_86, u127_89, u127_90, u127_93, u127_94, u127_95, u127_98, u127_101, u127_102, u127_105, u127_106, u127_109, u127_110, u127_113, u127_116, u127_117, u127_120, u127_121, u127_122, u127_123, u127_126, u127_127, u127_128, u127_131, u127_132, u127_133, u127_134, u127_135, u127_138, u127_139, u127_140, u127_141, u127_144, u127_145, u127_148, u127_150, u127_151, u127_154, u127_155, u127_156, u127_157, u127_158, u127_161, u127_162, u127_163, u127_166, u127_167, u127_170, u127_171, u127_172, zk_mk_1, zk_mk_I, zk_mk_R, zk_mk_set, zk_mk_setR, zk_mk_cpy, zk_rv_some, zk_rv_none, Option.toList_some, Option.toList_none, List.cons_append, List.nil_append, reduceIte, eq_self, Nat.reduceLT, Nat.reduceEqDiff, and_true, true_and, reduceCtorEq, zb_f w4, p1]
      exact K I2 ((m1.trans ms).trans m2) g1 g2 (fun w' => absurd w' (by show ¬ 3 = 2; decide)) (fun _ => a4 w)
    · rw [if_pos w] at ez
      rw [ez] at K
      simp only [u127_0, u127_1, u127_4, u127_6, u127_9, u127_11, u127_12, u127_13, u127_14, u127_17, u127_18, u127_19, u127_22, u127_23, u127_24, u127_25, u127_27, u127_28, u127_31, u127_32, u127_35, u127_36, u127_39, u127_40, u127_43, u127_44, u127_47, u127_48, u127_51, u127_52, u127_55, u127_56, u127_59, u127_60, u127_61, u127_62, u127_65, u127_66, u127_67, u127_70, u127_71, u127_72, u127_73, u127_74, u127_77, u127_78, u127_79, u127_82, u127_83, u127_86, u127_89, u127_90, u127_93, u127_94, u127_95, u127_98, u127_101, u127_102, u127_105, u127_106, u127_109, u127_110, u127_113, u127_116, u127_117, u127_120, u127_121, u127_122, u127_123, u127_126, u127_127, u127_128, u127_131, u127_132, u127_133, u127_134, u127_135, u127_138, u127_139, u127_140, u127_141, u127_144, u127_145, u127_148, u127_150, u127_151, u127_154, u127_155, u127_156, u127_157, u127_158, u127_161, u127_162, u127_163, u127_166, u127_167, u127_170, u127_171, u127_172, zk_mk_1, zk_mk_I, zk_mk_R, zk_mk_set, zk_mk_setR, zk_mk_cpy, zk_rv_some, zk_rv_none, Option.toList_some, Option.toList_none, List.cons_append, List.nil_append, reduceIte, eq_self, Nat.reduceLT, Nat.reduceEqDiff, and_true, true_and, reduceCtorEq, zb_t w, p1, show ¬ (1 : Int32) = 0 from by decide]
      exact K I2 ((m1.trans ms).trans m2) g1 g2 (fun _ => a5 w) (fun w' => absurd w' (by show ¬ 2 = 3; decide))
  · rw [zpr_no c] at K
    have fin : zk_R sc (d + 4) 127 26 [some (.ref (60 : Nat)), some (.int 0), some (.int (nI (i + 1)))] [] (zk_mk (zk_up2 I1 67 (4 * q + i) (nI O.length)) tg) P := K _ (m1.trans ms) (fun j hj => by rw [zk_up2_j hj, e67]) (by rw [zk_up2_s]) (fun w' => absurd w' (by show ¬ 3 = 2; decide)) (fun _ => by rw [zk_up2_k (by decide)]; exact fa)
    by_cases c1 : 6 ≤ zyc m B (zsk m B 160 p) ∧ zyc m B (zsk m B 160 p) ≤ 8
    · have t3 : I1 60 21 = 3 := by rw [ft, zmtk_3 hc]; exact c1
      have v3 : ¬ I1 60 22 = nI i := by
        rw [fv (Or.inl c1)]
        unfold zmtv
        rw [if_pos (by omega), zn_eq (by omega) (by omega)]
        intro w
        exact c (by show zyc m B (zsk m B 160 p) = 6 + i; omega)
      simp only [u127_0, u127_1, u127_4, u127_6, u127_9, u127_11, u127_12, u127_13, u127_14, u127_17, u127_18, u127_19, u127_22, u127_23, u127_24, u127_25, u127_27, u127_28, u127_31, u127_32, u127_35, u127_36, u127_39, u127_40, u127_43, u127_44, u127_47, u127_48, u127_51, u127_52, u127_55, u127_56, u127_59, u127_60, u127_61, u127_62, u127_65, u127_66, u127_67, u127_70, u127_71, u127_72, u127_73, u127_74, u127_77, u127_78, u127_79, u127_82, u127_83, u127_86, u127_89, u127_90, u127_93, u127_94, u127_95, u127_98, u127_101, u127_102, u127_105, u127_106, u127_109, u127_110, u127_113, u127_116, u127_117, u127_120, u127_121, u127_122, u127_123, u127_126, u127_127, u127_128, u127_131, u127_132, u127_133, u127_134, u127_135, u127_138, u127_139, u127_140, u127_141, u127_144, u127_145, u127_148, u127_150, u127_151, u127_154, u127_155, u127_156, u127_157, u127_158, u127_161, u127_162, u127_163, u127_166, u127_167, u127_170, u127_171, u127_172, zk_mk_1, zk_mk_I, zk_mk_R, zk_mk_set, zk_mk_setR, zk_mk_cpy, zk_rv_some, zk_rv_none, Option.toList_some, Option.toList_none, List.cons_append, List.nil_append, reduceIte, eq_self, Nat.reduceLT, Nat.reduceEqDiff, and_true, true_and, reduceCtorEq, zsh_60, zsh_67, zrf_60_8, t3, v3, e9, e27, z0, z1, z2, p1]
      exact fin
    · have t3 : ¬ I1 60 21 = 3 := by rw [ft, zmtk_3 hc]; exact c1
      simp only [u127_0, u127_1, u127_4, u127_6, u127_9, u127_11, u127_12, u127_13, u127_14, u127_17, u127_18, u127_19, u127_22, u127_23, u127_24, u127_25, u127_27, u127_28, u127_31, u127_32, u127_35, u127_36, u127_39, u127_40, u127_43, u127_44, u127_47, u127_48, u127_51, u127_52, u127_55, u127_56, u127_59, u127_60, u127_61, u127_62, u127_65, u127_66, u127_67, u127_70, u127_71, u127_72, u127_73, u127_74, u127_77, u127_78, u127_79, u127_82, u127_83, u127_86, u127_89, u127_90, u127_93, u127_94, u127_95, u127_98, u127_101, u127_102, u127_105, u127_106, u127_109, u127_110, u127_113, u127_116, u127_117, u127_120, u127_121, u127_122, u127_123, u127_126, u127_127, u127_128, u127_131, u127_132, u127_133, u127_134, u127_135, u127_138, u127_139, u127_140, u127_141, u127_144, u127_145, u127_148, u127_150, u127_151, u127_154, u127_155, u127_156, u127_157, u127_158, u127_161, u127_162, u127_163, u127_166, u127_167, u127_170, u127_171, u127_172, zk_mk_1, zk_mk_I, zk_mk_R, zk_mk_set, zk_mk_setR, zk_mk_cpy, zk_rv_some, zk_rv_none, Option.toList_some, Option.toList_none, List.cons_append, List.nil_append, reduceIte, eq_self, Nat.reduceLT, Nat.reduceEqDiff, and_true, true_and, reduceCtorEq, zsh_60, zsh_67, zrf_60_8, t3, e9, e27, z0, z1, z2, p1]
      exact fin
