/-! a text by the reference: what holds then -/
def zMn (q : Nat) (I I' : Nat → Nat → Int32) : Prop := (∀ k, k ≠ 60 → k ≠ 66 → k ≠ 67 → k ≠ 74 → I' k = I k) ∧ (∀ j, (j < 19 ∧ j ≠ 6 ∧ j ≠ 9) ∨ (22 < j ∧ j < 25) ∨ 27 < j → I' 60 j = I 60 j) ∧ (∀ j, j < 200 * q → I' 66 j = I 66 j) ∧ ∀ j, j < 4 * q → I' 67 j = I 67 j
def zEm2 (I : Nat → Nat → Int32) (q : Nat) (m : Nat) (B : Nat → Nat) : Prop := (∀ k, k < (zX3 m B).2.2.length → I 66 (200 * q + k) = zt_m ((zX3 m B).2.2.getD k 0)) ∧ I 67 (4 * q) = nI 0 ∧ I 67 (4 * q + 1) = nI (zX1 m B).2.2.length ∧ I 67 (4 * q + 2) = nI (zX2 m B).2.2.length ∧ I 67 (4 * q + 3) = nI (zX3 m B).2.2.length
def zNt (I I' : Nat → Nat → Int32) (m : Nat) (B : Nat → Nat) (q : Nat) : Prop := zMn q I I' ∧ I' 60 6 = 0 ∧ (((zX4 m B).1 = 3 ∧ I' 60 9 = nI q) ∨ ((zX4 m B).1 = 2 ∧ I' 60 9 = nI (q + 1) ∧ zEm2 I' q m B))
theorem zX4_3 {m : Nat} {B : Nat → Nat} (h : (zX3 m B).1 = 3) : zX4 m B = zX3 m B := if_pos h
/-- behind a fault, by the reference -/
theorem zMf101 {sc : zk_X} {m q d : Nat} {B : Nat → Nat} {I I' : Nat → Nat → Int32} {tg : Option Nat} {P : Option Value → zk_M → Prop} {x : Option Value} (hq : q < 6) (y : zMyy q I I') (n : ∀ j, j < 4 * q → I' 67 j = I 67 j) (h9 : I 60 9 = nI q) (r : (zX4 m B).1 = 3) (h20 : I' 60 20 = nI (zX4 m B).2.1) (K : ∀ I', zNt I I' m B q → P (some (.int (zA_text m B q))) (zk_mk I' tg)) : zk_R sc (d + 4) 127 122 [some (.ref (60 : Nat)), some (.int 0), x] [] (zk_mk I' tg) P := by
  have e9 : I' 60 9 = nI q := by rw [y.2.1 9 (by decide)]; exact h9
  have z0 : (4 : Int32) * nI q + 3 = nI (4 * q + 3) := by rw [show (4 : Int32) = nI 4 from rfl, show (3 : Int32) = nI 3 from rfl, zn_mul, zn_add]
  have z1 : zk_inb (nI (4 * q + 3)) 24 = true := by rw [zn_in (by omega)]; omega
  have z2 : (nI (4 * q + 3)).toNatClampNeg = 4 * q + 3 := zn_cl (by omega)
  have et : zA_text m B q = -100 - nI (zX4 m B).2.1 := by unfold zA_text; rw [if_pos r]
  rw [et] at K
  rw [u127_122]
  simp only [u127_0, u127_1, u127_4, u127_6, u127_9, u127_11, u127_12, u127_13, u127_14, u127_17, u127_18, u127_19, u127_22, u127_23, u127_24, u127_25, u127_27, u127_28, u127_31, u127_32, u127_35, u127_36, u127_39, u127_40, u127_43, u127_44, u127_47, u127_48, u127_51, u127_52, u127_55, u127_56, u127_59, u127_60, u127_61, u127_62, u127_65, u127_66, u127_67, u127_70, u127_71, u127_72, u127_73, u127_74, u127_77, u127_78, u127_79, u127_82, u127_83, u127_86, u127_89, u127_90, u127_93, u127_94, u127_95, u127_98, u127_102, u127_105, u127_106, u127_109, u127_110, u127_113, u127_116, u127_117, u127_120, u127_121, u127_123, u127_126, u127_127, u127_128, u127_131, u127_132, u127_133, u127_134, u127_135, u127_138, u127_139, u127_140, u127_141, u127_144, u127_145, u127_148, u127_150, u127_151, u127_154, u127_155, u127_156, u127_157, u127_158, u127_161, u127_162, u127_163, u127_166, u127_167, u127_170, u127_171, u127_172, zk_mk_1, zk_mk_I, zk_mk_R, zk_mk_set, zk_mk_setR, zk_mk_cpy, zk_rv_some, zk_rv_none, Option.toList_some, Option.toList_none, List.cons_append, List.nil_append, reduceIte, eq_self, Nat.reduceLT, Nat.reduceEqDiff, and_true, true_and, reduceCtorEq, zsh_60, zsh_67, zrf_60_8, e9, z0, z1, z2, zk_up2_k, zk_up2_j, h20, ne_eq, Nat.reduceEqDiff, not_false_eq_true]
  refine K _ ⟨⟨fun k a b c e => by rw [zk_up2_r a, zk_up2_r c]; exact y.1 k a b c e, fun j hj => by rw [zk_up2_j (by omega), zk_up2_k (by decide)]; exact y.2.1 j (by omega), fun j hj => by rw [zk_up2_k (by decide), zk_up2_k (by decide)]; exact y.2.2 j hj, fun j hj => by rw [zk_up2_k (by decide), zk_up2_j (by omega)]; exact n j hj⟩, by rw [zk_up2_s], Or.inl ⟨r, by rw [zk_up2_j (by decide), zk_up2_k (by decide)]; exact e9⟩⟩
theorem s127_6 {sc : zk_X} {d : Nat} {I : Nat → Nat → Int32} {tg : Option Nat} {P : Option Value → zk_M → Prop} (h : I 60 9 = nI 6) (K : P (some (.int (-4))) (zk_mk I tg)) : zk_R sc (d + 4) 127 0 [some (.ref (60 : Nat)), none, none] [] (zk_mk I tg) P := by
  have c : nI 6 = 6 := by decide
  simp only [u127_0, u127_1, u127_4, u127_6, u127_9, u127_11, u127_12, u127_13, u127_14, u127_17, u127_18, u127_19, u127_22, u127_23, u127_24, u127_25, u127_27, u127_28, u127_31, u127_32, u127_35, u127_36, u127_39, u127_40, u127_43, u127_44, u127_47, u127_48, u127_51, u127_52, u127_55, u127_56, u127_59, u127_60, u127_61, u127_62, u127_65, u127_66, u127_67, u127_70, u127_71, u127_72, u127_73, u127_74, u127_77, u127_78, u127_79, u127_82, u127_83, u127_86, u127_89, u127_90, u127_93, u127_94, u127_95, u127_98, u127_101, u127_102, u127_105, u127_106, u127_109, u127_110, u127_113, u127_116, u127_117, u127_120, u127_121, u127_122, u127_123, u127_126, u127_127, u127_128, u127_131, u127_132, u127_133, u127_134, u127_135, u127_138, u127_139, u127_140, u127_141, u127_144, u127_145, u127_148, u127_150, u127_151, u127_154, u127_155, u127_156, u127_157, u127_158, u127_161, u127_162, u127_163, u127_166, u127_167, u127_170, u127_171, u127_172, zk_mk_1, zk_mk_I, zk_mk_R, zk_mk_set, zk_mk_setR, zk_mk_cpy, zk_rv_some, zk_rv_none, Option.toList_some, Option.toList_none, List.cons_append, List.nil_append, reduceIte, eq_self, Nat.reduceLT, Nat.reduceEqDiff, and_true, true_and, reduceCtorEq, zsh_60, h, c]
  exact K
theorem s127 {sc : zk_X} {m q d : Nat} {B : Nat → Nat} {I : Nat → Nat → Int32} {tg : Option Nat} {P : Option Value → zk_M → Prop} (h9 : I 60 9 = nI q) (hq : q < 6) (hmp : zj_mp I m B) (g : zGs m B) (K : ∀ I', zNt I I' m B q → P (some (.int (zA_text m B q))) (zk_mk I' tg)) : zk_R sc (d + 4) 127 0 [some (.ref (60 : Nat)), none, none] [] (zk_mk I tg) P := by
  have hb : ∀ j, j < m → B j < 256 := fun j hj => (hmp.2.2.1 j hj).2
  have hm160 := hmp.2.1
  obtain ⟨b1, b2, b3⟩ := g
  have c : ¬ nI q = 6 := by rw [show (6 : Int32) = nI 6 from rfl, zn_eq (by omega) (by decide)]; omega
  -- a fault at a part's head
  have flt : ∀ i I', zMyy q I I' → (∀ j, j < 4 * q → I' 67 j = I 67 j) → (zX4 m B).1 = 3 → I' 60 20 = nI (zX4 m B).2.1 → zk_R sc (d + 4) 127 26 [some (.ref (60 : Nat)), some (.int 0), some (.int (nI i))] [] (zk_mk I' tg) P := by
    intro i I' y n r h20
    rw [u127_26]
    by_cases c3 : (3 : Int32) ≤ nI i
    · simp only [u127_0, u127_1, u127_4, u127_6, u127_9, u127_11, u127_12, u127_13, u127_14, u127_17, u127_18, u127_19, u127_22, u127_23, u127_24, u127_25, u127_27, u127_28, u127_31, u127_32, u127_35, u127_36, u127_39, u127_40, u127_43, u127_44, u127_47, u127_48, u127_51, u127_52, u127_55, u127_56, u127_59, u127_60, u127_61, u127_62, u127_65, u127_66, u127_67, u127_70, u127_71, u127_72, u127_73, u127_74, u127_77, u127_78, u127_79, u127_82, u127_83, u127_86, u127_89, u127_90, u127_93, u127_94, u127_95, u127_98, u127_101, u127_102, u127_105, u127_106, u127_109, u127_110, u127_113, u127_116, u127_117, u127_120, u127_121, u127_123, u127_126, u127_127, u127_128, u127_131, u127_132, u127_133, u127_134, u127_135, u127_138, u127_139, u127_140, u127_141, u127_144, u127_145, u127_148, u127_150, u127_151, u127_154, u127_155, u127_156, u127_157, u127_158, u127_161, u127_162, u127_163, u127_166, u127_167, u127_170, u127_171, u127_172, zk_mk_1, zk_mk_I, zk_mk_R, zk_mk_set, zk_mk_setR, zk_mk_cpy, zk_rv_some, zk_rv_none, Option.toList_some, Option.toList_none, List.cons_append, List.nil_append, reduceIte, eq_self, Nat.reduceLT, Nat.reduceEqDiff, and_true, true_and, reduceCtorEq, zsh_60, c3]
      exact zMf101 hq y n h9 r h20 K
    · simp only [u127_0, u127_1, u127_4, u127_6, u127_9, u127_11, u127_12, u127_13, u127_14, u127_17, u127_18, u127_19, u127_22, u127_23, u127_24, u127_25, u127_27, u127_28, u127_31, u127_32, u127_35, u127_36, u127_39, u127_40, u127_43, u127_44, u127_47, u127_48, u127_51, u127_52, u127_55, u127_56, u127_59, u127_60, u127_61, u127_62, u127_65, u127_66, u127_67, u127_70, u127_71, u127_72, u127_73, u127_74, u127_77, u127_78, u127_79, u127_82, u127_83, u127_86, u127_89, u127_90, u127_93, u127_94, u127_95, u127_98, u127_101, u127_102, u127_105, u127_106, u127_109, u127_110, u127_113, u127_116, u127_117, u127_120, u127_121, u127_123, u127_126, u127_127, u127_128, u127_131, u127_132, u127_133, u127_134, u127_135, u127_138, u127_139, u127_140, u127_141, u127_144, u127_145, u127_148, u127_150, u127_151, u127_154, u127_155, u127_156, u127_157, u127_158, u127_161, u127_162, u127_163, u127_166, u127_167, u127_170, u127_171, u127_172, zk_mk_1, zk_mk_I, zk_mk_R, zk_mk_set, zk_mk_setR, zk_mk_cpy, zk_rv_some, zk_rv_none, Option.toList_some, Option.toList_none, List.cons_append, List.nil_append, reduceIte, eq_self, Nat.reduceLT, Nat.reduceEqDiff, and_true, true_and, reduceCtorEq, zsh_60, c3]
      exact zMf101 hq y n h9 r h20 K
  have ok : ∀ I' p O, zX3 m B = (2, p, O) → zMyy q I I' → (∀ j, j < 4 * q → I' 67 j = I 67 j) → I' 60 19 = nI p → zOm I' q O → p ≤ m → I' 67 (4 * q) = nI 0 → I' 67 (4 * q + 1) = nI (zX1 m B).2.2.length → I' 67 (4 * q + 2) = nI (zX2 m B).2.2.length → zk_R sc (d + 4) 127 26 [some (.ref (60 : Nat)), some (.int 1), some (.int (nI 3))] [] (zk_mk I' tg) P := by
    intro I' p O e3 y n h19 hO hp s0 s1 s2
    have c3 : (3 : Int32) ≤ nI 3 := by decide
    rw [u127_26]
    simp only [u127_0, u127_1, u127_4, u127_6, u127_9, u127_11, u127_12, u127_13, u127_14, u127_17, u127_18, u127_19, u127_22, u127_23, u127_24, u127_25, u127_27, u127_28, u127_31, u127_32, u127_35, u127_36, u127_39, u127_40, u127_43, u127_44, u127_47, u127_48, u127_51, u127_52, u127_55, u127_56, u127_59, u127_60, u127_61, u127_62, u127_65, u127_66, u127_67, u127_70, u127_71, u127_72, u127_73, u127_74, u127_77, u127_78, u127_79, u127_82, u127_83, u127_86, u127_89, u127_90, u127_93, u127_94, u127_95, u127_98, u127_101, u127_102, u127_105, u127_106, u127_109, u127_110, u127_113, u127_116, u127_117, u127_120, u127_121, u127_123, u127_126, u127_127, u127_128, u127_131, u127_132, u127_133, u127_134, u127_135, u127_138, u127_139, u127_140, u127_141, u127_144, u127_145, u127_148, u127_150, u127_151, u127_154, u127_155, u127_156, u127_157, u127_158, u127_161, u127_162, u127_163, u127_166, u127_167, u127_170, u127_171, u127_172, zk_mk_1, zk_mk_I, zk_mk_R, zk_mk_set, zk_mk_setR, zk_mk_cpy, zk_rv_some, zk_rv_none, Option.toList_some, Option.toList_none, List.cons_append, List.nil_append, reduceIte, eq_self, Nat.reduceLT, Nat.reduceEqDiff, and_true, true_and, reduceCtorEq, zsh_60, c3, show ¬ (1 : Int32) = 0 from by decide]
    refine s128 (d := d + 2) (y.mp hmp) h19 hp ?_
    intro I1 f1 f2 ft fv fa fb
    have hc : zwcok (zyc m B (zsk m B 160 p)) := zyc_cases hb
    have y1 : zMyy q I I1 := y.trans ⟨fun k a b c e => f1 k a, fun j hj => f2 j (by omega), fun j hj => by rw [f1 66 (by decide)]⟩
    have e67 : ∀ j, I1 67 j = I' 67 j := fun j => by rw [f1 67 (by decide)]
    have e66 : ∀ j, I1 66 j = I' 66 j := fun j => by rw [f1 66 (by decide)]
    have e4 : zX4 m B = if zqc m B p = 0 then (2, p, O) else (3, zqa m B p, O) := by
      unfold zX4 zfi
      rw [e3, if_neg (by show ¬ 2 = 3; decide)]
    have k0 : (I1 60 21 = 0) = (zqc m B p = 0) := by rw [ft]; exact zmtk_fe hc (by simp)
    by_cases c0 : zqc m B p = 0
    · rw [if_pos c0] at e4
      have q0 : I1 60 21 = 0 := by rw [k0]; exact c0
      have e9 : I1 60 9 = nI q := by rw [y1.2.1 9 (by decide)]; exact h9
      have e27 : I1 60 27 = nI O.length := by rw [f2 27 (by decide)]; exact hO.2.1
      have z0 : (4 : Int32) * nI q + 3 = nI (4 * q + 3) := by rw [show (4 : Int32) = nI 4 from rfl, show (3 : Int32) = nI 3 from rfl, zn_mul, zn_add]
      have z1 : zk_inb (nI (4 * q + 3)) 24 = true := by rw [zn_in (by omega)]; omega
      have z2 : (nI (4 * q + 3)).toNatClampNeg = 4 * q + 3 := zn_cl (by omega)
      have p1 : (nI q + 1 : Int32) = nI (q + 1) := zn_add _ 1
      have p2 : (nI (q + 1) - 1 : Int32) = nI q := zn_sub (b := 1) (by omega)
      have et : zA_text m B q = nI q := by unfold zA_text; rw [e4, if_neg (by show ¬ 2 = 3; decide)]
      rw [et] at K
      simp only [u127_0, u127_1, u127_4, u127_6, u127_9, u127_11, u127_12, u127_13, u127_14, u127_17, u127_18, u127_19, u127_22, u127_23, u127_24, u127_25, u127_27, u127_28, u127_31, u127_32, u127_35, u127_36, u127_39, u127_40, u127_43, u127_44, u127_47, u127_48, u127_51, u127_52, u127_55, u127_56, u127_59, u127_60, u127_61, u127_62, u127_65, u127_66, u127_67, u127_70, u127_71, u127_72, u127_73, u127_74, u127_77, u127_78, u127_79, u127_82, u127_83, u127_86, u127_89, u127_90, u127_93, u127_94, u127_95, u127_98, u127_101, u127_102, u127_105, u127_106, u127_109, u127_110, u127_113, u127_116, u127_117, u127_120, u127_121, u127_123, u127_126, u127_127, u127_128, u127_131, u127_132, u127_133, u127_134, u127_135, u127_138, u127_139, u127_140, u127_141, u127_144, u127_145, u127_148, u127_150, u127_151, u127_154, u127_155, u127_156, u127_157, u127_158, u127_161, u127_162, u127_163, u127_166, u127_167, u127_170, u127_171, u127_172, zk_mk_1, zk_mk_I, zk_mk_R, zk_mk_set, zk_mk_setR, zk_mk_cpy, zk_rv_some, zk_rv_none, Option.toList_some, Option.toList_none, List.cons_append, List.nil_append, reduceIte, eq_self, Nat.reduceLT, Nat.reduceEqDiff, and_true, true_and, reduceCtorEq, zsh_60, q0]
      rw [u127_122]
      simp only [u127_0, u127_1, u127_4, u127_6, u127_9, u127_11, u127_12, u127_13, u127_14, u127_17, u127_18, u127_19, u127_22, u127_23, u127_24, u127_25, u127_27, u127_28, u127_31, u127_32, u127_35, u127_36, u127_39, u127_40, u127_43, u127_44, u127_47, u127_48, u127_51, u127_52, u127_55, u127_56, u127_59, u127_60, u127_61, u127_62, u127_65, u127_66, u127_67, u127_70, u127_71, u127_72, u127_73, u127_74, u127_77, u127_78, u127_79, u127_82, u127_83, u127_86, u127_89, u127_90, u127_93, u127_94, u127_95, u127_98, u127_101, u127_102, u127_105, u127_106, u127_109, u127_110, u127_113, u127_116, u127_117, u127_120, u127_121, u127_123, u127_126, u127_127, u127_128, u127_131, u127_132, u127_133, u127_134, u127_135, u127_138, u127_139, u127_140, u127_141, u127_144, u127_145, u127_148, u127_150, u127_151, u127_154, u127_155, u127_156, u127_157, u127_158, u127_161, u127_162, u127_163, u127_166, u127_167, u127_170, u127_171, u127_172, zk_mk_1, zk_mk_I, zk_mk_R, zk_mk_set, zk_mk_setR, zk_mk_cpy, zk_rv_some, zk_rv_none, Option.toList_some, Option.toList_none, List.cons_append, List.nil_append, reduceIte, eq_self, Nat.reduceLT, Nat.reduceEqDiff, and_true, true_and, reduceCtorEq, zsh_60, zsh_67, zrf_60_8, e9, e27, z0, z1, z2, zk_up2_k, zk_up2_j, p1, zk_up2_s, p2, ne_eq, Nat.reduceEqDiff, not_false_eq_true, show ¬ (1 : Int32) = 0 from by decide]
      have ex3 : (zX3 m B).2.2 = O := by rw [e3]
      have o67 : ∀ j, zk_up2 (zk_up2 (zk_up2 I1 67 (4 * q + 3) (nI O.length)) 60 6 0) 60 9 (nI (q + 1)) 67 j = zk_up2 I1 67 (4 * q + 3) (nI O.length) 67 j := fun j => by rw [zk_up2_k (by decide), zk_up2_k (by decide)]
      refine K _ ⟨⟨fun k a b c e => by rw [zk_up2_r a, zk_up2_r a, zk_up2_r c]; exact y1.1 k a b c e, fun j hj => by rw [zk_up2_j (by omega), zk_up2_j (by omega), zk_up2_k (by decide)]; exact y1.2.1 j (by omega), fun j hj => by rw [zk_up2_k (by decide), zk_up2_k (by decide), zk_up2_k (by decide)]; exact y1.2.2 j hj, fun j hj => by rw [o67, zk_up2_j (by omega), e67]; exact n j hj⟩, by rw [zk_up2_j (by decide), zk_up2_s], Or.inr ⟨by rw [e4], by rw [zk_up2_s], ?_⟩⟩
      refine ⟨fun k hk => ?_, by rw [o67, zk_up2_j (by omega), e67]; exact s0, by rw [o67, zk_up2_j (by omega), e67]; exact s1, by rw [o67, zk_up2_j (by omega), e67]; exact s2, by rw [o67, zk_up2_s, ex3]⟩
      rw [ex3] at hk ⊢
      rw [zk_up2_k (by decide), zk_up2_k (by decide), zk_up2_k (by decide), e66]
      exact hO.2.2 k hk
    · rw [if_neg c0] at e4
      have q0 : ¬ I1 60 21 = 0 := by rw [k0]; exact c0
      simp only [u127_0, u127_1, u127_4, u127_6, u127_9, u127_11, u127_12, u127_13, u127_14, u127_17, u127_18, u127_19, u127_22, u127_23, u127_24, u127_25, u127_27, u127_28, u127_31, u127_32, u127_35, u127_36, u127_39, u127_40, u127_43, u127_44, u127_47, u127_48, u127_51, u127_52, u127_55, u127_56, u127_59, u127_60, u127_61, u127_62, u127_65, u127_66, u127_67, u127_70, u127_71, u127_72, u127_73, u127_74, u127_77, u127_78, u127_79, u127_82, u127_83, u127_86, u127_89, u127_90, u127_93, u127_94, u127_95, u127_98, u127_101, u127_102, u127_105, u127_106, u127_109, u127_110, u127_113, u127_116, u127_117, u127_120, u127_121, u127_123, u127_126, u127_127, u127_128, u127_131, u127_132, u127_133, u127_134, u127_135, u127_138, u127_139, u127_140, u127_141, u127_144, u127_145, u127_148, u127_150, u127_151, u127_154, u127_155, u127_156, u127_157, u127_158, u127_161, u127_162, u127_163, u127_166, u127_167, u127_170, u127_171, u127_172, zk_mk_1, zk_mk_I, zk_mk_R, zk_mk_set, zk_mk_setR, zk_mk_cpy, zk_rv_some, zk_rv_none, Option.toList_some, Option.toList_none, List.cons_append, List.nil_append, reduceIte, eq_self, Nat.reduceLT, Nat.reduceEqDiff, and_true, true_and, reduceCtorEq, zsh_60, q0]
      exact zMf101 hq y1 (fun j hj => by rw [e67]; exact n j hj) h9 (by rw [e4]) (by rw [e4]; exact fa) K
  simp only [u127_0, u127_1, u127_4, u127_6, u127_9, u127_11, u127_12, u127_13, u127_14, u127_17, u127_18, u127_19, u127_22, u127_23, u127_24, u127_25, u127_27, u127_28, u127_31, u127_32, u127_35, u127_36, u127_39, u127_40, u127_43, u127_44, u127_47, u127_48, u127_51, u127_52, u127_55, u127_56, u127_59, u127_60, u127_61, u127_62, u127_65, u127_66, u127_67, u127_70, u127_71, u127_72, u127_73, u127_74, u127_77, u127_78, u127_79, u127_82, u127_83, u127_86, u127_89, u127_90, u127_93, u127_94, u127_95, u127_98, u127_101, u127_102, u127_105, u127_106, u127_109, u127_110, u127_113, u127_116, u127_117, u127_120, u127_121, u127_122, u127_123, u127_126, u127_127, u127_128, u127_131, u127_132, u127_133, u127_134, u127_135, u127_138, u127_139, u127_140, u127_141, u127_144, u127_145, u127_148, u127_150, u127_151, u127_154, u127_155, u127_156, u127_157, u127_158, u127_161, u127_162, u127_163, u127_166, u127_167, u127_170, u127_171, u127_172, zk_mk_1, zk_mk_I, zk_mk_R, zk_mk_set, zk_mk_setR, zk_mk_cpy, zk_rv_some, zk_rv_none, Option.toList_some, Option.toList_none, List.cons_append, List.nil_append, reduceIte, eq_self, Nat.reduceLT, Nat.reduceEqDiff, and_true, true_and, reduceCtorEq, zsh_60, h9, c]
  have y0 : zMyy q I (zk_up2 (zk_up2 I 60 19 0) 60 27 0) := ⟨fun k a b c e => by rw [zk_up2_r a, zk_up2_r a], fun j hj => by rw [zk_up2_j (by omega), zk_up2_j (by omega)], fun j hj => by rw [zk_up2_k (by decide), zk_up2_k (by decide)]⟩
  have x1e : zX1 m B = zpr1 m B 0 0 [] := by
    unfold zX1 zprt
    rw [if_neg (by show ¬ 2 = 3; decide)]
  refine zMprt (i := 0) (p := 0) (O := []) (B := B) hq (by decide) (y0.mp hmp) (by rw [zk_up2_j (by decide), zk_up2_s]; rfl) ⟨by rw [y0.2.1 9 (by decide)]; exact h9, by rw [zk_up2_s]; rfl, fun k hk => absurd hk (by simp)⟩ (Nat.zero_le _) (Nat.zero_le _) ?_
  rw [← x1e]
  intro I1 y1 n1 s1 ok1 f1
  have n0' : ∀ j, zk_up2 (zk_up2 I 60 19 0) 60 27 0 67 j = I 67 j := fun j => by rw [zk_up2_k (by decide), zk_up2_k (by decide)]
  have y01 := y0.trans y1
  have m1 : ∀ j, j < 4 * q → I1 67 j = I 67 j := fun j hj => by rw [n1 j (by omega), n0']
  rcases b1 with r1 | ⟨r1, b11, b12, b13⟩
  · have e2 : zX2 m B = zX1 m B := zprt_3 r1
    have e3 : zX3 m B = zX1 m B := by unfold zX3; rw [e2]; exact zprt_3 r1
    have e4 : zX4 m B = zX1 m B := by rw [zX4_3 (by rw [e3]; exact r1), e3]
    rw [zb_f (by omega)]
    exact flt 1 I1 y01 m1 (by rw [e4]; exact r1) (by rw [e4]; exact f1 r1)
  rw [zb_t r1]
  obtain ⟨ok11, ok12⟩ := ok1 r1
  have x2e : zX2 m B = zpr1 m B 1 (zX1 m B).2.1 (zX1 m B).2.2 := if_neg (by omega)
  refine zMprt (i := 1) (p := (zX1 m B).2.1) (O := (zX1 m B).2.2) (B := B) hq (by decide) (y01.mp hmp) ok11 ok12 b11 b12 ?_
  rw [← x2e]
  intro I2 y2 n2 s2 ok2 f2
  have y02 := y01.trans y2
  have m2 : ∀ j, j < 4 * q → I2 67 j = I 67 j := fun j hj => by rw [n2 j (by omega), m1 j hj]
  rcases b2 with r2 | ⟨r2, b21, b22, b23⟩
  · have e3 : zX3 m B = zX2 m B := zprt_3 r2
    have e4 : zX4 m B = zX2 m B := by rw [zX4_3 (by rw [e3]; exact r2), e3]
    rw [zb_f (by omega)]
    exact flt 2 I2 y02 m2 (by rw [e4]; exact r2) (by rw [e4]; exact f2 r2)
  rw [zb_t r2]
  obtain ⟨ok21, ok22⟩ := ok2 r2
  have x3e : zX3 m B = zpr1 m B 2 (zX2 m B).2.1 (zX2 m B).2.2 := if_neg (by omega)
  refine zMprt (i := 2) (p := (zX2 m B).2.1) (O := (zX2 m B).2.2) (B := B) hq (by decide) (y02.mp hmp) ok21 ok22 b21 b22 ?_
  rw [← x3e]
  intro I3 y3 n3 s3 ok3 f3
  have y03 := y02.trans y3
  have m3 : ∀ j, j < 4 * q → I3 67 j = I 67 j := fun j hj => by rw [n3 j (by omega), m2 j hj]
  rcases b3 with r3 | ⟨r3, b31, b32, b33⟩
  · rw [zb_f (by omega)]
    exact flt 3 I3 y03 m3 (by rw [zX4_3 r3]; exact r3) (by rw [zX4_3 r3]; exact f3 r3)
  rw [zb_t r3]
  obtain ⟨ok31, ok32⟩ := ok3 r3
  exact ok I3 (zX3 m B).2.1 (zX3 m B).2.2 (by rw [← r3]) y03 m3 ok31 ok32 b31 (by rw [n3 _ (by omega), n2 _ (by omega)]; exact s1) (by rw [n3 _ (by omega)]; exact s2) s3
/-! what holds behind a text -/
theorem zwf_of {O0 C X : List Nat} {D a k : Nat} (h : zwo C D) (hD : 1 ≤ D) (ha : a = O0.length) (hk : k = C.length) : zt_wf (fun j => (O0 ++ C ++ X).getD j 0) a k := by
  subst ha hk
  have e : ∀ i, i < C.length → (O0 ++ C ++ X).getD (O0.length + i) 0 = C.getD i 0 := fun i hi => by rw [List.append_assoc, zl_app_ge, zl_app_lt hi]
  have ed : ∀ i, i ≤ C.length → zt_dp (fun j => (O0 ++ C ++ X).getD j 0) O0.length i = zt_dp (fun k => C.getD k 0) 0 i := fun i hi => zt_dp_cg i (fun k hk => by
    show (O0 ++ C ++ X).getD (O0.length + k) 0 = C.getD (0 + k) 0
    rw [e k (by omega), Nat.zero_add])
  refine ⟨fun i hi => ?_, ?_⟩
  · show zt_ok ((O0 ++ C ++ X).getD (O0.length + i) 0) _
    rw [e i hi, ed i (by omega)]
    exact h.1 i hi
  · rw [ed _ (Nat.le_refl _), h.2]; exact hD
noncomputable def zTT (TT : Nat → Nat → Nat) (q : Nat) (m : Nat) (B : Nat → Nat) : Nat → Nat → Nat := fun t => if t = q then (fun k => (zX3 m B).2.2.getD k 0) else TT t
noncomputable def zEE (EE : Nat → Nat → Nat) (q : Nat) (m : Nat) (B : Nat → Nat) : Nat → Nat → Nat := fun t => if t = q then (fun p => if p = 0 then (zX1 m B).2.2.length else if p = 1 then (zX2 m B).2.2.length else (zX3 m B).2.2.length) else EE t
theorem zGs_2 {m : Nat} {B : Nat → Nat} (g : zGs m B) (h : (zX4 m B).1 = 2) : ∃ C1 C2 C3 D1 D2 D3, (zX1 m B).2.2 = [] ++ C1 ∧ (zX2 m B).2.2 = ([] ++ C1) ++ C2 ∧ (zX3 m B).2.2 = (([] ++ C1) ++ C2) ++ C3 ∧ (1 ≤ D1 ∧ zwo C1 D1) ∧ (1 ≤ D2 ∧ zwo C2 D2) ∧ (1 ≤ D3 ∧ zwo C3 D3) ∧ (zX3 m B).2.2.length ≤ m := by
  obtain ⟨b1, b2, b3⟩ := g
  have x3 : (zX3 m B).1 = 2 := by
    have := zfi_2 h
    rw [← this]; exact h
  have x2 : (zX2 m B).1 = 2 := (zGd.r b2).resolve_left (zprt_2 x3)
  have x1 : (zX1 m B).1 = 2 := (zGd.r b1).resolve_left (zprt_2 x2)
  obtain ⟨_, _, _, C1, D1, a1, a2, a3⟩ := b1.resolve_left (by omega)
  obtain ⟨_, _, _, C2, D2, a4, a5, a6⟩ := b2.resolve_left (by omega)
  obtain ⟨_, l1, l2, C3, D3, a7, a8, a9⟩ := b3.resolve_left (by omega)
  exact ⟨C1, C2, C3, D1, D2, D3, a1, by rw [a4, a1], by rw [a7, a4, a1], ⟨a2, a3⟩, ⟨a5, a6⟩, ⟨a8, a9⟩, by omega⟩
theorem zj_text_new {I : Nat → Nat → Int32} {m q : Nat} {B : Nat → Nat} {TT EE : Nat → Nat → Nat} (g : zGs m B) (hm : m ≤ 160) (h : (zX4 m B).1 = 2) (e1 : zEn I q m B) (e2 : zEm2 I q m B) : zj_text I q (zTT TT q m B q) (zEE EE q m B q) := by
  obtain ⟨C1, C2, C3, D1, D2, D3, a1, a2, a3, ⟨d1, d2⟩, ⟨d3, d4⟩, ⟨d5, d6⟩, hl⟩ := zGs_2 g h
  obtain ⟨t1, t2, t3, t4⟩ := e1
  obtain ⟨u1, u2, u3, u4, u5⟩ := e2
  have ez : zEE EE q m B q = (fun p => if p = 0 then (zX1 m B).2.2.length else if p = 1 then (zX2 m B).2.2.length else (zX3 m B).2.2.length) := if_pos rfl
  have et : zTT TT q m B q = (fun k => (zX3 m B).2.2.getD k 0) := if_pos rfl
  rw [ez, et]
  have l1 : (zX1 m B).2.2.length = C1.length := by rw [a1]; rfl
  have l2 : (zX2 m B).2.2.length = C1.length + C2.length := by rw [a2, List.length_append]; rfl
  have l3 : (zX3 m B).2.2.length = C1.length + C2.length + C3.length := by rw [a3, List.length_append, List.length_append]; rfl
  refine ⟨fun p hp => ?_, u2, ⟨?_, ?_, ?_⟩, fun k hk => ⟨t1 k hk, u1 k hk⟩, fun p hp => ?_⟩
  · rcases (show p = 0 ∨ p = 1 ∨ p = 2 by omega) with rfl | rfl | rfl
    · exact ⟨t2, u3⟩
    · exact ⟨t3, u4⟩
    · exact ⟨t4, u5⟩
  · show (zX1 m B).2.2.length ≤ (zX2 m B).2.2.length
    omega
  · show (zX2 m B).2.2.length ≤ (zX3 m B).2.2.length
    omega
  · show (zX3 m B).2.2.length ≤ 160
    omega
  · rcases (show p = 0 ∨ p = 1 ∨ p = 2 by omega) with rfl | rfl | rfl
    · have := zwf_of (O0 := []) (X := C2 ++ C3) d2 d1 (a := 0) (k := (zX1 m B).2.2.length - 0) rfl (by omega)
      rw [← List.append_assoc, ← a3] at this
      exact this
    · have := zwf_of (O0 := [] ++ C1) (X := C3) d4 d3 (a := (zX1 m B).2.2.length) (k := (zX2 m B).2.2.length - (zX1 m B).2.2.length) (by rw [l1]; rfl) (by omega)
      rw [← a3] at this
      exact this
    · have := zwf_of (O0 := ([] ++ C1) ++ C2) (X := []) d6 d5 (a := (zX2 m B).2.2.length) (k := (zX3 m B).2.2.length - (zX2 m B).2.2.length) (by rw [l2, List.length_append]; rfl) (by omega)
      rw [List.append_nil, ← a3] at this
      exact this
theorem zJ_text {I I1 I2 : Nat → Nat → Int32} {n t q m : Nat} {TT EE : Nat → Nat → Nat} {Z : Nat → Nat} {B : Nat → Nat} (hJ : zJ I n t q m TT EE Z) (hq : q < 6) (h1 : zMt I I1 m B q) (h2 : zNt I1 I2 m B q) : ∃ q' TT' EE', zJ I2 n t q' 0 TT' EE' Z := by
  obtain ⟨a, b, c, d, e, f, g⟩ := hJ
  obtain ⟨f1, f2, f3, f4, f5⟩ := h1
  obtain ⟨⟨n1, n2, n3, n4⟩, n5, n6⟩ := h2
  have hm := d.2.2.1
  have o : ∀ k, k ≠ 0 → k ≠ 11 → k ≠ 28 + 4 * q → k ≠ 29 + 4 * q → k ≠ 30 + 4 * q → k ≠ 60 → k ≠ 66 → k ≠ 67 → k ≠ 74 → I2 k = I k := fun k h1 h2 h3 h4 h5 h6 h7 h8 h9 => by rw [n1 k h6 h7 h8 h9, f1 k h1 h2 h3 h4 h5]
  have o0 : ∀ j, j ≠ 5 → I2 0 j = I 0 j := fun j hj => by rw [n1 0 (by decide) (by decide) (by decide) (by decide), f2 j hj]
  have o60 : ∀ j, (j < 19 ∧ j ≠ 6 ∧ j ≠ 9) ∨ (22 < j ∧ j < 25) ∨ 27 < j → I2 60 j = I 60 j := fun j hj => by rw [n2 j hj, f1 60 (by decide) (by decide) (by omega) (by omega) (by omega)]
  have o66 : ∀ j, j < 200 * q → I2 66 j = I 66 j := fun j hj => by rw [n3 j hj, f1 66 (by decide) (by decide) (by omega) (by omega) (by omega)]
  have o67 : ∀ j, j < 4 * q → I2 67 j = I 67 j := fun j hj => by rw [n4 j hj, f1 67 (by decide) (by decide) (by omega) (by omega) (by omega)]
  have tA : zj_tab I2 n := a.cg (by rw [o 1 (by decide) (by decide) (by omega) (by omega) (by omega) (by decide) (by decide) (by decide) (by decide)]) (o60 0 (by decide)) (fun k hk => o k (by omega) (by omega) (by omega) (by omega) (by omega) (by omega) (by omega) (by omega) (by omega))
  have tT : zj_tape I2 0 := ⟨by rw [n1 11 (by decide) (by decide) (by decide) (by decide), f3]; rfl, by rw [n5]; rfl, Nat.zero_le _, fun j hj => absurd hj (by omega)⟩
  have tS : zj_sh I2 Z := e.cg (fun k hk => o k (by omega) (by omega) (by omega) (by omega) (by omega) (by omega) (by omega) (by omega) (by omega))
  have tC : zj_con I2 := g.cg (o 73 (by decide) (by decide) (by omega) (by omega) (by omega) (by decide) (by decide) (by decide) (by decide))
  have tI : ∀ q', q ≤ q' → zj_img I2 q' := by
    intro q' hq'
    have : zj_img I q' := ⟨f.1, fun w => by
      obtain ⟨k, t', x1, x2, x3⟩ := f.2 w
      exact ⟨k, t', x1, by omega, x3⟩⟩
    exact this.cg (o0 2 (by decide)) (o60 11 (by decide)) (o60 12 (by decide)) (o60 13 (by decide)) (fun k hk => o k (by omega) (by omega) (by omega) (by omega) (by omega) (by omega) (by omega) (by omega) (by omega))
  have tL : ∀ q', q ≤ q' → zj_law I2 t q' := by
    intro q' hq'
    have : zj_law I t q' := ⟨b.1, b.2.1, by have := b.2.2; omega⟩
    exact this.cg (by rw [o 1 (by decide) (by decide) (by omega) (by omega) (by omega) (by decide) (by decide) (by decide) (by decide)]) (o60 10 (by decide))
  have told : ∀ t', t' < q → zj_text I2 t' (TT t') (EE t') := by
    intro t' ht'
    obtain ⟨x1, x2, x3, x4, x5⟩ := c.2.2.2 t' ht'
    refine ⟨fun p hp => ?_, ?_, x3, fun k hk => ?_, x5⟩
    · rw [o (30 + 4 * t') (by omega) (by omega) (by omega) (by omega) (by omega) (by omega) (by omega) (by omega) (by omega), o67 _ (by omega)]
      exact x1 p hp
    · rw [o67 _ (by omega)]; exact x2
    · have := x3.2.2
      rw [o (29 + 4 * t') (by omega) (by omega) (by omega) (by omega) (by omega) (by omega) (by omega) (by omega) (by omega), o66 _ (by omega)]
      exact x4 k hk
  have e05 : I2 0 5 = I1 0 5 := by rw [n1 0 (by decide) (by decide) (by decide) (by decide)]
  rcases f5 with ⟨r, r1⟩ | ⟨r, r1, r2⟩
  · have n6' : I2 60 9 = nI q := by
      rcases n6 with n6 | n6
      · exact n6.2
      · omega
    exact ⟨q, TT, EE, tA, tL q (Nat.le_refl _), ⟨by rw [e05]; exact r1, n6', c.2.2.1, told⟩, tT, tS, tI q (Nat.le_refl _), tC⟩
  · obtain ⟨n6', n7⟩ : I2 60 9 = nI (q + 1) ∧ zEm2 I2 q m B := by
      rcases n6 with n6 | n6
      · omega
      · exact n6.2
    have r2' : zEn I2 q m B := by
      unfold zEn at *
      rw [n1 (29 + 4 * q) (by omega) (by omega) (by omega) (by omega), n1 (30 + 4 * q) (by omega) (by omega) (by omega) (by omega)]
      exact r2
    refine ⟨q + 1, zTT TT q m B, zEE EE q m B, tA, tL (q + 1) (by omega), ⟨by rw [e05]; exact r1, n6', by omega, fun t' ht' => ?_⟩, tT, tS, tI (q + 1) (by omega), tC⟩
    by_cases et : t' = q
    · subst et
      exact zj_text_new f4 hm r r2' n7
    · have e1 : zTT TT q m B t' = TT t' := if_neg et
      have e2 : zEE EE q m B t' = EE t' := if_neg et
      rw [e1, e2]
      exact told t' (by omega)
