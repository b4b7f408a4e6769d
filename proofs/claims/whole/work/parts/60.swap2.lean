/-! swap by both -/
def zcan (I : Nat → Nat → Int32) (c d : Nat) : Bool := decide (I 5 c = 1) && (decide (I 5 d = 2) && (decide (¬ zw_sides (I 2 c) (I 4 c) &&& 2 = 0) && decide (¬ zw_sides (I 2 d) (I 4 d) &&& 1 = 0)))
def zswv (g : Nat → Int32) (now : Int32) (c d : Nat) : Int32 := zw_far (now - g c + g d)
def zswi (I : Nat → Nat → Int32) (g : Nat → Int32) (now : Int32) (c d : Nat) (s : Int32 × Int32) : Int32 × Int32 := if zcan I c d = true ∧ zswv g now c d < s.2 then (nI (10 * c + d), zswv g now c d) else s
def zswo (I : Nat → Nat → Int32) (g : Nat → Int32) (now : Int32) (n c : Nat) (s : Int32 × Int32) : Int32 × Int32 := zfor (zswi I g now c) s n
def zsw (I : Nat → Nat → Int32) (g : Nat → Int32) (now : Int32) (n m : Nat) : Int32 × Int32 := zfor (zswo I g now n) (-1, zw_far now) m
def zv_both (I : Nat → Nat → Int32) (n : Nat) (T e : Nat → Nat) (c : Nat) : Int32 := zv_cnt I n T e c 1 + zv_cnt I n T e c 0
def zA_swap (I : Nat → Nat → Int32) (n : Nat) (T e : Nat → Nat) (what : Int32) : Int32 := if 0 ≤ what ∧ what ≤ 1 then (if what = 0 then (zsw I (zv_both I n T e) (zA_apart I n T e) n n).1 else (zsw I (zv_both I n T e) (zA_apart I n T e) n n).2) else -2
theorem zswi_y {I : Nat → Nat → Int32} {g : Nat → Int32} {now : Int32} {c d : Nat} {s : Int32 × Int32} (h : zcan I c d = true ∧ zswv g now c d < s.2) : zswi I g now c d s = (nI (10 * c + d), zswv g now c d) := if_pos h
theorem zswi_n {I : Nat → Nat → Int32} {g : Nat → Int32} {now : Int32} {c d : Nat} {s : Int32 × Int32} (h : ¬ (zcan I c d = true ∧ zswv g now c d < s.2)) : zswi I g now c d s = s := if_neg h
theorem s27 {sc : zk_X} {d : Nat} {I : Nat → Nat → Int32} {tg : Option Nat} {P : Option Value → zk_M → Prop} {n t c : Nat} {T e : Nat → Nat} (hq : zj_q I n t T e) (hc : c < n)
    (K : ∀ I' : Nat → Nat → Int32, zf1 I I' → P (some (.int (zv_both I n T e c))) (zk_mk I' tg)) : zk_R sc (d + 4) 27 0 [some (.ref (0 : Nat)), some (.int (nI c))] [] (zk_mk I tg) P := by
  obtain ⟨hj, hl, hr, ht, hx⟩ := hq
  obtain ⟨w1, w2, w3, w4⟩ := zx_83 ht
  simp only [u27_0, u27_1, u27_2, u27_5, u27_6, u27_7, u27_10, u27_11, u27_12, u27_15, u27_16, u27_17, u27_20, u27_21, zk_mk_1, zk_mk_I, zk_mk_R, zk_mk_set, zk_mk_setR, zk_mk_cpy, zk_rv_some, zk_rv_none, Option.toList_some, Option.toList_none, List.cons_append, List.nil_append, reduceIte, eq_self, Nat.reduceLT, Nat.reduceEqDiff, and_true, true_and, reduceCtorEq, zsh_0, s7 ht hl, zx_28 ht, w1]
  refine s14 hj ht hc hx (fun I' h1 => ?_)
  have hl' : I' 1 5 = nI t := by rw [h1.F 1 rfl]; exact hl
  simp only [u27_0, u27_1, u27_2, u27_5, u27_6, u27_7, u27_10, u27_11, u27_12, u27_15, u27_16, u27_17, u27_20, u27_21, zk_mk_1, zk_mk_I, zk_mk_R, zk_mk_set, zk_mk_setR, zk_mk_cpy, zk_rv_some, zk_rv_none, Option.toList_some, Option.toList_none, List.cons_append, List.nil_append, reduceIte, eq_self, Nat.reduceLT, Nat.reduceEqDiff, and_true, true_and, reduceCtorEq, zsh_0, s7 ht hl', zx_28 ht, w1]
  refine s14 (h1.F.tab hj) ht hc (h1.F.text ht hx) (fun I2 h2 => ?_)
  rw [h1.F.cnt]
  simp only [u27_0, u27_1, u27_2, u27_5, u27_6, u27_7, u27_10, u27_11, u27_12, u27_15, u27_16, u27_17, u27_20, u27_21, zk_mk_1, zk_mk_I, zk_mk_R, zk_mk_set, zk_mk_setR, zk_mk_cpy, zk_rv_some, zk_rv_none, Option.toList_some, Option.toList_none, List.cons_append, List.nil_append, reduceIte, eq_self, Nat.reduceLT, Nat.reduceEqDiff, and_true, true_and, reduceCtorEq]
  exact K I2 (fun j j1 j2 => by rw [h2 j j1 j2, h1 j j1 j2])
theorem zbit_and {p q : Nat → Bool} {n c : Nat} (hc : c < n) : ((zset p n &&& zset q n) / 2 ^ c % 2 = 1) = (p c = true ∧ q c = true) := by
  have h := Nat.testBit_and (zset p n) (zset q n) c
  rw [zset_bit, zset_bit, decide_eq_true hc, Bool.true_and, Bool.true_and, Nat.testBit_eq_decide_div_mod_eq] at h
  apply propext
  constructor
  · intro k
    rw [decide_eq_true k] at h
    have := h.symm
    rwa [Bool.and_eq_true] at this
  · rintro ⟨k1, k2⟩
    rw [k1, k2] at h
    exact of_decide_eq_true h
theorem s26 {sc : zk_X} {d : Nat} {I : Nat → Nat → Int32} {tg : Option Nat} {P : Option Value → zk_M → Prop} {n t : Nat} {T e : Nat → Nat} (hq : zj_q I n t T e)
    (K : ∀ I' : Nat → Nat → Int32, zF I I' → I' 27 0 = (zsw I (zv_both I n T e) (zA_apart I n T e) n n).1 → I' 27 1 = (zsw I (zv_both I n T e) (zA_apart I n T e) n n).2 → P none (zk_mk I' tg)) : zk_R sc (d + 5) 26 0 [some (.ref (0 : Nat)), none, none, none, none, none, none] [] (zk_mk I tg) P := by
  have hq0 := hq
  obtain ⟨hj, hl, hr, ht, hx⟩ := hq
  obtain ⟨w1, w2, w3, w4⟩ := zx_83 ht
  obtain ⟨b0, b1, b2, b3⟩ := zi_lit4
  obtain ⟨c0, c1, c2, c3⟩ := zi_cl4
  have h10 := hj.2.2.1
  have p10 := zp_10 h10
  simp only [u26_0, u26_1, u26_2, u26_5, u26_8, u26_9, u26_12, u26_13, u26_16, u26_17, u26_20, u26_23, u26_24, u26_27, u26_28, u26_31, u26_32, u26_35, u26_38, u26_39, u26_40, u26_41, u26_44, u26_45, u26_48, u26_49, u26_52, u26_53, u26_56, u26_57, u26_58, u26_59, u26_62, u26_63, u26_66, u26_67, u26_70, u26_71, u26_74, u26_75, u26_76, u26_77, u26_80, u26_81, u26_82, u26_83, u26_84, u26_87, u26_88, u26_89, u26_92, u26_93, u26_94, u26_98, u26_99, u26_102, u26_105, u26_108, u26_109, u26_113, u26_114, u26_117, u26_120, u26_123, u26_124, u26_126, u26_127, u26_128, u26_129, u26_132, u26_133, u26_135, u26_136, u26_137, u26_138, u26_141, u26_144, u26_145, u26_146, u26_148, u26_151, u26_152, u26_153, u26_155, u26_158, u26_159, u26_162, u26_164, u26_166, u26_167, u26_170, u26_171, u26_172, u26_175, u26_176, u26_179, u26_180, u26_182, u26_184, u26_185, u26_187, u26_188, u26_189, u26_190, u26_193, u26_194, u26_196, u26_197, u26_200, u26_203, u26_206, u26_209, zk_mk_1, zk_mk_I, zk_mk_R, zk_mk_set, zk_mk_setR, zk_mk_cpy, zk_rv_some, zk_rv_none, Option.toList_some, Option.toList_none, List.cons_append, List.nil_append, reduceIte, eq_self, Nat.reduceLT, Nat.reduceEqDiff, and_true, true_and, reduceCtorEq, zsh_0, s7 ht hl, zx_28 ht, w1]
  refine s17 hj ht hx (fun I' h1 h2 h3 => ?_)
  have hj' := h1.tab hj
  have hq' := h1.q hq0
  have hz1 : zset (fun c => decide (I' 5 c = 1)) n < 2 ^ n := zset_lt _ n
  have hz2 : zset (fun c => decide (I' 5 c = 2)) n < 2 ^ n := zset_lt _ n
  have el : ∀ q, zset (fun c => decide (I' 5 c = q)) n = zv_lie I n q := fun q => by rw [h1 5 rfl]; rfl
  have em : ∀ q, zset (fun c => decide (¬ zw_sides (I' 2 c) (I' 4 c) &&& q = 0)) n = zv_may I n q := fun q => by rw [h1 2 rfl, h1 4 rfl]; rfl
  simp only [u26_0, u26_1, u26_2, u26_5, u26_8, u26_9, u26_12, u26_13, u26_16, u26_17, u26_20, u26_23, u26_24, u26_27, u26_28, u26_31, u26_32, u26_35, u26_38, u26_39, u26_40, u26_41, u26_44, u26_45, u26_48, u26_49, u26_52, u26_53, u26_56, u26_57, u26_58, u26_59, u26_62, u26_63, u26_66, u26_67, u26_70, u26_71, u26_74, u26_75, u26_76, u26_77, u26_80, u26_81, u26_82, u26_83, u26_84, u26_87, u26_88, u26_89, u26_92, u26_93, u26_94, u26_98, u26_99, u26_102, u26_105, u26_108, u26_109, u26_113, u26_114, u26_117, u26_120, u26_123, u26_124, u26_126, u26_127, u26_128, u26_129, u26_132, u26_133, u26_135, u26_136, u26_137, u26_138, u26_141, u26_144, u26_145, u26_146, u26_148, u26_151, u26_152, u26_153, u26_155, u26_158, u26_159, u26_162, u26_164, u26_166, u26_167, u26_170, u26_171, u26_172, u26_175, u26_176, u26_179, u26_180, u26_182, u26_184, u26_185, u26_187, u26_188, u26_189, u26_190, u26_193, u26_194, u26_196, u26_197, u26_200, u26_203, u26_206, u26_209, zk_mk_1, zk_mk_I, zk_mk_R, zk_mk_set, zk_mk_setR, zk_mk_cpy, zk_rv_some, zk_rv_none, Option.toList_some, Option.toList_none, List.cons_append, List.nil_append, reduceIte, eq_self, Nat.reduceLT, Nat.reduceEqDiff, and_true, true_and, reduceCtorEq, zsh_0, zsh_1, zsh_15, zrf_0_0, zrf_0_7, s92 hj'.1 h10]
  rw [s62 (by omega)]
  simp only [u26_0, u26_1, u26_2, u26_5, u26_8, u26_9, u26_12, u26_13, u26_16, u26_17, u26_20, u26_23, u26_24, u26_27, u26_28, u26_31, u26_32, u26_35, u26_38, u26_39, u26_40, u26_41, u26_44, u26_45, u26_48, u26_49, u26_52, u26_53, u26_56, u26_57, u26_58, u26_59, u26_62, u26_63, u26_66, u26_67, u26_70, u26_71, u26_74, u26_75, u26_76, u26_77, u26_80, u26_81, u26_82, u26_83, u26_84, u26_87, u26_88, u26_89, u26_92, u26_93, u26_94, u26_98, u26_99, u26_102, u26_105, u26_108, u26_109, u26_113, u26_114, u26_117, u26_120, u26_123, u26_124, u26_126, u26_127, u26_128, u26_129, u26_132, u26_133, u26_135, u26_136, u26_137, u26_138, u26_141, u26_144, u26_145, u26_146, u26_148, u26_151, u26_152, u26_153, u26_155, u26_158, u26_159, u26_162, u26_164, u26_166, u26_167, u26_170, u26_171, u26_172, u26_175, u26_176, u26_179, u26_180, u26_182, u26_184, u26_185, u26_187, u26_188, u26_189, u26_190, u26_193, u26_194, u26_196, u26_197, u26_200, u26_203, u26_206, u26_209, zk_mk_1, zk_mk_I, zk_mk_R, zk_mk_set, zk_mk_setR, zk_mk_cpy, zk_rv_some, zk_rv_none, Option.toList_some, Option.toList_none, List.cons_append, List.nil_append, reduceIte, eq_self, Nat.reduceLT, Nat.reduceEqDiff, and_true, true_and, reduceCtorEq, zsh_0, zsh_1, zsh_15, zrf_0_0, zrf_0_7, s92 hj'.1 h10]
  rw [s62 (by omega)]
  simp only [u26_0, u26_1, u26_2, u26_5, u26_8, u26_9, u26_12, u26_13, u26_16, u26_17, u26_20, u26_23, u26_24, u26_27, u26_28, u26_31, u26_32, u26_35, u26_38, u26_39, u26_40, u26_41, u26_44, u26_45, u26_48, u26_49, u26_52, u26_53, u26_56, u26_57, u26_58, u26_59, u26_62, u26_63, u26_66, u26_67, u26_70, u26_71, u26_74, u26_75, u26_76, u26_77, u26_80, u26_81, u26_82, u26_83, u26_84, u26_87, u26_88, u26_89, u26_92, u26_93, u26_94, u26_98, u26_99, u26_102, u26_105, u26_108, u26_109, u26_113, u26_114, u26_117, u26_120, u26_123, u26_124, u26_126, u26_127, u26_128, u26_129, u26_132, u26_133, u26_135, u26_136, u26_137, u26_138, u26_141, u26_144, u26_145, u26_146, u26_148, u26_151, u26_152, u26_153, u26_155, u26_158, u26_159, u26_162, u26_164, u26_166, u26_167, u26_170, u26_171, u26_172, u26_175, u26_176, u26_179, u26_180, u26_182, u26_184, u26_185, u26_187, u26_188, u26_189, u26_190, u26_193, u26_194, u26_196, u26_197, u26_200, u26_203, u26_206, u26_209, zk_mk_1, zk_mk_I, zk_mk_R, zk_mk_set, zk_mk_setR, zk_mk_cpy, zk_rv_some, zk_rv_none, Option.toList_some, Option.toList_none, List.cons_append, List.nil_append, reduceIte, eq_self, Nat.reduceLT, Nat.reduceEqDiff, and_true, true_and, reduceCtorEq, zsh_0, zsh_1, zsh_15, zsh_27, zrf_0_0, zrf_0_7, zrf_0_9, s92 hj'.1 h10, s98 hj'.1 h10, b0, b1, c0, c1]
  rw [zv_sum h10 hz1 h2, zv_sum h10 hz2 h2]
  simp only [el, em, zq_and, zw_abs]
  rw [show zsum (zv_now I n T e) (zv_lie I n 1) n - zsum (zv_now I n T e) (zv_lie I n 2) n = zA_apart I n T e from rfl]
  have eg : ∀ I2 : Nat → Nat → Int32, zF I I2 → ∀ c, zv_both I2 n T e c = zv_both I n T e c := fun I2 h c => by unfold zv_both; rw [h.cnt, h.cnt]
  generalize zA_apart I n T e = now at *
  have hml : zv_lie I n 1 &&& zv_may I n 2 < 2147483648 := by
    have := Nat.and_le_left (n := zv_lie I n 1) (m := zv_may I n 2)
    have h5 : zv_lie I n 1 < 2 ^ n := zset_lt _ n
    omega
  have hmr : zv_lie I n 2 &&& zv_may I n 1 < 2147483648 := by
    have := Nat.and_le_left (n := zv_lie I n 2) (m := zv_may I n 1)
    have h5 : zv_lie I n 2 < 2 ^ n := zset_lt _ n
    omega
  have cl : ∀ c, c < n → ((zv_lie I n 1 &&& zv_may I n 2) / 2 ^ c % 2 = 1) = (decide (I 5 c = 1) = true ∧ decide (¬ zw_sides (I 2 c) (I 4 c) &&& 2 = 0) = true) := fun c hc => zbit_and hc
  have cr : ∀ c, c < n → ((zv_lie I n 2 &&& zv_may I n 1) / 2 ^ c % 2 = 1) = (decide (I 5 c = 2) = true ∧ decide (¬ zw_sides (I 2 c) (I 4 c) &&& 1 = 0) = true) := fun c hc => zbit_and hc
  have loop := zl_up (τ := (Nat → Nat → Int32) × Option Value × Option Value) (fun c q => zk_R sc (d + 5) 26 96 [some (.ref (0 : Nat)), some (.int now), some (.int (nI (zv_lie I n 1 &&& zv_may I n 2))), some (.int (nI (zv_lie I n 2 &&& zv_may I n 1))), some (.int (nI c)), q.2.1, q.2.2] [] (zk_mk q.1 tg) P)
    (fun c q => zF I q.1 ∧ q.1 27 0 = (zsw I (zv_both I n T e) now n c).1 ∧ q.1 27 1 = (zsw I (zv_both I n T e) now n c).2) n (by
      rintro ⟨I2, x, y⟩ ⟨g1, g2, g3⟩
      have hn2 : I2 1 4 = nI n := (g1.tab hj).1
      show zk_R sc (d + 5) 26 96 [some (.ref (0 : Nat)), some (.int now), some (.int (nI (zv_lie I n 1 &&& zv_may I n 2))), some (.int (nI (zv_lie I n 2 &&& zv_may I n 1))), some (.int (nI n)), x, y] [] (zk_mk I2 tg) P
      rw [u26_96]
      simp only [u26_0, u26_1, u26_2, u26_5, u26_8, u26_9, u26_12, u26_13, u26_16, u26_17, u26_20, u26_23, u26_24, u26_27, u26_28, u26_31, u26_32, u26_35, u26_38, u26_39, u26_40, u26_41, u26_44, u26_45, u26_48, u26_49, u26_52, u26_53, u26_56, u26_57, u26_58, u26_59, u26_62, u26_63, u26_66, u26_67, u26_70, u26_71, u26_74, u26_75, u26_76, u26_77, u26_80, u26_81, u26_82, u26_83, u26_84, u26_87, u26_88, u26_89, u26_92, u26_93, u26_94, u26_98, u26_99, u26_102, u26_105, u26_108, u26_109, u26_113, u26_114, u26_117, u26_120, u26_123, u26_124, u26_126, u26_127, u26_128, u26_129, u26_132, u26_133, u26_135, u26_136, u26_137, u26_138, u26_141, u26_144, u26_145, u26_146, u26_148, u26_151, u26_152, u26_153, u26_155, u26_158, u26_159, u26_162, u26_164, u26_166, u26_167, u26_170, u26_171, u26_172, u26_175, u26_176, u26_179, u26_180, u26_182, u26_184, u26_185, u26_187, u26_188, u26_189, u26_190, u26_193, u26_194, u26_196, u26_197, u26_200, u26_203, u26_206, u26_209, zk_mk_1, zk_mk_I, zk_mk_R, zk_mk_set, zk_mk_setR, zk_mk_cpy, zk_rv_some, zk_rv_none, Option.toList_some, Option.toList_none, List.cons_append, List.nil_append, reduceIte, eq_self, Nat.reduceLT, Nat.reduceEqDiff, and_true, true_and, reduceCtorEq, zsh_0, zsh_1, zrf_0_0, hn2]
      rw [if_pos (nI_le (Nat.le_refl _) (by omega))]
      exact K I2 g1 g2 g3) (by
      rintro c ⟨I2, x, y⟩ hc ⟨g1, g2, g3⟩ ih
      have hn2 : I2 1 4 = nI n := (g1.tab hj).1
      have inner := zl_up (τ := (Nat → Nat → Int32) × Option Value) (fun k q => zk_R sc (d + 5) 26 111 [some (.ref (0 : Nat)), some (.int now), some (.int (nI (zv_lie I n 1 &&& zv_may I n 2))), some (.int (nI (zv_lie I n 2 &&& zv_may I n 1))), some (.int (nI c)), some (.int (nI k)), q.2] [] (zk_mk q.1 tg) P)
        (fun k q => zF I q.1 ∧ q.1 27 0 = (zfor (zswi I (zv_both I n T e) now c) (zsw I (zv_both I n T e) now n c) k).1 ∧ q.1 27 1 = (zfor (zswi I (zv_both I n T e) now c) (zsw I (zv_both I n T e) now n c) k).2) n (by
          rintro ⟨I3, x⟩ ⟨k1, k2, k3⟩
          have hn3 : I3 1 4 = nI n := (k1.tab hj).1
          show zk_R sc (d + 5) 26 111 [some (.ref (0 : Nat)), some (.int now), some (.int (nI (zv_lie I n 1 &&& zv_may I n 2))), some (.int (nI (zv_lie I n 2 &&& zv_may I n 1))), some (.int (nI c)), some (.int (nI n)), x] [] (zk_mk I3 tg) P
          rw [u26_111]
          simp only [u26_0, u26_1, u26_2, u26_5, u26_8, u26_9, u26_12, u26_13, u26_16, u26_17, u26_20, u26_23, u26_24, u26_27, u26_28, u26_31, u26_32, u26_35, u26_38, u26_39, u26_40, u26_41, u26_44, u26_45, u26_48, u26_49, u26_52, u26_53, u26_56, u26_57, u26_58, u26_59, u26_62, u26_63, u26_66, u26_67, u26_70, u26_71, u26_74, u26_75, u26_76, u26_77, u26_80, u26_81, u26_82, u26_83, u26_84, u26_87, u26_88, u26_89, u26_92, u26_93, u26_94, u26_98, u26_99, u26_102, u26_105, u26_108, u26_109, u26_113, u26_114, u26_117, u26_120, u26_123, u26_124, u26_126, u26_127, u26_128, u26_129, u26_132, u26_133, u26_135, u26_136, u26_137, u26_138, u26_141, u26_144, u26_145, u26_146, u26_148, u26_151, u26_152, u26_153, u26_155, u26_158, u26_159, u26_162, u26_164, u26_166, u26_167, u26_170, u26_171, u26_172, u26_175, u26_176, u26_179, u26_180, u26_182, u26_184, u26_185, u26_187, u26_188, u26_189, u26_190, u26_193, u26_194, u26_196, u26_197, u26_200, u26_203, u26_206, u26_209, zk_mk_1, zk_mk_I, zk_mk_R, zk_mk_set, zk_mk_setR, zk_mk_cpy, zk_rv_some, zk_rv_none, Option.toList_some, Option.toList_none, List.cons_append, List.nil_append, reduceIte, eq_self, Nat.reduceLT, Nat.reduceEqDiff, and_true, true_and, reduceCtorEq, zsh_0, zsh_1, zrf_0_0, hn3, nI_1]
          rw [if_pos (nI_le (Nat.le_refl _) (by omega))]
          exact ih (I3, _, _) ⟨k1, k2, k3⟩) (by
          rintro k ⟨I3, x⟩ hk ⟨k1, k2, k3⟩ ih2
          have hn3 : I3 1 4 = nI n := (k1.tab hj).1
          have hq3 := k1.q hq0
          have k2' : I3 27 0 = (zfor (zswi I (zv_both I n T e) now c) (zsw I (zv_both I n T e) now n c) k).1 := k2
          have k3' : I3 27 1 = (zfor (zswi I (zv_both I n T e) now c) (zsw I (zv_both I n T e) now n c) k).2 := k3
          have hs1 : ∀ s, zfor (zswi I (zv_both I n T e) now c) (zsw I (zv_both I n T e) now n c) k = s → zfor (zswi I (zv_both I n T e) now c) (zsw I (zv_both I n T e) now n c) (k + 1) = zswi I (zv_both I n T e) now c k s := fun s h => by rw [← h]; rfl
          generalize hs0 : zfor (zswi I (zv_both I n T e) now c) (zsw I (zv_both I n T e) now n c) k = s at *
          have hs1 := hs1 s rfl
          show zk_R sc (d + 5) 26 111 [some (.ref (0 : Nat)), some (.int now), some (.int (nI (zv_lie I n 1 &&& zv_may I n 2))), some (.int (nI (zv_lie I n 2 &&& zv_may I n 1))), some (.int (nI c)), some (.int (nI k)), x] [] (zk_mk I3 tg) P
          have no : (¬ (zcan I c k = true ∧ zswv (zv_both I n T e) now c k < s.2)) → ∀ I4 x, zF I I4 → I4 27 0 = s.1 → I4 27 1 = s.2 → zk_R sc (d + 5) 26 111 [some (.ref (0 : Nat)), some (.int now), some (.int (nI (zv_lie I n 1 &&& zv_may I n 2))), some (.int (nI (zv_lie I n 2 &&& zv_may I n 1))), some (.int (nI c)), some (.int (nI (k + 1))), x] [] (zk_mk I4 tg) P := by
            intro hq I4 x m1 m2 m3
            rw [zswi_n hq] at hs1
            exact ih2 (I4, x) ⟨m1, by rw [hs1]; exact m2, by rw [hs1]; exact m3⟩
          have yl : (nI ((zv_lie I n 1 &&& zv_may I n 2) / 2 ^ c % 2) = 0) = ¬ ((zv_lie I n 1 &&& zv_may I n 2) / 2 ^ c % 2 = 1) := by
            rw [show (0 : Int32) = nI 0 from rfl, zn_eq (by omega) (by decide)]
            apply propext; omega
          have yr : (nI ((zv_lie I n 2 &&& zv_may I n 1) / 2 ^ k % 2) = 0) = ¬ ((zv_lie I n 2 &&& zv_may I n 1) / 2 ^ k % 2 = 1) := by
            rw [show (0 : Int32) = nI 0 from rfl, zn_eq (by omega) (by decide)]
            apply propext; omega
          rw [u26_111]
          simp only [u26_0, u26_1, u26_2, u26_5, u26_8, u26_9, u26_12, u26_13, u26_16, u26_17, u26_20, u26_23, u26_24, u26_27, u26_28, u26_31, u26_32, u26_35, u26_38, u26_39, u26_40, u26_41, u26_44, u26_45, u26_48, u26_49, u26_52, u26_53, u26_56, u26_57, u26_58, u26_59, u26_62, u26_63, u26_66, u26_67, u26_70, u26_71, u26_74, u26_75, u26_76, u26_77, u26_80, u26_81, u26_82, u26_83, u26_84, u26_87, u26_88, u26_89, u26_92, u26_93, u26_94, u26_98, u26_99, u26_102, u26_105, u26_108, u26_109, u26_113, u26_114, u26_117, u26_120, u26_123, u26_124, u26_126, u26_127, u26_128, u26_129, u26_132, u26_133, u26_135, u26_136, u26_137, u26_138, u26_141, u26_144, u26_145, u26_146, u26_148, u26_151, u26_152, u26_153, u26_155, u26_158, u26_159, u26_162, u26_164, u26_166, u26_167, u26_170, u26_171, u26_172, u26_175, u26_176, u26_179, u26_180, u26_182, u26_184, u26_185, u26_187, u26_188, u26_189, u26_190, u26_193, u26_194, u26_196, u26_197, u26_200, u26_203, u26_206, u26_209, zk_mk_1, zk_mk_I, zk_mk_R, zk_mk_set, zk_mk_setR, zk_mk_cpy, zk_rv_some, zk_rv_none, Option.toList_some, Option.toList_none, List.cons_append, List.nil_append, reduceIte, eq_self, Nat.reduceLT, Nat.reduceEqDiff, and_true, true_and, reduceCtorEq, zsh_0, zsh_1, zrf_0_0, hn3, zq_bit hml (show c < 32 by omega), zq_bit hmr (show k < 32 by omega), yl, yr, cl c hc, cr k hk, nI_1]
          rw [if_neg (nI_ge hk (by omega))]
          by_cases m1 : decide (I 5 c = 1) = true ∧ decide (¬ zw_sides (I 2 c) (I 4 c) &&& 2 = 0) = true
          · rw [if_neg (fun q => q m1)]
            by_cases m2 : decide (I 5 k = 2) = true ∧ decide (¬ zw_sides (I 2 k) (I 4 k) &&& 1 = 0) = true
            · have hcan : zcan I c k = true := by unfold zcan; rw [m1.1, m2.1, m1.2, m2.2]; rfl
              rw [if_neg (fun q => q m2)]
              refine s27 hq3 hc (fun I4 g4 => ?_)
              simp only [u26_0, u26_1, u26_2, u26_5, u26_8, u26_9, u26_12, u26_13, u26_16, u26_17, u26_20, u26_23, u26_24, u26_27, u26_28, u26_31, u26_32, u26_35, u26_38, u26_39, u26_40, u26_41, u26_44, u26_45, u26_48, u26_49, u26_52, u26_53, u26_56, u26_57, u26_58, u26_59, u26_62, u26_63, u26_66, u26_67, u26_70, u26_71, u26_74, u26_75, u26_76, u26_77, u26_80, u26_81, u26_82, u26_83, u26_84, u26_87, u26_88, u26_89, u26_92, u26_93, u26_94, u26_98, u26_99, u26_102, u26_105, u26_108, u26_109, u26_113, u26_114, u26_117, u26_120, u26_123, u26_124, u26_126, u26_127, u26_128, u26_129, u26_132, u26_133, u26_135, u26_136, u26_137, u26_138, u26_141, u26_144, u26_145, u26_146, u26_148, u26_151, u26_152, u26_153, u26_155, u26_158, u26_159, u26_162, u26_164, u26_166, u26_167, u26_170, u26_171, u26_172, u26_175, u26_176, u26_179, u26_180, u26_182, u26_184, u26_185, u26_187, u26_188, u26_189, u26_190, u26_193, u26_194, u26_196, u26_197, u26_200, u26_203, u26_206, u26_209, zk_mk_1, zk_mk_I, zk_mk_R, zk_mk_set, zk_mk_setR, zk_mk_cpy, zk_rv_some, zk_rv_none, Option.toList_some, Option.toList_none, List.cons_append, List.nil_append, reduceIte, eq_self, Nat.reduceLT, Nat.reduceEqDiff, and_true, true_and, reduceCtorEq, zsh_0]
              refine s27 (g4.F.q hq3) hk (fun I5 g5 => ?_)
              have g6 := (k1.trans g4.F).trans g5.F
              have e27 : I5 27 = I3 27 := by rw [g5 27 (by decide) (by omega), g4 27 (by decide) (by omega)]
              have e0 : I5 27 0 = s.1 := by rw [e27]; exact k2'
              have e1 : I5 27 1 = s.2 := by rw [e27]; exact k3'
              rw [eg I4 (k1.trans g4.F), eg I3 k1]
              simp only [u26_0, u26_1, u26_2, u26_5, u26_8, u26_9, u26_12, u26_13, u26_16, u26_17, u26_20, u26_23, u26_24, u26_27, u26_28, u26_31, u26_32, u26_35, u26_38, u26_39, u26_40, u26_41, u26_44, u26_45, u26_48, u26_49, u26_52, u26_53, u26_56, u26_57, u26_58, u26_59, u26_62, u26_63, u26_66, u26_67, u26_70, u26_71, u26_74, u26_75, u26_76, u26_77, u26_80, u26_81, u26_82, u26_83, u26_84, u26_87, u26_88, u26_89, u26_92, u26_93, u26_94, u26_98, u26_99, u26_102, u26_105, u26_108, u26_109, u26_113, u26_114, u26_117, u26_120, u26_123, u26_124, u26_126, u26_127, u26_128, u26_129, u26_132, u26_133, u26_135, u26_136, u26_137, u26_138, u26_141, u26_144, u26_145, u26_146, u26_148, u26_151, u26_152, u26_153, u26_155, u26_158, u26_159, u26_162, u26_164, u26_166, u26_167, u26_170, u26_171, u26_172, u26_175, u26_176, u26_179, u26_180, u26_182, u26_184, u26_185, u26_187, u26_188, u26_189, u26_190, u26_193, u26_194, u26_196, u26_197, u26_200, u26_203, u26_206, u26_209, zk_mk_1, zk_mk_I, zk_mk_R, zk_mk_set, zk_mk_setR, zk_mk_cpy, zk_rv_some, zk_rv_none, Option.toList_some, Option.toList_none, List.cons_append, List.nil_append, reduceIte, eq_self, Nat.reduceLT, Nat.reduceEqDiff, and_true, true_and, reduceCtorEq, zsh_0, zsh_27, zrf_0_9, b0, b1, c0, c1, e1, zw_abs, nI_1]
              rw [show zw_far (now - zv_both I n T e c + zv_both I n T e k) = zswv (zv_both I n T e) now c k from rfl]
              by_cases m3 : zswv (zv_both I n T e) now c k < s.2
              · first | rw [if_pos m3] | rw [if_neg (Int32.not_le.mpr m3)]
                rw [zswi_y ⟨hcan, m3⟩] at hs1
                have ei : (10 : Int32) * nI c + nI k = nI (10 * c + k) := by rw [show (10 : Int32) = nI 10 from rfl, zn_mul, zn_add]
                rw [ei]
                refine ih2 (zk_up2 (zk_up2 I5 27 0 (nI (10 * c + k))) 27 1 (zswv (zv_both I n T e) now c k), _) ⟨(g6.up rfl).up rfl, ?_, ?_⟩
                · rw [hs1]
                  show zk_up2 (zk_up2 I5 27 0 (nI (10 * c + k))) 27 1 (zswv (zv_both I n T e) now c k) 27 0 = _
                  rw [zk_up2_j (by decide), zk_up2_s]
                · rw [hs1]
                  show zk_up2 (zk_up2 I5 27 0 (nI (10 * c + k))) 27 1 (zswv (zv_both I n T e) now c k) 27 1 = _
                  rw [zk_up2_s]
              · first | rw [if_neg m3] | rw [if_pos (Int32.not_lt.mp m3)]
                exact no (fun q => m3 q.2) I5 _ g6 e0 e1
            · rw [if_pos m2]
              refine no (fun q => m2 ?_) I3 x k1 k2' k3'
              have := q.1
              unfold zcan at this
              rw [Bool.and_eq_true, Bool.and_eq_true, Bool.and_eq_true] at this
              exact ⟨this.2.1, this.2.2.2⟩
          · rw [if_pos m1]
            refine no (fun q => m1 ?_) I3 x k1 k2' k3'
            have := q.1
            unfold zcan at this
            rw [Bool.and_eq_true, Bool.and_eq_true, Bool.and_eq_true] at this
            exact ⟨this.1, this.2.2.1⟩)
      show zk_R sc (d + 5) 26 96 [some (.ref (0 : Nat)), some (.int now), some (.int (nI (zv_lie I n 1 &&& zv_may I n 2))), some (.int (nI (zv_lie I n 2 &&& zv_may I n 1))), some (.int (nI c)), x, y] [] (zk_mk I2 tg) P
      rw [u26_96]
      simp only [u26_0, u26_1, u26_2, u26_5, u26_8, u26_9, u26_12, u26_13, u26_16, u26_17, u26_20, u26_23, u26_24, u26_27, u26_28, u26_31, u26_32, u26_35, u26_38, u26_39, u26_40, u26_41, u26_44, u26_45, u26_48, u26_49, u26_52, u26_53, u26_56, u26_57, u26_58, u26_59, u26_62, u26_63, u26_66, u26_67, u26_70, u26_71, u26_74, u26_75, u26_76, u26_77, u26_80, u26_81, u26_82, u26_83, u26_84, u26_87, u26_88, u26_89, u26_92, u26_93, u26_94, u26_98, u26_99, u26_102, u26_105, u26_108, u26_109, u26_113, u26_114, u26_117, u26_120, u26_123, u26_124, u26_126, u26_127, u26_128, u26_129, u26_132, u26_133, u26_135, u26_136, u26_137, u26_138, u26_141, u26_144, u26_145, u26_146, u26_148, u26_151, u26_152, u26_153, u26_155, u26_158, u26_159, u26_162, u26_164, u26_166, u26_167, u26_170, u26_171, u26_172, u26_175, u26_176, u26_179, u26_180, u26_182, u26_184, u26_185, u26_187, u26_188, u26_189, u26_190, u26_193, u26_194, u26_196, u26_197, u26_200, u26_203, u26_206, u26_209, zk_mk_1, zk_mk_I, zk_mk_R, zk_mk_set, zk_mk_setR, zk_mk_cpy, zk_rv_some, zk_rv_none, Option.toList_some, Option.toList_none, List.cons_append, List.nil_append, reduceIte, eq_self, Nat.reduceLT, Nat.reduceEqDiff, and_true, true_and, reduceCtorEq, zsh_0, zsh_1, zrf_0_0, hn2]
      rw [if_neg (nI_ge hc (by omega))]
      exact inner 0 (I2, y) (Nat.zero_le _) ⟨g1, g2, g3⟩)
  refine loop 0 (zk_up2 (zk_up2 I' 27 0 (-1)) 27 1 (zw_far now), none, none) (Nat.zero_le _) ⟨(h1.up rfl).up rfl, ?_, ?_⟩
  · show zk_up2 (zk_up2 I' 27 0 (-1)) 27 1 (zw_far now) 27 0 = _
    rw [zk_up2_j (by decide), zk_up2_s]; rfl
  · show zk_up2 (zk_up2 I' 27 0 (-1)) 27 1 (zw_far now) 27 1 = _
    rw [zk_up2_s]; rfl
