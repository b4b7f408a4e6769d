/-! fair by both -/
theorem zw_01 {what : Int32} (h : 0 ≤ what ∧ what ≤ 1) : what = 0 ∨ what = 1 := by
  obtain ⟨k, hk, rfl⟩ := zn_of (m := 2) h.1 (by rw [zn_lt1 (by decide)]; exact h.2) (by decide)
  rcases (show k = 0 ∨ k = 1 by omega) with rfl | rfl
  · exact Or.inl rfl
  · exact Or.inr rfl
def zA_fair (I : Nat → Nat → Int32) (n : Nat) (T e : Nat → Nat) (sort what : Int32) : Int32 := if (0 ≤ sort ∧ sort ≤ 1) ∧ 0 ≤ what ∧ what ≤ 1 then (if what = 0 then (zfair (zfok n (zv_may I n 1) (zv_may I n 2) (decide (sort = 1))) (zfval (zv_now I n T e) n) (2 ^ n)).1 else (zfair (zfok n (zv_may I n 1) (zv_may I n 2) (decide (sort = 1))) (zfval (zv_now I n T e) n) (2 ^ n)).2) else -2
theorem zF.may {I I' : Nat → Nat → Int32} {n : Nat} {q : Int32} (h : zF I I') : zv_may I' n q = zv_may I n q := by unfold zv_may; rw [h 2 rfl, h 4 rfl]
theorem s23 {sc : zk_X} {d : Nat} {I : Nat → Nat → Int32} {tg : Option Nat} {P : Option Value → zk_M → Prop} {n t : Nat} {T e : Nat → Nat} {sort what : Int32} (hq : zj_q I n t T e)
    (K : ∀ I' : Nat → Nat → Int32, zF I I' → P (some (.int (zA_fair I n T e sort what))) (zk_mk I' tg)) : zk_R sc (d + 6) 23 0 [some (.ref (0 : Nat)), some (.int sort), some (.int what)] [] (zk_mk I tg) P := by
  obtain ⟨hj, hl, hr, ht, hx⟩ := hq
  obtain ⟨b0, b1, b2, b3⟩ := zi_lit4
  obtain ⟨c0, c1, c2, c3⟩ := zi_cl4
  unfold zA_fair at K
  simp only [u23_0, u23_1, u23_4, u23_5, u23_6, u23_9, u23_10, u23_13, u23_14, u23_15, u23_18, u23_20, u23_21, u23_22, u23_25, u23_26, u23_29, u23_30, u23_31, u23_34, u23_35, u23_38, u23_39, u23_40, u23_43, u23_44, u23_47, u23_48, u23_51, u23_52, u23_55, u23_56, u23_59, u23_62, u23_63, u23_66, u23_67, u23_68, zk_mk_1, zk_mk_I, zk_mk_R, zk_mk_set, zk_mk_setR, zk_mk_cpy, zk_rv_some, zk_rv_none, Option.toList_some, Option.toList_none, List.cons_append, List.nil_append, reduceIte, eq_self, Nat.reduceLT, Nat.reduceEqDiff, and_true, true_and, reduceCtorEq, zsh_0]
  by_cases hw : (0 ≤ sort ∧ sort ≤ 1) ∧ 0 ≤ what ∧ what ≤ 1
  · rw [if_pos hw] at K
    rw [if_neg (Int32.not_lt.mpr hw.1.1), if_neg (Int32.not_lt.mpr hw.1.2), if_neg (Int32.not_lt.mpr hw.2.1), if_pos hw.2.2]
    refine s21 hj ht hl hx (fun I' h1 h2 h3 h4 => ?_)
    have hj' := h1.tab hj
    have call : ∀ (many : Bool) (P2 : Option Value → zk_M → Prop), (∀ I2 : Nat → Nat → Int32, zF I I2 → I2 27 0 = (zfair (zfok n (zv_may I n 1) (zv_may I n 2) many) (zfval (zv_now I n T e) n) (2 ^ n)).1 → I2 27 1 = (zfair (zfok n (zv_may I n 1) (zv_may I n 2) many) (zfval (zv_now I n T e) n) (2 ^ n)).2 → P2 none (zk_mk I2 tg)) → zk_R sc (d + 4 + 1) 71 0 [some (.ref (15 : Nat)), some (.int (if many then 1 else 0)), some (.int (nI (zv_may I n 1))), some (.int (nI (zv_may I n 2))), some (.ref (27 : Nat)), none, none, none, none] [] (zk_mk I' tg) P2 := by
      intro many P2 h
      refine s71 hj.2.2.1 h3 (fun h hh => (h4 h hh).1) (fun I2 g1 g2 g3 => ?_)
      exact h I2 (h1.trans (fun j hj => g1 j (by have := zKp_no hj; omega))) g2 g3
    have em : ∀ q, zset (fun c => decide (¬ zw_sides (I' 2 c) (I' 4 c) &&& q = 0)) n = zv_may I n q := fun q => by rw [h1 2 rfl, h1 4 rfl]; rfl
    have fin : ∀ (many : Bool), many = decide (sort = 1) → ∀ I2 : Nat → Nat → Int32, zF I I2 → I2 27 0 = (zfair (zfok n (zv_may I n 1) (zv_may I n 2) many) (zfval (zv_now I n T e) n) (2 ^ n)).1 → I2 27 1 = (zfair (zfok n (zv_may I n 1) (zv_may I n 2) many) (zfval (zv_now I n T e) n) (2 ^ n)).2 → zk_inb what 4 = true ∧ P (some (.int (I2 27 what.toNatClampNeg))) (zk_mk I2 tg) := by
      intro many hm I2 g1 g2 g3
      have K2 := K I2 g1
      rw [← hm] at K2
      rcases zw_01 hw.2 with rfl | rfl
      · rw [c0, g2]; exact ⟨b0, K2⟩
      · rw [c1, g3]; exact ⟨b1, K2⟩
    simp only [u23_0, u23_1, u23_4, u23_5, u23_6, u23_9, u23_10, u23_13, u23_14, u23_15, u23_18, u23_20, u23_21, u23_22, u23_25, u23_26, u23_29, u23_30, u23_31, u23_34, u23_35, u23_38, u23_39, u23_40, u23_43, u23_44, u23_47, u23_48, u23_51, u23_52, u23_55, u23_56, u23_59, u23_62, u23_63, u23_66, u23_67, u23_68, zk_mk_1, zk_mk_I, zk_mk_R, zk_mk_set, zk_mk_setR, zk_mk_cpy, zk_rv_some, zk_rv_none, Option.toList_some, Option.toList_none, List.cons_append, List.nil_append, reduceIte, eq_self, Nat.reduceLT, Nat.reduceEqDiff, and_true, true_and, reduceCtorEq, zsh_0, zsh_1, zsh_15, zrf_0_0, zrf_0_7, zrf_0_9, s98 hj'.1 hj.2.2.1, em]
    by_cases hs1 : sort = 1
    · rw [if_pos hs1]
      refine call true _ (fun I2 g1 g2 g3 => ?_)
      simp only [u23_0, u23_1, u23_4, u23_5, u23_6, u23_9, u23_10, u23_13, u23_14, u23_15, u23_18, u23_20, u23_21, u23_22, u23_25, u23_26, u23_29, u23_30, u23_31, u23_34, u23_35, u23_38, u23_39, u23_40, u23_43, u23_44, u23_47, u23_48, u23_51, u23_52, u23_55, u23_56, u23_59, u23_62, u23_63, u23_66, u23_67, u23_68, zk_mk_1, zk_mk_I, zk_mk_R, zk_mk_set, zk_mk_setR, zk_mk_cpy, zk_rv_some, zk_rv_none, Option.toList_some, Option.toList_none, List.cons_append, List.nil_append, reduceIte, eq_self, Nat.reduceLT, Nat.reduceEqDiff, and_true, true_and, reduceCtorEq, zsh_0, zsh_27, zrf_0_9]
      exact fin true (by simp [hs1]) I2 g1 g2 g3
    · rw [if_neg hs1]
      refine call false _ (fun I2 g1 g2 g3 => ?_)
      simp only [u23_0, u23_1, u23_4, u23_5, u23_6, u23_9, u23_10, u23_13, u23_14, u23_15, u23_18, u23_20, u23_21, u23_22, u23_25, u23_26, u23_29, u23_30, u23_31, u23_34, u23_35, u23_38, u23_39, u23_40, u23_43, u23_44, u23_47, u23_48, u23_51, u23_52, u23_55, u23_56, u23_59, u23_62, u23_63, u23_66, u23_67, u23_68, zk_mk_1, zk_mk_I, zk_mk_R, zk_mk_set, zk_mk_setR, zk_mk_cpy, zk_rv_some, zk_rv_none, Option.toList_some, Option.toList_none, List.cons_append, List.nil_append, reduceIte, eq_self, Nat.reduceLT, Nat.reduceEqDiff, and_true, true_and, reduceCtorEq, zsh_0, zsh_27, zrf_0_9]
      exact fin false (by simp [hs1]) I2 g1 g2 g3
  · rw [if_neg hw] at K
    have K2 := K I (zF_refl I)
    split
    · exact K2
    · next q1 =>
      split
      · exact K2
      · next q2 =>
        split
        · exact K2
        · next q3 =>
          rw [if_neg (fun q => hw ⟨⟨Int32.not_lt.mp q1, Int32.not_lt.mp q2⟩, Int32.not_lt.mp q3, q⟩)]
          exact K2
theorem s171 {sc : zk_X} {d : Nat} {I : Nat → Nat → Int32} {tg : Option Nat} {P : Option Value → zk_M → Prop} {n t : Nat} {T e : Nat → Nat} {sort what : Int32} (hq : zj_q I n t T e)
    (K : ∀ I' : Nat → Nat → Int32, zF I I' → P (some (.int (zA_fair I n T e sort what))) (zk_mk I' tg)) : zk_R sc (d + 6) 171 0 [some (.ref (60 : Nat)), some (.int sort), some (.int what), none, none, none, none, none, none, none, none, none] [] (zk_mk I tg) P := by
  obtain ⟨hj, hl, hr, ht, hx⟩ := hq
  have h10 := hj.2.2.1
  have p10 := zp_10 h10
  unfold zA_fair at K
  simp only [u171_0, u171_1, u171_2, u171_3, u171_6, u171_9, u171_10, u171_11, u171_12, u171_15, u171_18, u171_20, u171_21, u171_22, u171_25, u171_26, u171_27, u171_30, u171_31, u171_32, u171_33, u171_36, u171_38, u171_39, u171_41, u171_42, u171_44, u171_45, u171_49, u171_50, u171_53, u171_56, u171_57, u171_60, u171_62, u171_63, u171_64, u171_65, u171_67, u171_69, u171_70, u171_71, u171_72, u171_73, u171_76, u171_78, u171_80, u171_81, u171_82, u171_83, u171_86, u171_87, u171_90, u171_92, u171_95, u171_97, u171_100, u171_103, u171_104, u171_107, u171_108, u171_110, u171_111, u171_114, u171_116, u171_117, u171_118, u171_121, u171_123, u171_124, u171_125, u171_128, u171_130, u171_132, u171_135, u171_137, u171_138, u171_141, u171_143, u171_145, u171_148, u171_149, u171_152, u171_153, u171_155, u171_157, u171_160, u171_162, u171_165, u171_167, u171_169, u171_171, u171_174, u171_176, u171_179, u171_181, u171_183, u171_186, u171_189, u171_190, u171_193, u171_195, u171_198, u171_200, zk_mk_1, zk_mk_I, zk_mk_R, zk_mk_set, zk_mk_setR, zk_mk_cpy, zk_rv_some, zk_rv_none, Option.toList_some, Option.toList_none, List.cons_append, List.nil_append, reduceIte, eq_self, Nat.reduceLT, Nat.reduceEqDiff, and_true, true_and, reduceCtorEq, zsh_60, s129, zb_z]
  by_cases hw1 : 0 ≤ sort ∧ sort ≤ 1
  · rw [if_neg (fun q => q hw1)]
    by_cases hw2 : 0 ≤ what ∧ what ≤ 1
    · rw [if_neg (fun q => q hw2)]
      rw [if_pos ⟨hw1, hw2⟩] at K
      refine s162 hj ht hr hx (fun I' h1 h2 h3 => ?_)
      have hj' := h1.tab hj
      have hn' : I' 60 0 = nI n := hj'.2.1
      have eall : (1 : Int32) <<< (nI n &&& 31) - 1 = nI (2 ^ n - 1) := by rw [zq_all h10]; exact zn_sub (b := 1) (by omega)
      have K2 := K I' h1
      have em : ∀ q, zset (fun c => decide (¬ zw_sides (I' 61 c) (I' 63 c) &&& q = 0)) n = zv_may I n q := fun q => (zv_may_m hj').trans h1.may
      have em1 := em 1
      have em2 := em 2
      clear em
      generalize zv_now I n T e = f at *
      generalize hmn : decide (sort = 1) = many at *
      generalize zv_may I n 1 = lefts at *
      generalize zv_may I n 2 = rights at *
      have hv : ∀ a, ¬ zfval f n a = -1 := fun a => zw_far_ne _
      have hs0 : (sort = 0) = (many = false) := by
        rcases zw_01 hw1 with rfl | rfl
        · subst hmn; simp
        · subst hmn; simp
      have loop := zl_up (τ := Option Value × Option Value × Option Value × Option Value) (fun i q => zk_R sc (d + 6) 171 47 [some (.ref (60 : Nat)), some (.int sort), some (.int what), some (.int (nI lefts)), some (.int (nI rights)), some (.int (zfair (zfok n lefts rights many) (zfval f n) i).1), some (.int (zfair (zfok n lefts rights many) (zfval f n) i).2), some (.int (nI i)), q.1, q.2.1, q.2.2.1, q.2.2.2] [] (zk_mk I' tg) P)
        (fun i q => True) (2 ^ n) (by
          rintro ⟨x, y, z, w⟩ -
          show zk_R sc (d + 6) 171 47 [some (.ref (60 : Nat)), some (.int sort), some (.int what), some (.int (nI lefts)), some (.int (nI rights)), some (.int (zfair (zfok n lefts rights many) (zfval f n) (2 ^ n)).1), some (.int (zfair (zfok n lefts rights many) (zfval f n) (2 ^ n)).2), some (.int (nI (2 ^ n))), x, y, z, w] [] (zk_mk I' tg) P
          rw [u171_47]
          have hcond : nI (2 ^ n - 1) < nI (2 ^ n) := by rw [zn_lt (by omega) (by omega)]; omega
          have hcond2 : ¬ nI (2 ^ n) ≤ nI (2 ^ n - 1) := Int32.not_le.mpr hcond
          simp only [u171_0, u171_1, u171_2, u171_3, u171_6, u171_9, u171_10, u171_11, u171_12, u171_15, u171_18, u171_20, u171_21, u171_22, u171_25, u171_26, u171_27, u171_30, u171_31, u171_32, u171_33, u171_36, u171_38, u171_39, u171_41, u171_42, u171_44, u171_45, u171_49, u171_50, u171_53, u171_56, u171_57, u171_60, u171_62, u171_63, u171_64, u171_65, u171_67, u171_69, u171_70, u171_71, u171_72, u171_73, u171_76, u171_78, u171_80, u171_81, u171_82, u171_83, u171_86, u171_87, u171_90, u171_92, u171_95, u171_97, u171_100, u171_103, u171_104, u171_107, u171_108, u171_110, u171_111, u171_114, u171_116, u171_117, u171_118, u171_121, u171_123, u171_124, u171_125, u171_128, u171_130, u171_132, u171_135, u171_137, u171_138, u171_141, u171_143, u171_145, u171_148, u171_149, u171_152, u171_153, u171_155, u171_157, u171_160, u171_162, u171_165, u171_167, u171_169, u171_171, u171_174, u171_176, u171_179, u171_181, u171_183, u171_186, u171_189, u171_190, u171_193, u171_195, u171_198, u171_200, zk_mk_1, zk_mk_I, zk_mk_R, zk_mk_set, zk_mk_setR, zk_mk_cpy, zk_rv_some, zk_rv_none, Option.toList_some, Option.toList_none, List.cons_append, List.nil_append, reduceIte, eq_self, Nat.reduceLT, Nat.reduceEqDiff, and_true, true_and, reduceCtorEq, zsh_60, s161, hn', eall, hcond, hcond2]
          by_cases h0 : what = 0
          · rw [if_pos h0] at K2 ⊢; exact K2
          · rw [if_neg h0] at K2 ⊢; exact K2) (by
          rintro i ⟨x, y, z, w⟩ hi - ih
          show zk_R sc (d + 6) 171 47 [some (.ref (60 : Nat)), some (.int sort), some (.int what), some (.int (nI lefts)), some (.int (nI rights)), some (.int (zfair (zfok n lefts rights many) (zfval f n) i).1), some (.int (zfair (zfok n lefts rights many) (zfval f n) i).2), some (.int (nI i)), x, y, z, w] [] (zk_mk I' tg) P
          have z1 : zk_inb (nI i) 1024 = true := by rw [zn_in (by omega)]; omega
          have z2 : (nI i).toNatClampNeg = i := zn_cl (by omega)
          have hr2 : zdf (2 ^ n - 1) i < 2 ^ n := zdf_lt (by omega)
          have z3 : zk_inb (nI (zdf (2 ^ n - 1) i)) 1024 = true := by rw [zn_in (by omega)]; omega
          have z4 : (nI (zdf (2 ^ n - 1) i)).toNatClampNeg = zdf (2 ^ n - 1) i := zn_cl (by omega)
          have hcond : ¬ nI (2 ^ n - 1) < nI i := by rw [zn_lt (by omega) (by omega)]; omega
          have hcond2 : nI i ≤ nI (2 ^ n - 1) := Int32.not_lt.mp hcond
          have l1 := zdf_lt (b := lefts) hi
          have l2 := zdf_lt (b := rights) hr2
          have y1 : (nI (zdf i lefts) = 0) = (zdf i lefts = 0) := zn_eq (b := 0) (by omega) (by decide)
          have y2 : (nI (zdf (zdf (2 ^ n - 1) i) rights) = 0) = (zdf (zdf (2 ^ n - 1) i) rights = 0) := zn_eq (b := 0) (by omega) (by decide)
          have y3 : (nI (zones i 12) = nI (zones (zdf (2 ^ n - 1) i) 12)) = (zones i 12 = zones (zdf (2 ^ n - 1) i) 12) := zn_eq (by have := zones_le i 12; omega) (by have := zones_le (zdf (2 ^ n - 1) i) 12; omega)
          have hok : zfok n lefts rights many i = (decide (zdf i lefts = 0) && (decide (zdf (zdf (2 ^ n - 1) i) rights = 0) && (!many || decide (zones i 12 = zones (zdf (2 ^ n - 1) i) 12)))) := rfl
          have no : zfok n lefts rights many i = false → ∀ (x y z w : Option Value), zk_R sc (d + 6) 171 47 [some (.ref (60 : Nat)), some (.int sort), some (.int what), some (.int (nI lefts)), some (.int (nI rights)), some (.int (zfair (zfok n lefts rights many) (zfval f n) i).1), some (.int (zfair (zfok n lefts rights many) (zfval f n) i).2), some (.int (nI (i + 1))), x, y, z, w] [] (zk_mk I' tg) P := by
            intro hk x y z w
            have ek : zfair (zfok n lefts rights many) (zfval f n) (i + 1) = zfair (zfok n lefts rights many) (zfval f n) i := by rw [zfair, if_neg (fun q => by rw [hk] at q; cases q.1)]
            have := ih (x, y, z, w) trivial
            rw [ek] at this
            exact this
          rw [u171_47]
          simp only [u171_0, u171_1, u171_2, u171_3, u171_6, u171_9, u171_10, u171_11, u171_12, u171_15, u171_18, u171_20, u171_21, u171_22, u171_25, u171_26, u171_27, u171_30, u171_31, u171_32, u171_33, u171_36, u171_38, u171_39, u171_41, u171_42, u171_44, u171_45, u171_49, u171_50, u171_53, u171_56, u171_57, u171_60, u171_62, u171_63, u171_64, u171_65, u171_67, u171_69, u171_70, u171_71, u171_72, u171_73, u171_76, u171_78, u171_80, u171_81, u171_82, u171_83, u171_86, u171_87, u171_90, u171_92, u171_95, u171_97, u171_100, u171_103, u171_104, u171_107, u171_108, u171_110, u171_111, u171_114, u171_116, u171_117, u171_118, u171_121, u171_123, u171_124, u171_125, u171_128, u171_130, u171_132, u171_135, u171_137, u171_138, u171_141, u171_143, u171_145, u171_148, u171_149, u171_152, u171_153, u171_155, u171_157, u171_160, u171_162, u171_165, u171_167, u171_169, u171_171, u171_174, u171_176, u171_179, u171_181, u171_183, u171_186, u171_189, u171_190, u171_193, u171_195, u171_198, u171_200, zk_mk_1, zk_mk_I, zk_mk_R, zk_mk_set, zk_mk_setR, zk_mk_cpy, zk_rv_some, zk_rv_none, Option.toList_some, Option.toList_none, List.cons_append, List.nil_append, reduceIte, eq_self, Nat.reduceLT, Nat.reduceEqDiff, and_true, true_and, reduceCtorEq, zsh_60, zsh_78, zrf_60_31, s161, hn', eall, hcond, hcond2, zq_andn, y1, y2, y3, hs0, nI_1, s163 (show i < 2147483648 by omega), s163 (show zdf (2 ^ n - 1) i < 2147483648 by omega), z1, z2, z3, z4, (h3 i hi).1, (h3 _ hr2).1, s172, show ((1 : Int32) = 0) = False from by decide]
          have go : zfok n lefts rights many i = true → ∀ (x y z : Option Value), (if (zfair (zfok n lefts rights many) (zfval f n) i).1 = -1 then zk_R sc (d + 6) 171 47 [some (.ref (60 : Nat)), some (.int sort), some (.int what), some (.int (nI lefts)), some (.int (nI rights)), some (.int (nI i)), some (.int (zfval f n i)), some (.int (nI (i + 1))), x, y, z, some (.int 1)] [] (zk_mk I' tg) P
              else if (zfair (zfok n lefts rights many) (zfval f n) i).2 ≤ zfval f n i then zk_R sc (d + 6) 171 47 [some (.ref (60 : Nat)), some (.int sort), some (.int what), some (.int (nI lefts)), some (.int (nI rights)), some (.int (zfair (zfok n lefts rights many) (zfval f n) i).1), some (.int (zfair (zfok n lefts rights many) (zfval f n) i).2), some (.int (nI (i + 1))), x, y, z, some (.int 0)] [] (zk_mk I' tg) P
              else zk_R sc (d + 6) 171 47 [some (.ref (60 : Nat)), some (.int sort), some (.int what), some (.int (nI lefts)), some (.int (nI rights)), some (.int (nI i)), some (.int (zfval f n i)), some (.int (nI (i + 1))), x, y, z, some (.int 1)] [] (zk_mk I' tg) P) := by
            intro hk x y z
            have yes : ((zfair (zfok n lefts rights many) (zfval f n) i).1 = -1 ∨ zfval f n i < (zfair (zfok n lefts rights many) (zfval f n) i).2) → zk_R sc (d + 6) 171 47 [some (.ref (60 : Nat)), some (.int sort), some (.int what), some (.int (nI lefts)), some (.int (nI rights)), some (.int (nI i)), some (.int (zfval f n i)), some (.int (nI (i + 1))), x, y, z, some (.int 1)] [] (zk_mk I' tg) P := by
              intro hy
              have ek : zfair (zfok n lefts rights many) (zfval f n) (i + 1) = (nI i, zfval f n i) := by rw [zfair, if_pos ⟨hk, hy⟩]
              have := ih (x, y, z, some (.int 1)) trivial
              rw [ek] at this
              exact this
            by_cases hq : (zfair (zfok n lefts rights many) (zfval f n) i).1 = -1
            · rw [if_pos hq]
              exact yes (Or.inl hq)
            · rw [if_neg hq]
              by_cases hq2 : (zfair (zfok n lefts rights many) (zfval f n) i).2 ≤ zfval f n i
              · rw [if_pos hq2]
                have ek : zfair (zfok n lefts rights many) (zfval f n) (i + 1) = zfair (zfok n lefts rights many) (zfval f n) i := by
                  rw [zfair, if_neg (fun q => by
                    rcases q.2 with q | q
                    · exact hq q
                    · exact Int32.not_lt.mpr hq2 q)]
                have := ih (x, y, z, some (.int 0)) trivial
                rw [ek] at this
                exact this
              · rw [if_neg hq2]
                exact yes (Or.inr (Int32.not_le.mp hq2))
          by_cases k1 : zdf i lefts = 0
          · rw [if_pos k1]
            by_cases k2 : zdf (zdf (2 ^ n - 1) i) rights = 0
            · rw [if_pos k2]
              by_cases hm : many = false
              · rw [if_pos hm]
                exact go (by rw [hok]; simp [k1, k2, hm]) _ _ _
              · rw [if_neg hm]
                by_cases k3 : zones i 12 = zones (zdf (2 ^ n - 1) i) 12
                · rw [if_pos k3]
                  exact go (by rw [hok]; simp [k1, k2, k3]) _ _ _
                · rw [if_neg k3]
                  exact no (by rw [hok]; simp at hm; simp [k3, hm]) _ _ _ _
            · rw [if_neg k2]
              exact no (by rw [hok]; simp [k2]) _ _ _ _
          · rw [if_neg k1]
            exact no (by rw [hok]; simp [k1]) _ _ _ _)
      simp only [u171_0, u171_1, u171_2, u171_3, u171_6, u171_9, u171_10, u171_11, u171_12, u171_15, u171_18, u171_20, u171_21, u171_22, u171_25, u171_26, u171_27, u171_30, u171_31, u171_32, u171_33, u171_36, u171_38, u171_39, u171_41, u171_42, u171_44, u171_45, u171_49, u171_50, u171_53, u171_56, u171_57, u171_60, u171_62, u171_63, u171_64, u171_65, u171_67, u171_69, u171_70, u171_71, u171_72, u171_73, u171_76, u171_78, u171_80, u171_81, u171_82, u171_83, u171_86, u171_87, u171_90, u171_92, u171_95, u171_97, u171_100, u171_103, u171_104, u171_107, u171_108, u171_110, u171_111, u171_114, u171_116, u171_117, u171_118, u171_121, u171_123, u171_124, u171_125, u171_128, u171_130, u171_132, u171_135, u171_137, u171_138, u171_141, u171_143, u171_145, u171_148, u171_149, u171_152, u171_153, u171_155, u171_157, u171_160, u171_162, u171_165, u171_167, u171_169, u171_171, u171_174, u171_176, u171_179, u171_181, u171_183, u171_186, u171_189, u171_190, u171_193, u171_195, u171_198, u171_200, zk_mk_1, zk_mk_I, zk_mk_R, zk_mk_set, zk_mk_setR, zk_mk_cpy, zk_rv_some, zk_rv_none, Option.toList_some, Option.toList_none, List.cons_append, List.nil_append, reduceIte, eq_self, Nat.reduceLT, Nat.reduceEqDiff, and_true, true_and, reduceCtorEq, zsh_60, s168 hn' h10, em1, em2]
      exact loop 0 (none, none, none, none) (Nat.zero_le _) trivial
    · rw [if_pos hw2]
      rw [if_neg (fun q => hw2 q.2)] at K
      exact K I (zF_refl I)
  · rw [if_pos hw1]
    rw [if_neg (fun q => hw1 q.1)] at K
    exact K I (zF_refl I)
