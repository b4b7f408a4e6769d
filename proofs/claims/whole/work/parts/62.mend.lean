/-! mend: what moving the cards costs -/
def zmv (I : Nat → Nat → Int32) (n : Nat) (T e : Nat → Nat) (c : Nat) : Int32 := zv_mv (I 2 c) (zv_said I n T e 1 c (zb (I 5 c = 1)))
theorem zF.mv {I I' : Nat → Nat → Int32} {n : Nat} {T e : Nat → Nat} (h : zF I I') : zmv I' n T e = zmv I n T e := by
  funext c
  unfold zmv
  rw [h 2 rfl, h 5 rfl, h.said]
theorem zmv_bd {I : Nat → Nat → Int32} {n c : Nat} {T e : Nat → Nat} : 0 ≤ (zmv I n T e c).toInt ∧ (zmv I n T e c).toInt ≤ 2007 := by
  obtain ⟨k, hk, ek⟩ := zv_said99 (I := I) (n := n) (T := T) (e := e) (p := 1) (c := c) (left := zb (I 5 c = 1)) (by decide)
  have hi : (nI k).toInt = k := nI_toInt (by omega)
  have h2 := zi_two (a := nI k) (by omega) (by omega)
  have h3 : (nI k + 3).toInt = (nI k).toInt + (3 : Int32).toInt := zi_add (by omega) (by omega) (by decide) (by decide)
  have e3 : (3 : Int32).toInt = 3 := by decide
  have e0 : (0 : Int32).toInt = 0 := by decide
  unfold zmv zv_mv
  rw [ek]
  (repeat' split) <;> omega
theorem zsum_nn {f : Nat → Int32} {h : Nat} (hb : ∀ c, 0 ≤ (f c).toInt ∧ (f c).toInt ≤ 2007) : ∀ {n : Nat}, n ≤ 10 → 0 ≤ (zsum f h n).toInt ∧ (zsum f h n).toInt ≤ 2007 * (n : Int)
  | 0, _ => by
    show 0 ≤ (0 : Int32).toInt ∧ (0 : Int32).toInt ≤ 2007 * ((0 : Nat) : Int)
    rw [zn_zi]; omega
  | n + 1, hn => by
    obtain ⟨i1, i2⟩ := zsum_nn (h := h) hb (n := n) (by omega)
    obtain ⟨b1, b2⟩ := hb n
    rw [zsum]
    split
    · rw [zi_add (by omega) (by omega) (by omega) (by omega)]; omega
    · rw [Int32.add_zero]; omega
theorem zsum_m1 {f : Nat → Int32} {h n : Nat} (hb : ∀ c, 0 ≤ (f c).toInt ∧ (f c).toInt ≤ 2007) (hn : n ≤ 10) : ¬ zsum f h n = -1 := by
  intro q
  have := (zsum_nn (h := h) hb hn).1
  rw [q, show (-1 : Int32).toInt = -1 from by decide] at this
  omega
def zmok (f : Nat → Int32) (n ly L R : Nat) (most : Int32) (a : Nat) : Bool := decide (zdf a (ly &&& L) = 0) && (decide (zdf (zdf ly a) R = 0) && decide (zw_far (zsum f a n - zsum f (zdf ly a) n) ≤ most))
def zmcost (g : Nat → Int32) (n now a : Nat) : Int32 := zsum g (a ^^^ now) n
def zmend (I : Nat → Nat → Int32) (n : Nat) (T e : Nat → Nat) (most : Int32) : Int32 × Int32 := zfair (zmok (zv_now I n T e) n (zv_lie I n 1 ||| zv_lie I n 2) (zv_may I n 1) (zv_may I n 2) most) (zmcost (zmv I n T e) n (zv_lie I n 1)) (2 ^ n)
theorem s29 {sc : zk_X} {d : Nat} {I : Nat → Nat → Int32} {tg : Option Nat} {P : Option Value → zk_M → Prop} {n t : Nat} {T e : Nat → Nat} {most : Int32} (hq : zj_q I n t T e) (hall : I 15 3 = nI (2 ^ n - 1)) (hs : ∀ h, h < 2 ^ n → I 18 h = zsum (zv_now I n T e) h n)
    (K : ∀ I' : Nat → Nat → Int32, zF I I' → I' 27 0 = (zmend I n T e most).2 → I' 27 1 = (zmend I n T e most).1 → P none (zk_mk I' tg)) : zk_R sc (d + 4) 29 0 [some (.ref (0 : Nat)), some (.int most), none, none, none, none, none, none, none, none] [] (zk_mk I tg) P := by
  have hq0 := hq
  obtain ⟨hj, hl, hr, ht, hx⟩ := hq
  obtain ⟨b0, b1, b2, b3⟩ := zi_lit4
  obtain ⟨c0, c1, c2, c3⟩ := zi_cl4
  have h10 := hj.2.2.1
  have p10 := zp_10 h10
  have hl1 : zv_lie I n 1 < 2 ^ n := zset_lt _ n
  have hl2 : zv_lie I n 2 < 2 ^ n := zset_lt _ n
  have hly : zv_lie I n 1 ||| zv_lie I n 2 < 2 ^ n := zor_lt hl1 hl2
  have hmain : ∀ I1 : Nat → Nat → Int32, (∀ j, j ≠ 14 → ¬ (28 ≤ j ∧ j < 52 ∧ j % 4 = 3) → j ≠ 17 → I1 j = I j) → (∀ c, c < n → I1 17 c = zmv I n T e c) → zk_R sc (d + 4) 29 33 [some (.ref (0 : Nat)), some (.int most), some (.int (nI n)), none, none, none, none, none, none, none] [] (zk_mk I1 tg) P := by
    intro I1 g1 g2
    have hF : zF I I1 := fun j hj => g1 j (zKp_no hj).1 (zKp_no hj).2.1 (by have := zKp_no hj; omega)
    have hj1 := hF.tab hj
    have el : ∀ q, zset (fun c => decide (I1 5 c = q)) n = zv_lie I n q := fun q => by rw [hF 5 rfl]; rfl
    have em : ∀ q, zset (fun c => decide (¬ zw_sides (I1 2 c) (I1 4 c) &&& q = 0)) n = zv_may I n q := fun q => by rw [hF 2 rfl, hF 4 rfl]; rfl
    simp only [u29_0, u29_1, u29_3, u29_4, u29_7, u29_10, u29_13, u29_14, u29_17, u29_20, u29_21, u29_22, u29_23, u29_26, u29_27, u29_30, u29_33, u29_34, u29_37, u29_38, u29_41, u29_42, u29_43, u29_44, u29_47, u29_48, u29_51, u29_52, u29_53, u29_54, u29_55, u29_58, u29_59, u29_62, u29_63, u29_64, u29_65, u29_67, u29_68, u29_71, u29_72, u29_75, u29_76, u29_77, u29_79, u29_80, u29_83, u29_84, u29_85, u29_86, u29_87, u29_90, u29_91, u29_92, u29_93, u29_94, u29_98, u29_99, u29_102, u29_105, u29_108, u29_109, u29_111, u29_112, u29_113, u29_114, u29_116, u29_118, u29_120, u29_121, u29_124, u29_126, u29_128, u29_129, u29_132, u29_133, u29_136, u29_137, u29_139, u29_141, u29_144, u29_145, u29_148, u29_151, u29_153, u29_154, u29_155, u29_158, u29_161, u29_163, u29_164, u29_165, u29_168, u29_169, u29_172, u29_175, u29_176, u29_179, u29_181, u29_182, u29_183, u29_186, u29_188, u29_189, u29_192, u29_193, u29_194, u29_195, u29_198, u29_200, u29_201, u29_204, u29_205, u29_206, u29_209, u29_210, u29_213, u29_214, u29_216, u29_217, u29_218, u29_221, u29_222, u29_224, u29_225, u29_228, u29_231, zk_mk_1, zk_mk_I, zk_mk_R, zk_mk_set, zk_mk_setR, zk_mk_cpy, zk_rv_some, zk_rv_none, Option.toList_some, Option.toList_none, List.cons_append, List.nil_append, reduceIte, eq_self, Nat.reduceLT, Nat.reduceEqDiff, and_true, true_and, reduceCtorEq, zsh_0, zsh_1, zsh_27, zrf_0_0, zrf_0_9, s92 hj1.1 h10, s98 hj1.1 h10, el, em, zq_or, zq_and, b0, b1, c0, c1]
    unfold zmend at K
    have hbd : ∀ c, 0 ≤ (zmv I n T e c).toInt ∧ (zmv I n T e c).toInt ≤ 2007 := fun c => zmv_bd
    generalize zv_now I n T e = f at *
    generalize hg : zmv I n T e = g at *
    generalize zv_may I n 1 = L at *
    generalize zv_may I n 2 = R at *
    generalize hnow : zv_lie I n 1 = now at *
    generalize now ||| zv_lie I n 2 = ly at *
    have hv : ∀ a, ¬ zmcost g n now a = -1 := fun a => zsum_m1 hbd h10
    have e15 : I1 15 = I 15 := g1 15 (by decide) (by omega) (by decide)
    have e18 : I1 18 = I 18 := g1 18 (by decide) (by omega) (by decide)
    generalize hok : zmok f n ly L R most = ok at *
    have loop := zl_up (τ := (Nat → Nat → Int32) × Option Value × Option Value × Option Value) (fun a q => zk_R sc (d + 4) 29 96 [some (.ref (0 : Nat)), some (.int most), some (.int (nI now)), some (.int (nI ly)), some (.int (nI (ly &&& L) ^^^ -1)), some (.int (nI R ^^^ -1)), some (.int (nI a)), q.2.1, q.2.2.1, q.2.2.2] [] (zk_mk q.1 tg) P)
      (fun a q => (∀ j, j ≠ 27 → q.1 j = I1 j) ∧ q.1 27 0 = (zfair ok (zmcost g n now) a).2 ∧ q.1 27 1 = (zfair ok (zmcost g n now) a).1) (2 ^ n) (by
        rintro ⟨I2, x, y, z⟩ ⟨h1, h2, h3⟩
        have e15' : I2 15 = I 15 := by rw [← e15]; exact h1 15 (by decide)
        have hcond : nI (2 ^ n - 1) < nI (2 ^ n) := by rw [zn_lt (by omega) (by omega)]; omega
        have hcond2 : ¬ nI (2 ^ n) ≤ nI (2 ^ n - 1) := Int32.not_le.mpr hcond
        show zk_R sc (d + 4) 29 96 [some (.ref (0 : Nat)), some (.int most), some (.int (nI now)), some (.int (nI ly)), some (.int (nI (ly &&& L) ^^^ -1)), some (.int (nI R ^^^ -1)), some (.int (nI (2 ^ n))), x, y, z] [] (zk_mk I2 tg) P
        rw [u29_96]
        simp only [u29_0, u29_1, u29_3, u29_4, u29_7, u29_10, u29_13, u29_14, u29_17, u29_20, u29_21, u29_22, u29_23, u29_26, u29_27, u29_30, u29_33, u29_34, u29_37, u29_38, u29_41, u29_42, u29_43, u29_44, u29_47, u29_48, u29_51, u29_52, u29_53, u29_54, u29_55, u29_58, u29_59, u29_62, u29_63, u29_64, u29_65, u29_67, u29_68, u29_71, u29_72, u29_75, u29_76, u29_77, u29_79, u29_80, u29_83, u29_84, u29_85, u29_86, u29_87, u29_90, u29_91, u29_92, u29_93, u29_94, u29_98, u29_99, u29_102, u29_105, u29_108, u29_109, u29_111, u29_112, u29_113, u29_114, u29_116, u29_118, u29_120, u29_121, u29_124, u29_126, u29_128, u29_129, u29_132, u29_133, u29_136, u29_137, u29_139, u29_141, u29_144, u29_145, u29_148, u29_151, u29_153, u29_154, u29_155, u29_158, u29_161, u29_163, u29_164, u29_165, u29_168, u29_169, u29_172, u29_175, u29_176, u29_179, u29_181, u29_182, u29_183, u29_186, u29_188, u29_189, u29_192, u29_193, u29_194, u29_195, u29_198, u29_200, u29_201, u29_204, u29_205, u29_206, u29_209, u29_210, u29_213, u29_214, u29_216, u29_217, u29_218, u29_221, u29_222, u29_224, u29_225, u29_228, u29_231, zk_mk_1, zk_mk_I, zk_mk_R, zk_mk_set, zk_mk_setR, zk_mk_cpy, zk_rv_some, zk_rv_none, Option.toList_some, Option.toList_none, List.cons_append, List.nil_append, reduceIte, eq_self, Nat.reduceLT, Nat.reduceEqDiff, and_true, true_and, reduceCtorEq, zsh_0, zsh_15, zrf_0_7, e15', hall, hcond, hcond2]
        exact K I2 (hF.trans (fun j hj => h1 j (by have := zKp_no hj; omega))) h2 h3) (by
        rintro a ⟨I2, x, y, z⟩ ha ⟨h1, h2, h3⟩ ih
        have h1 : ∀ j, j ≠ 27 → I2 j = I1 j := h1
        have h2 : I2 27 0 = (zfair ok (zmcost g n now) a).2 := h2
        have h3 : I2 27 1 = (zfair ok (zmcost g n now) a).1 := h3
        have e15' : I2 15 = I 15 := by rw [← e15]; exact h1 15 (by decide)
        have e18' : I2 18 = I 18 := by rw [← e18]; exact h1 18 (by decide)
        have e17 : ∀ c, c < n → I2 17 c = g c := fun c hc => by rw [h1 17 (by decide)]; exact g2 c hc
        have hcond : ¬ nI (2 ^ n - 1) < nI a := by rw [zn_lt (by omega) (by omega)]; omega
        have hcond2 : nI a ≤ nI (2 ^ n - 1) := Int32.not_lt.mp hcond
        have hd : zdf ly a < 2 ^ n := zdf_lt hly
        have l1 := zdf_lt (b := ly &&& L) ha
        have l2 := zdf_lt (b := R) hd
        have hxor : a ^^^ now < 2 ^ n := Nat.xor_lt_two_pow ha hl1
        have z1 : zk_inb (nI a) 1024 = true := by rw [zn_in (by omega)]; omega
        have z2 : (nI a).toNatClampNeg = a := zn_cl (by omega)
        have z3 : zk_inb (nI (zdf ly a)) 1024 = true := by rw [zn_in (by omega)]; omega
        have z4 : (nI (zdf ly a)).toNatClampNeg = zdf ly a := zn_cl (by omega)
        have y1 : (nI (zdf a (ly &&& L)) = 0) = (zdf a (ly &&& L) = 0) := zn_eq (b := 0) (by omega) (by decide)
        have y2 : (nI (zdf (zdf ly a) R) = 0) = (zdf (zdf ly a) R = 0) := zn_eq (b := 0) (by omega) (by decide)
        have ecost : zsum (I2 17) (a ^^^ now) 10 = zmcost g n now a := by
          unfold zmcost
          rw [zsum_10 h10 hxor]
          exact zsum_ext e17
        have hiff := zfair_iff (ok := ok) hv a (by omega)
        show zk_R sc (d + 4) 29 96 [some (.ref (0 : Nat)), some (.int most), some (.int (nI now)), some (.int (nI ly)), some (.int (nI (ly &&& L) ^^^ -1)), some (.int (nI R ^^^ -1)), some (.int (nI a)), x, y, z] [] (zk_mk I2 tg) P
        have no : (¬ (ok a = true ∧ ((zfair ok (zmcost g n now) a).1 = -1 ∨ zmcost g n now a < (zfair ok (zmcost g n now) a).2))) → ∀ x y z, zk_R sc (d + 4) 29 96 [some (.ref (0 : Nat)), some (.int most), some (.int (nI now)), some (.int (nI ly)), some (.int (nI (ly &&& L) ^^^ -1)), some (.int (nI R ^^^ -1)), some (.int (nI (a + 1))), x, y, z] [] (zk_mk I2 tg) P := by
          intro hq x y z
          have ek : zfair ok (zmcost g n now) (a + 1) = zfair ok (zmcost g n now) a := by rw [zfair, if_neg hq]
          exact ih (I2, x, y, z) ⟨h1, by rw [ek]; exact h2, by rw [ek]; exact h3⟩
        have yes : ok a = true → ((zfair ok (zmcost g n now) a).1 = -1 ∨ zmcost g n now a < (zfair ok (zmcost g n now) a).2) → ∀ x y z, zk_R sc (d + 4) 29 96 [some (.ref (0 : Nat)), some (.int most), some (.int (nI now)), some (.int (nI ly)), some (.int (nI (ly &&& L) ^^^ -1)), some (.int (nI R ^^^ -1)), some (.int (nI (a + 1))), x, y, z] [] (zk_mk (zk_up2 (zk_up2 I2 27 0 (zmcost g n now a)) 27 1 (nI a)) tg) P := by
          intro hk hy x y z
          have ek : zfair ok (zmcost g n now) (a + 1) = (nI a, zmcost g n now a) := by rw [zfair, if_pos ⟨hk, hy⟩]
          refine ih (_, x, y, z) ⟨fun j hj => ?_, ?_, ?_⟩
          · show zk_up2 (zk_up2 I2 27 0 _) 27 1 _ j = I1 j
            rw [zk_up2_r hj, zk_up2_r hj]; exact h1 j hj
          · show zk_up2 (zk_up2 I2 27 0 (zmcost g n now a)) 27 1 (nI a) 27 0 = _
            rw [ek, zk_up2_j (by decide), zk_up2_s]
          · show zk_up2 (zk_up2 I2 27 0 (zmcost g n now a)) 27 1 (nI a) 27 1 = _
            rw [ek, zk_up2_s]
        have hoka : ok a = (decide (zdf a (ly &&& L) = 0) && (decide (zdf (zdf ly a) R = 0) && decide (zw_far (zsum f a n - zsum f (zdf ly a) n) ≤ most))) := by rw [← hok]; rfl
        rw [u29_96]
        simp only [u29_0, u29_1, u29_3, u29_4, u29_7, u29_10, u29_13, u29_14, u29_17, u29_20, u29_21, u29_22, u29_23, u29_26, u29_27, u29_30, u29_33, u29_34, u29_37, u29_38, u29_41, u29_42, u29_43, u29_44, u29_47, u29_48, u29_51, u29_52, u29_53, u29_54, u29_55, u29_58, u29_59, u29_62, u29_63, u29_64, u29_65, u29_67, u29_68, u29_71, u29_72, u29_75, u29_76, u29_77, u29_79, u29_80, u29_83, u29_84, u29_85, u29_86, u29_87, u29_90, u29_91, u29_92, u29_93, u29_94, u29_98, u29_99, u29_102, u29_105, u29_108, u29_109, u29_111, u29_112, u29_113, u29_114, u29_116, u29_118, u29_120, u29_121, u29_124, u29_126, u29_128, u29_129, u29_132, u29_133, u29_136, u29_137, u29_139, u29_141, u29_144, u29_145, u29_148, u29_151, u29_153, u29_154, u29_155, u29_158, u29_161, u29_163, u29_164, u29_165, u29_168, u29_169, u29_172, u29_175, u29_176, u29_179, u29_181, u29_182, u29_183, u29_186, u29_188, u29_189, u29_192, u29_193, u29_194, u29_195, u29_198, u29_200, u29_201, u29_204, u29_205, u29_206, u29_209, u29_210, u29_213, u29_214, u29_216, u29_217, u29_218, u29_221, u29_222, u29_224, u29_225, u29_228, u29_231, zk_mk_1, zk_mk_I, zk_mk_R, zk_mk_set, zk_mk_setR, zk_mk_cpy, zk_rv_some, zk_rv_none, Option.toList_some, Option.toList_none, List.cons_append, List.nil_append, reduceIte, eq_self, Nat.reduceLT, Nat.reduceEqDiff, and_true, true_and, reduceCtorEq, zsh_0, zsh_15, zsh_18, zsh_27, zrf_0_7, zrf_0_9, zrf_15_2, e15', hall, hcond, hcond2, zq_andn, y1, y2, e18', z1, z2, z3, z4, hs a ha, hs _ hd, zw_abs, zq_xor, s74 (show a ^^^ now < 2147483648 by omega), ecost, b0, b1, c0, c1, h2, nI_1, show ((1 : Int32) = 0) = False from by decide]
        by_cases k1 : zdf a (ly &&& L) = 0
        · rw [if_pos k1]
          by_cases k2 : zdf (zdf ly a) R = 0
          · rw [if_pos k2]
            by_cases k3 : zw_far (zsum f a n - zsum f (zdf ly a) n) ≤ most
            · have hk : ok a = true := by rw [hoka]; simp [k1, k2, k3]
              first | rw [if_pos k3] | rw [if_neg (Int32.not_lt.mpr k3)]
              by_cases k4 : (zfair ok (zmcost g n now) a).2 = -1
              · rw [if_pos k4]
                exact yes hk (Or.inl (hiff.mp k4)) _ _ _
              · rw [if_neg k4]
                by_cases k5 : zmcost g n now a < (zfair ok (zmcost g n now) a).2
                · first | rw [if_pos k5] | rw [if_neg (Int32.not_le.mpr k5)]
                  exact yes hk (Or.inr k5) _ _ _
                · first | rw [if_neg k5] | rw [if_pos (Int32.not_lt.mp k5)]
                  exact no (fun q => q.2.elim (fun w => k4 (hiff.mpr w)) k5) _ _ _
            · first | rw [if_neg k3] | rw [if_pos (Int32.not_le.mp k3)]
              exact no (fun q => by rw [hoka] at q; simp [k3] at q) _ _ _
          · rw [if_neg k2]
            exact no (fun q => by rw [hoka] at q; simp [k2] at q) _ _ _
        · rw [if_neg k1]
          exact no (fun q => by rw [hoka] at q; simp [k1] at q) _ _ _)
    refine loop 0 (zk_up2 (zk_up2 I1 27 0 (-1)) 27 1 (-1), none, none, none) (Nat.zero_le _) ⟨fun j hj => ?_, ?_, ?_⟩
    · show zk_up2 (zk_up2 I1 27 0 (-1)) 27 1 (-1) j = I1 j
      rw [zk_up2_r hj, zk_up2_r hj]
    · show zk_up2 (zk_up2 I1 27 0 (-1)) 27 1 (-1) 27 0 = _
      rw [zk_up2_j (by decide), zk_up2_s]; rfl
    · show zk_up2 (zk_up2 I1 27 0 (-1)) 27 1 (-1) 27 1 = _
      rw [zk_up2_s]; rfl
  have loop1 := zl_up (τ := Nat → Nat → Int32) (fun i I1 => zk_R sc (d + 4) 29 2 [some (.ref (0 : Nat)), some (.int most), some (.int (nI i)), none, none, none, none, none, none, none] [] (zk_mk I1 tg) P)
    (fun i I1 => (∀ j, j ≠ 14 → ¬ (28 ≤ j ∧ j < 52 ∧ j % 4 = 3) → j ≠ 17 → I1 j = I j) ∧ ∀ c, c < i → I1 17 c = zmv I n T e c) n (by
      rintro I1 ⟨g1, g2⟩
      have e1 : I1 1 = I 1 := g1 1 (by decide) (by omega) (by decide)
      rw [u29_2]
      simp only [u29_0, u29_1, u29_3, u29_4, u29_7, u29_10, u29_13, u29_14, u29_17, u29_20, u29_21, u29_22, u29_23, u29_26, u29_27, u29_30, u29_34, u29_37, u29_38, u29_41, u29_42, u29_43, u29_44, u29_47, u29_48, u29_51, u29_52, u29_53, u29_54, u29_55, u29_58, u29_59, u29_62, u29_63, u29_64, u29_65, u29_67, u29_68, u29_71, u29_72, u29_75, u29_76, u29_77, u29_79, u29_80, u29_83, u29_84, u29_85, u29_86, u29_87, u29_90, u29_91, u29_92, u29_93, u29_94, u29_98, u29_99, u29_102, u29_105, u29_108, u29_109, u29_111, u29_112, u29_113, u29_114, u29_116, u29_118, u29_120, u29_121, u29_124, u29_126, u29_128, u29_129, u29_132, u29_133, u29_136, u29_137, u29_139, u29_141, u29_144, u29_145, u29_148, u29_151, u29_153, u29_154, u29_155, u29_158, u29_161, u29_163, u29_164, u29_165, u29_168, u29_169, u29_172, u29_175, u29_176, u29_179, u29_181, u29_182, u29_183, u29_186, u29_188, u29_189, u29_192, u29_193, u29_194, u29_195, u29_198, u29_200, u29_201, u29_204, u29_205, u29_206, u29_209, u29_210, u29_213, u29_214, u29_216, u29_217, u29_218, u29_221, u29_222, u29_224, u29_225, u29_228, u29_231, zk_mk_1, zk_mk_I, zk_mk_R, zk_mk_set, zk_mk_setR, zk_mk_cpy, zk_rv_some, zk_rv_none, Option.toList_some, Option.toList_none, List.cons_append, List.nil_append, reduceIte, eq_self, Nat.reduceLT, Nat.reduceEqDiff, and_true, true_and, reduceCtorEq, zsh_0, zsh_1, zrf_0_0, e1, hj.1]
      rw [if_pos (nI_le (Nat.le_refl _) (by omega))]
      exact hmain I1 g1 g2) (by
      rintro i I1 hi ⟨g1, g2⟩ ih
      have hF : zF I I1 := fun j hj => g1 j (zKp_no hj).1 (zKp_no hj).2.1 (by have := zKp_no hj; omega)
      have e1 : I1 1 = I 1 := g1 1 (by decide) (by omega) (by decide)
      have z1 : zk_inb (nI i) 10 = true := by rw [zn_in (by omega)]; omega
      have z2 : (nI i).toNatClampNeg = i := zn_cl (by omega)
      rw [u29_2]
      simp only [u29_0, u29_1, u29_3, u29_4, u29_7, u29_10, u29_13, u29_14, u29_17, u29_20, u29_21, u29_22, u29_23, u29_26, u29_27, u29_30, u29_34, u29_37, u29_38, u29_41, u29_42, u29_43, u29_44, u29_47, u29_48, u29_51, u29_52, u29_53, u29_54, u29_55, u29_58, u29_59, u29_62, u29_63, u29_64, u29_65, u29_67, u29_68, u29_71, u29_72, u29_75, u29_76, u29_77, u29_79, u29_80, u29_83, u29_84, u29_85, u29_86, u29_87, u29_90, u29_91, u29_92, u29_93, u29_94, u29_98, u29_99, u29_102, u29_105, u29_108, u29_109, u29_111, u29_112, u29_113, u29_114, u29_116, u29_118, u29_120, u29_121, u29_124, u29_126, u29_128, u29_129, u29_132, u29_133, u29_136, u29_137, u29_139, u29_141, u29_144, u29_145, u29_148, u29_151, u29_153, u29_154, u29_155, u29_158, u29_161, u29_163, u29_164, u29_165, u29_168, u29_169, u29_172, u29_175, u29_176, u29_179, u29_181, u29_182, u29_183, u29_186, u29_188, u29_189, u29_192, u29_193, u29_194, u29_195, u29_198, u29_200, u29_201, u29_204, u29_205, u29_206, u29_209, u29_210, u29_213, u29_214, u29_216, u29_217, u29_218, u29_221, u29_222, u29_224, u29_225, u29_228, u29_231, zk_mk_1, zk_mk_I, zk_mk_R, zk_mk_set, zk_mk_setR, zk_mk_cpy, zk_rv_some, zk_rv_none, Option.toList_some, Option.toList_none, List.cons_append, List.nil_append, reduceIte, eq_self, Nat.reduceLT, Nat.reduceEqDiff, and_true, true_and, reduceCtorEq, zsh_0, zsh_1, zsh_15, zrf_0_0, zrf_0_7, zrf_15_1, e1, hj.1]
      rw [if_neg (nI_ge hi (by omega))]
      have hl1 : I1 1 5 = nI t := by rw [e1]; exact hl
      refine s15 (hF.tab hj) ht hl1 hi (hF.text ht hx) (fun I2 k1 => ?_)
      have ev : zv_mv (I1 2 i) (zv_said I1 n T e 1 i (zb (I1 5 i = 1))) = zmv I n T e i := congrFun hF.mv i
      rw [ev]
      simp only [u29_0, u29_1, u29_3, u29_4, u29_7, u29_10, u29_13, u29_14, u29_17, u29_20, u29_21, u29_22, u29_23, u29_26, u29_27, u29_30, u29_34, u29_37, u29_38, u29_41, u29_42, u29_43, u29_44, u29_47, u29_48, u29_51, u29_52, u29_53, u29_54, u29_55, u29_58, u29_59, u29_62, u29_63, u29_64, u29_65, u29_67, u29_68, u29_71, u29_72, u29_75, u29_76, u29_77, u29_79, u29_80, u29_83, u29_84, u29_85, u29_86, u29_87, u29_90, u29_91, u29_92, u29_93, u29_94, u29_98, u29_99, u29_102, u29_105, u29_108, u29_109, u29_111, u29_112, u29_113, u29_114, u29_116, u29_118, u29_120, u29_121, u29_124, u29_126, u29_128, u29_129, u29_132, u29_133, u29_136, u29_137, u29_139, u29_141, u29_144, u29_145, u29_148, u29_151, u29_153, u29_154, u29_155, u29_158, u29_161, u29_163, u29_164, u29_165, u29_168, u29_169, u29_172, u29_175, u29_176, u29_179, u29_181, u29_182, u29_183, u29_186, u29_188, u29_189, u29_192, u29_193, u29_194, u29_195, u29_198, u29_200, u29_201, u29_204, u29_205, u29_206, u29_209, u29_210, u29_213, u29_214, u29_216, u29_217, u29_218, u29_221, u29_222, u29_224, u29_225, u29_228, u29_231, zk_mk_1, zk_mk_I, zk_mk_R, zk_mk_set, zk_mk_setR, zk_mk_cpy, zk_rv_some, zk_rv_none, Option.toList_some, Option.toList_none, List.cons_append, List.nil_append, reduceIte, eq_self, Nat.reduceLT, Nat.reduceEqDiff, and_true, true_and, reduceCtorEq, zsh_17, z1, z2, nI_1]
      refine ih _ ⟨fun j j1 j2 j3 => ?_, fun c hc => ?_⟩
      · rw [zk_up2_r j3, k1 j j1 j2, g1 j j1 j2 j3]
      · rw [zk_up2_i]
        by_cases e : c = i
        · rw [if_pos e, e]
        · rw [if_neg e, k1 17 (by decide) (by omega)]
          exact g2 c (by omega))
  simp only [u29_0, u29_1, u29_3, u29_4, u29_7, u29_10, u29_13, u29_14, u29_17, u29_20, u29_21, u29_22, u29_23, u29_26, u29_27, u29_30, u29_34, u29_37, u29_38, u29_41, u29_42, u29_43, u29_44, u29_47, u29_48, u29_51, u29_52, u29_53, u29_54, u29_55, u29_58, u29_59, u29_62, u29_63, u29_64, u29_65, u29_67, u29_68, u29_71, u29_72, u29_75, u29_76, u29_77, u29_79, u29_80, u29_83, u29_84, u29_85, u29_86, u29_87, u29_90, u29_91, u29_92, u29_93, u29_94, u29_98, u29_99, u29_102, u29_105, u29_108, u29_109, u29_111, u29_112, u29_113, u29_114, u29_116, u29_118, u29_120, u29_121, u29_124, u29_126, u29_128, u29_129, u29_132, u29_133, u29_136, u29_137, u29_139, u29_141, u29_144, u29_145, u29_148, u29_151, u29_153, u29_154, u29_155, u29_158, u29_161, u29_163, u29_164, u29_165, u29_168, u29_169, u29_172, u29_175, u29_176, u29_179, u29_181, u29_182, u29_183, u29_186, u29_188, u29_189, u29_192, u29_193, u29_194, u29_195, u29_198, u29_200, u29_201, u29_204, u29_205, u29_206, u29_209, u29_210, u29_213, u29_214, u29_216, u29_217, u29_218, u29_221, u29_222, u29_224, u29_225, u29_228, u29_231, zk_mk_1, zk_mk_I, zk_mk_R, zk_mk_set, zk_mk_setR, zk_mk_cpy, zk_rv_some, zk_rv_none, Option.toList_some, Option.toList_none, List.cons_append, List.nil_append, reduceIte, eq_self, Nat.reduceLT, Nat.reduceEqDiff, and_true, true_and, reduceCtorEq]
  exact loop1 0 I (Nat.zero_le _) ⟨fun _ _ _ _ => rfl, fun c hc => absurd hc (Nat.not_lt_zero _)⟩
