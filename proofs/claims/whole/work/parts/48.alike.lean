/-! alike by both -/
def zA_p4 (s : zP4) (what : Int32) : Int32 := if what = 0 then s.1 else if what = 1 then s.2.1 else if what = 2 then s.2.2.1 else s.2.2.2
theorem zw_012 {what : Int32} (h : 0 ≤ what ∧ what ≤ 2) : what = 0 ∨ what = 1 ∨ what = 2 := by
  obtain ⟨k, hk, rfl⟩ := zn_of (m := 3) h.1 (by rw [zn_lt1 (by decide)]; exact h.2) (by decide)
  rcases (show k = 0 ∨ k = 1 ∨ k = 2 by omega) with rfl | rfl | rfl
  · exact Or.inl rfl
  · exact Or.inr (Or.inl rfl)
  · exact Or.inr (Or.inr rfl)
theorem zfd_get {I : Nat → Nat → Int32} {s : zP4} {what : Int32} (h : zfd I s) (hw : 0 ≤ what ∧ what ≤ 3) : zk_inb what 4 = true ∧ I 27 what.toNatClampNeg = zA_p4 s what := by
  obtain ⟨b0, b1, b2, b3⟩ := zi_lit4
  obtain ⟨c0, c1, c2, c3⟩ := zi_cl4
  obtain ⟨f0, f1, f2, f3⟩ := h
  rcases zw_0123 hw with rfl | rfl | rfl | rfl
  · rw [c0, f0]; exact ⟨b0, rfl⟩
  · rw [c1, f1]; exact ⟨b1, rfl⟩
  · rw [c2, f2]; exact ⟨b2, rfl⟩
  · rw [c3, f3]; exact ⟨b3, rfl⟩
def zA_alike (I : Nat → Nat → Int32) (n : Nat) (T e : Nat → Nat) (sort what : Int32) : Int32 := if (0 ≤ sort ∧ sort ≤ 2) ∧ 0 ≤ what ∧ what ≤ 3 then zA_p4 (zpairs (zv_now I n T e) n (zv_may I n 1) (zv_may I n 2) sort (2 ^ n)) what else -2
theorem s20 {sc : zk_X} {d : Nat} {I : Nat → Nat → Int32} {tg : Option Nat} {P : Option Value → zk_M → Prop} {n t : Nat} {T e : Nat → Nat} {sort what : Int32} (hq : zj_q I n t T e)
    (K : ∀ I' : Nat → Nat → Int32, zF I I' → P (some (.int (zA_alike I n T e sort what))) (zk_mk I' tg)) : zk_R sc (d + 6) 20 0 [some (.ref (0 : Nat)), some (.int sort), some (.int what)] [] (zk_mk I tg) P := by
  obtain ⟨hj, hl, hr, ht, hx⟩ := hq
  unfold zA_alike at K
  simp only [u20_0, u20_1, u20_4, u20_5, u20_6, u20_9, u20_10, u20_13, u20_14, u20_15, u20_18, u20_20, u20_21, u20_22, u20_25, u20_26, u20_29, u20_30, u20_31, u20_34, u20_35, u20_38, u20_39, u20_42, u20_43, u20_46, u20_47, u20_50, u20_53, u20_54, u20_57, u20_58, u20_59, zk_mk_1, zk_mk_I, zk_mk_R, zk_mk_set, zk_mk_setR, zk_mk_cpy, zk_rv_some, zk_rv_none, Option.toList_some, Option.toList_none, List.cons_append, List.nil_append, reduceIte, eq_self, Nat.reduceLT, Nat.reduceEqDiff, and_true, true_and, reduceCtorEq, zsh_0]
  by_cases hw : (0 ≤ sort ∧ sort ≤ 2) ∧ 0 ≤ what ∧ what ≤ 3
  · rw [if_pos hw] at K
    rw [if_neg (Int32.not_lt.mpr hw.1.1), if_neg (Int32.not_lt.mpr hw.1.2), if_neg (Int32.not_lt.mpr hw.2.1), if_pos hw.2.2]
    refine s21 hj ht hl hx (fun I' h1 h2 h3 h4 => ?_)
    have hj' := h1.tab hj
    have em : ∀ q, zset (fun c => decide (¬ zw_sides (I' 2 c) (I' 4 c) &&& q = 0)) n = zv_may I n q := fun q => by rw [h1 2 rfl, h1 4 rfl]; rfl
    simp only [u20_0, u20_1, u20_4, u20_5, u20_6, u20_9, u20_10, u20_13, u20_14, u20_15, u20_18, u20_20, u20_21, u20_22, u20_25, u20_26, u20_29, u20_30, u20_31, u20_34, u20_35, u20_38, u20_39, u20_42, u20_43, u20_46, u20_47, u20_50, u20_53, u20_54, u20_57, u20_58, u20_59, zk_mk_1, zk_mk_I, zk_mk_R, zk_mk_set, zk_mk_setR, zk_mk_cpy, zk_rv_some, zk_rv_none, Option.toList_some, Option.toList_none, List.cons_append, List.nil_append, reduceIte, eq_self, Nat.reduceLT, Nat.reduceEqDiff, and_true, true_and, reduceCtorEq, zsh_0, zsh_1, zsh_15, zrf_0_0, zrf_0_7, zrf_0_9, s98 hj'.1 hj.2.2.1, em]
    refine s65 hj.2.2.1 h3 h4 (zset_lt _ n) (zset_lt _ n) (fun I2 g1 g2 => ?_)
    simp only [u20_0, u20_1, u20_4, u20_5, u20_6, u20_9, u20_10, u20_13, u20_14, u20_15, u20_18, u20_20, u20_21, u20_22, u20_25, u20_26, u20_29, u20_30, u20_31, u20_34, u20_35, u20_38, u20_39, u20_42, u20_43, u20_46, u20_47, u20_50, u20_53, u20_54, u20_57, u20_58, u20_59, zk_mk_1, zk_mk_I, zk_mk_R, zk_mk_set, zk_mk_setR, zk_mk_cpy, zk_rv_some, zk_rv_none, Option.toList_some, Option.toList_none, List.cons_append, List.nil_append, reduceIte, eq_self, Nat.reduceLT, Nat.reduceEqDiff, and_true, true_and, reduceCtorEq, zsh_0, zsh_27, zrf_0_9]
    obtain ⟨v1, v2⟩ := zfd_get g2 hw.2
    rw [v2]
    exact ⟨v1, K I2 (h1.trans (fun j hj => g1 j (by have := zKp_no hj; omega)))⟩
  · rw [if_neg hw] at K
    have K2 := K I (zF_refl I)
    split
    · exact K2
    · next q1 =>
      split
      · exact K2
      · next q2 =>
        split
        · exact K2
        · next q3 =>
          rw [if_neg (fun q => hw ⟨⟨Int32.not_lt.mp q1, Int32.not_lt.mp q2⟩, Int32.not_lt.mp q3, q⟩)]
          exact K2
theorem s169 {sc : zk_X} {d : Nat} {I : Nat → Nat → Int32} {tg : Option Nat} {P : Option Value → zk_M → Prop} {n a b : Nat} {f : Nat → Int32} {sort : Int32} (h10 : n ≤ 10) (hs : zv_rows I 78 79 f n) (ha : a < 2 ^ n) (hb : b < 2 ^ n) (ha0 : ¬ a = 0) (hb0 : ¬ b = 0) (hsort : 0 ≤ sort ∧ sort ≤ 2) : zk_R sc (d + 1) 169 0 [some (.ref (60 : Nat)), some (.int (nI a)), some (.int (nI b)), some (.int sort), none] [] (zk_mk I tg) P = P (some (.int (zb (b &&& a = 0 ∧ zsum f a n = zsum f b n ∧ zsrt f n sort a b = true)))) (zk_mk I tg) := by
  have p10 := zp_10 h10
  have z1 : zk_inb (nI a) 1024 = true := by rw [zn_in (by omega)]; omega
  have z2 : (nI a).toNatClampNeg = a := zn_cl (by omega)
  have z3 : zk_inb (nI b) 1024 = true := by rw [zn_in (by omega)]; omega
  have z4 : (nI b).toNatClampNeg = b := zn_cl (by omega)
  have hab : b &&& a < 2147483648 := by have := Nat.and_le_left (n := b) (m := a); omega
  have y0 : (nI a = 0) = (a = 0) := zn_eq (b := 0) (by omega) (by decide)
  have y1 : (nI b = 0) = (b = 0) := zn_eq (b := 0) (by omega) (by decide)
  have y2 : (nI (b &&& a) = 0) = (b &&& a = 0) := zn_eq (b := 0) hab (by decide)
  have y3 : (nI (zones a 12) = nI (zones b 12)) = (zones a 12 = zones b 12) := zn_eq (by have := zones_le a 12; omega) (by have := zones_le b 12; omega)
  have e1 : I 79 a = zsum (zsq f) a n := (hs a ha).2
  have e2 : I 79 b = zsum (zsq f) b n := (hs b hb).2
  simp only [u169_0, u169_1, u169_4, u169_5, u169_8, u169_9, u169_10, u169_11, u169_14, u169_15, u169_18, u169_19, u169_20, u169_21, u169_24, u169_25, u169_26, u169_29, u169_30, u169_33, u169_34, u169_36, u169_38, u169_41, u169_42, u169_43, u169_46, u169_47, u169_50, u169_51, u169_54, u169_57, u169_58, u169_59, u169_62, u169_63, u169_66, u169_67, u169_68, u169_69, u169_72, u169_73, u169_74, u169_77, u169_78, u169_81, u169_82, zk_mk_1, zk_mk_I, zk_mk_R, zk_mk_set, zk_mk_setR, zk_mk_cpy, zk_rv_some, zk_rv_none, Option.toList_some, Option.toList_none, List.cons_append, List.nil_append, reduceIte, eq_self, Nat.reduceLT, Nat.reduceEqDiff, and_true, true_and, reduceCtorEq, zsh_60, zsh_78, zsh_79, zrf_60_31, zrf_60_32, z1, z2, z3, z4, s163 (show a < 2147483648 by omega), s163 (show b < 2147483648 by omega), zq_and, Nat.and_comm a b, y0, y1, y2, y3, e1, e2, (hs a ha).1, (hs b hb).1, true_or, or_true]
  rw [if_neg ha0, if_neg hb0]
  by_cases k1 : b &&& a = 0
  · rw [if_pos k1]
    by_cases k2 : zsum f a n = zsum f b n
    · rw [if_pos k2]
      simp only [show ((1 : Int32) = 0) = False from by decide, reduceIte]
      unfold zsrt
      rcases zw_012 hsort with rfl | rfl | rfl
      · simp only [show ((0 : Int32) = 1) = False from by decide, show ((0 : Int32) = 2) = False from by decide, reduceIte]
        rw [zb_t (by simp [k1, k2])]
      · simp only [show ((1 : Int32) = 2) = False from by decide, reduceIte]
        by_cases k3 : zones a 12 = zones b 12
        · rw [if_pos k3, zb_t (by simp [k1, k2, k3])]
        · rw [if_neg k3, zb_f (by simp [k1, k2, k3]; try decide)]
      · simp only [show ((2 : Int32) = 1) = False from by decide, reduceIte]
        by_cases k3 : zsum (zsq f) a n = zsum (zsq f) b n
        · rw [if_pos k3, zb_t (by simp [k1, k2, k3])]
        · rw [if_neg k3, zb_f (by simp [k1, k2, k3]; try decide)]
    · rw [if_neg k2, zb_f (fun q => k2 q.2.1)] <;> simp only [reduceIte]
  · rw [if_neg k1, zb_f (fun q => k1 q.1)] <;> simp only [reduceIte]
theorem zpi_y {f : Nat → Int32} {n R a b : Nat} {sort : Int32} {s : zP4} (h : ¬ b = 0 ∧ zdf b (zdf R a) = 0 ∧ zsum f a n = zsum f b n ∧ zsrt f n sort a b = true) : zpi f n R sort a b s = zpr a b s := if_pos h
theorem zpi_n {f : Nat → Int32} {n R a b : Nat} {sort : Int32} {s : zP4} (h : ¬ (¬ b = 0 ∧ zdf b (zdf R a) = 0 ∧ zsum f a n = zsum f b n ∧ zsrt f n sort a b = true)) : zpi f n R sort a b s = s := if_neg h
theorem s167 {sc : zk_X} {d : Nat} {I : Nat → Nat → Int32} {tg : Option Nat} {P : Option Value → zk_M → Prop} {n t : Nat} {T e : Nat → Nat} {sort what : Int32} (hq : zj_q I n t T e)
    (K : ∀ I' : Nat → Nat → Int32, zF I I' → P (some (.int (zA_alike I n T e sort what))) (zk_mk I' tg)) : zk_R sc (d + 6) 167 0 [some (.ref (60 : Nat)), some (.int sort), some (.int what), none, none, none, none, none, none, none, none] [] (zk_mk I tg) P := by
  obtain ⟨hj, hl, hr, ht, hx⟩ := hq
  have h10 := hj.2.2.1
  have p10 := zp_10 h10
  unfold zA_alike at K
  simp only [u167_0, u167_1, u167_2, u167_3, u167_6, u167_9, u167_10, u167_11, u167_12, u167_15, u167_18, u167_20, u167_21, u167_22, u167_25, u167_26, u167_27, u167_30, u167_31, u167_32, u167_33, u167_36, u167_38, u167_39, u167_41, u167_42, u167_44, u167_45, u167_47, u167_48, u167_50, u167_51, u167_55, u167_56, u167_59, u167_62, u167_63, u167_67, u167_68, u167_71, u167_74, u167_76, u167_77, u167_78, u167_79, u167_80, u167_83, u167_85, u167_87, u167_88, u167_89, u167_90, u167_93, u167_94, u167_96, u167_98, u167_99, u167_102, u167_105, u167_107, u167_110, u167_112, u167_115, u167_117, u167_119, u167_121, u167_124, u167_126, u167_129, u167_131, u167_133, u167_135, u167_137, u167_138, u167_141, u167_143, u167_146, u167_148, u167_150, u167_151, u167_154, u167_157, u167_159, u167_161, u167_164, u167_167, u167_170, u167_173, u167_176, u167_177, u167_180, u167_182, u167_185, u167_186, u167_187, u167_190, u167_192, u167_195, u167_196, u167_197, u167_200, u167_202, u167_205, u167_207, zk_mk_1, zk_mk_I, zk_mk_R, zk_mk_set, zk_mk_setR, zk_mk_cpy, zk_rv_some, zk_rv_none, Option.toList_some, Option.toList_none, List.cons_append, List.nil_append, reduceIte, eq_self, Nat.reduceLT, Nat.reduceEqDiff, and_true, true_and, reduceCtorEq, zsh_60, s129, zb_z]
  by_cases hw1 : 0 ≤ sort ∧ sort ≤ 2
  · rw [if_neg (fun q => q hw1)]
    by_cases hw2 : 0 ≤ what ∧ what ≤ 3
    · rw [if_neg (fun q => q hw2)]
      rw [if_pos ⟨hw1, hw2⟩] at K
      refine s162 hj ht hr hx (fun I' h1 h2 h3 => ?_)
      have hj' := h1.tab hj
      have hn' : I' 60 0 = nI n := hj'.2.1
      have eall : (1 : Int32) <<< (nI n &&& 31) - 1 = nI (2 ^ n - 1) := by rw [zq_all h10]; exact zn_sub (b := 1) (by omega)
      have K2 := K I' h1
      have em : ∀ q, zset (fun c => decide (¬ zw_sides (I' 61 c) (I' 63 c) &&& q = 0)) n = zv_may I n q := fun q => (zv_may_m hj').trans h1.may
      have em1 := em 1
      have em2 := em 2
      clear em
      have hL : zv_may I n 1 < 2 ^ n := zset_lt _ n
      have hR : zv_may I n 2 < 2 ^ n := zset_lt _ n
      generalize zv_now I n T e = f at *
      generalize zv_may I n 1 = L at *
      generalize zv_may I n 2 = R at *
      have loop := zl_up (τ := zP4 × Option Value) (fun a q => zk_R sc (d + 6) 167 53 [some (.ref (60 : Nat)), some (.int sort), some (.int what), some (.int (nI L)), some (.int (nI R)), some (.int q.1.1), some (.int q.1.2.1), some (.int q.1.2.2.1), some (.int q.1.2.2.2), some (.int (nI a)), q.2] [] (zk_mk I' tg) P)
        (fun a q => 1 ≤ a ∧ q.1 = zpairs f n L R sort a) (2 ^ n) (by
          rintro ⟨s, x⟩ ⟨h0, hs⟩
          have hs' : s = zpairs f n L R sort (2 ^ n) := hs
          rw [← hs'] at K2
          show zk_R sc (d + 6) 167 53 [some (.ref (60 : Nat)), some (.int sort), some (.int what), some (.int (nI L)), some (.int (nI R)), some (.int s.1), some (.int s.2.1), some (.int s.2.2.1), some (.int s.2.2.2), some (.int (nI (2 ^ n))), x] [] (zk_mk I' tg) P
          have hcond : nI (2 ^ n - 1) < nI (2 ^ n) := by rw [zn_lt (by omega) (by omega)]; omega
          have hcond2 : ¬ nI (2 ^ n) ≤ nI (2 ^ n - 1) := Int32.not_le.mpr hcond
          unfold zA_p4 at K2
          rw [u167_53]
          simp only [u167_0, u167_1, u167_2, u167_3, u167_6, u167_9, u167_10, u167_11, u167_12, u167_15, u167_18, u167_20, u167_21, u167_22, u167_25, u167_26, u167_27, u167_30, u167_31, u167_32, u167_33, u167_36, u167_38, u167_39, u167_41, u167_42, u167_44, u167_45, u167_47, u167_48, u167_50, u167_51, u167_55, u167_56, u167_59, u167_62, u167_63, u167_67, u167_68, u167_71, u167_74, u167_76, u167_77, u167_78, u167_79, u167_80, u167_83, u167_85, u167_87, u167_88, u167_89, u167_90, u167_93, u167_94, u167_96, u167_98, u167_99, u167_102, u167_105, u167_107, u167_110, u167_112, u167_115, u167_117, u167_119, u167_121, u167_124, u167_126, u167_129, u167_131, u167_133, u167_135, u167_137, u167_138, u167_141, u167_143, u167_146, u167_148, u167_150, u167_151, u167_154, u167_157, u167_159, u167_161, u167_164, u167_167, u167_170, u167_173, u167_176, u167_177, u167_180, u167_182, u167_185, u167_186, u167_187, u167_190, u167_192, u167_195, u167_196, u167_197, u167_200, u167_202, u167_205, u167_207, zk_mk_1, zk_mk_I, zk_mk_R, zk_mk_set, zk_mk_setR, zk_mk_cpy, zk_rv_some, zk_rv_none, Option.toList_some, Option.toList_none, List.cons_append, List.nil_append, reduceIte, eq_self, Nat.reduceLT, Nat.reduceEqDiff, and_true, true_and, reduceCtorEq, zsh_60, s161, hn', eall, hcond, hcond2]
          by_cases w0 : what = 0
          · rw [if_pos w0] at K2 ⊢; exact K2
          · rw [if_neg w0] at K2 ⊢
            by_cases w1 : what = 1
            · rw [if_pos w1] at K2 ⊢; exact K2
            · rw [if_neg w1] at K2 ⊢
              by_cases w2 : what = 2
              · rw [if_pos w2] at K2 ⊢; exact K2
              · rw [if_neg w2] at K2 ⊢; exact K2) (by
          rintro a ⟨s, x⟩ ha ⟨h0, hs⟩ ih
          have h0' : 1 ≤ a := h0
          have hs' : s = zpairs f n L R sort a := hs
          have ek : zpairs f n L R sort (a + 1) = zpo f n L R sort a s := by rw [hs']; rfl
          show zk_R sc (d + 6) 167 53 [some (.ref (60 : Nat)), some (.int sort), some (.int what), some (.int (nI L)), some (.int (nI R)), some (.int s.1), some (.int s.2.1), some (.int s.2.2.1), some (.int s.2.2.2), some (.int (nI a)), x] [] (zk_mk I' tg) P
          have hcond : ¬ nI (2 ^ n - 1) < nI a := by rw [zn_lt (by omega) (by omega)]; omega
          have hcond2 : nI a ≤ nI (2 ^ n - 1) := Int32.not_lt.mp hcond
          have hl : zdf a L < 2 ^ n := zdf_lt ha
          have y1 : (nI (zdf a L) = 0) = (zdf a L = 0) := zn_eq (b := 0) (by omega) (by decide)
          have out : ∀ s2 y, s2 = zpairs f n L R sort (a + 1) → zk_R sc (d + 6) 167 53 [some (.ref (60 : Nat)), some (.int sort), some (.int what), some (.int (nI L)), some (.int (nI R)), some (.int s2.1), some (.int s2.2.1), some (.int s2.2.2.1), some (.int s2.2.2.2), some (.int (nI (a + 1))), y] [] (zk_mk I' tg) P := fun s2 y h => ih (s2, y) ⟨by omega, h⟩
          have inner : ∀ b s2, b ≤ 2 ^ n → (1 ≤ b ∧ zdf a L = 0 ∧ s2 = zfor (zpi f n R sort a) s b) → zk_R sc (d + 6) 167 65 [some (.ref (60 : Nat)), some (.int sort), some (.int what), some (.int (nI L)), some (.int (nI R)), some (.int s2.1), some (.int s2.2.1), some (.int s2.2.2.1), some (.int s2.2.2.2), some (.int (nI a)), some (.int (nI b))] [] (zk_mk I' tg) P :=
            zl_up (τ := zP4) (fun b s2 => zk_R sc (d + 6) 167 65 [some (.ref (60 : Nat)), some (.int sort), some (.int what), some (.int (nI L)), some (.int (nI R)), some (.int s2.1), some (.int s2.2.1), some (.int s2.2.2.1), some (.int s2.2.2.2), some (.int (nI a)), some (.int (nI b))] [] (zk_mk I' tg) P)
            (fun b s2 => 1 ≤ b ∧ zdf a L = 0 ∧ s2 = zfor (zpi f n R sort a) s b) (2 ^ n) (by
              rintro s2 ⟨g0, g1, g2⟩
              have hcond : nI (2 ^ n - 1) < nI (2 ^ n) := by rw [zn_lt (by omega) (by omega)]; omega
              have hcond2 : ¬ nI (2 ^ n) ≤ nI (2 ^ n - 1) := Int32.not_le.mpr hcond
              rw [u167_65]
              simp only [u167_0, u167_1, u167_2, u167_3, u167_6, u167_9, u167_10, u167_11, u167_12, u167_15, u167_18, u167_20, u167_21, u167_22, u167_25, u167_26, u167_27, u167_30, u167_31, u167_32, u167_33, u167_36, u167_38, u167_39, u167_41, u167_42, u167_44, u167_45, u167_47, u167_48, u167_50, u167_51, u167_55, u167_56, u167_59, u167_62, u167_63, u167_67, u167_68, u167_71, u167_74, u167_76, u167_77, u167_78, u167_79, u167_80, u167_83, u167_85, u167_87, u167_88, u167_89, u167_90, u167_93, u167_94, u167_96, u167_98, u167_99, u167_102, u167_105, u167_107, u167_110, u167_112, u167_115, u167_117, u167_119, u167_121, u167_124, u167_126, u167_129, u167_131, u167_133, u167_135, u167_137, u167_138, u167_141, u167_143, u167_146, u167_148, u167_150, u167_151, u167_154, u167_157, u167_159, u167_161, u167_164, u167_167, u167_170, u167_173, u167_176, u167_177, u167_180, u167_182, u167_185, u167_186, u167_187, u167_190, u167_192, u167_195, u167_196, u167_197, u167_200, u167_202, u167_205, u167_207, zk_mk_1, zk_mk_I, zk_mk_R, zk_mk_set, zk_mk_setR, zk_mk_cpy, zk_rv_some, zk_rv_none, Option.toList_some, Option.toList_none, List.cons_append, List.nil_append, reduceIte, eq_self, Nat.reduceLT, Nat.reduceEqDiff, and_true, true_and, reduceCtorEq, zsh_60, s161, hn', eall, hcond, hcond2, nI_1]
              refine out s2 _ ?_
              rw [ek, g2]
              unfold zpo
              rw [if_pos ⟨by omega, g1⟩]) (by
              rintro b s2 hb ⟨g0, g1, g2⟩ ih2
              have hcond : ¬ nI (2 ^ n - 1) < nI b := by rw [zn_lt (by omega) (by omega)]; omega
              have hcond2 : nI b ≤ nI (2 ^ n - 1) := Int32.not_lt.mp hcond
              have hbr : zdf b R < 2 ^ n := zdf_lt hb
              have y2 : (nI (zdf b R) = 0) = (zdf b R = 0) := zn_eq (b := 0) (by omega) (by decide)
              have hor := zor_lt ha hb
              rw [u167_65]
              simp only [u167_0, u167_1, u167_2, u167_3, u167_6, u167_9, u167_10, u167_11, u167_12, u167_15, u167_18, u167_20, u167_21, u167_22, u167_25, u167_26, u167_27, u167_30, u167_31, u167_32, u167_33, u167_36, u167_38, u167_39, u167_41, u167_42, u167_44, u167_45, u167_47, u167_48, u167_50, u167_51, u167_55, u167_56, u167_59, u167_62, u167_63, u167_67, u167_68, u167_71, u167_74, u167_76, u167_77, u167_78, u167_79, u167_80, u167_83, u167_85, u167_87, u167_88, u167_89, u167_90, u167_93, u167_94, u167_96, u167_98, u167_99, u167_102, u167_105, u167_107, u167_110, u167_112, u167_115, u167_117, u167_119, u167_121, u167_124, u167_126, u167_129, u167_131, u167_133, u167_135, u167_137, u167_138, u167_141, u167_143, u167_146, u167_148, u167_150, u167_151, u167_154, u167_157, u167_159, u167_161, u167_164, u167_167, u167_170, u167_173, u167_176, u167_177, u167_180, u167_182, u167_185, u167_186, u167_187, u167_190, u167_192, u167_195, u167_196, u167_197, u167_200, u167_202, u167_205, u167_207, zk_mk_1, zk_mk_I, zk_mk_R, zk_mk_set, zk_mk_setR, zk_mk_cpy, zk_rv_some, zk_rv_none, Option.toList_some, Option.toList_none, List.cons_append, List.nil_append, reduceIte, eq_self, Nat.reduceLT, Nat.reduceEqDiff, and_true, true_and, reduceCtorEq, zsh_60, s161, hn', eall, hcond, hcond2, zq_andn, y1, y2, s169 h10 h3 ha hb (by omega) (by omega) hw1, zb_z, zq_or, s163 (show a ||| b < 2147483648 by omega), nI_1]
              have no : (¬ (¬ b = 0 ∧ zdf b (zdf R a) = 0 ∧ zsum f a n = zsum f b n ∧ zsrt f n sort a b = true)) → zk_R sc (d + 6) 167 65 [some (.ref (60 : Nat)), some (.int sort), some (.int what), some (.int (nI L)), some (.int (nI R)), some (.int s2.1), some (.int s2.2.1), some (.int s2.2.2.1), some (.int s2.2.2.2), some (.int (nI a)), some (.int (nI (b + 1)))] [] (zk_mk I' tg) P := by
                intro hq
                refine ih2 s2 ⟨by omega, g1, ?_⟩
                show s2 = zpi f n R sort a b (zfor (zpi f n R sort a) s b)
                rw [zpi_n hq]; exact g2
              rw [if_pos g1]
              have hz : zdf b (zdf R a) = 0 ↔ zdf b R = 0 ∧ b &&& a = 0 := zle_df
              by_cases k1 : zdf b R = 0
              · rw [if_pos k1]
                by_cases k2 : b &&& a = 0 ∧ zsum f a n = zsum f b n ∧ zsrt f n sort a b = true
                · rw [if_neg (fun q => q k2)]
                  have ih3 := ih2 (zpr a b s2) ⟨by omega, g1, by
                    show zpr a b s2 = zpi f n R sort a b (zfor (zpi f n R sort a) s b)
                    rw [zpi_y ⟨by omega, hz.mpr ⟨k1, k2.1⟩, k2.2⟩, g2]⟩
                  unfold zpr at ih3
                  by_cases m0 : s2.1 = 0
                  · simp only [m0, reduceIte] at ih3 ⊢
                    by_cases m1 : s2.2.2.2 < nI (zones (a ||| b) 12)
                    · rw [if_pos m1] at ih3
                      first | rw [if_pos m1] | rw [if_neg (Int32.not_le.mpr m1)]
                      exact ih3
                    · rw [if_neg m1] at ih3
                      first | rw [if_neg m1] | rw [if_pos (Int32.not_lt.mp m1)]
                      exact ih3
                  · simp only [m0, reduceIte] at ih3 ⊢
                    by_cases m1 : s2.2.2.2 < nI (zones (a ||| b) 12)
                    · rw [if_pos m1] at ih3
                      first | rw [if_pos m1] | rw [if_neg (Int32.not_le.mpr m1)]
                      exact ih3
                    · rw [if_neg m1] at ih3
                      first | rw [if_neg m1] | rw [if_pos (Int32.not_lt.mp m1)]
                      exact ih3
                · rw [if_pos k2]
                  exact no (fun q => k2 ⟨(hz.mp q.2.1).2, q.2.2⟩)
              · rw [if_neg k1]
                exact no (fun q => k1 (hz.mp q.2.1).1))
          rw [u167_53]
          simp only [u167_0, u167_1, u167_2, u167_3, u167_6, u167_9, u167_10, u167_11, u167_12, u167_15, u167_18, u167_20, u167_21, u167_22, u167_25, u167_26, u167_27, u167_30, u167_31, u167_32, u167_33, u167_36, u167_38, u167_39, u167_41, u167_42, u167_44, u167_45, u167_47, u167_48, u167_50, u167_51, u167_55, u167_56, u167_59, u167_62, u167_63, u167_67, u167_68, u167_71, u167_74, u167_76, u167_77, u167_78, u167_79, u167_80, u167_83, u167_85, u167_87, u167_88, u167_89, u167_90, u167_93, u167_94, u167_96, u167_98, u167_99, u167_102, u167_105, u167_107, u167_110, u167_112, u167_115, u167_117, u167_119, u167_121, u167_124, u167_126, u167_129, u167_131, u167_133, u167_135, u167_137, u167_138, u167_141, u167_143, u167_146, u167_148, u167_150, u167_151, u167_154, u167_157, u167_159, u167_161, u167_164, u167_167, u167_170, u167_173, u167_176, u167_177, u167_180, u167_182, u167_185, u167_186, u167_187, u167_190, u167_192, u167_195, u167_196, u167_197, u167_200, u167_202, u167_205, u167_207, zk_mk_1, zk_mk_I, zk_mk_R, zk_mk_set, zk_mk_setR, zk_mk_cpy, zk_rv_some, zk_rv_none, Option.toList_some, Option.toList_none, List.cons_append, List.nil_append, reduceIte, eq_self, Nat.reduceLT, Nat.reduceEqDiff, and_true, true_and, reduceCtorEq, zsh_60, s161, hn', eall, hcond, hcond2]
          by_cases hla : zdf a L = 0
          · refine inner 1 s p10.1 ⟨Nat.le_refl _, hla, ?_⟩
            show s = zpi f n R sort a 0 s
            unfold zpi
            rw [if_neg (fun q => q.1 rfl)]
          · rw [show (1 : Int32) = nI 1 from rfl, u167_65]
            simp only [u167_0, u167_1, u167_2, u167_3, u167_6, u167_9, u167_10, u167_11, u167_12, u167_15, u167_18, u167_20, u167_21, u167_22, u167_25, u167_26, u167_27, u167_30, u167_31, u167_32, u167_33, u167_36, u167_38, u167_39, u167_41, u167_42, u167_44, u167_45, u167_47, u167_48, u167_50, u167_51, u167_55, u167_56, u167_59, u167_62, u167_63, u167_67, u167_68, u167_71, u167_74, u167_76, u167_77, u167_78, u167_79, u167_80, u167_83, u167_85, u167_87, u167_88, u167_89, u167_90, u167_93, u167_94, u167_96, u167_98, u167_99, u167_102, u167_105, u167_107, u167_110, u167_112, u167_115, u167_117, u167_119, u167_121, u167_124, u167_126, u167_129, u167_131, u167_133, u167_135, u167_137, u167_138, u167_141, u167_143, u167_146, u167_148, u167_150, u167_151, u167_154, u167_157, u167_159, u167_161, u167_164, u167_167, u167_170, u167_173, u167_176, u167_177, u167_180, u167_182, u167_185, u167_186, u167_187, u167_190, u167_192, u167_195, u167_196, u167_197, u167_200, u167_202, u167_205, u167_207, zk_mk_1, zk_mk_I, zk_mk_R, zk_mk_set, zk_mk_setR, zk_mk_cpy, zk_rv_some, zk_rv_none, Option.toList_some, Option.toList_none, List.cons_append, List.nil_append, reduceIte, eq_self, Nat.reduceLT, Nat.reduceEqDiff, and_true, true_and, reduceCtorEq, zsh_60, s161, hn', eall, zq_andn, y1, hla]
            have := out s (some (.int (nI 1))) (by
              rw [ek]
              unfold zpo
              rw [if_neg (fun q => hla q.2)])
            rw [nI_1]
            split <;> exact this)
      simp only [u167_0, u167_1, u167_2, u167_3, u167_6, u167_9, u167_10, u167_11, u167_12, u167_15, u167_18, u167_20, u167_21, u167_22, u167_25, u167_26, u167_27, u167_30, u167_31, u167_32, u167_33, u167_36, u167_38, u167_39, u167_41, u167_42, u167_44, u167_45, u167_47, u167_48, u167_50, u167_51, u167_55, u167_56, u167_59, u167_62, u167_63, u167_67, u167_68, u167_71, u167_74, u167_76, u167_77, u167_78, u167_79, u167_80, u167_83, u167_85, u167_87, u167_88, u167_89, u167_90, u167_93, u167_94, u167_96, u167_98, u167_99, u167_102, u167_105, u167_107, u167_110, u167_112, u167_115, u167_117, u167_119, u167_121, u167_124, u167_126, u167_129, u167_131, u167_133, u167_135, u167_137, u167_138, u167_141, u167_143, u167_146, u167_148, u167_150, u167_151, u167_154, u167_157, u167_159, u167_161, u167_164, u167_167, u167_170, u167_173, u167_176, u167_177, u167_180, u167_182, u167_185, u167_186, u167_187, u167_190, u167_192, u167_195, u167_196, u167_197, u167_200, u167_202, u167_205, u167_207, zk_mk_1, zk_mk_I, zk_mk_R, zk_mk_set, zk_mk_setR, zk_mk_cpy, zk_rv_some, zk_rv_none, Option.toList_some, Option.toList_none, List.cons_append, List.nil_append, reduceIte, eq_self, Nat.reduceLT, Nat.reduceEqDiff, and_true, true_and, reduceCtorEq, zsh_60, s168 hn' h10, em1, em2]
      refine loop 1 ((0, -1, -1, 0), none) p10.1 ⟨Nat.le_refl _, ?_⟩
      show _ = zpo f n L R sort 0 _
      unfold zpo
      rw [if_neg (fun q => q.1 rfl)]
      rfl
    · rw [if_pos hw2]
      rw [if_neg (fun q => hw2 q.2)] at K
      exact K I (zF_refl I)
  · rw [if_pos hw1]
    rw [if_neg (fun q => hw1 q.1)] at K
    exact K I (zF_refl I)
