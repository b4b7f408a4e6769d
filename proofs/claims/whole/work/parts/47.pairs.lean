/-! alike: the pairs -/
theorem zle_df {b R a : Nat} : zle b (zdf R a) ↔ zle b R ∧ b &&& a = 0 := by
  rw [zle_iff, zle_iff]
  constructor
  · intro h
    refine ⟨fun i hi => ?_, ?_⟩
    · have := h i hi
      rw [zdf_bit, Bool.and_eq_true] at this
      exact this.1
    · apply Nat.eq_of_testBit_eq
      intro i
      rw [Nat.testBit_and, Nat.zero_testBit]
      cases hb : b.testBit i with
      | false => rfl
      | true =>
        have := h i hb
        rw [zdf_bit, Bool.and_eq_true, Bool.not_eq_true'] at this
        rw [this.2]; rfl
  · rintro ⟨h1, h2⟩ i hi
    rw [zdf_bit, h1 i hi]
    have := congrArg (fun z => z.testBit i) h2
    simp only [Nat.testBit_and, Nat.zero_testBit, hi, Bool.true_and] at this
    rw [this]; rfl
def zP4 : Type := Int32 × Int32 × Int32 × Int32
def zsq (f : Nat → Int32) : Nat → Int32 := fun c => f c * f c
def zsrt (f : Nat → Int32) (n : Nat) (sort : Int32) (a b : Nat) : Bool := decide (sort = 0) || (decide (sort = 1) && decide (zones a 12 = zones b 12) || decide (sort = 2) && decide (zsum (zsq f) a n = zsum (zsq f) b n))
def zpr (a b : Nat) (s : zP4) : zP4 := (s.1 + 1, if s.1 = 0 then nI a else s.2.1, if s.1 = 0 then nI b else s.2.2.1, if s.2.2.2 < nI (zones (a ||| b) 12) then nI (zones (a ||| b) 12) else s.2.2.2)
def zpi (f : Nat → Int32) (n R : Nat) (sort : Int32) (a b : Nat) (s : zP4) : zP4 := if ¬ b = 0 ∧ zdf b (zdf R a) = 0 ∧ zsum f a n = zsum f b n ∧ zsrt f n sort a b = true then zpr a b s else s
def zpo (f : Nat → Int32) (n L R : Nat) (sort : Int32) (a : Nat) (s : zP4) : zP4 := if ¬ a = 0 ∧ zdf a L = 0 then zfor (zpi f n R sort a) s (2 ^ n) else s
def zpairs (f : Nat → Int32) (n L R : Nat) (sort : Int32) (m : Nat) : zP4 := zfor (zpo f n L R sort) ((0, -1, -1, 0) : zP4) m
def zfd (I : Nat → Nat → Int32) (s : zP4) : Prop := I 27 0 = s.1 ∧ I 27 1 = s.2.1 ∧ I 27 2 = s.2.2.1 ∧ I 27 3 = s.2.2.2
theorem zp_1 {x : Int32} : (x + 1 = 1) = (x = 0) := by
  apply propext
  constructor
  · intro h
    have := congrArg (fun z => z - 1) h
    simpa using this
  · intro h; rw [h]; rfl
theorem s68 {sc : zk_X} {d : Nat} {I : Nat → Nat → Int32} {tg : Option Nat} {P : Option Value → zk_M → Prop} {a b : Nat} {s : zP4} (hab : a ||| b < 1024) (hf : zfd I s)
    (K : ∀ I' : Nat → Nat → Int32, (∀ j, j ≠ 27 → I' j = I j) → zfd I' (zpr a b s) → P none (zk_mk I' tg)) : zk_R sc (d + 1) 68 0 [some (.int (nI a)), some (.int (nI b)), some (.ref (27 : Nat))] [] (zk_mk I tg) P := by
  obtain ⟨b0, b1, b2, b3⟩ := zi_lit4
  obtain ⟨c0, c1, c2, c3⟩ := zi_cl4
  obtain ⟨f0, f1, f2, f3⟩ := hf
  unfold zfd zpr at K
  simp only [u68_0, u68_1, u68_2, u68_3, u68_4, u68_5, u68_6, u68_7, u68_8, u68_9, u68_10, u68_11, u68_14, u68_15, u68_16, u68_17, u68_18, u68_19, u68_20, u68_21, u68_22, u68_23, u68_24, u68_25, u68_26, u68_27, u68_28, u68_29, u68_30, u68_33, u68_36, u68_37, zk_mk_1, zk_mk_I, zk_mk_R, zk_mk_set, zk_mk_setR, zk_mk_cpy, zk_rv_some, zk_rv_none, Option.toList_some, Option.toList_none, List.cons_append, List.nil_append, reduceIte, eq_self, Nat.reduceLT, Nat.reduceEqDiff, and_true, true_and, reduceCtorEq, zsh_27, b0, b1, b2, b3, c0, c1, c2, c3, f0, f1, f2, f3, zk_up2_s, zk_up2_j (show (3 : Nat) ≠ 0 by decide), zk_up2_j (show (3 : Nat) ≠ 1 by decide), zk_up2_j (show (3 : Nat) ≠ 2 by decide), zp_1, zq_or, s218 hab]
  by_cases h0 : s.1 = 0
  · rw [if_pos h0]
    simp only [h0, reduceIte] at K
    refine K _ (fun j hj => ?_) ⟨?_, ?_, ?_, ?_⟩
    · rw [zk_up2_r hj, zk_up2_r hj, zk_up2_r hj, zk_up2_r hj]
    · rw [zk_up2_j (by decide), zk_up2_j (by decide), zk_up2_j (by decide), zk_up2_s, h0]
    · rw [zk_up2_j (by decide), zk_up2_j (by decide), zk_up2_s]
    · rw [zk_up2_j (by decide), zk_up2_s]
    · rw [zk_up2_s]
  · rw [if_neg h0]
    simp only [h0, reduceIte] at K
    refine K _ (fun j hj => ?_) ⟨?_, ?_, ?_, ?_⟩
    · rw [zk_up2_r hj, zk_up2_r hj]
    · rw [zk_up2_j (by decide), zk_up2_s]
    · rw [zk_up2_j (by decide), zk_up2_j (by decide), f1]
    · rw [zk_up2_j (by decide), zk_up2_j (by decide), f2]
    · rw [zk_up2_s]
theorem s67 {sc : zk_X} {d : Nat} {I : Nat → Nat → Int32} {tg : Option Nat} {P : Option Value → zk_M → Prop} {n a b : Nat} {f : Nat → Int32} {sort : Int32} (h10 : n ≤ 10) (hs : zv_rows I 18 19 f n) (ha : a < 2 ^ n) (hb : b < 2 ^ n) : zk_R sc (d + 1) 67 0 [some (.ref (15 : Nat)), some (.int sort), some (.int (nI a)), some (.int (nI b))] [] (zk_mk I tg) P = P (some (.int (zb (zsrt f n sort a b = true)))) (zk_mk I tg) := by
  have p10 := zp_10 h10
  have z1 : zk_inb (nI a) 1024 = true := by rw [zn_in (by omega)]; omega
  have z2 : (nI a).toNatClampNeg = a := zn_cl (by omega)
  have z3 : zk_inb (nI b) 1024 = true := by rw [zn_in (by omega)]; omega
  have z4 : (nI b).toNatClampNeg = b := zn_cl (by omega)
  have y3 : (nI (zones a 12) = nI (zones b 12)) = (zones a 12 = zones b 12) := zn_eq (by have := zones_le a 12; omega) (by have := zones_le b 12; omega)
  have e1 : I 19 a = zsum (zsq f) a n := (hs a ha).2
  have e2 : I 19 b = zsum (zsq f) b n := (hs b hb).2
  simp only [u67_0, u67_1, u67_4, u67_5, u67_6, u67_9, u67_10, u67_13, u67_14, u67_17, u67_20, u67_21, u67_22, u67_25, u67_26, u67_29, u67_30, u67_31, u67_32, u67_35, u67_36, u67_37, u67_40, u67_41, u67_44, u67_45, zk_mk_1, zk_mk_I, zk_mk_R, zk_mk_set, zk_mk_setR, zk_mk_cpy, zk_rv_some, zk_rv_none, Option.toList_some, Option.toList_none, List.cons_append, List.nil_append, reduceIte, eq_self, Nat.reduceLT, Nat.reduceEqDiff, and_true, true_and, reduceCtorEq, zsh_15, zsh_19, zrf_15_4, z1, z2, z3, z4, s218 (show a < 1024 by omega), s218 (show b < 1024 by omega), y3, e1, e2, true_or, or_true]
  unfold zsrt
  by_cases c0 : sort = 0
  · rw [if_pos c0, zb_t (by simp [c0])]
  · rw [if_neg c0]
    by_cases c1 : sort = 1
    · rw [if_pos c1]
      have c2 : ¬ sort = 2 := by rw [c1]; decide
      rw [if_neg c2]
      by_cases c3 : zones a 12 = zones b 12
      · rw [if_pos c3, zb_t (by simp [c1, c3])]
      · rw [if_neg c3, zb_f (by simp [c0, c2, c3])]
    · rw [if_neg c1]
      by_cases c2 : sort = 2
      · rw [if_pos c2]
        by_cases c3 : zsum (zsq f) a n = zsum (zsq f) b n
        · rw [if_pos c3, zb_t (by simp [c2, c3])]
        · rw [if_neg c3, zb_f (by simp [c0, c1, c3])]
      · rw [if_neg c2, zb_f (by simp [c0, c1, c2])]
theorem zor_lt {a b n : Nat} (ha : a < 2 ^ n) (hb : b < 2 ^ n) : a ||| b < 2 ^ n := Nat.or_lt_two_pow ha hb
theorem s65 {sc : zk_X} {d : Nat} {I : Nat → Nat → Int32} {tg : Option Nat} {P : Option Value → zk_M → Prop} {n L R : Nat} {sort : Int32} {f : Nat → Int32} (h10 : n ≤ 10) (hall : I 15 3 = nI (2 ^ n - 1)) (hs : zv_rows I 18 19 f n) (hL : L < 2 ^ n) (hR : R < 2 ^ n)
    (K : ∀ I' : Nat → Nat → Int32, (∀ j, j ≠ 27 → I' j = I j) → zfd I' (zpairs f n L R sort (2 ^ n)) → P none (zk_mk I' tg)) : zk_R sc (d + 2) 65 0 [some (.ref (15 : Nat)), some (.int sort), some (.int (nI L)), some (.int (nI R)), some (.ref (27 : Nat)), none, none, none, none] [] (zk_mk I tg) P := by
  have p10 := zp_10 h10
  obtain ⟨b0, b1, b2, b3⟩ := zi_lit4
  obtain ⟨c0, c1, c2, c3⟩ := zi_cl4
  have loop := zl_up (τ := (Nat → Nat → Int32) × Option Value × Option Value × Option Value) (fun i q => zk_R sc (d + 2) 65 23 [some (.ref (15 : Nat)), some (.int sort), some (.int (nI L)), some (.int (nI R)), some (.ref (27 : Nat)), some (.int (nI i)), q.2.1, q.2.2.1, q.2.2.2] [] (zk_mk q.1 tg) P)
    (fun i q => 1 ≤ i ∧ (∀ j, j ≠ 27 → q.1 j = I j) ∧ zfd q.1 (zpairs f n L R sort i)) (2 ^ n) (by
      rintro ⟨I', x, y, z⟩ ⟨h0, h1, h2⟩
      have e15 : I' 15 = I 15 := h1 15 (by decide)
      show zk_R sc (d + 2) 65 23 [some (.ref (15 : Nat)), some (.int sort), some (.int (nI L)), some (.int (nI R)), some (.ref (27 : Nat)), some (.int (nI (2 ^ n))), x, y, z] [] (zk_mk I' tg) P
      rw [u65_23]
      have hcond : nI (2 ^ n - 1) < nI (2 ^ n) := by rw [zn_lt (by omega) (by omega)]; omega
      have hcond2 : ¬ nI (2 ^ n) ≤ nI (2 ^ n - 1) := Int32.not_le.mpr hcond
      simp only [u65_0, u65_2, u65_3, u65_4, u65_5, u65_7, u65_8, u65_9, u65_10, u65_12, u65_13, u65_14, u65_15, u65_17, u65_18, u65_19, u65_20, u65_21, u65_25, u65_26, u65_29, u65_32, u65_33, u65_35, u65_36, u65_37, u65_38, u65_40, u65_42, u65_43, u65_44, u65_45, u65_46, u65_49, u65_50, u65_52, u65_55, u65_58, u65_59, u65_61, u65_62, u65_66, u65_69, u65_72, u65_74, u65_77, u65_78, u65_81, u65_83, u65_84, u65_85, u65_88, u65_90, u65_91, u65_94, u65_95, u65_96, u65_98, u65_100, u65_103, u65_106, u65_108, u65_110, u65_112, u65_115, u65_117, u65_119, u65_122, u65_124, u65_127, u65_130, u65_133, u65_136, zk_mk_1, zk_mk_I, zk_mk_R, zk_mk_set, zk_mk_setR, zk_mk_cpy, zk_rv_some, zk_rv_none, Option.toList_some, Option.toList_none, List.cons_append, List.nil_append, reduceIte, eq_self, Nat.reduceLT, Nat.reduceEqDiff, and_true, true_and, reduceCtorEq, zsh_15, e15, hall, hcond, hcond2]
      exact K I' h1 h2) (by
      rintro a ⟨I', x, y, z⟩ ha ⟨h0, h1, h2⟩ ih
      have e15 : I' 15 = I 15 := h1 15 (by decide)
      have hS : zdf R a < 2 ^ n := zdf_lt hR
      have hS2 : zdf R a < 1024 := by omega
      have hl : zdf a L < 2 ^ n := zdf_lt ha
      have y1 : (nI (zdf a L) = 0) = (zdf a L = 0) := zn_eq (b := 0) (by omega) (by decide)
      have hcond : ¬ nI (2 ^ n - 1) < nI a := by rw [zn_lt (by omega) (by omega)]; omega
      have hcond2 : nI a ≤ nI (2 ^ n - 1) := Int32.not_lt.mp hcond
      show zk_R sc (d + 2) 65 23 [some (.ref (15 : Nat)), some (.int sort), some (.int (nI L)), some (.int (nI R)), some (.ref (27 : Nat)), some (.int (nI a)), x, y, z] [] (zk_mk I' tg) P
      have out : ∀ i s, (∀ I2 : Nat → Nat → Int32, (∀ j, j ≠ 27 → I2 j = I j) → zfd I2 s → zfd I2 (zpairs f n L R sort (a + 1))) → ∀ I2 : Nat → Nat → Int32, (∀ j, j ≠ 27 → I2 j = I j) → zfd I2 s → zk_R sc (d + 2) 65 64 [some (.ref (15 : Nat)), some (.int sort), some (.int (nI L)), some (.int (nI R)), some (.ref (27 : Nat)), some (.int (nI a)), some (.int (nI (zdf R a))), some (.int (nI 0)), some (.int (nI i))] [] (zk_mk I2 tg) P := by
        intro i s hs2 I2 g1 g2
        rw [u65_64]
        simp only [u65_0, u65_2, u65_3, u65_4, u65_5, u65_7, u65_8, u65_9, u65_10, u65_12, u65_13, u65_14, u65_15, u65_17, u65_18, u65_19, u65_20, u65_21, u65_25, u65_26, u65_29, u65_32, u65_33, u65_35, u65_36, u65_37, u65_38, u65_40, u65_42, u65_43, u65_44, u65_45, u65_46, u65_49, u65_50, u65_52, u65_55, u65_58, u65_59, u65_61, u65_62, u65_66, u65_69, u65_72, u65_74, u65_77, u65_78, u65_81, u65_83, u65_84, u65_85, u65_88, u65_90, u65_91, u65_94, u65_95, u65_96, u65_98, u65_100, u65_103, u65_106, u65_108, u65_110, u65_112, u65_115, u65_117, u65_119, u65_122, u65_124, u65_127, u65_130, u65_133, u65_136, zk_mk_1, zk_mk_I, zk_mk_R, zk_mk_set, zk_mk_setR, zk_mk_cpy, zk_rv_some, zk_rv_none, Option.toList_some, Option.toList_none, List.cons_append, List.nil_append, reduceIte, eq_self, Nat.reduceLT, Nat.reduceEqDiff, and_true, true_and, reduceCtorEq, nI_1, show nI 0 = 0 from rfl]
        have := ih (I2, some (.int (nI (zdf R a))), some (.int (nI 0)), some (.int (nI i))) ⟨by omega, g1, hs2 I2 g1 g2⟩
        split <;> exact this
      rw [u65_23]
      simp only [u65_0, u65_2, u65_3, u65_4, u65_5, u65_7, u65_8, u65_9, u65_10, u65_12, u65_13, u65_14, u65_15, u65_17, u65_18, u65_19, u65_20, u65_21, u65_25, u65_26, u65_29, u65_32, u65_33, u65_35, u65_36, u65_37, u65_38, u65_40, u65_42, u65_43, u65_44, u65_45, u65_46, u65_49, u65_50, u65_52, u65_55, u65_58, u65_59, u65_61, u65_62, u65_66, u65_69, u65_72, u65_74, u65_77, u65_78, u65_81, u65_83, u65_84, u65_85, u65_88, u65_90, u65_91, u65_94, u65_95, u65_96, u65_98, u65_100, u65_103, u65_106, u65_108, u65_110, u65_112, u65_115, u65_117, u65_119, u65_122, u65_124, u65_127, u65_130, u65_133, u65_136, zk_mk_1, zk_mk_I, zk_mk_R, zk_mk_set, zk_mk_setR, zk_mk_cpy, zk_rv_some, zk_rv_none, Option.toList_some, Option.toList_none, List.cons_append, List.nil_append, reduceIte, eq_self, Nat.reduceLT, Nat.reduceEqDiff, and_true, true_and, reduceCtorEq, zsh_15, e15, hall, hcond, hcond2, zq_andn, y1, s66]
      by_cases hla : zdf a L = 0
      · rw [if_pos hla]
        · have ha0 : ¬ a = 0 := by have : 1 ≤ a := h0; omega
          have ek : zpairs f n L R sort (a + 1) = zfor (zpi f n R sort a) (zpairs f n L R sort a) (2 ^ n) := by
            show zpo f n L R sort a (zpairs f n L R sort a) = _
            unfold zpo
            rw [if_pos ⟨ha0, hla⟩]
          rw [show (0 : Int32) = nI 0 from rfl, zq_next hS2 (zle_0 _)]
          refine zl_sub hS2 hS (zpi f n R sort a) (fun x s hx => ?_) (fun i r s => ∀ I2 : Nat → Nat → Int32, (∀ j, j ≠ 27 → I2 j = I j) → zfd I2 s → zk_R sc (d + 2) 65 64 [some (.ref (15 : Nat)), some (.int sort), some (.int (nI L)), some (.int (nI R)), some (.ref (27 : Nat)), some (.int (nI a)), some (.int (nI (zdf R a))), some (.int (nI r)), some (.int (nI i))] [] (zk_mk I2 tg) P) (fun i => ?_) (fun i r s _ hi hrS hr hW => ?_) I' h1 h2
          · unfold zpi
            rw [if_neg (fun q => hx.elim (fun w => q.1 w) (fun w => w q.2.1))]
          · exact out i _ (fun I2 g1 g2 => by rw [ek]; exact g2)
          · intro I2 g1 g2
            have e15 : I2 15 = I 15 := g1 15 (by decide)
            have e18 : I2 18 = I 18 := g1 18 (by decide)
            have e19 : I2 19 = I 19 := g1 19 (by decide)
            have hr2 : r < 2 ^ n := by omega
            have z1 : zk_inb (nI a) 1024 = true := by rw [zn_in (by omega)]; omega
            have z2 : (nI a).toNatClampNeg = a := zn_cl (by omega)
            have z3 : zk_inb (nI r) 1024 = true := by rw [zn_in (by omega)]; omega
            have z4 : (nI r).toNatClampNeg = r := zn_cl (by omega)
            have hrows : zv_rows I2 18 19 f n := by unfold zv_rows; rw [e18, e19]; exact hs
            have yr : (nI r = 0) = (r = 0) := zn_eq (b := 0) (by omega) (by decide)
            rw [u65_64]
            simp only [u65_0, u65_2, u65_3, u65_4, u65_5, u65_7, u65_8, u65_9, u65_10, u65_12, u65_13, u65_14, u65_15, u65_17, u65_18, u65_19, u65_20, u65_21, u65_25, u65_26, u65_29, u65_32, u65_33, u65_35, u65_36, u65_37, u65_38, u65_40, u65_42, u65_43, u65_44, u65_45, u65_46, u65_49, u65_50, u65_52, u65_55, u65_58, u65_59, u65_61, u65_62, u65_66, u65_69, u65_72, u65_74, u65_77, u65_78, u65_81, u65_83, u65_84, u65_85, u65_88, u65_90, u65_91, u65_94, u65_95, u65_96, u65_98, u65_100, u65_103, u65_106, u65_108, u65_110, u65_112, u65_115, u65_117, u65_119, u65_122, u65_124, u65_127, u65_130, u65_133, u65_136, zk_mk_1, zk_mk_I, zk_mk_R, zk_mk_set, zk_mk_setR, zk_mk_cpy, zk_rv_some, zk_rv_none, Option.toList_some, Option.toList_none, List.cons_append, List.nil_append, reduceIte, eq_self, Nat.reduceLT, Nat.reduceEqDiff, and_true, true_and, reduceCtorEq, zsh_15, zsh_18, zrf_15_2, e18, z1, z2, z3, z4, (hs a ha).1, (hs r hr2).1, s67 h10 hrows ha hr2, zb_z, yr, s66, zq_next hS2 hr, nI_1]
            rw [if_neg (show ¬ (1024 : Int32) ≤ nI i from nI_ge (b := 1024) (by omega) (by decide)), if_neg (by omega)]
            have no : (¬ (¬ r = 0 ∧ zdf r (zdf R a) = 0 ∧ zsum f a n = zsum f r n ∧ zsrt f n sort a r = true)) → zk_R sc (d + 2) 65 64 [some (.ref (15 : Nat)), some (.int sort), some (.int (nI L)), some (.int (nI R)), some (.ref (27 : Nat)), some (.int (nI a)), some (.int (nI (zdf R a))), some (.int (nI (znx 10 (zdf R a) r))), some (.int (nI (i + 1)))] [] (zk_mk I2 tg) P := by
              intro hq
              unfold zpi at hW
              rw [if_neg hq] at hW
              exact hW I2 g1 g2
            by_cases k1 : zsum f a n = zsum f r n
            · rw [if_pos k1]
              by_cases k2 : zsrt f n sort a r = true
              · rw [if_neg (fun q => q k2)]
                refine s68 (by have := zor_lt ha hr2; omega) g2 (fun I3 g3 g4 => ?_)
                unfold zpi at hW
                rw [if_pos ⟨by omega, hr, k1, k2⟩] at hW
                simp only [u65_0, u65_2, u65_3, u65_4, u65_5, u65_7, u65_8, u65_9, u65_10, u65_12, u65_13, u65_14, u65_15, u65_17, u65_18, u65_19, u65_20, u65_21, u65_25, u65_26, u65_29, u65_32, u65_33, u65_35, u65_36, u65_37, u65_38, u65_40, u65_42, u65_43, u65_44, u65_45, u65_46, u65_49, u65_50, u65_52, u65_55, u65_58, u65_59, u65_61, u65_62, u65_66, u65_69, u65_72, u65_74, u65_77, u65_78, u65_81, u65_83, u65_84, u65_85, u65_88, u65_90, u65_91, u65_94, u65_95, u65_96, u65_98, u65_100, u65_103, u65_106, u65_108, u65_110, u65_112, u65_115, u65_117, u65_119, u65_122, u65_124, u65_127, u65_130, u65_133, u65_136, zk_mk_1, zk_mk_I, zk_mk_R, zk_mk_set, zk_mk_setR, zk_mk_cpy, zk_rv_some, zk_rv_none, Option.toList_some, Option.toList_none, List.cons_append, List.nil_append, reduceIte, eq_self, Nat.reduceLT, Nat.reduceEqDiff, and_true, true_and, reduceCtorEq, s66, zq_next hS2 hr, nI_1]
                exact hW I3 (fun j hj => by rw [g3 j hj, g1 j hj]) g4
              · rw [if_pos k2]
                exact no (fun q => k2 q.2.2.2)
            · rw [if_neg k1]
              exact no (fun q => k1 q.2.2.1)
      · rw [if_neg hla]
        refine out 0 (zpairs f n L R sort a) (fun I2 g1 g2 => ?_) I' h1 h2
        have ek : zpairs f n L R sort (a + 1) = zpairs f n L R sort a := by
          show zpo f n L R sort a (zpairs f n L R sort a) = _
          unfold zpo
          rw [if_neg (fun q => hla q.2)]
        rw [ek]; exact g2)
  simp only [u65_0, u65_2, u65_3, u65_4, u65_5, u65_7, u65_8, u65_9, u65_10, u65_12, u65_13, u65_14, u65_15, u65_17, u65_18, u65_19, u65_20, u65_21, u65_25, u65_26, u65_29, u65_32, u65_33, u65_35, u65_36, u65_37, u65_38, u65_40, u65_42, u65_43, u65_44, u65_45, u65_46, u65_49, u65_50, u65_52, u65_55, u65_58, u65_59, u65_61, u65_62, u65_66, u65_69, u65_72, u65_74, u65_77, u65_78, u65_81, u65_83, u65_84, u65_85, u65_88, u65_90, u65_91, u65_94, u65_95, u65_96, u65_98, u65_100, u65_103, u65_106, u65_108, u65_110, u65_112, u65_115, u65_117, u65_119, u65_122, u65_124, u65_127, u65_130, u65_133, u65_136, zk_mk_1, zk_mk_I, zk_mk_R, zk_mk_set, zk_mk_setR, zk_mk_cpy, zk_rv_some, zk_rv_none, Option.toList_some, Option.toList_none, List.cons_append, List.nil_append, reduceIte, eq_self, Nat.reduceLT, Nat.reduceEqDiff, and_true, true_and, reduceCtorEq, zsh_27, b0, b1, b2, b3, c0, c1, c2, c3]
  refine loop 1 (_, none, none, none) p10.1 ⟨Nat.le_refl _, fun j hj => ?_, ?_, ?_, ?_, ?_⟩
  · show zk_up2 (zk_up2 (zk_up2 (zk_up2 I 27 0 0) 27 1 (-1)) 27 2 (-1)) 27 3 0 j = I j
    rw [zk_up2_r hj, zk_up2_r hj, zk_up2_r hj, zk_up2_r hj]
  · show zk_up2 (zk_up2 (zk_up2 (zk_up2 I 27 0 0) 27 1 (-1)) 27 2 (-1)) 27 3 0 27 0 = _
    rw [zk_up2_j (by decide), zk_up2_j (by decide), zk_up2_j (by decide), zk_up2_s]; rfl
  · show zk_up2 (zk_up2 (zk_up2 (zk_up2 I 27 0 0) 27 1 (-1)) 27 2 (-1)) 27 3 0 27 1 = _
    rw [zk_up2_j (by decide), zk_up2_j (by decide), zk_up2_s]; rfl
  · show zk_up2 (zk_up2 (zk_up2 (zk_up2 I 27 0 0) 27 1 (-1)) 27 2 (-1)) 27 3 0 27 2 = _
    rw [zk_up2_j (by decide), zk_up2_s]; rfl
  · show zk_up2 (zk_up2 (zk_up2 (zk_up2 I 27 0 0) 27 1 (-1)) 27 2 (-1)) 27 3 0 27 3 = _
    rw [zk_up2_s]; rfl
