/-! three alike -/
theorem zle_all {c n : Nat} (h : c < 2 ^ n) : zle c (2 ^ n - 1) := by
  rw [zle_iff]
  intro i hi
  rw [Nat.testBit_two_pow_sub_one, decide_eq_true_eq]
  exact Classical.byContradiction (fun q => by
    have := Nat.testBit_lt_two_pow (x := c) (i := i) (Nat.lt_of_lt_of_le h (Nat.pow_le_pow_right (by omega) (by omega)))
    rw [this] at hi; cases hi)
theorem zle_dall {c x n : Nat} (h : c < 2 ^ n) : zdf c (zdf (2 ^ n - 1) x) = 0 ↔ c &&& x = 0 := by
  have := zle_df (b := c) (R := 2 ^ n - 1) (a := x)
  exact ⟨fun q => (this.mp q).2, fun q => this.mpr ⟨zle_all h, q⟩⟩
def zT4 : Type := Nat × Int32 × Int32 × Int32
def zti (f : Nat → Int32) (n a b c : Nat) (s : zT4) : zT4 := if ¬ c = 0 ∧ zdf c (zdf (2 ^ n - 1) (a ||| b)) = 0 ∧ b < c ∧ zsum f c n = zsum f a n then (s.1 + 1, if s.1 = 0 then (nI a, nI b, nI c) else s.2) else s
def ztm (f : Nat → Int32) (n a b : Nat) (s : zT4) : zT4 := if ¬ b = 0 ∧ zdf b (zdf (2 ^ n - 1) a) = 0 ∧ a < b ∧ zsum f b n = zsum f a n then zfor (zti f n a b) s (2 ^ n) else s
def zto (f : Nat → Int32) (n a : Nat) (s : zT4) : zT4 := if ¬ a = 0 then zfor (ztm f n a) s (2 ^ n) else s
def zthr (f : Nat → Int32) (n m : Nat) : zT4 := zfor (zto f n) ((0, -1, -1, -1) : zT4) m
theorem zti_y {f : Nat → Int32} {n a b c : Nat} {s : zT4} (h : ¬ c = 0 ∧ zdf c (zdf (2 ^ n - 1) (a ||| b)) = 0 ∧ b < c ∧ zsum f c n = zsum f a n) : zti f n a b c s = (s.1 + 1, if s.1 = 0 then (nI a, nI b, nI c) else s.2) := if_pos h
theorem zti_n {f : Nat → Int32} {n a b c : Nat} {s : zT4} (h : ¬ (¬ c = 0 ∧ zdf c (zdf (2 ^ n - 1) (a ||| b)) = 0 ∧ b < c ∧ zsum f c n = zsum f a n)) : zti f n a b c s = s := if_neg h
theorem ztm_y {f : Nat → Int32} {n a b : Nat} {s : zT4} (h : ¬ b = 0 ∧ zdf b (zdf (2 ^ n - 1) a) = 0 ∧ a < b ∧ zsum f b n = zsum f a n) : ztm f n a b s = zfor (zti f n a b) s (2 ^ n) := if_pos h
theorem ztm_n {f : Nat → Int32} {n a b : Nat} {s : zT4} (h : ¬ (¬ b = 0 ∧ zdf b (zdf (2 ^ n - 1) a) = 0 ∧ a < b ∧ zsum f b n = zsum f a n)) : ztm f n a b s = s := if_neg h
theorem zfor_le {step : Nat → zT4 → zT4} {s0 : zT4} {k : Nat} (h : ∀ x s, (step x s).1 ≤ s.1 + k) : ∀ m, (zfor step s0 m).1 ≤ s0.1 + m * k
  | 0 => by show s0.1 ≤ s0.1 + 0 * k; omega
  | m + 1 => by
    have ih := zfor_le (s0 := s0) h m
    have := h m (zfor step s0 m)
    show (step m (zfor step s0 m)).1 ≤ _
    rw [Nat.succ_mul]
    omega
theorem zti_le (f : Nat → Int32) (n a b c : Nat) (s : zT4) : (zti f n a b c s).1 ≤ s.1 + 1 := by
  by_cases h : ¬ c = 0 ∧ zdf c (zdf (2 ^ n - 1) (a ||| b)) = 0 ∧ b < c ∧ zsum f c n = zsum f a n
  · rw [zti_y h]
    exact Nat.le_refl _
  · rw [zti_n h]
    exact Nat.le_succ _
theorem ztm_le (f : Nat → Int32) (n a b : Nat) (s : zT4) : (ztm f n a b s).1 ≤ s.1 + 2 ^ n := by
  by_cases h : ¬ b = 0 ∧ zdf b (zdf (2 ^ n - 1) a) = 0 ∧ a < b ∧ zsum f b n = zsum f a n
  · rw [ztm_y h]
    have := zfor_le (s0 := s) (k := 1) (zti_le f n a b) (2 ^ n)
    omega
  · rw [ztm_n h]
    exact Nat.le_add_right _ _
theorem zto_y {f : Nat → Int32} {n a : Nat} {s : zT4} (h : ¬ a = 0) : zto f n a s = zfor (ztm f n a) s (2 ^ n) := if_pos h
theorem zto_n {f : Nat → Int32} {n a : Nat} {s : zT4} (h : a = 0) : zto f n a s = s := if_neg (fun q => q h)
theorem zto_le (f : Nat → Int32) (n a : Nat) (s : zT4) : (zto f n a s).1 ≤ s.1 + 2 ^ n * 2 ^ n := by
  by_cases h : a = 0
  · rw [zto_n h]
    exact Nat.le_add_right _ _
  · rw [zto_y h]
    exact zfor_le (s0 := s) (ztm_le f n a) (2 ^ n)
def zkeep (step : Nat → zT4 → zT4) : Prop := ∀ x s, ¬ s.1 = 0 → ¬ (step x s).1 = 0 ∧ (step x s).2 = s.2
theorem zfor_keep {step : Nat → zT4 → zT4} {s0 : zT4} {a : Nat} (h : zkeep step) (h0 : ¬ (zfor step s0 a).1 = 0) : ∀ k, ¬ (zfor step s0 (a + k)).1 = 0 ∧ (zfor step s0 (a + k)).2 = (zfor step s0 a).2
  | 0 => ⟨h0, rfl⟩
  | k + 1 => by
    obtain ⟨i1, i2⟩ := zfor_keep h h0 k
    obtain ⟨j1, j2⟩ := h (a + k) _ i1
    exact ⟨j1, by rw [← i2]; exact j2⟩
theorem zti_keep (f : Nat → Int32) (n a b : Nat) : zkeep (zti f n a b) := by
  intro c s h
  by_cases hc : ¬ c = 0 ∧ zdf c (zdf (2 ^ n - 1) (a ||| b)) = 0 ∧ b < c ∧ zsum f c n = zsum f a n
  · rw [zti_y hc]
    exact ⟨Nat.succ_ne_zero _, if_neg h⟩
  · rw [zti_n hc]
    exact ⟨h, rfl⟩
theorem ztm_keep (f : Nat → Int32) (n a : Nat) : zkeep (ztm f n a) := by
  intro b s h
  by_cases hc : ¬ b = 0 ∧ zdf b (zdf (2 ^ n - 1) a) = 0 ∧ a < b ∧ zsum f b n = zsum f a n
  · rw [ztm_y hc]
    have := zfor_keep (s0 := s) (a := 0) (zti_keep f n a b) h (2 ^ n)
    rw [Nat.zero_add] at this
    exact this
  · rw [ztm_n hc]
    exact ⟨h, rfl⟩
theorem zto_keep (f : Nat → Int32) (n : Nat) : zkeep (zto f n) := by
  intro a s h
  by_cases hc : a = 0
  · rw [zto_n hc]
    exact ⟨h, rfl⟩
  · rw [zto_y hc]
    have := zfor_keep (s0 := s) (a := 0) (ztm_keep f n a) h (2 ^ n)
    rw [Nat.zero_add] at this
    exact this
def zft (I : Nat → Nat → Int32) (s : zT4) : Prop := I 27 0 = nI s.1 ∧ I 27 1 = s.2.1 ∧ I 27 2 = s.2.2.1 ∧ I 27 3 = s.2.2.2
theorem s70 {sc : zk_X} {d : Nat} {I : Nat → Nat → Int32} {tg : Option Nat} {P : Option Value → zk_M → Prop} {n a b : Nat} {f : Nat → Int32} {s0 : zT4} (h10 : n ≤ 10) (hall : I 15 3 = nI (2 ^ n - 1)) (hs : ∀ h, h < 2 ^ n → I 18 h = zsum f h n) (ha : a < 2 ^ n) (hb : b < 2 ^ n) (hf : zft I s0) (hb0 : s0.1 + 1024 < 2147483648)
    (K : ∀ I' : Nat → Nat → Int32, (∀ j, j ≠ 27 → I' j = I j) → zft I' (zfor (zti f n a b) s0 (2 ^ n)) → P none (zk_mk I' tg)) : zk_R sc (d + 1) 70 0 [some (.ref (15 : Nat)), some (.int (nI a)), some (.int (nI b)), some (.ref (27 : Nat)), none, none, none] [] (zk_mk I tg) P := by
  have p10 := zp_10 h10
  obtain ⟨b0, b1, b2, b3⟩ := zi_lit4
  obtain ⟨c0, c1, c2, c3⟩ := zi_cl4
  have hS : zdf (2 ^ n - 1) (a ||| b) < 2 ^ n := zdf_lt (by omega)
  have hS2 : zdf (2 ^ n - 1) (a ||| b) < 1024 := by omega
  simp only [u70_0, u70_1, u70_4, u70_5, u70_6, u70_7, u70_8, u70_9, u70_10, u70_12, u70_13, u70_15, u70_18, u70_20, u70_21, u70_25, u70_28, u70_31, u70_33, u70_36, u70_38, u70_39, u70_42, u70_43, u70_46, u70_48, u70_49, u70_50, u70_53, u70_54, u70_55, u70_58, u70_59, u70_60, u70_61, u70_62, u70_63, u70_64, u70_65, u70_66, u70_67, u70_68, u70_69, u70_72, u70_73, u70_74, u70_75, u70_76, u70_77, u70_78, u70_79, u70_80, u70_81, u70_82, u70_84, u70_85, u70_87, u70_89, u70_92, u70_94, u70_97, u70_100, zk_mk_1, zk_mk_I, zk_mk_R, zk_mk_set, zk_mk_setR, zk_mk_cpy, zk_rv_some, zk_rv_none, Option.toList_some, Option.toList_none, List.cons_append, List.nil_append, reduceIte, eq_self, Nat.reduceLT, Nat.reduceEqDiff, and_true, true_and, reduceCtorEq, zsh_15, hall, zq_or, zq_andn, s66]
  rw [show (0 : Int32) = nI 0 from rfl, zq_next hS2 (zle_0 _)]
  refine zl_sub hS2 hS (zti f n a b) (fun x s hx => ?_) (fun i r s => ∀ I2 : Nat → Nat → Int32, (∀ j, j ≠ 27 → I2 j = I j) → zft I2 s → zk_R sc (d + 1) 70 23 [some (.ref (15 : Nat)), some (.int (nI a)), some (.int (nI b)), some (.ref (27 : Nat)), some (.int (nI (zdf (2 ^ n - 1) (a ||| b)))), some (.int (nI r)), some (.int (nI i))] [] (zk_mk I2 tg) P) (fun i => ?_) (fun i r s hsr hi hrS hr hW => ?_) I (fun _ _ => rfl) hf
  · exact zti_n (fun q => hx.elim (fun w => q.1 w) (fun w => w q.2.1))
  · intro I2 g1 g2
    rw [u70_23]
    simp only [u70_0, u70_1, u70_4, u70_5, u70_6, u70_7, u70_8, u70_9, u70_10, u70_12, u70_13, u70_15, u70_18, u70_20, u70_21, u70_25, u70_28, u70_31, u70_33, u70_36, u70_38, u70_39, u70_42, u70_43, u70_46, u70_48, u70_49, u70_50, u70_53, u70_54, u70_55, u70_58, u70_59, u70_60, u70_61, u70_62, u70_63, u70_64, u70_65, u70_66, u70_67, u70_68, u70_69, u70_72, u70_73, u70_74, u70_75, u70_76, u70_77, u70_78, u70_79, u70_80, u70_81, u70_82, u70_84, u70_85, u70_87, u70_89, u70_92, u70_94, u70_97, u70_100, zk_mk_1, zk_mk_I, zk_mk_R, zk_mk_set, zk_mk_setR, zk_mk_cpy, zk_rv_some, zk_rv_none, Option.toList_some, Option.toList_none, List.cons_append, List.nil_append, reduceIte, eq_self, Nat.reduceLT, Nat.reduceEqDiff, and_true, true_and, reduceCtorEq, show nI 0 = 0 from rfl]
    have := K I2 g1 g2
    split <;> exact this
  · intro I2 g1 g2
    have e18 : I2 18 = I 18 := g1 18 (by decide)
    have hr2 : r < 2 ^ n := by omega
    have z1 : zk_inb (nI a) 1024 = true := by rw [zn_in (by omega)]; omega
    have z2 : (nI a).toNatClampNeg = a := zn_cl (by omega)
    have z3 : zk_inb (nI r) 1024 = true := by rw [zn_in (by omega)]; omega
    have z4 : (nI r).toNatClampNeg = r := zn_cl (by omega)
    have yr : (nI r = 0) = (r = 0) := zn_eq (b := 0) (by omega) (by decide)
    obtain ⟨f0, f1, f2, f3⟩ := g2
    have hcnt : s.1 ≤ s0.1 + r * 1 := by rw [hsr]; exact zfor_le (zti_le f n a b) r
    have y5 : (nI (s.1 + 1) = 1) = (s.1 = 0) := by
      rw [← nI_1, zp_1]; exact zn_eq (b := 0) (by omega) (by decide)
    have no : (¬ (¬ r = 0 ∧ zdf r (zdf (2 ^ n - 1) (a ||| b)) = 0 ∧ b < r ∧ zsum f r n = zsum f a n)) → zk_R sc (d + 1) 70 23 [some (.ref (15 : Nat)), some (.int (nI a)), some (.int (nI b)), some (.ref (27 : Nat)), some (.int (nI (zdf (2 ^ n - 1) (a ||| b)))), some (.int (nI (znx 10 (zdf (2 ^ n - 1) (a ||| b)) r))), some (.int (nI (i + 1)))] [] (zk_mk I2 tg) P := by
      intro hq
      rw [zti_n hq] at hW
      exact hW I2 g1 ⟨f0, f1, f2, f3⟩
    rw [u70_23]
    simp only [u70_0, u70_1, u70_4, u70_5, u70_6, u70_7, u70_8, u70_9, u70_10, u70_12, u70_13, u70_15, u70_18, u70_20, u70_21, u70_25, u70_28, u70_31, u70_33, u70_36, u70_38, u70_39, u70_42, u70_43, u70_46, u70_48, u70_49, u70_50, u70_53, u70_54, u70_55, u70_58, u70_59, u70_60, u70_61, u70_62, u70_63, u70_64, u70_65, u70_66, u70_67, u70_68, u70_69, u70_72, u70_73, u70_74, u70_75, u70_76, u70_77, u70_78, u70_79, u70_80, u70_81, u70_82, u70_84, u70_85, u70_87, u70_89, u70_92, u70_94, u70_97, u70_100, zk_mk_1, zk_mk_I, zk_mk_R, zk_mk_set, zk_mk_setR, zk_mk_cpy, zk_rv_some, zk_rv_none, Option.toList_some, Option.toList_none, List.cons_append, List.nil_append, reduceIte, eq_self, Nat.reduceLT, Nat.reduceEqDiff, and_true, true_and, reduceCtorEq, zsh_15, zsh_18, zsh_27, zrf_15_2, e18, z1, z2, z3, z4, hs a ha, hs r hr2, yr, b0, b1, b2, b3, c0, c1, c2, c3, f0, zk_up2_s, y5, s66, zq_next hS2 hr, nI_1]
    rw [if_neg (show ¬ (1024 : Int32) ≤ nI i from nI_ge (b := 1024) (by omega) (by decide)), if_neg (by omega)]
    by_cases k1 : b < r
    · have k1' : nI b < nI r := by rw [zn_lt (by omega) (by omega)]; exact k1
      first | rw [if_pos k1'] | rw [if_neg (Int32.not_le.mpr k1')]
      by_cases k2 : zsum f r n = zsum f a n
      · rw [if_pos k2]
        rw [zti_y ⟨by omega, hr, k1, k2⟩] at hW
        by_cases m0 : s.1 = 0
        · rw [if_pos m0]
          rw [if_pos m0] at hW
          refine hW _ (fun j hj => ?_) ⟨?_, ?_, ?_, ?_⟩
          · rw [zk_up2_r hj, zk_up2_r hj, zk_up2_r hj, zk_up2_r hj]; exact g1 j hj
          · rw [zk_up2_j (by decide), zk_up2_j (by decide), zk_up2_j (by decide), zk_up2_s]
          · rw [zk_up2_j (by decide), zk_up2_j (by decide), zk_up2_s]
          · rw [zk_up2_j (by decide), zk_up2_s]
          · rw [zk_up2_s]
        · rw [if_neg m0]
          rw [if_neg m0] at hW
          refine hW _ (fun j hj => ?_) ⟨?_, ?_, ?_, ?_⟩
          · rw [zk_up2_r hj]; exact g1 j hj
          · rw [zk_up2_s]
          · rw [zk_up2_j (by decide)]; exact f1
          · rw [zk_up2_j (by decide)]; exact f2
          · rw [zk_up2_j (by decide)]; exact f3
      · rw [if_neg k2]
        exact no (fun q => k2 q.2.2.2)
    · have k1' : nI r ≤ nI b := by rw [zn_le (by omega) (by omega)]; omega
      first | rw [if_pos k1'] | rw [if_neg (Int32.not_lt.mpr k1')]
      exact no (fun q => k1 q.2.2.1)
