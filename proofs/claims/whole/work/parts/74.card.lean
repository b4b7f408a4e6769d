/-! card, drop, lay -/
def zcok (km nu : Int32) : Prop := (0 ≤ km ∧ km < 60) ∧ 0 ≤ nu ∧ nu ≤ 999
theorem zcok_dec (km nu : Int32) : zcok km nu ∨ ¬ zcok km nu := Classical.em _
noncomputable def zA_card2 (n : Nat) (km nu : Int32) : Int32 := @ite _ (zcok km nu) (Classical.propDecidable _) (if n < 10 then nI n else -4) (-2)
theorem zA_card_1 {n : Nat} {km nu : Int32} (h : zcok km nu) (hn : n < 10) : zA_card2 n km nu = nI n := by
  unfold zA_card2; rw [if_pos h, if_pos hn]
theorem zA_card_2 {n : Nat} {km nu : Int32} (h : zcok km nu) (hn : ¬ n < 10) : zA_card2 n km nu = -4 := by
  unfold zA_card2; rw [if_pos h, if_neg hn]
theorem zA_card_3 {n : Nat} {km nu : Int32} (h : ¬ zcok km nu) : zA_card2 n km nu = -2 := by
  unfold zA_card2; rw [if_neg h]
def zput5 (I : Nat → Nat → Int32) (a b c e p j n : Nat) (km nu : Int32) : Nat → Nat → Int32 := zk_up2 (zk_up2 (zk_up2 (zk_up2 (zk_up2 I a n (km / 10)) b n (km - km / 10 * 10)) c n nu) e n 0) p j (nI (n + 1))
noncomputable def zcT (I : Nat → Nat → Int32) (n : Nat) (km nu : Int32) : Nat → Nat → Int32 := @ite _ (zcok km nu ∧ n < 10) (Classical.propDecidable _) (zput5 I 2 4 3 5 1 4 n km nu) I
noncomputable def zcM (I : Nat → Nat → Int32) (n : Nat) (km nu : Int32) : Nat → Nat → Int32 := @ite _ (zcok km nu ∧ n < 10) (Classical.propDecidable _) (zput5 I 61 63 62 64 60 0 n km nu) I
theorem zcT_y {I : Nat → Nat → Int32} {n : Nat} {km nu : Int32} (h : zcok km nu ∧ n < 10) : zcT I n km nu = zput5 I 2 4 3 5 1 4 n km nu := if_pos h
theorem zcT_n {I : Nat → Nat → Int32} {n : Nat} {km nu : Int32} (h : ¬ (zcok km nu ∧ n < 10)) : zcT I n km nu = I := if_neg h
theorem zcM_y {I : Nat → Nat → Int32} {n : Nat} {km nu : Int32} (h : zcok km nu ∧ n < 10) : zcM I n km nu = zput5 I 61 63 62 64 60 0 n km nu := if_pos h
theorem zcM_n {I : Nat → Nat → Int32} {n : Nat} {km nu : Int32} (h : ¬ (zcok km nu ∧ n < 10)) : zcM I n km nu = I := if_neg h
theorem zq_ten : ((10 : Int32) = 0) = False := by decide
theorem s10 {sc : zk_X} {d : Nat} {I : Nat → Nat → Int32} {tg : Option Nat} {P : Option Value → zk_M → Prop} {n : Nat} {km nu : Int32} (hn : I 1 4 = nI n) (h10 : n ≤ 10) : zk_R sc (d + 1) 10 0 [some (.ref (0 : Nat)), some (.int km), some (.int nu)] [] (zk_mk I tg) P = P (some (.int (zA_card2 n km nu))) (zk_mk (zcT I n km nu) tg) := by
  simp only [u10_0, u10_1, u10_4, u10_5, u10_7, u10_10, u10_11, u10_14, u10_15, u10_18, u10_21, u10_23, u10_24, u10_25, u10_28, u10_31, u10_33, u10_36, u10_38, u10_39, u10_40, u10_43, u10_44, u10_46, u10_47, u10_48, u10_50, u10_51, u10_52, u10_55, zk_mk_1, zk_mk_I, zk_mk_R, zk_mk_set, zk_mk_setR, zk_mk_cpy, zk_rv_some, zk_rv_none, Option.toList_some, Option.toList_none, List.cons_append, List.nil_append, reduceIte, eq_self, Nat.reduceLT, Nat.reduceEqDiff, and_true, true_and, reduceCtorEq, zsh_0, zsh_1, zrf_0_0, hn, zq_ten, not_false_eq_true]
  rcases zcok_dec km nu with h | h
  · obtain ⟨⟨a1, a2⟩, a3, a4⟩ := id h
    have a1' : ¬ km < 0 := Int32.not_lt.mpr a1
    have a2' : ¬ 60 ≤ km := Int32.not_le.mpr a2
    have a3' : ¬ nu < 0 := Int32.not_lt.mpr a3
    have a4' : ¬ 999 < nu := Int32.not_lt.mpr a4
    by_cases hl : n < 10
    · have h1 : nI n < 10 := by rw [show (10 : Int32) = nI 10 from rfl, zn_lt (by omega) (by decide)]; exact hl
      have h2 : ¬ 10 ≤ nI n := Int32.not_le.mpr h1
      have z1 : zk_inb (nI n) 10 = true := by rw [zn_in (by omega)]; exact hl
      have z2 : (nI n).toNatClampNeg = n := zn_cl (by omega)
      have e1 : nI (n + 1) - 1 = nI n := zn_sub (b := 1) (by omega)
      rw [zA_card_1 h hl, zcT_y ⟨h, hl⟩]
      unfold zput5
      simp only [a1, a1', a2, a2', a3, a3', a4, a4', h1, h2, reduceIte, u94_0, u94_1, u94_4, u94_6, u94_9, u94_11, u94_12, u94_13, u94_16, u94_17, u94_20, u94_21, u94_22, u94_23, u94_26, u94_27, u94_30, u94_31, u94_32, u94_33, u94_36, u94_37, u94_40, u94_41, u94_42, u94_43, u94_46, u94_47, u94_50, u94_51, u94_52, u94_53, u94_54, u94_57, u94_58, u94_59, u94_62, u94_63, u94_66, u94_67, u94_68, u10_0, u10_1, u10_4, u10_5, u10_7, u10_10, u10_11, u10_14, u10_15, u10_18, u10_21, u10_23, u10_24, u10_25, u10_28, u10_31, u10_33, u10_36, u10_38, u10_39, u10_40, u10_43, u10_44, u10_46, u10_47, u10_48, u10_50, u10_51, u10_52, u10_55, zk_mk_1, zk_mk_I, zk_mk_R, zk_mk_set, zk_mk_setR, zk_mk_cpy, zk_rv_some, zk_rv_none, Option.toList_some, Option.toList_none, List.cons_append, List.nil_append, reduceIte, eq_self, Nat.reduceLT, Nat.reduceEqDiff, and_true, true_and, reduceCtorEq, zsh_1, zsh_2, zsh_3, zsh_4, zsh_5, zrf_1_0, zrf_1_1, zrf_1_2, zrf_1_3, hn, z1, z2, zk_up2_k (show (1 : Nat) ≠ 2 by decide), zk_up2_k (show (1 : Nat) ≠ 3 by decide), zk_up2_k (show (1 : Nat) ≠ 4 by decide), zk_up2_k (show (1 : Nat) ≠ 5 by decide), zk_up2_s, nI_1, e1]
    · have h1 : 10 ≤ nI n := by rw [show (10 : Int32) = nI 10 from rfl, zn_le (by decide) (by omega)]; omega
      have h2 : ¬ nI n < 10 := Int32.not_lt.mpr h1
      rw [zA_card_2 h hl, zcT_n (fun w => hl w.2)]
      simp only [a1, a1', a2, a2', a3, a3', a4, a4', h1, h2, reduceIte]
  · rw [zA_card_3 h, zcT_n (fun w => h w.1)]
    by_cases c1 : km < 0
    · simp only [c1, reduceIte]
    · by_cases c2 : 60 ≤ km
      · have c2' : ¬ km < 60 := Int32.not_lt.mpr c2
        simp only [c1, c2, c2', reduceIte]
      · have c2' : km < 60 := Int32.not_le.mp c2
        by_cases c3 : nu < 0
        · simp only [c1, c2, c2', c3, reduceIte]
        · by_cases c4 : 999 < nu
          · have c4' : ¬ nu ≤ 999 := Int32.not_le.mpr c4
            simp only [c1, c2, c2', c3, c4, c4', reduceIte]
          · exact absurd ⟨⟨Int32.not_lt.mp c1, c2'⟩, Int32.not_lt.mp c3, Int32.not_lt.mp c4⟩ h
theorem zn_59 {x : Int32} : (x ≤ 59) = (x < 60) := (zn_lt1 (x := x) (m := 59) (by decide)).symm
theorem s150 {sc : zk_X} {d : Nat} {I : Nat → Nat → Int32} {tg : Option Nat} {P : Option Value → zk_M → Prop} {n : Nat} {km nu : Int32} (hn : I 60 0 = nI n) (h10 : n ≤ 10) : zk_R sc (d + 1) 150 0 [some (.ref (60 : Nat)), some (.int km), some (.int nu)] [] (zk_mk I tg) P = P (some (.int (zA_card2 n km nu))) (zk_mk (zcM I n km nu) tg) := by
  have y10 : (nI n = 10) = (n = 10) := zn_eq (b := 10) (by omega) (by decide)
  simp only [u150_0, u150_1, u150_2, u150_4, u150_7, u150_10, u150_11, u150_12, u150_15, u150_18, u150_21, u150_23, u150_24, u150_25, u150_28, u150_30, u150_33, u150_35, u150_36, u150_37, u150_40, u150_41, u150_44, u150_45, u150_47, u150_48, u150_49, u150_50, u150_53, u150_54, u150_57, u150_58, u150_60, u150_61, u150_62, u150_63, u150_66, u150_67, u150_70, u150_71, u150_72, u150_73, u150_76, u150_77, u150_80, u150_81, u150_82, u150_83, u150_84, u150_87, u150_88, u150_89, u150_92, u150_93, u150_96, u150_97, u150_98, zk_mk_1, zk_mk_I, zk_mk_R, zk_mk_set, zk_mk_setR, zk_mk_cpy, zk_rv_some, zk_rv_none, Option.toList_some, Option.toList_none, List.cons_append, List.nil_append, reduceIte, eq_self, Nat.reduceLT, Nat.reduceEqDiff, and_true, true_and, reduceCtorEq, zsh_60, hn, s129, zb_z, zn_59, zq_ten, not_false_eq_true, y10]
  by_cases a1 : 0 ≤ km ∧ km < 60
  · rw [if_neg (fun q => q a1)]
    by_cases a2 : 0 ≤ nu ∧ nu ≤ 999
    · rw [if_neg (fun q => q a2)]
      have h : zcok km nu := ⟨a1, a2⟩
      by_cases hl : n < 10
      · have z1 : zk_inb (nI n) 10 = true := by rw [zn_in (by omega)]; exact hl
        have z2 : (nI n).toNatClampNeg = n := zn_cl (by omega)
        have e1 : nI (n + 1) - 1 = nI n := zn_sub (b := 1) (by omega)
        rw [zA_card_1 h hl, zcM_y ⟨h, hl⟩, if_neg (by omega)]
        unfold zput5
        simp only [u150_0, u150_1, u150_2, u150_4, u150_7, u150_10, u150_11, u150_12, u150_15, u150_18, u150_21, u150_23, u150_24, u150_25, u150_28, u150_30, u150_33, u150_35, u150_36, u150_37, u150_40, u150_41, u150_44, u150_45, u150_47, u150_48, u150_49, u150_50, u150_53, u150_54, u150_57, u150_58, u150_60, u150_61, u150_62, u150_63, u150_66, u150_67, u150_70, u150_71, u150_72, u150_73, u150_76, u150_77, u150_80, u150_81, u150_82, u150_83, u150_84, u150_87, u150_88, u150_89, u150_92, u150_93, u150_96, u150_97, u150_98, zk_mk_1, zk_mk_I, zk_mk_R, zk_mk_set, zk_mk_setR, zk_mk_cpy, zk_rv_some, zk_rv_none, Option.toList_some, Option.toList_none, List.cons_append, List.nil_append, reduceIte, eq_self, Nat.reduceLT, Nat.reduceEqDiff, and_true, true_and, reduceCtorEq, zsh_60, zsh_61, zsh_62, zsh_63, zsh_64, zrf_60_1, zrf_60_2, zrf_60_3, zrf_60_4, hn, z1, z2, zk_up2_k (show (60 : Nat) ≠ 61 by decide), zk_up2_k (show (60 : Nat) ≠ 62 by decide), zk_up2_k (show (60 : Nat) ≠ 63 by decide), zk_up2_k (show (60 : Nat) ≠ 64 by decide), zk_up2_s, nI_1, e1, zq_ten, not_false_eq_true]
      · rw [zA_card_2 h hl, zcM_n (fun w => hl w.2), if_pos (by omega)]
    · rw [if_pos a2, zA_card_3 (fun w => a2 w.2), zcM_n (fun w => a2 w.1.2)]
  · rw [if_pos a1, zA_card_3 (fun w => a1 w.1), zcM_n (fun w => a1 w.1.1)]
theorem z_ten : ∀ k, k < 60 → nI k / 10 = nI (k / 10) ∧ nI k - nI k / 10 * 10 = nI (k % 10) := by decide +kernel
theorem zput5_o {I : Nat → Nat → Int32} {a b c e p j n : Nat} {km nu : Int32} {k : Nat} (h : k ≠ a ∧ k ≠ b ∧ k ≠ c ∧ k ≠ e ∧ k ≠ p) : zput5 I a b c e p j n km nu k = I k := by
  unfold zput5
  rw [zk_up2_r h.2.2.2.2, zk_up2_r h.2.2.2.1, zk_up2_r h.2.2.1, zk_up2_r h.2.1, zk_up2_r h.1]
theorem zJ_card {I : Nat → Nat → Int32} {n t q m : Nat} {TT EE : Nat → Nat → Nat} {Z : Nat → Nat} {km nu : Int32} (hJ : zJ I n t q m TT EE Z) : ∃ n', zJ (zcM (zcT I n km nu) n km nu) n' t q m TT EE Z := by
  obtain ⟨a, b, c, d, e, f, g⟩ := hJ
  by_cases h : zcok km nu ∧ n < 10
  · rw [zcM_y h, zcT_y h]
    obtain ⟨⟨⟨k1, k2⟩, k3, k4⟩, hl⟩ := h
    obtain ⟨k, hk, rfl⟩ := zn_of (m := 60) k1 k2 (by decide)
    obtain ⟨u, hu, rfl⟩ := zn_of (x := nu) (m := 1000) k3 (by rw [zn_lt1 (by decide)]; exact k4) (by decide)
    obtain ⟨d1, d2⟩ := z_ten k hk
    have o : ∀ j, ¬ (1 ≤ j ∧ j ≤ 5) → ¬ (60 ≤ j ∧ j ≤ 64) → zput5 (zput5 I 2 4 3 5 1 4 n (nI k) (nI u)) 61 63 62 64 60 0 n (nI k) (nI u) j = I j := fun j j1 j2 => by rw [zput5_o (by omega), zput5_o (by omega)]
    have o60 : ∀ b, b ≠ 0 → zput5 (zput5 I 2 4 3 5 1 4 n (nI k) (nI u)) 61 63 62 64 60 0 n (nI k) (nI u) 60 b = I 60 b := by
      intro b hb
      rw [show zput5 (zput5 I 2 4 3 5 1 4 n (nI k) (nI u)) 61 63 62 64 60 0 n (nI k) (nI u) 60 b = zput5 I 2 4 3 5 1 4 n (nI k) (nI u) 60 b by
        unfold zput5
        rw [zk_up2_j hb, zk_up2_k (by decide), zk_up2_k (by decide), zk_up2_k (by decide), zk_up2_k (by decide)], zput5_o (by decide)]
    have o1 : ∀ b, b ≠ 4 → zput5 (zput5 I 2 4 3 5 1 4 n (nI k) (nI u)) 61 63 62 64 60 0 n (nI k) (nI u) 1 b = I 1 b := by
      intro b hb
      rw [zput5_o (by decide)]
      unfold zput5
      rw [zk_up2_j hb, zk_up2_k (by decide), zk_up2_k (by decide), zk_up2_k (by decide), zk_up2_k (by decide)]
    have vT : ∀ c, zput5 I 2 4 3 5 1 4 n (nI k) (nI u) 2 c = (if c = n then nI k / 10 else I 2 c) ∧ zput5 I 2 4 3 5 1 4 n (nI k) (nI u) 3 c = (if c = n then nI u else I 3 c) ∧ zput5 I 2 4 3 5 1 4 n (nI k) (nI u) 4 c = (if c = n then nI k - nI k / 10 * 10 else I 4 c) ∧ zput5 I 2 4 3 5 1 4 n (nI k) (nI u) 5 c = (if c = n then 0 else I 5 c) := by
      intro c
      unfold zput5
      refine ⟨?_, ?_, ?_, ?_⟩
      · rw [zk_up2_k (by decide), zk_up2_k (by decide), zk_up2_k (by decide), zk_up2_k (by decide), zk_up2_i]
      · rw [zk_up2_k (by decide), zk_up2_k (by decide), zk_up2_i, zk_up2_k (by decide), zk_up2_k (by decide)]
      · rw [zk_up2_k (by decide), zk_up2_k (by decide), zk_up2_k (by decide), zk_up2_i, zk_up2_k (by decide)]
      · rw [zk_up2_k (by decide), zk_up2_i, zk_up2_k (by decide), zk_up2_k (by decide), zk_up2_k (by decide)]
    have vM : ∀ (J : Nat → Nat → Int32) c, zput5 J 61 63 62 64 60 0 n (nI k) (nI u) 61 c = (if c = n then nI k / 10 else J 61 c) ∧ zput5 J 61 63 62 64 60 0 n (nI k) (nI u) 62 c = (if c = n then nI u else J 62 c) ∧ zput5 J 61 63 62 64 60 0 n (nI k) (nI u) 63 c = (if c = n then nI k - nI k / 10 * 10 else J 63 c) ∧ zput5 J 61 63 62 64 60 0 n (nI k) (nI u) 64 c = (if c = n then 0 else J 64 c) := by
      intro J c
      unfold zput5
      refine ⟨?_, ?_, ?_, ?_⟩
      · rw [zk_up2_k (by decide), zk_up2_k (by decide), zk_up2_k (by decide), zk_up2_k (by decide), zk_up2_i]
      · rw [zk_up2_k (by decide), zk_up2_k (by decide), zk_up2_i, zk_up2_k (by decide), zk_up2_k (by decide)]
      · rw [zk_up2_k (by decide), zk_up2_k (by decide), zk_up2_k (by decide), zk_up2_i, zk_up2_k (by decide)]
      · rw [zk_up2_k (by decide), zk_up2_i, zk_up2_k (by decide), zk_up2_k (by decide), zk_up2_k (by decide)]
    refine ⟨n + 1, ⟨?_, ?_, by omega, fun c hc => ?_⟩, b.cg (o1 5 (by decide)) (o60 10 (by decide)), c.cg (by rw [o 0 (by omega) (by omega)]) (o60 9 (by decide)) (fun j hj => o j (by omega) (by omega)), d.cg (by rw [o 11 (by omega) (by omega)]) (o60 6 (by decide)) (o 12 (by omega) (by omega)) (o 65 (by omega) (by omega)), e.cg (fun j hj => o j (by omega) (by omega)), f.cg (by rw [o 0 (by omega) (by omega)]) (o60 11 (by decide)) (o60 12 (by decide)) (o60 13 (by decide)) (fun j hj => o j (by omega) (by omega)), g.cg (o 73 (by omega) (by omega))⟩
    · rw [zput5_o (by decide)]
      unfold zput5
      rw [zk_up2_s]
    · unfold zput5
      rw [zk_up2_s]
    · obtain ⟨t1, t2, t3, t4⟩ := vT c
      obtain ⟨m1, m2, m3, m4⟩ := vM (zput5 I 2 4 3 5 1 4 n (nI k) (nI u)) c
      unfold zj_card
      rw [m1, m2, m3, m4, zput5_o (I := zput5 I 2 4 3 5 1 4 n (nI k) (nI u)) (k := 2) (by decide), zput5_o (I := zput5 I 2 4 3 5 1 4 n (nI k) (nI u)) (k := 3) (by decide), zput5_o (I := zput5 I 2 4 3 5 1 4 n (nI k) (nI u)) (k := 4) (by decide), zput5_o (I := zput5 I 2 4 3 5 1 4 n (nI k) (nI u)) (k := 5) (by decide), t1, t2, t3, t4, zput5_o (I := I) (k := 61) (by decide), zput5_o (I := I) (k := 62) (by decide), zput5_o (I := I) (k := 63) (by decide), zput5_o (I := I) (k := 64) (by decide)]
      by_cases ec : c = n
      · simp only [if_pos ec]
        exact ⟨by simp, ⟨k / 10, by omega, d1⟩, ⟨u, hu, rfl⟩, ⟨k % 10, Nat.mod_lt _ (by decide), d2⟩, ⟨0, by decide, rfl⟩⟩
      · simp only [if_neg ec]
        exact a.2.2.2 c (by omega)
  · rw [zcM_n h, zcT_n h]
    exact ⟨n, a, b, c, d, e, f, g⟩
