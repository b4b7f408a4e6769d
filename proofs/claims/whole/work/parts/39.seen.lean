/-! sheets, and what of a sheet is a sum of a heap -/
theorem zx_s {s : Nat} (hs : s < 4) (tg : Option Nat) : zk_rf tg 26 s = some (52 + 2 * s) ∧ zk_rf tg (52 + 2 * s) 0 = some (53 + 2 * s) := by
  rcases (show s = 0 ∨ s = 1 ∨ s = 2 ∨ s = 3 by omega) with rfl | rfl | rfl | rfl <;> cases tg <;> exact ⟨rfl, rfl⟩
theorem zx_s1 {s : Nat} (hs : s < 4) : zk_sh (52 + 2 * s) = (0, 2, 3) ∧ zk_sh (53 + 2 * s) = (1, 40, 0) ∧ (52 + 2 * s < 83) = True ∧ (53 + 2 * s < 83) = True := by
  rcases (show s = 0 ∨ s = 1 ∨ s = 2 ∨ s = 3 by omega) with rfl | rfl | rfl | rfl <;> simp <;> decide
def zj_sh (I : Nat → Nat → Int32) (Z : Nat → Nat) : Prop := ∀ s, s < 4 → I 69 s = I (52 + 2 * s) 1 ∧ I (52 + 2 * s) 2 = nI (Z s) ∧ I 70 s = nI (Z s) ∧ Z s ≤ 40 ∧ ∀ j, j < Z s → I 71 (40 * s + j) = I (53 + 2 * s) j
theorem zF.sh {I I' : Nat → Nat → Int32} {Z : Nat → Nat} (h : zF I I') (hz : zj_sh I Z) : zj_sh I' Z := by
  intro s hs
  have a1 : zKp (52 + 2 * s) = true := by unfold zKp; simp; omega
  have a2 : zKp (53 + 2 * s) = true := by unfold zKp; simp; omega
  rw [h _ a1, h _ a2, h 69 rfl, h 70 rfl, h 71 rfl]
  exact hz s hs
theorem zs_k {s : Nat} (hs : s < 4) (I I' : Nat → Nat → Int32) (h : zF I I') : I' (52 + 2 * s) = I (52 + 2 * s) ∧ I' (53 + 2 * s) = I (53 + 2 * s) := by
  have a1 : zKp (52 + 2 * s) = true := by unfold zKp; simp; omega
  have a2 : zKp (53 + 2 * s) = true := by unfold zKp; simp; omega
  exact ⟨h _ a1, h _ a2⟩
theorem zn_34 {s : Int32} : (s ≤ 3) = (s < 4) := (zn_lt1 (x := s) (m := 3) (by decide)).symm
def zhav (f : Nat → Int32) (n : Nat) (sum : Int32) : Nat → Nat
  | 0 => 0
  | h + 1 => if zsum f h n = sum then zhav f n sum h + 1 else zhav f n sum h
theorem s84 {sc : zk_X} {d : Nat} {I : Nat → Nat → Int32} {tg : Option Nat} {P : Option Value → zk_M → Prop} {n : Nat} {f : Nat → Int32} {sum : Int32} (h10 : n ≤ 10) (hall : I 15 3 = nI (2 ^ n - 1)) (hs : ∀ h, h < 2 ^ n → I 18 h = zsum f h n) : zk_R sc d 84 0 [some (.ref (15 : Nat)), some (.int sum), none, none] [] (zk_mk I tg) P = P (some (.int (nI (zhav f n sum (2 ^ n))))) (zk_mk I tg) := by
  refine zk_R_det ?_ P
  have p10 := zp_10 h10
  have loop := zl_fn (fun i => zk_R sc d 84 4 [some (.ref (15 : Nat)), some (.int sum), some (.int (nI (zhav f n sum i))), some (.int (nI i))] [] (zk_mk I tg) (fun r M' => r = some (.int (nI (zhav f n sum (2 ^ n)))) ∧ M' = zk_mk I tg)) (2 ^ n) (by
      rw [u84_4]
      simp only [u84_0, u84_1, u84_2, u84_3, u84_5, u84_6, u84_9, u84_12, u84_13, u84_16, u84_17, u84_18, u84_19, u84_22, u84_25, u84_28, u84_31, u84_32, zk_mk_1, zk_mk_I, zk_mk_R, zk_mk_set, zk_mk_setR, zk_mk_cpy, zk_rv_some, zk_rv_none, Option.toList_some, Option.toList_none, List.cons_append, List.nil_append, reduceIte, eq_self, Nat.reduceLT, Nat.reduceEqDiff, and_true, true_and, reduceCtorEq, zsh_15, hall]
      have hcond : nI (2 ^ n - 1) < nI (2 ^ n) := by rw [zn_lt (by omega) (by omega)]; omega
      first | rw [if_pos hcond] | rw [if_neg (Int32.not_le.mpr hcond)]
      trivial) (by
      intro i hi ih
      have z1 : zk_inb (nI i) 1024 = true := by rw [zn_in (by omega)]; omega
      have z2 : (nI i).toNatClampNeg = i := zn_cl (by omega)
      rw [u84_4]
      simp only [u84_0, u84_1, u84_2, u84_3, u84_5, u84_6, u84_9, u84_12, u84_13, u84_16, u84_17, u84_18, u84_19, u84_22, u84_25, u84_28, u84_31, u84_32, zk_mk_1, zk_mk_I, zk_mk_R, zk_mk_set, zk_mk_setR, zk_mk_cpy, zk_rv_some, zk_rv_none, Option.toList_some, Option.toList_none, List.cons_append, List.nil_append, reduceIte, eq_self, Nat.reduceLT, Nat.reduceEqDiff, and_true, true_and, reduceCtorEq, zsh_15, zsh_18, zrf_15_2, hall, z1, z2, hs i hi, nI_1]
      have hcond : nI i ≤ nI (2 ^ n - 1) := by rw [zn_le (by omega) (by omega)]; omega
      first | rw [if_pos hcond] | rw [if_neg (Int32.not_lt.mpr hcond)]
      rw [zhav] at ih
      by_cases hc : zsum f i n = sum
      · rw [if_pos hc] at ih ⊢; exact ih
      · rw [if_neg hc] at ih ⊢; exact ih)
  simp only [u84_0, u84_1, u84_2, u84_3, u84_5, u84_6, u84_9, u84_12, u84_13, u84_16, u84_17, u84_18, u84_19, u84_22, u84_25, u84_28, u84_31, u84_32, zk_mk_1, zk_mk_I, zk_mk_R, zk_mk_set, zk_mk_setR, zk_mk_cpy, zk_rv_some, zk_rv_none, Option.toList_some, Option.toList_none, List.cons_append, List.nil_append, reduceIte, eq_self, Nat.reduceLT, Nat.reduceEqDiff, and_true, true_and, reduceCtorEq]
  exact loop 0 (Nat.zero_le _)
theorem s201 {sc : zk_X} {d : Nat} {I : Nat → Nat → Int32} {tg : Option Nat} {P : Option Value → zk_M → Prop} {n : Nat} {f : Nat → Int32} {sum : Int32} (h10 : n ≤ 10) (hn : I 60 0 = nI n) (hs : zv_rows I 78 79 f n) : zk_R sc (d + 1) 201 0 [some (.ref (60 : Nat)), some (.int sum), none, none] [] (zk_mk I tg) P = P (some (.int (nI (zhav f n sum (2 ^ n))))) (zk_mk I tg) := by
  refine zk_R_det ?_ P
  have p10 := zp_10 h10
  have eall : (1 : Int32) <<< (nI n &&& 31) - 1 = nI (2 ^ n - 1) := by rw [zq_all h10]; exact zn_sub (b := 1) (by omega)
  have loop := zl_fn (fun i => zk_R sc (d + 1) 201 4 [some (.ref (60 : Nat)), some (.int sum), some (.int (nI (zhav f n sum i))), some (.int (nI i))] [] (zk_mk I tg) (fun r M' => r = some (.int (nI (zhav f n sum (2 ^ n)))) ∧ M' = zk_mk I tg)) (2 ^ n) (by
      rw [u201_4]
      simp only [u201_0, u201_1, u201_2, u201_3, u201_5, u201_6, u201_9, u201_12, u201_13, u201_14, u201_17, u201_18, u201_19, u201_20, u201_23, u201_24, u201_27, u201_28, u201_29, u201_30, u201_33, u201_36, u201_37, zk_mk_1, zk_mk_I, zk_mk_R, zk_mk_set, zk_mk_setR, zk_mk_cpy, zk_rv_some, zk_rv_none, Option.toList_some, Option.toList_none, List.cons_append, List.nil_append, reduceIte, eq_self, Nat.reduceLT, Nat.reduceEqDiff, and_true, true_and, reduceCtorEq, zsh_60, s161, hn, eall]
      have hcond : nI (2 ^ n - 1) < nI (2 ^ n) := by rw [zn_lt (by omega) (by omega)]; omega
      first | rw [if_pos hcond] | rw [if_neg (Int32.not_le.mpr hcond)]
      trivial) (by
      intro i hi ih
      have z1 : zk_inb (nI i) 1024 = true := by rw [zn_in (by omega)]; omega
      have z2 : (nI i).toNatClampNeg = i := zn_cl (by omega)
      rw [u201_4]
      simp only [u201_0, u201_1, u201_2, u201_3, u201_5, u201_6, u201_9, u201_12, u201_13, u201_14, u201_17, u201_18, u201_19, u201_20, u201_23, u201_24, u201_27, u201_28, u201_29, u201_30, u201_33, u201_36, u201_37, zk_mk_1, zk_mk_I, zk_mk_R, zk_mk_set, zk_mk_setR, zk_mk_cpy, zk_rv_some, zk_rv_none, Option.toList_some, Option.toList_none, List.cons_append, List.nil_append, reduceIte, eq_self, Nat.reduceLT, Nat.reduceEqDiff, and_true, true_and, reduceCtorEq, zsh_60, zsh_78, zrf_60_31, s161, hn, eall, z1, z2, (hs i hi).1, nI_1]
      have hcond : nI i ≤ nI (2 ^ n - 1) := by rw [zn_le (by omega) (by omega)]; omega
      first | rw [if_pos hcond] | rw [if_neg (Int32.not_lt.mpr hcond)]
      rw [zhav] at ih
      by_cases hc : zsum f i n = sum
      · rw [if_pos hc] at ih ⊢; exact ih
      · rw [if_neg hc] at ih ⊢
        rw [Int32.add_zero]; exact ih)
  simp only [u201_0, u201_1, u201_2, u201_3, u201_5, u201_6, u201_9, u201_12, u201_13, u201_14, u201_17, u201_18, u201_19, u201_20, u201_23, u201_24, u201_27, u201_28, u201_29, u201_30, u201_33, u201_36, u201_37, zk_mk_1, zk_mk_I, zk_mk_R, zk_mk_set, zk_mk_setR, zk_mk_cpy, zk_rv_some, zk_rv_none, Option.toList_some, Option.toList_none, List.cons_append, List.nil_append, reduceIte, eq_self, Nat.reduceLT, Nat.reduceEqDiff, and_true, true_and, reduceCtorEq]
  exact loop 0 (Nat.zero_le _)
def zseen (f : Nat → Int32) (n : Nat) (v : Nat → Int32) : Nat → Int32 × Int32
  | 0 => (-1, 0)
  | i + 1 => (if nI (zhav f n (v i) (2 ^ n)) = 0 ∧ (zseen f n v i).1 = -1 then nI i else (zseen f n v i).1, (zseen f n v i).2 + nI (zhav f n (v i) (2 ^ n)))
def zA_seen (I : Nat → Nat → Int32) (n : Nat) (T e : Nat → Nat) (Z : Nat → Nat) (s what : Int32) : Int32 := if (0 ≤ s ∧ s < 4) ∧ 0 ≤ what ∧ what ≤ 1 then (if I (52 + 2 * s.toNatClampNeg) 1 = -1 then -11 else if what = 0 then (zseen (zv_now I n T e) n (I (53 + 2 * s.toNatClampNeg)) (Z s.toNatClampNeg)).1 else (zseen (zv_now I n T e) n (I (53 + 2 * s.toNatClampNeg)) (Z s.toNatClampNeg)).2) else -2
theorem s45 {sc : zk_X} {d : Nat} {I : Nat → Nat → Int32} {tg : Option Nat} {P : Option Value → zk_M → Prop} {n t : Nat} {T e : Nat → Nat} {Z : Nat → Nat} {s what : Int32} (hq : zj_q I n t T e) (hz : zj_sh I Z)
    (K : ∀ I' : Nat → Nat → Int32, zF I I' → P (some (.int (zA_seen I n T e Z s what))) (zk_mk I' tg)) : zk_R sc (d + 6) 45 0 [some (.ref (0 : Nat)), some (.int s), some (.int what), none, none, none, none] [] (zk_mk I tg) P := by
  obtain ⟨hj, hl, hr, ht, hx⟩ := hq
  unfold zA_seen at K
  simp only [u45_0, u45_1, u45_4, u45_7, u45_8, u45_11, u45_12, u45_13, u45_16, u45_18, u45_19, u45_20, u45_23, u45_24, u45_25, u45_28, u45_29, u45_32, u45_34, u45_35, u45_36, u45_39, u45_40, u45_41, u45_42, u45_44, u45_45, u45_49, u45_50, u45_53, u45_54, u45_55, u45_58, u45_61, u45_62, u45_65, u45_66, u45_69, u45_70, u45_71, u45_74, u45_76, u45_77, u45_80, u45_82, u45_84, u45_86, u45_87, u45_89, u45_91, u45_94, u45_95, u45_96, u45_99, u45_101, u45_102, u45_105, u45_108, u45_109, u45_112, u45_113, u45_116, u45_118, zk_mk_1, zk_mk_I, zk_mk_R, zk_mk_set, zk_mk_setR, zk_mk_cpy, zk_rv_some, zk_rv_none, Option.toList_some, Option.toList_none, List.cons_append, List.nil_append, reduceIte, eq_self, Nat.reduceLT, Nat.reduceEqDiff, and_true, true_and, reduceCtorEq, zsh_0, s38, zb_z]
  by_cases hw : (0 ≤ s ∧ s < 4) ∧ 0 ≤ what ∧ what ≤ 1
  · rw [if_pos hw] at K
    rw [if_neg (fun q => q hw.1), if_neg (Int32.not_lt.mpr hw.2.1), if_pos hw.2.2]
    obtain ⟨k, hk, rfl⟩ := zn_of (m := 4) hw.1.1 hw.1.2 (by decide)
    have y1 : zk_inb (nI k) 4 = true := by rw [zn_in (by omega)]; omega
    have y2 : (nI k).toNatClampNeg = k := zn_cl (by omega)
    obtain ⟨x1, x2⟩ := zx_s hk tg
    obtain ⟨x3, x4, x5, x6⟩ := zx_s1 hk
    obtain ⟨q1, q2, q3, q4, q5⟩ := hz k hk
    simp only [y2] at K
    simp only [u45_0, u45_1, u45_4, u45_7, u45_8, u45_11, u45_12, u45_13, u45_16, u45_18, u45_19, u45_20, u45_23, u45_24, u45_25, u45_28, u45_29, u45_32, u45_34, u45_35, u45_36, u45_39, u45_40, u45_41, u45_42, u45_44, u45_45, u45_49, u45_50, u45_53, u45_54, u45_55, u45_58, u45_61, u45_62, u45_65, u45_66, u45_69, u45_70, u45_71, u45_74, u45_76, u45_77, u45_80, u45_82, u45_84, u45_86, u45_87, u45_89, u45_91, u45_94, u45_95, u45_96, u45_99, u45_101, u45_102, u45_105, u45_108, u45_109, u45_112, u45_113, u45_116, u45_118, zk_mk_1, zk_mk_I, zk_mk_R, zk_mk_set, zk_mk_setR, zk_mk_cpy, zk_rv_some, zk_rv_none, Option.toList_some, Option.toList_none, List.cons_append, List.nil_append, reduceIte, eq_self, Nat.reduceLT, Nat.reduceEqDiff, and_true, true_and, reduceCtorEq, zsh_0, zsh_26, zrf_0_8, y1, y2, x1, x2, x3, x4, x5, x6]
    by_cases hm : I (52 + 2 * k) 1 = -1
    · rw [if_pos hm] at K ⊢
      exact K I (zF_refl I)
    · rw [if_neg hm] at K ⊢
      refine s21 hj ht hl hx (fun I' h1 h2 h3 h4 => ?_)
      obtain ⟨k1, k2⟩ := zs_k hk I I' h1
      have K2 := K I' h1
      have loop := zl_up (τ := Option Value) (fun i x => zk_R sc (d + 6) 45 47 [some (.ref (0 : Nat)), some (.int (nI k)), some (.int what), some (.int (zseen (zv_now I n T e) n (I (53 + 2 * k)) i).1), some (.int (zseen (zv_now I n T e) n (I (53 + 2 * k)) i).2), some (.int (nI i)), x] [] (zk_mk I' tg) P)
        (fun _ _ => True) (Z k) (by
          intro x _
          rw [u45_47]
          simp only [u45_0, u45_1, u45_4, u45_7, u45_8, u45_11, u45_12, u45_13, u45_16, u45_18, u45_19, u45_20, u45_23, u45_24, u45_25, u45_28, u45_29, u45_32, u45_34, u45_35, u45_36, u45_39, u45_40, u45_41, u45_42, u45_44, u45_45, u45_49, u45_50, u45_53, u45_54, u45_55, u45_58, u45_61, u45_62, u45_65, u45_66, u45_69, u45_70, u45_71, u45_74, u45_76, u45_77, u45_80, u45_82, u45_84, u45_86, u45_87, u45_89, u45_91, u45_94, u45_95, u45_96, u45_99, u45_101, u45_102, u45_105, u45_108, u45_109, u45_112, u45_113, u45_116, u45_118, zk_mk_1, zk_mk_I, zk_mk_R, zk_mk_set, zk_mk_setR, zk_mk_cpy, zk_rv_some, zk_rv_none, Option.toList_some, Option.toList_none, List.cons_append, List.nil_append, reduceIte, eq_self, Nat.reduceLT, Nat.reduceEqDiff, and_true, true_and, reduceCtorEq, zsh_0, zsh_26, zrf_0_8, y1, y2, x1, x2, x3, x4, x5, x6, k1, k2, q2]
          rw [if_pos (nI_le (Nat.le_refl _) (by omega))]
          by_cases h0 : what = 0
          · rw [if_pos h0] at K2 ⊢; exact K2
          · rw [if_neg h0] at K2 ⊢; exact K2) (by
          intro i x hi _ ih
          have z1 : zk_inb (nI i) 40 = true := by rw [zn_in (by omega)]; omega
          have z2 : (nI i).toNatClampNeg = i := zn_cl (by omega)
          rw [u45_47]
          simp only [u45_0, u45_1, u45_4, u45_7, u45_8, u45_11, u45_12, u45_13, u45_16, u45_18, u45_19, u45_20, u45_23, u45_24, u45_25, u45_28, u45_29, u45_32, u45_34, u45_35, u45_36, u45_39, u45_40, u45_41, u45_42, u45_44, u45_45, u45_49, u45_50, u45_53, u45_54, u45_55, u45_58, u45_61, u45_62, u45_65, u45_66, u45_69, u45_70, u45_71, u45_74, u45_76, u45_77, u45_80, u45_82, u45_84, u45_86, u45_87, u45_89, u45_91, u45_94, u45_95, u45_96, u45_99, u45_101, u45_102, u45_105, u45_108, u45_109, u45_112, u45_113, u45_116, u45_118, zk_mk_1, zk_mk_I, zk_mk_R, zk_mk_set, zk_mk_setR, zk_mk_cpy, zk_rv_some, zk_rv_none, Option.toList_some, Option.toList_none, List.cons_append, List.nil_append, reduceIte, eq_self, Nat.reduceLT, Nat.reduceEqDiff, and_true, true_and, reduceCtorEq, zsh_0, zsh_15, zsh_26, zrf_0_7, zrf_0_8, y1, y2, x1, x2, x3, x4, x5, x6, k1, k2, q2, z1, z2]
          rw [if_neg (nI_ge hi (by omega)), s84 hj.2.2.1 h3 (fun h hh => (h4 h hh).1)]
          simp only [u45_0, u45_1, u45_4, u45_7, u45_8, u45_11, u45_12, u45_13, u45_16, u45_18, u45_19, u45_20, u45_23, u45_24, u45_25, u45_28, u45_29, u45_32, u45_34, u45_35, u45_36, u45_39, u45_40, u45_41, u45_42, u45_44, u45_45, u45_49, u45_50, u45_53, u45_54, u45_55, u45_58, u45_61, u45_62, u45_65, u45_66, u45_69, u45_70, u45_71, u45_74, u45_76, u45_77, u45_80, u45_82, u45_84, u45_86, u45_87, u45_89, u45_91, u45_94, u45_95, u45_96, u45_99, u45_101, u45_102, u45_105, u45_108, u45_109, u45_112, u45_113, u45_116, u45_118, zk_mk_1, zk_mk_I, zk_mk_R, zk_mk_set, zk_mk_setR, zk_mk_cpy, zk_rv_some, zk_rv_none, Option.toList_some, Option.toList_none, List.cons_append, List.nil_append, reduceIte, eq_self, Nat.reduceLT, Nat.reduceEqDiff, and_true, true_and, reduceCtorEq, nI_1]
          have ih2 := ih (some (.int (nI (zhav (zv_now I n T e) n (I (53 + 2 * k) i) (2 ^ n))))) trivial
          rw [zseen] at ih2
          by_cases c1 : nI (zhav (zv_now I n T e) n (I (53 + 2 * k) i) (2 ^ n)) = 0
          · by_cases c2 : (zseen (zv_now I n T e) n (I (53 + 2 * k)) i).1 = -1
            · rw [if_pos c1, if_pos c2]
              rw [if_pos ⟨c1, c2⟩] at ih2
              exact ih2
            · rw [if_pos c1, if_neg c2]
              rw [if_neg (fun q => c2 q.2)] at ih2
              exact ih2
          · rw [if_neg c1]
            rw [if_neg (fun q => c1 q.1)] at ih2
            exact ih2)
      simp only [u45_0, u45_1, u45_4, u45_7, u45_8, u45_11, u45_12, u45_13, u45_16, u45_18, u45_19, u45_20, u45_23, u45_24, u45_25, u45_28, u45_29, u45_32, u45_34, u45_35, u45_36, u45_39, u45_40, u45_41, u45_42, u45_44, u45_45, u45_49, u45_50, u45_53, u45_54, u45_55, u45_58, u45_61, u45_62, u45_65, u45_66, u45_69, u45_70, u45_71, u45_74, u45_76, u45_77, u45_80, u45_82, u45_84, u45_86, u45_87, u45_89, u45_91, u45_94, u45_95, u45_96, u45_99, u45_101, u45_102, u45_105, u45_108, u45_109, u45_112, u45_113, u45_116, u45_118, zk_mk_1, zk_mk_I, zk_mk_R, zk_mk_set, zk_mk_setR, zk_mk_cpy, zk_rv_some, zk_rv_none, Option.toList_some, Option.toList_none, List.cons_append, List.nil_append, reduceIte, eq_self, Nat.reduceLT, Nat.reduceEqDiff, and_true, true_and, reduceCtorEq]
      exact loop 0 none (Nat.zero_le _) trivial
  · rw [if_neg hw] at K
    have K2 := K I (zF_refl I)
    by_cases h1 : 0 ≤ s ∧ s < 4
    · rw [if_neg (fun q => q h1)]
      split
      · exact K2
      · next q3 =>
        rw [if_neg (fun q => hw ⟨h1, Int32.not_lt.mp q3, q⟩)]
        exact K2
    · rw [if_pos h1]
      exact K2
theorem s200 {sc : zk_X} {d : Nat} {I : Nat → Nat → Int32} {tg : Option Nat} {P : Option Value → zk_M → Prop} {n t : Nat} {T e : Nat → Nat} {Z : Nat → Nat} {s what : Int32} (hq : zj_q I n t T e) (hz : zj_sh I Z)
    (K : ∀ I' : Nat → Nat → Int32, zF I I' → P (some (.int (zA_seen I n T e Z s what))) (zk_mk I' tg)) : zk_R sc (d + 6) 200 0 [some (.ref (60 : Nat)), some (.int s), some (.int what), none, none, none, none] [] (zk_mk I tg) P := by
  obtain ⟨hj, hl, hr, ht, hx⟩ := hq
  have h10 := hj.2.2.1
  unfold zA_seen at K
  simp only [u200_0, u200_1, u200_2, u200_3, u200_6, u200_9, u200_10, u200_11, u200_12, u200_15, u200_18, u200_20, u200_21, u200_22, u200_25, u200_26, u200_27, u200_28, u200_31, u200_33, u200_34, u200_35, u200_38, u200_39, u200_40, u200_41, u200_43, u200_44, u200_48, u200_49, u200_52, u200_53, u200_54, u200_57, u200_58, u200_59, u200_62, u200_64, u200_65, u200_66, u200_68, u200_69, u200_70, u200_73, u200_75, u200_77, u200_80, u200_81, u200_82, u200_85, u200_87, u200_90, u200_91, u200_92, u200_94, u200_96, u200_97, u200_99, u200_102, u200_105, u200_106, u200_109, u200_110, u200_113, u200_115, zk_mk_1, zk_mk_I, zk_mk_R, zk_mk_set, zk_mk_setR, zk_mk_cpy, zk_rv_some, zk_rv_none, Option.toList_some, Option.toList_none, List.cons_append, List.nil_append, reduceIte, eq_self, Nat.reduceLT, Nat.reduceEqDiff, and_true, true_and, reduceCtorEq, zsh_60, s129, zb_z, zn_34]
  by_cases hs : 0 ≤ s ∧ s < 4
  · rw [if_neg (fun q => q hs)]
    by_cases hw : 0 ≤ what ∧ what ≤ 1
    · rw [if_neg (fun q => q hw)]
      rw [if_pos ⟨hs, hw⟩] at K
      obtain ⟨k, hk, rfl⟩ := zn_of (m := 4) hs.1 hs.2 (by decide)
      have y1 : zk_inb (nI k) 4 = true := by rw [zn_in (by omega)]; omega
      have y2 : (nI k).toNatClampNeg = k := zn_cl (by omega)
      obtain ⟨q1, q2, q3, q4, q5⟩ := hz k hk
      simp only [y2] at K
      simp only [u200_0, u200_1, u200_2, u200_3, u200_6, u200_9, u200_10, u200_11, u200_12, u200_15, u200_18, u200_20, u200_21, u200_22, u200_25, u200_26, u200_27, u200_28, u200_31, u200_33, u200_34, u200_35, u200_38, u200_39, u200_40, u200_41, u200_43, u200_44, u200_48, u200_49, u200_52, u200_53, u200_54, u200_57, u200_58, u200_59, u200_62, u200_64, u200_65, u200_66, u200_68, u200_69, u200_70, u200_73, u200_75, u200_77, u200_80, u200_81, u200_82, u200_85, u200_87, u200_90, u200_91, u200_92, u200_94, u200_96, u200_97, u200_99, u200_102, u200_105, u200_106, u200_109, u200_110, u200_113, u200_115, zk_mk_1, zk_mk_I, zk_mk_R, zk_mk_set, zk_mk_setR, zk_mk_cpy, zk_rv_some, zk_rv_none, Option.toList_some, Option.toList_none, List.cons_append, List.nil_append, reduceIte, eq_self, Nat.reduceLT, Nat.reduceEqDiff, and_true, true_and, reduceCtorEq, zsh_60, zsh_69, zrf_60_15, y1, y2, q1]
      by_cases hm : I (52 + 2 * k) 1 = -1
      · rw [if_pos hm] at K ⊢
        exact K I (zF_refl I)
      · rw [if_neg hm] at K ⊢
        refine s162 hj ht hr hx (fun I' h1 h2 h3 => ?_)
        have hn' : I' 60 0 = nI n := (h1.tab hj).2.1
        obtain ⟨k1, k2⟩ := zs_k hk I I' h1
        have e70 : I' 70 = I 70 := h1 70 rfl
        have e71 : I' 71 = I 71 := h1 71 rfl
        have K2 := K I' h1
        have loop := zl_up (τ := Option Value) (fun i x => zk_R sc (d + 6) 200 46 [some (.ref (60 : Nat)), some (.int (nI k)), some (.int what), some (.int (zseen (zv_now I n T e) n (I (53 + 2 * k)) i).1), some (.int (zseen (zv_now I n T e) n (I (53 + 2 * k)) i).2), some (.int (nI i)), x] [] (zk_mk I' tg) P)
          (fun _ _ => True) (Z k) (by
            intro x _
            rw [u200_46]
            simp only [u200_0, u200_1, u200_2, u200_3, u200_6, u200_9, u200_10, u200_11, u200_12, u200_15, u200_18, u200_20, u200_21, u200_22, u200_25, u200_26, u200_27, u200_28, u200_31, u200_33, u200_34, u200_35, u200_38, u200_39, u200_40, u200_41, u200_43, u200_44, u200_48, u200_49, u200_52, u200_53, u200_54, u200_57, u200_58, u200_59, u200_62, u200_64, u200_65, u200_66, u200_68, u200_69, u200_70, u200_73, u200_75, u200_77, u200_80, u200_81, u200_82, u200_85, u200_87, u200_90, u200_91, u200_92, u200_94, u200_96, u200_97, u200_99, u200_102, u200_105, u200_106, u200_109, u200_110, u200_113, u200_115, zk_mk_1, zk_mk_I, zk_mk_R, zk_mk_set, zk_mk_setR, zk_mk_cpy, zk_rv_some, zk_rv_none, Option.toList_some, Option.toList_none, List.cons_append, List.nil_append, reduceIte, eq_self, Nat.reduceLT, Nat.reduceEqDiff, and_true, true_and, reduceCtorEq, zsh_60, zsh_70, zrf_60_16, y1, y2, e70, q3]
            rw [if_pos (nI_le (Nat.le_refl _) (by omega))]
            by_cases h0 : what = 0
            · rw [if_pos h0] at K2 ⊢; exact K2
            · rw [if_neg h0] at K2 ⊢; exact K2) (by
            intro i x hi _ ih
            have ei : (40 : Int32) * nI k + nI i = nI (40 * k + i) := by rw [show (40 : Int32) = nI 40 from rfl, zn_mul, zn_add]
            have z1 : zk_inb (nI (40 * k + i)) 160 = true := by rw [zn_in (by omega)]; omega
            have z2 : (nI (40 * k + i)).toNatClampNeg = 40 * k + i := zn_cl (by omega)
            rw [u200_46]
            simp only [u200_0, u200_1, u200_2, u200_3, u200_6, u200_9, u200_10, u200_11, u200_12, u200_15, u200_18, u200_20, u200_21, u200_22, u200_25, u200_26, u200_27, u200_28, u200_31, u200_33, u200_34, u200_35, u200_38, u200_39, u200_40, u200_41, u200_43, u200_44, u200_48, u200_49, u200_52, u200_53, u200_54, u200_57, u200_58, u200_59, u200_62, u200_64, u200_65, u200_66, u200_68, u200_69, u200_70, u200_73, u200_75, u200_77, u200_80, u200_81, u200_82, u200_85, u200_87, u200_90, u200_91, u200_92, u200_94, u200_96, u200_97, u200_99, u200_102, u200_105, u200_106, u200_109, u200_110, u200_113, u200_115, zk_mk_1, zk_mk_I, zk_mk_R, zk_mk_set, zk_mk_setR, zk_mk_cpy, zk_rv_some, zk_rv_none, Option.toList_some, Option.toList_none, List.cons_append, List.nil_append, reduceIte, eq_self, Nat.reduceLT, Nat.reduceEqDiff, and_true, true_and, reduceCtorEq, zsh_60, zsh_70, zsh_71, zrf_60_16, zrf_60_17, y1, y2, e70, e71, q3, ei, z1, z2, q5 i hi]
            rw [if_neg (nI_ge hi (by omega)), s201 h10 hn' h3]
            simp only [u200_0, u200_1, u200_2, u200_3, u200_6, u200_9, u200_10, u200_11, u200_12, u200_15, u200_18, u200_20, u200_21, u200_22, u200_25, u200_26, u200_27, u200_28, u200_31, u200_33, u200_34, u200_35, u200_38, u200_39, u200_40, u200_41, u200_43, u200_44, u200_48, u200_49, u200_52, u200_53, u200_54, u200_57, u200_58, u200_59, u200_62, u200_64, u200_65, u200_66, u200_68, u200_69, u200_70, u200_73, u200_75, u200_77, u200_80, u200_81, u200_82, u200_85, u200_87, u200_90, u200_91, u200_92, u200_94, u200_96, u200_97, u200_99, u200_102, u200_105, u200_106, u200_109, u200_110, u200_113, u200_115, zk_mk_1, zk_mk_I, zk_mk_R, zk_mk_set, zk_mk_setR, zk_mk_cpy, zk_rv_some, zk_rv_none, Option.toList_some, Option.toList_none, List.cons_append, List.nil_append, reduceIte, eq_self, Nat.reduceLT, Nat.reduceEqDiff, and_true, true_and, reduceCtorEq, nI_1]
            have ih2 := ih (some (.int (nI (zhav (zv_now I n T e) n (I (53 + 2 * k) i) (2 ^ n))))) trivial
            rw [zseen] at ih2
            by_cases c1 : nI (zhav (zv_now I n T e) n (I (53 + 2 * k) i) (2 ^ n)) = 0
            · by_cases c2 : (zseen (zv_now I n T e) n (I (53 + 2 * k)) i).1 = -1
              · rw [if_pos c1, if_pos c2]
                rw [if_pos ⟨c1, c2⟩] at ih2
                exact ih2
              · rw [if_pos c1, if_neg c2]
                rw [if_neg (fun q => c2 q.2)] at ih2
                exact ih2
            · rw [if_neg c1]
              rw [if_neg (fun q => c1 q.1)] at ih2
              exact ih2)
        simp only [u200_0, u200_1, u200_2, u200_3, u200_6, u200_9, u200_10, u200_11, u200_12, u200_15, u200_18, u200_20, u200_21, u200_22, u200_25, u200_26, u200_27, u200_28, u200_31, u200_33, u200_34, u200_35, u200_38, u200_39, u200_40, u200_41, u200_43, u200_44, u200_48, u200_49, u200_52, u200_53, u200_54, u200_57, u200_58, u200_59, u200_62, u200_64, u200_65, u200_66, u200_68, u200_69, u200_70, u200_73, u200_75, u200_77, u200_80, u200_81, u200_82, u200_85, u200_87, u200_90, u200_91, u200_92, u200_94, u200_96, u200_97, u200_99, u200_102, u200_105, u200_106, u200_109, u200_110, u200_113, u200_115, zk_mk_1, zk_mk_I, zk_mk_R, zk_mk_set, zk_mk_setR, zk_mk_cpy, zk_rv_some, zk_rv_none, Option.toList_some, Option.toList_none, List.cons_append, List.nil_append, reduceIte, eq_self, Nat.reduceLT, Nat.reduceEqDiff, and_true, true_and, reduceCtorEq]
        exact loop 0 none (Nat.zero_le _) trivial
    · rw [if_pos hw]
      rw [if_neg (fun q => hw q.2)] at K
      exact K I (zF_refl I)
  · rw [if_pos hs]
    rw [if_neg (fun q => hs q.1)] at K
    exact K I (zF_refl I)
