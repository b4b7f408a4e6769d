/-! what a card counts, moves, asks: by both -/
def zf1 (I I' : Nat → Nat → Int32) : Prop := ∀ j, j ≠ 14 → ¬ (28 ≤ j ∧ j < 52 ∧ j % 4 = 3) → I' j = I j
def zg1 (I I' : Nat → Nat → Int32) : Prop := ∀ j, j ≠ 75 → j ≠ 76 → I' j = I j
def zj_a (e : Nat → Nat) (p : Nat) : Nat := if p = 0 then 0 else e (p - 1)
def zj_text (I : Nat → Nat → Int32) (t : Nat) (T e : Nat → Nat) : Prop := (∀ p, p < 3 → I (30 + 4 * t) p = nI (e p) ∧ I 67 (4 * t + p + 1) = nI (e p)) ∧ I 67 (4 * t) = nI 0 ∧ (e 0 ≤ e 1 ∧ e 1 ≤ e 2 ∧ e 2 ≤ 160) ∧ (∀ k, k < e 2 → I (29 + 4 * t) k = zt_c (T k) ∧ I 66 (200 * t + k) = zt_m (T k)) ∧ ∀ p, p < 3 → zt_wf T (zj_a e p) (e p - zj_a e p)
def zj_card (I : Nat → Nat → Int32) (c : Nat) : Prop := (I 61 c = I 2 c ∧ I 62 c = I 3 c ∧ I 63 c = I 4 c ∧ I 64 c = I 5 c) ∧ (∃ k, k < 6 ∧ I 2 c = nI k) ∧ (∃ k, k < 1000 ∧ I 3 c = nI k) ∧ (∃ k, k < 10 ∧ I 4 c = nI k) ∧ ∃ k, k < 3 ∧ I 5 c = nI k
def zj_tab (I : Nat → Nat → Int32) (n : Nat) : Prop := I 1 4 = nI n ∧ I 60 0 = nI n ∧ n ≤ 10 ∧ ∀ c, c < n → zj_card I c
theorem zj_ap {e : Nat → Nat} (h : e 0 ≤ e 1 ∧ e 1 ≤ e 2 ∧ e 2 ≤ 160) {p : Nat} (hp : p < 3) : zj_a e p ≤ e p ∧ e p ≤ 160 ∧ e p ≤ e 2 := by
  unfold zj_a
  rcases (show p = 0 ∨ p = 1 ∨ p = 2 by omega) with rfl | rfl | rfl
  · simp; omega
  · simp; omega
  · simp; omega
theorem zt_run_ext {nm nm' : Nat → Int32} {T : Nat → Nat} {a : Nat} (h : ∀ j, j < 6 → nm j = nm' j) : ∀ k, zt_run nm T a k = zt_run nm' T a k
  | 0 => rfl
  | k + 1 => by
    rw [zt_run, zt_run, zt_run_ext h k]
    unfold zt_st
    by_cases h1 : T (a + k) < 10000
    · rw [if_pos h1, if_pos h1]
    · rw [if_neg h1, if_neg h1]
      by_cases h2 : T (a + k) < 10006
      · rw [if_pos h2, if_pos h2, h _ (by omega)]
      · rw [if_neg h2, if_neg h2]
theorem zt_val_ext {nm nm' : Nat → Int32} {T : Nat → Nat} {a k : Nat} (h : ∀ j, j < 6 → nm j = nm' j) : zt_val nm T a k = zt_val nm' T a k := by
  unfold zt_val
  rw [zt_run_ext h]
def zv_nm (I : Nat → Nat → Int32) (n c : Nat) (left : Int32) (j : Nat) : Int32 := if j = 0 then I 3 c else if j = 1 then I 4 c else if j = 2 then nI c else if j = 3 then nI n else if j = 4 then I 2 c else left
/-- what a part of a text says of a card -/
def zv_said (I : Nat → Nat → Int32) (n : Nat) (T e : Nat → Nat) (p c : Nat) (left : Int32) : Int32 := if p = 0 then zw_in (zt_val (zv_nm I n c left) T (zj_a e p) (e p - zj_a e p)) (-999) 999 else zw_in (zt_val (zv_nm I n c left) T (zj_a e p) (e p - zj_a e p)) 0 99
theorem zv_six {f : Nat → Int32} {g : Nat → Int32} (h0 : f 0 = g 0) (h1 : f 1 = g 1) (h2 : f 2 = g 2) (h3 : f 3 = g 3) (h4 : f 4 = g 4) (h5 : f 5 = g 5) : ∀ j, j < 6 → f j = g j := by
  intro j hj
  rcases (show j = 0 ∨ j = 1 ∨ j = 2 ∨ j = 3 ∨ j = 4 ∨ j = 5 by omega) with rfl | rfl | rfl | rfl | rfl | rfl <;> assumption
theorem s8 {sc : zk_X} {d : Nat} {I : Nat → Nat → Int32} {tg : Option Nat} {P : Option Value → zk_M → Prop} {n t p c : Nat} {left : Int32} {T e : Nat → Nat} (hj : zj_tab I n) (ht : t < 6) (hp : p < 3) (hc : c < n) (hx : zj_text I t T e)
    (K : ∀ I' : Nat → Nat → Int32, zf1 I I' → P (some (.int (zv_said I n T e p c left))) (zk_mk I' tg)) : zk_R sc (d + 2) 8 0 [some (.ref (0 : Nat)), some (.ref (28 + 4 * t)), some (.int (nI p)), some (.int (nI c)), some (.int left), none] [] (zk_mk I tg) P := by
  obtain ⟨hn, hn2, h10, hcs⟩ := hj
  obtain ⟨w1, w2, w3, w4⟩ := zx_83 ht
  have z1 : zk_inb (nI c) 10 = true := by rw [zn_in (by omega)]; omega
  have z2 : (nI c).toNatClampNeg = c := zn_cl (by omega)
  simp only [u8_0, u8_1, u8_4, u8_5, u8_6, u8_9, u8_12, u8_13, u8_14, u8_15, u8_16, u8_19, u8_20, u8_21, u8_24, u8_27, u8_28, u8_29, u8_30, u8_31, u8_34, u8_35, u8_36, u8_37, u8_38, u8_41, u8_42, u8_43, u8_46, u8_49, u8_50, u8_51, u8_54, u8_55, u8_56, u8_59, u8_62, u8_63, u8_64, u8_65, u8_66, u8_69, u8_70, u8_72, u8_73, u8_74, u8_75, u8_76, u8_79, u8_82, u8_84, u8_85, u8_88, u8_90, u8_93, u8_96, u8_99, u8_102, u8_104, u8_105, u8_107, u8_110, zk_mk_1, zk_mk_I, zk_mk_R, zk_mk_set, zk_mk_setR, zk_mk_cpy, zk_rv_some, zk_rv_none, Option.toList_some, Option.toList_none, List.cons_append, List.nil_append, reduceIte, eq_self, Nat.reduceLT, Nat.reduceEqDiff, and_true, true_and, reduceCtorEq, zsh_0, zsh_1, zsh_2, zsh_3, zsh_4, zsh_14, zx_28 ht, zrf_0_0, zrf_0_6, zrf_1_0, zrf_1_1, zrf_1_2, z1, z2, w1, hn, show zk_inb (0 : Int32) 6 = true from by decide, show zk_inb (1 : Int32) 6 = true from by decide, show zk_inb (2 : Int32) 6 = true from by decide, show zk_inb (3 : Int32) 6 = true from by decide, show zk_inb (4 : Int32) 6 = true from by decide, show zk_inb (5 : Int32) 6 = true from by decide, show (0 : Int32).toNatClampNeg = 0 from by decide, show (1 : Int32).toNatClampNeg = 1 from by decide, show (2 : Int32).toNatClampNeg = 2 from by decide, show (3 : Int32).toNatClampNeg = 3 from by decide, show (4 : Int32).toNatClampNeg = 4 from by decide, show (5 : Int32).toNatClampNeg = 5 from by decide, zk_up2_s, zk_up2_k (show (1 : Nat) ≠ 14 by decide), zk_up2_k (show (2 : Nat) ≠ 14 by decide), zk_up2_k (show (3 : Nat) ≠ 14 by decide), zk_up2_k (show (4 : Nat) ≠ 14 by decide)]
  generalize hI : zk_up2 (zk_up2 (zk_up2 (zk_up2 (zk_up2 (zk_up2 I 14 0 (I 3 c)) 14 1 (I 4 c)) 14 2 (nI c)) 14 3 (nI n)) 14 4 (I 2 c)) 14 5 left = I6
  have fr : ∀ j, j ≠ 14 → I6 j = I j := by
    intro j hj
    rw [← hI]
    simp only [zk_up2_r hj]
  have nm : ∀ j, j < 6 → I6 14 j = zv_nm I n c left j := by
    rw [← hI]
    apply zv_six <;> simp [zk_up2_i, zv_nm]
  obtain ⟨x1, x2, x3, x4, x5⟩ := hx
  have ap := zj_ap x3 hp
  refine s124 (T := T) (a := zj_a e p) (k := e p - zj_a e p) ht hp ?_ ?_ (by omega) ?_ (x5 p hp) (fun I' hI' => ?_)
  · rw [fr _ (by omega)]
    unfold zj_a
    by_cases hp0 : p = 0
    · rw [if_pos hp0, if_pos hp0]
    · rw [if_neg hp0, if_neg hp0]; exact (x1 (p - 1) (by omega)).1
  · rw [fr _ (by omega), (x1 p hp).1]
    congr 1
    omega
  · intro i hi
    rw [fr _ (by omega)]
    exact (x4 _ (by omega)).1
  · rw [zt_val_ext nm]
    have hz : zf1 I I' := fun j h1 h2 => by
      rw [hI' j (fun q => h2 (by omega)), fr j h1]
    have K2 := K I' hz
    unfold zv_said at K2
    simp only [u8_0, u8_1, u8_4, u8_5, u8_6, u8_9, u8_12, u8_13, u8_14, u8_15, u8_16, u8_19, u8_20, u8_21, u8_24, u8_27, u8_28, u8_29, u8_30, u8_31, u8_34, u8_35, u8_36, u8_37, u8_38, u8_41, u8_42, u8_43, u8_46, u8_49, u8_50, u8_51, u8_54, u8_55, u8_56, u8_59, u8_62, u8_63, u8_64, u8_65, u8_66, u8_69, u8_70, u8_72, u8_73, u8_74, u8_75, u8_76, u8_79, u8_82, u8_84, u8_85, u8_88, u8_90, u8_93, u8_96, u8_99, u8_102, u8_104, u8_105, u8_107, u8_110, zk_mk_1, zk_mk_I, zk_mk_R, zk_mk_set, zk_mk_setR, zk_mk_cpy, zk_rv_some, zk_rv_none, Option.toList_some, Option.toList_none, List.cons_append, List.nil_append, reduceIte, eq_self, Nat.reduceLT, Nat.reduceEqDiff, and_true, true_and, reduceCtorEq]
    by_cases hp0 : p = 0
    · rw [if_pos hp0] at K2
      rw [if_pos (show nI p = 0 by rw [hp0]; rfl), s9 (by decide)]
      simp only [u8_0, u8_1, u8_4, u8_5, u8_6, u8_9, u8_12, u8_13, u8_14, u8_15, u8_16, u8_19, u8_20, u8_21, u8_24, u8_27, u8_28, u8_29, u8_30, u8_31, u8_34, u8_35, u8_36, u8_37, u8_38, u8_41, u8_42, u8_43, u8_46, u8_49, u8_50, u8_51, u8_54, u8_55, u8_56, u8_59, u8_62, u8_63, u8_64, u8_65, u8_66, u8_69, u8_70, u8_72, u8_73, u8_74, u8_75, u8_76, u8_79, u8_82, u8_84, u8_85, u8_88, u8_90, u8_93, u8_96, u8_99, u8_102, u8_104, u8_105, u8_107, u8_110, zk_mk_1, zk_mk_I, zk_mk_R, zk_mk_set, zk_mk_setR, zk_mk_cpy, zk_rv_some, zk_rv_none, Option.toList_some, Option.toList_none, List.cons_append, List.nil_append, reduceIte, eq_self, Nat.reduceLT, Nat.reduceEqDiff, and_true, true_and, reduceCtorEq]
      exact K2
    · rw [if_neg hp0] at K2
      rw [if_neg (show ¬ nI p = 0 by rw [show (0 : Int32) = nI 0 from rfl, zn_eq (by omega) (by omega)]; exact hp0), s9 (by decide)]
      simp only [u8_0, u8_1, u8_4, u8_5, u8_6, u8_9, u8_12, u8_13, u8_14, u8_15, u8_16, u8_19, u8_20, u8_21, u8_24, u8_27, u8_28, u8_29, u8_30, u8_31, u8_34, u8_35, u8_36, u8_37, u8_38, u8_41, u8_42, u8_43, u8_46, u8_49, u8_50, u8_51, u8_54, u8_55, u8_56, u8_59, u8_62, u8_63, u8_64, u8_65, u8_66, u8_69, u8_70, u8_72, u8_73, u8_74, u8_75, u8_76, u8_79, u8_82, u8_84, u8_85, u8_88, u8_90, u8_93, u8_96, u8_99, u8_102, u8_104, u8_105, u8_107, u8_110, zk_mk_1, zk_mk_I, zk_mk_R, zk_mk_set, zk_mk_setR, zk_mk_cpy, zk_rv_some, zk_rv_none, Option.toList_some, Option.toList_none, List.cons_append, List.nil_append, reduceIte, eq_self, Nat.reduceLT, Nat.reduceEqDiff, and_true, true_and, reduceCtorEq]
      exact K2
theorem s146 {sc : zk_X} {d : Nat} {I : Nat → Nat → Int32} {tg : Option Nat} {P : Option Value → zk_M → Prop} {n t p c : Nat} {left : Int32} {T e : Nat → Nat} (hj : zj_tab I n) (ht : t < 6) (hr : I 60 10 = nI t) (hp : p < 3) (hc : c < n) (hx : zj_text I t T e)
    (K : ∀ I' : Nat → Nat → Int32, zg1 I I' → P (some (.int (zv_said I n T e p c left))) (zk_mk I' tg)) : zk_R sc (d + 2) 146 0 [some (.ref (60 : Nat)), some (.int (nI p)), some (.int (nI c)), some (.int left)] [] (zk_mk I tg) P := by
  obtain ⟨hn, hn2, h10, hcs⟩ := hj
  obtain ⟨⟨c1, c2, c3, c4⟩, -⟩ := hcs c hc
  have z1 : zk_inb (nI c) 10 = true := by rw [zn_in (by omega)]; omega
  have z2 : (nI c).toNatClampNeg = c := zn_cl (by omega)
  obtain ⟨x1, x2, x3, x4, x5⟩ := hx
  have ap := zj_ap x3 hp
  have call : ∀ (I6 : Nat → Nat → Int32), (∀ j, j ≠ 76 → I6 j = I j) → (∀ j, j < 6 → I6 76 j = zv_nm I n c left j) → ∀ P2 : Option Value → zk_M → Prop, (∀ I' : Nat → Nat → Int32, zg1 I I' → P2 (some (.int (zt_val (zv_nm I n c left) T (zj_a e p) (e p - zj_a e p)))) (zk_mk I' tg)) → zk_R sc (d + 1) 147 0 [some (.ref (60 : Nat)), some (.int (nI p)), none, none, none] [] (zk_mk I6 tg) P2 := by
    intro I6 fr nm P2 h
    refine s147 (T := T) (t := t) (a := zj_a e p) (k := e p - zj_a e p) ht (by rw [fr _ (by omega)]; exact hr) hp ?_ ?_ (by omega) ?_ (x5 p hp) (fun I' hI' => ?_)
    · rw [fr _ (by omega)]
      unfold zj_a
      by_cases hp0 : p = 0
      · rw [if_pos hp0, hp0]; exact x2
      · rw [if_neg hp0]
        have := (x1 (p - 1) (by omega)).2
        rwa [show 4 * t + (p - 1) + 1 = 4 * t + p by omega] at this
    · rw [fr _ (by omega), (x1 p hp).2]
      congr 1
      omega
    · intro i hi
      rw [fr _ (by omega)]
      exact (x4 _ (by omega)).2
    · rw [zt_val_ext nm]
      exact h I' (fun j h1 h2 => by rw [hI' j h1, fr j h2])
  simp only [u146_0, u146_1, u146_4, u146_5, u146_6, u146_9, u146_10, u146_11, u146_12, u146_13, u146_16, u146_17, u146_18, u146_21, u146_22, u146_23, u146_24, u146_25, u146_28, u146_29, u146_30, u146_31, u146_32, u146_35, u146_36, u146_37, u146_40, u146_41, u146_42, u146_45, u146_46, u146_47, u146_50, u146_51, u146_52, u146_53, u146_54, u146_57, u146_58, u146_59, u146_60, u146_61, u146_64, u146_65, u146_66, u146_69, u146_72, u146_75, u146_78, u146_81, u146_82, u146_83, u146_86, u146_87, u146_89, u146_92, zk_mk_1, zk_mk_I, zk_mk_R, zk_mk_set, zk_mk_setR, zk_mk_cpy, zk_rv_some, zk_rv_none, Option.toList_some, Option.toList_none, List.cons_append, List.nil_append, reduceIte, eq_self, Nat.reduceLT, Nat.reduceEqDiff, and_true, true_and, reduceCtorEq, zsh_60, zsh_61, zsh_62, zsh_63, zsh_76, zrf_60_1, zrf_60_2, zrf_60_3, zrf_60_29, z1, z2, hn2, show zk_inb (0 : Int32) 6 = true from by decide, show zk_inb (1 : Int32) 6 = true from by decide, show zk_inb (2 : Int32) 6 = true from by decide, show zk_inb (3 : Int32) 6 = true from by decide, show zk_inb (4 : Int32) 6 = true from by decide, show zk_inb (5 : Int32) 6 = true from by decide, show (0 : Int32).toNatClampNeg = 0 from by decide, show (1 : Int32).toNatClampNeg = 1 from by decide, show (2 : Int32).toNatClampNeg = 2 from by decide, show (3 : Int32).toNatClampNeg = 3 from by decide, show (4 : Int32).toNatClampNeg = 4 from by decide, show (5 : Int32).toNatClampNeg = 5 from by decide, zk_up2_s, zk_up2_k (show (61 : Nat) ≠ 76 by decide), zk_up2_k (show (60 : Nat) ≠ 76 by decide), zk_up2_k (show (62 : Nat) ≠ 76 by decide), zk_up2_k (show (63 : Nat) ≠ 76 by decide), c1, c2, c3]
  generalize hI : zk_up2 (zk_up2 (zk_up2 (zk_up2 (zk_up2 (zk_up2 I 76 0 (I 3 c)) 76 1 (I 4 c)) 76 2 (nI c)) 76 3 (nI n)) 76 4 (I 2 c)) 76 5 left = I6
  have fr : ∀ j, j ≠ 76 → I6 j = I j := by
    intro j hj
    rw [← hI]
    simp only [zk_up2_r hj]
  have nm : ∀ j, j < 6 → I6 76 j = zv_nm I n c left j := by
    rw [← hI]
    apply zv_six <;> simp [zk_up2_i, zv_nm]
  by_cases hp0 : p = 0
  · subst hp0
    rw [if_pos (show nI 0 = 0 from rfl)]
    refine call I6 fr nm _ (fun I' hz => ?_)
    have K2 := K I' hz
    simp only [zv_said, reduceIte] at K2
    simp only [u146_0, u146_1, u146_4, u146_5, u146_6, u146_9, u146_10, u146_11, u146_12, u146_13, u146_16, u146_17, u146_18, u146_21, u146_22, u146_23, u146_24, u146_25, u146_28, u146_29, u146_30, u146_31, u146_32, u146_35, u146_36, u146_37, u146_40, u146_41, u146_42, u146_45, u146_46, u146_47, u146_50, u146_51, u146_52, u146_53, u146_54, u146_57, u146_58, u146_59, u146_60, u146_61, u146_64, u146_65, u146_66, u146_69, u146_72, u146_75, u146_78, u146_81, u146_82, u146_83, u146_86, u146_87, u146_89, u146_92, zk_mk_1, zk_mk_I, zk_mk_R, zk_mk_set, zk_mk_setR, zk_mk_cpy, zk_rv_some, zk_rv_none, Option.toList_some, Option.toList_none, List.cons_append, List.nil_append, reduceIte, eq_self, Nat.reduceLT, Nat.reduceEqDiff, and_true, true_and, reduceCtorEq, s149]
    exact K2
  · rw [if_neg (show ¬ nI p = 0 by rw [show (0 : Int32) = nI 0 from rfl, zn_eq (by omega) (by omega)]; exact hp0)]
    refine call I6 fr nm _ (fun I' hz => ?_)
    have K2 := K I' hz
    unfold zv_said at K2
    rw [if_neg hp0] at K2
    simp only [u146_0, u146_1, u146_4, u146_5, u146_6, u146_9, u146_10, u146_11, u146_12, u146_13, u146_16, u146_17, u146_18, u146_21, u146_22, u146_23, u146_24, u146_25, u146_28, u146_29, u146_30, u146_31, u146_32, u146_35, u146_36, u146_37, u146_40, u146_41, u146_42, u146_45, u146_46, u146_47, u146_50, u146_51, u146_52, u146_53, u146_54, u146_57, u146_58, u146_59, u146_60, u146_61, u146_64, u146_65, u146_66, u146_69, u146_72, u146_75, u146_78, u146_81, u146_82, u146_83, u146_86, u146_87, u146_89, u146_92, zk_mk_1, zk_mk_I, zk_mk_R, zk_mk_set, zk_mk_setR, zk_mk_cpy, zk_rv_some, zk_rv_none, Option.toList_some, Option.toList_none, List.cons_append, List.nil_append, reduceIte, eq_self, Nat.reduceLT, Nat.reduceEqDiff, and_true, true_and, reduceCtorEq, s149]
    exact K2

def zv_k (k v m : Int32) : Int32 := if k = 1 then 2 * v else if k = 3 then 2 * v + m else if k = 4 then -v else if k = 5 then m else v
def zv_mv (k v : Int32) : Int32 := if k = 5 then 0 else if k = 3 then 2 * v else if k = 2 ∨ k = 4 then v + 3 else v
/-- what a card counts by a text -/
def zv_cnt (I : Nat → Nat → Int32) (n : Nat) (T e : Nat → Nat) (c : Nat) (left : Int32) : Int32 := zv_k (I 2 c) (zv_said I n T e 0 c left) (I 4 c)
theorem s14 {sc : zk_X} {d : Nat} {I : Nat → Nat → Int32} {tg : Option Nat} {P : Option Value → zk_M → Prop} {n t c : Nat} {left : Int32} {T e : Nat → Nat} (hj : zj_tab I n) (ht : t < 6) (hc : c < n) (hx : zj_text I t T e)
    (K : ∀ I' : Nat → Nat → Int32, zf1 I I' → P (some (.int (zv_cnt I n T e c left))) (zk_mk I' tg)) : zk_R sc (d + 3) 14 0 [some (.ref (0 : Nat)), some (.ref (28 + 4 * t)), some (.int (nI c)), some (.int left), none] [] (zk_mk I tg) P := by
  have h10 := hj.2.2.1
  obtain ⟨-, ⟨kk, hkk, hk⟩, -⟩ := hj.2.2.2 c hc
  obtain ⟨w1, w2, w3, w4⟩ := zx_83 ht
  have z1 : zk_inb (nI c) 10 = true := by rw [zn_in (by omega)]; omega
  have z2 : (nI c).toNatClampNeg = c := zn_cl (by omega)
  simp only [u14_0, u14_1, u14_2, u14_3, u14_4, u14_5, u14_8, u14_10, u14_11, u14_14, u14_17, u14_18, u14_19, u14_52, u14_53, u14_55, u14_56, u14_57, u14_58, u14_60, u14_61, u14_62, u14_65, u14_68, u14_69, u14_70, u14_71, u14_72, u14_74, u14_75, u14_76, u14_77, u14_80, u14_83, u14_84, u14_85, u14_86, u14_88, zk_mk_1, zk_mk_I, zk_mk_R, zk_mk_set, zk_mk_setR, zk_mk_cpy, zk_rv_some, zk_rv_none, Option.toList_some, Option.toList_none, List.cons_append, List.nil_append, reduceIte, eq_self, Nat.reduceLT, Nat.reduceEqDiff, and_true, true_and, reduceCtorEq, zsh_0, zx_28 ht, w1]
  refine s8 (p := 0) hj ht (by decide) hc hx (fun I' hz => ?_)
  have K2 := K I' hz
  have e2 : I' 2 = I 2 := hz _ (by decide) (by decide)
  have e4 : I' 4 = I 4 := hz _ (by decide) (by decide)
  unfold zv_cnt at K2
  simp only [u14_0, u14_1, u14_2, u14_3, u14_4, u14_5, u14_8, u14_10, u14_11, u14_14, u14_17, u14_18, u14_19, u14_52, u14_53, u14_55, u14_56, u14_57, u14_58, u14_60, u14_61, u14_62, u14_65, u14_68, u14_69, u14_70, u14_71, u14_72, u14_74, u14_75, u14_76, u14_77, u14_80, u14_83, u14_84, u14_85, u14_86, u14_88, zk_mk_1, zk_mk_I, zk_mk_R, zk_mk_set, zk_mk_setR, zk_mk_cpy, zk_rv_some, zk_rv_none, Option.toList_some, Option.toList_none, List.cons_append, List.nil_append, reduceIte, eq_self, Nat.reduceLT, Nat.reduceEqDiff, and_true, true_and, reduceCtorEq, zsh_0, zsh_1, zsh_2, zrf_0_0, zrf_1_0, z1, z2, e2]
  rw [hk] at K2 ⊢
  rcases (show kk = 0 ∨ kk = 1 ∨ kk = 2 ∨ kk = 3 ∨ kk = 4 ∨ kk = 5 by omega) with rfl | rfl | rfl | rfl | rfl | rfl
  · rw [show zk_sw 19 (67) (1) (5) #[33, 67, 38, 53, 57] (nI 0) = 86 from by decide +kernel]
    simp only [u14_0, u14_1, u14_2, u14_3, u14_4, u14_5, u14_8, u14_10, u14_11, u14_14, u14_17, u14_18, u14_19, u14_52, u14_53, u14_55, u14_56, u14_57, u14_58, u14_60, u14_61, u14_62, u14_65, u14_68, u14_69, u14_70, u14_71, u14_72, u14_74, u14_75, u14_76, u14_77, u14_80, u14_83, u14_84, u14_85, u14_86, u14_88, zk_mk_1, zk_mk_I, zk_mk_R, zk_mk_set, zk_mk_setR, zk_mk_cpy, zk_rv_some, zk_rv_none, Option.toList_some, Option.toList_none, List.cons_append, List.nil_append, reduceIte, eq_self, Nat.reduceLT, Nat.reduceEqDiff, and_true, true_and, reduceCtorEq, zsh_0, zsh_1, zsh_4, zrf_0_0, zrf_1_2, z1, z2, e4]
    exact K2
  · rw [show zk_sw 19 (67) (1) (5) #[33, 67, 38, 53, 57] (nI 1) = 52 from by decide +kernel]
    simp only [u14_0, u14_1, u14_2, u14_3, u14_4, u14_5, u14_8, u14_10, u14_11, u14_14, u14_17, u14_18, u14_19, u14_52, u14_53, u14_55, u14_56, u14_57, u14_58, u14_60, u14_61, u14_62, u14_65, u14_68, u14_69, u14_70, u14_71, u14_72, u14_74, u14_75, u14_76, u14_77, u14_80, u14_83, u14_84, u14_85, u14_86, u14_88, zk_mk_1, zk_mk_I, zk_mk_R, zk_mk_set, zk_mk_setR, zk_mk_cpy, zk_rv_some, zk_rv_none, Option.toList_some, Option.toList_none, List.cons_append, List.nil_append, reduceIte, eq_self, Nat.reduceLT, Nat.reduceEqDiff, and_true, true_and, reduceCtorEq, zsh_0, zsh_1, zsh_4, zrf_0_0, zrf_1_2, z1, z2, e4]
    exact K2
  · rw [show zk_sw 19 (67) (1) (5) #[33, 67, 38, 53, 57] (nI 2) = 86 from by decide +kernel]
    simp only [u14_0, u14_1, u14_2, u14_3, u14_4, u14_5, u14_8, u14_10, u14_11, u14_14, u14_17, u14_18, u14_19, u14_52, u14_53, u14_55, u14_56, u14_57, u14_58, u14_60, u14_61, u14_62, u14_65, u14_68, u14_69, u14_70, u14_71, u14_72, u14_74, u14_75, u14_76, u14_77, u14_80, u14_83, u14_84, u14_85, u14_86, u14_88, zk_mk_1, zk_mk_I, zk_mk_R, zk_mk_set, zk_mk_setR, zk_mk_cpy, zk_rv_some, zk_rv_none, Option.toList_some, Option.toList_none, List.cons_append, List.nil_append, reduceIte, eq_self, Nat.reduceLT, Nat.reduceEqDiff, and_true, true_and, reduceCtorEq, zsh_0, zsh_1, zsh_4, zrf_0_0, zrf_1_2, z1, z2, e4]
    exact K2
  · rw [show zk_sw 19 (67) (1) (5) #[33, 67, 38, 53, 57] (nI 3) = 57 from by decide +kernel]
    simp only [u14_0, u14_1, u14_2, u14_3, u14_4, u14_5, u14_8, u14_10, u14_11, u14_14, u14_17, u14_18, u14_19, u14_52, u14_53, u14_55, u14_56, u14_57, u14_58, u14_60, u14_61, u14_62, u14_65, u14_68, u14_69, u14_70, u14_71, u14_72, u14_74, u14_75, u14_76, u14_77, u14_80, u14_83, u14_84, u14_85, u14_86, u14_88, zk_mk_1, zk_mk_I, zk_mk_R, zk_mk_set, zk_mk_setR, zk_mk_cpy, zk_rv_some, zk_rv_none, Option.toList_some, Option.toList_none, List.cons_append, List.nil_append, reduceIte, eq_self, Nat.reduceLT, Nat.reduceEqDiff, and_true, true_and, reduceCtorEq, zsh_0, zsh_1, zsh_4, zrf_0_0, zrf_1_2, z1, z2, e4]
    exact K2
  · rw [show zk_sw 19 (67) (1) (5) #[33, 67, 38, 53, 57] (nI 4) = 72 from by decide +kernel]
    simp only [u14_0, u14_1, u14_2, u14_3, u14_4, u14_5, u14_8, u14_10, u14_11, u14_14, u14_17, u14_18, u14_19, u14_52, u14_53, u14_55, u14_56, u14_57, u14_58, u14_60, u14_61, u14_62, u14_65, u14_68, u14_69, u14_70, u14_71, u14_72, u14_74, u14_75, u14_76, u14_77, u14_80, u14_83, u14_84, u14_85, u14_86, u14_88, zk_mk_1, zk_mk_I, zk_mk_R, zk_mk_set, zk_mk_setR, zk_mk_cpy, zk_rv_some, zk_rv_none, Option.toList_some, Option.toList_none, List.cons_append, List.nil_append, reduceIte, eq_self, Nat.reduceLT, Nat.reduceEqDiff, and_true, true_and, reduceCtorEq, zsh_0, zsh_1, zsh_4, zrf_0_0, zrf_1_2, z1, z2, e4]
    exact K2
  · rw [show zk_sw 19 (67) (1) (5) #[33, 67, 38, 53, 57] (nI 5) = 76 from by decide +kernel]
    simp only [u14_0, u14_1, u14_2, u14_3, u14_4, u14_5, u14_8, u14_10, u14_11, u14_14, u14_17, u14_18, u14_19, u14_52, u14_53, u14_55, u14_56, u14_57, u14_58, u14_60, u14_61, u14_62, u14_65, u14_68, u14_69, u14_70, u14_71, u14_72, u14_74, u14_75, u14_76, u14_77, u14_80, u14_83, u14_84, u14_85, u14_86, u14_88, zk_mk_1, zk_mk_I, zk_mk_R, zk_mk_set, zk_mk_setR, zk_mk_cpy, zk_rv_some, zk_rv_none, Option.toList_some, Option.toList_none, List.cons_append, List.nil_append, reduceIte, eq_self, Nat.reduceLT, Nat.reduceEqDiff, and_true, true_and, reduceCtorEq, zsh_0, zsh_1, zsh_4, zrf_0_0, zrf_1_2, z1, z2, e4]
    exact K2
theorem s157 {sc : zk_X} {d : Nat} {I : Nat → Nat → Int32} {tg : Option Nat} {P : Option Value → zk_M → Prop} {n t p c : Nat} {T e : Nat → Nat} (hj : zj_tab I n) (ht : t < 6) (hr : I 60 10 = nI t) (hp : p < 3) (hc : c < n) (hx : zj_text I t T e)
    (K : ∀ I' : Nat → Nat → Int32, zg1 I I' → P (some (.int (zv_said I n T e p c (zb (I 64 c = 1))))) (zk_mk I' tg)) : zk_R sc (d + 3) 157 0 [some (.ref (60 : Nat)), some (.int (nI p)), some (.int (nI c))] [] (zk_mk I tg) P := by
  have h10 := hj.2.2.1
  have z1 : zk_inb (nI c) 10 = true := by rw [zn_in (by omega)]; omega
  have z2 : (nI c).toNatClampNeg = c := zn_cl (by omega)
  simp only [u157_0, u157_1, u157_2, u157_3, u157_4, u157_7, u157_8, u157_9, u157_10, u157_13, u157_14, u157_17, u157_18, u157_21, zk_mk_1, zk_mk_I, zk_mk_R, zk_mk_set, zk_mk_setR, zk_mk_cpy, zk_rv_some, zk_rv_none, Option.toList_some, Option.toList_none, List.cons_append, List.nil_append, reduceIte, eq_self, Nat.reduceLT, Nat.reduceEqDiff, and_true, true_and, reduceCtorEq, zsh_60, zsh_64, zrf_60_4, z1, z2]
  unfold zb at K
  by_cases h : I 64 c = 1
  · rw [if_pos h]
    simp only [h, reduceIte] at K
    exact s146 hj ht hr hp hc hx (fun I' hz => by simp only [u157_0, u157_1, u157_2, u157_3, u157_4, u157_7, u157_8, u157_9, u157_10, u157_13, u157_14, u157_17, u157_18, u157_21, zk_mk_1, zk_mk_I, zk_mk_R, zk_mk_set, zk_mk_setR, zk_mk_cpy, zk_rv_some, zk_rv_none, Option.toList_some, Option.toList_none, List.cons_append, List.nil_append, reduceIte, eq_self, Nat.reduceLT, Nat.reduceEqDiff, and_true, true_and, reduceCtorEq]; exact K I' hz)
  · rw [if_neg h]
    simp only [h, reduceIte] at K
    exact s146 hj ht hr hp hc hx (fun I' hz => by simp only [u157_0, u157_1, u157_2, u157_3, u157_4, u157_7, u157_8, u157_9, u157_10, u157_13, u157_14, u157_17, u157_18, u157_21, zk_mk_1, zk_mk_I, zk_mk_R, zk_mk_set, zk_mk_setR, zk_mk_cpy, zk_rv_some, zk_rv_none, Option.toList_some, Option.toList_none, List.cons_append, List.nil_append, reduceIte, eq_self, Nat.reduceLT, Nat.reduceEqDiff, and_true, true_and, reduceCtorEq]; exact K I' hz)
theorem s156 {sc : zk_X} {d : Nat} {I : Nat → Nat → Int32} {tg : Option Nat} {P : Option Value → zk_M → Prop} {n t c : Nat} {T e : Nat → Nat} (hj : zj_tab I n) (ht : t < 6) (hr : I 60 10 = nI t) (hc : c < n) (hx : zj_text I t T e)
    (K : ∀ I' : Nat → Nat → Int32, zg1 I I' → P (some (.int (zv_cnt I n T e c (zb (I 64 c = 1))))) (zk_mk I' tg)) : zk_R sc (d + 4) 156 0 [some (.ref (60 : Nat)), some (.int (nI c)), none] [] (zk_mk I tg) P := by
  have h10 := hj.2.2.1
  obtain ⟨⟨c1, c2, c3, c4⟩, ⟨kk, hkk, hk⟩, -⟩ := hj.2.2.2 c hc
  have z1 : zk_inb (nI c) 10 = true := by rw [zn_in (by omega)]; omega
  have z2 : (nI c).toNatClampNeg = c := zn_cl (by omega)
  simp only [u156_0, u156_1, u156_2, u156_3, u156_6, u156_7, u156_8, u156_11, u156_12, u156_13, u156_48, u156_49, u156_50, u156_51, u156_52, u156_53, u156_54, u156_55, u156_56, u156_59, u156_60, u156_61, u156_62, u156_63, u156_64, u156_65, u156_66, u156_67, u156_70, u156_71, u156_72, u156_73, u156_74, zk_mk_1, zk_mk_I, zk_mk_R, zk_mk_set, zk_mk_setR, zk_mk_cpy, zk_rv_some, zk_rv_none, Option.toList_some, Option.toList_none, List.cons_append, List.nil_append, reduceIte, eq_self, Nat.reduceLT, Nat.reduceEqDiff, and_true, true_and, reduceCtorEq, zsh_60]
  refine s157 (p := 0) hj ht hr (by decide) hc hx (fun I' hz => ?_)
  have K2 := K I' hz
  have e2 : I' 61 = I 61 := hz _ (by decide) (by decide)
  have e4 : I' 63 = I 63 := hz _ (by decide) (by decide)
  unfold zv_cnt at K2
  simp only [u156_0, u156_1, u156_2, u156_3, u156_6, u156_7, u156_8, u156_11, u156_12, u156_13, u156_48, u156_49, u156_50, u156_51, u156_52, u156_53, u156_54, u156_55, u156_56, u156_59, u156_60, u156_61, u156_62, u156_63, u156_64, u156_65, u156_66, u156_67, u156_70, u156_71, u156_72, u156_73, u156_74, zk_mk_1, zk_mk_I, zk_mk_R, zk_mk_set, zk_mk_setR, zk_mk_cpy, zk_rv_some, zk_rv_none, Option.toList_some, Option.toList_none, List.cons_append, List.nil_append, reduceIte, eq_self, Nat.reduceLT, Nat.reduceEqDiff, and_true, true_and, reduceCtorEq, zsh_60, zsh_61, zrf_60_1, z1, z2, e2, c1]
  rw [hk] at K2 ⊢
  rcases (show kk = 0 ∨ kk = 1 ∨ kk = 2 ∨ kk = 3 ∨ kk = 4 ∨ kk = 5 by omega) with rfl | rfl | rfl | rfl | rfl | rfl
  · rw [show zk_sw 13 (60) (1) (5) #[35, 60, 39, 50, 53] (nI 0) = 73 from by decide +kernel]
    simp only [u156_0, u156_1, u156_2, u156_3, u156_6, u156_7, u156_8, u156_11, u156_12, u156_13, u156_48, u156_49, u156_50, u156_51, u156_52, u156_53, u156_54, u156_55, u156_56, u156_59, u156_60, u156_61, u156_62, u156_63, u156_64, u156_65, u156_66, u156_67, u156_70, u156_71, u156_72, u156_73, u156_74, zk_mk_1, zk_mk_I, zk_mk_R, zk_mk_set, zk_mk_setR, zk_mk_cpy, zk_rv_some, zk_rv_none, Option.toList_some, Option.toList_none, List.cons_append, List.nil_append, reduceIte, eq_self, Nat.reduceLT, Nat.reduceEqDiff, and_true, true_and, reduceCtorEq, zsh_60, zsh_63, zrf_60_3, z1, z2, e4, c3]
    exact K2
  · rw [show zk_sw 13 (60) (1) (5) #[35, 60, 39, 50, 53] (nI 1) = 48 from by decide +kernel]
    simp only [u156_0, u156_1, u156_2, u156_3, u156_6, u156_7, u156_8, u156_11, u156_12, u156_13, u156_48, u156_49, u156_50, u156_51, u156_52, u156_53, u156_54, u156_55, u156_56, u156_59, u156_60, u156_61, u156_62, u156_63, u156_64, u156_65, u156_66, u156_67, u156_70, u156_71, u156_72, u156_73, u156_74, zk_mk_1, zk_mk_I, zk_mk_R, zk_mk_set, zk_mk_setR, zk_mk_cpy, zk_rv_some, zk_rv_none, Option.toList_some, Option.toList_none, List.cons_append, List.nil_append, reduceIte, eq_self, Nat.reduceLT, Nat.reduceEqDiff, and_true, true_and, reduceCtorEq, zsh_60, zsh_63, zrf_60_3, z1, z2, e4, c3]
    exact K2
  · rw [show zk_sw 13 (60) (1) (5) #[35, 60, 39, 50, 53] (nI 2) = 73 from by decide +kernel]
    simp only [u156_0, u156_1, u156_2, u156_3, u156_6, u156_7, u156_8, u156_11, u156_12, u156_13, u156_48, u156_49, u156_50, u156_51, u156_52, u156_53, u156_54, u156_55, u156_56, u156_59, u156_60, u156_61, u156_62, u156_63, u156_64, u156_65, u156_66, u156_67, u156_70, u156_71, u156_72, u156_73, u156_74, zk_mk_1, zk_mk_I, zk_mk_R, zk_mk_set, zk_mk_setR, zk_mk_cpy, zk_rv_some, zk_rv_none, Option.toList_some, Option.toList_none, List.cons_append, List.nil_append, reduceIte, eq_self, Nat.reduceLT, Nat.reduceEqDiff, and_true, true_and, reduceCtorEq, zsh_60, zsh_63, zrf_60_3, z1, z2, e4, c3]
    exact K2
  · rw [show zk_sw 13 (60) (1) (5) #[35, 60, 39, 50, 53] (nI 3) = 52 from by decide +kernel]
    simp only [u156_0, u156_1, u156_2, u156_3, u156_6, u156_7, u156_8, u156_11, u156_12, u156_13, u156_48, u156_49, u156_50, u156_51, u156_52, u156_53, u156_54, u156_55, u156_56, u156_59, u156_60, u156_61, u156_62, u156_63, u156_64, u156_65, u156_66, u156_67, u156_70, u156_71, u156_72, u156_73, u156_74, zk_mk_1, zk_mk_I, zk_mk_R, zk_mk_set, zk_mk_setR, zk_mk_cpy, zk_rv_some, zk_rv_none, Option.toList_some, Option.toList_none, List.cons_append, List.nil_append, reduceIte, eq_self, Nat.reduceLT, Nat.reduceEqDiff, and_true, true_and, reduceCtorEq, zsh_60, zsh_63, zrf_60_3, z1, z2, e4, c3]
    exact K2
  · rw [show zk_sw 13 (60) (1) (5) #[35, 60, 39, 50, 53] (nI 4) = 63 from by decide +kernel]
    simp only [u156_0, u156_1, u156_2, u156_3, u156_6, u156_7, u156_8, u156_11, u156_12, u156_13, u156_48, u156_49, u156_50, u156_51, u156_52, u156_53, u156_54, u156_55, u156_56, u156_59, u156_60, u156_61, u156_62, u156_63, u156_64, u156_65, u156_66, u156_67, u156_70, u156_71, u156_72, u156_73, u156_74, zk_mk_1, zk_mk_I, zk_mk_R, zk_mk_set, zk_mk_setR, zk_mk_cpy, zk_rv_some, zk_rv_none, Option.toList_some, Option.toList_none, List.cons_append, List.nil_append, reduceIte, eq_self, Nat.reduceLT, Nat.reduceEqDiff, and_true, true_and, reduceCtorEq, zsh_60, zsh_63, zrf_60_3, z1, z2, e4, c3]
    exact K2
  · rw [show zk_sw 13 (60) (1) (5) #[35, 60, 39, 50, 53] (nI 5) = 66 from by decide +kernel]
    simp only [u156_0, u156_1, u156_2, u156_3, u156_6, u156_7, u156_8, u156_11, u156_12, u156_13, u156_48, u156_49, u156_50, u156_51, u156_52, u156_53, u156_54, u156_55, u156_56, u156_59, u156_60, u156_61, u156_62, u156_63, u156_64, u156_65, u156_66, u156_67, u156_70, u156_71, u156_72, u156_73, u156_74, zk_mk_1, zk_mk_I, zk_mk_R, zk_mk_set, zk_mk_setR, zk_mk_cpy, zk_rv_some, zk_rv_none, Option.toList_some, Option.toList_none, List.cons_append, List.nil_append, reduceIte, eq_self, Nat.reduceLT, Nat.reduceEqDiff, and_true, true_and, reduceCtorEq, zsh_60, zsh_63, zrf_60_3, z1, z2, e4, c3]
    exact K2
theorem s7 {sc : zk_X} {d : Nat} {I : Nat → Nat → Int32} {tg : Option Nat} {P : Option Value → zk_M → Prop} {t : Nat} (ht : t < 6) (hl : I 1 5 = nI t) : zk_R sc d 7 0 [some (.ref (0 : Nat))] [] (zk_mk I tg) P = P (some (.ref (28 + 4 * t))) (zk_mk I tg) := by
  simp only [u7_0, u7_1, u7_4, u7_5, u7_8, u7_11, u7_12, zk_mk_1, zk_mk_I, zk_mk_R, zk_mk_set, zk_mk_setR, zk_mk_cpy, zk_rv_some, zk_rv_none, Option.toList_some, Option.toList_none, List.cons_append, List.nil_append, reduceIte, eq_self, Nat.reduceLT, Nat.reduceEqDiff, and_true, true_and, reduceCtorEq, zsh_0, zsh_1, zsh_13, zrf_0_0, zrf_0_4, hl]
  simp (disch := omega) only [zn_in, zn_cl, zx_13 ht, zk_rv_some, ht, true_and, u7_0, u7_1, u7_4, u7_5, u7_8, u7_11, u7_12]
theorem zw_in_0 {x : Int32} {l h : Int32} (h1 : l ≤ x) (h2 : x ≤ h) : zw_in x l h = x := by
  unfold zw_in
  rw [if_neg (Int32.not_lt.mpr h1), if_neg (Int32.not_lt.mpr h2)]
theorem zw_in_le {x l h : Int32} (hl : l ≤ h) : l ≤ zw_in x l h ∧ zw_in x l h ≤ h := by
  unfold zw_in
  simp only [Int32.lt_iff_toInt_lt, Int32.le_iff_toInt_le] at *
  (repeat' split) <;> omega
theorem zv_99 {x : Int32} (h1 : 0 ≤ x) (h2 : x ≤ 99) : ∃ k : Nat, k ≤ 99 ∧ x = nI k := by
  have a := Int32.le_iff_toInt_le.mp h1
  have b := Int32.le_iff_toInt_le.mp h2
  have e0 : (0 : Int32).toInt = 0 := by decide
  have e9 : (99 : Int32).toInt = 99 := by decide
  refine ⟨x.toInt.toNat, by omega, ?_⟩
  apply Int32.toInt.inj
  rw [nI_toInt (by omega)]
  omega
theorem zv_said99 {I : Nat → Nat → Int32} {n : Nat} {T e : Nat → Nat} {p c : Nat} {left : Int32} (hp : ¬ p = 0) : ∃ k : Nat, k ≤ 99 ∧ zv_said I n T e p c left = nI k := by
  unfold zv_said
  rw [if_neg hp]
  exact zv_99 (zw_in_le (by decide)).1 (zw_in_le (by decide)).2
theorem zw_999 {k : Nat} (h : k ≤ 999) : zw_in (nI k) 0 999 = nI k := by
  refine zw_in_0 ?_ ?_
  · rw [show (0 : Int32) = nI 0 from rfl, zn_le (by omega) (by omega)]; omega
  · rw [show (999 : Int32) = nI 999 from rfl, zn_le (by omega) (by omega)]; omega
theorem s15 {sc : zk_X} {d : Nat} {I : Nat → Nat → Int32} {tg : Option Nat} {P : Option Value → zk_M → Prop} {n t c : Nat} {T e : Nat → Nat} (hj : zj_tab I n) (ht : t < 6) (hl : I 1 5 = nI t) (hc : c < n) (hx : zj_text I t T e)
    (K : ∀ I' : Nat → Nat → Int32, zf1 I I' → P (some (.int (zv_mv (I 2 c) (zv_said I n T e 1 c (zb (I 5 c = 1)))))) (zk_mk I' tg)) : zk_R sc (d + 3) 15 0 [some (.ref (0 : Nat)), some (.int (nI c)), none] [] (zk_mk I tg) P := by
  have h10 := hj.2.2.1
  obtain ⟨-, ⟨kk, hkk, hk⟩, -⟩ := hj.2.2.2 c hc
  obtain ⟨w1, w2, w3, w4⟩ := zx_83 ht
  have z1 : zk_inb (nI c) 10 = true := by rw [zn_in (by omega)]; omega
  have z2 : (nI c).toNatClampNeg = c := zn_cl (by omega)
  simp only [u15_0, u15_1, u15_2, u15_5, u15_6, u15_7, u15_8, u15_11, u15_12, u15_15, u15_18, u15_19, u15_20, u15_23, u15_26, u15_27, u15_28, u15_60, u15_61, u15_62, u15_63, u15_64, u15_67, u15_70, u15_71, u15_72, u15_73, u15_74, u15_75, u15_78, u15_81, u15_82, u15_83, u15_84, u15_85, u15_86, u15_89, u15_92, zk_mk_1, zk_mk_I, zk_mk_R, zk_mk_set, zk_mk_setR, zk_mk_cpy, zk_rv_some, zk_rv_none, Option.toList_some, Option.toList_none, List.cons_append, List.nil_append, reduceIte, eq_self, Nat.reduceLT, Nat.reduceEqDiff, and_true, true_and, reduceCtorEq, zsh_0, s7 ht hl, zsh_1, zrf_0_0]
  rw [s96 (by omega)]
  simp only [u15_0, u15_1, u15_2, u15_5, u15_6, u15_7, u15_8, u15_11, u15_12, u15_15, u15_18, u15_19, u15_20, u15_23, u15_26, u15_27, u15_28, u15_60, u15_61, u15_62, u15_63, u15_64, u15_67, u15_70, u15_71, u15_72, u15_73, u15_74, u15_75, u15_78, u15_81, u15_82, u15_83, u15_84, u15_85, u15_86, u15_89, u15_92, zk_mk_1, zk_mk_I, zk_mk_R, zk_mk_set, zk_mk_setR, zk_mk_cpy, zk_rv_some, zk_rv_none, Option.toList_some, Option.toList_none, List.cons_append, List.nil_append, reduceIte, eq_self, Nat.reduceLT, Nat.reduceEqDiff, and_true, true_and, reduceCtorEq, zsh_0, zx_28 ht, w1]
  refine s8 (p := 1) hj ht (by decide) hc hx (fun I' hz => ?_)
  have K2 := K I' hz
  obtain ⟨v, hv, hv2⟩ := zv_said99 (I := I) (n := n) (T := T) (e := e) (p := 1) (c := c) (left := zb (I 5 c = 1)) (by decide)
  rw [hv2] at K2 ⊢
  have e2 : I' 2 = I 2 := hz _ (by decide) (by decide)
  simp only [u15_0, u15_1, u15_2, u15_5, u15_6, u15_7, u15_8, u15_11, u15_12, u15_15, u15_18, u15_19, u15_20, u15_23, u15_26, u15_27, u15_28, u15_60, u15_61, u15_62, u15_63, u15_64, u15_67, u15_70, u15_71, u15_72, u15_73, u15_74, u15_75, u15_78, u15_81, u15_82, u15_83, u15_84, u15_85, u15_86, u15_89, u15_92, zk_mk_1, zk_mk_I, zk_mk_R, zk_mk_set, zk_mk_setR, zk_mk_cpy, zk_rv_some, zk_rv_none, Option.toList_some, Option.toList_none, List.cons_append, List.nil_append, reduceIte, eq_self, Nat.reduceLT, Nat.reduceEqDiff, and_true, true_and, reduceCtorEq, zsh_0, zsh_1, zsh_2, zrf_0_0, zrf_1_0, z1, z2, e2]
  rw [hk] at K2 ⊢
  rcases (show kk = 0 ∨ kk = 1 ∨ kk = 2 ∨ kk = 3 ∨ kk = 4 ∨ kk = 5 by omega) with rfl | rfl | rfl | rfl | rfl | rfl
  · rw [show zk_sw 28 (56) (2) (5) #[32, 43, 32, 54] (nI 0) = 84 from by decide +kernel]
    simp only [u15_0, u15_1, u15_2, u15_5, u15_6, u15_7, u15_8, u15_11, u15_12, u15_15, u15_18, u15_19, u15_20, u15_23, u15_26, u15_27, u15_28, u15_60, u15_61, u15_62, u15_63, u15_64, u15_67, u15_70, u15_71, u15_72, u15_73, u15_74, u15_75, u15_78, u15_81, u15_82, u15_83, u15_84, u15_85, u15_86, u15_89, u15_92, zk_mk_1, zk_mk_I, zk_mk_R, zk_mk_set, zk_mk_setR, zk_mk_cpy, zk_rv_some, zk_rv_none, Option.toList_some, Option.toList_none, List.cons_append, List.nil_append, reduceIte, eq_self, Nat.reduceLT, Nat.reduceEqDiff, and_true, true_and, reduceCtorEq]
    have K3 : P (some (.int (nI v))) (zk_mk I' tg) := K2
    rw [s9 (by decide), zw_999 (by omega)]
    simp only [u15_0, u15_1, u15_2, u15_5, u15_6, u15_7, u15_8, u15_11, u15_12, u15_15, u15_18, u15_19, u15_20, u15_23, u15_26, u15_27, u15_28, u15_60, u15_61, u15_62, u15_63, u15_64, u15_67, u15_70, u15_71, u15_72, u15_73, u15_74, u15_75, u15_78, u15_81, u15_82, u15_83, u15_84, u15_85, u15_86, u15_89, u15_92, zk_mk_1, zk_mk_I, zk_mk_R, zk_mk_set, zk_mk_setR, zk_mk_cpy, zk_rv_some, zk_rv_none, Option.toList_some, Option.toList_none, List.cons_append, List.nil_append, reduceIte, eq_self, Nat.reduceLT, Nat.reduceEqDiff, and_true, true_and, reduceCtorEq]
    exact K3
  · rw [show zk_sw 28 (56) (2) (5) #[32, 43, 32, 54] (nI 1) = 84 from by decide +kernel]
    simp only [u15_0, u15_1, u15_2, u15_5, u15_6, u15_7, u15_8, u15_11, u15_12, u15_15, u15_18, u15_19, u15_20, u15_23, u15_26, u15_27, u15_28, u15_60, u15_61, u15_62, u15_63, u15_64, u15_67, u15_70, u15_71, u15_72, u15_73, u15_74, u15_75, u15_78, u15_81, u15_82, u15_83, u15_84, u15_85, u15_86, u15_89, u15_92, zk_mk_1, zk_mk_I, zk_mk_R, zk_mk_set, zk_mk_setR, zk_mk_cpy, zk_rv_some, zk_rv_none, Option.toList_some, Option.toList_none, List.cons_append, List.nil_append, reduceIte, eq_self, Nat.reduceLT, Nat.reduceEqDiff, and_true, true_and, reduceCtorEq]
    have K3 : P (some (.int (nI v))) (zk_mk I' tg) := K2
    rw [s9 (by decide), zw_999 (by omega)]
    simp only [u15_0, u15_1, u15_2, u15_5, u15_6, u15_7, u15_8, u15_11, u15_12, u15_15, u15_18, u15_19, u15_20, u15_23, u15_26, u15_27, u15_28, u15_60, u15_61, u15_62, u15_63, u15_64, u15_67, u15_70, u15_71, u15_72, u15_73, u15_74, u15_75, u15_78, u15_81, u15_82, u15_83, u15_84, u15_85, u15_86, u15_89, u15_92, zk_mk_1, zk_mk_I, zk_mk_R, zk_mk_set, zk_mk_setR, zk_mk_cpy, zk_rv_some, zk_rv_none, Option.toList_some, Option.toList_none, List.cons_append, List.nil_append, reduceIte, eq_self, Nat.reduceLT, Nat.reduceEqDiff, and_true, true_and, reduceCtorEq]
    exact K3
  · rw [show zk_sw 28 (56) (2) (5) #[32, 43, 32, 54] (nI 2) = 60 from by decide +kernel]
    simp only [u15_0, u15_1, u15_2, u15_5, u15_6, u15_7, u15_8, u15_11, u15_12, u15_15, u15_18, u15_19, u15_20, u15_23, u15_26, u15_27, u15_28, u15_60, u15_61, u15_62, u15_63, u15_64, u15_67, u15_70, u15_71, u15_72, u15_73, u15_74, u15_75, u15_78, u15_81, u15_82, u15_83, u15_84, u15_85, u15_86, u15_89, u15_92, zk_mk_1, zk_mk_I, zk_mk_R, zk_mk_set, zk_mk_setR, zk_mk_cpy, zk_rv_some, zk_rv_none, Option.toList_some, Option.toList_none, List.cons_append, List.nil_append, reduceIte, eq_self, Nat.reduceLT, Nat.reduceEqDiff, and_true, true_and, reduceCtorEq]
    have K3 : P (some (.int (nI v + 3))) (zk_mk I' tg) := K2
    rw [show nI v + 3 = nI (v + 3) from zn_add v 3] at *
    rw [s9 (by decide), zw_999 (by omega)]
    simp only [u15_0, u15_1, u15_2, u15_5, u15_6, u15_7, u15_8, u15_11, u15_12, u15_15, u15_18, u15_19, u15_20, u15_23, u15_26, u15_27, u15_28, u15_60, u15_61, u15_62, u15_63, u15_64, u15_67, u15_70, u15_71, u15_72, u15_73, u15_74, u15_75, u15_78, u15_81, u15_82, u15_83, u15_84, u15_85, u15_86, u15_89, u15_92, zk_mk_1, zk_mk_I, zk_mk_R, zk_mk_set, zk_mk_setR, zk_mk_cpy, zk_rv_some, zk_rv_none, Option.toList_some, Option.toList_none, List.cons_append, List.nil_append, reduceIte, eq_self, Nat.reduceLT, Nat.reduceEqDiff, and_true, true_and, reduceCtorEq]
    exact K3
  · rw [show zk_sw 28 (56) (2) (5) #[32, 43, 32, 54] (nI 3) = 71 from by decide +kernel]
    simp only [u15_0, u15_1, u15_2, u15_5, u15_6, u15_7, u15_8, u15_11, u15_12, u15_15, u15_18, u15_19, u15_20, u15_23, u15_26, u15_27, u15_28, u15_60, u15_61, u15_62, u15_63, u15_64, u15_67, u15_70, u15_71, u15_72, u15_73, u15_74, u15_75, u15_78, u15_81, u15_82, u15_83, u15_84, u15_85, u15_86, u15_89, u15_92, zk_mk_1, zk_mk_I, zk_mk_R, zk_mk_set, zk_mk_setR, zk_mk_cpy, zk_rv_some, zk_rv_none, Option.toList_some, Option.toList_none, List.cons_append, List.nil_append, reduceIte, eq_self, Nat.reduceLT, Nat.reduceEqDiff, and_true, true_and, reduceCtorEq]
    have K3 : P (some (.int (2 * nI v))) (zk_mk I' tg) := K2
    rw [show (2 : Int32) * nI v = nI (2 * v) from zn_mul 2 v] at *
    rw [s9 (by decide), zw_999 (by omega)]
    simp only [u15_0, u15_1, u15_2, u15_5, u15_6, u15_7, u15_8, u15_11, u15_12, u15_15, u15_18, u15_19, u15_20, u15_23, u15_26, u15_27, u15_28, u15_60, u15_61, u15_62, u15_63, u15_64, u15_67, u15_70, u15_71, u15_72, u15_73, u15_74, u15_75, u15_78, u15_81, u15_82, u15_83, u15_84, u15_85, u15_86, u15_89, u15_92, zk_mk_1, zk_mk_I, zk_mk_R, zk_mk_set, zk_mk_setR, zk_mk_cpy, zk_rv_some, zk_rv_none, Option.toList_some, Option.toList_none, List.cons_append, List.nil_append, reduceIte, eq_self, Nat.reduceLT, Nat.reduceEqDiff, and_true, true_and, reduceCtorEq]
    exact K3
  · rw [show zk_sw 28 (56) (2) (5) #[32, 43, 32, 54] (nI 4) = 60 from by decide +kernel]
    simp only [u15_0, u15_1, u15_2, u15_5, u15_6, u15_7, u15_8, u15_11, u15_12, u15_15, u15_18, u15_19, u15_20, u15_23, u15_26, u15_27, u15_28, u15_60, u15_61, u15_62, u15_63, u15_64, u15_67, u15_70, u15_71, u15_72, u15_73, u15_74, u15_75, u15_78, u15_81, u15_82, u15_83, u15_84, u15_85, u15_86, u15_89, u15_92, zk_mk_1, zk_mk_I, zk_mk_R, zk_mk_set, zk_mk_setR, zk_mk_cpy, zk_rv_some, zk_rv_none, Option.toList_some, Option.toList_none, List.cons_append, List.nil_append, reduceIte, eq_self, Nat.reduceLT, Nat.reduceEqDiff, and_true, true_and, reduceCtorEq]
    have K3 : P (some (.int (nI v + 3))) (zk_mk I' tg) := K2
    rw [show nI v + 3 = nI (v + 3) from zn_add v 3] at *
    rw [s9 (by decide), zw_999 (by omega)]
    simp only [u15_0, u15_1, u15_2, u15_5, u15_6, u15_7, u15_8, u15_11, u15_12, u15_15, u15_18, u15_19, u15_20, u15_23, u15_26, u15_27, u15_28, u15_60, u15_61, u15_62, u15_63, u15_64, u15_67, u15_70, u15_71, u15_72, u15_73, u15_74, u15_75, u15_78, u15_81, u15_82, u15_83, u15_84, u15_85, u15_86, u15_89, u15_92, zk_mk_1, zk_mk_I, zk_mk_R, zk_mk_set, zk_mk_setR, zk_mk_cpy, zk_rv_some, zk_rv_none, Option.toList_some, Option.toList_none, List.cons_append, List.nil_append, reduceIte, eq_self, Nat.reduceLT, Nat.reduceEqDiff, and_true, true_and, reduceCtorEq]
    exact K3
  · rw [show zk_sw 28 (56) (2) (5) #[32, 43, 32, 54] (nI 5) = 82 from by decide +kernel]
    simp only [u15_0, u15_1, u15_2, u15_5, u15_6, u15_7, u15_8, u15_11, u15_12, u15_15, u15_18, u15_19, u15_20, u15_23, u15_26, u15_27, u15_28, u15_60, u15_61, u15_62, u15_63, u15_64, u15_67, u15_70, u15_71, u15_72, u15_73, u15_74, u15_75, u15_78, u15_81, u15_82, u15_83, u15_84, u15_85, u15_86, u15_89, u15_92, zk_mk_1, zk_mk_I, zk_mk_R, zk_mk_set, zk_mk_setR, zk_mk_cpy, zk_rv_some, zk_rv_none, Option.toList_some, Option.toList_none, List.cons_append, List.nil_append, reduceIte, eq_self, Nat.reduceLT, Nat.reduceEqDiff, and_true, true_and, reduceCtorEq]
    exact K2
theorem s158 {sc : zk_X} {d : Nat} {I : Nat → Nat → Int32} {tg : Option Nat} {P : Option Value → zk_M → Prop} {n t c : Nat} {T e : Nat → Nat} (hj : zj_tab I n) (ht : t < 6) (hr : I 60 10 = nI t) (hc : c < n) (hx : zj_text I t T e)
    (K : ∀ I' : Nat → Nat → Int32, zg1 I I' → P (some (.int (zv_mv (I 2 c) (zv_said I n T e 1 c (zb (I 64 c = 1)))))) (zk_mk I' tg)) : zk_R sc (d + 4) 158 0 [some (.ref (60 : Nat)), some (.int (nI c)), none, none] [] (zk_mk I tg) P := by
  have h10 := hj.2.2.1
  obtain ⟨⟨c1, c2, c3, c4⟩, ⟨kk, hkk, hk⟩, -⟩ := hj.2.2.2 c hc
  have z1 : zk_inb (nI c) 10 = true := by rw [zn_in (by omega)]; omega
  have z2 : (nI c).toNatClampNeg = c := zn_cl (by omega)
  simp only [u158_0, u158_1, u158_2, u158_3, u158_6, u158_7, u158_8, u158_11, u158_12, u158_13, u158_14, u158_15, u158_16, u158_19, u158_20, u158_23, u158_24, u158_25, u158_28, u158_29, u158_30, u158_31, u158_34, u158_35, u158_36, u158_39, u158_40, u158_41, u158_44, u158_45, u158_46, u158_47, u158_50, u158_51, zk_mk_1, zk_mk_I, zk_mk_R, zk_mk_set, zk_mk_setR, zk_mk_cpy, zk_rv_some, zk_rv_none, Option.toList_some, Option.toList_none, List.cons_append, List.nil_append, reduceIte, eq_self, Nat.reduceLT, Nat.reduceEqDiff, and_true, true_and, reduceCtorEq, zsh_60]
  refine s157 (p := 1) hj ht hr (by decide) hc hx (fun I' hz => ?_)
  have K2 := K I' hz
  have e2 : I' 61 = I 61 := hz _ (by decide) (by decide)
  unfold zv_mv at K2
  simp only [u158_0, u158_1, u158_2, u158_3, u158_6, u158_7, u158_8, u158_11, u158_12, u158_13, u158_14, u158_15, u158_16, u158_19, u158_20, u158_23, u158_24, u158_25, u158_28, u158_29, u158_30, u158_31, u158_34, u158_35, u158_36, u158_39, u158_40, u158_41, u158_44, u158_45, u158_46, u158_47, u158_50, u158_51, zk_mk_1, zk_mk_I, zk_mk_R, zk_mk_set, zk_mk_setR, zk_mk_cpy, zk_rv_some, zk_rv_none, Option.toList_some, Option.toList_none, List.cons_append, List.nil_append, reduceIte, eq_self, Nat.reduceLT, Nat.reduceEqDiff, and_true, true_and, reduceCtorEq, zsh_60, zsh_61, zrf_60_1, z1, z2, e2, c1]
  rw [hk] at K2 ⊢
  rcases (show kk = 0 ∨ kk = 1 ∨ kk = 2 ∨ kk = 3 ∨ kk = 4 ∨ kk = 5 by omega) with rfl | rfl | rfl | rfl | rfl | rfl <;> exact K2
