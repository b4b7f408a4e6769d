/-! what a card counts by the reference, wherever the other side says it lies -/
def zj_cardw (I : Nat → Nat → Int32) (c : Nat) : Prop := (I 61 c = I 2 c ∧ I 62 c = I 3 c ∧ I 63 c = I 4 c ∧ True) ∧ (∃ k, k < 6 ∧ I 2 c = nI k) ∧ True
def zj_tabw (I : Nat → Nat → Int32) (n : Nat) : Prop := I 1 4 = nI n ∧ I 60 0 = nI n ∧ n ≤ 10 ∧ ∀ c, c < n → zj_cardw I c
theorem zj_tab.w {I : Nat → Nat → Int32} {n : Nat} (h : zj_tab I n) : zj_tabw I n := ⟨h.1, h.2.1, h.2.2.1, fun c hc => ⟨⟨(h.2.2.2 c hc).1.1, (h.2.2.2 c hc).1.2.1, (h.2.2.2 c hc).1.2.2.1, trivial⟩, (h.2.2.2 c hc).2.1, trivial⟩⟩
theorem zg1.tabw {I I' : Nat → Nat → Int32} {n : Nat} (h : zg1 I I') (hj : zj_tabw I n) : zj_tabw I' n := by
  unfold zj_tabw zj_cardw at *
  rw [h 1 (by decide) (by decide), h 60 (by decide) (by decide), h 2 (by decide) (by decide), h 3 (by decide) (by decide), h 4 (by decide) (by decide), h 61 (by decide) (by decide), h 62 (by decide) (by decide), h 63 (by decide) (by decide)]
  exact hj
theorem s146w {sc : zk_X} {d : Nat} {I : Nat → Nat → Int32} {tg : Option Nat} {P : Option Value → zk_M → Prop} {n t p c : Nat} {left : Int32} {T e : Nat → Nat} (hj : zj_tabw I n) (ht : t < 6) (hr : I 60 10 = nI t) (hp : p < 3) (hc : c < n) (hx : zj_text I t T e)
    (K : ∀ I' : Nat → Nat → Int32, zg1 I I' → P (some (.int (zv_said I n T e p c left))) (zk_mk I' tg)) : zk_R sc (d + 2) 146 0 [some (.ref (60 : Nat)), some (.int (nI p)), some (.int (nI c)), some (.int left)] [] (zk_mk I tg) P := by
  obtain ⟨hn, hn2, h10, hcs⟩ := hj
  obtain ⟨⟨c1, c2, c3, c4⟩, -⟩ := hcs c hc
  have z1 : zk_inb (nI c) 10 = true := by rw [zn_in (by omega)]; omega
  have z2 : (nI c).toNatClampNeg = c := zn_cl (by omega)
  obtain ⟨x1, x2, x3, x4, x5⟩ := hx
  have ap := zj_ap x3 hp
  have call : ∀ (I6 : Nat → Nat → Int32), (∀ j, j ≠ 76 → I6 j = I j) → (∀ j, j < 6 → I6 76 j = zv_nm I n c left j) → ∀ P2 : Option Value → zk_M → Prop, (∀ I' : Nat → Nat → Int32, zg1 I I' → P2 (some (.int (zt_val (zv_nm I n c left) T (zj_a e p) (e p - zj_a e p)))) (zk_mk I' tg)) → zk_R sc (d + 1) 147 0 [some (.ref (60 : Nat)), some (.int (nI p)), none, none, none] [] (zk_mk I6 tg) P2 := by
    intro I6 fr nm P2 h
    refine s147 (T := T) (t := t) (a := zj_a e p) (k := e p - zj_a e p) ht (by rw [fr _ (by omega)]; exact hr) hp ?_ ?_ (by omega) ?_ (x5 p hp) (fun I' hI' => ?_)
    · rw [fr _ (by omega)]
      unfold zj_a
      by_cases hp0 : p = 0
      · rw [if_pos hp0, hp0]; exact x2
      · rw [if_neg hp0]
        have := (x1 (p - 1) (by omega)).2
        rwa [show 4 * t + (p - 1) + 1 = 4 * t + p by omega] at this
    · rw [fr _ (by omega), (x1 p hp).2]
      congr 1
      omega
    · intro i hi
      rw [fr _ (by omega)]
      exact (x4 _ (by omega)).2
    · rw [zt_val_ext nm]
      exact h I' (fun j h1 h2 => by rw [hI' j h1, fr j h2])
  simp only [u146_0, u146_1, u146_4, u146_5, u146_6, u146_9, u146_10, u146_11, u146_12, u146_13, u146_16, u146_17, u146_18, u146_21, u146_22, u146_23, u146_24, u146_25, u146_28, u146_29, u146_30, u146_31, u146_32, u146_35, u146_36, u146_37, u146_40, u146_41, u146_42, u146_45, u146_46, u146_47, u146_50, u146_51, u146_52, u146_53, u146_54, u146_57, u146_58, u146_59, u146_60, u146_61, u146_64, u146_65, u146_66, u146_69, u146_72, u146_75, u146_78, u146_81, u146_82, u146_83, u146_86, u146_87, u146_89, u146_92, zk_mk_1, zk_mk_I, zk_mk_R, zk_mk_set, zk_mk_setR, zk_mk_cpy, zk_rv_some, zk_rv_none, Option.toList_some, Option.toList_none, List.cons_append, List.nil_append, reduceIte, eq_self, Nat.reduceLT, Nat.reduceEqDiff, and_true, true_and, reduceCtorEq, zsh_60, zsh_61, zsh_62, zsh_63, zsh_76, zrf_60_1, zrf_60_2, zrf_60_3, zrf_60_29, z1, z2, hn2, show zk_inb (0 : Int32) 6 = true from by decide, show zk_inb (1 : Int32) 6 = true from by decide, show zk_inb (2 : Int32) 6 = true from by decide, show zk_inb (3 : Int32) 6 = true from by decide, show zk_inb (4 : Int32) 6 = true from by decide, show zk_inb (5 : Int32) 6 = true from by decide, show (0 : Int32).toNatClampNeg = 0 from by decide, show (1 : Int32).toNatClampNeg = 1 from by decide, show (2 : Int32).toNatClampNeg = 2 from by decide, show (3 : Int32).toNatClampNeg = 3 from by decide, show (4 : Int32).toNatClampNeg = 4 from by decide, show (5 : Int32).toNatClampNeg = 5 from by decide, zk_up2_s, zk_up2_k (show (61 : Nat) ≠ 76 by decide), zk_up2_k (show (60 : Nat) ≠ 76 by decide), zk_up2_k (show (62 : Nat) ≠ 76 by decide), zk_up2_k (show (63 : Nat) ≠ 76 by decide), c1, c2, c3]
  generalize hI : zk_up2 (zk_up2 (zk_up2 (zk_up2 (zk_up2 (zk_up2 I 76 0 (I 3 c)) 76 1 (I 4 c)) 76 2 (nI c)) 76 3 (nI n)) 76 4 (I 2 c)) 76 5 left = I6
  have fr : ∀ j, j ≠ 76 → I6 j = I j := by
    intro j hj
    rw [← hI]
    simp only [zk_up2_r hj]
  have nm : ∀ j, j < 6 → I6 76 j = zv_nm I n c left j := by
    rw [← hI]
    apply zv_six <;> simp [zk_up2_i, zv_nm]
  by_cases hp0 : p = 0
  · subst hp0
    rw [if_pos (show nI 0 = 0 from rfl)]
    refine call I6 fr nm _ (fun I' hz => ?_)
    have K2 := K I' hz
    simp only [zv_said, reduceIte] at K2
    simp only [u146_0, u146_1, u146_4, u146_5, u146_6, u146_9, u146_10, u146_11, u146_12, u146_13, u146_16, u146_17, u146_18, u146_21, u146_22, u146_23, u146_24, u146_25, u146_28, u146_29, u146_30, u146_31, u146_32, u146_35, u146_36, u146_37, u146_40, u146_41, u146_42, u146_45, u146_46, u146_47, u146_50, u146_51, u146_52, u146_53, u146_54, u146_57, u146_58, u146_59, u146_60, u146_61, u146_64, u146_65, u146_66, u146_69, u146_72, u146_75, u146_78, u146_81, u146_82, u146_83, u146_86, u146_87, u146_89, u146_92, zk_mk_1, zk_mk_I, zk_mk_R, zk_mk_set, zk_mk_setR, zk_mk_cpy, zk_rv_some, zk_rv_none, Option.toList_some, Option.toList_none, List.cons_append, List.nil_append, reduceIte, eq_self, Nat.reduceLT, Nat.reduceEqDiff, and_true, true_and, reduceCtorEq, s149]
    exact K2
  · rw [if_neg (show ¬ nI p = 0 by rw [show (0 : Int32) = nI 0 from rfl, zn_eq (by omega) (by omega)]; exact hp0)]
    refine call I6 fr nm _ (fun I' hz => ?_)
    have K2 := K I' hz
    unfold zv_said at K2
    rw [if_neg hp0] at K2
    simp only [u146_0, u146_1, u146_4, u146_5, u146_6, u146_9, u146_10, u146_11, u146_12, u146_13, u146_16, u146_17, u146_18, u146_21, u146_22, u146_23, u146_24, u146_25, u146_28, u146_29, u146_30, u146_31, u146_32, u146_35, u146_36, u146_37, u146_40, u146_41, u146_42, u146_45, u146_46, u146_47, u146_50, u146_51, u146_52, u146_53, u146_54, u146_57, u146_58, u146_59, u146_60, u146_61, u146_64, u146_65, u146_66, u146_69, u146_72, u146_75, u146_78, u146_81, u146_82, u146_83, u146_86, u146_87, u146_89, u146_92, zk_mk_1, zk_mk_I, zk_mk_R, zk_mk_set, zk_mk_setR, zk_mk_cpy, zk_rv_some, zk_rv_none, Option.toList_some, Option.toList_none, List.cons_append, List.nil_append, reduceIte, eq_self, Nat.reduceLT, Nat.reduceEqDiff, and_true, true_and, reduceCtorEq, s149]
    exact K2

theorem s157w {sc : zk_X} {d : Nat} {I : Nat → Nat → Int32} {tg : Option Nat} {P : Option Value → zk_M → Prop} {n t p c : Nat} {T e : Nat → Nat} (hj : zj_tabw I n) (ht : t < 6) (hr : I 60 10 = nI t) (hp : p < 3) (hc : c < n) (hx : zj_text I t T e)
    (K : ∀ I' : Nat → Nat → Int32, zg1 I I' → P (some (.int (zv_said I n T e p c (zb (I 64 c = 1))))) (zk_mk I' tg)) : zk_R sc (d + 3) 157 0 [some (.ref (60 : Nat)), some (.int (nI p)), some (.int (nI c))] [] (zk_mk I tg) P := by
  have h10 := hj.2.2.1
  have z1 : zk_inb (nI c) 10 = true := by rw [zn_in (by omega)]; omega
  have z2 : (nI c).toNatClampNeg = c := zn_cl (by omega)
  simp only [u157_0, u157_1, u157_2, u157_3, u157_4, u157_7, u157_8, u157_9, u157_10, u157_13, u157_14, u157_17, u157_18, u157_21, zk_mk_1, zk_mk_I, zk_mk_R, zk_mk_set, zk_mk_setR, zk_mk_cpy, zk_rv_some, zk_rv_none, Option.toList_some, Option.toList_none, List.cons_append, List.nil_append, reduceIte, eq_self, Nat.reduceLT, Nat.reduceEqDiff, and_true, true_and, reduceCtorEq, zsh_60, zsh_64, zrf_60_4, z1, z2]
  unfold zb at K
  by_cases h : I 64 c = 1
  · rw [if_pos h]
    simp only [h, reduceIte] at K
    exact s146w hj ht hr hp hc hx (fun I' hz => by simp only [u157_0, u157_1, u157_2, u157_3, u157_4, u157_7, u157_8, u157_9, u157_10, u157_13, u157_14, u157_17, u157_18, u157_21, zk_mk_1, zk_mk_I, zk_mk_R, zk_mk_set, zk_mk_setR, zk_mk_cpy, zk_rv_some, zk_rv_none, Option.toList_some, Option.toList_none, List.cons_append, List.nil_append, reduceIte, eq_self, Nat.reduceLT, Nat.reduceEqDiff, and_true, true_and, reduceCtorEq]; exact K I' hz)
  · rw [if_neg h]
    simp only [h, reduceIte] at K
    exact s146w hj ht hr hp hc hx (fun I' hz => by simp only [u157_0, u157_1, u157_2, u157_3, u157_4, u157_7, u157_8, u157_9, u157_10, u157_13, u157_14, u157_17, u157_18, u157_21, zk_mk_1, zk_mk_I, zk_mk_R, zk_mk_set, zk_mk_setR, zk_mk_cpy, zk_rv_some, zk_rv_none, Option.toList_some, Option.toList_none, List.cons_append, List.nil_append, reduceIte, eq_self, Nat.reduceLT, Nat.reduceEqDiff, and_true, true_and, reduceCtorEq]; exact K I' hz)
theorem s156w {sc : zk_X} {d : Nat} {I : Nat → Nat → Int32} {tg : Option Nat} {P : Option Value → zk_M → Prop} {n t c : Nat} {T e : Nat → Nat} (hj : zj_tabw I n) (ht : t < 6) (hr : I 60 10 = nI t) (hc : c < n) (hx : zj_text I t T e)
    (K : ∀ I' : Nat → Nat → Int32, zg1 I I' → P (some (.int (zv_cnt I n T e c (zb (I 64 c = 1))))) (zk_mk I' tg)) : zk_R sc (d + 4) 156 0 [some (.ref (60 : Nat)), some (.int (nI c)), none] [] (zk_mk I tg) P := by
  have h10 := hj.2.2.1
  obtain ⟨⟨c1, c2, c3, c4⟩, ⟨kk, hkk, hk⟩, -⟩ := hj.2.2.2 c hc
  have z1 : zk_inb (nI c) 10 = true := by rw [zn_in (by omega)]; omega
  have z2 : (nI c).toNatClampNeg = c := zn_cl (by omega)
  simp only [u156_0, u156_1, u156_2, u156_3, u156_6, u156_7, u156_8, u156_11, u156_12, u156_13, u156_48, u156_49, u156_50, u156_51, u156_52, u156_53, u156_54, u156_55, u156_56, u156_59, u156_60, u156_61, u156_62, u156_63, u156_64, u156_65, u156_66, u156_67, u156_70, u156_71, u156_72, u156_73, u156_74, zk_mk_1, zk_mk_I, zk_mk_R, zk_mk_set, zk_mk_setR, zk_mk_cpy, zk_rv_some, zk_rv_none, Option.toList_some, Option.toList_none, List.cons_append, List.nil_append, reduceIte, eq_self, Nat.reduceLT, Nat.reduceEqDiff, and_true, true_and, reduceCtorEq, zsh_60]
  refine s157w (p := 0) hj ht hr (by decide) hc hx (fun I' hz => ?_)
  have K2 := K I' hz
  have e2 : I' 61 = I 61 := hz _ (by decide) (by decide)
  have e4 : I' 63 = I 63 := hz _ (by decide) (by decide)
  unfold zv_cnt at K2
  simp only [u156_0, u156_1, u156_2, u156_3, u156_6, u156_7, u156_8, u156_11, u156_12, u156_13, u156_48, u156_49, u156_50, u156_51, u156_52, u156_53, u156_54, u156_55, u156_56, u156_59, u156_60, u156_61, u156_62, u156_63, u156_64, u156_65, u156_66, u156_67, u156_70, u156_71, u156_72, u156_73, u156_74, zk_mk_1, zk_mk_I, zk_mk_R, zk_mk_set, zk_mk_setR, zk_mk_cpy, zk_rv_some, zk_rv_none, Option.toList_some, Option.toList_none, List.cons_append, List.nil_append, reduceIte, eq_self, Nat.reduceLT, Nat.reduceEqDiff, and_true, true_and, reduceCtorEq, zsh_60, zsh_61, zrf_60_1, z1, z2, e2, c1]
  rw [hk] at K2 ⊢
  rcases (show kk = 0 ∨ kk = 1 ∨ kk = 2 ∨ kk = 3 ∨ kk = 4 ∨ kk = 5 by omega) with rfl | rfl | rfl | rfl | rfl | rfl
  · rw [show zk_sw 13 (60) (1) (5) #[35, 60, 39, 50, 53] (nI 0) = 73 from by decide +kernel]
    simp only [u156_0, u156_1, u156_2, u156_3, u156_6, u156_7, u156_8, u156_11, u156_12, u156_13, u156_48, u156_49, u156_50, u156_51, u156_52, u156_53, u156_54, u156_55, u156_56, u156_59, u156_60, u156_61, u156_62, u156_63, u156_64, u156_65, u156_66, u156_67, u156_70, u156_71, u156_72, u156_73, u156_74, zk_mk_1, zk_mk_I, zk_mk_R, zk_mk_set, zk_mk_setR, zk_mk_cpy, zk_rv_some, zk_rv_none, Option.toList_some, Option.toList_none, List.cons_append, List.nil_append, reduceIte, eq_self, Nat.reduceLT, Nat.reduceEqDiff, and_true, true_and, reduceCtorEq, zsh_60, zsh_63, zrf_60_3, z1, z2, e4, c3]
    exact K2
  · rw [show zk_sw 13 (60) (1) (5) #[35, 60, 39, 50, 53] (nI 1) = 48 from by decide +kernel]
    simp only [u156_0, u156_1, u156_2, u156_3, u156_6, u156_7, u156_8, u156_11, u156_12, u156_13, u156_48, u156_49, u156_50, u156_51, u156_52, u156_53, u156_54, u156_55, u156_56, u156_59, u156_60, u156_61, u156_62, u156_63, u156_64, u156_65, u156_66, u156_67, u156_70, u156_71, u156_72, u156_73, u156_74, zk_mk_1, zk_mk_I, zk_mk_R, zk_mk_set, zk_mk_setR, zk_mk_cpy, zk_rv_some, zk_rv_none, Option.toList_some, Option.toList_none, List.cons_append, List.nil_append, reduceIte, eq_self, Nat.reduceLT, Nat.reduceEqDiff, and_true, true_and, reduceCtorEq, zsh_60, zsh_63, zrf_60_3, z1, z2, e4, c3]
    exact K2
  · rw [show zk_sw 13 (60) (1) (5) #[35, 60, 39, 50, 53] (nI 2) = 73 from by decide +kernel]
    simp only [u156_0, u156_1, u156_2, u156_3, u156_6, u156_7, u156_8, u156_11, u156_12, u156_13, u156_48, u156_49, u156_50, u156_51, u156_52, u156_53, u156_54, u156_55, u156_56, u156_59, u156_60, u156_61, u156_62, u156_63, u156_64, u156_65, u156_66, u156_67, u156_70, u156_71, u156_72, u156_73, u156_74, zk_mk_1, zk_mk_I, zk_mk_R, zk_mk_set, zk_mk_setR, zk_mk_cpy, zk_rv_some, zk_rv_none, Option.toList_some, Option.toList_none, List.cons_append, List.nil_append, reduceIte, eq_self, Nat.reduceLT, Nat.reduceEqDiff, and_true, true_and, reduceCtorEq, zsh_60, zsh_63, zrf_60_3, z1, z2, e4, c3]
    exact K2
  · rw [show zk_sw 13 (60) (1) (5) #[35, 60, 39, 50, 53] (nI 3) = 52 from by decide +kernel]
    simp only [u156_0, u156_1, u156_2, u156_3, u156_6, u156_7, u156_8, u156_11, u156_12, u156_13, u156_48, u156_49, u156_50, u156_51, u156_52, u156_53, u156_54, u156_55, u156_56, u156_59, u156_60, u156_61, u156_62, u156_63, u156_64, u156_65, u156_66, u156_67, u156_70, u156_71, u156_72, u156_73, u156_74, zk_mk_1, zk_mk_I, zk_mk_R, zk_mk_set, zk_mk_setR, zk_mk_cpy, zk_rv_some, zk_rv_none, Option.toList_some, Option.toList_none, List.cons_append, List.nil_append, reduceIte, eq_self, Nat.reduceLT, Nat.reduceEqDiff, and_true, true_and, reduceCtorEq, zsh_60, zsh_63, zrf_60_3, z1, z2, e4, c3]
    exact K2
  · rw [show zk_sw 13 (60) (1) (5) #[35, 60, 39, 50, 53] (nI 4) = 63 from by decide +kernel]
    simp only [u156_0, u156_1, u156_2, u156_3, u156_6, u156_7, u156_8, u156_11, u156_12, u156_13, u156_48, u156_49, u156_50, u156_51, u156_52, u156_53, u156_54, u156_55, u156_56, u156_59, u156_60, u156_61, u156_62, u156_63, u156_64, u156_65, u156_66, u156_67, u156_70, u156_71, u156_72, u156_73, u156_74, zk_mk_1, zk_mk_I, zk_mk_R, zk_mk_set, zk_mk_setR, zk_mk_cpy, zk_rv_some, zk_rv_none, Option.toList_some, Option.toList_none, List.cons_append, List.nil_append, reduceIte, eq_self, Nat.reduceLT, Nat.reduceEqDiff, and_true, true_and, reduceCtorEq, zsh_60, zsh_63, zrf_60_3, z1, z2, e4, c3]
    exact K2
  · rw [show zk_sw 13 (60) (1) (5) #[35, 60, 39, 50, 53] (nI 5) = 66 from by decide +kernel]
    simp only [u156_0, u156_1, u156_2, u156_3, u156_6, u156_7, u156_8, u156_11, u156_12, u156_13, u156_48, u156_49, u156_50, u156_51, u156_52, u156_53, u156_54, u156_55, u156_56, u156_59, u156_60, u156_61, u156_62, u156_63, u156_64, u156_65, u156_66, u156_67, u156_70, u156_71, u156_72, u156_73, u156_74, zk_mk_1, zk_mk_I, zk_mk_R, zk_mk_set, zk_mk_setR, zk_mk_cpy, zk_rv_some, zk_rv_none, Option.toList_some, Option.toList_none, List.cons_append, List.nil_append, reduceIte, eq_self, Nat.reduceLT, Nat.reduceEqDiff, and_true, true_and, reduceCtorEq, zsh_60, zsh_63, zrf_60_3, z1, z2, e4, c3]
    exact K2
theorem zgr1 (a b c d : Int32) : a - b + c - d = a + c - (b + d) := by grind
theorem zgr2 (s x y : Int32) : s + x - (x + y) = s + -y := by grind
