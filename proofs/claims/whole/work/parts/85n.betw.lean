/-! a sign between two, an opening one, by the reference -/
theorem s136 {sc : zk_X} {d : Nat} {I : Nat → Nat → Int32} {tg : Option Nat} {P : Option Value → zk_M → Prop} {q s : Nat} {v : Int32} {H : List Nat} (hv : v = zwhm s) (h1 : I 60 25 = nI H.length) (h3 : zwhl I H) (hn : H.length < 200) (K : ∀ I', zMF q I I' → I' 60 25 = nI (H.length + 1) → I' 60 26 = I 60 26 → I' 60 27 = I 60 27 → (∀ j, I' 66 j = I 66 j) → zwhl I' (s :: H) → P none (zk_mk I' tg)) : zk_R sc d 136 0 [some (.ref (60 : Nat)), some (.int v)] [] (zk_mk I tg) P := by
  subst hv
  have y1 : zk_inb (nI H.length) 200 = true := by rw [zn_in (by omega)]; omega
  have y2 : (nI H.length).toNatClampNeg = H.length := zn_cl (by omega)
  have p1 : (nI H.length + 1 : Int32) = nI (H.length + 1) := zn_add _ 1
  simp only [u136_0, u136_1, u136_4, u136_5, u136_8, u136_9, u136_10, u136_11, u136_12, u136_15, u136_16, u136_17, u136_20, zk_mk_1, zk_mk_I, zk_mk_R, zk_mk_set, zk_mk_setR, zk_mk_cpy, zk_rv_some, zk_rv_none, Option.toList_some, Option.toList_none, List.cons_append, List.nil_append, reduceIte, eq_self, Nat.reduceLT, Nat.reduceEqDiff, and_true, true_and, reduceCtorEq, zsh_60, zsh_74, zrf_60_24, h1, y1, y2, p1, zk_up2_k, ne_eq, Nat.reduceEqDiff, not_false_eq_true]
  refine K _ ⟨fun k a b c => by rw [zk_up2_r a, zk_up2_r c], fun j hj => by rw [zk_up2_j (by omega), zk_up2_k (by decide)], fun j hj => by rw [zk_up2_k (by decide), zk_up2_k (by decide)]⟩ (by rw [zk_up2_s]) (by rw [zk_up2_j (by decide), zk_up2_k (by decide)]) (by rw [zk_up2_j (by decide), zk_up2_k (by decide)]) (fun j => by rw [zk_up2_k (by decide), zk_up2_k (by decide)]) ⟨by rw [zk_up2_k (by decide), zk_up2_s], zwhl.cg (fun j hj => by rw [zk_up2_k (by decide), zk_up2_j (by omega)]) h3⟩
theorem s135 {sc : zk_X} {d : Nat} {I : Nat → Nat → Int32} {tg : Option Nat} {P : Option Value → zk_M → Prop} {q s : Nat} {v : Int32} {H O : List Nat} (hv : v = zwhm s) (hs : zo1 s = 1) (hm : zHm I H) (ho : zOm I q O) (hn : H.length < 200) (h5 : zon H ≤ 5) (K0 : zon H = 5 → P (some (.int 0)) (zk_mk I tg)) (K : ¬ zon H = 5 → ∀ I', zMF q I I' → zHm I' (s :: H) → zOm I' q O → P (some (.int 1)) (zk_mk I' tg)) : zk_R sc (d + 1) 135 0 [some (.ref (60 : Nat)), some (.int v)] [] (zk_mk I tg) P := by
  subst hv
  obtain ⟨h1, h2, h3⟩ := hm
  have e : (nI (zon H) = 5) = (zon H = 5) := zn_eq (b := 5) (by omega) (by decide)
  have p1 : (nI (zon H) + 1 : Int32) = nI (zon H + 1) := zn_add _ 1
  simp only [u135_0, u135_1, u135_4, u135_5, u135_8, u135_9, u135_10, u135_11, u135_12, u135_15, u135_16, u135_17, u135_20, u135_21, u135_22, u135_25, u135_26, zk_mk_1, zk_mk_I, zk_mk_R, zk_mk_set, zk_mk_setR, zk_mk_cpy, zk_rv_some, zk_rv_none, Option.toList_some, Option.toList_none, List.cons_append, List.nil_append, reduceIte, eq_self, Nat.reduceLT, Nat.reduceEqDiff, and_true, true_and, reduceCtorEq, zsh_60, h2, e, p1]
  by_cases c : zon H = 5
  · rw [if_pos c]
    exact ⟨Or.inl trivial, K0 c⟩
  · rw [if_neg c]
    refine s136 (q := q) (s := s) (H := H) rfl (by rw [zk_up2_j (by decide)]; exact h1) (zwhl.cg (fun j hj => by rw [zk_up2_k (by decide)]) h3) hn ?_
    intro I' f g1 g2 g3 g4 g5
    simp only [u135_0, u135_1, u135_4, u135_5, u135_8, u135_9, u135_10, u135_11, u135_12, u135_15, u135_16, u135_17, u135_20, u135_21, u135_22, u135_25, u135_26, zk_mk_1, zk_mk_I, zk_mk_R, zk_mk_set, zk_mk_setR, zk_mk_cpy, zk_rv_some, zk_rv_none, Option.toList_some, Option.toList_none, List.cons_append, List.nil_append, reduceIte, eq_self, Nat.reduceLT, Nat.reduceEqDiff, and_true, true_and, reduceCtorEq]
    refine ⟨Or.inr trivial, K c I' (zMF.trans ⟨fun k a b c => by rw [zk_up2_r a], fun j hj => by rw [zk_up2_j (by omega)], fun j hj => by rw [zk_up2_k (by decide)]⟩ f) ⟨g1, ?_, g5⟩ ⟨?_, ?_, fun k hk => ?_⟩⟩
    · rw [g2, zk_up2_s]
      show nI (zon H + 1) = nI (zon H + zo1 s)
      rw [hs]
    · rw [f.2.1 9 (by decide), zk_up2_j (by decide)]; exact ho.1
    · rw [g3, zk_up2_j (by decide)]; exact ho.2.1
    · rw [g4, zk_up2_k (by decide)]; exact ho.2.2 k hk
theorem s137 {sc : zk_X} {d : Nat} {I : Nat → Nat → Int32} {tg : Option Nat} {P : Option Value → zk_M → Prop} {c : Nat} (hc : c = 0 ∨ c = 1 ∨ (3 ≤ c ∧ c ≤ 8) ∨ ((40 ≤ c ∧ c ≤ 43) ∨ c = 45 ∨ (59 ≤ c ∧ c ≤ 61)) ∨ (1000 ≤ c ∧ c < 11006)) (ht : I 60 21 = zmtk c) : zk_R sc d 137 0 [some (.ref (60 : Nat))] [] (zk_mk I tg) P = P (some (.int (if zsn c = 0 then -1 else zwhm (zsn c)))) (zk_mk I tg) := by
  have hv : ∀ t : Int32, (t = 1 ∨ t = 2) → I 60 21 = t → zsn c = 0 → zk_R sc d 137 0 [some (.ref (60 : Nat))] [] (zk_mk I tg) P = P (some (.int (if zsn c = 0 then -1 else zwhm (zsn c)))) (zk_mk I tg) := by
    intro t h12 h e
    rw [if_pos e]
    rcases h12 with rfl | rfl
    · simp only [u137_0, u137_1, u137_4, u137_5, u137_8, u137_10, u137_13, u137_14, u137_17, u137_18, u137_21, u137_23, u137_26, u137_27, u137_30, u137_32, u137_35, u137_37, u137_40, u137_41, u137_44, u137_46, u137_49, u137_51, u137_54, u137_55, u137_58, u137_60, u137_63, u137_65, u137_68, u137_69, u137_72, u137_74, u137_77, u137_79, u137_82, u137_83, u137_86, u137_88, u137_91, u137_93, u137_96, u137_97, zk_mk_1, zk_mk_I, zk_mk_R, zk_mk_set, zk_mk_setR, zk_mk_cpy, zk_rv_some, zk_rv_none, Option.toList_some, Option.toList_none, List.cons_append, List.nil_append, reduceIte, eq_self, Nat.reduceLT, Nat.reduceEqDiff, and_true, true_and, reduceCtorEq, zsh_60, h, show ¬ (1 : Int32) = 4 from by decide, show ¬ (1 : Int32) = 5 from by decide, show ¬ (1 : Int32) = 60 from by decide, show ¬ (1 : Int32) = 61 from by decide, show ¬ (1 : Int32) = 43 from by decide, show ¬ (1 : Int32) = 45 from by decide, show ¬ (1 : Int32) = 42 from by decide]
    · simp only [u137_0, u137_1, u137_4, u137_5, u137_8, u137_10, u137_13, u137_14, u137_17, u137_18, u137_21, u137_23, u137_26, u137_27, u137_30, u137_32, u137_35, u137_37, u137_40, u137_41, u137_44, u137_46, u137_49, u137_51, u137_54, u137_55, u137_58, u137_60, u137_63, u137_65, u137_68, u137_69, u137_72, u137_74, u137_77, u137_79, u137_82, u137_83, u137_86, u137_88, u137_91, u137_93, u137_96, u137_97, zk_mk_1, zk_mk_I, zk_mk_R, zk_mk_set, zk_mk_setR, zk_mk_cpy, zk_rv_some, zk_rv_none, Option.toList_some, Option.toList_none, List.cons_append, List.nil_append, reduceIte, eq_self, Nat.reduceLT, Nat.reduceEqDiff, and_true, true_and, reduceCtorEq, zsh_60, h, show ¬ (2 : Int32) = 4 from by decide, show ¬ (2 : Int32) = 5 from by decide, show ¬ (2 : Int32) = 60 from by decide, show ¬ (2 : Int32) = 61 from by decide, show ¬ (2 : Int32) = 43 from by decide, show ¬ (2 : Int32) = 45 from by decide, show ¬ (2 : Int32) = 42 from by decide]
  rcases (show c = 0 ∨ c = 1 ∨ c = 3 ∨ c = 4 ∨ c = 5 ∨ c = 6 ∨ c = 7 ∨ c = 8 ∨ c = 40 ∨ c = 41 ∨ c = 42 ∨ c = 43 ∨ c = 45 ∨ c = 59 ∨ c = 60 ∨ c = 61 ∨ (1000 ≤ c ∧ c < 11000) ∨ (11000 ≤ c ∧ c < 11006) by omega) with rfl | rfl | rfl | rfl | rfl | rfl | rfl | rfl | rfl | rfl | rfl | rfl | rfl | rfl | rfl | rfl | h | h
  · replace ht := ht.trans (show zmtk 0 = 0 from by decide)
    rw [show (if zsn 0 = 0 then (-1 : Int32) else zwhm (zsn 0)) = -1 from by decide]
    simp only [u137_0, u137_1, u137_4, u137_5, u137_8, u137_10, u137_13, u137_14, u137_17, u137_18, u137_21, u137_23, u137_26, u137_27, u137_30, u137_32, u137_35, u137_37, u137_40, u137_41, u137_44, u137_46, u137_49, u137_51, u137_54, u137_55, u137_58, u137_60, u137_63, u137_65, u137_68, u137_69, u137_72, u137_74, u137_77, u137_79, u137_82, u137_83, u137_86, u137_88, u137_91, u137_93, u137_96, u137_97, zk_mk_1, zk_mk_I, zk_mk_R, zk_mk_set, zk_mk_setR, zk_mk_cpy, zk_rv_some, zk_rv_none, Option.toList_some, Option.toList_none, List.cons_append, List.nil_append, reduceIte, eq_self, Nat.reduceLT, Nat.reduceEqDiff, and_true, true_and, reduceCtorEq, zsh_60, ht, show ¬ (0 : Int32) = 4 from by decide, show ¬ (0 : Int32) = 5 from by decide, show ¬ (0 : Int32) = 60 from by decide, show ¬ (0 : Int32) = 61 from by decide, show ¬ (0 : Int32) = 43 from by decide, show ¬ (0 : Int32) = 45 from by decide, show ¬ (0 : Int32) = 42 from by decide]
  · replace ht := ht.trans (show zmtk 1 = -1 from by decide)
    rw [show (if zsn 1 = 0 then (-1 : Int32) else zwhm (zsn 1)) = -1 from by decide]
    simp only [u137_0, u137_1, u137_4, u137_5, u137_8, u137_10, u137_13, u137_14, u137_17, u137_18, u137_21, u137_23, u137_26, u137_27, u137_30, u137_32, u137_35, u137_37, u137_40, u137_41, u137_44, u137_46, u137_49, u137_51, u137_54, u137_55, u137_58, u137_60, u137_63, u137_65, u137_68, u137_69, u137_72, u137_74, u137_77, u137_79, u137_82, u137_83, u137_86, u137_88, u137_91, u137_93, u137_96, u137_97, zk_mk_1, zk_mk_I, zk_mk_R, zk_mk_set, zk_mk_setR, zk_mk_cpy, zk_rv_some, zk_rv_none, Option.toList_some, Option.toList_none, List.cons_append, List.nil_append, reduceIte, eq_self, Nat.reduceLT, Nat.reduceEqDiff, and_true, true_and, reduceCtorEq, zsh_60, ht, show ¬ (-1 : Int32) = 4 from by decide, show ¬ (-1 : Int32) = 5 from by decide, show ¬ (-1 : Int32) = 60 from by decide, show ¬ (-1 : Int32) = 61 from by decide, show ¬ (-1 : Int32) = 43 from by decide, show ¬ (-1 : Int32) = 45 from by decide, show ¬ (-1 : Int32) = 42 from by decide]
  · replace ht := ht.trans (show zmtk 3 = 4 from by decide)
    rw [show (if zsn 3 = 0 then (-1 : Int32) else zwhm (zsn 3)) = 11 from by decide]
    simp only [u137_0, u137_1, u137_4, u137_5, u137_8, u137_10, u137_13, u137_14, u137_17, u137_18, u137_21, u137_23, u137_26, u137_27, u137_30, u137_32, u137_35, u137_37, u137_40, u137_41, u137_44, u137_46, u137_49, u137_51, u137_54, u137_55, u137_58, u137_60, u137_63, u137_65, u137_68, u137_69, u137_72, u137_74, u137_77, u137_79, u137_82, u137_83, u137_86, u137_88, u137_91, u137_93, u137_96, u137_97, zk_mk_1, zk_mk_I, zk_mk_R, zk_mk_set, zk_mk_setR, zk_mk_cpy, zk_rv_some, zk_rv_none, Option.toList_some, Option.toList_none, List.cons_append, List.nil_append, reduceIte, eq_self, Nat.reduceLT, Nat.reduceEqDiff, and_true, true_and, reduceCtorEq, zsh_60, ht]
  · replace ht := ht.trans (show zmtk 4 = 5 from by decide)
    rw [show (if zsn 4 = 0 then (-1 : Int32) else zwhm (zsn 4)) = 12 from by decide]
    simp only [u137_0, u137_1, u137_4, u137_5, u137_8, u137_10, u137_13, u137_14, u137_17, u137_18, u137_21, u137_23, u137_26, u137_27, u137_30, u137_32, u137_35, u137_37, u137_40, u137_41, u137_44, u137_46, u137_49, u137_51, u137_54, u137_55, u137_58, u137_60, u137_63, u137_65, u137_68, u137_69, u137_72, u137_74, u137_77, u137_79, u137_82, u137_83, u137_86, u137_88, u137_91, u137_93, u137_96, u137_97, zk_mk_1, zk_mk_I, zk_mk_R, zk_mk_set, zk_mk_setR, zk_mk_cpy, zk_rv_some, zk_rv_none, Option.toList_some, Option.toList_none, List.cons_append, List.nil_append, reduceIte, eq_self, Nat.reduceLT, Nat.reduceEqDiff, and_true, true_and, reduceCtorEq, zsh_60, ht, show ¬ (5 : Int32) = 4 from by decide]
  · replace ht := ht.trans (show zmtk 5 = 6 from by decide)
    rw [show (if zsn 5 = 0 then (-1 : Int32) else zwhm (zsn 5)) = -1 from by decide]
    simp only [u137_0, u137_1, u137_4, u137_5, u137_8, u137_10, u137_13, u137_14, u137_17, u137_18, u137_21, u137_23, u137_26, u137_27, u137_30, u137_32, u137_35, u137_37, u137_40, u137_41, u137_44, u137_46, u137_49, u137_51, u137_54, u137_55, u137_58, u137_60, u137_63, u137_65, u137_68, u137_69, u137_72, u137_74, u137_77, u137_79, u137_82, u137_83, u137_86, u137_88, u137_91, u137_93, u137_96, u137_97, zk_mk_1, zk_mk_I, zk_mk_R, zk_mk_set, zk_mk_setR, zk_mk_cpy, zk_rv_some, zk_rv_none, Option.toList_some, Option.toList_none, List.cons_append, List.nil_append, reduceIte, eq_self, Nat.reduceLT, Nat.reduceEqDiff, and_true, true_and, reduceCtorEq, zsh_60, ht, show ¬ (6 : Int32) = 4 from by decide, show ¬ (6 : Int32) = 5 from by decide, show ¬ (6 : Int32) = 60 from by decide, show ¬ (6 : Int32) = 61 from by decide, show ¬ (6 : Int32) = 43 from by decide, show ¬ (6 : Int32) = 45 from by decide, show ¬ (6 : Int32) = 42 from by decide]
  · replace ht := ht.trans (show zmtk 6 = 3 from by decide)
    rw [show (if zsn 6 = 0 then (-1 : Int32) else zwhm (zsn 6)) = -1 from by decide]
    simp only [u137_0, u137_1, u137_4, u137_5, u137_8, u137_10, u137_13, u137_14, u137_17, u137_18, u137_21, u137_23, u137_26, u137_27, u137_30, u137_32, u137_35, u137_37, u137_40, u137_41, u137_44, u137_46, u137_49, u137_51, u137_54, u137_55, u137_58, u137_60, u137_63, u137_65, u137_68, u137_69, u137_72, u137_74, u137_77, u137_79, u137_82, u137_83, u137_86, u137_88, u137_91, u137_93, u137_96, u137_97, zk_mk_1, zk_mk_I, zk_mk_R, zk_mk_set, zk_mk_setR, zk_mk_cpy, zk_rv_some, zk_rv_none, Option.toList_some, Option.toList_none, List.cons_append, List.nil_append, reduceIte, eq_self, Nat.reduceLT, Nat.reduceEqDiff, and_true, true_and, reduceCtorEq, zsh_60, ht, show ¬ (3 : Int32) = 4 from by decide, show ¬ (3 : Int32) = 5 from by decide, show ¬ (3 : Int32) = 60 from by decide, show ¬ (3 : Int32) = 61 from by decide, show ¬ (3 : Int32) = 43 from by decide, show ¬ (3 : Int32) = 45 from by decide, show ¬ (3 : Int32) = 42 from by decide]
  · replace ht := ht.trans (show zmtk 7 = 3 from by decide)
    rw [show (if zsn 7 = 0 then (-1 : Int32) else zwhm (zsn 7)) = -1 from by decide]
    simp only [u137_0, u137_1, u137_4, u137_5, u137_8, u137_10, u137_13, u137_14, u137_17, u137_18, u137_21, u137_23, u137_26, u137_27, u137_30, u137_32, u137_35, u137_37, u137_40, u137_41, u137_44, u137_46, u137_49, u137_51, u137_54, u137_55, u137_58, u137_60, u137_63, u137_65, u137_68, u137_69, u137_72, u137_74, u137_77, u137_79, u137_82, u137_83, u137_86, u137_88, u137_91, u137_93, u137_96, u137_97, zk_mk_1, zk_mk_I, zk_mk_R, zk_mk_set, zk_mk_setR, zk_mk_cpy, zk_rv_some, zk_rv_none, Option.toList_some, Option.toList_none, List.cons_append, List.nil_append, reduceIte, eq_self, Nat.reduceLT, Nat.reduceEqDiff, and_true, true_and, reduceCtorEq, zsh_60, ht, show ¬ (3 : Int32) = 4 from by decide, show ¬ (3 : Int32) = 5 from by decide, show ¬ (3 : Int32) = 60 from by decide, show ¬ (3 : Int32) = 61 from by decide, show ¬ (3 : Int32) = 43 from by decide, show ¬ (3 : Int32) = 45 from by decide, show ¬ (3 : Int32) = 42 from by decide]
  · replace ht := ht.trans (show zmtk 8 = 3 from by decide)
    rw [show (if zsn 8 = 0 then (-1 : Int32) else zwhm (zsn 8)) = -1 from by decide]
    simp only [u137_0, u137_1, u137_4, u137_5, u137_8, u137_10, u137_13, u137_14, u137_17, u137_18, u137_21, u137_23, u137_26, u137_27, u137_30, u137_32, u137_35, u137_37, u137_40, u137_41, u137_44, u137_46, u137_49, u137_51, u137_54, u137_55, u137_58, u137_60, u137_63, u137_65, u137_68, u137_69, u137_72, u137_74, u137_77, u137_79, u137_82, u137_83, u137_86, u137_88, u137_91, u137_93, u137_96, u137_97, zk_mk_1, zk_mk_I, zk_mk_R, zk_mk_set, zk_mk_setR, zk_mk_cpy, zk_rv_some, zk_rv_none, Option.toList_some, Option.toList_none, List.cons_append, List.nil_append, reduceIte, eq_self, Nat.reduceLT, Nat.reduceEqDiff, and_true, true_and, reduceCtorEq, zsh_60, ht, show ¬ (3 : Int32) = 4 from by decide, show ¬ (3 : Int32) = 5 from by decide, show ¬ (3 : Int32) = 60 from by decide, show ¬ (3 : Int32) = 61 from by decide, show ¬ (3 : Int32) = 43 from by decide, show ¬ (3 : Int32) = 45 from by decide, show ¬ (3 : Int32) = 42 from by decide]
  · replace ht := ht.trans (show zmtk 40 = 40 from by decide)
    rw [show (if zsn 40 = 0 then (-1 : Int32) else zwhm (zsn 40)) = -1 from by decide]
    simp only [u137_0, u137_1, u137_4, u137_5, u137_8, u137_10, u137_13, u137_14, u137_17, u137_18, u137_21, u137_23, u137_26, u137_27, u137_30, u137_32, u137_35, u137_37, u137_40, u137_41, u137_44, u137_46, u137_49, u137_51, u137_54, u137_55, u137_58, u137_60, u137_63, u137_65, u137_68, u137_69, u137_72, u137_74, u137_77, u137_79, u137_82, u137_83, u137_86, u137_88, u137_91, u137_93, u137_96, u137_97, zk_mk_1, zk_mk_I, zk_mk_R, zk_mk_set, zk_mk_setR, zk_mk_cpy, zk_rv_some, zk_rv_none, Option.toList_some, Option.toList_none, List.cons_append, List.nil_append, reduceIte, eq_self, Nat.reduceLT, Nat.reduceEqDiff, and_true, true_and, reduceCtorEq, zsh_60, ht, show ¬ (40 : Int32) = 4 from by decide, show ¬ (40 : Int32) = 5 from by decide, show ¬ (40 : Int32) = 60 from by decide, show ¬ (40 : Int32) = 61 from by decide, show ¬ (40 : Int32) = 43 from by decide, show ¬ (40 : Int32) = 45 from by decide, show ¬ (40 : Int32) = 42 from by decide]
  · replace ht := ht.trans (show zmtk 41 = 41 from by decide)
    rw [show (if zsn 41 = 0 then (-1 : Int32) else zwhm (zsn 41)) = -1 from by decide]
    simp only [u137_0, u137_1, u137_4, u137_5, u137_8, u137_10, u137_13, u137_14, u137_17, u137_18, u137_21, u137_23, u137_26, u137_27, u137_30, u137_32, u137_35, u137_37, u137_40, u137_41, u137_44, u137_46, u137_49, u137_51, u137_54, u137_55, u137_58, u137_60, u137_63, u137_65, u137_68, u137_69, u137_72, u137_74, u137_77, u137_79, u137_82, u137_83, u137_86, u137_88, u137_91, u137_93, u137_96, u137_97, zk_mk_1, zk_mk_I, zk_mk_R, zk_mk_set, zk_mk_setR, zk_mk_cpy, zk_rv_some, zk_rv_none, Option.toList_some, Option.toList_none, List.cons_append, List.nil_append, reduceIte, eq_self, Nat.reduceLT, Nat.reduceEqDiff, and_true, true_and, reduceCtorEq, zsh_60, ht, show ¬ (41 : Int32) = 4 from by decide, show ¬ (41 : Int32) = 5 from by decide, show ¬ (41 : Int32) = 60 from by decide, show ¬ (41 : Int32) = 61 from by decide, show ¬ (41 : Int32) = 43 from by decide, show ¬ (41 : Int32) = 45 from by decide, show ¬ (41 : Int32) = 42 from by decide]
  · replace ht := ht.trans (show zmtk 42 = 42 from by decide)
    rw [show (if zsn 42 = 0 then (-1 : Int32) else zwhm (zsn 42)) = 18 from by decide]
    simp only [u137_0, u137_1, u137_4, u137_5, u137_8, u137_10, u137_13, u137_14, u137_17, u137_18, u137_21, u137_23, u137_26, u137_27, u137_30, u137_32, u137_35, u137_37, u137_40, u137_41, u137_44, u137_46, u137_49, u137_51, u137_54, u137_55, u137_58, u137_60, u137_63, u137_65, u137_68, u137_69, u137_72, u137_74, u137_77, u137_79, u137_82, u137_83, u137_86, u137_88, u137_91, u137_93, u137_96, u137_97, zk_mk_1, zk_mk_I, zk_mk_R, zk_mk_set, zk_mk_setR, zk_mk_cpy, zk_rv_some, zk_rv_none, Option.toList_some, Option.toList_none, List.cons_append, List.nil_append, reduceIte, eq_self, Nat.reduceLT, Nat.reduceEqDiff, and_true, true_and, reduceCtorEq, zsh_60, ht, show ¬ (42 : Int32) = 4 from by decide, show ¬ (42 : Int32) = 5 from by decide, show ¬ (42 : Int32) = 60 from by decide, show ¬ (42 : Int32) = 61 from by decide, show ¬ (42 : Int32) = 43 from by decide, show ¬ (42 : Int32) = 45 from by decide]
  · replace ht := ht.trans (show zmtk 43 = 43 from by decide)
    rw [show (if zsn 43 = 0 then (-1 : Int32) else zwhm (zsn 43)) = 16 from by decide]
    simp only [u137_0, u137_1, u137_4, u137_5, u137_8, u137_10, u137_13, u137_14, u137_17, u137_18, u137_21, u137_23, u137_26, u137_27, u137_30, u137_32, u137_35, u137_37, u137_40, u137_41, u137_44, u137_46, u137_49, u137_51, u137_54, u137_55, u137_58, u137_60, u137_63, u137_65, u137_68, u137_69, u137_72, u137_74, u137_77, u137_79, u137_82, u137_83, u137_86, u137_88, u137_91, u137_93, u137_96, u137_97, zk_mk_1, zk_mk_I, zk_mk_R, zk_mk_set, zk_mk_setR, zk_mk_cpy, zk_rv_some, zk_rv_none, Option.toList_some, Option.toList_none, List.cons_append, List.nil_append, reduceIte, eq_self, Nat.reduceLT, Nat.reduceEqDiff, and_true, true_and, reduceCtorEq, zsh_60, ht, show ¬ (43 : Int32) = 4 from by decide, show ¬ (43 : Int32) = 5 from by decide, show ¬ (43 : Int32) = 60 from by decide, show ¬ (43 : Int32) = 61 from by decide]
  · replace ht := ht.trans (show zmtk 45 = 45 from by decide)
    rw [show (if zsn 45 = 0 then (-1 : Int32) else zwhm (zsn 45)) = 17 from by decide]
    simp only [u137_0, u137_1, u137_4, u137_5, u137_8, u137_10, u137_13, u137_14, u137_17, u137_18, u137_21, u137_23, u137_26, u137_27, u137_30, u137_32, u137_35, u137_37, u137_40, u137_41, u137_44, u137_46, u137_49, u137_51, u137_54, u137_55, u137_58, u137_60, u137_63, u137_65, u137_68, u137_69, u137_72, u137_74, u137_77, u137_79, u137_82, u137_83, u137_86, u137_88, u137_91, u137_93, u137_96, u137_97, zk_mk_1, zk_mk_I, zk_mk_R, zk_mk_set, zk_mk_setR, zk_mk_cpy, zk_rv_some, zk_rv_none, Option.toList_some, Option.toList_none, List.cons_append, List.nil_append, reduceIte, eq_self, Nat.reduceLT, Nat.reduceEqDiff, and_true, true_and, reduceCtorEq, zsh_60, ht, show ¬ (45 : Int32) = 4 from by decide, show ¬ (45 : Int32) = 5 from by decide, show ¬ (45 : Int32) = 60 from by decide, show ¬ (45 : Int32) = 61 from by decide, show ¬ (45 : Int32) = 43 from by decide]
  · replace ht := ht.trans (show zmtk 59 = 59 from by decide)
    rw [show (if zsn 59 = 0 then (-1 : Int32) else zwhm (zsn 59)) = -1 from by decide]
    simp only [u137_0, u137_1, u137_4, u137_5, u137_8, u137_10, u137_13, u137_14, u137_17, u137_18, u137_21, u137_23, u137_26, u137_27, u137_30, u137_32, u137_35, u137_37, u137_40, u137_41, u137_44, u137_46, u137_49, u137_51, u137_54, u137_55, u137_58, u137_60, u137_63, u137_65, u137_68, u137_69, u137_72, u137_74, u137_77, u137_79, u137_82, u137_83, u137_86, u137_88, u137_91, u137_93, u137_96, u137_97, zk_mk_1, zk_mk_I, zk_mk_R, zk_mk_set, zk_mk_setR, zk_mk_cpy, zk_rv_some, zk_rv_none, Option.toList_some, Option.toList_none, List.cons_append, List.nil_append, reduceIte, eq_self, Nat.reduceLT, Nat.reduceEqDiff, and_true, true_and, reduceCtorEq, zsh_60, ht, show ¬ (59 : Int32) = 4 from by decide, show ¬ (59 : Int32) = 5 from by decide, show ¬ (59 : Int32) = 60 from by decide, show ¬ (59 : Int32) = 61 from by decide, show ¬ (59 : Int32) = 43 from by decide, show ¬ (59 : Int32) = 45 from by decide, show ¬ (59 : Int32) = 42 from by decide]
  · replace ht := ht.trans (show zmtk 60 = 60 from by decide)
    rw [show (if zsn 60 = 0 then (-1 : Int32) else zwhm (zsn 60)) = 14 from by decide]
    simp only [u137_0, u137_1, u137_4, u137_5, u137_8, u137_10, u137_13, u137_14, u137_17, u137_18, u137_21, u137_23, u137_26, u137_27, u137_30, u137_32, u137_35, u137_37, u137_40, u137_41, u137_44, u137_46, u137_49, u137_51, u137_54, u137_55, u137_58, u137_60, u137_63, u137_65, u137_68, u137_69, u137_72, u137_74, u137_77, u137_79, u137_82, u137_83, u137_86, u137_88, u137_91, u137_93, u137_96, u137_97, zk_mk_1, zk_mk_I, zk_mk_R, zk_mk_set, zk_mk_setR, zk_mk_cpy, zk_rv_some, zk_rv_none, Option.toList_some, Option.toList_none, List.cons_append, List.nil_append, reduceIte, eq_self, Nat.reduceLT, Nat.reduceEqDiff, and_true, true_and, reduceCtorEq, zsh_60, ht, show ¬ (60 : Int32) = 4 from by decide, show ¬ (60 : Int32) = 5 from by decide]
  · replace ht := ht.trans (show zmtk 61 = 61 from by decide)
    rw [show (if zsn 61 = 0 then (-1 : Int32) else zwhm (zsn 61)) = 15 from by decide]
    simp only [u137_0, u137_1, u137_4, u137_5, u137_8, u137_10, u137_13, u137_14, u137_17, u137_18, u137_21, u137_23, u137_26, u137_27, u137_30, u137_32, u137_35, u137_37, u137_40, u137_41, u137_44, u137_46, u137_49, u137_51, u137_54, u137_55, u137_58, u137_60, u137_63, u137_65, u137_68, u137_69, u137_72, u137_74, u137_77, u137_79, u137_82, u137_83, u137_86, u137_88, u137_91, u137_93, u137_96, u137_97, zk_mk_1, zk_mk_I, zk_mk_R, zk_mk_set, zk_mk_setR, zk_mk_cpy, zk_rv_some, zk_rv_none, Option.toList_some, Option.toList_none, List.cons_append, List.nil_append, reduceIte, eq_self, Nat.reduceLT, Nat.reduceEqDiff, and_true, true_and, reduceCtorEq, zsh_60, ht, show ¬ (61 : Int32) = 4 from by decide, show ¬ (61 : Int32) = 5 from by decide, show ¬ (61 : Int32) = 60 from by decide]
  · refine hv 1 (Or.inl rfl) (by rw [ht]; unfold zmtk; rw [if_neg (by omega), if_neg (by omega), if_neg (by omega), if_neg (by omega), if_neg (by omega), if_pos (by omega)]) ?_
    unfold zsn
    rw [if_neg (by omega), if_neg (by omega), if_neg (by omega), if_neg (by omega), if_neg (by omega), if_neg (by omega), if_neg (by omega)]
  · refine hv 2 (Or.inr rfl) (by rw [ht]; unfold zmtk; rw [if_neg (by omega), if_neg (by omega), if_neg (by omega), if_neg (by omega), if_neg (by omega), if_neg (by omega)]) ?_
    unfold zsn
    rw [if_neg (by omega), if_neg (by omega), if_neg (by omega), if_neg (by omega), if_neg (by omega), if_neg (by omega), if_neg (by omega)]
theorem zun_sub {l : Nat} : ∀ {H O : List Nat} {s : Nat}, s ∈ (zun l H O).1 → s ∈ H
  | [], _, s, h => h
  | t :: H, O, s, h => by
    rw [zun] at h
    split at h
    · exact List.mem_cons_of_mem _ (zun_sub h)
    · exact h
theorem zun_ln {l : Nat} : ∀ (H O : List Nat), (zun l H O).2.length + (zun l H O).1.length = O.length + H.length
  | [], O => rfl
  | t :: H, O => by
    rw [zun]
    split
    · rw [zun_ln H (O ++ [t])]
      simp only [List.length_append, List.length_cons, List.length_nil]
      omega
    · rfl
theorem s138 {sc : zk_X} {d : Nat} {I : Nat → Nat → Int32} {tg : Option Nat} {P : Option Value → zk_M → Prop} {q s l : Nat} {v : Int32} {H O : List Nat} (hv : v = zwhm s) (hs : 10012 ≤ s ∧ s < 10019) (hl : l = if zrk s = 4 then 5 else zrk s) (hq : q < 6) (hsv : ∀ s, s ∈ H → zwsv s) (hm : zHm I H) (ho : zOm I q O) (hn : O.length + H.length < 200) (K0 : zrk s = 4 ∧ zhdr (zun l H O).1 = 4 → ∀ I', zMF q I I' → P (some (.int 0)) (zk_mk I' tg)) (K : ¬ (zrk s = 4 ∧ zhdr (zun l H O).1 = 4) → ∀ I', zMF q I I' → zHm I' (s :: (zun l H O).1) → zOm I' q (zun l H O).2 → P (some (.int 1)) (zk_mk I' tg)) : zk_R sc (d + 2) 138 0 [some (.ref (60 : Nat)), some (.int v)] [] (zk_mk I tg) P := by
  subst hv
  have sv : zwsv s := Or.inr (by omega)
  have e4 : ∀ t, (nI (zrk t) = 4) = (zrk t = 4) := fun t => zn_eq (b := 4) (by have := zrk_le t; omega) (by decide)
  have hl1 : 1 ≤ l ∧ l ≤ 7 := by
    rcases zrk_of hs.1 hs.2 with ⟨_, w⟩ | ⟨_, w⟩ | ⟨_, w⟩ | ⟨_, w⟩ | ⟨_, w⟩ | ⟨_, w⟩ | ⟨_, w⟩ <;> rw [w] at hl <;> rw [hl] <;> decide
  have eo : zo1 s = 0 := by unfold zo1; rw [if_neg (by omega)]
  have main : zk_R sc (d + 2) 138 17 [some (.ref (60 : Nat)), some (.int (zwhm s))] [.int (nI l), .ref (60 : Nat)] (zk_mk I tg) P := by
    rw [u138_17 (by rw [zk_mk_1]; decide) (by rw [zsh_60]) (by rw [zsh_60])]
    refine s133 (q := q) hq hl1.1 hl1.2 none H O I hsv hm ho hn ?_ _
    intro I' f m1 o1
    have nn := zun_ln (l := l) H O
    obtain ⟨g1, g2, g3⟩ := id m1
    have fin : ¬ (zrk s = 4 ∧ zhdr (zun l H O).1 = 4) → zk_R sc (d + 2) 138 55 [some (.ref (60 : Nat)), some (.int (zwhm s))] [] (zk_mk I' tg) P := by
      intro w
      rw [u138_55]
      simp only [u138_0, u138_1, u138_2, u138_5, u138_6, u138_9, u138_10, u138_13, u138_14, u138_17, u138_20, u138_21, u138_24, u138_25, u138_28, u138_29, u138_32, u138_35, u138_36, u138_39, u138_40, u138_43, u138_44, u138_45, u138_46, u138_49, u138_50, u138_53, u138_54, u138_56, u138_57, u138_60, u138_61, zk_mk_1, zk_mk_I, zk_mk_R, zk_mk_set, zk_mk_setR, zk_mk_cpy, zk_rv_some, zk_rv_none, Option.toList_some, Option.toList_none, List.cons_append, List.nil_append, reduceIte, eq_self, Nat.reduceLT, Nat.reduceEqDiff, and_true, true_and, reduceCtorEq, zsh_60]
      refine s136 (q := q) (s := s) (H := (zun l H O).1) rfl g1 g3 (by omega) ?_
      intro I2 f2 a1 a2 a3 a4 a5
      simp only [u138_0, u138_1, u138_2, u138_5, u138_6, u138_9, u138_10, u138_13, u138_14, u138_17, u138_20, u138_21, u138_24, u138_25, u138_28, u138_29, u138_32, u138_35, u138_36, u138_39, u138_40, u138_43, u138_44, u138_45, u138_46, u138_49, u138_50, u138_53, u138_54, u138_56, u138_57, u138_60, u138_61, zk_mk_1, zk_mk_I, zk_mk_R, zk_mk_set, zk_mk_setR, zk_mk_cpy, zk_rv_some, zk_rv_none, Option.toList_some, Option.toList_none, List.cons_append, List.nil_append, reduceIte, eq_self, Nat.reduceLT, Nat.reduceEqDiff, and_true, true_and, reduceCtorEq]
      refine ⟨Or.inr trivial, K w I2 (f.trans f2) ⟨a1, ?_, a5⟩ ⟨?_, ?_, fun k hk => ?_⟩⟩
      · rw [a2, g2]
        show nI (zon (zun l H O).1) = nI (zon (zun l H O).1 + zo1 s)
        rw [eo]; rfl
      · rw [f2.2.1 9 (by decide)]; exact o1.1
      · rw [a3]; exact o1.2.1
      · rw [a4]; exact o1.2.2 k hk
    by_cases c4 : zrk s = 4
    · cases hu : (zun l H O).1 with
      | nil =>
        rw [hu] at g1
        have c0 : nI ([] : List Nat).length ≤ 0 := by decide
        simp only [u138_0, u138_1, u138_2, u138_5, u138_6, u138_9, u138_10, u138_13, u138_14, u138_17, u138_20, u138_21, u138_24, u138_25, u138_28, u138_29, u138_32, u138_35, u138_36, u138_39, u138_40, u138_43, u138_44, u138_45, u138_46, u138_49, u138_50, u138_53, u138_54, u138_56, u138_57, u138_60, u138_61, zk_mk_1, zk_mk_I, zk_mk_R, zk_mk_set, zk_mk_setR, zk_mk_cpy, zk_rv_some, zk_rv_none, Option.toList_some, Option.toList_none, List.cons_append, List.nil_append, reduceIte, eq_self, Nat.reduceLT, Nat.reduceEqDiff, and_true, true_and, reduceCtorEq, zsh_60, s134 sv, e4, c4, g1, c0]
        exact fin (fun w => by rw [hu] at w; exact absurd w.2 (by decide))
      | cons t H1 =>
        rw [hu] at g1 g3 nn
        rw [List.length_cons] at g1 nn
        have c0 : ¬ nI (H1.length + 1) ≤ 0 := by rw [show (0 : Int32) = nI 0 from rfl, zn_le (by omega) (by decide)]; omega
        have y0 : nI (H1.length + 1) - 1 = nI H1.length := zn_sub (b := 1) (by omega)
        have y1 : zk_inb (nI H1.length) 200 = true := by rw [zn_in (by omega)]; omega
        have y2 : (nI H1.length).toNatClampNeg = H1.length := zn_cl (by omega)
        have tv : zwsv t := hsv t (zun_sub (by rw [hu]; exact List.mem_cons_self ..))
        by_cases ct : zrk t = 4
        · have w : zrk s = 4 ∧ zhdr (zun l H O).1 = 4 := ⟨c4, by rw [hu]; exact ct⟩
          simp only [u138_0, u138_1, u138_2, u138_5, u138_6, u138_9, u138_10, u138_13, u138_14, u138_17, u138_20, u138_21, u138_24, u138_25, u138_28, u138_29, u138_32, u138_35, u138_36, u138_39, u138_40, u138_43, u138_44, u138_45, u138_46, u138_49, u138_50, u138_53, u138_54, u138_56, u138_57, u138_60, u138_61, zk_mk_1, zk_mk_I, zk_mk_R, zk_mk_set, zk_mk_setR, zk_mk_cpy, zk_rv_some, zk_rv_none, Option.toList_some, Option.toList_none, List.cons_append, List.nil_append, reduceIte, eq_self, Nat.reduceLT, Nat.reduceEqDiff, and_true, true_and, reduceCtorEq, zsh_60, zsh_74, zrf_60_24, s134 sv, e4, c4, g1, c0, y0, y1, y2, g3.1, s134 tv, ct]
          exact ⟨Or.inl trivial, K0 w I' f⟩
        · simp only [u138_0, u138_1, u138_2, u138_5, u138_6, u138_9, u138_10, u138_13, u138_14, u138_17, u138_20, u138_21, u138_24, u138_25, u138_28, u138_29, u138_32, u138_35, u138_36, u138_39, u138_40, u138_43, u138_44, u138_45, u138_46, u138_49, u138_50, u138_53, u138_54, u138_56, u138_57, u138_60, u138_61, zk_mk_1, zk_mk_I, zk_mk_R, zk_mk_set, zk_mk_setR, zk_mk_cpy, zk_rv_some, zk_rv_none, Option.toList_some, Option.toList_none, List.cons_append, List.nil_append, reduceIte, eq_self, Nat.reduceLT, Nat.reduceEqDiff, and_true, true_and, reduceCtorEq, zsh_60, zsh_74, zrf_60_24, s134 sv, e4, c4, g1, c0, y0, y1, y2, g3.1, s134 tv, ct]
          exact fin (fun w => ct (by rw [hu] at w; exact w.2))
    · simp only [u138_0, u138_1, u138_2, u138_5, u138_6, u138_9, u138_10, u138_13, u138_14, u138_17, u138_20, u138_21, u138_24, u138_25, u138_28, u138_29, u138_32, u138_35, u138_36, u138_39, u138_40, u138_43, u138_44, u138_45, u138_46, u138_49, u138_50, u138_53, u138_54, u138_56, u138_57, u138_60, u138_61, zk_mk_1, zk_mk_I, zk_mk_R, zk_mk_set, zk_mk_setR, zk_mk_cpy, zk_rv_some, zk_rv_none, Option.toList_some, Option.toList_none, List.cons_append, List.nil_append, reduceIte, eq_self, Nat.reduceLT, Nat.reduceEqDiff, and_true, true_and, reduceCtorEq, zsh_60, s134 sv, e4, c4]
      exact fin (fun w => c4 w.1)
  by_cases c4 : zrk s = 4
  · rw [if_pos c4] at hl
    subst hl
    simp only [u138_0, u138_1, u138_2, u138_5, u138_6, u138_9, u138_10, u138_13, u138_14, u138_20, u138_21, u138_24, u138_25, u138_28, u138_29, u138_32, u138_35, u138_36, u138_39, u138_40, u138_43, u138_44, u138_45, u138_46, u138_49, u138_50, u138_53, u138_54, u138_55, u138_56, u138_57, u138_60, u138_61, zk_mk_1, zk_mk_I, zk_mk_R, zk_mk_set, zk_mk_setR, zk_mk_cpy, zk_rv_some, zk_rv_none, Option.toList_some, Option.toList_none, List.cons_append, List.nil_append, reduceIte, eq_self, Nat.reduceLT, Nat.reduceEqDiff, and_true, true_and, reduceCtorEq, zsh_60, s134 sv, e4, c4]
    exact main
  · rw [if_neg c4] at hl
    subst hl
    simp only [u138_0, u138_1, u138_2, u138_5, u138_6, u138_9, u138_10, u138_13, u138_14, u138_20, u138_21, u138_24, u138_25, u138_28, u138_29, u138_32, u138_35, u138_36, u138_39, u138_40, u138_43, u138_44, u138_45, u138_46, u138_49, u138_50, u138_53, u138_54, u138_55, u138_56, u138_57, u138_60, u138_61, zk_mk_1, zk_mk_I, zk_mk_R, zk_mk_set, zk_mk_setR, zk_mk_cpy, zk_rv_some, zk_rv_none, Option.toList_some, Option.toList_none, List.cons_append, List.nil_append, reduceIte, eq_self, Nat.reduceLT, Nat.reduceEqDiff, and_true, true_and, reduceCtorEq, zsh_60, s134 sv, e4, c4]
    exact main
