/-! signs that wait, by the reference -/
def zwsv (s : Nat) : Prop := s = 0 ∨ (10010 ≤ s ∧ s < 10019)
def zwhm (s : Nat) : Int32 := if s = 0 then 0 else zt_m s
def zwhl (I : Nat → Nat → Int32) : List Nat → Prop
  | [] => True
  | s :: H => I 74 H.length = zwhm s ∧ zwhl I H
def zHm (I : Nat → Nat → Int32) (H : List Nat) : Prop := I 60 25 = nI H.length ∧ I 60 26 = nI (zon H) ∧ zwhl I H
def zOm (I : Nat → Nat → Int32) (q : Nat) (O : List Nat) : Prop := I 60 9 = nI q ∧ I 60 27 = nI O.length ∧ ∀ k, k < O.length → I 66 (200 * q + k) = zt_m (O.getD k 0)
def zMF (q : Nat) (I I' : Nat → Nat → Int32) : Prop := (∀ k, k ≠ 60 → k ≠ 66 → k ≠ 74 → I' k = I k) ∧ (∀ j, j < 25 ∨ 27 < j → I' 60 j = I 60 j) ∧ ∀ j, j < 200 * q → I' 66 j = I 66 j
theorem zMF.refl (q : Nat) (I : Nat → Nat → Int32) : zMF q I I := ⟨fun _ _ _ _ => rfl, fun _ _ => rfl, fun _ _ => rfl⟩
theorem zMF.trans {q : Nat} {I I' I'' : Nat → Nat → Int32} (h : zMF q I I') (g : zMF q I' I'') : zMF q I I'' := ⟨fun k a b c => by rw [g.1 k a b c, h.1 k a b c], fun j hj => by rw [g.2.1 j hj, h.2.1 j hj], fun j hj => by rw [g.2.2 j hj, h.2.2 j hj]⟩
theorem zwhl.cg {I I' : Nat → Nat → Int32} : ∀ {H : List Nat}, (∀ j, j < H.length → I' 74 j = I 74 j) → zwhl I H → zwhl I' H
  | [], _, h => h
  | s :: H, e, h => ⟨by rw [e H.length (by rw [List.length_cons]; omega)]; exact h.1, zwhl.cg (fun j hj => e j (by rw [List.length_cons]; omega)) h.2⟩
theorem zwsv_of {s : Nat} (h : zwsv s) : s = 0 ∨ s = 10010 ∨ s = 10011 ∨ s = 10012 ∨ s = 10013 ∨ s = 10014 ∨ s = 10015 ∨ s = 10016 ∨ s = 10017 ∨ s = 10018 := by
  unfold zwsv at h
  omega
theorem zhw_ok : ∀ {H : List Nat}, zhw H → ∀ s, s ∈ H → zwsv s
  | [], _, s, hs => absurd hs (by simp)
  | t :: H, h, s, hs => by
    rcases List.mem_cons.mp hs with rfl | hs
    · unfold zwsv
      rcases h.2 with h | h | h | h
      · exact Or.inl h
      · exact Or.inr (by omega)
      · exact Or.inr (by omega)
      · exact Or.inr (by omega)
    · exact zhw_ok h.1 s hs
theorem zwhm_ne {s : Nat} (h : zwsv s) (h0 : ¬ s = 0) : zwhm s = zt_m s := by unfold zwhm; rw [if_neg h0]
theorem zwhm_13 {s : Nat} (h : zwsv s) : (zwhm s = 13) = (s = 10011) := by
  rcases zwsv_of h with rfl | rfl | rfl | rfl | rfl | rfl | rfl | rfl | rfl | rfl <;> exact propext (by decide)
theorem zwhm_19 {s : Nat} (h : zwsv s) : (zwhm s = 19) = (s = 10010) := by
  rcases zwsv_of h with rfl | rfl | rfl | rfl | rfl | rfl | rfl | rfl | rfl | rfl <;> exact propext (by decide)
theorem s134 {sc : zk_X} {d : Nat} {M : zk_M} {P : Option Value → zk_M → Prop} {s : Nat} (h : zwsv s) : zk_R sc d 134 0 [some (.int (zwhm s))] [] M P = P (some (.int (nI (zrk s)))) M := by
  rcases zwsv_of h with rfl | rfl | rfl | rfl | rfl | rfl | rfl | rfl | rfl | rfl
  · simp only [u134_0, u134_1, u134_4, u134_5, u134_8, u134_9, u134_11, u134_14, u134_15, u134_18, u134_19, u134_21, u134_24, u134_25, u134_28, u134_29, u134_31, u134_34, u134_35, u134_38, u134_39, u134_41, u134_44, u134_45, u134_48, u134_49, u134_51, u134_54, u134_55, u134_58, u134_59, u134_61, u134_64, u134_66, u134_69, u134_71, zk_mk_1, zk_mk_I, zk_mk_R, zk_mk_set, zk_mk_setR, zk_mk_cpy, zk_rv_some, zk_rv_none, Option.toList_some, Option.toList_none, List.cons_append, List.nil_append, reduceIte, eq_self, Nat.reduceLT, Nat.reduceEqDiff, and_true, true_and, reduceCtorEq, show zwhm 0 = 0 from by decide, show nI (zrk 0) = 0 from by decide]
  · simp only [u134_0, u134_1, u134_4, u134_5, u134_8, u134_9, u134_11, u134_14, u134_15, u134_18, u134_19, u134_21, u134_24, u134_25, u134_28, u134_29, u134_31, u134_34, u134_35, u134_38, u134_39, u134_41, u134_44, u134_45, u134_48, u134_49, u134_51, u134_54, u134_55, u134_58, u134_59, u134_61, u134_64, u134_66, u134_69, u134_71, zk_mk_1, zk_mk_I, zk_mk_R, zk_mk_set, zk_mk_setR, zk_mk_cpy, zk_rv_some, zk_rv_none, Option.toList_some, Option.toList_none, List.cons_append, List.nil_append, reduceIte, eq_self, Nat.reduceLT, Nat.reduceEqDiff, and_true, true_and, reduceCtorEq, show zwhm 10010 = 19 from by decide, show nI (zrk 10010) = 7 from by decide, show ¬ (19 : Int32) = 0 from by decide, show ¬ (19 : Int32) = 11 from by decide, show ¬ (19 : Int32) = 12 from by decide, show ¬ (19 : Int32) = 13 from by decide, show (15 : Int32) < 19 from by decide, show (17 : Int32) < 19 from by decide, show ¬ (19 : Int32) = 18 from by decide]
  · simp only [u134_0, u134_1, u134_4, u134_5, u134_8, u134_9, u134_11, u134_14, u134_15, u134_18, u134_19, u134_21, u134_24, u134_25, u134_28, u134_29, u134_31, u134_34, u134_35, u134_38, u134_39, u134_41, u134_44, u134_45, u134_48, u134_49, u134_51, u134_54, u134_55, u134_58, u134_59, u134_61, u134_64, u134_66, u134_69, u134_71, zk_mk_1, zk_mk_I, zk_mk_R, zk_mk_set, zk_mk_setR, zk_mk_cpy, zk_rv_some, zk_rv_none, Option.toList_some, Option.toList_none, List.cons_append, List.nil_append, reduceIte, eq_self, Nat.reduceLT, Nat.reduceEqDiff, and_true, true_and, reduceCtorEq, show zwhm 10011 = 13 from by decide, show nI (zrk 10011) = 3 from by decide, show ¬ (13 : Int32) = 0 from by decide, show ¬ (13 : Int32) = 11 from by decide, show ¬ (13 : Int32) = 12 from by decide]
  · simp only [u134_0, u134_1, u134_4, u134_5, u134_8, u134_9, u134_11, u134_14, u134_15, u134_18, u134_19, u134_21, u134_24, u134_25, u134_28, u134_29, u134_31, u134_34, u134_35, u134_38, u134_39, u134_41, u134_44, u134_45, u134_48, u134_49, u134_51, u134_54, u134_55, u134_58, u134_59, u134_61, u134_64, u134_66, u134_69, u134_71, zk_mk_1, zk_mk_I, zk_mk_R, zk_mk_set, zk_mk_setR, zk_mk_cpy, zk_rv_some, zk_rv_none, Option.toList_some, Option.toList_none, List.cons_append, List.nil_append, reduceIte, eq_self, Nat.reduceLT, Nat.reduceEqDiff, and_true, true_and, reduceCtorEq, show zwhm 10012 = 18 from by decide, show nI (zrk 10012) = 6 from by decide, show ¬ (18 : Int32) = 0 from by decide, show ¬ (18 : Int32) = 11 from by decide, show ¬ (18 : Int32) = 12 from by decide, show ¬ (18 : Int32) = 13 from by decide, show (15 : Int32) < 18 from by decide, show (17 : Int32) < 18 from by decide]
  · simp only [u134_0, u134_1, u134_4, u134_5, u134_8, u134_9, u134_11, u134_14, u134_15, u134_18, u134_19, u134_21, u134_24, u134_25, u134_28, u134_29, u134_31, u134_34, u134_35, u134_38, u134_39, u134_41, u134_44, u134_45, u134_48, u134_49, u134_51, u134_54, u134_55, u134_58, u134_59, u134_61, u134_64, u134_66, u134_69, u134_71, zk_mk_1, zk_mk_I, zk_mk_R, zk_mk_set, zk_mk_setR, zk_mk_cpy, zk_rv_some, zk_rv_none, Option.toList_some, Option.toList_none, List.cons_append, List.nil_append, reduceIte, eq_self, Nat.reduceLT, Nat.reduceEqDiff, and_true, true_and, reduceCtorEq, show zwhm 10013 = 16 from by decide, show nI (zrk 10013) = 5 from by decide, show ¬ (16 : Int32) = 0 from by decide, show ¬ (16 : Int32) = 11 from by decide, show ¬ (16 : Int32) = 12 from by decide, show ¬ (16 : Int32) = 13 from by decide, show (15 : Int32) < 16 from by decide, show ¬ (17 : Int32) < 16 from by decide]
  · simp only [u134_0, u134_1, u134_4, u134_5, u134_8, u134_9, u134_11, u134_14, u134_15, u134_18, u134_19, u134_21, u134_24, u134_25, u134_28, u134_29, u134_31, u134_34, u134_35, u134_38, u134_39, u134_41, u134_44, u134_45, u134_48, u134_49, u134_51, u134_54, u134_55, u134_58, u134_59, u134_61, u134_64, u134_66, u134_69, u134_71, zk_mk_1, zk_mk_I, zk_mk_R, zk_mk_set, zk_mk_setR, zk_mk_cpy, zk_rv_some, zk_rv_none, Option.toList_some, Option.toList_none, List.cons_append, List.nil_append, reduceIte, eq_self, Nat.reduceLT, Nat.reduceEqDiff, and_true, true_and, reduceCtorEq, show zwhm 10014 = 17 from by decide, show nI (zrk 10014) = 5 from by decide, show ¬ (17 : Int32) = 0 from by decide, show ¬ (17 : Int32) = 11 from by decide, show ¬ (17 : Int32) = 12 from by decide, show ¬ (17 : Int32) = 13 from by decide, show (15 : Int32) < 17 from by decide, show ¬ (17 : Int32) < 17 from by decide]
  · simp only [u134_0, u134_1, u134_4, u134_5, u134_8, u134_9, u134_11, u134_14, u134_15, u134_18, u134_19, u134_21, u134_24, u134_25, u134_28, u134_29, u134_31, u134_34, u134_35, u134_38, u134_39, u134_41, u134_44, u134_45, u134_48, u134_49, u134_51, u134_54, u134_55, u134_58, u134_59, u134_61, u134_64, u134_66, u134_69, u134_71, zk_mk_1, zk_mk_I, zk_mk_R, zk_mk_set, zk_mk_setR, zk_mk_cpy, zk_rv_some, zk_rv_none, Option.toList_some, Option.toList_none, List.cons_append, List.nil_append, reduceIte, eq_self, Nat.reduceLT, Nat.reduceEqDiff, and_true, true_and, reduceCtorEq, show zwhm 10015 = 14 from by decide, show nI (zrk 10015) = 4 from by decide, show ¬ (14 : Int32) = 0 from by decide, show ¬ (14 : Int32) = 11 from by decide, show ¬ (14 : Int32) = 12 from by decide, show ¬ (14 : Int32) = 13 from by decide, show ¬ (15 : Int32) < 14 from by decide]
  · simp only [u134_0, u134_1, u134_4, u134_5, u134_8, u134_9, u134_11, u134_14, u134_15, u134_18, u134_19, u134_21, u134_24, u134_25, u134_28, u134_29, u134_31, u134_34, u134_35, u134_38, u134_39, u134_41, u134_44, u134_45, u134_48, u134_49, u134_51, u134_54, u134_55, u134_58, u134_59, u134_61, u134_64, u134_66, u134_69, u134_71, zk_mk_1, zk_mk_I, zk_mk_R, zk_mk_set, zk_mk_setR, zk_mk_cpy, zk_rv_some, zk_rv_none, Option.toList_some, Option.toList_none, List.cons_append, List.nil_append, reduceIte, eq_self, Nat.reduceLT, Nat.reduceEqDiff, and_true, true_and, reduceCtorEq, show zwhm 10016 = 15 from by decide, show nI (zrk 10016) = 4 from by decide, show ¬ (15 : Int32) = 0 from by decide, show ¬ (15 : Int32) = 11 from by decide, show ¬ (15 : Int32) = 12 from by decide, show ¬ (15 : Int32) = 13 from by decide, show ¬ (15 : Int32) < 15 from by decide]
  · simp only [u134_0, u134_1, u134_4, u134_5, u134_8, u134_9, u134_11, u134_14, u134_15, u134_18, u134_19, u134_21, u134_24, u134_25, u134_28, u134_29, u134_31, u134_34, u134_35, u134_38, u134_39, u134_41, u134_44, u134_45, u134_48, u134_49, u134_51, u134_54, u134_55, u134_58, u134_59, u134_61, u134_64, u134_66, u134_69, u134_71, zk_mk_1, zk_mk_I, zk_mk_R, zk_mk_set, zk_mk_setR, zk_mk_cpy, zk_rv_some, zk_rv_none, Option.toList_some, Option.toList_none, List.cons_append, List.nil_append, reduceIte, eq_self, Nat.reduceLT, Nat.reduceEqDiff, and_true, true_and, reduceCtorEq, show zwhm 10017 = 12 from by decide, show nI (zrk 10017) = 2 from by decide, show ¬ (12 : Int32) = 0 from by decide, show ¬ (12 : Int32) = 11 from by decide]
  · simp only [u134_0, u134_1, u134_4, u134_5, u134_8, u134_9, u134_11, u134_14, u134_15, u134_18, u134_19, u134_21, u134_24, u134_25, u134_28, u134_29, u134_31, u134_34, u134_35, u134_38, u134_39, u134_41, u134_44, u134_45, u134_48, u134_49, u134_51, u134_54, u134_55, u134_58, u134_59, u134_61, u134_64, u134_66, u134_69, u134_71, zk_mk_1, zk_mk_I, zk_mk_R, zk_mk_set, zk_mk_setR, zk_mk_cpy, zk_rv_some, zk_rv_none, Option.toList_some, Option.toList_none, List.cons_append, List.nil_append, reduceIte, eq_self, Nat.reduceLT, Nat.reduceEqDiff, and_true, true_and, reduceCtorEq, show zwhm 10018 = 11 from by decide, show nI (zrk 10018) = 1 from by decide, show ¬ (11 : Int32) = 0 from by decide]
theorem s132 {sc : zk_X} {d : Nat} {I : Nat → Nat → Int32} {tg : Option Nat} {P : Option Value → zk_M → Prop} {q t : Nat} {v : Int32} {O : List Nat} (hv : v = zt_m t) (ho : zOm I q O) (hq : q < 6) (hl : O.length < 200) (K : ∀ I', zMF q I I' → (∀ j, I' 74 j = I 74 j) → I' 60 25 = I 60 25 → I' 60 26 = I 60 26 → zOm I' q (O ++ [t]) → P none (zk_mk I' tg)) : zk_R sc d 132 0 [some (.ref (60 : Nat)), some (.int v)] [] (zk_mk I tg) P := by
  subst hv
  obtain ⟨o1, o2, o3⟩ := ho
  have z0 : (200 : Int32) * nI q + nI O.length = nI (200 * q + O.length) := by rw [show (200 : Int32) = nI 200 from rfl, zn_mul, zn_add]
  have z1 : zk_inb (nI (200 * q + O.length)) 1200 = true := by rw [zn_in (by omega)]; omega
  have z2 : (nI (200 * q + O.length)).toNatClampNeg = 200 * q + O.length := zn_cl (by omega)
  have p1 : (nI O.length + 1 : Int32) = nI (O.length + 1) := zn_add _ 1
  simp only [u132_0, u132_1, u132_4, u132_7, u132_8, u132_11, u132_12, u132_13, u132_16, u132_17, u132_18, u132_19, u132_20, u132_21, u132_24, u132_25, u132_26, u132_29, zk_mk_1, zk_mk_I, zk_mk_R, zk_mk_set, zk_mk_setR, zk_mk_cpy, zk_rv_some, zk_rv_none, Option.toList_some, Option.toList_none, List.cons_append, List.nil_append, reduceIte, eq_self, Nat.reduceLT, Nat.reduceEqDiff, and_true, true_and, reduceCtorEq, zsh_60, zsh_66, zrf_60_7, o1, o2, z0, z1, z2, p1, zk_up2_k, ne_eq, Nat.reduceEqDiff, not_false_eq_true]
  refine K _ ⟨fun k a b c => by rw [zk_up2_r a, zk_up2_r b], fun j hj => by rw [zk_up2_j (by omega), zk_up2_k (by decide)], fun j hj => by rw [zk_up2_k (by decide), zk_up2_j (by omega)]⟩ (fun j => by rw [zk_up2_k (by decide), zk_up2_k (by decide)]) (by rw [zk_up2_j (by decide), zk_up2_k (by decide)]) (by rw [zk_up2_j (by decide), zk_up2_k (by decide)]) ⟨by rw [zk_up2_j (by decide), zk_up2_k (by decide)]; exact o1, by rw [zk_up2_s, List.length_append]; rfl, fun k hk => ?_⟩
  rw [zk_up2_k (by decide)]
  rw [List.length_append, List.length_singleton] at hk
  by_cases e : k = O.length
  · rw [e, zk_up2_s, zl_app_at]
  · rw [zk_up2_j (by omega), zl_app_lt (by omega)]
    exact o3 k (by omega)
theorem s133 {sc : zk_X} {d : Nat} {tg : Option Nat} {P : Option Value → zk_M → Prop} {q l : Nat} (hq : q < 6) (hl : 1 ≤ l) (hl7 : l ≤ 7) (x : Option Value) : ∀ (H O : List Nat) (I : Nat → Nat → Int32), (∀ s, s ∈ H → zwsv s) → zHm I H → zOm I q O → O.length + H.length < 200 → (∀ I', zMF q I I' → zHm I' (zun l H O).1 → zOm I' q (zun l H O).2 → P none (zk_mk I' tg)) → ∀ x, zk_R sc (d + 1) 133 0 [some (.ref (60 : Nat)), some (.int (nI l)), x] [] (zk_mk I tg) P
  | [], O, I, hs, hm, ho, hn, K, x => by
    obtain ⟨h1, h2, h3⟩ := id hm
    have c : nI ([] : List Nat).length ≤ 0 := by decide
    rw [u133_0]
    simp only [u133_1, u133_4, u133_7, u133_8, u133_11, u133_12, u133_15, u133_16, u133_17, u133_18, u133_21, u133_22, u133_25, u133_26, u133_27, u133_30, u133_31, u133_32, u133_35, u133_36, u133_39, u133_40, u133_43, u133_44, u133_45, u133_46, u133_47, u133_50, u133_51, u133_53, u133_56, u133_57, u133_59, u133_62, u133_63, u133_66, u133_67, u133_68, u133_71, u133_72, u133_73, u133_76, u133_79, zk_mk_1, zk_mk_I, zk_mk_R, zk_mk_set, zk_mk_setR, zk_mk_cpy, zk_rv_some, zk_rv_none, Option.toList_some, Option.toList_none, List.cons_append, List.nil_append, reduceIte, eq_self, Nat.reduceLT, Nat.reduceEqDiff, and_true, true_and, reduceCtorEq, zsh_60, h1, c]
    exact K I (zMF.refl q I) hm ho
  | s :: H, O, I, hs, hm, ho, hn, K, x => by
    obtain ⟨h1, h2, h3, h4⟩ := id hm
    rw [List.length_cons] at h1 hn
    have sv := hs s (List.mem_cons_self ..)
    have c : ¬ nI (H.length + 1) ≤ 0 := by rw [show (0 : Int32) = nI 0 from rfl, zn_le (by omega) (by decide)]; omega
    have y0 : nI (H.length + 1) - 1 = nI H.length := zn_sub (b := 1) (by omega)
    have y1 : zk_inb (nI H.length) 200 = true := by rw [zn_in (by omega)]; omega
    have y2 : (nI H.length).toNatClampNeg = H.length := zn_cl (by omega)
    have yl : (nI (zrk s) < nI l) = (zrk s < l) := zn_lt (by have := zrk_le s; omega) (by omega)
    rw [u133_0]
    simp only [u133_1, u133_4, u133_7, u133_8, u133_11, u133_12, u133_15, u133_16, u133_17, u133_18, u133_21, u133_22, u133_25, u133_26, u133_27, u133_30, u133_31, u133_32, u133_35, u133_36, u133_39, u133_40, u133_43, u133_44, u133_45, u133_46, u133_47, u133_50, u133_51, u133_53, u133_56, u133_57, u133_59, u133_62, u133_63, u133_66, u133_67, u133_68, u133_72, u133_73, u133_76, u133_79, zk_mk_1, zk_mk_I, zk_mk_R, zk_mk_set, zk_mk_setR, zk_mk_cpy, zk_rv_some, zk_rv_none, Option.toList_some, Option.toList_none, List.cons_append, List.nil_append, reduceIte, eq_self, Nat.reduceLT, Nat.reduceEqDiff, and_true, true_and, reduceCtorEq, zsh_60, zsh_74, zrf_60_24, h1, c, y0, y1, y2, h3, s134 sv, yl, zwhm_13 sv, zwhm_19 sv, zk_up2_k, zk_up2_j, zk_up2_s, ne_eq, Nat.reduceEqDiff, not_false_eq_true]
    rw [zun] at K
    by_cases cr : l ≤ zrk s
    · rw [if_neg (by omega)]
      rw [if_pos cr] at K
      have s0 : ¬ s = 0 := fun e => by rw [e] at cr; exact absurd cr (by have : zrk 0 = 0 := rfl; omega)
      have go : ∀ (v : Int32) (y : Unit), v = nI (zon H) → zk_R sc (d + 1) 133 71 [some (.ref (60 : Nat)), some (.int (nI l)), some (.int (zwhm s))] [] (zk_mk (zk_up2 (zk_up2 I 60 25 (nI H.length)) 60 26 v) tg) P := by
        intro v _ hv
        rw [u133_71]
        simp only [u133_1, u133_4, u133_7, u133_8, u133_11, u133_12, u133_15, u133_16, u133_17, u133_18, u133_21, u133_22, u133_25, u133_26, u133_27, u133_30, u133_31, u133_32, u133_35, u133_36, u133_39, u133_40, u133_43, u133_44, u133_45, u133_46, u133_47, u133_50, u133_51, u133_53, u133_56, u133_57, u133_59, u133_62, u133_63, u133_66, u133_67, u133_68, u133_71, u133_72, u133_73, u133_76, u133_79, zk_mk_1, zk_mk_I, zk_mk_R, zk_mk_set, zk_mk_setR, zk_mk_cpy, zk_rv_some, zk_rv_none, Option.toList_some, Option.toList_none, List.cons_append, List.nil_append, reduceIte, eq_self, Nat.reduceLT, Nat.reduceEqDiff, and_true, true_and, reduceCtorEq, zsh_60]
        refine s132 (q := q) (t := s) (O := O) (zwhm_ne sv s0) ⟨by rw [zk_up2_j (by decide), zk_up2_j (by decide)]; exact ho.1, by rw [zk_up2_j (by decide), zk_up2_j (by decide)]; exact ho.2.1, fun k hk => by rw [zk_up2_k (by decide), zk_up2_k (by decide)]; exact ho.2.2 k hk⟩ hq (by omega) ?_
        intro I2 f g1 g2 g3 o2
        simp only [u133_1, u133_4, u133_7, u133_8, u133_11, u133_12, u133_15, u133_16, u133_17, u133_18, u133_21, u133_22, u133_25, u133_26, u133_27, u133_30, u133_31, u133_32, u133_35, u133_36, u133_39, u133_40, u133_43, u133_44, u133_45, u133_46, u133_47, u133_50, u133_51, u133_53, u133_56, u133_57, u133_59, u133_62, u133_63, u133_66, u133_67, u133_68, u133_71, u133_72, u133_73, u133_76, u133_79, zk_mk_1, zk_mk_I, zk_mk_R, zk_mk_set, zk_mk_setR, zk_mk_cpy, zk_rv_some, zk_rv_none, Option.toList_some, Option.toList_none, List.cons_append, List.nil_append, reduceIte, eq_self, Nat.reduceLT, Nat.reduceEqDiff, and_true, true_and, reduceCtorEq, zsh_60]
        refine s133 hq hl hl7 none H (O ++ [s]) I2 (fun t ht => hs t (List.mem_cons_of_mem _ ht)) ⟨?_, ?_, ?_⟩ o2 (by rw [List.length_append, List.length_singleton]; omega) ?_ _
        · rw [g2, zk_up2_j (by decide), zk_up2_s]
        · rw [g3, zk_up2_s, hv]
        · exact zwhl.cg (fun j _ => by rw [g1, zk_up2_k (by decide), zk_up2_k (by decide)]) h4
        · intro I3 f3 m3 o3
          refine K I3 (zMF.trans (zMF.trans ⟨fun k a b c => by rw [zk_up2_r a, zk_up2_r a], fun j hj => by rw [zk_up2_j (by omega), zk_up2_j (by omega)], fun j hj => by rw [zk_up2_k (by decide), zk_up2_k (by decide)]⟩ f) f3) m3 o3
      have en : zon (s :: H) = zon H + zo1 s := rfl
      rw [en] at h2
      by_cases e1 : s = 10011
      · have eo : zo1 s = 1 := by rw [e1]; rfl
        rw [if_pos e1, h2, eo]
        exact go _ () (zn_sub (b := 1) (by omega))
      · rw [if_neg e1]
        by_cases e2 : s = 10010
        · have eo : zo1 s = 1 := by rw [e2]; rfl
          rw [if_pos e2, h2, eo]
          exact go _ () (zn_sub (b := 1) (by omega))
        · have eo : zo1 s = 0 := by unfold zo1; rw [if_neg (by omega)]
          rw [if_neg e2, h2, eo]
          exact go _ () (by rw [Nat.add_zero]; exact Int32.sub_zero _)
    · rw [if_pos (by omega)]
      rw [if_neg cr] at K
      exact K I (zMF.refl q I) hm ho
