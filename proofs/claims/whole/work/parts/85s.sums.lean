/-! levels of a law, by T: sums, comparisons, what is denied -/
theorem zLf117 {sc : zk_X} {m q f e : Nat} {B : Nat → Nat} {I1 : Nat → Nat → Int32} {tg : Option Nat} {P : Option Value → zk_M → Prop} {w v : Int32} {x : Option Value} (h : zTf I1 m B q f) (K : P none (zk_mk I1 tg)) : zk_R sc (e + 9) 117 7 [some (.ref (11 : Nat)), some (.int w), some (.int v), x] [] (zk_mk I1 tg) P := by
  rw [u117_7]
  have now := fun (P' : Option Value → zk_M → Prop) (v : Int32) => h.now (sc := sc) (d := e + 8) (tg := tg) (P := P') (v := v)
  by_cases c : (160 : Int32) ≤ v
  · simp only [u117_0, u117_1, u117_2, u117_5, u117_6, u117_8, u117_11, u117_14, u117_15, u117_17, u117_20, u117_23, u117_24, u117_26, u117_29, u117_32, u117_33, u117_36, u117_38, u117_41, u117_43, u117_46, u117_48, u117_49, u117_50, u117_53, u117_54, u117_55, u117_58, u117_59, u117_62, u117_63, u117_66, u117_69, u117_72, zk_mk_1, zk_mk_I, zk_mk_R, zk_mk_set, zk_mk_setR, zk_mk_cpy, zk_rv_some, zk_rv_none, Option.toList_some, Option.toList_none, List.cons_append, List.nil_append, reduceIte, eq_self, Nat.reduceLT, Nat.reduceEqDiff, and_true, true_and, reduceCtorEq, c]
    exact K
  · simp only [u117_0, u117_1, u117_2, u117_5, u117_6, u117_8, u117_11, u117_14, u117_15, u117_17, u117_20, u117_23, u117_24, u117_26, u117_29, u117_32, u117_33, u117_36, u117_38, u117_41, u117_43, u117_46, u117_48, u117_49, u117_50, u117_53, u117_54, u117_55, u117_58, u117_59, u117_62, u117_63, u117_66, u117_69, u117_72, zk_mk_1, zk_mk_I, zk_mk_R, zk_mk_set, zk_mk_setR, zk_mk_cpy, zk_rv_some, zk_rv_none, Option.toList_some, Option.toList_none, List.cons_append, List.nil_append, reduceIte, eq_self, Nat.reduceLT, Nat.reduceEqDiff, and_true, true_and, reduceCtorEq, zsh_11, c, now]
    exact K
theorem zLp117 {sc : zk_X} {m q n e md p : Nat} {B : Nat → Nat} {H O O0 : List Nat} {I : Nat → Nat → Int32} {P : Option Value → zk_M → Prop} (hq : q < 6) (hc : zCl sc m B q n 118 6 6 2 [none]) (hd : 10 * (6 - zon H) + 3 ≤ e + 9) (hn : m - p < n) (hb : ∀ j, j < m → B j < 256) (hm160 : m ≤ 160) (hi : zI2 m O0 md p H O) (hmd : md ≤ 2) (hh : zhdr H < 5) (K : ∀ I', zTx q I I' → zTe I' m B q 5 p (md, p, H, O) H → P none (zk_mk I' (some (28 + 4 * q)))) : ∀ (k p' i : Nat) (W O' : List Nat) (I1 : Nat → Nat → Int32) (x : Option Value), m - p' < k → i < p' → p < p' → zTx q I I1 → zTs I1 m B q p' (O' ++ W) → (∀ w, w ∈ W → 5 ≤ zrk w) → zrch m B (md, p, H, O) (2, p', W ++ H, O') → zex m B 6 p' (W ++ H) → zk_R sc (e + 9) 117 7 [some (.ref (11 : Nat)), some (.int (nI (zon H))), some (.int (nI i)), x] [] (zk_mk I1 (some (28 + 4 * q))) P := by
  intro k
  induction k with
  | zero => intro p' i W O' I1 x h; omega
  | succ k ih =>
    intro p' i W O' I1 x hk hip hpp fx hs hW hr hx
    have hp' : p' ≤ m := hs.2.1
    have c160 : ¬ (160 : Int32) ≤ nI i := nI_ge (b := 160) (by omega) (by decide)
    have p1 : (nI i + 1 : Int32) = nI (i + 1) := zn_add _ 1
    obtain ⟨w1, w2, w3, w4⟩ := zx_83 hq
    have now43 := fun (P' : Option Value → zk_M → Prop) => hs.now (sc := sc) (d := e + 8) (tg := some (28 + 4 * q)) (P := P') (k := 43) (v := 43) (by decide) (by decide) rfl
    have now45 := fun (P' : Option Value → zk_M → Prop) => hs.now (sc := sc) (d := e + 8) (tg := some (28 + 4 * q)) (P := P') (k := 45) (v := 45) (by decide) (by decide) rfl
    have e43 : (I1 11 3 = 43) = (zqc m B p' = 43) := by rw [hs.2.2.1, ztk_eq hs.ok (k := 43) (v := 43) (by decide) (by decide) rfl]
    have body : ∀ (s : Nat) (v : Int32), (zqc m B p' = 43 ∧ s = 10013) ∨ (zqc m B p' = 45 ∧ s = 10014) → v = zt_c s → zk_R sc (e + 9) 117 49 [some (.ref (11 : Nat)), some (.int (nI (zon H))), some (.int (nI i)), some (.int v)] [] (zk_mk I1 (some (28 + 4 * q))) P := by
      intro s v hcs hv
      have hs1 : zsn (zqc m B p') = s := by rcases hcs with ⟨w, rfl⟩ | ⟨w, rfl⟩ <;> rw [w] <;> rfl
      have hs5 : zrk s = 5 := by rcases hcs with ⟨w, rfl⟩ | ⟨w, rfl⟩ <;> rfl
      have hso : zo1 s = 0 := by rcases hcs with ⟨w, rfl⟩ | ⟨w, rfl⟩ <;> rfl
      have hs0 : ¬ s = 0 := by omega
      have hgt := zqb_gt (B := B) hp' (by omega)
      have hz := zst_op (W := W) (H := H) (O := O') (l := 5) (s := s) (md' := 1) rfl hs1 (by omega) (by omega) hs0 hs5 (by decide) (by decide) hh hW
      have ri := (hr.then hz).i2 hb hi hmd (by decide)
      have eo : zon (s :: H) = zon H := by
        show zon H + zo1 s = zon H
        rw [hso]; rfl
      rw [u117_49]
      simp only [u117_0, u117_1, u117_2, u117_5, u117_6, u117_8, u117_11, u117_14, u117_15, u117_17, u117_20, u117_23, u117_24, u117_26, u117_29, u117_32, u117_33, u117_36, u117_38, u117_41, u117_43, u117_46, u117_48, u117_50, u117_53, u117_54, u117_55, u117_58, u117_59, u117_62, u117_63, u117_66, u117_69, u117_72, zk_mk_1, zk_mk_I, zk_mk_R, zk_mk_set, zk_mk_setR, zk_mk_cpy, zk_rv_some, zk_rv_none, Option.toList_some, Option.toList_none, List.cons_append, List.nil_append, reduceIte, eq_self, Nat.reduceLT, Nat.reduceEqDiff, and_true, true_and, reduceCtorEq, zsh_11]
      refine hs.adv ?_
      intro I2 f2 g2
      simp only [u117_0, u117_1, u117_2, u117_5, u117_6, u117_8, u117_11, u117_14, u117_15, u117_17, u117_20, u117_23, u117_24, u117_26, u117_29, u117_32, u117_33, u117_36, u117_38, u117_41, u117_43, u117_46, u117_48, u117_50, u117_53, u117_54, u117_55, u117_58, u117_59, u117_62, u117_63, u117_66, u117_69, u117_72, zk_mk_1, zk_mk_I, zk_mk_R, zk_mk_set, zk_mk_setR, zk_mk_cpy, zk_rv_some, zk_rv_none, Option.toList_some, Option.toList_none, List.cons_append, List.nil_append, reduceIte, eq_self, Nat.reduceLT, Nat.reduceEqDiff, and_true, true_and, reduceCtorEq, zsh_11]
      have go := fun P' => hc (e + 8) 1 (zqb m B p') (s :: H) (O' ++ W) O0 I2 P'
      rw [eo] at go
      refine go _ (by omega) (by omega) g2 (by decide) (by decide) ri (fun _ w => absurd w (by decide)) (by show zrk s < 6; omega) ?_
      intro I3 f3 g3
      simp only [u117_0, u117_1, u117_2, u117_5, u117_6, u117_8, u117_11, u117_14, u117_15, u117_17, u117_20, u117_23, u117_24, u117_26, u117_29, u117_32, u117_33, u117_36, u117_38, u117_41, u117_43, u117_46, u117_48, u117_50, u117_53, u117_54, u117_55, u117_58, u117_59, u117_62, u117_63, u117_66, u117_69, u117_72, zk_mk_1, zk_mk_I, zk_mk_R, zk_mk_set, zk_mk_setR, zk_mk_cpy, zk_rv_some, zk_rv_none, Option.toList_some, Option.toList_none, List.cons_append, List.nil_append, reduceIte, eq_self, Nat.reduceLT, Nat.reduceEqDiff, and_true, true_and, reduceCtorEq, zsh_11, zrf_11_2, w1, zx_28 hq]
      rcases g3 with ⟨f, g3, g4⟩ | ⟨p2, W2, O2, g3, g4, g5, g6, g7⟩
      · refine g3.app hq ?_
        intro I4 f4 g8
        simp only [u117_0, u117_1, u117_2, u117_5, u117_6, u117_8, u117_11, u117_14, u117_15, u117_17, u117_20, u117_23, u117_24, u117_26, u117_29, u117_32, u117_33, u117_36, u117_38, u117_41, u117_43, u117_46, u117_48, u117_50, u117_53, u117_54, u117_55, u117_58, u117_59, u117_62, u117_63, u117_66, u117_69, u117_72, zk_mk_1, zk_mk_I, zk_mk_R, zk_mk_set, zk_mk_setR, zk_mk_cpy, zk_rv_some, zk_rv_none, Option.toList_some, Option.toList_none, List.cons_append, List.nil_append, reduceIte, eq_self, Nat.reduceLT, Nat.reduceEqDiff, and_true, true_and, reduceCtorEq]
        exact zLf117 g8 (K I4 (((fx.trans f2).trans f3).trans f4) (Or.inl ⟨f, g8, (hr.then hz).trans g4⟩))
      · have r2 := g6.i2 hb ri (by decide) (by decide)
        have r3 := r2.2.1
        rw [List.length_append, List.length_cons] at r3
        have ew : (W2 ++ [s]) ++ H = W2 ++ s :: H := by rw [List.append_assoc]; rfl
        refine g3.app hq (t := s) hv (by rw [List.length_append]; have := r2.1; omega) ?_
        intro I4 f4 g8
        simp only [u117_0, u117_1, u117_2, u117_5, u117_6, u117_8, u117_11, u117_14, u117_15, u117_17, u117_20, u117_23, u117_24, u117_26, u117_29, u117_32, u117_33, u117_36, u117_38, u117_41, u117_43, u117_46, u117_48, u117_50, u117_53, u117_54, u117_55, u117_58, u117_59, u117_62, u117_63, u117_66, u117_69, u117_72, zk_mk_1, zk_mk_I, zk_mk_R, zk_mk_set, zk_mk_setR, zk_mk_cpy, zk_rv_some, zk_rv_none, Option.toList_some, Option.toList_none, List.cons_append, List.nil_append, reduceIte, eq_self, Nat.reduceLT, Nat.reduceEqDiff, and_true, true_and, reduceCtorEq, p1]
        rw [List.append_assoc] at g8
        refine ih p2 (i + 1) (W2 ++ [s]) O2 I4 _ (by omega) (by omega) (by omega) (((fx.trans f2).trans f3).trans f4) g8 (zrk_sn (fun w hw => by have := g5 w hw; omega) (by omega)) ?_ ?_
        · rw [ew]; exact (hr.then hz).trans g6
        · rw [ew]; exact g7
    rw [u117_7]
    by_cases c : zqc m B p' = 43
    · simp only [u117_0, u117_1, u117_2, u117_5, u117_6, u117_8, u117_11, u117_14, u117_15, u117_17, u117_20, u117_23, u117_24, u117_26, u117_29, u117_32, u117_33, u117_36, u117_38, u117_41, u117_43, u117_46, u117_48, u117_50, u117_53, u117_54, u117_55, u117_58, u117_59, u117_62, u117_63, u117_66, u117_69, u117_72, zk_mk_1, zk_mk_I, zk_mk_R, zk_mk_set, zk_mk_setR, zk_mk_cpy, zk_rv_some, zk_rv_none, Option.toList_some, Option.toList_none, List.cons_append, List.nil_append, reduceIte, eq_self, Nat.reduceLT, Nat.reduceEqDiff, and_true, true_and, reduceCtorEq, zsh_11, c160, now43, zb_t c, e43, c, show ¬ (1 : Int32) = 0 from by decide]
      exact body 10013 _ (Or.inl ⟨c, rfl⟩) (by decide)
    by_cases c' : zqc m B p' = 45
    · simp only [u117_0, u117_1, u117_2, u117_5, u117_6, u117_8, u117_11, u117_14, u117_15, u117_17, u117_20, u117_23, u117_24, u117_26, u117_29, u117_32, u117_33, u117_36, u117_38, u117_41, u117_43, u117_46, u117_48, u117_50, u117_53, u117_54, u117_55, u117_58, u117_59, u117_62, u117_63, u117_66, u117_69, u117_72, zk_mk_1, zk_mk_I, zk_mk_R, zk_mk_set, zk_mk_setR, zk_mk_cpy, zk_rv_some, zk_rv_none, Option.toList_some, Option.toList_none, List.cons_append, List.nil_append, reduceIte, eq_self, Nat.reduceLT, Nat.reduceEqDiff, and_true, true_and, reduceCtorEq, zsh_11, c160, now43, zb_f c, now45, zb_t c', e43, c, show ¬ (1 : Int32) = 0 from by decide]
      exact body 10014 _ (Or.inr ⟨c', rfl⟩) (by decide)
    · simp only [u117_0, u117_1, u117_2, u117_5, u117_6, u117_8, u117_11, u117_14, u117_15, u117_17, u117_20, u117_23, u117_24, u117_26, u117_29, u117_32, u117_33, u117_36, u117_38, u117_41, u117_43, u117_46, u117_48, u117_50, u117_53, u117_54, u117_55, u117_58, u117_59, u117_62, u117_63, u117_66, u117_69, u117_72, zk_mk_1, zk_mk_I, zk_mk_R, zk_mk_set, zk_mk_setR, zk_mk_cpy, zk_rv_some, zk_rv_none, Option.toList_some, Option.toList_none, List.cons_append, List.nil_append, reduceIte, eq_self, Nat.reduceLT, Nat.reduceEqDiff, and_true, true_and, reduceCtorEq, zsh_11, c160, now43, zb_f c, now45, zb_f c']
      exact K I1 fx (Or.inr ⟨p', W, O', hs, hpp, hW, hr, zex_6 hx c c'⟩)
theorem zC117 {sc : zk_X} {m q n : Nat} {B : Nat → Nat} (hq : q < 6) (hc : zCl sc m B q n 118 6 6 2 [none]) : zCl sc m B q n 117 5 5 3 [none, none] := by
  intro d md p H O O0 I P hd hn hs hm h0 hi h5 hh K
  obtain ⟨e, rfl⟩ : ∃ e, d = e + 9 := ⟨d - 9, by have := hi.2.2.2.1; omega⟩
  have hb : ∀ j, j < m → B j < 256 := fun j hj => (hs.1.2.2 j hj).2
  simp only [u117_0, u117_1, u117_2, u117_5, u117_6, u117_8, u117_11, u117_14, u117_15, u117_17, u117_20, u117_23, u117_24, u117_26, u117_29, u117_32, u117_33, u117_36, u117_38, u117_41, u117_43, u117_46, u117_48, u117_49, u117_50, u117_53, u117_54, u117_55, u117_58, u117_59, u117_62, u117_63, u117_66, u117_69, u117_72, zk_mk_1, zk_mk_I, zk_mk_R, zk_mk_set, zk_mk_setR, zk_mk_cpy, zk_rv_some, zk_rv_none, Option.toList_some, Option.toList_none, List.cons_append, List.nil_append, reduceIte, eq_self, Nat.reduceLT, Nat.reduceEqDiff, and_true, true_and, reduceCtorEq, zsh_11]
  refine hc (e + 8) md p H O O0 I _ (by omega) hn hs hm (fun w => absurd w (by decide)) hi (fun _ => h5 (by decide)) (by omega) ?_
  intro I1 f1 g1
  simp only [u117_0, u117_1, u117_2, u117_5, u117_6, u117_8, u117_11, u117_14, u117_15, u117_17, u117_20, u117_23, u117_24, u117_26, u117_29, u117_32, u117_33, u117_36, u117_38, u117_41, u117_43, u117_46, u117_48, u117_49, u117_50, u117_53, u117_54, u117_55, u117_58, u117_59, u117_62, u117_63, u117_66, u117_69, u117_72, zk_mk_1, zk_mk_I, zk_mk_R, zk_mk_set, zk_mk_setR, zk_mk_cpy, zk_rv_some, zk_rv_none, Option.toList_some, Option.toList_none, List.cons_append, List.nil_append, reduceIte, eq_self, Nat.reduceLT, Nat.reduceEqDiff, and_true, true_and, reduceCtorEq, zsh_11]
  rcases g1 with ⟨f, g1, g2⟩ | ⟨p', W, O', g1, g2, g3, g4, g5⟩
  · exact zLf117 g1 (K I1 f1 (Or.inl ⟨f, g1, g2⟩))
  · exact zLp117 (I := I) hq hc hd hn hb hs.1.2.1 hi (by omega) hh K (m - p' + 1) p' 0 W O' I1 _ (by omega) (by omega) g2 f1 g1 (fun w hw => by have := g3 w hw; omega) g4 g5
theorem zC116 {sc : zk_X} {m q n : Nat} {B : Nat → Nat} (hq : q < 6) (hc : zCl sc m B q n 117 5 5 3 [none, none]) : zCl sc m B q n 116 4 4 4 [none] := by
  intro d md p H O O0 I P hd hn hs hm h0 hi h5 hh K
  obtain ⟨e, rfl⟩ : ∃ e, d = e + 9 := ⟨d - 9, by have := hi.2.2.2.1; omega⟩
  have hb : ∀ j, j < m → B j < 256 := fun j hj => (hs.1.2.2 j hj).2
  have hm160 := hs.1.2.1
  obtain ⟨w1, w2, w3, w4⟩ := zx_83 hq
  simp only [u116_0, u116_1, u116_2, u116_5, u116_6, u116_8, u116_11, u116_14, u116_15, u116_17, u116_20, u116_23, u116_24, u116_27, u116_29, u116_32, u116_34, u116_37, u116_39, u116_40, u116_41, u116_44, u116_45, u116_46, u116_49, u116_50, u116_53, u116_54, u116_57, zk_mk_1, zk_mk_I, zk_mk_R, zk_mk_set, zk_mk_setR, zk_mk_cpy, zk_rv_some, zk_rv_none, Option.toList_some, Option.toList_none, List.cons_append, List.nil_append, reduceIte, eq_self, Nat.reduceLT, Nat.reduceEqDiff, and_true, true_and, reduceCtorEq, zsh_11]
  refine hc (e + 8) md p H O O0 I _ (by omega) hn hs hm (fun w => absurd w (by decide)) hi (fun _ => h5 (by decide)) (by omega) ?_
  intro I1 f1 g1
  rcases g1 with ⟨f, g1, g2⟩ | ⟨p', W, O', hs1, hpp, hW, hr, hx⟩
  · have now := fun (P' : Option Value → zk_M → Prop) (v : Int32) => g1.now (sc := sc) (d := e + 8) (tg := some (28 + 4 * q)) (P := P') (v := v)
    simp only [u116_0, u116_1, u116_2, u116_5, u116_6, u116_8, u116_11, u116_14, u116_15, u116_17, u116_20, u116_23, u116_24, u116_27, u116_29, u116_32, u116_34, u116_37, u116_39, u116_40, u116_41, u116_44, u116_45, u116_46, u116_49, u116_50, u116_53, u116_54, u116_57, zk_mk_1, zk_mk_I, zk_mk_R, zk_mk_set, zk_mk_setR, zk_mk_cpy, zk_rv_some, zk_rv_none, Option.toList_some, Option.toList_none, List.cons_append, List.nil_append, reduceIte, eq_self, Nat.reduceLT, Nat.reduceEqDiff, and_true, true_and, reduceCtorEq, zsh_11, now]
    exact K I1 f1 (Or.inl ⟨f, g1, g2⟩)
  have hp' : p' ≤ m := hs1.2.1
  have now60 := fun (P' : Option Value → zk_M → Prop) => hs1.now (sc := sc) (d := e + 8) (tg := some (28 + 4 * q)) (P := P') (k := 60) (v := 60) (by decide) (by decide) rfl
  have now61 := fun (P' : Option Value → zk_M → Prop) => hs1.now (sc := sc) (d := e + 8) (tg := some (28 + 4 * q)) (P := P') (k := 61) (v := 61) (by decide) (by decide) rfl
  have e60 : (I1 11 3 = 60) = (zqc m B p' = 60) := by rw [hs1.2.2.1, ztk_eq hs1.ok (k := 60) (v := 60) (by decide) (by decide) rfl]
  have body : ∀ (s : Nat) (v : Int32), (zqc m B p' = 60 ∧ s = 10015) ∨ (zqc m B p' = 61 ∧ s = 10016) → v = zt_c s → zk_R sc (e + 9) 116 40 [some (.ref (11 : Nat)), some (.int (nI (zon H))), some (.int v)] [] (zk_mk I1 (some (28 + 4 * q))) P := by
    intro s v hcs hv
    have hs1' : zsn (zqc m B p') = s := by rcases hcs with ⟨w, rfl⟩ | ⟨w, rfl⟩ <;> rw [w] <;> rfl
    have hs4 : zrk s = 4 := by rcases hcs with ⟨w, rfl⟩ | ⟨w, rfl⟩ <;> rfl
    have hso : zo1 s = 0 := by rcases hcs with ⟨w, rfl⟩ | ⟨w, rfl⟩ <;> rfl
    have hs0 : ¬ s = 0 := by omega
    have hgt := zqb_gt (B := B) hp' (by omega)
    have hz := zst_op4 (W := W) (H := H) (O := O') (s := s) rfl hs1' (by omega) (by omega) hs0 hs4 hh hW
    have ri := (hr.then hz).i2 hb hi (by omega) (by decide)
    have eo : zon (s :: H) = zon H := by
      show zon H + zo1 s = zon H
      rw [hso]; rfl
    rw [u116_40]
    simp only [u116_0, u116_1, u116_2, u116_5, u116_6, u116_8, u116_11, u116_14, u116_15, u116_17, u116_20, u116_23, u116_24, u116_27, u116_29, u116_32, u116_34, u116_37, u116_39, u116_41, u116_44, u116_45, u116_46, u116_49, u116_50, u116_53, u116_54, u116_57, zk_mk_1, zk_mk_I, zk_mk_R, zk_mk_set, zk_mk_setR, zk_mk_cpy, zk_rv_some, zk_rv_none, Option.toList_some, Option.toList_none, List.cons_append, List.nil_append, reduceIte, eq_self, Nat.reduceLT, Nat.reduceEqDiff, and_true, true_and, reduceCtorEq, zsh_11]
    refine hs1.adv ?_
    intro I2 f2 g2
    simp only [u116_0, u116_1, u116_2, u116_5, u116_6, u116_8, u116_11, u116_14, u116_15, u116_17, u116_20, u116_23, u116_24, u116_27, u116_29, u116_32, u116_34, u116_37, u116_39, u116_41, u116_44, u116_45, u116_46, u116_49, u116_50, u116_53, u116_54, u116_57, zk_mk_1, zk_mk_I, zk_mk_R, zk_mk_set, zk_mk_setR, zk_mk_cpy, zk_rv_some, zk_rv_none, Option.toList_some, Option.toList_none, List.cons_append, List.nil_append, reduceIte, eq_self, Nat.reduceLT, Nat.reduceEqDiff, and_true, true_and, reduceCtorEq, zsh_11]
    have go := fun P' => hc (e + 8) 1 (zqb m B p') (s :: H) (O' ++ W) O0 I2 P'
    rw [eo] at go
    refine go _ (by omega) (by omega) g2 (by decide) (by decide) ri (fun _ w => absurd w (by decide)) (by show zrk s < 5; omega) ?_
    intro I3 f3 g3
    simp only [u116_0, u116_1, u116_2, u116_5, u116_6, u116_8, u116_11, u116_14, u116_15, u116_17, u116_20, u116_23, u116_24, u116_27, u116_29, u116_32, u116_34, u116_37, u116_39, u116_41, u116_44, u116_45, u116_46, u116_49, u116_50, u116_53, u116_54, u116_57, zk_mk_1, zk_mk_I, zk_mk_R, zk_mk_set, zk_mk_setR, zk_mk_cpy, zk_rv_some, zk_rv_none, Option.toList_some, Option.toList_none, List.cons_append, List.nil_append, reduceIte, eq_self, Nat.reduceLT, Nat.reduceEqDiff, and_true, true_and, reduceCtorEq, zsh_11, zrf_11_2, w1, zx_28 hq]
    rcases g3 with ⟨f, g3, g4⟩ | ⟨p2, W2, O2, g3, g4, g5, g6, g7⟩
    · refine g3.app hq ?_
      intro I4 f4 g8
      simp only [u116_0, u116_1, u116_2, u116_5, u116_6, u116_8, u116_11, u116_14, u116_15, u116_17, u116_20, u116_23, u116_24, u116_27, u116_29, u116_32, u116_34, u116_37, u116_39, u116_41, u116_44, u116_45, u116_46, u116_49, u116_50, u116_53, u116_54, u116_57, zk_mk_1, zk_mk_I, zk_mk_R, zk_mk_set, zk_mk_setR, zk_mk_cpy, zk_rv_some, zk_rv_none, Option.toList_some, Option.toList_none, List.cons_append, List.nil_append, reduceIte, eq_self, Nat.reduceLT, Nat.reduceEqDiff, and_true, true_and, reduceCtorEq]
      exact K I4 (((f1.trans f2).trans f3).trans f4) (Or.inl ⟨f, g8, (hr.then hz).trans g4⟩)
    · have r2 := g6.i2 hb ri (by decide) (by decide)
      have r3 := r2.2.1
      rw [List.length_append, List.length_cons] at r3
      have ew : (W2 ++ [s]) ++ H = W2 ++ s :: H := by rw [List.append_assoc]; rfl
      refine g3.app hq (t := s) hv (by rw [List.length_append]; have := r2.1; omega) ?_
      intro I4 f4 g8
      simp only [u116_0, u116_1, u116_2, u116_5, u116_6, u116_8, u116_11, u116_14, u116_15, u116_17, u116_20, u116_23, u116_24, u116_27, u116_29, u116_32, u116_34, u116_37, u116_39, u116_41, u116_44, u116_45, u116_46, u116_49, u116_50, u116_53, u116_54, u116_57, zk_mk_1, zk_mk_I, zk_mk_R, zk_mk_set, zk_mk_setR, zk_mk_cpy, zk_rv_some, zk_rv_none, Option.toList_some, Option.toList_none, List.cons_append, List.nil_append, reduceIte, eq_self, Nat.reduceLT, Nat.reduceEqDiff, and_true, true_and, reduceCtorEq]
      rw [List.append_assoc] at g8
      refine K I4 (((f1.trans f2).trans f3).trans f4) (Or.inr ⟨p2, W2 ++ [s], O2, g8, by omega, zrk_sn (fun w hw => by have := g5 w hw; omega) (by omega), ?_, ?_⟩)
      · rw [ew]; exact (hr.then hz).trans g6
      · rw [ew]
        refine zex_5 g7 (fun _ => ?_)
        show zhdr (zun 5 (W2 ++ s :: H) []).1 = 4
        rw [zun_app (l := 5) (H := s :: H) (by show zrk s < 5; omega) (by decide) W2 [] (fun w hw => by have := g5 w hw; omega)]
        exact hs4
  by_cases c : zqc m B p' = 60
  · simp only [u116_0, u116_1, u116_2, u116_5, u116_6, u116_8, u116_11, u116_14, u116_15, u116_17, u116_20, u116_23, u116_24, u116_27, u116_29, u116_32, u116_34, u116_37, u116_39, u116_41, u116_44, u116_45, u116_46, u116_49, u116_50, u116_53, u116_54, u116_57, zk_mk_1, zk_mk_I, zk_mk_R, zk_mk_set, zk_mk_setR, zk_mk_cpy, zk_rv_some, zk_rv_none, Option.toList_some, Option.toList_none, List.cons_append, List.nil_append, reduceIte, eq_self, Nat.reduceLT, Nat.reduceEqDiff, and_true, true_and, reduceCtorEq, zsh_11, now60, zb_t c, e60, c, show ¬ (1 : Int32) = 0 from by decide]
    exact body 10015 _ (Or.inl ⟨c, rfl⟩) (by decide)
  by_cases c' : zqc m B p' = 61
  · simp only [u116_0, u116_1, u116_2, u116_5, u116_6, u116_8, u116_11, u116_14, u116_15, u116_17, u116_20, u116_23, u116_24, u116_27, u116_29, u116_32, u116_34, u116_37, u116_39, u116_41, u116_44, u116_45, u116_46, u116_49, u116_50, u116_53, u116_54, u116_57, zk_mk_1, zk_mk_I, zk_mk_R, zk_mk_set, zk_mk_setR, zk_mk_cpy, zk_rv_some, zk_rv_none, Option.toList_some, Option.toList_none, List.cons_append, List.nil_append, reduceIte, eq_self, Nat.reduceLT, Nat.reduceEqDiff, and_true, true_and, reduceCtorEq, zsh_11, now60, zb_f c, now61, zb_t c', e60, c, show ¬ (1 : Int32) = 0 from by decide]
    exact body 10016 _ (Or.inr ⟨c', rfl⟩) (by decide)
  · simp only [u116_0, u116_1, u116_2, u116_5, u116_6, u116_8, u116_11, u116_14, u116_15, u116_17, u116_20, u116_23, u116_24, u116_27, u116_29, u116_32, u116_34, u116_37, u116_39, u116_41, u116_44, u116_45, u116_46, u116_49, u116_50, u116_53, u116_54, u116_57, zk_mk_1, zk_mk_I, zk_mk_R, zk_mk_set, zk_mk_setR, zk_mk_cpy, zk_rv_some, zk_rv_none, Option.toList_some, Option.toList_none, List.cons_append, List.nil_append, reduceIte, eq_self, Nat.reduceLT, Nat.reduceEqDiff, and_true, true_and, reduceCtorEq, zsh_11, now60, zb_f c, now61, zb_f c']
    exact K I1 f1 (Or.inr ⟨p', W, O', hs1, hpp, fun w hw => by have := hW w hw; omega, hr, zex_5 hx (fun w => by omega)⟩)
theorem zC114 {sc : zk_X} {m q n : Nat} {B : Nat → Nat} (hq : q < 6) (h1 : zCl sc m B q (n + 1) 116 4 4 4 [none]) (h2 : zCl sc m B q n 114 4 3 5 []) : zCl sc m B q (n + 1) 114 4 3 5 [] := by
  intro d md p H O O0 I P hd hn hs hm h0 hi h5 hh K
  obtain ⟨e, rfl⟩ : ∃ e, d = e + 9 := ⟨d - 9, by have := hi.2.2.2.1; omega⟩
  have hb : ∀ j, j < m → B j < 256 := fun j hj => (hs.1.2.2 j hj).2
  have hm160 := hs.1.2.1
  obtain ⟨w1, w2, w3, w4⟩ := zx_83 hq
  have h0' := h0 (by decide)
  subst h0'
  have i4 := hi.2.2.2.1
  have now5 := fun (P' : Option Value → zk_M → Prop) => hs.now (sc := sc) (d := e + 8) (tg := some (28 + 4 * q)) (P := P') (k := 5) (v := 5) (by decide) (by decide) rfl
  rw [u114_0]
  by_cases c : zqc m B p = 5
  · by_cases ho : zon H = 5
    · have e5 : ¬ nI (zon H) < 5 := by rw [show (5 : Int32) = nI 5 from rfl, zn_lt (by omega) (by decide)]; omega
      simp only [u114_1, u114_2, u114_5, u114_8, u114_9, u114_10, u114_13, u114_16, u114_17, u114_18, u114_21, u114_22, u114_25, u114_28, u114_29, u114_32, u114_33, u114_34, u114_35, u114_36, u114_39, u114_40, u114_43, u114_45, u114_48, zk_mk_1, zk_mk_I, zk_mk_R, zk_mk_set, zk_mk_setR, zk_mk_cpy, zk_rv_some, zk_rv_none, Option.toList_some, Option.toList_none, List.cons_append, List.nil_append, reduceIte, eq_self, Nat.reduceLT, Nat.reduceEqDiff, and_true, true_and, reduceCtorEq, zsh_11, now5, zb_t c, e5, show ¬ (1 : Int32) = 0 from by decide]
      refine hs.ref (by have := hi.2.1; have := hi.1; omega) ?_
      intro I' f g
      simp only [u114_1, u114_2, u114_5, u114_8, u114_9, u114_10, u114_13, u114_16, u114_17, u114_18, u114_21, u114_22, u114_25, u114_28, u114_29, u114_32, u114_33, u114_34, u114_35, u114_36, u114_39, u114_40, u114_43, u114_45, u114_48, zk_mk_1, zk_mk_I, zk_mk_R, zk_mk_set, zk_mk_setR, zk_mk_cpy, zk_rv_some, zk_rv_none, Option.toList_some, Option.toList_none, List.cons_append, List.nil_append, reduceIte, eq_self, Nat.reduceLT, Nat.reduceEqDiff, and_true, true_and, reduceCtorEq]
      exact K I' f (Or.inl ⟨_, g, zrch.one (zst_not5 c ho)⟩)
    · have e5 : nI (zon H) < 5 := by rw [show (5 : Int32) = nI 5 from rfl, zn_lt (by omega) (by decide)]; omega
      have p1 : (nI (zon H) + 1 : Int32) = nI (zon H + 1) := zn_add _ 1
      have hgt := zqb_gt (B := B) hi.1 (by omega)
      have hz := zst_not (H := H) (O := O) c ho
      have ri := (zrch.one hz).i2 hb hi (by omega) (by decide)
      have eo : zon (10011 :: H) = zon H + 1 := rfl
      simp only [u114_1, u114_2, u114_5, u114_8, u114_9, u114_10, u114_13, u114_16, u114_17, u114_18, u114_21, u114_22, u114_25, u114_28, u114_29, u114_32, u114_33, u114_34, u114_35, u114_36, u114_39, u114_40, u114_43, u114_45, u114_48, zk_mk_1, zk_mk_I, zk_mk_R, zk_mk_set, zk_mk_setR, zk_mk_cpy, zk_rv_some, zk_rv_none, Option.toList_some, Option.toList_none, List.cons_append, List.nil_append, reduceIte, eq_self, Nat.reduceLT, Nat.reduceEqDiff, and_true, true_and, reduceCtorEq, zsh_11, now5, zb_t c, e5, show ¬ (1 : Int32) = 0 from by decide]
      refine hs.adv ?_
      intro I2 f2 g2
      simp only [u114_1, u114_2, u114_5, u114_8, u114_9, u114_10, u114_13, u114_16, u114_17, u114_18, u114_21, u114_22, u114_25, u114_28, u114_29, u114_32, u114_33, u114_34, u114_35, u114_36, u114_39, u114_40, u114_43, u114_45, u114_48, zk_mk_1, zk_mk_I, zk_mk_R, zk_mk_set, zk_mk_setR, zk_mk_cpy, zk_rv_some, zk_rv_none, Option.toList_some, Option.toList_none, List.cons_append, List.nil_append, reduceIte, eq_self, Nat.reduceLT, Nat.reduceEqDiff, and_true, true_and, reduceCtorEq, zsh_11, p1]
      rw [← eo]
      refine h2 (e + 8) 0 (zqb m B p) (10011 :: H) O O0 I2 _ (by rw [eo]; omega) (by omega) g2 (by decide) (fun _ => rfl) ri (fun w => absurd w (by decide)) (by show 3 < 4; decide) ?_
      intro I3 f3 g3
      simp only [u114_1, u114_2, u114_5, u114_8, u114_9, u114_10, u114_13, u114_16, u114_17, u114_18, u114_21, u114_22, u114_25, u114_28, u114_29, u114_32, u114_33, u114_34, u114_35, u114_36, u114_39, u114_40, u114_43, u114_45, u114_48, zk_mk_1, zk_mk_I, zk_mk_R, zk_mk_set, zk_mk_setR, zk_mk_cpy, zk_rv_some, zk_rv_none, Option.toList_some, Option.toList_none, List.cons_append, List.nil_append, reduceIte, eq_self, Nat.reduceLT, Nat.reduceEqDiff, and_true, true_and, reduceCtorEq, zsh_11, zrf_11_2, w1, zx_28 hq]
      rcases g3 with ⟨f, g3, g4⟩ | ⟨p2, W2, O2, g3, g4, g5, g6, g7⟩
      · refine g3.app hq ?_
        intro I4 f4 g8
        simp only [u114_1, u114_2, u114_5, u114_8, u114_9, u114_10, u114_13, u114_16, u114_17, u114_18, u114_21, u114_22, u114_25, u114_28, u114_29, u114_32, u114_33, u114_34, u114_35, u114_36, u114_39, u114_40, u114_43, u114_45, u114_48, zk_mk_1, zk_mk_I, zk_mk_R, zk_mk_set, zk_mk_setR, zk_mk_cpy, zk_rv_some, zk_rv_none, Option.toList_some, Option.toList_none, List.cons_append, List.nil_append, reduceIte, eq_self, Nat.reduceLT, Nat.reduceEqDiff, and_true, true_and, reduceCtorEq]
        exact K I4 ((f2.trans f3).trans f4) (Or.inl ⟨f, g8, (zrch.one hz).trans g4⟩)
      · have r2 := g6.i2 hb ri (by decide) (by decide)
        have r3 := r2.2.1
        rw [List.length_append, List.length_cons] at r3
        have ew : (W2 ++ [10011]) ++ H = W2 ++ 10011 :: H := by rw [List.append_assoc]; rfl
        refine g3.app hq (t := 10011) (by decide) (by rw [List.length_append]; have := r2.1; omega) ?_
        intro I4 f4 g8
        simp only [u114_1, u114_2, u114_5, u114_8, u114_9, u114_10, u114_13, u114_16, u114_17, u114_18, u114_21, u114_22, u114_25, u114_28, u114_29, u114_32, u114_33, u114_34, u114_35, u114_36, u114_39, u114_40, u114_43, u114_45, u114_48, zk_mk_1, zk_mk_I, zk_mk_R, zk_mk_set, zk_mk_setR, zk_mk_cpy, zk_rv_some, zk_rv_none, Option.toList_some, Option.toList_none, List.cons_append, List.nil_append, reduceIte, eq_self, Nat.reduceLT, Nat.reduceEqDiff, and_true, true_and, reduceCtorEq]
        rw [List.append_assoc] at g8
        refine K I4 ((f2.trans f3).trans f4) (Or.inr ⟨p2, W2 ++ [10011], O2, g8, by omega, zrk_sn g5 (by decide), ?_, ?_⟩)
        · rw [ew]; exact (zrch.one hz).trans g6
        · rw [ew]; exact g7
  · simp only [u114_1, u114_2, u114_5, u114_8, u114_9, u114_10, u114_13, u114_16, u114_17, u114_18, u114_21, u114_22, u114_25, u114_28, u114_29, u114_32, u114_33, u114_34, u114_35, u114_36, u114_39, u114_40, u114_43, u114_45, u114_48, zk_mk_1, zk_mk_I, zk_mk_R, zk_mk_set, zk_mk_setR, zk_mk_cpy, zk_rv_some, zk_rv_none, Option.toList_some, Option.toList_none, List.cons_append, List.nil_append, reduceIte, eq_self, Nat.reduceLT, Nat.reduceEqDiff, and_true, true_and, reduceCtorEq, zsh_11, now5, zb_f c]
    refine h1 (e + 8) 0 p H O O0 I _ (by omega) hn hs (by decide) (fun w => absurd w (by decide)) hi (fun _ _ => c) hh ?_
    intro I1 f1 g1
    simp only [u114_1, u114_2, u114_5, u114_8, u114_9, u114_10, u114_13, u114_16, u114_17, u114_18, u114_21, u114_22, u114_25, u114_28, u114_29, u114_32, u114_33, u114_34, u114_35, u114_36, u114_39, u114_40, u114_43, u114_45, u114_48, zk_mk_1, zk_mk_I, zk_mk_R, zk_mk_set, zk_mk_setR, zk_mk_cpy, zk_rv_some, zk_rv_none, Option.toList_some, Option.toList_none, List.cons_append, List.nil_append, reduceIte, eq_self, Nat.reduceLT, Nat.reduceEqDiff, and_true, true_and, reduceCtorEq, zsh_11]
    refine K I1 f1 ?_
    rcases g1 with g1 | ⟨p', W, O', g1, g2, g3, g4, g5⟩
    · exact Or.inl g1
    · exact Or.inr ⟨p', W, O', g1, g2, fun w hw => by have := g3 w hw; omega, g4, zex_4 g5⟩
/-- all levels -/
theorem zC_all {sc : zk_X} {m q : Nat} {B : Nat → Nat} (hq : q < 6) : ∀ n, zC1 sc m B q n ∧ zCl sc m B q n 114 4 3 5 [] ∧ zCl sc m B q n 112 1 1 7 [none]
  | 0 => ⟨fun d md p H O O0 I P hd hn => absurd hn (by omega), fun d md p H O O0 I P hd hn => absurd hn (by omega), fun d md p H O O0 I P hd hn => absurd hn (by omega)⟩
  | n + 1 => by
    obtain ⟨a, b, c⟩ := zC_all (sc := sc) (m := m) (B := B) hq n
    have a' := zC1_up hq a c
    have x118 := zC118 hq a'.l
    have x117 := zC117 hq x118
    have x116 := zC116 hq x117
    have x114 := zC114 hq x116 b
    exact ⟨a', x114, zC112 hq (zC113 hq x114)⟩
