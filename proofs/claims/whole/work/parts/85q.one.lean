/-! the rules of a law, by T: what each gives -/
theorem zInv_rch {m : Nat} {B : Nat → Nat} {O0 : List Nat} (hb : ∀ j, j < m → B j < 256) : ∀ (k : Nat) (S : zS), zInv m O0 S → zInv m O0 (zit m B k S)
  | 0, S, h => h
  | k + 1, S, h => by
    rw [zit]
    refine zInv_rch hb k _ ?_
    by_cases c : 3 ≤ S.1
    · rw [zstp_fin c]; exact h
    · rcases h with w | w | w
      · omega
      · omega
      · exact zInv_st hb w.1 w.2
theorem zrch.i2 {m md p md' p' : Nat} {B : Nat → Nat} {O0 H O H' O' : List Nat} (hb : ∀ j, j < m → B j < 256) (h : zI2 m O0 md p H O) (hm : md ≤ 2) (g : zrch m B (md, p, H, O) (md', p', H', O')) (hm' : md' ≤ 2) : zI2 m O0 md' p' H' O' := by
  obtain ⟨k, hk⟩ := g
  have := zInv_rch (B := B) (O0 := O0) hb k (md, p, H, O) (Or.inr (Or.inr ⟨hm, h⟩))
  rw [hk] at this
  exact this.i2 hm'
theorem zun_1 {l : Nat} : ∀ (H O O' : List Nat), (zun l H O).1 = (zun l H O').1
  | [], O, O' => rfl
  | s :: H, O, O' => by
    rw [zun, zun]
    split
    · exact zun_1 H _ _
    · rfl
def zblk (X : List Nat) : Prop := zhdr (zun 5 X []).1 = 4
def zex (m : Nat) (B : Nat → Nat) (l p : Nat) (X : List Nat) : Prop := (l ≤ 6 → ¬ zqc m B p = 42) ∧ (l ≤ 5 → ¬ zqc m B p = 43 ∧ ¬ zqc m B p = 45) ∧ (l ≤ 4 → zqc m B p = 60 ∨ zqc m B p = 61 → zblk X) ∧ (l ≤ 2 → ¬ zqc m B p = 4) ∧ (l ≤ 1 → ¬ zqc m B p = 3)
theorem zex_7 {m p : Nat} {B : Nat → Nat} {X : List Nat} : zex m B 7 p X := ⟨fun w => absurd w (by decide), fun w => absurd w (by decide), fun w => absurd w (by decide), fun w => absurd w (by decide), fun w => absurd w (by decide)⟩
theorem zex_flt {m p : Nat} {B : Nat → Nat} {X O : List Nat} (h : zex m B 1 p X) (c1 : ¬ zqc m B p = 59) (c2 : ¬ zqc m B p = 41) : zstp m B (2, p, X, O) = zflt (zqa m B p) := by
  by_cases c3 : zsn (zqc m B p) = 0
  · exact zst_no c1 c2 c3
  · have h1 := h.1 (by decide)
    have h2 := h.2.1 (by decide)
    have h3 := h.2.2.1 (by decide)
    have h4 := h.2.2.2.1 (by decide)
    have h5 := h.2.2.2.2 (by decide)
    have hs : zsn (zqc m B p) = 10015 ∨ zsn (zqc m B p) = 10016 := by
      rcases zsn_of c3 with ⟨w, w'⟩ | ⟨w, w'⟩ | ⟨w, w'⟩ | ⟨w, w'⟩ | ⟨w, w'⟩ | ⟨w, w'⟩ | ⟨w, w'⟩
      · exact absurd w h5
      · exact absurd w h4
      · exact Or.inl w'
      · exact Or.inr w'
      · exact absurd w h2.1
      · exact absurd w h2.2
      · exact absurd w h1
    have r4 : zrk (zsn (zqc m B p)) = 4 := by rcases hs with w | w <;> rw [w] <;> rfl
    have hc : zqc m B p = 60 ∨ zqc m B p = 61 := by
      rcases zsn_of c3 with ⟨w, w'⟩ | ⟨w, w'⟩ | ⟨w, w'⟩ | ⟨w, w'⟩ | ⟨w, w'⟩ | ⟨w, w'⟩ | ⟨w, w'⟩ <;> omega
    refine zst_two0 (l := 5) c1 c2 c3 (by rw [if_pos r4]) ⟨r4, ?_⟩
    rw [zun_1 X O []]
    exact h3 hc
def zTe (I' : Nat → Nat → Int32) (m : Nat) (B : Nat → Nat) (q l p : Nat) (S : zS) (H : List Nat) : Prop := (∃ f, zTf I' m B q f ∧ zrch m B S (zflt f)) ∨ (∃ p' W O', zTs I' m B q p' (O' ++ W) ∧ p < p' ∧ (∀ w, w ∈ W → l ≤ zrk w) ∧ zrch m B S (2, p', W ++ H, O') ∧ zex m B l p' (W ++ H))
def zT1 (I' : Nat → Nat → Int32) (m : Nat) (B : Nat → Nat) (q p : Nat) (S : zS) (H : List Nat) : Prop := (∃ f, zTf I' m B q f ∧ zrch m B S (zflt f)) ∨ (∃ p' O', zTs I' m B q p' O' ∧ p < p' ∧ zrch m B S (2, p', (zun 7 H O').1, (zun 7 H O').2))
def zC1 (sc : zk_X) (m : Nat) (B : Nat → Nat) (q n : Nat) : Prop := ∀ (d md p : Nat) (H O O0 : List Nat) (I : Nat → Nat → Int32) (P : Option Value → zk_M → Prop), 10 * (6 - zon H) + 1 ≤ d → m - p < n → zTs I m B q p O → md < 2 → zI2 m O0 md p H O → (md = 0 → ¬ zqc m B p = 5) → (∀ I', zTx q I I' → zT1 I' m B q p (md, p, H, O) H → P none (zk_mk I' (some (28 + 4 * q)))) → zk_R sc d 119 0 [some (.ref (11 : Nat)), some (.int (nI (zon H)))] [] (zk_mk I (some (28 + 4 * q))) P
def zCl (sc : zk_X) (m : Nat) (B : Nat → Nat) (q n mt le l lev : Nat) (tl : List (Option Value)) : Prop := ∀ (d md p : Nat) (H O O0 : List Nat) (I : Nat → Nat → Int32) (P : Option Value → zk_M → Prop), 10 * (6 - zon H) + lev ≤ d → m - p < n → zTs I m B q p O → md < 2 → (l ≤ 3 → md = 0) → zI2 m O0 md p H O → (3 < l → md = 0 → ¬ zqc m B p = 5) → zhdr H < le → (∀ I', zTx q I I' → zTe I' m B q l p (md, p, H, O) H → P none (zk_mk I' (some (28 + 4 * q)))) → zk_R sc d mt 0 (some (.ref (11 : Nat)) :: some (.int (nI (zon H))) :: tl) [] (zk_mk I (some (28 + 4 * q))) P
theorem zC1.l {sc : zk_X} {m q n : Nat} {B : Nat → Nat} (h : zC1 sc m B q n) : zCl sc m B q n 119 7 7 1 [] := by
  intro d md p H O O0 I P hd hn hs hm _ hi hc hh K
  refine h d md p H O O0 I P hd hn hs hm hi (hc (by decide)) ?_
  intro I' f g
  refine K I' f ?_
  rcases g with g | ⟨p', O', g1, g2, g3⟩
  · exact Or.inl g
  · rw [zun_0 hh (by decide)] at g3
    exact Or.inr ⟨p', [], O', by rw [List.append_nil]; exact g1, g2, fun w hw => absurd hw (by simp), g3, zex_7⟩
theorem zC1_up {sc : zk_X} {m q n : Nat} {B : Nat → Nat} (hq : q < 6) (h1 : zC1 sc m B q n) (h2 : zCl sc m B q n 112 1 1 7 [none]) : zC1 sc m B q (n + 1) := by
  intro d md p H O O0 I P hd hn hs hm hi hc K
  obtain ⟨e, rfl⟩ : ∃ e, d = e + 4 := ⟨d - 4, by have := hi.2.2.2.1; omega⟩
  have hb : ∀ j, j < m → B j < 256 := fun j hj => (hs.1.2.2 j hj).2
  have hm160 := hs.1.2.1
  obtain ⟨i1, i2, i3, i4, i5, i6⟩ := id hi
  obtain ⟨w1, w2, w3, w4⟩ := zx_83 hq
  have now2 := fun (P' : Option Value → zk_M → Prop) => hs.nowv (sc := sc) (d := e + 3) (tg := some (28 + 4 * q)) (P := P')
  have now45 := fun (P' : Option Value → zk_M → Prop) => hs.now (sc := sc) (d := e + 3) (tg := some (28 + 4 * q)) (P := P') (k := 45) (v := 45) (by decide) (by decide) rfl
  have now40 := fun (P' : Option Value → zk_M → Prop) => hs.now (sc := sc) (d := e + 3) (tg := some (28 + 4 * q)) (P := P') (k := 40) (v := 40) (by decide) (by decide) rfl
  have e5 : (5 ≤ nI (zon H)) = (zon H = 5) := by
    rw [show (5 : Int32) = nI 5 from rfl, zn_le (by decide) (by omega)]
    exact propext ⟨fun w => by omega, fun w => by omega⟩
  have p1 : (nI (zon H) + 1 : Int32) = nI (zon H + 1) := zn_add _ 1
  have flt : zstp m B (md, p, H, O) = zflt (zqa m B p) → zk_R sc (e + 4) 119 97 [some (.ref (11 : Nat)), some (.int (nI (zon H)))] [] (zk_mk I (some (28 + 4 * q))) P := by
    intro w
    rw [u119_97, u119_98 (by rw [zk_mk_1]; decide) (by rw [zsh_11]) (by rw [zsh_11])]
    refine hs.ref (by omega) ?_
    intro I' f g
    simp only [u119_1, u119_2, u119_5, u119_8, u119_9, u119_12, u119_13, u119_16, u119_19, u119_20, u119_23, u119_26, u119_27, u119_29, u119_32, u119_35, u119_36, u119_37, u119_40, u119_41, u119_44, u119_45, u119_46, u119_47, u119_48, u119_51, u119_52, u119_55, u119_57, u119_60, u119_63, u119_64, u119_66, u119_69, u119_72, u119_73, u119_74, u119_77, u119_78, u119_81, u119_82, u119_83, u119_84, u119_85, u119_88, u119_89, u119_91, u119_94, u119_98, u119_101, zk_mk_1, zk_mk_I, zk_mk_R, zk_mk_set, zk_mk_setR, zk_mk_cpy, zk_rv_some, zk_rv_none, Option.toList_some, Option.toList_none, List.cons_append, List.nil_append, reduceIte, eq_self, Nat.reduceLT, Nat.reduceEqDiff, and_true, true_and, reduceCtorEq]
    exact K I' f (Or.inl ⟨_, g, zrch.one w⟩)
  rw [u119_0]
  by_cases c1 : 1000 ≤ zqc m B p
  · have hgt := zqb_gt (B := B) i1 (by omega)
    simp only [u119_1, u119_2, u119_5, u119_8, u119_9, u119_12, u119_13, u119_16, u119_19, u119_20, u119_23, u119_26, u119_27, u119_29, u119_32, u119_35, u119_36, u119_37, u119_40, u119_41, u119_44, u119_45, u119_46, u119_47, u119_48, u119_51, u119_52, u119_55, u119_57, u119_60, u119_63, u119_64, u119_66, u119_69, u119_72, u119_73, u119_74, u119_77, u119_78, u119_81, u119_82, u119_83, u119_84, u119_85, u119_88, u119_89, u119_91, u119_94, u119_98, u119_101, zk_mk_1, zk_mk_I, zk_mk_R, zk_mk_set, zk_mk_setR, zk_mk_cpy, zk_rv_some, zk_rv_none, Option.toList_some, Option.toList_none, List.cons_append, List.nil_append, reduceIte, eq_self, Nat.reduceLT, Nat.reduceEqDiff, and_true, true_and, reduceCtorEq, zsh_11, now2, zb_t c1, zrf_11_2, w1, zx_28 hq, hs.2.2.2.1 c1, show ¬ (1 : Int32) = 0 from by decide]
    refine hs.app hq rfl (by omega) ?_
    intro I2 f2 g2
    simp only [u119_1, u119_2, u119_5, u119_8, u119_9, u119_12, u119_13, u119_16, u119_19, u119_20, u119_23, u119_26, u119_27, u119_29, u119_32, u119_35, u119_36, u119_37, u119_40, u119_41, u119_44, u119_45, u119_46, u119_47, u119_48, u119_51, u119_52, u119_55, u119_57, u119_60, u119_63, u119_64, u119_66, u119_69, u119_72, u119_73, u119_74, u119_77, u119_78, u119_81, u119_82, u119_83, u119_84, u119_85, u119_88, u119_89, u119_91, u119_94, u119_98, u119_101, zk_mk_1, zk_mk_I, zk_mk_R, zk_mk_set, zk_mk_setR, zk_mk_cpy, zk_rv_some, zk_rv_none, Option.toList_some, Option.toList_none, List.cons_append, List.nil_append, reduceIte, eq_self, Nat.reduceLT, Nat.reduceEqDiff, and_true, true_and, reduceCtorEq, zsh_11]
    refine g2.adv ?_
    intro I3 f3 g3
    simp only [u119_1, u119_2, u119_5, u119_8, u119_9, u119_12, u119_13, u119_16, u119_19, u119_20, u119_23, u119_26, u119_27, u119_29, u119_32, u119_35, u119_36, u119_37, u119_40, u119_41, u119_44, u119_45, u119_46, u119_47, u119_48, u119_51, u119_52, u119_55, u119_57, u119_60, u119_63, u119_64, u119_66, u119_69, u119_72, u119_73, u119_74, u119_77, u119_78, u119_81, u119_82, u119_83, u119_84, u119_85, u119_88, u119_89, u119_91, u119_94, u119_98, u119_101, zk_mk_1, zk_mk_I, zk_mk_R, zk_mk_set, zk_mk_setR, zk_mk_cpy, zk_rv_some, zk_rv_none, Option.toList_some, Option.toList_none, List.cons_append, List.nil_append, reduceIte, eq_self, Nat.reduceLT, Nat.reduceEqDiff, and_true, true_and, reduceCtorEq, zsh_11]
    exact K I3 (f2.trans f3) (Or.inr ⟨_, _, g3, hgt.1, zrch.one (zst_val hm c1)⟩)
  by_cases c2 : zqc m B p = 45
  · by_cases ho : zon H = 5
    · have e5t : 5 ≤ nI (zon H) := by rw [e5]; exact ho
      simp only [u119_1, u119_2, u119_5, u119_8, u119_9, u119_12, u119_13, u119_16, u119_19, u119_20, u119_23, u119_26, u119_27, u119_29, u119_32, u119_35, u119_36, u119_37, u119_40, u119_41, u119_44, u119_45, u119_46, u119_47, u119_48, u119_51, u119_52, u119_55, u119_57, u119_60, u119_63, u119_64, u119_66, u119_69, u119_72, u119_73, u119_74, u119_77, u119_78, u119_81, u119_82, u119_83, u119_84, u119_85, u119_88, u119_89, u119_91, u119_94, u119_98, u119_101, zk_mk_1, zk_mk_I, zk_mk_R, zk_mk_set, zk_mk_setR, zk_mk_cpy, zk_rv_some, zk_rv_none, Option.toList_some, Option.toList_none, List.cons_append, List.nil_append, reduceIte, eq_self, Nat.reduceLT, Nat.reduceEqDiff, and_true, true_and, reduceCtorEq, zsh_11, now2, zb_f c1, now45, zb_t c2, e5t, now40, zb_f (show ¬ zqc m B p = 40 by omega), show ¬ (1 : Int32) = 0 from by decide]
      exact flt (zst_neg5 hm c2 ho)
    · have hgt := zqb_gt (B := B) i1 (by omega)
      have hz := zst_neg (H := H) (O := O) hm c2 ho
      have ri := (zrch.one hz).i2 hb hi (by omega) (by decide)
      have eo : zon (10010 :: H) = zon H + 1 := rfl
      simp only [u119_1, u119_2, u119_5, u119_8, u119_9, u119_12, u119_13, u119_16, u119_19, u119_20, u119_23, u119_26, u119_27, u119_29, u119_32, u119_35, u119_36, u119_37, u119_40, u119_41, u119_44, u119_45, u119_46, u119_47, u119_48, u119_51, u119_52, u119_55, u119_57, u119_60, u119_63, u119_64, u119_66, u119_69, u119_72, u119_73, u119_74, u119_77, u119_78, u119_81, u119_82, u119_83, u119_84, u119_85, u119_88, u119_89, u119_91, u119_94, u119_98, u119_101, zk_mk_1, zk_mk_I, zk_mk_R, zk_mk_set, zk_mk_setR, zk_mk_cpy, zk_rv_some, zk_rv_none, Option.toList_some, Option.toList_none, List.cons_append, List.nil_append, reduceIte, eq_self, Nat.reduceLT, Nat.reduceEqDiff, and_true, true_and, reduceCtorEq, zsh_11, now2, zb_f c1, now45, zb_t c2, e5, ho, show ¬ (1 : Int32) = 0 from by decide]
      refine hs.adv ?_
      intro I2 f2 g2
      simp only [u119_1, u119_2, u119_5, u119_8, u119_9, u119_12, u119_13, u119_16, u119_19, u119_20, u119_23, u119_26, u119_27, u119_29, u119_32, u119_35, u119_36, u119_37, u119_40, u119_41, u119_44, u119_45, u119_46, u119_47, u119_48, u119_51, u119_52, u119_55, u119_57, u119_60, u119_63, u119_64, u119_66, u119_69, u119_72, u119_73, u119_74, u119_77, u119_78, u119_81, u119_82, u119_83, u119_84, u119_85, u119_88, u119_89, u119_91, u119_94, u119_98, u119_101, zk_mk_1, zk_mk_I, zk_mk_R, zk_mk_set, zk_mk_setR, zk_mk_cpy, zk_rv_some, zk_rv_none, Option.toList_some, Option.toList_none, List.cons_append, List.nil_append, reduceIte, eq_self, Nat.reduceLT, Nat.reduceEqDiff, and_true, true_and, reduceCtorEq, zsh_11, p1]
      rw [← eo]
      refine h1 (e + 3) 1 (zqb m B p) (10010 :: H) O O0 I2 _ (by rw [eo]; omega) (by omega) g2 (by decide) ri (fun w => absurd w (by decide)) ?_
      intro I3 f3 g3
      simp only [u119_1, u119_2, u119_5, u119_8, u119_9, u119_12, u119_13, u119_16, u119_19, u119_20, u119_23, u119_26, u119_27, u119_29, u119_32, u119_35, u119_36, u119_37, u119_40, u119_41, u119_44, u119_45, u119_46, u119_47, u119_48, u119_51, u119_52, u119_55, u119_57, u119_60, u119_63, u119_64, u119_66, u119_69, u119_72, u119_73, u119_74, u119_77, u119_78, u119_81, u119_82, u119_83, u119_84, u119_85, u119_88, u119_89, u119_91, u119_94, u119_98, u119_101, zk_mk_1, zk_mk_I, zk_mk_R, zk_mk_set, zk_mk_setR, zk_mk_cpy, zk_rv_some, zk_rv_none, Option.toList_some, Option.toList_none, List.cons_append, List.nil_append, reduceIte, eq_self, Nat.reduceLT, Nat.reduceEqDiff, and_true, true_and, reduceCtorEq, zsh_11, zrf_11_2, w1, zx_28 hq]
      rcases g3 with ⟨f, g3, g4⟩ | ⟨p', O', g3, g4, g5⟩
      · refine g3.app hq ?_
        intro I4 f4 g6
        simp only [u119_1, u119_2, u119_5, u119_8, u119_9, u119_12, u119_13, u119_16, u119_19, u119_20, u119_23, u119_26, u119_27, u119_29, u119_32, u119_35, u119_36, u119_37, u119_40, u119_41, u119_44, u119_45, u119_46, u119_47, u119_48, u119_51, u119_52, u119_55, u119_57, u119_60, u119_63, u119_64, u119_66, u119_69, u119_72, u119_73, u119_74, u119_77, u119_78, u119_81, u119_82, u119_83, u119_84, u119_85, u119_88, u119_89, u119_91, u119_94, u119_98, u119_101, zk_mk_1, zk_mk_I, zk_mk_R, zk_mk_set, zk_mk_setR, zk_mk_cpy, zk_rv_some, zk_rv_none, Option.toList_some, Option.toList_none, List.cons_append, List.nil_append, reduceIte, eq_self, Nat.reduceLT, Nat.reduceEqDiff, and_true, true_and, reduceCtorEq, zsh_11]
        exact K I4 ((f2.trans f3).trans f4) (Or.inl ⟨f, g6, (zrch.one hz).trans g4⟩)
      · have r2 := g5.i2 hb ri (by decide) (by decide)
        have ln := zun_ln (l := 7) (10010 :: H) O'
        rw [List.length_cons] at ln
        refine g3.app hq (t := 10010) (by decide) (by have := r2.2.1; have := r2.1; omega) ?_
        intro I4 f4 g6
        simp only [u119_1, u119_2, u119_5, u119_8, u119_9, u119_12, u119_13, u119_16, u119_19, u119_20, u119_23, u119_26, u119_27, u119_29, u119_32, u119_35, u119_36, u119_37, u119_40, u119_41, u119_44, u119_45, u119_46, u119_47, u119_48, u119_51, u119_52, u119_55, u119_57, u119_60, u119_63, u119_64, u119_66, u119_69, u119_72, u119_73, u119_74, u119_77, u119_78, u119_81, u119_82, u119_83, u119_84, u119_85, u119_88, u119_89, u119_91, u119_94, u119_98, u119_101, zk_mk_1, zk_mk_I, zk_mk_R, zk_mk_set, zk_mk_setR, zk_mk_cpy, zk_rv_some, zk_rv_none, Option.toList_some, Option.toList_none, List.cons_append, List.nil_append, reduceIte, eq_self, Nat.reduceLT, Nat.reduceEqDiff, and_true, true_and, reduceCtorEq, zsh_11]
        refine K I4 ((f2.trans f3).trans f4) (Or.inr ⟨p', O' ++ [10010], g6, by omega, (zrch.one hz).trans ?_⟩)
        exact g5
  by_cases c3 : zqc m B p = 40
  · by_cases ho : zon H = 5
    · have e5t : 5 ≤ nI (zon H) := by rw [e5]; exact ho
      simp only [u119_1, u119_2, u119_5, u119_8, u119_9, u119_12, u119_13, u119_16, u119_19, u119_20, u119_23, u119_26, u119_27, u119_29, u119_32, u119_35, u119_36, u119_37, u119_40, u119_41, u119_44, u119_45, u119_46, u119_47, u119_48, u119_51, u119_52, u119_55, u119_57, u119_60, u119_63, u119_64, u119_66, u119_69, u119_72, u119_73, u119_74, u119_77, u119_78, u119_81, u119_82, u119_83, u119_84, u119_85, u119_88, u119_89, u119_91, u119_94, u119_98, u119_101, zk_mk_1, zk_mk_I, zk_mk_R, zk_mk_set, zk_mk_setR, zk_mk_cpy, zk_rv_some, zk_rv_none, Option.toList_some, Option.toList_none, List.cons_append, List.nil_append, reduceIte, eq_self, Nat.reduceLT, Nat.reduceEqDiff, and_true, true_and, reduceCtorEq, zsh_11, now2, zb_f c1, now45, zb_f c2, e5t, now40, zb_t c3, show ¬ (1 : Int32) = 0 from by decide]
      exact flt (zst_par5 hm c3 ho)
    · have hgt := zqb_gt (B := B) i1 (by omega)
      have hz := zst_par (H := H) (O := O) hm c3 ho
      have ri := (zrch.one hz).i2 hb hi (by omega) (by decide)
      have eo : zon (0 :: H) = zon H + 1 := rfl
      simp only [u119_1, u119_2, u119_5, u119_8, u119_9, u119_12, u119_13, u119_16, u119_19, u119_20, u119_23, u119_26, u119_27, u119_29, u119_32, u119_35, u119_36, u119_37, u119_40, u119_41, u119_44, u119_45, u119_46, u119_47, u119_48, u119_51, u119_52, u119_55, u119_57, u119_60, u119_63, u119_64, u119_66, u119_69, u119_72, u119_73, u119_74, u119_77, u119_78, u119_81, u119_82, u119_83, u119_84, u119_85, u119_88, u119_89, u119_91, u119_94, u119_98, u119_101, zk_mk_1, zk_mk_I, zk_mk_R, zk_mk_set, zk_mk_setR, zk_mk_cpy, zk_rv_some, zk_rv_none, Option.toList_some, Option.toList_none, List.cons_append, List.nil_append, reduceIte, eq_self, Nat.reduceLT, Nat.reduceEqDiff, and_true, true_and, reduceCtorEq, zsh_11, now2, zb_f c1, now45, zb_f c2, now40, zb_t c3, e5, ho, show ¬ (1 : Int32) = 0 from by decide]
      refine hs.adv ?_
      intro I2 f2 g2
      simp only [u119_1, u119_2, u119_5, u119_8, u119_9, u119_12, u119_13, u119_16, u119_19, u119_20, u119_23, u119_26, u119_27, u119_29, u119_32, u119_35, u119_36, u119_37, u119_40, u119_41, u119_44, u119_45, u119_46, u119_47, u119_48, u119_51, u119_52, u119_55, u119_57, u119_60, u119_63, u119_64, u119_66, u119_69, u119_72, u119_73, u119_74, u119_77, u119_78, u119_81, u119_82, u119_83, u119_84, u119_85, u119_88, u119_89, u119_91, u119_94, u119_98, u119_101, zk_mk_1, zk_mk_I, zk_mk_R, zk_mk_set, zk_mk_setR, zk_mk_cpy, zk_rv_some, zk_rv_none, Option.toList_some, Option.toList_none, List.cons_append, List.nil_append, reduceIte, eq_self, Nat.reduceLT, Nat.reduceEqDiff, and_true, true_and, reduceCtorEq, zsh_11, p1]
      rw [← eo]
      refine h2 (e + 3) 0 (zqb m B p) (0 :: H) O O0 I2 _ (by rw [eo]; omega) (by omega) g2 (by decide) (fun _ => rfl) ri (fun w => absurd w (by decide)) (by show 0 < 1; decide) ?_
      intro I3 f3 g3
      simp only [u119_1, u119_2, u119_5, u119_8, u119_9, u119_12, u119_13, u119_16, u119_19, u119_20, u119_23, u119_26, u119_27, u119_29, u119_32, u119_35, u119_36, u119_37, u119_40, u119_41, u119_44, u119_45, u119_46, u119_47, u119_48, u119_51, u119_52, u119_55, u119_57, u119_60, u119_63, u119_64, u119_66, u119_69, u119_72, u119_73, u119_74, u119_77, u119_78, u119_81, u119_82, u119_83, u119_84, u119_85, u119_88, u119_89, u119_91, u119_94, u119_98, u119_101, zk_mk_1, zk_mk_I, zk_mk_R, zk_mk_set, zk_mk_setR, zk_mk_cpy, zk_rv_some, zk_rv_none, Option.toList_some, Option.toList_none, List.cons_append, List.nil_append, reduceIte, eq_self, Nat.reduceLT, Nat.reduceEqDiff, and_true, true_and, reduceCtorEq, zsh_11]
      rcases g3 with ⟨f, g3, g4⟩ | ⟨p', W, O', g3, g4, g5, g6, g7⟩
      · refine g3.exp ?_
        simp only [u119_1, u119_2, u119_5, u119_8, u119_9, u119_12, u119_13, u119_16, u119_19, u119_20, u119_23, u119_26, u119_27, u119_29, u119_32, u119_35, u119_36, u119_37, u119_40, u119_41, u119_44, u119_45, u119_46, u119_47, u119_48, u119_51, u119_52, u119_55, u119_57, u119_60, u119_63, u119_64, u119_66, u119_69, u119_72, u119_73, u119_74, u119_77, u119_78, u119_81, u119_82, u119_83, u119_84, u119_85, u119_88, u119_89, u119_91, u119_94, u119_98, u119_101, zk_mk_1, zk_mk_I, zk_mk_R, zk_mk_set, zk_mk_setR, zk_mk_cpy, zk_rv_some, zk_rv_none, Option.toList_some, Option.toList_none, List.cons_append, List.nil_append, reduceIte, eq_self, Nat.reduceLT, Nat.reduceEqDiff, and_true, true_and, reduceCtorEq, zsh_11]
        exact K I3 (f2.trans f3) (Or.inl ⟨f, g3, (zrch.one hz).trans g4⟩)
      · have r2 := g6.i2 hb ri (by decide) (by decide)
        have r3 := r2.2.1
        rw [List.length_append, List.length_cons] at r3
        have zu := zun_app (l := 1) (H := 0 :: H) (by show 0 < 1; decide) (by decide) W O' g5
        refine g3.exp (k := 41) (v := 41) (by rw [List.length_append]; have := r2.1; omega) (by decide) (by decide) rfl ?_
        intro I4 f4 g8
        simp only [u119_1, u119_2, u119_5, u119_8, u119_9, u119_12, u119_13, u119_16, u119_19, u119_20, u119_23, u119_26, u119_27, u119_29, u119_32, u119_35, u119_36, u119_37, u119_40, u119_41, u119_44, u119_45, u119_46, u119_47, u119_48, u119_51, u119_52, u119_55, u119_57, u119_60, u119_63, u119_64, u119_66, u119_69, u119_72, u119_73, u119_74, u119_77, u119_78, u119_81, u119_82, u119_83, u119_84, u119_85, u119_88, u119_89, u119_91, u119_94, u119_98, u119_101, zk_mk_1, zk_mk_I, zk_mk_R, zk_mk_set, zk_mk_setR, zk_mk_cpy, zk_rv_some, zk_rv_none, Option.toList_some, Option.toList_none, List.cons_append, List.nil_append, reduceIte, eq_self, Nat.reduceLT, Nat.reduceEqDiff, and_true, true_and, reduceCtorEq, zsh_11]
        refine K I4 ((f2.trans f3).trans f4) ?_
        rcases g8 with ⟨c8, g8⟩ | ⟨c8, g8⟩
        · have hgt2 := zqb_gt (B := B) r2.1 (by omega)
          refine Or.inr ⟨_, O' ++ W, g8, by omega, ((zrch.one hz).trans g6).then ?_⟩
          rw [zst_cls c8, zu]
          rfl
        · refine Or.inl ⟨_, g8, ((zrch.one hz).trans g6).then ?_⟩
          by_cases c9 : zqc m B p' = 59
          · exact zst_end0 c9 (by rw [zu]; simp)
          · exact zex_flt g7 c9 c8
  simp only [u119_1, u119_2, u119_5, u119_8, u119_9, u119_12, u119_13, u119_16, u119_19, u119_20, u119_23, u119_26, u119_27, u119_29, u119_32, u119_35, u119_36, u119_37, u119_40, u119_41, u119_44, u119_45, u119_46, u119_47, u119_48, u119_51, u119_52, u119_55, u119_57, u119_60, u119_63, u119_64, u119_66, u119_69, u119_72, u119_73, u119_74, u119_77, u119_78, u119_81, u119_82, u119_83, u119_84, u119_85, u119_88, u119_89, u119_91, u119_94, u119_98, u119_101, zk_mk_1, zk_mk_I, zk_mk_R, zk_mk_set, zk_mk_setR, zk_mk_cpy, zk_rv_some, zk_rv_none, Option.toList_some, Option.toList_none, List.cons_append, List.nil_append, reduceIte, eq_self, Nat.reduceLT, Nat.reduceEqDiff, and_true, true_and, reduceCtorEq, zsh_11, now2, zb_f c1, now45, zb_f c2, now40, zb_f c3]
  exact flt (zst_wno hm c1 (fun w => hc w.2 w.1) c2 c3)
