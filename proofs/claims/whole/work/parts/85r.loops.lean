/-! levels of a law, by T: loops -/
theorem zst_op {m p l c s md' : Nat} {B : Nat → Nat} {W H O : List Nat} (hc : zqc m B p = c) (hs : zsn c = s) (h59 : ¬ c = 59) (h41 : ¬ c = 41) (hs0 : ¬ s = 0) (hl : zrk s = l) (h4 : ¬ l = 4) (hmd : md' = if l < 3 then 0 else 1) (hH : zhdr H < l) (hW : ∀ w, w ∈ W → l ≤ zrk w) : zstp m B (2, p, W ++ H, O) = (md', zqb m B p, s :: H, O ++ W) := by
  subst hc hs hl hmd
  have hz := zun_app hH (by omega) W O hW
  rw [zst_two (l := zrk (zsn (zqc m B p))) h59 h41 hs0 (by rw [if_neg h4]) (fun w => h4 w.1), hz]
theorem zst_op4 {m p c s : Nat} {B : Nat → Nat} {W H O : List Nat} (hc : zqc m B p = c) (hs : zsn c = s) (h59 : ¬ c = 59) (h41 : ¬ c = 41) (hs0 : ¬ s = 0) (hl : zrk s = 4) (hH : zhdr H < 4) (hW : ∀ w, w ∈ W → 5 ≤ zrk w) : zstp m B (2, p, W ++ H, O) = (1, zqb m B p, s :: H, O ++ W) := by
  subst hc hs
  have hz := zun_app (l := 5) (H := H) (by omega) (by decide) W O hW
  rw [zst_two (l := 5) h59 h41 hs0 (by rw [if_pos hl]) (fun w => by rw [hz] at w; have : zhdr H = 4 := w.2; omega), hz, if_neg (by rw [hl]; decide)]
theorem zex_65 {m l p : Nat} {B : Nat → Nat} {X : List Nat} (h : zex m B 7 p X) (c : ¬ zqc m B p = 42) (hl : l = 6) : zex m B l p X := by
  subst hl
  exact ⟨fun _ => c, fun w => absurd w (by decide), fun w => absurd w (by decide), fun w => absurd w (by decide), fun w => absurd w (by decide)⟩
theorem zex_6 {m p : Nat} {B : Nat → Nat} {X : List Nat} (h : zex m B 6 p X) (c1 : ¬ zqc m B p = 43) (c2 : ¬ zqc m B p = 45) : zex m B 5 p X :=
  ⟨fun _ => h.1 (by decide), fun _ => ⟨c1, c2⟩, fun w => absurd w (by decide), fun w => absurd w (by decide), fun w => absurd w (by decide)⟩
theorem zex_5 {m p : Nat} {B : Nat → Nat} {X : List Nat} (h : zex m B 5 p X) (c : zqc m B p = 60 ∨ zqc m B p = 61 → zblk X) : zex m B 4 p X :=
  ⟨fun _ => h.1 (by decide), fun _ => h.2.1 (by decide), fun _ => c, fun w => absurd w (by decide), fun w => absurd w (by decide)⟩
theorem zex_4 {m p : Nat} {B : Nat → Nat} {X : List Nat} (h : zex m B 4 p X) : zex m B 3 p X :=
  ⟨fun _ => h.1 (by decide), fun _ => h.2.1 (by decide), fun _ => h.2.2.1 (by decide), fun w => absurd w (by decide), fun w => absurd w (by decide)⟩
theorem zex_3 {m p : Nat} {B : Nat → Nat} {X : List Nat} (h : zex m B 3 p X) (c : ¬ zqc m B p = 4) : zex m B 2 p X :=
  ⟨fun _ => h.1 (by decide), fun _ => h.2.1 (by decide), fun _ => h.2.2.1 (by decide), fun _ => c, fun w => absurd w (by decide)⟩
theorem zex_2 {m p : Nat} {B : Nat → Nat} {X : List Nat} (h : zex m B 2 p X) (c : ¬ zqc m B p = 3) : zex m B 1 p X :=
  ⟨fun _ => h.1 (by decide), fun _ => h.2.1 (by decide), fun _ => h.2.2.1 (by decide), fun _ => h.2.2.2.1 (by decide), fun _ => c⟩
theorem zrk_sn {l s : Nat} {W : List Nat} (h : ∀ w, w ∈ W → l ≤ zrk w) (hs : l ≤ zrk s) : ∀ w, w ∈ W ++ [s] → l ≤ zrk w := by
  intro w hw
  rcases List.mem_append.mp hw with q | q
  · exact h w q
  · rw [List.mem_singleton.mp q]; exact hs
theorem zLf118 {sc : zk_X} {m q f e : Nat} {B : Nat → Nat} {I1 : Nat → Nat → Int32} {tg : Option Nat} {P : Option Value → zk_M → Prop} {w v : Int32} (h : zTf I1 m B q f) (K : P none (zk_mk I1 tg)) : zk_R sc (e + 9) 118 7 [some (.ref (11 : Nat)), some (.int w), some (.int v)] [] (zk_mk I1 tg) P := by
  rw [u118_7]
  have now := fun (P' : Option Value → zk_M → Prop) => h.now (sc := sc) (d := e + 8) (tg := tg) (P := P') (v := 42)
  by_cases c : (160 : Int32) ≤ v
  · simp only [u118_0, u118_1, u118_2, u118_5, u118_6, u118_8, u118_11, u118_14, u118_15, u118_17, u118_20, u118_23, u118_24, u118_27, u118_28, u118_29, u118_32, u118_33, u118_36, u118_38, u118_41, u118_44, u118_47, zk_mk_1, zk_mk_I, zk_mk_R, zk_mk_set, zk_mk_setR, zk_mk_cpy, zk_rv_some, zk_rv_none, Option.toList_some, Option.toList_none, List.cons_append, List.nil_append, reduceIte, eq_self, Nat.reduceLT, Nat.reduceEqDiff, and_true, true_and, reduceCtorEq, c]
    exact K
  · simp only [u118_0, u118_1, u118_2, u118_5, u118_6, u118_8, u118_11, u118_14, u118_15, u118_17, u118_20, u118_23, u118_24, u118_27, u118_28, u118_29, u118_32, u118_33, u118_36, u118_38, u118_41, u118_44, u118_47, zk_mk_1, zk_mk_I, zk_mk_R, zk_mk_set, zk_mk_setR, zk_mk_cpy, zk_rv_some, zk_rv_none, Option.toList_some, Option.toList_none, List.cons_append, List.nil_append, reduceIte, eq_self, Nat.reduceLT, Nat.reduceEqDiff, and_true, true_and, reduceCtorEq, zsh_11, c, now]
    exact K
theorem zLp118 {sc : zk_X} {m q n e md p : Nat} {B : Nat → Nat} {H O O0 : List Nat} {I : Nat → Nat → Int32} {P : Option Value → zk_M → Prop} (hq : q < 6) (hc : zCl sc m B q n 119 7 7 1 []) (hd : 10 * (6 - zon H) + 2 ≤ e + 9) (hn : m - p < n) (hb : ∀ j, j < m → B j < 256) (hm160 : m ≤ 160) (hi : zI2 m O0 md p H O) (hmd : md ≤ 2) (hh : zhdr H < 6) (K : ∀ I', zTx q I I' → zTe I' m B q 6 p (md, p, H, O) H → P none (zk_mk I' (some (28 + 4 * q)))) : ∀ (k p' i : Nat) (W O' : List Nat) (I1 : Nat → Nat → Int32), m - p' < k → i < p' → p < p' → zTx q I I1 → zTs I1 m B q p' (O' ++ W) → (∀ w, w ∈ W → 6 ≤ zrk w) → zrch m B (md, p, H, O) (2, p', W ++ H, O') → zex m B 7 p' (W ++ H) → zk_R sc (e + 9) 118 7 [some (.ref (11 : Nat)), some (.int (nI (zon H))), some (.int (nI i))] [] (zk_mk I1 (some (28 + 4 * q))) P := by
  intro k
  induction k with
  | zero => intro p' i W O' I1 h; omega
  | succ k ih =>
    intro p' i W O' I1 hk hip hpp fx hs hW hr hx
    have hp' : p' ≤ m := hs.2.1
    have c160 : ¬ (160 : Int32) ≤ nI i := nI_ge (b := 160) (by omega) (by decide)
    have p1 : (nI i + 1 : Int32) = nI (i + 1) := zn_add _ 1
    obtain ⟨w1, w2, w3, w4⟩ := zx_83 hq
    have now := fun (P' : Option Value → zk_M → Prop) => hs.now (sc := sc) (d := e + 8) (tg := some (28 + 4 * q)) (P := P') (k := 42) (v := 42) (by decide) (by decide) rfl
    rw [u118_7]
    by_cases c : zqc m B p' = 42
    · have hgt := zqb_gt (B := B) hp' (by omega)
      have hz := zst_op (W := W) (H := H) (O := O') (l := 6) (s := 10012) (md' := 1) c (by decide) (by decide) (by decide) (by decide) (by decide) (by decide) (by decide) hh hW
      have ri := (hr.then hz).i2 hb hi hmd (by decide)
      have eo : zon (10012 :: H) = zon H := by
        show zon H + zo1 10012 = zon H
        rw [show zo1 10012 = 0 from by decide]; rfl
      simp only [u118_0, u118_1, u118_2, u118_5, u118_6, u118_8, u118_11, u118_14, u118_15, u118_17, u118_20, u118_23, u118_24, u118_27, u118_28, u118_29, u118_32, u118_33, u118_36, u118_38, u118_41, u118_44, u118_47, zk_mk_1, zk_mk_I, zk_mk_R, zk_mk_set, zk_mk_setR, zk_mk_cpy, zk_rv_some, zk_rv_none, Option.toList_some, Option.toList_none, List.cons_append, List.nil_append, reduceIte, eq_self, Nat.reduceLT, Nat.reduceEqDiff, and_true, true_and, reduceCtorEq, zsh_11, c160, now, zb_t c, show ¬ (1 : Int32) = 0 from by decide]
      refine hs.adv ?_
      intro I2 f2 g2
      simp only [u118_0, u118_1, u118_2, u118_5, u118_6, u118_8, u118_11, u118_14, u118_15, u118_17, u118_20, u118_23, u118_24, u118_27, u118_28, u118_29, u118_32, u118_33, u118_36, u118_38, u118_41, u118_44, u118_47, zk_mk_1, zk_mk_I, zk_mk_R, zk_mk_set, zk_mk_setR, zk_mk_cpy, zk_rv_some, zk_rv_none, Option.toList_some, Option.toList_none, List.cons_append, List.nil_append, reduceIte, eq_self, Nat.reduceLT, Nat.reduceEqDiff, and_true, true_and, reduceCtorEq, zsh_11]
      have go := fun P' => hc (e + 8) 1 (zqb m B p') (10012 :: H) (O' ++ W) O0 I2 P'
      rw [eo] at go
      refine go _ (by omega) (by omega) g2 (by decide) (by decide) ri (fun _ w => absurd w (by decide)) (by show zrk 10012 < 7; decide) ?_
      intro I3 f3 g3
      simp only [u118_0, u118_1, u118_2, u118_5, u118_6, u118_8, u118_11, u118_14, u118_15, u118_17, u118_20, u118_23, u118_24, u118_27, u118_28, u118_29, u118_32, u118_33, u118_36, u118_38, u118_41, u118_44, u118_47, zk_mk_1, zk_mk_I, zk_mk_R, zk_mk_set, zk_mk_setR, zk_mk_cpy, zk_rv_some, zk_rv_none, Option.toList_some, Option.toList_none, List.cons_append, List.nil_append, reduceIte, eq_self, Nat.reduceLT, Nat.reduceEqDiff, and_true, true_and, reduceCtorEq, zsh_11, zrf_11_2, w1, zx_28 hq]
      rcases g3 with ⟨f, g3, g4⟩ | ⟨p2, W2, O2, g3, g4, g5, g6, g7⟩
      · refine g3.app hq ?_
        intro I4 f4 g8
        simp only [u118_0, u118_1, u118_2, u118_5, u118_6, u118_8, u118_11, u118_14, u118_15, u118_17, u118_20, u118_23, u118_24, u118_27, u118_28, u118_29, u118_32, u118_33, u118_36, u118_38, u118_41, u118_44, u118_47, zk_mk_1, zk_mk_I, zk_mk_R, zk_mk_set, zk_mk_setR, zk_mk_cpy, zk_rv_some, zk_rv_none, Option.toList_some, Option.toList_none, List.cons_append, List.nil_append, reduceIte, eq_self, Nat.reduceLT, Nat.reduceEqDiff, and_true, true_and, reduceCtorEq]
        exact zLf118 g8 (K I4 (((fx.trans f2).trans f3).trans f4) (Or.inl ⟨f, g8, (hr.then hz).trans g4⟩))
      · have r2 := g6.i2 hb ri (by decide) (by decide)
        have r3 := r2.2.1
        rw [List.length_append, List.length_cons] at r3
        have ew : (W2 ++ [10012]) ++ H = W2 ++ 10012 :: H := by rw [List.append_assoc]; rfl
        refine g3.app hq (t := 10012) (by decide) (by rw [List.length_append]; have := r2.1; omega) ?_
        intro I4 f4 g8
        simp only [u118_0, u118_1, u118_2, u118_5, u118_6, u118_8, u118_11, u118_14, u118_15, u118_17, u118_20, u118_23, u118_24, u118_27, u118_28, u118_29, u118_32, u118_33, u118_36, u118_38, u118_41, u118_44, u118_47, zk_mk_1, zk_mk_I, zk_mk_R, zk_mk_set, zk_mk_setR, zk_mk_cpy, zk_rv_some, zk_rv_none, Option.toList_some, Option.toList_none, List.cons_append, List.nil_append, reduceIte, eq_self, Nat.reduceLT, Nat.reduceEqDiff, and_true, true_and, reduceCtorEq, p1]
        rw [List.append_assoc] at g8
        refine ih p2 (i + 1) (W2 ++ [10012]) O2 I4 (by omega) (by omega) (by omega) (((fx.trans f2).trans f3).trans f4) g8 (zrk_sn (fun w hw => by have := g5 w hw; omega) (by decide)) ?_ ?_
        · rw [ew]; exact (hr.then hz).trans g6
        · rw [ew]; exact g7
    · simp only [u118_0, u118_1, u118_2, u118_5, u118_6, u118_8, u118_11, u118_14, u118_15, u118_17, u118_20, u118_23, u118_24, u118_27, u118_28, u118_29, u118_32, u118_33, u118_36, u118_38, u118_41, u118_44, u118_47, zk_mk_1, zk_mk_I, zk_mk_R, zk_mk_set, zk_mk_setR, zk_mk_cpy, zk_rv_some, zk_rv_none, Option.toList_some, Option.toList_none, List.cons_append, List.nil_append, reduceIte, eq_self, Nat.reduceLT, Nat.reduceEqDiff, and_true, true_and, reduceCtorEq, zsh_11, c160, now, zb_f c]
      exact K I1 fx (Or.inr ⟨p', W, O', hs, hpp, hW, hr, zex_65 hx c rfl⟩)
theorem zC118 {sc : zk_X} {m q n : Nat} {B : Nat → Nat} (hq : q < 6) (hc : zCl sc m B q n 119 7 7 1 []) : zCl sc m B q n 118 6 6 2 [none] := by
  intro d md p H O O0 I P hd hn hs hm h0 hi h5 hh K
  obtain ⟨e, rfl⟩ : ∃ e, d = e + 9 := ⟨d - 9, by have := hi.2.2.2.1; omega⟩
  have hb : ∀ j, j < m → B j < 256 := fun j hj => (hs.1.2.2 j hj).2
  simp only [u118_0, u118_1, u118_2, u118_5, u118_6, u118_8, u118_11, u118_14, u118_15, u118_17, u118_20, u118_23, u118_24, u118_27, u118_28, u118_29, u118_32, u118_33, u118_36, u118_38, u118_41, u118_44, u118_47, zk_mk_1, zk_mk_I, zk_mk_R, zk_mk_set, zk_mk_setR, zk_mk_cpy, zk_rv_some, zk_rv_none, Option.toList_some, Option.toList_none, List.cons_append, List.nil_append, reduceIte, eq_self, Nat.reduceLT, Nat.reduceEqDiff, and_true, true_and, reduceCtorEq, zsh_11]
  refine hc (e + 8) md p H O O0 I _ (by omega) hn hs hm (fun w => absurd w (by decide)) hi (fun _ => h5 (by decide)) (by omega) ?_
  intro I1 f1 g1
  simp only [u118_0, u118_1, u118_2, u118_5, u118_6, u118_8, u118_11, u118_14, u118_15, u118_17, u118_20, u118_23, u118_24, u118_27, u118_28, u118_29, u118_32, u118_33, u118_36, u118_38, u118_41, u118_44, u118_47, zk_mk_1, zk_mk_I, zk_mk_R, zk_mk_set, zk_mk_setR, zk_mk_cpy, zk_rv_some, zk_rv_none, Option.toList_some, Option.toList_none, List.cons_append, List.nil_append, reduceIte, eq_self, Nat.reduceLT, Nat.reduceEqDiff, and_true, true_and, reduceCtorEq, zsh_11]
  rcases g1 with ⟨f, g1, g2⟩ | ⟨p', W, O', g1, g2, g3, g4, g5⟩
  · exact zLf118 g1 (K I1 f1 (Or.inl ⟨f, g1, g2⟩))
  · exact zLp118 (I := I) hq hc hd hn hb hs.1.2.1 hi (by omega) hh K (m - p' + 1) p' 0 W O' I1 (by omega) (by omega) g2 f1 g1 (fun w hw => by have := g3 w hw; omega) g4 g5
theorem zLf113 {sc : zk_X} {m q f e : Nat} {B : Nat → Nat} {I1 : Nat → Nat → Int32} {tg : Option Nat} {P : Option Value → zk_M → Prop} {w v : Int32} (h : zTf I1 m B q f) (K : P none (zk_mk I1 tg)) : zk_R sc (e + 9) 113 7 [some (.ref (11 : Nat)), some (.int w), some (.int v)] [] (zk_mk I1 tg) P := by
  rw [u113_7]
  have now := fun (P' : Option Value → zk_M → Prop) => h.now (sc := sc) (d := e + 8) (tg := tg) (P := P') (v := 4)
  by_cases c : (160 : Int32) ≤ v
  · simp only [u113_0, u113_1, u113_2, u113_5, u113_6, u113_8, u113_11, u113_14, u113_15, u113_16, u113_19, u113_22, u113_23, u113_26, u113_27, u113_28, u113_31, u113_32, u113_35, u113_37, u113_40, u113_43, u113_46, zk_mk_1, zk_mk_I, zk_mk_R, zk_mk_set, zk_mk_setR, zk_mk_cpy, zk_rv_some, zk_rv_none, Option.toList_some, Option.toList_none, List.cons_append, List.nil_append, reduceIte, eq_self, Nat.reduceLT, Nat.reduceEqDiff, and_true, true_and, reduceCtorEq, c]
    exact K
  · simp only [u113_0, u113_1, u113_2, u113_5, u113_6, u113_8, u113_11, u113_14, u113_15, u113_16, u113_19, u113_22, u113_23, u113_26, u113_27, u113_28, u113_31, u113_32, u113_35, u113_37, u113_40, u113_43, u113_46, zk_mk_1, zk_mk_I, zk_mk_R, zk_mk_set, zk_mk_setR, zk_mk_cpy, zk_rv_some, zk_rv_none, Option.toList_some, Option.toList_none, List.cons_append, List.nil_append, reduceIte, eq_self, Nat.reduceLT, Nat.reduceEqDiff, and_true, true_and, reduceCtorEq, zsh_11, c, now]
    exact K
theorem zLp113 {sc : zk_X} {m q n e md p : Nat} {B : Nat → Nat} {H O O0 : List Nat} {I : Nat → Nat → Int32} {P : Option Value → zk_M → Prop} (hq : q < 6) (hc : zCl sc m B q n 114 4 3 5 []) (hd : 10 * (6 - zon H) + 6 ≤ e + 9) (hn : m - p < n) (hb : ∀ j, j < m → B j < 256) (hm160 : m ≤ 160) (hi : zI2 m O0 md p H O) (hmd : md ≤ 2) (hh : zhdr H < 2) (K : ∀ I', zTx q I I' → zTe I' m B q 2 p (md, p, H, O) H → P none (zk_mk I' (some (28 + 4 * q)))) : ∀ (k p' i : Nat) (W O' : List Nat) (I1 : Nat → Nat → Int32), m - p' < k → i < p' → p < p' → zTx q I I1 → zTs I1 m B q p' (O' ++ W) → (∀ w, w ∈ W → 2 ≤ zrk w) → zrch m B (md, p, H, O) (2, p', W ++ H, O') → zex m B 3 p' (W ++ H) → zk_R sc (e + 9) 113 7 [some (.ref (11 : Nat)), some (.int (nI (zon H))), some (.int (nI i))] [] (zk_mk I1 (some (28 + 4 * q))) P := by
  intro k
  induction k with
  | zero => intro p' i W O' I1 h; omega
  | succ k ih =>
    intro p' i W O' I1 hk hip hpp fx hs hW hr hx
    have hp' : p' ≤ m := hs.2.1
    have c160 : ¬ (160 : Int32) ≤ nI i := nI_ge (b := 160) (by omega) (by decide)
    have p1 : (nI i + 1 : Int32) = nI (i + 1) := zn_add _ 1
    obtain ⟨w1, w2, w3, w4⟩ := zx_83 hq
    have now := fun (P' : Option Value → zk_M → Prop) => hs.now (sc := sc) (d := e + 8) (tg := some (28 + 4 * q)) (P := P') (k := 4) (v := 4) (by decide) (by decide) rfl
    rw [u113_7]
    by_cases c : zqc m B p' = 4
    · have hgt := zqb_gt (B := B) hp' (by omega)
      have hz := zst_op (W := W) (H := H) (O := O') (l := 2) (s := 10017) (md' := 0) c (by decide) (by decide) (by decide) (by decide) (by decide) (by decide) (by decide) hh hW
      have ri := (hr.then hz).i2 hb hi hmd (by decide)
      have eo : zon (10017 :: H) = zon H := by
        show zon H + zo1 10017 = zon H
        rw [show zo1 10017 = 0 from by decide]; rfl
      simp only [u113_0, u113_1, u113_2, u113_5, u113_6, u113_8, u113_11, u113_14, u113_15, u113_16, u113_19, u113_22, u113_23, u113_26, u113_27, u113_28, u113_31, u113_32, u113_35, u113_37, u113_40, u113_43, u113_46, zk_mk_1, zk_mk_I, zk_mk_R, zk_mk_set, zk_mk_setR, zk_mk_cpy, zk_rv_some, zk_rv_none, Option.toList_some, Option.toList_none, List.cons_append, List.nil_append, reduceIte, eq_self, Nat.reduceLT, Nat.reduceEqDiff, and_true, true_and, reduceCtorEq, zsh_11, c160, now, zb_t c, show ¬ (1 : Int32) = 0 from by decide]
      refine hs.adv ?_
      intro I2 f2 g2
      simp only [u113_0, u113_1, u113_2, u113_5, u113_6, u113_8, u113_11, u113_14, u113_15, u113_16, u113_19, u113_22, u113_23, u113_26, u113_27, u113_28, u113_31, u113_32, u113_35, u113_37, u113_40, u113_43, u113_46, zk_mk_1, zk_mk_I, zk_mk_R, zk_mk_set, zk_mk_setR, zk_mk_cpy, zk_rv_some, zk_rv_none, Option.toList_some, Option.toList_none, List.cons_append, List.nil_append, reduceIte, eq_self, Nat.reduceLT, Nat.reduceEqDiff, and_true, true_and, reduceCtorEq, zsh_11]
      have go := fun P' => hc (e + 8) 0 (zqb m B p') (10017 :: H) (O' ++ W) O0 I2 P'
      rw [eo] at go
      refine go _ (by omega) (by omega) g2 (by decide) (by decide) ri (fun w => absurd w (by decide)) (by show zrk 10017 < 4; decide) ?_
      intro I3 f3 g3
      simp only [u113_0, u113_1, u113_2, u113_5, u113_6, u113_8, u113_11, u113_14, u113_15, u113_16, u113_19, u113_22, u113_23, u113_26, u113_27, u113_28, u113_31, u113_32, u113_35, u113_37, u113_40, u113_43, u113_46, zk_mk_1, zk_mk_I, zk_mk_R, zk_mk_set, zk_mk_setR, zk_mk_cpy, zk_rv_some, zk_rv_none, Option.toList_some, Option.toList_none, List.cons_append, List.nil_append, reduceIte, eq_self, Nat.reduceLT, Nat.reduceEqDiff, and_true, true_and, reduceCtorEq, zsh_11, zrf_11_2, w1, zx_28 hq]
      rcases g3 with ⟨f, g3, g4⟩ | ⟨p2, W2, O2, g3, g4, g5, g6, g7⟩
      · refine g3.app hq ?_
        intro I4 f4 g8
        simp only [u113_0, u113_1, u113_2, u113_5, u113_6, u113_8, u113_11, u113_14, u113_15, u113_16, u113_19, u113_22, u113_23, u113_26, u113_27, u113_28, u113_31, u113_32, u113_35, u113_37, u113_40, u113_43, u113_46, zk_mk_1, zk_mk_I, zk_mk_R, zk_mk_set, zk_mk_setR, zk_mk_cpy, zk_rv_some, zk_rv_none, Option.toList_some, Option.toList_none, List.cons_append, List.nil_append, reduceIte, eq_self, Nat.reduceLT, Nat.reduceEqDiff, and_true, true_and, reduceCtorEq]
        exact zLf113 g8 (K I4 (((fx.trans f2).trans f3).trans f4) (Or.inl ⟨f, g8, (hr.then hz).trans g4⟩))
      · have r2 := g6.i2 hb ri (by decide) (by decide)
        have r3 := r2.2.1
        rw [List.length_append, List.length_cons] at r3
        have ew : (W2 ++ [10017]) ++ H = W2 ++ 10017 :: H := by rw [List.append_assoc]; rfl
        refine g3.app hq (t := 10017) (by decide) (by rw [List.length_append]; have := r2.1; omega) ?_
        intro I4 f4 g8
        simp only [u113_0, u113_1, u113_2, u113_5, u113_6, u113_8, u113_11, u113_14, u113_15, u113_16, u113_19, u113_22, u113_23, u113_26, u113_27, u113_28, u113_31, u113_32, u113_35, u113_37, u113_40, u113_43, u113_46, zk_mk_1, zk_mk_I, zk_mk_R, zk_mk_set, zk_mk_setR, zk_mk_cpy, zk_rv_some, zk_rv_none, Option.toList_some, Option.toList_none, List.cons_append, List.nil_append, reduceIte, eq_self, Nat.reduceLT, Nat.reduceEqDiff, and_true, true_and, reduceCtorEq, p1]
        rw [List.append_assoc] at g8
        refine ih p2 (i + 1) (W2 ++ [10017]) O2 I4 (by omega) (by omega) (by omega) (((fx.trans f2).trans f3).trans f4) g8 (zrk_sn (fun w hw => by have := g5 w hw; omega) (by decide)) ?_ ?_
        · rw [ew]; exact (hr.then hz).trans g6
        · rw [ew]; exact g7
    · simp only [u113_0, u113_1, u113_2, u113_5, u113_6, u113_8, u113_11, u113_14, u113_15, u113_16, u113_19, u113_22, u113_23, u113_26, u113_27, u113_28, u113_31, u113_32, u113_35, u113_37, u113_40, u113_43, u113_46, zk_mk_1, zk_mk_I, zk_mk_R, zk_mk_set, zk_mk_setR, zk_mk_cpy, zk_rv_some, zk_rv_none, Option.toList_some, Option.toList_none, List.cons_append, List.nil_append, reduceIte, eq_self, Nat.reduceLT, Nat.reduceEqDiff, and_true, true_and, reduceCtorEq, zsh_11, c160, now, zb_f c]
      exact K I1 fx (Or.inr ⟨p', W, O', hs, hpp, hW, hr, zex_3 hx c⟩)
theorem zC113 {sc : zk_X} {m q n : Nat} {B : Nat → Nat} (hq : q < 6) (hc : zCl sc m B q n 114 4 3 5 []) : zCl sc m B q n 113 2 2 6 [none] := by
  intro d md p H O O0 I P hd hn hs hm h0 hi h5 hh K
  obtain ⟨e, rfl⟩ : ∃ e, d = e + 9 := ⟨d - 9, by have := hi.2.2.2.1; omega⟩
  have hb : ∀ j, j < m → B j < 256 := fun j hj => (hs.1.2.2 j hj).2
  simp only [u113_0, u113_1, u113_2, u113_5, u113_6, u113_8, u113_11, u113_14, u113_15, u113_16, u113_19, u113_22, u113_23, u113_26, u113_27, u113_28, u113_31, u113_32, u113_35, u113_37, u113_40, u113_43, u113_46, zk_mk_1, zk_mk_I, zk_mk_R, zk_mk_set, zk_mk_setR, zk_mk_cpy, zk_rv_some, zk_rv_none, Option.toList_some, Option.toList_none, List.cons_append, List.nil_append, reduceIte, eq_self, Nat.reduceLT, Nat.reduceEqDiff, and_true, true_and, reduceCtorEq, zsh_11]
  refine hc (e + 8) md p H O O0 I _ (by omega) hn hs hm (fun _ => h0 (by decide)) hi (fun w => absurd w (by decide)) (by omega) ?_
  intro I1 f1 g1
  simp only [u113_0, u113_1, u113_2, u113_5, u113_6, u113_8, u113_11, u113_14, u113_15, u113_16, u113_19, u113_22, u113_23, u113_26, u113_27, u113_28, u113_31, u113_32, u113_35, u113_37, u113_40, u113_43, u113_46, zk_mk_1, zk_mk_I, zk_mk_R, zk_mk_set, zk_mk_setR, zk_mk_cpy, zk_rv_some, zk_rv_none, Option.toList_some, Option.toList_none, List.cons_append, List.nil_append, reduceIte, eq_self, Nat.reduceLT, Nat.reduceEqDiff, and_true, true_and, reduceCtorEq, zsh_11]
  rcases g1 with ⟨f, g1, g2⟩ | ⟨p', W, O', g1, g2, g3, g4, g5⟩
  · exact zLf113 g1 (K I1 f1 (Or.inl ⟨f, g1, g2⟩))
  · exact zLp113 (I := I) hq hc hd hn hb hs.1.2.1 hi (by omega) hh K (m - p' + 1) p' 0 W O' I1 (by omega) (by omega) g2 f1 g1 (fun w hw => by have := g3 w hw; omega) g4 g5
theorem zLf112 {sc : zk_X} {m q f e : Nat} {B : Nat → Nat} {I1 : Nat → Nat → Int32} {tg : Option Nat} {P : Option Value → zk_M → Prop} {w v : Int32} (h : zTf I1 m B q f) (K : P none (zk_mk I1 tg)) : zk_R sc (e + 9) 112 7 [some (.ref (11 : Nat)), some (.int w), some (.int v)] [] (zk_mk I1 tg) P := by
  rw [u112_7]
  have now := fun (P' : Option Value → zk_M → Prop) => h.now (sc := sc) (d := e + 8) (tg := tg) (P := P') (v := 3)
  by_cases c : (160 : Int32) ≤ v
  · simp only [u112_0, u112_1, u112_2, u112_5, u112_6, u112_8, u112_11, u112_14, u112_15, u112_16, u112_19, u112_22, u112_23, u112_26, u112_27, u112_28, u112_31, u112_32, u112_35, u112_37, u112_40, u112_43, u112_46, zk_mk_1, zk_mk_I, zk_mk_R, zk_mk_set, zk_mk_setR, zk_mk_cpy, zk_rv_some, zk_rv_none, Option.toList_some, Option.toList_none, List.cons_append, List.nil_append, reduceIte, eq_self, Nat.reduceLT, Nat.reduceEqDiff, and_true, true_and, reduceCtorEq, c]
    exact K
  · simp only [u112_0, u112_1, u112_2, u112_5, u112_6, u112_8, u112_11, u112_14, u112_15, u112_16, u112_19, u112_22, u112_23, u112_26, u112_27, u112_28, u112_31, u112_32, u112_35, u112_37, u112_40, u112_43, u112_46, zk_mk_1, zk_mk_I, zk_mk_R, zk_mk_set, zk_mk_setR, zk_mk_cpy, zk_rv_some, zk_rv_none, Option.toList_some, Option.toList_none, List.cons_append, List.nil_append, reduceIte, eq_self, Nat.reduceLT, Nat.reduceEqDiff, and_true, true_and, reduceCtorEq, zsh_11, c, now]
    exact K
theorem zLp112 {sc : zk_X} {m q n e md p : Nat} {B : Nat → Nat} {H O O0 : List Nat} {I : Nat → Nat → Int32} {P : Option Value → zk_M → Prop} (hq : q < 6) (hc : zCl sc m B q n 113 2 2 6 [none]) (hd : 10 * (6 - zon H) + 7 ≤ e + 9) (hn : m - p < n) (hb : ∀ j, j < m → B j < 256) (hm160 : m ≤ 160) (hi : zI2 m O0 md p H O) (hmd : md ≤ 2) (hh : zhdr H < 1) (K : ∀ I', zTx q I I' → zTe I' m B q 1 p (md, p, H, O) H → P none (zk_mk I' (some (28 + 4 * q)))) : ∀ (k p' i : Nat) (W O' : List Nat) (I1 : Nat → Nat → Int32), m - p' < k → i < p' → p < p' → zTx q I I1 → zTs I1 m B q p' (O' ++ W) → (∀ w, w ∈ W → 1 ≤ zrk w) → zrch m B (md, p, H, O) (2, p', W ++ H, O') → zex m B 2 p' (W ++ H) → zk_R sc (e + 9) 112 7 [some (.ref (11 : Nat)), some (.int (nI (zon H))), some (.int (nI i))] [] (zk_mk I1 (some (28 + 4 * q))) P := by
  intro k
  induction k with
  | zero => intro p' i W O' I1 h; omega
  | succ k ih =>
    intro p' i W O' I1 hk hip hpp fx hs hW hr hx
    have hp' : p' ≤ m := hs.2.1
    have c160 : ¬ (160 : Int32) ≤ nI i := nI_ge (b := 160) (by omega) (by decide)
    have p1 : (nI i + 1 : Int32) = nI (i + 1) := zn_add _ 1
    obtain ⟨w1, w2, w3, w4⟩ := zx_83 hq
    have now := fun (P' : Option Value → zk_M → Prop) => hs.now (sc := sc) (d := e + 8) (tg := some (28 + 4 * q)) (P := P') (k := 3) (v := 3) (by decide) (by decide) rfl
    rw [u112_7]
    by_cases c : zqc m B p' = 3
    · have hgt := zqb_gt (B := B) hp' (by omega)
      have hz := zst_op (W := W) (H := H) (O := O') (l := 1) (s := 10018) (md' := 0) c (by decide) (by decide) (by decide) (by decide) (by decide) (by decide) (by decide) hh hW
      have ri := (hr.then hz).i2 hb hi hmd (by decide)
      have eo : zon (10018 :: H) = zon H := by
        show zon H + zo1 10018 = zon H
        rw [show zo1 10018 = 0 from by decide]; rfl
      simp only [u112_0, u112_1, u112_2, u112_5, u112_6, u112_8, u112_11, u112_14, u112_15, u112_16, u112_19, u112_22, u112_23, u112_26, u112_27, u112_28, u112_31, u112_32, u112_35, u112_37, u112_40, u112_43, u112_46, zk_mk_1, zk_mk_I, zk_mk_R, zk_mk_set, zk_mk_setR, zk_mk_cpy, zk_rv_some, zk_rv_none, Option.toList_some, Option.toList_none, List.cons_append, List.nil_append, reduceIte, eq_self, Nat.reduceLT, Nat.reduceEqDiff, and_true, true_and, reduceCtorEq, zsh_11, c160, now, zb_t c, show ¬ (1 : Int32) = 0 from by decide]
      refine hs.adv ?_
      intro I2 f2 g2
      simp only [u112_0, u112_1, u112_2, u112_5, u112_6, u112_8, u112_11, u112_14, u112_15, u112_16, u112_19, u112_22, u112_23, u112_26, u112_27, u112_28, u112_31, u112_32, u112_35, u112_37, u112_40, u112_43, u112_46, zk_mk_1, zk_mk_I, zk_mk_R, zk_mk_set, zk_mk_setR, zk_mk_cpy, zk_rv_some, zk_rv_none, Option.toList_some, Option.toList_none, List.cons_append, List.nil_append, reduceIte, eq_self, Nat.reduceLT, Nat.reduceEqDiff, and_true, true_and, reduceCtorEq, zsh_11]
      have go := fun P' => hc (e + 8) 0 (zqb m B p') (10018 :: H) (O' ++ W) O0 I2 P'
      rw [eo] at go
      refine go _ (by omega) (by omega) g2 (by decide) (by decide) ri (fun w => absurd w (by decide)) (by show zrk 10018 < 2; decide) ?_
      intro I3 f3 g3
      simp only [u112_0, u112_1, u112_2, u112_5, u112_6, u112_8, u112_11, u112_14, u112_15, u112_16, u112_19, u112_22, u112_23, u112_26, u112_27, u112_28, u112_31, u112_32, u112_35, u112_37, u112_40, u112_43, u112_46, zk_mk_1, zk_mk_I, zk_mk_R, zk_mk_set, zk_mk_setR, zk_mk_cpy, zk_rv_some, zk_rv_none, Option.toList_some, Option.toList_none, List.cons_append, List.nil_append, reduceIte, eq_self, Nat.reduceLT, Nat.reduceEqDiff, and_true, true_and, reduceCtorEq, zsh_11, zrf_11_2, w1, zx_28 hq]
      rcases g3 with ⟨f, g3, g4⟩ | ⟨p2, W2, O2, g3, g4, g5, g6, g7⟩
      · refine g3.app hq ?_
        intro I4 f4 g8
        simp only [u112_0, u112_1, u112_2, u112_5, u112_6, u112_8, u112_11, u112_14, u112_15, u112_16, u112_19, u112_22, u112_23, u112_26, u112_27, u112_28, u112_31, u112_32, u112_35, u112_37, u112_40, u112_43, u112_46, zk_mk_1, zk_mk_I, zk_mk_R, zk_mk_set, zk_mk_setR, zk_mk_cpy, zk_rv_some, zk_rv_none, Option.toList_some, Option.toList_none, List.cons_append, List.nil_append, reduceIte, eq_self, Nat.reduceLT, Nat.reduceEqDiff, and_true, true_and, reduceCtorEq]
        exact zLf112 g8 (K I4 (((fx.trans f2).trans f3).trans f4) (Or.inl ⟨f, g8, (hr.then hz).trans g4⟩))
      · have r2 := g6.i2 hb ri (by decide) (by decide)
        have r3 := r2.2.1
        rw [List.length_append, List.length_cons] at r3
        have ew : (W2 ++ [10018]) ++ H = W2 ++ 10018 :: H := by rw [List.append_assoc]; rfl
        refine g3.app hq (t := 10018) (by decide) (by rw [List.length_append]; have := r2.1; omega) ?_
        intro I4 f4 g8
        simp only [u112_0, u112_1, u112_2, u112_5, u112_6, u112_8, u112_11, u112_14, u112_15, u112_16, u112_19, u112_22, u112_23, u112_26, u112_27, u112_28, u112_31, u112_32, u112_35, u112_37, u112_40, u112_43, u112_46, zk_mk_1, zk_mk_I, zk_mk_R, zk_mk_set, zk_mk_setR, zk_mk_cpy, zk_rv_some, zk_rv_none, Option.toList_some, Option.toList_none, List.cons_append, List.nil_append, reduceIte, eq_self, Nat.reduceLT, Nat.reduceEqDiff, and_true, true_and, reduceCtorEq, p1]
        rw [List.append_assoc] at g8
        refine ih p2 (i + 1) (W2 ++ [10018]) O2 I4 (by omega) (by omega) (by omega) (((fx.trans f2).trans f3).trans f4) g8 (zrk_sn (fun w hw => by have := g5 w hw; omega) (by decide)) ?_ ?_
        · rw [ew]; exact (hr.then hz).trans g6
        · rw [ew]; exact g7
    · simp only [u112_0, u112_1, u112_2, u112_5, u112_6, u112_8, u112_11, u112_14, u112_15, u112_16, u112_19, u112_22, u112_23, u112_26, u112_27, u112_28, u112_31, u112_32, u112_35, u112_37, u112_40, u112_43, u112_46, zk_mk_1, zk_mk_I, zk_mk_R, zk_mk_set, zk_mk_setR, zk_mk_cpy, zk_rv_some, zk_rv_none, Option.toList_some, Option.toList_none, List.cons_append, List.nil_append, reduceIte, eq_self, Nat.reduceLT, Nat.reduceEqDiff, and_true, true_and, reduceCtorEq, zsh_11, c160, now, zb_f c]
      exact K I1 fx (Or.inr ⟨p', W, O', hs, hpp, hW, hr, zex_2 hx c⟩)
theorem zC112 {sc : zk_X} {m q n : Nat} {B : Nat → Nat} (hq : q < 6) (hc : zCl sc m B q n 113 2 2 6 [none]) : zCl sc m B q n 112 1 1 7 [none] := by
  intro d md p H O O0 I P hd hn hs hm h0 hi h5 hh K
  obtain ⟨e, rfl⟩ : ∃ e, d = e + 9 := ⟨d - 9, by have := hi.2.2.2.1; omega⟩
  have hb : ∀ j, j < m → B j < 256 := fun j hj => (hs.1.2.2 j hj).2
  simp only [u112_0, u112_1, u112_2, u112_5, u112_6, u112_8, u112_11, u112_14, u112_15, u112_16, u112_19, u112_22, u112_23, u112_26, u112_27, u112_28, u112_31, u112_32, u112_35, u112_37, u112_40, u112_43, u112_46, zk_mk_1, zk_mk_I, zk_mk_R, zk_mk_set, zk_mk_setR, zk_mk_cpy, zk_rv_some, zk_rv_none, Option.toList_some, Option.toList_none, List.cons_append, List.nil_append, reduceIte, eq_self, Nat.reduceLT, Nat.reduceEqDiff, and_true, true_and, reduceCtorEq, zsh_11]
  refine hc (e + 8) md p H O O0 I _ (by omega) hn hs hm (fun _ => h0 (by decide)) hi (fun w => absurd w (by decide)) (by omega) ?_
  intro I1 f1 g1
  simp only [u112_0, u112_1, u112_2, u112_5, u112_6, u112_8, u112_11, u112_14, u112_15, u112_16, u112_19, u112_22, u112_23, u112_26, u112_27, u112_28, u112_31, u112_32, u112_35, u112_37, u112_40, u112_43, u112_46, zk_mk_1, zk_mk_I, zk_mk_R, zk_mk_set, zk_mk_setR, zk_mk_cpy, zk_rv_some, zk_rv_none, Option.toList_some, Option.toList_none, List.cons_append, List.nil_append, reduceIte, eq_self, Nat.reduceLT, Nat.reduceEqDiff, and_true, true_and, reduceCtorEq, zsh_11]
  rcases g1 with ⟨f, g1, g2⟩ | ⟨p', W, O', g1, g2, g3, g4, g5⟩
  · exact zLf112 g1 (K I1 f1 (Or.inl ⟨f, g1, g2⟩))
  · exact zLp112 (I := I) hq hc hd hn hb hs.1.2.1 hi (by omega) hh K (m - p' + 1) p' 0 W O' I1 (by omega) (by omega) g2 f1 g1 (fun w hw => by have := g3 w hw; omega) g4 g5
