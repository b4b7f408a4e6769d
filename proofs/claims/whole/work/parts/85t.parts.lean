/-! a part of a text by T -/
noncomputable def zfnl (m : Nat) (B : Nat → Nat) (S : zS) : zS := Classical.epsilon (fun S' => zrch m B S S' ∧ 3 ≤ S'.1)
theorem zfnl_eq {m : Nat} {B : Nat → Nat} {S S' : zS} (h : zrch m B S S') (h3 : 3 ≤ S'.1) : zfnl m B S = S' := by
  have g := Classical.epsilon_spec (p := fun S' => zrch m B S S' ∧ 3 ≤ S'.1) ⟨S', h, h3⟩
  exact zrch.uniq g.1 h g.2 h3
abbrev zRs := Nat × Nat × List Nat
noncomputable def zpr1 (m : Nat) (B : Nat → Nat) (i p : Nat) (O : List Nat) : zRs :=
  if zqc m B p = 6 + i then (if (zfnl m B (0, zqb m B p, [], O)).1 = 4 then (2, (zfnl m B (0, zqb m B p, [], O)).2.1, (zfnl m B (0, zqb m B p, [], O)).2.2.2) else (3, (zfnl m B (0, zqb m B p, [], O)).2.1, O)) else (3, zqa m B p, O)
noncomputable def zprt (m : Nat) (B : Nat → Nat) (i : Nat) (R : zRs) : zRs := if R.1 = 3 then R else zpr1 m B i R.2.1 R.2.2
theorem zpr_no {m i p : Nat} {B : Nat → Nat} {O : List Nat} (h : ¬ zqc m B p = 6 + i) : zpr1 m B i p O = (3, zqa m B p, O) := by
  unfold zpr1
  rw [if_neg h]
theorem zpr_f {m i p f : Nat} {B : Nat → Nat} {O : List Nat} (h : zqc m B p = 6 + i) (g : zrch m B (0, zqb m B p, [], O) (zflt f)) : zpr1 m B i p O = (3, f, O) := by
  unfold zpr1
  rw [if_pos h, zfnl_eq g (by show 3 ≤ 3; decide), if_neg (by show ¬ 3 = 4; decide)]
  rfl
theorem zpr_ok {m i p p' : Nat} {B : Nat → Nat} {O O' : List Nat} (h : zqc m B p = 6 + i) (g : zrch m B (0, zqb m B p, [], O) (4, p', [], O')) : zpr1 m B i p O = (2, p', O') := by
  unfold zpr1
  rw [if_pos h, zfnl_eq g (by show 3 ≤ 4; decide), if_pos (by show 4 = 4; rfl)]
/-- what a part leaves -/
def zGd (m : Nat) (O : List Nat) (R : zRs) : Prop := R.1 = 3 ∨ (R.1 = 2 ∧ R.2.1 ≤ m ∧ R.2.2.length ≤ R.2.1 ∧ ∃ C D, R.2.2 = O ++ C ∧ 1 ≤ D ∧ zwo C D)
theorem zI2_0 {m p : Nat} {O : List Nat} (hp : p ≤ m) (hl : O.length ≤ p) : zI2 m O 0 p [] O := ⟨hp, hl, trivial, by show 0 ≤ 5; decide, fun _ => by show 0 ≤ 3; decide, [], (List.append_nil O).symm, zwo_0⟩
theorem zGd_of {m p p' : Nat} {B : Nat → Nat} {O O' : List Nat} (hb : ∀ j, j < m → B j < 256) (hp : p ≤ m) (hl : O.length ≤ p) (g : zrch m B (0, p, [], O) (4, p', [], O')) : zGd m O (2, p', O') := by
  obtain ⟨k, hk⟩ := g
  have := zInv_rch (B := B) (O0 := O) hb k (0, p, [], O) (Or.inr (Or.inr ⟨by show 0 ≤ 2; decide, zI2_0 hp hl⟩))
  rw [hk] at this
  rcases this with w | w | w
  · exact absurd w (by show ¬ 4 = 3; decide)
  · obtain ⟨w1, w2, w3, D, w4, C, w5, w6⟩ := w
    exact Or.inr ⟨rfl, w2, w3, C, D, w5, w4, w6⟩
  · exact absurd w.1 (by show ¬ 4 ≤ 2; decide)
/-! behind a fault all passes -/
theorem zTf.one {sc : zk_X} {m q f e : Nat} {B : Nat → Nat} {I : Nat → Nat → Int32} {tg : Option Nat} {P : Option Value → zk_M → Prop} {v : Int32} (h : zTf I m B q f) (K : P none (zk_mk I tg)) : zk_R sc (e + 4) 119 0 [some (.ref (11 : Nat)), some (.int v)] [] (zk_mk I tg) P := by
  have now := fun (P' : Option Value → zk_M → Prop) (v : Int32) => h.now (sc := sc) (d := e + 3) (tg := tg) (P := P') (v := v)
  simp only [u119_0, u119_1, u119_2, u119_5, u119_8, u119_9, u119_12, u119_13, u119_16, u119_19, u119_20, u119_23, u119_26, u119_27, u119_29, u119_32, u119_35, u119_36, u119_37, u119_40, u119_41, u119_44, u119_45, u119_46, u119_47, u119_48, u119_51, u119_52, u119_55, u119_57, u119_60, u119_63, u119_64, u119_66, u119_69, u119_72, u119_73, u119_74, u119_77, u119_78, u119_81, u119_82, u119_83, u119_84, u119_85, u119_88, u119_89, u119_91, u119_94, u119_97, u119_98, u119_101, zk_mk_1, zk_mk_I, zk_mk_R, zk_mk_set, zk_mk_setR, zk_mk_cpy, zk_rv_some, zk_rv_none, Option.toList_some, Option.toList_none, List.cons_append, List.nil_append, reduceIte, eq_self, Nat.reduceLT, Nat.reduceEqDiff, and_true, true_and, reduceCtorEq, zsh_11, now]
  refine h.ref ?_
  simp only [u119_0, u119_1, u119_2, u119_5, u119_8, u119_9, u119_12, u119_13, u119_16, u119_19, u119_20, u119_23, u119_26, u119_27, u119_29, u119_32, u119_35, u119_36, u119_37, u119_40, u119_41, u119_44, u119_45, u119_46, u119_47, u119_48, u119_51, u119_52, u119_55, u119_57, u119_60, u119_63, u119_64, u119_66, u119_69, u119_72, u119_73, u119_74, u119_77, u119_78, u119_81, u119_82, u119_83, u119_84, u119_85, u119_88, u119_89, u119_91, u119_94, u119_97, u119_98, u119_101, zk_mk_1, zk_mk_I, zk_mk_R, zk_mk_set, zk_mk_setR, zk_mk_cpy, zk_rv_some, zk_rv_none, Option.toList_some, Option.toList_none, List.cons_append, List.nil_append, reduceIte, eq_self, Nat.reduceLT, Nat.reduceEqDiff, and_true, true_and, reduceCtorEq]
  exact K
theorem zTf.term {sc : zk_X} {m q f e : Nat} {B : Nat → Nat} {I : Nat → Nat → Int32} {tg : Option Nat} {P : Option Value → zk_M → Prop} {v : Int32} (h : zTf I m B q f) (K : P none (zk_mk I tg)) : zk_R sc (e + 9) 118 0 [some (.ref (11 : Nat)), some (.int v), none] [] (zk_mk I tg) P := by
  simp only [u118_0, u118_1, u118_2, u118_5, u118_6, u118_8, u118_11, u118_14, u118_15, u118_17, u118_20, u118_23, u118_24, u118_27, u118_28, u118_29, u118_32, u118_33, u118_36, u118_38, u118_41, u118_44, u118_47, zk_mk_1, zk_mk_I, zk_mk_R, zk_mk_set, zk_mk_setR, zk_mk_cpy, zk_rv_some, zk_rv_none, Option.toList_some, Option.toList_none, List.cons_append, List.nil_append, reduceIte, eq_self, Nat.reduceLT, Nat.reduceEqDiff, and_true, true_and, reduceCtorEq, zsh_11]
  refine h.one (e := e + 4) ?_
  simp only [u118_0, u118_1, u118_2, u118_5, u118_6, u118_8, u118_11, u118_14, u118_15, u118_17, u118_20, u118_23, u118_24, u118_27, u118_28, u118_29, u118_32, u118_33, u118_36, u118_38, u118_41, u118_44, u118_47, zk_mk_1, zk_mk_I, zk_mk_R, zk_mk_set, zk_mk_setR, zk_mk_cpy, zk_rv_some, zk_rv_none, Option.toList_some, Option.toList_none, List.cons_append, List.nil_append, reduceIte, eq_self, Nat.reduceLT, Nat.reduceEqDiff, and_true, true_and, reduceCtorEq, zsh_11]
  exact zLf118 h K
theorem zTf.sum {sc : zk_X} {m q f e : Nat} {B : Nat → Nat} {I : Nat → Nat → Int32} {tg : Option Nat} {P : Option Value → zk_M → Prop} {v : Int32} (h : zTf I m B q f) (K : P none (zk_mk I tg)) : zk_R sc (e + 10) 117 0 [some (.ref (11 : Nat)), some (.int v), none, none] [] (zk_mk I tg) P := by
  simp only [u117_0, u117_1, u117_2, u117_5, u117_6, u117_8, u117_11, u117_14, u117_15, u117_17, u117_20, u117_23, u117_24, u117_26, u117_29, u117_32, u117_33, u117_36, u117_38, u117_41, u117_43, u117_46, u117_48, u117_49, u117_50, u117_53, u117_54, u117_55, u117_58, u117_59, u117_62, u117_63, u117_66, u117_69, u117_72, zk_mk_1, zk_mk_I, zk_mk_R, zk_mk_set, zk_mk_setR, zk_mk_cpy, zk_rv_some, zk_rv_none, Option.toList_some, Option.toList_none, List.cons_append, List.nil_append, reduceIte, eq_self, Nat.reduceLT, Nat.reduceEqDiff, and_true, true_and, reduceCtorEq, zsh_11]
  refine h.term (e := e) ?_
  simp only [u117_0, u117_1, u117_2, u117_5, u117_6, u117_8, u117_11, u117_14, u117_15, u117_17, u117_20, u117_23, u117_24, u117_26, u117_29, u117_32, u117_33, u117_36, u117_38, u117_41, u117_43, u117_46, u117_48, u117_49, u117_50, u117_53, u117_54, u117_55, u117_58, u117_59, u117_62, u117_63, u117_66, u117_69, u117_72, zk_mk_1, zk_mk_I, zk_mk_R, zk_mk_set, zk_mk_setR, zk_mk_cpy, zk_rv_some, zk_rv_none, Option.toList_some, Option.toList_none, List.cons_append, List.nil_append, reduceIte, eq_self, Nat.reduceLT, Nat.reduceEqDiff, and_true, true_and, reduceCtorEq, zsh_11]
  exact zLf117 (e := e + 1) h K
theorem zTf.cmp {sc : zk_X} {m q f e : Nat} {B : Nat → Nat} {I : Nat → Nat → Int32} {tg : Option Nat} {P : Option Value → zk_M → Prop} {v : Int32} (h : zTf I m B q f) (K : P none (zk_mk I tg)) : zk_R sc (e + 11) 116 0 [some (.ref (11 : Nat)), some (.int v), none] [] (zk_mk I tg) P := by
  have now := fun (P' : Option Value → zk_M → Prop) (v : Int32) => h.now (sc := sc) (d := e + 10) (tg := tg) (P := P') (v := v)
  simp only [u116_0, u116_1, u116_2, u116_5, u116_6, u116_8, u116_11, u116_14, u116_15, u116_17, u116_20, u116_23, u116_24, u116_27, u116_29, u116_32, u116_34, u116_37, u116_39, u116_40, u116_41, u116_44, u116_45, u116_46, u116_49, u116_50, u116_53, u116_54, u116_57, zk_mk_1, zk_mk_I, zk_mk_R, zk_mk_set, zk_mk_setR, zk_mk_cpy, zk_rv_some, zk_rv_none, Option.toList_some, Option.toList_none, List.cons_append, List.nil_append, reduceIte, eq_self, Nat.reduceLT, Nat.reduceEqDiff, and_true, true_and, reduceCtorEq, zsh_11]
  refine h.sum (e := e) ?_
  simp only [u116_0, u116_1, u116_2, u116_5, u116_6, u116_8, u116_11, u116_14, u116_15, u116_17, u116_20, u116_23, u116_24, u116_27, u116_29, u116_32, u116_34, u116_37, u116_39, u116_40, u116_41, u116_44, u116_45, u116_46, u116_49, u116_50, u116_53, u116_54, u116_57, zk_mk_1, zk_mk_I, zk_mk_R, zk_mk_set, zk_mk_setR, zk_mk_cpy, zk_rv_some, zk_rv_none, Option.toList_some, Option.toList_none, List.cons_append, List.nil_append, reduceIte, eq_self, Nat.reduceLT, Nat.reduceEqDiff, and_true, true_and, reduceCtorEq, zsh_11, now]
  exact K
theorem zTf.den {sc : zk_X} {m q f e : Nat} {B : Nat → Nat} {I : Nat → Nat → Int32} {tg : Option Nat} {P : Option Value → zk_M → Prop} {v : Int32} (h : zTf I m B q f) (K : P none (zk_mk I tg)) : zk_R sc (e + 12) 114 0 [some (.ref (11 : Nat)), some (.int v)] [] (zk_mk I tg) P := by
  have now := fun (P' : Option Value → zk_M → Prop) (v : Int32) => h.now (sc := sc) (d := e + 11) (tg := tg) (P := P') (v := v)
  simp only [u114_0, u114_1, u114_2, u114_5, u114_8, u114_9, u114_10, u114_13, u114_16, u114_17, u114_18, u114_21, u114_22, u114_25, u114_28, u114_29, u114_32, u114_33, u114_34, u114_35, u114_36, u114_39, u114_40, u114_43, u114_45, u114_48, zk_mk_1, zk_mk_I, zk_mk_R, zk_mk_set, zk_mk_setR, zk_mk_cpy, zk_rv_some, zk_rv_none, Option.toList_some, Option.toList_none, List.cons_append, List.nil_append, reduceIte, eq_self, Nat.reduceLT, Nat.reduceEqDiff, and_true, true_and, reduceCtorEq, zsh_11, now]
  refine h.cmp (e := e) ?_
  simp only [u114_0, u114_1, u114_2, u114_5, u114_8, u114_9, u114_10, u114_13, u114_16, u114_17, u114_18, u114_21, u114_22, u114_25, u114_28, u114_29, u114_32, u114_33, u114_34, u114_35, u114_36, u114_39, u114_40, u114_43, u114_45, u114_48, zk_mk_1, zk_mk_I, zk_mk_R, zk_mk_set, zk_mk_setR, zk_mk_cpy, zk_rv_some, zk_rv_none, Option.toList_some, Option.toList_none, List.cons_append, List.nil_append, reduceIte, eq_self, Nat.reduceLT, Nat.reduceEqDiff, and_true, true_and, reduceCtorEq, zsh_11]
  exact K
theorem zTf.both {sc : zk_X} {m q f e : Nat} {B : Nat → Nat} {I : Nat → Nat → Int32} {tg : Option Nat} {P : Option Value → zk_M → Prop} {v : Int32} (h : zTf I m B q f) (K : P none (zk_mk I tg)) : zk_R sc (e + 13) 113 0 [some (.ref (11 : Nat)), some (.int v), none] [] (zk_mk I tg) P := by
  simp only [u113_0, u113_1, u113_2, u113_5, u113_6, u113_8, u113_11, u113_14, u113_15, u113_16, u113_19, u113_22, u113_23, u113_26, u113_27, u113_28, u113_31, u113_32, u113_35, u113_37, u113_40, u113_43, u113_46, zk_mk_1, zk_mk_I, zk_mk_R, zk_mk_set, zk_mk_setR, zk_mk_cpy, zk_rv_some, zk_rv_none, Option.toList_some, Option.toList_none, List.cons_append, List.nil_append, reduceIte, eq_self, Nat.reduceLT, Nat.reduceEqDiff, and_true, true_and, reduceCtorEq, zsh_11]
  refine h.den (e := e) ?_
  simp only [u113_0, u113_1, u113_2, u113_5, u113_6, u113_8, u113_11, u113_14, u113_15, u113_16, u113_19, u113_22, u113_23, u113_26, u113_27, u113_28, u113_31, u113_32, u113_35, u113_37, u113_40, u113_43, u113_46, zk_mk_1, zk_mk_I, zk_mk_R, zk_mk_set, zk_mk_setR, zk_mk_cpy, zk_rv_some, zk_rv_none, Option.toList_some, Option.toList_none, List.cons_append, List.nil_append, reduceIte, eq_self, Nat.reduceLT, Nat.reduceEqDiff, and_true, true_and, reduceCtorEq, zsh_11]
  exact zLf113 (e := e + 4) h K
theorem zTf.eith {sc : zk_X} {m q f e : Nat} {B : Nat → Nat} {I : Nat → Nat → Int32} {tg : Option Nat} {P : Option Value → zk_M → Prop} {v : Int32} (h : zTf I m B q f) (K : P none (zk_mk I tg)) : zk_R sc (e + 14) 112 0 [some (.ref (11 : Nat)), some (.int v), none] [] (zk_mk I tg) P := by
  simp only [u112_0, u112_1, u112_2, u112_5, u112_6, u112_8, u112_11, u112_14, u112_15, u112_16, u112_19, u112_22, u112_23, u112_26, u112_27, u112_28, u112_31, u112_32, u112_35, u112_37, u112_40, u112_43, u112_46, zk_mk_1, zk_mk_I, zk_mk_R, zk_mk_set, zk_mk_setR, zk_mk_cpy, zk_rv_some, zk_rv_none, Option.toList_some, Option.toList_none, List.cons_append, List.nil_append, reduceIte, eq_self, Nat.reduceLT, Nat.reduceEqDiff, and_true, true_and, reduceCtorEq, zsh_11]
  refine h.both (e := e) ?_
  simp only [u112_0, u112_1, u112_2, u112_5, u112_6, u112_8, u112_11, u112_14, u112_15, u112_16, u112_19, u112_22, u112_23, u112_26, u112_27, u112_28, u112_31, u112_32, u112_35, u112_37, u112_40, u112_43, u112_46, zk_mk_1, zk_mk_I, zk_mk_R, zk_mk_set, zk_mk_setR, zk_mk_cpy, zk_rv_some, zk_rv_none, Option.toList_some, Option.toList_none, List.cons_append, List.nil_append, reduceIte, eq_self, Nat.reduceLT, Nat.reduceEqDiff, and_true, true_and, reduceCtorEq, zsh_11]
  exact zLf112 (e := e + 5) h K
/-! a part -/
def zTR (I : Nat → Nat → Int32) (m : Nat) (B : Nat → Nat) (q : Nat) (R : zRs) : Prop := (R.1 = 2 ∧ zTs I m B q R.2.1 R.2.2 ∧ R.2.2.length ≤ R.2.1) ∨ (R.1 = 3 ∧ zTf I m B q R.2.1)
def zTy (q : Nat) (I I' : Nat → Nat → Int32) : Prop := ∀ k, k ≠ 11 → k ≠ 28 + 4 * q → k ≠ 29 + 4 * q → k ≠ 30 + 4 * q → I' k = I k
theorem zTx.y {q : Nat} {I I' : Nat → Nat → Int32} (h : zTx q I I') : zTy q I I' := fun k a b c _ => h k a b c
theorem zTy.trans {q : Nat} {I I' I'' : Nat → Nat → Int32} (h : zTy q I I') (g : zTy q I' I'') : zTy q I I'' := fun k a b c e => by rw [g k a b c e, h k a b c e]
theorem zTs.cg {I I' : Nat → Nat → Int32} {m q p : Nat} {B : Nat → Nat} {O : List Nat} (h : zTs I m B q p O) (e : ∀ k, k = 11 ∨ k = 12 ∨ k = 28 + 4 * q ∨ k = 29 + 4 * q → I' k = I k) : zTs I' m B q p O := by
  unfold zTs zj_tp at *
  rw [e 11 (by omega), e 12 (by omega), e (28 + 4 * q) (by omega), e (29 + 4 * q) (by omega)]
  exact h
theorem zTf.cg {I I' : Nat → Nat → Int32} {m q f : Nat} {B : Nat → Nat} (h : zTf I m B q f) (e : ∀ k, k = 11 ∨ k = 12 ∨ k = 28 + 4 * q ∨ k = 29 + 4 * q → I' k = I k) : zTf I' m B q f := by
  unfold zTf zj_tp at *
  rw [e 11 (by omega), e 12 (by omega), e (28 + 4 * q) (by omega)]
  exact h
theorem zTR.cg {I I' : Nat → Nat → Int32} {m q : Nat} {B : Nat → Nat} {R : zRs} (h : zTR I m B q R) (e : ∀ k, k = 11 ∨ k = 12 ∨ k = 28 + 4 * q ∨ k = 29 + 4 * q → I' k = I k) : zTR I' m B q R := by
  rcases h with ⟨a, b, c⟩ | ⟨a, b⟩
  · exact Or.inl ⟨a, b.cg e, c⟩
  · exact Or.inr ⟨a, b.cg e⟩
theorem zTR.size {I : Nat → Nat → Int32} {m q : Nat} {B : Nat → Nat} {R : zRs} (h : zTR I m B q R) : ∃ k, k ≤ 160 ∧ I (28 + 4 * q) 3 = nI k ∧ (R.1 = 2 → k = R.2.2.length) := by
  rcases h with ⟨a, b, c⟩ | ⟨a, b⟩
  · have := b.1.2.1
    have := b.2.1
    exact ⟨_, by omega, b.2.2.2.2.2.2.2.1, fun _ => rfl⟩
  · obtain ⟨k, h1, h2⟩ := b.2.2.2
    exact ⟨k, h1, h2, fun w => by omega⟩
theorem zTprt {sc : zk_X} {m q i d : Nat} {B : Nat → Nat} {R : zRs} {I : Nat → Nat → Int32} {P : Option Value → zk_M → Prop} (hq : q < 6) (hi : i < 3) (hb : ∀ j, j < m → B j < 256) (hR : zTR I m B q R) (K : ∀ I', zTy q I I' → (∀ j, j ≠ i → I' (30 + 4 * q) j = I (30 + 4 * q) j) → zTR I' m B q (zprt m B i R) → zGd m R.2.2 (zprt m B i R) → ((zprt m B i R).1 = 2 → I' (30 + 4 * q) i = nI (zprt m B i R).2.2.length) → zk_R sc (d + 80) 102 29 [some (.ref (11 : Nat)), some (.ref (28 + 4 * q)), some (.int (nI (i + 1)))] [] (zk_mk I' (some (28 + 4 * q))) P) : zk_R sc (d + 80) 102 29 [some (.ref (11 : Nat)), some (.ref (28 + 4 * q)), some (.int (nI i))] [] (zk_mk I (some (28 + 4 * q))) P := by
  have c3 : ¬ (3 : Int32) ≤ nI i := nI_ge (b := 3) hi (by decide)
  have p6 : (6 : Int32) + nI i = nI (6 + i) := zn_add 6 i
  have p1 : (nI i + 1 : Int32) = nI (i + 1) := zn_add _ 1
  obtain ⟨w1, w2, w3, w4⟩ := zx_83 hq
  have y1 : zk_inb (nI i) 3 = true := by rw [zn_in (by omega)]; omega
  have y2 : (nI i).toNatClampNeg = i := zn_cl (by omega)
  have tail : ∀ I2, zTx q I I2 → zTR I2 m B q (zprt m B i R) → zGd m R.2.2 (zprt m B i R) → zk_R sc (d + 80) 102 53 [some (.ref (11 : Nat)), some (.ref (28 + 4 * q)), some (.int (nI i))] [] (zk_mk I2 (some (28 + 4 * q))) P := by
    intro I2 f2 g2 g3
    obtain ⟨k, k1, k2, k3⟩ := g2.size
    rw [u102_53]
    simp only [u102_0, u102_1, u102_2, u102_5, u102_6, u102_9, u102_10, u102_13, u102_14, u102_15, u102_18, u102_19, u102_20, u102_23, u102_24, u102_27, u102_28, u102_30, u102_31, u102_34, u102_35, u102_37, u102_38, u102_39, u102_42, u102_43, u102_44, u102_47, u102_48, u102_50, u102_54, u102_57, u102_58, u102_61, u102_64, u102_67, u102_68, u102_69, u102_72, u102_73, u102_76, u123_0, u123_1, u123_4, u123_5, u123_6, u123_9, u123_10, zk_mk_1, zk_mk_I, zk_mk_R, zk_mk_set, zk_mk_setR, zk_mk_cpy, zk_rv_some, zk_rv_none, Option.toList_some, Option.toList_none, List.cons_append, List.nil_append, reduceIte, eq_self, Nat.reduceLT, Nat.reduceEqDiff, and_true, true_and, reduceCtorEq, zsh_11, zrf_11_2, w1, w3, zx_28 hq, zx_30 hq, zx_r1 hq, k2, y1, y2, p1]
    refine K _ (fun k a b c e => by rw [zk_up2_r e]; exact f2 k a b c) (fun j hj => by rw [zk_up2_j hj, f2 (30 + 4 * q) (by omega) (by omega) (by omega)]) (g2.cg (fun k hk => by rw [zk_up2_r (by omega)])) g3 (fun w => by rw [zk_up2_s, k3 w])
  rw [u102_29]
  rcases hR with ⟨r2, hs, hl⟩ | ⟨r3, hf⟩
  · have er : zprt m B i R = zpr1 m B i R.2.1 R.2.2 := if_neg (by omega)
    rw [er] at tail
    generalize R.2.1 = p at *
    generalize R.2.2 = O at *
    have hp := hs.2.1
    have hm160 := hs.1.2.1
    simp only [u102_0, u102_1, u102_2, u102_5, u102_6, u102_9, u102_10, u102_13, u102_14, u102_15, u102_18, u102_19, u102_20, u102_23, u102_24, u102_27, u102_28, u102_30, u102_31, u102_34, u102_35, u102_37, u102_38, u102_39, u102_42, u102_43, u102_44, u102_47, u102_48, u102_50, u102_54, u102_57, u102_58, u102_61, u102_64, u102_67, u102_68, u102_69, u102_72, u102_73, u102_76, zk_mk_1, zk_mk_I, zk_mk_R, zk_mk_set, zk_mk_setR, zk_mk_cpy, zk_rv_some, zk_rv_none, Option.toList_some, Option.toList_none, List.cons_append, List.nil_append, reduceIte, eq_self, Nat.reduceLT, Nat.reduceEqDiff, and_true, true_and, reduceCtorEq, zsh_11, c3, p6]
    refine hs.exp (k := 6 + i) (by omega) (by omega) (by omega) rfl ?_
    intro I1 f1 g1
    simp only [u102_0, u102_1, u102_2, u102_5, u102_6, u102_9, u102_10, u102_13, u102_14, u102_15, u102_18, u102_19, u102_20, u102_23, u102_24, u102_27, u102_28, u102_30, u102_31, u102_34, u102_35, u102_37, u102_38, u102_39, u102_42, u102_43, u102_44, u102_47, u102_48, u102_50, u102_54, u102_57, u102_58, u102_61, u102_64, u102_67, u102_68, u102_69, u102_72, u102_73, u102_76, zk_mk_1, zk_mk_I, zk_mk_R, zk_mk_set, zk_mk_setR, zk_mk_cpy, zk_rv_some, zk_rv_none, Option.toList_some, Option.toList_none, List.cons_append, List.nil_append, reduceIte, eq_self, Nat.reduceLT, Nat.reduceEqDiff, and_true, true_and, reduceCtorEq, zsh_11]
    rcases g1 with ⟨c, g1⟩ | ⟨c, g1⟩
    · have hgt := zqb_gt (B := B) hp (by omega)
      have i2 := zI2_0 (m := m) (p := zqb m B p) (O := O) hgt.2.1 (by omega)
      refine ((zC_all (sc := sc) (m := m) (B := B) hq (m + 1)).2.2) (d + 79) 0 (zqb m B p) [] O O I1 _ (by show 10 * (6 - 0) + 7 ≤ d + 79; omega) (by omega) g1 (by decide) (fun _ => rfl) i2 (fun w => absurd w (by decide)) (by show 0 < 1; decide) ?_
      intro I2 f2 g2
      simp only [u102_0, u102_1, u102_2, u102_5, u102_6, u102_9, u102_10, u102_13, u102_14, u102_15, u102_18, u102_19, u102_20, u102_23, u102_24, u102_27, u102_28, u102_30, u102_31, u102_34, u102_35, u102_37, u102_38, u102_39, u102_42, u102_43, u102_44, u102_47, u102_48, u102_50, u102_54, u102_57, u102_58, u102_61, u102_64, u102_67, u102_68, u102_69, u102_72, u102_73, u102_76, zk_mk_1, zk_mk_I, zk_mk_R, zk_mk_set, zk_mk_setR, zk_mk_cpy, zk_rv_some, zk_rv_none, Option.toList_some, Option.toList_none, List.cons_append, List.nil_append, reduceIte, eq_self, Nat.reduceLT, Nat.reduceEqDiff, and_true, true_and, reduceCtorEq, zsh_11]
      rcases g2 with ⟨f, g2, g3⟩ | ⟨p', W, O', g2, g3, g4, g5, g6⟩
      · refine g2.exp ?_
        simp only [u102_0, u102_1, u102_2, u102_5, u102_6, u102_9, u102_10, u102_13, u102_14, u102_15, u102_18, u102_19, u102_20, u102_23, u102_24, u102_27, u102_28, u102_30, u102_31, u102_34, u102_35, u102_37, u102_38, u102_39, u102_42, u102_43, u102_44, u102_47, u102_48, u102_50, u102_54, u102_57, u102_58, u102_61, u102_64, u102_67, u102_68, u102_69, u102_72, u102_73, u102_76, zk_mk_1, zk_mk_I, zk_mk_R, zk_mk_set, zk_mk_setR, zk_mk_cpy, zk_rv_some, zk_rv_none, Option.toList_some, Option.toList_none, List.cons_append, List.nil_append, reduceIte, eq_self, Nat.reduceLT, Nat.reduceEqDiff, and_true, true_and, reduceCtorEq, zsh_11]
        exact tail I2 (f1.trans f2) (Or.inr (by rw [zpr_f c g3]; exact ⟨rfl, g2⟩)) (Or.inl (by rw [zpr_f c g3]))
      · have r2' := g5.i2 hb i2 (by decide) (by decide)
        have r3' := r2'.2.1
        rw [List.append_nil] at r3' g5
        have hp2 := r2'.1
        have zu := zun_app (l := 1) (H := []) (by show 0 < 1; decide) (by decide) W O' g4
        rw [List.append_nil] at zu g6
        refine g2.exp (k := 59) (v := 59) (by rw [List.length_append]; omega) (by decide) (by decide) rfl ?_
        intro I3 f3 g7
        simp only [u102_0, u102_1, u102_2, u102_5, u102_6, u102_9, u102_10, u102_13, u102_14, u102_15, u102_18, u102_19, u102_20, u102_23, u102_24, u102_27, u102_28, u102_30, u102_31, u102_34, u102_35, u102_37, u102_38, u102_39, u102_42, u102_43, u102_44, u102_47, u102_48, u102_50, u102_54, u102_57, u102_58, u102_61, u102_64, u102_67, u102_68, u102_69, u102_72, u102_73, u102_76, zk_mk_1, zk_mk_I, zk_mk_R, zk_mk_set, zk_mk_setR, zk_mk_cpy, zk_rv_some, zk_rv_none, Option.toList_some, Option.toList_none, List.cons_append, List.nil_append, reduceIte, eq_self, Nat.reduceLT, Nat.reduceEqDiff, and_true, true_and, reduceCtorEq, zsh_11]
        rcases g7 with ⟨c7, g7⟩ | ⟨c7, g7⟩
        · have hgt2 := zqb_gt (B := B) hp2 (by omega)
          have hr := g5.then (zst_end c7 (by rw [zu]))
          rw [zu] at hr
          have hz := zpr_ok c hr
          exact tail I3 ((f1.trans f2).trans f3) (Or.inl (by rw [hz]; exact ⟨rfl, g7, by show (O' ++ W).length ≤ zqb m B p'; rw [List.length_append]; omega⟩)) (by rw [hz]; exact zGd_of hb hgt.2.1 (by omega) hr)
        · have hr : zrch m B (0, zqb m B p, [], O) (zflt (zqa m B p')) := by
            refine g5.then ?_
            by_cases c8 : zqc m B p' = 41
            · rw [zst_cls c8, zu]; rfl
            · exact zex_flt g6 c7 c8
          exact tail I3 ((f1.trans f2).trans f3) (Or.inr (by rw [zpr_f c hr]; exact ⟨rfl, g7⟩)) (Or.inl (by rw [zpr_f c hr]))
    · refine g1.eith (e := d + 65) ?_
      simp only [u102_0, u102_1, u102_2, u102_5, u102_6, u102_9, u102_10, u102_13, u102_14, u102_15, u102_18, u102_19, u102_20, u102_23, u102_24, u102_27, u102_28, u102_30, u102_31, u102_34, u102_35, u102_37, u102_38, u102_39, u102_42, u102_43, u102_44, u102_47, u102_48, u102_50, u102_54, u102_57, u102_58, u102_61, u102_64, u102_67, u102_68, u102_69, u102_72, u102_73, u102_76, zk_mk_1, zk_mk_I, zk_mk_R, zk_mk_set, zk_mk_setR, zk_mk_cpy, zk_rv_some, zk_rv_none, Option.toList_some, Option.toList_none, List.cons_append, List.nil_append, reduceIte, eq_self, Nat.reduceLT, Nat.reduceEqDiff, and_true, true_and, reduceCtorEq, zsh_11]
      refine g1.exp ?_
      simp only [u102_0, u102_1, u102_2, u102_5, u102_6, u102_9, u102_10, u102_13, u102_14, u102_15, u102_18, u102_19, u102_20, u102_23, u102_24, u102_27, u102_28, u102_30, u102_31, u102_34, u102_35, u102_37, u102_38, u102_39, u102_42, u102_43, u102_44, u102_47, u102_48, u102_50, u102_54, u102_57, u102_58, u102_61, u102_64, u102_67, u102_68, u102_69, u102_72, u102_73, u102_76, zk_mk_1, zk_mk_I, zk_mk_R, zk_mk_set, zk_mk_setR, zk_mk_cpy, zk_rv_some, zk_rv_none, Option.toList_some, Option.toList_none, List.cons_append, List.nil_append, reduceIte, eq_self, Nat.reduceLT, Nat.reduceEqDiff, and_true, true_and, reduceCtorEq, zsh_11]
      exact tail I1 f1 (Or.inr (by rw [zpr_no c]; exact ⟨rfl, g1⟩)) (Or.inl (by rw [zpr_no c]))
  · have er : zprt m B i R = R := if_pos r3
    rw [er] at tail
    simp only [u102_0, u102_1, u102_2, u102_5, u102_6, u102_9, u102_10, u102_13, u102_14, u102_15, u102_18, u102_19, u102_20, u102_23, u102_24, u102_27, u102_28, u102_30, u102_31, u102_34, u102_35, u102_37, u102_38, u102_39, u102_42, u102_43, u102_44, u102_47, u102_48, u102_50, u102_54, u102_57, u102_58, u102_61, u102_64, u102_67, u102_68, u102_69, u102_72, u102_73, u102_76, zk_mk_1, zk_mk_I, zk_mk_R, zk_mk_set, zk_mk_setR, zk_mk_cpy, zk_rv_some, zk_rv_none, Option.toList_some, Option.toList_none, List.cons_append, List.nil_append, reduceIte, eq_self, Nat.reduceLT, Nat.reduceEqDiff, and_true, true_and, reduceCtorEq, zsh_11, c3, p6]
    refine hf.exp ?_
    simp only [u102_0, u102_1, u102_2, u102_5, u102_6, u102_9, u102_10, u102_13, u102_14, u102_15, u102_18, u102_19, u102_20, u102_23, u102_24, u102_27, u102_28, u102_30, u102_31, u102_34, u102_35, u102_37, u102_38, u102_39, u102_42, u102_43, u102_44, u102_47, u102_48, u102_50, u102_54, u102_57, u102_58, u102_61, u102_64, u102_67, u102_68, u102_69, u102_72, u102_73, u102_76, zk_mk_1, zk_mk_I, zk_mk_R, zk_mk_set, zk_mk_setR, zk_mk_cpy, zk_rv_some, zk_rv_none, Option.toList_some, Option.toList_none, List.cons_append, List.nil_append, reduceIte, eq_self, Nat.reduceLT, Nat.reduceEqDiff, and_true, true_and, reduceCtorEq, zsh_11]
    refine hf.eith (e := d + 65) ?_
    simp only [u102_0, u102_1, u102_2, u102_5, u102_6, u102_9, u102_10, u102_13, u102_14, u102_15, u102_18, u102_19, u102_20, u102_23, u102_24, u102_27, u102_28, u102_30, u102_31, u102_34, u102_35, u102_37, u102_38, u102_39, u102_42, u102_43, u102_44, u102_47, u102_48, u102_50, u102_54, u102_57, u102_58, u102_61, u102_64, u102_67, u102_68, u102_69, u102_72, u102_73, u102_76, zk_mk_1, zk_mk_I, zk_mk_R, zk_mk_set, zk_mk_setR, zk_mk_cpy, zk_rv_some, zk_rv_none, Option.toList_some, Option.toList_none, List.cons_append, List.nil_append, reduceIte, eq_self, Nat.reduceLT, Nat.reduceEqDiff, and_true, true_and, reduceCtorEq, zsh_11]
    refine hf.exp ?_
    simp only [u102_0, u102_1, u102_2, u102_5, u102_6, u102_9, u102_10, u102_13, u102_14, u102_15, u102_18, u102_19, u102_20, u102_23, u102_24, u102_27, u102_28, u102_30, u102_31, u102_34, u102_35, u102_37, u102_38, u102_39, u102_42, u102_43, u102_44, u102_47, u102_48, u102_50, u102_54, u102_57, u102_58, u102_61, u102_64, u102_67, u102_68, u102_69, u102_72, u102_73, u102_76, zk_mk_1, zk_mk_I, zk_mk_R, zk_mk_set, zk_mk_setR, zk_mk_cpy, zk_rv_some, zk_rv_none, Option.toList_some, Option.toList_none, List.cons_append, List.nil_append, reduceIte, eq_self, Nat.reduceLT, Nat.reduceEqDiff, and_true, true_and, reduceCtorEq, zsh_11]
    exact tail I (zTx.refl q I) (Or.inr ⟨r3, hf⟩) (Or.inl r3)
