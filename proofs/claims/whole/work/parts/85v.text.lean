/-! a text by T -/
noncomputable def zfi (m : Nat) (B : Nat → Nat) (R : zRs) : zRs := if R.1 = 3 then R else if zqc m B R.2.1 = 0 then R else (3, zqa m B R.2.1, R.2.2)
noncomputable def zX1 (m : Nat) (B : Nat → Nat) : zRs := zprt m B 0 (2, 0, [])
noncomputable def zX2 (m : Nat) (B : Nat → Nat) : zRs := zprt m B 1 (zX1 m B)
noncomputable def zX3 (m : Nat) (B : Nat → Nat) : zRs := zprt m B 2 (zX2 m B)
noncomputable def zX4 (m : Nat) (B : Nat → Nat) : zRs := zfi m B (zX3 m B)
theorem zprt_2 {m i : Nat} {B : Nat → Nat} {R : zRs} (h : (zprt m B i R).1 = 2) : ¬ R.1 = 3 := by
  intro w
  unfold zprt at h
  rw [if_pos w] at h
  omega
theorem zprt_3 {m i : Nat} {B : Nat → Nat} {R : zRs} (h : R.1 = 3) : zprt m B i R = R := if_pos h
theorem zfi_2 {m : Nat} {B : Nat → Nat} {R : zRs} (h : (zfi m B R).1 = 2) : zfi m B R = R := by
  unfold zfi at *
  by_cases c : R.1 = 3
  · rw [if_pos c]
  · rw [if_neg c] at h ⊢
    by_cases c' : zqc m B R.2.1 = 0
    · rw [if_pos c']
    · rw [if_neg c'] at h
      exact absurd h (by show ¬ 3 = 2; decide)
def zGs (m : Nat) (B : Nat → Nat) : Prop := zGd m [] (zX1 m B) ∧ zGd m (zX1 m B).2.2 (zX2 m B) ∧ zGd m (zX2 m B).2.2 (zX3 m B)
theorem zGd.r {m : Nat} {O : List Nat} {R : zRs} (h : zGd m O R) : R.1 = 3 ∨ R.1 = 2 := by
  rcases h with h | h
  · exact Or.inl h
  · exact Or.inr h.1
def zEn (I : Nat → Nat → Int32) (q : Nat) (m : Nat) (B : Nat → Nat) : Prop := (∀ k, k < (zX3 m B).2.2.length → I (29 + 4 * q) k = zt_c ((zX3 m B).2.2.getD k 0)) ∧ I (30 + 4 * q) 0 = nI (zX1 m B).2.2.length ∧ I (30 + 4 * q) 1 = nI (zX2 m B).2.2.length ∧ I (30 + 4 * q) 2 = nI (zX3 m B).2.2.length
noncomputable def zA_rd (m : Nat) (B : Nat → Nat) : Int32 := if (zX4 m B).1 = 3 then nI (zX4 m B).2.1 else -1
theorem s102 {sc : zk_X} {m q d : Nat} {B : Nat → Nat} {I : Nat → Nat → Int32} {tg : Option Nat} {P : Option Value → zk_M → Prop} (hq : q < 6) (htp : zj_tp I m B) (K : ∀ I', zTy q I I' → zGs m B → ((zX4 m B).1 = 2 → zEn I' q m B) → ((zX4 m B).1 = 2 ∨ ((zX4 m B).1 = 3 ∧ (zX4 m B).2.1 ≤ 160)) → P (some (.int (zA_rd m B))) (zk_mk I' (some (28 + 4 * q)))) : zk_R sc (d + 80) 102 0 [some (.ref (11 : Nat)), some (.ref (28 + 4 * q)), none] [] (zk_mk I tg) P := by
  have hb : ∀ j, j < m → B j < 256 := fun j hj => (htp.2.2 j hj).2
  obtain ⟨w1, w2, w3, w4⟩ := zx_83 hq
  have ne : 28 + 4 * q ≠ 11 := by omega
  have fin : ∀ I3, zTy q I I3 → zGs m B → zTR I3 m B q (zX3 m B) → ((zX4 m B).1 = 2 → I3 (30 + 4 * q) 0 = nI (zX1 m B).2.2.length ∧ I3 (30 + 4 * q) 1 = nI (zX2 m B).2.2.length ∧ I3 (30 + 4 * q) 2 = nI (zX3 m B).2.2.length) → zk_R sc (d + 80) 102 29 [some (.ref (11 : Nat)), some (.ref (28 + 4 * q)), some (.int (nI 3))] [] (zk_mk I3 (some (28 + 4 * q))) P := by
    intro I3 f g hR he
    have c3 : (3 : Int32) ≤ nI 3 := by decide
    rw [u102_29]
    simp only [u102_0, u102_1, u102_2, u102_5, u102_6, u102_9, u102_10, u102_13, u102_14, u102_15, u102_18, u102_19, u102_20, u102_23, u102_24, u102_27, u102_28, u102_30, u102_31, u102_34, u102_35, u102_37, u102_38, u102_39, u102_42, u102_43, u102_44, u102_47, u102_48, u102_50, u102_53, u102_54, u102_57, u102_58, u102_61, u102_64, u102_67, u102_68, u102_69, u102_72, u102_73, u102_76, zk_mk_1, zk_mk_I, zk_mk_R, zk_mk_set, zk_mk_setR, zk_mk_cpy, zk_rv_some, zk_rv_none, Option.toList_some, Option.toList_none, List.cons_append, List.nil_append, reduceIte, eq_self, Nat.reduceLT, Nat.reduceEqDiff, and_true, true_and, reduceCtorEq, zsh_11, c3]
    rcases hR with ⟨r2, hs, hl⟩ | ⟨r3, hf⟩
    · have hp := hs.2.1
      have hm160 := hs.1.2.1
      refine hs.exp (k := 0) (v := 0) (by omega) (by decide) (by decide) rfl ?_
      intro I4 f4 g4
      simp only [u102_0, u102_1, u102_2, u102_5, u102_6, u102_9, u102_10, u102_13, u102_14, u102_15, u102_18, u102_19, u102_20, u102_23, u102_24, u102_27, u102_28, u102_30, u102_31, u102_34, u102_35, u102_37, u102_38, u102_39, u102_42, u102_43, u102_44, u102_47, u102_48, u102_50, u102_53, u102_54, u102_57, u102_58, u102_61, u102_64, u102_67, u102_68, u102_69, u102_72, u102_73, u102_76, zk_mk_1, zk_mk_I, zk_mk_R, zk_mk_set, zk_mk_setR, zk_mk_cpy, zk_rv_some, zk_rv_none, Option.toList_some, Option.toList_none, List.cons_append, List.nil_append, reduceIte, eq_self, Nat.reduceLT, Nat.reduceEqDiff, and_true, true_and, reduceCtorEq, zsh_11]
      have e4 : zX4 m B = if zqc m B (zX3 m B).2.1 = 0 then zX3 m B else (3, zqa m B (zX3 m B).2.1, (zX3 m B).2.2) := by
        unfold zX4 zfi
        rw [if_neg (by omega)]
      have f30 : I4 (30 + 4 * q) = I3 (30 + 4 * q) := f4 _ (by omega) (by omega) (by omega)
      rcases g4 with ⟨c, g4⟩ | ⟨c, g4⟩
      · rw [if_pos c] at e4
        have ea : zA_rd m B = -1 := by unfold zA_rd; rw [e4, if_neg (by omega)]
        have := K I4 (f.trans f4.y) g (fun w => ⟨g4.2.2.2.2.2.2.2.2, by rw [f30]; exact he w⟩) (Or.inl (by rw [e4]; exact r2))
        rw [ea] at this
        rw [g4.2.2.2.2.2.2.1]
        exact this
      · rw [if_neg c] at e4
        have ea : zA_rd m B = nI (zqa m B (zX3 m B).2.1) := by unfold zA_rd; rw [e4, if_pos rfl]
        have := K I4 (f.trans f4.y) g (fun w => absurd w (by rw [e4]; show ¬ 3 = 2; decide)) (Or.inr (by rw [e4]; exact ⟨rfl, g4.2.2.1⟩))
        rw [ea] at this
        rw [g4.2.1]
        exact this
    · refine hf.exp ?_
      simp only [u102_0, u102_1, u102_2, u102_5, u102_6, u102_9, u102_10, u102_13, u102_14, u102_15, u102_18, u102_19, u102_20, u102_23, u102_24, u102_27, u102_28, u102_30, u102_31, u102_34, u102_35, u102_37, u102_38, u102_39, u102_42, u102_43, u102_44, u102_47, u102_48, u102_50, u102_53, u102_54, u102_57, u102_58, u102_61, u102_64, u102_67, u102_68, u102_69, u102_72, u102_73, u102_76, zk_mk_1, zk_mk_I, zk_mk_R, zk_mk_set, zk_mk_setR, zk_mk_cpy, zk_rv_some, zk_rv_none, Option.toList_some, Option.toList_none, List.cons_append, List.nil_append, reduceIte, eq_self, Nat.reduceLT, Nat.reduceEqDiff, and_true, true_and, reduceCtorEq, zsh_11]
      have e4 : zX4 m B = zX3 m B := if_pos r3
      have ea : zA_rd m B = nI (zX3 m B).2.1 := by unfold zA_rd; rw [e4, if_pos r3]
      have := K I3 f g (fun w => absurd w (by rw [e4]; omega)) (Or.inr (by rw [e4]; exact ⟨r3, hf.2.2.1⟩))
      rw [ea] at this
      rw [hf.2.1]
      exact this
  simp only [u102_0, u102_1, u102_2, u102_5, u102_6, u102_9, u102_10, u102_13, u102_14, u102_15, u102_18, u102_19, u102_20, u102_23, u102_24, u102_27, u102_28, u102_30, u102_31, u102_34, u102_35, u102_37, u102_38, u102_39, u102_42, u102_43, u102_44, u102_47, u102_48, u102_50, u102_53, u102_54, u102_57, u102_58, u102_61, u102_64, u102_67, u102_68, u102_69, u102_72, u102_73, u102_76, zk_mk_1, zk_mk_I, zk_mk_R, zk_mk_set, zk_mk_setR, zk_mk_cpy, zk_rv_some, zk_rv_none, Option.toList_some, Option.toList_none, List.cons_append, List.nil_append, reduceIte, eq_self, Nat.reduceLT, Nat.reduceEqDiff, and_true, true_and, reduceCtorEq, zsh_11, w1, zx_28 hq, zrf_11_2]
  refine s103 (B := B) (m := m) (p := 0) ⟨by rw [zk_up2_j (by decide), zk_up2_j (by decide), zk_up2_k ne.symm]; exact htp.1, htp.2.1, fun j hj => by rw [zk_up2_k (by decide), zk_up2_k (by decide), zk_up2_k (by omega)]; exact htp.2.2 j hj⟩ (by rw [zk_up2_s]; rfl) (Nat.zero_le _) ?_
  intro I1 f1 f2 g3 g4 g5 g6
  simp only [u102_0, u102_1, u102_2, u102_5, u102_6, u102_9, u102_10, u102_13, u102_14, u102_15, u102_18, u102_19, u102_20, u102_23, u102_24, u102_27, u102_28, u102_30, u102_31, u102_34, u102_35, u102_37, u102_38, u102_39, u102_42, u102_43, u102_44, u102_47, u102_48, u102_50, u102_53, u102_54, u102_57, u102_58, u102_61, u102_64, u102_67, u102_68, u102_69, u102_72, u102_73, u102_76, zk_mk_1, zk_mk_I, zk_mk_R, zk_mk_set, zk_mk_setR, zk_mk_cpy, zk_rv_some, zk_rv_none, Option.toList_some, Option.toList_none, List.cons_append, List.nil_append, reduceIte, eq_self, Nat.reduceLT, Nat.reduceEqDiff, and_true, true_and, reduceCtorEq]
  have t0 : zTs I1 m B q 0 [] := by
    refine ⟨⟨?_, htp.2.1, fun j hj => ?_⟩, Nat.zero_le _, g3, g4, g5, g6, ?_, ?_, fun k hk => absurd hk (by simp)⟩
    · rw [f2 1 (by decide), zk_up2_j (by decide), zk_up2_j (by decide), zk_up2_k ne.symm]; exact htp.1
    · rw [f1 12 (by decide), zk_up2_k (by decide), zk_up2_k (by decide), zk_up2_k (by omega)]; exact htp.2.2 j hj
    · rw [f2 7 (by decide), zk_up2_j (by decide), zk_up2_s]
    · rw [f1 _ ne, zk_up2_k ne, zk_up2_k ne, zk_up2_s]; rfl
  have y0 : zTy q I I1 := fun k a b c e => by rw [f1 k a, zk_up2_r a, zk_up2_r a, zk_up2_r b]
  refine zTprt (R := (2, 0, [])) (i := 0) hq (by decide) hb (Or.inl ⟨rfl, t0, Nat.zero_le _⟩) ?_
  intro I2 y1 n1 a1 b1 e1
  refine zTprt (R := zX1 m B) (i := 1) hq (by decide) hb a1 ?_
  intro I3 y2 n2 a2 b2 e2
  refine zTprt (R := zX2 m B) (i := 2) hq (by decide) hb a2 ?_
  intro I4 y3 n3 a3 b3 e3
  refine fin I4 (((y0.trans y1).trans y2).trans y3) ⟨b1, b2, b3⟩ a3 ?_
  intro w
  have x3 : (zX3 m B).1 = 2 := by
    have := zfi_2 w
    rw [← this]; exact w
  have x2 : (zX2 m B).1 = 2 := b2.r.resolve_left (zprt_2 x3)
  have x1 : (zX1 m B).1 = 2 := zGd.r b1 |>.resolve_left (zprt_2 x2)
  exact ⟨by rw [n3 0 (by decide), n2 0 (by decide)]; exact e1 x1, by rw [n3 1 (by decide)]; exact e2 x2, e3 x3⟩
noncomputable def zA_text (m : Nat) (B : Nat → Nat) (q : Nat) : Int32 := if (zX4 m B).1 = 3 then -100 - nI (zX4 m B).2.1 else nI q
def zMt (I I1 : Nat → Nat → Int32) (m : Nat) (B : Nat → Nat) (q : Nat) : Prop := (∀ k, k ≠ 0 → k ≠ 11 → k ≠ 28 + 4 * q → k ≠ 29 + 4 * q → k ≠ 30 + 4 * q → I1 k = I k) ∧ (∀ j, j ≠ 5 → I1 0 j = I 0 j) ∧ I1 11 1 = 0 ∧ zGs m B ∧ (((zX4 m B).1 = 3 ∧ I1 0 5 = nI q) ∨ ((zX4 m B).1 = 2 ∧ I1 0 5 = nI (q + 1) ∧ zEn I1 q m B))
theorem s4_6 {sc : zk_X} {d : Nat} {I : Nat → Nat → Int32} {tg : Option Nat} {P : Option Value → zk_M → Prop} (h : I 0 5 = nI 6) (K : P (some (.int (-4))) (zk_mk I tg)) : zk_R sc (d + 81) 4 0 [some (.ref (0 : Nat)), none] [] (zk_mk I tg) P := by
  have c : ¬ nI 6 < 6 := by decide
  simp only [u4_0, u4_1, u4_4, u4_6, u4_9, u4_11, u4_12, u4_13, u4_16, u4_17, u4_20, u4_21, u4_24, u4_25, u4_28, u4_29, u4_30, u4_33, u4_34, u4_37, u4_38, u4_41, u4_43, u4_44, u4_45, u4_46, u4_47, u4_48, u4_51, u4_52, u4_53, u4_56, u4_57, u4_60, u4_61, u4_62, zk_mk_1, zk_mk_I, zk_mk_R, zk_mk_set, zk_mk_setR, zk_mk_cpy, zk_rv_some, zk_rv_none, Option.toList_some, Option.toList_none, List.cons_append, List.nil_append, reduceIte, eq_self, Nat.reduceLT, Nat.reduceEqDiff, and_true, true_and, reduceCtorEq, zsh_0, h, c]
  exact K
theorem s4 {sc : zk_X} {m q d : Nat} {B : Nat → Nat} {I : Nat → Nat → Int32} {tg : Option Nat} {P : Option Value → zk_M → Prop} (h : I 0 5 = nI q) (hq : q < 6) (htp : zj_tp I m B) (K : ∀ I1, zMt I I1 m B q → P (some (.int (zA_text m B q))) (zk_mk I1 (some (28 + 4 * q)))) : zk_R sc (d + 81) 4 0 [some (.ref (0 : Nat)), none] [] (zk_mk I tg) P := by
  have c : nI q < 6 := by rw [show (6 : Int32) = nI 6 from rfl, zn_lt (by omega) (by decide)]; exact hq
  have y1 : zk_inb (nI q) 6 = true := by rw [zn_in (by omega)]; omega
  have y2 : (nI q).toNatClampNeg = q := zn_cl (by omega)
  obtain ⟨w1, w2, w3, w4⟩ := zx_83 hq
  simp only [u4_0, u4_1, u4_4, u4_6, u4_9, u4_11, u4_12, u4_13, u4_16, u4_17, u4_20, u4_21, u4_24, u4_25, u4_28, u4_29, u4_30, u4_33, u4_34, u4_37, u4_38, u4_41, u4_43, u4_44, u4_45, u4_46, u4_47, u4_48, u4_51, u4_52, u4_53, u4_56, u4_57, u4_60, u4_61, u4_62, zk_mk_1, zk_mk_I, zk_mk_R, zk_mk_set, zk_mk_setR, zk_mk_cpy, zk_rv_some, zk_rv_none, Option.toList_some, Option.toList_none, List.cons_append, List.nil_append, reduceIte, eq_self, Nat.reduceLT, Nat.reduceEqDiff, and_true, true_and, reduceCtorEq, zsh_0, zsh_11, zsh_13, zrf_0_3, zrf_0_4, zx_13 hq, h, c, y1, y2, w1]
  refine s102 hq htp ?_
  intro I1 f g en r
  simp only [u4_0, u4_1, u4_4, u4_6, u4_9, u4_11, u4_12, u4_13, u4_16, u4_17, u4_20, u4_21, u4_24, u4_25, u4_28, u4_29, u4_30, u4_33, u4_34, u4_37, u4_38, u4_41, u4_43, u4_44, u4_45, u4_46, u4_47, u4_48, u4_51, u4_52, u4_53, u4_56, u4_57, u4_60, u4_61, u4_62, zk_mk_1, zk_mk_I, zk_mk_R, zk_mk_set, zk_mk_setR, zk_mk_cpy, zk_rv_some, zk_rv_none, Option.toList_some, Option.toList_none, List.cons_append, List.nil_append, reduceIte, eq_self, Nat.reduceLT, Nat.reduceEqDiff, and_true, true_and, reduceCtorEq, zsh_0, zsh_11, zrf_0_3]
  have e05 : I1 0 5 = nI q := by rw [f 0 (by decide) (by omega) (by omega) (by omega)]; exact h
  rcases r with r | ⟨r, hr⟩
  · have ea : zA_rd m B = -1 := by unfold zA_rd; rw [if_neg (by omega)]
    have et : zA_text m B q = nI q := by unfold zA_text; rw [if_neg (by omega)]
    have c0 : (-1 : Int32) < 0 := by decide
    have p1 : (nI q + 1 : Int32) = nI (q + 1) := zn_add _ 1
    have p2 : (nI (q + 1) - 1 : Int32) = nI q := zn_sub (b := 1) (by omega)
    rw [et] at K
    simp only [u4_0, u4_1, u4_4, u4_6, u4_9, u4_11, u4_12, u4_13, u4_16, u4_17, u4_20, u4_21, u4_24, u4_25, u4_28, u4_29, u4_30, u4_33, u4_34, u4_37, u4_38, u4_41, u4_43, u4_44, u4_45, u4_46, u4_47, u4_48, u4_51, u4_52, u4_53, u4_56, u4_57, u4_60, u4_61, u4_62, zk_mk_1, zk_mk_I, zk_mk_R, zk_mk_set, zk_mk_setR, zk_mk_cpy, zk_rv_some, zk_rv_none, Option.toList_some, Option.toList_none, List.cons_append, List.nil_append, reduceIte, eq_self, Nat.reduceLT, Nat.reduceEqDiff, and_true, true_and, reduceCtorEq, zsh_0, ea, c0, zk_up2_k (show (0 : Nat) ≠ 11 by decide), e05, p1, zk_up2_s, p2]
    refine K _ ⟨fun k a b c1 c2 c3 => by rw [zk_up2_r a, zk_up2_r b]; exact f k b c1 c2 c3, fun j hj => by rw [zk_up2_j hj, zk_up2_k (by decide), f 0 (by decide) (by omega) (by omega) (by omega)], by rw [zk_up2_k (by decide), zk_up2_s], g, Or.inr ⟨r, by rw [zk_up2_s], ?_⟩⟩
    obtain ⟨a1, a2, a3, a4⟩ := en r
    have o : ∀ k j, k ≠ 0 → k ≠ 11 → zk_up2 (zk_up2 I1 11 1 0) 0 5 (nI (q + 1)) k j = I1 k j := fun k j a b => by rw [zk_up2_k a, zk_up2_k b]
    exact ⟨fun k hk => by rw [o _ _ (by omega) (by omega)]; exact a1 k hk, by rw [o _ _ (by omega) (by omega)]; exact a2, by rw [o _ _ (by omega) (by omega)]; exact a3, by rw [o _ _ (by omega) (by omega)]; exact a4⟩
  · have ea : zA_rd m B = nI (zX4 m B).2.1 := by unfold zA_rd; rw [if_pos r]
    have et : zA_text m B q = -100 - nI (zX4 m B).2.1 := by unfold zA_text; rw [if_pos r]
    have c0 : ¬ nI (zX4 m B).2.1 < 0 := by rw [zn_neg (by omega)]; exact id
    rw [et] at K
    simp only [u4_0, u4_1, u4_4, u4_6, u4_9, u4_11, u4_12, u4_13, u4_16, u4_17, u4_20, u4_21, u4_24, u4_25, u4_28, u4_29, u4_30, u4_33, u4_34, u4_37, u4_38, u4_41, u4_43, u4_44, u4_45, u4_46, u4_47, u4_48, u4_51, u4_52, u4_53, u4_56, u4_57, u4_60, u4_61, u4_62, zk_mk_1, zk_mk_I, zk_mk_R, zk_mk_set, zk_mk_setR, zk_mk_cpy, zk_rv_some, zk_rv_none, Option.toList_some, Option.toList_none, List.cons_append, List.nil_append, reduceIte, eq_self, Nat.reduceLT, Nat.reduceEqDiff, and_true, true_and, reduceCtorEq, zsh_0, ea, c0]
    exact K _ ⟨fun k a b c1 c2 c3 => by rw [zk_up2_r b]; exact f k b c1 c2 c3, fun j hj => by rw [zk_up2_k (by decide), f 0 (by decide) (by omega) (by omega) (by omega)], by rw [zk_up2_s], g, Or.inl ⟨r, by rw [zk_up2_k (by decide)]; exact e05⟩⟩
