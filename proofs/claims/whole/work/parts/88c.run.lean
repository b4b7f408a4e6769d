/-! the whole run of the law -/
section UU
variable {sc : zk_X} {d : Nat} {st : List Value} {M : zk_M} {P : Option Value → zk_M → Prop}
theorem um126 : zk_mt 126 = some zm_126 := rfl
set_option maxRecDepth 20000 in
theorem u126_1004 {x0 x1 : Option Value} {a0 : Nat} (h1 : a0 < M.1) (h2 : (zk_sh a0).1 = 0) (h3 : (zk_sh a0).2.1 = 6) : zk_R sc (d + 1) 126 1004 [x0, x1] [.ref a0] M P = zk_R sc d 127 0 [some (.ref a0), none, none] [] M (fun r M' => zk_R sc (d + 1) 126 1007 [x0, x1] (r.toList ++ []) M' P) := zr_iv (as := []) (rest := []) um126 (rfl : zk_lk zm_126.2.2.2.2.2 1004 = some (.invokevirtual 81)) rfl (rfl : zk_mt 127 = some zm_127) rfl rfl rfl rfl rfl h1 h2 h3
set_option maxRecDepth 20000 in
theorem u126_1007 {x0 x1 : Option Value} {v : Int32} : zk_R sc d 126 1007 [x0, x1] (.int v :: st) M P = zk_R sc d 126 1008 [x0, x1] st M P := zk_R_nx um126 (rfl : zk_lk zm_126.2.2.2.2.2 1007 = some (.pop)) rfl
set_option maxRecDepth 20000 in
theorem u126_1008 {x0 x1 : Option Value} : zk_R sc d 126 1008 [x0, x1] [] M P = P none M := zr_retv um126 (rfl : zk_lk zm_126.2.2.2.2.2 1008 = some (.return_)) rfl
theorem u217_15 {x0 x1 x2 x3 : Option Value} {v : Nat} : zk_R sc d 217 15 [x0, x1, x2, x3] (.ref v :: st) M P = zk_R sc d 217 16 [x0, x1, some (.ref v), x3] st M P := zk_R_nx um217 (rfl : zk_lk zm_217.2.2.2.2.2 15 = some (.astore_n 2)) rfl
theorem u217_12 {x0 x1 x2 x3 : Option Value} {I : Nat → Nat → Int32} {R : Nat → Nat → Option Nat} : zk_R sc (d + 1) 217 12 [x0, x1, x2, x3] [.ref (60 : Nat), .ref (60 : Nat)] (61, I, R) P = zk_R sc d 126 0 [some (.ref (60 : Nat)), none] [] (61, I, R) (fun r M' => zk_R sc (d + 1) 217 15 [x0, x1, x2, x3] (r.toList ++ [.ref (60 : Nat)]) M' P)  := zk_R_ca (args := [.ref (60 : Nat)]) (rest := [.ref (60 : Nat)]) um217 (rfl : zk_lk zm_217.2.2.2.2.2 12 = some (.invokespecial 12)) rfl (rfl : zk_mt 126 = some zm_126)
end UU
theorem zc_A : ∃ M : zk_M, zc_a = some (12, [some (.ref (1000 : Nat)), some (.ref (0 : Nat)), none, none], [.ref (60 : Nat), .ref (60 : Nat)], M) ∧ M.1 = 61 ∧ zk_iv M := by
  have h := zc_okA
  unfold zc_ckA at h
  cases hz : zc_a with
  | none => rw [hz] at h; cases h
  | some x =>
    obtain ⟨pc, ls, st, M⟩ := x
    rw [hz] at h
    simp only [Bool.and_eq_true, decide_eq_true_eq] at h
    obtain ⟨h1, h2, h3, h4⟩ := h
    refine ⟨M, by rw [h1, h2, h3], h4, ?_⟩
    exact zk_go_iv _ _ _ _ _ _ _ _ _ _ _ hz (fun k j _ => rfl)
theorem zc_Bm : ∃ (M1 : zk_M) (I : Nat → Nat → Int32), zc_a = some (12, [some (.ref (1000 : Nat)), some (.ref (0 : Nat)), none, none], [.ref (60 : Nat), .ref (60 : Nat)], M1) ∧ M1.1 = 61 ∧ zk_go none 3000 1004 3000 899 126 0 [some (.ref (60 : Nat)), none] [] M1 = some (1004, [some (.ref (60 : Nat)), some (.int 34)], [.ref (60 : Nat)], zk_mk I none) ∧ (∀ e ∈ zc_ints, I e.1 e.2.1 = e.2.2) ∧ (∀ j, j < 34 → I 65 j = nI (zc_B j)) ∧ ∀ j, j < 96 → I 73 j = zw_list.getD j 0 := by
  obtain ⟨M1, ha, h61, iv1⟩ := zc_A
  have eb : zc_b = zk_go none 3000 1004 3000 899 126 0 [some (.ref (60 : Nat)), none] [] M1 := by
    unfold zc_b
    rw [ha]
  have h := zc_okB
  unfold zc_ckB at h
  cases hz : zc_b with
  | none => rw [hz] at h; cases h
  | some x =>
    obtain ⟨pc, ls, st, M⟩ := x
    rw [hz] at h
    simp only [Bool.and_eq_true, decide_eq_true_eq, List.all_eq_true, List.mem_range] at h
    obtain ⟨h1, h2, h3, h4, h5, h6, h7, h8⟩ := h
    rw [eb] at hz
    have iv2 := zk_go_iv _ _ _ _ _ _ _ _ _ _ _ hz iv1
    have em := zk_iv_mk iv2 h4 h5 (by decide +kernel)
    refine ⟨M1, M.2.1, ha, h61, ?_, h6, h7, h8⟩
    rw [hz, h1, h2, h3, ← em]
/-! the first text -/
theorem zc_r0 : zrch 34 zc_B (0, zqb 34 zc_B 0, [], []) (4, 15, [], [10000]) := ⟨2, by decide +kernel⟩
theorem zc_r1 : zrch 34 zc_B (0, zqb 34 zc_B 15, [], [10000]) (4, 25, [], [10000, 1]) := ⟨2, by decide +kernel⟩
theorem zc_r2 : zrch 34 zc_B (0, zqb 34 zc_B 25, [], [10000, 1]) (4, 34, [], [10000, 1, 1]) := ⟨2, by decide +kernel⟩
theorem zc_x1 : zX1 34 zc_B = (2, 15, [10000]) := by
  unfold zX1 zprt
  rw [if_neg (by show ¬ 2 = 3; decide)]
  exact zpr_ok (by decide +kernel) zc_r0
theorem zc_x2 : zX2 34 zc_B = (2, 25, [10000, 1]) := by
  unfold zX2 zprt
  rw [zc_x1, if_neg (by show ¬ 2 = 3; decide)]
  exact zpr_ok (by decide +kernel) zc_r1
theorem zc_x3 : zX3 34 zc_B = (2, 34, [10000, 1, 1]) := by
  unfold zX3 zprt
  rw [zc_x2, if_neg (by show ¬ 2 = 3; decide)]
  exact zpr_ok (by decide +kernel) zc_r2
theorem zc_x4 : (zX4 34 zc_B).1 = 2 := by
  unfold zX4 zfi
  rw [zc_x3, if_neg (by show ¬ 2 = 3; decide), if_pos (by decide +kernel)]
theorem zc_b256 : ∀ j, j < 34 → zc_B j < 256 := by decide +kernel
theorem zc_gs : zGs 34 zc_B := by
  have hb := zc_b256
  refine ⟨?_, ?_, ?_⟩
  · rw [zc_x1]; exact zGd_of hb (by decide +kernel) (by decide +kernel) zc_r0
  · rw [zc_x1, zc_x2]; exact zGd_of hb (by decide +kernel) (by decide +kernel) zc_r1
  · rw [zc_x2, zc_x3]; exact zGd_of hb (by decide +kernel) (by decide +kernel) zc_r2
theorem zc_J {I I2 : Nat → Nat → Int32} (hi : ∀ e ∈ zc_ints, I e.1 e.2.1 = e.2.2) (h73 : ∀ j, j < 96 → I 73 j = zw_list.getD j 0) (h : zNt I I2 34 zc_B 0) : zJJ I2 := by
  obtain ⟨⟨n1, n2, n3, n4⟩, n5, n6⟩ := h
  obtain ⟨n7, n8⟩ : I2 60 9 = nI 1 ∧ zEm2 I2 0 34 zc_B := by
    rcases n6 with n6 | n6
    · exact absurd n6.1 (by rw [zc_x4]; decide)
    · exact n6.2
  have o : ∀ k, k ≠ 60 → k ≠ 66 → k ≠ 67 → k ≠ 74 → ∀ j, I2 k j = I k j := fun k a b c e j => by rw [n1 k a b c e]
  have g : ∀ a b v, (a, b, v) ∈ zc_ints → I a b = v := fun a b v h => hi (a, b, v) h
  have en : zEn I2 0 34 zc_B := by
    unfold zEn
    rw [zc_x1, zc_x2, zc_x3]
    refine ⟨fun k hk => ?_, ?_, ?_, ?_⟩
    · have hk' : k < 3 := hk
      rcases (show k = 0 ∨ k = 1 ∨ k = 2 by omega) with rfl | rfl | rfl
      · rw [o 29 (by decide) (by decide) (by decide) (by decide), g 29 0 (-1) (by decide)]; decide
      · rw [o 29 (by decide) (by decide) (by decide) (by decide), g 29 1 1 (by decide)]; decide
      · rw [o 29 (by decide) (by decide) (by decide) (by decide), g 29 2 1 (by decide)]; decide
    · rw [o 30 (by decide) (by decide) (by decide) (by decide), g 30 0 1 (by decide)]; rfl
    · rw [o 30 (by decide) (by decide) (by decide) (by decide), g 30 1 2 (by decide)]; rfl
    · rw [o 30 (by decide) (by decide) (by decide) (by decide), g 30 2 3 (by decide)]; rfl
  have tx := zj_text_new (TT := fun _ _ => 0) (EE := fun _ _ => 0) zc_gs (by decide) zc_x4 en n8
  refine ⟨0, 0, 1, 0, zTT (fun _ _ => 0) 0 34 zc_B, zEE (fun _ _ => 0) 0 34 zc_B, fun _ => 0, ⟨?_, ?_, by decide, fun c hc => absurd hc (by omega)⟩, ⟨?_, ?_, by decide⟩, ⟨?_, n7, by decide, fun t ht => ?_⟩, ⟨?_, ?_, by decide, fun j hj => absurd hj (by omega)⟩, ?_, ⟨?_, ?_⟩, ?_⟩
  · rw [o 1 (by decide) (by decide) (by decide) (by decide), g 1 4 0 (by decide)]; rfl
  · rw [n2 0 (by decide), g 60 0 0 (by decide)]; rfl
  · rw [o 1 (by decide) (by decide) (by decide) (by decide), g 1 5 0 (by decide)]; rfl
  · rw [n2 10 (by decide), g 60 10 0 (by decide)]; rfl
  · rw [o 0 (by decide) (by decide) (by decide) (by decide), g 0 5 1 (by decide)]; rfl
  · have t0 : t = 0 := by omega
    subst t0
    exact tx
  · rw [o 11 (by decide) (by decide) (by decide) (by decide), g 11 1 0 (by decide)]; rfl
  · rw [n5]; rfl
  · intro s hs
    rcases (show s = 0 ∨ s = 1 ∨ s = 2 ∨ s = 3 by omega) with rfl | rfl | rfl | rfl
    · refine ⟨?_, ?_, ?_, by decide, fun j hj => absurd hj (by show ¬ j < 0; omega)⟩
      · rw [o 69 (by decide) (by decide) (by decide) (by decide), o 52 (by decide) (by decide) (by decide) (by decide), g 69 0 (-1) (by decide), g 52 1 (-1) (by decide)]
      · rw [o 52 (by decide) (by decide) (by decide) (by decide), g 52 2 0 (by decide)]; rfl
      · rw [o 70 (by decide) (by decide) (by decide) (by decide), g 70 0 0 (by decide)]; rfl
    · refine ⟨?_, ?_, ?_, by decide, fun j hj => absurd hj (by show ¬ j < 0; omega)⟩
      · rw [o 69 (by decide) (by decide) (by decide) (by decide), o 54 (by decide) (by decide) (by decide) (by decide), g 69 1 (-1) (by decide), g 54 1 (-1) (by decide)]
      · rw [o 54 (by decide) (by decide) (by decide) (by decide), g 54 2 0 (by decide)]; rfl
      · rw [o 70 (by decide) (by decide) (by decide) (by decide), g 70 1 0 (by decide)]; rfl
    · refine ⟨?_, ?_, ?_, by decide, fun j hj => absurd hj (by show ¬ j < 0; omega)⟩
      · rw [o 69 (by decide) (by decide) (by decide) (by decide), o 56 (by decide) (by decide) (by decide) (by decide), g 69 2 (-1) (by decide), g 56 1 (-1) (by decide)]
      · rw [o 56 (by decide) (by decide) (by decide) (by decide), g 56 2 0 (by decide)]; rfl
      · rw [o 70 (by decide) (by decide) (by decide) (by decide), g 70 2 0 (by decide)]; rfl
    · refine ⟨?_, ?_, ?_, by decide, fun j hj => absurd hj (by show ¬ j < 0; omega)⟩
      · rw [o 69 (by decide) (by decide) (by decide) (by decide), o 58 (by decide) (by decide) (by decide) (by decide), g 69 3 (-1) (by decide), g 58 1 (-1) (by decide)]
      · rw [o 58 (by decide) (by decide) (by decide) (by decide), g 58 2 0 (by decide)]; rfl
      · rw [o 70 (by decide) (by decide) (by decide) (by decide), g 70 3 0 (by decide)]; rfl
  · rw [n2 11 (by decide), o 0 (by decide) (by decide) (by decide) (by decide), g 60 11 0 (by decide), g 0 2 0 (by decide)]
  · intro w
    exact absurd (by rw [o 0 (by decide) (by decide) (by decide) (by decide)]; exact g 0 2 0 (by decide)) w
  · intro j hj
    rw [o 73 (by decide) (by decide) (by decide) (by decide)]
    exact h73 j hj
theorem zc_whole {L : Nat} {xs : Nat → Int32} (hL : L ≤ 3584) : zk_R (some (L, xs)) 900 217 0 [some (.ref (1000 : Nat)), none, none, none] [] zc_M0 (fun r M' => r = some (.int 1) ∧ M'.1 = 83) := by
  obtain ⟨M1, I, ha, h61, hb, hi, h65, h73⟩ := zc_Bm
  refine zk_go_R _ _ _ _ _ _ _ _ _ _ _ (zk_go_sc _ _ _ _ _ _ _ _ ha) ?_
  obtain ⟨a, I1, R1⟩ := M1
  have e61 : a = 61 := h61
  subst e61
  rw [u217_12 (d := 899)]
  refine zk_go_R _ _ _ _ _ _ _ _ _ _ _ (zk_go_sc _ _ _ _ _ _ _ _ hb) ?_
  simp only [u126_1004, zk_mk_1, zk_mk_I, zk_mk_R, zk_mk_set, zk_mk_setR, zk_mk_cpy, zk_rv_some, zk_rv_none, Option.toList_some, Option.toList_none, List.cons_append, List.nil_append, reduceIte, eq_self, Nat.reduceLT, Nat.reduceEqDiff, and_true, true_and, reduceCtorEq, zsh_60]
  refine s127 (d := 894) (q := 0) (m := 34) (B := zc_B) ?_ (by decide) ⟨?_, by decide, fun j hj => ⟨h65 j hj, zc_b256 j hj⟩, h73⟩ zc_gs ?_
  · exact hi (60, 9, 0) (by decide)
  · exact hi (60, 6, 34) (by decide)
  intro I2 h2
  simp only [u126_1007, u126_1008, zk_mk_1, zk_mk_I, zk_mk_R, zk_mk_set, zk_mk_setR, zk_mk_cpy, zk_rv_some, zk_rv_none, Option.toList_some, Option.toList_none, List.cons_append, List.nil_append, reduceIte, eq_self, Nat.reduceLT, Nat.reduceEqDiff, and_true, true_and, reduceCtorEq, u217_15, u217_16, u217_17]
  exact zw_loop hL (L + 8) 0 I2 none (by omega) (by omega) (zc_J hi h73 h2)
