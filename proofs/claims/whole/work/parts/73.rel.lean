/-! what holds between the calls -/
def zj_law (I : Nat → Nat → Int32) (t q : Nat) : Prop := I 1 5 = nI t ∧ I 60 10 = nI t ∧ t < q
def zj_tape (I : Nat → Nat → Int32) (m : Nat) : Prop := I 11 1 = nI m ∧ I 60 6 = nI m ∧ m ≤ 160 ∧ ∀ j, j < m → (∃ b, b < 256 ∧ I 12 j = nI b) ∧ I 65 j = I 12 j
def zj_ic (I : Nat → Nat → Int32) (c : Nat) : Prop := (I 68 c = I 7 c ∧ I 68 (10 + c) = I 8 c ∧ I 68 (20 + c) = I 9 c ∧ I 68 (30 + c) = I 10 c) ∧ (∃ k, k < 6 ∧ I 7 c = nI k) ∧ (∃ k, k < 1000 ∧ I 8 c = nI k) ∧ (∃ k, k < 10 ∧ I 9 c = nI k) ∧ ∃ k, k < 3 ∧ I 10 c = nI k
def zj_img (I : Nat → Nat → Int32) (q : Nat) : Prop := I 60 11 = I 0 2 ∧ (¬ I 0 2 = 0 → ∃ k t, k ≤ 10 ∧ t < q ∧ I 6 4 = nI k ∧ I 60 12 = nI k ∧ I 6 5 = nI t ∧ I 60 13 = nI t ∧ ∀ c, c < k → zj_ic I c)
def zw_list : List Int32 := [99, 111, 117, 110, 116, 115, 32, 32, 109, 111, 118, 101, 115, 32, 32, 32, 97, 115, 107, 115, 32, 32, 32, 32, 110, 117, 109, 98, 101, 114, 32, 32, 109, 111, 114, 101, 32, 32, 32, 32, 99, 97, 114, 100, 32, 32, 32, 32, 109, 97, 110, 121, 32, 32, 32, 32, 107, 105, 110, 100, 32, 32, 32, 32, 108, 101, 102, 116, 32, 32, 32, 32, 111, 114, 32, 32, 32, 32, 32, 32, 97, 110, 100, 32, 32, 32, 32, 32, 110, 111, 116, 32, 32, 32, 32, 32]
def zj_con (I : Nat → Nat → Int32) : Prop := ∀ j, j < 96 → I 73 j = zw_list.getD j 0
def zJ (I : Nat → Nat → Int32) (n t q m : Nat) (TT EE : Nat → Nat → Nat) (Z : Nat → Nat) : Prop := zj_tab I n ∧ zj_law I t q ∧ zj_txs I q TT EE ∧ zj_tape I m ∧ zj_sh I Z ∧ zj_img I q ∧ zj_con I
theorem zj_tab.cg {I I' : Nat → Nat → Int32} {n : Nat} (h1 : I' 1 4 = I 1 4) (h2 : I' 60 0 = I 60 0) (h : ∀ k, (2 ≤ k ∧ k ≤ 5) ∨ (61 ≤ k ∧ k ≤ 64) → I' k = I k) (hj : zj_tab I n) : zj_tab I' n := by
  unfold zj_tab zj_card at *
  rw [h1, h2, h 2 (by omega), h 3 (by omega), h 4 (by omega), h 5 (by omega), h 61 (by omega), h 62 (by omega), h 63 (by omega), h 64 (by omega)]
  exact hj
theorem zj_law.cg {I I' : Nat → Nat → Int32} {t q : Nat} (h1 : I' 1 5 = I 1 5) (h2 : I' 60 10 = I 60 10) (hj : zj_law I t q) : zj_law I' t q := by
  unfold zj_law at *
  rw [h1, h2]; exact hj
theorem zj_txs.cg {I I' : Nat → Nat → Int32} {q : Nat} {TT EE : Nat → Nat → Nat} (h1 : I' 0 5 = I 0 5) (h2 : I' 60 9 = I 60 9) (h : ∀ k, (28 ≤ k ∧ k < 52 ∧ ¬ k % 4 = 3) ∨ k = 66 ∨ k = 67 → I' k = I k) (hj : zj_txs I q TT EE) : zj_txs I' q TT EE := by
  obtain ⟨a, b, c, f⟩ := hj
  refine ⟨by rw [h1]; exact a, by rw [h2]; exact b, c, fun t ht => ?_⟩
  have := f t ht
  unfold zj_text at *
  rw [h (30 + 4 * t) (by omega), h (29 + 4 * t) (by omega), h 66 (by omega), h 67 (by omega)]
  exact this
theorem zj_tape.cg {I I' : Nat → Nat → Int32} {m : Nat} (h1 : I' 11 1 = I 11 1) (h2 : I' 60 6 = I 60 6) (h3 : I' 12 = I 12) (h4 : I' 65 = I 65) (hj : zj_tape I m) : zj_tape I' m := by
  unfold zj_tape at *
  rw [h1, h2, h3, h4]; exact hj
theorem zj_sh.cg {I I' : Nat → Nat → Int32} {Z : Nat → Nat} (h : ∀ k, (52 ≤ k ∧ k < 60) ∨ (69 ≤ k ∧ k ≤ 71) → I' k = I k) (hj : zj_sh I Z) : zj_sh I' Z := by
  intro s hs
  rw [h (52 + 2 * s) (by omega), h (53 + 2 * s) (by omega), h 69 (by omega), h 70 (by omega), h 71 (by omega)]
  exact hj s hs
theorem zj_img.cg {I I' : Nat → Nat → Int32} {q : Nat} (h1 : I' 0 2 = I 0 2) (h2 : I' 60 11 = I 60 11) (h3 : I' 60 12 = I 60 12) (h4 : I' 60 13 = I 60 13) (h : ∀ k, (6 ≤ k ∧ k ≤ 10) ∨ k = 68 → I' k = I k) (hj : zj_img I q) : zj_img I' q := by
  unfold zj_img zj_ic at *
  rw [h1, h2, h3, h4, h 6 (by omega), h 7 (by omega), h 8 (by omega), h 9 (by omega), h 10 (by omega), h 68 (by omega)]
  exact hj
theorem zj_con.cg {I I' : Nat → Nat → Int32} (h : I' 73 = I 73) (hj : zj_con I) : zj_con I' := by
  unfold zj_con at *
  rw [h]; exact hj
theorem zF.J {I I' : Nat → Nat → Int32} {n t q m : Nat} {TT EE : Nat → Nat → Nat} {Z : Nat → Nat} (h : zF I I') (hJ : zJ I n t q m TT EE Z) : zJ I' n t q m TT EE Z := by
  obtain ⟨a, b, c, d, e, f, g⟩ := hJ
  have key : ∀ k, (k ≤ 13 ∨ (28 ≤ k ∧ k < 52 ∧ ¬ k % 4 = 3) ∨ (52 ≤ k ∧ k ≤ 74)) → I' k = I k := fun k hk => h k (by
    unfold zKp
    simp
    omega)
  exact ⟨h.tab a, b.cg (by rw [key 1 (by omega)]) (by rw [key 60 (by omega)]), h.txs c, d.cg (by rw [key 11 (by omega)]) (by rw [key 60 (by omega)]) (key 12 (by omega)) (key 65 (by omega)), h.sh e, f.cg (by rw [key 0 (by omega)]) (by rw [key 60 (by omega)]) (by rw [key 60 (by omega)]) (by rw [key 60 (by omega)]) (fun k hk => key k (by omega)), g.cg (key 73 (by omega))⟩
theorem zJ.q {I : Nat → Nat → Int32} {n t q m : Nat} {TT EE : Nat → Nat → Nat} {Z : Nat → Nat} (h : zJ I n t q m TT EE Z) : zj_q I n t (TT t) (EE t) := by
  obtain ⟨a, b, c, d, e, f, g⟩ := h
  exact ⟨a, b.1, b.2.1, by have := b.2.2; have := c.2.2.1; omega, c.2.2.2 t b.2.2⟩
/-! force -/
def zA_force (I : Nat → Nat → Int32) (q : Nat) (x : Int32) : Int32 := if 0 ≤ x ∧ x < nI q then I 1 5 else -2
def zUt_force (I : Nat → Nat → Int32) (q : Nat) (x : Int32) : Nat → Nat → Int32 := if 0 ≤ x ∧ x < nI q then zk_up2 I 1 5 x else I
def zUm_force (I : Nat → Nat → Int32) (q : Nat) (x : Int32) : Nat → Nat → Int32 := if 0 ≤ x ∧ x < nI q then zk_up2 I 60 10 x else I
theorem s5 {sc : zk_X} {d : Nat} {I : Nat → Nat → Int32} {tg : Option Nat} {P : Option Value → zk_M → Prop} {q : Nat} {x : Int32} (h : I 0 5 = nI q) : zk_R sc d 5 0 [some (.ref (0 : Nat)), some (.int x), none] [] (zk_mk I tg) P = P (some (.int (zA_force I q x))) (zk_mk (zUt_force I q x) tg) := by
  simp only [u5_0, u5_1, u5_4, u5_5, u5_6, u5_9, u5_12, u5_14, u5_15, u5_16, u5_19, u5_22, u5_23, u5_24, u5_27, u5_28, u5_31, u5_32, zk_mk_1, zk_mk_I, zk_mk_R, zk_mk_set, zk_mk_setR, zk_mk_cpy, zk_rv_some, zk_rv_none, Option.toList_some, Option.toList_none, List.cons_append, List.nil_append, reduceIte, eq_self, Nat.reduceLT, Nat.reduceEqDiff, and_true, true_and, reduceCtorEq, zsh_0, zsh_1, zrf_0_0, h, zA_force, zUt_force]
  by_cases h1 : 0 ≤ x
  · have h1' : ¬ x < 0 := Int32.not_lt.mpr h1
    by_cases h2 : x < nI q
    · have h2' : ¬ nI q ≤ x := Int32.not_le.mpr h2
      simp only [h1, h1', h2, h2', reduceIte, and_self]
    · have h2' : nI q ≤ x := Int32.not_lt.mp h2
      simp only [h1, h1', h2, h2', reduceIte, and_false]
  · have h1' : x < 0 := Int32.not_le.mp h1
    simp only [h1, h1', reduceIte, false_and]
theorem s143 {sc : zk_X} {d : Nat} {I : Nat → Nat → Int32} {tg : Option Nat} {P : Option Value → zk_M → Prop} {q : Nat} {x : Int32} (h : I 60 9 = nI q) (hq : q < 1000) : zk_R sc (d + 1) 143 0 [some (.ref (60 : Nat)), some (.int x), none] [] (zk_mk I tg) P = P (some (.int (if 0 ≤ x ∧ x < nI q then I 60 10 else -2))) (zk_mk (zUm_force I q x) tg) := by
  simp only [u143_0, u143_1, u143_2, u143_3, u143_6, u143_7, u143_8, u143_11, u143_14, u143_16, u143_17, u143_18, u143_21, u143_22, u143_23, u143_24, u143_27, u143_28, zk_mk_1, zk_mk_I, zk_mk_R, zk_mk_set, zk_mk_setR, zk_mk_cpy, zk_rv_some, zk_rv_none, Option.toList_some, Option.toList_none, List.cons_append, List.nil_append, reduceIte, eq_self, Nat.reduceLT, Nat.reduceEqDiff, and_true, true_and, reduceCtorEq, zsh_60, h, s129, zb_z, zn_lem0 (show q < 2147483648 by omega), zUm_force]
  by_cases h1 : 0 ≤ x ∧ x < nI q
  · rw [if_neg (fun w => w h1), if_pos h1, if_pos h1]
  · rw [if_pos h1, if_neg h1, if_neg h1]
theorem zJ_force {I : Nat → Nat → Int32} {n t q m : Nat} {TT EE : Nat → Nat → Nat} {Z : Nat → Nat} {x : Int32} (hJ : zJ I n t q m TT EE Z) : ∃ t', zJ (zUm_force (zUt_force I q x) q x) n t' q m TT EE Z := by
  obtain ⟨a, b, c, d, e, f, g⟩ := hJ
  unfold zUm_force zUt_force
  by_cases h1 : 0 ≤ x ∧ x < nI q
  · have hq := c.2.2.1
    obtain ⟨k, hk, rfl⟩ := zn_of h1.1 h1.2 (show q < 2147483648 by omega)
    simp only [if_pos h1]
    refine ⟨k, ?_⟩
    have o : ∀ j, j ≠ 1 → j ≠ 60 → zk_up2 (zk_up2 I 1 5 (nI k)) 60 10 (nI k) j = I j := fun j j1 j2 => by rw [zk_up2_r j2, zk_up2_r j1]
    have o1 : ∀ b, b ≠ 5 → zk_up2 (zk_up2 I 1 5 (nI k)) 60 10 (nI k) 1 b = I 1 b := fun b hb => by rw [zk_up2_k (by decide), zk_up2_j hb]
    have o60 : ∀ b, b ≠ 10 → zk_up2 (zk_up2 I 1 5 (nI k)) 60 10 (nI k) 60 b = I 60 b := fun b hb => by rw [zk_up2_j hb, zk_up2_k (by decide)]
    refine ⟨a.cg (o1 4 (by decide)) (o60 0 (by decide)) (fun j hj => o j (by omega) (by omega)), ⟨?_, ?_, hk⟩, c.cg (by rw [o 0 (by decide) (by decide)]) (o60 9 (by decide)) (fun j hj => o j (by omega) (by omega)), d.cg (by rw [o 11 (by decide) (by decide)]) (o60 6 (by decide)) (o 12 (by decide) (by decide)) (o 65 (by decide) (by decide)), e.cg (fun j hj => o j (by omega) (by omega)), f.cg (by rw [o 0 (by decide) (by decide)]) (o60 11 (by decide)) (o60 12 (by decide)) (o60 13 (by decide)) (fun j hj => o j (by omega) (by omega)), g.cg (o 73 (by decide) (by decide))⟩
    · rw [zk_up2_k (by decide), zk_up2_s]
    · rw [zk_up2_s]
  · simp only [if_neg h1]
    exact ⟨t, a, b, c, d, e, f, g⟩
