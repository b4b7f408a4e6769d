/-! the tape as a row of tokens, by T: what a rule may do to it -/
def zTx (q : Nat) (I I' : Nat → Nat → Int32) : Prop := ∀ k, k ≠ 11 → k ≠ 28 + 4 * q → k ≠ 29 + 4 * q → I' k = I k
theorem zTx.refl (q : Nat) (I : Nat → Nat → Int32) : zTx q I I := fun _ _ _ _ => rfl
theorem zTx.trans {q : Nat} {I I' I'' : Nat → Nat → Int32} (h : zTx q I I') (g : zTx q I' I'') : zTx q I I'' := fun k a b c => by rw [g k a b c, h k a b c]
def zTs (I : Nat → Nat → Int32) (m : Nat) (B : Nat → Nat) (q p : Nat) (O : List Nat) : Prop := zj_tp I m B ∧ p ≤ m ∧ I 11 3 = ztk (zqc m B p) ∧ (1000 ≤ zqc m B p → I 11 4 = zt_c (zqc m B p - 1000)) ∧ I 11 5 = nI (zqa m B p) ∧ I 11 6 = nI (zqb m B p) ∧ I 11 7 = -1 ∧ I (28 + 4 * q) 3 = nI O.length ∧ ∀ k, k < O.length → I (29 + 4 * q) k = zt_c (O.getD k 0)
def zTf (I : Nat → Nat → Int32) (m : Nat) (B : Nat → Nat) (q f : Nat) : Prop := zj_tp I m B ∧ I 11 7 = nI f ∧ f ≤ 160 ∧ ∃ k, k ≤ 160 ∧ I (28 + 4 * q) 3 = nI k
theorem zTs.ok {I : Nat → Nat → Int32} {m q p : Nat} {B : Nat → Nat} {O : List Nat} (h : zTs I m B q p O) : zwcok (zqc m B p) := zyc_cases (fun j hj => (h.1.2.2 j hj).2)
theorem zrf_11_2 (x : Nat) : zk_rf (some x) 11 2 = some x := rfl
theorem ztk_eq {c k : Nat} {v : Int32} (h : zwcok c) (hk : k < 100) (hk2 : ¬ k = 2) (hv : v = nI k) : (ztk c = v) = (c = k) := by
  subst hv
  by_cases c1 : 1000 ≤ c
  · rw [ztk_hi c1, show (2 : Int32) = nI 2 from rfl, zn_eq (by decide) (by omega)]
    exact propext ⟨fun w => absurd w.symm hk2, fun w => by omega⟩
  · rw [ztk_lo (by omega), zn_eq (by omega) (by omega)]
theorem ztk_v {c : Nat} (h : zwcok c) : (ztk c = 2) = (1000 ≤ c) := by
  by_cases c1 : 1000 ≤ c
  · rw [ztk_hi c1]; exact propext ⟨fun _ => c1, fun _ => rfl⟩
  · rw [ztk_lo (by omega), show (2 : Int32) = nI 2 from rfl, zn_eq (by omega) (by omega)]
    exact propext ⟨fun w => by unfold zwcok at h; omega, fun w => absurd w c1⟩
theorem s115 {sc : zk_X} {d : Nat} {I : Nat → Nat → Int32} {tg : Option Nat} {P : Option Value → zk_M → Prop} {w : Int32} : zk_R sc d 115 0 [some (.ref (11 : Nat)), some (.int w)] [] (zk_mk I tg) P = P (some (.int (zb (I 11 7 = -1 ∧ I 11 3 = w)))) (zk_mk I tg) := by
  simp only [u115_0, u115_1, u115_4, u115_5, u115_8, u115_9, u115_12, u115_13, u115_16, u115_17, u115_20, u115_21, zk_mk_1, zk_mk_I, zk_mk_R, zk_mk_set, zk_mk_setR, zk_mk_cpy, zk_rv_some, zk_rv_none, Option.toList_some, Option.toList_none, List.cons_append, List.nil_append, reduceIte, eq_self, Nat.reduceLT, Nat.reduceEqDiff, and_true, true_and, reduceCtorEq, zsh_11]
  by_cases h1 : I 11 7 = -1
  · by_cases h2 : I 11 3 = w
    · rw [if_pos h1, if_pos h2, zb_t ⟨h1, h2⟩]; simp
    · rw [if_pos h1, if_neg h2, zb_f (fun e => h2 e.2)]; simp
  · rw [if_neg h1, zb_f (fun e => h1 e.1)]; simp
/-- is it this token? -/
theorem zTs.now {sc : zk_X} {d : Nat} {I : Nat → Nat → Int32} {tg : Option Nat} {P : Option Value → zk_M → Prop} {m q p k : Nat} {B : Nat → Nat} {O : List Nat} {v : Int32} (h : zTs I m B q p O) (hk : k < 100) (hk2 : ¬ k = 2) (hv : v = nI k) : zk_R sc d 115 0 [some (.ref (11 : Nat)), some (.int v)] [] (zk_mk I tg) P = P (some (.int (zb (zqc m B p = k)))) (zk_mk I tg) := by
  rw [s115]
  have e : (I 11 7 = -1 ∧ I 11 3 = v) = (zqc m B p = k) := by
    rw [h.2.2.1, ztk_eq h.ok hk hk2 hv]
    exact propext ⟨fun w => w.2, fun w => ⟨h.2.2.2.2.2.2.1, w⟩⟩
  congr 3
  unfold zb
  simp only [e]
theorem zTs.nowv {sc : zk_X} {d : Nat} {I : Nat → Nat → Int32} {tg : Option Nat} {P : Option Value → zk_M → Prop} {m q p : Nat} {B : Nat → Nat} {O : List Nat} (h : zTs I m B q p O) : zk_R sc d 115 0 [some (.ref (11 : Nat)), some (.int 2)] [] (zk_mk I tg) P = P (some (.int (zb (1000 ≤ zqc m B p)))) (zk_mk I tg) := by
  rw [s115]
  have e : (I 11 7 = -1 ∧ I 11 3 = 2) = (1000 ≤ zqc m B p) := by
    rw [h.2.2.1, ztk_v h.ok]
    exact propext ⟨fun w => w.2, fun w => ⟨h.2.2.2.2.2.2.1, w⟩⟩
  congr 3
  unfold zb
  simp only [e]
theorem zTf.ne {I : Nat → Nat → Int32} {m q f : Nat} {B : Nat → Nat} (h : zTf I m B q f) : ¬ I 11 7 = -1 := by
  rw [h.2.1, zn_m1 (by have := h.2.2.1; omega)]
  exact id
theorem zTf.now {sc : zk_X} {d : Nat} {I : Nat → Nat → Int32} {tg : Option Nat} {P : Option Value → zk_M → Prop} {m q f : Nat} {B : Nat → Nat} {v : Int32} (h : zTf I m B q f) : zk_R sc d 115 0 [some (.ref (11 : Nat)), some (.int v)] [] (zk_mk I tg) P = P (some (.int 0)) (zk_mk I tg) := by
  rw [s115, zb_f (fun w => h.ne w.1)]
theorem zTs.app {sc : zk_X} {d : Nat} {I : Nat → Nat → Int32} {tg : Option Nat} {P : Option Value → zk_M → Prop} {m q p t : Nat} {B : Nat → Nat} {O : List Nat} {v : Int32} (h : zTs I m B q p O) (hq : q < 6) (hv : v = zt_c t) (hn : O.length < 160) (K : ∀ I', zTx q I I' → zTs I' m B q p (O ++ [t]) → P none (zk_mk I' tg)) : zk_R sc d 122 0 [some (.ref (28 + 4 * q)), some (.int v)] [] (zk_mk I tg) P := by
  subst hv
  obtain ⟨h1, h2, h3, h4, h5, h6, h7, h8, h9⟩ := h
  obtain ⟨w1, w2, w3, w4⟩ := zx_83 hq
  have c : ¬ (160 : Int32) ≤ nI O.length := nI_ge (b := 160) (by omega) (by decide)
  have y1 : zk_inb (nI O.length) 160 = true := by rw [zn_in (by omega)]; omega
  have y2 : (nI O.length).toNatClampNeg = O.length := zn_cl (by omega)
  have p1 : (nI O.length + 1 : Int32) = nI (O.length + 1) := zn_add _ 1
  have ne1 : 28 + 4 * q ≠ 29 + 4 * q := by omega
  have r1 : ∀ v, zk_up2 I (29 + 4 * q) O.length v (28 + 4 * q) 3 = I (28 + 4 * q) 3 := fun v => zk_up2_k ne1
  simp only [u122_0, u122_1, u122_4, u122_7, u122_10, u122_11, u122_14, u122_15, u122_18, u122_19, u122_20, u122_21, u122_22, u122_25, u122_26, u122_27, u122_30, zk_mk_1, zk_mk_I, zk_mk_R, zk_mk_set, zk_mk_setR, zk_mk_cpy, zk_rv_some, zk_rv_none, Option.toList_some, Option.toList_none, List.cons_append, List.nil_append, reduceIte, eq_self, Nat.reduceLT, Nat.reduceEqDiff, and_true, true_and, reduceCtorEq, zx_28 hq, zx_29 hq, zx_r0 hq, w1, w2, h8, c, y1, y2, p1, r1]
  have o11 : ∀ j, zk_up2 (zk_up2 I (29 + 4 * q) O.length (zt_c t)) (28 + 4 * q) 3 (nI (O.length + 1)) 11 j = I 11 j := fun j => by rw [zk_up2_k (by omega), zk_up2_k (by omega)]
  refine K _ (fun k a b c => by rw [zk_up2_r b, zk_up2_r c]) ⟨⟨by rw [o11]; exact h1.1, h1.2.1, fun j hj => by rw [zk_up2_k (by omega), zk_up2_k (by omega)]; exact h1.2.2 j hj⟩, h2, by rw [o11]; exact h3, fun e => by rw [o11]; exact h4 e, by rw [o11]; exact h5, by rw [o11]; exact h6, by rw [o11]; exact h7, by rw [zk_up2_s, List.length_append]; rfl, fun k hk => ?_⟩
  rw [zk_up2_k (by omega)]
  rw [List.length_append, List.length_singleton] at hk
  by_cases e : k = O.length
  · rw [e, zk_up2_s, zl_app_at]
  · rw [zk_up2_j e, zl_app_lt (by omega)]
    exact h9 k (by omega)
theorem zTf.app {sc : zk_X} {d : Nat} {I : Nat → Nat → Int32} {tg : Option Nat} {P : Option Value → zk_M → Prop} {m q f : Nat} {B : Nat → Nat} {v : Int32} (h : zTf I m B q f) (hq : q < 6) (K : ∀ I', zTx q I I' → zTf I' m B q f → P none (zk_mk I' tg)) : zk_R sc d 122 0 [some (.ref (28 + 4 * q)), some (.int v)] [] (zk_mk I tg) P := by
  obtain ⟨h1, h2, h3, n, h4, h5⟩ := id h
  obtain ⟨w1, w2, w3, w4⟩ := zx_83 hq
  by_cases cn : n < 160
  · have c : ¬ (160 : Int32) ≤ nI n := nI_ge (b := 160) (by omega) (by decide)
    have y1 : zk_inb (nI n) 160 = true := by rw [zn_in (by omega)]; omega
    have y2 : (nI n).toNatClampNeg = n := zn_cl (by omega)
    have p1 : (nI n + 1 : Int32) = nI (n + 1) := zn_add _ 1
    have ne1 : 28 + 4 * q ≠ 29 + 4 * q := by omega
    have r1 : ∀ v, zk_up2 I (29 + 4 * q) n v (28 + 4 * q) 3 = I (28 + 4 * q) 3 := fun v => zk_up2_k ne1
    simp only [u122_0, u122_1, u122_4, u122_7, u122_10, u122_11, u122_14, u122_15, u122_18, u122_19, u122_20, u122_21, u122_22, u122_25, u122_26, u122_27, u122_30, zk_mk_1, zk_mk_I, zk_mk_R, zk_mk_set, zk_mk_setR, zk_mk_cpy, zk_rv_some, zk_rv_none, Option.toList_some, Option.toList_none, List.cons_append, List.nil_append, reduceIte, eq_self, Nat.reduceLT, Nat.reduceEqDiff, and_true, true_and, reduceCtorEq, zx_28 hq, zx_29 hq, zx_r0 hq, w1, w2, h5, c, y1, y2, p1, r1]
    have o11 : ∀ j, zk_up2 (zk_up2 I (29 + 4 * q) n v) (28 + 4 * q) 3 (nI (n + 1)) 11 j = I 11 j := fun j => by rw [zk_up2_k (by omega), zk_up2_k (by omega)]
    exact K _ (fun k a b c => by rw [zk_up2_r b, zk_up2_r c]) ⟨⟨by rw [o11]; exact h1.1, h1.2.1, fun j hj => by rw [zk_up2_k (by omega), zk_up2_k (by omega)]; exact h1.2.2 j hj⟩, by rw [o11]; exact h2, h3, n + 1, by omega, by rw [zk_up2_s]⟩
  · have c : (160 : Int32) ≤ nI n := by rw [show (160 : Int32) = nI 160 from rfl, zn_le (by decide) (by omega)]; omega
    simp only [u122_0, u122_1, u122_4, u122_7, u122_10, u122_11, u122_14, u122_15, u122_18, u122_19, u122_20, u122_21, u122_22, u122_25, u122_26, u122_27, u122_30, zk_mk_1, zk_mk_I, zk_mk_R, zk_mk_set, zk_mk_setR, zk_mk_cpy, zk_rv_some, zk_rv_none, Option.toList_some, Option.toList_none, List.cons_append, List.nil_append, reduceIte, eq_self, Nat.reduceLT, Nat.reduceEqDiff, and_true, true_and, reduceCtorEq, zx_28 hq, w1, h5, c]
    exact K I (zTx.refl q I) h
theorem zTs.ref {sc : zk_X} {d : Nat} {I : Nat → Nat → Int32} {tg : Option Nat} {P : Option Value → zk_M → Prop} {m q p : Nat} {B : Nat → Nat} {O : List Nat} (h : zTs I m B q p O) (hn : O.length ≤ 160) (K : ∀ I', zTx q I I' → zTf I' m B q (zqa m B p) → P none (zk_mk I' tg)) : zk_R sc d 111 0 [some (.ref (11 : Nat))] [] (zk_mk I tg) P := by
  obtain ⟨h1, h2, h3, h4, h5, h6, h7, h8, h9⟩ := h
  have := zsk_le (m := m) (B := B) 160 p h2
  simp only [u111_0, u111_1, u111_4, u111_5, u111_8, u111_9, u111_10, u111_13, u111_16, zk_mk_1, zk_mk_I, zk_mk_R, zk_mk_set, zk_mk_setR, zk_mk_cpy, zk_rv_some, zk_rv_none, Option.toList_some, Option.toList_none, List.cons_append, List.nil_append, reduceIte, eq_self, Nat.reduceLT, Nat.reduceEqDiff, and_true, true_and, reduceCtorEq, zsh_11, h7, h5]
  by_cases c11 : 11 = 28 + 4 * q
  · omega
  exact K _ (fun k a b c => by rw [zk_up2_r a]) ⟨⟨by rw [zk_up2_j (by decide)]; exact h1.1, h1.2.1, fun j hj => by rw [zk_up2_k (by decide)]; exact h1.2.2 j hj⟩, by rw [zk_up2_s], by have := h1.2.1; show zsk m B 160 p ≤ 160; omega, O.length, hn, by rw [zk_up2_k (by omega)]; exact h8⟩
theorem zTf.ref {sc : zk_X} {d : Nat} {I : Nat → Nat → Int32} {tg : Option Nat} {P : Option Value → zk_M → Prop} {m q f : Nat} {B : Nat → Nat} (h : zTf I m B q f) (K : P none (zk_mk I tg)) : zk_R sc d 111 0 [some (.ref (11 : Nat))] [] (zk_mk I tg) P := by
  simp only [u111_0, u111_1, u111_4, u111_5, u111_8, u111_9, u111_10, u111_13, u111_16, zk_mk_1, zk_mk_I, zk_mk_R, zk_mk_set, zk_mk_setR, zk_mk_cpy, zk_rv_some, zk_rv_none, Option.toList_some, Option.toList_none, List.cons_append, List.nil_append, reduceIte, eq_self, Nat.reduceLT, Nat.reduceEqDiff, and_true, true_and, reduceCtorEq, zsh_11, h.ne]
  exact K
theorem zTs.adv {sc : zk_X} {d : Nat} {I : Nat → Nat → Int32} {tg : Option Nat} {P : Option Value → zk_M → Prop} {m q p : Nat} {B : Nat → Nat} {O : List Nat} (h : zTs I m B q p O) (K : ∀ I', zTx q I I' → zTs I' m B q (zqb m B p) O → P none (zk_mk I' tg)) : zk_R sc (d + 2) 103 0 [some (.ref (11 : Nat)), none] [] (zk_mk I tg) P := by
  obtain ⟨h1, h2, h3, h4, h5, h6, h7, h8, h9⟩ := h
  have ha := zsk_le (m := m) (B := B) 160 p h2
  have hb : zqb m B p ≤ m := (zye_le (B := B) ha.2).2
  refine s103 h1 h6 hb ?_
  intro I' f1 f2 g3 g4 g5 g6
  exact K I' (fun k a b c => f1 k a) ⟨⟨by rw [f2 1 (by decide)]; exact h1.1, h1.2.1, fun j hj => by rw [f1 12 (by decide)]; exact h1.2.2 j hj⟩, hb, g3, g4, g5, g6, by rw [f2 7 (by decide)]; exact h7, by rw [f1 _ (by omega)]; exact h8, fun k hk => by rw [f1 _ (by omega)]; exact h9 k hk⟩
theorem zTs.exp {sc : zk_X} {d : Nat} {I : Nat → Nat → Int32} {tg : Option Nat} {P : Option Value → zk_M → Prop} {m q p k : Nat} {B : Nat → Nat} {O : List Nat} {v : Int32} (h : zTs I m B q p O) (hn : O.length ≤ 160) (hk : k < 100) (hk2 : ¬ k = 2) (hv : v = nI k) (K : ∀ I', zTx q I I' → (zqc m B p = k ∧ zTs I' m B q (zqb m B p) O) ∨ (¬ zqc m B p = k ∧ zTf I' m B q (zqa m B p)) → P none (zk_mk I' tg)) : zk_R sc (d + 3) 110 0 [some (.ref (11 : Nat)), some (.int v)] [] (zk_mk I tg) P := by
  have e7 := h.2.2.2.2.2.2.1
  have e3 : (I 11 3 = v) = (zqc m B p = k) := by rw [h.2.2.1, ztk_eq h.ok hk hk2 hv]
  simp only [u110_0, u110_1, u110_4, u110_5, u110_8, u110_9, u110_12, u110_13, u110_16, u110_17, u110_20, u110_23, u110_24, u110_27, zk_mk_1, zk_mk_I, zk_mk_R, zk_mk_set, zk_mk_setR, zk_mk_cpy, zk_rv_some, zk_rv_none, Option.toList_some, Option.toList_none, List.cons_append, List.nil_append, reduceIte, eq_self, Nat.reduceLT, Nat.reduceEqDiff, and_true, true_and, reduceCtorEq, zsh_11, e7, e3]
  by_cases c : zqc m B p = k
  · rw [if_pos c]
    refine h.adv ?_
    intro I' f g
    simp only [u110_0, u110_1, u110_4, u110_5, u110_8, u110_9, u110_12, u110_13, u110_16, u110_17, u110_20, u110_23, u110_24, u110_27, zk_mk_1, zk_mk_I, zk_mk_R, zk_mk_set, zk_mk_setR, zk_mk_cpy, zk_rv_some, zk_rv_none, Option.toList_some, Option.toList_none, List.cons_append, List.nil_append, reduceIte, eq_self, Nat.reduceLT, Nat.reduceEqDiff, and_true, true_and, reduceCtorEq]
    exact K I' f (Or.inl ⟨c, g⟩)
  · rw [if_neg c]
    refine h.ref hn ?_
    intro I' f g
    simp only [u110_0, u110_1, u110_4, u110_5, u110_8, u110_9, u110_12, u110_13, u110_16, u110_17, u110_20, u110_23, u110_24, u110_27, zk_mk_1, zk_mk_I, zk_mk_R, zk_mk_set, zk_mk_setR, zk_mk_cpy, zk_rv_some, zk_rv_none, Option.toList_some, Option.toList_none, List.cons_append, List.nil_append, reduceIte, eq_self, Nat.reduceLT, Nat.reduceEqDiff, and_true, true_and, reduceCtorEq]
    exact K I' f (Or.inr ⟨c, g⟩)
theorem zTf.exp {sc : zk_X} {d : Nat} {I : Nat → Nat → Int32} {tg : Option Nat} {P : Option Value → zk_M → Prop} {m q f : Nat} {B : Nat → Nat} {v : Int32} (h : zTf I m B q f) (K : P none (zk_mk I tg)) : zk_R sc (d + 3) 110 0 [some (.ref (11 : Nat)), some (.int v)] [] (zk_mk I tg) P := by
  simp only [u110_0, u110_1, u110_4, u110_5, u110_8, u110_9, u110_12, u110_13, u110_16, u110_17, u110_20, u110_23, u110_24, u110_27, zk_mk_1, zk_mk_I, zk_mk_R, zk_mk_set, zk_mk_setR, zk_mk_cpy, zk_rv_some, zk_rv_none, Option.toList_some, Option.toList_none, List.cons_append, List.nil_append, reduceIte, eq_self, Nat.reduceLT, Nat.reduceEqDiff, and_true, true_and, reduceCtorEq, zsh_11, h.ne]
  refine h.ref ?_
  simp only [u110_0, u110_1, u110_4, u110_5, u110_8, u110_9, u110_12, u110_13, u110_16, u110_17, u110_20, u110_23, u110_24, u110_27, zk_mk_1, zk_mk_I, zk_mk_R, zk_mk_set, zk_mk_setR, zk_mk_cpy, zk_rv_some, zk_rv_none, Option.toList_some, Option.toList_none, List.cons_append, List.nil_append, reduceIte, eq_self, Nat.reduceLT, Nat.reduceEqDiff, and_true, true_and, reduceCtorEq]
  exact K
