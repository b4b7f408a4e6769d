/-! what stays, and the rows of all sums -/
def zKp (j : Nat) : Bool := decide (j ≤ 13) || (j == 26) || (decide (28 ≤ j) && decide (j < 52) && !(j % 4 == 3)) || (decide (52 ≤ j) && decide (j ≤ 74))
def zF (I I' : Nat → Nat → Int32) : Prop := ∀ j, zKp j = true → I' j = I j
theorem zF_refl (I : Nat → Nat → Int32) : zF I I := fun _ _ => rfl
theorem zF.trans {I I' I'' : Nat → Nat → Int32} (h : zF I I') (h' : zF I' I'') : zF I I'' := fun j hj => by rw [h' j hj, h j hj]
theorem zKp_no {j : Nat} (h : zKp j = true) : j ≠ 14 ∧ ¬ (28 ≤ j ∧ j < 52 ∧ j % 4 = 3) ∧ j ≠ 15 ∧ ¬ (16 ≤ j ∧ j ≤ 25) ∧ j ≠ 27 ∧ ¬ (75 ≤ j) := by
  unfold zKp at h
  simp at h
  omega
theorem zf1.F {I I' : Nat → Nat → Int32} (h : zf1 I I') : zF I I' := fun j hj => h j (zKp_no hj).1 (zKp_no hj).2.1
theorem zg1.F {I I' : Nat → Nat → Int32} (h : zg1 I I') : zF I I' := fun j hj => h j (by have := zKp_no hj; omega) (by have := zKp_no hj; omega)
theorem zF.up {I I' : Nat → Nat → Int32} {k a : Nat} {v : Int32} (h : zF I I') (hk : zKp k = false) : zF I (zk_up2 I' k a v) := fun j hj => by
  rw [zk_up2_r (fun e => by rw [e, hk] at hj; cases hj)]
  exact h j hj
theorem zF.tab {I I' : Nat → Nat → Int32} {n : Nat} (h : zF I I') (hj : zj_tab I n) : zj_tab I' n := by
  unfold zj_tab zj_card at *
  rw [h 1 rfl, h 60 rfl, h 2 rfl, h 3 rfl, h 4 rfl, h 5 rfl, h 61 rfl, h 62 rfl, h 63 rfl, h 64 rfl]
  exact hj
theorem zKp_29 {t : Nat} (ht : t < 6) : zKp (29 + 4 * t) = true ∧ zKp (30 + 4 * t) = true := by
  unfold zKp
  simp
  omega
theorem zF.text {I I' : Nat → Nat → Int32} {t : Nat} {T e : Nat → Nat} (h : zF I I') (ht : t < 6) (hx : zj_text I t T e) : zj_text I' t T e := by
  unfold zj_text at *
  rw [h _ (zKp_29 ht).1, h _ (zKp_29 ht).2, h 66 rfl, h 67 rfl]
  exact hx
theorem zF.said {I I' : Nat → Nat → Int32} {n p c : Nat} {T e : Nat → Nat} {left : Int32} (h : zF I I') : zv_said I' n T e p c left = zv_said I n T e p c left := by
  unfold zv_said
  have : zv_nm I' n c left = zv_nm I n c left := by
    funext j
    unfold zv_nm
    rw [h 2 rfl, h 3 rfl, h 4 rfl]
  rw [this]
theorem zF.cnt {I I' : Nat → Nat → Int32} {n c : Nat} {T e : Nat → Nat} {left : Int32} (h : zF I I') : zv_cnt I' n T e c left = zv_cnt I n T e c left := by
  unfold zv_cnt
  rw [h.said, h 2 rfl, h 4 rfl]
/-- what a card counts, as it lies -/
def zv_now (I : Nat → Nat → Int32) (n : Nat) (T e : Nat → Nat) (c : Nat) : Int32 := zv_cnt I n T e c (zb (I 5 c = 1))
theorem zF.now {I I' : Nat → Nat → Int32} {n c : Nat} {T e : Nat → Nat} (h : zF I I') : zv_now I' n T e c = zv_now I n T e c := by
  unfold zv_now
  rw [h.cnt, h 5 rfl]
theorem s17 {sc : zk_X} {d : Nat} {I : Nat → Nat → Int32} {tg : Option Nat} {P : Option Value → zk_M → Prop} {n t : Nat} {T e : Nat → Nat} (hj : zj_tab I n) (ht : t < 6) (hx : zj_text I t T e)
    (K : ∀ I' : Nat → Nat → Int32, zF I I' → (∀ c, c < n → I' 16 c = zv_now I n T e c) → I' 15 3 = nI (2 ^ n - 1) → P none (zk_mk I' tg)) : zk_R sc (d + 4) 17 0 [some (.ref (0 : Nat)), some (.ref (28 + 4 * t)), none] [] (zk_mk I tg) P := by
  have h10 := hj.2.2.1
  have hn := hj.1
  have p10 := zp_10 h10
  obtain ⟨w1, w2, w3, w4⟩ := zx_83 ht
  have loop := zl_up (τ := Nat → Nat → Int32) (fun i I' => zk_R sc (d + 4) 17 2 [some (.ref (0 : Nat)), some (.ref (28 + 4 * t)), some (.int (nI i))] [] (zk_mk I' tg) P)
    (fun i I' => zF I I' ∧ ∀ c, c < i → I' 16 c = zv_now I n T e c) n (by
      rintro I' ⟨h1, h2⟩
      have e1 : I' 1 = I 1 := h1 1 rfl
      show zk_R sc (d + 4) 17 2 [some (.ref (0 : Nat)), some (.ref (28 + 4 * t)), some (.int (nI n))] [] (zk_mk I' tg) P
      rw [u17_2]
      simp only [u17_0, u17_1, u17_3, u17_4, u17_7, u17_10, u17_13, u17_14, u17_17, u17_20, u17_21, u17_22, u17_23, u17_24, u17_25, u17_28, u17_29, u17_32, u17_35, u17_36, u17_39, u17_42, u17_43, u17_46, u17_47, u17_48, u17_51, u17_54, u17_55, u17_56, u17_57, u17_60, zk_mk_1, zk_mk_I, zk_mk_R, zk_mk_set, zk_mk_setR, zk_mk_cpy, zk_rv_some, zk_rv_none, Option.toList_some, Option.toList_none, List.cons_append, List.nil_append, reduceIte, eq_self, Nat.reduceLT, Nat.reduceEqDiff, and_true, true_and, reduceCtorEq, zsh_0, zsh_1, zsh_15, zrf_0_0, zrf_0_7, e1, hn]
      rw [if_pos (nI_le (Nat.le_refl _) (by omega)), zq_all h10, show nI (2 ^ n) - 1 = nI (2 ^ n - 1) from zn_sub (b := 1) (by omega)]
      exact K _ (h1.up rfl) (fun c hc => by rw [zk_up2_k (by decide)]; exact h2 c hc) zk_up2_s) (by
      rintro i I' hi ⟨h1, h2⟩ ih
      have e1 : I' 1 = I 1 := h1 1 rfl
      have e5 : I' 5 = I 5 := h1 5 rfl
      show zk_R sc (d + 4) 17 2 [some (.ref (0 : Nat)), some (.ref (28 + 4 * t)), some (.int (nI i))] [] (zk_mk I' tg) P
      rw [u17_2]
      simp only [u17_0, u17_1, u17_3, u17_4, u17_7, u17_10, u17_13, u17_14, u17_17, u17_20, u17_21, u17_22, u17_23, u17_24, u17_25, u17_28, u17_29, u17_32, u17_35, u17_36, u17_39, u17_42, u17_43, u17_46, u17_47, u17_48, u17_51, u17_54, u17_55, u17_56, u17_57, u17_60, zk_mk_1, zk_mk_I, zk_mk_R, zk_mk_set, zk_mk_setR, zk_mk_cpy, zk_rv_some, zk_rv_none, Option.toList_some, Option.toList_none, List.cons_append, List.nil_append, reduceIte, eq_self, Nat.reduceLT, Nat.reduceEqDiff, and_true, true_and, reduceCtorEq, zsh_0, zsh_1, zsh_15, zsh_16, zrf_0_0, zrf_0_7, zrf_15_0, e1, hn]
      rw [if_neg (nI_ge hi (by omega)), s96 (by omega)]
      simp only [u17_0, u17_1, u17_3, u17_4, u17_7, u17_10, u17_13, u17_14, u17_17, u17_20, u17_21, u17_22, u17_23, u17_24, u17_25, u17_28, u17_29, u17_32, u17_35, u17_36, u17_39, u17_42, u17_43, u17_46, u17_47, u17_48, u17_51, u17_54, u17_55, u17_56, u17_57, u17_60, zk_mk_1, zk_mk_I, zk_mk_R, zk_mk_set, zk_mk_setR, zk_mk_cpy, zk_rv_some, zk_rv_none, Option.toList_some, Option.toList_none, List.cons_append, List.nil_append, reduceIte, eq_self, Nat.reduceLT, Nat.reduceEqDiff, and_true, true_and, reduceCtorEq, zsh_0, zsh_1, zsh_15, zsh_16, zrf_0_0, zrf_0_7, zrf_15_0, zx_28 ht, w1, e5]
      refine s14 (h1.tab hj) ht hi (h1.text ht hx) (fun I2 hz => ?_)
      simp only [u17_0, u17_1, u17_3, u17_4, u17_7, u17_10, u17_13, u17_14, u17_17, u17_20, u17_21, u17_22, u17_23, u17_24, u17_25, u17_28, u17_29, u17_32, u17_35, u17_36, u17_39, u17_42, u17_43, u17_46, u17_47, u17_48, u17_51, u17_54, u17_55, u17_56, u17_57, u17_60, zk_mk_1, zk_mk_I, zk_mk_R, zk_mk_set, zk_mk_setR, zk_mk_cpy, zk_rv_some, zk_rv_none, Option.toList_some, Option.toList_none, List.cons_append, List.nil_append, reduceIte, eq_self, Nat.reduceLT, Nat.reduceEqDiff, and_true, true_and, reduceCtorEq, zsh_16]
      simp (disch := omega) only [zn_in, zn_cl, nI_1]
      refine ⟨by omega, ?_⟩
      refine ih _ ⟨(h1.trans hz.F).up rfl, fun c hc => ?_⟩
      rw [h1.cnt, zk_up2_i]
      by_cases hci : c = i
      · rw [if_pos hci, hci]; rfl
      · rw [if_neg hci, hz 16 (by decide) (by decide)]; exact h2 c (by omega))
  simp only [u17_0, u17_1, u17_3, u17_4, u17_7, u17_10, u17_13, u17_14, u17_17, u17_20, u17_21, u17_22, u17_23, u17_24, u17_25, u17_28, u17_29, u17_32, u17_35, u17_36, u17_39, u17_42, u17_43, u17_46, u17_47, u17_48, u17_51, u17_54, u17_55, u17_56, u17_57, u17_60, zk_mk_1, zk_mk_I, zk_mk_R, zk_mk_set, zk_mk_setR, zk_mk_cpy, zk_rv_some, zk_rv_none, Option.toList_some, Option.toList_none, List.cons_append, List.nil_append, reduceIte, eq_self, Nat.reduceLT, Nat.reduceEqDiff, and_true, true_and, reduceCtorEq]
  exact loop 0 I (Nat.zero_le _) ⟨zF_refl I, fun c hc => absurd hc (Nat.not_lt_zero _)⟩
theorem zsum_low {a : Nat → Int32} {h g : Nat} : ∀ c, (∀ i, i < c → h / 2 ^ i % 2 = g / 2 ^ i % 2) → zsum a h c = zsum a g c
  | 0, _ => rfl
  | c + 1, k => by
    unfold zsum
    rw [zsum_low c (fun i hi => k i (by omega)), k c (by omega)]
theorem zs_hi {a : Nat → Int32} {c g : Nat} (hg : g < 2 ^ c) : zsum a (2 ^ c + g) (c + 1) = zsum a g c + a c := by
  show zsum a (2 ^ c + g) c + (if (2 ^ c + g) / 2 ^ c % 2 = 1 then a c else 0) = _
  have e1 : (2 ^ c + g) / 2 ^ c % 2 = 1 := by
    have hp : 0 < 2 ^ c := Nat.two_pow_pos c
    rw [Nat.add_div_left g hp, Nat.div_eq_of_lt hg]
  have e2 : zsum a (2 ^ c + g) c = zsum a g c := by
    refine zsum_low c (fun i hi => ?_)
    have hp : 0 < 2 ^ i := Nat.two_pow_pos i
    have : 2 ^ c = 2 ^ i * (2 * 2 ^ (c - i - 1)) := by
      rw [← Nat.pow_succ', ← Nat.pow_add]; congr 1; omega
    rw [this, Nat.mul_add_div hp, Nat.mul_add_mod]
  rw [e1, e2, if_pos rfl]
theorem zs_lo {a : Nat → Int32} {c g : Nat} (hg : g < 2 ^ c) : zsum a g (c + 1) = zsum a g c := by
  show zsum a g c + (if g / 2 ^ c % 2 = 1 then a c else 0) = _
  rw [Nat.div_eq_of_lt hg]
  simp
theorem zor_add {c g : Nat} (hg : g < 2 ^ c) : g ||| 2 ^ c = 2 ^ c + g := by
  rw [Nat.or_comm]
  have := Nat.two_pow_add_eq_or_of_lt hg 1
  rw [Nat.mul_one] at this
  exact this.symm
/-- rows of sums and squares -/
def zv_rows (I' : Nat → Nat → Int32) (a b : Nat) (cnt : Nat → Int32) (n : Nat) : Prop := ∀ h, h < 2 ^ n → I' a h = zsum cnt h n ∧ I' b h = zsum (fun c => cnt c * cnt c) h n
