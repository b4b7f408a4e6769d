/-! taken: heaps -/
theorem s216 {sc : zk_X} {d : Nat} {M : zk_M} {P : Option Value → zk_M → Prop} {k q : Int32} : zk_R sc d 216 0 [some (.int k), some (.int q)] [] M P = P (some (.int (zb (zA_under k q)))) M := by
  simp only [u216_0, u216_1, u216_4, u216_5, u216_6, u216_9, u216_10, u216_11, u216_14, u216_15, u216_16, u216_19, u216_20, u216_21, u216_24, u216_25, u216_26, u216_29, u216_30, u216_33, u216_34, true_and, or_true, true_or, zb, zA_under]
  by_cases h1 : q = 0
  · simp [h1]
  · by_cases h2 : k = q
    · simp [h1, h2]
    · by_cases h3 : q = 1 <;> by_cases h4 : k = 3 <;> by_cases h5 : q = 2 <;> by_cases h6 : k = 4 <;> simp_all
def zA_tk (I : Nat → Nat → Int32) (n : Nat) (T e : Nat → Nat) (h : Nat) (kind : Int32) : Int32 := if h = 0 then -100011 else if kind = 6 then zsum (zv_now I n T e) h n else -100013
theorem s59 {sc : zk_X} {d : Nat} {I : Nat → Nat → Int32} {tg : Option Nat} {P : Option Value → zk_M → Prop} {n t h : Nat} {T e : Nat → Nat} {kind : Int32} (hq : zj_q I n t T e) (hh : h < 2 ^ n)
    (K : ∀ I' : Nat → Nat → Int32, zF I I' → P (some (.int (zA_tk I n T e h kind))) (zk_mk I' tg)) : zk_R sc (d + 5) 59 0 [some (.ref (0 : Nat)), some (.int (nI h)), some (.int kind)] [] (zk_mk I tg) P := by
  obtain ⟨hj, hl, hr, ht, hx⟩ := hq
  obtain ⟨w1, w2, w3, w4⟩ := zx_83 ht
  have p10 := zp_10 hj.2.2.1
  have y1 : (nI h = 0) = (h = 0) := zn_eq (b := 0) (by omega) (by decide)
  unfold zA_tk at K
  simp only [u59_0, u59_1, u59_4, u59_7, u59_8, u59_9, u59_11, u59_14, u59_17, u59_18, u59_19, u59_20, u59_23, u59_26, u59_27, u59_30, u59_31, u59_34, zk_mk_1, zk_mk_I, zk_mk_R, zk_mk_set, zk_mk_setR, zk_mk_cpy, zk_rv_some, zk_rv_none, Option.toList_some, Option.toList_none, List.cons_append, List.nil_append, reduceIte, eq_self, Nat.reduceLT, Nat.reduceEqDiff, and_true, true_and, reduceCtorEq, zsh_0, y1, s7 ht hl, zx_28 ht, w1]
  by_cases h0 : h = 0
  · rw [if_pos h0] at K ⊢
    exact K I (zF_refl I)
  · rw [if_neg h0] at K ⊢
    by_cases h6 : kind = 6
    · rw [if_pos h6] at K ⊢
      refine s17 hj ht hx (fun I' h1 h2 h3 => ?_)
      simp only [u59_0, u59_1, u59_4, u59_7, u59_8, u59_9, u59_11, u59_14, u59_17, u59_18, u59_19, u59_20, u59_23, u59_26, u59_27, u59_30, u59_31, u59_34, zk_mk_1, zk_mk_I, zk_mk_R, zk_mk_set, zk_mk_setR, zk_mk_cpy, zk_rv_some, zk_rv_none, Option.toList_some, Option.toList_none, List.cons_append, List.nil_append, reduceIte, eq_self, Nat.reduceLT, Nat.reduceEqDiff, and_true, true_and, reduceCtorEq, zsh_0, zsh_15, zrf_0_7]
      rw [s62 (by omega)]
      simp only [u59_0, u59_1, u59_4, u59_7, u59_8, u59_9, u59_11, u59_14, u59_17, u59_18, u59_19, u59_20, u59_23, u59_26, u59_27, u59_30, u59_31, u59_34, zk_mk_1, zk_mk_I, zk_mk_R, zk_mk_set, zk_mk_setR, zk_mk_cpy, zk_rv_some, zk_rv_none, Option.toList_some, Option.toList_none, List.cons_append, List.nil_append, reduceIte, eq_self, Nat.reduceLT, Nat.reduceEqDiff, and_true, true_and, reduceCtorEq]
      rw [zv_sum hj.2.2.1 hh h2]
      exact K I' h1
    · rw [if_neg h6] at K ⊢
      exact K I (zF_refl I)
theorem s215 {sc : zk_X} {d : Nat} {I : Nat → Nat → Int32} {tg : Option Nat} {P : Option Value → zk_M → Prop} {n t h : Nat} {T e : Nat → Nat} {kind : Int32} (hq : zj_q I n t T e) (hh : h < 2 ^ n)
    (K : ∀ I' : Nat → Nat → Int32, zF I I' → P (some (.int (zA_tk I n T e h kind))) (zk_mk I' tg)) : zk_R sc (d + 6) 215 0 [some (.ref (60 : Nat)), some (.int (nI h)), some (.int kind)] [] (zk_mk I tg) P := by
  obtain ⟨hj, hl, hr, ht, hx⟩ := hq
  have p10 := zp_10 hj.2.2.1
  have y1 : (nI h = 0) = (h = 0) := zn_eq (b := 0) (by omega) (by decide)
  unfold zA_tk at K
  simp only [u215_0, u215_1, u215_4, u215_7, u215_8, u215_9, u215_12, u215_13, u215_15, u215_18, u215_19, u215_22, u215_23, u215_24, u215_27, u215_30, zk_mk_1, zk_mk_I, zk_mk_R, zk_mk_set, zk_mk_setR, zk_mk_cpy, zk_rv_some, zk_rv_none, Option.toList_some, Option.toList_none, List.cons_append, List.nil_append, reduceIte, eq_self, Nat.reduceLT, Nat.reduceEqDiff, and_true, true_and, reduceCtorEq, zsh_60, y1]
  by_cases h0 : h = 0
  · rw [if_pos h0] at K ⊢
    exact K I (zF_refl I)
  · rw [if_neg h0] at K ⊢
    refine s162 hj ht hr hx (fun I' h1 h2 h3 => ?_)
    have K2 := K I' h1
    simp only [u215_0, u215_1, u215_4, u215_7, u215_8, u215_9, u215_12, u215_13, u215_15, u215_18, u215_19, u215_22, u215_23, u215_24, u215_27, u215_30, zk_mk_1, zk_mk_I, zk_mk_R, zk_mk_set, zk_mk_setR, zk_mk_cpy, zk_rv_some, zk_rv_none, Option.toList_some, Option.toList_none, List.cons_append, List.nil_append, reduceIte, eq_self, Nat.reduceLT, Nat.reduceEqDiff, and_true, true_and, reduceCtorEq, zsh_60, zsh_78, zrf_60_31]
    simp (disch := omega) only [zn_in, zn_cl]
    rw [(h3 h hh).1]
    by_cases h6 : kind = 6
    · rw [if_pos h6] at K2 ⊢
      exact ⟨by omega, K2⟩
    · rw [if_neg h6] at K2 ⊢
      exact K2
