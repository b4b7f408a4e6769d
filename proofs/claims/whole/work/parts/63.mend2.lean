/-! mend by both -/
def zA_mend (I : Nat → Nat → Int32) (n : Nat) (T e : Nat → Nat) (most what : Int32) : Int32 := if (0 ≤ most ∧ most ≤ 9999) ∧ 0 ≤ what ∧ what ≤ 1 then (if what = 0 then (zmend I n T e most).2 else (zmend I n T e most).1) else -2
theorem zmend_F {I I' : Nat → Nat → Int32} {n : Nat} {T e : Nat → Nat} {most : Int32} (h : zF I I') : zmend I' n T e most = zmend I n T e most := by
  have e5 : ∀ q, zv_lie I' n q = zv_lie I n q := fun q => by unfold zv_lie; rw [h 5 rfl]
  unfold zmend
  rw [h.nowf, h.mv, e5, e5, h.may, h.may]
theorem s28 {sc : zk_X} {d : Nat} {I : Nat → Nat → Int32} {tg : Option Nat} {P : Option Value → zk_M → Prop} {n t : Nat} {T e : Nat → Nat} {most what : Int32} (hq : zj_q I n t T e)
    (K : ∀ I' : Nat → Nat → Int32, zF I I' → P (some (.int (zA_mend I n T e most what))) (zk_mk I' tg)) : zk_R sc (d + 6) 28 0 [some (.ref (0 : Nat)), some (.int most), some (.int what)] [] (zk_mk I tg) P := by
  have hq0 := hq
  obtain ⟨hj, hl, hr, ht, hx⟩ := hq
  obtain ⟨b0, b1, b2, b3⟩ := zi_lit4
  obtain ⟨c0, c1, c2, c3⟩ := zi_cl4
  unfold zA_mend at K
  simp only [u28_0, u28_1, u28_4, u28_5, u28_8, u28_11, u28_12, u28_15, u28_16, u28_17, u28_20, u28_22, u28_23, u28_24, u28_27, u28_28, u28_29, u28_32, u28_33, u28_36, u28_37, u28_38, zk_mk_1, zk_mk_I, zk_mk_R, zk_mk_set, zk_mk_setR, zk_mk_cpy, zk_rv_some, zk_rv_none, Option.toList_some, Option.toList_none, List.cons_append, List.nil_append, reduceIte, eq_self, Nat.reduceLT, Nat.reduceEqDiff, and_true, true_and, reduceCtorEq, zsh_0]
  by_cases hw : (0 ≤ most ∧ most ≤ 9999) ∧ 0 ≤ what ∧ what ≤ 1
  · rw [if_pos hw] at K
    rw [if_neg (Int32.not_lt.mpr hw.1.1), if_neg (Int32.not_lt.mpr hw.1.2), if_neg (Int32.not_lt.mpr hw.2.1), if_pos hw.2.2]
    refine s21 hj ht hl hx (fun I' h1 h2 h3 h4 => ?_)
    simp only [u28_0, u28_1, u28_4, u28_5, u28_8, u28_11, u28_12, u28_15, u28_16, u28_17, u28_20, u28_22, u28_23, u28_24, u28_27, u28_28, u28_29, u28_32, u28_33, u28_36, u28_37, u28_38, zk_mk_1, zk_mk_I, zk_mk_R, zk_mk_set, zk_mk_setR, zk_mk_cpy, zk_rv_some, zk_rv_none, Option.toList_some, Option.toList_none, List.cons_append, List.nil_append, reduceIte, eq_self, Nat.reduceLT, Nat.reduceEqDiff, and_true, true_and, reduceCtorEq, zsh_0]
    refine s29 (h1.q hq0) h3 (fun h hh => by rw [h1.nowf]; exact (h4 h hh).1) (fun I2 g1 g2 g3 => ?_)
    rw [zmend_F h1] at g2 g3
    have K2 := K I2 (h1.trans g1)
    simp only [u28_0, u28_1, u28_4, u28_5, u28_8, u28_11, u28_12, u28_15, u28_16, u28_17, u28_20, u28_22, u28_23, u28_24, u28_27, u28_28, u28_29, u28_32, u28_33, u28_36, u28_37, u28_38, zk_mk_1, zk_mk_I, zk_mk_R, zk_mk_set, zk_mk_setR, zk_mk_cpy, zk_rv_some, zk_rv_none, Option.toList_some, Option.toList_none, List.cons_append, List.nil_append, reduceIte, eq_self, Nat.reduceLT, Nat.reduceEqDiff, and_true, true_and, reduceCtorEq, zsh_0, zsh_27, zrf_0_9]
    rcases zw_01 hw.2 with rfl | rfl
    · rw [c0, g2]; exact ⟨b0, K2⟩
    · rw [c1, g3]; exact ⟨b1, K2⟩
  · rw [if_neg hw] at K
    have K2 := K I (zF_refl I)
    split
    · exact K2
    · next q1 =>
      split
      · exact K2
      · next q2 =>
        split
        · exact K2
        · next q3 =>
          rw [if_neg (fun q => hw ⟨⟨Int32.not_lt.mp q1, Int32.not_lt.mp q2⟩, Int32.not_lt.mp q3, q⟩)]
          exact K2
theorem s178 {sc : zk_X} {d : Nat} {I : Nat → Nat → Int32} {tg : Option Nat} {P : Option Value → zk_M → Prop} {n t a : Nat} {T e : Nat → Nat} (hj : zj_tab I n) (ht : t < 6) (hr : I 60 10 = nI t) (hx : zj_text I t T e) (ha : a < 2 ^ n) (hsub : zdf a (zv_lie I n 1 ||| zv_lie I n 2) = 0)
    (K : ∀ I' : Nat → Nat → Int32, zg1 I I' → P (some (.int (zmcost (zmv I n T e) n (zv_lie I n 1) a))) (zk_mk I' tg)) : zk_R sc (d + 5) 178 0 [some (.ref (60 : Nat)), some (.int (nI a)), none, none, none] [] (zk_mk I tg) P := by
  have h10 := hj.2.2.1
  have p10 := zp_10 h10
  unfold zmcost at K
  have hbit : ∀ c, c < n → (((a ^^^ zv_lie I n 1) / 2 ^ c % 2 = 1) = ((I 5 c = 1 ∧ ¬ a / 2 ^ c % 2 = 1) ∨ (I 5 c = 2 ∧ a / 2 ^ c % 2 = 1))) := by
    intro c hc
    have h1 := Nat.testBit_xor a (zv_lie I n 1) c
    have h2 : (zv_lie I n 1).testBit c = decide (I 5 c = 1) := by unfold zv_lie; rw [zset_bit, decide_eq_true hc, Bool.true_and]
    have h3 : (zv_lie I n 1 ||| zv_lie I n 2).testBit c = (decide (I 5 c = 1) || decide (I 5 c = 2)) := by
      rw [Nat.testBit_or]; unfold zv_lie; rw [zset_bit, zset_bit, decide_eq_true hc, Bool.true_and, Bool.true_and]
    have h4 := zle_iff.mp hsub c
    rw [h2, Nat.testBit_eq_decide_div_mod_eq, Nat.testBit_eq_decide_div_mod_eq] at h1
    rw [h3, Nat.testBit_eq_decide_div_mod_eq] at h4
    apply propext
    by_cases k1 : a / 2 ^ c % 2 = 1
    · have h5 := h4 (decide_eq_true k1)
      by_cases k2 : I 5 c = 1
      · rw [decide_eq_true k1, decide_eq_true k2] at h1
        have h6 : ¬ (a ^^^ zv_lie I n 1) / 2 ^ c % 2 = 1 := of_decide_eq_false h1
        have k3 : ¬ I 5 c = 2 := by rw [k2]; decide
        constructor
        · intro q; exact absurd q h6
        · intro q; exact q.elim (fun w => absurd k1 w.2) (fun w => absurd w.1 k3)
      · rw [decide_eq_true k1, decide_eq_false k2] at h1
        rw [decide_eq_false k2, Bool.false_or, decide_eq_true_eq] at h5
        exact ⟨fun _ => Or.inr ⟨h5, k1⟩, fun _ => of_decide_eq_true h1⟩
    · by_cases k2 : I 5 c = 1
      · rw [decide_eq_false k1, decide_eq_true k2] at h1
        exact ⟨fun _ => Or.inl ⟨k2, k1⟩, fun _ => of_decide_eq_true h1⟩
      · rw [decide_eq_false k1, decide_eq_false k2] at h1
        have h6 : ¬ (a ^^^ zv_lie I n 1) / 2 ^ c % 2 = 1 := of_decide_eq_false h1
        constructor
        · intro q; exact absurd q h6
        · intro q; exact q.elim (fun w => absurd w.1 k2) (fun w => absurd w.2 k1)
  have loop := zl_up (τ := (Nat → Nat → Int32) × Option Value) (fun i q => zk_R sc (d + 5) 178 4 [some (.ref (60 : Nat)), some (.int (nI a)), some (.int (zsum (zmv I n T e) (a ^^^ zv_lie I n 1) i)), some (.int (nI i)), q.2] [] (zk_mk q.1 tg) P)
    (fun i q => zg1 I q.1) n (by
      rintro ⟨I', x⟩ hg
      have e60 : I' 60 = I 60 := hg 60 (by decide) (by decide)
      show zk_R sc (d + 5) 178 4 [some (.ref (60 : Nat)), some (.int (nI a)), some (.int (zsum (zmv I n T e) (a ^^^ zv_lie I n 1) n)), some (.int (nI n)), x] [] (zk_mk I' tg) P
      rw [u178_4]
      simp only [u178_0, u178_1, u178_2, u178_3, u178_5, u178_6, u178_9, u178_12, u178_13, u178_16, u178_17, u178_18, u178_19, u178_22, u178_23, u178_24, u178_25, u178_26, u178_27, u178_30, u178_31, u178_34, u178_35, u178_36, u178_37, u178_40, u178_41, u178_42, u178_43, u178_44, u178_45, u178_46, u178_49, u178_50, u178_53, u178_54, u178_56, u178_57, u178_59, u178_62, u178_63, u178_64, u178_67, u178_70, u178_71, u178_72, u178_73, u178_76, u178_79, u178_80, zk_mk_1, zk_mk_I, zk_mk_R, zk_mk_set, zk_mk_setR, zk_mk_cpy, zk_rv_some, zk_rv_none, Option.toList_some, Option.toList_none, List.cons_append, List.nil_append, reduceIte, eq_self, Nat.reduceLT, Nat.reduceEqDiff, and_true, true_and, reduceCtorEq, zsh_60, e60, hj.2.1]
      rw [if_pos (nI_le (Nat.le_refl _) (by omega))]
      exact K I' hg) (by
      rintro i ⟨I', x⟩ hi hg ih
      have hg : zg1 I I' := hg
      have e60 : I' 60 = I 60 := hg 60 (by decide) (by decide)
      have e64 : I' 64 i = I 5 i := by rw [hg 64 (by decide) (by decide)]; exact zj_side hj hi
      have z1 : zk_inb (nI i) 10 = true := by rw [zn_in (by omega)]; omega
      have z2 : (nI i).toNatClampNeg = i := zn_cl (by omega)
      have y1 : (nI (a / 2 ^ i % 2) = 0) = ¬ (a / 2 ^ i % 2 = 1) := by
        rw [show (0 : Int32) = nI 0 from rfl, zn_eq (by omega) (by decide)]
        apply propext; omega
      have y2 : (nI (a / 2 ^ i % 2) = 1) = (a / 2 ^ i % 2 = 1) := zn_eq (b := 1) (by omega) (by decide)
      have hz : zsum (zmv I n T e) (a ^^^ zv_lie I n 1) (i + 1) = zsum (zmv I n T e) (a ^^^ zv_lie I n 1) i + (if (a ^^^ zv_lie I n 1) / 2 ^ i % 2 = 1 then zmv I n T e i else 0) := rfl
      simp only [hbit i hi] at hz
      show zk_R sc (d + 5) 178 4 [some (.ref (60 : Nat)), some (.int (nI a)), some (.int (zsum (zmv I n T e) (a ^^^ zv_lie I n 1) i)), some (.int (nI i)), x] [] (zk_mk I' tg) P
      have yes : ((I 5 i = 1 ∧ ¬ a / 2 ^ i % 2 = 1) ∨ (I 5 i = 2 ∧ a / 2 ^ i % 2 = 1)) → zk_R sc (d + 5) 178 54 [some (.ref (60 : Nat)), some (.int (nI a)), some (.int (zsum (zmv I n T e) (a ^^^ zv_lie I n 1) i)), some (.int (nI i)), x] [.int 1] (zk_mk I' tg) P := by
        intro hc
        rw [if_pos hc] at hz
        simp only [u178_0, u178_1, u178_2, u178_3, u178_5, u178_6, u178_9, u178_12, u178_13, u178_16, u178_17, u178_18, u178_19, u178_22, u178_23, u178_24, u178_25, u178_26, u178_27, u178_30, u178_31, u178_34, u178_35, u178_36, u178_37, u178_40, u178_41, u178_42, u178_43, u178_44, u178_45, u178_46, u178_49, u178_50, u178_53, u178_54, u178_56, u178_57, u178_59, u178_62, u178_63, u178_64, u178_67, u178_70, u178_71, u178_72, u178_73, u178_76, u178_79, u178_80, zk_mk_1, zk_mk_I, zk_mk_R, zk_mk_set, zk_mk_setR, zk_mk_cpy, zk_rv_some, zk_rv_none, Option.toList_some, Option.toList_none, List.cons_append, List.nil_append, reduceIte, eq_self, Nat.reduceLT, Nat.reduceEqDiff, and_true, true_and, reduceCtorEq, zsh_60, show ((1 : Int32) = 0) = False from by decide]
        refine s158 (hg.F.tab hj) ht (by rw [e60]; exact hr) hi (hg.F.text ht hx) (fun I2 k1 => ?_)
        have ev : zv_mv (I' 2 i) (zv_said I' n T e 1 i (zb (I' 64 i = 1))) = zmv I n T e i := by
          rw [e64, hg.F.said, hg.F 2 rfl]; rfl
        rw [ev]
        simp only [u178_0, u178_1, u178_2, u178_3, u178_5, u178_6, u178_9, u178_12, u178_13, u178_16, u178_17, u178_18, u178_19, u178_22, u178_23, u178_24, u178_25, u178_26, u178_27, u178_30, u178_31, u178_34, u178_35, u178_36, u178_37, u178_40, u178_41, u178_42, u178_43, u178_44, u178_45, u178_46, u178_49, u178_50, u178_53, u178_54, u178_56, u178_57, u178_59, u178_62, u178_63, u178_64, u178_67, u178_70, u178_71, u178_72, u178_73, u178_76, u178_79, u178_80, zk_mk_1, zk_mk_I, zk_mk_R, zk_mk_set, zk_mk_setR, zk_mk_cpy, zk_rv_some, zk_rv_none, Option.toList_some, Option.toList_none, List.cons_append, List.nil_append, reduceIte, eq_self, Nat.reduceLT, Nat.reduceEqDiff, and_true, true_and, reduceCtorEq, nI_1]
        have := ih (I2, some (.int 1)) (fun j j1 j2 => (k1 j j1 j2).trans (hg j j1 j2))
        rw [hz] at this
        exact this
      have no : (¬ ((I 5 i = 1 ∧ ¬ a / 2 ^ i % 2 = 1) ∨ (I 5 i = 2 ∧ a / 2 ^ i % 2 = 1))) → zk_R sc (d + 5) 178 54 [some (.ref (60 : Nat)), some (.int (nI a)), some (.int (zsum (zmv I n T e) (a ^^^ zv_lie I n 1) i)), some (.int (nI i)), x] [.int 0] (zk_mk I' tg) P := by
        intro hc
        rw [if_neg hc] at hz
        simp only [u178_0, u178_1, u178_2, u178_3, u178_5, u178_6, u178_9, u178_12, u178_13, u178_16, u178_17, u178_18, u178_19, u178_22, u178_23, u178_24, u178_25, u178_26, u178_27, u178_30, u178_31, u178_34, u178_35, u178_36, u178_37, u178_40, u178_41, u178_42, u178_43, u178_44, u178_45, u178_46, u178_49, u178_50, u178_53, u178_54, u178_56, u178_57, u178_59, u178_62, u178_63, u178_64, u178_67, u178_70, u178_71, u178_72, u178_73, u178_76, u178_79, u178_80, zk_mk_1, zk_mk_I, zk_mk_R, zk_mk_set, zk_mk_setR, zk_mk_cpy, zk_rv_some, zk_rv_none, Option.toList_some, Option.toList_none, List.cons_append, List.nil_append, reduceIte, eq_self, Nat.reduceLT, Nat.reduceEqDiff, and_true, true_and, reduceCtorEq, nI_1]
        have := ih (I', some (.int 0)) hg
        rw [hz] at this
        exact this
      rw [u178_4]
      simp only [u178_0, u178_1, u178_2, u178_3, u178_5, u178_6, u178_9, u178_12, u178_13, u178_16, u178_17, u178_18, u178_19, u178_22, u178_23, u178_24, u178_25, u178_26, u178_27, u178_30, u178_31, u178_34, u178_35, u178_36, u178_37, u178_40, u178_41, u178_42, u178_43, u178_44, u178_45, u178_46, u178_49, u178_50, u178_53, u178_56, u178_57, u178_59, u178_62, u178_63, u178_64, u178_67, u178_70, u178_71, u178_72, u178_73, u178_76, u178_79, u178_80, zk_mk_1, zk_mk_I, zk_mk_R, zk_mk_set, zk_mk_setR, zk_mk_cpy, zk_rv_some, zk_rv_none, Option.toList_some, Option.toList_none, List.cons_append, List.nil_append, reduceIte, eq_self, Nat.reduceLT, Nat.reduceEqDiff, and_true, true_and, reduceCtorEq, zsh_60, zsh_64, zrf_60_4, e60, hj.2.1, z1, z2, e64, zq_bit (show a < 2147483648 by omega) (show i < 32 by omega), y1, y2]
      rw [if_neg (nI_ge hi (by omega))]
      by_cases k1 : I 5 i = 1
      · rw [if_pos k1]
        have k2 : ¬ I 5 i = 2 := by rw [k1]; decide
        by_cases k3 : a / 2 ^ i % 2 = 1
        · rw [if_neg (fun q => q k3), if_neg k2]
          exact no (fun q => q.elim (fun w => w.2 k3) (fun w => k2 w.1))
        · rw [if_pos k3]
          exact yes (Or.inl ⟨k1, k3⟩)
      · rw [if_neg k1]
        by_cases k2 : I 5 i = 2
        · rw [if_pos k2]
          by_cases k3 : a / 2 ^ i % 2 = 1
          · rw [if_pos k3]
            exact yes (Or.inr ⟨k2, k3⟩)
          · rw [if_neg k3]
            exact no (fun q => q.elim (fun w => k1 w.1) (fun w => k3 w.2))
        · rw [if_neg k2]
          exact no (fun q => q.elim (fun w => k1 w.1) (fun w => k2 w.1)))
  simp only [u178_0, u178_1, u178_2, u178_3, u178_5, u178_6, u178_9, u178_12, u178_13, u178_16, u178_17, u178_18, u178_19, u178_22, u178_23, u178_24, u178_25, u178_26, u178_27, u178_30, u178_31, u178_34, u178_35, u178_36, u178_37, u178_40, u178_41, u178_42, u178_43, u178_44, u178_45, u178_46, u178_49, u178_50, u178_53, u178_54, u178_56, u178_57, u178_59, u178_62, u178_63, u178_64, u178_67, u178_70, u178_71, u178_72, u178_73, u178_76, u178_79, u178_80, zk_mk_1, zk_mk_I, zk_mk_R, zk_mk_set, zk_mk_setR, zk_mk_cpy, zk_rv_some, zk_rv_none, Option.toList_some, Option.toList_none, List.cons_append, List.nil_append, reduceIte, eq_self, Nat.reduceLT, Nat.reduceEqDiff, and_true, true_and, reduceCtorEq]
  exact loop 0 (I, none) (Nat.zero_le _) (fun _ _ _ => rfl)
theorem zdf_and (a x y : Nat) : zdf a (x &&& y) = 0 ↔ zdf a x = 0 ∧ zdf a y = 0 := by
  have h1 : zle a (x &&& y) ↔ zle a x ∧ zle a y := by
    rw [zle_iff, zle_iff, zle_iff]
    constructor
    · intro h
      refine ⟨fun i hi => ?_, fun i hi => ?_⟩
      · have := h i hi
        rw [Nat.testBit_and, Bool.and_eq_true] at this
        exact this.1
      · have := h i hi
        rw [Nat.testBit_and, Bool.and_eq_true] at this
        exact this.2
    · rintro ⟨h1, h2⟩ i hi
      rw [Nat.testBit_and, h1 i hi, h2 i hi]; rfl
  exact h1
theorem s177 {sc : zk_X} {d : Nat} {I : Nat → Nat → Int32} {tg : Option Nat} {P : Option Value → zk_M → Prop} {n t : Nat} {T e : Nat → Nat} {most what : Int32} (hq : zj_q I n t T e)
    (K : ∀ I' : Nat → Nat → Int32, zF I I' → P (some (.int (zA_mend I n T e most what))) (zk_mk I' tg)) : zk_R sc (d + 6) 177 0 [some (.ref (60 : Nat)), some (.int most), some (.int what), none, none, none, none, none, none, none, none, none, none] [] (zk_mk I tg) P := by
  have hq0 := hq
  obtain ⟨hj, hl, hr, ht, hx⟩ := hq
  have h10 := hj.2.2.1
  have p10 := zp_10 h10
  unfold zA_mend at K
  simp only [u177_0, u177_1, u177_2, u177_5, u177_8, u177_11, u177_12, u177_13, u177_14, u177_17, u177_20, u177_22, u177_23, u177_24, u177_27, u177_28, u177_29, u177_32, u177_33, u177_34, u177_37, u177_38, u177_39, u177_40, u177_41, u177_44, u177_46, u177_47, u177_48, u177_51, u177_53, u177_54, u177_56, u177_57, u177_59, u177_60, u177_64, u177_65, u177_68, u177_71, u177_72, u177_74, u177_75, u177_76, u177_77, u177_79, u177_81, u177_82, u177_83, u177_84, u177_85, u177_88, u177_90, u177_92, u177_93, u177_94, u177_95, u177_98, u177_100, u177_102, u177_103, u177_104, u177_105, u177_108, u177_109, u177_112, u177_114, u177_115, u177_116, u177_119, u177_121, u177_122, u177_123, u177_126, u177_127, u177_130, u177_131, u177_134, u177_135, u177_137, u177_139, u177_142, u177_143, u177_145, u177_148, u177_151, u177_152, u177_154, u177_156, u177_159, u177_161, u177_162, u177_165, u177_167, u177_169, u177_172, u177_173, u177_176, u177_177, u177_179, u177_181, u177_184, u177_186, u177_189, u177_191, u177_193, u177_195, u177_198, u177_200, u177_203, u177_205, u177_207, u177_210, u177_213, u177_214, u177_217, u177_219, u177_222, u177_224, zk_mk_1, zk_mk_I, zk_mk_R, zk_mk_set, zk_mk_setR, zk_mk_cpy, zk_rv_some, zk_rv_none, Option.toList_some, Option.toList_none, List.cons_append, List.nil_append, reduceIte, eq_self, Nat.reduceLT, Nat.reduceEqDiff, and_true, true_and, reduceCtorEq, zsh_60, s129, zb_z]
  by_cases hw1 : 0 ≤ most ∧ most ≤ 9999
  · rw [if_neg (fun q => q hw1)]
    by_cases hw2 : 0 ≤ what ∧ what ≤ 1
    · rw [if_neg (fun q => q hw2)]
      rw [if_pos ⟨hw1, hw2⟩] at K
      refine s162 hj ht hr hx (fun I' h1 h2 h3 => ?_)
      have hj' := h1.tab hj
      have hn' : I' 60 0 = nI n := hj'.2.1
      have eall : (1 : Int32) <<< (nI n &&& 31) - 1 = nI (2 ^ n - 1) := by rw [zq_all h10]; exact zn_sub (b := 1) (by omega)
      have em : ∀ q, zset (fun c => decide (¬ zw_sides (I' 61 c) (I' 63 c) &&& q = 0)) n = zv_may I n q := fun q => (zv_may_m hj').trans h1.may
      have el : ∀ q, zset (fun c => decide (I' 64 c = q)) n = zv_lie I n q := fun q => by rw [zv_lie_m hj']; unfold zv_lie; rw [h1 5 rfl]
      have hl1 : zv_lie I n 1 < 2 ^ n := zset_lt _ n
      have hl2 : zv_lie I n 2 < 2 ^ n := zset_lt _ n
      have hly : zv_lie I n 1 ||| zv_lie I n 2 < 2 ^ n := zor_lt hl1 hl2
      unfold zmend at K
      have hv : ∀ a, ¬ zmcost (zmv I n T e) n (zv_lie I n 1) a = -1 := fun a => zsum_m1 (fun c => zmv_bd) h10
      generalize hok : zmok (zv_now I n T e) n (zv_lie I n 1 ||| zv_lie I n 2) (zv_may I n 1) (zv_may I n 2) most = ok at *
      have hoka : ∀ a, ok a = (decide (zdf a ((zv_lie I n 1 ||| zv_lie I n 2) &&& zv_may I n 1) = 0) && (decide (zdf (zdf (zv_lie I n 1 ||| zv_lie I n 2) a) (zv_may I n 2) = 0) && decide (zw_far (zsum (zv_now I n T e) a n - zsum (zv_now I n T e) (zdf (zv_lie I n 1 ||| zv_lie I n 2) a) n) ≤ most))) := fun a => by rw [← hok]; rfl
      generalize hval : zmcost (zmv I n T e) n (zv_lie I n 1) = val at *
      have loop := zl_up (τ := (Nat → Nat → Int32) × Option Value × Option Value × Option Value × Option Value) (fun a q => zk_R sc (d + 6) 177 62 [some (.ref (60 : Nat)), some (.int most), some (.int what), some (.int (nI (zv_lie I n 1 ||| zv_lie I n 2))), some (.int (nI (zv_may I n 1))), some (.int (nI (zv_may I n 2))), some (.int (zfair ok val a).1), some (.int (zfair ok val a).2), some (.int (nI a)), q.2.1, q.2.2.1, q.2.2.2.1, q.2.2.2.2] [] (zk_mk q.1 tg) P)
        (fun a q => zg1 I' q.1) (2 ^ n) (by
          rintro ⟨I2, x, y, z, w⟩ g1
          have g1 : zg1 I' I2 := g1
          have hn2 : I2 60 0 = nI n := by rw [g1 60 (by decide) (by decide)]; exact hn'
          have K2 := K I2 (h1.trans g1.F)
          have hcond : nI (2 ^ n - 1) < nI (2 ^ n) := by rw [zn_lt (by omega) (by omega)]; omega
          have hcond2 : ¬ nI (2 ^ n) ≤ nI (2 ^ n - 1) := Int32.not_le.mpr hcond
          show zk_R sc (d + 6) 177 62 [some (.ref (60 : Nat)), some (.int most), some (.int what), some (.int (nI (zv_lie I n 1 ||| zv_lie I n 2))), some (.int (nI (zv_may I n 1))), some (.int (nI (zv_may I n 2))), some (.int (zfair ok val (2 ^ n)).1), some (.int (zfair ok val (2 ^ n)).2), some (.int (nI (2 ^ n))), x, y, z, w] [] (zk_mk I2 tg) P
          rw [u177_62]
          simp only [u177_0, u177_1, u177_2, u177_5, u177_8, u177_11, u177_12, u177_13, u177_14, u177_17, u177_20, u177_22, u177_23, u177_24, u177_27, u177_28, u177_29, u177_32, u177_33, u177_34, u177_37, u177_38, u177_39, u177_40, u177_41, u177_44, u177_46, u177_47, u177_48, u177_51, u177_53, u177_54, u177_56, u177_57, u177_59, u177_60, u177_64, u177_65, u177_68, u177_71, u177_72, u177_74, u177_75, u177_76, u177_77, u177_79, u177_81, u177_82, u177_83, u177_84, u177_85, u177_88, u177_90, u177_92, u177_93, u177_94, u177_95, u177_98, u177_100, u177_102, u177_103, u177_104, u177_105, u177_108, u177_109, u177_112, u177_114, u177_115, u177_116, u177_119, u177_121, u177_122, u177_123, u177_126, u177_127, u177_130, u177_131, u177_134, u177_135, u177_137, u177_139, u177_142, u177_143, u177_145, u177_148, u177_151, u177_152, u177_154, u177_156, u177_159, u177_161, u177_162, u177_165, u177_167, u177_169, u177_172, u177_173, u177_176, u177_177, u177_179, u177_181, u177_184, u177_186, u177_189, u177_191, u177_193, u177_195, u177_198, u177_200, u177_203, u177_205, u177_207, u177_210, u177_213, u177_214, u177_217, u177_219, u177_222, u177_224, zk_mk_1, zk_mk_I, zk_mk_R, zk_mk_set, zk_mk_setR, zk_mk_cpy, zk_rv_some, zk_rv_none, Option.toList_some, Option.toList_none, List.cons_append, List.nil_append, reduceIte, eq_self, Nat.reduceLT, Nat.reduceEqDiff, and_true, true_and, reduceCtorEq, zsh_60, s161, hn2, eall, hcond, hcond2]
          by_cases w0 : what = 0
          · rw [if_pos w0] at K2 ⊢; exact K2
          · rw [if_neg w0] at K2 ⊢; exact K2) (by
          rintro a ⟨I2, x, y, z, w⟩ ha g1 ih
          have g1 : zg1 I' I2 := g1
          have hF := h1.trans g1.F
          have hj2 := hF.tab hj
          have hn2 : I2 60 0 = nI n := hj2.2.1
          have e78 : I2 78 = I' 78 := g1 78 (by decide) (by decide)
          have hcond : ¬ nI (2 ^ n - 1) < nI a := by rw [zn_lt (by omega) (by omega)]; omega
          have hcond2 : nI a ≤ nI (2 ^ n - 1) := Int32.not_lt.mp hcond
          have hd : zdf (zv_lie I n 1 ||| zv_lie I n 2) a < 2 ^ n := zdf_lt hly
          have l1 := zdf_lt (b := zv_lie I n 1 ||| zv_lie I n 2) ha
          have l2 := zdf_lt (b := zv_may I n 1) ha
          have l3 := zdf_lt (b := zv_may I n 2) hd
          have z1 : zk_inb (nI a) 1024 = true := by rw [zn_in (by omega)]; omega
          have z2 : (nI a).toNatClampNeg = a := zn_cl (by omega)
          have z3 : zk_inb (nI (zdf (zv_lie I n 1 ||| zv_lie I n 2) a)) 1024 = true := by rw [zn_in (by omega)]; omega
          have z4 : (nI (zdf (zv_lie I n 1 ||| zv_lie I n 2) a)).toNatClampNeg = zdf (zv_lie I n 1 ||| zv_lie I n 2) a := zn_cl (by omega)
          have y0 : (nI (zdf a (zv_lie I n 1 ||| zv_lie I n 2)) = 0) = (zdf a (zv_lie I n 1 ||| zv_lie I n 2) = 0) := zn_eq (b := 0) (by omega) (by decide)
          have y1 : (nI (zdf a (zv_may I n 1)) = 0) = (zdf a (zv_may I n 1) = 0) := zn_eq (b := 0) (by omega) (by decide)
          have y2 : (nI (zdf (zdf (zv_lie I n 1 ||| zv_lie I n 2) a) (zv_may I n 2)) = 0) = (zdf (zdf (zv_lie I n 1 ||| zv_lie I n 2) a) (zv_may I n 2) = 0) := zn_eq (b := 0) (by omega) (by decide)
          have hoka := hoka a
          have hsplit := zdf_and a (zv_lie I n 1 ||| zv_lie I n 2) (zv_may I n 1)
          show zk_R sc (d + 6) 177 62 [some (.ref (60 : Nat)), some (.int most), some (.int what), some (.int (nI (zv_lie I n 1 ||| zv_lie I n 2))), some (.int (nI (zv_may I n 1))), some (.int (nI (zv_may I n 2))), some (.int (zfair ok val a).1), some (.int (zfair ok val a).2), some (.int (nI a)), x, y, z, w] [] (zk_mk I2 tg) P
          have no : ok a = false → ∀ x y z w, zk_R sc (d + 6) 177 62 [some (.ref (60 : Nat)), some (.int most), some (.int what), some (.int (nI (zv_lie I n 1 ||| zv_lie I n 2))), some (.int (nI (zv_may I n 1))), some (.int (nI (zv_may I n 2))), some (.int (zfair ok val a).1), some (.int (zfair ok val a).2), some (.int (nI (a + 1))), x, y, z, w] [] (zk_mk I2 tg) P := by
            intro hq x y z w
            have ek : zfair ok val (a + 1) = zfair ok val a := by rw [zfair, if_neg (fun q => by rw [hq] at q; cases q.1)]
            have := ih (I2, x, y, z, w) g1
            rw [ek] at this
            exact this
          rw [u177_62]
          simp only [u177_0, u177_1, u177_2, u177_5, u177_8, u177_11, u177_12, u177_13, u177_14, u177_17, u177_20, u177_22, u177_23, u177_24, u177_27, u177_28, u177_29, u177_32, u177_33, u177_34, u177_37, u177_38, u177_39, u177_40, u177_41, u177_44, u177_46, u177_47, u177_48, u177_51, u177_53, u177_54, u177_56, u177_57, u177_59, u177_60, u177_64, u177_65, u177_68, u177_71, u177_72, u177_74, u177_75, u177_76, u177_77, u177_79, u177_81, u177_82, u177_83, u177_84, u177_85, u177_88, u177_90, u177_92, u177_93, u177_94, u177_95, u177_98, u177_100, u177_102, u177_103, u177_104, u177_105, u177_108, u177_109, u177_112, u177_114, u177_115, u177_116, u177_119, u177_121, u177_122, u177_123, u177_126, u177_127, u177_130, u177_131, u177_134, u177_135, u177_137, u177_139, u177_142, u177_143, u177_145, u177_148, u177_151, u177_152, u177_154, u177_156, u177_159, u177_161, u177_162, u177_165, u177_167, u177_169, u177_172, u177_173, u177_176, u177_177, u177_179, u177_181, u177_184, u177_186, u177_189, u177_191, u177_193, u177_195, u177_198, u177_200, u177_203, u177_205, u177_207, u177_210, u177_213, u177_214, u177_217, u177_219, u177_222, u177_224, zk_mk_1, zk_mk_I, zk_mk_R, zk_mk_set, zk_mk_setR, zk_mk_cpy, zk_rv_some, zk_rv_none, Option.toList_some, Option.toList_none, List.cons_append, List.nil_append, reduceIte, eq_self, Nat.reduceLT, Nat.reduceEqDiff, and_true, true_and, reduceCtorEq, zsh_60, zsh_78, zrf_60_31, s161, hn2, eall, hcond, hcond2, zq_andn, y0, y1, y2, e78, z1, z2, z3, z4, (h3 a ha).1, (h3 _ hd).1, s172, show ((1 : Int32) = 0) = False from by decide, nI_1]
          by_cases k0 : zdf a (zv_lie I n 1 ||| zv_lie I n 2) = 0
          · rw [if_pos k0]
            by_cases k1 : zdf a (zv_may I n 1) = 0
            · rw [if_pos k1]
              by_cases k2 : zdf (zdf (zv_lie I n 1 ||| zv_lie I n 2) a) (zv_may I n 2) = 0
              · rw [if_pos k2]
                by_cases k3 : zw_far (zsum (zv_now I n T e) a n - zsum (zv_now I n T e) (zdf (zv_lie I n 1 ||| zv_lie I n 2) a) n) ≤ most
                · have hk : ok a = true := by rw [hoka, decide_eq_true (hsplit.mpr ⟨k0, k1⟩), decide_eq_true k2, decide_eq_true k3]; rfl
                  first | rw [if_pos k3] | rw [if_neg (Int32.not_lt.mpr k3)]
                  have el2 : ∀ q, zv_lie I2 n q = zv_lie I n q := fun q => by unfold zv_lie; rw [hF 5 rfl]
                  refine s178 hj2 ht (by rw [hF 60 rfl]; exact hr) (hF.text ht hx) ha (by rw [el2, el2]; exact k0) (fun I3 g2 => ?_)
                  have ev : zmcost (zmv I2 n T e) n (zv_lie I2 n 1) a = val a := by rw [hF.mv, el2, hval]
                  rw [ev]
                  have go : ∀ p, zfair ok val (a + 1) = p → ∀ x y z w, zk_R sc (d + 6) 177 62 [some (.ref (60 : Nat)), some (.int most), some (.int what), some (.int (nI (zv_lie I n 1 ||| zv_lie I n 2))), some (.int (nI (zv_may I n 1))), some (.int (nI (zv_may I n 2))), some (.int p.1), some (.int p.2), some (.int (nI (a + 1))), x, y, z, w] [] (zk_mk I3 tg) P := by
                    rintro p rfl x y z w
                    exact ih (I3, x, y, z, w) (fun j j1 j2 => (g2 j j1 j2).trans (g1 j j1 j2))
                  simp only [u177_0, u177_1, u177_2, u177_5, u177_8, u177_11, u177_12, u177_13, u177_14, u177_17, u177_20, u177_22, u177_23, u177_24, u177_27, u177_28, u177_29, u177_32, u177_33, u177_34, u177_37, u177_38, u177_39, u177_40, u177_41, u177_44, u177_46, u177_47, u177_48, u177_51, u177_53, u177_54, u177_56, u177_57, u177_59, u177_60, u177_64, u177_65, u177_68, u177_71, u177_72, u177_74, u177_75, u177_76, u177_77, u177_79, u177_81, u177_82, u177_83, u177_84, u177_85, u177_88, u177_90, u177_92, u177_93, u177_94, u177_95, u177_98, u177_100, u177_102, u177_103, u177_104, u177_105, u177_108, u177_109, u177_112, u177_114, u177_115, u177_116, u177_119, u177_121, u177_122, u177_123, u177_126, u177_127, u177_130, u177_131, u177_134, u177_135, u177_137, u177_139, u177_142, u177_143, u177_145, u177_148, u177_151, u177_152, u177_154, u177_156, u177_159, u177_161, u177_162, u177_165, u177_167, u177_169, u177_172, u177_173, u177_176, u177_177, u177_179, u177_181, u177_184, u177_186, u177_189, u177_191, u177_193, u177_195, u177_198, u177_200, u177_203, u177_205, u177_207, u177_210, u177_213, u177_214, u177_217, u177_219, u177_222, u177_224, zk_mk_1, zk_mk_I, zk_mk_R, zk_mk_set, zk_mk_setR, zk_mk_cpy, zk_rv_some, zk_rv_none, Option.toList_some, Option.toList_none, List.cons_append, List.nil_append, reduceIte, eq_self, Nat.reduceLT, Nat.reduceEqDiff, and_true, true_and, reduceCtorEq, show ((1 : Int32) = 0) = False from by decide, nI_1]
                  by_cases k4 : (zfair ok val a).1 = -1
                  · have := go _ (by rw [zfair, if_pos ⟨hk, Or.inl k4⟩])
                    simp only [k4, reduceIte, show ((1 : Int32) = 0) = False from by decide]
                    exact this _ _ _ _
                  · by_cases k5 : val a < (zfair ok val a).2
                    · have := go _ (by rw [zfair, if_pos ⟨hk, Or.inr k5⟩])
                      have k5' : ¬ (zfair ok val a).2 ≤ val a := Int32.not_le.mpr k5
                      simp only [k4, k5, k5', reduceIte, show ((1 : Int32) = 0) = False from by decide]
                      exact this _ _ _ _
                    · have := go _ (by rw [zfair, if_neg (fun q => q.2.elim k4 k5)])
                      have k5' : (zfair ok val a).2 ≤ val a := Int32.not_lt.mp k5
                      simp only [k4, k5, k5', reduceIte]
                      exact this _ _ _ _
                · first | rw [if_neg k3] | rw [if_pos (Int32.not_le.mp k3)]
                  exact no (by rw [hoka, decide_eq_false k3, Bool.and_false, Bool.and_false]) _ _ _ _
              · rw [if_neg k2]
                exact no (by rw [hoka, decide_eq_false k2, Bool.false_and, Bool.and_false]) _ _ _ _
            · rw [if_neg k1]
              exact no (by rw [hoka, decide_eq_false (fun q => k1 (hsplit.mp q).2), Bool.false_and]) _ _ _ _
          · rw [if_neg k0]
            exact no (by rw [hoka, decide_eq_false (fun q => k0 (hsplit.mp q).1), Bool.false_and]) _ _ _ _)
      simp only [u177_0, u177_1, u177_2, u177_5, u177_8, u177_11, u177_12, u177_13, u177_14, u177_17, u177_20, u177_22, u177_23, u177_24, u177_27, u177_28, u177_29, u177_32, u177_33, u177_34, u177_37, u177_38, u177_39, u177_40, u177_41, u177_44, u177_46, u177_47, u177_48, u177_51, u177_53, u177_54, u177_56, u177_57, u177_59, u177_60, u177_64, u177_65, u177_68, u177_71, u177_72, u177_74, u177_75, u177_76, u177_77, u177_79, u177_81, u177_82, u177_83, u177_84, u177_85, u177_88, u177_90, u177_92, u177_93, u177_94, u177_95, u177_98, u177_100, u177_102, u177_103, u177_104, u177_105, u177_108, u177_109, u177_112, u177_114, u177_115, u177_116, u177_119, u177_121, u177_122, u177_123, u177_126, u177_127, u177_130, u177_131, u177_134, u177_135, u177_137, u177_139, u177_142, u177_143, u177_145, u177_148, u177_151, u177_152, u177_154, u177_156, u177_159, u177_161, u177_162, u177_165, u177_167, u177_169, u177_172, u177_173, u177_176, u177_177, u177_179, u177_181, u177_184, u177_186, u177_189, u177_191, u177_193, u177_195, u177_198, u177_200, u177_203, u177_205, u177_207, u177_210, u177_213, u177_214, u177_217, u177_219, u177_222, u177_224, zk_mk_1, zk_mk_I, zk_mk_R, zk_mk_set, zk_mk_setR, zk_mk_cpy, zk_rv_some, zk_rv_none, Option.toList_some, Option.toList_none, List.cons_append, List.nil_append, reduceIte, eq_self, Nat.reduceLT, Nat.reduceEqDiff, and_true, true_and, reduceCtorEq, zsh_60, s140 hn' h10, s168 hn' h10, em, el, zq_or]
      exact loop 0 (I', none, none, none, none) (Nat.zero_le _) (fun _ _ _ => rfl)
    · rw [if_pos hw2]
      rw [if_neg (fun q => hw2 q.2)] at K
      exact K I (zF_refl I)
  · rw [if_pos hw1]
    rw [if_neg (fun q => hw1 q.1)] at K
    exact K I (zF_refl I)
