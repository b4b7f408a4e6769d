/-! swap: how far the heaps are apart by where each card lies -/
def zside (x l r : Int32) : Int32 := if x = 1 then l else if x = 2 then -r else 0
def zaps (s cl cr : Nat → Int32) : Nat → Int32
  | 0 => 0
  | c + 1 => zaps s cl cr c + zside (s c) (cl c) (cr c)
theorem zaps_ext {s s' cl cr : Nat → Int32} : ∀ m, (∀ c, c < m → s c = s' c) → zaps s cl cr m = zaps s' cl cr m
  | 0, _ => rfl
  | m + 1, h => by
    rw [zaps, zaps, zaps_ext m (fun c hc => h c (by omega)), h m (by omega)]
theorem zaps_up {s cl cr : Nat → Int32} {a : Nat} {v : Int32} : ∀ m, a < m → zaps (zt_up s a v) cl cr m = zaps s cl cr m - zside (s a) (cl a) (cr a) + zside v (cl a) (cr a)
  | 0, h => absurd h (Nat.not_lt_zero _)
  | m + 1, h => by
    rw [zaps, zaps]
    by_cases e : a = m
    · subst e
      rw [zaps_ext (s := zt_up s a v) (s' := s) a (fun c hc => by unfold zt_up; rw [if_neg (by omega)]), show zt_up s a v a = v from if_pos rfl]
      grind
    · rw [zaps_up m (by omega), show zt_up s a v m = s m from if_neg (fun q => e q.symm)]
      grind
theorem zaps_now {I : Nat → Nat → Int32} {n : Nat} {T e : Nat → Nat} : zsum (zv_now I n T e) (zv_lie I n 1) n - zsum (zv_now I n T e) (zv_lie I n 2) n = zaps (I 5) (fun c => zv_cnt I n T e c 1) (fun c => zv_cnt I n T e c 0) n := by
  unfold zv_lie
  rw [zsum_set n (Nat.le_refl _), zsum_set n (Nat.le_refl _)]
  have key : ∀ m, zpre (fun c => if decide (I 5 c = 1) = true then zv_now I n T e c else 0) m - zpre (fun c => if decide (I 5 c = 2) = true then zv_now I n T e c else 0) m = zaps (I 5) (fun c => zv_cnt I n T e c 1) (fun c => zv_cnt I n T e c 0) m := by
    intro m
    induction m with
    | zero => show (0 : Int32) - 0 = 0; decide
    | succ m ih =>
      rw [zpre, zpre, zaps, ← ih]
      unfold zside zv_now
      by_cases h1 : I 5 m = 1
      · simp only [h1, decide_true, reduceIte, show ((1 : Int32) = 2) = False from by decide, decide_false, Bool.false_eq_true, zb_t]
        grind
      · by_cases h2 : I 5 m = 2
        · simp only [h2, decide_true, reduceIte, show ((2 : Int32) = 1) = False from by decide, decide_false, Bool.false_eq_true, zb]
          grind
        · simp only [h1, h2, reduceIte, decide_false, Bool.false_eq_true]
          grind
  exact key n
theorem zaps_sw {s cl cr : Nat → Int32} {n a b : Nat} (ha : a < n) (hb : b < n) (h1 : s a = 1) (h2 : s b = 2) : zaps (zt_up (zt_up s a 2) b 1) cl cr n = zaps s cl cr n - (cl a + cr a) + (cl b + cr b) := by
  have hab : ¬ b = a := fun q => by rw [q, h1] at h2; exact absurd h2 (by decide)
  rw [zaps_up n hb, zaps_up n ha, show zt_up s a 2 b = s b from if_neg hab, h1, h2]
  unfold zside
  simp only [reduceIte, show ((2 : Int32) = 1) = False from by decide]
  grind
theorem zt_up_eq {I : Nat → Nat → Int32} {k a : Nat} {v : Int32} : zk_up2 I k a v k = zt_up (I k) a v := by
  funext b
  rw [zk_up2_i]; rfl
theorem s176 {sc : zk_X} {d : Nat} {I : Nat → Nat → Int32} {tg : Option Nat} {P : Option Value → zk_M → Prop} {n t a b : Nat} {T e : Nat → Nat} (hj : zj_tab I n) (ht : t < 6) (hr : I 60 10 = nI t) (hx : zj_text I t T e) (ha : a < n) (hb : b < n) (h1 : I 5 a = 1) (h2 : I 5 b = 2)
    (K : ∀ I' : Nat → Nat → Int32, zg1 I I' → P (some (.int (zw_far (zaps (I 5) (fun c => zv_cnt I n T e c 1) (fun c => zv_cnt I n T e c 0) n - (zv_cnt I n T e a 1 + zv_cnt I n T e a 0) + (zv_cnt I n T e b 1 + zv_cnt I n T e b 0))))) (zk_mk I' tg)) : zk_R sc (d + 5) 176 0 [some (.ref (60 : Nat)), some (.int (nI a)), some (.int (nI b)), none, none] [] (zk_mk I tg) P := by
  have h10 := hj.2.2.1
  have z1 : zk_inb (nI a) 10 = true := by rw [zn_in (by omega)]; omega
  have z2 : (nI a).toNatClampNeg = a := zn_cl (by omega)
  have z3 : zk_inb (nI b) 10 = true := by rw [zn_in (by omega)]; omega
  have z4 : (nI b).toNatClampNeg = b := zn_cl (by omega)
  have hab : ¬ b = a := fun q => by rw [q, h1] at h2; exact absurd h2 (by decide)
  rw [← zaps_sw (s := I 5) ha hb h1 h2] at K
  have e64 : ∀ c, c < n → I 64 c = I 5 c := fun c hc => zj_side hj hc
  rw [zaps_ext (s := zt_up (zt_up (I 5) a 2) b 1) (s' := zt_up (zt_up (I 64) a 2) b 1) n (fun c hc => by unfold zt_up; rw [e64 c hc])] at K
  simp only [u176_0, u176_1, u176_4, u176_5, u176_6, u176_7, u176_8, u176_11, u176_12, u176_13, u176_14, u176_15, u176_16, u176_17, u176_21, u176_22, u176_25, u176_28, u176_29, u176_30, u176_33, u176_35, u176_36, u176_37, u176_40, u176_41, u176_43, u176_46, u176_49, u176_50, u176_53, u176_55, u176_56, u176_57, u176_60, u176_61, u176_63, u176_66, u176_67, u176_70, u176_71, u176_72, u176_73, u176_76, u176_79, u176_80, u176_83, u176_84, u176_85, u176_86, u176_87, u176_90, u176_91, u176_92, u176_93, u176_94, u176_97, zk_mk_1, zk_mk_I, zk_mk_R, zk_mk_set, zk_mk_setR, zk_mk_cpy, zk_rv_some, zk_rv_none, Option.toList_some, Option.toList_none, List.cons_append, List.nil_append, reduceIte, eq_self, Nat.reduceLT, Nat.reduceEqDiff, and_true, true_and, reduceCtorEq, zsh_60, zsh_64, zrf_60_4, z1, z2, z3, z4]
  have hJ64 : zk_up2 (zk_up2 I 64 a 2) 64 b 1 64 = zt_up (zt_up (I 64) a 2) b 1 := by rw [zt_up_eq, zt_up_eq]
  have hJo : ∀ j, j ≠ 64 → zk_up2 (zk_up2 I 64 a 2) 64 b 1 j = I j := fun j hj => by rw [zk_up2_r hj, zk_up2_r hj]
  generalize zk_up2 (zk_up2 I 64 a 2) 64 b 1 = J at *
  have hw : zj_tabw J n := by
    have := hj.w
    unfold zj_tabw zj_cardw at *
    rw [hJo 1 (by decide), hJo 60 (by decide), hJo 2 (by decide), hJo 3 (by decide), hJo 4 (by decide), hJo 61 (by decide), hJo 62 (by decide), hJo 63 (by decide)]
    exact this
  have hrJ : J 60 10 = nI t := by rw [hJo 60 (by decide)]; exact hr
  have hxJ : zj_text J t T e := by
    unfold zj_text at *
    rw [hJo _ (show 30 + 4 * t ≠ 64 by omega), hJo _ (show 29 + 4 * t ≠ 64 by omega), hJo 66 (by decide), hJo 67 (by decide)]
    exact hx
  have loop := zl_up (τ := Nat → Nat → Int32) (fun i I' => zk_R sc (d + 5) 176 19 [some (.ref (60 : Nat)), some (.int (nI a)), some (.int (nI b)), some (.int (zaps (zt_up (zt_up (I 64) a 2) b 1) (fun c => zv_cnt I n T e c 1) (fun c => zv_cnt I n T e c 0) i)), some (.int (nI i))] [] (zk_mk I' tg) P)
    (fun i I' => zg1 J I') n (by
      intro I' hg
      have e60 : I' 60 = I 60 := by rw [hg 60 (by decide) (by decide), hJo 60 (by decide)]
      have e64' : I' 64 = zt_up (zt_up (I 64) a 2) b 1 := by rw [hg 64 (by decide) (by decide), hJ64]
      rw [u176_19]
      simp only [u176_0, u176_1, u176_4, u176_5, u176_6, u176_7, u176_8, u176_11, u176_12, u176_13, u176_14, u176_15, u176_16, u176_17, u176_21, u176_22, u176_25, u176_28, u176_29, u176_30, u176_33, u176_35, u176_36, u176_37, u176_40, u176_41, u176_43, u176_46, u176_49, u176_50, u176_53, u176_55, u176_56, u176_57, u176_60, u176_61, u176_63, u176_66, u176_67, u176_70, u176_71, u176_72, u176_73, u176_76, u176_79, u176_80, u176_83, u176_84, u176_85, u176_86, u176_87, u176_90, u176_91, u176_92, u176_93, u176_94, u176_97, zk_mk_1, zk_mk_I, zk_mk_R, zk_mk_set, zk_mk_setR, zk_mk_cpy, zk_rv_some, zk_rv_none, Option.toList_some, Option.toList_none, List.cons_append, List.nil_append, reduceIte, eq_self, Nat.reduceLT, Nat.reduceEqDiff, and_true, true_and, reduceCtorEq, zsh_60, zsh_64, zrf_60_4, e60, hj.2.1, z1, z2, z3, z4, s172]
      rw [if_pos (nI_le (Nat.le_refl _) (by omega))]
      refine K _ (fun j j1 j2 => ?_)
      by_cases e : j = 64
      · subst e
        funext c
        rw [zt_up_eq, zt_up_eq, e64']
        unfold zt_up
        by_cases c1 : c = b
        · rw [if_pos c1, c1, e64 b hb, h2]
        · rw [if_neg c1]
          by_cases c2 : c = a
          · rw [if_pos c2, c2, e64 a ha, h1]
          · rw [if_neg c2, if_neg c1, if_neg c2]
      · rw [zk_up2_r e, zk_up2_r e, hg j j1 j2, hJo j e]) (by
      intro i I' hi hg ih
      have z5 : zk_inb (nI i) 10 = true := by rw [zn_in (by omega)]; omega
      have z6 : (nI i).toNatClampNeg = i := zn_cl (by omega)
      have e60 : I' 60 = I 60 := by rw [hg 60 (by decide) (by decide), hJo 60 (by decide)]
      have e64' : I' 64 = zt_up (zt_up (I 64) a 2) b 1 := by rw [hg 64 (by decide) (by decide), hJ64]
      have hr' : I' 60 10 = nI t := by rw [e60]; exact hr
      have hx' : zj_text I' t T e := hg.F.text ht hxJ
      have ecnt : ∀ left, zv_cnt I' n T e i left = zv_cnt I n T e i left := by
        intro left
        unfold zv_cnt zv_said
        have e1 : zv_nm I' n i left = zv_nm I n i left := by
          funext j
          unfold zv_nm
          rw [hg 2 (by decide) (by decide), hg 3 (by decide) (by decide), hg 4 (by decide) (by decide), hJo 2 (by decide), hJo 3 (by decide), hJo 4 (by decide)]
        rw [hg 2 (by decide) (by decide), hg 4 (by decide) (by decide), hJo 2 (by decide), hJo 4 (by decide), e1]
      have call : ∀ P2 : Option Value → zk_M → Prop, (∀ I2 : Nat → Nat → Int32, zg1 J I2 → P2 (some (.int (zv_cnt I n T e i (zb (zt_up (zt_up (I 64) a 2) b 1 i = 1))))) (zk_mk I2 tg)) → ∀ dd, zk_R sc (dd + 4) 156 0 [some (.ref (60 : Nat)), some (.int (nI i)), none] [] (zk_mk I' tg) P2 := by
        intro P2 h dd
        refine s156w (hg.tabw hw) ht hr' hi hx' (fun I2 h2 => ?_)
        rw [ecnt, e64']
        exact h I2 (fun j j1 j2 => by rw [h2 j j1 j2, hg j j1 j2])
      rw [u176_19]
      simp only [u176_0, u176_1, u176_4, u176_5, u176_6, u176_7, u176_8, u176_11, u176_12, u176_13, u176_14, u176_15, u176_16, u176_17, u176_21, u176_22, u176_25, u176_28, u176_29, u176_30, u176_33, u176_35, u176_36, u176_37, u176_40, u176_41, u176_43, u176_46, u176_49, u176_50, u176_53, u176_55, u176_56, u176_57, u176_60, u176_61, u176_63, u176_66, u176_67, u176_70, u176_71, u176_72, u176_73, u176_76, u176_79, u176_80, u176_83, u176_84, u176_85, u176_86, u176_87, u176_90, u176_91, u176_92, u176_93, u176_94, u176_97, zk_mk_1, zk_mk_I, zk_mk_R, zk_mk_set, zk_mk_setR, zk_mk_cpy, zk_rv_some, zk_rv_none, Option.toList_some, Option.toList_none, List.cons_append, List.nil_append, reduceIte, eq_self, Nat.reduceLT, Nat.reduceEqDiff, and_true, true_and, reduceCtorEq, zsh_60, zsh_64, zrf_60_4, e60, e64', hj.2.1, z5, z6]
      rw [if_neg (nI_ge hi (by omega))]
      have hz : zaps (zt_up (zt_up (I 64) a 2) b 1) (fun c => zv_cnt I n T e c 1) (fun c => zv_cnt I n T e c 0) (i + 1) = zaps (zt_up (zt_up (I 64) a 2) b 1) (fun c => zv_cnt I n T e c 1) (fun c => zv_cnt I n T e c 0) i + zside (zt_up (zt_up (I 64) a 2) b 1 i) (zv_cnt I n T e i 1) (zv_cnt I n T e i 0) := rfl
      unfold zside at hz
      rw [hz] at ih
      generalize zt_up (zt_up (I 64) a 2) b 1 i = x at *
      by_cases c1 : x = 1
      · rw [if_pos c1]
        rw [if_pos c1] at ih
        refine call _ (fun I2 k1 => ?_) _
        rw [zb_t c1]
        simp only [u176_0, u176_1, u176_4, u176_5, u176_6, u176_7, u176_8, u176_11, u176_12, u176_13, u176_14, u176_15, u176_16, u176_17, u176_21, u176_22, u176_25, u176_28, u176_29, u176_30, u176_33, u176_35, u176_36, u176_37, u176_40, u176_41, u176_43, u176_46, u176_49, u176_50, u176_53, u176_55, u176_56, u176_57, u176_60, u176_61, u176_63, u176_66, u176_67, u176_70, u176_71, u176_72, u176_73, u176_76, u176_79, u176_80, u176_83, u176_84, u176_85, u176_86, u176_87, u176_90, u176_91, u176_92, u176_93, u176_94, u176_97, zk_mk_1, zk_mk_I, zk_mk_R, zk_mk_set, zk_mk_setR, zk_mk_cpy, zk_rv_some, zk_rv_none, Option.toList_some, Option.toList_none, List.cons_append, List.nil_append, reduceIte, eq_self, Nat.reduceLT, Nat.reduceEqDiff, and_true, true_and, reduceCtorEq, nI_1]
        exact ih I2 k1
      · rw [if_neg c1]
        rw [if_neg c1] at ih
        by_cases c2 : x = 2
        · rw [if_pos c2]
          rw [if_pos c2] at ih
          refine call _ (fun I2 k1 => ?_) _
          rw [zb_f c1]
          simp only [u176_0, u176_1, u176_4, u176_5, u176_6, u176_7, u176_8, u176_11, u176_12, u176_13, u176_14, u176_15, u176_16, u176_17, u176_21, u176_22, u176_25, u176_28, u176_29, u176_30, u176_33, u176_35, u176_36, u176_37, u176_40, u176_41, u176_43, u176_46, u176_49, u176_50, u176_53, u176_55, u176_56, u176_57, u176_60, u176_61, u176_63, u176_66, u176_67, u176_70, u176_71, u176_72, u176_73, u176_76, u176_79, u176_80, u176_83, u176_84, u176_85, u176_86, u176_87, u176_90, u176_91, u176_92, u176_93, u176_94, u176_97, zk_mk_1, zk_mk_I, zk_mk_R, zk_mk_set, zk_mk_setR, zk_mk_cpy, zk_rv_some, zk_rv_none, Option.toList_some, Option.toList_none, List.cons_append, List.nil_append, reduceIte, eq_self, Nat.reduceLT, Nat.reduceEqDiff, and_true, true_and, reduceCtorEq, nI_1]
          exact ih I2 k1
        · rw [if_neg c2]
          rw [if_neg c2] at ih
          rw [nI_1]
          exact ih I' hg)
  exact loop 0 J (Nat.zero_le _) (fun j _ _ => rfl)
