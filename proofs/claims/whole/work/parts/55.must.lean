/-! must by both -/
def zng (f : Nat → Int32) (c : Nat) : Int32 := zmn (f c) 0
def zps (f : Nat → Int32) (c : Nat) : Int32 := zmx (f c) 0
theorem zmx_i (x y : Int32) : (zmx x y).toInt = max x.toInt y.toInt := by
  unfold zmx
  simp only [Int32.lt_iff_toInt_lt]
  split <;> omega
theorem zmn_i (x y : Int32) : (zmn x y).toInt = min x.toInt y.toInt := by
  unfold zmn
  simp only [Int32.lt_iff_toInt_lt]
  split <;> omega
theorem zn_zi : (0 : Int32).toInt = 0 := by decide
theorem zpre_ng {f : Nat → Int32} {h : Nat} : ∀ {n : Nat}, zbd f n → n ≤ 10 → (zpre (zng f) n).toInt ≤ (zsum f h n).toInt ∧ -2007 * (n : Int) ≤ (zpre (zng f) n).toInt ∧ (zpre (zng f) n).toInt ≤ 0
  | 0, _, _ => by
    show (0 : Int32).toInt ≤ (0 : Int32).toInt ∧ -2007 * ((0 : Nat) : Int) ≤ (0 : Int32).toInt ∧ (0 : Int32).toInt ≤ 0
    rw [zn_zi]; omega
  | n + 1, hb, hn => by
    have hb' : zbd f n := fun c hc => hb c (by omega)
    obtain ⟨i1, i2, i3⟩ := zpre_ng (h := h) hb' (by omega)
    obtain ⟨s1, s2, s3⟩ := zsum_int (h := h) hb' (by omega)
    obtain ⟨b1, b2⟩ := hb n (by omega)
    have e1 : (zng f n).toInt = min (f n).toInt 0 := by unfold zng; rw [zmn_i, zn_zi]
    rw [zpre, zsum, zi_add (by omega) (by omega) (by omega) (by omega), e1]
    split
    · rw [zi_add (by omega) (by omega) (by omega) (by omega)]; omega
    · rw [Int32.add_zero]; omega
theorem zpre_ps {f : Nat → Int32} {h : Nat} : ∀ {n : Nat}, zbd f n → n ≤ 10 → (zsum f h n).toInt ≤ (zpre (zps f) n).toInt ∧ (zpre (zps f) n).toInt ≤ 2007 * (n : Int) ∧ 0 ≤ (zpre (zps f) n).toInt
  | 0, _, _ => by
    show (0 : Int32).toInt ≤ (0 : Int32).toInt ∧ (0 : Int32).toInt ≤ 2007 * ((0 : Nat) : Int) ∧ 0 ≤ (0 : Int32).toInt
    rw [zn_zi]; omega
  | n + 1, hb, hn => by
    have hb' : zbd f n := fun c hc => hb c (by omega)
    obtain ⟨i1, i2, i3⟩ := zpre_ps (h := h) hb' (by omega)
    obtain ⟨s1, s2, s3⟩ := zsum_int (h := h) hb' (by omega)
    obtain ⟨b1, b2⟩ := hb n (by omega)
    have e1 : (zps f n).toInt = max (f n).toInt 0 := by unfold zps; rw [zmx_i, zn_zi]
    rw [zpre, zsum, zi_add (a := zpre (zps f) n) (by omega) (by omega) (by omega) (by omega), e1]
    split
    · rw [zi_add (by omega) (by omega) (by omega) (by omega)]; omega
    · rw [Int32.add_zero]; omega
theorem zsum_set {f : Nat → Int32} {p : Nat → Bool} {n : Nat} : ∀ m, m ≤ n → zsum f (zset p n) m = zpre (fun c => if p c = true then f c else 0) m
  | 0, _ => rfl
  | m + 1, h => by
    rw [zsum, zpre, zsum_set m (by omega)]
    have := zset_bit p n m
    rw [Nat.testBit_eq_decide_div_mod_eq, decide_eq_true (show m < n by omega), Bool.true_and] at this
    by_cases hp : p m = true
    · rw [hp, decide_eq_true_eq] at this
      rw [if_pos this, if_pos hp]
    · have hq : ¬ zset p n / 2 ^ m % 2 = 1 := fun q => hp (by rw [← this]; exact decide_eq_true q)
      rw [if_neg hq, if_neg hp]
def zlm (f : Nat → Int32) (n : Nat) : Nat → Int32 × Int32
  | 0 => (0, 0)
  | h + 1 => (if zsum f h n < (zlm f n h).1 then zsum f h n else (zlm f n h).1, if (zlm f n h).2 < zsum f h n then zsum f h n else (zlm f n h).2)
theorem zlm_1 {f : Nat → Int32} {n : Nat} : ∀ m, (∀ h, h < m → (zlm f n m).1.toInt ≤ (zsum f h n).toInt ∧ (zsum f h n).toInt ≤ (zlm f n m).2.toInt) ∧ (∃ h, h < 2 ^ n ∧ (m ≤ 2 ^ n → (zlm f n m).1 = zsum f h n)) ∧ ∃ h, h < 2 ^ n ∧ (m ≤ 2 ^ n → (zlm f n m).2 = zsum f h n)
  | 0 => by
    have h0 : zsum f 0 n = 0 := by
      have : ∀ k, zsum f 0 k = 0 := by
        intro k
        induction k with
        | zero => rfl
        | succ k ih => rw [zsum, ih]; simp
      exact this n
    exact ⟨fun h hh => absurd hh (Nat.not_lt_zero _), ⟨0, Nat.two_pow_pos n, fun _ => h0.symm⟩, ⟨0, Nat.two_pow_pos n, fun _ => h0.symm⟩⟩
  | m + 1 => by
    obtain ⟨i1, ⟨g, hg, eg⟩, ⟨k, hk, ek⟩⟩ := zlm_1 (f := f) (n := n) m
    rw [zlm]
    refine ⟨fun h hh => ?_, ?_, ?_⟩
    · have h2 : h = m ∨ h < m := by omega
      simp only [Int32.lt_iff_toInt_lt]
      rcases h2 with rfl | h2
      · constructor <;> split <;> omega
      · obtain ⟨a, b⟩ := i1 h h2
        constructor <;> split <;> omega
    · by_cases c : zsum f m n < (zlm f n m).1
      · by_cases hm : m < 2 ^ n
        · exact ⟨m, hm, fun _ => if_pos c⟩
        · exact ⟨0, Nat.two_pow_pos n, fun q => absurd q (by omega)⟩
      · exact ⟨g, hg, fun q => (if_neg c).trans (eg (by omega))⟩
    · by_cases c : (zlm f n m).2 < zsum f m n
      · by_cases hm : m < 2 ^ n
        · exact ⟨m, hm, fun _ => if_pos c⟩
        · exact ⟨0, Nat.two_pow_pos n, fun q => absurd q (by omega)⟩
      · exact ⟨k, hk, fun q => (if_neg c).trans (ek (by omega))⟩
theorem zlm_all {f : Nat → Int32} {n : Nat} (hb : zbd f n) (hn : n ≤ 10) : zlm f n (2 ^ n) = (zpre (zng f) n, zpre (zps f) n) := by
  obtain ⟨i1, ⟨g, hg, eg⟩, ⟨k, hk, ek⟩⟩ := zlm_1 (f := f) (n := n) (2 ^ n)
  have eg := eg (Nat.le_refl _)
  have ek := ek (Nat.le_refl _)
  have e1 : zsum f (zset (fun c => decide (f c < 0)) n) n = zpre (zng f) n := by
    rw [zsum_set n (Nat.le_refl _)]
    refine zpre_ext n (fun c _ => ?_)
    unfold zng
    apply Int32.toInt.inj
    rw [zmn_i, zn_zi]
    simp only [decide_eq_true_eq, Int32.lt_iff_toInt_lt, zn_zi]
    split
    · omega
    · rw [zn_zi]; omega
  have e2 : zsum f (zset (fun c => decide (0 < f c)) n) n = zpre (zps f) n := by
    rw [zsum_set n (Nat.le_refl _)]
    refine zpre_ext n (fun c _ => ?_)
    unfold zps
    apply Int32.toInt.inj
    rw [zmx_i, zn_zi]
    simp only [decide_eq_true_eq, Int32.lt_iff_toInt_lt, zn_zi]
    split
    · omega
    · rw [zn_zi]; omega
  have a1 := (i1 _ (zset_lt (fun c => decide (f c < 0)) n)).1
  have a2 := (i1 _ (zset_lt (fun c => decide (0 < f c)) n)).2
  rw [e1] at a1
  rw [e2] at a2
  have b1 := (zpre_ng (h := g) hb hn).1
  have b2 := (zpre_ps (h := k) hb hn).1
  rw [← eg] at b1
  rw [← ek] at b2
  have c1 : (zlm f n (2 ^ n)).1 = zpre (zng f) n := Int32.toInt.inj (by omega)
  have c2 : (zlm f n (2 ^ n)).2 = zpre (zps f) n := Int32.toInt.inj (by omega)
  exact Prod.ext c1 c2
def zA_must (I : Nat → Nat → Int32) (n : Nat) (T e : Nat → Nat) : Int32 := zb (zpre (zps (zv_now I n T e)) n - zpre (zng (zv_now I n T e)) n + 1 < nI (2 ^ n))
theorem s19 {sc : zk_X} {d : Nat} {I : Nat → Nat → Int32} {tg : Option Nat} {P : Option Value → zk_M → Prop} {n t : Nat} {T e : Nat → Nat} (hq : zj_q I n t T e)
    (K : ∀ I' : Nat → Nat → Int32, zF I I' → P (some (.int (zA_must I n T e))) (zk_mk I' tg)) : zk_R sc (d + 5) 19 0 [some (.ref (0 : Nat)), none, none, none] [] (zk_mk I tg) P := by
  obtain ⟨hj, hl, hr, ht, hx⟩ := hq
  obtain ⟨w1, w2, w3, w4⟩ := zx_83 ht
  have h10 := hj.2.2.1
  simp only [u19_0, u19_1, u19_2, u19_5, u19_8, u19_9, u19_10, u19_11, u19_12, u19_13, u19_15, u19_16, u19_19, u19_22, u19_25, u19_26, u19_27, u19_30, u19_33, u19_34, u19_35, u19_36, u19_39, u19_40, u19_41, u19_42, u19_43, u19_46, u19_49, u19_50, u19_51, u19_52, u19_55, u19_56, u19_57, u19_60, u19_63, u19_64, u19_65, u19_68, u19_71, u19_72, u19_73, u19_74, u19_75, u19_76, u19_77, u19_80, u19_81, u19_84, u19_85, zk_mk_1, zk_mk_I, zk_mk_R, zk_mk_set, zk_mk_setR, zk_mk_cpy, zk_rv_some, zk_rv_none, Option.toList_some, Option.toList_none, List.cons_append, List.nil_append, reduceIte, eq_self, Nat.reduceLT, Nat.reduceEqDiff, and_true, true_and, reduceCtorEq, zsh_0, s7 ht hl, zx_28 ht, w1]
  refine s17 hj ht hx (fun I' h1 h2 h3 => ?_)
  have hn' : I' 1 4 = nI n := (h1.tab hj).1
  have K2 := K I' h1
  unfold zA_must at K2
  generalize zv_now I n T e = f at *
  have loop := zl_fn (fun i => zk_R sc (d + 5) 19 14 [some (.ref (0 : Nat)), some (.int (zpre (zng f) i)), some (.int (zpre (zps f) i)), some (.int (nI i))] [] (zk_mk I' tg) P) n (by
      rw [u19_14]
      simp only [u19_0, u19_1, u19_2, u19_5, u19_8, u19_9, u19_10, u19_11, u19_12, u19_13, u19_15, u19_16, u19_19, u19_22, u19_25, u19_26, u19_27, u19_30, u19_33, u19_34, u19_35, u19_36, u19_39, u19_40, u19_41, u19_42, u19_43, u19_46, u19_49, u19_50, u19_51, u19_52, u19_55, u19_56, u19_57, u19_60, u19_63, u19_64, u19_65, u19_68, u19_71, u19_72, u19_73, u19_74, u19_75, u19_76, u19_77, u19_80, u19_81, u19_84, u19_85, zk_mk_1, zk_mk_I, zk_mk_R, zk_mk_set, zk_mk_setR, zk_mk_cpy, zk_rv_some, zk_rv_none, Option.toList_some, Option.toList_none, List.cons_append, List.nil_append, reduceIte, eq_self, Nat.reduceLT, Nat.reduceEqDiff, and_true, true_and, reduceCtorEq, zsh_0, zsh_1, zrf_0_0, hn', zq_all h10]
      rw [if_pos (nI_le (Nat.le_refl _) (by omega))]
      by_cases hc : zpre (zps f) n - zpre (zng f) n + 1 < nI (2 ^ n)
      · rw [zb_t hc] at K2
        first | rw [if_pos hc] | rw [if_neg (Int32.not_le.mpr hc)]
        exact K2
      · rw [zb_f hc] at K2
        first | rw [if_neg hc] | rw [if_pos (Int32.not_lt.mp hc)]
        exact K2) (by
      intro i hi ih
      have z1 : zk_inb (nI i) 10 = true := by rw [zn_in (by omega)]; omega
      have z2 : (nI i).toNatClampNeg = i := zn_cl (by omega)
      rw [u19_14]
      simp only [u19_0, u19_1, u19_2, u19_5, u19_8, u19_9, u19_10, u19_11, u19_12, u19_13, u19_15, u19_16, u19_19, u19_22, u19_25, u19_26, u19_27, u19_30, u19_33, u19_34, u19_35, u19_36, u19_39, u19_40, u19_41, u19_42, u19_43, u19_46, u19_49, u19_50, u19_51, u19_52, u19_55, u19_56, u19_57, u19_60, u19_63, u19_64, u19_65, u19_68, u19_71, u19_72, u19_73, u19_74, u19_75, u19_76, u19_77, u19_80, u19_81, u19_84, u19_85, zk_mk_1, zk_mk_I, zk_mk_R, zk_mk_set, zk_mk_setR, zk_mk_cpy, zk_rv_some, zk_rv_none, Option.toList_some, Option.toList_none, List.cons_append, List.nil_append, reduceIte, eq_self, Nat.reduceLT, Nat.reduceEqDiff, and_true, true_and, reduceCtorEq, zsh_0, zsh_1, zsh_15, zsh_16, zrf_0_0, zrf_0_7, zrf_15_0, hn', z1, z2, h2 i hi, nI_1]
      rw [if_neg (nI_ge hi (by omega))]
      exact ih)
  simp only [u19_0, u19_1, u19_2, u19_5, u19_8, u19_9, u19_10, u19_11, u19_12, u19_13, u19_15, u19_16, u19_19, u19_22, u19_25, u19_26, u19_27, u19_30, u19_33, u19_34, u19_35, u19_36, u19_39, u19_40, u19_41, u19_42, u19_43, u19_46, u19_49, u19_50, u19_51, u19_52, u19_55, u19_56, u19_57, u19_60, u19_63, u19_64, u19_65, u19_68, u19_71, u19_72, u19_73, u19_74, u19_75, u19_76, u19_77, u19_80, u19_81, u19_84, u19_85, zk_mk_1, zk_mk_I, zk_mk_R, zk_mk_set, zk_mk_setR, zk_mk_cpy, zk_rv_some, zk_rv_none, Option.toList_some, Option.toList_none, List.cons_append, List.nil_append, reduceIte, eq_self, Nat.reduceLT, Nat.reduceEqDiff, and_true, true_and, reduceCtorEq]
  exact loop 0 (Nat.zero_le _)
theorem s166 {sc : zk_X} {d : Nat} {I : Nat → Nat → Int32} {tg : Option Nat} {P : Option Value → zk_M → Prop} {n t : Nat} {T e : Nat → Nat} (hq : zj_q I n t T e)
    (K : ∀ I' : Nat → Nat → Int32, zF I I' → P (some (.int (zA_must I n T e))) (zk_mk I' tg)) : zk_R sc (d + 6) 166 0 [some (.ref (60 : Nat)), none, none, none] [] (zk_mk I tg) P := by
  obtain ⟨hj, hl, hr, ht, hx⟩ := hq
  have h10 := hj.2.2.1
  have p10 := zp_10 h10
  simp only [u166_0, u166_1, u166_4, u166_5, u166_6, u166_7, u166_8, u166_9, u166_11, u166_12, u166_15, u166_18, u166_19, u166_22, u166_23, u166_24, u166_25, u166_28, u166_29, u166_32, u166_33, u166_34, u166_37, u166_38, u166_39, u166_40, u166_43, u166_44, u166_45, u166_46, u166_49, u166_50, u166_53, u166_54, u166_55, u166_58, u166_59, u166_60, u166_63, u166_66, u166_67, u166_68, u166_71, u166_72, u166_73, u166_74, u166_75, u166_76, u166_77, u166_80, u166_81, u166_84, u166_85, zk_mk_1, zk_mk_I, zk_mk_R, zk_mk_set, zk_mk_setR, zk_mk_cpy, zk_rv_some, zk_rv_none, Option.toList_some, Option.toList_none, List.cons_append, List.nil_append, reduceIte, eq_self, Nat.reduceLT, Nat.reduceEqDiff, and_true, true_and, reduceCtorEq, zsh_60]
  refine s162 hj ht hr hx (fun I' h1 h2 h3 => ?_)
  have hn' : I' 60 0 = nI n := (h1.tab hj).2.1
  have eall : (1 : Int32) <<< (nI n &&& 31) - 1 = nI (2 ^ n - 1) := by rw [zq_all h10]; exact zn_sub (b := 1) (by omega)
  have K2 := K I' h1
  have hbd : zbd (zv_now I n T e) n := zv_now_bd hj
  unfold zA_must at K2
  generalize zv_now I n T e = f at *
  have loop := zl_fn (fun i => zk_R sc (d + 6) 166 10 [some (.ref (60 : Nat)), some (.int (zlm f n i).1), some (.int (zlm f n i).2), some (.int (nI i))] [] (zk_mk I' tg) P) (2 ^ n) (by
      rw [u166_10]
      have hcond : nI (2 ^ n - 1) < nI (2 ^ n) := by rw [zn_lt (by omega) (by omega)]; omega
      have hcond2 : ¬ nI (2 ^ n) ≤ nI (2 ^ n - 1) := Int32.not_le.mpr hcond
      simp only [u166_0, u166_1, u166_4, u166_5, u166_6, u166_7, u166_8, u166_9, u166_11, u166_12, u166_15, u166_18, u166_19, u166_22, u166_23, u166_24, u166_25, u166_28, u166_29, u166_32, u166_33, u166_34, u166_37, u166_38, u166_39, u166_40, u166_43, u166_44, u166_45, u166_46, u166_49, u166_50, u166_53, u166_54, u166_55, u166_58, u166_59, u166_60, u166_63, u166_66, u166_67, u166_68, u166_71, u166_72, u166_73, u166_74, u166_75, u166_76, u166_77, u166_80, u166_81, u166_84, u166_85, zk_mk_1, zk_mk_I, zk_mk_R, zk_mk_set, zk_mk_setR, zk_mk_cpy, zk_rv_some, zk_rv_none, Option.toList_some, Option.toList_none, List.cons_append, List.nil_append, reduceIte, eq_self, Nat.reduceLT, Nat.reduceEqDiff, and_true, true_and, reduceCtorEq, zsh_60, s161, hn', eall, hcond, hcond2, zlm_all hbd h10]
      rw [zq_all h10]
      by_cases hc : zpre (zps f) n - zpre (zng f) n + 1 < nI (2 ^ n)
      · rw [zb_t hc] at K2
        first | rw [if_pos hc] | rw [if_neg (Int32.not_le.mpr hc)]
        exact K2
      · rw [zb_f hc] at K2
        first | rw [if_neg hc] | rw [if_pos (Int32.not_lt.mp hc)]
        exact K2) (by
      intro i hi ih
      have hcond : ¬ nI (2 ^ n - 1) < nI i := by rw [zn_lt (by omega) (by omega)]; omega
      have hcond2 : nI i ≤ nI (2 ^ n - 1) := Int32.not_lt.mp hcond
      have z1 : zk_inb (nI i) 1024 = true := by rw [zn_in (by omega)]; omega
      have z2 : (nI i).toNatClampNeg = i := zn_cl (by omega)
      rw [u166_10]
      simp only [u166_0, u166_1, u166_4, u166_5, u166_6, u166_7, u166_8, u166_9, u166_11, u166_12, u166_15, u166_18, u166_19, u166_22, u166_23, u166_24, u166_25, u166_28, u166_29, u166_32, u166_33, u166_34, u166_37, u166_38, u166_39, u166_40, u166_43, u166_44, u166_45, u166_46, u166_49, u166_50, u166_53, u166_54, u166_55, u166_58, u166_59, u166_60, u166_63, u166_66, u166_67, u166_68, u166_71, u166_72, u166_73, u166_74, u166_75, u166_76, u166_77, u166_80, u166_81, u166_84, u166_85, zk_mk_1, zk_mk_I, zk_mk_R, zk_mk_set, zk_mk_setR, zk_mk_cpy, zk_rv_some, zk_rv_none, Option.toList_some, Option.toList_none, List.cons_append, List.nil_append, reduceIte, eq_self, Nat.reduceLT, Nat.reduceEqDiff, and_true, true_and, reduceCtorEq, zsh_60, zsh_78, zrf_60_31, s161, hn', eall, hcond, hcond2, z1, z2, (h3 i hi).1, nI_1]
      rw [zlm] at ih
      by_cases c1 : zsum f i n < (zlm f n i).1
      · have c1' : ¬ (zlm f n i).1 ≤ zsum f i n := Int32.not_le.mpr c1
        by_cases c2 : (zlm f n i).2 < zsum f i n
        · have c2' : ¬ zsum f i n ≤ (zlm f n i).2 := Int32.not_le.mpr c2
          simp only [c1, c2, c1', c2', reduceIte] at ih ⊢; exact ih
        · have c2' : zsum f i n ≤ (zlm f n i).2 := Int32.not_lt.mp c2
          simp only [c1, c2, c1', c2', reduceIte] at ih ⊢; exact ih
      · have c1' : (zlm f n i).1 ≤ zsum f i n := Int32.not_lt.mp c1
        by_cases c2 : (zlm f n i).2 < zsum f i n
        · have c2' : ¬ zsum f i n ≤ (zlm f n i).2 := Int32.not_le.mpr c2
          simp only [c1, c2, c1', c2', reduceIte] at ih ⊢; exact ih
        · have c2' : zsum f i n ≤ (zlm f n i).2 := Int32.not_lt.mp c2
          simp only [c1, c2, c1', c2', reduceIte] at ih ⊢; exact ih)
  simp only [u166_0, u166_1, u166_4, u166_5, u166_6, u166_7, u166_8, u166_9, u166_11, u166_12, u166_15, u166_18, u166_19, u166_22, u166_23, u166_24, u166_25, u166_28, u166_29, u166_32, u166_33, u166_34, u166_37, u166_38, u166_39, u166_40, u166_43, u166_44, u166_45, u166_46, u166_49, u166_50, u166_53, u166_54, u166_55, u166_58, u166_59, u166_60, u166_63, u166_66, u166_67, u166_68, u166_71, u166_72, u166_73, u166_74, u166_75, u166_76, u166_77, u166_80, u166_81, u166_84, u166_85, zk_mk_1, zk_mk_I, zk_mk_R, zk_mk_set, zk_mk_setR, zk_mk_cpy, zk_rv_some, zk_rv_none, Option.toList_some, Option.toList_none, List.cons_append, List.nil_append, reduceIte, eq_self, Nat.reduceLT, Nat.reduceEqDiff, and_true, true_and, reduceCtorEq]
  exact loop 0 (Nat.zero_le _)
