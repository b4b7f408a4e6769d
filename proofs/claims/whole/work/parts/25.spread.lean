/-! spread -/
def zpre (f : Nat → Int32) : Nat → Int32
  | 0 => 0
  | c + 1 => zpre f c + f c
theorem zpre_ext {f g : Nat → Int32} : ∀ n, (∀ c, c < n → f c = g c) → zpre f n = zpre g n
  | 0, _ => rfl
  | n + 1, h => by
    show zpre f n + f n = zpre g n + g n
    rw [zpre_ext n (fun c hc => h c (by omega)), h n (by omega)]
theorem zbit_ones {c i : Nat} : (2 ^ c - 1) / 2 ^ i % 2 = if i < c then 1 else 0 := by
  have h := Nat.testBit_two_pow_sub_one c i
  rw [Nat.testBit_eq_decide_div_mod_eq] at h
  by_cases hi : i < c
  · rw [if_pos hi]; simpa [hi] using h
  · rw [if_neg hi]
    have : (2 ^ c - 1) / 2 ^ i = 0 := Nat.div_eq_of_lt (by
      have := Nat.pow_le_pow_right (n := 2) (by omega) (show c ≤ i by omega)
      have := Nat.two_pow_pos c
      omega)
    rw [this]
theorem zsum_pre (f : Nat → Int32) (c : Nat) : ∀ n, n ≤ c → zsum f (2 ^ c - 1) n = zpre f n
  | 0, _ => rfl
  | n + 1, h => by
    show zsum f (2 ^ c - 1) n + (if (2 ^ c - 1) / 2 ^ n % 2 = 1 then f n else 0) = zpre f n + f n
    rw [zsum_pre f c n (by omega), zbit_ones, if_pos (show n < c by omega), if_pos rfl]
theorem zsum_pre2 (f : Nat → Int32) {c n : Nat} (h : c ≤ n) : zsum f (2 ^ c - 1) n = zpre f c := by
  have hp := Nat.two_pow_pos c
  have := zsum_more (a := f) (h := 2 ^ c - 1) (n := c) (by omega) (n - c)
  rw [show c + (n - c) = n by omega] at this
  rw [this]
  exact zsum_pre f c c (Nat.le_refl _)
/-- the first of a row that is so; -1: none -/
def zfirst (p : Nat → Bool) : Nat → Nat → Int32
  | _, 0 => -1
  | i, k + 1 => if p i then nI i else zfirst p (i + 1) k
theorem zfirst_skip (p : Nat → Bool) : ∀ (i j k : Nat), (∀ c, i ≤ c → c < i + j → p c = false) → zfirst p i (j + k) = zfirst p (i + j) k
  | i, 0, k, _ => by simp
  | i, j + 1, k, h => by
    rw [show j + 1 + k = (j + k) + 1 by omega]
    show (if p i then nI i else zfirst p (i + 1) (j + k)) = _
    rw [h i (Nat.le_refl _) (by omega), if_neg (by decide), zfirst_skip p (i + 1) j k (fun c h1 h2 => h c (by omega) (by omega))]
    congr 1
    omega
theorem zfirst_at {p : Nat → Bool} {i n : Nat} (hi : i < n) (h : ∀ c, c < i → p c = false) (hp : p i = true) : zfirst p 0 n = nI i := by
  have := zfirst_skip p 0 i (n - i) (fun c _ h2 => h c (by omega))
  rw [show i + (n - i) = n by omega, Nat.zero_add] at this
  rw [this]
  obtain ⟨k, hk⟩ : ∃ k, n - i = k + 1 := ⟨n - i - 1, by omega⟩
  rw [hk]
  show (if p i then nI i else _) = _
  rw [if_pos hp]
theorem zfirst_no {p : Nat → Bool} {n : Nat} (h : ∀ c, c < n → p c = false) : zfirst p 0 n = -1 := by
  have := zfirst_skip p 0 n 0 (fun c _ h2 => h c (by omega))
  rw [Nat.add_zero] at this
  rw [this]
  rfl
def zA_spread (I : Nat → Nat → Int32) (n : Nat) (T e : Nat → Nat) : Int32 := zfirst (fun c => decide (zv_now I n T e c ≤ zpre (zv_now I n T e) c)) 0 n
theorem s32 {sc : zk_X} {d : Nat} {I : Nat → Nat → Int32} {tg : Option Nat} {P : Option Value → zk_M → Prop} {n t : Nat} {T e : Nat → Nat} (hq : zj_q I n t T e)
    (K : ∀ I' : Nat → Nat → Int32, zF I I' → P (some (.int (zA_spread I n T e))) (zk_mk I' tg)) : zk_R sc (d + 5) 32 0 [some (.ref (0 : Nat)), none, none] [] (zk_mk I tg) P := by
  obtain ⟨hj, hl, hr, ht, hx⟩ := hq
  obtain ⟨w1, w2, w3, w4⟩ := zx_83 ht
  have h10 := hj.2.2.1
  simp only [u32_0, u32_1, u32_2, u32_5, u32_8, u32_9, u32_10, u32_11, u32_13, u32_14, u32_17, u32_20, u32_23, u32_24, u32_27, u32_30, u32_31, u32_32, u32_33, u32_36, u32_37, u32_38, u32_39, u32_40, u32_43, u32_46, u32_47, u32_48, u32_49, u32_50, u32_53, u32_56, u32_57, zk_mk_1, zk_mk_I, zk_mk_R, zk_mk_set, zk_mk_setR, zk_mk_cpy, zk_rv_some, zk_rv_none, Option.toList_some, Option.toList_none, List.cons_append, List.nil_append, reduceIte, eq_self, Nat.reduceLT, Nat.reduceEqDiff, and_true, true_and, reduceCtorEq, zsh_0, s7 ht hl, zx_28 ht, w1]
  refine s17 hj ht hx (fun I' h1 h2 h3 => ?_)
  have hn' : I' 1 4 = nI n := (h1.tab hj).1
  have K2 := K I' h1
  have loop := zl_up (τ := Unit) (fun i _ => zk_R sc (d + 5) 32 12 [some (.ref (0 : Nat)), some (.int (zpre (zv_now I n T e) i)), some (.int (nI i))] [] (zk_mk I' tg) P)
    (fun i _ => ∀ c, c < i → decide (zv_now I n T e c ≤ zpre (zv_now I n T e) c) = false) n (by
      intro _ hi
      rw [u32_12]
      simp only [u32_0, u32_1, u32_2, u32_5, u32_8, u32_9, u32_10, u32_11, u32_13, u32_14, u32_17, u32_20, u32_23, u32_24, u32_27, u32_30, u32_31, u32_32, u32_33, u32_36, u32_37, u32_38, u32_39, u32_40, u32_43, u32_46, u32_47, u32_48, u32_49, u32_50, u32_53, u32_56, u32_57, zk_mk_1, zk_mk_I, zk_mk_R, zk_mk_set, zk_mk_setR, zk_mk_cpy, zk_rv_some, zk_rv_none, Option.toList_some, Option.toList_none, List.cons_append, List.nil_append, reduceIte, eq_self, Nat.reduceLT, Nat.reduceEqDiff, and_true, true_and, reduceCtorEq, zsh_0, zsh_1, zrf_0_0, hn']
      rw [if_pos (nI_le (Nat.le_refl _) (by omega))]
      unfold zA_spread at K2
      rw [zfirst_no hi] at K2
      exact K2) (by
      intro i _ hi hi2 ih
      rw [u32_12]
      simp only [u32_0, u32_1, u32_2, u32_5, u32_8, u32_9, u32_10, u32_11, u32_13, u32_14, u32_17, u32_20, u32_23, u32_24, u32_27, u32_30, u32_31, u32_32, u32_33, u32_36, u32_37, u32_38, u32_39, u32_40, u32_43, u32_46, u32_47, u32_48, u32_49, u32_50, u32_53, u32_56, u32_57, zk_mk_1, zk_mk_I, zk_mk_R, zk_mk_set, zk_mk_setR, zk_mk_cpy, zk_rv_some, zk_rv_none, Option.toList_some, Option.toList_none, List.cons_append, List.nil_append, reduceIte, eq_self, Nat.reduceLT, Nat.reduceEqDiff, and_true, true_and, reduceCtorEq, zsh_0, zsh_1, zsh_15, zsh_16, zrf_0_0, zrf_0_7, zrf_15_0, hn']
      rw [if_neg (nI_ge hi (by omega))]
      simp (disch := omega) only [zn_in, zn_cl, nI_1]
      rw [h2 i hi]
      refine ⟨by omega, ?_⟩
      by_cases hc : zv_now I n T e i ≤ zpre (zv_now I n T e) i
      · unfold zA_spread at K2
        rw [zfirst_at hi hi2 (by simpa using hc)] at K2
        first | rw [if_pos hc] | rw [if_neg (Int32.not_lt.mpr hc)]
        exact K2
      · first | rw [if_neg hc] | rw [if_pos (Int32.not_le.mp hc)]
        refine ⟨by omega, ?_⟩
        exact ih () (fun c hc2 => by
          by_cases hci : c = i
          · rw [hci]; simpa using Int32.not_le.mp hc
          · exact hi2 c (by omega)))
  simp only [u32_0, u32_1, u32_2, u32_5, u32_8, u32_9, u32_10, u32_11, u32_13, u32_14, u32_17, u32_20, u32_23, u32_24, u32_27, u32_30, u32_31, u32_32, u32_33, u32_36, u32_37, u32_38, u32_39, u32_40, u32_43, u32_46, u32_47, u32_48, u32_49, u32_50, u32_53, u32_56, u32_57, zk_mk_1, zk_mk_I, zk_mk_R, zk_mk_set, zk_mk_setR, zk_mk_cpy, zk_rv_some, zk_rv_none, Option.toList_some, Option.toList_none, List.cons_append, List.nil_append, reduceIte, eq_self, Nat.reduceLT, Nat.reduceEqDiff, and_true, true_and, reduceCtorEq]
  exact loop 0 () (Nat.zero_le _) (fun c hc => absurd hc (Nat.not_lt_zero _))
theorem s183 {sc : zk_X} {d : Nat} {I : Nat → Nat → Int32} {tg : Option Nat} {P : Option Value → zk_M → Prop} {n t : Nat} {T e : Nat → Nat} (hq : zj_q I n t T e)
    (K : ∀ I' : Nat → Nat → Int32, zF I I' → P (some (.int (zA_spread I n T e))) (zk_mk I' tg)) : zk_R sc (d + 6) 183 0 [some (.ref (60 : Nat)), none] [] (zk_mk I tg) P := by
  obtain ⟨hj, hl, hr, ht, hx⟩ := hq
  have h10 := hj.2.2.1
  simp only [u183_0, u183_1, u183_4, u183_5, u183_7, u183_8, u183_11, u183_14, u183_15, u183_18, u183_19, u183_20, u183_21, u183_24, u183_25, u183_26, u183_27, u183_28, u183_29, u183_30, u183_33, u183_34, u183_35, u183_38, u183_41, u183_42, zk_mk_1, zk_mk_I, zk_mk_R, zk_mk_set, zk_mk_setR, zk_mk_cpy, zk_rv_some, zk_rv_none, Option.toList_some, Option.toList_none, List.cons_append, List.nil_append, reduceIte, eq_self, Nat.reduceLT, Nat.reduceEqDiff, and_true, true_and, reduceCtorEq, zsh_60]
  refine s162 hj ht hr hx (fun I' h1 h2 h3 => ?_)
  have hn' : I' 60 0 = nI n := (h1.tab hj).2.1
  have K2 := K I' h1
  have loop := zl_up (τ := Unit) (fun i _ => zk_R sc (d + 6) 183 6 [some (.ref (60 : Nat)), some (.int (nI i))] [] (zk_mk I' tg) P)
    (fun i _ => ∀ c, c < i → decide (zv_now I n T e c ≤ zpre (zv_now I n T e) c) = false) n (by
      intro _ hi
      rw [u183_6]
      simp only [u183_0, u183_1, u183_4, u183_5, u183_7, u183_8, u183_11, u183_14, u183_15, u183_18, u183_19, u183_20, u183_21, u183_24, u183_25, u183_26, u183_27, u183_28, u183_29, u183_30, u183_33, u183_34, u183_35, u183_38, u183_41, u183_42, zk_mk_1, zk_mk_I, zk_mk_R, zk_mk_set, zk_mk_setR, zk_mk_cpy, zk_rv_some, zk_rv_none, Option.toList_some, Option.toList_none, List.cons_append, List.nil_append, reduceIte, eq_self, Nat.reduceLT, Nat.reduceEqDiff, and_true, true_and, reduceCtorEq, zsh_60, hn']
      rw [if_pos (nI_le (Nat.le_refl _) (by omega))]
      unfold zA_spread at K2
      rw [zfirst_no hi] at K2
      exact K2) (by
      intro i _ hi hi2 ih
      have p1 := Nat.two_pow_pos i
      have p2 : 2 ^ i ≤ 2 ^ n := Nat.pow_le_pow_right (by omega) (by omega)
      have p10 := zp_10 h10
      rw [u183_6]
      simp only [u183_0, u183_1, u183_4, u183_5, u183_7, u183_8, u183_11, u183_14, u183_15, u183_18, u183_19, u183_20, u183_21, u183_24, u183_25, u183_26, u183_27, u183_28, u183_29, u183_30, u183_33, u183_34, u183_35, u183_38, u183_41, u183_42, zk_mk_1, zk_mk_I, zk_mk_R, zk_mk_set, zk_mk_setR, zk_mk_cpy, zk_rv_some, zk_rv_none, Option.toList_some, Option.toList_none, List.cons_append, List.nil_append, reduceIte, eq_self, Nat.reduceLT, Nat.reduceEqDiff, and_true, true_and, reduceCtorEq, zsh_60, zsh_77, zsh_78, zrf_60_30, zrf_60_31, hn']
      rw [if_neg (nI_ge hi (by omega)), zq_pow (by omega), show nI (2 ^ i) - 1 = nI (2 ^ i - 1) from zn_sub (b := 1) (by omega)]
      simp (disch := omega) only [zn_in, zn_cl, nI_1]
      rw [h2 i hi, (h3 (2 ^ i - 1) (by omega)).1, zsum_pre2 _ (show i ≤ n by omega)]
      refine ⟨by omega, by omega, ?_⟩
      by_cases hc : zv_now I n T e i ≤ zpre (zv_now I n T e) i
      · unfold zA_spread at K2
        rw [zfirst_at hi hi2 (by simpa using hc)] at K2
        first | rw [if_pos hc] | rw [if_neg (Int32.not_lt.mpr hc)]
        exact K2
      · first | rw [if_neg hc] | rw [if_pos (Int32.not_le.mp hc)]
        exact ih () (fun c hc2 => by
          by_cases hci : c = i
          · rw [hci]; simpa using Int32.not_le.mp hc
          · exact hi2 c (by omega)))
  simp only [u183_0, u183_1, u183_4, u183_5, u183_7, u183_8, u183_11, u183_14, u183_15, u183_18, u183_19, u183_20, u183_21, u183_24, u183_25, u183_26, u183_27, u183_28, u183_29, u183_30, u183_33, u183_34, u183_35, u183_38, u183_41, u183_42, zk_mk_1, zk_mk_I, zk_mk_R, zk_mk_set, zk_mk_setR, zk_mk_cpy, zk_rv_some, zk_rv_none, Option.toList_some, Option.toList_none, List.cons_append, List.nil_append, reduceIte, eq_self, Nat.reduceLT, Nat.reduceEqDiff, and_true, true_and, reduceCtorEq]
  exact loop 0 () (Nat.zero_le _) (fun c hc => absurd hc (Nat.not_lt_zero _))
