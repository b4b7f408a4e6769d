/-! how many cards a heap has -/
def zc1 (x : Int32) : Int32 := x - ((x.toUInt32 >>> (Int32.toUInt32 1 &&& Int32.toUInt32 31)).toInt32 &&& 1431655765)
def zc2 (x : Int32) : Int32 := (x &&& 858993459) + ((x.toUInt32 >>> (Int32.toUInt32 2 &&& Int32.toUInt32 31)).toInt32 &&& 858993459)
def zc3 (x : Int32) : Int32 := x + (x.toUInt32 >>> (Int32.toUInt32 4 &&& Int32.toUInt32 31)).toInt32 &&& 252645135
def zc4 (x : Int32) : Int32 := x + (x.toUInt32 >>> (Int32.toUInt32 8 &&& Int32.toUInt32 31)).toInt32
def zc5 (x : Int32) : Int32 := x + (x.toUInt32 >>> (Int32.toUInt32 16 &&& Int32.toUInt32 31)).toInt32
def zc6 (x : Int32) : Int32 := x &&& 63
theorem zc_all : ∀ h, h < 1024 → zc6 (zc5 (zc4 (zc3 (zc2 (zc1 (nI h)))))) = nI (zones h 12) := by decide +kernel
theorem s218 {sc : zk_X} {d : Nat} {M : zk_M} {P : Option Value → zk_M → Prop} {h : Nat} (hh : h < 1024) : zk_R sc d 218 0 [some (.int (nI h))] [] M P = P (some (.int (nI (zones h 12)))) M := by
  simp only [u218_0, u218_1, u218_2, u218_3, u218_4, u218_7, u218_8, u218_9, u218_10, u218_11, u218_14, u218_15, u218_16, u218_17, u218_18, u218_21, u218_22, u218_23, u218_24, u218_25, u218_26, u218_27, u218_28, u218_29, u218_32, u218_33, u218_34, u218_35, u218_36, u218_38, u218_39, u218_40, u218_41, u218_42, u218_43, u218_45, u218_46, u218_47, u218_48, u218_49, u218_51, u218_52]
  rw [← zc_all h hh]
  rfl
/-! the first questions about heaps -/
def zj_q (I : Nat → Nat → Int32) (n t : Nat) (T e : Nat → Nat) : Prop := zj_tab I n ∧ I 1 5 = nI t ∧ I 60 10 = nI t ∧ t < 6 ∧ zj_text I t T e
theorem zF.q {I I' : Nat → Nat → Int32} {n t : Nat} {T e : Nat → Nat} (h : zF I I') (hq : zj_q I n t T e) : zj_q I' n t T e := by
  obtain ⟨a, b, c, d, f⟩ := hq
  exact ⟨h.tab a, by rw [h 1 rfl]; exact b, by rw [h 60 rfl]; exact c, d, h.text d f⟩
def zv_lie (I : Nat → Nat → Int32) (n : Nat) (q : Int32) : Nat := zset (fun c => decide (I 5 c = q)) n
theorem zv_lie_m {I : Nat → Nat → Int32} {n : Nat} {q : Int32} (hj : zj_tab I n) : zset (fun c => decide (I 64 c = q)) n = zv_lie I n q := zset_ext (fun c hc => by rw [zj_side hj hc])
theorem zv_sum {I' : Nat → Nat → Int32} {n h : Nat} {f : Nat → Int32} (h10 : n ≤ 10) (hh : h < 2 ^ n) (hc : ∀ c, c < n → I' 16 c = f c) : zsum (I' 16) h 10 = zsum f h n := by
  rw [zsum_10 h10 hh]
  exact zsum_ext hc
def zA_apart (I : Nat → Nat → Int32) (n : Nat) (T e : Nat → Nat) : Int32 := zsum (zv_now I n T e) (zv_lie I n 1) n - zsum (zv_now I n T e) (zv_lie I n 2) n
theorem s18 {sc : zk_X} {d : Nat} {I : Nat → Nat → Int32} {tg : Option Nat} {P : Option Value → zk_M → Prop} {n t : Nat} {T e : Nat → Nat} (hq : zj_q I n t T e)
    (K : ∀ I' : Nat → Nat → Int32, zF I I' → P (some (.int (zA_apart I n T e))) (zk_mk I' tg)) : zk_R sc (d + 5) 18 0 [some (.ref (0 : Nat))] [] (zk_mk I tg) P := by
  obtain ⟨hj, hl, hr, ht, hx⟩ := hq
  obtain ⟨w1, w2, w3, w4⟩ := zx_83 ht
  have p10 := zp_10 hj.2.2.1
  simp only [u18_0, u18_1, u18_2, u18_5, u18_8, u18_9, u18_12, u18_13, u18_16, u18_17, u18_20, u18_23, u18_24, u18_27, u18_28, u18_31, u18_32, u18_35, u18_38, u18_39, zk_mk_1, zk_mk_I, zk_mk_R, zk_mk_set, zk_mk_setR, zk_mk_cpy, zk_rv_some, zk_rv_none, Option.toList_some, Option.toList_none, List.cons_append, List.nil_append, reduceIte, eq_self, Nat.reduceLT, Nat.reduceEqDiff, and_true, true_and, reduceCtorEq, zsh_0, s7 ht hl, zx_28 ht, w1]
  refine s17 hj ht hx (fun I' h1 h2 h3 => ?_)
  have hj' := h1.tab hj
  have hz1 : zset (fun c => decide (I' 5 c = 1)) n < 2 ^ n := zset_lt _ n
  have hz2 : zset (fun c => decide (I' 5 c = 2)) n < 2 ^ n := zset_lt _ n
  simp only [u18_0, u18_1, u18_2, u18_5, u18_8, u18_9, u18_12, u18_13, u18_16, u18_17, u18_20, u18_23, u18_24, u18_27, u18_28, u18_31, u18_32, u18_35, u18_38, u18_39, zk_mk_1, zk_mk_I, zk_mk_R, zk_mk_set, zk_mk_setR, zk_mk_cpy, zk_rv_some, zk_rv_none, Option.toList_some, Option.toList_none, List.cons_append, List.nil_append, reduceIte, eq_self, Nat.reduceLT, Nat.reduceEqDiff, and_true, true_and, reduceCtorEq, zsh_0, zsh_1, zsh_15, zrf_0_0, zrf_0_7, s92 hj'.1 hj.2.2.1]
  rw [s62 (by omega)]
  simp only [u18_0, u18_1, u18_2, u18_5, u18_8, u18_9, u18_12, u18_13, u18_16, u18_17, u18_20, u18_23, u18_24, u18_27, u18_28, u18_31, u18_32, u18_35, u18_38, u18_39, zk_mk_1, zk_mk_I, zk_mk_R, zk_mk_set, zk_mk_setR, zk_mk_cpy, zk_rv_some, zk_rv_none, Option.toList_some, Option.toList_none, List.cons_append, List.nil_append, reduceIte, eq_self, Nat.reduceLT, Nat.reduceEqDiff, and_true, true_and, reduceCtorEq, zsh_0, zsh_1, zsh_15, zrf_0_0, zrf_0_7, s92 hj'.1 hj.2.2.1]
  rw [s62 (by omega)]
  simp only [u18_0, u18_1, u18_2, u18_5, u18_8, u18_9, u18_12, u18_13, u18_16, u18_17, u18_20, u18_23, u18_24, u18_27, u18_28, u18_31, u18_32, u18_35, u18_38, u18_39, zk_mk_1, zk_mk_I, zk_mk_R, zk_mk_set, zk_mk_setR, zk_mk_cpy, zk_rv_some, zk_rv_none, Option.toList_some, Option.toList_none, List.cons_append, List.nil_append, reduceIte, eq_self, Nat.reduceLT, Nat.reduceEqDiff, and_true, true_and, reduceCtorEq]
  rw [zv_sum hj.2.2.1 hz1 h2, zv_sum hj.2.2.1 hz2 h2, h1 5 rfl]
  exact K I' h1
theorem s165 {sc : zk_X} {d : Nat} {I : Nat → Nat → Int32} {tg : Option Nat} {P : Option Value → zk_M → Prop} {n : Nat} {f : Nat → Int32} (hj : zj_tab I n) (hs : zv_rows I 78 79 f n) : zk_R sc (d + 1) 165 0 [some (.ref (60 : Nat))] [] (zk_mk I tg) P = P (some (.int (zsum f (zv_lie I n 1) n - zsum f (zv_lie I n 2) n))) (zk_mk I tg) := by
  have p10 := zp_10 hj.2.2.1
  have hz1 : zv_lie I n 1 < 2 ^ n := zset_lt _ n
  have hz2 : zv_lie I n 2 < 2 ^ n := zset_lt _ n
  simp only [u165_0, u165_1, u165_4, u165_5, u165_6, u165_9, u165_10, u165_11, u165_14, u165_15, u165_16, u165_19, u165_20, u165_21, zk_mk_1, zk_mk_I, zk_mk_R, zk_mk_set, zk_mk_setR, zk_mk_cpy, zk_rv_some, zk_rv_none, Option.toList_some, Option.toList_none, List.cons_append, List.nil_append, reduceIte, eq_self, Nat.reduceLT, Nat.reduceEqDiff, and_true, true_and, reduceCtorEq, zsh_60, zsh_78, zrf_60_31, s140 hj.2.1 hj.2.2.1, zv_lie_m hj]
  simp (disch := omega) only [zn_in, zn_cl]
  rw [(hs _ hz1).1, (hs _ hz2).1]
  apply propext
  constructor
  · intro h; exact h.2.2
  · intro h; exact ⟨by omega, by omega, h⟩
theorem s164 {sc : zk_X} {d : Nat} {I : Nat → Nat → Int32} {tg : Option Nat} {P : Option Value → zk_M → Prop} {n t : Nat} {T e : Nat → Nat} (hq : zj_q I n t T e)
    (K : ∀ I' : Nat → Nat → Int32, zF I I' → P (some (.int (zA_apart I n T e))) (zk_mk I' tg)) : zk_R sc (d + 6) 164 0 [some (.ref (60 : Nat))] [] (zk_mk I tg) P := by
  obtain ⟨hj, hl, hr, ht, hx⟩ := hq
  simp only [u164_0, u164_1, u164_4, u164_5, u164_8, zk_mk_1, zk_mk_I, zk_mk_R, zk_mk_set, zk_mk_setR, zk_mk_cpy, zk_rv_some, zk_rv_none, Option.toList_some, Option.toList_none, List.cons_append, List.nil_append, reduceIte, eq_self, Nat.reduceLT, Nat.reduceEqDiff, and_true, true_and, reduceCtorEq, zsh_60]
  refine s162 hj ht hr hx (fun I' h1 h2 h3 => ?_)
  simp only [u164_0, u164_1, u164_4, u164_5, u164_8, zk_mk_1, zk_mk_I, zk_mk_R, zk_mk_set, zk_mk_setR, zk_mk_cpy, zk_rv_some, zk_rv_none, Option.toList_some, Option.toList_none, List.cons_append, List.nil_append, reduceIte, eq_self, Nat.reduceLT, Nat.reduceEqDiff, and_true, true_and, reduceCtorEq, zsh_60, s165 (h1.tab hj) h3]
  have e5 : ∀ q, zv_lie I' n q = zv_lie I n q := fun q => by unfold zv_lie; rw [h1 5 rfl]
  rw [e5, e5]
  exact K I' h1
/-! heap -/
def zA_heap (I : Nat → Nat → Int32) (n : Nat) (T e : Nat → Nat) (h : Nat) (what : Int32) : Int32 := if what = 0 then zsum (zv_now I n T e) h n else if what = 1 then zsum (fun c => zv_now I n T e c * zv_now I n T e c) h n else nI (zones h 12)
def zA_heapA (I : Nat → Nat → Int32) (n : Nat) (T e : Nat → Nat) (set what : Int32) : Int32 := if 0 ≤ set ∧ set < nI (2 ^ n) then (if 0 ≤ what ∧ what ≤ 2 then zA_heap I n T e set.toNatClampNeg what else -200000) else -100000
theorem zn_of {x : Int32} {m : Nat} (h0 : 0 ≤ x) (h1 : x < nI m) (hm : m < 2147483648) : ∃ k : Nat, k < m ∧ x = nI k := by
  have a := Int32.le_iff_toInt_le.mp h0
  have b := Int32.lt_iff_toInt_lt.mp h1
  have e0 : (0 : Int32).toInt = 0 := by decide
  rw [nI_toInt hm] at b
  refine ⟨x.toInt.toNat, by omega, ?_⟩
  apply Int32.toInt.inj
  rw [nI_toInt (by omega)]
  omega
theorem zn_lem {x : Int32} {m : Nat} (hm : m < 2147483648) (h0 : 1 ≤ m) : (x ≤ nI m - 1) = (x < nI m) := by
  rw [show nI m - 1 = nI (m - 1) from zn_sub (b := 1) h0]
  apply propext
  rw [Int32.le_iff_toInt_le, Int32.lt_iff_toInt_lt, nI_toInt (by omega), nI_toInt hm]
  omega
theorem s16 {sc : zk_X} {d : Nat} {I : Nat → Nat → Int32} {tg : Option Nat} {P : Option Value → zk_M → Prop} {n t : Nat} {T e : Nat → Nat} {set what : Int32} (hq : zj_q I n t T e)
    (K : ∀ I' : Nat → Nat → Int32, zF I I' → P (some (.int (zA_heapA I n T e set what))) (zk_mk I' tg)) : zk_R sc (d + 5) 16 0 [some (.ref (0 : Nat)), some (.int set), some (.int what)] [] (zk_mk I tg) P := by
  obtain ⟨hj, hl, hr, ht, hx⟩ := hq
  obtain ⟨w1, w2, w3, w4⟩ := zx_83 ht
  have p10 := zp_10 hj.2.2.1
  simp only [u16_0, u16_1, u16_4, u16_5, u16_8, u16_11, u16_13, u16_14, u16_15, u16_18, u16_19, u16_20, u16_23, u16_25, u16_26, u16_27, u16_28, u16_31, u16_34, u16_35, u16_38, u16_39, u16_42, u16_43, u16_46, u16_49, u16_50, u16_51, u16_54, u16_55, u16_58, u16_59, u16_62, u16_65, u16_66, u16_69, zk_mk_1, zk_mk_I, zk_mk_R, zk_mk_set, zk_mk_setR, zk_mk_cpy, zk_rv_some, zk_rv_none, Option.toList_some, Option.toList_none, List.cons_append, List.nil_append, reduceIte, eq_self, Nat.reduceLT, Nat.reduceEqDiff, and_true, true_and, reduceCtorEq, zsh_0, zsh_1, zrf_0_0, s97, hj.1, zq_all hj.2.2.1, zb_z]
  unfold zA_heapA at K
  by_cases hs : 0 ≤ set ∧ set < nI (2 ^ n)
  · obtain ⟨h, hh, rfl⟩ := zn_of hs.1 hs.2 (by omega)
    rw [if_pos hs] at K
    rw [if_neg (fun q => q hs)]
    by_cases hw : 0 ≤ what ∧ what ≤ 2
    · rw [if_pos hw] at K
      rw [zn_cl (by omega)] at K
      rw [if_neg (Int32.not_lt.mpr hw.1), if_pos hw.2]
      simp only [u16_0, u16_1, u16_4, u16_5, u16_8, u16_11, u16_13, u16_14, u16_15, u16_18, u16_19, u16_20, u16_23, u16_25, u16_26, u16_27, u16_28, u16_31, u16_34, u16_35, u16_38, u16_39, u16_42, u16_43, u16_46, u16_49, u16_50, u16_51, u16_54, u16_55, u16_58, u16_59, u16_62, u16_65, u16_66, u16_69, zk_mk_1, zk_mk_I, zk_mk_R, zk_mk_set, zk_mk_setR, zk_mk_cpy, zk_rv_some, zk_rv_none, Option.toList_some, Option.toList_none, List.cons_append, List.nil_append, reduceIte, eq_self, Nat.reduceLT, Nat.reduceEqDiff, and_true, true_and, reduceCtorEq, zsh_0, s7 ht hl, zx_28 ht, w1]
      refine s17 hj ht hx (fun I' h1 h2 h3 => ?_)
      have K2 := K I' h1
      unfold zA_heap at K2
      simp only [u16_0, u16_1, u16_4, u16_5, u16_8, u16_11, u16_13, u16_14, u16_15, u16_18, u16_19, u16_20, u16_23, u16_25, u16_26, u16_27, u16_28, u16_31, u16_34, u16_35, u16_38, u16_39, u16_42, u16_43, u16_46, u16_49, u16_50, u16_51, u16_54, u16_55, u16_58, u16_59, u16_62, u16_65, u16_66, u16_69, zk_mk_1, zk_mk_I, zk_mk_R, zk_mk_set, zk_mk_setR, zk_mk_cpy, zk_rv_some, zk_rv_none, Option.toList_some, Option.toList_none, List.cons_append, List.nil_append, reduceIte, eq_self, Nat.reduceLT, Nat.reduceEqDiff, and_true, true_and, reduceCtorEq, zsh_0, zsh_15, zrf_0_7]
      by_cases hw0 : what = 0
      · rw [if_pos hw0] at K2 ⊢
        rw [s62 (by omega)]
        simp only [u16_0, u16_1, u16_4, u16_5, u16_8, u16_11, u16_13, u16_14, u16_15, u16_18, u16_19, u16_20, u16_23, u16_25, u16_26, u16_27, u16_28, u16_31, u16_34, u16_35, u16_38, u16_39, u16_42, u16_43, u16_46, u16_49, u16_50, u16_51, u16_54, u16_55, u16_58, u16_59, u16_62, u16_65, u16_66, u16_69, zk_mk_1, zk_mk_I, zk_mk_R, zk_mk_set, zk_mk_setR, zk_mk_cpy, zk_rv_some, zk_rv_none, Option.toList_some, Option.toList_none, List.cons_append, List.nil_append, reduceIte, eq_self, Nat.reduceLT, Nat.reduceEqDiff, and_true, true_and, reduceCtorEq]
        rw [zv_sum hj.2.2.1 hh h2]
        exact K2
      · rw [if_neg hw0] at K2 ⊢
        by_cases hw1 : what = 1
        · rw [if_pos hw1] at K2 ⊢
          rw [s63 (by omega)]
          simp only [u16_0, u16_1, u16_4, u16_5, u16_8, u16_11, u16_13, u16_14, u16_15, u16_18, u16_19, u16_20, u16_23, u16_25, u16_26, u16_27, u16_28, u16_31, u16_34, u16_35, u16_38, u16_39, u16_42, u16_43, u16_46, u16_49, u16_50, u16_51, u16_54, u16_55, u16_58, u16_59, u16_62, u16_65, u16_66, u16_69, zk_mk_1, zk_mk_I, zk_mk_R, zk_mk_set, zk_mk_setR, zk_mk_cpy, zk_rv_some, zk_rv_none, Option.toList_some, Option.toList_none, List.cons_append, List.nil_append, reduceIte, eq_self, Nat.reduceLT, Nat.reduceEqDiff, and_true, true_and, reduceCtorEq]
          rw [zsum_10 hj.2.2.1 hh, zsum_ext (b := fun c => zv_now I n T e c * zv_now I n T e c) (fun c hc => by rw [h2 c hc])]
          exact K2
        · rw [if_neg hw1] at K2 ⊢
          rw [s218 (by omega)]
          simp only [u16_0, u16_1, u16_4, u16_5, u16_8, u16_11, u16_13, u16_14, u16_15, u16_18, u16_19, u16_20, u16_23, u16_25, u16_26, u16_27, u16_28, u16_31, u16_34, u16_35, u16_38, u16_39, u16_42, u16_43, u16_46, u16_49, u16_50, u16_51, u16_54, u16_55, u16_58, u16_59, u16_62, u16_65, u16_66, u16_69, zk_mk_1, zk_mk_I, zk_mk_R, zk_mk_set, zk_mk_setR, zk_mk_cpy, zk_rv_some, zk_rv_none, Option.toList_some, Option.toList_none, List.cons_append, List.nil_append, reduceIte, eq_self, Nat.reduceLT, Nat.reduceEqDiff, and_true, true_and, reduceCtorEq]
          exact K2
    · rw [if_neg hw] at K
      have K2 := K I (zF_refl I)
      by_cases h0 : what < 0
      · rw [if_pos h0]; exact K2
      · rw [if_neg h0, if_neg (fun q => hw ⟨Int32.not_lt.mp h0, q⟩)]; exact K2
  · rw [if_neg hs] at K
    rw [if_pos hs]
    exact K I (zF_refl I)
theorem s159 {sc : zk_X} {d : Nat} {I : Nat → Nat → Int32} {tg : Option Nat} {P : Option Value → zk_M → Prop} {n t : Nat} {T e : Nat → Nat} {set what : Int32} (hq : zj_q I n t T e)
    (K : ∀ I' : Nat → Nat → Int32, zF I I' → P (some (.int (zA_heapA I n T e set what))) (zk_mk I' tg)) : zk_R sc (d + 6) 159 0 [some (.ref (60 : Nat)), some (.int set), some (.int what)] [] (zk_mk I tg) P := by
  obtain ⟨hj, hl, hr, ht, hx⟩ := hq
  have p10 := zp_10 hj.2.2.1
  simp only [u159_0, u159_1, u159_2, u159_5, u159_8, u159_10, u159_11, u159_12, u159_13, u159_14, u159_17, u159_20, u159_22, u159_23, u159_24, u159_27, u159_28, u159_31, u159_32, u159_35, u159_36, u159_37, u159_40, u159_41, u159_42, u159_45, u159_46, u159_49, u159_50, u159_51, u159_54, u159_55, u159_58, zk_mk_1, zk_mk_I, zk_mk_R, zk_mk_set, zk_mk_setR, zk_mk_cpy, zk_rv_some, zk_rv_none, Option.toList_some, Option.toList_none, List.cons_append, List.nil_append, reduceIte, eq_self, Nat.reduceLT, Nat.reduceEqDiff, and_true, true_and, reduceCtorEq, zsh_60, s160, hj.2.1, zq_all hj.2.2.1, zb_z, zn_lem (show 2 ^ n < 2147483648 by omega) p10.1]
  unfold zA_heapA at K
  by_cases hs : 0 ≤ set ∧ set < nI (2 ^ n)
  · obtain ⟨h, hh, rfl⟩ := zn_of hs.1 hs.2 (by omega)
    rw [if_pos hs] at K
    rw [if_neg (fun q => q hs)]
    simp only [s129, u159_0, u159_1, u159_2, u159_5, u159_8, u159_10, u159_11, u159_12, u159_13, u159_14, u159_17, u159_20, u159_22, u159_23, u159_24, u159_27, u159_28, u159_31, u159_32, u159_35, u159_36, u159_37, u159_40, u159_41, u159_42, u159_45, u159_46, u159_49, u159_50, u159_51, u159_54, u159_55, u159_58, zk_mk_1, zk_mk_I, zk_mk_R, zk_mk_set, zk_mk_setR, zk_mk_cpy, zk_rv_some, zk_rv_none, Option.toList_some, Option.toList_none, List.cons_append, List.nil_append, reduceIte, eq_self, Nat.reduceLT, Nat.reduceEqDiff, and_true, true_and, reduceCtorEq, zb_z]
    by_cases hw : 0 ≤ what ∧ what ≤ 2
    · rw [if_pos hw] at K
      rw [zn_cl (by omega)] at K
      rw [if_neg (fun q => q hw)]
      simp only [u159_0, u159_1, u159_2, u159_5, u159_8, u159_10, u159_11, u159_12, u159_13, u159_14, u159_17, u159_20, u159_22, u159_23, u159_24, u159_27, u159_28, u159_31, u159_32, u159_35, u159_36, u159_37, u159_40, u159_41, u159_42, u159_45, u159_46, u159_49, u159_50, u159_51, u159_54, u159_55, u159_58, zk_mk_1, zk_mk_I, zk_mk_R, zk_mk_set, zk_mk_setR, zk_mk_cpy, zk_rv_some, zk_rv_none, Option.toList_some, Option.toList_none, List.cons_append, List.nil_append, reduceIte, eq_self, Nat.reduceLT, Nat.reduceEqDiff, and_true, true_and, reduceCtorEq, zsh_60]
      refine s162 hj ht hr hx (fun I' h1 h2 h3 => ?_)
      have K2 := K I' h1
      unfold zA_heap at K2
      simp only [u159_0, u159_1, u159_2, u159_5, u159_8, u159_10, u159_11, u159_12, u159_13, u159_14, u159_17, u159_20, u159_22, u159_23, u159_24, u159_27, u159_28, u159_31, u159_32, u159_35, u159_36, u159_37, u159_40, u159_41, u159_42, u159_45, u159_46, u159_49, u159_50, u159_51, u159_54, u159_55, u159_58, zk_mk_1, zk_mk_I, zk_mk_R, zk_mk_set, zk_mk_setR, zk_mk_cpy, zk_rv_some, zk_rv_none, Option.toList_some, Option.toList_none, List.cons_append, List.nil_append, reduceIte, eq_self, Nat.reduceLT, Nat.reduceEqDiff, and_true, true_and, reduceCtorEq, zsh_60, zsh_78, zsh_79, zrf_60_31, zrf_60_32]
      simp (disch := omega) only [zn_in, zn_cl]
      rw [(h3 h hh).1, (h3 h hh).2]
      by_cases hw0 : what = 0
      · rw [if_pos hw0] at K2 ⊢
        exact ⟨by omega, K2⟩
      · rw [if_neg hw0] at K2 ⊢
        by_cases hw1 : what = 1
        · rw [if_pos hw1] at K2 ⊢
          exact ⟨by omega, K2⟩
        · rw [if_neg hw1] at K2 ⊢
          rw [s163 (by omega)]
          simp only [u159_0, u159_1, u159_2, u159_5, u159_8, u159_10, u159_11, u159_12, u159_13, u159_14, u159_17, u159_20, u159_22, u159_23, u159_24, u159_27, u159_28, u159_31, u159_32, u159_35, u159_36, u159_37, u159_40, u159_41, u159_42, u159_45, u159_46, u159_49, u159_50, u159_51, u159_54, u159_55, u159_58, zk_mk_1, zk_mk_I, zk_mk_R, zk_mk_set, zk_mk_setR, zk_mk_cpy, zk_rv_some, zk_rv_none, Option.toList_some, Option.toList_none, List.cons_append, List.nil_append, reduceIte, eq_self, Nat.reduceLT, Nat.reduceEqDiff, and_true, true_and, reduceCtorEq]
          exact K2
    · rw [if_neg hw] at K
      rw [if_pos hw]
      exact K I (zF_refl I)
  · rw [if_neg hs] at K
    rw [if_pos hs]
    exact K I (zF_refl I)
