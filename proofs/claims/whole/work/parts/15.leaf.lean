/-! the small methods: an equation each -/
theorem zk_R_det {sc : zk_X} {d m pc : Nat} {ls : List (Option Value)} {st : List Value} {M : zk_M} {r0 : Option Value} {M0 : zk_M} (h : zk_R sc d m pc ls st M (fun r M' => r = r0 ∧ M' = M0)) (P : Option Value → zk_M → Prop) : zk_R sc d m pc ls st M P = P r0 M0 := by
  obtain ⟨n, r, M1, h1, rfl, rfl⟩ := h
  apply propext
  constructor
  · rintro ⟨k, r2, M2, h2, hp⟩
    have a := zk_mono' sc h1 (Nat.le_max_left n k)
    have b := zk_mono' sc h2 (Nat.le_max_right n k)
    rw [a] at b
    cases b
    exact hp
  · intro hp
    exact ⟨n, r, M1, h1, hp⟩
def zb (p : Prop) [Decidable p] : Int32 := if p then 1 else 0
theorem zb_t {p : Prop} [Decidable p] (h : p) : zb p = 1 := if_pos h
theorem zb_f {p : Prop} [Decidable p] (h : ¬ p) : zb p = 0 := if_neg h
theorem zb_z {p : Prop} [Decidable p] : (zb p = 0) = ¬ p := by unfold zb; split <;> simp_all
theorem zb_o {p : Prop} [Decidable p] : (zb p = 1) = p := by unfold zb; split <;> simp_all
theorem zb_01 {p : Prop} [Decidable p] : (zb p = 0 ∨ zb p = 1) := by unfold zb; split <;> simp
def zw_in (v lo hi : Int32) : Int32 := if v < lo then lo else if hi < v then hi else v
def zw_far (v : Int32) : Int32 := if v < 0 then -v else v
theorem zw_neg : ∀ v : Int32, (0 : Int32) - v = -v := by intro v; simp
theorem s9 {sc : zk_X} {d : Nat} {M : zk_M} {P : Option Value → zk_M → Prop} {v lo hi : Int32} (hl : lo ≤ hi) : zk_R sc d 9 0 [some (.int v), some (.int lo), some (.int hi)] [] M P = P (some (.int (zw_in v lo hi))) M := by
  simp only [u9_0, u9_1, u9_2, u9_3, u9_6, u9_9]
  have e : (if lo < (if v < hi then v else hi) then (if v < hi then v else hi) else lo) = zw_in v lo hi := by
    unfold zw_in
    simp only [Int32.lt_iff_toInt_lt, Int32.le_iff_toInt_le] at *
    (repeat' split) <;> first | rfl | omega | (apply Int32.toInt.inj; omega)
  rw [e]
theorem s149 {sc : zk_X} {d : Nat} {M : zk_M} {P : Option Value → zk_M → Prop} {v lo hi : Int32} : zk_R sc d 149 0 [some (.int v), some (.int lo), some (.int hi)] [] M P = P (some (.int (zw_in v lo hi))) M := by
  simp only [u149_0, u149_1, u149_2, u149_5, u149_6, u149_9, u149_10, u149_11, u149_14, u149_15, u149_18, u149_19, zw_in, ← Int32.not_lt]
  (repeat' split) <;> simp_all
theorem s129 {sc : zk_X} {d : Nat} {M : zk_M} {P : Option Value → zk_M → Prop} {v lo hi : Int32} : zk_R sc d 129 0 [some (.int v), some (.int lo), some (.int hi)] [] M P = P (some (.int (zb (lo ≤ v ∧ v ≤ hi)))) M := by
  simp only [u129_0, u129_1, u129_2, u129_5, u129_6, u129_7, u129_10, u129_11, u129_14, u129_15, true_and, or_true, true_or, zb, ← Int32.not_lt]
  (repeat' split) <;> simp_all
theorem s172 {sc : zk_X} {d : Nat} {M : zk_M} {P : Option Value → zk_M → Prop} {v : Int32} : zk_R sc d 172 0 [some (.int v)] [] M P = P (some (.int (zw_far v))) M := by
  simp only [u172_0, u172_1, u172_4, u172_5, u172_6, u172_9, u172_10, zw_far, ← Int32.not_lt]
  (repeat' split) <;> simp_all
theorem s3 {sc : zk_X} {d : Nat} {M : zk_M} {P : Option Value → zk_M → Prop} {v : Int32} : zk_R sc d 3 0 [some (.int v)] [] M P = P (some (.int (zb (0 ≤ v ∧ v ≤ 255)))) M := by
  simp only [u3_0, u3_1, u3_4, u3_5, u3_8, u3_11, u3_12, u3_15, u3_16, true_and, or_true, true_or, zb, ← Int32.not_lt]
  (repeat' split) <;> simp_all
theorem s38 {sc : zk_X} {d : Nat} {M : zk_M} {P : Option Value → zk_M → Prop} {v : Int32} : zk_R sc d 38 0 [some (.int v)] [] M P = P (some (.int (zb (0 ≤ v ∧ v < 4)))) M := by
  simp only [u38_0, u38_1, u38_4, u38_5, u38_6, u38_9, u38_10, u38_13, u38_14, true_and, or_true, true_or, zb, ← Int32.not_lt]
  (repeat' split) <;> simp_all
theorem s47 {sc : zk_X} {d : Nat} {M : zk_M} {P : Option Value → zk_M → Prop} {v : Int32} : zk_R sc d 47 0 [some (.int v)] [] M P = P (some (.int (zb (0 ≤ v ∧ v ≤ 99999)))) M := by
  simp only [u47_0, u47_1, u47_4, u47_5, u47_8, u47_11, u47_12, u47_15, u47_16, true_and, or_true, true_or, zb, ← Int32.not_lt]
  (repeat' split) <;> simp_all
theorem s66 {sc : zk_X} {d : Nat} {M : zk_M} {P : Option Value → zk_M → Prop} {a b : Int32} : zk_R sc d 66 0 [some (.int a), some (.int b)] [] M P = P (some (.int ((a - b) &&& b))) M := by
  simp only [u66_0, u66_1, u66_2, u66_3, u66_4, u66_5]
theorem s142 {sc : zk_X} {d : Nat} {M : zk_M} {P : Option Value → zk_M → Prop} {v : Int32} : zk_R sc (d + 1) 142 0 [some (.int v)] [] M P = P (some (.int (zb (0 ≤ v ∧ v ≤ 255)))) M := by
  simp only [u142_0, u142_1, u142_2, u142_5, u142_8, s129, Option.toList_some, List.cons_append, List.nil_append, zb_01, true_and]
theorem s93 {sc : zk_X} {d : Nat} {I : Nat → Nat → Int32} {tg : Option Nat} {P : Option Value → zk_M → Prop} {c : Int32} : zk_R sc d 93 0 [some (.ref (1 : Nat)), some (.int c)] [] (zk_mk I tg) P = P (some (.int (zb (0 ≤ c ∧ c < I 1 4)))) (zk_mk I tg) := by
  simp only [u93_0, u93_1, u93_4, u93_5, u93_6, u93_9, u93_12, u93_13, u93_16, u93_17, zk_mk_1, zk_mk_I, zk_mk_R, zk_mk_set, zk_mk_setR, zk_mk_cpy, zk_rv_some, zk_rv_none, Option.toList_some, Option.toList_none, List.cons_append, List.nil_append, reduceIte, eq_self, Nat.reduceLT, Nat.reduceEqDiff, and_true, true_and, reduceCtorEq, zsh_1, true_or, or_true, zb, ← Int32.not_lt]
  (repeat' split) <;> simp_all
theorem s97 {sc : zk_X} {d : Nat} {I : Nat → Nat → Int32} {tg : Option Nat} {P : Option Value → zk_M → Prop} {c : Int32} : zk_R sc d 97 0 [some (.ref (1 : Nat)), some (.int c)] [] (zk_mk I tg) P = P (some (.int (zb (0 ≤ c ∧ c < 1 <<< (I 1 4 &&& 31))))) (zk_mk I tg) := by
  simp only [u97_0, u97_1, u97_4, u97_5, u97_6, u97_7, u97_10, u97_11, u97_14, u97_15, u97_18, u97_19, zk_mk_1, zk_mk_I, zk_mk_R, zk_mk_set, zk_mk_setR, zk_mk_cpy, zk_rv_some, zk_rv_none, Option.toList_some, Option.toList_none, List.cons_append, List.nil_append, reduceIte, eq_self, Nat.reduceLT, Nat.reduceEqDiff, and_true, true_and, reduceCtorEq, zsh_1, true_or, or_true, zb, ← Int32.not_lt]
  (repeat' split) <;> simp_all
def zw_sides (k m : Int32) : Int32 := if k = 2 ∨ k = 4 then m - m / 2 * 2 + 1 else 3
theorem zq_2 : ((2 : Int32) = 0) = False := by decide
theorem zq_10 : ((10 : Int32) = 0) = False := by decide
theorem s95 {sc : zk_X} {d : Nat} {I : Nat → Nat → Int32} {tg : Option Nat} {P : Option Value → zk_M → Prop} {c : Nat} (hc : c < 10) : zk_R sc d 95 0 [some (.ref (1 : Nat)), some (.int (nI c))] [] (zk_mk I tg) P = P (some (.int (zw_sides (I 2 c) (I 4 c)))) (zk_mk I tg) := by
  have h1 : zk_inb (nI c) 10 = true := by rw [zn_in (by omega)]; exact hc
  simp only [u95_0, u95_1, u95_4, u95_5, u95_6, u95_7, u95_10, u95_11, u95_14, u95_15, u95_16, u95_17, u95_20, u95_21, u95_24, u95_25, u95_26, u95_27, u95_28, u95_29, u95_30, u95_33, u95_34, zk_mk_1, zk_mk_I, zk_mk_R, zk_mk_set, zk_mk_setR, zk_mk_cpy, zk_rv_some, zk_rv_none, Option.toList_some, Option.toList_none, List.cons_append, List.nil_append, reduceIte, eq_self, Nat.reduceLT, Nat.reduceEqDiff, and_true, true_and, reduceCtorEq, zsh_1, zsh_2, zsh_4, zrf_1_0, zrf_1_2, h1, zn_cl (show c < 2147483648 by omega), zw_sides, zq_2, not_false_eq_true]
  (repeat' split) <;> simp_all
theorem s96 {sc : zk_X} {d : Nat} {I : Nat → Nat → Int32} {tg : Option Nat} {P : Option Value → zk_M → Prop} {c : Nat} (hc : c < 10) : zk_R sc d 96 0 [some (.ref (1 : Nat)), some (.int (nI c))] [] (zk_mk I tg) P = P (some (.int (zb (I 5 c = 1)))) (zk_mk I tg) := by
  have h1 : zk_inb (nI c) 10 = true := by rw [zn_in (by omega)]; exact hc
  simp only [u96_0, u96_1, u96_4, u96_5, u96_6, u96_7, u96_10, u96_11, u96_14, u96_15, zk_mk_1, zk_mk_I, zk_mk_R, zk_mk_set, zk_mk_setR, zk_mk_cpy, zk_rv_some, zk_rv_none, Option.toList_some, Option.toList_none, List.cons_append, List.nil_append, reduceIte, eq_self, Nat.reduceLT, Nat.reduceEqDiff, and_true, true_and, reduceCtorEq, zsh_1, zsh_5, zrf_1_3, h1, zn_cl (show c < 2147483648 by omega), zb]
  (repeat' split) <;> simp_all
theorem s145 {sc : zk_X} {d : Nat} {I : Nat → Nat → Int32} {tg : Option Nat} {P : Option Value → zk_M → Prop} {c : Int32} : zk_R sc (d + 1) 145 0 [some (.ref (60 : Nat)), some (.int c)] [] (zk_mk I tg) P = P (some (.int (zb (0 ≤ c ∧ c ≤ I 60 0 - 1)))) (zk_mk I tg) := by
  simp only [u145_0, u145_1, u145_2, u145_3, u145_6, u145_7, u145_8, u145_11, zk_mk_1, zk_mk_I, zk_mk_R, zk_mk_set, zk_mk_setR, zk_mk_cpy, zk_rv_some, zk_rv_none, Option.toList_some, Option.toList_none, List.cons_append, List.nil_append, reduceIte, eq_self, Nat.reduceLT, Nat.reduceEqDiff, and_true, true_and, reduceCtorEq, zsh_60, s129, zb_01]
theorem s161 {sc : zk_X} {d : Nat} {I : Nat → Nat → Int32} {tg : Option Nat} {P : Option Value → zk_M → Prop} : zk_R sc d 161 0 [some (.ref (60 : Nat))] [] (zk_mk I tg) P = P (some (.int (1 <<< (I 60 0 &&& 31) - 1))) (zk_mk I tg) := by
  simp only [u161_0, u161_1, u161_2, u161_5, u161_6, u161_7, u161_8, zk_mk_1, zk_mk_I, zk_mk_R, zk_mk_set, zk_mk_setR, zk_mk_cpy, zk_rv_some, zk_rv_none, Option.toList_some, Option.toList_none, List.cons_append, List.nil_append, reduceIte, eq_self, Nat.reduceLT, Nat.reduceEqDiff, and_true, true_and, reduceCtorEq, zsh_60]
theorem s160 {sc : zk_X} {d : Nat} {I : Nat → Nat → Int32} {tg : Option Nat} {P : Option Value → zk_M → Prop} {c : Int32} : zk_R sc (d + 1) 160 0 [some (.ref (60 : Nat)), some (.int c)] [] (zk_mk I tg) P = P (some (.int (zb (0 ≤ c ∧ c ≤ 1 <<< (I 60 0 &&& 31) - 1)))) (zk_mk I tg) := by
  simp only [u160_0, u160_1, u160_2, u160_3, u160_6, u160_9, zk_mk_1, zk_mk_I, zk_mk_R, zk_mk_set, zk_mk_setR, zk_mk_cpy, zk_rv_some, zk_rv_none, Option.toList_some, Option.toList_none, List.cons_append, List.nil_append, reduceIte, eq_self, Nat.reduceLT, Nat.reduceEqDiff, and_true, true_and, reduceCtorEq, zsh_60, s129, s161, zb_01]
theorem s154 {sc : zk_X} {d : Nat} {I : Nat → Nat → Int32} {tg : Option Nat} {P : Option Value → zk_M → Prop} {c : Nat} (hc : c < 10) : zk_R sc d 154 0 [some (.ref (60 : Nat)), some (.int (nI c))] [] (zk_mk I tg) P = P (some (.int (zw_sides (I 61 c) (I 63 c)))) (zk_mk I tg) := by
  have h1 : zk_inb (nI c) 10 = true := by rw [zn_in (by omega)]; exact hc
  simp only [u154_0, u154_1, u154_4, u154_5, u154_6, u154_7, u154_10, u154_11, u154_14, u154_15, u154_16, u154_17, u154_20, u154_21, u154_24, u154_25, u154_26, u154_27, u154_28, u154_29, u154_30, u154_33, u154_34, zk_mk_1, zk_mk_I, zk_mk_R, zk_mk_set, zk_mk_setR, zk_mk_cpy, zk_rv_some, zk_rv_none, Option.toList_some, Option.toList_none, List.cons_append, List.nil_append, reduceIte, eq_self, Nat.reduceLT, Nat.reduceEqDiff, and_true, true_and, reduceCtorEq, zsh_60, zsh_61, zsh_63, zrf_60_1, zrf_60_3, h1, zn_cl (show c < 2147483648 by omega), zw_sides, zq_2, not_false_eq_true]
  (repeat' split) <;> simp_all
theorem s153 {sc : zk_X} {d : Nat} {I : Nat → Nat → Int32} {tg : Option Nat} {P : Option Value → zk_M → Prop} {c : Nat} {w : Int32} (hc : c < 10) : zk_R sc (d + 1) 153 0 [some (.ref (60 : Nat)), some (.int (nI c)), some (.int w)] [] (zk_mk I tg) P = P (some (.int (zb (¬ zw_sides (I 61 c) (I 63 c) &&& w = 0)))) (zk_mk I tg) := by
  simp only [u153_0, u153_1, u153_2, u153_5, u153_6, u153_7, u153_10, u153_11, u153_14, u153_15, zk_mk_1, zk_mk_I, zk_mk_R, zk_mk_set, zk_mk_setR, zk_mk_cpy, zk_rv_some, zk_rv_none, Option.toList_some, Option.toList_none, List.cons_append, List.nil_append, reduceIte, eq_self, Nat.reduceLT, Nat.reduceEqDiff, and_true, true_and, reduceCtorEq, zsh_60, s154 hc, zb, true_or, or_true]
  (repeat' split) <;> simp_all
