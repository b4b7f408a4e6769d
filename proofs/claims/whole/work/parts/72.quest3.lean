/-! question by the reference -/
theorem zmx_le (x y : Int32) : zmx x y = if x ≤ y then y else x := by
  unfold zmx
  simp only [Int32.lt_iff_toInt_lt, Int32.le_iff_toInt_le]
  (repeat' split) <;> first | rfl | (exfalso; omega) | (apply Int32.toInt.inj; omega)
theorem zand_hd {cand : Nat → Nat} {m c set : Nat} (hs : set < 2 ^ m) : zset (fun i => decide ((set / 2 ^ i &&& cand i / 2 ^ c) % 2 = 1)) m = set &&& zhd cand m c := by
  apply Nat.eq_of_testBit_eq
  intro i
  unfold zhd
  rw [zset_bit, Nat.testBit_and, zset_bit]
  by_cases hi : i < m
  · rw [decide_eq_true hi, Bool.true_and, Bool.true_and, Nat.testBit_eq_decide_div_mod_eq]
    have h := Nat.testBit_and (set / 2 ^ i) (cand i / 2 ^ c) 0
    rw [Nat.testBit_zero, Nat.testBit_zero, Nat.testBit_zero] at h
    exact h
  · rw [decide_eq_false hi, Bool.false_and, Bool.false_and, Bool.and_false]
theorem s189 {sc : zk_X} {d : Nat} {I : Nat → Nat → Int32} {tg : Option Nat} {P : Option Value → zk_M → Prop} {n m c set : Nat} {cand : Nat → Nat} (h10 : n ≤ 10) (hm : m ≤ 12) (hc : c < 10) (hs : set < 2 ^ m) (hcl : ∀ j, j < m → cand j < 2 ^ n) (hcd : ∀ j, j < m → I 81 j = nI (cand j)) : zk_R sc d 189 0 [some (.ref (60 : Nat)), some (.int (nI set)), some (.int (nI c)), some (.int (nI m)), none, none] [] (zk_mk I tg) P = P (some (.int (nI (set &&& zhd cand m c)))) (zk_mk I tg) := by
  refine zk_R_det ?_ P
  have p10 := zp_10 h10
  have p12 := zp_12 hm
  rw [← zand_hd hs]
  have loop := zl_fn (fun i => zk_R sc d 189 6 [some (.ref (60 : Nat)), some (.int (nI set)), some (.int (nI c)), some (.int (nI m)), some (.int (nI (zset (fun i => decide ((set / 2 ^ i &&& cand i / 2 ^ c) % 2 = 1)) i))), some (.int (nI i))] [] (zk_mk I tg) (fun r M' => r = some (.int (nI (zset (fun i => decide ((set / 2 ^ i &&& cand i / 2 ^ c) % 2 = 1)) m))) ∧ M' = zk_mk I tg)) m (by
      rw [u189_6]
      simp only [u189_0, u189_1, u189_3, u189_4, u189_8, u189_9, u189_12, u189_14, u189_15, u189_17, u189_18, u189_19, u189_22, u189_24, u189_25, u189_26, u189_27, u189_28, u189_29, u189_30, u189_32, u189_33, u189_34, u189_36, u189_39, u189_42, u189_44, zk_mk_1, zk_mk_I, zk_mk_R, zk_mk_set, zk_mk_setR, zk_mk_cpy, zk_rv_some, zk_rv_none, Option.toList_some, Option.toList_none, List.cons_append, List.nil_append, reduceIte, eq_self, Nat.reduceLT, Nat.reduceEqDiff, and_true, true_and, reduceCtorEq]
      rw [if_pos (nI_le (Nat.le_refl _) (by omega))]
      trivial) (by
      intro i hi ih
      have hcand := hcl i hi
      have z1 : zk_inb (nI i) 12 = true := by rw [zn_in (by omega)]; omega
      have z2 : (nI i).toNatClampNeg = i := zn_cl (by omega)
      have q1 := zq_shr (h := set) (c := i) (by omega) (by omega)
      have q2 := zq_shr (h := cand i) (c := c) (by omega) (by omega)
      have hlt : set / 2 ^ i &&& cand i / 2 ^ c < 2147483648 := by
        have h1 : set / 2 ^ i ≤ set := Nat.div_le_self _ _
        have h2 := Nat.and_le_left (n := set / 2 ^ i) (m := cand i / 2 ^ c)
        omega
      rw [u189_6]
      simp only [u189_0, u189_1, u189_3, u189_4, u189_8, u189_9, u189_12, u189_14, u189_15, u189_17, u189_18, u189_19, u189_22, u189_24, u189_25, u189_26, u189_27, u189_28, u189_29, u189_30, u189_32, u189_33, u189_34, u189_36, u189_39, u189_42, u189_44, zk_mk_1, zk_mk_I, zk_mk_R, zk_mk_set, zk_mk_setR, zk_mk_cpy, zk_rv_some, zk_rv_none, Option.toList_some, Option.toList_none, List.cons_append, List.nil_append, reduceIte, eq_self, Nat.reduceLT, Nat.reduceEqDiff, and_true, true_and, reduceCtorEq, zsh_60, zsh_81, zrf_60_34, z1, z2, hcd i hi, q1, q2, zq_and, nI_1]
      rw [if_neg (nI_ge hi (by omega)), zq_and1 hlt, zq_shl (Nat.mod_lt _ (by decide)) (by omega), zq_or, zset_next (p := fun i => decide ((set / 2 ^ i &&& cand i / 2 ^ c) % 2 = 1)) (Nat.mod_lt _ (by decide)) (by rw [decide_eq_true_eq])]
      exact ih)
  simp only [u189_0, u189_1, u189_3, u189_4, u189_8, u189_9, u189_12, u189_14, u189_15, u189_17, u189_18, u189_19, u189_22, u189_24, u189_25, u189_26, u189_27, u189_28, u189_29, u189_30, u189_32, u189_33, u189_34, u189_36, u189_39, u189_42, u189_44, zk_mk_1, zk_mk_I, zk_mk_R, zk_mk_set, zk_mk_setR, zk_mk_cpy, zk_rv_some, zk_rv_none, Option.toList_some, Option.toList_none, List.cons_append, List.nil_append, reduceIte, eq_self, Nat.reduceLT, Nat.reduceEqDiff, and_true, true_and, reduceCtorEq]
  exact loop 0 (Nat.zero_le _)
/-- what the table of costs holds is not large, and not below 0 -/
def ztok (W : Nat → Int32) (k : Nat) : Prop := ∀ j, j < k → 0 ≤ (W j).toInt ∧ (W j).toInt ≤ 99 * (j : Int)
def zsmall (cost : Nat → Int32) : Prop := ∀ c, 0 ≤ (cost c).toInt ∧ (cost c).toInt ≤ 99
theorem zparts {set h : Nat} (h1 : ¬ set &&& h = 0) (h2 : ¬ set &&& h = set) : 1 ≤ set &&& h ∧ set &&& h < set ∧ 1 ≤ zdf set (set &&& h) ∧ zdf set (set &&& h) < set := by
  have hle : set &&& h ≤ set := Nat.and_le_left
  have hsub : zle (set &&& h) set := by
    rw [zle_iff]; intro i hi
    rw [Nat.testBit_and, Bool.and_eq_true] at hi
    exact hi.1
  have hzd : zdf set (set &&& h) < set := by
    refine Nat.lt_of_le_of_ne (zdf_le set (set &&& h)) (fun q => h1 ?_)
    have : zle (set &&& h) (zdf set (set &&& h)) := by rw [q]; exact hsub
    have := (zle_df.mp this).2
    rw [Nat.and_self] at this
    exact this
  have hz1 : 1 ≤ zdf set (set &&& h) := Nat.one_le_iff_ne_zero.mpr (fun q => h2 (Nat.le_antisymm hle (zle_le q)))
  omega
theorem zqv_ok {cost : Nat → Int32} {hd : Nat → Nat} {W : Nat → Int32} {set c : Nat} (hs : set < 4096) (hc : zsmall cost) (hW : ztok W set) (h1 : ¬ set &&& hd c = 0) (h2 : ¬ set &&& hd c = set) : 0 ≤ (zqv cost hd W set c).toInt ∧ (zqv cost hd W set c).toInt ≤ 99 * (set : Int) := by
  obtain ⟨a1, a2, a3, a4⟩ := zparts h1 h2
  obtain ⟨w1, w2⟩ := hW _ a2
  obtain ⟨w3, w4⟩ := hW _ a4
  obtain ⟨k1, k2⟩ := hc c
  have e := zmx_i (W (set &&& hd c)) (W (zdf set (set &&& hd c)))
  unfold zqv
  rw [zi_add (by omega) (by omega) (by omega) (by omega)]
  omega
theorem zqs_ok {cost : Nat → Int32} {hd : Nat → Nat} {W : Nat → Int32} {set : Nat} (hs : set < 4096) (hc : zsmall cost) (hW : ztok W set) : ∀ n, 0 ≤ (zqs cost hd W set n).1.toInt ∧ (zqs cost hd W set n).1.toInt ≤ 99 * (set : Int)
  | 0 => by
    show 0 ≤ (0 : Int32).toInt ∧ (0 : Int32).toInt ≤ 99 * (set : Int)
    rw [zn_zi]; omega
  | n + 1 => by
    have ih := zqs_ok (hd := hd) hs hc hW n
    have ek : zqs cost hd W set (n + 1) = zqst cost hd W set n (zqs cost hd W set n) := rfl
    rw [ek]
    unfold zqst
    by_cases k1 : set &&& hd n = 0
    · rw [if_pos (Or.inl k1)]; exact ih
    · by_cases k2 : set &&& hd n = set
      · rw [if_pos (Or.inr k2)]; exact ih
      · rw [if_neg (fun q => q.elim k1 k2)]
        split
        · exact zqv_ok hs hc hW k1 k2
        · exact ih
theorem ztb_ok {cost : Nat → Int32} {hd : Nat → Nat} {n : Nat} (hc : zsmall cost) : ∀ k, k ≤ 4096 → ztok (ztb cost hd n k) 4096
  | 0, _ => fun j _ => by
    show 0 ≤ (0 : Int32).toInt ∧ (0 : Int32).toInt ≤ 99 * (j : Int)
    rw [zn_zi]; omega
  | k + 1, hk => fun j hj => by
    have ih := ztb_ok (hd := hd) (n := n) hc k (by omega)
    show 0 ≤ (if j = k then (zqs cost hd (ztb cost hd n k) k n).1 else ztb cost hd n k j).toInt ∧ (if j = k then (zqs cost hd (ztb cost hd n k) k n).1 else ztb cost hd n k j).toInt ≤ 99 * (j : Int)
    by_cases e : j = k
    · rw [if_pos e, e]
      exact zqs_ok (by omega) hc (fun i hi => ih i (by omega)) n
    · rw [if_neg e]; exact ih j hj
theorem s188 {sc : zk_X} {d : Nat} {I : Nat → Nat → Int32} {tg : Option Nat} {P : Option Value → zk_M → Prop} {n t m c set : Nat} {T e : Nat → Nat} {cand : Nat → Nat} {W : Nat → Int32} (hj : zj_tab I n) (ht : t < 6) (hr : I 60 10 = nI t) (hx : zj_text I t T e) (hm : m ≤ 12) (hc : c < n) (hs : set < 2 ^ m) (hcl : ∀ j, j < m → cand j < 2 ^ n) (hcd : ∀ j, j < m → I 81 j = nI (cand j)) (hW : ∀ j, 1 ≤ j → j < set → I 82 j = W j)
    (K : ∀ I' : Nat → Nat → Int32, zg1 I I' → P (some (.int (if set &&& zhd cand m c = 0 ∨ set &&& zhd cand m c = set then -1 else zqv (zcost I n T e) (zhd cand m) W set c))) (zk_mk I' tg)) : zk_R sc (d + 4) 188 0 [some (.ref (60 : Nat)), some (.int (nI set)), some (.int (nI c)), some (.int (nI m)), none, none] [] (zk_mk I tg) P := by
  have h10 := hj.2.2.1
  have p12 := zp_12 hm
  have hle : set &&& zhd cand m c ≤ set := Nat.and_le_left
  have hd : zdf set (set &&& zhd cand m c) ≤ set := zdf_le _ _
  have y1 : (nI (set &&& zhd cand m c) = 0) = (set &&& zhd cand m c = 0) := zn_eq (b := 0) (by omega) (by decide)
  have y2 : (nI (zdf set (set &&& zhd cand m c)) = 0) = (zdf set (set &&& zhd cand m c) = 0) := zn_eq (b := 0) (by omega) (by decide)
  have y3 : zdf set (set &&& zhd cand m c) = 0 ↔ set &&& zhd cand m c = set := by
    constructor
    · intro q; exact Nat.le_antisymm hle (zle_le q)
    · intro q; rw [q]; exact zle_refl set
  simp only [u188_0, u188_1, u188_2, u188_3, u188_4, u188_7, u188_9, u188_10, u188_12, u188_13, u188_14, u188_15, u188_17, u188_19, u188_22, u188_24, u188_27, u188_28, u188_29, u188_30, u188_31, u188_32, u188_35, u188_36, u188_39, u188_41, u188_42, u188_43, u188_46, u188_48, u188_49, u188_52, u188_53, u188_56, u188_58, u188_59, u188_62, u188_63, u188_66, u188_68, u188_69, u188_70, zk_mk_1, zk_mk_I, zk_mk_R, zk_mk_set, zk_mk_setR, zk_mk_cpy, zk_rv_some, zk_rv_none, Option.toList_some, Option.toList_none, List.cons_append, List.nil_append, reduceIte, eq_self, Nat.reduceLT, Nat.reduceEqDiff, and_true, true_and, reduceCtorEq, zsh_60, s189 h10 hm (show c < 10 by omega) hs hcl hcd, zq_andn, y1, y2]
  by_cases k1 : set &&& zhd cand m c = 0
  · rw [if_pos k1]
    have K2 := K I (fun _ _ _ => rfl)
    rw [if_pos (Or.inl k1)] at K2
    exact K2
  · rw [if_neg k1]
    by_cases k2 : set &&& zhd cand m c = set
    · rw [if_pos (y3.mpr k2)]
      have K2 := K I (fun _ _ _ => rfl)
      rw [if_pos (Or.inr k2)] at K2
      exact K2
    · rw [if_neg (fun q => k2 (y3.mp q))]
      rw [if_neg (fun q => q.elim k1 k2)] at K
      obtain ⟨a1, a2, a3, a4⟩ := zparts k1 k2
      refine s157 (p := 2) hj ht hr (by decide) hc hx (fun I' g1 => ?_)
      have K2 := K I' g1
      have e82 : I' 82 = I 82 := g1 82 (by decide) (by decide)
      have ec : zv_said I n T e 2 c (zb (I 64 c = 1)) = zcost I n T e c := by rw [zj_side hj hc]; rfl
      have z3 : zk_inb (nI (set &&& zhd cand m c)) 4096 = true := by rw [zn_in (by omega)]; omega
      have z4 : (nI (set &&& zhd cand m c)).toNatClampNeg = set &&& zhd cand m c := zn_cl (by omega)
      have z5 : zk_inb (nI (zdf set (set &&& zhd cand m c))) 4096 = true := by rw [zn_in (by omega)]; omega
      have z6 : (nI (zdf set (set &&& zhd cand m c))).toNatClampNeg = zdf set (set &&& zhd cand m c) := zn_cl (by omega)
      unfold zqv at K2
      rw [zmx_le] at K2
      rw [ec]
      simp only [u188_0, u188_1, u188_2, u188_3, u188_4, u188_7, u188_9, u188_10, u188_12, u188_13, u188_14, u188_15, u188_17, u188_19, u188_22, u188_24, u188_27, u188_28, u188_29, u188_30, u188_31, u188_32, u188_35, u188_36, u188_39, u188_41, u188_42, u188_43, u188_46, u188_48, u188_49, u188_52, u188_53, u188_56, u188_58, u188_59, u188_62, u188_63, u188_66, u188_68, u188_69, u188_70, zk_mk_1, zk_mk_I, zk_mk_R, zk_mk_set, zk_mk_setR, zk_mk_cpy, zk_rv_some, zk_rv_none, Option.toList_some, Option.toList_none, List.cons_append, List.nil_append, reduceIte, eq_self, Nat.reduceLT, Nat.reduceEqDiff, and_true, true_and, reduceCtorEq, zsh_60, zsh_82, zrf_60_35, e82, z3, z4, z5, z6, hW _ a1 a2, hW _ a3 a4]
      by_cases hq : W (set &&& zhd cand m c) ≤ W (zdf set (set &&& zhd cand m c))
      · rw [if_pos hq] at K2
        first | rw [if_pos hq] | rw [if_neg (Int32.not_lt.mpr hq)]
        exact K2
      · rw [if_neg hq] at K2
        first | rw [if_neg hq] | rw [if_pos (Int32.not_le.mp hq)]
        exact K2
theorem s187 {sc : zk_X} {d : Nat} {I : Nat → Nat → Int32} {tg : Option Nat} {P : Option Value → zk_M → Prop} {n t m set : Nat} {T e : Nat → Nat} {cand : Nat → Nat} {W : Nat → Int32} (hj : zj_tab I n) (ht : t < 6) (hr : I 60 10 = nI t) (hx : zj_text I t T e) (hm : m ≤ 12) (hs : set < 2 ^ m) (hcl : ∀ j, j < m → cand j < 2 ^ n) (hcd : ∀ j, j < m → I 81 j = nI (cand j)) (hW : ∀ j, 1 ≤ j → j < set → I 82 j = W j) (hok : ztok W 4096)
    (K : ∀ I' : Nat → Nat → Int32, (∀ j, j ≠ 75 → j ≠ 76 → j ≠ 82 → I' j = I j) → (∀ j, j ≠ set → I' 82 j = I 82 j) → I' 82 set = (zqs (zcost I n T e) (zhd cand m) W set n).1 → P (some (.int (zqs (zcost I n T e) (zhd cand m) W set n).2)) (zk_mk I' tg)) : zk_R sc (d + 5) 187 0 [some (.ref (60 : Nat)), some (.int (nI set)), some (.int (nI m)), none, none, none, none, none] [] (zk_mk I tg) P := by
  have h10 := hj.2.2.1
  have p12 := zp_12 hm
  have hsm : zsmall (zcost I n T e) := fun c => by
    obtain ⟨k, hk, ek⟩ := zv_said99 (I := I) (n := n) (T := T) (e := e) (p := 2) (c := c) (left := zb (I 5 c = 1)) (by decide)
    unfold zcost
    rw [ek, nI_toInt (by omega)]
    omega
  have hinv : ∀ c, c ≤ 10 → (zqs (zcost I n T e) (zhd cand m) W set c).2 = -1 → (zqs (zcost I n T e) (zhd cand m) W set c).1 = 0 := by
    intro c
    induction c with
    | zero => intro _ _; rfl
    | succ c ih =>
      intro hc
      have ek : zqs (zcost I n T e) (zhd cand m) W set (c + 1) = zqst (zcost I n T e) (zhd cand m) W set c (zqs (zcost I n T e) (zhd cand m) W set c) := rfl
      rw [ek]
      unfold zqst
      split
      · exact ih (by omega)
      · split
        · intro q
          have q : nI c = -1 := q
          rw [zn_m1 (by omega)] at q
          exact q.elim
        · exact ih (by omega)
  have hq0 : zk_inb (nI set) 4096 = true := by rw [zn_in (by omega)]; omega
  have hq1 : (nI set).toNatClampNeg = set := zn_cl (by omega)
  have loop := zl_up (τ := (Nat → Nat → Int32) × Option Value × Option Value) (fun c q => zk_R sc (d + 5) 187 8 [some (.ref (60 : Nat)), some (.int (nI set)), some (.int (nI m)), some (.int (zqs (zcost I n T e) (zhd cand m) W set c).2), some (.int (zqs (zcost I n T e) (zhd cand m) W set c).1), some (.int (nI c)), q.2.1, q.2.2] [] (zk_mk q.1 tg) P)
    (fun c q => zg1 I q.1) n (by
      rintro ⟨I', x, y⟩ g
      have g : zg1 I I' := g
      have e60 : I' 60 0 = nI n := by rw [g 60 (by decide) (by decide)]; exact hj.2.1
      have hi := hinv n h10
      have K2 := fun v => K (zk_up2 I' 82 set v) (fun j j1 j2 j3 => by rw [zk_up2_r j3]; exact g j j1 j2) (fun j hj => by rw [zk_up2_j hj, g 82 (by decide) (by decide)])
      show zk_R sc (d + 5) 187 8 [some (.ref (60 : Nat)), some (.int (nI set)), some (.int (nI m)), some (.int (zqs (zcost I n T e) (zhd cand m) W set n).2), some (.int (zqs (zcost I n T e) (zhd cand m) W set n).1), some (.int (nI n)), x, y] [] (zk_mk I' tg) P
      generalize zqs (zcost I n T e) (zhd cand m) W set n = s at *
      rw [u187_8]
      simp only [u187_0, u187_1, u187_2, u187_3, u187_5, u187_6, u187_10, u187_11, u187_14, u187_17, u187_18, u187_19, u187_21, u187_22, u187_25, u187_27, u187_29, u187_30, u187_33, u187_34, u187_35, u187_38, u187_40, u187_42, u187_45, u187_46, u187_49, u187_50, u187_52, u187_54, u187_57, u187_59, u187_62, u187_63, u187_64, u187_66, u187_69, u187_71, u187_74, u187_76, u187_78, u187_81, u187_84, u187_85, u187_88, u187_89, u187_90, u187_91, u187_94, u187_95, u187_98, u187_100, u187_101, u187_102, zk_mk_1, zk_mk_I, zk_mk_R, zk_mk_set, zk_mk_setR, zk_mk_cpy, zk_rv_some, zk_rv_none, Option.toList_some, Option.toList_none, List.cons_append, List.nil_append, reduceIte, eq_self, Nat.reduceLT, Nat.reduceEqDiff, and_true, true_and, reduceCtorEq, zsh_60, zsh_82, zrf_60_35, e60, hq0, hq1]
      rw [if_pos (nI_le (Nat.le_refl _) (by omega))]
      by_cases k : s.2 = -1
      · rw [if_pos k]
        refine K2 0 ?_
        rw [zk_up2_s, hi k]
      · rw [if_neg k]
        refine K2 _ ?_
        rw [zk_up2_s]) (by
      rintro c ⟨I', x, y⟩ hc g ih
      have g : zg1 I I' := g
      have e60 : I' 60 0 = nI n := by rw [g 60 (by decide) (by decide)]; exact hj.2.1
      have e81 : ∀ j, j < m → I' 81 j = nI (cand j) := fun j hj => by rw [g 81 (by decide) (by decide)]; exact hcd j hj
      have e82 : ∀ j, 1 ≤ j → j < set → I' 82 j = W j := fun j j1 j2 => by rw [g 82 (by decide) (by decide)]; exact hW j j1 j2
      have er : I' 60 10 = nI t := by rw [g 60 (by decide) (by decide)]; exact hr
      have ek : zqs (zcost I n T e) (zhd cand m) W set (c + 1) = zqst (zcost I n T e) (zhd cand m) W set c (zqs (zcost I n T e) (zhd cand m) W set c) := rfl
      show zk_R sc (d + 5) 187 8 [some (.ref (60 : Nat)), some (.int (nI set)), some (.int (nI m)), some (.int (zqs (zcost I n T e) (zhd cand m) W set c).2), some (.int (zqs (zcost I n T e) (zhd cand m) W set c).1), some (.int (nI c)), x, y] [] (zk_mk I' tg) P
      generalize zqs (zcost I n T e) (zhd cand m) W set c = s at *
      rw [u187_8]
      simp only [u187_0, u187_1, u187_2, u187_3, u187_5, u187_6, u187_10, u187_11, u187_14, u187_17, u187_18, u187_19, u187_21, u187_22, u187_25, u187_27, u187_29, u187_30, u187_33, u187_34, u187_35, u187_38, u187_40, u187_42, u187_45, u187_46, u187_49, u187_50, u187_52, u187_54, u187_57, u187_59, u187_62, u187_63, u187_64, u187_66, u187_69, u187_71, u187_74, u187_76, u187_78, u187_81, u187_84, u187_85, u187_88, u187_89, u187_90, u187_91, u187_94, u187_95, u187_98, u187_100, u187_101, u187_102, zk_mk_1, zk_mk_I, zk_mk_R, zk_mk_set, zk_mk_setR, zk_mk_cpy, zk_rv_some, zk_rv_none, Option.toList_some, Option.toList_none, List.cons_append, List.nil_append, reduceIte, eq_self, Nat.reduceLT, Nat.reduceEqDiff, and_true, true_and, reduceCtorEq, zsh_60, e60]
      rw [if_neg (nI_ge hc (by omega))]
      refine s188 (g.F.tab hj) ht er (g.F.text ht hx) hm hc hs hcl e81 e82 (fun I2 g2 => ?_)
      rw [g.F.cost]
      have g3 : zg1 I I2 := fun j j1 j2 => (g2 j j1 j2).trans (g j j1 j2)
      have go : ∀ p, p = zqst (zcost I n T e) (zhd cand m) W set c s → ∀ x y, zk_R sc (d + 5) 187 8 [some (.ref (60 : Nat)), some (.int (nI set)), some (.int (nI m)), some (.int p.2), some (.int p.1), some (.int (nI (c + 1))), x, y] [] (zk_mk I2 tg) P := by
        rintro p rfl x y
        have := ih (I2, x, y) g3
        rw [ek] at this
        exact this
      by_cases k1 : set &&& zhd cand m c = 0 ∨ set &&& zhd cand m c = set
      · have h5 := go _ (show s = zqst (zcost I n T e) (zhd cand m) W set c s from (if_pos k1).symm)
        rw [if_pos k1]
        simp only [u187_0, u187_1, u187_2, u187_3, u187_5, u187_6, u187_10, u187_11, u187_14, u187_17, u187_18, u187_19, u187_21, u187_22, u187_25, u187_27, u187_29, u187_30, u187_33, u187_34, u187_35, u187_38, u187_40, u187_42, u187_45, u187_46, u187_49, u187_50, u187_52, u187_54, u187_57, u187_59, u187_62, u187_63, u187_64, u187_66, u187_69, u187_71, u187_74, u187_76, u187_78, u187_81, u187_84, u187_85, u187_88, u187_89, u187_90, u187_91, u187_94, u187_95, u187_98, u187_100, u187_101, u187_102, zk_mk_1, zk_mk_I, zk_mk_R, zk_mk_set, zk_mk_setR, zk_mk_cpy, zk_rv_some, zk_rv_none, Option.toList_some, Option.toList_none, List.cons_append, List.nil_append, reduceIte, eq_self, Nat.reduceLT, Nat.reduceEqDiff, and_true, true_and, reduceCtorEq, nI_1]
        exact h5 _ _
      · have hst : zqst (zcost I n T e) (zhd cand m) W set c s = if s.2 = -1 ∨ zqv (zcost I n T e) (zhd cand m) W set c < s.1 then (zqv (zcost I n T e) (zhd cand m) W set c, nI c) else s := if_neg k1
        have hv := (zqv_ok (hd := zhd cand m) (c := c) (show set < 4096 by omega) hsm (fun i hi => hok i (by omega)) (fun q => k1 (Or.inl q)) (fun q => k1 (Or.inr q))).1
        have hvn : ¬ zqv (zcost I n T e) (zhd cand m) W set c = -1 := by
          intro q
          rw [q, show (-1 : Int32).toInt = -1 from by decide] at hv
          omega
        rw [if_neg k1]
        rw [hst] at go
        generalize zqv (zcost I n T e) (zhd cand m) W set c = v at *
        by_cases k2 : s.2 = -1
        · have h5 := go _ (if_pos (Or.inl k2)).symm
          simp only [u187_0, u187_1, u187_2, u187_3, u187_5, u187_6, u187_10, u187_11, u187_14, u187_17, u187_18, u187_19, u187_21, u187_22, u187_25, u187_27, u187_29, u187_30, u187_33, u187_34, u187_35, u187_38, u187_40, u187_42, u187_45, u187_46, u187_49, u187_50, u187_52, u187_54, u187_57, u187_59, u187_62, u187_63, u187_64, u187_66, u187_69, u187_71, u187_74, u187_76, u187_78, u187_81, u187_84, u187_85, u187_88, u187_89, u187_90, u187_91, u187_94, u187_95, u187_98, u187_100, u187_101, u187_102, zk_mk_1, zk_mk_I, zk_mk_R, zk_mk_set, zk_mk_setR, zk_mk_cpy, zk_rv_some, zk_rv_none, Option.toList_some, Option.toList_none, List.cons_append, List.nil_append, reduceIte, eq_self, Nat.reduceLT, Nat.reduceEqDiff, and_true, true_and, reduceCtorEq, hvn, k2, show ((1 : Int32) = 0) = False from by decide, nI_1]
          exact h5 _ _
        · by_cases k3 : v < s.1
          · have h5 := go _ (if_pos (Or.inr k3)).symm
            have k4 : ¬ s.1 ≤ v := Int32.not_le.mpr k3
            simp only [u187_0, u187_1, u187_2, u187_3, u187_5, u187_6, u187_10, u187_11, u187_14, u187_17, u187_18, u187_19, u187_21, u187_22, u187_25, u187_27, u187_29, u187_30, u187_33, u187_34, u187_35, u187_38, u187_40, u187_42, u187_45, u187_46, u187_49, u187_50, u187_52, u187_54, u187_57, u187_59, u187_62, u187_63, u187_64, u187_66, u187_69, u187_71, u187_74, u187_76, u187_78, u187_81, u187_84, u187_85, u187_88, u187_89, u187_90, u187_91, u187_94, u187_95, u187_98, u187_100, u187_101, u187_102, zk_mk_1, zk_mk_I, zk_mk_R, zk_mk_set, zk_mk_setR, zk_mk_cpy, zk_rv_some, zk_rv_none, Option.toList_some, Option.toList_none, List.cons_append, List.nil_append, reduceIte, eq_self, Nat.reduceLT, Nat.reduceEqDiff, and_true, true_and, reduceCtorEq, hvn, k2, k3, k4, show ((1 : Int32) = 0) = False from by decide, nI_1]
            exact h5 _ _
          · have h5 := go _ (if_neg (fun q => q.elim k2 k3)).symm
            have k4 : s.1 ≤ v := Int32.not_lt.mp k3
            simp only [u187_0, u187_1, u187_2, u187_3, u187_5, u187_6, u187_10, u187_11, u187_14, u187_17, u187_18, u187_19, u187_21, u187_22, u187_25, u187_27, u187_29, u187_30, u187_33, u187_34, u187_35, u187_38, u187_40, u187_42, u187_45, u187_46, u187_49, u187_50, u187_52, u187_54, u187_57, u187_59, u187_62, u187_63, u187_64, u187_66, u187_69, u187_71, u187_74, u187_76, u187_78, u187_81, u187_84, u187_85, u187_88, u187_89, u187_90, u187_91, u187_94, u187_95, u187_98, u187_100, u187_101, u187_102, zk_mk_1, zk_mk_I, zk_mk_R, zk_mk_set, zk_mk_setR, zk_mk_cpy, zk_rv_some, zk_rv_none, Option.toList_some, Option.toList_none, List.cons_append, List.nil_append, reduceIte, eq_self, Nat.reduceLT, Nat.reduceEqDiff, and_true, true_and, reduceCtorEq, hvn, k2, k3, k4, nI_1]
            exact h5 _ _)
  simp only [u187_0, u187_1, u187_2, u187_3, u187_5, u187_6, u187_10, u187_11, u187_14, u187_17, u187_18, u187_19, u187_21, u187_22, u187_25, u187_27, u187_29, u187_30, u187_33, u187_34, u187_35, u187_38, u187_40, u187_42, u187_45, u187_46, u187_49, u187_50, u187_52, u187_54, u187_57, u187_59, u187_62, u187_63, u187_64, u187_66, u187_69, u187_71, u187_74, u187_76, u187_78, u187_81, u187_84, u187_85, u187_88, u187_89, u187_90, u187_91, u187_94, u187_95, u187_98, u187_100, u187_101, u187_102, zk_mk_1, zk_mk_I, zk_mk_R, zk_mk_set, zk_mk_setR, zk_mk_cpy, zk_rv_some, zk_rv_none, Option.toList_some, Option.toList_none, List.cons_append, List.nil_append, reduceIte, eq_self, Nat.reduceLT, Nat.reduceEqDiff, and_true, true_and, reduceCtorEq]
  exact loop 0 (I, none, none) (Nat.zero_le _) (fun _ _ _ => rfl)
theorem s186 {sc : zk_X} {d : Nat} {I : Nat → Nat → Int32} {tg : Option Nat} {P : Option Value → zk_M → Prop} {n t : Nat} {T e : Nat → Nat} {sum what : Int32} (hq : zj_q I n t T e)
    (K : ∀ I' : Nat → Nat → Int32, zF I I' → P (some (.int (zA_question I n T e sum what))) (zk_mk I' tg)) : zk_R sc (d + 6) 186 0 [some (.ref (60 : Nat)), some (.int sum), some (.int what), none, none, none] [] (zk_mk I tg) P := by
  obtain ⟨hj, hl, hr, ht, hx⟩ := hq
  have h10 := hj.2.2.1
  have p10 := zp_10 h10
  unfold zA_question at K
  simp only [u186_0, u186_1, u186_2, u186_3, u186_6, u186_9, u186_11, u186_12, u186_13, u186_16, u186_17, u186_18, u186_19, u186_23, u186_24, u186_27, u186_30, u186_31, u186_34, u186_36, u186_37, u186_38, u186_41, u186_42, u186_44, u186_47, u186_49, u186_50, u186_51, u186_54, u186_55, u186_57, u186_58, u186_61, u186_64, u186_67, u186_68, u186_71, u186_73, u186_74, u186_75, u186_77, u186_78, u186_82, u186_83, u186_84, u186_85, u186_88, u186_89, u186_91, u186_92, u186_95, u186_97, u186_100, u186_103, u186_104, u186_107, u186_108, u186_111, u186_112, u186_113, u186_114, u186_115, u186_116, u186_117, u186_120, u186_122, zk_mk_1, zk_mk_I, zk_mk_R, zk_mk_set, zk_mk_setR, zk_mk_cpy, zk_rv_some, zk_rv_none, Option.toList_some, Option.toList_none, List.cons_append, List.nil_append, reduceIte, eq_self, Nat.reduceLT, Nat.reduceEqDiff, and_true, true_and, reduceCtorEq, zsh_60, s129, zb_z]
  by_cases hw : 0 ≤ what ∧ what ≤ 1
  · rw [if_neg (fun q => q hw)]
    rw [if_pos hw] at K
    refine s162 hj ht hr hx (fun I1 h1 h2 h3 => ?_)
    have hn1 : I1 60 0 = nI n := (h1.tab hj).2.1
    have eall : (1 : Int32) <<< (nI n &&& 31) - 1 = nI (2 ^ n - 1) := by rw [zq_all h10]; exact zn_sub (b := 1) (by omega)
    have hsm : zsmall (zcost I n T e) := fun c => by
      obtain ⟨k, hk, ek⟩ := zv_said99 (I := I) (n := n) (T := T) (e := e) (p := 2) (c := c) (left := zb (I 5 c = 1)) (by decide)
      unfold zcost
      rw [ek, nI_toInt (by omega)]
      omega
    -- all sets of candidates
    have tail : ∀ I2 : Nat → Nat → Int32, zF I I2 → ∀ (x4 : Option Value) (m : Nat) (cand : Nat → Nat), 1 ≤ m → m ≤ 12 → (∀ j, j < m → cand j < 2 ^ n) → (∀ j, j < m → I2 81 j = nI (cand j)) → (∀ I3 : Nat → Nat → Int32, zF I I3 → P (some (.int (if what = 0 then (zqf (zcost I n T e) (zhd cand m) n m).1 else (zqf (zcost I n T e) (zhd cand m) n m).2))) (zk_mk I3 tg)) → zk_R sc (d + 6) 186 80 [some (.ref (60 : Nat)), some (.int sum), some (.int what), some (.int (nI m)), some (.int (-1)), some (.int (nI 1))] [] (zk_mk I2 tg) P := by
      intro I2 hF x4 m cand hm1 hm hcl hcd KK
      have p12 := zp_12 hm
      have hpow : (1 : Int32) <<< (nI m &&& 31) = nI (2 ^ m) := zq_pow (by omega)
      have hlast : nI (2 ^ m) - 1 = nI (2 ^ m - 1) := zn_sub (b := 1) (by omega)
      have loop := zl_up (τ := (Nat → Nat → Int32) × Int32) (fun set q => zk_R sc (d + 6) 186 80 [some (.ref (60 : Nat)), some (.int sum), some (.int what), some (.int (nI m)), some (.int q.2), some (.int (nI set))] [] (zk_mk q.1 tg) P)
        (fun set q => 1 ≤ set ∧ zF I q.1 ∧ (∀ j, j < m → q.1 81 j = nI (cand j)) ∧ (∀ j, 1 ≤ j → j < set → q.1 82 j = ztb (zcost I n T e) (zhd cand m) n set j) ∧ (2 ≤ set → q.2 = (zqs (zcost I n T e) (zhd cand m) (ztb (zcost I n T e) (zhd cand m) n (set - 1)) (set - 1) n).2)) (2 ^ m) (by
          rintro ⟨I3, b⟩ ⟨g0, g1, g2, g3, g4⟩
          have g3 : ∀ j, 1 ≤ j → j < 2 ^ m → I3 82 j = ztb (zcost I n T e) (zhd cand m) n (2 ^ m) j := g3
          have h2 : 2 ≤ 2 ^ m := by
            have := Nat.pow_le_pow_right (n := 2) (by omega) hm1
            omega
          have g4 : b = (zqf (zcost I n T e) (zhd cand m) n m).2 := g4 h2
          have hz1 : zk_inb (nI (2 ^ m - 1)) 4096 = true := by rw [zn_in (by omega)]; omega
          have hz2 : (nI (2 ^ m - 1)).toNatClampNeg = 2 ^ m - 1 := zn_cl (by omega)
          have e82 : I3 82 (2 ^ m - 1) = (zqf (zcost I n T e) (zhd cand m) n m).1 := by
            rw [g3 _ (by omega) (by omega)]
            obtain ⟨k, hk⟩ : ∃ k, 2 ^ m = k + 1 := ⟨2 ^ m - 1, by omega⟩
            unfold zqf
            rw [hk, show k + 1 - 1 = k by omega]
            exact if_pos rfl
          have K3 := KK I3 g1
          show zk_R sc (d + 6) 186 80 [some (.ref (60 : Nat)), some (.int sum), some (.int what), some (.int (nI m)), some (.int b), some (.int (nI (2 ^ m)))] [] (zk_mk I3 tg) P
          rw [u186_80]
          simp only [u186_0, u186_1, u186_2, u186_3, u186_6, u186_9, u186_11, u186_12, u186_13, u186_16, u186_17, u186_18, u186_19, u186_23, u186_24, u186_27, u186_30, u186_31, u186_34, u186_36, u186_37, u186_38, u186_41, u186_42, u186_44, u186_47, u186_49, u186_50, u186_51, u186_54, u186_55, u186_57, u186_58, u186_61, u186_64, u186_67, u186_68, u186_71, u186_73, u186_74, u186_75, u186_77, u186_78, u186_82, u186_83, u186_84, u186_85, u186_88, u186_89, u186_91, u186_92, u186_95, u186_97, u186_100, u186_103, u186_104, u186_107, u186_108, u186_111, u186_112, u186_113, u186_114, u186_115, u186_116, u186_117, u186_120, u186_122, zk_mk_1, zk_mk_I, zk_mk_R, zk_mk_set, zk_mk_setR, zk_mk_cpy, zk_rv_some, zk_rv_none, Option.toList_some, Option.toList_none, List.cons_append, List.nil_append, reduceIte, eq_self, Nat.reduceLT, Nat.reduceEqDiff, and_true, true_and, reduceCtorEq, zsh_60, zsh_82, zrf_60_35, hpow, hlast, hz1, hz2, e82]
          rw [if_pos (nI_le (Nat.le_refl _) (by omega))]
          by_cases w0 : what = 0
          · rw [if_pos w0] at K3 ⊢; exact K3
          · rw [if_neg w0] at K3 ⊢
            rw [g4]; exact K3) (by
          rintro set ⟨I3, b⟩ hset ⟨g0, g1, g2, g3, g4⟩ ih
          have g1 : zF I I3 := g1
          have er : I3 60 10 = nI t := by rw [g1 60 rfl]; exact hr
          show zk_R sc (d + 6) 186 80 [some (.ref (60 : Nat)), some (.int sum), some (.int what), some (.int (nI m)), some (.int b), some (.int (nI set))] [] (zk_mk I3 tg) P
          rw [u186_80]
          simp only [u186_0, u186_1, u186_2, u186_3, u186_6, u186_9, u186_11, u186_12, u186_13, u186_16, u186_17, u186_18, u186_19, u186_23, u186_24, u186_27, u186_30, u186_31, u186_34, u186_36, u186_37, u186_38, u186_41, u186_42, u186_44, u186_47, u186_49, u186_50, u186_51, u186_54, u186_55, u186_57, u186_58, u186_61, u186_64, u186_67, u186_68, u186_71, u186_73, u186_74, u186_75, u186_77, u186_78, u186_82, u186_83, u186_84, u186_85, u186_88, u186_89, u186_91, u186_92, u186_95, u186_97, u186_100, u186_103, u186_104, u186_107, u186_108, u186_111, u186_112, u186_113, u186_114, u186_115, u186_116, u186_117, u186_120, u186_122, zk_mk_1, zk_mk_I, zk_mk_R, zk_mk_set, zk_mk_setR, zk_mk_cpy, zk_rv_some, zk_rv_none, Option.toList_some, Option.toList_none, List.cons_append, List.nil_append, reduceIte, eq_self, Nat.reduceLT, Nat.reduceEqDiff, and_true, true_and, reduceCtorEq, zsh_60, hpow]
          rw [if_neg (nI_ge hset (by omega))]
          refine s187 (W := ztb (zcost I n T e) (zhd cand m) n set) (cand := cand) (g1.tab hj) ht er (g1.text ht hx) hm hset hcl g2 g3 (ztb_ok hsm set (by omega)) (fun I4 k1 k2 k3 => ?_)
          rw [g1.cost] at k3 ⊢
          simp only [u186_0, u186_1, u186_2, u186_3, u186_6, u186_9, u186_11, u186_12, u186_13, u186_16, u186_17, u186_18, u186_19, u186_23, u186_24, u186_27, u186_30, u186_31, u186_34, u186_36, u186_37, u186_38, u186_41, u186_42, u186_44, u186_47, u186_49, u186_50, u186_51, u186_54, u186_55, u186_57, u186_58, u186_61, u186_64, u186_67, u186_68, u186_71, u186_73, u186_74, u186_75, u186_77, u186_78, u186_82, u186_83, u186_84, u186_85, u186_88, u186_89, u186_91, u186_92, u186_95, u186_97, u186_100, u186_103, u186_104, u186_107, u186_108, u186_111, u186_112, u186_113, u186_114, u186_115, u186_116, u186_117, u186_120, u186_122, zk_mk_1, zk_mk_I, zk_mk_R, zk_mk_set, zk_mk_setR, zk_mk_cpy, zk_rv_some, zk_rv_none, Option.toList_some, Option.toList_none, List.cons_append, List.nil_append, reduceIte, eq_self, Nat.reduceLT, Nat.reduceEqDiff, and_true, true_and, reduceCtorEq, nI_1]
          refine ih (I4, _) ⟨by omega, g1.trans (fun j hj => k1 j (by have := zKp_no hj; omega) (by have := zKp_no hj; omega) (by have := zKp_no hj; omega)), fun j hj => ?_, fun j j1 j2 => ?_, fun _ => ?_⟩
          · show I4 81 j = _
            rw [k1 81 (by decide) (by decide) (by decide)]; exact g2 j hj
          · show I4 82 j = if j = set then (zqs (zcost I n T e) (zhd cand m) (ztb (zcost I n T e) (zhd cand m) n set) set n).1 else ztb (zcost I n T e) (zhd cand m) n set j
            by_cases e : j = set
            · rw [if_pos e, e]; exact k3
            · rw [if_neg e, k2 j e]; exact g3 j j1 (by omega)
          · rw [show set + 1 - 1 = set by omega])
      exact loop 1 (I2, -1) p12.1 ⟨Nat.le_refl _, hF, hcd, fun j j1 j2 => by omega, fun q => by omega⟩
    obtain ⟨l1, l2⟩ := zgat_le (zv_now I n T e) n sum (2 ^ n)
    unfold zA_q2 at K
    have loop := zl_up (τ := Nat → Nat → Int32) (fun i I' => zk_R sc (d + 6) 186 21 [some (.ref (60 : Nat)), some (.int sum), some (.int what), some (.int (nI (zgat (zv_now I n T e) n sum i).1)), some (.int (nI i)), none] [] (zk_mk I' tg) P)
      (fun i I' => (∀ j, j ≠ 81 → I' j = I1 j) ∧ (zgat (zv_now I n T e) n sum i).1 ≤ 12 ∧ ∀ j, j < (zgat (zv_now I n T e) n sum i).1 → I' 81 j = nI ((zgat (zv_now I n T e) n sum i).2 j)) (2 ^ n) (by
        rintro I' ⟨g1, g2, g3⟩
        have hF : zF I I' := h1.trans (fun j hj => g1 j (by have := zKp_no hj; omega))
        have e60 : I' 60 0 = nI n := by rw [g1 60 (by decide)]; exact hn1
        have hcond : nI (2 ^ n - 1) < nI (2 ^ n) := by rw [zn_lt (by omega) (by omega)]; omega
        have hcond2 : ¬ nI (2 ^ n) ≤ nI (2 ^ n - 1) := Int32.not_le.mpr hcond
        have K2 := fun I3 h => K I3 h
        generalize zgat (zv_now I n T e) n sum (2 ^ n) = q at *
        have y0 : (nI q.1 = 0) = (q.1 = 0) := zn_eq (b := 0) (by omega) (by decide)
        rw [u186_21]
        simp only [u186_0, u186_1, u186_2, u186_3, u186_6, u186_9, u186_11, u186_12, u186_13, u186_16, u186_17, u186_18, u186_19, u186_23, u186_24, u186_27, u186_30, u186_31, u186_34, u186_36, u186_37, u186_38, u186_41, u186_42, u186_44, u186_47, u186_49, u186_50, u186_51, u186_54, u186_55, u186_57, u186_58, u186_61, u186_64, u186_67, u186_68, u186_71, u186_73, u186_74, u186_75, u186_77, u186_78, u186_82, u186_83, u186_84, u186_85, u186_88, u186_89, u186_91, u186_92, u186_95, u186_97, u186_100, u186_103, u186_104, u186_107, u186_108, u186_111, u186_112, u186_113, u186_114, u186_115, u186_116, u186_117, u186_120, u186_122, zk_mk_1, zk_mk_I, zk_mk_R, zk_mk_set, zk_mk_setR, zk_mk_cpy, zk_rv_some, zk_rv_none, Option.toList_some, Option.toList_none, List.cons_append, List.nil_append, reduceIte, eq_self, Nat.reduceLT, Nat.reduceEqDiff, and_true, true_and, reduceCtorEq, zsh_60, s161, e60, eall, hcond, hcond2, y0]
        by_cases k3 : q.1 = 0
        · rw [if_pos k3]
          have K3 := K2 I' hF
          rw [if_neg (by omega), if_pos k3] at K3
          exact K3
        · rw [if_neg k3]
          refine tail I' hF none q.1 q.2 (by omega) g2 l2 g3 (fun I3 h => ?_)
          have K3 := K2 I3 h
          rw [if_neg (by omega), if_neg k3] at K3
          exact K3) (by
        rintro i I' hi ⟨g1, g2, g3⟩ ih
        have hF : zF I I' := h1.trans (fun j hj => g1 j (by have := zKp_no hj; omega))
        have e60 : I' 60 0 = nI n := by rw [g1 60 (by decide)]; exact hn1
        have e78 : I' 78 = I1 78 := g1 78 (by decide)
        have hcond : ¬ nI (2 ^ n - 1) < nI i := by rw [zn_lt (by omega) (by omega)]; omega
        have hcond2 : nI i ≤ nI (2 ^ n - 1) := Int32.not_lt.mp hcond
        have z1 : zk_inb (nI i) 1024 = true := by rw [zn_in (by omega)]; omega
        have z2 : (nI i).toNatClampNeg = i := zn_cl (by omega)
        have hmono := zgat_mono (zv_now I n T e) n sum (i + 1) (2 ^ n - (i + 1))
        rw [show i + 1 + (2 ^ n - (i + 1)) = 2 ^ n by omega] at hmono
        by_cases hc : zsum (zv_now I n T e) i n = sum
        · have ek : zgat (zv_now I n T e) n sum (i + 1) = ((zgat (zv_now I n T e) n sum i).1 + 1, zgu (zgat (zv_now I n T e) n sum i).2 (zgat (zv_now I n T e) n sum i).1 i) := by rw [zgat, if_pos hc]
          rw [ek] at ih hmono
          have hmono : (zgat (zv_now I n T e) n sum i).1 + 1 ≤ (zgat (zv_now I n T e) n sum (2 ^ n)).1 := hmono
          generalize zgat (zv_now I n T e) n sum i = q at *
          have y12 : (nI q.1 = 12) = (q.1 = 12) := zn_eq (b := 12) (by omega) (by decide)
          by_cases k : q.1 = 12
          · have K3 := K I' hF
            rw [if_pos (by omega)] at K3
            rw [u186_21]
            simp only [u186_0, u186_1, u186_2, u186_3, u186_6, u186_9, u186_11, u186_12, u186_13, u186_16, u186_17, u186_18, u186_19, u186_23, u186_24, u186_27, u186_30, u186_31, u186_34, u186_36, u186_37, u186_38, u186_41, u186_42, u186_44, u186_47, u186_49, u186_50, u186_51, u186_54, u186_55, u186_57, u186_58, u186_61, u186_64, u186_67, u186_68, u186_71, u186_73, u186_74, u186_75, u186_77, u186_78, u186_82, u186_83, u186_84, u186_85, u186_88, u186_89, u186_91, u186_92, u186_95, u186_97, u186_100, u186_103, u186_104, u186_107, u186_108, u186_111, u186_112, u186_113, u186_114, u186_115, u186_116, u186_117, u186_120, u186_122, zk_mk_1, zk_mk_I, zk_mk_R, zk_mk_set, zk_mk_setR, zk_mk_cpy, zk_rv_some, zk_rv_none, Option.toList_some, Option.toList_none, List.cons_append, List.nil_append, reduceIte, eq_self, Nat.reduceLT, Nat.reduceEqDiff, and_true, true_and, reduceCtorEq, zsh_60, zsh_78, zrf_60_31, s161, e60, eall, hcond, hcond2, e78, z1, z2, (h3 i hi).1, hc, y12, k]
            exact K3
          · have z3 : zk_inb (nI q.1) 12 = true := by rw [zn_in (by omega)]; omega
            have z4 : (nI q.1).toNatClampNeg = q.1 := zn_cl (by omega)
            rw [u186_21]
            simp only [u186_0, u186_1, u186_2, u186_3, u186_6, u186_9, u186_11, u186_12, u186_13, u186_16, u186_17, u186_18, u186_19, u186_23, u186_24, u186_27, u186_30, u186_31, u186_34, u186_36, u186_37, u186_38, u186_41, u186_42, u186_44, u186_47, u186_49, u186_50, u186_51, u186_54, u186_55, u186_57, u186_58, u186_61, u186_64, u186_67, u186_68, u186_71, u186_73, u186_74, u186_75, u186_77, u186_78, u186_82, u186_83, u186_84, u186_85, u186_88, u186_89, u186_91, u186_92, u186_95, u186_97, u186_100, u186_103, u186_104, u186_107, u186_108, u186_111, u186_112, u186_113, u186_114, u186_115, u186_116, u186_117, u186_120, u186_122, zk_mk_1, zk_mk_I, zk_mk_R, zk_mk_set, zk_mk_setR, zk_mk_cpy, zk_rv_some, zk_rv_none, Option.toList_some, Option.toList_none, List.cons_append, List.nil_append, reduceIte, eq_self, Nat.reduceLT, Nat.reduceEqDiff, and_true, true_and, reduceCtorEq, zsh_60, zsh_78, zsh_81, zrf_60_31, zrf_60_34, s161, e60, eall, hcond, hcond2, e78, z1, z2, (h3 i hi).1, hc, y12, k, z3, z4, nI_1]
            refine ih _ ⟨fun j hj => ?_, ?_, fun j hj => ?_⟩
            · rw [zk_up2_r hj]; exact g1 j hj
            · show q.1 + 1 ≤ 12; omega
            · rw [zk_up2_i]
              have hj : j < q.1 + 1 := hj
              show (if j = q.1 then nI i else I' 81 j) = nI (zgu q.2 q.1 i j)
              unfold zgu
              by_cases e : j = q.1
              · rw [if_pos e, if_pos e]
              · rw [if_neg e, if_neg e]; exact g3 j (by omega)
        · have ek : zgat (zv_now I n T e) n sum (i + 1) = zgat (zv_now I n T e) n sum i := by rw [zgat, if_neg hc]
          rw [ek] at ih
          rw [u186_21]
          simp only [u186_0, u186_1, u186_2, u186_3, u186_6, u186_9, u186_11, u186_12, u186_13, u186_16, u186_17, u186_18, u186_19, u186_23, u186_24, u186_27, u186_30, u186_31, u186_34, u186_36, u186_37, u186_38, u186_41, u186_42, u186_44, u186_47, u186_49, u186_50, u186_51, u186_54, u186_55, u186_57, u186_58, u186_61, u186_64, u186_67, u186_68, u186_71, u186_73, u186_74, u186_75, u186_77, u186_78, u186_82, u186_83, u186_84, u186_85, u186_88, u186_89, u186_91, u186_92, u186_95, u186_97, u186_100, u186_103, u186_104, u186_107, u186_108, u186_111, u186_112, u186_113, u186_114, u186_115, u186_116, u186_117, u186_120, u186_122, zk_mk_1, zk_mk_I, zk_mk_R, zk_mk_set, zk_mk_setR, zk_mk_cpy, zk_rv_some, zk_rv_none, Option.toList_some, Option.toList_none, List.cons_append, List.nil_append, reduceIte, eq_self, Nat.reduceLT, Nat.reduceEqDiff, and_true, true_and, reduceCtorEq, zsh_60, zsh_78, zrf_60_31, s161, e60, eall, hcond, hcond2, e78, z1, z2, (h3 i hi).1, hc, nI_1]
          exact ih I' ⟨g1, g2, g3⟩)
    simp only [u186_0, u186_1, u186_2, u186_3, u186_6, u186_9, u186_11, u186_12, u186_13, u186_16, u186_17, u186_18, u186_19, u186_23, u186_24, u186_27, u186_30, u186_31, u186_34, u186_36, u186_37, u186_38, u186_41, u186_42, u186_44, u186_47, u186_49, u186_50, u186_51, u186_54, u186_55, u186_57, u186_58, u186_61, u186_64, u186_67, u186_68, u186_71, u186_73, u186_74, u186_75, u186_77, u186_78, u186_82, u186_83, u186_84, u186_85, u186_88, u186_89, u186_91, u186_92, u186_95, u186_97, u186_100, u186_103, u186_104, u186_107, u186_108, u186_111, u186_112, u186_113, u186_114, u186_115, u186_116, u186_117, u186_120, u186_122, zk_mk_1, zk_mk_I, zk_mk_R, zk_mk_set, zk_mk_setR, zk_mk_cpy, zk_rv_some, zk_rv_none, Option.toList_some, Option.toList_none, List.cons_append, List.nil_append, reduceIte, eq_self, Nat.reduceLT, Nat.reduceEqDiff, and_true, true_and, reduceCtorEq]
    exact loop 0 I1 (Nat.zero_le _) ⟨fun _ _ => rfl, Nat.zero_le _, fun j hj => absurd hj (Nat.not_lt_zero _)⟩
  · rw [if_pos hw]
    rw [if_neg hw] at K
    exact K I (zF_refl I)
