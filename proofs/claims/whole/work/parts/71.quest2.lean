/-! question: all sets of candidates -/
theorem zq_shl {x k : Nat} (hx : x < 2) (hk : k < 31) : nI x <<< (nI k &&& 31) = nI (x * 2 ^ k) := by
  have h2 : 2 ^ k < 2 ^ 31 := Nat.pow_lt_pow_right (by omega) hk
  exact pk_shlN (n := x) (nI k &&& 31) k (zq_smod k (by omega)) (by
    have : x * 2 ^ k ≤ 1 * 2 ^ k := Nat.mul_le_mul_right _ (by omega)
    omega)
theorem zset_next {p : Nat → Bool} {i x : Nat} (hx : x < 2) (h : (x = 1) = (p i = true)) : zset p i ||| x * 2 ^ i = zset p (i + 1) := by
  rw [zset]
  by_cases hp : p i = true
  · rw [if_pos hp, h.mpr hp, Nat.one_mul]
  · rw [if_neg hp]
    have : x = 0 := by
      have : ¬ x = 1 := fun q => hp (h.mp q)
      omega
    rw [this, Nat.zero_mul, Nat.or_zero]
def ztb (cost : Nat → Int32) (hd : Nat → Nat) (n : Nat) : Nat → (Nat → Int32)
  | 0 => fun _ => 0
  | k + 1 => fun j => if j = k then (zqs cost hd (ztb cost hd n k) k n).1 else ztb cost hd n k j
def zqf (cost : Nat → Int32) (hd : Nat → Nat) (n m : Nat) : Int32 × Int32 := zqs cost hd (ztb cost hd n (2 ^ m - 1)) (2 ^ m - 1) n
theorem zp_12 {m : Nat} (h : m ≤ 12) : 1 ≤ 2 ^ m ∧ 2 ^ m ≤ 4096 := ⟨Nat.one_le_two_pow, by
  have := Nat.pow_le_pow_right (n := 2) (by omega) h
  omega⟩
theorem s82 {sc : zk_X} {d : Nat} {I : Nat → Nat → Int32} {tg : Option Nat} {P : Option Value → zk_M → Prop} {n m : Nat} {cost : Nat → Int32} {cand : Nat → Nat} (h10 : n ≤ 10) (hm : m ≤ 12) (hm0 : 1 ≤ m) (hcl : ∀ j, j < m → cand j < 2 ^ n) (hc : ∀ c, c < n → I 17 c = cost c) (hcd : ∀ j, j < m → I 23 j = nI (cand j))
    (K : ∀ I' : Nat → Nat → Int32, (∀ j, j ≠ 24 → j ≠ 25 → j ≠ 27 → I' j = I j) → I' 27 0 = (zqf cost (zhd cand m) n m).1 → I' 27 1 = (zqf cost (zhd cand m) n m).2 → P none (zk_mk I' tg)) : zk_R sc (d + 1) 82 0 [some (.ref (15 : Nat)), some (.int (nI m)), some (.ref (27 : Nat)), none, none] [] (zk_mk I tg) P := by
  have p10 := zp_10 h10
  have p12 := zp_12 hm
  obtain ⟨b0, b1, b2, b3⟩ := zi_lit4
  obtain ⟨c0, c1, c2, c3⟩ := zi_cl4
  have hpow : (1 : Int32) <<< (nI m &&& 31) = nI (2 ^ m) := zq_pow (by omega)
  -- the walk over all sets
  have main : ∀ (x4 : Option Value) (I1 : Nat → Nat → Int32), (∀ j, j ≠ 24 → j ≠ 25 → j ≠ 27 → I1 j = I j) → (∀ c, c < 10 → I1 24 c = nI (zhd cand m c)) → zk_R sc (d + 1) 82 83 [some (.ref (15 : Nat)), some (.int (nI m)), some (.ref (27 : Nat)), some (.int (nI 1)), x4] [] (zk_mk I1 tg) P := by
    intro x4 I1 g1 g2
    have loop := zl_up (τ := Nat → Nat → Int32) (fun set I' => zk_R sc (d + 1) 82 83 [some (.ref (15 : Nat)), some (.int (nI m)), some (.ref (27 : Nat)), some (.int (nI set)), x4] [] (zk_mk I' tg) P)
      (fun set I' => 1 ≤ set ∧ (∀ j, j ≠ 24 → j ≠ 25 → j ≠ 27 → I' j = I j) ∧ (∀ c, c < 10 → I' 24 c = nI (zhd cand m c)) ∧ (∀ j, 1 ≤ j → j < set → I' 25 j = ztb cost (zhd cand m) n set j) ∧ (2 ≤ set → I' 27 0 = (zqs cost (zhd cand m) (ztb cost (zhd cand m) n (set - 1)) (set - 1) n).1 ∧ I' 27 1 = (zqs cost (zhd cand m) (ztb cost (zhd cand m) n (set - 1)) (set - 1) n).2)) (2 ^ m) (by
        rintro I' ⟨k0, k1, k2, k3, k4⟩
        rw [u82_83]
        simp only [u82_0, u82_1, u82_3, u82_5, u82_8, u82_9, u82_12, u82_13, u82_14, u82_15, u82_16, u82_20, u82_21, u82_24, u82_26, u82_28, u82_31, u82_32, u82_35, u82_36, u82_37, u82_38, u82_39, u82_42, u82_44, u82_45, u82_46, u82_47, u82_48, u82_49, u82_51, u82_52, u82_53, u82_54, u82_57, u82_60, u82_63, u82_66, u82_67, u82_68, u82_69, u82_70, u82_71, u82_72, u82_73, u82_74, u82_75, u82_78, u82_79, u82_80, u82_81, u82_82, u82_84, u82_85, u82_86, u82_87, u82_90, u82_91, u82_92, u82_95, u82_96, u82_99, u82_100, u82_101, u82_102, u82_105, u82_106, u82_109, u82_110, u82_111, u82_112, u82_113, u82_114, u82_117, u82_120, zk_mk_1, zk_mk_I, zk_mk_R, zk_mk_set, zk_mk_setR, zk_mk_cpy, zk_rv_some, zk_rv_none, Option.toList_some, Option.toList_none, List.cons_append, List.nil_append, reduceIte, eq_self, Nat.reduceLT, Nat.reduceEqDiff, and_true, true_and, reduceCtorEq, hpow]
        rw [if_pos (nI_le (Nat.le_refl _) (by omega))]
        have h2 : 2 ≤ 2 ^ m := by
          have := Nat.pow_le_pow_right (n := 2) (by omega) hm0
          omega
        obtain ⟨k5, k6⟩ := k4 h2
        exact K I' k1 k5 k6) (by
        rintro set I' hset ⟨k0, k1, k2, k3, k4⟩ ih
        have hlt : set < 4096 := by omega
        have hcond : ¬ (nI 4096) ≤ nI set := nI_ge hlt (by decide)
        have z1 : zk_inb (nI set) 4096 = true := by rw [zn_in (by omega)]; omega
        have z2 : (nI set).toNatClampNeg = set := zn_cl (by omega)
        rw [u82_83]
        simp only [u82_0, u82_1, u82_3, u82_5, u82_8, u82_9, u82_12, u82_13, u82_14, u82_15, u82_16, u82_20, u82_21, u82_24, u82_26, u82_28, u82_31, u82_32, u82_35, u82_36, u82_37, u82_38, u82_39, u82_42, u82_44, u82_45, u82_46, u82_47, u82_48, u82_49, u82_51, u82_52, u82_53, u82_54, u82_57, u82_60, u82_63, u82_66, u82_67, u82_68, u82_69, u82_70, u82_71, u82_72, u82_73, u82_74, u82_75, u82_78, u82_79, u82_80, u82_81, u82_82, u82_84, u82_85, u82_86, u82_87, u82_90, u82_91, u82_92, u82_95, u82_96, u82_99, u82_100, u82_101, u82_102, u82_105, u82_106, u82_109, u82_110, u82_111, u82_112, u82_113, u82_114, u82_117, u82_120, zk_mk_1, zk_mk_I, zk_mk_R, zk_mk_set, zk_mk_setR, zk_mk_cpy, zk_rv_some, zk_rv_none, Option.toList_some, Option.toList_none, List.cons_append, List.nil_append, reduceIte, eq_self, Nat.reduceLT, Nat.reduceEqDiff, and_true, true_and, reduceCtorEq, zsh_15, zsh_25, zrf_15_10, hpow, hcond, Nat.reduceLeDiff]
        rw [if_neg (nI_ge hset (by omega))]
        refine s83 (cost := cost) (hd := zhd cand m) h10 hlt (fun c hq => zhd_0 hcl hq) k2 (fun c hq => by rw [k1 17 (by decide) (by decide) (by decide)]; exact hc c hq) (W := ztb cost (zhd cand m) n set) (fun j j1 j2 => k3 j j1 j2) (fun I2 m1 m2 m3 => ?_)
        simp only [u82_0, u82_1, u82_3, u82_5, u82_8, u82_9, u82_12, u82_13, u82_14, u82_15, u82_16, u82_20, u82_21, u82_24, u82_26, u82_28, u82_31, u82_32, u82_35, u82_36, u82_37, u82_38, u82_39, u82_42, u82_44, u82_45, u82_46, u82_47, u82_48, u82_49, u82_51, u82_52, u82_53, u82_54, u82_57, u82_60, u82_63, u82_66, u82_67, u82_68, u82_69, u82_70, u82_71, u82_72, u82_73, u82_74, u82_75, u82_78, u82_79, u82_80, u82_81, u82_82, u82_84, u82_85, u82_86, u82_87, u82_90, u82_91, u82_92, u82_95, u82_96, u82_99, u82_100, u82_101, u82_102, u82_105, u82_106, u82_109, u82_110, u82_111, u82_112, u82_113, u82_114, u82_117, u82_120, zk_mk_1, zk_mk_I, zk_mk_R, zk_mk_set, zk_mk_setR, zk_mk_cpy, zk_rv_some, zk_rv_none, Option.toList_some, Option.toList_none, List.cons_append, List.nil_append, reduceIte, eq_self, Nat.reduceLT, Nat.reduceEqDiff, and_true, true_and, reduceCtorEq, zsh_15, zsh_25, zsh_27, zrf_15_10, b0, c0, m2, z1, z2, nI_1]
        refine ih _ ⟨by omega, fun j j1 j2 j3 => ?_, fun c hq => ?_, fun j j1 j2 => ?_, fun _ => ?_⟩
        · rw [zk_up2_r j2, m1 j j3, k1 j j1 j2 j3]
        · rw [zk_up2_k (show (24 : Nat) ≠ 25 by decide), m1 24 (by decide)]; exact k2 c hq
        · rw [zk_up2_i]
          show _ = if j = set then _ else _
          by_cases e : j = set
          · rw [if_pos e, if_pos e]
          · rw [if_neg e, if_neg e, m1 25 (by decide)]; exact k3 j j1 (by omega)
        · rw [zk_up2_k (show (27 : Nat) ≠ 25 by decide), zk_up2_k (show (27 : Nat) ≠ 25 by decide), show set + 1 - 1 = set by omega]
          exact ⟨m2, m3⟩)
    exact loop 1 I1 p12.1 ⟨Nat.le_refl _, g1, g2, fun j j1 j2 => by omega, fun q => by omega⟩
  have hold := zl_up (τ := (Nat → Nat → Int32) × Option Value) (fun c q => zk_R sc (d + 1) 82 2 [some (.ref (15 : Nat)), some (.int (nI m)), some (.ref (27 : Nat)), some (.int (nI c)), q.2] [] (zk_mk q.1 tg) P)
    (fun c q => (∀ j, j ≠ 24 → j ≠ 25 → j ≠ 27 → q.1 j = I j) ∧ ∀ c', c' < c → q.1 24 c' = nI (zhd cand m c')) 10 (by
      rintro ⟨I', x⟩ ⟨h1, h2⟩
      show zk_R sc (d + 1) 82 2 [some (.ref (15 : Nat)), some (.int (nI m)), some (.ref (27 : Nat)), some (.int (nI 10)), x] [] (zk_mk I' tg) P
      rw [u82_2]
      simp only [u82_0, u82_1, u82_3, u82_5, u82_8, u82_9, u82_12, u82_13, u82_14, u82_15, u82_16, u82_20, u82_21, u82_24, u82_26, u82_28, u82_31, u82_32, u82_35, u82_36, u82_37, u82_38, u82_39, u82_42, u82_44, u82_45, u82_46, u82_47, u82_48, u82_49, u82_51, u82_52, u82_53, u82_54, u82_57, u82_60, u82_63, u82_66, u82_67, u82_68, u82_69, u82_70, u82_71, u82_72, u82_73, u82_74, u82_75, u82_78, u82_79, u82_80, u82_81, u82_82, u82_84, u82_85, u82_86, u82_87, u82_90, u82_91, u82_92, u82_95, u82_96, u82_99, u82_100, u82_101, u82_102, u82_105, u82_106, u82_109, u82_110, u82_111, u82_112, u82_113, u82_114, u82_117, u82_120, zk_mk_1, zk_mk_I, zk_mk_R, zk_mk_set, zk_mk_setR, zk_mk_cpy, zk_rv_some, zk_rv_none, Option.toList_some, Option.toList_none, List.cons_append, List.nil_append, reduceIte, eq_self, Nat.reduceLT, Nat.reduceEqDiff, and_true, true_and, reduceCtorEq, zsh_15, zsh_25, zsh_27, zrf_15_10, b0, b1, c0, c1, show zk_inb (0 : Int32) 4096 = true from by decide, zk_up2_k (show (15 : Nat) ≠ 27 by decide)]
      have hcond : (10 : Int32) ≤ nI 10 := by decide
      first | rw [if_pos hcond] | rw [if_neg (Int32.not_lt.mpr hcond)]
      refine main _ _ (fun j j1 j2 j3 => ?_) (fun c hq => ?_)
      · rw [zk_up2_r j2, zk_up2_r j3, zk_up2_r j3]; exact h1 j j1 j2 j3
      · rw [zk_up2_k (show (24 : Nat) ≠ 25 by decide), zk_up2_k (show (24 : Nat) ≠ 27 by decide), zk_up2_k (show (24 : Nat) ≠ 27 by decide)]; exact h2 c hq) (by
      rintro c ⟨I', x⟩ hc10 ⟨h1, h2⟩ ih
      have h1 : ∀ j, j ≠ 24 → j ≠ 25 → j ≠ 27 → I' j = I j := h1
      have h2 : ∀ c', c' < c → I' 24 c' = nI (zhd cand m c') := h2
      have z1 : zk_inb (nI c) 10 = true := by rw [zn_in (by omega)]; omega
      have z2 : (nI c).toNatClampNeg = c := zn_cl (by omega)
      have inner := zl_up (τ := Nat → Nat → Int32) (fun i I2 => zk_R sc (d + 1) 82 18 [some (.ref (15 : Nat)), some (.int (nI m)), some (.ref (27 : Nat)), some (.int (nI c)), some (.int (nI i))] [] (zk_mk I2 tg) P)
        (fun i I2 => (∀ j, j ≠ 24 → j ≠ 25 → j ≠ 27 → I2 j = I j) ∧ (∀ c', c' < c → I2 24 c' = nI (zhd cand m c')) ∧ I2 24 c = nI (zset (fun i => decide (cand i / 2 ^ c % 2 = 1)) i)) m (by
          rintro I2 ⟨k1, k2, k3⟩
          rw [u82_18]
          simp only [u82_0, u82_1, u82_3, u82_5, u82_8, u82_9, u82_12, u82_13, u82_14, u82_15, u82_16, u82_20, u82_21, u82_24, u82_26, u82_28, u82_31, u82_32, u82_35, u82_36, u82_37, u82_38, u82_39, u82_42, u82_44, u82_45, u82_46, u82_47, u82_48, u82_49, u82_51, u82_52, u82_53, u82_54, u82_57, u82_60, u82_63, u82_66, u82_67, u82_68, u82_69, u82_70, u82_71, u82_72, u82_73, u82_74, u82_75, u82_78, u82_79, u82_80, u82_81, u82_82, u82_84, u82_85, u82_86, u82_87, u82_90, u82_91, u82_92, u82_95, u82_96, u82_99, u82_100, u82_101, u82_102, u82_105, u82_106, u82_109, u82_110, u82_111, u82_112, u82_113, u82_114, u82_117, u82_120, zk_mk_1, zk_mk_I, zk_mk_R, zk_mk_set, zk_mk_setR, zk_mk_cpy, zk_rv_some, zk_rv_none, Option.toList_some, Option.toList_none, List.cons_append, List.nil_append, reduceIte, eq_self, Nat.reduceLT, Nat.reduceEqDiff, and_true, true_and, reduceCtorEq, nI_1]
          rw [if_pos (nI_le (Nat.le_refl _) (by omega))]
          refine ih (I2, _) ⟨k1, fun c' hc' => ?_⟩
          by_cases e : c' = c
          · subst e; exact k3
          · exact k2 c' (by omega)) (by
          rintro i I2 hi ⟨k1, k2, k3⟩ ih2
          have e23 : I2 23 i = nI (cand i) := by rw [k1 23 (by decide) (by decide) (by decide)]; exact hcd i hi
          have z3 : zk_inb (nI i) 12 = true := by rw [zn_in (by omega)]; omega
          have z4 : (nI i).toNatClampNeg = i := zn_cl (by omega)
          have hcand := hcl i hi
          have hcond : ¬ (12 : Int32) ≤ nI i := nI_ge (b := 12) (by omega) (by decide)
          rw [u82_18]
          simp only [u82_0, u82_1, u82_3, u82_5, u82_8, u82_9, u82_12, u82_13, u82_14, u82_15, u82_16, u82_20, u82_21, u82_24, u82_26, u82_28, u82_31, u82_32, u82_35, u82_36, u82_37, u82_38, u82_39, u82_42, u82_44, u82_45, u82_46, u82_47, u82_48, u82_49, u82_51, u82_52, u82_53, u82_54, u82_57, u82_60, u82_63, u82_66, u82_67, u82_68, u82_69, u82_70, u82_71, u82_72, u82_73, u82_74, u82_75, u82_78, u82_79, u82_80, u82_81, u82_82, u82_84, u82_85, u82_86, u82_87, u82_90, u82_91, u82_92, u82_95, u82_96, u82_99, u82_100, u82_101, u82_102, u82_105, u82_106, u82_109, u82_110, u82_111, u82_112, u82_113, u82_114, u82_117, u82_120, zk_mk_1, zk_mk_I, zk_mk_R, zk_mk_set, zk_mk_setR, zk_mk_cpy, zk_rv_some, zk_rv_none, Option.toList_some, Option.toList_none, List.cons_append, List.nil_append, reduceIte, eq_self, Nat.reduceLT, Nat.reduceEqDiff, and_true, true_and, reduceCtorEq, zsh_15, zsh_23, zsh_24, zrf_15_8, zrf_15_9, hcond, z1, z2, z3, z4, e23, k3, zq_bit (show cand i < 2147483648 by omega) (show c < 32 by omega), zq_shl (Nat.mod_lt (cand i / 2 ^ c) (show 0 < 2 by decide)) (show i < 31 by omega), zq_or, nI_1]
          rw [if_neg (nI_ge hi (by omega)), zset_next (p := fun i => decide (cand i / 2 ^ c % 2 = 1)) (Nat.mod_lt _ (by decide)) (by rw [decide_eq_true_eq])]
          refine ih2 _ ⟨fun j j1 j2 j3 => ?_, fun c' hc' => ?_, ?_⟩
          · rw [zk_up2_r j1]; exact k1 j j1 j2 j3
          · rw [zk_up2_j (by omega)]; exact k2 c' hc'
          · rw [zk_up2_s])
      have hcond : ¬ (10 : Int32) ≤ nI c := nI_ge (b := 10) hc10 (by decide)
      show zk_R sc (d + 1) 82 2 [some (.ref (15 : Nat)), some (.int (nI m)), some (.ref (27 : Nat)), some (.int (nI c)), x] [] (zk_mk I' tg) P
      rw [u82_2]
      simp only [u82_0, u82_1, u82_3, u82_5, u82_8, u82_9, u82_12, u82_13, u82_14, u82_15, u82_16, u82_20, u82_21, u82_24, u82_26, u82_28, u82_31, u82_32, u82_35, u82_36, u82_37, u82_38, u82_39, u82_42, u82_44, u82_45, u82_46, u82_47, u82_48, u82_49, u82_51, u82_52, u82_53, u82_54, u82_57, u82_60, u82_63, u82_66, u82_67, u82_68, u82_69, u82_70, u82_71, u82_72, u82_73, u82_74, u82_75, u82_78, u82_79, u82_80, u82_81, u82_82, u82_84, u82_85, u82_86, u82_87, u82_90, u82_91, u82_92, u82_95, u82_96, u82_99, u82_100, u82_101, u82_102, u82_105, u82_106, u82_109, u82_110, u82_111, u82_112, u82_113, u82_114, u82_117, u82_120, zk_mk_1, zk_mk_I, zk_mk_R, zk_mk_set, zk_mk_setR, zk_mk_cpy, zk_rv_some, zk_rv_none, Option.toList_some, Option.toList_none, List.cons_append, List.nil_append, reduceIte, eq_self, Nat.reduceLT, Nat.reduceEqDiff, and_true, true_and, reduceCtorEq, zsh_15, zsh_24, zrf_15_9, hcond, z1, z2]
      refine inner 0 _ (Nat.zero_le _) ⟨fun j j1 j2 j3 => ?_, fun c' hc' => ?_, ?_⟩
      · rw [zk_up2_r j1]; exact h1 j j1 j2 j3
      · rw [zk_up2_j (by omega)]; exact h2 c' hc'
      · rw [zk_up2_s]; rfl)
  simp only [u82_0, u82_1, u82_3, u82_5, u82_8, u82_9, u82_12, u82_13, u82_14, u82_15, u82_16, u82_20, u82_21, u82_24, u82_26, u82_28, u82_31, u82_32, u82_35, u82_36, u82_37, u82_38, u82_39, u82_42, u82_44, u82_45, u82_46, u82_47, u82_48, u82_49, u82_51, u82_52, u82_53, u82_54, u82_57, u82_60, u82_63, u82_66, u82_67, u82_68, u82_69, u82_70, u82_71, u82_72, u82_73, u82_74, u82_75, u82_78, u82_79, u82_80, u82_81, u82_82, u82_84, u82_85, u82_86, u82_87, u82_90, u82_91, u82_92, u82_95, u82_96, u82_99, u82_100, u82_101, u82_102, u82_105, u82_106, u82_109, u82_110, u82_111, u82_112, u82_113, u82_114, u82_117, u82_120, zk_mk_1, zk_mk_I, zk_mk_R, zk_mk_set, zk_mk_setR, zk_mk_cpy, zk_rv_some, zk_rv_none, Option.toList_some, Option.toList_none, List.cons_append, List.nil_append, reduceIte, eq_self, Nat.reduceLT, Nat.reduceEqDiff, and_true, true_and, reduceCtorEq]
  exact hold 0 (I, none) (Nat.zero_le _) ⟨fun _ _ _ _ => rfl, fun c' hc' => absurd hc' (Nat.not_lt_zero _)⟩
def zcost (I : Nat → Nat → Int32) (n : Nat) (T e : Nat → Nat) (c : Nat) : Int32 := zv_said I n T e 2 c (zb (I 5 c = 1))
theorem zF.cost {I I' : Nat → Nat → Int32} {n : Nat} {T e : Nat → Nat} (h : zF I I') : zcost I' n T e = zcost I n T e := by
  funext c
  unfold zcost
  rw [h 5 rfl, h.said]
def zA_q2 (f : Nat → Int32) (cost : Nat → Int32) (n : Nat) (sum what : Int32) : Int32 := if 12 < (zgat f n sum (2 ^ n)).1 then -4 else if (zgat f n sum (2 ^ n)).1 = 0 then -5 else if what = 0 then (zqf cost (zhd (zgat f n sum (2 ^ n)).2 (zgat f n sum (2 ^ n)).1) n (zgat f n sum (2 ^ n)).1).1 else (zqf cost (zhd (zgat f n sum (2 ^ n)).2 (zgat f n sum (2 ^ n)).1) n (zgat f n sum (2 ^ n)).1).2
def zA_question (I : Nat → Nat → Int32) (n : Nat) (T e : Nat → Nat) (sum what : Int32) : Int32 := if 0 ≤ what ∧ what ≤ 1 then zA_q2 (zv_now I n T e) (zcost I n T e) n sum what else -2
theorem s35 {sc : zk_X} {d : Nat} {I : Nat → Nat → Int32} {tg : Option Nat} {P : Option Value → zk_M → Prop} {n t : Nat} {T e : Nat → Nat} {sum what : Int32} (hq : zj_q I n t T e)
    (K : ∀ I' : Nat → Nat → Int32, zF I I' → P (some (.int (zA_question I n T e sum what))) (zk_mk I' tg)) : zk_R sc (d + 6) 35 0 [some (.ref (0 : Nat)), some (.int sum), some (.int what), none, none] [] (zk_mk I tg) P := by
  obtain ⟨hj, hl, hr, ht, hx⟩ := hq
  obtain ⟨w1, w2, w3, w4⟩ := zx_83 ht
  obtain ⟨b0, b1, b2, b3⟩ := zi_lit4
  obtain ⟨c0, c1, c2, c3⟩ := zi_cl4
  have h10 := hj.2.2.1
  have p10 := zp_10 h10
  unfold zA_question at K
  simp only [u35_0, u35_1, u35_4, u35_5, u35_6, u35_9, u35_11, u35_12, u35_13, u35_16, u35_17, u35_20, u35_21, u35_24, u35_25, u35_26, u35_28, u35_31, u35_33, u35_34, u35_35, u35_38, u35_40, u35_41, u35_42, u35_46, u35_47, u35_50, u35_53, u35_56, u35_57, u35_60, u35_63, u35_65, u35_66, u35_67, u35_70, u35_71, u35_73, u35_74, u35_77, u35_79, u35_82, u35_85, u35_86, u35_89, u35_92, u35_93, u35_96, u35_97, u35_98, u35_101, u35_104, u35_105, u35_108, u35_109, u35_110, zk_mk_1, zk_mk_I, zk_mk_R, zk_mk_set, zk_mk_setR, zk_mk_cpy, zk_rv_some, zk_rv_none, Option.toList_some, Option.toList_none, List.cons_append, List.nil_append, reduceIte, eq_self, Nat.reduceLT, Nat.reduceEqDiff, and_true, true_and, reduceCtorEq, zsh_0]
  by_cases hw : 0 ≤ what ∧ what ≤ 1
  · rw [if_pos hw] at K
    rw [if_neg (Int32.not_lt.mpr hw.1), if_pos hw.2]
    refine s21 hj ht hl hx (fun I1 h1 h2 h3 h4 => ?_)
    simp only [u35_0, u35_1, u35_4, u35_5, u35_6, u35_9, u35_11, u35_12, u35_13, u35_16, u35_17, u35_20, u35_21, u35_24, u35_25, u35_26, u35_28, u35_31, u35_33, u35_34, u35_35, u35_38, u35_40, u35_41, u35_42, u35_46, u35_47, u35_50, u35_53, u35_56, u35_57, u35_60, u35_63, u35_65, u35_66, u35_67, u35_70, u35_71, u35_73, u35_74, u35_77, u35_79, u35_82, u35_85, u35_86, u35_89, u35_92, u35_93, u35_96, u35_97, u35_98, u35_101, u35_104, u35_105, u35_108, u35_109, u35_110, zk_mk_1, zk_mk_I, zk_mk_R, zk_mk_set, zk_mk_setR, zk_mk_cpy, zk_rv_some, zk_rv_none, Option.toList_some, Option.toList_none, List.cons_append, List.nil_append, reduceIte, eq_self, Nat.reduceLT, Nat.reduceEqDiff, and_true, true_and, reduceCtorEq, zsh_0, zsh_15, zrf_0_7]
    refine s81 h10 h3 (fun h hh => (h4 h hh).1) (fun I2 g1 g2 => ?_)
    have hF2 : zF I I2 := h1.trans (fun j hj => g1 j (by have := zKp_no hj; omega))
    obtain ⟨l1, l2⟩ := zgat_le (zv_now I n T e) n sum (2 ^ n)
    unfold zA_q2 at K
    generalize zgat (zv_now I n T e) n sum (2 ^ n) = q at *
    have K2 := K I2 hF2
    have y0 : (nI q.1 = 0) = (q.1 = 0) := zn_eq (b := 0) (by omega) (by decide)
    simp only [u35_0, u35_1, u35_4, u35_5, u35_6, u35_9, u35_11, u35_12, u35_13, u35_16, u35_17, u35_20, u35_21, u35_24, u35_25, u35_26, u35_28, u35_31, u35_33, u35_34, u35_35, u35_38, u35_40, u35_41, u35_42, u35_46, u35_47, u35_50, u35_53, u35_56, u35_57, u35_60, u35_63, u35_65, u35_66, u35_67, u35_70, u35_71, u35_73, u35_74, u35_77, u35_79, u35_82, u35_85, u35_86, u35_89, u35_92, u35_93, u35_96, u35_97, u35_98, u35_101, u35_104, u35_105, u35_108, u35_109, u35_110, zk_mk_1, zk_mk_I, zk_mk_R, zk_mk_set, zk_mk_setR, zk_mk_cpy, zk_rv_some, zk_rv_none, Option.toList_some, Option.toList_none, List.cons_append, List.nil_append, reduceIte, eq_self, Nat.reduceLT, Nat.reduceEqDiff, and_true, true_and, reduceCtorEq, y0]
    by_cases k1 : 12 < q.1
    · have k2 : (12 : Int32) < nI q.1 := by rw [show (12 : Int32) = nI 12 from rfl, zn_lt (by decide) (by omega)]; exact k1
      first | rw [if_pos k2] | rw [if_neg (Int32.not_le.mpr k2)]
      rw [if_pos k1] at K2
      exact K2
    · have k2 : nI q.1 ≤ (12 : Int32) := by rw [show (12 : Int32) = nI 12 from rfl, zn_le (by omega) (by decide)]; omega
      first | rw [if_pos k2] | rw [if_neg (Int32.not_lt.mpr k2)]
      rw [if_neg k1] at K2
      by_cases k3 : q.1 = 0
      · rw [if_pos k3] at K2 ⊢
        exact K2
      · rw [if_neg k3]
        have loop := zl_up (τ := Nat → Nat → Int32) (fun c I3 => zk_R sc (d + 6) 35 44 [some (.ref (0 : Nat)), some (.int sum), some (.int what), some (.int (nI q.1)), some (.int (nI c))] [] (zk_mk I3 tg) P)
          (fun c I3 => zF I I3 ∧ I3 23 = I2 23 ∧ ∀ c', c' < c → I3 17 c' = zcost I n T e c') n (by
            rintro I3 ⟨m1, m2, m3⟩
            have e1 : I3 1 4 = nI n := (m1.tab hj).1
            rw [u35_44]
            simp only [u35_0, u35_1, u35_4, u35_5, u35_6, u35_9, u35_11, u35_12, u35_13, u35_16, u35_17, u35_20, u35_21, u35_24, u35_25, u35_26, u35_28, u35_31, u35_33, u35_34, u35_35, u35_38, u35_40, u35_41, u35_42, u35_46, u35_47, u35_50, u35_53, u35_56, u35_57, u35_60, u35_63, u35_65, u35_66, u35_67, u35_70, u35_71, u35_73, u35_74, u35_77, u35_79, u35_82, u35_85, u35_86, u35_89, u35_92, u35_93, u35_96, u35_97, u35_98, u35_101, u35_104, u35_105, u35_108, u35_109, u35_110, zk_mk_1, zk_mk_I, zk_mk_R, zk_mk_set, zk_mk_setR, zk_mk_cpy, zk_rv_some, zk_rv_none, Option.toList_some, Option.toList_none, List.cons_append, List.nil_append, reduceIte, eq_self, Nat.reduceLT, Nat.reduceEqDiff, and_true, true_and, reduceCtorEq, zsh_0, zsh_1, zsh_15, zrf_0_0, zrf_0_7, zrf_0_9, e1]
            rw [if_pos (nI_le (Nat.le_refl _) (by omega))]
            refine s82 h10 (by omega) (by omega) l2 m3 (fun j hj2 => by rw [m2]; exact g2 j hj2 (by omega)) (fun I4 n1 n2 n3 => ?_)
            have K4 := K I4 (m1.trans (fun j hj => n1 j (by have := zKp_no hj; omega) (by have := zKp_no hj; omega) (by have := zKp_no hj; omega)))
            rw [if_neg k1, if_neg k3] at K4
            simp only [u35_0, u35_1, u35_4, u35_5, u35_6, u35_9, u35_11, u35_12, u35_13, u35_16, u35_17, u35_20, u35_21, u35_24, u35_25, u35_26, u35_28, u35_31, u35_33, u35_34, u35_35, u35_38, u35_40, u35_41, u35_42, u35_46, u35_47, u35_50, u35_53, u35_56, u35_57, u35_60, u35_63, u35_65, u35_66, u35_67, u35_70, u35_71, u35_73, u35_74, u35_77, u35_79, u35_82, u35_85, u35_86, u35_89, u35_92, u35_93, u35_96, u35_97, u35_98, u35_101, u35_104, u35_105, u35_108, u35_109, u35_110, zk_mk_1, zk_mk_I, zk_mk_R, zk_mk_set, zk_mk_setR, zk_mk_cpy, zk_rv_some, zk_rv_none, Option.toList_some, Option.toList_none, List.cons_append, List.nil_append, reduceIte, eq_self, Nat.reduceLT, Nat.reduceEqDiff, and_true, true_and, reduceCtorEq, zsh_0, zsh_27, zrf_0_9]
            rcases zw_01 hw with rfl | rfl
            · rw [c0, n2]; exact ⟨b0, K4⟩
            · rw [c1, n3]; exact ⟨b1, K4⟩) (by
            rintro c I3 hc ⟨m1, m2, m3⟩ ih
            have hj3 := m1.tab hj
            have e1 : I3 1 4 = nI n := hj3.1
            have e5 : I3 1 5 = nI t := by rw [m1 1 rfl]; exact hl
            have z1 : zk_inb (nI c) 10 = true := by rw [zn_in (by omega)]; omega
            have z2 : (nI c).toNatClampNeg = c := zn_cl (by omega)
            rw [u35_44]
            simp only [u35_0, u35_1, u35_4, u35_5, u35_6, u35_9, u35_11, u35_12, u35_13, u35_16, u35_17, u35_20, u35_21, u35_24, u35_25, u35_26, u35_28, u35_31, u35_33, u35_34, u35_35, u35_38, u35_40, u35_41, u35_42, u35_46, u35_47, u35_50, u35_53, u35_56, u35_57, u35_60, u35_63, u35_65, u35_66, u35_67, u35_70, u35_71, u35_73, u35_74, u35_77, u35_79, u35_82, u35_85, u35_86, u35_89, u35_92, u35_93, u35_96, u35_97, u35_98, u35_101, u35_104, u35_105, u35_108, u35_109, u35_110, zk_mk_1, zk_mk_I, zk_mk_R, zk_mk_set, zk_mk_setR, zk_mk_cpy, zk_rv_some, zk_rv_none, Option.toList_some, Option.toList_none, List.cons_append, List.nil_append, reduceIte, eq_self, Nat.reduceLT, Nat.reduceEqDiff, and_true, true_and, reduceCtorEq, zsh_0, zsh_1, zsh_15, zrf_0_0, zrf_0_7, zrf_15_1, e1]
            rw [if_neg (nI_ge hc (by omega))]
            simp only [u35_0, u35_1, u35_4, u35_5, u35_6, u35_9, u35_11, u35_12, u35_13, u35_16, u35_17, u35_20, u35_21, u35_24, u35_25, u35_26, u35_28, u35_31, u35_33, u35_34, u35_35, u35_38, u35_40, u35_41, u35_42, u35_46, u35_47, u35_50, u35_53, u35_56, u35_57, u35_60, u35_63, u35_65, u35_66, u35_67, u35_70, u35_71, u35_73, u35_74, u35_77, u35_79, u35_82, u35_85, u35_86, u35_89, u35_92, u35_93, u35_96, u35_97, u35_98, u35_101, u35_104, u35_105, u35_108, u35_109, u35_110, zk_mk_1, zk_mk_I, zk_mk_R, zk_mk_set, zk_mk_setR, zk_mk_cpy, zk_rv_some, zk_rv_none, Option.toList_some, Option.toList_none, List.cons_append, List.nil_append, reduceIte, eq_self, Nat.reduceLT, Nat.reduceEqDiff, and_true, true_and, reduceCtorEq, zsh_0, zsh_1, zsh_15, zrf_0_0, zrf_0_7, zrf_15_1, s7 ht e5, zx_28 ht, w1, s96 (show c < 10 by omega)]
            refine s8 (p := 2) hj3 ht (by decide) hc (m1.text ht hx) (fun I4 n1 => ?_)
            have ev : zv_said I3 n T e 2 c (zb (I3 5 c = 1)) = zcost I n T e c := congrFun m1.cost c
            rw [ev]
            simp only [u35_0, u35_1, u35_4, u35_5, u35_6, u35_9, u35_11, u35_12, u35_13, u35_16, u35_17, u35_20, u35_21, u35_24, u35_25, u35_26, u35_28, u35_31, u35_33, u35_34, u35_35, u35_38, u35_40, u35_41, u35_42, u35_46, u35_47, u35_50, u35_53, u35_56, u35_57, u35_60, u35_63, u35_65, u35_66, u35_67, u35_70, u35_71, u35_73, u35_74, u35_77, u35_79, u35_82, u35_85, u35_86, u35_89, u35_92, u35_93, u35_96, u35_97, u35_98, u35_101, u35_104, u35_105, u35_108, u35_109, u35_110, zk_mk_1, zk_mk_I, zk_mk_R, zk_mk_set, zk_mk_setR, zk_mk_cpy, zk_rv_some, zk_rv_none, Option.toList_some, Option.toList_none, List.cons_append, List.nil_append, reduceIte, eq_self, Nat.reduceLT, Nat.reduceEqDiff, and_true, true_and, reduceCtorEq, zsh_17, z1, z2, nI_1]
            refine ih _ ⟨(m1.trans n1.F).up rfl, ?_, fun c' hc' => ?_⟩
            · rw [zk_up2_r (show (23 : Nat) ≠ 17 by decide), n1 23 (by decide) (by omega)]; exact m2
            · rw [zk_up2_i]
              by_cases e : c' = c
              · rw [if_pos e, e]
              · rw [if_neg e, n1 17 (by decide) (by omega)]; exact m3 c' (by omega))
        exact loop 0 I2 (Nat.zero_le _) ⟨hF2, rfl, fun c' hc' => absurd hc' (Nat.not_lt_zero _)⟩
  · rw [if_neg hw] at K
    have K2 := K I (zF_refl I)
    split
    · exact K2
    · next h =>
      rw [if_neg (fun q => hw ⟨Int32.not_lt.mp h, q⟩)]
      exact K2
