/-! the order of all heaps; unlike sums -/
theorem s76 {sc : zk_X} {d : Nat} {I : Nat → Nat → Int32} {tg : Option Nat} {P : Option Value → zk_M → Prop} {n : Nat} {f : Nat → Int32} (h10 : n ≤ 10) (hall : I 15 3 = nI (2 ^ n - 1)) (hs : ∀ h, h < 2 ^ n → I 18 h = zsum f h n) (hb : zbd f n)
    (K : ∀ I' : Nat → Nat → Int32, (∀ j, j ≠ 20 → j ≠ 21 → I' j = I j) → (∃ O, zord (zsv f n) O n ∧ ∀ a, a < 2 ^ n → I' 20 a = nI (O a)) → P none (zk_mk I' tg)) : zk_R sc (d + 1) 76 0 [some (.ref (15 : Nat)), none, none, none] [] (zk_mk I tg) P := by
  have p10 := zp_10 h10
  have loop := zl_up (τ := (Nat → Nat → Int32) × Option Value × Option Value) (fun k q => zk_R sc (d + 1) 76 9 [some (.ref (15 : Nat)), some (.int (nI k)), q.2.1, q.2.2] [] (zk_mk q.1 tg) P)
    (fun k q => (∀ j, j ≠ 20 → j ≠ 21 → q.1 j = I j) ∧ ∃ O, zord (zsv f n) O k ∧ ∀ a, a < 2 ^ k → q.1 20 a = nI (O a)) n (by
      rintro ⟨I', x, y⟩ ⟨h1, O, h2, h3⟩
      have h1 : ∀ j, j ≠ 20 → j ≠ 21 → I' j = I j := h1
      have e15 : I' 15 = I 15 := h1 15 (by decide) (by decide)
      have hcond : nI (2 ^ n - 1) < nI (2 ^ n) := by rw [zn_lt (by omega) (by omega)]; omega
      have hpow : (1 : Int32) <<< (nI n &&& 31) = nI (2 ^ n) := zq_all h10
      have hc : ((10 : Int32) ≤ nI n) = (10 ≤ n) := zn_le (a := 10) (by omega) (by omega)
      show zk_R sc (d + 1) 76 9 [some (.ref (15 : Nat)), some (.int (nI n)), x, y] [] (zk_mk I' tg) P
      rw [u76_9]
      by_cases e : 10 ≤ n
      · have hc2 : (10 : Int32) ≤ nI n := by rw [hc]; exact e
        simp only [u76_0, u76_1, u76_4, u76_5, u76_6, u76_7, u76_8, u76_10, u76_12, u76_15, u76_16, u76_17, u76_18, u76_19, u76_22, u76_25, u76_26, u76_27, u76_28, u76_29, u76_30, u76_31, u76_34, u76_35, u76_37, u76_38, u76_39, u76_40, u76_43, u76_44, u76_47, u76_48, u76_49, u76_52, u76_53, u76_54, u76_55, u76_58, u76_61, u76_64, u76_67, zk_mk_1, zk_mk_I, zk_mk_R, zk_mk_set, zk_mk_setR, zk_mk_cpy, zk_rv_some, zk_rv_none, Option.toList_some, Option.toList_none, List.cons_append, List.nil_append, reduceIte, eq_self, Nat.reduceLT, Nat.reduceEqDiff, and_true, true_and, reduceCtorEq, hc2]
        exact K I' h1 ⟨O, h2, h3⟩
      · have hc2 : ¬ (10 : Int32) ≤ nI n := by rw [hc]; exact e
        simp only [u76_0, u76_1, u76_4, u76_5, u76_6, u76_7, u76_8, u76_10, u76_12, u76_15, u76_16, u76_17, u76_18, u76_19, u76_22, u76_25, u76_26, u76_27, u76_28, u76_29, u76_30, u76_31, u76_34, u76_35, u76_37, u76_38, u76_39, u76_40, u76_43, u76_44, u76_47, u76_48, u76_49, u76_52, u76_53, u76_54, u76_55, u76_58, u76_61, u76_64, u76_67, zk_mk_1, zk_mk_I, zk_mk_R, zk_mk_set, zk_mk_setR, zk_mk_cpy, zk_rv_some, zk_rv_none, Option.toList_some, Option.toList_none, List.cons_append, List.nil_append, reduceIte, eq_self, Nat.reduceLT, Nat.reduceEqDiff, and_true, true_and, reduceCtorEq, zsh_15, e15, hall, hc2, hpow, hcond]
        exact K I' h1 ⟨O, h2, h3⟩) (by
      rintro k ⟨I', x, y⟩ hk ⟨h1, O, h2, h3⟩ ih
      have h1 : ∀ j, j ≠ 20 → j ≠ 21 → I' j = I j := h1
      have h3 : ∀ a, a < 2 ^ k → I' 20 a = nI (O a) := h3
      have e15 : I' 15 = I 15 := h1 15 (by decide) (by decide)
      have e18 : I' 18 = I 18 := h1 18 (by decide) (by decide)
      have p9 : 2 ^ k ≤ 512 := Nat.le_trans (Nat.pow_le_pow_right (by omega) (show k ≤ 9 by omega)) (by decide)
      have hp : 2 ^ (k + 1) = 2 * 2 ^ k := by rw [Nat.pow_succ]; omega
      have hpn : 2 ^ (k + 1) ≤ 2 ^ n := Nat.pow_le_pow_right (by omega) (by omega)
      have e2 : (2 : Int32) * nI (2 ^ k) = nI (2 * 2 ^ k) := zn_mul 2 (2 ^ k)
      have hpow : (1 : Int32) <<< (nI k &&& 31) = nI (2 ^ k) := zq_all (by omega)
      have hc : ((10 : Int32) ≤ nI k) = (10 ≤ k) := zn_le (a := 10) (by omega) (by omega)
      have hc2 : ¬ (10 : Int32) ≤ nI k := by rw [hc]; omega
      have hcond : ¬ nI (2 ^ n - 1) < nI (2 ^ k) := by
        have : 1 ≤ 2 ^ k := Nat.one_le_two_pow
        rw [zn_lt (by omega) (by omega)]; omega
      show zk_R sc (d + 1) 76 9 [some (.ref (15 : Nat)), some (.int (nI k)), x, y] [] (zk_mk I' tg) P
      rw [u76_9]
      simp only [u76_0, u76_1, u76_4, u76_5, u76_6, u76_7, u76_8, u76_10, u76_12, u76_15, u76_16, u76_17, u76_18, u76_19, u76_22, u76_25, u76_26, u76_27, u76_28, u76_29, u76_30, u76_31, u76_34, u76_35, u76_37, u76_38, u76_39, u76_40, u76_43, u76_44, u76_47, u76_48, u76_49, u76_52, u76_53, u76_54, u76_55, u76_58, u76_61, u76_64, u76_67, zk_mk_1, zk_mk_I, zk_mk_R, zk_mk_set, zk_mk_setR, zk_mk_cpy, zk_rv_some, zk_rv_none, Option.toList_some, Option.toList_none, List.cons_append, List.nil_append, reduceIte, eq_self, Nat.reduceLT, Nat.reduceEqDiff, and_true, true_and, reduceCtorEq, zsh_15, e15, hall, hc2, hpow, hcond]
      refine s77 h10 hk (by rw [e18]; exact hs) hb h2 h3 (fun I2 g1 hG => ?_)
      obtain ⟨G, g2, g3⟩ := hG
      have inner := zl_up (τ := Nat → Nat → Int32) (fun i I3 => zk_R sc (d + 1) 76 36 [some (.ref (15 : Nat)), some (.int (nI k)), some (.int (nI (2 ^ k))), some (.int (nI i))] [] (zk_mk I3 tg) P)
        (fun i I3 => (∀ j, j ≠ 20 → j ≠ 21 → I3 j = I j) ∧ (∀ a, a < 2 ^ (k + 1) → I3 21 a = nI (G a)) ∧ ∀ a, a < i → I3 20 a = nI (G a)) (2 * 2 ^ k) (by
          rintro I3 ⟨k1, k2, k3⟩
          rw [u76_36]
          simp only [u76_0, u76_1, u76_4, u76_5, u76_6, u76_7, u76_8, u76_10, u76_12, u76_15, u76_16, u76_17, u76_18, u76_19, u76_22, u76_25, u76_26, u76_27, u76_28, u76_29, u76_30, u76_31, u76_34, u76_35, u76_37, u76_38, u76_39, u76_40, u76_43, u76_44, u76_47, u76_48, u76_49, u76_52, u76_53, u76_54, u76_55, u76_58, u76_61, u76_64, u76_67, zk_mk_1, zk_mk_I, zk_mk_R, zk_mk_set, zk_mk_setR, zk_mk_cpy, zk_rv_some, zk_rv_none, Option.toList_some, Option.toList_none, List.cons_append, List.nil_append, reduceIte, eq_self, Nat.reduceLT, Nat.reduceEqDiff, and_true, true_and, reduceCtorEq, e2, nI_1]
          rw [if_pos (nI_le (Nat.le_refl _) (by omega))]
          exact ih (I3, _, _) ⟨k1, G, g2, fun a ha => k3 a (by omega)⟩) (by
          rintro i I3 hi ⟨k1, k2, k3⟩ ih2
          have z1 : zk_inb (nI i) 1024 = true := by rw [zn_in (by omega)]; omega
          have z2 : (nI i).toNatClampNeg = i := zn_cl (by omega)
          rw [u76_36]
          simp only [u76_0, u76_1, u76_4, u76_5, u76_6, u76_7, u76_8, u76_10, u76_12, u76_15, u76_16, u76_17, u76_18, u76_19, u76_22, u76_25, u76_26, u76_27, u76_28, u76_29, u76_30, u76_31, u76_34, u76_35, u76_37, u76_38, u76_39, u76_40, u76_43, u76_44, u76_47, u76_48, u76_49, u76_52, u76_53, u76_54, u76_55, u76_58, u76_61, u76_64, u76_67, zk_mk_1, zk_mk_I, zk_mk_R, zk_mk_set, zk_mk_setR, zk_mk_cpy, zk_rv_some, zk_rv_none, Option.toList_some, Option.toList_none, List.cons_append, List.nil_append, reduceIte, eq_self, Nat.reduceLT, Nat.reduceEqDiff, and_true, true_and, reduceCtorEq, zsh_15, zsh_20, zsh_21, zrf_15_5, zrf_15_6, e2, z1, z2, k2 i (by omega), nI_1]
          rw [if_neg (nI_ge hi (by omega))]
          refine ih2 _ ⟨fun j j1 j2 => ?_, fun a ha => ?_, fun a ha => ?_⟩
          · rw [zk_up2_r j1]; exact k1 j j1 j2
          · rw [zk_up2_k (show (21 : Nat) ≠ 20 by decide)]; exact k2 a ha
          · rw [zk_up2_i]
            by_cases e : a = i
            · rw [if_pos e, e]
            · rw [if_neg e]; exact k3 a (by omega))
      simp only [u76_0, u76_1, u76_4, u76_5, u76_6, u76_7, u76_8, u76_10, u76_12, u76_15, u76_16, u76_17, u76_18, u76_19, u76_22, u76_25, u76_26, u76_27, u76_28, u76_29, u76_30, u76_31, u76_34, u76_35, u76_37, u76_38, u76_39, u76_40, u76_43, u76_44, u76_47, u76_48, u76_49, u76_52, u76_53, u76_54, u76_55, u76_58, u76_61, u76_64, u76_67, zk_mk_1, zk_mk_I, zk_mk_R, zk_mk_set, zk_mk_setR, zk_mk_cpy, zk_rv_some, zk_rv_none, Option.toList_some, Option.toList_none, List.cons_append, List.nil_append, reduceIte, eq_self, Nat.reduceLT, Nat.reduceEqDiff, and_true, true_and, reduceCtorEq]
      exact inner 0 I2 (Nat.zero_le _) ⟨fun j j1 j2 => by rw [g1 j j2, h1 j j1 j2], g3, fun a ha => absurd ha (Nat.not_lt_zero _)⟩)
  simp only [u76_0, u76_1, u76_4, u76_5, u76_6, u76_7, u76_8, u76_10, u76_12, u76_15, u76_16, u76_17, u76_18, u76_19, u76_22, u76_25, u76_26, u76_27, u76_28, u76_29, u76_30, u76_31, u76_34, u76_35, u76_37, u76_38, u76_39, u76_40, u76_43, u76_44, u76_47, u76_48, u76_49, u76_52, u76_53, u76_54, u76_55, u76_58, u76_61, u76_64, u76_67, zk_mk_1, zk_mk_I, zk_mk_R, zk_mk_set, zk_mk_setR, zk_mk_cpy, zk_rv_some, zk_rv_none, Option.toList_some, Option.toList_none, List.cons_append, List.nil_append, reduceIte, eq_self, Nat.reduceLT, Nat.reduceEqDiff, and_true, true_and, reduceCtorEq, zsh_15, zsh_20, zrf_15_5, show zk_inb (0 : Int32) 1024 = true from by decide, show (0 : Int32).toNatClampNeg = 0 from by decide]
  refine loop 0 (_, none, none) (Nat.zero_le _) ⟨fun j j1 j2 => ?_, fun _ => 0, ⟨fun a ha => ?_, fun a b hab hb => ?_, fun p => ?_⟩, fun a ha => ?_⟩
  · show zk_up2 I 20 0 0 j = I j
    rw [zk_up2_r j1]
  · exact Nat.two_pow_pos 0
  · simp at hb; omega
  · show zct (fun _ => p 0) 1 = zct p 1
    rfl
  · simp at ha
    subst ha
    show zk_up2 I 20 0 0 20 0 = nI 0
    rw [zk_up2_s]; rfl
/-- a lesser heap has the same sum -/
def zles (f : Nat → Int32) (n h : Nat) : Bool := decide (∃ o, o < h ∧ zsum f o n = zsum f h n)
def zmany (f : Nat → Int32) (n : Nat) : Nat := zct (fun h => !zles f n h) (2 ^ n)
theorem zles_O {f : Nat → Int32} {n : Nat} {O : Nat → Nat} (hO : zord (zsv f n) O n) {i : Nat} (hi : i + 1 < 2 ^ n) : zles f n (O (i + 1)) = decide (zsum f (O (i + 1)) n = zsum f (O i) n) := by
  obtain ⟨o1, o2, o3⟩ := hO
  unfold zles
  have hx := o2 i (i + 1) (by omega) hi
  apply decide_eq_decide.mpr
  constructor
  · rintro ⟨o, ho, eo⟩
    have hol : o < 2 ^ n := Nat.lt_trans ho (o1 _ hi)
    obtain ⟨j, hj, ej⟩ : ∃ j, j < 2 ^ n ∧ (decide (O j = o)) = true := by
      refine zct_ex (p := fun j => decide (O j = o)) ?_
      rw [o3 (fun x => decide (x = o))]
      exact zct_pos hol (decide_eq_true rfl)
    have ej := of_decide_eq_true ej
    subst ej
    have hji : j ≤ i := by
      refine Classical.byContradiction (fun q => ?_)
      by_cases e : j = i + 1
      · rw [e] at ho; omega
      · have := o2 (i + 1) j (by omega) hj
        unfold zlx zsv at this
        rw [eo] at this
        omega
    have h2 : zsv f n (O j) ≤ zsv f n (O i) := by
      by_cases e : j = i
      · rw [e]; omega
      · have := o2 j i (by omega) (by omega)
        unfold zlx at this
        omega
    apply Int32.toInt.inj
    have e3 : zsv f n (O j) = zsv f n (O (i + 1)) := by unfold zsv; rw [eo]
    show zsv f n (O (i + 1)) = zsv f n (O i)
    unfold zlx at hx
    omega
  · intro h
    refine ⟨O i, ?_, h.symm⟩
    unfold zlx zsv at hx
    rw [h] at hx
    omega
theorem s75 {sc : zk_X} {d : Nat} {I : Nat → Nat → Int32} {tg : Option Nat} {P : Option Value → zk_M → Prop} {n : Nat} {f : Nat → Int32} (h10 : n ≤ 10) (hall : I 15 3 = nI (2 ^ n - 1)) (hs : ∀ h, h < 2 ^ n → I 18 h = zsum f h n) (hb : zbd f n)
    (K : ∀ I' : Nat → Nat → Int32, (∀ j, j ≠ 20 → j ≠ 21 → I' j = I j) → P (some (.int (nI (zmany f n)))) (zk_mk I' tg)) : zk_R sc (d + 2) 75 0 [some (.ref (15 : Nat)), none, none] [] (zk_mk I tg) P := by
  have p10 := zp_10 h10
  simp only [u75_0, u75_1, u75_4, u75_5, u75_6, u75_7, u75_9, u75_10, u75_13, u75_16, u75_17, u75_20, u75_21, u75_24, u75_25, u75_26, u75_27, u75_28, u75_31, u75_32, u75_35, u75_36, u75_37, u75_38, u75_39, u75_40, u75_43, u75_46, u75_49, u75_52, u75_53, zk_mk_1, zk_mk_I, zk_mk_R, zk_mk_set, zk_mk_setR, zk_mk_cpy, zk_rv_some, zk_rv_none, Option.toList_some, Option.toList_none, List.cons_append, List.nil_append, reduceIte, eq_self, Nat.reduceLT, Nat.reduceEqDiff, and_true, true_and, reduceCtorEq, zsh_15]
  refine s76 h10 hall hs hb (fun I' h1 hO => ?_)
  obtain ⟨O, hO, h2⟩ := hO
  have K2 := K I' h1
  have e15 : I' 15 = I 15 := h1 15 (by decide) (by decide)
  have e18 : I' 18 = I 18 := h1 18 (by decide) (by decide)
  have hO2 := hO
  obtain ⟨o1, o2, o3⟩ := hO2
  unfold zmany at K2
  rw [← o3 (fun h => !zles f n h)] at K2
  have c1 : zct (fun i => !zles f n (O i)) 1 = 1 := by
    have e0 : zles f n (O 0) = false := by
      unfold zles
      apply decide_eq_false
      rintro ⟨o, ho, eo⟩
      have hol : o < 2 ^ n := Nat.lt_trans ho (o1 _ (by omega))
      obtain ⟨j, hj, ej⟩ : ∃ j, j < 2 ^ n ∧ (decide (O j = o)) = true := by
        refine zct_ex (p := fun j => decide (O j = o)) ?_
        rw [o3 (fun x => decide (x = o))]
        exact zct_pos hol (decide_eq_true rfl)
      have ej := of_decide_eq_true ej
      subst ej
      have hj0 : ¬ j = 0 := fun q => by rw [q] at ho; omega
      have := o2 0 j (by omega) hj
      unfold zlx zsv at this
      rw [eo] at this
      omega
    rw [zct, zct]
    rw [e0]; rfl
  have loop := zl_up (τ := Unit) (fun i _ => zk_R sc (d + 2) 75 8 [some (.ref (15 : Nat)), some (.int (nI (zct (fun i => !zles f n (O i)) i))), some (.int (nI i))] [] (zk_mk I' tg) P)
    (fun i _ => 1 ≤ i) (2 ^ n) (by
      intro _ _
      have hcond : nI (2 ^ n - 1) < nI (2 ^ n) := by rw [zn_lt (by omega) (by omega)]; omega
      have hcond2 : ¬ nI (2 ^ n) ≤ nI (2 ^ n - 1) := Int32.not_le.mpr hcond
      rw [u75_8]
      simp only [u75_0, u75_1, u75_4, u75_5, u75_6, u75_7, u75_9, u75_10, u75_13, u75_16, u75_17, u75_20, u75_21, u75_24, u75_25, u75_26, u75_27, u75_28, u75_31, u75_32, u75_35, u75_36, u75_37, u75_38, u75_39, u75_40, u75_43, u75_46, u75_49, u75_52, u75_53, zk_mk_1, zk_mk_I, zk_mk_R, zk_mk_set, zk_mk_setR, zk_mk_cpy, zk_rv_some, zk_rv_none, Option.toList_some, Option.toList_none, List.cons_append, List.nil_append, reduceIte, eq_self, Nat.reduceLT, Nat.reduceEqDiff, and_true, true_and, reduceCtorEq, zsh_15, e15, hall, hcond, hcond2]
      exact K2) (by
      intro i _ hi h0 ih
      obtain ⟨j, rfl⟩ : ∃ j, i = j + 1 := ⟨i - 1, by omega⟩
      have hcond : ¬ nI (2 ^ n - 1) < nI (j + 1) := by rw [zn_lt (by omega) (by omega)]; omega
      have hcond2 : nI (j + 1) ≤ nI (2 ^ n - 1) := Int32.not_lt.mp hcond
      have e1 : nI (j + 1) - 1 = nI j := zn_sub (b := 1) (by omega)
      have a1 := o1 (j + 1) hi
      have a2 := o1 j (by omega)
      have z1 : zk_inb (nI (j + 1)) 1024 = true := by rw [zn_in (by omega)]; omega
      have z2 : (nI (j + 1)).toNatClampNeg = j + 1 := zn_cl (by omega)
      have z3 : zk_inb (nI j) 1024 = true := by rw [zn_in (by omega)]; omega
      have z4 : (nI j).toNatClampNeg = j := zn_cl (by omega)
      have z5 : zk_inb (nI (O (j + 1))) 1024 = true := by rw [zn_in (by omega)]; omega
      have z6 : (nI (O (j + 1))).toNatClampNeg = O (j + 1) := zn_cl (by omega)
      have z7 : zk_inb (nI (O j)) 1024 = true := by rw [zn_in (by omega)]; omega
      have z8 : (nI (O j)).toNatClampNeg = O j := zn_cl (by omega)
      have ih2 := ih () (by omega)
      rw [zct, zles_O hO hi] at ih2
      rw [u75_8]
      simp only [u75_0, u75_1, u75_4, u75_5, u75_6, u75_7, u75_9, u75_10, u75_13, u75_16, u75_17, u75_20, u75_21, u75_24, u75_25, u75_26, u75_27, u75_28, u75_31, u75_32, u75_35, u75_36, u75_37, u75_38, u75_39, u75_40, u75_43, u75_46, u75_49, u75_52, u75_53, zk_mk_1, zk_mk_I, zk_mk_R, zk_mk_set, zk_mk_setR, zk_mk_cpy, zk_rv_some, zk_rv_none, Option.toList_some, Option.toList_none, List.cons_append, List.nil_append, reduceIte, eq_self, Nat.reduceLT, Nat.reduceEqDiff, and_true, true_and, reduceCtorEq, zsh_15, zsh_18, zsh_20, zrf_15_2, zrf_15_5, e15, e18, hall, hcond, hcond2, e1, z1, z2, z3, z4, h2 (j + 1) hi, h2 j (by omega), z5, z6, z7, z8, hs _ a1, hs _ a2, nI_1]
      by_cases hc : zsum f (O (j + 1)) n = zsum f (O j) n
      · rw [if_pos hc]
        rw [decide_eq_true hc, if_neg (by decide)] at ih2
        exact ih2
      · rw [if_neg hc]
        rw [decide_eq_false hc, if_pos (by decide)] at ih2
        exact ih2)
  simp only [u75_0, u75_1, u75_4, u75_5, u75_6, u75_7, u75_9, u75_10, u75_13, u75_16, u75_17, u75_20, u75_21, u75_24, u75_25, u75_26, u75_27, u75_28, u75_31, u75_32, u75_35, u75_36, u75_37, u75_38, u75_39, u75_40, u75_43, u75_46, u75_49, u75_52, u75_53, zk_mk_1, zk_mk_I, zk_mk_R, zk_mk_set, zk_mk_setR, zk_mk_cpy, zk_rv_some, zk_rv_none, Option.toList_some, Option.toList_none, List.cons_append, List.nil_append, reduceIte, eq_self, Nat.reduceLT, Nat.reduceEqDiff, and_true, true_and, reduceCtorEq]
  have l1 := loop 1 () p10.1 (Nat.le_refl _)
  rw [c1] at l1
  exact l1
