/-! thirds by both -/
def zmx (x y : Int32) : Int32 := if x < y then y else x
def zmn (x y : Int32) : Int32 := if y < x then y else x
def zfar3 (a b c : Int32) : Int32 := zmx a (zmx b c) - zmn a (zmn b c)
theorem s73 {sc : zk_X} {d : Nat} {M : zk_M} {P : Option Value → zk_M → Prop} {a b c : Int32} : zk_R sc d 73 0 [some (.int a), some (.int b), some (.int c)] [] M P = P (some (.int (zfar3 a b c))) M := by
  simp only [u73_0, u73_1, u73_2, u73_3, u73_6, u73_9, u73_10, u73_11, u73_12, u73_15, u73_18, u73_19]
  rfl
theorem s174 {sc : zk_X} {d : Nat} {M : zk_M} {P : Option Value → zk_M → Prop} {a b c : Int32} : zk_R sc d 174 0 [some (.ref (60 : Nat)), some (.int a), some (.int b), some (.int c), none, none] [] M P = P (some (.int (zfar3 a b c))) M := by
  have e1 : ∀ x y : Int32, zmx x y = if x ≤ y then y else x := by
    intro x y
    unfold zmx
    simp only [Int32.lt_iff_toInt_lt, Int32.le_iff_toInt_le]
    (repeat' split) <;> first | rfl | (exfalso; omega) | (apply Int32.toInt.inj; omega)
  have e2 : ∀ x y : Int32, zmn x y = if y ≤ x then y else x := by
    intro x y
    unfold zmn
    simp only [Int32.lt_iff_toInt_lt, Int32.le_iff_toInt_le]
    (repeat' split) <;> first | rfl | (exfalso; omega) | (apply Int32.toInt.inj; omega)
  have e3 : zmx c (zmx a b) = zmx a (zmx b c) := by
    unfold zmx
    simp only [Int32.lt_iff_toInt_lt]
    (repeat' split) <;> first | rfl | (exfalso; omega) | (apply Int32.toInt.inj; omega)
  have e4 : zmn c (zmn a b) = zmn a (zmn b c) := by
    unfold zmn
    simp only [Int32.lt_iff_toInt_lt]
    (repeat' split) <;> first | rfl | (exfalso; omega) | (apply Int32.toInt.inj; omega)
  unfold zfar3
  rw [← e3, ← e4]
  simp only [u174_0, u174_1, u174_2, u174_5, u174_6, u174_9, u174_10, u174_12, u174_13, u174_14, u174_17, u174_18, u174_21, u174_22, u174_24, u174_25, u174_27, u174_30, u174_31, u174_34, u174_36, u174_37, u174_39, u174_42, u174_43, u174_46, u174_48, u174_49, e1, e2]
  (repeat' split) <;> rfl
theorem zfar3_ne {a b c : Int32} (ha : -20070 ≤ a.toInt ∧ a.toInt ≤ 20070) (hb : -20070 ≤ b.toInt ∧ b.toInt ≤ 20070) (hc : -20070 ≤ c.toInt ∧ c.toInt ≤ 20070) : ¬ zfar3 a b c = -1 := by
  have h1 : ∀ x y : Int32, (zmx x y).toInt = max x.toInt y.toInt := by
    intro x y
    unfold zmx
    simp only [Int32.lt_iff_toInt_lt]
    split <;> omega
  have h2 : ∀ x y : Int32, (zmn x y).toInt = min x.toInt y.toInt := by
    intro x y
    unfold zmn
    simp only [Int32.lt_iff_toInt_lt]
    split <;> omega
  intro h
  have := congrArg Int32.toInt h
  unfold zfar3 at this
  rw [zi_sub (by rw [h1, h1]; omega) (by rw [h1, h1]; omega) (by rw [h2, h2]; omega) (by rw [h2, h2]; omega), h1, h1, h2, h2, show (-1 : Int32).toInt = -1 from by decide] at this
  omega
abbrev zH3 : Type := Option (Nat × Nat × Int32)
def zhv (f : Nat → Int32) (n a b : Nat) : Int32 := zfar3 (zsum f a n) (zsum f b n) (zsum f (zdf (zdf (2 ^ n - 1) a) b) n)
def zhu (v : Int32) (a b : Nat) (s : zH3) : zH3 := match s with
  | none => some (a, b, v)
  | some q => if v < q.2.2 then some (a, b, v) else some q
def zhi (f : Nat → Int32) (n a b : Nat) (s : zH3) : zH3 := if zdf b (zdf (2 ^ n - 1) a) = 0 then zhu (zhv f n a b) a b s else s
def zho (f : Nat → Int32) (n a : Nat) (s : zH3) : zH3 := zfor (zhi f n a) s (2 ^ n)
def zth (f : Nat → Int32) (n m : Nat) : zH3 := zfor (zho f n) (none : zH3) m
theorem zhi_y {f : Nat → Int32} {n a b : Nat} {s : zH3} (h : zdf b (zdf (2 ^ n - 1) a) = 0) : zhi f n a b s = zhu (zhv f n a b) a b s := if_pos h
theorem zhi_n {f : Nat → Int32} {n a b : Nat} {s : zH3} (h : ¬ zdf b (zdf (2 ^ n - 1) a) = 0) : zhi f n a b s = s := if_neg h
def zho_some (s : zH3) : Prop := ∃ q : Nat × Nat × Int32, s = some q
theorem zhu_some (v : Int32) (a b : Nat) (s : zH3) : zho_some (zhu v a b s) := by
  cases s with
  | none => exact ⟨_, rfl⟩
  | some q =>
    show zho_some (if v < q.2.2 then some (a, b, v) else some q)
    by_cases h : v < q.2.2
    · rw [if_pos h]; exact ⟨_, rfl⟩
    · rw [if_neg h]; exact ⟨_, rfl⟩
theorem zfor_inv {σ : Type} {step : Nat → σ → σ} {s0 : σ} (Q : σ → Prop) (h0 : Q s0) (h : ∀ x s, Q s → Q (step x s)) : ∀ m, Q (zfor step s0 m)
  | 0 => h0
  | m + 1 => h m _ (zfor_inv Q h0 h m)
theorem zhi_some {f : Nat → Int32} {n a b : Nat} {s : zH3} (h : zho_some s) : zho_some (zhi f n a b s) := by
  by_cases hc : zdf b (zdf (2 ^ n - 1) a) = 0
  · rw [zhi_y hc]; exact zhu_some _ _ _ _
  · rw [zhi_n hc]; exact h
theorem zho_s {f : Nat → Int32} {n a : Nat} {s : zH3} (h : zho_some s) : zho_some (zho f n a s) := zfor_inv zho_some h (fun _ _ q => zhi_some q) _
theorem zth_some (f : Nat → Int32) (n : Nat) : zho_some (zth f n (2 ^ n)) := by
  obtain ⟨k, hk⟩ : ∃ k, 2 ^ n = k + 1 := ⟨2 ^ n - 1, by have := Nat.one_le_two_pow (n := n); omega⟩
  have h1 : zho_some (zho f n 0 (none : zH3)) := by
    have key : ∀ j, zho_some (zfor (zhi f n 0) (none : zH3) (j + 1)) := by
      intro j
      induction j with
      | zero =>
        show zho_some (zhi f n 0 0 none)
        rw [zhi_y (zle_0 _)]
        exact zhu_some _ _ _ _
      | succ j ih => exact zhi_some ih
    unfold zho
    rw [hk]
    exact key k
  have key2 : ∀ j, zho_some (zth f n (j + 1)) := by
    intro j
    induction j with
    | zero => exact h1
    | succ j ih => exact zho_s ih
  rw [hk]
  exact key2 k
/-- the memory tells the state -/
def zhm (I : Nat → Nat → Int32) (s : zH3) : Prop := match s with
  | none => I 27 2 = -1
  | some q => I 27 0 = nI q.1 ∧ I 27 1 = nI q.2.1 ∧ I 27 2 = q.2.2 ∧ ¬ q.2.2 = -1
theorem s72 {sc : zk_X} {d : Nat} {I : Nat → Nat → Int32} {tg : Option Nat} {P : Option Value → zk_M → Prop} {n : Nat} {f : Nat → Int32} (h10 : n ≤ 10) (hall : I 15 3 = nI (2 ^ n - 1)) (hs : ∀ h, h < 2 ^ n → I 18 h = zsum f h n) (hbd : zbd f n)
    (K : ∀ I' : Nat → Nat → Int32, (∀ j, j ≠ 27 → I' j = I j) → zhm I' (zth f n (2 ^ n)) → P none (zk_mk I' tg)) : zk_R sc (d + 1) 72 0 [some (.ref (15 : Nat)), some (.ref (27 : Nat)), none, none, none, none, none] [] (zk_mk I tg) P := by
  have p10 := zp_10 h10
  obtain ⟨b0, b1, b2, b3⟩ := zi_lit4
  obtain ⟨c0, c1, c2, c3⟩ := zi_cl4
  have hne : ∀ a b, ¬ zhv f n a b = -1 := fun a b => zfar3_ne (zsum_bd hbd h10) (zsum_bd hbd h10) (zsum_bd hbd h10)
  have loop := zl_up (τ := (Nat → Nat → Int32) × Option Value × Option Value × Option Value × Option Value) (fun i q => zk_R sc (d + 1) 72 6 [some (.ref (15 : Nat)), some (.ref (27 : Nat)), some (.int (nI i)), q.2.1, q.2.2.1, q.2.2.2.1, q.2.2.2.2] [] (zk_mk q.1 tg) P)
    (fun i q => (∀ j, j ≠ 27 → q.1 j = I j) ∧ zhm q.1 (zth f n i)) (2 ^ n) (by
      rintro ⟨I', x, y, z, w⟩ ⟨h1, h2⟩
      have e15 : I' 15 = I 15 := h1 15 (by decide)
      show zk_R sc (d + 1) 72 6 [some (.ref (15 : Nat)), some (.ref (27 : Nat)), some (.int (nI (2 ^ n))), x, y, z, w] [] (zk_mk I' tg) P
      have hcond : nI (2 ^ n - 1) < nI (2 ^ n) := by rw [zn_lt (by omega) (by omega)]; omega
      have hcond2 : ¬ nI (2 ^ n) ≤ nI (2 ^ n - 1) := Int32.not_le.mpr hcond
      rw [u72_6]
      simp only [u72_0, u72_1, u72_2, u72_3, u72_4, u72_5, u72_7, u72_8, u72_11, u72_14, u72_15, u72_18, u72_19, u72_20, u72_21, u72_22, u72_23, u72_24, u72_26, u72_27, u72_31, u72_34, u72_37, u72_38, u72_41, u72_42, u72_43, u72_44, u72_47, u72_49, u72_50, u72_51, u72_54, u72_55, u72_57, u72_58, u72_59, u72_60, u72_61, u72_64, u72_66, u72_67, u72_68, u72_69, u72_70, u72_73, u72_75, u72_76, u72_77, u72_78, u72_81, u72_82, u72_83, u72_84, u72_85, u72_86, u72_87, u72_89, u72_90, u72_91, u72_92, u72_94, u72_95, u72_97, u72_98, u72_101, u72_103, u72_105, u72_108, u72_111, u72_114, u72_117, u72_120, u72_123, zk_mk_1, zk_mk_I, zk_mk_R, zk_mk_set, zk_mk_setR, zk_mk_cpy, zk_rv_some, zk_rv_none, Option.toList_some, Option.toList_none, List.cons_append, List.nil_append, reduceIte, eq_self, Nat.reduceLT, Nat.reduceEqDiff, and_true, true_and, reduceCtorEq, zsh_15, e15, hall, hcond, hcond2]
      exact K I' h1 h2) (by
      rintro a ⟨I', x, y, z, w⟩ ha ⟨h1, h2⟩ ih
      have e15 : I' 15 = I 15 := h1 15 (by decide)
      have hS : zdf (2 ^ n - 1) a < 2 ^ n := zdf_lt (by omega)
      have hS2 : zdf (2 ^ n - 1) a < 1024 := by omega
      have hcond : ¬ nI (2 ^ n - 1) < nI a := by rw [zn_lt (by omega) (by omega)]; omega
      have hcond2 : nI a ≤ nI (2 ^ n - 1) := Int32.not_lt.mp hcond
      show zk_R sc (d + 1) 72 6 [some (.ref (15 : Nat)), some (.ref (27 : Nat)), some (.int (nI a)), x, y, z, w] [] (zk_mk I' tg) P
      rw [u72_6]
      simp only [u72_0, u72_1, u72_2, u72_3, u72_4, u72_5, u72_7, u72_8, u72_11, u72_14, u72_15, u72_18, u72_19, u72_20, u72_21, u72_22, u72_23, u72_24, u72_26, u72_27, u72_31, u72_34, u72_37, u72_38, u72_41, u72_42, u72_43, u72_44, u72_47, u72_49, u72_50, u72_51, u72_54, u72_55, u72_57, u72_58, u72_59, u72_60, u72_61, u72_64, u72_66, u72_67, u72_68, u72_69, u72_70, u72_73, u72_75, u72_76, u72_77, u72_78, u72_81, u72_82, u72_83, u72_84, u72_85, u72_86, u72_87, u72_89, u72_90, u72_91, u72_92, u72_94, u72_95, u72_97, u72_98, u72_101, u72_103, u72_105, u72_108, u72_111, u72_114, u72_117, u72_120, u72_123, zk_mk_1, zk_mk_I, zk_mk_R, zk_mk_set, zk_mk_setR, zk_mk_cpy, zk_rv_some, zk_rv_none, Option.toList_some, Option.toList_none, List.cons_append, List.nil_append, reduceIte, eq_self, Nat.reduceLT, Nat.reduceEqDiff, and_true, true_and, reduceCtorEq, zsh_15, e15, hall, hcond, hcond2, zq_andn]
      refine zl_sub0 hS2 hS (zhi f n a) (fun x s hx => zhi_n hx) (fun i r s => ∀ (I2 : Nat → Nat → Int32) (w : Option Value), (∀ j, j ≠ 27 → I2 j = I j) → zhm I2 s → zk_R sc (d + 1) 72 29 [some (.ref (15 : Nat)), some (.ref (27 : Nat)), some (.int (nI a)), some (.int (nI (zdf (2 ^ n - 1) a))), some (.int (nI r)), some (.int (nI i)), w] [] (zk_mk I2 tg) P)
        (fun s => ∀ (I2 : Nat → Nat → Int32) (r i : Nat) (w : Option Value), (∀ j, j ≠ 27 → I2 j = I j) → zhm I2 s → zk_R sc (d + 1) 72 117 [some (.ref (15 : Nat)), some (.ref (27 : Nat)), some (.int (nI a)), some (.int (nI (zdf (2 ^ n - 1) a))), some (.int (nI r)), some (.int (nI i)), w] [] (zk_mk I2 tg) P) ?_ (fun i r s hsr hi hrS hr hX hW => ?_) I' w h1 h2
      · intro I2 r i w g1 g2
        simp only [u72_0, u72_1, u72_2, u72_3, u72_4, u72_5, u72_7, u72_8, u72_11, u72_14, u72_15, u72_18, u72_19, u72_20, u72_21, u72_22, u72_23, u72_24, u72_26, u72_27, u72_31, u72_34, u72_37, u72_38, u72_41, u72_42, u72_43, u72_44, u72_47, u72_49, u72_50, u72_51, u72_54, u72_55, u72_57, u72_58, u72_59, u72_60, u72_61, u72_64, u72_66, u72_67, u72_68, u72_69, u72_70, u72_73, u72_75, u72_76, u72_77, u72_78, u72_81, u72_82, u72_83, u72_84, u72_85, u72_86, u72_87, u72_89, u72_90, u72_91, u72_92, u72_94, u72_95, u72_97, u72_98, u72_101, u72_103, u72_105, u72_108, u72_111, u72_114, u72_117, u72_120, u72_123, zk_mk_1, zk_mk_I, zk_mk_R, zk_mk_set, zk_mk_setR, zk_mk_cpy, zk_rv_some, zk_rv_none, Option.toList_some, Option.toList_none, List.cons_append, List.nil_append, reduceIte, eq_self, Nat.reduceLT, Nat.reduceEqDiff, and_true, true_and, reduceCtorEq, nI_1]
        exact ih (I2, _, _, _, _) ⟨g1, g2⟩
      · intro I2 w g1 g2
        have e15 : I2 15 = I 15 := g1 15 (by decide)
        have e18 : I2 18 = I 18 := g1 18 (by decide)
        have hr2 : r < 2 ^ n := by omega
        have hd2 : zdf (zdf (2 ^ n - 1) a) r < 2 ^ n := zdf_lt hS
        have z1 : zk_inb (nI a) 1024 = true := by rw [zn_in (by omega)]; omega
        have z2 : (nI a).toNatClampNeg = a := zn_cl (by omega)
        have z3 : zk_inb (nI r) 1024 = true := by rw [zn_in (by omega)]; omega
        have z4 : (nI r).toNatClampNeg = r := zn_cl (by omega)
        have z5 : zk_inb (nI (zdf (zdf (2 ^ n - 1) a) r)) 1024 = true := by rw [zn_in (by omega)]; omega
        have z6 : (nI (zdf (zdf (2 ^ n - 1) a) r)).toNatClampNeg = zdf (zdf (2 ^ n - 1) a) r := zn_cl (by omega)
        have hx1 : znx 10 (zdf (2 ^ n - 1) a) r < 2147483648 := by
          by_cases e : r = zdf (2 ^ n - 1) a
          · rw [e, znx_self]; decide
          · obtain ⟨-, n2, -⟩ := znx_next (f := 10) (show zdf (2 ^ n - 1) a < 2 ^ 10 by omega) hr e
            have := zle_le n2
            omega
        have yx : (nI (znx 10 (zdf (2 ^ n - 1) a) r) = 0) = (znx 10 (zdf (2 ^ n - 1) a) r = 0) := zn_eq (b := 0) hx1 (by decide)
        -- what comes after the body
        have after : ∀ (I3 : Nat → Nat → Int32), (∀ j, j ≠ 27 → I3 j = I j) → zhm I3 (zhi f n a r s) → zk_R sc (d + 1) 72 95 [some (.ref (15 : Nat)), some (.ref (27 : Nat)), some (.int (nI a)), some (.int (nI (zdf (2 ^ n - 1) a))), some (.int (nI r)), some (.int (nI i)), some (.int (zhv f n a r))] [] (zk_mk I3 tg) P := by
          intro I3 k1 k2
          simp only [u72_0, u72_1, u72_2, u72_3, u72_4, u72_5, u72_7, u72_8, u72_11, u72_14, u72_15, u72_18, u72_19, u72_20, u72_21, u72_22, u72_23, u72_24, u72_26, u72_27, u72_31, u72_34, u72_37, u72_38, u72_41, u72_42, u72_43, u72_44, u72_47, u72_49, u72_50, u72_51, u72_54, u72_55, u72_57, u72_58, u72_59, u72_60, u72_61, u72_64, u72_66, u72_67, u72_68, u72_69, u72_70, u72_73, u72_75, u72_76, u72_77, u72_78, u72_81, u72_82, u72_83, u72_84, u72_85, u72_86, u72_87, u72_89, u72_90, u72_91, u72_92, u72_94, u72_95, u72_97, u72_98, u72_101, u72_103, u72_105, u72_108, u72_111, u72_114, u72_120, u72_123, zk_mk_1, zk_mk_I, zk_mk_R, zk_mk_set, zk_mk_setR, zk_mk_cpy, zk_rv_some, zk_rv_none, Option.toList_some, Option.toList_none, List.cons_append, List.nil_append, reduceIte, eq_self, Nat.reduceLT, Nat.reduceEqDiff, and_true, true_and, reduceCtorEq, s66, zq_next hS2 hr, yx, nI_1]
          by_cases hz : znx 10 (zdf (2 ^ n - 1) a) r = 0
          · rw [if_pos hz]
            exact hX hz I3 _ _ _ k1 k2
          · rw [if_neg hz]
            exact hW hz I3 _ k1 k2
        rw [zhi_y hr] at after
        rw [u72_29]
        simp only [u72_0, u72_1, u72_2, u72_3, u72_4, u72_5, u72_7, u72_8, u72_11, u72_14, u72_15, u72_18, u72_19, u72_20, u72_21, u72_22, u72_23, u72_24, u72_26, u72_27, u72_31, u72_34, u72_37, u72_38, u72_41, u72_42, u72_43, u72_44, u72_47, u72_49, u72_50, u72_51, u72_54, u72_55, u72_57, u72_58, u72_59, u72_60, u72_61, u72_64, u72_66, u72_67, u72_68, u72_69, u72_70, u72_73, u72_75, u72_76, u72_77, u72_78, u72_81, u72_82, u72_83, u72_84, u72_85, u72_86, u72_87, u72_89, u72_90, u72_91, u72_92, u72_94, u72_97, u72_98, u72_101, u72_103, u72_105, u72_108, u72_111, u72_114, u72_117, u72_120, u72_123, zk_mk_1, zk_mk_I, zk_mk_R, zk_mk_set, zk_mk_setR, zk_mk_cpy, zk_rv_some, zk_rv_none, Option.toList_some, Option.toList_none, List.cons_append, List.nil_append, reduceIte, eq_self, Nat.reduceLT, Nat.reduceEqDiff, and_true, true_and, reduceCtorEq, zsh_15, zsh_18, zsh_27, zrf_15_2, e18, z1, z2, z3, z4, hs a ha, hs r hr2, zq_andn, z5, z6, hs _ hd2, s73, b0, b1, b2, c0, c1, c2]
        rw [if_neg (show ¬ (1024 : Int32) ≤ nI i from nI_ge (b := 1024) (by omega) (by decide))]
        have ev : zfar3 (zsum f a n) (zsum f r n) (zsum f (zdf (zdf (2 ^ n - 1) a) r) n) = zhv f n a r := rfl
        simp only [ev]
        have upd : zk_R sc (d + 1) 72 95 [some (.ref (15 : Nat)), some (.ref (27 : Nat)), some (.int (nI a)), some (.int (nI (zdf (2 ^ n - 1) a))), some (.int (nI r)), some (.int (nI i)), some (.int (zhv f n a r))] [] (zk_mk (zk_up2 (zk_up2 (zk_up2 I2 27 0 (nI a)) 27 1 (nI r)) 27 2 (zhv f n a r)) tg) P ∨ ¬ zhu (zhv f n a r) a r s = some (a, r, zhv f n a r) := by
          by_cases hu : zhu (zhv f n a r) a r s = some (a, r, zhv f n a r)
          · refine Or.inl (after _ (fun j hj => ?_) ?_)
            · rw [zk_up2_r hj, zk_up2_r hj, zk_up2_r hj]; exact g1 j hj
            · rw [hu]
              refine ⟨?_, ?_, ?_, hne a r⟩
              · rw [zk_up2_j (by decide), zk_up2_j (by decide), zk_up2_s]
              · rw [zk_up2_j (by decide), zk_up2_s]
              · rw [zk_up2_s]
          · exact Or.inr hu
        cases s with
        | none =>
          have g2' : I2 27 2 = -1 := g2
          rw [if_pos g2']
          exact upd.elim id (fun q => absurd rfl q)
        | some q =>
          obtain ⟨q1, q2, q3, q4⟩ : I2 27 0 = nI q.1 ∧ I2 27 1 = nI q.2.1 ∧ I2 27 2 = q.2.2 ∧ ¬ q.2.2 = -1 := g2
          rw [q3, if_neg q4]
          by_cases hv : zhv f n a r < q.2.2
          · first | rw [if_pos hv] | rw [if_neg (Int32.not_le.mpr hv)]
            exact upd.elim id (fun w => absurd (if_pos hv) w)
          · first | rw [if_neg hv] | rw [if_pos (Int32.not_lt.mp hv)]
            refine after I2 g1 ?_
            rw [show zhu (zhv f n a r) a r (some q) = some q from if_neg hv]
            exact ⟨q1, q2, q3, q4⟩)
  simp only [u72_0, u72_1, u72_2, u72_3, u72_4, u72_5, u72_7, u72_8, u72_11, u72_14, u72_15, u72_18, u72_19, u72_20, u72_21, u72_22, u72_23, u72_24, u72_26, u72_27, u72_31, u72_34, u72_37, u72_38, u72_41, u72_42, u72_43, u72_44, u72_47, u72_49, u72_50, u72_51, u72_54, u72_55, u72_57, u72_58, u72_59, u72_60, u72_61, u72_64, u72_66, u72_67, u72_68, u72_69, u72_70, u72_73, u72_75, u72_76, u72_77, u72_78, u72_81, u72_82, u72_83, u72_84, u72_85, u72_86, u72_87, u72_89, u72_90, u72_91, u72_92, u72_94, u72_95, u72_97, u72_98, u72_101, u72_103, u72_105, u72_108, u72_111, u72_114, u72_117, u72_120, u72_123, zk_mk_1, zk_mk_I, zk_mk_R, zk_mk_set, zk_mk_setR, zk_mk_cpy, zk_rv_some, zk_rv_none, Option.toList_some, Option.toList_none, List.cons_append, List.nil_append, reduceIte, eq_self, Nat.reduceLT, Nat.reduceEqDiff, and_true, true_and, reduceCtorEq, zsh_27, b2, c2]
  refine loop 0 (_, none, none, none, none) (Nat.zero_le _) ⟨fun j hj => ?_, ?_⟩
  · show zk_up2 I 27 2 (-1) j = I j
    rw [zk_up2_r hj]
  · show zk_up2 I 27 2 (-1) 27 2 = -1
    rw [zk_up2_s]
def zA_h3 (s : zH3) (what : Int32) : Int32 := match s with
  | none => 0
  | some q => if what = 0 then nI q.1 else if what = 1 then nI q.2.1 else q.2.2
def zA_thirds (I : Nat → Nat → Int32) (n : Nat) (T e : Nat → Nat) (what : Int32) : Int32 := if 0 ≤ what ∧ what ≤ 2 then zA_h3 (zth (zv_now I n T e) n (2 ^ n)) what else -2
theorem s24 {sc : zk_X} {d : Nat} {I : Nat → Nat → Int32} {tg : Option Nat} {P : Option Value → zk_M → Prop} {n t : Nat} {T e : Nat → Nat} {what : Int32} (hq : zj_q I n t T e)
    (K : ∀ I' : Nat → Nat → Int32, zF I I' → P (some (.int (zA_thirds I n T e what))) (zk_mk I' tg)) : zk_R sc (d + 6) 24 0 [some (.ref (0 : Nat)), some (.int what)] [] (zk_mk I tg) P := by
  obtain ⟨hj, hl, hr, ht, hx⟩ := hq
  obtain ⟨b0, b1, b2, b3⟩ := zi_lit4
  obtain ⟨c0, c1, c2, c3⟩ := zi_cl4
  unfold zA_thirds at K
  simp only [u24_0, u24_1, u24_4, u24_5, u24_6, u24_9, u24_11, u24_12, u24_13, u24_16, u24_17, u24_20, u24_21, u24_24, u24_27, u24_28, u24_31, u24_32, u24_33, zk_mk_1, zk_mk_I, zk_mk_R, zk_mk_set, zk_mk_setR, zk_mk_cpy, zk_rv_some, zk_rv_none, Option.toList_some, Option.toList_none, List.cons_append, List.nil_append, reduceIte, eq_self, Nat.reduceLT, Nat.reduceEqDiff, and_true, true_and, reduceCtorEq, zsh_0]
  by_cases hw : 0 ≤ what ∧ what ≤ 2
  · rw [if_pos hw] at K
    rw [if_neg (Int32.not_lt.mpr hw.1), if_pos hw.2]
    refine s21 hj ht hl hx (fun I' h1 h2 h3 h4 => ?_)
    simp only [u24_0, u24_1, u24_4, u24_5, u24_6, u24_9, u24_11, u24_12, u24_13, u24_16, u24_17, u24_20, u24_21, u24_24, u24_27, u24_28, u24_31, u24_32, u24_33, zk_mk_1, zk_mk_I, zk_mk_R, zk_mk_set, zk_mk_setR, zk_mk_cpy, zk_rv_some, zk_rv_none, Option.toList_some, Option.toList_none, List.cons_append, List.nil_append, reduceIte, eq_self, Nat.reduceLT, Nat.reduceEqDiff, and_true, true_and, reduceCtorEq, zsh_0, zsh_15, zrf_0_7, zrf_0_9]
    refine s72 hj.2.2.1 h3 (fun h hh => (h4 h hh).1) (zv_now_bd hj) (fun I2 g1 g2 => ?_)
    have K2 := K I2 (h1.trans (fun j hj => g1 j (by have := zKp_no hj; omega)))
    obtain ⟨q, eq⟩ := zth_some (zv_now I n T e) n
    rw [eq] at g2 K2
    obtain ⟨q1, q2, q3, q4⟩ : I2 27 0 = nI q.1 ∧ I2 27 1 = nI q.2.1 ∧ I2 27 2 = q.2.2 ∧ ¬ q.2.2 = -1 := g2
    simp only [u24_0, u24_1, u24_4, u24_5, u24_6, u24_9, u24_11, u24_12, u24_13, u24_16, u24_17, u24_20, u24_21, u24_24, u24_27, u24_28, u24_31, u24_32, u24_33, zk_mk_1, zk_mk_I, zk_mk_R, zk_mk_set, zk_mk_setR, zk_mk_cpy, zk_rv_some, zk_rv_none, Option.toList_some, Option.toList_none, List.cons_append, List.nil_append, reduceIte, eq_self, Nat.reduceLT, Nat.reduceEqDiff, and_true, true_and, reduceCtorEq, zsh_0, zsh_27, zrf_0_9]
    rcases zw_012 hw with rfl | rfl | rfl
    · rw [c0, q1]; exact ⟨b0, K2⟩
    · rw [c1, q2]; exact ⟨b1, K2⟩
    · rw [c2, q3]; exact ⟨b2, K2⟩
  · rw [if_neg hw] at K
    have K2 := K I (zF_refl I)
    split
    · exact K2
    · next h =>
      rw [if_neg (fun q => hw ⟨Int32.not_lt.mp h, q⟩)]
      exact K2
