/-! fair -/
def zfair (ok : Nat → Bool) (val : Nat → Int32) : Nat → Int32 × Int32
  | 0 => (-1, -1)
  | a + 1 => if ok a = true ∧ ((zfair ok val a).1 = -1 ∨ val a < (zfair ok val a).2) then (nI a, val a) else zfair ok val a
theorem zw_abs (x : Int32) : (if 0 ≤ x then x else 0 - x) = zw_far x := by
  unfold zw_far
  by_cases h : x < 0
  · rw [if_pos h, if_neg (Int32.not_le.mpr h), zw_neg]
  · rw [if_neg h, if_pos (Int32.not_lt.mp h)]
theorem zw_far_ne (x : Int32) : ¬ zw_far x = -1 := by
  unfold zw_far
  split
  · next h =>
    intro q
    have : x = 1 := by
      have := congrArg (fun z => -z) q
      simpa using this
    rw [this] at h
    exact absurd h (by decide)
  · next h =>
    intro q
    rw [q] at h
    exact absurd (by decide) h
theorem zfair_iff {ok : Nat → Bool} {val : Nat → Int32} (hv : ∀ a, ¬ val a = -1) : ∀ a, a < 2147483648 → ((zfair ok val a).2 = -1 ↔ (zfair ok val a).1 = -1)
  | 0, _ => by simp [zfair]
  | a + 1, h => by
    rw [zfair]
    split
    · show val a = -1 ↔ nI a = -1
      rw [zn_m1 (by omega)]
      simp [hv a]
    · exact zfair_iff hv a (by omega)
/-- all cards that may lie on a side -/
def zv_may (I : Nat → Nat → Int32) (n : Nat) (q : Int32) : Nat := zset (fun c => decide (¬ zw_sides (I 2 c) (I 4 c) &&& q = 0)) n
theorem zv_may_m {I : Nat → Nat → Int32} {n : Nat} {q : Int32} (hj : zj_tab I n) : zset (fun c => decide (¬ zw_sides (I 61 c) (I 63 c) &&& q = 0)) n = zv_may I n q := zset_ext (fun c hc => by rw [(hj.2.2.2 c hc).1.1, (hj.2.2.2 c hc).1.2.2.1])
def zfok (n lefts rights : Nat) (many : Bool) (a : Nat) : Bool := decide (zdf a lefts = 0) && (decide (zdf (zdf (2 ^ n - 1) a) rights = 0) && (!many || decide (zones a 12 = zones (zdf (2 ^ n - 1) a) 12)))
def zfval (f : Nat → Int32) (n a : Nat) : Int32 := zw_far (zsum f a n - zsum f (zdf (2 ^ n - 1) a) n)
theorem zones_le (h : Nat) : ∀ c, zones h c ≤ c
  | 0 => Nat.le_refl _
  | c + 1 => by
    have := zones_le h c
    show zones h c + h / 2 ^ c % 2 ≤ c + 1
    omega
theorem s71 {sc : zk_X} {d : Nat} {I : Nat → Nat → Int32} {tg : Option Nat} {P : Option Value → zk_M → Prop} {n lefts rights : Nat} {many : Bool} {f : Nat → Int32} (h10 : n ≤ 10) (hall : I 15 3 = nI (2 ^ n - 1)) (hs : ∀ h, h < 2 ^ n → I 18 h = zsum f h n)
    (K : ∀ I' : Nat → Nat → Int32, (∀ j, j ≠ 27 → I' j = I j) → I' 27 0 = (zfair (zfok n lefts rights many) (zfval f n) (2 ^ n)).1 → I' 27 1 = (zfair (zfok n lefts rights many) (zfval f n) (2 ^ n)).2 → P none (zk_mk I' tg)) : zk_R sc (d + 1) 71 0 [some (.ref (15 : Nat)), some (.int ((if many then 1 else 0))), some (.int (nI lefts)), some (.int (nI rights)), some (.ref (27 : Nat)), none, none, none, none] [] (zk_mk I tg) P := by
  have p10 := zp_10 h10
  obtain ⟨b0, b1, b2, b3⟩ := zi_lit4
  obtain ⟨c0, c1, c2, c3⟩ := zi_cl4
  have hv : ∀ a, ¬ zfval f n a = -1 := fun a => zw_far_ne _
  have loop := zl_up (τ := (Nat → Nat → Int32) × Option Value × Option Value × Option Value) (fun i q => zk_R sc (d + 1) 71 13 [some (.ref (15 : Nat)), some (.int (if many then 1 else 0)), some (.int (nI lefts)), some (.int (nI rights)), some (.ref (27 : Nat)), some (.int (nI i)), q.2.1, q.2.2.1, q.2.2.2] [] (zk_mk q.1 tg) P)
    (fun i q => (∀ j, j ≠ 27 → q.1 j = I j) ∧ q.1 27 0 = (zfair (zfok n lefts rights many) (zfval f n) i).1 ∧ q.1 27 1 = (zfair (zfok n lefts rights many) (zfval f n) i).2) (2 ^ n) (by
      rintro ⟨I', x, y, z⟩ ⟨h1, h2, h3⟩
      have e15 : I' 15 = I 15 := h1 15 (by decide)
      show zk_R sc (d + 1) 71 13 [some (.ref (15 : Nat)), some (.int (if many then 1 else 0)), some (.int (nI lefts)), some (.int (nI rights)), some (.ref (27 : Nat)), some (.int (nI (2 ^ n))), x, y, z] [] (zk_mk I' tg) P
      rw [u71_13]
      have hcond : nI (2 ^ n - 1) < nI (2 ^ n) := by rw [zn_lt (by omega) (by omega)]; omega
      have hcond2 : ¬ nI (2 ^ n) ≤ nI (2 ^ n - 1) := Int32.not_le.mpr hcond
      simp only [u71_0, u71_2, u71_3, u71_4, u71_5, u71_7, u71_8, u71_9, u71_10, u71_11, u71_15, u71_16, u71_19, u71_22, u71_23, u71_26, u71_28, u71_29, u71_30, u71_31, u71_33, u71_35, u71_36, u71_37, u71_38, u71_39, u71_42, u71_44, u71_45, u71_46, u71_47, u71_48, u71_51, u71_52, u71_55, u71_56, u71_58, u71_60, u71_63, u71_64, u71_67, u71_69, u71_72, u71_74, u71_77, u71_80, u71_83, u71_84, u71_87, u71_89, u71_90, u71_91, u71_94, u71_96, u71_97, u71_98, u71_101, u71_103, u71_105, u71_106, u71_107, u71_108, u71_111, u71_113, u71_115, u71_116, u71_117, u71_120, u71_122, u71_123, u71_125, u71_126, u71_128, u71_129, u71_131, u71_132, u71_135, u71_138, zk_mk_1, zk_mk_I, zk_mk_R, zk_mk_set, zk_mk_setR, zk_mk_cpy, zk_rv_some, zk_rv_none, Option.toList_some, Option.toList_none, List.cons_append, List.nil_append, reduceIte, eq_self, Nat.reduceLT, Nat.reduceEqDiff, and_true, true_and, reduceCtorEq, zsh_15, e15, hall, hcond, hcond2]
      exact K I' h1 h2 h3) (by
      rintro i ⟨I', x, y, z⟩ hi ⟨h1, h2, h3⟩ ih
      have e15 : I' 15 = I 15 := h1 15 (by decide)
      have e18 : I' 18 = I 18 := h1 18 (by decide)
      have h2' : I' 27 0 = (zfair (zfok n lefts rights many) (zfval f n) i).1 := h2
      have h3' : I' 27 1 = (zfair (zfok n lefts rights many) (zfval f n) i).2 := h3
      show zk_R sc (d + 1) 71 13 [some (.ref (15 : Nat)), some (.int (if many then 1 else 0)), some (.int (nI lefts)), some (.int (nI rights)), some (.ref (27 : Nat)), some (.int (nI i)), x, y, z] [] (zk_mk I' tg) P
      have z1 : zk_inb (nI i) 1024 = true := by rw [zn_in (by omega)]; omega
      have z2 : (nI i).toNatClampNeg = i := zn_cl (by omega)
      have hr : zdf (2 ^ n - 1) i < 2 ^ n := zdf_lt (by omega)
      have z3 : zk_inb (nI (zdf (2 ^ n - 1) i)) 1024 = true := by rw [zn_in (by omega)]; omega
      have z4 : (nI (zdf (2 ^ n - 1) i)).toNatClampNeg = zdf (2 ^ n - 1) i := zn_cl (by omega)
      have hcond : ¬ nI (2 ^ n - 1) < nI i := by rw [zn_lt (by omega) (by omega)]; omega
      have hcond2 : nI i ≤ nI (2 ^ n - 1) := Int32.not_lt.mp hcond
      have l1 := zdf_lt (b := lefts) hi
      have l2 := zdf_lt (b := rights) hr
      have y1 : (nI (zdf i lefts) = 0) = (zdf i lefts = 0) := zn_eq (b := 0) (by omega) (by decide)
      have y2 : (nI (zdf (zdf (2 ^ n - 1) i) rights) = 0) = (zdf (zdf (2 ^ n - 1) i) rights = 0) := zn_eq (b := 0) (by omega) (by decide)
      have y3 : (nI (zones i 12) = nI (zones (zdf (2 ^ n - 1) i) 12)) = (zones i 12 = zones (zdf (2 ^ n - 1) i) 12) := zn_eq (by have := zones_le i 12; omega) (by have := zones_le (zdf (2 ^ n - 1) i) 12; omega)
      have no : zfok n lefts rights many i = false → ∀ (x y z : Option Value), zk_R sc (d + 1) 71 13 [some (.ref (15 : Nat)), some (.int (if many then 1 else 0)), some (.int (nI lefts)), some (.int (nI rights)), some (.ref (27 : Nat)), some (.int (nI (i + 1))), x, y, z] [] (zk_mk I' tg) P := by
        intro hk x y z
        have ek : zfair (zfok n lefts rights many) (zfval f n) (i + 1) = zfair (zfok n lefts rights many) (zfval f n) i := by rw [zfair, if_neg (fun q => by rw [hk] at q; cases q.1)]
        exact ih (I', x, y, z) ⟨h1, by rw [ek]; exact h2, by rw [ek]; exact h3⟩
      have go : zfok n lefts rights many i = true → ∀ (x y z : Option Value), (if (zfair (zfok n lefts rights many) (zfval f n) i).2 = -1 then zk_R sc (d + 1) 71 13 [some (.ref (15 : Nat)), some (.int (if many then 1 else 0)), some (.int (nI lefts)), some (.int (nI rights)), some (.ref (27 : Nat)), some (.int (nI (i + 1))), x, y, z] [] (zk_mk (zk_up2 (zk_up2 I' 27 0 (nI i)) 27 1 (zfval f n i)) tg) P
          else if (zfair (zfok n lefts rights many) (zfval f n) i).2 ≤ zfval f n i then zk_R sc (d + 1) 71 13 [some (.ref (15 : Nat)), some (.int (if many then 1 else 0)), some (.int (nI lefts)), some (.int (nI rights)), some (.ref (27 : Nat)), some (.int (nI (i + 1))), x, y, z] [] (zk_mk I' tg) P
          else zk_R sc (d + 1) 71 13 [some (.ref (15 : Nat)), some (.int (if many then 1 else 0)), some (.int (nI lefts)), some (.int (nI rights)), some (.ref (27 : Nat)), some (.int (nI (i + 1))), x, y, z] [] (zk_mk (zk_up2 (zk_up2 I' 27 0 (nI i)) 27 1 (zfval f n i)) tg) P) := by
        intro hk x y z
        have hiff := zfair_iff (ok := zfok n lefts rights many) hv i (by omega)
        have yes : ((zfair (zfok n lefts rights many) (zfval f n) i).1 = -1 ∨ zfval f n i < (zfair (zfok n lefts rights many) (zfval f n) i).2) → zk_R sc (d + 1) 71 13 [some (.ref (15 : Nat)), some (.int (if many then 1 else 0)), some (.int (nI lefts)), some (.int (nI rights)), some (.ref (27 : Nat)), some (.int (nI (i + 1))), x, y, z] [] (zk_mk (zk_up2 (zk_up2 I' 27 0 (nI i)) 27 1 (zfval f n i)) tg) P := by
          intro hy
          have ek : zfair (zfok n lefts rights many) (zfval f n) (i + 1) = (nI i, zfval f n i) := by rw [zfair, if_pos ⟨hk, hy⟩]
          refine ih (_, x, y, z) ⟨fun j hj => ?_, ?_, ?_⟩
          · show zk_up2 (zk_up2 I' 27 0 (nI i)) 27 1 (zfval f n i) j = I j
            rw [zk_up2_r hj, zk_up2_r hj]; exact h1 j hj
          · show zk_up2 (zk_up2 I' 27 0 (nI i)) 27 1 (zfval f n i) 27 0 = _
            rw [ek, zk_up2_i, if_neg (by decide), zk_up2_s]
          · show zk_up2 (zk_up2 I' 27 0 (nI i)) 27 1 (zfval f n i) 27 1 = _
            rw [ek, zk_up2_s]
        by_cases hq : (zfair (zfok n lefts rights many) (zfval f n) i).2 = -1
        · rw [if_pos hq]
          exact yes (Or.inl (hiff.mp hq))
        · rw [if_neg hq]
          by_cases hq2 : (zfair (zfok n lefts rights many) (zfval f n) i).2 ≤ zfval f n i
          · rw [if_pos hq2]
            have ek : zfair (zfok n lefts rights many) (zfval f n) (i + 1) = zfair (zfok n lefts rights many) (zfval f n) i := by
              rw [zfair, if_neg (fun q => by
                rcases q.2 with q | q
                · exact hq (hiff.mpr q)
                · exact Int32.not_lt.mpr hq2 q)]
            exact ih (I', x, y, z) ⟨h1, by rw [ek]; exact h2, by rw [ek]; exact h3⟩
          · rw [if_neg hq2]
            exact yes (Or.inr (Int32.not_le.mp hq2))
      have hok : zfok n lefts rights many i = (decide (zdf i lefts = 0) && (decide (zdf (zdf (2 ^ n - 1) i) rights = 0) && (!many || decide (zones i 12 = zones (zdf (2 ^ n - 1) i) 12)))) := rfl
      rw [u71_13]
      simp only [u71_0, u71_2, u71_3, u71_4, u71_5, u71_7, u71_8, u71_9, u71_10, u71_11, u71_15, u71_16, u71_19, u71_22, u71_23, u71_26, u71_28, u71_29, u71_30, u71_31, u71_33, u71_35, u71_36, u71_37, u71_38, u71_39, u71_42, u71_44, u71_45, u71_46, u71_47, u71_48, u71_51, u71_52, u71_55, u71_56, u71_58, u71_60, u71_63, u71_64, u71_67, u71_69, u71_72, u71_74, u71_77, u71_80, u71_83, u71_84, u71_87, u71_89, u71_90, u71_91, u71_94, u71_96, u71_97, u71_98, u71_101, u71_103, u71_105, u71_106, u71_107, u71_108, u71_111, u71_113, u71_115, u71_116, u71_117, u71_120, u71_122, u71_123, u71_125, u71_126, u71_128, u71_129, u71_131, u71_132, u71_135, u71_138, zk_mk_1, zk_mk_I, zk_mk_R, zk_mk_set, zk_mk_setR, zk_mk_cpy, zk_rv_some, zk_rv_none, Option.toList_some, Option.toList_none, List.cons_append, List.nil_append, reduceIte, eq_self, Nat.reduceLT, Nat.reduceEqDiff, and_true, true_and, reduceCtorEq, zsh_15, zsh_18, zsh_27, zrf_15_2, e15, e18, hall, hcond, hcond2, b0, b1, c0, c1, z1, z2, z3, z4, hs i hi, hs _ hr, zq_andn, y1, y2, y3, nI_1, zk_up2_j (show (1 : Nat) ≠ 0 by decide), h2', h3', zw_abs, s218 (show i < 1024 by omega), s218 (show zdf (2 ^ n - 1) i < 1024 by omega), show ((1 : Int32) = 0) = False from by decide]
      by_cases k1 : zdf i lefts = 0
      · rw [if_pos k1]
        by_cases k2 : zdf (zdf (2 ^ n - 1) i) rights = 0
        · rw [if_pos k2]
          cases many with
          | false =>
            simp only [Bool.false_eq_true, reduceIte] at go ⊢
            exact go (by rw [hok]; simp [k1, k2]) _ _ _
          | true =>
            simp only [reduceIte, show ((1 : Int32) = 0) = False from by decide] at go no ⊢
            by_cases k3 : zones i 12 = zones (zdf (2 ^ n - 1) i) 12
            · rw [if_pos k3]
              exact go (by rw [hok]; simp [k1, k2, k3]) _ _ _
            · rw [if_neg k3]
              exact no (by rw [hok]; simp [k3]) _ _ _
        · rw [if_neg k2]
          exact no (by rw [hok]; simp [k2]) _ _ _
      · rw [if_neg k1]
        exact no (by rw [hok]; simp [k1]) _ _ _)
  simp only [u71_0, u71_2, u71_3, u71_4, u71_5, u71_7, u71_8, u71_9, u71_10, u71_11, u71_15, u71_16, u71_19, u71_22, u71_23, u71_26, u71_28, u71_29, u71_30, u71_31, u71_33, u71_35, u71_36, u71_37, u71_38, u71_39, u71_42, u71_44, u71_45, u71_46, u71_47, u71_48, u71_51, u71_52, u71_55, u71_56, u71_58, u71_60, u71_63, u71_64, u71_67, u71_69, u71_72, u71_74, u71_77, u71_80, u71_83, u71_84, u71_87, u71_89, u71_90, u71_91, u71_94, u71_96, u71_97, u71_98, u71_101, u71_103, u71_105, u71_106, u71_107, u71_108, u71_111, u71_113, u71_115, u71_116, u71_117, u71_120, u71_122, u71_123, u71_125, u71_126, u71_128, u71_129, u71_131, u71_132, u71_135, u71_138, zk_mk_1, zk_mk_I, zk_mk_R, zk_mk_set, zk_mk_setR, zk_mk_cpy, zk_rv_some, zk_rv_none, Option.toList_some, Option.toList_none, List.cons_append, List.nil_append, reduceIte, eq_self, Nat.reduceLT, Nat.reduceEqDiff, and_true, true_and, reduceCtorEq, zsh_27, b0, b1, c0, c1]
  refine loop 0 (_, none, none, none) (Nat.zero_le _) ⟨fun j hj => ?_, ?_, ?_⟩
  · show zk_up2 (zk_up2 I 27 0 (-1)) 27 1 (-1) j = I j
    rw [zk_up2_r hj, zk_up2_r hj]
  · show zk_up2 (zk_up2 I 27 0 (-1)) 27 1 (-1) 27 0 = _
    rw [zk_up2_i, if_neg (by decide), zk_up2_s]; rfl
  · show zk_up2 (zk_up2 I 27 0 (-1)) 27 1 (-1) 27 1 = _
    rw [zk_up2_s]; rfl
