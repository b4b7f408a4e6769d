/-! three alike: the walk -/
theorem zbound {a r n : Nat} (h10 : n ≤ 10) (ha : a < 2 ^ n) (hr : r < 2 ^ n) : 0 + a * (2 ^ n * 2 ^ n) + r * 2 ^ n + 1024 < 2147483648 := by
  have p10 := zp_10 h10
  have h1 : 2 ^ n * 2 ^ n ≤ 1024 * 1024 := Nat.mul_le_mul p10.2 p10.2
  have h2 : a * (2 ^ n * 2 ^ n) ≤ 1023 * (1024 * 1024) := Nat.mul_le_mul (by omega) h1
  have h3 : r * 2 ^ n ≤ 1023 * 1024 := Nat.mul_le_mul (by omega) p10.2
  omega
theorem s69 {sc : zk_X} {d : Nat} {I : Nat → Nat → Int32} {tg : Option Nat} {P : Option Value → zk_M → Prop} {n : Nat} {fo : Bool} {f : Nat → Int32} (h10 : n ≤ 10) (hall : I 15 3 = nI (2 ^ n - 1)) (hs : ∀ h, h < 2 ^ n → I 18 h = zsum f h n)
    (K : ∀ I' : Nat → Nat → Int32, (∀ j, j ≠ 27 → I' j = I j) → (fo = false → I' 27 0 = nI (zthr f n (2 ^ n)).1) → I' 27 1 = (zthr f n (2 ^ n)).2.1 → I' 27 2 = (zthr f n (2 ^ n)).2.2.1 → I' 27 3 = (zthr f n (2 ^ n)).2.2.2 → P none (zk_mk I' tg)) : zk_R sc (d + 2) 69 0 [some (.ref (15 : Nat)), some (.int ((if fo then 1 else 0))), some (.ref (27 : Nat)), none, none, none, none] [] (zk_mk I tg) P := by
  have p10 := zp_10 h10
  obtain ⟨b0, b1, b2, b3⟩ := zi_lit4
  obtain ⟨c0, c1, c2, c3⟩ := zi_cl4
  have loop := zl_up (τ := (Nat → Nat → Int32) × Option Value × Option Value × Option Value) (fun i q => zk_R sc (d + 2) 69 18 [some (.ref (15 : Nat)), some (.int (if fo then 1 else 0)), some (.ref (27 : Nat)), some (.int (nI i)), q.2.1, q.2.2.1, q.2.2.2] [] (zk_mk q.1 tg) P)
    (fun i q => 1 ≤ i ∧ (∀ j, j ≠ 27 → q.1 j = I j) ∧ zft q.1 (zthr f n i) ∧ (fo = true → (zthr f n i).1 = 0)) (2 ^ n) (by
      rintro ⟨I', x, y, z⟩ ⟨h0, h1, h2, h3⟩
      have e15 : I' 15 = I 15 := h1 15 (by decide)
      show zk_R sc (d + 2) 69 18 [some (.ref (15 : Nat)), some (.int (if fo then 1 else 0)), some (.ref (27 : Nat)), some (.int (nI (2 ^ n))), x, y, z] [] (zk_mk I' tg) P
      have hcond : nI (2 ^ n - 1) < nI (2 ^ n) := by rw [zn_lt (by omega) (by omega)]; omega
      have hcond2 : ¬ nI (2 ^ n) ≤ nI (2 ^ n - 1) := Int32.not_le.mpr hcond
      rw [u69_18]
      simp only [u69_0, u69_1, u69_2, u69_3, u69_4, u69_5, u69_6, u69_7, u69_8, u69_9, u69_10, u69_11, u69_12, u69_13, u69_14, u69_15, u69_16, u69_17, u69_19, u69_20, u69_23, u69_26, u69_27, u69_30, u69_31, u69_32, u69_33, u69_34, u69_36, u69_37, u69_39, u69_42, u69_44, u69_45, u69_49, u69_52, u69_55, u69_57, u69_60, u69_62, u69_63, u69_66, u69_67, u69_70, u69_72, u69_73, u69_74, u69_77, u69_78, u69_79, u69_82, u69_83, u69_84, u69_86, u69_87, u69_90, u69_91, u69_94, u69_95, u69_96, u69_97, u69_100, u69_101, u69_103, u69_105, u69_108, u69_110, u69_113, u69_116, u69_119, u69_122, zk_mk_1, zk_mk_I, zk_mk_R, zk_mk_set, zk_mk_setR, zk_mk_cpy, zk_rv_some, zk_rv_none, Option.toList_some, Option.toList_none, List.cons_append, List.nil_append, reduceIte, eq_self, Nat.reduceLT, Nat.reduceEqDiff, and_true, true_and, reduceCtorEq, zsh_15, e15, hall, hcond, hcond2]
      exact K I' h1 (fun _ => h2.1) h2.2.1 h2.2.2.1 h2.2.2.2) (by
      rintro a ⟨I', x, y, z⟩ ha ⟨h0, h1, h2, h3⟩ ih
      have h0' : 1 ≤ a := h0
      have e15 : I' 15 = I 15 := h1 15 (by decide)
      have hS : zdf (2 ^ n - 1) a < 2 ^ n := zdf_lt (by omega)
      have hS2 : zdf (2 ^ n - 1) a < 1024 := by omega
      have hcond : ¬ nI (2 ^ n - 1) < nI a := by rw [zn_lt (by omega) (by omega)]; omega
      have hcond2 : nI a ≤ nI (2 ^ n - 1) := Int32.not_lt.mp hcond
      have ek : zthr f n (a + 1) = zfor (ztm f n a) (zthr f n a) (2 ^ n) := zto_y (by omega)
      show zk_R sc (d + 2) 69 18 [some (.ref (15 : Nat)), some (.int (if fo then 1 else 0)), some (.ref (27 : Nat)), some (.int (nI a)), x, y, z] [] (zk_mk I' tg) P
      rw [u69_18]
      simp only [u69_0, u69_1, u69_2, u69_3, u69_4, u69_5, u69_6, u69_7, u69_8, u69_9, u69_10, u69_11, u69_12, u69_13, u69_14, u69_15, u69_16, u69_17, u69_19, u69_20, u69_23, u69_26, u69_27, u69_30, u69_31, u69_32, u69_33, u69_34, u69_36, u69_37, u69_39, u69_42, u69_44, u69_45, u69_49, u69_52, u69_55, u69_57, u69_60, u69_62, u69_63, u69_66, u69_67, u69_70, u69_72, u69_73, u69_74, u69_77, u69_78, u69_79, u69_82, u69_83, u69_84, u69_86, u69_87, u69_90, u69_91, u69_94, u69_95, u69_96, u69_97, u69_100, u69_101, u69_103, u69_105, u69_108, u69_110, u69_113, u69_116, u69_119, u69_122, zk_mk_1, zk_mk_I, zk_mk_R, zk_mk_set, zk_mk_setR, zk_mk_cpy, zk_rv_some, zk_rv_none, Option.toList_some, Option.toList_none, List.cons_append, List.nil_append, reduceIte, eq_self, Nat.reduceLT, Nat.reduceEqDiff, and_true, true_and, reduceCtorEq, zsh_15, e15, hall, hcond, hcond2, zq_andn, s66]
      rw [show (0 : Int32) = nI 0 from rfl, zq_next hS2 (zle_0 _)]
      refine zl_sub hS2 hS (ztm f n a) (fun x s hx => ?_) (fun i r s => ∀ I2 : Nat → Nat → Int32, (∀ j, j ≠ 27 → I2 j = I j) → zft I2 s → (fo = true → s.1 = 0) → zk_R sc (d + 2) 69 47 [some (.ref (15 : Nat)), some (.int (if fo then 1 else 0)), some (.ref (27 : Nat)), some (.int (nI a)), some (.int (nI (zdf (2 ^ n - 1) a))), some (.int (nI r)), some (.int (nI i))] [] (zk_mk I2 tg) P) (fun i => ?_) (fun i r s hsr hi hrS hr hW => ?_) I' h1 h2 h3
      · exact ztm_n (fun q => hx.elim (fun w => q.1 w) (fun w => w q.2.1))
      · intro I2 g1 g2 g3
        rw [u69_47]
        simp only [u69_0, u69_1, u69_2, u69_3, u69_4, u69_5, u69_6, u69_7, u69_8, u69_9, u69_10, u69_11, u69_12, u69_13, u69_14, u69_15, u69_16, u69_17, u69_19, u69_20, u69_23, u69_26, u69_27, u69_30, u69_31, u69_32, u69_33, u69_34, u69_36, u69_37, u69_39, u69_42, u69_44, u69_45, u69_49, u69_52, u69_55, u69_57, u69_60, u69_62, u69_63, u69_66, u69_67, u69_70, u69_72, u69_73, u69_74, u69_77, u69_78, u69_79, u69_82, u69_83, u69_84, u69_86, u69_87, u69_90, u69_91, u69_94, u69_95, u69_96, u69_97, u69_100, u69_101, u69_103, u69_105, u69_108, u69_110, u69_113, u69_116, u69_119, u69_122, zk_mk_1, zk_mk_I, zk_mk_R, zk_mk_set, zk_mk_setR, zk_mk_cpy, zk_rv_some, zk_rv_none, Option.toList_some, Option.toList_none, List.cons_append, List.nil_append, reduceIte, eq_self, Nat.reduceLT, Nat.reduceEqDiff, and_true, true_and, reduceCtorEq, nI_1, show nI 0 = 0 from rfl]
        rw [← ek] at g2 g3
        have := ih (I2, some (.int (nI (zdf (2 ^ n - 1) a))), some (.int (nI 0)), some (.int (nI i))) ⟨by omega, g1, g2, g3⟩
        split <;> exact this
      · intro I2 g1 g2 g3
        have e15 : I2 15 = I 15 := g1 15 (by decide)
        have e18 : I2 18 = I 18 := g1 18 (by decide)
        have hr2 : r < 2 ^ n := by omega
        have z1 : zk_inb (nI a) 1024 = true := by rw [zn_in (by omega)]; omega
        have z2 : (nI a).toNatClampNeg = a := zn_cl (by omega)
        have z3 : zk_inb (nI r) 1024 = true := by rw [zn_in (by omega)]; omega
        have z4 : (nI r).toNatClampNeg = r := zn_cl (by omega)
        have yr : (nI r = 0) = (r = 0) := zn_eq (b := 0) (by omega) (by decide)
        have hcnt : s.1 + 1024 < 2147483648 := by
          have q1 : (zthr f n a).1 ≤ 0 + a * (2 ^ n * 2 ^ n) := zfor_le (s0 := ((0, -1, -1, -1) : zT4)) (zto_le f n) a
          have q2 : s.1 ≤ (zthr f n a).1 + r * 2 ^ n := by rw [hsr]; exact zfor_le (ztm_le f n a) r
          have := zbound h10 ha hr2
          omega
        -- what comes after the adding
        have after : ∀ I3 : Nat → Nat → Int32, (∀ j, j ≠ 27 → I3 j = I j) → zft I3 (ztm f n a r s) → zk_R sc (d + 2) 69 90 [some (.ref (15 : Nat)), some (.int (if fo then 1 else 0)), some (.ref (27 : Nat)), some (.int (nI a)), some (.int (nI (zdf (2 ^ n - 1) a))), some (.int (nI r)), some (.int (nI i))] [] (zk_mk I3 tg) P := by
          intro I3 k1 k2
          have hle : (ztm f n a r s).1 < 2147483648 := by
            have := ztm_le f n a r s
            omega
          cases fo with
          | false =>
            simp only [u69_0, u69_1, u69_2, u69_3, u69_4, u69_5, u69_6, u69_7, u69_8, u69_9, u69_10, u69_11, u69_12, u69_13, u69_14, u69_15, u69_16, u69_17, u69_19, u69_20, u69_23, u69_26, u69_27, u69_30, u69_31, u69_32, u69_33, u69_34, u69_36, u69_37, u69_39, u69_42, u69_44, u69_45, u69_49, u69_52, u69_55, u69_57, u69_60, u69_62, u69_63, u69_66, u69_67, u69_70, u69_72, u69_73, u69_74, u69_77, u69_78, u69_79, u69_82, u69_83, u69_84, u69_86, u69_87, u69_90, u69_91, u69_94, u69_95, u69_96, u69_97, u69_100, u69_101, u69_103, u69_105, u69_108, u69_110, u69_113, u69_116, u69_119, u69_122, zk_mk_1, zk_mk_I, zk_mk_R, zk_mk_set, zk_mk_setR, zk_mk_cpy, zk_rv_some, zk_rv_none, Option.toList_some, Option.toList_none, List.cons_append, List.nil_append, reduceIte, eq_self, Nat.reduceLT, Nat.reduceEqDiff, and_true, true_and, reduceCtorEq, Bool.false_eq_true, s66, zq_next hS2 hr, nI_1]
            exact hW I3 k1 k2 (fun q => by cases q)
          | true =>
            simp only [u69_0, u69_1, u69_2, u69_3, u69_4, u69_5, u69_6, u69_7, u69_8, u69_9, u69_10, u69_11, u69_12, u69_13, u69_14, u69_15, u69_16, u69_17, u69_19, u69_20, u69_23, u69_26, u69_27, u69_30, u69_31, u69_32, u69_33, u69_34, u69_36, u69_37, u69_39, u69_42, u69_44, u69_45, u69_49, u69_52, u69_55, u69_57, u69_60, u69_62, u69_63, u69_66, u69_67, u69_70, u69_72, u69_73, u69_74, u69_77, u69_78, u69_79, u69_82, u69_83, u69_84, u69_86, u69_87, u69_90, u69_91, u69_94, u69_95, u69_96, u69_97, u69_100, u69_101, u69_103, u69_105, u69_108, u69_110, u69_113, u69_116, u69_119, u69_122, zk_mk_1, zk_mk_I, zk_mk_R, zk_mk_set, zk_mk_setR, zk_mk_cpy, zk_rv_some, zk_rv_none, Option.toList_some, Option.toList_none, List.cons_append, List.nil_append, reduceIte, eq_self, Nat.reduceLT, Nat.reduceEqDiff, and_true, true_and, reduceCtorEq, zsh_27, b0, c0, k2.1, s66, zq_next hS2 hr, nI_1, show ((1 : Int32) = 0) = False from by decide]
            by_cases m0 : (ztm f n a r s).1 = 0
            · have hc0 : nI (ztm f n a r s).1 ≤ 0 := by rw [m0]; decide
              first | rw [if_pos hc0] | rw [if_neg (Int32.not_lt.mpr hc0)]
              exact hW I3 k1 k2 (fun _ => m0)
            · have hc0 : (0 : Int32) < nI (ztm f n a r s).1 := by rw [show (0 : Int32) = nI 0 from rfl, zn_lt (by decide) hle]; omega
              first | rw [if_pos hc0] | rw [if_neg (Int32.not_le.mpr hc0)]
              have er : ztm f n a r s = zfor (ztm f n a) (zthr f n a) (r + 1) := by rw [hsr]; rfl
              have m1 := zfor_keep (s0 := zthr f n a) (a := r + 1) (ztm_keep f n a) (by rw [← er]; exact m0) (2 ^ n - (r + 1))
              rw [show r + 1 + (2 ^ n - (r + 1)) = 2 ^ n by omega, ← ek, ← er] at m1
              have m2 := zfor_keep (s0 := ((0, -1, -1, -1) : zT4)) (a := a + 1) (zto_keep f n) m1.1 (2 ^ n - (a + 1))
              rw [show a + 1 + (2 ^ n - (a + 1)) = 2 ^ n by omega] at m2
              have m3 : (zthr f n (2 ^ n)).2 = (ztm f n a r s).2 := m2.2.trans m1.2
              refine K I3 k1 (fun q => by cases q) ?_ ?_ ?_
              · rw [m3]; exact k2.2.1
              · rw [m3]; exact k2.2.2.1
              · rw [m3]; exact k2.2.2.2
        have no : (¬ (¬ r = 0 ∧ zdf r (zdf (2 ^ n - 1) a) = 0 ∧ a < r ∧ zsum f r n = zsum f a n)) → zk_R sc (d + 2) 69 90 [some (.ref (15 : Nat)), some (.int (if fo then 1 else 0)), some (.ref (27 : Nat)), some (.int (nI a)), some (.int (nI (zdf (2 ^ n - 1) a))), some (.int (nI r)), some (.int (nI i))] [] (zk_mk I2 tg) P := by
          intro hq
          exact after I2 g1 (by rw [ztm_n hq]; exact g2)
        rw [u69_47]
        simp only [u69_0, u69_1, u69_2, u69_3, u69_4, u69_5, u69_6, u69_7, u69_8, u69_9, u69_10, u69_11, u69_12, u69_13, u69_14, u69_15, u69_16, u69_17, u69_19, u69_20, u69_23, u69_26, u69_27, u69_30, u69_31, u69_32, u69_33, u69_34, u69_36, u69_37, u69_39, u69_42, u69_44, u69_45, u69_49, u69_52, u69_55, u69_57, u69_60, u69_62, u69_63, u69_66, u69_67, u69_70, u69_72, u69_73, u69_74, u69_77, u69_78, u69_79, u69_82, u69_83, u69_84, u69_86, u69_87, u69_91, u69_94, u69_95, u69_96, u69_97, u69_100, u69_101, u69_103, u69_105, u69_108, u69_110, u69_113, u69_116, u69_119, u69_122, zk_mk_1, zk_mk_I, zk_mk_R, zk_mk_set, zk_mk_setR, zk_mk_cpy, zk_rv_some, zk_rv_none, Option.toList_some, Option.toList_none, List.cons_append, List.nil_append, reduceIte, eq_self, Nat.reduceLT, Nat.reduceEqDiff, and_true, true_and, reduceCtorEq, zsh_15, zsh_18, zrf_15_2, e18, z1, z2, z3, z4, hs a ha, hs r hr2, yr]
        rw [if_neg (show ¬ (1024 : Int32) ≤ nI i from nI_ge (b := 1024) (by omega) (by decide)), if_neg (by omega)]
        by_cases k1 : a < r
        · have k1' : nI a < nI r := by rw [zn_lt (by omega) (by omega)]; exact k1
          first | rw [if_pos k1'] | rw [if_neg (Int32.not_le.mpr k1')]
          by_cases k2 : zsum f r n = zsum f a n
          · rw [if_pos k2]
            refine s70 h10 (by rw [e15]; exact hall) (by rw [e18]; exact hs) ha hr2 g2 hcnt (fun I3 g4 g5 => ?_)
            refine after I3 (fun j hj => by rw [g4 j hj, g1 j hj]) ?_
            rw [ztm_y ⟨by omega, hr, k1, k2⟩]; exact g5
          · rw [if_neg k2]
            exact no (fun q => k2 q.2.2.2)
        · have k1' : nI r ≤ nI a := by rw [zn_le (by omega) (by omega)]; omega
          first | rw [if_pos k1'] | rw [if_neg (Int32.not_lt.mpr k1')]
          exact no (fun q => k1 q.2.2.1))
  simp only [u69_0, u69_1, u69_2, u69_3, u69_4, u69_5, u69_6, u69_7, u69_8, u69_9, u69_10, u69_11, u69_12, u69_13, u69_14, u69_15, u69_16, u69_17, u69_19, u69_20, u69_23, u69_26, u69_27, u69_30, u69_31, u69_32, u69_33, u69_34, u69_36, u69_37, u69_39, u69_42, u69_44, u69_45, u69_49, u69_52, u69_55, u69_57, u69_60, u69_62, u69_63, u69_66, u69_67, u69_70, u69_72, u69_73, u69_74, u69_77, u69_78, u69_79, u69_82, u69_83, u69_84, u69_86, u69_87, u69_90, u69_91, u69_94, u69_95, u69_96, u69_97, u69_100, u69_101, u69_103, u69_105, u69_108, u69_110, u69_113, u69_116, u69_119, u69_122, zk_mk_1, zk_mk_I, zk_mk_R, zk_mk_set, zk_mk_setR, zk_mk_cpy, zk_rv_some, zk_rv_none, Option.toList_some, Option.toList_none, List.cons_append, List.nil_append, reduceIte, eq_self, Nat.reduceLT, Nat.reduceEqDiff, and_true, true_and, reduceCtorEq, zsh_27, b0, b1, b2, b3, c0, c1, c2, c3]
  have e1 : zthr f n 1 = ((0, -1, -1, -1) : zT4) := zto_n (f := f) (n := n) (s := ((0, -1, -1, -1) : zT4)) (a := 0) rfl
  refine loop 1 (_, none, none, none) p10.1 ⟨Nat.le_refl _, fun j hj => ?_, ⟨?_, ?_, ?_, ?_⟩, fun _ => by rw [e1]⟩
  · show zk_up2 (zk_up2 (zk_up2 (zk_up2 I 27 0 0) 27 1 (-1)) 27 2 (-1)) 27 3 (-1) j = I j
    rw [zk_up2_r hj, zk_up2_r hj, zk_up2_r hj, zk_up2_r hj]
  · show zk_up2 (zk_up2 (zk_up2 (zk_up2 I 27 0 0) 27 1 (-1)) 27 2 (-1)) 27 3 (-1) 27 0 = _
    rw [zk_up2_j (by decide), zk_up2_j (by decide), zk_up2_j (by decide), zk_up2_s, e1]; rfl
  · show zk_up2 (zk_up2 (zk_up2 (zk_up2 I 27 0 0) 27 1 (-1)) 27 2 (-1)) 27 3 (-1) 27 1 = _
    rw [zk_up2_j (by decide), zk_up2_j (by decide), zk_up2_s, e1]
  · show zk_up2 (zk_up2 (zk_up2 (zk_up2 I 27 0 0) 27 1 (-1)) 27 2 (-1)) 27 3 (-1) 27 2 = _
    rw [zk_up2_j (by decide), zk_up2_s, e1]
  · show zk_up2 (zk_up2 (zk_up2 (zk_up2 I 27 0 0) 27 1 (-1)) 27 2 (-1)) 27 3 (-1) 27 3 = _
    rw [zk_up2_s, e1]
def zA_t4 (s : zT4) (what : Int32) : Int32 := if what = 0 then nI s.1 else if what = 1 then s.2.1 else if what = 2 then s.2.2.1 else s.2.2.2
def zA_three (I : Nat → Nat → Int32) (n : Nat) (T e : Nat → Nat) (what : Int32) : Int32 := if 0 ≤ what ∧ what ≤ 3 then zA_t4 (zthr (zv_now I n T e) n (2 ^ n)) what else -2
theorem s22 {sc : zk_X} {d : Nat} {I : Nat → Nat → Int32} {tg : Option Nat} {P : Option Value → zk_M → Prop} {n t : Nat} {T e : Nat → Nat} {what : Int32} (hq : zj_q I n t T e)
    (K : ∀ I' : Nat → Nat → Int32, zF I I' → P (some (.int (zA_three I n T e what))) (zk_mk I' tg)) : zk_R sc (d + 6) 22 0 [some (.ref (0 : Nat)), some (.int what)] [] (zk_mk I tg) P := by
  obtain ⟨hj, hl, hr, ht, hx⟩ := hq
  obtain ⟨b0, b1, b2, b3⟩ := zi_lit4
  obtain ⟨c0, c1, c2, c3⟩ := zi_cl4
  unfold zA_three at K
  simp only [u22_0, u22_1, u22_4, u22_5, u22_6, u22_9, u22_11, u22_12, u22_13, u22_16, u22_17, u22_20, u22_21, u22_24, u22_25, u22_28, u22_29, u22_30, u22_33, u22_36, u22_37, u22_40, u22_41, u22_42, zk_mk_1, zk_mk_I, zk_mk_R, zk_mk_set, zk_mk_setR, zk_mk_cpy, zk_rv_some, zk_rv_none, Option.toList_some, Option.toList_none, List.cons_append, List.nil_append, reduceIte, eq_self, Nat.reduceLT, Nat.reduceEqDiff, and_true, true_and, reduceCtorEq, zsh_0]
  by_cases hw : 0 ≤ what ∧ what ≤ 3
  · rw [if_pos hw] at K
    rw [if_neg (Int32.not_lt.mpr hw.1), if_pos hw.2]
    refine s21 hj ht hl hx (fun I' h1 h2 h3 h4 => ?_)
    have call : ∀ (fo : Bool) (P2 : Option Value → zk_M → Prop), (∀ I2 : Nat → Nat → Int32, zF I I2 → (fo = false → I2 27 0 = nI (zthr (zv_now I n T e) n (2 ^ n)).1) → I2 27 1 = (zthr (zv_now I n T e) n (2 ^ n)).2.1 → I2 27 2 = (zthr (zv_now I n T e) n (2 ^ n)).2.2.1 → I2 27 3 = (zthr (zv_now I n T e) n (2 ^ n)).2.2.2 → P2 none (zk_mk I2 tg)) → zk_R sc (d + 3 + 2) 69 0 [some (.ref (15 : Nat)), some (.int (if fo then 1 else 0)), some (.ref (27 : Nat)), none, none, none, none] [] (zk_mk I' tg) P2 := by
      intro fo P2 h
      refine s69 hj.2.2.1 h3 (fun h hh => (h4 h hh).1) (fun I2 g1 g2 g3 g4 g5 => ?_)
      exact h I2 (h1.trans (fun j hj => g1 j (by have := zKp_no hj; omega))) g2 g3 g4 g5
    simp only [u22_0, u22_1, u22_4, u22_5, u22_6, u22_9, u22_11, u22_12, u22_13, u22_16, u22_17, u22_20, u22_21, u22_24, u22_25, u22_28, u22_29, u22_30, u22_33, u22_36, u22_37, u22_40, u22_41, u22_42, zk_mk_1, zk_mk_I, zk_mk_R, zk_mk_set, zk_mk_setR, zk_mk_cpy, zk_rv_some, zk_rv_none, Option.toList_some, Option.toList_none, List.cons_append, List.nil_append, reduceIte, eq_self, Nat.reduceLT, Nat.reduceEqDiff, and_true, true_and, reduceCtorEq, zsh_0, zsh_15, zrf_0_7, zrf_0_9]
    by_cases w0 : what = 0
    · rw [if_pos w0]
      refine call false _ (fun I2 g1 g2 g3 g4 g5 => ?_)
      simp only [u22_0, u22_1, u22_4, u22_5, u22_6, u22_9, u22_11, u22_12, u22_13, u22_16, u22_17, u22_20, u22_21, u22_24, u22_25, u22_28, u22_29, u22_30, u22_33, u22_36, u22_37, u22_40, u22_41, u22_42, zk_mk_1, zk_mk_I, zk_mk_R, zk_mk_set, zk_mk_setR, zk_mk_cpy, zk_rv_some, zk_rv_none, Option.toList_some, Option.toList_none, List.cons_append, List.nil_append, reduceIte, eq_self, Nat.reduceLT, Nat.reduceEqDiff, and_true, true_and, reduceCtorEq, zsh_0, zsh_27, zrf_0_9]
      have K2 := K I2 g1
      rw [w0, c0, g2 rfl]
      rw [w0] at K2
      exact ⟨b0, K2⟩
    · rw [if_neg w0]
      refine call true _ (fun I2 g1 g2 g3 g4 g5 => ?_)
      simp only [u22_0, u22_1, u22_4, u22_5, u22_6, u22_9, u22_11, u22_12, u22_13, u22_16, u22_17, u22_20, u22_21, u22_24, u22_25, u22_28, u22_29, u22_30, u22_33, u22_36, u22_37, u22_40, u22_41, u22_42, zk_mk_1, zk_mk_I, zk_mk_R, zk_mk_set, zk_mk_setR, zk_mk_cpy, zk_rv_some, zk_rv_none, Option.toList_some, Option.toList_none, List.cons_append, List.nil_append, reduceIte, eq_self, Nat.reduceLT, Nat.reduceEqDiff, and_true, true_and, reduceCtorEq, zsh_0, zsh_27, zrf_0_9]
      have K2 := K I2 g1
      rcases zw_0123 hw with rfl | rfl | rfl | rfl
      · exact absurd rfl w0
      · rw [c1, g3]; exact ⟨b1, K2⟩
      · rw [c2, g4]; exact ⟨b2, K2⟩
      · rw [c3, g5]; exact ⟨b3, K2⟩
  · rw [if_neg hw] at K
    have K2 := K I (zF_refl I)
    split
    · exact K2
    · next h =>
      rw [if_neg (fun q => hw ⟨Int32.not_lt.mp h, q⟩)]
      exact K2
