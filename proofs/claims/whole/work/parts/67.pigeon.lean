/-! pigeon by both: the least two heaps of one sum -/
def zpgm (f : Nat → Int32) (n : Nat) (q : Nat × Nat) : Prop := q.1 < q.2 ∧ q.2 < 2 ^ n ∧ zsum f q.1 n = zsum f q.2 n ∧ (∀ a, a < q.1 → ∀ b, a < b → b < 2 ^ n → ¬ zsum f a n = zsum f b n) ∧ ∀ b, q.1 < b → b < q.2 → ¬ zsum f q.1 n = zsum f b n
theorem zpgm_1 {f : Nat → Int32} {n : Nat} {q p : Nat × Nat} (hq : zpgm f n q) (hp : zpgm f n p) : q = p := by
  obtain ⟨q1, q2, q3, q4, q5⟩ := hq
  obtain ⟨p1, p2, p3, p4, p5⟩ := hp
  have e1 : q.1 = p.1 := by
    refine Classical.byContradiction (fun h => ?_)
    rcases (show q.1 < p.1 ∨ p.1 < q.1 by omega) with h | h
    · exact p4 q.1 h q.2 q1 q2 q3
    · exact q4 p.1 h p.2 p1 p2 p3
  have e2 : q.2 = p.2 := by
    refine Classical.byContradiction (fun h => ?_)
    rcases (show q.2 < p.2 ∨ p.2 < q.2 by omega) with h | h
    · exact p5 q.2 (by omega) h (by rw [← e1]; exact q3)
    · exact q5 p.2 (by omega) h (by rw [e1]; exact p3)
  exact Prod.ext e1 e2
def zpgv (q : Nat × Nat) (what : Int32) : Int32 := if what = 0 then nI q.1 else if what = 1 then nI q.2 else nI (q.1 &&& q.2)
noncomputable def zpg (f : Nat → Int32) (n : Nat) (what : Int32) : Int32 := @dite _ (∃ q, zpgm f n q) (Classical.propDecidable _) (fun h => zpgv (Classical.choose h) what) (fun _ => if what = 2 then 0 else -1)
theorem zpg_y {f : Nat → Int32} {n : Nat} {q : Nat × Nat} {what : Int32} (h : zpgm f n q) : zpg f n what = zpgv q what := by
  unfold zpg
  rw [dif_pos ⟨q, h⟩, zpgm_1 (Classical.choose_spec (⟨q, h⟩ : ∃ q, zpgm f n q)) h]
theorem zpg_n {f : Nat → Int32} {n : Nat} {what : Int32} (h : ∀ a b, a < b → b < 2 ^ n → ¬ zsum f a n = zsum f b n) : zpg f n what = if what = 2 then 0 else -1 := by
  unfold zpg
  rw [dif_neg (fun ⟨q, hq⟩ => h q.1 q.2 hq.1 hq.2.1 hq.2.2.1)]
noncomputable def zA_pigeon (I : Nat → Nat → Int32) (n : Nat) (T e : Nat → Nat) (what : Int32) : Int32 := if 0 ≤ what ∧ what ≤ 2 then zpg (zv_now I n T e) n what else -2
theorem zord_at {s : Nat → Int} {O : Nat → Nat} {n : Nat} (hO : zord s O n) {h : Nat} (hh : h < 2 ^ n) : ∃ j, j < 2 ^ n ∧ O j = h := by
  obtain ⟨j, hj, ej⟩ : ∃ j, j < 2 ^ n ∧ (decide (O j = h)) = true := by
    refine zct_ex (p := fun j => decide (O j = h)) ?_
    rw [hO.2.2 (fun x => decide (x = h))]
    exact zct_pos hh (decide_eq_true rfl)
  exact ⟨j, hj, of_decide_eq_true ej⟩
theorem zord_lt {s : Nat → Int} {O : Nat → Nat} {n i j : Nat} (hO : zord s O n) (hi : i < 2 ^ n) (hj : j < 2 ^ n) (h : s (O i) = s (O j)) (hlt : O i < O j) : i < j := by
  refine Classical.byContradiction (fun q => ?_)
  by_cases e : i = j
  · rw [e] at hlt; omega
  · have := hO.2.1 j i (by omega) hi
    unfold zlx at this
    omega
/-- two heaps of one sum: then two that stand side by side, from the first of them on -/
theorem zord_side {s : Nat → Int} {O : Nat → Nat} {n i j : Nat} (hO : zord s O n) (hi : i < j) (hj : j < 2 ^ n) (h : s (O i) = s (O j)) : s (O i) = s (O (i + 1)) := by
  have h1 := hO.2.1 i (i + 1) (by omega) (by omega)
  by_cases e : i + 1 = j
  · rw [e]; exact h
  · have h2 := hO.2.1 (i + 1) j (by omega) hj
    unfold zlx at h1 h2
    omega
theorem zsv_eq {f : Nat → Int32} {n x y : Nat} : zsv f n x = zsv f n y ↔ zsum f x n = zsum f y n := ⟨fun h => Int32.toInt.inj h, fun h => by unfold zsv; rw [h]⟩
theorem s80 {sc : zk_X} {d : Nat} {I : Nat → Nat → Int32} {tg : Option Nat} {P : Option Value → zk_M → Prop} {n : Nat} {f : Nat → Int32} (h10 : n ≤ 10) (hall : I 15 3 = nI (2 ^ n - 1)) (hs : ∀ h, h < 2 ^ n → I 18 h = zsum f h n) (hb : zbd f n)
    (K : ∀ I' : Nat → Nat → Int32, (∀ j, j ≠ 20 → j ≠ 21 → j ≠ 27 → I' j = I j) → I' 27 0 = zpg f n 0 → I' 27 1 = zpg f n 1 → I' 27 2 = zpg f n 2 → P none (zk_mk I' tg)) : zk_R sc (d + 2) 80 0 [some (.ref (15 : Nat)), some (.ref (27 : Nat)), none, none] [] (zk_mk I tg) P := by
  have p10 := zp_10 h10
  obtain ⟨b0, b1, b2, b3⟩ := zi_lit4
  obtain ⟨c0, c1, c2, c3⟩ := zi_cl4
  simp only [u80_0, u80_1, u80_4, u80_5, u80_6, u80_7, u80_8, u80_9, u80_10, u80_11, u80_12, u80_13, u80_14, u80_15, u80_16, u80_17, u80_19, u80_20, u80_23, u80_26, u80_27, u80_30, u80_31, u80_32, u80_33, u80_34, u80_35, u80_36, u80_39, u80_40, u80_41, u80_42, u80_45, u80_46, u80_49, u80_50, u80_51, u80_52, u80_55, u80_56, u80_57, u80_58, u80_59, u80_62, u80_63, u80_64, u80_65, u80_66, u80_69, u80_70, u80_71, u80_72, u80_73, u80_74, u80_75, u80_76, u80_79, u80_80, u80_81, u80_82, u80_83, u80_84, u80_85, u80_86, u80_89, u80_90, u80_91, u80_92, u80_93, u80_96, u80_99, zk_mk_1, zk_mk_I, zk_mk_R, zk_mk_set, zk_mk_setR, zk_mk_cpy, zk_rv_some, zk_rv_none, Option.toList_some, Option.toList_none, List.cons_append, List.nil_append, reduceIte, eq_self, Nat.reduceLT, Nat.reduceEqDiff, and_true, true_and, reduceCtorEq, zsh_15]
  refine s76 h10 hall hs hb (fun I' h1 hO => ?_)
  obtain ⟨O, hO, h2⟩ := hO
  have o1 := hO.1
  have e15 : I' 15 = I 15 := h1 15 (by decide) (by decide)
  have e18 : I' 18 = I 18 := h1 18 (by decide) (by decide)
  have loop := zl_up (τ := (Nat → Nat → Int32) × Option Value) (fun i q => zk_R sc (d + 2) 80 18 [some (.ref (15 : Nat)), some (.ref (27 : Nat)), some (.int (nI i)), q.2] [] (zk_mk q.1 tg) P)
    (fun i q => 1 ≤ i ∧ (∀ j, j ≠ 27 → q.1 j = I' j) ∧ ((q.1 27 0 = -1 ∧ q.1 27 1 = -1 ∧ q.1 27 2 = 0 ∧ ∀ j, j + 1 < i → ¬ zsum f (O j) n = zsum f (O (j + 1)) n) ∨ ∃ p, p + 1 < i ∧ zsum f (O p) n = zsum f (O (p + 1)) n ∧ q.1 27 0 = nI (O p) ∧ q.1 27 1 = nI (O (p + 1)) ∧ q.1 27 2 = nI (O p &&& O (p + 1)) ∧ ∀ j, j + 1 < i → zsum f (O j) n = zsum f (O (j + 1)) n → O p ≤ O j)) (2 ^ n) (by
      rintro ⟨I2, x⟩ ⟨g0, g1, g2⟩
      have g1 : ∀ j, j ≠ 27 → I2 j = I' j := g1
      have e15' : I2 15 = I 15 := by rw [g1 15 (by decide), e15]
      have hcond : nI (2 ^ n - 1) < nI (2 ^ n) := by rw [zn_lt (by omega) (by omega)]; omega
      have hcond2 : ¬ nI (2 ^ n) ≤ nI (2 ^ n - 1) := Int32.not_le.mpr hcond
      show zk_R sc (d + 2) 80 18 [some (.ref (15 : Nat)), some (.ref (27 : Nat)), some (.int (nI (2 ^ n))), x] [] (zk_mk I2 tg) P
      rw [u80_18]
      simp only [u80_0, u80_1, u80_4, u80_5, u80_6, u80_7, u80_8, u80_9, u80_10, u80_11, u80_12, u80_13, u80_14, u80_15, u80_16, u80_17, u80_19, u80_20, u80_23, u80_26, u80_27, u80_30, u80_31, u80_32, u80_33, u80_34, u80_35, u80_36, u80_39, u80_40, u80_41, u80_42, u80_45, u80_46, u80_49, u80_50, u80_51, u80_52, u80_55, u80_56, u80_57, u80_58, u80_59, u80_62, u80_63, u80_64, u80_65, u80_66, u80_69, u80_70, u80_71, u80_72, u80_73, u80_74, u80_75, u80_76, u80_79, u80_80, u80_81, u80_82, u80_83, u80_84, u80_85, u80_86, u80_89, u80_90, u80_91, u80_92, u80_93, u80_96, u80_99, zk_mk_1, zk_mk_I, zk_mk_R, zk_mk_set, zk_mk_setR, zk_mk_cpy, zk_rv_some, zk_rv_none, Option.toList_some, Option.toList_none, List.cons_append, List.nil_append, reduceIte, eq_self, Nat.reduceLT, Nat.reduceEqDiff, and_true, true_and, reduceCtorEq, zsh_15, e15', hall, hcond, hcond2]
      have hfr : ∀ j, j ≠ 20 → j ≠ 21 → j ≠ 27 → I2 j = I j := fun j j1 j2 j3 => by rw [g1 j j3, h1 j j1 j2]
      rcases g2 with ⟨m0, m1, m2, m3⟩ | ⟨p, hp, he, m0, m1, m2, m3⟩
      · have hno : ∀ a b, a < b → b < 2 ^ n → ¬ zsum f a n = zsum f b n := by
          intro a b hab hbn hs2
          obtain ⟨i, hi, rfl⟩ := zord_at hO (show a < 2 ^ n by omega)
          obtain ⟨j, hj, rfl⟩ := zord_at hO hbn
          have hij := zord_lt hO hi hj (zsv_eq.mpr hs2) hab
          exact m3 i (by omega) (zsv_eq.mp (zord_side hO hij hj (zsv_eq.mpr hs2)))
        refine K I2 hfr ?_ ?_ ?_
        · rw [zpg_n hno]; exact m0
        · rw [zpg_n hno]; exact m1
        · rw [zpg_n hno]; exact m2
      · have hm : zpgm f n (O p, O (p + 1)) := by
          have hx := hO.2.1 p (p + 1) (by omega) hp
          have he2 := zsv_eq.mpr he
          refine ⟨?_, o1 _ hp, he, fun a ha b hab hbn hs2 => ?_, fun b hb1 hb2 hs2 => ?_⟩
          · show O p < O (p + 1)
            unfold zlx at hx; omega
          · have ha : a < O p := ha
            have := o1 p (by omega)
            obtain ⟨i, hi, rfl⟩ := zord_at hO (show a < 2 ^ n by omega)
            obtain ⟨j, hj, rfl⟩ := zord_at hO hbn
            have hij := zord_lt hO hi hj (zsv_eq.mpr hs2) hab
            have := m3 i (by omega) (zsv_eq.mp (zord_side hO hij hj (zsv_eq.mpr hs2)))
            omega
          · have hb1 : O p < b := hb1
            have hb2 : b < O (p + 1) := hb2
            have hs2 : zsum f (O p) n = zsum f b n := hs2
            have := o1 (p + 1) hp
            obtain ⟨j, hj, rfl⟩ := zord_at hO (show b < 2 ^ n by omega)
            have q1 := zord_lt hO (by omega) hj (zsv_eq.mpr hs2) hb1
            have q2 := zord_lt hO hj hp (by rw [← zsv_eq.mpr hs2]; exact he2) hb2
            omega
        refine K I2 hfr ?_ ?_ ?_
        · rw [zpg_y hm]; exact m0
        · rw [zpg_y hm]; exact m1
        · rw [zpg_y hm]; exact m2) (by
      rintro i ⟨I2, x⟩ hi ⟨g0, g1, g2⟩ ih
      have g0 : 1 ≤ i := g0
      have g1 : ∀ j, j ≠ 27 → I2 j = I' j := g1
      obtain ⟨j, rfl⟩ : ∃ j, i = j + 1 := ⟨i - 1, by omega⟩
      have e15' : I2 15 = I 15 := by rw [g1 15 (by decide), e15]
      have e18' : I2 18 = I 18 := by rw [g1 18 (by decide), e18]
      have e20 : I2 20 = I' 20 := g1 20 (by decide)
      have hcond : ¬ nI (2 ^ n - 1) < nI (j + 1) := by rw [zn_lt (by omega) (by omega)]; omega
      have hcond2 : nI (j + 1) ≤ nI (2 ^ n - 1) := Int32.not_lt.mp hcond
      have e1 : nI (j + 1) - 1 = nI j := zn_sub (b := 1) (by omega)
      have a1 := o1 (j + 1) hi
      have a2 := o1 j (by omega)
      have z1 : zk_inb (nI (j + 1)) 1024 = true := by rw [zn_in (by omega)]; omega
      have z2 : (nI (j + 1)).toNatClampNeg = j + 1 := zn_cl (by omega)
      have z3 : zk_inb (nI j) 1024 = true := by rw [zn_in (by omega)]; omega
      have z4 : (nI j).toNatClampNeg = j := zn_cl (by omega)
      have z5 : zk_inb (nI (O (j + 1))) 1024 = true := by rw [zn_in (by omega)]; omega
      have z6 : (nI (O (j + 1))).toNatClampNeg = O (j + 1) := zn_cl (by omega)
      have z7 : zk_inb (nI (O j)) 1024 = true := by rw [zn_in (by omega)]; omega
      have z8 : (nI (O j)).toNatClampNeg = O j := zn_cl (by omega)
      show zk_R sc (d + 2) 80 18 [some (.ref (15 : Nat)), some (.ref (27 : Nat)), some (.int (nI (j + 1))), x] [] (zk_mk I2 tg) P
      -- the pair at this place is taken
      have take : zsum f (O j) n = zsum f (O (j + 1)) n → (∀ k, k + 1 < j + 1 → zsum f (O k) n = zsum f (O (k + 1)) n → O j ≤ O k) → ∀ x, zk_R sc (d + 2) 80 18 [some (.ref (15 : Nat)), some (.ref (27 : Nat)), some (.int (nI (j + 1 + 1))), x] [] (zk_mk (zk_up2 (zk_up2 (zk_up2 I2 27 0 (nI (O j))) 27 1 (nI (O (j + 1)))) 27 2 (nI (O j &&& O (j + 1)))) tg) P := by
        intro hc hl x
        refine ih (zk_up2 (zk_up2 (zk_up2 I2 27 0 (nI (O j))) 27 1 (nI (O (j + 1)))) 27 2 (nI (O j &&& O (j + 1))), x) ⟨by omega, fun k hk => ?_, Or.inr ⟨j, by omega, hc, ?_, ?_, ?_, fun k hk hek => ?_⟩⟩
        · show zk_up2 (zk_up2 (zk_up2 I2 27 0 (nI (O j))) 27 1 (nI (O (j + 1)))) 27 2 (nI (O j &&& O (j + 1))) k = I' k
          rw [zk_up2_r hk, zk_up2_r hk, zk_up2_r hk]; exact g1 k hk
        · show zk_up2 (zk_up2 (zk_up2 I2 27 0 (nI (O j))) 27 1 (nI (O (j + 1)))) 27 2 (nI (O j &&& O (j + 1))) 27 0 = _
          rw [zk_up2_j (by decide), zk_up2_j (by decide), zk_up2_s]
        · show zk_up2 (zk_up2 (zk_up2 I2 27 0 (nI (O j))) 27 1 (nI (O (j + 1)))) 27 2 (nI (O j &&& O (j + 1))) 27 1 = _
          rw [zk_up2_j (by decide), zk_up2_s]
        · show zk_up2 (zk_up2 (zk_up2 I2 27 0 (nI (O j))) 27 1 (nI (O (j + 1)))) 27 2 (nI (O j &&& O (j + 1))) 27 2 = _
          rw [zk_up2_s]
        · by_cases e : k = j
          · rw [e]; exact Nat.le_refl _
          · exact hl k (by omega) hek
      rw [u80_18]
      simp only [u80_0, u80_1, u80_4, u80_5, u80_6, u80_7, u80_8, u80_9, u80_10, u80_11, u80_12, u80_13, u80_14, u80_15, u80_16, u80_17, u80_19, u80_20, u80_23, u80_26, u80_27, u80_30, u80_31, u80_32, u80_33, u80_34, u80_35, u80_36, u80_39, u80_40, u80_41, u80_42, u80_45, u80_46, u80_49, u80_50, u80_51, u80_52, u80_55, u80_56, u80_57, u80_58, u80_59, u80_62, u80_63, u80_64, u80_65, u80_66, u80_69, u80_70, u80_71, u80_72, u80_73, u80_74, u80_75, u80_76, u80_79, u80_80, u80_81, u80_82, u80_83, u80_84, u80_85, u80_86, u80_89, u80_90, u80_91, u80_92, u80_93, u80_96, u80_99, zk_mk_1, zk_mk_I, zk_mk_R, zk_mk_set, zk_mk_setR, zk_mk_cpy, zk_rv_some, zk_rv_none, Option.toList_some, Option.toList_none, List.cons_append, List.nil_append, reduceIte, eq_self, Nat.reduceLT, Nat.reduceEqDiff, and_true, true_and, reduceCtorEq, zsh_15, zsh_18, zsh_20, zsh_27, zrf_15_2, zrf_15_5, e15', hall, hcond, hcond2, e18', e20, e1, z1, z2, z3, z4, h2 (j + 1) hi, h2 j (by omega), z5, z6, z7, z8, hs _ a1, hs _ a2, b0, b1, b2, c0, c1, c2, zk_up2_k (show (15 : Nat) ≠ 27 by decide), zk_up2_k (show (20 : Nat) ≠ 27 by decide), zq_and, nI_1]
      by_cases hc : zsum f (O j) n = zsum f (O (j + 1)) n
      · rw [if_pos hc]
        rcases g2 with ⟨m0, m1, m2, m3⟩ | ⟨p, hp, he, m0, m1, m2, m3⟩
        · have m0 : I2 27 0 = -1 := m0
          rw [if_pos m0]
          exact take hc (fun k hk hek => absurd hek (m3 k hk)) _
        · have m0 : I2 27 0 = nI (O p) := m0
          have hop := o1 p (by omega)
          rw [m0, if_neg (show ¬ nI (O p) = -1 by rw [zn_m1 (by omega)]; exact id)]
          by_cases hlt : O j < O p
          · have hlt2 : nI (O j) < nI (O p) := by rw [zn_lt (by omega) (by omega)]; exact hlt
            first | rw [if_pos hlt2] | rw [if_neg (Int32.not_le.mpr hlt2)]
            exact take hc (fun k hk hek => by have := m3 k hk hek; omega) _
          · have hlt2 : nI (O p) ≤ nI (O j) := by rw [zn_le (by omega) (by omega)]; omega
            first | rw [if_pos hlt2] | rw [if_neg (Int32.not_lt.mpr hlt2)]
            refine ih (I2, _) ⟨by omega, g1, Or.inr ⟨p, by omega, he, m0, m1, m2, fun k hk hek => ?_⟩⟩
            by_cases e : k = j
            · rw [e]; omega
            · exact m3 k (by omega) hek
      · rw [if_neg hc]
        refine ih (I2, _) ⟨by omega, g1, ?_⟩
        rcases g2 with ⟨m0, m1, m2, m3⟩ | ⟨p, hp, he, m0, m1, m2, m3⟩
        · refine Or.inl ⟨m0, m1, m2, fun k hk => ?_⟩
          by_cases e : k = j
          · rw [e]; exact hc
          · exact m3 k (by omega)
        · refine Or.inr ⟨p, by omega, he, m0, m1, m2, fun k hk hek => ?_⟩
          by_cases e : k = j
          · rw [e] at hek; exact absurd hek hc
          · exact m3 k (by omega) hek)
  simp only [u80_0, u80_1, u80_4, u80_5, u80_6, u80_7, u80_8, u80_9, u80_10, u80_11, u80_12, u80_13, u80_14, u80_15, u80_16, u80_17, u80_19, u80_20, u80_23, u80_26, u80_27, u80_30, u80_31, u80_32, u80_33, u80_34, u80_35, u80_36, u80_39, u80_40, u80_41, u80_42, u80_45, u80_46, u80_49, u80_50, u80_51, u80_52, u80_55, u80_56, u80_57, u80_58, u80_59, u80_62, u80_63, u80_64, u80_65, u80_66, u80_69, u80_70, u80_71, u80_72, u80_73, u80_74, u80_75, u80_76, u80_79, u80_80, u80_81, u80_82, u80_83, u80_84, u80_85, u80_86, u80_89, u80_90, u80_91, u80_92, u80_93, u80_96, u80_99, zk_mk_1, zk_mk_I, zk_mk_R, zk_mk_set, zk_mk_setR, zk_mk_cpy, zk_rv_some, zk_rv_none, Option.toList_some, Option.toList_none, List.cons_append, List.nil_append, reduceIte, eq_self, Nat.reduceLT, Nat.reduceEqDiff, and_true, true_and, reduceCtorEq, zsh_27, b0, b1, b2, c0, c1, c2]
  refine loop 1 (zk_up2 (zk_up2 (zk_up2 I' 27 0 (-1)) 27 1 (-1)) 27 2 0, none) p10.1 ⟨Nat.le_refl _, fun j hj => ?_, Or.inl ⟨?_, ?_, ?_, fun j hj => by omega⟩⟩
  · show zk_up2 (zk_up2 (zk_up2 I' 27 0 (-1)) 27 1 (-1)) 27 2 0 j = I' j
    rw [zk_up2_r hj, zk_up2_r hj, zk_up2_r hj]
  · show zk_up2 (zk_up2 (zk_up2 I' 27 0 (-1)) 27 1 (-1)) 27 2 0 27 0 = _
    rw [zk_up2_j (by decide), zk_up2_j (by decide), zk_up2_s]
  · show zk_up2 (zk_up2 (zk_up2 I' 27 0 (-1)) 27 1 (-1)) 27 2 0 27 1 = _
    rw [zk_up2_j (by decide), zk_up2_s]
  · show zk_up2 (zk_up2 (zk_up2 I' 27 0 (-1)) 27 1 (-1)) 27 2 0 27 2 = _
    rw [zk_up2_s]
theorem s34 {sc : zk_X} {d : Nat} {I : Nat → Nat → Int32} {tg : Option Nat} {P : Option Value → zk_M → Prop} {n t : Nat} {T e : Nat → Nat} {what : Int32} (hq : zj_q I n t T e)
    (K : ∀ I' : Nat → Nat → Int32, zF I I' → P (some (.int (zA_pigeon I n T e what))) (zk_mk I' tg)) : zk_R sc (d + 6) 34 0 [some (.ref (0 : Nat)), some (.int what)] [] (zk_mk I tg) P := by
  obtain ⟨hj, hl, hr, ht, hx⟩ := hq
  obtain ⟨b0, b1, b2, b3⟩ := zi_lit4
  obtain ⟨c0, c1, c2, c3⟩ := zi_cl4
  unfold zA_pigeon at K
  simp only [u34_0, u34_1, u34_4, u34_5, u34_6, u34_9, u34_11, u34_12, u34_13, u34_16, u34_17, u34_20, u34_21, u34_24, u34_27, u34_28, u34_31, u34_32, u34_33, zk_mk_1, zk_mk_I, zk_mk_R, zk_mk_set, zk_mk_setR, zk_mk_cpy, zk_rv_some, zk_rv_none, Option.toList_some, Option.toList_none, List.cons_append, List.nil_append, reduceIte, eq_self, Nat.reduceLT, Nat.reduceEqDiff, and_true, true_and, reduceCtorEq, zsh_0]
  by_cases hw : 0 ≤ what ∧ what ≤ 2
  · rw [if_pos hw] at K
    rw [if_neg (Int32.not_lt.mpr hw.1), if_pos hw.2]
    refine s21 hj ht hl hx (fun I' h1 h2 h3 h4 => ?_)
    simp only [u34_0, u34_1, u34_4, u34_5, u34_6, u34_9, u34_11, u34_12, u34_13, u34_16, u34_17, u34_20, u34_21, u34_24, u34_27, u34_28, u34_31, u34_32, u34_33, zk_mk_1, zk_mk_I, zk_mk_R, zk_mk_set, zk_mk_setR, zk_mk_cpy, zk_rv_some, zk_rv_none, Option.toList_some, Option.toList_none, List.cons_append, List.nil_append, reduceIte, eq_self, Nat.reduceLT, Nat.reduceEqDiff, and_true, true_and, reduceCtorEq, zsh_0, zsh_15, zrf_0_7, zrf_0_9]
    refine s80 hj.2.2.1 h3 (fun h hh => (h4 h hh).1) (zv_now_bd hj) (fun I2 g1 g2 g3 g4 => ?_)
    have K2 := K I2 (h1.trans (fun j hj => g1 j (by have := zKp_no hj; omega) (by have := zKp_no hj; omega) (by have := zKp_no hj; omega)))
    simp only [u34_0, u34_1, u34_4, u34_5, u34_6, u34_9, u34_11, u34_12, u34_13, u34_16, u34_17, u34_20, u34_21, u34_24, u34_27, u34_28, u34_31, u34_32, u34_33, zk_mk_1, zk_mk_I, zk_mk_R, zk_mk_set, zk_mk_setR, zk_mk_cpy, zk_rv_some, zk_rv_none, Option.toList_some, Option.toList_none, List.cons_append, List.nil_append, reduceIte, eq_self, Nat.reduceLT, Nat.reduceEqDiff, and_true, true_and, reduceCtorEq, zsh_0, zsh_27, zrf_0_9]
    rcases zw_012 hw with rfl | rfl | rfl
    · rw [c0, g2]; exact ⟨b0, K2⟩
    · rw [c1, g3]; exact ⟨b1, K2⟩
    · rw [c2, g4]; exact ⟨b2, K2⟩
  · rw [if_neg hw] at K
    have K2 := K I (zF_refl I)
    split
    · exact K2
    · next h =>
      rw [if_neg (fun q => hw ⟨Int32.not_lt.mp h, q⟩)]
      exact K2
theorem s185 {sc : zk_X} {d : Nat} {I : Nat → Nat → Int32} {tg : Option Nat} {P : Option Value → zk_M → Prop} {n t : Nat} {T e : Nat → Nat} {what : Int32} (hq : zj_q I n t T e)
    (K : ∀ I' : Nat → Nat → Int32, zF I I' → P (some (.int (zA_pigeon I n T e what))) (zk_mk I' tg)) : zk_R sc (d + 6) 185 0 [some (.ref (60 : Nat)), some (.int what), none, none] [] (zk_mk I tg) P := by
  obtain ⟨hj, hl, hr, ht, hx⟩ := hq
  have h10 := hj.2.2.1
  have p10 := zp_10 h10
  unfold zA_pigeon at K
  simp only [u185_0, u185_1, u185_2, u185_3, u185_6, u185_9, u185_11, u185_12, u185_13, u185_16, u185_17, u185_19, u185_20, u185_23, u185_26, u185_27, u185_28, u185_29, u185_31, u185_32, u185_35, u185_38, u185_39, u185_42, u185_43, u185_44, u185_45, u185_48, u185_49, u185_50, u185_53, u185_54, u185_57, u185_58, u185_61, u185_62, u185_63, u185_66, u185_67, u185_70, u185_71, u185_72, u185_73, u185_74, u185_77, u185_80, u185_83, u185_86, u185_87, u185_88, u185_91, u185_92, u185_95, u185_96, zk_mk_1, zk_mk_I, zk_mk_R, zk_mk_set, zk_mk_setR, zk_mk_cpy, zk_rv_some, zk_rv_none, Option.toList_some, Option.toList_none, List.cons_append, List.nil_append, reduceIte, eq_self, Nat.reduceLT, Nat.reduceEqDiff, and_true, true_and, reduceCtorEq, zsh_60, s129, zb_z]
  by_cases hw : 0 ≤ what ∧ what ≤ 2
  · rw [if_neg (fun q => q hw)]
    rw [if_pos hw] at K
    refine s162 hj ht hr hx (fun I' h1 h2 h3 => ?_)
    have hn' : I' 60 0 = nI n := (h1.tab hj).2.1
    have eall : (1 : Int32) <<< (nI n &&& 31) - 1 = nI (2 ^ n - 1) := by rw [zq_all h10]; exact zn_sub (b := 1) (by omega)
    have K2 := K I' h1
    generalize zv_now I n T e = f at *
    have hcE : nI (2 ^ n - 1) < nI (2 ^ n) := by rw [zn_lt (by omega) (by omega)]; omega
    have hcE2 : ¬ nI (2 ^ n) ≤ nI (2 ^ n - 1) := Int32.not_le.mpr hcE
    have hcI : ∀ a, a < 2 ^ n → ¬ nI (2 ^ n - 1) < nI a := fun a ha => by rw [zn_lt (by omega) (by omega)]; omega
    have hcI2 : ∀ a, a < 2 ^ n → nI a ≤ nI (2 ^ n - 1) := fun a ha => Int32.not_lt.mp (hcI a ha)
    have z1 : ∀ a, a < 2 ^ n → zk_inb (nI a) 1024 = true := fun a ha => by rw [zn_in (by omega)]; omega
    have z2 : ∀ a, a < 2 ^ n → (nI a).toNatClampNeg = a := fun a ha => zn_cl (by omega)
    have outer := zl_up (τ := Option Value) (fun a x => zk_R sc (d + 6) 185 18 [some (.ref (60 : Nat)), some (.int what), some (.int (nI a)), x] [] (zk_mk I' tg) P)
      (fun a _ => ∀ a', a' < a → ∀ b, a' < b → b < 2 ^ n → ¬ zsum f a' n = zsum f b n) (2 ^ n) (by
        intro x hno
        rw [zpg_n (fun a b hab hb => hno a (by omega) b hab hb)] at K2
        rw [u185_18]
        simp only [u185_0, u185_1, u185_2, u185_3, u185_6, u185_9, u185_11, u185_12, u185_13, u185_16, u185_17, u185_19, u185_20, u185_23, u185_26, u185_27, u185_28, u185_29, u185_31, u185_32, u185_35, u185_38, u185_39, u185_42, u185_43, u185_44, u185_45, u185_48, u185_49, u185_50, u185_53, u185_54, u185_57, u185_58, u185_61, u185_62, u185_63, u185_66, u185_67, u185_70, u185_71, u185_72, u185_73, u185_74, u185_77, u185_80, u185_83, u185_86, u185_87, u185_88, u185_91, u185_92, u185_95, u185_96, zk_mk_1, zk_mk_I, zk_mk_R, zk_mk_set, zk_mk_setR, zk_mk_cpy, zk_rv_some, zk_rv_none, Option.toList_some, Option.toList_none, List.cons_append, List.nil_append, reduceIte, eq_self, Nat.reduceLT, Nat.reduceEqDiff, and_true, true_and, reduceCtorEq, zsh_60, s161, hn', eall, hcE, hcE2]
        by_cases w2 : what = 2
        · rw [if_pos w2] at K2 ⊢; exact K2
        · rw [if_neg w2] at K2 ⊢; exact K2) (by
        intro a x ha hno ih
        have inner := zl_up (τ := Unit) (fun b _ => zk_R sc (d + 6) 185 30 [some (.ref (60 : Nat)), some (.int what), some (.int (nI a)), some (.int (nI b))] [] (zk_mk I' tg) P)
          (fun b _ => a < b ∧ ∀ b', a < b' → b' < b → ¬ zsum f a n = zsum f b' n) (2 ^ n) (by
            rintro _ ⟨hab, hno2⟩
            rw [u185_30]
            simp only [u185_0, u185_1, u185_2, u185_3, u185_6, u185_9, u185_11, u185_12, u185_13, u185_16, u185_17, u185_19, u185_20, u185_23, u185_26, u185_27, u185_28, u185_29, u185_31, u185_32, u185_35, u185_38, u185_39, u185_42, u185_43, u185_44, u185_45, u185_48, u185_49, u185_50, u185_53, u185_54, u185_57, u185_58, u185_61, u185_62, u185_63, u185_66, u185_67, u185_70, u185_71, u185_72, u185_73, u185_74, u185_77, u185_80, u185_83, u185_86, u185_87, u185_88, u185_91, u185_92, u185_95, u185_96, zk_mk_1, zk_mk_I, zk_mk_R, zk_mk_set, zk_mk_setR, zk_mk_cpy, zk_rv_some, zk_rv_none, Option.toList_some, Option.toList_none, List.cons_append, List.nil_append, reduceIte, eq_self, Nat.reduceLT, Nat.reduceEqDiff, and_true, true_and, reduceCtorEq, zsh_60, s161, hn', eall, hcE, hcE2, nI_1]
            exact ih _ (fun a' ha' b hb hbn => by
              by_cases e : a' = a
              · subst e; exact hno2 b hb hbn
              · exact hno a' (by omega) b hb hbn)) (by
            rintro b _ hb ⟨hab, hno2⟩ ih2
            rw [u185_30]
            simp only [u185_0, u185_1, u185_2, u185_3, u185_6, u185_9, u185_11, u185_12, u185_13, u185_16, u185_17, u185_19, u185_20, u185_23, u185_26, u185_27, u185_28, u185_29, u185_31, u185_32, u185_35, u185_38, u185_39, u185_42, u185_43, u185_44, u185_45, u185_48, u185_49, u185_50, u185_53, u185_54, u185_57, u185_58, u185_61, u185_62, u185_63, u185_66, u185_67, u185_70, u185_71, u185_72, u185_73, u185_74, u185_77, u185_80, u185_83, u185_86, u185_87, u185_88, u185_91, u185_92, u185_95, u185_96, zk_mk_1, zk_mk_I, zk_mk_R, zk_mk_set, zk_mk_setR, zk_mk_cpy, zk_rv_some, zk_rv_none, Option.toList_some, Option.toList_none, List.cons_append, List.nil_append, reduceIte, eq_self, Nat.reduceLT, Nat.reduceEqDiff, and_true, true_and, reduceCtorEq, zsh_60, zsh_78, zrf_60_31, s161, hn', eall, hcI b hb, hcI2 b hb, z1 a ha, z2 a ha, z1 b hb, z2 b hb, (h3 a ha).1, (h3 b hb).1, zq_and, nI_1]
            by_cases hc : zsum f a n = zsum f b n
            · rw [if_pos hc]
              have hm : zpgm f n (a, b) := ⟨hab, hb, hc, hno, hno2⟩
              rw [zpg_y hm] at K2
              unfold zpgv at K2
              by_cases w0 : what = 0
              · rw [if_pos w0] at K2 ⊢; exact K2
              · rw [if_neg w0] at K2 ⊢
                by_cases w1 : what = 1
                · rw [if_pos w1] at K2 ⊢; exact K2
                · rw [if_neg w1] at K2 ⊢; exact K2
            · rw [if_neg hc]
              exact ih2 () ⟨by omega, fun b' h5 h6 => by
                by_cases e : b' = b
                · rw [e]; exact hc
                · exact hno2 b' h5 (by omega)⟩)
        rw [u185_18]
        simp only [u185_0, u185_1, u185_2, u185_3, u185_6, u185_9, u185_11, u185_12, u185_13, u185_16, u185_17, u185_19, u185_20, u185_23, u185_26, u185_27, u185_28, u185_29, u185_31, u185_32, u185_35, u185_38, u185_39, u185_42, u185_43, u185_44, u185_45, u185_48, u185_49, u185_50, u185_53, u185_54, u185_57, u185_58, u185_61, u185_62, u185_63, u185_66, u185_67, u185_70, u185_71, u185_72, u185_73, u185_74, u185_77, u185_80, u185_83, u185_86, u185_87, u185_88, u185_91, u185_92, u185_95, u185_96, zk_mk_1, zk_mk_I, zk_mk_R, zk_mk_set, zk_mk_setR, zk_mk_cpy, zk_rv_some, zk_rv_none, Option.toList_some, Option.toList_none, List.cons_append, List.nil_append, reduceIte, eq_self, Nat.reduceLT, Nat.reduceEqDiff, and_true, true_and, reduceCtorEq, zsh_60, s161, hn', eall, hcI a ha, hcI2 a ha, nI_1]
        exact inner (a + 1) () ha ⟨Nat.lt_succ_self _, fun b' h5 h6 => by omega⟩)
    simp only [u185_0, u185_1, u185_2, u185_3, u185_6, u185_9, u185_11, u185_12, u185_13, u185_16, u185_17, u185_19, u185_20, u185_23, u185_26, u185_27, u185_28, u185_29, u185_31, u185_32, u185_35, u185_38, u185_39, u185_42, u185_43, u185_44, u185_45, u185_48, u185_49, u185_50, u185_53, u185_54, u185_57, u185_58, u185_61, u185_62, u185_63, u185_66, u185_67, u185_70, u185_71, u185_72, u185_73, u185_74, u185_77, u185_80, u185_83, u185_86, u185_87, u185_88, u185_91, u185_92, u185_95, u185_96, zk_mk_1, zk_mk_I, zk_mk_R, zk_mk_set, zk_mk_setR, zk_mk_cpy, zk_rv_some, zk_rv_none, Option.toList_some, Option.toList_none, List.cons_append, List.nil_append, reduceIte, eq_self, Nat.reduceLT, Nat.reduceEqDiff, and_true, true_and, reduceCtorEq]
    exact outer 0 none (Nat.zero_le _) (fun a' h5 => absurd h5 (Nat.not_lt_zero _))
  · rw [if_pos hw]
    rw [if_neg hw] at K
    exact K I (zF_refl I)
