/-! key -/
def zkey (f : Nat → Int32) (n : Nat) (sum : Int32) : Nat → Nat × Int32 × Nat × Nat
  | 0 => (0, -1, 2 ^ n - 1, 0)
  | h + 1 => if zsum f h n = sum then ((zkey f n sum h).1 + 1, (if (zkey f n sum h).1 = 0 then nI h else (zkey f n sum h).2.1), (zkey f n sum h).2.2.1 &&& h, (zkey f n sum h).2.2.2 ||| h) else zkey f n sum h
theorem zkey_le (f : Nat → Int32) (n : Nat) (sum : Int32) : ∀ h, (zkey f n sum h).1 ≤ h
  | 0 => Nat.le_refl _
  | h + 1 => by
    have := zkey_le f n sum h
    rw [zkey]
    split
    · show (zkey f n sum h).1 + 1 ≤ h + 1; omega
    · omega
def zA_key4 (n : Nat) (q : Nat × Int32 × Nat × Nat) (what : Int32) : Int32 := if what = 0 then nI q.1 else if what = 1 then q.2.1 else if q.1 = 0 then 0 else if what = 2 then nI q.2.2.1 else nI (zdf (2 ^ n - 1) q.2.2.2)
def zA_key (I : Nat → Nat → Int32) (n : Nat) (T e : Nat → Nat) (sum what : Int32) : Int32 := if 0 ≤ what ∧ what ≤ 3 then zA_key4 n (zkey (zv_now I n T e) n sum (2 ^ n)) what else -2
theorem zi_lit4 : zk_inb (0 : Int32) 4 = true ∧ zk_inb (1 : Int32) 4 = true ∧ zk_inb (2 : Int32) 4 = true ∧ zk_inb (3 : Int32) 4 = true := by decide
theorem zi_cl4 : (0 : Int32).toNatClampNeg = 0 ∧ (1 : Int32).toNatClampNeg = 1 ∧ (2 : Int32).toNatClampNeg = 2 ∧ (3 : Int32).toNatClampNeg = 3 := by decide
theorem s79 {sc : zk_X} {d : Nat} {I : Nat → Nat → Int32} {tg : Option Nat} {P : Option Value → zk_M → Prop} {n : Nat} {f : Nat → Int32} {sum : Int32} (h10 : n ≤ 10) (hall : I 15 3 = nI (2 ^ n - 1)) (hs : ∀ h, h < 2 ^ n → I 18 h = zsum f h n)
    (K : ∀ I' : Nat → Nat → Int32, (∀ j, j ≠ 27 → I' j = I j) → I' 27 0 = zA_key4 n (zkey f n sum (2 ^ n)) 0 → I' 27 1 = zA_key4 n (zkey f n sum (2 ^ n)) 1 → I' 27 2 = zA_key4 n (zkey f n sum (2 ^ n)) 2 → I' 27 3 = zA_key4 n (zkey f n sum (2 ^ n)) 3 → P none (zk_mk I' tg)) : zk_R sc d 79 0 [some (.ref (15 : Nat)), some (.int sum), some (.ref (27 : Nat)), none, none, none] [] (zk_mk I tg) P := by
  have p10 := zp_10 h10
  obtain ⟨b0, b1, b2, b3⟩ := zi_lit4
  obtain ⟨c0, c1, c2, c3⟩ := zi_cl4
  have loop := zl_up (τ := (Nat → Nat → Int32) × Int32 × Int32) (fun i q => zk_R sc d 79 19 [some (.ref (15 : Nat)), some (.int sum), some (.ref (27 : Nat)), some (.int q.2.1), some (.int q.2.2), some (.int (nI i))] [] (zk_mk q.1 tg) P)
    (fun i q => (∀ j, j ≠ 27 → q.1 j = I j) ∧ q.1 27 0 = nI (zkey f n sum i).1 ∧ q.1 27 1 = (zkey f n sum i).2.1 ∧ q.2.1 = nI (zkey f n sum i).2.2.1 ∧ q.2.2 = nI (zkey f n sum i).2.2.2) (2 ^ n) (by
      rintro ⟨I', x, y⟩ ⟨h1, h2, h3, h4, h5⟩
      have h4' : x = nI (zkey f n sum (2 ^ n)).2.2.1 := h4
      have h5' : y = nI (zkey f n sum (2 ^ n)).2.2.2 := h5
      subst h4'
      subst h5'
      have e15 : I' 15 = I 15 := h1 15 (by decide)
      have h2' : I' 27 0 = nI (zkey f n sum (2 ^ n)).1 := h2
      have h3' : I' 27 1 = (zkey f n sum (2 ^ n)).2.1 := h3
      have hle := zkey_le f n sum (2 ^ n)
      show zk_R sc d 79 19 [some (.ref (15 : Nat)), some (.int sum), some (.ref (27 : Nat)), some (.int (nI (zkey f n sum (2 ^ n)).2.2.1)), some (.int (nI (zkey f n sum (2 ^ n)).2.2.2)), some (.int (nI (2 ^ n)))] [] (zk_mk I' tg) P
      rw [u79_19]
      simp only [u79_0, u79_1, u79_2, u79_3, u79_4, u79_5, u79_6, u79_7, u79_8, u79_9, u79_12, u79_13, u79_14, u79_16, u79_17, u79_21, u79_22, u79_25, u79_28, u79_29, u79_32, u79_34, u79_35, u79_36, u79_39, u79_40, u79_41, u79_42, u79_43, u79_44, u79_45, u79_46, u79_47, u79_48, u79_49, u79_50, u79_51, u79_52, u79_55, u79_57, u79_60, u79_61, u79_62, u79_63, u79_64, u79_65, u79_67, u79_68, u79_69, u79_71, u79_73, u79_74, u79_76, u79_79, u79_82, u79_83, u79_84, u79_85, u79_86, u79_87, u79_90, u79_91, u79_94, u79_95, u79_96, u79_97, u79_98, u79_99, u79_100, u79_101, u79_104, u79_105, u79_108, u79_109, u79_112, u79_114, u79_115, u79_116, u79_117, u79_118, zk_mk_1, zk_mk_I, zk_mk_R, zk_mk_set, zk_mk_setR, zk_mk_cpy, zk_rv_some, zk_rv_none, Option.toList_some, Option.toList_none, List.cons_append, List.nil_append, reduceIte, eq_self, Nat.reduceLT, Nat.reduceEqDiff, and_true, true_and, reduceCtorEq, zsh_15, zsh_27, e15, hall, b0, b1, b2, b3, c0, c1, c2, c3, zk_up2_s, zk_up2_i, show ((0 : Nat) = 2) = False from by decide, show ((15 : Nat) ≠ 27) = True from by decide, zk_up2_k (show (15 : Nat) ≠ 27 by decide), h2', zq_andn]
      have hcond : nI (2 ^ n - 1) < nI (2 ^ n) := by rw [zn_lt (by omega) (by omega)]; omega
      first | rw [if_pos hcond] | rw [if_neg (Int32.not_le.mpr hcond)]
      generalize zkey f n sum (2 ^ n) = q at *
      obtain ⟨q1, q2, q3, q4⟩ := q
      by_cases hz : q1 = 0
      · subst hz
        rw [if_pos (show nI 0 = 0 from rfl)]
        refine K _ (fun j hj => ?_) ?_ ?_ ?_ ?_
        · rw [zk_up2_r hj, zk_up2_r hj]; exact h1 j hj
        · rw [zk_up2_i, zk_up2_i, if_neg (by decide), if_neg (by decide), h2']; rfl
        · rw [zk_up2_i, zk_up2_i, if_neg (by decide), if_neg (by decide), h3']; rfl
        · rw [zk_up2_i, zk_up2_i, if_neg (by decide), if_pos rfl]; rfl
        · rw [zk_up2_i, if_pos rfl]; rfl
      · have hz1 : ¬ nI q1 = 0 := by rw [show (0 : Int32) = nI 0 from rfl, zn_eq (show q1 < 2147483648 by have : q1 ≤ 2 ^ n := hle; omega) (by decide)]; exact hz
        have a2 : zA_key4 n (q1, q2, q3, q4) 2 = nI q3 := by
          unfold zA_key4
          rw [if_neg (by decide), if_neg (by decide), if_neg hz, if_pos rfl]
        have a3 : zA_key4 n (q1, q2, q3, q4) 3 = nI (zdf (2 ^ n - 1) q4) := by
          unfold zA_key4
          rw [if_neg (by decide), if_neg (by decide), if_neg hz, if_neg (by decide)]
        rw [if_neg hz1, if_neg hz1]
        refine K _ (fun j hj => ?_) ?_ ?_ ?_ ?_
        · rw [zk_up2_r hj, zk_up2_r hj]; exact h1 j hj
        · rw [zk_up2_i, zk_up2_i, if_neg (by decide), if_neg (by decide), h2']; rfl
        · rw [zk_up2_i, zk_up2_i, if_neg (by decide), if_neg (by decide), h3']; rfl
        · rw [zk_up2_i, zk_up2_i, if_neg (by decide), if_pos rfl, a2]
        · rw [zk_up2_i, if_pos rfl, a3]) (by
      rintro i ⟨I', x, y⟩ hi ⟨h1, h2, h3, h4, h5⟩ ih
      have h4' : x = nI (zkey f n sum i).2.2.1 := h4
      have h5' : y = nI (zkey f n sum i).2.2.2 := h5
      subst h4'
      subst h5'
      have e15 : I' 15 = I 15 := h1 15 (by decide)
      have e18 : I' 18 = I 18 := h1 18 (by decide)
      have h2' : I' 27 0 = nI (zkey f n sum i).1 := h2
      have h3' : I' 27 1 = (zkey f n sum i).2.1 := h3
      have hle := zkey_le f n sum i
      show zk_R sc d 79 19 [some (.ref (15 : Nat)), some (.int sum), some (.ref (27 : Nat)), some (.int (nI (zkey f n sum i).2.2.1)), some (.int (nI (zkey f n sum i).2.2.2)), some (.int (nI i))] [] (zk_mk I' tg) P
      have z1 : zk_inb (nI i) 1024 = true := by rw [zn_in (by omega)]; omega
      have z2 : (nI i).toNatClampNeg = i := zn_cl (by omega)
      rw [u79_19]
      simp only [u79_0, u79_1, u79_2, u79_3, u79_4, u79_5, u79_6, u79_7, u79_8, u79_9, u79_12, u79_13, u79_14, u79_16, u79_17, u79_21, u79_22, u79_25, u79_28, u79_29, u79_32, u79_34, u79_35, u79_36, u79_39, u79_40, u79_41, u79_42, u79_43, u79_44, u79_45, u79_46, u79_47, u79_48, u79_49, u79_50, u79_51, u79_52, u79_55, u79_57, u79_60, u79_61, u79_62, u79_63, u79_64, u79_65, u79_67, u79_68, u79_69, u79_71, u79_73, u79_74, u79_76, u79_79, u79_82, u79_83, u79_84, u79_85, u79_86, u79_87, u79_90, u79_91, u79_94, u79_95, u79_96, u79_97, u79_98, u79_99, u79_100, u79_101, u79_104, u79_105, u79_108, u79_109, u79_112, u79_114, u79_115, u79_116, u79_117, u79_118, zk_mk_1, zk_mk_I, zk_mk_R, zk_mk_set, zk_mk_setR, zk_mk_cpy, zk_rv_some, zk_rv_none, Option.toList_some, Option.toList_none, List.cons_append, List.nil_append, reduceIte, eq_self, Nat.reduceLT, Nat.reduceEqDiff, and_true, true_and, reduceCtorEq, zsh_15, zsh_18, zsh_27, zrf_15_2, e15, e18, hall, b0, b1, c0, c1, z1, z2, hs i hi, zk_up2_s, zk_up2_j (show (1 : Nat) ≠ 0 by decide), h2', h3', zq_and, zq_or, nI_1]
      have hcond : nI i ≤ nI (2 ^ n - 1) := by rw [zn_le (by omega) (by omega)]; omega
      first | rw [if_pos hcond] | rw [if_neg (Int32.not_lt.mpr hcond)]
      by_cases hc : zsum f i n = sum
      · rw [if_pos hc]
        have ek : zkey f n sum (i + 1) = ((zkey f n sum i).1 + 1, (if (zkey f n sum i).1 = 0 then nI i else (zkey f n sum i).2.1), (zkey f n sum i).2.2.1 &&& i, (zkey f n sum i).2.2.2 ||| i) := by rw [zkey, if_pos hc]
        generalize zkey f n sum i = q at *
        obtain ⟨q1, q2, q3, q4⟩ := q
        have hle' : q1 ≤ i := hle
        by_cases hz : q1 = 0
        · subst hz
          rw [if_pos (show nI (0 + 1) = 1 from rfl)]
          refine ih (_, _, _) ⟨fun j hj => ?_, ?_, ?_, ?_, ?_⟩
          · show zk_up2 (zk_up2 I' 27 0 (nI (0 + 1))) 27 1 (nI i) j = I j
            rw [zk_up2_r hj, zk_up2_r hj]; exact h1 j hj
          · show zk_up2 (zk_up2 I' 27 0 (nI (0 + 1))) 27 1 (nI i) 27 0 = _
            rw [ek, zk_up2_i, if_neg (by decide), zk_up2_s]
          · show zk_up2 (zk_up2 I' 27 0 (nI (0 + 1))) 27 1 (nI i) 27 1 = _
            rw [ek, zk_up2_s]; rfl
          · rw [ek]; rfl
          · rw [ek]; rfl
        · rw [if_neg (show ¬ nI (q1 + 1) = 1 by rw [show (1 : Int32) = nI 1 from rfl, zn_eq (by omega) (by decide)]; omega)]
          refine ih (_, _, _) ⟨fun j hj => ?_, ?_, ?_, ?_, ?_⟩
          · show zk_up2 (zk_up2 I' 27 0 (nI (q1 + 1))) 27 1 q2 j = I j
            rw [zk_up2_r hj, zk_up2_r hj]; exact h1 j hj
          · show zk_up2 (zk_up2 I' 27 0 (nI (q1 + 1))) 27 1 q2 27 0 = _
            rw [ek, zk_up2_i, if_neg (by decide), zk_up2_s]
          · show zk_up2 (zk_up2 I' 27 0 (nI (q1 + 1))) 27 1 q2 27 1 = _
            rw [ek, zk_up2_s]
            show _ = if q1 = 0 then nI i else q2
            rw [if_neg hz]
          · rw [ek]; rfl
          · rw [ek]; rfl
      · rw [if_neg hc]
        have ek : zkey f n sum (i + 1) = zkey f n sum i := by rw [zkey, if_neg hc]
        exact ih (I', _, _) ⟨h1, by rw [ek]; exact h2, by rw [ek]; exact h3, by rw [ek]; rfl, by rw [ek]; rfl⟩)
  simp only [u79_0, u79_1, u79_2, u79_3, u79_4, u79_5, u79_6, u79_7, u79_8, u79_9, u79_12, u79_13, u79_14, u79_16, u79_17, u79_21, u79_22, u79_25, u79_28, u79_29, u79_32, u79_34, u79_35, u79_36, u79_39, u79_40, u79_41, u79_42, u79_43, u79_44, u79_45, u79_46, u79_47, u79_48, u79_49, u79_50, u79_51, u79_52, u79_55, u79_57, u79_60, u79_61, u79_62, u79_63, u79_64, u79_65, u79_67, u79_68, u79_69, u79_71, u79_73, u79_74, u79_76, u79_79, u79_82, u79_83, u79_84, u79_85, u79_86, u79_87, u79_90, u79_91, u79_94, u79_95, u79_96, u79_97, u79_98, u79_99, u79_100, u79_101, u79_104, u79_105, u79_108, u79_109, u79_112, u79_114, u79_115, u79_116, u79_117, u79_118, zk_mk_1, zk_mk_I, zk_mk_R, zk_mk_set, zk_mk_setR, zk_mk_cpy, zk_rv_some, zk_rv_none, Option.toList_some, Option.toList_none, List.cons_append, List.nil_append, reduceIte, eq_self, Nat.reduceLT, Nat.reduceEqDiff, and_true, true_and, reduceCtorEq, zsh_15, zsh_27, b0, b1, c0, c1, zk_up2_k (show (15 : Nat) ≠ 27 by decide), hall]
  refine loop 0 (_, _, _) (Nat.zero_le _) ⟨fun j hj => ?_, ?_, ?_, rfl, rfl⟩
  · show zk_up2 (zk_up2 I 27 0 0) 27 1 (-1) j = I j
    rw [zk_up2_r hj, zk_up2_r hj]
  · show zk_up2 (zk_up2 I 27 0 0) 27 1 (-1) 27 0 = _
    rw [zk_up2_i, if_neg (by decide), zk_up2_s]; rfl
  · show zk_up2 (zk_up2 I 27 0 0) 27 1 (-1) 27 1 = _
    rw [zk_up2_s]; rfl
theorem zw_0123 {what : Int32} (h : 0 ≤ what ∧ what ≤ 3) : what = 0 ∨ what = 1 ∨ what = 2 ∨ what = 3 := by
  obtain ⟨k, hk, rfl⟩ := zn_of (m := 4) h.1 (by rw [zn_lt1 (by decide)]; exact h.2) (by decide)
  rcases (show k = 0 ∨ k = 1 ∨ k = 2 ∨ k = 3 by omega) with rfl | rfl | rfl | rfl
  · exact Or.inl rfl
  · exact Or.inr (Or.inl rfl)
  · exact Or.inr (Or.inr (Or.inl rfl))
  · exact Or.inr (Or.inr (Or.inr rfl))
theorem s33 {sc : zk_X} {d : Nat} {I : Nat → Nat → Int32} {tg : Option Nat} {P : Option Value → zk_M → Prop} {n t : Nat} {T e : Nat → Nat} {sum what : Int32} (hq : zj_q I n t T e)
    (K : ∀ I' : Nat → Nat → Int32, zF I I' → P (some (.int (zA_key I n T e sum what))) (zk_mk I' tg)) : zk_R sc (d + 6) 33 0 [some (.ref (0 : Nat)), some (.int sum), some (.int what)] [] (zk_mk I tg) P := by
  obtain ⟨hj, hl, hr, ht, hx⟩ := hq
  obtain ⟨b0, b1, b2, b3⟩ := zi_lit4
  obtain ⟨c0, c1, c2, c3⟩ := zi_cl4
  unfold zA_key at K
  simp only [u33_0, u33_1, u33_4, u33_5, u33_6, u33_9, u33_11, u33_12, u33_13, u33_16, u33_17, u33_20, u33_21, u33_22, u33_25, u33_28, u33_29, u33_32, u33_33, u33_34, zk_mk_1, zk_mk_I, zk_mk_R, zk_mk_set, zk_mk_setR, zk_mk_cpy, zk_rv_some, zk_rv_none, Option.toList_some, Option.toList_none, List.cons_append, List.nil_append, reduceIte, eq_self, Nat.reduceLT, Nat.reduceEqDiff, and_true, true_and, reduceCtorEq, zsh_0]
  by_cases hw : 0 ≤ what ∧ what ≤ 3
  · rw [if_pos hw] at K
    rw [if_neg (Int32.not_lt.mpr hw.1), if_pos hw.2]
    refine s21 hj ht hl hx (fun I' h1 h2 h3 h4 => ?_)
    simp only [u33_0, u33_1, u33_4, u33_5, u33_6, u33_9, u33_11, u33_12, u33_13, u33_16, u33_17, u33_20, u33_21, u33_22, u33_25, u33_28, u33_29, u33_32, u33_33, u33_34, zk_mk_1, zk_mk_I, zk_mk_R, zk_mk_set, zk_mk_setR, zk_mk_cpy, zk_rv_some, zk_rv_none, Option.toList_some, Option.toList_none, List.cons_append, List.nil_append, reduceIte, eq_self, Nat.reduceLT, Nat.reduceEqDiff, and_true, true_and, reduceCtorEq, zsh_0, zsh_15, zrf_0_7, zrf_0_9]
    refine s79 hj.2.2.1 h3 (fun h hh => (h4 h hh).1) (fun I2 g1 g2 g3 g4 g5 => ?_)
    have K2 := K I2 (h1.trans (fun j hj => g1 j (by have := zKp_no hj; omega)))
    simp only [u33_0, u33_1, u33_4, u33_5, u33_6, u33_9, u33_11, u33_12, u33_13, u33_16, u33_17, u33_20, u33_21, u33_22, u33_25, u33_28, u33_29, u33_32, u33_33, u33_34, zk_mk_1, zk_mk_I, zk_mk_R, zk_mk_set, zk_mk_setR, zk_mk_cpy, zk_rv_some, zk_rv_none, Option.toList_some, Option.toList_none, List.cons_append, List.nil_append, reduceIte, eq_self, Nat.reduceLT, Nat.reduceEqDiff, and_true, true_and, reduceCtorEq, zsh_0, zsh_27, zrf_0_9]
    rcases zw_0123 hw with rfl | rfl | rfl | rfl
    · rw [c0, g2]; exact ⟨b0, K2⟩
    · rw [c1, g3]; exact ⟨b1, K2⟩
    · rw [c2, g4]; exact ⟨b2, K2⟩
    · rw [c3, g5]; exact ⟨b3, K2⟩
  · rw [if_neg hw] at K
    have K2 := K I (zF_refl I)
    split
    · exact K2
    · next h =>
      rw [if_neg (fun q => hw ⟨Int32.not_lt.mp h, q⟩)]
      exact K2
theorem s184 {sc : zk_X} {d : Nat} {I : Nat → Nat → Int32} {tg : Option Nat} {P : Option Value → zk_M → Prop} {n t : Nat} {T e : Nat → Nat} {sum what : Int32} (hq : zj_q I n t T e)
    (K : ∀ I' : Nat → Nat → Int32, zF I I' → P (some (.int (zA_key I n T e sum what))) (zk_mk I' tg)) : zk_R sc (d + 6) 184 0 [some (.ref (60 : Nat)), some (.int sum), some (.int what), none, none, none, none, none] [] (zk_mk I tg) P := by
  obtain ⟨hj, hl, hr, ht, hx⟩ := hq
  have h10 := hj.2.2.1
  have p10 := zp_10 h10
  unfold zA_key at K
  simp only [u184_0, u184_1, u184_2, u184_3, u184_6, u184_9, u184_11, u184_12, u184_13, u184_16, u184_17, u184_18, u184_19, u184_21, u184_22, u184_25, u184_27, u184_28, u184_30, u184_31, u184_35, u184_36, u184_39, u184_42, u184_43, u184_46, u184_48, u184_49, u184_50, u184_53, u184_54, u184_57, u184_59, u184_62, u184_64, u184_66, u184_69, u184_71, u184_73, u184_74, u184_76, u184_78, u184_80, u184_81, u184_83, u184_86, u184_89, u184_90, u184_93, u184_94, u184_97, u184_98, u184_99, u184_102, u184_104, u184_107, u184_108, u184_111, u184_112, u184_115, u184_116, u184_117, u184_120, u184_122, u184_125, u184_126, u184_129, u184_131, u184_132, u184_133, u184_134, zk_mk_1, zk_mk_I, zk_mk_R, zk_mk_set, zk_mk_setR, zk_mk_cpy, zk_rv_some, zk_rv_none, Option.toList_some, Option.toList_none, List.cons_append, List.nil_append, reduceIte, eq_self, Nat.reduceLT, Nat.reduceEqDiff, and_true, true_and, reduceCtorEq, zsh_60, s129, zb_z]
  by_cases hw : 0 ≤ what ∧ what ≤ 3
  · rw [if_pos hw] at K
    rw [if_neg (fun q => q hw)]
    refine s162 hj ht hr hx (fun I' h1 h2 h3 => ?_)
    have hn' : I' 60 0 = nI n := (h1.tab hj).2.1
    have eall : (1 : Int32) <<< (nI n &&& 31) - 1 = nI (2 ^ n - 1) := by rw [zq_all h10]; exact zn_sub (b := 1) (by omega)
    have K2 := K I' h1
    generalize zv_now I n T e = f at *
    have loop := zl_up (τ := Int32 × Int32 × Int32 × Int32) (fun i q => zk_R sc (d + 6) 184 33 [some (.ref (60 : Nat)), some (.int sum), some (.int what), some (.int q.1), some (.int q.2.1), some (.int q.2.2.1), some (.int q.2.2.2), some (.int (nI i))] [] (zk_mk I' tg) P)
      (fun i q => q = (nI (zkey f n sum i).1, (zkey f n sum i).2.1, nI (zkey f n sum i).2.2.1, nI (zkey f n sum i).2.2.2)) (2 ^ n) (by
        rintro q rfl
        have hle := zkey_le f n sum (2 ^ n)
        show zk_R sc (d + 6) 184 33 [some (.ref (60 : Nat)), some (.int sum), some (.int what), some (.int (nI (zkey f n sum (2 ^ n)).1)), some (.int (zkey f n sum (2 ^ n)).2.1), some (.int (nI (zkey f n sum (2 ^ n)).2.2.1)), some (.int (nI (zkey f n sum (2 ^ n)).2.2.2)), some (.int (nI (2 ^ n)))] [] (zk_mk I' tg) P
        rw [u184_33]
        simp only [u184_0, u184_1, u184_2, u184_3, u184_6, u184_9, u184_11, u184_12, u184_13, u184_16, u184_17, u184_18, u184_19, u184_21, u184_22, u184_25, u184_27, u184_28, u184_30, u184_31, u184_35, u184_36, u184_39, u184_42, u184_43, u184_46, u184_48, u184_49, u184_50, u184_53, u184_54, u184_57, u184_59, u184_62, u184_64, u184_66, u184_69, u184_71, u184_73, u184_74, u184_76, u184_78, u184_80, u184_81, u184_83, u184_86, u184_89, u184_90, u184_93, u184_94, u184_97, u184_98, u184_99, u184_102, u184_104, u184_107, u184_108, u184_111, u184_112, u184_115, u184_116, u184_117, u184_120, u184_122, u184_125, u184_126, u184_129, u184_131, u184_132, u184_133, u184_134, zk_mk_1, zk_mk_I, zk_mk_R, zk_mk_set, zk_mk_setR, zk_mk_cpy, zk_rv_some, zk_rv_none, Option.toList_some, Option.toList_none, List.cons_append, List.nil_append, reduceIte, eq_self, Nat.reduceLT, Nat.reduceEqDiff, and_true, true_and, reduceCtorEq, zsh_60, s161, hn', eall, zq_andn]
        have hcond : nI (2 ^ n - 1) < nI (2 ^ n) := by rw [zn_lt (by omega) (by omega)]; omega
        first | rw [if_pos hcond] | rw [if_neg (Int32.not_le.mpr hcond)]
        generalize zkey f n sum (2 ^ n) = q at *
        obtain ⟨q1, q2, q3, q4⟩ := q
        have hle' : q1 ≤ 2 ^ n := hle
        have hz1 : (nI q1 = 0) = (q1 = 0) := zn_eq (b := 0) (by omega) (by decide)
        unfold zA_key4 at K2
        simp only [hz1]
        rcases zw_0123 hw with rfl | rfl | rfl | rfl
        · exact K2
        · exact K2
        · by_cases hz : q1 = 0
          · simp only [hz, reduceIte, show ((2 : Int32) = 0) = False from by decide, show ((2 : Int32) = 1) = False from by decide] at K2 ⊢; exact K2
          · simp only [hz, reduceIte, show ((2 : Int32) = 0) = False from by decide, show ((2 : Int32) = 1) = False from by decide] at K2 ⊢; exact K2
        · by_cases hz : q1 = 0
          · simp only [hz, reduceIte, show ((3 : Int32) = 0) = False from by decide, show ((3 : Int32) = 1) = False from by decide, show ((3 : Int32) = 2) = False from by decide] at K2 ⊢; exact K2
          · simp only [hz, reduceIte, show ((3 : Int32) = 0) = False from by decide, show ((3 : Int32) = 1) = False from by decide, show ((3 : Int32) = 2) = False from by decide] at K2 ⊢; exact K2) (by
        rintro i q hi rfl ih
        have hle := zkey_le f n sum i
        show zk_R sc (d + 6) 184 33 [some (.ref (60 : Nat)), some (.int sum), some (.int what), some (.int (nI (zkey f n sum i).1)), some (.int (zkey f n sum i).2.1), some (.int (nI (zkey f n sum i).2.2.1)), some (.int (nI (zkey f n sum i).2.2.2)), some (.int (nI i))] [] (zk_mk I' tg) P
        have z1 : zk_inb (nI i) 1024 = true := by rw [zn_in (by omega)]; omega
        have z2 : (nI i).toNatClampNeg = i := zn_cl (by omega)
        rw [u184_33]
        simp only [u184_0, u184_1, u184_2, u184_3, u184_6, u184_9, u184_11, u184_12, u184_13, u184_16, u184_17, u184_18, u184_19, u184_21, u184_22, u184_25, u184_27, u184_28, u184_30, u184_31, u184_35, u184_36, u184_39, u184_42, u184_43, u184_46, u184_48, u184_49, u184_50, u184_53, u184_54, u184_57, u184_59, u184_62, u184_64, u184_66, u184_69, u184_71, u184_73, u184_74, u184_76, u184_78, u184_80, u184_81, u184_83, u184_86, u184_89, u184_90, u184_93, u184_94, u184_97, u184_98, u184_99, u184_102, u184_104, u184_107, u184_108, u184_111, u184_112, u184_115, u184_116, u184_117, u184_120, u184_122, u184_125, u184_126, u184_129, u184_131, u184_132, u184_133, u184_134, zk_mk_1, zk_mk_I, zk_mk_R, zk_mk_set, zk_mk_setR, zk_mk_cpy, zk_rv_some, zk_rv_none, Option.toList_some, Option.toList_none, List.cons_append, List.nil_append, reduceIte, eq_self, Nat.reduceLT, Nat.reduceEqDiff, and_true, true_and, reduceCtorEq, zsh_60, zsh_78, zrf_60_31, s161, hn', eall, z1, z2, (h3 i hi).1, zq_and, zq_or, nI_1]
        have hcond : nI i ≤ nI (2 ^ n - 1) := by rw [zn_le (by omega) (by omega)]; omega
        first | rw [if_pos hcond] | rw [if_neg (Int32.not_lt.mpr hcond)]
        by_cases hc : zsum f i n = sum
        · rw [if_pos hc]
          have ek : zkey f n sum (i + 1) = ((zkey f n sum i).1 + 1, (if (zkey f n sum i).1 = 0 then nI i else (zkey f n sum i).2.1), (zkey f n sum i).2.2.1 &&& i, (zkey f n sum i).2.2.2 ||| i) := by rw [zkey, if_pos hc]
          generalize zkey f n sum i = q at *
          obtain ⟨q1, q2, q3, q4⟩ := q
          have hle' : q1 ≤ i := hle
          have hz1 : (nI q1 = 0) = (q1 = 0) := zn_eq (b := 0) (by omega) (by decide)
          simp only [hz1]
          have ih2 := ih _ rfl
          rw [ek] at ih2
          by_cases hz : q1 = 0
          · rw [if_pos hz]
            simp only [hz, reduceIte] at ih2 ⊢
            exact ih2
          · rw [if_neg hz]
            simp only [hz, reduceIte] at ih2 ⊢
            exact ih2
        · rw [if_neg hc]
          have ek : zkey f n sum (i + 1) = zkey f n sum i := by rw [zkey, if_neg hc]
          have ih2 := ih _ rfl
          rw [ek] at ih2
          exact ih2)
    simp only [u184_0, u184_1, u184_2, u184_3, u184_6, u184_9, u184_11, u184_12, u184_13, u184_16, u184_17, u184_18, u184_19, u184_21, u184_22, u184_25, u184_27, u184_28, u184_30, u184_31, u184_35, u184_36, u184_39, u184_42, u184_43, u184_46, u184_48, u184_49, u184_50, u184_53, u184_54, u184_57, u184_59, u184_62, u184_64, u184_66, u184_69, u184_71, u184_73, u184_74, u184_76, u184_78, u184_80, u184_81, u184_83, u184_86, u184_89, u184_90, u184_93, u184_94, u184_97, u184_98, u184_99, u184_102, u184_104, u184_107, u184_108, u184_111, u184_112, u184_115, u184_116, u184_117, u184_120, u184_122, u184_125, u184_126, u184_129, u184_131, u184_132, u184_133, u184_134, zk_mk_1, zk_mk_I, zk_mk_R, zk_mk_set, zk_mk_setR, zk_mk_cpy, zk_rv_some, zk_rv_none, Option.toList_some, Option.toList_none, List.cons_append, List.nil_append, reduceIte, eq_self, Nat.reduceLT, Nat.reduceEqDiff, and_true, true_and, reduceCtorEq, zsh_60, s161, hn', eall]
    exact loop 0 _ (Nat.zero_le _) rfl
  · rw [if_neg hw] at K
    rw [if_pos hw]
    exact K I (zF_refl I)
