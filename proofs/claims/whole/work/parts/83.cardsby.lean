/-! cards by a sheet -/
noncomputable def znxt (n : Nat) (km nu : Int32) : Nat := @ite _ (zcok km nu ∧ n < 10) (Classical.propDecidable _) (n + 1) n
theorem znxt_le {n : Nat} {km nu : Int32} (h : n ≤ 10) : znxt n km nu ≤ 10 := by
  unfold znxt
  by_cases c : zcok km nu ∧ n < 10
  · rw [if_pos c]; omega
  · rw [if_neg c]; exact h
noncomputable def zcbL (v : Nat → Int32) (z : Nat) (fr : Int32) : Nat → Nat → Nat → List (Nat × Int32 × Int32)
  | 0, _, _ => []
  | r + 1, n, k => @ite _ (zfit z (fr + 2 * nI k) 2) (Classical.propDecidable _) ((n, v (fr + 2 * nI k).toNatClampNeg, v ((fr + 2 * nI k).toNatClampNeg + 1)) :: zcbL v z fr r (znxt n (v (fr + 2 * nI k).toNatClampNeg) (v ((fr + 2 * nI k).toNatClampNeg + 1))) (k + 1)) []
noncomputable def zcbA (v : Nat → Int32) (z : Nat) (fr : Int32) : Nat → Nat → Nat → Nat → Int32
  | 0, _, c, _ => nI c
  | r + 1, n, c, k => @ite _ (zfit z (fr + 2 * nI k) 2) (Classical.propDecidable _) (zcbA v z fr r (znxt n (v (fr + 2 * nI k).toNatClampNeg) (v ((fr + 2 * nI k).toNatClampNeg + 1))) (if zA_card2 n (v (fr + 2 * nI k).toNatClampNeg) (v ((fr + 2 * nI k).toNatClampNeg + 1)) < 0 then c else c + 1) (k + 1)) (-12)
noncomputable def zfT (I : Nat → Nat → Int32) (L : List (Nat × Int32 × Int32)) : Nat → Nat → Int32 := L.foldl (fun J p => zcT J p.1 p.2.1 p.2.2) I
noncomputable def zfM (I : Nat → Nat → Int32) (L : List (Nat × Int32 × Int32)) : Nat → Nat → Int32 := L.foldl (fun J p => zcM J p.1 p.2.1 p.2.2) I
theorem zcT_o {I : Nat → Nat → Int32} {n : Nat} {km nu : Int32} {k : Nat} (h : ¬ (1 ≤ k ∧ k ≤ 5)) : zcT I n km nu k = I k := by
  by_cases c : zcok km nu ∧ n < 10
  · rw [zcT_y c, zput5_o (by omega)]
  · rw [zcT_n c]
theorem zcM_o {I : Nat → Nat → Int32} {n : Nat} {km nu : Int32} {k : Nat} (h : ¬ (60 ≤ k ∧ k ≤ 64)) : zcM I n km nu k = I k := by
  by_cases c : zcok km nu ∧ n < 10
  · rw [zcM_y c, zput5_o (by omega)]
  · rw [zcM_n c]
theorem zcT_same {I J : Nat → Nat → Int32} {n : Nat} {km nu : Int32} (h : ∀ k, 1 ≤ k ∧ k ≤ 5 → I k = J k) : ∀ k, 1 ≤ k ∧ k ≤ 5 → zcT I n km nu k = zcT J n km nu k := by
  intro k hk
  by_cases c : zcok km nu ∧ n < 10
  · rw [zcT_y c, zcT_y c]
    unfold zput5
    funext b
    unfold zk_up2
    rw [h k hk]
  · rw [zcT_n c, zcT_n c]; exact h k hk
theorem zcM_same {I J : Nat → Nat → Int32} {n : Nat} {km nu : Int32} (h : ∀ k, 60 ≤ k ∧ k ≤ 64 → I k = J k) : ∀ k, 60 ≤ k ∧ k ≤ 64 → zcM I n km nu k = zcM J n km nu k := by
  intro k hk
  by_cases c : zcok km nu ∧ n < 10
  · rw [zcM_y c, zcM_y c]
    unfold zput5
    funext b
    unfold zk_up2
    rw [h k hk]
  · rw [zcM_n c, zcM_n c]; exact h k hk
theorem zc_comm {I : Nat → Nat → Int32} {n n' : Nat} {km nu km' nu' : Int32} : zcM (zcT I n km nu) n' km' nu' = zcT (zcM I n' km' nu') n km nu := by
  funext k
  by_cases h1 : 1 ≤ k ∧ k ≤ 5
  · rw [zcM_o (by omega)]
    exact zcT_same (fun j hj => (zcM_o (by omega)).symm) k h1
  · by_cases h2 : 60 ≤ k ∧ k ≤ 64
    · rw [zcT_o h1]
      exact zcM_same (fun j hj => zcT_o (by omega)) k h2
    · rw [zcM_o h2, zcT_o h1, zcT_o h1, zcM_o h2]
theorem zfT_comm {L : List (Nat × Int32 × Int32)} : ∀ {I : Nat → Nat → Int32} {n : Nat} {km nu : Int32}, zcM (zfT I L) n km nu = zfT (zcM I n km nu) L := by
  induction L with
  | nil => intros; rfl
  | cons p L ih =>
    intro I n km nu
    show zcM (zfT (zcT I p.1 p.2.1 p.2.2) L) n km nu = zfT (zcT (zcM I n km nu) p.1 p.2.1 p.2.2) L
    rw [ih, zc_comm]
noncomputable def zfC (I : Nat → Nat → Int32) (L : List (Nat × Int32 × Int32)) : Nat → Nat → Int32 := L.foldl (fun J p => zcM (zcT J p.1 p.2.1 p.2.2) p.1 p.2.1 p.2.2) I
theorem zfC_eq {L : List (Nat × Int32 × Int32)} : ∀ {I : Nat → Nat → Int32}, zfM (zfT I L) L = zfC I L := by
  induction L with
  | nil => intros; rfl
  | cons p L ih =>
    intro I
    show zfM (zcM (zfT (zcT I p.1 p.2.1 p.2.2) L) p.1 p.2.1 p.2.2) L = zfC (zcM (zcT I p.1 p.2.1 p.2.2) p.1 p.2.1 p.2.2) L
    rw [zfT_comm, ih]
theorem zJ_card2 {I : Nat → Nat → Int32} {n t q m : Nat} {TT EE : Nat → Nat → Nat} {Z : Nat → Nat} {km nu : Int32} (hJ : zJ I n t q m TT EE Z) : zJ (zcM (zcT I n km nu) n km nu) (znxt n km nu) t q m TT EE Z := by
  obtain ⟨n', h⟩ := zJ_card (km := km) (nu := nu) hJ
  have e : n' = znxt n km nu := by
    obtain ⟨⟨a1, a2, a3, -⟩, -⟩ := h
    obtain ⟨⟨b1, b2, b3, -⟩, -⟩ := hJ
    unfold znxt
    by_cases c : zcok km nu ∧ n < 10
    · rw [if_pos c]
      have e1 : zcM (zcT I n km nu) n km nu 60 0 = nI (n + 1) := by
        rw [zcM_y c]
        unfold zput5
        rw [zk_up2_s]
      rw [e1, zn_eq (by omega) (by omega)] at a2
      exact a2.symm
    · rw [if_neg c]
      rw [zcM_n c, zcT_n c, b2, zn_eq (by omega) (by omega)] at a2
      exact a2.symm
  rw [← e]; exact h
theorem zJ_cards2 {v : Nat → Int32} {z : Nat} {fr : Int32} : ∀ (r : Nat) {n k : Nat} {I : Nat → Nat → Int32} {t q m : Nat} {TT EE : Nat → Nat → Nat} {Z : Nat → Nat}, zJ I n t q m TT EE Z → ∃ n', zJ (zfC I (zcbL v z fr r n k)) n' t q m TT EE Z
  | 0, n, k, I, t, q, m, TT, EE, Z, hJ => ⟨n, hJ⟩
  | r + 1, n, k, I, t, q, m, TT, EE, Z, hJ => by
    rw [zcbL]
    by_cases c : zfit z (fr + 2 * nI k) 2
    · rw [if_pos c]
      exact zJ_cards2 r (zJ_card2 hJ)
    · rw [if_neg c]
      exact ⟨n, hJ⟩
noncomputable def zA_cby (I : Nat → Nat → Int32) (n : Nat) (Z : Nat → Nat) (s so fr nn : Int32) : Int32 := if (0 ≤ s ∧ s < 4) ∧ (0 ≤ so ∧ so ≤ 2) ∧ 0 ≤ nn ∧ nn ≤ 10 then (if I (52 + 2 * s.toNatClampNeg) 1 = -1 then -11 else if I (52 + 2 * s.toNatClampNeg) 1 = so then zcbA (I (53 + 2 * s.toNatClampNeg)) (Z s.toNatClampNeg) fr nn.toNatClampNeg n 0 0 else -13) else -2
noncomputable def zL_cby (I : Nat → Nat → Int32) (n : Nat) (Z : Nat → Nat) (s so fr nn : Int32) : List (Nat × Int32 × Int32) := if (0 ≤ s ∧ s < 4) ∧ (0 ≤ so ∧ so ≤ 2) ∧ 0 ≤ nn ∧ nn ≤ 10 then (if I (52 + 2 * s.toNatClampNeg) 1 = -1 then [] else if I (52 + 2 * s.toNatClampNeg) 1 = so then zcbL (I (53 + 2 * s.toNatClampNeg)) (Z s.toNatClampNeg) fr nn.toNatClampNeg n 0 else []) else []
theorem zA_card_lt {n : Nat} {km nu : Int32} (h : n ≤ 10) : (zA_card2 n km nu < 0) = ¬ (zcok km nu ∧ n < 10) := by
  by_cases c : zcok km nu
  · by_cases hn : n < 10
    · rw [zA_card_1 c hn, zn_neg (by omega)]
      simp [c, hn]
    · rw [zA_card_2 c hn]
      simp [hn]
  · rw [zA_card_3 c]
    simp [c]
theorem s57 {sc : zk_X} {d : Nat} {I : Nat → Nat → Int32} {tg : Option Nat} {P : Option Value → zk_M → Prop} {n : Nat} {Z : Nat → Nat} {s so fr nn : Int32} (hn : I 1 4 = nI n) (h10 : n ≤ 10) (hz : zj_sh I Z)
    (K : P (some (.int (zA_cby I n Z s so fr nn))) (zk_mk (zfT I (zL_cby I n Z s so fr nn)) tg)) : zk_R sc (d + 2) 57 0 [some (.ref (0 : Nat)), some (.int s), some (.int so), some (.int fr), some (.int nn), none, none, none] [] (zk_mk I tg) P := by
  unfold zA_cby zL_cby at K
  simp only [u57_0, u57_1, u57_4, u57_7, u57_8, u57_11, u57_12, u57_13, u57_16, u57_18, u57_21, u57_23, u57_25, u57_28, u57_30, u57_31, u57_32, u57_35, u57_36, u57_37, u57_39, u57_41, u57_44, u57_45, u57_48, u57_50, u57_51, u57_53, u57_56, u57_57, u57_60, u57_62, u57_63, u57_64, u57_66, u57_67, u57_71, u57_73, u57_76, u57_78, u57_79, u57_80, u57_82, u57_83, u57_84, u57_85, u57_88, u57_91, u57_93, u57_94, u57_95, u57_97, u57_100, u57_101, u57_102, u57_104, u57_105, u57_106, u57_107, u57_109, u57_112, u57_113, u57_114, u57_116, u57_117, u57_118, u57_119, u57_120, u57_121, u57_124, u57_127, u57_130, u57_133, u57_136, u57_138, zk_mk_1, zk_mk_I, zk_mk_R, zk_mk_set, zk_mk_setR, zk_mk_cpy, zk_rv_some, zk_rv_none, Option.toList_some, Option.toList_none, List.cons_append, List.nil_append, reduceIte, eq_self, Nat.reduceLT, Nat.reduceEqDiff, and_true, true_and, reduceCtorEq, zsh_0, s38, zb_z]
  by_cases hs : 0 ≤ s ∧ s < 4
  · rw [if_neg (fun q => q hs)]
    by_cases g : (0 ≤ so ∧ so ≤ 2) ∧ 0 ≤ nn ∧ nn ≤ 10
    · have K2 := K
      have hgd : (0 ≤ s ∧ s < 4) ∧ (0 ≤ so ∧ so ≤ 2) ∧ 0 ≤ nn ∧ nn ≤ 10 := ⟨hs, g⟩
      simp only [if_pos hgd] at K2
      clear hgd
      obtain ⟨⟨g1, g2⟩, g3, g4⟩ := g
      rw [if_neg (Int32.not_lt.mpr g1), if_neg (Int32.not_lt.mpr g2), if_neg (Int32.not_lt.mpr g3), if_pos g4]
      obtain ⟨k, hk, rfl⟩ := zn_of (m := 4) hs.1 hs.2 (by decide)
      obtain ⟨N, hN, rfl⟩ := zn_of (x := nn) (m := 11) g3 (by rw [zn_lt1 (by decide)]; exact g4) (by decide)
      have y1 : zk_inb (nI k) 4 = true := by rw [zn_in (by omega)]; omega
      have y2 : (nI k).toNatClampNeg = k := zn_cl (by omega)
      have y3 : (nI N).toNatClampNeg = N := zn_cl (by omega)
      obtain ⟨x1, x2⟩ := zx_s hk tg
      obtain ⟨x3, x4, x5, x6⟩ := zx_s1 hk
      obtain ⟨q1, q2, q3, q4, q5⟩ := hz k hk
      rw [y2, y3] at K2
      simp only [u57_0, u57_1, u57_4, u57_7, u57_8, u57_11, u57_12, u57_13, u57_16, u57_18, u57_21, u57_23, u57_25, u57_28, u57_30, u57_31, u57_32, u57_35, u57_36, u57_37, u57_39, u57_41, u57_44, u57_45, u57_48, u57_50, u57_51, u57_53, u57_56, u57_57, u57_60, u57_62, u57_63, u57_64, u57_66, u57_67, u57_71, u57_73, u57_76, u57_78, u57_79, u57_80, u57_82, u57_83, u57_84, u57_85, u57_88, u57_91, u57_93, u57_94, u57_95, u57_97, u57_100, u57_101, u57_102, u57_104, u57_105, u57_106, u57_107, u57_109, u57_112, u57_113, u57_114, u57_116, u57_117, u57_118, u57_119, u57_120, u57_121, u57_124, u57_127, u57_130, u57_133, u57_136, u57_138, zk_mk_1, zk_mk_I, zk_mk_R, zk_mk_set, zk_mk_setR, zk_mk_cpy, zk_rv_some, zk_rv_none, Option.toList_some, Option.toList_none, List.cons_append, List.nil_append, reduceIte, eq_self, Nat.reduceLT, Nat.reduceEqDiff, and_true, true_and, reduceCtorEq, zsh_0, zsh_26, zrf_0_8, y1, y2, x1, x3, x5]
      by_cases c1 : I (52 + 2 * k) 1 = -1
      · rw [if_pos c1]
        simp only [if_pos c1] at K2
        exact K2
      · rw [if_neg c1]
        simp only [if_neg c1] at K2
        by_cases c2 : I (52 + 2 * k) 1 = so
        · rw [if_pos c2]
          simp only [if_pos c2] at K2
          have loop : ∀ r j n' c (I' : Nat → Nat → Int32), j + r = N → n' ≤ 10 → c ≤ j → I' 1 4 = nI n' → (∀ x, ¬ (1 ≤ x ∧ x ≤ 5) → I' x = I x) → P (some (.int (zcbA (I (53 + 2 * k)) (Z k) fr r n' c j))) (zk_mk (zfT I' (zcbL (I (53 + 2 * k)) (Z k) fr r n' j)) tg) → zk_R sc (d + 2) 57 69 [some (.ref (0 : Nat)), some (.int (nI k)), some (.int so), some (.int fr), some (.int (nI N)), some (.ref (52 + 2 * k)), some (.int (nI c)), some (.int (nI j))] [] (zk_mk I' tg) P := by
            intro r
            induction r with
            | zero =>
              intro j n' c I' hj hn' hc h1 h2 KK
              rw [u57_69]
              simp only [u57_0, u57_1, u57_4, u57_7, u57_8, u57_11, u57_12, u57_13, u57_16, u57_18, u57_21, u57_23, u57_25, u57_28, u57_30, u57_31, u57_32, u57_35, u57_36, u57_37, u57_39, u57_41, u57_44, u57_45, u57_48, u57_50, u57_51, u57_53, u57_56, u57_57, u57_60, u57_62, u57_63, u57_64, u57_66, u57_67, u57_71, u57_73, u57_76, u57_78, u57_79, u57_80, u57_82, u57_83, u57_84, u57_85, u57_88, u57_91, u57_93, u57_94, u57_95, u57_97, u57_100, u57_101, u57_102, u57_104, u57_105, u57_106, u57_107, u57_109, u57_112, u57_113, u57_114, u57_116, u57_117, u57_118, u57_119, u57_120, u57_121, u57_124, u57_127, u57_130, u57_133, u57_136, u57_138, zk_mk_1, zk_mk_I, zk_mk_R, zk_mk_set, zk_mk_setR, zk_mk_cpy, zk_rv_some, zk_rv_none, Option.toList_some, Option.toList_none, List.cons_append, List.nil_append, reduceIte, eq_self, Nat.reduceLT, Nat.reduceEqDiff, and_true, true_and, reduceCtorEq]
              rw [if_pos (nI_le (by omega) (by omega))]
              exact KK
            | succ r ih =>
              intro j n' c I' hj hn' hc h1 h2 KK
              have e52 : I' (52 + 2 * k) = I (52 + 2 * k) := h2 _ (by omega)
              have e53 : I' (53 + 2 * k) = I (53 + 2 * k) := h2 _ (by omega)
              have eq2 : I' (52 + 2 * k) 2 = nI (Z k) := by rw [e52]; exact q2
              have one : ((1 : Int32) = 0) = False := by decide
              rw [zcbA, zcbL] at KK
              rw [u57_69]
              simp only [u57_0, u57_1, u57_4, u57_7, u57_8, u57_11, u57_12, u57_13, u57_16, u57_18, u57_21, u57_23, u57_25, u57_28, u57_30, u57_31, u57_32, u57_35, u57_36, u57_37, u57_39, u57_41, u57_44, u57_45, u57_48, u57_50, u57_51, u57_53, u57_56, u57_57, u57_60, u57_62, u57_63, u57_64, u57_66, u57_67, u57_71, u57_73, u57_76, u57_78, u57_79, u57_80, u57_82, u57_83, u57_84, u57_85, u57_88, u57_91, u57_93, u57_94, u57_95, u57_97, u57_100, u57_101, u57_102, u57_104, u57_105, u57_106, u57_107, u57_109, u57_112, u57_113, u57_114, u57_116, u57_117, u57_118, u57_119, u57_120, u57_121, u57_124, u57_127, u57_130, u57_133, u57_136, u57_138, zk_mk_1, zk_mk_I, zk_mk_R, zk_mk_set, zk_mk_setR, zk_mk_cpy, zk_rv_some, zk_rv_none, Option.toList_some, Option.toList_none, List.cons_append, List.nil_append, reduceIte, eq_self, Nat.reduceLT, Nat.reduceEqDiff, and_true, true_and, reduceCtorEq, x3, x5]
              rw [if_neg (nI_ge (by omega) (by omega))]
              by_cases f : zfit (Z k) (fr + 2 * nI j) 2
              · rw [if_pos f, if_pos f] at KK
                rw [s90y hk eq2 q4 f]
                obtain ⟨a, l, hal, ea, el⟩ := zfit_nat q4 f
                have el : l = 2 := by
                  rw [show (2 : Int32) = nI 2 from rfl, zn_eq (by decide) (by omega)] at el
                  exact el.symm
                subst el
                rw [ea] at KK
                have z1 : zk_inb (nI a) 40 = true := by rw [zn_in (by omega)]; omega
                have z2 : (nI a).toNatClampNeg = a := zn_cl (by omega)
                have z3 : zk_inb (nI (a + 1)) 40 = true := by rw [zn_in (by omega)]; omega
                have z4 : (nI (a + 1)).toNatClampNeg = a + 1 := zn_cl (by omega)
                rw [z2] at KK
                have KK : P (some (.int (zcbA (I (53 + 2 * k)) (Z k) fr r (znxt n' (I (53 + 2 * k) a) (I (53 + 2 * k) (a + 1))) (if zA_card2 n' (I (53 + 2 * k) a) (I (53 + 2 * k) (a + 1)) < 0 then c else c + 1) (j + 1)))) (zk_mk (zfT (zcT I' n' (I (53 + 2 * k) a) (I (53 + 2 * k) (a + 1))) (zcbL (I (53 + 2 * k)) (Z k) fr r (znxt n' (I (53 + 2 * k) a) (I (53 + 2 * k) (a + 1))) (j + 1))) tg) := KK
                simp only [u57_0, u57_1, u57_4, u57_7, u57_8, u57_11, u57_12, u57_13, u57_16, u57_18, u57_21, u57_23, u57_25, u57_28, u57_30, u57_31, u57_32, u57_35, u57_36, u57_37, u57_39, u57_41, u57_44, u57_45, u57_48, u57_50, u57_51, u57_53, u57_56, u57_57, u57_60, u57_62, u57_63, u57_64, u57_66, u57_67, u57_71, u57_73, u57_76, u57_78, u57_79, u57_80, u57_82, u57_83, u57_84, u57_85, u57_88, u57_91, u57_93, u57_94, u57_95, u57_97, u57_100, u57_101, u57_102, u57_104, u57_105, u57_106, u57_107, u57_109, u57_112, u57_113, u57_114, u57_116, u57_117, u57_118, u57_119, u57_120, u57_121, u57_124, u57_127, u57_130, u57_133, u57_136, u57_138, zk_mk_1, zk_mk_I, zk_mk_R, zk_mk_set, zk_mk_setR, zk_mk_cpy, zk_rv_some, zk_rv_none, Option.toList_some, Option.toList_none, List.cons_append, List.nil_append, reduceIte, eq_self, Nat.reduceLT, Nat.reduceEqDiff, and_true, true_and, reduceCtorEq, zsh_0, one, ea, nI_1, x2, x3, x4, x5, x6, z1, z2, z3, z4, e53, s10 h1 hn']
                have nx : ∀ c', c' ≤ j + 1 → P (some (.int (zcbA (I (53 + 2 * k)) (Z k) fr r (znxt n' (I (53 + 2 * k) a) (I (53 + 2 * k) (a + 1))) c' (j + 1)))) (zk_mk (zfT (zcT I' n' (I (53 + 2 * k) a) (I (53 + 2 * k) (a + 1))) (zcbL (I (53 + 2 * k)) (Z k) fr r (znxt n' (I (53 + 2 * k) a) (I (53 + 2 * k) (a + 1))) (j + 1))) tg) → zk_R sc (d + 2) 57 69 [some (.ref (0 : Nat)), some (.int (nI k)), some (.int so), some (.int fr), some (.int (nI N)), some (.ref (52 + 2 * k)), some (.int (nI c')), some (.int (nI (j + 1)))] [] (zk_mk (zcT I' n' (I (53 + 2 * k) a) (I (53 + 2 * k) (a + 1))) tg) P := by
                  intro c' hc' KK'
                  refine ih (j + 1) _ c' _ (by omega) (znxt_le hn') hc' ?_ (fun x hx => by rw [zcT_o hx, h2 x hx]) KK'
                  unfold znxt
                  by_cases cc : zcok (I (53 + 2 * k) a) (I (53 + 2 * k) (a + 1)) ∧ n' < 10
                  · rw [if_pos cc, zcT_y cc]
                    unfold zput5
                    rw [zk_up2_s]
                  · rw [if_neg cc, zcT_n cc]; exact h1
                by_cases cc : zA_card2 n' (I (53 + 2 * k) a) (I (53 + 2 * k) (a + 1)) < 0
                · rw [if_pos cc] at KK ⊢
                  exact nx c (by omega) KK
                · rw [if_neg cc] at KK ⊢
                  exact nx (c + 1) (by omega) KK
              · rw [if_neg f, if_neg f] at KK
                rw [s90n hk eq2 q4 f]
                simp only [u57_0, u57_1, u57_4, u57_7, u57_8, u57_11, u57_12, u57_13, u57_16, u57_18, u57_21, u57_23, u57_25, u57_28, u57_30, u57_31, u57_32, u57_35, u57_36, u57_37, u57_39, u57_41, u57_44, u57_45, u57_48, u57_50, u57_51, u57_53, u57_56, u57_57, u57_60, u57_62, u57_63, u57_64, u57_66, u57_67, u57_71, u57_73, u57_76, u57_78, u57_79, u57_80, u57_82, u57_83, u57_84, u57_85, u57_88, u57_91, u57_93, u57_94, u57_95, u57_97, u57_100, u57_101, u57_102, u57_104, u57_105, u57_106, u57_107, u57_109, u57_112, u57_113, u57_114, u57_116, u57_117, u57_118, u57_119, u57_120, u57_121, u57_124, u57_127, u57_130, u57_133, u57_136, u57_138, zk_mk_1, zk_mk_I, zk_mk_R, zk_mk_set, zk_mk_setR, zk_mk_cpy, zk_rv_some, zk_rv_none, Option.toList_some, Option.toList_none, List.cons_append, List.nil_append, reduceIte, eq_self, Nat.reduceLT, Nat.reduceEqDiff, and_true, true_and, reduceCtorEq]
                exact KK
          exact loop N 0 n 0 I (by omega) h10 (Nat.le_refl _) hn (fun _ _ => rfl) K2
        · rw [if_neg c2]
          simp only [if_neg c2] at K2
          exact K2
    · have K2 := K
      have hgd : ¬ ((0 ≤ s ∧ s < 4) ∧ (0 ≤ so ∧ so ≤ 2) ∧ 0 ≤ nn ∧ nn ≤ 10) := fun w => g w.2
      simp only [if_neg hgd] at K2
      clear hgd
      split
      · exact K2
      · next g1 =>
        split
        · exact K2
        · next g2 =>
          split
          · exact K2
          · next g3 =>
            rw [if_neg (fun w => g ⟨⟨Int32.not_lt.mp g1, Int32.not_lt.mp g2⟩, Int32.not_lt.mp g3, w⟩)]
            exact K2
  · rw [if_pos hs]
    have hgd : ¬ ((0 ≤ s ∧ s < 4) ∧ (0 ≤ so ∧ so ≤ 2) ∧ 0 ≤ nn ∧ nn ≤ 10) := fun w => hs w.1
    simp only [if_neg hgd] at K
    exact K
