/-! which token it is: by T -/
def zwL : List (List Nat) := [[110, 117, 109, 98, 101, 114], [109, 111, 114, 101], [99, 97, 114, 100], [109, 97, 110, 121], [107, 105, 110, 100], [108, 101, 102, 116], [99, 111, 117, 110, 116, 115], [109, 111, 118, 101, 115], [97, 115, 107, 115], [111, 114], [97, 110, 100], [110, 111, 116]]
def zwl (j : Nat) : List Nat := (zwL[j]?).getD []
theorem zwl_len {j : Nat} (h : j < 12) : zk_sle j = (zwl j).length := by
  rcases (show j = 0 ∨ j = 1 ∨ j = 2 ∨ j = 3 ∨ j = 4 ∨ j = 5 ∨ j = 6 ∨ j = 7 ∨ j = 8 ∨ j = 9 ∨ j = 10 ∨ j = 11 by omega) with rfl | rfl | rfl | rfl | rfl | rfl | rfl | rfl | rfl | rfl | rfl | rfl <;> rfl
theorem zwl_8 {j : Nat} (h : j < 12) : (zwl j).length < 9 ∧ 0 < (zwl j).length := by
  rcases (show j = 0 ∨ j = 1 ∨ j = 2 ∨ j = 3 ∨ j = 4 ∨ j = 5 ∨ j = 6 ∨ j = 7 ∨ j = 8 ∨ j = 9 ∨ j = 10 ∨ j = 11 by omega) with rfl | rfl | rfl | rfl | rfl | rfl | rfl | rfl | rfl | rfl | rfl | rfl <;> decide
theorem zwl_ch {j : Nat} (h : j < 12) : ∀ i, i < (zwl j).length → zk_sch j i = nI ((zwl j).getD i 0) ∧ (zwl j).getD i 0 < 256 := by
  rcases (show j = 0 ∨ j = 1 ∨ j = 2 ∨ j = 3 ∨ j = 4 ∨ j = 5 ∨ j = 6 ∨ j = 7 ∨ j = 8 ∨ j = 9 ∨ j = 10 ∨ j = 11 by omega) with rfl | rfl | rfl | rfl | rfl | rfl | rfl | rfl | rfl | rfl | rfl | rfl <;> decide
def zsg (B : Nat → Nat) (a n : Nat) : List Nat := (List.range n).map (fun i => B (a + i))
theorem zsg_len (B : Nat → Nat) (a n : Nat) : (zsg B a n).length = n := by simp [zsg]
theorem zsg_at {B : Nat → Nat} {a n i : Nat} (h : i < n) : (zsg B a n).getD i 0 = B (a + i) := by
  simp [zsg, List.getD, h]
theorem zsg_eq {B : Nat → Nat} {a n : Nat} {L : List Nat} : zsg B a n = L ↔ L.length = n ∧ ∀ i, i < n → B (a + i) = L.getD i 0 := by
  constructor
  · rintro rfl
    exact ⟨zsg_len B a n, fun i hi => (zsg_at hi).symm⟩
  · rintro ⟨h1, h2⟩
    apply List.ext_getElem
    · rw [zsg_len, h1]
    · intro i hi1 hi2
      rw [zsg_len] at hi1
      have a1 := zsg_at (B := B) (a := a) hi1
      have a2 := h2 i hi1
      rw [List.getD_eq_getElem?_getD, List.getElem?_eq_getElem (by rw [zsg_len]; exact hi1)] at a1
      rw [List.getD_eq_getElem?_getD, List.getElem?_eq_getElem hi2] at a2
      simp only [Option.getD_some] at a1 a2
      rw [a1, a2]
theorem s108 {sc : zk_X} {d : Nat} {I : Nat → Nat → Int32} {tg : Option Nat} {P : Option Value → zk_M → Prop} {m a b j : Nat} {B : Nat → Nat} (h : zj_tp I m B) (ha : I 11 5 = nI a) (hb : I 11 6 = nI b) (hab : a ≤ b) (hbm : b ≤ m) (hj : j < 12) : zk_R sc d 108 0 [some (.ref (11 : Nat)), some (.ref (2000 + j)), none] [] (zk_mk I tg) P = P (some (.int (zb (zsg B a (b - a) = zwl j)))) (zk_mk I tg) := by
  refine zk_R_det ?_ P
  obtain ⟨h1, h2, h3⟩ := id h
  have hl := zwl_len hj
  have h8 := zwl_8 hj
  have hch := zwl_ch hj
  have es : nI b - nI a = nI (b - a) := zn_sub hab
  have el : zk_sln j = nI (zwl j).length := by rw [← hl]; rfl
  have hle : nI b ≤ nI m := nI_le hbm (by omega)
  by_cases c : b - a = (zwl j).length
  · have loop : ∀ f i, i + f = b - a → (∀ k, k < i → B (a + k) = (zwl j).getD k 0) → zk_R sc d 108 31 [some (.ref (11 : Nat)), some (.ref (2000 + j)), some (.int (nI i))] [] (zk_mk I tg) (fun r M' => r = some (.int (zb (zsg B a (b - a) = zwl j))) ∧ M' = zk_mk I tg) := by
      intro f
      induction f with
      | zero =>
        intro i hi hk
        have c1 : nI (zwl j).length ≤ nI i := nI_le (by omega) (by omega)
        have e : zsg B a (b - a) = zwl j := zsg_eq.mpr ⟨c.symm, fun k hk' => hk k (by omega)⟩
        rw [u108_31]
        simp only [u108_0, u108_1, u108_4, u108_5, u108_8, u108_9, u108_10, u108_13, u108_16, u108_17, u108_20, u108_21, u108_24, u108_27, u108_28, u108_29, u108_30, u108_32, u108_33, u108_36, u108_39, u108_40, u108_43, u108_44, u108_47, u108_48, u108_49, u108_50, u108_51, u108_52, u108_55, u108_58, u108_59, u108_60, u108_63, u108_66, u108_67, zk_mk_1, zk_mk_I, zk_mk_R, zk_mk_set, zk_mk_setR, zk_mk_cpy, zk_rv_some, zk_rv_none, Option.toList_some, Option.toList_none, List.cons_append, List.nil_append, reduceIte, eq_self, Nat.reduceLT, Nat.reduceEqDiff, and_true, true_and, reduceCtorEq, hj, el, c1, zb_t e]
        decide
      | succ f ih =>
        intro i hi hk
        have c1 : ¬ nI (zwl j).length ≤ nI i := nI_ge (by omega) (by omega)
        have z1 : zk_inb (nI i) (zk_sle j) = true := by rw [zn_in (by omega), hl]; omega
        have z2 : (nI i).toNatClampNeg = i := zn_cl (by omega)
        have z3 : zk_inb (nI (a + i)) 160 = true := by rw [zn_in (by omega)]; omega
        have z4 : (nI (a + i)).toNatClampNeg = a + i := zn_cl (by omega)
        have q := h3 (a + i) (by omega)
        have qc := hch i (by omega)
        rw [u108_31]
        simp only [u108_0, u108_1, u108_4, u108_5, u108_8, u108_9, u108_10, u108_13, u108_16, u108_17, u108_20, u108_21, u108_24, u108_27, u108_28, u108_29, u108_30, u108_32, u108_33, u108_36, u108_39, u108_40, u108_43, u108_44, u108_47, u108_48, u108_49, u108_50, u108_51, u108_52, u108_55, u108_58, u108_59, u108_60, u108_63, u108_66, u108_67, zk_mk_1, zk_mk_I, zk_mk_R, zk_mk_set, zk_mk_setR, zk_mk_cpy, zk_rv_some, zk_rv_none, Option.toList_some, Option.toList_none, List.cons_append, List.nil_append, reduceIte, eq_self, Nat.reduceLT, Nat.reduceEqDiff, and_true, true_and, reduceCtorEq, zsh_11, zsh_12, zrf_11_0, hj, el, c1, ha, zn_add, z1, z2, z3, z4, q.1, qc.1, nI_1, show (nI i + 1 : Int32) = nI (i + 1) from zn_add i 1]
        have qe : (nI (B (a + i)) = nI ((zwl j).getD i 0)) = (B (a + i) = (zwl j).getD i 0) := zn_eq (by have := q.2; omega) (by have := qc.2; omega)
        by_cases e : B (a + i) = (zwl j).getD i 0
        · rw [if_pos (by rw [qe]; exact e)]
          exact ih (i + 1) (by omega) (fun k hk' => by
            by_cases hki : k = i
            · subst hki; exact e
            · exact hk k (by omega))
        · rw [if_neg (by rw [qe]; exact e), zb_f (fun w => e ((zsg_eq.mp w).2 i (by omega)))]
          exact ⟨Or.inl trivial, rfl⟩
    have c0 : nI (b - a) = nI (zwl j).length := by rw [c]
    simp only [u108_0, u108_1, u108_4, u108_5, u108_8, u108_9, u108_10, u108_13, u108_16, u108_17, u108_20, u108_21, u108_24, u108_27, u108_28, u108_29, u108_30, u108_32, u108_33, u108_36, u108_39, u108_40, u108_43, u108_44, u108_47, u108_48, u108_49, u108_50, u108_51, u108_52, u108_55, u108_58, u108_59, u108_60, u108_63, u108_66, u108_67, zk_mk_1, zk_mk_I, zk_mk_R, zk_mk_set, zk_mk_setR, zk_mk_cpy, zk_rv_some, zk_rv_none, Option.toList_some, Option.toList_none, List.cons_append, List.nil_append, reduceIte, eq_self, Nat.reduceLT, Nat.reduceEqDiff, and_true, true_and, reduceCtorEq, zsh_11, zsh_12, zrf_11_0, hj, el, ha, hb, h1, es, c0, hle]
    exact loop (b - a) 0 (by omega) (fun k hk => absurd hk (by omega))
  · have c0 : ¬ nI (b - a) = nI (zwl j).length := by rw [zn_eq (by omega) (by omega)]; exact c
    have e : ¬ zsg B a (b - a) = zwl j := fun w => c (zsg_eq.mp w).1.symm
    simp only [u108_0, u108_1, u108_4, u108_5, u108_8, u108_9, u108_10, u108_13, u108_16, u108_17, u108_20, u108_21, u108_24, u108_27, u108_28, u108_29, u108_30, u108_32, u108_33, u108_36, u108_39, u108_40, u108_43, u108_44, u108_47, u108_48, u108_49, u108_50, u108_51, u108_52, u108_55, u108_58, u108_59, u108_60, u108_63, u108_66, u108_67, zk_mk_1, zk_mk_I, zk_mk_R, zk_mk_set, zk_mk_setR, zk_mk_cpy, zk_rv_some, zk_rv_none, Option.toList_some, Option.toList_none, List.cons_append, List.nil_append, reduceIte, eq_self, Nat.reduceLT, Nat.reduceEqDiff, and_true, true_and, reduceCtorEq, zsh_11, zsh_12, zrf_11_0, hj, el, ha, hb, h1, es, c0, zb_f e]
    decide
/-- the token that a word is -/
def zwc (L : List Nat) : Nat := if L = zwl 0 then 11000 else if L = zwl 1 then 11001 else if L = zwl 2 then 11002 else if L = zwl 3 then 11003 else if L = zwl 4 then 11004 else if L = zwl 5 then 11005 else if L = zwl 6 then 6 else if L = zwl 7 then 7 else if L = zwl 8 then 8 else if L = zwl 9 then 3 else if L = zwl 10 then 4 else if L = zwl 11 then 5 else 1
def ztk (c : Nat) : Int32 := if 1000 ≤ c then 2 else nI c
theorem zwc_cases (L : List Nat) : (zwc L = 1 ∨ (3 ≤ zwc L ∧ zwc L ≤ 8)) ∨ (11000 ≤ zwc L ∧ zwc L < 11006) := by
  unfold zwc
  repeat' split
  all_goals omega
theorem s107 {sc : zk_X} {d : Nat} {I : Nat → Nat → Int32} {tg : Option Nat} {P : Option Value → zk_M → Prop} {m a b : Nat} {B : Nat → Nat} (h : zj_tp I m B) (ha : I 11 5 = nI a) (hb : I 11 6 = nI b) (hab : a ≤ b) (hbm : b ≤ m) (K : ∀ I', (∀ k, k ≠ 11 → I' k = I k) → (∀ k, k ≠ 3 → k ≠ 4 → I' 11 k = I 11 k) → I' 11 3 = ztk (zwc (zsg B a (b - a))) → (1000 ≤ zwc (zsg B a (b - a)) → I' 11 4 = zt_c (zwc (zsg B a (b - a)) - 1000)) → P none (zk_mk I' tg)) : zk_R sc (d + 1) 107 0 [some (.ref (11 : Nat))] [] (zk_mk I tg) P := by
  have w : ∀ (v : Int32), zj_tp (zk_up2 I 11 4 v) m B := fun v => ⟨by rw [zk_up2_j (by decide)]; exact h.1, h.2.1, fun j hj => by rw [zk_up2_k (by decide)]; exact h.2.2 j hj⟩
  have wa : ∀ (v : Int32), zk_up2 I 11 4 v 11 5 = nI a := fun v => by rw [zk_up2_j (by decide)]; exact ha
  have wb : ∀ (v : Int32), zk_up2 I 11 4 v 11 6 = nI b := fun v => by rw [zk_up2_j (by decide)]; exact hb
  have f1 : ∀ (v u : Int32) k, k ≠ 11 → zk_up2 (zk_up2 I 11 4 v) 11 3 u k = I k := fun v u k hk => by rw [zk_up2_r hk, zk_up2_r hk]
  have f2 : ∀ (v u : Int32) k, k ≠ 3 → k ≠ 4 → zk_up2 (zk_up2 I 11 4 v) 11 3 u 11 k = I 11 k := fun v u k h3 h4 => by rw [zk_up2_j h3, zk_up2_j h4]
  have f3 : ∀ (v u : Int32), zk_up2 (zk_up2 I 11 4 v) 11 3 u 11 3 = u := fun v u => by rw [zk_up2_s]
  have f4 : ∀ (v u : Int32), zk_up2 (zk_up2 I 11 4 v) 11 3 u 11 4 = v := fun v u => by rw [zk_up2_j (by decide), zk_up2_s]
  have g : ∀ (v u : Int32), ztk (zwc (zsg B a (b - a))) = u → (1000 ≤ zwc (zsg B a (b - a)) → zt_c (zwc (zsg B a (b - a)) - 1000) = v) → P none (zk_mk (zk_up2 (zk_up2 I 11 4 v) 11 3 u) tg) := fun v u e1 e2 => K _ (f1 v u) (f2 v u) (by rw [f3, e1]) (fun w => by rw [f4, e2 w])
  generalize hL : zsg B a (b - a) = L at *
  have q0 : ∀ {P : Option Value → zk_M → Prop} {d : Nat} (j : Nat), j < 12 → zk_R sc d 108 0 [some (.ref (11 : Nat)), some (.ref (2000 + j)), none] [] (zk_mk I tg) P = P (some (.int (zb (L = zwl j)))) (zk_mk I tg) := fun {P d} j hj => by rw [← hL]; exact s108 h ha hb hab hbm hj
  have q1 : ∀ {P : Option Value → zk_M → Prop} {d : Nat} (v : Int32) (j : Nat), j < 12 → zk_R sc d 108 0 [some (.ref (11 : Nat)), some (.ref (2000 + j)), none] [] (zk_mk (zk_up2 I 11 4 v) tg) P = P (some (.int (zb (L = zwl j)))) (zk_mk (zk_up2 I 11 4 v) tg) := fun {P d} v j hj => by rw [← hL]; exact s108 (w v) (wa v) (wb v) hab hbm hj
  unfold zwc at g
  by_cases c0 : L = zwl 0
  · simp only [if_pos c0] at g
    simp only [u107_0, u107_1, u107_2, u107_4, u107_7, u107_10, u107_11, u107_14, u107_15, u107_17, u107_20, u107_23, u107_25, u107_28, u107_29, u107_31, u107_34, u107_37, u107_39, u107_42, u107_43, u107_45, u107_48, u107_51, u107_53, u107_56, u107_57, u107_59, u107_62, u107_65, u107_67, u107_70, u107_71, u107_73, u107_76, u107_79, u107_81, u107_84, u107_85, u107_88, u107_89, u107_90, u107_93, u107_96, u107_97, u107_100, u107_101, u107_103, u107_106, u107_109, u107_111, u107_114, u107_115, u107_117, u107_120, u107_123, u107_125, u107_128, u107_129, u107_131, u107_134, u107_137, u107_139, u107_142, u107_143, u107_145, u107_148, u107_151, u107_152, u107_155, u107_156, u107_158, u107_161, u107_164, u107_165, u107_168, u107_169, u107_171, u107_174, u107_177, u107_178, u107_181, u107_182, u107_185, zk_mk_1, zk_mk_I, zk_mk_R, zk_mk_set, zk_mk_setR, zk_mk_cpy, zk_rv_some, zk_rv_none, Option.toList_some, Option.toList_none, List.cons_append, List.nil_append, reduceIte, eq_self, Nat.reduceLT, Nat.reduceEqDiff, and_true, true_and, reduceCtorEq, zsh_11, q0 0 (by decide), zb_t c0, zk_up2_s, show ¬ (1 : Int32) = 0 from by decide, show ¬ (0 : Int32) ≤ -1 from by decide]
    exact g _ _ (by decide) (fun _ => by decide)
  simp only [if_neg c0] at g
  by_cases c1 : L = zwl 1
  · simp only [if_pos c1] at g
    simp only [u107_0, u107_1, u107_2, u107_4, u107_7, u107_10, u107_11, u107_14, u107_15, u107_17, u107_20, u107_23, u107_25, u107_28, u107_29, u107_31, u107_34, u107_37, u107_39, u107_42, u107_43, u107_45, u107_48, u107_51, u107_53, u107_56, u107_57, u107_59, u107_62, u107_65, u107_67, u107_70, u107_71, u107_73, u107_76, u107_79, u107_81, u107_84, u107_85, u107_88, u107_89, u107_90, u107_93, u107_96, u107_97, u107_100, u107_101, u107_103, u107_106, u107_109, u107_111, u107_114, u107_115, u107_117, u107_120, u107_123, u107_125, u107_128, u107_129, u107_131, u107_134, u107_137, u107_139, u107_142, u107_143, u107_145, u107_148, u107_151, u107_152, u107_155, u107_156, u107_158, u107_161, u107_164, u107_165, u107_168, u107_169, u107_171, u107_174, u107_177, u107_178, u107_181, u107_182, u107_185, zk_mk_1, zk_mk_I, zk_mk_R, zk_mk_set, zk_mk_setR, zk_mk_cpy, zk_rv_some, zk_rv_none, Option.toList_some, Option.toList_none, List.cons_append, List.nil_append, reduceIte, eq_self, Nat.reduceLT, Nat.reduceEqDiff, and_true, true_and, reduceCtorEq, zsh_11, q0 0 (by decide), q0 1 (by decide), zb_f c0, zb_t c1, zk_up2_s, show ¬ (1 : Int32) = 0 from by decide, show ¬ (0 : Int32) ≤ -2 from by decide]
    exact g _ _ (by decide) (fun _ => by decide)
  simp only [if_neg c1] at g
  by_cases c2 : L = zwl 2
  · simp only [if_pos c2] at g
    simp only [u107_0, u107_1, u107_2, u107_4, u107_7, u107_10, u107_11, u107_14, u107_15, u107_17, u107_20, u107_23, u107_25, u107_28, u107_29, u107_31, u107_34, u107_37, u107_39, u107_42, u107_43, u107_45, u107_48, u107_51, u107_53, u107_56, u107_57, u107_59, u107_62, u107_65, u107_67, u107_70, u107_71, u107_73, u107_76, u107_79, u107_81, u107_84, u107_85, u107_88, u107_89, u107_90, u107_93, u107_96, u107_97, u107_100, u107_101, u107_103, u107_106, u107_109, u107_111, u107_114, u107_115, u107_117, u107_120, u107_123, u107_125, u107_128, u107_129, u107_131, u107_134, u107_137, u107_139, u107_142, u107_143, u107_145, u107_148, u107_151, u107_152, u107_155, u107_156, u107_158, u107_161, u107_164, u107_165, u107_168, u107_169, u107_171, u107_174, u107_177, u107_178, u107_181, u107_182, u107_185, zk_mk_1, zk_mk_I, zk_mk_R, zk_mk_set, zk_mk_setR, zk_mk_cpy, zk_rv_some, zk_rv_none, Option.toList_some, Option.toList_none, List.cons_append, List.nil_append, reduceIte, eq_self, Nat.reduceLT, Nat.reduceEqDiff, and_true, true_and, reduceCtorEq, zsh_11, q0 0 (by decide), q0 1 (by decide), q0 2 (by decide), zb_f c0, zb_f c1, zb_t c2, zk_up2_s, show ¬ (1 : Int32) = 0 from by decide, show ¬ (0 : Int32) ≤ -3 from by decide]
    exact g _ _ (by decide) (fun _ => by decide)
  simp only [if_neg c2] at g
  by_cases c3 : L = zwl 3
  · simp only [if_pos c3] at g
    simp only [u107_0, u107_1, u107_2, u107_4, u107_7, u107_10, u107_11, u107_14, u107_15, u107_17, u107_20, u107_23, u107_25, u107_28, u107_29, u107_31, u107_34, u107_37, u107_39, u107_42, u107_43, u107_45, u107_48, u107_51, u107_53, u107_56, u107_57, u107_59, u107_62, u107_65, u107_67, u107_70, u107_71, u107_73, u107_76, u107_79, u107_81, u107_84, u107_85, u107_88, u107_89, u107_90, u107_93, u107_96, u107_97, u107_100, u107_101, u107_103, u107_106, u107_109, u107_111, u107_114, u107_115, u107_117, u107_120, u107_123, u107_125, u107_128, u107_129, u107_131, u107_134, u107_137, u107_139, u107_142, u107_143, u107_145, u107_148, u107_151, u107_152, u107_155, u107_156, u107_158, u107_161, u107_164, u107_165, u107_168, u107_169, u107_171, u107_174, u107_177, u107_178, u107_181, u107_182, u107_185, zk_mk_1, zk_mk_I, zk_mk_R, zk_mk_set, zk_mk_setR, zk_mk_cpy, zk_rv_some, zk_rv_none, Option.toList_some, Option.toList_none, List.cons_append, List.nil_append, reduceIte, eq_self, Nat.reduceLT, Nat.reduceEqDiff, and_true, true_and, reduceCtorEq, zsh_11, q0 0 (by decide), q0 1 (by decide), q0 2 (by decide), q0 3 (by decide), zb_f c0, zb_f c1, zb_f c2, zb_t c3, zk_up2_s, show ¬ (1 : Int32) = 0 from by decide, show ¬ (0 : Int32) ≤ -4 from by decide]
    exact g _ _ (by decide) (fun _ => by decide)
  simp only [if_neg c3] at g
  by_cases c4 : L = zwl 4
  · simp only [if_pos c4] at g
    simp only [u107_0, u107_1, u107_2, u107_4, u107_7, u107_10, u107_11, u107_14, u107_15, u107_17, u107_20, u107_23, u107_25, u107_28, u107_29, u107_31, u107_34, u107_37, u107_39, u107_42, u107_43, u107_45, u107_48, u107_51, u107_53, u107_56, u107_57, u107_59, u107_62, u107_65, u107_67, u107_70, u107_71, u107_73, u107_76, u107_79, u107_81, u107_84, u107_85, u107_88, u107_89, u107_90, u107_93, u107_96, u107_97, u107_100, u107_101, u107_103, u107_106, u107_109, u107_111, u107_114, u107_115, u107_117, u107_120, u107_123, u107_125, u107_128, u107_129, u107_131, u107_134, u107_137, u107_139, u107_142, u107_143, u107_145, u107_148, u107_151, u107_152, u107_155, u107_156, u107_158, u107_161, u107_164, u107_165, u107_168, u107_169, u107_171, u107_174, u107_177, u107_178, u107_181, u107_182, u107_185, zk_mk_1, zk_mk_I, zk_mk_R, zk_mk_set, zk_mk_setR, zk_mk_cpy, zk_rv_some, zk_rv_none, Option.toList_some, Option.toList_none, List.cons_append, List.nil_append, reduceIte, eq_self, Nat.reduceLT, Nat.reduceEqDiff, and_true, true_and, reduceCtorEq, zsh_11, q0 0 (by decide), q0 1 (by decide), q0 2 (by decide), q0 3 (by decide), q0 4 (by decide), zb_f c0, zb_f c1, zb_f c2, zb_f c3, zb_t c4, zk_up2_s, show ¬ (1 : Int32) = 0 from by decide, show ¬ (0 : Int32) ≤ -5 from by decide]
    exact g _ _ (by decide) (fun _ => by decide)
  simp only [if_neg c4] at g
  by_cases c5 : L = zwl 5
  · simp only [if_pos c5] at g
    simp only [u107_0, u107_1, u107_2, u107_4, u107_7, u107_10, u107_11, u107_14, u107_15, u107_17, u107_20, u107_23, u107_25, u107_28, u107_29, u107_31, u107_34, u107_37, u107_39, u107_42, u107_43, u107_45, u107_48, u107_51, u107_53, u107_56, u107_57, u107_59, u107_62, u107_65, u107_67, u107_70, u107_71, u107_73, u107_76, u107_79, u107_81, u107_84, u107_85, u107_88, u107_89, u107_90, u107_93, u107_96, u107_97, u107_100, u107_101, u107_103, u107_106, u107_109, u107_111, u107_114, u107_115, u107_117, u107_120, u107_123, u107_125, u107_128, u107_129, u107_131, u107_134, u107_137, u107_139, u107_142, u107_143, u107_145, u107_148, u107_151, u107_152, u107_155, u107_156, u107_158, u107_161, u107_164, u107_165, u107_168, u107_169, u107_171, u107_174, u107_177, u107_178, u107_181, u107_182, u107_185, zk_mk_1, zk_mk_I, zk_mk_R, zk_mk_set, zk_mk_setR, zk_mk_cpy, zk_rv_some, zk_rv_none, Option.toList_some, Option.toList_none, List.cons_append, List.nil_append, reduceIte, eq_self, Nat.reduceLT, Nat.reduceEqDiff, and_true, true_and, reduceCtorEq, zsh_11, q0 0 (by decide), q0 1 (by decide), q0 2 (by decide), q0 3 (by decide), q0 4 (by decide), q0 5 (by decide), zb_f c0, zb_f c1, zb_f c2, zb_f c3, zb_f c4, zb_t c5, zk_up2_s, show ¬ (1 : Int32) = 0 from by decide, show ¬ (0 : Int32) ≤ -6 from by decide]
    exact g _ _ (by decide) (fun _ => by decide)
  simp only [if_neg c5] at g
  simp only [u107_0, u107_1, u107_2, u107_4, u107_7, u107_10, u107_11, u107_14, u107_15, u107_17, u107_20, u107_23, u107_25, u107_28, u107_29, u107_31, u107_34, u107_37, u107_39, u107_42, u107_43, u107_45, u107_48, u107_51, u107_53, u107_56, u107_57, u107_59, u107_62, u107_65, u107_67, u107_70, u107_71, u107_73, u107_76, u107_79, u107_81, u107_84, u107_85, u107_88, u107_89, u107_90, u107_93, u107_96, u107_97, u107_100, u107_101, u107_103, u107_106, u107_109, u107_111, u107_114, u107_115, u107_117, u107_120, u107_123, u107_125, u107_128, u107_129, u107_131, u107_134, u107_137, u107_139, u107_142, u107_143, u107_145, u107_148, u107_151, u107_152, u107_155, u107_156, u107_158, u107_161, u107_164, u107_165, u107_168, u107_169, u107_171, u107_174, u107_177, u107_178, u107_181, u107_182, u107_185, zk_mk_1, zk_mk_I, zk_mk_R, zk_mk_set, zk_mk_setR, zk_mk_cpy, zk_rv_some, zk_rv_none, Option.toList_some, Option.toList_none, List.cons_append, List.nil_append, reduceIte, eq_self, Nat.reduceLT, Nat.reduceEqDiff, and_true, true_and, reduceCtorEq, zsh_11, q0 0 (by decide), q0 1 (by decide), q0 2 (by decide), q0 3 (by decide), q0 4 (by decide), q0 5 (by decide), zb_f c0, zb_f c1, zb_f c2, zb_f c3, zb_f c4, zb_f c5, zk_up2_s, show (0 : Int32) ≤ 0 from by decide, q1 0 6 (by decide), q1 0 7 (by decide), q1 0 8 (by decide), q1 0 9 (by decide), q1 0 10 (by decide), q1 0 11 (by decide), zb_z]
  repeat' (split at g <;> rename_i cc <;> first | rw [if_neg (not_not_intro cc)] | rw [if_pos cc])
  all_goals exact g _ _ (by decide) (fun hh => absurd hh (by decide))
