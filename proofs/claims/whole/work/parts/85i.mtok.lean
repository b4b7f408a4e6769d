/-! the next token: by the reference -/
def zj_mp (I : Nat → Nat → Int32) (m : Nat) (B : Nat → Nat) : Prop := I 60 6 = nI m ∧ m ≤ 160 ∧ (∀ j, j < m → I 65 j = nI (B j) ∧ B j < 256) ∧ zj_con I
def zmo (k : Nat) : Nat := [6, 7, 8, 0, 1, 2, 3, 4, 5, 9, 10, 11].getD k 0
theorem zmo_lt {k : Nat} (h : k < 12) : zmo k < 12 := by
  rcases (show k = 0 ∨ k = 1 ∨ k = 2 ∨ k = 3 ∨ k = 4 ∨ k = 5 ∨ k = 6 ∨ k = 7 ∨ k = 8 ∨ k = 9 ∨ k = 10 ∨ k = 11 by omega) with rfl | rfl | rfl | rfl | rfl | rfl | rfl | rfl | rfl | rfl | rfl | rfl <;> decide
def zwch (k c : Nat) : Nat := if c < (zwl (zmo k)).length then (zwl (zmo k)).getD c 0 else 32
theorem zwch_row : ∀ k, k < 12 → ∀ c, c < 8 → zw_list.getD (8 * k + c) 0 = nI (zwch k c) ∧ zwch k c < 256 := by decide
theorem zwl_ab : ∀ j, j < 12 → ∀ c, c < (zwl j).length → 97 ≤ (zwl j).getD c 0 ∧ (zwl j).getD c 0 ≤ 122 := by decide
theorem zmw_iff {B : Nat → Nat} {a n k : Nat} (hk : k < 12) (hl : ∀ i, i < n → 97 ≤ B (a + i)) : (n ≤ 8 ∧ ∀ c, c < 8 → zwch k c = if c < n then B (a + c) else 32) ↔ zsg B a n = zwl (zmo k) := by
  have h8 := zwl_8 (zmo_lt hk)
  have hab := zwl_ab (zmo k) (zmo_lt hk)
  rw [zsg_eq]
  constructor
  · rintro ⟨h1, h2⟩
    have e : (zwl (zmo k)).length = n := by
      rcases Nat.lt_trichotomy (zwl (zmo k)).length n with h | h | h
      · have q := h2 (zwl (zmo k)).length (by omega)
        have := hl (zwl (zmo k)).length h
        unfold zwch at q
        rw [if_neg (by omega), if_pos h] at q
        omega
      · exact h
      · have q := h2 n (by omega)
        have := hab n h
        unfold zwch at q
        rw [if_pos h, if_neg (by omega)] at q
        omega
    refine ⟨e, fun i hi => ?_⟩
    have q := h2 i (by omega)
    unfold zwch at q
    rw [if_pos (by omega), if_pos hi] at q
    exact q.symm
  · rintro ⟨h1, h2⟩
    refine ⟨by omega, fun c hc => ?_⟩
    unfold zwch
    by_cases q : c < n
    · rw [if_pos (by omega), if_pos q, h2 c q]
    · rw [if_neg (by omega), if_neg q]
theorem s130 {sc : zk_X} {d : Nat} {I : Nat → Nat → Int32} {tg : Option Nat} {P : Option Value → zk_M → Prop} {m a b : Nat} {B : Nat → Nat} (h : zj_mp I m B) (hab : a ≤ b) (hbm : b ≤ m) (hl : ∀ i, a ≤ i → i < b → 97 ≤ B i) (K : ∀ k, k ≤ 12 → (k < 12 → zsg B a (b - a) = zwl (zmo k)) → (k = 12 → ∀ j, j < 12 → ¬ zsg B a (b - a) = zwl (zmo j)) → P (some (.int (nI k))) (zk_mk I tg)) : zk_R sc d 130 0 [some (.ref (60 : Nat)), some (.int (nI a)), some (.int (nI b)), none, none, none] [] (zk_mk I tg) P := by
  obtain ⟨h1, h2, h3, h4⟩ := id h
  have es : nI b - nI a = nI (b - a) := zn_sub hab
  have inner : ∀ k, k < 12 → b - a ≤ 8 → (zsg B a (b - a) = zwl (zmo k) → ∀ x, zk_R sc d 130 88 [some (.ref (60 : Nat)), some (.int (nI a)), some (.int (nI b)), some (.int (nI k)), some (.int 1), x] [] (zk_mk I tg) P) → (¬ zsg B a (b - a) = zwl (zmo k) → ∀ x, zk_R sc d 130 88 [some (.ref (60 : Nat)), some (.int (nI a)), some (.int (nI b)), some (.int (nI k)), some (.int 0), x] [] (zk_mk I tg) P) → ∀ f c, c + f = 8 → (∀ j, j < c → zwch k j = if j < b - a then B (a + j) else 32) → zk_R sc d 130 26 [some (.ref (60 : Nat)), some (.int (nI a)), some (.int (nI b)), some (.int (nI k)), some (.int 1), some (.int (nI c))] [] (zk_mk I tg) P := by
    intro k hk h8 hA hB f
    induction f with
    | zero =>
      intro c hc hm
      have c1 : (8 : Int32) ≤ nI c := by rw [show (8 : Int32) = nI 8 from rfl, zn_le (by decide) (by omega)]; omega
      rw [u130_26]
      simp only [u130_0, u130_1, u130_2, u130_3, u130_5, u130_8, u130_9, u130_10, u130_11, u130_13, u130_16, u130_17, u130_20, u130_21, u130_23, u130_24, u130_28, u130_30, u130_33, u130_35, u130_38, u130_39, u130_42, u130_44, u130_45, u130_46, u130_48, u130_49, u130_50, u130_51, u130_53, u130_54, u130_55, u130_58, u130_59, u130_62, u130_63, u130_65, u130_66, u130_67, u130_70, u130_72, u130_75, u130_76, u130_79, u130_80, u130_82, u130_85, u130_90, u130_93, u130_94, u130_95, u130_98, u130_101, u130_103, zk_mk_1, zk_mk_I, zk_mk_R, zk_mk_set, zk_mk_setR, zk_mk_cpy, zk_rv_some, zk_rv_none, Option.toList_some, Option.toList_none, List.cons_append, List.nil_append, reduceIte, eq_self, Nat.reduceLT, Nat.reduceEqDiff, and_true, true_and, reduceCtorEq, c1]
      exact hA ((zmw_iff hk (fun i hi => hl (a + i) (by omega) (by omega))).mp ⟨h8, fun j hj => hm j (by omega)⟩) _
    | succ f ih =>
      intro c hc hm
      have c1 : ¬ (8 : Int32) ≤ nI c := nI_ge (b := 8) (by omega) (by decide)
      have z1 : (8 : Int32) * nI k + nI c = nI (8 * k + c) := by rw [show (8 : Int32) = nI 8 from rfl, zn_mul, zn_add]
      have z2 : zk_inb (nI (8 * k + c)) 96 = true := by rw [zn_in (by omega)]; omega
      have z3 : (nI (8 * k + c)).toNatClampNeg = 8 * k + c := zn_cl (by omega)
      have z4 : I 73 (8 * k + c) = nI (zwch k c) := by rw [h4 _ (by omega)]; exact (zwch_row k hk c (by omega)).1
      have zl := (zwch_row k hk c (by omega)).2
      have p1 : (nI c + 1 : Int32) = nI (c + 1) := zn_add c 1
      by_cases ca : c < b - a
      · have c2 : ¬ nI b ≤ nI (a + c) := nI_ge (by omega) (by omega)
        have z5 : zk_inb (nI (a + c)) 160 = true := by rw [zn_in (by omega)]; omega
        have z6 : (nI (a + c)).toNatClampNeg = a + c := zn_cl (by omega)
        have z7 := h3 (a + c) (by omega)
        have qe : (nI (zwch k c) = nI (B (a + c))) = (zwch k c = B (a + c)) := zn_eq (by omega) (by have := z7.2; omega)
        rw [u130_26]
        simp only [u130_0, u130_1, u130_2, u130_3, u130_5, u130_8, u130_9, u130_10, u130_11, u130_13, u130_16, u130_17, u130_20, u130_21, u130_23, u130_24, u130_28, u130_30, u130_33, u130_35, u130_38, u130_39, u130_42, u130_44, u130_45, u130_46, u130_48, u130_49, u130_50, u130_51, u130_53, u130_54, u130_55, u130_58, u130_59, u130_62, u130_63, u130_65, u130_66, u130_67, u130_70, u130_72, u130_75, u130_76, u130_79, u130_80, u130_82, u130_85, u130_90, u130_93, u130_94, u130_95, u130_98, u130_101, u130_103, zk_mk_1, zk_mk_I, zk_mk_R, zk_mk_set, zk_mk_setR, zk_mk_cpy, zk_rv_some, zk_rv_none, Option.toList_some, Option.toList_none, List.cons_append, List.nil_append, reduceIte, eq_self, Nat.reduceLT, Nat.reduceEqDiff, and_true, true_and, reduceCtorEq, zsh_60, zsh_65, zsh_73, zrf_60_5, zrf_60_8, zrf_60_23, c1, z1, z2, z3, z4, zn_add, c2, z5, z6, z7.1, p1, show ¬ (1 : Int32) = 0 from by decide, qe]
        by_cases e : zwch k c = B (a + c)
        · rw [if_pos e]
          exact ih (c + 1) (by omega) (fun j hj => by
            by_cases hjc : j = c
            · subst hjc; rw [if_pos ca]; exact e
            · exact hm j (by omega))
        · rw [if_neg e, u130_26]
          have : ¬ zsg B a (b - a) = zwl (zmo k) := fun w => e (by have := ((zmw_iff hk (fun i hi => hl (a + i) (by omega) (by omega))).mpr w).2 c (by omega); rw [if_pos ca] at this; exact this)
          by_cases c9 : (8 : Int32) ≤ nI (c + 1)
          · simp only [u130_0, u130_1, u130_2, u130_3, u130_5, u130_8, u130_9, u130_10, u130_11, u130_13, u130_16, u130_17, u130_20, u130_21, u130_23, u130_24, u130_28, u130_30, u130_33, u130_35, u130_38, u130_39, u130_42, u130_44, u130_45, u130_46, u130_48, u130_49, u130_50, u130_51, u130_53, u130_54, u130_55, u130_58, u130_59, u130_62, u130_63, u130_65, u130_66, u130_67, u130_70, u130_72, u130_75, u130_76, u130_79, u130_80, u130_82, u130_85, u130_90, u130_93, u130_94, u130_95, u130_98, u130_101, u130_103, zk_mk_1, zk_mk_I, zk_mk_R, zk_mk_set, zk_mk_setR, zk_mk_cpy, zk_rv_some, zk_rv_none, Option.toList_some, Option.toList_none, List.cons_append, List.nil_append, reduceIte, eq_self, Nat.reduceLT, Nat.reduceEqDiff, and_true, true_and, reduceCtorEq, c9]
            exact hB this _
          · simp only [u130_0, u130_1, u130_2, u130_3, u130_5, u130_8, u130_9, u130_10, u130_11, u130_13, u130_16, u130_17, u130_20, u130_21, u130_23, u130_24, u130_28, u130_30, u130_33, u130_35, u130_38, u130_39, u130_42, u130_44, u130_45, u130_46, u130_48, u130_49, u130_50, u130_51, u130_53, u130_54, u130_55, u130_58, u130_59, u130_62, u130_63, u130_65, u130_66, u130_67, u130_70, u130_72, u130_75, u130_76, u130_79, u130_80, u130_82, u130_85, u130_90, u130_93, u130_94, u130_95, u130_98, u130_101, u130_103, zk_mk_1, zk_mk_I, zk_mk_R, zk_mk_set, zk_mk_setR, zk_mk_cpy, zk_rv_some, zk_rv_none, Option.toList_some, Option.toList_none, List.cons_append, List.nil_append, reduceIte, eq_self, Nat.reduceLT, Nat.reduceEqDiff, and_true, true_and, reduceCtorEq, c9]
            exact hB this _
      · have c2 : nI b ≤ nI (a + c) := nI_le (by omega) (by omega)
        have qe : (nI (zwch k c) = 32) = (zwch k c = 32) := by rw [show (32 : Int32) = nI 32 from rfl]; exact zn_eq (by omega) (by decide)
        rw [u130_26]
        simp only [u130_0, u130_1, u130_2, u130_3, u130_5, u130_8, u130_9, u130_10, u130_11, u130_13, u130_16, u130_17, u130_20, u130_21, u130_23, u130_24, u130_28, u130_30, u130_33, u130_35, u130_38, u130_39, u130_42, u130_44, u130_45, u130_46, u130_48, u130_49, u130_50, u130_51, u130_53, u130_54, u130_55, u130_58, u130_59, u130_62, u130_63, u130_65, u130_66, u130_67, u130_70, u130_72, u130_75, u130_76, u130_79, u130_80, u130_82, u130_85, u130_90, u130_93, u130_94, u130_95, u130_98, u130_101, u130_103, zk_mk_1, zk_mk_I, zk_mk_R, zk_mk_set, zk_mk_setR, zk_mk_cpy, zk_rv_some, zk_rv_none, Option.toList_some, Option.toList_none, List.cons_append, List.nil_append, reduceIte, eq_self, Nat.reduceLT, Nat.reduceEqDiff, and_true, true_and, reduceCtorEq, zsh_60, zsh_65, zsh_73, zrf_60_5, zrf_60_8, zrf_60_23, c1, z1, z2, z3, z4, zn_add, c2, p1, show ¬ (1 : Int32) = 0 from by decide, qe]
        by_cases e : zwch k c = 32
        · rw [if_pos e]
          exact ih (c + 1) (by omega) (fun j hj => by
            by_cases hjc : j = c
            · subst hjc; rw [if_neg ca]; exact e
            · exact hm j (by omega))
        · rw [if_neg e, u130_26]
          have : ¬ zsg B a (b - a) = zwl (zmo k) := fun w => e (by have := ((zmw_iff hk (fun i hi => hl (a + i) (by omega) (by omega))).mpr w).2 c (by omega); rw [if_neg ca] at this; exact this)
          by_cases c9 : (8 : Int32) ≤ nI (c + 1)
          · simp only [u130_0, u130_1, u130_2, u130_3, u130_5, u130_8, u130_9, u130_10, u130_11, u130_13, u130_16, u130_17, u130_20, u130_21, u130_23, u130_24, u130_28, u130_30, u130_33, u130_35, u130_38, u130_39, u130_42, u130_44, u130_45, u130_46, u130_48, u130_49, u130_50, u130_51, u130_53, u130_54, u130_55, u130_58, u130_59, u130_62, u130_63, u130_65, u130_66, u130_67, u130_70, u130_72, u130_75, u130_76, u130_79, u130_80, u130_82, u130_85, u130_90, u130_93, u130_94, u130_95, u130_98, u130_101, u130_103, zk_mk_1, zk_mk_I, zk_mk_R, zk_mk_set, zk_mk_setR, zk_mk_cpy, zk_rv_some, zk_rv_none, Option.toList_some, Option.toList_none, List.cons_append, List.nil_append, reduceIte, eq_self, Nat.reduceLT, Nat.reduceEqDiff, and_true, true_and, reduceCtorEq, c9]
            exact hB this _
          · simp only [u130_0, u130_1, u130_2, u130_3, u130_5, u130_8, u130_9, u130_10, u130_11, u130_13, u130_16, u130_17, u130_20, u130_21, u130_23, u130_24, u130_28, u130_30, u130_33, u130_35, u130_38, u130_39, u130_42, u130_44, u130_45, u130_46, u130_48, u130_49, u130_50, u130_51, u130_53, u130_54, u130_55, u130_58, u130_59, u130_62, u130_63, u130_65, u130_66, u130_67, u130_70, u130_72, u130_75, u130_76, u130_79, u130_80, u130_82, u130_85, u130_90, u130_93, u130_94, u130_95, u130_98, u130_101, u130_103, zk_mk_1, zk_mk_I, zk_mk_R, zk_mk_set, zk_mk_setR, zk_mk_cpy, zk_rv_some, zk_rv_none, Option.toList_some, Option.toList_none, List.cons_append, List.nil_append, reduceIte, eq_self, Nat.reduceLT, Nat.reduceEqDiff, and_true, true_and, reduceCtorEq, c9]
            exact hB this _
  have outer : ∀ f k x y, k + f = 12 → (∀ j, j < k → ¬ zsg B a (b - a) = zwl (zmo j)) → zk_R sc d 130 2 [some (.ref (60 : Nat)), some (.int (nI a)), some (.int (nI b)), some (.int (nI k)), x, y] [] (zk_mk I tg) P := by
    intro f
    induction f with
    | zero =>
      intro k x y hk hn
      have c1 : (12 : Int32) ≤ nI k := by rw [show (12 : Int32) = nI 12 from rfl, zn_le (by decide) (by omega)]; omega
      rw [u130_2]
      simp only [u130_0, u130_1, u130_3, u130_5, u130_8, u130_9, u130_10, u130_11, u130_13, u130_16, u130_17, u130_20, u130_21, u130_23, u130_24, u130_28, u130_30, u130_33, u130_35, u130_38, u130_39, u130_42, u130_44, u130_45, u130_46, u130_48, u130_49, u130_50, u130_51, u130_53, u130_54, u130_55, u130_58, u130_59, u130_62, u130_63, u130_65, u130_66, u130_67, u130_70, u130_72, u130_75, u130_76, u130_79, u130_80, u130_82, u130_85, u130_88, u130_90, u130_93, u130_94, u130_95, u130_98, u130_101, u130_103, zk_mk_1, zk_mk_I, zk_mk_R, zk_mk_set, zk_mk_setR, zk_mk_cpy, zk_rv_some, zk_rv_none, Option.toList_some, Option.toList_none, List.cons_append, List.nil_append, reduceIte, eq_self, Nat.reduceLT, Nat.reduceEqDiff, and_true, true_and, reduceCtorEq, c1]
      exact K 12 (by decide) (fun w => absurd w (by decide)) (fun _ j hj => hn j (by omega))
    | succ f ih =>
      intro k x y hk hn
      have c1 : ¬ (12 : Int32) ≤ nI k := nI_ge (b := 12) (by omega) (by decide)
      have p1 : (nI k + 1 : Int32) = nI (k + 1) := zn_add k 1
      have hB : ¬ zsg B a (b - a) = zwl (zmo k) → ∀ x, zk_R sc d 130 88 [some (.ref (60 : Nat)), some (.int (nI a)), some (.int (nI b)), some (.int (nI k)), some (.int 0), x] [] (zk_mk I tg) P := by
        intro w x
        rw [u130_88]
        simp only [u130_0, u130_1, u130_3, u130_5, u130_8, u130_9, u130_10, u130_11, u130_13, u130_16, u130_17, u130_20, u130_21, u130_23, u130_24, u130_28, u130_30, u130_33, u130_35, u130_38, u130_39, u130_42, u130_44, u130_45, u130_46, u130_48, u130_49, u130_50, u130_51, u130_53, u130_54, u130_55, u130_58, u130_59, u130_62, u130_63, u130_65, u130_66, u130_67, u130_70, u130_72, u130_75, u130_76, u130_79, u130_80, u130_82, u130_85, u130_90, u130_93, u130_94, u130_95, u130_98, u130_101, u130_103, zk_mk_1, zk_mk_I, zk_mk_R, zk_mk_set, zk_mk_setR, zk_mk_cpy, zk_rv_some, zk_rv_none, Option.toList_some, Option.toList_none, List.cons_append, List.nil_append, reduceIte, eq_self, Nat.reduceLT, Nat.reduceEqDiff, and_true, true_and, reduceCtorEq, p1]
        exact ih (k + 1) _ _ (by omega) (fun j hj => by
          by_cases e : j = k
          · subst e; exact w
          · exact hn j (by omega))
      by_cases c8 : b - a ≤ 8
      · have c2 : ¬ 8 < nI (b - a) := Int32.not_lt.mpr (by rw [show (8 : Int32) = nI 8 from rfl, zn_le (by omega) (by decide)]; exact c8)
        have hA : zsg B a (b - a) = zwl (zmo k) → ∀ x, zk_R sc d 130 88 [some (.ref (60 : Nat)), some (.int (nI a)), some (.int (nI b)), some (.int (nI k)), some (.int 1), x] [] (zk_mk I tg) P := by
          intro w x
          rw [u130_88]
          simp only [u130_0, u130_1, u130_3, u130_5, u130_8, u130_9, u130_10, u130_11, u130_13, u130_16, u130_17, u130_20, u130_21, u130_23, u130_24, u130_28, u130_30, u130_33, u130_35, u130_38, u130_39, u130_42, u130_44, u130_45, u130_46, u130_48, u130_49, u130_50, u130_51, u130_53, u130_54, u130_55, u130_58, u130_59, u130_62, u130_63, u130_65, u130_66, u130_67, u130_70, u130_72, u130_75, u130_76, u130_79, u130_80, u130_82, u130_85, u130_90, u130_93, u130_94, u130_95, u130_98, u130_101, u130_103, zk_mk_1, zk_mk_I, zk_mk_R, zk_mk_set, zk_mk_setR, zk_mk_cpy, zk_rv_some, zk_rv_none, Option.toList_some, Option.toList_none, List.cons_append, List.nil_append, reduceIte, eq_self, Nat.reduceLT, Nat.reduceEqDiff, and_true, true_and, reduceCtorEq, show ¬ (1 : Int32) = 0 from by decide]
          exact K k (by omega) (fun _ => w) (fun e => absurd e (by omega))
        rw [u130_2]
        simp only [u130_0, u130_1, u130_3, u130_5, u130_8, u130_9, u130_10, u130_11, u130_13, u130_16, u130_17, u130_20, u130_21, u130_23, u130_24, u130_28, u130_30, u130_33, u130_35, u130_38, u130_39, u130_42, u130_44, u130_45, u130_46, u130_48, u130_49, u130_50, u130_51, u130_53, u130_54, u130_55, u130_58, u130_59, u130_62, u130_63, u130_65, u130_66, u130_67, u130_70, u130_72, u130_75, u130_76, u130_79, u130_80, u130_82, u130_85, u130_90, u130_93, u130_94, u130_95, u130_98, u130_101, u130_103, zk_mk_1, zk_mk_I, zk_mk_R, zk_mk_set, zk_mk_setR, zk_mk_cpy, zk_rv_some, zk_rv_none, Option.toList_some, Option.toList_none, List.cons_append, List.nil_append, reduceIte, eq_self, Nat.reduceLT, Nat.reduceEqDiff, and_true, true_and, reduceCtorEq, c1, es, c2]
        exact inner k (by omega) c8 hA hB 8 0 rfl (fun j hj => absurd hj (by omega))
      · have c2 : 8 < nI (b - a) := Int32.not_le.mp (by rw [show (8 : Int32) = nI 8 from rfl, zn_le (by omega) (by decide)]; exact c8)
        have w : ¬ zsg B a (b - a) = zwl (zmo k) := fun w => by
          have := (zsg_eq.mp w).1
          have := zwl_8 (zmo_lt (show k < 12 by omega))
          omega
        rw [u130_2]
        simp only [u130_0, u130_1, u130_3, u130_5, u130_8, u130_9, u130_10, u130_11, u130_13, u130_16, u130_17, u130_20, u130_21, u130_23, u130_24, u130_28, u130_30, u130_33, u130_35, u130_38, u130_39, u130_42, u130_44, u130_45, u130_46, u130_48, u130_49, u130_50, u130_51, u130_53, u130_54, u130_55, u130_58, u130_59, u130_62, u130_63, u130_65, u130_66, u130_67, u130_70, u130_72, u130_75, u130_76, u130_79, u130_80, u130_82, u130_85, u130_90, u130_93, u130_94, u130_95, u130_98, u130_101, u130_103, zk_mk_1, zk_mk_I, zk_mk_R, zk_mk_set, zk_mk_setR, zk_mk_cpy, zk_rv_some, zk_rv_none, Option.toList_some, Option.toList_none, List.cons_append, List.nil_append, reduceIte, eq_self, Nat.reduceLT, Nat.reduceEqDiff, and_true, true_and, reduceCtorEq, c1, es, c2]
        rw [u130_26]
        simp only [u130_0, u130_1, u130_3, u130_5, u130_8, u130_9, u130_10, u130_11, u130_13, u130_16, u130_17, u130_20, u130_21, u130_23, u130_24, u130_28, u130_30, u130_33, u130_35, u130_38, u130_39, u130_42, u130_44, u130_45, u130_46, u130_48, u130_49, u130_50, u130_51, u130_53, u130_54, u130_55, u130_58, u130_59, u130_62, u130_63, u130_65, u130_66, u130_67, u130_70, u130_72, u130_75, u130_76, u130_79, u130_80, u130_82, u130_85, u130_90, u130_93, u130_94, u130_95, u130_98, u130_101, u130_103, zk_mk_1, zk_mk_I, zk_mk_R, zk_mk_set, zk_mk_setR, zk_mk_cpy, zk_rv_some, zk_rv_none, Option.toList_some, Option.toList_none, List.cons_append, List.nil_append, reduceIte, eq_self, Nat.reduceLT, Nat.reduceEqDiff, and_true, true_and, reduceCtorEq, show ¬ (8 : Int32) ≤ 0 from by decide]
        exact hB w _
  simp only [u130_0, u130_1, u130_3, u130_5, u130_8, u130_9, u130_10, u130_11, u130_13, u130_16, u130_17, u130_20, u130_21, u130_23, u130_24, u130_28, u130_30, u130_33, u130_35, u130_38, u130_39, u130_42, u130_44, u130_45, u130_46, u130_48, u130_49, u130_50, u130_51, u130_53, u130_54, u130_55, u130_58, u130_59, u130_62, u130_63, u130_65, u130_66, u130_67, u130_70, u130_72, u130_75, u130_76, u130_79, u130_80, u130_82, u130_85, u130_90, u130_93, u130_94, u130_95, u130_98, u130_101, u130_103, zk_mk_1, zk_mk_I, zk_mk_R, zk_mk_set, zk_mk_setR, zk_mk_cpy, zk_rv_some, zk_rv_none, Option.toList_some, Option.toList_none, List.cons_append, List.nil_append, reduceIte, eq_self, Nat.reduceLT, Nat.reduceEqDiff, and_true, true_and, reduceCtorEq]
  exact outer 12 0 _ _ rfl (fun j hj => absurd hj (by omega))
