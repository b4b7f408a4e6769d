/-! taken: a card of a kind -/
abbrev zA_under (k q : Int32) : Prop := q = 0 ∨ k = q ∨ (q = 1 ∧ k = 3) ∨ (q = 2 ∧ k = 4)
theorem u60x {sc : zk_X} {d : Nat} {M : zk_M} {P : Option Value → zk_M → Prop} {x0 x1 x2 x3 x4 : Option Value} {i : Int32} {st : List Value} (h : M.1 ≤ 1001) : zk_R sc d 60 50 [x0, x1, x2, x3, x4] (.int i :: .ref (1001 : Nat) :: st) M P = (zk_inb i 6 = true ∧ zk_R sc d 60 51 [x0, x1, x2, x3, x4] (.int (zk_kab i.toNatClampNeg) :: st) M P) := zr_ialdx um60 (rfl : zk_lk zm_60.2.2.2.2.2 50 = some (.iaload)) h rfl
theorem z83_1001 : (83 ≤ 1001) = True := by decide
theorem s60_st {sc : zk_X} {d : Nat} {I : Nat → Nat → Int32} {tg : Option Nat} {P : Option Value → zk_M → Prop} {c : Int32} {kind is : Int32} {i : Nat} (hi : i < 6) : zk_R sc d 60 28 [some (.ref (0 : Nat)), some (.int c), some (.int kind), some (.int is), some (.int (nI i))] [] (zk_mk I tg) P = if is < 0 then P (some (.int (-100013))) (zk_mk I tg) else if is = kind then P (some (.int c)) (zk_mk I tg) else (zk_inb is 6 = true ∧ zk_R sc d 60 28 [some (.ref (0 : Nat)), some (.int c), some (.int kind), some (.int (zk_kab is.toNatClampNeg)), some (.int (nI (i + 1)))] [] (zk_mk I tg) P) := by
  rw [u60_28]
  simp only [u60_0, u60_1, u60_4, u60_5, u60_8, u60_11, u60_14, u60_15, u60_16, u60_19, u60_22, u60_23, u60_24, u60_25, u60_26, u60_30, u60_32, u60_35, u60_36, u60_39, u60_40, u60_41, u60_44, u60_45, u60_46, u60_49, u60_51, u60_52, u60_55, u60_58, u60_61, u60x, zk_mk_1, zk_mk_I, zk_mk_R, zk_mk_set, zk_mk_setR, zk_mk_cpy, zk_rv_some, zk_rv_none, Option.toList_some, Option.toList_none, List.cons_append, List.nil_append, reduceIte, eq_self, Nat.reduceLT, Nat.reduceEqDiff, and_true, true_and, reduceCtorEq, z83_1001, nI_1]
  rw [if_neg (show ¬ (6 : Int32) ≤ nI i from nI_ge (b := 6) hi (by decide))]
def zA_card (k kind c : Int32) : Int32 := if zA_under k kind then c else -100013
theorem zA_card_y {k kind c : Int32} (h : zA_under k kind) : zA_card k kind c = c := if_pos h
theorem zA_card_n {k kind c : Int32} (h : ¬ zA_under k kind) : zA_card k kind c = -100013 := if_neg h
theorem s60_lp {sc : zk_X} {d : Nat} {I : Nat → Nat → Int32} {tg : Option Nat} {P : Option Value → zk_M → Prop} {c kind : Int32} {k : Nat} (hk : k < 6) (K : P (some (.int (zA_card (nI k) kind c))) (zk_mk I tg)) : zk_R sc d 60 28 [some (.ref (0 : Nat)), some (.int c), some (.int kind), some (.int (nI k)), some (.int (nI 0))] [] (zk_mk I tg) P := by
  rcases (show k = 0 ∨ k = 1 ∨ k = 2 ∨ k = 3 ∨ k = 4 ∨ k = 5 by omega) with rfl | rfl | rfl | rfl | rfl | rfl
  · rw [s60_st (i := 0) (by decide), if_neg (show ¬ (nI 0 : Int32) < 0 by decide)]
    by_cases h0 : nI 0 = kind
    · rw [if_pos h0]
      rw [zA_card_y (by unfold zA_under; subst h0; decide)] at K
      exact K
    · rw [if_neg h0]
      refine ⟨by decide, ?_⟩
      rw [show zk_kab (nI 0).toNatClampNeg = -1 from by decide]
      rw [s60_st (i := 1) (by decide), if_pos (show (-1 : Int32) < 0 by decide)]
      rw [zA_card_n (by
        rintro (q | q | ⟨q, r⟩ | ⟨q, r⟩)
        · exact h0 q.symm
        · exact h0 q
        · exact absurd r (by decide)
        · exact absurd r (by decide))] at K
      exact K
  · rw [s60_st (i := 0) (by decide), if_neg (show ¬ (nI 1 : Int32) < 0 by decide)]
    by_cases h1 : nI 1 = kind
    · rw [if_pos h1]
      rw [zA_card_y (by unfold zA_under; subst h1; decide)] at K
      exact K
    · rw [if_neg h1]
      refine ⟨by decide, ?_⟩
      rw [show zk_kab (nI 1).toNatClampNeg = nI 0 from by decide]
      rw [s60_st (i := 1) (by decide), if_neg (show ¬ (nI 0 : Int32) < 0 by decide)]
      by_cases h0 : nI 0 = kind
      · rw [if_pos h0]
        rw [zA_card_y (by unfold zA_under; subst h0; decide)] at K
        exact K
      · rw [if_neg h0]
        refine ⟨by decide, ?_⟩
        rw [show zk_kab (nI 0).toNatClampNeg = -1 from by decide]
        rw [s60_st (i := 2) (by decide), if_pos (show (-1 : Int32) < 0 by decide)]
        rw [zA_card_n (by
          rintro (q | q | ⟨q, r⟩ | ⟨q, r⟩)
          · exact h0 q.symm
          · exact h1 q
          · exact absurd r (by decide)
          · exact absurd r (by decide))] at K
        exact K
  · rw [s60_st (i := 0) (by decide), if_neg (show ¬ (nI 2 : Int32) < 0 by decide)]
    by_cases h2 : nI 2 = kind
    · rw [if_pos h2]
      rw [zA_card_y (by unfold zA_under; subst h2; decide)] at K
      exact K
    · rw [if_neg h2]
      refine ⟨by decide, ?_⟩
      rw [show zk_kab (nI 2).toNatClampNeg = nI 0 from by decide]
      rw [s60_st (i := 1) (by decide), if_neg (show ¬ (nI 0 : Int32) < 0 by decide)]
      by_cases h0 : nI 0 = kind
      · rw [if_pos h0]
        rw [zA_card_y (by unfold zA_under; subst h0; decide)] at K
        exact K
      · rw [if_neg h0]
        refine ⟨by decide, ?_⟩
        rw [show zk_kab (nI 0).toNatClampNeg = -1 from by decide]
        rw [s60_st (i := 2) (by decide), if_pos (show (-1 : Int32) < 0 by decide)]
        rw [zA_card_n (by
          rintro (q | q | ⟨q, r⟩ | ⟨q, r⟩)
          · exact h0 q.symm
          · exact h2 q
          · exact absurd r (by decide)
          · exact absurd r (by decide))] at K
        exact K
  · rw [s60_st (i := 0) (by decide), if_neg (show ¬ (nI 3 : Int32) < 0 by decide)]
    by_cases h3 : nI 3 = kind
    · rw [if_pos h3]
      rw [zA_card_y (by unfold zA_under; subst h3; decide)] at K
      exact K
    · rw [if_neg h3]
      refine ⟨by decide, ?_⟩
      rw [show zk_kab (nI 3).toNatClampNeg = nI 1 from by decide]
      rw [s60_st (i := 1) (by decide), if_neg (show ¬ (nI 1 : Int32) < 0 by decide)]
      by_cases h1 : nI 1 = kind
      · rw [if_pos h1]
        rw [zA_card_y (by unfold zA_under; subst h1; decide)] at K
        exact K
      · rw [if_neg h1]
        refine ⟨by decide, ?_⟩
        rw [show zk_kab (nI 1).toNatClampNeg = nI 0 from by decide]
        rw [s60_st (i := 2) (by decide), if_neg (show ¬ (nI 0 : Int32) < 0 by decide)]
        by_cases h0 : nI 0 = kind
        · rw [if_pos h0]
          rw [zA_card_y (by unfold zA_under; subst h0; decide)] at K
          exact K
        · rw [if_neg h0]
          refine ⟨by decide, ?_⟩
          rw [show zk_kab (nI 0).toNatClampNeg = -1 from by decide]
          rw [s60_st (i := 3) (by decide), if_pos (show (-1 : Int32) < 0 by decide)]
          rw [zA_card_n (by
            rintro (q | q | ⟨q, r⟩ | ⟨q, r⟩)
            · exact h0 q.symm
            · exact h3 q
            · exact h1 q.symm
            · exact absurd r (by decide))] at K
          exact K
  · rw [s60_st (i := 0) (by decide), if_neg (show ¬ (nI 4 : Int32) < 0 by decide)]
    by_cases h4 : nI 4 = kind
    · rw [if_pos h4]
      rw [zA_card_y (by unfold zA_under; subst h4; decide)] at K
      exact K
    · rw [if_neg h4]
      refine ⟨by decide, ?_⟩
      rw [show zk_kab (nI 4).toNatClampNeg = nI 2 from by decide]
      rw [s60_st (i := 1) (by decide), if_neg (show ¬ (nI 2 : Int32) < 0 by decide)]
      by_cases h2 : nI 2 = kind
      · rw [if_pos h2]
        rw [zA_card_y (by unfold zA_under; subst h2; decide)] at K
        exact K
      · rw [if_neg h2]
        refine ⟨by decide, ?_⟩
        rw [show zk_kab (nI 2).toNatClampNeg = nI 0 from by decide]
        rw [s60_st (i := 2) (by decide), if_neg (show ¬ (nI 0 : Int32) < 0 by decide)]
        by_cases h0 : nI 0 = kind
        · rw [if_pos h0]
          rw [zA_card_y (by unfold zA_under; subst h0; decide)] at K
          exact K
        · rw [if_neg h0]
          refine ⟨by decide, ?_⟩
          rw [show zk_kab (nI 0).toNatClampNeg = -1 from by decide]
          rw [s60_st (i := 3) (by decide), if_pos (show (-1 : Int32) < 0 by decide)]
          rw [zA_card_n (by
            rintro (q | q | ⟨q, r⟩ | ⟨q, r⟩)
            · exact h0 q.symm
            · exact h4 q
            · exact absurd r (by decide)
            · exact h2 q.symm)] at K
          exact K
  · rw [s60_st (i := 0) (by decide), if_neg (show ¬ (nI 5 : Int32) < 0 by decide)]
    by_cases h5 : nI 5 = kind
    · rw [if_pos h5]
      rw [zA_card_y (by unfold zA_under; subst h5; decide)] at K
      exact K
    · rw [if_neg h5]
      refine ⟨by decide, ?_⟩
      rw [show zk_kab (nI 5).toNatClampNeg = nI 0 from by decide]
      rw [s60_st (i := 1) (by decide), if_neg (show ¬ (nI 0 : Int32) < 0 by decide)]
      by_cases h0 : nI 0 = kind
      · rw [if_pos h0]
        rw [zA_card_y (by unfold zA_under; subst h0; decide)] at K
        exact K
      · rw [if_neg h0]
        refine ⟨by decide, ?_⟩
        rw [show zk_kab (nI 0).toNatClampNeg = -1 from by decide]
        rw [s60_st (i := 2) (by decide), if_pos (show (-1 : Int32) < 0 by decide)]
        rw [zA_card_n (by
          rintro (q | q | ⟨q, r⟩ | ⟨q, r⟩)
          · exact h0 q.symm
          · exact h5 q
          · exact absurd r (by decide)
          · exact absurd r (by decide))] at K
        exact K
