/-! the loop of the law -/
theorem zw_lt7 {L i : Nat} (hL : L < 100000) (hi : i < 100000) : (nI L - 7 < nI i) = (L < i + 7) := by
  have e : (nI L - 7 : Int32).toInt = (L : Int) - 7 := by
    rw [Int32.toInt_sub, nI_toInt (by omega), show (7 : Int32).toInt = 7 from by decide, Int.bmod_def]
    omega
  apply propext
  rw [Int32.lt_iff_toInt_lt, e, nI_toInt (by omega)]
  omega
def zwE (k : Nat) : Nat := ([208, 231, 306, 319, 342, 385, 418, 431, 464, 497, 530, 543, 556, 589, 612, 645, 668, 691, 724, 747, 760, 773, 806, 829, 862, 885, 908, 942, 965, 1008, 1041, 1074, 1097, 1151, 1164, 1177, 1220, 1263, 1326, 1379] : List Nat).getD k 1412
theorem zwE_sw : ∀ k, k < 64 → zk_sw 33 (1379) (0) (39) #[175, 198, 273, 286, 309, 352, 385, 398, 431, 464, 497, 510, 523, 556, 579, 612, 635, 658, 691, 714, 727, 740, 773, 796, 829, 852, 875, 909, 932, 975, 1008, 1041, 1064, 1118, 1131, 1144, 1187, 1230, 1293, 1346] (nI k) = zwE k := by decide +kernel
theorem zw_and (x : Int32) : ∃ k : Nat, k < 64 ∧ x &&& 63 = nI k := by
  have e : x = nI x.toBitVec.toNat := by
    apply Int32.toBitVec_inj.mp
    show x.toBitVec = (Int32.ofNat x.toBitVec.toNat).toBitVec
    simp
  refine ⟨x.toBitVec.toNat &&& 63, ?_, ?_⟩
  · have := Nat.and_le_right (n := x.toBitVec.toNat) (m := 63)
    omega
  · rw [← zq_and, ← e]; rfl
theorem zw_all {L i k : Nat} {xs : Nat → Int32} {I : Nat → Nat → Int32} {tg : Option Nat} {P : Option Value → zk_M → Prop} (hk : k < 64) (hJ : zJJ I) (hi : i + 7 ≤ L) (hL : L ≤ 3584) (K : ∀ I2 tg2, zJJ I2 → zk_R (some (L, xs)) 900 217 1412 [some (.ref (1000 : Nat)), some (.ref (0 : Nat)), some (.ref (60 : Nat)), some (.int (nI i))] [] (zk_mk I2 tg2) P) : zk_R (some (L, xs)) 900 217 (zwE k) [some (.ref (1000 : Nat)), some (.ref (0 : Nat)), some (.ref (60 : Nat)), some (.int (nI i))] [] (zk_mk I tg) P := by
  by_cases h40 : k < 40
  · rcases (show k = 0 ∨ k = 1 ∨ k = 2 ∨ k = 3 ∨ k = 4 ∨ k = 5 ∨ k = 6 ∨ k = 7 ∨ k = 8 ∨ k = 9 ∨ k = 10 ∨ k = 11 ∨ k = 12 ∨ k = 13 ∨ k = 14 ∨ k = 15 ∨ k = 16 ∨ k = 17 ∨ k = 18 ∨ k = 19 ∨ k = 20 ∨ k = 21 ∨ k = 22 ∨ k = 23 ∨ k = 24 ∨ k = 25 ∨ k = 26 ∨ k = 27 ∨ k = 28 ∨ k = 29 ∨ k = 30 ∨ k = 31 ∨ k = 32 ∨ k = 33 ∨ k = 34 ∨ k = 35 ∨ k = 36 ∨ k = 37 ∨ k = 38 ∨ k = 39 by omega) with rfl | rfl | rfl | rfl | rfl | rfl | rfl | rfl | rfl | rfl | rfl | rfl | rfl | rfl | rfl | rfl | rfl | rfl | rfl | rfl | rfl | rfl | rfl | rfl | rfl | rfl | rfl | rfl | rfl | rfl | rfl | rfl | rfl | rfl | rfl | rfl | rfl | rfl | rfl | rfl
    · exact zw_count hJ hi hL K
    · exact zw_feed hJ hi hL K
    · exact zw_text hJ hi hL K
    · exact zw_force hJ hi hL K
    · exact zw_asks hJ hi hL K
    · exact zw_card hJ hi hL K
    · exact zw_drop hJ hi hL K
    · exact zw_lay hJ hi hL K
    · exact zw_told hJ hi hL K
    · exact zw_heap hJ hi hL K
    · exact zw_apart hJ hi hL K
    · exact zw_must hJ hi hL K
    · exact zw_alike hJ hi hL K
    · exact zw_three hJ hi hL K
    · exact zw_fair hJ hi hL K
    · exact zw_thirds hJ hi hL K
    · exact zw_swap hJ hi hL K
    · exact zw_mend hJ hi hL K
    · exact zw_unlike hJ hi hL K
    · exact zw_next hJ hi hL K
    · exact zw_spread hJ hi hL K
    · exact zw_key hJ hi hL K
    · exact zw_pigeon hJ hi hL K
    · exact zw_question hJ hi hL K
    · exact zw_judge hJ hi hL K
    · exact zw_blame hJ hi hL K
    · exact zw_more hJ hi hL K
    · exact zw_laws hJ hi hL K
    · exact zw_film hJ hi hL K
    · exact zw_seen hJ hi hL K
    · exact zw_drawn hJ hi hL K
    · exact zw_deal hJ hi hL K
    · exact zw_odds hJ hi hL K
    · exact zw_image hJ hi hL K
    · exact zw_back hJ hi hL K
    · exact zw_sheet hJ hi hL K
    · exact zw_cell hJ hi hL K
    · exact zw_copy hJ hi hL K
    · exact zw_cardsBy hJ hi hL K
    · exact zw_taken hJ hi hL K
  · have e : zwE k = 1412 := by
      unfold zwE
      rw [List.getD_eq_getElem?_getD, List.getElem?_eq_none (by show 40 ≤ k; omega)]
      rfl
    rw [e]
    exact K I tg hJ
theorem zw_loop {L : Nat} {xs : Nat → Int32} (hL : L ≤ 3584) : ∀ (n i : Nat) (I : Nat → Nat → Int32) (tg : Option Nat), L + 7 - i < n → i ≤ L + 7 → zJJ I → zk_R (some (L, xs)) 900 217 18 [some (.ref (1000 : Nat)), some (.ref (0 : Nat)), some (.ref (60 : Nat)), some (.int (nI i))] [] (zk_mk I tg) (fun r M' => r = some (.int 1) ∧ M'.1 = 83) := by
  intro n
  induction n with
  | zero => intro i I tg h; omega
  | succ n ih =>
    intro i I tg hn hi hJ
    have h1000 : (83 ≤ 1000) = True := by decide
    have c1 : (nI L - 7 < nI i) = (L < i + 7) := zw_lt7 (by omega) (by omega)
    by_cases c : L < i + 7
    · simp only [u217_18, u217_19, u217_20, u217_21, u217_23, u217_24, u217_27, u217_28, u217_29, u217_30, u217_32, u217_33, u217_1418, u217_1419, zk_mk_1, zk_mk_I, zk_mk_R, zk_mk_set, zk_mk_setR, zk_mk_cpy, zk_rv_some, zk_rv_none, Option.toList_some, Option.toList_none, List.cons_append, List.nil_append, reduceIte, eq_self, Nat.reduceLT, Nat.reduceEqDiff, and_true, true_and, reduceCtorEq, h1000, c1, c]
      exact Or.inr trivial
    · have z0 : zk_inb (nI i) L = true := by rw [zn_in (by omega)]; omega
      have y0 : (nI i).toNatClampNeg = i := zn_cl (by omega)
      have p7 : (nI i + 7 : Int32) = nI (i + 7) := zn_add i 7
      obtain ⟨k, hk, ek⟩ := zw_and (xs i)
      simp only [u217_18, u217_19, u217_20, u217_21, u217_23, u217_24, u217_27, u217_28, u217_29, u217_30, u217_32, u217_33, u217_1418, u217_1419, zk_mk_1, zk_mk_I, zk_mk_R, zk_mk_set, zk_mk_setR, zk_mk_cpy, zk_rv_some, zk_rv_none, Option.toList_some, Option.toList_none, List.cons_append, List.nil_append, reduceIte, eq_self, Nat.reduceLT, Nat.reduceEqDiff, and_true, true_and, reduceCtorEq, h1000, c1, c, z0, y0, ek, zwE_sw k hk]
      refine zw_all hk hJ (by omega) hL ?_
      intro I2 tg2 hJ2
      simp only [u217_1412, u217_1415, zk_mk_1, zk_mk_I, zk_mk_R, zk_mk_set, zk_mk_setR, zk_mk_cpy, zk_rv_some, zk_rv_none, Option.toList_some, Option.toList_none, List.cons_append, List.nil_append, reduceIte, eq_self, Nat.reduceLT, Nat.reduceEqDiff, and_true, true_and, reduceCtorEq, p7]
      exact ih (i + 7) I2 tg2 (by omega) (by omega) hJ2
