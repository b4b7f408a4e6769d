/-! numbers, signs, the next token: by T -/
def zdg (B : Nat → Nat) (a : Nat) : Nat → Nat
  | 0 => 0
  | k + 1 => 10 * zdg B a k + (B (a + k) - 48)
theorem zdg_lt {B : Nat → Nat} {a : Nat} : ∀ n, (∀ i, i < n → B (a + i) ≤ 57) → zdg B a n < 10 ^ n
  | 0, _ => by simp [zdg]
  | n + 1, h => by
    have ih := zdg_lt (B := B) (a := a) n (fun i hi => h i (by omega))
    have := h n (by omega)
    rw [zdg, Nat.pow_succ]
    omega
theorem zrn_in {m : Nat} {B : Nat → Nat} {lo hi : Nat} : ∀ f p i, p ≤ i → i < zrn m B lo hi f p → lo ≤ B i ∧ B i ≤ hi
  | 0, p, i, h1, h2 => by
    have h2' : i < p := h2
    omega
  | f + 1, p, i, h1, h2 => by
    rw [zrn] at h2
    split at h2
    · next c =>
      by_cases e : i = p
      · subst e; exact c.2
      · exact zrn_in f (p + 1) i (by omega) h2
    · omega
theorem s106 {sc : zk_X} {d : Nat} {I : Nat → Nat → Int32} {tg : Option Nat} {P : Option Value → zk_M → Prop} {m a b : Nat} {B : Nat → Nat} (h : zj_tp I m B) (ha : I 11 5 = nI a) (hb : I 11 6 = nI b) (hab : a ≤ b) (hbm : b ≤ m) (hdg : ∀ i, a ≤ i → i < b → 48 ≤ B i ∧ B i ≤ 57) (K : ∀ I', (∀ k, k ≠ 11 → I' k = I k) → (∀ k, k ≠ 3 → k ≠ 4 → I' 11 k = I 11 k) → I' 11 3 = (if b - a ≤ 4 then 2 else 1) → (b - a ≤ 4 → I' 11 4 = nI (zdg B a (b - a))) → P none (zk_mk I' tg)) : zk_R sc (d + 1) 106 0 [some (.ref (11 : Nat)), none] [] (zk_mk I tg) P := by
  have es : nI b - nI a = nI (b - a) := zn_sub hab
  have hm : m ≤ 160 := h.2.1
  by_cases c : b - a ≤ 4
  · have c1 : nI (b - a) ≤ 4 := by rw [show (4 : Int32) = nI 4 from rfl, zn_le (by omega) (by decide)]; exact c
    rw [if_pos c] at K
    have loop : ∀ f i I1, i + f = b → a ≤ i → (∀ k, k ≠ 11 → I1 k = I k) → (∀ k, k ≠ 3 → k ≠ 4 → I1 11 k = I 11 k) → I1 11 3 = 2 → I1 11 4 = nI (zdg B a (i - a)) → zk_R sc (d + 1) 106 32 [some (.ref (11 : Nat)), some (.int (nI i))] [] (zk_mk I1 tg) P := by
      intro f
      induction f with
      | zero =>
        intro i I1 hi hai f1 f2 f3 f4
        have hib : i = b := by omega
        subst hib
        have c2 : nI i ≤ nI i := nI_le (Nat.le_refl _) (by omega)
        have e6 : I1 11 6 = nI i := by rw [f2 6 (by decide) (by decide)]; exact hb
        rw [u106_32]
        simp only [u106_0, u106_1, u106_2, u106_5, u106_6, u106_9, u106_10, u106_11, u106_14, u106_15, u106_18, u106_19, u106_22, u106_23, u106_24, u106_27, u106_28, u106_31, u106_33, u106_34, u106_37, u106_40, u106_41, u106_44, u106_45, u106_48, u106_49, u106_51, u106_52, u106_55, u106_56, u106_57, u106_58, u106_61, u106_62, u106_64, u106_65, u106_68, u106_71, u106_74, zk_mk_1, zk_mk_I, zk_mk_R, zk_mk_set, zk_mk_setR, zk_mk_cpy, zk_rv_some, zk_rv_none, Option.toList_some, Option.toList_none, List.cons_append, List.nil_append, reduceIte, eq_self, Nat.reduceLT, Nat.reduceEqDiff, and_true, true_and, reduceCtorEq, zsh_11, e6, c2]
        exact K I1 f1 f2 f3 (fun _ => f4)
      | succ f ih =>
        intro i I1 hi hai f1 f2 f3 f4
        have c2 : ¬ nI b ≤ nI i := nI_ge (by omega) (by omega)
        have e6 : I1 11 6 = nI b := by rw [f2 6 (by decide) (by decide)]; exact hb
        have t1 : zj_tp I1 m B := ⟨by rw [f2 1 (by decide) (by decide)]; exact h.1, h.2.1, fun j hj => by rw [f1 12 (by decide)]; exact h.2.2 j hj⟩
        have hz : zdg B a (i - a) < 10 ^ (i - a) := zdg_lt (i - a) (fun k hk => (hdg (a + k) (by omega) (by omega)).2)
        have hz4 : 10 ^ (i - a) ≤ 10 ^ 4 := Nat.pow_le_pow_right (by decide) (by omega)
        have hd := hdg i hai (by omega)
        have ev : (10 : Int32) * nI (zdg B a (i - a)) + zby m B i - 48 = nI (zdg B a (i + 1 - a)) := by
          unfold zby
          rw [if_pos (by omega), show (10 : Int32) = nI 10 from rfl, show (48 : Int32) = nI 48 from rfl, zn_mul, zn_add, zn_sub (by omega), show i + 1 - a = (i - a) + 1 by omega, zdg, show a + (i - a) = i by omega]
          congr 1
          omega
        rw [u106_32]
        simp only [u106_0, u106_1, u106_2, u106_5, u106_6, u106_9, u106_10, u106_11, u106_14, u106_15, u106_18, u106_19, u106_22, u106_23, u106_24, u106_27, u106_28, u106_31, u106_33, u106_34, u106_37, u106_40, u106_41, u106_44, u106_45, u106_48, u106_49, u106_51, u106_52, u106_55, u106_56, u106_57, u106_58, u106_61, u106_62, u106_64, u106_65, u106_68, u106_71, u106_74, zk_mk_1, zk_mk_I, zk_mk_R, zk_mk_set, zk_mk_setR, zk_mk_cpy, zk_rv_some, zk_rv_none, Option.toList_some, Option.toList_none, List.cons_append, List.nil_append, reduceIte, eq_self, Nat.reduceLT, Nat.reduceEqDiff, and_true, true_and, reduceCtorEq, zsh_11, e6, c2, f3, s104 t1 (show i < 1000 by omega), f4, ev, show (nI i + 1 : Int32) = nI (i + 1) from zn_add i 1]
        refine ih (i + 1) _ (by omega) (by omega) (fun k hk => by rw [zk_up2_r hk]; exact f1 k hk) (fun k h3 h4 => by rw [zk_up2_j h4]; exact f2 k h3 h4) (by rw [zk_up2_j (by decide)]; exact f3) (by rw [zk_up2_s])
    simp only [u106_0, u106_1, u106_2, u106_5, u106_6, u106_9, u106_10, u106_11, u106_14, u106_15, u106_18, u106_19, u106_22, u106_23, u106_24, u106_27, u106_28, u106_31, u106_33, u106_34, u106_37, u106_40, u106_41, u106_44, u106_45, u106_48, u106_49, u106_51, u106_52, u106_55, u106_56, u106_57, u106_58, u106_61, u106_62, u106_64, u106_65, u106_68, u106_71, u106_74, zk_mk_1, zk_mk_I, zk_mk_R, zk_mk_set, zk_mk_setR, zk_mk_cpy, zk_rv_some, zk_rv_none, Option.toList_some, Option.toList_none, List.cons_append, List.nil_append, reduceIte, eq_self, Nat.reduceLT, Nat.reduceEqDiff, and_true, true_and, reduceCtorEq, zsh_11, ha, hb, es, c1, zk_up2_k, zk_up2_j, ne_eq, Nat.reduceEqDiff, not_false_eq_true]
    refine loop (b - a) a _ (by omega) (Nat.le_refl _) (fun k hk => by rw [zk_up2_r hk, zk_up2_r hk]) (fun k h3 h4 => by rw [zk_up2_j h4, zk_up2_j h3]) (by rw [zk_up2_j (by decide), zk_up2_s]) (by rw [zk_up2_s, Nat.sub_self]; rfl)
  · have c1 : ¬ nI (b - a) ≤ 4 := by rw [show (4 : Int32) = nI 4 from rfl, zn_le (by omega) (by decide)]; exact c
    have c2 : ¬ nI b ≤ nI a := nI_ge (by omega) (by omega)
    rw [if_neg c] at K
    simp only [u106_0, u106_1, u106_2, u106_5, u106_6, u106_9, u106_10, u106_11, u106_14, u106_15, u106_18, u106_19, u106_22, u106_23, u106_24, u106_27, u106_28, u106_31, u106_32, u106_33, u106_34, u106_37, u106_40, u106_41, u106_44, u106_45, u106_48, u106_49, u106_51, u106_52, u106_55, u106_56, u106_57, u106_58, u106_61, u106_62, u106_64, u106_65, u106_68, u106_71, u106_74, zk_mk_1, zk_mk_I, zk_mk_R, zk_mk_set, zk_mk_setR, zk_mk_cpy, zk_rv_some, zk_rv_none, Option.toList_some, Option.toList_none, List.cons_append, List.nil_append, reduceIte, eq_self, Nat.reduceLT, Nat.reduceEqDiff, and_true, true_and, reduceCtorEq, zsh_11, ha, hb, es, c1, c2, zk_up2_k, zk_up2_j, zk_up2_s, ne_eq, Nat.reduceEqDiff, not_false_eq_true, show ¬ (1 : Int32) = 2 from by decide]
    refine K _ (fun k hk => by rw [zk_up2_r hk, zk_up2_r hk]) (fun k h3 h4 => by rw [zk_up2_j h4, zk_up2_j h3]) (by rw [zk_up2_j (by decide), zk_up2_s]) (fun w => absurd w c)
abbrev zisg (x : Nat) : Prop := (40 ≤ x ∧ x ≤ 43) ∨ x = 45 ∨ (59 ≤ x ∧ x ≤ 61)
theorem s109 {sc : zk_X} {d : Nat} {M : zk_M} {P : Option Value → zk_M → Prop} {x : Nat} (hx : x < 1000) : zk_R sc d 109 0 [some (.int (nI x))] [] M P = P (some (.int (zb (zisg x)))) M := by
  have e1 : (nI x < 40) = (x < 40) := by rw [show (40 : Int32) = nI 40 from rfl, zn_lt (by omega) (by decide)]
  have e2 : (nI x ≤ 43) = (x ≤ 43) := by rw [show (43 : Int32) = nI 43 from rfl, zn_le (by omega) (by decide)]
  have e3 : (nI x = 45) = (x = 45) := by rw [show (45 : Int32) = nI 45 from rfl, zn_eq (by omega) (by decide)]
  have e4 : (nI x < 59) = (x < 59) := by rw [show (59 : Int32) = nI 59 from rfl, zn_lt (by omega) (by decide)]
  have e5 : (61 < nI x) = (61 < x) := by rw [show (61 : Int32) = nI 61 from rfl, zn_lt (by decide) (by omega)]
  by_cases k : zisg x
  · rw [zb_t k]
    simp only [u109_0, u109_1, u109_3, u109_6, u109_7, u109_9, u109_12, u109_13, u109_15, u109_18, u109_19, u109_21, u109_24, u109_25, u109_27, u109_30, u109_31, u109_34, u109_35, zk_mk_1, zk_mk_I, zk_mk_R, zk_mk_set, zk_mk_setR, zk_mk_cpy, zk_rv_some, zk_rv_none, Option.toList_some, Option.toList_none, List.cons_append, List.nil_append, reduceIte, eq_self, Nat.reduceLT, Nat.reduceEqDiff, and_true, true_and, reduceCtorEq]
    unfold zisg at k
    by_cases c1 : x < 40
    · omega
    have d1 : ¬ nI x < 40 := by rw [e1]; exact c1
    by_cases c2 : x ≤ 43
    · have d2 : nI x ≤ 43 := by rw [e2]; exact c2
      simp only [d1, d2, reduceIte]
      simp
    have d2 : ¬ nI x ≤ 43 := by rw [e2]; exact c2
    by_cases c3 : x = 45
    · have d3 : nI x = 45 := by rw [e3]; exact c3
      subst c3
      rw [if_neg d1, if_neg d2, if_pos (by decide)]
      simp
    have d3 : ¬ nI x = 45 := by rw [e3]; exact c3
    have d4 : ¬ nI x < 59 := by rw [e4]; omega
    have d5 : ¬ 61 < nI x := by rw [e5]; omega
    simp only [d1, d2, d3, d4, d5, reduceIte]
    simp
  · rw [zb_f k]
    simp only [u109_0, u109_1, u109_3, u109_6, u109_7, u109_9, u109_12, u109_13, u109_15, u109_18, u109_19, u109_21, u109_24, u109_25, u109_27, u109_30, u109_31, u109_34, u109_35, zk_mk_1, zk_mk_I, zk_mk_R, zk_mk_set, zk_mk_setR, zk_mk_cpy, zk_rv_some, zk_rv_none, Option.toList_some, Option.toList_none, List.cons_append, List.nil_append, reduceIte, eq_self, Nat.reduceLT, Nat.reduceEqDiff, and_true, true_and, reduceCtorEq]
    unfold zisg at k
    have d3 : ¬ nI x = 45 := by rw [e3]; omega
    by_cases c1 : x < 40
    · have d1 : nI x < 40 := by rw [e1]; exact c1
      have d4 : nI x < 59 := by rw [e4]; omega
      simp only [d1, d3, d4, reduceIte]
      simp
    have d1 : ¬ nI x < 40 := by rw [e1]; exact c1
    have d2 : ¬ nI x ≤ 43 := by rw [e2]; omega
    by_cases c4 : x < 59
    · have d4 : nI x < 59 := by rw [e4]; exact c4
      simp only [d1, d2, d3, d4, reduceIte]
      simp
    have d4 : ¬ nI x < 59 := by rw [e4]; exact c4
    have d5 : 61 < nI x := by rw [e5]; omega
    simp only [d1, d2, d3, d4, d5, reduceIte]
    simp
/-- where a token that begins at a ends, and which it is -/
def zye (m : Nat) (B : Nat → Nat) (a : Nat) : Nat := if a < m then (if 48 ≤ B a ∧ B a ≤ 57 then zrn m B 48 57 160 a else if 97 ≤ B a ∧ B a ≤ 122 then zrn m B 97 122 160 a else a + 1) else a
def zyc (m : Nat) (B : Nat → Nat) (a : Nat) : Nat := if a < m then (if 48 ≤ B a ∧ B a ≤ 57 then (if zye m B a - a ≤ 4 then 1000 + zdg B a (zye m B a - a) else 1) else if 97 ≤ B a ∧ B a ≤ 122 then zwc (zsg B a (zye m B a - a)) else if (40 ≤ B a ∧ B a ≤ 43) ∨ B a = 45 ∨ (59 ≤ B a ∧ B a ≤ 61) then B a else 1) else 0
theorem zrn_gt {m : Nat} {B : Nat → Nat} {lo hi a : Nat} (h : a < m) (h1 : lo ≤ B a) (h2 : B a ≤ hi) : a + 1 ≤ zrn m B lo hi 160 a ∧ zrn m B lo hi 160 a ≤ m := by
  rw [zrn, if_pos ⟨h, h1, h2⟩]
  have := zrn_le (m := m) (B := B) (lo := lo) (hi := hi) 159 (a + 1) h
  omega
theorem zye_gt {m a : Nat} {B : Nat → Nat} (h : a < m) : a < zye m B a ∧ zye m B a ≤ m := by
  unfold zye
  rw [if_pos h]
  split
  · next c => have := zrn_gt h c.1 c.2; omega
  · split
    · next c => have := zrn_gt h c.1 c.2; omega
    · omega
theorem zye_le {m a : Nat} {B : Nat → Nat} (h : a ≤ m) : a ≤ zye m B a ∧ zye m B a ≤ m := by
  by_cases c : a < m
  · have := zye_gt (B := B) c; omega
  · unfold zye
    rw [if_neg c]; omega
theorem zyc_0 {m a : Nat} {B : Nat → Nat} (h : ¬ a < m) : zyc m B a = 0 := by unfold zyc; rw [if_neg h]
theorem zyc_cases {m a : Nat} {B : Nat → Nat} (hb : ∀ j, j < m → B j < 256) : zyc m B a = 0 ∨ zyc m B a = 1 ∨ (3 ≤ zyc m B a ∧ zyc m B a ≤ 8) ∨ ((40 ≤ zyc m B a ∧ zyc m B a ≤ 43) ∨ zyc m B a = 45 ∨ (59 ≤ zyc m B a ∧ zyc m B a ≤ 61)) ∨ (1000 ≤ zyc m B a ∧ zyc m B a < 11006) := by
  unfold zyc
  split
  · next h =>
    split
    · next c =>
      split
      · next c4 =>
        have e : zye m B a = zrn m B 48 57 160 a := by unfold zye; rw [if_pos h, if_pos c]
        have hz : zdg B a (zye m B a - a) < 10 ^ (zye m B a - a) := zdg_lt _ (fun k hk => (zrn_in 160 a (a + k) (by omega) (by rw [← e]; omega)).2)
        have hz4 : 10 ^ (zye m B a - a) ≤ 10 ^ 4 := Nat.pow_le_pow_right (by decide) c4
        omega
      · omega
    · split
      · have := zwc_cases (zsg B a (zye m B a - a))
        omega
      · split <;> omega
  · omega
theorem ztk_lo {c : Nat} (h : c < 1000) : ztk c = nI c := by unfold ztk; rw [if_neg (by omega)]
theorem ztk_hi {c : Nat} (h : 1000 ≤ c) : ztk c = 2 := by unfold ztk; rw [if_pos h]

theorem s103 {sc : zk_X} {d : Nat} {I : Nat → Nat → Int32} {tg : Option Nat} {P : Option Value → zk_M → Prop} {m p : Nat} {B : Nat → Nat} (h : zj_tp I m B) (hp : I 11 6 = nI p) (hpm : p ≤ m) (K : ∀ I', (∀ k, k ≠ 11 → I' k = I k) → (∀ k, k < 3 ∨ 6 < k → I' 11 k = I 11 k) → I' 11 3 = ztk (zyc m B (zsk m B 160 p)) → (1000 ≤ zyc m B (zsk m B 160 p) → I' 11 4 = zt_c (zyc m B (zsk m B 160 p) - 1000)) → I' 11 5 = nI (zsk m B 160 p) → I' 11 6 = nI (zye m B (zsk m B 160 p)) → P none (zk_mk I' tg)) : zk_R sc (d + 2) 103 0 [some (.ref (11 : Nat)), none] [] (zk_mk I tg) P := by
  obtain ⟨h1, h2, h3⟩ := id h
  have hb : ∀ j, j < m → B j < 256 := fun j hj => (h3 j hj).2
  have ham := zsk_le (m := m) (B := B) 160 p hpm
  generalize haa : zsk m B 160 p = a at K ham
  have tail : ∀ I1, (∀ k, k ≠ 11 → I1 k = I k) → (∀ k, k ≠ 5 → I1 11 k = I 11 k) → I1 11 5 = nI a → ∀ x, zk_R sc (d + 2) 103 59 [some (.ref (11 : Nat)), x] [] (zk_mk I1 tg) P := by
    intro I1 f1 f2 f5 x
    have t1 : zj_tp I1 m B := ⟨by rw [f2 1 (by decide)]; exact h1, h2, fun j hj => by rw [f1 12 (by decide)]; exact h3 j hj⟩
    have t2 : ∀ (j : Nat) (v : Int32), j ≠ 1 → zj_tp (zk_up2 I1 11 j v) m B := fun j v hj => ⟨by rw [zk_up2_j hj.symm]; exact t1.1, h2, fun k hk => by rw [zk_up2_k (by decide)]; exact t1.2.2 k hk⟩
    have t3 : ∀ (j : Nat) (v w : Int32), j ≠ 1 → zj_tp (zk_up2 (zk_up2 I1 11 6 w) 11 j v) m B := fun j v w hj => ⟨by rw [zk_up2_j hj.symm]; exact (t2 6 w (by decide)).1, h2, fun k hk => by rw [zk_up2_k (by decide)]; exact (t2 6 w (by decide)).2.2 k hk⟩
    by_cases c0 : a < m
    · have k0 := hb a c0
      have eb : zby m B a = nI (B a) := by unfold zby; rw [if_pos c0]
      have b0 : 0 ≤ nI (B a) := Int32.not_lt.mp (by rw [zn_neg (by omega)]; exact id)
      have e1 : (nI (B a) < 48) = (B a < 48) := by rw [show (48 : Int32) = nI 48 from rfl, zn_lt (by omega) (by decide)]
      have e2 : (57 < nI (B a)) = (57 < B a) := by rw [show (57 : Int32) = nI 57 from rfl, zn_lt (by decide) (by omega)]
      have e3 : (nI (B a) < 97) = (B a < 97) := by rw [show (97 : Int32) = nI 97 from rfl, zn_lt (by omega) (by decide)]
      have e4 : (122 < nI (B a)) = (122 < B a) := by rw [show (122 : Int32) = nI 122 from rfl, zn_lt (by decide) (by omega)]
      have hgt := zye_gt (B := B) c0
      unfold zyc at K
      rw [if_pos c0] at K
      by_cases cd : 48 ≤ B a ∧ B a ≤ 57
      · have d1 : ¬ nI (B a) < 48 := by rw [e1]; omega
        have d2 : ¬ 57 < nI (B a) := by rw [e2]; omega
        have et : zye m B a = zrn m B 48 57 160 a := by unfold zye; rw [if_pos c0, if_pos cd]
        rw [if_pos cd] at K
        have s5 := fun (I2 : Nat → Nat → Int32) (q : zj_tp I2 m B) (e5 : I2 11 5 = nI a) (P' : Option Value → zk_M → Prop) => s105 (sc := sc) (d := d) (tg := tg) (P := P') (lo := 48) (hi := 57) q ham.2 e5 (by decide) (by decide) (by decide)
        simp only [u103_0, u103_1, u103_2, u103_5, u103_8, u103_9, u103_10, u103_11, u103_14, u103_17, u103_18, u103_19, u103_22, u103_25, u103_27, u103_30, u103_31, u103_32, u103_35, u103_38, u103_40, u103_43, u103_44, u103_45, u103_48, u103_49, u103_50, u103_53, u103_56, u103_59, u103_60, u103_61, u103_64, u103_67, u103_68, u103_69, u103_70, u103_73, u103_74, u103_75, u103_78, u103_79, u103_82, u103_83, u103_84, u103_87, u103_90, u103_91, u103_92, u103_95, u103_98, u103_99, u103_101, u103_104, u103_105, u103_107, u103_110, u103_111, u103_112, u103_114, u103_116, u103_119, u103_122, u103_123, u103_126, u103_129, u103_130, u103_132, u103_135, u103_136, u103_138, u103_141, u103_142, u103_143, u103_145, u103_147, u103_150, u103_153, u103_154, u103_157, u103_160, u103_161, u103_162, u103_165, u103_168, u103_169, u103_172, u103_173, u103_176, zk_mk_1, zk_mk_I, zk_mk_R, zk_mk_set, zk_mk_setR, zk_mk_cpy, zk_rv_some, zk_rv_none, Option.toList_some, Option.toList_none, List.cons_append, List.nil_append, reduceIte, eq_self, Nat.reduceLT, Nat.reduceEqDiff, and_true, true_and, reduceCtorEq, zsh_11, f5, s104 t1 (show a < 1000 by omega), eb, b0, d1, d2]
        rw [show (48 : Int32) = nI 48 from rfl, show (57 : Int32) = nI 57 from rfl, s5 _ (t2 6 _ (by decide)) (by rw [zk_up2_j (by decide)]; exact f5)]
        simp only [u103_0, u103_1, u103_2, u103_5, u103_8, u103_9, u103_10, u103_11, u103_14, u103_17, u103_18, u103_19, u103_22, u103_25, u103_27, u103_30, u103_31, u103_32, u103_35, u103_38, u103_40, u103_43, u103_44, u103_45, u103_48, u103_49, u103_50, u103_53, u103_56, u103_59, u103_60, u103_61, u103_64, u103_67, u103_68, u103_69, u103_70, u103_73, u103_74, u103_75, u103_78, u103_79, u103_82, u103_83, u103_84, u103_87, u103_90, u103_91, u103_92, u103_95, u103_98, u103_99, u103_101, u103_104, u103_105, u103_107, u103_110, u103_111, u103_112, u103_114, u103_116, u103_119, u103_122, u103_123, u103_126, u103_129, u103_130, u103_132, u103_135, u103_136, u103_138, u103_141, u103_142, u103_143, u103_145, u103_147, u103_150, u103_153, u103_154, u103_157, u103_160, u103_161, u103_162, u103_165, u103_168, u103_169, u103_172, u103_173, u103_176, zk_mk_1, zk_mk_I, zk_mk_R, zk_mk_set, zk_mk_setR, zk_mk_cpy, zk_rv_some, zk_rv_none, Option.toList_some, Option.toList_none, List.cons_append, List.nil_append, reduceIte, eq_self, Nat.reduceLT, Nat.reduceEqDiff, and_true, true_and, reduceCtorEq, zsh_11]
        rw [← et]
        refine s106 (a := a) (b := zye m B a) (t3 6 _ _ (by decide)) (by rw [zk_up2_j (by decide), zk_up2_j (by decide)]; exact f5) (by rw [zk_up2_s]) (by omega) hgt.2 (fun i hi1 hi2 => zrn_in 160 a i hi1 (by rw [← et]; exact hi2)) ?_
        intro I' g1 g2 g3 g4
        simp only [u103_0, u103_1, u103_2, u103_5, u103_8, u103_9, u103_10, u103_11, u103_14, u103_17, u103_18, u103_19, u103_22, u103_25, u103_27, u103_30, u103_31, u103_32, u103_35, u103_38, u103_40, u103_43, u103_44, u103_45, u103_48, u103_49, u103_50, u103_53, u103_56, u103_59, u103_60, u103_61, u103_64, u103_67, u103_68, u103_69, u103_70, u103_73, u103_74, u103_75, u103_78, u103_79, u103_82, u103_83, u103_84, u103_87, u103_90, u103_91, u103_92, u103_95, u103_98, u103_99, u103_101, u103_104, u103_105, u103_107, u103_110, u103_111, u103_112, u103_114, u103_116, u103_119, u103_122, u103_123, u103_126, u103_129, u103_130, u103_132, u103_135, u103_136, u103_138, u103_141, u103_142, u103_143, u103_145, u103_147, u103_150, u103_153, u103_154, u103_157, u103_160, u103_161, u103_162, u103_165, u103_168, u103_169, u103_172, u103_173, u103_176, zk_mk_1, zk_mk_I, zk_mk_R, zk_mk_set, zk_mk_setR, zk_mk_cpy, zk_rv_some, zk_rv_none, Option.toList_some, Option.toList_none, List.cons_append, List.nil_append, reduceIte, eq_self, Nat.reduceLT, Nat.reduceEqDiff, and_true, true_and, reduceCtorEq, zsh_11]
        refine K I' (fun k hk => by rw [g1 k hk, zk_up2_r hk, zk_up2_r hk]; exact f1 k hk) (fun k hk => by rw [g2 k (by omega) (by omega), zk_up2_j (by omega), zk_up2_j (by omega)]; exact f2 k (by omega)) ?_ ?_ (by rw [g2 5 (by decide) (by decide), zk_up2_j (by decide), zk_up2_j (by decide)]; exact f5) (by rw [g2 6 (by decide) (by decide), zk_up2_s])
        · rw [g3]
          split
          · rw [ztk_hi (by omega)]
          · rfl
        · intro w
          by_cases c4 : zye m B a - a ≤ 4
          · rw [if_pos c4, g4 c4, Nat.add_sub_cancel_left]
            have hz : zdg B a (zye m B a - a) < 10 ^ (zye m B a - a) := zdg_lt _ (fun k hk => (zrn_in 160 a (a + k) (by omega) (by rw [← et]; omega)).2)
            have hz4 : 10 ^ (zye m B a - a) ≤ 10 ^ 4 := Nat.pow_le_pow_right (by decide) c4
            unfold zt_c
            rw [if_pos (by omega)]
          · rw [if_neg c4] at w; omega
      · rw [if_neg cd] at K
        by_cases cw : 97 ≤ B a ∧ B a ≤ 122
        · have d3 : ¬ nI (B a) < 97 := by rw [e3]; omega
          have d4 : ¬ 122 < nI (B a) := by rw [e4]; omega
          have d1 : ¬ nI (B a) < 48 := by rw [e1]; omega
          have d2 : 57 < nI (B a) := by rw [e2]; omega
          have et : zye m B a = zrn m B 97 122 160 a := by unfold zye; rw [if_pos c0, if_neg cd, if_pos cw]
          rw [if_pos cw] at K
          have s5 := fun (I2 : Nat → Nat → Int32) (q : zj_tp I2 m B) (e5 : I2 11 5 = nI a) (P' : Option Value → zk_M → Prop) => s105 (sc := sc) (d := d) (tg := tg) (P := P') (lo := 97) (hi := 122) q ham.2 e5 (by decide) (by decide) (by decide)
          simp only [u103_0, u103_1, u103_2, u103_5, u103_8, u103_9, u103_10, u103_11, u103_14, u103_17, u103_18, u103_19, u103_22, u103_25, u103_27, u103_30, u103_31, u103_32, u103_35, u103_38, u103_40, u103_43, u103_44, u103_45, u103_48, u103_49, u103_50, u103_53, u103_56, u103_59, u103_60, u103_61, u103_64, u103_67, u103_68, u103_69, u103_70, u103_73, u103_74, u103_75, u103_78, u103_79, u103_82, u103_83, u103_84, u103_87, u103_90, u103_91, u103_92, u103_95, u103_98, u103_99, u103_101, u103_104, u103_105, u103_107, u103_110, u103_111, u103_112, u103_114, u103_116, u103_119, u103_122, u103_123, u103_126, u103_129, u103_130, u103_132, u103_135, u103_136, u103_138, u103_141, u103_142, u103_143, u103_145, u103_147, u103_150, u103_153, u103_154, u103_157, u103_160, u103_161, u103_162, u103_165, u103_168, u103_169, u103_172, u103_173, u103_176, zk_mk_1, zk_mk_I, zk_mk_R, zk_mk_set, zk_mk_setR, zk_mk_cpy, zk_rv_some, zk_rv_none, Option.toList_some, Option.toList_none, List.cons_append, List.nil_append, reduceIte, eq_self, Nat.reduceLT, Nat.reduceEqDiff, and_true, true_and, reduceCtorEq, zsh_11, f5, s104 t1 (show a < 1000 by omega), eb, b0, d1, d2, d3, d4]
          rw [show (97 : Int32) = nI 97 from rfl, show (122 : Int32) = nI 122 from rfl, s5 _ (t2 6 _ (by decide)) (by rw [zk_up2_j (by decide)]; exact f5)]
          simp only [u103_0, u103_1, u103_2, u103_5, u103_8, u103_9, u103_10, u103_11, u103_14, u103_17, u103_18, u103_19, u103_22, u103_25, u103_27, u103_30, u103_31, u103_32, u103_35, u103_38, u103_40, u103_43, u103_44, u103_45, u103_48, u103_49, u103_50, u103_53, u103_56, u103_59, u103_60, u103_61, u103_64, u103_67, u103_68, u103_69, u103_70, u103_73, u103_74, u103_75, u103_78, u103_79, u103_82, u103_83, u103_84, u103_87, u103_90, u103_91, u103_92, u103_95, u103_98, u103_99, u103_101, u103_104, u103_105, u103_107, u103_110, u103_111, u103_112, u103_114, u103_116, u103_119, u103_122, u103_123, u103_126, u103_129, u103_130, u103_132, u103_135, u103_136, u103_138, u103_141, u103_142, u103_143, u103_145, u103_147, u103_150, u103_153, u103_154, u103_157, u103_160, u103_161, u103_162, u103_165, u103_168, u103_169, u103_172, u103_173, u103_176, zk_mk_1, zk_mk_I, zk_mk_R, zk_mk_set, zk_mk_setR, zk_mk_cpy, zk_rv_some, zk_rv_none, Option.toList_some, Option.toList_none, List.cons_append, List.nil_append, reduceIte, eq_self, Nat.reduceLT, Nat.reduceEqDiff, and_true, true_and, reduceCtorEq, zsh_11]
          rw [← et]
          refine s107 (a := a) (b := zye m B a) (t3 6 _ _ (by decide)) (by rw [zk_up2_j (by decide), zk_up2_j (by decide)]; exact f5) (by rw [zk_up2_s]) (by omega) hgt.2 ?_
          intro I' g1 g2 g3 g4
          simp only [u103_0, u103_1, u103_2, u103_5, u103_8, u103_9, u103_10, u103_11, u103_14, u103_17, u103_18, u103_19, u103_22, u103_25, u103_27, u103_30, u103_31, u103_32, u103_35, u103_38, u103_40, u103_43, u103_44, u103_45, u103_48, u103_49, u103_50, u103_53, u103_56, u103_59, u103_60, u103_61, u103_64, u103_67, u103_68, u103_69, u103_70, u103_73, u103_74, u103_75, u103_78, u103_79, u103_82, u103_83, u103_84, u103_87, u103_90, u103_91, u103_92, u103_95, u103_98, u103_99, u103_101, u103_104, u103_105, u103_107, u103_110, u103_111, u103_112, u103_114, u103_116, u103_119, u103_122, u103_123, u103_126, u103_129, u103_130, u103_132, u103_135, u103_136, u103_138, u103_141, u103_142, u103_143, u103_145, u103_147, u103_150, u103_153, u103_154, u103_157, u103_160, u103_161, u103_162, u103_165, u103_168, u103_169, u103_172, u103_173, u103_176, zk_mk_1, zk_mk_I, zk_mk_R, zk_mk_set, zk_mk_setR, zk_mk_cpy, zk_rv_some, zk_rv_none, Option.toList_some, Option.toList_none, List.cons_append, List.nil_append, reduceIte, eq_self, Nat.reduceLT, Nat.reduceEqDiff, and_true, true_and, reduceCtorEq, zsh_11]
          refine K I' (fun k hk => by rw [g1 k hk, zk_up2_r hk, zk_up2_r hk]; exact f1 k hk) (fun k hk => by rw [g2 k (by omega) (by omega), zk_up2_j (by omega), zk_up2_j (by omega)]; exact f2 k (by omega)) g3 g4 (by rw [g2 5 (by decide) (by decide), zk_up2_j (by decide), zk_up2_j (by decide)]; exact f5) (by rw [g2 6 (by decide) (by decide), zk_up2_s])
        · rw [if_neg cw] at K
          have et : zye m B a = a + 1 := by unfold zye; rw [if_pos c0, if_neg cd, if_neg cw]
          rw [et] at K
          have fin : ∀ v, v = ztk (if (40 ≤ B a ∧ B a ≤ 43) ∨ B a = 45 ∨ (59 ≤ B a ∧ B a ≤ 61) then B a else 1) → P none (zk_mk (zk_up2 (zk_up2 I1 11 6 (nI (a + 1))) 11 3 v) tg) := by
            intro v hv
            refine K _ (fun k hk => by rw [zk_up2_r hk, zk_up2_r hk]; exact f1 k hk) (fun k hk => by rw [zk_up2_j (by omega), zk_up2_j (by omega)]; exact f2 k (by omega)) (by rw [zk_up2_s, hv]) (fun w => ?_) (by rw [zk_up2_j (by decide), zk_up2_j (by decide)]; exact f5) (by rw [zk_up2_j (by decide), zk_up2_s])
            split at w <;> omega
          have p1 : (nI a + 1 : Int32) = nI (a + 1) := zn_add a 1
          have key : zk_R sc (d + 2) 103 160 [some (.ref (11 : Nat)), some (.int (nI (B a)))] [] (zk_mk (zk_up2 I1 11 6 (nI (a + 1))) tg) P := by
            by_cases cs : zisg (B a)
            · have s9 := fun (M : zk_M) (P' : Option Value → zk_M → Prop) => s109 (sc := sc) (d := d + 1) (M := M) (P := P') (x := B a) (by omega)
              have cs2 : (40 ≤ B a ∧ B a ≤ 43) ∨ B a = 45 ∨ (59 ≤ B a ∧ B a ≤ 61) := cs
              rw [if_pos cs2] at fin
              simp only [u103_0, u103_1, u103_2, u103_5, u103_8, u103_9, u103_10, u103_11, u103_14, u103_17, u103_18, u103_19, u103_22, u103_25, u103_27, u103_30, u103_31, u103_32, u103_35, u103_38, u103_40, u103_43, u103_44, u103_45, u103_48, u103_49, u103_50, u103_53, u103_56, u103_59, u103_60, u103_61, u103_64, u103_67, u103_68, u103_69, u103_70, u103_73, u103_74, u103_75, u103_78, u103_79, u103_82, u103_83, u103_84, u103_87, u103_90, u103_91, u103_92, u103_95, u103_98, u103_99, u103_101, u103_104, u103_105, u103_107, u103_110, u103_111, u103_112, u103_114, u103_116, u103_119, u103_122, u103_123, u103_126, u103_129, u103_130, u103_132, u103_135, u103_136, u103_138, u103_141, u103_142, u103_143, u103_145, u103_147, u103_150, u103_153, u103_154, u103_157, u103_160, u103_161, u103_162, u103_165, u103_168, u103_169, u103_172, u103_173, u103_176, zk_mk_1, zk_mk_I, zk_mk_R, zk_mk_set, zk_mk_setR, zk_mk_cpy, zk_rv_some, zk_rv_none, Option.toList_some, Option.toList_none, List.cons_append, List.nil_append, reduceIte, eq_self, Nat.reduceLT, Nat.reduceEqDiff, and_true, true_and, reduceCtorEq, zsh_11, s9, zb_t cs, show ¬ (1 : Int32) = 0 from by decide]
              exact fin _ (by rw [ztk_lo (by omega)])
            · have s9 := fun (M : zk_M) (P' : Option Value → zk_M → Prop) => s109 (sc := sc) (d := d + 1) (M := M) (P := P') (x := B a) (by omega)
              have cs2 : ¬ ((40 ≤ B a ∧ B a ≤ 43) ∨ B a = 45 ∨ (59 ≤ B a ∧ B a ≤ 61)) := cs
              rw [if_neg cs2] at fin
              simp only [u103_0, u103_1, u103_2, u103_5, u103_8, u103_9, u103_10, u103_11, u103_14, u103_17, u103_18, u103_19, u103_22, u103_25, u103_27, u103_30, u103_31, u103_32, u103_35, u103_38, u103_40, u103_43, u103_44, u103_45, u103_48, u103_49, u103_50, u103_53, u103_56, u103_59, u103_60, u103_61, u103_64, u103_67, u103_68, u103_69, u103_70, u103_73, u103_74, u103_75, u103_78, u103_79, u103_82, u103_83, u103_84, u103_87, u103_90, u103_91, u103_92, u103_95, u103_98, u103_99, u103_101, u103_104, u103_105, u103_107, u103_110, u103_111, u103_112, u103_114, u103_116, u103_119, u103_122, u103_123, u103_126, u103_129, u103_130, u103_132, u103_135, u103_136, u103_138, u103_141, u103_142, u103_143, u103_145, u103_147, u103_150, u103_153, u103_154, u103_157, u103_160, u103_161, u103_162, u103_165, u103_168, u103_169, u103_172, u103_173, u103_176, zk_mk_1, zk_mk_I, zk_mk_R, zk_mk_set, zk_mk_setR, zk_mk_cpy, zk_rv_some, zk_rv_none, Option.toList_some, Option.toList_none, List.cons_append, List.nil_append, reduceIte, eq_self, Nat.reduceLT, Nat.reduceEqDiff, and_true, true_and, reduceCtorEq, zsh_11, s9, zb_f cs]
              exact fin _ (by decide)
          have hnd : nI (B a) < 48 ∨ (¬ nI (B a) < 48 ∧ 57 < nI (B a)) := by rw [e1, e2]; omega
          have hnw : nI (B a) < 97 ∨ (¬ nI (B a) < 97 ∧ 122 < nI (B a)) := by rw [e3, e4]; omega
          rcases hnd with d1 | ⟨d1, d2⟩ <;> rcases hnw with d3 | ⟨d3, d4⟩
          · simp only [u103_0, u103_1, u103_2, u103_5, u103_8, u103_9, u103_10, u103_11, u103_14, u103_17, u103_18, u103_19, u103_22, u103_25, u103_27, u103_30, u103_31, u103_32, u103_35, u103_38, u103_40, u103_43, u103_44, u103_45, u103_48, u103_49, u103_50, u103_53, u103_56, u103_59, u103_60, u103_61, u103_64, u103_67, u103_68, u103_69, u103_70, u103_73, u103_74, u103_75, u103_78, u103_79, u103_82, u103_83, u103_84, u103_87, u103_90, u103_91, u103_92, u103_95, u103_98, u103_99, u103_101, u103_104, u103_105, u103_107, u103_110, u103_111, u103_112, u103_114, u103_116, u103_119, u103_122, u103_123, u103_126, u103_129, u103_130, u103_132, u103_135, u103_136, u103_138, u103_141, u103_142, u103_143, u103_145, u103_147, u103_150, u103_153, u103_154, u103_157, u103_161, u103_162, u103_165, u103_168, u103_169, u103_172, u103_173, u103_176, zk_mk_1, zk_mk_I, zk_mk_R, zk_mk_set, zk_mk_setR, zk_mk_cpy, zk_rv_some, zk_rv_none, Option.toList_some, Option.toList_none, List.cons_append, List.nil_append, reduceIte, eq_self, Nat.reduceLT, Nat.reduceEqDiff, and_true, true_and, reduceCtorEq, zsh_11, f5, s104 t1 (show a < 1000 by omega), eb, b0, d1, d3, p1]
            exact key
          · simp only [u103_0, u103_1, u103_2, u103_5, u103_8, u103_9, u103_10, u103_11, u103_14, u103_17, u103_18, u103_19, u103_22, u103_25, u103_27, u103_30, u103_31, u103_32, u103_35, u103_38, u103_40, u103_43, u103_44, u103_45, u103_48, u103_49, u103_50, u103_53, u103_56, u103_59, u103_60, u103_61, u103_64, u103_67, u103_68, u103_69, u103_70, u103_73, u103_74, u103_75, u103_78, u103_79, u103_82, u103_83, u103_84, u103_87, u103_90, u103_91, u103_92, u103_95, u103_98, u103_99, u103_101, u103_104, u103_105, u103_107, u103_110, u103_111, u103_112, u103_114, u103_116, u103_119, u103_122, u103_123, u103_126, u103_129, u103_130, u103_132, u103_135, u103_136, u103_138, u103_141, u103_142, u103_143, u103_145, u103_147, u103_150, u103_153, u103_154, u103_157, u103_161, u103_162, u103_165, u103_168, u103_169, u103_172, u103_173, u103_176, zk_mk_1, zk_mk_I, zk_mk_R, zk_mk_set, zk_mk_setR, zk_mk_cpy, zk_rv_some, zk_rv_none, Option.toList_some, Option.toList_none, List.cons_append, List.nil_append, reduceIte, eq_self, Nat.reduceLT, Nat.reduceEqDiff, and_true, true_and, reduceCtorEq, zsh_11, f5, s104 t1 (show a < 1000 by omega), eb, b0, d1, d3, d4, p1]
            exact key
          · simp only [u103_0, u103_1, u103_2, u103_5, u103_8, u103_9, u103_10, u103_11, u103_14, u103_17, u103_18, u103_19, u103_22, u103_25, u103_27, u103_30, u103_31, u103_32, u103_35, u103_38, u103_40, u103_43, u103_44, u103_45, u103_48, u103_49, u103_50, u103_53, u103_56, u103_59, u103_60, u103_61, u103_64, u103_67, u103_68, u103_69, u103_70, u103_73, u103_74, u103_75, u103_78, u103_79, u103_82, u103_83, u103_84, u103_87, u103_90, u103_91, u103_92, u103_95, u103_98, u103_99, u103_101, u103_104, u103_105, u103_107, u103_110, u103_111, u103_112, u103_114, u103_116, u103_119, u103_122, u103_123, u103_126, u103_129, u103_130, u103_132, u103_135, u103_136, u103_138, u103_141, u103_142, u103_143, u103_145, u103_147, u103_150, u103_153, u103_154, u103_157, u103_161, u103_162, u103_165, u103_168, u103_169, u103_172, u103_173, u103_176, zk_mk_1, zk_mk_I, zk_mk_R, zk_mk_set, zk_mk_setR, zk_mk_cpy, zk_rv_some, zk_rv_none, Option.toList_some, Option.toList_none, List.cons_append, List.nil_append, reduceIte, eq_self, Nat.reduceLT, Nat.reduceEqDiff, and_true, true_and, reduceCtorEq, zsh_11, f5, s104 t1 (show a < 1000 by omega), eb, b0, d1, d2, d3, p1]
            exact key
          · simp only [u103_0, u103_1, u103_2, u103_5, u103_8, u103_9, u103_10, u103_11, u103_14, u103_17, u103_18, u103_19, u103_22, u103_25, u103_27, u103_30, u103_31, u103_32, u103_35, u103_38, u103_40, u103_43, u103_44, u103_45, u103_48, u103_49, u103_50, u103_53, u103_56, u103_59, u103_60, u103_61, u103_64, u103_67, u103_68, u103_69, u103_70, u103_73, u103_74, u103_75, u103_78, u103_79, u103_82, u103_83, u103_84, u103_87, u103_90, u103_91, u103_92, u103_95, u103_98, u103_99, u103_101, u103_104, u103_105, u103_107, u103_110, u103_111, u103_112, u103_114, u103_116, u103_119, u103_122, u103_123, u103_126, u103_129, u103_130, u103_132, u103_135, u103_136, u103_138, u103_141, u103_142, u103_143, u103_145, u103_147, u103_150, u103_153, u103_154, u103_157, u103_161, u103_162, u103_165, u103_168, u103_169, u103_172, u103_173, u103_176, zk_mk_1, zk_mk_I, zk_mk_R, zk_mk_set, zk_mk_setR, zk_mk_cpy, zk_rv_some, zk_rv_none, Option.toList_some, Option.toList_none, List.cons_append, List.nil_append, reduceIte, eq_self, Nat.reduceLT, Nat.reduceEqDiff, and_true, true_and, reduceCtorEq, zsh_11, f5, s104 t1 (show a < 1000 by omega), eb, b0, d1, d2, d3, d4, p1]
            exact key
    · have eb : zby m B a = -1 := by unfold zby; rw [if_neg c0]
      have et : zye m B a = a := by unfold zye; rw [if_neg c0]
      rw [zyc_0 c0, et] at K
      simp only [u103_0, u103_1, u103_2, u103_5, u103_8, u103_9, u103_10, u103_11, u103_14, u103_17, u103_18, u103_19, u103_22, u103_25, u103_27, u103_30, u103_31, u103_32, u103_35, u103_38, u103_40, u103_43, u103_44, u103_45, u103_48, u103_49, u103_50, u103_53, u103_56, u103_59, u103_60, u103_61, u103_64, u103_67, u103_68, u103_69, u103_70, u103_73, u103_74, u103_75, u103_78, u103_79, u103_82, u103_83, u103_84, u103_87, u103_90, u103_91, u103_92, u103_95, u103_98, u103_99, u103_101, u103_104, u103_105, u103_107, u103_110, u103_111, u103_112, u103_114, u103_116, u103_119, u103_122, u103_123, u103_126, u103_129, u103_130, u103_132, u103_135, u103_136, u103_138, u103_141, u103_142, u103_143, u103_145, u103_147, u103_150, u103_153, u103_154, u103_157, u103_160, u103_161, u103_162, u103_165, u103_168, u103_169, u103_172, u103_173, u103_176, zk_mk_1, zk_mk_I, zk_mk_R, zk_mk_set, zk_mk_setR, zk_mk_cpy, zk_rv_some, zk_rv_none, Option.toList_some, Option.toList_none, List.cons_append, List.nil_append, reduceIte, eq_self, Nat.reduceLT, Nat.reduceEqDiff, and_true, true_and, reduceCtorEq, zsh_11, f5, s104 t1 (show a < 1000 by omega), eb, show ¬ (0 : Int32) ≤ -1 from by decide, zk_up2_k, zk_up2_j, ne_eq, Nat.reduceEqDiff, not_false_eq_true]
      refine K _ (fun k hk => by rw [zk_up2_r hk, zk_up2_r hk, zk_up2_r hk]; exact f1 k hk) (fun k hk => by rw [zk_up2_j (by omega), zk_up2_j (by omega), zk_up2_j (by omega)]; exact f2 k (by omega)) (by rw [zk_up2_s]; rfl) (fun w => absurd w (by decide)) (by rw [zk_up2_j (by decide), zk_up2_j (by decide), zk_up2_j (by decide)]; exact f5) (by rw [zk_up2_j (by decide), zk_up2_s])
  have loop : ∀ f i q I1, i + f = 160 → q ≤ m → zsk m B f q = a → (∀ k, k ≠ 11 → I1 k = I k) → (∀ k, k ≠ 5 → I1 11 k = I 11 k) → I1 11 5 = nI q → zk_R sc (d + 2) 103 10 [some (.ref (11 : Nat)), some (.int (nI i))] [] (zk_mk I1 tg) P := by
    intro f
    induction f with
    | zero =>
      intro i q I1 hi hq hz f1 f2 f5
      have e : i = 160 := by omega
      subst e
      have hcond : (160 : Int32) ≤ nI 160 := by decide
      rw [u103_10]
      simp only [u103_11, u103_14, hcond, reduceIte]
      exact tail I1 f1 f2 (by rw [f5]; congr 1) _
    | succ f ih =>
      intro i q I1 hi hq hz f1 f2 f5
      have hcond : ¬ (160 : Int32) ≤ nI i := nI_ge (b := 160) (by omega) (by decide)
      have t1 : zj_tp I1 m B := ⟨by rw [f2 1 (by decide)]; exact h1, h2, fun j hj => by rw [f1 12 (by decide)]; exact h3 j hj⟩
      rw [zsk] at hz
      have p1 : (nI q + 1 : Int32) = nI (q + 1) := zn_add q 1
      have p2 : (nI i + 1 : Int32) = nI (i + 1) := zn_add i 1
      by_cases c : q < m ∧ (B q = 32 ∨ B q = 10)
      · rw [if_pos c] at hz
        have eb : zby m B q = nI (B q) := by unfold zby; rw [if_pos c.1]
        have go : zk_R sc (d + 2) 103 10 [some (.ref (11 : Nat)), some (.int (nI (i + 1)))] [] (zk_mk (zk_up2 I1 11 5 (nI (q + 1))) tg) P := ih (i + 1) (q + 1) _ (by omega) c.1 hz (fun k hk => by rw [zk_up2_r hk]; exact f1 k hk) (fun k hk => by rw [zk_up2_j hk]; exact f2 k hk) (by rw [zk_up2_s])
        rcases c.2 with e | e
        · rw [u103_10]
          simp only [u103_0, u103_1, u103_2, u103_5, u103_8, u103_9, u103_11, u103_14, u103_17, u103_18, u103_19, u103_22, u103_25, u103_27, u103_30, u103_31, u103_32, u103_35, u103_38, u103_40, u103_43, u103_44, u103_45, u103_48, u103_49, u103_50, u103_53, u103_56, u103_60, u103_61, u103_64, u103_67, u103_68, u103_69, u103_70, u103_73, u103_74, u103_75, u103_78, u103_79, u103_82, u103_83, u103_84, u103_87, u103_90, u103_91, u103_92, u103_95, u103_98, u103_99, u103_101, u103_104, u103_105, u103_107, u103_110, u103_111, u103_112, u103_114, u103_116, u103_119, u103_122, u103_123, u103_126, u103_129, u103_130, u103_132, u103_135, u103_136, u103_138, u103_141, u103_142, u103_143, u103_145, u103_147, u103_150, u103_153, u103_154, u103_157, u103_160, u103_161, u103_162, u103_165, u103_168, u103_169, u103_172, u103_173, u103_176, zk_mk_1, zk_mk_I, zk_mk_R, zk_mk_set, zk_mk_setR, zk_mk_cpy, zk_rv_some, zk_rv_none, Option.toList_some, Option.toList_none, List.cons_append, List.nil_append, reduceIte, eq_self, Nat.reduceLT, Nat.reduceEqDiff, and_true, true_and, reduceCtorEq, zsh_11, hcond, f5, s104 t1 (show q < 1000 by omega), eb, e, show nI 32 = (32 : Int32) from rfl, p1, p2]
          exact go
        · rw [u103_10]
          simp only [u103_0, u103_1, u103_2, u103_5, u103_8, u103_9, u103_11, u103_14, u103_17, u103_18, u103_19, u103_22, u103_25, u103_27, u103_30, u103_31, u103_32, u103_35, u103_38, u103_40, u103_43, u103_44, u103_45, u103_48, u103_49, u103_50, u103_53, u103_56, u103_60, u103_61, u103_64, u103_67, u103_68, u103_69, u103_70, u103_73, u103_74, u103_75, u103_78, u103_79, u103_82, u103_83, u103_84, u103_87, u103_90, u103_91, u103_92, u103_95, u103_98, u103_99, u103_101, u103_104, u103_105, u103_107, u103_110, u103_111, u103_112, u103_114, u103_116, u103_119, u103_122, u103_123, u103_126, u103_129, u103_130, u103_132, u103_135, u103_136, u103_138, u103_141, u103_142, u103_143, u103_145, u103_147, u103_150, u103_153, u103_154, u103_157, u103_160, u103_161, u103_162, u103_165, u103_168, u103_169, u103_172, u103_173, u103_176, zk_mk_1, zk_mk_I, zk_mk_R, zk_mk_set, zk_mk_setR, zk_mk_cpy, zk_rv_some, zk_rv_none, Option.toList_some, Option.toList_none, List.cons_append, List.nil_append, reduceIte, eq_self, Nat.reduceLT, Nat.reduceEqDiff, and_true, true_and, reduceCtorEq, zsh_11, hcond, f5, s104 t1 (show q < 1000 by omega), eb, e, show ¬ nI 10 = (32 : Int32) from by decide, show nI 10 = (10 : Int32) from rfl, p1, p2]
          exact go
      · rw [if_neg c] at hz
        have n32 : ¬ zby m B q = 32 := by
          unfold zby
          by_cases cq : q < m
          · rw [if_pos cq, show (32 : Int32) = nI 32 from rfl, zn_eq (by have := hb q cq; omega) (by decide)]
            exact fun w => c ⟨cq, Or.inl w⟩
          · rw [if_neg cq]; decide
        have n10 : ¬ zby m B q = 10 := by
          unfold zby
          by_cases cq : q < m
          · rw [if_pos cq, show (10 : Int32) = nI 10 from rfl, zn_eq (by have := hb q cq; omega) (by decide)]
            exact fun w => c ⟨cq, Or.inr w⟩
          · rw [if_neg cq]; decide
        rw [u103_10]
        simp only [u103_0, u103_1, u103_2, u103_5, u103_8, u103_9, u103_11, u103_14, u103_17, u103_18, u103_19, u103_22, u103_25, u103_27, u103_30, u103_31, u103_32, u103_35, u103_38, u103_40, u103_43, u103_44, u103_45, u103_48, u103_49, u103_50, u103_53, u103_56, u103_60, u103_61, u103_64, u103_67, u103_68, u103_69, u103_70, u103_73, u103_74, u103_75, u103_78, u103_79, u103_82, u103_83, u103_84, u103_87, u103_90, u103_91, u103_92, u103_95, u103_98, u103_99, u103_101, u103_104, u103_105, u103_107, u103_110, u103_111, u103_112, u103_114, u103_116, u103_119, u103_122, u103_123, u103_126, u103_129, u103_130, u103_132, u103_135, u103_136, u103_138, u103_141, u103_142, u103_143, u103_145, u103_147, u103_150, u103_153, u103_154, u103_157, u103_160, u103_161, u103_162, u103_165, u103_168, u103_169, u103_172, u103_173, u103_176, zk_mk_1, zk_mk_I, zk_mk_R, zk_mk_set, zk_mk_setR, zk_mk_cpy, zk_rv_some, zk_rv_none, Option.toList_some, Option.toList_none, List.cons_append, List.nil_append, reduceIte, eq_self, Nat.reduceLT, Nat.reduceEqDiff, and_true, true_and, reduceCtorEq, zsh_11, hcond, f5, s104 t1 (show q < 1000 by omega), n32, n10]
        exact tail I1 f1 f2 (by rw [f5, hz]) _
  simp only [u103_0, u103_1, u103_2, u103_5, u103_8, u103_9, u103_11, u103_14, u103_17, u103_18, u103_19, u103_22, u103_25, u103_27, u103_30, u103_31, u103_32, u103_35, u103_38, u103_40, u103_43, u103_44, u103_45, u103_48, u103_49, u103_50, u103_53, u103_56, u103_60, u103_61, u103_64, u103_67, u103_68, u103_69, u103_70, u103_73, u103_74, u103_75, u103_78, u103_79, u103_82, u103_83, u103_84, u103_87, u103_90, u103_91, u103_92, u103_95, u103_98, u103_99, u103_101, u103_104, u103_105, u103_107, u103_110, u103_111, u103_112, u103_114, u103_116, u103_119, u103_122, u103_123, u103_126, u103_129, u103_130, u103_132, u103_135, u103_136, u103_138, u103_141, u103_142, u103_143, u103_145, u103_147, u103_150, u103_153, u103_154, u103_157, u103_160, u103_161, u103_162, u103_165, u103_168, u103_169, u103_172, u103_173, u103_176, zk_mk_1, zk_mk_I, zk_mk_R, zk_mk_set, zk_mk_setR, zk_mk_cpy, zk_rv_some, zk_rv_none, Option.toList_some, Option.toList_none, List.cons_append, List.nil_append, reduceIte, eq_self, Nat.reduceLT, Nat.reduceEqDiff, and_true, true_and, reduceCtorEq, zsh_11, hp]
  exact loop 160 0 p _ rfl hpm haa (fun k hk => by rw [zk_up2_r hk]) (fun k hk => by rw [zk_up2_j hk]) (by rw [zk_up2_s])
