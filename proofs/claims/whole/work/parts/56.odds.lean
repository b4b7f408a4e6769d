/-! odds by both -/
def zcd (a b : Nat) : Nat → Nat
  | 0 => 1
  | d + 1 => if d + 1 ≤ 1 then 1 else if a % (d + 1) = 0 ∧ b % (d + 1) = 0 then d + 1 else zcd a b d
theorem zcd_gcd : ∀ b, b < 41 → ∀ a, a < 41 → a = 0 ∨ b = 0 ∨ zcd a b b = Nat.gcd a b := by decide +kernel
theorem zcd_0 : ∀ b, b < 41 → b = 0 ∨ zcd 0 b b = b := by decide +kernel
theorem zrem : ∀ a, a < 41 → ∀ b, b < 41 → b = 0 ∨ nI a - nI a / nI b * nI b = nI (a % b) := by decide +kernel
theorem zdiv : ∀ a, a < 41 → ∀ b, b < 41 → b = 0 ∨ nI a / nI b = nI (a / b) := by decide +kernel
def nL (n : Nat) : Int64 := Int64.ofNat n
theorem zreml : ∀ a, a < 41 → ∀ b, b < 41 → b = 0 ∨ nL a - nL a / nL b * nL b = nL (a % b) := by decide +kernel
theorem zdivl : ∀ a, a < 41 → ∀ b, b < 41 → b = 0 ∨ nL a / nL b = nL (a / b) := by decide +kernel
theorem znL : ∀ a, a < 41 → (nI a).toInt64 = nL a := by decide +kernel
theorem znL0 : ∀ a, a < 41 → (nL a = 0 ↔ a = 0) := by decide +kernel
theorem zcd_pos (a b : Nat) : ∀ d, 1 ≤ zcd a b d ∧ zcd a b d ≤ d + 1
  | 0 => ⟨Nat.le_refl _, Nat.le_refl _⟩
  | d + 1 => by
    have ih := zcd_pos a b d
    rw [zcd]
    split
    · omega
    · split <;> omega
theorem zn_dec (d : Nat) : nI (d + 1) + -1 = nI d := by
  rw [← zn_add]
  show nI d + 1 + -1 = nI d
  rw [Int32.add_assoc, show (1 : Int32) + -1 = 0 from by decide, Int32.add_zero]
theorem s51 {sc : zk_X} {d : Nat} {M : zk_M} {P : Option Value → zk_M → Prop} {a b : Nat} (ha : a < 41) (hb : b < 41) : zk_R sc d 51 0 [some (.int (nI a)), some (.int (nI b)), none] [] M P = P (some (.int (nI (zcd a b b)))) M := by
  have loop : ∀ k, k ≤ b → zk_R sc d 51 2 [some (.int (nI a)), some (.int (nI b)), some (.int (nI k))] [] M P = P (some (.int (nI (zcd a b k)))) M := by
    intro k
    induction k with
    | zero =>
      intro _
      rw [u51_2]
      simp only [u51_0, u51_1, u51_3, u51_4, u51_7, u51_8, u51_9, u51_10, u51_13, u51_14, u51_15, u51_16, u51_19, u51_20, u51_21, u51_24, u51_27, u51_28, zk_mk_1, zk_mk_I, zk_mk_R, zk_mk_set, zk_mk_setR, zk_mk_cpy, zk_rv_some, zk_rv_none, Option.toList_some, Option.toList_none, List.cons_append, List.nil_append, reduceIte, eq_self, Nat.reduceLT, Nat.reduceEqDiff, and_true, true_and, reduceCtorEq, zcd]
      have h1 : nI 0 ≤ 1 := by decide
      first | rw [if_pos h1] | rw [if_neg (Int32.not_lt.mpr h1)]
      rfl
    | succ k ih =>
      intro hk
      have y0 : ¬ nI (k + 1) = 0 := by rw [show (0 : Int32) = nI 0 from rfl, zn_eq (by omega) (by decide)]; omega
      have r1 := (zrem a ha (k + 1) (by omega)).resolve_left (by omega)
      have r2 := (zrem b hb (k + 1) (by omega)).resolve_left (by omega)
      have m1 : a % (k + 1) < 41 := Nat.lt_of_le_of_lt (Nat.mod_le _ _) ha
      have m2 : b % (k + 1) < 41 := Nat.lt_of_le_of_lt (Nat.mod_le _ _) hb
      have y1 : (nI (a % (k + 1)) = 0) = (a % (k + 1) = 0) := zn_eq (b := 0) (by omega) (by decide)
      have y2 : (nI (b % (k + 1)) = 0) = (b % (k + 1) = 0) := zn_eq (b := 0) (by omega) (by decide)
      rw [u51_2]
      simp only [u51_0, u51_1, u51_3, u51_4, u51_7, u51_8, u51_9, u51_10, u51_13, u51_14, u51_15, u51_16, u51_19, u51_20, u51_21, u51_24, u51_27, u51_28, zk_mk_1, zk_mk_I, zk_mk_R, zk_mk_set, zk_mk_setR, zk_mk_cpy, zk_rv_some, zk_rv_none, Option.toList_some, Option.toList_none, List.cons_append, List.nil_append, reduceIte, eq_self, Nat.reduceLT, Nat.reduceEqDiff, and_true, true_and, reduceCtorEq, y0, not_false_eq_true, r1, r2, y1, y2, zn_dec, zcd]
      rw [ih (by omega)]
      by_cases h1 : k + 1 ≤ 1
      · have h1' : nI (k + 1) ≤ 1 := by rw [show (1 : Int32) = nI 1 from rfl, zn_le (by omega) (by decide)]; exact h1
        first | rw [if_pos h1'] | rw [if_neg (Int32.not_lt.mpr h1')]
        rw [if_pos h1]
        rfl
      · have h1' : (1 : Int32) < nI (k + 1) := by rw [show (1 : Int32) = nI 1 from rfl, zn_lt (by decide) (by omega)]; omega
        first | rw [if_pos h1'] | rw [if_neg (Int32.not_le.mpr h1')]
        rw [if_neg h1]
        by_cases h2 : a % (k + 1) = 0
        · rw [if_pos h2]
          by_cases h3 : b % (k + 1) = 0
          · rw [if_pos h3, if_pos ⟨h2, h3⟩]
          · rw [if_neg h3, if_neg (fun q => h3 q.2)]
        · rw [if_neg h2, if_neg (fun q => h2 q.1)]
  simp only [u51_0, u51_1, u51_3, u51_4, u51_7, u51_8, u51_9, u51_10, u51_13, u51_14, u51_15, u51_16, u51_19, u51_20, u51_21, u51_24, u51_27, u51_28, zk_mk_1, zk_mk_I, zk_mk_R, zk_mk_set, zk_mk_setR, zk_mk_cpy, zk_rv_some, zk_rv_none, Option.toList_some, Option.toList_none, List.cons_append, List.nil_append, reduceIte, eq_self, Nat.reduceLT, Nat.reduceEqDiff, and_true, true_and, reduceCtorEq]
  exact loop b (Nat.le_refl _)
