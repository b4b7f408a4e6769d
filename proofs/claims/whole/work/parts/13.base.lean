/-! THE MEMORY once all is made: the ints alone change, and the tape's target -/
def zk_rfL : List (List (Option Nat)) := [[some 1, some 6, none, some 11, some 13, none, some 14, some 15, some 26, some 27], [some 2, some 3, some 4, some 5], [], [], [], [], [some 7, some 8, some 9, some 10], [], [], [], [], [some 12], [], [some 28, some 32, some 36, some 40, some 44, some 48], [], [some 16, some 17, some 18, none, some 19, some 20, some 21, some 22, some 23, some 24, some 25], [], [], [], [], [], [], [], [], [], [], [some 52, some 54, some 56, some 58], [], [some 29, some 30, some 31], [], [], [], [some 33, some 34, some 35], [], [], [], [some 37, some 38, some 39], [], [], [], [some 41, some 42, some 43], [], [], [], [some 45, some 46, some 47], [], [], [], [some 49, some 50, some 51], [], [], [], [some 53], [], [some 55], [], [some 57], [], [some 59], [], [none, some 61, some 62, some 63, some 64, some 65, none, some 66, some 67, none, none, none, none, none, some 68, some 69, some 70, some 71, some 72, none, none, none, none, some 73, some 74, none, none, none, some 75, some 76, some 77, some 78, some 79, some 80, some 81, some 82]]
def zk_rf (tg : Option Nat) (k j : Nat) : Option Nat := if k = 11 ∧ j = 2 then tg else (((zk_rfL[k]?).getD [])[j]?).getD none
def zk_mk (I : Nat → Nat → Int32) (tg : Option Nat) : zk_M := (83, I, zk_rf tg)
def zk_cp2 (I : Nat → Nat → Int32) (a sp b dp n : Nat) : Nat → Nat → Int32 := fun k j => if k = b ∧ dp ≤ j ∧ j < dp + n then I a (sp + (j - dp)) else I k j
theorem zk_mk_1 (I : Nat → Nat → Int32) (tg : Option Nat) : (zk_mk I tg).1 = 83 := by cases tg <;> rfl
theorem zk_mk_I (I : Nat → Nat → Int32) (tg : Option Nat) : (zk_mk I tg).2.1 = I := by cases tg <;> rfl
theorem zk_mk_R (I : Nat → Nat → Int32) (tg : Option Nat) : (zk_mk I tg).2.2 = zk_rf tg := by cases tg <;> rfl
theorem zk_mk_set (I : Nat → Nat → Int32) (tg : Option Nat) (k j : Nat) (v : Int32) : zk_setI (zk_mk I tg) k j v = zk_mk (zk_up2 I k j v) tg := by cases tg <;> rfl
theorem zk_mk_cpy (I : Nat → Nat → Int32) (tg : Option Nat) (a sp b dp n : Nat) : zk_cpy (zk_mk I tg) a sp b dp n = zk_mk (zk_cp2 I a sp b dp n) tg := by cases tg <;> rfl
theorem zk_mk_setR (I : Nat → Nat → Int32) (tg v : Option Nat) : zk_setR (zk_mk I tg) 11 2 v = zk_mk I v := by
  unfold zk_setR zk_mk
  congr 2
  funext a b
  unfold zk_up2 zk_rf
  by_cases h : a = 11 ∧ b = 2
  · simp [h]
  · simp [h]
theorem zk_rv_some (k : Nat) : zk_rv (some k) = .ref k := by cases k <;> rfl
theorem zk_rv_none : zk_rv none = .null := by decide
theorem zk_up2_s {I : Nat → Nat → Int32} {k j : Nat} {v : Int32} : zk_up2 I k j v k j = v := by simp [zk_up2]
theorem zk_up2_k {I : Nat → Nat → Int32} {k j a b : Nat} {v : Int32} (h : a ≠ k) : zk_up2 I k j v a b = I a b := by simp [zk_up2, h]
theorem zk_up2_r {I : Nat → Nat → Int32} {k j a : Nat} {v : Int32} (h : a ≠ k) : zk_up2 I k j v a = I a := by funext b; simp [zk_up2, h]
theorem zk_up2_j {I : Nat → Nat → Int32} {k j b : Nat} {v : Int32} (h : b ≠ j) : zk_up2 I k j v k b = I k b := by simp [zk_up2, h]
theorem zk_up2_i {I : Nat → Nat → Int32} {k j b : Nat} {v : Int32} : zk_up2 I k j v k b = if b = j then v else I k b := by simp [zk_up2]
theorem zsh_0 : zk_sh 0 = (0, 0, 10) := by decide
theorem zsh_1 : zk_sh 1 = (0, 3, 6) := by decide
theorem zsh_2 : zk_sh 2 = (1, 10, 0) := by decide
theorem zsh_3 : zk_sh 3 = (1, 10, 0) := by decide
theorem zsh_4 : zk_sh 4 = (1, 10, 0) := by decide
theorem zsh_5 : zk_sh 5 = (1, 10, 0) := by decide
theorem zsh_6 : zk_sh 6 = (0, 3, 6) := by decide
theorem zsh_7 : zk_sh 7 = (1, 10, 0) := by decide
theorem zsh_8 : zk_sh 8 = (1, 10, 0) := by decide
theorem zsh_9 : zk_sh 9 = (1, 10, 0) := by decide
theorem zsh_10 : zk_sh 10 = (1, 10, 0) := by decide
theorem zsh_11 : zk_sh 11 = (0, 4, 8) := by decide
theorem zsh_12 : zk_sh 12 = (1, 160, 0) := by decide
theorem zsh_13 : zk_sh 13 = (3, 6, 5) := by decide
theorem zsh_14 : zk_sh 14 = (1, 6, 0) := by decide
theorem zsh_15 : zk_sh 15 = (0, 1, 11) := by decide
theorem zsh_16 : zk_sh 16 = (1, 10, 0) := by decide
theorem zsh_17 : zk_sh 17 = (1, 10, 0) := by decide
theorem zsh_18 : zk_sh 18 = (1, 1024, 0) := by decide
theorem zsh_19 : zk_sh 19 = (1, 1024, 0) := by decide
theorem zsh_20 : zk_sh 20 = (1, 1024, 0) := by decide
theorem zsh_21 : zk_sh 21 = (1, 1024, 0) := by decide
theorem zsh_22 : zk_sh 22 = (2, 1000, 0) := by decide
theorem zsh_23 : zk_sh 23 = (1, 12, 0) := by decide
theorem zsh_24 : zk_sh 24 = (1, 10, 0) := by decide
theorem zsh_25 : zk_sh 25 = (1, 4096, 0) := by decide
theorem zsh_26 : zk_sh 26 = (3, 4, 2) := by decide
theorem zsh_27 : zk_sh 27 = (1, 4, 0) := by decide
theorem zsh_28 : zk_sh 28 = (0, 5, 4) := by decide
theorem zsh_29 : zk_sh 29 = (1, 160, 0) := by decide
theorem zsh_30 : zk_sh 30 = (1, 3, 0) := by decide
theorem zsh_31 : zk_sh 31 = (1, 40, 0) := by decide
theorem zsh_32 : zk_sh 32 = (0, 5, 4) := by decide
theorem zsh_33 : zk_sh 33 = (1, 160, 0) := by decide
theorem zsh_34 : zk_sh 34 = (1, 3, 0) := by decide
theorem zsh_35 : zk_sh 35 = (1, 40, 0) := by decide
theorem zsh_36 : zk_sh 36 = (0, 5, 4) := by decide
theorem zsh_37 : zk_sh 37 = (1, 160, 0) := by decide
theorem zsh_38 : zk_sh 38 = (1, 3, 0) := by decide
theorem zsh_39 : zk_sh 39 = (1, 40, 0) := by decide
theorem zsh_40 : zk_sh 40 = (0, 5, 4) := by decide
theorem zsh_41 : zk_sh 41 = (1, 160, 0) := by decide
theorem zsh_42 : zk_sh 42 = (1, 3, 0) := by decide
theorem zsh_43 : zk_sh 43 = (1, 40, 0) := by decide
theorem zsh_44 : zk_sh 44 = (0, 5, 4) := by decide
theorem zsh_45 : zk_sh 45 = (1, 160, 0) := by decide
theorem zsh_46 : zk_sh 46 = (1, 3, 0) := by decide
theorem zsh_47 : zk_sh 47 = (1, 40, 0) := by decide
theorem zsh_48 : zk_sh 48 = (0, 5, 4) := by decide
theorem zsh_49 : zk_sh 49 = (1, 160, 0) := by decide
theorem zsh_50 : zk_sh 50 = (1, 3, 0) := by decide
theorem zsh_51 : zk_sh 51 = (1, 40, 0) := by decide
theorem zsh_52 : zk_sh 52 = (0, 2, 3) := by decide
theorem zsh_53 : zk_sh 53 = (1, 40, 0) := by decide
theorem zsh_54 : zk_sh 54 = (0, 2, 3) := by decide
theorem zsh_55 : zk_sh 55 = (1, 40, 0) := by decide
theorem zsh_56 : zk_sh 56 = (0, 2, 3) := by decide
theorem zsh_57 : zk_sh 57 = (1, 40, 0) := by decide
theorem zsh_58 : zk_sh 58 = (0, 2, 3) := by decide
theorem zsh_59 : zk_sh 59 = (1, 40, 0) := by decide
theorem zsh_60 : zk_sh 60 = (0, 6, 36) := by decide
theorem zsh_61 : zk_sh 61 = (1, 10, 0) := by decide
theorem zsh_62 : zk_sh 62 = (1, 10, 0) := by decide
theorem zsh_63 : zk_sh 63 = (1, 10, 0) := by decide
theorem zsh_64 : zk_sh 64 = (1, 10, 0) := by decide
theorem zsh_65 : zk_sh 65 = (1, 160, 0) := by decide
theorem zsh_66 : zk_sh 66 = (1, 1200, 0) := by decide
theorem zsh_67 : zk_sh 67 = (1, 24, 0) := by decide
theorem zsh_68 : zk_sh 68 = (1, 40, 0) := by decide
theorem zsh_69 : zk_sh 69 = (1, 4, 0) := by decide
theorem zsh_70 : zk_sh 70 = (1, 4, 0) := by decide
theorem zsh_71 : zk_sh 71 = (1, 160, 0) := by decide
theorem zsh_72 : zk_sh 72 = (1, 34, 0) := by decide
theorem zsh_73 : zk_sh 73 = (1, 96, 0) := by decide
theorem zsh_74 : zk_sh 74 = (1, 200, 0) := by decide
theorem zsh_75 : zk_sh 75 = (1, 200, 0) := by decide
theorem zsh_76 : zk_sh 76 = (1, 6, 0) := by decide
theorem zsh_77 : zk_sh 77 = (1, 10, 0) := by decide
theorem zsh_78 : zk_sh 78 = (1, 1024, 0) := by decide
theorem zsh_79 : zk_sh 79 = (1, 1024, 0) := by decide
theorem zsh_80 : zk_sh 80 = (2, 1000, 0) := by decide
theorem zsh_81 : zk_sh 81 = (1, 12, 0) := by decide
theorem zsh_82 : zk_sh 82 = (1, 4096, 0) := by decide
theorem zrf_0_0 (tg : Option Nat) : zk_rf tg 0 0 = some 1 := by cases tg <;> rfl
theorem zrf_0_1 (tg : Option Nat) : zk_rf tg 0 1 = some 6 := by cases tg <;> rfl
theorem zrf_0_3 (tg : Option Nat) : zk_rf tg 0 3 = some 11 := by cases tg <;> rfl
theorem zrf_0_4 (tg : Option Nat) : zk_rf tg 0 4 = some 13 := by cases tg <;> rfl
theorem zrf_0_6 (tg : Option Nat) : zk_rf tg 0 6 = some 14 := by cases tg <;> rfl
theorem zrf_0_7 (tg : Option Nat) : zk_rf tg 0 7 = some 15 := by cases tg <;> rfl
theorem zrf_0_8 (tg : Option Nat) : zk_rf tg 0 8 = some 26 := by cases tg <;> rfl
theorem zrf_0_9 (tg : Option Nat) : zk_rf tg 0 9 = some 27 := by cases tg <;> rfl
theorem zrf_1_0 (tg : Option Nat) : zk_rf tg 1 0 = some 2 := by cases tg <;> rfl
theorem zrf_1_1 (tg : Option Nat) : zk_rf tg 1 1 = some 3 := by cases tg <;> rfl
theorem zrf_1_2 (tg : Option Nat) : zk_rf tg 1 2 = some 4 := by cases tg <;> rfl
theorem zrf_1_3 (tg : Option Nat) : zk_rf tg 1 3 = some 5 := by cases tg <;> rfl
theorem zrf_6_0 (tg : Option Nat) : zk_rf tg 6 0 = some 7 := by cases tg <;> rfl
theorem zrf_6_1 (tg : Option Nat) : zk_rf tg 6 1 = some 8 := by cases tg <;> rfl
theorem zrf_6_2 (tg : Option Nat) : zk_rf tg 6 2 = some 9 := by cases tg <;> rfl
theorem zrf_6_3 (tg : Option Nat) : zk_rf tg 6 3 = some 10 := by cases tg <;> rfl
theorem zrf_11_0 (tg : Option Nat) : zk_rf tg 11 0 = some 12 := by cases tg <;> rfl
theorem zrf_13_0 (tg : Option Nat) : zk_rf tg 13 0 = some 28 := by cases tg <;> rfl
theorem zrf_13_1 (tg : Option Nat) : zk_rf tg 13 1 = some 32 := by cases tg <;> rfl
theorem zrf_13_2 (tg : Option Nat) : zk_rf tg 13 2 = some 36 := by cases tg <;> rfl
theorem zrf_13_3 (tg : Option Nat) : zk_rf tg 13 3 = some 40 := by cases tg <;> rfl
theorem zrf_13_4 (tg : Option Nat) : zk_rf tg 13 4 = some 44 := by cases tg <;> rfl
theorem zrf_13_5 (tg : Option Nat) : zk_rf tg 13 5 = some 48 := by cases tg <;> rfl
theorem zrf_15_0 (tg : Option Nat) : zk_rf tg 15 0 = some 16 := by cases tg <;> rfl
theorem zrf_15_1 (tg : Option Nat) : zk_rf tg 15 1 = some 17 := by cases tg <;> rfl
theorem zrf_15_2 (tg : Option Nat) : zk_rf tg 15 2 = some 18 := by cases tg <;> rfl
theorem zrf_15_4 (tg : Option Nat) : zk_rf tg 15 4 = some 19 := by cases tg <;> rfl
theorem zrf_15_5 (tg : Option Nat) : zk_rf tg 15 5 = some 20 := by cases tg <;> rfl
theorem zrf_15_6 (tg : Option Nat) : zk_rf tg 15 6 = some 21 := by cases tg <;> rfl
theorem zrf_15_7 (tg : Option Nat) : zk_rf tg 15 7 = some 22 := by cases tg <;> rfl
theorem zrf_15_8 (tg : Option Nat) : zk_rf tg 15 8 = some 23 := by cases tg <;> rfl
theorem zrf_15_9 (tg : Option Nat) : zk_rf tg 15 9 = some 24 := by cases tg <;> rfl
theorem zrf_15_10 (tg : Option Nat) : zk_rf tg 15 10 = some 25 := by cases tg <;> rfl
theorem zrf_26_0 (tg : Option Nat) : zk_rf tg 26 0 = some 52 := by cases tg <;> rfl
theorem zrf_26_1 (tg : Option Nat) : zk_rf tg 26 1 = some 54 := by cases tg <;> rfl
theorem zrf_26_2 (tg : Option Nat) : zk_rf tg 26 2 = some 56 := by cases tg <;> rfl
theorem zrf_26_3 (tg : Option Nat) : zk_rf tg 26 3 = some 58 := by cases tg <;> rfl
theorem zrf_28_0 (tg : Option Nat) : zk_rf tg 28 0 = some 29 := by cases tg <;> rfl
theorem zrf_28_1 (tg : Option Nat) : zk_rf tg 28 1 = some 30 := by cases tg <;> rfl
theorem zrf_28_2 (tg : Option Nat) : zk_rf tg 28 2 = some 31 := by cases tg <;> rfl
theorem zrf_32_0 (tg : Option Nat) : zk_rf tg 32 0 = some 33 := by cases tg <;> rfl
theorem zrf_32_1 (tg : Option Nat) : zk_rf tg 32 1 = some 34 := by cases tg <;> rfl
theorem zrf_32_2 (tg : Option Nat) : zk_rf tg 32 2 = some 35 := by cases tg <;> rfl
theorem zrf_36_0 (tg : Option Nat) : zk_rf tg 36 0 = some 37 := by cases tg <;> rfl
theorem zrf_36_1 (tg : Option Nat) : zk_rf tg 36 1 = some 38 := by cases tg <;> rfl
theorem zrf_36_2 (tg : Option Nat) : zk_rf tg 36 2 = some 39 := by cases tg <;> rfl
theorem zrf_40_0 (tg : Option Nat) : zk_rf tg 40 0 = some 41 := by cases tg <;> rfl
theorem zrf_40_1 (tg : Option Nat) : zk_rf tg 40 1 = some 42 := by cases tg <;> rfl
theorem zrf_40_2 (tg : Option Nat) : zk_rf tg 40 2 = some 43 := by cases tg <;> rfl
theorem zrf_44_0 (tg : Option Nat) : zk_rf tg 44 0 = some 45 := by cases tg <;> rfl
theorem zrf_44_1 (tg : Option Nat) : zk_rf tg 44 1 = some 46 := by cases tg <;> rfl
theorem zrf_44_2 (tg : Option Nat) : zk_rf tg 44 2 = some 47 := by cases tg <;> rfl
theorem zrf_48_0 (tg : Option Nat) : zk_rf tg 48 0 = some 49 := by cases tg <;> rfl
theorem zrf_48_1 (tg : Option Nat) : zk_rf tg 48 1 = some 50 := by cases tg <;> rfl
theorem zrf_48_2 (tg : Option Nat) : zk_rf tg 48 2 = some 51 := by cases tg <;> rfl
theorem zrf_52_0 (tg : Option Nat) : zk_rf tg 52 0 = some 53 := by cases tg <;> rfl
theorem zrf_54_0 (tg : Option Nat) : zk_rf tg 54 0 = some 55 := by cases tg <;> rfl
theorem zrf_56_0 (tg : Option Nat) : zk_rf tg 56 0 = some 57 := by cases tg <;> rfl
theorem zrf_58_0 (tg : Option Nat) : zk_rf tg 58 0 = some 59 := by cases tg <;> rfl
theorem zrf_60_1 (tg : Option Nat) : zk_rf tg 60 1 = some 61 := by cases tg <;> rfl
theorem zrf_60_2 (tg : Option Nat) : zk_rf tg 60 2 = some 62 := by cases tg <;> rfl
theorem zrf_60_3 (tg : Option Nat) : zk_rf tg 60 3 = some 63 := by cases tg <;> rfl
theorem zrf_60_4 (tg : Option Nat) : zk_rf tg 60 4 = some 64 := by cases tg <;> rfl
theorem zrf_60_5 (tg : Option Nat) : zk_rf tg 60 5 = some 65 := by cases tg <;> rfl
theorem zrf_60_7 (tg : Option Nat) : zk_rf tg 60 7 = some 66 := by cases tg <;> rfl
theorem zrf_60_8 (tg : Option Nat) : zk_rf tg 60 8 = some 67 := by cases tg <;> rfl
theorem zrf_60_14 (tg : Option Nat) : zk_rf tg 60 14 = some 68 := by cases tg <;> rfl
theorem zrf_60_15 (tg : Option Nat) : zk_rf tg 60 15 = some 69 := by cases tg <;> rfl
theorem zrf_60_16 (tg : Option Nat) : zk_rf tg 60 16 = some 70 := by cases tg <;> rfl
theorem zrf_60_17 (tg : Option Nat) : zk_rf tg 60 17 = some 71 := by cases tg <;> rfl
theorem zrf_60_18 (tg : Option Nat) : zk_rf tg 60 18 = some 72 := by cases tg <;> rfl
theorem zrf_60_23 (tg : Option Nat) : zk_rf tg 60 23 = some 73 := by cases tg <;> rfl
theorem zrf_60_24 (tg : Option Nat) : zk_rf tg 60 24 = some 74 := by cases tg <;> rfl
theorem zrf_60_28 (tg : Option Nat) : zk_rf tg 60 28 = some 75 := by cases tg <;> rfl
theorem zrf_60_29 (tg : Option Nat) : zk_rf tg 60 29 = some 76 := by cases tg <;> rfl
theorem zrf_60_30 (tg : Option Nat) : zk_rf tg 60 30 = some 77 := by cases tg <;> rfl
theorem zrf_60_31 (tg : Option Nat) : zk_rf tg 60 31 = some 78 := by cases tg <;> rfl
theorem zrf_60_32 (tg : Option Nat) : zk_rf tg 60 32 = some 79 := by cases tg <;> rfl
theorem zrf_60_33 (tg : Option Nat) : zk_rf tg 60 33 = some 80 := by cases tg <;> rfl
theorem zrf_60_34 (tg : Option Nat) : zk_rf tg 60 34 = some 81 := by cases tg <;> rfl
theorem zrf_60_35 (tg : Option Nat) : zk_rf tg 60 35 = some 82 := by cases tg <;> rfl
theorem zrf_tg (tg : Option Nat) : zk_rf tg 11 2 = tg := by cases tg <;> rfl
/-! numbers -/
theorem zn_lt {a b : Nat} (ha : a < 2147483648) (hb : b < 2147483648) : (nI a < nI b) = (a < b) := propext (nI_ltI ha hb)
theorem zn_le {a b : Nat} (ha : a < 2147483648) (hb : b < 2147483648) : (nI a ≤ nI b) = (a ≤ b) := propext (nI_leI ha hb)
theorem zn_eq {a b : Nat} (ha : a < 2147483648) (hb : b < 2147483648) : (nI a = nI b) = (a = b) := propext (nI_eq ha hb)
theorem zn_in {a L : Nat} (ha : a < 2147483648) : (zk_inb (nI a) L = true) = (a < L) := by
  apply propext
  rw [zk_inb_iff]
  unfold zk_in
  rw [nI_toInt ha]
  omega
theorem zn_cl {a : Nat} (ha : a < 2147483648) : (nI a).toNatClampNeg = a := nI_clamp ha
theorem zn_0 : (0 : Int32) = nI 0 := rfl
theorem zn_1 : (1 : Int32) = nI 1 := rfl
theorem zn_lit (n : Nat) : (OfNat.ofNat n : Int32) = nI n := rfl
theorem zn_add (a b : Nat) : nI a + nI b = nI (a + b) := nI_add a b
theorem zn_sub {a b : Nat} (h : b ≤ a) : nI a - nI b = nI (a - b) := pk_sub h
theorem zn_mul (a b : Nat) : nI a * nI b = nI (a * b) := pk_mul a b
theorem zn_m1 {a : Nat} (ha : a < 2147483648) : (nI a = -1) = False := by
  apply propext
  constructor
  · intro h
    have h1 := congrArg Int32.toInt h
    rw [nI_toInt ha] at h1
    have h2 : (-1 : Int32).toInt = -1 := by decide
    omega
  · exact False.elim
theorem zn_neg {a : Nat} (ha : a < 2147483648) : (nI a < 0) = False := by
  apply propext
  constructor
  · intro h; exact nI_pos ha h
  · exact False.elim
/-- a loop that counts up: an invariant on what changes -/
theorem zl_up {τ : Type} (W : Nat → τ → Prop) (Inv : Nat → τ → Prop) (e : Nat) (hx : ∀ s, Inv e s → W e s) (hs : ∀ i s, i < e → Inv i s → (∀ s', Inv (i + 1) s' → W (i + 1) s') → W i s) : ∀ i s, i ≤ e → Inv i s → W i s := by
  have key : ∀ j i s, i + j = e → Inv i s → W i s := by
    intro j
    induction j with
    | zero => intro i s h hi; have : i = e := by omega
              subst this; exact hx s hi
    | succ j ih => intro i s h hi; exact hs i s (by omega) hi (fun s' h' => ih (i + 1) s' (by omega) h')
  intro i s h hi
  exact key (e - i) i s (by omega) hi
theorem zl_fn (W : Nat → Prop) (e : Nat) (hx : W e) (hs : ∀ i, i < e → W (i + 1) → W i) : ∀ i, i ≤ e → W i := by
  intro i h
  exact zl_up (τ := Unit) (fun i _ => W i) (fun _ _ => True) e (fun _ _ => hx) (fun i _ hi _ k => hs i hi (k () trivial)) i () h trivial
