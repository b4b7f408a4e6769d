/-! what a text says: numbers on a stack -/
def zt_c (t : Nat) : Int32 := if t < 10000 then nI t else if t < 10006 then -1 - nI (t - 10000) else -nI (t - 10000)
def zt_m (t : Nat) : Int32 := if t < 10000 then nI (100000 + t) else if t < 10006 then nI (t - 10000) else ([19, 13, 18, 16, 17, 14, 15, 12, 11] : List Int32).getD (t - 10010) 0
def zt_up (f : Nat → Int32) (a : Nat) (v : Int32) : Nat → Int32 := fun b => if b = a then v else f b
def zt_un (t : Nat) (x : Int32) : Int32 := if t = 10010 then -x else if x = 0 then 1 else 0
def zt_two (t : Nat) (a b : Int32) : Int32 := if t = 10012 then a * b else if t = 10013 then a + b else if t = 10014 then a - b else if t = 10015 then zb (a < b) else if t = 10016 then zb (a = b) else if t = 10017 then zb (¬ a = 0 ∧ ¬ b = 0) else zb (¬ a = 0 ∨ ¬ b = 0)
def zt_st (nm : Nat → Int32) (t : Nat) (q : Nat × (Nat → Int32)) : Nat × (Nat → Int32) :=
  if t < 10000 then (q.1 + 1, zt_up q.2 q.1 (nI t)) else if t < 10006 then (q.1 + 1, zt_up q.2 q.1 (nm (t - 10000))) else if t < 10012 then (q.1, zt_up q.2 (q.1 - 1) (zt_un t (q.2 (q.1 - 1)))) else (q.1 - 1, zt_up q.2 (q.1 - 2) (zt_two t (q.2 (q.1 - 2)) (q.2 (q.1 - 1))))
def zt_run (nm : Nat → Int32) (T : Nat → Nat) (a : Nat) : Nat → Nat × (Nat → Int32)
  | 0 => (0, fun _ => 0)
  | k + 1 => zt_st nm (T (a + k)) (zt_run nm T a k)
def zt_val (nm : Nat → Int32) (T : Nat → Nat) (a k : Nat) : Int32 := (zt_run nm T a k).2 0
def zt_dn (t dp : Nat) : Nat := if t < 10006 then dp + 1 else if t < 10012 then dp else dp - 1
def zt_dp (T : Nat → Nat) (a : Nat) : Nat → Nat
  | 0 => 0
  | k + 1 => zt_dn (T (a + k)) (zt_dp T a k)
theorem zt_run1 (nm : Nat → Int32) (T : Nat → Nat) (a : Nat) : ∀ k, (zt_run nm T a k).1 = zt_dp T a k
  | 0 => rfl
  | k + 1 => by
    rw [zt_run, zt_dp, ← zt_run1 nm T a k]
    unfold zt_st zt_dn
    by_cases h1 : T (a + k) < 10000
    · rw [if_pos h1, if_pos (by omega)]
    · rw [if_neg h1]
      by_cases h2 : T (a + k) < 10006
      · rw [if_pos h2, if_pos h2]
      · rw [if_neg h2, if_neg h2]
        by_cases h3 : T (a + k) < 10012
        · rw [if_pos h3, if_pos h3]
        · rw [if_neg h3, if_neg h3]
def zt_ok (t dp : Nat) : Prop := (t < 10006 ∧ dp < 40) ∨ ((t = 10010 ∨ t = 10011) ∧ 1 ≤ dp) ∨ (10012 ≤ t ∧ t < 10019 ∧ 2 ≤ dp)
/-- a part of a text is whole -/
def zt_wf (T : Nat → Nat) (a k : Nat) : Prop := (∀ i, i < k → zt_ok (T (a + i)) (zt_dp T a i)) ∧ 1 ≤ zt_dp T a k
theorem zt_dp40 {T : Nat → Nat} {a k : Nat} (h : ∀ i, i < k → zt_ok (T (a + i)) (zt_dp T a i)) : ∀ i, i ≤ k → zt_dp T a i ≤ 40
  | 0, _ => by simp [zt_dp]
  | i + 1, hi => by
    have ih := zt_dp40 h i (by omega)
    have := h i (by omega)
    unfold zt_ok at this
    rw [zt_dp]
    unfold zt_dn
    split
    · omega
    · split <;> omega
theorem zt_cases {t dp : Nat} (h : zt_ok t dp) : t < 10000 ∨ (10000 ≤ t ∧ t < 10006) ∨ t = 10010 ∨ t = 10011 ∨ t = 10012 ∨ t = 10013 ∨ t = 10014 ∨ t = 10015 ∨ t = 10016 ∨ t = 10017 ∨ t = 10018 := by
  unfold zt_ok at h
  omega
theorem s125 {sc : zk_X} {d : Nat} {M : zk_M} {P : Option Value → zk_M → Prop} {t : Nat} {a b : Int32} (h1 : 10012 ≤ t) (h2 : t < 10019) : zk_R sc d 125 0 [some (.int (zt_c t)), some (.int a), some (.int b)] [] M P = P (some (.int (zt_two t a b))) M := by
  rcases (show t = 10012 ∨ t = 10013 ∨ t = 10014 ∨ t = 10015 ∨ t = 10016 ∨ t = 10017 ∨ t = 10018 by omega) with rfl | rfl | rfl | rfl | rfl | rfl | rfl
  · simp only [u125_0, u125_1, u125_40, u125_41, u125_42, u125_43, u125_44, u125_45, u125_46, u125_47, u125_48, u125_49, u125_50, u125_51, u125_52, u125_53, u125_54, u125_57, u125_58, u125_61, u125_62, u125_63, u125_64, u125_65, u125_68, u125_69, u125_72, u125_73, u125_74, u125_75, u125_78, u125_79, u125_82, u125_83, u125_86, u125_87, u125_88, u125_89, u125_92, u125_93, u125_96, u125_97, u125_100, u125_101, show zk_sw 1 (87) (-17) (-12) #[73, 62, 51, 47, 43, 39] (zt_c 10012) = 40 from by decide +kernel]
    rfl
  · simp only [u125_0, u125_1, u125_40, u125_41, u125_42, u125_43, u125_44, u125_45, u125_46, u125_47, u125_48, u125_49, u125_50, u125_51, u125_52, u125_53, u125_54, u125_57, u125_58, u125_61, u125_62, u125_63, u125_64, u125_65, u125_68, u125_69, u125_72, u125_73, u125_74, u125_75, u125_78, u125_79, u125_82, u125_83, u125_86, u125_87, u125_88, u125_89, u125_92, u125_93, u125_96, u125_97, u125_100, u125_101, show zk_sw 1 (87) (-17) (-12) #[73, 62, 51, 47, 43, 39] (zt_c 10013) = 44 from by decide +kernel]
    rfl
  · simp only [u125_0, u125_1, u125_40, u125_41, u125_42, u125_43, u125_44, u125_45, u125_46, u125_47, u125_48, u125_49, u125_50, u125_51, u125_52, u125_53, u125_54, u125_57, u125_58, u125_61, u125_62, u125_63, u125_64, u125_65, u125_68, u125_69, u125_72, u125_73, u125_74, u125_75, u125_78, u125_79, u125_82, u125_83, u125_86, u125_87, u125_88, u125_89, u125_92, u125_93, u125_96, u125_97, u125_100, u125_101, show zk_sw 1 (87) (-17) (-12) #[73, 62, 51, 47, 43, 39] (zt_c 10014) = 48 from by decide +kernel]
    rfl
  · simp only [u125_0, u125_1, u125_40, u125_41, u125_42, u125_43, u125_44, u125_45, u125_46, u125_47, u125_48, u125_49, u125_50, u125_51, u125_52, u125_53, u125_54, u125_57, u125_58, u125_61, u125_62, u125_63, u125_64, u125_65, u125_68, u125_69, u125_72, u125_73, u125_74, u125_75, u125_78, u125_79, u125_82, u125_83, u125_86, u125_87, u125_88, u125_89, u125_92, u125_93, u125_96, u125_97, u125_100, u125_101, show zk_sw 1 (87) (-17) (-12) #[73, 62, 51, 47, 43, 39] (zt_c 10015) = 52 from by decide +kernel, zt_two, zb, ← Int32.not_lt]
    by_cases h : a < b <;> simp [h]
  · simp only [u125_0, u125_1, u125_40, u125_41, u125_42, u125_43, u125_44, u125_45, u125_46, u125_47, u125_48, u125_49, u125_50, u125_51, u125_52, u125_53, u125_54, u125_57, u125_58, u125_61, u125_62, u125_63, u125_64, u125_65, u125_68, u125_69, u125_72, u125_73, u125_74, u125_75, u125_78, u125_79, u125_82, u125_83, u125_86, u125_87, u125_88, u125_89, u125_92, u125_93, u125_96, u125_97, u125_100, u125_101, show zk_sw 1 (87) (-17) (-12) #[73, 62, 51, 47, 43, 39] (zt_c 10016) = 63 from by decide +kernel, zt_two, zb]
    by_cases h : a = b <;> simp [h]
  · simp only [u125_0, u125_1, u125_40, u125_41, u125_42, u125_43, u125_44, u125_45, u125_46, u125_47, u125_48, u125_49, u125_50, u125_51, u125_52, u125_53, u125_54, u125_57, u125_58, u125_61, u125_62, u125_63, u125_64, u125_65, u125_68, u125_69, u125_72, u125_73, u125_74, u125_75, u125_78, u125_79, u125_82, u125_83, u125_86, u125_87, u125_88, u125_89, u125_92, u125_93, u125_96, u125_97, u125_100, u125_101, show zk_sw 1 (87) (-17) (-12) #[73, 62, 51, 47, 43, 39] (zt_c 10017) = 74 from by decide +kernel, zt_two, zb]
    by_cases h : a = 0 <;> by_cases h' : b = 0 <;> simp [h, h']
  · simp only [u125_0, u125_1, u125_40, u125_41, u125_42, u125_43, u125_44, u125_45, u125_46, u125_47, u125_48, u125_49, u125_50, u125_51, u125_52, u125_53, u125_54, u125_57, u125_58, u125_61, u125_62, u125_63, u125_64, u125_65, u125_68, u125_69, u125_72, u125_73, u125_74, u125_75, u125_78, u125_79, u125_82, u125_83, u125_86, u125_87, u125_88, u125_89, u125_92, u125_93, u125_96, u125_97, u125_100, u125_101, show zk_sw 1 (87) (-17) (-12) #[73, 62, 51, 47, 43, 39] (zt_c 10018) = 88 from by decide +kernel, zt_two, zb]
    by_cases h : a = 0 <;> by_cases h' : b = 0 <;> simp [h, h']
theorem s148 {sc : zk_X} {d : Nat} {M : zk_M} {P : Option Value → zk_M → Prop} {t : Nat} {a b : Int32} (h1 : 10012 ≤ t) (h2 : t < 10019) : zk_R sc d 148 0 [some (.int (zt_m t)), some (.int a), some (.int b)] [] M P = P (some (.int (zt_two t a b))) M := by
  rcases (show t = 10012 ∨ t = 10013 ∨ t = 10014 ∨ t = 10015 ∨ t = 10016 ∨ t = 10017 ∨ t = 10018 by omega) with rfl | rfl | rfl | rfl | rfl | rfl | rfl
  · simp only [u148_0, u148_1, u148_44, u148_45, u148_48, u148_49, u148_52, u148_53, u148_56, u148_57, u148_58, u148_59, u148_62, u148_63, u148_66, u148_67, u148_70, u148_71, u148_72, u148_73, u148_74, u148_77, u148_78, u148_81, u148_82, u148_83, u148_84, u148_85, u148_88, u148_89, u148_92, u148_93, u148_94, u148_95, u148_96, u148_97, u148_98, u148_99, u148_100, u148_101, u148_102, u148_103, u148_104, u148_105, show zk_sw 1 101 11 17 #[43, 57, 101, 71, 82, 93, 97] (zt_m 10012) = 102 from by decide +kernel]
    rfl
  · simp only [u148_0, u148_1, u148_44, u148_45, u148_48, u148_49, u148_52, u148_53, u148_56, u148_57, u148_58, u148_59, u148_62, u148_63, u148_66, u148_67, u148_70, u148_71, u148_72, u148_73, u148_74, u148_77, u148_78, u148_81, u148_82, u148_83, u148_84, u148_85, u148_88, u148_89, u148_92, u148_93, u148_94, u148_95, u148_96, u148_97, u148_98, u148_99, u148_100, u148_101, u148_102, u148_103, u148_104, u148_105, show zk_sw 1 101 11 17 #[43, 57, 101, 71, 82, 93, 97] (zt_m 10013) = 94 from by decide +kernel]
    rfl
  · simp only [u148_0, u148_1, u148_44, u148_45, u148_48, u148_49, u148_52, u148_53, u148_56, u148_57, u148_58, u148_59, u148_62, u148_63, u148_66, u148_67, u148_70, u148_71, u148_72, u148_73, u148_74, u148_77, u148_78, u148_81, u148_82, u148_83, u148_84, u148_85, u148_88, u148_89, u148_92, u148_93, u148_94, u148_95, u148_96, u148_97, u148_98, u148_99, u148_100, u148_101, u148_102, u148_103, u148_104, u148_105, show zk_sw 1 101 11 17 #[43, 57, 101, 71, 82, 93, 97] (zt_m 10014) = 98 from by decide +kernel]
    rfl
  · simp only [u148_0, u148_1, u148_44, u148_45, u148_48, u148_49, u148_52, u148_53, u148_56, u148_57, u148_58, u148_59, u148_62, u148_63, u148_66, u148_67, u148_70, u148_71, u148_72, u148_73, u148_74, u148_77, u148_78, u148_81, u148_82, u148_83, u148_84, u148_85, u148_88, u148_89, u148_92, u148_93, u148_94, u148_95, u148_96, u148_97, u148_98, u148_99, u148_100, u148_101, u148_102, u148_103, u148_104, u148_105, show zk_sw 1 101 11 17 #[43, 57, 101, 71, 82, 93, 97] (zt_m 10015) = 72 from by decide +kernel, zt_two, zb, ← Int32.not_lt]
    by_cases h : a < b <;> simp [h]
  · simp only [u148_0, u148_1, u148_44, u148_45, u148_48, u148_49, u148_52, u148_53, u148_56, u148_57, u148_58, u148_59, u148_62, u148_63, u148_66, u148_67, u148_70, u148_71, u148_72, u148_73, u148_74, u148_77, u148_78, u148_81, u148_82, u148_83, u148_84, u148_85, u148_88, u148_89, u148_92, u148_93, u148_94, u148_95, u148_96, u148_97, u148_98, u148_99, u148_100, u148_101, u148_102, u148_103, u148_104, u148_105, show zk_sw 1 101 11 17 #[43, 57, 101, 71, 82, 93, 97] (zt_m 10016) = 83 from by decide +kernel, zt_two, zb]
    by_cases h : a = b <;> simp [h]
  · simp only [u148_0, u148_1, u148_44, u148_45, u148_48, u148_49, u148_52, u148_53, u148_56, u148_57, u148_58, u148_59, u148_62, u148_63, u148_66, u148_67, u148_70, u148_71, u148_72, u148_73, u148_74, u148_77, u148_78, u148_81, u148_82, u148_83, u148_84, u148_85, u148_88, u148_89, u148_92, u148_93, u148_94, u148_95, u148_96, u148_97, u148_98, u148_99, u148_100, u148_101, u148_102, u148_103, u148_104, u148_105, show zk_sw 1 101 11 17 #[43, 57, 101, 71, 82, 93, 97] (zt_m 10017) = 58 from by decide +kernel, zt_two, zb]
    by_cases h : a = 0 <;> by_cases h' : b = 0 <;> simp [h, h']
  · simp only [u148_0, u148_1, u148_44, u148_45, u148_48, u148_49, u148_52, u148_53, u148_56, u148_57, u148_58, u148_59, u148_62, u148_63, u148_66, u148_67, u148_70, u148_71, u148_72, u148_73, u148_74, u148_77, u148_78, u148_81, u148_82, u148_83, u148_84, u148_85, u148_88, u148_89, u148_92, u148_93, u148_94, u148_95, u148_96, u148_97, u148_98, u148_99, u148_100, u148_101, u148_102, u148_103, u148_104, u148_105, show zk_sw 1 101 11 17 #[43, 57, 101, 71, 82, 93, 97] (zt_m 10018) = 44 from by decide +kernel, zt_two, zb]
    by_cases h : a = 0 <;> by_cases h' : b = 0 <;> simp [h, h']
