/-! the reference's rows -/
theorem zj_side {I : Nat → Nat → Int32} {n c : Nat} (hj : zj_tab I n) (hc : c < n) : I 64 c = I 5 c := (hj.2.2.2 c hc).1.2.2.2
theorem s162 {sc : zk_X} {d : Nat} {I : Nat → Nat → Int32} {tg : Option Nat} {P : Option Value → zk_M → Prop} {n t : Nat} {T e : Nat → Nat} (hj : zj_tab I n) (ht : t < 6) (hr : I 60 10 = nI t) (hx : zj_text I t T e)
    (K : ∀ I' : Nat → Nat → Int32, zF I I' → (∀ c, c < n → I' 77 c = zv_now I n T e c) → zv_rows I' 78 79 (zv_now I n T e) n → P none (zk_mk I' tg)) : zk_R sc (d + 5) 162 0 [some (.ref (60 : Nat)), none, none] [] (zk_mk I tg) P := by
  have h10 := hj.2.2.1
  have hn := hj.2.1
  have p10 := zp_10 h10
  have eall : (1 : Int32) <<< (nI n &&& 31) - 1 = nI (2 ^ n - 1) := by rw [zq_all h10]; exact zn_sub (b := 1) (by omega)
  have loop2 := fun (x2 : Option Value) => zl_up (τ := (Nat → Nat → Int32) × Option Value) (fun i q => zk_R sc (d + 5) 162 29 [some (.ref (60 : Nat)), some (.int (nI i)), q.2] [] (zk_mk q.1 tg) P)
    (fun i q => zF I q.1 ∧ (∀ c, c < n → q.1 77 c = zv_now I n T e c) ∧ ∀ h, h < i → q.1 78 h = zsum (zv_now I n T e) h n ∧ q.1 79 h = zsum (fun c => zv_now I n T e c * zv_now I n T e c) h n) (2 ^ n) (by
      rintro ⟨I', x⟩ ⟨h1, h2, h3⟩
      have e60 : I' 60 = I 60 := h1 60 rfl
      show zk_R sc (d + 5) 162 29 [some (.ref (60 : Nat)), some (.int (nI (2 ^ n))), x] [] (zk_mk I' tg) P
      rw [u162_29]
      simp only [u162_0, u162_1, u162_3, u162_4, u162_7, u162_10, u162_11, u162_14, u162_15, u162_16, u162_17, u162_20, u162_21, u162_24, u162_27, u162_28, u162_30, u162_31, u162_34, u162_37, u162_38, u162_41, u162_42, u162_43, u162_44, u162_45, u162_48, u162_49, u162_50, u162_51, u162_52, u162_54, u162_55, u162_58, u162_61, u162_62, u162_63, u162_64, u162_65, u162_66, u162_67, u162_70, u162_71, u162_74, u162_75, u162_76, u162_77, u162_78, u162_81, u162_82, u162_83, u162_84, u162_85, u162_86, u162_89, u162_90, u162_91, u162_92, u162_93, u162_96, u162_97, u162_98, u162_99, u162_102, u162_103, u162_104, u162_105, u162_106, u162_107, u162_110, u162_113, u162_116, u162_119, zk_mk_1, zk_mk_I, zk_mk_R, zk_mk_set, zk_mk_setR, zk_mk_cpy, zk_rv_some, zk_rv_none, Option.toList_some, Option.toList_none, List.cons_append, List.nil_append, reduceIte, eq_self, Nat.reduceLT, Nat.reduceEqDiff, and_true, true_and, reduceCtorEq, zsh_60, s161, e60, hn, eall]
      have hcond : nI (2 ^ n - 1) < nI (2 ^ n) := by rw [zn_lt (by omega) (by omega)]; omega
      first | rw [if_pos hcond] | rw [if_neg (Int32.not_le.mpr hcond)]
      exact K I' h1 h2 h3) (by
      rintro i ⟨I', x⟩ hi ⟨h1, h2, h3⟩ ih
      have e60 : I' 60 = I 60 := h1 60 rfl
      show zk_R sc (d + 5) 162 29 [some (.ref (60 : Nat)), some (.int (nI i)), x] [] (zk_mk I' tg) P
      have inner := zl_up (τ := Nat → Nat → Int32) (fun c I2 => zk_R sc (d + 5) 162 53 [some (.ref (60 : Nat)), some (.int (nI i)), some (.int (nI c))] [] (zk_mk I2 tg) P)
        (fun c I2 => (zF I I2 ∧ (∀ c, c < n → I2 77 c = zv_now I n T e c) ∧ ∀ h, h < i → I2 78 h = zsum (zv_now I n T e) h n ∧ I2 79 h = zsum (fun c => zv_now I n T e c * zv_now I n T e c) h n) ∧ I2 78 i = zsum (zv_now I n T e) i c ∧ I2 79 i = zsum (fun c => zv_now I n T e c * zv_now I n T e c) i c) n (by
          rintro I2 ⟨⟨g1, g2, g3⟩, g4, g5⟩
          have e60 : I2 60 = I 60 := g1 60 rfl
          show zk_R sc (d + 5) 162 53 [some (.ref (60 : Nat)), some (.int (nI i)), some (.int (nI n))] [] (zk_mk I2 tg) P
          rw [u162_53]
          simp only [u162_0, u162_1, u162_3, u162_4, u162_7, u162_10, u162_11, u162_14, u162_15, u162_16, u162_17, u162_20, u162_21, u162_24, u162_27, u162_28, u162_30, u162_31, u162_34, u162_37, u162_38, u162_41, u162_42, u162_43, u162_44, u162_45, u162_48, u162_49, u162_50, u162_51, u162_52, u162_54, u162_55, u162_58, u162_61, u162_62, u162_63, u162_64, u162_65, u162_66, u162_67, u162_70, u162_71, u162_74, u162_75, u162_76, u162_77, u162_78, u162_81, u162_82, u162_83, u162_84, u162_85, u162_86, u162_89, u162_90, u162_91, u162_92, u162_93, u162_96, u162_97, u162_98, u162_99, u162_102, u162_103, u162_104, u162_105, u162_106, u162_107, u162_110, u162_113, u162_116, u162_119, zk_mk_1, zk_mk_I, zk_mk_R, zk_mk_set, zk_mk_setR, zk_mk_cpy, zk_rv_some, zk_rv_none, Option.toList_some, Option.toList_none, List.cons_append, List.nil_append, reduceIte, eq_self, Nat.reduceLT, Nat.reduceEqDiff, and_true, true_and, reduceCtorEq, zsh_60, e60, hn]
          rw [if_pos (nI_le (Nat.le_refl _) (by omega)), nI_1]
          refine ih (I2, _) ⟨g1, g2, fun h hh => ?_⟩
          by_cases hhi : h = i
          · subst hhi; exact ⟨g4, g5⟩
          · exact g3 h (by omega)) (by
          rintro c I2 hc ⟨⟨g1, g2, g3⟩, g4, g5⟩ ih2
          have e60 : I2 60 = I 60 := g1 60 rfl
          have hcc := g2 c hc
          show zk_R sc (d + 5) 162 53 [some (.ref (60 : Nat)), some (.int (nI i)), some (.int (nI c))] [] (zk_mk I2 tg) P
          rw [u162_53]
          simp only [u162_0, u162_1, u162_3, u162_4, u162_7, u162_10, u162_11, u162_14, u162_15, u162_16, u162_17, u162_20, u162_21, u162_24, u162_27, u162_28, u162_30, u162_31, u162_34, u162_37, u162_38, u162_41, u162_42, u162_43, u162_44, u162_45, u162_48, u162_49, u162_50, u162_51, u162_52, u162_54, u162_55, u162_58, u162_61, u162_62, u162_63, u162_64, u162_65, u162_66, u162_67, u162_70, u162_71, u162_74, u162_75, u162_76, u162_77, u162_78, u162_81, u162_82, u162_83, u162_84, u162_85, u162_86, u162_89, u162_90, u162_91, u162_92, u162_93, u162_96, u162_97, u162_98, u162_99, u162_102, u162_103, u162_104, u162_105, u162_106, u162_107, u162_110, u162_113, u162_116, u162_119, zk_mk_1, zk_mk_I, zk_mk_R, zk_mk_set, zk_mk_setR, zk_mk_cpy, zk_rv_some, zk_rv_none, Option.toList_some, Option.toList_none, List.cons_append, List.nil_append, reduceIte, eq_self, Nat.reduceLT, Nat.reduceEqDiff, and_true, true_and, reduceCtorEq, zsh_60, zsh_77, zsh_78, zsh_79, zrf_60_30, zrf_60_31, zrf_60_32, e60, hn]
          rw [if_neg (nI_ge hc (by omega)), zq_bit (by omega) (by omega)]
          by_cases hb : i / 2 ^ c % 2 = 1
          · rw [if_pos (show nI (i / 2 ^ c % 2) = 1 by rw [hb]; rfl)]
            simp (disch := omega) only [zn_in, zn_cl, nI_1, zk_up2_k (show (77 : Nat) ≠ 78 by decide), zk_up2_k (show (79 : Nat) ≠ 78 by decide), hcc]
            refine ⟨by omega, by omega, by omega, by omega, by omega, by omega, by omega, ?_⟩
            refine ih2 _ ⟨⟨(g1.up rfl).up rfl, fun c' hc' => ?_, fun h hh => ?_⟩, ?_, ?_⟩
            · rw [zk_up2_k (by decide), zk_up2_k (by decide)]; exact g2 c' hc'
            · rw [zk_up2_k (show (78 : Nat) ≠ 79 by decide), zk_up2_i, zk_up2_i, if_neg (by omega), if_neg (by omega), zk_up2_k (show (79 : Nat) ≠ 78 by decide)]
              exact g3 h hh
            · rw [zk_up2_k (show (78 : Nat) ≠ 79 by decide), zk_up2_s, g4]
              show _ = zsum (zv_now I n T e) i c + (if i / 2 ^ c % 2 = 1 then zv_now I n T e c else 0)
              rw [if_pos hb]
            · rw [zk_up2_s, g5]
              show _ = zsum (fun c => zv_now I n T e c * zv_now I n T e c) i c + (if i / 2 ^ c % 2 = 1 then zv_now I n T e c * zv_now I n T e c else 0)
              rw [if_pos hb]
          · have hb0 : i / 2 ^ c % 2 = 0 := by omega
            rw [if_neg (show ¬ nI (i / 2 ^ c % 2) = 1 by rw [hb0]; decide), nI_1]
            refine ih2 _ ⟨⟨g1, g2, g3⟩, ?_, ?_⟩
            · rw [g4]
              show _ = zsum (zv_now I n T e) i c + (if i / 2 ^ c % 2 = 1 then zv_now I n T e c else 0)
              rw [if_neg hb]; simp
            · rw [g5]
              show _ = zsum (fun c => zv_now I n T e c * zv_now I n T e c) i c + (if i / 2 ^ c % 2 = 1 then zv_now I n T e c * zv_now I n T e c else 0)
              rw [if_neg hb]; simp)
      rw [u162_29]
      simp only [u162_0, u162_1, u162_3, u162_4, u162_7, u162_10, u162_11, u162_14, u162_15, u162_16, u162_17, u162_20, u162_21, u162_24, u162_27, u162_28, u162_30, u162_31, u162_34, u162_37, u162_38, u162_41, u162_42, u162_43, u162_44, u162_45, u162_48, u162_49, u162_50, u162_51, u162_52, u162_54, u162_55, u162_58, u162_61, u162_62, u162_63, u162_64, u162_65, u162_66, u162_67, u162_70, u162_71, u162_74, u162_75, u162_76, u162_77, u162_78, u162_81, u162_82, u162_83, u162_84, u162_85, u162_86, u162_89, u162_90, u162_91, u162_92, u162_93, u162_96, u162_97, u162_98, u162_99, u162_102, u162_103, u162_104, u162_105, u162_106, u162_107, u162_110, u162_113, u162_116, u162_119, zk_mk_1, zk_mk_I, zk_mk_R, zk_mk_set, zk_mk_setR, zk_mk_cpy, zk_rv_some, zk_rv_none, Option.toList_some, Option.toList_none, List.cons_append, List.nil_append, reduceIte, eq_self, Nat.reduceLT, Nat.reduceEqDiff, and_true, true_and, reduceCtorEq, zsh_60, zsh_78, zsh_79, zrf_60_31, zrf_60_32, s161, e60, hn, eall]
      have hcond : nI i ≤ nI (2 ^ n - 1) := by rw [zn_le (by omega) (by omega)]; omega
      first | rw [if_pos hcond] | rw [if_neg (Int32.not_lt.mpr hcond)]
      simp (disch := omega) only [zn_in, zn_cl]
      refine ⟨by omega, by omega, ?_⟩
      refine inner 0 _ (Nat.zero_le _) ⟨⟨(h1.up rfl).up rfl, fun c' hc' => ?_, fun h hh => ?_⟩, ?_, ?_⟩
      · rw [zk_up2_k (by decide), zk_up2_k (by decide)]; exact h2 c' hc'
      · rw [zk_up2_k (show (78 : Nat) ≠ 79 by decide), zk_up2_i, zk_up2_i, if_neg (by omega), if_neg (by omega), zk_up2_k (show (79 : Nat) ≠ 78 by decide)]
        exact h3 h hh
      · rw [zk_up2_k (show (78 : Nat) ≠ 79 by decide), zk_up2_s]; rfl
      · rw [zk_up2_s]; rfl)
  have loop := zl_up (τ := Nat → Nat → Int32) (fun i I' => zk_R sc (d + 5) 162 2 [some (.ref (60 : Nat)), some (.int (nI i)), none] [] (zk_mk I' tg) P)
    (fun i I' => zF I I' ∧ ∀ c, c < i → I' 77 c = zv_now I n T e c) n (by
      rintro I' ⟨h1, h2⟩
      have e60 : I' 60 = I 60 := h1 60 rfl
      show zk_R sc (d + 5) 162 2 [some (.ref (60 : Nat)), some (.int (nI n)), none] [] (zk_mk I' tg) P
      rw [u162_2]
      simp only [u162_0, u162_1, u162_3, u162_4, u162_7, u162_10, u162_11, u162_14, u162_15, u162_16, u162_17, u162_20, u162_21, u162_24, u162_27, u162_28, u162_30, u162_31, u162_34, u162_37, u162_38, u162_41, u162_42, u162_43, u162_44, u162_45, u162_48, u162_49, u162_50, u162_51, u162_52, u162_54, u162_55, u162_58, u162_61, u162_62, u162_63, u162_64, u162_65, u162_66, u162_67, u162_70, u162_71, u162_74, u162_75, u162_76, u162_77, u162_78, u162_81, u162_82, u162_83, u162_84, u162_85, u162_86, u162_89, u162_90, u162_91, u162_92, u162_93, u162_96, u162_97, u162_98, u162_99, u162_102, u162_103, u162_104, u162_105, u162_106, u162_107, u162_110, u162_113, u162_116, u162_119, zk_mk_1, zk_mk_I, zk_mk_R, zk_mk_set, zk_mk_setR, zk_mk_cpy, zk_rv_some, zk_rv_none, Option.toList_some, Option.toList_none, List.cons_append, List.nil_append, reduceIte, eq_self, Nat.reduceLT, Nat.reduceEqDiff, and_true, true_and, reduceCtorEq, zsh_60, e60, hn]
      rw [if_pos (nI_le (Nat.le_refl _) (by omega))]
      exact loop2 none 0 (I', none) (Nat.zero_le _) ⟨h1, h2, fun h hh => absurd hh (Nat.not_lt_zero _)⟩) (by
      rintro i I' hi ⟨h1, h2⟩ ih
      have e60 : I' 60 = I 60 := h1 60 rfl
      show zk_R sc (d + 5) 162 2 [some (.ref (60 : Nat)), some (.int (nI i)), none] [] (zk_mk I' tg) P
      rw [u162_2]
      simp only [u162_0, u162_1, u162_3, u162_4, u162_7, u162_10, u162_11, u162_14, u162_15, u162_16, u162_17, u162_20, u162_21, u162_24, u162_27, u162_28, u162_30, u162_31, u162_34, u162_37, u162_38, u162_41, u162_42, u162_43, u162_44, u162_45, u162_48, u162_49, u162_50, u162_51, u162_52, u162_54, u162_55, u162_58, u162_61, u162_62, u162_63, u162_64, u162_65, u162_66, u162_67, u162_70, u162_71, u162_74, u162_75, u162_76, u162_77, u162_78, u162_81, u162_82, u162_83, u162_84, u162_85, u162_86, u162_89, u162_90, u162_91, u162_92, u162_93, u162_96, u162_97, u162_98, u162_99, u162_102, u162_103, u162_104, u162_105, u162_106, u162_107, u162_110, u162_113, u162_116, u162_119, zk_mk_1, zk_mk_I, zk_mk_R, zk_mk_set, zk_mk_setR, zk_mk_cpy, zk_rv_some, zk_rv_none, Option.toList_some, Option.toList_none, List.cons_append, List.nil_append, reduceIte, eq_self, Nat.reduceLT, Nat.reduceEqDiff, and_true, true_and, reduceCtorEq, zsh_60, zsh_77, zrf_60_30, e60, hn]
      rw [if_neg (nI_ge hi (by omega))]
      refine s156 (h1.tab hj) ht (by rw [e60]; exact hr) hi (h1.text ht hx) (fun I2 hz => ?_)
      simp only [u162_0, u162_1, u162_3, u162_4, u162_7, u162_10, u162_11, u162_14, u162_15, u162_16, u162_17, u162_20, u162_21, u162_24, u162_27, u162_28, u162_30, u162_31, u162_34, u162_37, u162_38, u162_41, u162_42, u162_43, u162_44, u162_45, u162_48, u162_49, u162_50, u162_51, u162_52, u162_54, u162_55, u162_58, u162_61, u162_62, u162_63, u162_64, u162_65, u162_66, u162_67, u162_70, u162_71, u162_74, u162_75, u162_76, u162_77, u162_78, u162_81, u162_82, u162_83, u162_84, u162_85, u162_86, u162_89, u162_90, u162_91, u162_92, u162_93, u162_96, u162_97, u162_98, u162_99, u162_102, u162_103, u162_104, u162_105, u162_106, u162_107, u162_110, u162_113, u162_116, u162_119, zk_mk_1, zk_mk_I, zk_mk_R, zk_mk_set, zk_mk_setR, zk_mk_cpy, zk_rv_some, zk_rv_none, Option.toList_some, Option.toList_none, List.cons_append, List.nil_append, reduceIte, eq_self, Nat.reduceLT, Nat.reduceEqDiff, and_true, true_and, reduceCtorEq, zsh_60, zsh_77]
      simp (disch := omega) only [zn_in, zn_cl, nI_1]
      refine ⟨by omega, ?_⟩
      refine ih _ ⟨(h1.trans hz.F).up rfl, fun c hc => ?_⟩
      rw [h1.cnt, zk_up2_i, h1 64 rfl, zj_side hj hi]
      by_cases hci : c = i
      · rw [if_pos hci, hci]; rfl
      · rw [if_neg hci, hz 77 (by decide) (by decide)]; exact h2 c (by omega))
  simp only [u162_0, u162_1, u162_3, u162_4, u162_7, u162_10, u162_11, u162_14, u162_15, u162_16, u162_17, u162_20, u162_21, u162_24, u162_27, u162_28, u162_30, u162_31, u162_34, u162_37, u162_38, u162_41, u162_42, u162_43, u162_44, u162_45, u162_48, u162_49, u162_50, u162_51, u162_52, u162_54, u162_55, u162_58, u162_61, u162_62, u162_63, u162_64, u162_65, u162_66, u162_67, u162_70, u162_71, u162_74, u162_75, u162_76, u162_77, u162_78, u162_81, u162_82, u162_83, u162_84, u162_85, u162_86, u162_89, u162_90, u162_91, u162_92, u162_93, u162_96, u162_97, u162_98, u162_99, u162_102, u162_103, u162_104, u162_105, u162_106, u162_107, u162_110, u162_113, u162_116, u162_119, zk_mk_1, zk_mk_I, zk_mk_R, zk_mk_set, zk_mk_setR, zk_mk_cpy, zk_rv_some, zk_rv_none, Option.toList_some, Option.toList_none, List.cons_append, List.nil_append, reduceIte, eq_self, Nat.reduceLT, Nat.reduceEqDiff, and_true, true_and, reduceCtorEq]
  exact loop 0 I (Nat.zero_le _) ⟨zF_refl I, fun c hc => absurd hc (Nat.not_lt_zero _)⟩
