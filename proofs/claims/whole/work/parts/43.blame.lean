/-! blame, more, laws by both -/
theorem s196 {sc : zk_X} {d : Nat} {I : Nat → Nat → Int32} {tg : Option Nat} {P : Option Value → zk_M → Prop} {n t k c : Nat} {T e : Nat → Nat} {Z : Nat → Nat} (hj : zj_tab I n) (ht : t < 6) (hr : I 60 10 = nI t) (hx : zj_text I t T e) (hz : zj_sh I Z) (hk : k < 4) (hcn : c < 32) (hg : zgood n (I (53 + 2 * k)) (Z k / 2) = true)
    (K : ∀ I' : Nat → Nat → Int32, zF I I' → P (some (.long (zmore (zv_now I n T e) n (I (53 + 2 * k)) (Z k / 2) c))) (zk_mk I' tg)) : zk_R sc (d + 7) 196 0 [some (.ref (60 : Nat)), some (.int (nI k)), some (.int (nI c)), none, none, none, none, none] [] (zk_mk I tg) P := by
  have h10 := hj.2.2.1
  have p10 := zp_10 h10
  have y1 : zk_inb (nI k) 4 = true := by rw [zn_in (by omega)]; omega
  have y2 : (nI k).toNatClampNeg = k := zn_cl (by omega)
  simp only [u196_0, u196_1, u196_2, u196_5, u196_6, u196_7, u196_8, u196_11, u196_12, u196_13, u196_14, u196_15, u196_16, u196_19, u196_21, u196_22, u196_26, u196_27, u196_30, u196_31, u196_32, u196_33, u196_34, u196_37, u196_38, u196_41, u196_43, u196_44, u196_45, u196_46, u196_48, u196_49, u196_50, u196_51, u196_52, u196_53, u196_54, u196_55, u196_56, u196_59, u196_60, u196_63, u196_64, u196_66, u196_67, u196_68, u196_70, u196_73, u196_75, u196_78, u196_80, u196_83, u196_84, u196_85, u196_88, u196_89, u196_90, u196_93, u196_96, u196_98, zk_mk_1, zk_mk_I, zk_mk_R, zk_mk_set, zk_mk_setR, zk_mk_cpy, zk_rv_some, zk_rv_none, Option.toList_some, Option.toList_none, List.cons_append, List.nil_append, reduceIte, eq_self, Nat.reduceLT, Nat.reduceEqDiff, and_true, true_and, reduceCtorEq, zsh_60]
  refine s193 hj ht hr hx hz hk hg (fun I' h1 h3 => ?_)
  obtain ⟨q1, q2, q3, q4, q5⟩ := hz k hk
  have K2 := K I' h1
  obtain ⟨k1, k2⟩ := zs_k hk I I' h1
  have e70 : I' 70 = I 70 := h1 70 rfl
  have e71 : I' 71 = I 71 := h1 71 rfl
  have hz' := h1.sh hz
  have hg' : zgood n (I' (53 + 2 * k)) (Z k / 2) = true := by rw [k2]; exact hg
  generalize zv_now I n T e = f at *
  by_cases hall : ∀ j, j < Z k / 2 → decide (¬ zsum f (I (53 + 2 * k) (2 * j)).toNatClampNeg n = I (53 + 2 * k) (2 * j + 1)) = false
  · rw [show zwrong f n (I (53 + 2 * k)) (Z k / 2) = -1 from zfirst_no hall]
    rw [show zmore f n (I (53 + 2 * k)) (Z k / 2) c = 0 from zfin_a (fun j hj => by
      unfold zoff
      rw [zoff_0]
      have := hall j hj
      rw [decide_eq_false_iff_not, Classical.not_not] at this
      exact this)] at K2
    simp only [u196_0, u196_1, u196_2, u196_5, u196_6, u196_7, u196_8, u196_11, u196_12, u196_13, u196_14, u196_15, u196_16, u196_19, u196_21, u196_22, u196_26, u196_27, u196_30, u196_31, u196_32, u196_33, u196_34, u196_37, u196_38, u196_41, u196_43, u196_44, u196_45, u196_46, u196_48, u196_49, u196_50, u196_51, u196_52, u196_53, u196_54, u196_55, u196_56, u196_59, u196_60, u196_63, u196_64, u196_66, u196_67, u196_68, u196_70, u196_73, u196_75, u196_78, u196_80, u196_83, u196_84, u196_85, u196_88, u196_89, u196_90, u196_93, u196_96, u196_98, zk_mk_1, zk_mk_I, zk_mk_R, zk_mk_set, zk_mk_setR, zk_mk_cpy, zk_rv_some, zk_rv_none, Option.toList_some, Option.toList_none, List.cons_append, List.nil_append, reduceIte, eq_self, Nat.reduceLT, Nat.reduceEqDiff, and_true, true_and, reduceCtorEq]
    exact K2
  · obtain ⟨k0, hk0, hw0, hp0⟩ : ∃ k0, k0 < Z k / 2 ∧ (∀ j, j < k0 → decide (¬ zsum f (I (53 + 2 * k) (2 * j)).toNatClampNeg n = I (53 + 2 * k) (2 * j + 1)) = false) ∧ decide (¬ zsum f (I (53 + 2 * k) (2 * k0)).toNatClampNeg n = I (53 + 2 * k) (2 * k0 + 1)) = true := by
      have key : ∀ m, (¬ ∀ j, j < m → decide (¬ zsum f (I (53 + 2 * k) (2 * j)).toNatClampNeg n = I (53 + 2 * k) (2 * j + 1)) = false) → ∃ k0, k0 < m ∧ (∀ j, j < k0 → decide (¬ zsum f (I (53 + 2 * k) (2 * j)).toNatClampNeg n = I (53 + 2 * k) (2 * j + 1)) = false) ∧ decide (¬ zsum f (I (53 + 2 * k) (2 * k0)).toNatClampNeg n = I (53 + 2 * k) (2 * k0 + 1)) = true := by
        intro m
        induction m with
        | zero => intro h; exact absurd (fun j hj => absurd hj (Nat.not_lt_zero _)) h
        | succ m ih =>
          intro h
          by_cases h2 : ∀ j, j < m → decide (¬ zsum f (I (53 + 2 * k) (2 * j)).toNatClampNeg n = I (53 + 2 * k) (2 * j + 1)) = false
          · refine ⟨m, by omega, h2, ?_⟩
            cases hv : decide (¬ zsum f (I (53 + 2 * k) (2 * m)).toNatClampNeg n = I (53 + 2 * k) (2 * m + 1)) with
            | true => rfl
            | false => exact absurd (fun j hj => by
                by_cases e : j = m
                · subst e; exact hv
                · exact h2 j (by omega)) h
          · obtain ⟨k0, a, b⟩ := ih h2
            exact ⟨k0, by omega, b⟩
      exact key _ hall
    rw [show zwrong f n (I (53 + 2 * k)) (Z k / 2) = nI k0 from zfirst_at hk0 hw0 hp0]
    have hne : ¬ zoff f n (I (53 + 2 * k)) k0 = 0 := by
      unfold zoff
      rw [zoff_0]
      exact of_decide_eq_true hp0
    simp only [u196_0, u196_1, u196_2, u196_5, u196_6, u196_7, u196_8, u196_11, u196_12, u196_13, u196_14, u196_15, u196_16, u196_19, u196_21, u196_22, u196_26, u196_27, u196_30, u196_31, u196_32, u196_33, u196_34, u196_37, u196_38, u196_41, u196_43, u196_44, u196_45, u196_46, u196_48, u196_49, u196_50, u196_51, u196_52, u196_53, u196_54, u196_55, u196_56, u196_59, u196_60, u196_63, u196_64, u196_66, u196_67, u196_68, u196_70, u196_73, u196_75, u196_78, u196_80, u196_83, u196_84, u196_85, u196_88, u196_89, u196_90, u196_93, u196_96, u196_98, zk_mk_1, zk_mk_I, zk_mk_R, zk_mk_set, zk_mk_setR, zk_mk_cpy, zk_rv_some, zk_rv_none, Option.toList_some, Option.toList_none, List.cons_append, List.nil_append, reduceIte, eq_self, Nat.reduceLT, Nat.reduceEqDiff, and_true, true_and, reduceCtorEq, zsh_60, zn_m1 (show k0 < 2147483648 by omega), s194 h10 hz' hk hk0 hg' h3]
    rw [k2]
    have loop := zl_up (τ := Option Value) (fun i x => zk_R sc (d + 7) 196 24 [some (.ref (60 : Nat)), some (.int (nI k)), some (.int (nI c)), some (.int (nI k0)), some (.long (zoff f n (I (53 + 2 * k)) k0)), none, some (.int (nI i)), x] [] (zk_mk I' tg) P)
      (fun i _ => ∀ j, j < i → zoff f n (I (53 + 2 * k)) j = if zin (I (53 + 2 * k)) c j = true then zoff f n (I (53 + 2 * k)) k0 else 0) (Z k / 2) (by
        intro x hw
        rw [u196_24]
        simp only [u196_0, u196_1, u196_2, u196_5, u196_6, u196_7, u196_8, u196_11, u196_12, u196_13, u196_14, u196_15, u196_16, u196_19, u196_21, u196_22, u196_26, u196_27, u196_30, u196_31, u196_32, u196_33, u196_34, u196_37, u196_38, u196_41, u196_43, u196_44, u196_45, u196_46, u196_48, u196_49, u196_50, u196_51, u196_52, u196_53, u196_54, u196_55, u196_56, u196_59, u196_60, u196_63, u196_64, u196_66, u196_67, u196_68, u196_70, u196_73, u196_75, u196_78, u196_80, u196_83, u196_84, u196_85, u196_88, u196_89, u196_90, u196_93, u196_96, u196_98, zk_mk_1, zk_mk_I, zk_mk_R, zk_mk_set, zk_mk_setR, zk_mk_cpy, zk_rv_some, zk_rv_none, Option.toList_some, Option.toList_none, List.cons_append, List.nil_append, reduceIte, eq_self, Nat.reduceLT, Nat.reduceEqDiff, and_true, true_and, reduceCtorEq, zsh_60, zsh_70, zrf_60_16, y1, y2, e70, q3, zq_2, not_false_eq_true, z_div2 _ (show Z k < 41 by omega)]
        rw [if_pos (nI_le (by omega) (by omega))]
        rw [show zmore f n (I (53 + 2 * k)) (Z k / 2) c = zoff f n (I (53 + 2 * k)) k0 from zfin_b hk0 hne hw] at K2
        exact K2) (by
        intro i x hi hw ih
        obtain ⟨h, hh, eh⟩ := zg_of h10 hg hi
        have ei : (40 : Int32) * nI k + 2 * nI i = nI (40 * k + 2 * i) := by rw [show (40 : Int32) = nI 40 from rfl, show (2 : Int32) = nI 2 from rfl, zn_mul, zn_mul, zn_add]
        have z1 : zk_inb (nI (40 * k + 2 * i)) 160 = true := by rw [zn_in (by omega)]; omega
        have z2 : (nI (40 * k + 2 * i)).toNatClampNeg = 40 * k + 2 * i := zn_cl (by omega)
        have ec : (I (53 + 2 * k) (2 * i)).toNatClampNeg = h := by rw [eh]; exact zn_cl (by omega)
        have en : (zin (I (53 + 2 * k)) c i = true) = (h / 2 ^ c % 2 = 1) := by unfold zin; rw [ec, decide_eq_true_eq]
        have y5 : (nI (h / 2 ^ c % 2) = 1) = (h / 2 ^ c % 2 = 1) := zn_eq (b := 1) (by omega) (by decide)
        have bad : (¬ zoff f n (I (53 + 2 * k)) i = if zin (I (53 + 2 * k)) c i = true then zoff f n (I (53 + 2 * k)) k0 else 0) → P (some (.long 0)) (zk_mk I' tg) := by
          intro hb
          rw [show zmore f n (I (53 + 2 * k)) (Z k / 2) c = 0 from zfin_c hk0 hne hi hb] at K2
          exact K2
        have good : (zoff f n (I (53 + 2 * k)) i = if zin (I (53 + 2 * k)) c i = true then zoff f n (I (53 + 2 * k)) k0 else 0) → ∀ x, zk_R sc (d + 7) 196 24 [some (.ref (60 : Nat)), some (.int (nI k)), some (.int (nI c)), some (.int (nI k0)), some (.long (zoff f n (I (53 + 2 * k)) k0)), none, some (.int (nI (i + 1))), x] [] (zk_mk I' tg) P := by
          intro hb x
          exact ih x (fun j hj => by
            by_cases e : j = i
            · subst e; exact hb
            · exact hw j (by omega))
        rw [u196_24]
        simp only [u196_0, u196_1, u196_2, u196_5, u196_6, u196_7, u196_8, u196_11, u196_12, u196_13, u196_14, u196_15, u196_16, u196_19, u196_21, u196_22, u196_26, u196_27, u196_30, u196_31, u196_32, u196_33, u196_34, u196_37, u196_38, u196_41, u196_43, u196_44, u196_45, u196_46, u196_48, u196_49, u196_50, u196_51, u196_52, u196_53, u196_54, u196_55, u196_56, u196_59, u196_60, u196_63, u196_64, u196_66, u196_67, u196_68, u196_70, u196_73, u196_75, u196_78, u196_80, u196_83, u196_84, u196_85, u196_88, u196_89, u196_90, u196_93, u196_96, u196_98, zk_mk_1, zk_mk_I, zk_mk_R, zk_mk_set, zk_mk_setR, zk_mk_cpy, zk_rv_some, zk_rv_none, Option.toList_some, Option.toList_none, List.cons_append, List.nil_append, reduceIte, eq_self, Nat.reduceLT, Nat.reduceEqDiff, and_true, true_and, reduceCtorEq, zsh_60, zsh_70, zsh_71, zrf_60_16, zrf_60_17, y1, y2, e70, e71, q3, zq_2, not_false_eq_true, z_div2 _ (show Z k < 41 by omega), ei, z1, z2, q5 (2 * i) (by omega), eh, zq_bit (show h < 2147483648 by omega) hcn, y5, s194 h10 hz' hk hi hg' h3, nI_1, zcmp0, show ((1 : Int32) = 0) = False from by decide]
        rw [if_neg (nI_ge (by omega) (by omega)), k2]
        simp only [en] at bad good
        by_cases hin : h / 2 ^ c % 2 = 1
        · rw [if_pos hin]
          rw [if_pos hin] at bad good
          by_cases ho : zoff f n (I (53 + 2 * k)) i = zoff f n (I (53 + 2 * k)) k0
          · rw [if_pos ho]; exact good ho _
          · rw [if_neg ho]; exact bad ho
        · rw [if_neg hin]
          rw [if_neg hin] at bad good
          by_cases ho : zoff f n (I (53 + 2 * k)) i = 0
          · rw [if_pos ho]; exact good ho _
          · rw [if_neg ho]; exact bad ho)
    exact loop 0 none (Nat.zero_le _) (fun j hj => absurd hj (Nat.not_lt_zero _))
