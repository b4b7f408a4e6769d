/-! question: the candidates, and what asking costs at worst -/
def zgat (f : Nat → Int32) (n : Nat) (sum : Int32) : Nat → Nat × (Nat → Nat)
  | 0 => (0, fun _ => 0)
  | h + 1 => if zsum f h n = sum then ((zgat f n sum h).1 + 1, zgu (zgat f n sum h).2 (zgat f n sum h).1 h) else zgat f n sum h
theorem zgat_le (f : Nat → Int32) (n : Nat) (sum : Int32) : ∀ h, (zgat f n sum h).1 ≤ h ∧ ∀ j, j < (zgat f n sum h).1 → (zgat f n sum h).2 j < h
  | 0 => ⟨Nat.le_refl _, fun j hj => absurd hj (Nat.not_lt_zero _)⟩
  | h + 1 => by
    obtain ⟨i1, i2⟩ := zgat_le f n sum h
    rw [zgat]
    by_cases c : zsum f h n = sum
    · rw [if_pos c]
      refine ⟨by show (zgat f n sum h).1 + 1 ≤ h + 1; omega, fun j hj => ?_⟩
      have hj : j < (zgat f n sum h).1 + 1 := hj
      show zgu (zgat f n sum h).2 (zgat f n sum h).1 h j < h + 1
      unfold zgu
      by_cases e : j = (zgat f n sum h).1
      · rw [if_pos e]; omega
      · rw [if_neg e]; have := i2 j (by omega); omega
    · rw [if_neg c]
      exact ⟨by omega, fun j hj => by have := i2 j hj; omega⟩
theorem zgat_mono (f : Nat → Int32) (n : Nat) (sum : Int32) (h : Nat) : ∀ k, (zgat f n sum h).1 ≤ (zgat f n sum (h + k)).1
  | 0 => Nat.le_refl _
  | k + 1 => by
    have := zgat_mono f n sum h k
    show _ ≤ (zgat f n sum (h + k + 1)).1
    rw [zgat]
    split
    · show _ ≤ (zgat f n sum (h + k)).1 + 1; omega
    · exact this
theorem s81 {sc : zk_X} {d : Nat} {I : Nat → Nat → Int32} {tg : Option Nat} {P : Option Value → zk_M → Prop} {n : Nat} {f : Nat → Int32} {sum : Int32} (h10 : n ≤ 10) (hall : I 15 3 = nI (2 ^ n - 1)) (hs : ∀ h, h < 2 ^ n → I 18 h = zsum f h n)
    (K : ∀ I' : Nat → Nat → Int32, (∀ j, j ≠ 23 → I' j = I j) → (∀ j, j < (zgat f n sum (2 ^ n)).1 → j < 12 → I' 23 j = nI ((zgat f n sum (2 ^ n)).2 j)) → P (some (.int (nI (zgat f n sum (2 ^ n)).1))) (zk_mk I' tg)) : zk_R sc d 81 0 [some (.ref (15 : Nat)), some (.int sum), none, none] [] (zk_mk I tg) P := by
  have p10 := zp_10 h10
  have loop := zl_up (τ := Nat → Nat → Int32) (fun i I' => zk_R sc d 81 4 [some (.ref (15 : Nat)), some (.int sum), some (.int (nI (zgat f n sum i).1)), some (.int (nI i))] [] (zk_mk I' tg) P)
    (fun i I' => (∀ j, j ≠ 23 → I' j = I j) ∧ ∀ j, j < (zgat f n sum i).1 → j < 12 → I' 23 j = nI ((zgat f n sum i).2 j)) (2 ^ n) (by
      rintro I' ⟨h1, h2⟩
      have e15 : I' 15 = I 15 := h1 15 (by decide)
      have hcond : nI (2 ^ n - 1) < nI (2 ^ n) := by rw [zn_lt (by omega) (by omega)]; omega
      have hcond2 : ¬ nI (2 ^ n) ≤ nI (2 ^ n - 1) := Int32.not_le.mpr hcond
      rw [u81_4]
      simp only [u81_0, u81_1, u81_2, u81_3, u81_5, u81_6, u81_9, u81_12, u81_13, u81_16, u81_17, u81_18, u81_19, u81_22, u81_23, u81_25, u81_28, u81_29, u81_32, u81_33, u81_34, u81_35, u81_38, u81_41, u81_44, u81_45, zk_mk_1, zk_mk_I, zk_mk_R, zk_mk_set, zk_mk_setR, zk_mk_cpy, zk_rv_some, zk_rv_none, Option.toList_some, Option.toList_none, List.cons_append, List.nil_append, reduceIte, eq_self, Nat.reduceLT, Nat.reduceEqDiff, and_true, true_and, reduceCtorEq, zsh_15, e15, hall, hcond, hcond2]
      exact K I' h1 h2) (by
      rintro i I' hi ⟨h1, h2⟩ ih
      have e15 : I' 15 = I 15 := h1 15 (by decide)
      have e18 : I' 18 = I 18 := h1 18 (by decide)
      have hcond : ¬ nI (2 ^ n - 1) < nI i := by rw [zn_lt (by omega) (by omega)]; omega
      have hcond2 : nI i ≤ nI (2 ^ n - 1) := Int32.not_lt.mp hcond
      have z1 : zk_inb (nI i) 1024 = true := by rw [zn_in (by omega)]; omega
      have z2 : (nI i).toNatClampNeg = i := zn_cl (by omega)
      obtain ⟨l1, l2⟩ := zgat_le f n sum i
      rw [u81_4]
      simp only [u81_0, u81_1, u81_2, u81_3, u81_5, u81_6, u81_9, u81_12, u81_13, u81_16, u81_17, u81_18, u81_19, u81_22, u81_23, u81_25, u81_28, u81_29, u81_32, u81_33, u81_34, u81_35, u81_38, u81_41, u81_44, u81_45, zk_mk_1, zk_mk_I, zk_mk_R, zk_mk_set, zk_mk_setR, zk_mk_cpy, zk_rv_some, zk_rv_none, Option.toList_some, Option.toList_none, List.cons_append, List.nil_append, reduceIte, eq_self, Nat.reduceLT, Nat.reduceEqDiff, and_true, true_and, reduceCtorEq, zsh_15, zsh_18, zsh_23, zrf_15_2, zrf_15_8, e15, e18, hall, hcond, hcond2, z1, z2, hs i hi, nI_1]
      by_cases hc : zsum f i n = sum
      · rw [if_pos hc]
        have ek : zgat f n sum (i + 1) = ((zgat f n sum i).1 + 1, zgu (zgat f n sum i).2 (zgat f n sum i).1 i) := by rw [zgat, if_pos hc]
        rw [ek] at ih
        generalize zgat f n sum i = q at *
        by_cases hm : q.1 < 12
        · have hm1 : ¬ (12 : Int32) ≤ nI q.1 := nI_ge (b := 12) hm (by decide)
          have z3 : zk_inb (nI q.1) 12 = true := by rw [zn_in (by omega)]; omega
          have z4 : (nI q.1).toNatClampNeg = q.1 := zn_cl (by omega)
          first | rw [if_neg hm1] | rw [if_pos (Int32.not_le.mp hm1)]
          simp only [z3, z4, true_and]
          refine ih _ ⟨fun j hj => ?_, fun j hj hj2 => ?_⟩
          · rw [zk_up2_r hj]; exact h1 j hj
          · rw [zk_up2_i]
            show (if j = q.1 then nI i else I' 23 j) = nI (zgu q.2 q.1 i j)
            unfold zgu
            by_cases e : j = q.1
            · rw [if_pos e, if_pos e]
            · have hj : j < q.1 + 1 := hj
              rw [if_neg e, if_neg e]; exact h2 j (by omega) hj2
        · have hm1 : (12 : Int32) ≤ nI q.1 := nI_le (a := 12) (by omega) (by omega)
          first | rw [if_pos hm1] | rw [if_neg (Int32.not_lt.mpr hm1)]
          refine ih I' ⟨h1, fun j hj hj2 => ?_⟩
          show I' 23 j = nI (zgu q.2 q.1 i j)
          unfold zgu
          rw [if_neg (by omega)]
          exact h2 j (by omega) hj2
      · rw [if_neg hc]
        have ek : zgat f n sum (i + 1) = zgat f n sum i := by rw [zgat, if_neg hc]
        rw [ek] at ih
        exact ih I' ⟨h1, h2⟩)
  simp only [u81_0, u81_1, u81_2, u81_3, u81_5, u81_6, u81_9, u81_12, u81_13, u81_16, u81_17, u81_18, u81_19, u81_22, u81_23, u81_25, u81_28, u81_29, u81_32, u81_33, u81_34, u81_35, u81_38, u81_41, u81_44, u81_45, zk_mk_1, zk_mk_I, zk_mk_R, zk_mk_set, zk_mk_setR, zk_mk_cpy, zk_rv_some, zk_rv_none, Option.toList_some, Option.toList_none, List.cons_append, List.nil_append, reduceIte, eq_self, Nat.reduceLT, Nat.reduceEqDiff, and_true, true_and, reduceCtorEq]
  exact loop 0 I (Nat.zero_le _) ⟨fun _ _ => rfl, fun j hj => absurd hj (Nat.not_lt_zero _)⟩
/-- of the candidates those in which a card is -/
def zhd (cand : Nat → Nat) (m c : Nat) : Nat := zset (fun i => decide (cand i / 2 ^ c % 2 = 1)) m
theorem zhd_0 {cand : Nat → Nat} {m n c : Nat} (h : ∀ j, j < m → cand j < 2 ^ n) (hc : n ≤ c) : zhd cand m c = 0 := by
  unfold zhd
  have : ∀ k, k ≤ m → zset (fun i => decide (cand i / 2 ^ c % 2 = 1)) k = 0 := by
    intro k
    induction k with
    | zero => intro _; rfl
    | succ k ih =>
      intro hk
      have hl : cand k < 2 ^ c := Nat.lt_of_lt_of_le (h k (by omega)) (Nat.pow_le_pow_right (by omega) hc)
      rw [zset, Nat.div_eq_of_lt hl, ih (by omega)]
      rfl
  exact this m (Nat.le_refl _)
/-- asking for a card among a set of candidates -/
def zqv (cost : Nat → Int32) (hd : Nat → Nat) (W : Nat → Int32) (set c : Nat) : Int32 := cost c + zmx (W (set &&& hd c)) (W (zdf set (set &&& hd c)))
def zqst (cost : Nat → Int32) (hd : Nat → Nat) (W : Nat → Int32) (set c : Nat) (s : Int32 × Int32) : Int32 × Int32 := if set &&& hd c = 0 ∨ set &&& hd c = set then s else if s.2 = -1 ∨ zqv cost hd W set c < s.1 then (zqv cost hd W set c, nI c) else s
def zqs (cost : Nat → Int32) (hd : Nat → Nat) (W : Nat → Int32) (set n : Nat) : Int32 × Int32 := zfor (zqst cost hd W set) (0, -1) n
theorem zqs_10 {cost : Nat → Int32} {hd : Nat → Nat} {W : Nat → Int32} {set n : Nat} (hn : n ≤ 10) (h : ∀ c, n ≤ c → hd c = 0) : zqs cost hd W set 10 = zqs cost hd W set n := by
  have := zfor_skip (step := zqst cost hd W set) (s0 := (0, -1)) (a := n) (10 - n) (fun c h1 _ s => by
    unfold zqst
    rw [h c h1, Nat.and_zero, if_pos (Or.inl rfl)])
  rw [show n + (10 - n) = 10 by omega] at this
  exact this
theorem s83 {sc : zk_X} {d : Nat} {I : Nat → Nat → Int32} {tg : Option Nat} {P : Option Value → zk_M → Prop} {n set : Nat} {cost : Nat → Int32} {hd : Nat → Nat} {W : Nat → Int32} (h10 : n ≤ 10) (hset : set < 4096) (hd0 : ∀ c, n ≤ c → hd c = 0) (hh : ∀ c, c < 10 → I 24 c = nI (hd c)) (hc : ∀ c, c < n → I 17 c = cost c) (hW : ∀ j, 1 ≤ j → j < set → I 25 j = W j)
    (K : ∀ I' : Nat → Nat → Int32, (∀ j, j ≠ 27 → I' j = I j) → I' 27 0 = (zqs cost hd W set n).1 → I' 27 1 = (zqs cost hd W set n).2 → P none (zk_mk I' tg)) : zk_R sc d 83 0 [some (.ref (15 : Nat)), some (.int (nI set)), some (.ref (27 : Nat)), none, none, none] [] (zk_mk I tg) P := by
  obtain ⟨b0, b1, b2, b3⟩ := zi_lit4
  obtain ⟨c0, c1, c2, c3⟩ := zi_cl4
  rw [← zqs_10 h10 hd0] at K
  have loop := zl_up (τ := (Nat → Nat → Int32) × Option Value × Option Value) (fun c q => zk_R sc d 83 10 [some (.ref (15 : Nat)), some (.int (nI set)), some (.ref (27 : Nat)), some (.int (nI c)), q.2.1, q.2.2] [] (zk_mk q.1 tg) P)
    (fun c q => (∀ j, j ≠ 27 → q.1 j = I j) ∧ q.1 27 0 = (zqs cost hd W set c).1 ∧ q.1 27 1 = (zqs cost hd W set c).2) 10 (by
      rintro ⟨I', x, y⟩ ⟨h1, h2, h3⟩
      show zk_R sc d 83 10 [some (.ref (15 : Nat)), some (.int (nI set)), some (.ref (27 : Nat)), some (.int (nI 10)), x, y] [] (zk_mk I' tg) P
      rw [u83_10]
      simp only [u83_0, u83_1, u83_2, u83_3, u83_4, u83_5, u83_6, u83_7, u83_8, u83_9, u83_11, u83_13, u83_16, u83_17, u83_18, u83_21, u83_22, u83_23, u83_24, u83_26, u83_28, u83_31, u83_33, u83_34, u83_37, u83_40, u83_41, u83_44, u83_45, u83_46, u83_47, u83_50, u83_52, u83_53, u83_54, u83_57, u83_58, u83_60, u83_61, u83_62, u83_63, u83_64, u83_67, u83_68, u83_70, u83_71, u83_72, u83_73, u83_74, u83_77, u83_79, u83_80, u83_81, u83_82, u83_85, u83_86, u83_87, u83_89, u83_90, u83_91, u83_92, u83_93, u83_94, u83_97, u83_100, zk_mk_1, zk_mk_I, zk_mk_R, zk_mk_set, zk_mk_setR, zk_mk_cpy, zk_rv_some, zk_rv_none, Option.toList_some, Option.toList_none, List.cons_append, List.nil_append, reduceIte, eq_self, Nat.reduceLT, Nat.reduceEqDiff, and_true, true_and, reduceCtorEq]
      have hcond : (10 : Int32) ≤ nI 10 := by decide
      first | rw [if_pos hcond] | rw [if_neg (Int32.not_lt.mpr hcond)]
      exact K I' h1 h2 h3) (by
      rintro c ⟨I', x, y⟩ hc10 ⟨h1, h2, h3⟩ ih
      have h1 : ∀ j, j ≠ 27 → I' j = I j := h1
      have h2 : I' 27 0 = (zqs cost hd W set c).1 := h2
      have h3 : I' 27 1 = (zqs cost hd W set c).2 := h3
      have e24 : I' 24 c = nI (hd c) := by rw [h1 24 (by decide)]; exact hh c hc10
      have e17 : c < n → I' 17 c = cost c := fun q => by rw [h1 17 (by decide)]; exact hc c q
      have e25 : ∀ j, 1 ≤ j → j < set → I' 25 j = W j := fun j j1 j2 => by rw [h1 25 (by decide)]; exact hW j j1 j2
      have z1 : zk_inb (nI c) 10 = true := by rw [zn_in (by omega)]; omega
      have z2 : (nI c).toNatClampNeg = c := zn_cl (by omega)
      have hle : set &&& hd c ≤ set := Nat.and_le_left
      have y1 : (nI (set &&& hd c) = 0) = (set &&& hd c = 0) := zn_eq (b := 0) (by omega) (by decide)
      have y2 : (nI (set &&& hd c) = nI set) = (set &&& hd c = set) := zn_eq (by omega) (by omega)
      have ek : zqs cost hd W set (c + 1) = zqst cost hd W set c (zqs cost hd W set c) := rfl
      generalize zqs cost hd W set c = s at *
      have no : zqst cost hd W set c s = s → ∀ x y, zk_R sc d 83 10 [some (.ref (15 : Nat)), some (.int (nI set)), some (.ref (27 : Nat)), some (.int (nI (c + 1))), x, y] [] (zk_mk I' tg) P := by
        intro hq x y
        exact ih (I', x, y) ⟨h1, by rw [ek, hq]; exact h2, by rw [ek, hq]; exact h3⟩
      have hcond : ¬ (10 : Int32) ≤ nI c := nI_ge (b := 10) hc10 (by decide)
      show zk_R sc d 83 10 [some (.ref (15 : Nat)), some (.int (nI set)), some (.ref (27 : Nat)), some (.int (nI c)), x, y] [] (zk_mk I' tg) P
      by_cases k1 : set &&& hd c = 0
      · rw [u83_10]
        simp only [u83_0, u83_1, u83_2, u83_3, u83_4, u83_5, u83_6, u83_7, u83_8, u83_9, u83_11, u83_13, u83_16, u83_17, u83_18, u83_21, u83_22, u83_23, u83_24, u83_26, u83_28, u83_31, u83_33, u83_34, u83_37, u83_40, u83_41, u83_44, u83_45, u83_46, u83_47, u83_50, u83_52, u83_53, u83_54, u83_57, u83_58, u83_60, u83_61, u83_62, u83_63, u83_64, u83_67, u83_68, u83_70, u83_71, u83_72, u83_73, u83_74, u83_77, u83_79, u83_80, u83_81, u83_82, u83_85, u83_86, u83_87, u83_89, u83_90, u83_91, u83_92, u83_93, u83_94, u83_97, u83_100, zk_mk_1, zk_mk_I, zk_mk_R, zk_mk_set, zk_mk_setR, zk_mk_cpy, zk_rv_some, zk_rv_none, Option.toList_some, Option.toList_none, List.cons_append, List.nil_append, reduceIte, eq_self, Nat.reduceLT, Nat.reduceEqDiff, and_true, true_and, reduceCtorEq, zsh_15, zsh_24, zrf_15_9, hcond, e24, z1, z2, zq_and, y1, y2, k1, nI_1]
        exact no (if_pos (Or.inl k1)) _ _
      · by_cases k2 : set &&& hd c = set
        · have k3 : ¬ nI set = 0 := by
            intro q
            rw [← k2] at q
            exact k1 (y1.mp q)
          rw [u83_10]
          simp only [u83_0, u83_1, u83_2, u83_3, u83_4, u83_5, u83_6, u83_7, u83_8, u83_9, u83_11, u83_13, u83_16, u83_17, u83_18, u83_21, u83_22, u83_23, u83_24, u83_26, u83_28, u83_31, u83_33, u83_34, u83_37, u83_40, u83_41, u83_44, u83_45, u83_46, u83_47, u83_50, u83_52, u83_53, u83_54, u83_57, u83_58, u83_60, u83_61, u83_62, u83_63, u83_64, u83_67, u83_68, u83_70, u83_71, u83_72, u83_73, u83_74, u83_77, u83_79, u83_80, u83_81, u83_82, u83_85, u83_86, u83_87, u83_89, u83_90, u83_91, u83_92, u83_93, u83_94, u83_97, u83_100, zk_mk_1, zk_mk_I, zk_mk_R, zk_mk_set, zk_mk_setR, zk_mk_cpy, zk_rv_some, zk_rv_none, Option.toList_some, Option.toList_none, List.cons_append, List.nil_append, reduceIte, eq_self, Nat.reduceLT, Nat.reduceEqDiff, and_true, true_and, reduceCtorEq, zsh_15, zsh_24, zrf_15_9, hcond, e24, z1, z2, zq_and, k2, k3, nI_1]
          exact no (if_pos (Or.inr k2)) _ _
        · have hcn : c < n := by
            refine Classical.byContradiction (fun q => k1 ?_)
            rw [hd0 c (by omega), Nat.and_zero]
          have hlt : set &&& hd c < set := by omega
          have hsub : zle (set &&& hd c) set := by
            rw [zle_iff]; intro i hi
            rw [Nat.testBit_and, Bool.and_eq_true] at hi
            exact hi.1
          have hzd : zdf set (set &&& hd c) < set := by
            have h5 := zdf_le set (set &&& hd c)
            refine Nat.lt_of_le_of_ne h5 (fun q => ?_)
            apply k1
            have : zle (set &&& hd c) (zdf set (set &&& hd c)) := by rw [q]; exact hsub
            have := (zle_df.mp this).2
            rw [Nat.and_self] at this
            exact this
          have hz1 : 1 ≤ zdf set (set &&& hd c) := by
            refine Nat.one_le_iff_ne_zero.mpr (fun q => k2 ?_)
            exact Nat.le_antisymm hle (zle_le q)
          have z3 : zk_inb (nI (set &&& hd c)) 4096 = true := by rw [zn_in (by omega)]; omega
          have z4 : (nI (set &&& hd c)).toNatClampNeg = set &&& hd c := zn_cl (by omega)
          have z5 : zk_inb (nI (zdf set (set &&& hd c))) 4096 = true := by rw [zn_in (by omega)]; omega
          have z6 : (nI (zdf set (set &&& hd c))).toNatClampNeg = zdf set (set &&& hd c) := zn_cl (by omega)
          have ev : cost c + (if W (set &&& hd c) < W (zdf set (set &&& hd c)) then W (zdf set (set &&& hd c)) else W (set &&& hd c)) = zqv cost hd W set c := rfl
          have hst : zqst cost hd W set c s = if s.2 = -1 ∨ zqv cost hd W set c < s.1 then (zqv cost hd W set c, nI c) else s := if_neg (fun q => q.elim k1 k2)
          have yes : (s.2 = -1 ∨ zqv cost hd W set c < s.1) → ∀ x y, zk_R sc d 83 10 [some (.ref (15 : Nat)), some (.int (nI set)), some (.ref (27 : Nat)), some (.int (nI (c + 1))), x, y] [] (zk_mk (zk_up2 (zk_up2 I' 27 0 (zqv cost hd W set c)) 27 1 (nI c)) tg) P := by
            intro hq x y
            rw [if_pos hq] at hst
            refine ih (zk_up2 (zk_up2 I' 27 0 (zqv cost hd W set c)) 27 1 (nI c), x, y) ⟨fun j hj => ?_, ?_, ?_⟩
            · show zk_up2 (zk_up2 I' 27 0 (zqv cost hd W set c)) 27 1 (nI c) j = I j
              rw [zk_up2_r hj, zk_up2_r hj]; exact h1 j hj
            · show zk_up2 (zk_up2 I' 27 0 (zqv cost hd W set c)) 27 1 (nI c) 27 0 = _
              rw [ek, hst, zk_up2_j (by decide), zk_up2_s]
            · show zk_up2 (zk_up2 I' 27 0 (zqv cost hd W set c)) 27 1 (nI c) 27 1 = _
              rw [ek, hst, zk_up2_s]
          rw [u83_10]
          simp only [u83_0, u83_1, u83_2, u83_3, u83_4, u83_5, u83_6, u83_7, u83_8, u83_9, u83_11, u83_13, u83_16, u83_17, u83_18, u83_21, u83_22, u83_23, u83_24, u83_26, u83_28, u83_31, u83_33, u83_34, u83_37, u83_40, u83_41, u83_44, u83_45, u83_46, u83_47, u83_50, u83_52, u83_53, u83_54, u83_57, u83_58, u83_60, u83_61, u83_62, u83_63, u83_64, u83_67, u83_68, u83_70, u83_71, u83_72, u83_73, u83_74, u83_77, u83_79, u83_80, u83_81, u83_82, u83_85, u83_86, u83_87, u83_89, u83_90, u83_91, u83_92, u83_93, u83_94, u83_97, u83_100, zk_mk_1, zk_mk_I, zk_mk_R, zk_mk_set, zk_mk_setR, zk_mk_cpy, zk_rv_some, zk_rv_none, Option.toList_some, Option.toList_none, List.cons_append, List.nil_append, reduceIte, eq_self, Nat.reduceLT, Nat.reduceEqDiff, and_true, true_and, reduceCtorEq, zsh_15, zsh_17, zsh_24, zsh_25, zsh_27, zrf_15_1, zrf_15_9, zrf_15_10, hcond, e24, z1, z2, zq_and, y1, y2, k1, k2, zq_andn, z3, z4, z5, z6, e17 hcn, e25 _ (show 1 ≤ set &&& hd c by omega) hlt, e25 _ hz1 hzd, ev, b0, b1, c0, c1, h2, h3, nI_1]
          by_cases m1 : s.2 = -1
          · rw [if_pos m1]
            exact yes (Or.inl m1) _ _
          · rw [if_neg m1]
            by_cases m2 : zqv cost hd W set c < s.1
            · first | rw [if_pos m2] | rw [if_neg (Int32.not_le.mpr m2)]
              exact yes (Or.inr m2) _ _
            · first | rw [if_neg m2] | rw [if_pos (Int32.not_lt.mp m2)]
              exact no (hst.trans (if_neg (fun q => q.elim m1 m2))) _ _)
  simp only [u83_0, u83_1, u83_2, u83_3, u83_4, u83_5, u83_6, u83_7, u83_8, u83_9, u83_11, u83_13, u83_16, u83_17, u83_18, u83_21, u83_22, u83_23, u83_24, u83_26, u83_28, u83_31, u83_33, u83_34, u83_37, u83_40, u83_41, u83_44, u83_45, u83_46, u83_47, u83_50, u83_52, u83_53, u83_54, u83_57, u83_58, u83_60, u83_61, u83_62, u83_63, u83_64, u83_67, u83_68, u83_70, u83_71, u83_72, u83_73, u83_74, u83_77, u83_79, u83_80, u83_81, u83_82, u83_85, u83_86, u83_87, u83_89, u83_90, u83_91, u83_92, u83_93, u83_94, u83_97, u83_100, zk_mk_1, zk_mk_I, zk_mk_R, zk_mk_set, zk_mk_setR, zk_mk_cpy, zk_rv_some, zk_rv_none, Option.toList_some, Option.toList_none, List.cons_append, List.nil_append, reduceIte, eq_self, Nat.reduceLT, Nat.reduceEqDiff, and_true, true_and, reduceCtorEq, zsh_27, b0, b1, c0, c1]
  refine loop 0 (zk_up2 (zk_up2 I 27 0 0) 27 1 (-1), none, none) (Nat.zero_le _) ⟨fun j hj => ?_, ?_, ?_⟩
  · show zk_up2 (zk_up2 I 27 0 0) 27 1 (-1) j = I j
    rw [zk_up2_r hj, zk_up2_r hj]
  · show zk_up2 (zk_up2 I 27 0 0) 27 1 (-1) 27 0 = _
    rw [zk_up2_j (by decide), zk_up2_s]; rfl
  · show zk_up2 (zk_up2 I 27 0 0) 27 1 (-1) 27 1 = _
    rw [zk_up2_s]; rfl
