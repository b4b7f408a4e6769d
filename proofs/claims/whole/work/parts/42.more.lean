/-! blame, more: by how much one card would have to count more -/
def zin (v : Nat → Int32) (c j : Nat) : Bool := decide ((v (2 * j)).toNatClampNeg / 2 ^ c % 2 = 1)
def zms (off : Int64) (inn : Bool) (q : Int64 × Bool) : Option (Int64 × Bool) := if inn = true then (if q.2 = true ∧ ¬ off = q.1 then none else some (off, true)) else if off = 0 then some q else none
def zmc (off : Nat → Int64) (inn : Nat → Bool) : Nat → Option (Int64 × Bool)
  | 0 => some (0, false)
  | j + 1 => (zmc off inn j).bind (zms (off j) (inn j))
def zfin (off : Nat → Int64) (inn : Nat → Bool) (m : Nat) : Int64 := match zmc off inn m with
  | none => 0
  | some q => q.1
def zno (x : Int64) : Int64 := if x = 0 then -4611686018427387904 else x
theorem zmc_none {off : Nat → Int64} {inn : Nat → Bool} {j : Nat} (h : zmc off inn j = none) : ∀ i, zmc off inn (j + i) = none
  | 0 => h
  | i + 1 => by
    show (zmc off inn (j + i)).bind _ = none
    rw [zmc_none h i]; rfl
theorem zmc_1 {off : Nat → Int64} {inn : Nat → Bool} : ∀ {j : Nat} {q : Int64 × Bool}, zmc off inn j = some q → (∀ i, i < j → inn i = true → off i = q.1 ∧ q.2 = true) ∧ (∀ i, i < j → inn i = false → off i = 0) ∧ (q.2 = false → q.1 = 0)
  | 0, q, h => by
    cases h
    exact ⟨fun i hi => absurd hi (Nat.not_lt_zero _), fun i hi => absurd hi (Nat.not_lt_zero _), fun _ => rfl⟩
  | j + 1, q, h => by
    rw [zmc] at h
    cases hq : zmc off inn j with
    | none => rw [hq] at h; cases h
    | some p =>
      obtain ⟨a1, a2, a3⟩ := zmc_1 hq
      rw [hq] at h
      have h' : zms (off j) (inn j) p = some q := h
      unfold zms at h'
      by_cases hi : inn j = true
      · rw [if_pos hi] at h'
        by_cases hc : p.2 = true ∧ ¬ off j = p.1
        · rw [if_pos hc] at h'; cases h'
        · rw [if_neg hc] at h'
          cases h'
          refine ⟨fun i hij hin => ?_, fun i hij hin => ?_, fun w => by cases w⟩
          · by_cases e : i = j
            · subst e; exact ⟨rfl, rfl⟩
            · obtain ⟨b1, b2⟩ := a1 i (by omega) hin
              refine ⟨?_, rfl⟩
              rw [b1]
              show p.1 = off j
              exact (Classical.not_not.mp (fun w => hc ⟨b2, w⟩)).symm
          · by_cases e : i = j
            · subst e; rw [hi] at hin; cases hin
            · exact a2 i (by omega) hin
      · rw [if_neg hi] at h'
        by_cases hc : off j = 0
        · rw [if_pos hc] at h'
          cases h'
          refine ⟨fun i hij hin => ?_, fun i hij hin => ?_, a3⟩
          · by_cases e : i = j
            · subst e; exact absurd hin hi
            · exact a1 i (by omega) hin
          · by_cases e : i = j
            · subst e; exact hc
            · exact a2 i (by omega) hin
        · rw [if_neg hc] at h'; cases h'
theorem zmc_2 {off : Nat → Int64} {inn : Nat → Bool} {y : Int64} : ∀ {m : Nat}, (∀ i, i < m → off i = if inn i = true then y else 0) → (zmc off inn m = some (0, false) ∧ ∀ i, i < m → inn i = false) ∨ zmc off inn m = some (y, true)
  | 0, _ => Or.inl ⟨rfl, fun i hi => absurd hi (Nat.not_lt_zero _)⟩
  | m + 1, h => by
    have ih := zmc_2 (m := m) (fun i hi => h i (by omega))
    have hm := h m (by omega)
    rw [zmc]
    by_cases hi : inn m = true
    · rw [if_pos hi] at hm
      refine Or.inr ?_
      rcases ih with ⟨ih, _⟩ | ih
      · rw [ih]
        show zms (off m) (inn m) (0, false) = _
        unfold zms
        rw [if_pos hi, if_neg (fun w => by cases w.1), hm]
      · rw [ih]
        show zms (off m) (inn m) (y, true) = _
        unfold zms
        rw [if_pos hi, if_neg (fun w => w.2 hm), hm]
    · rw [if_neg hi] at hm
      rcases ih with ⟨ih, ih2⟩ | ih
      · refine Or.inl ⟨?_, fun i hij => ?_⟩
        · rw [ih]
          show zms (off m) (inn m) (0, false) = _
          unfold zms
          rw [if_neg hi, if_pos hm]
        · by_cases e : i = m
          · subst e; cases hv : inn i with
            | true => exact absurd hv hi
            | false => rfl
          · exact ih2 i (by omega)
      · refine Or.inr ?_
        rw [ih]
        show zms (off m) (inn m) (y, true) = _
        unfold zms
        rw [if_neg hi, if_pos hm]
theorem zfin_a {off : Nat → Int64} {inn : Nat → Bool} {m : Nat} (h : ∀ j, j < m → off j = 0) : zfin off inn m = 0 := by
  unfold zfin
  rcases zmc_2 (off := off) (inn := inn) (y := 0) (m := m) (fun i hi => by rw [h i hi]; split <;> rfl) with ⟨h, _⟩ | h <;> rw [h]
theorem zfin_b {off : Nat → Int64} {inn : Nat → Bool} {m k0 : Nat} (hk : k0 < m) (h0 : ¬ off k0 = 0) (h : ∀ j, j < m → off j = if inn j = true then off k0 else 0) : zfin off inn m = off k0 := by
  unfold zfin
  rcases zmc_2 (m := m) h with ⟨h1, h2⟩ | h1
  · exfalso
    have := h k0 hk
    rw [h2 k0 hk, if_neg (by decide)] at this
    exact h0 this
  · rw [h1]
theorem zfin_c {off : Nat → Int64} {inn : Nat → Bool} {m k0 j0 : Nat} (hk : k0 < m) (h0 : ¬ off k0 = 0) (hj : j0 < m) (h : ¬ off j0 = if inn j0 = true then off k0 else 0) : zfin off inn m = 0 := by
  unfold zfin
  cases hq : zmc off inn m with
  | none => rfl
  | some q =>
    show q.1 = 0
    obtain ⟨a1, a2, a3⟩ := zmc_1 hq
    exfalso
    have hin : inn k0 = true := by
      cases hv : inn k0 with
      | true => rfl
      | false => exact absurd (a2 k0 hk hv) h0
    apply h
    cases hv : inn j0 with
    | true => rw [if_pos rfl, (a1 j0 hj hv).1, (a1 k0 hk hin).1]
    | false => rw [if_neg (by decide)]; exact a2 j0 hj hv
theorem zfin_no {off : Nat → Int64} {inn : Nat → Bool} {m : Nat} (h : ∀ j, ¬ off j = -4611686018427387904) : ¬ zfin off inn m = -4611686018427387904 := by
  have key : ∀ m q, zmc off inn m = some q → ¬ q.1 = -4611686018427387904 := by
    intro m
    induction m with
    | zero => intro q hq; cases hq; decide
    | succ m ih =>
      intro q hq
      rw [zmc] at hq
      cases hp : zmc off inn m with
      | none => rw [hp] at hq; cases hq
      | some p =>
        rw [hp] at hq
        have h' : zms (off m) (inn m) p = some q := hq
        have ihp := ih p hp
        unfold zms at h'
        split at h'
        · split at h'
          · cases h'
          · cases h'; exact h m
        · split at h'
          · cases h'; exact ihp
          · cases h'
  unfold zfin
  cases hq : zmc off inn m with
  | none => exact (by decide : ¬ (0 : Int64) = -4611686018427387904)
  | some q => exact key m q hq
def zmore (f : Nat → Int32) (n : Nat) (v : Nat → Int32) (m c : Nat) : Int64 := zfin (zoff f n v) (zin v c) m
theorem zno_no {f : Nat → Int32} {n : Nat} {v : Nat → Int32} {m c : Nat} : (zno (zmore f n v m c) = -4611686018427387904) = (zmore f n v m c = 0) := by
  apply propext
  unfold zno
  constructor
  · intro h
    by_cases h0 : zmore f n v m c = 0
    · exact h0
    · rw [if_neg h0] at h
      exact absurd h (zfin_no (fun j => zoff_no f n v j))
  · intro h; rw [if_pos h]
theorem s41 {sc : zk_X} {d : Nat} {I : Nat → Nat → Int32} {tg : Option Nat} {P : Option Value → zk_M → Prop} {n k c : Nat} {Z : Nat → Nat} {f : Nat → Int32} (h10 : n ≤ 10) (hz : zj_sh I Z) (hk : k < 4) (hcn : c < 32) (he : Z k % 2 = 0) (hg : zgood n (I (53 + 2 * k)) (Z k / 2) = true) (hc : ∀ c, c < n → I 16 c = f c) : zk_R sc (d + 1) 41 0 [some (.ref (0 : Nat)), some (.ref (52 + 2 * k)), some (.int (nI c)), none, none, none, none, none, none, none, none] [] (zk_mk I tg) P = P (some (.long (zno (zmore f n (I (53 + 2 * k)) (Z k / 2) c)))) (zk_mk I tg) := by
  refine zk_R_det ?_ P
  have p10 := zp_10 h10
  obtain ⟨x1, x2⟩ := zx_s hk tg
  obtain ⟨x3, x4, x5, x6⟩ := zx_s1 hk
  obtain ⟨q1, q2, q3, q4, q5⟩ := hz k hk
  have loop := zl_up (τ := Int64 × Bool × Option Value × Option Value × Option Value × Option Value) (fun i q => zk_R sc (d + 1) 41 8 [some (.ref (0 : Nat)), some (.ref (52 + 2 * k)), some (.int (nI c)), some (.long q.1), none, some (.int (if q.2.1 = true then 1 else 0)), some (.int (nI (2 * i))), q.2.2.1, q.2.2.2.1, q.2.2.2.2.1, q.2.2.2.2.2] [] (zk_mk I tg) (fun r M' => r = some (.long (zno (zmore f n (I (53 + 2 * k)) (Z k / 2) c))) ∧ M' = zk_mk I tg))
    (fun i q => zmc (zoff f n (I (53 + 2 * k))) (zin (I (53 + 2 * k)) c) i = some (q.1, q.2.1)) (Z k / 2) (by
      rintro ⟨x, b, y1, y2, y3, y4⟩ hw
      have hw' : zmc (zoff f n (I (53 + 2 * k))) (zin (I (53 + 2 * k)) c) (Z k / 2) = some (x, b) := hw
      have ef : zmore f n (I (53 + 2 * k)) (Z k / 2) c = x := by unfold zmore zfin; rw [hw']
      show zk_R sc (d + 1) 41 8 [some (.ref (0 : Nat)), some (.ref (52 + 2 * k)), some (.int (nI c)), some (.long x), none, some (.int (if b = true then 1 else 0)), some (.int (nI (2 * (Z k / 2)))), y1, y2, y3, y4] [] (zk_mk I tg) _
      rw [u41_8]
      simp only [u41_0, u41_1, u41_2, u41_3, u41_5, u41_6, u41_10, u41_11, u41_12, u41_13, u41_16, u41_19, u41_20, u41_23, u41_25, u41_26, u41_28, u41_29, u41_32, u41_34, u41_35, u41_36, u41_37, u41_38, u41_39, u41_42, u41_44, u41_47, u41_48, u41_49, u41_51, u41_53, u41_54, u41_55, u41_56, u41_57, u41_58, u41_61, u41_62, u41_65, u41_66, u41_68, u41_70, u41_73, u41_75, u41_76, u41_77, u41_80, u41_82, u41_85, u41_87, u41_90, u41_92, u41_93, u41_94, u41_97, u41_100, u41_101, u41_103, u41_106, u41_108, u41_109, u41_110, u41_112, u41_115, u41_118, u41_119, u41_120, u41_121, u41_124, u41_127, u41_130, u41_131, zk_mk_1, zk_mk_I, zk_mk_R, zk_mk_set, zk_mk_setR, zk_mk_cpy, zk_rv_some, zk_rv_none, Option.toList_some, Option.toList_none, List.cons_append, List.nil_append, reduceIte, eq_self, Nat.reduceLT, Nat.reduceEqDiff, and_true, true_and, reduceCtorEq, x2, x3, x4, x5, x6, q2, nI_1, zcmp0, ef]
      rw [if_pos (nI_le (by omega) (by omega))]
      unfold zno
      by_cases h0 : x = 0
      · rw [if_pos h0, if_pos h0] <;> trivial
      · rw [if_neg h0, if_neg h0] <;> trivial) (by
      rintro i ⟨x, b, y1, y2, y3, y4⟩ hi hw ih
      have hw' : zmc (zoff f n (I (53 + 2 * k))) (zin (I (53 + 2 * k)) c) i = some (x, b) := hw
      obtain ⟨h, hh, eh⟩ := zg_of h10 hg hi
      have z1 : zk_inb (nI (2 * i)) 40 = true := by rw [zn_in (by omega)]; omega
      have z2 : (nI (2 * i)).toNatClampNeg = 2 * i := zn_cl (by omega)
      have z3 : zk_inb (nI (2 * i + 1)) 40 = true := by rw [zn_in (by omega)]; omega
      have z4 : (nI (2 * i + 1)).toNatClampNeg = 2 * i + 1 := zn_cl (by omega)
      have ec : (I (53 + 2 * k) (2 * i)).toNatClampNeg = h := by rw [eh]; exact zn_cl (by omega)
      have eo : (I (53 + 2 * k) (2 * i + 1)).toInt64 - (zsum f h n).toInt64 = zoff f n (I (53 + 2 * k)) i := by unfold zoff; rw [ec]
      have en : zin (I (53 + 2 * k)) c i = decide (h / 2 ^ c % 2 = 1) := by unfold zin; rw [ec]
      have y5 : (nI (h / 2 ^ c % 2) = 1) = (h / 2 ^ c % 2 = 1) := zn_eq (b := 1) (by omega) (by decide)
      have go : zmc (zoff f n (I (53 + 2 * k))) (zin (I (53 + 2 * k)) c) (i + 1) = zms (zoff f n (I (53 + 2 * k)) i) (zin (I (53 + 2 * k)) c i) (x, b) := by rw [zmc, hw']; rfl
      have stop : zms (zoff f n (I (53 + 2 * k)) i) (zin (I (53 + 2 * k)) c i) (x, b) = none → zmore f n (I (53 + 2 * k)) (Z k / 2) c = 0 := by
        intro hn
        have := zmc_none (go.trans hn) (Z k / 2 - (i + 1))
        rw [show i + 1 + (Z k / 2 - (i + 1)) = Z k / 2 by omega] at this
        unfold zmore zfin
        rw [this]
      show zk_R sc (d + 1) 41 8 [some (.ref (0 : Nat)), some (.ref (52 + 2 * k)), some (.int (nI c)), some (.long x), none, some (.int (if b = true then 1 else 0)), some (.int (nI (2 * i))), y1, y2, y3, y4] [] (zk_mk I tg) _
      rw [u41_8]
      simp only [u41_0, u41_1, u41_2, u41_3, u41_5, u41_6, u41_10, u41_11, u41_12, u41_13, u41_16, u41_19, u41_20, u41_23, u41_25, u41_26, u41_28, u41_29, u41_32, u41_34, u41_35, u41_36, u41_37, u41_38, u41_39, u41_42, u41_44, u41_47, u41_48, u41_49, u41_51, u41_53, u41_54, u41_55, u41_56, u41_57, u41_58, u41_61, u41_62, u41_65, u41_66, u41_68, u41_70, u41_73, u41_75, u41_76, u41_77, u41_80, u41_82, u41_85, u41_87, u41_90, u41_92, u41_93, u41_94, u41_97, u41_100, u41_101, u41_103, u41_106, u41_108, u41_109, u41_110, u41_112, u41_115, u41_118, u41_119, u41_120, u41_121, u41_124, u41_127, u41_130, u41_131, zk_mk_1, zk_mk_I, zk_mk_R, zk_mk_set, zk_mk_setR, zk_mk_cpy, zk_rv_some, zk_rv_none, Option.toList_some, Option.toList_none, List.cons_append, List.nil_append, reduceIte, eq_self, Nat.reduceLT, Nat.reduceEqDiff, and_true, true_and, reduceCtorEq, zsh_0, zsh_15, zrf_0_7, x2, x3, x4, x5, x6, q2, nI_1, z1, z2, z3, z4, eh, s62 (show h < 2147483648 by omega), zv_sum h10 hh hc, zn_2k, zcmp0, eo, zq_bit (show h < 2147483648 by omega) hcn, y5, show ((1 : Int32) = 0) = False from by decide]
      rw [if_neg (nI_ge (by omega) (by omega))]
      generalize zoff f n (I (53 + 2 * k)) i = o at *
      by_cases hin : h / 2 ^ c % 2 = 1
      · rw [en, decide_eq_true hin] at go stop
        unfold zms at go stop
        rw [if_pos rfl] at go stop
        rw [if_pos hin]
        cases b with
        | true =>
          simp only [reduceIte, show ((1 : Int32) = 0) = False from by decide]
          by_cases ho : o = x
          · rw [if_pos ho]
            rw [if_neg (fun w => w.2 ho)] at go
            exact ih (_, true, _, _, _, _) go
          · rw [if_neg ho]
            rw [stop (if_pos ⟨rfl, ho⟩)] <;> trivial
        | false =>
          simp only [Bool.false_eq_true, reduceIte]
          rw [if_neg (fun w => by cases w.1)] at go
          exact ih (_, true, _, _, _, _) go
      · rw [en, decide_eq_false hin] at go stop
        unfold zms at go stop
        rw [if_neg (by decide)] at go stop
        rw [if_neg hin]
        by_cases ho : o = 0
        · rw [if_pos ho]
          rw [if_pos ho] at go
          exact ih (_, _, _, _, _, _) go
        · rw [if_neg ho]
          rw [stop (if_neg ho)] <;> trivial)
  simp only [u41_0, u41_1, u41_2, u41_3, u41_5, u41_6, u41_10, u41_11, u41_12, u41_13, u41_16, u41_19, u41_20, u41_23, u41_25, u41_26, u41_28, u41_29, u41_32, u41_34, u41_35, u41_36, u41_37, u41_38, u41_39, u41_42, u41_44, u41_47, u41_48, u41_49, u41_51, u41_53, u41_54, u41_55, u41_56, u41_57, u41_58, u41_61, u41_62, u41_65, u41_66, u41_68, u41_70, u41_73, u41_75, u41_76, u41_77, u41_80, u41_82, u41_85, u41_87, u41_90, u41_92, u41_93, u41_94, u41_97, u41_100, u41_101, u41_103, u41_106, u41_108, u41_109, u41_110, u41_112, u41_115, u41_118, u41_119, u41_120, u41_121, u41_124, u41_127, u41_130, u41_131, zk_mk_1, zk_mk_I, zk_mk_R, zk_mk_set, zk_mk_setR, zk_mk_cpy, zk_rv_some, zk_rv_none, Option.toList_some, Option.toList_none, List.cons_append, List.nil_append, reduceIte, eq_self, Nat.reduceLT, Nat.reduceEqDiff, and_true, true_and, reduceCtorEq]
  exact loop 0 (0, false, none, none, none, none) (Nat.zero_le _) rfl
