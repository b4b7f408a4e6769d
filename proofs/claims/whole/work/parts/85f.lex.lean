/-! the tokens of a tape: where one begins, where it ends, which it is -/
def zj_tp (I : Nat → Nat → Int32) (m : Nat) (B : Nat → Nat) : Prop := I 11 1 = nI m ∧ m ≤ 160 ∧ ∀ j, j < m → I 12 j = nI (B j) ∧ B j < 256
def zby (m : Nat) (B : Nat → Nat) (p : Nat) : Int32 := if p < m then nI (B p) else -1
/-- behind a run of bytes of a range -/
def zrn (m : Nat) (B : Nat → Nat) (lo hi : Nat) : Nat → Nat → Nat
  | 0, p => p
  | f + 1, p => if p < m ∧ lo ≤ B p ∧ B p ≤ hi then zrn m B lo hi f (p + 1) else p
/-- behind spaces -/
def zsk (m : Nat) (B : Nat → Nat) : Nat → Nat → Nat
  | 0, p => p
  | f + 1, p => if p < m ∧ (B p = 32 ∨ B p = 10) then zsk m B f (p + 1) else p
theorem zrn_le {m : Nat} {B : Nat → Nat} {lo hi : Nat} : ∀ f p, p ≤ m → p ≤ zrn m B lo hi f p ∧ zrn m B lo hi f p ≤ m
  | 0, p, h => ⟨Nat.le_refl _, h⟩
  | f + 1, p, h => by
    rw [zrn]
    split
    · next c =>
      have := zrn_le (m := m) (B := B) (lo := lo) (hi := hi) f (p + 1) c.1
      omega
    · omega
theorem zsk_le {m : Nat} {B : Nat → Nat} : ∀ f p, p ≤ m → p ≤ zsk m B f p ∧ zsk m B f p ≤ m
  | 0, p, h => ⟨Nat.le_refl _, h⟩
  | f + 1, p, h => by
    rw [zsk]
    split
    · next c =>
      have := zsk_le (m := m) (B := B) f (p + 1) c.1
      omega
    · omega
theorem zrn_stop {m : Nat} {B : Nat → Nat} {lo hi : Nat} : ∀ f p, p ≤ m → m - p ≤ f → ¬ (zrn m B lo hi f p < m ∧ lo ≤ B (zrn m B lo hi f p) ∧ B (zrn m B lo hi f p) ≤ hi)
  | 0, p, h, hf => by
    show ¬ (p < m ∧ _)
    omega
  | f + 1, p, h, hf => by
    rw [zrn]
    by_cases c : p < m ∧ lo ≤ B p ∧ B p ≤ hi
    · rw [if_pos c]
      exact zrn_stop f (p + 1) c.1 (by omega)
    · rw [if_neg c]; exact c
theorem zsk_stop {m : Nat} {B : Nat → Nat} : ∀ f p, p ≤ m → m - p ≤ f → ¬ (zsk m B f p < m ∧ (B (zsk m B f p) = 32 ∨ B (zsk m B f p) = 10))
  | 0, p, h, hf => by
    show ¬ (p < m ∧ _)
    omega
  | f + 1, p, h, hf => by
    rw [zsk]
    by_cases c : p < m ∧ (B p = 32 ∨ B p = 10)
    · rw [if_pos c]
      exact zsk_stop f (p + 1) c.1 (by omega)
    · rw [if_neg c]; exact c
theorem s104 {sc : zk_X} {d : Nat} {I : Nat → Nat → Int32} {tg : Option Nat} {P : Option Value → zk_M → Prop} {m p : Nat} {B : Nat → Nat} (h : zj_tp I m B) (hp : p < 1000) : zk_R sc d 104 0 [some (.ref (11 : Nat)), some (.int (nI p))] [] (zk_mk I tg) P = P (some (.int (zby m B p))) (zk_mk I tg) := by
  obtain ⟨h1, h2, h3⟩ := h
  have n0 : ¬ nI p < 0 := by rw [zn_neg (by omega)]; exact id
  have n0' : 0 ≤ nI p := Int32.not_lt.mp n0
  unfold zby
  by_cases c : p < m
  · have c1 : nI p < nI m := by rw [zn_lt (by omega) (by omega)]; exact c
    have c2 : ¬ nI m ≤ nI p := Int32.not_le.mpr c1
    have c3 : nI p < 160 := by rw [show (160 : Int32) = nI 160 from rfl, zn_lt (by omega) (by decide)]; omega
    have c4 : ¬ 160 ≤ nI p := Int32.not_le.mpr c3
    have z1 : zk_inb (nI p) 160 = true := by rw [zn_in (by omega)]; omega
    have z2 : (nI p).toNatClampNeg = p := zn_cl (by omega)
    rw [if_pos c]
    simp only [u104_0, u104_1, u104_4, u104_5, u104_6, u104_9, u104_12, u104_13, u104_16, u104_19, u104_20, u104_23, u104_24, u104_25, u104_28, u104_29, zk_mk_1, zk_mk_I, zk_mk_R, zk_mk_set, zk_mk_setR, zk_mk_cpy, zk_rv_some, zk_rv_none, Option.toList_some, Option.toList_none, List.cons_append, List.nil_append, reduceIte, eq_self, Nat.reduceLT, Nat.reduceEqDiff, and_true, true_and, reduceCtorEq, zsh_11, zsh_12, zrf_11_0, h1, n0, n0', c1, c2, c3, c4, z1, z2, (h3 p c).1]
  · have c2 : nI m ≤ nI p := by rw [zn_le (by omega) (by omega)]; omega
    have c1 : ¬ nI p < nI m := Int32.not_lt.mpr c2
    rw [if_neg c]
    simp only [u104_0, u104_1, u104_4, u104_5, u104_6, u104_9, u104_12, u104_13, u104_16, u104_19, u104_20, u104_23, u104_24, u104_25, u104_28, u104_29, zk_mk_1, zk_mk_I, zk_mk_R, zk_mk_set, zk_mk_setR, zk_mk_cpy, zk_rv_some, zk_rv_none, Option.toList_some, Option.toList_none, List.cons_append, List.nil_append, reduceIte, eq_self, Nat.reduceLT, Nat.reduceEqDiff, and_true, true_and, reduceCtorEq, zsh_11, h1, n0, n0', c1, c2]
theorem zby_ge {m p lo : Nat} {B : Nat → Nat} (hlo : 0 < lo) (h : ∀ j, j < m → B j < 256) : (nI lo ≤ zby m B p) = (p < m ∧ lo ≤ B p) ∨ 256 ≤ lo := by
  by_cases hl : lo < 256
  · refine Or.inl ?_
    unfold zby
    by_cases c : p < m
    · rw [if_pos c, zn_le (by omega) (by have := h p c; omega)]
      apply propext
      exact ⟨fun q => ⟨c, q⟩, fun q => q.2⟩
    · rw [if_neg c]
      apply propext
      constructor
      · intro q
        have := Int32.le_iff_toInt_le.mp q
        rw [nI_toInt (by omega), show (-1 : Int32).toInt = -1 from by decide] at this
        omega
      · intro q; exact absurd q.1 c
  · exact Or.inr (by omega)
theorem zby_le {m p hi : Nat} {B : Nat → Nat} (hh : hi < 256) (c : p < m) (h : ∀ j, j < m → B j < 256) : (zby m B p ≤ nI hi) = (B p ≤ hi) := by
  unfold zby
  rw [if_pos c, zn_le (by have := h p c; omega) (by omega)]
theorem s105 {sc : zk_X} {d : Nat} {I : Nat → Nat → Int32} {tg : Option Nat} {P : Option Value → zk_M → Prop} {m s lo hi : Nat} {B : Nat → Nat} (h : zj_tp I m B) (hs : s ≤ m) (hat : I 11 5 = nI s) (hlo : 0 < lo) (hlh : lo ≤ hi) (hhi : hi < 256) : zk_R sc (d + 1) 105 0 [some (.ref (11 : Nat)), some (.int (nI lo)), some (.int (nI hi)), none, none] [] (zk_mk I tg) P = P (some (.int (nI (zrn m B lo hi 160 s)))) (zk_mk I tg) := by
  refine zk_R_det ?_ P
  obtain ⟨h1, h2, h3⟩ := id h
  have hb : ∀ j, j < m → B j < 256 := fun j hj => (h3 j hj).2
  have loop : ∀ f i p, i + f = 160 → p ≤ m → zk_R sc (d + 1) 105 8 [some (.ref (11 : Nat)), some (.int (nI lo)), some (.int (nI hi)), some (.int (nI p)), some (.int (nI i))] [] (zk_mk I tg) (fun r M' => r = some (.int (nI (zrn m B lo hi f p))) ∧ M' = zk_mk I tg) := by
    intro f
    induction f with
    | zero =>
      intro i p hi2 hp
      have e : i = 160 := by omega
      subst e
      rw [u105_8]
      have hcond : (160 : Int32) ≤ nI 160 := by decide
      simp only [u105_0, u105_1, u105_4, u105_5, u105_6, u105_10, u105_13, u105_16, u105_17, u105_18, u105_21, u105_22, u105_25, u105_26, u105_27, u105_30, u105_31, u105_34, u105_37, u105_40, u105_43, u105_44, zk_mk_1, zk_mk_I, zk_mk_R, zk_mk_set, zk_mk_setR, zk_mk_cpy, zk_rv_some, zk_rv_none, Option.toList_some, Option.toList_none, List.cons_append, List.nil_append, reduceIte, eq_self, Nat.reduceLT, Nat.reduceEqDiff, and_true, true_and, reduceCtorEq, hcond]
      first | rfl | trivial
    | succ f ih =>
      intro i p hi2 hp
      have hcond : ¬ (160 : Int32) ≤ nI i := nI_ge (b := 160) (by omega) (by decide)
      have g := (zby_ge (m := m) (p := p) (lo := lo) (B := B) hlo hb).resolve_right (by omega)
      rw [u105_8]
      simp only [u105_0, u105_1, u105_4, u105_5, u105_6, u105_10, u105_13, u105_16, u105_17, u105_18, u105_21, u105_22, u105_25, u105_26, u105_27, u105_30, u105_31, u105_34, u105_37, u105_40, u105_43, u105_44, zk_mk_1, zk_mk_I, zk_mk_R, zk_mk_set, zk_mk_setR, zk_mk_cpy, zk_rv_some, zk_rv_none, Option.toList_some, Option.toList_none, List.cons_append, List.nil_append, reduceIte, eq_self, Nat.reduceLT, Nat.reduceEqDiff, and_true, true_and, reduceCtorEq, zsh_11, hcond, s104 h (show p < 1000 by omega), nI_1]
      rw [zrn]
      by_cases c1 : p < m ∧ lo ≤ B p
      · have k1 : nI lo ≤ zby m B p := by rw [g]; exact c1
        have k2 : ¬ zby m B p < nI lo := Int32.not_lt.mpr k1
        rw [if_neg k2]
        by_cases c2 : B p ≤ hi
        · have k3 : zby m B p ≤ nI hi := by rw [zby_le hhi c1.1 hb]; exact c2
          have k4 : ¬ nI hi < zby m B p := Int32.not_lt.mpr k3
          first | rw [if_neg k4] | rw [if_pos k3]
          rw [if_pos ⟨c1.1, c1.2, c2⟩]
          exact ih (i + 1) (p + 1) (by omega) c1.1
        · have k3 : ¬ zby m B p ≤ nI hi := by rw [zby_le hhi c1.1 hb]; exact c2
          have k4 : nI hi < zby m B p := Int32.not_le.mp k3
          first | rw [if_pos k4] | rw [if_neg k3]
          rw [if_neg (fun q => c2 q.2.2)] <;> trivial
      · have k1 : ¬ nI lo ≤ zby m B p := by rw [g]; exact c1
        have k2 : zby m B p < nI lo := Int32.not_le.mp k1
        rw [if_pos k2, if_neg (fun q => c1 ⟨q.1, q.2.1⟩)] <;> trivial
  simp only [u105_0, u105_1, u105_4, u105_5, u105_6, u105_10, u105_13, u105_16, u105_17, u105_18, u105_21, u105_22, u105_25, u105_26, u105_27, u105_30, u105_31, u105_34, u105_37, u105_40, u105_43, u105_44, zk_mk_1, zk_mk_I, zk_mk_R, zk_mk_set, zk_mk_setR, zk_mk_cpy, zk_rv_some, zk_rv_none, Option.toList_some, Option.toList_none, List.cons_append, List.nil_append, reduceIte, eq_self, Nat.reduceLT, Nat.reduceEqDiff, and_true, true_and, reduceCtorEq, zsh_11, hat]
  exact loop 160 0 s rfl hs
