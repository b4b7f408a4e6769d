/-! THE PROLOGUE: both objects are made; a closed run, by the kernel -/
def zk_go (sc : zk_X) (F T : Nat) : Nat → Nat → Nat → Nat → List (Option Value) → List Value → zk_M → Option (Nat × List (Option Value) × List Value × zk_M)
  | 0, _, _, _, _, _, _ => none
  | n + 1, d, m, pc, ls, st, M => bif Nat.beq pc T then some (pc, ls, st, M) else match zk_mt m with
    | none => none
    | some c => match zk_lk c.2.2.2.2.2 pc with
      | none => none
      | some i => match zk_st sc c pc i ls st M with
        | none => none
        | some (.inl (pc', ls', st', M')) => zk_go sc F T n d m pc' ls' st' M'
        | some (.inr (.inr _)) => none
        | some (.inr (.inl (y, args, rest))) => match d with
          | 0 => none
          | d + 1 => match zk_mt y with
            | none => none
            | some cy => match zk_run sc F d y 0 (zk_ent cy.2.1 args) [] M with
              | none => none
              | some (r, M') => zk_go sc F T n (d + 1) m (pc + 3) ls (r.toList ++ rest) M'
theorem zk_go_R {sc : zk_X} {F T : Nat} {P : Option Value → zk_M → Prop} : ∀ (n d m pc : Nat) (ls : List (Option Value)) (st : List Value) (M : zk_M) (pc' : Nat) (ls' : List (Option Value)) (st' : List Value) (M' : zk_M), zk_go sc F T n d m pc ls st M = some (pc', ls', st', M') → zk_R sc d m pc' ls' st' M' P → zk_R sc d m pc ls st M P := by
  intro n
  induction n with
  | zero => intro d m pc ls st M pc' ls' st' M' h; cases h
  | succ n ih =>
    intro d m pc ls st M pc' ls' st' M' h K
    rw [zk_go, cond_eq_ite] at h
    split at h
    · cases h; exact K
    · split at h
      · cases h
      · next hm =>
        split at h
        · cases h
        · next hl =>
          split at h
          · cases h
          · next hs =>
            rw [zk_R_nx hm hl hs]
            exact ih _ _ _ _ _ _ _ _ _ _ h K
          · cases h
          · next hs =>
            split at h
            · cases h
            · split at h
              · cases h
              · next hy =>
                split at h
                · cases h
                · next hr =>
                  rw [zk_R_ca hm hl hs hy]
                  exact ⟨F, _, _, hr, ih _ _ _ _ _ _ _ _ _ _ h K⟩
/-! what runs without the script runs with it -/
theorem zk_st_sc {sc : zk_X} {c : zk_C} {pc : Nat} {i : Instr} {ls : List (Option Value)} {st : List Value} {M : zk_M} {o : zk_O} (h : zk_st none c pc i ls st M = some o) : zk_st sc c pc i ls st M = some o := by
  have hx : ∀ k e, zk_ext none k = some e → zk_ext sc k = some e := by
    intro k e he
    unfold zk_ext at *
    split at he
    · cases he
    · next w => rw [if_neg w]; exact he
  cases i
  case arraylength =>
    simp only [zk_st] at h ⊢
    split at h
    · next k st1 =>
      try simp only
      split at h
      · next w => rw [if_pos w]; exact h
      · next w =>
        rw [if_neg w]
        split at h
        · next w2 =>
          rw [if_pos w2]
          split at h
          · next e he => rw [hx _ _ he]; exact h
          · cases h
        · cases h
    · cases h
  case iaload =>
    simp only [zk_st] at h ⊢
    split at h
    · next k st1 =>
      try simp only
      split at h
      · next w => rw [if_pos w]; exact h
      · next w =>
        rw [if_neg w]
        split at h
        · next w2 =>
          rw [if_pos w2]
          split at h
          · next e he => rw [hx _ _ he]; exact h
          · cases h
        · cases h
    · cases h
  all_goals exact h
theorem zk_run_sc {sc : zk_X} : ∀ (n d m pc : Nat) (ls : List (Option Value)) (st : List Value) (M : zk_M) (x : Option Value × zk_M), zk_run none n d m pc ls st M = some x → zk_run sc n d m pc ls st M = some x := by
  intro n
  induction n with
  | zero => intro d m pc ls st M x h; cases h
  | succ n ih =>
    intro d m pc ls st M x h
    rw [zk_run] at h
    rw [zk_run]
    cases h1 : zk_mt m with
    | none => simp only [h1] at h; cases h
    | some c =>
      simp only [h1] at h ⊢
      cases h2 : zk_lk c.2.2.2.2.2 pc with
      | none => simp only [h2] at h; cases h
      | some i =>
        simp only [h2] at h ⊢
        cases h3 : zk_st none c pc i ls st M with
        | none => simp only [h3] at h; cases h
        | some o =>
          have h3' := zk_st_sc (sc := sc) h3
          simp only [h3] at h
          simp only [h3']
          rcases o with ⟨pc', ls', st', M'⟩ | ⟨y, args, rest⟩ | r
          · exact ih _ _ _ _ _ _ _ h
          · cases d with
            | zero => cases h
            | succ d =>
              simp only at h ⊢
              cases h4 : zk_mt y with
              | none => simp only [h4] at h; cases h
              | some cy =>
                simp only [h4] at h ⊢
                cases h5 : zk_run none n d y 0 (zk_ent cy.2.1 args) [] M with
                | none => simp only [h5] at h; cases h
                | some z =>
                  obtain ⟨r, M'⟩ := z
                  have h5' := ih _ _ _ _ _ _ _ h5
                  simp only [h5] at h
                  simp only [h5']
                  exact ih _ _ _ _ _ _ _ h
          · exact h
theorem zk_go_sc {sc : zk_X} {F T : Nat} : ∀ (n d m pc : Nat) (ls : List (Option Value)) (st : List Value) (M : zk_M) (x : Nat × List (Option Value) × List Value × zk_M), zk_go none F T n d m pc ls st M = some x → zk_go sc F T n d m pc ls st M = some x := by
  intro n
  induction n with
  | zero => intro d m pc ls st M x h; cases h
  | succ n ih =>
    intro d m pc ls st M x h
    rw [zk_go] at h
    rw [zk_go]
    cases h0 : Nat.beq pc T with
    | true => simp only [h0, cond_true] at h ⊢; exact h
    | false =>
    simp only [h0, cond_false] at h ⊢
    cases h1 : zk_mt m with
    | none => simp only [h1] at h; cases h
    | some c =>
      simp only [h1] at h ⊢
      cases h2 : zk_lk c.2.2.2.2.2 pc with
      | none => simp only [h2] at h; cases h
      | some i =>
        simp only [h2] at h ⊢
        cases h3 : zk_st none c pc i ls st M with
        | none => simp only [h3] at h; cases h
        | some o =>
          have h3' := zk_st_sc (sc := sc) h3
          simp only [h3] at h
          simp only [h3']
          rcases o with ⟨pc', ls', st', M'⟩ | ⟨y, args, rest⟩ | r
          · exact ih _ _ _ _ _ _ _ h
          · cases d with
            | zero => cases h
            | succ d =>
              simp only at h ⊢
              cases h4 : zk_mt y with
              | none => simp only [h4] at h; cases h
              | some cy =>
                simp only [h4] at h ⊢
                cases h5 : zk_run none F d y 0 (zk_ent cy.2.1 args) [] M with
                | none => simp only [h5] at h; cases h
                | some z =>
                  obtain ⟨r, M'⟩ := z
                  have h5' := zk_run_sc (sc := sc) _ _ _ _ _ _ _ _ h5
                  simp only [h5] at h
                  simp only [h5']
                  exact ih _ _ _ _ _ _ _ h
          · cases h
/-! references stand only where there are places for them -/
def zbdd (k : Nat) : Nat := if (zk_sh k).1 = 0 then (zk_sh k).2.2 else if (zk_sh k).1 = 3 then (zk_sh k).2.1 else 0
def zk_iv (M : zk_M) : Prop := ∀ k j, M.1 ≤ k ∨ zbdd k ≤ j → M.2.2 k j = none
theorem zk_iv_new {M : zk_M} (h : zk_iv M) : zk_iv (zk_new M) := by
  intro k j hk
  show (if k = M.1 then none else M.2.2 k j) = none
  split
  · rfl
  · next w =>
    refine h k j ?_
    rcases hk with hk | hk
    · have : M.1 + 1 ≤ k := hk
      exact Or.inl (by omega)
    · exact Or.inr hk
theorem zk_iv_set {M : zk_M} {k0 j0 : Nat} {v : Option Nat} (h : zk_iv M) (h1 : k0 < M.1) (h2 : j0 < zbdd k0) : zk_iv (zk_setR M k0 j0 v) := by
  intro k j hk
  show (if k = k0 ∧ j = j0 then v else M.2.2 k j) = none
  have hk' : M.1 ≤ k ∨ zbdd k ≤ j := hk
  rw [if_neg (fun w => by
    obtain ⟨rfl, rfl⟩ := w
    omega)]
  exact h k j hk'
theorem zk_sh_83 {k : Nat} (h : (zk_sh k).1 < 9) : k < 83 := by
  by_cases c : k < 83
  · exact c
  · unfold zk_sh at h
    rw [List.getElem?_eq_none (by show 83 ≤ k; omega)] at h
    exact absurd h (by decide)
theorem zk_flB : ∀ e ∈ zk_flL, ∀ k, k < 83 → (zk_sh k).1 = 0 → (zk_sh k).2.1 = e.2.2.1 → e.2.2.2 < (zk_sh k).2.2 := by decide +kernel
theorem zk_fl_bd {c ix ci j k : Nat} (h : zk_fl c ix = some (ci, j)) (h1 : (zk_sh k).1 = 0) (h2 : (zk_sh k).2.1 = ci) : j < zbdd k := by
  have := zk_flB _ (zk_l2_mem h) k (zk_sh_83 (by rw [h1]; decide)) h1 h2
  unfold zbdd
  rw [if_pos h1]; exact this
theorem zk_in_bd {i : Int32} {k : Nat} (h1 : (zk_sh k).1 = 3) (h2 : zk_inb i (zk_sh k).2.1 = true) : i.toNatClampNeg < zbdd k := by
  have h := (zk_inb_iff _ _).mp h2
  unfold zk_in at h
  unfold zbdd
  rw [if_neg (by rw [h1]; decide), if_pos h1]
  have : (i.toNatClampNeg : Int) = i.toInt := by
    show ((i.toInt.toNat : Nat) : Int) = i.toInt
    omega
  omega
theorem zk_st_iv {sc : zk_X} {c : zk_C} {pc : Nat} {i : Instr} {ls ls' : List (Option Value)} {st st' : List Value} {M M' : zk_M} {pc' : Nat} (h : zk_st sc c pc i ls st M = some (.inl (pc', ls', st', M'))) (hM : zk_iv M) : zk_iv M' := by
  cases i
  case putfield ix =>
    simp only [zk_st, zk_nx] at h
    split at h
    · split at h
      · split at h
        · cases h; exact hM
        · cases h
      · cases h
    · split at h
      · next hf =>
        split at h
        · next w =>
          cases h
          exact zk_iv_set hM (Nat.le_of_ble_eq_true w.1) (zk_fl_bd hf w.2.1 w.2.2.1)
        · cases h
      · cases h
    · cases h
  case aastore =>
    simp only [zk_st, zk_nx] at h
    split at h
    · split at h
      · next w =>
        cases h
        exact zk_iv_set hM (Nat.le_of_ble_eq_true w.1) (zk_in_bd w.2.1 w.2.2.1)
      · cases h
    · cases h
  all_goals (simp only [zk_st, zk_nx, zk_call, cond_eq_ite] at h <;> (repeat' split at h) <;> first | (cases h; done) | (cases h; exact hM) | (cases h; exact zk_iv_new hM))
theorem zk_run_iv {sc : zk_X} : ∀ (n d m pc : Nat) (ls : List (Option Value)) (st : List Value) (M : zk_M) (r : Option Value) (M' : zk_M), zk_run sc n d m pc ls st M = some (r, M') → zk_iv M → zk_iv M' := by
  intro n
  induction n with
  | zero => intro d m pc ls st M r M' h; cases h
  | succ n ih =>
    intro d m pc ls st M r M' h hM
    rw [zk_run] at h
    split at h
    · cases h
    · split at h
      · cases h
      · split at h
        · cases h
        · next hs => exact ih _ _ _ _ _ _ _ _ h (zk_st_iv hs hM)
        · cases h; exact hM
        · split at h
          · cases h
          · split at h
            · cases h
            · split at h
              · cases h
              · next hr => exact ih _ _ _ _ _ _ _ _ h (ih _ _ _ _ _ _ _ _ hr hM)
theorem zk_go_iv {sc : zk_X} {F T : Nat} : ∀ (n d m pc : Nat) (ls : List (Option Value)) (st : List Value) (M : zk_M) (pc' : Nat) (ls' : List (Option Value)) (st' : List Value) (M' : zk_M), zk_go sc F T n d m pc ls st M = some (pc', ls', st', M') → zk_iv M → zk_iv M' := by
  intro n
  induction n with
  | zero => intro d m pc ls st M pc' ls' st' M' h; cases h
  | succ n ih =>
    intro d m pc ls st M pc' ls' st' M' h hM
    rw [zk_go, cond_eq_ite] at h
    split at h
    · cases h; exact hM
    · split at h
      · cases h
      · split at h
        · cases h
        · split at h
          · cases h
          · next hs => exact ih _ _ _ _ _ _ _ _ _ _ h (zk_st_iv hs hM)
          · cases h
          · split at h
            · cases h
            · split at h
              · cases h
              · split at h
                · cases h
                · next hr => exact ih _ _ _ _ _ _ _ _ _ _ h (zk_run_iv _ _ _ _ _ _ _ _ _ hr hM)
/-- a memory of 83 places whose references are the known ones -/
theorem zk_iv_mk {M : zk_M} (h : zk_iv M) (h1 : M.1 = 83) (h2 : ∀ k, k < 83 → ∀ j, j < zbdd k → M.2.2 k j = zk_rf none k j) (h3 : ∀ k, k < 83 → ∀ j, j < 100 → zbdd k ≤ j → zk_rf none k j = none) : M = zk_mk M.2.1 none := by
  obtain ⟨a, I, R⟩ := M
  have h1' : a = 83 := h1
  subst h1'
  unfold zk_mk
  congr 2
  funext k j
  have ln : zk_rfL.length ≤ 83 := by decide
  have rl : ∀ k : Nat, (((zk_rfL[k]?).getD [])).length ≤ 100 := by
    intro k
    by_cases c : k < 83
    · exact (show ∀ k : Nat, k < 83 → ((zk_rfL[k]?).getD []).length ≤ 100 by decide) k c
    · rw [List.getElem?_eq_none (l := zk_rfL) (i := k) (by omega)]; exact Nat.zero_le _
  by_cases c : k < 83
  · by_cases c2 : j < zbdd k
    · exact h2 k c j c2
    · have e1 : R k j = none := h k j (Or.inr (by omega))
      rw [e1]
      by_cases c3 : j < 100
      · exact (h3 k c j c3 (by omega)).symm
      · unfold zk_rf
        rw [if_neg (by omega), List.getElem?_eq_none (by have := rl k; omega)]
        rfl
  · have e1 : R k j = none := h k j (Or.inl (by show 83 ≤ k; omega))
    rw [e1]
    unfold zk_rf
    rw [if_neg (by omega), List.getElem?_eq_none (l := zk_rfL) (i := k) (by omega)]
    rfl
