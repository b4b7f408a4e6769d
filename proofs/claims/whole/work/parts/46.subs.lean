/-! the sets within a set, in their order -/
def zfor {σ : Type} (step : Nat → σ → σ) (s0 : σ) : Nat → σ
  | 0 => s0
  | i + 1 => step i (zfor step s0 i)
theorem zfor_skip {σ : Type} {step : Nat → σ → σ} {s0 : σ} {a : Nat} : ∀ (k : Nat), (∀ x, a ≤ x → x < a + k → ∀ s, step x s = s) → zfor step s0 (a + k) = zfor step s0 a
  | 0, _ => rfl
  | k + 1, h => by
    show step (a + k) (zfor step s0 (a + k)) = _
    rw [h (a + k) (by omega) (by omega), zfor_skip k (fun x h1 h2 => h x h1 (by omega))]
theorem zfor_ext {σ : Type} {f g : Nat → σ → σ} {s0 : σ} : ∀ n, (∀ i, i < n → ∀ s, f i s = g i s) → zfor f s0 n = zfor g s0 n
  | 0, _ => rfl
  | n + 1, h => by
    show f n (zfor f s0 n) = g n (zfor g s0 n)
    rw [zfor_ext n (fun i hi => h i (by omega)), h n (by omega)]
/-- all in r are in S -/
def zle (r S : Nat) : Prop := zdf r S = 0
theorem zle_iff {r S : Nat} : zle r S ↔ ∀ i, r.testBit i = true → S.testBit i = true := by
  unfold zle
  constructor
  · intro h i hi
    have := zdf_bit r S i
    rw [h, Nat.zero_testBit, hi] at this
    cases hv : S.testBit i with
    | true => rfl
    | false => rw [hv] at this; cases this
  · intro h
    apply Nat.eq_of_testBit_eq
    intro i
    rw [zdf_bit, Nat.zero_testBit]
    cases hv : r.testBit i with
    | true => rw [h i hv]; rfl
    | false => rfl
theorem zle_le {r S : Nat} (h : zle r S) : r ≤ S := Nat.le_of_testBit (zle_iff.mp h)
theorem zle_half {r S : Nat} : zle r S ↔ zle (r / 2) (S / 2) ∧ (r % 2 = 1 → S % 2 = 1) := by
  rw [zle_iff, zle_iff]
  constructor
  · intro h
    refine ⟨fun i hi => ?_, fun hr => ?_⟩
    · rw [Nat.testBit_div_two] at hi ⊢; exact h _ hi
    · have := h 0
      rw [Nat.testBit_zero, Nat.testBit_zero, decide_eq_true_eq, decide_eq_true_eq] at this
      exact this hr
  · rintro ⟨h1, h2⟩ i hi
    cases i with
    | zero =>
      rw [Nat.testBit_zero, decide_eq_true_eq] at hi ⊢
      exact h2 hi
    | succ i =>
      have := h1 i
      rw [Nat.testBit_div_two, Nat.testBit_div_two] at this
      exact this hi
/-- the next set within S -/
def znx : Nat → Nat → Nat → Nat
  | 0, _, _ => 0
  | f + 1, S, r => if S % 2 = 1 ∧ r % 2 = 0 then r + 1 else 2 * znx f (S / 2) (r / 2)
theorem znx_self : ∀ f S, znx f S S = 0
  | 0, _ => rfl
  | f + 1, S => by
    rw [znx, if_neg (by omega), znx_self f]
theorem znx_next : ∀ {f S r : Nat}, S < 2 ^ f → zle r S → r ≠ S → r < znx f S r ∧ zle (znx f S r) S ∧ ∀ x, zle x S → r < x → znx f S r ≤ x
  | 0, S, r, hS, hr, hne => by
    have := zle_le hr
    simp at hS
    omega
  | f + 1, S, r, hS, hr, hne => by
    have hS2 : S / 2 < 2 ^ f := by rw [Nat.pow_succ] at hS; omega
    obtain ⟨h1, h2⟩ := zle_half.mp hr
    rw [znx]
    by_cases hc : S % 2 = 1 ∧ r % 2 = 0
    · rw [if_pos hc]
      refine ⟨by omega, ?_, fun x _ hx => by omega⟩
      rw [zle_half, show (r + 1) / 2 = r / 2 by omega]
      exact ⟨h1, fun _ => hc.1⟩
    · rw [if_neg hc]
      have hp : r % 2 = S % 2 := by omega
      obtain ⟨i1, i2, i3⟩ := znx_next hS2 h1 (by omega)
      refine ⟨by omega, ?_, fun x hx hrx => ?_⟩
      · rw [zle_half, show 2 * znx f (S / 2) (r / 2) / 2 = znx f (S / 2) (r / 2) by omega]
        exact ⟨i2, fun h => by omega⟩
      · obtain ⟨x1, x2⟩ := zle_half.mp hx
        have := i3 (x / 2) x1 (by omega)
        omega
theorem zand2 (a b : Nat) : a &&& b = 2 * (a / 2 &&& b / 2) + (if a % 2 = 1 ∧ b % 2 = 1 then 1 else 0) := by
  have h1 : (a &&& b) / 2 = (a / 2 &&& b / 2) := by
    apply Nat.eq_of_testBit_eq
    intro i
    rw [Nat.testBit_div_two, Nat.testBit_and, Nat.testBit_and, Nat.testBit_div_two, Nat.testBit_div_two]
  have h2 : decide ((a &&& b) % 2 = 1) = (decide (a % 2 = 1) && decide (b % 2 = 1)) := by
    rw [← Nat.testBit_zero, ← Nat.testBit_zero, ← Nat.testBit_zero, Nat.testBit_and]
  by_cases hc : a % 2 = 1 ∧ b % 2 = 1
  · rw [if_pos hc, ← h1]
    rw [decide_eq_true hc.1, decide_eq_true hc.2] at h2
    have : (a &&& b) % 2 = 1 := of_decide_eq_true h2
    omega
  · rw [if_neg hc, ← h1]
    have : ¬ (a &&& b) % 2 = 1 := by
      intro q
      rw [decide_eq_true q] at h2
      have := h2.symm
      rw [Bool.and_eq_true, decide_eq_true_eq, decide_eq_true_eq] at this
      exact hc this
    omega
theorem znx_a : ∀ {f S r m : Nat}, S < 2 ^ f → f ≤ m → zle r S → (2 ^ m - 1 + r - S) &&& S = r
  | 0, S, r, m, hS, hm, hr => by
    have := zle_le hr
    simp at hS
    subst hS
    have : r = 0 := by omega
    subst this
    exact Nat.and_zero _
  | f + 1, S, r, m, hS, hm, hr => by
    obtain ⟨m, rfl⟩ : ∃ k, m = k + 1 := ⟨m - 1, by omega⟩
    have hS2 : S / 2 < 2 ^ f := by rw [Nat.pow_succ] at hS; omega
    obtain ⟨h1, h2⟩ := zle_half.mp hr
    have ih := znx_a (m := m) hS2 (by omega) h1
    have hp : 2 ^ f ≤ 2 ^ m := Nat.pow_le_pow_right (by omega) (by omega)
    have hq : 2 ^ (m + 1) = 2 * 2 ^ m := by rw [Nat.pow_succ]; omega
    rw [zand2, hq]
    have e : (2 * 2 ^ m - 1 + r - S) / 2 = 2 ^ m - 1 + r / 2 - S / 2 := by omega
    rw [e, ih]
    split <;> omega
theorem znx_b : ∀ {f S r m : Nat}, S < 2 ^ f → f ≤ m → zle r S → (r + 2 ^ m - S) &&& S = znx f S r
  | 0, S, r, m, hS, hm, hr => by
    simp at hS
    subst hS
    exact Nat.and_zero _
  | f + 1, S, r, m, hS, hm, hr => by
    obtain ⟨m, rfl⟩ : ∃ k, m = k + 1 := ⟨m - 1, by omega⟩
    have hS2 : S / 2 < 2 ^ f := by rw [Nat.pow_succ] at hS; omega
    obtain ⟨h1, h2⟩ := zle_half.mp hr
    have hp : 2 ^ f ≤ 2 ^ m := Nat.pow_le_pow_right (by omega) (by omega)
    have hq : 2 ^ (m + 1) = 2 * 2 ^ m := by rw [Nat.pow_succ]; omega
    rw [zand2, hq, znx]
    by_cases hc : S % 2 = 1 ∧ r % 2 = 0
    · rw [if_pos hc]
      have ih := znx_a (m := m) hS2 (by omega) h1
      have e : (r + 2 * 2 ^ m - S) / 2 = 2 ^ m - 1 + r / 2 - S / 2 := by omega
      rw [e, ih, if_pos ⟨by omega, hc.1⟩]
      omega
    · rw [if_neg hc]
      have ih := znx_b (m := m) hS2 (by omega) h1
      have e : (r + 2 * 2 ^ m - S) / 2 = r / 2 + 2 ^ m - S / 2 := by omega
      rw [e, ih, if_neg (by omega)]
      omega
theorem zq_next {S r : Nat} (hS : S < 1024) (hr : zle r S) : (nI r - nI S) &&& nI S = nI (znx 10 S r) := by
  have h1 := zle_le hr
  have e1 : nI r - nI S = nI (r + 4294967296 - S) := by
    rw [← zn_sub (show S ≤ r + 4294967296 by omega), ← zn_add, show nI 4294967296 = 0 from by decide, Int32.add_zero]
  rw [e1, zq_and, ← znx_b (f := 10) (m := 32) (show S < 2 ^ 10 by omega) (by decide) hr]
theorem zle_0 (S : Nat) : zle 0 S := by rw [zle_iff]; intro i h; rw [Nat.zero_testBit] at h; cases h
theorem zle_refl (S : Nat) : zle S S := zle_iff.mpr (fun _ h => h)
/-- a walk over all sets within S but the empty one -/
theorem zl_sub {σ : Type} {S N : Nat} {s0 : σ} (hS : S < 1024) (hN : S < N) (step : Nat → σ → σ) (hst : ∀ x s, (x = 0 ∨ ¬ zle x S) → step x s = s) (W : Nat → Nat → σ → Prop)
    (hx : ∀ i, W i 0 (zfor step s0 N)) (hs : ∀ i r s, s = zfor step s0 r → i < r → r ≤ S → zle r S → W (i + 1) (znx 10 S r) (step r s) → W i r s) : W 0 (znx 10 S 0) s0 := by
  have hend : zfor step s0 N = zfor step s0 (S + 1) := by
    have := zfor_skip (step := step) (s0 := s0) (a := S + 1) (N - (S + 1)) (fun x h1 h2 s => hst x s (Or.inr (fun q => by have := zle_le q; omega)))
    rwa [show S + 1 + (N - (S + 1)) = N by omega] at this
  have key : ∀ k r i, S - r ≤ k → i < r → zle r S → W i r (zfor step s0 r) := by
    intro k
    induction k with
    | zero =>
      intro r i hk hi hr
      have := zle_le hr
      have e : r = S := by omega
      subst e
      refine hs i r _ rfl hi (by omega) hr ?_
      rw [znx_self]
      show W (i + 1) 0 (zfor step s0 (r + 1))
      rw [← hend]; exact hx _
    | succ k ih =>
      intro r i hk hi hr
      have := zle_le hr
      refine hs i r _ rfl hi (by omega) hr ?_
      show W (i + 1) (znx 10 S r) (zfor step s0 (r + 1))
      by_cases e : r = S
      · subst e
        rw [znx_self, ← hend]; exact hx _
      · obtain ⟨n1, n2, n3⟩ := znx_next (f := 10) (show S < 2 ^ 10 by omega) hr e
        have := zfor_skip (step := step) (s0 := s0) (a := r + 1) (znx 10 S r - (r + 1)) (fun x h1 h2 s => hst x s (Or.inr (fun q => by have := n3 x q (by omega); omega)))
        rw [show r + 1 + (znx 10 S r - (r + 1)) = znx 10 S r by omega] at this
        rw [← this]
        exact ih _ _ (by omega) (by omega) n2
  by_cases e : 0 = S
  · subst e
    rw [znx_self]
    have : zfor step s0 N = s0 := by
      rw [hend]
      exact hst 0 s0 (Or.inl rfl)
    rw [← this]; exact hx 0
  · obtain ⟨n1, n2, n3⟩ := znx_next (f := 10) (show S < 2 ^ 10 by omega) (zle_0 S) e
    have h0 : zfor step s0 (znx 10 S 0) = s0 := by
      have := zfor_skip (step := step) (s0 := s0) (a := 0) (znx 10 S 0) (fun x h1 h2 s => hst x s (by
        by_cases e : x = 0
        · exact Or.inl e
        · exact Or.inr (fun q => by have := n3 x q (by omega); omega)))
      rwa [Nat.zero_add] at this
    have := key _ (znx 10 S 0) 0 (Nat.le_refl _) n1 n2
    rwa [h0] at this
/-- a walk over all sets within S -/
theorem zl_sub0 {σ : Type} {S N : Nat} {s0 : σ} (hS : S < 1024) (hN : S < N) (step : Nat → σ → σ) (hst : ∀ x s, ¬ zle x S → step x s = s) (W : Nat → Nat → σ → Prop) (X : σ → Prop)
    (hx : X (zfor step s0 N)) (hs : ∀ i r s, s = zfor step s0 r → i ≤ r → r ≤ S → zle r S → (znx 10 S r = 0 → X (step r s)) → (¬ znx 10 S r = 0 → W (i + 1) (znx 10 S r) (step r s)) → W i r s) : W 0 0 s0 := by
  have hend : zfor step s0 N = zfor step s0 (S + 1) := by
    have := zfor_skip (step := step) (s0 := s0) (a := S + 1) (N - (S + 1)) (fun x h1 h2 s => hst x s (fun q => by have := zle_le q; omega))
    rwa [show S + 1 + (N - (S + 1)) = N by omega] at this
  have key : ∀ k r i, S - r ≤ k → i ≤ r → zle r S → W i r (zfor step s0 r) := by
    intro k
    induction k with
    | zero =>
      intro r i hk hi hr
      have := zle_le hr
      have e : r = S := by omega
      subst e
      refine hs i r _ rfl hi (by omega) hr (fun _ => ?_) (fun q => absurd (znx_self _ _) q)
      show X (zfor step s0 (r + 1))
      rw [← hend]; exact hx
    | succ k ih =>
      intro r i hk hi hr
      have := zle_le hr
      by_cases e : r = S
      · subst e
        refine hs i r _ rfl hi (by omega) hr (fun _ => ?_) (fun q => absurd (znx_self _ _) q)
        show X (zfor step s0 (r + 1))
        rw [← hend]; exact hx
      · obtain ⟨n1, n2, n3⟩ := znx_next (f := 10) (show S < 2 ^ 10 by omega) hr e
        refine hs i r _ rfl hi (by omega) hr (fun q => by omega) (fun _ => ?_)
        show W (i + 1) (znx 10 S r) (zfor step s0 (r + 1))
        have := zfor_skip (step := step) (s0 := s0) (a := r + 1) (znx 10 S r - (r + 1)) (fun x h1 h2 s => hst x s (fun q => by have := n3 x q (by omega); omega))
        rw [show r + 1 + (znx 10 S r - (r + 1)) = znx 10 S r by omega] at this
        rw [← this]
        exact ih _ _ (by omega) (by omega) n2
  exact key S 0 0 (by omega) (Nat.le_refl _) (zle_0 S)
