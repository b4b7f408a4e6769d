/-! all heaps by their sums -/
def zct (p : Nat → Bool) : Nat → Nat
  | 0 => 0
  | i + 1 => if p i = true then zct p i + 1 else zct p i
theorem zct_ext {p q : Nat → Bool} : ∀ n, (∀ i, i < n → p i = q i) → zct p n = zct q n
  | 0, _ => rfl
  | n + 1, h => by
    rw [zct, zct, zct_ext n (fun i hi => h i (by omega)), h n (by omega)]
theorem zct_add (p : Nat → Bool) (a : Nat) : ∀ k, zct p (a + k) = zct p a + zct (fun i => p (a + i)) k
  | 0 => rfl
  | k + 1 => by
    show zct p (a + k + 1) = _
    rw [zct, zct, zct_add p a k]
    split <;> omega
theorem zct_ex {p : Nat → Bool} : ∀ {n : Nat}, 0 < zct p n → ∃ i, i < n ∧ p i = true
  | 0, h => absurd h (Nat.not_lt_zero _)
  | n + 1, h => by
    rw [zct] at h
    by_cases hp : p n = true
    · exact ⟨n, by omega, hp⟩
    · rw [if_neg hp] at h
      obtain ⟨i, hi, hq⟩ := zct_ex h
      exact ⟨i, by omega, hq⟩
theorem zct_pos {p : Nat → Bool} : ∀ {n i : Nat}, i < n → p i = true → 0 < zct p n
  | 0, _, h, _ => absurd h (Nat.not_lt_zero _)
  | n + 1, i, h, hp => by
    rw [zct]
    by_cases e : i = n
    · subst e; rw [if_pos hp]; omega
    · have := zct_pos (n := n) (i := i) (by omega) hp
      split <;> omega
/-- before another by its sum, or else by its bits -/
def zlx (s : Nat → Int) (x y : Nat) : Prop := s x < s y ∨ (s x = s y ∧ x < y)
theorem zlx_tr {s : Nat → Int} {x y z : Nat} (h1 : zlx s x y) (h2 : zlx s y z) : zlx s x z := by
  unfold zlx at *; omega
def zord (s : Nat → Int) (O : Nat → Nat) (k : Nat) : Prop := (∀ a, a < 2 ^ k → O a < 2 ^ k) ∧ (∀ a b, a < b → b < 2 ^ k → zlx s (O a) (O b)) ∧ ∀ p : Nat → Bool, zct (fun i => p (O i)) (2 ^ k) = zct p (2 ^ k)
/-- what is merged so far -/
def zmg (s : Nat → Int) (O : Nat → Nat) (k : Nat) (w v : Nat) (G : Nat → Nat) : Prop :=
  (∀ a, a < w + v → G a < 2 ^ (k + 1)) ∧ (∀ a b, a < b → b < w + v → zlx s (G a) (G b)) ∧ (∀ a, a < w + v → (w < 2 ^ k → zlx s (G a) (O w)) ∧ (v < 2 ^ k → zlx s (G a) (O v + 2 ^ k))) ∧ ∀ p : Nat → Bool, zct (fun i => p (G i)) (w + v) = zct (fun i => p (O i)) w + zct (fun i => p (O i + 2 ^ k)) v
def zgu (G : Nat → Nat) (i x : Nat) : Nat → Nat := fun a => if a = i then x else G a
theorem zct_gu {p : Nat → Bool} {G : Nat → Nat} {i x : Nat} : zct (fun a => p (zgu G i x a)) (i + 1) = if p x = true then zct (fun a => p (G a)) i + 1 else zct (fun a => p (G a)) i := by
  have e : zct (fun a => p (zgu G i x a)) i = zct (fun a => p (G a)) i := zct_ext i (fun a ha => by
    show p (zgu G i x a) = p (G a)
    unfold zgu; rw [if_neg (by omega)])
  rw [zct, e, show zgu G i x i = x from if_pos rfl]
theorem zmg_w {s : Nat → Int} {O G : Nat → Nat} {k w v : Nat} (hO : zord s O k) (h : zmg s O k w v G) (hw : w < 2 ^ k) (hlt : v < 2 ^ k → zlx s (O w) (O v + 2 ^ k)) : zmg s O k (w + 1) v (zgu G (w + v) (O w)) := by
  obtain ⟨h1, h2, h3, h4⟩ := h
  obtain ⟨o1, o2, o3⟩ := hO
  have hp : 2 ^ (k + 1) = 2 * 2 ^ k := by rw [Nat.pow_succ]; omega
  refine ⟨fun a ha => ?_, fun a b hab hb => ?_, fun a ha => ?_, fun p => ?_⟩
  · unfold zgu
    by_cases e : a = w + v
    · rw [if_pos e]; have := o1 w hw; omega
    · rw [if_neg e]; exact h1 a (by omega)
  · unfold zgu
    rw [if_neg (show ¬ a = w + v by omega)]
    by_cases e : b = w + v
    · rw [if_pos e]; exact (h3 a (by omega)).1 hw
    · rw [if_neg e]; exact h2 a b hab (by omega)
  · unfold zgu
    by_cases e : a = w + v
    · rw [if_pos e]
      exact ⟨fun q => o2 w (w + 1) (by omega) q, hlt⟩
    · rw [if_neg e]
      obtain ⟨a1, a2⟩ := h3 a (by omega)
      exact ⟨fun q => zlx_tr (a1 hw) (o2 w (w + 1) (by omega) q), a2⟩
  · rw [show w + 1 + v = w + v + 1 by omega, zct_gu, h4, zct]
    split <;> omega
theorem zmg_v {s : Nat → Int} {O G : Nat → Nat} {k w v : Nat} (hO : zord s O k) (hsh : ∀ x y, x < 2 ^ k → y < 2 ^ k → zlx s x y → zlx s (x + 2 ^ k) (y + 2 ^ k)) (h : zmg s O k w v G) (hv : v < 2 ^ k) (hlt : w < 2 ^ k → zlx s (O v + 2 ^ k) (O w)) : zmg s O k w (v + 1) (zgu G (w + v) (O v + 2 ^ k)) := by
  obtain ⟨h1, h2, h3, h4⟩ := h
  obtain ⟨o1, o2, o3⟩ := hO
  have hp : 2 ^ (k + 1) = 2 * 2 ^ k := by rw [Nat.pow_succ]; omega
  have nx : v + 1 < 2 ^ k → zlx s (O v + 2 ^ k) (O (v + 1) + 2 ^ k) := fun q => hsh _ _ (o1 v hv) (o1 _ q) (o2 v (v + 1) (by omega) q)
  refine ⟨fun a ha => ?_, fun a b hab hb => ?_, fun a ha => ?_, fun p => ?_⟩
  · unfold zgu
    by_cases e : a = w + v
    · rw [if_pos e]; have := o1 v hv; omega
    · rw [if_neg e]; exact h1 a (by omega)
  · unfold zgu
    rw [if_neg (show ¬ a = w + v by omega)]
    by_cases e : b = w + v
    · rw [if_pos e]; exact (h3 a (by omega)).2 hv
    · rw [if_neg e]; exact h2 a b hab (by omega)
  · unfold zgu
    by_cases e : a = w + v
    · rw [if_pos e]
      exact ⟨hlt, nx⟩
    · rw [if_neg e]
      obtain ⟨a1, a2⟩ := h3 a (by omega)
      exact ⟨a1, fun q => zlx_tr (a2 hv) (nx q)⟩
  · rw [show w + (v + 1) = w + v + 1 by omega, zct_gu, h4]
    show _ = zct (fun i => p (O i)) w + (if p (O v + 2 ^ k) = true then zct (fun i => p (O i + 2 ^ k)) v + 1 else zct (fun i => p (O i + 2 ^ k)) v)
    split <;> omega
theorem zmg_end {s : Nat → Int} {O G : Nat → Nat} {k : Nat} (hO : zord s O k) (h : zmg s O k (2 ^ k) (2 ^ k) G) : zord s G (k + 1) := by
  obtain ⟨h1, h2, h3, h4⟩ := h
  obtain ⟨o1, o2, o3⟩ := hO
  have hp : 2 ^ (k + 1) = 2 ^ k + 2 ^ k := by rw [Nat.pow_succ]; omega
  refine ⟨fun a ha => h1 a (by omega), fun a b hab hb => h2 a b hab (by omega), fun p => ?_⟩
  rw [hp, h4 p, o3 p, o3 (fun x => p (x + 2 ^ k)), zct_add]
  congr 1
  exact zct_ext _ (fun i _ => by rw [Nat.add_comm])
def zsv (f : Nat → Int32) (n : Nat) (x : Nat) : Int := (zsum f x n).toInt
theorem zsum_hi {f : Nat → Int32} {n k x : Nat} (hk : k < n) (hx : x < 2 ^ k) : zsum f (x + 2 ^ k) n = zsum f x n + f k := by
  have h1 : zsum f (2 ^ k + x) (k + 1) = zsum f x k + f k := zs_hi hx
  have hp : 2 ^ (k + 1) = 2 * 2 ^ k := by rw [Nat.pow_succ]; omega
  have h2 := zsum_more (a := f) (h := 2 ^ k + x) (n := k + 1) (by omega) (n - (k + 1))
  have h3 := zsum_more (a := f) (h := x) (n := k) hx (n - k)
  rw [show k + 1 + (n - (k + 1)) = n by omega] at h2
  rw [show k + (n - k) = n by omega] at h3
  rw [Nat.add_comm x, h2, h1, h3]
theorem zsv_hi {f : Nat → Int32} {n k x : Nat} (hb : zbd f n) (hn : n ≤ 10) (hk : k < n) (hx : x < 2 ^ k) : zsv f n (x + 2 ^ k) = zsv f n x + (f k).toInt := by
  unfold zsv
  have b1 := zsum_bd (h := x) hb hn
  have b2 := hb k hk
  rw [zsum_hi hk hx, zi_add (by omega) (by omega) (by omega) (by omega)]
theorem zsv_sh {f : Nat → Int32} {n k : Nat} (hb : zbd f n) (hn : n ≤ 10) (hk : k < n) (x y : Nat) (hx : x < 2 ^ k) (hy : y < 2 ^ k) (h : zlx (zsv f n) x y) : zlx (zsv f n) (x + 2 ^ k) (y + 2 ^ k) := by
  unfold zlx at *
  rw [zsv_hi hb hn hk hx, zsv_hi hb hn hk hy]
  omega
theorem zq_orp {x k : Nat} (hx : x < 2 ^ k) : nI x ||| nI (2 ^ k) = nI (x + 2 ^ k) := by
  rw [zq_or, zor_add hx, Nat.add_comm]
theorem s77 {sc : zk_X} {d : Nat} {I : Nat → Nat → Int32} {tg : Option Nat} {P : Option Value → zk_M → Prop} {n k : Nat} {f : Nat → Int32} {O : Nat → Nat} (h10 : n ≤ 10) (hk : k < n) (hs : ∀ h, h < 2 ^ n → I 18 h = zsum f h n) (hb : zbd f n) (hO : zord (zsv f n) O k) (ho : ∀ a, a < 2 ^ k → I 20 a = nI (O a))
    (K : ∀ I' : Nat → Nat → Int32, (∀ j, j ≠ 21 → I' j = I j) → (∃ G, zord (zsv f n) G (k + 1) ∧ ∀ a, a < 2 ^ (k + 1) → I' 21 a = nI (G a)) → P none (zk_mk I' tg)) : zk_R sc d 77 0 [some (.ref (15 : Nat)), some (.int (nI (2 ^ k))), none, none, none, none] [] (zk_mk I tg) P := by
  have p9 : 2 ^ k ≤ 512 := Nat.le_trans (Nat.pow_le_pow_right (by omega) (show k ≤ 9 by omega)) (by decide)
  have hp : 2 ^ (k + 1) = 2 * 2 ^ k := by rw [Nat.pow_succ]; omega
  have hpn : 2 ^ (k + 1) ≤ 2 ^ n := Nat.pow_le_pow_right (by omega) (by omega)
  have p10 := zp_10 h10
  have e2 : (2 : Int32) * nI (2 ^ k) = nI (2 * 2 ^ k) := zn_mul 2 (2 ^ k)
  obtain ⟨o1, o2, o3⟩ := id hO
  have loop := zl_up (τ := (Nat → Nat → Int32) × Nat × Nat × Option Value) (fun i q => zk_R sc d 77 7 [some (.ref (15 : Nat)), some (.int (nI (2 ^ k))), some (.int (nI q.2.1)), some (.int (nI q.2.2.1)), some (.int (nI i)), q.2.2.2] [] (zk_mk q.1 tg) P)
    (fun i q => (∀ j, j ≠ 21 → q.1 j = I j) ∧ q.2.1 + q.2.2.1 = i ∧ q.2.1 ≤ 2 ^ k ∧ q.2.2.1 ≤ 2 ^ k ∧ ∃ G, zmg (zsv f n) O k q.2.1 q.2.2.1 G ∧ ∀ a, a < i → q.1 21 a = nI (G a)) (2 * 2 ^ k) (by
      rintro ⟨I', w, v, x⟩ ⟨h1, h2, h3, h4, G, h5, h6⟩
      have h2 : w + v = 2 * 2 ^ k := h2
      have h3 : w ≤ 2 ^ k := h3
      have h4 : v ≤ 2 ^ k := h4
      have ew : w = 2 ^ k := by omega
      have ev : v = 2 ^ k := by omega
      subst ew
      subst ev
      show zk_R sc d 77 7 [some (.ref (15 : Nat)), some (.int (nI (2 ^ k))), some (.int (nI (2 ^ k))), some (.int (nI (2 ^ k))), some (.int (nI (2 * 2 ^ k))), x] [] (zk_mk I' tg) P
      rw [u77_7]
      simp only [u77_0, u77_1, u77_2, u77_3, u77_4, u77_5, u77_9, u77_10, u77_11, u77_12, u77_15, u77_16, u77_17, u77_20, u77_21, u77_22, u77_25, u77_26, u77_29, u77_30, u77_33, u77_34, u77_35, u77_36, u77_37, u77_40, u77_41, u77_44, u77_45, u77_46, u77_47, u77_48, u77_49, u77_52, u77_53, u77_56, u77_57, u77_59, u77_61, u77_64, u77_65, u77_68, u77_70, u77_71, u77_74, u77_75, u77_76, u77_77, u77_80, u77_83, u77_84, u77_87, u77_89, u77_90, u77_93, u77_94, u77_95, u77_96, u77_97, u77_98, u77_101, u77_104, u77_107, zk_mk_1, zk_mk_I, zk_mk_R, zk_mk_set, zk_mk_setR, zk_mk_cpy, zk_rv_some, zk_rv_none, Option.toList_some, Option.toList_none, List.cons_append, List.nil_append, reduceIte, eq_self, Nat.reduceLT, Nat.reduceEqDiff, and_true, true_and, reduceCtorEq, e2]
      rw [if_pos (nI_le (Nat.le_refl _) (by omega))]
      exact K I' h1 ⟨G, zmg_end hO h5, fun a ha => h6 a (by omega)⟩) (by
      rintro i ⟨I', w, v, x⟩ hi ⟨h1, h2, h3, h4, G, h5, h6⟩ ih
      have h1 : ∀ j, j ≠ 21 → I' j = I j := h1
      have h2 : w + v = i := h2
      have h3 : w ≤ 2 ^ k := h3
      have h4 : v ≤ 2 ^ k := h4
      have h5 : zmg (zsv f n) O k w v G := h5
      have h6 : ∀ a, a < i → I' 21 a = nI (G a) := h6
      subst h2
      have e18 : I' 18 = I 18 := h1 18 (by decide)
      have e20 : I' 20 = I 20 := h1 20 (by decide)
      have z1 : zk_inb (nI (w + v)) 1024 = true := by rw [zn_in (by omega)]; omega
      have z2 : (nI (w + v)).toNatClampNeg = w + v := zn_cl (by omega)
      have z3 : zk_inb (nI w) 1024 = true := by rw [zn_in (by omega)]; omega
      have z4 : (nI w).toNatClampNeg = w := zn_cl (by omega)
      have z5 : zk_inb (nI v) 1024 = true := by rw [zn_in (by omega)]; omega
      have z6 : (nI v).toNatClampNeg = v := zn_cl (by omega)
      show zk_R sc d 77 7 [some (.ref (15 : Nat)), some (.int (nI (2 ^ k))), some (.int (nI w)), some (.int (nI v)), some (.int (nI (w + v))), x] [] (zk_mk I' tg) P
      -- taking one without the card, and one with it
      have takeW : w < 2 ^ k → (v < 2 ^ k → zlx (zsv f n) (O w) (O v + 2 ^ k)) → ∀ x, zk_R sc d 77 7 [some (.ref (15 : Nat)), some (.int (nI (2 ^ k))), some (.int (nI (w + 1))), some (.int (nI v)), some (.int (nI (w + v + 1))), x] [] (zk_mk (zk_up2 I' 21 (w + v) (nI (O w))) tg) P := by
        intro hw hlt x
        refine ih (zk_up2 I' 21 (w + v) (nI (O w)), w + 1, v, x) ⟨fun j hj => ?_, (show w + 1 + v = w + v + 1 by omega), hw, h4, zgu G (w + v) (O w), zmg_w hO h5 hw hlt, fun a ha => ?_⟩
        · show zk_up2 I' 21 (w + v) (nI (O w)) j = I j
          rw [zk_up2_r hj]; exact h1 j hj
        · show zk_up2 I' 21 (w + v) (nI (O w)) 21 a = nI (zgu G (w + v) (O w) a)
          rw [zk_up2_i]
          unfold zgu
          by_cases e : a = w + v
          · rw [if_pos e, if_pos e]
          · rw [if_neg e, if_neg e]; exact h6 a (by omega)
      have takeV : v < 2 ^ k → (w < 2 ^ k → zlx (zsv f n) (O v + 2 ^ k) (O w)) → ∀ x, zk_R sc d 77 7 [some (.ref (15 : Nat)), some (.int (nI (2 ^ k))), some (.int (nI w)), some (.int (nI (v + 1))), some (.int (nI (w + v + 1))), x] [] (zk_mk (zk_up2 I' 21 (w + v) (nI (O v + 2 ^ k))) tg) P := by
        intro hv hlt x
        refine ih (zk_up2 I' 21 (w + v) (nI (O v + 2 ^ k)), w, v + 1, x) ⟨fun j hj => ?_, (show w + (v + 1) = w + v + 1 by omega), h3, hv, zgu G (w + v) (O v + 2 ^ k), zmg_v hO (zsv_sh hb h10 hk) h5 hv hlt, fun a ha => ?_⟩
        · show zk_up2 I' 21 (w + v) (nI (O v + 2 ^ k)) j = I j
          rw [zk_up2_r hj]; exact h1 j hj
        · show zk_up2 I' 21 (w + v) (nI (O v + 2 ^ k)) 21 a = nI (zgu G (w + v) (O v + 2 ^ k) a)
          rw [zk_up2_i]
          unfold zgu
          by_cases e : a = w + v
          · rw [if_pos e, if_pos e]
          · rw [if_neg e, if_neg e]; exact h6 a (by omega)
      rw [u77_7]
      simp only [u77_0, u77_1, u77_2, u77_3, u77_4, u77_5, u77_9, u77_10, u77_11, u77_12, u77_15, u77_16, u77_17, u77_20, u77_21, u77_22, u77_25, u77_26, u77_29, u77_30, u77_33, u77_34, u77_35, u77_36, u77_37, u77_40, u77_41, u77_44, u77_45, u77_46, u77_47, u77_48, u77_49, u77_52, u77_53, u77_56, u77_57, u77_59, u77_61, u77_64, u77_65, u77_68, u77_70, u77_71, u77_74, u77_75, u77_76, u77_77, u77_80, u77_83, u77_84, u77_87, u77_89, u77_90, u77_93, u77_94, u77_95, u77_96, u77_97, u77_98, u77_101, u77_104, u77_107, zk_mk_1, zk_mk_I, zk_mk_R, zk_mk_set, zk_mk_setR, zk_mk_cpy, zk_rv_some, zk_rv_none, Option.toList_some, Option.toList_none, List.cons_append, List.nil_append, reduceIte, eq_self, Nat.reduceLT, Nat.reduceEqDiff, and_true, true_and, reduceCtorEq, zsh_15, zsh_18, zsh_20, zsh_21, zrf_15_2, zrf_15_5, zrf_15_6, e2, e18, e20, z1, z2, z3, z4, z5, z6, show ((1 : Int32) = 0) = False from by decide, nI_1]
      rw [if_neg (nI_ge hi (by omega))]
      by_cases hv : v < 2 ^ k
      · have hcv : ¬ nI (2 ^ k) ≤ nI v := nI_ge hv (by omega)
        first | rw [if_neg hcv] | rw [if_pos (Int32.not_le.mp hcv)]
        have hov := o1 v hv
        have z7 : zk_inb (nI (O v + 2 ^ k)) 1024 = true := by rw [zn_in (by omega)]; omega
        have z8 : (nI (O v + 2 ^ k)).toNatClampNeg = O v + 2 ^ k := zn_cl (by omega)
        simp only [ho v hv, zq_orp hov, z7, z8]
        by_cases hw : w < 2 ^ k
        · have hcw : ¬ nI (2 ^ k) ≤ nI w := nI_ge hw (by omega)
          first | rw [if_neg hcw] | rw [if_pos (Int32.not_le.mp hcw)]
          have how := o1 w hw
          have z9 : zk_inb (nI (O w)) 1024 = true := by rw [zn_in (by omega)]; omega
          have z10 : (nI (O w)).toNatClampNeg = O w := zn_cl (by omega)
          simp only [ho w hw, z9, z10, hs (O w) (by omega), hs (O v + 2 ^ k) (by omega), and_true, true_and]
          by_cases hc : zsum f (O w) n ≤ zsum f (O v + 2 ^ k) n
          · first | rw [if_pos hc] | rw [if_neg (Int32.not_lt.mpr hc)]
            refine takeW hw (fun _ => ?_) _
            have := Int32.le_iff_toInt_le.mp hc
            unfold zlx zsv
            omega
          · first | rw [if_neg hc] | rw [if_pos (Int32.not_le.mp hc)]
            refine takeV hv (fun _ => ?_) _
            have := Int32.lt_iff_toInt_lt.mp (Int32.not_le.mp hc)
            unfold zlx zsv
            omega
        · have hcw : nI (2 ^ k) ≤ nI w := nI_le (by omega) (by omega)
          first | rw [if_pos hcw] | rw [if_neg (Int32.not_lt.mpr hcw)]
          exact takeV hv (fun q => absurd q hw) _
      · have hcv : nI (2 ^ k) ≤ nI v := nI_le (by omega) (by omega)
        first | rw [if_pos hcv] | rw [if_neg (Int32.not_lt.mpr hcv)]
        have hw : w < 2 ^ k := by omega
        simp only [ho w hw]
        exact takeW hw (fun q => absurd q hv) _)
  simp only [u77_0, u77_1, u77_2, u77_3, u77_4, u77_5, u77_9, u77_10, u77_11, u77_12, u77_15, u77_16, u77_17, u77_20, u77_21, u77_22, u77_25, u77_26, u77_29, u77_30, u77_33, u77_34, u77_35, u77_36, u77_37, u77_40, u77_41, u77_44, u77_45, u77_46, u77_47, u77_48, u77_49, u77_52, u77_53, u77_56, u77_57, u77_59, u77_61, u77_64, u77_65, u77_68, u77_70, u77_71, u77_74, u77_75, u77_76, u77_77, u77_80, u77_83, u77_84, u77_87, u77_89, u77_90, u77_93, u77_94, u77_95, u77_96, u77_97, u77_98, u77_101, u77_104, u77_107, zk_mk_1, zk_mk_I, zk_mk_R, zk_mk_set, zk_mk_setR, zk_mk_cpy, zk_rv_some, zk_rv_none, Option.toList_some, Option.toList_none, List.cons_append, List.nil_append, reduceIte, eq_self, Nat.reduceLT, Nat.reduceEqDiff, and_true, true_and, reduceCtorEq]
  refine loop 0 (I, 0, 0, none) (Nat.zero_le _) ⟨fun _ _ => rfl, rfl, Nat.zero_le _, Nat.zero_le _, fun _ => 0, ⟨fun a ha => absurd ha (Nat.not_lt_zero _), fun a b _ hb => absurd hb (Nat.not_lt_zero _), fun a ha => absurd ha (Nat.not_lt_zero _), fun p => rfl⟩, fun a ha => absurd ha (Nat.not_lt_zero _)⟩
