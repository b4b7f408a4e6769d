/-! how large counts and sums are -/
theorem zi_sub {a b : Int32} (h1 : -1000000 ≤ a.toInt) (h2 : a.toInt ≤ 1000000) (h3 : -1000000 ≤ b.toInt) (h4 : b.toInt ≤ 1000000) : (a - b).toInt = a.toInt - b.toInt := by
  rw [Int32.toInt_sub]
  apply Int.bmod_eq_of_le <;> omega
theorem zi_add {a b : Int32} (h1 : -1000000 ≤ a.toInt) (h2 : a.toInt ≤ 1000000) (h3 : -1000000 ≤ b.toInt) (h4 : b.toInt ≤ 1000000) : (a + b).toInt = a.toInt + b.toInt := by
  rw [Int32.toInt_add]
  apply Int.bmod_eq_of_le <;> omega
theorem zi_neg {a : Int32} (h1 : -1000000 ≤ a.toInt) (h2 : a.toInt ≤ 1000000) : (-a).toInt = -a.toInt := by
  rw [Int32.toInt_neg]
  apply Int.bmod_eq_of_le <;> omega
theorem zi_two {a : Int32} (h1 : -1000000 ≤ a.toInt) (h2 : a.toInt ≤ 1000000) : (2 * a).toInt = 2 * a.toInt := by
  rw [Int32.toInt_mul, show (2 : Int32).toInt = 2 from by decide]
  apply Int.bmod_eq_of_le <;> omega
def zbd (f : Nat → Int32) (n : Nat) : Prop := ∀ c, c < n → -2007 ≤ (f c).toInt ∧ (f c).toInt ≤ 2007
theorem zv_cnt_bd {I : Nat → Nat → Int32} {n c : Nat} {T e : Nat → Nat} {left : Int32} (hj : zj_tab I n) (hc : c < n) : -2007 ≤ (zv_cnt I n T e c left).toInt ∧ (zv_cnt I n T e c left).toInt ≤ 2007 := by
  have hs := zw_in_le (x := zt_val (zv_nm I n c left) T (zj_a e 0) (e 0 - zj_a e 0)) (l := -999) (h := 999) (by decide)
  obtain ⟨-, -, -, ⟨m, hm, em⟩, -⟩ := hj.2.2.2 c hc
  have e1 : zv_said I n T e 0 c left = zw_in (zt_val (zv_nm I n c left) T (zj_a e 0) (e 0 - zj_a e 0)) (-999) 999 := if_pos rfl
  unfold zv_cnt
  rw [e1, em]
  generalize zw_in (zt_val (zv_nm I n c left) T (zj_a e 0) (e 0 - zj_a e 0)) (-999) 999 = v at *
  simp only [Int32.le_iff_toInt_le, show (-999 : Int32).toInt = -999 from by decide, show (999 : Int32).toInt = 999 from by decide] at hs
  have hmi : (nI m).toInt = m := nI_toInt (by omega)
  have h2 := zi_two (a := v) (by omega) (by omega)
  unfold zv_k
  (repeat' split) <;> first | omega | (rw [zi_add (by omega) (by omega) (by omega) (by omega)]; omega) | (rw [zi_neg (by omega) (by omega)]; omega) | skip
theorem zv_now_bd {I : Nat → Nat → Int32} {n : Nat} {T e : Nat → Nat} (hj : zj_tab I n) : zbd (zv_now I n T e) n := fun _ hc => zv_cnt_bd hj hc
def zsi (g : Nat → Int) (h : Nat) : Nat → Int
  | 0 => 0
  | c + 1 => zsi g h c + (if h / 2 ^ c % 2 = 1 then g c else 0)
theorem zsum_int {f : Nat → Int32} {h : Nat} : ∀ {n : Nat}, zbd f n → n ≤ 10 → (zsum f h n).toInt = zsi (fun c => (f c).toInt) h n ∧ -2007 * (n : Int) ≤ (zsum f h n).toInt ∧ (zsum f h n).toInt ≤ 2007 * (n : Int)
  | 0, _, _ => ⟨rfl, by show -2007 * (0 : Int) ≤ (0 : Int32).toInt; decide, by show (0 : Int32).toInt ≤ 2007 * (0 : Int); decide⟩
  | n + 1, hb, hn => by
    obtain ⟨i1, i2, i3⟩ := zsum_int (h := h) (n := n) (fun c hc => hb c (by omega)) (by omega)
    obtain ⟨b1, b2⟩ := hb n (by omega)
    rw [zsum, zsi]
    by_cases hq : h / 2 ^ n % 2 = 1
    · rw [if_pos hq, if_pos hq, zi_add (by omega) (by omega) (by omega) (by omega), i1]
      refine ⟨rfl, ?_, ?_⟩ <;> rw [← i1] <;> omega
    · rw [if_neg hq, if_neg hq, Int32.add_zero, Int.add_zero, i1]
      refine ⟨rfl, ?_, ?_⟩ <;> rw [← i1] <;> omega
theorem zsum_bd {f : Nat → Int32} {h n : Nat} (hb : zbd f n) (hn : n ≤ 10) : -20070 ≤ (zsum f h n).toInt ∧ (zsum f h n).toInt ≤ 20070 := by
  obtain ⟨-, i2, i3⟩ := zsum_int (h := h) hb hn
  omega
