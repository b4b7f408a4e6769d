/-! sets of cards as bits -/
theorem zq_smod : ∀ c : Nat, c < 32 → ((nI c &&& 31).toBitVec.smod 32).toNat = c := by decide +kernel
theorem zq_shr {h c : Nat} (hh : h < 2147483648) (hc : c < 32) : nI h >>> (nI c &&& 31) = nI (h / 2 ^ c) := pk_shrN (by omega) _ c (zq_smod c hc)
theorem zq_and1 {h : Nat} (hh : h < 2147483648) : nI h &&& 1 = nI (h % 2) := pk_andN (by omega) 1 (by decide)
theorem zq_bit {h c : Nat} (hh : h < 2147483648) (hc : c < 32) : nI h >>> (nI c &&& 31) &&& 1 = nI (h / 2 ^ c % 2) := by
  rw [zq_shr hh hc]
  exact zq_and1 (Nat.lt_of_le_of_lt (Nat.div_le_self _ _) hh)
theorem zq_pow {c : Nat} (hc : c < 32) : (1 : Int32) <<< (nI c &&& 31) = nI (2 ^ c) := by
  have h2 : 2 ^ c < 2 ^ 32 := Nat.pow_lt_pow_right (by omega) hc
  have := pk_shlN (n := 1) (nI c &&& 31) c (zq_smod c hc) (by omega)
  rw [Nat.one_mul] at this
  exact this
theorem zq_and (a b : Nat) : nI a &&& nI b = nI (a &&& b) := by
  apply Int32.toBitVec_inj.mp
  show BitVec.ofNat 32 a &&& BitVec.ofNat 32 b = BitVec.ofNat 32 (a &&& b)
  apply BitVec.eq_of_getLsbD_eq
  intro i hi
  simp [hi]
theorem zq_or (a b : Nat) : nI a ||| nI b = nI (a ||| b) := by
  apply Int32.toBitVec_inj.mp
  show BitVec.ofNat 32 a ||| BitVec.ofNat 32 b = BitVec.ofNat 32 (a ||| b)
  apply BitVec.eq_of_getLsbD_eq
  intro i hi
  simp [hi]
theorem zq_xor (a b : Nat) : nI a ^^^ nI b = nI (a ^^^ b) := by
  apply Int32.toBitVec_inj.mp
  show BitVec.ofNat 32 a ^^^ BitVec.ofNat 32 b = BitVec.ofNat 32 (a ^^^ b)
  apply BitVec.eq_of_getLsbD_eq
  intro i hi
  simp [hi]
/-- what is in a and not in b -/
def zdf (a b : Nat) : Nat := a ^^^ (a &&& b)
theorem zdf_bit (a b i : Nat) : (zdf a b).testBit i = (a.testBit i && !b.testBit i) := by
  unfold zdf
  rw [Nat.testBit_xor, Nat.testBit_and]
  cases a.testBit i <;> cases b.testBit i <;> rfl
theorem zq_andn (a b : Nat) : nI a &&& (nI b ^^^ -1) = nI (zdf a b) := by
  apply Int32.toBitVec_inj.mp
  show BitVec.ofNat 32 a &&& (BitVec.ofNat 32 b ^^^ (-1 : Int32).toBitVec) = BitVec.ofNat 32 (zdf a b)
  have e : (-1 : Int32).toBitVec = BitVec.allOnes 32 := by decide
  rw [e]
  apply BitVec.eq_of_getLsbD_eq
  intro i hi
  rw [BitVec.getLsbD_and, BitVec.getLsbD_xor, BitVec.getLsbD_allOnes, BitVec.getLsbD_ofNat, BitVec.getLsbD_ofNat, BitVec.getLsbD_ofNat, zdf_bit]
  simp [hi]
theorem zdf_le (a b : Nat) : zdf a b ≤ a := by
  apply Nat.le_of_testBit
  intro i
  rw [zdf_bit]
  simp
  exact fun h _ => h
theorem zdf_lt {a b n : Nat} (h : a < n) : zdf a b < n := Nat.lt_of_le_of_lt (zdf_le a b) h
theorem zq_all {n : Nat} (hn : n ≤ 10) : (1 : Int32) <<< (nI n &&& 31) = nI (2 ^ n) := zq_pow (by omega)
theorem zp_10 {n : Nat} (hn : n ≤ 10) : 1 ≤ 2 ^ n ∧ 2 ^ n ≤ 1024 := ⟨Nat.one_le_two_pow, by
  have := Nat.pow_le_pow_right (n := 2) (by omega) hn
  omega⟩
/-- the cards of which something holds, among the first n -/
def zset (p : Nat → Bool) : Nat → Nat
  | 0 => 0
  | c + 1 => if p c then zset p c ||| 2 ^ c else zset p c
theorem zset_lt (p : Nat → Bool) : ∀ n, zset p n < 2 ^ n
  | 0 => by simp [zset]
  | n + 1 => by
    have ih := zset_lt p n
    unfold zset
    have h2 : 2 ^ (n + 1) = 2 * 2 ^ n := by rw [Nat.pow_succ]; omega
    split
    · exact Nat.or_lt_two_pow (by omega) (by omega)
    · omega
theorem zset_bit (p : Nat → Bool) : ∀ n i, (zset p n).testBit i = (decide (i < n) && p i)
  | 0, i => by simp [zset]
  | n + 1, i => by
    have ih := zset_bit p n i
    unfold zset
    by_cases hp : p n = true
    · rw [if_pos hp, Nat.testBit_or, ih, Nat.testBit_two_pow]
      by_cases h : i = n
      · subst h; simp [hp]
      · have h1 : (decide (n = i)) = false := by simp; omega
        have h2 : (decide (i < n + 1)) = decide (i < n) := by congr 1; apply propext; omega
        rw [h1, h2]; simp
    · rw [if_neg hp, ih]
      by_cases h : i = n
      · subst h; simp [hp]
      · have h2 : (decide (i < n + 1)) = decide (i < n) := by congr 1; apply propext; omega
        rw [h2]
theorem zset_ext {p q : Nat → Bool} {n : Nat} (h : ∀ c, c < n → p c = q c) : zset p n = zset q n := by
  induction n with
  | zero => rfl
  | succ n ih =>
    unfold zset
    rw [ih (fun c hc => h c (by omega)), h n (by omega)]
theorem zn_or0 (a b : Nat) (p : Bool) : (nI a ||| (if p = true then nI b else 0)) = nI (if p then a ||| b else a) := by
  cases p
  · show nI a ||| nI 0 = nI a
    rw [zq_or]; simp
  · exact zq_or a b
