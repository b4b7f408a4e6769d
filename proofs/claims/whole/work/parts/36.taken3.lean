/-! taken -/
def zA_taken (I : Nat → Nat → Int32) (n : Nat) (T e : Nat → Nat) (i kind : Int32) : Int32 := if 0 ≤ kind ∧ kind ≤ 6 then (if 0 ≤ i ∧ i ≤ 11 then (if i = 0 then zA_tk I n T e (zv_lie I n 1) kind else if i = 1 then zA_tk I n T e (zv_lie I n 2) kind else if i.toNatClampNeg - 2 < n then zA_card (I 2 (i.toNatClampNeg - 2)) kind (nI (i.toNatClampNeg - 2)) else -100011) else -100012) else -100000
theorem s60 {sc : zk_X} {d : Nat} {I : Nat → Nat → Int32} {tg : Option Nat} {P : Option Value → zk_M → Prop} {n c : Nat} {kind : Int32} (hj : zj_tab I n) (hc : c < 2147483648) (K : P (some (.int (if c < n then zA_card (I 2 c) kind (nI c) else -100011))) (zk_mk I tg)) : zk_R sc (d + 1) 60 0 [some (.ref (0 : Nat)), some (.int (nI c)), some (.int kind), none, none] [] (zk_mk I tg) P := by
  have h10 := hj.2.2.1
  have y1 : (0 ≤ nI c ∧ nI c < nI n) = (c < n) := by
    rw [zn_lt hc (by omega)]
    apply propext
    constructor
    · exact fun h => h.2
    · exact fun h => ⟨Int32.not_lt.mp (zt_lit0 hc), h⟩
  simp only [u60_0, u60_1, u60_4, u60_5, u60_8, u60_11, u60_14, u60_15, u60_16, u60_19, u60_22, u60_23, u60_24, u60_25, u60_26, u60_30, u60_32, u60_35, u60_36, u60_39, u60_40, u60_41, u60_44, u60_45, u60_46, u60_49, u60_50, u60_51, u60_52, u60_55, u60_58, u60_61, zk_mk_1, zk_mk_I, zk_mk_R, zk_mk_set, zk_mk_setR, zk_mk_cpy, zk_rv_some, zk_rv_none, Option.toList_some, Option.toList_none, List.cons_append, List.nil_append, reduceIte, eq_self, Nat.reduceLT, Nat.reduceEqDiff, and_true, true_and, reduceCtorEq, zsh_0, zsh_1, zsh_2, zrf_0_0, zrf_1_0, s93, hj.1, zb_z, y1]
  by_cases h : c < n
  · obtain ⟨-, ⟨kk, hkk, hk⟩, -⟩ := hj.2.2.2 c h
    have z1 : zk_inb (nI c) 10 = true := by rw [zn_in (by omega)]; omega
    have z2 : (nI c).toNatClampNeg = c := zn_cl (by omega)
    rw [if_pos h, hk] at K
    rw [if_neg (fun q => q h), z2, hk]
    exact ⟨z1, s60_lp hkk K⟩
  · rw [if_neg h] at K
    rw [if_pos h]
    exact K
