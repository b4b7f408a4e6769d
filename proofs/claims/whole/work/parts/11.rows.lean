/-! ROWS of the pure machine, by instruction: an equation each -/
section RW
variable {sc : zk_X} {d m pc : Nat} {ls : List (Option Value)} {st : List Value} {M : zk_M} {P : Option Value → zk_M → Prop} {c : zk_C}
theorem zr_iconst {n : Int} {v : Int32} (hm : zk_mt m = some c) (hi : zk_lk c.2.2.2.2.2 pc = some (.iconst n)) (hv : Int32.ofInt n = v) : zk_R sc d m pc ls st M P = zk_R sc d m (pc + 1) ls (.int v :: st) M P := by
  subst hv; exact zk_R_nx hm hi rfl
theorem zr_bipush {n : Int} {v : Int32} (hm : zk_mt m = some c) (hi : zk_lk c.2.2.2.2.2 pc = some (.bipush n)) (hv : Int32.ofInt n = v) : zk_R sc d m pc ls st M P = zk_R sc d m (pc + 2) ls (.int v :: st) M P := by
  subst hv; exact zk_R_nx hm hi rfl
theorem zr_sipush {n : Int} {v : Int32} (hm : zk_mt m = some c) (hi : zk_lk c.2.2.2.2.2 pc = some (.sipush n)) (hv : Int32.ofInt n = v) : zk_R sc d m pc ls st M P = zk_R sc d m (pc + 3) ls (.int v :: st) M P := by
  subst hv; exact zk_R_nx hm hi rfl
theorem zr_lconst {n : Fin 2} {v : Int64} (hm : zk_mt m = some c) (hi : zk_lk c.2.2.2.2.2 pc = some (.lconst n)) (hv : Int64.ofNat n.val = v) : zk_R sc d m pc ls st M P = zk_R sc d m (pc + 1) ls (.long v :: st) M P := by
  subst hv; exact zk_R_nx hm hi rfl
theorem zr_ldc {ix : Nat} {v : Int32} (hm : zk_mt m = some c) (hi : zk_lk c.2.2.2.2.2 pc = some (.ldc ix)) (hv : zk_ci c.1 ix = some v) : zk_R sc d m pc ls st M P = zk_R sc d m (pc + 2) ls (.int v :: st) M P := by
  refine zk_R_nx hm hi ?_
  simp only [zk_st, hv]; rfl
theorem zr_ldcs {ix j : Nat} (hm : zk_mt m = some c) (hi : zk_lk c.2.2.2.2.2 pc = some (.ldc ix)) (hv : zk_ci c.1 ix = none) (hj : zk_cs c.1 ix = some j) : zk_R sc d m pc ls st M P = zk_R sc d m (pc + 2) ls (.ref (2000 + j) :: st) M P := by
  refine zk_R_nx hm hi ?_
  simp only [zk_st, hv, hj]; rfl
theorem zr_ldcw {ix : Nat} {v : Int32} (hm : zk_mt m = some c) (hi : zk_lk c.2.2.2.2.2 pc = some (.ldc_w ix)) (hv : zk_ci c.1 ix = some v) : zk_R sc d m pc ls st M P = zk_R sc d m (pc + 3) ls (.int v :: st) M P := by
  refine zk_R_nx hm hi ?_
  simp only [zk_st, hv]; rfl
theorem zr_ldc2 {ix : Nat} {v : Int64} (hm : zk_mt m = some c) (hi : zk_lk c.2.2.2.2.2 pc = some (.ldc2_w ix)) (hv : zk_cj c.1 ix = some v) : zk_R sc d m pc ls st M P = zk_R sc d m (pc + 3) ls (.long v :: st) M P := by
  refine zk_R_nx hm hi ?_
  simp only [zk_st, hv]; rfl
theorem zr_iinc {k : Nat} {n : Int} {x v : Int32} (hm : zk_mt m = some c) (hi : zk_lk c.2.2.2.2.2 pc = some (.iinc k n)) (hk : ls[k]? = some (some (.int x))) (hg : zk_sli c.2.2.2.1 k = true) (hv : Int32.ofInt n = v) : zk_R sc d m pc ls st M P = zk_R sc d m (pc + 3) (ls.set k (some (.int (x + v)))) st M P := by
  subst hv
  refine zk_R_nx hm hi ?_
  simp only [zk_st, hk, hg]; rfl
theorem zr_idiv {x y : Int32} (hm : zk_mt m = some c) (hi : zk_lk c.2.2.2.2.2 pc = some .idiv) (h : ¬ y = 0) : zk_R sc d m pc ls (.int y :: .int x :: st) M P = zk_R sc d m (pc + 1) ls (.int (x / y) :: st) M P := by
  refine zk_R_nx hm hi ?_
  simp only [zk_st]; rw [if_pos h]; rfl
theorem zr_irem {x y : Int32} (hm : zk_mt m = some c) (hi : zk_lk c.2.2.2.2.2 pc = some .irem) (h : ¬ y = 0) : zk_R sc d m pc ls (.int y :: .int x :: st) M P = zk_R sc d m (pc + 1) ls (.int (x - x / y * y) :: st) M P := by
  refine zk_R_nx hm hi ?_
  simp only [zk_st]; rw [if_pos h]; rfl
theorem zr_ldiv {x y : Int64} (hm : zk_mt m = some c) (hi : zk_lk c.2.2.2.2.2 pc = some .ldiv) (h : ¬ y = 0) : zk_R sc d m pc ls (.long y :: .long x :: st) M P = zk_R sc d m (pc + 1) ls (.long (x / y) :: st) M P := by
  refine zk_R_nx hm hi ?_
  simp only [zk_st]; rw [if_pos h]; rfl
theorem zr_lrem {x y : Int64} (hm : zk_mt m = some c) (hi : zk_lk c.2.2.2.2.2 pc = some .lrem) (h : ¬ y = 0) : zk_R sc d m pc ls (.long y :: .long x :: st) M P = zk_R sc d m (pc + 1) ls (.long (x - x / y * y) :: st) M P := by
  refine zk_R_nx hm hi ?_
  simp only [zk_st]; rw [if_pos h]; rfl
theorem zr_ic_eq {x y : Int32} {o : Int} {t : Nat} (hm : zk_mt m = some c) (hi : zk_lk c.2.2.2.2.2 pc = some (.if_icmp .eq o)) (ht : zk_tg pc o = t) : zk_R sc d m pc ls (.int y :: .int x :: st) M P = if x = y then zk_R sc d m t ls st M P else zk_R sc d m (pc + 3) ls st M P := by
  subst ht
  by_cases h : x = y
  · rw [if_pos h]; refine zk_R_nx hm hi ?_; simp [zk_st, zk_cnd, h]; rfl
  · rw [if_neg h]; refine zk_R_nx hm hi ?_; simp [zk_st, zk_cnd, h]; rfl
theorem zr_if_eq {x : Int32} {o : Int} {t : Nat} (hm : zk_mt m = some c) (hi : zk_lk c.2.2.2.2.2 pc = some (.ifCond .eq o)) (ht : zk_tg pc o = t) : zk_R sc d m pc ls (.int x :: st) M P = if x = 0 then zk_R sc d m t ls st M P else zk_R sc d m (pc + 3) ls st M P := by
  subst ht
  by_cases h : x = 0
  · rw [if_pos h]; refine zk_R_nx hm hi ?_; simp [zk_st, zk_cnd, h]; rfl
  · rw [if_neg h]; refine zk_R_nx hm hi ?_; simp [zk_st, zk_cnd, h]; rfl
theorem zr_ic_ne {x y : Int32} {o : Int} {t : Nat} (hm : zk_mt m = some c) (hi : zk_lk c.2.2.2.2.2 pc = some (.if_icmp .ne o)) (ht : zk_tg pc o = t) : zk_R sc d m pc ls (.int y :: .int x :: st) M P = if x = y then zk_R sc d m (pc + 3) ls st M P else zk_R sc d m t ls st M P := by
  subst ht
  by_cases h : x = y
  · rw [if_pos h]; refine zk_R_nx hm hi ?_; simp [zk_st, zk_cnd, h]; rfl
  · rw [if_neg h]; refine zk_R_nx hm hi ?_; simp [zk_st, zk_cnd, h]; rfl
theorem zr_if_ne {x : Int32} {o : Int} {t : Nat} (hm : zk_mt m = some c) (hi : zk_lk c.2.2.2.2.2 pc = some (.ifCond .ne o)) (ht : zk_tg pc o = t) : zk_R sc d m pc ls (.int x :: st) M P = if x = 0 then zk_R sc d m (pc + 3) ls st M P else zk_R sc d m t ls st M P := by
  subst ht
  by_cases h : x = 0
  · rw [if_pos h]; refine zk_R_nx hm hi ?_; simp [zk_st, zk_cnd, h]; rfl
  · rw [if_neg h]; refine zk_R_nx hm hi ?_; simp [zk_st, zk_cnd, h]; rfl
theorem zr_ic_lt {x y : Int32} {o : Int} {t : Nat} (hm : zk_mt m = some c) (hi : zk_lk c.2.2.2.2.2 pc = some (.if_icmp .lt o)) (ht : zk_tg pc o = t) : zk_R sc d m pc ls (.int y :: .int x :: st) M P = if x < y then zk_R sc d m t ls st M P else zk_R sc d m (pc + 3) ls st M P := by
  subst ht
  by_cases h : x < y
  · rw [if_pos h]; refine zk_R_nx hm hi ?_; simp [zk_st, zk_cnd, h]; rfl
  · rw [if_neg h]; refine zk_R_nx hm hi ?_; simp [zk_st, zk_cnd, h]; rfl
theorem zr_if_lt {x : Int32} {o : Int} {t : Nat} (hm : zk_mt m = some c) (hi : zk_lk c.2.2.2.2.2 pc = some (.ifCond .lt o)) (ht : zk_tg pc o = t) : zk_R sc d m pc ls (.int x :: st) M P = if x < 0 then zk_R sc d m t ls st M P else zk_R sc d m (pc + 3) ls st M P := by
  subst ht
  by_cases h : x < 0
  · rw [if_pos h]; refine zk_R_nx hm hi ?_; simp [zk_st, zk_cnd, h]; rfl
  · rw [if_neg h]; refine zk_R_nx hm hi ?_; simp [zk_st, zk_cnd, h]; rfl
theorem zr_ic_ge {x y : Int32} {o : Int} {t : Nat} (hm : zk_mt m = some c) (hi : zk_lk c.2.2.2.2.2 pc = some (.if_icmp .ge o)) (ht : zk_tg pc o = t) : zk_R sc d m pc ls (.int y :: .int x :: st) M P = if y ≤ x then zk_R sc d m t ls st M P else zk_R sc d m (pc + 3) ls st M P := by
  subst ht
  by_cases h : y ≤ x
  · rw [if_pos h]; refine zk_R_nx hm hi ?_; simp [zk_st, zk_cnd, h]; rfl
  · rw [if_neg h]; refine zk_R_nx hm hi ?_; simp [zk_st, zk_cnd, h]; rfl
theorem zr_if_ge {x : Int32} {o : Int} {t : Nat} (hm : zk_mt m = some c) (hi : zk_lk c.2.2.2.2.2 pc = some (.ifCond .ge o)) (ht : zk_tg pc o = t) : zk_R sc d m pc ls (.int x :: st) M P = if 0 ≤ x then zk_R sc d m t ls st M P else zk_R sc d m (pc + 3) ls st M P := by
  subst ht
  by_cases h : 0 ≤ x
  · rw [if_pos h]; refine zk_R_nx hm hi ?_; simp [zk_st, zk_cnd, h]; rfl
  · rw [if_neg h]; refine zk_R_nx hm hi ?_; simp [zk_st, zk_cnd, h]; rfl
theorem zr_ic_gt {x y : Int32} {o : Int} {t : Nat} (hm : zk_mt m = some c) (hi : zk_lk c.2.2.2.2.2 pc = some (.if_icmp .gt o)) (ht : zk_tg pc o = t) : zk_R sc d m pc ls (.int y :: .int x :: st) M P = if y < x then zk_R sc d m t ls st M P else zk_R sc d m (pc + 3) ls st M P := by
  subst ht
  by_cases h : y < x
  · rw [if_pos h]; refine zk_R_nx hm hi ?_; simp [zk_st, zk_cnd, h]; rfl
  · rw [if_neg h]; refine zk_R_nx hm hi ?_; simp [zk_st, zk_cnd, h]; rfl
theorem zr_if_gt {x : Int32} {o : Int} {t : Nat} (hm : zk_mt m = some c) (hi : zk_lk c.2.2.2.2.2 pc = some (.ifCond .gt o)) (ht : zk_tg pc o = t) : zk_R sc d m pc ls (.int x :: st) M P = if 0 < x then zk_R sc d m t ls st M P else zk_R sc d m (pc + 3) ls st M P := by
  subst ht
  by_cases h : 0 < x
  · rw [if_pos h]; refine zk_R_nx hm hi ?_; simp [zk_st, zk_cnd, h]; rfl
  · rw [if_neg h]; refine zk_R_nx hm hi ?_; simp [zk_st, zk_cnd, h]; rfl
theorem zr_ic_le {x y : Int32} {o : Int} {t : Nat} (hm : zk_mt m = some c) (hi : zk_lk c.2.2.2.2.2 pc = some (.if_icmp .le o)) (ht : zk_tg pc o = t) : zk_R sc d m pc ls (.int y :: .int x :: st) M P = if x ≤ y then zk_R sc d m t ls st M P else zk_R sc d m (pc + 3) ls st M P := by
  subst ht
  by_cases h : x ≤ y
  · rw [if_pos h]; refine zk_R_nx hm hi ?_; simp [zk_st, zk_cnd, h]; rfl
  · rw [if_neg h]; refine zk_R_nx hm hi ?_; simp [zk_st, zk_cnd, h]; rfl
theorem zr_if_le {x : Int32} {o : Int} {t : Nat} (hm : zk_mt m = some c) (hi : zk_lk c.2.2.2.2.2 pc = some (.ifCond .le o)) (ht : zk_tg pc o = t) : zk_R sc d m pc ls (.int x :: st) M P = if x ≤ 0 then zk_R sc d m t ls st M P else zk_R sc d m (pc + 3) ls st M P := by
  subst ht
  by_cases h : x ≤ 0
  · rw [if_pos h]; refine zk_R_nx hm hi ?_; simp [zk_st, zk_cnd, h]; rfl
  · rw [if_neg h]; refine zk_R_nx hm hi ?_; simp [zk_st, zk_cnd, h]; rfl
theorem zr_goto {o : Int} {t : Nat} (hm : zk_mt m = some c) (hi : zk_lk c.2.2.2.2.2 pc = some (.goto o)) (ht : zk_tg pc o = t) : zk_R sc d m pc ls st M P = zk_R sc d m t ls st M P := by
  subst ht; exact zk_R_nx hm hi rfl
theorem zr_sw {dd lo hi' : Int} {offs : Array Int} {x : Int32} (hm : zk_mt m = some c) (hi : zk_lk c.2.2.2.2.2 pc = some (.tableswitch dd lo hi' offs)) (hs : (offs.size : Int) = hi' - lo + 1) : zk_R sc d m pc ls (.int x :: st) M P = zk_R sc d m (zk_sw pc dd lo hi' offs x) ls st M P := by
  refine zk_R_nx hm hi ?_
  simp only [zk_st]
  rw [if_pos (by omega)]
  rfl
theorem zr_swo {pc : Nat} {dd lo hi' : Int} {offs : Array Int} {x : Int32} (h : x.toInt < lo ∨ hi' < x.toInt) : zk_sw pc dd lo hi' offs x = zk_tg pc dd := by
  unfold zk_sw; rw [if_pos h]
theorem zr_gfi {ix ci j : Nat} {k : Nat} (hm : zk_mt m = some c) (hi : zk_lk c.2.2.2.2.2 pc = some (.getfield ix)) (hf : zk_fl c.1 ix = some (ci, j)) (hk : zk_fk ci j = false) (h1 : k < M.1) (h2 : (zk_sh k).1 = 0) (h3 : (zk_sh k).2.1 = ci) : zk_R sc d m pc ls (.ref k :: st) M P = zk_R sc d m (pc + 3) ls (.int (M.2.1 k j) :: st) M P := by
  refine zk_R_nx hm hi ?_
  simp only [zk_st, hf]
  rw [if_pos ⟨Nat.ble_eq_true_of_le h1, h2, h3⟩, hk]
  rfl
theorem zr_gfr {ix ci j : Nat} {k : Nat} (hm : zk_mt m = some c) (hi : zk_lk c.2.2.2.2.2 pc = some (.getfield ix)) (hf : zk_fl c.1 ix = some (ci, j)) (hk : zk_fk ci j = true) (h1 : k < M.1) (h2 : (zk_sh k).1 = 0) (h3 : (zk_sh k).2.1 = ci) : zk_R sc d m pc ls (.ref k :: st) M P = zk_R sc d m (pc + 3) ls (zk_rv (M.2.2 k j) :: st) M P := by
  refine zk_R_nx hm hi ?_
  simp only [zk_st, hf]
  rw [if_pos ⟨Nat.ble_eq_true_of_le h1, h2, h3⟩, hk]
  rfl
theorem zr_pfi {ix ci j : Nat} {k : Nat} {v : Int32} (hm : zk_mt m = some c) (hi : zk_lk c.2.2.2.2.2 pc = some (.putfield ix)) (hf : zk_fl c.1 ix = some (ci, j)) (hk : zk_fk ci j = false) (hn : zk_ff ci j = false) (hb : zk_fb ci j = false) (h1 : k < M.1) (h2 : (zk_sh k).1 = 0) (h3 : (zk_sh k).2.1 = ci) : zk_R sc d m pc ls (.int v :: .ref k :: st) M P = zk_R sc d m (pc + 3) ls st (zk_setI M k j v) P := by
  refine zk_R_nx hm hi ?_
  simp only [zk_st, hf]
  rw [if_pos ⟨Nat.ble_eq_true_of_le h1, h2, h3, hk, hn, Or.inl hb⟩]
  rfl
theorem zr_pfb {ix ci j : Nat} {k : Nat} {v : Int32} (hm : zk_mt m = some c) (hi : zk_lk c.2.2.2.2.2 pc = some (.putfield ix)) (hf : zk_fl c.1 ix = some (ci, j)) (hk : zk_fk ci j = false) (hn : zk_ff ci j = false) (h0 : v = 0 ∨ v = 1) (h1 : k < M.1) (h2 : (zk_sh k).1 = 0) (h3 : (zk_sh k).2.1 = ci) : zk_R sc d m pc ls (.int v :: .ref k :: st) M P = zk_R sc d m (pc + 3) ls st (zk_setI M k j v) P := by
  refine zk_R_nx hm hi ?_
  simp only [zk_st, hf]
  rw [if_pos ⟨Nat.ble_eq_true_of_le h1, h2, h3, hk, hn, Or.inr h0⟩]
  rfl
theorem zr_pfr {ix ci j : Nat} {k r : Nat} (hm : zk_mt m = some c) (hi : zk_lk c.2.2.2.2.2 pc = some (.putfield ix)) (hf : zk_fl c.1 ix = some (ci, j)) (hk : zk_fk ci j = true) (hn : zk_ff ci j = false) (h1 : k < M.1) (h2 : (zk_sh k).1 = 0) (h3 : (zk_sh k).2.1 = ci) (h4 : r < M.1) : zk_R sc d m pc ls (.ref r :: .ref k :: st) M P = zk_R sc d m (pc + 3) ls st (zk_setR M k j (some r)) P := by
  refine zk_R_nx hm hi ?_
  simp only [zk_st, hf]
  rw [if_pos ⟨Nat.ble_eq_true_of_le h1, h2, h3, hk, Or.inl hn, Nat.ble_eq_true_of_le h4⟩]
  rfl
theorem zr_gs {ix : Nat} (hm : zk_mt m = some c) (hi : zk_lk c.2.2.2.2.2 pc = some (.getstatic ix)) (h : (Nat.beq c.1 0 && Nat.beq ix 310) = true) : zk_R sc d m pc ls st M P = zk_R sc d m (pc + 3) ls (.ref 1001 :: st) M P := by
  refine zk_R_nx hm hi ?_
  simp only [zk_st, h]
  rfl
theorem zr_alen {k : Nat} (hm : zk_mt m = some c) (hi : zk_lk c.2.2.2.2.2 pc = some .arraylength) (h1 : k < M.1) (h2 : 1 ≤ (zk_sh k).1) (h3 : (zk_sh k).1 ≤ 3) : zk_R sc d m pc ls (.ref k :: st) M P = zk_R sc d m (pc + 1) ls (.int (nI (zk_sh k).2.1) :: st) M P := by
  refine zk_R_nx hm hi ?_
  simp only [zk_st]
  rw [if_pos ⟨Nat.ble_eq_true_of_le h1, h2, h3⟩]
  rfl
theorem zr_alenx {k n : Nat} {f : Nat → Int32} (hm : zk_mt m = some c) (hi : zk_lk c.2.2.2.2.2 pc = some .arraylength) (h1 : M.1 ≤ k) (h2 : zk_ext sc k = some (n, f)) : zk_R sc d m pc ls (.ref k :: st) M P = zk_R sc d m (pc + 1) ls (.int (nI n) :: st) M P := by
  refine zk_R_nx hm hi ?_
  have hno : ¬ Nat.blt k M.1 = true := fun z => by
    have := Nat.le_of_ble_eq_true z
    omega
  simp only [zk_st]
  rw [if_neg (fun z => hno z.1), if_pos (Nat.ble_eq_true_of_le h1), h2]
  rfl
theorem zr_iald {i : Int32} {k : Nat} (hm : zk_mt m = some c) (hi : zk_lk c.2.2.2.2.2 pc = some .iaload) (h1 : k < M.1) (h2 : (zk_sh k).1 = 1) : zk_R sc d m pc ls (.int i :: .ref k :: st) M P = (zk_inb i (zk_sh k).2.1 = true ∧ zk_R sc d m (pc + 1) ls (.int (M.2.1 k i.toNatClampNeg) :: st) M P) := by
  by_cases h : zk_inb i (zk_sh k).2.1 = true
  · have : zk_st sc c pc .iaload ls (.int i :: .ref k :: st) M = zk_nx (pc + 1) ls (.int (M.2.1 k i.toNatClampNeg) :: st) M := by
      simp only [zk_st]
      rw [if_pos ⟨Nat.ble_eq_true_of_le h1, h2, h⟩]
    rw [zk_R_nx hm hi this]
    simp [h]
  · have : zk_st sc c pc .iaload ls (.int i :: .ref k :: st) M = none := by
      simp only [zk_st]
      rw [if_neg (fun z => h z.2.2), if_neg (fun z => by have := Nat.le_of_ble_eq_true z; omega)]
    rw [zk_R_no hm hi this]
    simp [h]
theorem zr_ialdx {i : Int32} {k n : Nat} {f : Nat → Int32} (hm : zk_mt m = some c) (hi : zk_lk c.2.2.2.2.2 pc = some .iaload) (h1 : M.1 ≤ k) (h2 : zk_ext sc k = some (n, f)) : zk_R sc d m pc ls (.int i :: .ref k :: st) M P = (zk_inb i n = true ∧ zk_R sc d m (pc + 1) ls (.int (f i.toNatClampNeg) :: st) M P) := by
  have hno : ¬ Nat.blt k M.1 = true := fun z => by
    have := Nat.le_of_ble_eq_true z
    omega
  cases h : zk_inb i n with
  | true =>
    have : zk_st sc c pc .iaload ls (.int i :: .ref k :: st) M = zk_nx (pc + 1) ls (.int (f i.toNatClampNeg) :: st) M := by
      simp only [zk_st]
      rw [if_neg (fun z => hno z.1), if_pos (Nat.ble_eq_true_of_le h1), h2]
      simp only [h]
      rfl
    rw [zk_R_nx hm hi this]
    simp
  | false =>
    have : zk_st sc c pc .iaload ls (.int i :: .ref k :: st) M = none := by
      simp only [zk_st]
      rw [if_neg (fun z => hno z.1), if_pos (Nat.ble_eq_true_of_le h1), h2]
      simp only [h]
      rfl
    rw [zk_R_no hm hi this]
    simp
theorem zr_bald {i : Int32} {k : Nat} (hm : zk_mt m = some c) (hi : zk_lk c.2.2.2.2.2 pc = some .baload) (h1 : k < M.1) (h2 : (zk_sh k).1 = 2) : zk_R sc d m pc ls (.int i :: .ref k :: st) M P = (zk_inb i (zk_sh k).2.1 = true ∧ zk_R sc d m (pc + 1) ls (.int (M.2.1 k i.toNatClampNeg) :: st) M P) := by
  rw [zk_R_if (g := Nat.blt k M.1 = true ∧ (zk_sh k).1 = 2 ∧ zk_inb i (zk_sh k).2.1 = true) (pc' := pc + 1) (ls' := ls) (st' := .int (M.2.1 k i.toNatClampNeg) :: st) (M' := M) hm hi rfl]
  simp [Nat.ble_eq_true_of_le h1, h2, Nat.blt]
theorem zr_aald {i : Int32} {k : Nat} (hm : zk_mt m = some c) (hi : zk_lk c.2.2.2.2.2 pc = some .aaload) (h1 : k < M.1) (h2 : (zk_sh k).1 = 3) : zk_R sc d m pc ls (.int i :: .ref k :: st) M P = (zk_inb i (zk_sh k).2.1 = true ∧ zk_R sc d m (pc + 1) ls (zk_rv (M.2.2 k i.toNatClampNeg) :: st) M P) := by
  rw [zk_R_if (g := Nat.blt k M.1 = true ∧ (zk_sh k).1 = 3 ∧ zk_inb i (zk_sh k).2.1 = true) (pc' := pc + 1) (ls' := ls) (st' := zk_rv (M.2.2 k i.toNatClampNeg) :: st) (M' := M) hm hi rfl]
  simp [Nat.ble_eq_true_of_le h1, h2, Nat.blt]
theorem zr_iast {i v : Int32} {k : Nat} (hm : zk_mt m = some c) (hi : zk_lk c.2.2.2.2.2 pc = some .iastore) (h1 : k < M.1) (h2 : (zk_sh k).1 = 1) : zk_R sc d m pc ls (.int v :: .int i :: .ref k :: st) M P = (zk_inb i (zk_sh k).2.1 = true ∧ zk_R sc d m (pc + 1) ls st (zk_setI M k i.toNatClampNeg v) P) := by
  rw [zk_R_if (g := Nat.blt k M.1 = true ∧ (zk_sh k).1 = 1 ∧ zk_inb i (zk_sh k).2.1 = true) (pc' := pc + 1) (ls' := ls) (st' := st) (M' := zk_setI M k i.toNatClampNeg v) hm hi rfl]
  simp [Nat.ble_eq_true_of_le h1, h2, Nat.blt]
theorem zr_bast {i v : Int32} {k : Nat} (hm : zk_mt m = some c) (hi : zk_lk c.2.2.2.2.2 pc = some .bastore) (h1 : k < M.1) (h2 : (zk_sh k).1 = 2) : zk_R sc d m pc ls (.int v :: .int i :: .ref k :: st) M P = (zk_inb i (zk_sh k).2.1 = true ∧ zk_R sc d m (pc + 1) ls st (zk_setI M k i.toNatClampNeg (vp_nar .boolean v)) P) := by
  rw [zk_R_if (g := Nat.blt k M.1 = true ∧ (zk_sh k).1 = 2 ∧ zk_inb i (zk_sh k).2.1 = true) (pc' := pc + 1) (ls' := ls) (st' := st) (M' := zk_setI M k i.toNatClampNeg (vp_nar .boolean v)) hm hi rfl]
  simp [Nat.ble_eq_true_of_le h1, h2, Nat.blt]
theorem zr_mmax {ix z : Nat} {x y : Int32} (hm : zk_mt m = some c) (hi : zk_lk c.2.2.2.2.2 pc = some (.invokestatic ix)) (hc : zk_cl c.1 ix = some (5, z)) (hl : Nat.ble st.length 4 = true) : zk_R sc d m pc ls (.int y :: .int x :: st) M P = zk_R sc d m (pc + 3) ls (.int (if x < y then y else x) :: st) M P := by
  refine zk_R_nx hm hi ?_
  simp only [zk_st, hc, hl]; rfl
theorem zr_mmin {ix z : Nat} {x y : Int32} (hm : zk_mt m = some c) (hi : zk_lk c.2.2.2.2.2 pc = some (.invokestatic ix)) (hc : zk_cl c.1 ix = some (6, z)) (hl : Nat.ble st.length 4 = true) : zk_R sc d m pc ls (.int y :: .int x :: st) M P = zk_R sc d m (pc + 3) ls (.int (if y < x then y else x) :: st) M P := by
  refine zk_R_nx hm hi ?_
  simp only [zk_st, hc, hl]; rfl
theorem zr_mabs {ix z : Nat} {x : Int32} (hm : zk_mt m = some c) (hi : zk_lk c.2.2.2.2.2 pc = some (.invokestatic ix)) (hc : zk_cl c.1 ix = some (7, z)) (hl : Nat.ble st.length 4 = true) : zk_R sc d m pc ls (.int x :: st) M P = zk_R sc d m (pc + 3) ls (.int (if 0 ≤ x then x else 0 - x) :: st) M P := by
  refine zk_R_nx hm hi ?_
  simp only [zk_st, hc, hl]; rfl
theorem zr_acpy {ix z : Nat} {n dp sp : Int32} {a b : Nat} (hm : zk_mt m = some c) (hi : zk_lk c.2.2.2.2.2 pc = some (.invokestatic ix)) (hc : zk_cl c.1 ix = some (8, z)) (hl : st.length ≤ 4) (h0 : 83 ≤ M.1) (ha : a < M.1) (hb : b < M.1) (ha1 : (zk_sh a).1 = 1) (hb1 : (zk_sh b).1 = 1) (hn : 0 ≤ n.toInt) (hs : 0 ≤ sp.toInt) (hd : 0 ≤ dp.toInt) (h1 : sp.toInt + n.toInt ≤ (zk_sh a).2.1) (h2 : dp.toInt + n.toInt ≤ (zk_sh b).2.1) : zk_R sc d m pc ls (.int n :: .int dp :: .ref b :: .int sp :: .ref a :: st) M P = zk_R sc d m (pc + 3) ls st (zk_cpy M a sp.toNatClampNeg b dp.toNatClampNeg n.toNatClampNeg) P := by
  refine zk_R_nx hm hi ?_
  simp only [zk_st, hc]
  rw [if_pos ⟨⟨Nat.ble_eq_true_of_le h0, Nat.ble_eq_true_of_le ha, Nat.ble_eq_true_of_le hb, ha1, hb1⟩, hl, hn, hs, hd, h1, h2⟩]
  rfl
theorem zr_slen {ix z : Nat} {j : Nat} (hm : zk_mt m = some c) (hi : zk_lk c.2.2.2.2.2 pc = some (.invokevirtual ix)) (hc : zk_cl c.1 ix = some (9, z)) (hl : Nat.ble st.length 4 = true) (hj : j < 12) : zk_R sc d m pc ls (.ref (2000 + j) :: st) M P = zk_R sc d m (pc + 3) ls (.int (zk_sln j) :: st) M P := by
  refine zk_R_nx hm hi ?_
  have h1 : Nat.ble 2000 (2000 + j) = true := Nat.ble_eq_true_of_le (by omega)
  have h2 : Nat.blt (2000 + j) 2012 = true := Nat.ble_eq_true_of_le (by omega)
  simp only [zk_st, hc, hl, h1, h2]
  rw [Nat.add_sub_cancel_left]
  rfl
theorem zr_sch {ix z : Nat} {j : Nat} {i : Int32} (hm : zk_mt m = some c) (hi : zk_lk c.2.2.2.2.2 pc = some (.invokevirtual ix)) (hc : zk_cl c.1 ix = some (10, z)) (hl : st.length ≤ 4) (hj : j < 12) : zk_R sc d m pc ls (.int i :: .ref (2000 + j) :: st) M P = (zk_inb i (zk_sle j) = true ∧ zk_R sc d m (pc + 3) ls (.int (zk_sch j i.toNatClampNeg) :: st) M P) := by
  have h1 : Nat.ble 2000 (2000 + j) = true := Nat.ble_eq_true_of_le (by omega)
  have h2 : Nat.blt (2000 + j) 2012 = true := Nat.ble_eq_true_of_le (by omega)
  have e : zk_st sc c pc (.invokevirtual ix) ls (.int i :: .ref (2000 + j) :: st) M = if (Nat.ble 2000 (2000 + j) = true ∧ Nat.blt (2000 + j) 2012 = true) ∧ st.length ≤ 4 ∧ zk_inb i (zk_sle j) = true then zk_nx (pc + 3) ls (.int (zk_sch j i.toNatClampNeg) :: st) M else none := by
    simp only [zk_st, hc]
    rw [Nat.add_sub_cancel_left]
  rw [zk_R_if hm hi e]
  simp [h1, h2, hl]
theorem zr_iv {ix y : Nat} {cy : zk_C} {k : Nat} {as rest : List Value} {e0 : List (Option Value)} (hm : zk_mt m = some c) (hi : zk_lk c.2.2.2.2.2 pc = some (.invokevirtual ix)) (hc : zk_cl c.1 ix = some (0, y)) (hy : zk_mt y = some cy) (hst : st = as.reverse ++ .ref k :: rest) (hn : zk_na y = as.length + 1) (hl : Nat.ble (zk_w rest) 8 = true) (hok : zk_okc y (.ref k :: as) = true) (he : zk_ent cy.2.1 (.ref k :: as) = e0) (h1 : k < M.1) (h2 : (zk_sh k).1 = 0) (h3 : (zk_sh k).2.1 = cy.1) : zk_R sc (d + 1) m pc ls st M P = zk_R sc d y 0 e0 [] M (fun r M' => zk_R sc (d + 1) m (pc + 3) ls (r.toList ++ rest) M' P) := by
  subst he
  refine zk_R_ca hm hi ?_ hy
  have e1 : (st.take (zk_na y)).reverse = .ref k :: as := by
    rw [hst, hn, show as.reverse ++ .ref k :: rest = (as.reverse ++ [.ref k]) ++ rest by simp, List.take_left' (by simp)]
    simp
  have e2 : st.drop (zk_na y) = rest := by
    rw [hst, hn, show as.reverse ++ .ref k :: rest = (as.reverse ++ [.ref k]) ++ rest by simp, List.drop_left' (by simp)]
  have e3 : Nat.ble (zk_na y) st.length = true := Nat.ble_eq_true_of_le (by rw [hst, hn]; simp)
  have e4 : zk_rcv M y (.ref k :: as) = true := by
    unfold zk_rcv
    simp [hy, h2, h3, Nat.blt, Nat.ble_eq_true_of_le h1]
  simp only [zk_st, hc]
  unfold zk_call
  rw [e1, e2, e3, hl, hok, e4]
  rfl
theorem zr_is {ix y : Nat} {cy : zk_C} {as rest : List Value} {e0 : List (Option Value)} (hm : zk_mt m = some c) (hi : zk_lk c.2.2.2.2.2 pc = some (.invokestatic ix)) (hc : zk_cl c.1 ix = some (1, y)) (hy : zk_mt y = some cy) (hst : st = as.reverse ++ rest) (hn : zk_na y = as.length) (hl : Nat.ble (zk_w rest) 8 = true) (hok : zk_okc y as = true) (he : zk_ent cy.2.1 as = e0) : zk_R sc (d + 1) m pc ls st M P = zk_R sc d y 0 e0 [] M (fun r M' => zk_R sc (d + 1) m (pc + 3) ls (r.toList ++ rest) M' P) := by
  subst he
  refine zk_R_ca hm hi ?_ hy
  have e1 : (st.take (zk_na y)).reverse = as := by
    rw [hst, hn, List.take_left' (by simp)]
    simp
  have e2 : st.drop (zk_na y) = rest := by
    rw [hst, hn, List.drop_left' (by simp)]
  have e3 : Nat.ble (zk_na y) st.length = true := Nat.ble_eq_true_of_le (by rw [hst, hn]; simp)
  simp only [zk_st, hc]
  unfold zk_call
  rw [e1, e2, e3, hl, hok]
  rfl
theorem zr_ret {v : Int32} (hm : zk_mt m = some c) (hi : zk_lk c.2.2.2.2.2 pc = some .ireturn) (hr : c.2.2.1 = 1) : zk_R sc d m pc ls [.int v] M P = P (some (.int v)) M := by
  refine zk_R_rt hm hi ?_
  simp only [zk_st, hr]; rfl
theorem zr_retb {v : Int32} (hm : zk_mt m = some c) (hi : zk_lk c.2.2.2.2.2 pc = some .ireturn) (hr : c.2.2.1 = 2) : zk_R sc d m pc ls [.int v] M P = ((v = 0 ∨ v = 1) ∧ P (some (.int v)) M) := by
  by_cases h : v = 0 ∨ v = 1
  · have : zk_st sc c pc .ireturn ls [.int v] M = some (.inr (.inr (some (.int v)))) := by
      simp only [zk_st, hr]
      show (if Nat.beq 2 2 = true ∧ (v = 0 ∨ v = 1) then _ else _) = _
      rw [if_pos ⟨rfl, h⟩]
    rw [zk_R_rt hm hi this]
    simp [h]
  · have : zk_st sc c pc .ireturn ls [.int v] M = none := by
      simp only [zk_st, hr]
      show (if Nat.beq 2 2 = true ∧ (v = 0 ∨ v = 1) then _ else _) = _
      rw [if_neg (fun z => h z.2)]
    rw [zk_R_no hm hi this]
    simp [h]
theorem zr_retl {v : Int64} (hm : zk_mt m = some c) (hi : zk_lk c.2.2.2.2.2 pc = some .lreturn) (hr : c.2.2.1 = 3) : zk_R sc d m pc ls [.long v] M P = P (some (.long v)) M := by
  refine zk_R_rt hm hi ?_
  simp only [zk_st, hr]; rfl
theorem zr_reta {k : Nat} (hm : zk_mt m = some c) (hi : zk_lk c.2.2.2.2.2 pc = some .areturn) (hr : c.2.2.1 = 4) : zk_R sc d m pc ls [.ref k] M P = P (some (.ref k)) M := by
  refine zk_R_rt hm hi ?_
  simp only [zk_st, hr]; rfl
theorem zr_retv (hm : zk_mt m = some c) (hi : zk_lk c.2.2.2.2.2 pc = some .return_) (hr : c.2.2.1 = 0) : zk_R sc d m pc ls [] M P = P none M := by
  refine zk_R_rt hm hi ?_
  simp only [zk_st, hr]; rfl
end RW
