/-! ONE INSTRUCTION: the machine does what the pure machine says -/
def zs_bytes (c : zk_C) : Nat := c.2.1
def zs_fr (d : Nat) : Nat := d + 12
def zs_lox (d : Nat) : Nat := (d + 12) * 60
def zs_sl (n : Nat) : Nat := ((zk_shL.take n).map (fun e => if e.1 = 0 then e.2.2 else e.2.1)).sum
/-- what stays outside of the world: the tables, the texts, the script -/
def zs_P (base : Nat) (ad adV : Nat → Nat) (sc : zk_X) (U : State) (H : Heap) : Prop :=
  (∀ k e, zk_ext sc k = some e → va_T .int (ad k) e.1 (fun j => .int (e.2 j)) (zs_A base) U H) ∧
  va_Z "TwoHeapsAlike" "KIND_ABOVE" "[I" (.ref (ad 1001)) (zs_A base) U H ∧
  (∀ e ∈ zk_clL, e.2.2.1 = 3 → va_Nw (.methodLinkNest (zk_own e.1) e.2.1 (zk_yn e.2.2.2) "TwoHeapsAlike") U) ∧
  (va_AO "TwoHeapsAlike$Text" U ∧ va_AO "TwoHeapsAlike$Sheet" U) ∧
  (∀ e ∈ zk_csL, ∃ tx, vk_R (zk_own e.1) e.2.1 tx (ad (2000 + e.2.2)) U) ∧
  vk_S 12 (zk_lit.map List.length) zk_lit (fun i => ad (2000 + i)) adV (zs_A base) U H ∧
  va_Z "java/lang/String" "COMPACT_STRINGS" "Z" (.int 1) (zs_A base) U H ∧
  va_Zq "jdk/internal/util/Preconditions" "SIOOBE_FORMATTER" "Ljava/util/function/BiFunction;" (zs_A base) U H
theorem zs_P_moved {base : Nat} {ad adV : Nat → Nat} {sc : zk_X} {s U : State} {H H' : Heap} (hW : s.WarmedH U.vm) (hs : H.size ≤ H'.size) (hk : ∀ a : Nat, a < H.size → ¬ zs_A base a → H'[a]? = H[a]?) (h : zs_P base ad adV sc s H) : zs_P base ad adV sc U H' := by
  obtain ⟨h1, h2, h3, h4, h5, h6, h7, h8⟩ := h
  refine ⟨fun k e he => ?_, (va_Z.moved hW.alike h2).kept hk, fun e he h => va_Nw.warmM hW (h3 e he h), ⟨va_AO.moved hW.alike h4.1, va_AO.moved hW.alike h4.2⟩, fun e he => ?_, (vk_S.moved hW.alike h6).kept hk, (va_Z.moved hW.alike h7).kept hk, (va_Zq.moved hW.alike h8).kept hk⟩
  · exact (va_T.moved hW.alike (h1 k e he)).kept hk
  · obtain ⟨tx, ht⟩ := h5 e he
    exact ⟨tx, vk_R.warm hW ht⟩
section SI
variable {p : Program} {l : Launch} {e : Env} {R : Room} {s : State} {m : MethodId} {args : Array Value} {below : List Frame} {meth : Method} {c0 : Code} {Q : State → Prop}
variable {base n0 nx : Nat} {ad adV : Nat → Nat} {Y : zs_Y} {D : va_G} {sc : zk_X} {y : Nat} {c : zk_C}
/-- a frame's fixed part -/
def zs_C (p : Program) (R : Room) (s : State) (m : MethodId) (args : Array Value) (meth : Method) (c0 : Code) (base n0 nx : Nat) (ad adV : Nat → Nat) (Y : zs_Y) (D : va_G) (sc : zk_X) (y : Nat) (c : zk_C) (d : Nat) : Prop :=
  zk_mt y = some c ∧ p.tables.exec = Jvm.exec ∧ c0.code = zk_by y ∧ c0.maxLocals = c.2.1 ∧ s.vm.findClass (zk_own c.1) = some m.cls ∧ (∀ w ∈ zg_tab, w.before args s = true) ∧ (c.2.2.2.2.1 = true → meth.name = "<init>") ∧ zs_K D Y s ∧ zs_P base ad adV sc s s.heap ∧ (∀ k, k < 1000 → ad k = base + k) ∧
  (zs_fr d ≤ R.frames ∧ zs_lox d ≤ R.locals ∧ nx - n0 ≤ R.cells ∧ zs_sl nx - zs_sl n0 ≤ R.slots) ∧ (base ≤ s.heap.size)
def zs_G (p : Program) (l : Launch) (e : Env) (R : Room) (s : State) (m : MethodId) (args : Array Value) (below : List Frame) (meth : Method) (c0 : Code) (Q : State → Prop) (base n0 : Nat) (ad : Nat → Nat) (Y : zs_Y) (D : va_G) (c : zk_C) (pc : Nat) (ls : List (Option Value)) (st : List Value) (M : zk_M) : Prop :=
  ∀ (H : Heap) (locs : List Loc) (arr : Array Slot), zs_W base ad Y D M H → n0 ≤ M.1 → va_S (zs_A base) s.heap H locs → zs_L ad c arr ls → W p l e R s m args below meth c0 H locs (M.1 - n0) (zs_sl M.1 - zs_sl n0) Q (F0 m pc arr (st.map (zs_mv ad)))
theorem zs_pc {pc : Nat} {off : Int} (h : decide (0 ≤ (pc : Int) + off) = true) : (pc : Int) + off = (zk_tg pc off : Int) := by
  have := of_decide_eq_true h
  unfold zk_tg
  omega
theorem zs_in {i : Int32} {n : Nat} (h : zk_inb i n = true) : vp_in i n := vp_in_iff.mpr ((zk_inb_iff i n).mp h)
variable {pc : Nat} {ls : List (Option Value)} {st : List Value} {M : zk_M} {d : Nat}
abbrev zs_nx' (p : Program) (l : Launch) (e : Env) (R : Room) (s : State) (m : MethodId) (args : Array Value) (below : List Frame) (meth : Method) (c0 : Code) (Q : State → Prop) (base n0 : Nat) (ad : Nat → Nat) (Y : zs_Y) (D : va_G) (c : zk_C) (o : Option zk_O) : Prop := ∃ (pc' : Nat) (ls' : List (Option Value)) (st' : List Value) (M' : zk_M), o = some (.inl (pc', ls', st', M')) ∧ zs_G p l e R s m args below meth c0 Q base n0 ad Y D c pc' ls' st' M'

theorem zi_iconst (C : zs_C p R s m args meth c0 base n0 nx ad adV Y D sc y c d) {v : Int} {n : Nat} (hd : zd_P (zk_by y) (pc, .iconst v, n)) (h : zs_nx' p l e R s m args below meth c0 Q base n0 ad Y D c (zk_st sc c pc (.iconst v) ls st M)) : zs_G p l e R s m args below meth c0 Q base n0 ad Y D c pc ls st M := by
  obtain ⟨hmt, hx, hb, hml, hown, hts, hin, hK, hPX, had, hR, hbs⟩ := C
  obtain ⟨hdg, hok⟩ := hd
  obtain ⟨pc', ls', st', M', he, k⟩ := h
  intro H locs arr hw hn hS hl
  have hn1 : n = 1 := Nat.eq_of_beq_eq_true hok
  subst hn1
  cases he
  exact lv_iconst hx hb hdg rfl (k H locs arr hw hn hS hl)
theorem zi_lconst (C : zs_C p R s m args meth c0 base n0 nx ad adV Y D sc y c d) {v : Fin 2} {n : Nat} (hd : zd_P (zk_by y) (pc, .lconst v, n)) (h : zs_nx' p l e R s m args below meth c0 Q base n0 ad Y D c (zk_st sc c pc (.lconst v) ls st M)) : zs_G p l e R s m args below meth c0 Q base n0 ad Y D c pc ls st M := by
  obtain ⟨hmt, hx, hb, hml, hown, hts, hin, hK, hPX, had, hR, hbs⟩ := C
  obtain ⟨hdg, hok⟩ := hd
  obtain ⟨pc', ls', st', M', he, k⟩ := h
  intro H locs arr hw hn hS hl
  have hn1 : n = 1 := Nat.eq_of_beq_eq_true hok
  subst hn1
  cases he
  exact lv_lconst hx hb hdg rfl (k H locs arr hw hn hS hl)
theorem zi_bipush (C : zs_C p R s m args meth c0 base n0 nx ad adV Y D sc y c d) {v : Int} {n : Nat} (hd : zd_P (zk_by y) (pc, .bipush v, n)) (h : zs_nx' p l e R s m args below meth c0 Q base n0 ad Y D c (zk_st sc c pc (.bipush v) ls st M)) : zs_G p l e R s m args below meth c0 Q base n0 ad Y D c pc ls st M := by
  obtain ⟨hmt, hx, hb, hml, hown, hts, hin, hK, hPX, had, hR, hbs⟩ := C
  obtain ⟨hdg, hok⟩ := hd
  obtain ⟨pc', ls', st', M', he, k⟩ := h
  intro H locs arr hw hn hS hl
  simp only [zd_ok, Bool.and_eq_true, decide_eq_true_eq] at hok
  have hn1 : n = 2 := Nat.eq_of_beq_eq_true hok.1
  subst hn1
  cases he
  exact lv_bipush hx hb hdg hok.2 (k H locs arr hw hn hS hl)
theorem zi_sipush (C : zs_C p R s m args meth c0 base n0 nx ad adV Y D sc y c d) {v : Int} {n : Nat} (hd : zd_P (zk_by y) (pc, .sipush v, n)) (h : zs_nx' p l e R s m args below meth c0 Q base n0 ad Y D c (zk_st sc c pc (.sipush v) ls st M)) : zs_G p l e R s m args below meth c0 Q base n0 ad Y D c pc ls st M := by
  obtain ⟨hmt, hx, hb, hml, hown, hts, hin, hK, hPX, had, hR, hbs⟩ := C
  obtain ⟨hdg, hok⟩ := hd
  obtain ⟨pc', ls', st', M', he, k⟩ := h
  intro H locs arr hw hn hS hl
  simp only [zd_ok, Bool.and_eq_true, decide_eq_true_eq] at hok
  have hn1 : n = 3 := Nat.eq_of_beq_eq_true hok.1
  subst hn1
  cases he
  exact lv_sipush hx hb hdg hok.2 (k H locs arr hw hn hS hl)
theorem zi_iload (C : zs_C p R s m args meth c0 base n0 nx ad adV Y D sc y c d) {i : Nat} {n : Nat} (hd : zd_P (zk_by y) (pc, .iload i, n)) (h : zs_nx' p l e R s m args below meth c0 Q base n0 ad Y D c (zk_st sc c pc (.iload i) ls st M)) : zs_G p l e R s m args below meth c0 Q base n0 ad Y D c pc ls st M := by
  obtain ⟨hmt, hx, hb, hml, hown, hts, hin, hK, hPX, had, hR, hbs⟩ := C
  obtain ⟨hdg, hok⟩ := hd
  obtain ⟨pc', ls', st', M', he, k⟩ := h
  intro H locs arr hw hn hS hl
  have hn1 : n = 2 := Nat.eq_of_beq_eq_true hok
  subst hn1
  simp only [zk_st] at he
  split at he
  · next x hx1 => cases he; exact lv_iload hx hb hdg (zs_ld hl hx1) (k H locs arr hw hn hS hl)
  · cases he
theorem zi_iloadn (C : zs_C p R s m args meth c0 base n0 nx ad adV Y D sc y c d) {i : Fin 4} {n : Nat} (hd : zd_P (zk_by y) (pc, .iload_n i, n)) (h : zs_nx' p l e R s m args below meth c0 Q base n0 ad Y D c (zk_st sc c pc (.iload_n i) ls st M)) : zs_G p l e R s m args below meth c0 Q base n0 ad Y D c pc ls st M := by
  obtain ⟨hmt, hx, hb, hml, hown, hts, hin, hK, hPX, had, hR, hbs⟩ := C
  obtain ⟨hdg, hok⟩ := hd
  obtain ⟨pc', ls', st', M', he, k⟩ := h
  intro H locs arr hw hn hS hl
  have hn1 : n = 1 := Nat.eq_of_beq_eq_true hok
  subst hn1
  simp only [zk_st] at he
  split at he
  · next x hx1 => cases he; exact lv_iload_n hx hb hdg rfl (zs_ld hl hx1) (k H locs arr hw hn hS hl)
  · cases he
theorem zi_lload (C : zs_C p R s m args meth c0 base n0 nx ad adV Y D sc y c d) {i : Nat} {n : Nat} (hd : zd_P (zk_by y) (pc, .lload i, n)) (h : zs_nx' p l e R s m args below meth c0 Q base n0 ad Y D c (zk_st sc c pc (.lload i) ls st M)) : zs_G p l e R s m args below meth c0 Q base n0 ad Y D c pc ls st M := by
  obtain ⟨hmt, hx, hb, hml, hown, hts, hin, hK, hPX, had, hR, hbs⟩ := C
  obtain ⟨hdg, hok⟩ := hd
  obtain ⟨pc', ls', st', M', he, k⟩ := h
  intro H locs arr hw hn hS hl
  have hn1 : n = 2 := Nat.eq_of_beq_eq_true hok
  subst hn1
  simp only [zk_st] at he
  split at he
  · next x hx1 => cases he; exact lv_lload hx hb hdg (zs_ld hl hx1) (k H locs arr hw hn hS hl)
  · cases he
theorem zi_lloadn (C : zs_C p R s m args meth c0 base n0 nx ad adV Y D sc y c d) {i : Fin 4} {n : Nat} (hd : zd_P (zk_by y) (pc, .lload_n i, n)) (h : zs_nx' p l e R s m args below meth c0 Q base n0 ad Y D c (zk_st sc c pc (.lload_n i) ls st M)) : zs_G p l e R s m args below meth c0 Q base n0 ad Y D c pc ls st M := by
  obtain ⟨hmt, hx, hb, hml, hown, hts, hin, hK, hPX, had, hR, hbs⟩ := C
  obtain ⟨hdg, hok⟩ := hd
  obtain ⟨pc', ls', st', M', he, k⟩ := h
  intro H locs arr hw hn hS hl
  have hn1 : n = 1 := Nat.eq_of_beq_eq_true hok
  subst hn1
  simp only [zk_st] at he
  split at he
  · next x hx1 => cases he; exact lv_lload_n hx hb hdg rfl (zs_ld hl hx1) (k H locs arr hw hn hS hl)
  · cases he
theorem zi_aload (C : zs_C p R s m args meth c0 base n0 nx ad adV Y D sc y c d) {i : Nat} {n : Nat} (hd : zd_P (zk_by y) (pc, .aload i, n)) (h : zs_nx' p l e R s m args below meth c0 Q base n0 ad Y D c (zk_st sc c pc (.aload i) ls st M)) : zs_G p l e R s m args below meth c0 Q base n0 ad Y D c pc ls st M := by
  obtain ⟨hmt, hx, hb, hml, hown, hts, hin, hK, hPX, had, hR, hbs⟩ := C
  obtain ⟨hdg, hok⟩ := hd
  obtain ⟨pc', ls', st', M', he, k⟩ := h
  intro H locs arr hw hn hS hl
  have hn1 : n = 2 := Nat.eq_of_beq_eq_true hok
  subst hn1
  simp only [zk_st] at he
  split at he
  · next x hx1 => cases he; exact lv_aload hx hb hdg (zs_ld hl hx1) (k H locs arr hw hn hS hl)
  · cases he
theorem zi_aloadn (C : zs_C p R s m args meth c0 base n0 nx ad adV Y D sc y c d) {i : Fin 4} {n : Nat} (hd : zd_P (zk_by y) (pc, .aload_n i, n)) (h : zs_nx' p l e R s m args below meth c0 Q base n0 ad Y D c (zk_st sc c pc (.aload_n i) ls st M)) : zs_G p l e R s m args below meth c0 Q base n0 ad Y D c pc ls st M := by
  obtain ⟨hmt, hx, hb, hml, hown, hts, hin, hK, hPX, had, hR, hbs⟩ := C
  obtain ⟨hdg, hok⟩ := hd
  obtain ⟨pc', ls', st', M', he, k⟩ := h
  intro H locs arr hw hn hS hl
  have hn1 : n = 1 := Nat.eq_of_beq_eq_true hok
  subst hn1
  simp only [zk_st] at he
  split at he
  · next x hx1 => cases he; exact lv_aload_n hx hb hdg rfl (zs_ld hl hx1) (k H locs arr hw hn hS hl)
  · cases he
theorem zi_istore (C : zs_C p R s m args meth c0 base n0 nx ad adV Y D sc y c d) {i : Nat} {n : Nat} (hd : zd_P (zk_by y) (pc, .istore i, n)) (h : zs_nx' p l e R s m args below meth c0 Q base n0 ad Y D c (zk_st sc c pc (.istore i) ls st M)) : zs_G p l e R s m args below meth c0 Q base n0 ad Y D c pc ls st M := by
  obtain ⟨hmt, hx, hb, hml, hown, hts, hin, hK, hPX, had, hR, hbs⟩ := C
  obtain ⟨hdg, hok⟩ := hd
  obtain ⟨pc', ls', st', M', he, k⟩ := h
  intro H locs arr hw hn hS hl
  have hn1 : n = 2 := Nat.eq_of_beq_eq_true hok
  subst hn1
  simp only [zk_st] at he
  split at he
  · next x st1 =>
      cases hg : (zk_sli c.2.2.2.1 i && Nat.blt i ls.length) with
      | false => rw [hg] at he; cases he
      | true =>
        rw [hg] at he; cases he
        rw [Bool.and_eq_true] at hg
        have hlt : i < c.2.1 := by have := Nat.le_of_ble_eq_true hg.2; rw [hl.2.1] at this; exact this
        exact lv_istore hx hb hdg hl.1 hlt rfl (fun arr' h' => k H locs arr' hw hn hS (zs_st1 hl hg.1 rfl rfl h'))
  · cases he
theorem zi_istoren (C : zs_C p R s m args meth c0 base n0 nx ad adV Y D sc y c d) {i : Fin 4} {n : Nat} (hd : zd_P (zk_by y) (pc, .istore_n i, n)) (h : zs_nx' p l e R s m args below meth c0 Q base n0 ad Y D c (zk_st sc c pc (.istore_n i) ls st M)) : zs_G p l e R s m args below meth c0 Q base n0 ad Y D c pc ls st M := by
  obtain ⟨hmt, hx, hb, hml, hown, hts, hin, hK, hPX, had, hR, hbs⟩ := C
  obtain ⟨hdg, hok⟩ := hd
  obtain ⟨pc', ls', st', M', he, k⟩ := h
  intro H locs arr hw hn hS hl
  have hn1 : n = 1 := Nat.eq_of_beq_eq_true hok
  subst hn1
  simp only [zk_st] at he
  split at he
  · next x st1 =>
      cases hg : (zk_sli c.2.2.2.1 i.val && Nat.blt i.val ls.length) with
      | false => rw [hg] at he; cases he
      | true =>
        rw [hg] at he; cases he
        rw [Bool.and_eq_true] at hg
        have hlt : i.val < c.2.1 := by have := Nat.le_of_ble_eq_true hg.2; rw [hl.2.1] at this; exact this
        exact lv_istore_n hx hb hdg rfl hl.1 hlt rfl (fun arr' h' => k H locs arr' hw hn hS (zs_st1 hl hg.1 rfl rfl h'))
  · cases he
theorem zi_astore (C : zs_C p R s m args meth c0 base n0 nx ad adV Y D sc y c d) {i : Nat} {n : Nat} (hd : zd_P (zk_by y) (pc, .astore i, n)) (h : zs_nx' p l e R s m args below meth c0 Q base n0 ad Y D c (zk_st sc c pc (.astore i) ls st M)) : zs_G p l e R s m args below meth c0 Q base n0 ad Y D c pc ls st M := by
  obtain ⟨hmt, hx, hb, hml, hown, hts, hin, hK, hPX, had, hR, hbs⟩ := C
  obtain ⟨hdg, hok⟩ := hd
  obtain ⟨pc', ls', st', M', he, k⟩ := h
  intro H locs arr hw hn hS hl
  have hn1 : n = 2 := Nat.eq_of_beq_eq_true hok
  subst hn1
  simp only [zk_st] at he
  split at he
  · next x st1 =>
      cases hg : (zk_sli c.2.2.2.1 i && Nat.blt i ls.length) with
      | false => rw [hg] at he; cases he
      | true =>
        rw [hg] at he; cases he
        rw [Bool.and_eq_true] at hg
        have hlt : i < c.2.1 := by have := Nat.le_of_ble_eq_true hg.2; rw [hl.2.1] at this; exact this
        exact lv_astore hx hb hdg hl.1 hlt rfl (fun arr' h' => k H locs arr' hw hn hS (zs_st1 hl hg.1 rfl rfl h'))
  · cases he
theorem zi_astoren (C : zs_C p R s m args meth c0 base n0 nx ad adV Y D sc y c d) {i : Fin 4} {n : Nat} (hd : zd_P (zk_by y) (pc, .astore_n i, n)) (h : zs_nx' p l e R s m args below meth c0 Q base n0 ad Y D c (zk_st sc c pc (.astore_n i) ls st M)) : zs_G p l e R s m args below meth c0 Q base n0 ad Y D c pc ls st M := by
  obtain ⟨hmt, hx, hb, hml, hown, hts, hin, hK, hPX, had, hR, hbs⟩ := C
  obtain ⟨hdg, hok⟩ := hd
  obtain ⟨pc', ls', st', M', he, k⟩ := h
  intro H locs arr hw hn hS hl
  have hn1 : n = 1 := Nat.eq_of_beq_eq_true hok
  subst hn1
  simp only [zk_st] at he
  split at he
  · next x st1 =>
      cases hg : (zk_sli c.2.2.2.1 i.val && Nat.blt i.val ls.length) with
      | false => rw [hg] at he; cases he
      | true =>
        rw [hg] at he; cases he
        rw [Bool.and_eq_true] at hg
        have hlt : i.val < c.2.1 := by have := Nat.le_of_ble_eq_true hg.2; rw [hl.2.1] at this; exact this
        exact lv_astore_n hx hb hdg rfl hl.1 hlt rfl (fun arr' h' => k H locs arr' hw hn hS (zs_st1 hl hg.1 rfl rfl h'))
  · cases he
theorem zi_lstore (C : zs_C p R s m args meth c0 base n0 nx ad adV Y D sc y c d) {i : Nat} {n : Nat} (hd : zd_P (zk_by y) (pc, .lstore i, n)) (h : zs_nx' p l e R s m args below meth c0 Q base n0 ad Y D c (zk_st sc c pc (.lstore i) ls st M)) : zs_G p l e R s m args below meth c0 Q base n0 ad Y D c pc ls st M := by
  obtain ⟨hmt, hx, hb, hml, hown, hts, hin, hK, hPX, had, hR, hbs⟩ := C
  obtain ⟨hdg, hok⟩ := hd
  obtain ⟨pc', ls', st', M', he, k⟩ := h
  intro H locs arr hw hn hS hl
  have hn1 : n = 2 := Nat.eq_of_beq_eq_true hok
  subst hn1
  simp only [zk_st] at he
  split at he
  · next x st1 =>
      cases hg : (zk_sli c.2.2.2.1 i && c.2.2.2.1.contains i && Nat.blt (i + 1) ls.length) with
      | false => rw [hg] at he; cases he
      | true =>
        rw [hg] at he; cases he
        simp only [Bool.and_eq_true] at hg
        have hlt : i + 1 < c.2.1 := by have := Nat.le_of_ble_eq_true hg.2; rw [hl.2.1] at this; exact this
        exact lv_lstore hx hb hdg hl.1 hlt rfl (fun arr' h' => k H locs arr' hw hn hS (zs_st2 hl hg.1.1 hg.1.2 h'))
  · cases he
theorem zi_lstoren (C : zs_C p R s m args meth c0 base n0 nx ad adV Y D sc y c d) {i : Fin 4} {n : Nat} (hd : zd_P (zk_by y) (pc, .lstore_n i, n)) (h : zs_nx' p l e R s m args below meth c0 Q base n0 ad Y D c (zk_st sc c pc (.lstore_n i) ls st M)) : zs_G p l e R s m args below meth c0 Q base n0 ad Y D c pc ls st M := by
  obtain ⟨hmt, hx, hb, hml, hown, hts, hin, hK, hPX, had, hR, hbs⟩ := C
  obtain ⟨hdg, hok⟩ := hd
  obtain ⟨pc', ls', st', M', he, k⟩ := h
  intro H locs arr hw hn hS hl
  have hn1 : n = 1 := Nat.eq_of_beq_eq_true hok
  subst hn1
  simp only [zk_st] at he
  split at he
  · next x st1 =>
      cases hg : (zk_sli c.2.2.2.1 i.val && c.2.2.2.1.contains i.val && Nat.blt (i.val + 1) ls.length) with
      | false => rw [hg] at he; cases he
      | true =>
        rw [hg] at he; cases he
        simp only [Bool.and_eq_true] at hg
        have hlt : i.val + 1 < c.2.1 := by have := Nat.le_of_ble_eq_true hg.2; rw [hl.2.1] at this; exact this
        exact lv_lstore_n hx hb hdg rfl hl.1 hlt rfl (fun arr' h' => k H locs arr' hw hn hS (zs_st2 hl hg.1.1 hg.1.2 h'))
  · cases he
theorem zi_iinc (C : zs_C p R s m args meth c0 base n0 nx ad adV Y D sc y c d) {i : Nat} {v : Int} {n : Nat} (hd : zd_P (zk_by y) (pc, .iinc i v, n)) (h : zs_nx' p l e R s m args below meth c0 Q base n0 ad Y D c (zk_st sc c pc (.iinc i v) ls st M)) : zs_G p l e R s m args below meth c0 Q base n0 ad Y D c pc ls st M := by
  obtain ⟨hmt, hx, hb, hml, hown, hts, hin, hK, hPX, had, hR, hbs⟩ := C
  obtain ⟨hdg, hok⟩ := hd
  obtain ⟨pc', ls', st', M', he, k⟩ := h
  intro H locs arr hw hn hS hl
  have hn1 : n = 3 := Nat.eq_of_beq_eq_true hok
  subst hn1
  simp only [zk_st] at he
  split at he
  · next x hx1 =>
      cases hg : zk_sli c.2.2.2.1 i with
      | false => rw [hg] at he; cases he
      | true =>
        rw [hg] at he; cases he
        have hlt : i < c.2.1 := by have := (List.getElem?_eq_some_iff.mp hx1).1; rw [hl.2.1] at this; exact this
        obtain ⟨q, hq⟩ := List.getElem?_of_mem ((zs_lv_mem ad ls 0 (i, .int x)).mpr ⟨i, .int x, hx1, by simp [zs_mv]⟩)
        exact lv_iinc hx hb hdg hl.1 hq rfl hlt rfl (fun arr' h' => k H locs arr' hw hn hS (zs_st1 hl hg rfl rfl h'))
  · cases he
theorem zi_iadd (C : zs_C p R s m args meth c0 base n0 nx ad adV Y D sc y c d) {n : Nat} (hd : zd_P (zk_by y) (pc, .iadd, n)) (h : zs_nx' p l e R s m args below meth c0 Q base n0 ad Y D c (zk_st sc c pc (.iadd) ls st M)) : zs_G p l e R s m args below meth c0 Q base n0 ad Y D c pc ls st M := by
  obtain ⟨hmt, hx, hb, hml, hown, hts, hin, hK, hPX, had, hR, hbs⟩ := C
  obtain ⟨hdg, hok⟩ := hd
  obtain ⟨pc', ls', st', M', he, k⟩ := h
  intro H locs arr hw hn hS hl
  have hn1 : n = 1 := Nat.eq_of_beq_eq_true hok
  subst hn1
  simp only [zk_st] at he
  split at he
  · cases he; exact lv_iadd hx hb hdg (k H locs arr hw hn hS hl)
  · cases he
theorem zi_isub (C : zs_C p R s m args meth c0 base n0 nx ad adV Y D sc y c d) {n : Nat} (hd : zd_P (zk_by y) (pc, .isub, n)) (h : zs_nx' p l e R s m args below meth c0 Q base n0 ad Y D c (zk_st sc c pc (.isub) ls st M)) : zs_G p l e R s m args below meth c0 Q base n0 ad Y D c pc ls st M := by
  obtain ⟨hmt, hx, hb, hml, hown, hts, hin, hK, hPX, had, hR, hbs⟩ := C
  obtain ⟨hdg, hok⟩ := hd
  obtain ⟨pc', ls', st', M', he, k⟩ := h
  intro H locs arr hw hn hS hl
  have hn1 : n = 1 := Nat.eq_of_beq_eq_true hok
  subst hn1
  simp only [zk_st] at he
  split at he
  · cases he; exact lv_isub hx hb hdg (k H locs arr hw hn hS hl)
  · cases he
theorem zi_imul (C : zs_C p R s m args meth c0 base n0 nx ad adV Y D sc y c d) {n : Nat} (hd : zd_P (zk_by y) (pc, .imul, n)) (h : zs_nx' p l e R s m args below meth c0 Q base n0 ad Y D c (zk_st sc c pc (.imul) ls st M)) : zs_G p l e R s m args below meth c0 Q base n0 ad Y D c pc ls st M := by
  obtain ⟨hmt, hx, hb, hml, hown, hts, hin, hK, hPX, had, hR, hbs⟩ := C
  obtain ⟨hdg, hok⟩ := hd
  obtain ⟨pc', ls', st', M', he, k⟩ := h
  intro H locs arr hw hn hS hl
  have hn1 : n = 1 := Nat.eq_of_beq_eq_true hok
  subst hn1
  simp only [zk_st] at he
  split at he
  · cases he; exact lv_imul hx hb hdg (k H locs arr hw hn hS hl)
  · cases he
theorem zi_iand (C : zs_C p R s m args meth c0 base n0 nx ad adV Y D sc y c d) {n : Nat} (hd : zd_P (zk_by y) (pc, .iand, n)) (h : zs_nx' p l e R s m args below meth c0 Q base n0 ad Y D c (zk_st sc c pc (.iand) ls st M)) : zs_G p l e R s m args below meth c0 Q base n0 ad Y D c pc ls st M := by
  obtain ⟨hmt, hx, hb, hml, hown, hts, hin, hK, hPX, had, hR, hbs⟩ := C
  obtain ⟨hdg, hok⟩ := hd
  obtain ⟨pc', ls', st', M', he, k⟩ := h
  intro H locs arr hw hn hS hl
  have hn1 : n = 1 := Nat.eq_of_beq_eq_true hok
  subst hn1
  simp only [zk_st] at he
  split at he
  · cases he; exact lv_iand hx hb hdg (k H locs arr hw hn hS hl)
  · cases he
theorem zi_ior (C : zs_C p R s m args meth c0 base n0 nx ad adV Y D sc y c d) {n : Nat} (hd : zd_P (zk_by y) (pc, .ior, n)) (h : zs_nx' p l e R s m args below meth c0 Q base n0 ad Y D c (zk_st sc c pc (.ior) ls st M)) : zs_G p l e R s m args below meth c0 Q base n0 ad Y D c pc ls st M := by
  obtain ⟨hmt, hx, hb, hml, hown, hts, hin, hK, hPX, had, hR, hbs⟩ := C
  obtain ⟨hdg, hok⟩ := hd
  obtain ⟨pc', ls', st', M', he, k⟩ := h
  intro H locs arr hw hn hS hl
  have hn1 : n = 1 := Nat.eq_of_beq_eq_true hok
  subst hn1
  simp only [zk_st] at he
  split at he
  · cases he; exact lv_ior hx hb hdg (k H locs arr hw hn hS hl)
  · cases he
theorem zi_ixor (C : zs_C p R s m args meth c0 base n0 nx ad adV Y D sc y c d) {n : Nat} (hd : zd_P (zk_by y) (pc, .ixor, n)) (h : zs_nx' p l e R s m args below meth c0 Q base n0 ad Y D c (zk_st sc c pc (.ixor) ls st M)) : zs_G p l e R s m args below meth c0 Q base n0 ad Y D c pc ls st M := by
  obtain ⟨hmt, hx, hb, hml, hown, hts, hin, hK, hPX, had, hR, hbs⟩ := C
  obtain ⟨hdg, hok⟩ := hd
  obtain ⟨pc', ls', st', M', he, k⟩ := h
  intro H locs arr hw hn hS hl
  have hn1 : n = 1 := Nat.eq_of_beq_eq_true hok
  subst hn1
  simp only [zk_st] at he
  split at he
  · cases he; exact lv_ixor hx hb hdg (k H locs arr hw hn hS hl)
  · cases he
theorem zi_ishl (C : zs_C p R s m args meth c0 base n0 nx ad adV Y D sc y c d) {n : Nat} (hd : zd_P (zk_by y) (pc, .ishl, n)) (h : zs_nx' p l e R s m args below meth c0 Q base n0 ad Y D c (zk_st sc c pc (.ishl) ls st M)) : zs_G p l e R s m args below meth c0 Q base n0 ad Y D c pc ls st M := by
  obtain ⟨hmt, hx, hb, hml, hown, hts, hin, hK, hPX, had, hR, hbs⟩ := C
  obtain ⟨hdg, hok⟩ := hd
  obtain ⟨pc', ls', st', M', he, k⟩ := h
  intro H locs arr hw hn hS hl
  have hn1 : n = 1 := Nat.eq_of_beq_eq_true hok
  subst hn1
  simp only [zk_st] at he
  split at he
  · cases he; exact lv_ishl hx hb hdg (k H locs arr hw hn hS hl)
  · cases he
theorem zi_ishr (C : zs_C p R s m args meth c0 base n0 nx ad adV Y D sc y c d) {n : Nat} (hd : zd_P (zk_by y) (pc, .ishr, n)) (h : zs_nx' p l e R s m args below meth c0 Q base n0 ad Y D c (zk_st sc c pc (.ishr) ls st M)) : zs_G p l e R s m args below meth c0 Q base n0 ad Y D c pc ls st M := by
  obtain ⟨hmt, hx, hb, hml, hown, hts, hin, hK, hPX, had, hR, hbs⟩ := C
  obtain ⟨hdg, hok⟩ := hd
  obtain ⟨pc', ls', st', M', he, k⟩ := h
  intro H locs arr hw hn hS hl
  have hn1 : n = 1 := Nat.eq_of_beq_eq_true hok
  subst hn1
  simp only [zk_st] at he
  split at he
  · cases he; exact lv_ishr hx hb hdg (k H locs arr hw hn hS hl)
  · cases he
theorem zi_ladd (C : zs_C p R s m args meth c0 base n0 nx ad adV Y D sc y c d) {n : Nat} (hd : zd_P (zk_by y) (pc, .ladd, n)) (h : zs_nx' p l e R s m args below meth c0 Q base n0 ad Y D c (zk_st sc c pc (.ladd) ls st M)) : zs_G p l e R s m args below meth c0 Q base n0 ad Y D c pc ls st M := by
  obtain ⟨hmt, hx, hb, hml, hown, hts, hin, hK, hPX, had, hR, hbs⟩ := C
  obtain ⟨hdg, hok⟩ := hd
  obtain ⟨pc', ls', st', M', he, k⟩ := h
  intro H locs arr hw hn hS hl
  have hn1 : n = 1 := Nat.eq_of_beq_eq_true hok
  subst hn1
  simp only [zk_st] at he
  split at he
  · cases he; exact lv_ladd hx hb hdg (k H locs arr hw hn hS hl)
  · cases he
theorem zi_lsub (C : zs_C p R s m args meth c0 base n0 nx ad adV Y D sc y c d) {n : Nat} (hd : zd_P (zk_by y) (pc, .lsub, n)) (h : zs_nx' p l e R s m args below meth c0 Q base n0 ad Y D c (zk_st sc c pc (.lsub) ls st M)) : zs_G p l e R s m args below meth c0 Q base n0 ad Y D c pc ls st M := by
  obtain ⟨hmt, hx, hb, hml, hown, hts, hin, hK, hPX, had, hR, hbs⟩ := C
  obtain ⟨hdg, hok⟩ := hd
  obtain ⟨pc', ls', st', M', he, k⟩ := h
  intro H locs arr hw hn hS hl
  have hn1 : n = 1 := Nat.eq_of_beq_eq_true hok
  subst hn1
  simp only [zk_st] at he
  split at he
  · cases he; exact lv_lsub hx hb hdg (k H locs arr hw hn hS hl)
  · cases he
theorem zi_lmul (C : zs_C p R s m args meth c0 base n0 nx ad adV Y D sc y c d) {n : Nat} (hd : zd_P (zk_by y) (pc, .lmul, n)) (h : zs_nx' p l e R s m args below meth c0 Q base n0 ad Y D c (zk_st sc c pc (.lmul) ls st M)) : zs_G p l e R s m args below meth c0 Q base n0 ad Y D c pc ls st M := by
  obtain ⟨hmt, hx, hb, hml, hown, hts, hin, hK, hPX, had, hR, hbs⟩ := C
  obtain ⟨hdg, hok⟩ := hd
  obtain ⟨pc', ls', st', M', he, k⟩ := h
  intro H locs arr hw hn hS hl
  have hn1 : n = 1 := Nat.eq_of_beq_eq_true hok
  subst hn1
  simp only [zk_st] at he
  split at he
  · cases he; exact lv_lmul hx hb hdg (k H locs arr hw hn hS hl)
  · cases he
theorem zi_ineg (C : zs_C p R s m args meth c0 base n0 nx ad adV Y D sc y c d) {n : Nat} (hd : zd_P (zk_by y) (pc, .ineg, n)) (h : zs_nx' p l e R s m args below meth c0 Q base n0 ad Y D c (zk_st sc c pc (.ineg) ls st M)) : zs_G p l e R s m args below meth c0 Q base n0 ad Y D c pc ls st M := by
  obtain ⟨hmt, hx, hb, hml, hown, hts, hin, hK, hPX, had, hR, hbs⟩ := C
  obtain ⟨hdg, hok⟩ := hd
  obtain ⟨pc', ls', st', M', he, k⟩ := h
  intro H locs arr hw hn hS hl
  have hn1 : n = 1 := Nat.eq_of_beq_eq_true hok
  subst hn1
  simp only [zk_st] at he
  split at he
  · cases he; exact lv_ineg hx hb hdg (k H locs arr hw hn hS hl)
  · cases he
theorem zi_iushr (C : zs_C p R s m args meth c0 base n0 nx ad adV Y D sc y c d) {n : Nat} (hd : zd_P (zk_by y) (pc, .iushr, n)) (h : zs_nx' p l e R s m args below meth c0 Q base n0 ad Y D c (zk_st sc c pc (.iushr) ls st M)) : zs_G p l e R s m args below meth c0 Q base n0 ad Y D c pc ls st M := by
  obtain ⟨hmt, hx, hb, hml, hown, hts, hin, hK, hPX, had, hR, hbs⟩ := C
  obtain ⟨hdg, hok⟩ := hd
  obtain ⟨pc', ls', st', M', he, k⟩ := h
  intro H locs arr hw hn hS hl
  have hn1 : n = 1 := Nat.eq_of_beq_eq_true hok
  subst hn1
  simp only [zk_st] at he
  split at he
  · cases he; exact lv_iushr hx hb hdg rfl (k H locs arr hw hn hS hl)
  · cases he
theorem zi_i2l (C : zs_C p R s m args meth c0 base n0 nx ad adV Y D sc y c d) {n : Nat} (hd : zd_P (zk_by y) (pc, .i2l, n)) (h : zs_nx' p l e R s m args below meth c0 Q base n0 ad Y D c (zk_st sc c pc (.i2l) ls st M)) : zs_G p l e R s m args below meth c0 Q base n0 ad Y D c pc ls st M := by
  obtain ⟨hmt, hx, hb, hml, hown, hts, hin, hK, hPX, had, hR, hbs⟩ := C
  obtain ⟨hdg, hok⟩ := hd
  obtain ⟨pc', ls', st', M', he, k⟩ := h
  intro H locs arr hw hn hS hl
  have hn1 : n = 1 := Nat.eq_of_beq_eq_true hok
  subst hn1
  simp only [zk_st] at he
  split at he
  · cases he; exact lv_i2l hx hb hdg rfl (k H locs arr hw hn hS hl)
  · cases he
theorem zi_i2b (C : zs_C p R s m args meth c0 base n0 nx ad adV Y D sc y c d) {n : Nat} (hd : zd_P (zk_by y) (pc, .i2b, n)) (h : zs_nx' p l e R s m args below meth c0 Q base n0 ad Y D c (zk_st sc c pc (.i2b) ls st M)) : zs_G p l e R s m args below meth c0 Q base n0 ad Y D c pc ls st M := by
  obtain ⟨hmt, hx, hb, hml, hown, hts, hin, hK, hPX, had, hR, hbs⟩ := C
  obtain ⟨hdg, hok⟩ := hd
  obtain ⟨pc', ls', st', M', he, k⟩ := h
  intro H locs arr hw hn hS hl
  have hn1 : n = 1 := Nat.eq_of_beq_eq_true hok
  subst hn1
  simp only [zk_st] at he
  split at he
  · cases he; exact lv_i2b hx hb hdg rfl (k H locs arr hw hn hS hl)
  · cases he
theorem zi_i2s (C : zs_C p R s m args meth c0 base n0 nx ad adV Y D sc y c d) {n : Nat} (hd : zd_P (zk_by y) (pc, .i2s, n)) (h : zs_nx' p l e R s m args below meth c0 Q base n0 ad Y D c (zk_st sc c pc (.i2s) ls st M)) : zs_G p l e R s m args below meth c0 Q base n0 ad Y D c pc ls st M := by
  obtain ⟨hmt, hx, hb, hml, hown, hts, hin, hK, hPX, had, hR, hbs⟩ := C
  obtain ⟨hdg, hok⟩ := hd
  obtain ⟨pc', ls', st', M', he, k⟩ := h
  intro H locs arr hw hn hS hl
  have hn1 : n = 1 := Nat.eq_of_beq_eq_true hok
  subst hn1
  simp only [zk_st] at he
  split at he
  · cases he; exact lv_i2s hx hb hdg rfl (k H locs arr hw hn hS hl)
  · cases he
theorem zi_lcmp (C : zs_C p R s m args meth c0 base n0 nx ad adV Y D sc y c d) {n : Nat} (hd : zd_P (zk_by y) (pc, .lcmp, n)) (h : zs_nx' p l e R s m args below meth c0 Q base n0 ad Y D c (zk_st sc c pc (.lcmp) ls st M)) : zs_G p l e R s m args below meth c0 Q base n0 ad Y D c pc ls st M := by
  obtain ⟨hmt, hx, hb, hml, hown, hts, hin, hK, hPX, had, hR, hbs⟩ := C
  obtain ⟨hdg, hok⟩ := hd
  obtain ⟨pc', ls', st', M', he, k⟩ := h
  intro H locs arr hw hn hS hl
  have hn1 : n = 1 := Nat.eq_of_beq_eq_true hok
  subst hn1
  simp only [zk_st] at he
  split at he
  · cases he; exact W.lcmp hx hb hdg (k H locs arr hw hn hS hl)
  · cases he
theorem zi_idiv (C : zs_C p R s m args meth c0 base n0 nx ad adV Y D sc y c d) {n : Nat} (hd : zd_P (zk_by y) (pc, .idiv, n)) (h : zs_nx' p l e R s m args below meth c0 Q base n0 ad Y D c (zk_st sc c pc (.idiv) ls st M)) : zs_G p l e R s m args below meth c0 Q base n0 ad Y D c pc ls st M := by
  obtain ⟨hmt, hx, hb, hml, hown, hts, hin, hK, hPX, had, hR, hbs⟩ := C
  obtain ⟨hdg, hok⟩ := hd
  obtain ⟨pc', ls', st', M', he, k⟩ := h
  intro H locs arr hw hn hS hl
  have hn1 : n = 1 := Nat.eq_of_beq_eq_true hok
  subst hn1
  simp only [zk_st] at he
  split at he
  · split at he
    · next hne => cases he; exact lv_idiv hx hb hdg hne (k H locs arr hw hn hS hl)
    · cases he
  · cases he
theorem zi_irem (C : zs_C p R s m args meth c0 base n0 nx ad adV Y D sc y c d) {n : Nat} (hd : zd_P (zk_by y) (pc, .irem, n)) (h : zs_nx' p l e R s m args below meth c0 Q base n0 ad Y D c (zk_st sc c pc (.irem) ls st M)) : zs_G p l e R s m args below meth c0 Q base n0 ad Y D c pc ls st M := by
  obtain ⟨hmt, hx, hb, hml, hown, hts, hin, hK, hPX, had, hR, hbs⟩ := C
  obtain ⟨hdg, hok⟩ := hd
  obtain ⟨pc', ls', st', M', he, k⟩ := h
  intro H locs arr hw hn hS hl
  have hn1 : n = 1 := Nat.eq_of_beq_eq_true hok
  subst hn1
  simp only [zk_st] at he
  split at he
  · split at he
    · next hne => cases he; exact lv_irem hx hb hdg hne (k H locs arr hw hn hS hl)
    · cases he
  · cases he
theorem zi_ldiv (C : zs_C p R s m args meth c0 base n0 nx ad adV Y D sc y c d) {n : Nat} (hd : zd_P (zk_by y) (pc, .ldiv, n)) (h : zs_nx' p l e R s m args below meth c0 Q base n0 ad Y D c (zk_st sc c pc (.ldiv) ls st M)) : zs_G p l e R s m args below meth c0 Q base n0 ad Y D c pc ls st M := by
  obtain ⟨hmt, hx, hb, hml, hown, hts, hin, hK, hPX, had, hR, hbs⟩ := C
  obtain ⟨hdg, hok⟩ := hd
  obtain ⟨pc', ls', st', M', he, k⟩ := h
  intro H locs arr hw hn hS hl
  have hn1 : n = 1 := Nat.eq_of_beq_eq_true hok
  subst hn1
  simp only [zk_st] at he
  split at he
  · split at he
    · next hne => cases he; exact lv_ldiv hx hb hdg hne (k H locs arr hw hn hS hl)
    · cases he
  · cases he
theorem zi_lrem (C : zs_C p R s m args meth c0 base n0 nx ad adV Y D sc y c d) {n : Nat} (hd : zd_P (zk_by y) (pc, .lrem, n)) (h : zs_nx' p l e R s m args below meth c0 Q base n0 ad Y D c (zk_st sc c pc (.lrem) ls st M)) : zs_G p l e R s m args below meth c0 Q base n0 ad Y D c pc ls st M := by
  obtain ⟨hmt, hx, hb, hml, hown, hts, hin, hK, hPX, had, hR, hbs⟩ := C
  obtain ⟨hdg, hok⟩ := hd
  obtain ⟨pc', ls', st', M', he, k⟩ := h
  intro H locs arr hw hn hS hl
  have hn1 : n = 1 := Nat.eq_of_beq_eq_true hok
  subst hn1
  simp only [zk_st] at he
  split at he
  · split at he
    · next hne => cases he; exact lv_lrem hx hb hdg hne (k H locs arr hw hn hS hl)
    · cases he
  · cases he
theorem zs_c1 {ad : Nat → Nat} {v : Value} (h : zk_c1 v = true) : (zs_mv ad v).category = 1 := by cases v <;> first | rfl | cases h
theorem zi_dup (C : zs_C p R s m args meth c0 base n0 nx ad adV Y D sc y c d) {n : Nat} (hd : zd_P (zk_by y) (pc, .dup, n)) (h : zs_nx' p l e R s m args below meth c0 Q base n0 ad Y D c (zk_st sc c pc (.dup) ls st M)) : zs_G p l e R s m args below meth c0 Q base n0 ad Y D c pc ls st M := by
  obtain ⟨hmt, hx, hb, hml, hown, hts, hin, hK, hPX, had, hR, hbs⟩ := C
  obtain ⟨hdg, hok⟩ := hd
  obtain ⟨pc', ls', st', M', he, k⟩ := h
  intro H locs arr hw hn hS hl
  have hn1 : n = 1 := Nat.eq_of_beq_eq_true hok
  subst hn1
  simp only [zk_st] at he
  split at he
  · next v st1 =>
      cases hg : zk_c1 v with
      | false => rw [hg] at he; cases he
      | true => rw [hg] at he; cases he; exact lv_dup hx hb hdg (zs_c1 hg) (k H locs arr hw hn hS hl)
  · cases he
theorem zi_pop (C : zs_C p R s m args meth c0 base n0 nx ad adV Y D sc y c d) {n : Nat} (hd : zd_P (zk_by y) (pc, .pop, n)) (h : zs_nx' p l e R s m args below meth c0 Q base n0 ad Y D c (zk_st sc c pc (.pop) ls st M)) : zs_G p l e R s m args below meth c0 Q base n0 ad Y D c pc ls st M := by
  obtain ⟨hmt, hx, hb, hml, hown, hts, hin, hK, hPX, had, hR, hbs⟩ := C
  obtain ⟨hdg, hok⟩ := hd
  obtain ⟨pc', ls', st', M', he, k⟩ := h
  intro H locs arr hw hn hS hl
  have hn1 : n = 1 := Nat.eq_of_beq_eq_true hok
  subst hn1
  simp only [zk_st] at he
  split at he
  · next v st1 =>
      cases hg : zk_c1 v with
      | false => rw [hg] at he; cases he
      | true => rw [hg] at he; cases he; exact lv_pop hx hb hdg (zs_c1 hg) (k H locs arr hw hn hS hl)
  · cases he
theorem zi_dup2 (C : zs_C p R s m args meth c0 base n0 nx ad adV Y D sc y c d) {n : Nat} (hd : zd_P (zk_by y) (pc, .dup2, n)) (h : zs_nx' p l e R s m args below meth c0 Q base n0 ad Y D c (zk_st sc c pc (.dup2) ls st M)) : zs_G p l e R s m args below meth c0 Q base n0 ad Y D c pc ls st M := by
  obtain ⟨hmt, hx, hb, hml, hown, hts, hin, hK, hPX, had, hR, hbs⟩ := C
  obtain ⟨hdg, hok⟩ := hd
  obtain ⟨pc', ls', st', M', he, k⟩ := h
  intro H locs arr hw hn hS hl
  have hn1 : n = 1 := Nat.eq_of_beq_eq_true hok
  subst hn1
  simp only [zk_st] at he
  split at he
  · next v w st1 =>
      cases hg : (zk_c1 v && zk_c1 w) with
      | false => rw [hg] at he; cases he
      | true =>
        rw [hg] at he; cases he
        rw [Bool.and_eq_true] at hg
        exact lv_dup2_11 hx hb hdg (zs_c1 hg.1) (zs_c1 hg.2) (k H locs arr hw hn hS hl)
  · cases he
theorem zi_goto (C : zs_C p R s m args meth c0 base n0 nx ad adV Y D sc y c d) {o : Int} {n : Nat} (hd : zd_P (zk_by y) (pc, .goto o, n)) (h : zs_nx' p l e R s m args below meth c0 Q base n0 ad Y D c (zk_st sc c pc (.goto o) ls st M)) : zs_G p l e R s m args below meth c0 Q base n0 ad Y D c pc ls st M := by
  obtain ⟨hmt, hx, hb, hml, hown, hts, hin, hK, hPX, had, hR, hbs⟩ := C
  obtain ⟨hdg, hok⟩ := hd
  obtain ⟨pc', ls', st', M', he, k⟩ := h
  intro H locs arr hw hn hS hl
  simp only [zd_ok, Bool.and_eq_true] at hok
  have hn1 : n = 3 := Nat.eq_of_beq_eq_true hok.1
  subst hn1
  cases he
  exact lv_goto hx hb hdg (zs_pc hok.2) (k H locs arr hw hn hS hl)
theorem zi_ifc (C : zs_C p R s m args meth c0 base n0 nx ad adV Y D sc y c d) {q : ClassFile.Cond} {o : Int} {n : Nat} (hd : zd_P (zk_by y) (pc, .ifCond q o, n)) (h : zs_nx' p l e R s m args below meth c0 Q base n0 ad Y D c (zk_st sc c pc (.ifCond q o) ls st M)) : zs_G p l e R s m args below meth c0 Q base n0 ad Y D c pc ls st M := by
  obtain ⟨hmt, hx, hb, hml, hown, hts, hin, hK, hPX, had, hR, hbs⟩ := C
  obtain ⟨hdg, hok⟩ := hd
  obtain ⟨pc', ls', st', M', he, k⟩ := h
  intro H locs arr hw hn hS hl
  simp only [zd_ok, Bool.and_eq_true] at hok
  have hn1 : n = 3 := Nat.eq_of_beq_eq_true hok.1
  subst hn1
  simp only [zk_st] at he
  split at he
  · next x st1 =>
      have kk : (zk_cnd q x 0 = true → zs_G p l e R s m args below meth c0 Q base n0 ad Y D c (zk_tg pc o) ls st1 M) ∧ (¬ zk_cnd q x 0 = true → zs_G p l e R s m args below meth c0 Q base n0 ad Y D c (pc + 3) ls st1 M) := by
        refine ⟨fun hc => ?_, fun hc => ?_⟩
        · rw [if_pos hc] at he; cases he; exact k
        · rw [if_neg hc] at he; cases he; exact k
      cases q with
      | eq => exact lv_if_eq hx hb hdg (zs_pc hok.2) (fun hc => kk.1 (by simpa [zk_cnd] using hc) H locs arr hw hn hS hl) (fun hc => kk.2 (by simpa [zk_cnd] using hc) H locs arr hw hn hS hl)
      | ne => exact lv_if_ne hx hb hdg (zs_pc hok.2) (fun hc => kk.1 (by simpa [zk_cnd] using hc) H locs arr hw hn hS hl) (fun hc => kk.2 (by simpa [zk_cnd] using hc) H locs arr hw hn hS hl)
      | lt => exact lv_if_lt hx hb hdg (zs_pc hok.2) (fun hc => kk.1 (by simpa [zk_cnd] using hc) H locs arr hw hn hS hl) (fun hc => kk.2 (by simpa [zk_cnd] using hc) H locs arr hw hn hS hl)
      | ge => exact lv_if_ge hx hb hdg (zs_pc hok.2) (fun hc => kk.1 (by simpa [zk_cnd] using hc) H locs arr hw hn hS hl) (fun hc => kk.2 (by simpa [zk_cnd] using hc) H locs arr hw hn hS hl)
      | gt => exact lv_if_gt hx hb hdg (zs_pc hok.2) (fun hc => kk.1 (by simpa [zk_cnd] using hc) H locs arr hw hn hS hl) (fun hc => kk.2 (by simpa [zk_cnd] using hc) H locs arr hw hn hS hl)
      | le => exact lv_if_le hx hb hdg (zs_pc hok.2) (fun hc => kk.1 (by simpa [zk_cnd] using hc) H locs arr hw hn hS hl) (fun hc => kk.2 (by simpa [zk_cnd] using hc) H locs arr hw hn hS hl)
  · cases he
theorem zi_icmp (C : zs_C p R s m args meth c0 base n0 nx ad adV Y D sc y c d) {q : ClassFile.Cond} {o : Int} {n : Nat} (hd : zd_P (zk_by y) (pc, .if_icmp q o, n)) (h : zs_nx' p l e R s m args below meth c0 Q base n0 ad Y D c (zk_st sc c pc (.if_icmp q o) ls st M)) : zs_G p l e R s m args below meth c0 Q base n0 ad Y D c pc ls st M := by
  obtain ⟨hmt, hx, hb, hml, hown, hts, hin, hK, hPX, had, hR, hbs⟩ := C
  obtain ⟨hdg, hok⟩ := hd
  obtain ⟨pc', ls', st', M', he, k⟩ := h
  intro H locs arr hw hn hS hl
  simp only [zd_ok, Bool.and_eq_true] at hok
  have hn1 : n = 3 := Nat.eq_of_beq_eq_true hok.1
  subst hn1
  simp only [zk_st] at he
  split at he
  · next y1 x st1 =>
      have kk : (zk_cnd q x y1 = true → zs_G p l e R s m args below meth c0 Q base n0 ad Y D c (zk_tg pc o) ls st1 M) ∧ (¬ zk_cnd q x y1 = true → zs_G p l e R s m args below meth c0 Q base n0 ad Y D c (pc + 3) ls st1 M) := by
        refine ⟨fun hc => ?_, fun hc => ?_⟩
        · rw [if_pos hc] at he; cases he; exact k
        · rw [if_neg hc] at he; cases he; exact k
      cases q with
      | eq => exact lv_icmp_eq hx hb hdg (zs_pc hok.2) (fun hc => kk.1 (by simpa [zk_cnd] using hc) H locs arr hw hn hS hl) (fun hc => kk.2 (by simpa [zk_cnd] using hc) H locs arr hw hn hS hl)
      | ne => exact lv_icmp_ne hx hb hdg (zs_pc hok.2) (fun hc => kk.1 (by simpa [zk_cnd] using hc) H locs arr hw hn hS hl) (fun hc => kk.2 (by simpa [zk_cnd] using hc) H locs arr hw hn hS hl)
      | lt => exact lv_icmp_lt hx hb hdg (zs_pc hok.2) (fun hc => kk.1 (by simpa [zk_cnd] using hc) H locs arr hw hn hS hl) (fun hc => kk.2 (by simpa [zk_cnd] using hc) H locs arr hw hn hS hl)
      | ge => exact lv_icmp_ge hx hb hdg (zs_pc hok.2) (fun hc => kk.1 (by simpa [zk_cnd] using hc) H locs arr hw hn hS hl) (fun hc => kk.2 (by simpa [zk_cnd] using hc) H locs arr hw hn hS hl)
      | gt => exact lv_icmp_gt hx hb hdg (zs_pc hok.2) (fun hc => kk.1 (by simpa [zk_cnd] using hc) H locs arr hw hn hS hl) (fun hc => kk.2 (by simpa [zk_cnd] using hc) H locs arr hw hn hS hl)
      | le => exact lv_icmp_le hx hb hdg (zs_pc hok.2) (fun hc => kk.1 (by simpa [zk_cnd] using hc) H locs arr hw hn hS hl) (fun hc => kk.2 (by simpa [zk_cnd] using hc) H locs arr hw hn hS hl)
  · cases he
theorem zi_sw (C : zs_C p R s m args meth c0 base n0 nx ad adV Y D sc y c d) {dd lo hi : Int} {offs : Array Int} {n : Nat} (hd : zd_P (zk_by y) (pc, .tableswitch dd lo hi offs, n)) (h : zs_nx' p l e R s m args below meth c0 Q base n0 ad Y D c (zk_st sc c pc (.tableswitch dd lo hi offs) ls st M)) : zs_G p l e R s m args below meth c0 Q base n0 ad Y D c pc ls st M := by
  obtain ⟨hmt, hx, hb, hml, hown, hts, hin, hK, hPX, had, hR, hbs⟩ := C
  obtain ⟨hdg, hok⟩ := hd
  obtain ⟨pc', ls', st', M', he, k⟩ := h
  intro H locs arr hw hn hS hl
  simp only [zd_ok, Bool.and_eq_true] at hok
  simp only [zk_st] at he
  split at he
  · next x st1 =>
      split at he
      · next hg =>
        cases he
        by_cases hc : x.toInt < lo ∨ hi < x.toInt
        · have e1 : zk_sw pc dd lo hi offs x = zk_tg pc dd := by unfold zk_sw; rw [if_pos hc]
          rw [e1] at k
          exact lv_tableOut hx hb hdg hc (zs_pc hok.1) (k H locs arr hw hn hS hl)
        · have h1 : (x.toInt - lo).toNat < offs.size := by
            rcases hg with q | q | q
            · exact absurd (Or.inl q) hc
            · exact absurd (Or.inr q) hc
            · exact q
          have h2 : offs[(x.toInt - lo).toNat]? = some (offs[(x.toInt - lo).toNat]) := by simp [h1]
          have e1 : zk_sw pc dd lo hi offs x = zk_tg pc (offs[(x.toInt - lo).toNat]) := by unfold zk_sw; rw [if_neg hc, h2]; rfl
          rw [e1] at k
          have h3 := List.all_eq_true.mp hok.2 (offs[(x.toInt - lo).toNat]) (by simp)
          exact lv_tableIn hx hb hdg (fun q => hc (Or.inl q)) (fun q => hc (Or.inr q)) h2 (zs_pc h3) (k H locs arr hw hn hS hl)
      · cases he
  · cases he
theorem zi_ldc (C : zs_C p R s m args meth c0 base n0 nx ad adV Y D sc y c d) {ix : Nat} {n : Nat} (hd : zd_P (zk_by y) (pc, .ldc ix, n)) (h : zs_nx' p l e R s m args below meth c0 Q base n0 ad Y D c (zk_st sc c pc (.ldc ix) ls st M)) : zs_G p l e R s m args below meth c0 Q base n0 ad Y D c pc ls st M := by
  obtain ⟨hmt, hx, hb, hml, hown, hts, hin, hK, hPX, had, hR, hbs⟩ := C
  obtain ⟨hdg, hok⟩ := hd
  obtain ⟨pc', ls', st', M', he, k⟩ := h
  intro H locs arr hw hn hS hl
  have hn1 : n = 2 := Nat.eq_of_beq_eq_true hok
  subst hn1
  simp only [zk_st] at he
  split at he
  · next v hv => cases he; exact lv_ldc hx hb hown (hts _ (zg_ci _ (zk_l1_mem hv))) hdg (k H locs arr hw hn hS hl)
  · split at he
    · next j hj =>
      cases he
      obtain ⟨tx, ht⟩ := hPX.2.2.2.2.1 _ (zk_l1_mem hj)
      exact va_ldcS hx hb hown ht hdg (k H locs arr hw hn hS hl)
    · cases he
theorem zi_ldcw (C : zs_C p R s m args meth c0 base n0 nx ad adV Y D sc y c d) {ix : Nat} {n : Nat} (hd : zd_P (zk_by y) (pc, .ldc_w ix, n)) (h : zs_nx' p l e R s m args below meth c0 Q base n0 ad Y D c (zk_st sc c pc (.ldc_w ix) ls st M)) : zs_G p l e R s m args below meth c0 Q base n0 ad Y D c pc ls st M := by
  obtain ⟨hmt, hx, hb, hml, hown, hts, hin, hK, hPX, had, hR, hbs⟩ := C
  obtain ⟨hdg, hok⟩ := hd
  obtain ⟨pc', ls', st', M', he, k⟩ := h
  intro H locs arr hw hn hS hl
  have hn1 : n = 3 := Nat.eq_of_beq_eq_true hok
  subst hn1
  simp only [zk_st] at he
  split at he
  · next v hv => cases he; exact lv_ldcw hx hb hown (hts _ (zg_ci _ (zk_l1_mem hv))) hdg (k H locs arr hw hn hS hl)
  · cases he
theorem zi_ldc2 (C : zs_C p R s m args meth c0 base n0 nx ad adV Y D sc y c d) {ix : Nat} {n : Nat} (hd : zd_P (zk_by y) (pc, .ldc2_w ix, n)) (h : zs_nx' p l e R s m args below meth c0 Q base n0 ad Y D c (zk_st sc c pc (.ldc2_w ix) ls st M)) : zs_G p l e R s m args below meth c0 Q base n0 ad Y D c pc ls st M := by
  obtain ⟨hmt, hx, hb, hml, hown, hts, hin, hK, hPX, had, hR, hbs⟩ := C
  obtain ⟨hdg, hok⟩ := hd
  obtain ⟨pc', ls', st', M', he, k⟩ := h
  intro H locs arr hw hn hS hl
  have hn1 : n = 3 := Nat.eq_of_beq_eq_true hok
  subst hn1
  simp only [zk_st] at he
  split at he
  · next v hv => cases he; exact lv_ldc2 hx hb hown (hts _ (zg_cj _ (zk_l1_mem hv))) hdg (k H locs arr hw hn hS hl)
  · cases he
end SI
