/-! CALLS, and the whole run -/
theorem zk_st_le {sc : zk_X} {c : zk_C} {pc : Nat} {i : Instr} {ls ls' : List (Option Value)} {st st' : List Value} {M M' : zk_M} {pc' : Nat} (h : zk_st sc c pc i ls st M = some (.inl (pc', ls', st', M'))) : M.1 ≤ M'.1 := by
  cases i <;> simp only [zk_st, zk_nx, zk_call, cond_eq_ite] at h <;> (repeat' split at h) <;> first | (cases h; done) | (cases h; exact Nat.le_refl _) | (cases h; exact Nat.le_succ _)
theorem zk_run_le (sc : zk_X) : ∀ (n d m pc : Nat) (ls : List (Option Value)) (st : List Value) (M : zk_M) (r : Option Value) (M' : zk_M), zk_run sc n d m pc ls st M = some (r, M') → M.1 ≤ M'.1 := by
  intro n
  induction n with
  | zero => intro d m pc ls st M r M' h; cases h
  | succ n ih =>
    intro d m pc ls st M r M' h
    rw [zk_run] at h
    split at h
    · cases h
    · split at h
      · cases h
      · split at h
        · cases h
        · next hs => exact Nat.le_trans (zk_st_le hs) (ih _ _ _ _ _ _ _ _ h)
        · cases h; exact Nat.le_refl _
        · split at h
          · cases h
          · split at h
            · cases h
            · split at h
              · cases h
              · next hr => exact Nat.le_trans (ih _ _ _ _ _ _ _ _ hr) (ih _ _ _ _ _ _ _ _ h)
theorem zk_st_call {sc : zk_X} {c : zk_C} {pc : Nat} {i : Instr} {ls : List (Option Value)} {st : List Value} {M : zk_M} {y' : Nat} {as rest : List Value} (h : zk_st sc c pc i ls st M = some (.inr (.inl (y', as, rest)))) :
    ∃ (ix kd n : Nat) (v : Bool), zk_cl c.1 ix = some (kd, y') ∧ zk_call M y' n v st = some (.inr (.inl (y', as, rest))) ∧ ((i = .invokevirtual ix ∧ kd = 0 ∧ n = zk_na y' ∧ v = true) ∨ (i = .invokestatic ix ∧ kd = 1 ∧ n = zk_na y' ∧ v = false) ∨ (i = .invokespecial ix ∧ (kd = 2 ∨ kd = 3) ∧ n = 1 ∧ v = true)) := by
  have no : ∀ {M : zk_M} {y n : Nat} {v : Bool} {st : List Value}, zk_call M y n v st = some (.inr (.inl (y', as, rest))) → y = y' := by
    intro M y n v st h
    unfold zk_call at h
    revert h
    cases (Nat.ble _ _ && Nat.ble _ 8 && zk_okc _ _ && _) <;> (intro h; cases h; try rfl)
  cases i
  case invokevirtual ix =>
    simp only [zk_st] at h
    split at h
    · next y hcl =>
      have e := no h
      subst e
      exact ⟨ix, 0, _, true, hcl, h, Or.inl ⟨rfl, rfl, rfl, rfl⟩⟩
    all_goals (exfalso; revert h; (try simp only [zk_nx, cond_eq_ite]); (repeat' split) <;> (intro h; cases h))
  case invokestatic ix =>
    simp only [zk_st] at h
    split at h
    · next y hcl =>
      have e := no h
      subst e
      exact ⟨ix, 1, _, false, hcl, h, Or.inr (Or.inl ⟨rfl, rfl, rfl, rfl⟩)⟩
    all_goals (exfalso; revert h; (try simp only [zk_nx, cond_eq_ite]); (repeat' split) <;> (intro h; cases h))
  case invokespecial ix =>
    simp only [zk_st] at h
    split at h
    · next y hcl =>
      have e := no h
      subst e
      exact ⟨ix, 2, _, true, hcl, h, Or.inr (Or.inr ⟨rfl, Or.inl rfl, rfl, rfl⟩)⟩
    · next y hcl =>
      have e := no h
      subst e
      exact ⟨ix, 3, _, true, hcl, h, Or.inr (Or.inr ⟨rfl, Or.inr rfl, rfl, rfl⟩)⟩
    all_goals (exfalso; revert h; (try simp only [zk_nx, cond_eq_ite]); (repeat' split) <;> (intro h; cases h))
  all_goals (exfalso; revert h; simp only [zk_st, zk_nx, cond_eq_ite]; (repeat' split) <;> (intro h; cases h))
theorem zk_call_inv {M : zk_M} {y n : Nat} {v : Bool} {st as rest : List Value} (h : zk_call M y n v st = some (.inr (.inl (y, as, rest)))) : st = as.reverse ++ rest ∧ as.length = n ∧ zk_w rest ≤ 8 ∧ zk_okc y as = true ∧ (v = true → zk_rcv M y as = true) := by
  unfold zk_call at h
  cases hg : (Nat.ble n st.length && Nat.ble (zk_w (st.drop n)) 8 && zk_okc y (st.take n).reverse && (bif v then zk_rcv M y (st.take n).reverse else true)) with
  | false => rw [hg] at h; cases h
  | true =>
    rw [hg] at h
    cases h
    simp only [Bool.and_eq_true] at hg
    obtain ⟨⟨⟨g1, g2⟩, g3⟩, g4⟩ := hg
    have g1 := Nat.le_of_ble_eq_true g1
    refine ⟨by rw [List.reverse_reverse, List.take_append_drop], by rw [List.length_reverse, List.length_take]; omega, Nat.le_of_ble_eq_true g2, g3, fun hv => ?_⟩
    rw [hv] at g4
    exact g4
theorem zs_sumw (ad : Nat → Nat) : ∀ st : List Value, ((st.map (zs_mv ad)).map fun v => v.category).sum ≤ zk_w st
  | [] => Nat.le_refl _
  | v :: t => by
    have ih := zs_sumw ad t
    rw [List.map_cons, List.map_cons, List.sum_cons]
    cases v with
    | int x => show 1 + _ ≤ zk_w t + 1; omega
    | ref x => show 1 + _ ≤ zk_w t + 1; omega
    | long x => show 2 + _ ≤ zk_w t + 2; omega
    | double x => show 2 + _ ≤ zk_w t + 2; omega
    | float x => show 1 + _ ≤ zk_w t + 2; omega
    | null => show 1 + _ ≤ zk_w t + 2; omega
    | retAddr x => show 1 + _ ≤ zk_w t + 2; omega
theorem zs_kk {ci : Nat} (h : ci ≤ 6) : ∃ (C : String) (T : u_T) (N : Nat) (ty : Nat → FieldType), zg_K ci C T N ty := by
  match ci, h with
  | 0, _ => exact ⟨_, _, _, _, zg_k0⟩
  | 1, _ => exact ⟨_, _, _, _, zg_k1⟩
  | 2, _ => exact ⟨_, _, _, _, zg_k2⟩
  | 3, _ => exact ⟨_, _, _, _, zg_k3⟩
  | 4, _ => exact ⟨_, _, _, _, zg_k4⟩
  | 5, _ => exact ⟨_, _, _, _, zg_k5⟩
  | 6, _ => exact ⟨_, _, _, _, zg_k6⟩
theorem zs_good {ws : List Cond} (h : ∀ w ∈ ws, w ∈ zg_tab) : GoodIn zg_tab ws := fun w hw => ⟨h w hw, good_of_word (List.mem_filter.mp (h w hw)).2⟩
section SC
variable {p : Program} {l : Launch} {e : Env} {R : Room} {s : State} {m : MethodId} {args : Array Value} {below : List Frame} {meth : Method} {c0 : Code} {Q : State → Prop}
variable {base n0 nx : Nat} {ad adV : Nat → Nat} {Y : zs_Y} {D : va_G} {sc : zk_X} {y : Nat} {c : zk_C}
variable {pc : Nat} {ls : List (Option Value)} {st : List Value} {M M' : zk_M} {d : Nat} {H H1 : Heap} {r : Option Value}
theorem zs_next (C : zs_C p R s m args meth c0 base n0 nx ad adV Y D sc y c d) (hS1 : zs_S1 l base ad adV sc) (hS2 : zs_S2 l base ad adV sc) {i : Instr} {n : Nat} (hd : zd_P (zk_by y) (pc, i, n)) (hnx : ∀ pc' ls' st' M', zk_st sc c pc i ls st M = some (.inl (pc', ls', st', M')) → M'.1 ≤ nx) (h : zs_nx' p l e R s m args below meth c0 Q base n0 ad Y D c (zk_st sc c pc i ls st M)) : zs_G p l e R s m args below meth c0 Q base n0 ad Y D c pc ls st M := by
  cases i
  case iconst v => exact zi_iconst C hd h
  case lconst v => exact zi_lconst C hd h
  case bipush v => exact zi_bipush C hd h
  case sipush v => exact zi_sipush C hd h
  case iload v => exact zi_iload C hd h
  case iload_n v => exact zi_iloadn C hd h
  case lload v => exact zi_lload C hd h
  case lload_n v => exact zi_lloadn C hd h
  case aload v => exact zi_aload C hd h
  case aload_n v => exact zi_aloadn C hd h
  case istore v => exact zi_istore C hd h
  case istore_n v => exact zi_istoren C hd h
  case astore v => exact zi_astore C hd h
  case astore_n v => exact zi_astoren C hd h
  case lstore v => exact zi_lstore C hd h
  case lstore_n v => exact zi_lstoren C hd h
  case iinc v w => exact zi_iinc C hd h
  case iadd  => exact zi_iadd C hd h
  case isub  => exact zi_isub C hd h
  case imul  => exact zi_imul C hd h
  case iand  => exact zi_iand C hd h
  case ior  => exact zi_ior C hd h
  case ixor  => exact zi_ixor C hd h
  case ishl  => exact zi_ishl C hd h
  case ishr  => exact zi_ishr C hd h
  case ladd  => exact zi_ladd C hd h
  case lsub  => exact zi_lsub C hd h
  case lmul  => exact zi_lmul C hd h
  case ineg  => exact zi_ineg C hd h
  case iushr  => exact zi_iushr C hd h
  case i2l  => exact zi_i2l C hd h
  case i2b  => exact zi_i2b C hd h
  case i2s  => exact zi_i2s C hd h
  case lcmp  => exact zi_lcmp C hd h
  case idiv  => exact zi_idiv C hd h
  case irem  => exact zi_irem C hd h
  case ldiv  => exact zi_ldiv C hd h
  case lrem  => exact zi_lrem C hd h
  case dup  => exact zi_dup C hd h
  case pop  => exact zi_pop C hd h
  case dup2  => exact zi_dup2 C hd h
  case goto v => exact zi_goto C hd h
  case ifCond v w => exact zi_ifc C hd h
  case if_icmp v w => exact zi_icmp C hd h
  case tableswitch v w x z => exact zi_sw C hd h
  case ldc v => exact zi_ldc C hd h
  case ldc_w v => exact zi_ldcw C hd h
  case ldc2_w v => exact zi_ldc2 C hd h
  case getfield v => exact zi_getfield C hd h
  case putfield v => exact zi_putfield C hd h
  case getstatic v => exact zi_getstatic C hd h
  case arraylength  => exact zi_alen C hd h
  case iaload  => exact zi_iald C hd h
  case baload  => exact zi_bald C hd h
  case aaload  => exact zi_aald C hd h
  case iastore  => exact zi_iast C hd h
  case bastore  => exact zi_bast C hd h
  case aastore  => exact zi_aast C hd h
  case new v => exact zi_new C hd hnx h
  case newarray v => exact zi_newarray C hd hnx h
  case anewarray v => exact zi_anewarray C hd hnx h
  case invokestatic v => exact zi_static C hd hnx h
  case invokespecial v => exact zi_special C hd h
  case invokevirtual v => exact zi_virtual C hS1 hS2 hd hnx h
  all_goals (exfalso; obtain ⟨_, _, _, _, he, _⟩ := h; revert he; simp only [zk_st, zk_nx, cond_eq_ite]; (repeat' split) <;> (intro he; cases he))
/-- a method's start and end -/
def zs_Pc (base : Nat) (ad adV : Nat → Nat) (Y : zs_Y) (D : va_G) (sc : zk_X) (as : List Value) (M : zk_M) : Array Value → State → Prop := va_Pc (as.map (zs_mv ad)) (fun U => zs_W base ad Y D M U.heap ∧ zs_K D Y U ∧ zs_P base ad adV sc U U.heap ∧ base ≤ U.heap.size)
def zs_Qc (base : Nat) (ad : Nat → Nat) (Y : zs_Y) (D : va_G) (r : Option Value) (M' : zk_M) : Array Value → State → Outcome → State → Prop := fun _ st oc t => (oc = .returned (r.map (zs_mv ad)) ∧ zs_W base ad Y D M' t.heap) ∧ va_F (zs_A base) st t
def zs_rm (d : Nat) (M M' : zk_M) : Room := { frames := zs_fr d, cells := M'.1 - M.1, slots := zs_sl M'.1 - zs_sl M.1, locals := zs_lox d }
def zs_wd (y : Nat) (c : zk_C) : List Cond := Cond.code (zk_yn y) (zk_by y) c.2.1 (zk_rt y) :: zg_tab
theorem zs_blind (as : List Value) (M : zk_M) : FrameBlind (zs_Pc base ad adV Y D sc as M) := by
  intro a U g mk q
  obtain ⟨q1, q2, q3, q4, q5⟩ := q
  exact ⟨q1, q2, va_K.moved (u := U) (U := U.calling g mk a) (Vm.Alike.refl U.vm) q3, zs_P_moved (s := U) (U := U.calling g mk a) (State.WarmedH.refl U) (Nat.le_refl _) (fun _ _ _ => rfl) q4, q5⟩
theorem zs_cont {a : Array Value} {locs : List Loc} {arr : Array Slot} {st0 rest : List Value} (hr : va_Run p l e R s m args below meth c0 H locs (M.1 - n0) (zs_sl M.1 - zs_sl n0) (M'.1 - M.1) (zs_sl M'.1 - zs_sl M.1) (F0 m pc arr st0) (rest.map (zs_mv ad)) (zs_Qc base ad Y D r M' a) (zs_A base)) (hS : va_S (zs_A base) s.heap H locs) (hl : zs_L ad c arr ls) (hn : n0 ≤ M.1) (hle : M.1 ≤ M'.1) (k : zs_G p l e R s m args below meth c0 Q base n0 ad Y D c (pc + 3) ls (r.toList ++ rest) M') : W p l e R s m args below meth c0 H locs (M.1 - n0) (zs_sl M.1 - zs_sl n0) Q (F0 m pc arr st0) := by
  intro T hT X
  obtain ⟨v, st₀, t, T', L, h0, X', hL, e1, e2, ⟨⟨hv, hw⟩, hz, hk⟩, st⟩ := hr T hT X
  cases hv
  rw [h0] at hz hk
  have hsl := zs_sl_mono hle
  have hsn := zs_sl_mono hn
  have c1 : M.1 - n0 + (M'.1 - M.1) = M'.1 - n0 := by omega
  have c2 : zs_sl M.1 - zs_sl n0 + (zs_sl M'.1 - zs_sl M.1) = zs_sl M'.1 - zs_sl n0 := by omega
  rw [c1, c2] at X'
  have hstk : (r.toList ++ rest).map (zs_mv ad) = (r.map (zs_mv ad)).toList ++ rest.map (zs_mv ad) := by cases r <;> simp
  have kk := k T'.heap (locs ++ L) arr (by rw [e1]; exact hw) (by omega)
    ⟨Nat.le_trans hS.1 (by rw [e1]; exact hz), fun q h1 h2 => by rw [e1, hk q (Nat.lt_of_lt_of_le h1 hS.1) h2]; exact hS.2.1 q h1 h2, fun q hq => by
      rcases List.mem_append.mp hq with h | h
      · exact hS.2.2 q h
      · exact hL q h⟩ hl
  rw [hstk] at kk
  obtain ⟨t2, a1, b1⟩ := kk T' rfl X'
  exact ⟨t2, st t2 a1, b1⟩
/-- a call, the contract given -/
theorem zs_call (C : zs_C p R s m args meth c0 base n0 nx ad adV Y D sc y c (d + 1)) {i : Instr} {n : Nat} (hd : zd_P (zk_by y) (pc, i, n)) {y' : Nat} {cy : zk_C} {as rest : List Value} (hs : zk_st sc c pc i ls st M = some (.inr (.inl (y', as, rest)))) (hy : zk_mt y' = some cy) (hle : M.1 ≤ M'.1) (hnx : M'.1 ≤ nx)
    (hM : zk_okc y' as = true → Met l (zk_yn y') (zs_wd y' cy) (zs_rm d M M') (zs_Pc base ad adV Y D sc as M) (zs_Qc base ad Y D r M') (M'.1 - M.1) (zs_sl M'.1 - zs_sl M.1) (zs_A base))
    (k : zs_G p l e R s m args below meth c0 Q base n0 ad Y D c (pc + 3) ls (r.toList ++ rest) M') : zs_G p l e R s m args below meth c0 Q base n0 ad Y D c pc ls st M := by
  obtain ⟨hmt, hx, hb, hml, hown, hts, hin, hK, hPX, had, hR, hbs⟩ := C
  obtain ⟨hdg, hok⟩ := hd
  intro H locs arr hw hn hS hl
  obtain ⟨ix, kd, na, v, hcl, hca, hi⟩ := zk_st_call hs
  obtain ⟨hst, hlen, hrest, hokc, hrcv⟩ := zk_call_inv hca
  have hMM := hM hokc
  have hsl := zs_sl_mono hle
  have hsn := zs_sl_mono hn
  have hsx := zs_sl_mono hnx
  have hf : M.1 - n0 + (M'.1 - M.1) ≤ R.cells ∧ zs_sl M.1 - zs_sl n0 + (zs_sl M'.1 - zs_sl M.1) ≤ R.slots := by
    have := hR.2.2
    omega
  have hcw := zg_cl _ (zk_l2_mem hcl)
  have fix : CallFix p m c0 (zk_by y) c.2.1 s args zg_tab (zk_own c.1) := ⟨hx, hb, hml, hown, hts⟩
  have hsize : arr.size = c.2.1 := hl.1.1
  have hsum := lv_room (m := m) (pc := pc) (ls := arr) (rest := st.map (zs_mv ad)) (Nat.le_trans (zs_sumw ad _) hrest)
  have hPc : ∀ U : State, U.heap = H → s.WarmedH U.vm → zs_Pc base ad adV Y D sc as M (as.map (zs_mv ad)).toArray U := fun U hU hW => ⟨rfl, by rw [hU]; exact hw, va_K.moved hW.alike hK, by rw [hU]; exact zs_P_moved hW hS.1 (fun a h1 h2 => hS.2.1 a h1 h2) hPX, by rw [hU]; exact hw.1.1⟩
  have hstk : st.map (zs_mv ad) = (as.map (zs_mv ad)).reverse ++ rest.map (zs_mv ad) := by rw [hst, List.map_append, List.map_reverse]
  have hrr : zs_fr d + 1 ≤ R.frames ∧ (∀ q : Nat, q ≤ 40 → 8 + (q + 11) + zs_lox d ≤ R.locals) := by
    have h1 := hR.1
    have h2 := hR.2.1
    unfold zs_fr at h1 ⊢
    unfold zs_lox at h2 ⊢
    refine ⟨by omega, fun q hq => by omega⟩
  rcases hi with ⟨rfl, rfl, rfl, rfl⟩ | ⟨rfl, rfl, rfl, rfl⟩ | ⟨rfl, hkd, rfl, rfl⟩
  · -- a method of an object
    have hn1 : n = 3 := Nat.eq_of_beq_eq_true hok
    subst hn1
    obtain ⟨⟨cy', hy', hcode, hini, hmh, hoy, hmx, hpl, hci, hrt, hc8⟩, hlk, hiw, hse, hpd, hna⟩ := hcw
    cases hy.symm.trans hy'
    have hv := hrcv rfl
    unfold zk_rcv at hv
    split at hv
    · next k1 as' c' h1 =>
      cases hy.symm.trans h1
      simp only [Bool.and_eq_true, decide_eq_true_eq] at hv
      obtain ⟨⟨v1, v2⟩, v3⟩ := hv
      have v1 := zs_lt _ _ v1
      obtain ⟨CC, T, N, ty, hKK⟩ := zs_kk (ci := cy.1) (by
        have := ((zg_sh _ (zs_shm (k := k1) (by rw [v2]; decide)).1).2.1 v2).1
        rw [v3] at this
        exact this)
      have hct := zs_obj (ad := ad) (Y := Y) v2 v3 hKK M
      have hat := zs_at (base := base) (ad := ad) (Y := Y) v1
      rw [hct] at hat
      obtain ⟨cell, r1, r2, r3⟩ := va_recv hK hw.2.1 hKK.1 hat
      have hCC : (zk_yn y').cls = CC := by rw [← hoy]; exact hKK.2.2.2.2.1
      have hak : ad k1 = base + k1 := had k1 (by have := hw.2.2; omega)
      refine zs_cont (va_runV (As := as'.map (zs_mv ad)) (b := ad k1) (g := F0 m pc arr (st.map (zs_mv ad))) (rest := rest.map (zs_mv ad)) fix hMM (cwV (zk_na y' - 1) hts (zs_good (fun w hw => ?_)) rfl rfl rfl ⟨rfl, hmh.1, hmh.2, hpd⟩ ⟨hrr.1, hrr.2 _ hmx⟩) ⟨zs_blind _ _, ⟨cell, by rw [hak]; exact r1, r2, by rw [hCC]; exact r3⟩, fun U hU hW => hPc U hU hW⟩ rfl (by rw [List.length_map]; have : as'.length + 1 = zk_na y' := hlen; omega) hsize (by show st.map (zs_mv ad) = _; rw [hstk]; simp [zs_mv]) hsum hdg hf) hS hl hn hle k
      simp only [wsV, List.mem_append, List.mem_cons, List.not_mem_nil, or_false] at hw
      rcases hw with (rfl | rfl | rfl | rfl) | hw
      · exact hlk
      · exact hiw
      · exact hse
      · exact hini
      · rcases List.mem_cons.mp hw with rfl | hw
        · exact hcode
        · exact hw
    · cases hv
  · have hn1 : n = 3 := Nat.eq_of_beq_eq_true hok
    subst hn1
    obtain ⟨⟨cy', hy', hcode, hini, hmh, hoy, hmx, hpl, hci, hrt, hc8⟩, hlk, hst2, hpd⟩ := hcw
    cases hy.symm.trans hy'
    refine zs_cont (va_runS (As := as.map (zs_mv ad)) (g := F0 m pc arr (st.map (zs_mv ad))) (rest := rest.map (zs_mv ad)) fix hMM (va_cwS (zk_na y') hts (zs_good (fun w hw => ?_)) rfl rfl rfl ⟨hmh.1, hmh.2, hpd⟩ ⟨hrr.1, hrr.2 _ hmx⟩) ⟨zs_blind _ _, fun U hU hW => hPc U hU hW⟩ rfl (by rw [List.length_map]; exact hlen) hsize hstk hsum hdg hf) hS hl hn hle k
    simp only [va_wsS, List.mem_append, List.mem_cons, List.not_mem_nil, or_false] at hw
    rcases hw with (rfl | rfl | rfl) | hw
    · exact hlk
    · exact hst2
    · exact hini
    · rcases List.mem_cons.mp hw with rfl | hw
      · exact hcode
      · exact hw
  · have hn1 : n = 3 := Nat.eq_of_beq_eq_true hok
    subst hn1
    have hv := hrcv rfl
    unfold zk_rcv at hv
    split at hv
    · next k1 as' c' h1 =>
      cases hy.symm.trans h1
      have has' : as' = [] := List.length_eq_zero_iff.mp (by have : as'.length + 1 = 1 := hlen; omega)
      subst has'
      have hgw : ∀ w ∈ zs_wd y' cy, Cond.code (zk_yn y') (zk_by y') cy.2.1 (zk_rt y') ∈ zg_tab → w ∈ zg_tab := fun w hw hcode => by
        rcases List.mem_cons.mp hw with rfl | hw
        · exact hcode
        · exact hw
      rcases hkd with rfl | rfl
      · obtain ⟨⟨cy', hy', hcode, hini, hmh, hoy, hmx, hpl, hci, hrt, hc8⟩, hlk, hiw, hnm, hpd, hrn⟩ := hcw
        cases hy.symm.trans hy'
        have hrn : zk_rt y' = none := hrn
        exact zs_cont (va_runI (As := []) (b := ad k1) (g := F0 m pc arr (st.map (zs_mv ad))) (rest := rest.map (zs_mv ad)) fix hMM (cwI 0 hts (zs_good (fun w hw => hgw w hw hcode)) (by unfold zs_wd; rw [hrn]) rfl rfl (hts _ hini) (hts _ hlk) (hts _ hiw) hnm ⟨hmh.1, hmh.2, hpd⟩ ⟨hrr.1, hrr.2 _ hmx⟩) ⟨zs_blind _ _, fun U hU hW => hPc U hU hW⟩ rfl rfl hsize (by show st.map (zs_mv ad) = _; rw [hstk]; simp [zs_mv]) hsum hdg hf) hS hl hn hle k
      · obtain ⟨⟨cy', hy', hcode, hini, hmh, hoy, hmx, hpl, hci, hrt, hc8⟩, hlk, hiw, hnm, hpd, hrn⟩ := hcw
        cases hy.symm.trans hy'
        have hrn : zk_rt y' = none := hrn
        have hnest := hPX.2.2.1 _ (zk_l2_mem hcl) rfl
        exact zs_cont (va_runIN (As := []) (b := ad k1) (g := F0 m pc arr (st.map (zs_mv ad))) (rest := rest.map (zs_mv ad)) fix hMM ⟨va_cnB 0 hts (zs_good (fun w hw => hgw w hw hcode)) (by unfold zs_wd; rw [hrn]) rfl rfl hnest (hts _ hini) ⟨hmh.1, hmh.2, hpd⟩ ⟨hrr.1, hrr.2 _ hmx⟩, hnm, hts _ hiw⟩ ⟨zs_blind _ _, fun U hU hW => hPc U hU hW⟩ rfl rfl hsize (by show st.map (zs_mv ad) = _; rw [hstk]; simp [zs_mv]) hsum hdg hf) hS hl hn hle k
    · cases hv
/-- a method's end -/
theorem zs_fin (C : zs_C p R s m args meth c0 base n0 nx ad adV Y D sc y c d) (hret : meth.sig.returnType = zk_rt y) (hrt : zg_rt c.2.2.1 (zk_rt y)) (hlocks : meth.locks = false) {i : Instr} {n : Nat} (hd : zd_P (zk_by y) (pc, i, n)) (hs : zk_st sc c pc i ls st M = some (.inr (.inr r))) : zs_G p l e R s m args below meth c0 (MQ below (zs_Qc base ad Y D r M) args s (M.1 - n0) (zs_sl M.1 - zs_sl n0) (zs_A base)) base n0 ad Y D c pc ls st M := by
  obtain ⟨hmt, hx, hb, hml, hown, hts, hin, hK, hPX, had, hR, hbs⟩ := C
  obtain ⟨hdg, hok⟩ := hd
  intro H locs arr hw hn hS hl
  have hq : ∀ (v : Option Value) (t : State), v = r.map (zs_mv ad) → t.heap = H → zs_Qc base ad Y D r M args s (.returned v) t := fun v t hv ht => ⟨⟨by rw [hv], by rw [ht]; exact hw⟩, hS.F ht⟩
  cases i
  case ireturn =>
    have hn1 : n = 1 := Nat.eq_of_beq_eq_true hok
    subst hn1
    simp only [zk_st] at hs
    split at hs
    · next v =>
      cases hz : Nat.beq c.2.2.1 1 with
      | true =>
        rw [hz] at hs; cases hs
        rw [Nat.eq_of_beq_eq_true hz] at hrt
        exact W.iret hx hb (by rw [hret]; exact hrt) (fun t ht _ => hq _ t rfl ht) hS.2.2 hdg hlocks
      | false =>
        rw [hz] at hs
        simp only [cond_false] at hs
        split at hs
        · next hc =>
          cases hs
          rw [Nat.eq_of_beq_eq_true hc.1] at hrt
          refine W.zret (ty := .boolean) hx hb (by rw [hret]; exact hrt) ?_ (fun t ht _ => hq _ t rfl ht) hS.2.2 hdg hlocks
          rcases hc.2 with z | z
          · subst z; decide
          · subst z; decide
        · cases hs
    · cases hs
  case lreturn =>
    have hn1 : n = 1 := Nat.eq_of_beq_eq_true hok
    subst hn1
    simp only [zk_st] at hs
    split at hs
    · next v =>
      cases hz : Nat.beq c.2.2.1 3 with
      | true =>
        rw [hz] at hs; cases hs
        rw [Nat.eq_of_beq_eq_true hz] at hrt
        exact W.lret hx hb (by rw [hret]; exact hrt) (fun t ht _ => hq _ t rfl ht) hS.2.2 hdg hlocks
      | false => rw [hz] at hs; cases hs
    · cases hs
  case areturn =>
    have hn1 : n = 1 := Nat.eq_of_beq_eq_true hok
    subst hn1
    simp only [zk_st] at hs
    split at hs
    · next v =>
      cases hz : Nat.beq c.2.2.1 4 with
      | true =>
        rw [hz] at hs; cases hs
        rw [Nat.eq_of_beq_eq_true hz] at hrt
        obtain ⟨nm, hnm⟩ := hrt
        exact W.aret (rt := .object nm) hx hb (by rw [hret]; exact hnm) (Or.inl ⟨_, rfl⟩) (Or.inr ⟨_, rfl⟩) (fun t ht _ => hq _ t rfl ht) hS.2.2 hdg hlocks
      | false => rw [hz] at hs; cases hs
    · cases hs
  case return_ =>
    have hn1 : n = 1 := Nat.eq_of_beq_eq_true hok
    subst hn1
    simp only [zk_st] at hs
    split at hs
    · cases hz : Nat.beq c.2.2.1 0 with
      | true =>
        rw [hz] at hs; cases hs
        rw [Nat.eq_of_beq_eq_true hz] at hrt
        exact W.vret hx hb (by rw [hret]; exact hrt) (fun t ht _ => hq _ t rfl ht) hS.2.2 hdg hlocks
      | false => rw [hz] at hs; cases hs
    · cases hs
  all_goals (exfalso; revert hs; simp only [zk_st, zk_nx, zk_call, cond_eq_ite]; (repeat' split) <;> (intro hs; cases hs))
end SC
/-- the code's rows, all of them -/
def zs_dec : Prop := ∀ m c, zk_mt m = some c → ∀ e ∈ c.2.2.2.2.2, zd_P (zk_by m) e
/-- what a called method's facts are -/
def zs_yes : Prop := ∀ e ∈ zk_clL, e.2.2.1 ≤ 3 → zg_yP e.2.2.2
theorem zs_yes_ok : zs_yes := by
  intro e he hk
  have := zg_cl e he
  obtain ⟨a, b, k, y⟩ := e
  match k, hk with
  | 0, _ => exact this.1
  | 1, _ => exact this.1
  | 2, _ => exact this.1
  | 3, _ => exact this.1
/-- THE RUN of the pure machine is the machine's -/
theorem zs_main (hdec : zs_dec) (l : Launch) {base : Nat} {ad adV : Nat → Nat} {Y : zs_Y} {D : va_G} {sc : zk_X} (hS1 : zs_S1 l base ad adV sc) (hS2 : zs_S2 l base ad adV sc) : ∀ (n d y pc : Nat) (ls : List (Option Value)) (st : List Value) (M : zk_M) (r : Option Value) (M' : zk_M), zk_run sc n d y pc ls st M = some (r, M') →
    ∀ {p : Program} {e : Env} {R : Room} {s : State} {m : MethodId} {args : Array Value} {below : List Frame} {meth : Method} {c0 : Code} {Q : State → Prop} {n0 nx : Nat} {c : zk_C}, zs_C p R s m args meth c0 base n0 nx ad adV Y D sc y c d → M'.1 ≤ nx →
    (∀ (pc : Nat) (ls : List (Option Value)) (st : List Value) (i : Instr) (n : Nat), zd_P (zk_by y) (pc, i, n) → zk_st sc c pc i ls st M' = some (.inr (.inr r)) → zs_G p l e R s m args below meth c0 Q base n0 ad Y D c pc ls st M') →
    zs_G p l e R s m args below meth c0 Q base n0 ad Y D c pc ls st M := by
  intro n
  induction n with
  | zero => intro d y pc ls st M r M' h; cases h
  | succ n ih =>
    intro d y pc ls st M r M' h p e R s m args below meth c0 Q n0 nx c C hnx FIN
    have hmt := C.1
    rw [zk_run] at h
    simp only [hmt] at h
    split at h
    · cases h
    · next i hi =>
      obtain ⟨nl, hmem⟩ := zk_lk_mem hi
      have hd := hdec y c hmt _ hmem
      split at h
      · cases h
      · next pc' ls' st' M1 hs =>
        have hle := zk_run_le sc _ _ _ _ _ _ _ _ _ h
        refine zs_next C hS1 hS2 hd (fun pc2 ls2 st2 M2 h2 => ?_) ⟨pc', ls', st', M1, hs, ih d y pc' ls' st' M1 r M' h C hnx FIN⟩
        rw [hs] at h2
        cases h2
        exact Nat.le_trans hle hnx
      · next r2 hs =>
        cases h
        exact FIN pc ls st i nl hd hs
      · next y' as rest hs =>
        cases d with
        | zero => cases h
        | succ d =>
          simp only at h
          split at h
          · cases h
          · next cy hy =>
            split at h
            · cases h
            · next r1 M1 hr =>
              have hle1 := zk_run_le sc _ _ _ _ _ _ _ _ _ hr
              have hle2 := zk_run_le sc _ _ _ _ _ _ _ _ _ h
              refine zs_call (r := r1) (M' := M1) C hd hs hy hle1 (Nat.le_trans hle2 hnx) (fun hokc => ?_) (ih (d + 1) y (pc + 3) ls _ M1 r M' h C hnx FIN)
              obtain ⟨ix, kd, na, v, hcl, hca, hik⟩ := zk_st_call hs
              obtain ⟨cy', hy', hcode, hini, hmh, hoy, hmx, hpl, hci, hrt, hc8⟩ := zs_yes_ok _ (zk_l2_mem hcl) (by rcases hik with ⟨-, q, -⟩ | ⟨-, q, -⟩ | ⟨-, q | q, -⟩ <;> (show kd ≤ 3; omega))
              cases hy.symm.trans hy'
              refine Met.ofW (cc := zk_by y') (maxL := cy.2.1) (ret := zk_rt y') hpl rfl ?_
              intro p2 e2 s2 m2 args2 below2 meth2 c2 s₁ B hml hv
              obtain ⟨rfl, hw2, hK2, hP2, hbs2⟩ := hv
              have hts2 := atoms_spec (ws := zs_wd y' cy) B.pre
              have hown2 : s2.vm.findClass (zk_yn y').cls = some m2.cls := findClass_of_methodNamed B.named
              have C2 : zs_C p2 (zs_rm d M M1) s2 m2 (as.map (zs_mv ad)).toArray meth2 c2 base M.1 M1.1 ad adV Y D sc y' cy d := ⟨hy, B.exec, B.bytes, hml, by rw [hoy]; exact hown2, fun w hw => hts2 w (List.mem_cons_of_mem _ hw), fun hc => ((name_of_methodNamed B.named B.method).1).trans (hci hc), hK2, hP2, C.2.2.2.2.2.2.2.2.2.1, ⟨Nat.le_refl _, Nat.le_refl _, Nat.le_refl _, Nat.le_refl _⟩, hbs2⟩
              have G := ih d y' 0 (zk_ent cy.2.1 as) [] M r1 M1 hr (Q := MQ below2 (zs_Qc base ad Y D r1 M1) (as.map (zs_mv ad)).toArray s2 (M1.1 - M.1) (zs_sl M1.1 - zs_sl M.1) (zs_A base)) (below := below2) (e := e2) C2 (Nat.le_refl _) (fun pc ls st i n hd hs => zs_fin C2 B.returns hrt B.notSynchronized hd hs)
              have G2 := G s2.heap [] _ hw2 (Nat.le_refl _) va_S.rf (zs_entry hy hokc)
              rw [Nat.sub_self, Nat.sub_self] at G2
              rw [lg_entry_eq]
              exact G2
