/-! INSTRUCTIONS THAT MAKE CELLS; calls of the library's own -/
theorem zs_sl_mono {a b : Nat} (h : a ≤ b) : zs_sl a ≤ zs_sl b := by
  unfold zs_sl
  have e : zk_shL.take b = zk_shL.take a ++ (zk_shL.drop a).take (b - a) := by
    rw [← List.take_add]
    congr 1
    omega
  rw [e, List.map_append, List.sum_append]
  omega
theorem zs_sl_succ {k : Nat} (h : (zk_sh k).1 ≠ 9) : zs_sl (k + 1) = zs_sl k + (if (zk_sh k).1 = 0 then (zk_sh k).2.2 else (zk_sh k).2.1) := by
  have hk : zk_shL[k]? = some (zk_sh k) := by
    unfold zk_sh at h ⊢
    cases hk : zk_shL[k]? with
    | none => rw [hk] at h; exact absurd rfl h
    | some x => rfl
  unfold zs_sl
  rw [List.take_succ, hk, List.map_append, List.sum_append]
  simp
theorem zs_ek (k : Nat) (h : 2000 ≤ k) : k = 2000 + (k - 2000) := by omega
theorem zs_sum (ad : Nat → Nat) {st : List Value} (h : st.length ≤ 4) : ((st.map (zs_mv ad)).map fun v => v.category).sum ≤ 8 := by
  have key : ∀ l : List Value, (l.map fun v => v.category).sum ≤ 2 * l.length := by
    intro l
    induction l with
    | nil => simp
    | cons v t ih =>
      have : v.category ≤ 2 := by cases v <;> simp [Value.category]
      simp only [List.map_cons, List.sum_cons, List.length_cons]
      omega
  have := key (st.map (zs_mv ad))
  rw [List.length_map] at this
  omega
/-- the rows of the texts' own methods, as they are used -/
def zs_S1 (l : Launch) (base : Nat) (ad adV : Nat → Nat) (sc : zk_X) : Prop := ∀ (p : Program) (e : Env) (R : Room) (s : State) (m : MethodId) (args : Array Value) (below : List Frame) (meth : Method) (c0 : Code) (H : Heap) (locs : List Loc) (cells slots : Nat) (Q : State → Prop) (cc : ByteArray) (pc : Nat) (arr : Array Slot) (rest : List Value) (ix j : Nat),
  p.tables.exec = Jvm.exec → c0.code = cc → s.vm.findClass "TwoHeapsAlike$Tape" = some m.cls → (∀ w ∈ zg_tab, w.before args s = true) → zs_P base ad adV sc s s.heap → va_S (zs_A base) s.heap H locs → decode cc pc = .ok (.invokevirtual ix, 3) → Cond.methodLink "TwoHeapsAlike$Tape" ix ⟨"java/lang/String", "length", "()I"⟩ ∈ zg_tab → j < 12 → 12 ≤ R.frames → 720 ≤ R.locals → cells ≤ R.cells → slots ≤ R.slots → arr.size = c0.maxLocals → (rest.map fun v => v.category).sum ≤ 8 →
  W p l e R s m args below meth c0 H locs cells slots Q (F0 m (pc + 3) arr (.int (zk_sln j) :: rest)) → W p l e R s m args below meth c0 H locs cells slots Q (F0 m pc arr (.ref (ad (2000 + j)) :: rest))
def zs_S2 (l : Launch) (base : Nat) (ad adV : Nat → Nat) (sc : zk_X) : Prop := ∀ (p : Program) (e : Env) (R : Room) (s : State) (m : MethodId) (args : Array Value) (below : List Frame) (meth : Method) (c0 : Code) (H : Heap) (locs : List Loc) (cells slots : Nat) (Q : State → Prop) (cc : ByteArray) (pc : Nat) (arr : Array Slot) (rest : List Value) (ix j : Nat) (i : Int32),
  p.tables.exec = Jvm.exec → c0.code = cc → s.vm.findClass "TwoHeapsAlike$Tape" = some m.cls → (∀ w ∈ zg_tab, w.before args s = true) → zs_P base ad adV sc s s.heap → va_S (zs_A base) s.heap H locs → decode cc pc = .ok (.invokevirtual ix, 3) → Cond.methodLink "TwoHeapsAlike$Tape" ix ⟨"java/lang/String", "charAt", "(I)C"⟩ ∈ zg_tab → j < 12 → zk_inb i (zk_sle j) = true → 12 ≤ R.frames → 720 ≤ R.locals → cells ≤ R.cells → slots ≤ R.slots → arr.size = c0.maxLocals → (rest.map fun v => v.category).sum ≤ 8 →
  W p l e R s m args below meth c0 H locs cells slots Q (F0 m (pc + 3) arr (.int (zk_sch j i.toNatClampNeg) :: rest)) → W p l e R s m args below meth c0 H locs cells slots Q (F0 m pc arr (.int i :: .ref (ad (2000 + j)) :: rest))
section SN
variable {p : Program} {l : Launch} {e : Env} {R : Room} {s : State} {m : MethodId} {args : Array Value} {below : List Frame} {meth : Method} {c0 : Code} {Q : State → Prop}
variable {base n0 nx : Nat} {ad adV : Nat → Nat} {Y : zs_Y} {D : va_G} {sc : zk_X} {y : Nat} {c : zk_C}
variable {pc : Nat} {ls : List (Option Value)} {st : List Value} {M : zk_M} {d : Nat} {H H1 : Heap}
/-- a new cell behind the world's -/
theorem zs_grow {en : va_E} (hw : zs_W base ad Y D M H) (h83 : M.1 < 83) (he : va_at D zf_cls (base + M.1, en) H1) (z : H1.size = base + M.1 + 1) (oq : ∀ q : Nat, q < base + M.1 → H1[q]? = H[q]?) (hc : zs_ct ad Y M.1 (zk_new M) = en) : zs_W base ad Y D (zk_new M) H1 := by
  refine ⟨⟨by omega, fun _ => by rw [z]; rfl⟩, ?_, h83⟩
  rw [← zs_pushW (M' := zk_new M) rfl hc (fun j hj => zs_ct_new j hj)]
  refine (hw.2.1.kept (fun k q hq => ?_)).app (fun k x hx => ?_)
  · have := (hw.2.1 k q hq).lt
    rw [hw.1.2 h83] at this
    exact oq q.1 this
  · have hz : k < 1 := (List.getElem?_eq_some_iff.mp hx).1
    rw [show k = 0 by omega] at hx
    cases hx
    exact he
theorem zs_new_fv {ci : Nat} (M : zk_M) : zs_fv ad ci M.1 (zk_new M) = fun j => bif zk_fk ci j then .null else .int 0 := by
  funext j
  unfold zs_fv
  simp [zk_new, va_rf]
theorem zi_new (C : zs_C p R s m args meth c0 base n0 nx ad adV Y D sc y c d) {ix : Nat} {n : Nat} (hd : zd_P (zk_by y) (pc, .new ix, n)) (hnx : ∀ pc' ls' st' M', zk_st sc c pc (.new ix) ls st M = some (.inl (pc', ls', st', M')) → M'.1 ≤ nx) (h : zs_nx' p l e R s m args below meth c0 Q base n0 ad Y D c (zk_st sc c pc (.new ix) ls st M)) : zs_G p l e R s m args below meth c0 Q base n0 ad Y D c pc ls st M := by
  obtain ⟨hmt, hx, hb, hml, hown, hts, hin, hK, hPX, had, hR, hbs⟩ := C
  obtain ⟨hdg, hok⟩ := hd
  obtain ⟨pc', ls', st', M', he, k⟩ := h
  intro H locs arr hw hn hS hl
  have hn1 : n = 3 := Nat.eq_of_beq_eq_true hok
  subst hn1
  have hle := hnx _ _ _ _ he
  simp only [zk_st] at he
  split at he
  · next ci nf hnw =>
    split at he
    · next hc =>
      cases he
      obtain ⟨C, T, ty, hKK, hcl, hins, hini⟩ := zg_nw _ (zk_l2_mem hnw)
      have h0 : (zk_sh M.1).1 = 0 := by rw [hc]
      have h83 := (zs_shm (k := M.1) (by rw [h0]; decide)).2
      have hct := zs_obj (ad := ad) (Y := Y) h0 (by rw [hc]) hKK (zk_new M)
      obtain ⟨hcs, hws, hty, hnm, hou, hde, hrf, hii, hff⟩ := hKK
      have hKn := hK.1 ci _ hcs
      have e1 : (zk_new M).1 - n0 = M.1 - n0 + 1 := by show M.1 + 1 - n0 = _; omega
      have e2 : zs_sl (zk_new M).1 - zs_sl n0 = zs_sl M.1 - zs_sl n0 + nf := by
        have := zs_sl_succ (k := M.1) (by rw [h0]; decide)
        rw [if_pos h0, hc] at this
        have h2 := zs_sl_mono hn
        show zs_sl (M.1 + 1) - zs_sl n0 = _
        rw [this]
        show zs_sl M.1 + nf - zs_sl n0 = _
        omega
      have hle1 : M.1 + 1 ≤ nx := hle
      have hsl := zs_sl_mono hle1
      refine W.newcK (n := nf) hx hb hown (hts _ hcl) (hts _ hins) (hts _ hini) rfl hdg (by have := hR.2.2.1; omega) (by have := hR.2.2.2; have e3 : zs_sl (M.1 + 1) - zs_sl n0 = zs_sl M.1 - zs_sl n0 + nf := e2; omega) hKn.2.1 (hw.1.2 h83) fun H1 kC hkC g1 z1 o1 => ?_
      have hen : va_at D zf_cls (base + M.1, .inr (ci, (List.range nf).map (zs_fv ad ci M.1 (zk_new M)))) H1 := by
        refine ⟨_, hcs, (u_born ty hts hws hKn hkC g1 hty).to (fun j hj => ?_)⟩
        have e5 : vp_V ((List.range nf).map (zs_fv ad ci M.1 (zk_new M))) j = (bif zk_fk ci j then .null else .int 0) := by
          unfold vp_V
          rw [List.getD_eq_getElem?_getD, zs_fs hj, zs_new_fv]
          rfl
        rw [e5]
        cases hf : zk_fk ci j with
        | true =>
          rcases hrf j hj hf with ⟨-, nm, q⟩ | ⟨-, t, q⟩
          · rw [q]; rfl
          · rw [q]; rfl
        | false =>
          rcases hii j hj hf with ⟨q, -⟩ | ⟨q, -⟩
          · rw [q]; rfl
          · rw [q]; rfl
      have := k H1 locs arr (zs_grow hw h83 hen z1 o1 hct) (by show n0 ≤ M.1 + 1; omega) ⟨by have := hS.1; rw [hw.1.2 h83] at this; omega, fun q h1 h2 => by rw [o1 q (by have := hS.1; rw [hw.1.2 h83] at this; omega)]; exact hS.2.1 q h1 h2, hS.2.2⟩ hl
      rw [e1, e2] at this
      have ha : ad M.1 = base + M.1 := had M.1 (by omega)
      rw [← ha]
      exact this
    · cases he
  · cases he
theorem zs_newsh {a b : Nat} (h : zk_sh M.1 = (a, b, 0)) (ha : a = 1 ∨ a = 2 ∨ a = 3) : M.1 < 83 ∧ zs_sl (M.1 + 1) = zs_sl M.1 + b := by
  have h0 : (zk_sh M.1).1 = a := by rw [h]
  refine ⟨(zs_shm (by rw [h0]; omega)).2, ?_⟩
  rw [zs_sl_succ (by rw [h0]; omega), if_neg (by rw [h0]; omega), h]
theorem zi_newarray (C : zs_C p R s m args meth c0 base n0 nx ad adV Y D sc y c d) {t : ArrayType} {n : Nat} (hd : zd_P (zk_by y) (pc, .newarray t, n)) (hnx : ∀ pc' ls' st' M', zk_st sc c pc (.newarray t) ls st M = some (.inl (pc', ls', st', M')) → M'.1 ≤ nx) (h : zs_nx' p l e R s m args below meth c0 Q base n0 ad Y D c (zk_st sc c pc (.newarray t) ls st M)) : zs_G p l e R s m args below meth c0 Q base n0 ad Y D c pc ls st M := by
  obtain ⟨hmt, hx, hb, hml, hown, hts, hin, hK, hPX, had, hR, hbs⟩ := C
  obtain ⟨hdg, hok⟩ := hd
  obtain ⟨pc', ls', st', M', he, k⟩ := h
  intro H locs arr hw hn hS hl
  have hn1 : n = 2 := Nat.eq_of_beq_eq_true hok
  subst hn1
  have hle := hnx _ _ _ _ he
  simp only [zk_st] at he
  split at he
  · next v st1 =>
    -- a row of numbers of one kind
    have fin : ∀ (ty : FieldType) (cT : ClassId) (t0 a : Nat), zk_inb v 5000 = true → M.1 + 1 ≤ nx → newarray.typeOf t = ty → (a = 1 ∨ a = 2) → zk_sh M.1 = (a, v.toNatClampNeg, 0) → (zs_ty Y)[t0]? = some (cT, ty) → (va_RA s cT ty → s.vm.findClass ("[" ++ ty.toString) = some cT) → (Cond.arrayClass ty).before args s = true → componentBytes ty ≤ 4 → defaultValue ty = .int 0 → zs_ct ad Y M.1 (zk_new M) = .inl (cT, v.toNatClampNeg, .inl ((zk_new M).2.1 M.1)) → zs_G p l e R s m args below meth c0 Q base n0 ad Y D c (pc + 2) ls (.ref M.1 :: st1) (zk_new M) →
        W p l e R s m args below meth c0 H locs (M.1 - n0) (zs_sl M.1 - zs_sl n0) Q (F0 m pc arr (.int v :: st1.map (zs_mv ad))) := by
      intro ty cT t0 a hv hle1 hty ha hsh ht hra harr hbyt hdef hct kk
      subst hty
      have hv3 : ¬ v < 0 := fun z => zs_in hv (Or.inl z)
      have hv4 : v.toNatClampNeg < 5000 := Nat.not_le.mp fun z => zs_in hv (Or.inr z)
      obtain ⟨h83, hsl1⟩ := zs_newsh hsh (by omega)
      have hsl := zs_sl_mono hle1
      have e1 : (zk_new M).1 - n0 = M.1 - n0 + 1 := by show M.1 + 1 - n0 = _; omega
      have h2 := zs_sl_mono hn
      have e2 : zs_sl (zk_new M).1 - zs_sl n0 = zs_sl M.1 - zs_sl n0 + v.toNatClampNeg := by
        show zs_sl (M.1 + 1) - zs_sl n0 = _
        rw [hsl1]
        omega
      refine va_newaK hx hb harr rfl hdg rfl hv3 rfl (Nat.le_trans (Nat.mul_le_mul (Nat.le_of_lt hv4) hbyt) (by decide)) (by have := hR.2.2.1; omega) (by have := hR.2.2.2; omega) (hw.1.2 h83) fun H1 cA g1 z1 o1 hAr hNm => ?_
      have hcA : cA = cT := Option.some.inj (hNm.symm.trans (hra (hK.2 t0 _ ht).2))
      subst hcA
      have hen : va_at D zf_cls (base + M.1, .inl (cA, v.toNatClampNeg, .inl ((zk_new M).2.1 M.1))) H1 := by
        show H1[base + M.1]? = some (vp_cell _ _)
        rw [g1, vp_cell_i, hdef]
        congr 2
        funext j
        simp [zk_new]
      have := kk H1 locs arr (zs_grow hw h83 hen z1 o1 hct) (by show n0 ≤ M.1 + 1; omega) ⟨by have := hS.1; rw [hw.1.2 h83] at this; omega, fun q h1 h2 => by rw [o1 q (by have := hS.1; rw [hw.1.2 h83] at this; omega)]; exact hS.2.1 q h1 h2, hS.2.2⟩ hl
      rw [e1, e2] at this
      have ha : ad M.1 = base + M.1 := had M.1 (by omega)
      rw [← ha]
      exact this
    cases t with
    | int =>
      simp only at he
      split at he
      · next hc =>
        have h0 : (zk_sh M.1).1 = 1 := by rw [hc.1]
        cases he
        exact fin .int Y.1 0 1 hc.2 hle rfl (Or.inl rfl) hc.1 rfl (fun h => h) (hts _ zg_aI) (by decide) rfl (by rw [zs_ia h0, hc.1]) k
      · cases he
    | boolean =>
      simp only at he
      split at he
      · next hc =>
        have h0 : (zk_sh M.1).1 = 2 := by rw [hc.1]
        cases he
        exact fin .boolean Y.2.1 1 2 hc.2 hle rfl (Or.inr rfl) hc.1 rfl (fun h => h) (hts _ zg_aZ) (by decide) rfl (by rw [zs_za h0, hc.1]) k
      · cases he
    | _ =>
      simp only at he
      split at he
      · next hc =>
        have h0 : (zk_sh M.1).1 = 8 := by rw [hc.1]
        have := (zg_sh _ (zs_shm (k := M.1) (by rw [h0]; decide)).1).1
        rw [h0] at this
        exact absurd this (by decide)
      · cases he
  · cases he
theorem zi_anewarray (C : zs_C p R s m args meth c0 base n0 nx ad adV Y D sc y c d) {ix : Nat} {n : Nat} (hd : zd_P (zk_by y) (pc, .anewarray ix, n)) (hnx : ∀ pc' ls' st' M', zk_st sc c pc (.anewarray ix) ls st M = some (.inl (pc', ls', st', M')) → M'.1 ≤ nx) (h : zs_nx' p l e R s m args below meth c0 Q base n0 ad Y D c (zk_st sc c pc (.anewarray ix) ls st M)) : zs_G p l e R s m args below meth c0 Q base n0 ad Y D c pc ls st M := by
  obtain ⟨hmt, hx, hb, hml, hown, hts, hin, hK, hPX, had, hR, hbs⟩ := C
  obtain ⟨hdg, hok⟩ := hd
  obtain ⟨pc', ls', st', M', he, k⟩ := h
  intro H locs arr hw hn hS hl
  have hn1 : n = 3 := Nat.eq_of_beq_eq_true hok
  subst hn1
  have hle := hnx _ _ _ _ he
  simp only [zk_st] at he
  split at he
  · next v st1 =>
    split at he
    · next ci nf hnw =>
      split at he
      · next hc =>
        obtain ⟨hc, hv, hci⟩ := hc
        have hv3 : ¬ v < 0 := fun z => zs_in hv (Or.inl z)
        have hv4 : v.toNatClampNeg < 5000 := Nat.not_le.mp fun z => zs_in hv (Or.inr z)
        obtain ⟨C, T, ty, hKK, hcl, hins, hini⟩ := zg_nw _ (zk_l2_mem hnw)
        have h0 : (zk_sh M.1).1 = 3 := by rw [hc]
        have h83 := (zs_shm (k := M.1) (by rw [h0]; decide)).2
        have hsl1 : zs_sl (M.1 + 1) = zs_sl M.1 + v.toNatClampNeg := by
          rw [zs_sl_succ (by rw [h0]; decide), if_neg (by rw [h0]; decide), hc]
        have fin : ∀ (t0 : Nat) (cT : ClassId) (hover : (Cond.arrayOver (.object C)).before args s = true), (zs_ty Y)[t0]? = some (cT, .object C) → (∀ M2 : zk_M, zs_ct ad Y M.1 M2 = .inl (cT, v.toNatClampNeg, .inr (.inr (.inr (.inr (fun j => (M2.2.2 M.1 j).map ad)))))) → zs_G p l e R s m args below meth c0 Q base n0 ad Y D c (pc + 3) ls (.ref M.1 :: st1) (zk_new M) →
            W p l e R s m args below meth c0 H locs (M.1 - n0) (zs_sl M.1 - zs_sl n0) Q (F0 m pc arr (.int v :: st1.map (zs_mv ad))) := by
          intro t0 cT hover ht hct kk
          have hle1 : M.1 + 1 ≤ nx := by
            have := hle
            cases he
            exact this
          have hsl := zs_sl_mono hle1
          have e1 : (zk_new M).1 - n0 = M.1 - n0 + 1 := by show M.1 + 1 - n0 = _; omega
          have h2 := zs_sl_mono hn
          have e2 : zs_sl (zk_new M).1 - zs_sl n0 = zs_sl M.1 - zs_sl n0 + v.toNatClampNeg := by
            show zs_sl (M.1 + 1) - zs_sl n0 = _
            rw [hsl1]
            omega
          refine W.anew hx hb hown (hts _ hcl) hover rfl hdg rfl hv3 (Nat.le_trans (Nat.mul_le_mul (Nat.le_of_lt hv4) (Nat.le_refl 4)) (by decide)) (by have := hR.2.2.1; omega) (by have := hR.2.2.2; omega) fun cA kA comp f1 f2 f3 f4 => ?_
          obtain ⟨kA', comp', r1, r2, r3, r4⟩ := (hK.2 t0 _ ht).2
          have hcA : cA = cT := Option.some.inj (f1.symm.trans r4)
          subst hcA
          have hHs := hw.1.2 h83
          generalize hH1 : H.push ({ cls := cA, slots := Array.replicate v.toNatClampNeg .null, vm := .none } : Cell) = H1
          have z1 : H1.size = base + M.1 + 1 := by rw [← hH1, Array.size_push, hHs]
          have g1 : H1[base + M.1]? = some (arrV cA v.toNatClampNeg (fun _ => .null)) := by rw [← hH1, ← hHs, Array.getElem?_push_size, ← arrV_new]
          have o1 : ∀ q : Nat, q < base + M.1 → H1[q]? = H[q]? := fun q hq => by rw [← hH1, Array.getElem?_push, if_neg (by rw [hHs]; omega)]
          have hen : va_at D zf_cls (base + M.1, .inl (cA, v.toNatClampNeg, .inr (.inr (.inr (.inr (fun j => ((zk_new M).2.2 M.1 j).map ad)))))) H1 := by
            show H1[base + M.1]? = some (vp_cell _ _)
            rw [g1, vp_cell_q]
            congr 2
            funext j
            simp [zk_new, va_rf]
          have := kk H1 locs arr (zs_grow hw h83 hen z1 o1 (hct _)) (by show n0 ≤ M.1 + 1; omega) ⟨by have := hS.1; rw [hHs] at this; omega, fun q h1 h2 => by rw [o1 q (by have := hS.1; rw [hHs] at this; omega)]; exact hS.2.1 q h1 h2, hS.2.2⟩ hl
          rw [e1, e2] at this
          have ha : ad M.1 = base + M.1 := had M.1 (by omega)
          rw [hHs, ← ha]
          exact this
        rcases hci with q | q
        · subst q
          have hC : C = "TwoHeapsAlike$Sheet" := by
            have := hKK.1
            cases this
            rfl
          subst hC
          cases he
          exact fin 3 Y.2.2.2 (va_AO.use hPX.2.2.2.1.2) rfl (fun M2 => by rw [zs_ra h0, hc]; rfl) k
        · subst q
          have hC : C = "TwoHeapsAlike$Text" := by
            have := hKK.1
            cases this
            rfl
          subst hC
          cases he
          exact fin 2 Y.2.2.1 (va_AO.use hPX.2.2.2.1.1) rfl (fun M2 => by rw [zs_ra h0, hc]; rfl) k
      · cases he
    · cases he
  · cases he
theorem zi_static (C : zs_C p R s m args meth c0 base n0 nx ad adV Y D sc y c d) {ix : Nat} {n : Nat} (hd : zd_P (zk_by y) (pc, .invokestatic ix, n)) (hnx : ∀ pc' ls' st' M', zk_st sc c pc (.invokestatic ix) ls st M = some (.inl (pc', ls', st', M')) → M'.1 ≤ nx) (h : zs_nx' p l e R s m args below meth c0 Q base n0 ad Y D c (zk_st sc c pc (.invokestatic ix) ls st M)) : zs_G p l e R s m args below meth c0 Q base n0 ad Y D c pc ls st M := by
  obtain ⟨hmt, hx, hb, hml, hown, hts, hin, hK, hPX, had, hR, hbs⟩ := C
  obtain ⟨hdg, hok⟩ := hd
  obtain ⟨pc', ls', st', M', he, k⟩ := h
  intro H locs arr hw hn hS hl
  have hn1 : n = 3 := Nat.eq_of_beq_eq_true hok
  subst hn1
  have hle := hnx _ _ _ _ he
  have hfr : 12 ≤ R.frames := by have := hR.1; unfold zs_fr at this; omega
  have hlo : 720 ≤ R.locals := by have := hR.2.1; unfold zs_lox at this; omega
  have hms : c0.maxLocals = arr.size := by rw [hml, hl.1.1]
  have room : ∀ st1 : List Value, st1.length ≤ 4 → M.1 ≤ nx → M.1 - n0 ≤ R.cells ∧ zs_sl M.1 - zs_sl n0 ≤ R.slots ∧ ((st1.map (zs_mv ad)).map fun v => v.category).sum + 13 ≤ R.locals := by
    intro st1 h1 h2
    have h3 := zs_sl_mono h2
    have h4 := zs_sum ad h1
    have h5 := hR.2.2
    exact ⟨by omega, by omega, by omega⟩
  simp only [zk_st] at he
  split at he
  · unfold zk_call at he
    revert he; cases (Nat.ble _ _ && Nat.ble _ 8 && zk_okc _ _ && _) <;> (intro he; cases he)
  · next hcl =>
    split at he
    · next y1 x1 st1 =>
      cases hz : Nat.ble st1.length 4 with
      | false => rw [hz] at he; cases he
      | true =>
        rw [hz] at he; cases he
        obtain ⟨q1, q2, q3, q4⟩ := zg_cl _ (zk_l2_mem hcl)
        obtain ⟨r1, r2, r3⟩ := room _ (Nat.le_of_ble_eq_true hz) hle
        exact va_mmax hx hb hms hown (hts _ q1) (hts _ q2) (hts _ q3) (hts _ q4) (by omega) r3 r1 r2 hdg (k H locs arr hw hn hS hl)
    · cases he
  · next hcl =>
    split at he
    · next y1 x1 st1 =>
      cases hz : Nat.ble st1.length 4 with
      | false => rw [hz] at he; cases he
      | true =>
        rw [hz] at he; cases he
        obtain ⟨q1, q2, q3, q4⟩ := zg_cl _ (zk_l2_mem hcl)
        obtain ⟨r1, r2, r3⟩ := room _ (Nat.le_of_ble_eq_true hz) hle
        exact va_mmin hx hb hms hown (hts _ q1) (hts _ q2) (hts _ q3) (hts _ q4) (by omega) r3 r1 r2 hdg (k H locs arr hw hn hS hl)
    · cases he
  · next hcl =>
    split at he
    · next x1 st1 =>
      cases hz : Nat.ble st1.length 4 with
      | false => rw [hz] at he; cases he
      | true =>
        rw [hz] at he; cases he
        obtain ⟨q1, q2, q3, q4⟩ := zg_cl _ (zk_l2_mem hcl)
        obtain ⟨r1, r2, r3⟩ := room _ (Nat.le_of_ble_eq_true hz) hle
        exact va_mabs hx hb hms hown (hts _ q1) (hts _ q2) (hts _ q3) (hts _ q4) (by omega) r3 r1 r2 hdg (k H locs arr hw hn hS hl)
    · cases he
  · next hcl =>
    split at he
    · next nn dp b1 sp a1 st1 =>
      split at he
      · next hc =>
        cases he
        obtain ⟨⟨h83, ha, hb1, hsa, hsb⟩, hst, hn0, hs0, hd0, hss, hdd⟩ := hc
        have h83 := Nat.le_of_ble_eq_true h83
        have ha := zs_lt _ _ ha
        have hb1 := zs_lt _ _ hb1
        obtain ⟨q1, q2, q3, q4⟩ := zg_cl _ (zk_l2_mem hcl)
        have haa : ad a1 = base + a1 := had a1 (by have := hw.2.2; omega)
        have hbb : ad b1 = base + b1 := had b1 (by have := hw.2.2; omega)
        show W p l e R s m args below meth c0 H locs _ _ Q (F0 m pc arr (.int nn :: .int dp :: .ref (ad b1) :: .int sp :: .ref (ad a1) :: st'.map (zs_mv ad)))
        rw [haa, hbb]
        have hat := zs_at (base := base) (ad := ad) (Y := Y) ha
        rw [zs_ia hsa] at hat
        have hbt := zs_at (base := base) (ad := ad) (Y := Y) hb1
        rw [zs_ia hsb] at hbt
        have nn0 : ∀ z : Int32, 0 ≤ z.toInt → ¬ z < 0 ∧ z.toInt = (z.toNatClampNeg : Int) := by
          intro z hz
          refine ⟨fun q => ?_, ?_⟩
          · have := Int32.lt_iff_toInt_lt.mp q
            simp at this
            omega
          · show z.toInt = ((z.toInt.toNat : Nat) : Int)
            omega
        obtain ⟨n1, n2⟩ := nn0 nn hn0
        obtain ⟨s1, s2⟩ := nn0 sp hs0
        obtain ⟨d1, d2⟩ := nn0 dp hd0
        have hwords : nativeFrameWords "java/lang/System" "arraycopy" 5 = 7 := by decide +kernel
        have hsum := zs_sum ad hst
        refine va_copyi hx hb hms hown (hts _ q1) (hts _ q2) (hts _ q3) (hts _ q4) hK hw.2.1 (zs_D base ad Y M) hS a1 b1 0 0 hat hbt rfl rfl rfl s1 d1 n1 (by omega) (by omega) (fun i hi => rfl) (by omega) (by rw [hwords]; omega) hdg (fun H1 locs1 hP hD hS1 => ?_)
        refine k H1 locs1 arr ⟨⟨Nat.le_trans hbs hS1.1, fun z => absurd z (Nat.not_lt.mpr h83)⟩, ?_, hw.2.2⟩ hn hS1 hl
        rw [← zs_setW (M := M) (M' := zk_cpy M a1 sp.toNatClampNeg b1 dp.toNatClampNeg nn.toNatClampNeg) (k := b1) (e := .inl (Y.1, (zk_sh b1).2.1, .inl (va_cpy (M.2.1 a1) (M.2.1 b1) sp.toNatClampNeg dp.toNatClampNeg nn.toNatClampNeg))) rfl ?_ ?_]
        · exact hP
        · rw [zs_ia hsb]
          congr 4
          funext q
          simp [zk_cpy, va_cpy]
        · intro j hj
          have e1 : (zk_cpy M a1 sp.toNatClampNeg b1 dp.toNatClampNeg nn.toNatClampNeg).2.1 j = M.2.1 j := by
            funext q
            simp [zk_cpy, hj]
          have e2 : zs_fv ad (zk_sh j).2.1 j (zk_cpy M a1 sp.toNatClampNeg b1 dp.toNatClampNeg nn.toNatClampNeg) = zs_fv ad (zk_sh j).2.1 j M := by
            funext q
            unfold zs_fv
            rw [e1]
            rfl
          unfold zs_ct
          rw [e1, e2]
          rfl
      · cases he
    · cases he
  · cases he
theorem zi_special (C : zs_C p R s m args meth c0 base n0 nx ad adV Y D sc y c d) {ix : Nat} {n : Nat} (hd : zd_P (zk_by y) (pc, .invokespecial ix, n)) (h : zs_nx' p l e R s m args below meth c0 Q base n0 ad Y D c (zk_st sc c pc (.invokespecial ix) ls st M)) : zs_G p l e R s m args below meth c0 Q base n0 ad Y D c pc ls st M := by
  obtain ⟨hmt, hx, hb, hml, hown, hts, hin, hK, hPX, had, hR, hbs⟩ := C
  obtain ⟨hdg, hok⟩ := hd
  obtain ⟨pc', ls', st', M', he, k⟩ := h
  intro H locs arr hw hn hS hl
  have hn1 : n = 3 := Nat.eq_of_beq_eq_true hok
  subst hn1
  have hfr : 12 ≤ R.frames := by have := hR.1; unfold zs_fr at this; omega
  have hlo : 720 ≤ R.locals := by have := hR.2.1; unfold zs_lox at this; omega
  simp only [zk_st] at he
  split at he
  · unfold zk_call at he
    revert he; cases (Nat.ble _ _ && Nat.ble _ 8 && zk_okc _ _ && _) <;> (intro he; cases he)
  · unfold zk_call at he
    revert he; cases (Nat.ble _ _ && Nat.ble _ 8 && zk_okc _ _ && _) <;> (intro he; cases he)
  · next hcl =>
    split at he
    · next k1 st1 =>
      split at he
      · next hc =>
        cases he
        obtain ⟨q1, q2, q3⟩ := zg_cl _ (zk_l2_mem hcl)
        have hsum := zs_sum ad hc.2
        exact W.objInit hx hb hown (hts _ q1) (hts _ q2) (hts _ q3) rfl (by show arr.size = _; rw [hml, hl.1.1]) rfl hdg (by omega) (by show 2 * 0 + _ + 12 ≤ _; omega) (k H locs arr hw hn hS hl)
      · cases he
    · cases he
  · cases he
theorem zi_virtual (C : zs_C p R s m args meth c0 base n0 nx ad adV Y D sc y c d) (hS1 : zs_S1 l base ad adV sc) (hS2 : zs_S2 l base ad adV sc) {ix : Nat} {n : Nat} (hd : zd_P (zk_by y) (pc, .invokevirtual ix, n)) (hnx : ∀ pc' ls' st' M', zk_st sc c pc (.invokevirtual ix) ls st M = some (.inl (pc', ls', st', M')) → M'.1 ≤ nx) (h : zs_nx' p l e R s m args below meth c0 Q base n0 ad Y D c (zk_st sc c pc (.invokevirtual ix) ls st M)) : zs_G p l e R s m args below meth c0 Q base n0 ad Y D c pc ls st M := by
  obtain ⟨hmt, hx, hb, hml, hown, hts, hin, hK, hPX, had, hR, hbs⟩ := C
  obtain ⟨hdg, hok⟩ := hd
  obtain ⟨pc', ls', st', M', he, k⟩ := h
  intro H locs arr hw hn hS hl
  have hn1 : n = 3 := Nat.eq_of_beq_eq_true hok
  subst hn1
  have hle := hnx _ _ _ _ he
  have hfr : 12 ≤ R.frames := by have := hR.1; unfold zs_fr at this; omega
  have hlo : 720 ≤ R.locals := by have := hR.2.1; unfold zs_lox at this; omega
  have hms : arr.size = c0.maxLocals := by rw [hml, hl.1.1]
  have h5 := hR.2.2
  simp only [zk_st] at he
  split at he
  · unfold zk_call at he
    revert he; cases (Nat.ble _ _ && Nat.ble _ 8 && zk_okc _ _ && _) <;> (intro he; cases he)
  · next hcl =>
    split at he
    · next k1 st1 =>
      cases hz : (Nat.ble 2000 k1 && Nat.blt k1 2012 && Nat.ble st1.length 4) with
      | false => rw [hz] at he; cases he
      | true =>
        rw [hz] at he; cases he
        simp only [Bool.and_eq_true] at hz
        obtain ⟨⟨z1, z2⟩, z3⟩ := hz
        have z1 := Nat.le_of_ble_eq_true z1
        have z2 := zs_lt _ _ z2
        obtain ⟨q1, q2⟩ := zg_cl _ (zk_l2_mem hcl)
        have q1 : zk_own c.1 = "TwoHeapsAlike$Tape" := q1
        have q2 : Cond.methodLink (zk_own c.1) ix ⟨"java/lang/String", "length", "()I"⟩ ∈ zg_tab := q2
        rw [q1] at q2 hown
        have hsl := zs_sl_mono hle
        have ek := zs_ek _ z1
        show W p l e R s m args below meth c0 H locs _ _ Q (F0 m pc arr (.ref (ad k1) :: st1.map (zs_mv ad)))
        rw [ek]
        exact hS1 p e R s m args below meth c0 H locs _ _ Q _ pc arr _ ix (k1 - 2000) hx hb hown hts hPX hS hdg q2 (by omega) hfr hlo (by omega) (by omega) hms (zs_sum ad (Nat.le_of_ble_eq_true z3)) (k H locs arr hw hn hS hl)
    · cases he
  · next hcl =>
    split at he
    · next i k1 st1 =>
      split at he
      · next hc =>
        cases he
        obtain ⟨⟨z1, z2⟩, z3, z4⟩ := hc
        have z1 := Nat.le_of_ble_eq_true z1
        have z2 := zs_lt _ _ z2
        obtain ⟨q1, q2⟩ := zg_cl _ (zk_l2_mem hcl)
        have q1 : zk_own c.1 = "TwoHeapsAlike$Tape" := q1
        have q2 : Cond.methodLink (zk_own c.1) ix ⟨"java/lang/String", "charAt", "(I)C"⟩ ∈ zg_tab := q2
        rw [q1] at q2 hown
        have hsl := zs_sl_mono hle
        have ek := zs_ek _ z1
        show W p l e R s m args below meth c0 H locs _ _ Q (F0 m pc arr (.int i :: .ref (ad k1) :: st1.map (zs_mv ad)))
        rw [ek]
        exact hS2 p e R s m args below meth c0 H locs _ _ Q _ pc arr _ ix (k1 - 2000) i hx hb hown hts hPX hS hdg q2 (by omega) z4 hfr hlo (by omega) (by omega) hms (zs_sum ad z3) (k H locs arr hw hn hS hl)
      · cases he
    · cases he
  · cases he
end SN
