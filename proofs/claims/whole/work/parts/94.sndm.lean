/-! INSTRUCTIONS ON CELLS -/
theorem zs_shm {k : Nat} (h : (zk_sh k).1 ≠ 9) : zk_sh k ∈ zk_shL ∧ k < 83 := by
  unfold zk_sh at h ⊢
  cases hk : zk_shL[k]? with
  | none => rw [hk] at h; exact absurd rfl h
  | some x => exact ⟨List.mem_of_getElem? hk, (List.getElem?_eq_some_iff.mp hk).1⟩
theorem zs_lt (k n : Nat) (h : Nat.blt k n = true) : k < n := Nat.le_of_ble_eq_true h
theorem zs_upd (f : Nat → Int32) (i : Nat) (v : Int32) : (fun b => if b = i then v else f b) = upd f i v := by
  funext b
  rfl
section SM
variable {p : Program} {l : Launch} {e : Env} {R : Room} {s : State} {m : MethodId} {args : Array Value} {below : List Frame} {meth : Method} {c0 : Code} {Q : State → Prop}
variable {base n0 nx : Nat} {ad adV : Nat → Nat} {Y : zs_Y} {D : va_G} {sc : zk_X} {y : Nat} {c : zk_C}
variable {pc : Nat} {ls : List (Option Value)} {st : List Value} {M M' : zk_M} {d : Nat} {H H1 : Heap}
/-- a store into one cell of the world -/
theorem zs_put {k : Nat} {en : va_E} (hw : zs_W base ad Y D M H) (hk : k < M.1) (he : va_at D zf_cls (base + k, en) H1) (z : H1.size = H.size) (oq : ∀ q : Nat, q ≠ base + k → H1[q]? = H[q]?) (hn : M'.1 = M.1) (hc : zs_ct ad Y k M' = en) (ho : ∀ j, j ≠ k → zs_ct ad Y j M' = zs_ct ad Y j M) : zs_W base ad Y D M' H1 := by
  refine ⟨by rw [z, hn]; exact hw.1, ?_, by rw [hn]; exact hw.2.2⟩
  rw [← zs_setW hn hc ho]
  exact hw.2.1.set (zs_D base ad Y M) (zs_at hk) he oq
theorem zs_obj {k ci : Nat} {C : String} {T : u_T} {N : Nat} {ty : Nat → FieldType} (h0 : (zk_sh k).1 = 0) (h1 : (zk_sh k).2.1 = ci) (hK : zg_K ci C T N ty) (M : zk_M) : zs_ct ad Y k M = .inr (ci, (List.range N).map (zs_fv ad ci k M)) := by
  have h2 := zg_sh _ (zs_shm (by rw [h0]; decide)).1
  have h3 := (h2.2.1 h0).2 (C, T, N) (by rw [h1]; exact hK.1)
  unfold zs_ct
  rw [if_pos h0, h1, ← h3]
theorem zs_fs {N j : Nat} (h : j < N) (f : Nat → Value) : ((List.range N).map f)[j]? = some (f j) := by
  rw [List.getElem?_map, List.getElem?_range h]
  rfl
theorem zs_rv (ad : Nat → Nat) (b : Bool) (r : Option Nat) (x : Int32) : zs_mv ad (bif b then zk_rv r else .int x) = (bif b then va_rf (r.map ad) else .int x) := by
  cases b
  · rfl
  · cases r <;> rfl
theorem zi_getfield (C : zs_C p R s m args meth c0 base n0 nx ad adV Y D sc y c d) {ix : Nat} {n : Nat} (hd : zd_P (zk_by y) (pc, .getfield ix, n)) (h : zs_nx' p l e R s m args below meth c0 Q base n0 ad Y D c (zk_st sc c pc (.getfield ix) ls st M)) : zs_G p l e R s m args below meth c0 Q base n0 ad Y D c pc ls st M := by
  obtain ⟨hmt, hx, hb, hml, hown, hts, hin, hK, hPX, had, hR, hbs⟩ := C
  obtain ⟨hdg, hok⟩ := hd
  obtain ⟨pc', ls', st', M', he, k⟩ := h
  intro H locs arr hw hn hS hl
  have hn1 : n = 3 := Nat.eq_of_beq_eq_true hok
  subst hn1
  simp only [zk_st] at he
  split at he
  · next k1 st1 =>
    split at he
    · next ci j hfl =>
      split at he
      · next hc =>
        cases he
        obtain ⟨hk, h0, h1⟩ := hc
        have hk := zs_lt _ _ hk
        obtain ⟨C, T, N, ty, hKK, hj, hlink⟩ := zg_fl _ (zk_l2_mem hfl)
        have hct := zs_obj (ad := ad) (Y := Y) h0 h1 hKK M
        have hat := zs_at (base := base) (ad := ad) (Y := Y) hk
        rw [hct] at hat
        obtain ⟨hcl, hws, hty, hnm, hou, hde, hrf, hii, hff⟩ := hKK
        have ha : ad k1 = base + k1 := had k1 (by have := hw.2.2; omega)
        show W p l e R s m args below meth c0 H locs _ _ Q (F0 m pc arr (.ref (ad k1) :: st1.map (zs_mv ad)))
        rw [ha]
        refine va_get hx hb hts hws hown hK hw.2.1 k1 hat hcl j hj (hts _ hlink) (by rw [hde j hj]; exact fun x h => h) (zs_fs hj _) hdg ?_
        have := k H locs arr hw hn hS hl
        rw [List.map_cons, zs_rv] at this
        exact this
      · cases he
    · cases he
  · cases he
theorem zi_putfield (C : zs_C p R s m args meth c0 base n0 nx ad adV Y D sc y c d) {ix : Nat} {n : Nat} (hd : zd_P (zk_by y) (pc, .putfield ix, n)) (h : zs_nx' p l e R s m args below meth c0 Q base n0 ad Y D c (zk_st sc c pc (.putfield ix) ls st M)) : zs_G p l e R s m args below meth c0 Q base n0 ad Y D c pc ls st M := by
  obtain ⟨hmt, hx, hb, hml, hown, hts, hin, hK, hPX, had, hR, hbs⟩ := C
  obtain ⟨hdg, hok⟩ := hd
  obtain ⟨pc', ls', st', M', he, k⟩ := h
  intro H locs arr hw hn hS hl
  have hn1 : n = 3 := Nat.eq_of_beq_eq_true hok
  subst hn1
  -- what a store of w into field j of place k1 gives
  have core : ∀ (k1 ci j : Nat) (w : Value) (st1 : List Value) (M2 : zk_M) (C : String) (T : u_T) (N : Nat) (ty : Nat → FieldType), k1 < M.1 → (zk_sh k1).1 = 0 → (zk_sh k1).2.1 = ci → zg_K ci C T N ty → j < N → Cond.fieldLink (zk_own c.1) ix C (T j).2.1 (T j).2.2.1 ∈ zg_tab → ((T j).2.2.2 = false ∨ (c.2.2.2.2.1 = true ∧ c.1 = ci)) → narrow (ty j) w = w → fits (ty j) w = true → M2.1 = M.1 → (∀ i, i ≠ k1 → zs_ct ad Y i M2 = zs_ct ad Y i M) → (∀ i, zs_fv ad ci k1 M2 i = if i = j then w else zs_fv ad ci k1 M i) → zs_G p l e R s m args below meth c0 Q base n0 ad Y D c (pc + 3) ls st1 M2 →
      W p l e R s m args below meth c0 H locs (M.1 - n0) (zs_sl M.1 - zs_sl n0) Q (F0 m pc arr (w :: .ref (base + k1) :: st1.map (zs_mv ad))) := by
    intro k1 ci j w st1 M2 C T N ty hk h0 h1 hKK hj hlink hfin hnar hfit hM2 ho hv kk
    have hct := zs_obj (ad := ad) (Y := Y) h0 h1 hKK M
    have hct2 := zs_obj (ad := ad) (Y := Y) h0 h1 hKK M2
    have hat := zs_at (base := base) (ad := ad) (Y := Y) hk
    rw [hct] at hat
    obtain ⟨hcl, hws, hty, hnm, hou, hde, hrf, hii, hff⟩ := hKK
    have hap := va_apart (own := zk_own c.1) hts hws ty hty hnm hK hcl
    obtain ⟨r, g1, cell, q1, q2, q3, q4⟩ := hw.2.1 k1 _ hat
    have hr : r = (C, T, N) := Option.some.inj (g1.symm.trans hcl)
    subst hr
    obtain ⟨hSl, hfc, kC, hkC, hkind⟩ := hK.1 ci _ hcl
    obtain ⟨cf, kf, fi, f, hi, hsl⟩ := hSl j hj
    have hst := (u_facts hfc hkC (u_lays hts hws hj) hi).1
    have fin : ∀ H' : Heap, H'[base + k1]? = some (cell.setSlot f.slot w) → H'.size = H.size → (∀ q, q ≠ base + k1 → H'[q]? = H[q]?) → W p l e R s m args below meth c0 H' (locs ++ [⟨base + k1, f.slot⟩]) (M.1 - n0) (zs_sl M.1 - zs_sl n0) Q (F0 m (pc + 3) arr (st1.map (zs_mv ad))) := by
      intro H' e1 e2 e3
      rw [hsl] at e1
      have hen : va_at D zf_cls (base + k1, .inr (ci, ((List.range N).map (zs_fv ad ci k1 M)).set j w)) H' := ⟨_, hcl, t_OB.to (V := updV (vp_V ((List.range N).map (zs_fv ad ci k1 M))) j w) ⟨_, e1, q2, q3, t_set q4 hap hj w⟩ (fun i _ => vp_updV_set (by simp; exact hj) w i)⟩
      have hw2 : zs_W base ad Y D M2 H' := by
        refine zs_put hw hk hen e2 e3 hM2 ?_ ho
        rw [hct2]
        congr 2
        apply List.ext_getElem?
        intro i
        by_cases hi2 : i < N
        · rw [zs_fs hi2, hv i]
          by_cases hij : i = j
          · subst hij
            rw [List.getElem?_set_self (by simp; exact hi2), if_pos rfl]
          · rw [List.getElem?_set_ne (fun z => hij z.symm), zs_fs hi2, if_neg hij]
        · rw [List.getElem?_eq_none (by simp; omega), List.getElem?_eq_none (by simp; omega)]
      have := kk H' (locs ++ [⟨base + k1, f.slot⟩]) arr hw2 (by rw [hM2]; exact hn) (hS.put e2 e3 (show base ≤ base + k1 by omega)) hl
      rw [hM2] at this
      exact this
    have hlay := hts _ (hws _ (u_in_lay hj))
    cases hfb : (T j).2.2.2 with
    | false =>
      unfold u_lay at hlay
      rw [if_neg (by rw [hfb]; decide)] at hlay
      have h6 := u_store hfc hkC hkind hlay hi (hty j hj) hnar hfit
      exact W.putK hx hb (f := f) ⟨hown, hts _ hlink, ⟨_, _, _, by rw [hde j hj] at hi; exact hi⟩, hst⟩ (by rw [q2]; exact h6) q1 q3 (by rw [hsl]; exact k2_hasslot (q4 j hj)) rfl rfl hdg fin
    | true =>
      rcases hfin with q | ⟨q5, q6⟩
      · rw [hfb] at q; cases q
      unfold u_lay at hlay
      rw [if_pos hfb] at hlay
      have hcf : m.cls = cf := by
        obtain ⟨_, _, c', _, _, _, -, -, hf', -, -, -, hown2, -⟩ := Cond.laysFinal_spec hlay
        have e1 : c' = cf := by have := hi.symm.trans hf'; simp at this; exact this.1.symm
        have e2 : (T j).1 = zk_own c.1 := by rw [hde j hj, q6, hou]
        rw [e2] at hown2
        rw [← e1]; exact Option.some.inj (hown.symm.trans hown2)
      have h6 := u_fits hfc hkC hkind (Or.inr hlay) hi (hty j hj) hnar hfit
      exact W.putFinK hx hb hown (hts _ hlink) (by rw [hde j hj] at hi; exact hi) hst hcf (hin q5) (by rw [q2]; exact h6) q1 q3 (by rw [hsl]; exact k2_hasslot (q4 j hj)) rfl rfl hdg fin
  simp only [zk_st] at he
  split at he
  · next v k1 st1 =>
    split at he
    · next ci j hfl =>
      split at he
      · next hc =>
        cases he
        obtain ⟨hk, h0, h1, hfk, hfin, hbo⟩ := hc
        have hk := zs_lt _ _ hk
        obtain ⟨C, T, N, ty, hKK, hj, hlink⟩ := zg_fl _ (zk_l2_mem hfl)
        have ha : ad k1 = base + k1 := had k1 (by have := hw.2.2; omega)
        show W p l e R s m args below meth c0 H locs _ _ Q (F0 m pc arr (.int v :: .ref (ad k1) :: st'.map (zs_mv ad)))
        rw [ha]
        have hnf : narrow (ty j) (.int v) = .int v ∧ fits (ty j) (.int v) = true := by
          rcases hKK.2.2.2.2.2.2.2.1 j hj hfk with ⟨q, -⟩ | ⟨q, q2⟩
          · rw [q]; exact ⟨rfl, rfl⟩
          · rw [q]
            rcases hbo with z | z | z
            · rw [q2] at z; cases z
            · subst z; exact ⟨by decide, by decide⟩
            · subst z; exact ⟨by decide, by decide⟩
        have hfb : (T j).2.2.2 = false := by rw [← hKK.2.2.2.2.2.2.2.2 j hj]; exact hfin
        refine core k1 ci j (.int v) st' (zk_setI M k1 j v) C T N ty hk h0 h1 hKK hj hlink (Or.inl hfb) hnf.1 hnf.2 rfl (fun i hi => zs_ct_setI i hi) (fun i => ?_) k
        unfold zs_fv
        by_cases hij : i = j
        · subst hij
          rw [if_pos rfl, hfk]
          simp [zk_setI, zk_up2]
        · rw [if_neg hij]
          simp [zk_setI, zk_up2, hij]
      · cases he
    · cases he
  · next r k1 st1 =>
    split at he
    · next ci j hfl =>
      split at he
      · next hc =>
        cases he
        obtain ⟨hk, h0, h1, hfk, hfin, hr⟩ := hc
        have hk := zs_lt _ _ hk
        have hr := zs_lt _ _ hr
        obtain ⟨C, T, N, ty, hKK, hj, hlink⟩ := zg_fl _ (zk_l2_mem hfl)
        have ha : ad k1 = base + k1 := had k1 (by have := hw.2.2; omega)
        show W p l e R s m args below meth c0 H locs _ _ Q (F0 m pc arr (.ref (ad r) :: .ref (ad k1) :: st'.map (zs_mv ad)))
        rw [ha]
        have hnf : narrow (ty j) (.ref (ad r)) = .ref (ad r) ∧ fits (ty j) (.ref (ad r)) = true := by
          rcases hKK.2.2.2.2.2.2.1 j hj hfk with ⟨-, nm, q⟩ | ⟨-, t, q⟩
          · rw [q]; exact ⟨rfl, rfl⟩
          · rw [q]; exact ⟨rfl, rfl⟩
        have hfb : (T j).2.2.2 = false ∨ (c.2.2.2.2.1 = true ∧ c.1 = ci) := by rw [← hKK.2.2.2.2.2.2.2.2 j hj]; exact hfin
        refine core k1 ci j (.ref (ad r)) st' (zk_setR M k1 j (some r)) C T N ty hk h0 h1 hKK hj hlink hfb hnf.1 hnf.2 rfl (fun i hi => zs_ct_setR i hi) (fun i => ?_) k
        unfold zs_fv
        by_cases hij : i = j
        · subst hij
          rw [if_pos rfl, hfk]
          simp [zk_setR, zk_up2, va_rf]
        · rw [if_neg hij]
          simp [zk_setR, zk_up2, hij]
      · cases he
    · cases he
  · cases he
theorem zi_getstatic (C : zs_C p R s m args meth c0 base n0 nx ad adV Y D sc y c d) {ix : Nat} {n : Nat} (hd : zd_P (zk_by y) (pc, .getstatic ix, n)) (h : zs_nx' p l e R s m args below meth c0 Q base n0 ad Y D c (zk_st sc c pc (.getstatic ix) ls st M)) : zs_G p l e R s m args below meth c0 Q base n0 ad Y D c pc ls st M := by
  obtain ⟨hmt, hx, hb, hml, hown, hts, hin, hK, hPX, had, hR, hbs⟩ := C
  obtain ⟨hdg, hok⟩ := hd
  obtain ⟨pc', ls', st', M', he, k⟩ := h
  intro H locs arr hw hn hS hl
  have hn1 : n = 3 := Nat.eq_of_beq_eq_true hok
  subst hn1
  simp only [zk_st] at he
  cases hg : (Nat.beq c.1 0 && Nat.beq ix 310) with
  | false => rw [hg] at he; cases he
  | true =>
    rw [hg] at he; cases he
    rw [Bool.and_eq_true] at hg
    have h1 := Nat.eq_of_beq_eq_true hg.1
    have h2 := Nat.eq_of_beq_eq_true hg.2
    subst h2
    rw [h1] at hown
    exact va_gets (own := "TwoHeapsAlike") (ref := "TwoHeapsAlike") hx hb hPX.2.1 hS hown (hts _ zg_kab) (fun x h => h) hdg (k H locs arr hw hn hS hl)
theorem zs_ia {k : Nat} (h : (zk_sh k).1 = 1) (M : zk_M) : zs_ct ad Y k M = .inl (Y.1, (zk_sh k).2.1, .inl (M.2.1 k)) := by
  unfold zs_ct
  rw [if_neg (by rw [h]; decide), if_pos h]
theorem zs_za {k : Nat} (h : (zk_sh k).1 = 2) (M : zk_M) : zs_ct ad Y k M = .inl (Y.2.1, (zk_sh k).2.1, .inl (M.2.1 k)) := by
  unfold zs_ct
  rw [if_neg (by rw [h]; decide), if_neg (by rw [h]; decide), if_pos h]
theorem zs_ra {k : Nat} (h : (zk_sh k).1 = 3) (M : zk_M) : zs_ct ad Y k M = .inl ((if (zk_sh k).2.2 = 2 then Y.2.2.2 else Y.2.2.1), (zk_sh k).2.1, .inr (.inr (.inr (.inr (fun j => (M.2.2 k j).map ad))))) := by
  unfold zs_ct
  rw [if_neg (by rw [h]; decide), if_neg (by rw [h]; decide), if_neg (by rw [h]; decide)]
theorem zi_alen (C : zs_C p R s m args meth c0 base n0 nx ad adV Y D sc y c d) {n : Nat} (hd : zd_P (zk_by y) (pc, .arraylength, n)) (h : zs_nx' p l e R s m args below meth c0 Q base n0 ad Y D c (zk_st sc c pc .arraylength ls st M)) : zs_G p l e R s m args below meth c0 Q base n0 ad Y D c pc ls st M := by
  obtain ⟨hmt, hx, hb, hml, hown, hts, hin, hK, hPX, had, hR, hbs⟩ := C
  obtain ⟨hdg, hok⟩ := hd
  obtain ⟨pc', ls', st', M', he, k⟩ := h
  intro H locs arr hw hn hS hl
  have hn1 : n = 1 := Nat.eq_of_beq_eq_true hok
  subst hn1
  simp only [zk_st] at he
  split at he
  · next k1 st1 =>
    split at he
    · next hc =>
      cases he
      obtain ⟨hk, h1, h3⟩ := hc
      have hk := zs_lt _ _ hk
      have ha : ad k1 = base + k1 := had k1 (by have := hw.2.2; omega)
      show W p l e R s m args below meth c0 H locs _ _ Q (F0 m pc arr (.ref (ad k1) :: st1.map (zs_mv ad)))
      rw [ha]
      have hat := zs_at (base := base) (ad := ad) (Y := Y) hk
      rcases (show (zk_sh k1).1 = 1 ∨ (zk_sh k1).1 = 2 ∨ (zk_sh k1).1 = 3 by omega) with q | q | q
      · rw [zs_ia q] at hat
        exact va_alen hx hb hK hw.2.1 k1 0 hat rfl rfl hdg (k H locs arr hw hn hS hl)
      · rw [zs_za q] at hat
        exact va_alen hx hb hK hw.2.1 k1 1 hat rfl rfl hdg (k H locs arr hw hn hS hl)
      · rw [zs_ra q] at hat
        by_cases hz : (zk_sh k1).2.2 = 2
        · rw [if_pos hz] at hat
          exact va_alen hx hb hK hw.2.1 k1 3 hat rfl rfl hdg (k H locs arr hw hn hS hl)
        · rw [if_neg hz] at hat
          exact va_alen hx hb hK hw.2.1 k1 2 hat rfl rfl hdg (k H locs arr hw hn hS hl)
    · split at he
      · split at he
        · next ee hee =>
          cases he
          exact va_tlen hx hb (hPX.1 _ _ hee) hS rfl hdg (k H locs arr hw hn hS hl)
        · cases he
      · cases he
  · cases he
theorem zi_iald (C : zs_C p R s m args meth c0 base n0 nx ad adV Y D sc y c d) {n : Nat} (hd : zd_P (zk_by y) (pc, .iaload, n)) (h : zs_nx' p l e R s m args below meth c0 Q base n0 ad Y D c (zk_st sc c pc .iaload ls st M)) : zs_G p l e R s m args below meth c0 Q base n0 ad Y D c pc ls st M := by
  obtain ⟨hmt, hx, hb, hml, hown, hts, hin, hK, hPX, had, hR, hbs⟩ := C
  obtain ⟨hdg, hok⟩ := hd
  obtain ⟨pc', ls', st', M', he, k⟩ := h
  intro H locs arr hw hn hS hl
  have hn1 : n = 1 := Nat.eq_of_beq_eq_true hok
  subst hn1
  simp only [zk_st] at he
  split at he
  · next i k1 st1 =>
    split at he
    · next hc =>
      cases he
      obtain ⟨hk, h1, hi⟩ := hc
      have hk := zs_lt _ _ hk
      have ha : ad k1 = base + k1 := had k1 (by have := hw.2.2; omega)
      show W p l e R s m args below meth c0 H locs _ _ Q (F0 m pc arr (.int i :: .ref (ad k1) :: st1.map (zs_mv ad)))
      rw [ha]
      have hat := zs_at (base := base) (ad := ad) (Y := Y) hk
      rw [zs_ia h1] at hat
      exact va_iald hx hb hK hw.2.1 k1 0 hat rfl (zs_in hi) hdg (k H locs arr hw hn hS hl)
    · split at he
      · split at he
        · next ee hee =>
          cases hz : zk_inb i ee.1 with
          | false => rw [hz] at he; cases he
          | true =>
            rw [hz] at he; cases he
            exact va_ti hx hb (hPX.1 _ _ hee) hS (zs_in hz) rfl hdg (k H locs arr hw hn hS hl)
        · cases he
      · cases he
  · cases he
theorem zi_bald (C : zs_C p R s m args meth c0 base n0 nx ad adV Y D sc y c d) {n : Nat} (hd : zd_P (zk_by y) (pc, .baload, n)) (h : zs_nx' p l e R s m args below meth c0 Q base n0 ad Y D c (zk_st sc c pc .baload ls st M)) : zs_G p l e R s m args below meth c0 Q base n0 ad Y D c pc ls st M := by
  obtain ⟨hmt, hx, hb, hml, hown, hts, hin, hK, hPX, had, hR, hbs⟩ := C
  obtain ⟨hdg, hok⟩ := hd
  obtain ⟨pc', ls', st', M', he, k⟩ := h
  intro H locs arr hw hn hS hl
  have hn1 : n = 1 := Nat.eq_of_beq_eq_true hok
  subst hn1
  simp only [zk_st] at he
  split at he
  · next i k1 st1 =>
    split at he
    · next hc =>
      cases he
      obtain ⟨hk, h1, hi⟩ := hc
      have hk := zs_lt _ _ hk
      have ha : ad k1 = base + k1 := had k1 (by have := hw.2.2; omega)
      show W p l e R s m args below meth c0 H locs _ _ Q (F0 m pc arr (.int i :: .ref (ad k1) :: st1.map (zs_mv ad)))
      rw [ha]
      have hat := zs_at (base := base) (ad := ad) (Y := Y) hk
      rw [zs_za h1] at hat
      exact va_zald hx hb hK hw.2.1 k1 1 hat rfl (zs_in hi) hdg (k H locs arr hw hn hS hl)
    · cases he
  · cases he
theorem zs_rv2 (ad : Nat → Nat) (r : Option Nat) : zs_mv ad (zk_rv r) = va_rf (r.map ad) := by cases r <;> rfl
theorem zi_aald (C : zs_C p R s m args meth c0 base n0 nx ad adV Y D sc y c d) {n : Nat} (hd : zd_P (zk_by y) (pc, .aaload, n)) (h : zs_nx' p l e R s m args below meth c0 Q base n0 ad Y D c (zk_st sc c pc .aaload ls st M)) : zs_G p l e R s m args below meth c0 Q base n0 ad Y D c pc ls st M := by
  obtain ⟨hmt, hx, hb, hml, hown, hts, hin, hK, hPX, had, hR, hbs⟩ := C
  obtain ⟨hdg, hok⟩ := hd
  obtain ⟨pc', ls', st', M', he, k⟩ := h
  intro H locs arr hw hn hS hl
  have hn1 : n = 1 := Nat.eq_of_beq_eq_true hok
  subst hn1
  simp only [zk_st] at he
  split at he
  · next i k1 st1 =>
    split at he
    · next hc =>
      cases he
      obtain ⟨hk, h1, hi⟩ := hc
      have hk := zs_lt _ _ hk
      have ha : ad k1 = base + k1 := had k1 (by have := hw.2.2; omega)
      show W p l e R s m args below meth c0 H locs _ _ Q (F0 m pc arr (.int i :: .ref (ad k1) :: st1.map (zs_mv ad)))
      rw [ha]
      have hat := zs_at (base := base) (ad := ad) (Y := Y) hk
      rw [zs_ra h1] at hat
      have kk := k H locs arr hw hn hS hl
      rw [List.map_cons, zs_rv2] at kk
      by_cases hz : (zk_sh k1).2.2 = 2
      · rw [if_pos hz] at hat
        exact va_aldq hx hb hK hw.2.1 k1 3 hat rfl (zs_in hi) hdg kk
      · rw [if_neg hz] at hat
        exact va_aldq hx hb hK hw.2.1 k1 2 hat rfl (zs_in hi) hdg kk
    · cases he
  · cases he
theorem zi_iast (C : zs_C p R s m args meth c0 base n0 nx ad adV Y D sc y c d) {n : Nat} (hd : zd_P (zk_by y) (pc, .iastore, n)) (h : zs_nx' p l e R s m args below meth c0 Q base n0 ad Y D c (zk_st sc c pc .iastore ls st M)) : zs_G p l e R s m args below meth c0 Q base n0 ad Y D c pc ls st M := by
  obtain ⟨hmt, hx, hb, hml, hown, hts, hin, hK, hPX, had, hR, hbs⟩ := C
  obtain ⟨hdg, hok⟩ := hd
  obtain ⟨pc', ls', st', M', he, k⟩ := h
  intro H locs arr hw hn hS hl
  have hn1 : n = 1 := Nat.eq_of_beq_eq_true hok
  subst hn1
  simp only [zk_st] at he
  split at he
  · next v i k1 st1 =>
    split at he
    · next hc =>
      cases he
      obtain ⟨hk, h1, hi⟩ := hc
      have hk := zs_lt _ _ hk
      have ha : ad k1 = base + k1 := had k1 (by have := hw.2.2; omega)
      show W p l e R s m args below meth c0 H locs _ _ Q (F0 m pc arr (.int v :: .int i :: .ref (ad k1) :: st'.map (zs_mv ad)))
      rw [ha]
      have hat := zs_at (base := base) (ad := ad) (Y := Y) hk
      rw [zs_ia h1] at hat
      refine W.iast hx hb (hw.2.1 k1 _ hat) ((hK.2 0 _ rfl).1 (zk_sh k1).2.1 (fun j => .int (M.2.1 k1 j))) (fun q => by cases q) (by show ¬ (i < 0 ∨ (arrV _ _ _).slots.size ≤ _); rw [arrV_size]; exact zs_in hi) rfl rfl hdg fun H1 e1 z oq => ?_
      refine k H1 _ arr (zs_put hw hk (en := .inl (Y.1, (zk_sh k1).2.1, .inl (upd (M.2.1 k1) i.toNatClampNeg v))) ?_ z oq rfl ?_ (fun j hj => zs_ct_setI j hj)) hn (hS.put z oq (show base ≤ base + k1 by omega)) hl
      · show H1[base + k1]? = some (vp_cell _ _)
        rw [e1, vp_cell_i, vp_cell_i, arrV_store]
        congr 2
        funext q
        by_cases hq : q = i.toNatClampNeg
        · subst hq; simp [updV, upd]
        · simp [updV, upd, hq]
      · rw [zs_ia h1]
        congr 4
        funext q
        by_cases hq : q = i.toNatClampNeg
        · subst hq; simp [zk_setI, zk_up2, upd]
        · simp [zk_setI, zk_up2, upd, hq]
    · cases he
  · cases he
theorem zi_bast (C : zs_C p R s m args meth c0 base n0 nx ad adV Y D sc y c d) {n : Nat} (hd : zd_P (zk_by y) (pc, .bastore, n)) (h : zs_nx' p l e R s m args below meth c0 Q base n0 ad Y D c (zk_st sc c pc .bastore ls st M)) : zs_G p l e R s m args below meth c0 Q base n0 ad Y D c pc ls st M := by
  obtain ⟨hmt, hx, hb, hml, hown, hts, hin, hK, hPX, had, hR, hbs⟩ := C
  obtain ⟨hdg, hok⟩ := hd
  obtain ⟨pc', ls', st', M', he, k⟩ := h
  intro H locs arr hw hn hS hl
  have hn1 : n = 1 := Nat.eq_of_beq_eq_true hok
  subst hn1
  simp only [zk_st] at he
  split at he
  · next v i k1 st1 =>
    split at he
    · next hc =>
      cases he
      obtain ⟨hk, h1, hi⟩ := hc
      have hk := zs_lt _ _ hk
      have ha : ad k1 = base + k1 := had k1 (by have := hw.2.2; omega)
      show W p l e R s m args below meth c0 H locs _ _ Q (F0 m pc arr (.int v :: .int i :: .ref (ad k1) :: st'.map (zs_mv ad)))
      rw [ha]
      have hat := zs_at (base := base) (ad := ad) (Y := Y) hk
      rw [zs_za h1] at hat
      refine W.zast hx hb (hw.2.1 k1 _ hat) ((hK.2 1 _ rfl).1 (zk_sh k1).2.1 (fun j => .int (M.2.1 k1 j))) (fun q => by cases q) (by show ¬ (i < 0 ∨ (arrV _ _ _).slots.size ≤ _); rw [arrV_size]; exact zs_in hi) rfl rfl hdg fun H1 e1 z oq => ?_
      refine k H1 _ arr (zs_put hw hk (en := .inl (Y.2.1, (zk_sh k1).2.1, .inl (upd (M.2.1 k1) i.toNatClampNeg (vp_nar .boolean v)))) ?_ z oq rfl ?_ (fun j hj => zs_ct_setI j hj)) hn (hS.put z oq (show base ≤ base + k1 by omega)) hl
      · show H1[base + k1]? = some (vp_cell _ _)
        rw [e1, vp_cell_i, vp_cell_i, arrV_store]
        congr 2
        funext q
        by_cases hq : q = i.toNatClampNeg
        · subst hq
          simp [updV, upd, vp_nar]
          try rfl
        · simp [updV, upd, hq]
      · rw [zs_za h1]
        congr 4
        funext q
        by_cases hq : q = i.toNatClampNeg
        · subst hq; simp [zk_setI, zk_up2, upd]
        · simp [zk_setI, zk_up2, upd, hq]
    · cases he
  · cases he
theorem zi_aast (C : zs_C p R s m args meth c0 base n0 nx ad adV Y D sc y c d) {n : Nat} (hd : zd_P (zk_by y) (pc, .aastore, n)) (h : zs_nx' p l e R s m args below meth c0 Q base n0 ad Y D c (zk_st sc c pc .aastore ls st M)) : zs_G p l e R s m args below meth c0 Q base n0 ad Y D c pc ls st M := by
  obtain ⟨hmt, hx, hb, hml, hown, hts, hin, hK, hPX, had, hR, hbs⟩ := C
  obtain ⟨hdg, hok⟩ := hd
  obtain ⟨pc', ls', st', M', he, k⟩ := h
  intro H locs arr hw hn hS hl
  have hn1 : n = 1 := Nat.eq_of_beq_eq_true hok
  subst hn1
  simp only [zk_st] at he
  split at he
  · next r i k1 st1 =>
    split at he
    · next hc =>
      cases he
      obtain ⟨hk, h1, hi, hr, hr0, hr1⟩ := hc
      have hk := zs_lt _ _ hk
      have hr := zs_lt _ _ hr
      have ha : ad k1 = base + k1 := had k1 (by have := hw.2.2; omega)
      have har : ad r = base + r := had r (by have := hw.2.2; omega)
      show W p l e R s m args below meth c0 H locs _ _ Q (F0 m pc arr (.ref (ad r) :: .int i :: .ref (ad k1) :: st'.map (zs_mv ad)))
      rw [ha, har]
      have hat := zs_at (base := base) (ad := ad) (Y := Y) hk
      rw [zs_ra h1] at hat
      have hrt := zs_at (base := base) (ad := ad) (Y := Y) hr
      have hsh := (zg_sh _ (zs_shm (k := k1) (by rw [h1]; decide)).1).2.2.1 h1
      -- the kind of the stored object, and its class of rows
      have fin : ∀ (t0 ci : Nat) (q : vw_C) (cA : ClassId), zf_cls[ci]? = some q → (zs_ty Y)[t0]? = some (cA, .object q.1) → (zk_sh r).2.1 = ci → (∀ M2 : zk_M, zs_ct ad Y k1 M2 = .inl (cA, (zk_sh k1).2.1, .inr (.inr (.inr (.inr (fun j => (M2.2.2 k1 j).map ad)))))) → W p l e R s m args below meth c0 H locs (M.1 - n0) (zs_sl M.1 - zs_sl n0) Q (F0 m pc arr (.ref (base + r) :: .int i :: .ref (base + k1) :: st'.map (zs_mv ad))) := by
        intro t0 ci q cA hq ht hrc hcc
        have hat := zs_at (base := base) (ad := ad) (Y := Y) hk
        rw [hcc] at hat
        have hre : zs_ct ad Y r M = .inr (ci, (List.range (zk_sh r).2.2).map (zs_fv ad ci r M)) := by
          unfold zs_ct
          rw [if_pos hr0, hrc]
        rw [hre] at hrt
        have hlt : i.toNatClampNeg < (zk_sh k1).2.1 := Nat.not_le.mp fun q => zs_in hi (Or.inr q)
        have h0 : ¬ i < 0 := fun q => zs_in hi (Or.inl q)
        obtain ⟨r', hr', cellV, g1, g2, g3, -⟩ := hw.2.1 r _ hrt
        have hcls := (hK.1 ci q hq).2
        obtain ⟨kA, comp, k1', k2, k3, -⟩ := (hK.2 t0 _ ht).2
        have hcomp : comp = D.1 ci := Option.some.inj (k3.symm.trans hcls.1)
        subst hcomp
        obtain ⟨kC, hkC, -⟩ := hcls.2
        refine W.aast hx hb (hw.2.1 k1 _ hat) (fun q h => by cases h) (fun h => by cases h) k1' k2 rfl hkC ⟨h0, by show _ < (arrV _ _ _).slots.size; rw [arrV_size]; exact hlt⟩ g1 (fun q h => by rw [g3] at h; cases h) (by rw [g2]; exact hkC) (by rw [g2]; exact va_assign hcls) rfl rfl hdg fun H1 e1 z oq => ?_
        refine k H1 _ arr (zs_put hw hk (en := .inl (cA, (zk_sh k1).2.1, .inr (.inr (.inr (.inr (va_up (fun j => (M.2.2 k1 j).map ad) i.toNatClampNeg (some (base + r)))))))) ?_ z oq rfl ?_ (fun j hj => zs_ct_setR j hj)) hn (hS.put z oq (show base ≤ base + k1 by omega)) hl
        · show H1[base + k1]? = some (vp_cell _ _)
          rw [e1, vp_cell_q, vp_cell_q, arrV_store]
          congr 2
          funext q
          by_cases hq : q = i.toNatClampNeg
          · subst hq; simp [updV, va_up, va_rf]
          · simp [updV, va_up, hq]
        · rw [hcc]
          congr 7
          funext q
          by_cases hq : q = i.toNatClampNeg
          · subst hq; simp [zk_setR, zk_up2, va_up, har]
          · simp [zk_setR, zk_up2, va_up, hq]
      rcases hsh with hz | hz
      · exact fin 3 2 (zf_R2, zf_F2, 3) Y.2.2.2 rfl rfl (by rw [hr1, hz]) (fun M2 => by rw [zs_ra h1, if_pos hz])
      · exact fin 2 5 (zf_R5, zf_F5, 4) Y.2.2.1 rfl rfl (by rw [hr1, hz]) (fun M2 => by rw [zs_ra h1, if_neg (by rw [hz]; decide)])
    · cases he
  · cases he
end SM
