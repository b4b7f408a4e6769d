/-! the world at the law's entry -/
def zo_ix (i : Nat) : Nat := ([99, 105, 107, 109, 111, 113, 115, 117, 119, 121, 123, 125] : List Nat).getD i 0
def zo_tx (i : Nat) : String := (["number", "more", "card", "many", "kind", "left", "counts", "moves", "asks", "or", "and", "not"] : List String).getD i ""
def zo_tm (i : Nat) : Term := .string "TwoHeapsAlike$Tape" (zo_ix i)
def zo_fl : List Cond := flatC (Jvm.Cond.and given_1 narrow_1)
theorem zo_sr : ∀ i : Nat, i < 12 → Cond.stringRef "TwoHeapsAlike$Tape" (zo_ix i) (zo_tx i) ∈ lw_tbl := by decide +kernel
theorem zo_ex : ∀ i : Nat, i < 12 → Cond.exactly (zo_tm i) "java/lang/String" ∈ zo_fl := by decide +kernel
theorem zo_co : ∀ i : Nat, i < 12 → Cond.eq (.field (zo_tm i) "java/lang/String" "coder" "B") (.int 0) ∈ zo_fl := by decide +kernel
theorem zo_ar : ∀ i : Nat, i < 12 → Cond.arrayOf (.field (zo_tm i) "java/lang/String" "value" "[B") .byte ∈ zo_fl := by decide +kernel
theorem zo_le : ∀ i : Nat, i < 12 → Cond.eq (.length (.field (zo_tm i) "java/lang/String" "value" "[B")) (.int (Int32.ofNat ((zk_lit.map List.length).getD i 0))) ∈ zo_fl := by decide +kernel
theorem zo_el : ∀ i : Nat, i < 12 → ∀ j : Nat, j < (zk_lit.map List.length).getD i 0 → Cond.eq (.elem (.field (zo_tm i) "java/lang/String" "value" "[B") (.int (Int32.ofNat j))) (.int ((zk_lit.getD i []).getD j 0)) ∈ zo_fl := by decide +kernel
theorem zo_ne : ∀ i : Nat, i < 12 → ∀ j : Nat, j < 12 → i ≠ j → Cond.not (Cond.eq (zo_tm i) (zo_tm j)) ∈ zo_fl ∨ Cond.not (Cond.eq (zo_tm j) (zo_tm i)) ∈ zo_fl := by decide +kernel
theorem zo_ka : ∀ j : Nat, j < 6 → Cond.eq (.elem (.static "TwoHeapsAlike" "KIND_ABOVE" "[I") (.int (Int32.ofNat j))) (.int (zk_kab j)) ∈ zo_fl := by decide +kernel
theorem zo_D {s : State} {args : Array Value} (hts : ∀ w ∈ lw_tbl, w.before args s = true) : ∃ D : va_G, ∀ (c : Nat) (q : vw_C), zf_cls[c]? = some q → u_Kn s q.1 q.2.1 q.2.2 (D.1 c) (D.2 c) := by
  have hg : ∀ w ∈ zg_tab, w.before args s = true := fun w hw => hts w (List.mem_filter.mp hw).1
  have k0 := u_known hg zg_u0 (hts (.instantiable "TwoHeapsAlike" 10) (by decide +kernel))
  have k1 := u_known hg zg_u1 (hts (.instantiable "TwoHeapsAlike$Heaps" 11) (by decide +kernel))
  have k2 := u_known hg zg_u2 (hts (.instantiable "TwoHeapsAlike$Sheet" 3) (by decide +kernel))
  have k3 := u_known hg zg_u3 (hts (.instantiable "TwoHeapsAlike$Table" 6) (by decide +kernel))
  have k4 := u_known hg zg_u4 (hts (.instantiable "TwoHeapsAlike$Tape" 8) (by decide +kernel))
  have k5 := u_known hg zg_u5 (hts (.instantiable "TwoHeapsAlike$Text" 4) (by decide +kernel))
  have k6 := u_known hg zg_u6 (hts (.instantiable "TwoHeapsAlikeModel" 36) (by decide +kernel))
  have h : ∀ c : Nat, ∃ q : ClassId × (Nat → Nat), ∀ e : vw_C, zf_cls[c]? = some e → u_Kn s e.1 e.2.1 e.2.2 q.1 q.2 := by
    intro c
    match c with
    | 0 => obtain ⟨a, b, h⟩ := k0; exact ⟨(a, b), fun e he => by cases (show some (zf_R0, zf_F0, 10) = some e from he); exact h⟩
    | 1 => obtain ⟨a, b, h⟩ := k1; exact ⟨(a, b), fun e he => by cases (show some (zf_R1, zf_F1, 11) = some e from he); exact h⟩
    | 2 => obtain ⟨a, b, h⟩ := k2; exact ⟨(a, b), fun e he => by cases (show some (zf_R2, zf_F2, 3) = some e from he); exact h⟩
    | 3 => obtain ⟨a, b, h⟩ := k3; exact ⟨(a, b), fun e he => by cases (show some (zf_R3, zf_F3, 6) = some e from he); exact h⟩
    | 4 => obtain ⟨a, b, h⟩ := k4; exact ⟨(a, b), fun e he => by cases (show some (zf_R4, zf_F4, 8) = some e from he); exact h⟩
    | 5 => obtain ⟨a, b, h⟩ := k5; exact ⟨(a, b), fun e he => by cases (show some (zf_R5, zf_F5, 4) = some e from he); exact h⟩
    | 6 => obtain ⟨a, b, h⟩ := k6; exact ⟨(a, b), fun e he => by cases (show some (zf_R6, zf_F6, 36) = some e from he); exact h⟩
    | n + 7 => obtain ⟨a, b, h⟩ := k0; exact ⟨(a, b), fun e he => by cases (show none = some e from he)⟩
  obtain ⟨f, hf⟩ := Classical.axiomOfChoice h
  exact ⟨(fun c => (f c).1, fun c => (f c).2), fun c q hq => hf c q hq⟩
theorem zo_Yp {s : State} {args : Array Value} {t : FieldType} (ht : ∀ C, t ≠ .object C) (hr : ∀ cA, s.vm.findClass ("[" ++ t.toString) = some cA → va_RA s cA t) (h : (Cond.arrayClass t).before args s = true) : ∃ c : ClassId, ArrOfT s c t ∧ va_RA s c t := by
  obtain ⟨c, k, comp, h1, h2, h3⟩ := Cond.arrayClass_spec h
  exact ⟨c, fun n z => ⟨(fun k h => by cases h), k, h2, comp, h3⟩, hr c h1⟩
theorem zo_Yo {s : State} {args : Array Value} {C : String} (h : (Cond.arrayOver (.object C)).before args s = true) : ∃ c : ClassId, ArrOfT s c (.object C) ∧ va_RA s c (.object C) := by
  obtain ⟨comp, c, k, h1, h2, h3, h4, h5⟩ := Cond.arrayOver_spec h
  exact ⟨c, fun n z => ⟨(fun k h => by cases h), k, h3, comp, h4⟩, k, comp, h3, h4, h1, h5⟩
theorem zo_K {s : State} {args : Array Value} (hts : ∀ w ∈ lw_tbl, w.before args s = true) : ∃ (D : va_G) (Y : zs_Y), zs_K D Y s := by
  have hg : ∀ w ∈ zg_tab, w.before args s = true := fun w hw => hts w (List.mem_filter.mp hw).1
  obtain ⟨D, hD⟩ := zo_D hts
  obtain ⟨c0, a0, b0⟩ := zo_Yp (s := s) (t := .int) (fun C h => by cases h) (fun cA h => h) (hg _ zg_aI)
  obtain ⟨c1, a1, b1⟩ := zo_Yp (s := s) (t := .boolean) (fun C h => by cases h) (fun cA h => h) (hg _ zg_aZ)
  obtain ⟨c2, a2, b2⟩ := zo_Yo (hts _ zg_aT)
  obtain ⟨c3, a3, b3⟩ := zo_Yo (hts _ zg_aS)
  refine ⟨D, (c0, c1, c2, c3), hD, fun k q hk => ?_⟩
  match k with
  | 0 => cases (show some (c0, FieldType.int) = some q from hk); exact ⟨a0, b0⟩
  | 1 => cases (show some (c1, FieldType.boolean) = some q from hk); exact ⟨a1, b1⟩
  | 2 => cases (show some (c2, FieldType.object "TwoHeapsAlike$Text") = some q from hk); exact ⟨a2, b2⟩
  | 3 => cases (show some (c3, FieldType.object "TwoHeapsAlike$Sheet") = some q from hk); exact ⟨a3, b3⟩
  | n + 4 => cases (show none = some q from hk)
theorem zo_csL : ∀ e ∈ zk_csL, e.1 = 4 ∧ e.2.2 < 12 ∧ e.2.1 = zo_ix e.2.2 := by decide +kernel
theorem zo_P {s : State} {b L : Nat} {xs : Nat → Int32} (hts : ∀ w ∈ lw_tbl, w.before #[Value.ref b] s = true) (hn : (Jvm.Cond.and given_1 narrow_1).before #[Value.ref b] s = true) (hX : va_X b L xs s s.heap) (hb : b < s.heap.size) : ∃ ad adV : Nat → Nat, (∀ k, k < 1000 → ad k = s.heap.size + k) ∧ ad 1000 = b ∧ zs_P s.heap.size ad adV (some (L, xs)) s s.heap := by
  have hf : ∀ w ∈ zo_fl, w.before #[Value.ref b] s = true := flat_of_before _ hn
  have hA : ∀ a : Nat, a < s.heap.size → ¬ zs_A s.heap.size a := fun a h z => Nat.not_le.mpr h z
  obtain ⟨tK, hK1, hK2⟩ := va_Tof (N := 6) (f := fun j => .int (zk_kab j)) (A := zs_A s.heap.size) (by decide) (hf (.arrayOf (.static "TwoHeapsAlike" "KIND_ABOVE" "[I") .int) (by decide +kernel)) (va_eqt (hf (.eq (.length (.static "TwoHeapsAlike" "KIND_ABOVE" "[I")) (.int 6)) (by decide +kernel))) (fun j hj => va_eqt (hf _ (zo_ka j hj))) hA
  obtain ⟨adK, adV, hS, hSe⟩ := vk_Sof (N := 12) (tm := zo_tm) (len := zk_lit.map List.length) (byt := zk_lit) (A := zs_A s.heap.size) (by decide +kernel) (fun i hi => hf _ (zo_ex i hi)) (fun i hi => hf _ (zo_co i hi)) (fun i hi => hf _ (zo_ar i hi)) (fun i hi => hf _ (zo_le i hi)) (fun i hi j hj => hf _ (zo_el i hi j hj))
    (fun i j hi hj hij => (zo_ne i hi j hj hij).imp (hf _) (hf _)) hA
  refine ⟨fun k => if k < 1000 then s.heap.size + k else if k = 1000 then b else if k = 1001 then tK else adK (k - 2000), adV, fun k hk => if_pos hk, rfl, ?_, ?_, ?_, ⟨?_, ?_⟩, ?_, ?_, ?_, ?_⟩
  · intro k e he
    unfold zk_ext at he
    split at he
    · next h1 =>
      cases he
      subst h1
      obtain ⟨scr, h1, h2, h3, h4, h5⟩ := hX
      exact ⟨scr, h1, h2, h3, Nat.le_of_eq h4.symm, by rw [h4], h5, hA b hb⟩
    · split at he
      · next h1 =>
        cases he
        subst h1
        exact hK2
      · cases he
  · exact va_Zref (hts (.laysStatic "TwoHeapsAlike" "KIND_ABOVE" "[I") (by decide +kernel)) (hts (.initialized "TwoHeapsAlike") (by decide +kernel)) hK1 hA
  · intro e he h3
    have h := zg_cl e he
    unfold zg_clP at h
    rw [h3] at h
    exact va_Nw.of rfl (hts _ h.2.1)
  · exact va_AO.of (hts _ zg_aT)
  · exact va_AO.of (hts _ zg_aS)
  · intro e he
    obtain ⟨h1, h2, h3⟩ := zo_csL e he
    refine ⟨zo_tx e.2.2, ?_⟩
    rw [h1, h3]
    have e2 : (if 2000 + e.2.2 < 1000 then s.heap.size + (2000 + e.2.2) else if 2000 + e.2.2 = 1000 then b else if 2000 + e.2.2 = 1001 then tK else adK (2000 + e.2.2 - 2000)) = adK e.2.2 := by
      rw [if_neg (by omega), if_neg (by omega), if_neg (by omega), Nat.add_sub_cancel_left]
    show vk_R _ _ _ (if 2000 + e.2.2 < 1000 then s.heap.size + (2000 + e.2.2) else if 2000 + e.2.2 = 1000 then b else if 2000 + e.2.2 = 1001 then tK else adK (2000 + e.2.2 - 2000)) s
    rw [e2]
    exact vk_R.of (hts _ (zo_sr e.2.2 h2)) (hSe e.2.2 h2)
  · have e2 : (fun i => (fun k => if k < 1000 then s.heap.size + k else if k = 1000 then b else if k = 1001 then tK else adK (k - 2000)) (2000 + i)) = adK := by
      funext i
      show (if 2000 + i < 1000 then s.heap.size + (2000 + i) else if 2000 + i = 1000 then b else if 2000 + i = 1001 then tK else adK (2000 + i - 2000)) = adK i
      rw [if_neg (by omega), if_neg (by omega), if_neg (by omega), Nat.add_sub_cancel_left]
    rw [e2]
    exact hS
  · exact va_Zof (hts (.laysStatic "java/lang/String" "COMPACT_STRINGS" "Z") (by decide +kernel)) (hts (.initialized "java/lang/String") (by decide +kernel)) (va_eqi (hf (.eq (.static "java/lang/String" "COMPACT_STRINGS" "Z") (.int 1)) (by decide +kernel))) hA
  · exact va_Zqof (hts (.laysStatic "jdk/internal/util/Preconditions" "SIOOBE_FORMATTER" "Ljava/util/function/BiFunction;") (by decide +kernel)) (hts (.initialized "jdk/internal/util/Preconditions") (by decide +kernel)) (hf (.isRef (.static "jdk/internal/util/Preconditions" "SIOOBE_FORMATTER" "Ljava/util/function/BiFunction;")) (by decide +kernel)) hA
def zo_M0 : zk_M := (0, fun _ _ => 0, fun _ _ => none)
theorem zo_start (hdec : zs_dec) {p : Program} {e : Env} {s : State} {m : MethodId} {below : List Frame} {meth : Method} {c : Code} (l : Launch) {b L : Nat} {xs : Nat → Int32} (C0 : lw_At p s m meth c b L xs) (hrun : ∃ (n : Nat) (M' : zk_M), zk_run (some (L, xs)) n 900 217 0 (zk_ent 4 [.ref (1000 : Nat)]) [] zo_M0 = some (some (.int 1), M') ∧ M'.1 = 83) : W p l e room_1 s m #[Value.ref b] below meth c s.heap [] 0 0 (lw_Z below #[Value.ref b] s) (entryFrame m ([Value.ref b] : List Value).toArray 4) := by
  obtain ⟨hx, hb, hr, hml, hown, hts, hX, hbl, hlocks, hn⟩ := C0
  obtain ⟨n, M', hrun, hM⟩ := hrun
  obtain ⟨D, Y, hK⟩ := zo_K hts
  obtain ⟨ad, adV, had, hsc, hP⟩ := zo_P hts hn hX hbl
  have C : zs_C p room_1 s m #[Value.ref b] meth c s.heap.size 0 83 ad adV Y D (some (L, xs)) 217 zm_217 900 := by
    refine ⟨rfl, hx, hb, hml, hown, fun w hw => hts w (List.mem_filter.mp hw).1, fun h => (by cases h), hK, hP, had, ⟨?_, ?_, ?_, ?_⟩, Nat.le_refl _⟩
    · decide +kernel
    · decide +kernel
    · decide +kernel
    · decide +kernel
  have G := zs_main hdec l (zs_S1_ok l s.heap.size ad adV (some (L, xs))) (zs_S2_ok l s.heap.size ad adV (some (L, xs))) n 900 217 0 (zk_ent 4 [.ref (1000 : Nat)]) [] zo_M0 _ M' hrun (e := e) (below := below) (Q := lw_Z below #[Value.ref b] s) C (Nat.le_of_eq hM) ?_
  · have G2 := G s.heap [] _ ⟨⟨Nat.le_refl _, fun _ => rfl⟩, (fun k q h => by cases (show none = some q from h)), by decide⟩ (Nat.le_refl _) va_S.rf (zs_entry (ad := ad) (y := 217) (c := zm_217) (args := [.ref (1000 : Nat)]) rfl (by decide +kernel))
    rw [lg_entry_eq]
    have e1 : [Value.ref b] = ([.ref (1000 : Nat)] : List Value).map (zs_mv ad) := by rw [← hsc]; rfl
    rw [← e1] at G2
    exact G2
  · intro pc ls st i nl hd hs
    obtain ⟨hdg, hok⟩ := hd
    intro H locs arr hw hn0 hS hl
    cases i
    case ireturn =>
      have hn1 : nl = 1 := Nat.eq_of_beq_eq_true hok
      subst hn1
      simp only [zk_st] at hs
      split at hs
      · next v =>
        have hz : Nat.beq zm_217.2.2.1 1 = false := rfl
        rw [hz] at hs
        simp only [cond_false] at hs
        split at hs
        · cases hs
          refine va_forget (fun q hq => hS.2.2 q hq) (W.widen (k := 600000) (n := 7302250) ?_ ?_ (lw_ret hx hb hr hlocks hdg))
          · rw [hM]; decide
          · rw [hM]; decide +kernel
        · cases hs
      · cases hs
    case lreturn =>
      simp only [zk_st] at hs
      split at hs
      · have hz : Nat.beq zm_217.2.2.1 3 = false := rfl
        rw [hz] at hs; cases hs
      · cases hs
    case areturn =>
      simp only [zk_st] at hs
      split at hs
      · have hz : Nat.beq zm_217.2.2.1 4 = false := rfl
        rw [hz] at hs; cases hs
      · cases hs
    case return_ =>
      simp only [zk_st] at hs
      split at hs
      · have hz : Nat.beq zm_217.2.2.1 0 = false := rfl
        rw [hz] at hs; cases hs
      · cases hs
    all_goals (exfalso; revert hs; simp only [zk_st, zk_nx, zk_call, cond_eq_ite]; (repeat' split) <;> (intro hs; cases hs))
