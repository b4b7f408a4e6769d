/-! THE TEXT CONSTANTS: String.length and charAt, by the kit's rows -/
def zy_len : MethodName := ⟨"java/lang/String", "length", "()I"⟩
abbrev zb_len : ByteArray := prog_11_method_54_code
theorem zw_len : Cond.code zy_len zb_len 1 (some .int) ∈ zg_tab := (zg_2 31 rfl (by decide +kernel))
def zd_w_len : List Cond := Cond.code zy_len zb_len 1 (some .int) :: zg_tab
theorem ze_len_0 : decode zb_len 0 = .ok (.aload_n 0, 1) := by decide +kernel
theorem ze_len_1 : decode zb_len 1 = .ok (.getfield 9, 3) := by decide +kernel
theorem ze_len_4 : decode zb_len 4 = .ok (.arraylength, 1) := by decide +kernel
theorem ze_len_5 : decode zb_len 5 = .ok (.aload_n 0, 1) := by decide +kernel
theorem ze_len_6 : decode zb_len 6 = .ok (.invokevirtual 335, 3) := by decide +kernel
theorem ze_len_9 : decode zb_len 9 = .ok (.ishr, 1) := by decide +kernel
theorem ze_len_10 : decode zb_len 10 = .ok (.ireturn, 1) := by decide +kernel
def zy_cod : MethodName := ⟨"java/lang/String", "coder", "()B"⟩
abbrev zb_cod : ByteArray := prog_11_method_152_code
theorem zw_cod : Cond.code zy_cod zb_cod 1 (some .byte) ∈ zg_tab := (zg_2 35 rfl (by decide +kernel))
def zd_w_cod : List Cond := Cond.code zy_cod zb_cod 1 (some .byte) :: zg_tab
theorem ze_cod_0 : decode zb_cod 0 = .ok (.getstatic 38, 3) := by decide +kernel
theorem ze_cod_3 : decode zb_cod 3 = .ok (.ifCond .eq (10), 3) := by decide +kernel
theorem ze_cod_6 : decode zb_cod 6 = .ok (.aload_n 0, 1) := by decide +kernel
theorem ze_cod_7 : decode zb_cod 7 = .ok (.getfield 15, 3) := by decide +kernel
theorem ze_cod_10 : decode zb_cod 10 = .ok (.goto 4, 3) := by decide +kernel
theorem ze_cod_13 : decode zb_cod 13 = .ok (.iconst 1, 1) := by decide +kernel
theorem ze_cod_14 : decode zb_cod 14 = .ok (.ireturn, 1) := by decide +kernel
def zy_cha : MethodName := ⟨"java/lang/String", "charAt", "(I)C"⟩
abbrev zb_cha : ByteArray := prog_11_method_56_code
theorem zw_cha : Cond.code zy_cha zb_cha 2 (some .char) ∈ zg_tab := (zg_2 41 rfl (by decide +kernel))
def zd_w_cha : List Cond := Cond.code zy_cha zb_cha 2 (some .char) :: zg_tab
theorem ze_cha_0 : decode zb_cha 0 = .ok (.aload_n 0, 1) := by decide +kernel
theorem ze_cha_1 : decode zb_cha 1 = .ok (.invokevirtual 492, 3) := by decide +kernel
theorem ze_cha_4 : decode zb_cha 4 = .ok (.ifCond .eq (12), 3) := by decide +kernel
theorem ze_cha_7 : decode zb_cha 7 = .ok (.aload_n 0, 1) := by decide +kernel
theorem ze_cha_8 : decode zb_cha 8 = .ok (.getfield 9, 3) := by decide +kernel
theorem ze_cha_11 : decode zb_cha 11 = .ok (.iload_n 1, 1) := by decide +kernel
theorem ze_cha_12 : decode zb_cha 12 = .ok (.invokestatic 495, 3) := by decide +kernel
theorem ze_cha_15 : decode zb_cha 15 = .ok (.ireturn, 1) := by decide +kernel
theorem ze_cha_16 : decode zb_cha 16 = .ok (.aload_n 0, 1) := by decide +kernel
theorem ze_cha_17 : decode zb_cha 17 = .ok (.getfield 9, 3) := by decide +kernel
theorem ze_cha_20 : decode zb_cha 20 = .ok (.iload_n 1, 1) := by decide +kernel
theorem ze_cha_21 : decode zb_cha 21 = .ok (.invokestatic 498, 3) := by decide +kernel
theorem ze_cha_24 : decode zb_cha 24 = .ok (.ireturn, 1) := by decide +kernel
def zy_lat : MethodName := ⟨"java/lang/String", "isLatin1", "()Z"⟩
abbrev zb_lat : ByteArray := prog_11_method_154_code
theorem zw_lat : Cond.code zy_lat zb_lat 1 (some .boolean) ∈ zg_tab := (zg_2 45 rfl (by decide +kernel))
def zd_w_lat : List Cond := Cond.code zy_lat zb_lat 1 (some .boolean) :: zg_tab
theorem ze_lat_0 : decode zb_lat 0 = .ok (.getstatic 38, 3) := by decide +kernel
theorem ze_lat_3 : decode zb_lat 3 = .ok (.ifCond .eq (14), 3) := by decide +kernel
theorem ze_lat_6 : decode zb_lat 6 = .ok (.aload_n 0, 1) := by decide +kernel
theorem ze_lat_7 : decode zb_lat 7 = .ok (.getfield 15, 3) := by decide +kernel
theorem ze_lat_10 : decode zb_lat 10 = .ok (.ifCond .ne (7), 3) := by decide +kernel
theorem ze_lat_13 : decode zb_lat 13 = .ok (.iconst 1, 1) := by decide +kernel
theorem ze_lat_14 : decode zb_lat 14 = .ok (.goto 4, 3) := by decide +kernel
theorem ze_lat_17 : decode zb_lat 17 = .ok (.iconst 0, 1) := by decide +kernel
theorem ze_lat_18 : decode zb_lat 18 = .ok (.ireturn, 1) := by decide +kernel
def zy_lch : MethodName := ⟨"java/lang/StringLatin1", "charAt", "([BI)C"⟩
abbrev zb_lch : ByteArray := prog_12_method_2_code
theorem zw_lch : Cond.code zy_lch zb_lch 2 (some .char) ∈ zg_tab := (zg_2 48 rfl (by decide +kernel))
def zd_w_lch : List Cond := Cond.code zy_lch zb_lch 2 (some .char) :: zg_tab
theorem ze_lch_0 : decode zb_lch 0 = .ok (.iload_n 1, 1) := by decide +kernel
theorem ze_lch_1 : decode zb_lch 1 = .ok (.aload_n 0, 1) := by decide +kernel
theorem ze_lch_2 : decode zb_lch 2 = .ok (.arraylength, 1) := by decide +kernel
theorem ze_lch_3 : decode zb_lch 3 = .ok (.invokestatic 9, 3) := by decide +kernel
theorem ze_lch_6 : decode zb_lch 6 = .ok (.aload_n 0, 1) := by decide +kernel
theorem ze_lch_7 : decode zb_lch 7 = .ok (.iload_n 1, 1) := by decide +kernel
theorem ze_lch_8 : decode zb_lch 8 = .ok (.baload, 1) := by decide +kernel
theorem ze_lch_9 : decode zb_lch 9 = .ok (.sipush 255, 3) := by decide +kernel
theorem ze_lch_12 : decode zb_lch 12 = .ok (.iand, 1) := by decide +kernel
theorem ze_lch_13 : decode zb_lch 13 = .ok (.i2c, 1) := by decide +kernel
theorem ze_lch_14 : decode zb_lch 14 = .ok (.ireturn, 1) := by decide +kernel
def zy_chk : MethodName := ⟨"java/lang/String", "checkIndex", "(II)V"⟩
abbrev zb_chk : ByteArray := prog_11_method_155_code
theorem zw_chk : Cond.code zy_chk zb_chk 2 none ∈ zg_tab := (zg_2 51 rfl (by decide +kernel))
def zd_w_chk : List Cond := Cond.code zy_chk zb_chk 2 none :: zg_tab
theorem ze_chk_0 : decode zb_chk 0 = .ok (.iload_n 0, 1) := by decide +kernel
theorem ze_chk_1 : decode zb_chk 1 = .ok (.iload_n 1, 1) := by decide +kernel
theorem ze_chk_2 : decode zb_chk 2 = .ok (.getstatic 1053, 3) := by decide +kernel
theorem ze_chk_5 : decode zb_chk 5 = .ok (.invokestatic 1059, 3) := by decide +kernel
theorem ze_chk_8 : decode zb_chk 8 = .ok (.pop, 1) := by decide +kernel
theorem ze_chk_9 : decode zb_chk 9 = .ok (.return_, 1) := by decide +kernel
def zy_pre : MethodName := ⟨"jdk/internal/util/Preconditions", "checkIndex", "(IILjava/util/function/BiFunction;)I"⟩
abbrev zb_pre : ByteArray := prog_15_method_11_code
theorem zw_pre : Cond.code zy_pre zb_pre 3 (some .int) ∈ zg_tab := (zg_2 56 rfl (by decide +kernel))
def zd_w_pre : List Cond := Cond.code zy_pre zb_pre 3 (some .int) :: zg_tab
theorem ze_pre_0 : decode zb_pre 0 = .ok (.iload_n 0, 1) := by decide +kernel
theorem ze_pre_1 : decode zb_pre 1 = .ok (.ifCond .lt (8), 3) := by decide +kernel
theorem ze_pre_4 : decode zb_pre 4 = .ok (.iload_n 0, 1) := by decide +kernel
theorem ze_pre_5 : decode zb_pre 5 = .ok (.iload_n 1, 1) := by decide +kernel
theorem ze_pre_6 : decode zb_pre 6 = .ok (.if_icmp .lt (10), 3) := by decide +kernel
theorem ze_pre_16 : decode zb_pre 16 = .ok (.iload_n 0, 1) := by decide +kernel
theorem ze_pre_17 : decode zb_pre 17 = .ok (.ireturn, 1) := by decide +kernel
theorem zw_iS : Cond.initialized "java/lang/String" ∈ zg_tab := (zg_1 8 (by decide +kernel) (by decide +kernel))
theorem zw_iL : Cond.initialized "java/lang/StringLatin1" ∈ zg_tab := (zg_1 9 (by decide +kernel) (by decide +kernel))
theorem zw_iP : Cond.initialized "jdk/internal/util/Preconditions" ∈ zg_tab := (zg_1 10 (by decide +kernel) (by decide +kernel))
theorem zw_lcod : Cond.methodLink "java/lang/String" 335 zy_cod ∈ zg_tab := (zg_2 32 (by decide +kernel) (by decide +kernel))
theorem zw_llat : Cond.methodLink "java/lang/String" 492 zy_lat ∈ zg_tab := (zg_2 42 (by decide +kernel) (by decide +kernel))
theorem zw_llch : Cond.methodLink "java/lang/String" 495 zy_lch ∈ zg_tab := (zg_2 46 (by decide +kernel) (by decide +kernel))
theorem zw_lchk : Cond.methodLink "java/lang/StringLatin1" 9 zy_chk ∈ zg_tab := (zg_2 49 (by decide +kernel) (by decide +kernel))
theorem zw_lpre : Cond.methodLink "java/lang/String" 1059 zy_pre ∈ zg_tab := (zg_2 54 (by decide +kernel) (by decide +kernel))
theorem zw_nlen : Cond.instanceMethod zy_len ∈ zg_tab := (zg_2 29 (by decide +kernel) (by decide +kernel))
theorem zw_slen : Cond.selects "java/lang/String" zy_len zy_len ∈ zg_tab := (zg_2 30 (by decide +kernel) (by decide +kernel))
theorem zw_ncod : Cond.instanceMethod zy_cod ∈ zg_tab := (zg_2 33 (by decide +kernel) (by decide +kernel))
theorem zw_scod : Cond.selects "java/lang/String" zy_cod zy_cod ∈ zg_tab := (zg_2 34 (by decide +kernel) (by decide +kernel))
theorem zw_ncha : Cond.instanceMethod zy_cha ∈ zg_tab := (zg_2 39 (by decide +kernel) (by decide +kernel))
theorem zw_scha : Cond.selects "java/lang/String" zy_cha zy_cha ∈ zg_tab := (zg_2 40 (by decide +kernel) (by decide +kernel))
theorem zw_nlat : Cond.instanceMethod zy_lat ∈ zg_tab := (zg_2 43 (by decide +kernel) (by decide +kernel))
theorem zw_slat : Cond.selects "java/lang/String" zy_lat zy_lat ∈ zg_tab := (zg_2 44 (by decide +kernel) (by decide +kernel))
theorem zw_tlch : Cond.static zy_lch ∈ zg_tab := (zg_2 47 (by decide +kernel) (by decide +kernel))
theorem zw_tchk : Cond.static zy_chk ∈ zg_tab := (zg_2 50 (by decide +kernel) (by decide +kernel))
theorem zw_tpre : Cond.static zy_pre ∈ zg_tab := (zg_2 55 (by decide +kernel) (by decide +kernel))
theorem zw_fv : Cond.fieldLink "java/lang/String" 9 "java/lang/String" "value" "[B" ∈ zg_tab := (zg_6 54 (by decide +kernel) (by decide +kernel))
theorem zw_fc : Cond.fieldLink "java/lang/String" 15 "java/lang/String" "coder" "B" ∈ zg_tab := (zg_6 55 (by decide +kernel) (by decide +kernel))
theorem zw_fs : Cond.fieldLink "java/lang/String" 38 "java/lang/String" "COMPACT_STRINGS" "Z" ∈ zg_tab := (zg_2 36 (by decide +kernel) (by decide +kernel))
theorem zw_ff : Cond.fieldLink "java/lang/String" 1053 "jdk/internal/util/Preconditions" "SIOOBE_FORMATTER" "Ljava/util/function/BiFunction;" ∈ zg_tab := (zg_2 52 (by decide +kernel) (by decide +kernel))
theorem zt_lit : ∀ j, j < 12 → (zk_lit.map List.length).getD j 0 = zk_sle j ∧ zk_sle j < 2 ^ 31 ∧ ∀ k, k < zk_sle j → (((zk_lit.getD j []).getD k 0 &&& 255).toUInt32 % 65536).toInt32 = zk_sch j k ∧ narrow .char (.int (zk_sch j k)) = .int (zk_sch j k) := by decide +kernel
def zt_Q (r : Option Value) : Array Value → State → Outcome → State → Prop := fun _ st o t => o = .returned r ∧ t.heap = st.heap
def zt_rm (k : Nat) : Room := { frames := k, cells := 0, slots := 0, locals := 60 * k }
def zt_Pc (base : Nat) (ad adV : Nat → Nat) (sc : zk_X) (as : List Value) : Array Value → State → Prop := va_Pc as (fun U => zs_P base ad adV sc U U.heap)
theorem zt_blind {base : Nat} {ad adV : Nat → Nat} {sc : zk_X} (as : List Value) : FrameBlind (zt_Pc base ad adV sc as) := by
  intro a U g mk q
  exact ⟨q.1, zs_P_moved (s := U) (U := U.calling g mk a) (State.WarmedH.refl U) (Nat.le_refl _) (fun _ _ _ => rfl) q.2⟩
section ST
variable {p : Program} {l : Launch} {e : Env} {R : Room} {s : State} {m : MethodId} {args : Array Value} {below : List Frame} {meth : Method} {c : Code} {H : Heap} {locs : List Loc} {cells slots : Nat} {Qw : State → Prop}
theorem zt_cont {g : JFrame} {rest : List Value} {a : Array Value} {r : Option Value} (hr : CallRun p l e R s m args below meth c H locs cells slots 0 0 g rest (zt_Q r a) (fun _ => False)) (kk : W p l e R s m args below meth c H locs cells slots Qw { g with pc := g.pc + 3, stack := r.toList ++ rest }) : W p l e R s m args below meth c H locs cells slots Qw g := by
  intro T hT X
  obtain ⟨v, st₀, t, T', L, h0, X', hL, e1, ⟨hv, hh⟩, st⟩ := hr T hT X
  cases hv
  obtain ⟨t2, a1, b1⟩ := kk T' (by rw [e1, hh, h0]) (Stand.forget X' (fun q h => (hL q h).elim))
  exact ⟨t2, st t2 a1, b1⟩
variable {base : Nat} {ad adV : Nat → Nat} {sc : zk_X}
theorem zt_pre0 {as : List Value} {H : Heap} {s : State} {locs : List Loc} (hP : zs_P base ad adV sc s s.heap) (hS : va_S (zs_A base) s.heap H locs) : ∀ U : State, U.heap = H → s.WarmedH U.vm → zt_Pc base ad adV sc as as.toArray U := fun U hU hW => ⟨rfl, by show zs_P base ad adV sc U U.heap; rw [hU]; exact zs_P_moved hW hS.1 (fun a h1 h2 => hS.2.1 a h1 h2) hP⟩
end ST

theorem zt_cod (l : Launch) {base : Nat} {ad adV : Nat → Nat} {sc : zk_X} {j : Nat} (hj : j < 12) : Met l zy_cod zd_w_cod (zt_rm 1) (zt_Pc base ad adV sc [.ref (ad (2000 + j))]) (zt_Q (some (.int 0))) 0 0 (fun _ => False) := by
  refine Met.ofW (cc := zb_cod) (maxL := 1) (ret := some .byte) (by decide) rfl ?_
  intro p e s m args below meth c s₁ B hml hv
  obtain ⟨rfl, hP⟩ := hv
  have hx := B.exec
  have hb := B.bytes
  have hr := B.returns
  have hts0 := atoms_spec (ws := zd_w_cod) B.pre
  have hts : ∀ w ∈ zg_tab, w.before _ s = true := fun w hw => hts0 w (List.mem_cons_of_mem _ hw)
  have hown : s.vm.findClass "java/lang/String" = some m.cls := findClass_of_methodNamed B.named
  have hlocks := B.notSynchronized
  have hS : va_S (zs_A base) s.heap s.heap [] := va_S.rf
  have hl := lv_entry ([.ref (ad (2000 + j))]) (n := 1) (Nat.le_of_ble_eq_true rfl)
  rw [lg_entry_eq]
  generalize (lg_sl ([.ref (ad (2000 + j))]) ++ List.replicate (1 - (lg_sl ([.ref (ad (2000 + j))])).length) Slot.unset).toArray = ls at hl ⊢
  have h0 := lv_at hl 0 rfl
  refine va_gets (own := "java/lang/String") (ref := "java/lang/String") hx hb hP.2.2.2.2.2.2.1 hS hown (hts _ zw_fs) (fun x h => h) ze_cod_0 ?_
  refine lv_if_eq (tgt := 13) hx hb ze_cod_3 (by decide) (fun z => absurd z (by decide)) (fun _ => ?_)
  refine lv_aload_n hx hb ze_cod_6 rfl h0 ?_
  refine vk_getf (own := "java/lang/String") (ref := "java/lang/String") hx hb (hP.2.2.2.2.2.1.1 j hj).2.1 hS hown (hts _ zw_fc) (fun x h => h) ze_cod_7 ?_
  refine lv_goto (tgt := 14) hx hb ze_cod_10 (by decide) ?_
  exact W.zret (ty := .byte) hx hb hr (by decide) (fun t ht _ => ⟨rfl, ht⟩) (fun _ h => by cases h) ze_cod_14
theorem zt_lat (l : Launch) {base : Nat} {ad adV : Nat → Nat} {sc : zk_X} {j : Nat} (hj : j < 12) : Met l zy_lat zd_w_lat (zt_rm 1) (zt_Pc base ad adV sc [.ref (ad (2000 + j))]) (zt_Q (some (.int 1))) 0 0 (fun _ => False) := by
  refine Met.ofW (cc := zb_lat) (maxL := 1) (ret := some .boolean) (by decide) rfl ?_
  intro p e s m args below meth c s₁ B hml hv
  obtain ⟨rfl, hP⟩ := hv
  have hx := B.exec
  have hb := B.bytes
  have hr := B.returns
  have hts0 := atoms_spec (ws := zd_w_lat) B.pre
  have hts : ∀ w ∈ zg_tab, w.before _ s = true := fun w hw => hts0 w (List.mem_cons_of_mem _ hw)
  have hown : s.vm.findClass "java/lang/String" = some m.cls := findClass_of_methodNamed B.named
  have hlocks := B.notSynchronized
  have hS : va_S (zs_A base) s.heap s.heap [] := va_S.rf
  have hl := lv_entry ([.ref (ad (2000 + j))]) (n := 1) (Nat.le_of_ble_eq_true rfl)
  rw [lg_entry_eq]
  generalize (lg_sl ([.ref (ad (2000 + j))]) ++ List.replicate (1 - (lg_sl ([.ref (ad (2000 + j))])).length) Slot.unset).toArray = ls at hl ⊢
  have h0 := lv_at hl 0 rfl
  refine va_gets (own := "java/lang/String") (ref := "java/lang/String") hx hb hP.2.2.2.2.2.2.1 hS hown (hts _ zw_fs) (fun x h => h) ze_lat_0 ?_
  refine lv_if_eq (tgt := 17) hx hb ze_lat_3 (by decide) (fun z => absurd z (by decide)) (fun _ => ?_)
  refine lv_aload_n hx hb ze_lat_6 rfl h0 ?_
  refine vk_getf (own := "java/lang/String") (ref := "java/lang/String") hx hb (hP.2.2.2.2.2.1.1 j hj).2.1 hS hown (hts _ zw_fc) (fun x h => h) ze_lat_7 ?_
  refine lv_if_ne (tgt := 17) hx hb ze_lat_10 (by decide) (fun z => absurd rfl z) (fun _ => ?_)
  refine lv_iconst (v := 1) hx hb ze_lat_13 (by decide) ?_
  refine lv_goto (tgt := 18) hx hb ze_lat_14 (by decide) ?_
  exact W.zret (ty := .boolean) hx hb hr (by decide) (fun t ht _ => ⟨rfl, ht⟩) (fun _ h => by cases h) ze_lat_18
theorem zt_len (l : Launch) {base : Nat} {ad adV : Nat → Nat} {sc : zk_X} {j : Nat} (hj : j < 12) : Met l zy_len zd_w_len (zt_rm 3) (zt_Pc base ad adV sc [.ref (ad (2000 + j))]) (zt_Q (some (.int (zk_sln j)))) 0 0 (fun _ => False) := by
  refine Met.ofW (cc := zb_len) (maxL := 1) (ret := some .int) (by decide) rfl ?_
  intro p e s m args below meth c s₁ B hml hv
  obtain ⟨rfl, hP⟩ := hv
  have hx := B.exec
  have hb := B.bytes
  have hr := B.returns
  have hts0 := atoms_spec (ws := zd_w_len) B.pre
  have hts : ∀ w ∈ zg_tab, w.before _ s = true := fun w hw => hts0 w (List.mem_cons_of_mem _ hw)
  have hown : s.vm.findClass "java/lang/String" = some m.cls := findClass_of_methodNamed B.named
  have hlocks := B.notSynchronized
  have hS : va_S (zs_A base) s.heap s.heap [] := va_S.rf
  have hl := lv_entry ([.ref (ad (2000 + j))]) (n := 1) (Nat.le_of_ble_eq_true rfl)
  rw [lg_entry_eq]
  generalize (lg_sl ([.ref (ad (2000 + j))]) ++ List.replicate (1 - (lg_sl ([.ref (ad (2000 + j))])).length) Slot.unset).toArray = ls at hl ⊢
  have h0 := lv_at hl 0 rfl
  obtain ⟨e1, e2, e3⟩ := zt_lit j hj
  refine lv_aload_n hx hb ze_len_0 rfl h0 ?_
  refine vk_getf (own := "java/lang/String") (ref := "java/lang/String") hx hb (hP.2.2.2.2.2.1.1 j hj).2.2.1 hS hown (hts _ zw_fv) (fun x h => h) ze_len_1 ?_
  refine va_tlen hx hb (hP.2.2.2.2.2.1.1 j hj).2.2.2 hS (v := zk_sln j) (by rw [e1]; rfl) ze_len_4 ?_
  refine lv_aload_n hx hb ze_len_5 rfl h0 ?_
  refine zt_cont (W.runV (As := []) (rest := [.int (zk_sln j)]) ⟨hx, hb, hml, hown, hts⟩ (zt_cod l hj) (cwV 0 hts (zs_good (fun w hw => by
    simp only [wsV, List.mem_append, List.mem_cons, List.not_mem_nil, or_false] at hw
    rcases hw with (rfl | rfl | rfl | rfl) | hw
    · exact zw_lcod
    · exact zw_ncod
    · exact zw_scod
    · exact zw_iS
    · rcases List.mem_cons.mp hw with rfl | hw
      · exact zw_cod
      · exact hw)) rfl rfl rfl (by decide +kernel) ⟨Nat.le_of_ble_eq_true rfl, Nat.le_of_ble_eq_true rfl⟩) ⟨zt_blind _, vk_recv hP.2.2.2.2.2.1 hj hS, zt_pre0 hP hS⟩ rfl rfl hl.1 rfl (lv_room (Nat.le_of_ble_eq_true rfl)) ze_len_6 ⟨Nat.le_refl _, Nat.le_refl _⟩) ?_
  refine lv_ishr hx hb ze_len_9 ?_
  have e4 : zk_sln j >>> ((0 : Int32) &&& 31) = zk_sln j := sc_shr0 (n := zk_sle j) e2
  rw [e4]
  exact W.iret hx hb hr (fun t ht _ => ⟨rfl, ht⟩) (fun _ h => by cases h) ze_len_10
theorem zt_pre (l : Launch) {base : Nat} {ad adV : Nat → Nat} {sc : zk_X} {i : Int32} {n : Nat} (hn : n < 2 ^ 31) (hi : zk_inb i n = true) (w : Value) (hw : (lg_sl [.int i, .int (nI n), w]).length = 3) : Met l zy_pre zd_w_pre (zt_rm 1) (zt_Pc base ad adV sc [.int i, .int (nI n), w]) (zt_Q (some (.int i))) 0 0 (fun _ => False) := by
  refine Met.ofW (cc := zb_pre) (maxL := 3) (ret := some .int) (by decide) rfl ?_
  intro p e s m args below meth c s₁ B hml hv
  obtain ⟨rfl, hP⟩ := hv
  have hx := B.exec
  have hb := B.bytes
  have hr := B.returns
  have hts0 := atoms_spec (ws := zd_w_pre) B.pre
  have hts : ∀ w ∈ zg_tab, w.before _ s = true := fun w hw => hts0 w (List.mem_cons_of_mem _ hw)
  have hown : s.vm.findClass "jdk/internal/util/Preconditions" = some m.cls := findClass_of_methodNamed B.named
  have hlocks := B.notSynchronized
  have hS : va_S (zs_A base) s.heap s.heap [] := va_S.rf
  have hl := lv_entry ([.int i, .int (nI n), w]) (n := 3) (Nat.le_of_eq hw)
  rw [lg_entry_eq]
  generalize (lg_sl ([.int i, .int (nI n), w]) ++ List.replicate (3 - (lg_sl ([.int i, .int (nI n), w])).length) Slot.unset).toArray = ls at hl ⊢
  have h0 := lv_at hl 0 rfl
  have h1 := lv_at hl 1 rfl
  have hi2 := (zk_inb_iff _ _).mp hi
  have e1 : ¬ i < 0 := fun z => zs_in hi (Or.inl z)
  have e2 : i < nI n := by rw [Int32.lt_iff_toInt_lt, nI_toInt hn]; exact hi2.2
  refine lv_iload_n hx hb ze_pre_0 rfl h0 ?_
  refine lv_if_lt (tgt := 9) hx hb ze_pre_1 (by decide) (fun z => absurd z e1) (fun _ => ?_)
  refine lv_iload_n hx hb ze_pre_4 rfl h0 ?_
  refine lv_iload_n hx hb ze_pre_5 rfl h1 ?_
  refine lv_icmp_lt (tgt := 16) hx hb ze_pre_6 (by decide) (fun _ => ?_) (fun z => absurd e2 z)
  refine lv_iload_n hx hb ze_pre_16 rfl h0 ?_
  exact W.iret hx hb hr (fun t ht _ => ⟨rfl, ht⟩) (fun _ h => by cases h) ze_pre_17
theorem zt_chk (l : Launch) {base : Nat} {ad adV : Nat → Nat} {sc : zk_X} {i : Int32} {n : Nat} (hn : n < 2 ^ 31) (hi : zk_inb i n = true) : Met l zy_chk zd_w_chk (zt_rm 3) (zt_Pc base ad adV sc [.int i, .int (nI n)]) (zt_Q none) 0 0 (fun _ => False) := by
  refine Met.ofW (cc := zb_chk) (maxL := 2) (ret := none) (by decide) rfl ?_
  intro p e s m args below meth c s₁ B hml hv
  obtain ⟨rfl, hP⟩ := hv
  have hx := B.exec
  have hb := B.bytes
  have hr := B.returns
  have hts0 := atoms_spec (ws := zd_w_chk) B.pre
  have hts : ∀ w ∈ zg_tab, w.before _ s = true := fun w hw => hts0 w (List.mem_cons_of_mem _ hw)
  have hown : s.vm.findClass "java/lang/String" = some m.cls := findClass_of_methodNamed B.named
  have hlocks := B.notSynchronized
  have hS : va_S (zs_A base) s.heap s.heap [] := va_S.rf
  have hl := lv_entry ([.int i, .int (nI n)]) (n := 2) (Nat.le_of_ble_eq_true rfl)
  rw [lg_entry_eq]
  generalize (lg_sl ([.int i, .int (nI n)]) ++ List.replicate (2 - (lg_sl ([.int i, .int (nI n)])).length) Slot.unset).toArray = ls at hl ⊢
  have h0 := lv_at hl 0 rfl
  have h1 := lv_at hl 1 rfl
  have go : ∀ w : Value, (lg_sl [.int i, .int (nI n), w]).length = 3 → W p l e (headSpec zd_w_chk (zt_rm 3)).room s m [Value.int i, Value.int (nI n)].toArray below meth c s.heap [] 0 0 (MQ below (zt_Q none) [Value.int i, Value.int (nI n)].toArray s 0 0 (fun _ => False)) (F0 m 5 ls [w, .int (nI n), .int i]) := by
    intro w hw
    refine zt_cont (W.runS (As := [.int i, .int (nI n), w]) (rest := []) ⟨hx, hb, hml, hown, hts⟩ (zt_pre l hn hi w hw) (va_cwS 3 hts (zs_good (fun w hw => by
      simp only [va_wsS, List.mem_append, List.mem_cons, List.not_mem_nil, or_false] at hw
      rcases hw with (rfl | rfl | rfl) | hw
      · exact zw_lpre
      · exact zw_tpre
      · exact zw_iP
      · rcases List.mem_cons.mp hw with rfl | hw
        · exact zw_pre
        · exact hw)) rfl rfl rfl (by decide +kernel) ⟨Nat.le_of_ble_eq_true rfl, Nat.le_of_ble_eq_true rfl⟩) ⟨zt_blind _, zt_pre0 hP hS⟩ rfl rfl hl.1 rfl (lv_room (Nat.le_of_ble_eq_true rfl)) ze_chk_5 ⟨Nat.le_refl _, Nat.le_refl _⟩) ?_
    refine lv_pop hx hb ze_chk_8 rfl ?_
    exact W.vret hx hb hr (fun t ht _ => ⟨rfl, ht⟩) (fun _ h => by cases h) ze_chk_9
  refine lv_iload_n hx hb ze_chk_0 rfl h0 ?_
  refine lv_iload_n hx hb ze_chk_1 rfl h1 ?_
  rcases hP.2.2.2.2.2.2.2 with hz | ⟨t, hz⟩
  · refine va_gets (own := "java/lang/String") (ref := "jdk/internal/util/Preconditions") hx hb hz hS hown (hts _ zw_ff) (fun x h => h) ze_chk_2 ?_
    exact go _ rfl
  · refine va_gets (own := "java/lang/String") (ref := "jdk/internal/util/Preconditions") hx hb hz hS hown (hts _ zw_ff) (fun x h => h) ze_chk_2 ?_
    exact go _ rfl
theorem zt_lch (l : Launch) {base : Nat} {ad adV : Nat → Nat} {sc : zk_X} {j : Nat} (hj : j < 12) {i : Int32} (hi : zk_inb i (zk_sle j) = true) : Met l zy_lch zd_w_lch (zt_rm 5) (zt_Pc base ad adV sc [.ref (adV j), .int i]) (zt_Q (some (.int (zk_sch j i.toNatClampNeg)))) 0 0 (fun _ => False) := by
  refine Met.ofW (cc := zb_lch) (maxL := 2) (ret := some .char) (by decide) rfl ?_
  intro p e s m args below meth c s₁ B hml hv
  obtain ⟨rfl, hP⟩ := hv
  have hx := B.exec
  have hb := B.bytes
  have hr := B.returns
  have hts0 := atoms_spec (ws := zd_w_lch) B.pre
  have hts : ∀ w ∈ zg_tab, w.before _ s = true := fun w hw => hts0 w (List.mem_cons_of_mem _ hw)
  have hown : s.vm.findClass "java/lang/StringLatin1" = some m.cls := findClass_of_methodNamed B.named
  have hlocks := B.notSynchronized
  have hS : va_S (zs_A base) s.heap s.heap [] := va_S.rf
  have hl := lv_entry ([.ref (adV j), .int i]) (n := 2) (Nat.le_of_ble_eq_true rfl)
  rw [lg_entry_eq]
  generalize (lg_sl ([.ref (adV j), .int i]) ++ List.replicate (2 - (lg_sl ([.ref (adV j), .int i])).length) Slot.unset).toArray = ls at hl ⊢
  have h0 := lv_at hl 0 rfl
  have h1 := lv_at hl 1 rfl
  obtain ⟨e1, e2, e3⟩ := zt_lit j hj
  have hk : i.toNatClampNeg < zk_sle j := Nat.not_le.mp fun z => zs_in hi (Or.inr z)
  obtain ⟨e4, e5⟩ := e3 _ hk
  have hT := (hP.2.2.2.2.2.1.1 j hj).2.2.2
  rw [e1] at hT
  refine lv_iload_n hx hb ze_lch_0 rfl h1 ?_
  refine lv_aload_n hx hb ze_lch_1 rfl h0 ?_
  refine va_tlen hx hb hT hS (v := nI (zk_sle j)) rfl ze_lch_2 ?_
  refine zt_cont (W.runS (As := [.int i, .int (nI (zk_sle j))]) (rest := []) ⟨hx, hb, hml, hown, hts⟩ (zt_chk l e2 hi) (va_cwS 2 hts (zs_good (fun w hw => by
    simp only [va_wsS, List.mem_append, List.mem_cons, List.not_mem_nil, or_false] at hw
    rcases hw with (rfl | rfl | rfl) | hw
    · exact zw_lchk
    · exact zw_tchk
    · exact zw_iS
    · rcases List.mem_cons.mp hw with rfl | hw
      · exact zw_chk
      · exact hw)) rfl rfl rfl (by decide +kernel) ⟨Nat.le_of_ble_eq_true rfl, Nat.le_of_ble_eq_true rfl⟩) ⟨zt_blind _, zt_pre0 hP hS⟩ rfl rfl hl.1 rfl (lv_room (Nat.le_of_ble_eq_true rfl)) ze_lch_3 ⟨Nat.le_refl _, Nat.le_refl _⟩) ?_
  refine lv_aload_n hx hb ze_lch_6 rfl h0 ?_
  refine lv_iload_n hx hb ze_lch_7 rfl h1 ?_
  refine va_tb hx hb hT hS (zs_in hi) (v := .int ((zk_lit.getD j []).getD i.toNatClampNeg 0)) rfl ze_lch_8 ?_
  refine lv_sipush (v := 255) hx hb ze_lch_9 (by decide) ?_
  refine lv_iand hx hb ze_lch_12 ?_
  refine lv_i2c hx hb ze_lch_13 e4 ?_
  exact W.zret (ty := .char) hx hb hr e5 (fun t ht _ => ⟨rfl, ht⟩) (fun _ h => by cases h) ze_lch_14
theorem zt_cha (l : Launch) {base : Nat} {ad adV : Nat → Nat} {sc : zk_X} {j : Nat} (hj : j < 12) {i : Int32} (hi : zk_inb i (zk_sle j) = true) : Met l zy_cha zd_w_cha (zt_rm 7) (zt_Pc base ad adV sc [.ref (ad (2000 + j)), .int i]) (zt_Q (some (.int (zk_sch j i.toNatClampNeg)))) 0 0 (fun _ => False) := by
  refine Met.ofW (cc := zb_cha) (maxL := 2) (ret := some .char) (by decide) rfl ?_
  intro p e s m args below meth c s₁ B hml hv
  obtain ⟨rfl, hP⟩ := hv
  have hx := B.exec
  have hb := B.bytes
  have hr := B.returns
  have hts0 := atoms_spec (ws := zd_w_cha) B.pre
  have hts : ∀ w ∈ zg_tab, w.before _ s = true := fun w hw => hts0 w (List.mem_cons_of_mem _ hw)
  have hown : s.vm.findClass "java/lang/String" = some m.cls := findClass_of_methodNamed B.named
  have hlocks := B.notSynchronized
  have hS : va_S (zs_A base) s.heap s.heap [] := va_S.rf
  have hl := lv_entry ([.ref (ad (2000 + j)), .int i]) (n := 2) (Nat.le_of_ble_eq_true rfl)
  rw [lg_entry_eq]
  generalize (lg_sl ([.ref (ad (2000 + j)), .int i]) ++ List.replicate (2 - (lg_sl ([.ref (ad (2000 + j)), .int i])).length) Slot.unset).toArray = ls at hl ⊢
  have h0 := lv_at hl 0 rfl
  have h1 := lv_at hl 1 rfl
  obtain ⟨e1, e2, e3⟩ := zt_lit j hj
  have hk : i.toNatClampNeg < zk_sle j := Nat.not_le.mp fun z => zs_in hi (Or.inr z)
  obtain ⟨e4, e5⟩ := e3 _ hk
  refine lv_aload_n hx hb ze_cha_0 rfl h0 ?_
  refine zt_cont (W.runV (As := []) (rest := []) ⟨hx, hb, hml, hown, hts⟩ (zt_lat l hj) (cwV 0 hts (zs_good (fun w hw => by
    simp only [wsV, List.mem_append, List.mem_cons, List.not_mem_nil, or_false] at hw
    rcases hw with (rfl | rfl | rfl | rfl) | hw
    · exact zw_llat
    · exact zw_nlat
    · exact zw_slat
    · exact zw_iS
    · rcases List.mem_cons.mp hw with rfl | hw
      · exact zw_lat
      · exact hw)) rfl rfl rfl (by decide +kernel) ⟨Nat.le_of_ble_eq_true rfl, Nat.le_of_ble_eq_true rfl⟩) ⟨zt_blind _, vk_recv hP.2.2.2.2.2.1 hj hS, zt_pre0 hP hS⟩ rfl rfl hl.1 rfl (lv_room (Nat.le_of_ble_eq_true rfl)) ze_cha_1 ⟨Nat.le_refl _, Nat.le_refl _⟩) ?_
  refine lv_if_eq (pc := 4) (tgt := 16) hx hb ze_cha_4 (by decide) (fun z => absurd z (by decide)) (fun _ => ?_)
  refine lv_aload_n hx hb ze_cha_7 rfl h0 ?_
  refine vk_getf (own := "java/lang/String") (ref := "java/lang/String") hx hb (hP.2.2.2.2.2.1.1 j hj).2.2.1 hS hown (hts _ zw_fv) (fun x h => h) ze_cha_8 ?_
  refine lv_iload_n hx hb ze_cha_11 rfl h1 ?_
  refine zt_cont (W.runS (As := [.ref (adV j), .int i]) (rest := []) ⟨hx, hb, hml, hown, hts⟩ (zt_lch l hj hi) (va_cwS 2 hts (zs_good (fun w hw => by
    simp only [va_wsS, List.mem_append, List.mem_cons, List.not_mem_nil, or_false] at hw
    rcases hw with (rfl | rfl | rfl) | hw
    · exact zw_llch
    · exact zw_tlch
    · exact zw_iL
    · rcases List.mem_cons.mp hw with rfl | hw
      · exact zw_lch
      · exact hw)) rfl rfl rfl (by decide +kernel) ⟨Nat.le_of_ble_eq_true rfl, Nat.le_of_ble_eq_true rfl⟩) ⟨zt_blind _, zt_pre0 hP hS⟩ rfl rfl hl.1 rfl (lv_room (Nat.le_of_ble_eq_true rfl)) ze_cha_12 ⟨Nat.le_refl _, Nat.le_refl _⟩) ?_
  exact W.zret (ty := .char) hx hb hr e5 (fun t ht _ => ⟨rfl, ht⟩) (fun _ h => by cases h) ze_cha_15
theorem zs_S1_ok (l : Launch) (base : Nat) (ad adV : Nat → Nat) (sc : zk_X) : zs_S1 l base ad adV sc := by
  intro p e R s m args below meth c0 H locs cells slots Q cc pc arr rest ix j hx hb hown hts hP hS hdg hlk hj hfr hlo hc hsl hsz hsum k
  refine zt_cont (W.runV (own := "TwoHeapsAlike$Tape") (index := ix) (As := []) (rest := rest) ⟨hx, hb, hsz.symm, hown, hts⟩ (zt_len l hj) (cwV 0 hts (zs_good (fun w hw => by
    simp only [wsV, List.mem_append, List.mem_cons, List.not_mem_nil, or_false] at hw
    rcases hw with (rfl | rfl | rfl | rfl) | hw
    · exact hlk
    · exact zw_nlen
    · exact zw_slen
    · exact zw_iS
    · rcases List.mem_cons.mp hw with rfl | hw
      · exact zw_len
      · exact hw)) rfl rfl rfl (by decide +kernel) ⟨by show 3 + 1 ≤ _; omega, by show 8 + (1 + 11) + 60 * 3 ≤ _; omega⟩) ⟨zt_blind _, vk_recv hP.2.2.2.2.2.1 hj hS, zt_pre0 hP hS⟩ rfl rfl rfl rfl (lv_room hsum) hdg ⟨hc, hsl⟩) k
theorem zs_S2_ok (l : Launch) (base : Nat) (ad adV : Nat → Nat) (sc : zk_X) : zs_S2 l base ad adV sc := by
  intro p e R s m args below meth c0 H locs cells slots Q cc pc arr rest ix j i hx hb hown hts hP hS hdg hlk hj hi hfr hlo hc hsl hsz hsum k
  refine zt_cont (W.runV (own := "TwoHeapsAlike$Tape") (index := ix) (As := [.int i]) (rest := rest) ⟨hx, hb, hsz.symm, hown, hts⟩ (zt_cha l hj hi) (cwV 1 hts (zs_good (fun w hw => by
    simp only [wsV, List.mem_append, List.mem_cons, List.not_mem_nil, or_false] at hw
    rcases hw with (rfl | rfl | rfl | rfl) | hw
    · exact hlk
    · exact zw_ncha
    · exact zw_scha
    · exact zw_iS
    · rcases List.mem_cons.mp hw with rfl | hw
      · exact zw_cha
      · exact hw)) rfl rfl rfl (by decide +kernel) ⟨by show 7 + 1 ≤ _; omega, by show 8 + (2 + 11) + 60 * 7 ≤ _; omega⟩) ⟨zt_blind _, vk_recv hP.2.2.2.2.2.1 hj hS, zt_pre0 hP hS⟩ rfl rfl rfl rfl (lv_room hsum) hdg ⟨hc, hsl⟩) k
