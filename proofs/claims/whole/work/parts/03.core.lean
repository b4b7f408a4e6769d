/-! THE PURE MACHINE. A state of the heap is (how many places are made, the ints by place and index, the references by place and index); a reference is a place. Places from 1000 on are not made here: 1000 the script, 1001 KIND_ABOVE, 2000 + j a text constant. -/
abbrev zk_M : Type := Nat × (Nat → Nat → Int32) × (Nat → Nat → Option Nat)
abbrev zk_O : Type := (Nat × List (Option Value) × List Value × zk_M) ⊕ (Nat × List Value × List Value) ⊕ (Option Value)
abbrev zk_X : Type := Option (Nat × (Nat → Int32))
def zk_lk : List (Nat × Instr × Nat) → Nat → Option Instr
  | [], _ => none
  | e :: t, pc => bif Nat.beq e.1 pc then some e.2.1 else zk_lk t pc
def zk_l2 : List (Nat × Nat × Nat × Nat) → Nat → Nat → Option (Nat × Nat)
  | [], _, _ => none
  | e :: t, a, b => bif Nat.beq e.1 a && Nat.beq e.2.1 b then some e.2.2 else zk_l2 t a b
def zk_l1 {α : Type} : List (Nat × Nat × α) → Nat → Nat → Option α
  | [], _, _ => none
  | e :: t, a, b => bif Nat.beq e.1 a && Nat.beq e.2.1 b then some e.2.2 else zk_l1 t a b
theorem zk_l2_mem {a b : Nat} {r : Nat × Nat} : ∀ {L : List (Nat × Nat × Nat × Nat)}, zk_l2 L a b = some r → (a, b, r) ∈ L
  | [], h => by cases h
  | e :: t, h => by
    unfold zk_l2 at h
    cases hc : (Nat.beq e.1 a && Nat.beq e.2.1 b) with
    | false => rw [hc] at h; exact List.mem_cons_of_mem _ (zk_l2_mem h)
    | true =>
      rw [hc] at h
      simp only [Bool.and_eq_true] at hc
      have h1 := Nat.eq_of_beq_eq_true hc.1
      have h2 := Nat.eq_of_beq_eq_true hc.2
      obtain ⟨x, y, z⟩ := e
      simp only at h1 h2
      subst h1; subst h2
      cases h
      exact List.mem_cons_self
theorem zk_l1_mem {α : Type} {a b : Nat} {r : α} : ∀ {L : List (Nat × Nat × α)}, zk_l1 L a b = some r → (a, b, r) ∈ L
  | [], h => by cases h
  | e :: t, h => by
    unfold zk_l1 at h
    cases hc : (Nat.beq e.1 a && Nat.beq e.2.1 b) with
    | false => rw [hc] at h; exact List.mem_cons_of_mem _ (zk_l1_mem h)
    | true =>
      rw [hc] at h
      simp only [Bool.and_eq_true] at hc
      have h1 := Nat.eq_of_beq_eq_true hc.1
      have h2 := Nat.eq_of_beq_eq_true hc.2
      obtain ⟨x, y, z⟩ := e
      simp only at h1 h2
      subst h1; subst h2
      cases h
      exact List.mem_cons_self
theorem zk_lk_mem {pc : Nat} {i : Instr} : ∀ {L : List (Nat × Instr × Nat)}, zk_lk L pc = some i → ∃ n, (pc, i, n) ∈ L
  | [], h => by cases h
  | e :: t, h => by
    unfold zk_lk at h
    cases hc : Nat.beq e.1 pc with
    | false => rw [hc] at h; obtain ⟨n, hn⟩ := zk_lk_mem h; exact ⟨n, List.mem_cons_of_mem _ hn⟩
    | true =>
      rw [hc] at h
      have h1 := Nat.eq_of_beq_eq_true hc
      obtain ⟨x, y, z⟩ := e
      simp only at h1
      subst h1
      cases h
      exact ⟨z, List.mem_cons_self⟩
def zk_fl (oi ix : Nat) : Option (Nat × Nat) := zk_l2 zk_flL oi ix
def zk_cl (oi ix : Nat) : Option (Nat × Nat) := zk_l2 zk_clL oi ix
def zk_nw (oi ix : Nat) : Option (Nat × Nat) := zk_l2 zk_nwL oi ix
def zk_ci (oi ix : Nat) : Option Int32 := zk_l1 zk_ciL oi ix
def zk_cj (oi ix : Nat) : Option Int64 := zk_l1 zk_cjL oi ix
def zk_cs (oi ix : Nat) : Option Nat := zk_l1 zk_csL oi ix
/-- a place's shape: (0, kind, fields) an object; (1, length, _) ints; (2, length, _) booleans; (3, length, kind) references -/
def zk_sh (k : Nat) : Nat × Nat × Nat := (zk_shL[k]?).getD (9, 0, 0)
/-- is a field a reference; is it final -/
def zk_fk (ci j : Nat) : Bool := ((zk_fkL[ci]?).getD [])[j]?.getD false
def zk_ff (ci j : Nat) : Bool := ((zk_ffL[ci]?).getD [])[j]?.getD false
def zk_fb (ci j : Nat) : Bool := ((zk_fbL[ci]?).getD [])[j]?.getD false
def zk_rv (r : Option Nat) : Value := match r with
  | none => .null
  | some k => .ref k
def zk_in (i : Int32) (n : Nat) : Prop := 0 ≤ i.toInt ∧ i.toInt < (n : Int)
def zk_inb (i : Int32) (n : Nat) : Bool := decide (0 ≤ i.toInt) && decide (i.toInt < (n : Int))
theorem zk_inb_iff (i : Int32) (n : Nat) : zk_inb i n = true ↔ zk_in i n := by simp [zk_inb, zk_in]
def zk_up2 {α : Type} (f : Nat → Nat → α) (k j : Nat) (v : α) : Nat → Nat → α := fun a b => if a = k ∧ b = j then v else f a b
def zk_setI (M : zk_M) (k j : Nat) (v : Int32) : zk_M := (M.1, zk_up2 M.2.1 k j v, M.2.2)
def zk_setR (M : zk_M) (k j : Nat) (v : Option Nat) : zk_M := (M.1, M.2.1, zk_up2 M.2.2 k j v)
def zk_new (M : zk_M) : zk_M := (M.1 + 1, (fun a b => if a = M.1 then 0 else M.2.1 a b), (fun a b => if a = M.1 then none else M.2.2 a b))
def zk_cpy (M : zk_M) (a sp b dp n : Nat) : zk_M := (M.1, (fun k j => if k = b ∧ dp ≤ j ∧ j < dp + n then M.2.1 a (sp + (j - dp)) else M.2.1 k j), M.2.2)
def zk_nx (pc : Nat) (ls : List (Option Value)) (st : List Value) (M : zk_M) : Option zk_O := some (.inl (pc, ls, st, M))
def zk_tg (pc : Nat) (off : Int) : Nat := ((pc : Int) + off).toNat
def zk_kab (j : Nat) : Int32 := ([-1, 0, 0, 1, 2, 0] : List Int32).getD j 0
def zk_ext (sc : zk_X) (k : Nat) : zk_X := if k = 1000 then sc else if k = 1001 then some (6, zk_kab) else none
def zk_c1 (v : Value) : Bool := match v with
  | .int _ => true
  | .ref _ => true
  | _ => false
def zk_fl2 : List Value → List (Option Value)
  | [] => []
  | .long x :: t => some (.long x) :: none :: zk_fl2 t
  | v :: t => some v :: zk_fl2 t
def zk_ent (n : Nat) (args : List Value) : List (Option Value) := zk_fl2 args ++ List.replicate (n - (zk_fl2 args).length) none
/-- longs stand at the places that the method has for them -/
def zk_lgo (L : List Nat) : Nat → List (Option Value) → Bool
  | _, [] => true
  | i, some (.long _) :: t => L.contains i && zk_lgo L (i + 1) t
  | i, some (.int _) :: t => zk_lgo L (i + 1) t
  | i, some (.ref _) :: t => zk_lgo L (i + 1) t
  | i, none :: t => zk_lgo L (i + 1) t
  | _, _ => false
def zk_mt (m : Nat) : Option zk_C := zk_mtL[m]?
def zk_okc (y : Nat) (args : List Value) : Bool := match zk_mt y with
  | none => false
  | some c => decide ((zk_fl2 args).length ≤ c.2.1) && zk_lgo c.2.2.2.1 0 (zk_fl2 args)
/-- the receiver is of the kind that the method is of -/
def zk_rcv (M : zk_M) (y : Nat) (args : List Value) : Bool := match args, zk_mt y with
  | .ref k :: _, some c => Nat.blt k M.1 && decide ((zk_sh k).1 = 0) && decide ((zk_sh k).2.1 = c.1)
  | _, _ => false
/-- how much of the stack values take -/
def zk_w : List Value → Nat
  | [] => 0
  | .int _ :: t => zk_w t + 1
  | .ref _ :: t => zk_w t + 1
  | _ :: t => zk_w t + 2
def zk_call (M : zk_M) (y n : Nat) (v : Bool) (st : List Value) : Option zk_O :=
  bif Nat.ble n st.length && Nat.ble (zk_w (st.drop n)) 8 && zk_okc y (st.take n).reverse && (bif v then zk_rcv M y (st.take n).reverse else true) then some (.inr (.inl (y, (st.take n).reverse, st.drop n))) else none
def zk_sli (L : List Nat) (i : Nat) : Bool := match i with
  | 0 => true
  | k + 1 => !(L.contains k)
def zk_cnd (k : ClassFile.Cond) (x y : Int32) : Bool := match k with
  | .eq => decide (x = y)
  | .ne => !decide (x = y)
  | .lt => decide (x < y)
  | .ge => decide (y ≤ x)
  | .gt => decide (y < x)
  | .le => decide (x ≤ y)
def zk_sw (pc : Nat) (d lo hi : Int) (offs : Array Int) (x : Int32) : Nat := if x.toInt < lo ∨ hi < x.toInt then zk_tg pc d else zk_tg pc ((offs[(x.toInt - lo).toNat]?).getD 0)
/-- one instruction -/
def zk_st (sc : zk_X) (c : zk_C) (pc : Nat) (i : Instr) (ls : List (Option Value)) (st : List Value) (M : zk_M) : Option zk_O :=
  match i with
  | .iconst n => zk_nx (pc + 1) ls (.int (Int32.ofInt n) :: st) M
  | .bipush n => zk_nx (pc + 2) ls (.int (Int32.ofInt n) :: st) M
  | .sipush n => zk_nx (pc + 3) ls (.int (Int32.ofInt n) :: st) M
  | .lconst n => zk_nx (pc + 1) ls (.long (Int64.ofNat n.val) :: st) M
  | .ldc ix => match zk_ci c.1 ix with
    | some v => zk_nx (pc + 2) ls (.int v :: st) M
    | none => match zk_cs c.1 ix with
      | some j => zk_nx (pc + 2) ls (.ref (2000 + j) :: st) M
      | none => none
  | .ldc_w ix => match zk_ci c.1 ix with
    | some v => zk_nx (pc + 3) ls (.int v :: st) M
    | none => none
  | .ldc2_w ix => match zk_cj c.1 ix with
    | some v => zk_nx (pc + 3) ls (.long v :: st) M
    | none => none
  | .iload k => match ls[k]? with
    | some (some (.int x)) => zk_nx (pc + 2) ls (.int x :: st) M
    | _ => none
  | .iload_n k => match ls[k.val]? with
    | some (some (.int x)) => zk_nx (pc + 1) ls (.int x :: st) M
    | _ => none
  | .lload k => match ls[k]? with
    | some (some (.long x)) => zk_nx (pc + 2) ls (.long x :: st) M
    | _ => none
  | .lload_n k => match ls[k.val]? with
    | some (some (.long x)) => zk_nx (pc + 1) ls (.long x :: st) M
    | _ => none
  | .aload k => match ls[k]? with
    | some (some (.ref x)) => zk_nx (pc + 2) ls (.ref x :: st) M
    | _ => none
  | .aload_n k => match ls[k.val]? with
    | some (some (.ref x)) => zk_nx (pc + 1) ls (.ref x :: st) M
    | _ => none
  | .istore k => match st with
    | .int x :: st => bif zk_sli c.2.2.2.1 k && Nat.blt k ls.length then zk_nx (pc + 2) (ls.set k (some (.int x))) st M else none
    | _ => none
  | .istore_n k => match st with
    | .int x :: st => bif zk_sli c.2.2.2.1 k.val && Nat.blt k.val ls.length then zk_nx (pc + 1) (ls.set k.val (some (.int x))) st M else none
    | _ => none
  | .lstore k => match st with
    | .long x :: st => bif zk_sli c.2.2.2.1 k && c.2.2.2.1.contains k && Nat.blt (k + 1) ls.length then zk_nx (pc + 2) ((ls.set k (some (.long x))).set (k + 1) none) st M else none
    | _ => none
  | .lstore_n k => match st with
    | .long x :: st => bif zk_sli c.2.2.2.1 k.val && c.2.2.2.1.contains k.val && Nat.blt (k.val + 1) ls.length then zk_nx (pc + 1) ((ls.set k.val (some (.long x))).set (k.val + 1) none) st M else none
    | _ => none
  | .astore k => match st with
    | .ref x :: st => bif zk_sli c.2.2.2.1 k && Nat.blt k ls.length then zk_nx (pc + 2) (ls.set k (some (.ref x))) st M else none
    | _ => none
  | .astore_n k => match st with
    | .ref x :: st => bif zk_sli c.2.2.2.1 k.val && Nat.blt k.val ls.length then zk_nx (pc + 1) (ls.set k.val (some (.ref x))) st M else none
    | _ => none
  | .iinc k n => match ls[k]? with
    | some (some (.int x)) => bif zk_sli c.2.2.2.1 k then zk_nx (pc + 3) (ls.set k (some (.int (x + Int32.ofInt n)))) st M else none
    | _ => none
  | .iadd => match st with
    | .int y :: .int x :: st => zk_nx (pc + 1) ls (.int (x + y) :: st) M
    | _ => none
  | .isub => match st with
    | .int y :: .int x :: st => zk_nx (pc + 1) ls (.int (x - y) :: st) M
    | _ => none
  | .imul => match st with
    | .int y :: .int x :: st => zk_nx (pc + 1) ls (.int (x * y) :: st) M
    | _ => none
  | .iand => match st with
    | .int y :: .int x :: st => zk_nx (pc + 1) ls (.int (x &&& y) :: st) M
    | _ => none
  | .ior => match st with
    | .int y :: .int x :: st => zk_nx (pc + 1) ls (.int (x ||| y) :: st) M
    | _ => none
  | .ixor => match st with
    | .int y :: .int x :: st => zk_nx (pc + 1) ls (.int (x ^^^ y) :: st) M
    | _ => none
  | .ishl => match st with
    | .int y :: .int x :: st => zk_nx (pc + 1) ls (.int (x <<< (y &&& 31)) :: st) M
    | _ => none
  | .ishr => match st with
    | .int y :: .int x :: st => zk_nx (pc + 1) ls (.int (x >>> (y &&& 31)) :: st) M
    | _ => none
  | .iushr => match st with
    | .int y :: .int x :: st => zk_nx (pc + 1) ls (.int (x.toUInt32 >>> (y.toUInt32 &&& Int32.toUInt32 31)).toInt32 :: st) M
    | _ => none
  | .idiv => match st with
    | .int y :: .int x :: st => if ¬ y = 0 then zk_nx (pc + 1) ls (.int (x / y) :: st) M else none
    | _ => none
  | .irem => match st with
    | .int y :: .int x :: st => if ¬ y = 0 then zk_nx (pc + 1) ls (.int (x - x / y * y) :: st) M else none
    | _ => none
  | .ineg => match st with
    | .int x :: st => zk_nx (pc + 1) ls (.int (-x) :: st) M
    | _ => none
  | .ladd => match st with
    | .long y :: .long x :: st => zk_nx (pc + 1) ls (.long (x + y) :: st) M
    | _ => none
  | .lsub => match st with
    | .long y :: .long x :: st => zk_nx (pc + 1) ls (.long (x - y) :: st) M
    | _ => none
  | .lmul => match st with
    | .long y :: .long x :: st => zk_nx (pc + 1) ls (.long (x * y) :: st) M
    | _ => none
  | .ldiv => match st with
    | .long y :: .long x :: st => if ¬ y = 0 then zk_nx (pc + 1) ls (.long (x / y) :: st) M else none
    | _ => none
  | .lrem => match st with
    | .long y :: .long x :: st => if ¬ y = 0 then zk_nx (pc + 1) ls (.long (x - x / y * y) :: st) M else none
    | _ => none
  | .lcmp => match st with
    | .long y :: .long x :: st => zk_nx (pc + 1) ls (.int (lg_cmp x y) :: st) M
    | _ => none
  | .i2l => match st with
    | .int x :: st => zk_nx (pc + 1) ls (.long x.toInt64 :: st) M
    | _ => none
  | .i2b => match st with
    | .int x :: st => zk_nx (pc + 1) ls (.int x.toInt8.toInt32 :: st) M
    | _ => none
  | .i2s => match st with
    | .int x :: st => zk_nx (pc + 1) ls (.int x.toInt16.toInt32 :: st) M
    | _ => none
  | .dup => match st with
    | v :: st => bif zk_c1 v then zk_nx (pc + 1) ls (v :: v :: st) M else none
    | _ => none
  | .dup2 => match st with
    | v :: w :: st => bif zk_c1 v && zk_c1 w then zk_nx (pc + 1) ls (v :: w :: v :: w :: st) M else none
    | _ => none
  | .pop => match st with
    | v :: st => bif zk_c1 v then zk_nx (pc + 1) ls st M else none
    | _ => none
  | .goto o => zk_nx (zk_tg pc o) ls st M
  | .ifCond k o => match st with
    | .int x :: st => if zk_cnd k x 0 = true then zk_nx (zk_tg pc o) ls st M else zk_nx (pc + 3) ls st M
    | _ => none
  | .if_icmp k o => match st with
    | .int y :: .int x :: st => if zk_cnd k x y = true then zk_nx (zk_tg pc o) ls st M else zk_nx (pc + 3) ls st M
    | _ => none
  | .tableswitch d lo hi offs => match st with
    | .int x :: st => if x.toInt < lo ∨ hi < x.toInt ∨ (x.toInt - lo).toNat < offs.size then zk_nx (zk_sw pc d lo hi offs x) ls st M else none
    | _ => none
  | .getfield ix => match st with
    | .ref k :: st => match zk_fl c.1 ix with
      | some (ci, j) => if Nat.blt k M.1 = true ∧ (zk_sh k).1 = 0 ∧ (zk_sh k).2.1 = ci then zk_nx (pc + 3) ls ((bif zk_fk ci j then zk_rv (M.2.2 k j) else .int (M.2.1 k j)) :: st) M else none
      | none => none
    | _ => none
  | .putfield ix => match st with
    | .int v :: .ref k :: st => match zk_fl c.1 ix with
      | some (ci, j) => if Nat.blt k M.1 = true ∧ (zk_sh k).1 = 0 ∧ (zk_sh k).2.1 = ci ∧ zk_fk ci j = false ∧ zk_ff ci j = false ∧ (zk_fb ci j = false ∨ v = 0 ∨ v = 1) then zk_nx (pc + 3) ls st (zk_setI M k j v) else none
      | none => none
    | .ref r :: .ref k :: st => match zk_fl c.1 ix with
      | some (ci, j) => if Nat.blt k M.1 = true ∧ (zk_sh k).1 = 0 ∧ (zk_sh k).2.1 = ci ∧ zk_fk ci j = true ∧ (zk_ff ci j = false ∨ (c.2.2.2.2.1 = true ∧ c.1 = ci)) ∧ Nat.blt r M.1 = true then zk_nx (pc + 3) ls st (zk_setR M k j (some r)) else none
      | none => none
    | _ => none
  | .getstatic ix => bif Nat.beq c.1 0 && Nat.beq ix 310 then zk_nx (pc + 3) ls (.ref 1001 :: st) M else none
  | .arraylength => match st with
    | .ref k :: st => if Nat.blt k M.1 = true ∧ 1 ≤ (zk_sh k).1 ∧ (zk_sh k).1 ≤ 3 then zk_nx (pc + 1) ls (.int (Int32.ofNat (zk_sh k).2.1) :: st) M else if Nat.ble M.1 k = true then match zk_ext sc k with
        | some e => zk_nx (pc + 1) ls (.int (Int32.ofNat e.1) :: st) M
        | none => none
      else none
    | _ => none
  | .iaload => match st with
    | .int i :: .ref k :: st => if Nat.blt k M.1 = true ∧ (zk_sh k).1 = 1 ∧ zk_inb i (zk_sh k).2.1 = true then zk_nx (pc + 1) ls (.int (M.2.1 k i.toNatClampNeg) :: st) M else if Nat.ble M.1 k = true then match zk_ext sc k with
        | some e => bif zk_inb i e.1 then zk_nx (pc + 1) ls (.int (e.2 i.toNatClampNeg) :: st) M else none
        | none => none
      else none
    | _ => none
  | .baload => match st with
    | .int i :: .ref k :: st => if Nat.blt k M.1 = true ∧ (zk_sh k).1 = 2 ∧ zk_inb i (zk_sh k).2.1 = true then zk_nx (pc + 1) ls (.int (M.2.1 k i.toNatClampNeg) :: st) M else none
    | _ => none
  | .aaload => match st with
    | .int i :: .ref k :: st => if Nat.blt k M.1 = true ∧ (zk_sh k).1 = 3 ∧ zk_inb i (zk_sh k).2.1 = true then zk_nx (pc + 1) ls (zk_rv (M.2.2 k i.toNatClampNeg) :: st) M else none
    | _ => none
  | .iastore => match st with
    | .int v :: .int i :: .ref k :: st => if Nat.blt k M.1 = true ∧ (zk_sh k).1 = 1 ∧ zk_inb i (zk_sh k).2.1 = true then zk_nx (pc + 1) ls st (zk_setI M k i.toNatClampNeg v) else none
    | _ => none
  | .bastore => match st with
    | .int v :: .int i :: .ref k :: st => if Nat.blt k M.1 = true ∧ (zk_sh k).1 = 2 ∧ zk_inb i (zk_sh k).2.1 = true then zk_nx (pc + 1) ls st (zk_setI M k i.toNatClampNeg (vp_nar .boolean v)) else none
    | _ => none
  | .aastore => match st with
    | .ref r :: .int i :: .ref k :: st => if Nat.blt k M.1 = true ∧ (zk_sh k).1 = 3 ∧ zk_inb i (zk_sh k).2.1 = true ∧ Nat.blt r M.1 = true ∧ (zk_sh r).1 = 0 ∧ (zk_sh r).2.1 = (zk_sh k).2.2 then zk_nx (pc + 1) ls st (zk_setR M k i.toNatClampNeg (some r)) else none
    | _ => none
  | .new ix => match zk_nw c.1 ix with
    | some (ci, n) => if zk_sh M.1 = (0, ci, n) then zk_nx (pc + 3) ls (.ref M.1 :: st) (zk_new M) else none
    | none => none
  | .newarray t => match st with
    | .int n :: st => if zk_sh M.1 = ((match t with | .int => 1 | .boolean => 2 | _ => 8), n.toNatClampNeg, 0) ∧ zk_inb n 5000 = true then zk_nx (pc + 2) ls (.ref M.1 :: st) (zk_new M) else none
    | _ => none
  | .anewarray ix => match st with
    | .int n :: st => match zk_nw c.1 ix with
      | some (ci, _) => if zk_sh M.1 = (3, n.toNatClampNeg, ci) ∧ zk_inb n 5000 = true ∧ (ci = 2 ∨ ci = 5) then zk_nx (pc + 3) ls (.ref M.1 :: st) (zk_new M) else none
      | none => none
    | _ => none
  | .invokevirtual ix => match zk_cl c.1 ix with
    | some (0, y) => zk_call M y (zk_na y) true st
    | some (9, _) => match st with
      | .ref k :: st => bif Nat.ble 2000 k && Nat.blt k 2012 && Nat.ble st.length 4 then zk_nx (pc + 3) ls (.int (zk_sln (k - 2000)) :: st) M else none
      | _ => none
    | some (10, _) => match st with
      | .int i :: .ref k :: st => if (Nat.ble 2000 k = true ∧ Nat.blt k 2012 = true) ∧ st.length ≤ 4 ∧ zk_inb i (zk_sle (k - 2000)) = true then zk_nx (pc + 3) ls (.int (zk_sch (k - 2000) i.toNatClampNeg) :: st) M else none
      | _ => none
    | _ => none
  | .invokestatic ix => match zk_cl c.1 ix with
    | some (1, y) => zk_call M y (zk_na y) false st
    | some (5, _) => match st with
      | .int y :: .int x :: st => bif Nat.ble st.length 4 then zk_nx (pc + 3) ls (.int (if x < y then y else x) :: st) M else none
      | _ => none
    | some (6, _) => match st with
      | .int y :: .int x :: st => bif Nat.ble st.length 4 then zk_nx (pc + 3) ls (.int (if y < x then y else x) :: st) M else none
      | _ => none
    | some (7, _) => match st with
      | .int x :: st => bif Nat.ble st.length 4 then zk_nx (pc + 3) ls (.int (if 0 ≤ x then x else 0 - x) :: st) M else none
      | _ => none
    | some (8, _) => match st with
      | .int n :: .int dp :: .ref b :: .int sp :: .ref a :: st => if (Nat.ble 83 M.1 = true ∧ Nat.blt a M.1 = true ∧ Nat.blt b M.1 = true ∧ (zk_sh a).1 = 1 ∧ (zk_sh b).1 = 1) ∧ st.length ≤ 4 ∧ 0 ≤ n.toInt ∧ 0 ≤ sp.toInt ∧ 0 ≤ dp.toInt ∧ sp.toInt + n.toInt ≤ (zk_sh a).2.1 ∧ dp.toInt + n.toInt ≤ (zk_sh b).2.1 then zk_nx (pc + 3) ls st (zk_cpy M a sp.toNatClampNeg b dp.toNatClampNeg n.toNatClampNeg) else none
      | _ => none
    | _ => none
  | .invokespecial ix => match zk_cl c.1 ix with
    | some (2, y) => zk_call M y 1 true st
    | some (3, y) => zk_call M y 1 true st
    | some (4, _) => match st with
      | .ref k :: st => if Nat.blt k M.1 = true ∧ st.length ≤ 4 then zk_nx (pc + 3) ls st M else none
      | _ => none
    | _ => none
  | .ireturn => match st with
    | [.int v] => bif Nat.beq c.2.2.1 1 then some (.inr (.inr (some (.int v)))) else if Nat.beq c.2.2.1 2 = true ∧ (v = 0 ∨ v = 1) then some (.inr (.inr (some (.int v)))) else none
    | _ => none
  | .lreturn => match st with
    | [.long v] => bif Nat.beq c.2.2.1 3 then some (.inr (.inr (some (.long v)))) else none
    | _ => none
  | .areturn => match st with
    | [.ref k] => bif Nat.beq c.2.2.1 4 then some (.inr (.inr (some (.ref k)))) else none
    | _ => none
  | .return_ => match st with
    | [] => bif Nat.beq c.2.2.1 0 then some (.inr (.inr none)) else none
    | _ => none
  | _ => none
/-- the run of a method from a place in its code: fuel, depth -/
def zk_run (sc : zk_X) : Nat → Nat → Nat → Nat → List (Option Value) → List Value → zk_M → Option (Option Value × zk_M)
  | 0, _, _, _, _, _, _ => none
  | n + 1, d, m, pc, ls, st, M => match zk_mt m with
    | none => none
    | some c => match zk_lk c.2.2.2.2.2 pc with
      | none => none
      | some i => match zk_st sc c pc i ls st M with
        | none => none
        | some (.inl (pc', ls', st', M')) => zk_run sc n d m pc' ls' st' M'
        | some (.inr (.inr r)) => some (r, M)
        | some (.inr (.inl (y, args, rest))) => match d with
          | 0 => none
          | d + 1 => match zk_mt y with
            | none => none
            | some cy => match zk_run sc n d y 0 (zk_ent cy.2.1 args) [] M with
              | none => none
              | some (r, M') => zk_run sc n (d + 1) m (pc + 3) ls (r.toList ++ rest) M'
theorem zk_mono (sc : zk_X) : ∀ (n d m pc : Nat) (ls : List (Option Value)) (st : List Value) (M : zk_M) (x : Option Value × zk_M), zk_run sc n d m pc ls st M = some x → zk_run sc (n + 1) d m pc ls st M = some x := by
  intro n
  induction n with
  | zero => intro d m pc ls st M x h; cases h
  | succ n ih =>
    intro d m pc ls st M x h
    rw [zk_run] at h
    rw [zk_run]
    cases h1 : zk_mt m with
    | none => simp only [h1] at h; cases h
    | some c =>
      simp only [h1] at h ⊢
      cases h2 : zk_lk c.2.2.2.2.2 pc with
      | none => simp only [h2] at h; cases h
      | some i =>
        simp only [h2] at h ⊢
        cases h3 : zk_st sc c pc i ls st M with
        | none => simp only [h3] at h; cases h
        | some o =>
          simp only [h3] at h ⊢
          rcases o with ⟨pc', ls', st', M'⟩ | ⟨y, args, rest⟩ | r
          · exact ih _ _ _ _ _ _ _ h
          · cases d with
            | zero => cases h
            | succ d =>
              simp only at h ⊢
              cases h4 : zk_mt y with
              | none => simp only [h4] at h; cases h
              | some cy =>
                simp only [h4] at h ⊢
                cases h5 : zk_run sc n d y 0 (zk_ent cy.2.1 args) [] M with
                | none => simp only [h5] at h; cases h
                | some z =>
                  obtain ⟨r, M'⟩ := z
                  simp only [h5] at h
                  rw [ih _ _ _ _ _ _ _ h5]
                  exact ih _ _ _ _ _ _ _ h
          · exact h
theorem zk_mono' (sc : zk_X) {n k d m pc : Nat} {ls : List (Option Value)} {st : List Value} {M : zk_M} {x : Option Value × zk_M} (h : zk_run sc n d m pc ls st M = some x) (hk : n ≤ k) : zk_run sc k d m pc ls st M = some x := by
  induction hk with
  | refl => exact h
  | step _ ih => exact zk_mono _ _ _ _ _ _ _ _ _ ih
/-- the method comes to its end, with P -/
def zk_R (sc : zk_X) (d m pc : Nat) (ls : List (Option Value)) (st : List Value) (M : zk_M) (P : Option Value → zk_M → Prop) : Prop := ∃ (n : Nat) (r : Option Value) (M' : zk_M), zk_run sc n d m pc ls st M = some (r, M') ∧ P r M'
theorem zk_R_mono {sc : zk_X} {d m pc : Nat} {ls : List (Option Value)} {st : List Value} {M : zk_M} {P P' : Option Value → zk_M → Prop} (h : zk_R sc d m pc ls st M P) (hP : ∀ r M', P r M' → P' r M') : zk_R sc d m pc ls st M P' := by
  obtain ⟨n, r, M', h1, h2⟩ := h
  exact ⟨n, r, M', h1, hP _ _ h2⟩
section RR
variable {sc : zk_X} {d m pc : Nat} {ls : List (Option Value)} {st : List Value} {M : zk_M} {P : Option Value → zk_M → Prop} {c : zk_C} {i : Instr}
theorem zk_R_nx (hm : zk_mt m = some c) (hi : zk_lk c.2.2.2.2.2 pc = some i) {pc' : Nat} {ls' : List (Option Value)} {st' : List Value} {M' : zk_M} (hs : zk_st sc c pc i ls st M = some (.inl (pc', ls', st', M'))) : zk_R sc d m pc ls st M P = zk_R sc d m pc' ls' st' M' P := by
  apply propext
  constructor
  · rintro ⟨n, r, M1, h1, h2⟩
    cases n with
    | zero => cases h1
    | succ n =>
      rw [zk_run] at h1
      simp only [hm, hi, hs] at h1
      exact ⟨n, r, M1, h1, h2⟩
  · rintro ⟨n, r, M1, h1, h2⟩
    refine ⟨n + 1, r, M1, ?_, h2⟩
    rw [zk_run]
    simp only [hm, hi, hs]
    exact h1
theorem zk_R_no (hm : zk_mt m = some c) (hi : zk_lk c.2.2.2.2.2 pc = some i) (hs : zk_st sc c pc i ls st M = none) : zk_R sc d m pc ls st M P = False := by
  apply propext
  constructor
  · rintro ⟨n, r, M1, h1, h2⟩
    cases n with
    | zero => cases h1
    | succ n =>
      rw [zk_run] at h1
      simp only [hm, hi, hs] at h1
      cases h1
  · exact False.elim
theorem zk_R_if {g : Prop} [Decidable g] (hm : zk_mt m = some c) (hi : zk_lk c.2.2.2.2.2 pc = some i) {pc' : Nat} {ls' : List (Option Value)} {st' : List Value} {M' : zk_M} (hs : zk_st sc c pc i ls st M = if g then zk_nx pc' ls' st' M' else none) : zk_R sc d m pc ls st M P = (g ∧ zk_R sc d m pc' ls' st' M' P) := by
  by_cases h : g
  · rw [if_pos h] at hs
    rw [zk_R_nx hm hi hs]
    simp [h]
  · rw [if_neg h] at hs
    rw [zk_R_no hm hi hs]
    simp [h]
theorem zk_R_br {g : Prop} [Decidable g] (hm : zk_mt m = some c) (hi : zk_lk c.2.2.2.2.2 pc = some i) {pc' pc2 : Nat} {ls' ls2 : List (Option Value)} {st' st2 : List Value} {M' M2 : zk_M} (hs : zk_st sc c pc i ls st M = if g then zk_nx pc' ls' st' M' else zk_nx pc2 ls2 st2 M2) : zk_R sc d m pc ls st M P = if g then zk_R sc d m pc' ls' st' M' P else zk_R sc d m pc2 ls2 st2 M2 P := by
  by_cases h : g
  · rw [if_pos h] at hs ⊢
    exact zk_R_nx hm hi hs
  · rw [if_neg h] at hs ⊢
    exact zk_R_nx hm hi hs
theorem zk_R_rt (hm : zk_mt m = some c) (hi : zk_lk c.2.2.2.2.2 pc = some i) {r : Option Value} (hs : zk_st sc c pc i ls st M = some (.inr (.inr r))) : zk_R sc d m pc ls st M P = P r M := by
  apply propext
  constructor
  · rintro ⟨n, r', M1, h1, h2⟩
    cases n with
    | zero => cases h1
    | succ n =>
      rw [zk_run] at h1
      simp only [hm, hi, hs] at h1
      cases h1
      exact h2
  · intro h
    refine ⟨1, r, M, ?_, h⟩
    rw [zk_run]
    simp only [hm, hi, hs]
theorem zk_R_rg {g : Prop} [Decidable g] (hm : zk_mt m = some c) (hi : zk_lk c.2.2.2.2.2 pc = some i) {r : Option Value} (hs : zk_st sc c pc i ls st M = if g then some (.inr (.inr r)) else none) : zk_R sc d m pc ls st M P = (g ∧ P r M) := by
  by_cases h : g
  · rw [if_pos h] at hs
    rw [zk_R_rt hm hi hs]
    simp [h]
  · rw [if_neg h] at hs
    rw [zk_R_no hm hi hs]
    simp [h]
theorem zk_R_ca (hm : zk_mt m = some c) (hi : zk_lk c.2.2.2.2.2 pc = some i) {y : Nat} {args rest : List Value} {cy : zk_C} (hs : zk_st sc c pc i ls st M = some (.inr (.inl (y, args, rest)))) (hy : zk_mt y = some cy) : zk_R sc (d + 1) m pc ls st M P = zk_R sc d y 0 (zk_ent cy.2.1 args) [] M (fun r M' => zk_R sc (d + 1) m (pc + 3) ls (r.toList ++ rest) M' P) := by
  apply propext
  constructor
  · rintro ⟨n, r, M1, h1, h2⟩
    cases n with
    | zero => cases h1
    | succ n =>
      rw [zk_run] at h1
      simp only [hm, hi, hs, hy] at h1
      cases h5 : zk_run sc n d y 0 (zk_ent cy.2.1 args) [] M with
      | none => simp only [h5] at h1; cases h1
      | some z =>
        obtain ⟨r1, M'⟩ := z
        simp only [h5] at h1
        exact ⟨n, r1, M', h5, n, r, M1, h1, h2⟩
  · rintro ⟨n, r1, M', h5, k, r, M1, h1, h2⟩
    refine ⟨max n k + 1, r, M1, ?_, h2⟩
    rw [zk_run]
    simp only [hm, hi, hs, hy]
    rw [zk_mono' sc h5 (Nat.le_max_left n k)]
    exact zk_mono' sc h1 (Nat.le_max_right n k)
theorem zk_R_cg {g : Bool} (hm : zk_mt m = some c) (hi : zk_lk c.2.2.2.2.2 pc = some i) {y : Nat} {args rest : List Value} {cy : zk_C} (hs : zk_st sc c pc i ls st M = bif g then some (.inr (.inl (y, args, rest))) else none) (hy : zk_mt y = some cy) : zk_R sc (d + 1) m pc ls st M P = (g = true ∧ zk_R sc d y 0 (zk_ent cy.2.1 args) [] M (fun r M' => zk_R sc (d + 1) m (pc + 3) ls (r.toList ++ rest) M' P)) := by
  cases g with
  | true => rw [zk_R_ca hm hi hs hy]; simp
  | false => rw [zk_R_no hm hi hs]; simp
end RR
