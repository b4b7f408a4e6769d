/-! the instructions are what the bytes decode to, written by program -/
def zd_len (i : Instr) : Nat := match i with
  | .bipush _ => 2
  | .sipush _ => 3
  | .ldc _ => 2
  | .ldc_w _ => 3
  | .ldc2_w _ => 3
  | .iload _ => 2
  | .lload _ => 2
  | .aload _ => 2
  | .istore _ => 2
  | .lstore _ => 2
  | .astore _ => 2
  | .iinc _ _ => 3
  | .goto _ => 3
  | .ifCond _ _ => 3
  | .if_icmp _ _ => 3
  | .getstatic _ => 3
  | .getfield _ => 3
  | .putfield _ => 3
  | .invokevirtual _ => 3
  | .invokespecial _ => 3
  | .invokestatic _ => 3
  | .new _ => 3
  | .newarray _ => 2
  | .anewarray _ => 3
  | _ => 1
/-- lengths, numbers and ends of branches are as the pure machine takes them -/
def zd_ok (pc : Nat) (i : Instr) (n : Nat) : Bool := match i with
  | .bipush v => Nat.beq n 2 && decide ((Int8.ofInt v).toInt32 = Int32.ofInt v)
  | .sipush v => Nat.beq n 3 && decide ((Int16.ofInt v).toInt32 = Int32.ofInt v)
  | .goto o => Nat.beq n 3 && decide (0 ≤ (pc : Int) + o)
  | .ifCond _ o => Nat.beq n 3 && decide (0 ≤ (pc : Int) + o)
  | .if_icmp _ o => Nat.beq n 3 && decide (0 ≤ (pc : Int) + o)
  | .tableswitch d _ _ offs => decide (0 ≤ (pc : Int) + d) && offs.toList.all (fun o => decide (0 ≤ (pc : Int) + o))
  | i => Nat.beq n (zd_len i)
def zd_P (b : ByteArray) (e : Nat × Instr × Nat) : Prop := decode b e.1 = .ok (e.2.1, e.2.2) ∧ zd_ok e.1 e.2.1 e.2.2 = true
theorem zd_of {b : ByteArray} {L : List (Nat × Instr × Nat)} (h : L.all (fun e => decide (decode b e.1 = .ok (e.2.1, e.2.2)) && zd_ok e.1 e.2.1 e.2.2) = true) : ∀ e ∈ L, zd_P b e := by
  intro e he
  have h1 := List.all_eq_true.mp h e he
  simp only [Bool.and_eq_true, decide_eq_true_eq] at h1
  exact h1
theorem zd_join {b : ByteArray} (L : List (Nat × Instr × Nat)) (ps : List (Nat × Nat)) (hL : decide (L = ps.flatMap (fun p => (L.drop p.1).take p.2)) = true) (h : ∀ p ∈ ps, ∀ e ∈ (L.drop p.1).take p.2, zd_P b e) : ∀ e ∈ L, zd_P b e := by
  intro e he
  rw [of_decide_eq_true hL] at he
  obtain ⟨p, hp, hq⟩ := List.mem_flatMap.mp he
  exact h p hp e hq
