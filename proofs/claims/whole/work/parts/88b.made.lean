/-! once both objects are made, before the reference reads its first text: a closed run, checked by the kernel -/
def zc_law : List Nat := [99, 111, 117, 110, 116, 115, 32, 110, 117, 109, 98, 101, 114, 32, 59, 32, 109, 111, 118, 101, 115, 32, 49, 32, 59, 32, 97, 115, 107, 115, 32, 49, 32, 59]
def zc_B (j : Nat) : Nat := zc_law.getD j 0
def zc_ints : List (Nat × Nat × Int32) := [(0, 5, 1), (0, 2, 0), (1, 4, 0), (1, 5, 0), (11, 1, 0), (60, 0, 0), (60, 6, 34), (60, 9, 0), (60, 10, 0), (60, 11, 0), (29, 0, (-1)), (29, 1, 1), (29, 2, 1), (30, 0, 1), (30, 1, 2), (30, 2, 3), (69, 0, (-1)), (52, 1, (-1)), (52, 2, 0), (70, 0, 0), (69, 1, (-1)), (54, 1, (-1)), (54, 2, 0), (70, 1, 0), (69, 2, (-1)), (56, 1, (-1)), (56, 2, 0), (70, 2, 0), (69, 3, (-1)), (58, 1, (-1)), (58, 2, 0), (70, 3, 0)]
def zc_M0 : zk_M := (0, fun _ _ => 0, fun _ _ => none)
def zc_a : Option (Nat × List (Option Value) × List Value × zk_M) := zk_go none 3000 12 30 900 217 0 [some (.ref (1000 : Nat)), none, none, none] [] zc_M0
def zc_b : Option (Nat × List (Option Value) × List Value × zk_M) := match zc_a with
  | some (_, _, _, M) => zk_go none 3000 1004 3000 899 126 0 [some (.ref (60 : Nat)), none] [] M
  | none => none
def zc_ckA : Bool := match zc_a with
  | some (pc, ls, st, M) => decide (pc = 12) && (decide (ls = [some (.ref (1000 : Nat)), some (.ref (0 : Nat)), none, none]) && (decide (st = [.ref (60 : Nat), .ref (60 : Nat)]) && decide (M.1 = 61)))
  | none => false
def zc_ckB : Bool := match zc_b with
  | some (pc, ls, st, M) => decide (pc = 1004) && (decide (ls = [some (.ref (60 : Nat)), some (.int 34)]) && (decide (st = [.ref (60 : Nat)]) && (decide (M.1 = 83) && ((List.range 83).all (fun k => (List.range (zbdd k)).all (fun j => decide (M.2.2 k j = zk_rf none k j))) && (zc_ints.all (fun e => decide (M.2.1 e.1 e.2.1 = e.2.2)) && ((List.range 34).all (fun j => decide (M.2.1 65 j = nI (zc_B j))) && (List.range 96).all (fun j => decide (M.2.1 73 j = zw_list.getD j 0))))))))
  | none => false
set_option maxRecDepth 100000 in
theorem zc_okA : zc_ckA = true := by decide +kernel
set_option maxRecDepth 100000 in
theorem zc_okB : zc_ckB = true := by decide +kernel
