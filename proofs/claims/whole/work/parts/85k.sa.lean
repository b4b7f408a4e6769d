/-! signs that wait: how the reference reads a law, without memory -/
abbrev zqa (m : Nat) (B : Nat → Nat) (p : Nat) : Nat := zsk m B 160 p
abbrev zqb (m : Nat) (B : Nat → Nat) (p : Nat) : Nat := zye m B (zsk m B 160 p)
abbrev zqc (m : Nat) (B : Nat → Nat) (p : Nat) : Nat := zyc m B (zsk m B 160 p)
def zrk (s : Nat) : Nat := if s = 0 then 0 else if s = 10018 then 1 else if s = 10017 then 2 else if s = 10011 then 3 else if s = 10015 ∨ s = 10016 then 4 else if s = 10013 ∨ s = 10014 then 5 else if s = 10012 then 6 else 7
def zhdr (H : List Nat) : Nat := zrk (H.headD 0)
def zo1 (s : Nat) : Nat := if s = 0 ∨ s = 10010 ∨ s = 10011 then 1 else 0
def zon : List Nat → Nat
  | [] => 0
  | s :: H => zon H + zo1 s
def zun (l : Nat) : List Nat → List Nat → List Nat × List Nat
  | [], O => ([], O)
  | s :: H, O => if l ≤ zrk s then zun l H (O ++ [s]) else (s :: H, O)
/-- the sign between two that a token is -/
def zsn (c : Nat) : Nat := if c = 3 then 10018 else if c = 4 then 10017 else if c = 60 then 10015 else if c = 61 then 10016 else if c = 43 then 10013 else if c = 45 then 10014 else if c = 42 then 10012 else 0
abbrev zS := Nat × Nat × List Nat × List Nat
def zflt (a : Nat) : zS := (3, a, [], [])
def zpar (b : Nat) (u : List Nat × List Nat) (a : Nat) : zS := match u.1 with
  | [] => zflt a
  | _ :: H => (2, b, (zun 7 H u.2).1, (zun 7 H u.2).2)
def zstp (m : Nat) (B : Nat → Nat) (S : zS) : zS :=
  if 3 ≤ S.1 then S
  else if S.1 < 2 then
    (if 1000 ≤ zqc m B S.2.1 then (2, zqb m B S.2.1, (zun 7 S.2.2.1 (S.2.2.2 ++ [zqc m B S.2.1 - 1000])).1, (zun 7 S.2.2.1 (S.2.2.2 ++ [zqc m B S.2.1 - 1000])).2)
    else if zqc m B S.2.1 = 5 ∧ S.1 = 0 then (if zon S.2.2.1 = 5 then zflt (zqa m B S.2.1) else (0, zqb m B S.2.1, 10011 :: S.2.2.1, S.2.2.2))
    else if zqc m B S.2.1 = 45 then (if zon S.2.2.1 = 5 then zflt (zqa m B S.2.1) else (1, zqb m B S.2.1, 10010 :: S.2.2.1, S.2.2.2))
    else if zqc m B S.2.1 = 40 then (if zon S.2.2.1 = 5 then zflt (zqa m B S.2.1) else (0, zqb m B S.2.1, 0 :: S.2.2.1, S.2.2.2))
    else zflt (zqa m B S.2.1))
  else if zqc m B S.2.1 = 59 then (if (zun 1 S.2.2.1 S.2.2.2).1 = [] then (4, zqb m B S.2.1, [], (zun 1 S.2.2.1 S.2.2.2).2) else zflt (zqa m B S.2.1))
  else if zqc m B S.2.1 = 41 then zpar (zqb m B S.2.1) (zun 1 S.2.2.1 S.2.2.2) (zqa m B S.2.1)
  else if zsn (zqc m B S.2.1) = 0 then zflt (zqa m B S.2.1)
  else if zrk (zsn (zqc m B S.2.1)) = 4 ∧ zhdr (zun (if zrk (zsn (zqc m B S.2.1)) = 4 then 5 else zrk (zsn (zqc m B S.2.1))) S.2.2.1 S.2.2.2).1 = 4 then zflt (zqa m B S.2.1)
  else ((if zrk (zsn (zqc m B S.2.1)) < 3 then 0 else 1), zqb m B S.2.1, zsn (zqc m B S.2.1) :: (zun (if zrk (zsn (zqc m B S.2.1)) = 4 then 5 else zrk (zsn (zqc m B S.2.1))) S.2.2.1 S.2.2.2).1, (zun (if zrk (zsn (zqc m B S.2.1)) = 4 then 5 else zrk (zsn (zqc m B S.2.1))) S.2.2.1 S.2.2.2).2)
def zit (m : Nat) (B : Nat → Nat) : Nat → zS → zS
  | 0, S => S
  | k + 1, S => zit m B k (zstp m B S)
def zrch (m : Nat) (B : Nat → Nat) (S S' : zS) : Prop := ∃ k, zit m B k S = S'
theorem zit_add {m : Nat} {B : Nat → Nat} : ∀ k l S, zit m B (k + l) S = zit m B l (zit m B k S)
  | 0, l, S => by rw [Nat.zero_add]; rfl
  | k + 1, l, S => by
    rw [show k + 1 + l = (k + l) + 1 by omega]
    exact zit_add k l _
theorem zrch.refl {m : Nat} {B : Nat → Nat} (S : zS) : zrch m B S S := ⟨0, rfl⟩
theorem zrch.trans {m : Nat} {B : Nat → Nat} {S S' S'' : zS} (h : zrch m B S S') (g : zrch m B S' S'') : zrch m B S S'' := by
  obtain ⟨k, hk⟩ := h
  obtain ⟨l, hl⟩ := g
  exact ⟨k + l, by rw [zit_add, hk, hl]⟩
theorem zrch.one {m : Nat} {B : Nat → Nat} {S S' : zS} (h : zstp m B S = S') : zrch m B S S' := ⟨1, h⟩
theorem zrch.then {m : Nat} {B : Nat → Nat} {S S' S'' : zS} (h : zrch m B S S') (g : zstp m B S' = S'') : zrch m B S S'' := h.trans (zrch.one g)
theorem zstp_fin {m : Nat} {B : Nat → Nat} {S : zS} (h : 3 ≤ S.1) : zstp m B S = S := by unfold zstp; rw [if_pos h]
theorem zit_fin {m : Nat} {B : Nat → Nat} : ∀ k S, 3 ≤ S.1 → zit m B k S = S
  | 0, S, _ => rfl
  | k + 1, S, h => by
    rw [zit, zstp_fin h]
    exact zit_fin k S h
theorem zrch.uniq {m : Nat} {B : Nat → Nat} {S A C : zS} (h : zrch m B S A) (g : zrch m B S C) (ha : 3 ≤ A.1) (hc : 3 ≤ C.1) : A = C := by
  obtain ⟨k, hk⟩ := h
  obtain ⟨l, hl⟩ := g
  have e1 : zit m B (k + l) S = A := by rw [zit_add, hk, zit_fin l A ha]
  have e2 : zit m B (k + l) S = C := by rw [Nat.add_comm, zit_add, hl, zit_fin k C hc]
  rw [← e1, e2]
/-! steps -/
theorem zst_val {m md p : Nat} {B : Nat → Nat} {H O : List Nat} (h : md < 2) (c : 1000 ≤ zqc m B p) : zstp m B (md, p, H, O) = (2, zqb m B p, (zun 7 H (O ++ [zqc m B p - 1000])).1, (zun 7 H (O ++ [zqc m B p - 1000])).2) := by
  unfold zstp
  rw [if_neg (show ¬ 3 ≤ md by omega), if_pos h, if_pos c]
theorem zst_not {m p : Nat} {B : Nat → Nat} {H O : List Nat} (c : zqc m B p = 5) (ho : ¬ zon H = 5) : zstp m B (0, p, H, O) = (0, zqb m B p, 10011 :: H, O) := by
  unfold zstp
  rw [if_neg (by show ¬ 3 ≤ 0; decide), if_pos (by show 0 < 2; decide), if_neg (by show ¬ 1000 ≤ zqc m B p; omega), if_pos ⟨c, rfl⟩, if_neg ho]
theorem zst_not5 {m p : Nat} {B : Nat → Nat} {H O : List Nat} (c : zqc m B p = 5) (ho : zon H = 5) : zstp m B (0, p, H, O) = zflt (zqa m B p) := by
  unfold zstp
  rw [if_neg (by show ¬ 3 ≤ 0; decide), if_pos (by show 0 < 2; decide), if_neg (by show ¬ 1000 ≤ zqc m B p; omega), if_pos ⟨c, rfl⟩, if_pos ho]
theorem zst_neg {m md p : Nat} {B : Nat → Nat} {H O : List Nat} (h : md < 2) (c : zqc m B p = 45) (ho : ¬ zon H = 5) : zstp m B (md, p, H, O) = (1, zqb m B p, 10010 :: H, O) := by
  unfold zstp
  rw [if_neg (show ¬ 3 ≤ md by omega), if_pos h, if_neg (by show ¬ 1000 ≤ zqc m B p; omega), if_neg (by show ¬ (zqc m B p = 5 ∧ _); omega), if_pos c, if_neg ho]
theorem zst_neg5 {m md p : Nat} {B : Nat → Nat} {H O : List Nat} (h : md < 2) (c : zqc m B p = 45) (ho : zon H = 5) : zstp m B (md, p, H, O) = zflt (zqa m B p) := by
  unfold zstp
  rw [if_neg (show ¬ 3 ≤ md by omega), if_pos h, if_neg (by show ¬ 1000 ≤ zqc m B p; omega), if_neg (by show ¬ (zqc m B p = 5 ∧ _); omega), if_pos c, if_pos ho]
theorem zst_par {m md p : Nat} {B : Nat → Nat} {H O : List Nat} (h : md < 2) (c : zqc m B p = 40) (ho : ¬ zon H = 5) : zstp m B (md, p, H, O) = (0, zqb m B p, 0 :: H, O) := by
  unfold zstp
  rw [if_neg (show ¬ 3 ≤ md by omega), if_pos h, if_neg (by show ¬ 1000 ≤ zqc m B p; omega), if_neg (by show ¬ (zqc m B p = 5 ∧ _); omega), if_neg (by show ¬ zqc m B p = 45; omega), if_pos c, if_neg ho]
theorem zst_par5 {m md p : Nat} {B : Nat → Nat} {H O : List Nat} (h : md < 2) (c : zqc m B p = 40) (ho : zon H = 5) : zstp m B (md, p, H, O) = zflt (zqa m B p) := by
  unfold zstp
  rw [if_neg (show ¬ 3 ≤ md by omega), if_pos h, if_neg (by show ¬ 1000 ≤ zqc m B p; omega), if_neg (by show ¬ (zqc m B p = 5 ∧ _); omega), if_neg (by show ¬ zqc m B p = 45; omega), if_pos c, if_pos ho]
theorem zst_wno {m md p : Nat} {B : Nat → Nat} {H O : List Nat} (h : md < 2) (c1 : ¬ 1000 ≤ zqc m B p) (c2 : ¬ (zqc m B p = 5 ∧ md = 0)) (c3 : ¬ zqc m B p = 45) (c4 : ¬ zqc m B p = 40) : zstp m B (md, p, H, O) = zflt (zqa m B p) := by
  unfold zstp
  rw [if_neg (show ¬ 3 ≤ md by omega), if_pos h, if_neg c1, if_neg c2, if_neg c3, if_neg c4]
theorem zst_end {m p : Nat} {B : Nat → Nat} {H O : List Nat} (c : zqc m B p = 59) (h : (zun 1 H O).1 = []) : zstp m B (2, p, H, O) = (4, zqb m B p, [], (zun 1 H O).2) := by
  unfold zstp
  rw [if_neg (by show ¬ 3 ≤ 2; decide), if_neg (by show ¬ 2 < 2; decide), if_pos c, if_pos h]
theorem zst_end0 {m p : Nat} {B : Nat → Nat} {H O : List Nat} (c : zqc m B p = 59) (h : ¬ (zun 1 H O).1 = []) : zstp m B (2, p, H, O) = zflt (zqa m B p) := by
  unfold zstp
  rw [if_neg (by show ¬ 3 ≤ 2; decide), if_neg (by show ¬ 2 < 2; decide), if_pos c, if_neg h]
theorem zst_cls {m p : Nat} {B : Nat → Nat} {H O : List Nat} (c : zqc m B p = 41) : zstp m B (2, p, H, O) = zpar (zqb m B p) (zun 1 H O) (zqa m B p) := by
  unfold zstp
  rw [if_neg (by show ¬ 3 ≤ 2; decide), if_neg (by show ¬ 2 < 2; decide), if_neg (by show ¬ zqc m B p = 59; omega), if_pos c]
theorem zst_no {m p : Nat} {B : Nat → Nat} {H O : List Nat} (c1 : ¬ zqc m B p = 59) (c2 : ¬ zqc m B p = 41) (c3 : zsn (zqc m B p) = 0) : zstp m B (2, p, H, O) = zflt (zqa m B p) := by
  unfold zstp
  rw [if_neg (by show ¬ 3 ≤ 2; decide), if_neg (by show ¬ 2 < 2; decide), if_neg c1, if_neg c2, if_pos c3]
theorem zst_two {m p l : Nat} {B : Nat → Nat} {H O : List Nat} (c1 : ¬ zqc m B p = 59) (c2 : ¬ zqc m B p = 41) (c3 : ¬ zsn (zqc m B p) = 0) (hl : l = if zrk (zsn (zqc m B p)) = 4 then 5 else zrk (zsn (zqc m B p))) (c4 : ¬ (zrk (zsn (zqc m B p)) = 4 ∧ zhdr (zun l H O).1 = 4)) : zstp m B (2, p, H, O) = ((if zrk (zsn (zqc m B p)) < 3 then 0 else 1), zqb m B p, zsn (zqc m B p) :: (zun l H O).1, (zun l H O).2) := by
  subst hl
  unfold zstp
  rw [if_neg (by show ¬ 3 ≤ 2; decide), if_neg (by show ¬ 2 < 2; decide), if_neg c1, if_neg c2, if_neg c3, if_neg c4]
theorem zst_two0 {m p l : Nat} {B : Nat → Nat} {H O : List Nat} (c1 : ¬ zqc m B p = 59) (c2 : ¬ zqc m B p = 41) (c3 : ¬ zsn (zqc m B p) = 0) (hl : l = if zrk (zsn (zqc m B p)) = 4 then 5 else zrk (zsn (zqc m B p))) (c4 : zrk (zsn (zqc m B p)) = 4 ∧ zhdr (zun l H O).1 = 4) : zstp m B (2, p, H, O) = zflt (zqa m B p) := by
  subst hl
  unfold zstp
  rw [if_neg (by show ¬ 3 ≤ 2; decide), if_neg (by show ¬ 2 < 2; decide), if_neg c1, if_neg c2, if_neg c3, if_pos c4]
/-! what stays -/
theorem zun_app {l : Nat} {H : List Nat} (hH : zhdr H < l) (hl : 0 < l) : ∀ W O, (∀ w, w ∈ W → l ≤ zrk w) → zun l (W ++ H) O = (H, O ++ W)
  | [], O, _ => by
    rw [List.nil_append, List.append_nil]
    cases H with
    | nil => rfl
    | cons s H =>
      rw [zun, if_neg]
      show ¬ l ≤ zrk s
      have : zhdr (s :: H) = zrk s := rfl
      omega
  | w :: W, O, h => by
    rw [List.cons_append, zun, if_pos (h w (List.mem_cons_self ..)), zun_app hH hl W (O ++ [w]) (fun x hx => h x (List.mem_cons_of_mem _ hx)), List.append_assoc]
    rfl
theorem zun_0 {l : Nat} {H O : List Nat} (hH : zhdr H < l) (hl : 0 < l) : zun l H O = (H, O) := by
  have := zun_app hH hl [] O (fun w hw => absurd hw (by simp))
  rw [List.nil_append, List.append_nil] at this
  exact this
theorem zun_hd {l : Nat} (hl : 0 < l) : ∀ H O, zhdr (zun l H O).1 < l
  | [], O => by simpa [zun, zhdr, zrk] using hl
  | s :: H, O => by
    rw [zun]
    split
    · exact zun_hd hl H _
    · next c =>
      show zrk s < l
      omega
