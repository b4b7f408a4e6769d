/-! what holds while a law is read: the signs bind more and more, the codes so far are whole -/
def zbi1 (s : Nat) : Nat := if 10012 ≤ s then 1 else 0
def zbi : List Nat → Nat
  | [] => 0
  | s :: H => zbi H + zbi1 s
def zhw : List Nat → Prop
  | [] => True
  | s :: H => zhw H ∧ (s = 0 ∨ s = 10010 ∨ (s = 10011 ∧ zhdr H ≤ 3) ∨ (10012 ≤ s ∧ s < 10019 ∧ zhdr H < zrk s))
def zwo (C : List Nat) (D : Nat) : Prop := (∀ i, i < C.length → zt_ok (C.getD i 0) (zt_dp (fun k => C.getD k 0) 0 i)) ∧ zt_dp (fun k => C.getD k 0) 0 C.length = D
def zg7 (r : Nat) : Nat := if r = 0 then 0 else if r = 1 then 1 else if r ≤ 3 then 2 else if r = 4 then 3 else if r = 5 then 4 else 5
theorem zg7_le (r : Nat) : zg7 r ≤ 5 := by
  unfold zg7
  repeat' split
  all_goals omega
theorem zrk_of {s : Nat} (h1 : 10012 ≤ s) (h2 : s < 10019) : (s = 10018 ∧ zrk s = 1) ∨ (s = 10017 ∧ zrk s = 2) ∨ (s = 10015 ∧ zrk s = 4) ∨ (s = 10016 ∧ zrk s = 4) ∨ (s = 10013 ∧ zrk s = 5) ∨ (s = 10014 ∧ zrk s = 5) ∨ (s = 10012 ∧ zrk s = 6) := by
  rcases (show s = 10012 ∨ s = 10013 ∨ s = 10014 ∨ s = 10015 ∨ s = 10016 ∨ s = 10017 ∨ s = 10018 by omega) with rfl | rfl | rfl | rfl | rfl | rfl | rfl <;> decide
theorem zrk_le (s : Nat) : zrk s ≤ 7 := by
  unfold zrk
  repeat' split
  all_goals omega
theorem zrk_0 {s : Nat} (h : zrk s = 0) : s = 0 := by
  unfold zrk at h
  repeat' split at h
  all_goals omega
theorem zhdr_le (H : List Nat) : zhdr H ≤ 7 := zrk_le _
theorem zhw_bi : ∀ H, zhw H → zbi H ≤ 5 * zon H + zg7 (zhdr H)
  | [], _ => by simp [zbi]
  | s :: H, h => by
    obtain ⟨h1, h2⟩ := h
    have ih := zhw_bi H h1
    have e : zhdr (s :: H) = zrk s := rfl
    have hg := zg7_le (zhdr H)
    rw [e]
    show zbi H + zbi1 s ≤ 5 * (zon H + zo1 s) + zg7 (zrk s)
    rcases h2 with rfl | rfl | ⟨rfl, h2⟩ | ⟨h2, h3, h4⟩
    · have : zbi1 0 = 0 := rfl
      have : zo1 0 = 1 := rfl
      omega
    · have : zbi1 10010 = 0 := rfl
      have : zo1 10010 = 1 := rfl
      omega
    · have : zbi1 10011 = 0 := rfl
      have : zo1 10011 = 1 := rfl
      omega
    · have e1 : zbi1 s = 1 := if_pos h2
      have e2 : zo1 s = 0 := by unfold zo1; rw [if_neg (by omega)]
      rw [e1, e2]
      have key : zg7 (zhdr H) + 1 ≤ zg7 (zrk s) := by
        generalize zhdr H = r at *
        rcases zrk_of h2 h3 with ⟨_, q⟩ | ⟨_, q⟩ | ⟨_, q⟩ | ⟨_, q⟩ | ⟨_, q⟩ | ⟨_, q⟩ | ⟨_, q⟩ <;> rw [q] at h4 ⊢ <;> (unfold zg7; repeat' split) <;> omega
      omega
theorem zt_dp_cg {T T' : Nat → Nat} {a a' : Nat} : ∀ i, (∀ k, k < i → T (a + k) = T' (a' + k)) → zt_dp T a i = zt_dp T' a' i
  | 0, _ => rfl
  | i + 1, h => by
    rw [zt_dp, zt_dp, h i (by omega), zt_dp_cg i (fun k hk => h k (by omega))]
theorem zl_app_lt {C X : List Nat} {i : Nat} (h : i < C.length) : (C ++ X).getD i 0 = C.getD i 0 := by
  rw [List.getD_eq_getElem?_getD, List.getD_eq_getElem?_getD, List.getElem?_append_left h]
theorem zl_app_at {C : List Nat} {t : Nat} : (C ++ [t]).getD C.length 0 = t := by
  rw [List.getD_eq_getElem?_getD, List.getElem?_append_right (Nat.le_refl _)]
  simp
theorem zl_app_ge {C X : List Nat} {i : Nat} : (C ++ X).getD (C.length + i) 0 = X.getD i 0 := by
  rw [List.getD_eq_getElem?_getD, List.getD_eq_getElem?_getD, List.getElem?_append_right (by omega), Nat.add_sub_cancel_left]
theorem zwo_0 : zwo [] 0 := ⟨fun i hi => absurd hi (by simp), rfl⟩
theorem zwo_sn {C : List Nat} {D t : Nat} (h : zwo C D) (ht : zt_ok t D) : zwo (C ++ [t]) (zt_dn t D) := by
  obtain ⟨h1, h2⟩ := h
  have e : ∀ i, i ≤ C.length → zt_dp (fun k => (C ++ [t]).getD k 0) 0 i = zt_dp (fun k => C.getD k 0) 0 i := fun i hi => zt_dp_cg i (fun k hk => by
    show (C ++ [t]).getD (0 + k) 0 = C.getD (0 + k) 0
    exact zl_app_lt (by omega))
  refine ⟨fun i hi => ?_, ?_⟩
  · rw [List.length_append] at hi
    have hi' : i < C.length + 1 := hi
    rw [e i (by omega)]
    by_cases q : i < C.length
    · rw [zl_app_lt q]; exact h1 i q
    · have : i = C.length := by omega
      subst this
      rw [zl_app_at, h2]; exact ht
  · rw [List.length_append]
    show zt_dp (fun k => (C ++ [t]).getD k 0) 0 (C.length + 1) = _
    rw [zt_dp, e C.length (Nat.le_refl _), h2]
    show zt_dn ((C ++ [t]).getD (0 + C.length) 0) D = _
    rw [Nat.zero_add, zl_app_at]
def zwh (O0 O : List Nat) (D : Nat) : Prop := ∃ C, O = O0 ++ C ∧ zwo C D
theorem zwh_sn {O0 O : List Nat} {D t D' : Nat} (h : zwh O0 O D) (ht : zt_ok t D) (e : zt_dn t D = D') : zwh O0 (O ++ [t]) D' := by
  obtain ⟨C, h1, h2⟩ := h
  exact ⟨C ++ [t], by rw [h1, List.append_assoc], e ▸ zwo_sn h2 ht⟩
theorem zun_inv {l : Nat} {O0 : List Nat} (hl : 1 ≤ l) : ∀ H O, zhw H → zwh O0 O (zbi H + 1) → zhw (zun l H O).1 ∧ (zun l H O).2.length + (zun l H O).1.length = O.length + H.length ∧ zon (zun l H O).1 ≤ zon H ∧ zwh O0 (zun l H O).2 (zbi (zun l H O).1 + 1)
  | [], O, h1, h2 => ⟨h1, rfl, Nat.le_refl _, h2⟩
  | s :: H, O, h1, h2 => by
    rw [zun]
    by_cases c : l ≤ zrk s
    · rw [if_pos c]
      have hs : s = 10010 ∨ s = 10011 ∨ (10012 ≤ s ∧ s < 10019) := by
        rcases h1.2 with rfl | h | h | h
        · exact absurd c (by have : zrk 0 = 0 := rfl; omega)
        · exact Or.inl h
        · exact Or.inr (Or.inl h.1)
        · exact Or.inr (Or.inr ⟨h.1, h.2.1⟩)
      have hb : zbi (s :: H) = zbi H + zbi1 s := rfl
      have hn : zon (s :: H) = zon H + zo1 s := rfl
      have h2' : zwh O0 (O ++ [s]) (zbi H + 1) := by
        rw [hb] at h2
        rcases hs with rfl | rfl | ⟨hs1, hs2⟩
        · exact zwh_sn h2 (Or.inr (Or.inl ⟨Or.inl rfl, by omega⟩)) rfl
        · exact zwh_sn h2 (Or.inr (Or.inl ⟨Or.inr rfl, by omega⟩)) rfl
        · have e1 : zbi1 s = 1 := if_pos hs1
          rw [e1] at h2
          refine zwh_sn h2 (Or.inr (Or.inr ⟨hs1, hs2, by omega⟩)) ?_
          unfold zt_dn
          rw [if_neg (by omega), if_neg (by omega)]
          omega
      obtain ⟨a1, a2, a3, a4⟩ := zun_inv hl H (O ++ [s]) h1.1 h2'
      refine ⟨a1, ?_, by omega, a4⟩
      rw [a2]
      simp only [List.length_append, List.length_cons, List.length_nil]
      omega
    · rw [if_neg c]
      exact ⟨h1, rfl, Nat.le_refl _, h2⟩
def zI2 (m : Nat) (O0 : List Nat) (md p : Nat) (H O : List Nat) : Prop := p ≤ m ∧ O.length + H.length ≤ p ∧ zhw H ∧ zon H ≤ 5 ∧ (md = 0 → zhdr H ≤ 3) ∧ zwh O0 O (zbi H + (if md = 2 then 1 else 0))
def zInv (m : Nat) (O0 : List Nat) (S : zS) : Prop := S.1 = 3 ∨ (S.1 = 4 ∧ S.2.1 ≤ m ∧ S.2.2.2.length ≤ S.2.1 ∧ ∃ D, 1 ≤ D ∧ zwh O0 S.2.2.2 D) ∨ (S.1 ≤ 2 ∧ zI2 m O0 S.1 S.2.1 S.2.2.1 S.2.2.2)
theorem zqb_gt {m p : Nat} {B : Nat → Nat} (hp : p ≤ m) (c : ¬ zqc m B p = 0) : p < zqb m B p ∧ zqb m B p ≤ m ∧ zqa m B p < m := by
  have h := zsk_le (m := m) (B := B) 160 p hp
  have ha : zsk m B 160 p < m := by
    by_cases q : zsk m B 160 p < m
    · exact q
    · exact absurd (zyc_0 q) c
  have := zye_gt (B := B) ha
  show p < zye m B (zsk m B 160 p) ∧ zye m B (zsk m B 160 p) ≤ m ∧ zsk m B 160 p < m
  omega
theorem zsn_of {c : Nat} (h : ¬ zsn c = 0) : (c = 3 ∧ zsn c = 10018) ∨ (c = 4 ∧ zsn c = 10017) ∨ (c = 60 ∧ zsn c = 10015) ∨ (c = 61 ∧ zsn c = 10016) ∨ (c = 43 ∧ zsn c = 10013) ∨ (c = 45 ∧ zsn c = 10014) ∨ (c = 42 ∧ zsn c = 10012) := by
  unfold zsn at h ⊢
  repeat' split at h
  all_goals first | (subst_vars; decide) | exact absurd rfl h
theorem zInv_st {m : Nat} {B : Nat → Nat} {O0 : List Nat} {md p : Nat} {H O : List Nat} (hb : ∀ j, j < m → B j < 256) (h2 : md ≤ 2) (h : zI2 m O0 md p H O) : zInv m O0 (zstp m B (md, p, H, O)) := by
  obtain ⟨i1, i2, i3, i4, i5, i6⟩ := h
  have hc := zyc_cases (m := m) (B := B) (a := zsk m B 160 p) hb
  have hbi := zhw_bi H i3
  have hg := zg7_le (zhdr H)
  by_cases w : md < 2
  · rw [if_neg (by omega), Nat.add_zero] at i6
    by_cases c1 : 1000 ≤ zqc m B p
    · rw [zst_val w c1]
      have hgt := zqb_gt (B := B) i1 (by omega)
      refine Or.inr (Or.inr ⟨Nat.le_refl 2, ?_⟩)
      have hv : zwh O0 (O ++ [zqc m B p - 1000]) (zbi H + 1) := by
        refine zwh_sn i6 (Or.inl ⟨?_, by omega⟩) ?_
        · show zyc m B (zsk m B 160 p) - 1000 < 10006
          have c1' : 1000 ≤ zyc m B (zsk m B 160 p) := c1
          omega
        · unfold zt_dn
          rw [if_pos]
          show zyc m B (zsk m B 160 p) - 1000 < 10006
          have c1' : 1000 ≤ zyc m B (zsk m B 160 p) := c1
          omega
      obtain ⟨a1, a2, a3, a4⟩ := zun_inv (l := 7) (by decide) H _ i3 hv
      refine ⟨hgt.2.1, ?_, a1, Nat.le_trans a3 i4, fun e => absurd e (by show ¬ 2 = 0; decide), a4⟩
      show (zun 7 H (O ++ [zqc m B p - 1000])).2.length + (zun 7 H (O ++ [zqc m B p - 1000])).1.length ≤ zqb m B p
      rw [a2, List.length_append, List.length_singleton]
      omega
    by_cases c2 : zqc m B p = 5 ∧ md = 0
    · obtain ⟨c2, rfl⟩ := c2
      by_cases ho : zon H = 5
      · rw [zst_not5 c2 ho]; exact Or.inl rfl
      · rw [zst_not c2 ho]
        have hgt := zqb_gt (B := B) i1 (by omega)
        refine Or.inr (Or.inr ⟨by show 0 ≤ 2; decide, hgt.2.1, ?_, ⟨i3, Or.inr (Or.inr (Or.inl ⟨rfl, i5 rfl⟩))⟩, ?_, fun _ => ?_, i6⟩)
        · show O.length + (H.length + 1) ≤ zqb m B p
          omega
        · show zon H + 1 ≤ 5
          omega
        · show (3 : Nat) ≤ 3
          decide
    by_cases c3 : zqc m B p = 45
    · by_cases ho : zon H = 5
      · rw [zst_neg5 w c3 ho]; exact Or.inl rfl
      · rw [zst_neg w c3 ho]
        have hgt := zqb_gt (B := B) i1 (by omega)
        refine Or.inr (Or.inr ⟨by show 1 ≤ 2; decide, hgt.2.1, ?_, ⟨i3, Or.inr (Or.inl rfl)⟩, ?_, fun e => absurd e (by show ¬ 1 = 0; decide), i6⟩)
        · show O.length + (H.length + 1) ≤ zqb m B p
          omega
        · show zon H + 1 ≤ 5
          omega
    by_cases c4 : zqc m B p = 40
    · by_cases ho : zon H = 5
      · rw [zst_par5 w c4 ho]; exact Or.inl rfl
      · rw [zst_par w c4 ho]
        have hgt := zqb_gt (B := B) i1 (by omega)
        refine Or.inr (Or.inr ⟨by show 0 ≤ 2; decide, hgt.2.1, ?_, ⟨i3, Or.inl rfl⟩, ?_, fun _ => by show 0 ≤ 3; decide, i6⟩)
        · show O.length + (H.length + 1) ≤ zqb m B p
          omega
        · show zon H + 1 ≤ 5
          omega
    rw [zst_wno w c1 c2 c3 c4]; exact Or.inl rfl
  · have e2 : md = 2 := by omega
    subst e2
    rw [if_pos rfl] at i6
    by_cases c1 : zqc m B p = 59
    · by_cases hz : (zun 1 H O).1 = []
      · rw [zst_end c1 hz]
        have hgt := zqb_gt (B := B) i1 (by omega)
        obtain ⟨a1, a2, a3, a4⟩ := zun_inv (l := 1) (by decide) H O i3 i6
        refine Or.inr (Or.inl ⟨rfl, hgt.2.1, ?_, _, Nat.le_add_left 1 _, a4⟩)
        show (zun 1 H O).2.length ≤ zqb m B p
        omega
      · rw [zst_end0 c1 hz]; exact Or.inl rfl
    by_cases c2 : zqc m B p = 41
    · rw [zst_cls c2]
      have hgt := zqb_gt (B := B) i1 (by omega)
      obtain ⟨a1, a2, a3, a4⟩ := zun_inv (l := 1) (by decide) H O i3 i6
      have a5 := zun_hd (l := 1) (by decide) H O
      unfold zpar
      split
      · exact Or.inl rfl
      · next s H1 e =>
        rw [e] at a1 a2 a3 a4 a5
        have s0 : s = 0 := zrk_0 (by show zrk s = 0; have : zhdr (s :: H1) = zrk s := rfl; omega)
        subst s0
        have a4' : zwh O0 (zun 1 H O).2 (zbi H1 + 1) := a4
        obtain ⟨b1, b2, b3, b4⟩ := zun_inv (l := 7) (by decide) H1 _ a1.1 a4'
        have a3' : zon H1 + 1 ≤ zon H := a3
        refine Or.inr (Or.inr ⟨Nat.le_refl 2, hgt.2.1, ?_, b1, ?_, fun e => absurd e (by show ¬ 2 = 0; decide), b4⟩)
        · show (zun 7 H1 (zun 1 H O).2).2.length + (zun 7 H1 (zun 1 H O).2).1.length ≤ zqb m B p
          rw [b2]
          rw [List.length_cons] at a2
          omega
        · show zon (zun 7 H1 (zun 1 H O).2).1 ≤ 5
          omega
    by_cases c3 : zsn (zqc m B p) = 0
    · rw [zst_no c1 c2 c3]; exact Or.inl rfl
    have hgt := zqb_gt (B := B) i1 (by intro e; rw [e] at c3; exact c3 rfl)
    have hl : 1 ≤ (if zrk (zsn (zqc m B p)) = 4 then 5 else zrk (zsn (zqc m B p))) := by
      rcases zsn_of c3 with ⟨_, q⟩ | ⟨_, q⟩ | ⟨_, q⟩ | ⟨_, q⟩ | ⟨_, q⟩ | ⟨_, q⟩ | ⟨_, q⟩ <;> rw [q] <;> decide
    by_cases c4 : zrk (zsn (zqc m B p)) = 4 ∧ zhdr (zun (if zrk (zsn (zqc m B p)) = 4 then 5 else zrk (zsn (zqc m B p))) H O).1 = 4
    · rw [zst_two0 c1 c2 c3 rfl c4]; exact Or.inl rfl
    · rw [zst_two c1 c2 c3 rfl c4]
      generalize hle : (if zrk (zsn (zqc m B p)) = 4 then 5 else zrk (zsn (zqc m B p))) = l at *
      obtain ⟨a1, a2, a3, a4⟩ := zun_inv hl H O i3 i6
      have a5 := zun_hd hl H O
      have hs : (10012 ≤ zsn (zqc m B p) ∧ zsn (zqc m B p) < 10019) := by
        rcases zsn_of c3 with ⟨_, q⟩ | ⟨_, q⟩ | ⟨_, q⟩ | ⟨_, q⟩ | ⟨_, q⟩ | ⟨_, q⟩ | ⟨_, q⟩ <;> rw [q] <;> decide
      have hlt : zhdr (zun l H O).1 < zrk (zsn (zqc m B p)) := by
        by_cases q : zrk (zsn (zqc m B p)) = 4
        · rw [if_pos q] at hle
          omega
        · rw [if_neg q] at hle
          omega
      generalize zsn (zqc m B p) = s at *
      have eb : zbi1 s = 1 := if_pos hs.1
      have eo : zo1 s = 0 := by unfold zo1; rw [if_neg (by omega)]
      refine Or.inr (Or.inr ⟨?_, hgt.2.1, ?_, ⟨a1, Or.inr (Or.inr (Or.inr ⟨hs.1, hs.2, hlt⟩))⟩, ?_, ?_, ?_⟩)
      · show (if zrk s < 3 then 0 else 1) ≤ 2
        split <;> decide
      · show (zun l H O).2.length + ((zun l H O).1.length + 1) ≤ zqb m B p
        omega
      · show zon (zun l H O).1 + zo1 s ≤ 5
        omega
      · intro q
        show zrk s ≤ 3
        have q' : (if zrk s < 3 then 0 else 1) = 0 := q
        by_cases q3 : zrk s < 3
        · omega
        · rw [if_neg q3] at q'; exact absurd q' (by decide)
      · show zwh O0 (zun l H O).2 (zbi (zun l H O).1 + zbi1 s + (if (if zrk s < 3 then 0 else 1) = 2 then 1 else 0))
        rw [eb, if_neg (by split <;> decide)]
        exact a4
