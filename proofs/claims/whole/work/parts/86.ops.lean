/-! each call by both, in one form: the class's call answers v, and then the reference's, from where the class's left, answers v too, and all holds again -/
def zJJ (I : Nat → Nat → Int32) : Prop := ∃ n t q m TT EE Z, zJ I n t q m TT EE Z
theorem zJ.e {I : Nat → Nat → Int32} {n t q m : Nat} {TT EE : Nat → Nat → Nat} {Z : Nat → Nat} (h : zJ I n t q m TT EE Z) : zJJ I := ⟨n, t, q, m, TT, EE, Z, h⟩
def zAg (sc : zk_X) (mM : Nat) (eM : List (Option Value)) (v : Value) (M1 : zk_M) : Prop := ∀ P' : Option Value → zk_M → Prop, (∀ I2 tg2, zJJ I2 → P' (some v) (zk_mk I2 tg2)) → zk_R sc 899 mM 0 eM [] M1 P'
def zOpI (sc : zk_X) (mT : Nat) (eT : List (Option Value)) (mM : Nat) (eM : List (Option Value)) (M : zk_M) : Prop := ∀ P : Option Value → zk_M → Prop, (∀ (v : Int32) I1 tg1, zAg sc mM eM (.int v) (zk_mk I1 tg1) → P (some (.int v)) (zk_mk I1 tg1)) → zk_R sc 899 mT 0 eT [] M P
def zOpL (sc : zk_X) (mT : Nat) (eT : List (Option Value)) (mM : Nat) (eM : List (Option Value)) (M : zk_M) : Prop := ∀ P : Option Value → zk_M → Prop, (∀ (v : Int64) I1 tg1, zAg sc mM eM (.long v) (zk_mk I1 tg1) → P (some (.long v)) (zk_mk I1 tg1)) → zk_R sc 899 mT 0 eT [] M P
/-! answers stay where what is kept stays -/
theorem zF.lie {I I' : Nat → Nat → Int32} {n : Nat} {q : Int32} (h : zF I I') : zv_lie I' n q = zv_lie I n q := by unfold zv_lie; rw [h 5 rfl]
theorem zF.bothf {I I' : Nat → Nat → Int32} {n : Nat} {T e : Nat → Nat} (h : zF I I') : zv_both I' n T e = zv_both I n T e := funext (fun c => by unfold zv_both; rw [h.cnt, h.cnt])
theorem zF.apartA {I I' : Nat → Nat → Int32} {n : Nat} {T e : Nat → Nat} (h : zF I I') : zA_apart I' n T e = zA_apart I n T e := by unfold zA_apart; rw [h.nowf, h.lie, h.lie]
theorem zF.sw {I I' : Nat → Nat → Int32} {g : Nat → Int32} {now : Int32} {n m : Nat} (h : zF I I') : zsw I' g now n m = zsw I g now n m := by
  have e1 : zcan I' = zcan I := by funext c d; unfold zcan; rw [h 2 rfl, h 4 rfl, h 5 rfl]
  have e2 : zswo I' g now n = zswo I g now n := by
    funext c s
    unfold zswo
    have : zswi I' g now c = zswi I g now c := by funext d s; unfold zswi; rw [e1]
    rw [this]
  unfold zsw
  rw [e2]
theorem zF.drawf {I I' : Nat → Nat → Int32} {n : Nat} {seed : Int32} (h : zF I I') : zv_draw I' n seed = zv_draw I n seed := by unfold zv_draw; rw [h 2 rfl, h 4 rfl]
theorem zF.od {I I' : Nat → Nat → Int32} {f : Nat → Int32} {n : Nat} {seed most : Int32} (h : zF I I') : ∀ i, zod I' f n seed most i = zod I f n seed most i
  | 0 => rfl
  | i + 1 => by rw [zod, zod, h.drawf, h.od i]
theorem zF.tk {I I' : Nat → Nat → Int32} {n : Nat} {T e : Nat → Nat} {a : Nat} {kind : Int32} (h : zF I I') : zA_tk I' n T e a kind = zA_tk I n T e a kind := by unfold zA_tk; rw [h.nowf]
theorem zF.heapA {I I' : Nat → Nat → Int32} {n : Nat} {T e : Nat → Nat} {a : Nat} {what : Int32} (h : zF I I') : zA_heap I' n T e a what = zA_heap I n T e a what := by unfold zA_heap; rw [h.nowf]
theorem zs_lt4 {s : Int32} (h : 0 ≤ s ∧ s < 4) : s.toNatClampNeg < 4 := by
  obtain ⟨k, hk, rfl⟩ := zn_of (x := s) (m := 4) h.1 h.2 (by decide)
  rw [zn_cl (by omega)]; exact hk
theorem zF.shR {I I' : Nat → Nat → Int32} {n k z : Nat} (h : zF I I') (hk : k < 4) : zR I' n k z = zR I n k z ∧ I' (53 + 2 * k) = I (53 + 2 * k) ∧ I' (52 + 2 * k) = I (52 + 2 * k) := by
  obtain ⟨a, b⟩ := zs_k hk I I' h
  refine ⟨?_, b, a⟩
  unfold zR
  rw [a, b]
theorem zo_count {sc : zk_X} {I : Nat → Nat → Int32} {tg : Option Nat} {a1 : Int32} (hJ : zJJ I) : zOpI sc 1 [some (.ref (0 : Nat)), some (.int a1)] 139 [some (.ref (60 : Nat)), some (.int a1)] (zk_mk I tg) := by
  obtain ⟨n, t, q, m, TT, EE, Z, hJ⟩ := hJ
  intro P K
  rw [s1 (d := 898) hJ.1]
  refine K _ I tg (fun P' K' => ?_)
  rw [s139 (d := 898) hJ.1 (by rw [hJ.2.2.1.1, hJ.2.2.1.2.1]) (by rw [hJ.2.1.1, hJ.2.1.2.1]) (by rw [hJ.2.2.2.1.1, hJ.2.2.2.1.2.1])]
  exact K' I tg hJ.e
theorem zo_feed {sc : zk_X} {I : Nat → Nat → Int32} {tg : Option Nat} {a1 a2 a3 a4 a5 a6 : Int32} (hJ : zJJ I) : zOpI sc 2 [some (.ref (0 : Nat)), some (.int a1), some (.int a2), some (.int a3), some (.int a4), some (.int a5), some (.int a6), none, none] 141 [some (.ref (60 : Nat)), some (.int a1), some (.int a2), some (.int a3), some (.int a4), some (.int a5), some (.int a6), none] (zk_mk I tg) := by
  obtain ⟨n, t, q, m, TT, EE, Z, hJ⟩ := hJ
  intro P K
  refine s2 (dd := 898) hJ.2.2.2.1.1 hJ.2.2.2.1.2.2.1 ?_
  intro I1 h1
  refine K _ I1 tg (fun P' K' => ?_)
  refine s141 (dd := 897) hJ h1 ?_
  intro I2 m' h2
  exact K' I2 tg h2.e
theorem zo_text {sc : zk_X} {I : Nat → Nat → Int32} {tg : Option Nat} (hJ : zJJ I) : zOpI sc 4 [some (.ref (0 : Nat)), none] 127 [some (.ref (60 : Nat)), none, none] (zk_mk I tg) := by
  obtain ⟨n, t, q, m, TT, EE, Z, hJ⟩ := hJ
  intro P K
  obtain ⟨x1, x2, x3, x4⟩ := hJ.2.2.1
  obtain ⟨y1, y2, y3, y4⟩ := hJ.2.2.2.1
  by_cases q6 : q = 6
  · subst q6
    refine s4_6 (d := 818) x1 ?_
    refine K _ I tg (fun P' K' => ?_)
    refine s127_6 (d := 895) x2 ?_
    exact K' I tg hJ.e
  · have hq : q < 6 := by omega
    have hB : ∀ j, j < m → I 12 j = nI ((I 12 j).toNatClampNeg) ∧ (I 12 j).toNatClampNeg < 256 := by
      intro j hj
      obtain ⟨b, hb, eb⟩ := (y4 j hj).1
      rw [eb, zn_cl (by omega)]
      exact ⟨rfl, hb⟩
    refine s4 (d := 818) (B := fun j => (I 12 j).toNatClampNeg) x1 hq ⟨y1, y3, hB⟩ ?_
    intro I1 h1
    have k60 : I1 60 = I 60 := h1.1 60 (by decide) (by decide) (by omega) (by omega) (by omega)
    have k65 : I1 65 = I 65 := h1.1 65 (by decide) (by decide) (by omega) (by omega) (by omega)
    have k73 : I1 73 = I 73 := h1.1 73 (by decide) (by decide) (by omega) (by omega) (by omega)
    refine K _ I1 _ (fun P' K' => ?_)
    refine s127 (d := 895) (B := fun j => (I 12 j).toNatClampNeg) (q := q) (m := m) (by rw [k60]; exact x2) hq ⟨by rw [k60]; exact y2, y3, fun j hj => by rw [k65, (y4 j hj).2]; exact hB j hj, hJ.2.2.2.2.2.2.cg k73⟩ h1.2.2.2.1 ?_
    intro I2 h2
    obtain ⟨q', TT', EE', h3⟩ := zJ_text hJ hq h1 h2
    exact K' I2 _ h3.e
theorem zo_force {sc : zk_X} {I : Nat → Nat → Int32} {tg : Option Nat} {a1 : Int32} (hJ : zJJ I) : zOpI sc 5 [some (.ref (0 : Nat)), some (.int a1), none] 143 [some (.ref (60 : Nat)), some (.int a1), none] (zk_mk I tg) := by
  obtain ⟨n, t, q, m, TT, EE, Z, hJ⟩ := hJ
  intro P K
  have x1 := hJ.2.2.1.1
  have x2 := hJ.2.2.1.2.1
  have x3 := hJ.2.2.1.2.2.1
  rw [s5 (d := 899) (q := q) x1]
  refine K _ _ tg (fun P' K' => ?_)
  have e9 : zUt_force I q a1 60 = I 60 := by
    unfold zUt_force
    split
    · exact zk_up2_r (by decide)
    · rfl
  rw [s143 (d := 898) (q := q) (by rw [e9]; exact x2) (by omega), e9]
  have ea : (if 0 ≤ a1 ∧ a1 < nI q then I 60 10 else -2) = zA_force I q a1 := by
    unfold zA_force
    rw [hJ.2.1.1, hJ.2.1.2.1]
  rw [ea]
  obtain ⟨t', h3⟩ := zJ_force (x := a1) hJ
  exact K' _ tg h3.e
theorem zAF_asks {I I1 : Nat → Nat → Int32} {n : Nat} {T e : Nat → Nat} {a1 a2 a3 : Int32} (h : zF I I1) : zA_asks I1 n T e a1 a2 a3 = zA_asks I n T e a1 a2 a3 := by
  unfold zA_asks
  simp only [h.nowf, h.may, h.mv, h.cost, h.said, h.lie, h.bothf, h.apartA, h.sw, h.drawf, h.od, h.tk, h.heapA, zmend_F h, h 2 rfl, h 3 rfl, h 4 rfl, h 5 rfl]
theorem zo_asks {sc : zk_X} {I : Nat → Nat → Int32} {tg : Option Nat} {a1 a2 a3 : Int32} (hJ : zJJ I) : zOpI sc 6 [some (.ref (0 : Nat)), some (.int a1), some (.int a2), some (.int a3)] 144 [some (.ref (60 : Nat)), some (.int a1), some (.int a2), some (.int a3)] (zk_mk I tg) := by
  obtain ⟨n, t, q, m, TT, EE, Z, hJ⟩ := hJ
  intro P K
  refine s6 (d := 896) hJ.q ?_
  intro I1 h1
  refine K _ I1 tg (fun P' K' => ?_)
  refine s144 (d := 896) (h1.J hJ).q ?_
  intro I2 h2
  rw [zAF_asks h1]
  exact K' I2 tg (h2.J (h1.J hJ)).e
theorem zo_card {sc : zk_X} {I : Nat → Nat → Int32} {tg : Option Nat} {a1 a2 : Int32} (hJ : zJJ I) : zOpI sc 10 [some (.ref (0 : Nat)), some (.int a1), some (.int a2)] 150 [some (.ref (60 : Nat)), some (.int a1), some (.int a2)] (zk_mk I tg) := by
  obtain ⟨n, t, q, m, TT, EE, Z, hJ⟩ := hJ
  intro P K
  rw [s10 (d := 898) hJ.1.1 hJ.1.2.2.1]
  refine K _ _ tg (fun P' K' => ?_)
  rw [s150 (d := 898) (n := n) (by rw [zcT_o (by decide)]; exact hJ.1.2.1) hJ.1.2.2.1]
  exact K' _ tg (zJ_card2 hJ).e
theorem zo_drop {sc : zk_X} {I : Nat → Nat → Int32} {tg : Option Nat} (hJ : zJJ I) : zOpI sc 11 [some (.ref (0 : Nat))] 151 [some (.ref (60 : Nat))] (zk_mk I tg) := by
  obtain ⟨n, t, q, m, TT, EE, Z, hJ⟩ := hJ
  intro P K
  rw [s11 (d := 899) hJ.1.1 hJ.1.2.2.1]
  refine K _ _ tg (fun P' K' => ?_)
  have e0 : zUt_drop I n 60 = I 60 := by
    unfold zUt_drop
    split
    · rfl
    · exact zk_up2_r (by decide)
  rw [s151 (d := 899) (n := n) (by rw [e0]; exact hJ.1.2.1) hJ.1.2.2.1]
  obtain ⟨n', h3⟩ := zJ_drop hJ
  exact K' _ tg h3.e
theorem zo_lay {sc : zk_X} {I : Nat → Nat → Int32} {tg : Option Nat} {a1 a2 : Int32} (hJ : zJJ I) : zOpI sc 12 [some (.ref (0 : Nat)), some (.int a1), some (.int a2), none] 152 [some (.ref (60 : Nat)), some (.int a1), some (.int a2), none] (zk_mk I tg) := by
  obtain ⟨n, t, q, m, TT, EE, Z, hJ⟩ := hJ
  intro P K
  obtain ⟨h1, h2, h3⟩ := zJ_lay (c := a1) (w := a2) hJ
  rw [s12 (d := 898) hJ.1.1 hJ.1.2.2.1]
  refine K _ _ tg (fun P' K' => ?_)
  rw [s152 (d := 897) h1, h2]
  exact K' _ tg h3.e
theorem zAF_told {I I1 : Nat → Nat → Int32} {n : Nat} {T e : Nat → Nat} {a1 a2 : Int32} (h : zF I I1) : zA_told I1 n T e a1 a2 = zA_told I n T e a1 a2 := by
  unfold zA_told
  simp only [h.nowf, h.may, h.mv, h.cost, h.said, h.lie, h.bothf, h.apartA, h.sw, h.drawf, h.od, h.tk, h.heapA, zmend_F h, h 2 rfl, h 3 rfl, h 4 rfl, h 5 rfl]
theorem zo_told {sc : zk_X} {I : Nat → Nat → Int32} {tg : Option Nat} {a1 a2 : Int32} (hJ : zJJ I) : zOpI sc 13 [some (.ref (0 : Nat)), some (.int a1), some (.int a2)] 155 [some (.ref (60 : Nat)), some (.int a1), some (.int a2)] (zk_mk I tg) := by
  obtain ⟨n, t, q, m, TT, EE, Z, hJ⟩ := hJ
  intro P K
  refine s13 (d := 895) hJ.q ?_
  intro I1 h1
  refine K _ I1 tg (fun P' K' => ?_)
  refine s155 (d := 894) (h1.J hJ).q ?_
  intro I2 h2
  rw [zAF_told h1]
  exact K' I2 tg (h2.J (h1.J hJ)).e
theorem zAF_heap {I I1 : Nat → Nat → Int32} {n : Nat} {T e : Nat → Nat} {a1 a2 : Int32} (h : zF I I1) : zA_heapA I1 n T e a1 a2 = zA_heapA I n T e a1 a2 := by
  unfold zA_heapA
  simp only [h.nowf, h.may, h.mv, h.cost, h.said, h.lie, h.bothf, h.apartA, h.sw, h.drawf, h.od, h.tk, h.heapA, zmend_F h, h 2 rfl, h 3 rfl, h 4 rfl, h 5 rfl]
theorem zo_heap {sc : zk_X} {I : Nat → Nat → Int32} {tg : Option Nat} {a1 a2 : Int32} (hJ : zJJ I) : zOpI sc 16 [some (.ref (0 : Nat)), some (.int a1), some (.int a2)] 159 [some (.ref (60 : Nat)), some (.int a1), some (.int a2)] (zk_mk I tg) := by
  obtain ⟨n, t, q, m, TT, EE, Z, hJ⟩ := hJ
  intro P K
  refine s16 (d := 894) hJ.q ?_
  intro I1 h1
  refine K _ I1 tg (fun P' K' => ?_)
  refine s159 (d := 893) (h1.J hJ).q ?_
  intro I2 h2
  rw [zAF_heap h1]
  exact K' I2 tg (h2.J (h1.J hJ)).e
theorem zAF_apart {I I1 : Nat → Nat → Int32} {n : Nat} {T e : Nat → Nat} (h : zF I I1) : zA_apart I1 n T e = zA_apart I n T e := by
  unfold zA_apart
  simp only [h.nowf, h.may, h.mv, h.cost, h.said, h.lie, h.bothf, h.apartA, h.sw, h.drawf, h.od, h.tk, h.heapA, zmend_F h, h 2 rfl, h 3 rfl, h 4 rfl, h 5 rfl]
theorem zo_apart {sc : zk_X} {I : Nat → Nat → Int32} {tg : Option Nat} (hJ : zJJ I) : zOpI sc 18 [some (.ref (0 : Nat))] 164 [some (.ref (60 : Nat))] (zk_mk I tg) := by
  obtain ⟨n, t, q, m, TT, EE, Z, hJ⟩ := hJ
  intro P K
  refine s18 (d := 894) hJ.q ?_
  intro I1 h1
  refine K _ I1 tg (fun P' K' => ?_)
  refine s164 (d := 893) (h1.J hJ).q ?_
  intro I2 h2
  rw [zAF_apart h1]
  exact K' I2 tg (h2.J (h1.J hJ)).e
theorem zAF_must {I I1 : Nat → Nat → Int32} {n : Nat} {T e : Nat → Nat} (h : zF I I1) : zA_must I1 n T e = zA_must I n T e := by
  unfold zA_must
  simp only [h.nowf, h.may, h.mv, h.cost, h.said, h.lie, h.bothf, h.apartA, h.sw, h.drawf, h.od, h.tk, h.heapA, zmend_F h, h 2 rfl, h 3 rfl, h 4 rfl, h 5 rfl]
theorem zo_must {sc : zk_X} {I : Nat → Nat → Int32} {tg : Option Nat} (hJ : zJJ I) : zOpI sc 19 [some (.ref (0 : Nat)), none, none, none] 166 [some (.ref (60 : Nat)), none, none, none] (zk_mk I tg) := by
  obtain ⟨n, t, q, m, TT, EE, Z, hJ⟩ := hJ
  intro P K
  refine s19 (d := 894) hJ.q ?_
  intro I1 h1
  refine K _ I1 tg (fun P' K' => ?_)
  refine s166 (d := 893) (h1.J hJ).q ?_
  intro I2 h2
  rw [zAF_must h1]
  exact K' I2 tg (h2.J (h1.J hJ)).e
theorem zAF_alike {I I1 : Nat → Nat → Int32} {n : Nat} {T e : Nat → Nat} {a1 a2 : Int32} (h : zF I I1) : zA_alike I1 n T e a1 a2 = zA_alike I n T e a1 a2 := by
  unfold zA_alike
  simp only [h.nowf, h.may, h.mv, h.cost, h.said, h.lie, h.bothf, h.apartA, h.sw, h.drawf, h.od, h.tk, h.heapA, zmend_F h, h 2 rfl, h 3 rfl, h 4 rfl, h 5 rfl]
theorem zo_alike {sc : zk_X} {I : Nat → Nat → Int32} {tg : Option Nat} {a1 a2 : Int32} (hJ : zJJ I) : zOpI sc 20 [some (.ref (0 : Nat)), some (.int a1), some (.int a2)] 167 [some (.ref (60 : Nat)), some (.int a1), some (.int a2), none, none, none, none, none, none, none, none] (zk_mk I tg) := by
  obtain ⟨n, t, q, m, TT, EE, Z, hJ⟩ := hJ
  intro P K
  refine s20 (d := 893) hJ.q ?_
  intro I1 h1
  refine K _ I1 tg (fun P' K' => ?_)
  refine s167 (d := 893) (h1.J hJ).q ?_
  intro I2 h2
  rw [zAF_alike h1]
  exact K' I2 tg (h2.J (h1.J hJ)).e
theorem zAF_three {I I1 : Nat → Nat → Int32} {n : Nat} {T e : Nat → Nat} {a1 : Int32} (h : zF I I1) : zA_three I1 n T e a1 = zA_three I n T e a1 := by
  unfold zA_three
  simp only [h.nowf, h.may, h.mv, h.cost, h.said, h.lie, h.bothf, h.apartA, h.sw, h.drawf, h.od, h.tk, h.heapA, zmend_F h, h 2 rfl, h 3 rfl, h 4 rfl, h 5 rfl]
theorem zo_three {sc : zk_X} {I : Nat → Nat → Int32} {tg : Option Nat} {a1 : Int32} (hJ : zJJ I) : zOpI sc 22 [some (.ref (0 : Nat)), some (.int a1)] 170 [some (.ref (60 : Nat)), some (.int a1), none, none, none, none, none, none, none, none] (zk_mk I tg) := by
  obtain ⟨n, t, q, m, TT, EE, Z, hJ⟩ := hJ
  intro P K
  refine s22 (d := 893) hJ.q ?_
  intro I1 h1
  refine K _ I1 tg (fun P' K' => ?_)
  refine s170 (d := 893) (h1.J hJ).q ?_
  intro I2 h2
  rw [zAF_three h1]
  exact K' I2 tg (h2.J (h1.J hJ)).e
theorem zAF_fair {I I1 : Nat → Nat → Int32} {n : Nat} {T e : Nat → Nat} {a1 a2 : Int32} (h : zF I I1) : zA_fair I1 n T e a1 a2 = zA_fair I n T e a1 a2 := by
  unfold zA_fair
  simp only [h.nowf, h.may, h.mv, h.cost, h.said, h.lie, h.bothf, h.apartA, h.sw, h.drawf, h.od, h.tk, h.heapA, zmend_F h, h 2 rfl, h 3 rfl, h 4 rfl, h 5 rfl]
theorem zo_fair {sc : zk_X} {I : Nat → Nat → Int32} {tg : Option Nat} {a1 a2 : Int32} (hJ : zJJ I) : zOpI sc 23 [some (.ref (0 : Nat)), some (.int a1), some (.int a2)] 171 [some (.ref (60 : Nat)), some (.int a1), some (.int a2), none, none, none, none, none, none, none, none, none] (zk_mk I tg) := by
  obtain ⟨n, t, q, m, TT, EE, Z, hJ⟩ := hJ
  intro P K
  refine s23 (d := 893) hJ.q ?_
  intro I1 h1
  refine K _ I1 tg (fun P' K' => ?_)
  refine s171 (d := 893) (h1.J hJ).q ?_
  intro I2 h2
  rw [zAF_fair h1]
  exact K' I2 tg (h2.J (h1.J hJ)).e
theorem zAF_thirds {I I1 : Nat → Nat → Int32} {n : Nat} {T e : Nat → Nat} {a1 : Int32} (h : zF I I1) : zA_thirds I1 n T e a1 = zA_thirds I n T e a1 := by
  unfold zA_thirds
  simp only [h.nowf, h.may, h.mv, h.cost, h.said, h.lie, h.bothf, h.apartA, h.sw, h.drawf, h.od, h.tk, h.heapA, zmend_F h, h 2 rfl, h 3 rfl, h 4 rfl, h 5 rfl]
theorem zo_thirds {sc : zk_X} {I : Nat → Nat → Int32} {tg : Option Nat} {a1 : Int32} (hJ : zJJ I) : zOpI sc 24 [some (.ref (0 : Nat)), some (.int a1)] 173 [some (.ref (60 : Nat)), some (.int a1), none, none, none, none, none, none, none] (zk_mk I tg) := by
  obtain ⟨n, t, q, m, TT, EE, Z, hJ⟩ := hJ
  intro P K
  refine s24 (d := 893) hJ.q ?_
  intro I1 h1
  refine K _ I1 tg (fun P' K' => ?_)
  refine s173 (d := 893) (h1.J hJ).q ?_
  intro I2 h2
  rw [zAF_thirds h1]
  exact K' I2 tg (h2.J (h1.J hJ)).e
theorem zAF_swap {I I1 : Nat → Nat → Int32} {n : Nat} {T e : Nat → Nat} {a1 : Int32} (h : zF I I1) : zA_swap I1 n T e a1 = zA_swap I n T e a1 := by
  unfold zA_swap
  simp only [h.nowf, h.may, h.mv, h.cost, h.said, h.lie, h.bothf, h.apartA, h.sw, h.drawf, h.od, h.tk, h.heapA, zmend_F h, h 2 rfl, h 3 rfl, h 4 rfl, h 5 rfl]
theorem zo_swap {sc : zk_X} {I : Nat → Nat → Int32} {tg : Option Nat} {a1 : Int32} (hJ : zJJ I) : zOpI sc 25 [some (.ref (0 : Nat)), some (.int a1)] 175 [some (.ref (60 : Nat)), some (.int a1), none, none, none, none, none, none] (zk_mk I tg) := by
  obtain ⟨n, t, q, m, TT, EE, Z, hJ⟩ := hJ
  intro P K
  refine s25 (d := 893) hJ.q ?_
  intro I1 h1
  refine K _ I1 tg (fun P' K' => ?_)
  refine s175 (d := 893) (h1.J hJ).q ?_
  intro I2 h2
  rw [zAF_swap h1]
  exact K' I2 tg (h2.J (h1.J hJ)).e
theorem zAF_mend {I I1 : Nat → Nat → Int32} {n : Nat} {T e : Nat → Nat} {a1 a2 : Int32} (h : zF I I1) : zA_mend I1 n T e a1 a2 = zA_mend I n T e a1 a2 := by
  unfold zA_mend
  simp only [h.nowf, h.may, h.mv, h.cost, h.said, h.lie, h.bothf, h.apartA, h.sw, h.drawf, h.od, h.tk, h.heapA, zmend_F h, h 2 rfl, h 3 rfl, h 4 rfl, h 5 rfl]
theorem zo_mend {sc : zk_X} {I : Nat → Nat → Int32} {tg : Option Nat} {a1 a2 : Int32} (hJ : zJJ I) : zOpI sc 28 [some (.ref (0 : Nat)), some (.int a1), some (.int a2)] 177 [some (.ref (60 : Nat)), some (.int a1), some (.int a2), none, none, none, none, none, none, none, none, none, none] (zk_mk I tg) := by
  obtain ⟨n, t, q, m, TT, EE, Z, hJ⟩ := hJ
  intro P K
  refine s28 (d := 893) hJ.q ?_
  intro I1 h1
  refine K _ I1 tg (fun P' K' => ?_)
  refine s177 (d := 893) (h1.J hJ).q ?_
  intro I2 h2
  rw [zAF_mend h1]
  exact K' I2 tg (h2.J (h1.J hJ)).e
theorem zAF_unlike {I I1 : Nat → Nat → Int32} {n : Nat} {T e : Nat → Nat} {a1 : Int32} (h : zF I I1) : zA_unlike I1 n T e a1 = zA_unlike I n T e a1 := by
  unfold zA_unlike
  simp only [h.nowf, h.may, h.mv, h.cost, h.said, h.lie, h.bothf, h.apartA, h.sw, h.drawf, h.od, h.tk, h.heapA, zmend_F h, h 2 rfl, h 3 rfl, h 4 rfl, h 5 rfl]
theorem zo_unlike {sc : zk_X} {I : Nat → Nat → Int32} {tg : Option Nat} {a1 : Int32} (hJ : zJJ I) : zOpI sc 30 [some (.ref (0 : Nat)), some (.int a1), none] 179 [some (.ref (60 : Nat)), some (.int a1), none] (zk_mk I tg) := by
  obtain ⟨n, t, q, m, TT, EE, Z, hJ⟩ := hJ
  intro P K
  refine s30 (d := 893) hJ.q ?_
  intro I1 h1
  refine K _ I1 tg (fun P' K' => ?_)
  refine s179 (d := 893) (h1.J hJ).q ?_
  intro I2 h2
  rw [zAF_unlike h1]
  exact K' I2 tg (h2.J (h1.J hJ)).e
theorem zAF_next {I I1 : Nat → Nat → Int32} {n : Nat} {T e : Nat → Nat} (h : zF I I1) : zA_next I1 n T e = zA_next I n T e := by
  unfold zA_next
  simp only [h.nowf, h.may, h.mv, h.cost, h.said, h.lie, h.bothf, h.apartA, h.sw, h.drawf, h.od, h.tk, h.heapA, zmend_F h, h 2 rfl, h 3 rfl, h 4 rfl, h 5 rfl]
theorem zo_next {sc : zk_X} {I : Nat → Nat → Int32} {tg : Option Nat} (hJ : zJJ I) : zOpI sc 31 [some (.ref (0 : Nat))] 182 [some (.ref (60 : Nat)), none, none, none] (zk_mk I tg) := by
  obtain ⟨n, t, q, m, TT, EE, Z, hJ⟩ := hJ
  intro P K
  refine s31 (d := 893) hJ.q ?_
  intro I1 h1
  refine K _ I1 tg (fun P' K' => ?_)
  refine s182 (d := 893) (h1.J hJ).q ?_
  intro I2 h2
  rw [zAF_next h1]
  exact K' I2 tg (h2.J (h1.J hJ)).e
theorem zAF_spread {I I1 : Nat → Nat → Int32} {n : Nat} {T e : Nat → Nat} (h : zF I I1) : zA_spread I1 n T e = zA_spread I n T e := by
  unfold zA_spread
  simp only [h.nowf, h.may, h.mv, h.cost, h.said, h.lie, h.bothf, h.apartA, h.sw, h.drawf, h.od, h.tk, h.heapA, zmend_F h, h 2 rfl, h 3 rfl, h 4 rfl, h 5 rfl]
theorem zo_spread {sc : zk_X} {I : Nat → Nat → Int32} {tg : Option Nat} (hJ : zJJ I) : zOpI sc 32 [some (.ref (0 : Nat)), none, none] 183 [some (.ref (60 : Nat)), none] (zk_mk I tg) := by
  obtain ⟨n, t, q, m, TT, EE, Z, hJ⟩ := hJ
  intro P K
  refine s32 (d := 894) hJ.q ?_
  intro I1 h1
  refine K _ I1 tg (fun P' K' => ?_)
  refine s183 (d := 893) (h1.J hJ).q ?_
  intro I2 h2
  rw [zAF_spread h1]
  exact K' I2 tg (h2.J (h1.J hJ)).e
theorem zAF_key {I I1 : Nat → Nat → Int32} {n : Nat} {T e : Nat → Nat} {a1 a2 : Int32} (h : zF I I1) : zA_key I1 n T e a1 a2 = zA_key I n T e a1 a2 := by
  unfold zA_key
  simp only [h.nowf, h.may, h.mv, h.cost, h.said, h.lie, h.bothf, h.apartA, h.sw, h.drawf, h.od, h.tk, h.heapA, zmend_F h, h 2 rfl, h 3 rfl, h 4 rfl, h 5 rfl]
theorem zo_key {sc : zk_X} {I : Nat → Nat → Int32} {tg : Option Nat} {a1 a2 : Int32} (hJ : zJJ I) : zOpI sc 33 [some (.ref (0 : Nat)), some (.int a1), some (.int a2)] 184 [some (.ref (60 : Nat)), some (.int a1), some (.int a2), none, none, none, none, none] (zk_mk I tg) := by
  obtain ⟨n, t, q, m, TT, EE, Z, hJ⟩ := hJ
  intro P K
  refine s33 (d := 893) hJ.q ?_
  intro I1 h1
  refine K _ I1 tg (fun P' K' => ?_)
  refine s184 (d := 893) (h1.J hJ).q ?_
  intro I2 h2
  rw [zAF_key h1]
  exact K' I2 tg (h2.J (h1.J hJ)).e
theorem zAF_pigeon {I I1 : Nat → Nat → Int32} {n : Nat} {T e : Nat → Nat} {a1 : Int32} (h : zF I I1) : zA_pigeon I1 n T e a1 = zA_pigeon I n T e a1 := by
  unfold zA_pigeon
  simp only [h.nowf, h.may, h.mv, h.cost, h.said, h.lie, h.bothf, h.apartA, h.sw, h.drawf, h.od, h.tk, h.heapA, zmend_F h, h 2 rfl, h 3 rfl, h 4 rfl, h 5 rfl]
theorem zo_pigeon {sc : zk_X} {I : Nat → Nat → Int32} {tg : Option Nat} {a1 : Int32} (hJ : zJJ I) : zOpI sc 34 [some (.ref (0 : Nat)), some (.int a1)] 185 [some (.ref (60 : Nat)), some (.int a1), none, none] (zk_mk I tg) := by
  obtain ⟨n, t, q, m, TT, EE, Z, hJ⟩ := hJ
  intro P K
  refine s34 (d := 893) hJ.q ?_
  intro I1 h1
  refine K _ I1 tg (fun P' K' => ?_)
  refine s185 (d := 893) (h1.J hJ).q ?_
  intro I2 h2
  rw [zAF_pigeon h1]
  exact K' I2 tg (h2.J (h1.J hJ)).e
theorem zAF_question {I I1 : Nat → Nat → Int32} {n : Nat} {T e : Nat → Nat} {a1 a2 : Int32} (h : zF I I1) : zA_question I1 n T e a1 a2 = zA_question I n T e a1 a2 := by
  unfold zA_question
  simp only [h.nowf, h.may, h.mv, h.cost, h.said, h.lie, h.bothf, h.apartA, h.sw, h.drawf, h.od, h.tk, h.heapA, zmend_F h, h 2 rfl, h 3 rfl, h 4 rfl, h 5 rfl]
theorem zo_question {sc : zk_X} {I : Nat → Nat → Int32} {tg : Option Nat} {a1 a2 : Int32} (hJ : zJJ I) : zOpI sc 35 [some (.ref (0 : Nat)), some (.int a1), some (.int a2), none, none] 186 [some (.ref (60 : Nat)), some (.int a1), some (.int a2), none, none, none] (zk_mk I tg) := by
  obtain ⟨n, t, q, m, TT, EE, Z, hJ⟩ := hJ
  intro P K
  refine s35 (d := 893) hJ.q ?_
  intro I1 h1
  refine K _ I1 tg (fun P' K' => ?_)
  refine s186 (d := 893) (h1.J hJ).q ?_
  intro I2 h2
  rw [zAF_question h1]
  exact K' I2 tg (h2.J (h1.J hJ)).e
theorem zAF_judge {I I1 : Nat → Nat → Int32} {n : Nat} {T e : Nat → Nat} {Z : Nat → Nat} {a1 : Int32} (h : zF I I1) : zA_judge I1 n T e Z a1 = zA_judge I n T e Z a1 := by
  unfold zA_judge
  by_cases c : 0 ≤ a1 ∧ a1 < 4
  · obtain ⟨x1, x2, x3⟩ := h.shR (n := n) (z := Z a1.toNatClampNeg) (zs_lt4 c)
    simp only [x1, x2, x3, h.nowf]
  · simp only [c, false_and, reduceIte]
theorem zo_judge {sc : zk_X} {I : Nat → Nat → Int32} {tg : Option Nat} {a1 : Int32} (hJ : zJJ I) : zOpI sc 36 [some (.ref (0 : Nat)), some (.int a1), none] 190 [some (.ref (60 : Nat)), some (.int a1), none] (zk_mk I tg) := by
  obtain ⟨n, t, q, m, TT, EE, Z, hJ⟩ := hJ
  intro P K
  refine s36 (d := 894) hJ.q hJ.2.2.2.2.1 ?_
  intro I1 h1
  refine K _ I1 tg (fun P' K' => ?_)
  refine s190 (d := 892) (h1.J hJ).q (h1.J hJ).2.2.2.2.1 ?_
  intro I2 h2
  rw [zAF_judge h1]
  exact K' I2 tg (h2.J (h1.J hJ)).e
theorem zAF_blame {I I1 : Nat → Nat → Int32} {n : Nat} {T e : Nat → Nat} {Z : Nat → Nat} {a1 : Int32} (h : zF I I1) : zA_blame I1 n T e Z a1 = zA_blame I n T e Z a1 := by
  unfold zA_blame
  by_cases c : 0 ≤ a1 ∧ a1 < 4
  · obtain ⟨x1, x2, x3⟩ := h.shR (n := n) (z := Z a1.toNatClampNeg) (zs_lt4 c)
    simp only [x1, x2, x3, h.nowf]
  · simp only [c, false_and, reduceIte]
theorem zo_blame {sc : zk_X} {I : Nat → Nat → Int32} {tg : Option Nat} {a1 : Int32} (hJ : zJJ I) : zOpI sc 40 [some (.ref (0 : Nat)), some (.int a1), none, none, none] 195 [some (.ref (60 : Nat)), some (.int a1), none, none, none] (zk_mk I tg) := by
  obtain ⟨n, t, q, m, TT, EE, Z, hJ⟩ := hJ
  intro P K
  refine s40 (d := 894) hJ.q hJ.2.2.2.2.1 ?_
  intro I1 h1
  refine K _ I1 tg (fun P' K' => ?_)
  refine s195 (d := 891) (h1.J hJ).q (h1.J hJ).2.2.2.2.1 ?_
  intro I2 h2
  rw [zAF_blame h1]
  exact K' I2 tg (h2.J (h1.J hJ)).e
theorem zAF_more {I I1 : Nat → Nat → Int32} {n : Nat} {T e : Nat → Nat} {Z : Nat → Nat} {a1 a2 : Int32} (h : zF I I1) : zA_more I1 n T e Z a1 a2 = zA_more I n T e Z a1 a2 := by
  unfold zA_more
  by_cases c : 0 ≤ a1 ∧ a1 < 4
  · obtain ⟨x1, x2, x3⟩ := h.shR (n := n) (z := Z a1.toNatClampNeg) (zs_lt4 c)
    simp only [x1, x2, x3, h.nowf]
  · simp only [c, false_and, reduceIte]
theorem zo_more {sc : zk_X} {I : Nat → Nat → Int32} {tg : Option Nat} {a1 a2 : Int32} (hJ : zJJ I) : zOpL sc 42 [some (.ref (0 : Nat)), some (.int a1), some (.int a2)] 197 [some (.ref (60 : Nat)), some (.int a1), some (.int a2), none, none] (zk_mk I tg) := by
  obtain ⟨n, t, q, m, TT, EE, Z, hJ⟩ := hJ
  intro P K
  refine s42 (d := 894) hJ.q hJ.2.2.2.2.1 ?_
  intro I1 h1
  refine K _ I1 tg (fun P' K' => ?_)
  refine s197 (d := 891) (h1.J hJ).q (h1.J hJ).2.2.2.2.1 ?_
  intro I2 h2
  rw [zAF_more h1]
  exact K' I2 tg (h2.J (h1.J hJ)).e
theorem zAF_laws {I I1 : Nat → Nat → Int32} {n q : Nat} {TT EE : Nat → Nat → Nat} {Z : Nat → Nat} {a1 : Int32} (h : zF I I1) : zA_laws I1 n q TT EE Z a1 = zA_laws I n q TT EE Z a1 := by
  unfold zA_laws
  by_cases c : 0 ≤ a1 ∧ a1 < 4
  · obtain ⟨x1, x2, x3⟩ := h.shR (n := n) (z := Z a1.toNatClampNeg) (zs_lt4 c)
    simp only [x1, x2, x3, h.nowf]
  · simp only [c, reduceIte]
theorem zo_laws {sc : zk_X} {I : Nat → Nat → Int32} {tg : Option Nat} {a1 : Int32} (hJ : zJJ I) : zOpI sc 43 [some (.ref (0 : Nat)), some (.int a1), none, none, none] 198 [some (.ref (60 : Nat)), some (.int a1), none, none, none, none] (zk_mk I tg) := by
  obtain ⟨n, t, q, m, TT, EE, Z, hJ⟩ := hJ
  intro P K
  refine s43 (d := 894) hJ.1 hJ.2.2.1 hJ.2.2.2.2.1 ?_
  intro I1 h1
  refine K _ I1 tg (fun P' K' => ?_)
  refine s198 (d := 892) (h1.J hJ).1 (h1.J hJ).2.2.1 (h1.J hJ).2.2.2.2.1 ?_
  intro I2 h2
  rw [zAF_laws h1]
  exact K' I2 tg (h2.J (h1.J hJ)).e
theorem zo_film {sc : zk_X} {I : Nat → Nat → Int32} {tg : Option Nat} {a1 a2 a3 : Int32} (hJ : zJJ I) : zOpI sc 44 [some (.ref (0 : Nat)), some (.int a1), some (.int a2), some (.int a3), none, none] 199 [some (.ref (60 : Nat)), some (.int a1), some (.int a2), some (.int a3), none, none] (zk_mk I tg) := by
  obtain ⟨n, t, q, m, TT, EE, Z, hJ⟩ := hJ
  intro P K
  refine s44 (d := 894) hJ.q ?_
  intro I1 h1
  refine K _ I1 tg (fun P' K' => ?_)
  refine s199 (d := 893) hJ h1 ?_
  intro I2 Z' h2
  exact K' I2 tg h2.e
theorem zAF_seen {I I1 : Nat → Nat → Int32} {n : Nat} {T e : Nat → Nat} {Z : Nat → Nat} {a1 a2 : Int32} (h : zF I I1) : zA_seen I1 n T e Z a1 a2 = zA_seen I n T e Z a1 a2 := by
  unfold zA_seen
  by_cases c : 0 ≤ a1 ∧ a1 < 4
  · obtain ⟨x1, x2, x3⟩ := h.shR (n := n) (z := Z a1.toNatClampNeg) (zs_lt4 c)
    simp only [x1, x2, x3, h.nowf]
  · simp only [c, false_and, reduceIte]
theorem zo_seen {sc : zk_X} {I : Nat → Nat → Int32} {tg : Option Nat} {a1 a2 : Int32} (hJ : zJJ I) : zOpI sc 45 [some (.ref (0 : Nat)), some (.int a1), some (.int a2), none, none, none, none] 200 [some (.ref (60 : Nat)), some (.int a1), some (.int a2), none, none, none, none] (zk_mk I tg) := by
  obtain ⟨n, t, q, m, TT, EE, Z, hJ⟩ := hJ
  intro P K
  refine s45 (d := 893) hJ.q hJ.2.2.2.2.1 ?_
  intro I1 h1
  refine K _ I1 tg (fun P' K' => ?_)
  refine s200 (d := 893) (h1.J hJ).q (h1.J hJ).2.2.2.2.1 ?_
  intro I2 h2
  rw [zAF_seen h1]
  exact K' I2 tg (h2.J (h1.J hJ)).e
theorem zAF_drawn {I I1 : Nat → Nat → Int32} {n : Nat} {T e : Nat → Nat} {a1 a2 : Int32} (h : zF I I1) : zA_drawn I1 n T e a1 a2 = zA_drawn I n T e a1 a2 := by
  unfold zA_drawn
  simp only [h.nowf, h.may, h.mv, h.cost, h.said, h.lie, h.bothf, h.apartA, h.sw, h.drawf, h.od, h.tk, h.heapA, zmend_F h, h 2 rfl, h 3 rfl, h 4 rfl, h 5 rfl]
theorem zo_drawn {sc : zk_X} {I : Nat → Nat → Int32} {tg : Option Nat} {a1 a2 : Int32} (hJ : zJJ I) : zOpI sc 46 [some (.ref (0 : Nat)), some (.int a1), some (.int a2), none] 202 [some (.ref (60 : Nat)), some (.int a1), some (.int a2), none] (zk_mk I tg) := by
  obtain ⟨n, t, q, m, TT, EE, Z, hJ⟩ := hJ
  intro P K
  refine s46 (d := 894) hJ.q ?_
  intro I1 h1
  refine K _ I1 tg (fun P' K' => ?_)
  refine s202 (d := 893) (h1.J hJ).q ?_
  intro I2 h2
  rw [zAF_drawn h1]
  exact K' I2 tg (h2.J (h1.J hJ)).e
theorem zo_deal {sc : zk_X} {I : Nat → Nat → Int32} {tg : Option Nat} {a1 : Int32} (hJ : zJJ I) : zOpI sc 49 [some (.ref (0 : Nat)), some (.int a1), none, none] 205 [some (.ref (60 : Nat)), some (.int a1), none, none] (zk_mk I tg) := by
  obtain ⟨n, t, q, m, TT, EE, Z, hJ⟩ := hJ
  intro P K
  refine s49 (d := 894) hJ.q ?_
  intro I1 h1
  refine K _ I1 tg (fun P' K' => ?_)
  refine s205 (d := 893) hJ h1 ?_
  intro I2 h2
  exact K' I2 tg h2.e
theorem zAF_odds {I I1 : Nat → Nat → Int32} {n : Nat} {T e : Nat → Nat} {a1 a2 a3 a4 : Int32} (h : zF I I1) : zA_odds I1 n T e a1 a2 a3 a4 = zA_odds I n T e a1 a2 a3 a4 := by
  unfold zA_odds
  simp only [h.nowf, h.may, h.mv, h.cost, h.said, h.lie, h.bothf, h.apartA, h.sw, h.drawf, h.od, h.tk, h.heapA, zmend_F h, h 2 rfl, h 3 rfl, h 4 rfl, h 5 rfl]
theorem zo_odds {sc : zk_X} {I : Nat → Nat → Int32} {tg : Option Nat} {a1 a2 a3 a4 : Int32} (hJ : zJJ I) : zOpL sc 50 [some (.ref (0 : Nat)), some (.int a1), some (.int a2), some (.int a3), some (.int a4), none, none, none] 206 [some (.ref (60 : Nat)), some (.int a1), some (.int a2), some (.int a3), some (.int a4), none, none, none] (zk_mk I tg) := by
  obtain ⟨n, t, q, m, TT, EE, Z, hJ⟩ := hJ
  intro P K
  refine s50 (d := 894) hJ.q ?_
  intro I1 h1
  refine K _ I1 tg (fun P' K' => ?_)
  refine s206 (d := 893) (h1.J hJ).q ?_
  intro I2 h2
  rw [zAF_odds h1]
  exact K' I2 tg (h2.J (h1.J hJ)).e
theorem zo_image {sc : zk_X} {I : Nat → Nat → Int32} {tg : Option Nat} (hJ : zJJ I) : zOpI sc 52 [some (.ref (0 : Nat))] 208 [some (.ref (60 : Nat)), none] (zk_mk I tg) := by
  obtain ⟨n, t, q, m, TT, EE, Z, hJ⟩ := hJ
  intro P K
  refine s52 (d := 898) hJ.1.2.2.1 hJ.1.1 ?_
  intro I1 h1
  refine K _ I1 tg (fun P' K' => ?_)
  refine s208 (d := 899) hJ h1 ?_
  intro I2 h2
  exact K' I2 tg h2.e
theorem zo_back {sc : zk_X} {I : Nat → Nat → Int32} {tg : Option Nat} (hJ : zJJ I) : zOpI sc 53 [some (.ref (0 : Nat))] 209 [some (.ref (60 : Nat)), none] (zk_mk I tg) := by
  obtain ⟨n, t, q, m, TT, EE, Z, hJ⟩ := hJ
  intro P K
  refine s53 (d := 898) hJ ?_
  intro I1 h1 h2
  refine K _ I1 tg (fun P' K' => ?_)
  refine s209 (d := 899) hJ h1 h2 ?_
  intro I2 n' t' h3
  exact K' I2 tg h3.e
theorem zo_sheet {sc : zk_X} {I : Nat → Nat → Int32} {tg : Option Nat} {a1 a2 a3 : Int32} (hJ : zJJ I) : zOpI sc 54 [some (.ref (0 : Nat)), some (.int a1), some (.int a2), some (.int a3)] 210 [some (.ref (60 : Nat)), some (.int a1), some (.int a2), some (.int a3), none] (zk_mk I tg) := by
  obtain ⟨n, t, q, m, TT, EE, Z, hJ⟩ := hJ
  intro P K
  refine s54 (d := 898)  ?_
  intro I1 h1
  refine K _ I1 tg (fun P' K' => ?_)
  refine s210 (d := 898) hJ h1 ?_
  intro I2 Z' h2
  exact K' I2 tg h2.e
theorem zo_cell {sc : zk_X} {I : Nat → Nat → Int32} {tg : Option Nat} {a1 a2 a3 : Int32} (hJ : zJJ I) : zOpI sc 55 [some (.ref (0 : Nat)), some (.int a1), some (.int a2), some (.int a3)] 211 [some (.ref (60 : Nat)), some (.int a1), some (.int a2), some (.int a3)] (zk_mk I tg) := by
  obtain ⟨n, t, q, m, TT, EE, Z, hJ⟩ := hJ
  intro P K
  refine s55 (d := 897) hJ.2.2.2.2.1 ?_
  intro I1 h1
  refine K _ I1 tg (fun P' K' => ?_)
  refine s211 (d := 898) hJ h1 ?_
  intro I2 h2
  exact K' I2 tg h2.e
theorem zo_copy {sc : zk_X} {I : Nat → Nat → Int32} {tg : Option Nat} {a1 a2 a3 a4 a5 : Int32} (hJ : zJJ I) : zOpI sc 56 [some (.ref (0 : Nat)), some (.int a1), some (.int a2), some (.int a3), some (.int a4), some (.int a5)] 212 [some (.ref (60 : Nat)), some (.int a1), some (.int a2), some (.int a3), some (.int a4), some (.int a5), none, none, none, none] (zk_mk I tg) := by
  obtain ⟨n, t, q, m, TT, EE, Z, hJ⟩ := hJ
  intro P K
  refine s56 (d := 898) hJ.2.2.2.2.1 ?_
  intro I1 h1
  refine K _ I1 tg (fun P' K' => ?_)
  refine s212 (d := 898) hJ h1 ?_
  intro I2 h2
  exact K' I2 tg h2.e
theorem zo_cardsBy {sc : zk_X} {I : Nat → Nat → Int32} {tg : Option Nat} {a1 a2 a3 a4 : Int32} (hJ : zJJ I) : zOpI sc 57 [some (.ref (0 : Nat)), some (.int a1), some (.int a2), some (.int a3), some (.int a4), none, none, none] 213 [some (.ref (60 : Nat)), some (.int a1), some (.int a2), some (.int a3), some (.int a4), none, none, none, none] (zk_mk I tg) := by
  obtain ⟨n, t, q, m, TT, EE, Z, hJ⟩ := hJ
  intro P K
  refine s57 (d := 897) hJ.1.1 hJ.1.2.2.1 hJ.2.2.2.2.1 ?_
  refine K _ _ tg (fun P' K' => ?_)
  refine s213 (d := 897) hJ ?_
  intro I2 n' h3
  exact K' I2 tg h3.e
theorem zAF_taken {I I1 : Nat → Nat → Int32} {n : Nat} {T e : Nat → Nat} {a1 a2 : Int32} (h : zF I I1) : zA_taken I1 n T e a1 a2 = zA_taken I n T e a1 a2 := by
  unfold zA_taken
  simp only [h.nowf, h.may, h.mv, h.cost, h.said, h.lie, h.bothf, h.apartA, h.sw, h.drawf, h.od, h.tk, h.heapA, zmend_F h, h 2 rfl, h 3 rfl, h 4 rfl, h 5 rfl]
theorem zo_taken {sc : zk_X} {I : Nat → Nat → Int32} {tg : Option Nat} {a1 a2 : Int32} (hJ : zJJ I) : zOpI sc 58 [some (.ref (0 : Nat)), some (.int a1), some (.int a2)] 214 [some (.ref (60 : Nat)), some (.int a1), some (.int a2)] (zk_mk I tg) := by
  obtain ⟨n, t, q, m, TT, EE, Z, hJ⟩ := hJ
  intro P K
  refine s58 (d := 893) hJ.q ?_
  intro I1 h1
  refine K _ I1 tg (fun P' K' => ?_)
  refine s214 (d := 892) (h1.J hJ).q ?_
  intro I2 h2
  rw [zAF_taken h1]
  exact K' I2 tg (h2.J (h1.J hJ)).e
