/-! images; what is foretold -/
def sameH (v w : HV) : Prop := v.1 = w.1 ∧ (v.2.1.2 = w.2.1.2 ∧ ∀ j, j < 8 → v.2.1.1 j = w.2.1.1 j) ∧ sameC v.2.2.1 w.2.2.1 ∧ (∀ i, i < 8 → sameC (v.2.2.2.1 i) (w.2.2.2.1 i)) ∧ v.2.2.2.2 = w.2.2.2.2
theorem RH.congrH {v w : HV} {s s' : zAI} (h : RH w s) (hv : sameH v w) (hs : ∀ q, q < 407 → s' q = s q) : RH v s' := by
  obtain ⟨e1, ⟨e2, e3⟩, e4, e5, e6⟩ := hv
  obtain ⟨h1, ⟨r, m, h2⟩, h3, h4, kn, p, h5, h6, h7, h8, h9, h10⟩ := h
  refine ⟨h1.congr e4 (fun q hq => hs q (by omega)), ⟨r, m, by rw [e2]; exact h2.1, by rw [hs _ (by omega)]; exact h2.2.1, h2.2.2.1, fun j hj => ?_⟩, by rw [e1, hs _ (by omega)]; exact h3, by rw [hs _ (by omega)]; exact h4, kn, p, h5, h6, by rw [e6]; exact h7, by rw [hs _ (by omega)]; exact h8, by rw [e6]; exact h9, fun i hi => (h10 i hi).congr (e5 _ (by omega)) (fun q hq => hs _ (by omega))⟩
  have := h2.2.2.1
  rw [e3 j (by omega), hs _ (by omega)]
  exact h2.2.2.2 j hj
theorem p_hbecome (v w : HV) : ∃ v', fX1_become v w = some v' ∧ sameH v' w := by
  unfold fX1_become
  have hw : fX5_become v.2.1 w.2.1 = some (zcpy w.2.1.1 v.2.1.1 0 0 8, w.2.1.2) := rfl
  obtain ⟨u, u1, u2⟩ := p_become v.2.2.1 w.2.2.1
  obtain ⟨a0, b0, c0⟩ := p_become (v.2.2.2.1 0) (w.2.2.2.1 0)
  obtain ⟨a1, b1, c1⟩ := p_become (v.2.2.2.1 1) (w.2.2.2.1 1)
  obtain ⟨a2, b2, c2⟩ := p_become (v.2.2.2.1 2) (w.2.2.2.1 2)
  obtain ⟨a3, b3, c3⟩ := p_become (v.2.2.2.1 3) (w.2.2.2.1 3)
  obtain ⟨a4, b4, c4⟩ := p_become (v.2.2.2.1 4) (w.2.2.2.1 4)
  obtain ⟨a5, b5, c5⟩ := p_become (v.2.2.2.1 5) (w.2.2.2.1 5)
  obtain ⟨a6, b6, c6⟩ := p_become (v.2.2.2.1 6) (w.2.2.2.1 6)
  obtain ⟨a7, b7, c7⟩ := p_become (v.2.2.2.1 7) (w.2.2.2.1 7)
  rw [hw, u1, b0, b1, b2, b3, b4, b5, b6, b7]
  refine ⟨_, rfl, rfl, ⟨rfl, fun j hj => ?_⟩, u2, fun i hi => ?_, rfl⟩
  · show va_cpy _ _ 0 0 8 j = _
    rw [cpy_in (by omega) (by omega), show 0 + (j - 0) = j by omega]
  · rcases (by omega : i = 0 ∨ i = 1 ∨ i = 2 ∨ i = 3 ∨ i = 4 ∨ i = 5 ∨ i = 6 ∨ i = 7) with q | q | q | q | q | q | q | q <;> subst q
    · exact c0
    · exact c1
    · exact c2
    · exact c3
    · exact c4
    · exact c5
    · exact c6
    · exact c7
theorem o_image {xv : XV} {mv : MV} (h : RH xv.1 mv.2.2.2.2.2.2.2.1) : ∃ h' s', fX6_image xv = some (1, h', 1) ∧ fX7_image mv = some (1, s', 1) ∧ RH h' s' := by
  unfold fX6_image fX7_image
  obtain ⟨h', e1, e2⟩ := p_hbecome xv.2.1 xv.1
  have e3 : fX7_bring mv.2.2.2.2.2.2.2.1 mv.2.2.2.2.2.2.2.2.2.2.1 0 0 407 = some (va_cpy mv.2.2.2.2.2.2.2.1 mv.2.2.2.2.2.2.2.2.2.2.1 0 0 407) := q_bring (i := 0) (j := 0) (n := 407) _ _ (by omega) (by omega)
  rw [e1, e3]
  exact ⟨_, _, rfl, rfl, h.congrH e2 (fun q hq => by rw [cpy_in (by omega) (by omega)]; exact congrArg _ (by omega))⟩
theorem o_restore {xv : XV} {mv : MV} (h : RH xv.1 mv.2.2.2.2.2.2.2.1) (hf : xv.2.2.2.2.2.2 = mv.2.2.2.2.2.2.2.2.2.2.2.1) (hk : ¬ mv.2.2.2.2.2.2.2.2.2.2.2.1 = 0 → RH xv.2.1 mv.2.2.2.2.2.2.2.2.2.2.1) : ∃ r h' s', fX6_restore xv = some (r, h') ∧ fX7_restore mv = some (r, s') ∧ RH h' s' := by
  unfold fX6_restore fX7_restore
  rw [hf]
  by_cases q : mv.2.2.2.2.2.2.2.2.2.2.2.1 = 0
  · rw [if_pos q, if_pos q]
    exact ⟨_, _, _, rfl, rfl, h⟩
  · rw [if_neg q, if_neg q]
    obtain ⟨h', e1, e2⟩ := p_hbecome xv.1 xv.2.1
    have e3 : fX7_bring mv.2.2.2.2.2.2.2.2.2.2.1 mv.2.2.2.2.2.2.2.1 0 0 407 = some (va_cpy mv.2.2.2.2.2.2.2.2.2.2.1 mv.2.2.2.2.2.2.2.1 0 0 407) := q_bring (i := 0) (j := 0) (n := 407) _ _ (by omega) (by omega)
    rw [e1, e3]
    exact ⟨_, _, _, rfl, rfl, (hk q).congrH e2 (fun q hq => by rw [cpy_in (by omega) (by omega)]; exact congrArg _ (by omega))⟩
/-- what a trial starts from -/
def BF (h : HV) (s : zAI) (c : Tm) (r : Nat → Nat) (m : Nat) : Prop := Sm h.2.2.1 s c ∧ c.2.2.2.2 ≤ 9999 ∧ RW h.2.1 s r m ∧ h.1 = s 44
theorem RH.bf {h : HV} {s : zAI} (hR : RH h s) : ∃ c r m, BF h s c r m := by
  obtain ⟨c, c1, c2, -⟩ := hR.1
  obtain ⟨r, m, h2⟩ := hR.2.1
  exact ⟨c, r, m, c1, c2, h2, hR.2.2.1⟩
def tri (s t : zAI) : zAI := va_cpy s t 0 0 54
theorem tri_in {s t : zAI} {q : Nat} (h : q < 54) : tri s t q = s q := by
  unfold tri
  rw [cpy_in (by omega) (by omega)]
  exact congrArg _ (by omega)
theorem q_begin (mv : MV) : fX7_begin mv = some (tri mv.2.2.2.2.2.2.2.1 mv.2.2.2.2.2.2.2.2.1) := by
  unfold fX7_begin
  have e3 : fX7_bring mv.2.2.2.2.2.2.2.1 mv.2.2.2.2.2.2.2.2.1 0 0 54 = some (tri mv.2.2.2.2.2.2.2.1 mv.2.2.2.2.2.2.2.2.1) := q_bring (i := 0) (j := 0) (n := 54) _ _ (by omega) (by omega)
  rw [e3]
  rfl
theorem p_start {h : HV} {s : zAI} {c : Tm} {r : Nat → Nat} {m : Nat} (hB : BF h s c r m) (xv : XV) (hx : xv.1 = h) (t : zAI) : ∃ v', fX6_startTrial xv = some v' ∧ Sm v' (tri s t) c ∧ RW h.2.1 (tri s t) r m ∧ sameC v' h.2.2.1 := by
  obtain ⟨v', e1, e2⟩ := p_become xv.2.2.1 h.2.2.1
  refine ⟨v', ?_, hB.1.congr e2 (fun q hq => tri_in (by omega)), hB.2.2.1.keep (fun q a b => tri_in (by omega)), e2⟩
  unfold fX6_startTrial
  rw [hx, e1]
  rfl
def nx (r : Nat → Nat) (m : Nat) (c : Tm) : Tm := stp (rnY r m c.2.2.2.2) c
def lkc (r : Nat → Nat) (m : Nat) (c : Tm) : Nat := lks (rnY r m c.2.2.2.2) c
theorem nx_y (r : Nat → Nat) (m : Nat) (c : Tm) : (nx r m c).2.2.2.2 = c.2.2.2.2 + 1 := rfl
theorem yot {h : HV} {v : CV} {s : zAI} {c : Tm} {r : Nat → Nat} {m : Nat} (hS : Sm v s c) (hW : RW h.2.1 s r m) (hy : c.2.2.2.2 + 1 < 100000) (tk : zAI) : ∃ v' tk' s', (∀ xv : XV, xv.1 = h → xv.2.2.1 = v → fX6_yearOfTrial xv = some (nI (lkc r m c), v')) ∧ fX7_yearIn tk s = some (nI (lkc r m c), tk', s') ∧ Sm v' s' (nx r m c) ∧ RW h.2.1 s' r m ∧ lkc r m c ≤ 40 ∧ ∀ q, 34 ≤ q → s' q = s q := by
  obtain ⟨v', tk', s', a1, a2, a3, a4, a5, a6, a7, a8⟩ := hS.yearIn hW hy tk
  refine ⟨v', tk', s', fun xv h1 h2 => ?_, a2, a3, a8, ?_, a7⟩
  · unfold fX6_yearOfTrial
    rw [h1, h2]
    obtain ⟨w, w1, w2⟩ := Option.bind_eq_some_iff.mp a1
    rw [w1, bind_s, w2, bind_s]
    rfl
  · have := rnY_le hW c.2.2.2.2
    have h2 := lks_le (rnY r m c.2.2.2.2) c
    unfold lkc
    omega
theorem leakL {h : HV} {r : Nat → Nat} {m : Nat} {xv : XV} {mv : MV} (hx : xv.1 = h) : ∀ (k i fuel : Nat) (v : CV) (s tk : zAI) (c : Tm), i + k = 41 → k < fuel → Sm v s c → RW h.2.1 s r m → c.2.2.2.2 + k < 100000 → ∃ (o1 : (Int32 × CV) ⊕ CV) (o2 : (Int32 × zAI × zAI) ⊕ (zAI × zAI)), fX6_leak_L6 fuel xv (nI i) v = some o1 ∧ fX7_leak_L6 fuel mv (nI i) s tk = some o2 ∧ ((∃ z v' s' tk', o1 = .inl (z, v') ∧ o2 = .inl (z, s', tk')) ∨ (∃ v' s' tk', o1 = .inr v' ∧ o2 = .inr (s', tk'))) := by
  intro k
  induction k with
  | zero =>
    intro i fuel v s tk c hi hf hS hW hy
    obtain ⟨f, rfl⟩ : ∃ f, fuel = f + 1 := ⟨fuel - 1, by omega⟩
    rw [fX6_leak_L6, fX7_leak_L6, if_pos (show (40 : Int32) < nI i from nI_lt (a := 40) (by omega) (by omega)), if_pos (show (40 : Int32) < nI i from nI_lt (a := 40) (by omega) (by omega))]
    exact ⟨_, _, rfl, rfl, Or.inr ⟨_, _, _, rfl, rfl⟩⟩
  | succ k ih =>
    intro i fuel v s tk c hi hf hS hW hy
    obtain ⟨f, rfl⟩ : ∃ f, fuel = f + 1 := ⟨fuel - 1, by omega⟩
    obtain ⟨v', tk', s', a1, a2, a3, a4, a5, a6⟩ := yot hS hW (by omega) tk
    rw [fX6_leak_L6, fX7_leak_L6, if_neg (show ¬ (40 : Int32) < nI i from nI_nlt (a := 40) (by omega) (by omega)), if_neg (show ¬ (40 : Int32) < nI i from nI_nlt (a := 40) (by omega) (by omega)), a1 (xv.1, xv.2.1, v, xv.2.2.2) hx rfl, a2, bind_s, bind_s]
    by_cases q : nI (lkc r m c) ≤ 0
    · rw [if_pos q, if_pos q, nI_1]
      exact ih (i + 1) f v' s' tk' (nx r m c) (by omega) (by omega) a3 a4 (by rw [nx_y]; omega)
    · rw [if_neg q, if_neg q]
      exact ⟨_, _, rfl, rfl, Or.inl ⟨_, _, _, _, rfl, rfl⟩⟩
theorem o_leak {xv : XV} {mv : MV} (h : RH xv.1 mv.2.2.2.2.2.2.2.1) : ∃ z v' s' tk', fX6_leak xv = some (z, v') ∧ fX7_leak mv = some (z, s', tk') := by
  unfold fX6_leak fX7_leak
  obtain ⟨c, r, m, hB⟩ := h.bf
  obtain ⟨v1, e1, e2, e3, -⟩ := p_start hB xv rfl mv.2.2.2.2.2.2.2.2.1
  have := hB.2.1
  rw [e1, q_begin, bind_s, bind_s]
  obtain ⟨o1, o2, g1, g2, g3⟩ := leakL (xv := (xv.1, xv.2.1, v1, xv.2.2.2)) (mv := (mv.1, mv.2.1, mv.2.2.1, mv.2.2.2.1, mv.2.2.2.2.1, mv.2.2.2.2.2.1, mv.2.2.2.2.2.2.1, mv.2.2.2.2.2.2.2.1, (tri mv.2.2.2.2.2.2.2.1 mv.2.2.2.2.2.2.2.2.1), mv.2.2.2.2.2.2.2.2.2)) rfl 40 1 zF v1 (tri mv.2.2.2.2.2.2.2.1 mv.2.2.2.2.2.2.2.2.1) mv.2.2.2.2.2.2.2.2.2.2.2.2.1 c rfl (zF_lt (by omega)) e2 e3 (by omega)
  rw [show fX6_leak_L6 zF (xv.1, xv.2.1, v1, xv.2.2.2) 1 v1 = some o1 from g1, show fX7_leak_L6 zF (mv.1, mv.2.1, mv.2.2.1, mv.2.2.2.1, mv.2.2.2.2.1, mv.2.2.2.2.2.1, mv.2.2.2.2.2.2.1, mv.2.2.2.2.2.2.2.1, (tri mv.2.2.2.2.2.2.2.1 mv.2.2.2.2.2.2.2.2.1), mv.2.2.2.2.2.2.2.2.2) 1 (tri mv.2.2.2.2.2.2.2.1 mv.2.2.2.2.2.2.2.2.1) mv.2.2.2.2.2.2.2.2.2.2.2.2.1 = some o2 from g2, bind_s, bind_s]
  rcases g3 with ⟨z, v', s', tk', rfl, rfl⟩ | ⟨v', s', tk', rfl, rfl⟩
  · exact ⟨_, _, _, _, rfl, rfl⟩
  · exact ⟨_, _, _, _, rfl, rfl⟩
theorem bareL {h : HV} {r : Nat → Nat} {m : Nat} {xv : XV} {mv : MV} (hx : xv.1 = h) : ∀ (k i fuel : Nat) (v : CV) (s tk : zAI) (c : Tm), i + k = 41 → k < fuel → Sm v s c → RW h.2.1 s r m → c.2.2.2.2 + k < 100000 → ∃ (o1 : (Int32 × CV) ⊕ CV) (o2 : (Int32 × zAI × zAI) ⊕ (zAI × zAI)), fX6_bare_L6 fuel xv (nI i) v = some o1 ∧ fX7_bare_L6 fuel mv (nI i) s tk = some o2 ∧ ((∃ z v' s' tk', o1 = .inl (z, v') ∧ o2 = .inl (z, s', tk')) ∨ (∃ v' s' tk', o1 = .inr v' ∧ o2 = .inr (s', tk'))) := by
  intro k
  induction k with
  | zero =>
    intro i fuel v s tk c hi hf hS hW hy
    obtain ⟨f, rfl⟩ : ∃ f, fuel = f + 1 := ⟨fuel - 1, by omega⟩
    rw [fX6_bare_L6, fX7_bare_L6, if_pos (show (40 : Int32) < nI i from nI_lt (a := 40) (by omega) (by omega)), if_pos (show (40 : Int32) < nI i from nI_lt (a := 40) (by omega) (by omega))]
    exact ⟨_, _, rfl, rfl, Or.inr ⟨_, _, _, rfl, rfl⟩⟩
  | succ k ih =>
    intro i fuel v s tk c hi hf hS hW hy
    obtain ⟨f, rfl⟩ : ∃ f, fuel = f + 1 := ⟨fuel - 1, by omega⟩
    obtain ⟨v', tk', s', a1, a2, a3, a4, a5, a6⟩ := yot hS hW (by omega) tk
    rw [fX6_bare_L6, fX7_bare_L6, if_neg (show ¬ (40 : Int32) < nI i from nI_nlt (a := 40) (by omega) (by omega)), if_neg (show ¬ (40 : Int32) < nI i from nI_nlt (a := 40) (by omega) (by omega)), hS.1.1, show zgt s 3 = s 3 from rfl, hS.2.1.1, a1 (xv.1, xv.2.1, v, xv.2.2.2) hx rfl, a2, bind_s, bind_s]
    by_cases q : nI c.2.2.2.1 = 0
    · rw [if_pos q, if_pos q]
      exact ⟨_, _, rfl, rfl, Or.inl ⟨_, _, _, _, rfl, rfl⟩⟩
    · rw [if_neg q, if_neg q, nI_1]
      exact ih (i + 1) f v' s' tk' (nx r m c) (by omega) (by omega) a3 a4 (by rw [nx_y]; omega)
theorem o_bare {xv : XV} {mv : MV} (h : RH xv.1 mv.2.2.2.2.2.2.2.1) : ∃ z v' s' tk', fX6_bare xv = some (z, v') ∧ fX7_bare mv = some (z, s', tk') := by
  unfold fX6_bare fX7_bare
  obtain ⟨c, r, m, hB⟩ := h.bf
  obtain ⟨v1, e1, e2, e3, -⟩ := p_start hB xv rfl mv.2.2.2.2.2.2.2.2.1
  have := hB.2.1
  rw [e1, q_begin, bind_s, bind_s]
  obtain ⟨o1, o2, g1, g2, g3⟩ := bareL (xv := (xv.1, xv.2.1, v1, xv.2.2.2)) (mv := (mv.1, mv.2.1, mv.2.2.1, mv.2.2.2.1, mv.2.2.2.2.1, mv.2.2.2.2.2.1, mv.2.2.2.2.2.2.1, mv.2.2.2.2.2.2.2.1, (tri mv.2.2.2.2.2.2.2.1 mv.2.2.2.2.2.2.2.2.1), mv.2.2.2.2.2.2.2.2.2)) rfl 41 0 zF v1 (tri mv.2.2.2.2.2.2.2.1 mv.2.2.2.2.2.2.2.2.1) mv.2.2.2.2.2.2.2.2.2.2.2.2.1 c rfl (zF_lt (by omega)) e2 e3 (by omega)
  rw [show fX6_bare_L6 zF (xv.1, xv.2.1, v1, xv.2.2.2) 0 v1 = some o1 from g1, show fX7_bare_L6 zF (mv.1, mv.2.1, mv.2.2.1, mv.2.2.2.1, mv.2.2.2.2.1, mv.2.2.2.2.2.1, mv.2.2.2.2.2.2.1, mv.2.2.2.2.2.2.2.1, (tri mv.2.2.2.2.2.2.2.1 mv.2.2.2.2.2.2.2.2.1), mv.2.2.2.2.2.2.2.2.2) 0 (tri mv.2.2.2.2.2.2.2.1 mv.2.2.2.2.2.2.2.2.1) mv.2.2.2.2.2.2.2.2.2.2.2.2.1 = some o2 from g2, bind_s, bind_s]
  rcases g3 with ⟨z, v', s', tk', rfl, rfl⟩ | ⟨v', s', tk', rfl, rfl⟩
  · exact ⟨_, _, _, _, rfl, rfl⟩
  · exact ⟨_, _, _, _, rfl, rfl⟩
theorem worstL {h : HV} {r : Nat → Nat} {m : Nat} {xv : XV} {mv : MV} (hx : xv.1 = h) (x1 : Int32) : ∀ (k i fuel : Nat) (a b : Int32) (v : CV) (s tk : zAI) (c : Tm), i + k = 40 → k < fuel → Sm v s c → RW h.2.1 s r m → c.2.2.2.2 + k < 100000 → ∃ z1 z2 v' s' tk', fX6_worst_L23 fuel xv x1 a b (nI i) v = some (z1, z2, v') ∧ fX7_worst_L23 fuel mv x1 a b (nI i) s tk = some (z1, z2, s', tk') := by
  intro k
  induction k with
  | zero =>
    intro i fuel a b v s tk c hi hf hS hW hy
    obtain ⟨f, rfl⟩ : ∃ f, fuel = f + 1 := ⟨fuel - 1, by omega⟩
    rw [fX6_worst_L23, fX7_worst_L23, if_pos (show (40 : Int32) ≤ nI i from nI_le (a := 40) (by omega) (by omega)), if_pos (show (40 : Int32) ≤ nI i from nI_le (a := 40) (by omega) (by omega))]
    exact ⟨_, _, _, _, _, rfl, rfl⟩
  | succ k ih =>
    intro i fuel a b v s tk c hi hf hS hW hy
    obtain ⟨f, rfl⟩ : ∃ f, fuel = f + 1 := ⟨fuel - 1, by omega⟩
    obtain ⟨v', tk', s', a1, a2, a3, a4, a5, a6⟩ := yot hS hW (by omega) tk
    rw [fX6_worst_L23, fX7_worst_L23, if_neg (show ¬ (40 : Int32) ≤ nI i from nI_ge (b := 40) (by omega) (by omega)), if_neg (show ¬ (40 : Int32) ≤ nI i from nI_ge (b := 40) (by omega) (by omega)), a1 (xv.1, xv.2.1, v, xv.2.2.2) hx rfl, a2, bind_s, bind_s, nI_1]
    by_cases q : nI (lkc r m c) ≤ b
    · rw [if_pos q, if_pos q, if_pos q]
      exact ih (i + 1) f a b v' s' tk' (nx r m c) (by omega) (by omega) a3 a4 (by rw [nx_y]; omega)
    · rw [if_neg q, if_neg q, if_neg q]
      exact ih (i + 1) f _ _ v' s' tk' (nx r m c) (by omega) (by omega) a3 a4 (by rw [nx_y]; omega)
theorem o_worst {xv : XV} {mv : MV} (h : RH xv.1 mv.2.2.2.2.2.2.2.1) (x : Int32) : ∃ z v' s' tk', fX6_worst xv x = some (z, v') ∧ fX7_worst mv x = some (z, s', tk') := by
  unfold fX6_worst fX7_worst
  by_cases q : rng x 0 1
  rotate_left
  · rw [out_f q, in_f q, bind_s, bind_s, if10, if00]
    exact ⟨_, _, _, _, rfl, rfl⟩
  rw [out_t q, in_t q, bind_s, bind_s, if00, if10]
  obtain ⟨c, r, m, hB⟩ := h.bf
  obtain ⟨v1, e1, e2, e3, -⟩ := p_start hB xv rfl mv.2.2.2.2.2.2.2.2.1
  have := hB.2.1
  rw [e1, q_begin, bind_s, bind_s]
  obtain ⟨z1, z2, v', s', tk', g1, g2⟩ := worstL (xv := (xv.1, xv.2.1, v1, xv.2.2.2)) (mv := (mv.1, mv.2.1, mv.2.2.1, mv.2.2.2.1, mv.2.2.2.2.1, mv.2.2.2.2.2.1, mv.2.2.2.2.2.2.1, mv.2.2.2.2.2.2.2.1, (tri mv.2.2.2.2.2.2.2.1 mv.2.2.2.2.2.2.2.2.1), mv.2.2.2.2.2.2.2.2.2)) rfl x 40 0 zF (-4) 0 v1 (tri mv.2.2.2.2.2.2.2.1 mv.2.2.2.2.2.2.2.2.1) mv.2.2.2.2.2.2.2.2.2.2.2.2.1 c rfl (zF_lt (by omega)) e2 e3 (by omega)
  rw [show fX6_worst_L23 zF (xv.1, xv.2.1, v1, xv.2.2.2) x (-4) 0 0 v1 = some (z1, z2, v') from g1, show fX7_worst_L23 zF (mv.1, mv.2.1, mv.2.2.1, mv.2.2.2.1, mv.2.2.2.2.1, mv.2.2.2.2.2.1, mv.2.2.2.2.2.2.1, mv.2.2.2.2.2.2.2.1, (tri mv.2.2.2.2.2.2.2.1 mv.2.2.2.2.2.2.2.2.1), mv.2.2.2.2.2.2.2.2.2) x (-4) 0 0 (tri mv.2.2.2.2.2.2.2.1 mv.2.2.2.2.2.2.2.2.1) mv.2.2.2.2.2.2.2.2.2.2.2.2.1 = some (z1, z2, s', tk') from g2, bind_s, bind_s]
  dsimp only
  by_cases k1 : z1 = (-4)
  · rw [if_pos k1, if_pos k1]
    exact ⟨_, _, _, _, rfl, rfl⟩
  rw [if_neg k1, if_neg k1]
  by_cases k2 : x = 0
  · rw [if_pos k2, if_pos k2]
    exact ⟨_, _, _, _, rfl, rfl⟩
  rw [if_neg k2, if_neg k2]
  exact ⟨_, _, _, _, rfl, rfl⟩
