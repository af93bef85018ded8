/-! many years on trial -/
def RCt (v : CV) (c : Tm) : Prop := RC v c.1 c.2.1 c.2.2.1 c.2.2.2.1 c.2.2.2.2
def RSt (s : zAI) (c : Tm) : Prop := RS s c.1 c.2.1 c.2.2.1 c.2.2.2.1 c.2.2.2.2
def OKt (c : Tm) : Prop := OKc c.1 c.2.1 c.2.2.1 c.2.2.2.1 c.2.2.2.2
def itS (r : Nat → Nat) (m : Nat) : Nat → Tm → Tm
  | 0, c => c
  | k + 1, c => itS r m k (nx r m c)
def lsum (r : Nat → Nat) (m : Nat) : Nat → Tm → Nat
  | 0, _ => 0
  | k + 1, c => lkc r m c + lsum r m k (nx r m c)
theorem lkc_le {wv : WV} {s : zAI} {r : Nat → Nat} {m : Nat} (hW : RW wv s r m) (c : Tm) : lkc r m c ≤ 40 := by
  have := rnY_le hW c.2.2.2.2
  have h2 := lks_le (rnY r m c.2.2.2.2) c
  unfold lkc
  omega
theorem lsum_le {wv : WV} {s : zAI} {r : Nat → Nat} {m : Nat} (hW : RW wv s r m) : ∀ (k : Nat) (c : Tm), lsum r m k c ≤ 40 * k
  | 0, _ => Nat.le_refl _
  | k + 1, c => by
    have h1 := lkc_le hW c
    have h2 := lsum_le hW k (nx r m c)
    unfold lsum
    omega
theorem p_yot {h : HV} {v : CV} {s0 : zAI} {c : Tm} {r : Nat → Nat} {m : Nat} (hR : RCt v c) (hO : OKt c) (hW : RW h.2.1 s0 r m) : ∃ v', (∀ xv : XV, xv.1 = h → xv.2.2.1 = v → fX6_yearOfTrial xv = some (nI (lkc r m c), v')) ∧ RCt v' (nx r m c) ∧ v'.2.2.2.2.2.2.1 = v.2.2.2.2.2.2.1 + nI (lkc r m c) := by
  have hr := rnY_le hW c.2.2.2.2
  have hy := hO.2.1
  obtain ⟨v', a1, a2, a3, a4, a5⟩ := p_pass (w := rnY r m c.2.2.2.2) hO (by omega) hR
  refine ⟨v', fun xv h1 h2 => ?_, a2, a4⟩
  unfold fX6_yearOfTrial
  rw [h1, h2, hR.2.1, p_rain hW (by omega), bind_s, a1, bind_s]
  rfl
theorem q_yot {wv : WV} {s : zAI} {c : Tm} {r : Nat → Nat} {m : Nat} (hR : RSt s c) (hO : OKt c) (hW : RW wv s r m) (tk : zAI) : ∃ tk' s', fX7_yearIn tk s = some (nI (lkc r m c), tk', s') ∧ RSt s' (nx r m c) ∧ RW wv s' r m ∧ s' 2 = s 2 + nI (lkc r m c) ∧ ∀ q, 34 ≤ q → s' q = s q := by
  have hr := rnY_le hW c.2.2.2.2
  have hy := hO.2.1
  obtain ⟨tk', s', a1, a2, a3, a4, a5⟩ := q_year (w := rnY r m c.2.2.2.2) hO (by omega) hR tk
  refine ⟨tk', s', ?_, a2, hW.keep (fun q h1 _ => a5 q (by omega)), a3, a5⟩
  unfold fX7_yearIn
  rw [show zgt s 0 = s 0 from rfl, hR.2.1, q_rain hW (by omega), bind_s, a1, bind_s]
  rfl
theorem q_goOnL {wv : WV} {r : Nat → Nat} {m n : Nat} {mv : MV} (hn : n ≤ 40) : ∀ (k i fuel acc : Nat) (s tk : zAI) (c : Tm), i + k = n → k < fuel → RSt s c → OKt c → RW wv s r m → c.2.2.2.2 + k < 100000 → ∃ s' tk', fX7_goOn_L4 fuel mv (nI n) (nI acc) (nI i) s tk = some (nI (acc + lsum r m k c), s', tk') ∧ RSt s' (itS r m k c) ∧ OKt (itS r m k c) ∧ s' 2 = s 2 + nI (lsum r m k c) := by
  intro k
  induction k with
  | zero =>
    intro i fuel acc s tk c hi hf hR hO hW hy
    obtain ⟨f, rfl⟩ : ∃ f, fuel = f + 1 := ⟨fuel - 1, by omega⟩
    rw [fX7_goOn_L4, if_pos (nI_le (by omega) (by omega))]
    exact ⟨_, _, rfl, hR, hO, by rw [show lsum r m 0 c = 0 from rfl, nI_0, Int32.add_zero]⟩
  | succ k ih =>
    intro i fuel acc s tk c hi hf hR hO hW hy
    obtain ⟨f, rfl⟩ : ∃ f, fuel = f + 1 := ⟨fuel - 1, by omega⟩
    obtain ⟨tk', s', a1, a2, a3, a4, a5⟩ := q_yot hR hO hW tk
    rw [fX7_goOn_L4, if_neg (nI_ge (by omega) (by omega)), a1, bind_s]
    dsimp only
    rw [nI_add, nI_1]
    obtain ⟨s2, tk2, b1, b2, b3, b4⟩ := ih (i + 1) f (acc + lkc r m c) s' tk' (nx r m c) (by omega) (by omega) a2 (OKc.next hO (by omega)) a3 (by rw [nx_y]; omega)
    refine ⟨s2, tk2, ?_, b2, b3, ?_⟩
    · rw [b1, Nat.add_assoc]
      rfl
    · rw [b4, a4, Int32.add_assoc, nI_add]
      rfl
theorem q_goOn {wv : WV} {r : Nat → Nat} {m n : Nat} (hn : n ≤ 40) {mv : MV} {s : zAI} (hs : mv.2.2.2.2.2.2.2.2.1 = s) {c : Tm} (hR : RSt s c) (hO : OKt c) (hW : RW wv s r m) (hy : c.2.2.2.2 + n < 100000) : ∃ s' tk', fX7_goOn mv (nI n) = some (nI (lsum r m n c), s', tk') ∧ RSt s' (itS r m n c) ∧ OKt (itS r m n c) ∧ s' 2 = s 2 + nI (lsum r m n c) := by
  obtain ⟨s', tk', a1, a2⟩ := q_goOnL (mv := mv) hn n 0 zF 0 s mv.2.2.2.2.2.2.2.2.2.2.2.2.1 c (Nat.zero_add n) (zF_lt (by omega)) hR hO hW hy
  refine ⟨s', tk', ?_, a2⟩
  unfold fX7_goOn
  rw [hs, show fX7_goOn_L4 zF mv (nI n) 0 0 s mv.2.2.2.2.2.2.2.2.2.2.2.2.1 = _ from a1, bind_s, Nat.zero_add]
theorem p_uptoL {h : HV} {r : Nat → Nat} {m n lim : Nat} {s0 : zAI} {xv : XV} (hx : xv.1 = h) (hn : n ≤ 40) (hl : lim ≤ 1000000000) (hW : RW h.2.1 s0 r m) : ∀ (k i fuel acc : Nat) (v : CV) (c : Tm), i + k = n → k < fuel → acc ≤ 40 * i → RCt v c → OKt c → c.2.2.2.2 + k < 100000 → ∃ res v', fX6_leaksOfTrialUpTo_L5 fuel xv (nI n) (nI lim) (nI acc) (nI i) v = some (nI res, v') ∧ res ≤ acc + 40 * k ∧ ((acc + lsum r m k c ≤ lim ∧ res = acc + lsum r m k c ∧ RCt v' (itS r m k c) ∧ v'.2.2.2.2.2.2.1 = v.2.2.2.2.2.2.1 + nI (lsum r m k c)) ∨ (lim < acc + lsum r m k c ∧ lim < res)) := by
  intro k
  induction k with
  | zero =>
    intro i fuel acc v c hi hf ha hR hO hy
    obtain ⟨f, rfl⟩ : ∃ f, fuel = f + 1 := ⟨fuel - 1, by omega⟩
    rw [fX6_leaksOfTrialUpTo_L5, if_pos (nI_le (by omega) (by omega))]
    refine ⟨acc, v, rfl, by omega, ?_⟩
    by_cases q : acc ≤ lim
    · exact Or.inl ⟨q, rfl, hR, by rw [show lsum r m 0 c = 0 from rfl, nI_0, Int32.add_zero]⟩
    · exact Or.inr ⟨by show lim < acc + 0; omega, by omega⟩
  | succ k ih =>
    intro i fuel acc v c hi hf ha hR hO hy
    obtain ⟨f, rfl⟩ : ∃ f, fuel = f + 1 := ⟨fuel - 1, by omega⟩
    have hk := lkc_le hW c
    rw [fX6_leaksOfTrialUpTo_L5, if_neg (nI_ge (by omega) (by omega))]
    by_cases q : lim < acc
    · rw [if_pos (nI_lt q (by omega))]
      exact ⟨acc, v, rfl, by omega, Or.inr ⟨by omega, q⟩⟩
    · rw [if_neg (nI_nlt (by omega) (by omega))]
      obtain ⟨v', a1, a2, a3⟩ := p_yot hR hO hW
      rw [a1 (xv.1, xv.2.1, v, xv.2.2.2) hx rfl, bind_s]
      dsimp only
      rw [nI_add, nI_1]
      obtain ⟨res, v2, b1, b2, b3⟩ := ih (i + 1) f (acc + lkc r m c) v' (nx r m c) (by omega) (by omega) (by omega) a2 (OKc.next hO (by omega)) (by rw [nx_y]; omega)
      refine ⟨res, v2, b1, by omega, ?_⟩
      have e : acc + lsum r m (k + 1) c = acc + lkc r m c + lsum r m k (nx r m c) := by rw [lsum, Nat.add_assoc]
      rw [e]
      rcases b3 with ⟨c1, c2, c3, c4⟩ | c1
      · refine Or.inl ⟨c1, c2, c3, ?_⟩
        rw [c4, a3, Int32.add_assoc, nI_add]
        rfl
      · exact Or.inr c1
theorem p_upto {h : HV} {r : Nat → Nat} {m n lim : Nat} {s0 : zAI} {xv : XV} (hx : xv.1 = h) (hn : n ≤ 40) (hl : lim ≤ 1000000000) (hW : RW h.2.1 s0 r m) {v : CV} (hv : xv.2.2.1 = v) {c : Tm} (hR : RCt v c) (hO : OKt c) (hy : c.2.2.2.2 + n < 100000) : ∃ res v', fX6_leaksOfTrialUpTo xv (nI n) (nI lim) = some (nI res, v') ∧ res ≤ 40 * n ∧ ((lsum r m n c ≤ lim ∧ res = lsum r m n c ∧ RCt v' (itS r m n c) ∧ v'.2.2.2.2.2.2.1 = v.2.2.2.2.2.2.1 + nI (lsum r m n c)) ∨ (lim < lsum r m n c ∧ lim < res)) := by
  obtain ⟨res, v', a1, a2, a3⟩ := p_uptoL (r := r) (m := m) hx hn hl hW n 0 zF 0 v c (Nat.zero_add n) (zF_lt (by omega)) (by omega) hR hO hy
  rw [Nat.zero_add] at a3
  refine ⟨res, v', ?_, by omega, a3⟩
  unfold fX6_leaksOfTrialUpTo
  rw [hv, show fX6_leaksOfTrialUpTo_L5 zF xv (nI n) (nI lim) 0 0 v = _ from a1, bind_s]
theorem p_leaks {h : HV} {r : Nat → Nat} {m n : Nat} {s0 : zAI} {xv : XV} (hx : xv.1 = h) (hn : n ≤ 40) (hW : RW h.2.1 s0 r m) {v : CV} (hv : xv.2.2.1 = v) {c : Tm} (hR : RCt v c) (hO : OKt c) (hy : c.2.2.2.2 + n < 100000) : ∃ v', fX6_leaksOfTrial xv (nI n) = some (nI (lsum r m n c), v') ∧ RCt v' (itS r m n c) ∧ v'.2.2.2.2.2.2.1 = v.2.2.2.2.2.2.1 + nI (lsum r m n c) := by
  have hls := lsum_le hW n c
  obtain ⟨res, v', a1, a2, a3⟩ := p_upto (r := r) (m := m) (lim := 1000000000) hx hn (by omega) hW hv hR hO hy
  rcases a3 with ⟨b1, b2, b3, b4⟩ | ⟨b1, b2⟩
  · subst b2
    refine ⟨v', ?_, b3, b4⟩
    unfold fX6_leaksOfTrial
    rw [show fX6_leaksOfTrialUpTo xv (nI n) 1000000000 = _ from a1, bind_s]
  · omega
theorem o_ahead {xv : XV} {mv : MV} (h : RH xv.1 mv.2.2.2.2.2.2.2.1) (x z : Int32) : ∃ a v' s' tk', fX6_ahead xv x z = some (a, v') ∧ fX7_ahead mv x z = some (a, s', tk') := by
  unfold fX6_ahead fX7_ahead
  by_cases q : rng x 0 40
  rotate_left
  · rw [out_f q, in_f q, bind_s, bind_s, if10, if00]
    exact ⟨_, _, _, _, rfl, rfl⟩
  rw [out_t q, in_t q, bind_s, bind_s, if00, if10]
  by_cases q2 : rng z 0 2
  rotate_left
  · rw [out_f q2, in_f q2, bind_s, bind_s, if10, if00]
    exact ⟨_, _, _, _, rfl, rfl⟩
  rw [out_t q2, in_t q2, bind_s, bind_s, if00, if10]
  obtain ⟨n, n1, n2, rfl⟩ := rng_n (a := 0) (b := 40) (by omega) q (by omega)
  obtain ⟨c, r, m, hB⟩ := h.bf
  obtain ⟨v1, e1, e2, e3, -⟩ := p_start hB xv rfl mv.2.2.2.2.2.2.2.2.1
  have := hB.2.1
  rw [e1, q_begin, bind_s, bind_s]
  obtain ⟨v2, f1, f2, f3⟩ := p_leaks (h := xv.1) (r := r) (m := m) (xv := (xv.1, xv.2.1, v1, xv.2.2.2)) rfl n2 e3 rfl e2.1 e2.2.2.1 (by omega)
  obtain ⟨s2, tk2, g1, g2, g3, g4⟩ := q_goOn (r := r) (m := m) n2 (mv := (mv.1, mv.2.1, mv.2.2.1, mv.2.2.2.1, mv.2.2.2.2.1, mv.2.2.2.2.2.1, mv.2.2.2.2.2.2.1, mv.2.2.2.2.2.2.2.1, (tri mv.2.2.2.2.2.2.2.1 mv.2.2.2.2.2.2.2.2.1), mv.2.2.2.2.2.2.2.2.2)) rfl e2.2.1 e2.2.2.1 e3 (by omega)
  rw [f1, g1, bind_s, bind_s]
  dsimp only
  by_cases k0 : z = 0
  · rw [if_pos k0, if_pos k0, f2.1, show zgt s2 3 = s2 3 from rfl, g2.1]
    exact ⟨_, _, _, _, rfl, rfl⟩
  rw [if_neg k0, if_neg k0]
  by_cases k1 : z = 1
  · rw [if_pos k1, if_pos k1, f3, show zgt s2 2 = s2 2 from rfl, g4, e2.2.2.2]
    exact ⟨_, _, _, _, rfl, rfl⟩
  rw [if_neg k1, if_neg k1, p_heavy f2 g3, q_heavy g2 g3, bind_s, bind_s]
  exact ⟨_, _, _, _, rfl, rfl⟩
theorem coverL {h : HV} {s0 : zAI} {c : Tm} {r : Nat → Nat} {m n kk : Nat} (hB : BF h s0 c r m) (hk : kk ≤ 4) (hc : c.2.2.2.1 < 10) (hn : n ≤ 20) {xv : XV} {mv : MV} (hx : xv.1 = h) (hm : mv.2.2.2.2.2.2.2.1 = s0) : ∀ (k i fuel : Nat) (v : CV) (s tk : zAI), i + k = 21 → 1 ≤ i → k < fuel → ∃ (o1 : (Int32 × CV) ⊕ CV) (o2 : (Int32 × zAI × zAI) ⊕ (zAI × zAI)), fX6_cover_L39 fuel xv (nI kk) (nI n) (nI i) v = some o1 ∧ fX7_cover_L37 fuel mv (nI kk) (nI n) (nI i) s tk = some o2 ∧ ((∃ z v' s' tk', o1 = .inl (z, v') ∧ o2 = .inl (z, s', tk')) ∨ (∃ v' s' tk', o1 = .inr v' ∧ o2 = .inr (s', tk'))) := by
  have hy := hB.2.1
  intro k
  induction k with
  | zero =>
    intro i fuel v s tk hi h1 hf
    obtain ⟨f, rfl⟩ : ∃ f, fuel = f + 1 := ⟨fuel - 1, by omega⟩
    rw [fX6_cover_L39, fX7_cover_L37, if_pos (show (20 : Int32) < nI i from nI_lt (a := 20) (by omega) (by omega)), if_pos (show (20 : Int32) < nI i from nI_lt (a := 20) (by omega) (by omega))]
    exact ⟨_, _, rfl, rfl, Or.inr ⟨_, _, _, rfl, rfl⟩⟩
  | succ k ih =>
    intro i fuel v s tk hi h1 hf
    obtain ⟨f, rfl⟩ : ∃ f, fuel = f + 1 := ⟨fuel - 1, by omega⟩
    obtain ⟨v1, e1, e2, e3, -⟩ := p_start hB (xv.1, xv.2.1, v, xv.2.2.2) hx s
    obtain ⟨v2, s2, p1, p2, p3, -, -, -, -, -, p9⟩ := put_ok e2 hc (kk := kk) (tt := i) (dd := 0) hk ⟨h1, by omega⟩ (by omega)
    have p1' : fX0_putOver v1 (nI kk) (nI i) 0 = some v2 := p1
    have p2' : fX7_addCoat (tri s0 s) (nI kk) (nI i) 0 = some (nI c.2.2.2.1, s2) := p2
    have e3' : RW h.2.1 s2 r m := e3.keep (fun q a b => p9 q (by omega))
    obtain ⟨res, v3, f1, f2, f3⟩ := p_upto (h := h) (r := r) (m := m) (lim := 0) (xv := (xv.1, xv.2.1, v2, xv.2.2.2)) (n := n) hx (by omega) (by omega) e3' rfl p3.1 p3.2.2.1 (by show c.2.2.2.2 + n < 100000; omega)
    obtain ⟨s3, tk3, g1, g2⟩ := q_goOn (r := r) (m := m) (n := n) (by omega) (mv := (mv.1, mv.2.1, mv.2.2.1, mv.2.2.2.1, mv.2.2.2.2.1, mv.2.2.2.2.2.1, mv.2.2.2.2.2.2.1, mv.2.2.2.2.2.2.2.1, s2, mv.2.2.2.2.2.2.2.2.2.1, mv.2.2.2.2.2.2.2.2.2.2.1, mv.2.2.2.2.2.2.2.2.2.2.2.1, tk, mv.2.2.2.2.2.2.2.2.2.2.2.2.2)) rfl p3.2.1 p3.2.2.1 e3' (by show c.2.2.2.2 + n < 100000; omega)
    have hls := lsum_le e3' n (putT c kk i 0)
    rw [fX6_cover_L39, fX7_cover_L37, if_neg (show ¬ (20 : Int32) < nI i from nI_nlt (a := 20) (by omega) (by omega)), if_neg (show ¬ (20 : Int32) < nI i from nI_nlt (a := 20) (by omega) (by omega)), e1, q_begin, bind_s, bind_s]
    dsimp only
    rw [hm, p1', p2', bind_s, bind_s]
    dsimp only
    rw [hm] at g1
    rw [show fX6_leaksOfTrialUpTo (xv.1, xv.2.1, v2, xv.2.2.2) (nI n) 0 = _ from f1, g1, bind_s, bind_s]
    dsimp only
    by_cases q : lsum r m n (putT c kk i 0) = 0
    · have hr : res = 0 := by omega
      rw [hr, q, if_pos (show nI 0 = (0 : Int32) from rfl), if_pos (show nI 0 = (0 : Int32) from rfl)]
      exact ⟨_, _, rfl, rfl, Or.inl ⟨_, _, _, _, rfl, rfl⟩⟩
    · rw [if_neg (nI_ne0 (by omega) (by omega)), if_neg (nI_ne0 (by omega) (by omega)), nI_1]
      exact ih (i + 1) f v3 s3 tk3 (by omega) (by omega) (by omega)
theorem o_cover {xv : XV} {mv : MV} (h : RH xv.1 mv.2.2.2.2.2.2.2.1) (x z : Int32) : ∃ a v' s' tk', fX6_cover xv x z = some (a, v') ∧ fX7_cover mv x z = some (a, s', tk') := by
  unfold fX6_cover fX7_cover
  by_cases q : rng x 0 4
  rotate_left
  · rw [isKind_f q, in_f q, bind_s, bind_s, if00, if00]
    exact ⟨_, _, _, _, rfl, rfl⟩
  rw [isKind_t q, in_t q, bind_s, bind_s, if10, if10]
  by_cases q2 : rng z 1 20
  rotate_left
  · rw [out_f q2, in_f q2, bind_s, bind_s, if10, if00]
    exact ⟨_, _, _, _, rfl, rfl⟩
  rw [out_t q2, in_t q2, bind_s, bind_s, if00, if10]
  obtain ⟨kk, k1, k2, rfl⟩ := rng_n (a := 0) (b := 4) (by omega) q (by omega)
  obtain ⟨n, n1, n2, rfl⟩ := rng_n (a := 1) (b := 20) (by omega) q2 (by omega)
  obtain ⟨c, r, m, hB⟩ := h.bf
  have hc10 := hB.1.2.2.1.1
  rw [hB.1.1.1, show zgt mv.2.2.2.2.2.2.2.1 3 = mv.2.2.2.2.2.2.2.1 3 from rfl, hB.1.2.1.1]
  by_cases q3 : c.2.2.2.1 = 10
  · rw [q3, if_neg (by decide), if_pos (show nI 10 = (10 : Int32) from rfl)]
    exact ⟨_, _, _, _, rfl, rfl⟩
  rw [if_pos (show nI c.2.2.2.1 < (10 : Int32) from nI_lt (b := 10) (by omega) (by omega)), if_neg (by rw [show (10 : Int32) = nI 10 from rfl, neq (by omega) (by omega)]; exact q3)]
  obtain ⟨o1, o2, g1, g2, g3⟩ := coverL hB k2 (by omega) n2 (xv := xv) (mv := mv) rfl rfl 20 1 zF xv.2.2.1 mv.2.2.2.2.2.2.2.2.1 mv.2.2.2.2.2.2.2.2.2.2.2.2.1 rfl (by omega) (zF_lt (by omega))
  rw [show fX6_cover_L39 zF xv (nI kk) (nI n) 1 xv.2.2.1 = some o1 from g1, show fX7_cover_L37 zF mv (nI kk) (nI n) 1 mv.2.2.2.2.2.2.2.2.1 mv.2.2.2.2.2.2.2.2.2.2.2.2.1 = some o2 from g2, bind_s, bind_s]
  rcases g3 with ⟨z, v', s', tk', rfl, rfl⟩ | ⟨v', s', tk', rfl, rfl⟩
  · exact ⟨_, _, _, _, rfl, rfl⟩
  · exact ⟨_, _, _, _, rfl, rfl⟩
