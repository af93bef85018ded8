/-! stains -/
theorem stainL {h : HV} {xv : XV} {mv : MV} {r : Nat → Nat} {m n j a : Nat} (hx : xv.1 = h) (hj : j < 4) (ha : a + n ≤ 24) (hL : ∀ i, i < 24 → (xv.2.2.2.2.2.1 j).1 i = mv.2.2.1 (24 * j + i)) : ∀ (e x fuel : Nat) (v : CV) (s tk : zAI) (c : Tm), x + e = n → e + 1 < fuel → RCt v c → RSt s c → OKt c → RW h.2.1 s r m → c.2.2.2.2 + e < 100000 → ∃ v' s' tk', (fX6_trialLeaksAs_L3 fuel xv j (nI a) (nI n) (nI x) v = some (.inr v') ∧ fX7_isStain_L6 fuel mv (nI j) (nI a) (nI n) 1 (nI x) s tk = some (1, s', tk')) ∨ (fX6_trialLeaksAs_L3 fuel xv j (nI a) (nI n) (nI x) v = some (.inl (0, v')) ∧ fX7_isStain_L6 fuel mv (nI j) (nI a) (nI n) 1 (nI x) s tk = some (0, s', tk')) := by
  intro e
  induction e with
  | zero =>
    intro x fuel v s tk c he hf hR hS hO hW hy
    obtain ⟨g, rfl⟩ : ∃ g, fuel = g + 1 := ⟨fuel - 1, by omega⟩
    rw [fX6_trialLeaksAs_L3, fX7_isStain_L6, if_pos (nI_le (by omega) (by omega)), if_pos (nI_le (by omega) (by omega))]
    exact ⟨_, _, _, Or.inl ⟨rfl, rfl⟩⟩
  | succ e ih =>
    intro x fuel v s tk c he hf hR hS hO hW hy
    obtain ⟨g, rfl⟩ : ∃ g, fuel = g + 2 := ⟨fuel - 2, by omega⟩
    obtain ⟨v', a1, a2, a3⟩ := p_yot hR hO hW
    obtain ⟨tk', s', b1, b2, b3, b4, b5⟩ := q_yot hS hO hW tk
    rw [fX6_trialLeaksAs_L3, fX7_isStain_L6, if_neg (nI_ge (by omega) (by omega)), if_neg (nI_ge (by omega) (by omega)), if10, nI_add, zix_n (by omega) (by omega), zgrd_t, a1 (xv.1, xv.2.1, v, xv.2.2.2) hx rfl, bind_s, b1, bind_s]
    dsimp only
    rw [show (24 : Int32) = nI 24 from rfl, pk_mul, nI_add, nI_add, zix_n (by omega) (by omega), zgrd_t, zgt_n _ (by omega), zgt_n _ (by omega), hL _ (by omega), nI_1, show 24 * j + a + x = 24 * j + (a + x) by omega]
    by_cases q : mv.2.2.1 (24 * j + (a + x)) = (nI (lkc r m c)).toInt64
    · rw [if_pos (by rw [lg0]; exact q), if_pos (by rw [lg0]; exact q.symm)]
      exact ih (x + 1) (g + 1) v' s' tk' (nx r m c) (by omega) (by omega) a2 b2 (OKc.next hO (by omega)) b3 (by rw [nx_y]; omega)
    · rw [if_neg (by rw [lg0]; exact q), if_neg (by rw [lg0]; exact fun hh => q hh.symm), fX7_isStain_L6, if00]
      refine ⟨v', s', tk', Or.inr ⟨rfl, ?_⟩⟩
      by_cases q2 : nI n ≤ nI (x + 1)
      · rw [if_pos q2]
      · rw [if_neg q2]
theorem stain_ok {h : HV} {xv : XV} {mv : MV} {r : Nat → Nat} {m n j a : Nat} (hx : xv.1 = h) (hj : j < 4) (ha : a + n ≤ 24) (hL : ∀ i, i < 24 → (xv.2.2.2.2.2.1 j).1 i = mv.2.2.1 (24 * j + i)) {c : Tm} (hR : RCt xv.2.2.1 c) (hS : RSt mv.2.2.2.2.2.2.2.2.1 c) (hO : OKt c) (hW : RW h.2.1 mv.2.2.2.2.2.2.2.2.1 r m) (hy : c.2.2.2.2 + n < 100000) : ∃ b v' s' tk', (b = 0 ∨ b = 1) ∧ fX6_trialLeaksAs xv j (nI a) (nI n) = some (b, v') ∧ fX7_isStain mv (nI j) (nI a) (nI n) = some (b, s', tk') := by
  obtain ⟨v', s', tk', hh⟩ := stainL (xv := xv) (mv := mv) (r := r) (m := m) hx hj ha hL n 0 zF xv.2.2.1 mv.2.2.2.2.2.2.2.2.1 mv.2.2.2.2.2.2.2.2.2.2.2.2.1 c (Nat.zero_add n) (by have := zF_lt (i := 100) (by omega); omega) hR hS hO hW hy
  unfold fX6_trialLeaksAs fX7_isStain
  rcases hh with ⟨h1, h2⟩ | ⟨h1, h2⟩
  · rw [show fX6_trialLeaksAs_L3 zF xv j (nI a) (nI n) 0 xv.2.2.1 = _ from h1, show fX7_isStain_L6 zF mv (nI j) (nI a) (nI n) 1 0 mv.2.2.2.2.2.2.2.2.1 mv.2.2.2.2.2.2.2.2.2.2.2.2.1 = _ from h2, bind_s, bind_s]
    exact ⟨1, v', s', tk', Or.inr rfl, rfl, rfl⟩
  · rw [show fX6_trialLeaksAs_L3 zF xv j (nI a) (nI n) 0 xv.2.2.1 = _ from h1, show fX7_isStain_L6 zF mv (nI j) (nI a) (nI n) 1 0 mv.2.2.2.2.2.2.2.2.1 mv.2.2.2.2.2.2.2.2.2.2.2.2.1 = _ from h2, bind_s, bind_s]
    exact ⟨0, v', s', tk', Or.inl rfl, rfl, rfl⟩
theorem setK {v : CV} {s : zAI} {c : Tm} {i x : Nat} (hR : RCt v c) (hS : RSt s c) (hO : OKt c) (hi : i < c.2.2.2.1) (hx : x ≤ 4) : RCt (upd v.1 i (nI x), v.2) (unp c.1 i x, c.2) ∧ RSt (upd s (4 + i) (nI x)) (unp c.1 i x, c.2) ∧ OKt (unp c.1 i x, c.2) := by
  have h10 := hO.1
  refine ⟨⟨hR.1, hR.2.1, fun j hj => ?_⟩, ⟨by rw [upd_n (by omega)]; exact hS.1, by rw [upd_n (by omega)]; exact hS.2.1, fun j hj => ?_⟩, ⟨hO.1, hO.2.1, fun j hj => ?_⟩⟩
  · obtain ⟨a, b, d⟩ := hR.2.2 j hj
    refine ⟨?_, b, d⟩
    dsimp only
    by_cases q : j = i
    · rw [q, upd_s, unp_s]
    · rw [upd_n q, unp_n q]
      exact a
  · have hj' : j < c.2.2.2.1 := hj
    obtain ⟨a, b, d⟩ := hS.2.2 j hj
    refine ⟨?_, by rw [upd_n (by omega)]; exact b, by rw [upd_n (by omega)]; exact d⟩
    dsimp only
    by_cases q : j = i
    · rw [q, upd_s, unp_s]
    · rw [upd_n (by omega), unp_n q]
      exact a
  · obtain ⟨a, b, d, e⟩ := hO.2.2 j hj
    refine ⟨?_, b, d, e⟩
    dsimp only
    by_cases q : j = i
    · rw [q, unp_s]
      exact hx
    · rw [unp_n q]
      exact a
theorem setTh {v : CV} {s : zAI} {c : Tm} {i x : Nat} (hR : RCt v c) (hS : RSt s c) (hO : OKt c) (hi : i < c.2.2.2.1) (hx : 1 ≤ x ∧ x ≤ 20) : RCt (v.1, upd v.2.1 i (nI x), v.2.2) (c.1, unp c.2.1 i x, c.2.2) ∧ RSt (upd s (14 + i) (nI x)) (c.1, unp c.2.1 i x, c.2.2) ∧ OKt (c.1, unp c.2.1 i x, c.2.2) := by
  have h10 := hO.1
  refine ⟨⟨hR.1, hR.2.1, fun j hj => ?_⟩, ⟨by rw [upd_n (by omega)]; exact hS.1, by rw [upd_n (by omega)]; exact hS.2.1, fun j hj => ?_⟩, ⟨hO.1, hO.2.1, fun j hj => ?_⟩⟩
  · obtain ⟨a, b, d⟩ := hR.2.2 j hj
    refine ⟨a, ?_, d⟩
    dsimp only
    by_cases q : j = i
    · rw [q, upd_s, unp_s]
    · rw [upd_n q, unp_n q]
      exact b
  · have hj' : j < c.2.2.2.1 := hj
    obtain ⟨a, b, d⟩ := hS.2.2 j hj
    refine ⟨by rw [upd_n (by omega)]; exact a, ?_, by rw [upd_n (by omega)]; exact d⟩
    dsimp only
    by_cases q : j = i
    · rw [q, upd_s, unp_s]
    · rw [upd_n (by omega), unp_n q]
      exact b
  · obtain ⟨a, b, d, e⟩ := hO.2.2 j hj
    refine ⟨a, ?_, ?_, e⟩
    · dsimp only
      by_cases q : j = i
      · rw [q, unp_s]
        exact hx.1
      · rw [unp_n q]
        exact b
    · dsimp only
      by_cases q : j = i
      · rw [q, unp_s]
        exact hx.2
      · rw [unp_n q]
        exact d
theorem kindsL {h : HV} {s0 : zAI} {c : Tm} {r : Nat → Nat} {m n j a i : Nat} (hB : BF h s0 c r m) {xv : XV} {mv : MV} (hx : xv.1 = h) (hm : mv.2.2.2.2.2.2.2.1 = s0) (hj : j < 4) (ha : a + n ≤ 24) (hi : i < c.2.2.2.1) (hL : ∀ i, i < 24 → (xv.2.2.2.2.2.1 j).1 i = mv.2.2.1 (24 * j + i)) : ∀ (e x fuel : Nat) (acc : Int32) (v : CV) (s tk : zAI), x + e = 5 → e < fuel → ∃ acc' v' s' tk', fX6_kindsThatFit_L6 fuel xv j (nI i) (nI a) (nI n) acc (nI x) v = some (acc', v') ∧ fX7_stains_L74 fuel mv (nI i) (nI j) (nI a) (nI n) 0 acc (nI x) s tk = some (acc', s', tk') := by
  have hy := hB.2.1
  have h10 := hB.1.2.2.1.1
  intro e
  induction e with
  | zero =>
    intro x fuel acc v s tk he hf
    obtain ⟨g, rfl⟩ : ∃ g, fuel = g + 1 := ⟨fuel - 1, by omega⟩
    rw [fX6_kindsThatFit_L6, fX7_stains_L74, if_pos (show (5 : Int32) ≤ nI x from nI_le (a := 5) (by omega) (by omega)), if00, if_pos (show (4 : Int32) < nI x from nI_lt (a := 4) (by omega) (by omega))]
    exact ⟨_, _, _, _, rfl, rfl⟩
  | succ e ih =>
    intro x fuel acc v s tk he hf
    obtain ⟨g, rfl⟩ : ∃ g, fuel = g + 1 := ⟨fuel - 1, by omega⟩
    obtain ⟨v1, e1, e2, e3, -⟩ := p_start hB (xv.1, xv.2.1, v, xv.2.2.2) hx s
    obtain ⟨k1, k2, k3⟩ := setK (x := x) e2.1 e2.2.1 e2.2.2.1 hi (by omega)
    obtain ⟨b, v2, s2, tk2, b0, b1, b2⟩ := stain_ok (h := h) (xv := (xv.1, xv.2.1, (upd v1.1 i (nI x), v1.2), xv.2.2.2)) (mv := (mv.1, mv.2.1, mv.2.2.1, mv.2.2.2.1, mv.2.2.2.2.1, mv.2.2.2.2.2.1, mv.2.2.2.2.2.2.1, mv.2.2.2.2.2.2.2.1, (upd (tri s0 s) (4 + i) (nI x)), mv.2.2.2.2.2.2.2.2.2.1, mv.2.2.2.2.2.2.2.2.2.2.1, mv.2.2.2.2.2.2.2.2.2.2.2.1, tk, mv.2.2.2.2.2.2.2.2.2.2.2.2.2)) (r := r) (m := m) (n := n) (j := j) (a := a) hx hj ha hL k1 k2 k3 (e3.keep (fun q h1 _ => upd_n (by omega))) (by show c.2.2.2.2 + n < 100000; omega)
    rw [hm] at b2
    rw [fX6_kindsThatFit_L6, fX7_stains_L74, if_neg (show ¬ (5 : Int32) ≤ nI x from nI_ge (b := 5) (by omega) (by omega)), if00, if_neg (show ¬ (4 : Int32) < nI x from nI_nlt (a := 4) (by omega) (by omega)), e1, bind_s, q_begin, bind_s, if00, zix_n (by omega) (by omega), zgrd_t, zpt_n _ (by omega), b1, bind_s, show (4 : Int32) = nI 4 from rfl, nI_add, zix_n (by omega) (by omega), zgrd_t, zpt_n _ (by omega)]
    dsimp only
    rw [hm, b2, bind_s, nI_1]
    dsimp only
    rcases b0 with rfl | rfl
    · rw [if00, if00, zlet_e, Int32.or_zero]
      exact ih (x + 1) g acc v2 s2 tk2 (by omega) (by omega)
    · rw [if10, if10]
      simp only [zlet_e]
      exact ih (x + 1) g _ v2 s2 tk2 (by omega) (by omega)
theorem thicksL {h : HV} {s0 : zAI} {c : Tm} {r : Nat → Nat} {m n j a i : Nat} (hB : BF h s0 c r m) {xv : XV} {mv : MV} (hx : xv.1 = h) (hm : mv.2.2.2.2.2.2.2.1 = s0) (hj : j < 4) (ha : a + n ≤ 24) (hi : i < c.2.2.2.1) (hL : ∀ i, i < 24 → (xv.2.2.2.2.2.1 j).1 i = mv.2.2.1 (24 * j + i)) : ∀ (e x fuel : Nat) (acc : Int32) (v : CV) (s tk : zAI), x + e = 21 → 1 ≤ x → e < fuel → ∃ acc' v' s' tk', fX6_thicksThatFit_L6 fuel xv j (nI i) (nI a) (nI n) acc (nI x) v = some (acc', v') ∧ fX7_stains_L74 fuel mv (nI i) (nI j) (nI a) (nI n) 1 acc (nI x) s tk = some (acc', s', tk') := by
  have hy := hB.2.1
  have h10 := hB.1.2.2.1.1
  intro e
  induction e with
  | zero =>
    intro x fuel acc v s tk he h1 hf
    obtain ⟨g, rfl⟩ : ∃ g, fuel = g + 1 := ⟨fuel - 1, by omega⟩
    rw [fX6_thicksThatFit_L6, fX7_stains_L74, if_pos (show (20 : Int32) < nI x from nI_lt (a := 20) (by omega) (by omega)), if10, if_pos (show (20 : Int32) < nI x from nI_lt (a := 20) (by omega) (by omega))]
    exact ⟨_, _, _, _, rfl, rfl⟩
  | succ e ih =>
    intro x fuel acc v s tk he h1 hf
    obtain ⟨g, rfl⟩ : ∃ g, fuel = g + 1 := ⟨fuel - 1, by omega⟩
    obtain ⟨v1, e1, e2, e3, -⟩ := p_start hB (xv.1, xv.2.1, v, xv.2.2.2) hx s
    obtain ⟨k1, k2, k3⟩ := setTh (x := x) e2.1 e2.2.1 e2.2.2.1 hi (by omega)
    obtain ⟨b, v2, s2, tk2, b0, b1, b2⟩ := stain_ok (h := h) (xv := (xv.1, xv.2.1, (v1.1, upd v1.2.1 i (nI x), v1.2.2), xv.2.2.2)) (mv := (mv.1, mv.2.1, mv.2.2.1, mv.2.2.2.1, mv.2.2.2.2.1, mv.2.2.2.2.2.1, mv.2.2.2.2.2.2.1, mv.2.2.2.2.2.2.2.1, (upd (tri s0 s) (14 + i) (nI x)), mv.2.2.2.2.2.2.2.2.2.1, mv.2.2.2.2.2.2.2.2.2.2.1, mv.2.2.2.2.2.2.2.2.2.2.2.1, tk, mv.2.2.2.2.2.2.2.2.2.2.2.2.2)) (r := r) (m := m) (n := n) (j := j) (a := a) hx hj ha hL k1 k2 k3 (e3.keep (fun q h1 _ => upd_n (by omega))) (by show c.2.2.2.2 + n < 100000; omega)
    rw [hm] at b2
    rw [fX6_thicksThatFit_L6, fX7_stains_L74, if_neg (show ¬ (20 : Int32) < nI x from nI_nlt (a := 20) (by omega) (by omega)), if10, if_neg (show ¬ (20 : Int32) < nI x from nI_nlt (a := 20) (by omega) (by omega)), e1, bind_s, q_begin, bind_s, if10, zix_n (by omega) (by omega), zgrd_t, zpt_n _ (by omega), b1, bind_s, show (14 : Int32) = nI 14 from rfl, nI_add, zix_n (by omega) (by omega), zgrd_t, zpt_n _ (by omega)]
    dsimp only
    rw [hm, b2, bind_s]
    dsimp only
    rcases b0 with rfl | rfl
    · rw [if00, if00, zlet_e, Int32.or_zero, show nI x + 1 = nI (x + 1) from nI_1 x]
      exact ih (x + 1) g acc v2 s2 tk2 (by omega) (by omega) (by omega)
    · rw [if10, if10]
      simp only [zlet_e]
      rw [show nI x + 1 = nI (x + 1) from nI_1 x]
      exact ih (x + 1) g _ v2 s2 tk2 (by omega) (by omega) (by omega)
theorem o_stains {xv : XV} {mv : MV} (h : RH xv.1 mv.2.2.2.2.2.2.2.1) (hL : RelS xv.2.2.2.2.2.1 mv.1 mv.2.1 mv.2.2.1) (x y z w u t : Int32) : ∃ a v' s' tk', fX6_stains xv x y z w u t = some (a, v') ∧ fX7_stains mv x y z w u t = some (a, s', tk') := by
  unfold fX6_stains fX7_stains
  obtain ⟨c, r, m, hB⟩ := h.bf
  have h10 := hB.1.2.2.1.1
  rcases coat_cases (v := xv.1.2.2.1) (mv := mv) hB.1.1.1 hB.1.2.1.1 h10 x with ⟨i, hi, rfl, c1, c2⟩ | ⟨c1, c2⟩
  rotate_left
  · rw [c1, c2, bind_s, bind_s, if00, if00]
    exact ⟨_, _, _, _, rfl, rfl⟩
  rw [c1, c2, bind_s, bind_s, if10, if10]
  by_cases q2 : rng y 0 3
  rotate_left
  · rw [sh_f q2, ms_f q2, bind_s, bind_s, if00, if00]
    exact ⟨_, _, _, _, rfl, rfl⟩
  rw [sh_t q2, ms_t q2, bind_s, bind_s, if10, if10]
  by_cases q3 : rng z 0 3
  rotate_left
  · rw [ln_f q3, in_f q3, bind_s, bind_s, if00, if00]
    exact ⟨_, _, _, _, rfl, rfl⟩
  rw [ln_t q3, in_t q3, bind_s, bind_s, if10, if10]
  by_cases q4 : rng u 1 8
  rotate_left
  · rw [out_f q4, in_f q4, bind_s, bind_s, if10, if00]
    exact ⟨_, _, _, _, rfl, rfl⟩
  rw [out_t q4, in_t q4, bind_s, bind_s, if00, if10]
  by_cases q5 : rng t 0 1
  rotate_left
  · rw [out_f q5, in_f q5, bind_s, bind_s, if10, if00]
    exact ⟨_, _, _, _, rfl, rfl⟩
  rw [out_t q5, in_t q5, bind_s, bind_s, if00, if10]
  obtain ⟨k, -, k2, rfl⟩ := rng_n (a := 0) (b := 3) (by omega) q2 (by omega)
  rw [zix_n (by omega) (by omega), zgrd_t, nI_clamp (by omega)]
  rcases rfs_cases hL (k := k) (by omega) z w u with ⟨e, e1, e2, e3, e4⟩ | ⟨e3, e4, e5, a, b, rfl, rfl, e8⟩
  · rw [e3, e4, bind_s, bind_s, if_neg e1, if_neg e2]
    exact ⟨_, _, _, _, rfl, rfl⟩
  rw [e3, e4, bind_s, bind_s, if_pos (by decide), if_pos rfl]
  obtain ⟨sz, z1, z2, z3, z4, z5⟩ := hL k (by omega)
  obtain ⟨o, -, o2, rfl⟩ := rng_n (a := 0) (b := 1) (by omega) q5 (by omega)
  rcases (show o = 0 ∨ o = 1 by omega) with rfl | rfl
  · obtain ⟨acc, v', s', tk', g1, g2⟩ := kindsL hB (xv := xv) (mv := mv) rfl rfl (j := k) (by omega) e8 hi z4 5 0 zF 0 xv.2.2.1 mv.2.2.2.2.2.2.2.2.1 mv.2.2.2.2.2.2.2.2.2.2.2.2.1 rfl (zF_lt (by omega))
    unfold fX6_kindsThatFit
    rw [nI_0, if00, show fX6_kindsThatFit_L6 zF xv k (nI i) (nI a) (nI b) 0 0 xv.2.2.1 = _ from g1, show fX7_stains_L74 zF mv (nI i) (nI k) (nI a) (nI b) 0 0 0 mv.2.2.2.2.2.2.2.2.1 mv.2.2.2.2.2.2.2.2.2.2.2.2.1 = _ from g2, bind_s, bind_s, bind_s]
    exact ⟨_, _, _, _, rfl, rfl⟩
  · obtain ⟨acc, v', s', tk', g1, g2⟩ := thicksL hB (xv := xv) (mv := mv) rfl rfl (j := k) (by omega) e8 hi z4 20 1 zF 0 xv.2.2.1 mv.2.2.2.2.2.2.2.2.1 mv.2.2.2.2.2.2.2.2.2.2.2.2.1 rfl (by omega) (zF_lt (by omega))
    unfold fX6_thicksThatFit
    rw [show nI 1 = (1 : Int32) from rfl, if10, show fX6_thicksThatFit_L6 zF xv k (nI i) (nI a) (nI b) 0 1 xv.2.2.1 = _ from g1, show fX7_stains_L74 zF mv (nI i) (nI k) (nI a) (nI b) 1 0 1 mv.2.2.2.2.2.2.2.2.1 mv.2.2.2.2.2.2.2.2.2.2.2.2.1 = _ from g2, bind_s, bind_s, bind_s]
    exact ⟨_, _, _, _, rfl, rfl⟩
