/-! a roof taken over -/
theorem q_zeroL {mv : MV} : ∀ (e k fuel : Nat) (s : zAI), k + e = 407 → e < fuel → (∀ q, q < k → s q = 0) → ∃ s', fX7_roof_L2 fuel mv (nI k) s = some s' ∧ ∀ q, q < 407 → s' q = 0 := by
  intro e
  induction e with
  | zero =>
    intro k fuel s hk hf hs
    obtain ⟨f, rfl⟩ : ∃ f, fuel = f + 1 := ⟨fuel - 1, by omega⟩
    rw [fX7_roof_L2, if_pos (show (407 : Int32) ≤ nI k from nI_le (a := 407) (by omega) (by omega))]
    exact ⟨s, rfl, fun q hq => hs q (by omega)⟩
  | succ e ih =>
    intro k fuel s hk hf hs
    obtain ⟨f, rfl⟩ : ∃ f, fuel = f + 1 := ⟨fuel - 1, by omega⟩
    rw [fX7_roof_L2, if_neg (show ¬ (407 : Int32) ≤ nI k from nI_ge (b := 407) (by omega) (by omega)), zix_n (by omega) (by omega), zgrd_t, zpt_n _ (by omega), nI_1]
    refine ih (k + 1) f _ (by omega) (by omega) (fun q hq => ?_)
    by_cases j : q = k
    · rw [j, upd_s]
    · rw [upd_n j]
      exact hs q (by omega)
theorem over_ok {h : HV} {s s' : zAI} {t : TV} {c : Tm} {r : Nat → Nat} {m : Nat} (hH : RH h s) (hR : RD t s' c r m (s 1)) (old : zAI) : ∃ h', fX1_takeOver h t = some h' ∧ h'.2.2.1.2.2.2.2.1 = nI c.2.2.2.1 ∧ RH h' (va_cpy s' old 0 0 407) := by
  obtain ⟨r1, r2, r3, r4, r5, r6, r7, r8, w, w1, w2, w3⟩ := hR
  obtain ⟨⟨c0, g1, g2, g3, g4, g5⟩, -, -, -, kn, p, p1, p2, p3, p4, p5, p6⟩ := hH
  have h10 := r1.2.2.1.1
  have hc : ∀ q, q < 407 → va_cpy s' old 0 0 407 q = s' q := fun q hq => by rw [cpy_in (by omega) (by omega), show 0 + (q - 0) = q by omega]
  refine ⟨_, rfl, r1.1.1, ⟨c, Sm.congr (s := s') ?_ (sameC.rf _) (fun q hq => hc q (by omega)), by omega, ?_, ?_, fun j hj => ?_⟩, ⟨r, m, ⟨r4.1, ?_, r4.2.2.1, fun j hj => ?_⟩⟩, ?_, ⟨w, w1, w2, ?_⟩, 0, p, by omega, p2, rfl, ?_, p5, fun i hi => absurd hi (by omega)⟩
  · refine ⟨⟨r1.1.1, by rw [r2]; rfl, fun j hj => ?_⟩, r1.2.1, r1.2.2.1, r6.symm⟩
    obtain ⟨a, b, d⟩ := r1.1.2.2 j hj
    refine ⟨?_, ?_, ?_⟩
    · rw [← a]
      show va_cpy _ _ 0 0 10 j = _
      rw [cpy_in (by omega) (by omega), show 0 + (j - 0) = j by omega]
    · rw [← b]
      show va_cpy _ _ 0 0 10 j = _
      rw [cpy_in (by omega) (by omega), show 0 + (j - 0) = j by omega]
    · rw [← d]
      show va_cpy _ _ 0 0 10 j = _
      rw [cpy_in (by omega) (by omega), show 0 + (j - 0) = j by omega]
  · rw [hc 1 (by omega), r5]
    exact g3
  · rw [hc 1 (by omega), r5]
    exact g4
  · rw [hc _ (by omega), ← r3 j hj]
    show va_cpy _ _ 0 0 10 j = _
    rw [cpy_in (by omega) (by omega), show 0 + (j - 0) = j by omega]
  · rw [hc _ (by omega)]
    exact r4.2.1
  · have h8 := r4.2.2.1
    obtain ⟨a, b, d⟩ := r4.2.2.2 j hj
    refine ⟨?_, by rw [hc _ (by omega)]; exact b, d⟩
    rw [← a]
    show va_cpy _ _ 0 0 8 j = _
    rw [cpy_in (by omega) (by omega), show 0 + (j - 0) = j by omega]
  · rw [hc _ (by omega)]
    exact r8
  · rw [hc _ (by omega)]
    exact w3
  · rw [hc _ (by omega)]
    exact r7
theorem o_roof {xv : XV} {mv : MV} (hH : RH xv.1 mv.2.2.2.2.2.2.2.1) (h : RelT xv.2.2.2.2.1 mv.2.2.2.1 mv.2.2.2.2.1) : ∃ a h' t' n' p' y' s' rd', fX6_roof xv = some (a, h', t') ∧ fX7_roof mv = some (a, n', p', y', s', rd') ∧ RH h' s' ∧ RelT t' n' mv.2.2.2.2.1 := by
  obtain ⟨n, ch, h1, h2, h3, h4, h5⟩ := id h
  have h90 := h1.1
  obtain ⟨z, z1, z2⟩ := q_zeroL (mv := mv) 407 0 zF mv.2.2.2.2.2.2.2.2.2.1 rfl (zF_lt (by omega)) (fun q hq => by omega)
  have hT : ∀ t' : TV, Yl t' → RelT (t'.1, t'.2.1, t'.2.2.1, 0, t'.2.2.2.2) 0 mv.2.2.2.2.1 := fun t' hy => ⟨0, ch, ⟨by omega, fun j hj => by omega⟩, rfl, rfl, fun j hj => by omega, hy⟩
  unfold fX6_roof fX7_roof
  rw [show fX7_roof_L2 zF mv 0 mv.2.2.2.2.2.2.2.2.2.1 = _ from z1, bind_s]
  have hz : zpt z 1 (zgt mv.2.2.2.2.2.2.2.1 1) = upd z 1 (mv.2.2.2.2.2.2.2.1 1) := rfl
  rw [hz]
  rcases roof_ok h1 (t := xv.2.2.2.2.1) (mv := (mv.1, mv.2.1, mv.2.2.1, mv.2.2.2.1, mv.2.2.2.2.1, 0, mv.2.2.2.2.2.2.1, mv.2.2.2.2.2.2.2.1, mv.2.2.2.2.2.2.2.2.1, (upd z 1 (mv.2.2.2.2.2.2.2.1 1)), mv.2.2.2.2.2.2.2.2.2.2)) (d := mv.2.2.2.2.2.2.2.1 1) h2 (fun j hj => (h4 j hj).1) h5 ⟨h3, rfl, fun j hj => (h4 j hj).2⟩ (fun q a b => by dsimp only; rw [upd_n b]; exact z2 q a) (by dsimp only; rw [upd_s]) with ⟨q, t', y, s', a1, a2, a3, a4⟩ | ⟨q, t', y, s', c, r, m, a1, a2, a3, a4⟩
  · rw [a3, a4, bind_s, bind_s]
    dsimp only
    rw [if_neg (nI_pos (by omega)), if00]
    exact ⟨_, _, _, _, _, _, _, _, rfl, rfl, hH, hT t' a2⟩
  · rw [a3, a4, bind_s, bind_s]
    dsimp only
    rw [if_pos (by decide), if10]
    obtain ⟨hv, e1, e2, e3⟩ := over_ok (t := (t'.1, t'.2.1, t'.2.2.1, 0, t'.2.2.2.2)) hH a2 mv.2.2.2.2.2.2.2.1
    rw [e1, bind_s, show fX7_bring s' mv.2.2.2.2.2.2.2.1 0 0 407 = _ from q_bring s' mv.2.2.2.2.2.2.2.1 (i := 0) (j := 0) (n := 407) (by omega) (by omega), bind_s, e2]
    have e4 : zgt (va_cpy s' mv.2.2.2.2.2.2.2.1 0 0 407) 3 = nI c.2.2.2.1 := by
      show va_cpy s' mv.2.2.2.2.2.2.2.1 0 0 407 3 = _
      rw [cpy_in (by omega) (by omega)]
      exact a2.1.2.1.1
    rw [e4]
    exact ⟨_, _, _, _, _, _, _, _, rfl, rfl, e3, hT t' a1⟩
