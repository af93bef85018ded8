/-! how deep the water goes; how hot a fire -/
theorem nsub2 (a b c : Nat) : nI a - nI b - nI c = nI a - nI (b + c) := by
  rw [← nI_add, Int32.sub_eq_add_neg, Int32.sub_eq_add_neg, Int32.sub_eq_add_neg, Int32.neg_add, Int32.sub_eq_add_neg, Int32.add_assoc]
theorem nsub0 (a : Nat) : nI a - nI 0 = nI a := by rw [nsub (Nat.zero_le _)]; rfl
def rch (f : Nat → Nat) (w : Nat) : Nat → Nat → Nat
  | 0, _ => 0
  | i + 1, S => if w ≤ S then 0 else 1 + rch f w i (S + f i)
theorem rch_0 (f : Nat → Nat) (w : Nat) : ∀ (i S : Nat), w ≤ S → rch f w i S = 0
  | 0, _, _ => rfl
  | i + 1, S, h => by unfold rch; rw [if_pos h]
theorem p_reachL {v : CV} {c : Tm} {w : Nat} (hR : RCt v c) (hO : OKt c) (hw : w ≤ 99) : ∀ (i S acc fuel : Nat), i ≤ c.2.2.2.1 → i < fuel → S ≤ 1000 - 50 * i → fX0_reachedBy_L12 fuel v (nI acc) (nI w - nI S) (nI i - 1) = some (nI (acc + rch (cap c.1 c.2.1 c.2.2.1 c.2.2.2.2) w i S)) := by
  obtain ⟨o1, o2, o3⟩ := hO
  intro i
  induction i with
  | zero =>
    intro S acc fuel hi hf hS
    obtain ⟨f, rfl⟩ : ∃ f, fuel = f + 1 := ⟨fuel - 1, by omega⟩
    rw [fX0_reachedBy_L12, if_pos (by simp only [zlit, nneg0])]
    rfl
  | succ i ih =>
    intro S acc fuel hi hf hS
    obtain ⟨f, rfl⟩ : ∃ f, fuel = f + 1 := ⟨fuel - 1, by omega⟩
    obtain ⟨b1, b2, b3, b4⟩ := o3 i (by omega)
    obtain ⟨c1, c2, c3⟩ := hR.2.2 i (by omega)
    have hcp : cap c.1 c.2.1 c.2.2.1 c.2.2.2.2 i ≤ 44 := capN_le b3
    have hmo : fX0_mostTaken v (nI i) = some (nI (cap c.1 c.2.1 c.2.2.1 c.2.2.2.2 i)) := p_most (by omega) c1 c2 c3 hR.2.1 b1 b3 b4 o2
    rw [fX0_reachedBy_L12, nI_pred, if_neg (nI_pos (by omega)), hmo, bind_s, zm1, nsub2, nI_1]
    unfold rch
    by_cases q : w ≤ S
    · rw [if_pos (show nI w - nI S ≤ (0 : Int32) by rw [show (0 : Int32) = nI 0 from rfl, nsub_le (by omega) (by omega) (by omega)]; omega), if_pos q]
      rfl
    · rw [if_neg (show ¬ nI w - nI S ≤ (0 : Int32) by rw [show (0 : Int32) = nI 0 from rfl, nsub_le (by omega) (by omega) (by omega)]; omega), if_neg q, ih _ _ f (by omega) (by omega) (by omega), Nat.add_assoc]
theorem q_reachL {mv : MV} {c : Tm} {w : Nat} (hR : RSt mv.2.2.2.2.2.2.2.1 c) (hO : OKt c) (hw : w ≤ 99) : ∀ (i S acc fuel : Nat), i ≤ c.2.2.2.1 → i < fuel → S ≤ 1000 - 50 * i → fX7_reach_L47 fuel mv (nI w - nI S) (nI acc) (nI i - 1) = some (nI (acc + rch (cap c.1 c.2.1 c.2.2.1 c.2.2.2.2) w i S)) := by
  obtain ⟨o1, o2, o3⟩ := hO
  intro i
  induction i with
  | zero =>
    intro S acc fuel hi hf hS
    obtain ⟨f, rfl⟩ : ∃ f, fuel = f + 1 := ⟨fuel - 1, by omega⟩
    rw [fX7_reach_L47, if_pos (by simp only [zlit, nneg0])]
    rfl
  | succ i ih =>
    intro S acc fuel hi hf hS
    obtain ⟨f, rfl⟩ : ∃ f, fuel = f + 1 := ⟨fuel - 1, by omega⟩
    obtain ⟨b1, b2, b3, b4⟩ := o3 i (by omega)
    obtain ⟨c1, c2, c3⟩ := hR.2.2 i (by omega)
    have hcp : cap c.1 c.2.1 c.2.2.1 c.2.2.2.2 i ≤ 44 := capN_le b3
    have hmo : fX7_capOf mv.2.2.2.2.2.2.2.1 (nI i) = some (nI (cap c.1 c.2.1 c.2.2.1 c.2.2.2.2 i)) := q_cap (by omega) c1 c2 c3 hR.2.1 b1 b3 b4 o2
    rw [fX7_reach_L47, nI_pred, if_neg (nI_pos (by omega)), hmo, bind_s, bind_s, zm1, nsub2, nI_1, Int32.add_zero]
    unfold rch
    by_cases q : w ≤ S
    · rw [if_pos (show nI w - nI S ≤ (0 : Int32) by rw [show (0 : Int32) = nI 0 from rfl, nsub_le (by omega) (by omega) (by omega)]; omega), if_pos q, ih _ _ f (by omega) (by omega) (by omega), rch_0 _ _ _ _ (by omega)]
    · rw [if_neg (show ¬ nI w - nI S ≤ (0 : Int32) by rw [show (0 : Int32) = nI 0 from rfl, nsub_le (by omega) (by omega) (by omega)]; omega), if_neg q, ih _ _ f (by omega) (by omega) (by omega), Nat.add_assoc]
theorem o_reach {xv : XV} {mv : MV} (h : RH xv.1 mv.2.2.2.2.2.2.2.1) (x : Int32) : ∃ a, fX6_reach xv x = some a ∧ fX7_reach mv x = some a := by
  unfold fX6_reach fX7_reach
  by_cases q : rng x (-1) 99
  rotate_left
  · rw [out_f q, in_f q, bind_s, bind_s, if10, if00]
    exact ⟨_, rfl, rfl⟩
  rw [out_t q, in_t q, bind_s, bind_s, if00, if10]
  obtain ⟨c, r, m, hB⟩ := h.bf
  have hc10 := hB.1.2.2.1.1
  have hy := hB.2.1
  have key : ∀ w : Nat, w ≤ 99 → fX0_reachedBy xv.1.2.2.1 (nI w) = some (nI (rch (cap c.1 c.2.1 c.2.2.1 c.2.2.2.2) w c.2.2.2.1 0)) ∧ fX7_reach_L47 zF mv (nI w) 0 (zgt mv.2.2.2.2.2.2.2.1 3 - 1) = some (nI (rch (cap c.1 c.2.1 c.2.2.1 c.2.2.2.2) w c.2.2.2.1 0)) := by
    intro w hw
    constructor
    · have := p_reachL hB.1.1 hB.1.2.2.1 hw c.2.2.2.1 0 0 zF (Nat.le_refl _) (zF_lt (by omega)) (by omega)
      rw [nsub0, Nat.zero_add] at this
      unfold fX0_reachedBy
      rw [hB.1.1.1, show fX0_reachedBy_L12 zF xv.1.2.2.1 0 (nI w) (nI c.2.2.2.1 - 1) = _ from this, bind_s]
    · have := q_reachL (mv := mv) hB.1.2.1 hB.1.2.2.1 hw c.2.2.2.1 0 0 zF (Nat.le_refl _) (zF_lt (by omega)) (by omega)
      rw [nsub0, Nat.zero_add] at this
      rw [show zgt mv.2.2.2.2.2.2.2.1 3 = mv.2.2.2.2.2.2.2.1 3 from rfl, hB.1.2.1.1]
      exact this
  by_cases q1 : x = -1
  · rw [if_pos q1, if_pos q1, hB.1.1.2.1, show zgt mv.2.2.2.2.2.2.2.1 0 = mv.2.2.2.2.2.2.2.1 0 from rfl, hB.1.2.1.2.1, p_rain hB.2.2.1 (by omega), q_rain hB.2.2.1 (by omega), bind_s, bind_s]
    have hr := rnY_le hB.2.2.1 c.2.2.2.2
    rw [(key _ (by omega)).1, (key _ (by omega)).2]
    exact ⟨_, rfl, rfl⟩
  · rw [if_neg q1, if_neg q1]
    obtain ⟨w, w1, w2, rfl⟩ : ∃ w, 0 ≤ w ∧ w ≤ 99 ∧ x = nI w := by
      refine rng_n (a := 0) (b := 99) (by omega) ⟨?_, q.2⟩ (by omega)
      rw [Int32.le_iff_toInt_le]
      have h1 := Int32.le_iff_toInt_le.mp q.1
      have h2 : (-1 : Int32).toInt = -1 := by decide
      have h3 : ¬ x.toInt = -1 := fun e => q1 (Int32.toInt_inj.mp (by rw [h2]; exact e))
      rw [h2] at h1
      rw [nI_toInt (by omega)]
      omega
    rw [(key _ w2).1, (key _ w2).2]
    exact ⟨_, rfl, rfl⟩
theorem q_hot0 {mv : MV} {n lo : Nat} (hn : n ≤ 10) (h3 : mv.2.2.2.2.2.2.2.1 3 - nI (n - lo) = nI lo) (hlo : lo ≤ n) : ∀ (k i fuel : Nat) (acc : Int32), lo + k = i → i ≤ n → k < fuel → ∃ a, fX7_hot_L30 fuel mv (nI (n - lo)) acc 0 (nI i - 1) = some (a, 0) := by
  intro k
  induction k with
  | zero =>
    intro i fuel acc hi hin hf
    obtain ⟨f, rfl⟩ : ∃ f, fuel = f + 1 := ⟨fuel - 1, by omega⟩
    rw [fX7_hot_L30, show zgt mv.2.2.2.2.2.2.2.1 3 = mv.2.2.2.2.2.2.2.1 3 from rfl, h3, if_pos (by rw [show (1 : Int32) = nI 1 from rfl, nsub_lt (by omega) (by omega) (by omega)]; omega)]
    exact ⟨_, rfl⟩
  | succ k ih =>
    intro i fuel acc hi hin hf
    obtain ⟨f, rfl⟩ : ∃ f, fuel = f + 1 := ⟨fuel - 1, by omega⟩
    rw [fX7_hot_L30, show zgt mv.2.2.2.2.2.2.2.1 3 = mv.2.2.2.2.2.2.2.1 3 from rfl, h3, if_neg (by rw [show (1 : Int32) = nI 1 from rfl, nsub_lt (by omega) (by omega) (by omega)]; omega), if00, show nI i - 1 = nI (i - 1) by rw [show (1 : Int32) = nI 1 from rfl, nsub (by omega)], zm1]
    simp (disch := omega) only [zlit, nI_add, zix_n, zgrd_t]
    exact ih (i - 1) f _ (by omega) (by omega) (by omega)
theorem hotL {xv : XV} {mv : MV} {c : Tm} (hS : Sm xv.1.2.2.1 mv.2.2.2.2.2.2.2.1 c) {lo : Nat} (hlo : lo ≤ c.2.2.2.1) : ∀ (k i fuel acc : Nat), lo + k = i → i ≤ c.2.2.2.1 → k < fuel → acc ≤ 30 * (10 - i) → ∃ (o : Int32 ⊕ Int32) (a b : Int32), fX6_hot_L32 fuel xv (nI (c.2.2.2.1 - lo)) (nI acc) (nI i - 1) = some o ∧ fX7_hot_L30 fuel mv (nI (c.2.2.2.1 - lo)) (nI acc) 1 (nI i - 1) = some (a, b) ∧ ((o = .inl (-4) ∧ b = 0) ∨ (o = .inr a ∧ b = 1)) := by
  obtain ⟨s1, s2, s3, s4⟩ := hS
  obtain ⟨o1, o2, o3⟩ := id s3
  have h3 : mv.2.2.2.2.2.2.2.1 3 - nI (c.2.2.2.1 - lo) = nI lo := by rw [s2.1, nsub (by omega)]; congr 1; omega
  have h3' : nI c.2.2.2.1 - nI (c.2.2.2.1 - lo) = nI lo := by rw [← s2.1]; exact h3
  intro k
  induction k with
  | zero =>
    intro i fuel acc hi hin hf ha
    obtain ⟨f, rfl⟩ : ∃ f, fuel = f + 1 := ⟨fuel - 1, by omega⟩
    rw [fX6_hot_L32, fX7_hot_L30, show zgt mv.2.2.2.2.2.2.2.1 3 = mv.2.2.2.2.2.2.2.1 3 from rfl, h3, s1.1, h3', if_pos (by rw [show (1 : Int32) = nI 1 from rfl, nsub_lt (by omega) (by omega) (by omega)]; omega), if_pos (by rw [show (1 : Int32) = nI 1 from rfl, nsub_lt (by omega) (by omega) (by omega)]; omega)]
    exact ⟨_, _, _, rfl, rfl, Or.inr ⟨rfl, rfl⟩⟩
  | succ k ih =>
    intro i fuel acc hi hin hf ha
    obtain ⟨f, rfl⟩ : ∃ f, fuel = f + 1 := ⟨fuel - 1, by omega⟩
    obtain ⟨b1, b2, b3, b4⟩ := o3 (i - 1) (by omega)
    obtain ⟨c1, c2, c3⟩ := s1.2.2 (i - 1) (by omega)
    obtain ⟨e1, e2, e3⟩ := s2.2.2 (i - 1) (by omega)
    have hp : nI i - 1 = nI (i - 1) := by rw [show (1 : Int32) = nI 1 from rfl, nsub (by omega)]
    have hst : fX0_stopsFire xv.1.2.2.1 (nI (i - 1)) = if c.2.2.1 (i - 1) ≤ 6 then some 0 else some 1 := by
      unfold fX0_stopsFire
      rw [zix_n (by omega) (by omega), zgrd_t, zgt_n _ (by omega)]
      simp (disch := omega) only [zlit, c3, nle]
    rw [fX6_hot_L32, fX7_hot_L30, show zgt mv.2.2.2.2.2.2.2.1 3 = mv.2.2.2.2.2.2.2.1 3 from rfl, h3, s1.1, h3', if_neg (by rw [show (1 : Int32) = nI 1 from rfl, nsub_lt (by omega) (by omega) (by omega)]; omega), if_neg (by rw [show (1 : Int32) = nI 1 from rfl, nsub_lt (by omega) (by omega) (by omega)]; omega), if10, hp, zm1, hst, p_heavyOf s1 s3 (by omega)]
    rw [show (14 : Int32) = nI 14 from rfl, show (24 : Int32) = nI 24 from rfl, nI_add, nI_add, zix_n (by omega) (by omega), zgrd_t, zix_n (by omega) (by omega), zgrd_t, zgt_n _ (by omega), zgt_n _ (by omega), e2, e3, nI_add, nI_add]
    by_cases q : c.2.2.1 (i - 1) ≤ 6
    · rw [if_pos q, bind_s, if00, bind_s, if_neg (show ¬ (7 : Int32) ≤ nI (c.2.2.1 (i - 1)) from nI_ge (b := 7) (by omega) (by omega)), nI_add]
      exact ih (i - 1) f _ (by omega) (by omega) (by omega) (by omega)
    · rw [if_neg q, bind_s, if10, if_pos (show (7 : Int32) ≤ nI (c.2.2.1 (i - 1)) from nI_le (a := 7) (by omega) (by omega))]
      obtain ⟨a, g⟩ := q_hot0 (mv := mv) (n := c.2.2.2.1) (lo := lo) o1 h3 hlo k (i - 1) f (nI (acc + (c.2.1 (i - 1) + c.2.2.1 (i - 1)))) (by omega) (by omega) (by omega)
      exact ⟨_, _, _, rfl, g, Or.inl ⟨rfl, rfl⟩⟩
theorem o_hot {xv : XV} {mv : MV} (h : RH xv.1 mv.2.2.2.2.2.2.2.1) (x : Int32) : ∃ a, fX6_hot xv x = some a ∧ fX7_hot mv x = some a := by
  unfold fX6_hot fX7_hot
  obtain ⟨c, r, m, hB⟩ := h.bf
  have hc10 := hB.1.2.2.1.1
  rw [show zgt mv.2.2.2.2.2.2.2.1 3 = mv.2.2.2.2.2.2.2.1 3 from rfl, hB.1.1.1, hB.1.2.1.1]
  by_cases q : rng x 1 (nI c.2.2.2.1)
  rotate_left
  · rw [out_f q, in_f q, bind_s, bind_s, if10, if00]
    exact ⟨_, rfl, rfl⟩
  rw [out_t q, in_t q, bind_s, bind_s, if00, if10]
  have hc1 : 1 ≤ c.2.2.2.1 := by
    have e1 := Int32.le_iff_toInt_le.mp q.1
    have e2 := Int32.le_iff_toInt_le.mp q.2
    rw [nI_toInt (by omega)] at e2
    have : (1 : Int32).toInt = 1 := by decide
    omega
  obtain ⟨k, k1, k2, rfl⟩ := rng_n (a := 1) (b := c.2.2.2.1) (by omega) q hc1
  obtain ⟨o, a, b, g1, g2, g3⟩ := hotL hB.1 (lo := c.2.2.2.1 - k) (by omega) k c.2.2.2.1 zF 0 (by omega) (Nat.le_refl _) (zF_lt (by omega)) (by omega)
  rw [show c.2.2.2.1 - (c.2.2.2.1 - k) = k by omega] at g1 g2
  rw [show fX6_hot_L32 zF xv (nI k) 0 (nI c.2.2.2.1 - 1) = some o from g1, show fX7_hot_L30 zF mv (nI k) 0 1 (nI c.2.2.2.1 - 1) = some (a, b) from g2, bind_s, bind_s]
  dsimp only
  rcases g3 with ⟨rfl, rfl⟩ | ⟨rfl, rfl⟩
  · rw [if00]
    exact ⟨_, rfl, rfl⟩
  · rw [if10]
    show ∃ z, (if 999 < a then some (-4) else some a) = some z ∧ _
    by_cases qa : 999 < a
    · rw [if_pos qa]
      exact ⟨_, rfl, rfl⟩
    · rw [if_neg qa]
      exact ⟨_, rfl, rfl⟩
