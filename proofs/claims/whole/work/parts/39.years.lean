/-! years and drifts, images -/
/-- one year of the house, behind its note -/
theorem RH.year {h : HV} {s : zAI} (hR : RH h s) {y : Nat} (hy : h.2.2.1.2.2.2.2.2.1 = nI y) (by1 : y + 1 ≤ 9999) (tk : zAI) : ∃ r v' tk' s', ((fX5_inYear h.2.1 h.2.2.1.2.2.2.2.2.1).bind (fun u => fX0_passYear h.2.2.1 u)) = some (r, v') ∧ fX7_yearIn tk s = some (r, tk', s') ∧ RH (h.1, h.2.1, v', h.2.2.2) s' ∧ v'.2.2.2.2.2.1 = nI (y + 1) := by
  obtain ⟨c, c1, c2, c3, c4, c5⟩ := hR.1
  obtain ⟨r, m, h2⟩ := hR.2.1
  have hn := c1.2.2.1.1
  have hyc : c.2.2.2.2 = y := (nI_eq (by omega) (by omega)).mp (c1.1.2.1.symm.trans hy)
  obtain ⟨v', tk', s', a1, a2, a3, a4, a5, a6, a7, a8⟩ := c1.yearIn h2 (by omega) tk
  refine ⟨_, v', tk', s', a1, a2, hR.coats ⟨_, a3, ?_, by rw [a5, a6]; exact c3, by rw [a6]; exact c4, fun j hj => ?_⟩ (fun q hq _ => a7 q (by omega)), ?_⟩
  · show c.2.2.2.2 + 1 ≤ 9999
    omega
  · have hj' : j < c.2.2.2.1 := Nat.lt_of_lt_of_le hj n1_le
    rw [a4, a7 _ (by omega)]
    exact c5 j hj'
  · rw [a3.1.2.1]
    show nI (c.2.2.2.2 + 1) = _
    rw [hyc]
theorem yearsL {xv : XV} {mv : MV} {n : Nat} (hn : n ≤ 40) : ∀ (m i fuel : Nat) (acc : Int32) (h : HV) (s tk : zAI) (y : Nat), i + m = n → m < fuel → RH h s → h.2.2.1.2.2.2.2.2.1 = nI y → y + m ≤ 9999 → ∃ r h' s' tk', fX6_liveThrough_L5 fuel xv (nI n) 0 acc (nI i) h = some (r, h') ∧ fX7_years_L33 fuel mv (nI n) acc (nI i) s tk = some (r, s', tk') ∧ RH h' s' := by
  intro m
  induction m with
  | zero =>
    intro i fuel acc h s tk y hi hf hR hy hb
    obtain ⟨f, rfl⟩ : ∃ f, fuel = f + 1 := ⟨fuel - 1, by omega⟩
    rw [fX6_liveThrough_L5, fX7_years_L33, if_pos (nI_le (by omega) (by omega)), if_pos (nI_le (by omega) (by omega))]
    exact ⟨_, _, _, _, rfl, rfl, hR⟩
  | succ m ih =>
    intro i fuel acc h s tk y hi hf hR hy hb
    obtain ⟨f, rfl⟩ : ∃ f, fuel = f + 1 := ⟨fuel - 1, by omega⟩
    obtain ⟨h1, s1, a1, a2, a3, a4, a5, a6, a7⟩ := note_at hR
    obtain ⟨r, v', tk', s', b1, b2, b3, b4⟩ := a3.year (y := y) (by rw [a6]; exact hy) (by omega) tk
    rw [fX6_liveThrough_L5, fX7_years_L33, if_neg (nI_ge (by omega) (by omega)), if_neg (nI_ge (by omega) (by omega)), a1, a2 (mv.1, mv.2.1, mv.2.2.1, mv.2.2.2.1, mv.2.2.2.2.1, mv.2.2.2.2.2.1, mv.2.2.2.2.2.2.1, s, mv.2.2.2.2.2.2.2.2.1, mv.2.2.2.2.2.2.2.2.2.1, mv.2.2.2.2.2.2.2.2.2.2.1, mv.2.2.2.2.2.2.2.2.2.2.2.1, tk, mv.2.2.2.2.2.2.2.2.2.2.2.2.2) rfl, bind_s, bind_s, if00, b2, bind_s]
    obtain ⟨w, w1, w2⟩ := Option.bind_eq_some_iff.mp b1
    rw [w1, bind_s, w2, bind_s, nI_1]
    exact ih (i + 1) f (acc + r) (h1.1, h1.2.1, v', h1.2.2.2) s' tk' (y + 1) (by omega) (by omega) b3 b4 (by omega)
theorem refuse_cases {xv : XV} {y : Nat} (hy : xv.1.2.2.1.2.2.2.2.2.1 = nI y) (by9 : y ≤ 9999) (x : Int32) (q : rng x 1 40) : ∃ n, 1 ≤ n ∧ n ≤ 40 ∧ x = nI n ∧ ((y + n ≤ 9999 ∧ fX6_refuseYears xv x = some 0) ∨ (9999 < y + n ∧ fX6_refuseYears xv x = some (-3))) := by
  obtain ⟨n, n1, n2, rfl⟩ := rng_n (a := 1) (b := 40) (by omega) q (by omega)
  refine ⟨n, n1, n2, rfl, ?_⟩
  unfold fX6_refuseYears
  rw [out_t q, bind_s, if00, hy, nI_add]
  by_cases q2 : y + n ≤ 9999
  · exact Or.inl ⟨q2, by rw [if_pos (show nI (y + n) ≤ (9999 : Int32) from nI_le (b := 9999) q2 (by omega))]⟩
  · exact Or.inr ⟨by omega, by rw [if_neg (show ¬ nI (y + n) ≤ (9999 : Int32) from nI_ge (a := 9999) (by omega) (by omega))]⟩
theorem o_years {xv : XV} {mv : MV} (h : RH xv.1 mv.2.2.2.2.2.2.2.1) (x : Int32) : ∃ r h' s' tk', fX6_years xv x = some (r, h') ∧ fX7_years mv x = some (r, s', tk') ∧ RH h' s' := by
  unfold fX6_years fX7_years
  obtain ⟨c, c1, c2, c3, c4, c5⟩ := h.1
  by_cases q : rng x 1 40
  rotate_left
  · have e : fX6_refuseYears xv x = some (-1) := by
      unfold fX6_refuseYears
      rw [out_f q]
      rfl
    rw [e, in_f q, bind_s, bind_s, if00, if_neg (by decide)]
    exact ⟨_, _, _, _, rfl, rfl, h⟩
  obtain ⟨n, n1, n2, rfl, hc⟩ := refuse_cases (xv := xv) c1.1.2.1 c2 x q
  rw [in_t q, bind_s, if10, show zgt mv.2.2.2.2.2.2.2.1 0 = mv.2.2.2.2.2.2.2.1 0 from rfl, c1.2.1.2.1, nI_add]
  rcases hc with ⟨q2, e⟩ | ⟨q2, e⟩
  · rw [e, bind_s, if_pos (by decide), if_pos (show nI (c.2.2.2.2 + n) ≤ (9999 : Int32) from nI_le (b := 9999) q2 (by omega))]
    obtain ⟨r, h', s', tk', a1, a2, a3⟩ := yearsL (xv := xv) (mv := mv) n2 n 0 zF 0 xv.1 mv.2.2.2.2.2.2.2.1 mv.2.2.2.2.2.2.2.2.2.2.2.2.1 c.2.2.2.2 (Nat.zero_add n) (zF_lt (by omega)) h c1.1.2.1 q2
    have a1' : fX6_liveThrough xv (nI n) 0 = some (r, h') := by
      unfold fX6_liveThrough
      rw [show fX6_liveThrough_L5 zF xv (nI n) 0 0 0 xv.1 = some (r, h') from a1]
      rfl
    rw [a1', bind_s, show fX7_years_L33 zF mv (nI n) 0 0 mv.2.2.2.2.2.2.2.1 mv.2.2.2.2.2.2.2.2.2.2.2.2.1 = some (r, s', tk') from a2, bind_s]
    exact ⟨_, _, _, _, rfl, rfl, a3⟩
  · rw [e, bind_s, if_neg (by decide), if_neg (show ¬ nI (c.2.2.2.2 + n) ≤ (9999 : Int32) from nI_ge (a := 9999) (by omega) (by omega))]
    exact ⟨_, _, _, _, rfl, rfl, h⟩
/-- the draw, as a number -/
def drN (q : Nat) : Nat := (q * 1103515245 + 12345) % 2147483648
theorem drN_lt (q : Nat) : drN q < 2147483648 := Nat.mod_lt _ (by omega)
theorem p_drN {q : Nat} (h : q < 2147483648) : ((((nI q).toInt64 * 1103515245) + 12345) &&& 2147483647).toInt32 = nI (drN q) := by
  rw [nI_l (by omega), show (1103515245 : Int64) = lN 1103515245 from rfl, show (12345 : Int64) = lN 12345 from rfl, show (2147483647 : Int64) = lN (2 ^ 31 - 1) from rfl, lN_mul, lN_add, fb_maskL, lN_i]
  rfl
theorem q_drN {q : Nat} (h : q < 2147483648) : ((((nI q).toInt64 * 1103515245) + 12345) - (((nI q).toInt64 * 1103515245) + 12345) / 2147483648 * 2147483648).toInt32 = nI (drN q) := by
  rw [nI_l (by omega), show (1103515245 : Int64) = lN 1103515245 from rfl, show (12345 : Int64) = lN 12345 from rfl, show (2147483648 : Int64) = lN 2147483648 from rfl, lN_mul, lN_add, pk_lRem (by omega) (by omega) (by omega), lN_i]
  rfl
/-- the reference's draw -/
def dref (u2 : zAI) : Option zAI := zlet (((((((zgt u2 1).toInt64) * 1103515245) + 12345) - ((((zgt u2 1).toInt64) * 1103515245) + 12345) / 2147483648 * 2147483648).toInt32) : Int32) (fun d3 => if (((zgt (zpt u2 1 d3) 1) / 65536) - ((zgt (zpt u2 1 d3) 1) / 65536) / 3 * 3) = 0 then (if (zgt (zpt u2 1 d3) 3) ≤ 0 then some (zpt u2 1 d3) else (zgrd (znz (zgt (zpt u2 1 d3) 3)) (fX7_pulls (zpt u2 1 d3) (((zgt (zpt u2 1 d3) 1) / 128) - ((zgt (zpt u2 1 d3) 1) / 128) / (zgt (zpt u2 1 d3) 3) * (zgt (zpt u2 1 d3) 3)) 1))) else some (zpt u2 1 d3))
theorem zgrd_bind {α β : Type} (b : Bool) (x : Option α) (k : α → Option β) : (zgrd b x).bind k = zgrd b (x.bind k) := by
  unfold zgrd
  split <;> rfl
theorem zlet_eq {α β : Type} (x : α) (k : α → Option β) : zlet x k = k x := rfl
theorem zlet_bind {α β γ : Type} (x : α) (k : α → Option β) (g : β → Option γ) : (zlet x k).bind g = zlet x (fun d => (k d).bind g) := rfl
theorem drift_eq (f : Nat) (v : MV) (x1 x2 x3 : Int32) (m7 m12 : zAI) : fX7_drift_L33 (f + 1) v x1 x2 x3 m7 m12 = if x1 ≤ x3 then (some (x2, m7, m12)) else (((fX7_note (v.1, v.2.1, v.2.2.1, v.2.2.2.1, v.2.2.2.2.1, v.2.2.2.2.2.1, v.2.2.2.2.2.2.1, m7, v.2.2.2.2.2.2.2.2.1, v.2.2.2.2.2.2.2.2.2.1, v.2.2.2.2.2.2.2.2.2.2.1, v.2.2.2.2.2.2.2.2.2.2.2.1, m12, v.2.2.2.2.2.2.2.2.2.2.2.2.2)) : Option zAI).bind (fun u2 => (dref u2).bind (fun s1 => (fX7_yearIn m12 s1).bind (fun u => fX7_drift_L33 f v x1 (x2 + u.1) (x3 + 1) u.2.2 u.2.1)))) := by
  rw [fX7_drift_L33]
  congr 1
  congr 1
  funext u2
  unfold dref
  rw [zlet_bind]
  congr 1
  funext d3
  by_cases q1 : (((zgt (zpt u2 1 d3) 1) / 65536) - ((zgt (zpt u2 1 d3) 1) / 65536) / 3 * 3) = 0
  · rw [if_pos q1, if_pos q1]
    by_cases q2 : (zgt (zpt u2 1 d3) 3) ≤ 0
    · rw [if_pos q2, if_pos q2, bind_s]
    · rw [if_neg q2, if_neg q2, zgrd_bind]
  · rw [if_neg q1, if_neg q1, bind_s]
theorem draw_gen {v : CV} {s : zAI} {c : Tm} (h : Sm v s c) {q e : Nat} (hd : e < 2147483648) (hv : v.2.2.2.2.2.2.2 = nI q) (hs : s 1 = nI q) (p_d : ((((nI q).toInt64 * 1103515245) + 12345) &&& 2147483647).toInt32 = nI e) (q_d : ((((nI q).toInt64 * 1103515245) + 12345) - (((nI q).toInt64 * 1103515245) + 12345) / 2147483648 * 2147483648).toInt32 = nI e) : ∃ v' s' c', fX0_drawOut v = some v' ∧ dref s = some s' ∧ Sm v' s' c' ∧ c'.2.2.2 = c.2.2.2 ∧ v'.2.2.2.2.2.2.2 = nI e ∧ s' 1 = nI e ∧ v'.2.2.2.1 = v.2.2.2.1 ∧ ∀ z, 34 ≤ z → s' z = s z := by
  obtain ⟨s1, s2, s3, s4⟩ := id h
  have hn := s3.1
  have hs0 : Sm (v.1, v.2.1, v.2.2.1, v.2.2.2.1, v.2.2.2.2.1, v.2.2.2.2.2.1, v.2.2.2.2.2.2.1, nI e) (upd s 1 (nI e)) c := by
    refine ⟨⟨s1.1, s1.2.1, s1.2.2⟩, ⟨by rw [upd_n (by omega)]; exact s2.1, by rw [upd_n (by omega)]; exact s2.2.1, fun j hj => ?_⟩, s3, by rw [upd_n (by omega)]; exact s4⟩
    rw [upd_n (by omega), upd_n (by omega), upd_n (by omega)]
    exact s2.2.2 j hj
  have base : ∃ v' s' c', some (v.1, v.2.1, v.2.2.1, v.2.2.2.1, v.2.2.2.2.1, v.2.2.2.2.2.1, v.2.2.2.2.2.2.1, nI e) = some v' ∧ some (upd s 1 (nI e)) = some s' ∧ Sm v' s' c' ∧ c'.2.2.2 = c.2.2.2 ∧ v'.2.2.2.2.2.2.2 = nI e ∧ s' 1 = nI e ∧ v'.2.2.2.1 = v.2.2.2.1 ∧ ∀ z, 34 ≤ z → s' z = s z := ⟨_, _, c, rfl, rfl, hs0, rfl, rfl, upd_s, rfl, fun z hz => upd_n (by omega)⟩
  unfold fX0_drawOut dref
  rw [hv, show zgt s 1 = s 1 from rfl, hs, p_d, q_d, zlet_eq, zlet_eq]
  rw [show (1 : Int32) = nI 1 from rfl, zpt_n _ (by omega), zgt_n _ (by omega), upd_s, s1.1, show (3 : Int32) = nI 3 from rfl, zgt_n _ (by omega), upd_n (by omega), s2.1, show (65536 : Int32) = nI 65536 from rfl, show (128 : Int32) = nI 128 from rfl, ndiv (a := e) (d := 65536) (by omega) (by omega) (by omega), ndiv (a := e) (d := 128) (by omega) (by omega) (by omega), nrem (a := e / 65536) (d := 3) (by omega) (by omega) (by omega)]
  by_cases q0 : c.2.2.2.1 = 0
  · rw [q0, if_pos (show nI 0 = (0 : Int32) from rfl), if_pos (show nI 0 ≤ (0 : Int32) by decide)]
    by_cases q3 : nI (e / 65536 % 3) = 0
    · rw [if_pos q3, ← q0, ← s1.1]; exact base
    · rw [if_neg q3, ← q0, ← s1.1]; exact base
  · rw [if_neg (nI_ne0 (by omega) (by omega)), if_neg (show ¬ nI c.2.2.2.1 ≤ 0 from nI_nle (by omega) (by omega))]
    by_cases q3 : nI (e / 65536 % 3) = 0
    rotate_left
    · rw [if_neg q3, if_neg q3, ← s1.1]; exact base
    rw [if_pos q3, if_pos q3, znz_n (by omega) (by omega), zgrd_t, zgrd_t, nrem (a := e / 128) (d := c.2.2.2.1) (by omega) (by omega) (by omega)]
    have hm := Nat.mod_lt (e / 128) (by omega : c.2.2.2.1 > 0)
    generalize e / 128 % c.2.2.2.1 = j at hm ⊢
    obtain ⟨b1, b2, b3, b4⟩ := s3.2.2 j hm
    have e4 : fX7_pulls (upd s 1 (nI e)) (nI j) (nI 1) = some (upd (upd s 1 (nI e)) (14 + j) (nI (max 1 (c.2.1 j - 1)))) := by
      unfold fX7_pulls
      rw [show (14 : Int32) = nI 14 from rfl, nI_add, zix_n (by omega) (by omega), zgrd_t, zgt_n _ (by omega), upd_n (by omega), (s2.2.2 j hm).2.1, zpt_n _ (by omega), zpt_n _ (by omega), show (1 : Int32) = nI 1 from rfl]
      by_cases q4 : 1 + 1 ≤ c.2.1 j
      · rw [if_pos (by rw [nle_sub (by omega) (by omega) (by omega)]; exact q4), nsub (by omega), Nat.max_eq_right (by omega)]
      · rw [if_neg (by rw [nle_sub (by omega) (by omega) (by omega)]; exact q4), Nat.max_eq_left (by omega)]
    rw [e4, zix_n (by omega) (by omega), zgrd_t, zgt_n _ (by omega), (s1.2.2 j hm).2.1]
    have hst := hs0.setT hm (tt := max 1 (c.2.1 j - 1)) (by omega)
    by_cases q5 : c.2.1 j ≤ 1
    · rw [if_pos (nI_le q5 (by omega)), ← s1.1]
      refine ⟨_, _, _, rfl, rfl, hst.congr (v := (v.1, v.2.1, v.2.2.1, v.2.2.2.1, v.2.2.2.2.1, v.2.2.2.2.2.1, v.2.2.2.2.2.2.1, nI e)) ⟨fun i hi => ⟨rfl, ?_, rfl, rfl⟩, rfl⟩ (fun _ _ => rfl), rfl, rfl, by rw [upd_n (by omega), upd_s], rfl, fun z hz => by rw [upd_n (by omega), upd_n (by omega)]⟩
      dsimp only
      by_cases qi : i = j
      · subst qi
        rw [upd_s, (s1.2.2 i hm).2.1]
        congr 1
        omega
      · rw [upd_n qi]
    · rw [if_neg (nI_ge (by omega) (by omega)), ← s1.1, zpt_n _ (by omega), nsub (by omega), show c.2.1 j - 1 = max 1 (c.2.1 j - 1) by omega]
      rw [show max 1 (max 1 (c.2.1 j - 1)) = max 1 (c.2.1 j - 1) by omega]
      exact ⟨_, _, _, rfl, rfl, hst, rfl, rfl, by rw [upd_n (by omega), upd_s], rfl, fun z hz => by rw [upd_n (by omega), upd_n (by omega)]⟩
theorem draw_ok {v : CV} {s : zAI} {c : Tm} (h : Sm v s c) {q : Nat} (hq : q < 2147483648) (hv : v.2.2.2.2.2.2.2 = nI q) (hs : s 1 = nI q) : ∃ v' s' c', fX0_drawOut v = some v' ∧ dref s = some s' ∧ Sm v' s' c' ∧ c'.2.2.2 = c.2.2.2 ∧ v'.2.2.2.2.2.2.2 = nI (drN q) ∧ s' 1 = nI (drN q) ∧ v'.2.2.2.1 = v.2.2.2.1 ∧ ∀ z, 34 ≤ z → s' z = s z := draw_gen h (drN_lt q) hv hs (p_drN hq) (q_drN hq)
theorem driftL {xv : XV} {mv : MV} {n : Nat} (hn : n ≤ 40) : ∀ (m i fuel : Nat) (acc : Int32) (h : HV) (s tk : zAI) (y : Nat), i + m = n → m < fuel → RH h s → h.2.2.1.2.2.2.2.2.1 = nI y → y + m ≤ 9999 → ∃ r h' s' tk', fX6_liveThrough_L5 fuel xv (nI n) 1 acc (nI i) h = some (r, h') ∧ fX7_drift_L33 fuel mv (nI n) acc (nI i) s tk = some (r, s', tk') ∧ RH h' s' := by
  intro m
  induction m with
  | zero =>
    intro i fuel acc h s tk y hi hf hR hy hb
    obtain ⟨f, rfl⟩ : ∃ f, fuel = f + 1 := ⟨fuel - 1, by omega⟩
    rw [fX6_liveThrough_L5, fX7_drift_L33, if_pos (nI_le (by omega) (by omega)), if_pos (nI_le (by omega) (by omega))]
    exact ⟨_, _, _, _, rfl, rfl, hR⟩
  | succ m ih =>
    intro i fuel acc h s tk y hi hf hR hy hb
    obtain ⟨f, rfl⟩ : ∃ f, fuel = f + 1 := ⟨fuel - 1, by omega⟩
    obtain ⟨h1, s1, a1, a2, a3, a4, a5, a6, a7⟩ := note_at hR
    obtain ⟨c, c1, c2, c3, ⟨q, c4, c4'⟩, c5⟩ := a3.1
    have hyc : c.2.2.2.2 = y := (nI_eq (by omega) (by omega)).mp (c1.1.2.1.symm.trans (by rw [a6]; exact hy))
    have hnc := c1.2.2.1.1
    obtain ⟨v2, s2, c', d1, d2, d3, d4, d5, d6, d7, d8⟩ := draw_ok c1 c4 (c3.trans c4') c4'
    have hR2 : RH (h1.1, h1.2.1, v2, h1.2.2.2) s2 := a3.coats ⟨c', d3, by rw [d4]; exact c2, by rw [d5, d6], ⟨_, drN_lt q, d6⟩, fun j hj => by
      rw [d4] at hj
      rw [d7, d8 _ (by omega)]
      exact c5 j hj⟩ (fun z hz _ => d8 z (by omega))
    have hy2 : v2.2.2.2.2.2.1 = nI y := by rw [d3.1.2.1, d4, hyc]
    obtain ⟨r, v', tk', s', b1, b2, b3, b4⟩ := hR2.year (y := y) hy2 (by omega) tk
    rw [fX6_liveThrough_L5, drift_eq, if_neg (nI_ge (by omega) (by omega)), if_neg (nI_ge (by omega) (by omega)), a1, a2 (mv.1, mv.2.1, mv.2.2.1, mv.2.2.2.1, mv.2.2.2.2.1, mv.2.2.2.2.2.1, mv.2.2.2.2.2.2.1, s, mv.2.2.2.2.2.2.2.2.1, mv.2.2.2.2.2.2.2.2.2.1, mv.2.2.2.2.2.2.2.2.2.2.1, mv.2.2.2.2.2.2.2.2.2.2.2.1, tk, mv.2.2.2.2.2.2.2.2.2.2.2.2.2) rfl, bind_s, bind_s, if10, d1, d2, bind_s, bind_s, b2, bind_s]
    obtain ⟨w, w1, w2⟩ := Option.bind_eq_some_iff.mp b1
    dsimp only at w1 w2
    rw [w1, bind_s, w2, bind_s, nI_1]
    exact ih (i + 1) f (acc + r) (h1.1, h1.2.1, v', h1.2.2.2) s' tk' (y + 1) (by omega) (by omega) b3 b4 (by omega)
theorem o_drift {xv : XV} {mv : MV} (h : RH xv.1 mv.2.2.2.2.2.2.2.1) (x : Int32) : ∃ r h' s' tk', fX6_drift xv x = some (r, h') ∧ fX7_drift mv x = some (r, s', tk') ∧ RH h' s' := by
  unfold fX6_drift fX7_drift
  obtain ⟨c, c1, c2, c3, c4, c5⟩ := h.1
  by_cases q : rng x 1 40
  rotate_left
  · have e : fX6_refuseYears xv x = some (-1) := by
      unfold fX6_refuseYears
      rw [out_f q]
      rfl
    rw [e, in_f q, bind_s, bind_s, if00, if_neg (by decide)]
    exact ⟨_, _, _, _, rfl, rfl, h⟩
  obtain ⟨n, n1, n2, rfl, hc⟩ := refuse_cases (xv := xv) c1.1.2.1 c2 x q
  rw [in_t q, bind_s, if10, show zgt mv.2.2.2.2.2.2.2.1 0 = mv.2.2.2.2.2.2.2.1 0 from rfl, c1.2.1.2.1, nI_add]
  rcases hc with ⟨q2, e⟩ | ⟨q2, e⟩
  · rw [e, bind_s, if_pos (by decide), if_pos (show nI (c.2.2.2.2 + n) ≤ (9999 : Int32) from nI_le (b := 9999) q2 (by omega))]
    obtain ⟨r, h', s', tk', a1, a2, a3⟩ := driftL (xv := xv) (mv := mv) n2 n 0 zF 0 xv.1 mv.2.2.2.2.2.2.2.1 mv.2.2.2.2.2.2.2.2.2.2.2.2.1 c.2.2.2.2 (Nat.zero_add n) (zF_lt (by omega)) h c1.1.2.1 q2
    have a1' : fX6_liveThrough xv (nI n) 1 = some (r, h') := by
      unfold fX6_liveThrough
      rw [show fX6_liveThrough_L5 zF xv (nI n) 1 0 0 xv.1 = some (r, h') from a1]
      rfl
    rw [a1', bind_s, show fX7_drift_L33 zF mv (nI n) 0 0 mv.2.2.2.2.2.2.2.1 mv.2.2.2.2.2.2.2.2.2.2.2.2.1 = some (r, s', tk') from a2, bind_s]
    exact ⟨_, _, _, _, rfl, rfl, a3⟩
  · rw [e, bind_s, if_neg (by decide), if_neg (show ¬ nI (c.2.2.2.2 + n) ≤ (9999 : Int32) from nI_ge (a := 9999) (by omega) (by omega))]
    exact ⟨_, _, _, _, rfl, rfl, h⟩
