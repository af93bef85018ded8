/-! calls that tell: class and reference answer the same, and the relation stays -/
theorem if00 {α : Type} (a b : α) : (if (0 : Int32) = 0 then a else b) = a := if_pos rfl
theorem if10 {α : Type} (a b : α) : (if (1 : Int32) = 0 then a else b) = b := if_neg (by decide)
theorem zget (s : zAI) (i : Nat) (h : i < 2147483648) : zgt s (OfNat.ofNat i) = s i := zgt_n s h
theorem o_walls {xv : XV} {mv : MV} (h : RH xv.1 mv.2.2.2.2.2.2.2.1) (x : Int32) : ∃ r h' s', fX6_walls xv x = some (r, h') ∧ fX7_walls mv x = some (r, s') ∧ RH h' s' := by
  unfold fX6_walls fX7_walls
  by_cases q : rng x 1 200
  · rw [out_t q, in_t q, bind_s, bind_s, if00, if10]
    obtain ⟨w, w1, w2, rfl⟩ := rng_n (a := 1) (b := 200) (by omega) q (by omega)
    refine ⟨_, _, _, rfl, by rw [h.2.2.1]; rfl, ?_⟩
    rw [show (44 : Int32) = nI 44 from rfl, zpt_n _ (by omega)]
    obtain ⟨h1, ⟨r, m, h2⟩, h3, h4, kn, p, h5, h6, h7, h8, h9, h10⟩ := h
    refine ⟨h1.congr (sameC.rf _) (fun q hq => upd_n (by omega)), ⟨r, m, h2.keep (fun q a b => upd_n (by omega))⟩, upd_s.symm, ⟨w, w1, w2, upd_s⟩, kn, p, h5, h6, h7, by rw [upd_n (by omega)]; exact h8, h9, fun i hi => (h10 i hi).congr (sameC.rf _) (fun q hq => upd_n (by omega))⟩
  · rw [out_f q, in_f q, bind_s, bind_s, if10, if00]
    exact ⟨_, _, _, rfl, rfl, h⟩
theorem o_rain {xv : XV} {mv : MV} (h : RH xv.1 mv.2.2.2.2.2.2.2.1) (x : Int32) : ∃ r h' s', fX6_rain xv x = some (r, h') ∧ fX7_rain mv x = some (r, s') ∧ RH h' s' := by
  unfold fX6_rain fX7_rain
  by_cases q : rng x 0 40
  · rw [out_t q, in_t q, bind_s, bind_s, if00, if10]
    obtain ⟨w, w1, w2, rfl⟩ := rng_n (a := 0) (b := 40) (by omega) q (by omega)
    obtain ⟨h1, ⟨r, m, h2⟩, h3, h4, kn, p, h5, h6, h7, h8, h9, h10⟩ := id h
    obtain ⟨a1, a2, a3, a4⟩ := id h2
    rw [a1, show zgt mv.2.2.2.2.2.2.2.1 45 = mv.2.2.2.2.2.2.2.1 45 from rfl, a2]
    by_cases qm : m = 8
    · subst qm
      rw [if_neg (by decide), if_pos (show nI 8 = (8 : Int32) from rfl)]
      exact ⟨_, _, _, rfl, rfl, h⟩
    · rw [if_pos (show nI m < (8 : Int32) from nI_lt (a := m) (b := 8) (by omega) (by omega)), if_neg (by rw [show (8 : Int32) = nI 8 from rfl, neq (by omega) (by omega)]; exact qm)]
      have e1 : fX5_append xv.1.2.1 (nI w) = some (upd xv.1.2.1.1 m (nI w), nI (m + 1)) := by
        unfold fX5_append
        rw [a1, if_neg (show ¬ (8 : Int32) ≤ nI m from nI_ge (a := m) (b := 8) (by omega) (by omega)), zix_n (by omega) (by omega), zgrd_t, zpt_n _ (by omega), nI_1]
      have e2 : fX7_addRain mv.2.2.2.2.2.2.2.1 (nI w) = some (upd (upd mv.2.2.2.2.2.2.2.1 (46 + m) (nI w)) 45 (nI (m + 1))) := by
        unfold fX7_addRain
        rw [show zgt mv.2.2.2.2.2.2.2.1 45 = mv.2.2.2.2.2.2.2.1 45 from rfl, a2]
        simp (disch := omega) only [zlit, nI_add, zix_n, zgrd_t, zpt_n, zgt_n, upd_n, a2]
      rw [e1, e2, bind_s, bind_s]
      refine ⟨_, _, _, rfl, by rw [show ∀ f : zAI, zgt f 45 = f 45 from fun _ => rfl, upd_s], ?_⟩
      have hn := a3
      refine ⟨h1.congr (sameC.rf _) (fun q hq => by rw [upd_n (by omega), upd_n (by omega)]), ⟨fun j => if j = m then w else r j, m + 1, rfl, upd_s, by omega, fun j hj => ?_⟩, by rw [upd_n (by omega), upd_n (by omega)]; exact h3, by rw [upd_n (by omega), upd_n (by omega)]; exact h4, kn, p, h5, h6, h7, by rw [upd_n (by omega), upd_n (by omega)]; exact h8, h9, fun i hi => (h10 i hi).congr (sameC.rf _) (fun q hq => by rw [upd_n (by omega), upd_n (by omega)])⟩
      by_cases qj : j = m
      · subst qj
        dsimp only
        rw [upd_s, upd_n (by omega), upd_s, if_pos rfl]
        exact ⟨rfl, rfl, w2⟩
      · dsimp only
        rw [upd_n qj, upd_n (by omega), upd_n (by omega), if_neg qj]
        exact a4 j (by omega)
  · rw [out_f q, in_f q, bind_s, bind_s, if10, if00]
    exact ⟨_, _, _, rfl, rfl, h⟩
theorem o_dry {xv : XV} {mv : MV} (h : RH xv.1 mv.2.2.2.2.2.2.2.1) : ∃ r h' s', fX6_dry xv = some (r, h') ∧ fX7_dry mv = some (r, s') ∧ RH h' s' := by
  unfold fX6_dry fX7_dry
  obtain ⟨h1, ⟨r, m, a1, a2, a3, a4⟩, h3, h4, kn, p, h5, h6, h7, h8, h9, h10⟩ := h
  refine ⟨_, _, _, rfl, by rw [show zgt mv.2.2.2.2.2.2.2.1 45 = mv.2.2.2.2.2.2.2.1 45 from rfl, a1, a2], ?_⟩
  rw [show (45 : Int32) = nI 45 from rfl, zpt_n _ (by omega)]
  exact ⟨h1.congr (sameC.rf _) (fun q hq => upd_n (by omega)), ⟨r, 0, rfl, upd_s, by omega, fun j hj => by omega⟩, by rw [upd_n (by omega)]; exact h3, by rw [upd_n (by omega)]; exact h4, kn, p, h5, h6, h7, by rw [upd_n (by omega)]; exact h8, h9, fun i hi => (h10 i hi).congr (sameC.rf _) (fun q hq => upd_n (by omega))⟩
theorem o_seed {xv : XV} {mv : MV} (h : RH xv.1 mv.2.2.2.2.2.2.2.1) (x : Int32) : ∃ r h' s', fX6_seed xv x = some (r, h') ∧ fX7_seed mv x = some (r, s') ∧ RH h' s' := by
  unfold fX6_seed fX7_seed
  by_cases q : 0 ≤ x
  · rw [if_pos q, if_pos q]
    obtain ⟨c, c1, c2, c3, c4, c5⟩ := h.1
    refine ⟨_, _, _, rfl, by rw [c3]; rfl, ?_⟩
    rw [show (1 : Int32) = nI 1 from rfl, zpt_n _ (by omega)]
    refine h.coats ⟨c, ?_, c2, upd_s.symm, ?_, fun j hj => ?_⟩ (fun q hq _ => upd_n (by omega))
    · obtain ⟨s1, s2, s3, s4⟩ := c1
      refine ⟨⟨s1.1, s1.2.1, s1.2.2⟩, ⟨by rw [upd_n (by omega)]; exact s2.1, by rw [upd_n (by omega)]; exact s2.2.1, fun j hj => ?_⟩, s3, by rw [upd_n (by omega)]; exact s4⟩
      rw [upd_n (by omega), upd_n (by omega), upd_n (by omega)]
      exact s2.2.2 j hj
    · obtain ⟨j, j1, j2⟩ := nI_of (x := x) (i_le_nlt q)
      exact ⟨j, j1, by rw [upd_s, j2]⟩
    · rw [upd_n (by omega)]
      exact c5 j hj
  · rw [if_neg q, if_neg q]
    exact ⟨_, _, _, rfl, rfl, h⟩
theorem o_rains {xv : XV} {mv : MV} (h : RH xv.1 mv.2.2.2.2.2.2.2.1) (x : Int32) : ∃ r, fX6_rains xv x = some r ∧ fX7_rains mv x = some r := by
  unfold fX6_rains fX7_rains
  by_cases q : rng x 0 40
  · rw [out_t q, in_t q, bind_s, bind_s, if00, if10]
    obtain ⟨w, w1, w2, rfl⟩ := rng_n (a := 0) (b := 40) (by omega) q (by omega)
    obtain ⟨c, c1, c2, c3, c4, c5⟩ := h.1
    obtain ⟨r, m, h2⟩ := h.2.1
    rw [c1.1.2.1, show zgt mv.2.2.2.2.2.2.2.1 0 = mv.2.2.2.2.2.2.2.1 0 from rfl, c1.2.1.2.1, nI_add, p_rain h2 (by omega), q_rain h2 (by omega)]
    exact ⟨_, rfl, rfl⟩
  · rw [out_f q, in_f q, bind_s, bind_s, if10, if00]
    exact ⟨_, rfl, rfl⟩
theorem o_count {xv : XV} {mv : MV} (h : RH xv.1 mv.2.2.2.2.2.2.2.1) (x : Int32) : ∃ r, fX6_count xv x = some r ∧ fX7_count mv x = some r := by
  unfold fX6_count fX7_count
  obtain ⟨⟨c, c1, c2, c3, c4, c5⟩, ⟨r, m, h2⟩, h3, h4, kn, p, h5, h6, h7, h8, h9, h10⟩ := h
  obtain ⟨s1, s2, s3, s4⟩ := c1
  by_cases k0 : x = 0
  · rw [if_pos k0, if_pos k0]
    exact ⟨_, rfl, by rw [s1.1]; exact congrArg some s2.1⟩
  rw [if_neg k0, if_neg k0]
  by_cases k1 : x = 1
  · rw [if_pos k1, if_pos k1]
    exact ⟨_, rfl, by rw [h3]; rfl⟩
  rw [if_neg k1, if_neg k1]
  by_cases k2 : x = 2
  · rw [if_pos k2, if_pos k2]
    exact ⟨_, rfl, by rw [h2.1]; exact congrArg some h2.2.1⟩
  rw [if_neg k2, if_neg k2]
  by_cases k3 : x = 3
  · rw [if_pos k3, if_pos k3]
    exact ⟨_, rfl, by rw [s1.2.1]; exact congrArg some s2.2.1⟩
  rw [if_neg k3, if_neg k3]
  by_cases k4 : x = 4
  · rw [if_pos k4, if_pos k4]
    exact ⟨_, rfl, by rw [s4]; rfl⟩
  rw [if_neg k4, if_neg k4]
  by_cases k5 : x = 5
  · rw [if_pos k5, if_pos k5, p_heavy s1 s3, q_heavy s2 s3]
    exact ⟨_, rfl, rfl⟩
  rw [if_neg k5, if_neg k5]
  by_cases k6 : x = 6
  · rw [if_pos k6, if_pos k6, p_thick s1 s3, q_thick s2 s3]
    exact ⟨_, rfl, rfl⟩
  rw [if_neg k6, if_neg k6]
  by_cases k7 : x = 7
  · rw [if_pos k7, if_pos k7, p_heavy s1 s3, q_heavy s2 s3, h3]
    simp only [bind_s]
    rw [show zgt mv.2.2.2.2.2.2.2.1 44 = mv.2.2.2.2.2.2.2.1 44 from rfl]
    by_cases hq : mv.2.2.2.2.2.2.2.1 44 < nI (ds (fun j => c.2.1 j + c.2.2.1 j) 0 c.2.2.2.1)
    · rw [if_pos hq]
      exact ⟨_, rfl, rfl⟩
    · rw [if_neg hq]
      exact ⟨_, rfl, rfl⟩
  rw [if_neg k7, if_neg k7]
  by_cases k8 : x = 8
  · rw [if_pos k8, if_pos k8]
    exact ⟨_, rfl, by rw [h7]; exact congrArg some h8⟩
  rw [if_neg k8, if_neg k8]
  exact ⟨_, rfl, rfl⟩
theorem o_of {xv : XV} {mv : MV} (h : RH xv.1 mv.2.2.2.2.2.2.2.1) (x z : Int32) : ∃ r, fX6_of xv x z = some r ∧ fX7_of mv x z = some r := by
  unfold fX6_of fX7_of
  obtain ⟨c, c1, c2, c3, c4, c5⟩ := h.1
  obtain ⟨s1, s2, s3, s4⟩ := c1
  have hn := s3.1
  rcases coat_cases (v := xv.1.2.2.1) (mv := mv) s1.1 s2.1 hn x with ⟨j, hj, rfl, e1, e2⟩ | ⟨e1, e2⟩
  · obtain ⟨b1, b2, b3, b4⟩ := s3.2.2 j hj
    obtain ⟨u1, u2, u3⟩ := s1.2.2 j hj
    obtain ⟨w1, w2, w3⟩ := s2.2.2 j hj
    rw [e1, e2, bind_s, bind_s, if10, if10]
    have z1 : zix (nI j) 10 = true := zix_n (by omega) (by omega)
    by_cases k0 : z = 0
    · rw [if_pos k0, if_pos k0, z1, zgrd_t, zgt_n _ (by omega), u1]
      simp (disch := omega) only [zlit, nI_add, zix_n, zgrd_t, zgt_n, w1]
      exact ⟨_, rfl, rfl⟩
    rw [if_neg k0, if_neg k0]
    by_cases k1 : z = 1
    · rw [if_pos k1, if_pos k1, z1, zgrd_t, zgt_n _ (by omega), u2]
      simp (disch := omega) only [zlit, nI_add, zix_n, zgrd_t, zgt_n, w2]
      exact ⟨_, rfl, rfl⟩
    rw [if_neg k1, if_neg k1]
    by_cases k2 : z = 2
    · rw [if_pos k2, if_pos k2, z1, zgrd_t, zgt_n _ (by omega), u3]
      simp (disch := omega) only [zlit, nI_add, zix_n, zgrd_t, zgt_n, w3]
      exact ⟨_, rfl, rfl⟩
    rw [if_neg k2, if_neg k2]
    by_cases k3 : z = 3
    · rw [if_pos k3, if_pos k3, z1, zgrd_t, zgt_n _ (by omega), c5 j hj]
      simp (disch := omega) only [zlit, nI_add, zix_n, zgrd_t, zgt_n]
      exact ⟨_, rfl, rfl⟩
    rw [if_neg k3, if_neg k3]
    by_cases k4 : z = 4
    · have m1 : fX0_mostTaken xv.1.2.2.1 (nI j) = some _ := p_most (by omega) u1 u2 u3 s1.2.1 b1 b3 b4 s3.2.1
      have m2 : fX7_capOf mv.2.2.2.2.2.2.2.1 (nI j) = some _ := q_cap (by omega) w1 w2 w3 s2.2.1 b1 b3 b4 s3.2.1
      rw [if_pos k4, if_pos k4, m1, m2]
      exact ⟨_, rfl, rfl⟩
    rw [if_neg k4, if_neg k4]
    by_cases k5 : z = 5
    · have m1 : fX0_mostTakenAbove xv.1.2.2.1 (nI j) = some (nI (ds (cap c.1 c.2.1 c.2.2.1 c.2.2.2.2) (j + 1) (c.2.2.2.1 - (j + 1)))) := by
        unfold fX0_mostTakenAbove
        have := p_aboveL s1 s3 (c.2.2.2.1 - (j + 1)) (j + 1) zF 0 (by omega) (zF_lt (by omega))
        rw [nI_1, show (0 : Int32) = nI 0 from rfl, this, bind_s, Nat.zero_add]
      have m2 : fX7_above mv (nI j) = some (nI (ds (cap c.1 c.2.1 c.2.2.1 c.2.2.2.2) (j + 1) (c.2.2.2.1 - (j + 1)))) := by
        unfold fX7_above
        have := q_aboveL s2 s3 (c.2.2.2.1 - (j + 1)) (j + 1) zF 0 (by omega) (zF_lt (by omega))
        rw [nI_1, show (0 : Int32) = nI 0 from rfl, this, bind_s, Nat.zero_add]
      rw [if_pos k5, if_pos k5, m1, m2]
      exact ⟨_, rfl, rfl⟩
    rw [if_neg k5, if_neg k5]
    exact ⟨_, rfl, rfl⟩
  · rw [e1, e2, bind_s, bind_s, if00, if00]
    exact ⟨_, rfl, rfl⟩
theorem o_undo {xv : XV} {mv : MV} (h : RH xv.1 mv.2.2.2.2.2.2.2.1) : ∃ r h' s', fX6_undo xv = some (r, h') ∧ fX7_undo mv = some (r, s') ∧ RH h' s' := by
  unfold fX6_undo fX7_undo fX1_goBack
  obtain ⟨h1, ⟨r, m, h2⟩, h3, h4, kn, p, h5, h6, h7, h8, h9, h10⟩ := id h
  rw [h7, show zgt mv.2.2.2.2.2.2.2.1 54 = mv.2.2.2.2.2.2.2.1 54 from rfl, h8, h9]
  by_cases q : kn = 0
  · subst q
    rw [if_pos (show nI 0 = (0 : Int32) from rfl), if_pos (show nI 0 = (0 : Int32) from rfl)]
    exact ⟨_, _, _, rfl, rfl, h⟩
  · have hne : ¬ nI kn = (0 : Int32) := nI_ne0 (by omega) (by omega)
    rw [if_neg hne, if_neg hne, if_neg hne]
    have hp : nI p + 8 - 1 - (nI p + 8 - 1) / 8 * 8 = nI ((p + 7) % 8) := by
      rw [show (8 : Int32) = nI 8 from rfl, show (1 : Int32) = nI 1 from rfl, nI_add, nsub (by omega), nrem (by omega) (by omega) (by omega)]
      rfl
    rw [hp, zix_n (by omega) (by omega), zgrd_t, nI_clamp (by omega)]
    obtain ⟨v', e1, e2⟩ := p_become xv.1.2.2.1 (xv.1.2.2.2.1 ((p + 7) % 8))
    rw [e1, bind_s, bind_s, show (54 : Int32) = nI 54 from rfl, show (55 : Int32) = nI 55 from rfl, show (44 : Int32) = nI 44 from rfl, show (1 : Int32) = nI 1 from rfl, zpt_n _ (by omega), zgt_n _ (by omega), upd_s, nsub (by omega), pk_mul, nI_add, show (0 : Int32) = nI 0 from rfl, q_bringS _ (by omega) (by omega) (by omega), bind_s, zgt_n _ (by omega), cpy_out (by omega), upd_s]
    refine ⟨_, _, _, rfl, rfl, ?_, ⟨r, m, ?_⟩, ?_, ?_, kn - 1, (p + 7) % 8, by omega, by omega, rfl, ?_, rfl, fun i hi => ?_⟩
    · have := h10 (kn - 1) (by omega)
      rw [show (p + 8 - kn + (kn - 1)) % 8 = (p + 7) % 8 by omega] at this
      refine this.congr e2 (fun q hq => ?_)
      rw [cpy_in (by omega) (by omega), upd_n (by omega)]
      exact congrArg _ (by omega)
    · exact h2.keep (fun q a b => by rw [cpy_out (by omega), upd_n (by omega)])
    · rw [cpy_out (by omega), upd_n (by omega)]; exact h3
    · rw [cpy_out (by omega), upd_n (by omega)]; exact h4
    · rw [cpy_out (by omega), upd_s]
    · have := h10 i (by omega)
      rw [show (p + 8 - kn + i) % 8 = ((p + 7) % 8 + 8 - (kn - 1) + i) % 8 by omega] at this
      exact this.congr (sameC.rf _) (fun q hq => by rw [cpy_out (by omega), upd_n (by omega)])
