/-! coats are laid, stripped, drawn, burnt; years go by -/
def putT (c : Tm) (kk tt dd : Nat) : Tm := (fun j => if j = c.2.2.2.1 then kk else c.1 j, fun j => if j = c.2.2.2.1 then tt else c.2.1 j, fun j => if j = c.2.2.2.1 then dd else c.2.2.1 j, c.2.2.2.1 + 1, c.2.2.2.2)
theorem put_ok {v : CV} {s : zAI} {c : Tm} (h : Sm v s c) (hn : c.2.2.2.1 < 10) {kk tt dd : Nat} (bk : kk ≤ 4) (bt : 1 ≤ tt ∧ tt ≤ 20) (bd : dd ≤ 9) : ∃ v' s', fX0_putOver v (nI kk) (nI tt) (nI dd) = some v' ∧ fX7_addCoat s (nI kk) (nI tt) (nI dd) = some (nI c.2.2.2.1, s') ∧ Sm v' s' (putT c kk tt dd) ∧ v'.2.2.2.2.2.2.2 = v.2.2.2.2.2.2.2 ∧ s' 1 = s 1 ∧ (∀ j, j < c.2.2.2.1 → v'.2.2.2.1 j = v.2.2.2.1 j ∧ s' (34 + j) = s (34 + j)) ∧ v'.2.2.2.1 c.2.2.2.1 = v.2.2.2.2.2.1 ∧ s' (34 + c.2.2.2.1) = s 0 ∧ ∀ q, 44 ≤ q → s' q = s q := by
  obtain ⟨s1, s2, s3, s4⟩ := h
  obtain ⟨k, t, d, n, y⟩ := c
  dsimp only at s1 s2 s3 s4 hn ⊢
  have e1 : fX0_putOver v (nI kk) (nI tt) (nI dd) = some (upd v.1 n (nI kk), upd v.2.1 n (nI tt), upd v.2.2.1 n (nI dd), upd v.2.2.2.1 n v.2.2.2.2.2.1, nI (n + 1), v.2.2.2.2.2) := by
    unfold fX0_putOver
    rw [s1.1, if_pos (show nI n < (10 : Int32) from nI_lt (b := 10) hn (by omega)), zix_n (by omega) (by omega), zgrd_t, zpt_n _ (by omega), zpt_n _ (by omega), zpt_n _ (by omega), zpt_n _ (by omega), nI_1]
  have e2 : fX7_addCoat s (nI kk) (nI tt) (nI dd) = some (nI n, upd (upd (upd (upd (upd s (4 + n) (nI kk)) (14 + n) (nI tt)) (24 + n) (nI dd)) (34 + n) (s 0)) 3 (nI (n + 1))) := by
    unfold fX7_addCoat
    rw [show zgt s 3 = s 3 from rfl, s2.1]
    simp (disch := omega) only [zlit, nI_add, zix_n, zgrd_t, zpt_n, zgt_n, upd_n, s2.1]
  refine ⟨_, _, e1, e2, ⟨⟨rfl, s1.2.1, fun j hj => ?_⟩, ⟨?_, ?_, fun j hj => ?_⟩, ⟨by show n + 1 ≤ 10; omega, s3.2.1, fun j hj => ?_⟩, ?_⟩, rfl, ?_, fun j hj => ⟨?_, ?_⟩, ?_, ?_, fun q hq => ?_⟩
  · unfold putT at hj ⊢
    dsimp only at hj ⊢
    by_cases q : j = n
    · subst q
      rw [upd_s, upd_s, upd_s, if_pos rfl, if_pos rfl, if_pos rfl]
      exact ⟨rfl, rfl, rfl⟩
    · simp only [upd_n q, if_neg q]
      exact s1.2.2 j (by omega)
  · simp (disch := omega) only [upd_s]; rfl
  · simp (disch := omega) only [upd_n]; exact s2.2.1
  · unfold putT at hj ⊢
    dsimp only at hj ⊢
    by_cases q : j = n
    · subst q
      rw [if_pos rfl, if_pos rfl, if_pos rfl]
      simp (disch := omega) only [upd_s, upd_n]
      exact ⟨trivial, trivial, trivial⟩
    · simp (disch := omega) only [upd_n, if_neg q]
      exact s2.2.2 j (by omega)
  · unfold putT at hj ⊢
    dsimp only at hj ⊢
    by_cases q : j = n
    · simp only [if_pos q]
      exact ⟨bk, bt.1, bt.2, bd⟩
    · simp only [if_neg q]
      exact s3.2.2 j (by omega)
  · simp (disch := omega) only [upd_n]; exact s4
  · simp (disch := omega) only [upd_n]
  · exact upd_n (by omega)
  · simp (disch := omega) only [upd_n]
  · exact upd_s
  · simp (disch := omega) only [upd_s, upd_n]
  · simp (disch := omega) only [upd_n]
theorem note_at {h : HV} {s : zAI} (hR : RH h s) : ∃ h' s', fX1_remember h = some h' ∧ (∀ mv : MV, mv.2.2.2.2.2.2.2.1 = s → fX7_note mv = some s') ∧ RH h' s' ∧ h'.1 = h.1 ∧ h'.2.1 = h.2.1 ∧ h'.2.2.1 = h.2.2.1 ∧ ∀ q, q < 54 → s' q = s q := by
  obtain ⟨h', s', a1, a2, a3, a4, a5, a6, a7⟩ := note_ok (mv := (s, s, fun _ => 0, 0, s, 0, 0, s, s, s, s, 0, s, s, s)) (h := h) hR
  refine ⟨h', s', a1, fun mv hm => ?_, a3, a4, a5, a6, a7⟩
  rw [← a2]
  unfold fX7_note
  rw [hm]
theorem isKind_t {x : Int32} (h : rng x 0 4) : fX6_isKind x = some 1 := by unfold fX6_isKind; rw [out_t h]; rfl
theorem isKind_f {x : Int32} (h : ¬ rng x 0 4) : fX6_isKind x = some 0 := by unfold fX6_isKind; rw [out_f h]; rfl
theorem o_lay {xv : XV} {mv : MV} (h : RH xv.1 mv.2.2.2.2.2.2.2.1) (x z : Int32) : ∃ r h' s', fX6_lay xv x z = some (r, h') ∧ fX7_lay mv x z = some (r, s') ∧ RH h' s' := by
  unfold fX6_lay fX7_lay
  by_cases q : rng x 0 4
  rotate_left
  · rw [isKind_f q, in_f q, bind_s, bind_s, if00, if00]
    exact ⟨_, _, _, rfl, rfl, h⟩
  rw [isKind_t q, in_t q, bind_s, bind_s, if10, if10]
  by_cases q2 : rng z 1 20
  rotate_left
  · rw [out_f q2, in_f q2, bind_s, bind_s, if10, if00]
    exact ⟨_, _, _, rfl, rfl, h⟩
  rw [out_t q2, in_t q2, bind_s, bind_s, if00, if10]
  obtain ⟨kk, k1, k2, rfl⟩ := rng_n (a := 0) (b := 4) (by omega) q (by omega)
  obtain ⟨tt, t1, t2, rfl⟩ := rng_n (a := 1) (b := 20) (by omega) q2 (by omega)
  obtain ⟨c, c1, c2, c3, c4, c5⟩ := h.1
  have hn := c1.2.2.1.1
  rw [c1.1.1, show zgt mv.2.2.2.2.2.2.2.1 3 = mv.2.2.2.2.2.2.2.1 3 from rfl, c1.2.1.1]
  by_cases q3 : c.2.2.2.1 = 10
  · rw [q3, if_neg (by decide), if_pos (show nI 10 = (10 : Int32) from rfl)]
    exact ⟨_, _, _, rfl, rfl, h⟩
  rw [if_pos (show nI c.2.2.2.1 < (10 : Int32) from nI_lt (b := 10) (by omega) (by omega)), if_neg (by rw [show (10 : Int32) = nI 10 from rfl, neq (by omega) (by omega)]; exact q3), p_heavy c1.1 c1.2.2.1, q_heavy c1.2.1 c1.2.2.1, bind_s, bind_s, show zgt mv.2.2.2.2.2.2.2.1 44 = mv.2.2.2.2.2.2.2.1 44 from rfl, h.2.2.1]
  by_cases q4 : nI (ds (fun j => c.2.1 j + c.2.2.1 j) 0 c.2.2.2.1) + nI tt ≤ mv.2.2.2.2.2.2.2.1 44
  rotate_left
  · rw [if_neg q4, if_neg q4]
    exact ⟨_, _, _, rfl, rfl, h⟩
  rw [if_pos q4, if_pos q4]
  obtain ⟨h', s', a1, a2, a3, a4, a5, a6, a7⟩ := note_at h
  rw [a1, a2 mv rfl, bind_s, bind_s]
  have c1' : Sm h'.2.2.1 s' c := c1.congr (by rw [a6]; exact sameC.rf _) (fun q hq => a7 q (by omega))
  obtain ⟨v', s'', p1, p2, p3, p4, p5, p6, p7, p8, p9⟩ := put_ok c1' (by omega) (kk := kk) (tt := tt) (dd := 0) k2 ⟨t1, t2⟩ (by omega)
  have p1' : fX0_putOver h'.2.2.1 (nI kk) (nI tt) 0 = some v' := p1
  have p2' : fX7_addCoat s' (nI kk) (nI tt) 0 = some (nI c.2.2.2.1, s'') := p2
  rw [p1', p2', bind_s, bind_s]
  have hsz : v'.2.2.2.2.1 = nI (c.2.2.2.1 + 1) := p3.1.1
  refine ⟨_, _, _, rfl, by rw [hsz, nI_pred], a3.coats ⟨putT c kk tt 0, p3, c2, ?_, ?_, fun j hj => ?_⟩ (fun q hq _ => p9 q hq)⟩
  · rw [p4, p5, a6, a7 1 (by omega)]; exact c3
  · rw [p5, a7 1 (by omega)]; exact c4
  · by_cases qj : j = c.2.2.2.1
    · subst qj
      rw [p7, p8, c1'.1.2.1, c1'.2.1.2.1]
    · have hj' : j < c.2.2.2.1 := by
        have : j < c.2.2.2.1 + 1 := hj
        omega
      rw [(p6 j hj').1, (p6 j hj').2, a6, a7 _ (by omega)]
      exact c5 j hj'
theorem o_strip {xv : XV} {mv : MV} (h : RH xv.1 mv.2.2.2.2.2.2.2.1) (x : Int32) : ∃ r h' s', fX6_strip xv x = some (r, h') ∧ fX7_strip mv x = some (r, s') ∧ RH h' s' := by
  unfold fX6_strip fX7_strip
  by_cases q : rng x 1 10
  rotate_left
  · rw [out_f q, in_f q, bind_s, bind_s, if10, if00]
    exact ⟨_, _, _, rfl, rfl, h⟩
  rw [out_t q, in_t q, bind_s, bind_s, if00, if10]
  obtain ⟨w, w1, w2, rfl⟩ := rng_n (a := 1) (b := 10) (by omega) q (by omega)
  obtain ⟨c, c1, c2, c3, c4, c5⟩ := h.1
  have hn := c1.2.2.1.1
  rw [c1.1.1, show zgt mv.2.2.2.2.2.2.2.1 3 = mv.2.2.2.2.2.2.2.1 3 from rfl, c1.2.1.1]
  by_cases q2 : w ≤ c.2.2.2.1
  rotate_left
  · rw [if_neg (nI_ge (by omega) (by omega)), if_neg (nI_ge (by omega) (by omega))]
    exact ⟨_, _, _, rfl, rfl, h⟩
  rw [if_pos (nI_le q2 (by omega)), if_pos (nI_le q2 (by omega))]
  obtain ⟨h', s', a1, a2, a3, a4, a5, a6, a7⟩ := note_at h
  rw [a1, a2 mv rfl, bind_s, bind_s]
  have c1' : Sm h'.2.2.1 s' c := c1.congr (by rw [a6]; exact sameC.rf _) (fun q hq => a7 q (by omega))
  rw [c1'.1.1, show zgt s' 3 = s' 3 from rfl, c1'.2.1.1, nsub q2, show (3 : Int32) = nI 3 from rfl, zpt_n _ (by omega), zgt_n _ (by omega), upd_s]
  refine ⟨_, _, _, rfl, rfl, a3.coats ⟨(c.1, c.2.1, c.2.2.1, c.2.2.2.1 - w, c.2.2.2.2), ⟨⟨rfl, c1'.1.2.1, fun j hj => c1'.1.2.2 j ?_⟩, ⟨upd_s, by rw [upd_n (by omega)]; exact c1'.2.1.2.1, fun j hj => ?_⟩, ⟨?_, c1'.2.2.1.2.1, fun j hj => c1'.2.2.1.2.2 j ?_⟩, by rw [upd_n (by omega)]; exact c1'.2.2.2⟩, c2, ?_, ?_, fun j hj => ?_⟩ (fun q hq _ => upd_n (by omega))⟩
  · dsimp only at hj; omega
  · dsimp only at hj
    rw [upd_n (by omega), upd_n (by omega), upd_n (by omega)]
    exact c1'.2.1.2.2 j (by omega)
  · dsimp only; omega
  · dsimp only at hj; omega
  · rw [upd_n (by omega), a7 1 (by omega)]
    show h'.2.2.1.2.2.2.2.2.2.2 = _
    rw [a6]
    exact c3
  · rw [upd_n (by omega), a7 1 (by omega)]; exact c4
  · dsimp only at hj
    rw [upd_n (by omega), a7 _ (by omega)]
    show h'.2.2.1.2.2.2.1 j = _
    rw [a6]
    exact c5 j (by omega)
