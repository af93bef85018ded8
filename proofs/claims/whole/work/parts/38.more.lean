/-! drawn out, fire, years, drift -/
theorem fb_andL (a b : Nat) : lN a &&& lN b = lN (a &&& b) := by
  apply Int64.toBitVec_inj.1
  show BitVec.ofNat 64 a &&& BitVec.ofNat 64 b = BitVec.ofNat 64 (a &&& b)
  apply BitVec.eq_of_getLsbD_eq
  intro i hi
  simp [hi]
theorem fb_maskL (n k : Nat) : lN n &&& lN (2 ^ k - 1) = lN (n % 2 ^ k) := by rw [fb_andL, Nat.and_two_pow_sub_one_eq_mod]
theorem Sm.setT {v : CV} {s : zAI} {c : Tm} (h : Sm v s c) {j tt : Nat} (hj : j < c.2.2.2.1) (bt : 1 ≤ tt ∧ tt ≤ 20) : Sm (v.1, upd v.2.1 j (nI tt), v.2.2) (upd s (14 + j) (nI tt)) (c.1, fun i => if i = j then tt else c.2.1 i, c.2.2) := by
  obtain ⟨s1, s2, s3, s4⟩ := h
  have hn := s3.1
  refine ⟨⟨s1.1, s1.2.1, fun i hi => ?_⟩, ⟨by rw [upd_n (by omega)]; exact s2.1, by rw [upd_n (by omega)]; exact s2.2.1, fun i hi => ?_⟩, ⟨hn, s3.2.1, fun i hi => ?_⟩, by rw [upd_n (by omega)]; exact s4⟩
  · dsimp only at hi ⊢
    by_cases q : i = j
    · subst q
      rw [upd_s, if_pos rfl]
      exact ⟨(s1.2.2 i hi).1, rfl, (s1.2.2 i hi).2.2⟩
    · rw [upd_n q, if_neg q]
      exact s1.2.2 i hi
  · dsimp only at hi ⊢
    by_cases q : i = j
    · subst q
      rw [upd_s, if_pos rfl, upd_n (by omega), upd_n (by omega)]
      exact ⟨(s2.2.2 i hi).1, rfl, (s2.2.2 i hi).2.2⟩
    · rw [upd_n (by omega), upd_n (by omega), upd_n (by omega), if_neg q]
      exact s2.2.2 i hi
  · dsimp only at hi ⊢
    by_cases q : i = j
    · rw [if_pos q]
      exact ⟨(s3.2.2 i hi).1, bt.1, bt.2, (s3.2.2 i hi).2.2.2⟩
    · rw [if_neg q]
      exact s3.2.2 i hi
theorem o_pull {xv : XV} {mv : MV} (h : RH xv.1 mv.2.2.2.2.2.2.2.1) (x z : Int32) : ∃ r h' s', fX6_pull xv x z = some (r, h') ∧ fX7_pull mv x z = some (r, s') ∧ RH h' s' := by
  unfold fX6_pull fX7_pull
  obtain ⟨c, c1, c2, c3, c4, c5⟩ := h.1
  have hn := c1.2.2.1.1
  rcases coat_cases (v := xv.1.2.2.1) (mv := mv) c1.1.1 c1.2.1.1 hn x with ⟨j, hj, rfl, e1, e2⟩ | ⟨e1, e2⟩
  rotate_left
  · rw [e1, e2, bind_s, bind_s, if00, if00]
    exact ⟨_, _, _, rfl, rfl, h⟩
  rw [e1, e2, bind_s, bind_s, if10, if10]
  by_cases q2 : rng z 1 20
  rotate_left
  · rw [out_f q2, in_f q2, bind_s, bind_s, if10, if00]
    exact ⟨_, _, _, rfl, rfl, h⟩
  rw [out_t q2, in_t q2, bind_s, bind_s, if00, if10]
  obtain ⟨w, w1, w2, rfl⟩ := rng_n (a := 1) (b := 20) (by omega) q2 (by omega)
  obtain ⟨b1, b2, b3, b4⟩ := c1.2.2.1.2.2 j hj
  rw [zix_n (by omega) (by omega), zgrd_t, zgt_n _ (by omega), (c1.1.2.2 j hj).2.1, show (14 : Int32) = nI 14 from rfl, nI_add, zix_n (by omega) (by omega), zgrd_t, zgt_n _ (by omega), (c1.2.1.2.2 j hj).2.1]
  by_cases q3 : c.2.1 j = 1
  · rw [q3, if_neg (by decide), if_pos (show nI 1 = (1 : Int32) from rfl)]
    exact ⟨_, _, _, rfl, rfl, h⟩
  rw [if_pos (show (1 : Int32) < nI (c.2.1 j) from nI_lt (a := 1) (by omega) (by omega)), if_neg (by rw [show (1 : Int32) = nI 1 from rfl, neq (by omega) (by omega)]; exact q3)]
  obtain ⟨h', s', a1, a2, a3, a4, a5, a6, a7⟩ := note_at h
  rw [a1, a2 mv rfl, bind_s, bind_s]
  have c1' : Sm h'.2.2.1 s' c := c1.congr (by rw [a6]; exact sameC.rf _) (fun q hq => a7 q (by omega))
  have e3 : (if (1 : Int32) < nI (c.2.1 j) - nI w then nI (c.2.1 j) - nI w else 1) = nI (max 1 (c.2.1 j - w)) := by
    rw [show (1 : Int32) = nI 1 from rfl]
    by_cases q4 : 1 + w < c.2.1 j
    · rw [if_pos (by rw [nlt_sub (by omega) (by omega) (by omega)]; exact q4), nsub (by omega), Nat.max_eq_right (by omega)]
    · rw [if_neg (by rw [nlt_sub (by omega) (by omega) (by omega)]; exact q4), Nat.max_eq_left (by omega)]
  have e4 : fX7_pulls s' (nI j) (nI w) = some (upd s' (14 + j) (nI (max 1 (c.2.1 j - w)))) := by
    unfold fX7_pulls
    rw [show (14 : Int32) = nI 14 from rfl, nI_add, zix_n (by omega) (by omega), zgrd_t, zgt_n _ (by omega), (c1'.2.1.2.2 j hj).2.1, zpt_n _ (by omega), zpt_n _ (by omega), show (1 : Int32) = nI 1 from rfl]
    by_cases q4 : 1 + w ≤ c.2.1 j
    · rw [if_pos (by rw [nle_sub (by omega) (by omega) (by omega)]; exact q4), nsub (by omega), Nat.max_eq_right (by omega)]
    · rw [if_neg (by rw [nle_sub (by omega) (by omega) (by omega)]; exact q4), Nat.max_eq_left (by omega)]
  rw [e4, bind_s, zgt_n _ (by omega), zgt_n _ (by omega), zpt_n _ (by omega), (c1'.1.2.2 j hj).2.1, e3, upd_s, zgt_n _ (by omega), upd_s]
  refine ⟨_, _, _, rfl, rfl, a3.coats ⟨_, c1'.setT hj (by omega), c2, ?_, ?_, fun i hi => ?_⟩ (fun q hq _ => upd_n (by omega))⟩
  · rw [upd_n (by omega), a7 1 (by omega)]
    show h'.2.2.1.2.2.2.2.2.2.2 = _
    rw [a6]
    exact c3
  · rw [upd_n (by omega), a7 1 (by omega)]; exact c4
  · dsimp only at hi
    rw [upd_n (by omega), a7 _ (by omega)]
    show h'.2.2.1.2.2.2.1 i = _
    rw [a6]
    exact c5 i hi
/-- how many coats a fire leaves -/
def rem (t d : Nat → Nat) : Nat → Nat → Nat
  | 0, _ => 0
  | n + 1, left => if 6 < d n ∨ left < t n + d n then n + 1 else rem t d n (left - (t n + d n))
theorem rem_le (t d : Nat → Nat) : ∀ (n left : Nat), rem t d n left ≤ n
  | 0, _ => Nat.le_refl 0
  | n + 1, left => by
    unfold rem
    split
    · exact Nat.le_refl _
    · exact Nat.le_trans (rem_le t d n _) (Nat.le_succ n)
theorem p_burnL {a b dm ld : zAI} {e : Int32 × Int32 × Int32} {t d : Nat → Nat} {x2 : Int32} (N : Nat) (hN : N ≤ 10) (hb : ∀ j, j < N → b j = nI (t j) ∧ dm j = nI (d j) ∧ t j ≤ 20 ∧ d j ≤ 9) : ∀ (n left fuel : Nat), n ≤ N → n < fuel → left ≤ 999 → fX0_burn_L12 fuel (a, b, dm, ld, nI n, e) x2 (nI left) (nI n - 1) = some (a, b, dm, ld, nI (rem t d n left), e) := by
  intro n
  induction n with
  | zero =>
    intro left fuel hn hf hl
    obtain ⟨f, rfl⟩ : ∃ f, fuel = f + 1 := ⟨fuel - 1, by omega⟩
    rw [fX0_burn_L12, if_pos (by simp only [zlit, nneg0])]
    rfl
  | succ n ih =>
    intro left fuel hn hf hl
    obtain ⟨f, rfl⟩ : ∃ f, fuel = f + 1 := ⟨fuel - 1, by omega⟩
    obtain ⟨b1, b2, b3, b4⟩ := hb n (by omega)
    have e1 : fX0_stopsFire (a, b, dm, ld, nI (n + 1), e) (nI n) = if d n ≤ 6 then some 0 else some 1 := by
      unfold fX0_stopsFire
      rw [zix_n (by omega) (by omega), zgrd_t, zgt_n _ (by omega)]
      simp (disch := omega) only [zlit, b2, nle]
    have e2 : fX0_heavinessOf (a, b, dm, ld, nI (n + 1), e) (nI n) = some (nI (t n + d n)) := by
      unfold fX0_heavinessOf
      rw [zix_n (by omega) (by omega), zgrd_t, zgt_n _ (by omega), zgt_n _ (by omega)]
      dsimp only
      rw [b1, b2, nI_add]
    rw [fX0_burn_L12, nI_pred, if_neg (nI_pos (by omega)), e1, e2]
    unfold rem
    by_cases q : d n ≤ 6
    · rw [if_pos q, bind_s, if00, bind_s]
      by_cases q2 : t n + d n ≤ left
      · rw [if_pos (nI_le q2 (by omega)), bind_s, if_neg (by omega), nsub q2, zm1]
        exact ih _ f (by omega) (by omega) (by omega)
      · rw [if_neg (nI_ge (by omega) (by omega)), if_pos (by omega)]
    · rw [if_neg q, bind_s, if10, if_pos (by omega)]
theorem q_fireL {mv : MV} {x2 : Int32} {t d : Nat → Nat} (N : Nat) (hN : N ≤ 10) : ∀ (n left fuel : Nat) (s : zAI), n ≤ N → n + 1 < fuel → left ≤ 999 → s 3 = nI n → (∀ j, j < n → s (14 + j) = nI (t j) ∧ s (24 + j) = nI (d j) ∧ t j ≤ 20 ∧ d j ≤ 9) → ∃ s', fX7_fire_L42 fuel mv x2 (nI left) (if n = 0 then 0 else 1) s = some s' ∧ s' 3 = nI (rem t d n left) ∧ ∀ q, q ≠ 3 → s' q = s q := by
  intro n
  induction n with
  | zero =>
    intro left fuel s hn hf hl h3 hs
    obtain ⟨f, rfl⟩ : ∃ f, fuel = f + 1 := ⟨fuel - 1, by omega⟩
    rw [fX7_fire_L42, if_pos rfl, if00]
    exact ⟨s, rfl, h3, fun _ _ => rfl⟩
  | succ n ih =>
    intro left fuel s hn hf hl h3 hs
    obtain ⟨f, rfl⟩ : ∃ f, fuel = f + 1 + 1 := ⟨fuel - 2, by omega⟩
    obtain ⟨b1, b2, b3, b4⟩ := hs n (by omega)
    rw [fX7_fire_L42, if_neg (Nat.succ_ne_zero n), if10, show zgt s 3 = s 3 from rfl, h3, nI_pred, show (14 : Int32) = nI 14 from rfl, show (24 : Int32) = nI 24 from rfl, nI_add, nI_add, zix_n (by omega) (by omega), zgrd_t, zix_n (by omega) (by omega), zgrd_t, zgt_n _ (by omega), zgt_n _ (by omega), b1, b2, nI_add]
    have stop : ∃ s', fX7_fire_L42 (f + 1) mv x2 (nI left) 0 s = some s' ∧ s' 3 = nI (n + 1) ∧ ∀ q, q ≠ 3 → s' q = s q := by
      rw [fX7_fire_L42, if00]
      exact ⟨s, rfl, h3, fun _ _ => rfl⟩
    unfold rem
    by_cases q : 7 ≤ d n
    · rw [if_pos (show (7 : Int32) ≤ nI (d n) from nI_le (a := 7) q (by omega)), if_pos (show 6 < d n ∨ left < t n + d n by omega)]
      exact stop
    · rw [if_neg (show ¬ (7 : Int32) ≤ nI (d n) from nI_ge (b := 7) (by omega) (by omega))]
      by_cases q2 : left < t n + d n
      · rw [if_pos (nI_lt q2 (by omega)), if_pos (show 6 < d n ∨ left < t n + d n by omega)]
        exact stop
      · rw [if_neg (nI_nlt (by omega) (by omega)), if_neg (show ¬ (6 < d n ∨ left < t n + d n) by omega), show (3 : Int32) = nI 3 from rfl, zpt_n _ (by omega), zgt_n _ (by omega), upd_s, nsub (by omega)]
        obtain ⟨s', g1, g2, g3⟩ := ih (left - (t n + d n)) (f + 1) (upd s 3 (nI n)) (by omega) (by omega) (by omega) upd_s (fun j hj => by rw [upd_n (by omega), upd_n (by omega)]; exact hs j (by omega))
        refine ⟨s', ?_, g2, fun q hq => by rw [g3 q hq, upd_n hq]⟩
        rw [← g1]
        by_cases q3 : n = 0
        · subst q3
          rw [if_pos (by decide), if_pos rfl]
        · rw [if_neg (show ¬ nI n ≤ 0 from nI_nle (by omega) (by omega)), if_neg q3]
theorem o_fire {xv : XV} {mv : MV} (h : RH xv.1 mv.2.2.2.2.2.2.2.1) (x : Int32) : ∃ r h' s', fX6_fire xv x = some (r, h') ∧ fX7_fire mv x = some (r, s') ∧ RH h' s' := by
  unfold fX6_fire fX7_fire
  by_cases q : rng x 0 999
  rotate_left
  · rw [out_f q, in_f q, bind_s, bind_s, if10, if00]
    exact ⟨_, _, _, rfl, rfl, h⟩
  rw [out_t q, in_t q, bind_s, bind_s, if00, if10]
  obtain ⟨w, w1, w2, rfl⟩ := rng_n (a := 0) (b := 999) (by omega) q (by omega)
  obtain ⟨c, c1, c2, c3, c4, c5⟩ := h.1
  have hn := c1.2.2.1.1
  obtain ⟨h', s', a1, a2, a3, a4, a5, a6, a7⟩ := note_at h
  rw [a1, a2 mv rfl, bind_s, bind_s]
  have c1' : Sm h'.2.2.1 s' c := c1.congr (by rw [a6]; exact sameC.rf _) (fun q hq => a7 q (by omega))
  have hr := rem_le c.2.1 c.2.2.1 c.2.2.2.1 w
  have e1 : fX0_burn h'.2.2.1 (nI w) = some (nI (c.2.2.2.1 - rem c.2.1 c.2.2.1 c.2.2.2.1 w), (h'.2.2.1.1, h'.2.2.1.2.1, h'.2.2.1.2.2.1, h'.2.2.1.2.2.2.1, nI (rem c.2.1 c.2.2.1 c.2.2.2.1 w), h'.2.2.1.2.2.2.2.2)) := by
    have := p_burnL (a := h'.2.2.1.1) (b := h'.2.2.1.2.1) (dm := h'.2.2.1.2.2.1) (ld := h'.2.2.1.2.2.2.1) (e := h'.2.2.1.2.2.2.2.2) (t := c.2.1) (d := c.2.2.1) (x2 := nI c.2.2.2.1) c.2.2.2.1 hn (fun j hj => ⟨(c1'.1.2.2 j hj).2.1, (c1'.1.2.2 j hj).2.2, (c1.2.2.1.2.2 j hj).2.2.1, (c1.2.2.1.2.2 j hj).2.2.2⟩) c.2.2.2.1 w zF (Nat.le_refl _) (zF_lt (by omega)) w2
    rw [← c1'.1.1] at this
    unfold fX0_burn
    have this2 : fX0_burn_L12 zF h'.2.2.1 h'.2.2.1.2.2.2.2.1 (nI w) (h'.2.2.1.2.2.2.2.1 - 1) = _ := this
    rw [this2, bind_s]
    dsimp only
    rw [c1'.1.1, nsub hr]
  rw [e1, bind_s, show zgt s' 3 = s' 3 from rfl, c1'.2.1.1]
  have key : ∀ mv2 : MV, ∃ s'', fX7_fire_L42 zF mv2 (nI c.2.2.2.1) (nI w) (if c.2.2.2.1 = 0 then 0 else 1) s' = some s'' ∧ s'' 3 = nI (rem c.2.1 c.2.2.1 c.2.2.2.1 w) ∧ ∀ q, q ≠ 3 → s'' q = s' q := fun mv2 => q_fireL (mv := mv2) c.2.2.2.1 hn c.2.2.2.1 w zF s' (Nat.le_refl _) (zF_lt (by omega)) w2 c1'.2.1.1 (fun j hj => ⟨(c1'.2.1.2.2 j hj).2.1, (c1'.2.1.2.2 j hj).2.2, (c1.2.2.1.2.2 j hj).2.2.1, (c1.2.2.1.2.2 j hj).2.2.2⟩)
  have fin : ∀ s'' : zAI, s'' 3 = nI (rem c.2.1 c.2.2.1 c.2.2.2.1 w) → (∀ q, q ≠ 3 → s'' q = s' q) → RH (h'.1, h'.2.1, (h'.2.2.1.1, h'.2.2.1.2.1, h'.2.2.1.2.2.1, h'.2.2.1.2.2.2.1, nI (rem c.2.1 c.2.2.1 c.2.2.2.1 w), h'.2.2.1.2.2.2.2.2), h'.2.2.2) s'' := by
    intro s'' g1 g2
    refine a3.coats ⟨(c.1, c.2.1, c.2.2.1, rem c.2.1 c.2.2.1 c.2.2.2.1 w, c.2.2.2.2), ⟨⟨rfl, c1'.1.2.1, fun j hj => c1'.1.2.2 j ?_⟩, ⟨g1, by rw [g2 0 (by omega)]; exact c1'.2.1.2.1, fun j hj => ?_⟩, ⟨?_, c1'.2.2.1.2.1, fun j hj => c1'.2.2.1.2.2 j ?_⟩, by rw [g2 2 (by omega)]; exact c1'.2.2.2⟩, c2, ?_, ?_, fun j hj => ?_⟩ (fun q hq _ => g2 q (by omega))
    · dsimp only at hj; omega
    · dsimp only at hj
      rw [g2 _ (by omega), g2 _ (by omega), g2 _ (by omega)]
      exact c1'.2.1.2.2 j (by omega)
    · dsimp only; omega
    · dsimp only at hj; omega
    · rw [g2 1 (by omega), a7 1 (by omega)]
      show h'.2.2.1.2.2.2.2.2.2.2 = _
      rw [a6]
      exact c3
    · rw [g2 1 (by omega), a7 1 (by omega)]; exact c4
    · dsimp only at hj
      rw [g2 _ (by omega), a7 _ (by omega)]
      show h'.2.2.1.2.2.2.1 j = _
      rw [a6]
      exact c5 j (by omega)
  by_cases q2 : c.2.2.2.1 = 0
  · rw [if_pos (by rw [q2]; decide)]
    obtain ⟨s'', g1, g2, g3⟩ := key (mv.1, mv.2.1, mv.2.2.1, mv.2.2.2.1, mv.2.2.2.2.1, mv.2.2.2.2.2.1, mv.2.2.2.2.2.2.1, s', mv.2.2.2.2.2.2.2.2)
    rw [if_pos q2] at g1
    rw [g1, bind_s, show zgt s'' 3 = s'' 3 from rfl, g2, nsub hr]
    exact ⟨_, _, _, rfl, rfl, fin s'' g2 g3⟩
  · rw [if_neg (show ¬ nI c.2.2.2.1 ≤ 0 from nI_nle (by omega) (by omega))]
    obtain ⟨s'', g1, g2, g3⟩ := key (mv.1, mv.2.1, mv.2.2.1, mv.2.2.2.1, mv.2.2.2.2.1, mv.2.2.2.2.2.1, mv.2.2.2.2.2.2.1, s', mv.2.2.2.2.2.2.2.2)
    rw [if_neg q2] at g1
    rw [g1, bind_s, show zgt s'' 3 = s'' 3 from rfl, g2, nsub hr]
    exact ⟨_, _, _, rfl, rfl, fin s'' g2 g3⟩
