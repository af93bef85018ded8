theorem n1_le {t : Nat → Nat} {n : Nat} : n1 t n ≤ n := by unfold n1; split <;> (try split) <;> omega
theorem tkY_le {k t d : Nat → Nat} {n y w j : Nat} (bw : w ≤ 1000) : tkY k t d n y w j ≤ 1000 := by unfold tkY; omega
theorem q_year {k t d : Nat → Nat} {n y w : Nat} (hO : OKc k t d n y) (bw : w ≤ 1000) {s : zAI} (hR : RS s k t d n y) (tk : zAI) : ∃ tk' s', fX7_yearBy tk s (nI w) = some (nI (lkY k t d n y w), tk', s') ∧ RS s' k (t1 t n) (d1 k t d n y w) (n1 t n) (y + 1) ∧ s' 2 = s 2 + nI (lkY k t d n y w) ∧ s' 1 = s 1 ∧ ∀ q, 34 ≤ q → s' q = s q := by
  obtain ⟨r1, r2, r3⟩ := id hR
  obtain ⟨o1, o2, o3⟩ := id hO
  obtain ⟨tk', g1, g2⟩ := q_pours hO bw hR tk
  obtain ⟨u, u1, u2, u3⟩ := q_dampL (d := d) (e := tkY k t d n y w) (n := n) o1 (fun j hj => (o3 j hj).2.2.2) (fun j hj => tkY_le bw) g2 (nI (lkY k t d n y w)) n 0 zF s (Nat.zero_add n) (zF_lt (by omega)) r1 (fun j hj => by rw [if_neg (by omega)]; exact (r3 j hj).2.2)
  have e3 : u 3 = nI n := by rw [u3 3 (by omega), r1]
  have e0 : u 0 = nI y := by rw [u3 0 (by omega), r2]
  have e2 : u 2 = s 2 := u3 2 (by omega)
  have ek : ∀ j, j < n → u (4 + j) = nI (k j) := fun j hj => by rw [u3 _ (by omega), (r3 j hj).1]
  have et : ∀ j, j < n → u (14 + j) = nI (t j) := fun j hj => by rw [u3 _ (by omega), (r3 j hj).2.1]
  have u1' : fX7_yearBy_L10 zF tk' s (nI (lkY k t d n y w)) 0 = some u := u1
  unfold fX7_yearBy
  rw [g1, bind_s]
  dsimp only
  rw [u1', bind_s]
  by_cases q : n = 0
  · subst q
    simp (disch := omega) only [zlit, zgt_n, zpt_n, e3, nle, upd_n, e0, e2, nI_1, nI_add]
    rw [if_pos (Nat.le_refl 0)]
    refine ⟨tk', _, rfl, ⟨?_, ?_, fun j hj => ?_⟩, ?_, ?_, fun q hq => ?_⟩
    · simp (disch := omega) only [upd_n, e3]; rfl
    · simp (disch := omega) only [upd_s]
    · exact absurd hj (by unfold n1; simp)
    · simp (disch := omega) only [upd_s, upd_n]
    · simp (disch := omega) only [upd_n]; exact u3 1 (by omega)
    · simp (disch := omega) only [upd_n]; exact u3 q (by omega)
  · have ht := et (n - 1) (by omega)
    obtain ⟨b1, b2, b3, b4⟩ := o3 (n - 1) (by omega)
    simp (disch := omega) only [zlit, nI_add, nsub, zix_n, zgrd_t, zgt_n, zpt_n, e3, nle, upd_s, upd_n, ht, e0, e2, neq, Nat.sub_zero]
    rw [if_neg (by omega)]
    have fin : ∀ (z : Nat), z = n1 t n → ∃ tk'' s', some (nI (lkY k t d n y w), tk', upd (upd (upd (upd u (14 + (n - 1)) (nI (t (n - 1) - 1))) 3 (nI z)) 2 (s 2 + nI (lkY k t d n y w))) 0 (nI (y + 1))) = some (nI (lkY k t d n y w), tk'', s') ∧ RS s' k (t1 t n) (d1 k t d n y w) (n1 t n) (y + 1) ∧ s' 2 = s 2 + nI (lkY k t d n y w) ∧ s' 1 = s 1 ∧ ∀ q, 34 ≤ q → s' q = s q := by
      intro z hz
      subst hz
      refine ⟨tk', _, rfl, ⟨?_, ?_, fun j hj => ?_⟩, ?_, ?_, fun q hq => ?_⟩
      · simp (disch := omega) only [upd_s, upd_n]
      · simp (disch := omega) only [upd_s]
      · have hjn : j < n := Nat.lt_of_lt_of_le hj n1_le
        refine ⟨?_, ?_, ?_⟩
        · simp (disch := omega) only [upd_n]; exact ek j hjn
        · unfold t1
          by_cases q2 : j + 1 = n
          · rw [if_pos q2, show 14 + (n - 1) = 14 + j by omega]
            simp (disch := omega) only [upd_s, upd_n]
            rw [show n - 1 = j by omega]
          · rw [if_neg q2]
            simp (disch := omega) only [upd_n]
            exact et j hjn
        · simp (disch := omega) only [upd_n]; exact u2 j hjn
      · simp (disch := omega) only [upd_s, upd_n]
      · simp (disch := omega) only [upd_n]; exact u3 1 (by omega)
      · simp (disch := omega) only [upd_n]; exact u3 q (by omega)
    by_cases q2 : t (n - 1) ≤ 1
    · rw [if_pos (by omega)]
      exact fin (n - 1) (by unfold n1; rw [if_neg q, if_pos q2])
    · rw [if_neg (by omega)]
      exact fin n (by unfold n1; rw [if_neg q, if_neg q2])
/-- the rains, in the class and in the reference's row -/
def RW (v : WV) (s : zAI) (r : Nat → Nat) (m : Nat) : Prop := v.2 = nI m ∧ s 45 = nI m ∧ m ≤ 8 ∧ ∀ j, j < m → v.1 j = nI (r j) ∧ s (46 + j) = nI (r j) ∧ r j ≤ 40
def rnY (r : Nat → Nat) (m y : Nat) : Nat := if m = 0 then 0 else r (y % m)
theorem rnY_le {v : WV} {s : zAI} {r : Nat → Nat} {m : Nat} (h : RW v s r m) (y : Nat) : rnY r m y ≤ 40 := by
  unfold rnY
  split
  · omega
  · exact (h.2.2.2 _ (Nat.mod_lt _ (by omega))).2.2
theorem p_rain {v : WV} {s : zAI} {r : Nat → Nat} {m : Nat} (h : RW v s r m) {y : Nat} (hy : y < 2147483648) : fX5_inYear v (nI y) = some (nI (rnY r m y)) := by
  obtain ⟨h1, h2, h3, h4⟩ := h
  unfold fX5_inYear rnY
  rw [h1]
  by_cases q : m = 0
  · subst q
    rw [if_pos (show nI 0 = (0 : Int32) from rfl), if_pos rfl]
    rfl
  · have hl := Nat.mod_lt y (by omega : m > 0)
    rw [if_neg (by rw [show (0 : Int32) = nI 0 from rfl, neq (by omega) (by omega)]; exact q), if_neg q, znz_n (by omega) (by omega), zgrd_t, nrem (by omega) (by omega) (by omega), zix_n (by omega) (by omega), zgrd_t, zgt_n _ (by omega), (h4 _ hl).1]
theorem q_rain {v : WV} {s : zAI} {r : Nat → Nat} {m : Nat} (h : RW v s r m) {y : Nat} (hy : y < 2147483648) : fX7_rainIn s (nI y) = some (nI (rnY r m y)) := by
  obtain ⟨h1, h2, h3, h4⟩ := h
  unfold fX7_rainIn rnY
  rw [show zgt s 45 = s 45 from rfl, h2]
  by_cases q : m = 0
  · subst q
    rw [if_pos (show nI 0 = (0 : Int32) from rfl), if_pos rfl]
    rfl
  · have hl := Nat.mod_lt y (by omega : m > 0)
    rw [if_neg (by rw [show (0 : Int32) = nI 0 from rfl, neq (by omega) (by omega)]; exact q), if_neg q, znz_n (by omega) (by omega), zgrd_t, nrem (by omega) (by omega) (by omega), show (46 : Int32) = nI 46 from rfl, nI_add, zix_n (by omega) (by omega), zgrd_t, zgt_n _ (by omega), (h4 _ hl).2.1]
theorem RW.keep {v : WV} {s s' : zAI} {r : Nat → Nat} {m : Nat} (h : RW v s r m) (e : ∀ q, 45 ≤ q → q < 54 → s' q = s q) : RW v s' r m := ⟨h.1, by rw [e 45 (by omega) (by omega)]; exact h.2.1, h.2.2.1, fun j hj => ⟨(h.2.2.2 j hj).1, by rw [e _ (by omega) (by have := h.2.2.1; omega)]; exact (h.2.2.2 j hj).2.1, (h.2.2.2 j hj).2.2⟩⟩
/-- a year as one step of the numbers -/
abbrev Tm : Type := (Nat → Nat) × (Nat → Nat) × (Nat → Nat) × Nat × Nat
def stp (w : Nat) (c : Tm) : Tm := (c.1, t1 c.2.1 c.2.2.2.1, d1 c.1 c.2.1 c.2.2.1 c.2.2.2.1 c.2.2.2.2 w, n1 c.2.1 c.2.2.2.1, c.2.2.2.2 + 1)
def lks (w : Nat) (c : Tm) : Nat := lkY c.1 c.2.1 c.2.2.1 c.2.2.2.1 c.2.2.2.2 w
theorem lks_le (w : Nat) (c : Tm) : lks w c ≤ w := Nat.sub_le _ _
/-- class and reference agree on the coats of a trial -/
def Sm (v : CV) (s : zAI) (c : Tm) : Prop := RC v c.1 c.2.1 c.2.2.1 c.2.2.2.1 c.2.2.2.2 ∧ RS s c.1 c.2.1 c.2.2.1 c.2.2.2.1 c.2.2.2.2 ∧ OKc c.1 c.2.1 c.2.2.1 c.2.2.2.1 c.2.2.2.2 ∧ v.2.2.2.2.2.2.1 = s 2
theorem Sm.year {v : CV} {s : zAI} {c : Tm} (h : Sm v s c) {w : Nat} (bw : w ≤ 1000) (hy : c.2.2.2.2 + 1 < 100000) (tk : zAI) : ∃ v' tk' s', fX0_passYear v (nI w) = some (nI (lks w c), v') ∧ fX7_yearBy tk s (nI w) = some (nI (lks w c), tk', s') ∧ Sm v' s' (stp w c) ∧ v'.2.2.2.1 = v.2.2.2.1 ∧ v'.2.2.2.2.2.2.2 = v.2.2.2.2.2.2.2 ∧ s' 1 = s 1 ∧ ∀ q, 34 ≤ q → s' q = s q := by
  obtain ⟨h1, h2, h3, h4⟩ := h
  obtain ⟨v', a1, a2, a3, a4, a5⟩ := p_pass h3 bw h1
  obtain ⟨tk', s', b1, b2, b3, b4, b5⟩ := q_year h3 bw h2 tk
  exact ⟨v', tk', s', a1, b1, ⟨a2, b2, h3.next hy, by rw [a4, b3, h4]⟩, a3, a5, b4, b5⟩
theorem Sm.yearIn {wv : WV} {v : CV} {s : zAI} {c : Tm} {r : Nat → Nat} {m : Nat} (h : Sm v s c) (hW : RW wv s r m) (hy : c.2.2.2.2 + 1 < 100000) (tk : zAI) : ∃ v' tk' s', ((fX5_inYear wv v.2.2.2.2.2.1).bind (fun u => fX0_passYear v u)) = some (nI (lks (rnY r m c.2.2.2.2) c), v') ∧ fX7_yearIn tk s = some (nI (lks (rnY r m c.2.2.2.2) c), tk', s') ∧ Sm v' s' (stp (rnY r m c.2.2.2.2) c) ∧ v'.2.2.2.1 = v.2.2.2.1 ∧ v'.2.2.2.2.2.2.2 = v.2.2.2.2.2.2.2 ∧ s' 1 = s 1 ∧ (∀ q, 34 ≤ q → s' q = s q) ∧ RW wv s' r m := by
  have hr := rnY_le hW c.2.2.2.2
  obtain ⟨v', tk', s', a1, a2, a3, a4, a5, a6, a7⟩ := h.year (w := rnY r m c.2.2.2.2) (by omega) hy tk
  refine ⟨v', tk', s', ?_, ?_, a3, a4, a5, a6, a7, hW.keep (fun q h1 _ => a7 q (by omega))⟩
  · rw [h.1.2.1, p_rain hW (by omega), bind_s, a1]
  · unfold fX7_yearIn
    rw [show zgt s 0 = s 0 from rfl, h.2.1.2.1, q_rain hW (by omega), bind_s, a2, bind_s]
