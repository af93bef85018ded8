/-! a coat taken out -/
def shf (f : Nat → Nat) (i : Nat) : Nat → Nat := fun j => if j < i then f j else f (j + 1)
def takT (c : Tm) (i : Nat) : Tm := (shf c.1 i, shf c.2.1 i, shf c.2.2.1 i, c.2.2.2.1 - 1, c.2.2.2.2)
/-- a row in the midst of the shift: places i .. a - 1 hold what stood behind them -/
def mid {α : Type} (f : Nat → α) (i a : Nat) : Nat → α := fun j => if i ≤ j ∧ j < a then f (j + 1) else f j
theorem mid_up {f : zAI} {i a : Nat} (h : i ≤ a) : upd (mid f i a) a (mid f i a (a + 1)) = mid f i (a + 1) := by
  funext j
  by_cases q : j = a
  · subst q
    rw [upd_s]
    unfold mid
    rw [if_neg (by omega), if_pos (by omega)]
  · rw [upd_n q]
    unfold mid
    by_cases q2 : i ≤ j ∧ j < a
    · rw [if_pos q2, if_pos (by omega)]
    · rw [if_neg q2, if_neg (by omega)]
theorem p_takeL {a b dm ld : zAI} {n i : Nat} {e : Int32 × Int32 × Int32} (hn : n ≤ 10) : ∀ (k x fuel : Nat), x + k = n - 1 → i ≤ x → k < fuel → fX0_takeOut_L11 fuel (mid a i x, mid b i x, mid dm i x, mid ld i x, nI n, e) (nI x) = some (mid a i (n - 1), mid b i (n - 1), mid dm i (n - 1), mid ld i (n - 1), nI n, e) := by
  intro k
  induction k with
  | zero =>
    intro x fuel hx hi hf
    obtain ⟨f, rfl⟩ : ∃ f, fuel = f + 1 := ⟨fuel - 1, by omega⟩
    rw [fX0_takeOut_L11]
    dsimp only
    rw [show (1 : Int32) = nI 1 from rfl]
    by_cases q : n = 0
    · subst q
      rw [if_pos (by rw [nsub_le (by omega) (by omega) (by omega)]; omega), show x = 0 by omega]
    · rw [nsub (by omega), if_pos (nI_le (by omega) (by omega)), show x = n - 1 by omega]
  | succ k ih =>
    intro x fuel hx hi hf
    obtain ⟨f, rfl⟩ : ∃ f, fuel = f + 1 := ⟨fuel - 1, by omega⟩
    rw [fX0_takeOut_L11]
    dsimp only
    rw [show (1 : Int32) = nI 1 from rfl, nsub (by omega), if_neg (nI_ge (by omega) (by omega)), nI_add, zix_n (by omega) (by omega), zgrd_t, zix_n (by omega) (by omega), zgrd_t]
    simp (disch := omega) only [zgt_n, zpt_n]
    rw [mid_up hi, mid_up hi, mid_up hi, mid_up hi]
    exact ih (x + 1) f (by omega) (by omega) (by omega)
theorem mid_0 {α : Type} (f : Nat → α) (i : Nat) : mid f i i = f := by
  funext j
  unfold mid
  rw [if_neg (by omega)]
theorem mid_end {f : zAI} {g : Nat → Nat} {n i j : Nat} (hf : ∀ j, j < n → f j = nI (g j)) (hi : i < n) (hj : j < n - 1) : mid f i (n - 1) j = nI (shf g i j) := by
  unfold mid shf
  by_cases q : i ≤ j
  · rw [if_pos ⟨q, hj⟩, if_neg (by omega), hf _ (by omega)]
  · rw [if_neg (by omega), if_pos (by omega), hf _ (by omega)]
theorem p_take {v : CV} {c : Tm} {i : Nat} (hR : RCt v c) (hn : c.2.2.2.1 ≤ 10) (hi : i < c.2.2.2.1) : ∃ v', fX0_takeOut v (nI i) = some v' ∧ RCt v' (takT c i) := by
  obtain ⟨a, b, dm, ld, sz, e⟩ := v
  obtain ⟨r1, r2, r3⟩ := hR
  dsimp only at r1 r2 r3
  subst r1
  have hh : fX0_has (a, b, dm, ld, nI c.2.2.2.1, e) (nI i) = some 1 := by
    unfold fX0_has
    rw [if_neg (nI_pos (by omega)), if_neg (nI_ge hi (by omega))]
  have hl := p_takeL (a := a) (b := b) (dm := dm) (ld := ld) (n := c.2.2.2.1) (i := i) (e := e) hn (c.2.2.2.1 - 1 - i) i zF (by omega) (Nat.le_refl i) (zF_lt (by omega))
  rw [mid_0, mid_0, mid_0, mid_0] at hl
  refine ⟨(mid a i (c.2.2.2.1 - 1), mid b i (c.2.2.2.1 - 1), mid dm i (c.2.2.2.1 - 1), mid ld i (c.2.2.2.1 - 1), nI (c.2.2.2.1 - 1), e), ?_, rfl, r2, fun j hj => ?_⟩
  · unfold fX0_takeOut
    rw [hh, bind_s, if10, hl, bind_s]
    dsimp only
    rw [show (1 : Int32) = nI 1 from rfl, nsub (by omega)]
  · have hj' : j < c.2.2.2.1 - 1 := hj
    exact ⟨mid_end (fun j hj => (r3 j hj).1) hi hj', mid_end (fun j hj => (r3 j hj).2.1) hi hj', mid_end (fun j hj => (r3 j hj).2.2) hi hj'⟩
theorem q_takeL {mv : MV} {s0 : zAI} {n i : Nat} (hn : n ≤ 10) (h3 : s0 3 = nI n) : ∀ (k x fuel : Nat) (s : zAI), x + k = n → i + 1 ≤ x → k < fuel → (∀ j, j < 10 → s (4 + j) = mid (fun j => s0 (4 + j)) i (x - 1) j ∧ s (14 + j) = mid (fun j => s0 (14 + j)) i (x - 1) j ∧ s (24 + j) = mid (fun j => s0 (24 + j)) i (x - 1) j) → (∀ q, (q < 4 ∨ 34 ≤ q) → s q = s0 q) → ∃ s', fX7_takeOut_L4 fuel mv (nI x) s = some s' ∧ (∀ j, j < 10 → s' (4 + j) = mid (fun j => s0 (4 + j)) i (n - 1) j ∧ s' (14 + j) = mid (fun j => s0 (14 + j)) i (n - 1) j ∧ s' (24 + j) = mid (fun j => s0 (24 + j)) i (n - 1) j) ∧ ∀ q, (q < 4 ∨ 34 ≤ q) → s' q = s0 q := by
  intro k
  induction k with
  | zero =>
    intro x fuel s hx hi hf hs ho
    obtain ⟨f, rfl⟩ : ∃ f, fuel = f + 1 := ⟨fuel - 1, by omega⟩
    rw [fX7_takeOut_L4, show zgt s 3 = s 3 from rfl, ho 3 (by omega), h3, if_pos (nI_le (by omega) (by omega))]
    rw [show x = n by omega] at hs
    exact ⟨s, rfl, hs, ho⟩
  | succ k ih =>
    intro x fuel s hx hi hf hs ho
    obtain ⟨f, rfl⟩ : ∃ f, fuel = f + 1 := ⟨fuel - 1, by omega⟩
    rw [fX7_takeOut_L4, show zgt s 3 = s 3 from rfl, ho 3 (by omega), h3, if_neg (nI_ge (by omega) (by omega))]
    simp (disch := omega) only [zlit, nI_add, nsub, zix_n, zgrd_t, zgt_n, zpt_n, upd_n]
    refine ih (x + 1) f _ (by omega) (by omega) (by omega) (fun j hj => ?_) (fun q hq => ?_)
    · obtain ⟨g1, g2, g3⟩ := hs x (by omega)
      obtain ⟨k1, k2, k3⟩ := hs j hj
      have m1 : ∀ b : Nat, mid (fun j => s0 (b + j)) i (x - 1) x = s0 (b + x) := fun b => by unfold mid; rw [if_neg (by omega)]
      have m2 : ∀ b : Nat, j ≠ x - 1 → mid (fun j => s0 (b + j)) i (x + 1 - 1) j = mid (fun j => s0 (b + j)) i (x - 1) j := fun b hne => by
        unfold mid
        by_cases q2 : i ≤ j ∧ j < x - 1
        · rw [if_pos q2, if_pos (by omega)]
        · rw [if_neg q2, if_neg (by omega)]
      have m3 : ∀ b : Nat, j = x - 1 → mid (fun j => s0 (b + j)) i (x + 1 - 1) j = s0 (b + x) := fun b he => by
        unfold mid
        rw [if_pos (by omega)]
        exact congrArg _ (by omega)
      by_cases qj : j = x - 1
      · rw [m3 4 qj, m3 14 qj, m3 24 qj, ← m1 4, ← m1 14, ← m1 24, ← g1, ← g2, ← g3, show 4 + x - 1 = 4 + j by omega, show 14 + x - 1 = 14 + j by omega, show 24 + x - 1 = 24 + j by omega]
        simp (disch := omega) only [upd_s, upd_n]
        exact ⟨trivial, trivial, trivial⟩
      · rw [m2 4 qj, m2 14 qj, m2 24 qj, ← k1, ← k2, ← k3]
        simp (disch := omega) only [upd_n]
        exact ⟨trivial, trivial, trivial⟩
    · rw [← ho q hq]
      simp (disch := omega) only [upd_n]
theorem q_take {mv : MV} {s0 : zAI} {c : Tm} {i : Nat} (hs : mv.2.2.2.2.2.2.2.2.1 = s0) (hR : RSt s0 c) (hn : c.2.2.2.1 ≤ 10) (hi : i < c.2.2.2.1) : ∃ s', fX7_takeOut mv (nI i) = some s' ∧ RSt s' (takT c i) ∧ ∀ q, 34 ≤ q → s' q = s0 q := by
  obtain ⟨s', a1, a2, a3⟩ := q_takeL (mv := mv) (s0 := s0) (n := c.2.2.2.1) (i := i) hn hR.1 (c.2.2.2.1 - (i + 1)) (i + 1) zF s0 (by omega) (by omega) (zF_lt (by omega)) (fun j hj => by rw [show i + 1 - 1 = i from rfl, mid_0, mid_0, mid_0]; exact ⟨rfl, rfl, rfl⟩) (fun _ _ => rfl)
  refine ⟨upd s' 3 (nI (c.2.2.2.1 - 1)), ?_, ⟨upd_s, by rw [upd_n (by omega), a3 0 (by omega)]; exact hR.2.1, fun j hj => ?_⟩, fun q hq => by rw [upd_n (by omega)]; exact a3 q (by omega)⟩
  · unfold fX7_takeOut
    rw [hs, nI_1, a1, bind_s, show zgt s' 3 = s' 3 from rfl, a3 3 (by omega), hR.1, show (1 : Int32) = nI 1 from rfl, nsub (by omega), show (3 : Int32) = nI 3 from rfl, zpt_n _ (by omega)]
  · have hj' : j < c.2.2.2.1 - 1 := hj
    obtain ⟨k1, k2, k3⟩ := a2 j (by omega)
    rw [upd_n (by omega), upd_n (by omega), upd_n (by omega), k1, k2, k3]
    exact ⟨mid_end (fun j hj => (hR.2.2 j hj).1) hi hj', mid_end (fun j hj => (hR.2.2 j hj).2.1) hi hj', mid_end (fun j hj => (hR.2.2 j hj).2.2) hi hj'⟩
theorem takT_ok {c : Tm} {i : Nat} (hO : OKt c) (hi : i < c.2.2.2.1) : OKt (takT c i) := by
  obtain ⟨o1, o2, o3⟩ := hO
  refine ⟨by show c.2.2.2.1 - 1 ≤ 10; omega, o2, fun j hj => ?_⟩
  have hj' : j < c.2.2.2.1 - 1 := hj
  unfold takT shf
  dsimp only
  by_cases q : j < i
  · rw [if_pos q, if_pos q, if_pos q]
    exact o3 j (by omega)
  · rw [if_neg q, if_neg q, if_neg q]
    exact o3 (j + 1) (by omega)
theorem reliefL {h : HV} {s0 : zAI} {c : Tm} {r : Nat → Nat} {m n : Nat} (hB : BF h s0 c r m) (hn : n ≤ 20) {xv : XV} {mv : MV} (hx : xv.1 = h) (hm : mv.2.2.2.2.2.2.2.1 = s0) (x2 : Int32) : ∀ (k i fuel : Nat) (b l1 l2 : Int32) (v : CV) (s tk : zAI), i + k = c.2.2.2.1 → k < fuel → ((b = -4 ∧ l1 = nI 1000000000 ∧ l2 = -4) ∨ (∃ j, j < 10 ∧ b = nI j ∧ l1 = l2)) → ∃ b' l1' l2' v' s' tk', fX6_relief_L31 fuel xv (nI n) x2 b l1 (nI i) v = some (b', l1', v') ∧ fX7_relief_L31 fuel mv (nI n) x2 b l2 (nI i) s tk = some (b', l2', s', tk') ∧ ((b' = -4 ∧ l2' = -4) ∨ (¬ b' = -4 ∧ l1' = l2')) := by
  have hy := hB.2.1
  have hc10 := hB.1.2.2.1.1
  have ne4 : ∀ j, j < 10 → ¬ nI j = -4 := by
    intro j hj q
    have := congrArg Int32.toInt q
    rw [nI_toInt (by omega)] at this
    have h2 : (-4 : Int32).toInt = -4 := by decide
    rw [h2] at this
    omega
  intro k
  induction k with
  | zero =>
    intro i fuel b l1 l2 v s tk hi hf hI
    obtain ⟨f, rfl⟩ : ∃ f, fuel = f + 1 := ⟨fuel - 1, by omega⟩
    rw [fX6_relief_L31, fX7_relief_L31, hx, hm, hB.1.1.1, show zgt s0 3 = s0 3 from rfl, hB.1.2.1.1, if_pos (nI_le (by omega) (by omega)), if_pos (nI_le (by omega) (by omega))]
    refine ⟨_, _, _, _, _, _, rfl, rfl, ?_⟩
    rcases hI with ⟨e1, e2, e3⟩ | ⟨j, hj, e1, e2⟩
    · exact Or.inl ⟨e1, e3⟩
    · exact Or.inr ⟨by rw [e1]; exact ne4 j hj, e2⟩
  | succ k ih =>
    intro i fuel b l1 l2 v s tk hi hf hI
    obtain ⟨f, rfl⟩ : ∃ f, fuel = f + 1 := ⟨fuel - 1, by omega⟩
    obtain ⟨v1, e1, e2, e3, -⟩ := p_start hB (xv.1, xv.2.1, v, xv.2.2.2) hx s
    obtain ⟨v2, p1, p2⟩ := p_take e2.1 hc10 (i := i) (by omega)
    obtain ⟨s2, q1, q2, q3⟩ := q_take (s0 := tri s0 s) (mv := (mv.1, mv.2.1, mv.2.2.1, mv.2.2.2.1, mv.2.2.2.2.1, mv.2.2.2.2.2.1, mv.2.2.2.2.2.2.1, mv.2.2.2.2.2.2.2.1, (tri s0 s), mv.2.2.2.2.2.2.2.2.2.1, mv.2.2.2.2.2.2.2.2.2.2.1, mv.2.2.2.2.2.2.2.2.2.2.2.1, tk, mv.2.2.2.2.2.2.2.2.2.2.2.2.2)) rfl e2.2.1 hc10 (i := i) (by omega)
    have hO := takT_ok (i := i) e2.2.2.1 (by omega)
    have e3' : RW h.2.1 s2 r m := e3.keep (fun q a b => q3 q (by omega))
    obtain ⟨v3, f1, f2, f3⟩ := p_leaks (h := h) (r := r) (m := m) (xv := (xv.1, xv.2.1, v2, xv.2.2.2)) (n := n) hx (by omega) e3' rfl p2 hO (by show c.2.2.2.2 + n < 100000; omega)
    obtain ⟨s3, tk3, g1, g2⟩ := q_goOn (r := r) (m := m) (n := n) (by omega) (mv := (mv.1, mv.2.1, mv.2.2.1, mv.2.2.2.1, mv.2.2.2.2.1, mv.2.2.2.2.2.1, mv.2.2.2.2.2.2.1, mv.2.2.2.2.2.2.2.1, s2, mv.2.2.2.2.2.2.2.2.2.1, mv.2.2.2.2.2.2.2.2.2.2.1, mv.2.2.2.2.2.2.2.2.2.2.2.1, tk, mv.2.2.2.2.2.2.2.2.2.2.2.2.2)) rfl q2 hO e3' (by show c.2.2.2.2 + n < 100000; omega)
    have hls := lsum_le e3' n (takT c i)
    rw [hm] at q1 g1
    have hw : zgt s2 44 = h.1 := by
      rw [show zgt s2 44 = s2 44 from rfl, q3 44 (by omega), tri_in (by omega), hB.2.2.2]
    rw [fX6_relief_L31, fX7_relief_L31, hx, hm, hB.1.1.1, show zgt s0 3 = s0 3 from rfl, hB.1.2.1.1, if_neg (nI_ge (by omega) (by omega)), if_neg (nI_ge (by omega) (by omega))]
    rw [hx] at e1 f1
    rw [e1, q_begin, bind_s, bind_s]
    dsimp only
    rw [p1, q1, bind_s, bind_s, p_heavy p2 hO, q_heavy q2 hO, bind_s, bind_s, hw]
    by_cases qh : h.1 < nI (ds (fun j => (takT c i).2.1 j + (takT c i).2.2.1 j) 0 (takT c i).2.2.2.1)
    · rw [if_pos qh, if_pos qh, nI_1]
      exact ih (i + 1) f b l1 l2 v2 s2 tk (by omega) (by omega) hI
    · rw [if_neg qh, if_neg qh, f1, g1, bind_s, bind_s]
      dsimp only
      rcases hI with ⟨rfl, rfl, rfl⟩ | ⟨j, hj, rfl, rfl⟩
      · rw [if_neg (nI_ge (by omega) (by omega)), if_pos rfl, nI_1]
        exact ih (i + 1) f _ _ _ v3 s3 tk3 (by omega) (by omega) (Or.inr ⟨i, by omega, rfl, rfl⟩)
      · rw [if_neg (ne4 j hj), nI_1]
        by_cases ql : l1 ≤ nI (lsum r m n (takT c i))
        · rw [if_pos ql, if_pos ql]
          exact ih (i + 1) f _ _ _ v3 s3 tk3 (by omega) (by omega) (Or.inr ⟨j, hj, rfl, rfl⟩)
        · rw [if_neg ql, if_neg ql]
          exact ih (i + 1) f _ _ _ v3 s3 tk3 (by omega) (by omega) (Or.inr ⟨i, by omega, rfl, rfl⟩)
theorem o_relief {xv : XV} {mv : MV} (h : RH xv.1 mv.2.2.2.2.2.2.2.1) (x z : Int32) : ∃ a v' s' tk', fX6_relief xv x z = some (a, v') ∧ fX7_relief mv x z = some (a, s', tk') := by
  unfold fX6_relief fX7_relief
  by_cases q : rng x 1 20
  rotate_left
  · rw [out_f q, in_f q, bind_s, bind_s, if10, if00]
    exact ⟨_, _, _, _, rfl, rfl⟩
  rw [out_t q, in_t q, bind_s, bind_s, if00, if10]
  by_cases q2 : rng z 0 1
  rotate_left
  · rw [out_f q2, in_f q2, bind_s, bind_s, if10, if00]
    exact ⟨_, _, _, _, rfl, rfl⟩
  rw [out_t q2, in_t q2, bind_s, bind_s, if00, if10]
  obtain ⟨n, n1, n2, rfl⟩ := rng_n (a := 1) (b := 20) (by omega) q (by omega)
  obtain ⟨c, r, m, hB⟩ := h.bf
  have hc10 := hB.1.2.2.1.1
  obtain ⟨b', l1', l2', v', s', tk', g1, g2, g3⟩ := reliefL hB n2 (xv := xv) (mv := mv) rfl rfl z c.2.2.2.1 0 zF (-4) (nI 1000000000) (-4) xv.2.2.1 mv.2.2.2.2.2.2.2.2.1 mv.2.2.2.2.2.2.2.2.2.2.2.2.1 (Nat.zero_add _) (zF_lt (by omega)) (Or.inl ⟨rfl, rfl, rfl⟩)
  rw [show fX6_relief_L31 zF xv (nI n) z (-4) 1000000000 0 xv.2.2.1 = some (b', l1', v') from g1, show fX7_relief_L31 zF mv (nI n) z (-4) (-4) 0 mv.2.2.2.2.2.2.2.2.1 mv.2.2.2.2.2.2.2.2.2.2.2.2.1 = some (b', l2', s', tk') from g2, bind_s, bind_s]
  dsimp only
  rcases g3 with ⟨rfl, rfl⟩ | ⟨k1, rfl⟩
  · rw [if_pos rfl]
    by_cases k2 : z = 0
    · rw [if_pos k2]
      exact ⟨_, _, _, _, rfl, rfl⟩
    · rw [if_neg k2]
      exact ⟨_, _, _, _, rfl, rfl⟩
  · rw [if_neg k1]
    by_cases k2 : z = 0
    · rw [if_pos k2, if_pos k2]
      exact ⟨_, _, _, _, rfl, rfl⟩
    · rw [if_neg k2, if_neg k2]
      exact ⟨_, _, _, _, rfl, rfl⟩
