/-! the best parting -/
def ShI (ll lh x4 x5 : Int32) (best bp : zAI) : Prop := (ll = nI 1000000000 ∧ lh = nI 1000000000 ∧ x4 = -4 ∧ x5 = -4) ∨ (∃ L, L ≤ 1000 ∧ ll = nI L ∧ x4 = nI L ∧ lh = x5 ∧ ∀ j, j < 10 → best j = bp j)
def ShF (ll lh x4 x5 : Int32) (best bp : zAI) : Prop := ll = x4 ∧ lh = x5 ∧ ∀ j, j < 10 → best j = bp j
theorem zcpy10 (a b : zAI) : zcpy a b 0 0 10 = va_cpy a b 0 0 10 := rfl
theorem shareL {h : HV} {s0 : zAI} {c : Tm} {r : Nat → Nat} {m n : Nat} (hB : BF h s0 c r m) (hn : n ≤ 20) (h1 : 1 ≤ c.2.2.2.1) {xv : XV} {mv : MV} (hx : xv.1 = h) (hm : mv.2.2.2.2.2.2.2.1 = s0) (x3 : Int32) : ∀ (mu i fuel : Nat) (p : Nat → Nat) (v : CV) (P : PV) (x4 x5 : Int32) (s tk pt bp : zAI), mup p c.2.2.2.1 (c.2.2.2.1 - 1) = mu → i + mu < 1000000 → mu + 1 < fuel → (∀ j, j < 10 → p j + mu ≤ 5100) → rep 10 P.1 p → rep 10 pt p → P.2.2.1 = nI c.2.2.2.1 → ShI P.2.2.2.1 P.2.2.2.2 x4 x5 P.2.1 bp → ∃ v' P' x4' x5' s' tk' pt' bp', fX6_findBestParting_L20 fuel xv (nI n) (nI i) v P = some (.inl (v', P')) ∧ fX7_share_L89 fuel mv (nI n) x3 x4 x5 1 s tk pt bp = some (x4', x5', s', tk', pt', bp') ∧ ShF P'.2.2.2.1 P'.2.2.2.2 x4' x5' P'.2.1 bp' := by
  have hy := hB.2.1
  have hc10 := hB.1.2.2.1.1
  have ne4 : ∀ j, j ≤ 1000 → ¬ nI j = -4 := by
    intro j hj q
    have := congrArg Int32.toInt q
    rw [nI_toInt (by omega)] at this
    have h2 : (-4 : Int32).toInt = -4 := by decide
    rw [h2] at this
    omega
  intro mu
  induction mu using Nat.strongRecOn with
  | _ mu ih =>
    intro i fuel p v P x4 x5 s tk pt bp hmu hi hf hb hr1 hr2 hP hI
    obtain ⟨f, rfl⟩ : ∃ f, fuel = f + 2 := ⟨fuel - 2, by omega⟩
    have hb' : ∀ j, j < 10 → p j ≤ 6000 := fun j hj => by have := hb j hj; omega
    obtain ⟨v1, e1, e2, e3, -⟩ := p_start hB (xv.1, xv.2.1, v, P, xv.2.2.2.2) hx s
    obtain ⟨v2, p1, p2⟩ := p_thk e2.2.2.1 hr1 hb' e2.1
    obtain ⟨s2, q1, q2, q3⟩ := q_thk (x2 := nI n) (x3 := x3) (x4 := x4) (x5 := x5) (mv := (mv.1, mv.2.1, mv.2.2.1, mv.2.2.2.1, mv.2.2.2.2.1, mv.2.2.2.2.2.1, mv.2.2.2.2.2.2.1, mv.2.2.2.2.2.2.2.1, (tri s0 s), mv.2.2.2.2.2.2.2.2.2.1, mv.2.2.2.2.2.2.2.2.2.2.1, mv.2.2.2.2.2.2.2.2.2.2.2.1, tk, pt, bp)) (c := c) e2.2.2.1 (by dsimp only; rw [hm]; exact hB.1.2.1.1) hr2 hb' e2.2.1
    have hO := thkT_ok (p := p) e2.2.2.1
    have e3' : RW h.2.1 s2 r m := e3.keep (fun q a b => q3 q (by omega))
    obtain ⟨s3, tk3, g1, g2, g3, -⟩ := q_goOn (r := r) (m := m) (n := n) (by omega) (mv := (mv.1, mv.2.1, mv.2.2.1, mv.2.2.2.1, mv.2.2.2.2.1, mv.2.2.2.2.2.1, mv.2.2.2.2.2.2.1, mv.2.2.2.2.2.2.2.1, s2, mv.2.2.2.2.2.2.2.2.2.1, mv.2.2.2.2.2.2.2.2.2.2.1, mv.2.2.2.2.2.2.2.2.2.2.2.1, tk, pt, bp)) rfl q2 hO e3' (by show c.2.2.2.2 + n < 100000; omega)
    have hls := lsum_le e3' n (thkT c p)
    have hlast := lastp_le p (c.2.2.2.1 - 1)
    have fin : ∀ (v4 : CV) (P' : PV) (x4' x5' : Int32) (bp' : zAI), P'.1 = P.1 → P'.2.2.1 = nI c.2.2.2.1 → ShI P'.2.2.2.1 P'.2.2.2.2 x4' x5' P'.2.1 bp' → ShF P'.2.2.2.1 P'.2.2.2.2 x4' x5' P'.2.1 bp' → ∃ v' P'' x4'' x5'' s' tk' pt' bp'', ((fX2_advance P').bind (fun u6 => if u6.1 = 0 then (some (.inl (v4, u6.2))) else (fX6_findBestParting_L20 (f + 1) xv (nI n) (nI i + 1) v4 u6.2)) : Option ((CV × PV) ⊕ (CV × PV))) = some (.inl (v', P'')) ∧ ((fX7_isNextParts (mv.1, mv.2.1, mv.2.2.1, mv.2.2.2.1, mv.2.2.2.2.1, mv.2.2.2.2.2.1, mv.2.2.2.2.2.2.1, mv.2.2.2.2.2.2.2.1, s3, mv.2.2.2.2.2.2.2.2.2.1, mv.2.2.2.2.2.2.2.2.2.2.1, mv.2.2.2.2.2.2.2.2.2.2.2.1, tk3, pt, bp')).bind (fun u8 => fX7_share_L89 (f + 1) mv (nI n) x3 x4' x5' u8.1 s3 tk3 u8.2 bp')) = some (x4'', x5'', s', tk', pt', bp'') ∧ ShF P''.2.2.2.1 P''.2.2.2.2 x4'' x5'' P''.2.1 bp'' := by
      intro v4 P' x4' x5' bp' k1 k2 k3 k4
      obtain ⟨a1, a2⟩ := p_adv (v := P') (p := p) (N := c.2.2.2.1) (by rw [k1]; exact hr1) hb' k2 h1 hc10
      obtain ⟨b1, b2⟩ := q_adv (mv := (mv.1, mv.2.1, mv.2.2.1, mv.2.2.2.1, mv.2.2.2.2.1, mv.2.2.2.2.2.1, mv.2.2.2.2.2.2.1, mv.2.2.2.2.2.2.2.1, s3, mv.2.2.2.2.2.2.2.2.2.1, mv.2.2.2.2.2.2.2.2.2.2.1, mv.2.2.2.2.2.2.2.2.2.2.2.1, tk3, pt, bp')) (p := p) (N := c.2.2.2.1) hr2 hb' (by dsimp only; rw [hm]; exact hB.1.2.1.1) h1 hc10
      by_cases q : lastp p (c.2.2.2.1 - 1) = 0
      · rw [a1 q, b1 q, bind_s, bind_s, if00]
        dsimp only
        rw [fX7_share_L89, if00]
        exact ⟨_, _, _, _, _, _, _, _, rfl, rfl, k4⟩
      · have hmu' := nextp_mu (p := p) (N := c.2.2.2.1) (k := lastp p (c.2.2.2.1 - 1)) (by omega) hlast (lastp_p p _ q) (lastp_0 p _)
        obtain ⟨a, c1, c2⟩ := a2 q
        obtain ⟨b, d1, d2⟩ := b2 q
        rw [c1, d1, bind_s, bind_s]
        dsimp only
        rw [if10, nI_1]
        refine ih (mu - 1) (by omega) (i + 1) (f + 1) _ v4 (a, P'.2) x4' x5' s3 tk3 b bp' (by omega) (by omega) (by omega) (fun j hj => ?_) c2 d2 k2 k3
        have hbj := hb j hj
        have hbl := hb (lastp p (c.2.2.2.1 - 1)) (by omega)
        have hbm := hb (lastp p (c.2.2.2.1 - 1) - 1) (by omega)
        unfold nextp unp
        split
        · omega
        · split
          · omega
          · split
            · omega
            · omega
    rw [fX6_findBestParting_L20, fX7_share_L89, if_neg (show ¬ (1000000 : Int32) ≤ nI i from nI_ge (b := 1000000) (by omega) (by omega)), if10]
    rw [hm] at q1 g1
    rw [e1, q_begin, bind_s, bind_s]
    dsimp only
    have hbr : fX7_bring10 pt bp 0 0 10 = some (va_cpy pt bp 0 0 10) := q_bring10 pt bp (i := 0) (j := 0) (n := 10) (by omega) (by omega)
    have hcp : ∀ j, j < 10 → va_cpy P.1 P.2.1 0 0 10 j = va_cpy pt bp 0 0 10 j := by
      intro j hj
      rw [cpy_in (by omega) (by omega), cpy_in (by omega) (by omega), hr1 _ (by omega), hr2 _ (by omega)]
    rw [hm] at fin
    rw [hm, p1, q1, bind_s, bind_s, g1, bind_s]
    dsimp only
    rw [q_heavy g2 g3, bind_s, hbr, bind_s]
    rcases hI with ⟨i1, i2, i3, i4⟩ | ⟨L, i1, i2, i3, i4, i5⟩
    · obtain ⟨res, v3, f1, f2, f3⟩ := p_upto (h := h) (r := r) (m := m) (lim := 1000000000) (xv := (xv.1, xv.2.1, v2, P, xv.2.2.2.2)) (n := n) hx (by omega) (by omega) e3' rfl p2 hO (by show c.2.2.2.2 + n < 100000; omega)
      rcases f3 with ⟨k1, k2, k3, k4⟩ | ⟨k1, k2⟩
      rotate_left
      · omega
      subst k2
      rw [i1, f1, bind_s]
      dsimp only
      rw [if_neg (nI_nlt (by omega) (by omega)), p_heavy k3 g3, bind_s, i3, if_pos rfl]
      have hk : ∀ w, fX2_keepIfBetter P (nI (lsum r m n (thkT c p))) w = some (P.1, va_cpy P.1 P.2.1 0 0 10, P.2.2.1, nI (lsum r m n (thkT c p)), w) := by
        intro w
        unfold fX2_keepIfBetter
        rw [i1, if_neg (nI_nlt (by omega) (by omega)), if_neg (by rw [neq (by omega) (by omega)]; omega), zcpy10]
      rw [hk, bind_s]
      exact fin v3 _ _ _ _ rfl hP (Or.inr ⟨_, by omega, rfl, rfl, rfl, hcp⟩) ⟨rfl, rfl, hcp⟩
    · obtain ⟨res, v3, f1, f2, f3⟩ := p_upto (h := h) (r := r) (m := m) (lim := L) (xv := (xv.1, xv.2.1, v2, P, xv.2.2.2.2)) (n := n) hx (by omega) (by omega) e3' rfl p2 hO (by show c.2.2.2.2 + n < 100000; omega)
      rw [i2, f1, bind_s]
      dsimp only
      rw [i3, if_neg (ne4 L i1)]
      rcases f3 with ⟨k1, k2, k3, k4⟩ | ⟨k1, k2⟩
      · subst k2
        rw [if_neg (nI_nlt (by omega) (by omega)), p_heavy k3 g3, bind_s]
        by_cases q : lsum r m n (thkT c p) < L
        · have hk : ∀ w, fX2_keepIfBetter P (nI (lsum r m n (thkT c p))) w = some (P.1, va_cpy P.1 P.2.1 0 0 10, P.2.2.1, nI (lsum r m n (thkT c p)), w) := by
            intro w
            unfold fX2_keepIfBetter
            rw [i2, if_neg (nI_nlt (by omega) (by omega)), if_neg (by rw [neq (by omega) (by omega)]; omega), zcpy10]
          rw [hk, bind_s, if_pos (nI_lt q (by omega))]
          exact fin v3 _ _ _ _ rfl hP (Or.inr ⟨_, by omega, rfl, rfl, rfl, hcp⟩) ⟨rfl, rfl, hcp⟩
        · have hL : lsum r m n (thkT c p) = L := by omega
          rw [hL, if_neg (nI_nlt (by omega) (by omega)), if_pos rfl]
          by_cases q2 : x5 ≤ nI (ds (fun j => (itS r m n (thkT c p)).2.1 j + (itS r m n (thkT c p)).2.2.1 j) 0 (itS r m n (thkT c p)).2.2.2.1)
          · rw [if_pos q2]
            have hk : fX2_keepIfBetter P (nI L) (nI (ds (fun j => (itS r m n (thkT c p)).2.1 j + (itS r m n (thkT c p)).2.2.1 j) 0 (itS r m n (thkT c p)).2.2.2.1)) = some P := by
              unfold fX2_keepIfBetter
              rw [i2, if_neg (nI_nlt (by omega) (by omega)), if_pos rfl, i4, if_neg (i_le_nlt q2)]
            rw [hk, bind_s]
            exact fin v3 _ _ _ _ rfl hP (Or.inr ⟨L, i1, i2, rfl, i4, i5⟩) ⟨i2, i4, i5⟩
          · rw [if_neg q2]
            have hk : fX2_keepIfBetter P (nI L) (nI (ds (fun j => (itS r m n (thkT c p)).2.1 j + (itS r m n (thkT c p)).2.2.1 j) 0 (itS r m n (thkT c p)).2.2.2.1)) = some (P.1, va_cpy P.1 P.2.1 0 0 10, P.2.2.1, nI L, (nI (ds (fun j => (itS r m n (thkT c p)).2.1 j + (itS r m n (thkT c p)).2.2.1 j) 0 (itS r m n (thkT c p)).2.2.2.1))) := by
              unfold fX2_keepIfBetter
              rw [i2, if_neg (nI_nlt (by omega) (by omega)), if_pos rfl, i4, if_pos (i_nle q2), zcpy10]
            rw [hk, bind_s]
            exact fin v3 _ _ _ _ rfl hP (Or.inr ⟨L, i1, rfl, rfl, rfl, hcp⟩) ⟨rfl, rfl, hcp⟩
      · rw [if_pos (nI_lt k2 (by omega)), if_neg (nI_nlt (by omega) (by omega)), if_neg (by rw [neq (by omega) (by omega)]; omega)]
        exact fin v3 _ _ _ _ rfl hP (Or.inr ⟨L, i1, i2, rfl, i4, i5⟩) ⟨i2, i4, i5⟩
theorem p_begL {N s : Nat} (e : zAI × Int32 × Int32 × Int32) (hN : N ≤ 10) (h1 : 1 ≤ N) : ∀ (k x fuel : Nat) (a : zAI), x + k = 10 → k < fuel → (∀ j, j < x → a j = nI (unp (fun _ => 0) (N - 1) s j)) → ∃ a', fX2_begin_L19 fuel (a, e) (nI N) (nI s) (nI x) = some (a', e) ∧ rep 10 a' (unp (fun _ => 0) (N - 1) s) := by
  intro k
  induction k with
  | zero =>
    intro x fuel a hx hf ha
    obtain ⟨f, rfl⟩ : ∃ f, fuel = f + 1 := ⟨fuel - 1, by omega⟩
    rw [fX2_begin_L19, if_pos (show (10 : Int32) ≤ nI x from nI_le (a := 10) (by omega) (by omega))]
    exact ⟨a, rfl, fun j hj => ha j (by omega)⟩
  | succ k ih =>
    intro x fuel a hx hf ha
    obtain ⟨f, rfl⟩ : ∃ f, fuel = f + 1 := ⟨fuel - 1, by omega⟩
    rw [fX2_begin_L19, if_neg (show ¬ (10 : Int32) ≤ nI x from nI_ge (b := 10) (by omega) (by omega)), zix_n (by omega) (by omega), zgrd_t, zgrd_t, zpt_n _ (by omega), zpt_n _ (by omega), show (1 : Int32) = nI 1 from rfl, nsub h1, nI_add]
    have fin : ∀ z, z = nI (unp (fun _ => 0) (N - 1) s x) → ∃ a', fX2_begin_L19 f (upd a x z, e) (nI N) (nI s) (nI (x + 1)) = some (a', e) ∧ rep 10 a' (unp (fun _ => 0) (N - 1) s) := by
      intro z hz
      subst hz
      refine ih (x + 1) f _ (by omega) (by omega) (fun j hj => ?_)
      by_cases q : j = x
      · subst q
        rw [upd_s]
      · rw [upd_n q]
        exact ha j (by omega)
    by_cases q : x = N - 1
    · rw [if_pos (congrArg nI q)]
      exact fin _ (by rw [q, unp_s])
    · rw [if_neg (by rw [neq (by omega) (by omega)]; exact q)]
      exact fin _ (by rw [unp_n q]; rfl)
theorem p_beg {N s : Nat} (P : PV) (hN : N ≤ 10) (h1 : 1 ≤ N) : ∃ a, fX2_begin P (nI N) (nI s) = some (a, P.2.1, nI N, 1000000000, 1000000000) ∧ rep 10 a (unp (fun _ => 0) (N - 1) s) := by
  obtain ⟨a, b1, b2⟩ := p_begL (s := s) (P.2.1, nI N, 1000000000, 1000000000) hN h1 10 0 zF P.1 rfl (zF_lt (by omega)) (fun j hj => by omega)
  refine ⟨a, ?_, b2⟩
  unfold fX2_begin
  rw [show fX2_begin_L19 zF (P.1, P.2.1, nI N, 1000000000, 1000000000) (nI N) (nI s) 0 = _ from b1, bind_s]
theorem q_begL {mv : MV} {x1 x2 x3 : Int32} : ∀ (k x fuel : Nat) (a : zAI), x + k = 10 → k < fuel → (∀ j, j < x → a j = nI 0) → ∃ a', fX7_share_L43 fuel mv x1 x2 x3 (nI x) a = some a' ∧ rep 10 a' (fun _ => 0) := by
  intro k
  induction k with
  | zero =>
    intro x fuel a hx hf ha
    obtain ⟨f, rfl⟩ : ∃ f, fuel = f + 1 := ⟨fuel - 1, by omega⟩
    rw [fX7_share_L43, if_pos (show (10 : Int32) ≤ nI x from nI_le (a := 10) (by omega) (by omega))]
    exact ⟨a, rfl, fun j hj => ha j (by omega)⟩
  | succ k ih =>
    intro x fuel a hx hf ha
    obtain ⟨f, rfl⟩ : ∃ f, fuel = f + 1 := ⟨fuel - 1, by omega⟩
    rw [fX7_share_L43, if_neg (show ¬ (10 : Int32) ≤ nI x from nI_ge (b := 10) (by omega) (by omega)), zix_n (by omega) (by omega), zgrd_t, zpt_n _ (by omega), nI_1]
    refine ih (x + 1) f _ (by omega) (by omega) (fun j hj => ?_)
    by_cases q : j = x
    · subst q
      rw [upd_s]
      rfl
    · rw [upd_n q]
      exact ha j (by omega)
theorem o_share {xv : XV} {mv : MV} (h : RH xv.1 mv.2.2.2.2.2.2.2.1) (x y z : Int32) : ∃ a v' P' s' tk' pt' bp', fX6_share xv x y z = some (a, v', P') ∧ fX7_share mv x y z = some (a, s', tk', pt', bp') := by
  unfold fX6_share fX7_share
  by_cases q : rng x 0 6
  rotate_left
  · rw [out_f q, in_f q, bind_s, bind_s, if10, if00]
    exact ⟨_, _, _, _, _, _, _, rfl, rfl⟩
  rw [out_t q, in_t q, bind_s, bind_s, if00, if10]
  by_cases q2 : rng y 1 20
  rotate_left
  · rw [out_f q2, in_f q2, bind_s, bind_s, if10, if00]
    exact ⟨_, _, _, _, _, _, _, rfl, rfl⟩
  rw [out_t q2, in_t q2, bind_s, bind_s, if00, if10]
  by_cases q3 : (-2 : Int32) ≤ z
  rotate_left
  · rw [if_neg q3, if_neg q3]
    exact ⟨_, _, _, _, _, _, _, rfl, rfl⟩
  rw [if_pos q3, if_pos q3]
  obtain ⟨s, n1, n2, rfl⟩ := rng_n (a := 0) (b := 6) (by omega) q (by omega)
  obtain ⟨n, n3, n4, rfl⟩ := rng_n (a := 1) (b := 20) (by omega) q2 (by omega)
  obtain ⟨c, r, m, hB⟩ := h.bf
  have hc10 := hB.1.2.2.1.1
  rw [hB.1.1.1, show zgt mv.2.2.2.2.2.2.2.1 3 = nI c.2.2.2.1 from hB.1.2.1.1]
  by_cases q4 : c.2.2.2.1 = 0
  · rw [q4, if_pos (show nI 0 = (0 : Int32) from rfl), if_pos (show nI 0 = (0 : Int32) from rfl)]
    exact ⟨_, _, _, _, _, _, _, rfl, rfl⟩
  rw [if_neg (nI_ne0 (by omega) (by omega)), if_neg (nI_ne0 (by omega) (by omega))]
  obtain ⟨a0, b1, b2⟩ := q_begL (mv := mv) (x1 := nI s) (x2 := nI n) (x3 := z) 10 0 zF mv.2.2.2.2.2.2.2.2.2.2.2.2.2.1 rfl (zF_lt (by omega)) (fun j hj => by omega)
  obtain ⟨a1, b3, b4⟩ := p_beg (N := c.2.2.2.1) (s := s) xv.2.2.2.1 hc10 (by omega)
  have hmu := start_mu (N := c.2.2.2.1) (s := s) (by omega) hc10 n2
  rw [show fX7_share_L43 zF mv (nI s) (nI n) z 0 mv.2.2.2.2.2.2.2.2.2.2.2.2.2.1 = some a0 from b1, bind_s, show (1 : Int32) = nI 1 from rfl, nsub (show 1 ≤ c.2.2.2.1 by omega), zix_n (by omega) (by omega), zgrd_t, zpt_n _ (by omega)]
  have hbb : ∀ j, j < 10 → unp (fun _ => 0) (c.2.2.2.1 - 1) s j + mup (unp (fun _ => 0) (c.2.2.2.1 - 1) s) c.2.2.2.1 (c.2.2.2.1 - 1) ≤ 5100 := by
    intro j hj
    by_cases k : j = c.2.2.2.1 - 1
    · rw [k, unp_s]
      omega
    · rw [unp_n k]
      omega
  obtain ⟨v', P', x4', x5', s', tk', pt', bp', g1, g2, g3, g4, g5⟩ := shareL hB n4 (show 1 ≤ c.2.2.2.1 by omega) (xv := (xv.1, xv.2.1, xv.2.2.1, (a1, xv.2.2.2.1.2.1, nI c.2.2.2.1, 1000000000, 1000000000), xv.2.2.2.2)) (mv := (mv.1, mv.2.1, mv.2.2.1, mv.2.2.2.1, mv.2.2.2.2.1, mv.2.2.2.2.2.1, mv.2.2.2.2.2.2.1, mv.2.2.2.2.2.2.2.1, mv.2.2.2.2.2.2.2.2.1, mv.2.2.2.2.2.2.2.2.2.1, mv.2.2.2.2.2.2.2.2.2.2.1, mv.2.2.2.2.2.2.2.2.2.2.2.1, mv.2.2.2.2.2.2.2.2.2.2.2.2.1, (upd a0 (c.2.2.2.1 - 1) (nI s)), mv.2.2.2.2.2.2.2.2.2.2.2.2.2.2)) rfl rfl z _ 0 zF (unp (fun _ => 0) (c.2.2.2.1 - 1) s) xv.2.2.1 (a1, xv.2.2.2.1.2.1, nI c.2.2.2.1, 1000000000, 1000000000) (-4) (-4) mv.2.2.2.2.2.2.2.2.1 mv.2.2.2.2.2.2.2.2.2.2.2.2.1 (upd a0 (c.2.2.2.1 - 1) (nI s)) mv.2.2.2.2.2.2.2.2.2.2.2.2.2.2 rfl (by omega) (by have := zF_lt (i := 6000) (by omega); omega) hbb b4 (b2.up _ _) rfl (Or.inl ⟨rfl, rfl, rfl, rfl⟩)
  have hfb : fX6_findBestParting xv (nI s) (nI n) = some (v', P') := by
    unfold fX6_findBestParting
    rw [hB.1.1.1, b3, bind_s]
    rw [show fX6_findBestParting_L20 zF (xv.1, xv.2.1, xv.2.2.1, (a1, xv.2.2.2.1.2.1, nI c.2.2.2.1, 1000000000, 1000000000), xv.2.2.2.2) (nI n) 0 xv.2.2.1 (a1, xv.2.2.2.1.2.1, nI c.2.2.2.1, 1000000000, 1000000000) = _ from g1, bind_s]
    rfl
  rw [show (nI 1 : Int32) = 1 from rfl, g2, bind_s, hfb, bind_s]
  dsimp only
  have t1 : (-1 : Int32).toInt = -1 := by decide
  have t2 : (-2 : Int32).toInt = -2 := by decide
  have t0 : (0 : Int32).toInt = 0 := by decide
  have tn : (nI c.2.2.2.1).toInt = c.2.2.2.1 := nI_toInt (by omega)
  have m1 : (-1 : Int32) < nI c.2.2.2.1 := by rw [Int32.lt_iff_toInt_lt]; omega
  have m2 : (-2 : Int32) < nI c.2.2.2.1 := by rw [Int32.lt_iff_toInt_lt]; omega
  by_cases q5 : z = -1
  · subst q5
    rw [if_pos m1, if_neg (by decide), if_pos rfl, if_pos rfl, g3]
    exact ⟨_, _, _, _, _, _, _, rfl, rfl⟩
  by_cases q6 : z = -2
  · subst q6
    rw [if_pos m2, if_pos rfl, if_neg (by decide), if_pos rfl, g4]
    exact ⟨_, _, _, _, _, _, _, rfl, rfl⟩
  rw [if_neg q5, if_neg q6, if_neg q5, if_neg q6]
  rcases coat_cases (v := xv.1.2.2.1) (mv := (mv.1, mv.2.1, mv.2.2.1, mv.2.2.2.1, mv.2.2.2.2.1, mv.2.2.2.2.2.1, mv.2.2.2.2.2.2.1, mv.2.2.2.2.2.2.2.1, s', mv.2.2.2.2.2.2.2.2.2.1, mv.2.2.2.2.2.2.2.2.2.2.1, mv.2.2.2.2.2.2.2.2.2.2.2.1, tk', pt', bp')) hB.1.1.1 hB.1.2.1.1 hc10 z with ⟨j, hj, rfl, c1, c2⟩ | ⟨c1, c2⟩
  · rw [if_pos (nI_lt hj (by omega)), c2, bind_s, if10, zix_n (by omega) (by omega), zgrd_t, zgrd_t, zgt_n _ (by omega), zgt_n _ (by omega), g5 j (by omega)]
    exact ⟨_, _, _, _, _, _, _, rfl, rfl⟩
  · rw [c2, bind_s, if00]
    have hz : ¬ z < nI c.2.2.2.1 := by
      intro hh
      unfold fX0_has at c1
      have hz0 : ¬ z < 0 := by
        intro k
        rw [Int32.lt_iff_toInt_lt] at k
        rw [Int32.le_iff_toInt_le] at q3
        have k2 : z.toInt = -1 ∨ z.toInt = -2 := by omega
        rcases k2 with k2 | k2
        · exact q5 (Int32.toInt_inj.mp (by rw [k2, t1]))
        · exact q6 (Int32.toInt_inj.mp (by rw [k2, t2]))
      rw [hB.1.1.1, if_neg hz0, if_neg (i_lt_nle hh)] at c1
      exact absurd c1 (by decide)
    rw [if_neg hz]
    exact ⟨_, _, _, _, _, _, _, rfl, rfl⟩
