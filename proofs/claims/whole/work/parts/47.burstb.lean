/-! the odds of cloudbursts -/
theorem p_burY {h : HV} {xv : XV} {s : zAI} {r : Nat → Nat} {m n b : Nat} {f i : Nat} {v v' : CV} {t : Tm} {L : Nat} (hx : xv.1 = h) (hb : b < 64) (hi : i < n) (hn : n ≤ 6) (hR : RCt v t) (hy : t.2.2.2.2 < 100000) (hW : RW h.2.1 s r m) (hL : L < 1000) (hp : fX0_passYear v (nI (wtN r m b i t.2.2.2.2)) = some (nI L, v')) : fX6_staysDry_L6 (f + 1) xv (nI n) (nI b) (nI i) v = if L = 0 then fX6_staysDry_L6 f xv (nI n) (nI b) (nI (i + 1)) v' else some (.inl (0, v')) := by
  rw [fX6_staysDry_L6, if_neg (nI_ge (by omega) (by omega)), hx, show v.2.2.2.2.2.1 = nI t.2.2.2.2 from hR.2.1, p_rain hW (by omega), bind_s, zlet_e, zlet_e, bit_ok b hb i (by omega)]
  unfold wtN at hp
  have fin : (if nI L ≤ (0 : Int32) then fX6_staysDry_L6 f xv (nI n) (nI b) (nI i + 1) v' else some (.inl (0, v'))) = if L = 0 then fX6_staysDry_L6 f xv (nI n) (nI b) (nI (i + 1)) v' else some (.inl (0, v')) := by
    rw [nI_1]
    by_cases q : L = 0
    · subst q
      rw [if_pos (show nI 0 ≤ (0 : Int32) by decide), if_pos rfl]
    · rw [if_neg q, if_neg (show ¬ nI L ≤ (0 : Int32) from nI_ge (a := 0) (by omega) (by omega))]
  rcases bitN_2 b i with q | q
  · rw [if_pos q] at hp
    rw [q, nI_0, if00, hp, bind_s]
    exact fin
  · have q0 : ¬ bitN b i = 0 := by rw [q]; decide
    rw [if_neg q0] at hp
    rw [q, show nI 1 = (1 : Int32) from rfl, if10, show (2 : Int32) = nI 2 from rfl, pk_mul, hp, bind_s]
    exact fin
theorem dryL {h : HV} {xv : XV} {mv : MV} {r : Nat → Nat} {m n b c : Nat} {x3 x4 x5 : Int32} (hx : xv.1 = h) (hb : b < 64) (hc : c ≤ 10) (hn : n ≤ 6) : ∀ (k i fuel od : Nat) (v : CV) (s tk : zAI) (t : Tm), i + k = n → k < fuel → Sm v s t → RW h.2.1 s r m → t.2.2.2.2 + k < 100000 → ∃ L s' tk' v', fX7_bursts_L83 fuel mv (nI n) (nI c) x3 x4 x5 (nI b) (nI od) (nI 0) (nI i) s tk = some (nI (od * odN b c i k), nI L, s', tk') ∧ L ≤ 80 * k ∧ fX6_staysDry_L6 fuel xv (nI n) (nI b) (nI i) v = some (if L = 0 then .inr v' else .inl (0, v')) := by
  intro k
  induction k with
  | zero =>
    intro i fuel od v s tk t hi hf hS hW hy
    obtain ⟨f, rfl⟩ : ∃ f, fuel = f + 1 := ⟨fuel - 1, by omega⟩
    rw [fX7_bursts_L83, fX6_staysDry_L6, if_pos (nI_le (by omega) (by omega)), if_pos (nI_le (by omega) (by omega))]
    exact ⟨0, s, tk, v, by rw [odN, Nat.mul_one], Nat.zero_le _, rfl⟩
  | succ k ih =>
    intro i fuel od v s tk t hi hf hS hW hy
    obtain ⟨f, rfl⟩ : ∃ f, fuel = f + 1 := ⟨fuel - 1, by omega⟩
    have hw := wtN_le hW b i t.2.2.2.2
    obtain ⟨v', tk', s', a1, a2, a3, a4, a5, a6, a7⟩ := hS.year (w := wtN r m b i t.2.2.2.2) (by omega) (by omega) tk
    have hl := lks_le (wtN r m b i t.2.2.2.2) t
    rw [q_burY hb hc (by omega) hn hS.2.1 (by omega) hW a2, p_burY hx hb (by omega) hn hS.1 (by omega) hW (by omega) a1, Nat.zero_add]
    by_cases q : lks (wtN r m b i t.2.2.2.2) t = 0
    · obtain ⟨L, s2, tk2, v2, b1, b2, b3⟩ := ih (i + 1) f (od * (if bitN b i = 0 then 10 - c else c)) v' s' tk' (stp (wtN r m b i t.2.2.2.2) t) (by omega) (by omega) a3 (hW.keep (fun q h1 _ => a7 q (by omega))) (by show t.2.2.2.2 + 1 + k < 100000; omega)
      rw [q, if_pos rfl, b1, b3, odN, Nat.mul_assoc]
      exact ⟨L, s2, tk2, v2, rfl, by omega, rfl⟩
    · obtain ⟨L, s2, tk2, b1, b2⟩ := q_burL (mv := mv) (x3 := x3) (x4 := x4) (x5 := x5) hb hc hn k (i + 1) f (od * (if bitN b i = 0 then 10 - c else c)) (lks (wtN r m b i t.2.2.2.2) t) s' tk' (stp (wtN r m b i t.2.2.2.2) t) (by omega) (by omega) a3.2.1 a3.2.2.1 (hW.keep (fun q h1 _ => a7 q (by omega))) (by show t.2.2.2.2 + 1 + k < 100000; omega)
      rw [if_neg q, b1, odN, Nat.mul_assoc]
      exact ⟨_, s2, tk2, v', rfl, by omega, by rw [if_neg (by omega)]⟩
theorem burL {h : HV} {s0 : zAI} {t : Tm} {r : Nat → Nat} {m n c : Nat} (hB : BF h s0 t r m) (hn : n ≤ 6) (hc : c ≤ 10) {xv : XV} {mv : MV} (hx : xv.1 = h) (hm : mv.2.2.2.2.2.2.2.1 = s0) (x3 x5 : Int32) : ∀ (k b fuel acc : Nat) (v : CV) (s tk : zAI), b + k = 2 ^ n → k < fuel → acc ≤ b * 1000000 → ∃ acc' v' s' tk', fX6_bursts_L37 fuel xv (nI n) (nI c) x3 (nI acc) (nI b) v = some (nI acc', v') ∧ fX7_bursts_L62 fuel mv (nI n) (nI c) x3 (nI acc) x5 (nI b) s tk = some (nI acc', s', tk') ∧ acc' ≤ 64000000 := by
  have hy := hB.2.1
  have h64 : 2 ^ n ≤ 64 := Nat.pow_le_pow_right (n := 2) (by omega) hn
  intro k
  induction k with
  | zero =>
    intro b fuel acc v s tk hb hf ha
    obtain ⟨f, rfl⟩ : ∃ f, fuel = f + 1 := ⟨fuel - 1, by omega⟩
    rw [fX6_bursts_L37, fX7_bursts_L62, zlet_e, zlet_e, shl_ok n (by omega), if_pos (nI_le (by omega) (by omega)), if_pos (nI_le (by omega) (by omega))]
    exact ⟨acc, _, _, _, rfl, rfl, by omega⟩
  | succ k ih =>
    intro b fuel acc v s tk hb hf ha
    obtain ⟨f, rfl⟩ : ∃ f, fuel = f + 1 := ⟨fuel - 1, by omega⟩
    obtain ⟨v1, e1, e2, e3, -⟩ := p_start hB (xv.1, xv.2.1, v, xv.2.2.2) hx s
    obtain ⟨L, s2, tk2, v2, b1, b2, b3⟩ := dryL (xv := (xv.1, xv.2.1, v1, xv.2.2.2)) (mv := (mv.1, mv.2.1, mv.2.2.1, mv.2.2.2.1, mv.2.2.2.2.1, mv.2.2.2.2.2.1, mv.2.2.2.2.2.2.1, mv.2.2.2.2.2.2.2.1, (tri s0 s), mv.2.2.2.2.2.2.2.2.2.1, mv.2.2.2.2.2.2.2.2.2.2.1, mv.2.2.2.2.2.2.2.2.2.2.2.1, tk, mv.2.2.2.2.2.2.2.2.2.2.2.2.2)) (r := r) (m := m) (n := n) (b := b) (c := c) (x3 := x3) (x4 := nI acc) (x5 := x5) hx (by omega) hc hn n 0 zF 1 v1 (tri s0 s) tk t (Nat.zero_add n) (zF_lt (by omega)) e2 e3 (by omega)
    have hd : fX6_staysDry (xv.1, xv.2.1, v, xv.2.2.2) (nI n) (nI b) = some (if L = 0 then (1, v2) else (0, v2)) := by
      unfold fX6_staysDry
      rw [e1, bind_s]
      rw [show fX6_staysDry_L6 zF (xv.1, xv.2.1, v1, xv.2.2.2) (nI n) (nI b) 0 v1 = _ from b3, bind_s]
      by_cases q : L = 0
      · rw [if_pos q, if_pos q]
        rfl
      · rw [if_neg q, if_neg q]
        rfl
    have hod := odN_le b c hc n 0
    have h10 : 10 ^ n ≤ 1000000 := Nat.pow_le_pow_right (n := 10) (j := 6) (by omega) hn
    have hcn := cnN_le b n 0
    rw [hm] at b1
    rw [fX6_bursts_L37, fX7_bursts_L62, zlet_e, zlet_e, shl_ok n (by omega), if_neg (nI_ge (by omega) (by omega)), if_neg (nI_ge (by omega) (by omega)), hd, bind_s, q_begin, bind_s]
    dsimp only
    rw [hm, show fX7_bursts_L83 zF (mv.1, mv.2.1, mv.2.2.1, mv.2.2.2.1, mv.2.2.2.2.1, mv.2.2.2.2.2.1, mv.2.2.2.2.2.2.1, s0, (tri s0 s), mv.2.2.2.2.2.2.2.2.2.1, mv.2.2.2.2.2.2.2.2.2.2.1, mv.2.2.2.2.2.2.2.2.2.2.2.1, tk, mv.2.2.2.2.2.2.2.2.2.2.2.2.2) (nI n) (nI c) x3 (nI acc) x5 (nI b) 1 0 0 (tri s0 s) tk = _ from b1, bind_s]
    dsimp only
    rw [Nat.one_mul, nI_1]
    by_cases q : L = 0
    · subst q
      rw [if_pos rfl]
      dsimp only
      rw [if10, if_pos (show nI 0 = (0 : Int32) from rfl), cnt_ok n (by omega) b (by omega), bind_s, p_pow c (by omega), bind_s, show (10 : Int32) = nI 10 from rfl, nsub hc, nsub hcn, p_pow _ (by omega), bind_s, pk_mul, ← odN_eq, nI_add]
      exact ih (b + 1) f (acc + odN b c 0 n) v2 s2 tk2 (by omega) (by omega) (by omega)
    · rw [if_neg q]
      dsimp only
      rw [if00, if_neg (nI_ne0 (by omega) (by omega)), show (0 : Int32) = nI 0 from rfl, nI_add, Nat.add_zero]
      exact ih (b + 1) f acc v2 s2 tk2 (by omega) (by omega) (Nat.le_trans ha (Nat.mul_le_mul_right _ (by omega)))
theorem o_bursts {xv : XV} {mv : MV} (h : RH xv.1 mv.2.2.2.2.2.2.2.1) (x y z : Int32) : ∃ a v' s' tk', fX6_bursts xv x y z = some (a, v') ∧ fX7_bursts mv x y z = some (a, s', tk') := by
  unfold fX6_bursts fX7_bursts
  by_cases q : rng x 0 6
  rotate_left
  · rw [out_f q, in_f q, bind_s, bind_s, if10, if00]
    exact ⟨_, _, _, _, rfl, rfl⟩
  rw [out_t q, in_t q, bind_s, bind_s, if00, if10]
  by_cases q2 : rng y 0 10
  rotate_left
  · rw [out_f q2, in_f q2, bind_s, bind_s, if10, if00]
    exact ⟨_, _, _, _, rfl, rfl⟩
  rw [out_t q2, in_t q2, bind_s, bind_s, if00, if10]
  by_cases q3 : rng z 0 1
  rotate_left
  · rw [out_f q3, in_f q3, bind_s, bind_s, if10, if00]
    exact ⟨_, _, _, _, rfl, rfl⟩
  rw [out_t q3, in_t q3, bind_s, bind_s, if00, if10]
  obtain ⟨n, -, n2, rfl⟩ := rng_n (a := 0) (b := 6) (by omega) q (by omega)
  obtain ⟨c, -, c2, rfl⟩ := rng_n (a := 0) (b := 10) (by omega) q2 (by omega)
  obtain ⟨t, r, m, hB⟩ := h.bf
  have h64 : 2 ^ n ≤ 64 := Nat.pow_le_pow_right (n := 2) (by omega) n2
  have h10 : 10 ^ n ≤ 1000000 := Nat.pow_le_pow_right (n := 10) (j := 6) (by omega) n2
  have h1 : 1 ≤ 10 ^ n := Nat.pow_pos (by omega)
  have hq := q_powL (mv := mv) (x2 := nI c) (x3 := z) (x4 := 0) n (by omega) n 0 zF 1 (Nat.zero_add n) (zF_lt (by omega))
  rw [Nat.one_mul] at hq
  obtain ⟨acc, v', s', tk', g1, g2, g3⟩ := burL hB n2 c2 (xv := xv) (mv := mv) rfl rfl z (nI (10 ^ n)) (2 ^ n) 0 zF 0 xv.2.2.1 mv.2.2.2.2.2.2.2.2.1 mv.2.2.2.2.2.2.2.2.2.2.2.2.1 (Nat.zero_add _) (zF_lt (by omega)) (by omega)
  obtain ⟨g, k1, k2, k3, k4⟩ := gcd_ok (mv := (mv.1, mv.2.1, mv.2.2.1, mv.2.2.2.1, mv.2.2.2.2.1, mv.2.2.2.2.2.1, mv.2.2.2.2.2.2.1, mv.2.2.2.2.2.2.2.1, s', mv.2.2.2.2.2.2.2.2.2.1, mv.2.2.2.2.2.2.2.2.2.2.1, mv.2.2.2.2.2.2.2.2.2.2.2.1, tk', mv.2.2.2.2.2.2.2.2.2.2.2.2.2)) (x3 := z) (x4 := nI acc) (x5 := nI (10 ^ n)) (x := acc) (y := 10 ^ n) h1 h10 (by omega)
  have hpw : fX6_power 10 (nI n) = some (nI (10 ^ n)) := p_pow 10 (by omega)
  rw [show fX7_bursts_L40 zF mv (nI n) (nI c) z 0 1 0 = _ from hq, bind_s, show fX7_bursts_L62 zF mv (nI n) (nI c) z 0 (nI (10 ^ n)) 0 mv.2.2.2.2.2.2.2.2.1 mv.2.2.2.2.2.2.2.2.2.2.2.2.1 = _ from g2, bind_s, show fX6_bursts_L37 zF xv (nI n) (nI c) z 0 0 xv.2.2.1 = _ from g1, bind_s, hpw, bind_s]
  dsimp only
  rw [k3, k4, bind_s, bind_s, znz_n (by omega) k2, zgrd_t, zgrd_t, zgrd_t, zgrd_t]
  by_cases q4 : z = 0
  · rw [if_pos q4, if_pos q4]
    exact ⟨_, _, _, _, rfl, rfl⟩
  · rw [if_neg q4, if_neg q4]
    exact ⟨_, _, _, _, rfl, rfl⟩
