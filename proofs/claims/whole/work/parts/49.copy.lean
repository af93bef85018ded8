/-! copies, films, stains -/
theorem cpL_up {f g : zAL} {i j m : Nat} : vp_updL (va_cpy f g i j m) (j + m) (f (i + m)) = va_cpy f g i j (m + 1) := by
  funext q
  rw [cpy_s q]
  rfl
theorem cpL_dn {f g : zAL} {i j m n : Nat} (h : m < n) : vp_updL (va_cpy f g (i + (n - m)) (j + (n - m)) m) (j + (n - 1 - m)) (f (i + (n - 1 - m))) = va_cpy f g (i + (n - (m + 1))) (j + (n - (m + 1))) (m + 1) := by
  funext q
  unfold vp_updL va_cpy
  by_cases q1 : q = j + (n - 1 - m)
  · rw [if_pos q1, if_pos (by omega)]
    exact congrArg f (by omega)
  · rw [if_neg q1]
    by_cases q2 : j + (n - m) ≤ q ∧ q < j + (n - m) + m
    · rw [if_pos q2, if_pos (by omega)]
      exact congrArg f (by omega)
    · rw [if_neg q2, if_neg (by omega)]
theorem q_cpU {mv : MV} {x1 x2 x3 x4 n : Nat} {f : zAL} (h1 : x1 < 4) (h2 : x3 < 4) (h3 : x2 + n ≤ 24) (h4 : x4 + n ≤ 24) (hd : 24 * x3 + x4 ≤ 24 * x1 + x2 ∨ 24 * x1 + x2 + n ≤ 24 * x3 + x4) : ∀ (m a fuel : Nat), a + m = n → m < fuel → fX7_copy_L110 fuel mv (nI x1) (nI x2) (nI x3) (nI x4) (nI n) 0 (nI a) (va_cpy f f (24 * x1 + x2) (24 * x3 + x4) a) = some (va_cpy f f (24 * x1 + x2) (24 * x3 + x4) n) := by
  intro m
  induction m with
  | zero =>
    intro a fuel ha hf
    obtain ⟨g, rfl⟩ : ∃ g, fuel = g + 1 := ⟨fuel - 1, by omega⟩
    rw [fX7_copy_L110, if_pos (nI_le (by omega) (by omega)), show a = n by omega]
  | succ m ih =>
    intro a fuel ha hf
    obtain ⟨g, rfl⟩ : ∃ g, fuel = g + 1 := ⟨fuel - 1, by omega⟩
    have e : va_cpy f f (24 * x1 + x2) (24 * x3 + x4) a (24 * x1 + x2 + a) = f (24 * x1 + x2 + a) := by
      unfold va_cpy
      rw [if_neg (by omega)]
    rw [fX7_copy_L110, if_neg (nI_ge (by omega) (by omega)), if00, show (24 : Int32) = nI 24 from rfl, pk_mul, pk_mul, nI_add, nI_add, nI_add, nI_add, zix_n (by omega) (by omega), zgrd_t, zix_n (by omega) (by omega), zgrd_t, zgt_n _ (by omega), zptL_n _ (by omega), e, cpL_up, nI_1]
    exact ih (a + 1) g (by omega) (by omega)
theorem q_cpD {mv : MV} {x1 x2 x3 x4 n : Nat} {f : zAL} (h1 : x1 < 4) (h2 : x3 < 4) (h3 : x2 + n ≤ 24) (h4 : x4 + n ≤ 24) (hd : 24 * x1 + x2 ≤ 24 * x3 + x4) : ∀ (m a fuel : Nat), a + m = n → m < fuel → fX7_copy_L110 fuel mv (nI x1) (nI x2) (nI x3) (nI x4) (nI n) 1 (nI a) (va_cpy f f (24 * x1 + x2 + (n - a)) (24 * x3 + x4 + (n - a)) a) = some (va_cpy f f (24 * x1 + x2) (24 * x3 + x4) n) := by
  intro m
  induction m with
  | zero =>
    intro a fuel ha hf
    obtain ⟨g, rfl⟩ : ∃ g, fuel = g + 1 := ⟨fuel - 1, by omega⟩
    rw [fX7_copy_L110, if_pos (nI_le (by omega) (by omega)), show a = n by omega, Nat.sub_self, Nat.add_zero, Nat.add_zero]
  | succ m ih =>
    intro a fuel ha hf
    obtain ⟨g, rfl⟩ : ∃ g, fuel = g + 1 := ⟨fuel - 1, by omega⟩
    have e : va_cpy f f (24 * x1 + x2 + (n - a)) (24 * x3 + x4 + (n - a)) a (24 * x1 + x2 + (n - 1 - a)) = f (24 * x1 + x2 + (n - 1 - a)) := by
      unfold va_cpy
      rw [if_neg (by omega)]
    rw [fX7_copy_L110, if_neg (nI_ge (by omega) (by omega)), if10, show (1 : Int32) = nI 1 from rfl, nsub (show 1 ≤ n by omega), nsub (show a ≤ n - 1 by omega), show (24 : Int32) = nI 24 from rfl, pk_mul, pk_mul, nI_add, nI_add, nI_add, nI_add, zix_n (by omega) (by omega), zgrd_t, zix_n (by omega) (by omega), zgrd_t, zgt_n _ (by omega), zptL_n _ (by omega), e, cpL_dn (by omega), nI_add]
    exact ih (a + 1) g (by omega) (by omega)
theorem o_copy {xv : XV} {mv : MV} (h : RelS xv.2.2.2.2.2.1 mv.1 mv.2.1 mv.2.2.1) (x y z w u : Int32) : ∃ a sh' it', fX6_copy xv x y z w u = some (a, sh') ∧ fX7_copy mv x y z w u = some (a, it') ∧ RelS sh' mv.1 mv.2.1 it' := by
  unfold fX6_copy fX7_copy
  by_cases q : rng x 0 3
  rotate_left
  · rw [sh_f q, ms_f q, bind_s, bind_s, if00, if00]
    exact ⟨_, _, _, rfl, rfl, h⟩
  rw [sh_t q, ms_t q, bind_s, bind_s, if10, if10]
  by_cases q2 : rng z 0 3
  rotate_left
  · rw [sh_f q2, ms_f q2, bind_s, bind_s, if00, if00]
    exact ⟨_, _, _, rfl, rfl, h⟩
  rw [sh_t q2, ms_t q2, bind_s, bind_s, if10, if10]
  obtain ⟨k, -, k2, rfl⟩ := rng_n (a := 0) (b := 3) (by omega) q (by omega)
  obtain ⟨j, -, j2, rfl⟩ := rng_n (a := 0) (b := 3) (by omega) q2 (by omega)
  rw [zix_n (show k < 4 by omega) (by omega), zix_n (show j < 4 by omega) (by omega), zgrd_t, zgrd_t, zgrd_t, zgrd_t, nI_clamp (show k < 2 ^ 31 by omega), nI_clamp (show j < 2 ^ 31 by omega), zgt_n _ (by omega), zgt_n _ (by omega), zgt_n _ (by omega), zgt_n _ (by omega)]
  obtain ⟨sz, z1, z2, z3, z4, z5⟩ := h k (by omega)
  obtain ⟨ty, t1, t2, t3, t4, t5⟩ := h j (by omega)
  rcases z5 with ⟨y1, y2⟩ | ⟨y1, l', y2, y3, y4⟩
  · rw [if_pos y1, y2, if_pos (by decide)]
    exact ⟨_, _, _, rfl, rfl, h⟩
  rw [if_neg (by rw [y1]; decide), y4, if_neg (nI_pos (by omega))]
  rcases t5 with ⟨u1, u2⟩ | ⟨u1, m', u2, u3, u4⟩
  · rw [if_pos u1, u2, if_neg (by decide)]
    exact ⟨_, _, _, rfl, rfl, h⟩
  rw [if_neg (by rw [u1]; decide), u4, if_pos (show (0 : Int32) ≤ nI m' from nI_le (a := 0) (by omega) (by omega)), y3, u3]
  by_cases ql : nI l' = nI m'
  rotate_left
  · rw [if_neg ql, if_neg ql]
    exact ⟨_, _, _, rfl, rfl, h⟩
  rw [if_pos ql, if_pos ql, z3, t3]
  rcases span_cases z2 z1 y u with ⟨a, b, rfl, rfl, e3, e4, e5⟩ | ⟨e4, e5⟩
  rotate_left
  · rw [e4, e5, bind_s, bind_s, if00, if00]
    exact ⟨_, _, _, rfl, rfl, h⟩
  rw [e4, e5, bind_s, bind_s, if10, if10]
  rcases span_cases t2 t1 w (nI b) with ⟨c, b', rfl, hb, g3, g4, g5⟩ | ⟨g4, g5⟩
  rotate_left
  · rw [g4, g5, bind_s, bind_s, if00, if00]
    exact ⟨_, _, _, rfl, rfl, h⟩
  rw [g4, g5, bind_s, bind_s, if10, if10]
  rw [neq (by omega) (by omega)] at hb
  subst hb
  have hcok : zcok (nI a) (nI c) (nI b) 24 24 = true := by
    unfold zcok
    rw [nI_clamp (show a < 2 ^ 31 by omega), nI_clamp (show b < 2 ^ 31 by omega), nI_clamp (show c < 2 ^ 31 by omega)]
    have n1 : ¬ nI a < 0 := nI_pos (by omega)
    have n2 : ¬ nI c < 0 := nI_pos (by omega)
    have n3 : ¬ nI b < 0 := nI_pos (by omega)
    have n4 : a + b ≤ 24 := by omega
    have n5 : c + b ≤ 24 := by omega
    simp [n1, n2, n3, n4, n5]
  rw [hcok, zgrd_t]
  have hz : zcpy (xv.2.2.2.2.2.1 k).1 (xv.2.2.2.2.2.1 j).1 (nI a) (nI c) (nI b) = va_cpy (xv.2.2.2.2.2.1 k).1 (xv.2.2.2.2.2.1 j).1 a c b := by
    unfold zcpy
    rw [nI_clamp (show a < 2 ^ 31 by omega), nI_clamp (show b < 2 ^ 31 by omega), nI_clamp (show c < 2 ^ 31 by omega)]
  rw [hz]
  have hR : RelS (va_up xv.2.2.2.2.2.1 j (va_cpy (xv.2.2.2.2.2.1 k).1 (xv.2.2.2.2.2.1 j).1 a c b, (xv.2.2.2.2.2.1 j).2)) mv.1 mv.2.1 (va_cpy mv.2.2.1 mv.2.2.1 (24 * k + a) (24 * j + c) b) := by
    refine h.up (fun o ho hn => ⟨rfl, rfl, fun i hi => cpy_out (by omega)⟩) (fun _ => ?_)
    refine ⟨ty, t1, t2, t3, fun i hi => ?_, Or.inr ⟨u1, m', u2, u3, u4⟩⟩
    dsimp only
    by_cases qi : c ≤ i ∧ i < c + b
    · rw [cpy_in qi.1 qi.2, cpy_in (by omega) (by omega), z4 _ (by omega)]
      exact congrArg mv.2.2.1 (by omega)
    · rw [cpy_out (by omega), cpy_out (by omega)]
      exact t4 i hi
  have hU := fun (hd : 24 * j + c ≤ 24 * k + a ∨ 24 * k + a + b ≤ 24 * j + c) => q_cpU (mv := mv) (f := mv.2.2.1) (show k < 4 by omega) (show j < 4 by omega) (show a + b ≤ 24 by omega) (show c + b ≤ 24 by omega) hd b 0 zF (Nat.zero_add b) (zF_lt (by omega))
  have hD := fun (hd : 24 * k + a ≤ 24 * j + c) => q_cpD (mv := mv) (f := mv.2.2.1) (show k < 4 by omega) (show j < 4 by omega) (show a + b ≤ 24 by omega) (show c + b ≤ 24 by omega) hd b 0 zF (Nat.zero_add b) (zF_lt (by omega))
  rw [cpy_0] at hU hD
  by_cases qk : k = j
  · rw [if_pos (congrArg nI qk)]
    by_cases qc : c ≤ a
    · rw [if_pos (nI_le qc (by omega)), show fX7_copy_L110 zF mv (nI k) (nI a) (nI j) (nI c) (nI b) 0 0 mv.2.2.1 = _ from hU (by omega), bind_s]
      exact ⟨_, _, _, rfl, rfl, hR⟩
    · rw [if_neg (nI_ge (by omega) (by omega)), show fX7_copy_L110 zF mv (nI k) (nI a) (nI j) (nI c) (nI b) 1 0 mv.2.2.1 = _ from hD (by omega), bind_s]
      exact ⟨_, _, _, rfl, rfl, hR⟩
  · rw [if_neg (by rw [neq (by omega) (by omega)]; exact qk), show fX7_copy_L110 zF mv (nI k) (nI a) (nI j) (nI c) (nI b) 0 0 mv.2.2.1 = _ from hU (by omega), bind_s]
    exact ⟨_, _, _, rfl, rfl, hR⟩
theorem filmL {h : HV} {xv : XV} {mv : MV} {r : Nat → Nat} {m n k a : Nat} {l : Int32} {s0 : zAI} (hx : xv.1 = h) (hk : k < 4) (ha : a + n ≤ 24) : ∀ (e x fuel : Nat) (v : CV) (s tk : zAI) (c : Tm) (sh : Nat → SV) (it : zAL), x + e = n → e < fuel → RCt v c → RSt s c → OKt c → RW h.2.1 s r m → c.2.2.2.2 + e < 100000 → RelS sh mv.1 mv.2.1 it → (sh k).2.2.1 = l → ∃ v' sh' it' s' tk', fX6_film_L56 fuel xv (nI n) (nI k) (nI a) (nI x) v sh = some (v', sh') ∧ fX7_film_L54 fuel mv (nI n) (nI k) l (nI a) (nI x) it s tk = some (it', s', tk') ∧ RelS sh' mv.1 mv.2.1 it' := by
  intro e
  induction e with
  | zero =>
    intro x fuel v s tk c sh it he hf hR hS hO hW hy hL hl
    obtain ⟨g, rfl⟩ : ∃ g, fuel = g + 1 := ⟨fuel - 1, by omega⟩
    rw [fX6_film_L56, fX7_film_L54, if_pos (nI_le (by omega) (by omega)), if_pos (nI_le (by omega) (by omega))]
    exact ⟨_, _, _, _, _, rfl, rfl, hL⟩
  | succ e ih =>
    intro x fuel v s tk c sh it he hf hR hS hO hW hy hL hl
    obtain ⟨g, rfl⟩ : ∃ g, fuel = g + 1 := ⟨fuel - 1, by omega⟩
    obtain ⟨v', a1, a2, a3⟩ := p_yot hR hO hW
    obtain ⟨tk', s', b1, b2, b3, b4, b5⟩ := q_yot hS hO hW tk
    obtain ⟨z, hz⟩ := cut_some l (nI (lkc r m c)).toInt64
    have hp : fX3_put (sh k) (nI (a + x)) (nI (lkc r m c)).toInt64 = some (vp_updL (sh k).1 (a + x) z, (sh k).2) := by
      unfold fX3_put
      rw [cut_eq hl, hz, bind_s, zix_n (by omega) (by omega), zgrd_t, zptL_n _ (by omega)]
    rw [fX6_film_L56, fX7_film_L54, if_neg (nI_ge (by omega) (by omega)), if_neg (nI_ge (by omega) (by omega)), zix_n (by omega) (by omega), zgrd_t, a1 (xv.1, xv.2.1, v, xv.2.2.2.1, xv.2.2.2.2.1, sh, xv.2.2.2.2.2.2) hx rfl, bind_s, b1, bind_s]
    dsimp only
    rw [hz, bind_s, show (24 : Int32) = nI 24 from rfl, pk_mul, nI_add, nI_add, nI_add, zix_n (by omega) (by omega), zgrd_t, zptL_n _ (by omega), nI_clamp (by omega), hp, bind_s, nI_1, Nat.add_assoc]
    exact ih (x + 1) g v' s' tk' (nx r m c) _ _ (by omega) (by omega) a2 b2 (OKc.next hO (by omega)) b3 (by rw [nx_y]; omega) (hL.put hk (by omega) z) (by rw [va_up_self]; exact hl)
theorem o_film {xv : XV} {mv : MV} (h : RH xv.1 mv.2.2.2.2.2.2.2.1) (hL : RelS xv.2.2.2.2.2.1 mv.1 mv.2.1 mv.2.2.1) (x y z w : Int32) : ∃ a v' sh' it' s' tk', fX6_film xv x y z w = some (a, v', sh') ∧ fX7_film mv x y z w = some (a, it', s', tk') ∧ RelS sh' mv.1 mv.2.1 it' := by
  unfold fX6_film fX7_film
  by_cases q : rng x 1 24
  rotate_left
  · rw [out_f q, in_f q, bind_s, bind_s, if10, if00]
    exact ⟨_, _, _, _, _, _, rfl, rfl, hL⟩
  rw [out_t q, in_t q, bind_s, bind_s, if00, if10]
  by_cases q2 : rng y 0 3
  rotate_left
  · rw [sh_f q2, ms_f q2, bind_s, bind_s, if00, if00]
    exact ⟨_, _, _, _, _, _, rfl, rfl, hL⟩
  rw [sh_t q2, ms_t q2, bind_s, bind_s, if10, if10]
  by_cases q3 : rng z 0 3
  rotate_left
  · rw [ln_f q3, in_f q3, bind_s, bind_s, if00, if00]
    exact ⟨_, _, _, _, _, _, rfl, rfl, hL⟩
  rw [ln_t q3, in_t q3, bind_s, bind_s, if10, if10]
  obtain ⟨k, -, k2, rfl⟩ := rng_n (a := 0) (b := 3) (by omega) q2 (by omega)
  rw [zix_n (by omega) (by omega), zgrd_t, nI_clamp (by omega)]
  rcases rfs_cases hL (k := k) (by omega) z w x with ⟨e, e1, e2, e3, e4⟩ | ⟨e3, e4, e5, a, b, rfl, rfl, e8⟩
  · rw [e3, e4, bind_s, bind_s, if_neg e1, if_neg e2]
    exact ⟨_, _, _, _, _, _, rfl, rfl, hL⟩
  rw [e3, e4, bind_s, bind_s, if_pos (by decide), if_pos rfl]
  obtain ⟨c, r, m, hB⟩ := h.bf
  have hy := hB.2.1
  obtain ⟨v1, f1, f2, f3, -⟩ := p_start hB xv rfl mv.2.2.2.2.2.2.2.2.1
  obtain ⟨v', sh', it', s', tk', g1, g2, g3⟩ := filmL (h := xv.1) (xv := (xv.1, xv.2.1, v1, xv.2.2.2)) (mv := (mv.1, mv.2.1, mv.2.2.1, mv.2.2.2.1, mv.2.2.2.2.1, mv.2.2.2.2.2.1, mv.2.2.2.2.2.2.1, mv.2.2.2.2.2.2.2.1, (tri mv.2.2.2.2.2.2.2.1 mv.2.2.2.2.2.2.2.2.1), mv.2.2.2.2.2.2.2.2.2)) (r := r) (m := m) (n := b) (k := k) (a := a) (l := z) (s0 := mv.2.2.2.2.2.2.2.1) rfl (by omega) e8 b 0 zF v1 (tri mv.2.2.2.2.2.2.2.1 mv.2.2.2.2.2.2.2.2.1) mv.2.2.2.2.2.2.2.2.2.2.2.2.1 c xv.2.2.2.2.2.1 mv.2.2.1 (Nat.zero_add b) (zF_lt (by omega)) f2.1 f2.2.1 f2.2.2.1 f3 (by omega) hL e5
  rw [f1, q_begin, bind_s, bind_s]
  rw [show fX6_film_L56 zF (xv.1, xv.2.1, v1, xv.2.2.2) (nI b) (nI k) (nI a) 0 v1 xv.2.2.2.2.2.1 = _ from g1, show fX7_film_L54 zF (mv.1, mv.2.1, mv.2.2.1, mv.2.2.2.1, mv.2.2.2.2.1, mv.2.2.2.2.2.1, mv.2.2.2.2.2.2.1, mv.2.2.2.2.2.2.2.1, (tri mv.2.2.2.2.2.2.2.1 mv.2.2.2.2.2.2.2.2.1), mv.2.2.2.2.2.2.2.2.2) (nI b) (nI k) z (nI a) 0 mv.2.2.1 (tri mv.2.2.2.2.2.2.2.1 mv.2.2.2.2.2.2.2.2.1) mv.2.2.2.2.2.2.2.2.2.2.2.2.1 = _ from g2, bind_s, bind_s]
  exact ⟨_, _, _, _, _, _, rfl, rfl, g3⟩
