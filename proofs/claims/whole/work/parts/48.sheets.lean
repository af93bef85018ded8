/-! sheets -/
def RLn (v : SV) (la sz : Int32) (g : Nat → Int64) : Prop := ∃ n, n ≤ 24 ∧ v.2.2.2 = nI n ∧ sz = nI n ∧ (∀ i, i < 24 → v.1 i = g i) ∧ ((v.2.1 = 0 ∧ la = -1) ∨ (v.2.1 = 1 ∧ ∃ l, l ≤ 3 ∧ v.2.2.1 = nI l ∧ la = nI l))
def RelS (sh : Nat → SV) (la sz : zAI) (it : zAL) : Prop := ∀ k, k < 4 → RLn (sh k) (la k) (sz k) (fun i => it (24 * k + i))
theorem updL_s {f : zAL} {k : Nat} {x : Int64} : vp_updL f k x k = x := by unfold vp_updL; rw [if_pos rfl]
theorem updL_n {f : zAL} {k j : Nat} {x : Int64} (h : j ≠ k) : vp_updL f k x j = f j := by unfold vp_updL; rw [if_neg h]
theorem lg0 (x y : Int64) : (lg_cmp x y = 0) = (x = y) := by
  apply propext
  unfold lg_cmp
  by_cases h : x > y
  · rw [if_pos h]
    refine ⟨fun k => absurd k (by decide), fun k => ?_⟩
    subst k
    exact absurd (Int64.lt_iff_toInt_lt.mp h) (by omega)
  · rw [if_neg h]
    by_cases h2 : x = y
    · rw [if_pos h2]
      exact ⟨fun _ => h2, fun _ => rfl⟩
    · rw [if_neg h2]
      exact ⟨fun k => absurd k (by decide), fun k => absurd k h2⟩
theorem sh_t {x : Int32} (h : rng x 0 3) : fX6_isSheet x = some 1 := by unfold fX6_isSheet; rw [out_t h, bind_s, if00]
theorem sh_f {x : Int32} (h : ¬ rng x 0 3) : fX6_isSheet x = some 0 := by unfold fX6_isSheet; rw [out_f h, bind_s, if10]
theorem ln_t {x : Int32} (h : rng x 0 3) : fX6_isLane x = some 1 := by unfold fX6_isLane; rw [out_t h, bind_s, if00]
theorem ln_f {x : Int32} (h : ¬ rng x 0 3) : fX6_isLane x = some 0 := by unfold fX6_isLane; rw [out_f h, bind_s, if10]
theorem ms_t {x : Int32} (h : rng x 0 3) : fX7_isSheet x = some 1 := by unfold fX7_isSheet; rw [in_t h, bind_s]; rfl
theorem ms_f {x : Int32} (h : ¬ rng x 0 3) : fX7_isSheet x = some 0 := by unfold fX7_isSheet; rw [in_f h, bind_s]; rfl
theorem span_cases {v : SV} {sz : Nat} (h1 : v.2.2.2 = nI sz) (h2 : sz ≤ 24) (i n : Int32) : (∃ a b, i = nI a ∧ n = nI b ∧ a + b ≤ sz ∧ fX3_spans v i n = some 1 ∧ fX7_isPart i n (nI sz) = some 1) ∨ (fX3_spans v i n = some 0 ∧ fX7_isPart i n (nI sz) = some 0) := by
  unfold fX3_spans fX7_isPart
  rw [h1]
  by_cases q1 : i < 0
  · rw [if_pos q1, if_pos q1]
    refine Or.inr ⟨rfl, ?_⟩
    by_cases q2 : n < 0
    · rw [if_pos q2]
    · rw [if_neg q2]
  rw [if_neg q1, if_neg q1]
  by_cases q2 : n < 0
  · rw [if_pos q2, if_pos q2]
    exact Or.inr ⟨rfl, rfl⟩
  rw [if_neg q2, if_neg q2]
  obtain ⟨a, ha, rfl⟩ := nI_of q1
  obtain ⟨b, hb, rfl⟩ := nI_of q2
  have e : (nI sz - nI b).toInt = (sz : Int) - b := by
    rw [Int32.toInt_sub, nI_toInt (by omega), nI_toInt (by omega)]
    exact Int.bmod_eq_of_le (by omega) (by omega)
  have c1 : (nI sz - nI b < nI a) = (sz < a + b) := by
    apply propext
    rw [Int32.lt_iff_toInt_lt, e, nI_toInt (by omega)]
    omega
  by_cases q3 : sz < a + b
  · rw [if_pos (by rw [c1]; exact q3)]
    refine Or.inr ⟨rfl, ?_⟩
    by_cases q4 : nI sz < nI b
    · rw [if_pos q4]
    · rw [if_neg q4]
  · rw [if_neg (by rw [c1]; exact q3), if_neg (nI_nlt (by omega) (by omega))]
    exact Or.inl ⟨a, b, rfl, rfl, by omega, rfl, rfl⟩
theorem neg_ne {j : Nat} (h : j ≤ 1000) : ¬ nI j = -1 := by
  intro q
  have := congrArg Int32.toInt q
  rw [nI_toInt (by omega)] at this
  have h2 : (-1 : Int32).toInt = -1 := by decide
  rw [h2] at this
  omega
theorem rfs_cases {mv : MV} {sh : Nat → SV} {k : Nat} (h : RelS sh mv.1 mv.2.1 mv.2.2.1) (hk : k < 4) (l i n : Int32) : (∃ w, ¬ (0 : Int32) ≤ w ∧ ¬ w = 0 ∧ fX3_refuse (sh k) l i n = some w ∧ fX7_wrong mv (nI k) l i n = some w) ∨ (fX3_refuse (sh k) l i n = some 0 ∧ fX7_wrong mv (nI k) l i n = some 0 ∧ (sh k).2.2.1 = l ∧ ∃ a b, i = nI a ∧ n = nI b ∧ a + b ≤ 24) := by
  obtain ⟨sz, z1, z2, z3, z4, z5⟩ := h k hk
  unfold fX3_refuse fX7_wrong
  rw [zix_n hk (by omega), zgrd_t, zgt_n _ (by omega), zgt_n _ (by omega)]
  rcases z5 with ⟨y1, y2⟩ | ⟨y1, l', y2, y3, y4⟩
  · rw [if_pos y1, y2, if_neg (by decide)]
    exact Or.inl ⟨_, by decide, by decide, rfl, rfl⟩
  · rw [if_neg (by rw [y1]; decide), y3, y4, if_pos (show (0 : Int32) ≤ nI l' from nI_le (a := 0) (by omega) (by omega))]
    by_cases q : l = nI l'
    · rw [if_pos q, if_pos q.symm, z3]
      rcases span_cases z2 z1 i n with ⟨a, b, e1, e2, e3, e4, e5⟩ | ⟨e4, e5⟩
      · rw [e4, e5, bind_s, if10]
        exact Or.inr ⟨rfl, rfl, q.symm, a, b, e1, e2, by omega⟩
      · rw [e4, e5, bind_s, if00]
        exact Or.inl ⟨_, by decide, by decide, rfl, rfl⟩
    · rw [if_neg q, if_neg (fun hh => q hh.symm)]
      exact Or.inl ⟨_, by decide, by decide, rfl, rfl⟩
theorem RelS.up {sh : Nat → SV} {la sz : zAI} {it it' : zAL} {k : Nat} {v : SV} {la' sz' : zAI} (h : RelS sh la sz it) (h1 : ∀ j, j < 4 → j ≠ k → la' j = la j ∧ sz' j = sz j ∧ ∀ i, i < 24 → it' (24 * j + i) = it (24 * j + i)) (h2 : k < 4 → RLn v (la' k) (sz' k) (fun i => it' (24 * k + i))) : RelS (va_up sh k v) la' sz' it' := by
  intro j hj
  by_cases q : j = k
  · subst q
    rw [va_up_self]
    exact h2 hj
  · rw [va_up_ne _ _ q]
    obtain ⟨a, b, c⟩ := h1 j hj q
    obtain ⟨sz, z1, z2, z3, z4, z5⟩ := h j hj
    exact ⟨sz, z1, z2, by rw [b]; exact z3, fun i hi => by rw [z4 i hi]; exact (c i hi).symm, by rw [a]; exact z5⟩
/-- one item put -/
theorem RelS.put {sh : Nat → SV} {la sz : zAI} {it : zAL} {k a : Nat} (h : RelS sh la sz it) (hk : k < 4) (ha : a < 24) (x : Int64) : RelS (va_up sh k (vp_updL (sh k).1 a x, (sh k).2)) la sz (vp_updL it (24 * k + a) x) := by
  refine h.up (fun j hj hn => ⟨rfl, rfl, fun i hi => updL_n (by omega)⟩) (fun _ => ?_)
  obtain ⟨n, z1, z2, z3, z4, z5⟩ := h k hk
  refine ⟨n, z1, z2, z3, fun i hi => ?_, z5⟩
  by_cases q : i = a
  · subst q
    dsimp only
    rw [updL_s, updL_s]
  · dsimp only
    rw [updL_n q, updL_n (by omega)]
    exact z4 i hi
theorem cut_eq {v : SV} {l : Int32} (h : v.2.2.1 = l) (x : Int64) : fX3_cutToLane v x = fX7_cutTo l x := by
  subst h
  rfl
theorem cut_some (l : Int32) (x : Int64) : ∃ y, fX7_cutTo l x = some y := by
  unfold fX7_cutTo
  by_cases q0 : l = 0
  · rw [if_pos q0]; exact ⟨_, rfl⟩
  rw [if_neg q0]
  by_cases q1 : l = 1
  · rw [if_pos q1]; exact ⟨_, rfl⟩
  rw [if_neg q1]
  by_cases q2 : l = 2
  · rw [if_pos q2]; exact ⟨_, rfl⟩
  rw [if_neg q2]; exact ⟨_, rfl⟩
theorem p_shL {e : Int32 × Int32 × Int32} : ∀ (k x fuel : Nat) (f : zAL), x + k = 24 → k < fuel → (∀ i, i < x → f i = 0) → ∃ f', fX3_begin_L17 fuel (f, e) (nI x) = some (f', e) ∧ ∀ i, i < 24 → f' i = 0 := by
  intro k
  induction k with
  | zero =>
    intro x fuel f hx hf ha
    obtain ⟨g, rfl⟩ : ∃ g, fuel = g + 1 := ⟨fuel - 1, by omega⟩
    rw [fX3_begin_L17, if_pos (show (24 : Int32) ≤ nI x from nI_le (a := 24) (by omega) (by omega))]
    exact ⟨f, rfl, fun i hi => ha i (by omega)⟩
  | succ k ih =>
    intro x fuel f hx hf ha
    obtain ⟨g, rfl⟩ : ∃ g, fuel = g + 1 := ⟨fuel - 1, by omega⟩
    rw [fX3_begin_L17, if_neg (show ¬ (24 : Int32) ≤ nI x from nI_ge (b := 24) (by omega) (by omega)), zix_n (by omega) (by omega), zgrd_t, zptL_n _ (by omega), nI_1]
    refine ih (x + 1) g _ (by omega) (by omega) (fun i hi => ?_)
    by_cases q : i = x
    · rw [q, updL_s]
    · rw [updL_n q]
      exact ha i (by omega)
theorem q_shL {mv : MV} {j : Nat} {x3 : Int32} (hj : j < 4) (it0 : zAL) : ∀ (k x fuel : Nat) (f : zAL), x + k = 24 → k < fuel → (∀ i, i < x → f (24 * j + i) = 0) → (∀ q, (q < 24 * j ∨ 24 * j + 24 ≤ q) → f q = it0 q) → ∃ f', fX7_sheet_L48 fuel mv (nI j) x3 (nI x) f = some f' ∧ (∀ i, i < 24 → f' (24 * j + i) = 0) ∧ ∀ q, (q < 24 * j ∨ 24 * j + 24 ≤ q) → f' q = it0 q := by
  intro k
  induction k with
  | zero =>
    intro x fuel f hx hf ha ho
    obtain ⟨g, rfl⟩ : ∃ g, fuel = g + 1 := ⟨fuel - 1, by omega⟩
    rw [fX7_sheet_L48, if_pos (show (24 : Int32) ≤ nI x from nI_le (a := 24) (by omega) (by omega))]
    exact ⟨f, rfl, fun i hi => ha i (by omega), ho⟩
  | succ k ih =>
    intro x fuel f hx hf ha ho
    obtain ⟨g, rfl⟩ : ∃ g, fuel = g + 1 := ⟨fuel - 1, by omega⟩
    rw [fX7_sheet_L48, if_neg (show ¬ (24 : Int32) ≤ nI x from nI_ge (b := 24) (by omega) (by omega)), show (24 : Int32) = nI 24 from rfl, pk_mul, nI_add, zix_n (by omega) (by omega), zgrd_t, zptL_n _ (by omega), nI_1]
    refine ih (x + 1) g _ (by omega) (by omega) (fun i hi => ?_) (fun q hq => by rw [updL_n (by omega)]; exact ho q hq)
    by_cases q : i = x
    · rw [q, updL_s]
    · rw [updL_n (by omega)]
      exact ha i (by omega)
theorem o_sheet {xv : XV} {mv : MV} (h : RelS xv.2.2.2.2.2.1 mv.1 mv.2.1 mv.2.2.1) (x y z : Int32) : ∃ a sh' la' sz' it', fX6_sheet xv x y z = some (a, sh') ∧ fX7_sheet mv x y z = some (a, la', sz', it') ∧ RelS sh' la' sz' it' := by
  unfold fX6_sheet fX7_sheet
  by_cases q : rng x 0 3
  rotate_left
  · rw [sh_f q, ms_f q, bind_s, bind_s, if00, if00]
    exact ⟨_, _, _, _, _, rfl, rfl, h⟩
  rw [sh_t q, ms_t q, bind_s, bind_s, if10, if10]
  by_cases q2 : rng y 0 3
  rotate_left
  · rw [ln_f q2, in_f q2, bind_s, bind_s, if00, if00]
    exact ⟨_, _, _, _, _, rfl, rfl, h⟩
  rw [ln_t q2, in_t q2, bind_s, bind_s, if10, if10]
  by_cases q3 : z ≤ 24
  rotate_left
  · rw [if_neg q3, if_neg q3]
    exact ⟨_, _, _, _, _, rfl, rfl, h⟩
  rw [if_pos q3, if_pos q3]
  by_cases q4 : 0 ≤ z
  rotate_left
  · rw [if_neg q4, if_neg q4]
    exact ⟨_, _, _, _, _, rfl, rfl, h⟩
  rw [if_pos q4, if_pos q4]
  obtain ⟨k, -, k2, rfl⟩ := rng_n (a := 0) (b := 3) (by omega) q (by omega)
  obtain ⟨l, -, l2, rfl⟩ := rng_n (a := 0) (b := 3) (by omega) q2 (by omega)
  obtain ⟨n, -, n2, rfl⟩ := rng_n (a := 0) (b := 24) (by omega) ⟨q4, q3⟩ (by omega)
  rw [zix_n (by omega) (by omega), zgrd_t, zgrd_t, nI_clamp (by omega), zpt_n _ (by omega), zpt_n _ (by omega)]
  obtain ⟨f, f1, f2⟩ := p_shL (e := (1, nI l, nI n)) 24 0 zF (xv.2.2.2.2.2.1 k).1 rfl (zF_lt (by omega)) (fun i hi => by omega)
  obtain ⟨g, g1, g2, g3⟩ := q_shL (mv := ((upd mv.1 k (nI l)), (upd mv.2.1 k (nI n)), mv.2.2)) (j := k) (x3 := nI n) (by omega) mv.2.2.1 24 0 zF mv.2.2.1 rfl (zF_lt (by omega)) (fun i hi => by omega) (fun _ _ => rfl)
  have hb : fX3_begin (xv.2.2.2.2.2.1 k) (nI l) (nI n) = some (f, 1, nI l, nI n) := by
    unfold fX3_begin
    rw [show fX3_begin_L17 zF ((xv.2.2.2.2.2.1 k).1, 1, nI l, nI n) 0 = _ from f1, bind_s]
  rw [hb, bind_s, show fX7_sheet_L48 zF ((upd mv.1 k (nI l)), (upd mv.2.1 k (nI n)), mv.2.2) (nI k) (nI n) 0 mv.2.2.1 = _ from g1, bind_s]
  refine ⟨_, _, _, _, _, rfl, rfl, h.up (fun j hj hn => ⟨upd_n hn, upd_n hn, fun i hi => g3 _ (by omega)⟩) (fun _ => ?_)⟩
  exact ⟨n, n2, rfl, upd_s, fun i hi => (f2 i hi).trans (g2 i hi).symm, Or.inr ⟨rfl, l, by omega, rfl, upd_s⟩⟩
theorem o_drop {xv : XV} {mv : MV} (h : RelS xv.2.2.2.2.2.1 mv.1 mv.2.1 mv.2.2.1) (x : Int32) : ∃ a sh' la', fX6_drop xv x = some (a, sh') ∧ fX7_drop mv x = some (a, la') ∧ RelS sh' la' mv.2.1 mv.2.2.1 := by
  unfold fX6_drop fX7_drop
  by_cases q : rng x 0 3
  rotate_left
  · rw [sh_f q, ms_f q, bind_s, bind_s, if00, if00]
    exact ⟨_, _, _, rfl, rfl, h⟩
  rw [sh_t q, ms_t q, bind_s, bind_s, if10, if10]
  obtain ⟨k, -, k2, rfl⟩ := rng_n (a := 0) (b := 3) (by omega) q (by omega)
  obtain ⟨sz, z1, z2, z3, z4, z5⟩ := h k (by omega)
  rw [zix_n (by omega) (by omega), zgrd_t, zgrd_t, nI_clamp (by omega), zgt_n _ (by omega), zgt_n _ (by omega), zpt_n _ (by omega)]
  rcases z5 with ⟨y1, y2⟩ | ⟨y1, l', y2, y3, y4⟩
  · rw [if_pos y1, y2, if_neg (by decide)]
    exact ⟨_, _, _, rfl, rfl, h⟩
  · rw [if_neg (by rw [y1]; decide), y4, if_pos (show (0 : Int32) ≤ nI l' from nI_le (a := 0) (by omega) (by omega)), z2, z3]
    refine ⟨_, _, _, rfl, rfl, h.up (fun j hj hn => ⟨upd_n hn, rfl, fun i hi => rfl⟩) (fun _ => ?_)⟩
    exact ⟨sz, z1, z2, z3, z4, Or.inl ⟨rfl, upd_s⟩⟩
theorem o_item {xv : XV} {mv : MV} (h : RelS xv.2.2.2.2.2.1 mv.1 mv.2.1 mv.2.2.1) (x y z : Int32) (w : Int64) : ∃ a sh' it', fX6_item xv x y z w = some (a, sh') ∧ fX7_item mv x y z w = some (a, it') ∧ RelS sh' mv.1 mv.2.1 it' := by
  unfold fX6_item fX7_item
  by_cases q : rng x 0 3
  rotate_left
  · rw [sh_f q, ms_f q, bind_s, bind_s, if00, if00]
    exact ⟨_, _, _, rfl, rfl, h⟩
  rw [sh_t q, ms_t q, bind_s, bind_s, if10, if10]
  by_cases q2 : rng y 0 3
  rotate_left
  · rw [ln_f q2, in_f q2, bind_s, bind_s, if00, if00]
    exact ⟨_, _, _, rfl, rfl, h⟩
  rw [ln_t q2, in_t q2, bind_s, bind_s, if10, if10]
  obtain ⟨k, -, k2, rfl⟩ := rng_n (a := 0) (b := 3) (by omega) q (by omega)
  rw [zix_n (by omega) (by omega), zgrd_t, nI_clamp (by omega)]
  rcases rfs_cases h (k := k) (by omega) y z 1 with ⟨e, e1, e2, e3, e4⟩ | ⟨e3, e4, e5, a, b, rfl, e7, e8⟩
  · rw [e3, e4, bind_s, bind_s, if_neg e1, if_neg e2]
    exact ⟨_, _, _, rfl, rfl, h⟩
  rw [e3, e4, bind_s, bind_s, if_pos (by decide), if_pos rfl]
  have hb : b = 1 := by
    by_cases qb : b = 1
    · exact qb
    · rw [show (1 : Int32) = nI 1 from rfl, neq (by omega) (by omega)] at e7
      exact e7.symm
  subst hb
  obtain ⟨c, hc⟩ := cut_some y w
  have hp : fX3_put (xv.2.2.2.2.2.1 k) (nI a) w = some (vp_updL (xv.2.2.2.2.2.1 k).1 a c, (xv.2.2.2.2.2.1 k).2) := by
    unfold fX3_put
    rw [cut_eq e5, hc, bind_s, zix_n (by omega) (by omega), zgrd_t, zptL_n _ (by omega)]
  have hq : (if y = 0 then (zlet (w.toInt32 : Int32) (fun d16 => zlet (d16.toInt8.toInt32 : Int32) (fun d17 => zgrd (zix ((24 * nI k) + nI a) 96) (some ((1 : Int32), (zptL mv.2.2.1 ((24 * nI k) + nI a) d17.toInt64)))))) else (if y = 1 then (zlet (w.toInt32 : Int32) (fun d13 => zlet (d13.toInt16.toInt32 : Int32) (fun d14 => zgrd (zix ((24 * nI k) + nI a) 96) (some (1, (zptL mv.2.2.1 ((24 * nI k) + nI a) d14.toInt64)))))) else (if y = 2 then (zlet (w.toInt32 : Int32) (fun d11 => zgrd (zix ((24 * nI k) + nI a) 96) (some (1, (zptL mv.2.2.1 ((24 * nI k) + nI a) d11.toInt64))))) else (zgrd (zix ((24 * nI k) + nI a) 96) (some (1, (zptL mv.2.2.1 ((24 * nI k) + nI a) w))))))) = some (1, vp_updL mv.2.2.1 (24 * k + a) c) := by
    unfold fX7_cutTo at hc
    rw [show (24 : Int32) = nI 24 from rfl, pk_mul, nI_add, zix_n (by omega) (by omega), zgrd_t]
    simp only [zlet_e, zgrd_t] at hc ⊢
    simp only [zptL_n _ (show 24 * k + a < 2147483648 by omega)]
    by_cases q0 : y = 0
    · rw [if_pos q0] at hc ⊢
      cases hc; rfl
    rw [if_neg q0] at hc ⊢
    by_cases q1 : y = 1
    · rw [if_pos q1] at hc ⊢
      cases hc; rfl
    rw [if_neg q1] at hc ⊢
    by_cases q2 : y = 2
    · rw [if_pos q2] at hc ⊢
      cases hc; rfl
    rw [if_neg q2] at hc ⊢
    cases hc; rfl
  rw [hp, bind_s, hq]
  exact ⟨_, _, _, rfl, rfl, h.put (by omega) (by omega) c⟩
