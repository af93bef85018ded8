/-! straw parted among coats -/
def unp (f : Nat → Nat) (i x : Nat) : Nat → Nat := fun j => if j = i then x else f j
theorem unp_s {f : Nat → Nat} {i x : Nat} : unp f i x i = x := by unfold unp; rw [if_pos rfl]
theorem unp_n {f : Nat → Nat} {i j x : Nat} (h : j ≠ i) : unp f i x j = f j := by unfold unp; rw [if_neg h]
def rep (n : Nat) (a : zAI) (p : Nat → Nat) : Prop := ∀ j, j < n → a j = nI (p j)
theorem rep.up {n : Nat} {a : zAI} {p : Nat → Nat} (h : rep n a p) (i x : Nat) : rep n (upd a i (nI x)) (unp p i x) := by
  intro j hj
  by_cases q : j = i
  · subst q
    rw [upd_s, unp_s]
  · rw [upd_n q, unp_n q]
    exact h j hj
def ch : Nat → Nat → Nat
  | 0 => fun _ => 1
  | i + 1 => fun r => Nat.rec 0 (fun q acc => acc + ch i (q + 1)) r
theorem ch_0 (i : Nat) : ch (i + 1) 0 = 0 := rfl
theorem ch_s (i r : Nat) : ch (i + 1) (r + 1) = ch (i + 1) r + ch i (r + 1) := rfl
/-- what lies on the last i of N coats -/
def rsp (p : Nat → Nat) (N : Nat) : Nat → Nat
  | 0 => 0
  | i + 1 => rsp p N i + p (N - 1 - i)
/-- how many ways come after this one -/
def mup (p : Nat → Nat) (N : Nat) : Nat → Nat
  | 0 => 0
  | i + 1 => mup p N i + ch (i + 1) (rsp p N (i + 1))
def lastp (p : Nat → Nat) : Nat → Nat
  | 0 => 0
  | i + 1 => if p (i + 1) = 0 then lastp p i else i + 1
theorem lastp_le (p : Nat → Nat) : ∀ i, lastp p i ≤ i
  | 0 => Nat.le_refl 0
  | i + 1 => by
    have := lastp_le p i
    rw [lastp]
    split <;> omega
theorem lastp_0 (p : Nat → Nat) : ∀ i j, lastp p i < j → j ≤ i → p j = 0
  | 0, j, h1, h2 => by rw [lastp] at h1; omega
  | i + 1, j, h1, h2 => by
    rw [lastp] at h1
    by_cases q : p (i + 1) = 0
    · rw [if_pos q] at h1
      by_cases q2 : j = i + 1
      · rw [q2]; exact q
      · exact lastp_0 p i j h1 (by omega)
    · rw [if_neg q] at h1
      omega
theorem lastp_p (p : Nat → Nat) : ∀ i, lastp p i ≠ 0 → p (lastp p i) ≠ 0
  | 0, h => absurd rfl h
  | i + 1, h => by
    by_cases q : p (i + 1) = 0
    · rw [lastp, if_pos q] at h ⊢
      exact lastp_p p i h
    · rw [lastp, if_neg q]
      exact q
def nextp (p : Nat → Nat) (N k : Nat) : Nat → Nat := unp (unp (unp p k 0) (k - 1) (p (k - 1) + 1)) (N - 1) (p k - 1)
theorem rsp_z {p : Nat → Nat} {N : Nat} : ∀ i, (∀ q, q < i → p (N - 1 - q) = 0) → rsp p N i = 0
  | 0, _ => rfl
  | i + 1, h => by
    rw [rsp, rsp_z i (fun q hq => h q (by omega)), h i (by omega)]
theorem mup_z {p : Nat → Nat} {N : Nat} : ∀ i, (∀ q, q < i → p (N - 1 - q) = 0) → mup p N i = 0
  | 0, _ => rfl
  | i + 1, h => by
    rw [mup, mup_z i (fun q hq => h q (by omega)), rsp_z (i + 1) h, ch_0]
theorem mup_c {p : Nat → Nat} {N r : Nat} : ∀ i, (∀ q, 1 ≤ q → q ≤ i → rsp p N q = r) → mup p N i + 1 = ch i (r + 1)
  | 0, _ => rfl
  | i + 1, h => by
    have := mup_c i (fun q a b => h q a (by omega))
    rw [mup, h (i + 1) (by omega) (by omega), ch_s]
    omega
theorem nextp_mu {p : Nat → Nat} {N k : Nat} (hk : 0 < k) (hN : k ≤ N - 1) (hp : p k ≠ 0) (hz : ∀ j, k < j → j ≤ N - 1 → p j = 0) : mup (nextp p N k) N (N - 1) + 1 = mup p N (N - 1) := by
  have z1 : ∀ q, q < N - 1 - k → p (N - 1 - q) = 0 := fun q hq => hz _ (by omega) (by omega)
  have r1 := rsp_z (p := p) (N := N) (N - 1 - k) z1
  have r2 : rsp p N (N - 1 - k + 1) = p k := by
    rw [rsp, r1, Nat.zero_add, show N - 1 - (N - 1 - k) = k by omega]
  have m1 : mup p N (N - 1 - k + 1) = ch (N - 1 - k + 1) (p k) := by
    rw [mup, mup_z _ z1, r2, Nat.zero_add]
  have v1 : nextp p N k (N - 1) = p k - 1 := unp_s
  have v2 : ∀ j, k ≤ j → j < N - 1 → nextp p N k j = 0 := by
    intro j h1 h2
    unfold nextp
    rw [unp_n (by omega), unp_n (by omega)]
    by_cases q : j = k
    · rw [q, unp_s]
    · rw [unp_n q]
      exact hz j (by omega) (by omega)
  have v3 : nextp p N k (k - 1) = p (k - 1) + 1 := by
    unfold nextp
    rw [unp_n (by omega), unp_s]
  have v4 : ∀ j, j < k - 1 → nextp p N k j = p j := by
    intro j h1
    unfold nextp
    rw [unp_n (by omega), unp_n (by omega), unp_n (by omega)]
  have r3 : ∀ i, 1 ≤ i → i ≤ N - 1 - k + 1 → rsp (nextp p N k) N i = p k - 1 := by
    intro i h1
    induction i with
    | zero => omega
    | succ i ih =>
      intro h2
      rw [rsp]
      by_cases q : i = 0
      · subst q
        rw [rsp, Nat.zero_add, Nat.sub_zero, v1]
      · rw [ih (by omega) (by omega), v2 _ (by omega) (by omega), Nat.add_zero]
  have m2 := mup_c (p := nextp p N k) (N := N) (r := p k - 1) (N - 1 - k + 1) r3
  rw [show p k - 1 + 1 = p k by omega] at m2
  have key : ∀ e, N - 1 - k + 1 + e ≤ N - 1 → mup (nextp p N k) N (N - 1 - k + 1 + e) + 1 = mup p N (N - 1 - k + 1 + e) ∧ (rsp (nextp p N k) N (N - 1 - k + 1 + e) + (if e = 0 then 1 else 0) = rsp p N (N - 1 - k + 1 + e)) := by
    intro e
    induction e with
    | zero =>
      intro h
      refine ⟨by rw [Nat.add_zero, m1]; exact m2, ?_⟩
      rw [Nat.add_zero, r2, r3 _ (by omega) (by omega), if_pos rfl]
      omega
    | succ e ih =>
      intro h
      obtain ⟨i1, i2⟩ := ih (by omega)
      have e1 : rsp (nextp p N k) N (N - 1 - k + 1 + (e + 1)) = rsp p N (N - 1 - k + 1 + (e + 1)) := by
        rw [← Nat.add_assoc, rsp, rsp]
        by_cases q : e = 0
        · subst q
          rw [if_pos rfl] at i2
          rw [show N - 1 - (N - 1 - k + 1 + 0) = k - 1 by omega, v3]
          omega
        · rw [if_neg q] at i2
          rw [v4 _ (by omega)]
          omega
      refine ⟨?_, by rw [if_neg (by omega)]; omega⟩
      rw [← Nat.add_assoc] at e1 ⊢
      rw [mup, mup, e1]
      omega
  have := (key (k - 1) (by omega)).1
  rw [show N - 1 - k + 1 + (k - 1) = N - 1 by omega] at this
  exact this
theorem start_mu {N s : Nat} (h1 : 1 ≤ N) (h2 : N ≤ 10) (hs : s ≤ 6) : mup (unp (fun _ => 0) (N - 1) s) N (N - 1) + 1 ≤ 5005 := by
  have e : ∀ q, 1 ≤ q → q ≤ N - 1 → rsp (unp (fun _ => 0) (N - 1) s) N q = s := by
    intro q a
    induction q with
    | zero => omega
    | succ q ih =>
      intro b
      rw [rsp]
      by_cases c : q = 0
      · subst c
        rw [rsp, Nat.zero_add, Nat.sub_zero, unp_s]
      · rw [ih (by omega) (by omega), unp_n (by omega), Nat.add_zero]
  rw [mup_c (N - 1) e]
  have k : ∀ a, a < 10 → ∀ b, b < 7 → ch a (b + 1) ≤ 5005 := by decide +kernel
  exact k (N - 1) (by omega) s (by omega)
theorem p_advL {v : PV} {p : Nat → Nat} (hr : rep 10 v.1 p) (hb : ∀ j, j < 10 → p j ≤ 6000) : ∀ (k fuel : Nat), k < 10 → k < fuel → fX2_advance_L7 fuel v (nI k) = some (nI (lastp p k)) := by
  intro k
  induction k with
  | zero =>
    intro fuel hk hf
    obtain ⟨f, rfl⟩ : ∃ f, fuel = f + 1 := ⟨fuel - 1, by omega⟩
    rw [fX2_advance_L7, if_pos (show nI 0 ≤ 0 by decide)]
    rfl
  | succ k ih =>
    intro fuel hk hf
    obtain ⟨f, rfl⟩ : ∃ f, fuel = f + 1 := ⟨fuel - 1, by omega⟩
    have hbk := hb (k + 1) hk
    rw [fX2_advance_L7, if_neg (show ¬ nI (k + 1) ≤ (0 : Int32) from nI_ge (a := 0) (by omega) (by omega)), zix_n (by omega) (by omega), zgrd_t, zgt_n _ (by omega), hr _ hk, zm1, show (1 : Int32) = nI 1 from rfl, nsub (by omega), show (0 : Int32) = nI 0 from rfl, show k + 1 - 1 = k from rfl, lastp]
    by_cases q : p (k + 1) = 0
    · rw [if_pos q, q, if_pos rfl]
      exact ih f (by omega) (by omega)
    · rw [if_neg q, if_neg (by rw [neq (by omega) (by omega)]; exact q)]
theorem q_advL {mv : MV} {x1 : Int32} {p : Nat → Nat} (hr : rep 10 mv.2.2.2.2.2.2.2.2.2.2.2.2.2.1 p) (hb : ∀ j, j < 10 → p j ≤ 6000) : ∀ (k fuel : Nat), k < 10 → k < fuel → fX7_isNextParts_L11 fuel mv x1 (nI k) = some (nI (lastp p k)) := by
  intro k
  induction k with
  | zero =>
    intro fuel hk hf
    obtain ⟨f, rfl⟩ : ∃ f, fuel = f + 1 := ⟨fuel - 1, by omega⟩
    rw [fX7_isNextParts_L11, if_pos (show nI 0 ≤ 0 by decide)]
    rfl
  | succ k ih =>
    intro fuel hk hf
    obtain ⟨f, rfl⟩ : ∃ f, fuel = f + 1 := ⟨fuel - 1, by omega⟩
    have hbk := hb (k + 1) hk
    rw [fX7_isNextParts_L11, if_neg (show ¬ nI (k + 1) ≤ (0 : Int32) from nI_ge (a := 0) (by omega) (by omega)), zix_n (by omega) (by omega), zgrd_t, zgt_n _ (by omega), hr _ hk, zm1, show (1 : Int32) = nI 1 from rfl, nsub (by omega), show (0 : Int32) = nI 0 from rfl, show k + 1 - 1 = k from rfl, lastp]
    by_cases q : p (k + 1) = 0
    · rw [if_pos q, q, if_pos rfl]
      exact ih f (by omega) (by omega)
    · rw [if_neg q, if_neg (by rw [neq (by omega) (by omega)]; exact q)]
theorem nextp_rep {a : zAI} {p : Nat → Nat} {N k : Nat} (hr : rep 10 a p) (hk : 0 < k) (hkN : k ≤ N - 1) (hN : N ≤ 10) (hp : p k ≠ 0) : rep 10 (zpt (zpt (zpt a (nI k) 0) (nI k - 1) ((zgt (zpt a (nI k) 0) (nI k - 1)) + 1)) (nI N - 1) ((zgt a (nI k)) - 1)) (nextp p N k) := by
  simp (disch := omega) only [zlit, nsub, zpt_n, zgt_n, upd_n]
  rw [hr k (by omega), hr (k - 1) (by omega), nI_add, nsub (by omega)]
  exact ((hr.up k 0).up (k - 1) (p (k - 1) + 1)).up (N - 1) (p k - 1)
theorem p_adv {v : PV} {p : Nat → Nat} {N : Nat} (hr : rep 10 v.1 p) (hb : ∀ j, j < 10 → p j ≤ 6000) (hv : v.2.2.1 = nI N) (h1 : 1 ≤ N) (h2 : N ≤ 10) : (lastp p (N - 1) = 0 → fX2_advance v = some (0, v)) ∧ (lastp p (N - 1) ≠ 0 → ∃ a, fX2_advance v = some (1, a, v.2) ∧ rep 10 a (nextp p N (lastp p (N - 1)))) := by
  have hl := lastp_le p (N - 1)
  unfold fX2_advance
  rw [hv, show nI N - 1 = nI (N - 1) from nsub (b := 1) h1, p_advL hr hb (N - 1) zF (by omega) (zF_lt (by omega)), bind_s]
  refine ⟨fun q => ?_, fun q => ?_⟩
  · rw [q, if_neg (by decide)]
  · rw [if_pos (show (0 : Int32) < nI (lastp p (N - 1)) from nI_lt (a := 0) (by omega) (by omega)), zix_n (by omega) (by omega), zgrd_t, show zix (nI (lastp p (N - 1)) - 1) 10 = true by rw [show (1 : Int32) = nI 1 from rfl, nsub (by omega), zix_n (by omega) (by omega)], zgrd_t, zix_n (by omega) (by omega), zgrd_t]
    refine ⟨_, rfl, ?_⟩
    have := nextp_rep (N := N) hr (by omega) hl h2 (lastp_p p _ q)
    rw [show nI N - 1 = nI (N - 1) from nsub (b := 1) h1] at this
    exact this
theorem q_adv {mv : MV} {p : Nat → Nat} {N : Nat} (hr : rep 10 mv.2.2.2.2.2.2.2.2.2.2.2.2.2.1 p) (hb : ∀ j, j < 10 → p j ≤ 6000) (hv : mv.2.2.2.2.2.2.2.1 3 = nI N) (h1 : 1 ≤ N) (h2 : N ≤ 10) : (lastp p (N - 1) = 0 → fX7_isNextParts mv = some (0, mv.2.2.2.2.2.2.2.2.2.2.2.2.2.1)) ∧ (lastp p (N - 1) ≠ 0 → ∃ a, fX7_isNextParts mv = some (1, a) ∧ rep 10 a (nextp p N (lastp p (N - 1)))) := by
  have hl := lastp_le p (N - 1)
  unfold fX7_isNextParts
  rw [show zgt mv.2.2.2.2.2.2.2.1 3 = nI N from hv, show nI N - 1 = nI (N - 1) from nsub (b := 1) h1, q_advL hr hb (N - 1) zF (by omega) (zF_lt (by omega)), bind_s]
  refine ⟨fun q => ?_, fun q => ?_⟩
  · rw [q, if_neg (by decide)]
  · rw [if_pos (show (0 : Int32) < nI (lastp p (N - 1)) from nI_lt (a := 0) (by omega) (by omega)), zix_n (by omega) (by omega), zgrd_t, show zix (nI (lastp p (N - 1)) - 1) 10 = true by rw [show (1 : Int32) = nI 1 from rfl, nsub (by omega), zix_n (by omega) (by omega)], zgrd_t, zix_n (by omega) (by omega), zgrd_t]
    refine ⟨_, rfl, ?_⟩
    have := nextp_rep (N := N) hr (by omega) hl h2 (lastp_p p _ q)
    rw [show nI N - 1 = nI (N - 1) from nsub (b := 1) h1] at this
    exact this
def thkT (c : Tm) (p : Nat → Nat) : Tm := (c.1, fun j => min 20 (c.2.1 j + p j), c.2.2)
theorem thkT_ok {c : Tm} {p : Nat → Nat} (hO : OKt c) : OKt (thkT c p) := by
  obtain ⟨o1, o2, o3⟩ := hO
  refine ⟨o1, o2, fun j hj => ?_⟩
  obtain ⟨a, b, d, e⟩ := o3 j hj
  refine ⟨a, ?_, ?_, e⟩
  · show 1 ≤ min 20 (c.2.1 j + p j)
    omega
  · show min 20 (c.2.1 j + p j) ≤ 20
    omega
theorem p_thkL {c : Tm} {st : zAI} {p : Nat → Nat} (hO : OKt c) (hr : rep 10 st p) (hb : ∀ j, j < 10 → p j ≤ 6000) : ∀ (k x fuel : Nat) (v : CV), x + k = c.2.2.2.1 → k < fuel → RCt v (c.1, (fun j => if j < x then min 20 (c.2.1 j + p j) else c.2.1 j), c.2.2) → ∃ v', fX0_thicken_L2 fuel v st (nI x) = some v' ∧ RCt v' (thkT c p) := by
  have hn := hO.1
  intro k
  induction k with
  | zero =>
    intro x fuel v hx hf hR
    obtain ⟨f, rfl⟩ : ∃ f, fuel = f + 1 := ⟨fuel - 1, by omega⟩
    rw [fX0_thicken_L2, show v.2.2.2.2.1 = nI c.2.2.2.1 from hR.1, if_pos (nI_le (by omega) (by omega))]
    refine ⟨v, rfl, hR.1, hR.2.1, fun j hj => ?_⟩
    have hj' : j < c.2.2.2.1 := hj
    obtain ⟨a, b, d⟩ := hR.2.2 j hj
    refine ⟨a, ?_, d⟩
    rw [b]
    dsimp only
    rw [if_pos (by omega)]
    rfl
  | succ k ih =>
    intro x fuel v hx hf hR
    obtain ⟨f, rfl⟩ : ∃ f, fuel = f + 1 := ⟨fuel - 1, by omega⟩
    obtain ⟨a, b, d⟩ := hR.2.2 x (show x < c.2.2.2.1 by omega)
    have hbx := hb x (by omega)
    obtain ⟨-, t1, t2, -⟩ := hO.2.2 x (by omega)
    dsimp only at a b d
    rw [if_neg (by omega)] at b
    rw [fX0_thicken_L2, show v.2.2.2.2.1 = nI c.2.2.2.1 from hR.1, if_neg (nI_ge (by omega) (by omega)), zix_n (by omega) (by omega), zgrd_t, zgt_n _ (by omega), zgt_n _ (by omega), zpt_n _ (by omega), b, hr x (by omega), nI_add, nI_1]
    have e : (if nI (c.2.1 x + p x) < (20 : Int32) then nI (c.2.1 x + p x) else 20) = nI (min 20 (c.2.1 x + p x)) := by
      by_cases q : c.2.1 x + p x < 20
      · rw [if_pos (show nI _ < (20 : Int32) from nI_lt (b := 20) q (by omega)), Nat.min_eq_right (by omega)]
      · rw [if_neg (show ¬ nI _ < (20 : Int32) from nI_nlt (b := 20) (by omega) (by omega)), Nat.min_eq_left (by omega)]
        rfl
    rw [e]
    refine ih (x + 1) f _ (by omega) (by omega) ⟨hR.1, hR.2.1, fun j hj => ?_⟩
    obtain ⟨a2, b2, d2⟩ := hR.2.2 j hj
    refine ⟨a2, ?_, d2⟩
    dsimp only at b2 ⊢
    by_cases q : j = x
    · subst q
      rw [upd_s, if_pos (by omega)]
    · rw [upd_n q, b2]
      by_cases q2 : j < x
      · rw [if_pos q2, if_pos (by omega)]
      · rw [if_neg q2, if_neg (by omega)]
theorem p_thk {c : Tm} {st : zAI} {p : Nat → Nat} (hO : OKt c) (hr : rep 10 st p) (hb : ∀ j, j < 10 → p j ≤ 6000) {v : CV} (hR : RCt v c) : ∃ v', fX0_thicken v st = some v' ∧ RCt v' (thkT c p) := by
  have hn := hO.1
  obtain ⟨v', a1, a2⟩ := p_thkL hO hr hb c.2.2.2.1 0 zF v (Nat.zero_add _) (zF_lt (by omega)) hR
  refine ⟨v', ?_, a2⟩
  unfold fX0_thicken
  rw [show fX0_thicken_L2 zF v st 0 = some v' from a1, bind_s]
theorem q_thkL {c : Tm} {mv : MV} {x2 x3 x4 x5 : Int32} {p : Nat → Nat} (hO : OKt c) (hm : mv.2.2.2.2.2.2.2.1 3 = nI c.2.2.2.1) (hr : rep 10 mv.2.2.2.2.2.2.2.2.2.2.2.2.2.1 p) (hb : ∀ j, j < 10 → p j ≤ 6000) (s0 : zAI) : ∀ (k x fuel : Nat) (s : zAI), x + k = c.2.2.2.1 → k < fuel → RSt s (c.1, (fun j => if j < x then min 20 (c.2.1 j + p j) else c.2.1 j), c.2.2) → (∀ q, 34 ≤ q → s q = s0 q) → ∃ s', fX7_share_L101 fuel mv x2 x3 x4 x5 (nI x) s = some s' ∧ RSt s' (thkT c p) ∧ ∀ q, 34 ≤ q → s' q = s0 q := by
  have hn := hO.1
  intro k
  induction k with
  | zero =>
    intro x fuel s hx hf hR h0
    obtain ⟨f, rfl⟩ : ∃ f, fuel = f + 1 := ⟨fuel - 1, by omega⟩
    rw [fX7_share_L101, show zgt mv.2.2.2.2.2.2.2.1 3 = nI c.2.2.2.1 from hm, if_pos (nI_le (by omega) (by omega))]
    refine ⟨s, rfl, ⟨hR.1, hR.2.1, fun j hj => ?_⟩, h0⟩
    have hj' : j < c.2.2.2.1 := hj
    obtain ⟨a, b, d⟩ := hR.2.2 j hj
    refine ⟨a, ?_, d⟩
    rw [b]
    dsimp only
    rw [if_pos (by omega)]
    rfl
  | succ k ih =>
    intro x fuel s hx hf hR h0
    obtain ⟨f, rfl⟩ : ∃ f, fuel = f + 1 := ⟨fuel - 1, by omega⟩
    obtain ⟨a, b, d⟩ := hR.2.2 x (show x < c.2.2.2.1 by omega)
    have hbx := hb x (by omega)
    obtain ⟨-, t1, t2, -⟩ := hO.2.2 x (by omega)
    dsimp only at a b d
    rw [if_neg (by omega)] at b
    have fin : ∀ z, z = nI (min 20 (c.2.1 x + p x)) → ∃ s', fX7_share_L101 f mv x2 x3 x4 x5 (nI (x + 1)) (upd s (14 + x) z) = some s' ∧ RSt s' (thkT c p) ∧ ∀ q, 34 ≤ q → s' q = s0 q := by
      intro z hz
      subst hz
      refine ih (x + 1) f _ (by omega) (by omega) ⟨by rw [upd_n (by omega)]; exact hR.1, by rw [upd_n (by omega)]; exact hR.2.1, fun j hj => ?_⟩ (fun q hq => by rw [upd_n (by omega)]; exact h0 q hq)
      have hj' : j < c.2.2.2.1 := hj
      obtain ⟨a2, b2, d2⟩ := hR.2.2 j hj
      refine ⟨by rw [upd_n (by omega)]; exact a2, ?_, by rw [upd_n (by omega)]; exact d2⟩
      dsimp only at b2 ⊢
      by_cases q : j = x
      · subst q
        rw [upd_s, if_pos (by omega)]
      · rw [upd_n (by omega), b2]
        by_cases q2 : j < x
        · rw [if_pos q2, if_pos (by omega)]
        · rw [if_neg q2, if_neg (by omega)]
    rw [fX7_share_L101, show zgt mv.2.2.2.2.2.2.2.1 3 = nI c.2.2.2.1 from hm, if_neg (nI_ge (by omega) (by omega)), show (14 : Int32) = nI 14 from rfl, nI_add, zix_n (by omega) (by omega), zgrd_t, zix_n (by omega) (by omega), zgrd_t, zgt_n _ (by omega), zgt_n _ (by omega), b, hr x (by omega), nI_add, nI_1, zpt_n _ (by omega), zpt_n _ (by omega)]
    by_cases q : c.2.1 x + p x ≤ 20
    · rw [if_pos (show nI _ ≤ (20 : Int32) from nI_le (b := 20) q (by omega))]
      exact fin _ (by rw [Nat.min_eq_right (by omega)])
    · rw [if_neg (show ¬ nI _ ≤ (20 : Int32) from nI_ge (a := 20) (by omega) (by omega))]
      exact fin _ (by rw [Nat.min_eq_left (by omega)]; rfl)
theorem q_thk {c : Tm} {mv : MV} {x2 x3 x4 x5 : Int32} {p : Nat → Nat} (hO : OKt c) (hm : mv.2.2.2.2.2.2.2.1 3 = nI c.2.2.2.1) (hr : rep 10 mv.2.2.2.2.2.2.2.2.2.2.2.2.2.1 p) (hb : ∀ j, j < 10 → p j ≤ 6000) {s : zAI} (hR : RSt s c) : ∃ s', fX7_share_L101 zF mv x2 x3 x4 x5 0 s = some s' ∧ RSt s' (thkT c p) ∧ ∀ q, 34 ≤ q → s' q = s q := q_thkL hO hm hr hb s c.2.2.2.1 0 zF s (Nat.zero_add _) (zF_lt (by have := hO.1; omega)) hR (fun _ _ => rfl)
