/-! cloudbursts -/
def bitN (b k : Nat) : Nat := b / 2 ^ k % 2
def cnN (b : Nat) : Nat → Nat → Nat
  | _, 0 => 0
  | i, k + 1 => bitN b i + cnN b (i + 1) k
theorem zlet_e {α β : Type} (x : α) (k : α → Option β) : zlet x k = k x := rfl
theorem bit_ok : ∀ b, b < 64 → ∀ k, k < 6 → ((nI b >>> (nI k &&& 31)) &&& 1) = nI (bitN b k) := by decide +kernel
theorem has_ok : ∀ b, b < 64 → ∀ k, k < 6 → fX7_has (nI b) (nI k) = some (nI (bitN b k)) := by decide +kernel
theorem shl_ok : ∀ n, n < 7 → (1 <<< (nI n &&& 31) : Int32) = nI (2 ^ n) := by decide +kernel
theorem cnt_ok : ∀ n, n < 7 → ∀ b, b < 2 ^ n → fJ6_bitCount (nI b) = some (nI (cnN b 0 n)) := by decide +kernel
theorem bitN_2 (b k : Nat) : bitN b k = 0 ∨ bitN b k = 1 := by unfold bitN; omega
theorem cnN_le (b : Nat) : ∀ k i, cnN b i k ≤ k
  | 0, _ => Nat.le_refl 0
  | k + 1, i => by
    have := cnN_le b k (i + 1)
    rcases bitN_2 b i with h | h <;> rw [cnN, h] <;> omega
def odN (b c : Nat) : Nat → Nat → Nat
  | _, 0 => 1
  | i, k + 1 => (if bitN b i = 0 then 10 - c else c) * odN b c (i + 1) k
theorem odN_eq (b c : Nat) : ∀ k i, odN b c i k = c ^ (cnN b i k) * (10 - c) ^ (k - cnN b i k)
  | 0, _ => rfl
  | k + 1, i => by
    have h1 := odN_eq b c k (i + 1)
    have h2 := cnN_le b k (i + 1)
    rw [odN, cnN, h1]
    rcases bitN_2 b i with h | h
    · rw [if_pos h, h, Nat.zero_add, show k + 1 - cnN b (i + 1) k = k - cnN b (i + 1) k + 1 by omega, Nat.pow_succ, Nat.mul_left_comm, Nat.mul_comm (10 - c)]
    · rw [if_neg (by omega), h, show k + 1 - (1 + cnN b (i + 1) k) = k - cnN b (i + 1) k by omega, Nat.add_comm 1, Nat.pow_succ, ← Nat.mul_assoc, Nat.mul_comm c]
theorem odN_le (b c : Nat) (hc : c ≤ 10) : ∀ k i, odN b c i k ≤ 10 ^ k
  | 0, _ => Nat.le_refl 1
  | k + 1, i => by
    rw [odN, Nat.pow_succ, Nat.mul_comm]
    exact Nat.mul_le_mul (odN_le b c hc k (i + 1)) (by split <;> omega)
theorem p_powL (a e : Nat) (he : e ≤ 100) : ∀ (k i fuel acc : Nat), i + k = e → k < fuel → fX6_power_L4 fuel (nI a) (nI e) (nI acc) (nI i) = some (nI (acc * a ^ k)) := by
  intro k
  induction k with
  | zero =>
    intro i fuel acc hi hf
    obtain ⟨f, rfl⟩ : ∃ f, fuel = f + 1 := ⟨fuel - 1, by omega⟩
    rw [fX6_power_L4, if_pos (nI_le (by omega) (by omega)), Nat.pow_zero, Nat.mul_one]
  | succ k ih =>
    intro i fuel acc hi hf
    obtain ⟨f, rfl⟩ : ∃ f, fuel = f + 1 := ⟨fuel - 1, by omega⟩
    rw [fX6_power_L4, if_neg (nI_ge (by omega) (by omega)), pk_mul, nI_1, ih (i + 1) f (acc * a) (by omega) (by omega), Nat.pow_succ, Nat.mul_assoc, Nat.mul_comm a]
theorem p_pow (a : Nat) {e : Nat} (he : e ≤ 100) : fX6_power (nI a) (nI e) = some (nI (a ^ e)) := by
  unfold fX6_power
  rw [show fX6_power_L4 zF (nI a) (nI e) 1 0 = _ from p_powL a e he e 0 zF 1 (Nat.zero_add e) (zF_lt (by omega)), bind_s, Nat.one_mul]
theorem q_powL {mv : MV} {x2 x3 x4 : Int32} (e : Nat) (he : e ≤ 100) : ∀ (k i fuel acc : Nat), i + k = e → k < fuel → fX7_bursts_L40 fuel mv (nI e) x2 x3 x4 (nI acc) (nI i) = some (nI (acc * 10 ^ k)) := by
  intro k
  induction k with
  | zero =>
    intro i fuel acc hi hf
    obtain ⟨f, rfl⟩ : ∃ f, fuel = f + 1 := ⟨fuel - 1, by omega⟩
    rw [fX7_bursts_L40, if_pos (nI_le (by omega) (by omega)), Nat.pow_zero, Nat.mul_one]
  | succ k ih =>
    intro i fuel acc hi hf
    obtain ⟨f, rfl⟩ : ∃ f, fuel = f + 1 := ⟨fuel - 1, by omega⟩
    rw [fX7_bursts_L40, if_neg (nI_ge (by omega) (by omega)), show (10 : Int32) = nI 10 from rfl, pk_mul, nI_1, ih (i + 1) f (acc * 10) (by omega) (by omega), Nat.pow_succ, Nat.mul_assoc, Nat.mul_comm 10]
theorem gcdL {mv : MV} {x3 x4 x5 : Int32} : ∀ (k i fuel x y : Nat), y < x → x < 2147483648 → x * y < 2 ^ k → i + k < 1000 → k < fuel → ∃ g, 1 ≤ g ∧ g < 2147483648 ∧ fX6_greatestDivisor_L7 fuel (nI x) (nI y) (nI i) = some (nI g) ∧ fX7_bursts_L195 fuel mv x3 x4 x5 (nI x) (nI y) = some (nI g) := by
  intro k
  induction k with
  | zero =>
    intro i fuel x y h1 h2 h3 hi hf
    obtain ⟨f, rfl⟩ : ∃ f, fuel = f + 1 := ⟨fuel - 1, by omega⟩
    have hy : y = 0 := by
      rcases Nat.eq_zero_or_pos y with h | h
      · exact h
      · have := Nat.mul_pos (show 0 < x by omega) h
        rw [Nat.pow_zero] at h3
        omega
    subst hy
    rw [fX6_greatestDivisor_L7, fX7_bursts_L195, if_neg (show ¬ (1000 : Int32) ≤ nI i from nI_ge (b := 1000) (by omega) (by omega)), if_pos (show nI 0 = (0 : Int32) from rfl), if_pos (show nI 0 ≤ (0 : Int32) by decide)]
    exact ⟨x, by omega, h2, rfl, rfl⟩
  | succ k ih =>
    intro i fuel x y h1 h2 h3 hi hf
    obtain ⟨f, rfl⟩ : ∃ f, fuel = f + 1 := ⟨fuel - 1, by omega⟩
    rw [fX6_greatestDivisor_L7, fX7_bursts_L195, if_neg (show ¬ (1000 : Int32) ≤ nI i from nI_ge (b := 1000) (by omega) (by omega))]
    by_cases q : y = 0
    · subst q
      rw [if_pos (show nI 0 = (0 : Int32) from rfl), if_pos (show nI 0 ≤ (0 : Int32) by decide)]
      exact ⟨x, by omega, h2, rfl, rfl⟩
    · rw [if_neg (nI_ne0 (by omega) (by omega)), if_neg (show ¬ nI y ≤ (0 : Int32) from nI_ge (a := 0) (by omega) (by omega)), znz_n (by omega) (by omega), zgrd_t, zgrd_t, nrem (by omega) (by omega) (by omega), nI_1]
      have m1 := Nat.mod_lt x (by omega : y > 0)
      have m2 : 2 * (x % y) ≤ x := by
        have e := Nat.div_add_mod x y
        have d : 1 ≤ x / y := (Nat.one_le_div_iff (by omega)).mpr (by omega)
        have : y * 1 ≤ y * (x / y) := Nat.mul_le_mul_left y d
        omega
      have m3 : 2 * (y * (x % y)) ≤ x * y := by
        rw [Nat.mul_left_comm, Nat.mul_comm x]
        exact Nat.mul_le_mul_left y m2
      exact ih (i + 1) f y (x % y) m1 (by omega) (by rw [Nat.pow_succ] at h3; omega) (by omega) (by omega)
theorem gcd_ok {mv : MV} {x3 x4 x5 : Int32} {x y : Nat} (h1 : 1 ≤ y) (h2 : y ≤ 1000000) (h3 : x < 2147483648) : ∃ g, 1 ≤ g ∧ g < 2147483648 ∧ fX6_greatestDivisor (nI x) (nI y) = some (nI g) ∧ fX7_bursts_L195 zF mv x3 x4 x5 (nI x) (nI y) = some (nI g) := by
  have m1 := Nat.mod_lt x (by omega : y > 0)
  have m2 : y * (x % y) ≤ 1000000 * 1000000 := Nat.mul_le_mul h2 (by omega)
  obtain ⟨f, hf⟩ : ∃ f, zF = f + 1 := ⟨zF - 1, by have := zF_lt (i := 100) (by omega); omega⟩
  have hf2 := zF_lt (i := 100) (by omega)
  obtain ⟨g, a1, a2, a3, a4⟩ := gcdL (mv := mv) (x3 := x3) (x4 := x4) (x5 := x5) 41 1 f y (x % y) m1 (by omega) (by have e41 : (2 : Nat) ^ 41 = 2199023255552 := rfl; omega) (by omega) (by omega)
  have e1 : fX6_greatestDivisor_L7 zF (nI x) (nI y) 0 = some (nI g) := by
    rw [hf, fX6_greatestDivisor_L7, if_neg (by decide), if_neg (nI_ne0 (by omega) (by omega)), znz_n (by omega) (by omega), zgrd_t, nrem (by omega) (by omega) (by omega)]
    exact a3
  refine ⟨g, a1, a2, ?_, ?_⟩
  · unfold fX6_greatestDivisor
    rw [e1, bind_s]
    by_cases q : 1 < g
    · rw [if_pos (show (1 : Int32) < nI g from nI_lt (a := 1) q (by omega))]
    · rw [if_neg (show ¬ (1 : Int32) < nI g from nI_nlt (a := 1) (by omega) (by omega)), show g = 1 by omega]
      rfl
  · rw [hf, fX7_bursts_L195, if_neg (show ¬ nI y ≤ (0 : Int32) from nI_ge (a := 0) (by omega) (by omega)), znz_n (by omega) (by omega), zgrd_t, nrem (by omega) (by omega) (by omega)]
    exact a4
/-- the water of a year that may have a burst -/
def wtN (r : Nat → Nat) (m b i y : Nat) : Nat := if bitN b i = 0 then rnY r m y else 2 * rnY r m y
theorem wtN_le {wv : WV} {s : zAI} {r : Nat → Nat} {m : Nat} (hW : RW wv s r m) (b i y : Nat) : wtN r m b i y ≤ 80 := by
  have := rnY_le hW y
  unfold wtN
  split <;> omega
theorem q_burY {mv : MV} {wv : WV} {r : Nat → Nat} {m n b c : Nat} {x3 x4 x5 : Int32} {f od lk i : Nat} {s tk tk' s' : zAI} {t : Tm} {L : Nat} (hb : b < 64) (hc : c ≤ 10) (hi : i < n) (hn : n ≤ 6) (hR : RSt s t) (hy : t.2.2.2.2 < 100000) (hW : RW wv s r m) (h : fX7_yearBy tk s (nI (wtN r m b i t.2.2.2.2)) = some (nI L, tk', s')) : fX7_bursts_L83 (f + 1) mv (nI n) (nI c) x3 x4 x5 (nI b) (nI od) (nI lk) (nI i) s tk = fX7_bursts_L83 f mv (nI n) (nI c) x3 x4 x5 (nI b) (nI (od * (if bitN b i = 0 then 10 - c else c))) (nI (lk + L)) (nI (i + 1)) s' tk' := by
  rw [fX7_bursts_L83, if_neg (nI_ge (by omega) (by omega)), has_ok b hb i (by omega), bind_s, show zgt s 0 = nI t.2.2.2.2 from hR.2.1, q_rain hW (by omega), bind_s, bind_s, bind_s]
  unfold wtN at h
  rcases bitN_2 b i with q | q
  · rw [if_pos q] at h ⊢
    rw [q, nI_0, if00, if00, h, bind_s]
    dsimp only
    rw [show (10 : Int32) = nI 10 from rfl, nsub hc, pk_mul, nI_add, nI_1]
  · have q0 : ¬ bitN b i = 0 := by rw [q]; decide
    rw [if_neg q0] at h ⊢
    rw [q, show nI 1 = (1 : Int32) from rfl, if10, bind_s, if10, show (2 : Int32) = nI 2 from rfl, pk_mul, h, bind_s]
    dsimp only
    rw [pk_mul, nI_add, show (1 : Int32) = nI 1 from rfl, nI_add]
theorem q_burL {mv : MV} {wv : WV} {r : Nat → Nat} {m n b c : Nat} {x3 x4 x5 : Int32} (hb : b < 64) (hc : c ≤ 10) (hn : n ≤ 6) : ∀ (k i fuel od lk : Nat) (s tk : zAI) (t : Tm), i + k = n → k < fuel → RSt s t → OKt t → RW wv s r m → t.2.2.2.2 + k < 100000 → ∃ L s' tk', fX7_bursts_L83 fuel mv (nI n) (nI c) x3 x4 x5 (nI b) (nI od) (nI lk) (nI i) s tk = some (nI (od * odN b c i k), nI (lk + L), s', tk') ∧ L ≤ 80 * k := by
  intro k
  induction k with
  | zero =>
    intro i fuel od lk s tk t hi hf hR hO hW hy
    obtain ⟨f, rfl⟩ : ∃ f, fuel = f + 1 := ⟨fuel - 1, by omega⟩
    rw [fX7_bursts_L83, if_pos (nI_le (by omega) (by omega))]
    exact ⟨0, s, tk, by rw [odN, Nat.mul_one, Nat.add_zero], Nat.zero_le _⟩
  | succ k ih =>
    intro i fuel od lk s tk t hi hf hR hO hW hy
    obtain ⟨f, rfl⟩ : ∃ f, fuel = f + 1 := ⟨fuel - 1, by omega⟩
    have hw := wtN_le hW b i t.2.2.2.2
    obtain ⟨tk', s', a1, a2, a3, a4, a5⟩ := q_year (w := wtN r m b i t.2.2.2.2) hO (by omega) hR tk
    obtain ⟨L, s2, tk2, b1, b2⟩ := ih (i + 1) f (od * (if bitN b i = 0 then 10 - c else c)) (lk + lks (wtN r m b i t.2.2.2.2) t) s' tk' (stp (wtN r m b i t.2.2.2.2) t) (by omega) (by omega) a2 (OKc.next hO (by omega)) (hW.keep (fun q h1 _ => a5 q (by omega))) (by show t.2.2.2.2 + 1 + k < 100000; omega)
    have hl := lks_le (wtN r m b i t.2.2.2.2) t
    refine ⟨lks (wtN r m b i t.2.2.2.2) t + L, s2, tk2, ?_, by omega⟩
    rw [q_burY hb hc (by omega) hn hR (by omega) hW a1, show lkY t.1 t.2.1 t.2.2.1 t.2.2.2.1 t.2.2.2.2 (wtN r m b i t.2.2.2.2) = lks (wtN r m b i t.2.2.2.2) t from rfl, b1, odN, Nat.mul_assoc, Nat.add_assoc]
