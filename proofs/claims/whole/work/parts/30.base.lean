/-! numbers in the pictures -/
theorem zlit (n : Nat) : (OfNat.ofNat n : Int32) = nI n := rfl
theorem zm1 (x : Int32) : x + (-1) = x - 1 := by
  rw [Int32.sub_eq_add_neg]
theorem zm2 (x : Int32) : x + (-2) = x - 2 := by
  rw [Int32.sub_eq_add_neg]
theorem zgt_n {α : Type} (f : Nat → α) {i : Nat} (h : i < 2147483648) : zgt f (nI i) = f i := by
  unfold zgt
  rw [nI_clamp (by omega)]
theorem zpt_n (f : zAI) {i : Nat} (h : i < 2147483648) (x : Int32) : zpt f (nI i) x = upd f i x := by
  unfold zpt
  rw [nI_clamp (by omega)]
theorem zptL_n (f : zAL) {i : Nat} (h : i < 2147483648) (x : Int64) : zptL f (nI i) x = vp_updL f i x := by
  unfold zptL
  rw [nI_clamp (by omega)]
theorem zix_n {i n : Nat} (h : i < n) (hn : n < 2147483648) : zix (nI i) n = true := by
  unfold zix
  rw [nI_clamp (by omega)]
  have h1 : ¬ nI i < 0 := nI_pos (by omega)
  simp [h1, h]
theorem zgrd_t {α : Type} (k : Option α) : zgrd true k = k := rfl
theorem znz_n {a : Nat} (h : 0 < a) (h2 : a < 2147483648) : znz (nI a) = true := by
  unfold znz
  have := nI_ne0 h (by omega)
  simp [this]
theorem nle {a b : Nat} (ha : a < 2147483648) (hb : b < 2147483648) : (nI a ≤ nI b) = (a ≤ b) := propext (nI_leI (by omega) (by omega))
theorem nlt {a b : Nat} (ha : a < 2147483648) (hb : b < 2147483648) : (nI a < nI b) = (a < b) := propext (nI_ltI (by omega) (by omega))
theorem neq {a b : Nat} (ha : a < 2147483648) (hb : b < 2147483648) : (nI a = nI b) = (a = b) := propext (nI_eq (by omega) (by omega))
theorem nsub {a b : Nat} (h : b ≤ a) : nI a - nI b = nI (a - b) := pk_sub h
theorem ndiv {a d : Nat} (ha : a < 2147483648) (h0 : 0 < d) (hd : d < 2147483648) : nI a / nI d = nI (a / d) := pk_div (by omega) h0 (by omega)
theorem nrem {a d : Nat} (ha : a < 2147483648) (h0 : 0 < d) (hd : d < 2147483648) : nI a - nI a / nI d * nI d = nI (a % d) := pk_rem (by omega) h0 (by omega)
/-- a difference that may be below 0 -/
theorem nsub_toInt {a b : Nat} (ha : a < 1073741824) (hb : b < 1073741824) : (nI a - nI b).toInt = (a : Int) - b := pk_sub_toInt (by omega) (by omega)
theorem nsub_lt {a b c : Nat} (ha : a < 1073741824) (hb : b < 1073741824) (hc : c < 2147483648) : (nI a - nI b < nI c) = (a < c + b) := by
  apply propext
  rw [Int32.lt_iff_toInt_lt, nsub_toInt ha hb, nI_toInt (by omega)]
  omega
theorem nlt_sub {a b c : Nat} (ha : a < 1073741824) (hb : b < 1073741824) (hc : c < 2147483648) : (nI c < nI a - nI b) = (c + b < a) := by
  apply propext
  rw [Int32.lt_iff_toInt_lt, nsub_toInt ha hb, nI_toInt (by omega)]
  omega
theorem nsub_le {a b c : Nat} (ha : a < 1073741824) (hb : b < 1073741824) (hc : c < 2147483648) : (nI a - nI b ≤ nI c) = (a ≤ c + b) := by
  apply propext
  rw [Int32.le_iff_toInt_le, nsub_toInt ha hb, nI_toInt (by omega)]
  omega
theorem nle_sub {a b c : Nat} (ha : a < 1073741824) (hb : b < 1073741824) (hc : c < 2147483648) : (nI c ≤ nI a - nI b) = (c + b ≤ a) := by
  apply propext
  rw [Int32.le_iff_toInt_le, nsub_toInt ha hb, nI_toInt (by omega)]
  omega
theorem nneg0 : (nI 0 - nI 1 < nI 0) = True := by
  rw [nsub_lt (by omega) (by omega) (by omega)]
  simp
theorem upd_s {f : zAI} {k : Nat} {x : Int32} : upd f k x k = x := by simp [upd]
theorem upd_n {f : zAI} {k j : Nat} {x : Int32} (h : j ≠ k) : upd f k x j = f j := by simp [upd, h]
theorem bind_s {α β : Type} (a : α) (k : α → Option β) : (some a).bind k = k a := rfl
theorem i_nlt {a b : Int32} (h : ¬ a < b) : b ≤ a := by
  rw [Int32.lt_iff_toInt_lt] at h
  rw [Int32.le_iff_toInt_le]
  omega
theorem i_nle {a b : Int32} (h : ¬ a ≤ b) : b < a := by
  rw [Int32.le_iff_toInt_le] at h
  rw [Int32.lt_iff_toInt_lt]
  omega
theorem i_lt_nle {a b : Int32} (h : a < b) : ¬ b ≤ a := by
  rw [Int32.lt_iff_toInt_lt] at h
  rw [Int32.le_iff_toInt_le]
  omega
theorem i_le_nlt {a b : Int32} (h : a ≤ b) : ¬ b < a := by
  rw [Int32.le_iff_toInt_le] at h
  rw [Int32.lt_iff_toInt_lt]
  omega
/-- in a range: class and reference say it two ways -/
def rng (x a b : Int32) : Prop := a ≤ x ∧ x ≤ b
theorem out_t {x a b : Int32} (h : rng x a b) : fX6_outside x a b = some 0 := by
  unfold fX6_outside
  have h1 : ¬ x < a := by rw [Int32.lt_iff_toInt_lt]; have := Int32.le_iff_toInt_le.mp h.1; omega
  rw [if_neg h1, if_pos h.2]
theorem out_f {x a b : Int32} (h : ¬ rng x a b) : fX6_outside x a b = some 1 := by
  unfold fX6_outside
  by_cases h1 : x < a
  · rw [if_pos h1]
  · rw [if_neg h1, if_neg]
    intro h2
    exact h ⟨i_nlt h1, h2⟩
theorem in_t {x a b : Int32} (h : rng x a b) : fX7_in x a b = some 1 := by
  unfold fX7_in
  have h1 : ¬ x < a := by rw [Int32.lt_iff_toInt_lt]; have := Int32.le_iff_toInt_le.mp h.1; omega
  have h2 : ¬ b < x := by rw [Int32.lt_iff_toInt_lt]; have := Int32.le_iff_toInt_le.mp h.2; omega
  rw [if_neg h1, if_neg h2]
theorem in_f {x a b : Int32} (h : ¬ rng x a b) : fX7_in x a b = some 0 := by
  unfold fX7_in
  by_cases h1 : x < a
  · rw [if_pos h1]
  · rw [if_neg h1, if_pos]
    exact i_nle (fun h2 => h ⟨i_nlt h1, h2⟩)
/-- a number in a range is a natural one -/
theorem rng_n {x : Int32} {a b : Nat} (hb : b < 2147483648) (h : rng x (nI a) (nI b)) (ha : a ≤ b) : ∃ j, a ≤ j ∧ j ≤ b ∧ x = nI j := by
  obtain ⟨h1, h2⟩ := h
  have e1 := Int32.le_iff_toInt_le.mp h1
  have e2 := Int32.le_iff_toInt_le.mp h2
  rw [nI_toInt (by omega)] at e1 e2
  obtain ⟨j, hj, hx⟩ := nI_of (x := x) (by rw [Int32.lt_iff_toInt_lt]; simp; omega)
  subst hx
  rw [nI_toInt (by omega)] at e1 e2
  exact ⟨j, by omega, by omega, rfl⟩
theorem n_rng {j a b : Nat} (hb : b < 2147483648) (h1 : a ≤ j) (h2 : j ≤ b) : rng (nI j) (nI a) (nI b) := ⟨nI_le h1 (by omega), nI_le h2 (by omega)⟩
theorem nremN (a d : Nat) : nI a - nI (a / d * d) = nI (a % d) := by
  rw [nsub (Nat.div_mul_le_self a d)]
  congr 1
  have := Nat.mod_add_div a d
  rw [Nat.mul_comm] at this
  omega
