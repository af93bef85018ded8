/-! the tape's letters -/
def CH (n : Nat) (ch : Nat → Nat) : Prop := n ≤ 90 ∧ ∀ j, j < n → 32 ≤ ch j ∧ ch j ≤ 126
def TS (t : TV) (n : Nat) (ch : Nat → Nat) (p : Nat) : Prop := t.2.2.2.1 = nI n ∧ t.2.2.2.2.2.1 = nI p ∧ ∀ j, j < n → t.1 j = nI (ch j)
def MS (mv : MV) (n : Nat) (ch : Nat → Nat) (p : Nat) : Prop := mv.2.2.2.1 = nI n ∧ mv.2.2.2.2.2.1 = nI p ∧ ∀ j, j < n → mv.2.2.2.2.1 j = nI (ch j)
def plc (t : TV) (p : Nat) : TV := (t.1, t.2.1, t.2.2.1, t.2.2.2.1, t.2.2.2.2.1, nI p, t.2.2.2.2.2.2)
def flt (t : TV) (q : Nat) : TV := (t.1, t.2.1, t.2.2.1, t.2.2.2.1, t.2.2.2.2.1, t.2.2.2.2.2.1, nI q)
theorem TS.plc {t : TV} {n : Nat} {ch : Nat → Nat} {p : Nat} (h : TS t n ch p) (q : Nat) : TS (plc t q) n ch q := ⟨h.1, rfl, h.2.2⟩
theorem plc_self {t : TV} {n : Nat} {ch : Nat → Nat} {p : Nat} (h : TS t n ch p) : plc t p = t := by
  unfold plc
  rw [← h.2.1]
def skp (ch : Nat → Nat) (n : Nat) : Nat → Nat → Nat
  | 0, p => p
  | k + 1, p => if n ≤ p then p else if ch p = 32 then skp ch n k (p + 1) else p
theorem skp_ge (ch : Nat → Nat) (n : Nat) : ∀ k p, p ≤ skp ch n k p
  | 0, p => Nat.le_refl p
  | k + 1, p => by
    have := skp_ge ch n k (p + 1)
    rw [skp]
    split
    · omega
    · split <;> omega
theorem skp_le (ch : Nat → Nat) (n : Nat) : ∀ k p, p ≤ n → skp ch n k p ≤ n
  | 0, p, h => h
  | k + 1, p, h => by
    rw [skp]
    split
    · omega
    · have := skp_le ch n k (p + 1) (by omega)
      split <;> omega
theorem skp_st (ch : Nat → Nat) (n : Nat) : ∀ k p, n ≤ p + k → skp ch n k p < n → ch (skp ch n k p) ≠ 32
  | 0, p, h, h2 => by rw [skp] at h2; omega
  | k + 1, p, h, h2 => by
    rw [skp] at h2 ⊢
    by_cases q : n ≤ p
    · rw [if_pos q] at h2
      omega
    · rw [if_neg q] at h2 ⊢
      by_cases q2 : ch p = 32
      · rw [if_pos q2] at h2 ⊢
        exact skp_st ch n k (p + 1) (by omega) h2
      · rw [if_neg q2]
        exact q2
theorem skp_id (ch : Nat → Nat) (n : Nat) : ∀ k q, (n ≤ q ∨ ch q ≠ 32) → skp ch n k q = q
  | 0, _, _ => rfl
  | k + 1, q, h => by
    rw [skp]
    by_cases q1 : n ≤ q
    · rw [if_pos q1]
    · rw [if_neg q1, if_neg (by omega)]
def SK (ch : Nat → Nat) (n p : Nat) : Nat := skp ch n 91 p
theorem SK_ge (ch : Nat → Nat) (n p : Nat) : p ≤ SK ch n p := skp_ge ch n 91 p
theorem SK_le {ch : Nat → Nat} {n p : Nat} (h : p ≤ n) : SK ch n p ≤ n := skp_le ch n 91 p h
theorem SK_st {ch : Nat → Nat} {n p : Nat} (hn : n ≤ 90) (h : SK ch n p < n) : ch (SK ch n p) ≠ 32 := skp_st ch n 91 p (by omega) h
theorem SK_id {ch : Nat → Nat} {n q : Nat} (h : n ≤ q ∨ ch q ≠ 32) : SK ch n q = q := skp_id ch n 91 q h
theorem SK_SK {ch : Nat → Nat} {n p : Nat} (hn : n ≤ 90) : SK ch n (SK ch n p) = SK ch n p := by
  apply SK_id
  by_cases q : SK ch n p < n
  · exact Or.inr (SK_st hn q)
  · exact Or.inl (by omega)
theorem p_skL {n : Nat} {ch : Nat → Nat} (hC : CH n ch) : ∀ (k p fuel : Nat) (t : TV), TS t n ch p → p ≤ n → n ≤ p + k → k < fuel → fX4_skipBlanks_L0 fuel t = some (plc t (skp ch n k p)) := by
  intro k
  induction k with
  | zero =>
    intro p fuel t hT hp hk hf
    obtain ⟨g, rfl⟩ : ∃ g, fuel = g + 1 := ⟨fuel - 1, by omega⟩
    rw [fX4_skipBlanks_L0, hT.1, hT.2.1, if_pos (nI_le (by omega) (by have := hC.1; omega)), skp, plc_self hT]
  | succ k ih =>
    intro p fuel t hT hp hk hf
    obtain ⟨g, rfl⟩ : ∃ g, fuel = g + 1 := ⟨fuel - 1, by omega⟩
    have h90 := hC.1
    rw [fX4_skipBlanks_L0, hT.1, hT.2.1, skp]
    by_cases q : n ≤ p
    · rw [if_pos (nI_le q (by omega)), if_pos q, plc_self hT]
    · have hc := hC.2 p (by omega)
      rw [if_neg (nI_ge (by omega) (by omega)), if_neg q, zix_n (by omega) (by omega), zgrd_t, zgt_n _ (by omega), hT.2.2 p (by omega)]
      by_cases q2 : ch p = 32
      · rw [if_pos q2, if_pos (by rw [q2]; rfl), nI_1]
        exact ih (p + 1) g (t.1, t.2.1, t.2.2.1, nI n, t.2.2.2.2.1, nI (p + 1), t.2.2.2.2.2.2) ⟨rfl, rfl, hT.2.2⟩ (by omega) (by omega) (by omega) |>.trans (by rw [plc, plc, hT.1])
      · rw [if_neg q2, if_neg (by rw [show (32 : Int32) = nI 32 from rfl, neq (by omega) (by omega)]; exact q2), plc_self hT]
theorem p_skip {n : Nat} {ch : Nat → Nat} (hC : CH n ch) {t : TV} {p : Nat} (hT : TS t n ch p) (hp : p ≤ n) : fX4_skipBlanks t = some (plc t (SK ch n p)) := by
  unfold fX4_skipBlanks
  rw [p_skL hC 91 p zF t hT hp (by have := hC.1; omega) (zF_lt (by omega)), bind_s]
  rfl
theorem q_skL {n : Nat} {ch : Nat → Nat} (hC : CH n ch) {mv : MV} (h3 : mv.2.2.2.1 = nI n) (h4 : ∀ j, j < n → mv.2.2.2.2.1 j = nI (ch j)) : ∀ (k p fuel : Nat), p ≤ n → n ≤ p + k → k < fuel → fX7_peek_L0 fuel mv (nI p) = some (nI (skp ch n k p)) := by
  intro k
  induction k with
  | zero =>
    intro p fuel hp hk hf
    obtain ⟨g, rfl⟩ : ∃ g, fuel = g + 1 := ⟨fuel - 1, by omega⟩
    rw [fX7_peek_L0, h3, if_pos (nI_le (by omega) (by have := hC.1; omega)), skp]
  | succ k ih =>
    intro p fuel hp hk hf
    obtain ⟨g, rfl⟩ : ∃ g, fuel = g + 1 := ⟨fuel - 1, by omega⟩
    have h90 := hC.1
    rw [fX7_peek_L0, h3, skp]
    by_cases q : n ≤ p
    · rw [if_pos (nI_le q (by omega)), if_pos q]
    · have hc := hC.2 p (by omega)
      rw [if_neg (nI_ge (by omega) (by omega)), if_neg q, zix_n (by omega) (by omega), zgrd_t, zgt_n _ (by omega), h4 p (by omega)]
      by_cases q2 : ch p = 32
      · rw [if_pos q2, if_pos (by rw [q2]; rfl), nI_1]
        exact ih (p + 1) g (by omega) (by omega) (by omega)
      · rw [if_neg q2, if_neg (by rw [show (32 : Int32) = nI 32 from rfl, neq (by omega) (by omega)]; exact q2)]
/-- the letter at a place, 0 behind the last -/
def lt0 (ch : Nat → Nat) (n p : Nat) : Nat := if p < n then ch p else 0
theorem lt0_le {n : Nat} {ch : Nat → Nat} (hC : CH n ch) (p : Nat) : lt0 ch n p ≤ 126 := by
  unfold lt0
  split
  · exact (hC.2 p (by assumption)).2
  · omega
theorem q_peek {n : Nat} {ch : Nat → Nat} (hC : CH n ch) {mv : MV} {p : Nat} (hM : MS mv n ch p) (hp : p ≤ n) : fX7_peek mv = some (nI (lt0 ch n (SK ch n p)), nI (SK ch n p)) := by
  have hle := SK_le (ch := ch) hp
  have h90 := hC.1
  unfold fX7_peek
  rw [hM.2.1, q_skL hC hM.1 hM.2.2 91 p zF hp (by omega) (zF_lt (by omega)), bind_s, hM.1, show skp ch n 91 p = SK ch n p from rfl]
  unfold lt0
  by_cases q : SK ch n p < n
  · rw [if_neg (nI_ge q (by omega)), if_pos q, zix_n (by omega) (by omega), zgrd_t, zgt_n _ (by omega), hM.2.2 _ q]
  · rw [if_pos (nI_le (by omega) (by omega)), if_neg q]
    rfl
theorem p_take1 {n : Nat} {ch : Nat → Nat} (hC : CH n ch) {t : TV} {p x : Nat} (hT : TS t n ch p) (hp : p ≤ n) (hx : 0 < x) (hx2 : x < 1000) : fX4_takeLetter t (nI x) = some (if lt0 ch n (SK ch n p) = x then (1, plc t (SK ch n p + 1)) else (0, plc t (SK ch n p))) := by
  have hle := SK_le (ch := ch) hp
  have h90 := hC.1
  unfold fX4_takeLetter
  rw [p_skip hC hT hp, bind_s]
  unfold lt0
  show (if t.2.2.2.1 ≤ nI (SK ch n p) then _ else _) = _
  rw [hT.1]
  by_cases q : SK ch n p < n
  · have hc := hC.2 _ q
    rw [if_neg (nI_ge q (by omega)), if_pos q]
    show zgrd (zix (nI (SK ch n p)) 90) (if zgt t.1 (nI (SK ch n p)) = nI x then some (1, t.1, t.2.1, t.2.2.1, t.2.2.2.1, t.2.2.2.2.1, nI (SK ch n p) + 1, t.2.2.2.2.2.2) else some (0, plc t (SK ch n p))) = _
    rw [zix_n (by omega) (by omega), zgrd_t, zgt_n _ (by omega), hT.2.2 _ q, nI_1]
    by_cases q2 : ch (SK ch n p) = x
    · rw [if_pos (congrArg nI q2), if_pos q2]
      rfl
    · rw [if_neg (by rw [neq (by omega) (by omega)]; exact q2), if_neg q2]
  · rw [if_pos (nI_le (by omega) (by omega)), if_neg q, if_neg (by omega)]
theorem q_sign {n : Nat} {ch : Nat → Nat} (hC : CH n ch) {mv : MV} {p x : Nat} (hM : MS mv n ch p) (hp : p ≤ n) (hx2 : x < 1000) : fX7_isSign mv (nI x) = some (if lt0 ch n (SK ch n p) = x then (1, nI (SK ch n p + 1)) else (0, nI (SK ch n p))) := by
  have hl := lt0_le hC (SK ch n p)
  unfold fX7_isSign
  rw [q_peek hC hM hp, bind_s]
  dsimp only
  by_cases q : lt0 ch n (SK ch n p) = x
  · rw [if_pos q, if_pos (congrArg nI q), nI_1]
  · rw [if_neg q, if_neg (by rw [neq (by omega) (by omega)]; exact q)]
abbrev dg (ch : Nat → Nat) (n p : Nat) : Prop := 48 ≤ lt0 ch n p ∧ lt0 ch n p ≤ 57
theorem dg_lt {ch : Nat → Nat} {n p : Nat} (h : dg ch n p) : p < n ∧ lt0 ch n p = ch p := by
  unfold dg lt0 at h
  unfold lt0
  by_cases q : p < n
  · rw [if_pos q]
    exact ⟨q, rfl⟩
  · rw [if_neg q] at h
    omega
theorem dg_SK {ch : Nat → Nat} {n p : Nat} (h : dg ch n p) : SK ch n p = p := by
  have := dg_lt h
  unfold dg at h
  exact SK_id (Or.inr (by omega))
theorem p_here {n : Nat} {ch : Nat → Nat} (hC : CH n ch) {t : TV} {p : Nat} (hT : TS t n ch p) (hp : p ≤ n) : (dg ch n p → fX4_digitStandsHere t = some 1) ∧ (¬ dg ch n p → fX4_digitStandsHere t = some 0) := by
  have h90 := hC.1
  unfold fX4_digitStandsHere
  rw [hT.1, hT.2.1]
  by_cases q : p < n
  · have hc := hC.2 _ q
    rw [if_neg (nI_ge q (by omega)), zix_n (by omega) (by omega), zgrd_t, zgt_n _ (by omega), hT.2.2 _ q]
    unfold dg lt0
    rw [if_pos q]
    refine ⟨fun h => ?_, fun h => ?_⟩
    · rw [if_neg (show ¬ nI (ch p) < (48 : Int32) from nI_nlt (b := 48) (by omega) (by omega)), if_neg (show ¬ (57 : Int32) < nI (ch p) from nI_nlt (a := 57) (by omega) (by omega))]
    · by_cases q2 : ch p < 48
      · rw [if_pos (show nI (ch p) < (48 : Int32) from nI_lt (b := 48) q2 (by omega))]
      · rw [if_neg (show ¬ nI (ch p) < (48 : Int32) from nI_nlt (b := 48) (by omega) (by omega)), if_pos (show (57 : Int32) < nI (ch p) from nI_lt (a := 57) (by omega) (by omega))]
  · rw [if_pos (nI_le (by omega) (by omega))]
    refine ⟨fun h => ?_, fun _ => rfl⟩
    exact absurd (dg_lt h).1 q
theorem p_dig {n : Nat} {ch : Nat → Nat} (hC : CH n ch) {t : TV} {p : Nat} (hT : TS t n ch p) (hp : p ≤ n) : (dg ch n (SK ch n p) → fX4_readDigit t = some (nI (ch (SK ch n p) - 48), plc t (SK ch n p + 1))) ∧ (¬ dg ch n (SK ch n p) → fX4_readDigit t = some (0, flt (plc t (SK ch n p)) (SK ch n p))) := by
  have hle := SK_le (ch := ch) hp
  have h90 := hC.1
  obtain ⟨a1, a2⟩ := p_here hC (hT.plc (SK ch n p)) hle
  unfold fX4_readDigit
  rw [p_skip hC hT hp, bind_s]
  refine ⟨fun h => ?_, fun h => ?_⟩
  · rw [a1 h, bind_s, if10]
    obtain ⟨l1, l2⟩ := dg_lt h
    unfold dg at h
    show zgrd (zix (nI (SK ch n p)) 90) (some (zgt t.1 (nI (SK ch n p)) - 48, t.1, t.2.1, t.2.2.1, t.2.2.2.1, t.2.2.2.2.1, nI (SK ch n p) + 1, t.2.2.2.2.2.2)) = _
    rw [zix_n (by omega) (by omega), zgrd_t, zgt_n _ (by omega), hT.2.2 _ l1, nI_1, show (48 : Int32) = nI 48 from rfl, nsub (by omega)]
    rfl
  · rw [a2 h, bind_s, if00]
    rfl
theorem in_dig {c : Nat} (hc : c ≤ 126) : (48 ≤ c ∧ c ≤ 57 → fX7_in (nI c - 48) 0 9 = some 1) ∧ (¬ (48 ≤ c ∧ c ≤ 57) → fX7_in (nI c - 48) 0 9 = some 0) := by
  have e : (nI c - nI 48).toInt = (c : Int) - 48 := nsub_toInt (by omega) (by omega)
  refine ⟨fun h => in_t ⟨?_, ?_⟩, fun h => in_f (fun k => h ?_)⟩
  · rw [show (48 : Int32) = nI 48 from rfl, nsub (by omega)]
    exact nI_le (a := 0) (by omega) (by omega)
  · rw [show (48 : Int32) = nI 48 from rfl, nsub (by omega)]
    exact nI_le (b := 9) (by omega) (by omega)
  · have k1 := Int32.le_iff_toInt_le.mp k.1
    have k2 := Int32.le_iff_toInt_le.mp k.2
    rw [show (48 : Int32) = nI 48 from rfl, e] at k1 k2
    have z0 : (0 : Int32).toInt = 0 := by decide
    have z9 : (9 : Int32).toInt = 9 := by decide
    omega
theorem q_dig {n : Nat} {ch : Nat → Nat} (hC : CH n ch) {mv : MV} {p : Nat} (hM : MS mv n ch p) (hp : p ≤ n) : (dg ch n (SK ch n p) → fX7_isDigit mv 0 9 = some (1, nI (SK ch n p + 1), nI (ch (SK ch n p) - 48))) ∧ (¬ dg ch n (SK ch n p) → ∃ y, fX7_isDigit mv 0 9 = some (0, nI (SK ch n p), y)) := by
  have hl := lt0_le hC (SK ch n p)
  obtain ⟨a1, a2⟩ := in_dig hl
  unfold fX7_isDigit
  rw [q_peek hC hM hp, bind_s]
  dsimp only
  refine ⟨fun h => ?_, fun h => ?_⟩
  · rw [a1 h, bind_s, if10, nI_1, (dg_lt h).2, show (48 : Int32) = nI 48 from rfl, nsub (by have := (dg_lt h).2; unfold dg at h; omega)]
  · rw [a2 h, bind_s, if00]
    exact ⟨_, rfl⟩
