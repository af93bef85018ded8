/-! numbers and kinds on the tape -/
theorem rng_i {v a b : Nat} (hv : v < 2147483648) (ha : a < 2147483648) (hb : b < 2147483648) : rng (nI v) (nI a) (nI b) = (a ≤ v ∧ v ≤ b) := by
  unfold rng
  rw [nle ha hv, nle hv hb]
theorem in_i {v a b : Nat} (hv : v < 2147483648) (ha : a < 2147483648) (hb : b < 2147483648) : fX7_in (nI v) (nI a) (nI b) = some (if a ≤ v ∧ v ≤ b then 1 else 0) := by
  by_cases q : a ≤ v ∧ v ≤ b
  · rw [if_pos q, in_t (by rw [rng_i hv ha hb]; exact q)]
  · rw [if_neg q, in_f (by rw [rng_i hv ha hb]; exact q)]
theorem out_i {v a b : Nat} (hv : v < 2147483648) (ha : a < 2147483648) (hb : b < 2147483648) : fX6_outside (nI v) (nI a) (nI b) = some (if a ≤ v ∧ v ≤ b then 0 else 1) := by
  by_cases q : a ≤ v ∧ v ≤ b
  · rw [if_pos q, out_t (by rw [rng_i hv ha hb]; exact q)]
  · rw [if_neg q, out_f (by rw [rng_i hv ha hb]; exact q)]
theorem neg1 : ¬ (0 : Int32) ≤ -1 := by decide
theorem nneg (q : Nat) (h : q < 2147483648) : (0 : Int32) ≤ nI q := nI_le (a := 0) (by omega) (by omega)
/-- the number at a place, as the class reads it -/
theorem p_num {n : Nat} {ch : Nat → Nat} (hC : CH n ch) {t : TV} {p lo hi : Nat} (hT : TS t n ch p) (hp : p ≤ n) (hf : t.2.2.2.2.2.2 = -1) (hlo : lo ≤ 1000) (hhi : hi ≤ 1000) : fX4_readNumber t (nI lo) (nI hi) = some (if ¬ dg ch n (SK ch n p) then (0, flt (plc t (SK ch n p)) (SK ch n p)) else if ¬ dg ch n (SK ch n p + 1) then (nI (ch (SK ch n p) - 48), if lo ≤ ch (SK ch n p) - 48 ∧ ch (SK ch n p) - 48 ≤ hi then plc t (SK ch n p + 1) else flt (plc t (SK ch n p + 1)) (SK ch n p)) else (nI (10 * (ch (SK ch n p) - 48) + (ch (SK ch n p + 1) - 48)), if lo ≤ 10 * (ch (SK ch n p) - 48) + (ch (SK ch n p + 1) - 48) ∧ 10 * (ch (SK ch n p) - 48) + (ch (SK ch n p + 1) - 48) ≤ hi then plc t (SK ch n p + 2) else flt (plc t (SK ch n p + 2)) (SK ch n p))) := by
  have hle := SK_le (ch := ch) hp
  have h90 := hC.1
  obtain ⟨a1, a2⟩ := p_dig hC (hT.plc (SK ch n p)) hle
  rw [SK_SK h90] at a1 a2
  unfold fX4_readNumber
  rw [p_skip hC hT hp, bind_s]
  by_cases q : dg ch n (SK ch n p)
  rotate_left
  · rw [if_pos q, a2 q, bind_s]
    show (if (0 : Int32) ≤ nI (SK ch n p) then (if (0 : Int32) ≤ nI (SK ch n p) then _ else _) else _) = _
    rw [if_pos (nneg _ (by omega)), if_pos (nneg _ (by omega))]
    rfl
  have b1 := dg_lt q
  have b2 := id q
  unfold dg at b2
  obtain ⟨c1, c2⟩ := p_here hC (t := plc (plc t (SK ch n p)) (SK ch n p + 1)) (p := SK ch n p + 1) ((hT.plc _).plc _) (by omega)
  rw [if_neg (show ¬ ¬ dg ch n (SK ch n p) from fun h => h q), a1 q, bind_s]
  show (if (0 : Int32) ≤ t.2.2.2.2.2.2 then _ else ((fX4_digitStandsHere (plc (plc t (SK ch n p)) (SK ch n p + 1))).bind fun u7 => if u7 = 0 then (if (0 : Int32) ≤ t.2.2.2.2.2.2 then some (nI (ch (SK ch n p) - 48), plc t (SK ch n p + 1)) else _) else _)) = _
  rw [hf, if_neg neg1]
  by_cases q2 : dg ch n (SK ch n p + 1)
  · obtain ⟨d1, d2⟩ := p_dig hC (t := plc (plc t (SK ch n p)) (SK ch n p + 1)) (p := SK ch n p + 1) ((hT.plc _).plc _) (by omega)
    have e1 := dg_lt q2
    have e2 := id q2
    unfold dg at e2
    rw [dg_SK q2] at d1
    rw [if_neg (show ¬ ¬ dg ch n (SK ch n p + 1) from fun h => h q2), c1 q2, bind_s, if10, d1 q2, bind_s]
    show (if (0 : Int32) ≤ t.2.2.2.2.2.2 then _ else ((fX6_outside (10 * nI (ch (SK ch n p) - 48) + nI (ch (SK ch n p + 1) - 48)) (nI lo) (nI hi)).bind fun u14 => if u14 = 0 then some (10 * nI (ch (SK ch n p) - 48) + nI (ch (SK ch n p + 1) - 48), plc t (SK ch n p + 1 + 1)) else some (10 * nI (ch (SK ch n p) - 48) + nI (ch (SK ch n p + 1) - 48), flt (plc t (SK ch n p + 1 + 1)) (SK ch n p)))) = _
    rw [hf, if_neg neg1, show (10 : Int32) = nI 10 from rfl, pk_mul, nI_add, out_i (by omega) (by omega) (by omega), bind_s]
    by_cases q3 : lo ≤ 10 * (ch (SK ch n p) - 48) + (ch (SK ch n p + 1) - 48) ∧ 10 * (ch (SK ch n p) - 48) + (ch (SK ch n p + 1) - 48) ≤ hi
    · rw [if_pos q3, if_pos q3, if00]
    · rw [if_neg q3, if_neg q3, if10]
  · rw [if_pos q2, c2 q2, bind_s, if00]
    show ((fX6_outside (nI (ch (SK ch n p) - 48)) (nI lo) (nI hi)).bind fun u14 => if u14 = 0 then some (nI (ch (SK ch n p) - 48), plc t (SK ch n p + 1)) else some (nI (ch (SK ch n p) - 48), flt (plc t (SK ch n p + 1)) (SK ch n p))) = _
    rw [out_i (by omega) (by omega) (by omega), bind_s]
    by_cases q3 : lo ≤ ch (SK ch n p) - 48 ∧ ch (SK ch n p) - 48 ≤ hi
    · rw [if_pos q3, if_pos q3, if00]
    · rw [if_neg q3, if_neg q3, if10]
theorem in_ch {n : Nat} {ch : Nat → Nat} (hC : CH n ch) {mv : MV} {p q : Nat} (hM : MS mv n ch p) (hq : q < n) : fX7_in (zgt mv.2.2.2.2.1 (nI q)) 48 57 = some (if dg ch n q then 1 else 0) := by
  have h90 := hC.1
  have hc := hC.2 q hq
  rw [zgt_n _ (by omega), hM.2.2 q hq, show (48 : Int32) = nI 48 from rfl, show (57 : Int32) = nI 57 from rfl, in_i (by omega) (by omega) (by omega)]
  unfold dg lt0
  rw [if_pos hq]
theorem q_num {n : Nat} {ch : Nat → Nat} (hC : CH n ch) {mv : MV} {p lo hi : Nat} (hM : MS mv n ch p) (hp : p ≤ n) (hlo : lo ≤ 1000) (hhi : hi ≤ 1000) : ∃ y, fX7_isNumber mv (nI lo) (nI hi) = some (if ¬ dg ch n (SK ch n p) then (0, nI (SK ch n p), y) else if ¬ dg ch n (SK ch n p + 1) then (if lo ≤ ch (SK ch n p) - 48 ∧ ch (SK ch n p) - 48 ≤ hi then (1, nI (SK ch n p + 1), nI (ch (SK ch n p) - 48)) else (0, nI (SK ch n p), nI (ch (SK ch n p) - 48))) else if lo ≤ 10 * (ch (SK ch n p) - 48) + (ch (SK ch n p + 1) - 48) ∧ 10 * (ch (SK ch n p) - 48) + (ch (SK ch n p + 1) - 48) ≤ hi then (if dg ch n (SK ch n p + 2) then 0 else 1, nI (SK ch n p + 2), nI (10 * (ch (SK ch n p) - 48) + (ch (SK ch n p + 1) - 48))) else (0, nI (SK ch n p), nI (10 * (ch (SK ch n p) - 48) + (ch (SK ch n p + 1) - 48)))) := by
  have hle := SK_le (ch := ch) hp
  have h90 := hC.1
  obtain ⟨a1, a2⟩ := q_dig hC hM hp
  unfold fX7_isNumber
  by_cases q : dg ch n (SK ch n p)
  rotate_left
  · obtain ⟨y, hy⟩ := a2 q
    refine ⟨y, ?_⟩
    rw [if_pos q, hy, bind_s, if00]
  refine ⟨0, ?_⟩
  have b1 := dg_lt q
  have b2 := id q
  unfold dg at b2
  rw [if_neg (show ¬ ¬ dg ch n (SK ch n p) from fun h => h q), a1 q, bind_s]
  dsimp only
  rw [if10, hM.1, in_i (by omega) (by omega) (by omega), bind_s, bind_s]
  have hm1 : nI (SK ch n p + 1) - 1 = nI (SK ch n p) := nsub (b := 1) (by omega)
  rw [hm1]
  by_cases q2 : dg ch n (SK ch n p + 1)
  · have e1 := dg_lt q2
    have e2 := id q2
    unfold dg at e2
    rw [if_neg (show ¬ ¬ dg ch n (SK ch n p + 1) from fun h => h q2), if_neg (nI_ge (by omega) (by omega)), zix_n (by omega) (by omega), zgrd_t, in_ch hC hM e1.1, bind_s, if_pos q2, if10, zgt_n _ (by omega), hM.2.2 _ e1.1, show (10 : Int32) = nI 10 from rfl, pk_mul, nI_add, show (48 : Int32) = nI 48 from rfl, nsub (by omega), show 10 * (ch (SK ch n p) - 48) + ch (SK ch n p + 1) - 48 = 10 * (ch (SK ch n p) - 48) + (ch (SK ch n p + 1) - 48) by omega, in_i (by omega) (by omega) (by omega), bind_s]
    by_cases q3 : lo ≤ 10 * (ch (SK ch n p) - 48) + (ch (SK ch n p + 1) - 48) ∧ 10 * (ch (SK ch n p) - 48) + (ch (SK ch n p + 1) - 48) ≤ hi
    · rw [if_pos q3, if_pos q3, if10, nI_1]
      by_cases q4 : SK ch n p + 1 + 1 = n
      · rw [if_pos (congrArg nI q4), if_neg (show ¬ dg ch n (SK ch n p + 2) from fun h => by have := (dg_lt h).1; omega)]
      · rw [if_neg (by rw [neq (by omega) (by omega)]; exact q4), zix_n (by omega) (by omega), zgrd_t, show nI 48 = (48 : Int32) from rfl, in_ch hC hM (show SK ch n p + 1 + 1 < n by omega), bind_s]
        by_cases q5 : dg ch n (SK ch n p + 2)
        · rw [if_pos q5, if_pos (show dg ch n (SK ch n p + 1 + 1) from q5), if10]
        · rw [if_neg q5, if_neg (show ¬ dg ch n (SK ch n p + 1 + 1) from q5), if00]
    · rw [if_neg q3, if_neg q3, if00]
  · rw [if_pos q2]
    by_cases q6 : n ≤ SK ch n p + 1
    · rw [if_pos (nI_le q6 (by omega))]
      by_cases q3 : lo ≤ ch (SK ch n p) - 48 ∧ ch (SK ch n p) - 48 ≤ hi
      · rw [if_pos q3, if_pos q3, if10, if_pos (congrArg nI (show SK ch n p + 1 = n by omega))]
      · rw [if_neg q3, if_neg q3, if00]
    · rw [if_neg (nI_ge (by omega) (by omega)), zix_n (by omega) (by omega), zgrd_t, in_ch hC hM (show SK ch n p + 1 < n by omega), bind_s, bind_s, if_neg q2, if00]
      by_cases q3 : lo ≤ ch (SK ch n p) - 48 ∧ ch (SK ch n p) - 48 ≤ hi
      · rw [if_pos q3, if_pos q3, if10, if_neg (by rw [neq (by omega) (by omega)]; omega), if00]
      · rw [if_neg q3, if_neg q3, if00]
