/-! sums over the coats -/
theorem ds_add (f g : Nat → Nat) : ∀ (m i : Nat), ds (fun j => f j + g j) i m = ds f i m + ds g i m
  | 0, _ => rfl
  | m + 1, i => by
    simp only [ds]
    rw [ds_add f g m (i + 1)]
    omega
theorem p_heavyOf {v : CV} {k t d : Nat → Nat} {n y j : Nat} (hR : RC v k t d n y) (hO : OKc k t d n y) (hj : j < n) : fX0_heavinessOf v (nI j) = some (nI (t j + d j)) := by
  have h1 := hO.1
  unfold fX0_heavinessOf
  rw [zix_n (by omega) (by omega), zgrd_t, zgt_n _ (by omega), zgt_n _ (by omega), (hR.2.2 j hj).2.1, (hR.2.2 j hj).2.2, nI_add]
theorem p_heavyL {v : CV} {k t d : Nat → Nat} {n y : Nat} (hR : RC v k t d n y) (hO : OKc k t d n y) : ∀ (m i fuel acc : Nat), i + m = n → m < fuel → fX0_heaviness_L4 fuel v (nI acc) (nI i) = some (nI (acc + ds (fun j => t j + d j) i m)) := by
  have h1 := hO.1
  intro m
  induction m with
  | zero =>
    intro i fuel acc hi hf
    obtain ⟨f, rfl⟩ : ∃ f, fuel = f + 1 := ⟨fuel - 1, by omega⟩
    rw [fX0_heaviness_L4, hR.1, if_pos (nI_le (by omega) (by omega))]
    rfl
  | succ m ih =>
    intro i fuel acc hi hf
    obtain ⟨f, rfl⟩ : ∃ f, fuel = f + 1 := ⟨fuel - 1, by omega⟩
    rw [fX0_heaviness_L4, hR.1, if_neg (nI_ge (by omega) (by omega)), p_heavyOf hR hO (by omega), bind_s, nI_add, nI_1, ih (i + 1) f _ (by omega) (by omega)]
    simp only [ds, Nat.add_assoc]
theorem p_heavy {v : CV} {k t d : Nat → Nat} {n y : Nat} (hR : RC v k t d n y) (hO : OKc k t d n y) : fX0_heaviness v = some (nI (ds (fun j => t j + d j) 0 n)) := by
  have h1 := hO.1
  unfold fX0_heaviness
  have := p_heavyL hR hO n 0 zF 0 (Nat.zero_add n) (zF_lt (by omega))
  rw [show (0 : Int32) = nI 0 from rfl, this, bind_s, Nat.zero_add]
theorem p_thickL {v : CV} {k t d : Nat → Nat} {n y : Nat} (hR : RC v k t d n y) (hO : OKc k t d n y) : ∀ (m i fuel acc : Nat), i + m = n → m < fuel → fX0_thickness_L4 fuel v (nI acc) (nI i) = some (nI (acc + ds t i m)) := by
  have h1 := hO.1
  intro m
  induction m with
  | zero =>
    intro i fuel acc hi hf
    obtain ⟨f, rfl⟩ : ∃ f, fuel = f + 1 := ⟨fuel - 1, by omega⟩
    rw [fX0_thickness_L4, hR.1, if_pos (nI_le (by omega) (by omega))]
    rfl
  | succ m ih =>
    intro i fuel acc hi hf
    obtain ⟨f, rfl⟩ : ∃ f, fuel = f + 1 := ⟨fuel - 1, by omega⟩
    rw [fX0_thickness_L4, hR.1, if_neg (nI_ge (by omega) (by omega)), zix_n (by omega) (by omega), zgrd_t, zgt_n _ (by omega), (hR.2.2 i (by omega)).2.1, nI_add, nI_1, ih (i + 1) f _ (by omega) (by omega)]
    simp only [ds, Nat.add_assoc]
theorem p_thick {v : CV} {k t d : Nat → Nat} {n y : Nat} (hR : RC v k t d n y) (hO : OKc k t d n y) : fX0_thickness v = some (nI (ds t 0 n)) := by
  have h1 := hO.1
  unfold fX0_thickness
  have := p_thickL hR hO n 0 zF 0 (Nat.zero_add n) (zF_lt (by omega))
  rw [show (0 : Int32) = nI 0 from rfl, this, bind_s, Nat.zero_add]
theorem q_sumL {s : zAI} {n b : Nat} {f0 : Nat → Nat} (hn : s 3 = nI n) (h10 : n ≤ 10) (hb : b ≤ 300) (hs : ∀ j, j < n → s (b + j) = nI (f0 j)) : ∀ (m i fuel acc : Nat), i + m = n → m < fuel → fX7_sumOf_L4 fuel s (nI b) (nI acc) (nI i) = some (nI (acc + ds f0 i m)) := by
  intro m
  induction m with
  | zero =>
    intro i fuel acc hi hf
    obtain ⟨f, rfl⟩ : ∃ f, fuel = f + 1 := ⟨fuel - 1, by omega⟩
    rw [fX7_sumOf_L4, show zgt s 3 = s 3 from rfl, hn, if_pos (nI_le (by omega) (by omega))]
    rfl
  | succ m ih =>
    intro i fuel acc hi hf
    obtain ⟨f, rfl⟩ : ∃ f, fuel = f + 1 := ⟨fuel - 1, by omega⟩
    rw [fX7_sumOf_L4, show zgt s 3 = s 3 from rfl, hn, if_neg (nI_ge (by omega) (by omega)), nI_add, zix_n (by omega) (by omega), zgrd_t, zgt_n _ (by omega), hs i (by omega), nI_add, nI_1, ih (i + 1) f _ (by omega) (by omega)]
    simp only [ds, Nat.add_assoc]
theorem q_sum {s : zAI} {n b : Nat} {f0 : Nat → Nat} (hn : s 3 = nI n) (h10 : n ≤ 10) (hb : b ≤ 300) (hs : ∀ j, j < n → s (b + j) = nI (f0 j)) : fX7_sumOf s (nI b) = some (nI (ds f0 0 n)) := by
  unfold fX7_sumOf
  have := q_sumL hn h10 hb hs n 0 zF 0 (Nat.zero_add n) (zF_lt (by omega))
  rw [show (0 : Int32) = nI 0 from rfl, this, bind_s, Nat.zero_add]
theorem q_thick {s : zAI} {k t d : Nat → Nat} {n y : Nat} (hR : RS s k t d n y) (hO : OKc k t d n y) : fX7_sumOf s 14 = some (nI (ds t 0 n)) := q_sum (b := 14) hR.1 hO.1 (by omega) (fun j hj => (hR.2.2 j hj).2.1)
theorem q_heavy {s : zAI} {k t d : Nat → Nat} {n y : Nat} (hR : RS s k t d n y) (hO : OKc k t d n y) : fX7_heavy s = some (nI (ds (fun j => t j + d j) 0 n)) := by
  unfold fX7_heavy
  have h2 : fX7_sumOf s 24 = some (nI (ds d 0 n)) := q_sum (b := 24) hR.1 hO.1 (by omega) (fun j hj => (hR.2.2 j hj).2.2)
  rw [q_thick hR hO, bind_s, h2, bind_s, nI_add, ds_add]
theorem p_aboveL {v : CV} {k t d : Nat → Nat} {n y : Nat} (hR : RC v k t d n y) (hO : OKc k t d n y) : ∀ (m i fuel acc : Nat), i + m = n → m < fuel → fX0_mostTakenAbove_L6 fuel v (nI acc) (nI i) = some (nI (acc + ds (cap k t d y) i m)) := by
  obtain ⟨h1, h2, h3⟩ := hO
  intro m
  induction m with
  | zero =>
    intro i fuel acc hi hf
    obtain ⟨f, rfl⟩ : ∃ f, fuel = f + 1 := ⟨fuel - 1, by omega⟩
    rw [fX0_mostTakenAbove_L6, hR.1, if_pos (nI_le (by omega) (by omega))]
    rfl
  | succ m ih =>
    intro i fuel acc hi hf
    obtain ⟨f, rfl⟩ : ∃ f, fuel = f + 1 := ⟨fuel - 1, by omega⟩
    obtain ⟨b1, b2, b3, b4⟩ := h3 i (by omega)
    obtain ⟨c1, c2, c3⟩ := hR.2.2 i (by omega)
    have hm : fX0_mostTaken v (nI i) = some (nI (cap k t d y i)) := p_most (by omega) c1 c2 c3 hR.2.1 b1 b3 b4 h2
    rw [fX0_mostTakenAbove_L6, hR.1, if_neg (nI_ge (by omega) (by omega)), hm, bind_s, nI_add, nI_1, ih (i + 1) f _ (by omega) (by omega)]
    simp only [ds, Nat.add_assoc]
theorem q_aboveL {mv : MV} {k t d : Nat → Nat} {n y : Nat} (hR : RS mv.2.2.2.2.2.2.2.1 k t d n y) (hO : OKc k t d n y) : ∀ (m i fuel acc : Nat), i + m = n → m < fuel → fX7_above_L6 fuel mv (nI acc) (nI i) = some (nI (acc + ds (cap k t d y) i m)) := by
  obtain ⟨h1, h2, h3⟩ := hO
  intro m
  induction m with
  | zero =>
    intro i fuel acc hi hf
    obtain ⟨f, rfl⟩ : ∃ f, fuel = f + 1 := ⟨fuel - 1, by omega⟩
    rw [fX7_above_L6, show zgt mv.2.2.2.2.2.2.2.1 3 = mv.2.2.2.2.2.2.2.1 3 from rfl, hR.1, if_pos (nI_le (by omega) (by omega))]
    rfl
  | succ m ih =>
    intro i fuel acc hi hf
    obtain ⟨f, rfl⟩ : ∃ f, fuel = f + 1 := ⟨fuel - 1, by omega⟩
    obtain ⟨b1, b2, b3, b4⟩ := h3 i (by omega)
    obtain ⟨c1, c2, c3⟩ := hR.2.2 i (by omega)
    have hm : fX7_capOf mv.2.2.2.2.2.2.2.1 (nI i) = some (nI (cap k t d y i)) := q_cap (by omega) c1 c2 c3 hR.2.1 b1 b3 b4 h2
    rw [fX7_above_L6, show zgt mv.2.2.2.2.2.2.2.1 3 = mv.2.2.2.2.2.2.2.1 3 from rfl, hR.1, if_neg (nI_ge (by omega) (by omega)), hm, bind_s, nI_add, nI_1, ih (i + 1) f _ (by omega) (by omega)]
    simp only [ds, Nat.add_assoc]
/-- a coat of that number: class and reference look the same way -/
theorem coat_cases {v : CV} {mv : MV} {n : Nat} (hv : v.2.2.2.2.1 = nI n) (hm : mv.2.2.2.2.2.2.2.1 3 = nI n) (hn : n ≤ 10) (x : Int32) : (∃ j, j < n ∧ x = nI j ∧ fX0_has v x = some 1 ∧ fX7_isCoat mv x = some 1) ∨ (fX0_has v x = some 0 ∧ fX7_isCoat mv x = some 0) := by
  unfold fX0_has fX7_isCoat
  rw [hv, show zgt mv.2.2.2.2.2.2.2.1 3 = mv.2.2.2.2.2.2.2.1 3 from rfl, hm]
  rcases pk_ix x (n := n) (by omega) with h | h | ⟨j, hj, rfl⟩
  · refine Or.inr ⟨by rw [if_pos h], ?_⟩
    rw [in_f (fun q => i_lt_nle h q.1), bind_s]
    rfl
  · have h0 : ¬ x < 0 := by
      have := Int32.le_iff_toInt_le.mp h
      rw [nI_toInt (by omega)] at this
      rw [Int32.lt_iff_toInt_lt]
      simp
      omega
    refine Or.inr ⟨by rw [if_neg h0, if_pos h], ?_⟩
    rw [in_f (fun q => ?_), bind_s]
    · rfl
    · have e1 := Int32.le_iff_toInt_le.mp q.2
      have e2 := Int32.le_iff_toInt_le.mp h
      rw [show (1 : Int32) = nI 1 from rfl, nsub_toInt (by omega) (by omega)] at e1
      rw [nI_toInt (by omega)] at e2
      omega
  · refine Or.inl ⟨j, hj, rfl, by rw [if_neg (nI_pos (by omega)), if_neg (nI_ge hj (by omega))], ?_⟩
    rw [in_t ⟨nI_pos' (by omega), ?_⟩, bind_s]
    · rfl
    · rw [show (1 : Int32) = nI 1 from rfl, nsub (by omega)]
      exact nI_le (by omega) (by omega)
