/-! what is brought from row to row -/
theorem cpy_s {α : Type} {f g : Nat → α} {i j m : Nat} : ∀ q, va_cpy f g i j (m + 1) q = if q = j + m then f (i + m) else va_cpy f g i j m q := by
  intro q
  unfold va_cpy
  by_cases h : q = j + m
  · subst h
    rw [if_pos (by omega), if_pos rfl]
    congr 1
    omega
  · rw [if_neg h]
    by_cases h2 : j ≤ q ∧ q < j + m
    · rw [if_pos (by omega), if_pos h2]
    · rw [if_neg (by omega), if_neg h2]
theorem cpy_0 {α : Type} {f g : Nat → α} {i j : Nat} : va_cpy f g i j 0 = g := by
  funext q
  unfold va_cpy
  rw [if_neg (by omega)]
theorem cpy_up {f g : zAI} {i j m : Nat} : upd (va_cpy f g i j m) (j + m) (f (i + m)) = va_cpy f g i j (m + 1) := by
  funext q
  rw [cpy_s q]
  rfl
theorem q_bringL {s t : zAI} {i j n : Nat} (h1 : i + n ≤ 407) (h2 : j + n ≤ 407) : ∀ (m a fuel : Nat), a + m = n → m < fuel → fX7_bring_L3 fuel s (va_cpy s t i j a) (nI i) (nI j) (nI n) (nI a) = some (va_cpy s t i j n) := by
  intro m
  induction m with
  | zero =>
    intro a fuel ha hf
    obtain ⟨f, rfl⟩ : ∃ f, fuel = f + 1 := ⟨fuel - 1, by omega⟩
    rw [fX7_bring_L3, if_pos (nI_le (by omega) (by omega)), show a = n by omega]
  | succ m ih =>
    intro a fuel ha hf
    obtain ⟨f, rfl⟩ : ∃ f, fuel = f + 1 := ⟨fuel - 1, by omega⟩
    rw [fX7_bring_L3, if_neg (nI_ge (by omega) (by omega))]
    simp (disch := omega) only [nI_add, zix_n, zgrd_t, zgt_n, zpt_n, nI_1]
    rw [cpy_up]
    exact ih (a + 1) f (by omega) (by omega)
theorem q_bring (s t : zAI) {i j n : Nat} (h1 : i + n ≤ 407) (h2 : j + n ≤ 407) : fX7_bring s t (nI i) (nI j) (nI n) = some (va_cpy s t i j n) := by
  unfold fX7_bring
  have := q_bringL (s := s) (t := t) h1 h2 n 0 zF (Nat.zero_add n) (zF_lt (by omega))
  rw [cpy_0] at this
  rw [show (0 : Int32) = nI 0 from rfl, this, bind_s]
theorem q_bring10L {s t : zAI} {i j n : Nat} (h1 : i + n ≤ 10) (h2 : j + n ≤ 10) : ∀ (m a fuel : Nat), a + m = n → m < fuel → fX7_bring10_L3 fuel s (va_cpy s t i j a) (nI i) (nI j) (nI n) (nI a) = some (va_cpy s t i j n) := by
  intro m
  induction m with
  | zero =>
    intro a fuel ha hf
    obtain ⟨f, rfl⟩ : ∃ f, fuel = f + 1 := ⟨fuel - 1, by omega⟩
    rw [fX7_bring10_L3, if_pos (nI_le (by omega) (by omega)), show a = n by omega]
  | succ m ih =>
    intro a fuel ha hf
    obtain ⟨f, rfl⟩ : ∃ f, fuel = f + 1 := ⟨fuel - 1, by omega⟩
    rw [fX7_bring10_L3, if_neg (nI_ge (by omega) (by omega))]
    simp (disch := omega) only [nI_add, zix_n, zgrd_t, zgt_n, zpt_n, nI_1]
    rw [cpy_up]
    exact ih (a + 1) f (by omega) (by omega)
theorem q_bring10 (s t : zAI) {i j n : Nat} (h1 : i + n ≤ 10) (h2 : j + n ≤ 10) : fX7_bring10 s t (nI i) (nI j) (nI n) = some (va_cpy s t i j n) := by
  unfold fX7_bring10
  have := q_bring10L (s := s) (t := t) h1 h2 n 0 zF (Nat.zero_add n) (zF_lt (by omega))
  rw [cpy_0] at this
  rw [show (0 : Int32) = nI 0 from rfl, this, bind_s]
theorem q_bringSL {s : zAI} {i j n : Nat} (h1 : i + n ≤ 407) (h2 : j + n ≤ 407) (h3 : j ≤ i ∨ i + n ≤ j) : ∀ (m a fuel : Nat), a + m = n → m < fuel → fX7_bringS_L3 fuel (va_cpy s s i j a) (nI i) (nI j) (nI n) (nI a) = some (va_cpy s s i j n) := by
  intro m
  induction m with
  | zero =>
    intro a fuel ha hf
    obtain ⟨f, rfl⟩ : ∃ f, fuel = f + 1 := ⟨fuel - 1, by omega⟩
    rw [fX7_bringS_L3, if_pos (nI_le (by omega) (by omega)), show a = n by omega]
  | succ m ih =>
    intro a fuel ha hf
    obtain ⟨f, rfl⟩ : ∃ f, fuel = f + 1 := ⟨fuel - 1, by omega⟩
    have e : va_cpy s s i j a (i + a) = s (i + a) := by
      unfold va_cpy
      rw [if_neg (by omega)]
    rw [fX7_bringS_L3, if_neg (nI_ge (by omega) (by omega))]
    simp (disch := omega) only [nI_add, zix_n, zgrd_t, zgt_n, zpt_n, nI_1, e]
    rw [cpy_up]
    exact ih (a + 1) f (by omega) (by omega)
theorem q_bringS (s : zAI) {i j n : Nat} (h1 : i + n ≤ 407) (h2 : j + n ≤ 407) (h3 : j ≤ i ∨ i + n ≤ j) : fX7_bringS s (nI i) (nI j) (nI n) = some (va_cpy s s i j n) := by
  unfold fX7_bringS
  have := q_bringSL (s := s) h1 h2 h3 n 0 zF (Nat.zero_add n) (zF_lt (by omega))
  rw [cpy_0] at this
  rw [show (0 : Int32) = nI 0 from rfl, this, bind_s]
theorem cpy_in {α : Type} {f g : Nat → α} {i j n q : Nat} (h1 : j ≤ q) (h2 : q < j + n) : va_cpy f g i j n q = f (i + (q - j)) := by unfold va_cpy; rw [if_pos ⟨h1, h2⟩]
theorem cpy_out {α : Type} {f g : Nat → α} {i j n q : Nat} (h : q < j ∨ j + n ≤ q) : va_cpy f g i j n q = g q := by unfold va_cpy; rw [if_neg (by omega)]
/-! the house: class and reference hold the same -/
def CR (v : CV) (s : zAI) : Prop := ∃ c : Tm, Sm v s c ∧ c.2.2.2.2 ≤ 9999 ∧ v.2.2.2.2.2.2.2 = s 1 ∧ (∃ q, q < 2147483648 ∧ s 1 = nI q) ∧ ∀ j, j < c.2.2.2.1 → v.2.2.2.1 j = s (34 + j)
def sameC (v w : CV) : Prop := (∀ j, j < 10 → v.1 j = w.1 j ∧ v.2.1 j = w.2.1 j ∧ v.2.2.1 j = w.2.2.1 j ∧ v.2.2.2.1 j = w.2.2.2.1 j) ∧ v.2.2.2.2 = w.2.2.2.2
theorem Sm.congr {v w : CV} {s s' : zAI} {c : Tm} (h : Sm w s c) (hv : sameC v w) (hs : ∀ q, q < 34 → s' q = s q) : Sm v s' c := by
  obtain ⟨h1, h2, h3, h4⟩ := h
  have hn := h3.1
  refine ⟨⟨?_, ?_, fun j hj => ?_⟩, ⟨?_, ?_, fun j hj => ?_⟩, h3, ?_⟩
  · rw [hv.2]; exact h1.1
  · rw [hv.2]; exact h1.2.1
  · obtain ⟨a, b, e, -⟩ := hv.1 j (by omega)
    rw [a, b, e]
    exact h1.2.2 j hj
  · rw [hs 3 (by omega)]; exact h2.1
  · rw [hs 0 (by omega)]; exact h2.2.1
  · rw [hs _ (by omega), hs _ (by omega), hs _ (by omega)]
    exact h2.2.2 j hj
  · rw [hv.2, hs 2 (by omega)]; exact h4
theorem sameC.rf (v : CV) : sameC v v := ⟨fun _ _ => ⟨rfl, rfl, rfl, rfl⟩, rfl⟩
theorem CR.congr {v w : CV} {s s' : zAI} (h : CR w s) (hv : sameC v w) (hs : ∀ q, q < 44 → s' q = s q) : CR v s' := by
  obtain ⟨c, h1, h2, h3, h4, h5⟩ := h
  have hn := h1.2.2.1.1
  refine ⟨c, h1.congr hv (fun q hq => hs q (by omega)), h2, by rw [hv.2, hs 1 (by omega)]; exact h3, by rw [hs 1 (by omega)]; exact h4, fun j hj => ?_⟩
  rw [(hv.1 j (by omega)).2.2.2, hs _ (by omega)]
  exact h5 j hj
theorem p_become (v w : CV) : ∃ v', fX0_become v w = some v' ∧ sameC v' w := by
  refine ⟨_, rfl, fun j hj => ⟨?_, ?_, ?_, ?_⟩, rfl⟩
  all_goals
    show va_cpy _ _ 0 0 10 j = _
    rw [cpy_in (by omega) (by omega), show 0 + (j - 0) = j by omega]
def RH (h : HV) (s : zAI) : Prop := CR h.2.2.1 s ∧ (∃ r m, RW h.2.1 s r m) ∧ h.1 = s 44 ∧ (∃ w, 1 ≤ w ∧ w ≤ 200 ∧ s 44 = nI w) ∧ ∃ kn p, kn ≤ 8 ∧ p < 8 ∧ h.2.2.2.2.1 = nI kn ∧ s 54 = nI kn ∧ h.2.2.2.2.2 = nI p ∧ ∀ i, i < kn → CR (h.2.2.2.1 ((p + 8 - kn + i) % 8)) (fun q => s (55 + 44 * i + q))
theorem RH.coats {h : HV} {s s' : zAI} {v : CV} (hR : RH h s) (hc : CR v s') (he : ∀ q, 44 ≤ q → q < 407 → s' q = s q) : RH (h.1, h.2.1, v, h.2.2.2) s' := by
  obtain ⟨h1, ⟨r, m, h2⟩, h3, h4, kn, p, h5, h6, h7, h8, h9, h10⟩ := hR
  refine ⟨hc, ⟨r, m, h2.keep (fun q a b => he q (by omega) (by omega))⟩, by rw [he 44 (by omega) (by omega)]; exact h3, by rw [he 44 (by omega) (by omega)]; exact h4, kn, p, h5, h6, h7, by rw [he 54 (by omega) (by omega)]; exact h8, h9, fun i hi => ?_⟩
  exact (h10 i hi).congr (sameC.rf _) (fun q hq => he _ (by omega) (by omega))
theorem RH.to {h : HV} {s s' : zAI} (hR : RH h s) (he : ∀ q, q < 407 → s' q = s q) : RH h s' := hR.coats (hR.1.congr (sameC.rf _) (fun q hq => he q (by omega))) (fun q _ hq => he q hq)
/-- what may be undone is noted -/
theorem note_ok {h : HV} {mv : MV} (hR : RH h mv.2.2.2.2.2.2.2.1) : ∃ h' s', fX1_remember h = some h' ∧ fX7_note mv = some s' ∧ RH h' s' ∧ h'.1 = h.1 ∧ h'.2.1 = h.2.1 ∧ h'.2.2.1 = h.2.2.1 ∧ ∀ q, q < 54 → s' q = mv.2.2.2.2.2.2.2.1 q := by
  unfold fX7_note fX1_remember
  generalize mv.2.2.2.2.2.2.2.1 = s at hR ⊢
  obtain ⟨h1, ⟨r, m, h2⟩, h3, h4, kn, p, h5, h6, h7, h8, h9, h10⟩ := hR
  obtain ⟨v', e1, e2⟩ := p_become (h.2.2.2.1 p) h.2.2.1
  rw [h9, zix_n (by omega) (by omega), zgrd_t, nI_clamp (by omega), e1, bind_s, h7]
  have hp' : nI p + 1 - (nI p + 1) / 8 * 8 = nI ((p + 1) % 8) := by
    rw [nI_1, show (8 : Int32) = nI 8 from rfl, nrem (by omega) (by omega) (by omega)]
  have hk' : (if nI kn + 1 < (8 : Int32) then nI kn + 1 else 8) = nI (min 8 (kn + 1)) := by
    rw [nI_1, show (8 : Int32) = nI 8 from rfl]
    by_cases q : kn + 1 < 8
    · rw [if_pos (nI_lt q (by omega)), Nat.min_eq_right (by omega)]
    · rw [if_neg (nI_nlt (by omega) (by omega)), Nat.min_eq_left (by omega)]
  rw [hp', hk', show zgt s 54 = s 54 from rfl, h8]
  by_cases q8 : kn = 8
  · subst q8
    rw [if_pos (show nI 8 = (8 : Int32) from rfl), show (99 : Int32) = nI 99 from rfl, show (55 : Int32) = nI 55 from rfl, show (308 : Int32) = nI 308 from rfl, q_bringS s (by omega) (by omega) (by omega), bind_s]
    have f1 : va_cpy s s 99 55 308 54 = nI 8 := by rw [cpy_out (by omega)]; exact h8
    simp (disch := omega) only [zlit, zgt_n, zpt_n, upd_s, f1, nsub, pk_mul, nI_add]
    rw [q_bringS _ (by omega) (by omega) (by omega), bind_s, cpy_out (by omega), upd_s, nI_add]
    refine ⟨_, _, rfl, rfl, ⟨?_, ⟨r, m, ?_⟩, ?_, ?_, 8, (p + 1) % 8, by omega, by omega, rfl, ?_, rfl, fun i hi => ?_⟩, rfl, rfl, rfl, fun q hq => ?_⟩
    · refine h1.congr (sameC.rf _) (fun q hq => ?_)
      rw [upd_n (by omega), cpy_out (by omega), upd_n (by omega), cpy_out (by omega)]
    · refine h2.keep (fun q a b => ?_)
      rw [upd_n (by omega), cpy_out (by omega), upd_n (by omega), cpy_out (by omega)]
    · rw [upd_n (by omega), cpy_out (by omega), upd_n (by omega), cpy_out (by omega)]; exact h3
    · rw [upd_n (by omega), cpy_out (by omega), upd_n (by omega), cpy_out (by omega)]; exact h4
    · rw [upd_s]
    · by_cases qi : i = 7
      · subst qi
        rw [show ((p + 1) % 8 + 8 - 8 + 7) % 8 = p by omega]
        dsimp only
        rw [show va_up h.2.2.2.1 p v' p = v' from va_up_self _ _ _]
        refine h1.congr e2 (fun q hq => ?_)
        rw [upd_n (by omega), cpy_in (by omega) (by omega), upd_n (by omega), cpy_out (by omega)]
        exact congrArg s (by omega)
      · have hne : ((p + 1) % 8 + 8 - 8 + i) % 8 ≠ p := by omega
        dsimp only
        rw [show va_up h.2.2.2.1 p v' (((p + 1) % 8 + 8 - 8 + i) % 8) = h.2.2.2.1 (((p + 1) % 8 + 8 - 8 + i) % 8) from va_up_ne _ _ hne]
        have := h10 (i + 1) (by omega)
        rw [show (p + 8 - 8 + (i + 1)) % 8 = ((p + 1) % 8 + 8 - 8 + i) % 8 by omega] at this
        refine this.congr (sameC.rf _) (fun q hq => ?_)
        rw [upd_n (by omega), cpy_out (by omega), upd_n (by omega), cpy_in (by omega) (by omega)]
        exact congrArg s (by omega)
    · rw [upd_n (by omega), cpy_out (by omega), upd_n (by omega), cpy_out (by omega)]
  · rw [if_neg (by rw [show (8 : Int32) = nI 8 from rfl, neq (by omega) (by omega)]; exact q8)]
    simp (disch := omega) only [zlit, pk_mul, nI_add]
    rw [q_bringS s (by omega) (by omega) (by omega), bind_s]
    have f1 : va_cpy s s 0 (55 + 44 * kn) 44 54 = nI kn := by rw [cpy_out (by omega)]; exact h8
    simp (disch := omega) only [zgt_n, zpt_n, f1, nI_add]
    refine ⟨_, _, rfl, rfl, ⟨?_, ⟨r, m, ?_⟩, ?_, ?_, kn + 1, (p + 1) % 8, by omega, by omega, ?_, ?_, rfl, fun i hi => ?_⟩, rfl, rfl, rfl, fun q hq => ?_⟩
    · refine h1.congr (sameC.rf _) (fun q hq => ?_)
      rw [upd_n (by omega), cpy_out (by omega)]
    · refine h2.keep (fun q a b => ?_)
      rw [upd_n (by omega), cpy_out (by omega)]
    · rw [upd_n (by omega), cpy_out (by omega)]; exact h3
    · rw [upd_n (by omega), cpy_out (by omega)]; exact h4
    · show nI (min 8 (kn + 1)) = _
      rw [Nat.min_eq_right (by omega)]
    · rw [upd_s]
    · by_cases qi : i = kn
      · subst qi
        rw [show ((p + 1) % 8 + 8 - (i + 1) + i) % 8 = p by omega]
        dsimp only
        rw [show va_up h.2.2.2.1 p v' p = v' from va_up_self _ _ _]
        refine h1.congr e2 (fun q hq => ?_)
        rw [upd_n (by omega), cpy_in (by omega) (by omega)]
        exact congrArg s (by omega)
      · have hne : ((p + 1) % 8 + 8 - (kn + 1) + i) % 8 ≠ p := by omega
        dsimp only
        rw [show va_up h.2.2.2.1 p v' (((p + 1) % 8 + 8 - (kn + 1) + i) % 8) = h.2.2.2.1 (((p + 1) % 8 + 8 - (kn + 1) + i) % 8) from va_up_ne _ _ hne]
        have := h10 i (by omega)
        rw [show (p + 8 - kn + i) % 8 = ((p + 1) % 8 + 8 - (kn + 1) + i) % 8 by omega] at this
        refine this.congr (sameC.rf _) (fun q hq => ?_)
        rw [upd_n (by omega), cpy_out (by omega)]
    · rw [upd_n (by omega), cpy_out (by omega)]
