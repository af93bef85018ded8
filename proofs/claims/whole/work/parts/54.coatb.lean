/-! a coat read, and the coats after it -/
theorem plc_f (t : TV) (p : Nat) : (plc t p).2.2.2.2.2.2 = t.2.2.2.2.2.2 := rfl
theorem plc_c (t : TV) (p : Nat) : (plc t p).2.2.1 = t.2.2.1 := rfl
theorem flt_f (t : TV) (p : Nat) : (flt t p).2.2.2.2.2.2 = nI p := rfl
theorem TS.flt {t : TV} {n : Nat} {ch : Nat → Nat} {p : Nat} (h : TS t n ch p) (q : Nat) : TS (flt t q) n ch p := ⟨h.1, h.2.1, h.2.2⟩
theorem dg_no {n : Nat} {ch : Nat → Nat} (hC : CH n ch) {t : TV} {q x : Nat} (hT : TS t n ch q) (hd : dg ch n q) (hx : 0 < x) (hx2 : x < 1000) (hx3 : x < 48 ∨ 57 < x) : fX4_takeLetter t (nI x) = some (0, t) := by
  have h1 := dg_lt hd
  have h2 := p_take1 hC hT (by omega) hx hx2
  rw [dg_SK hd, if_neg (by unfold dg at hd; omega), plc_self hT] at h2
  exact h2
/-- what a fault leaves -/
def FA (n : Nat) (ch : Nat → Nat) (t' : TV) (q : Nat) : Prop := q ≤ n ∧ Yl t' ∧ t'.2.2.2.2.2.2 = nI q ∧ ∃ z, z ≤ n ∧ TS t' n ch z
/-- stuck before a digit too many -/
def FC (n : Nat) (ch : Nat → Nat) (t' : TV) (q : Nat) : Prop := dg ch n q ∧ Yl t' ∧ t'.2.2.2.2.2.2 = -1 ∧ TS t' n ch q
theorem coat_ok {n : Nat} {ch : Nat → Nat} (hC : CH n ch) {t : TV} {mv : MV} {p : Nat} {c : Tm} {r : Nat → Nat} {m : Nat} {d : Int32} (hT : TS t n ch p) (hM : MS mv n ch p) (hp : p ≤ n) (hf : t.2.2.2.2.2.2 = -1) (hR : RD t mv.2.2.2.2.2.2.2.2.2.1 c r m d) (hn : c.2.2.2.1 < 10) : (∃ q t' y s', FA n ch t' q ∧ fX4_readCoat t = some t' ∧ fX7_isCoatItem mv = some (0, nI q, y, s')) ∨ (∃ q t' y s' c', q ≤ n ∧ TS t' n ch q ∧ t'.2.2.2.2.2.2 = -1 ∧ RD t' s' c' r m d ∧ c'.2.2.2.1 = c.2.2.2.1 + 1 ∧ fX4_readCoat t = some t' ∧ fX7_isCoatItem mv = some (1, nI q, y, s')) ∨ (∃ q t' y s', FC n ch t' q ∧ fX4_readCoat t = some t' ∧ fX7_isCoatItem mv = some (0, nI q, y, s')) := by
  have hle := SK_le (ch := ch) hp
  have h90 := hC.1
  have hYl := hR.yl
  have hs3 := hR.1.2.1.1
  unfold fX4_readCoat fX7_isCoatItem
  rw [q_peek hC hM hp, bind_s]
  dsimp only
  rcases kind_cases hC hT hp with ⟨kk, k1, k2, k3, k4⟩ | ⟨k3, k4⟩
  rotate_left
  · rw [k3, k4, bind_s, bind_s]
    dsimp only
    rw [flt_f, if_pos (nneg _ (by omega)), if_pos (nneg _ (by omega)), if_pos (nneg _ (by omega)), if_neg neg1]
    refine Or.inl ⟨_, _, _, _, ?_, rfl, rfl⟩
    exact ⟨hle, hYl, rfl, _, hle, (hT.plc _).flt _⟩
  rw [k3, k4, bind_s, bind_s]
  dsimp only
  rw [plc_f, hf, if_neg neg1, if_pos (nneg kk (by omega)), nI_1]
  have hT1 := hT.plc (SK ch n p + 1)
  rcases num_cases hC (mv := (mv.1, mv.2.1, mv.2.2.1, mv.2.2.2.1, mv.2.2.2.2.1, (nI (SK ch n p + 1)), mv.2.2.2.2.2.2)) (lo := 1) (hi := 20) hT1 ⟨hM.1, rfl, hM.2.2⟩ (by omega) hf (by omega) (by omega) with ⟨q, z, y, y', a1, a2, a3, a4⟩ | ⟨q, val, a1, a2, a3, a4, a5⟩ | ⟨q, val, y', a1, a2, a3, a4, a5⟩
  · rw [show fX4_readNumber (plc t (SK ch n p + 1)) 1 20 = _ from a3, show fX7_isNumber (mv.1, mv.2.1, mv.2.2.1, mv.2.2.2.1, mv.2.2.2.2.1, (nI (SK ch n p + 1)), mv.2.2.2.2.2.2) 1 20 = _ from a4, bind_s, bind_s]
    dsimp only
    rw [flt_f, if_pos (nneg _ (by omega)), if_pos (nneg _ (by omega)), if00]
    refine Or.inl ⟨_, _, _, _, ?_, rfl, rfl⟩
    exact ⟨a1, hYl, rfl, z, a2, ((hT.plc _).plc _).flt _⟩
  · rw [show fX4_readNumber (plc t (SK ch n p + 1)) 1 20 = _ from a4, show fX7_isNumber (mv.1, mv.2.1, mv.2.2.1, mv.2.2.2.1, mv.2.2.2.2.1, (nI (SK ch n p + 1)), mv.2.2.2.2.2.2) 1 20 = _ from a5, bind_s, bind_s]
    dsimp only
    rw [plc_f, plc_f, hf, if_neg neg1, if10]
    have hT2 : TS (plc (plc t (SK ch n p + 1)) q) n ch q := (hT.plc _).plc _
    have hle2 := SK_le (ch := ch) a1
    have sg := p_take1 hC (x := 126) hT2 a1 (by omega) (by omega)
    rw [show fX4_takeLetter (plc (plc t (SK ch n p + 1)) q) 126 = _ from sg, bind_s]
    obtain ⟨v0, s0, e1, e2, e3⟩ := put_RD hR hn (kk := kk) (tt := val) (dd := 0) k1 ⟨a2, a3⟩ (by omega)
    rw [show fX7_addCoat mv.2.2.2.2.2.2.2.2.2.1 (nI kk) (nI val) 0 = some (nI c.2.2.2.1, s0) from e2, bind_s]
    dsimp only
    have sq := q_sign hC (mv := (mv.1, mv.2.1, mv.2.2.1, mv.2.2.2.1, mv.2.2.2.2.1, (nI q), (nI val), mv.2.2.2.2.2.2.2.1, mv.2.2.2.2.2.2.2.2.1, s0, mv.2.2.2.2.2.2.2.2.2.2)) (p := q) (x := 126) ⟨hM.1, rfl, hM.2.2⟩ a1 (by omega)
    rw [show fX7_isSign (mv.1, mv.2.1, mv.2.2.1, mv.2.2.2.1, mv.2.2.2.2.1, (nI q), (nI val), mv.2.2.2.2.2.2.2.1, mv.2.2.2.2.2.2.2.2.1, s0, mv.2.2.2.2.2.2.2.2.2.2) 126 = _ from sq, bind_s]
    by_cases q1 : lt0 ch n (SK ch n q) = 126
    · have hlt : SK ch n q < n := by
        unfold lt0 at q1
        by_cases k : SK ch n q < n
        · exact k
        · rw [if_neg k] at q1
          omega
      rw [if_pos q1, if_pos q1]
      dsimp only
      rw [if10, if10]
      have hT3 : TS (plc (plc (plc t (SK ch n p + 1)) q) (SK ch n q + 1)) n ch (SK ch n q + 1) := ((hT.plc _).plc _).plc _
      obtain ⟨g1, g2⟩ := p_dig hC hT3 (by omega)
      obtain ⟨g3, g4⟩ := q_dig hC (mv := (mv.1, mv.2.1, mv.2.2.1, mv.2.2.2.1, mv.2.2.2.2.1, (nI (SK ch n q + 1)), (nI val), mv.2.2.2.2.2.2.2.1, mv.2.2.2.2.2.2.2.2.1, s0, mv.2.2.2.2.2.2.2.2.2.2)) (p := SK ch n q + 1) ⟨hM.1, rfl, hM.2.2⟩ (by omega)
      have hle3 := SK_le (ch := ch) (show SK ch n q + 1 ≤ n by omega)
      by_cases q2 : dg ch n (SK ch n (SK ch n q + 1))
      · have dl := dg_lt q2
        have db := id q2
        unfold dg at db
        rw [g1 q2, g3 q2, bind_s, bind_s]
        dsimp only
        rw [plc_f, plc_f, plc_f, plc_f, hf, if_neg neg1, if10]
        obtain ⟨v1, s1, f1, f2, f3⟩ := put_RD hR hn (kk := kk) (tt := val) (dd := ch (SK ch n (SK ch n q + 1)) - 48) k1 ⟨a2, a3⟩ (by omega)
        obtain ⟨s2, w1, w2⟩ := addc _ hs3 hn f2
        have w3 : s2 = s0 := by
          have := w1.symm.trans (show fX7_addCoat mv.2.2.2.2.2.2.2.2.2.1 (nI kk) (nI val) 0 = _ from e2)
          injection this with this
          injection this
        subst w3
        rw [show (24 : Int32) = nI 24 from rfl, nI_add, zix_n (by omega) (by omega), zgrd_t, zpt_n _ (by omega), w2]
        rw [show fX0_putOver (plc (plc (plc (plc t (SK ch n p + 1)) q) (SK ch n q + 1)) (SK ch n (SK ch n q + 1) + 1)).2.2.1 (nI kk) (nI val) (nI (ch (SK ch n (SK ch n q + 1)) - 48)) = _ from f1, bind_s]
        refine Or.inr (Or.inl ⟨_, _, _, _, putT c kk val (ch (SK ch n (SK ch n q + 1)) - 48), ?_, ?_, ?_, ?_, rfl, rfl, rfl⟩)
        · omega
        · exact ⟨hT.1, rfl, hT.2.2⟩
        · exact hf
        · exact f3 _ rfl rfl rfl
      · obtain ⟨y, hy⟩ := g4 q2
        rw [g2 q2, hy, bind_s, bind_s]
        dsimp only
        rw [flt_f, if_pos (nneg _ (by omega)), if00]
        refine Or.inl ⟨_, _, _, _, ?_, rfl, rfl⟩
        exact ⟨hle3, hYl, rfl, _, hle3, (hT3.plc _).flt _⟩
    · rw [if_neg q1, if_neg q1]
      dsimp only
      rw [if00, if00, plc_f, plc_f, plc_f, hf, if_neg neg1]
      rw [show fX0_putOver (plc (plc (plc t (SK ch n p + 1)) q) (SK ch n q)).2.2.1 (nI kk) (nI val) 0 = _ from e1, bind_s]
      refine Or.inr (Or.inl ⟨_, _, _, _, putT c kk val 0, ?_, ?_, ?_, ?_, rfl, rfl, rfl⟩)
      · exact hle2
      · exact ⟨hT.1, rfl, hT.2.2⟩
      · exact hf
      · exact e3 _ rfl rfl rfl
  · rw [show fX4_readNumber (plc t (SK ch n p + 1)) 1 20 = _ from a4, show fX7_isNumber (mv.1, mv.2.1, mv.2.2.1, mv.2.2.2.1, mv.2.2.2.2.1, (nI (SK ch n p + 1)), mv.2.2.2.2.2.2) 1 20 = _ from a5, bind_s, bind_s]
    dsimp only
    rw [plc_f, plc_f, hf, if_neg neg1, if00]
    have hT2 : TS (plc (plc t (SK ch n p + 1)) q) n ch q := (hT.plc _).plc _
    rw [show fX4_takeLetter (plc (plc t (SK ch n p + 1)) q) 126 = _ from dg_no hC (x := 126) hT2 a1 (by omega) (by omega) (by omega), bind_s]
    dsimp only
    obtain ⟨v0, s0, e1, e2, e3⟩ := put_RD hR hn (kk := kk) (tt := val) (dd := 0) k1 ⟨a2, a3⟩ (by omega)
    rw [if00, plc_f, plc_f, hf, if_neg neg1]
    rw [show fX0_putOver (plc (plc t (SK ch n p + 1)) q).2.2.1 (nI kk) (nI val) 0 = _ from e1, bind_s]
    have hyl := put_yl e1
    refine Or.inr (Or.inr ⟨_, _, _, _, ?_, rfl, rfl⟩)
    exact ⟨a1, (e3 (t.1, t.2.1, v0, t.2.2.2) rfl rfl rfl).yl, hf, ⟨hT.1, rfl, hT.2.2⟩⟩
theorem coatsL {n : Nat} {ch : Nat → Nat} (hC : CH n ch) {mv : MV} {r : Nat → Nat} {m : Nat} {d : Int32} (h3 : mv.2.2.2.1 = nI n) (h4 : ∀ j, j < n → mv.2.2.2.2.1 j = nI (ch j)) : ∀ (e k f1 f2 : Nat) (t : TV) (p : Nat) (c : Tm) (y : Int32) (s : zAI), k + e = 9 → e + 1 < f1 → e + 2 < f2 → TS t n ch p → p ≤ n → t.2.2.2.2.2.2 = -1 → RD t s c r m d → c.2.2.2.1 = k → (∃ q t' y' s', FA n ch t' q ∧ ((fX4_readCoat t).bind (fun u => fX4_readCoats_L6 f1 u (nI (k + 1)))) = some t' ∧ fX7_isRoof_L79 f2 mv 1 (nI p) y s = some (.inl (0, nI q, y', s'))) ∨ (∃ q t' y' s' c', q ≤ n ∧ TS t' n ch q ∧ t'.2.2.2.2.2.2 = -1 ∧ RD t' s' c' r m d ∧ ((fX4_readCoat t).bind (fun u => fX4_readCoats_L6 f1 u (nI (k + 1)))) = some t' ∧ fX7_isRoof_L79 f2 mv 1 (nI p) y s = some (.inr (nI q, y', s'))) ∨ (∃ q t' y' s', FC n ch t' q ∧ ((fX4_readCoat t).bind (fun u => fX4_readCoats_L6 f1 u (nI (k + 1)))) = some t' ∧ fX7_isRoof_L79 f2 mv 1 (nI p) y s = some (.inl (0, nI q, y', s'))) := by
  have h90 := hC.1
  intro e
  induction e using Nat.strongRecOn with
  | _ e ih =>
    intro k f1 f2 t p c y s hk hf1 hf2 hT hp hf hR hc
    obtain ⟨g1, rfl⟩ : ∃ g, f1 = g + 1 := ⟨f1 - 1, by omega⟩
    obtain ⟨g2, rfl⟩ : ∃ g, f2 = g + 2 := ⟨f2 - 2, by omega⟩
    rw [fX7_isRoof_L79, if10]
    rcases coat_ok hC (mv := (mv.1, mv.2.1, mv.2.2.1, mv.2.2.2.1, mv.2.2.2.2.1, (nI p), y, mv.2.2.2.2.2.2.2.1, mv.2.2.2.2.2.2.2.2.1, s, mv.2.2.2.2.2.2.2.2.2.2)) hT ⟨h3, rfl, h4⟩ hp hf hR (by omega) with ⟨q, t', y', s', a1, a2, a3⟩ | ⟨q, t', y', s', c', a1, a2, a3, a4, a5, a6, a7⟩ | ⟨q, t', y', s', a1, a2, a3⟩
    · rw [a2, a3, bind_s, bind_s, fX4_readCoats_L6]
      dsimp only
      rw [if00, a1.2.2.1, if_pos (nneg q (by have := a1.1; omega))]
      refine Or.inl ⟨q, t', y', s', a1, ?_, rfl⟩
      by_cases q10 : (10 : Int32) ≤ nI (k + 1)
      · rw [if_pos q10]
      · rw [if_neg q10]
    · rw [a6, a7, bind_s, bind_s, fX4_readCoats_L6]
      dsimp only
      rw [if10, show zgt s' 3 = nI c'.2.2.2.1 from a4.1.2.1.1, a5, hc, a3, if_neg neg1]
      have sg := p_take1 hC (x := 44) a2 a1 (by omega) (by omega)
      have sq := q_sign hC (mv := (mv.1, mv.2.1, mv.2.2.1, mv.2.2.2.1, mv.2.2.2.2.1, (nI q), y', mv.2.2.2.2.2.2.2.1, mv.2.2.2.2.2.2.2.2.1, s', mv.2.2.2.2.2.2.2.2.2.2)) (p := q) (x := 44) ⟨h3, rfl, h4⟩ a1 (by omega)
      have hle := SK_le (ch := ch) a1
      by_cases q10 : k + 1 = 10
      · rw [if_pos (show (10 : Int32) ≤ nI (k + 1) from nI_le (a := 10) (by omega) (by omega)), if_pos (show (10 : Int32) ≤ nI (k + 1) from nI_le (a := 10) (by omega) (by omega)), fX7_isRoof_L79, if00]
        exact Or.inr (Or.inl ⟨q, t', y', s', c', a1, a2, a3, a4, rfl, rfl⟩)
      · rw [if_neg (show ¬ (10 : Int32) ≤ nI (k + 1) from nI_ge (b := 10) (by omega) (by omega)), if_neg (show ¬ (10 : Int32) ≤ nI (k + 1) from nI_ge (b := 10) (by omega) (by omega))]
        rw [show fX4_takeLetter t' 44 = _ from sg, show fX7_isSign (mv.1, mv.2.1, mv.2.2.1, mv.2.2.2.1, mv.2.2.2.2.1, (nI q), y', mv.2.2.2.2.2.2.2.1, mv.2.2.2.2.2.2.2.2.1, s', mv.2.2.2.2.2.2.2.2.2.2) 44 = _ from sq, bind_s, bind_s]
        by_cases q1 : lt0 ch n (SK ch n q) = 44
        · have hlt : SK ch n q < n := by
            unfold lt0 at q1
            by_cases k : SK ch n q < n
            · exact k
            · rw [if_neg k] at q1
              omega
          rw [if_pos q1, if_pos q1]
          dsimp only
          rw [if10, if10, nI_1]
          exact ih (e - 1) (by omega) (k + 1) g1 (g2 + 1) (plc t' (SK ch n q + 1)) (SK ch n q + 1) c' y' s' (by omega) (by omega) (by omega) (a2.plc _) (by omega) a3 a4 (by omega)
        · rw [if_neg q1, if_neg q1]
          dsimp only
          rw [if00, if00, fX7_isRoof_L79, if00]
          exact Or.inr (Or.inl ⟨SK ch n q, plc t' (SK ch n q), y', s', c', hle, a2.plc _, a3, a4, rfl, rfl⟩)
    · rw [a2, a3, bind_s, bind_s, fX4_readCoats_L6]
      dsimp only
      rw [if00, a1.2.2.1, if_neg neg1, show fX4_takeLetter t' 44 = _ from dg_no hC (x := 44) a1.2.2.2 a1.1 (by omega) (by omega) (by omega), bind_s]
      dsimp only
      rw [if00]
      refine Or.inr (Or.inr ⟨q, t', y', s', a1, ?_, rfl⟩)
      by_cases q10 : (10 : Int32) ≤ nI (k + 1)
      · rw [if_pos q10]
      · rw [if_neg q10]
