/-! rains on the tape, and the roof -/
theorem app_some {w : WV} {i : Nat} (h : w.2 = nI i) (hi : i < 8) (y : Int32) : fX5_append w y = some (upd w.1 i y, nI (i + 1)) := by
  unfold fX5_append
  rw [h, if_neg (show ¬ (8 : Int32) ≤ nI i from nI_ge (b := 8) hi (by omega)), zix_n hi (by omega), zgrd_t, zpt_n _ (by omega), nI_1]
theorem add_ok {w : WV} {s : zAI} {r : Nat → Nat} {m x : Nat} (h : RW w s r m) (hm : m < 8) (hx : x ≤ 40) : ∃ w' s', fX5_append w (nI x) = some w' ∧ fX7_addRain s (nI x) = some s' ∧ RW w' s' (unp r m x) (m + 1) ∧ ∀ q, (q < 45 ∨ 54 ≤ q) → s' q = s q := by
  obtain ⟨h1, h2, h3, h4⟩ := h
  refine ⟨_, upd (upd s (46 + m) (nI x)) 45 (nI (m + 1)), app_some h1 hm _, ?_, ⟨rfl, upd_s, by omega, fun j hj => ?_⟩, fun q hq => by rw [upd_n (by omega), upd_n (by omega)]⟩
  · unfold fX7_addRain
    simp (disch := omega) only [show zgt s 45 = nI m from h2, show (46 : Int32) = nI 46 from rfl, nI_add, zix_n, zgrd_t, zpt_n]
    rw [show (45 : Int32) = nI 45 from rfl, zpt_n _ (by omega), zgt_n _ (by omega), upd_n (by omega), h2, nI_1]
  · by_cases q : j = m
    · subst q
      dsimp only
      rw [upd_s, upd_n (by omega), upd_s, unp_s]
      exact ⟨rfl, rfl, hx⟩
    · dsimp only
      rw [upd_n q, upd_n (by omega), upd_n (by omega), unp_n q]
      exact h4 j (by omega)
theorem rainsL {n : Nat} {ch : Nat → Nat} (hC : CH n ch) {mv : MV} {c : Tm} {d : Int32} (h3 : mv.2.2.2.1 = nI n) (h4 : ∀ j, j < n → mv.2.2.2.2.1 j = nI (ch j)) : ∀ (e i f1 f2 : Nat) (t : TV) (p : Nat) (y : Int32) (s : zAI) (r : Nat → Nat), i + e = 8 → e + 1 < f1 → e + 1 < f2 → TS t n ch p → p ≤ n → t.2.2.2.2.2.2 = -1 → RD t s c r i d → (∃ q t' y' s', FA n ch t' q ∧ fX4_readRoof_L41 f1 t (nI i) = some t' ∧ fX7_isRoof_L25 f2 mv (nI p) y s = some (.inl (0, nI q, y', s'))) ∨ (∃ q t' y' s' r' m', q ≤ n ∧ TS t' n ch q ∧ t'.2.2.2.2.2.2 = -1 ∧ RD t' s' c r' m' d ∧ fX4_readRoof_L41 f1 t (nI i) = some t' ∧ fX7_isRoof_L25 f2 mv (nI p) y s = some (.inr (nI q, y', s'))) ∨ (∃ q t' y' s', FC n ch t' q ∧ fX4_readRoof_L41 f1 t (nI i) = some t' ∧ fX7_isRoof_L25 f2 mv (nI p) y s = some (.inl (0, nI q, y', s'))) := by
  have h90 := hC.1
  intro e
  induction e using Nat.strongRecOn with
  | _ e ih =>
    intro i f1 f2 t p y s r hi hf1 hf2 hT hp hf hR
    obtain ⟨g1, rfl⟩ : ∃ g, f1 = g + 2 := ⟨f1 - 2, by omega⟩
    obtain ⟨g2, rfl⟩ : ∃ g, f2 = g + 1 := ⟨f2 - 1, by omega⟩
    have hW := hR.2.2.2.1
    have hYl := hR.yl
    rw [fX4_readRoof_L41, fX7_isRoof_L25, show zgt s 45 = nI i from hW.2.1]
    by_cases q8 : i = 8
    · rw [if_pos (show (8 : Int32) ≤ nI i from nI_le (a := 8) (by omega) (by omega)), if_pos (show (8 : Int32) ≤ nI i from nI_le (a := 8) (by omega) (by omega))]
      exact Or.inr (Or.inl ⟨p, t, y, s, r, i, hp, hT, hf, hR, rfl, rfl⟩)
    rw [if_neg (show ¬ (8 : Int32) ≤ nI i from nI_ge (b := 8) (by omega) (by omega)), if_neg (show ¬ (8 : Int32) ≤ nI i from nI_ge (b := 8) (by omega) (by omega)), hf, if_neg neg1]
    have sg := p_take1 hC (x := 43) hT hp (by omega) (by omega)
    have sq := q_sign hC (mv := (mv.1, mv.2.1, mv.2.2.1, mv.2.2.2.1, mv.2.2.2.2.1, (nI p), y, mv.2.2.2.2.2.2.2.1, mv.2.2.2.2.2.2.2.2.1, s, mv.2.2.2.2.2.2.2.2.2.2)) (p := p) (x := 43) ⟨h3, rfl, h4⟩ hp (by omega)
    have hle := SK_le (ch := ch) hp
    rw [show fX4_takeLetter t 43 = _ from sg, show fX7_isSign (mv.1, mv.2.1, mv.2.2.1, mv.2.2.2.1, mv.2.2.2.2.1, (nI p), y, mv.2.2.2.2.2.2.2.1, mv.2.2.2.2.2.2.2.2.1, s, mv.2.2.2.2.2.2.2.2.2.2) 43 = _ from sq, bind_s, bind_s]
    by_cases q1 : lt0 ch n (SK ch n p) = 43
    rotate_left
    · rw [if_neg q1, if_neg q1]
      dsimp only
      rw [if00, if00]
      exact Or.inr (Or.inl ⟨SK ch n p, plc t (SK ch n p), y, s, r, i, hle, hT.plc _, hf, hR, rfl, rfl⟩)
    have hlt : SK ch n p < n := by
      unfold lt0 at q1
      by_cases k : SK ch n p < n
      · exact k
      · rw [if_neg k] at q1
        omega
    rw [if_pos q1, if_pos q1]
    dsimp only
    rw [if10, if10]
    have hT1 := hT.plc (SK ch n p + 1)
    have hw2 : (plc t (SK ch n p + 1)).2.1.2 = nI i := hW.1
    rcases num_cases hC (mv := (mv.1, mv.2.1, mv.2.2.1, mv.2.2.2.1, mv.2.2.2.2.1, (nI (SK ch n p + 1)), y, mv.2.2.2.2.2.2.2.1, mv.2.2.2.2.2.2.2.2.1, s, mv.2.2.2.2.2.2.2.2.2.2)) (lo := 0) (hi := 40) hT1 ⟨h3, rfl, h4⟩ (by omega) hf (by omega) (by omega) with ⟨q, z, yy, y', a1, a2, a3, a4⟩ | ⟨q, val, a1, a2, a3, a4, a5⟩ | ⟨q, val, y', a1, a2, a3, a4, a5⟩
    · rw [show fX4_readNumber (plc t (SK ch n p + 1)) 0 40 = _ from a3, show fX7_isNumber (mv.1, mv.2.1, mv.2.2.1, mv.2.2.2.1, mv.2.2.2.2.1, (nI (SK ch n p + 1)), y, mv.2.2.2.2.2.2.2.1, mv.2.2.2.2.2.2.2.2.1, s, mv.2.2.2.2.2.2.2.2.2.2) 0 40 = _ from a4, bind_s, bind_s]
      dsimp only
      rw [if00, show fX5_append (flt (plc (plc t (SK ch n p + 1)) z) q).2.1 yy = _ from app_some hW.1 (by omega) yy, bind_s, fX4_readRoof_L41, nI_1]
      refine Or.inl ⟨q, ((flt (plc (plc t (SK ch n p + 1)) z) q).1, (upd t.2.1.1 i yy, nI (i + 1)), (flt (plc (plc t (SK ch n p + 1)) z) q).2.2), y', s, ⟨a1, hYl, rfl, z, a2, ⟨hT.1, rfl, hT.2.2⟩⟩, ?_, rfl⟩
      by_cases q10 : (8 : Int32) ≤ nI (i + 1)
      · rw [if_pos q10]
      · rw [if_neg q10]
        dsimp only
        rw [flt_f, if_pos (nneg q (by omega))]
    · rw [show fX4_readNumber (plc t (SK ch n p + 1)) 0 40 = _ from a4, show fX7_isNumber (mv.1, mv.2.1, mv.2.2.1, mv.2.2.2.1, mv.2.2.2.2.1, (nI (SK ch n p + 1)), y, mv.2.2.2.2.2.2.2.1, mv.2.2.2.2.2.2.2.2.1, s, mv.2.2.2.2.2.2.2.2.2.2) 0 40 = _ from a5, bind_s, bind_s]
      dsimp only
      obtain ⟨w', s', b1, b2, b3, b4⟩ := add_ok hW (x := val) (by omega) a3
      rw [if10, show fX5_append (plc (plc t (SK ch n p + 1)) q).2.1 (nI val) = _ from b1, bind_s, b2, bind_s, nI_1]
      obtain ⟨r1, r2, r3, r4, r5, r6, r7, r8, w, w1, w2, w3⟩ := hR
      have hb10 := r1.2.2.1.1
      refine ih (e - 1) (by omega) (i + 1) (g1 + 1) g2 ((plc (plc t (SK ch n p + 1)) q).1, w', (plc (plc t (SK ch n p + 1)) q).2.2) q (nI val) s' (unp r i val) (by omega) (by omega) (by omega) ⟨hT.1, rfl, hT.2.2⟩ a1 hf ⟨r1.congr (sameC.rf _) (fun q hq => b4 q (by omega)), r2, fun j hj => ?_, b3, ?_, ?_, ?_, ?_, w, w1, w2, ?_⟩
      · rw [b4 _ (by omega)]
        exact r3 j hj
      · rw [b4 _ (by omega)]
        exact r5
      · rw [b4 _ (by omega)]
        exact r6
      · rw [b4 _ (by omega)]
        exact r7
      · rw [b4 _ (by omega)]
        exact r8
      · rw [b4 _ (by omega)]
        exact w3
    · rw [show fX4_readNumber (plc t (SK ch n p + 1)) 0 40 = _ from a4, show fX7_isNumber (mv.1, mv.2.1, mv.2.2.1, mv.2.2.2.1, mv.2.2.2.2.1, (nI (SK ch n p + 1)), y, mv.2.2.2.2.2.2.2.1, mv.2.2.2.2.2.2.2.2.1, s, mv.2.2.2.2.2.2.2.2.2.2) 0 40 = _ from a5, bind_s, bind_s]
      dsimp only
      rw [if00, show fX5_append (plc (plc t (SK ch n p + 1)) q).2.1 (nI val) = _ from app_some hW.1 (by omega) _, bind_s, fX4_readRoof_L41, nI_1]
      have hT2 : TS ((plc (plc t (SK ch n p + 1)) q).1, (upd t.2.1.1 i (nI val), nI (i + 1)), (plc (plc t (SK ch n p + 1)) q).2.2) n ch q := ⟨hT.1, rfl, hT.2.2⟩
      refine Or.inr (Or.inr ⟨q, ((plc (plc t (SK ch n p + 1)) q).1, (upd t.2.1.1 i (nI val), nI (i + 1)), (plc (plc t (SK ch n p + 1)) q).2.2), y', s, ⟨a1, hYl, hf, hT2⟩, ?_, rfl⟩)
      by_cases q10 : (8 : Int32) ≤ nI (i + 1)
      · rw [if_pos q10]
      · rw [if_neg q10]
        dsimp only
        rw [plc_f, plc_f, hf, if_neg neg1]
        rw [show fX4_takeLetter ((plc (plc t (SK ch n p + 1)) q).1, (upd t.2.1.1 i (nI val), nI (i + 1)), (plc (plc t (SK ch n p + 1)) q).2.2) 43 = _ from dg_no hC (x := 43) hT2 a1 (by omega) (by omega) (by omega), bind_s]
        dsimp only
        rw [if00]
/-- the end of the reading -/
def endR (t : TV) : Option (Int32 × TV) := (fX4_skipBlanks t).bind (fun u4 => if 0 ≤ u4.2.2.2.2.2.2 then (some (u4.2.2.2.2.2.2, u4)) else (if u4.2.2.2.1 ≤ u4.2.2.2.2.2.1 then (some (u4.2.2.2.2.2.2, u4)) else (some (u4.2.2.2.2.2.1, (u4.1, u4.2.1, u4.2.2.1, u4.2.2.2.1, u4.2.2.2.2.1, u4.2.2.2.2.2.1, u4.2.2.2.2.2.1)))))
theorem end_FA {n : Nat} {ch : Nat → Nat} (hC : CH n ch) {t : TV} {q : Nat} (h : FA n ch t q) : ∃ t', endR t = some (nI q, t') ∧ Yl t' := by
  have h90 := hC.1
  obtain ⟨a1, a2, a3, z, a4, a5⟩ := h
  unfold endR
  rw [p_skip hC a5 a4, bind_s]
  rw [plc_f, a3, if_pos (nneg q (by omega))]
  exact ⟨_, rfl, a2⟩
theorem end_FC {n : Nat} {ch : Nat → Nat} (hC : CH n ch) {t : TV} {q : Nat} (h : FC n ch t q) : ∃ t', endR t = some (nI q, t') ∧ Yl t' := by
  have h90 := hC.1
  obtain ⟨a1, a2, a3, a4⟩ := h
  have hq := (dg_lt a1).1
  unfold endR
  rw [p_skip hC a4 (by omega), bind_s, dg_SK a1, plc_self a4, a3, if_neg neg1, a4.1, a4.2.1, if_neg (nI_ge hq (by omega))]
  exact ⟨_, rfl, a2⟩
theorem end_ok {n : Nat} {ch : Nat → Nat} (hC : CH n ch) {t : TV} {q : Nat} (hq : q ≤ n) (h : TS t n ch q) (hf : t.2.2.2.2.2.2 = -1) (hy : Yl t) : (SK ch n q < n ∧ ∃ t', endR t = some (nI (SK ch n q), t') ∧ Yl t') ∨ (¬ SK ch n q < n ∧ endR t = some (-1, plc t (SK ch n q))) := by
  have h90 := hC.1
  have hle := SK_le (ch := ch) hq
  unfold endR
  rw [p_skip hC h hq, bind_s, plc_f, hf, if_neg neg1]
  by_cases k : SK ch n q < n
  · refine Or.inl ⟨k, ?_⟩
    rw [(h.plc _).1, (h.plc (SK ch n q)).2.1, if_neg (nI_ge k (by omega))]
    exact ⟨_, rfl, hy⟩
  · refine Or.inr ⟨k, ?_⟩
    rw [(h.plc _).1, (h.plc (SK ch n q)).2.1, if_pos (nI_le (by omega) (by omega))]
def tailR (u2 : TV) : Option (Int32 × TV) := if 0 ≤ u2.2.2.2.2.2.2 then endR u2 else (fX4_takeLetter u2 59).bind (fun u7 => if u7.1 = 0 then endR u7.2 else (fX4_readCoats u7.2).bind (fun u12 => endR u12))
theorem roof_e (v : TV) : fX4_readRoof v = (fX4_readNumber (v.1, (v.2.1.1, 0), (v.2.2.1.1, v.2.2.1.2.1, v.2.2.1.2.2.1, v.2.2.1.2.2.2.1, 0, v.2.2.1.2.2.2.2.2), v.2.2.2.1, v.2.2.2.2.1, 0, (-1)) 1 99).bind (fun u1 => (fX4_readRoof_L41 zF (u1.2.1, u1.2.2.1, u1.2.2.2.1, u1.2.2.2.2.1, (2 * u1.1), u1.2.2.2.2.2.2) 0).bind (fun u2 => tailR u2)) := rfl
theorem rc_e (t : TV) : fX4_readCoats t = (fX4_readCoat t).bind (fun u => fX4_readCoats_L6 zF u (nI 1)) := by
  unfold fX4_readCoats
  refine congrArg _ (funext fun u => ?_)
  show ((fX4_readCoats_L6 zF u (nI 1)).bind fun u2 => some u2) = _
  cases fX4_readCoats_L6 zF u (nI 1) <;> rfl
theorem tail_FA {n : Nat} {ch : Nat → Nat} (hC : CH n ch) {t : TV} {q : Nat} (h : FA n ch t q) : ∃ t', tailR t = some (nI q, t') ∧ Yl t' := by
  have h90 := hC.1
  unfold tailR
  rw [h.2.2.1, if_pos (nneg q (by have := h.1; omega))]
  exact end_FA hC h
theorem tail_FC {n : Nat} {ch : Nat → Nat} (hC : CH n ch) {t : TV} {q : Nat} (h : FC n ch t q) : ∃ t', tailR t = some (nI q, t') ∧ Yl t' := by
  unfold tailR
  rw [h.2.2.1, if_neg neg1, show fX4_takeLetter t 59 = _ from dg_no hC (x := 59) h.2.2.2 h.1 (by omega) (by omega) (by omega), bind_s]
  dsimp only
  rw [if00]
  exact end_FC hC h
theorem roof_ok {n : Nat} {ch : Nat → Nat} (hC : CH n ch) {t : TV} {mv : MV} {d : Int32} (h1 : t.2.2.2.1 = nI n) (h2 : ∀ j, j < n → t.1 j = nI (ch j)) (hY : Yl t) (hM : MS mv n ch 0) (hs : ∀ q, q < 407 → q ≠ 1 → mv.2.2.2.2.2.2.2.2.2.1 q = 0) (hd : mv.2.2.2.2.2.2.2.2.2.1 1 = d) : (∃ q t' y s', q ≤ n ∧ Yl t' ∧ fX4_readRoof t = some (nI q, t') ∧ fX7_isRoof mv = some (0, nI q, y, s')) ∨ (∃ q t' y s' c r m, Yl t' ∧ RD t' s' c r m d ∧ fX4_readRoof t = some (-1, t') ∧ fX7_isRoof mv = some (1, q, y, s')) := by
  have h90 := hC.1
  have hT0 : TS (t.1, (t.2.1.1, 0), (t.2.2.1.1, t.2.2.1.2.1, t.2.2.1.2.2.1, t.2.2.1.2.2.2.1, 0, t.2.2.1.2.2.2.2.2), t.2.2.2.1, t.2.2.2.2.1, 0, -1) n ch 0 := ⟨h1, rfl, h2⟩
  obtain ⟨z0, hz0⟩ : ∃ z, z = zF := ⟨_, rfl⟩
  have hzf := zF_lt (i := 100) (by omega)
  rw [roof_e]
  unfold fX7_isRoof
  rw [← hz0] at hzf ⊢
  obtain ⟨z1, rfl⟩ : ∃ z, z0 = z + 1 := ⟨z0 - 1, by omega⟩
  rcases num_cases hC (mv := mv) (lo := 1) (hi := 99) hT0 hM (by omega) rfl (by omega) (by omega) with ⟨q, z, yy, y', a1, a2, a3, a4⟩ | ⟨q, val, a1, a2, a3, a4, a5⟩ | ⟨q, val, y', a1, a2, a3, a4, a5⟩
  · rw [show fX4_readNumber (t.1, (t.2.1.1, 0), (t.2.2.1.1, t.2.2.1.2.1, t.2.2.1.2.2.1, t.2.2.1.2.2.2.1, 0, t.2.2.1.2.2.2.2.2), t.2.2.2.1, t.2.2.2.2.1, 0, -1) 1 99 = _ from a3, show fX7_isNumber mv 1 99 = _ from a4, bind_s, bind_s]
    dsimp only
    rw [if00, fX4_readRoof_L41, if_neg (by decide)]
    dsimp only
    rw [flt_f, if_pos (nneg q (by omega)), bind_s]
    have hfa : FA n ch (plc (flt (plc (t.1, (t.2.1.1, 0), (t.2.2.1.1, t.2.2.1.2.1, t.2.2.1.2.2.1, t.2.2.1.2.2.2.1, 0, t.2.2.1.2.2.2.2.2), t.2.2.2.1, 2 * yy, 0, -1) z) q) z) q := ⟨a1, hY, rfl, z, a2, ⟨h1, rfl, h2⟩⟩
    obtain ⟨t', b1, b2⟩ := tail_FA hC hfa
    exact Or.inl ⟨q, t', y', _, a1, b2, b1, rfl⟩
  rotate_left
  · rw [show fX4_readNumber (t.1, (t.2.1.1, 0), (t.2.2.1.1, t.2.2.1.2.1, t.2.2.1.2.2.1, t.2.2.1.2.2.2.1, 0, t.2.2.1.2.2.2.2.2), t.2.2.2.1, t.2.2.2.2.1, 0, -1) 1 99 = _ from a4, show fX7_isNumber mv 1 99 = _ from a5, bind_s, bind_s]
    dsimp only
    have hT2 : TS (plc (t.1, (t.2.1.1, 0), (t.2.2.1.1, t.2.2.1.2.1, t.2.2.1.2.2.1, t.2.2.1.2.2.2.1, 0, t.2.2.1.2.2.2.2.2), t.2.2.2.1, 2 * nI val, 0, -1) q) n ch q := ⟨h1, rfl, h2⟩
    rw [if00, fX4_readRoof_L41, if_neg (by decide)]
    dsimp only
    rw [plc_f]
    dsimp only
    rw [if_neg neg1]
    have htk := dg_no hC (x := 43) hT2 a1 (by omega) (by omega) (by omega)
    dsimp only [plc] at htk ⊢
    rw [show (43 : Int32) = nI 43 from rfl, htk, bind_s]
    dsimp only
    rw [if00, bind_s]
    obtain ⟨t', b1, b2⟩ := tail_FC hC (t := (plc (t.1, (t.2.1.1, 0), (t.2.2.1.1, t.2.2.1.2.1, t.2.2.1.2.2.1, t.2.2.1.2.2.2.1, 0, t.2.2.1.2.2.2.2.2), t.2.2.2.1, 2 * nI val, 0, -1) q)) ⟨a1, hY, rfl, hT2⟩
    exact Or.inl ⟨q, t', y', _, by have := (dg_lt a1).1; omega, b2, b1, rfl⟩
  rw [show fX4_readNumber (t.1, (t.2.1.1, 0), (t.2.2.1.1, t.2.2.1.2.1, t.2.2.1.2.2.1, t.2.2.1.2.2.2.1, 0, t.2.2.1.2.2.2.2.2), t.2.2.2.1, t.2.2.2.2.1, 0, -1) 1 99 = _ from a4, show fX7_isNumber mv 1 99 = _ from a5, bind_s, bind_s]
  dsimp only
  rw [if10]
  have hT2 : TS (plc (t.1, (t.2.1.1, 0), (t.2.2.1.1, t.2.2.1.2.1, t.2.2.1.2.2.1, t.2.2.1.2.2.2.1, 0, t.2.2.1.2.2.2.2.2), t.2.2.2.1, 2 * nI val, 0, -1) q) n ch q := ⟨h1, rfl, h2⟩
  have hs1 : zpt mv.2.2.2.2.2.2.2.2.2.1 44 (2 * nI val) = upd mv.2.2.2.2.2.2.2.2.2.1 44 (nI (2 * val)) := by
    rw [show (44 : Int32) = nI 44 from rfl, zpt_n _ (by omega), show (2 : Int32) = nI 2 from rfl, pk_mul]
  rw [hs1]
  have hRD : RD (plc (t.1, (t.2.1.1, 0), (t.2.2.1.1, t.2.2.1.2.1, t.2.2.1.2.2.1, t.2.2.1.2.2.2.1, 0, t.2.2.1.2.2.2.2.2), t.2.2.2.1, 2 * nI val, 0, -1) q) (upd mv.2.2.2.2.2.2.2.2.2.1 44 (nI (2 * val))) ((fun _ => 0), (fun _ => 0), (fun _ => 0), 0, 0) (fun _ => 0) 0 d := by
    have hu : ∀ k, k < 407 → k ≠ 1 → k ≠ 44 → upd mv.2.2.2.2.2.2.2.2.2.1 44 (nI (2 * val)) k = 0 := fun k h1 h2 h3 => by rw [upd_n h3]; exact hs k h1 h2
    refine ⟨⟨⟨rfl, hY.1, fun j hj => absurd hj (by simp)⟩, ⟨hu 3 (by omega) (by omega) (by omega), hu 0 (by omega) (by omega) (by omega), fun j hj => absurd hj (by simp)⟩, ⟨by simp, by simp, fun j hj => absurd hj (by simp)⟩, ?_⟩, rfl, fun j hj => absurd hj (by simp), ⟨rfl, hu 45 (by omega) (by omega) (by omega), by omega, fun j hj => absurd hj (by omega)⟩, ?_, hu 2 (by omega) (by omega) (by omega), hu 54 (by omega) (by omega) (by omega), ?_, 2 * val, by omega, by omega, upd_s⟩
    · rw [hu 2 (by omega) (by omega) (by omega)]
      exact hY.2
    · rw [upd_n (by omega)]
      exact hd
    · rw [upd_s]
      show (2 : Int32) * nI val = _
      rw [show (2 : Int32) = nI 2 from rfl, pk_mul]
  rcases rainsL hC (mv := (mv.1, mv.2.1, mv.2.2.1, mv.2.2.2.1, mv.2.2.2.2.1, (nI q), (nI val), mv.2.2.2.2.2.2.2.1, mv.2.2.2.2.2.2.2.2.1, (upd mv.2.2.2.2.2.2.2.2.2.1 44 (nI (2 * val))), mv.2.2.2.2.2.2.2.2.2.2)) hM.1 hM.2.2 8 0 (z1 + 1) (z1 + 1) _ q (nI val) (upd mv.2.2.2.2.2.2.2.2.2.1 44 (nI (2 * val))) _ rfl (by omega) (by omega) hT2 a1 rfl hRD with ⟨q', t', y', s', b1, b2, b3⟩ | ⟨q', t', y', s', r', m', b1, b2, b3, b4, b5, b6⟩ | ⟨q', t', y', s', b1, b2, b3⟩
  · obtain ⟨t2, c1, c2⟩ := tail_FA hC b1
    dsimp only [plc] at b2 ⊢
    rw [show fX4_readRoof_L41 (z1 + 1) (t.1, (t.2.1.1, 0), (t.2.2.1.1, t.2.2.1.2.1, t.2.2.1.2.2.1, t.2.2.1.2.2.2.1, 0, t.2.2.1.2.2.2.2.2), t.2.2.2.1, 2 * nI val, nI q, -1) 0 = _ from b2, bind_s, c1, b3, bind_s]
    exact Or.inl ⟨q', t2, y', s', b1.1, c2, rfl, rfl⟩
  rotate_left
  · obtain ⟨t2, c1, c2⟩ := tail_FC hC b1
    dsimp only [plc] at b2 ⊢
    rw [show fX4_readRoof_L41 (z1 + 1) (t.1, (t.2.1.1, 0), (t.2.2.1.1, t.2.2.1.2.1, t.2.2.1.2.2.1, t.2.2.1.2.2.2.1, 0, t.2.2.1.2.2.2.2.2), t.2.2.2.1, 2 * nI val, nI q, -1) 0 = _ from b2, bind_s, c1, b3, bind_s]
    exact Or.inl ⟨q', t2, y', s', by have := (dg_lt b1.1).1; omega, c2, rfl, rfl⟩
  dsimp only [plc] at b5 ⊢
  rw [show fX4_readRoof_L41 (z1 + 1) (t.1, (t.2.1.1, 0), (t.2.2.1.1, t.2.2.1.2.1, t.2.2.1.2.2.1, t.2.2.1.2.2.2.1, 0, t.2.2.1.2.2.2.2.2), t.2.2.2.1, 2 * nI val, nI q, -1) 0 = _ from b5, bind_s, b6, bind_s]
  unfold zrt tailR
  dsimp only
  rw [b3, if_neg neg1]
  have sg := p_take1 hC (x := 59) b2 b1 (by omega) (by omega)
  have sq := q_sign hC (mv := (mv.1, mv.2.1, mv.2.2.1, mv.2.2.2.1, mv.2.2.2.2.1, (nI q'), y', mv.2.2.2.2.2.2.2.1, mv.2.2.2.2.2.2.2.2.1, s', mv.2.2.2.2.2.2.2.2.2.2)) (p := q') (x := 59) ⟨hM.1, rfl, hM.2.2⟩ b1 (by omega)
  have hle := SK_le (ch := ch) b1
  rw [show fX4_takeLetter t' 59 = _ from sg, show fX7_isSign (mv.1, mv.2.1, mv.2.2.1, mv.2.2.2.1, mv.2.2.2.2.1, (nI q'), y', mv.2.2.2.2.2.2.2.1, mv.2.2.2.2.2.2.2.2.1, s', mv.2.2.2.2.2.2.2.2.2.2) 59 = _ from sq, bind_s, bind_s]
  have fin : ∀ (t3 : TV) (q3 : Nat) (y3 : Int32) (s3 : zAI) (c3 : Tm) (r3 : Nat → Nat) (m3 : Nat), q3 ≤ n → TS t3 n ch q3 → t3.2.2.2.2.2.2 = -1 → RD t3 s3 c3 r3 m3 d → (∃ q t' y s', q ≤ n ∧ Yl t' ∧ endR t3 = some (nI q, t') ∧ ((fX7_peek (mv.1, mv.2.1, mv.2.2.1, mv.2.2.2.1, mv.2.2.2.2.1, (nI q3), y3, mv.2.2.2.2.2.2.2.1, mv.2.2.2.2.2.2.2.2.1, s3, mv.2.2.2.2.2.2.2.2.2.2)).bind (fun u8 => if u8.1 = 0 then (some (1, u8.2, y3, s3)) else (some (0, u8.2, y3, s3)))) = some ((0 : Int32), nI q, y, s')) ∨ (∃ q t' y s' c r m, Yl t' ∧ RD t' s' c r m d ∧ endR t3 = some (-1, t') ∧ ((fX7_peek (mv.1, mv.2.1, mv.2.2.1, mv.2.2.2.1, mv.2.2.2.2.1, (nI q3), y3, mv.2.2.2.2.2.2.2.1, mv.2.2.2.2.2.2.2.2.1, s3, mv.2.2.2.2.2.2.2.2.2.2)).bind (fun u8 => if u8.1 = 0 then (some (1, u8.2, y3, s3)) else (some (0, u8.2, y3, s3)))) = some ((1 : Int32), q, y, s')) := by
    intro t3 q3 y3 s3 c3 r3 m3 k1 k2 k3 k4
    have hle3 := SK_le (ch := ch) k1
    rw [q_peek hC (mv := (mv.1, mv.2.1, mv.2.2.1, mv.2.2.2.1, mv.2.2.2.2.1, (nI q3), y3, mv.2.2.2.2.2.2.2.1, mv.2.2.2.2.2.2.2.2.1, s3, mv.2.2.2.2.2.2.2.2.2.2)) (p := q3) ⟨hM.1, rfl, hM.2.2⟩ k1, bind_s]
    dsimp only
    rcases end_ok hC k1 k2 k3 k4.yl with ⟨e1, t4, e2, e3⟩ | ⟨e1, e2⟩
    · have hc := hC.2 _ e1
      unfold lt0
      rw [if_pos e1, if_neg (nI_ne0 (by omega) (by omega))]
      exact Or.inl ⟨_, t4, _, _, hle3, e3, e2, rfl⟩
    · unfold lt0
      rw [if_neg e1, if_pos (show nI 0 = (0 : Int32) from rfl)]
      exact Or.inr ⟨_, plc t3 (SK ch n q3), _, _, c3, r3, m3, k4.yl, k4, e2, rfl⟩
  by_cases q1 : lt0 ch n (SK ch n q') = 59
  · have hlt : SK ch n q' < n := by
      unfold lt0 at q1
      by_cases k : SK ch n q' < n
      · exact k
      · rw [if_neg k] at q1
        omega
    rw [if_pos q1, if_pos q1]
    dsimp only
    rw [if10, rc_e, ← hz0]
    rcases coatsL hC (mv := (mv.1, mv.2.1, mv.2.2.1, mv.2.2.2.1, mv.2.2.2.2.1, (nI (SK ch n q' + 1)), y', mv.2.2.2.2.2.2.2.1, mv.2.2.2.2.2.2.2.2.1, s', mv.2.2.2.2.2.2.2.2.2.2)) hM.1 hM.2.2 9 0 (z1 + 1) (z1 + 1) (plc t' (SK ch n q' + 1)) (SK ch n q' + 1) _ y' s' rfl (by omega) (by omega) (b2.plc _) (by omega) b3 b4 rfl with ⟨q2, t2, y2, s2, d1, d2, d3⟩ | ⟨q2, t2, y2, s2, c2, d1, d2, d3, d4, d5, d6⟩ | ⟨q2, t2, y2, s2, d1, d2, d3⟩
    · obtain ⟨t3, e1, e2⟩ := end_FA hC d1
      rw [show ((fX4_readCoat (plc t' (SK ch n q' + 1))).bind fun u => fX4_readCoats_L6 (z1 + 1) u (nI 1)) = _ from d2, bind_s, e1, d3, bind_s]
      exact Or.inl ⟨q2, t3, y2, s2, d1.1, e2, rfl, rfl⟩
    · rw [show ((fX4_readCoat (plc t' (SK ch n q' + 1))).bind fun u => fX4_readCoats_L6 (z1 + 1) u (nI 1)) = _ from d5, bind_s, d6, bind_s]
      exact fin t2 q2 y2 s2 c2 _ _ d1 d2 d3 d4
    · obtain ⟨t3, e1, e2⟩ := end_FC hC d1
      rw [show ((fX4_readCoat (plc t' (SK ch n q' + 1))).bind fun u => fX4_readCoats_L6 (z1 + 1) u (nI 1)) = _ from d2, bind_s, e1, d3, bind_s]
      exact Or.inl ⟨q2, t3, y2, s2, by have := (dg_lt d1.1).1; omega, e2, rfl, rfl⟩
  · rw [if_neg q1, if_neg q1]
    dsimp only
    rw [if00, fX7_isRoof_L79, if00, bind_s]
    exact fin (plc t' (SK ch n q')) (SK ch n q') y' s' _ _ _ hle (b2.plc _) b3 b4
