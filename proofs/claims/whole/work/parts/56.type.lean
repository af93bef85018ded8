/-! typing, and a roof taken over -/
def RelT (t : TV) (n3 : Int32) (t4 : zAI) : Prop := ∃ n ch, CH n ch ∧ t.2.2.2.1 = nI n ∧ n3 = nI n ∧ (∀ j, j < n → t.1 j = nI (ch j) ∧ t4 j = nI (ch j)) ∧ Yl t
theorem nar_ok {a : Nat} (h : a < 127) : vp_nar .char (nI a) = nI a := Value.int.inj (pk_charN (by omega)).1
theorem mod_ok : ∀ a, a < 127 → ((nI a).toUInt32 % 65536).toInt32 = nI a := by decide +kernel
theorem o_type {xv : XV} {mv : MV} (h : RelT xv.2.2.2.2.1 mv.2.2.2.1 mv.2.2.2.2.1) (x : Int32) : ∃ a t' n' s', fX6_type xv x = some (a, t') ∧ fX7_type mv x = some (a, n', s') ∧ RelT t' n' s' := by
  obtain ⟨n, ch, h1, h2, h3, h4, h5⟩ := id h
  have h90 := h1.1
  unfold fX6_type fX7_type
  by_cases q : rng x 32 126
  rotate_left
  · rw [out_f q, in_f q, bind_s, bind_s, if10, if00]
    exact ⟨_, _, _, _, rfl, rfl, h⟩
  rw [out_t q, in_t q, bind_s, bind_s, if00, if10, h2, h3]
  by_cases q2 : n = 90
  · subst q2
    rw [if_neg (by decide), if_pos (show nI 90 = (90 : Int32) from rfl)]
    exact ⟨_, _, _, _, rfl, rfl, h3 ▸ h⟩
  rw [if_pos (show nI n < (90 : Int32) from nI_lt (b := 90) (by omega) (by omega)), if_neg (by rw [show (90 : Int32) = nI 90 from rfl, neq (by omega) (by omega)]; exact q2)]
  obtain ⟨c, c1, c2, rfl⟩ := rng_n (a := 32) (b := 126) (by omega) q (by omega)
  rw [zlet_e, mod_ok c (by omega), zix_n (by omega) (by omega), zgrd_t, zpt_n _ (by omega), nI_1]
  have ha : fX4_append xv.2.2.2.2.1 (nI c) = some (upd xv.2.2.2.2.1.1 n (nI c), xv.2.2.2.2.1.2.1, xv.2.2.2.2.1.2.2.1, nI (n + 1), xv.2.2.2.2.1.2.2.2.2) := by
    unfold fX4_append zptC
    rw [h2, if_neg (show ¬ (90 : Int32) ≤ nI n from nI_ge (b := 90) (by omega) (by omega)), zix_n (by omega) (by omega), zgrd_t, nI_clamp (by omega), nar_ok (a := c) (by omega), nI_1]
  rw [ha, bind_s]
  refine ⟨_, _, _, _, rfl, rfl, n + 1, unp ch n c, ⟨by omega, fun j hj => ?_⟩, rfl, rfl, fun j hj => ?_, h5⟩
  · by_cases k : j = n
    · rw [k, unp_s]
      exact ⟨c1, c2⟩
    · rw [unp_n k]
      exact h1.2 j (by omega)
  · dsimp only
    by_cases k : j = n
    · rw [k, upd_s, upd_s, unp_s]
      exact ⟨rfl, rfl⟩
    · rw [upd_n k, upd_n k, unp_n k]
      exact h4 j (by omega)
