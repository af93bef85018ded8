/-! coats on the tape -/
theorem num_cases {n : Nat} {ch : Nat → Nat} (hC : CH n ch) {t : TV} {mv : MV} {p lo hi : Nat} (hT : TS t n ch p) (hM : MS mv n ch p) (hp : p ≤ n) (hf : t.2.2.2.2.2.2 = -1) (hlo : lo ≤ 1000) (hhi : hi ≤ 1000) : (∃ q z y y', q ≤ n ∧ z ≤ n ∧ fX4_readNumber t (nI lo) (nI hi) = some (y, flt (plc t z) q) ∧ fX7_isNumber mv (nI lo) (nI hi) = some (0, nI q, y')) ∨ (∃ q val, q ≤ n ∧ lo ≤ val ∧ val ≤ hi ∧ fX4_readNumber t (nI lo) (nI hi) = some (nI val, plc t q) ∧ fX7_isNumber mv (nI lo) (nI hi) = some (1, nI q, nI val)) ∨ (∃ q val y', dg ch n q ∧ lo ≤ val ∧ val ≤ hi ∧ fX4_readNumber t (nI lo) (nI hi) = some (nI val, plc t q) ∧ fX7_isNumber mv (nI lo) (nI hi) = some (0, nI q, y')) := by
  have hle := SK_le (ch := ch) hp
  rw [p_num hC hT hp hf hlo hhi]
  obtain ⟨y, hy⟩ := q_num hC hM hp hlo hhi
  rw [hy]
  by_cases q : dg ch n (SK ch n p)
  rotate_left
  · rw [if_pos q, if_pos q]
    exact Or.inl ⟨_, _, _, _, hle, hle, rfl, rfl⟩
  have b1 := (dg_lt q).1
  rw [if_neg (show ¬ ¬ dg ch n (SK ch n p) from fun h => h q), if_neg (show ¬ ¬ dg ch n (SK ch n p) from fun h => h q)]
  by_cases q2 : dg ch n (SK ch n p + 1)
  rotate_left
  · rw [if_pos q2, if_pos q2]
    by_cases q3 : lo ≤ ch (SK ch n p) - 48 ∧ ch (SK ch n p) - 48 ≤ hi
    · rw [if_pos q3, if_pos q3]
      exact Or.inr (Or.inl ⟨_, _, by omega, q3.1, q3.2, rfl, rfl⟩)
    · rw [if_neg q3, if_neg q3]
      exact Or.inl ⟨_, _, _, _, hle, by omega, rfl, rfl⟩
  have b2 := (dg_lt q2).1
  rw [if_neg (show ¬ ¬ dg ch n (SK ch n p + 1) from fun h => h q2), if_neg (show ¬ ¬ dg ch n (SK ch n p + 1) from fun h => h q2)]
  by_cases q3 : lo ≤ 10 * (ch (SK ch n p) - 48) + (ch (SK ch n p + 1) - 48) ∧ 10 * (ch (SK ch n p) - 48) + (ch (SK ch n p + 1) - 48) ≤ hi
  · rw [if_pos q3, if_pos q3]
    by_cases q4 : dg ch n (SK ch n p + 2)
    · rw [if_pos q4]
      exact Or.inr (Or.inr ⟨_, _, _, q4, q3.1, q3.2, rfl, rfl⟩)
    · rw [if_neg q4]
      exact Or.inr (Or.inl ⟨_, _, by omega, q3.1, q3.2, rfl, rfl⟩)
  · rw [if_neg q3, if_neg q3]
    exact Or.inl ⟨_, _, _, _, hle, by omega, rfl, rfl⟩
theorem kind_cases {n : Nat} {ch : Nat → Nat} (hC : CH n ch) {t : TV} {p : Nat} (hT : TS t n ch p) (hp : p ≤ n) : (∃ kk, kk ≤ 4 ∧ SK ch n p < n ∧ fX4_readKind t = some (nI kk, plc t (SK ch n p + 1)) ∧ fX7_kindBy (nI (lt0 ch n (SK ch n p))) = some (nI kk)) ∨ (fX4_readKind t = some (0, flt (plc t (SK ch n p)) (SK ch n p)) ∧ fX7_kindBy (nI (lt0 ch n (SK ch n p))) = some (-1)) := by
  have hle := SK_le (ch := ch) hp
  have h90 := hC.1
  have hl := lt0_le hC (SK ch n p)
  have t1 := p_take1 hC (x := 114) hT hp (by omega) (by omega)
  have tt : ∀ x, 0 < x → x < 1000 → fX4_takeLetter (plc t (SK ch n p)) (nI x) = some (if lt0 ch n (SK ch n p) = x then (1, plc t (SK ch n p + 1)) else (0, plc t (SK ch n p))) := by
    intro x h1 h2
    have := p_take1 hC (x := x) (hT.plc (SK ch n p)) hle h1 h2
    rw [SK_SK h90] at this
    exact this
  have lt : 0 < lt0 ch n (SK ch n p) → SK ch n p < n := by
    intro h
    unfold lt0 at h
    by_cases q : SK ch n p < n
    · exact q
    · rw [if_neg q] at h
      omega
  unfold fX4_readKind fX7_kindBy
  simp only [show (114 : Int32) = nI 114 from rfl, show (119 : Int32) = nI 119 from rfl, show (115 : Int32) = nI 115 from rfl, show (121 : Int32) = nI 121 from rfl, show (116 : Int32) = nI 116 from rfl]
  rw [t1, bind_s]
  by_cases q1 : lt0 ch n (SK ch n p) = 114
  · rw [if_pos q1, if_pos (congrArg nI q1)]
    exact Or.inl ⟨0, by omega, lt (by omega), rfl, rfl⟩
  rw [if_neg q1, if_neg (show ¬ nI (lt0 ch n (SK ch n p)) = nI 114 by rw [neq (by omega) (by omega)]; exact q1)]
  dsimp only
  rw [if00, tt 119 (by omega) (by omega), bind_s]
  by_cases q2 : lt0 ch n (SK ch n p) = 119
  · rw [if_pos q2, if_pos (congrArg nI q2)]
    exact Or.inl ⟨1, by omega, lt (by omega), rfl, rfl⟩
  rw [if_neg q2, if_neg (show ¬ nI (lt0 ch n (SK ch n p)) = nI 119 by rw [neq (by omega) (by omega)]; exact q2)]
  dsimp only
  rw [if00, tt 115 (by omega) (by omega), bind_s]
  by_cases q3 : lt0 ch n (SK ch n p) = 115
  · rw [if_pos q3, if_pos (congrArg nI q3)]
    exact Or.inl ⟨2, by omega, lt (by omega), rfl, rfl⟩
  rw [if_neg q3, if_neg (show ¬ nI (lt0 ch n (SK ch n p)) = nI 115 by rw [neq (by omega) (by omega)]; exact q3)]
  dsimp only
  rw [if00, tt 121 (by omega) (by omega), bind_s]
  by_cases q4 : lt0 ch n (SK ch n p) = 121
  · rw [if_pos q4, if_pos (congrArg nI q4)]
    exact Or.inl ⟨3, by omega, lt (by omega), rfl, rfl⟩
  rw [if_neg q4, if_neg (show ¬ nI (lt0 ch n (SK ch n p)) = nI 121 by rw [neq (by omega) (by omega)]; exact q4)]
  dsimp only
  rw [if00, tt 116 (by omega) (by omega), bind_s]
  by_cases q5 : lt0 ch n (SK ch n p) = 116
  · rw [if_pos q5, if_pos (congrArg nI q5)]
    exact Or.inl ⟨4, by omega, lt (by omega), rfl, rfl⟩
  rw [if_neg q5, if_neg (show ¬ nI (lt0 ch n (SK ch n p)) = nI 116 by rw [neq (by omega) (by omega)]; exact q5)]
  exact Or.inr ⟨rfl, rfl⟩
def RD (t : TV) (s : zAI) (c : Tm) (r : Nat → Nat) (m : Nat) (d : Int32) : Prop := Sm t.2.2.1 s c ∧ c.2.2.2.2 = 0 ∧ (∀ j, j < c.2.2.2.1 → t.2.2.1.2.2.2.1 j = s (34 + j)) ∧ RW t.2.1 s r m ∧ s 1 = d ∧ s 2 = 0 ∧ s 54 = 0 ∧ t.2.2.2.2.1 = s 44 ∧ ∃ w, 1 ≤ w ∧ w ≤ 200 ∧ s 44 = nI w
def Yl (t : TV) : Prop := t.2.2.1.2.2.2.2.2.1 = 0 ∧ t.2.2.1.2.2.2.2.2.2.1 = 0
theorem RD.yl {t : TV} {s : zAI} {c : Tm} {r : Nat → Nat} {m : Nat} {d : Int32} (h : RD t s c r m d) : Yl t := by
  obtain ⟨h1, h2, h3, h4, h5, h6, h7⟩ := h
  refine ⟨?_, ?_⟩
  · rw [h1.1.2.1, h2]
    rfl
  · rw [h1.2.2.2]
    exact h6
theorem put_yl {v v' : CV} {a b e : Int32} (h : fX0_putOver v a b e = some v') : v'.2.2.2.2.2 = v.2.2.2.2.2 := by
  unfold fX0_putOver at h
  by_cases q : v.2.2.2.2.1 < 10
  · rw [if_pos q] at h
    cases hz : zix v.2.2.2.2.1 10 with
    | false => rw [hz] at h; cases h
    | true => rw [hz, zgrd_t] at h; cases h; rfl
  · rw [if_neg q] at h
    cases h
    rfl
theorem put_RD {t : TV} {s : zAI} {c : Tm} {r : Nat → Nat} {m : Nat} {d : Int32} (h : RD t s c r m d) (hn : c.2.2.2.1 < 10) {kk tt dd : Nat} (bk : kk ≤ 4) (bt : 1 ≤ tt ∧ tt ≤ 20) (bd : dd ≤ 9) : ∃ v' s', fX0_putOver t.2.2.1 (nI kk) (nI tt) (nI dd) = some v' ∧ fX7_addCoat s (nI kk) (nI tt) (nI dd) = some (nI c.2.2.2.1, s') ∧ ∀ t' : TV, t'.2.1 = t.2.1 → t'.2.2.1 = v' → t'.2.2.2.2.1 = t.2.2.2.2.1 → RD t' s' (putT c kk tt dd) r m d := by
  obtain ⟨h1, h2, h3, h4, h5, h6, h7, h8, w, w1, w2, w3⟩ := h
  obtain ⟨v', s', p1, p2, p3, p4, p5, p6, p7, p8, p9⟩ := put_ok h1 hn bk bt bd
  refine ⟨v', s', p1, p2, fun t' e1 e2 e3 => ?_⟩
  have hy := put_yl p1
  refine ⟨by rw [e2]; exact p3, h2, fun j hj => ?_, ?_, by rw [p5]; exact h5, ?_, by rw [p9 54 (by omega)]; exact h7, by rw [e3, p9 44 (by omega)]; exact h8, w, w1, w2, by rw [p9 44 (by omega)]; exact w3⟩
  · have hj' : j < c.2.2.2.1 + 1 := hj
    rw [e2]
    by_cases q : j = c.2.2.2.1
    · rw [q, p7, p8, h1.1.2.1, h1.2.1.2.1]
    · rw [(p6 j (by omega)).1, (p6 j (by omega)).2]
      exact h3 j (by omega)
  · rw [e1]
    exact h4.keep (fun q a b => p9 q (by omega))
  · rw [← p3.2.2.2, hy, h1.2.2.2]
    exact h6
theorem zgt0 (f : zAI) : zgt f 0 = f 0 := rfl
theorem addc {s s' : zAI} {a b : Int32} {k : Nat} (dd : Int32) (hk : s 3 = nI k) (h10 : k < 10) (h : fX7_addCoat s a b dd = some (nI k, s')) : ∃ s0, fX7_addCoat s a b 0 = some (nI k, s0) ∧ upd s0 (24 + k) dd = s' := by
  unfold fX7_addCoat at h ⊢
  simp (disch := omega) only [hk, zgt0, show (4 : Int32) = nI 4 from rfl, show (14 : Int32) = nI 14 from rfl, show (24 : Int32) = nI 24 from rfl, show (34 : Int32) = nI 34 from rfl, show (3 : Int32) = nI 3 from rfl, nI_add, zix_n, zgrd_t, zpt_n, zgt_n, upd_n] at h ⊢
  refine ⟨_, rfl, ?_⟩
  injection h with h
  injection h with h1 h2
  rw [← h2]
  funext q
  by_cases q1 : q = 24 + k
  · subst q1
    simp (disch := omega) only [upd_s, upd_n]
  · rw [upd_n q1]
    unfold upd
    simp only [q1, if_false]
