/-! a year: how much each coat takes, how damp it is then, what leaks; in numbers -/
def sgN (t d : Nat) : Nat := if d = 0 then t + 2 else t
def capN (k t d y : Nat) : Nat := if k = 0 then t else if k = 1 then t / 2 else if k = 2 then sgN t d else if k = 3 then t / 2 + y % 2 else 2 * sgN t d
def dmN (d tk : Nat) : Nat := if tk = 0 then d - 2 else min 9 (d + tk / 2)
theorem sgN_le {t d : Nat} (h : t ≤ 20) : sgN t d ≤ 22 := by unfold sgN; split <;> omega
theorem capN_le {k t d y : Nat} (h : t ≤ 20) : capN k t d y ≤ 44 := by
  have := @sgN_le t d h
  unfold capN
  repeat' split
  all_goals omega
theorem dmN_le {d tk : Nat} (h : d ≤ 9) : dmN d tk ≤ 9 := by unfold dmN; split <;> omega
/-- the sum of m numbers from place i on -/
def ds (f : Nat → Nat) : Nat → Nat → Nat
  | _, 0 => 0
  | i, m + 1 => f i + ds f (i + 1) m
theorem ds_lo (f : Nat → Nat) {i n : Nat} (h : i < n) : ds f i (n - i) = f i + ds f (i + 1) (n - (i + 1)) := by
  rw [show n - i = (n - (i + 1)) + 1 by omega, ds]
theorem ds_le (f : Nat → Nat) (B : Nat) : ∀ (m i : Nat), (∀ j, i ≤ j → j < i + m → f j ≤ B) → ds f i m ≤ m * B
  | 0, _, _ => by simp [ds]
  | m + 1, i, h => by
    have h1 := h i (by omega) (by omega)
    have h2 := ds_le f B m (i + 1) (fun j a b => h j (by omega) (by omega))
    rw [ds, Nat.add_mul]
    omega
theorem p_sedge {v : CV} {j t d : Nat} (hj : j < 10) (ht : v.2.1 j = nI t) (hd : v.2.2.1 j = nI d) (bt : t ≤ 20) (bd : d ≤ 9) : fX0_takenAsSedge v (nI j) = some (nI (sgN t d)) := by
  unfold fX0_takenAsSedge sgN
  rw [zix_n (by omega) (by omega), zgrd_t, zgt_n _ (by omega), zgt_n _ (by omega), ht, hd]
  simp (disch := omega) only [zlit, nI_add, neq]
  split <;> rfl
theorem p_most {v : CV} {j k t d y : Nat} (hj : j < 10) (hk : v.1 j = nI k) (ht : v.2.1 j = nI t) (hd : v.2.2.1 j = nI d) (hy : v.2.2.2.2.2.1 = nI y) (bk : k ≤ 4) (bt : t ≤ 20) (bd : d ≤ 9) (bY : y < 100000) : fX0_mostTaken v (nI j) = some (nI (capN k t d y)) := by
  unfold fX0_mostTaken capN
  rw [zix_n (by omega) (by omega), zgrd_t, zgt_n _ (by omega), zgt_n _ (by omega), hk, ht, hy, p_sedge hj ht hd bt bd]
  simp (disch := omega) only [zlit, nI_add, pk_mul, neq, ndiv, nremN, bind_s]
  rcases (by omega : k = 0 ∨ k = 1 ∨ k = 2 ∨ k = 3 ∨ k = 4) with q | q | q | q | q <;> subst q <;> rfl
theorem q_cap {s : zAI} {j k t d y : Nat} (hj : j < 10) (hk : s (4 + j) = nI k) (ht : s (14 + j) = nI t) (hd : s (24 + j) = nI d) (hy : s 0 = nI y) (bk : k ≤ 4) (bt : t ≤ 20) (bd : d ≤ 9) (bY : y < 100000) : fX7_capOf s (nI j) = some (nI (capN k t d y)) := by
  unfold fX7_capOf capN sgN
  simp only [zlit, nI_add]
  rw [zix_n (by omega) (by omega), zgrd_t, zix_n (by omega) (by omega), zgrd_t, zix_n (by omega) (by omega), zgrd_t, zgrd_t, zgt_n _ (by omega), zgt_n _ (by omega), zgt_n _ (by omega), zgt_n _ (by omega), hk, ht, hd, hy]
  simp (disch := omega) only [zlit, nI_add, pk_mul, neq, ndiv, nremN]
  rcases (by omega : k = 0 ∨ k = 1 ∨ k = 2 ∨ k = 3 ∨ k = 4) with q | q | q | q | q <;> subst q <;> by_cases e : d = 0 <;> simp [e]
theorem p_damp {a b dm : zAI} {e : zAI × Int32 × Int32 × Int32 × Int32} {j d tk : Nat} (hj : j < 10) (hd : dm j = nI d) (bd : d ≤ 9) (bk : tk ≤ 1000) : fX0_dampen (a, b, dm, e) (nI j) (nI tk) = some (a, b, upd dm j (nI (dmN d tk)), e) := by
  unfold fX0_dampen dmN
  dsimp only
  rw [zix_n (by omega) (by omega), zgrd_t, zgrd_t, zgt_n _ (by omega), zpt_n _ (by omega), zpt_n _ (by omega), hd]
  have e1 : (if (0 : Int32) < nI d - 2 then nI d - 2 else 0) = nI (d - 2) := by
    simp (disch := omega) only [zlit, nlt_sub]
    by_cases q2 : 2 < d
    · rw [if_pos (by omega), nsub (by omega)]
    · rw [if_neg (by omega), show d - 2 = 0 by omega]
  have e2 : (if nI d + nI tk / 2 < (9 : Int32) then nI d + nI tk / 2 else 9) = nI (min 9 (d + tk / 2)) := by
    simp (disch := omega) only [zlit, ndiv, nI_add, nlt]
    by_cases q2 : d + tk / 2 < 9
    · rw [if_pos q2, Nat.min_eq_right (by omega)]
    · rw [if_neg q2, Nat.min_eq_left (by omega)]
  rw [e1, e2]
  by_cases q : tk = 0
  · subst q
    rw [if_pos (show nI 0 = (0 : Int32) from rfl), if_pos rfl]
  · rw [if_neg (by rw [show (0 : Int32) = nI 0 from rfl, neq (by omega) (by omega)]; exact q), if_neg q]
/-- how the coats are: kind, thick, damp, how many, which year -/
def RC (v : CV) (k t d : Nat → Nat) (n y : Nat) : Prop := v.2.2.2.2.1 = nI n ∧ v.2.2.2.2.2.1 = nI y ∧ ∀ j, j < n → v.1 j = nI (k j) ∧ v.2.1 j = nI (t j) ∧ v.2.2.1 j = nI (d j)
def RS (s : zAI) (k t d : Nat → Nat) (n y : Nat) : Prop := s 3 = nI n ∧ s 0 = nI y ∧ ∀ j, j < n → s (4 + j) = nI (k j) ∧ s (14 + j) = nI (t j) ∧ s (24 + j) = nI (d j)
def OKc (k t d : Nat → Nat) (n y : Nat) : Prop := n ≤ 10 ∧ y < 100000 ∧ ∀ j, j < n → k j ≤ 4 ∧ 1 ≤ t j ∧ t j ≤ 20 ∧ d j ≤ 9
def cap (k t d : Nat → Nat) (y : Nat) : Nat → Nat := fun j => capN (k j) (t j) (d j) y
def tkY (k t d : Nat → Nat) (n y w j : Nat) : Nat := min (w - ds (cap k t d y) (j + 1) (n - (j + 1))) (cap k t d y j)
def d1 (k t d : Nat → Nat) (n y w : Nat) : Nat → Nat := fun j => dmN (d j) (tkY k t d n y w j)
def t1 (t : Nat → Nat) (n : Nat) : Nat → Nat := fun j => if j + 1 = n then t j - 1 else t j
def n1 (t : Nat → Nat) (n : Nat) : Nat := if n = 0 then 0 else if t (n - 1) ≤ 1 then n - 1 else n
def lkY (k t d : Nat → Nat) (n y w : Nat) : Nat := w - ds (cap k t d y) 0 n
theorem OKc.next {k t d : Nat → Nat} {n y w : Nat} (h : OKc k t d n y) (hy : y + 1 < 100000) : OKc k (t1 t n) (d1 k t d n y w) (n1 t n) (y + 1) := by
  obtain ⟨h1, h2, h3⟩ := h
  unfold OKc n1
  refine ⟨by split <;> (try split) <;> omega, hy, fun j hj => ?_⟩
  have hjn : j < n ∧ (j + 1 = n → 1 < t (n - 1)) := by
    split at hj
    · omega
    · split at hj
      · exact ⟨by omega, by omega⟩
      · exact ⟨hj, fun _ => by omega⟩
  obtain ⟨a1, a2, a3, a4⟩ := h3 j hjn.1
  refine ⟨a1, ?_, ?_, dmN_le a4⟩
  · unfold t1
    split
    · have := hjn.2 (by assumption)
      rw [show n - 1 = j by omega] at this
      omega
    · exact a2
  · unfold t1
    split <;> omega
theorem p_passL {k t d : Nat → Nat} {n y w : Nat} (hO : OKc k t d n y) (bw : w ≤ 1000) {a b : zAI} {e : zAI × Int32 × Int32 × Int32 × Int32} (he : e.2.2.1 = nI y) (ha : ∀ j, j < n → a j = nI (k j) ∧ b j = nI (t j)) :
    ∀ (i fuel : Nat) (dm : zAI), i ≤ n → i < fuel → (∀ j, j < n → dm j = nI (if i ≤ j then d1 k t d n y w j else d j)) → ∃ dm', fX0_passYear_L9 fuel (a, b, dm, e) (nI (w - ds (cap k t d y) i (n - i))) (nI i - 1) = some (nI (lkY k t d n y w), (a, b, dm', e)) ∧ ∀ j, j < n → dm' j = nI (d1 k t d n y w j) := by
  obtain ⟨o1, o2, o3⟩ := hO
  intro i
  induction i with
  | zero =>
    intro fuel dm hi hf hd
    obtain ⟨f, rfl⟩ : ∃ f, fuel = f + 1 := ⟨fuel - 1, by omega⟩
    refine ⟨dm, ?_, fun j hj => by rw [hd j hj, if_pos (Nat.zero_le j)]⟩
    rw [fX0_passYear_L9, if_pos (by simp only [zlit, nneg0])]
    rfl
  | succ i ih =>
    intro fuel dm hi hf hd
    obtain ⟨f, rfl⟩ : ∃ f, fuel = f + 1 := ⟨fuel - 1, by omega⟩
    obtain ⟨b1, b2, b3, b4⟩ := o3 i (by omega)
    have hdi : dm i = nI (d i) := by rw [hd i (by omega), if_neg (by omega)]
    have hc : cap k t d y i ≤ 44 := capN_le b3
    have hlo := ds_lo (cap k t d y) (i := i) (n := n) (by omega)
    have hmo : fX0_mostTaken (a, b, dm, e) (nI i) = some (nI (cap k t d y i)) := p_most (by omega) (ha i (by omega)).1 (ha i (by omega)).2 hdi he b1 b3 b4 o2
    rw [fX0_passYear_L9, nI_pred, if_neg (nI_pos (by omega)), hmo, bind_s]
    have hm : (if nI (cap k t d y i) < nI (w - ds (cap k t d y) (i + 1) (n - (i + 1))) then nI (cap k t d y i) else nI (w - ds (cap k t d y) (i + 1) (n - (i + 1)))) = nI (tkY k t d n y w i) := by
      rw [show tkY k t d n y w i = min (w - ds (cap k t d y) (i + 1) (n - (i + 1))) (cap k t d y i) from rfl]
      by_cases q : cap k t d y i < w - ds (cap k t d y) (i + 1) (n - (i + 1))
      · rw [if_pos (nI_lt q (by omega)), Nat.min_eq_right (by omega)]
      · rw [if_neg (nI_nlt (by omega) (by omega)), Nat.min_eq_left (by omega)]
    have ht : tkY k t d n y w i = min (w - ds (cap k t d y) (i + 1) (n - (i + 1))) (cap k t d y i) := rfl
    rw [hm, p_damp (by omega) hdi b4 (by omega), bind_s, zm1, nsub (by omega)]
    obtain ⟨dm', g1, g2⟩ := ih f (upd dm i (nI (dmN (d i) (tkY k t d n y w i)))) (by omega) (by omega) (fun j hj => by
      by_cases q : j = i
      · subst q
        rw [upd_s, if_pos (Nat.le_refl _)]
        rfl
      · rw [upd_n q, hd j hj]
        by_cases q2 : i ≤ j
        · rw [if_pos (by omega), if_pos q2]
        · rw [if_neg (by omega), if_neg q2])
    refine ⟨dm', ?_, g2⟩
    rw [← g1]
    congr 2
    omega
