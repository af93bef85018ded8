/-! the year of the class, and the reference's -/
theorem zF_lt {i : Nat} (h : i ≤ 1000000) : i < zF := by unfold zF; omega
theorem p_wear {a b dm ld : zAI} {yr lk dr : Int32} {t : Nat → Nat} {n : Nat} (hn : n ≤ 10) (hb : ∀ j, j < n → b j = nI (t j)) (ht : ∀ j, j < n → 1 ≤ t j ∧ t j ≤ 20) : ∃ b', fX0_wearTop (a, b, dm, ld, nI n, yr, lk, dr) = some (a, b', dm, ld, nI (n1 t n), yr, lk, dr) ∧ ∀ j, j < n → b' j = nI (t1 t n j) := by
  unfold fX0_wearTop n1
  dsimp only
  by_cases q : n = 0
  · subst q
    exact ⟨b, by rw [if_pos (show nI 0 = (0 : Int32) from rfl), if_pos rfl], fun j hj => by omega⟩
  · have h1 := ht (n - 1) (by omega)
    have h2 := hb (n - 1) (by omega)
    refine ⟨upd b (n - 1) (nI (t (n - 1) - 1)), ?_, fun j hj => ?_⟩
    · rw [if_neg (by rw [show (0 : Int32) = nI 0 from rfl, neq (by omega) (by omega)]; exact q), if_neg q]
      simp (disch := omega) only [zlit, nsub, zix_n, zgrd_t, zgt_n, zpt_n, h2, upd_s, nlt]
      by_cases q2 : t (n - 1) ≤ 1
      · rw [if_neg (by omega), if_pos q2]
      · rw [if_pos (by omega), if_neg q2]
    · unfold t1
      by_cases q2 : j + 1 = n
      · rw [if_pos q2, show n - 1 = j by omega, upd_s]
      · rw [if_neg q2, upd_n (by omega), hb j hj]
theorem p_pass {k t d : Nat → Nat} {n y w : Nat} (hO : OKc k t d n y) (bw : w ≤ 1000) {v : CV} (hR : RC v k t d n y) : ∃ v' : CV, fX0_passYear v (nI w) = some (nI (lkY k t d n y w), v') ∧ RC v' k (t1 t n) (d1 k t d n y w) (n1 t n) (y + 1) ∧ v'.2.2.2.1 = v.2.2.2.1 ∧ v'.2.2.2.2.2.2.1 = v.2.2.2.2.2.2.1 + nI (lkY k t d n y w) ∧ v'.2.2.2.2.2.2.2 = v.2.2.2.2.2.2.2 := by
  obtain ⟨a, b, dm, ld, sz, yr, lk, dr⟩ := v
  obtain ⟨h1, h2, h3⟩ := hR
  dsimp only at h1 h2 h3
  subst h1
  subst h2
  have o1 := hO.1
  obtain ⟨dm', g1, g2⟩ := p_passL (a := a) (b := b) (e := (ld, nI n, nI y, lk, dr)) hO bw rfl (fun j hj => ⟨(h3 j hj).1, (h3 j hj).2.1⟩) n zF dm (Nat.le_refl n) (zF_lt (by omega)) (fun j hj => by rw [if_neg (by omega)]; exact (h3 j hj).2.2)
  rw [Nat.sub_self, show ds (cap k t d y) n 0 = 0 from rfl, Nat.sub_zero] at g1
  obtain ⟨b', w1, w2⟩ := p_wear (a := a) (b := b) (dm := dm') (ld := ld) (yr := nI y) (lk := lk + nI (lkY k t d n y w)) (dr := dr) o1 (fun j hj => (h3 j hj).2.1) (fun j hj => ⟨(hO.2.2 j hj).2.1, (hO.2.2 j hj).2.2.1⟩)
  refine ⟨(a, b', dm', ld, nI (n1 t n), nI y + 1, lk + nI (lkY k t d n y w), dr), ?_, ⟨rfl, nI_1 y, fun j hj => ?_⟩, rfl, rfl, rfl⟩
  · unfold fX0_passYear
    dsimp only
    rw [g1, bind_s]
    dsimp only
    rw [w1, bind_s]
  · have hjn : j < n := by
      unfold n1 at hj
      split at hj
      · omega
      · split at hj <;> omega
    exact ⟨(h3 j hjn).1, w2 j hjn, g2 j hjn⟩
theorem q_poursL {k t d : Nat → Nat} {n y w : Nat} (hO : OKc k t d n y) (bw : w ≤ 1000) {s : zAI} (hR : RS s k t d n y) :
    ∀ (i fuel : Nat) (tk : zAI), i ≤ n → i < fuel → (∀ j, i ≤ j → j < n → tk j = nI (tkY k t d n y w j)) → ∃ tk', fX7_pours_L9 fuel tk s (nI (w - ds (cap k t d y) i (n - i))) (nI i - 1) = some (nI (lkY k t d n y w), tk') ∧ ∀ j, j < n → tk' j = nI (tkY k t d n y w j) := by
  obtain ⟨o1, o2, o3⟩ := hO
  obtain ⟨r1, r2, r3⟩ := hR
  intro i
  induction i with
  | zero =>
    intro fuel tk hi hf hd
    obtain ⟨f, rfl⟩ : ∃ f, fuel = f + 1 := ⟨fuel - 1, by omega⟩
    refine ⟨tk, ?_, fun j hj => hd j (Nat.zero_le j) hj⟩
    rw [fX7_pours_L9, if_pos (by simp only [zlit, nneg0])]
    rfl
  | succ i ih =>
    intro fuel tk hi hf hd
    obtain ⟨f, rfl⟩ : ∃ f, fuel = f + 1 := ⟨fuel - 1, by omega⟩
    obtain ⟨b1, b2, b3, b4⟩ := o3 i (by omega)
    obtain ⟨c1, c2, c3⟩ := r3 i (by omega)
    have hc : cap k t d y i ≤ 44 := capN_le b3
    have hlo := ds_lo (cap k t d y) (i := i) (n := n) (by omega)
    have hcp : fX7_capOf s (nI i) = some (nI (cap k t d y i)) := q_cap (by omega) c1 c2 c3 r2 b1 b3 b4 o2
    have ht : tkY k t d n y w i = min (w - ds (cap k t d y) (i + 1) (n - (i + 1))) (cap k t d y i) := rfl
    rw [fX7_pours_L9, nI_pred, if_neg (nI_pos (by omega)), hcp, bind_s]
    have hx : ∀ q : Nat, q = tkY k t d n y w i → ∃ tk', fX7_pours_L9 f (zpt tk (nI i) (nI q)) s (nI (w - ds (cap k t d y) (i + 1) (n - (i + 1))) - zgt (zpt tk (nI i) (nI q)) (nI i)) (nI i + -1) = some (nI (lkY k t d n y w), tk') ∧ ∀ j, j < n → tk' j = nI (tkY k t d n y w j) := by
      intro q hq
      subst hq
      simp (disch := omega) only [zgt_n, zpt_n, upd_s]
      rw [zm1, nsub (by omega)]
      obtain ⟨tk', g1, g2⟩ := ih f (upd tk i (nI (tkY k t d n y w i))) (by omega) (by omega) (fun j h1 h2 => by
        by_cases q : j = i
        · subst q
          rw [upd_s]
        · rw [upd_n q, hd j (by omega) h2])
      refine ⟨tk', ?_, g2⟩
      rw [← g1]
      congr 2
      omega
    rw [zix_n (by omega) (by omega), zgrd_t, zgrd_t]
    by_cases q : cap k t d y i ≤ w - ds (cap k t d y) (i + 1) (n - (i + 1))
    · rw [if_pos (nI_le q (by omega))]
      exact hx _ (by omega)
    · rw [if_neg (nI_ge (by omega) (by omega))]
      exact hx _ (by omega)
theorem q_pours {k t d : Nat → Nat} {n y w : Nat} (hO : OKc k t d n y) (bw : w ≤ 1000) {s : zAI} (hR : RS s k t d n y) (tk : zAI) : ∃ tk', fX7_pours tk s (nI w) = some (nI (lkY k t d n y w), tk') ∧ ∀ j, j < n → tk' j = nI (tkY k t d n y w j) := by
  have o1 := hO.1
  obtain ⟨tk', g1, g2⟩ := q_poursL hO bw hR n zF tk (Nat.le_refl n) (zF_lt (by omega)) (fun j h1 h2 => by omega)
  rw [Nat.sub_self, show ds (cap k t d y) n 0 = 0 from rfl, Nat.sub_zero] at g1
  refine ⟨tk', ?_, g2⟩
  unfold fX7_pours
  rw [show zgt s 3 = s 3 from rfl, hR.1, g1, bind_s]
theorem q_dampL {d e : Nat → Nat} {n : Nat} (hn : n ≤ 10) (hd : ∀ j, j < n → d j ≤ 9) (he : ∀ j, j < n → e j ≤ 1000) {tk : zAI} (ht : ∀ j, j < n → tk j = nI (e j)) (x3 : Int32) :
    ∀ (m i fuel : Nat) (s : zAI), i + m = n → m < fuel → s 3 = nI n → (∀ j, j < n → s (24 + j) = nI (if j < i then dmN (d j) (e j) else d j)) → ∃ s', fX7_yearBy_L10 fuel tk s x3 (nI i) = some s' ∧ (∀ j, j < n → s' (24 + j) = nI (dmN (d j) (e j))) ∧ ∀ q, (q < 24 ∨ 34 ≤ q) → s' q = s q := by
  intro m
  induction m with
  | zero =>
    intro i fuel s hi hf h3 hs
    obtain ⟨f, rfl⟩ : ∃ f, fuel = f + 1 := ⟨fuel - 1, by omega⟩
    refine ⟨s, ?_, fun j hj => by rw [hs j hj, if_pos (by omega)], fun _ _ => rfl⟩
    rw [fX7_yearBy_L10, show zgt s 3 = s 3 from rfl, h3, if_pos (nI_le (by omega) (by omega))]
  | succ m ih =>
    intro i fuel s hi hf h3 hs
    obtain ⟨f, rfl⟩ : ∃ f, fuel = f + 1 := ⟨fuel - 1, by omega⟩
    have hd1 := hd i (by omega)
    have he1 := he i (by omega)
    have hs1 : s (24 + i) = nI (d i) := by rw [hs i (by omega), if_neg (by omega)]
    have key : ∀ x : Int32, x = nI (dmN (d i) (e i)) → ∃ s', fX7_yearBy_L10 f tk (zpt s (nI (24 + i)) x) x3 (nI (i + 1)) = some s' ∧ (∀ j, j < n → s' (24 + j) = nI (dmN (d j) (e j))) ∧ ∀ q, (q < 24 ∨ 34 ≤ q) → s' q = s q := by
      intro x hx
      subst hx
      rw [zpt_n _ (by omega)]
      obtain ⟨s', g1, g2, g3⟩ := ih (i + 1) f (upd s (24 + i) (nI (dmN (d i) (e i)))) (by omega) (by omega) (by rw [upd_n (by omega), h3]) (fun j hj => by
        by_cases q : j = i
        · subst q
          rw [upd_s, if_pos (by omega)]
        · rw [upd_n (by omega), hs j hj]
          by_cases q2 : j < i
          · rw [if_pos q2, if_pos (by omega)]
          · rw [if_neg q2, if_neg (by omega)])
      exact ⟨s', g1, g2, fun q hq => by rw [g3 q hq, upd_n (by omega)]⟩
    rw [fX7_yearBy_L10, show zgt s 3 = s 3 from rfl, h3, if_neg (nI_ge (by omega) (by omega))]
    simp (disch := omega) only [zlit, nI_add, zix_n, zgrd_t, zgt_n, ht i (by omega), hs1, neq, ndiv]
    by_cases q : e i = 0
    · rw [if_pos q]
      rw [show nI (d i) + -nI 2 = nI (d i) - nI 2 by rw [Int32.sub_eq_add_neg]]
      by_cases q2 : 2 ≤ d i
      · rw [if_pos (by rw [nle_sub (by omega) (by omega) (by omega)]; omega), if_pos (by rw [nsub_le (by omega) (by omega) (by omega)]; omega)]
        exact key _ (by rw [nsub q2]; unfold dmN; rw [if_pos q])
      · rw [if_neg (by rw [nle_sub (by omega) (by omega) (by omega)]; omega)]
        exact key _ (by unfold dmN; rw [if_pos q, show d i - 2 = 0 by omega])
    · rw [if_neg q, if_pos (nI_le (Nat.zero_le _) (by omega))]
      by_cases q2 : d i + e i / 2 ≤ 9
      · rw [if_pos (nI_le q2 (by omega))]
        exact key _ (by unfold dmN; rw [if_neg q, Nat.min_eq_right q2])
      · rw [if_neg (nI_ge (by omega) (by omega))]
        exact key _ (by unfold dmN; rw [if_neg q, Nat.min_eq_left (by omega)])
