/-! ===== pure: a green of the class and a row of the reference ===== -/
/-- a rink: its numbers in the row, and their bounds -/
def RR (M : gM) (f : Nat → Int32) (r : Nat) : Prop :=
  (f (17 + 10 * r + 0) = M.2.1 r 0 ∧ f (17 + 10 * r + 1) = M.2.1 r 1 ∧ f (17 + 10 * r + 2) = M.2.1 r 2 ∧ f (17 + 10 * r + 3) = M.2.1 r 3 ∧ f (17 + 10 * r + 4) = M.2.1 r 4 ∧ f (17 + 10 * r + 5) = M.2.1 r 6 ∧ f (17 + 10 * r + 6) = M.2.1 r 5 ∧ f (17 + 10 * r + 7) = M.2.1 r 8 ∧ f (17 + 10 * r + 8) = M.2.1 r 9 ∧ f (17 + 10 * r + 9) = M.2.1 r 7) ∧
  (vp_in (M.2.1 r 0) 30 ∧ vp_in (M.2.1 r 1) 30 ∧ vp_in (M.2.1 r 2) 21 ∧ vp_in (M.2.1 r 3) 10 ∧ vp_in (M.2.1 r 4) 41 ∧ vp_in (M.2.1 r 5) 2 ∧ vp_in (M.2.1 r 6) 2 ∧ vp_in (M.2.1 r 8) 5 ∧ vp_in (M.2.1 r 9) 5)
/-- a wood: its numbers in the row, their bounds, its rink's end is played, its distance is kept -/
def WW (M : gM) (f : Nat → Int32) (w : Nat) : Prop :=
  (f (57 + 7 * w + 0) = M.2.2.1 w 0 ∧ f (57 + 7 * w + 1) = M.2.2.1 w 1 ∧ f (57 + 7 * w + 2) = M.2.2.1 w 2 ∧ (M.2.2.1 w 2 ≠ 0 → f (57 + 7 * w + 3) = M.2.2.1 w 3) ∧ (M.2.2.1 w 2 = 1 → f (57 + 7 * w + 4) = M.2.2.1 w 4 ∧ f (57 + 7 * w + 5) = M.2.2.1 w 5) ∧ f (57 + 7 * w + 6) = M.2.2.1 w 7) ∧
  (vp_in (M.2.2.1 w 0) 2 ∧ vp_in (M.2.2.1 w 1) 10 ∧ vp_in (M.2.2.1 w 2) 3 ∧ vp_in (M.2.2.1 w 6) 10000) ∧
  (M.2.2.1 w 2 ≠ 0 → ∃ r, M.2.2.1 w 3 = nI r ∧ r < 4 ∧ ¬ M.1 3 ≤ nI r ∧ M.2.1 r 4 ≠ 0) ∧
  (M.2.2.1 w 2 = 1 → vp_in (M.2.2.1 w 4) 30 ∧ vp_in (M.2.2.1 w 5) 41 ∧ M.2.2.1 w 6 = f_X5_distance M (M.2.2.1 w 3).toNatClampNeg (M.2.2.1 w 4) (M.2.2.1 w 5))
def cnt (P : Nat → Bool) : Nat → Nat
  | 0 => 0
  | n + 1 => cnt P n + (P n).toNat
/-- a club's wood that is bowled on a rink -/
def onR (M : gM) (r : Nat) (c : Nat) (w : Nat) : Bool := decide (¬ M.1 4 ≤ nI w ∧ M.2.2.1 w 2 ≠ 0 ∧ M.2.2.1 w 3 = nI r ∧ M.2.2.1 w 0 = nI c)
def GR (M : gM) (f : Nat → Int32) : Prop :=
  (f 0 = M.1 5 ∧ f 1 = M.1 6 ∧ f 2 = M.1 7 ∧ f 3 = M.1 3 ∧ f 4 = M.1 4 ∧ f 5 = f_X1_woodsBowled M ∧ f 6 = M.1 8 ∧ f 7 = M.1 9 ∧ f 8 = M.1 10) ∧
  (∀ c, c < 2 → ∀ i, i < 4 → f (9 + 4 * c + i) = M.2.2.2 c i) ∧
  (vp_in (M.1 3) 5 ∧ vp_in (M.1 4) 17 ∧ vp_in (M.1 6) 10 ∧ vp_in (M.1 7) 10 ∧ vp_in (M.1 8) 41 ∧ ∀ c, c < 2 → vp_in (M.2.2.2 c 2) 11 ∧ M.2.2.2 c 2 + M.2.2.2 c 3 = 10) ∧
  (∀ r, r < 4 → ¬ M.1 3 ≤ nI r → RR M f r) ∧
  (∀ w, w < 16 → ¬ M.1 4 ≤ nI w → WW M f w) ∧
  (∀ r, r < 4 → ¬ M.1 3 ≤ nI r → ∀ c, c < 2 → cnt (onR M r c) 16 ≤ (M.2.1 r (8 + c)).toNatClampNeg)
section GR1
variable {w0 : Nat} {M : gM} {f : Nat → Int32} {X : Nat → Int32} {A : Nat → Nat → Int32}
theorem GR.n3 (h : GR M f) : f 3 = M.1 3 := h.1.2.2.2.1
theorem GR.n4 (h : GR M f) : f 4 = M.1 4 := h.1.2.2.2.2.1
theorem GR.v3 (h : GR M f) : vp_in (M.1 3) 5 := h.2.2.1.1
theorem GR.v4 (h : GR M f) : vp_in (M.1 4) 17 := h.2.2.1.2.1
theorem GR.l3 (h : GR M f) {k : Nat} (hk : k ≤ 4) (c : ¬ M.1 3 ≤ nI k) : k < 4 := cnt_lt (N := 4) (by decide) hk (le_of_vp (by decide) h.v3) c
theorem GR.l4 (h : GR M f) {k : Nat} (hk : k ≤ 16) (c : ¬ M.1 4 ≤ nI k) : k < 16 := cnt_lt (N := 16) (by decide) hk (le_of_vp (by decide) h.v4) c
theorem GR.r (h : GR M f) {k : Nat} (hk : k ≤ 4) (c : ¬ M.1 3 ≤ nI k) : RR M f k := h.2.2.2.1 k (h.l3 hk c) c
theorem GR.w (h : GR M f) {k : Nat} (hk : k ≤ 16) (c : ¬ M.1 4 ≤ nI k) : WW M f k := h.2.2.2.2.1 k (h.l4 hk c) c
theorem ow (k j : Nat) {p : Int32} (hk : k < 2 ^ 31) (hp : p.toNatClampNeg = j) : f_X8_ofWood X A (nI k) p = A 0 (57 + 7 * k + j) := by
  unfold f_X8_ofWood
  rw [nI_clamp hk, hp]
theorem orr (k j : Nat) {p : Int32} (hk : k < 2 ^ 31) (hp : p.toNatClampNeg = j) : f_X8_ofRink X A (nI k) p = A 0 (17 + 10 * k + j) := by
  unfold f_X8_ofRink
  rw [nI_clamp hk, hp]
theorem le_pred {n p : Int32} {N : Nat} (hn : vp_in n N) (hN : N ≤ 1000) : n - 1 < p ↔ n ≤ p := by
  obtain ⟨j, hj, rfl⟩ := vp_in_of hn (by omega)
  cases j with
  | zero =>
    rw [Int32.lt_iff_toInt_lt, Int32.le_iff_toInt_le]
    have e1 : (nI 0 - 1).toInt = -1 := by decide
    have e2 : (nI 0).toInt = 0 := by decide
    omega
  | succ j =>
    rw [nI_pred, Int32.lt_iff_toInt_lt, Int32.le_iff_toInt_le, nI_toInt (by omega), nI_toInt (by omega)]
    omega
theorem q_in_pred {n p : Int32} {N : Nat} (hn : vp_in n N) (hN : N ≤ 1000) : f_X8_in X A p 0 (n - 1) = if p < 0 then 0 else if n ≤ p then 0 else 1 := by
  unfold f_X8_in
  by_cases c : p < 0
  · rw [if_pos c, if_pos c]
  · rw [if_neg c, if_neg c]
    by_cases c2 : n ≤ p
    · rw [if_pos c2, if_pos ((le_pred hn hN).mpr c2)]
    · rw [if_neg c2, if_neg (fun q => c2 ((le_pred hn hN).mp q))]
theorem q_isRink (h : GR M (A 0)) (p : Int32) : f_X8_isRink X A p = f_X1_isRink M p := by
  unfold f_X8_isRink f_X1_isRink
  dsimp only [bd]
  rw [h.n3]
  exact q_in_pred h.v3 (by decide)
theorem q_isWood (h : GR M (A 0)) (p : Int32) : f_X8_isWood X A p = f_X1_isWood M p := by
  unfold f_X8_isWood f_X1_isWood
  dsimp only [bd]
  rw [h.n4]
  exact q_in_pred h.v4 (by decide)
theorem rink_of (h : GR M f) {p : Int32} (hp : ¬ f_X1_isRink M p = 0) : ∃ r, p = nI r ∧ r < 4 ∧ ¬ M.1 3 ≤ nI r := by
  have h1 := isRink_in (le_of_vp (N := 4) (by decide) h.v3) rfl hp
  have h2 := isRink_lt rfl hp
  obtain ⟨r, hr, rfl⟩ := vp_in_of h1 (by decide)
  exact ⟨r, rfl, hr, Int32.not_le.mpr h2⟩
theorem wood_of (h : GR M f) {p : Int32} (hp : ¬ f_X1_isWood M p = 0) : ∃ w, p = nI w ∧ w < 16 ∧ ¬ M.1 4 ≤ nI w := by
  have h1 := isWood_in (le_of_vp (N := 16) (by decide) h.v4) rfl hp
  have h2 := isWood_lt rfl hp
  obtain ⟨r, hr, rfl⟩ := vp_in_of h1 (by decide)
  exact ⟨r, rfl, hr, Int32.not_le.mpr h2⟩
theorem q_lies {k : Nat} (hk : k < 16) (hw : WW M (A 0) k) (p : Int32) : f_X8_liesOn X A (nI k) p = f_X6_liesOn M k p := by
  unfold f_X8_liesOn f_X6_liesOn
  dsimp only [bd]
  rw [ow k 2 (by omega) rfl, ow k 3 (by omega) rfl, hw.1.2.2.1]
  by_cases c : M.2.2.1 k 2 = 1
  · rw [if_pos c, if_pos c, hw.1.2.2.2.1 (by rw [c]; decide)]
  · rw [if_neg c, if_neg c]
theorem lies_1 {k : Nat} {p : Int32} (h : ¬ f_X6_liesOn M k p = 0) : M.2.2.1 k 2 = 1 ∧ M.2.2.1 k 3 = p := by
  unfold f_X6_liesOn at h
  by_cases c : M.2.2.1 k 2 = 1
  · rw [if_pos c] at h
    by_cases d : M.2.2.1 k 3 = p
    · exact ⟨c, d⟩
    · rw [if_neg d] at h; exact absurd rfl h
  · rw [if_neg c] at h; exact absurd rfl h
theorem q_square {r : Nat} (hr : r < 4) (h : RR M (A 0) r) (c s : Int32) : f_X8_square X A (nI r) c s = f_X5_distance M r c s := by
  unfold f_X8_square f_X5_distance
  dsimp only [bd]
  rw [orr r 0 (by omega) rfl, orr r 1 (by omega) rfl, orr r 4 (by omega) rfl, h.1.1, h.1.2.1, h.1.2.2.2.2.1]
theorem WW.d (h : WW M f w0) (h1 : M.2.2.1 w0 2 = 1) : M.2.2.1 w0 6 = f_X5_distance M (M.2.2.1 w0 3).toNatClampNeg (M.2.2.1 w0 4) (M.2.2.1 w0 5) := (h.2.2.2 h1).2.2
theorem WW.p (h : WW M f w0) (h1 : M.2.2.1 w0 2 ≠ 0) : ∃ r, M.2.2.1 w0 3 = nI r ∧ r < 4 ∧ ¬ M.1 3 ≤ nI r ∧ M.2.1 r 4 ≠ 0 := h.2.2.1 h1
theorem q_dist1 {k : Nat} (hk : k < 16) (hw : WW M (A 0) k) (h1 : M.2.2.1 k 2 = 1) (h0 : M.2.2.1 k 2 ≠ 0) : f_X8_distance X A (nI k) = f_X8_square X A (M.2.2.1 k 3) (M.2.2.1 k 4) (M.2.2.1 k 5) := by
  have e3 := hw.1.2.2.2.1 h0
  have e45 := hw.1.2.2.2.2.1 h1
  have hk2 : k < 2 ^ 31 := Nat.lt_trans hk (by decide)
  have a3 : f_X8_ofWood X A (nI k) 3 = M.2.2.1 k 3 := (ow k 3 hk2 rfl).trans e3
  have a4 : f_X8_ofWood X A (nI k) 4 = M.2.2.1 k 4 := (ow k 4 hk2 rfl).trans e45.1
  have a5 : f_X8_ofWood X A (nI k) 5 = M.2.2.1 k 5 := (ow k 5 hk2 rfl).trans e45.2
  have hd : f_X8_distance X A (nI k) = f_X8_square X A (f_X8_ofWood X A (nI k) 3) (f_X8_ofWood X A (nI k) 4) (f_X8_ofWood X A (nI k) 5) := by
    unfold f_X8_distance
    exact bd_eq rfl (bd_eq rfl (bd_eq rfl (bd_eq rfl rfl)))
  rw [hd, a3, a4, a5]
theorem q_dist2 (h : GR M (A 0)) {k r : Nat} (hr : r < 4) (hr3 : ¬ M.1 3 ≤ nI r) (e : M.2.2.1 k 3 = nI r) : f_X8_square X A (M.2.2.1 k 3) (M.2.2.1 k 4) (M.2.2.1 k 5) = f_X5_distance M (M.2.2.1 k 3).toNatClampNeg (M.2.2.1 k 4) (M.2.2.1 k 5) := by
  have hs := q_square (X := X) hr (h.r (Nat.le_of_lt hr) hr3) (M.2.2.1 k 4) (M.2.2.1 k 5)
  have hr2 : (nI r).toNatClampNeg = r := nI_clamp (Nat.lt_trans hr (by decide))
  rw [e, hs, hr2]
theorem one_ne {x : Int32} (h : x = 1) : x ≠ 0 := by
  rw [h]; decide
theorem q_distance (h : GR M (A 0)) {k : Nat} (hk : k < 16) (hc : ¬ M.1 4 ≤ nI k) (h1 : M.2.2.1 k 2 = 1) : f_X8_distance X A (nI k) = M.2.2.1 k 6 := by
  have hw := h.w (Nat.le_of_lt hk) hc
  obtain ⟨r, e, hr, hr3, -⟩ := hw.p (one_ne h1)
  exact (q_dist1 hk hw h1 (one_ne h1)).trans ((q_dist2 h hr hr3 e).trans (hw.d h1).symm)
theorem q_countOn_l (h : GR M (A 0)) {p s : Int32} (hs : s ≠ 0) : ∀ n k n0, n + k = 17 → f_X8_countOn_l5 X A p s n k n0 = f_X1_woodsOn_l5 M p s n k n0 := by
  intro n
  induction n with
  | zero => intro k n0 _; rfl
  | succ n ih =>
    intro k n0 hk
    unfold f_X8_countOn_l5 f_X1_woodsOn_l5
    dsimp only [bd]
    rw [h.n4]
    by_cases c : M.1 4 ≤ nI k
    · rw [if_pos c, if_pos c]
    · have hw := h.w (by omega) c
      rw [if_neg c, if_neg c, ow k 2 (by omega) rfl, ow k 3 (by omega) rfl, hw.1.2.2.1, ih _ _ (by omega), ih _ _ (by omega)]
      by_cases d : M.2.2.1 k 2 = s
      · rw [if_pos d, if_pos d, hw.1.2.2.2.1 (by rw [d]; exact hs)]
      · rw [if_neg d, if_neg d]
theorem q_countOn (h : GR M (A 0)) (p : Int32) {s : Int32} (hs : s ≠ 0) : f_X8_countOn X A p s = f_X1_woodsOn M p s := q_countOn_l h hs 17 0 0 rfl
theorem q_woodsOf0_l (h : GR M (A 0)) {p : Int32} : ∀ n k n0, n + k = 17 → f_X8_woodsOf_l5 X A p 0 n k n0 = f_X1_woodsOfClub_l4 M p n k n0 := by
  intro n
  induction n with
  | zero => intro k n0 _; rfl
  | succ n ih =>
    intro k n0 hk
    unfold f_X8_woodsOf_l5 f_X1_woodsOfClub_l4
    dsimp only [bd]
    rw [h.n4]
    by_cases c : M.1 4 ≤ nI k
    · rw [if_pos c, if_pos c]
    · have hw := h.w (by omega) c
      rw [if_neg c, if_neg c, ow k 0 (by omega) rfl, hw.1.1, if_pos rfl, ih _ _ (by omega), ih _ _ (by omega)]
theorem q_woodsOf1_l (h : GR M (A 0)) {p : Int32} : ∀ n k n0, n + k = 17 → f_X8_woodsOf_l5 X A p 1 n k n0 = f_X1_woodsOfClubInShed_l4 M p n k n0 := by
  intro n
  induction n with
  | zero => intro k n0 _; rfl
  | succ n ih =>
    intro k n0 hk
    unfold f_X8_woodsOf_l5 f_X1_woodsOfClubInShed_l4
    dsimp only [bd]
    rw [h.n4]
    by_cases c : M.1 4 ≤ nI k
    · rw [if_pos c, if_pos c]
    · have hw := h.w (by omega) c
      rw [if_neg c, if_neg c, ow k 0 (by omega) rfl, ow k 2 (by omega) rfl, hw.1.1, hw.1.2.2.1, if_neg (show ¬ (1 : Int32) = 0 by decide), ih _ _ (by omega), ih _ _ (by omega)]
theorem q_woodsOf0 (h : GR M (A 0)) (p : Int32) : f_X8_woodsOf X A p 0 = f_X1_woodsOfClub M p := q_woodsOf0_l h 17 0 0 rfl
theorem q_woodsOf1 (h : GR M (A 0)) (p : Int32) : f_X8_woodsOf X A p 1 = f_X1_woodsOfClubInShed M p := q_woodsOf1_l h 17 0 0 rfl
theorem q_closed_l (h : GR M (A 0)) : ∀ n k n0, n + k = 5 → f_X8_closed_l4 X A n k n0 = f_X1_endsClosed_l4 M n k n0 := by
  intro n
  induction n with
  | zero => intro k n0 _; rfl
  | succ n ih =>
    intro k n0 hk
    unfold f_X8_closed_l4 f_X1_endsClosed_l4
    dsimp only [bd]
    rw [h.n3]
    by_cases c : M.1 3 ≤ nI k
    · rw [if_pos c, if_pos c]
    · have hr := h.r (by omega) c
      rw [if_neg c, if_neg c, orr k 9 (by omega) rfl, hr.1.2.2.2.2.2.2.2.2.2, ih _ _ (by omega)]
theorem q_closed (h : GR M (A 0)) : f_X8_closed X A = f_X1_endsClosed M := q_closed_l h 5 0 0 rfl
theorem q_allCasts_l (h : GR M (A 0)) : ∀ n k n0, n + k = 5 → f_X8_allCasts_l4 X A n k n0 = f_X1_allCasts_l4 M n k n0 := by
  intro n
  induction n with
  | zero => intro k n0 _; rfl
  | succ n ih =>
    intro k n0 hk
    unfold f_X8_allCasts_l4 f_X1_allCasts_l4
    dsimp only [bd]
    rw [h.n3]
    by_cases c : M.1 3 ≤ nI k
    · rw [if_pos c, if_pos c]
    · have hr := h.r (by omega) c
      rw [if_neg c, if_neg c, orr k 3 (by omega) rfl, hr.1.2.2.2.1, ih _ _ (by omega)]
theorem q_allCasts (h : GR M (A 0)) : f_X8_allCasts X A = f_X1_allCasts M := q_allCasts_l h 5 0 0 rfl
theorem q_allWet_l (h : GR M (A 0)) : ∀ n k n0, n + k = 5 → f_X8_meanWet_l17 X A n k n0 = f_X1_allWet_l4 M n k n0 := by
  intro n
  induction n with
  | zero => intro k n0 _; rfl
  | succ n ih =>
    intro k n0 hk
    unfold f_X8_meanWet_l17 f_X1_allWet_l4
    dsimp only [bd]
    rw [h.n3]
    by_cases c : M.1 3 ≤ nI k
    · rw [if_pos c, if_pos c]
    · have hr := h.r (by omega) c
      rw [if_neg c, if_neg c, orr k 2 (by omega) rfl, hr.1.2.2.1, ih _ _ (by omega)]
theorem nn_le {x : Int32} {N : Nat} (h : vp_in x N) : x ≤ 0 ↔ x = 0 := by
  have h0 : ¬ x < 0 := fun q => h (Or.inl q)
  constructor
  · intro q
    exact Int32.le_antisymm q (Int32.not_lt.mp h0)
  · intro q; rw [q]; decide
theorem q_endsPlayed_l (h : GR M (A 0)) {p : Int32} : ∀ n k n0, n + k = 5 → f_X8_account_l85 X A p n k n0 = f_X1_endsPlayed_l4 M n k n0 := by
  intro n
  induction n with
  | zero => intro k n0 _; rfl
  | succ n ih =>
    intro k n0 hk
    unfold f_X8_account_l85 f_X1_endsPlayed_l4 f_X5_isPlayed
    dsimp only [bd]
    rw [h.n3]
    by_cases c : M.1 3 ≤ nI k
    · rw [if_pos c, if_pos c]
    · have hr := h.r (by omega) c
      rw [if_neg c, if_neg c, orr k 4 (by omega) rfl, hr.1.2.2.2.2.1, ih _ _ (by omega), ih _ _ (by omega)]
      by_cases d : M.2.1 k 4 = 0
      · rw [if_pos d, if_pos rfl, if_pos ((nn_le hr.2.2.2.2.2.1).mpr d)]
      · rw [if_neg d, if_neg (show ¬ (1 : Int32) = 0 by decide), if_neg (fun q => d ((nn_le hr.2.2.2.2.2.1).mp q))]
theorem q_rinkAt_i (h : GR M (A 0)) {p : Int32} {k : Nat} (hk4 : k ≤ 4) (hc : ¬ M.1 3 ≤ nI k) : ∀ n j n0, n + j = 5 → f_X8_rinkAt_l17 X A p k n j n0 = f_X1_rinkInOrder_l15 M p k n j n0 := by
  intro n
  induction n with
  | zero => intro j n0 _; rfl
  | succ n ih =>
    intro j n0 hj
    unfold f_X8_rinkAt_l17 f_X1_rinkInOrder_l15
    dsimp only [bd]
    rw [h.n3]
    by_cases c : M.1 3 ≤ nI j
    · rw [if_pos c, if_pos c]
    · rw [if_neg c, if_neg c, orr j 0 (by omega) rfl, orr k 0 (by omega) rfl, (h.r (by omega) c).1.1, (h.r hk4 hc).1.1, ih _ _ (by omega), ih _ _ (by omega)]
theorem q_rinkAt_l (h : GR M (A 0)) {p : Int32} : ∀ n k, n + k = 5 → f_X8_rinkAt_l2 X A p n k = f_X1_rinkInOrder_l2 M p n k := by
  intro n
  induction n with
  | zero => intro k _; rfl
  | succ n ih =>
    intro k hk
    unfold f_X8_rinkAt_l2 f_X1_rinkInOrder_l2
    dsimp only [bd]
    rw [h.n3]
    by_cases c : M.1 3 ≤ nI k
    · rw [if_pos c, if_pos c]
    · rw [if_neg c, if_neg c, q_rinkAt_i h (by omega) c 5 0 0 rfl, ih _ (by omega)]
theorem q_rinkAt (h : GR M (A 0)) (p : Int32) : f_X8_rinkAt X A p = f_X1_rinkInOrder M p := q_rinkAt_l h 5 0 rfl
theorem q_before_l (h : GR M (A 0)) {p p2 : Int32} {k : Nat} (hk : k < 16) (hc : ¬ M.1 4 ≤ nI k) (h1 : M.2.2.1 k 2 = 1) : ∀ n j n0, n + j = 17 → f_X8_atPlace_l30 X A p p2 k n j n0 = f_X1_woodsBefore_l16 M p (nI k) n j n0 := by
  intro n
  induction n with
  | zero => intro j n0 _; rfl
  | succ n ih =>
    intro j n0 hj
    unfold f_X8_atPlace_l30 f_X1_woodsBefore_l16
    dsimp only [bd]
    rw [h.n4]
    by_cases c : M.1 4 ≤ nI j
    · rw [if_pos c, if_pos c]
    · have hw := h.w (by omega) c
      have hj16 := h.l4 (by omega) c
      rw [if_neg c, if_neg c, q_lies hj16 hw, q_distance h hk hc h1, nI_clamp (show k < 2 ^ 31 by omega), ih _ _ (by omega), ih _ _ (by omega)]
      by_cases d : f_X6_liesOn M j p = 0
      · rw [if_pos d, if_pos d]
        repeat' split
        all_goals rfl
      · rw [if_neg d, if_neg d, q_distance h hj16 c (lies_1 d).1]
        by_cases e1 : M.2.2.1 j 6 < M.2.2.1 k 6
        · rw [if_pos e1, if_pos e1]
        · rw [if_neg e1, if_neg e1]
          by_cases e2 : M.2.2.1 j 6 = M.2.2.1 k 6
          · rw [if_pos e2, if_pos e2]
          · rw [if_neg e2, if_neg e2]
            split <;> rfl
theorem q_atPlace_l (h : GR M (A 0)) {p p2 : Int32} : ∀ n k, n + k = 17 → f_X8_atPlace_l2 X A p p2 n k = f_X1_woodInOrder_l2 M p p2 n k := by
  intro n
  induction n with
  | zero => intro k _; rfl
  | succ n ih =>
    intro k hk
    unfold f_X8_atPlace_l2 f_X1_woodInOrder_l2
    dsimp only [bd]
    rw [h.n4]
    by_cases c : M.1 4 ≤ nI k
    · rw [if_pos c, if_pos c]
    · have hw := h.w (by omega) c
      have hk16 := h.l4 (by omega) c
      rw [if_neg c, if_neg c, q_lies hk16 hw, ih _ (by omega)]
      by_cases d : f_X6_liesOn M k p = 0
      · rw [if_pos d, if_pos d]
      · rw [if_neg d, if_neg d, q_before_l h hk16 c (lies_1 d).1 17 0 0 rfl]
        rfl
theorem q_atPlace (h : GR M (A 0)) (p p2 : Int32) : f_X8_atPlace X A p p2 = f_X1_woodInOrder M p p2 := q_atPlace_l h 17 0 rfl
theorem q_isTaken_l (h : GR M (A 0)) {p w c s : Int32} : ∀ n k, n + k = 17 → f_X8_isTaken_l3 X A p c s w n k = f_X1_isTaken_l3 M p w c s n k := by
  intro n
  induction n with
  | zero => intro k _; rfl
  | succ n ih =>
    intro k hk
    unfold f_X8_isTaken_l3 f_X1_isTaken_l3 f_X6_liesOn
    dsimp only [bd]
    rw [h.n4]
    by_cases g : M.1 4 ≤ nI k
    · rw [if_pos g, if_pos g]
    · have hw := h.w (by omega) g
      rw [if_neg g, if_neg g, ow k 2 (by omega) rfl, ow k 3 (by omega) rfl, ow k 4 (by omega) rfl, ow k 5 (by omega) rfl, hw.1.2.2.1, ih _ (by omega)]
      by_cases d : nI k = w
      · rw [if_pos d, if_pos d]
      · rw [if_neg d, if_neg d]
        by_cases e : M.2.2.1 k 2 = 1
        · rw [if_pos e, if_pos e, hw.1.2.2.2.1 (by rw [e]; decide), (hw.1.2.2.2.2.1 e).1, (hw.1.2.2.2.2.1 e).2]
          by_cases e2 : M.2.2.1 k 3 = p
          · rw [if_pos e2, if_pos e2, if_neg (show ¬ (1 : Int32) = 0 by decide)]
          · rw [if_neg e2, if_neg e2, if_pos rfl]
        · rw [if_neg e, if_neg e, if_pos rfl]
theorem q_isTaken (h : GR M (A 0)) (p w c s : Int32) : f_X8_isTaken X A p c s w = f_X1_isTaken M p w c s := q_isTaken_l h 17 0 rfl
theorem q_changed (h : GR M (A 0)) (p : Int32) : f_X8_changed X A p = f_X1_wetAfter M p := by
  unfold f_X8_changed f_X1_wetAfter
  rw [h.1.2.1, h.1.2.2.1]
theorem q_castsAfter {r : Nat} (hr : r < 4) (h : RR M (A 0) r) (w c : Int32) : f_X8_castsAfter X A (nI r) w c = f_X5_castsAfter M r c w := by
  unfold f_X8_castsAfter f_X5_castsAfter f_X5_isPlayed
  dsimp only [bd]
  rw [orr r 4 (by omega) rfl, h.1.2.2.2.2.1]
  by_cases d : M.2.1 r 4 = 0
  · rw [if_pos d, if_pos d, if_pos rfl]
  · rw [if_neg d, if_neg d, if_neg (show ¬ (1 : Int32) = 0 by decide)]
theorem q_hoursToDry_l (h : GR M (A 0)) {p : Int32} : ∀ n k w, f_X8_hoursToDry_l9 X A p n k w = f_X1_hoursUntilDry_l12 M p n k w := by
  intro n
  induction n with
  | zero => intro k w; rfl
  | succ n ih =>
    intro k w
    unfold f_X8_hoursToDry_l9 f_X1_hoursUntilDry_l12
    dsimp only [bd]
    rw [ih, q_changed h]
    by_cases c : 40 < nI k
    · rw [if_pos c, if_pos c]
    · rw [if_neg c, if_neg c]
      by_cases d : 8 ≤ w
      · rw [if_pos d, if_neg (Int32.not_lt.mpr d)]
      · rw [if_neg d, if_pos (Int32.not_le.mp d)]
theorem q_hoursToDry (h : GR M (A 0)) {r : Nat} (hr : r < 4) (hc : ¬ M.1 3 ≤ nI r) : f_X8_hoursToDry X A (nI r) = f_X1_hoursUntilDry M (nI r) := by
  unfold f_X8_hoursToDry f_X1_hoursUntilDry
  dsimp only [bd]
  rw [orr r 2 (by omega) rfl, (h.r (by omega) hc).1.2.2.1, q_hoursToDry_l h, nI_clamp (by omega)]
theorem q_ahead_l (h : GR M (A 0)) {p2 p3 : Int32} {r : Nat} (hr : r < 4) (hc : ¬ M.1 3 ≤ nI r) : ∀ n k w c, f_X8_ahead_l42 X A (nI r) p2 p3 n k w c = f_X1_castsAhead_l24 M (nI r) p2 n k w c ∧ (f_X8_ahead_l42 X A (nI r) p2 p3 n k w c).1 = f_X1_wetAhead_l13 M (nI r) p2 n k w := by
  intro n
  induction n with
  | zero => intro k w c; exact ⟨rfl, rfl⟩
  | succ n ih =>
    intro k w c
    unfold f_X8_ahead_l42 f_X1_castsAhead_l24 f_X1_wetAhead_l13
    dsimp only [bd]
    rw [q_changed h, q_castsAfter hr (h.r (by omega) hc), nI_clamp (show r < 2 ^ 31 by omega)]
    by_cases d : p2 ≤ nI k
    · rw [if_pos d, if_pos d, if_pos d]; exact ⟨rfl, rfl⟩
    · rw [if_neg d, if_neg d, if_neg d]; exact ih _ _ _
end GR1
