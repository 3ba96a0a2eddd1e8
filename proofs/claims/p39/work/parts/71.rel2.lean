section GR2
variable {M : gM} {f : Nat → Int32} {X X1 : Nat → Int32} {A A1 : Nat → Nat → Int32}
theorem q_holds {r : Nat} (hr : r < 4) (h : RR M (A 0) r) (p : Int32) : f_X8_in X A p (f_X8_ofRink X A (nI r) 0) (f_X8_ofRink X A (nI r) 1) = f_X5_holds M r p := by
  unfold f_X8_in f_X5_holds
  rw [orr r 0 (by omega) rfl, orr r 1 (by omega) rfl, h.1.1, h.1.2.1]
theorem q_isBad {r : Nat} (hr : r < 4) (h : RR M (A 0) r) (p : Int32) : f_X8_isBad X A (nI r) p = if f_X5_holds M r p = 0 then 1 else 0 := by
  unfold f_X8_isBad
  dsimp only [bd]
  rw [q_holds hr h]
theorem q_columnOf {w : Nat} (hw : w < 16) (h : WW M (A 0) w) (c s z : Int32) : f_X8_columnOf X A (nI w) c s z = if z = 0 then c - M.2.2.1 w 1 * s / 10 else c + M.2.2.1 w 1 * s / 10 := by
  unfold f_X8_columnOf
  dsimp only [bd]
  rw [ow w 1 (by omega) rfl, h.1.2.1]
/-- the place where a wood lands, from its column and its length -/
def lnd (e L : Int32) : Int32 := if L < 0 then -4 else 100 * e + L
theorem lnd_n {e L : Int32} (h : L < 0) : lnd e L = -4 := if_pos h
theorem lnd_p {e L : Int32} (h : ¬ L < 0) : lnd e L = 100 * e + L := if_neg h
/-- how far a wood comes: what the loops of both say -/
theorem q_length_l (h : GR M (A 0)) {p w c s q z : Int32} : ∀ (n : Nat) (e x : Int32), (-1 ≤ x.toInt ∧ x.toInt + 2 ≤ (n : Int)) → f_X1_landing_l93 M p w c s q n e x = lnd e (f_X8_lengthOf_l58 X A p w e z n x) := by
  intro n
  induction n with
  | zero => intro e x hx; omega
  | succ n ih =>
    intro e x hx
    unfold f_X1_landing_l93 f_X8_lengthOf_l58
    dsimp only [bd]
    rw [q_isTaken h]
    by_cases d : x < 0
    · rw [if_pos d, if_pos d, lnd_n d]
    · rw [if_neg d, if_neg d]
      by_cases t : f_X1_isTaken M p w e x = 0
      · rw [if_pos t, if_pos t, lnd_p d]
      · rw [if_neg t, if_neg t]
        exact ih e _ (dn_back hx d)
theorem q_landing (h : GR M (A 0)) {r w : Nat} (hr : r < 4) (hrc : ¬ M.1 3 ≤ nI r) (hw : w < 16) (hwc : ¬ M.1 4 ≤ nI w) (c s z : Int32) :
    f_X1_landing M (nI r) (nI w) c s z = lnd (f_X8_columnOf X A (nI w) c s z) (f_X8_lengthOf X A (nI r) (nI w) (f_X8_columnOf X A (nI w) c s z) s) := by
  have hR := h.r (by omega) hrc
  have hW := h.w (by omega) hwc
  have key : ∀ e : Int32, (if f_X5_holds M r e = 0 then (-4 : Int32) else if (if 0 < 4 + 2 * s - M.2.1 r 2 / 2 - M.2.1 r 3 then 4 + 2 * s - M.2.1 r 2 / 2 - M.2.1 r 3 else 0) ≤ 40 then f_X1_landing_l93 M (nI r) (nI w) c s z 42 e (if 0 < 4 + 2 * s - M.2.1 r 2 / 2 - M.2.1 r 3 then 4 + 2 * s - M.2.1 r 2 / 2 - M.2.1 r 3 else 0) else -4) = lnd e (f_X8_lengthOf X A (nI r) (nI w) e s) := by
    intro e
    unfold f_X8_lengthOf
    dsimp only [bd]
    rw [q_holds hr hR, orr r 2 (by omega) rfl, orr r 3 (by omega) rfl, hR.1.2.2.1, hR.1.2.2.2.1]
    by_cases d : f_X5_holds M r e = 0
    · rw [if_pos d, if_pos d, lnd_n (by decide)]
    · rw [if_neg d, if_neg d]
      by_cases g : (if 0 < 4 + 2 * s - M.2.1 r 2 / 2 - M.2.1 r 3 then 4 + 2 * s - M.2.1 r 2 / 2 - M.2.1 r 3 else 0) ≤ 40
      · rw [if_pos g, if_pos g]
        exact q_length_l h 42 e _ (dn_start g)
      · rw [if_neg g, if_neg g, lnd_n (by decide)]
  unfold f_X1_landing
  dsimp only [bd]
  rw [q_columnOf hw hW, nI_clamp (show r < 2 ^ 31 by omega), nI_clamp (show w < 2 ^ 31 by omega)]
  by_cases d : z = 0
  · rw [if_pos d, if_pos d]; exact key _
  · rw [if_neg d, if_neg d]; exact key _
/-- where the length comes out: none, or at most 40, in a column of the rink -/
theorem q_len_in_l {p w e z : Int32} : ∀ (n : Nat) (x : Int32), (-1 ≤ x.toInt ∧ x.toInt + 2 ≤ (n : Int)) → x.toInt ≤ 40 → ¬ f_X8_lengthOf_l58 X A p w e z n x < 0 → ∃ j, j ≤ 40 ∧ f_X8_lengthOf_l58 X A p w e z n x = nI j := by
  intro n
  induction n with
  | zero => intro x hx; omega
  | succ n ih =>
    intro x hx h40
    unfold f_X8_lengthOf_l58
    dsimp only [bd]
    by_cases d : x < 0
    · rw [if_pos d]; intro q; exact absurd d q
    · rw [if_neg d]
      by_cases t : f_X8_isTaken X A p e x w = 0
      · rw [if_pos t]
        intro _
        obtain ⟨j, hj, rfl⟩ := nI_of d
        rw [nI_toInt hj] at h40
        exact ⟨j, by omega, rfl⟩
      · rw [if_neg t]
        intro q
        have hb := dn_back hx d
        refine ih _ hb ?_ q
        obtain ⟨j, hj, rfl⟩ := nI_of d
        rw [nI_toInt hj] at h40
        cases j with
        | zero =>
          have e1 : (nI 0 + (-1)).toInt = -1 := by decide
          omega
        | succ i =>
          rw [pk_m1, nI_toInt (by omega)]
          omega
theorem holds_in {r : Nat} {p : Int32} (h0 : vp_in (M.2.1 r 0) 30) (h1 : vp_in (M.2.1 r 1) 30) (h : ¬ f_X5_holds M r p = 0) : ∃ j, j < 30 ∧ p = nI j := by
  unfold f_X5_holds at h
  by_cases a : p < M.2.1 r 0
  · rw [if_pos a] at h; exact absurd rfl h
  · rw [if_neg a] at h
    by_cases b : M.2.1 r 1 < p
    · rw [if_pos b] at h; exact absurd rfl h
    · obtain ⟨i, hi, e0⟩ := vp_in_of h0 (by decide)
      obtain ⟨k, hk, e1⟩ := vp_in_of h1 (by decide)
      rw [e0] at a
      rw [e1] at b
      have a2 := Int32.le_iff_toInt_le.mp (Int32.not_lt.mp a)
      have b2 := Int32.le_iff_toInt_le.mp (Int32.not_lt.mp b)
      rw [nI_toInt (by omega)] at a2 b2
      have e0' : (0 : Int32).toInt = 0 := by decide
      have hn : ¬ p < 0 := fun q => by
        have := Int32.lt_iff_toInt_lt.mp q
        omega
      obtain ⟨j, hj, rfl⟩ := nI_of hn
      rw [nI_toInt hj] at b2
      exact ⟨j, by omega, rfl⟩
theorem q_len_in (h : GR M (A 0)) {r : Nat} (hr : r < 4) (hrc : ¬ M.1 3 ≤ nI r) {w e s : Int32} (hl : ¬ f_X8_lengthOf X A (nI r) w e s < 0) : (∃ j, j ≤ 40 ∧ f_X8_lengthOf X A (nI r) w e s = nI j) ∧ (∃ i, i < 30 ∧ e = nI i) := by
  have hR := h.r (by omega) hrc
  unfold f_X8_lengthOf at hl ⊢
  dsimp only [bd] at hl ⊢
  rw [q_holds hr hR] at hl ⊢
  by_cases d : f_X5_holds M r e = 0
  · rw [if_pos d] at hl; exact absurd (by decide) hl
  · rw [if_neg d] at hl ⊢
    refine ⟨?_, holds_in hR.2.1 hR.2.2.1 d⟩
    by_cases g : (if 0 < 4 + 2 * s - f_X8_ofRink X A (nI r) 2 / 2 - f_X8_ofRink X A (nI r) 3 then 4 + 2 * s - f_X8_ofRink X A (nI r) 2 / 2 - f_X8_ofRink X A (nI r) 3 else 0) ≤ 40
    · rw [if_pos g] at hl ⊢
      have g2 := Int32.le_iff_toInt_le.mp g
      have e40 : (40 : Int32).toInt = 40 := by decide
      exact q_len_in_l 42 _ (dn_start g) (by omega) hl
    · rw [if_neg g] at hl; exact absurd (by decide) hl
theorem land_dec {i j : Nat} (hi : i < 30) (hj : j ≤ 40) : (100 * nI i + nI j) / 100 = nI i ∧ (100 * nI i + nI j) - (100 * nI i + nI j) / 100 * 100 = nI j ∧ ¬ 100 * nI i + nI j = -4 ∧ 0 ≤ nI j := by
  have e : 100 * nI i + nI j = nI (100 * i + j) := by rw [show (100 : Int32) = nI 100 from rfl, pk_mul, nI_add]
  have e1 : nI (100 * i + j) / 100 = nI i := by
    rw [show (100 : Int32) = nI 100 from rfl, pk_div (by omega) (by decide) (by decide), show (100 * i + j) / 100 = i by omega]
  refine ⟨by rw [e, e1], ?_, ?_, nI_pos' (by omega)⟩
  · rw [e]
    have := pk_rem (a := 100 * i + j) (d := 100) (by omega) (by decide) (by decide)
    rw [show (100 * i + j) % 100 = j by omega] at this
    exact this
  · rw [e]
    intro q
    have := nI_pos (n := 100 * i + j) (by omega)
    rw [q] at this
    exact absurd (by decide) this
/-- a distance is less than 10000 -/
theorem sq_nat (a b : Nat) (ha : a < 50) (hb : b < 50) : ∃ j, j < 3000 ∧ (nI a - nI b) * (nI a - nI b) = nI j := by
  by_cases h : b ≤ a
  · rw [pk_sub h, pk_mul]
    refine ⟨_, ?_, rfl⟩
    have : (a - b) * (a - b) ≤ 50 * 50 := Nat.mul_le_mul (by omega) (by omega)
    omega
  · have e : nI a - nI b = -(nI b - nI a) := by rw [Int32.neg_sub]
    rw [e, Int32.neg_mul_neg, pk_sub (by omega), pk_mul]
    refine ⟨_, ?_, rfl⟩
    have : (b - a) * (b - a) ≤ 50 * 50 := Nat.mul_le_mul (by omega) (by omega)
    omega
theorem dist_in {r i j : Nat} (h0 : vp_in (M.2.1 r 0) 30) (h1 : vp_in (M.2.1 r 1) 30) (h4 : vp_in (M.2.1 r 4) 41) (hi : i < 30) (hj : j ≤ 40) : vp_in (f_X5_distance M r (nI i) (nI j)) 10000 := by
  obtain ⟨a, ha, e0⟩ := vp_in_of h0 (by decide)
  obtain ⟨b, hb, e1⟩ := vp_in_of h1 (by decide)
  obtain ⟨c, hc, e4⟩ := vp_in_of h4 (by decide)
  unfold f_X5_distance
  rw [e0, e1, e4, nI_add, show (2 : Int32) = nI 2 from rfl, pk_div (by omega) (by decide) (by decide)]
  obtain ⟨x, hx, ex⟩ := sq_nat i ((a + b) / 2) (by omega) (by omega)
  obtain ⟨y, hy, ey⟩ := sq_nat j c (by omega) (by omega)
  rw [ex, ey, nI_add]
  exact vp_in_nI (by omega) (by decide)
theorem vp_lt_lit {x : Int32} {N : Nat} (h : vp_in x N) (hN : N < 2 ^ 31) : x < nI N := by
  obtain ⟨j, hj, rfl⟩ := vp_in_of h hN
  exact nI_lt hj hN
/-- the best so far of both: nothing yet, or the same -/
def LL (a b : Int32) : Prop := (a = 2147483647 ∧ b = 1000000) ∨ (a = b ∧ vp_in b 10000)
theorem LL.lt {a b z : Int32} (h : LL a b) (hz : vp_in z 10000) : z < a ↔ z < b := by
  rcases h with ⟨rfl, rfl⟩ | ⟨rfl, -⟩
  · have hl := vp_lt_lit hz (by decide)
    exact ⟨fun _ => Int32.lt_trans hl (by decide), fun _ => Int32.lt_trans hl (by decide)⟩
  · exact Iff.rfl
theorem LL.up {a b z : Int32} (h : LL a b) (hz : vp_in z 10000) : LL (if z < a then z else a) (if z < b then z else b) := by
  by_cases c : z < b
  · rw [if_pos c, if_pos ((h.lt hz).mpr c)]; exact Or.inr ⟨rfl, hz⟩
  · rw [if_neg c, if_neg (fun q => c ((h.lt hz).mp q))]; exact h
theorem q_least_l (h : GR M (A 0)) {p c : Int32} : ∀ n k a b, n + k = 17 → LL a b → LL (f_X8_least_l6 X A p c n k a) (f_X1_leastDistance_l6 M p c n k b) := by
  intro n
  induction n with
  | zero => intro k a b _ hl; exact hl
  | succ n ih =>
    intro k a b hk hl
    unfold f_X8_least_l6 f_X1_leastDistance_l6
    dsimp only [bd]
    rw [h.n4]
    by_cases d : M.1 4 ≤ nI k
    · rw [if_pos d, if_pos d]; exact hl
    · have hw := h.w (by omega) d
      have hk16 := h.l4 (by omega) d
      rw [if_neg d, if_neg d, q_lies hk16 hw, ow k 0 (by omega) rfl, hw.1.1]
      by_cases e : f_X6_liesOn M k p = 0
      · rw [if_pos e, if_pos e]
        split
        · exact ih _ _ _ (by omega) hl
        · exact ih _ _ _ (by omega) hl
      · rw [if_neg e, if_neg e, q_distance h hk16 d (lies_1 e).1]
        by_cases g : M.2.2.1 k 0 = c
        · rw [if_pos g, if_pos g]; exact ih _ _ _ (by omega) (hl.up hw.2.1.2.2.2)
        · rw [if_neg g, if_neg g]; exact ih _ _ _ (by omega) hl
theorem q_least (h : GR M (A 0)) (p c : Int32) : LL (f_X8_least X A p c) (f_X1_leastDistance M p c) := q_least_l h 17 0 _ _ rfl (Or.inl ⟨rfl, rfl⟩)
theorem LL.eq {a b a1 b1 : Int32} (h : LL a b) (h1 : LL a1 b1) : a = a1 ↔ b = b1 := by
  have hne : ∀ z : Int32, vp_in z 10000 → z ≠ 2147483647 ∧ z ≠ 1000000 := fun z hz => ⟨fun q => by rw [q] at hz; exact hz (Or.inr (by decide)), fun q => by rw [q] at hz; exact hz (Or.inr (by decide))⟩
  rcases h with ⟨rfl, rfl⟩ | ⟨rfl, hv⟩
  · rcases h1 with ⟨rfl, rfl⟩ | ⟨rfl, hv1⟩
    · exact ⟨fun _ => rfl, fun _ => rfl⟩
    · exact ⟨fun q => absurd q.symm (hne _ hv1).1, fun q => absurd q.symm (hne _ hv1).2⟩
  · rcases h1 with ⟨rfl, rfl⟩ | ⟨rfl, hv1⟩
    · exact ⟨fun q => absurd q (hne _ hv).1, fun q => absurd q (hne _ hv).2⟩
    · exact Iff.rfl
theorem LL.le {a b a1 b1 : Int32} (h : LL a b) (h1 : LL a1 b1) : a ≤ a1 ↔ b ≤ b1 := by
  rcases h with ⟨rfl, rfl⟩ | ⟨rfl, hv⟩
  · rcases h1 with ⟨rfl, rfl⟩ | ⟨rfl, hv1⟩
    · exact ⟨fun _ => Int32.le_refl _, fun _ => Int32.le_refl _⟩
    · have hl := vp_lt_lit hv1 (by decide)
      exact ⟨fun q => absurd (Int32.lt_of_le_of_lt q hl) (by decide), fun q => absurd (Int32.lt_of_le_of_lt q hl) (by decide)⟩
  · rcases h1 with ⟨rfl, rfl⟩ | ⟨rfl, hv1⟩
    · have hl := vp_lt_lit hv (by decide)
      exact ⟨fun _ => Int32.le_of_lt (Int32.lt_trans hl (by decide)), fun _ => Int32.le_of_lt (Int32.lt_trans hl (by decide))⟩
    · exact Iff.rfl
theorem q_counted_l (h : GR M (A 0)) {p club a0 a1 lim : Int32} (hl : LL (if a0 < a1 then a1 else a0) lim) : ∀ n k n0, n + k = 17 → f_X8_counted_l39 X A p n k club n0 a0 a1 = (club, f_X1_woodsNearerThan_l6 M p club lim n k n0, a0, a1) := by
  intro n
  induction n with
  | zero => intro k n0 _; rfl
  | succ n ih =>
    intro k n0 hk
    unfold f_X8_counted_l39 f_X1_woodsNearerThan_l6
    dsimp only [bd]
    rw [h.n4]
    by_cases d : M.1 4 ≤ nI k
    · rw [if_pos d, if_pos d]
    · have hw := h.w (by omega) d
      have hk16 := h.l4 (by omega) d
      rw [if_neg d, if_neg d, q_lies hk16 hw, ow k 0 (by omega) rfl, hw.1.1, ih _ _ (by omega), ih _ _ (by omega)]
      by_cases e : f_X6_liesOn M k p = 0
      · rw [if_pos e, if_pos e]
        split <;> rfl
      · rw [if_neg e, if_neg e, q_distance h hk16 d (lies_1 e).1]
        by_cases g : M.2.2.1 k 0 = club
        · rw [if_pos g, if_pos g]
          have hx := hl.lt hw.2.1.2.2.2
          by_cases u : M.2.2.1 k 6 < lim
          · rw [if_neg (Int32.not_le.mpr u), if_neg (Int32.not_le.mpr (hx.mpr u))]
          · rw [if_pos (Int32.not_lt.mp u), if_pos (Int32.not_lt.mp (fun q => u (hx.mp q)))]
        · rw [if_neg g, if_neg g]
theorem q_counted (h : GR M (A 0)) (p : Int32) : f_X8_counted X A p = f_X1_countShots M p := by
  have h0 := q_least (X := X) h p 0
  have h1 := q_least (X := X) h p 1
  unfold f_X8_counted f_X1_countShots f_X1_woodsNearerThan
  dsimp only [bd]
  by_cases e : f_X1_leastDistance M p 0 = f_X1_leastDistance M p 1
  · rw [if_pos e, if_pos ((h0.eq h1).mpr e)]
  · rw [if_neg e, if_neg (fun q => e ((h0.eq h1).mp q))]
    by_cases g : f_X1_leastDistance M p 1 ≤ f_X1_leastDistance M p 0
    · have g1 := (h1.le h0).mpr g
      rw [if_pos g, if_pos g1, q_counted_l h (lim := f_X1_leastDistance M p 0) (by rw [if_neg (Int32.not_lt.mpr g1)]; exact h0) 17 0 0 rfl]
      show _ + 10 * 1 = _
      rw [Int32.add_comm]
      rfl
    · have g1 : ¬ f_X8_least X A p 1 ≤ f_X8_least X A p 0 := fun q => g ((h1.le h0).mp q)
      rw [if_neg g, if_neg g1, q_counted_l h (lim := f_X1_leastDistance M p 1) (by rw [if_pos (Int32.not_le.mp g1)]; exact h1) 17 0 0 rfl]
      show _ + 10 * 0 = _
      rw [show (10 * 0 : Int32) = 0 from rfl, Int32.add_zero]
theorem q_best_l (h : GR M (A 0)) {r w : Nat} (hr : r < 4) (hrc : ¬ M.1 3 ≤ nI r) (hw : w < 16) (hwc : ¬ M.1 4 ≤ nI w) (hp : M.2.1 r 4 ≠ 0) {c z : Int32} : ∀ n k be a b, LL a b → (f_X8_bestStrength_l41 X A (nI r) (nI w) c z n k be a).1 = (f_X7_bestStrength_l70 M X1 A1 (nI r) (nI w) c z n k be b).1 := by
  have hR := h.r (by omega) hrc
  intro n
  induction n with
  | zero => intro k be a b _; rfl
  | succ n ih =>
    intro k be a b hl
    unfold f_X8_bestStrength_l41 f_X7_bestStrength_l70
    dsimp only [bd]
    rw [q_landing (X := X) h hr hrc hw hwc, nI_clamp (show r < 2 ^ 31 by omega)]
    by_cases d : 20 < nI k
    · rw [if_pos d, if_pos d]
    · rw [if_neg d, if_neg d, orr r 4 (by omega) rfl, hR.1.2.2.2.2.1, if_neg (fun q => hp ((nn_le hR.2.2.2.2.2.1).mp q))]
      by_cases e : f_X8_lengthOf X A (nI r) (nI w) (f_X8_columnOf X A (nI w) c (nI k) z) (nI k) < 0
      · rw [if_pos e, lnd_n e, if_pos rfl]; exact ih _ _ _ _ hl
      · rw [if_neg e, lnd_p e]
        obtain ⟨⟨j, hj, ej⟩, i, hi, ei⟩ := q_len_in h hr hrc e
        rw [ej, ei]
        obtain ⟨l1, l2, l3, l4⟩ := land_dec hi hj
        rw [if_neg l3, l2, l1, q_square hr hR]
        have hd := dist_in (r := r) hR.2.1 hR.2.2.1 hR.2.2.2.2.2.1 hi hj
        have hx := hl.lt hd
        by_cases u : f_X5_distance M r (nI i) (nI j) < b
        · rw [if_pos (hx.mpr u), if_neg (Int32.not_le.mpr u)]
          exact ih _ _ _ _ (Or.inr ⟨rfl, hd⟩)
        · rw [if_neg (fun q => u (hx.mp q)), if_pos (Int32.not_lt.mp u)]
          exact ih _ _ _ _ hl
end GR2
