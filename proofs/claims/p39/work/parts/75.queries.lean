/-! ===== pure: what is told of both ===== -/
theorem bd_x {α β : Type} (e : α) (f : α → β) : bd e f = f e := bd_eq rfl rfl
section QQ
variable {M : gM} {X X1 : Nat → Int32} {A A1 : Nat → Nat → Int32}
theorem Q_rinkOf (h : GR M (A 0)) (p1 p2 : Int32) : f_X8_rinkOf X A p1 p2 = f_X7_rinkOf M X1 A1 p1 p2 := by
  unfold f_X8_rinkOf f_X7_rinkOf
  simp only [bd_x]
  rw [q_isRink h]
  by_cases z : f_X1_isRink M p1 = 0
  · rw [if_pos z, if_pos z]
  rw [if_neg z, if_neg z]
  obtain ⟨r, rfl, hr, hc⟩ := rink_of h z
  have hR := h.r (by omega) hc
  have hk : (nI r).toNatClampNeg = r := nI_clamp (by omega)
  rw [hk]
  by_cases c0 : p2 = 0
  · subst c0; rw [if_pos rfl, if_pos rfl, orr r 0 (by omega) rfl]; exact hR.1.1
  rw [if_neg c0, if_neg c0]
  by_cases c1 : p2 = 1
  · subst c1; rw [if_pos rfl, if_pos rfl, orr r 1 (by omega) rfl]; exact hR.1.2.1
  rw [if_neg c1, if_neg c1]
  by_cases c2 : p2 = 2
  · subst c2; rw [if_pos rfl, if_pos rfl, orr r 2 (by omega) rfl]; exact hR.1.2.2.1
  rw [if_neg c2, if_neg c2]
  by_cases c3 : p2 = 3
  · subst c3; rw [if_pos rfl, if_pos rfl, orr r 3 (by omega) rfl]; exact hR.1.2.2.2.1
  rw [if_neg c3, if_neg c3]
  by_cases c4 : p2 = 4
  · subst c4; rw [if_pos rfl, if_pos rfl, orr r 4 (by omega) rfl]; exact hR.1.2.2.2.2.1
  rw [if_neg c4, if_neg c4]
  by_cases c5 : p2 = 5
  · subst c5; rw [if_pos rfl, if_pos rfl, orr r 5 (by omega) rfl]; exact hR.1.2.2.2.2.2.1
  rw [if_neg c5, if_neg c5]
  by_cases c6 : p2 = 6
  · rw [if_pos c6, if_pos c6, q_countOn h _ (by decide)]
  rw [if_neg c6, if_neg c6]
  by_cases c7 : p2 = 7
  · rw [if_pos c7, if_pos c7, q_countOn h _ (by decide)]
  rw [if_neg c7, if_neg c7]
  by_cases c8 : p2 = 8
  · rw [if_pos c8, if_pos c8, orr r 9 (by omega) rfl]; exact hR.1.2.2.2.2.2.2.2.2.2
  rw [if_neg c8, if_neg c8]
theorem Q_woodOf (h : GR M (A 0)) (p1 p2 : Int32) : f_X8_woodOf X A p1 p2 = f_X7_woodOf M X1 A1 p1 p2 := by
  unfold f_X8_woodOf f_X7_woodOf
  simp only [bd_x]
  rw [q_isWood h]
  by_cases z : f_X1_isWood M p1 = 0
  · rw [if_pos z, if_pos z]
  rw [if_neg z, if_neg z]
  obtain ⟨w, rfl, hw, hc⟩ := wood_of h z
  have hW := h.w (by omega) hc
  have hk : (nI w).toNatClampNeg = w := nI_clamp (by omega)
  rw [hk, ow w 2 (p := 2) (by omega) rfl, hW.1.2.2.1]
  by_cases s : M.2.2.1 w 2 = 1
  · simp only [if_pos s]
    by_cases c0 : p2 = 0
    · subst c0; rw [if_pos rfl, if_pos rfl, ow w 0 (by omega) rfl]; exact hW.1.1
    rw [if_neg c0, if_neg c0]
    by_cases c1 : p2 = 1
    · subst c1; rw [if_pos rfl, if_pos rfl, ow w 1 (by omega) rfl]; exact hW.1.2.1
    rw [if_neg c1, if_neg c1]
    by_cases c2 : p2 = 2
    · subst c2; rw [if_pos rfl, if_pos rfl, ow w 2 (by omega) rfl]; exact hW.1.2.2.1
    rw [if_neg c2, if_neg c2]
    by_cases c3 : p2 = 3
    · rw [if_pos c3, if_pos c3, if_neg (one_ne s), if_neg (one_ne s), ow w 3 (by omega) rfl]; exact hW.1.2.2.2.1 (one_ne s)
    rw [if_neg c3, if_neg c3]
    by_cases c4 : p2 = 4
    · rw [if_pos c4, if_pos c4, ow w 4 (by omega) rfl]; exact (hW.1.2.2.2.2.1 s).1
    rw [if_neg c4, if_neg c4]
    by_cases c5 : p2 = 5
    · rw [if_pos c5, if_pos c5, ow w 5 (by omega) rfl]; exact (hW.1.2.2.2.2.1 s).2
    rw [if_neg c5, if_neg c5]
    by_cases c6 : p2 = 6
    · rw [if_pos c6, if_pos c6]; exact q_distance h hw hc s
    rw [if_neg c6, if_neg c6]
    by_cases c7 : p2 = 7
    · rw [if_pos c7, if_pos c7, ow w 6 (by omega) rfl]; exact hW.1.2.2.2.2.2
    rw [if_neg c7, if_neg c7]
  · simp only [if_neg s]
    by_cases c0 : p2 = 0
    · subst c0; rw [if_pos rfl, if_pos rfl, ow w 0 (by omega) rfl]; exact hW.1.1
    rw [if_neg c0, if_neg c0]
    by_cases c1 : p2 = 1
    · subst c1; rw [if_pos rfl, if_pos rfl, ow w 1 (by omega) rfl]; exact hW.1.2.1
    rw [if_neg c1, if_neg c1]
    by_cases c2 : p2 = 2
    · subst c2; rw [if_pos rfl, if_pos rfl, ow w 2 (by omega) rfl]; exact hW.1.2.2.1
    rw [if_neg c2, if_neg c2]
    by_cases c3 : p2 = 3
    · rw [if_pos c3, if_pos c3]
      by_cases s0 : M.2.2.1 w 2 = 0
      · rw [if_pos s0, if_pos s0]
      · rw [if_neg s0, if_neg s0, ow w 3 (by omega) rfl]; exact hW.1.2.2.2.1 s0
    rw [if_neg c3, if_neg c3]
    by_cases c4 : p2 = 4
    · rw [if_pos c4, if_pos c4]
    rw [if_neg c4, if_neg c4]
    by_cases c5 : p2 = 5
    · rw [if_pos c5, if_pos c5]
    rw [if_neg c5, if_neg c5]
    by_cases c6 : p2 = 6
    · rw [if_pos c6, if_pos c6]
    rw [if_neg c6, if_neg c6]
    by_cases c7 : p2 = 7
    · rw [if_pos c7, if_pos c7, ow w 6 (by omega) rfl]; exact hW.1.2.2.2.2.2
    rw [if_neg c7, if_neg c7]
theorem q_isClub (p : Int32) : f_X8_in X A p 0 1 = f_X7_isClub M X1 A1 p := by
  unfold f_X8_in f_X7_isClub
  by_cases c : p < 0
  · rw [if_pos c, if_pos c]
  · rw [if_neg c, if_neg c]
    obtain ⟨j, hj, rfl⟩ := nI_of c
    by_cases d : 2 ≤ nI j
    · have d1 := (nI_leI (a := 2) (b := j) (by decide) hj).mp d
      rw [if_pos d, if_pos (show (1 : Int32) < nI j from nI_lt (a := 1) (b := j) (by omega) hj)]
    · have d1 : ¬ 2 ≤ j := fun q => d (nI_le (a := 2) (b := j) q hj)
      rw [if_neg d, if_neg (show ¬ (1 : Int32) < nI j from nI_nlt (a := 1) (b := j) (by omega) (by decide))]
theorem club_is {p : Int32} (h : ¬ f_X7_isClub M X1 A1 p = 0) : ∃ c, p = nI c ∧ c < 2 := by
  obtain ⟨c, hc, e⟩ := vp_in_of (isClub_in (M := M) (X := X1) (A := A1) rfl h) (by decide)
  exact ⟨c, e, hc⟩
theorem Q_clubOf (h : GR M (A 0)) (p1 p2 : Int32) : f_X8_clubOf X A p1 p2 = f_X7_clubOf M X1 A1 p1 p2 := by
  unfold f_X8_clubOf f_X7_clubOf
  simp only [bd_x]
  rw [q_isClub (M := M) (X1 := X1) (A1 := A1)]
  by_cases z : f_X7_isClub M X1 A1 p1 = 0
  · rw [if_pos z, if_pos z]
  rw [if_neg z, if_neg z]
  obtain ⟨c, rfl, hc⟩ := club_is z
  have hk : (nI c).toNatClampNeg = c := nI_clamp (by omega)
  rw [hk, q_woodsOf0 h, q_woodsOf1 h, h.2.1 c hc 0 (by decide), h.2.1 c hc 1 (by decide), h.2.1 c hc 2 (by decide), h.2.1 c hc 3 (by decide)]
theorem Q_rinkAt (h : GR M (A 0)) (p1 : Int32) : f_X8_rinkAt X A p1 = f_X7_rinkAt M X1 A1 p1 := by
  unfold f_X7_rinkAt
  simp only [bd_x]
  exact q_rinkAt h p1
theorem Q_nearest (h : GR M (A 0)) (p1 p2 : Int32) : f_X8_nearest X A p1 p2 = f_X7_nearest M X1 A1 p1 p2 := by
  unfold f_X8_nearest f_X7_nearest
  simp only [bd_x]
  rw [q_isRink h, q_atPlace h]
theorem Q_shots (h : GR M (A 0)) (p1 p2 : Int32) : f_X8_shots X A p1 p2 = f_X7_shots M X1 A1 p1 p2 := by
  unfold f_X8_shots f_X7_shots
  simp only [bd_x]
  rw [q_isRink h, q_counted h, q_inOrder h]
  by_cases z : f_X1_isRink M p1 = 0
  · rw [if_pos z, if_pos z]
  rw [if_neg z, if_neg z]
  obtain ⟨r, rfl, hr, hc⟩ := rink_of h z
  have hR := h.r (by omega) hc
  have hk : (nI r).toNatClampNeg = r := nI_clamp (by omega)
  rw [hk, orr r 4 (by omega) rfl, hR.1.2.2.2.2.1]
  unfold f_X5_isPlayed
  by_cases d : M.2.1 r 4 = 0
  · rw [if_pos d, if_pos d, if_pos rfl]
  · rw [if_neg d, if_neg d, if_neg (show ¬ (1 : Int32) = 0 by decide)]
    split <;> rfl
theorem q_isStrength (p : Int32) : f_X8_in X A p 1 20 = f_X7_isStrength M X1 A1 p := rfl
theorem Q_would (h : GR M (A 0)) (p1 p2 p3 p4 p5 : Int32) : f_X8_would X A p1 p2 p3 p4 p5 = f_X7_would M X1 A1 p1 p2 p3 p4 p5 := by
  unfold f_X8_would f_X7_would
  simp only [bd_x]
  rw [q_isRink h, q_isWood h]
  by_cases z : f_X1_isRink M p1 = 0
  · rw [if_pos z, if_pos z]
  rw [if_neg z, if_neg z]
  obtain ⟨r, rfl, hr, hc⟩ := rink_of h z
  have hR := h.r (by omega) hc
  have hk : (nI r).toNatClampNeg = r := nI_clamp (by omega)
  by_cases y : f_X1_isWood M p2 = 0
  · rw [if_pos y, if_pos y]
  rw [if_neg y, if_neg y]
  obtain ⟨w, rfl, hw, hwc⟩ := wood_of h y
  have hW := h.w (by omega) hwc
  have hkw : (nI w).toNatClampNeg = w := nI_clamp (by omega)
  rw [hk, q_isBad hr hR, q_isStrength (M := M) (X1 := X1) (A1 := A1), q_landing (X := X) h hr hc hw hwc]
  by_cases a : f_X5_holds M r p3 = 0
  · rw [if_pos a, if_pos a, if_neg (show ¬ (1 : Int32) = 0 by decide)]
  · rw [if_neg a, if_neg a, if_pos rfl]
    by_cases b : f_X7_isStrength M X1 A1 p4 = 0
    · rw [if_pos b, if_pos b]
    · rw [if_neg b, if_neg b]
      by_cases l : f_X8_lengthOf X A (nI r) (nI w) (f_X8_columnOf X A (nI w) p3 p4 p5) p4 < 0
      · rw [lnd_n l, if_neg (Int32.not_le.mpr l)]
      · rw [lnd_p l, if_pos (Int32.not_lt.mp l)]
theorem best_0 (h : GR M (A 0)) {r : Nat} (hr : r < 4) (hR : RR M (A 0) r) (h0 : M.2.1 r 4 = 0) (p2 p3 p4 a b : Int32) : (f_X8_bestStrength_l41 X A (nI r) p2 p3 p4 21 1 a b).1 = a := by
  unfold f_X8_bestStrength_l41
  simp only [bd_x]
  rw [if_neg (show ¬ 20 < nI 1 by decide), orr r 4 (by omega) rfl, hR.1.2.2.2.2.1, if_pos (by rw [h0]; decide)]
theorem Q_bestStrength (h : GR M (A 0)) (p1 p2 p3 p4 : Int32) : f_X8_bestStrength X A p1 p2 p3 p4 = f_X7_bestStrength M X1 A1 p1 p2 p3 p4 := by
  unfold f_X8_bestStrength f_X7_bestStrength
  simp only [bd_x]
  rw [q_isRink h, q_isWood h]
  by_cases z : f_X1_isRink M p1 = 0
  · rw [if_pos z, if_pos z]
  rw [if_neg z, if_neg z]
  obtain ⟨r, rfl, hr, hc⟩ := rink_of h z
  have hR := h.r (by omega) hc
  have hk : (nI r).toNatClampNeg = r := nI_clamp (by omega)
  by_cases y : f_X1_isWood M p2 = 0
  · rw [if_pos y, if_pos y]
  rw [if_neg y, if_neg y]
  obtain ⟨w, rfl, hw, hwc⟩ := wood_of h y
  have hW := h.w (by omega) hwc
  have hkw : (nI w).toNatClampNeg = w := nI_clamp (by omega)
  rw [hk, q_isBad hr hR]
  by_cases a : f_X5_holds M r p3 = 0
  · rw [if_pos a, if_pos a, if_neg (show ¬ (1 : Int32) = 0 by decide)]
  · rw [if_neg a, if_neg a, if_pos rfl]
    by_cases d : M.2.1 r 4 = 0
    · rw [best_0 h hr hR d, if_pos (show f_X5_isPlayed M r = 0 from if_pos d)]
    · rw [if_neg (show ¬ f_X5_isPlayed M r = 0 by rw [show f_X5_isPlayed M r = 1 from if_neg d]; decide)]
      exact q_best_l h hr hc hw hwc d 21 1 (-4) _ _ (Or.inl ⟨rfl, rfl⟩)
theorem q_far (p : Int32) : f_X8_in X A p 0 40 = if p < 0 then 0 else if p ≤ 40 then 1 else 0 := by
  unfold f_X8_in
  by_cases c : p < 0
  · rw [if_pos c, if_pos c]
  · rw [if_neg c, if_neg c]
    by_cases d : p ≤ 40
    · rw [if_pos d, if_neg (Int32.not_lt.mpr d)]
    · rw [if_neg d, if_pos (Int32.not_le.mp d)]
theorem Q_ahead (h : GR M (A 0)) {r : Nat} (hr : r < 4) (hc : ¬ M.1 3 ≤ nI r) (p2 p3 : Int32) : f_X8_ahead X A (nI r) p2 p3 = (if p2 < 0 then -2 else if p2 ≤ 40 then (if p3 = 0 then f_X1_wetAhead M (nI r) p2 else f_X1_castsAhead M (nI r) p2) else -2) := by
  have hR := h.r (by omega) hc
  have hk : (nI r).toNatClampNeg = r := nI_clamp (by omega)
  have hi : ¬ f_X1_isRink M (nI r) = 0 := by
    unfold f_X1_isRink
    rw [if_neg (nI_pos (by omega)), if_neg hc]
    decide
  have l0 := q_ahead_l (X := X) h (p2 := p2) (p3 := p3) hr hc 41 0 (M.2.1 r 2) (M.2.1 r 3)
  unfold f_X8_ahead f_X1_wetAhead f_X1_castsAhead
  simp only [bd_x]
  rw [q_isRink h, if_neg hi, q_far, orr r 2 (by omega) rfl, orr r 3 (by omega) rfl, hR.1.2.2.1, hR.1.2.2.2.1, hk]
  by_cases c : p2 < 0
  · rw [if_pos c, if_pos c, if_pos rfl]
  · rw [if_neg c, if_neg c]
    by_cases d : p2 ≤ 40
    · rw [if_pos d, if_pos d, if_neg (show ¬ (1 : Int32) = 0 by decide), l0.2, l0.1]
    · rw [if_neg d, if_neg d, if_pos rfl]
theorem ahead_no (h : GR M (A 0)) {p1 p2 p3 : Int32} (z : f_X1_isRink M p1 = 0) : f_X8_ahead X A p1 p2 p3 = -1 := by
  unfold f_X8_ahead
  simp only [bd_x]
  rw [q_isRink h, if_pos z]
theorem Q_wetIn (h : GR M (A 0)) (p1 p2 : Int32) : f_X8_wetIn X A p1 p2 = f_X7_wetIn M X1 A1 p1 p2 := by
  unfold f_X8_wetIn f_X7_wetIn
  simp only [bd_x]
  by_cases z : f_X1_isRink M p1 = 0
  · rw [if_pos z, ahead_no h z]
  rw [if_neg z]
  obtain ⟨r, rfl, hr, hc⟩ := rink_of h z
  rw [Q_ahead h hr hc p2, if_pos rfl]
theorem Q_castsIn (h : GR M (A 0)) (p1 p2 : Int32) : f_X8_castsIn X A p1 p2 = f_X7_castsIn M X1 A1 p1 p2 := by
  unfold f_X8_castsIn f_X7_castsIn
  simp only [bd_x]
  by_cases z : f_X1_isRink M p1 = 0
  · rw [if_pos z, ahead_no h z]
  rw [if_neg z]
  obtain ⟨r, rfl, hr, hc⟩ := rink_of h z
  rw [Q_ahead h hr hc p2, if_neg (show ¬ (1 : Int32) = 0 by decide)]
theorem until_l {p : Int32} : ∀ n k w, n + k = 42 → f_X1_hoursUntilDry_l12 M p n k w = -1 ∨ (∃ j, j ≤ 41 ∧ f_X1_hoursUntilDry_l12 M p n k w = nI j) := by
  intro n
  induction n with
  | zero => intro k w _; exact Or.inr ⟨0, by decide, rfl⟩
  | succ n ih =>
    intro k w hk
    unfold f_X1_hoursUntilDry_l12
    simp only [bd_x]
    split
    · exact Or.inl rfl
    · split
      · exact ih _ _ (by omega)
      · exact Or.inr ⟨k, by omega, rfl⟩
theorem Q_dryIn (h : GR M (A 0)) (p1 : Int32) : f_X8_dryIn X A p1 = f_X7_dryIn M X1 A1 p1 := by
  unfold f_X8_dryIn f_X7_dryIn
  simp only [bd_x]
  rw [q_isRink h]
  by_cases z : f_X1_isRink M p1 = 0
  · rw [if_pos z, if_pos z]
  rw [if_neg z, if_neg z]
  obtain ⟨r, rfl, hr, hc⟩ := rink_of h z
  have hR := h.r (by omega) hc
  have hk : (nI r).toNatClampNeg = r := nI_clamp (by omega)
  rw [q_hoursToDry h hr hc]
  unfold f_X1_hoursUntilDry
  rcases until_l (M := M) (p := nI r) 42 0 (M.2.1 (nI r).toNatClampNeg 2) rfl with e | ⟨j, hj, e⟩
  · rw [e, if_neg (by decide), if_pos rfl]
  · rw [e, if_pos (nI_pos' (by omega)), if_neg]
    intro q
    exact absurd (q ▸ nI_pos (n := j) (by omega)) (by decide)
theorem Q_leader (h : GR M (A 0)) : f_X8_leader X A = f_X7_leader M X1 A1 := by
  have e00 := h.2.1 0 (by decide) 0 (by decide)
  have e01 := h.2.1 0 (by decide) 1 (by decide)
  have e10 := h.2.1 1 (by decide) 0 (by decide)
  have e11 := h.2.1 1 (by decide) 1 (by decide)
  change A 0 (9 + 0) = _ at e00
  change A 0 (9 + 1) = _ at e01
  change A 0 (13 + 0) = _ at e10
  change A 0 (13 + 1) = _ at e11
  have l2 : f_X8_leader_l2 X A 1 2 = -4 := by
    unfold f_X8_leader_l2
    rw [if_pos (by decide)]
  have l1 : f_X8_leader_l2 X A 2 1 = if M.2.2.2 0 1 = M.2.2.2 1 1 then -4 else if M.2.2.2 0 1 ≤ M.2.2.2 1 1 then 1 else 0 := by
    unfold f_X8_leader_l2
    rw [if_neg (by decide), l2, e01, e11]
  unfold f_X8_leader f_X7_leader f_X8_leader_l2
  rw [if_neg (by decide), l1, e00, e10]
theorem Q_meanWet (h : GR M (A 0)) : f_X8_meanWet X A = f_X7_meanWet M X1 A1 := by
  unfold f_X8_meanWet f_X7_meanWet f_X1_allWet
  simp only [bd_x]
  rw [h.n3, q_allWet_l h 5 0 0 rfl]
theorem Q_winShare (h : GR M (A 0)) : f_X8_winShare X A = f_X7_winShare M X1 A1 := by
  have e01 := h.2.1 0 (by decide) 1 (by decide)
  have e11 := h.2.1 1 (by decide) 1 (by decide)
  change A 0 10 = _ at e01
  change A 0 14 = _ at e11
  unfold f_X8_winShare f_X7_winShare
  simp only [bd_x]
  rw [q_closed h, e01, e11]
theorem Q_account (h : GR M (A 0)) (h7 : X 9 = X1 7) (h3 : X 3 = X1 3) (p1 : Int32) : f_X8_account X A p1 = f_X7_account M X1 A1 p1 := by
  unfold f_X8_account f_X7_account f_X1_woodsInShed f_X1_endsPlayed
  simp only [bd_x]
  rw [h.1.1, h.1.2.1, h.1.2.2.1, h.n3, h.n4, h.1.2.2.2.2.2.1, h.1.2.2.2.2.2.2.1, h.1.2.2.2.2.2.2.2.1, h.1.2.2.2.2.2.2.2.2, q_closed h, q_allCasts h, q_woodsOf1 h, q_woodsOf1 h, q_endsPlayed_l h 5 0 0 rfl, h7, h3]
end QQ
