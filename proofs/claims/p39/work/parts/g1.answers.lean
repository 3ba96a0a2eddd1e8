/-! ===== what a refused call answers ===== -/
set_option maxRecDepth 100000
section G1
variable {M : gM} {X : Nat → Int32} {A : Nat → Nat → Int32} {G : Nat → gM} {f : Nat → Int32}
theorem nr3 (h : MK M 3 16) : f_X1_isRink M (nI 3) = 0 := by
  unfold f_X1_isRink
  rw [if_neg (show ¬ nI 3 < 0 by decide), if_pos (by rw [h.1]; decide)]
theorem nrm : f_X1_isRink M (-1) = 0 := by
  unfold f_X1_isRink
  rw [if_pos (show (-1 : Int32) < 0 by decide)]
theorem rk0 (h : MK M 3 16) : ¬ f_X1_isRink M 0 = 0 := by
  unfold f_X1_isRink
  rw [if_neg (show ¬ (0 : Int32) < 0 by decide), if_neg (by rw [h.1]; decide)]
  decide
theorem nw16 (h : MK M 3 16) : f_X1_isWood M (nI 16) = 0 := by
  unfold f_X1_isWood
  rw [if_neg (show ¬ nI 16 < 0 by decide), if_pos (by rw [h.2.1]; decide)]
theorem nwm : f_X1_isWood M (-1) = 0 := by
  unfold f_X1_isWood
  rw [if_pos (show (-1 : Int32) < 0 by decide)]
theorem wd0 (h : MK M 3 16) : ¬ f_X1_isWood M 0 = 0 := by
  unfold f_X1_isWood
  rw [if_neg (show ¬ (0 : Int32) < 0 by decide), if_neg (by rw [h.2.1]; decide)]
  decide
theorem mk0 (h : MK M 3 16) : ∃ a c, M.2.1 0 0 = nI a ∧ M.2.1 0 1 = nI c ∧ a + 2 ≤ c ∧ c < 10 := by
  obtain ⟨a, c, e1, e2, e3, e4, e5⟩ := h.2.2 0 (by decide)
  exact ⟨a, c, e1, e2, e4, e5⟩
theorem lt_pred : ∀ a, a < 10 → nI a - 1 < nI a := by decide +kernel
theorem z0 : (0 : Int32).toNatClampNeg = 0 := rfl
theorem no_lo {a : Nat} (e : M.2.1 0 0 = nI a) (ha : a < 10) : f_X5_holds M (0 : Int32).toNatClampNeg (nI a - 1) = 0 := by
  unfold f_X5_holds
  rw [z0, e, if_pos (lt_pred a ha)]
theorem no_hi {a c : Nat} (e : M.2.1 0 0 = nI a) (e1 : M.2.1 0 1 = nI c) (h2 : a + 2 ≤ c) (hc : c < 10) : f_X5_holds M (0 : Int32).toNatClampNeg (nI c + 1) = 0 := by
  unfold f_X5_holds
  rw [z0, e, e1, nI_1, if_neg (xnlt (by omega) (by omega)), if_pos (xlt (by omega) (by omega))]
theorem yes_at {a c : Nat} (e : M.2.1 0 0 = nI a) (e1 : M.2.1 0 1 = nI c) (h2 : a + 2 ≤ c) (hc : c < 10) : ¬ f_X5_holds M (0 : Int32).toNatClampNeg (nI a) = 0 := by
  unfold f_X5_holds
  rw [z0, e, e1, if_neg (xnlt (by omega) (by omega)), if_neg (xnlt (by omega) (by omega))]
  decide
theorem st0 : f_X7_isStrength M X A 0 = 0 := by
  unfold f_X7_isStrength
  rw [if_pos (show (0 : Int32) < 1 by decide)]
theorem st21 : f_X7_isStrength M X A 21 = 0 := by
  unfold f_X7_isStrength
  rw [if_neg (show ¬ (21 : Int32) < 1 by decide), if_pos (show (20 : Int32) < 21 by decide)]
theorem nc2 : f_X7_isClub M X A 2 = 0 := by
  unfold f_X7_isClub
  rw [if_neg (show ¬ (2 : Int32) < 0 by decide), if_pos (show (2 : Int32) ≤ 2 by decide)]
theorem ncm : f_X7_isClub M X A (-1) = 0 := by
  unfold f_X7_isClub
  rw [if_pos (show (-1 : Int32) < 0 by decide)]
theorem cl0 : ¬ f_X7_isClub M X A 0 = 0 := by
  unfold f_X7_isClub
  rw [if_neg (show ¬ (0 : Int32) < 0 by decide), if_neg (show ¬ (2 : Int32) ≤ 0 by decide)]
  decide
theorem RES.same {hh : Nat → gM} {n : Nat} {sv : Option gM} {t : Nat → Nat} {k : Nat} {b : cB} {z : Int32 × (Nat → gM) × gM × (Nat → Int32) × (Nat → Nat → Int32)} {P : Int32 → Prop} {c : Int32} (h : RES G M X A b hh n sv t k z P) (e : z.1 = c) (hc : c = -1 ∨ c = -2) (hP : ∀ a, P a → ¬ CODE a) : OBx z.2.1 M z.2.2.2.1 A b hh n sv t k ∧ z.2.2.1 = M ∧ z.2.2.2.2 = A ∧ z.2.2.2.1 6 = X 6 ∧ z.2.2.2.1 1 = X 1 := by
  rcases h with ⟨h1, ⟨-, e2, hO, h3⟩ | ⟨hp, -⟩⟩
  · rcases h3 with h3 | ⟨h6, hA⟩
    · exfalso; rw [e] at h3; rcases hc with q | q <;> rw [q] at h3 <;> exact absurd h3 (by decide)
    · rw [hA] at hO; exact ⟨hO, e2, hA, h6, h1⟩
  · exact absurd (by rw [e]; rcases hc with q | q <;> rw [q] <;> unfold CODE <;> decide) (hP _ hp)
theorem an_rink1  : (f_X7_rink G M X A (-1) 3).1 = -2 := by
  rw [show (f_X7_rink G M X A (-1) 3).1 = (f_X7_layRink M X A (-1) 3).1 from set_1]
  unfold f_X7_layRink
  try simp only [bd_x]
  rw [if_pos (show (-1 : Int32) < 0 by decide)]
theorem an_rink2  : (f_X7_rink G M X A 0 1).1 = -2 := by
  rw [show (f_X7_rink G M X A 0 1).1 = (f_X7_layRink M X A 0 1).1 from set_1]
  unfold f_X7_layRink
  try simp only [bd_x]
  rw [if_neg (show ¬ (0 : Int32) < 0 by decide), if_neg (show ¬ (29 : Int32) < 0 by decide), if_neg (show ¬ (1 : Int32) < 0 by decide), if_pos (show (1 : Int32) ≤ 29 by decide), if_pos (show ((1 - 0) + 1 : Int32) < 3 by decide)]
theorem an_rink3  : (f_X7_rink G M X A 0 10).1 = -2 := by
  rw [show (f_X7_rink G M X A 0 10).1 = (f_X7_layRink M X A 0 10).1 from set_1]
  unfold f_X7_layRink
  try simp only [bd_x]
  rw [if_neg (show ¬ (0 : Int32) < 0 by decide), if_neg (show ¬ (29 : Int32) < 0 by decide), if_neg (show ¬ (10 : Int32) < 0 by decide), if_pos (show (10 : Int32) ≤ 29 by decide), if_neg (show ¬ ((10 - 0) + 1 : Int32) < 3 by decide), if_neg (show ¬ ((10 - 0) + 1 : Int32) ≤ 10 by decide)]
theorem an_rink4  : (f_X7_rink G M X A 28 30).1 = -2 := by
  rw [show (f_X7_rink G M X A 28 30).1 = (f_X7_layRink M X A 28 30).1 from set_1]
  unfold f_X7_layRink
  try simp only [bd_x]
  rw [if_neg (show ¬ (28 : Int32) < 0 by decide), if_neg (show ¬ (29 : Int32) < 28 by decide), if_neg (show ¬ (30 : Int32) < 0 by decide), if_neg (show ¬ (30 : Int32) ≤ 29 by decide)]
theorem an_rink5  : (f_X7_rink G M X A 9 5).1 = -2 := by
  rw [show (f_X7_rink G M X A 9 5).1 = (f_X7_layRink M X A 9 5).1 from set_1]
  unfold f_X7_layRink
  try simp only [bd_x]
  rw [if_neg (show ¬ (9 : Int32) < 0 by decide), if_neg (show ¬ (29 : Int32) < 9 by decide), if_neg (show ¬ (5 : Int32) < 0 by decide), if_pos (show (5 : Int32) ≤ 29 by decide), if_pos (show ((5 - 9) + 1 : Int32) < 3 by decide)]
theorem an_wood1  : (f_X7_wood G M X A 2 99).1 = -1 := by
  rw [show (f_X7_wood G M X A 2 99).1 = (f_X7_addWood M X A 2 99).1 from set_1]
  unfold f_X7_addWood
  try simp only [bd_x]
  rw [if_pos nc2]
theorem an_wood2  : (f_X7_wood G M X A (-1) 0).1 = -1 := by
  rw [show (f_X7_wood G M X A (-1) 0).1 = (f_X7_addWood M X A (-1) 0).1 from set_1]
  unfold f_X7_addWood
  try simp only [bd_x]
  rw [if_pos ncm]
theorem an_wood3  : (f_X7_wood G M X A 0 10).1 = -2 := by
  rw [show (f_X7_wood G M X A 0 10).1 = (f_X7_addWood M X A 0 10).1 from set_1]
  unfold f_X7_addWood
  try simp only [bd_x]
  rw [if_neg cl0, if_neg (show ¬ (10 : Int32) < 0 by decide), if_neg (show ¬ (10 : Int32) ≤ 9 by decide)]
theorem an_wood4  : (f_X7_wood G M X A 0 (-1)).1 = -2 := by
  rw [show (f_X7_wood G M X A 0 (-1)).1 = (f_X7_addWood M X A 0 (-1)).1 from set_1]
  unfold f_X7_addWood
  try simp only [bd_x]
  rw [if_neg cl0, if_pos (show (-1 : Int32) < 0 by decide)]
theorem an_begin1 (h : MK M 3 16) : (f_X7_begin G M X A (nI 3) 0).1 = -1 := by
  rw [show (f_X7_begin G M X A (nI 3) 0).1 = (f_X7_beginEnd M X A (nI 3) 0).1 from set_1]
  unfold f_X7_beginEnd
  try simp only [bd_x]
  rw [if_pos (nr3 h)]
theorem an_begin2 (h : MK M 3 16) : (f_X7_begin G M X A 0 19).1 = -2 := by
  rw [show (f_X7_begin G M X A 0 19).1 = (f_X7_beginEnd M X A 0 19).1 from set_1]
  unfold f_X7_beginEnd
  try simp only [bd_x]
  rw [if_neg (rk0 h), if_pos (show (19 : Int32) < 20 by decide)]
theorem an_begin3 (h : MK M 3 16) : (f_X7_begin G M X A 0 41).1 = -2 := by
  rw [show (f_X7_begin G M X A 0 41).1 = (f_X7_beginEnd M X A 0 41).1 from set_1]
  unfold f_X7_beginEnd
  try simp only [bd_x]
  rw [if_neg (rk0 h), if_neg (show ¬ (41 : Int32) < 20 by decide), if_neg (show ¬ (41 : Int32) ≤ 40 by decide)]
theorem an_bowl1 (h : MK M 3 16) : (f_X7_bowl G M X A (nI 3) 0 0 0 1).1 = -1 := by
  rw [show (f_X7_bowl G M X A (nI 3) 0 0 0 1).1 = (f_X7_bowlWood M X A (nI 3) 0 0 0 1).1 from set_1]
  unfold f_X7_bowlWood
  try simp only [bd_x]
  rw [if_pos (nr3 h)]
theorem an_bowl2 (h : MK M 3 16) : (f_X7_bowl G M X A 0 (nI 16) 0 0 1).1 = -1 := by
  rw [show (f_X7_bowl G M X A 0 (nI 16) 0 0 1).1 = (f_X7_bowlWood M X A 0 (nI 16) 0 0 1).1 from set_1]
  unfold f_X7_bowlWood
  try simp only [bd_x]
  rw [if_neg (rk0 h), if_pos (nw16 h)]
theorem an_bowl3 (h : MK M 3 16) {a : Nat} (e : M.2.1 0 0 = nI a) (ha : a < 10) : (f_X7_bowl G M X A 0 0 (nI a - 1) 1 1).1 = -2 := by
  rw [show (f_X7_bowl G M X A 0 0 (nI a - 1) 1 1).1 = (f_X7_bowlWood M X A 0 0 (nI a - 1) 1 1).1 from set_1]
  unfold f_X7_bowlWood
  try simp only [bd_x]
  rw [if_neg (rk0 h), if_neg (wd0 h), if_pos (no_lo e ha)]
theorem an_bowl4 (h : MK M 3 16) {a c : Nat} (e : M.2.1 0 0 = nI a) (e1 : M.2.1 0 1 = nI c) (h2 : a + 2 ≤ c) (hc : c < 10) : (f_X7_bowl G M X A 0 0 (nI c + 1) 1 1).1 = -2 := by
  rw [show (f_X7_bowl G M X A 0 0 (nI c + 1) 1 1).1 = (f_X7_bowlWood M X A 0 0 (nI c + 1) 1 1).1 from set_1]
  unfold f_X7_bowlWood
  try simp only [bd_x]
  rw [if_neg (rk0 h), if_neg (wd0 h), if_pos (no_hi e e1 h2 hc)]
theorem an_bowl5 (h : MK M 3 16) {a c : Nat} (e : M.2.1 0 0 = nI a) (e1 : M.2.1 0 1 = nI c) (h2 : a + 2 ≤ c) (hc : c < 10) : (f_X7_bowl G M X A 0 0 (nI a) 0 1).1 = -2 := by
  rw [show (f_X7_bowl G M X A 0 0 (nI a) 0 1).1 = (f_X7_bowlWood M X A 0 0 (nI a) 0 1).1 from set_1]
  unfold f_X7_bowlWood
  try simp only [bd_x]
  rw [if_neg (rk0 h), if_neg (wd0 h), if_neg (yes_at e e1 h2 hc), if_pos st0]
theorem an_bowl6 (h : MK M 3 16) {a c : Nat} (e : M.2.1 0 0 = nI a) (e1 : M.2.1 0 1 = nI c) (h2 : a + 2 ≤ c) (hc : c < 10) : (f_X7_bowl G M X A 0 0 (nI a) 21 1).1 = -2 := by
  rw [show (f_X7_bowl G M X A 0 0 (nI a) 21 1).1 = (f_X7_bowlWood M X A 0 0 (nI a) 21 1).1 from set_1]
  unfold f_X7_bowlWood
  try simp only [bd_x]
  rw [if_neg (rk0 h), if_neg (wd0 h), if_neg (yes_at e e1 h2 hc), if_pos st21]
theorem an_close1 (h : MK M 3 16) : (f_X7_close G M X A (nI 3)).1 = -1 := by
  rw [show (f_X7_close G M X A (nI 3)).1 = (f_X7_closeEnd M X A (nI 3)).1 from set_1]
  unfold f_X7_closeEnd
  try simp only [bd_x]
  rw [if_pos (nr3 h)]
theorem an_close2  : (f_X7_close G M X A (-1)).1 = -1 := by
  rw [show (f_X7_close G M X A (-1)).1 = (f_X7_closeEnd M X A (-1)).1 from set_1]
  unfold f_X7_closeEnd
  try simp only [bd_x]
  rw [if_pos nrm]
theorem an_sweep1 (h : MK M 3 16) : (f_X7_sweep G M X A (nI 3)).1 = -1 := by
  rw [show (f_X7_sweep G M X A (nI 3)).1 = (f_X7_sweepRink M X A (nI 3)).1 from set_1]
  unfold f_X7_sweepRink
  try simp only [bd_x]
  rw [if_pos (nr3 h)]
theorem an_rain1 : (f_X7_rain G M X A (-1)).1 = -2 := by
  rw [show (f_X7_rain G M X A (-1)).1 = (f_X7_setRain M X A (-1)).1 from set_1]
  unfold f_X7_setRain f_X7_isWeather
  simp only [bd_x]
  rw [if_pos (show (-1 : Int32) < 0 by decide), if_pos rfl]
theorem an_rain2 : (f_X7_rain G M X A 10).1 = -2 := by
  rw [show (f_X7_rain G M X A 10).1 = (f_X7_setRain M X A 10).1 from set_1]
  unfold f_X7_setRain f_X7_isWeather
  simp only [bd_x]
  rw [if_neg (show ¬ (10 : Int32) < 0 by decide), if_pos (show (9 : Int32) < 10 by decide), if_pos rfl]
theorem an_sun1 : (f_X7_sun G M X A (-1)).1 = -2 := by
  rw [show (f_X7_sun G M X A (-1)).1 = (f_X7_setSun M X A (-1)).1 from set_1]
  unfold f_X7_setSun f_X7_isWeather
  simp only [bd_x]
  rw [if_pos (show (-1 : Int32) < 0 by decide), if_pos rfl]
theorem an_sun2 : (f_X7_sun G M X A 10).1 = -2 := by
  rw [show (f_X7_sun G M X A 10).1 = (f_X7_setSun M X A 10).1 from set_1]
  unfold f_X7_setSun f_X7_isWeather
  simp only [bd_x]
  rw [if_neg (show ¬ (10 : Int32) < 0 by decide), if_pos (show (9 : Int32) < 10 by decide), if_pos rfl]
theorem an_brew1  : (f_X7_brew G M X A 0).1 = -2 := by
  rw [show (f_X7_brew G M X A 0).1 = (f_X7_brewCups M X A 0).1 from set_1]
  unfold f_X7_brewCups
  try simp only [bd_x]
  rw [if_pos (show (0 : Int32) < 1 by decide)]
theorem an_brew2  : (f_X7_brew G M X A 21).1 = -2 := by
  rw [show (f_X7_brew G M X A 21).1 = (f_X7_brewCups M X A 21).1 from set_1]
  unfold f_X7_brewCups
  try simp only [bd_x]
  rw [if_neg (show ¬ (21 : Int32) < 1 by decide), if_neg (show ¬ (21 : Int32) ≤ 20 by decide)]
theorem an_tea1  : (f_X7_tea G M X A 2).1 = -1 := by
  rw [show (f_X7_tea G M X A 2).1 = (f_X7_giveTea M X A 2).1 from set_1]
  unfold f_X7_giveTea
  try simp only [bd_x]
  rw [if_pos nc2]
theorem an_hour1  : (f_X7_hour G M X A 0).1 = -2 := by
  rw [show (f_X7_hour G M X A 0).1 = (f_X7_passHours M X A 0).1 from set_1]
  unfold f_X7_passHours
  try simp only [bd_x]
  rw [if_pos (show (0 : Int32) < 1 by decide)]
theorem an_hour2  : (f_X7_hour G M X A 25).1 = -2 := by
  rw [show (f_X7_hour G M X A 25).1 = (f_X7_passHours M X A 25).1 from set_1]
  unfold f_X7_passHours
  try simp only [bd_x]
  rw [if_neg (show ¬ (25 : Int32) < 1 by decide), if_neg (show ¬ (25 : Int32) ≤ 24 by decide)]
theorem an_rinkOf1 (h : MK M 3 16) : f_X7_rinkOf M x0 a0 (nI 3) 9 = -1 := by
  unfold f_X7_rinkOf
  simp only [bd_x]
  rw [if_pos (nr3 h)]
theorem an_rinkOf2 (h : MK M 3 16) : f_X7_rinkOf M x0 a0 0 9 = -2 := by
  unfold f_X7_rinkOf
  simp only [bd_x]
  rw [if_neg (rk0 h), if_neg (show ¬ (9 : Int32) = 0 by decide), if_neg (show ¬ (9 : Int32) = 1 by decide), if_neg (show ¬ (9 : Int32) = 2 by decide), if_neg (show ¬ (9 : Int32) = 3 by decide), if_neg (show ¬ (9 : Int32) = 4 by decide), if_neg (show ¬ (9 : Int32) = 5 by decide), if_neg (show ¬ (9 : Int32) = 6 by decide), if_neg (show ¬ (9 : Int32) = 7 by decide), if_neg (show ¬ (9 : Int32) = 8 by decide)]
theorem an_rinkOf3 (h : MK M 3 16) : f_X7_rinkOf M x0 a0 0 (-1) = -2 := by
  unfold f_X7_rinkOf
  simp only [bd_x]
  rw [if_neg (rk0 h), if_neg (show ¬ (-1 : Int32) = 0 by decide), if_neg (show ¬ (-1 : Int32) = 1 by decide), if_neg (show ¬ (-1 : Int32) = 2 by decide), if_neg (show ¬ (-1 : Int32) = 3 by decide), if_neg (show ¬ (-1 : Int32) = 4 by decide), if_neg (show ¬ (-1 : Int32) = 5 by decide), if_neg (show ¬ (-1 : Int32) = 6 by decide), if_neg (show ¬ (-1 : Int32) = 7 by decide), if_neg (show ¬ (-1 : Int32) = 8 by decide)]
theorem an_woodOf1 (h : MK M 3 16) : f_X7_woodOf M x0 a0 (nI 16) 9 = -1 := by
  unfold f_X7_woodOf
  simp only [bd_x]
  rw [if_pos (nw16 h)]
theorem an_woodOf2 (h : MK M 3 16) : f_X7_woodOf M x0 a0 0 8 = -2 := by
  unfold f_X7_woodOf
  simp only [bd_x, if_neg (wd0 h), if_neg (show ¬ (8 : Int32) = 0 by decide), if_neg (show ¬ (8 : Int32) = 1 by decide), if_neg (show ¬ (8 : Int32) = 2 by decide), if_neg (show ¬ (8 : Int32) = 3 by decide), if_neg (show ¬ (8 : Int32) = 4 by decide), if_neg (show ¬ (8 : Int32) = 5 by decide), if_neg (show ¬ (8 : Int32) = 6 by decide), if_neg (show ¬ (8 : Int32) = 7 by decide), ite_self]
theorem an_woodOf3 (h : MK M 3 16) : f_X7_woodOf M x0 a0 0 (-1) = -2 := by
  unfold f_X7_woodOf
  simp only [bd_x, if_neg (wd0 h), if_neg (show ¬ (-1 : Int32) = 0 by decide), if_neg (show ¬ (-1 : Int32) = 1 by decide), if_neg (show ¬ (-1 : Int32) = 2 by decide), if_neg (show ¬ (-1 : Int32) = 3 by decide), if_neg (show ¬ (-1 : Int32) = 4 by decide), if_neg (show ¬ (-1 : Int32) = 5 by decide), if_neg (show ¬ (-1 : Int32) = 6 by decide), if_neg (show ¬ (-1 : Int32) = 7 by decide), ite_self]
theorem an_clubOf1  : f_X7_clubOf M x0 a0 2 9 = -1 := by
  unfold f_X7_clubOf
  simp only [bd_x]
  rw [if_pos nc2]
theorem an_clubOf2  : f_X7_clubOf M x0 a0 0 6 = -2 := by
  unfold f_X7_clubOf
  simp only [bd_x]
  rw [if_neg cl0, if_neg (show ¬ (6 : Int32) = 0 by decide), if_neg (show ¬ (6 : Int32) = 1 by decide), if_neg (show ¬ (6 : Int32) = 2 by decide), if_neg (show ¬ (6 : Int32) = 3 by decide), if_neg (show ¬ (6 : Int32) = 4 by decide), if_neg (show ¬ (6 : Int32) = 5 by decide)]
theorem an_clubOf3  : f_X7_clubOf M x0 a0 0 (-1) = -2 := by
  unfold f_X7_clubOf
  simp only [bd_x]
  rw [if_neg cl0, if_neg (show ¬ (-1 : Int32) = 0 by decide), if_neg (show ¬ (-1 : Int32) = 1 by decide), if_neg (show ¬ (-1 : Int32) = 2 by decide), if_neg (show ¬ (-1 : Int32) = 3 by decide), if_neg (show ¬ (-1 : Int32) = 4 by decide), if_neg (show ¬ (-1 : Int32) = 5 by decide)]
theorem an_nearest1 (h : MK M 3 16) : f_X7_nearest M x0 a0 (nI 3) 0 = -1 := by
  unfold f_X7_nearest
  simp only [bd_x]
  rw [if_pos (nr3 h)]
theorem an_nearest2 (h : MK M 3 16) (hG : GR M f) : f_X7_nearest M x0 a0 0 16 = -4 := by
  unfold f_X7_nearest
  simp only [bd_x]
  rw [if_neg (rk0 h)]
  rcases inOrder (p := 0) (q := 16) hG (by decide) with ⟨i, h1, h2, h3, -⟩ | ⟨-, e⟩
  · have h4 := rank_all (d := dI M) h1 h2
    have h5 : cnt (lyB M 0) 16 ≤ 16 := cnt_le_n 16
    omega
  · exact e
theorem wio_m (hG : GR M f) {p : Int32} : ∀ n k, n + k = 17 → f_X1_woodInOrder_l2 M p (-1) n k = -4 ∨ n = 0 := by
  intro n
  induction n with
  | zero => exact fun k hk => Or.inr rfl
  | succ n ih =>
    intro k hk
    refine Or.inl ?_
    unfold f_X1_woodInOrder_l2
    simp only [bd_x]
    by_cases c : M.1 4 ≤ nI k
    · rw [if_pos c]
    · have hk16 : k < 16 := hG.l4 (by
        rcases Nat.lt_or_ge 16 k with q | q
        · exact absurd (le_mono (end_16 hG) (by omega) (by omega)) c
        · exact q) c
      have go : f_X1_woodInOrder_l2 M p (-1) n (k + 1) = -4 := (ih (k + 1) (by omega)).resolve_right (by omega)
      rw [if_neg c, go]
      split
      · rfl
      · rw [before_eq hG hk16, if_neg (fun e => by
          have h5 : rank (lyB M p) (dI M) k ≤ 16 := cnt_le_n 16
          have h6 : ¬ nI (rank (lyB M p) (dI M) k) < 0 := xnlt (b := 0) (by omega) (by omega)
          rw [e] at h6
          exact h6 (by decide))]
theorem an_nearest3 (h : MK M 3 16) (hG : GR M f) : f_X7_nearest M x0 a0 0 (-1) = -4 := by
  unfold f_X7_nearest
  simp only [bd_x]
  rw [if_neg (rk0 h)]
  exact (wio_m hG 17 0 rfl).resolve_right (by decide)
theorem an_rinkAt {p : Int32} (h : MK M 3 16) (h0 : ¬ (0 : Int32) = p) (h1 : ¬ (0 + 1 : Int32) = p) (h2 : ¬ (0 + 1 + 1 : Int32) = p) : f_X7_rinkAt M x0 a0 p = -1 := by
  obtain ⟨b0, c0, e0, -, l0, m0, n0⟩ := h.2.2 0 (by decide)
  obtain ⟨b1, c1, e1, -, l1, m1, n1⟩ := h.2.2 1 (by decide)
  obtain ⟨b2, c2, e2, -, l2, m2, n2⟩ := h.2.2 2 (by decide)
  have t0 : ¬ M.1 3 ≤ nI 0 := by rw [h.1]; decide
  have t1 : ¬ M.1 3 ≤ nI 1 := by rw [h.1]; decide
  have t2 : ¬ M.1 3 ≤ nI 2 := by rw [h.1]; decide
  have t3 : M.1 3 ≤ nI 3 := by rw [h.1]; decide
  have k00 : M.2.1 0 0 ≤ M.2.1 0 0 := Int32.le_refl _
  have k11 : M.2.1 1 0 ≤ M.2.1 1 0 := Int32.le_refl _
  have k22 : M.2.1 2 0 ≤ M.2.1 2 0 := Int32.le_refl _
  have k01 : M.2.1 0 0 ≤ M.2.1 1 0 := by rw [e0, e1]; exact Int32.not_lt.mp (xnlt (by omega) (by omega))
  have k02 : M.2.1 0 0 ≤ M.2.1 2 0 := by rw [e0, e2]; exact Int32.not_lt.mp (xnlt (by omega) (by omega))
  have k12 : M.2.1 1 0 ≤ M.2.1 2 0 := by rw [e1, e2]; exact Int32.not_lt.mp (xnlt (by omega) (by omega))
  have k10 : ¬ M.2.1 1 0 ≤ M.2.1 0 0 := by rw [e0, e1]; exact xnle (by omega) (by omega)
  have k20 : ¬ M.2.1 2 0 ≤ M.2.1 0 0 := by rw [e0, e2]; exact xnle (by omega) (by omega)
  have k21 : ¬ M.2.1 2 0 ≤ M.2.1 1 0 := by rw [e1, e2]; exact xnle (by omega) (by omega)
  unfold f_X7_rinkAt f_X1_rinkInOrder
  simp only [bd_x, f_X1_rinkInOrder_l2, f_X1_rinkInOrder_l15, Nat.reduceAdd, Nat.zero_add, if_neg t0, if_neg t1, if_neg t2, if_pos t3, if_pos k00, if_pos k11, if_pos k22, if_pos k01, if_pos k02, if_pos k12, if_neg k10, if_neg k20, if_neg k21, if_neg h0, if_neg h1, if_neg h2]
theorem an_shots1 (h : MK M 3 16) : f_X7_shots M x0 a0 (nI 3) 1 = -1 := by
  unfold f_X7_shots
  simp only [bd_x]
  rw [if_pos (nr3 h)]
theorem an_would1 (h : MK M 3 16) : f_X7_would M x0 a0 (nI 3) 0 0 0 1 = -1 := by
  unfold f_X7_would
  simp only [bd_x]
  rw [if_pos (nr3 h)]
theorem an_would2 (h : MK M 3 16) : f_X7_would M x0 a0 0 (nI 16) 0 0 1 = -1 := by
  unfold f_X7_would
  simp only [bd_x]
  rw [if_neg (rk0 h), if_pos (nw16 h)]
theorem an_would3 (h : MK M 3 16) {a c : Nat} (e : M.2.1 0 0 = nI a) (e1 : M.2.1 0 1 = nI c) (h2 : a + 2 ≤ c) (hc : c < 10) : f_X7_would M x0 a0 0 0 (nI c + 1) 1 1 = -2 := by
  unfold f_X7_would
  simp only [bd_x]
  rw [if_neg (rk0 h), if_neg (wd0 h), if_pos (no_hi e e1 h2 hc)]
theorem an_would4 (h : MK M 3 16) {a c : Nat} (e : M.2.1 0 0 = nI a) (e1 : M.2.1 0 1 = nI c) (h2 : a + 2 ≤ c) (hc : c < 10) : f_X7_would M x0 a0 0 0 (nI a) 21 1 = -2 := by
  unfold f_X7_would
  simp only [bd_x]
  rw [if_neg (rk0 h), if_neg (wd0 h), if_neg (yes_at e e1 h2 hc), if_pos st21]
theorem an_best1 (h : MK M 3 16) : f_X7_bestStrength M x0 a0 (nI 3) 0 0 1 = -1 := by
  unfold f_X7_bestStrength
  simp only [bd_x]
  rw [if_pos (nr3 h)]
theorem an_best2 (h : MK M 3 16) : f_X7_bestStrength M x0 a0 0 (-1) 0 1 = -1 := by
  unfold f_X7_bestStrength
  simp only [bd_x]
  rw [if_neg (rk0 h), if_pos nwm]
theorem an_best3 (h : MK M 3 16) {a : Nat} (e : M.2.1 0 0 = nI a) (ha : a < 10) : f_X7_bestStrength M x0 a0 0 0 (nI a - 1) 1 = -2 := by
  unfold f_X7_bestStrength
  simp only [bd_x]
  rw [if_neg (rk0 h), if_neg (wd0 h), if_pos (no_lo e ha)]
theorem an_wetIn1 (h : MK M 3 16) : f_X7_wetIn M x0 a0 (nI 3) 99 = -1 := by
  unfold f_X7_wetIn
  simp only [bd_x]
  rw [if_pos (nr3 h)]
theorem an_wetIn2 (h : MK M 3 16) : f_X7_wetIn M x0 a0 0 41 = -2 := by
  unfold f_X7_wetIn
  simp only [bd_x]
  rw [if_neg (rk0 h), if_neg (show ¬ (41 : Int32) < 0 by decide), if_neg (show ¬ (41 : Int32) ≤ 40 by decide)]
theorem an_wetIn3 (h : MK M 3 16) : f_X7_wetIn M x0 a0 0 (-1) = -2 := by
  unfold f_X7_wetIn
  simp only [bd_x]
  rw [if_neg (rk0 h), if_pos (show (-1 : Int32) < 0 by decide)]
theorem an_castsIn1  : f_X7_castsIn M x0 a0 (-1) 0 = -1 := by
  unfold f_X7_castsIn
  simp only [bd_x]
  rw [if_pos nrm]
theorem an_castsIn2 (h : MK M 3 16) : f_X7_castsIn M x0 a0 0 41 = -2 := by
  unfold f_X7_castsIn
  simp only [bd_x]
  rw [if_neg (rk0 h), if_neg (show ¬ (41 : Int32) < 0 by decide), if_neg (show ¬ (41 : Int32) ≤ 40 by decide)]
theorem an_dryIn1 (h : MK M 3 16) : f_X7_dryIn M x0 a0 (nI 3) = -1 := by
  unfold f_X7_dryIn
  simp only [bd_x]
  rw [if_pos (nr3 h)]
theorem an_account1  : f_X7_account M X A 15 = -2 := by
  unfold f_X7_account
  simp only [bd_x]
  rw [if_neg (show ¬ (15 : Int32) = 0 by decide), if_neg (show ¬ (15 : Int32) = 1 by decide), if_neg (show ¬ (15 : Int32) = 2 by decide), if_neg (show ¬ (15 : Int32) = 3 by decide), if_neg (show ¬ (15 : Int32) = 4 by decide), if_neg (show ¬ (15 : Int32) = 5 by decide), if_neg (show ¬ (15 : Int32) = 6 by decide), if_neg (show ¬ (15 : Int32) = 7 by decide), if_neg (show ¬ (15 : Int32) = 8 by decide), if_neg (show ¬ (15 : Int32) = 9 by decide), if_neg (show ¬ (15 : Int32) = 10 by decide), if_neg (show ¬ (15 : Int32) = 11 by decide), if_neg (show ¬ (15 : Int32) = 12 by decide), if_neg (show ¬ (15 : Int32) = 13 by decide), if_neg (show ¬ (15 : Int32) = 14 by decide)]
theorem an_account2  : f_X7_account M X A (-1) = -2 := by
  unfold f_X7_account
  simp only [bd_x]
  rw [if_neg (show ¬ (-1 : Int32) = 0 by decide), if_neg (show ¬ (-1 : Int32) = 1 by decide), if_neg (show ¬ (-1 : Int32) = 2 by decide), if_neg (show ¬ (-1 : Int32) = 3 by decide), if_neg (show ¬ (-1 : Int32) = 4 by decide), if_neg (show ¬ (-1 : Int32) = 5 by decide), if_neg (show ¬ (-1 : Int32) = 6 by decide), if_neg (show ¬ (-1 : Int32) = 7 by decide), if_neg (show ¬ (-1 : Int32) = 8 by decide), if_neg (show ¬ (-1 : Int32) = 9 by decide), if_neg (show ¬ (-1 : Int32) = 10 by decide), if_neg (show ¬ (-1 : Int32) = 11 by decide), if_neg (show ¬ (-1 : Int32) = 12 by decide), if_neg (show ¬ (-1 : Int32) = 13 by decide), if_neg (show ¬ (-1 : Int32) = 14 by decide)]
theorem an_desc (h : MK M 3 16) (hG : GR M f) : (f_X7_describe M (nI 3)).1 = -1 := (desc_both hG _).2.2 (nr3 h)
theorem an_writ1 : f_X7_written X A (-1) = -1 := by
  unfold f_X7_written
  rw [if_pos (show (-1 : Int32) < 0 by decide)]
theorem an_writ2 {n : Nat} (e : X 8 = nI n) (hn : n ≤ 110) : f_X7_written X A 110 = -1 := by
  unfold f_X7_written
  rw [if_neg (show ¬ (110 : Int32) < 0 by decide), e, if_neg (show ¬ (110 : Int32) < nI n from xnlt (a := 110) hn (by decide))]
theorem re_same {M1 : gM} {X1 : Nat → Int32} {A1 : Nat → Nat → Int32} (h6 : X1 6 = X 6) (h2 : A1 2 = A 2) (h3 : A1 3 = A 3) {p1 p2 : Int32} : f_X7_reason M1 X1 A1 p1 p2 = f_X7_reason M X A p1 p2 := by
  unfold f_X7_reason f_X4_tell
  simp only [bd_x, h6, h2, h3]
end G1
