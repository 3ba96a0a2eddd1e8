/-! ===== the reasons of the first object's refusals ===== -/
set_option maxRecDepth 100000
section H2
variable {M N : gM} {X : Nat → Int32} {A : Nat → Nat → Int32} {G : Nat → gM}
theorem set_m3 : (f_X7_settle M X A (-3)).2 = X := by
  unfold f_X7_settle f_X7_isCode
  simp only [bd_x, if_neg (show ¬ (-3 : Int32) = -1 by decide), if_neg (show ¬ (-3 : Int32) = -2 by decide), if_true, if_neg (show ¬ (1 : Int32) = 0 by decide)]
theorem re_1 {p q : Int32} : f_X7_reason N (f_X7_settle N (f_X7_refuse N X A p q).2.1 (f_X7_refuse N X A p q).2.2 (f_X7_refuse N X A p q).1).2 (f_X7_refuse N X A p q).2.2 0 0 = p ∧ f_X7_reason N (f_X7_settle N (f_X7_refuse N X A p q).2.1 (f_X7_refuse N X A p q).2.2 (f_X7_refuse N X A p q).1).2 (f_X7_refuse N X A p q).2.2 0 1 = q ∧ f_X7_reason N (f_X7_settle N (f_X7_refuse N X A p q).2.1 (f_X7_refuse N X A p q).2.2 (f_X7_refuse N X A p q).1).2 (f_X7_refuse N X A p q).2.2 1 0 = -4 := by
  rw [refuse_eq]
  rw [set_m3]
  have s : ((1 : Int32) - 1 - 0).toNatClampNeg = 0 := by decide
  unfold f_X7_reason f_X4_tell
  simp only [bd_x, upd_eq, if_pos (show (0 : Int32) ≤ 0 by decide), if_pos (show (0 : Int32) ≤ 1 by decide), if_pos (show (0 : Int32) < 1 by decide), if_neg (show ¬ (1 : Int32) < 1 by decide), if_neg (show ¬ (1 : Int32) = 0 by decide), if_true, s]
  exact ⟨rfl, rfl, trivial⟩
theorem re_2 {p q : Int32} : f_X7_reason N (f_X7_settle N (f_X7_refuseWetRink N X A p q).2.1 (f_X7_refuseWetRink N X A p q).2.2 (f_X7_refuseWetRink N X A p q).1).2 (f_X7_refuseWetRink N X A p q).2.2 0 0 = 3 ∧ f_X7_reason N (f_X7_settle N (f_X7_refuseWetRink N X A p q).2.1 (f_X7_refuseWetRink N X A p q).2.2 (f_X7_refuseWetRink N X A p q).1).2 (f_X7_refuseWetRink N X A p q).2.2 0 1 = p ∧ f_X7_reason N (f_X7_settle N (f_X7_refuseWetRink N X A p q).2.1 (f_X7_refuseWetRink N X A p q).2.2 (f_X7_refuseWetRink N X A p q).1).2 (f_X7_refuseWetRink N X A p q).2.2 1 0 = 13 ∧ f_X7_reason N (f_X7_settle N (f_X7_refuseWetRink N X A p q).2.1 (f_X7_refuseWetRink N X A p q).2.2 (f_X7_refuseWetRink N X A p q).1).2 (f_X7_refuseWetRink N X A p q).2.2 1 1 = q ∧ f_X7_reason N (f_X7_settle N (f_X7_refuseWetRink N X A p q).2.1 (f_X7_refuseWetRink N X A p q).2.2 (f_X7_refuseWetRink N X A p q).1).2 (f_X7_refuseWetRink N X A p q).2.2 2 0 = -4 := by
  have e : f_X7_refuseWetRink N X A p q = (-3, upd (upd (upd X 6 0) 6 1) 6 2, up2 (up2 (up2 (up2 A 2 0 13) 3 0 q) 2 1 3) 3 1 p) := by
    unfold f_X7_refuseWetRink f_X4_put f_X4_empty
    simp only [bd_x, upd_eq, if_neg (show ¬ (3 : Int32) ≤ 0 by decide), if_neg (show ¬ (3 : Int32) ≤ 0 + 1 by decide)]
    rfl
  rw [e, set_m3]
  have s0 : ((2 : Int32) - 1 - 0).toNatClampNeg = 1 := by decide
  have s1 : ((2 : Int32) - 1 - 1).toNatClampNeg = 0 := by decide
  unfold f_X7_reason f_X4_tell
  simp only [bd_x, upd_eq, if_pos (show (0 : Int32) ≤ 0 by decide), if_pos (show (0 : Int32) ≤ 1 by decide), if_pos (show (0 : Int32) ≤ 2 by decide), if_pos (show (0 : Int32) < 2 by decide), if_pos (show (1 : Int32) < 2 by decide), if_neg (show ¬ (2 : Int32) < 2 by decide), if_neg (show ¬ (1 : Int32) = 0 by decide), if_true, s0, s1]
  exact ⟨rfl, rfl, rfl, rfl, trivial⟩
theorem rz_rink : f_X7_layRink (sN 21) X A 20 22 = ((f_X7_refuse (sN 21) X A 1 4).1, sN 21, (f_X7_refuse (sN 21) X A 1 4).2.1, (f_X7_refuse (sN 21) X A 1 4).2.2) := by
  unfold f_X7_layRink
  simp only [bd_x]
  rw [if_neg (show ¬ (20 : Int32) < 0 by decide), if_neg (show ¬ (29 : Int32) < 20 by decide), if_neg (show ¬ (22 : Int32) < 0 by decide), if_pos (show (22 : Int32) ≤ 29 by decide), if_neg (show ¬ ((22 - 20) + 1 : Int32) < 3 by decide), if_pos (show ((22 - 20) + 1 : Int32) ≤ 10 by decide), if_neg (show ¬ (sN 21).1 3 < 4 by decide +kernel)]
theorem rz_wood : f_X7_addWood (sN 21) X A 0 0 = ((f_X7_refuse (sN 21) X A 1 16).1, sN 21, (f_X7_refuse (sN 21) X A 1 16).2.1, (f_X7_refuse (sN 21) X A 1 16).2.2) := by
  unfold f_X7_addWood
  simp only [bd_x]
  rw [if_neg cl0, if_neg (show ¬ (0 : Int32) < 0 by decide), if_pos (show (0 : Int32) ≤ 9 by decide), if_neg (show ¬ (sN 21).1 4 < 16 by decide +kernel)]
theorem rz_tea0 : f_X7_giveTea (sN 31) X A 0 = ((f_X7_refuse (sN 31) X A 11 0).1, sN 31, (f_X7_refuse (sN 31) X A 11 0).2.1, (f_X7_refuse (sN 31) X A 11 0).2.2) := by
  unfold f_X7_giveTea
  simp only [bd_x]
  rw [if_neg cl0, if_pos (show 1 ≤ (sN 31).1 8 by decide +kernel), if_neg (show ¬ 1 ≤ (sN 31).2.2.2 (0 : Int32).toNatClampNeg 2 by decide +kernel)]
theorem cl1 : ¬ f_X7_isClub M X A 1 = 0 := by
  unfold f_X7_isClub
  rw [if_neg (show ¬ (1 : Int32) < 0 by decide), if_neg (show ¬ (2 : Int32) ≤ 1 by decide)]
  decide
theorem rz_tea1 : f_X7_giveTea (sN 33) X A 1 = ((f_X7_refuse (sN 33) X A 10 1).1, sN 33, (f_X7_refuse (sN 33) X A 10 1).2.1, (f_X7_refuse (sN 33) X A 10 1).2.2) := by
  unfold f_X7_giveTea
  simp only [bd_x]
  rw [if_neg cl1, if_neg (show ¬ 1 ≤ (sN 33).1 8 by decide +kernel), show (1 - (sN 33).1 8 : Int32) = 1 by decide +kernel]
theorem rz_sweep : f_X7_sweepRink (sN 41) X A 0 = ((f_X7_refuse (sN 41) X A 9 0).1, sN 41, (f_X7_refuse (sN 41) X A 9 0).2.1, (f_X7_refuse (sN 41) X A 9 0).2.2) := by
  unfold f_X7_sweepRink
  simp only [bd_x]
  rw [if_neg (show ¬ f_X1_isRink (sN 41) 0 = 0 by decide +kernel), if_pos (show (sN 41).2.1 (0 : Int32).toNatClampNeg 3 = 0 by decide +kernel)]
theorem rz_begin1 : f_X7_beginEnd (sN 40) X A 1 20 = ((f_X7_refuseWetRink (sN 40) X A 20 (-1)).1, sN 40, (f_X7_refuseWetRink (sN 40) X A 20 (-1)).2.1, (f_X7_refuseWetRink (sN 40) X A 20 (-1)).2.2) := by
  unfold f_X7_beginEnd
  simp only [bd_x]
  rw [if_neg (show ¬ f_X1_isRink (sN 40) 1 = 0 by decide +kernel), if_neg (show ¬ (20 : Int32) < 20 by decide), if_pos (show (20 : Int32) ≤ 40 by decide), if_pos (show f_X5_isPlayed (sN 40) (1 : Int32).toNatClampNeg = 0 by decide +kernel), if_neg (show ¬ (sN 40).2.1 (1 : Int32).toNatClampNeg 2 < 8 by decide +kernel), show (sN 40).2.1 (1 : Int32).toNatClampNeg 2 = 20 by decide +kernel, show f_X1_hoursUntilDry (sN 40) 1 = -1 by decide +kernel]
theorem rz_begin2 : f_X7_beginEnd (sN 43) X A 1 20 = ((f_X7_refuseWetRink (sN 43) X A 20 2).1, sN 43, (f_X7_refuseWetRink (sN 43) X A 20 2).2.1, (f_X7_refuseWetRink (sN 43) X A 20 2).2.2) := by
  unfold f_X7_beginEnd
  simp only [bd_x]
  rw [if_neg (show ¬ f_X1_isRink (sN 43) 1 = 0 by decide +kernel), if_neg (show ¬ (20 : Int32) < 20 by decide), if_pos (show (20 : Int32) ≤ 40 by decide), if_pos (show f_X5_isPlayed (sN 43) (1 : Int32).toNatClampNeg = 0 by decide +kernel), if_neg (show ¬ (sN 43).2.1 (1 : Int32).toNatClampNeg 2 < 8 by decide +kernel), show (sN 43).2.1 (1 : Int32).toNatClampNeg 2 = 20 by decide +kernel, show f_X1_hoursUntilDry (sN 43) 1 = 2 by decide +kernel]
/-! as the calls leave them -/
theorem rr_rink (a b : Int32) : f_X7_reason (sN 21) (f_X7_rink G (sN 21) X A 20 22).2.2.2.1 (f_X7_rink G (sN 21) X A 20 22).2.2.2.2 a b = f_X7_reason (sN 21) (f_X7_settle (sN 21) (f_X7_refuse (sN 21) X A 1 4).2.1 (f_X7_refuse (sN 21) X A 1 4).2.2 (f_X7_refuse (sN 21) X A 1 4).1).2 (f_X7_refuse (sN 21) X A 1 4).2.2 a b := by
  unfold f_X7_rink
  simp only [bd_x, rz_rink]
theorem rr_wood (a b : Int32) : f_X7_reason (sN 21) (f_X7_wood G (sN 21) X A 0 0).2.2.2.1 (f_X7_wood G (sN 21) X A 0 0).2.2.2.2 a b = f_X7_reason (sN 21) (f_X7_settle (sN 21) (f_X7_refuse (sN 21) X A 1 16).2.1 (f_X7_refuse (sN 21) X A 1 16).2.2 (f_X7_refuse (sN 21) X A 1 16).1).2 (f_X7_refuse (sN 21) X A 1 16).2.2 a b := by
  unfold f_X7_wood
  simp only [bd_x, rz_wood]
theorem rr_tea0 (a b : Int32) : f_X7_reason (sN 31) (f_X7_tea G (sN 31) X A 0).2.2.2.1 (f_X7_tea G (sN 31) X A 0).2.2.2.2 a b = f_X7_reason (sN 31) (f_X7_settle (sN 31) (f_X7_refuse (sN 31) X A 11 0).2.1 (f_X7_refuse (sN 31) X A 11 0).2.2 (f_X7_refuse (sN 31) X A 11 0).1).2 (f_X7_refuse (sN 31) X A 11 0).2.2 a b := by
  unfold f_X7_tea
  simp only [bd_x, rz_tea0]
theorem rr_tea1 (a b : Int32) : f_X7_reason (sN 33) (f_X7_tea G (sN 33) X A 1).2.2.2.1 (f_X7_tea G (sN 33) X A 1).2.2.2.2 a b = f_X7_reason (sN 33) (f_X7_settle (sN 33) (f_X7_refuse (sN 33) X A 10 1).2.1 (f_X7_refuse (sN 33) X A 10 1).2.2 (f_X7_refuse (sN 33) X A 10 1).1).2 (f_X7_refuse (sN 33) X A 10 1).2.2 a b := by
  unfold f_X7_tea
  simp only [bd_x, rz_tea1]
theorem rr_sweep (a b : Int32) : f_X7_reason (sN 41) (f_X7_sweep G (sN 41) X A 0).2.2.2.1 (f_X7_sweep G (sN 41) X A 0).2.2.2.2 a b = f_X7_reason (sN 41) (f_X7_settle (sN 41) (f_X7_refuse (sN 41) X A 9 0).2.1 (f_X7_refuse (sN 41) X A 9 0).2.2 (f_X7_refuse (sN 41) X A 9 0).1).2 (f_X7_refuse (sN 41) X A 9 0).2.2 a b := by
  unfold f_X7_sweep
  simp only [bd_x, rz_sweep]
theorem rr_begin1 (a b : Int32) : f_X7_reason (sN 40) (f_X7_begin G (sN 40) X A 1 20).2.2.2.1 (f_X7_begin G (sN 40) X A 1 20).2.2.2.2 a b = f_X7_reason (sN 40) (f_X7_settle (sN 40) (f_X7_refuseWetRink (sN 40) X A 20 (-1)).2.1 (f_X7_refuseWetRink (sN 40) X A 20 (-1)).2.2 (f_X7_refuseWetRink (sN 40) X A 20 (-1)).1).2 (f_X7_refuseWetRink (sN 40) X A 20 (-1)).2.2 a b := by
  unfold f_X7_begin
  simp only [bd_x, rz_begin1]
theorem rr_begin2 (a b : Int32) : f_X7_reason (sN 43) (f_X7_begin G (sN 43) X A 1 20).2.2.2.1 (f_X7_begin G (sN 43) X A 1 20).2.2.2.2 a b = f_X7_reason (sN 43) (f_X7_settle (sN 43) (f_X7_refuseWetRink (sN 43) X A 20 2).2.1 (f_X7_refuseWetRink (sN 43) X A 20 2).2.2 (f_X7_refuseWetRink (sN 43) X A 20 2).1).2 (f_X7_refuseWetRink (sN 43) X A 20 2).2.2 a b := by
  unfold f_X7_begin
  simp only [bd_x, rz_begin2]
end H2
