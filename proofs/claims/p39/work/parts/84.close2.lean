section OP8
variable {M N : gM} {f g : Nat → Int32} {X Y : Nat → Int32} {A B : Nat → Nat → Int32}
theorem good_le (h : GR M f) {r c : Nat} {lim : Int32} (hr : r < 4) (hrc : ¬ M.1 3 ≤ nI r) (hc : c < 2) : cnt (good M (nI r) (nI c) lim) 16 ≤ 4 := by
  have hRR := h.r (by omega) hrc
  refine Nat.le_trans (cnt_le_of (Q := onR M r c) 16 (fun w hw q => ?_)) (Nat.le_trans (h.2.2.2.2.2 r hr hrc c hc) ?_)
  · obtain ⟨q1, q2, -⟩ := good_i.mp q
    obtain ⟨q3, q4⟩ := ly_i.mp q1
    obtain ⟨q5, q6⟩ := lies_1 q4
    unfold onR
    rw [decide_eq_true_iff]
    exact ⟨q3, one_ne q5, q6, q2⟩
  · rcases (show c = 0 ∨ c = 1 by omega) with rfl | rfl
    · obtain ⟨j, hj, e⟩ := vp_in_of hRR.2.2.2.2.2.2.2.2.1 (by decide)
      rw [show M.2.1 r (8 + 0) = nI j from e, nI_clamp (by omega)]; omega
    · obtain ⟨j, hj, e⟩ := vp_in_of hRR.2.2.2.2.2.2.2.2.2 (by decide)
      rw [show M.2.1 r (8 + 1) = nI j from e, nI_clamp (by omega)]; omega
theorem count_in (h : GR M f) {r : Nat} (hr : r < 4) (hrc : ¬ M.1 3 ≤ nI r) : f_X1_countShots M (nI r) = 0 ∨ (∃ n, 1 ≤ n ∧ n ≤ 4 ∧ f_X1_countShots M (nI r) = nI n) ∨ (∃ n, 1 ≤ n ∧ n ≤ 4 ∧ f_X1_countShots M (nI r) = nI (10 + n)) := by
  unfold f_X1_countShots
  simp only [bd_x]
  by_cases e : f_X1_leastDistance M (nI r) 0 = f_X1_leastDistance M (nI r) 1
  · rw [if_pos e]; exact Or.inl rfl
  · rw [if_neg e]
    by_cases g : f_X1_leastDistance M (nI r) 1 ≤ f_X1_leastDistance M (nI r) 0
    · have hlt : f_X1_leastDistance M (nI r) 1 < f_X1_leastDistance M (nI r) 0 := by
        refine Int32.lt_iff_toInt_lt.mpr ?_
        have x1 := Int32.le_iff_toInt_le.mp g
        have x2 : ¬ (f_X1_leastDistance M (nI r) 0).toInt = (f_X1_leastDistance M (nI r) 1).toInt := fun z => e (Int32.toInt_inj.mp z)
        omega
      obtain ⟨w1, w2⟩ := order_win h (Or.inr ⟨rfl, rfl⟩) hlt
      rw [if_pos g, nearer_eq h]
      exact Or.inr (Or.inr ⟨_, w2, good_le h hr hrc (show 1 < 2 by decide), nI_add 10 _⟩)
    · have hlt := Int32.not_le.mp g
      obtain ⟨w1, w2⟩ := order_win h (Or.inl ⟨rfl, rfl⟩) hlt
      rw [if_neg g, nearer_eq h]
      exact Or.inr (Or.inl ⟨_, w2, good_le h hr hrc (show 0 < 2 by decide), rfl⟩)
theorem upk {C : Nat → Nat → Int32} {i k : Nat} {v : Int32} (h : k ≠ i) : up2 C 0 i v 0 k = C 0 k := by rw [up2_eq, upd_ne _ _ h]
theorem code_dm {d n : Nat} (hd : d < 2) (h1 : 1 ≤ n) (h4 : n ≤ 4) : nI (10 * d + n) / 10 = nI d ∧ nI (10 * d + n) - nI (10 * d + n) / 10 * 10 = nI n := by
  rcases (show d = 0 ∨ d = 1 by omega) with rfl | rfl <;> rcases (show n = 1 ∨ n = 2 ∨ n = 3 ∨ n = 4 by omega) with rfl | rfl | rfl | rfl <;> decide
theorem R_close (hR : RS X A Y B) (hG : GR M (B 0)) (p : Int32) : OpR X A Y B (f_X7_closeEnd M X A p) (f_X8_closes Y B p) := by
  unfold f_X7_closeEnd f_X8_closes f_X8_does f_X5_isPlayed
  simp only [bd_x]
  rw [q_isRink hG]
  by_cases z : f_X1_isRink M p = 0
  · rw [if_pos z, if_pos z]; exact op_code hR hG (Or.inl rfl)
  rw [if_neg z, if_neg z]
  obtain ⟨r, rfl, hr, hc⟩ := rink_of hG z
  have hRR := hG.r (by omega) hc
  have hk : (nI r).toNatClampNeg = r := nI_clamp (by omega)
  rw [hk, orr r 4 (p := 4) (by omega) rfl, hRR.1.2.2.2.2.1]
  by_cases a : M.2.1 r 4 = 0
  · rw [if_pos a, if_pos rfl, if_pos a]
    exact op_refuse hG 5 (nI r)
  rw [if_neg a, if_neg (show ¬ (1 : Int32) = 0 by decide), if_neg a, q_counted hG]
  have hci := count_in hG hr hc
  generalize f_X1_countShots M (nI r) = z5 at hci ⊢
  obtain ⟨⟨y0, y1, y2, y3, y4, y5, y6, y7, y8, y9⟩, v0, v1, v2, v3, v4, v5, v6, v7, v8⟩ := hRR
  -- the last of it, for a green and a row with the clubs told
  have fin : ∀ (M1 : gM) (C : Nat → Nat → Int32) (s : Int32), M1.1 = M.1 → M1.2.2.1 = M.2.2.1 → (∀ q, q ≠ r → M1.2.1 q = M.2.1 q) → (∀ j, j ≠ 5 → M1.2.1 r j = M.2.1 r j) → M1.2.1 r 5 = s → vp_in s 2 → (∀ c, c < 2 → M1.2.2.2 c 2 = M.2.2.2 c 2 ∧ M1.2.2.2 c 3 = M.2.2.2 c 3) →
      (∀ c, c < 2 → ∀ i, i < 4 → C 0 (9 + 4 * c + i) = M1.2.2.2 c i) → (∀ k, k < 9 → C 0 k = B 0 k) → (∀ k, 17 ≤ k → k ≠ 17 + 10 * r + 6 → C 0 k = B 0 k) → C 0 (17 + 10 * r + 6) = s → FAm B C → C 7 = B 7 → z5 ≠ -1 ∧ z5 ≠ -2 ∧ z5 ≠ -3 →
      OpR X A Y B (z5, f_X1_bringWoodsToShed (f_X5_finishEnd M1 r) (nI r), X, A) (0, upd Y 17 z5, f_X8_closes_l122 Y (nI r) 17 0 (up2 (up2 (up2 C 0 (17 + 10 * r + 4) 0) 0 (17 + 10 * r + 5) (C 0 (17 + 10 * r + 6))) 0 (17 + 10 * r + 9) (C 0 (17 + 10 * r + 9) + 1))) := by
    intro M1 C s h1 hw ho hj h5 hs hcl gc g0 g1 g6 hF h7 hz
    obtain ⟨b1, b2, b3, -, b5⟩ := bring_l (p := nI r) 17 0 (f_X5_finishEnd M1 r) rfl
    have hCC : ∀ k, k ≠ 17 + 10 * r + 4 → k ≠ 17 + 10 * r + 5 → k ≠ 17 + 10 * r + 9 → (up2 (up2 (up2 C 0 (17 + 10 * r + 4) 0) 0 (17 + 10 * r + 5) (C 0 (17 + 10 * r + 6))) 0 (17 + 10 * r + 9) (C 0 (17 + 10 * r + 9) + 1)) 0 k = C 0 k := fun k n4 n5 n9 => by
      simp only [up2_eq]
      rw [upd_ne _ _ n9, upd_ne _ _ n5, upd_ne _ _ n4]
    have cc4 : (up2 (up2 (up2 C 0 (17 + 10 * r + 4) 0) 0 (17 + 10 * r + 5) (C 0 (17 + 10 * r + 6))) 0 (17 + 10 * r + 9) (C 0 (17 + 10 * r + 9) + 1)) 0 (17 + 10 * r + 4) = 0 := by
      simp only [up2_eq]
      rw [upd_ne _ _ (by omega), upd_ne _ _ (by omega), upd_eq]
    have cc5 : (up2 (up2 (up2 C 0 (17 + 10 * r + 4) 0) 0 (17 + 10 * r + 5) (C 0 (17 + 10 * r + 6))) 0 (17 + 10 * r + 9) (C 0 (17 + 10 * r + 9) + 1)) 0 (17 + 10 * r + 5) = s := by
      simp only [up2_eq]
      rw [upd_ne _ _ (by omega), upd_eq]; exact g6
    have cc9 : (up2 (up2 (up2 C 0 (17 + 10 * r + 4) 0) 0 (17 + 10 * r + 5) (C 0 (17 + 10 * r + 6))) 0 (17 + 10 * r + 9) (C 0 (17 + 10 * r + 9) + 1)) 0 (17 + 10 * r + 9) = C 0 (17 + 10 * r + 9) + 1 := by
      simp only [up2_eq]
      rw [upd_eq]
    have ccF : FAm B (up2 (up2 (up2 C 0 (17 + 10 * r + 4) 0) 0 (17 + 10 * r + 5) (C 0 (17 + 10 * r + 6))) 0 (17 + 10 * r + 9) (C 0 (17 + 10 * r + 9) + 1)) := ((hF.up).up).up
    have cc7 : (up2 (up2 (up2 C 0 (17 + 10 * r + 4) 0) 0 (17 + 10 * r + 5) (C 0 (17 + 10 * r + 6))) 0 (17 + 10 * r + 9) (C 0 (17 + 10 * r + 9) + 1)) 7 = B 7 := by
      simp only [up2_ne _ _ _ (show (7 : Nat) ≠ 0 by decide)]; exact h7
    generalize up2 (up2 (up2 C 0 (17 + 10 * r + 4) 0) 0 (17 + 10 * r + 5) (C 0 (17 + 10 * r + 6))) 0 (17 + 10 * r + 9) (C 0 (17 + 10 * r + 9) + 1) = D at hCC cc4 cc5 cc9 ccF cc7 ⊢
    have d4 : D 0 4 = M.1 4 := by rw [hCC 4 (by omega) (by omega) (by omega), g0 4 (by decide)]; exact hG.n4
    obtain ⟨-, l2, l3, l4⟩ := cl122 (Y := Y) (p := nI r) 17 0 D rfl (by rw [d4]; exact le_of_vp (by decide) hG.v4)
    have e1 : (f_X1_bringWoodsToShed (f_X5_finishEnd M1 r) (nI r)) = f_X1_bringWoodsToShed_l2 (nI r) 17 0 (f_X5_finishEnd M1 r) := by
      unfold f_X1_bringWoodsToShed
      rw [bd_x]
    rw [e1]
    generalize f_X1_bringWoodsToShed_l2 (nI r) 17 0 (f_X5_finishEnd M1 r) = Q at b1 b2 b3 b5 ⊢
    generalize f_X8_closes_l122 Y (nI r) 17 0 D = E at l2 l3 l4 ⊢
    have fr : (f_X5_finishEnd M1 r).2.1 r = upd (upd (upd (M1.2.1 r) 4 0) 6 s) 7 (M.2.1 r 7 + 1) := by
      unfold f_X5_finishEnd
      rw [sr_r, sr_r, sr_r, upd_ne (M1.2.1 r) (a := 5) _ (by decide), h5, upd_ne (upd (M1.2.1 r) 4 0) (a := 7) _ (by decide), upd_ne (M1.2.1 r) (a := 7) _ (by decide), hj 7 (by decide)]
    refine op_done hR ?_ (fun k x y => (l3 k x).trans (ccF k x y)) ((l3 7 (by decide)).trans cc7) hz
    refine hG.close (s := s) hr hc (b1.trans h1) (fun q hq => ?_) (fun j j4 j5 j6 j7 => ?_) ?_ ?_ ?_ ?_ hs (fun w w1 w2 => ?_) (fun c hcc => ?_) (fun c hcc i hi => ?_) (fun w w1 w2 j hj7 => ?_) (fun k hk9 => ?_) (fun k k1 k2 k3 => ?_) (fun j j1 j2 j3 j4 j5 => ?_) ?_ ?_ ?_ ?_
    · rw [b2]
      exact (sr_o hq).trans ((sr_o hq).trans ((sr_o hq).trans (ho q hq)))
    · rw [b2, fr, upd_ne _ _ j7, upd_ne _ _ j6, upd_ne _ _ j4, hj j j5]
    · rw [b2, fr, upd_ne _ _ (by decide), upd_ne _ _ (by decide), upd_eq]
    · rw [b2, fr, upd_ne _ _ (by decide), upd_ne _ _ (by decide), upd_ne _ _ (by decide), h5]
    · rw [b2, fr, upd_ne _ _ (by decide), upd_eq]
    · rw [b2, fr, upd_eq]
    · have fw : (f_X5_finishEnd M1 r).2.2.1 = M.2.2.1 := hw
      have := b5 w w1 (Nat.zero_le _) (by show ¬ M1.1 4 ≤ nI w; rw [h1]; exact w2)
      rw [fw] at this
      exact this
    · rw [b3]; exact hcl c hcc
    · rw [l2 _ (by omega), hCC _ (by omega) (by omega) (by omega), b3]; exact gc c hcc i hi
    · have dw : ∀ j, j < 7 → D 0 (57 + 7 * w + j) = B 0 (57 + 7 * w + j) := fun j hj => by
        rw [hCC _ (by omega) (by omega) (by omega), g1 _ (by omega) (by omega)]
      have := l4 w w1 (Nat.zero_le _) (by rw [d4]; exact w2) j hj7
      rw [dw 2 (by decide), dw 3 (by decide), dw j hj7] at this
      exact this
    · rw [l2 _ (by omega), hCC _ (by omega) (by omega) (by omega), g0 k hk9]
    · rw [l2 _ k2, hCC _ (by omega) (by omega) (by omega), g1 k k1 (by omega)]
    · rw [l2 _ (by omega), hCC _ (by omega) (by omega) (by omega), g1 _ (by omega) (by omega)]
    · rw [l2 _ (by omega)]; exact cc4
    · rw [l2 _ (by omega)]; exact cc5
    · rw [l2 _ (by omega), hCC _ (by omega) (by omega) (by omega)]; exact g6
    · rw [l2 _ (by omega), cc9, g1 _ (by omega) (by omega)]
  simp only [srr r 4 (p := 4) (show r < 2 ^ 31 by omega) rfl, srr r 5 (p := 5) (show r < 2 ^ 31 by omega) rfl, srr r 6 (p := 6) (show r < 2 ^ 31 by omega) rfl, srr r 9 (p := 9) (show r < 2 ^ 31 by omega) rfl, orr r 6 (p := 6) (show r < 2 ^ 31 by omega) rfl, orr r 9 (p := 9) (show r < 2 ^ 31 by omega) rfl]
  have tail : ∀ d n : Nat, d < 2 → 1 ≤ n → n ≤ 4 → z5 = nI (10 * d + n) → OpR X A Y B (z5, f_X1_bringWoodsToShed (f_X5_finishEnd (sr (sc (sc M d 0 (M.2.2.2 d 0 + (z5 - z5 / 10 * 10))) d 1 ((sc M d 0 (M.2.2.2 d 0 + (z5 - z5 / 10 * 10))).2.2.2 d 1 + 1)) r 5 (nI d)) r) (nI r), X, A)
      (0, upd Y 17 z5, f_X8_closes_l122 Y (nI r) 17 0 (up2 (up2 (up2 (up2 (up2 (up2 B 0 (9 + 4 * (z5 / 10).toNatClampNeg) (B 0 (9 + 4 * (z5 / 10).toNatClampNeg) + (z5 - z5 / 10 * 10))) 0 (9 + 4 * (z5 / 10).toNatClampNeg + 1) (up2 B 0 (9 + 4 * (z5 / 10).toNatClampNeg) (B 0 (9 + 4 * (z5 / 10).toNatClampNeg) + (z5 - z5 / 10 * 10)) 0 (9 + 4 * (z5 / 10).toNatClampNeg + 1) + 1)) 0 (17 + 10 * r + 6) (z5 / 10)) 0 (17 + 10 * r + 4) 0) 0 (17 + 10 * r + 5) (up2 (up2 (up2 B 0 (9 + 4 * (z5 / 10).toNatClampNeg) (B 0 (9 + 4 * (z5 / 10).toNatClampNeg) + (z5 - z5 / 10 * 10))) 0 (9 + 4 * (z5 / 10).toNatClampNeg + 1) (up2 B 0 (9 + 4 * (z5 / 10).toNatClampNeg) (B 0 (9 + 4 * (z5 / 10).toNatClampNeg) + (z5 - z5 / 10 * 10)) 0 (9 + 4 * (z5 / 10).toNatClampNeg + 1) + 1)) 0 (17 + 10 * r + 6) (z5 / 10) 0 (17 + 10 * r + 6))) 0 (17 + 10 * r + 9) (up2 (up2 (up2 B 0 (9 + 4 * (z5 / 10).toNatClampNeg) (B 0 (9 + 4 * (z5 / 10).toNatClampNeg) + (z5 - z5 / 10 * 10))) 0 (9 + 4 * (z5 / 10).toNatClampNeg + 1) (up2 B 0 (9 + 4 * (z5 / 10).toNatClampNeg) (B 0 (9 + 4 * (z5 / 10).toNatClampNeg) + (z5 - z5 / 10 * 10)) 0 (9 + 4 * (z5 / 10).toNatClampNeg + 1) + 1)) 0 (17 + 10 * r + 6) (z5 / 10) 0 (17 + 10 * r + 9) + 1))) := by
    intro d n hd h1 h4 ez
    obtain ⟨m1, m2⟩ := code_dm hd h1 h4
    rw [← ez] at m1 m2
    rw [m2, m1, nI_clamp (show d < 2 ^ 31 by omega)]
    have zz : z5 ≠ -1 ∧ z5 ≠ -2 ∧ z5 ≠ -3 := by rw [ez]; exact ncode (vp_in_nI (N := 20) (by omega) (by decide))
    have s2 : (sr (sc (sc M d 0 (M.2.2.2 d 0 + nI n)) d 1 ((sc M d 0 (M.2.2.2 d 0 + nI n)).2.2.2 d 1 + 1)) r 5 (nI d)).2.2.2 d = upd (upd (M.2.2.2 d) 0 (M.2.2.2 d 0 + nI n)) 1 (M.2.2.2 d 1 + 1) := by simp [sr, sc, up2, upd]
    have s3 : ∀ c, c ≠ d → (sr (sc (sc M d 0 (M.2.2.2 d 0 + nI n)) d 1 ((sc M d 0 (M.2.2.2 d 0 + nI n)).2.2.2 d 1 + 1)) r 5 (nI d)).2.2.2 c = M.2.2.2 c := fun c e => by simp [sr, sc, up2, e]
    have q0 : B 0 (9 + 4 * d) = M.2.2.2 d 0 := hG.2.1 d hd 0 (by decide)
    have q1 : B 0 (9 + 4 * d + 1) = M.2.2.2 d 1 := hG.2.1 d hd 1 (by decide)
    refine fin _ (up2 (up2 (up2 B 0 (9 + 4 * d) (B 0 (9 + 4 * d) + nI n)) 0 (9 + 4 * d + 1) (up2 B 0 (9 + 4 * d) (B 0 (9 + 4 * d) + nI n) 0 (9 + 4 * d + 1) + 1)) 0 (17 + 10 * r + 6) (nI d)) (nI d) rfl rfl (fun q hq => sr_o hq) (fun j hj => ?_) ?_ (vp_in_nI hd (by decide)) (fun c hcc => ?_) (fun c hcc i hi => ?_) (fun k hk9 => ?_) (fun k h17 hk6 => ?_) ?_ ((FAm.rf.up).up).up ?_ zz
    · rw [sr_r, upd_ne _ _ hj]; rfl
    · rw [sr_r, upd_eq]
    · by_cases e : c = d
      · subst e
        rw [s2]; simp [upd]
      · rw [s3 c e]; exact ⟨rfl, rfl⟩
    · have cd : B 0 (9 + 4 * c + i) = M.2.2.2 c i := hG.2.1 c hcc i hi
      by_cases e : c = d
      · subst e
        rw [s2]
        rcases (show i = 0 ∨ i = 1 ∨ i = 2 ∨ i = 3 by omega) with rfl | rfl | rfl | rfl
        · rw [upk (by omega), upk (by omega), show 9 + 4 * c + 0 = 9 + 4 * c by omega, up2_eq, upd_eq, q0]; simp [upd]
        · rw [upk (by omega), up2_eq, upd_eq, upk (by omega), q1]; simp [upd]
        · rw [upk (by omega), upk (by omega), upk (by omega), cd]; simp [upd]
        · rw [upk (by omega), upk (by omega), upk (by omega), cd]; simp [upd]
      · rw [s3 c e, upk (by omega), upk (by omega), upk (by omega), cd]
    · rw [upk (by omega), upk (by omega), upk (by omega)]
    · rw [upk hk6, upk (by omega), upk (by omega)]
    · rw [up2_eq, upd_eq]
    · simp only [up2_ne _ _ _ (show (7 : Nat) ≠ 0 by decide)]
  have x6 : ∀ (C : Nat → Nat → Int32), up2 C 0 (17 + 10 * r + 4) 0 0 (17 + 10 * r + 6) = C 0 (17 + 10 * r + 6) := fun C => upk (by omega)
  have x9 : ∀ (C : Nat → Nat → Int32) v, up2 (up2 C 0 (17 + 10 * r + 4) 0) 0 (17 + 10 * r + 5) v 0 (17 + 10 * r + 9) = C 0 (17 + 10 * r + 9) := fun C v => (upk (by omega)).trans (upk (by omega))
  simp only [x6, x9]
  rcases hci with e | ⟨n, n1, n4, e⟩ | ⟨n, n1, n4, e⟩
  · rw [if_pos (show z5 ≤ 0 by rw [e]; decide), if_pos (show z5 ≤ 0 by rw [e]; decide)]
    refine fin M B (M.2.1 r 5) rfl rfl (fun _ _ => rfl) (fun _ _ => rfl) rfl v5 (fun _ _ => ⟨rfl, rfl⟩) (fun c hcc i hi => hG.2.1 c hcc i hi) (fun _ _ => rfl) (fun _ _ _ => rfl) y6 FAm.rf rfl ?_
    rw [e]; decide
  · have l1 : ¬ z5 ≤ 0 := by rw [e]; exact nI_nle n1 (by omega)
    have l2 : z5 ≤ 10 := by rw [e]; exact (nI_leI (a := n) (b := 10) (by omega) (by decide)).mpr (by omega)
    rw [if_neg l1, if_pos l2, if_neg l1]
    exact tail 0 n (by decide) n1 n4 (by rw [e, show 10 * 0 + n = n by omega])
  · have l1 : ¬ z5 ≤ 0 := by rw [e]; exact nI_nle (by omega) (by omega)
    have l2 : ¬ z5 ≤ 10 := by
      rw [e]
      intro q
      have := (nI_leI (a := 10 + n) (b := 10) (by omega) (by decide)).mp q
      omega
    rw [if_neg l1, if_neg l2, if_neg l1]
    exact tail 1 n (by decide) n1 n4 e
end OP8
