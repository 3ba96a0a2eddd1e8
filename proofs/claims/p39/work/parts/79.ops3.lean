section OP3
variable {M : gM} {f : Nat → Int32} {X Y : Nat → Int32} {A B : Nat → Nat → Int32}
theorem put_2 {Z : Nat → Int32} (h : Z 6 = 1) (p q : Int32) : f_X4_put M Z A p q = (upd Z 6 2, up2 (up2 A 2 1 p) 3 1 q) := by
  unfold f_X4_put
  rw [h, if_neg (by decide)]
  rfl
theorem wet_eq (p q : Int32) : f_X7_refuseWetRink M X A p q = (-3, upd (upd (upd X 6 0) 6 1) 6 2, up2 (up2 (up2 (up2 A 2 0 13) 3 0 q) 2 1 3) 3 1 p) := by
  unfold f_X7_refuseWetRink f_X4_empty
  simp only [bd_x]
  rw [put_1]
  show ((-3 : Int32), (f_X4_put M (upd (upd X 6 0) 6 1) _ 3 p).1, (f_X4_put M (upd (upd X 6 0) 6 1) _ 3 p).2) = _
  rw [put_2 (upd_eq _ _ _)]
theorem by_2 {Z : Nat → Int32} (h : Z 16 = 1) (p q : Int32) : f_X8_refusesBy Z B p q = (-3, upd Z 16 2, up2 (up2 (up2 (up2 B 7 3 (B 7 1)) 7 2 (up2 B 7 3 (B 7 1) 7 0)) 7 0 p) 7 1 q) := by
  have e : ∀ p q, f_X8_refusesBy_l9 Z p q 5 (2 * 1 - 1) B = (-1, up2 (up2 B 7 3 (B 7 1)) 7 2 (up2 B 7 3 (B 7 1) 7 0)) := by
    intro p q
    rw [show (2 * 1 - 1 : Int32) = 1 by decide]
    unfold f_X8_refusesBy_l9
    rw [if_neg (show ¬ (1 : Int32) < 0 by decide), show (1 + -1 : Int32) = 0 by decide]
    unfold f_X8_refusesBy_l9
    rw [if_neg (show ¬ (0 : Int32) < 0 by decide), show (0 + -1 : Int32) = -1 by decide]
    unfold f_X8_refusesBy_l9
    rw [if_pos (show (-1 : Int32) < 0 by decide)]
    rfl
  unfold f_X8_refusesBy
  simp only [bd_x]
  rw [h, e]
  rfl
theorem rs_2 (p q : Int32) : RS (upd (upd (upd X 6 0) 6 1) 6 2) (up2 (up2 (up2 (up2 A 2 0 13) 3 0 q) 2 1 3) 3 1 p) (upd (upd Y 16 1) 16 2) (up2 (up2 (up2 (up2 (up2 (up2 B 7 0 13) 7 1 q) 7 3 (up2 (up2 B 7 0 13) 7 1 q 7 1)) 7 2 (up2 (up2 (up2 B 7 0 13) 7 1 q) 7 3 (up2 (up2 B 7 0 13) 7 1 q 7 1) 7 0)) 7 0 3) 7 1 p) := by
  refine ⟨2, by decide, upd_eq _ _ _, upd_eq _ _ _, fun i hi => ?_⟩
  rcases (show i = 0 ∨ i = 1 by omega) with rfl | rfl <;> simp [up2, upd]
theorem R_begin (hR : RS X A Y B) (hG : GR M (B 0)) (p s : Int32) : OpR X A Y B (f_X7_beginEnd M X A p s) (f_X8_starts Y B p s) := by
  unfold f_X7_beginEnd f_X8_starts f_X8_does f_X5_isPlayed f_X5_startEnd
  simp only [bd_x]
  rw [q_isRink hG]
  by_cases z : f_X1_isRink M p = 0
  · rw [if_pos z, if_pos z]; exact op_code hR hG (Or.inl rfl)
  rw [if_neg z, if_neg z]
  obtain ⟨r, rfl, hr, hc⟩ := rink_of hG z
  have hRR := hG.r (by omega) hc
  have hk : (nI r).toNatClampNeg = r := nI_clamp (by omega)
  rw [hk]
  by_cases l1 : s < 20
  · rw [if_pos l1, if_pos (show f_X8_in Y B s 20 40 = 0 from if_pos l1)]; exact op_code hR hG (Or.inr rfl)
  rw [if_neg l1]
  by_cases l2 : s ≤ 40
  · have ein : f_X8_in Y B s 20 40 = 1 := by
      unfold f_X8_in
      rw [if_neg l1, if_neg (Int32.not_lt.mpr l2)]
    rw [if_pos l2, ein, if_neg (show ¬ (1 : Int32) = 0 by decide), orr r 4 (p := 4) (by omega) rfl, hRR.1.2.2.2.2.1]
    by_cases a : M.2.1 r 4 = 0
    · rw [if_pos a, if_pos rfl, if_pos ((nn_le hRR.2.2.2.2.2.1).mpr a), orr r 2 (p := 2) (by omega) rfl, hRR.1.2.2.1]
      by_cases b : M.2.1 r 2 < 8
      · rw [if_pos b, if_pos b]
        simp only [srr r 4 (p := 4) (show r < 2 ^ 31 by omega) rfl, srr r 5 (p := 5) (show r < 2 ^ 31 by omega) rfl, srr r 7 (p := 7) (show r < 2 ^ 31 by omega) rfl, srr r 8 (p := 8) (show r < 2 ^ 31 by omega) rfl, orr r 6 (p := 6) (show r < 2 ^ 31 by omega) rfl, orr r 5 (p := 5) (show r < 2 ^ 31 by omega) rfl, up2_eq]
        obtain ⟨⟨y0, y1, y2, y3, y4, y5, y6, y7, y8, y9⟩, v0, v1, v2, v3, v4, v5, v6, v7, v8⟩ := hRR
        rw [upd_ne (B 0) (k := 17 + 10 * r + 4) (a := 17 + 10 * r + 6) _ (by omega), y6]
        have e6 : (sr M r 4 s).2.1 r 5 = M.2.1 r 5 := by rw [sr_r, upd_ne _ _ (by decide)]
        rw [e6]
        have eans : upd (upd (upd (upd (B 0) (17 + 10 * r + 4) s) (17 + 10 * r + 5) (M.2.1 r 5)) (17 + 10 * r + 7) 0) (17 + 10 * r + 8) 0 (17 + 10 * r + 5) = M.2.1 r 5 := by
          rw [upd_ne _ _ (by omega), upd_ne _ _ (by omega), upd_eq]
        have eans2 : (sr (sr (sr (sr M r 4 s) r 6 (M.2.1 r 5)) r (8 + 0) 0) r (8 + 1) 0).2.1 r 6 = M.2.1 r 5 := by
          rw [sr_r, sr_r, sr_r, sr_r]; simp [upd]
        rw [eans, eans2]
        refine op_done hR ?_ (((FAm.rf.up).up).up).up ?_ (ncode v5)
        · rw [up2_eq, up2_eq, up2_eq, up2_eq]
          have hno : ∀ w, w < 16 → ¬ M.1 4 ≤ nI w → M.2.2.1 w 2 ≠ 0 → M.2.2.1 w 3 ≠ nI r := fun w h1 h2 h3 h4 => by
            obtain ⟨q, a1, a2, a3, a4⟩ := (hG.2.2.2.2.1 w h1 h2).2.2.1 h3
            have : q = r := (nI_eq (by omega) (by omega)).mp (a1.symm.trans h4)
            rw [this] at a4
            exact a4 a
          have hs41 : vp_in s 41 := by
            have h0 : ¬ s < 0 := fun q => l1 (Int32.lt_trans q (by decide))
            obtain ⟨j, hj, rfl⟩ := nI_of h0
            have := (nI_leI (a := j) (b := 40) hj (by decide)).mp l2
            exact vp_in_nI (by omega) (by decide)
          change B 0 (17 + 10 * r) = _ at y0
          refine hG.rink hr rfl rfl (fun q hq => by rw [sr_o hq, sr_o hq, sr_o hq, sr_o hq]) (fun k _ hk2 => by rw [upd_ne _ _ (by omega), upd_ne _ _ (by omega), upd_ne _ _ (by omega), upd_ne _ _ (by omega)]) ?_ ?_ ?_ (Or.inr hno) (fun c hc2 => ?_)
          · refine ⟨⟨?_, ?_, ?_, ?_, ?_, ?_, ?_, ?_, ?_, ?_⟩, ?_, ?_, ?_, ?_, ?_, ?_, ?_, ?_, ?_⟩ <;> (rw [sr_r, sr_r, sr_r, sr_r]; simp [upd, *]) <;> exact vp_in_nI (n := 0) (by decide) (by decide)
          · rw [sr_r, sr_r, sr_r, sr_r]; simp [upd]
          · rw [sr_r, sr_r, sr_r, sr_r]; simp [upd]
          · have h0 : cnt (onR M r c) 16 = 0 := by
              have := cnt_eq_of (P := onR M r c) (Q := fun _ => false) 16 (fun j hj => by
                unfold onR
                rw [decide_eq_false_iff_not]
                intro q
                exact hno j hj q.1 q.2.1 q.2.2.1)
              rw [this]; decide
            rw [h0]; exact Nat.zero_le _
        · rw [up2_ne _ _ _ (by decide), up2_ne _ _ _ (by decide), up2_ne _ _ _ (by decide), up2_ne _ _ _ (by decide)]
      · rw [if_neg b, if_neg b, q_hoursToDry hG hr hc, wet_eq]
        unfold f_X8_refuses
        have e2 : f_X8_ofRink (upd Y 16 1) (up2 (up2 B 7 0 13) 7 1 (f_X1_hoursUntilDry M (nI r))) (nI r) 2 = M.2.1 r 2 := by
          rw [orr r 2 (p := 2) (by omega) rfl, up2_ne _ _ _ (by decide), up2_ne _ _ _ (by decide)]; exact hRR.1.2.2.1
        show OpR X A Y B _ ((f_X8_refusesBy (upd Y 16 1) (up2 (up2 B 7 0 13) 7 1 (f_X1_hoursUntilDry M (nI r))) 3 (f_X8_ofRink (upd Y 16 1) (up2 (up2 B 7 0 13) 7 1 (f_X1_hoursUntilDry M (nI r))) (nI r) 2)).1, (f_X8_refusesBy (upd Y 16 1) (up2 (up2 B 7 0 13) 7 1 (f_X1_hoursUntilDry M (nI r))) 3 (f_X8_ofRink (upd Y 16 1) (up2 (up2 B 7 0 13) 7 1 (f_X1_hoursUntilDry M (nI r))) (nI r) 2)).2.1, (f_X8_refusesBy (upd Y 16 1) (up2 (up2 B 7 0 13) 7 1 (f_X1_hoursUntilDry M (nI r))) 3 (f_X8_ofRink (upd Y 16 1) (up2 (up2 B 7 0 13) 7 1 (f_X1_hoursUntilDry M (nI r))) (nI r) 2)).2.2)
        rw [e2, by_2 (upd_eq _ _ _)]
        refine ⟨fun k hk6 => ?_, fun k h2 h3 => ?_, fun k h16 h17 => ?_, fun k h0 h7 => ?_, rs_2 _ _, ?_, Or.inr ⟨rfl, Or.inr (Or.inr ⟨rfl, 2, by decide, show upd (upd (upd X 6 0) 6 1) 6 2 6 = nI 2 from upd_eq _ _ _⟩)⟩⟩
        · show upd (upd (upd X 6 0) 6 1) 6 2 k = X k
          rw [upd_ne _ _ hk6, upd_ne _ _ hk6, upd_ne _ _ hk6]
        · show up2 (up2 (up2 (up2 A 2 0 13) 3 0 _) 2 1 3) 3 1 _ k = A k
          rw [up2_ne _ _ _ h3, up2_ne _ _ _ h2, up2_ne _ _ _ h3, up2_ne _ _ _ h2]
        · show upd (upd Y 16 1) 16 2 k = Y k
          rw [upd_ne _ _ h16, upd_ne _ _ h16]
        · show up2 _ 7 1 _ k = B k
          rw [up2_ne _ _ _ h7, up2_ne _ _ _ h7, up2_ne _ _ _ h7, up2_ne _ _ _ h7, up2_ne _ _ _ h7, up2_ne _ _ _ h7]
        · dsimp only
          simp only [up2_ne _ _ _ (show (0 : Nat) ≠ 7 by decide)]
          exact hG
    · rw [if_neg a, if_neg (show ¬ (1 : Int32) = 0 by decide), if_neg (fun q => a ((nn_le hRR.2.2.2.2.2.1).mp q))]
      exact op_refuse hG 4 _
  · have ein : f_X8_in Y B s 20 40 = 0 := by
      unfold f_X8_in
      rw [if_neg l1, if_pos (Int32.not_le.mp l2)]
    rw [if_neg l2, if_pos ein]; exact op_code hR hG (Or.inr rfl)
-- hours
theorem wet_in (hG : GR M f) {r : Nat} (hr : r < 4) (hc : ¬ M.1 3 ≤ nI r) : vp_in (f_X1_wetAfter M (M.2.1 r 2)) 21 := by
  obtain ⟨a, ha, ea⟩ := vp_in_of (hG.r (by omega) hc).2.2.2.1 (by decide)
  obtain ⟨b, hb, eb⟩ := vp_in_of hG.2.2.1.2.2.1 (by decide)
  obtain ⟨c, hc2, ec⟩ := vp_in_of hG.2.2.1.2.2.2.1 (by decide)
  unfold f_X1_wetAfter
  rw [ea, eb, ec, nI_add]
  by_cases g : c ≤ a + b
  · rw [pk_sub g]
    by_cases h1 : nI (a + b - c) < 20
    · rw [if_pos h1]
      have h2 := (nI_ltI (a := a + b - c) (b := 20) (by omega) (by decide)).mp h1
      by_cases h3 : 0 < nI (a + b - c)
      · rw [if_pos h3]; exact vp_in_nI (by omega) (by decide)
      · rw [if_neg h3]; exact vp_in_nI (n := 0) (by decide) (by decide)
    · rw [if_neg h1, if_pos (by decide)]; exact vp_in_nI (n := 20) (by decide) (by decide)
  · have hn := pk_sneg (a := a + b) (b := c) (by omega) (by omega)
    rw [if_pos (Int32.lt_trans hn (by decide)), if_neg (Int32.not_lt.mpr (Int32.le_of_lt hn))]
    exact vp_in_nI (n := 0) (by decide) (by decide)
theorem casts_in {r : Nat} {c w : Int32} (h : vp_in c 10) : vp_in (f_X5_castsAfter M r c w) 10 := by
  unfold f_X5_castsAfter
  simp only [bd_x]
  obtain ⟨j, hj, rfl⟩ := vp_in_of h (by decide)
  split
  · exact h
  · split
    · rw [nI_1]
      by_cases g : nI (j + 1) < 9
      · rw [if_pos g]
        have := (nI_ltI (a := j + 1) (b := 9) (by omega) (by decide)).mp g
        exact vp_in_nI (by omega) (by decide)
      · rw [if_neg g]; exact vp_in_nI (n := 9) (by decide) (by decide)
    · exact h
theorem pass_l : ∀ n k M B, n + k = 5 → GR M (B 0) → ∀ p i, GR (f_X1_passHour_l2 n k M) (f_X8_passes_l22 Y p i n k B 0) ∧ FAm B (f_X8_passes_l22 Y p i n k B) ∧ f_X8_passes_l22 Y p i n k B 7 = B 7 := by
  intro n
  induction n with
  | zero => intro k M B _ hG p i; exact ⟨hG, FAm.rf, rfl⟩
  | succ n ih =>
    intro k M B hk hG p i
    unfold f_X1_passHour_l2 f_X8_passes_l22
    simp only [bd_x]
    rw [hG.n3]
    by_cases c : M.1 3 ≤ nI k
    · rw [if_pos c, if_pos c]; exact ⟨hG, FAm.rf, rfl⟩
    · have hr := hG.l3 (by omega) c
      have hRR := hG.r (by omega) c
      rw [if_neg c, if_neg c]
      simp only [srr k 2 (p := 2) (show k < 2 ^ 31 by omega) rfl, srr k 3 (p := 3) (show k < 2 ^ 31 by omega) rfl, orr k 2 (p := 2) (show k < 2 ^ 31 by omega) rfl, orr k 3 (p := 3) (show k < 2 ^ 31 by omega) rfl, up2_eq, q_changed hG, hRR.1.2.2.1]
      have hwet := wet_in hG hr c
      obtain ⟨⟨y0, y1, y2, y3, y4, y5, y6, y7, y8, y9⟩, v0, v1, v2, v3, v4, v5, v6, v7, v8⟩ := hRR
      have h1 : GR (sr M k 2 (f_X1_wetAfter M (M.2.1 k 2))) (up2 B 0 (17 + 10 * k + 2) (f_X1_wetAfter M (M.2.1 k 2)) 0) := by
        rw [up2_eq]
        change B 0 (17 + 10 * k) = _ at y0
        refine hG.rink1 hr c rfl rfl (fun q hq => sr_o hq) (fun k _ hk2 => upd_ne _ _ (by omega)) ⟨⟨?_, ?_, ?_, ?_, ?_, ?_, ?_, ?_, ?_, ?_⟩, ?_, ?_, ?_, ?_, ?_, ?_, ?_, ?_, ?_⟩ ?_ ?_ ?_ ?_ ?_ <;> rw [sr_r] <;> simp [upd, *]
      have hR1 := h1.r (show k ≤ 4 by omega) c
      have e3 : upd (B 0) (17 + 10 * k + 2) (f_X1_wetAfter M (M.2.1 k 2)) (17 + 10 * k + 3) = M.2.1 k 3 := by rw [upd_ne _ _ (by omega), y3]
      have e3' : (sr M k 2 (f_X1_wetAfter M (M.2.1 k 2))).2.1 k 3 = M.2.1 k 3 := by rw [sr_r, upd_ne _ _ (by decide)]
      have e2' : (sr M k 2 (f_X1_wetAfter M (M.2.1 k 2))).2.1 k 2 = f_X1_wetAfter M (M.2.1 k 2) := by rw [sr_r, upd_eq]
      rw [e3, e3', e2', upd_eq, q_castsAfter hr hR1]
      have hci : vp_in (f_X5_castsAfter (sr M k 2 (f_X1_wetAfter M (M.2.1 k 2))) k (M.2.1 k 3) (f_X1_wetAfter M (M.2.1 k 2))) 10 := casts_in v3
      generalize f_X5_castsAfter (sr M k 2 (f_X1_wetAfter M (M.2.1 k 2))) k (M.2.1 k 3) (f_X1_wetAfter M (M.2.1 k 2)) = ca at hci ⊢
      have h2 : GR (sr (sr M k 2 (f_X1_wetAfter M (M.2.1 k 2))) k 3 ca) (up2 (up2 B 0 (17 + 10 * k + 2) (f_X1_wetAfter M (M.2.1 k 2))) 0 (17 + 10 * k + 3) ca 0) := by
        rw [up2_eq]
        obtain ⟨⟨y0, y1, y2, y3, y4, y5, y6, y7, y8, y9⟩, v0, v1, v2, v3, v4, v5, v6, v7, v8⟩ := hR1
        have c1 : ¬ (sr M k 2 (f_X1_wetAfter M (M.2.1 k 2))).1 3 ≤ nI k := c
        generalize sr M k 2 (f_X1_wetAfter M (M.2.1 k 2)) = M1 at *
        generalize up2 B 0 (17 + 10 * k + 2) (f_X1_wetAfter M (M.2.1 k 2)) 0 = B1 at *
        change B1 (17 + 10 * k) = _ at y0
        refine h1.rink1 hr c1 rfl rfl (fun q hq => sr_o hq) (fun k _ hk2 => upd_ne _ _ (by omega)) ⟨⟨?_, ?_, ?_, ?_, ?_, ?_, ?_, ?_, ?_, ?_⟩, ?_, ?_, ?_, ?_, ?_, ?_, ?_, ?_, ?_⟩ ?_ ?_ ?_ ?_ ?_ <;> rw [sr_r] <;> simp [upd, *]
      obtain ⟨i1, i2, i3⟩ := ih (k + 1) _ _ (by omega) h2 p i
      refine ⟨i1, fun a b d => (i2 a b d).trans ?_, i3.trans ?_⟩
      · rw [up2_ne _ _ _ b, up2_ne _ _ _ b]
      · rw [up2_ne _ _ _ (by decide), up2_ne _ _ _ (by decide)]
end OP3
