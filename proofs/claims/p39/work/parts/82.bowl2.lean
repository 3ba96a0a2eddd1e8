section OP6
variable {M N : gM} {f g : Nat → Int32} {X Y : Nat → Int32} {A B : Nat → Nat → Int32}
theorem op_refuse3 (hG : GR M (B 0)) (p q : Int32) : OpR X A Y B (-3, M, (f_X7_refuse M X A p q).2.1, (f_X7_refuse M X A p q).2.2) ((f_X8_refuses Y B p q).1, (f_X8_refuses Y B p q).2.1, (f_X8_refuses Y B p q).2.2) := by
  have := op_refuse (X := X) (A := A) (Y := Y) hG p q
  rw [refuse_eq] at this ⊢
  exact this
theorem bowlRef (M : gM) (X : Nat → Int32) (A : Nat → Nat → Int32) (p1 p2 : Int32) : f_X7_isBowlRefused M X A p1 p2 =
    if M.2.1 p1.toNatClampNeg 4 = 0 then (1, (f_X7_refuse M X A 5 p1).2) else
    if M.2.2.1 p2.toNatClampNeg 2 = 0 then
      if (M.2.1 p1.toNatClampNeg (8 + (M.2.2.1 p2.toNatClampNeg 0).toNatClampNeg)) < 4 then
        if (M.2.1 p1.toNatClampNeg 6) = (M.2.2.1 p2.toNatClampNeg 0) then (0, (X, A)) else (1, (f_X7_refuse M X A 6 (M.2.1 p1.toNatClampNeg 6)).2)
      else (1, (f_X7_refuse M X A 8 4).2)
    else (1, (f_X7_refuse M X A 7 (M.2.2.1 p2.toNatClampNeg 3)).2) := by
  unfold f_X7_isBowlRefused f_X5_isPlayed
  simp only [bd_x]
  have e3 : ∀ p q, (f_X7_refuse M X A p q).1 = -3 := fun p q => by rw [refuse_eq]
  simp only [if_pos (e3 _ _)]
  by_cases a : M.2.1 p1.toNatClampNeg 4 = 0
  · simp only [if_pos a, if_pos]
  · simp only [if_neg a]
    rw [if_neg (show ¬ (1 : Int32) = 0 by decide)]
theorem eq_other {t c : Int32} (ht : vp_in t 2) (hc : vp_in c 2) (h : t ≠ c) : t = 1 - c := by
  obtain ⟨i, hi, rfl⟩ := vp_in_of ht (by decide)
  obtain ⟨j, hj, rfl⟩ := vp_in_of hc (by decide)
  rcases (show i = 0 ∨ i = 1 by omega) with rfl | rfl <;> rcases (show j = 0 ∨ j = 1 by omega) with rfl | rfl
  · exact absurd rfl h
  · decide
  · decide
  · exact absurd rfl h
theorem R_bowl (hR : RS X A Y B) (hG : GR M (B 0)) (p1 p2 p3 p4 p5 : Int32) : OpR X A Y B (f_X7_bowlWood M X A p1 p2 p3 p4 p5) (f_X8_bowls Y B p1 p2 p3 p4 p5) := by
  unfold f_X7_bowlWood f_X8_bowls f_X8_does f_X7_otherClub
  simp only [bd_x]
  rw [q_isRink hG, q_isWood hG]
  by_cases z : f_X1_isRink M p1 = 0
  · rw [if_pos z, if_pos z]; exact op_code hR hG (Or.inl rfl)
  rw [if_neg z, if_neg z]
  obtain ⟨r, rfl, hr, hc⟩ := rink_of hG z
  have hRR := hG.r (by omega) hc
  have hk : (nI r).toNatClampNeg = r := nI_clamp (by omega)
  by_cases y : f_X1_isWood M p2 = 0
  · rw [if_pos y, if_pos y]; exact op_code hR hG (Or.inl rfl)
  rw [if_neg y, if_neg y]
  obtain ⟨w, rfl, hw, hwc⟩ := wood_of hG y
  have hWW := hG.w (by omega) hwc
  have hkw : (nI w).toNatClampNeg = w := nI_clamp (by omega)
  rw [hk, hkw, q_isBad hr hRR, q_isStrength (M := M) (X1 := X) (A1 := A), q_landing (X := Y) hG hr hc hw hwc]
  by_cases a : f_X5_holds M r p3 = 0
  · rw [if_pos a, if_pos a, if_neg (show ¬ (1 : Int32) = 0 by decide)]; exact op_code hR hG (Or.inr rfl)
  rw [if_neg a, if_neg a, if_pos rfl]
  by_cases b : f_X7_isStrength M X A p4 = 0
  · rw [if_pos b, if_pos b]; exact op_code hR hG (Or.inr rfl)
  rw [if_neg b, if_neg b, orr r 4 (p := 4) (by omega) rfl, hRR.1.2.2.2.2.1, ow w 2 (p := 2) (by omega) rfl, hWW.1.2.2.1, ow w 0 (p := 0) (by omega) rfl, hWW.1.1, bowlRef, hk, hkw]
  by_cases c1 : M.2.1 r 4 = 0
  · simp only [if_pos c1]
    exact op_refuse3 hG 5 (nI r)
  simp only [if_neg c1]
  obtain ⟨c, hcc, ec⟩ := vp_in_of hWW.2.1.1 (by decide)
  have pc : (7 + nI c).toNatClampNeg = 7 + c := by
    rcases (show c = 0 ∨ c = 1 by omega) with rfl | rfl <;> rfl
  by_cases c2 : M.2.2.1 w 2 = 0
  rotate_left
  · have hp : ¬ M.2.2.1 w 2 ≤ 0 := fun q => c2 ((nn_le hWW.2.1.2.2.1).mp q)
    simp only [if_neg c2, if_neg hp]
    rw [ow w 3 (p := 3) (by omega) rfl, hWW.1.2.2.2.1 c2]
    exact op_refuse3 hG 7 _
  have hp : M.2.2.1 w 2 ≤ 0 := by rw [c2]; decide
  simp only [if_pos c2, if_pos hp]
  rw [ec, nI_clamp (show c < 2 ^ 31 by omega)]
  simp only [orr r (7 + c) (show r < 2 ^ 31 by omega) pc]
  have rb : B 0 (17 + 10 * r + (7 + c)) = M.2.1 r (8 + c) := by
    rcases (show c = 0 ∨ c = 1 by omega) with rfl | rfl
    · exact hRR.1.2.2.2.2.2.2.2.1
    · exact hRR.1.2.2.2.2.2.2.2.2.1
  have vb : vp_in (M.2.1 r (8 + c)) 5 := by
    rcases (show c = 0 ∨ c = 1 by omega) with rfl | rfl
    · exact hRR.2.2.2.2.2.2.2.2.1
    · exact hRR.2.2.2.2.2.2.2.2.2
  obtain ⟨n, hn, en⟩ := vp_in_of vb (by decide)
  rw [rb]
  by_cases c3 : M.2.1 r (8 + c) < 4
  rotate_left
  · have h4 : M.2.1 r (8 + c) = 4 := by
      rw [en] at c3 ⊢
      rcases (show n = 0 ∨ n = 1 ∨ n = 2 ∨ n = 3 ∨ n = 4 by omega) with rfl | rfl | rfl | rfl | rfl
      · exact absurd (by decide) c3
      · exact absurd (by decide) c3
      · exact absurd (by decide) c3
      · exact absurd (by decide) c3
      · rfl
    simp only [if_neg c3, if_pos h4]
    exact op_refuse3 hG 8 4
  have hn4 : n < 4 := by
    rw [en] at c3
    exact (nI_ltI (a := n) (b := 4) (by omega) (by decide)).mp c3
  have h4 : ¬ M.2.1 r (8 + c) = 4 := fun q => by
    rw [q] at c3; exact absurd c3 (by decide)
  simp only [if_pos c3, if_neg h4]
  rw [orr r 5 (p := 5) (by omega) rfl, hRR.1.2.2.2.2.2.1]
  by_cases c4 : M.2.1 r 6 = nI c
  rotate_left
  · simp only [if_neg c4]
    rw [← eq_other hRR.2.2.2.2.2.2.2.1 (vp_in_nI (by omega) (by decide)) c4]
    exact op_refuse3 hG 6 _
  simp only [if_pos c4]
  rw [if_pos trivial]
  have e6 : (sr M r (8 + c) (M.2.1 r (8 + c) + 1)).2.1 r 6 = nI c := by rw [sr_r, upd_ne _ _ (by omega), c4]
  rw [e6, en, nI_1]
  have tv : vp_in (1 - nI c) 2 := by
    rcases (show c = 0 ∨ c = 1 by omega) with rfl | rfl
    · exact vp_in_nI (n := 1) (by decide) (by decide)
    · exact vp_in_nI (n := 0) (by decide) (by decide)
  simp only [srr r 5 (p := 5) (show r < 2 ^ 31 by omega) rfl, srr r (7 + c) (show r < 2 ^ 31 by omega) pc, srw w 2 (p := 2) (show w < 2 ^ 31 by omega) rfl, srw w 3 (p := 3) (show w < 2 ^ 31 by omega) rfl, srw w 4 (p := 4) (show w < 2 ^ 31 by omega) rfl, srw w 5 (p := 5) (show w < 2 ^ 31 by omega) rfl, srw w 6 (p := 6) (show w < 2 ^ 31 by omega) rfl, ow w 6 (p := 6) (show w < 2 ^ 31 by omega) rfl, orr r (7 + c) (show r < 2 ^ 31 by omega) pc]
  have hlen := q_len_in (X := Y) (w := nI w) (e := f_X8_columnOf Y B (nI w) p3 p4 p5) (s := p4) hG hr hc
  generalize f_X8_columnOf Y B (nI w) p3 p4 p5 = e at hlen ⊢
  generalize f_X8_lengthOf Y B (nI r) (nI w) e p4 = L at hlen ⊢
  have ne5 : ∀ x, 57 + 7 * w + x ≠ 5 := fun x => by omega
  by_cases l : L < 0
  · rw [lnd_n l, if_pos rfl, if_neg (Int32.not_le.mpr l)]
    refine op_done hR ?_ ?_ ?_ (by decide)
    · simp only [up2_eq]
      refine hG.bowl (t := 1 - nI c) (st := 2) (c := c) (b := n) hr hc hw hwc c1 c2 hcc ec hn4 en tv rfl rfl (fun q hq => (sr_o hq).trans (sr_o hq)) (sr_r.trans (by rw [sr_r])) (fun q hq => (up2_ne _ _ _ hq).trans ((up2_ne _ _ _ hq).trans (up2_ne _ _ _ hq))) ?_ ?_ ?_ ?_ ?_ (Or.inl ⟨rfl, ?_⟩) (fun k h9 h5 hk1 hk2 hk3 => ?_) ?_ ?_ ?_ ?_ ?_ ?_
      · simp [sw, sr, up2, upd]
      · simp [sw, sr, up2, upd]
      · simp [sw, sr, up2, upd]
      · simp [sw, sr, up2, upd]
      · simp [sw, sr, up2, upd]
      · simp [sw, sr, up2, upd]
      · rw [upd_ne _ _ h5, upd_ne _ _ hk1, upd_ne _ _ (by omega), upd_ne _ _ (by omega), upd_ne _ _ (by omega), upd_ne _ _ (by omega), upd_ne _ _ (by omega), upd_ne _ _ (by omega)]
      · rw [upd_eq, upd_ne _ _ (by omega), upd_ne _ _ (by omega), upd_ne _ _ (by omega), upd_ne _ _ (by omega), upd_ne _ _ (by omega), upd_ne _ _ (by omega), upd_ne _ _ (by omega)]
      · rw [upd_ne _ _ (by omega), upd_eq]
      · rw [upd_ne _ _ (by omega), upd_ne _ _ (by omega), show 17 + 10 * r + 7 + c = 17 + 10 * r + (7 + c) by omega, upd_eq, upd_ne _ _ (by omega), upd_ne _ _ (by omega), upd_ne _ _ (by omega), upd_ne _ _ (by omega), upd_ne _ _ (by omega), rb, en, nI_1]
      · rw [upd_ne _ _ (by omega), upd_ne _ _ (by omega), upd_ne _ _ (by omega), upd_ne _ _ (by omega), upd_ne _ _ (by omega), upd_ne _ _ (by omega), upd_eq]
      · rw [upd_ne _ _ (by omega), upd_ne _ _ (by omega), upd_ne _ _ (by omega), upd_ne _ _ (by omega), upd_ne _ _ (by omega), upd_ne _ _ (by omega), upd_ne _ _ (by omega), upd_eq]
      · rw [upd_ne _ _ (by omega), upd_ne _ _ (by omega), upd_ne _ _ (by omega), upd_eq, upd_ne _ _ (by omega), upd_ne _ _ (by omega), upd_ne _ _ (by omega), upd_ne _ _ (by omega)]
    · exact ((((((((FAm.rf.up).up).up).up).up).up).up).up)
    · simp only [up2_ne _ _ _ (show (7 : Nat) ≠ 0 by decide)]
  · obtain ⟨⟨j, hj, rfl⟩, ⟨i, hi, rfl⟩⟩ := hlen l
    obtain ⟨d1, d2, d3, d4⟩ := land_dec hi hj
    rw [lnd_p l, if_neg d3, d2, d1, if_pos d4]
    have e5 : (if 0 < nI j then nI j else 0) = nI j := by
      by_cases q : 0 < nI j
      · rw [if_pos q]
      · rw [if_neg q]
        exact ((nn_le (vp_in_nI (N := 41) (by omega) (by decide))).mp (Int32.not_lt.mp q)).symm
    rw [e5]
    have hst : ∀ (Q : gM) (v : Int32), (sw Q w 6 v).2.2.1 w 6 = v := fun Q v => by simp [sw, up2, upd]
    rw [hst]
    generalize hQ : sw (sw (sw (sw (sw (sr (sr M r (8 + c) (nI (n + 1))) r 6 (1 - nI c)) w 7 ((sr (sr M r (8 + c) (nI (n + 1))) r 6 (1 - nI c)).2.2.1 w 7 + 1)) w 3 (nI r)) w 2 1) w 4 (nI i)) w 5 (nI j) = Q
    have q1 : Q.1 = M.1 := by rw [← hQ]; rfl
    have q3 : Q.2.2.2 = M.2.2.2 := by rw [← hQ]; rfl
    have qro : ∀ q, q ≠ r → Q.2.1 q = M.2.1 q := fun q hq => by rw [← hQ]; exact (sr_o hq).trans (sr_o hq)
    have qrr : Q.2.1 r = upd (upd (M.2.1 r) (8 + c) (nI (n + 1))) 6 (1 - nI c) := by rw [← hQ]; exact sr_r.trans (by rw [sr_r])
    have qwo : ∀ q, q ≠ w → Q.2.2.1 q = M.2.2.1 q := fun q hq => by rw [← hQ]; exact (up2_ne _ _ _ hq).trans ((up2_ne _ _ _ hq).trans ((up2_ne _ _ _ hq).trans ((up2_ne _ _ _ hq).trans (up2_ne _ _ _ hq))))
    have qw : Q.2.2.1 w = upd (upd (upd (upd (upd (M.2.2.1 w) 7 (M.2.2.1 w 7 + 1)) 3 (nI r)) 2 1) 4 (nI i)) 5 (nI j) := by
      rw [← hQ]
      simp [sw, sr, up2]
    clear hQ
    have q4 : Q.2.2.1 w 4 = nI i := by rw [qw]; simp [upd]
    have q5 : Q.2.2.1 w 5 = nI j := by rw [qw]; simp [upd]
    have qd : f_X5_distance Q r (nI i) (nI j) = f_X5_distance M r (nI i) (nI j) := dist_congr (by rw [qrr, upd_ne _ _ (by decide), upd_ne _ _ (by omega)]) (by rw [qrr, upd_ne _ _ (by decide), upd_ne _ _ (by omega)]) (by rw [qrr, upd_ne _ _ (by decide), upd_ne _ _ (by omega)]) _ _
    rw [q4, q5, qd]
    generalize hD : f_X5_distance M r (nI i) (nI j) = D
    have s1 : (sw Q w 6 D).2.2.1 w = upd (Q.2.2.1 w) 6 D := up2_eq _ _ _ _
    generalize hC : up2 (up2 (up2 (up2 (up2 (up2 (up2 B 0 (57 + 7 * w + 3) (nI r)) 0 (57 + 7 * w + 2) 1) 0 (57 + 7 * w + 4) (nI i)) 0 (57 + 7 * w + 5) (nI j)) 0 (57 + 7 * w + 6) (up2 (up2 (up2 (up2 B 0 (57 + 7 * w + 3) (nI r)) 0 (57 + 7 * w + 2) 1) 0 (57 + 7 * w + 4) (nI i)) 0 (57 + 7 * w + 5) (nI j) 0 (57 + 7 * w + 6) + 1)) 0 (17 + 10 * r + (7 + c)) (up2 (up2 (up2 (up2 (up2 B 0 (57 + 7 * w + 3) (nI r)) 0 (57 + 7 * w + 2) 1) 0 (57 + 7 * w + 4) (nI i)) 0 (57 + 7 * w + 5) (nI j)) 0 (57 + 7 * w + 6) (up2 (up2 (up2 (up2 B 0 (57 + 7 * w + 3) (nI r)) 0 (57 + 7 * w + 2) 1) 0 (57 + 7 * w + 4) (nI i)) 0 (57 + 7 * w + 5) (nI j) 0 (57 + 7 * w + 6) + 1) 0 (17 + 10 * r + (7 + c)) + 1)) 0 (17 + 10 * r + 5) (1 - nI c) = C
    have cF : FAm B C := by rw [← hC]; exact ((((((FAm.rf.up).up).up).up).up).up).up
    have c7 : C 7 = B 7 := by rw [← hC]; simp only [up2_ne _ _ _ (show (7 : Nat) ≠ 0 by decide)]
    have cg : ∀ k, k ≠ 17 + 10 * r + 5 → k ≠ 17 + 10 * r + 7 + c → ¬ (57 + 7 * w + 2 ≤ k ∧ k ≤ 57 + 7 * w + 6) → C 0 k = B 0 k := fun k hk1 hk2 hk3 => by
      rw [← hC]
      simp only [up2_eq]
      rw [upd_ne _ _ hk1, upd_ne _ _ (by omega), upd_ne _ _ (by omega), upd_ne _ _ (by omega), upd_ne _ _ (by omega), upd_ne _ _ (by omega), upd_ne _ _ (by omega)]
    have cc : C 0 (17 + 10 * r + 5) = 1 - nI c ∧ C 0 (17 + 10 * r + 7 + c) = nI (n + 1) ∧ C 0 (57 + 7 * w + 2) = 1 ∧ C 0 (57 + 7 * w + 3) = nI r ∧ C 0 (57 + 7 * w + 4) = nI i ∧ C 0 (57 + 7 * w + 5) = nI j ∧ C 0 (57 + 7 * w + 6) = B 0 (57 + 7 * w + 6) + 1 := by
      rw [← hC]
      simp only [up2_eq]
      refine ⟨upd_eq _ _ _, ?_, ?_, ?_, ?_, ?_, ?_⟩
      · rw [upd_ne _ _ (by omega), show 17 + 10 * r + 7 + c = 17 + 10 * r + (7 + c) by omega, upd_eq, upd_ne _ _ (by omega), upd_ne _ _ (by omega), upd_ne _ _ (by omega), upd_ne _ _ (by omega), upd_ne _ _ (by omega), rb, en, nI_1]
      · rw [upd_ne _ _ (by omega), upd_ne _ _ (by omega), upd_ne _ _ (by omega), upd_ne _ _ (by omega), upd_ne _ _ (by omega), upd_eq]
      · rw [upd_ne _ _ (by omega), upd_ne _ _ (by omega), upd_ne _ _ (by omega), upd_ne _ _ (by omega), upd_ne _ _ (by omega), upd_ne _ _ (by omega), upd_eq]
      · rw [upd_ne _ _ (by omega), upd_ne _ _ (by omega), upd_ne _ _ (by omega), upd_ne _ _ (by omega), upd_eq]
      · rw [upd_ne _ _ (by omega), upd_ne _ _ (by omega), upd_ne _ _ (by omega), upd_eq]
      · rw [upd_ne _ _ (by omega), upd_ne _ _ (by omega), upd_eq, upd_ne _ _ (by omega), upd_ne _ _ (by omega), upd_ne _ _ (by omega), upd_ne _ _ (by omega)]
    clear hC
    have hG1 : GR (sw Q w 6 D) (up2 C 0 5 (C 0 5 + 1) 0) := by
      rw [up2_eq]
      refine hG.bowl (t := 1 - nI c) (st := 1) (c := c) (b := n) hr hc hw hwc c1 c2 hcc ec hn4 en tv q1 q3 qro qrr (fun q hq => (up2_ne _ _ _ hq).trans (qwo q hq)) ?_ ?_ ?_ ?_ ?_ (Or.inr ⟨rfl, i, j, hi, hj, ?_, ?_, ?_, ?_, ?_⟩) (fun k h9 h5 hk1 hk2 hk3 => (upd_ne _ _ h5).trans (cg k hk1 hk2 hk3)) ?_ ?_ ?_ ?_ ?_ ?_
      · rw [s1, qw]; simp [upd]
      · rw [s1, qw]; simp [upd]
      · rw [s1, qw]; simp [upd]
      · rw [s1, qw]; simp [upd]
      · rw [s1, qw]; simp [upd]
      · rw [s1, qw]; simp [upd]
      · rw [s1, qw]; simp [upd]
      · rw [s1, upd_eq, hD]
      · rw [upd_ne _ _ (by omega)]; exact cc.2.2.2.2.1
      · rw [upd_ne _ _ (by omega)]; exact cc.2.2.2.2.2.1
      · rw [upd_eq, cg 5 (by omega) (by omega) (by omega)]
      · rw [upd_ne _ _ (by omega)]; exact cc.1
      · rw [upd_ne _ _ (by omega)]; exact cc.2.1
      · rw [upd_ne _ _ (by omega)]; exact cc.2.2.1
      · rw [upd_ne _ _ (by omega)]; exact cc.2.2.2.1
      · rw [upd_ne _ _ (by omega)]; exact cc.2.2.2.2.2.2
    have w2 : (sw Q w 6 D).2.2.1 w 2 = 1 := by rw [s1, qw]; simp [upd]
    have hwc1 : ¬ (sw Q w 6 D).1 4 ≤ nI w := by
      show ¬ Q.1 4 ≤ nI w
      rw [q1]; exact hwc
    rw [q_distance hG1 hw hwc1 w2]
    have wD : (sw Q w 6 D).2.2.1 w 6 = D := hst Q D
    have cD : vp_in D 10000 := by rw [← wD]; exact (hG1.w (by omega) hwc1).2.1.2.2.2
    rw [wD]
    exact op_done hR hG1 cF.up ((up2_ne _ _ _ (by decide)).trans c7) (ncode cD)
end OP6
