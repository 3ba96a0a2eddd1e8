/-! ===== pure: brew, a rink is laid, a wood is added ===== -/
section AD
variable {G : Nat → gM} {M N : gM} {f g : Nat → Int32} {X Y X1 Y1 : Nat → Int32} {A B A1 B1 : Nat → Nat → Int32} {a : Int32}
theorem settle_c {p : Int32} (h : p = -1 ∨ p = -2 ∨ p = -3) : f_X7_settle N X A p = (p, X) := by
  unfold f_X7_settle
  simp only [bd_x]
  rw [code_1 h, if_neg (show ¬ (1 : Int32) = 0 by decide)]
theorem settle_d {p : Int32} (h : p ≠ -1 ∧ p ≠ -2 ∧ p ≠ -3) : f_X7_settle N X A p = (p, f_X3_keep N X A) := by
  unfold f_X7_settle
  simp only [bd_x]
  rw [code_0 h, if_pos rfl]
/-- a code without a reason, of both -/
theorem chg_c {p : Int32} (h : RLL G M X A Y B) (hp : p = -1 ∨ p = -2 ∨ p = -3) : CHG G M X A Y B ((f_X7_settle M X A p).1, f_X3_note G M X A, M, (f_X7_settle M X A p).2, A) (p, Y, f_X8_tries Y B) := by
  rw [settle_c hp]
  obtain ⟨c1, c2⟩ := chg_code (N := M) (X1 := X) (A1 := A) (Y1 := Y) (B1 := f_X8_tries Y B) h FC.rf FA.rf FXm.rf FAm.rf h.try.1 h.try.2
  unfold CHG
  dsimp only
  exact ⟨rfl, c1, c2⟩
theorem chg_r (h : RLL G M X A Y B) (p q : Int32) : CHG G M X A Y B ((f_X7_settle M (f_X7_refuse M X A p q).2.1 (f_X7_refuse M X A p q).2.2 (f_X7_refuse M X A p q).1).1, f_X3_note G M X A, M, (f_X7_settle M (f_X7_refuse M X A p q).2.1 (f_X7_refuse M X A p q).2.2 (f_X7_refuse M X A p q).1).2, (f_X7_refuse M X A p q).2.2)
    ((f_X8_refuses Y (f_X8_tries Y B) p q).1, (f_X8_refuses Y (f_X8_tries Y B) p q).2.1, (f_X8_refuses Y (f_X8_tries Y B) p q).2.2) := by
  obtain ⟨hX, hA, hY, hB, hS, hG, -⟩ := op_refuse (X := X) (A := A) (Y := Y) h.try.2 p q
  have e : (f_X7_refuse M X A p q).1 = -3 := by rw [refuse_eq]
  rw [e, settle_c (Or.inr (Or.inr rfl))]
  obtain ⟨c1, c2⟩ := chg_code h hX hA hY hB hS hG
  unfold CHG
  exact ⟨rfl, c1, c2⟩
/-- done, of both -/
theorem chg_d {p : Int32} (h : RLL G M X A Y B) (hp : p ≠ -1 ∧ p ≠ -2 ∧ p ≠ -3) (hB : FAm (f_X8_tries Y B) B1) (h7 : B1 7 = f_X8_tries Y B 7) (hG : GR N (B1 0)) : CHG G M X A Y B ((f_X7_settle N X A p).1, f_X3_note G M X A, N, (f_X7_settle N X A p).2, A) ((f_X8_keeps Y B1 p).1, (f_X8_keeps Y B1 p).2.1, (f_X8_keeps Y B1 p).2.2) := by
  rw [settle_d hp]
  obtain ⟨c1, c2, c3⟩ := chg_done (p := p) h FC.rf FA.rf FXm.rf hB (h.try.1.keep rfl h7) hG
  exact ⟨c1.symm, c2, c3⟩
theorem C_brew (h : RLL G M X A Y B) (p : Int32) : CHG G M X A Y B (f_X7_brew G M X A p) (f_X8_brew Y B p) := by
  unfold f_X7_brew f_X8_brew f_X7_brewCups f_X8_in
  simp only [bd_x]
  by_cases a : p < 1
  · simp only [if_pos a]
    rw [if_pos trivial]; exact chg_c h (Or.inr (Or.inl rfl))
  simp only [if_neg a]
  by_cases b : p ≤ 20
  · simp only [if_pos b, if_neg (Int32.not_lt.mpr b)]
    rw [if_neg (show ¬ (1 : Int32) = 0 by decide)]
    have hG := h.try.2
    rw [hG.1.2.2.2.2.2.2.1]
    have s8 : ∀ v, (sg M 8 v).1 8 = v := fun v => sg_eq
    have u8 : ∀ v, up2 (f_X8_tries Y B) 0 6 v 0 6 = v := fun v => by rw [up2_eq, upd_eq]
    have hv : vp_in (if M.1 8 + p < 40 then M.1 8 + p else 40) 41 := by
      obtain ⟨i, hi, ei⟩ := vp_in_of hG.2.2.1.2.2.2.2.1 (by decide)
      obtain ⟨j, hj, rfl⟩ := nI_of (x := p) (fun q => a (Int32.lt_trans q (by decide)))
      have j20 := (nI_leI (a := j) (b := 20) hj (by decide)).mp b
      rw [ei, nI_add]
      by_cases c : nI (i + j) < 40
      · rw [if_pos c]
        have := (nI_ltI (a := i + j) (b := 40) (by omega) (by decide)).mp c
        exact vp_in_nI (by omega) (by decide)
      · rw [if_neg c]; exact vp_in_nI (n := 40) (by decide) (by decide)
    generalize (if M.1 8 + p < 40 then M.1 8 + p else 40) = v at hv ⊢
    rw [s8, u8]
    refine chg_d h (ncode hv) FAm.rf.up (up2_ne _ _ _ (by decide)) ?_
    rw [up2_eq]
    refine hG.scal rfl rfl rfl (fun k hk => upd_ne _ _ (by omega)) ⟨?_, ?_, ?_, ?_, ?_, ?_, ?_, ?_, ?_⟩ ⟨?_, ?_, ?_⟩
    · simp [upd, sg]; exact hG.1.1
    · simp [upd, sg]; exact hG.1.2.1
    · simp [upd, sg]; exact hG.1.2.2.1
    · simp [upd]
    · simp [upd]
    · simp [upd]
    · simp [upd, sg]
    · simp [upd, sg]; exact hG.1.2.2.2.2.2.2.2.1
    · simp [upd, sg]; exact hG.1.2.2.2.2.2.2.2.2
    · simp [upd, sg]; exact hG.2.2.1.2.2.1
    · simp [upd, sg]; exact hG.2.2.1.2.2.2.1
    · simp [upd, sg]; exact hv
  · simp only [if_neg b, if_pos (Int32.not_le.mp b)]
    rw [if_pos trivial]; exact chg_c h (Or.inr (Or.inl rfl))
/-- a rink more -/
theorem GR.lay {m : Nat} {p1 p2 : Int32} (h : GR M f) (hm : m < 4) (em : M.1 3 = nI m) (v1 : vp_in p1 30) (v2 : vp_in p2 30) (g3 : g 3 = nI (m + 1)) (ga : g (17 + 10 * m + 0) = p1) (gb : g (17 + 10 * m + 1) = p2) (gz : ∀ j, 2 ≤ j → j < 10 → g (17 + 10 * m + j) = 0) (go : ∀ k, k < 169 → k ≠ 3 → ¬ (17 + 10 * m ≤ k ∧ k < 17 + 10 * m + 10) → g k = f k) : GR (sg (f_X5_lay M m p1 p2) 3 (nI (m + 1))) g := by
  obtain ⟨⟨s0, s1, s2, s3, s4, s5, s6, s7, s8⟩, hc, ⟨v3, v4, v6, v7, v8, vc⟩, hr, hw, hn⟩ := h
  have q1 : (sg (f_X5_lay M m p1 p2) 3 (nI (m + 1))).1 = upd M.1 3 (nI (m + 1)) := rfl
  have q2 : (sg (f_X5_lay M m p1 p2) 3 (nI (m + 1))).2.2 = M.2.2 := rfl
  have qo : ∀ r, r ≠ m → (sg (f_X5_lay M m p1 p2) 3 (nI (m + 1))).2.1 r = M.2.1 r := fun r hne => by
    simp [sg, f_X5_lay, sr, up2, hne]
  have qm : ∀ j, j < 10 → (sg (f_X5_lay M m p1 p2) 3 (nI (m + 1))).2.1 m j = if j = 0 then p1 else if j = 1 then p2 else 0 := fun j hj => by
    rcases (show j = 0 ∨ j = 1 ∨ j = 2 ∨ j = 3 ∨ j = 4 ∨ j = 5 ∨ j = 6 ∨ j = 7 ∨ j = 8 ∨ j = 9 by omega) with rfl | rfl | rfl | rfl | rfl | rfl | rfl | rfl | rfl | rfl <;> simp [sg, f_X5_lay, sr, up2, upd]
  generalize sg (f_X5_lay M m p1 p2) 3 (nI (m + 1)) = Q at q1 q2 qo qm ⊢
  obtain ⟨g1, r1, w1⟩ := Q
  change g1 = _ at q1
  change w1 = _ at q2
  subst q1
  subst q2
  have e3 : upd M.1 3 (nI (m + 1)) 3 = nI (m + 1) := upd_eq _ _ _
  have eo : ∀ k, k ≠ 3 → upd M.1 3 (nI (m + 1)) k = M.1 k := fun k hk => upd_ne _ _ hk
  have lt : ∀ r, r < 4 → ((¬ upd M.1 3 (nI (m + 1)) 3 ≤ nI r) ↔ (r = m ∨ ¬ M.1 3 ≤ nI r)) := fun r h4 => by
    rw [e3, em]
    have l1 : nI (m + 1) ≤ nI r ↔ m + 1 ≤ r := nI_leI (by omega) (by omega)
    have l2 : nI m ≤ nI r ↔ m ≤ r := nI_leI (by omega) (by omega)
    rw [l1, l2]; omega
  have zz : ∀ N, 0 < N → N ≤ 100 → vp_in (0 : Int32) N := fun N a b => vp_in_nI (n := 0) a (by omega)
  refine ⟨⟨?_, ?_, ?_, ?_, ?_, ?_, ?_, ?_, ?_⟩, fun c hc1 i hi => ?_, ⟨?_, ?_, ?_, ?_, ?_, vc⟩, fun r h4 hrc => ?_, fun w h16 hwc => ?_, fun r h4 hrc c hc2 => ?_⟩
  · show _ = upd M.1 3 (nI (m + 1)) 5
    rw [go 0 (by decide) (by decide) (by omega), eo 5 (by decide)]; exact s0
  · show _ = upd M.1 3 (nI (m + 1)) 6
    rw [go 1 (by decide) (by decide) (by omega), eo 6 (by decide)]; exact s1
  · show _ = upd M.1 3 (nI (m + 1)) 7
    rw [go 2 (by decide) (by decide) (by omega), eo 7 (by decide)]; exact s2
  · show _ = upd M.1 3 (nI (m + 1)) 3
    rw [g3, e3]
  · show _ = upd M.1 3 (nI (m + 1)) 4
    rw [go 4 (by decide) (by decide) (by omega), eo 4 (by decide)]; exact s4
  · rw [go 5 (by decide) (by decide) (by omega), s5]
    exact (bowled_congr (M := (upd M.1 3 (nI (m + 1)), r1, M.2.2)) (N := M) (eo 4 (by decide)) v4 (fun _ _ _ => rfl) 17 0 0 rfl).symm
  · show _ = upd M.1 3 (nI (m + 1)) 8
    rw [go 6 (by decide) (by decide) (by omega), eo 8 (by decide)]; exact s6
  · show _ = upd M.1 3 (nI (m + 1)) 9
    rw [go 7 (by decide) (by decide) (by omega), eo 9 (by decide)]; exact s7
  · show _ = upd M.1 3 (nI (m + 1)) 10
    rw [go 8 (by decide) (by decide) (by omega), eo 10 (by decide)]; exact s8
  · rw [go _ (by omega) (by omega) (by omega)]; exact hc c hc1 i hi
  · show vp_in (upd M.1 3 (nI (m + 1)) 3) 5
    rw [e3]; exact vp_in_nI (by omega) (by decide)
  · show vp_in (upd M.1 3 (nI (m + 1)) 4) 17
    rw [eo 4 (by decide)]; exact v4
  · show vp_in (upd M.1 3 (nI (m + 1)) 6) 10
    rw [eo 6 (by decide)]; exact v6
  · show vp_in (upd M.1 3 (nI (m + 1)) 7) 10
    rw [eo 7 (by decide)]; exact v7
  · show vp_in (upd M.1 3 (nI (m + 1)) 8) 41
    rw [eo 8 (by decide)]; exact v8
  · by_cases e : r = m
    · subst e
      unfold RR
      have rj : ∀ j, j < 10 → (upd M.1 3 (nI (r + 1)), r1, M.2.2).2.1 r j = if j = 0 then p1 else if j = 1 then p2 else 0 := qm
      rw [rj 0 (by decide), rj 1 (by decide), rj 2 (by decide), rj 3 (by decide), rj 4 (by decide), rj 5 (by decide), rj 6 (by decide), rj 7 (by decide), rj 8 (by decide), rj 9 (by decide)]
      exact ⟨⟨ga, gb, gz 2 (by decide) (by decide), gz 3 (by decide) (by decide), gz 4 (by decide) (by decide), gz 5 (by decide) (by decide), gz 6 (by decide) (by decide), gz 7 (by decide) (by decide), gz 8 (by decide) (by decide), gz 9 (by decide) (by decide)⟩, v1, v2, zz 21 (by decide) (by decide), zz 10 (by decide) (by decide), zz 41 (by decide) (by decide), zz 2 (by decide) (by decide), zz 2 (by decide) (by decide), zz 5 (by decide) (by decide), zz 5 (by decide) (by decide)⟩
    · have y := hr r h4 (((lt r h4).mp hrc).resolve_left e)
      have w : ∀ j, j < 10 → g (17 + 10 * r + j) = f (17 + 10 * r + j) := fun j hj => go _ (by omega) (by omega) (by omega)
      unfold RR at y ⊢
      have z := qo r e
      change r1 r = _ at z
      rw [w 0 (by decide), w 1 (by decide), w 2 (by decide), w 3 (by decide), w 4 (by decide), w 5 (by decide), w 6 (by decide), w 7 (by decide), w 8 (by decide), w 9 (by decide)]
      show _ ∧ _
      simp only [z]
      exact y
  · have hwc' : ¬ M.1 4 ≤ nI w := by
      have : ¬ upd M.1 3 (nI (m + 1)) 4 ≤ nI w := hwc
      rw [eo 4 (by decide)] at this
      exact this
    obtain ⟨y1, y2, y3, y4⟩ := hw w h16 hwc'
    have pl : M.2.2.1 w 2 ≠ 0 → ∃ p, M.2.2.1 w 3 = nI p ∧ p < 4 ∧ p ≠ m ∧ ¬ M.1 3 ≤ nI p ∧ M.2.1 p 4 ≠ 0 := fun q => by
      obtain ⟨p, a1, a2, a3, a4⟩ := y3 q
      refine ⟨p, a1, a2, fun e => a3 ?_, a3, a4⟩
      rw [em, e]; exact Int32.le_refl _
    refine ⟨?_, y2, fun q => ?_, fun q => ?_⟩
    · rw [go _ (by omega) (by omega) (by omega), go _ (by omega) (by omega) (by omega), go _ (by omega) (by omega) (by omega), go _ (by omega) (by omega) (by omega), go _ (by omega) (by omega) (by omega), go _ (by omega) (by omega) (by omega), go _ (by omega) (by omega) (by omega)]
      exact y1
    · obtain ⟨p, a1, a2, a3, a4, a5⟩ := pl q
      refine ⟨p, a1, a2, (lt p a2).mpr (Or.inr a4), ?_⟩
      show r1 p 4 ≠ 0
      have := qo p a3
      change r1 p = _ at this
      rw [this]; exact a5
    · obtain ⟨z1, z2, z3⟩ := y4 q
      obtain ⟨p, a1, a2, a3, a4, a5⟩ := pl (one_ne q)
      refine ⟨z1, z2, z3.trans ?_⟩
      show f_X5_distance M (M.2.2.1 w 3).toNatClampNeg _ _ = f_X5_distance (upd M.1 3 (nI (m + 1)), r1, M.2.2) (M.2.2.1 w 3).toNatClampNeg _ _
      rw [a1, nI_clamp (by omega)]
      have := qo p a3
      change r1 p = _ at this
      exact (dist_congr (M := (upd M.1 3 (nI (m + 1)), r1, M.2.2)) (N := M) (congrFun this 0) (congrFun this 1) (congrFun this 4) _ _).symm
  · have ec : cnt (onR (upd M.1 3 (nI (m + 1)), r1, M.2.2) r c) 16 = cnt (onR M r c) 16 := cnt_eq_of 16 (fun w _ => onR_congr (M := (upd M.1 3 (nI (m + 1)), r1, M.2.2)) (N := M) (eo 4 (by decide)) (fun _ _ _ => rfl))
    rw [ec]
    by_cases e : r = m
    · subst e
      have : cnt (onR M r c) 16 = 0 := by
        have x := cnt_eq_of (P := onR M r c) (Q := fun _ => false) 16 (fun w hw16 => by
          unfold onR
          rw [decide_eq_false_iff_not]
          intro q
          obtain ⟨p, a1, a2, a3, a4⟩ := (hw w hw16 q.1).2.2.1 q.2.1
          have : p = r := (nI_eq (by omega) (by omega)).mp (a1.symm.trans q.2.2.1)
          rw [this, em] at a3
          exact a3 (Int32.le_refl _))
        rw [x]; decide
      rw [this]; exact Nat.zero_le _
    · have z := qo r e
      change r1 r = _ at z
      show _ ≤ (r1 r (8 + c)).toNatClampNeg
      rw [z]
      exact hn r h4 (((lt r h4).mp hrc).resolve_left e) c hc2
end AD
