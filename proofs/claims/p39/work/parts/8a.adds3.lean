section AD3
variable {G : Nat → gM} {M N : gM} {f g : Nat → Int32} {X Y X1 Y1 : Nat → Int32} {A B A1 B1 : Nat → Nat → Int32} {a : Int32}
theorem cp_add {p1 p2 : Int32} {m : Nat} (hm : m < 16) : ∀ n j (A : Nat → Nat → Int32), n + j = 8 → (f_X8_wood_l62 Y p1 p2 n j (nI m) A).1 = nI m ∧ (∀ i, i ≠ 0 → (f_X8_wood_l62 Y p1 p2 n j (nI m) A).2 i = A i) ∧ (∀ i, (f_X8_wood_l62 Y p1 p2 n j (nI m) A).2 0 i = if 57 + 7 * m + j ≤ i ∧ i < 57 + 7 * m + 7 then 0 else A 0 i) := by
  intro n
  induction n with
  | zero => intro j A hk; exact ⟨rfl, fun _ _ => rfl, fun i => (if_neg (by omega)).symm⟩
  | succ n ih =>
    intro j A hk
    unfold f_X8_wood_l62
    have lc : (7 : Int32) ≤ nI j ↔ 7 ≤ j := nI_leI (a := 7) (b := j) (by decide) (by omega)
    by_cases c : 7 ≤ j
    · rw [if_pos (lc.mpr c)]
      exact ⟨rfl, fun _ _ => rfl, fun i => (if_neg (by omega)).symm⟩
    · rw [if_neg (fun q => c (lc.mp q)), bd_x, srw m j (by omega) (nI_clamp (by omega))]
      obtain ⟨i0, i1, i2⟩ := ih (j + 1) (up2 A 0 (57 + 7 * m + j) 0) (by omega)
      refine ⟨i0, fun i hi => (i1 i hi).trans (up2_ne _ _ _ hi), fun i => (i2 i).trans ?_⟩
      by_cases e : i = 57 + 7 * m + j
      · subst e
        rw [if_neg (by omega), if_pos (by omega), up2_eq, upd_eq]
      · rw [up2_eq, upd_ne _ _ e]
        by_cases g : 57 + 7 * m + j ≤ i ∧ i < 57 + 7 * m + 7
        · rw [if_pos g, if_pos (by omega)]
        · rw [if_neg g, if_neg (by omega)]
theorem bowled_more {m : Nat} (h4 : N.1 4 = nI (m + 1)) (em : M.1 4 = nI m) (hm : m < 16) (ho : ∀ j, j ≠ m → N.2.2.1 j = M.2.2.1 j) (h7 : N.2.2.1 m 7 = 0) : ∀ n k (a : Int32), n + k = 17 → k ≤ m → f_X1_woodsBowled_l4 N n k a = f_X1_woodsBowled_l4 M n k a := by
  intro n
  induction n with
  | zero => intro k a hk h; omega
  | succ n ih =>
    intro k a hk h
    unfold f_X1_woodsBowled_l4
    rw [h4, em]
    have l1 : ¬ nI (m + 1) ≤ nI k := fun q => by
      have := (nI_leI (by omega) (by omega)).mp q
      omega
    rw [if_neg l1]
    by_cases c : k = m
    · subst c
      rw [if_pos (Int32.le_refl _), h7, Int32.add_zero]
      rcases n with _ | n
      · rfl
      · unfold f_X1_woodsBowled_l4
        rw [h4, if_pos (Int32.le_refl _)]
    · have l2 : ¬ nI m ≤ nI k := fun q => by
        have := (nI_leI (by omega) (by omega)).mp q
        omega
      rw [if_neg l2, ho k c]
      exact ih (k + 1) _ (by omega) (by omega)
/-- a wood more -/
theorem GR.add {m : Nat} {p1 p2 : Int32} (h : GR M f) (hm : m < 16) (em : M.1 4 = nI m) (v1 : vp_in p1 2) (v2 : vp_in p2 10) (g4 : g 4 = nI (m + 1)) (ga : g (57 + 7 * m + 0) = p1) (gb : g (57 + 7 * m + 1) = p2) (gz : ∀ j, 2 ≤ j → j < 7 → g (57 + 7 * m + j) = 0) (go : ∀ k, k < 169 → k ≠ 4 → ¬ (57 + 7 * m ≤ k ∧ k < 57 + 7 * m + 7) → g k = f k) : GR (sg (f_X6_make M m p1 p2) 4 (nI (m + 1))) g := by
  obtain ⟨⟨s0, s1, s2, s3, s4, s5, s6, s7, s8⟩, hc, ⟨v3, v4, v6, v7, v8, vc⟩, hr, hw, hn⟩ := h
  have q1 : (sg (f_X6_make M m p1 p2) 4 (nI (m + 1))).1 = upd M.1 4 (nI (m + 1)) := rfl
  have q2 : (sg (f_X6_make M m p1 p2) 4 (nI (m + 1))).2.1 = M.2.1 := rfl
  have q3 : (sg (f_X6_make M m p1 p2) 4 (nI (m + 1))).2.2.2 = M.2.2.2 := rfl
  have qo : ∀ r, r ≠ m → (sg (f_X6_make M m p1 p2) 4 (nI (m + 1))).2.2.1 r = M.2.2.1 r := fun r hne => by
    simp [sg, f_X6_make, sw, up2, hne]
  have qm : ∀ j, j < 8 → (sg (f_X6_make M m p1 p2) 4 (nI (m + 1))).2.2.1 m j = if j = 0 then p1 else if j = 1 then p2 else 0 := fun j hj => by
    rcases (show j = 0 ∨ j = 1 ∨ j = 2 ∨ j = 3 ∨ j = 4 ∨ j = 5 ∨ j = 6 ∨ j = 7 by omega) with rfl | rfl | rfl | rfl | rfl | rfl | rfl | rfl <;> simp [sg, f_X6_make, sw, up2, upd]
  generalize sg (f_X6_make M m p1 p2) 4 (nI (m + 1)) = Q at q1 q2 q3 qo qm ⊢
  have e4 : Q.1 4 = nI (m + 1) := by rw [q1]; exact upd_eq _ _ _
  have eo : ∀ k, k ≠ 4 → Q.1 k = M.1 k := fun k hk => by rw [q1]; exact upd_ne _ _ hk
  have lt : ∀ r, r < 16 → ((¬ Q.1 4 ≤ nI r) ↔ (r = m ∨ ¬ M.1 4 ≤ nI r)) := fun r h4 => by
    rw [e4, em]
    have l1 : nI (m + 1) ≤ nI r ↔ m + 1 ≤ r := nI_leI (by omega) (by omega)
    have l2 : nI m ≤ nI r ↔ m ≤ r := nI_leI (by omega) (by omega)
    rw [l1, l2]; omega
  have zz : ∀ N, 0 < N → N ≤ 10000 → vp_in (0 : Int32) N := fun N a b => vp_in_nI (n := 0) a (by omega)
  have wm2 : Q.2.2.1 m 2 = 0 := qm 2 (by decide)
  refine ⟨⟨?_, ?_, ?_, ?_, ?_, ?_, ?_, ?_, ?_⟩, fun c hc1 i hi => ?_, ⟨?_, ?_, ?_, ?_, ?_, ?_⟩, fun r h4 hrc => ?_, fun w h16 hwc => ?_, fun r h4 hrc c hc2 => ?_⟩
  · rw [go 0 (by decide) (by decide) (by omega), eo 5 (by decide)]; exact s0
  · rw [go 1 (by decide) (by decide) (by omega), eo 6 (by decide)]; exact s1
  · rw [go 2 (by decide) (by decide) (by omega), eo 7 (by decide)]; exact s2
  · rw [go 3 (by decide) (by decide) (by omega), eo 3 (by decide)]; exact s3
  · rw [g4, e4]
  · rw [go 5 (by decide) (by decide) (by omega), s5]
    unfold f_X1_woodsBowled
    simp only [bd_x]
    exact (bowled_more e4 em hm qo (qm 7 (by decide)) 17 0 0 rfl (Nat.zero_le _)).symm
  · rw [go 6 (by decide) (by decide) (by omega), eo 8 (by decide)]; exact s6
  · rw [go 7 (by decide) (by decide) (by omega), eo 9 (by decide)]; exact s7
  · rw [go 8 (by decide) (by decide) (by omega), eo 10 (by decide)]; exact s8
  · rw [go _ (by omega) (by omega) (by omega), q3]; exact hc c hc1 i hi
  · rw [eo 3 (by decide)]; exact v3
  · rw [e4]; exact vp_in_nI (by omega) (by decide)
  · rw [eo 6 (by decide)]; exact v6
  · rw [eo 7 (by decide)]; exact v7
  · rw [eo 8 (by decide)]; exact v8
  · rw [q3]; exact vc
  · rw [eo 3 (by decide)] at hrc
    have y := hr r h4 hrc
    have w : ∀ j, j < 10 → g (17 + 10 * r + j) = f (17 + 10 * r + j) := fun j hj => go _ (by omega) (by omega) (by omega)
    unfold RR at y ⊢
    rw [w 0 (by decide), w 1 (by decide), w 2 (by decide), w 3 (by decide), w 4 (by decide), w 5 (by decide), w 6 (by decide), w 7 (by decide), w 8 (by decide), w 9 (by decide), q2]
    exact y
  · by_cases e : w = m
    · subst e
      unfold WW
      rw [qm 0 (by decide), qm 1 (by decide), wm2, qm 6 (by decide), qm 7 (by decide)]
      refine ⟨⟨ga, gb, gz 2 (by decide) (by decide), fun q => absurd rfl q, fun q => absurd q (by decide), gz 6 (by decide) (by decide)⟩, ⟨v1, v2, zz 3 (by decide) (by decide), zz 10000 (by decide) (by decide)⟩, fun q => absurd rfl q, fun q => absurd q (by decide)⟩
    · obtain ⟨y1, y2, y3, y4⟩ := hw w h16 (((lt w h16).mp hwc).resolve_left e)
      have x : ∀ j, j < 7 → g (57 + 7 * w + j) = f (57 + 7 * w + j) := fun j hj => go _ (by omega) (by omega) (by omega)
      unfold WW
      rw [qo w e, x 0 (by decide), x 1 (by decide), x 2 (by decide), x 3 (by decide), x 4 (by decide), x 5 (by decide), x 6 (by decide), eo 3 (by decide), q2]
      refine ⟨y1, y2, y3, fun q => ?_⟩
      obtain ⟨z1, z2, z3⟩ := y4 q
      refine ⟨z1, z2, z3.trans ?_⟩
      exact (dist_congr (by rw [q2]) (by rw [q2]) (by rw [q2]) _ _).symm
  · rw [eo 3 (by decide)] at hrc
    have old := hn r h4 hrc c hc2
    have ec : cnt (onR Q r c) 16 = cnt (onR M r c) 16 := cnt_eq_of 16 (fun w hw16 => by
      unfold onR
      by_cases e : w = m
      · subst e
        rw [decide_eq_false (fun q => q.2.1 wm2), decide_eq_false (fun q => q.1 (by rw [em]; exact Int32.le_refl _))]
      · have l := lt w hw16
        rw [qo w e]
        exact decide_eq_decide.mpr ⟨fun x => ⟨(l.mp x.1).resolve_left e, x.2⟩, fun x => ⟨l.mpr (Or.inr x.1), x.2⟩⟩)
    rw [ec, q2]
    exact old
theorem C_wood (h : RLL G M X A Y B) (p1 p2 : Int32) : CHG G M X A Y B (f_X7_wood G M X A p1 p2) (f_X8_wood Y B p1 p2) := by
  unfold f_X7_wood f_X8_wood f_X7_addWood
  simp only [bd_x]
  rw [q_isClub (M := M) (X1 := X) (A1 := A)]
  have code2 := chg_c (p := -2) h (Or.inr (Or.inl rfl))
  have code1 := chg_c (p := -1) h (Or.inl rfl)
  have one0 : ¬ (1 : Int32) = 0 := by decide
  by_cases z : f_X7_isClub M X A p1 = 0
  · simp only [if_pos z]; exact code1
  simp only [if_neg z]
  obtain ⟨c, rfl, hcc⟩ := club_is z
  simp only [inq_eq]
  by_cases a1 : p2 < 0
  · simp only [if_pos a1, if_pos]; exact code2
  simp only [if_neg a1]
  by_cases a2 : 9 < p2
  · simp only [if_pos a2, if_neg (Int32.not_le.mpr a2), if_pos]; exact code2
  simp only [if_neg a2, if_pos (Int32.not_lt.mp a2), if_neg one0]
  obtain ⟨tR, tG⟩ := h.try
  obtain ⟨m, hm, em⟩ := vp_in_of tG.v4 (by decide)
  rw [tG.n4]
  by_cases d : M.1 4 < 16
  · have m16 : m < 16 := by rw [em] at d; exact (nI_ltI (a := m) (b := 16) (by omega) (by decide)).mp d
    have d4 : ¬ M.1 4 = 16 := fun q => by rw [q] at d; exact absurd d (by decide)
    simp only [if_pos d, if_neg d4]
    have ez : (f_X6_make M (M.1 4).toNatClampNeg (nI c) p2).1 4 + 1 = nI (m + 1) := by
      show M.1 4 + 1 = _
      rw [em, nI_1]
    rw [ez, em, nI_clamp (show m < 2 ^ 31 by omega)]
    have hv : vp_in p2 10 := by
      obtain ⟨j, hj, rfl⟩ := nI_of a1
      have := (nI_leI (a := j) (b := 9) hj (by decide)).mp (Int32.not_lt.mp a2)
      exact vp_in_nI (by omega) (by decide)
    obtain ⟨l0, l1, l2⟩ := cp_add (Y := Y) (p1 := nI c) (p2 := p2) m16 8 0 (up2 (f_X8_tries Y B) 0 4 (nI m + 1)) rfl
    generalize f_X8_wood_l62 Y (nI c) p2 8 0 (nI m) (up2 (f_X8_tries Y B) 0 4 (nI m + 1)) = W at l0 l1 l2 ⊢
    rw [l0]
    simp only [srw m 0 (p := 0) (show m < 2 ^ 31 by omega) rfl, srw m 1 (p := 1) (show m < 2 ^ 31 by omega) rfl]
    refine chg_d h (ncode (vp_in_nI (N := 17) (by omega) (by decide))) (fun k x y => ?_) ?_ ?_
    · rw [up2_ne _ _ _ x, up2_ne _ _ _ x, l1 k x, up2_ne _ _ _ x]
    · rw [up2_ne _ _ _ (by decide), up2_ne _ _ _ (by decide), l1 7 (by decide), up2_ne _ _ _ (by decide)]
    · rw [up2_eq, up2_eq]
      refine tG.add m16 em (vp_in_nI hcc (by decide)) hv ?_ ?_ ?_ (fun j j2 j7 => ?_) (fun k hk k3 kn => ?_)
      · rw [upd_ne _ _ (by omega), upd_ne _ _ (by omega), l2, if_neg (by omega), up2_eq, upd_eq, nI_1]
      · rw [upd_ne _ _ (by omega), upd_eq]
      · rw [upd_eq]
      · rw [upd_ne _ _ (by omega), upd_ne _ _ (by omega), l2, if_pos (by omega)]
      · rw [upd_ne _ _ (by omega), upd_ne _ _ (by omega), l2, if_neg (by omega), up2_eq, upd_ne _ _ k3]
  · have d4 : M.1 4 = 16 := by
      rw [em] at d ⊢
      have : ¬ m < 16 := fun q => d ((nI_ltI (a := m) (b := 16) (by omega) (by decide)).mpr q)
      rw [show m = 16 by omega]
      rfl
    simp only [if_neg d, if_pos d4]
    exact chg_r h 1 16
end AD3
