/-! ===== pure: an end is closed ===== -/
section OP7
variable {M N : gM} {f g : Nat → Int32} {X Y : Nat → Int32} {A B : Nat → Nat → Int32}
theorem GR.close {M1 : gM} {r : Nat} {s : Int32} (h : GR M f) (hr : r < 4) (hrc : ¬ M.1 3 ≤ nI r) (h1 : M1.1 = M.1) (hro : ∀ q, q ≠ r → M1.2.1 q = M.2.1 q)
    (k1 : ∀ j, j ≠ 4 → j ≠ 5 → j ≠ 6 → j ≠ 7 → M1.2.1 r j = M.2.1 r j) (k4 : M1.2.1 r 4 = 0) (k5 : M1.2.1 r 5 = s) (k6 : M1.2.1 r 6 = s) (k7 : M1.2.1 r 7 = M.2.1 r 7 + 1) (hs : vp_in s 2)
    (hw : ∀ w, w < 16 → ¬ M.1 4 ≤ nI w → M1.2.2.1 w = if M.2.2.1 w 3 = nI r then upd (M.2.2.1 w) 2 0 else M.2.2.1 w)
    (hc : ∀ c, c < 2 → M1.2.2.2 c 2 = M.2.2.2 c 2 ∧ M1.2.2.2 c 3 = M.2.2.2 c 3) (gc : ∀ c, c < 2 → ∀ i, i < 4 → g (9 + 4 * c + i) = M1.2.2.2 c i)
    (gw : ∀ w, w < 16 → ¬ M.1 4 ≤ nI w → ∀ j, j < 7 → g (57 + 7 * w + j) = if f (57 + 7 * w + 2) ≠ 0 ∧ f (57 + 7 * w + 3) = nI r ∧ 2 ≤ j ∧ j ≤ 5 then 0 else f (57 + 7 * w + j))
    (g0 : ∀ k, k < 9 → g k = f k) (go : ∀ k, 17 ≤ k → k < 57 → ¬ (17 + 10 * r ≤ k ∧ k < 17 + 10 * r + 10) → g k = f k) (gj : ∀ j, j < 10 → j ≠ 4 → j ≠ 5 → j ≠ 6 → j ≠ 9 → g (17 + 10 * r + j) = f (17 + 10 * r + j))
    (g4 : g (17 + 10 * r + 4) = 0) (g5 : g (17 + 10 * r + 5) = s) (g6 : g (17 + 10 * r + 6) = s) (g9 : g (17 + 10 * r + 9) = f (17 + 10 * r + 9) + 1) : GR M1 g := by
  have hRR := h.r (by omega) hrc
  have wo : ∀ w, w < 16 → ¬ M.1 4 ≤ nI w → ∀ j, j ≠ 2 → M1.2.2.1 w j = M.2.2.1 w j := fun w a b j hj => by
    rw [hw w a b]
    by_cases e : M.2.2.1 w 3 = nI r
    · rw [if_pos e, upd_ne _ _ hj]
    · rw [if_neg e]
  have w2 : ∀ w, w < 16 → ¬ M.1 4 ≤ nI w → M1.2.2.1 w 2 ≠ 0 → M.2.2.1 w 3 ≠ nI r ∧ M1.2.2.1 w = M.2.2.1 w := fun w a b q => by
    rw [hw w a b] at q ⊢
    by_cases e : M.2.2.1 w 3 = nI r
    · rw [if_pos e, upd_eq] at q; exact absurd rfl q
    · rw [if_neg e]; exact ⟨e, rfl⟩
  have hA : GR (M.1, M.2.1, M1.2.2.1, M.2.2.2) (fun k => if k < 57 then f k else g k) := by
    refine h.woods rfl rfl rfl (fun k hk _ => if_pos hk) ?_ (fun w a b => ?_) (fun q hq hqc c hcc => ?_)
    · show f 5 = _
      rw [h.1.2.2.2.2.2.1]
      unfold f_X1_woodsBowled
      simp only [bd_x]
      exact (bowled_congr (M := (M.1, M.2.1, M1.2.2.1, M.2.2.2)) (N := M) rfl h.v4 (fun w a b => wo w a b 7 (by decide)) 17 0 0 rfl).symm
    · obtain ⟨⟨y0, y1, y2, y3, y4, y5⟩, ⟨v0, v1, v2, v3⟩, z3, z4⟩ := h.w (by omega) b
      have gg : ∀ j, j < 7 → (if 57 + 7 * w + j < 57 then f (57 + 7 * w + j) else g (57 + 7 * w + j)) = if f (57 + 7 * w + 2) ≠ 0 ∧ f (57 + 7 * w + 3) = nI r ∧ 2 ≤ j ∧ j ≤ 5 then 0 else f (57 + 7 * w + j) := fun j hj => (if_neg (by omega)).trans (gw w a b j hj)
      unfold WW
      simp only [gg 0 (by decide), gg 1 (by decide), gg 2 (by decide), gg 3 (by decide), gg 4 (by decide), gg 5 (by decide), gg 6 (by decide)]
      by_cases e : M1.2.2.1 w 2 = 0
      · have e2 : vp_in (M1.2.2.1 w 2) 3 := by rw [e]; exact vp_in_nI (n := 0) (by decide) (by decide)
        refine ⟨⟨?_, ?_, ?_, fun q => absurd e q, fun q => absurd e (one_ne q), ?_⟩, ⟨?_, ?_, e2, ?_⟩, fun q => absurd e q, fun q => absurd e (one_ne q)⟩
        · rw [if_neg (by omega), wo w a b 0 (by decide)]; exact y0
        · rw [if_neg (by omega), wo w a b 1 (by decide)]; exact y1
        · rw [e]
          by_cases x : f (57 + 7 * w + 2) ≠ 0 ∧ f (57 + 7 * w + 3) = nI r
          · rw [if_pos ⟨x.1, x.2, by decide, by decide⟩]
          · rw [if_neg (fun q => x ⟨q.1, q.2.1⟩)]
            by_cases y : M.2.2.1 w 2 = 0
            · rw [y2, y]
            · refine absurd ⟨by rw [y2]; exact y, ?_⟩ x
              rw [y3 y]
              by_cases e3 : M.2.2.1 w 3 = nI r
              · exact e3
              · have := hw w a b
                rw [if_neg e3] at this
                rw [this] at e
                exact absurd e y
        · rw [if_neg (by omega), wo w a b 7 (by decide)]; exact y5
        · show vp_in (M1.2.2.1 w 0) 2
          rw [wo w a b 0 (by decide)]; exact v0
        · show vp_in (M1.2.2.1 w 1) 10
          rw [wo w a b 1 (by decide)]; exact v1
        · show vp_in (M1.2.2.1 w 6) 10000
          rw [wo w a b 6 (by decide)]; exact v3
      · obtain ⟨e3, ew⟩ := w2 w a b e
        rw [ew] at e ⊢
        have nn : ∀ j, ¬ (f (57 + 7 * w + 2) ≠ 0 ∧ f (57 + 7 * w + 3) = nI r ∧ 2 ≤ j ∧ j ≤ 5) := fun j q => by
          have := q.2.1
          rw [y3 e] at this
          exact e3 this
        simp only [if_neg (nn _)]
        exact ⟨⟨y0, y1, y2, y3, y4, y5⟩, ⟨v0, v1, v2, v3⟩, z3, z4⟩
    · refine Nat.le_trans (cnt_le_of 16 (fun w a q2 => ?_)) (h.2.2.2.2.2 q hq hqc c hcc)
      unfold onR at q2 ⊢
      rw [decide_eq_true_iff] at q2 ⊢
      obtain ⟨x1, x2, x3, x4⟩ := q2
      have ew := (w2 w a x1 x2).2
      change M1.2.2.1 w 2 ≠ 0 at x2
      change M1.2.2.1 w 3 = _ at x3
      change M1.2.2.1 w 0 = _ at x4
      rw [ew] at x2 x3 x4
      exact ⟨x1, x2, x3, x4⟩
  have hB : GR (M.1, M.2.1, M1.2.2.1, M1.2.2.2) (fun k => if 17 + 10 * r ≤ k ∧ k < 17 + 10 * r + 10 then f k else g k) := by
    refine hA.clubs rfl rfl rfl (fun k hk hn => ?_) (fun c hcc i hi => ?_) (fun c hcc => ?_)
    · show (if 17 + 10 * r ≤ k ∧ k < 17 + 10 * r + 10 then f k else g k) = (if k < 57 then f k else g k)
      by_cases e : 17 + 10 * r ≤ k ∧ k < 17 + 10 * r + 10
      · rw [if_pos e, if_pos (by omega)]
      · rw [if_neg e]
        by_cases e2 : k < 57
        · rw [if_pos e2]
          by_cases e3 : k < 9
          · exact g0 k e3
          · exact go k (by omega) e2 e
        · rw [if_neg e2]
    · show (if 17 + 10 * r ≤ 9 + 4 * c + i ∧ 9 + 4 * c + i < 17 + 10 * r + 10 then f (9 + 4 * c + i) else g (9 + 4 * c + i)) = _
      rw [if_neg (by omega)]; exact gc c hcc i hi
    · obtain ⟨x, y⟩ := hc c hcc
      show vp_in (M1.2.2.2 c 2) 11 ∧ M1.2.2.2 c 2 + M1.2.2.2 c 3 = 10
      rw [x, y]; exact h.2.2.1.2.2.2.2.2 c hcc
  refine hB.rink hr h1 rfl (fun q hq => hro q hq) (fun k hk hn => (if_neg hn).symm) ?_ (k1 0 (by decide) (by decide) (by decide) (by decide)) (k1 1 (by decide) (by decide) (by decide) (by decide)) (Or.inr (fun w a b q => ?_)) (fun c hcc => ?_)
  · obtain ⟨⟨y0, y1, y2, y3, y4, y5, y6, y7, y8, y9⟩, v0, v1, v2, v3, v4, v5, v6, v7, v8⟩ := hRR
    refine ⟨⟨?_, ?_, ?_, ?_, ?_, ?_, ?_, ?_, ?_, ?_⟩, ?_, ?_, ?_, ?_, ?_, ?_, ?_, ?_, ?_⟩
    · rw [gj 0 (by decide) (by decide) (by decide) (by decide) (by decide), k1 0 (by decide) (by decide) (by decide) (by decide)]; exact y0
    · rw [gj 1 (by decide) (by decide) (by decide) (by decide) (by decide), k1 1 (by decide) (by decide) (by decide) (by decide)]; exact y1
    · rw [gj 2 (by decide) (by decide) (by decide) (by decide) (by decide), k1 2 (by decide) (by decide) (by decide) (by decide)]; exact y2
    · rw [gj 3 (by decide) (by decide) (by decide) (by decide) (by decide), k1 3 (by decide) (by decide) (by decide) (by decide)]; exact y3
    · rw [g4, k4]
    · rw [g5, k6]
    · rw [g6, k5]
    · rw [gj 7 (by decide) (by decide) (by decide) (by decide) (by decide), k1 8 (by decide) (by decide) (by decide) (by decide)]; exact y7
    · rw [gj 8 (by decide) (by decide) (by decide) (by decide) (by decide), k1 9 (by decide) (by decide) (by decide) (by decide)]; exact y8
    · rw [g9, k7, y9]
    · rw [k1 0 (by decide) (by decide) (by decide) (by decide)]; exact v0
    · rw [k1 1 (by decide) (by decide) (by decide) (by decide)]; exact v1
    · rw [k1 2 (by decide) (by decide) (by decide) (by decide)]; exact v2
    · rw [k1 3 (by decide) (by decide) (by decide) (by decide)]; exact v3
    · rw [k4]; exact vp_in_nI (n := 0) (by decide) (by decide)
    · rw [k5]; exact hs
    · rw [k6]; exact hs
    · rw [k1 8 (by decide) (by decide) (by decide) (by decide)]; exact v7
    · rw [k1 9 (by decide) (by decide) (by decide) (by decide)]; exact v8
  · obtain ⟨e3, ew⟩ := w2 w a b q
    show M1.2.2.1 w 3 ≠ nI r
    rw [ew]; exact e3
  · have x := hB.2.2.2.2.2 r hr hrc c hcc
    rw [k1 (8 + c) (by omega) (by omega) (by omega) (by omega)]
    exact x
theorem bring_l {p : Int32} : ∀ n k M, n + k = 17 → (f_X1_bringWoodsToShed_l2 p n k M).1 = M.1 ∧ (f_X1_bringWoodsToShed_l2 p n k M).2.1 = M.2.1 ∧ (f_X1_bringWoodsToShed_l2 p n k M).2.2.2 = M.2.2.2 ∧ (∀ w, w < k → (f_X1_bringWoodsToShed_l2 p n k M).2.2.1 w = M.2.2.1 w) ∧ (∀ w, w < 16 → k ≤ w → ¬ M.1 4 ≤ nI w → (f_X1_bringWoodsToShed_l2 p n k M).2.2.1 w = if M.2.2.1 w 3 = p then upd (M.2.2.1 w) 2 0 else M.2.2.1 w) := by
  intro n
  induction n with
  | zero => intro k M hk; exact ⟨rfl, rfl, rfl, fun _ _ => rfl, fun w h1 h2 => by omega⟩
  | succ n ih =>
    intro k M hk
    unfold f_X1_bringWoodsToShed_l2
    by_cases c : M.1 4 ≤ nI k
    · rw [if_pos c]
      exact ⟨rfl, rfl, rfl, fun _ _ => rfl, fun w h1 h2 h3 => absurd (le_mono c h2 (by omega)) h3⟩
    · rw [if_neg c]
      by_cases d : M.2.2.1 k 3 = p
      · rw [if_pos d]
        obtain ⟨i1, i2, i3, i4, i5⟩ := ih (k + 1) (sw M k 2 0) (by omega)
        refine ⟨i1, i2, i3, fun w hw => (i4 w (by omega)).trans (up2_ne _ _ _ (by omega)), fun w h1 h2 h3 => ?_⟩
        by_cases e : w = k
        · subst e
          rw [i4 w (by omega), if_pos d]
          exact up2_eq _ _ _ _
        · rw [i5 w h1 (by omega) h3]
          have : (sw M k 2 0).2.2.1 w = M.2.2.1 w := up2_ne _ _ _ e
          rw [this]
      · rw [if_neg d]
        obtain ⟨i1, i2, i3, i4, i5⟩ := ih (k + 1) M (by omega)
        refine ⟨i1, i2, i3, fun w hw => i4 w (by omega), fun w h1 h2 h3 => ?_⟩
        by_cases e : w = k
        · subst e
          rw [i4 w (by omega), if_neg d]
        · exact i5 w h1 (by omega) h3
theorem cl157 {p : Int32} {k : Nat} (hk : k < 16) (B : Nat → Nat → Int32) : f_X8_closes_l157 Y p k 5 2 B = up2 (up2 (up2 (up2 B 0 (57 + 7 * k + 2) 0) 0 (57 + 7 * k + 3) 0) 0 (57 + 7 * k + 4) 0) 0 (57 + 7 * k + 5) 0 := by
  unfold f_X8_closes_l157
  rw [if_neg (by decide), bd_x, srw k 2 (by omega) (by decide)]
  unfold f_X8_closes_l157
  rw [if_neg (by decide), bd_x, srw k 3 (by omega) (by decide)]
  unfold f_X8_closes_l157
  rw [if_neg (by decide), bd_x, srw k 4 (by omega) (by decide)]
  unfold f_X8_closes_l157
  rw [if_neg (by decide), bd_x, srw k 5 (by omega) (by decide)]
  unfold f_X8_closes_l157
  rw [if_pos (by decide)]
theorem cl122 {p : Int32} : ∀ n k B, n + k = 17 → B 0 4 ≤ nI 16 → (∀ w, w < k → ∀ j, j < 7 → f_X8_closes_l122 Y p n k B 0 (57 + 7 * w + j) = B 0 (57 + 7 * w + j)) ∧ (∀ i, i < 57 → f_X8_closes_l122 Y p n k B 0 i = B 0 i) ∧ (∀ i, i ≠ 0 → f_X8_closes_l122 Y p n k B i = B i) ∧
    (∀ w, w < 16 → k ≤ w → ¬ B 0 4 ≤ nI w → ∀ j, j < 7 → f_X8_closes_l122 Y p n k B 0 (57 + 7 * w + j) = if B 0 (57 + 7 * w + 2) ≠ 0 ∧ B 0 (57 + 7 * w + 3) = p ∧ 2 ≤ j ∧ j ≤ 5 then 0 else B 0 (57 + 7 * w + j)) := by
  intro n
  induction n with
  | zero => intro k B hk _; exact ⟨fun _ _ _ _ => rfl, fun _ _ => rfl, fun _ _ => rfl, fun w h1 h2 => by omega⟩
  | succ n ih =>
    intro k B hk h16
    unfold f_X8_closes_l122
    simp only [bd_x]
    by_cases c : B 0 4 ≤ nI k
    · rw [if_pos c]
      exact ⟨fun _ _ _ _ => rfl, fun _ _ => rfl, fun _ _ => rfl, fun w h1 h2 h3 => absurd (le_mono c h2 (by omega)) h3⟩
    rw [if_neg c]
    have keep : (B 0 (57 + 7 * k + 2) = 0 ∨ B 0 (57 + 7 * k + 3) ≠ p) → (∀ w, w < k → ∀ j, j < 7 → f_X8_closes_l122 Y p n (k + 1) B 0 (57 + 7 * w + j) = B 0 (57 + 7 * w + j)) ∧ (∀ i, i < 57 → f_X8_closes_l122 Y p n (k + 1) B 0 i = B 0 i) ∧ (∀ i, i ≠ 0 → f_X8_closes_l122 Y p n (k + 1) B i = B i) ∧
        (∀ w, w < 16 → k ≤ w → ¬ B 0 4 ≤ nI w → ∀ j, j < 7 → f_X8_closes_l122 Y p n (k + 1) B 0 (57 + 7 * w + j) = if B 0 (57 + 7 * w + 2) ≠ 0 ∧ B 0 (57 + 7 * w + 3) = p ∧ 2 ≤ j ∧ j ≤ 5 then 0 else B 0 (57 + 7 * w + j)) := fun hh => by
      obtain ⟨i1, i2, i3, i4⟩ := ih (k + 1) B (by omega) h16
      refine ⟨fun w hw j hj => i1 w (by omega) j hj, i2, i3, fun w h1 h2 h3 j hj => ?_⟩
      by_cases e : w = k
      · subst e
        rw [i1 w (by omega) j hj, if_neg (fun q => hh.elim (fun x => q.1 x) (fun x => x q.2.1))]
      · exact i4 w h1 (by omega) h3 j hj
    rw [ow k 2 (p := 2) (by omega) rfl, ow k 3 (p := 3) (by omega) rfl]
    by_cases d : B 0 (57 + 7 * k + 2) = 0
    · rw [if_pos d]; exact keep (Or.inl d)
    rw [if_neg d]
    by_cases e : B 0 (57 + 7 * k + 3) = p
    · by_cases k16 : k < 16
      · rw [if_pos e, cl157 k16]
        obtain ⟨i1, i2, i3, i4⟩ := ih (k + 1) (up2 (up2 (up2 (up2 B 0 (57 + 7 * k + 2) 0) 0 (57 + 7 * k + 3) 0) 0 (57 + 7 * k + 4) 0) 0 (57 + 7 * k + 5) 0) (by omega) (by
          simp only [up2_eq]
          rw [upd_ne _ _ (by omega), upd_ne _ _ (by omega), upd_ne _ _ (by omega), upd_ne _ _ (by omega)]
          exact h16)
        generalize hC : f_X8_closes_l122 Y p n (k + 1) (up2 (up2 (up2 (up2 B 0 (57 + 7 * k + 2) 0) 0 (57 + 7 * k + 3) 0) 0 (57 + 7 * k + 4) 0) 0 (57 + 7 * k + 5) 0) = C at i1 i2 i3 i4
        clear hC
        simp only [up2_eq] at i1 i2 i4
        refine ⟨fun w hw j hj => ?_, fun i hi => ?_, fun i hi => ?_, fun w h1 h2 h3 j hj => ?_⟩
        · rw [i1 w (by omega) j hj, upd_ne _ _ (by omega), upd_ne _ _ (by omega), upd_ne _ _ (by omega), upd_ne _ _ (by omega)]
        · rw [i2 i hi, upd_ne _ _ (by omega), upd_ne _ _ (by omega), upd_ne _ _ (by omega), upd_ne _ _ (by omega)]
        · rw [i3 i hi, up2_ne _ _ _ hi, up2_ne _ _ _ hi, up2_ne _ _ _ hi, up2_ne _ _ _ hi]
        · by_cases x : w = k
          · subst x
            rw [i1 w (by omega) j hj]
            rcases (show j = 0 ∨ j = 1 ∨ j = 2 ∨ j = 3 ∨ j = 4 ∨ j = 5 ∨ j = 6 by omega) with rfl | rfl | rfl | rfl | rfl | rfl | rfl
            · rw [if_neg (by omega), upd_ne _ _ (by omega), upd_ne _ _ (by omega), upd_ne _ _ (by omega), upd_ne _ _ (by omega)]
            · rw [if_neg (by omega), upd_ne _ _ (by omega), upd_ne _ _ (by omega), upd_ne _ _ (by omega), upd_ne _ _ (by omega)]
            · rw [if_pos ⟨d, e, by decide, by decide⟩, upd_ne _ _ (by omega), upd_ne _ _ (by omega), upd_ne _ _ (by omega), upd_eq]
            · rw [if_pos ⟨d, e, by decide, by decide⟩, upd_ne _ _ (by omega), upd_ne _ _ (by omega), upd_eq]
            · rw [if_pos ⟨d, e, by decide, by decide⟩, upd_ne _ _ (by omega), upd_eq]
            · rw [if_pos ⟨d, e, by decide, by decide⟩, upd_eq]
            · rw [if_neg (by omega), upd_ne _ _ (by omega), upd_ne _ _ (by omega), upd_ne _ _ (by omega), upd_ne _ _ (by omega)]
          · have un : ∀ i, i < 7 → upd (upd (upd (upd (B 0) (57 + 7 * k + 2) 0) (57 + 7 * k + 3) 0) (57 + 7 * k + 4) 0) (57 + 7 * k + 5) 0 (57 + 7 * w + i) = B 0 (57 + 7 * w + i) := fun i hi => by
              rw [upd_ne _ _ (by omega), upd_ne _ _ (by omega), upd_ne _ _ (by omega), upd_ne _ _ (by omega)]
            have u4 : upd (upd (upd (upd (B 0) (57 + 7 * k + 2) 0) (57 + 7 * k + 3) 0) (57 + 7 * k + 4) 0) (57 + 7 * k + 5) 0 4 = B 0 4 := by
              rw [upd_ne _ _ (by omega), upd_ne _ _ (by omega), upd_ne _ _ (by omega), upd_ne _ _ (by omega)]
            have := i4 w h1 (by omega) (by rw [u4]; exact h3) j hj
            rw [un 2 (by decide), un 3 (by decide), un j hj] at this
            exact this
      · obtain rfl : k = 16 := by omega
        exact absurd h16 c
    · rw [if_neg e]; exact keep (Or.inr e)
end OP7
