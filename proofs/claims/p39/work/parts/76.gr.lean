/-! ===== pure: what keeps the relation of a green and a row ===== -/
/-- two greens that say the same -/
def EQG (M N : gM) : Prop := (∀ k, 3 ≤ k → k ≤ 10 → M.1 k = N.1 k) ∧ (∀ r, r < 4 → ¬ N.1 3 ≤ nI r → ∀ j, j < 10 → M.2.1 r j = N.2.1 r j) ∧ (∀ w, w < 16 → ¬ N.1 4 ≤ nI w → ∀ j, j < 8 → M.2.2.1 w j = N.2.2.1 w j) ∧ (∀ c, c < 2 → ∀ i, i < 4 → M.2.2.2 c i = N.2.2.2 c i)
theorem bowled_congr {M N : gM} (h4 : M.1 4 = N.1 4) (hv : vp_in (N.1 4) 17) (hw : ∀ w, w < 16 → ¬ N.1 4 ≤ nI w → M.2.2.1 w 7 = N.2.2.1 w 7) : ∀ n k a, n + k = 17 → f_X1_woodsBowled_l4 M n k a = f_X1_woodsBowled_l4 N n k a := by
  intro n
  induction n with
  | zero => intro k a _; rfl
  | succ n ih =>
    intro k a hk
    unfold f_X1_woodsBowled_l4
    rw [h4]
    by_cases c : N.1 4 ≤ nI k
    · rw [if_pos c, if_pos c]
    · have hk16 : k < 16 := cnt_lt (N := 16) (by decide) (by omega) (le_of_vp (by decide) hv) c
      rw [if_neg c, if_neg c, hw k hk16 c, ih _ _ (by omega)]
theorem dist_congr {M N : gM} {r : Nat} (h0 : M.2.1 r 0 = N.2.1 r 0) (h1 : M.2.1 r 1 = N.2.1 r 1) (h4 : M.2.1 r 4 = N.2.1 r 4) (a b : Int32) : f_X5_distance M r a b = f_X5_distance N r a b := by
  unfold f_X5_distance
  rw [h0, h1, h4]
theorem onR_congr {M N : gM} {r c w : Nat} (h4 : M.1 4 = N.1 4) (h : ¬ N.1 4 ≤ nI w → ∀ j, j < 8 → M.2.2.1 w j = N.2.2.1 w j) : onR M r c w = onR N r c w := by
  unfold onR
  rw [h4]
  by_cases g : N.1 4 ≤ nI w
  · rw [decide_eq_false (fun q => q.1 g), decide_eq_false (fun q => q.1 g)]
  · rw [h g 2 (by decide), h g 3 (by decide), h g 0 (by decide)]
theorem GR.congr {M N : gM} {f g : Nat → Int32} (h : GR N f) (e : EQG M N) (ef : ∀ k, k < 169 → g k = f k) : GR M g := by
  obtain ⟨⟨s0, s1, s2, s3, s4, s5, s6, s7, s8⟩, hc, ⟨v3, v4, v6, v7, v8, vc⟩, hr, hw, hn⟩ := h
  have e3 : M.1 3 = N.1 3 := e.1 3 (by decide) (by decide)
  have e4 : M.1 4 = N.1 4 := e.1 4 (by decide) (by decide)
  refine ⟨⟨?_, ?_, ?_, ?_, ?_, ?_, ?_, ?_, ?_⟩, ?_, ⟨?_, ?_, ?_, ?_, ?_, ?_⟩, ?_, ?_, ?_⟩
  · rw [ef 0 (by decide), e.1 5 (by decide) (by decide)]; exact s0
  · rw [ef 1 (by decide), e.1 6 (by decide) (by decide)]; exact s1
  · rw [ef 2 (by decide), e.1 7 (by decide) (by decide)]; exact s2
  · rw [ef 3 (by decide), e3]; exact s3
  · rw [ef 4 (by decide), e4]; exact s4
  · rw [ef 5 (by decide), s5]
    exact (bowled_congr e4 v4 (fun w a b => e.2.2.1 w a b 7 (by decide)) 17 0 0 rfl).symm
  · rw [ef 6 (by decide), e.1 8 (by decide) (by decide)]; exact s6
  · rw [ef 7 (by decide), e.1 9 (by decide) (by decide)]; exact s7
  · rw [ef 8 (by decide), e.1 10 (by decide) (by decide)]; exact s8
  · intro c h1 i h2
    rw [ef _ (by omega), e.2.2.2 c h1 i h2]; exact hc c h1 i h2
  · rw [e3]; exact v3
  · rw [e4]; exact v4
  · rw [e.1 6 (by decide) (by decide)]; exact v6
  · rw [e.1 7 (by decide) (by decide)]; exact v7
  · rw [e.1 8 (by decide) (by decide)]; exact v8
  · intro c h1
    rw [e.2.2.2 c h1 2 (by decide), e.2.2.2 c h1 3 (by decide)]; exact vc c h1
  · intro r h1 h2
    rw [e3] at h2
    have x := e.2.1 r h1 h2
    have y := hr r h1 h2
    unfold RR at y ⊢
    rw [ef _ (by omega), ef _ (by omega), ef _ (by omega), ef _ (by omega), ef _ (by omega), ef _ (by omega), ef _ (by omega), ef _ (by omega), ef _ (by omega), ef _ (by omega), x 0 (by decide), x 1 (by decide), x 2 (by decide), x 3 (by decide), x 4 (by decide), x 5 (by decide), x 6 (by decide), x 7 (by decide), x 8 (by decide), x 9 (by decide)]
    exact y
  · intro w h1 h2
    rw [e4] at h2
    have x := e.2.2.1 w h1 h2
    obtain ⟨y1, y2, y3, y4⟩ := hw w h1 h2
    refine ⟨?_, ?_, ?_, ?_⟩
    · rw [ef _ (by omega), ef _ (by omega), ef _ (by omega), ef _ (by omega), ef _ (by omega), ef _ (by omega), ef _ (by omega), x 0 (by decide), x 1 (by decide), x 2 (by decide), x 3 (by decide), x 4 (by decide), x 5 (by decide), x 7 (by decide)]
      exact y1
    · rw [x 0 (by decide), x 1 (by decide), x 2 (by decide), x 6 (by decide)]; exact y2
    · rw [x 2 (by decide), x 3 (by decide), e3]
      intro q
      obtain ⟨r, a1, a2, a3, a4⟩ := y3 q
      exact ⟨r, a1, a2, a3, by rw [e.2.1 r a2 a3 4 (by decide)]; exact a4⟩
    · rw [x 2 (by decide), x 3 (by decide), x 4 (by decide), x 5 (by decide), x 6 (by decide)]
      intro q
      obtain ⟨z1, z2, z3⟩ := y4 q
      obtain ⟨r, a1, a2, a3, -⟩ := y3 (one_ne q)
      refine ⟨z1, z2, z3.trans ?_⟩
      rw [a1, nI_clamp (by omega)]
      exact (dist_congr (e.2.1 r a2 a3 0 (by decide)) (e.2.1 r a2 a3 1 (by decide)) (e.2.1 r a2 a3 4 (by decide)) _ _).symm
  · intro r h1 h2 c h3
    rw [e3] at h2
    rw [e.2.1 r h1 h2 (8 + c) (by omega), cnt_eq_of (P := onR M r c) (Q := onR N r c) 16 (fun j hj => onR_congr e4 (fun q => e.2.2.1 j hj q))]
    exact hn r h1 h2 c h3
theorem GR.row {M : gM} {f g : Nat → Int32} (h : GR M f) (ef : ∀ k, k < 169 → g k = f k) : GR M g := h.congr ⟨fun _ _ _ => rfl, fun _ _ _ _ _ => rfl, fun _ _ _ _ _ => rfl, fun _ _ _ _ => rfl⟩ ef
-- copies
theorem bc_r {N : gM} : ∀ n k M, n + k = 5 → M.1 3 = N.1 3 → (f_X1_become_l10 N n k M).1 = M.1 ∧ (f_X1_become_l10 N n k M).2.2 = M.2.2 ∧ (∀ r, r < k → (f_X1_become_l10 N n k M).2.1 r = M.2.1 r) ∧ (∀ r, r < 4 → k ≤ r → ¬ N.1 3 ≤ nI r → ∀ j, j < 10 → (f_X1_become_l10 N n k M).2.1 r j = N.2.1 r j) := by
  intro n
  induction n with
  | zero => intro k M hk _; exact ⟨rfl, rfl, fun _ _ => rfl, fun r h1 h2 => by omega⟩
  | succ n ih =>
    intro k M hk e3
    unfold f_X1_become_l10
    simp only [bd_x]
    rw [e3]
    by_cases c : N.1 3 ≤ nI k
    · rw [if_pos c]
      exact ⟨rfl, rfl, fun _ _ => rfl, fun r h1 h2 h3 => absurd (le_mono c h2 (by omega)) h3⟩
    · rw [if_neg c]
      obtain ⟨i1, i2, i3, i4⟩ := ih (k + 1) (f_X5_become M k N) (by omega) e3
      have own : ∀ j, j < 10 → (f_X5_become M k N).2.1 k j = N.2.1 k j := by
        intro j hj
        unfold f_X5_become
        rcases (show j = 0 ∨ j = 1 ∨ j = 2 ∨ j = 3 ∨ j = 4 ∨ j = 5 ∨ j = 6 ∨ j = 7 ∨ j = 8 ∨ j = 9 by omega) with rfl | rfl | rfl | rfl | rfl | rfl | rfl | rfl | rfl | rfl <;> simp [sr, up2, upd]
      have oth : ∀ r, r ≠ k → (f_X5_become M k N).2.1 r = M.2.1 r := by
        intro r hr
        unfold f_X5_become
        simp [sr, up2, hr]
      refine ⟨i1, i2, fun r hr => ?_, fun r h1 h2 h3 j hj => ?_⟩
      · rw [i3 r (by omega), oth r (by omega)]
      · by_cases e : r = k
        · rw [e, i3 k (by omega)]; exact own j hj
        · exact i4 r h1 (by omega) h3 j hj
theorem bc_w {N : gM} : ∀ n k M, n + k = 17 → M.1 4 = N.1 4 → (f_X1_become_l49 N n k M).1 = M.1 ∧ (f_X1_become_l49 N n k M).2.1 = M.2.1 ∧ (f_X1_become_l49 N n k M).2.2.2 = M.2.2.2 ∧ (∀ r, r < k → (f_X1_become_l49 N n k M).2.2.1 r = M.2.2.1 r) ∧ (∀ r, r < 16 → k ≤ r → ¬ N.1 4 ≤ nI r → ∀ j, j < 8 → (f_X1_become_l49 N n k M).2.2.1 r j = N.2.2.1 r j) := by
  intro n
  induction n with
  | zero => intro k M hk _; exact ⟨rfl, rfl, rfl, fun _ _ => rfl, fun r h1 h2 => by omega⟩
  | succ n ih =>
    intro k M hk e4
    unfold f_X1_become_l49
    simp only [bd_x]
    rw [e4]
    by_cases c : N.1 4 ≤ nI k
    · rw [if_pos c]
      exact ⟨rfl, rfl, rfl, fun _ _ => rfl, fun r h1 h2 h3 => absurd (le_mono c h2 (by omega)) h3⟩
    · rw [if_neg c]
      obtain ⟨i1, i2, i5, i3, i4⟩ := ih (k + 1) (f_X6_become M k N) (by omega) e4
      have own : ∀ j, j < 8 → (f_X6_become M k N).2.2.1 k j = N.2.2.1 k j := by
        intro j hj
        unfold f_X6_become
        rcases (show j = 0 ∨ j = 1 ∨ j = 2 ∨ j = 3 ∨ j = 4 ∨ j = 5 ∨ j = 6 ∨ j = 7 by omega) with rfl | rfl | rfl | rfl | rfl | rfl | rfl | rfl <;> simp [sw, up2, upd]
      have oth : ∀ r, r ≠ k → (f_X6_become M k N).2.2.1 r = M.2.2.1 r := by
        intro r hr
        unfold f_X6_become
        simp [sw, up2, hr]
      refine ⟨i1, i2, i5, fun r hr => ?_, fun r h1 h2 h3 j hj => ?_⟩
      · rw [i3 r (by omega), oth r (by omega)]
      · by_cases e : r = k
        · rw [e, i3 k (by omega)]; exact own j hj
        · exact i4 r h1 (by omega) h3 j hj
theorem become_eq (M N : gM) : EQG (f_X1_become M N) N := by
  obtain ⟨a1, a2, -, a4⟩ := bc_r (N := N) 5 0 (sg M 3 (N.1 3)) rfl (show upd M.1 3 (N.1 3) 3 = N.1 3 from upd_eq _ _ _)
  obtain ⟨b1, b2, b3, -, b5⟩ := bc_w (N := N) 17 0 (sg (f_X1_become_l10 N 5 0 (sg M 3 (N.1 3))) 4 (N.1 4)) rfl (show upd (f_X1_become_l10 N 5 0 (sg M 3 (N.1 3))).1 4 (N.1 4) 4 = N.1 4 from upd_eq _ _ _)
  unfold f_X1_become
  simp only [bd_x]
  generalize hP : f_X1_become_l10 N 5 0 (sg M 3 (N.1 3)) = P at a1 a2 a4 b1 b2 b3 b5
  generalize hQ : f_X1_become_l49 N 17 0 (sg P 4 (N.1 4)) = Q at b1 b2 b3 b5
  have p3 : P.1 3 = N.1 3 := by
    rw [a1]
    show upd M.1 3 (N.1 3) 3 = N.1 3
    exact upd_eq _ _ _
  refine ⟨fun k h3 h10 => ?_, fun r h1 h2 j hj => ?_, fun w h1 h2 j hj => ?_, fun c h1 i hi => ?_⟩
  · have q : ∀ k, Q.1 k = upd P.1 4 (N.1 4) k := fun k => by rw [b1]; rfl
    rcases (show k = 3 ∨ k = 4 ∨ k = 5 ∨ k = 6 ∨ k = 7 ∨ k = 8 ∨ k = 9 ∨ k = 10 by omega) with rfl | rfl | rfl | rfl | rfl | rfl | rfl | rfl
    · show upd (upd (upd (upd (upd (upd Q.1 5 (N.1 5)) 6 (N.1 6)) 7 (N.1 7)) 8 (N.1 8)) 9 (N.1 9)) 10 (N.1 10) 3 = _
      rw [upd_ne _ _ (by decide), upd_ne _ _ (by decide), upd_ne _ _ (by decide), upd_ne _ _ (by decide), upd_ne _ _ (by decide), upd_ne _ _ (by decide), q, upd_ne _ _ (by decide)]; exact p3
    · show upd (upd (upd (upd (upd (upd Q.1 5 (N.1 5)) 6 (N.1 6)) 7 (N.1 7)) 8 (N.1 8)) 9 (N.1 9)) 10 (N.1 10) 4 = _
      rw [upd_ne _ _ (by decide), upd_ne _ _ (by decide), upd_ne _ _ (by decide), upd_ne _ _ (by decide), upd_ne _ _ (by decide), upd_ne _ _ (by decide), q, upd_eq]
    · show upd (upd (upd (upd (upd (upd Q.1 5 (N.1 5)) 6 (N.1 6)) 7 (N.1 7)) 8 (N.1 8)) 9 (N.1 9)) 10 (N.1 10) 5 = _
      rw [upd_ne _ _ (by decide), upd_ne _ _ (by decide), upd_ne _ _ (by decide), upd_ne _ _ (by decide), upd_ne _ _ (by decide), upd_eq]
    · show upd (upd (upd (upd (upd (upd Q.1 5 (N.1 5)) 6 (N.1 6)) 7 (N.1 7)) 8 (N.1 8)) 9 (N.1 9)) 10 (N.1 10) 6 = _
      rw [upd_ne _ _ (by decide), upd_ne _ _ (by decide), upd_ne _ _ (by decide), upd_ne _ _ (by decide), upd_eq]
    · show upd (upd (upd (upd (upd (upd Q.1 5 (N.1 5)) 6 (N.1 6)) 7 (N.1 7)) 8 (N.1 8)) 9 (N.1 9)) 10 (N.1 10) 7 = _
      rw [upd_ne _ _ (by decide), upd_ne _ _ (by decide), upd_ne _ _ (by decide), upd_eq]
    · show upd (upd (upd (upd (upd (upd Q.1 5 (N.1 5)) 6 (N.1 6)) 7 (N.1 7)) 8 (N.1 8)) 9 (N.1 9)) 10 (N.1 10) 8 = _
      rw [upd_ne _ _ (by decide), upd_ne _ _ (by decide), upd_eq]
    · show upd (upd (upd (upd (upd (upd Q.1 5 (N.1 5)) 6 (N.1 6)) 7 (N.1 7)) 8 (N.1 8)) 9 (N.1 9)) 10 (N.1 10) 9 = _
      rw [upd_ne _ _ (by decide), upd_eq]
    · show upd (upd (upd (upd (upd (upd Q.1 5 (N.1 5)) 6 (N.1 6)) 7 (N.1 7)) 8 (N.1 8)) 9 (N.1 9)) 10 (N.1 10) 10 = _
      rw [upd_eq]
  · show Q.2.1 r j = _
    rw [b2]
    exact a4 r h1 (Nat.zero_le _) h2 j hj
  · show Q.2.2.1 w j = _
    exact b5 w h1 (Nat.zero_le _) h2 j hj
  · show (f_X0_become (f_X0_become Q 0 N) 1 N).2.2.2 c i = _
    unfold f_X0_become
    rcases (show c = 0 ∨ c = 1 by omega) with rfl | rfl <;> rcases (show i = 0 ∨ i = 1 ∨ i = 2 ∨ i = 3 by omega) with rfl | rfl | rfl | rfl <;> simp [sc, up2, upd]
theorem GR.become {M N : gM} {f : Nat → Int32} (h : GR N f) : GR (f_X1_become M N) f := h.congr (become_eq M N) (fun _ _ => rfl)
/-- only the numbers beside the rinks, the woods and the clubs change -/
theorem GR.scal {M M1 : gM} {f g : Nat → Int32} (h : GR M f) (hM : M1.2 = M.2) (h3 : M1.1 3 = M.1 3) (h4 : M1.1 4 = M.1 4) (hf : ∀ k, 9 ≤ k → g k = f k) (s : g 0 = M1.1 5 ∧ g 1 = M1.1 6 ∧ g 2 = M1.1 7 ∧ g 3 = f 3 ∧ g 4 = f 4 ∧ g 5 = f 5 ∧ g 6 = M1.1 8 ∧ g 7 = M1.1 9 ∧ g 8 = M1.1 10) (v : vp_in (M1.1 6) 10 ∧ vp_in (M1.1 7) 10 ∧ vp_in (M1.1 8) 41) : GR M1 g := by
  obtain ⟨g1, m2⟩ := M1
  obtain ⟨g0, m0⟩ := M
  change m2 = m0 at hM
  subst hM
  change g1 3 = g0 3 at h3
  change g1 4 = g0 4 at h4
  obtain ⟨⟨s0, s1, s2, s3, s4, s5, s6, s7, s8⟩, hc, ⟨v3, v4, v6, v7, v8, vc⟩, hr, hw, hn⟩ := h
  refine ⟨⟨s.1, s.2.1, s.2.2.1, ?_, ?_, ?_, s.2.2.2.2.2.2.1, s.2.2.2.2.2.2.2.1, s.2.2.2.2.2.2.2.2⟩, ?_, ⟨?_, ?_, v.1, v.2.1, v.2.2, vc⟩, ?_, ?_, ?_⟩
  · show g 3 = g1 3
    rw [s.2.2.2.1, h3]; exact s3
  · show g 4 = g1 4
    rw [s.2.2.2.2.1, h4]; exact s4
  · rw [s.2.2.2.2.2.1, s5]
    exact (bowled_congr (M := (g1, m2)) (N := (g0, m2)) h4 v4 (fun _ _ _ => rfl) 17 0 0 rfl).symm
  · intro c h1 i h2
    rw [hf _ (by omega)]; exact hc c h1 i h2
  · show vp_in (g1 3) 5
    rw [h3]; exact v3
  · show vp_in (g1 4) 17
    rw [h4]; exact v4
  · intro r h1 h2
    change ¬ g1 3 ≤ nI r at h2
    rw [h3] at h2
    have y := hr r h1 h2
    unfold RR at y ⊢
    rw [hf _ (by omega), hf _ (by omega), hf _ (by omega), hf _ (by omega), hf _ (by omega), hf _ (by omega), hf _ (by omega), hf _ (by omega), hf _ (by omega), hf _ (by omega)]
    exact y
  · intro w h1 h2
    change ¬ g1 4 ≤ nI w at h2
    rw [h4] at h2
    obtain ⟨y1, y2, y3, y4⟩ := hw w h1 h2
    refine ⟨?_, y2, ?_, y4⟩
    · rw [hf _ (by omega), hf _ (by omega), hf _ (by omega), hf _ (by omega), hf _ (by omega), hf _ (by omega), hf _ (by omega)]
      exact y1
    · intro q
      obtain ⟨r, a1, a2, a3, a4⟩ := y3 q
      exact ⟨r, a1, a2, by show ¬ g1 3 ≤ nI r; rw [h3]; exact a3, a4⟩
  · intro r h1 h2 c h3'
    change ¬ g1 3 ≤ nI r at h2
    rw [h3] at h2
    rw [cnt_eq_of (P := onR (g1, m2) r c) (Q := onR (g0, m2) r c) 16 (fun j hj => onR_congr h4 (fun _ _ _ => rfl))]
    exact hn r h1 h2 c h3'
/-- one rink changes, its strings not; its jack only where no wood is bowled on it -/
theorem GR.rink {M M1 : gM} {f g : Nat → Int32} {r : Nat} (h : GR M f) (hr : r < 4) (h1 : M1.1 = M.1) (h2 : M1.2.2 = M.2.2) (ho : ∀ q, q ≠ r → M1.2.1 q = M.2.1 q) (hf : ∀ k, k < 169 → ¬ (17 + 10 * r ≤ k ∧ k < 17 + 10 * r + 10) → g k = f k)
    (hR : RR M1 g r) (e0 : M1.2.1 r 0 = M.2.1 r 0) (e1 : M1.2.1 r 1 = M.2.1 r 1) (hj : (M1.2.1 r 4 = M.2.1 r 4) ∨ ∀ w, w < 16 → ¬ M.1 4 ≤ nI w → M.2.2.1 w 2 ≠ 0 → M.2.2.1 w 3 ≠ nI r) (hcn : ∀ c, c < 2 → cnt (onR M r c) 16 ≤ (M1.2.1 r (8 + c)).toNatClampNeg) : GR M1 g := by
  obtain ⟨g1, r1, m2⟩ := M1
  obtain ⟨g0, r0, m0⟩ := M
  change g1 = g0 at h1
  change m2 = m0 at h2
  subst h1
  subst h2
  obtain ⟨⟨s0, s1, s2, s3, s4, s5, s6, s7, s8⟩, hc, ⟨v3, v4, v6, v7, v8, vc⟩, hrr, hw, hn⟩ := h
  have nf : ∀ k, k < 17 → g k = f k := fun k hk => hf k (by omega) (by omega)
  have nw : ∀ k, 57 ≤ k → k < 169 → g k = f k := fun k hk h9 => hf k h9 (by omega)
  refine ⟨⟨?_, ?_, ?_, ?_, ?_, ?_, ?_, ?_, ?_⟩, ?_, ⟨v3, v4, v6, v7, v8, vc⟩, ?_, ?_, ?_⟩
  · rw [nf _ (by decide)]; exact s0
  · rw [nf _ (by decide)]; exact s1
  · rw [nf _ (by decide)]; exact s2
  · rw [nf _ (by decide)]; exact s3
  · rw [nf _ (by decide)]; exact s4
  · rw [nf _ (by decide), s5]
    exact (bowled_congr (M := (g1, r1, m2)) (N := (g1, r0, m2)) rfl v4 (fun _ _ _ => rfl) 17 0 0 rfl).symm
  · rw [nf _ (by decide)]; exact s6
  · rw [nf _ (by decide)]; exact s7
  · rw [nf _ (by decide)]; exact s8
  · intro c hc1 i hi
    rw [nf _ (by omega)]; exact hc c hc1 i hi
  · intro q hq hqc
    by_cases e : q = r
    · rw [e]; exact hR
    · have y := hrr q hq hqc
      have z := ho q e
      change r1 q = r0 q at z
      unfold RR at y ⊢
      have w : ∀ j, j < 10 → g (17 + 10 * q + j) = f (17 + 10 * q + j) := fun j hj => hf _ (by omega) (by omega)
      rw [w 0 (by decide), w 1 (by decide), w 2 (by decide), w 3 (by decide), w 4 (by decide), w 5 (by decide), w 6 (by decide), w 7 (by decide), w 8 (by decide), w 9 (by decide)]
      show _ ∧ _
      simp only [z]
      exact y
  · intro w h1 h2
    obtain ⟨y1, y2, y3, y4⟩ := hw w h1 h2
    refine ⟨?_, y2, ?_, ?_⟩
    · rw [nw _ (by omega) (by omega), nw _ (by omega) (by omega), nw _ (by omega) (by omega), nw _ (by omega) (by omega), nw _ (by omega) (by omega), nw _ (by omega) (by omega), nw _ (by omega) (by omega)]
      exact y1
    · intro q
      obtain ⟨p, a1, a2, a3, a4⟩ := y3 q
      refine ⟨p, a1, a2, a3, ?_⟩
      by_cases e : p = r
      · subst e
        rcases hj with x | x
        · change r1 p 4 = r0 p 4 at x
          show r1 p 4 ≠ 0
          rw [x]; exact a4
        · exact absurd a1 (x w h1 h2 q)
      · have z := ho p e
        change r1 p = r0 p at z
        show r1 p 4 ≠ 0
        rw [z]; exact a4
    · intro q
      obtain ⟨z1, z2, z3⟩ := y4 q
      obtain ⟨p, a1, a2, a3, -⟩ := y3 (one_ne q)
      refine ⟨z1, z2, z3.trans ?_⟩
      change m2.1 w 3 = nI p at a1
      show f_X5_distance (g1, r0, m2) (m2.1 w 3).toNatClampNeg _ _ = f_X5_distance (g1, r1, m2) (m2.1 w 3).toNatClampNeg _ _
      rw [a1, nI_clamp (by omega)]
      by_cases e : p = r
      · subst e
        rcases hj with x | x
        · exact (dist_congr (M := (g1, r1, m2)) (N := (g1, r0, m2)) e0 e1 x _ _).symm
        · exact absurd a1 (x w h1 h2 (one_ne q))
      · have z := ho p e
        change r1 p = r0 p at z
        exact (dist_congr (M := (g1, r1, m2)) (N := (g1, r0, m2)) (congrFun z 0) (congrFun z 1) (congrFun z 4) _ _).symm
  · intro q hq hqc c hc1
    have ec : cnt (onR (g1, r1, m2) q c) 16 = cnt (onR (g1, r0, m2) q c) 16 := rfl
    rw [ec]
    by_cases e : q = r
    · rw [e]; exact hcn c hc1
    · have z := ho q e
      change r1 q = r0 q at z
      show _ ≤ (r1 q (8 + c)).toNatClampNeg
      rw [z]
      exact hn q hq hqc c hc1
