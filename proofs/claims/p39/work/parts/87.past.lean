/-! ===== pure: undo, save, restore, clear, brew ===== -/
section PA
variable {G : Nat → gM} {M N : gM} {f : Nat → Int32} {X Y X1 Y1 : Nat → Int32} {A B A1 B1 : Nat → Nat → Int32} {a : Int32}
/-- an order of both, whose class keeps its greens and its lists -/
def CHH (G : Nat → gM) (X : Nat → Int32) (A : Nat → Nat → Int32) (Y : Nat → Int32) (B : Nat → Nat → Int32) (z : Int32 × gM × (Nat → Int32)) (w : Int32 × (Nat → Int32) × (Nat → Nat → Int32)) : Prop :=
  z.1 = w.1 ∧ RLL G z.2.1 z.2.2 A w.2.1 w.2.2 ∧ FRL X z.2.2 A A Y w.2.1 B w.2.2
theorem C_undo (h : RLL G M X A Y B) : CHH G X A Y B (f_X7_undo G M X A) (f_X8_undo Y B) := by
  have h0 := h
  obtain ⟨g, s, ⟨fr, n, hf, hn, e2, e3, ey, hr⟩, v, e1⟩ := h
  unfold f_X7_undo f_X8_undo
  simp only [bd_x]
  by_cases c : n = 0
  · subst c
    rw [if_pos (show X 3 = 0 from e3), if_pos (show Y 3 = 0 from ey)]
    exact ⟨rfl, h0, fun _ _ _ _ => rfl, fun _ _ _ => rfl, fun _ _ _ _ => rfl, fun _ _ _ _ _ => rfl, fun _ q => q⟩
  · have nz : ¬ nI n = 0 := nI_ne0 (by omega) (by omega)
    rw [if_neg (by rw [e3]; exact nz), if_neg (by rw [ey]; exact nz)]
    unfold f_X3_takeBack
    simp only [bd_x]
    have ep : nI n - 1 = nI (n - 1) := by
      rw [show (1 : Int32) = nI 1 from rfl, pk_sub (by omega)]
    have y3 : (upd Y 3 (Y 3 - 1) 3) = nI (n - 1) := by rw [upd_eq, ey, ep]
    have x3 : upd (upd X 2 (X 2 + 9 - 1 - (X 2 + 9 - 1) / 9 * 9)) 3 (upd X 2 (X 2 + 9 - 1 - (X 2 + 9 - 1) / 9 * 9) 3 - 1) 3 = nI (n - 1) := by
      rw [upd_eq, upd_ne _ _ (by decide), e3, ep]
    have x2 : upd (upd X 2 (X 2 + 9 - 1 - (X 2 + 9 - 1) / 9 * 9)) 3 (upd X 2 (X 2 + 9 - 1 - (X 2 + 9 - 1) / 9 * 9) 3 - 1) 2 = nI ((fr + 8) % 9) := by
      rw [upd_ne _ _ (by decide), upd_eq, e2]
      rcases (show fr = 0 ∨ fr = 1 ∨ fr = 2 ∨ fr = 3 ∨ fr = 4 ∨ fr = 5 ∨ fr = 6 ∨ fr = 7 ∨ fr = 8 by omega) with rfl | rfl | rfl | rfl | rfl | rfl | rfl | rfl | rfl <;> decide
    have xo : ∀ k, k ≠ 2 → k ≠ 3 → upd (upd X 2 (X 2 + 9 - 1 - (X 2 + 9 - 1) / 9 * 9)) 3 (upd X 2 (X 2 + 9 - 1 - (X 2 + 9 - 1) / 9 * 9) 3 - 1) k = X k := fun k a b => (upd_ne _ _ b).trans (upd_ne _ _ a)
    have yo : ∀ k, k ≠ 3 → upd Y 3 (Y 3 - 1) k = Y k := fun k a => upd_ne _ _ a
    obtain ⟨u1, u2⟩ := cp_undo (Y := Y) 170 0 B rfl
    rw [y3, nI_clamp (by omega)] at u2
    generalize upd (upd X 2 (X 2 + 9 - 1 - (X 2 + 9 - 1) / 9 * 9)) 3 (upd X 2 (X 2 + 9 - 1 - (X 2 + 9 - 1) / 9 * 9) 3 - 1) = X1 at x3 x2 xo ⊢
    generalize f_X8_undo_l22 Y 170 0 B = B1 at u1 u2 ⊢
    generalize upd Y 3 (Y 3 - 1) = Y1 at y3 yo ⊢
    rw [x2, nI_clamp (by omega)]
    have old := hr (n - 1) (by omega)
    rw [show (fr + 9 - n + (n - 1)) % 9 = (fr + 8) % 9 by omega] at old
    unfold CHH RLL FRL
    dsimp only
    refine ⟨x3.trans y3.symm, ⟨?_, ?_, ⟨(fr + 8) % 9, n - 1, by omega, by omega, x2, x3, y3, fun i hi => ?_⟩, ?_, ?_⟩, fun k a b _ => xo k a b, fun _ _ _ => rfl, fun k a _ _ => yo k a, fun k a _ _ _ => u1 k a, fun _ hs => ⟨?_, ?_, fun i hi => ?_⟩⟩
    · refine (old.become).row (fun k hk => ?_)
      rw [u2, if_pos ⟨Nat.zero_le _, hk⟩]
    · exact s.far (xo 6 (by decide) (by decide)) (fun _ _ => rfl) (yo 16 (by decide)) (u1 7 (by decide))
    · show GR (G (2 + ((fr + 8) % 9 + 9 - (n - 1) + i) % 9)) (fun k => B1 2 (169 * i + k))
      rw [show ((fr + 8) % 9 + 9 - (n - 1) + i) % 9 = (fr + 9 - n + i) % 9 by omega, u1 2 (by decide)]
      exact hr i (by omega)
    · rw [xo 0 (by decide) (by decide), yo 5 (by decide), u1 3 (by decide)]; exact v
    · rw [xo 1 (by decide) (by decide), yo 14 (by decide)]; exact e1
    · rw [y3]; exact vp_in_nI (by omega) (by decide)
    · rw [yo 5 (by decide), u1 3 (by decide)]; exact hs.2.1
    · rw [y3, nI_clamp (by omega)] at hi
      rw [u1 2 (by decide)]
      exact hs.2.2 i (by rw [ey, nI_clamp (by omega)]; omega)
theorem M_undo (h : RMs Y B) (h0 : MR (B 0)) : MR ((f_X8_undo Y B).2.2 0) := by
  obtain ⟨n, hn, ey⟩ := vp_in_of h.1 (by decide)
  unfold f_X8_undo
  simp only [bd_x]
  by_cases c : n = 0
  · subst c
    rw [if_pos (show Y 3 = 0 from ey)]
    exact h0
  · rw [if_neg (by rw [ey]; exact nI_ne0 (by omega) (by omega))]
    have ep : nI n - 1 = nI (n - 1) := by
      rw [show (1 : Int32) = nI 1 from rfl, pk_sub (by omega)]
    have y3 : (upd Y 3 (Y 3 - 1) 3) = nI (n - 1) := by rw [upd_eq, ey, ep]
    obtain ⟨u1, u2⟩ := cp_undo (Y := Y) 170 0 B rfl
    rw [y3, nI_clamp (by omega)] at u2
    generalize f_X8_undo_l22 Y 170 0 B = B1 at u1 u2 ⊢
    refine (h.2.2 (n - 1) (by rw [ey, nI_clamp (by omega)]; omega)).row (fun k hk => ?_)
    show B1 0 k = _
    rw [u2, if_pos ⟨Nat.zero_le _, hk⟩]
theorem M_restore (h : RMs Y B) (h0 : MR (B 0)) : MR ((f_X8_restore Y B).2.2 0) := by
  unfold f_X8_restore
  simp only [bd_x]
  by_cases c : Y 5 = 0
  · rw [if_pos c]; exact h0
  · rw [if_neg c]
    obtain ⟨u1, u2⟩ := cp_rest (Y := Y) 170 0 B rfl
    generalize f_X8_restore_l12 Y 170 0 B = B1 at u1 u2 ⊢
    refine (h.2.1.resolve_left c).row (fun k hk => ?_)
    show B1 0 k = _
    rw [u2, if_pos ⟨Nat.zero_le _, hk⟩]
theorem M_save (h : RMs Y B) (h0 : MR (B 0)) : RMs (f_X8_save Y B).2.1 (f_X8_save Y B).2.2 ∧ MR ((f_X8_save Y B).2.2 0) := by
  unfold f_X8_save
  simp only [bd_x]
  obtain ⟨u1, u2⟩ := cp_save (Y := Y) 170 0 B rfl
  generalize f_X8_save_l7 Y 170 0 B = B1 at u1 u2 ⊢
  refine ⟨⟨?_, Or.inr ?_, fun i hi => ?_⟩, ?_⟩
  · show vp_in (upd Y 5 1 3) 9
    rw [upd_ne _ _ (by decide)]; exact h.1
  · refine h0.row (fun k hk => ?_)
    show B1 3 k = _
    rw [u2, if_pos ⟨Nat.zero_le _, hk⟩]
  · have e : upd Y 5 1 3 = Y 3 := upd_ne _ _ (by decide)
    change i < (upd Y 5 1 3).toNatClampNeg at hi
    rw [e] at hi
    show MR (fun k => B1 2 (169 * i + k))
    rw [u1 2 (by decide)]; exact h.2.2 i hi
  · show MR (B1 0)
    rw [u1 0 (by decide)]; exact h0
/-- save -/
theorem C_save (h : RLL G M X A Y B) : (f_X7_save G M X A).1 = (f_X8_save Y B).1 ∧ RLL (f_X7_save G M X A).2.1 M (f_X7_save G M X A).2.2 A (f_X8_save Y B).2.1 (f_X8_save Y B).2.2 ∧ (∀ k, k ≠ 0 → (f_X7_save G M X A).2.2 k = X k) ∧ (∀ k, k ≠ 5 → (f_X8_save Y B).2.1 k = Y k) ∧ (∀ k, k ≠ 3 → (f_X8_save Y B).2.2 k = B k) := by
  obtain ⟨g, s, ⟨fr, n, hf, hn, e2, e3, ey, hr⟩, v, e1⟩ := h
  unfold f_X7_save f_X8_save
  simp only [bd_x]
  obtain ⟨u1, u2⟩ := cp_save (Y := Y) 170 0 B rfl
  generalize f_X8_save_l7 Y 170 0 B = B1 at u1 u2 ⊢
  have xo : ∀ k, k ≠ 0 → upd X 0 1 k = X k := fun k a => upd_ne _ _ a
  have yo : ∀ k, k ≠ 5 → upd Y 5 1 k = Y k := fun k a => upd_ne _ _ a
  unfold RLL
  refine ⟨?_, ⟨?_, ?_, ⟨fr, n, hf, hn, (xo 2 (by decide)).trans e2, (xo 3 (by decide)).trans e3, (yo 3 (by decide)).trans ey, fun i hi => ?_⟩, Or.inr ⟨upd_eq _ _ _, upd_eq _ _ _, ?_⟩, ?_⟩, xo, yo, u1⟩
  · rw [u1 0 (by decide)]; exact g.1.1.symm
  · rw [u1 0 (by decide)]; exact g
  · exact s.far (xo 6 (by decide)) (fun _ _ => rfl) (yo 16 (by decide)) (u1 7 (by decide))
  · show GR (if 2 + (fr + 9 - n + i) % 9 = 1 then _ else G (2 + (fr + 9 - n + i) % 9)) (fun k => B1 2 (169 * i + k))
    rw [if_neg (by omega), u1 2 (by decide)]
    exact hr i hi
  · show GR (if 1 = 1 then _ else _) _
    rw [if_pos rfl]
    refine (g.become).row (fun k hk => ?_)
    rw [u2, if_pos ⟨Nat.zero_le _, hk⟩]
  · exact (xo 1 (by decide)).trans (e1.trans (yo 14 (by decide)).symm)
/-- the past is forgotten -/
theorem RG.forget (h : RG G X Y (B 2)) {R : Nat → Int32} : RG G (upd X 3 0) (upd Y 3 0) R := by
  obtain ⟨fr, n, hf, hn, e2, e3, ey, hr⟩ := h
  exact ⟨fr, 0, hf, by decide, (upd_ne _ _ (by decide)).trans e2, upd_eq _ _ _, upd_eq _ _ _, fun i hi => absurd hi (Nat.not_lt_zero _)⟩
theorem C_restore (h : RLL G M X A Y B) : CHH G X A Y B (f_X7_restore G M X A) (f_X8_restore Y B) := by
  have h0 := h
  obtain ⟨g, s, r, v, e1⟩ := h
  unfold f_X7_restore f_X8_restore f_X3_forget
  simp only [bd_x]
  rcases v with ⟨v1, v2⟩ | ⟨v1, v2, v3⟩
  · rw [if_pos v1, if_pos v2]
    exact ⟨rfl, h0, fun _ _ _ _ => rfl, fun _ _ _ => rfl, fun _ _ _ _ => rfl, fun _ _ _ _ _ => rfl, fun _ q => q⟩
  · rw [if_neg (by rw [v1]; decide), if_neg (by rw [v2]; decide)]
    obtain ⟨u1, u2⟩ := cp_rest (Y := Y) 170 0 B rfl
    generalize f_X8_restore_l12 Y 170 0 B = B1 at u1 u2 ⊢
    have gg : GR (f_X1_become M (G 1)) (B1 0) := (v3.become).row (fun k hk => (u2 k).trans (if_pos ⟨Nat.zero_le _, hk⟩))
    have xo : ∀ k, k ≠ 3 → upd X 3 0 k = X k := fun k a => upd_ne _ _ a
    have yo : ∀ k, k ≠ 3 → upd Y 3 0 k = Y k := fun k a => upd_ne _ _ a
    unfold CHH RLL FRL
    dsimp only
    refine ⟨gg.1.1.symm, ⟨gg, ?_, r.forget, Or.inr ⟨(xo 0 (by decide)).trans v1, (yo 5 (by decide)).trans v2, ?_⟩, ?_⟩, fun k _ a _ => xo k a, fun _ _ _ => rfl, fun k a _ _ => yo k a, fun k a _ _ _ => u1 k a, fun _ hs => ⟨?_, ?_, fun i hi => ?_⟩⟩
    · exact s.far (xo 6 (by decide)) (fun _ _ => rfl) (yo 16 (by decide)) (u1 7 (by decide))
    · rw [u1 3 (by decide)]; exact v3
    · exact (xo 1 (by decide)).trans (e1.trans (yo 14 (by decide)).symm)
    · rw [show upd Y 3 0 3 = 0 from upd_eq _ _ _]; exact vp_in_nI (n := 0) (by decide) (by decide)
    · rw [yo 5 (by decide), u1 3 (by decide)]; exact hs.2.1
    · rw [show upd Y 3 0 3 = 0 from upd_eq _ _ _] at hi; exact absurd hi (Nat.not_lt_zero _)
theorem cp_begin : ∀ n k (A : Nat → Nat → Int32), n + k = 170 → (∀ j, j ≠ 0 → f_X8_begins_l2 Y n k A j = A j) ∧ (∀ i, f_X8_begins_l2 Y n k A 0 i = if k ≤ i ∧ i < 169 then 0 else A 0 i) := by
  intro n
  induction n with
  | zero => intro k A hk; exact ⟨fun _ _ => rfl, fun i => (if_neg (by omega)).symm⟩
  | succ n ih =>
    intro k A hk
    unfold f_X8_begins_l2
    by_cases c : 169 ≤ k
    · rw [if_pos ((cp169 (by omega)).mpr c)]
      exact ⟨fun _ _ => rfl, fun i => (if_neg (by omega)).symm⟩
    · rw [if_neg (fun q => c ((cp169 (by omega)).mp q))]
      obtain ⟨i1, i2⟩ := ih (k + 1) (up2 A 0 k 0) (by omega)
      refine ⟨fun j hj => (i1 j hj).trans (up2_ne _ _ _ hj), fun i => (i2 i).trans ?_⟩
      by_cases e : i = k
      · subst e
        rw [if_neg (by omega), if_pos (by omega), up2_eq, upd_eq]
      · rw [up2_eq, upd_ne _ _ e]
        by_cases g : k ≤ i ∧ i < 169
        · rw [if_pos g, if_pos (by omega)]
        · rw [if_neg g, if_neg (by omega)]
theorem begins_row : (∀ j, j ≠ 0 → f_X8_begins Y B j = B j) ∧ ∀ i, i < 169 → f_X8_begins Y B 0 i = if i = 1 then 1 else if i = 2 then 2 else if i = 6 then 12 else if i = 11 then 10 else if i = 15 then 10 else 0 := by
  obtain ⟨u1, u2⟩ := cp_begin (Y := Y) 170 0 B rfl
  unfold f_X8_begins
  simp only [bd_x]
  generalize f_X8_begins_l2 Y 170 0 B = S at u1 u2 ⊢
  refine ⟨fun j hj => ?_, fun i hi => ?_⟩
  · simp only [up2_ne _ _ _ hj]; exact u1 j hj
  · simp only [up2_eq]
    unfold upd
    rw [u2, if_pos (show 0 ≤ i ∧ i < 169 from ⟨Nat.zero_le _, hi⟩)]
    by_cases c1 : i = 1
    · subst c1; rfl
    by_cases c2 : i = 2
    · subst c2; rfl
    by_cases c6 : i = 6
    · subst c6; rfl
    by_cases c11 : i = 11
    · subst c11; rfl
    by_cases c15 : i = 15
    · subst c15; rfl
    simp only [if_neg c1, if_neg c2, if_neg c6, if_neg c11, if_neg c15]
/-- a green that begins, and the row that begins -/
theorem GR.reset (hg : ∀ i, i < 169 → f i = if i = 1 then 1 else if i = 2 then 2 else if i = 6 then 12 else if i = 11 then 10 else if i = 15 then 10 else 0) : GR (f_X1_reset M) f := by
  have m1 : (f_X1_reset M).1 = upd (upd (upd (upd (upd (upd (upd (upd M.1 3 0) 4 0) 5 0) 6 1) 7 2) 8 12) 9 0) 10 0 := by
    unfold f_X1_reset f_X0_reset
    simp only [bd_x]
    rfl
  have mc : ∀ c, c < 2 → ∀ i, i < 4 → (f_X1_reset M).2.2.2 c i = if i = 2 then 10 else 0 := by
    intro c hc i hi
    unfold f_X1_reset f_X0_reset
    simp only [bd_x]
    rcases (show c = 0 ∨ c = 1 by omega) with rfl | rfl <;> rcases (show i = 0 ∨ i = 1 ∨ i = 2 ∨ i = 3 by omega) with rfl | rfl | rfl | rfl <;> simp [sc, sg, up2, upd]
  have n3 : (f_X1_reset M).1 3 = 0 := by rw [m1]; simp [upd]
  have n4 : (f_X1_reset M).1 4 = 0 := by rw [m1]; simp [upd]
  refine ⟨⟨?_, ?_, ?_, ?_, ?_, ?_, ?_, ?_, ?_⟩, fun c hc i hi => ?_, ⟨?_, ?_, ?_, ?_, ?_, fun c hc => ?_⟩, fun r _ hr => ?_, fun w _ hw => ?_, fun r _ hr => ?_⟩
  · rw [hg 0 (by decide), m1]; simp [upd]
  · rw [hg 1 (by decide), m1]; simp [upd]
  · rw [hg 2 (by decide), m1]; simp [upd]
  · rw [hg 3 (by decide), n3]; rfl
  · rw [hg 4 (by decide), n4]; rfl
  · have hb : f_X1_woodsBowled (f_X1_reset M) = 0 := by
      unfold f_X1_woodsBowled
      rw [bd_x]
      unfold f_X1_woodsBowled_l4
      rw [n4]
      exact if_pos (by decide)
    rw [hb, hg 5 (by decide)]
    rfl
  · rw [hg 6 (by decide), m1]; simp [upd]
  · rw [hg 7 (by decide), m1]; simp [upd]
  · rw [hg 8 (by decide), m1]; simp [upd]
  · rw [mc c hc i hi, hg _ (by omega)]
    rcases (show c = 0 ∨ c = 1 by omega) with rfl | rfl <;> rcases (show i = 0 ∨ i = 1 ∨ i = 2 ∨ i = 3 by omega) with rfl | rfl | rfl | rfl <;> rfl
  · rw [n3]; exact vp_in_nI (n := 0) (by decide) (by decide)
  · rw [n4]; exact vp_in_nI (n := 0) (by decide) (by decide)
  · rw [m1]; simp [upd]; exact vp_in_nI (n := 1) (by decide) (by decide)
  · rw [m1]; simp [upd]; exact vp_in_nI (n := 2) (by decide) (by decide)
  · rw [m1]; simp [upd]; exact vp_in_nI (n := 12) (by decide) (by decide)
  · rw [mc c hc 2 (by decide), mc c hc 3 (by decide)]
    exact ⟨vp_in_nI (n := 10) (by decide) (by decide), by decide⟩
  · rw [n3] at hr
    exact absurd (show (0 : Int32) ≤ nI r from Int32.not_lt.mp (nI_pos (by omega))) hr
  · rw [n4] at hw
    exact absurd (show (0 : Int32) ≤ nI w from Int32.not_lt.mp (nI_pos (by omega))) hw
  · rw [n3] at hr
    exact absurd (show (0 : Int32) ≤ nI r from Int32.not_lt.mp (nI_pos (by omega))) hr
theorem C_clear (h : RLL G M X A Y B) : CHH G X A Y B (f_X7_clear M X A) (f_X8_clear Y B) := by
  obtain ⟨g, s, r, v, e1⟩ := h
  unfold f_X7_clear f_X8_clear f_X3_forget
  simp only [bd_x]
  obtain ⟨u1, u2⟩ := begins_row (Y := Y) (B := B)
  generalize f_X8_begins Y B = B1 at u1 u2 ⊢
  have xo : ∀ k, k ≠ 3 → upd X 3 0 k = X k := fun k a => upd_ne _ _ a
  have yo : ∀ k, k ≠ 3 → upd Y 3 0 k = Y k := fun k a => upd_ne _ _ a
  unfold CHH RLL FRL
  dsimp only
  refine ⟨g.1.1.symm, ⟨GR.reset u2, ?_, r.forget, ?_, ?_⟩, fun k _ a _ => xo k a, fun _ _ _ => rfl, fun k a _ _ => yo k a, fun k a _ _ _ => u1 k a, fun _ hs => ⟨?_, ?_, fun i hi => ?_⟩⟩
  · exact s.far (xo 6 (by decide)) (fun _ _ => rfl) (yo 16 (by decide)) (u1 7 (by decide))
  · rw [xo 0 (by decide), yo 5 (by decide), u1 3 (by decide)]; exact v
  · exact (xo 1 (by decide)).trans (e1.trans (yo 14 (by decide)).symm)
  · rw [show upd Y 3 0 3 = 0 from upd_eq _ _ _]; exact vp_in_nI (n := 0) (by decide) (by decide)
  · rw [yo 5 (by decide), u1 3 (by decide)]; exact hs.2.1
  · rw [show upd Y 3 0 3 = 0 from upd_eq _ _ _] at hi; exact absurd hi (Nat.not_lt_zero _)
theorem M_clear : MR ((f_X8_clear Y B).2.2 0) := by
  unfold f_X8_clear
  simp only [bd_x]
  obtain ⟨u1, u2⟩ := begins_row (Y := Y) (B := B)
  show MR (f_X8_begins Y B 0)
  have z : ∀ i, i < 169 → 17 ≤ i → f_X8_begins Y B 0 i = 0 := fun i hi h17 => by
    rw [u2 i hi, if_neg (by omega), if_neg (by omega), if_neg (by omega), if_neg (by omega), if_neg (by omega)]
  refine ⟨?_, ?_, fun w hw => ?_, fun w hw => ?_⟩
  · rw [u2 3 (by decide)]; exact vp_in_nI (n := 0) (by decide) (by decide)
  · rw [u2 4 (by decide)]; exact vp_in_nI (n := 0) (by decide) (by decide)
  · rw [z _ (by omega) (by omega)]; exact vp_in_nI (n := 0) (by decide) (by decide)
  · rw [z _ (by omega) (by omega)]; exact vp_in_nI (n := 0) (by decide) (by decide)
end PA
