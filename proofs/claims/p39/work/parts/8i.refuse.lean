section SR
variable {M : gM} {X Y : Nat → Int32} {A B : Nat → Nat → Int32} {t : Nat → Nat} {n : Nat}
theorem shift_l {p q : Int32} : ∀ m f B, m < f → m < 1000 → (∀ k, k ≠ 7 → (f_X8_refusesBy_l9 Y p q f (nI m - 1) B).2 k = B k) ∧ ∀ j, (f_X8_refusesBy_l9 Y p q f (nI m - 1) B).2 7 j = if 2 ≤ j ∧ j < m + 2 then B 7 (j - 2) else B 7 j := by
  intro m
  induction m with
  | zero =>
    intro f B hf hm
    obtain ⟨f, rfl⟩ : ∃ g, f = g + 1 := ⟨f - 1, by omega⟩
    unfold f_X8_refusesBy_l9
    rw [if_pos (show nI 0 - 1 < 0 by decide)]
    exact ⟨fun _ _ => rfl, fun j => (if_neg (by omega)).symm⟩
  | succ m ih =>
    intro f B hf hm
    obtain ⟨f, rfl⟩ : ∃ g, f = g + 1 := ⟨f - 1, by omega⟩
    unfold f_X8_refusesBy_l9
    rw [nI_pred, if_neg (nI_pos (by omega)), nI_clamp (by omega), ← Int32.sub_eq_add_neg]
    obtain ⟨i1, i2⟩ := ih f (up2 B 7 (m + 2) (B 7 m)) (by omega) (by omega)
    refine ⟨fun k hk => (i1 k hk).trans (up2_ne _ _ _ hk), fun j => (i2 j).trans ?_⟩
    rw [up2_eq]
    by_cases e : j = m + 2
    · subst e
      rw [if_neg (by omega), if_pos (by omega), upd_eq, Nat.add_sub_cancel]
    · rw [upd_ne _ _ e]
      by_cases g : 2 ≤ j ∧ j < m + 2
      · rw [if_pos g, if_pos (by omega), upd_ne _ _ (by omega)]
      · rw [if_neg g, if_neg (by omega)]
/-- a script is refused -/
theorem script_ref {p2 q : Int32} (hS : RS X A Y B) (h3 : p2 = -3 → RSd X 2) : (f_X7_refuseScript M X A q p2).1 = -3 ∧ FC X (f_X7_refuseScript M X A q p2).2.1 ∧ FA A (f_X7_refuseScript M X A q p2).2.2 ∧
    (p2 = -3 → (f_X8_refusesBy Y B 12 q).1 = -3 ∧ FXm Y (f_X8_refusesBy Y B 12 q).2.1 ∧ (∀ k, k ≠ 7 → (f_X8_refusesBy Y B 12 q).2.2 k = B k) ∧ RS (f_X7_refuseScript M X A q p2).2.1 (f_X7_refuseScript M X A q p2).2.2 (f_X8_refusesBy Y B 12 q).2.1 (f_X8_refusesBy Y B 12 q).2.2) ∧
    (p2 ≠ -3 → (f_X8_refuses Y B 12 q).1 = -3 ∧ FXm Y (f_X8_refuses Y B 12 q).2.1 ∧ (∀ k, k ≠ 7 → (f_X8_refuses Y B 12 q).2.2 k = B k) ∧ RS (f_X7_refuseScript M X A q p2).2.1 (f_X7_refuseScript M X A q p2).2.2 (f_X8_refuses Y B 12 q).2.1 (f_X8_refuses Y B 12 q).2.2) := by
  by_cases c : p2 = -3
  · obtain ⟨d, hd, e6⟩ := h3 c
    obtain ⟨d', hd', e6', e16, hr⟩ := hS
    have : d' = d := (nI_eq (by omega) (by omega)).mp (e6'.symm.trans e6)
    subst this
    have er : f_X7_refuseScript M X A q p2 = (-3, upd X 6 (nI (d' + 1)), up2 (up2 A 2 d' 12) 3 d' q) := by
      unfold f_X7_refuseScript f_X4_put
      simp only [bd_x]
      rw [if_pos c, e6, if_neg (show ¬ (3 : Int32) ≤ nI d' from nI_ge (b := 3) (by omega) (by decide)), nI_clamp (by omega), nI_1]
    have e2 : 2 * nI d' - 1 = nI (2 * d') - 1 := by
      rcases (show d' = 0 ∨ d' = 1 ∨ d' = 2 by omega) with rfl | rfl | rfl <;> decide
    obtain ⟨s1, s2⟩ := shift_l (Y := Y) (p := 12) (q := q) (2 * d') 5 B (by omega) (by omega)
    have eb : f_X8_refusesBy Y B 12 q = (-3, upd Y 16 (nI (d' + 1)), up2 (up2 (f_X8_refusesBy_l9 Y 12 q 5 (nI (2 * d') - 1) B).2 7 0 12) 7 1 q) := by
      unfold f_X8_refusesBy
      simp only [bd_x]
      rw [e16, e2, nI_1]
    generalize f_X8_refusesBy_l9 Y 12 q 5 (nI (2 * d') - 1) B = R at s1 s2 eb
    rw [er, eb]
    refine ⟨rfl, fun k hk => upd_ne _ _ hk, fun k h2 h3 => (up2_ne _ _ _ h3).trans (up2_ne _ _ _ h2), fun _ => ⟨rfl, fun k hk _ => upd_ne _ _ hk, fun k hk => (up2_ne _ _ _ hk).trans ((up2_ne _ _ _ hk).trans (s1 k hk)), ⟨d' + 1, by omega, show upd X 6 (nI (d' + 1)) 6 = nI (d' + 1) from upd_eq _ _ _, show upd Y 16 (nI (d' + 1)) 16 = nI (d' + 1) from upd_eq _ _ _, fun i hi => ?_⟩⟩, fun x => absurd c x⟩
    dsimp only
    rw [up2_ne (up2 A 2 d' 12) (i := 3) (a := 2) _ _ (by decide), up2_eq, up2_eq, up2_eq, up2_eq, up2_ne A (i := 2) (a := 3) _ _ (by decide)]
    by_cases i0 : i = 0
    · subst i0
      rw [show d' + 1 - 1 - 0 = d' by omega, upd_eq, upd_eq, upd_ne _ _ (by decide), upd_eq, upd_eq]
      exact ⟨rfl, rfl⟩
    · obtain ⟨r1, r2⟩ := hr (i - 1) (by omega)
      rw [upd_ne _ _ (by omega), upd_ne _ _ (by omega), upd_ne _ _ (by omega), upd_ne _ _ (by omega), upd_ne _ _ (by omega), upd_ne _ _ (by omega), s2, s2, if_pos (by omega), if_pos (by omega), show d' + 1 - 1 - i = d' - 1 - (i - 1) by omega, r1, r2]
      rw [show 2 * i - 2 = 2 * (i - 1) by omega, show 2 * i + 1 - 2 = 2 * (i - 1) + 1 by omega]
      exact ⟨rfl, rfl⟩
  · have er : f_X7_refuseScript M X A q p2 = (-3, upd (upd X 6 0) 6 1, up2 (up2 A 2 0 12) 3 0 q) := by
      unfold f_X7_refuseScript f_X4_empty
      simp only [bd_x]
      rw [if_neg c, put_1]
    rw [er]
    exact ⟨rfl, FC.u6, FA.u23, fun x => absurd x c, fun _ => ⟨rfl, FXm.u16, fun k hk => (up2_ne _ _ _ hk).trans (up2_ne _ _ _ hk), rs_1 12 q⟩⟩
end SR
