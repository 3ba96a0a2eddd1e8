/-! ===== pure: the hours ===== -/
section OP4
variable {M : gM} {f : Nat → Int32} {X Y : Nat → Int32} {A B : Nat → Nat → Int32}
theorem hours_l {p : Int32} : ∀ n k M B, GR M (B 0) → GR (f_X7_passHours_l16 X A p n k M) (f_X8_passes_l15 Y p n k B 0) ∧ FAm B (f_X8_passes_l15 Y p n k B) ∧ f_X8_passes_l15 Y p n k B 7 = B 7 := by
  intro n
  induction n with
  | zero => intro k M B hG; exact ⟨hG, FAm.rf, rfl⟩
  | succ n ih =>
    intro k M B hG
    unfold f_X7_passHours_l16 f_X8_passes_l15
    simp only [bd_x]
    by_cases c : p ≤ nI k
    · rw [if_pos c, if_pos c]; exact ⟨hG, FAm.rf, rfl⟩
    · rw [if_neg c, if_neg c]
      unfold f_X1_passHour
      simp only [bd_x]
      obtain ⟨i1, i2, i3⟩ := pass_l (Y := Y) 5 0 M B rfl hG p k
      generalize f_X1_passHour_l2 5 0 M = M1 at i1 ⊢
      generalize f_X8_passes_l22 Y p k 5 0 B = B1 at i1 i2 i3 ⊢
      have h1 : GR (sg M1 5 (M1.1 5 + 1)) (up2 B1 0 0 (B1 0 0 + 1) 0) := by
        rw [up2_eq]
        refine i1.scal rfl rfl rfl (fun k hk => upd_ne _ _ (by omega)) ⟨?_, ?_, ?_, ?_, ?_, ?_, ?_, ?_, ?_⟩ ⟨?_, ?_, ?_⟩
        · simp [upd, sg]; rw [i1.1.1]
        · simp [upd, sg]; exact i1.1.2.1
        · simp [upd, sg]; exact i1.1.2.2.1
        · simp [upd]
        · simp [upd]
        · simp [upd]
        · simp [upd, sg]; exact i1.1.2.2.2.2.2.2.1
        · simp [upd, sg]; exact i1.1.2.2.2.2.2.2.2.1
        · simp [upd, sg]; exact i1.1.2.2.2.2.2.2.2.2
        · simp [upd, sg]; exact i1.2.2.1.2.2.1
        · simp [upd, sg]; exact i1.2.2.1.2.2.2.1
        · simp [upd, sg]; exact i1.2.2.1.2.2.2.2.1
      obtain ⟨j1, j2, j3⟩ := ih (k + 1) _ _ h1
      refine ⟨j1, fun a b d => (j2 a b d).trans ((up2_ne _ _ _ b).trans (i2 a b d)), j3.trans ((up2_ne _ _ _ (by decide)).trans i3)⟩
theorem casts_l (hG : GR M f) : ∀ n k j, n + k = 5 → k ≤ 4 → j ≤ 9 * k → ∃ i, i ≤ 36 ∧ f_X1_allCasts_l4 M n k (nI j) = nI i := by
  intro n
  induction n with
  | zero => intro k j h1 h2; omega
  | succ n ih =>
    intro k j h1 h2 hj
    unfold f_X1_allCasts_l4
    by_cases c : M.1 3 ≤ nI k
    · rw [if_pos c]; exact ⟨j, by omega, rfl⟩
    · have hk := hG.l3 h2 c
      obtain ⟨i, hi, e⟩ := vp_in_of (hG.r h2 c).2.2.2.2.1 (by decide)
      rw [if_neg c, e, nI_add]
      exact ih (k + 1) (j + i) (by omega) (by omega) (by omega)
theorem in24 {p : Int32} : f_X8_in Y B p 1 24 = if p < 1 then 0 else if p ≤ 24 then 1 else 0 := by
  unfold f_X8_in
  by_cases a : p < 1
  · rw [if_pos a, if_pos a]
  · rw [if_neg a, if_neg a]
    by_cases b : p ≤ 24
    · rw [if_pos b, if_neg (Int32.not_lt.mpr b)]
    · rw [if_neg b, if_pos (Int32.not_le.mp b)]
theorem R_hour (hR : RS X A Y B) (hG : GR M (B 0)) (p : Int32) : OpR X A Y B (f_X7_passHours M X A p) (f_X8_passes Y B p) := by
  unfold f_X7_passHours f_X8_passes f_X8_does
  simp only [bd_x]
  rw [in24]
  by_cases a : p < 1
  · rw [if_pos a, if_pos a, if_pos rfl]; exact op_code hR hG (Or.inr rfl)
  rw [if_neg a, if_neg a]
  by_cases b : p ≤ 24
  · rw [if_pos b, if_pos b, if_neg (show ¬ (1 : Int32) = 0 by decide)]
    obtain ⟨i1, i2, i3⟩ := hours_l (X := X) (A := A) (Y := Y) (p := p) 25 0 M B hG
    generalize f_X7_passHours_l16 X A p 25 0 M = M1 at i1 ⊢
    generalize f_X8_passes_l15 Y p 25 0 B = B1 at i1 i2 i3 ⊢
    rw [q_allCasts (M := M1) i1]
    refine op_done hR i1 i2 i3 ?_
    obtain ⟨i, hi, e⟩ := casts_l i1 5 0 0 rfl (by decide) (by decide)
    unfold f_X1_allCasts
    simp only [bd_x]
    rw [show (0 : Int32) = nI 0 from rfl, e]
    exact ncode (vp_in_nI (N := 37) (by omega) (by decide))
  · rw [if_neg b, if_neg b, if_pos rfl]; exact op_code hR hG (Or.inr rfl)
end OP4
