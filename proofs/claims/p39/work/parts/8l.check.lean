section RCK
variable {M : gM} {X Y : Nat → Int32} {A B : Nat → Nat → Int32} {t : Nat → Nat} {n : Nat}
theorem l14_0 {f : Nat} (hf : 0 < f) : f_X8_script_l14 f 0 Y B = (0, Y, B) := by
  obtain ⟨f, rfl⟩ : ∃ g, f = g + 1 := ⟨f - 1, by omega⟩
  unfold f_X8_script_l14
  rw [if_pos rfl]
/-- the reference checks all the orders -/
theorem rf_check : ∀ g s i f Y B, g + s = 31 → 2 * s ≤ i → g + 2 ≤ f → RT X A Y B t n → i ≤ n → Y 10 = nI i →
    (f_X8_script_l14 f (f_X8_isOrder Y B).1 (f_X8_isOrder Y B).2.1 (f_X8_isOrder Y B).2.2).1 = (if (pA t n g i).1 = true then 1 else 0) ∧ (f_X8_script_l14 f (f_X8_isOrder Y B).1 (f_X8_isOrder Y B).2.1 (f_X8_isOrder Y B).2.2).2.1 10 = nI (pA t n g i).2.1 ∧
      (∀ j, j ≠ 10 → j ≠ 11 → j ≠ 13 → (f_X8_script_l14 f (f_X8_isOrder Y B).1 (f_X8_isOrder Y B).2.1 (f_X8_isOrder Y B).2.2).2.1 j = Y j) ∧ (∀ j, j ≠ 6 → (f_X8_script_l14 f (f_X8_isOrder Y B).1 (f_X8_isOrder Y B).2.1 (f_X8_isOrder Y B).2.2).2.2 j = B j) := by
  intro g
  induction g with
  | zero =>
    intro s i f Y B hg hi2 hf h hi ei
    have := h.1
    omega
  | succ g ih =>
    intro s i f Y B hg hi2 hf h hi ei
    have h0 := h
    obtain ⟨hn, e7, e9, hj⟩ := h
    have pf := pR_F (t := t) (n := n) i (fun j => B 6 j) (fun _ => 0)
    obtain ⟨a1, a2, a3, a4, a5, a6, a7⟩ := rf_order (F := fun j => B 6 j) h0 hi ei (fun _ _ => rfl)
    rw [pf.1] at a1
    rw [pf.2.1] at a2
    have le1 : (pR t n i (fun _ => 0)).2.1 ≤ n := by
      obtain ⟨-, -, -, -, -, -, -, -, c9⟩ := cl_order (M := nG) (X := upd X 5 (nI i)) (A := A) (Y := Y) (B := B) (t := t) (n := n) (i := i) (s := 0) (F := fun j => A 1 (5 * 0 + j)) ⟨hn, (upd_ne _ _ (by decide)).trans e7, e9, hj⟩ hi (by decide) (upd_eq _ _ _) (fun _ _ => rfl)
      rw [(pR_F (t := t) (n := n) i (fun j => A 1 (5 * 0 + j)) (fun _ => 0)).2.1] at c9
      exact c9
    generalize f_X8_isOrder Y B = z at a1 a2 a3 a4 ⊢
    rw [a1]
    unfold pA
    by_cases ok : (pR t n i (fun _ => 0)).1 = true
    · have ge := pR_ge ok
      simp only [if_pos ok]
      generalize (pR t n i (fun _ => 0)).2.1 = i1 at ge le1 a2 ⊢
      obtain ⟨f, rfl⟩ : ∃ g, f = g + 1 := ⟨f - 1, by omega⟩
      have z9 : z.2.1 9 = nI n := (a3 9 (by decide) (by decide) (by decide)).trans e9
      unfold f_X8_script_l14
      simp only [bd_x]
      rw [if_neg (show ¬ (1 : Int32) = 0 by decide), z9, a2]
      by_cases e : i1 = n
      · subst e
        rw [if_pos (Int32.le_refl _)]
        simp only [if_pos]
        exact ⟨trivial, a2, a3, a4⟩
      · rw [if_neg (nI_ge (by omega) (by omega))]
        have rt : RT X A z.2.1 z.2.2 t n := ⟨hn, e7, z9, fun j hjn => by rw [a4 5 (by decide)]; exact hj j hjn⟩
        rw [rf_sign rt (c := 59) (p := 59) le1 (by decide) a2 rfl]
        by_cases s1 : (pS t n 59 i1).1 = true
        · simp only [if_neg e, if_pos s1, if_neg (show ¬ (1 : Int32) = 0 by decide)]
          have rt2 : RT X A (upd z.2.1 10 (nI (i1 + 1))) z.2.2 t n := ⟨hn, e7, (upd_ne _ _ (by decide)).trans z9, rt.2.2.2⟩
          obtain ⟨b1, b2, b3, b4⟩ := ih (s + 1) (i1 + 1) f (upd z.2.1 10 (nI (i1 + 1))) z.2.2 (by omega) (by omega) (by omega) rt2 (pS_1 s1) (upd_eq _ _ _)
          obtain ⟨c1, -⟩ := rf_order (F := fun j => z.2.2 6 j) rt2 (pS_1 s1) (upd_eq _ _ _) (fun _ _ => rfl)
          generalize f_X8_isOrder (upd z.2.1 10 (nI (i1 + 1))) z.2.2 = w at b1 b2 b3 b4 c1 ⊢
          have same : (if w.1 = 0 then f_X8_script_l14 f 0 w.2.1 w.2.2 else f_X8_script_l14 f 1 w.2.1 w.2.2) = f_X8_script_l14 f w.1 w.2.1 w.2.2 := by
            rw [c1]
            by_cases q : (pR t n (i1 + 1) (fun j => z.2.2 6 j)).1 = true
            · rw [if_pos q, if_neg (show ¬ (1 : Int32) = 0 by decide)]
            · rw [if_neg q, if_pos rfl]
          rw [same]
          exact ⟨b1, b2, fun j x y v => (b3 j x y v).trans ((upd_ne _ _ x).trans (a3 j x y v)), fun j x => (b4 j x).trans (a4 j x)⟩
        · simp only [if_neg e, if_neg s1, if_pos]
          rw [l14_0 (by omega)]
          exact ⟨(if_neg Bool.false_ne_true).symm, a2, a3, a4⟩
    · simp only [if_neg ok]
      rw [l14_0 (by omega)]
      exact ⟨(if_neg Bool.false_ne_true).symm, a2, a3, a4⟩
end RCK
