section RDD
variable {M : gM} {X Y : Nat → Int32} {A B : Nat → Nat → Int32} {t : Nat → Nat} {n : Nat}
theorem pD_ge : ∀ k y i, i ≤ (pD t n k y i).2.2 := by
  intro k
  induction k with
  | zero => intro y i; exact Nat.le_refl _
  | succ k ih =>
    intro y i
    unfold pD
    by_cases a : i < n ∧ 48 ≤ t i ∧ t i ≤ 57
    · rw [if_pos a]
      exact Nat.le_trans (Nat.le_succ i) (ih (10 * y + t i - 48) (i + 1))
    · rw [if_neg a]; exact Nat.le_refl _
theorem pO_ge : ∀ r q i (F : Nat → Int32), i ≤ (pO t n r q i F).2.1 := by
  intro r
  induction r with
  | nil => intro q i F; unfold pO; exact Nat.le_refl _
  | cons c r ih =>
    intro q i F
    unfold pO
    by_cases c43 : c = 43
    · simp only [if_pos c43]
      by_cases s1 : (pS t n 43 i).1 = true
      · simp only [if_pos s1]
        have := ih (q + 1) (i + 1) (upd F q 1)
        omega
      · by_cases s2 : (pS t n 45 i).1 = true
        · simp only [if_neg s1, if_pos s2]
          have := ih (q + 1) (i + 1) (upd F q 0)
          omega
        · simp only [if_neg s1, if_neg s2]
          exact Nat.le_refl _
    by_cases c100 : c = 100
    · simp only [if_neg c43, if_pos c100]
      have d := pD_ge (t := t) (n := n) 1 0 i
      by_cases s1 : (pD t n 1 0 i).1 = 0
      · simp only [if_pos s1]; exact d
      · simp only [if_neg s1]
        exact Nat.le_trans d (ih _ _ _)
    by_cases c110 : c = 110
    · simp only [if_neg c43, if_neg c100, if_pos c110]
      have d := pD_ge (t := t) (n := n) 2 0 i
      by_cases s1 : (pD t n 2 0 i).1 = 0
      · simp only [if_pos s1]; exact d
      · simp only [if_neg s1]
        exact Nat.le_trans d (ih _ _ _)
    · simp only [if_neg c43, if_neg c100, if_neg c110]
      by_cases s1 : (pS t n c i).1 = true
      · simp only [if_pos s1]
        have := ih q (i + 1) F
        omega
      · simp only [if_neg s1]; exact Nat.le_refl _
theorem pR_ge {i : Nat} {F : Nat → Int32} (h : (pR t n i F).1 = true) : i + 1 ≤ (pR t n i F).2.1 := by
  have a := pR_ok h
  unfold pR
  rw [if_pos a]
  exact pO_ge _ _ _ _
/-- the class reads all the orders -/
theorem cl_read : ∀ f s i X A, f + s = 31 → 2 * s ≤ i → RT X A Y B t n → i ≤ n → X 5 = nI i → X 4 = nI s →
    (f_X2_read_l12 M f s X A).1 = (if (pA t n f i).1 = true then 1 else 0) ∧ (f_X2_read_l12 M f s X A).2.1 5 = nI (pA t n f i).2.1 ∧ (∀ j, j ≠ 4 → j ≠ 5 → (f_X2_read_l12 M f s X A).2.1 j = X j) ∧ (∀ j, j ≠ 0 → j ≠ 1 → (f_X2_read_l12 M f s X A).2.2 j = A j) ∧
      (∀ m, m < s → (f_X2_read_l12 M f s X A).2.2 0 m = A 0 m) ∧ (∀ j, j < 5 * s → (f_X2_read_l12 M f s X A).2.2 1 j = A 1 j) ∧
      ((pA t n f i).1 = true → (f_X2_read_l12 M f s X A).2.1 4 = nI (s + (pA t n f i).2.2.length) ∧ ∀ m, m < (pA t n f i).2.2.length → (pR t n ((pA t n f i).2.2.getD m 0) (fun _ => 0)).1 = true ∧ (f_X2_read_l12 M f s X A).2.2 0 (s + m) = nI (t ((pA t n f i).2.2.getD m 0)) ∧ ∀ j, j < kc (pat (t ((pA t n f i).2.2.getD m 0))) → (f_X2_read_l12 M f s X A).2.2 1 (5 * (s + m) + j) = (pR t n ((pA t n f i).2.2.getD m 0) (fun _ => 0)).2.2 j) := by
  intro f
  induction f with
  | zero =>
    intro s i X A hf hi2 h hi ei es
    have := h.1
    omega
  | succ f ih =>
    intro s i X A hf hi2 h hi ei es
    have h0 := h
    obtain ⟨hn, e7, e9, hj⟩ := h
    unfold f_X2_read_l12 pA
    simp only [bd_x]
    have pf := pR_F (t := t) (n := n) i (fun j => A 1 (5 * s + j)) (fun _ => 0)
    by_cases s30 : s = 30
    · have hin : ¬ i < n := by omega
      have no : ¬ (pR t n i (fun _ => 0)).1 = true := fun q => hin (pR_ok q).1
      have ep : (pR t n i (fun _ => 0)).2.1 = i := by
        unfold pR
        rw [if_neg (fun q => hin q.1)]
      rw [if_pos (show (30 : Int32) ≤ nI s by rw [s30]; decide), if_neg no, ep]
      exact ⟨(if_neg Bool.false_ne_true).symm, ei, fun _ _ _ => rfl, fun _ _ _ => rfl, fun _ _ => rfl, fun _ _ => rfl, fun q => absurd q Bool.false_ne_true⟩
    rw [if_neg (show ¬ (30 : Int32) ≤ nI s from nI_ge (b := 30) (by omega) (by decide))]
    obtain ⟨a1, a2, a3, a4, a5, a6, a7, a8, a9⟩ := cl_order (M := M) (F := fun j => A 1 (5 * s + j)) h0 hi (show s < 30 by omega) ei (fun _ _ => rfl)
    rw [pf.1] at a1 a5
    rw [pf.2.1] at a2 a9
    generalize f_X2_readOrder M X A (nI s) = z at a1 a2 a3 a4 a5 a6 a7 a8 ⊢
    rw [a1]
    by_cases ok : (pR t n i (fun _ => 0)).1 = true
    · have ge := pR_ge ok
      have a7' := fun j (hj5 : j < 5) => a7 j hj5
      obtain ⟨hin, -⟩ := pR_ok ok
      obtain ⟨j1, j2, j3, j4⟩ := hj i hin
      have k5 : kc (pat (t i)) ≤ 5 := (pat_all (t i) (by omega)).2.2.2.1
      have hA0 : z.2.2 0 s = nI (t i) := a5 ok
      have hA1 : ∀ j, j < kc (pat (t i)) → z.2.2 1 (5 * s + j) = (pR t n i (fun _ => 0)).2.2 j := fun j hjk => (a7 j (by omega)).trans (pf.2.2 (pf.1.trans ok) j hjk)
      have z4 : z.2.1 4 = nI s := (a3 4 (by decide)).trans es
      have q5 : upd z.2.1 4 (z.2.1 4 + 1) 5 = nI (pR t n i (fun _ => 0)).2.1 := (upd_ne _ _ (by decide)).trans a2
      have q7 : upd z.2.1 4 (z.2.1 4 + 1) 7 = nI n := (upd_ne _ _ (by decide)).trans ((a3 7 (by decide)).trans e7)
      have q4 : upd z.2.1 4 (z.2.1 4 + 1) 4 = nI (s + 1) := by rw [upd_eq, z4, nI_1]
      have qo : ∀ j, j ≠ 4 → j ≠ 5 → upd z.2.1 4 (z.2.1 4 + 1) j = X j := fun j x y => (upd_ne _ _ x).trans (a3 j y)
      generalize upd z.2.1 4 (z.2.1 4 + 1) = Z1 at q5 q7 q4 qo ⊢
      simp only [if_pos ok, if_neg (show ¬ (1 : Int32) = 0 by decide)]
      rw [q5, q7]
      generalize (pR t n i (fun _ => 0)).2.1 = i1 at a9 ge q5 ⊢
      by_cases e : i1 = n
      · subst e
        simp only [if_pos]
        refine ⟨trivial, q5, qo, a4, fun m hm => a6 m (by omega), fun j hj => a8 j (Or.inl hj), fun _ => ⟨q4, fun m hm => ?_⟩⟩
        have m0 : m = 0 := by simp at hm; omega
        subst m0
        exact ⟨ok, hA0, hA1⟩
      · rw [if_neg (fun q => e ((nI_eq (by omega) (by omega)).mp q))]
        have rt : RT Z1 z.2.2 Y B t n := ⟨hn, q7, e9, fun j hjn => by rw [a4 4 (by decide) (by decide)]; exact hj j hjn⟩
        rw [cl_sign rt (c := 59) (p := 59) a9 (by decide) q5 rfl]
        by_cases s1 : (pS t n 59 i1).1 = true
        · simp only [if_neg e, if_pos s1, if_neg (show ¬ (1 : Int32) = 0 by decide)]
          obtain ⟨b1, b2, b3, b4, b5, b6, b7⟩ := ih (s + 1) (i1 + 1) (upd Z1 5 (nI (i1 + 1))) z.2.2 (by omega) (by omega) ⟨hn, (upd_ne _ _ (by decide)).trans q7, e9, rt.2.2.2⟩ (pS_1 s1) (upd_eq _ _ _) ((upd_ne _ _ (by decide)).trans q4)
          refine ⟨b1, b2, fun j x y => (b3 j x y).trans ((upd_ne _ _ y).trans (qo j x y)), fun j x y => (b4 j x y).trans (a4 j x y), fun m hm => (b5 m (by omega)).trans (a6 m (by omega)), fun j hj => (b6 j (by omega)).trans (a8 j (Or.inl hj)), fun okk => ?_⟩
          obtain ⟨c1, c2⟩ := b7 okk
          refine ⟨?_, fun m hm => ?_⟩
          · rw [c1, List.length_cons]
            rw [show s + 1 + (pA t n f (i1 + 1)).2.2.length = s + ((pA t n f (i1 + 1)).2.2.length + 1) by omega]
          · rcases m with _ | m
            · exact ⟨ok, (b5 s (by omega)).trans hA0, fun j (hjk : j < kc (pat (t i))) => (b6 _ (by omega)).trans (hA1 j hjk)⟩
            · have := c2 m (by simp at hm; omega)
              rw [show s + 1 + m = s + (m + 1) by omega] at this
              exact this
        · simp only [if_neg e, if_neg s1, if_pos]
          exact ⟨(if_neg Bool.false_ne_true).symm, q5, qo, a4, fun m hm => a6 m (by omega), fun j hj => a8 j (Or.inl hj), fun q => absurd q Bool.false_ne_true⟩
    · simp only [if_neg ok, if_pos]
      exact ⟨(if_neg Bool.false_ne_true).symm, a2, fun j _ y => a3 j y, a4, fun m hm => a6 m (by omega), fun j hj => a8 j (Or.inl hj), fun q => absurd q Bool.false_ne_true⟩
end RDD
