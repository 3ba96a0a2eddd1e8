section SC
variable {M : gM} {X Y : Nat → Int32} {A B : Nat → Nat → Int32} {t : Nat → Nat} {n : Nat}
theorem pR_F (i : Nat) (F G : Nat → Int32) : (pR t n i F).1 = (pR t n i G).1 ∧ (pR t n i F).2.1 = (pR t n i G).2.1 ∧ ((pR t n i F).1 = true → ∀ j, j < kc (pat (t i)) → (pR t n i F).2.2 j = (pR t n i G).2.2 j) := by
  unfold pR
  by_cases a : i < n ∧ (pat (t i)).length ≠ 0
  · rw [if_pos a, if_pos a]
    obtain ⟨a1, a2, a3⟩ := pO_F (t := t) (n := n) (pat (t i)) 0 (i + 1) F G
    exact ⟨a1, a2, fun ok j hj => a3 ok j (Or.inr ⟨Nat.zero_le _, by omega⟩)⟩
  · rw [if_neg a, if_neg a]
    exact ⟨rfl, rfl, fun ok => absurd ok Bool.false_ne_true⟩
theorem pO_side : ∀ r q i (F : Nat → Int32), wfo r q = true → (43 ∈ r ∨ F 4 = 0 ∨ F 4 = 1) → (pO t n r q i F).1 = true → ((pO t n r q i F).2.2 4 = 0 ∨ (pO t n r q i F).2.2 4 = 1) := by
  intro r
  induction r with
  | nil =>
    intro q i F hw h ok
    unfold pO at ok ⊢
    exact h.elim (fun x => absurd x List.not_mem_nil) (fun x => x)
  | cons c r ih =>
    intro q i F hw h ok
    unfold wfo at hw
    rw [Bool.and_eq_true, decide_eq_true_iff] at hw
    obtain ⟨c1000, hw⟩ := hw
    have mem : c ≠ 43 → (43 ∈ c :: r) → 43 ∈ r := fun e x => (List.mem_cons.mp x).elim (fun y => absurd y.symm e) (fun y => y)
    unfold pO at ok ⊢
    by_cases c43 : c = 43
    · rw [if_pos c43, Bool.and_eq_true, decide_eq_true_iff] at hw
      obtain ⟨q4, hw⟩ := hw
      subst q4
      simp only [if_pos c43] at ok ⊢
      by_cases s1 : (pS t n 43 i).1 = true
      · simp only [if_pos s1] at ok ⊢
        exact ih 5 (i + 1) _ hw (Or.inr (Or.inr (upd_eq _ _ _))) ok
      · by_cases s2 : (pS t n 45 i).1 = true
        · simp only [if_neg s1, if_pos s2] at ok ⊢
          exact ih 5 (i + 1) _ hw (Or.inr (Or.inl (upd_eq _ _ _))) ok
        · simp only [if_neg s1, if_neg s2] at ok
          exact absurd ok Bool.false_ne_true
    rw [if_neg c43] at hw
    have low : ∀ v, q < 4 → (43 ∈ c :: r ∨ F 4 = 0 ∨ F 4 = 1) → (43 ∈ r ∨ upd F q v 4 = 0 ∨ upd F q v 4 = 1) := fun v q4 x => by
      rw [upd_ne _ _ (show 4 ≠ q by omega)]
      exact x.imp (mem c43) (fun y => y)
    by_cases c100 : c = 100
    · rw [if_pos c100, Bool.and_eq_true, decide_eq_true_iff] at hw
      simp only [if_neg c43, if_pos c100] at ok ⊢
      by_cases s1 : (pD t n 1 0 i).1 = 0
      · simp only [if_pos s1] at ok
        exact absurd ok Bool.false_ne_true
      · simp only [if_neg s1] at ok ⊢
        exact ih (q + 1) _ _ hw.2 (low _ hw.1 h) ok
    by_cases c110 : c = 110
    · rw [if_neg c100, if_pos c110, Bool.and_eq_true, decide_eq_true_iff] at hw
      simp only [if_neg c43, if_neg c100, if_pos c110] at ok ⊢
      by_cases s1 : (pD t n 2 0 i).1 = 0
      · simp only [if_pos s1] at ok
        exact absurd ok Bool.false_ne_true
      · simp only [if_neg s1] at ok ⊢
        exact ih (q + 1) _ _ hw.2 (low _ hw.1 h) ok
    · rw [if_neg c100, if_neg c110] at hw
      simp only [if_neg c43, if_neg c100, if_neg c110] at ok ⊢
      by_cases s1 : (pS t n c i).1 = true
      · simp only [if_pos s1] at ok ⊢
        exact ih q (i + 1) F hw (h.imp (mem c43) (fun y => y)) ok
      · simp only [if_neg s1] at ok
        exact absurd ok Bool.false_ne_true
/-- a read order's letter, and that it goes on -/
theorem pR_ok {i : Nat} {F : Nat → Int32} (h : (pR t n i F).1 = true) : i < n ∧ (pat (t i)).length ≠ 0 := by
  unfold pR at h
  by_cases a : i < n ∧ (pat (t i)).length ≠ 0
  · exact a
  · rw [if_neg a] at h; exact absurd h Bool.false_ne_true
theorem pat_c {c : Nat} (h : (pat c).length ≠ 0) : (c = 98 ∨ c = 99 ∨ c = 101 ∨ c = 104 ∨ c = 114 ∨ c = 115 ∨ c = 116 ∨ c = 119) ∧ dc c ≤ kc (pat c) := by
  by_cases h98 : c = 98
  · subst h98; decide
  by_cases h101 : c = 101
  · subst h101; decide
  by_cases h104 : c = 104
  · subst h104; decide
  by_cases h99 : c = 99
  · subst h99; decide
  by_cases h114 : c = 114
  · subst h114; decide
  by_cases h115 : c = 115
  · subst h115; decide
  by_cases h116 : c = 116
  · subst h116; decide
  by_cases h119 : c = 119
  · subst h119; decide
  exfalso
  unfold pat at h
  rw [if_neg h98, if_neg h101, if_neg h104, if_neg h99, if_neg h114, if_neg h115, if_neg h116, if_neg h119] at h
  exact h rfl
/-- the script's orders: whether all are read, where the reading ends, where each begins -/
def pA (t : Nat → Nat) (n : Nat) : Nat → Nat → Bool × Nat × List Nat
  | 0, i => (false, i, [])
  | f + 1, i =>
    if (pR t n i (fun _ => 0)).1 = true then
      (if (pR t n i (fun _ => 0)).2.1 = n then (true, n, [i])
      else if (pS t n 59 (pR t n i (fun _ => 0)).2.1).1 = true then ((pA t n f ((pR t n i (fun _ => 0)).2.1 + 1)).1, (pA t n f ((pR t n i (fun _ => 0)).2.1 + 1)).2.1, i :: (pA t n f ((pR t n i (fun _ => 0)).2.1 + 1)).2.2)
      else (false, (pR t n i (fun _ => 0)).2.1, [i]))
    else (false, (pR t n i (fun _ => 0)).2.1, [])
end SC
