def dc (c : Nat) : Nat := if c = 98 then 4 else if c = 101 then 2 else 1
section CO
variable {M : gM} {X Y : Nat → Int32} {A B : Nat → Nat → Int32} {t : Nat → Nat} {n : Nat}
theorem num_at {k : Nat} {j : Nat} (hk : k < 100) (hj : j < 5) {p : Int32} (hp : p.toNatClampNeg = j) : f_X2_number M X A (nI k) p = A 1 (5 * k + j) := by
  unfold f_X2_number
  rw [nI_clamp (by omega), hp, show k * 5 + j = 5 * k + j by omega]
theorem R_carry {k c : Nat} (hR : RS X A Y B) (hG : GR M (B 0)) (hk : k < 100) (hc : c = 98 ∨ c = 99 ∨ c = 101 ∨ c = 104 ∨ c = 114 ∨ c = 115 ∨ c = 116 ∨ c = 119) (hA : A 0 k = nI c) (hY : Y 11 = nI c) (hB : ∀ j, j < dc c → B 6 j = A 1 (5 * k + j)) (h4 : c = 98 → Y 13 = A 1 (5 * k + 4) ∧ (A 1 (5 * k + 4) = 0 ∨ A 1 (5 * k + 4) = 1)) :
    OpR X A Y B (f_X7_carryOut M X A (nI k)) (f_X8_carries Y B) := by
  have n0 := num_at (M := M) (X := X) (A := A) hk (j := 0) (p := 0) (by decide) rfl
  have n1 := num_at (M := M) (X := X) (A := A) hk (j := 1) (p := 1) (by decide) rfl
  have n2 := num_at (M := M) (X := X) (A := A) hk (j := 2) (p := 2) (by decide) rfl
  have n3 := num_at (M := M) (X := X) (A := A) hk (j := 3) (p := 3) (by decide) rfl
  have n4 := num_at (M := M) (X := X) (A := A) hk (j := 4) (p := 4) (by decide) rfl
  unfold f_X7_carryOut f_X8_carries
  simp only [bd_x]
  rw [nI_clamp (show k < 2 ^ 31 by omega), hA, hY, n0, n1, n2, n3, n4]
  rcases hc with rfl | rfl | rfl | rfl | rfl | rfl | rfl | rfl
  · simp only [if_pos (show nI 98 = 98 from rfl)]
    rw [hB 0 (by decide), hB 1 (by decide), hB 2 (by decide), hB 3 (by decide)]
    obtain ⟨y, z⟩ := h4 rfl
    rw [y]
    rcases z with z | z
    · rw [z, if_neg (show ¬ (0 : Int32) = 1 by decide)]
      exact R_bowl hR hG _ _ _ _ 0
    · rw [z, if_pos rfl]
      exact R_bowl hR hG _ _ _ _ 1
  · simp only [if_neg (show ¬ (nI 99 : Int32) = 98 by decide), if_pos (show nI 99 = 99 from rfl)]
    rw [hB 0 (by decide)]
    exact R_close hR hG _
  · simp only [if_neg (show ¬ (nI 101 : Int32) = 98 by decide), if_neg (show ¬ (nI 101 : Int32) = 99 by decide), if_neg (show ¬ (nI 101 : Int32) = 100 by decide), if_pos (show nI 101 = 101 from rfl)]
    rw [hB 0 (by decide), hB 1 (by decide)]
    exact R_begin hR hG _ _
  · simp only [if_neg (show ¬ (nI 104 : Int32) = 98 by decide), if_neg (show ¬ (nI 104 : Int32) = 99 by decide), if_neg (show ¬ (nI 104 : Int32) = 100 by decide), if_neg (show ¬ (nI 104 : Int32) = 101 by decide), if_neg (show ¬ (nI 104 : Int32) = 102 by decide), if_neg (show ¬ (nI 104 : Int32) = 103 by decide), if_pos (show nI 104 = 104 from rfl)]
    rw [hB 0 (by decide)]
    exact R_hour hR hG _
  · simp only [if_neg (show ¬ (nI 114 : Int32) = 98 by decide), if_neg (show ¬ (nI 114 : Int32) = 99 by decide), if_neg (show ¬ (nI 114 : Int32) = 100 by decide), if_neg (show ¬ (nI 114 : Int32) = 101 by decide), if_neg (show ¬ (nI 114 : Int32) = 102 by decide), if_neg (show ¬ (nI 114 : Int32) = 103 by decide), if_neg (show ¬ (nI 114 : Int32) = 104 by decide), if_neg (show ¬ (nI 114 : Int32) = 105 by decide), if_neg (show ¬ (nI 114 : Int32) = 106 by decide), if_neg (show ¬ (nI 114 : Int32) = 107 by decide), if_neg (show ¬ (nI 114 : Int32) = 108 by decide), if_neg (show ¬ (nI 114 : Int32) = 109 by decide), if_neg (show ¬ (nI 114 : Int32) = 110 by decide), if_neg (show ¬ (nI 114 : Int32) = 111 by decide), if_neg (show ¬ (nI 114 : Int32) = 112 by decide), if_neg (show ¬ (nI 114 : Int32) = 113 by decide), if_pos (show nI 114 = 114 from rfl)]
    rw [hB 0 (by decide)]
    exact R_setRain hR hG _
  · simp only [if_neg (show ¬ (nI 115 : Int32) = 98 by decide), if_neg (show ¬ (nI 115 : Int32) = 99 by decide), if_neg (show ¬ (nI 115 : Int32) = 100 by decide), if_neg (show ¬ (nI 115 : Int32) = 101 by decide), if_neg (show ¬ (nI 115 : Int32) = 102 by decide), if_neg (show ¬ (nI 115 : Int32) = 103 by decide), if_neg (show ¬ (nI 115 : Int32) = 104 by decide), if_neg (show ¬ (nI 115 : Int32) = 105 by decide), if_neg (show ¬ (nI 115 : Int32) = 106 by decide), if_neg (show ¬ (nI 115 : Int32) = 107 by decide), if_neg (show ¬ (nI 115 : Int32) = 108 by decide), if_neg (show ¬ (nI 115 : Int32) = 109 by decide), if_neg (show ¬ (nI 115 : Int32) = 110 by decide), if_neg (show ¬ (nI 115 : Int32) = 111 by decide), if_neg (show ¬ (nI 115 : Int32) = 112 by decide), if_neg (show ¬ (nI 115 : Int32) = 113 by decide), if_neg (show ¬ (nI 115 : Int32) = 114 by decide), if_pos (show nI 115 = 115 from rfl)]
    rw [hB 0 (by decide)]
    exact R_setSun hR hG _
  · simp only [if_neg (show ¬ (nI 116 : Int32) = 98 by decide), if_neg (show ¬ (nI 116 : Int32) = 99 by decide), if_neg (show ¬ (nI 116 : Int32) = 100 by decide), if_neg (show ¬ (nI 116 : Int32) = 101 by decide), if_neg (show ¬ (nI 116 : Int32) = 102 by decide), if_neg (show ¬ (nI 116 : Int32) = 103 by decide), if_neg (show ¬ (nI 116 : Int32) = 104 by decide), if_neg (show ¬ (nI 116 : Int32) = 105 by decide), if_neg (show ¬ (nI 116 : Int32) = 106 by decide), if_neg (show ¬ (nI 116 : Int32) = 107 by decide), if_neg (show ¬ (nI 116 : Int32) = 108 by decide), if_neg (show ¬ (nI 116 : Int32) = 109 by decide), if_neg (show ¬ (nI 116 : Int32) = 110 by decide), if_neg (show ¬ (nI 116 : Int32) = 111 by decide), if_neg (show ¬ (nI 116 : Int32) = 112 by decide), if_neg (show ¬ (nI 116 : Int32) = 113 by decide), if_neg (show ¬ (nI 116 : Int32) = 114 by decide), if_neg (show ¬ (nI 116 : Int32) = 115 by decide), if_pos (show nI 116 = 116 from rfl)]
    rw [hB 0 (by decide)]
    exact R_tea hR hG _
  · simp only [if_neg (show ¬ (nI 119 : Int32) = 98 by decide), if_neg (show ¬ (nI 119 : Int32) = 99 by decide), if_neg (show ¬ (nI 119 : Int32) = 100 by decide), if_neg (show ¬ (nI 119 : Int32) = 101 by decide), if_neg (show ¬ (nI 119 : Int32) = 102 by decide), if_neg (show ¬ (nI 119 : Int32) = 103 by decide), if_neg (show ¬ (nI 119 : Int32) = 104 by decide), if_neg (show ¬ (nI 119 : Int32) = 105 by decide), if_neg (show ¬ (nI 119 : Int32) = 106 by decide), if_neg (show ¬ (nI 119 : Int32) = 107 by decide), if_neg (show ¬ (nI 119 : Int32) = 108 by decide), if_neg (show ¬ (nI 119 : Int32) = 109 by decide), if_neg (show ¬ (nI 119 : Int32) = 110 by decide), if_neg (show ¬ (nI 119 : Int32) = 111 by decide), if_neg (show ¬ (nI 119 : Int32) = 112 by decide), if_neg (show ¬ (nI 119 : Int32) = 113 by decide), if_neg (show ¬ (nI 119 : Int32) = 114 by decide), if_neg (show ¬ (nI 119 : Int32) = 115 by decide), if_neg (show ¬ (nI 119 : Int32) = 116 by decide), if_neg (show ¬ (nI 119 : Int32) = 117 by decide), if_neg (show ¬ (nI 119 : Int32) = 118 by decide), if_pos (show nI 119 = 119 from rfl)]
    rw [hB 0 (by decide)]
    exact R_sweep hR hG _
/-- what is read of a place does not hang on what was there -/
theorem pO_F : ∀ r q i (F G : Nat → Int32), (pO t n r q i F).1 = (pO t n r q i G).1 ∧ (pO t n r q i F).2.1 = (pO t n r q i G).2.1 ∧ ((pO t n r q i F).1 = true → ∀ j, (F j = G j ∨ (q ≤ j ∧ j < q + kc r)) → (pO t n r q i F).2.2 j = (pO t n r q i G).2.2 j) := by
  intro r
  induction r with
  | nil =>
    intro q i F G
    unfold pO kc
    exact ⟨rfl, rfl, fun _ j h => h.elim (fun x => x) (fun x => by omega)⟩
  | cons c r ih =>
    intro q i F G
    have one : ∀ (v : Int32) (j : Nat), (F j = G j ∨ (q ≤ j ∧ j < q + (1 + kc r))) → (upd F q v j = upd G q v j ∨ (q + 1 ≤ j ∧ j < q + 1 + kc r)) := fun v j h => by
      by_cases e : j = q
      · rw [e, upd_eq, upd_eq]; exact Or.inl rfl
      · rw [upd_ne _ _ e, upd_ne _ _ e]
        exact h.imp (fun x => x) (fun x => by omega)
    unfold pO kc
    by_cases c43 : c = 43
    · simp only [if_pos c43]
      by_cases s1 : (pS t n 43 i).1 = true
      · simp only [if_pos s1]
        obtain ⟨a1, a2, a3⟩ := ih (q + 1) (i + 1) (upd F q 1) (upd G q 1)
        exact ⟨a1, a2, fun ok j h => a3 ok j (one 1 j h)⟩
      · by_cases s2 : (pS t n 45 i).1 = true
        · simp only [if_neg s1, if_pos s2]
          obtain ⟨a1, a2, a3⟩ := ih (q + 1) (i + 1) (upd F q 0) (upd G q 0)
          exact ⟨a1, a2, fun ok j h => a3 ok j (one 0 j h)⟩
        · simp only [if_neg s1, if_neg s2]
          exact ⟨trivial, trivial, fun ok => absurd ok Bool.false_ne_true⟩
    by_cases c100 : c = 100
    · simp only [if_neg c43, if_pos c100]
      by_cases s1 : (pD t n 1 0 i).1 = 0
      · simp only [if_pos s1]
        exact ⟨trivial, trivial, fun ok => absurd ok Bool.false_ne_true⟩
      · simp only [if_neg s1]
        obtain ⟨a1, a2, a3⟩ := ih (q + 1) (pD t n 1 0 i).2.2 (upd F q (nI (pD t n 1 0 i).2.1)) (upd G q (nI (pD t n 1 0 i).2.1))
        exact ⟨a1, a2, fun ok j h => a3 ok j (one _ j h)⟩
    by_cases c110 : c = 110
    · simp only [if_neg c43, if_neg c100, if_pos c110]
      by_cases s1 : (pD t n 2 0 i).1 = 0
      · simp only [if_pos s1]
        exact ⟨trivial, trivial, fun ok => absurd ok Bool.false_ne_true⟩
      · simp only [if_neg s1]
        obtain ⟨a1, a2, a3⟩ := ih (q + 1) (pD t n 2 0 i).2.2 (upd F q (nI (pD t n 2 0 i).2.1)) (upd G q (nI (pD t n 2 0 i).2.1))
        exact ⟨a1, a2, fun ok j h => a3 ok j (one _ j h)⟩
    · simp only [if_neg c43, if_neg c100, if_neg c110]
      by_cases s1 : (pS t n c i).1 = true
      · simp only [if_pos s1]
        obtain ⟨a1, a2, a3⟩ := ih q (i + 1) F G
        exact ⟨a1, a2, fun ok j h => a3 ok j (h.imp (fun x => x) (fun x => by omega))⟩
      · simp only [if_neg s1]
        exact ⟨trivial, trivial, fun ok => absurd ok Bool.false_ne_true⟩
end CO
