section CO
variable {M : gM} {X Y : Nat → Int32} {A B : Nat → Nat → Int32} {t : Nat → Nat} {n : Nat}
theorem num_at {k : Nat} {j : Nat} {F : Nat → Int32} (hk : k < 100) (hj : j < 5) {p : Int32} (hp : p.toNatClampNeg = j) (hF : ∀ j, j < 5 → A 1 (5 * k + j) = F j) : f_X2_number M X A (nI k) p = F j := by
  unfold f_X2_number
  rw [nI_clamp (by omega), hp, show k * 5 + j = 5 * k + j by omega]
  exact hF j hj
theorem R_carry {k c : Nat} {F : Nat → Int32} (hR : RS X A Y B) (hG : GR M (B 0)) (hk : k < 100) (hc : c = 98 ∨ c = 99 ∨ c = 101 ∨ c = 104 ∨ c = 114 ∨ c = 115 ∨ c = 116 ∨ c = 119) (hA : A 0 k = nI c) (hF : ∀ j, j < 5 → A 1 (5 * k + j) = F j) (hY : Y 11 = nI c) (hB : ∀ j, j < 4 → B 6 j = F j) (h4 : c = 98 → Y 13 = F 4 ∧ (F 4 = 0 ∨ F 4 = 1)) :
    OpR X A Y B (f_X7_carryOut M X A (nI k)) (f_X8_carries Y B) := by
  have n0 := num_at (M := M) (X := X) hk (j := 0) (p := 0) (by decide) rfl hF
  have n1 := num_at (M := M) (X := X) hk (j := 1) (p := 1) (by decide) rfl hF
  have n2 := num_at (M := M) (X := X) hk (j := 2) (p := 2) (by decide) rfl hF
  have n3 := num_at (M := M) (X := X) hk (j := 3) (p := 3) (by decide) rfl hF
  have n4 := num_at (M := M) (X := X) hk (j := 4) (p := 4) (by decide) rfl hF
  unfold f_X7_carryOut f_X8_carries
  simp only [bd_x]
  rw [nI_clamp (show k < 2 ^ 31 by omega), hA, hY, n0, n1, n2, n3, n4, hB 0 (by decide), hB 1 (by decide), hB 2 (by decide), hB 3 (by decide)]
  rcases hc with rfl | rfl | rfl | rfl | rfl | rfl | rfl | rfl
  · simp only [if_pos (show nI 98 = 98 from rfl)]
    obtain ⟨y, z⟩ := h4 rfl
    rw [y]
    rcases z with z | z
    · rw [z, if_neg (show ¬ (0 : Int32) = 1 by decide)]
      exact R_bowl hR hG _ _ _ _ 0
    · rw [z, if_pos rfl]
      exact R_bowl hR hG _ _ _ _ 1
  · simp only [if_neg (show ¬ (nI 99 : Int32) = 98 by decide), if_pos (show nI 99 = 99 from rfl)]
    exact R_close hR hG _
  · simp only [if_neg (show ¬ (nI 101 : Int32) = 98 by decide), if_neg (show ¬ (nI 101 : Int32) = 99 by decide), if_neg (show ¬ (nI 101 : Int32) = 100 by decide), if_pos (show nI 101 = 101 from rfl)]
    exact R_begin hR hG _ _
  · simp only [if_neg (show ¬ (nI 104 : Int32) = 98 by decide), if_neg (show ¬ (nI 104 : Int32) = 99 by decide), if_neg (show ¬ (nI 104 : Int32) = 100 by decide), if_neg (show ¬ (nI 104 : Int32) = 101 by decide), if_neg (show ¬ (nI 104 : Int32) = 102 by decide), if_neg (show ¬ (nI 104 : Int32) = 103 by decide), if_pos (show nI 104 = 104 from rfl)]
    exact R_hour hR hG _
  · simp only [if_neg (show ¬ (nI 114 : Int32) = 98 by decide), if_neg (show ¬ (nI 114 : Int32) = 99 by decide), if_neg (show ¬ (nI 114 : Int32) = 100 by decide), if_neg (show ¬ (nI 114 : Int32) = 101 by decide), if_neg (show ¬ (nI 114 : Int32) = 102 by decide), if_neg (show ¬ (nI 114 : Int32) = 103 by decide), if_neg (show ¬ (nI 114 : Int32) = 104 by decide), if_neg (show ¬ (nI 114 : Int32) = 105 by decide), if_neg (show ¬ (nI 114 : Int32) = 106 by decide), if_neg (show ¬ (nI 114 : Int32) = 107 by decide), if_neg (show ¬ (nI 114 : Int32) = 108 by decide), if_neg (show ¬ (nI 114 : Int32) = 109 by decide), if_neg (show ¬ (nI 114 : Int32) = 110 by decide), if_neg (show ¬ (nI 114 : Int32) = 111 by decide), if_neg (show ¬ (nI 114 : Int32) = 112 by decide), if_neg (show ¬ (nI 114 : Int32) = 113 by decide), if_pos (show nI 114 = 114 from rfl)]
    exact R_setRain hR hG _
  · simp only [if_neg (show ¬ (nI 115 : Int32) = 98 by decide), if_neg (show ¬ (nI 115 : Int32) = 99 by decide), if_neg (show ¬ (nI 115 : Int32) = 100 by decide), if_neg (show ¬ (nI 115 : Int32) = 101 by decide), if_neg (show ¬ (nI 115 : Int32) = 102 by decide), if_neg (show ¬ (nI 115 : Int32) = 103 by decide), if_neg (show ¬ (nI 115 : Int32) = 104 by decide), if_neg (show ¬ (nI 115 : Int32) = 105 by decide), if_neg (show ¬ (nI 115 : Int32) = 106 by decide), if_neg (show ¬ (nI 115 : Int32) = 107 by decide), if_neg (show ¬ (nI 115 : Int32) = 108 by decide), if_neg (show ¬ (nI 115 : Int32) = 109 by decide), if_neg (show ¬ (nI 115 : Int32) = 110 by decide), if_neg (show ¬ (nI 115 : Int32) = 111 by decide), if_neg (show ¬ (nI 115 : Int32) = 112 by decide), if_neg (show ¬ (nI 115 : Int32) = 113 by decide), if_neg (show ¬ (nI 115 : Int32) = 114 by decide), if_pos (show nI 115 = 115 from rfl)]
    exact R_setSun hR hG _
  · simp only [if_neg (show ¬ (nI 116 : Int32) = 98 by decide), if_neg (show ¬ (nI 116 : Int32) = 99 by decide), if_neg (show ¬ (nI 116 : Int32) = 100 by decide), if_neg (show ¬ (nI 116 : Int32) = 101 by decide), if_neg (show ¬ (nI 116 : Int32) = 102 by decide), if_neg (show ¬ (nI 116 : Int32) = 103 by decide), if_neg (show ¬ (nI 116 : Int32) = 104 by decide), if_neg (show ¬ (nI 116 : Int32) = 105 by decide), if_neg (show ¬ (nI 116 : Int32) = 106 by decide), if_neg (show ¬ (nI 116 : Int32) = 107 by decide), if_neg (show ¬ (nI 116 : Int32) = 108 by decide), if_neg (show ¬ (nI 116 : Int32) = 109 by decide), if_neg (show ¬ (nI 116 : Int32) = 110 by decide), if_neg (show ¬ (nI 116 : Int32) = 111 by decide), if_neg (show ¬ (nI 116 : Int32) = 112 by decide), if_neg (show ¬ (nI 116 : Int32) = 113 by decide), if_neg (show ¬ (nI 116 : Int32) = 114 by decide), if_neg (show ¬ (nI 116 : Int32) = 115 by decide), if_pos (show nI 116 = 116 from rfl)]
    exact R_tea hR hG _
  · simp only [if_neg (show ¬ (nI 119 : Int32) = 98 by decide), if_neg (show ¬ (nI 119 : Int32) = 99 by decide), if_neg (show ¬ (nI 119 : Int32) = 100 by decide), if_neg (show ¬ (nI 119 : Int32) = 101 by decide), if_neg (show ¬ (nI 119 : Int32) = 102 by decide), if_neg (show ¬ (nI 119 : Int32) = 103 by decide), if_neg (show ¬ (nI 119 : Int32) = 104 by decide), if_neg (show ¬ (nI 119 : Int32) = 105 by decide), if_neg (show ¬ (nI 119 : Int32) = 106 by decide), if_neg (show ¬ (nI 119 : Int32) = 107 by decide), if_neg (show ¬ (nI 119 : Int32) = 108 by decide), if_neg (show ¬ (nI 119 : Int32) = 109 by decide), if_neg (show ¬ (nI 119 : Int32) = 110 by decide), if_neg (show ¬ (nI 119 : Int32) = 111 by decide), if_neg (show ¬ (nI 119 : Int32) = 112 by decide), if_neg (show ¬ (nI 119 : Int32) = 113 by decide), if_neg (show ¬ (nI 119 : Int32) = 114 by decide), if_neg (show ¬ (nI 119 : Int32) = 115 by decide), if_neg (show ¬ (nI 119 : Int32) = 116 by decide), if_neg (show ¬ (nI 119 : Int32) = 117 by decide), if_neg (show ¬ (nI 119 : Int32) = 118 by decide), if_pos (show nI 119 = 119 from rfl)]
    exact R_sweep hR hG _
end CO
