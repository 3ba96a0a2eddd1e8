theorem sw_out6 (x : Int32) (h0 : ¬ x = 0) (h1 : ¬ x = 1) (h2 : ¬ x = 2) (h3 : ¬ x = 3) (h4 : ¬ x = 4) (h5 : ¬ x = 5) : x.toInt < 0 ∨ 5 < x.toInt := by
  by_cases a : x < 0
  · exact Or.inl (by have q := Int32.lt_iff_toInt_lt.mp a; rw [Int32.toInt_zero] at q; exact q)
  · obtain ⟨j, hj, rfl⟩ := nI_of a
    have q : 5 < j := by
      rcases (show j = 0 ∨ j = 1 ∨ j = 2 ∨ j = 3 ∨ j = 4 ∨ j = 5 ∨ 5 < j by omega) with rfl | rfl | rfl | rfl | rfl | rfl | q
      · exact absurd rfl h0
      · exact absurd rfl h1
      · exact absurd rfl h2
      · exact absurd rfl h3
      · exact absurd rfl h4
      · exact absurd rfl h5
      · exact q
    rw [nI_toInt hj]
    omega
theorem sw_out8 (x : Int32) (h0 : ¬ x = 0) (h1 : ¬ x = 1) (h2 : ¬ x = 2) (h3 : ¬ x = 3) (h4 : ¬ x = 4) (h5 : ¬ x = 5) (h6 : ¬ x = 6) (h7 : ¬ x = 7) : x.toInt < 0 ∨ 7 < x.toInt := by
  by_cases a : x < 0
  · exact Or.inl (by have q := Int32.lt_iff_toInt_lt.mp a; rw [Int32.toInt_zero] at q; exact q)
  · obtain ⟨j, hj, rfl⟩ := nI_of a
    have q : 7 < j := by
      rcases (show j = 0 ∨ j = 1 ∨ j = 2 ∨ j = 3 ∨ j = 4 ∨ j = 5 ∨ j = 6 ∨ j = 7 ∨ 7 < j by omega) with rfl | rfl | rfl | rfl | rfl | rfl | rfl | rfl | q
      · exact absurd rfl h0
      · exact absurd rfl h1
      · exact absurd rfl h2
      · exact absurd rfl h3
      · exact absurd rfl h4
      · exact absurd rfl h5
      · exact absurd rfl h6
      · exact absurd rfl h7
      · exact q
    rw [nI_toInt hj]
    omega
theorem sw_out9 (x : Int32) (h0 : ¬ x = 0) (h1 : ¬ x = 1) (h2 : ¬ x = 2) (h3 : ¬ x = 3) (h4 : ¬ x = 4) (h5 : ¬ x = 5) (h6 : ¬ x = 6) (h7 : ¬ x = 7) (h8 : ¬ x = 8) : x.toInt < 0 ∨ 8 < x.toInt := by
  by_cases a : x < 0
  · exact Or.inl (by have q := Int32.lt_iff_toInt_lt.mp a; rw [Int32.toInt_zero] at q; exact q)
  · obtain ⟨j, hj, rfl⟩ := nI_of a
    have q : 8 < j := by
      rcases (show j = 0 ∨ j = 1 ∨ j = 2 ∨ j = 3 ∨ j = 4 ∨ j = 5 ∨ j = 6 ∨ j = 7 ∨ j = 8 ∨ 8 < j by omega) with rfl | rfl | rfl | rfl | rfl | rfl | rfl | rfl | rfl | q
      · exact absurd rfl h0
      · exact absurd rfl h1
      · exact absurd rfl h2
      · exact absurd rfl h3
      · exact absurd rfl h4
      · exact absurd rfl h5
      · exact absurd rfl h6
      · exact absurd rfl h7
      · exact absurd rfl h8
      · exact q
    rw [nI_toInt hj]
    omega
theorem sw_out15 (x : Int32) (h0 : ¬ x = 0) (h1 : ¬ x = 1) (h2 : ¬ x = 2) (h3 : ¬ x = 3) (h4 : ¬ x = 4) (h5 : ¬ x = 5) (h6 : ¬ x = 6) (h7 : ¬ x = 7) (h8 : ¬ x = 8) (h9 : ¬ x = 9) (h10 : ¬ x = 10) (h11 : ¬ x = 11) (h12 : ¬ x = 12) (h13 : ¬ x = 13) (h14 : ¬ x = 14) : x.toInt < 0 ∨ 14 < x.toInt := by
  by_cases a : x < 0
  · exact Or.inl (by have q := Int32.lt_iff_toInt_lt.mp a; rw [Int32.toInt_zero] at q; exact q)
  · obtain ⟨j, hj, rfl⟩ := nI_of a
    have q : 14 < j := by
      rcases (show j = 0 ∨ j = 1 ∨ j = 2 ∨ j = 3 ∨ j = 4 ∨ j = 5 ∨ j = 6 ∨ j = 7 ∨ j = 8 ∨ j = 9 ∨ j = 10 ∨ j = 11 ∨ j = 12 ∨ j = 13 ∨ j = 14 ∨ 14 < j by omega) with rfl | rfl | rfl | rfl | rfl | rfl | rfl | rfl | rfl | rfl | rfl | rfl | rfl | rfl | rfl | q
      · exact absurd rfl h0
      · exact absurd rfl h1
      · exact absurd rfl h2
      · exact absurd rfl h3
      · exact absurd rfl h4
      · exact absurd rfl h5
      · exact absurd rfl h6
      · exact absurd rfl h7
      · exact absurd rfl h8
      · exact absurd rfl h9
      · exact absurd rfl h10
      · exact absurd rfl h11
      · exact absurd rfl h12
      · exact absurd rfl h13
      · exact absurd rfl h14
      · exact q
    rw [nI_toInt hj]
    omega
theorem sw_out98_22 (x : Int32) (h0 : ¬ x = 98) (h1 : ¬ x = 99) (h2 : ¬ x = 100) (h3 : ¬ x = 101) (h4 : ¬ x = 102) (h5 : ¬ x = 103) (h6 : ¬ x = 104) (h7 : ¬ x = 105) (h8 : ¬ x = 106) (h9 : ¬ x = 107) (h10 : ¬ x = 108) (h11 : ¬ x = 109) (h12 : ¬ x = 110) (h13 : ¬ x = 111) (h14 : ¬ x = 112) (h15 : ¬ x = 113) (h16 : ¬ x = 114) (h17 : ¬ x = 115) (h18 : ¬ x = 116) (h19 : ¬ x = 117) (h20 : ¬ x = 118) (h21 : ¬ x = 119) : x.toInt < 98 ∨ 119 < x.toInt := by
  by_cases a : x < 0
  · exact Or.inl (by have q := Int32.lt_iff_toInt_lt.mp a; rw [Int32.toInt_zero] at q; omega)
  · obtain ⟨j, hj, rfl⟩ := nI_of a
    have q : j < 98 ∨ 119 < j := by
      rcases (show j = 98 ∨ j = 99 ∨ j = 100 ∨ j = 101 ∨ j = 102 ∨ j = 103 ∨ j = 104 ∨ j = 105 ∨ j = 106 ∨ j = 107 ∨ j = 108 ∨ j = 109 ∨ j = 110 ∨ j = 111 ∨ j = 112 ∨ j = 113 ∨ j = 114 ∨ j = 115 ∨ j = 116 ∨ j = 117 ∨ j = 118 ∨ j = 119 ∨ (j < 98 ∨ 119 < j) by omega) with rfl | rfl | rfl | rfl | rfl | rfl | rfl | rfl | rfl | rfl | rfl | rfl | rfl | rfl | rfl | rfl | rfl | rfl | rfl | rfl | rfl | rfl | q
      · exact absurd rfl h0
      · exact absurd rfl h1
      · exact absurd rfl h2
      · exact absurd rfl h3
      · exact absurd rfl h4
      · exact absurd rfl h5
      · exact absurd rfl h6
      · exact absurd rfl h7
      · exact absurd rfl h8
      · exact absurd rfl h9
      · exact absurd rfl h10
      · exact absurd rfl h11
      · exact absurd rfl h12
      · exact absurd rfl h13
      · exact absurd rfl h14
      · exact absurd rfl h15
      · exact absurd rfl h16
      · exact absurd rfl h17
      · exact absurd rfl h18
      · exact absurd rfl h19
      · exact absurd rfl h20
      · exact absurd rfl h21
      · exact q
    rw [nI_toInt hj]
    omega
