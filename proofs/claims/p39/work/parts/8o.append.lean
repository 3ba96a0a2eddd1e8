section APP
variable {G : Nat → gM} {M : gM} {X Y X1 : Nat → Int32} {A B A1 : Nat → Nat → Int32} {t : Nat → Nat} {n : Nat}
/-- a character is not appended -/
theorem ap_bad (h : RT X A Y B t n) {p : Int32} (hp : p < 32 ∨ 126 < p ∨ 60 ≤ n) : f_X8_append Y B p = (-2, Y, B) := by
  obtain ⟨hn, e7, e9, hj⟩ := h
  unfold f_X8_append f_X8_in
  simp only [bd_x]
  by_cases a : p < 32
  · rw [if_pos a, if_pos rfl]
  · rw [if_neg a]
    by_cases b : p ≤ 126
    · rw [if_neg (Int32.not_lt.mpr b), if_neg (show ¬ (1 : Int32) = 0 by decide)]
      have n60 : n = 60 := by
        rcases hp with q | q | q
        · exact absurd q a
        · exact absurd q (Int32.not_lt.mpr b)
        · omega
      rw [if_pos (show Y 9 = 60 by rw [e9, n60]; rfl)]
    · rw [if_pos (Int32.not_le.mp b), if_pos rfl]
/-- a character is appended -/
theorem ap_ok (h : RT X A Y B t n) {ch : Nat} (h1 : 32 ≤ ch) (h2 : ch ≤ 126) (hn : n < 60) : f_X8_append Y B (nI ch) = (nI (n + 1), upd Y 9 (nI (n + 1)), up2 B 5 n (nI ch)) := by
  obtain ⟨-, e7, e9, hj⟩ := h
  unfold f_X8_append f_X8_in
  simp only [bd_x]
  rw [if_neg (show ¬ nI ch < 32 from nI_nlt (b := 32) (by omega) (by omega)), if_neg (show ¬ 126 < nI ch from nI_nlt (a := 126) (by omega) (by decide)), if_neg (show ¬ (1 : Int32) = 0 by decide), e9, if_neg (show ¬ nI n = 60 from fun q => by have := (nI_eq (a := n) (b := 60) (by omega) (by decide)).mp q; omega), nI_1, nI_clamp (show n < 2 ^ 31 by omega), upd_eq]
theorem RT.app (h : RT X A Y B t n) {ch : Nat} (h1 : 32 ≤ ch) (h2 : ch ≤ 126) (hn : n < 60) (e7 : X1 7 = nI (n + 1)) (ea : ∀ j, j < n → A1 4 j = A 4 j) (en : A1 4 n = sb_b ch) : RT X1 A1 (upd Y 9 (nI (n + 1))) (up2 B 5 n (nI ch)) (fun j => if j = n then ch else t j) (n + 1) := by
  obtain ⟨-, -, e9, hj⟩ := h
  refine ⟨hn, e7, upd_eq _ _ _, fun j hjn => ?_⟩
  rw [up2_eq]
  dsimp only
  by_cases e : j = n
  · subst e
    rw [if_pos rfl, upd_eq, en]
    exact ⟨(sb_byte ch (by omega)).1, rfl, h1, h2⟩
  · rw [if_neg e, upd_ne _ _ e, ea j (by omega)]
    exact hj j (by omega)
theorem RW.far {Z Y1 : Nat → Int32} {C B1 : Nat → Nat → Int32} (h : RW X A Y B) (x8 : Z 8 = X 8) (y7 : Y1 7 = Y 7) (a5 : C 5 = A 5) (b4 : B1 4 = B 4) : RW Z C Y1 B1 := by
  obtain ⟨n, hn, ex, ey, hj⟩ := h
  exact ⟨n, hn, x8.trans ex, y7.trans ey, fun j hjn => by rw [a5, b4]; exact hj j hjn⟩
theorem RT.far {Z Y1 : Nat → Int32} {C B1 : Nat → Nat → Int32} (h : RT X A Y B t n) (x7 : Z 7 = X 7) (y9 : Y1 9 = Y 9) (a4 : C 4 = A 4) (b5 : B1 5 = B 5) : RT Z C Y1 B1 t n := by
  obtain ⟨hn, ex, ey, hj⟩ := h
  exact ⟨hn, x7.trans ex, y9.trans ey, fun j hjn => by rw [a4, b5]; exact hj j hjn⟩
/-- what the class wants of a green that it describes -/
theorem dsc_r {f : Nat → Int32} (h : GR M f) : ∀ r : Nat, r < 4 → nI r < M.1 3 → ∀ j, j = 0 ∨ j = 1 ∨ j = 2 ∨ j = 4 → ¬ M.2.1 r j < 0 ∧ M.2.1 r j < nI 100 := by
  intro r hr hc j hj
  have g := (h.r (Nat.le_of_lt hr) (Int32.not_le.mpr hc)).2
  have lt : ∀ {x : Int32} {N : Nat}, vp_in x N → N ≤ 100 → ¬ x < 0 ∧ x < nI 100 := fun hv hN => by
    obtain ⟨i, hi, rfl⟩ := vp_in_of hv (by omega)
    exact ⟨nI_pos (by omega), nI_lt (by omega) (by decide)⟩
  rcases hj with rfl | rfl | rfl | rfl
  · exact lt g.1 (by decide)
  · exact lt g.2.1 (by decide)
  · exact lt g.2.2.1 (by decide)
  · exact lt g.2.2.2.2.1 (by decide)
theorem dsc_w {f : Nat → Int32} (h : GR M f) : ∀ w : Nat, w < 16 → nI w < M.1 4 → ¬ M.2.2.1 w 6 < 0 ∧ M.2.2.1 w 6 < nI 10000 := by
  intro w hw hc
  have g := (h.w (Nat.le_of_lt hw) (Int32.not_le.mpr hc)).2.1.2.2.2
  obtain ⟨i, hi, e⟩ := vp_in_of g (by decide)
  rw [e]
  exact ⟨nI_pos (by omega), nI_lt (by omega) (by decide)⟩
end APP
