/-- an order's parts by its letter -/
def pat (c : Nat) : List Nat := if c = 98 then [100, 44, 110, 64, 110, 42, 110, 43] else if c = 101 then [100, 58, 110] else if c = 104 then [110] else if c = 99 then [100] else if c = 114 then [100] else if c = 115 then [100] else if c = 116 then [100] else if c = 119 then [100] else []
/-- an order, read from a place -/
def pR (t : Nat → Nat) (n i : Nat) (F : Nat → Int32) : Bool × Nat × (Nat → Int32) := if i < n ∧ (pat (t i)).length ≠ 0 then pO t n (pat (t i)) 0 (i + 1) F else (false, i, F)
section PR
variable {M : gM} {X Y : Nat → Int32} {A B : Nat → Nat → Int32} {t : Nat → Nat} {n : Nat}
def nG : gM := (fun _ => 0, fun _ _ => 0, fun _ _ => 0, fun _ _ => 0)
theorem form_0 {p : Int32} : f_X2_formOf M X A p = f_X2_formOf nG (fun _ => 0) (fun _ _ => 0) p := rfl
theorem pat_all : ∀ c, c < 127 → lenS.getD (f_X2_formOf nG (fun _ => 0) (fun _ _ => 0) (nI c)) 0 = (pat c).length ∧ (∀ k, k < 9 → k < (pat c).length → chS (f_X2_formOf nG (fun _ => 0) (fun _ _ => 0) (nI c)) k = nI ((pat c).getD k 0)) ∧ (∀ k, k < 9 → (pat c).getD k 0 < 1000) ∧ kc (pat c) ≤ 5 ∧ (pat c).length ≤ 8 := by decide +kernel
theorem mul5 : ∀ s, s < 100 → nI s * 5 = nI (5 * s) := by decide +kernel
theorem cl_order {i s : Nat} {F : Nat → Int32} (h : RT X A Y B t n) (hi : i ≤ n) (hs : s < 30) (ei : X 5 = nI i) (hF : ∀ j, j < 5 → A 1 (5 * s + j) = F j) :
    (f_X2_readOrder M X A (nI s)).1 = (if (pR t n i F).1 = true then 1 else 0) ∧ (f_X2_readOrder M X A (nI s)).2.1 5 = nI (pR t n i F).2.1 ∧ (∀ j, j ≠ 5 → (f_X2_readOrder M X A (nI s)).2.1 j = X j) ∧ (∀ j, j ≠ 0 → j ≠ 1 → (f_X2_readOrder M X A (nI s)).2.2 j = A j) ∧
      ((pR t n i F).1 = true → (f_X2_readOrder M X A (nI s)).2.2 0 s = nI (t i)) ∧ (∀ j, j ≠ s → (f_X2_readOrder M X A (nI s)).2.2 0 j = A 0 j) ∧ (∀ j, j < 5 → (f_X2_readOrder M X A (nI s)).2.2 1 (5 * s + j) = (pR t n i F).2.2 j) ∧ (∀ j, (j < 5 * s ∨ 5 * s + 5 ≤ j) → (f_X2_readOrder M X A (nI s)).2.2 1 j = A 1 j) ∧ (pR t n i F).2.1 ≤ n := by
  have h0 := h
  obtain ⟨hn, e7, e9, hj⟩ := h
  unfold f_X2_readOrder pR
  simp only [bd_x]
  rw [e7, ei, nI_clamp (show i < 2 ^ 31 by omega), nI_clamp (show s < 2 ^ 31 by omega)]
  by_cases a : i < n
  · obtain ⟨j1, j2, j3, j4⟩ := hj i a
    have u0 : up2 A 0 s (nI (t i)) 0 s = nI (t i) := by rw [up2_eq, upd_eq]
    rw [if_pos (nI_lt a (by omega)), j1, u0, form_0]
    obtain ⟨p1, p2, p3, p4, p5⟩ := pat_all (t i) (by omega)
    generalize f_X2_formOf nG (fun _ => 0) (fun _ _ => 0) (nI (t i)) = z4 at p1 p2 ⊢
    rw [p1]
    by_cases b : (pat (t i)).length = 0
    · rw [if_pos (show nI (pat (t i)).length = 0 by rw [b]; rfl), if_neg (show ¬ (1 : Int32) = 0 by decide), if_neg (show ¬ (i < n ∧ (pat (t i)).length ≠ 0) from fun q => q.2 b)]
      refine ⟨(if_neg Bool.false_ne_true).symm, ei, fun _ _ => rfl, fun j a0 a1 => up2_ne _ _ _ a0, fun q => absurd q Bool.false_ne_true, fun j hjs => ?_, fun j hj5 => ?_, fun j hjo => ?_, hi⟩
      · dsimp only
        rw [up2_eq, upd_ne _ _ hjs]
      · dsimp only
        rw [up2_ne _ _ _ (by decide)]; exact hF j hj5
      · dsimp only
        rw [up2_ne _ _ _ (by decide)]
    · rw [if_neg (show ¬ nI (pat (t i)).length = 0 from nI_ne0 (by omega) (by omega)), if_pos (show (0 : Int32) = 0 from rfl), if_pos (show i < n ∧ (pat (t i)).length ≠ 0 from ⟨a, b⟩), nI_1, mul5 s (by omega)]
      obtain ⟨r1, r2, r3, r4, r5, r6, r7⟩ := cl_order_l (M := M) (Y := Y) (B := B) (t := t) (n := n) (z4 := z4) (s := s) (p2 := nI s) (pat := pat (t i)) (by omega) p1 (by omega) (fun k hk => p2 k (by omega) hk) (fun k => by
        by_cases k9 : k < 9
        · exact p3 k k9
        · have hno : (pat (t i))[k]? = none := List.getElem?_eq_none (by omega)
          simp [List.getD, hno]) (pat (t i)) 0 0 (i + 1) F 9 (upd X 5 (nI (i + 1))) (up2 A 0 s (nI (t i))) rfl (Nat.zero_le _) (by omega) (by omega) a ⟨hn, (upd_ne _ _ (by decide)).trans e7, e9, fun j hjn => by rw [up2_ne _ _ _ (by decide)]; exact hj j hjn⟩ (upd_eq _ _ _) (fun j hj5 => by rw [up2_ne _ _ _ (by decide)]; exact hF j hj5)
      rw [Nat.add_zero] at r1 r2 r3 r4 r5 r6
      refine ⟨r1, r2, fun j hj5 => (r3 j hj5).trans (upd_ne _ _ hj5), fun j a0 a1 => (r4 j a1).trans (up2_ne _ _ _ a0), fun _ => ?_, fun j hjs => ?_, r5, fun j hjo => (r6 j hjo).trans ?_, r7⟩
      · rw [r4 0 (by decide)]; exact u0
      · rw [r4 0 (by decide), up2_eq, upd_ne _ _ hjs]
      · rw [up2_ne _ _ _ (by decide)]
  · rw [if_neg (show ¬ nI i < nI n from nI_nlt (by omega) (by omega)), if_neg (show ¬ (i < n ∧ (pat (t i)).length ≠ 0) from fun q => a q.1)]
    exact ⟨(if_neg Bool.false_ne_true).symm, ei, fun _ _ => rfl, fun _ _ _ => rfl, fun q => absurd q Bool.false_ne_true, fun _ _ => rfl, hF, fun _ _ => rfl, hi⟩
/-- the reference's digits, side -/
theorem rf_dig (h : RT X A Y B t n) {m i q : Nat} (hm : m = 1 ∨ m = 2) (hi : i ≤ n) (ei : Y 10 = nI i) (hq : q < 5) : ∃ Y1 B1, f_X8_digits Y B (nI q) (nI m) = (if (pD t n m 0 i).1 = 0 then 0 else 1, Y1, B1) ∧ Y1 10 = nI (pD t n m 0 i).2.2 ∧ (∀ j, j ≠ 10 → Y1 j = Y j) ∧ B1 6 q = nI (pD t n m 0 i).2.1 ∧ (∀ j, j ≠ 6 → B1 j = B j) ∧ (∀ j, j ≠ q → B1 6 j = B 6 j) := by
  have h2 : RT X A Y (up2 B 6 q 0) t n := ⟨h.1, h.2.1, h.2.2.1, fun j hj => by rw [up2_ne _ _ _ (by decide)]; exact h.2.2.2 j hj⟩
  obtain ⟨r1, r2, r3, r4, r5, r6⟩ := rf_dig_l (X := X) (A := A) hq m 0 i 0 3 Y (up2 B 6 q 0) h2 (by omega) hi (by omega) (Or.inr ⟨by decide, Or.inl rfl⟩) ei (by rw [up2_eq, upd_eq]; rfl)
  rw [Nat.zero_add] at r1 r2 r3 r4 r5 r6
  rw [Nat.zero_add] at r1
  have e0 : f_X8_digits_l9 (nI q) (nI m) 3 0 Y (up2 B 6 (nI q).toNatClampNeg 0) = f_X8_digits_l9 (nI q) (nI m) 3 (nI 0) Y (up2 B 6 q 0) := by rw [nI_clamp (by omega)]; rfl
  unfold f_X8_digits
  simp only [bd_x]
  rw [e0]
  generalize f_X8_digits_l9 (nI q) (nI m) 3 (nI 0) Y (up2 B 6 q 0) = z at r1 r2 r3 r4 r5 r6 ⊢
  refine ⟨z.2.1, z.2.2, ?_, r3, r4, r2, fun j hj => (r5 j hj).trans (up2_ne _ _ _ hj), fun j hj => (r6 j hj).trans ?_⟩
  · rw [r1]
    have hc := pD_cnt (t := t) (n := n) m 0 i
    by_cases c : (pD t n m 0 i).1 = 0
    · rw [if_pos c, c, if_pos (show nI 0 ≤ 0 by decide)]
    · rw [if_neg c, if_neg (nI_nle (by omega) (by omega))]
  · rw [up2_eq, upd_ne _ _ hj]
theorem rf_side (h : RT X A Y B t n) {i : Nat} (hi : i ≤ n) (ei : Y 10 = nI i) : f_X8_side Y B =
    if (pS t n 43 i).1 = true then (1, upd (upd Y 10 (nI (i + 1))) 13 1) else if (pS t n 45 i).1 = true then (1, upd (upd Y 13 0) 10 (nI (i + 1))) else (0, upd Y 13 0) := by
  unfold f_X8_side
  simp only [bd_x]
  rw [rf_sign h (c := 43) (p := 43) hi (by decide) ei rfl]
  by_cases a : (pS t n 43 i).1 = true
  · simp only [if_pos a, upd_eq]
    rw [if_neg (show ¬ (1 : Int32) = 0 by decide)]
  · simp only [if_neg a, upd_eq]
    rw [if_pos trivial]
    have h2 : RT X A (upd Y 13 0) B t n := ⟨h.1, h.2.1, (upd_ne _ _ (by decide)).trans h.2.2.1, h.2.2.2⟩
    rw [rf_sign h2 (c := 45) (p := 45) hi (by decide) ((upd_ne _ _ (by decide)).trans ei) rfl]
    by_cases b : (pS t n 45 i).1 = true
    · simp only [if_pos b]
      rw [if_neg (show ¬ (1 : Int32) = 0 by decide)]
    · simp only [if_neg b]
      rw [if_pos trivial]
end PR
