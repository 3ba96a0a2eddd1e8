/-! ===== two scripts of the law ===== -/
set_option maxRecDepth 100000
section G2
variable {M N : gM} {X Y : Nat → Int32} {A B : Nat → Nat → Int32} {G : Nat → gM} {f : Nat → Int32} {b : cB} {hh : Nat → gM} {n : Nat} {sv : Option gM} {t t' : Nat → Nat} {k : Nat}
theorem OBx.txt (hO : OBx G M X A b hh n sv t k) (h : ∀ j, j < k → t j = t' j) : OBx G M X A b hh n sv t' k := by
  obtain ⟨⟨Y, B, hL, h1, h2, h3, h4⟩, hr⟩ := hO
  exact ⟨⟨Y, B, hL, h1, h2, h3, fun j hj => by rw [← h j hj]; exact h4 j hj⟩, hr⟩
theorem v6 (h : GR M f) : vp_in (M.1 6) 10 := by
  obtain ⟨-, -, h1, -⟩ := h
  first
    | exact h1.2.2.2.1
    | exact h1.2.2.1
    | exact h1.2.1
theorem nat_c {k : Nat} (hk : k < 100) : (nI k).toNatClampNeg = k := nI_clamp (by omega)
theorem carry_r {k : Nat} (hk : k < 100) (e : A 0 k = 114) : f_X7_carryOut M X A (nI k) = f_X7_setRain M X A (A 1 (k * 5)) := by
  unfold f_X7_carryOut f_X2_number
  simp only [bd_x, nat_c hk, e, if_neg (show ¬ (114 : Int32) = 98 by decide), if_neg (show ¬ (114 : Int32) = 99 by decide), if_neg (show ¬ (114 : Int32) = 100 by decide), if_neg (show ¬ (114 : Int32) = 101 by decide), if_neg (show ¬ (114 : Int32) = 102 by decide), if_neg (show ¬ (114 : Int32) = 103 by decide), if_neg (show ¬ (114 : Int32) = 104 by decide), if_neg (show ¬ (114 : Int32) = 105 by decide), if_neg (show ¬ (114 : Int32) = 106 by decide), if_neg (show ¬ (114 : Int32) = 107 by decide), if_neg (show ¬ (114 : Int32) = 108 by decide), if_neg (show ¬ (114 : Int32) = 109 by decide), if_neg (show ¬ (114 : Int32) = 110 by decide), if_neg (show ¬ (114 : Int32) = 111 by decide), if_neg (show ¬ (114 : Int32) = 112 by decide), if_neg (show ¬ (114 : Int32) = 113 by decide), if_true]
  rfl
theorem carry_h {k : Nat} (hk : k < 100) (e : A 0 k = 104) : f_X7_carryOut M X A (nI k) = f_X7_passHours M X A (A 1 (k * 5)) := by
  unfold f_X7_carryOut f_X2_number
  simp only [bd_x, nat_c hk, e, if_neg (show ¬ (104 : Int32) = 98 by decide), if_neg (show ¬ (104 : Int32) = 99 by decide), if_neg (show ¬ (104 : Int32) = 100 by decide), if_neg (show ¬ (104 : Int32) = 101 by decide), if_neg (show ¬ (104 : Int32) = 102 by decide), if_neg (show ¬ (104 : Int32) = 103 by decide), if_true]
  rfl
theorem isc_no {a : Int32} {N : Nat} (h : vp_in a N) : f_X7_isCode M X A a = 0 := by
  unfold f_X7_isCode
  rw [if_neg (fun e => vp_nc h (Or.inl e)), if_neg (fun e => vp_nc h (Or.inr (Or.inl e))), if_neg (fun e => vp_nc h (Or.inr (Or.inr e)))]
/-- rain, then no hours -/
theorem carry_rh (hG : GR M f) (h4 : X 4 = nI 2) (a0 : A 0 0 = 114) (a1 : A 0 1 = 104) (n0 : A 1 0 = 1) (n1 : A 1 5 = 0) : (f_X7_carryOutOrders G M X A).1 = -3 ∧ (f_X7_carryOutOrders G M X A).2.2.1 6 = 1 ∧ (f_X7_carryOutOrders G M X A).2.2.2 2 0 = 12 ∧ (f_X7_carryOutOrders G M X A).2.2.2 3 0 = 1 := by
  have r1 : f_X7_carryOut M X A (nI 0) = (M.1 6, sg M 6 1, X, A) := by
    rw [carry_r (by decide) a0, show A 1 (0 * 5) = 1 from n0]
    have q := rain_ok (M := M) (X := X) (A := A) (p := 1) (vp_in_nI (n := 1) (by decide) (by decide))
    unfold f_X7_setRain at q ⊢
    simp only [bd_x] at q ⊢
    rw [if_neg (wth (p := 1) (vp_in_nI (n := 1) (by decide) (by decide)))]
  have r2 : f_X7_carryOut (sg M 6 1) X A (nI 1) = (-2, sg M 6 1, X, A) := by
    rw [carry_h (by decide) a1, show A 1 (1 * 5) = 0 from n1]
    unfold f_X7_passHours
    rw [if_pos (show (0 : Int32) < 1 by decide)]
  have e0 : ¬ X 4 ≤ nI 0 := by rw [h4]; decide
  have e1 : ¬ X 4 ≤ nI (0 + 1) := by rw [h4]; decide
  have c2 : ¬ f_X7_isCode (sg M 6 1) X A (-2) = 0 := by
    unfold f_X7_isCode
    rw [if_neg (show ¬ (-2 : Int32) = -1 by decide), if_pos rfl]
    decide
  unfold f_X7_carryOutOrders
  rw [f_X7_carryOutOrders_l2, if_neg e0]
  simp only [bd_x, r1, isc_no (v6 hG), if_true]
  rw [f_X7_carryOutOrders_l2, if_neg e1]
  simp only [bd_x, r2, if_neg c2]
  unfold f_X7_refuseScript f_X4_put f_X4_empty
  simp only [bd_x, if_neg (show ¬ (-2 : Int32) = -3 by decide), upd_eq, if_neg (show ¬ (3 : Int32) ≤ 0 by decide)]
  refine ⟨?_, ?_, ?_, ?_⟩ <;> first | trivial | rfl
def tz : Nat → Nat := fun j => [122].getD j 0
def tr : Nat → Nat := fun j => [114, 49, 59, 104, 48].getD j 0
theorem pz : (pA tz 1 31 0).1 = false ∧ (pA tz 1 31 0).2.1 = 0 := by decide +kernel
theorem pr : (pA tr 5 31 0).1 = true ∧ (pA tr 5 31 0).2.2 = [0, 3] := by decide +kernel
theorem pr2 : (pR tr 5 0 (fun _ => 0)).2.2 0 = 1 ∧ (pR tr 5 3 (fun _ => 0)).2.2 0 = 0 := by decide +kernel
theorem u976 (Z : Nat → Int32) (a b : Int32) : upd (upd Z 9 a) 7 b 6 = Z 6 := by rw [upd_ne _ _ (by decide), upd_ne _ _ (by decide)]
theorem scr_rh (hO : OBx G M X A b hh n sv tr 5) {f1 : Nat → Int32} : ∀ z, z = f_X7_script G M X A f1 → z.1 = -3 ∧ z.2.2.2.1 6 = 1 ∧ z.2.2.2.2 2 0 = 12 ∧ z.2.2.2.2 3 0 = 1 := by
  intro z hz
  obtain ⟨⟨Y, B, hL, hT⟩, -⟩ := hO
  have hT' : RT (upd (upd X 4 0) 5 0) A Y B tr 5 := ⟨hT.1, by rw [upd_ne _ _ (by decide), upd_ne _ _ (by decide)]; exact hT.2.1, hT.2.2⟩
  obtain ⟨c1, c2, c3, c4, c5, c6, c7⟩ := cl_read (M := M) (Y := Y) (B := B) 31 0 0 (upd (upd X 4 0) 5 0) A rfl (by decide) hT' (by decide) rfl rfl
  obtain ⟨p1, p2⟩ := pr
  obtain ⟨c8, c9⟩ := c7 p1
  rw [p2] at c8 c9
  have hrd : f_X2_read M X A = f_X2_read_l12 M 31 0 (upd (upd X 4 0) 5 0) A := rfl
  rw [← hrd] at c1 c2 c3 c4 c5 c6 c8 c9
  rw [if_pos p1] at c1
  obtain ⟨-, m1, m2⟩ := c9 0 (by decide)
  obtain ⟨-, m3, m4⟩ := c9 1 (by decide)
  have hcr := carry_rh (G := f_X3_note G M X A) (M := M) (X := (f_X2_read M X A).2.1) (A := (f_X2_read M X A).2.2) hL.1 c8 m1 m3 ((m2 0 (by decide)).trans pr2.1) ((m4 0 (by decide)).trans pr2.2)
  obtain ⟨r1, r2, r3, r4⟩ := hcr
  have hs : z = f_X7_script G M X A f1 := hz
  unfold f_X7_script at hs
  simp only [bd_x] at hs
  rw [if_neg (by rw [c1]; decide)] at hs
  subst hs
  refine ⟨?_, ?_, ?_, ?_⟩
  · show (f_X7_settle _ _ _ _).1 = _
    rw [set_1]
    exact r1
  · show (f_X7_settle _ _ _ _).2 6 = _
    unfold f_X7_settle
    simp only [bd_x]
    rw [r1, if_neg (by unfold f_X7_isCode; rw [if_neg (show ¬ (-3 : Int32) = -1 by decide), if_neg (show ¬ (-3 : Int32) = -2 by decide), if_pos rfl]; decide)]
    dsimp only
    rw [u976]
    exact r2
  · exact r3
  · exact r4
theorem re_rh (h6 : X 6 = 1) (h2 : A 2 0 = 12) (h3 : A 3 0 = 1) : f_X7_reason M X A 0 0 = 12 ∧ f_X7_reason M X A 0 1 = 1 ∧ f_X7_reason M X A 1 0 = -4 := by
  have s : ((1 : Int32) - 1 - 0).toNatClampNeg = 0 := by decide
  unfold f_X7_reason f_X4_tell
  simp only [bd_x, h6, if_pos (show (0 : Int32) ≤ 0 by decide), if_pos (show (0 : Int32) ≤ 1 by decide), if_pos (show (0 : Int32) < 1 by decide), if_neg (show ¬ (1 : Int32) < 1 by decide), if_neg (show ¬ (1 : Int32) = 0 by decide), if_true, s, h2, h3]
  exact ⟨trivial, trivial, trivial⟩
end G2
