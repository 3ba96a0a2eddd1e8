section RO3
variable {M : gM} {X Y : Nat → Int32} {A B : Nat → Nat → Int32} {t : Nat → Nat} {n : Nat}
theorem wfo_all : ∀ c, c < 127 → wfo (pat c) 0 = true := by decide +kernel
theorem rO_d (h : RT X A Y B t n) {i m c : Nat} (hm : (m = 1 ∧ c = 100) ∨ (m = 2 ∧ c = 110)) (hi : i ≤ n) (ei : Y 10 = nI i) : rO [c] 0 Y B = f_X8_digits Y B (nI 0) (nI m) := by
  obtain ⟨Y1, B1, d1, -⟩ := rf_dig h (m := m) (q := 0) (hm.elim (fun q => Or.inl q.1) (fun q => Or.inr q.1)) hi ei (by decide)
  rcases hm with ⟨rfl, rfl⟩ | ⟨rfl, rfl⟩
  · rw [d1]
    unfold rO
    rw [if_neg (by decide), if_pos rfl, d1, bd_x]
    by_cases s : (pD t n 1 0 i).1 = 0
    · simp only [if_pos s, if_pos]
    · simp only [if_neg s, if_neg (show ¬ (1 : Int32) = 0 by decide)]
      rfl
  · rw [d1]
    unfold rO
    rw [if_neg (by decide), if_neg (by decide), if_pos rfl, d1, bd_x]
    by_cases s : (pD t n 2 0 i).1 = 0
    · simp only [if_pos s, if_pos]
    · simp only [if_neg s, if_neg (show ¬ (1 : Int32) = 0 by decide)]
      rfl
/-- an order, as the reference reads it -/
theorem rf_order {i : Nat} {F : Nat → Int32} (h : RT X A Y B t n) (hi : i ≤ n) (ei : Y 10 = nI i) (hF : ∀ j, j < 4 → B 6 j = F j) :
    (f_X8_isOrder Y B).1 = (if (pR t n i F).1 = true then 1 else 0) ∧ (f_X8_isOrder Y B).2.1 10 = nI (pR t n i F).2.1 ∧ (∀ j, j ≠ 10 → j ≠ 11 → j ≠ 13 → (f_X8_isOrder Y B).2.1 j = Y j) ∧ (∀ j, j ≠ 6 → (f_X8_isOrder Y B).2.2 j = B j) ∧ (∀ j, j < 4 → (f_X8_isOrder Y B).2.2 6 j = (pR t n i F).2.2 j) ∧
      ((pR t n i F).1 = true → (f_X8_isOrder Y B).2.1 11 = nI (t i)) ∧ ((pR t n i F).1 = true → t i = 98 → (f_X8_isOrder Y B).2.1 13 = (pR t n i F).2.2 4) := by
  have h0 := h
  obtain ⟨hn, e7, e9, hj⟩ := h
  unfold pR
  by_cases a : i < n
  · have hne : ¬ Y 10 = Y 9 := fun q => by
      rw [ei, e9] at q
      have := (nI_eq (by omega) (by omega)).mp q
      omega
    obtain ⟨j1, j2, j3, j4⟩ := hj i a
    have hL : B 5 (Y 10).toNatClampNeg = nI (t i) := by rw [ei, nI_clamp (by omega)]; exact j2
    have y10 : upd Y 11 (nI (t i)) 10 + 1 = nI (i + 1) := by rw [upd_ne _ _ (by decide), ei, nI_1]
    have y2 : ∀ j, j ≠ 10 → j ≠ 11 → upd (upd Y 11 (nI (t i))) 10 (nI (i + 1)) j = Y j := fun j x y => (upd_ne _ _ x).trans (upd_ne _ _ y)
    have rt : RT X A (upd (upd Y 11 (nI (t i))) 10 (nI (i + 1))) B t n := ⟨hn, e7, (y2 9 (by decide) (by decide)).trans e9, hj⟩
    -- the read parts
    have main : (pat (t i)).length ≠ 0 → f_X8_isOrder Y B = rO (pat (t i)) 0 (upd (upd Y 11 (nI (t i))) 10 (nI (i + 1))) B → (t i = 98 → 43 ∈ pat (t i)) → (f_X8_isOrder Y B).1 = (if (pO t n (pat (t i)) 0 (i + 1) F).1 = true then 1 else 0) ∧ (f_X8_isOrder Y B).2.1 10 = nI (pO t n (pat (t i)) 0 (i + 1) F).2.1 ∧ (∀ j, j ≠ 10 → j ≠ 11 → j ≠ 13 → (f_X8_isOrder Y B).2.1 j = Y j) ∧ (∀ j, j ≠ 6 → (f_X8_isOrder Y B).2.2 j = B j) ∧ (∀ j, j < 4 → (f_X8_isOrder Y B).2.2 6 j = (pO t n (pat (t i)) 0 (i + 1) F).2.2 j) ∧
        ((pO t n (pat (t i)) 0 (i + 1) F).1 = true → (f_X8_isOrder Y B).2.1 11 = nI (t i)) ∧ ((pO t n (pat (t i)) 0 (i + 1) F).1 = true → t i = 98 → (f_X8_isOrder Y B).2.1 13 = (pO t n (pat (t i)) 0 (i + 1) F).2.2 4) := fun hl e hm => by
      obtain ⟨a1, a2, a3, a4, a5, a6⟩ := rf_order_l (pat (t i)) 0 (i + 1) F _ B (wfo_all _ (by omega)) a rt (upd_eq _ _ _) hF
      rw [e]
      refine ⟨a1, a2, fun j x y z => (a3 j x z).trans (y2 j x y), a4, a5, fun _ => (a3 11 (by decide) (by decide)).trans ((upd_ne _ _ (by decide)).trans (upd_eq _ _ _)), fun q e98 => a6 (Or.inl (hm e98)) q⟩
    have lenne : ∀ c, t i = c → (pat c).length ≠ 0 → (i < n ∧ (pat (t i)).length ≠ 0) := fun c e hc => ⟨a, by rw [e]; exact hc⟩
    by_cases h98 : t i = 98
    · rw [if_pos (lenne 98 h98 (by decide))]
      refine main (lenne 98 h98 (by decide)).2 ?_ (fun _ => by rw [h98]; decide)
      rw [← y10]
      rw [h98] at hL ⊢
      exact io_98 hne hL
    by_cases h101 : t i = 101
    · rw [if_pos (lenne 101 h101 (by decide))]
      refine main (lenne 101 h101 (by decide)).2 ?_ (fun q => absurd q h98)
      rw [← y10]
      rw [h101] at hL ⊢
      exact io_101 hne hL
    by_cases h104 : t i = 104
    · rw [if_pos (lenne 104 h104 (by decide))]
      refine main (lenne 104 h104 (by decide)).2 ?_ (fun q => absurd q h98)
      have x := rO_d rt (m := 2) (c := 110) (Or.inr ⟨rfl, rfl⟩) a (upd_eq _ _ _)
      rw [← y10] at x ⊢
      rw [h104] at hL x ⊢
      exact (io_104 hne hL).trans x.symm
    by_cases h99 : t i = 99
    · rw [if_pos (lenne 99 h99 (by decide))]
      refine main (lenne 99 h99 (by decide)).2 ?_ (fun q => absurd q h98)
      have x := rO_d rt (m := 1) (c := 100) (Or.inl ⟨rfl, rfl⟩) a (upd_eq _ _ _)
      rw [← y10] at x ⊢
      rw [h99] at hL x ⊢
      exact (io_99 hne hL).trans x.symm
    by_cases h114 : t i = 114
    · rw [if_pos (lenne 114 h114 (by decide))]
      refine main (lenne 114 h114 (by decide)).2 ?_ (fun q => absurd q h98)
      have x := rO_d rt (m := 1) (c := 100) (Or.inl ⟨rfl, rfl⟩) a (upd_eq _ _ _)
      rw [← y10] at x ⊢
      rw [h114] at hL x ⊢
      exact (io_114 hne hL).trans x.symm
    by_cases h115 : t i = 115
    · rw [if_pos (lenne 115 h115 (by decide))]
      refine main (lenne 115 h115 (by decide)).2 ?_ (fun q => absurd q h98)
      have x := rO_d rt (m := 1) (c := 100) (Or.inl ⟨rfl, rfl⟩) a (upd_eq _ _ _)
      rw [← y10] at x ⊢
      rw [h115] at hL x ⊢
      exact (io_115 hne hL).trans x.symm
    by_cases h116 : t i = 116
    · rw [if_pos (lenne 116 h116 (by decide))]
      refine main (lenne 116 h116 (by decide)).2 ?_ (fun q => absurd q h98)
      have x := rO_d rt (m := 1) (c := 100) (Or.inl ⟨rfl, rfl⟩) a (upd_eq _ _ _)
      rw [← y10] at x ⊢
      rw [h116] at hL x ⊢
      exact (io_116 hne hL).trans x.symm
    by_cases h119 : t i = 119
    · rw [if_pos (lenne 119 h119 (by decide))]
      refine main (lenne 119 h119 (by decide)).2 ?_ (fun q => absurd q h98)
      have x := rO_d rt (m := 1) (c := 100) (Or.inl ⟨rfl, rfl⟩) a (upd_eq _ _ _)
      rw [← y10] at x ⊢
      rw [h119] at hL x ⊢
      exact (io_119 hne hL).trans x.symm
    have hp : pat (t i) = [] := by
      unfold pat
      rw [if_neg h98, if_neg h101, if_neg h104, if_neg h99, if_neg h114, if_neg h115, if_neg h116, if_neg h119]
    have nv : ∀ c : Nat, c < 1000 → t i ≠ c → ¬ nI (t i) = nI c := fun c hc q e => q ((nI_eq (by omega) (by omega)).mp e)
    rw [if_neg (show ¬ (i < n ∧ (pat (t i)).length ≠ 0) from fun q => q.2 (by rw [hp]; rfl)), io_no hne hL (nv 98 (by decide) h98) (nv 99 (by decide) h99) (nv 101 (by decide) h101) (nv 104 (by decide) h104) (nv 114 (by decide) h114) (nv 115 (by decide) h115) (nv 116 (by decide) h116) (nv 119 (by decide) h119)]
    exact ⟨(if_neg Bool.false_ne_true).symm, (show upd Y 11 (nI (t i)) 10 = nI i from (upd_ne _ _ (by decide)).trans ei), fun j _ y _ => upd_ne _ _ y, fun _ _ => rfl, hF, fun q => absurd q Bool.false_ne_true, fun q => absurd q Bool.false_ne_true⟩
  · have e : Y 10 = Y 9 := by rw [ei, e9, show i = n by omega]
    have ez : f_X8_isOrder Y B = (0, (Y, B)) := by
      unfold f_X8_isOrder
      rw [if_pos e]
    rw [if_neg (show ¬ (i < n ∧ (pat (t i)).length ≠ 0) from fun q => a q.1), ez]
    exact ⟨(if_neg Bool.false_ne_true).symm, ei, fun _ _ _ _ => rfl, fun _ _ => rfl, hF, fun q => absurd q Bool.false_ne_true, fun q => absurd q Bool.false_ne_true⟩
end RO3
