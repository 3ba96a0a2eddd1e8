set_option maxRecDepth 100000
section CG
variable {l : Launch} {D : gD} {cy : Nat → ClassId} {J : JT va_W} {L : Nat → Nat → Nat} {G : Nat → gM} {M : gM} {X : Nat → Int32} {A : Nat → Nat → Int32} {b : cB} {hh : Nat → gM} {n0 : Nat} {sv : Option gM} {t : Nat → Nat} {x r3 : Int32}
theorem cg_read (h : OKJ l D cy wI J cL_changes 4 yL_changes rm_L_changes) (hR : RtWZ D (CW cy L) J cL_changes (STEP M hh n0 sv) 24 4480) (hO : OBx G M X A b hh n0 sv t 0) {s r n : Nat} {g : Nat → Int32} (hn : n ≤ 20) (hC : ∀ j, j < n → CH (g j)) : J ([(s, .inr (9, [.ref r, .int 0, .int 0, .int 0])), (r, .inl (cy 5, n, .inl g))] ++ CW cy L ((va_up G 0 M, X, A), b)) (4, 40) [(2, .int r3), (0, .ref (L 11 0)), (1, .int x)] 490 [.ref s, .ref (L 11 0)] := by
  have hT : ∀ j, j < n → g j &&& 255 = nI ((g j &&& 255).toNatClampNeg) ∧ 32 ≤ (g j &&& 255).toNatClampNeg ∧ (g j &&& 255).toNatClampNeg ≤ 126 := fun j hj => by
    obtain ⟨c, e, h1, h2⟩ := hC j hj
    rw [e, nI_clamp (by omega)]
    exact ⟨rfl, h1, h2⟩
  refine j_bS h (n := 2) (c_L_readsW l D cy hO (x := s) (v := r) (ha := .int 0) (hz := .int 0) hn hT) (wr := []) (List.nil_append _).symm (xg_S (xr_41 20 rfl) (xr_41 21 rfl) (xr_30 2 rfl) (xr_41 22 rfl)) rfl rfl (by decide +kernel) ⟨Nat.le_of_ble_eq_true rfl, Nat.le_of_ble_eq_true rfl⟩ rfl rfl (Nat.le_of_ble_eq_true rfl) dL_changes_490 ⟨by decide, by decide⟩ (fun rr v hq => ?_)
  obtain ⟨t1, X1, A1, b1, a1, f1, z, ht, hO1, hX1, hA1, hz, hf1, hg, rfl, rfl⟩ := hq
  have hP := P_script hO1 (a1 := a1) hf1 (by rw [← hz]; exact hg) z hz
  rw [List.nil_append]
  refine j_drop h (a := [(s, .inr (9, [.ref r, .int 0, .int 0, .int 0])), (r, .inl (cy 5, n, .inl g))]) ?_
  refine j_if_lt h (tgt := 500) dL_changes_493 (by decide) (fun c => ?_) (fun c => ?_)
  · have hS : STEP M hh n0 sv 0 ((va_up z.2.1 0 z.2.2.1, z.2.2.2.1, z.2.2.2.2), (a1, b1.2.1, b1.2.2)) := by
      rcases hP with ⟨-, e, hO2⟩ | ⟨e, -⟩
      · exact ⟨_, _, _, _, _, t1, rfl, Or.inr ⟨rfl, e, hO2⟩⟩
      · exact absurd c (vin0 e)
    refine j_iconst h (v := 0) dL_changes_500 (by decide) ?_
    refine j_widen h (k := 24) (n := 4480) (by decide) (by decide) ?_
    exact hR _ ((va_up z.2.1 0 z.2.2.1, z.2.2.2.1, z.2.2.2.2), (a1, b1.2.1, b1.2.2)) _ _ _ dL_changes_501 (Or.inl rfl) hS (fun H hP => hP) (fun A hD => hD)
  · have hS : STEP M hh n0 sv 1 ((va_up z.2.1 0 z.2.2.1, z.2.2.2.1, z.2.2.2.2), (a1, b1.2.1, b1.2.2)) := by
      rcases hP with ⟨e, -⟩ | ⟨-, hO2⟩
      · exact absurd (by rcases e with e | e <;> rw [e] <;> decide) c
      · exact ⟨_, _, _, _, _, t1, rfl, Or.inl ⟨rfl, hO2⟩⟩
    refine j_iconst h (v := 1) dL_changes_496 (by decide) ?_
    refine j_goto h (tgt := 501) dL_changes_497 (by decide) ?_
    refine j_widen h (k := 24) (n := 4480) (by decide) (by decide) ?_
    exact hR _ ((va_up z.2.1 0 z.2.2.1, z.2.2.2.1, z.2.2.2.2), (a1, b1.2.1, b1.2.2)) _ _ _ dL_changes_501 (Or.inr rfl) hS (fun H hP => hP) (fun A hD => hD)
end CG
