/-! ===== changes ===== -/
set_option maxRecDepth 100000
/-- what a call that may change leaves -/
def STEP (M : gM) (hh : Nat → gM) (n0 : Nat) (sv : Option gM) (r : Int32) (u : cS × cB) : Prop := ∃ G1 M1 X1 A1 b1 t1, u = ((va_up G1 0 M1, X1, A1), b1) ∧ ((r = 1 ∧ OBx G1 M1 X1 A1 b1 (pu M hh) (min 8 (n0 + 1)) sv t1 0) ∨ (r = 0 ∧ EQG M1 M ∧ OBx G1 M1 X1 A1 b1 hh n0 sv t1 0))
theorem CODE_lt {a : Int32} (h : CODE a) : a < 0 := by rcases h with rfl | rfl | rfl <;> decide
theorem CODE_4 {a : Int32} (h : CODE a) : ¬ a = -4 := by rcases h with rfl | rfl | rfl <;> decide
theorem vin0 {a : Int32} {N : Nat} (h : vp_in a N) : ¬ a < 0 := fun c => h (Or.inl c)
section SP
variable {G : Nat → gM} {M : gM} {X : Nat → Int32} {A : Nat → Nat → Int32} {b : cB} {hh : Nat → gM} {n0 : Nat} {sv : Option gM} {t : Nat → Nat} {z : Int32 × (Nat → gM) × gM × (Nat → Int32) × (Nat → Nat → Int32)} {P : Int32 → Prop}
theorem STEP.no (h : RES G M X A b hh n0 sv t 0 z P) (hc : CODE z.1) (hP : ∀ a, P a → ¬ CODE a) : STEP M hh n0 sv 0 ((va_up z.2.1 0 z.2.2.1, z.2.2.2.1, z.2.2.2.2), b) := by
  rcases h.2 with ⟨-, e, hO, -⟩ | ⟨hp, -⟩
  · exact ⟨_, _, _, _, _, t, rfl, Or.inr ⟨rfl, by rw [e]; exact EQG.rf, by rw [e]; exact hO⟩⟩
  · exact absurd hc (hP _ hp)
theorem STEP.yes (h : RES G M X A b hh n0 sv t 0 z P) (hc : ¬ CODE z.1) : STEP M hh n0 sv 1 ((va_up z.2.1 0 z.2.2.1, z.2.2.2.1, z.2.2.2.2), b) := by
  rcases h.2 with ⟨c, -⟩ | ⟨-, hO, -⟩
  · exact absurd c hc
  · exact ⟨_, _, _, _, _, t, rfl, Or.inl ⟨rfl, hO⟩⟩
theorem RES.lt {N : Nat} (h : RES G M X A b hh n0 sv t 0 z (fun a => vp_in a N)) (c : z.1 < 0) : CODE z.1 := h.2.elim (fun h => h.1) (fun h => absurd c (vin0 h.1))
end SP
theorem sm_k (v : Int32) {n : Nat} (h0 : 0 < n) (hn : n < 2 ^ 30) : ∃ j, j < n ∧ sm v (nI n) = nI j := vp_in_of (sm_in v h0 hn) (by omega)
abbrev rm_L_changes : Room := { frames := 12, cells := 24, slots := 4480, locals := 410 }
