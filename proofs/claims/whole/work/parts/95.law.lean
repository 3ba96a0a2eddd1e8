/-! ===== the law's rows ===== -/
/-- as OKJo, in the law's own frame; the script at b, which nobody writes -/
def OKL (l : Launch) (D : gD) (cy : Nat → ClassId) (J : JT va_W) (b Ls : Nat) (xs : Nat → Int32) : Prop :=
  ∃ (p : Program) (e : Env) (s : State) (m : MethodId) (args : Array Value) (below : List Frame) (meth : Method) (c : Code) (A : Nat → Prop) (H0 : Heap) (Q : State → Prop),
    ((CallFix p m c code 8 s args wsL_law yL_law.cls ∧ va_K D.1 vwCl (tyC cy) s ∧ (∀ q : Nat, H0.size ≤ q → A q) ∧ meth.name = yL_law.name ∧ H0 = s.heap ∧ xZ D A s s.heap ∧
    J = fun (u : va_W) (k : Nat × Nat) (lv : List (Nat × Value)) (pc : Nat) (st : List Value) => ∀ (H : Heap) (locs : List Loc) (ls : Array Slot), va_P D.1 vwCl (wI u) H → va_D A (wI u) → va_S A H0 H locs → lv_has ls 8 lv → W p l e room_1 s m args below meth c H locs k.1 k.2 Q (F0 m pc ls st)) ∧ xAO s) ∧ va_X b Ls xs s H0 ∧ b < H0.size ∧ ¬ A b
section LAWR
variable {l : Launch} {D : gD} {cy : Nat → ClassId} {J : JT va_W} {b Ls : Nat} {xs : Nat → Int32} {u : va_W} {q : Nat × Nat} {lv : List (Nat × Value)} {pc : Nat} {rest : List Value}
theorem OKL.o (h : OKL l D cy J b Ls xs) : OKJo l D cy J cL_law 8 yL_law room_1 := by
  obtain ⟨p, e, s, m, args, below, meth, c, A, H0, Q, h, -⟩ := h
  exact ⟨p, e, s, m, args, below, meth, c, A, H0, Q, h⟩
theorem OKL.ok (h : OKL l D cy J b Ls xs) : OKJ l D cy wI J cL_law 8 yL_law room_1 := h.o.ok
theorem j_sld (h : OKL l D cy J b Ls xs) {i : Int32} (j : Nat) (he : i = nI j) (hj : j < Ls) (hL : Ls ≤ 3072) (hdg : decode cL_law pc = .ok (.iaload, 1)) (kk : J u q lv (pc + 1) (.int (xs j) :: rest)) : J u q lv pc (.int i :: .ref b :: rest) := by
  subst he
  obtain ⟨p, e, s, m, args, below, meth, c, A, H0, Q, ⟨⟨h0, hK, hA, hnm', hH0, hZ, rfl⟩, hO⟩, hX, hb, hbA⟩ := h
  intro H locs ls hP hD hS hl0
  refine va_sld h0.1 h0.2.1 hX hb hbA hS (vp_in_nI hj (by omega)) hdg ?_
  rw [nI_clamp (by omega)]
  exact kk H locs ls hP hD hS hl0
theorem j_slen (h : OKL l D cy J b Ls xs) (hdg : decode cL_law pc = .ok (.arraylength, 1)) (kk : J u q lv (pc + 1) (.int (nI Ls) :: rest)) : J u q lv pc (.ref b :: rest) := by
  obtain ⟨p, e, s, m, args, below, meth, c, A, H0, Q, ⟨⟨h0, hK, hA, hnm', hH0, hZ, rfl⟩, hO⟩, hX, hb, hbA⟩ := h
  intro H locs ls hP hD hS hl0
  exact va_slen h0.1 h0.2.1 hX hb hbA hS hdg (kk H locs ls hP hD hS hl0)
/-- the law's locals at the call k -/
abbrev lvL (L : Nat → Nat → Nat) (ad : Nat → Nat) (b k : Nat) : List (Nat × Value) := [(3, .int (nI (6 * k))), (0, .ref b), (1, .ref (L 11 0)), (2, .ref (ad 0))]
/-- what follows a call -/
def NX (cy : Nat → ClassId) (L : Nat → Nat → Nat) (ad : Nat → Nat) (J : JT va_W) (b k : Nat) : Prop := ∀ (u : cS × cB) (v : mS), INV u v → J (CW cy L u ++ MW cy ad v) (352 + 40 * (k + 1), 4654 + 8880 * (k + 1)) (lvL L ad b k) 1290 []
end LAWR
theorem n_f2d {x : UInt32} (h : vf_n32 x) : vf_n64 (FP.f2d x) := by
  have h1 : Jvm.FP.Core.fIsNaN x = false := by
    rw [Jvm.FP.Core.notNaN_iff32, Jvm.FP.Core.ne_nan32]
    unfold vf_n32 at h
    rw [UInt32.le_iff_toNat_le, UInt32.toNat_and] at h
    have e : (0x7fffffff : UInt32).toNat = 2 ^ 31 - 1 := rfl
    rw [e, Nat.and_two_pow_sub_one_eq_mod] at h
    exact h
  have h3 : Jvm.FP.Core.dIsNaN (FP.f2d x) = false := (Jvm.FP.f2d_nan x).trans h1
  rw [Jvm.FP.Core.notNaN_iff, Jvm.FP.Core.ne_nan] at h3
  generalize FP.f2d x = r at h3
  unfold vf_n64
  rw [UInt64.le_iff_toNat_le, UInt64.toNat_and]
  have e : (0x7fffffffffffffff : UInt64).toNat = 2 ^ 63 - 1 := rfl
  rw [e, Nat.and_two_pow_sub_one_eq_mod]
  exact h3
theorem mw_n {M : gM} {X : Nat → Int32} {A : Nat → Nat → Int32} : vf_n32 (f_X7_meanWet M X A) := by
  unfold f_X7_meanWet
  rw [bd_x]
  by_cases c : M.1 3 = 0
  · rw [if_pos c]
    unfold vf_n32
    decide +kernel
  · rw [if_neg c]; exact n32 _ _ c
/-- is there another call -/
theorem more_6 {Ls k : Nat} (hL : Ls ≤ 3072) (hk : k ≤ 512) (h : ¬ nI Ls - 6 < nI (6 * k)) : 6 * k + 6 ≤ Ls := by
  by_cases c : Ls < 6
  · exfalso
    refine h ?_
    have z : nI Ls - 6 < 0 := by
      rcases (show Ls = 0 ∨ Ls = 1 ∨ Ls = 2 ∨ Ls = 3 ∨ Ls = 4 ∨ Ls = 5 by omega) with rfl | rfl | rfl | rfl | rfl | rfl <;> decide
    exact Int32.lt_of_lt_of_le z (nI_pos' (by omega))
  · rw [show (6 : Int32) = nI 6 from rfl, pk_sub (by omega)] at h
    have := Nat.le_of_not_lt (fun q => h (nI_lt q (by omega)))
    omega
theorem sw_out36 (x : Int32) (h0 : ¬ x = 0) (h1 : ¬ x = 1) (h2 : ¬ x = 2) (h3 : ¬ x = 3) (h4 : ¬ x = 4) (h5 : ¬ x = 5) (h6 : ¬ x = 6) (h7 : ¬ x = 7) (h8 : ¬ x = 8) (h9 : ¬ x = 9) (h10 : ¬ x = 10) (h11 : ¬ x = 11) (h12 : ¬ x = 12) (h13 : ¬ x = 13) (h14 : ¬ x = 14) (h15 : ¬ x = 15) (h16 : ¬ x = 16) (h17 : ¬ x = 17) (h18 : ¬ x = 18) (h19 : ¬ x = 19) (h20 : ¬ x = 20) (h21 : ¬ x = 21) (h22 : ¬ x = 22) (h23 : ¬ x = 23) (h24 : ¬ x = 24) (h25 : ¬ x = 25) (h26 : ¬ x = 26) (h27 : ¬ x = 27) (h28 : ¬ x = 28) (h29 : ¬ x = 29) (h30 : ¬ x = 30) (h31 : ¬ x = 31) (h32 : ¬ x = 32) (h33 : ¬ x = 33) (h34 : ¬ x = 34) (h35 : ¬ x = 35) : x.toInt < 0 ∨ 35 < x.toInt := by
  by_cases z : x < 0
  · exact Or.inl (by have := Int32.lt_iff_toInt_lt.mp z; rw [Int32.toInt_zero] at this; exact this)
  · obtain ⟨j, hj, rfl⟩ := nI_of z
    refine Or.inr ?_
    have q : 35 < j := by
      rcases (show j = 0 ∨ j = 1 ∨ j = 2 ∨ j = 3 ∨ j = 4 ∨ j = 5 ∨ j = 6 ∨ j = 7 ∨ j = 8 ∨ j = 9 ∨ j = 10 ∨ j = 11 ∨ j = 12 ∨ j = 13 ∨ j = 14 ∨ j = 15 ∨ j = 16 ∨ j = 17 ∨ j = 18 ∨ j = 19 ∨ j = 20 ∨ j = 21 ∨ j = 22 ∨ j = 23 ∨ j = 24 ∨ j = 25 ∨ j = 26 ∨ j = 27 ∨ j = 28 ∨ j = 29 ∨ j = 30 ∨ j = 31 ∨ j = 32 ∨ j = 33 ∨ j = 34 ∨ j = 35 ∨ 35 < j by omega) with rfl | rfl | rfl | rfl | rfl | rfl | rfl | rfl | rfl | rfl | rfl | rfl | rfl | rfl | rfl | rfl | rfl | rfl | rfl | rfl | rfl | rfl | rfl | rfl | rfl | rfl | rfl | rfl | rfl | rfl | rfl | rfl | rfl | rfl | rfl | rfl | q
      · exact absurd rfl h0
      · exact absurd rfl h1
      · exact absurd rfl h2
      · exact absurd rfl h3
      · exact absurd rfl h4
      · exact absurd rfl h5
      · exact absurd rfl h6
      · exact absurd rfl h7
      · exact absurd rfl h8
      · exact absurd rfl h9
      · exact absurd rfl h10
      · exact absurd rfl h11
      · exact absurd rfl h12
      · exact absurd rfl h13
      · exact absurd rfl h14
      · exact absurd rfl h15
      · exact absurd rfl h16
      · exact absurd rfl h17
      · exact absurd rfl h18
      · exact absurd rfl h19
      · exact absurd rfl h20
      · exact absurd rfl h21
      · exact absurd rfl h22
      · exact absurd rfl h23
      · exact absurd rfl h24
      · exact absurd rfl h25
      · exact absurd rfl h26
      · exact absurd rfl h27
      · exact absurd rfl h28
      · exact absurd rfl h29
      · exact absurd rfl h30
      · exact absurd rfl h31
      · exact absurd rfl h32
      · exact absurd rfl h33
      · exact absurd rfl h34
      · exact absurd rfl h35
      · exact q
    rw [nI_toInt hj]
    omega
