/-! ===== the law's own text: rows ===== -/
set_option maxRecDepth 100000
def CH (c : Int32) : Prop := ∃ t, c &&& 255 = nI t ∧ 32 ≤ t ∧ t ≤ 126
theorem CH_str : ∀ i, 9 ≤ i → i < 14 → ∀ j, j < lenS.getD i 0 → CH (chS i j) := by
  have h : ∀ i, i < 14 → 9 ≤ i → ∀ j, j < lenS.getD i 0 → (chS i j &&& 255 = nI (chS i j &&& 255).toNatClampNeg ∧ 32 ≤ (chS i j &&& 255).toNatClampNeg ∧ (chS i j &&& 255).toNatClampNeg ≤ 126) := by decide +kernel
  exact fun i h1 h2 j hj => ⟨_, h i h2 h1 j hj⟩
theorem CH_dec : ∀ v, v < 100 → ∀ i, i < 2 → CH (sb_b (sb_dec v i)) := by
  have h : ∀ v, v < 100 → ∀ i, i < 2 → (sb_b (sb_dec v i) &&& 255 = nI (sb_b (sb_dec v i) &&& 255).toNatClampNeg ∧ 32 ≤ (sb_b (sb_dec v i) &&& 255).toNatClampNeg ∧ (sb_b (sb_dec v i) &&& 255).toNatClampNeg ≤ 126) := by decide +kernel
  exact fun v hv i hi => ⟨_, h v hv i hi⟩
theorem CH_more {n len : Nat} {f f1 g : Nat → Int32} (h0 : ∀ j, j < n → CH (f j)) (h1 : ∀ j, j < n → f1 j = f j) (h2 : ∀ j, j < len → f1 (n + j) = g j) (h3 : ∀ j, j < len → CH (g j)) : ∀ j, j < n + len → CH (f1 j) := by
  intro j hj
  by_cases c : j < n
  · rw [h1 j c]; exact h0 j c
  · have e := h2 (j - n) (by omega)
    rw [show n + (j - n) = j by omega] at e
    rw [e]; exact h3 _ (by omega)
abbrev SBW (cy : Nat → ClassId) (p a n : Nat) (f : Nat → Int32) (t : va_W) : va_W := (p, .inr (0, [.ref a, .int 0, .int 0, .int (nI n)])) :: (a, .inl (cy 5, 16, .inl f)) :: t
abbrev pSB (cy : Nat → ClassId) (p : Nat) (t : va_W) (v : sbV) : va_W := (p, .inr (0, [.ref v.2.2.1, .int 0, .int v.1, .int v.2.1])) :: (v.2.2.1, .inl (cy 5, v.2.2.2.1, .inl v.2.2.2.2)) :: t
theorem pSB_l {cy : Nat → ClassId} {p : Nat} {t : va_W} : SBL cy wI p 0 1 (pSB cy p t) := ⟨by decide, fun v => rfl, fun v => rfl, fun v v' => rfl⟩
theorem cap16 {q : Nat} (h : q ≤ 16) : sb_cap q 16 = 16 := if_pos h
theorem pm5 {α : Type} {s p a r : α} {t : List α} : (s :: p :: a :: (t ++ [r])).Perm ([p, a] ++ ([s, r] ++ t)) :=
  ((((List.perm_append_comm (l₁ := t) (l₂ := [r])).cons a).cons p).cons s).trans ((List.Perm.swap p s _).trans ((List.Perm.swap a s _).cons p))
section SR
variable {l : Launch} {D : gD} {cy : Nat → ClassId} {J : JT va_W} {cc : ByteArray} {nL : Nat} {y0 : MethodName} {R : Room} {q : Nat × Nat} {lv : List (Nat × Value)} {pc : Nat} {rest : List Value} {p a n : Nat} {f : Nat → Int32} {t : va_W}
theorem t_str (h : OKJ l D cy wI J cc nL y0 R) (hy : y0.cls = RL) {i : Nat} (h9 : 9 ≤ i) (hi : i < 14) (hn : n + lenS.getD i 0 ≤ 16) (hf : sb_Fit f) (hC : ∀ j, j < n → CH (f j)) (hR : 6 ≤ R.frames ∧ 152 ≤ R.locals) (hroom : (rest.map fun v => v.category).sum ≤ 8) (hq : q.1 ≤ R.cells ∧ q.2 ≤ R.slots) (hdg : decode cc pc = .ok (.invokevirtual 148, 3)) (kk : ∀ a1 f1, sb_Fit f1 → (∀ j, j < n + lenS.getD i 0 → CH (f1 j)) → J (SBW cy p a1 (n + lenS.getD i 0) f1 t) q lv (pc + 3) (.ref p :: rest)) : J (SBW cy p a n f t) q lv pc (.ref (D.2.1 i) :: .ref p :: rest) := by
  have e0 : kE (n + lenS.getD i 0) 16 = 0 := if_pos hn
  have e1 : sE (n + lenS.getD i 0) 16 = 0 := if_pos hn
  refine j_callA h (n := 1) (c_J4_append_15ec4 l D cy (pSB_l (p := p) (t := t)) 0 (n := n) a (m := 16) (f := f) (i := i) (by omega) (by omega) (by decide) hf) (by rw [hy]; exact xg_V (xr_42 4 rfl) (xr_35 15 rfl) (xr_35 16 rfl) (xr_2 4 rfl) (xr_35 17 rfl)) rfl rfl (by decide +kernel) ⟨hR.1, hR.2⟩ 0 rfl rfl rfl rfl rfl hroom hdg ⟨by rw [e0]; exact hq.1, by rw [e1]; exact hq.2⟩ (fun r u' hu => ?_)
  obtain ⟨rfl, a1, f1, rfl, g1, g2, g3⟩ := hu
  rw [cap16 hn, e0, e1]
  exact kk a1 f1 g3 (CH_more hC g1 g2 (CH_str i h9 hi))
theorem t_int1 (h : OKJ l D cy wI J cc nL y0 R) (hy : y0.cls = RL) {v : Nat} (hv : v < 10) (hn : n + 1 ≤ 16) (hf : sb_Fit f) (hC : ∀ j, j < n → CH (f j)) (hR : 6 ≤ R.frames ∧ 152 ≤ R.locals) (hroom : (rest.map fun v => v.category).sum ≤ 8) (hq : q.1 ≤ R.cells ∧ q.2 ≤ R.slots) (hdg : decode cc pc = .ok (.invokevirtual 151, 3)) (kk : ∀ a1 f1, sb_Fit f1 → (∀ j, j < n + 1 → CH (f1 j)) → J (SBW cy p a1 (n + 1) f1 t) q lv (pc + 3) (.ref p :: rest)) : J (SBW cy p a n f t) q lv pc (.int (nI v) :: .ref p :: rest) := by
  have e0 : kE (n + 1) 16 = 0 := if_pos hn
  have e1 : sE (n + 1) 16 = 0 := if_pos hn
  refine j_callA h (n := 1) (c_J4_append_bf812_1 l D cy (pSB_l (p := p) (t := t)) 0 (n := n) a (m := 16) (f := f) (v := v) (Nat.zero_le _) hv (by omega) (by decide) hf) (by rw [hy]; exact xg_V (xr_42 5 rfl) (xr_34 5 rfl) (xr_34 6 rfl) (xr_2 4 rfl) (xr_34 7 rfl)) rfl rfl (by decide +kernel) ⟨hR.1, hR.2⟩ 0 rfl rfl rfl rfl rfl hroom hdg ⟨by rw [e0]; exact hq.1, by rw [e1]; exact hq.2⟩ (fun r u' hu => ?_)
  obtain ⟨rfl, a1, f1, rfl, g1, g2, g3⟩ := hu
  rw [cap16 hn, e0, e1]
  exact kk a1 f1 g3 (CH_more hC g1 g2 (fun j hj => CH_dec v (by omega) j (by omega)))
theorem t_int2 (h : OKJ l D cy wI J cc nL y0 R) (hy : y0.cls = RL) {v : Nat} (h10 : 10 ≤ v) (hv : v < 100) (hn : n + 2 ≤ 16) (hf : sb_Fit f) (hC : ∀ j, j < n → CH (f j)) (hR : 6 ≤ R.frames ∧ 152 ≤ R.locals) (hroom : (rest.map fun v => v.category).sum ≤ 8) (hq : q.1 ≤ R.cells ∧ q.2 ≤ R.slots) (hdg : decode cc pc = .ok (.invokevirtual 151, 3)) (kk : ∀ a1 f1, sb_Fit f1 → (∀ j, j < n + 2 → CH (f1 j)) → J (SBW cy p a1 (n + 2) f1 t) q lv (pc + 3) (.ref p :: rest)) : J (SBW cy p a n f t) q lv pc (.int (nI v) :: .ref p :: rest) := by
  have e0 : kE (n + 2) 16 = 0 := if_pos hn
  have e1 : sE (n + 2) 16 = 0 := if_pos hn
  refine j_callA h (n := 1) (c_J4_append_bf812_2 l D cy (pSB_l (p := p) (t := t)) 0 (n := n) a (m := 16) (f := f) (v := v) h10 hv (by omega) (by decide) hf) (by rw [hy]; exact xg_V (xr_42 5 rfl) (xr_34 5 rfl) (xr_34 6 rfl) (xr_2 4 rfl) (xr_34 7 rfl)) rfl rfl (by decide +kernel) ⟨hR.1, hR.2⟩ 0 rfl rfl rfl rfl rfl hroom hdg ⟨by rw [e0]; exact hq.1, by rw [e1]; exact hq.2⟩ (fun r u' hu => ?_)
  obtain ⟨rfl, a1, f1, rfl, g1, g2, g3⟩ := hu
  rw [cap16 hn, e0, e1]
  exact kk a1 f1 g3 (CH_more hC g1 g2 (fun j hj => CH_dec v hv j hj))
theorem t_new (h : OKJ l D cy wI J cc nL y0 R) (hy : y0.cls = RL) (hR : 3 ≤ R.frames ∧ 61 ≤ R.locals) (hroom : (rest.map fun v => v.category).sum ≤ 6) (hq : q.1 + 2 ≤ R.cells ∧ q.2 + 20 ≤ R.slots) (hd1 : decode cc pc = .ok (.new 143, 3)) (hd2 : decode cc (pc + 3) = .ok (.dup, 1)) (hd3 : decode cc (pc + 4) = .ok (.invokespecial 145, 3)) (kk : ∀ p a, J (SBW cy p a 0 (fun _ => 0) t) (q.1 + 2, q.2 + 20) lv (pc + 7) (.ref p :: rest)) : J t q lv pc rest := by
  refine j_new h inlJ4 tyJ4 tyJ4_ok (by rw [hy]; exact (xr_42 2 rfl)) (xr_2 3 rfl) (xr_2 4 rfl) (ci := 0) rfl (fs := [.null, .int 0, .int 0, .int 0]) (fun j hj => by rcases (show j = 0 ∨ j = 1 ∨ j = 2 ∨ j = 3 by omega) with rfl | rfl | rfl | rfl <;> rfl) (by omega) (by omega) hd1 (fun p => ?_)
  refine j_dup h hd2 rfl ?_
  refine j_initV h (n := 0) (c_J4_init_da8c8 l D cy p) (by rw [hy]; exact (xr_42 3 rfl)) (xr_4 23 rfl) (xr_2 4 rfl) (xr_5 0 rfl) rfl rfl rfl (by decide +kernel) ⟨hR.1, hR.2⟩ (lst := t) rfl rfl rfl (by show 1 + (rest.map fun v => v.category).sum ≤ 8; omega) hd3 ⟨by show q.1 + 1 + 1 ≤ _; omega, by show q.2 + 4 + 16 ≤ _; omega⟩ (fun w hw => ?_)
  obtain ⟨a, rfl⟩ := hw
  refine j_pm h List.perm_append_comm ?_
  exact kk p a
theorem t_done (h : OKJ l D cy wI J cc nL y0 R) (hy : y0.cls = RL) (hn : n < 16) (hf : sb_Fit f) (hC : ∀ j, j < n → CH (f j)) (hR : 6 ≤ R.frames ∧ 220 ≤ R.locals) (hroom : (rest.map fun v => v.category).sum ≤ 8) (hq : q.1 + 2 ≤ R.cells ∧ q.2 + 20 ≤ R.slots) (hdg : decode cc pc = .ok (.invokevirtual 156, 3)) (kk : ∀ s r g, (∀ j, j < n → CH (g j)) → J ([(s, .inr (9, [.ref r, .int 0, .int 0, .int 0])), (r, .inl (cy 5, n, .inl g))] ++ t) (q.1 + 2, q.2 + 20) lv (pc + 3) (.ref s :: rest)) : J (SBW cy p a n f t) q lv pc (.ref p :: rest) := by
  refine j_callA h (n := 0) (c_J4_ts l D cy 0 p a hn (by decide) hf t) (by rw [hy]; exact xg_V (xr_42 6 rfl) (xr_42 7 rfl) (xr_42 8 rfl) (xr_2 4 rfl) (xr_42 9 rfl)) rfl rfl (by decide +kernel) ⟨hR.1, hR.2⟩ 0 rfl rfl rfl rfl rfl hroom hdg ⟨by omega, by omega⟩ (fun s u' hu => ?_)
  obtain ⟨r, rfl⟩ := hu
  refine j_widen h (k := q.1 + 2) (n := q.2 + 20) (by show q.1 + 2 ≤ _; omega) (by show q.2 + (n + 4) ≤ _; omega) ?_
  refine j_pm h pm5 ?_
  refine j_drop h ?_
  refine kk s r _ (fun j hj => ?_)
  show CH (if 0 ≤ j ∧ j < 0 + n then f (0 + (j - 0)) else 0)
  rw [if_pos ⟨by omega, by omega⟩, Nat.zero_add, Nat.sub_zero]
  exact hC j hj
end SR
