/-! ===== rows over indices that are natural numbers ===== -/
section J3
variable {l : Launch} {D : gD} {cy : Nat → ClassId} {S : Type} {Wd : S → va_W} {J : JT S} {cc : ByteArray} {nL : Nat} {y0 : MethodName} {R : Room} {u : S} {q : Nat × Nat} {lv : List (Nat × Value)} {pc : Nat} {rest : List Value}
theorem j_ialdE (h : OKJ l D cy Wd J cc nL y0 R) (q0 : Nat) {n a : Nat} {f : Nat → Int32} (ha : (Wd u)[q0]? = some (a, .inl (cy 0, n, .inl f))) {i : Int32} (j : Nat) (he : i = nI j) (hj : j < n) (hn : n < 2 ^ 31) (hdg : decode cc pc = .ok (.iaload, 1)) (kk : J u q lv (pc + 1) (.int (f j) :: rest)) : J u q lv pc (.int i :: .ref a :: rest) := by
  subst he
  exact j_iald h q0 ha (vp_in_nI hj hn) hdg (by rw [nI_clamp (Nat.lt_trans hj hn)]; exact kk)
theorem j_aaldE (h : OKJ l D cy Wd J cc nL y0 R) (q0 t0 : Nat) {n a : Nat} {cA : ClassId} {C : String} {f : Nat → Nat} (ha : (Wd u)[q0]? = some (a, .inl (cA, n, .inr (.inr (.inr (.inr (fun i => some (f i)))))))) (ht : (tyC cy)[t0]? = some (cA, .object C)) {i : Int32} (j : Nat) (he : i = nI j) (hj : j < n) (hn : n < 2 ^ 31) (hdg : decode cc pc = .ok (.aaload, 1)) (kk : J u q lv (pc + 1) (.ref (f j) :: rest)) : J u q lv pc (.int i :: .ref a :: rest) := by
  subst he
  exact j_aald h q0 t0 ha ht (vp_in_nI hj hn) hdg (by rw [nI_clamp (Nat.lt_trans hj hn)]; exact kk)
theorem j_iastE (h : OKJ l D cy Wd J cc nL y0 R) (q0 : Nat) {n a : Nat} {f : Nat → Int32} (ha : (Wd u)[q0]? = some (a, .inl (cy 0, n, .inl f))) {i x : Int32} (j : Nat) (he : i = nI j) (hj : j < n) (hn : n < 2 ^ 31) (hdg : decode cc pc = .ok (.iastore, 1)) {u' : S} (hset : (Wd u).set q0 (a, .inl (cy 0, n, .inl (upd f j x))) = Wd u') (kk : J u' q lv (pc + 1) rest) : J u q lv pc (.int x :: .int i :: .ref a :: rest) := by
  subst he
  exact j_iast h q0 ha (vp_in_nI hj hn) hdg (by rw [nI_clamp (Nat.lt_trans hj hn)]; exact hset) kk
end J3
theorem vp_lt {x : Int32} {n : Nat} (h : vp_in x n) : x.toNatClampNeg < n := Nat.not_le.mp fun q => h (Or.inr q)
theorem vp_nI {x : Int32} {n : Nat} (h : vp_in x n) (hn : n < 2 ^ 31) : x = nI x.toNatClampNeg := by
  obtain ⟨j, hj, rfl⟩ := vp_in_of h hn
  rw [nI_clamp (Nat.lt_trans hj hn)]
/-- an index below a count that is at most N -/
theorem cnt_lt {c : Int32} {k N : Nat} (hN : N < 2 ^ 31) (hk : k ≤ N) (hc : c ≤ nI N) (h : ¬ c ≤ nI k) : k < N := by
  rcases Nat.lt_or_ge k N with q | q
  · exact q
  · exact absurd (by rw [show k = N by omega]; exact hc) h
theorem cnt_lt' {c : Int32} {k N : Nat} (hN : N < 2 ^ 31) (hk : k ≤ N) (hc : c ≤ nI N) (h : nI k < c) : k < N := by
  rcases Nat.lt_or_ge k N with q | q
  · exact q
  · exact absurd h (by rw [show k = N by omega]; exact Int32.not_lt.mpr hc)
/-- a number from 0 to below a count -/
theorem in_cnt {x c : Int32} {N : Nat} (hN : N < 2 ^ 31) (hc : c ≤ nI N) (h0 : ¬ x < 0) (h1 : x < c) : vp_in x N := by
  obtain ⟨j, hj, rfl⟩ := nI_of h0
  refine vp_in_nI ?_ hN
  have h2 : nI j < nI N := Int32.lt_of_lt_of_le h1 hc
  exact (nI_ltI hj hN).mp h2
theorem vp_of {x : Int32} {j n : Nat} (h : x = nI j) (hj : j < n) (hn : n < 2 ^ 31) : vp_in x n := h ▸ vp_in_nI hj hn
theorem gt_lt {a k : Nat} (ha : a + 1 < 2 ^ 31) (hk : k ≤ a + 1) (h : ¬ nI a < nI k) : k < a + 1 := by
  rcases Nat.lt_or_ge k (a + 1) with q | q
  · exact q
  · exact absurd (nI_lt (show a < k by omega) (show k < 2 ^ 31 by omega)) h
theorem dn_back {x : Int32} {n : Nat} (h : -1 ≤ x.toInt ∧ x.toInt + 2 ≤ ((n + 1 : Nat) : Int)) (c : ¬ x < 0) : -1 ≤ (x + (-1)).toInt ∧ (x + (-1)).toInt + 2 ≤ (n : Int) := by
  obtain ⟨j, hj, rfl⟩ := nI_of c
  rw [nI_toInt hj] at h
  cases j with
  | zero =>
    have e : (nI 0 + (-1)).toInt = -1 := by decide
    rw [e]; omega
  | succ i =>
    rw [pk_m1, nI_toInt (by omega)]
    omega
theorem dn_start {e : Int32} (h : (if 0 < e then e else 0) ≤ 40) : -1 ≤ (if 0 < e then e else 0).toInt ∧ (if 0 < e then e else 0).toInt + 2 ≤ ((42 : Nat) : Int) := by
  have h2 := Int32.le_iff_toInt_le.mp h
  have e40 : (40 : Int32).toInt = 40 := by decide
  by_cases c : 0 < e
  · rw [if_pos c] at h2 ⊢
    have h3 := Int32.lt_iff_toInt_lt.mp c
    have e0 : (0 : Int32).toInt = 0 := by decide
    omega
  · rw [if_neg c] at h2 ⊢
    have e0 : (0 : Int32).toInt = 0 := by decide
    omega
theorem nx_add {x y : Int32} {a b : Nat} (hx : x = nI a) (hy : y = nI b) : x + y = nI (a + b) := by rw [hx, hy, nI_add]
theorem nx_mul {x y : Int32} {a b : Nat} (hx : x = nI a) (hy : y = nI b) : x * y = nI (a * b) := by rw [hx, hy, pk_mul]
/-- a named value in a function -/
def bd {α β : Type} (e : α) (f : α → β) : β := f e
theorem bd_eq {α β : Type} {e z : α} {f : α → β} {r : β} (hz : z = e) (h : f z = r) : bd e f = r := by subst hz; exact h
theorem ite_p {c : Prop} [Decidable c] {α : Type} {a b r : α} (h : c) (k : a = r) : ite c a b = r := (if_pos h).trans k
theorem ite_n {c : Prop} [Decidable c] {α : Type} {a b r : α} (h : ¬ c) (k : b = r) : ite c a b = r := (if_neg h).trans k
