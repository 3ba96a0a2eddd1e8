/-! ===== a String constant by its wide index ===== -/
theorem sx_ldcw {p : Program} {l : Launch} {e : Env} {R : Room} {s : State} {m : MethodId} {args : Array Value} {below : List Frame} {meth : Method} {c : Code} {T : State} {locs : List Loc} {cells slots : Nat}
    (X : Stand p l e R s m args below meth c T locs cells slots) (hx : p.tables.exec = Jvm.exec) {own text : String} {index a : Nat} (ho : s.vm.findClass own = some m.cls) (h1 : (Cond.stringRef own index text).before args s = true) (h2 : (Term.string own index).eval args s none [] s = some (.ref a)) {g : JFrame} (hg : g.method = m) (hd : decode c.code g.pc = .ok (.ldc_w index, 3)) (target : State)
    (hrest : Steps p.tables e below (T.setTop { g with pc := g.pc + 3, stack := .ref a :: g.stack }) target) : Steps p.tables e below (T.setTop g) target := by
  obtain ⟨k, cf, i, a1, hk, hcf, hcp, -, hr, he1⟩ := Cond.stringRef_spec ho h1
  cases h2.symm.trans he1
  obtain ⟨k1, hk1, he⟩ := X.warmed.alike.2.2 _ _ hk
  have hr1 : k1.resolved[index]? = some (some (.string a)) := by
    rcases X.warmed.entry hk hk1 index with h | ⟨h, -⟩
    · rw [h]; exact hr
    · rw [hr] at h; cases h
  subst hg
  jvm_step X.here [hx, hd, ldc_w.wp_string (e := e) (s := T) (f := g) X.here.top hk1 (by rw [he]; exact hcf) hcp hr1]
  exact hrest
section J2
variable {l : Launch} {D : gD} {cy : Nat → ClassId} {S : Type} {Wd : S → va_W} {J : JT S} {cc : ByteArray} {nL : Nat} {y0 : MethodName} {R : Room} {u : S} {q : Nat × Nat} {lv : List (Nat × Value)} {pc : Nat} {rest : List Value}
theorem j_ldcwS (h : OKJ l D cy Wd J cc nL y0 R) {index i : Nat} {tx : String} (hi : nS[i]? = some (y0.cls, index, tx)) (hdg : decode cc pc = .ok (.ldc_w index, 3)) (kk : J u q lv (pc + 3) (.ref (D.2.1 i) :: rest)) : J u q lv pc rest := by
  obtain ⟨p, e, s, m, args, below, meth, c, A, H0, Q, h0, hK, hA, hnm', hH0, hZ, rfl⟩ := h
  intro H locs ls hP hD hS hl0 T hT X
  obtain ⟨t, a, b⟩ := kk H locs ls hP hD hS hl0 T hT X
  exact ⟨t, sx_ldcw X h0.1 h0.2.2.2.1 (text := tx) (hZ.2.2.2.2.2.1 i _ hi).1 (hZ.2.2.2.2.2.1 i _ hi).2 (g := F0 m pc ls rest) rfl (by rw [h0.2.1]; exact hdg) t a, b⟩
end J2
/-! ===== the line as a list of letters ===== -/
/-- the digits of a number -/
def digs (v : Nat) : List Nat := (List.range (sb_dg v)).map (sb_dec v)
/-- the letters of a constant -/
def strs (i : Nat) : List Nat := (List.range (lenS.getD i 0)).map (fun j => (chS i j).toNatClampNeg)
theorem digs_len (v : Nat) : (digs v).length = sb_dg v := by simp [digs]
theorem strs_len (i : Nat) : (strs i).length = lenS.getD i 0 := by simp [strs]
theorem digs_lt {v c : Nat} (h : c ∈ digs v) : c < 128 := by
  obtain ⟨j, -, rfl⟩ := List.mem_map.mp h
  show 48 + v / 10 ^ (sb_dg v - 1 - j) % 10 < 128
  omega
theorem strs_ok {i j : Nat} (hi : i < 17) (hj : j < lenS.getD i 0) : (chS i j).toNatClampNeg < 128 ∧ sb_b (chS i j).toNatClampNeg = chS i j ∧ nI (chS i j).toNatClampNeg = chS i j := by
  have h : ∀ i, i < 17 → ∀ j, j < lenS.getD i 0 → (chS i j).toNatClampNeg < 128 ∧ sb_b (chS i j).toNatClampNeg = chS i j ∧ nI (chS i j).toNatClampNeg = chS i j := by decide +kernel
  exact h i hi j hj
theorem strs_lt {i c : Nat} (hi : i < 17) (h : c ∈ strs i) : c < 128 := by
  obtain ⟨j, hj, rfl⟩ := List.mem_map.mp h
  exact (strs_ok hi (List.mem_range.mp hj)).1
/-- the bytes of a line -/
def LN (t : List Nat) (m : Nat) (f : Nat → Int32) : Prop := t.length ≤ m ∧ m ≤ 32766 ∧ sb_Fit f ∧ (∀ c ∈ t, c < 128) ∧ ∀ j, j < t.length → f j = sb_b (t.getD j 0)
/-- the state behind some appends to the line: the rest is as it was -/
def LK (X : Nat → Int32) (A : Nat → Nat → Int32) (b : cB) (t : List Nat) (X1 : Nat → Int32) (A1 : Nat → Nat → Int32) (b1 : cB) : Prop :=
  (∀ k, k ≠ 8 → k ≠ 10 → X1 k = X k) ∧ (∀ k, k ≠ 5 → A1 k = A k) ∧ b1.1 = b.1 ∧ b1.2.1 = b.2.1 ∧ X1 8 = nI t.length ∧ LN t b1.2.2.2 (A1 5)
theorem LN.cat {t s : List Nat} {m m1 : Nat} {f f1 : Nat → Int32} (h : LN t m f) (hs : ∀ c ∈ s, c < 128) (hm : t.length + s.length ≤ m1) (hm1 : m1 ≤ 32766) (h1 : ∀ j, j < t.length → f1 j = f j) (h2 : ∀ j, j < s.length → f1 (t.length + j) = sb_b (s.getD j 0)) (hf : sb_Fit f1) : LN (t ++ s) m1 f1 := by
  refine ⟨by rw [List.length_append]; exact hm, hm1, hf, fun c hc => (List.mem_append.mp hc).elim (h.2.2.2.1 c) (hs c), fun j hj => ?_⟩
  rw [List.length_append] at hj
  by_cases q : j < t.length
  · rw [h1 j q, h.2.2.2.2 j q, List.getD_eq_getElem?_getD, List.getD_eq_getElem?_getD, List.getElem?_append_left q]
  · have e : f1 j = f1 (t.length + (j - t.length)) := by rw [show t.length + (j - t.length) = j by omega]
    rw [e, h2 _ (by omega), List.getD_eq_getElem?_getD, List.getD_eq_getElem?_getD, List.getElem?_append_right (by omega)]
theorem lcap_le {q m : Nat} (hq : q ≤ 110) (hm : m ≤ 32766) : sb_cap q m ≤ 32766 ∧ q ≤ sb_cap q m := by
  unfold sb_cap
  split
  · exact ⟨hm, by omega⟩
  · split <;> omega
theorem kE_le (q m : Nat) : kE q m ≤ 1 := by
  unfold kE
  split <;> omega
theorem sE_le {q m : Nat} (hq : q ≤ 110) : sE q m ≤ 222 := by
  unfold sE
  by_cases h : q ≤ m
  · rw [if_pos h]; omega
  · rw [if_neg h]
    unfold sb_cap
    rw [if_neg h]
    split <;> omega
theorem LK.put {G : Nat → gM} {X X1 : Nat → Int32} {A A1 : Nat → Nat → Int32} {b b1 : cB} {t s : List Nat} {ml : Int32} {a m : Nat} {f : Nat → Int32} (h : LK X A b t X1 A1 b1) (hf : LN s m f) (v : sbV) (hv : v = (ml, nI s.length, a, m, f)) :
    ∃ (X2 : Nat → Int32) (A2 : Nat → Nat → Int32) (b2 : cB), putL G X1 A1 b1 v = ((G, X2, A2), b2) ∧ LK X A b s X2 A2 b2 := by
  subst hv
  refine ⟨_, _, _, rfl, ⟨fun k h8 h10 => ?_, fun k h5 => ?_, h.2.2.1, h.2.2.2.1, upd_eq _ _ _, ?_⟩⟩
  · rw [upd_ne _ _ h8, upd_ne _ _ h10]; exact h.1 k h8 h10
  · show (if k = 5 then _ else A1 k) = A k
    rw [if_neg h5]; exact h.2.1 k h5
  · show LN s m (if 5 = 5 then f else A1 5)
    rw [if_pos rfl]; exact hf
theorem LK.str {G : Nat → gM} {X X1 : Nat → Int32} {A A1 : Nat → Nat → Int32} {b b1 : cB} {t : List Nat} {i a1 : Nat} {f1 : Nat → Int32} (h : LK X A b t X1 A1 b1) (hi : i < 17) (hT : t.length + lenS.getD i 0 ≤ 110) (g1 : ∀ j, j < t.length → f1 j = A1 5 j) (g2 : ∀ j, j < lenS.getD i 0 → f1 (t.length + j) = chS i j) (g3 : sb_Fit f1) :
    ∃ (X2 : Nat → Int32) (A2 : Nat → Nat → Int32) (b2 : cB), putL G X1 A1 b1 (X1 10, nI (t.length + lenS.getD i 0), a1, sb_cap (t.length + lenS.getD i 0) b1.2.2.2, f1) = ((G, X2, A2), b2) ∧ LK X A b (t ++ strs i) X2 A2 b2 := by
  have hc := lcap_le hT h.2.2.2.2.2.2.1
  refine h.put (LN.cat (s := strs i) (m1 := sb_cap (t.length + lenS.getD i 0) b1.2.2.2) h.2.2.2.2.2 (fun c => strs_lt hi) (by rw [strs_len]; exact hc.2) hc.1 g1 (fun j hj => ?_) g3) _ (by rw [List.length_append, strs_len])
  rw [strs_len] at hj
  rw [g2 j hj, List.getD_eq_getElem?_getD, show (strs i)[j]? = some (chS i j).toNatClampNeg from by rw [strs, List.getElem?_map, List.getElem?_range hj]; rfl]
  exact ((strs_ok hi hj).2.1).symm
theorem LK.int {G : Nat → gM} {X X1 : Nat → Int32} {A A1 : Nat → Nat → Int32} {b b1 : cB} {t : List Nat} {v a1 : Nat} {f1 : Nat → Int32} (h : LK X A b t X1 A1 b1) (hT : t.length + sb_dg v ≤ 110) (g1 : ∀ j, j < t.length → f1 j = A1 5 j) (g2 : ∀ j, j < sb_dg v → f1 (t.length + j) = sb_b (sb_dec v j)) (g3 : sb_Fit f1) :
    ∃ (X2 : Nat → Int32) (A2 : Nat → Nat → Int32) (b2 : cB), putL G X1 A1 b1 (X1 10, nI (t.length + sb_dg v), a1, sb_cap (t.length + sb_dg v) b1.2.2.2, f1) = ((G, X2, A2), b2) ∧ LK X A b (t ++ digs v) X2 A2 b2 := by
  have hc := lcap_le hT h.2.2.2.2.2.2.1
  refine h.put (LN.cat (s := digs v) (m1 := sb_cap (t.length + sb_dg v) b1.2.2.2) h.2.2.2.2.2 (fun c => digs_lt) (by rw [digs_len]; exact hc.2) hc.1 g1 (fun j hj => ?_) g3) _ (by rw [List.length_append, digs_len])
  rw [digs_len] at hj
  rw [g2 j hj, List.getD_eq_getElem?_getD, show (digs v)[j]? = some (sb_dec v j) from by rw [digs, List.getElem?_map, List.getElem?_range hj]; rfl]
  rfl
theorem LK.ch {G : Nat → gM} {X X1 : Nat → Int32} {A A1 : Nat → Nat → Int32} {b b1 : cB} {t : List Nat} {c a1 : Nat} {f1 : Nat → Int32} (h : LK X A b t X1 A1 b1) (hc : c < 128) (hT : t.length + 1 ≤ 110) (g1 : ∀ j, j < t.length → f1 j = A1 5 j) (g2 : f1 t.length = sb_b c) (g3 : sb_Fit f1) :
    ∃ (X2 : Nat → Int32) (A2 : Nat → Nat → Int32) (b2 : cB), putL G X1 A1 b1 (X1 10, nI (t.length + 1), a1, sb_cap (t.length + 1) b1.2.2.2, f1) = ((G, X2, A2), b2) ∧ LK X A b (t ++ [c]) X2 A2 b2 := by
  have hm := lcap_le hT h.2.2.2.2.2.2.1
  refine h.put (LN.cat (s := [c]) (m1 := sb_cap (t.length + 1) b1.2.2.2) h.2.2.2.2.2 (fun d hd => by rw [List.mem_singleton] at hd; omega) hm.2 hm.1 g1 (fun j hj => ?_) g3) _ (by rw [List.length_append, List.length_singleton])
  have e : j = 0 := by rw [List.length_singleton] at hj; omega
  subst e
  exact g2
theorem LK.clr {G : Nat → gM} {X : Nat → Int32} {A : Nat → Nat → Int32} {b : cB} {ml : Int32} {a1 m : Nat} {f1 : Nat → Int32} (hm : m ≤ 32766) (hf : sb_Fit f1) :
    ∃ (X2 : Nat → Int32) (A2 : Nat → Nat → Int32) (b2 : cB), putL G X A b (ml, nI 0, a1, m, f1) = ((G, X2, A2), b2) ∧ LK X A b [] X2 A2 b2 := by
  refine ⟨_, _, _, rfl, ⟨fun k h8 h10 => ?_, fun k h5 => ?_, rfl, rfl, upd_eq _ _ _, ?_⟩⟩
  · rw [upd_ne _ _ h8, upd_ne _ _ h10]
  · show (if k = 5 then _ else A k) = A k
    rw [if_neg h5]
  · show LN [] m (if 5 = 5 then f1 else A 5)
    rw [if_pos rfl]
    exact ⟨Nat.zero_le _, hm, hf, fun c hc => absurd hc (by simp), fun j hj => absurd hj (Nat.not_lt_zero _)⟩
theorem LK.tx {X X1 : Nat → Int32} {A A1 : Nat → Nat → Int32} {b b1 : cB} {t : List Nat} (h : LK X A b t X1 A1 b1) : TX t.length b1.2.2.2 (A1 5) :=
  ⟨h.2.2.2.2.2.1, h.2.2.2.2.2.2.1, h.2.2.2.2.2.2.2.1, fun j => t.getD j 0, fun j hj => ⟨by
    have e : t.getD j 0 ∈ t := by
      rw [List.getD_eq_getElem?_getD, List.getElem?_eq_getElem hj]
      exact List.getElem_mem hj
    have := h.2.2.2.2.2.2.2.2.1 _ e
    show t.getD j 0 < 256
    omega, h.2.2.2.2.2.2.2.2.2 j hj⟩⟩
theorem digs_n {v : Int32} {N : Nat} (h0 : ¬ v < 0) (h : v < nI N) (hN : N < 2 ^ 31) : v = nI v.toNatClampNeg ∧ v.toNatClampNeg < N := by
  obtain ⟨j, hj, rfl⟩ := nI_of h0
  rw [nI_clamp hj]
  exact ⟨rfl, (nI_ltI hj hN).mp h⟩
theorem dg_2 {v : Nat} (h : v < 100) : sb_dg v ≤ 2 := by
  unfold sb_dg
  by_cases a : v < 10
  · rw [if_pos a]; omega
  · rw [if_neg a, if_pos h]; omega
theorem dg_4 {v : Nat} (h : v < 10000) : sb_dg v ≤ 4 := by
  unfold sb_dg
  by_cases a : v < 10
  · rw [if_pos a]; omega
  · rw [if_neg a]
    by_cases b : v < 100
    · rw [if_pos b]; omega
    · rw [if_neg b]
      by_cases c : v < 1000
      · rw [if_pos c]; omega
      · rw [if_neg c, if_pos h]; omega
