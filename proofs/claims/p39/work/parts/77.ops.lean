/-! ===== pure: the orders ===== -/
theorem GR.woods {M M1 : gM} {f g : Nat → Int32} (h : GR M f) (h1 : M1.1 = M.1) (h2 : M1.2.1 = M.2.1) (h3 : M1.2.2.2 = M.2.2.2) (hf : ∀ k, k < 57 → k ≠ 5 → g k = f k) (h5 : g 5 = f_X1_woodsBowled M1) (hW : ∀ w, w < 16 → ¬ M.1 4 ≤ nI w → WW M1 g w) (hcn : ∀ r, r < 4 → ¬ M.1 3 ≤ nI r → ∀ c, c < 2 → cnt (onR M1 r c) 16 ≤ (M.2.1 r (8 + c)).toNatClampNeg) : GR M1 g := by
  obtain ⟨g1, r1, w1, c1⟩ := M1
  obtain ⟨g0, r0, w0, c0⟩ := M
  change g1 = g0 at h1
  change r1 = r0 at h2
  change c1 = c0 at h3
  subst h1
  subst h2
  subst h3
  obtain ⟨⟨s0, s1, s2, s3, s4, s5, s6, s7, s8⟩, hc, v, hrr, hw, hn⟩ := h
  refine ⟨⟨?_, ?_, ?_, ?_, ?_, h5, ?_, ?_, ?_⟩, ?_, v, ?_, hW, hcn⟩
  · rw [hf _ (by decide) (by decide)]; exact s0
  · rw [hf _ (by decide) (by decide)]; exact s1
  · rw [hf _ (by decide) (by decide)]; exact s2
  · rw [hf _ (by decide) (by decide)]; exact s3
  · rw [hf _ (by decide) (by decide)]; exact s4
  · rw [hf _ (by decide) (by decide)]; exact s6
  · rw [hf _ (by decide) (by decide)]; exact s7
  · rw [hf _ (by decide) (by decide)]; exact s8
  · intro c hc1 i hi
    rw [hf _ (by omega) (by omega)]; exact hc c hc1 i hi
  · intro q hq hqc
    have y := hrr q hq hqc
    unfold RR at y ⊢
    have w : ∀ j, j < 10 → g (17 + 10 * q + j) = f (17 + 10 * q + j) := fun j hj => hf _ (by omega) (by omega)
    rw [w 0 (by decide), w 1 (by decide), w 2 (by decide), w 3 (by decide), w 4 (by decide), w 5 (by decide), w 6 (by decide), w 7 (by decide), w 8 (by decide), w 9 (by decide)]
    exact y
/-- the clubs change -/
theorem GR.clubs {M M1 : gM} {f g : Nat → Int32} (h : GR M f) (h1 : M1.1 = M.1) (h2 : M1.2.1 = M.2.1) (h3 : M1.2.2.1 = M.2.2.1) (hf : ∀ k, k < 169 → ¬ (9 ≤ k ∧ k < 17) → g k = f k) (hc : ∀ c, c < 2 → ∀ i, i < 4 → g (9 + 4 * c + i) = M1.2.2.2 c i) (hv : ∀ c, c < 2 → vp_in (M1.2.2.2 c 2) 11 ∧ M1.2.2.2 c 2 + M1.2.2.2 c 3 = 10) : GR M1 g := by
  obtain ⟨g1, r1, w1, c1⟩ := M1
  obtain ⟨g0, r0, w0, c0⟩ := M
  change g1 = g0 at h1
  change r1 = r0 at h2
  change w1 = w0 at h3
  subst h1
  subst h2
  subst h3
  have h0 : GR (g1, r1, w1, c0) (fun k => if 9 ≤ k ∧ k < 17 then f k else g k) := h.row (fun k hk => by
    show (if 9 ≤ k ∧ k < 17 then f k else g k) = f k
    by_cases e : 9 ≤ k ∧ k < 17
    · rw [if_pos e]
    · rw [if_neg e]; exact hf k hk e)
  have key : ∀ k, ¬ (9 ≤ k ∧ k < 17) → (fun k => if 9 ≤ k ∧ k < 17 then f k else g k) k = g k := fun k e => if_neg e
  obtain ⟨⟨s0, s1, s2, s3, s4, s5, s6, s7, s8⟩, -, ⟨v3, v4, v6, v7, v8, -⟩, hrr, hw, hn⟩ := h0
  rw [key _ (by decide)] at s0 s1 s2 s3 s4 s5 s6 s7 s8
  refine ⟨⟨s0, s1, s2, s3, s4, ?_, s6, s7, s8⟩, hc, ⟨v3, v4, v6, v7, v8, hv⟩, ?_, ?_, hn⟩
  · exact s5.trans (bowled_congr (M := (g1, r1, w1, c0)) (N := (g1, r1, w1, c1)) rfl v4 (fun _ _ _ => rfl) 17 0 0 rfl)
  · intro q hq hqc
    have y := hrr q hq hqc
    unfold RR at y ⊢
    rw [key _ (by omega), key _ (by omega), key _ (by omega), key _ (by omega), key _ (by omega), key _ (by omega), key _ (by omega), key _ (by omega), key _ (by omega), key _ (by omega)] at y
    exact y
  · intro q hq hqc
    obtain ⟨y1, y2, y3, y4⟩ := hw q hq hqc
    rw [key _ (by omega), key _ (by omega), key _ (by omega), key _ (by omega), key _ (by omega), key _ (by omega), key _ (by omega)] at y1
    exact ⟨y1, y2, y3, y4⟩
theorem sg_ne {M : gM} {k j : Nat} {v : Int32} (h : j ≠ k) : (sg M k v).1 j = M.1 j := upd_ne _ _ h
theorem sg_eq {M : gM} {k : Nat} {v : Int32} : (sg M k v).1 k = v := upd_eq _ _ _
/-- the reasons of both -/
def RS (X : Nat → Int32) (A : Nat → Nat → Int32) (Y : Nat → Int32) (B : Nat → Nat → Int32) : Prop := ∃ d, d ≤ 3 ∧ X 6 = nI d ∧ Y 16 = nI d ∧ ∀ i, i < d → A 2 (d - 1 - i) = B 7 (2 * i) ∧ A 3 (d - 1 - i) = B 7 (2 * i + 1)
/-- at most so many -/
def RSd (X : Nat → Int32) (n : Nat) : Prop := ∃ d, d ≤ n ∧ X 6 = nI d
def FXm (Y Z : Nat → Int32) : Prop := ∀ k, k ≠ 16 → k ≠ 17 → Z k = Y k
def FAm (B C : Nat → Nat → Int32) : Prop := ∀ k, k ≠ 0 → k ≠ 7 → C k = B k
/-- an order of the class, and of the reference -/
def OpR (X : Nat → Int32) (A : Nat → Nat → Int32) (Y : Nat → Int32) (B : Nat → Nat → Int32) (z : Int32 × gM × (Nat → Int32) × (Nat → Nat → Int32)) (w : Int32 × (Nat → Int32) × (Nat → Nat → Int32)) : Prop :=
  FC X z.2.2.1 ∧ FA A z.2.2.2 ∧ FXm Y w.2.1 ∧ FAm B w.2.2 ∧ RS z.2.2.1 z.2.2.2 w.2.1 w.2.2 ∧ GR z.2.1 (w.2.2 0) ∧
  ((w.1 = 0 ∧ w.2.1 17 = z.1 ∧ z.1 ≠ -1 ∧ z.1 ≠ -2 ∧ z.1 ≠ -3) ∨ (w.1 = z.1 ∧ (z.1 = -1 ∨ z.1 = -2 ∨ (z.1 = -3 ∧ RSd z.2.2.1 2))))
section OP
variable {M : gM} {f : Nat → Int32} {X Y : Nat → Int32} {A B : Nat → Nat → Int32}
theorem FXm.rf : FXm Y Y := fun _ _ _ => rfl
theorem FAm.rf : FAm B B := fun _ _ _ => rfl
theorem FAm.tr {C D : Nat → Nat → Int32} (h : FAm B C) (g : FAm C D) : FAm B D := fun k a b => (g k a b).trans (h k a b)
theorem FAm.up {C : Nat → Nat → Int32} {i : Nat} {v : Int32} (h : FAm B C) : FAm B (up2 C 0 i v) := fun k a b => (up2_ne _ _ _ a).trans (h k a b)
theorem FXm.up {Z : Nat → Int32} {v : Int32} (h : FXm Y Z) : FXm Y (upd Z 17 v) := fun k a b => (upd_ne _ _ b).trans (h k a b)
theorem RS.keep {Z : Nat → Int32} {C : Nat → Nat → Int32} (h : RS X A Y B) (h16 : Z 16 = Y 16) (h7 : C 7 = B 7) : RS X A Z C := by
  obtain ⟨d, d1, d2, d3, d4⟩ := h
  exact ⟨d, d1, d2, h16.trans d3, fun i hi => by rw [h7]; exact d4 i hi⟩
/-- a code without a reason -/
theorem op_code {c : Int32} (hR : RS X A Y B) (hG : GR M (B 0)) (hc : c = -1 ∨ c = -2) : OpR X A Y B (c, M, X, A) (c, Y, B) := ⟨FC.rf, FA.rf, FXm.rf, FAm.rf, hR, hG, Or.inr ⟨rfl, hc.elim Or.inl (fun q => Or.inr (Or.inl q))⟩⟩
/-- done -/
theorem op_done {M1 : gM} {a : Int32} {C : Nat → Nat → Int32} (hR : RS X A Y B) (hG : GR M1 (C 0)) (hF : FAm B C) (h7 : C 7 = B 7) (ha : a ≠ -1 ∧ a ≠ -2 ∧ a ≠ -3) : OpR X A Y B (a, M1, X, A) (0, upd Y 17 a, C) :=
  ⟨FC.rf, FA.rf, FXm.rf.up, hF, hR.keep (show upd Y 17 a 16 = Y 16 from upd_ne _ _ (by decide)) h7, hG, Or.inl ⟨rfl, show upd Y 17 a 17 = a from upd_eq _ _ _, ha⟩⟩
theorem put_1 (p q : Int32) : f_X4_put M (upd X 6 0) A p q = (upd (upd X 6 0) 6 1, up2 (up2 A 2 0 p) 3 0 q) := by
  unfold f_X4_put
  rw [upd_eq, if_neg (by decide)]
  rfl
theorem refuse_eq (p q : Int32) : f_X7_refuse M X A p q = (-3, upd (upd X 6 0) 6 1, up2 (up2 A 2 0 p) 3 0 q) := by
  unfold f_X7_refuse f_X4_empty
  simp only [bd_x]
  rw [put_1]
theorem rs_1 (p q : Int32) : RS (upd (upd X 6 0) 6 1) (up2 (up2 A 2 0 p) 3 0 q) (upd Y 16 1) (up2 (up2 B 7 0 p) 7 1 q) := by
  refine ⟨1, by decide, upd_eq _ _ _, upd_eq _ _ _, fun i hi => ?_⟩
  rw [show i = 0 by omega]
  constructor
  · show up2 (up2 A 2 0 p) 3 0 q 2 0 = up2 (up2 B 7 0 p) 7 1 q 7 0
    rw [up2_ne _ _ _ (by decide), up2_eq, upd_eq, up2_eq, upd_ne _ _ (by decide), up2_eq, upd_eq]
  · show up2 (up2 A 2 0 p) 3 0 q 3 0 = up2 (up2 B 7 0 p) 7 1 q 7 1
    rw [up2_eq, upd_eq, up2_eq, upd_eq]
theorem FC.u6 {a b : Int32} : FC X (upd (upd X 6 a) 6 b) := fun k hk => (upd_ne _ _ hk).trans (upd_ne _ _ hk)
theorem FA.u23 {a b : Int32} {i j : Nat} : FA A (up2 (up2 A 2 i a) 3 j b) := fun k h2 h3 => (up2_ne _ _ _ h3).trans (up2_ne _ _ _ h2)
theorem FAm.u7 {a b : Int32} {i j : Nat} : FAm B (up2 (up2 B 7 i a) 7 j b) := fun k h0 h7 => (up2_ne _ _ _ h7).trans (up2_ne _ _ _ h7)
theorem FXm.u16 {a : Int32} : FXm Y (upd Y 16 a) := fun k h _ => upd_ne _ _ h
/-- refused -/
theorem op_refuse (hG : GR M (B 0)) (p q : Int32) : OpR X A Y B ((f_X7_refuse M X A p q).1, M, (f_X7_refuse M X A p q).2.1, (f_X7_refuse M X A p q).2.2) ((f_X8_refuses Y B p q).1, (f_X8_refuses Y B p q).2.1, (f_X8_refuses Y B p q).2.2) := by
  rw [refuse_eq]
  unfold f_X8_refuses
  refine ⟨FC.u6, FA.u23, FXm.u16, FAm.u7, rs_1 p q, ?_, Or.inr ⟨rfl, Or.inr (Or.inr ⟨rfl, 1, by decide, show upd (upd X 6 0) 6 1 6 = nI 1 from upd_eq _ _ _⟩)⟩⟩
  show GR M (up2 (up2 B 7 0 p) 7 1 q 0)
  rw [up2_ne _ _ _ (by decide), up2_ne _ _ _ (by decide)]
  exact hG
theorem in_set {p : Int32} : f_X8_in Y B p 0 9 = f_X7_isWeather M X A p := rfl
theorem weather_in {p : Int32} (h : ¬ f_X7_isWeather M X A p = 0) : vp_in p 10 := by
  unfold f_X7_isWeather at h
  by_cases a : p < 0
  · rw [if_pos a] at h; exact absurd rfl h
  · rw [if_neg a] at h
    by_cases b : 9 < p
    · rw [if_pos b] at h; exact absurd rfl h
    · obtain ⟨j, hj, rfl⟩ := nI_of a
      have := (nI_leI (a := j) (b := 9) hj (by decide)).mp (Int32.not_lt.mp b)
      exact vp_in_nI (by omega) (by decide)
theorem ncode {x : Int32} {N : Nat} (h : vp_in x N) : x ≠ -1 ∧ x ≠ -2 ∧ x ≠ -3 := by
  have h0 : ¬ x < 0 := fun q => h (Or.inl q)
  exact ⟨fun q => h0 (by rw [q]; decide), fun q => h0 (by rw [q]; decide), fun q => h0 (by rw [q]; decide)⟩
theorem R_setRain (hR : RS X A Y B) (hG : GR M (B 0)) (p : Int32) : OpR X A Y B (f_X7_setRain M X A p) (f_X8_sets Y B 1 p) := by
  unfold f_X7_setRain f_X8_sets f_X8_does
  simp only [bd_x]
  rw [in_set (M := M) (X := X) (A := A)]
  by_cases z : f_X7_isWeather M X A p = 0
  · rw [if_pos z, if_pos z]; exact op_code hR hG (Or.inr rfl)
  · rw [if_neg z, if_neg z]
    show OpR X A Y B (M.1 6, sg M 6 p, X, A) (0, upd Y 17 (B 0 1), up2 B 0 1 p)
    rw [hG.1.2.1]
    refine op_done hR ?_ FAm.rf.up (up2_ne _ _ _ (by decide)) (ncode hG.2.2.1.2.2.1)
    rw [up2_eq]
    refine hG.scal rfl (sg_ne (by decide)) (sg_ne (by decide)) (fun k hk => upd_ne _ _ (by omega)) ⟨?_, ?_, ?_, upd_ne _ _ (by decide), upd_ne _ _ (by decide), upd_ne _ _ (by decide), ?_, ?_, ?_⟩ ⟨?_, ?_, ?_⟩
    · show upd (B 0) 1 p 0 = upd M.1 6 p 5
      rw [upd_ne _ _ (by decide), upd_ne _ _ (by decide)]; exact hG.1.1
    · show upd (B 0) 1 p 1 = upd M.1 6 p 6
      rw [upd_eq, upd_eq]
    · show upd (B 0) 1 p 2 = upd M.1 6 p 7
      rw [upd_ne _ _ (by decide), upd_ne _ _ (by decide)]; exact hG.1.2.2.1
    · show upd (B 0) 1 p 6 = upd M.1 6 p 8
      rw [upd_ne _ _ (by decide), upd_ne _ _ (by decide)]; exact hG.1.2.2.2.2.2.2.1
    · show upd (B 0) 1 p 7 = upd M.1 6 p 9
      rw [upd_ne _ _ (by decide), upd_ne _ _ (by decide)]; exact hG.1.2.2.2.2.2.2.2.1
    · show upd (B 0) 1 p 8 = upd M.1 6 p 10
      rw [upd_ne _ _ (by decide), upd_ne _ _ (by decide)]; exact hG.1.2.2.2.2.2.2.2.2
    · show vp_in (upd M.1 6 p 6) 10
      rw [upd_eq]; exact weather_in z
    · show vp_in (upd M.1 6 p 7) 10
      rw [upd_ne _ _ (by decide)]; exact hG.2.2.1.2.2.2.1
    · show vp_in (upd M.1 6 p 8) 41
      rw [upd_ne _ _ (by decide)]; exact hG.2.2.1.2.2.2.2.1
theorem R_setSun (hR : RS X A Y B) (hG : GR M (B 0)) (p : Int32) : OpR X A Y B (f_X7_setSun M X A p) (f_X8_sets Y B 2 p) := by
  unfold f_X7_setSun f_X8_sets f_X8_does
  simp only [bd_x]
  rw [in_set (M := M) (X := X) (A := A)]
  by_cases z : f_X7_isWeather M X A p = 0
  · rw [if_pos z, if_pos z]; exact op_code hR hG (Or.inr rfl)
  · rw [if_neg z, if_neg z]
    show OpR X A Y B (M.1 7, sg M 7 p, X, A) (0, upd Y 17 (B 0 2), up2 B 0 2 p)
    rw [hG.1.2.2.1]
    refine op_done hR ?_ FAm.rf.up (up2_ne _ _ _ (by decide)) (ncode hG.2.2.1.2.2.2.1)
    rw [up2_eq]
    refine hG.scal rfl (sg_ne (by decide)) (sg_ne (by decide)) (fun k hk => upd_ne _ _ (by omega)) ⟨?_, ?_, ?_, upd_ne _ _ (by decide), upd_ne _ _ (by decide), upd_ne _ _ (by decide), ?_, ?_, ?_⟩ ⟨?_, ?_, ?_⟩
    · show upd (B 0) 2 p 0 = upd M.1 7 p 5
      rw [upd_ne _ _ (by decide), upd_ne _ _ (by decide)]; exact hG.1.1
    · show upd (B 0) 2 p 1 = upd M.1 7 p 6
      rw [upd_ne _ _ (by decide), upd_ne _ _ (by decide)]; exact hG.1.2.1
    · show upd (B 0) 2 p 2 = upd M.1 7 p 7
      rw [upd_eq, upd_eq]
    · show upd (B 0) 2 p 6 = upd M.1 7 p 8
      rw [upd_ne _ _ (by decide), upd_ne _ _ (by decide)]; exact hG.1.2.2.2.2.2.2.1
    · show upd (B 0) 2 p 7 = upd M.1 7 p 9
      rw [upd_ne _ _ (by decide), upd_ne _ _ (by decide)]; exact hG.1.2.2.2.2.2.2.2.1
    · show upd (B 0) 2 p 8 = upd M.1 7 p 10
      rw [upd_ne _ _ (by decide), upd_ne _ _ (by decide)]; exact hG.1.2.2.2.2.2.2.2.2
    · show vp_in (upd M.1 7 p 6) 10
      rw [upd_ne _ _ (by decide)]; exact hG.2.2.1.2.2.1
    · show vp_in (upd M.1 7 p 7) 10
      rw [upd_eq]; exact weather_in z
    · show vp_in (upd M.1 7 p 8) 41
      rw [upd_ne _ _ (by decide)]; exact hG.2.2.1.2.2.2.2.1
end OP
