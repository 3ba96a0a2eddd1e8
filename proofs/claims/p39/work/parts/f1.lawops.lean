/-! ===== what the law's own calls do to an object ===== -/
/-- the counts and the rinks' columns stay -/
def KP (M N : gM) : Prop := N.1 3 = M.1 3 ∧ N.1 4 = M.1 4 ∧ ∀ r, N.2.1 r 0 = M.2.1 r 0 ∧ N.2.1 r 1 = M.2.1 r 1
section F1
variable {M N S : gM} {X Y : Nat → Int32} {A B : Nat → Nat → Int32} {G : Nat → gM}
theorem KP.rf : KP M M := ⟨rfl, rfl, fun _ => ⟨rfl, rfl⟩⟩
theorem KP.tr (h : KP M N) (k : KP N S) : KP M S := ⟨k.1.trans h.1, k.2.1.trans h.2.1, fun r => ⟨(k.2.2 r).1.trans (h.2.2 r).1, (k.2.2 r).2.trans (h.2.2 r).2⟩⟩
theorem KP.sg {k : Nat} {v : Int32} (h3 : 3 ≠ k) (h4 : 4 ≠ k) (h : KP M N) : KP M (sg N k v) := ⟨(upd_ne _ _ h3).trans h.1, (upd_ne _ _ h4).trans h.2.1, h.2.2⟩
theorem KP.sw {k j : Nat} {v : Int32} (h : KP M N) : KP M (sw N k j v) := ⟨h.1, h.2.1, h.2.2⟩
theorem KP.sr {k j : Nat} {v : Int32} (h0 : 0 ≠ j) (h1 : 1 ≠ j) (h : KP M N) : KP M (sr N k j v) := by
  refine ⟨h.1, h.2.1, fun r => ?_⟩
  show up2 N.2.1 k j v r 0 = _ ∧ up2 N.2.1 k j v r 1 = _
  by_cases e : r = k
  · subst e
    rw [up2_eq, upd_ne _ _ h0, upd_ne _ _ h1]
    exact h.2.2 r
  · rw [up2_ne _ _ _ e]
    exact h.2.2 r
theorem set_1 {p : Int32} : (f_X7_settle M X A p).1 = p := by
  unfold f_X7_settle
  simp only [bd_x]
  split <;> rfl
theorem kp_start {r : Nat} {p : Int32} : KP M (f_X5_startEnd M r p) := by
  unfold f_X5_startEnd
  exact KP.sr (by omega) (by omega) (KP.sr (by omega) (by omega) (KP.sr (by omega) (by omega) (KP.sr (by omega) (by omega) KP.rf)))
theorem kp_begin {p q : Int32} : KP M (f_X7_beginEnd M X A p q).2.1 := by
  unfold f_X7_beginEnd
  simp only [bd_x]
  repeat' split
  all_goals first
    | exact KP.rf
    | exact kp_start
theorem kp_bowl {p1 p2 p3 p4 p5 : Int32} : KP M (f_X7_bowlWood M X A p1 p2 p3 p4 p5).2.1 := by
  unfold f_X7_bowlWood
  simp only [bd_x]
  split
  · exact KP.rf
  split
  · exact KP.rf
  split
  · exact KP.rf
  split
  · exact KP.rf
  split
  · have h0 : ∀ i : Nat, 0 ≠ 8 + i := fun i => by omega
    have h1 : ∀ i : Nat, 1 ≠ 8 + i := fun i => by omega
    split
    · repeat first
        | refine KP.sw ?_
        | refine KP.sr (h0 _) (h1 _) ?_
        | refine KP.sr (by decide) (by decide) ?_
      exact KP.rf
    · repeat first
        | refine KP.sw ?_
        | refine KP.sr (h0 _) (h1 _) ?_
        | refine KP.sr (by decide) (by decide) ?_
      exact KP.rf
  · exact KP.rf
theorem kp_rain {p : Int32} : KP M (f_X7_setRain M X A p).2.1 := by
  unfold f_X7_setRain
  simp only [bd_x]
  split
  · exact KP.rf
  · exact KP.sg (by decide) (by decide) KP.rf
theorem kp_sun {p : Int32} : KP M (f_X7_setSun M X A p).2.1 := by
  unfold f_X7_setSun
  simp only [bd_x]
  split
  · exact KP.rf
  · exact KP.sg (by decide) (by decide) KP.rf
theorem kp_pass1 : ∀ n k (N : gM), KP M N → KP M (f_X1_passHour_l2 n k N) := by
  intro n
  induction n with
  | zero => exact fun k N h => h
  | succ n ih =>
    intro k N h
    unfold f_X1_passHour_l2
    simp only [bd_x]
    split
    · exact h
    · exact ih _ _ (KP.sr (by omega) (by omega) (KP.sr (by omega) (by omega) h))
theorem kp_pass {p : Int32} : ∀ n k (N : gM), KP M N → KP M (f_X7_passHours_l16 X A p n k N) := by
  intro n
  induction n with
  | zero => exact fun k N h => h
  | succ n ih =>
    intro k N h
    unfold f_X7_passHours_l16
    simp only [bd_x]
    split
    · exact h
    · exact ih _ _ (h.tr (KP.sg (by decide) (by decide) (kp_pass1 5 0 _ KP.rf)))
theorem kp_hour {p : Int32} : KP M (f_X7_passHours M X A p).2.1 := by
  unfold f_X7_passHours
  simp only [bd_x]
  repeat' split
  all_goals first
    | exact KP.rf
    | exact kp_pass _ _ _ KP.rf
/-! a rink laid out, a wood taken -/
theorem low_none {p q : Int32} {N : Nat} (h3 : M.1 3 = nI N) (hN : N < 5) (hk : ∀ k, k < N → M.2.1 k 1 < p ∧ ¬ q < M.2.1 k 0) : ∀ n k, n + k = 5 → k ≤ N → f_X1_lowestRinkWithin_l2 M p q n k = -1 := by
  intro n
  induction n with
  | zero => intro k e hkN; omega
  | succ n ih =>
    intro k e hkN
    unfold f_X1_lowestRinkWithin_l2
    by_cases c : k = N
    · subst c
      rw [if_pos (by rw [h3]; exact Int32.le_refl _)]
    · rw [if_neg (by rw [h3]; exact xnle (by omega) (by omega)), if_neg (hk k (by omega)).2, if_pos (hk k (by omega)).1]
      exact ih (k + 1) (by omega) (by omega)
theorem xlt {a b : Nat} (h : a < b) (hb : b < 2 ^ 31) : nI a < nI b := (nI_ltI (by omega) hb).mpr h
theorem xnlt {a b : Nat} (h : b ≤ a) (ha : a < 2 ^ 31) : ¬ nI a < nI b := fun c => absurd ((nI_ltI ha (by omega)).mp c) (by omega)
theorem lay_w : ∀ a, a < 30 → ∀ c, c < 30 → a + 2 ≤ c → c ≤ a + 9 → ¬ ((nI c - nI a) + 1) < 3 ∧ ((nI c - nI a) + 1) ≤ 10 := by decide +kernel
theorem lay_ok {r a c : Nat} (h3 : M.1 3 = nI r) (hr : r < 4) (hac : a + 2 ≤ c) (hca : c ≤ a + 9) (hc : c < 30) (hk : ∀ k, k < r → M.2.1 k 1 < nI a ∧ ¬ nI c < M.2.1 k 0) : f_X7_layRink M X A (nI a) (nI c) = (nI r, sg (f_X5_lay M r (nI a) (nI c)) 3 (nI (r + 1)), X, A) := by
  unfold f_X7_layRink
  simp only [bd_x]
  obtain ⟨w1, w2⟩ := lay_w a (by omega) c hc hac hca
  rw [if_neg (show ¬ nI a < 0 from xnlt (b := 0) (by omega) (by omega)), if_neg (show ¬ 29 < nI a from xnlt (a := 29) (by omega) (by omega)), if_neg (show ¬ nI c < 0 from xnlt (b := 0) (by omega) (by omega)), if_pos (show nI c ≤ 29 from Int32.not_lt.mp (xnlt (a := 29) (by omega) (by omega))), if_neg w1, if_pos w2, if_pos (show M.1 3 < 4 by rw [h3]; exact xlt (b := 4) hr (by omega))]
  unfold f_X1_lowestRinkWithin
  rw [low_none h3 (by omega) hk 5 0 rfl (by omega), if_pos rfl, h3, nI_clamp (by omega)]
  rw [show (f_X5_lay M r (nI a) (nI c)).1 3 = nI r from h3, nI_1]
theorem wood_ok {w p : Nat} {q : Int32} (h4 : M.1 4 = nI w) (hw : w < 16) (hp : p < 2) (hq : vp_in q 10) : f_X7_addWood M X A (nI p) q = (nI w, sg (f_X6_make M w (nI p) q) 4 (nI (w + 1)), X, A) := by
  obtain ⟨j, hj, rfl⟩ := vp_in_of hq (by decide)
  unfold f_X7_addWood f_X7_isClub
  simp only [bd_x]
  rw [if_neg (show ¬ nI p < 0 from xnlt (b := 0) (by omega) (by omega)), if_neg (show ¬ 2 ≤ nI p from Int32.not_le.mpr (xlt (b := 2) hp (by omega))), if_neg (show ¬ (1 : Int32) = 0 by decide), if_neg (show ¬ nI j < 0 from xnlt (b := 0) (by omega) (by omega)), if_pos (show nI j ≤ 9 from Int32.not_lt.mp (xnlt (a := 9) (by omega) (by omega))), if_pos (show M.1 4 < 16 by rw [h4]; exact xlt (b := 16) hw (by omega)), h4, nI_clamp (by omega)]
  rw [show (f_X6_make M w (nI p) (nI j)).1 4 = nI w from h4, nI_1]
theorem begin_ok (hG : GR M (B 0)) {p q : Int32} (hz : ¬ f_X1_isRink M p = 0) (h20 : ¬ q < 20) (h40 : q ≤ 40) : (f_X7_beginEnd M X A p q).1 = -3 ∨ vp_in (f_X7_beginEnd M X A p q).1 2 := by
  obtain ⟨r, rfl, hr, hc⟩ := rink_of hG hz
  unfold f_X7_beginEnd
  simp only [bd_x]
  rw [if_neg hz, if_neg h20, if_pos h40]
  split
  · split
    · refine Or.inr ?_
      rw [start_turn, nI_clamp (show r < 2 ^ 31 by omega)]
      exact (hG.r (by omega) hc).2.2.2.2.2.2.1
    · exact Or.inl rfl
  · exact Or.inl rfl
theorem bowl_ok (hR : RS X A Y B) (hG : GR M (B 0)) {p1 p2 p3 p4 p5 : Int32} (h1 : ¬ f_X1_isRink M p1 = 0) (h2 : ¬ f_X1_isWood M p2 = 0) (h3 : ¬ f_X5_holds M p1.toNatClampNeg p3 = 0) (h4 : ¬ f_X7_isStrength M X A p4 = 0) : (f_X7_bowlWood M X A p1 p2 p3 p4 p5).1 = -3 ∨ (f_X7_bowlWood M X A p1 p2 p3 p4 p5).1 = -4 ∨ vp_in (f_X7_bowlWood M X A p1 p2 p3 p4 p5).1 10000 := by
  have hg := (R_bowl hR hG p1 p2 p3 p4 p5).2.2.2.2.2.1
  revert hg
  unfold f_X7_bowlWood
  simp only [bd_x]
  rw [if_neg h1, if_neg h2, if_neg h3, if_neg h4]
  obtain ⟨w, rfl, hw16, hwc⟩ := wood_of hG h2
  split
  · split
    · exact fun _ => Or.inr (Or.inl rfl)
    · intro hg
      refine Or.inr (Or.inr ?_)
      have e : (nI w).toNatClampNeg = w := nI_clamp (by omega)
      rw [e] at hg ⊢
      exact (hg.w (k := w) (by omega) hwc).2.1.2.2.2
  · exact fun _ => Or.inl rfl
theorem z_rink {p q : Int32} : (f_X7_rink G M X A p q).1 = (f_X7_layRink M X A p q).1 := set_1
theorem z_wood {p q : Int32} : (f_X7_wood G M X A p q).1 = (f_X7_addWood M X A p q).1 := set_1
theorem z_begin {p q : Int32} : (f_X7_begin G M X A p q).1 = (f_X7_beginEnd M X A p q).1 := set_1
theorem z_bowl {p1 p2 p3 p4 p5 : Int32} : (f_X7_bowl G M X A p1 p2 p3 p4 p5).1 = (f_X7_bowlWood M X A p1 p2 p3 p4 p5).1 := set_1
theorem z_rain {p : Int32} : (f_X7_rain G M X A p).1 = (f_X7_setRain M X A p).1 := set_1
theorem z_sun {p : Int32} : (f_X7_sun G M X A p).1 = (f_X7_setSun M X A p).1 := set_1
theorem z_hour {p : Int32} : (f_X7_hour G M X A p).1 = (f_X7_passHours M X A p).1 := set_1
theorem s_rink {p q : Int32} : (f_X7_rink G M X A p q).2.2.1 = (f_X7_layRink M X A p q).2.1 := rfl
theorem s_wood {p q : Int32} : (f_X7_wood G M X A p q).2.2.1 = (f_X7_addWood M X A p q).2.1 := rfl
theorem s_begin {p q : Int32} : (f_X7_begin G M X A p q).2.2.1 = (f_X7_beginEnd M X A p q).2.1 := rfl
theorem s_bowl {p1 p2 p3 p4 p5 : Int32} : (f_X7_bowl G M X A p1 p2 p3 p4 p5).2.2.1 = (f_X7_bowlWood M X A p1 p2 p3 p4 p5).2.1 := rfl
theorem s_rain {p : Int32} : (f_X7_rain G M X A p).2.2.1 = (f_X7_setRain M X A p).2.1 := rfl
theorem s_sun {p : Int32} : (f_X7_sun G M X A p).2.2.1 = (f_X7_setSun M X A p).2.1 := rfl
theorem s_hour {p : Int32} : (f_X7_hour G M X A p).2.2.1 = (f_X7_passHours M X A p).2.1 := rfl
theorem wth {p : Int32} (h : vp_in p 10) : ¬ f_X7_isWeather M X A p = 0 := by
  obtain ⟨j, hj, rfl⟩ := vp_in_of h (by decide)
  unfold f_X7_isWeather
  have h0 : ¬ nI j < 0 := xnlt (b := 0) (by omega) (by omega)
  have h9 : ¬ 9 < nI j := xnlt (a := 9) (by omega) (by omega)
  simp only [if_neg h0, if_neg h9]
  decide
theorem rain_ok {p : Int32} (h : vp_in p 10) : (f_X7_setRain M X A p).1 = M.1 6 ∧ (f_X7_setRain M X A p).2.1 = sg M 6 p := by
  unfold f_X7_setRain
  simp only [bd_x]
  rw [if_neg (wth h)]
  exact ⟨rfl, rfl⟩
theorem sun_ok {p : Int32} (h : vp_in p 10) : (f_X7_setSun M X A p).1 = M.1 7 ∧ (f_X7_setSun M X A p).2.1 = sg M 7 p := by
  unfold f_X7_setSun
  simp only [bd_x]
  rw [if_neg (wth h)]
  exact ⟨rfl, rfl⟩
theorem hour_ok (hR : RS X A Y B) (hG : GR M (B 0)) {p : Int32} (h1 : ¬ p < 1) (h2 : p ≤ 24) : vp_in (f_X7_passHours M X A p).1 37 := by
  have hg := (R_hour hR hG p).2.2.2.2.2.1
  revert hg
  unfold f_X7_passHours
  simp only [bd_x]
  rw [if_neg h1, if_pos h2]
  intro hg
  obtain ⟨i, hi, e⟩ := casts_l hg 5 0 0 rfl (by omega) (by omega)
  unfold f_X1_allCasts
  rw [show (0 : Int32) = nI 0 from rfl, e]
  exact vp_in_nI (by omega) (by decide)
end F1
