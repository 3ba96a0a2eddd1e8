/-! ===== what an order answers: a code, and the green is as it was; or a number within bounds ===== -/
def CODE (p : Int32) : Prop := p = -1 ∨ p = -2 ∨ p = -3
theorem vp_nc {x : Int32} {N : Nat} (h : vp_in x N) : ¬ CODE x := fun c => by
  have q := ncode h
  rcases c with e | e | e
  · exact q.1 e
  · exact q.2.1 e
  · exact q.2.2 e
/-- the inner part of a change: what it leaves alone; a code, or done -/
def INN (M : gM) (X : Nat → Int32) (A : Nat → Nat → Int32) (z : Int32 × gM × (Nat → Int32) × (Nat → Nat → Int32)) (P : Int32 → Prop) : Prop :=
  FC X z.2.2.1 ∧ FA A z.2.2.2 ∧ ((CODE z.1 ∧ z.2.1 = M) ∨ (P z.1 ∧ z.2.2.1 = X ∧ z.2.2.2 = A)) ∧ (z.1 = -3 ∨ (z.2.2.1 = X ∧ z.2.2.2 = A))
section A1
variable {M : gM} {f : Nat → Int32} {X : Nat → Int32} {A : Nat → Nat → Int32} {P : Int32 → Prop}
theorem INN.code {c : Int32} (h : CODE c) : INN M X A (c, M, X, A) P := ⟨FC.rf, FA.rf, Or.inl ⟨h, rfl⟩, Or.inr ⟨rfl, rfl⟩⟩
theorem INN.done {c : Int32} {N : gM} (h : P c) : INN M X A (c, N, X, A) P := ⟨FC.rf, FA.rf, Or.inr ⟨h, rfl, rfl⟩, Or.inr ⟨rfl, rfl⟩⟩
theorem INN.ref (p q : Int32) : INN M X A ((f_X7_refuse M X A p q).1, M, (f_X7_refuse M X A p q).2.1, (f_X7_refuse M X A p q).2.2) P := by
  rw [refuse_eq]
  exact ⟨FC.u6, FA.u23, Or.inl ⟨Or.inr (Or.inr rfl), rfl⟩, Or.inl rfl⟩
theorem FA.w {a b : Int32} : FA A (up2 (up2 (up2 (up2 A 2 0 13) 3 0 a) 2 1 3) 3 1 b) := FA.tr (B := up2 (up2 A 2 0 13) 3 0 a) FA.u23 FA.u23
theorem INN.wet (p q : Int32) : INN M X A ((f_X7_refuseWetRink M X A p q).1, M, (f_X7_refuseWetRink M X A p q).2.1, (f_X7_refuseWetRink M X A p q).2.2) P := by
  rw [wet_eq]
  exact ⟨fun k hk => (upd_ne _ _ hk).trans ((upd_ne _ _ hk).trans (upd_ne _ _ hk)), FA.w, Or.inl ⟨Or.inr (Or.inr rfl), rfl⟩, Or.inl rfl⟩
theorem i_rink (hG : GR M f) (p q : Int32) : INN M X A (f_X7_layRink M X A p q) (fun a => vp_in a 4) := by
  unfold f_X7_layRink
  simp only [bd_x]
  split
  · exact INN.code (Or.inr (Or.inl rfl))
  split
  · exact INN.code (Or.inr (Or.inl rfl))
  split
  · exact INN.code (Or.inr (Or.inl rfl))
  split
  · split
    · exact INN.code (Or.inr (Or.inl rfl))
    · split
      · split
        · rename_i h4
          split
          · exact INN.done (lt_cnt (by decide) hG.v3 h4)
          · exact INN.ref _ _
        · exact INN.ref _ _
      · exact INN.code (Or.inr (Or.inl rfl))
  · exact INN.code (Or.inr (Or.inl rfl))
theorem i_wood (hG : GR M f) (p q : Int32) : INN M X A (f_X7_addWood M X A p q) (fun a => vp_in a 16) := by
  unfold f_X7_addWood
  simp only [bd_x]
  split
  · exact INN.code (Or.inl rfl)
  split
  · exact INN.code (Or.inr (Or.inl rfl))
  split
  · split
    · rename_i h4
      exact INN.done (lt_cnt (by decide) hG.v4 h4)
    · exact INN.ref _ _
  · exact INN.code (Or.inr (Or.inl rfl))
end A1
section A2
variable {M : gM} {X Y : Nat → Int32} {A B : Nat → Nat → Int32}
theorem start_turn {M : gM} {r : Nat} {q : Int32} : (f_X5_startEnd M r q).2.1 r 6 = M.2.1 r 5 := by
  unfold f_X5_startEnd
  rw [sr_r, upd_ne _ _ (by decide), sr_r, upd_ne _ _ (by decide), sr_r, upd_eq, sr_r, upd_ne _ _ (by decide)]
theorem i_begin (hG : GR M (B 0)) (p q : Int32) : INN M X A (f_X7_beginEnd M X A p q) (fun a => vp_in a 2) := by
  unfold f_X7_beginEnd
  simp only [bd_x]
  split
  · exact INN.code (Or.inl rfl)
  rename_i hz
  obtain ⟨r, rfl, hr, hc⟩ := rink_of hG hz
  split
  · exact INN.code (Or.inr (Or.inl rfl))
  split
  · split
    · split
      · refine INN.done ?_
        rw [start_turn, nI_clamp (show r < 2 ^ 31 by omega)]
        exact (hG.r (by omega) hc).2.2.2.2.2.2.1
      · exact INN.wet _ _
    · exact INN.ref _ _
  · exact INN.code (Or.inr (Or.inl rfl))
theorem b_ref (p q : Int32) : FC X (f_X7_isBowlRefused M X A p q).2.1 ∧ FA A (f_X7_isBowlRefused M X A p q).2.2 ∧ ((f_X7_isBowlRefused M X A p q).1 = 0 → (f_X7_isBowlRefused M X A p q).2.1 = X ∧ (f_X7_isBowlRefused M X A p q).2.2 = A) := by
  unfold f_X7_isBowlRefused
  simp only [bd_x, refuse_eq, if_true]
  split
  · exact ⟨FC.u6, FA.u23, fun h => absurd h (show ¬ (1 : Int32) = 0 by decide)⟩
  split
  · split
    · split
      · exact ⟨FC.rf, FA.rf, fun _ => ⟨rfl, rfl⟩⟩
      · exact ⟨FC.u6, FA.u23, fun h => absurd h (show ¬ (1 : Int32) = 0 by decide)⟩
    · exact ⟨FC.u6, FA.u23, fun h => absurd h (show ¬ (1 : Int32) = 0 by decide)⟩
  · exact ⟨FC.u6, FA.u23, fun h => absurd h (show ¬ (1 : Int32) = 0 by decide)⟩
theorem i_bowl (hR : RS X A Y B) (hG : GR M (B 0)) (p1 p2 p3 p4 p5 : Int32) : INN M X A (f_X7_bowlWood M X A p1 p2 p3 p4 p5) (fun a => a = -4 ∨ vp_in a 10000) := by
  have hg := (R_bowl hR hG p1 p2 p3 p4 p5).2.2.2.2.2.1
  obtain ⟨b1, b2, b3⟩ := b_ref (M := M) (X := X) (A := A) p1 p2
  revert hg
  unfold f_X7_bowlWood
  simp only [bd_x]
  split
  · exact fun _ => INN.code (Or.inl rfl)
  split
  · exact fun _ => INN.code (Or.inl rfl)
  rename_i hw
  obtain ⟨w, rfl, hw16, hwc⟩ := wood_of hG hw
  split
  · exact fun _ => INN.code (Or.inr (Or.inl rfl))
  split
  · exact fun _ => INN.code (Or.inr (Or.inl rfl))
  split
  · rename_i h0
    obtain ⟨e1, e2⟩ := b3 h0
    split
    · intro _
      exact ⟨b1, b2, Or.inr ⟨Or.inl rfl, e1, e2⟩, Or.inr ⟨e1, e2⟩⟩
    · intro hg
      refine ⟨b1, b2, Or.inr ⟨Or.inr ?_, e1, e2⟩, Or.inr ⟨e1, e2⟩⟩
      have e : (nI w).toNatClampNeg = w := nI_clamp (by omega)
      rw [e] at hg ⊢
      exact (hg.w (k := w) (by omega) hwc).2.1.2.2.2
  · exact fun _ => ⟨b1, b2, Or.inl ⟨Or.inr (Or.inr rfl), rfl⟩, Or.inl rfl⟩
theorem i_close (hG : GR M (B 0)) (p : Int32) : INN M X A (f_X7_closeEnd M X A p) (fun a => vp_in a 20) := by
  unfold f_X7_closeEnd
  simp only [bd_x]
  split
  · exact INN.code (Or.inl rfl)
  rename_i hz
  obtain ⟨r, rfl, hr, hc⟩ := rink_of hG hz
  have hv : vp_in (f_X1_countShots M (nI r)) 20 := by
    rcases count_in hG hr hc with e | ⟨n, h1, h2, e⟩ | ⟨n, h1, h2, e⟩
    · rw [e]; exact vp_in_nI (n := 0) (by decide) (by decide)
    · rw [e]; exact vp_in_nI (by omega) (by decide)
    · rw [e]; exact vp_in_nI (by omega) (by decide)
  split
  · exact INN.ref _ _
  split
  · exact INN.done hv
  split
  · exact INN.done hv
  · exact INN.done hv
theorem i_sweep (hG : GR M (B 0)) (p : Int32) : INN M X A (f_X7_sweepRink M X A p) (fun a => vp_in a 10) := by
  unfold f_X7_sweepRink
  simp only [bd_x]
  split
  · exact INN.code (Or.inl rfl)
  rename_i hz
  obtain ⟨r, rfl, hr, hc⟩ := rink_of hG hz
  split
  · exact INN.ref _ _
  split
  · refine INN.done ?_
    rw [nI_clamp (show r < 2 ^ 31 by omega)]
    exact (hG.r (by omega) hc).2.2.2.2.1
  · exact INN.ref _ _
theorem i_rain (hG : GR M (B 0)) (p : Int32) : INN M X A (f_X7_setRain M X A p) (fun a => vp_in a 10) := by
  unfold f_X7_setRain
  simp only [bd_x]
  split
  · exact INN.code (Or.inr (Or.inl rfl))
  · exact INN.done hG.2.2.1.2.2.1
theorem i_sun (hG : GR M (B 0)) (p : Int32) : INN M X A (f_X7_setSun M X A p) (fun a => vp_in a 10) := by
  unfold f_X7_setSun
  simp only [bd_x]
  split
  · exact INN.code (Or.inr (Or.inl rfl))
  · exact INN.done hG.2.2.1.2.2.2.1
theorem i_brew (hG : GR M (B 0)) (p : Int32) : INN M X A (f_X7_brewCups M X A p) (fun a => vp_in a 41) := by
  unfold f_X7_brewCups
  split
  · exact INN.code (Or.inr (Or.inl rfl))
  rename_i h1
  split
  · rename_i h20
    refine INN.done ?_
    rw [sg_eq]
    obtain ⟨j, hj, ej⟩ := vp_in_of hG.2.2.1.2.2.2.2.1 (by decide)
    obtain ⟨k, hk, rfl⟩ := nI_of (x := p) (fun q => h1 (Int32.lt_trans q (by decide)))
    have hk20 : k ≤ 20 := (nI_leI (a := k) (b := 20) hk (by decide)).mp h20
    rw [ej, nI_add]
    split
    · rename_i h40
      exact vp_in_nI (by have := (nI_ltI (a := j + k) (b := 40) (by omega) (by decide)).mp h40; omega) (by decide)
    · exact vp_in_nI (n := 40) (by decide) (by decide)
  · exact INN.code (Or.inr (Or.inl rfl))
theorem teas_in {a b : Int32} (h : vp_in a 11) (e : a + b = 10) : vp_in b 11 := by
  obtain ⟨j, hj, rfl⟩ := vp_in_of h (by decide)
  have eb : b = 10 - nI j := by rw [← e]; exact (by rw [Int32.add_comm, Int32.add_sub_cancel])
  rw [eb, show (10 : Int32) = nI 10 from rfl, pk_sub (by omega)]
  exact vp_in_nI (by omega) (by decide)
theorem i_tea (hR : RS X A Y B) (hG : GR M (B 0)) (p : Int32) : INN M X A (f_X7_giveTea M X A p) (fun a => vp_in a 11) := by
  have hg := (R_tea hR hG p).2.2.2.2.2.1
  revert hg
  unfold f_X7_giveTea
  simp only [bd_x]
  split
  · exact fun _ => INN.code (Or.inl rfl)
  rename_i hz
  obtain ⟨c, rfl, hc⟩ := club_is hz
  have e : (nI c).toNatClampNeg = c := nI_clamp (by omega)
  rw [e]
  split
  · split
    · intro hg
      exact INN.done (teas_in (hg.2.2.1.2.2.2.2.2 c hc).1 (hg.2.2.1.2.2.2.2.2 c hc).2)
    · exact fun _ => INN.ref _ _
  · exact fun _ => INN.ref _ _
theorem i_hour (hR : RS X A Y B) (hG : GR M (B 0)) (p : Int32) : INN M X A (f_X7_passHours M X A p) (fun a => vp_in a 37) := by
  have hg := (R_hour hR hG p).2.2.2.2.2.1
  revert hg
  unfold f_X7_passHours
  simp only [bd_x]
  split
  · exact fun _ => INN.code (Or.inr (Or.inl rfl))
  split
  · intro hg
    refine INN.done ?_
    obtain ⟨i, hi, e⟩ := casts_l hg 5 0 0 rfl (by omega) (by omega)
    unfold f_X1_allCasts
    rw [show (0 : Int32) = nI 0 from rfl, e]
    exact vp_in_nI (by omega) (by decide)
  · exact fun _ => INN.code (Or.inr (Or.inl rfl))
end A2
