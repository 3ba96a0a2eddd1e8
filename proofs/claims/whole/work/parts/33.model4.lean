theorem MI_rf {X : Nat → Int32} {A : Nat → Nat → Int32} {a b : Int32} {z : Int32 × (Nat → Int32) × (Nat → Nat → Int32)} (h : MI A) (hz : z = f_X8_refuses X A a b) : MI z.2.2 := by
  rw [hz]; exact MI_of h (fun j _ => rfl) rfl
theorem rf_16 {X : Nat → Int32} {A : Nat → Nat → Int32} {a b : Int32} {z : Int32 × (Nat → Int32) × (Nat → Nat → Int32)} (hz : z = f_X8_refuses X A a b) : vp_in (z.2.1 16) 3 := by
  rw [hz]; exact vp_in_nI (n := 1) (by decide) (by decide)
theorem rb_16 {X : Nat → Int32} {A A' : Nat → Nat → Int32} {a b c d : Int32} {y z : Int32 × (Nat → Int32) × (Nat → Nat → Int32)} (hy : y = f_X8_refuses X A a b) (hz : z = f_X8_refusesBy y.2.1 A' c d) : vp_in (z.2.1 16) 3 := by
  rw [hz, hy]; exact vp_in_nI (n := 2) (by decide) (by decide)
theorem do_ne {X : Nat → Int32} {A : Nat → Nat → Int32} {p : Int32} {z : Int32 × (Nat → Int32)} (hz : z = f_X8_does X A p) : ¬ z.1 = -3 := by
  rw [hz]; exact fun q => absurd (show (0 : Int32) = -3 from q) (by decide)
theorem MI_rb {X : Nat → Int32} {A : Nat → Nat → Int32} {a b : Int32} {z : Int32 × (Nat → Int32) × (Nat → Nat → Int32)} (h : MI A) (hz : z = f_X8_refusesBy X A a b) : MI z.2.2 := by
  have e : ∀ n x A, (f_X8_refusesBy_l9 X a b n x A).2 0 = A 0 ∧ (f_X8_refusesBy_l9 X a b n x A).2 5 = A 5 := by
    intro n
    induction n with
    | zero => intro x A; exact ⟨rfl, rfl⟩
    | succ n ih =>
      intro x A
      unfold f_X8_refusesBy_l9
      split
      · exact ⟨rfl, rfl⟩
      · exact ⟨(ih _ _).1.trans rfl, (ih _ _).2.trans rfl⟩
  rw [hz]
  refine MI_of h (fun j _ => ?_) (e 5 _ A).2
  exact congrFun (e 5 _ A).1 j
/-- nothing but the reasons' depth and the answer has changed of the numbers; the depth stays in range -/
def FX (X0 X : Nat → Int32) : Prop := (∀ k, k ≠ 16 → k ≠ 17 → X k = X0 k) ∧ (vp_in (X0 16) 4 → vp_in (X 16) 4)
theorem FX.rf {X : Nat → Int32} : FX X X := ⟨fun _ _ _ => rfl, fun h => h⟩
theorem FX.tr {X Y Z : Nat → Int32} (h : FX X Y) (g : FX Y Z) : FX X Z := ⟨fun k a b => (g.1 k a b).trans (h.1 k a b), fun q => g.2 (h.2 q)⟩
theorem FX_rf {X : Nat → Int32} {A : Nat → Nat → Int32} {a b : Int32} {z : Int32 × (Nat → Int32) × (Nat → Nat → Int32)} (hz : z = f_X8_refuses X A a b) : FX X z.2.1 := by
  rw [hz]; exact ⟨fun k h1 _ => upd_ne _ _ h1, fun _ => vp_in_nI (n := 1) (by decide) (by decide)⟩
theorem FX_rb {X : Nat → Int32} {A : Nat → Nat → Int32} {a b : Int32} {z : Int32 × (Nat → Int32) × (Nat → Nat → Int32)} (hD : vp_in (X 16) 3) (hz : z = f_X8_refusesBy X A a b) : FX X z.2.1 := by
  rw [hz]
  refine ⟨fun k h1 _ => upd_ne _ _ h1, fun _ => ?_⟩
  obtain ⟨j, hj, e⟩ := vp_in_of hD (by decide)
  show vp_in (upd X 16 (X 16 + 1) 16) 4
  rw [upd_eq, e, nI_1]; exact vp_in_nI (by omega) (by decide)
theorem FX_do {X : Nat → Int32} {A : Nat → Nat → Int32} {a : Int32} {z : Int32 × (Nat → Int32)} (hz : z = f_X8_does X A a) : FX X z.2 := by
  rw [hz]; exact ⟨fun k _ h2 => upd_ne _ _ h2, fun h => h⟩
theorem clM_in {X : Nat → Int32} {A : Nat → Nat → Int32} {p z : Int32} (hI : MI A) (hp : vp_in p 16) (hz : z = f_X8_ofWood X A p 0) : vp_in z 2 := by
  rw [hz]; exact hI.2.2.2.1 _ (vp_lt hp)
theorem cnt_l39 {X : Nat → Int32} {A : Nat → Nat → Int32} {p1 club b0 b1 : Int32} : ∀ n k m : Nat, ∃ m', m ≤ m' ∧ m' ≤ m + n ∧ f_X8_counted_l39 X A p1 n k club (nI m) b0 b1 = (club, nI m', b0, b1) := by
  intro n
  induction n with
  | zero => intro k m; exact ⟨m, Nat.le_refl _, Nat.le_refl _, rfl⟩
  | succ n ih =>
    intro k m
    obtain ⟨m1, a1, a2, a3⟩ := ih (k + 1) m
    obtain ⟨m2, a4, a5, a6⟩ := ih (k + 1) (m + 1)
    unfold f_X8_counted_l39
    dsimp only [bd]
    split
    · exact ⟨m, by omega, by omega, rfl⟩
    · split
      · exact ⟨m1, by omega, by omega, a3⟩
      · by_cases hd : f_X8_ofWood X A (nI k) 0 = club
        · rw [if_pos hd]
          by_cases hc : (if b0 < b1 then b1 else b0) ≤ f_X8_distance X A (nI k)
          · rw [if_pos hc]; exact ⟨m1, by omega, by omega, a3⟩
          · rw [if_neg hc, nI_1]; exact ⟨m2, by omega, by omega, a6⟩
        · rw [if_neg hd]; exact ⟨m1, by omega, by omega, a3⟩
theorem cnt_range {X : Nat → Int32} {A : Nat → Nat → Int32} {p z : Int32} (hz : z = f_X8_counted X A p) : ∃ m, m ≤ 27 ∧ z = nI m := by
  unfold f_X8_counted at hz
  dsimp only [bd] at hz
  split at hz
  · exact ⟨0, by omega, hz⟩
  · split at hz
    · obtain ⟨m, -, h2, h3⟩ := cnt_l39 (X := X) (A := A) (p1 := p) (club := 1) (b0 := f_X8_least X A p 0) (b1 := f_X8_least X A p 1) 17 0 0
      refine ⟨m + 10, by omega, hz.trans ?_⟩
      have h4 : f_X8_counted_l39 X A p 17 0 1 0 (f_X8_least X A p 0) (f_X8_least X A p 1) = (1, nI m, f_X8_least X A p 0, f_X8_least X A p 1) := h3
      rw [h4]
      exact nI_add m 10
    · obtain ⟨m, -, h2, h3⟩ := cnt_l39 (X := X) (A := A) (p1 := p) (club := 0) (b0 := f_X8_least X A p 0) (b1 := f_X8_least X A p 1) 17 0 0
      refine ⟨m, by omega, hz.trans ?_⟩
      have h4 : f_X8_counted_l39 X A p 17 0 0 0 (f_X8_least X A p 0) (f_X8_least X A p 1) = (0, nI m, f_X8_least X A p 0, f_X8_least X A p 1) := h3
      rw [h4]
      exact nI_add m 0
theorem cnt_div {X : Nat → Int32} {A : Nat → Nat → Int32} {p z : Int32} (hz : z = f_X8_counted X A p) : vp_in (z / 10) 3 := by
  obtain ⟨m, hm, rfl⟩ := cnt_range hz
  rw [show (nI m / 10) = nI (m / 10) from pk_div (d := 10) (by omega) (by decide) (by decide)]
  exact vp_in_nI (by omega) (by decide)

def f_X8_starts (X : Nat → Int32) (A : Nat → Nat → Int32) (p1 : Int32) (p2 : Int32) : Int32 × (Nat → Int32) × (Nat → Nat → Int32) :=
  bd (f_X8_isRink X A p1) fun z1 =>
  if z1 = 0 then
    ((-1), (X, A))
  else
    bd (f_X8_in X A p2 20 40) fun z3 =>
    if z3 = 0 then
      ((-2), (X, A))
    else
      bd (f_X8_ofRink X A p1 4) fun z5 =>
      if z5 ≤ 0 then
        bd (f_X8_ofRink X A p1 2) fun z7 =>
        if z7 < 8 then
          bd (f_X8_setsRink X A p1 4 p2) fun z9 =>
          bd (f_X8_ofRink X z9 p1 6) fun z10 =>
          bd (f_X8_setsRink X z9 p1 5 z10) fun z11 =>
          bd (f_X8_setsRink X z11 p1 7 0) fun z12 =>
          bd (f_X8_setsRink X z12 p1 8 0) fun z13 =>
          bd (f_X8_ofRink X z13 p1 5) fun z14 =>
          bd (f_X8_does X z13 z14) fun z15 =>
          (z15.1, (z15.2, z13))
        else
          bd (f_X8_hoursToDry X A p1) fun z16 =>
          bd (f_X8_refuses X A 13 z16) fun z17 =>
          bd (f_X8_ofRink z17.2.1 z17.2.2 p1 2) fun z18 =>
          bd (f_X8_refusesBy z17.2.1 z17.2.2 3 z18) fun z19 =>
          (z19.1, (z19.2.1, z19.2.2))
      else
        bd (f_X8_ofRink X A p1 4) fun z20 =>
        bd (f_X8_refuses X A 4 z20) fun z21 =>
        (z21.1, (z21.2.1, z21.2.2))
abbrev rm_X8_starts : Room := { frames := 3, cells := 0, slots := 0, locals := 65 }
set_option maxRecDepth 100000 in
set_option maxHeartbeats 4000000 in
theorem c_X8_starts (l : Launch) (D : gD) (cy : Nat → ClassId) (ad : Nat → Nat) (X : Nat → Int32) (A : Nat → Nat → Int32) (p1 : Int32) (p2 : Int32) (hI : MI A) : CtI l D cy (MW cy ad) yX8_starts cX8_starts 4 (some .int) rm_X8_starts [.ref (ad 0), .int p1, .int p2] (X, A) (fun rv u => ∃ z : Int32 × ((Nat → Int32) × (Nat → Nat → Int32)), z = f_X8_starts X A p1 p2 ∧ rv = z.1 ∧ u = z.2 ∧ MI (z.2.2) ∧ (rv = -3 → vp_in ((z.2.1) 16) 3) ∧ FX X (z.2.1)) 0 0 := by
  refine m_entI cX8_starts 4 (by decide) (Nat.le_of_ble_eq_true rfl) (fun J h hR => ?_)
  show J (X, A) (0, 0) [(0, .ref (ad 0)), (1, .int p1), (2, .int p2)] 0 []
  refine j_aload_n h dX8_starts_0 rfl 0 rfl ?_
  refine j_iload_n h dX8_starts_1 rfl 1 rfl ?_
  refine j_callI h (n := 1) (c_X8_isRink l D cy ad _ _ _) (xg_V (xr_20 2 rfl) (xr_20 3 rfl) (xr_20 4 rfl) (xr_1 5 rfl) (xr_20 5 rfl)) rfl rfl (by decide +kernel) ⟨Nat.le_of_ble_eq_true rfl, Nat.le_of_ble_eq_true rfl⟩ 0 rfl rfl rfl rfl rfl (Nat.le_of_ble_eq_true rfl) dX8_starts_2 ⟨by decide, by decide⟩ (fun z1 u' hq => ?_)
  obtain ⟨hz1, rfl, bz1⟩ := hq
  refine j_if_ne h (tgt := 10) dX8_starts_5 (by decide) (fun c2 => ?_) (fun c2 => ?_)
  · have vp1 : vp_in p1 4 := isRinkM_in hI hz1 c2
    have bp1 : p1.toNatClampNeg < 4 := vp_lt vp1
    have ep1 : p1 = nI p1.toNatClampNeg := vp_nI vp1 (by decide)
    refine j_iload_n h dX8_starts_10 rfl 2 rfl ?_
    refine j_bipush h (v := 20) dX8_starts_11 (by decide) ?_
    refine j_bipush h (v := 40) dX8_starts_13 (by decide) ?_
    refine j_callS h (n := 3) (c_X8_in l D cy ad _ _ _ _ _) (xg_S (xr_12 13 rfl) (xr_12 14 rfl) (xr_1 5 rfl) (xr_12 15 rfl)) rfl rfl (by decide +kernel) ⟨Nat.le_of_ble_eq_true rfl, Nat.le_of_ble_eq_true rfl⟩  rfl rfl (Nat.le_of_ble_eq_true rfl) dX8_starts_15 ⟨by decide, by decide⟩ (fun z3 u' hq => ?_)
    obtain ⟨hz3, rfl, bz3⟩ := hq
    refine j_if_ne h (tgt := 24) dX8_starts_18 (by decide) (fun c4 => ?_) (fun c4 => ?_)
    · refine j_aload_n h dX8_starts_24 rfl 0 rfl ?_
      refine j_iload_n h dX8_starts_25 rfl 1 rfl ?_
      refine j_iconst h (v := 4) dX8_starts_26 (by decide) ?_
      refine j_callI h (n := 2) (c_X8_ofRink l D cy ad _ _ _ _ (vp_of (j := p1.toNatClampNeg) ep1 (by omega) (by decide)) (vp_in_nI (by decide) (by decide))) (xg_V (xr_16 15 rfl) (xr_16 16 rfl) (xr_16 17 rfl) (xr_1 5 rfl) (xr_16 18 rfl)) rfl rfl (by decide +kernel) ⟨Nat.le_of_ble_eq_true rfl, Nat.le_of_ble_eq_true rfl⟩ 0 rfl rfl rfl rfl rfl (Nat.le_of_ble_eq_true rfl) dX8_starts_27 ⟨by decide, by decide⟩ (fun z5 u' hq => ?_)
      obtain ⟨hz5, rfl⟩ := hq
      refine j_if_le h (tgt := 45) dX8_starts_30 (by decide) (fun c6 => ?_) (fun c6 => ?_)
      · refine j_aload_n h dX8_starts_45 rfl 0 rfl ?_
        refine j_iload_n h dX8_starts_46 rfl 1 rfl ?_
        refine j_iconst h (v := 2) dX8_starts_47 (by decide) ?_
        refine j_callI h (n := 2) (c_X8_ofRink l D cy ad _ _ _ _ (vp_of (j := p1.toNatClampNeg) ep1 (by omega) (by decide)) (vp_in_nI (by decide) (by decide))) (xg_V (xr_16 15 rfl) (xr_16 16 rfl) (xr_16 17 rfl) (xr_1 5 rfl) (xr_16 18 rfl)) rfl rfl (by decide +kernel) ⟨Nat.le_of_ble_eq_true rfl, Nat.le_of_ble_eq_true rfl⟩ 0 rfl rfl rfl rfl rfl (Nat.le_of_ble_eq_true rfl) dX8_starts_48 ⟨by decide, by decide⟩ (fun z7 u' hq => ?_)
        obtain ⟨hz7, rfl⟩ := hq
        refine j_bipush h (v := 8) dX8_starts_51 (by decide) ?_
        refine j_icmp_lt h (tgt := 80) dX8_starts_53 (by decide) (fun c8 => ?_) (fun c8 => ?_)
        · refine j_aload_n h dX8_starts_80 rfl 0 rfl ?_
          refine j_iload_n h dX8_starts_81 rfl 1 rfl ?_
          refine j_iconst h (v := 4) dX8_starts_82 (by decide) ?_
          refine j_iload_n h dX8_starts_83 rfl 2 rfl ?_
          refine j_callV h (n := 3) (c_X8_setsRink l D cy ad _ _ _ _ _ (vp_of (j := p1.toNatClampNeg) ep1 (by omega) (by decide)) (vp_in_nI (by decide) (by decide))) (xg_V (xr_16 19 rfl) (xr_16 20 rfl) (xr_16 21 rfl) (xr_1 5 rfl) (xr_16 22 rfl)) rfl rfl (by decide +kernel) ⟨Nat.le_of_ble_eq_true rfl, Nat.le_of_ble_eq_true rfl⟩ 0 rfl rfl rfl rfl rfl (Nat.le_of_ble_eq_true rfl) dX8_starts_84 ⟨by decide, by decide⟩ (fun u' hq => ?_)
          obtain ⟨z9, hz9, rfl⟩ := hq
          have hIz9 : MI z9 := MI_sr hI (vp_of (j := p1.toNatClampNeg) ep1 (by omega) (by decide)) (vp_in_nI (by decide) (by decide)) hz9
          refine j_aload_n h dX8_starts_87 rfl 0 rfl ?_
          refine j_iload_n h dX8_starts_88 rfl 1 rfl ?_
          refine j_iconst h (v := 5) dX8_starts_89 (by decide) ?_
          refine j_aload_n h dX8_starts_90 rfl 0 rfl ?_
          refine j_iload_n h dX8_starts_91 rfl 1 rfl ?_
          refine j_bipush h (v := 6) dX8_starts_92 (by decide) ?_
          refine j_callI h (n := 2) (c_X8_ofRink l D cy ad _ _ _ _ (vp_of (j := p1.toNatClampNeg) ep1 (by omega) (by decide)) (vp_in_nI (by decide) (by decide))) (xg_V (xr_16 15 rfl) (xr_16 16 rfl) (xr_16 17 rfl) (xr_1 5 rfl) (xr_16 18 rfl)) rfl rfl (by decide +kernel) ⟨Nat.le_of_ble_eq_true rfl, Nat.le_of_ble_eq_true rfl⟩ 0 rfl rfl rfl rfl rfl (Nat.le_of_ble_eq_true rfl) dX8_starts_94 ⟨by decide, by decide⟩ (fun z10 u' hq => ?_)
          obtain ⟨hz10, rfl⟩ := hq
          refine j_callV h (n := 3) (c_X8_setsRink l D cy ad _ _ _ _ _ (vp_of (j := p1.toNatClampNeg) ep1 (by omega) (by decide)) (vp_in_nI (by decide) (by decide))) (xg_V (xr_16 19 rfl) (xr_16 20 rfl) (xr_16 21 rfl) (xr_1 5 rfl) (xr_16 22 rfl)) rfl rfl (by decide +kernel) ⟨Nat.le_of_ble_eq_true rfl, Nat.le_of_ble_eq_true rfl⟩ 0 rfl rfl rfl rfl rfl (Nat.le_of_ble_eq_true rfl) dX8_starts_97 ⟨by decide, by decide⟩ (fun u' hq => ?_)
          obtain ⟨z11, hz11, rfl⟩ := hq
          have hIz11 : MI z11 := MI_sr hIz9 (vp_of (j := p1.toNatClampNeg) ep1 (by omega) (by decide)) (vp_in_nI (by decide) (by decide)) hz11
          refine j_aload_n h dX8_starts_100 rfl 0 rfl ?_
          refine j_iload_n h dX8_starts_101 rfl 1 rfl ?_
          refine j_bipush h (v := 7) dX8_starts_102 (by decide) ?_
          refine j_iconst h (v := 0) dX8_starts_104 (by decide) ?_
          refine j_callV h (n := 3) (c_X8_setsRink l D cy ad _ _ _ _ _ (vp_of (j := p1.toNatClampNeg) ep1 (by omega) (by decide)) (vp_in_nI (by decide) (by decide))) (xg_V (xr_16 19 rfl) (xr_16 20 rfl) (xr_16 21 rfl) (xr_1 5 rfl) (xr_16 22 rfl)) rfl rfl (by decide +kernel) ⟨Nat.le_of_ble_eq_true rfl, Nat.le_of_ble_eq_true rfl⟩ 0 rfl rfl rfl rfl rfl (Nat.le_of_ble_eq_true rfl) dX8_starts_105 ⟨by decide, by decide⟩ (fun u' hq => ?_)
          obtain ⟨z12, hz12, rfl⟩ := hq
          have hIz12 : MI z12 := MI_sr hIz11 (vp_of (j := p1.toNatClampNeg) ep1 (by omega) (by decide)) (vp_in_nI (by decide) (by decide)) hz12
          refine j_aload_n h dX8_starts_108 rfl 0 rfl ?_
          refine j_iload_n h dX8_starts_109 rfl 1 rfl ?_
          refine j_bipush h (v := 8) dX8_starts_110 (by decide) ?_
          refine j_iconst h (v := 0) dX8_starts_112 (by decide) ?_
          refine j_callV h (n := 3) (c_X8_setsRink l D cy ad _ _ _ _ _ (vp_of (j := p1.toNatClampNeg) ep1 (by omega) (by decide)) (vp_in_nI (by decide) (by decide))) (xg_V (xr_16 19 rfl) (xr_16 20 rfl) (xr_16 21 rfl) (xr_1 5 rfl) (xr_16 22 rfl)) rfl rfl (by decide +kernel) ⟨Nat.le_of_ble_eq_true rfl, Nat.le_of_ble_eq_true rfl⟩ 0 rfl rfl rfl rfl rfl (Nat.le_of_ble_eq_true rfl) dX8_starts_113 ⟨by decide, by decide⟩ (fun u' hq => ?_)
          obtain ⟨z13, hz13, rfl⟩ := hq
          have hIz13 : MI z13 := MI_sr hIz12 (vp_of (j := p1.toNatClampNeg) ep1 (by omega) (by decide)) (vp_in_nI (by decide) (by decide)) hz13
          refine j_aload_n h dX8_starts_116 rfl 0 rfl ?_
          refine j_aload_n h dX8_starts_117 rfl 0 rfl ?_
          refine j_iload_n h dX8_starts_118 rfl 1 rfl ?_
          refine j_iconst h (v := 5) dX8_starts_119 (by decide) ?_
          refine j_callI h (n := 2) (c_X8_ofRink l D cy ad _ _ _ _ (vp_of (j := p1.toNatClampNeg) ep1 (by omega) (by decide)) (vp_in_nI (by decide) (by decide))) (xg_V (xr_16 15 rfl) (xr_16 16 rfl) (xr_16 17 rfl) (xr_1 5 rfl) (xr_16 18 rfl)) rfl rfl (by decide +kernel) ⟨Nat.le_of_ble_eq_true rfl, Nat.le_of_ble_eq_true rfl⟩ 0 rfl rfl rfl rfl rfl (Nat.le_of_ble_eq_true rfl) dX8_starts_120 ⟨by decide, by decide⟩ (fun z14 u' hq => ?_)
          obtain ⟨hz14, rfl⟩ := hq
          refine j_callI h (n := 1) (c_X8_does l D cy ad _ _ _) (xg_V (xr_20 20 rfl) (xr_20 21 rfl) (xr_20 22 rfl) (xr_1 5 rfl) (xr_20 23 rfl)) rfl rfl (by decide +kernel) ⟨Nat.le_of_ble_eq_true rfl, Nat.le_of_ble_eq_true rfl⟩ 0 rfl rfl rfl rfl rfl (Nat.le_of_ble_eq_true rfl) dX8_starts_123 ⟨by decide, by decide⟩ (fun r u' hq => ?_)
          obtain ⟨z15, hz15, rfl, rfl⟩ := hq
          exact hR _ _ _ _ dX8_starts_126 ⟨(_, _), Eq.symm ((bd_eq hz1 (ite_n c2 (bd_eq hz3 (ite_n c4 (bd_eq hz5 (ite_p c6 (bd_eq hz7 (ite_p c8 (bd_eq hz9 (bd_eq hz10 (bd_eq hz11 (bd_eq hz12 (bd_eq hz13 (bd_eq hz14 (bd_eq hz15 rfl)))))))))))))))), rfl, rfl, hIz13, (fun q => absurd q (do_ne hz15)), (FX.tr FX.rf (FX_do hz15))⟩
        · refine j_aload_n h dX8_starts_56 rfl 0 rfl ?_
          refine j_bipush h (v := 13) dX8_starts_57 (by decide) ?_
          refine j_aload_n h dX8_starts_59 rfl 0 rfl ?_
          refine j_iload_n h dX8_starts_60 rfl 1 rfl ?_
          refine j_callI h (n := 1) (c_X8_hoursToDry l D cy ad _ _ _ (vp_of (j := p1.toNatClampNeg) ep1 (by omega) (by decide))) (xg_V (xr_20 6 rfl) (xr_20 7 rfl) (xr_20 8 rfl) (xr_1 5 rfl) (xr_20 9 rfl)) rfl rfl (by decide +kernel) ⟨Nat.le_of_ble_eq_true rfl, Nat.le_of_ble_eq_true rfl⟩ 0 rfl rfl rfl rfl rfl (Nat.le_of_ble_eq_true rfl) dX8_starts_61 ⟨by decide, by decide⟩ (fun z16 u' hq => ?_)
          obtain ⟨hz16, rfl⟩ := hq
          refine j_callI h (n := 2) (c_X8_refuses l D cy ad _ _ _ _) (xg_V (xr_16 10 rfl) (xr_16 11 rfl) (xr_16 12 rfl) (xr_1 5 rfl) (xr_16 13 rfl)) rfl rfl (by decide +kernel) ⟨Nat.le_of_ble_eq_true rfl, Nat.le_of_ble_eq_true rfl⟩ 0 rfl rfl rfl rfl rfl (Nat.le_of_ble_eq_true rfl) dX8_starts_64 ⟨by decide, by decide⟩ (fun r u' hq => ?_)
          obtain ⟨z17, hz17, rfl, rfl⟩ := hq
          have hIz17 : MI z17.2.2 := MI_rf hI hz17
          refine j_istore_n h (lv' := [(3, _), (0, _), (1, _), (2, _)]) dX8_starts_67 rfl (by decide) rfl ?_
          refine j_aload_n h dX8_starts_68 rfl 1 rfl ?_
          refine j_iconst h (v := 3) dX8_starts_69 (by decide) ?_
          refine j_aload_n h dX8_starts_70 rfl 1 rfl ?_
          refine j_iload_n h dX8_starts_71 rfl 2 rfl ?_
          refine j_iconst h (v := 2) dX8_starts_72 (by decide) ?_
          refine j_callI h (n := 2) (c_X8_ofRink l D cy ad _ _ _ _ (vp_of (j := p1.toNatClampNeg) ep1 (by omega) (by decide)) (vp_in_nI (by decide) (by decide))) (xg_V (xr_16 15 rfl) (xr_16 16 rfl) (xr_16 17 rfl) (xr_1 5 rfl) (xr_16 18 rfl)) rfl rfl (by decide +kernel) ⟨Nat.le_of_ble_eq_true rfl, Nat.le_of_ble_eq_true rfl⟩ 0 rfl rfl rfl rfl rfl (Nat.le_of_ble_eq_true rfl) dX8_starts_73 ⟨by decide, by decide⟩ (fun z18 u' hq => ?_)
          obtain ⟨hz18, rfl⟩ := hq
          refine j_callI h (n := 2) (c_X8_refusesBy l D cy ad _ _ _ _ (rf_16 hz17)) (xg_V (xr_20 16 rfl) (xr_20 17 rfl) (xr_20 18 rfl) (xr_1 5 rfl) (xr_20 19 rfl)) rfl rfl (by decide +kernel) ⟨Nat.le_of_ble_eq_true rfl, Nat.le_of_ble_eq_true rfl⟩ 0 rfl rfl rfl rfl rfl (Nat.le_of_ble_eq_true rfl) dX8_starts_76 ⟨by decide, by decide⟩ (fun r u' hq => ?_)
          obtain ⟨z19, hz19, rfl, rfl⟩ := hq
          have hIz19 : MI z19.2.2 := MI_rb hIz17 hz19
          exact hR _ _ _ _ dX8_starts_79 ⟨(_, _), Eq.symm ((bd_eq hz1 (ite_n c2 (bd_eq hz3 (ite_n c4 (bd_eq hz5 (ite_p c6 (bd_eq hz7 (ite_n c8 (bd_eq hz16 (bd_eq hz17 (bd_eq hz18 (bd_eq hz19 rfl))))))))))))), rfl, rfl, hIz19, (fun _ => rb_16 hz17 hz19), (FX.tr (FX.tr FX.rf (FX_rf hz17)) (FX_rb (rf_16 hz17) hz19))⟩
      · refine j_aload_n h dX8_starts_33 rfl 0 rfl ?_
        refine j_iconst h (v := 4) dX8_starts_34 (by decide) ?_
        refine j_aload_n h dX8_starts_35 rfl 0 rfl ?_
        refine j_iload_n h dX8_starts_36 rfl 1 rfl ?_
        refine j_iconst h (v := 4) dX8_starts_37 (by decide) ?_
        refine j_callI h (n := 2) (c_X8_ofRink l D cy ad _ _ _ _ (vp_of (j := p1.toNatClampNeg) ep1 (by omega) (by decide)) (vp_in_nI (by decide) (by decide))) (xg_V (xr_16 15 rfl) (xr_16 16 rfl) (xr_16 17 rfl) (xr_1 5 rfl) (xr_16 18 rfl)) rfl rfl (by decide +kernel) ⟨Nat.le_of_ble_eq_true rfl, Nat.le_of_ble_eq_true rfl⟩ 0 rfl rfl rfl rfl rfl (Nat.le_of_ble_eq_true rfl) dX8_starts_38 ⟨by decide, by decide⟩ (fun z20 u' hq => ?_)
        obtain ⟨hz20, rfl⟩ := hq
        refine j_callI h (n := 2) (c_X8_refuses l D cy ad _ _ _ _) (xg_V (xr_16 10 rfl) (xr_16 11 rfl) (xr_16 12 rfl) (xr_1 5 rfl) (xr_16 13 rfl)) rfl rfl (by decide +kernel) ⟨Nat.le_of_ble_eq_true rfl, Nat.le_of_ble_eq_true rfl⟩ 0 rfl rfl rfl rfl rfl (Nat.le_of_ble_eq_true rfl) dX8_starts_41 ⟨by decide, by decide⟩ (fun r u' hq => ?_)
        obtain ⟨z21, hz21, rfl, rfl⟩ := hq
        have hIz21 : MI z21.2.2 := MI_rf hI hz21
        exact hR _ _ _ _ dX8_starts_44 ⟨(_, _), Eq.symm ((bd_eq hz1 (ite_n c2 (bd_eq hz3 (ite_n c4 (bd_eq hz5 (ite_n c6 (bd_eq hz20 (bd_eq hz21 rfl))))))))), rfl, rfl, hIz21, (fun _ => rf_16 hz21), (FX.tr FX.rf (FX_rf hz21))⟩
    · refine j_bipush h (v := (-2)) dX8_starts_21 (by decide) ?_
      exact hR _ _ _ _ dX8_starts_23 ⟨(_, _), Eq.symm ((bd_eq hz1 (ite_n c2 (bd_eq hz3 (ite_p c4 rfl))))), rfl, rfl, hI, (fun q => absurd q (by decide)), FX.rf⟩
  · refine j_iconst h (v := (-1)) dX8_starts_8 (by decide) ?_
    exact hR _ _ _ _ dX8_starts_9 ⟨(_, _), Eq.symm ((bd_eq hz1 (ite_p c2 rfl))), rfl, rfl, hI, (fun q => absurd q (by decide)), FX.rf⟩

def f_X8_bowls (X : Nat → Int32) (A : Nat → Nat → Int32) (p1 : Int32) (p2 : Int32) (p3 : Int32) (p4 : Int32) (p5 : Int32) : Int32 × (Nat → Int32) × (Nat → Nat → Int32) :=
  bd (f_X8_isRink X A p1) fun z1 =>
  if z1 = 0 then
    ((-1), (X, A))
  else
    bd (f_X8_isWood X A p2) fun z3 =>
    if z3 = 0 then
      ((-1), (X, A))
    else
      bd (f_X8_isBad X A p1 p3) fun z5 =>
      if z5 = 0 then
        bd (f_X8_in X A p4 1 20) fun z7 =>
        if z7 = 0 then
          ((-2), (X, A))
        else
          bd (f_X8_ofRink X A p1 4) fun z9 =>
          if z9 = 0 then
            bd (f_X8_refuses X A 5 p1) fun z49 =>
            (z49.1, (z49.2.1, z49.2.2))
          else
            bd (f_X8_ofWood X A p2 2) fun z11 =>
            if z11 ≤ 0 then
              bd (f_X8_ofWood X A p2 0) fun z13 =>
              bd (f_X8_ofRink X A p1 (7 + z13)) fun z14 =>
              if z14 = 4 then
                bd (f_X8_refuses X A 8 4) fun z46 =>
                (z46.1, (z46.2.1, z46.2.2))
              else
                bd (f_X8_ofRink X A p1 5) fun z16 =>
                if z16 = z13 then
                  bd (f_X8_columnOf X A p2 p3 p4 p5) fun z18 =>
                  bd (f_X8_lengthOf X A p1 p2 z18 p4) fun z19 =>
                  bd (f_X8_setsWood X A p2 3 p1) fun z20 =>
                  if 0 ≤ z19 then
                    bd (f_X8_setsWood X z20 p2 2 1) fun z22 =>
                    bd (f_X8_setsWood X z22 p2 4 z18) fun z24 =>
                    bd (f_X8_setsWood X z24 p2 5 (if 0 < z19 then z19 else 0)) fun z25 =>
                    bd (f_X8_ofWood X z25 p2 6) fun z26 =>
                    bd (f_X8_setsWood X z25 p2 6 (z26 + 1)) fun z27 =>
                    bd (f_X8_ofRink X z27 p1 (7 + z13)) fun z28 =>
                    bd (f_X8_setsRink X z27 p1 (7 + z13) (z28 + 1)) fun z29 =>
                    bd (f_X8_setsRink X z29 p1 5 (1 - z13)) fun z30 =>
                    bd (f_X8_distance X (up2 z30 0 5 ((z30 0 5) + 1)) p2) fun z32 =>
                    bd (f_X8_does X (up2 z30 0 5 ((z30 0 5) + 1)) z32) fun z33 =>
                    (z33.1, (z33.2, up2 z30 0 5 ((z30 0 5) + 1)))
                  else
                    bd (f_X8_setsWood X z20 p2 2 2) fun z34 =>
                    bd (f_X8_setsWood X z34 p2 4 0) fun z36 =>
                    bd (f_X8_setsWood X z36 p2 5 (if 0 < z19 then z19 else 0)) fun z37 =>
                    bd (f_X8_ofWood X z37 p2 6) fun z38 =>
                    bd (f_X8_setsWood X z37 p2 6 (z38 + 1)) fun z39 =>
                    bd (f_X8_ofRink X z39 p1 (7 + z13)) fun z40 =>
                    bd (f_X8_setsRink X z39 p1 (7 + z13) (z40 + 1)) fun z41 =>
                    bd (f_X8_setsRink X z41 p1 5 (1 - z13)) fun z42 =>
                    bd (f_X8_does X (up2 z42 0 5 ((z42 0 5) + 1)) (-4)) fun z44 =>
                    (z44.1, (z44.2, up2 z42 0 5 ((z42 0 5) + 1)))
                else
                  bd (f_X8_refuses X A 6 (1 - z13)) fun z45 =>
                  (z45.1, (z45.2.1, z45.2.2))
            else
              bd (f_X8_ofWood X A p2 3) fun z47 =>
              bd (f_X8_refuses X A 7 z47) fun z48 =>
              (z48.1, (z48.2.1, z48.2.2))
      else
        ((-2), (X, A))
abbrev rm_X8_bowls : Room := { frames := 3, cells := 0, slots := 0, locals := 72 }
set_option maxRecDepth 100000 in
set_option maxHeartbeats 4000000 in
theorem c_X8_bowls (l : Launch) (D : gD) (cy : Nat → ClassId) (ad : Nat → Nat) (X : Nat → Int32) (A : Nat → Nat → Int32) (p1 : Int32) (p2 : Int32) (p3 : Int32) (p4 : Int32) (p5 : Int32) (hI : MI A) : CtI l D cy (MW cy ad) yX8_bowls cX8_bowls 9 (some .int) rm_X8_bowls [.ref (ad 0), .int p1, .int p2, .int p3, .int p4, .int p5] (X, A) (fun rv u => ∃ z : Int32 × ((Nat → Int32) × (Nat → Nat → Int32)), z = f_X8_bowls X A p1 p2 p3 p4 p5 ∧ rv = z.1 ∧ u = z.2 ∧ MI (z.2.2) ∧ (rv = -3 → vp_in ((z.2.1) 16) 3) ∧ FX X (z.2.1)) 0 0 := by
  refine m_entI cX8_bowls 9 (by decide) (Nat.le_of_ble_eq_true rfl) (fun J h hR => ?_)
  show J (X, A) (0, 0) [(0, .ref (ad 0)), (1, .int p1), (2, .int p2), (3, .int p3), (4, .int p4), (5, .int p5)] 0 []
  refine j_aload_n h dX8_bowls_0 rfl 0 rfl ?_
  refine j_iload_n h dX8_bowls_1 rfl 1 rfl ?_
  refine j_callI h (n := 1) (c_X8_isRink l D cy ad _ _ _) (xg_V (xr_20 2 rfl) (xr_20 3 rfl) (xr_20 4 rfl) (xr_1 5 rfl) (xr_20 5 rfl)) rfl rfl (by decide +kernel) ⟨Nat.le_of_ble_eq_true rfl, Nat.le_of_ble_eq_true rfl⟩ 0 rfl rfl rfl rfl rfl (Nat.le_of_ble_eq_true rfl) dX8_bowls_2 ⟨by decide, by decide⟩ (fun z1 u' hq => ?_)
  obtain ⟨hz1, rfl, bz1⟩ := hq
  refine j_if_eq h (tgt := 16) dX8_bowls_5 (by decide) (fun c2 => ?_) (fun c2 => ?_)
  · refine j_iconst h (v := (-1)) dX8_bowls_16 (by decide) ?_
    exact hR _ _ _ _ dX8_bowls_17 ⟨(_, _), Eq.symm ((bd_eq hz1 (ite_p c2 rfl))), rfl, rfl, hI, (fun q => absurd q (by decide)), FX.rf⟩
  · have vp1 : vp_in p1 4 := isRinkM_in hI hz1 c2
    have bp1 : p1.toNatClampNeg < 4 := vp_lt vp1
    have ep1 : p1 = nI p1.toNatClampNeg := vp_nI vp1 (by decide)
    refine j_aload_n h dX8_bowls_8 rfl 0 rfl ?_
    refine j_iload_n h dX8_bowls_9 rfl 2 rfl ?_
    refine j_callI h (n := 1) (c_X8_isWood l D cy ad _ _ _) (xg_V (xr_23 20 rfl) (xr_23 21 rfl) (xr_23 22 rfl) (xr_1 5 rfl) (xr_23 23 rfl)) rfl rfl (by decide +kernel) ⟨Nat.le_of_ble_eq_true rfl, Nat.le_of_ble_eq_true rfl⟩ 0 rfl rfl rfl rfl rfl (Nat.le_of_ble_eq_true rfl) dX8_bowls_10 ⟨by decide, by decide⟩ (fun z3 u' hq => ?_)
    obtain ⟨hz3, rfl, bz3⟩ := hq
    refine j_if_ne h (tgt := 18) dX8_bowls_13 (by decide) (fun c4 => ?_) (fun c4 => ?_)
    · have vp2 : vp_in p2 16 := isWoodM_in hI hz3 c4
      have bp2 : p2.toNatClampNeg < 16 := vp_lt vp2
      have ep2 : p2 = nI p2.toNatClampNeg := vp_nI vp2 (by decide)
      refine j_aload_n h dX8_bowls_18 rfl 0 rfl ?_
      refine j_iload_n h dX8_bowls_19 rfl 1 rfl ?_
      refine j_iload_n h dX8_bowls_20 rfl 3 rfl ?_
      refine j_callI h (n := 2) (c_X8_isBad l D cy ad _ _ _ _ (vp_of (j := p1.toNatClampNeg) ep1 (by omega) (by decide))) (xg_V (xr_24 0 rfl) (xr_24 1 rfl) (xr_24 2 rfl) (xr_1 5 rfl) (xr_24 3 rfl)) rfl rfl (by decide +kernel) ⟨Nat.le_of_ble_eq_true rfl, Nat.le_of_ble_eq_true rfl⟩ 0 rfl rfl rfl rfl rfl (Nat.le_of_ble_eq_true rfl) dX8_bowls_21 ⟨by decide, by decide⟩ (fun z5 u' hq => ?_)
      obtain ⟨hz5, rfl, bz5⟩ := hq
      refine j_if_ne h (tgt := 38) dX8_bowls_24 (by decide) (fun c6 => ?_) (fun c6 => ?_)
      · refine j_bipush h (v := (-2)) dX8_bowls_38 (by decide) ?_
        exact hR _ _ _ _ dX8_bowls_40 ⟨(_, _), Eq.symm ((bd_eq hz1 (ite_n c2 (bd_eq hz3 (ite_n c4 (bd_eq hz5 (ite_n c6 rfl))))))), rfl, rfl, hI, (fun q => absurd q (by decide)), FX.rf⟩
      · refine j_iload h dX8_bowls_27 4 rfl ?_
        refine j_iconst h (v := 1) dX8_bowls_29 (by decide) ?_
        refine j_bipush h (v := 20) dX8_bowls_30 (by decide) ?_
        refine j_callS h (n := 3) (c_X8_in l D cy ad _ _ _ _ _) (xg_S (xr_12 13 rfl) (xr_12 14 rfl) (xr_1 5 rfl) (xr_12 15 rfl)) rfl rfl (by decide +kernel) ⟨Nat.le_of_ble_eq_true rfl, Nat.le_of_ble_eq_true rfl⟩  rfl rfl (Nat.le_of_ble_eq_true rfl) dX8_bowls_32 ⟨by decide, by decide⟩ (fun z7 u' hq => ?_)
        obtain ⟨hz7, rfl, bz7⟩ := hq
        refine j_if_ne h (tgt := 41) dX8_bowls_35 (by decide) (fun c8 => ?_) (fun c8 => ?_)
        · refine j_aload_n h dX8_bowls_41 rfl 0 rfl ?_
          refine j_iload_n h dX8_bowls_42 rfl 1 rfl ?_
          refine j_iconst h (v := 4) dX8_bowls_43 (by decide) ?_
          refine j_callI h (n := 2) (c_X8_ofRink l D cy ad _ _ _ _ (vp_of (j := p1.toNatClampNeg) ep1 (by omega) (by decide)) (vp_in_nI (by decide) (by decide))) (xg_V (xr_16 15 rfl) (xr_16 16 rfl) (xr_16 17 rfl) (xr_1 5 rfl) (xr_16 18 rfl)) rfl rfl (by decide +kernel) ⟨Nat.le_of_ble_eq_true rfl, Nat.le_of_ble_eq_true rfl⟩ 0 rfl rfl rfl rfl rfl (Nat.le_of_ble_eq_true rfl) dX8_bowls_44 ⟨by decide, by decide⟩ (fun z9 u' hq => ?_)
          obtain ⟨hz9, rfl⟩ := hq
          refine j_if_ne h (tgt := 57) dX8_bowls_47 (by decide) (fun c10 => ?_) (fun c10 => ?_)
          · refine j_aload_n h dX8_bowls_57 rfl 0 rfl ?_
            refine j_iload_n h dX8_bowls_58 rfl 2 rfl ?_
            refine j_iconst h (v := 2) dX8_bowls_59 (by decide) ?_
            refine j_callI h (n := 2) (c_X8_ofWood l D cy ad _ _ _ _ (vp_of (j := p2.toNatClampNeg) ep2 (by omega) (by decide)) (vp_in_nI (by decide) (by decide))) (xg_V (xr_24 4 rfl) (xr_24 5 rfl) (xr_24 6 rfl) (xr_1 5 rfl) (xr_24 7 rfl)) rfl rfl (by decide +kernel) ⟨Nat.le_of_ble_eq_true rfl, Nat.le_of_ble_eq_true rfl⟩ 0 rfl rfl rfl rfl rfl (Nat.le_of_ble_eq_true rfl) dX8_bowls_60 ⟨by decide, by decide⟩ (fun z11 u' hq => ?_)
            obtain ⟨hz11, rfl⟩ := hq
            refine j_if_le h (tgt := 79) dX8_bowls_63 (by decide) (fun c12 => ?_) (fun c12 => ?_)
            · refine j_aload_n h dX8_bowls_79 rfl 0 rfl ?_
              refine j_iload_n h dX8_bowls_80 rfl 2 rfl ?_
              refine j_iconst h (v := 0) dX8_bowls_81 (by decide) ?_
              refine j_callI h (n := 2) (c_X8_ofWood l D cy ad _ _ _ _ (vp_of (j := p2.toNatClampNeg) ep2 (by omega) (by decide)) (vp_in_nI (by decide) (by decide))) (xg_V (xr_24 4 rfl) (xr_24 5 rfl) (xr_24 6 rfl) (xr_1 5 rfl) (xr_24 7 rfl)) rfl rfl (by decide +kernel) ⟨Nat.le_of_ble_eq_true rfl, Nat.le_of_ble_eq_true rfl⟩ 0 rfl rfl rfl rfl rfl (Nat.le_of_ble_eq_true rfl) dX8_bowls_82 ⟨by decide, by decide⟩ (fun z13 u' hq => ?_)
              obtain ⟨hz13, rfl⟩ := hq
              have vz13 : vp_in z13 2 := clM_in hI vp2 hz13
              have bz13 : z13.toNatClampNeg < 2 := vp_lt vz13
              have ez13 : z13 = nI z13.toNatClampNeg := vp_nI vz13 (by decide)
              refine j_istore h (lv' := [(6, _), (0, _), (1, _), (2, _), (3, _), (4, _), (5, _)]) dX8_bowls_85 (by decide) rfl ?_
              refine j_aload_n h dX8_bowls_87 rfl 1 rfl ?_
              refine j_iload_n h dX8_bowls_88 rfl 2 rfl ?_
              refine j_bipush h (v := 7) dX8_bowls_89 (by decide) ?_
              refine j_iload h dX8_bowls_91 0 rfl ?_
              refine j_iadd h dX8_bowls_93 ?_
              refine j_callI h (n := 2) (c_X8_ofRink l D cy ad _ _ _ _ (vp_of (j := p1.toNatClampNeg) ep1 (by omega) (by decide)) (vp_of (j := 7 + z13.toNatClampNeg) (nx_add rfl ez13) (by omega) (by decide))) (xg_V (xr_16 15 rfl) (xr_16 16 rfl) (xr_16 17 rfl) (xr_1 5 rfl) (xr_16 18 rfl)) rfl rfl (by decide +kernel) ⟨Nat.le_of_ble_eq_true rfl, Nat.le_of_ble_eq_true rfl⟩ 0 rfl rfl rfl rfl rfl (Nat.le_of_ble_eq_true rfl) dX8_bowls_94 ⟨by decide, by decide⟩ (fun z14 u' hq => ?_)
              obtain ⟨hz14, rfl⟩ := hq
              refine j_iconst h (v := 4) dX8_bowls_97 (by decide) ?_
              refine j_icmp_ne h (tgt := 109) dX8_bowls_98 (by decide) (fun c15 => ?_) (fun c15 => ?_)
              · refine j_aload_n h dX8_bowls_109 rfl 1 rfl ?_
                refine j_iload_n h dX8_bowls_110 rfl 2 rfl ?_
                refine j_iconst h (v := 5) dX8_bowls_111 (by decide) ?_
                refine j_callI h (n := 2) (c_X8_ofRink l D cy ad _ _ _ _ (vp_of (j := p1.toNatClampNeg) ep1 (by omega) (by decide)) (vp_in_nI (by decide) (by decide))) (xg_V (xr_16 15 rfl) (xr_16 16 rfl) (xr_16 17 rfl) (xr_1 5 rfl) (xr_16 18 rfl)) rfl rfl (by decide +kernel) ⟨Nat.le_of_ble_eq_true rfl, Nat.le_of_ble_eq_true rfl⟩ 0 rfl rfl rfl rfl rfl (Nat.le_of_ble_eq_true rfl) dX8_bowls_112 ⟨by decide, by decide⟩ (fun z16 u' hq => ?_)
                obtain ⟨hz16, rfl⟩ := hq
                refine j_iload h dX8_bowls_115 0 rfl ?_
                refine j_icmp_eq h (tgt := 131) dX8_bowls_117 (by decide) (fun c17 => ?_) (fun c17 => ?_)
                · refine j_aload_n h dX8_bowls_131 rfl 1 rfl ?_
                  refine j_iload_n h dX8_bowls_132 rfl 3 rfl ?_
                  refine j_iload_n h dX8_bowls_133 rfl 4 rfl ?_
                  refine j_iload h dX8_bowls_134 5 rfl ?_
                  refine j_iload h dX8_bowls_136 6 rfl ?_
                  refine j_callI h (n := 4) (c_X8_columnOf l D cy ad _ _ _ _ _ _ (vp_of (j := p2.toNatClampNeg) ep2 (by omega) (by decide))) (xg_V (xr_24 8 rfl) (xr_24 9 rfl) (xr_24 10 rfl) (xr_1 5 rfl) (xr_24 11 rfl)) rfl rfl (by decide +kernel) ⟨Nat.le_of_ble_eq_true rfl, Nat.le_of_ble_eq_true rfl⟩ 0 rfl rfl rfl rfl rfl (Nat.le_of_ble_eq_true rfl) dX8_bowls_138 ⟨by decide, by decide⟩ (fun z18 u' hq => ?_)
                  obtain ⟨hz18, rfl⟩ := hq
                  refine j_istore h (lv' := [(7, _), (6, _), (0, _), (1, _), (2, _), (3, _), (4, _), (5, _)]) dX8_bowls_141 (by decide) rfl ?_
                  refine j_aload_n h dX8_bowls_143 rfl 2 rfl ?_
                  refine j_iload_n h dX8_bowls_144 rfl 3 rfl ?_
                  refine j_iload_n h dX8_bowls_145 rfl 4 rfl ?_
                  refine j_iload h dX8_bowls_146 0 rfl ?_
                  refine j_iload h dX8_bowls_148 6 rfl ?_
                  refine j_callI h (n := 4) (c_X8_lengthOf l D cy ad _ _ _ _ _ _ (vp_of (j := p1.toNatClampNeg) ep1 (by omega) (by decide)) hI) (xg_V (xr_24 12 rfl) (xr_24 13 rfl) (xr_24 14 rfl) (xr_1 5 rfl) (xr_24 15 rfl)) rfl rfl (by decide +kernel) ⟨Nat.le_of_ble_eq_true rfl, Nat.le_of_ble_eq_true rfl⟩ 0 rfl rfl rfl rfl rfl (Nat.le_of_ble_eq_true rfl) dX8_bowls_150 ⟨by decide, by decide⟩ (fun z19 u' hq => ?_)
                  obtain ⟨hz19, rfl⟩ := hq
                  refine j_istore h (lv' := [(8, _), (7, _), (6, _), (0, _), (1, _), (2, _), (3, _), (4, _), (5, _)]) dX8_bowls_153 (by decide) rfl ?_
                  refine j_aload_n h dX8_bowls_155 rfl 3 rfl ?_
                  refine j_iload_n h dX8_bowls_156 rfl 5 rfl ?_
                  refine j_iconst h (v := 3) dX8_bowls_157 (by decide) ?_
                  refine j_iload_n h dX8_bowls_158 rfl 4 rfl ?_
                  refine j_callV h (n := 3) (c_X8_setsWood l D cy ad _ _ _ _ _ (vp_of (j := p2.toNatClampNeg) ep2 (by omega) (by decide)) (vp_in_nI (by decide) (by decide))) (xg_V (xr_18 0 rfl) (xr_18 1 rfl) (xr_18 2 rfl) (xr_1 5 rfl) (xr_18 3 rfl)) rfl rfl (by decide +kernel) ⟨Nat.le_of_ble_eq_true rfl, Nat.le_of_ble_eq_true rfl⟩ 0 rfl rfl rfl rfl rfl (Nat.le_of_ble_eq_true rfl) dX8_bowls_159 ⟨by decide, by decide⟩ (fun u' hq => ?_)
                  obtain ⟨z20, hz20, rfl⟩ := hq
                  have hIz20 : MI z20 := MI_sw hI (vp_in_nI (by decide) (by decide)) (fun _ => vp1) (fun hq => absurd hq (by decide)) hz20
                  refine j_aload_n h dX8_bowls_162 rfl 3 rfl ?_
                  refine j_iload_n h dX8_bowls_163 rfl 5 rfl ?_
                  refine j_iconst h (v := 2) dX8_bowls_164 (by decide) ?_
                  refine j_iload h dX8_bowls_165 0 rfl ?_
                  refine j_if_ge h (tgt := 174) dX8_bowls_167 (by decide) (fun c21 => ?_) (fun c21 => ?_)
                  · refine j_iconst h (v := 1) dX8_bowls_174 (by decide) ?_
                    refine j_callV h (n := 3) (c_X8_setsWood l D cy ad _ _ _ _ _ (vp_of (j := p2.toNatClampNeg) ep2 (by omega) (by decide)) (vp_in_nI (by decide) (by decide))) (xg_V (xr_18 0 rfl) (xr_18 1 rfl) (xr_18 2 rfl) (xr_1 5 rfl) (xr_18 3 rfl)) rfl rfl (by decide +kernel) ⟨Nat.le_of_ble_eq_true rfl, Nat.le_of_ble_eq_true rfl⟩ 0 rfl rfl rfl rfl rfl (Nat.le_of_ble_eq_true rfl) dX8_bowls_175 ⟨by decide, by decide⟩ (fun u' hq => ?_)
                    obtain ⟨z22, hz22, rfl⟩ := hq
                    have hIz22 : MI z22 := MI_sw hIz20 (vp_in_nI (by decide) (by decide)) (fun hq => absurd hq (by decide)) (fun hq => absurd hq (by decide)) hz22
                    refine j_aload_n h dX8_bowls_178 rfl 3 rfl ?_
                    refine j_iload_n h dX8_bowls_179 rfl 5 rfl ?_
                    refine j_iconst h (v := 4) dX8_bowls_180 (by decide) ?_
                    refine j_iload h dX8_bowls_181 0 rfl ?_
                    refine j_if_ge h (tgt := 190) dX8_bowls_183 (by decide) (fun _ => ?_) (fun c23 => absurd c21 c23)
                    refine j_iload h dX8_bowls_190 1 rfl ?_
                    refine j_callV h (n := 3) (c_X8_setsWood l D cy ad _ _ _ _ _ (vp_of (j := p2.toNatClampNeg) ep2 (by omega) (by decide)) (vp_in_nI (by decide) (by decide))) (xg_V (xr_18 0 rfl) (xr_18 1 rfl) (xr_18 2 rfl) (xr_1 5 rfl) (xr_18 3 rfl)) rfl rfl (by decide +kernel) ⟨Nat.le_of_ble_eq_true rfl, Nat.le_of_ble_eq_true rfl⟩ 0 rfl rfl rfl rfl rfl (Nat.le_of_ble_eq_true rfl) dX8_bowls_192 ⟨by decide, by decide⟩ (fun u' hq => ?_)
                    obtain ⟨z24, hz24, rfl⟩ := hq
                    have hIz24 : MI z24 := MI_sw hIz22 (vp_in_nI (by decide) (by decide)) (fun hq => absurd hq (by decide)) (fun hq => absurd hq (by decide)) hz24
                    refine j_aload_n h dX8_bowls_195 rfl 3 rfl ?_
                    refine j_iload_n h dX8_bowls_196 rfl 5 rfl ?_
                    refine j_iconst h (v := 5) dX8_bowls_197 (by decide) ?_
                    refine j_iconst h (v := 0) dX8_bowls_198 (by decide) ?_
                    refine j_iload h dX8_bowls_199 0 rfl ?_
                    refine j_mmax h (xr_20 15 rfl) (xr_9 3 rfl) (xr_9 4 rfl) (xr_9 5 rfl) (by decide) (Nat.le_of_ble_eq_true rfl) (by decide) (by decide) dX8_bowls_201 ?_
                    refine j_callV h (n := 3) (c_X8_setsWood l D cy ad _ _ _ _ _ (vp_of (j := p2.toNatClampNeg) ep2 (by omega) (by decide)) (vp_in_nI (by decide) (by decide))) (xg_V (xr_18 0 rfl) (xr_18 1 rfl) (xr_18 2 rfl) (xr_1 5 rfl) (xr_18 3 rfl)) rfl rfl (by decide +kernel) ⟨Nat.le_of_ble_eq_true rfl, Nat.le_of_ble_eq_true rfl⟩ 0 rfl rfl rfl rfl rfl (Nat.le_of_ble_eq_true rfl) dX8_bowls_204 ⟨by decide, by decide⟩ (fun u' hq => ?_)
                    obtain ⟨z25, hz25, rfl⟩ := hq
                    have hIz25 : MI z25 := MI_sw hIz24 (vp_in_nI (by decide) (by decide)) (fun hq => absurd hq (by decide)) (fun hq => absurd hq (by decide)) hz25
                    refine j_aload_n h dX8_bowls_207 rfl 3 rfl ?_
                    refine j_iload_n h dX8_bowls_208 rfl 5 rfl ?_
                    refine j_bipush h (v := 6) dX8_bowls_209 (by decide) ?_
                    refine j_aload_n h dX8_bowls_211 rfl 3 rfl ?_
                    refine j_iload_n h dX8_bowls_212 rfl 5 rfl ?_
                    refine j_bipush h (v := 6) dX8_bowls_213 (by decide) ?_
                    refine j_callI h (n := 2) (c_X8_ofWood l D cy ad _ _ _ _ (vp_of (j := p2.toNatClampNeg) ep2 (by omega) (by decide)) (vp_in_nI (by decide) (by decide))) (xg_V (xr_24 4 rfl) (xr_24 5 rfl) (xr_24 6 rfl) (xr_1 5 rfl) (xr_24 7 rfl)) rfl rfl (by decide +kernel) ⟨Nat.le_of_ble_eq_true rfl, Nat.le_of_ble_eq_true rfl⟩ 0 rfl rfl rfl rfl rfl (Nat.le_of_ble_eq_true rfl) dX8_bowls_215 ⟨by decide, by decide⟩ (fun z26 u' hq => ?_)
                    obtain ⟨hz26, rfl⟩ := hq
                    refine j_iconst h (v := 1) dX8_bowls_218 (by decide) ?_
                    refine j_iadd h dX8_bowls_219 ?_
                    refine j_callV h (n := 3) (c_X8_setsWood l D cy ad _ _ _ _ _ (vp_of (j := p2.toNatClampNeg) ep2 (by omega) (by decide)) (vp_in_nI (by decide) (by decide))) (xg_V (xr_18 0 rfl) (xr_18 1 rfl) (xr_18 2 rfl) (xr_1 5 rfl) (xr_18 3 rfl)) rfl rfl (by decide +kernel) ⟨Nat.le_of_ble_eq_true rfl, Nat.le_of_ble_eq_true rfl⟩ 0 rfl rfl rfl rfl rfl (Nat.le_of_ble_eq_true rfl) dX8_bowls_220 ⟨by decide, by decide⟩ (fun u' hq => ?_)
                    obtain ⟨z27, hz27, rfl⟩ := hq
                    have hIz27 : MI z27 := MI_sw hIz25 (vp_in_nI (by decide) (by decide)) (fun hq => absurd hq (by decide)) (fun hq => absurd hq (by decide)) hz27
                    refine j_aload_n h dX8_bowls_223 rfl 3 rfl ?_
                    refine j_iload_n h dX8_bowls_224 rfl 4 rfl ?_
                    refine j_bipush h (v := 7) dX8_bowls_225 (by decide) ?_
                    refine j_iload h dX8_bowls_227 2 rfl ?_
                    refine j_iadd h dX8_bowls_229 ?_
                    refine j_aload_n h dX8_bowls_230 rfl 3 rfl ?_
                    refine j_iload_n h dX8_bowls_231 rfl 4 rfl ?_
                    refine j_bipush h (v := 7) dX8_bowls_232 (by decide) ?_
                    refine j_iload h dX8_bowls_234 2 rfl ?_
                    refine j_iadd h dX8_bowls_236 ?_
                    refine j_callI h (n := 2) (c_X8_ofRink l D cy ad _ _ _ _ (vp_of (j := p1.toNatClampNeg) ep1 (by omega) (by decide)) (vp_of (j := 7 + z13.toNatClampNeg) (nx_add rfl ez13) (by omega) (by decide))) (xg_V (xr_16 15 rfl) (xr_16 16 rfl) (xr_16 17 rfl) (xr_1 5 rfl) (xr_16 18 rfl)) rfl rfl (by decide +kernel) ⟨Nat.le_of_ble_eq_true rfl, Nat.le_of_ble_eq_true rfl⟩ 0 rfl rfl rfl rfl rfl (Nat.le_of_ble_eq_true rfl) dX8_bowls_237 ⟨by decide, by decide⟩ (fun z28 u' hq => ?_)
                    obtain ⟨hz28, rfl⟩ := hq
                    refine j_iconst h (v := 1) dX8_bowls_240 (by decide) ?_
                    refine j_iadd h dX8_bowls_241 ?_
                    refine j_callV h (n := 3) (c_X8_setsRink l D cy ad _ _ _ _ _ (vp_of (j := p1.toNatClampNeg) ep1 (by omega) (by decide)) (vp_of (j := 7 + z13.toNatClampNeg) (nx_add rfl ez13) (by omega) (by decide))) (xg_V (xr_16 19 rfl) (xr_16 20 rfl) (xr_16 21 rfl) (xr_1 5 rfl) (xr_16 22 rfl)) rfl rfl (by decide +kernel) ⟨Nat.le_of_ble_eq_true rfl, Nat.le_of_ble_eq_true rfl⟩ 0 rfl rfl rfl rfl rfl (Nat.le_of_ble_eq_true rfl) dX8_bowls_242 ⟨by decide, by decide⟩ (fun u' hq => ?_)
                    obtain ⟨z29, hz29, rfl⟩ := hq
                    have hIz29 : MI z29 := MI_sr hIz27 (vp_of (j := p1.toNatClampNeg) ep1 (by omega) (by decide)) (vp_of (j := 7 + z13.toNatClampNeg) (nx_add rfl ez13) (by omega) (by decide)) hz29
                    refine j_aload_n h dX8_bowls_245 rfl 3 rfl ?_
                    refine j_iload_n h dX8_bowls_246 rfl 4 rfl ?_
                    refine j_iconst h (v := 5) dX8_bowls_247 (by decide) ?_
                    refine j_iconst h (v := 1) dX8_bowls_248 (by decide) ?_
                    refine j_iload h dX8_bowls_249 2 rfl ?_
                    refine j_isub h dX8_bowls_251 ?_
                    refine j_callV h (n := 3) (c_X8_setsRink l D cy ad _ _ _ _ _ (vp_of (j := p1.toNatClampNeg) ep1 (by omega) (by decide)) (vp_in_nI (by decide) (by decide))) (xg_V (xr_16 19 rfl) (xr_16 20 rfl) (xr_16 21 rfl) (xr_1 5 rfl) (xr_16 22 rfl)) rfl rfl (by decide +kernel) ⟨Nat.le_of_ble_eq_true rfl, Nat.le_of_ble_eq_true rfl⟩ 0 rfl rfl rfl rfl rfl (Nat.le_of_ble_eq_true rfl) dX8_bowls_252 ⟨by decide, by decide⟩ (fun u' hq => ?_)
                    obtain ⟨z30, hz30, rfl⟩ := hq
                    have hIz30 : MI z30 := MI_sr hIz29 (vp_of (j := p1.toNatClampNeg) ep1 (by omega) (by decide)) (vp_in_nI (by decide) (by decide)) hz30
                    refine j_aload_n h dX8_bowls_255 rfl 3 rfl ?_
                    refine j_get h inlX8 0 rfl rfl 0 (by decide) (xr_6 7 rfl) rfl (v := .ref (ad 1)) rfl dX8_bowls_256 ?_
                    refine j_iconst h (v := 5) dX8_bowls_259 (by decide) ?_
                    refine j_dup2 h dX8_bowls_260 rfl rfl ?_
                    refine j_ialdE h 1 rfl 5 rfl (by decide) (by decide) dX8_bowls_261 ?_
                    refine j_iconst h (v := 1) dX8_bowls_262 (by decide) ?_
                    refine j_iadd h dX8_bowls_263 ?_
                    refine j_iastE h 1 rfl 5 rfl (by decide) (by decide) dX8_bowls_264 (u' := (X, up2 z30 0 5 ((z30 0 5) + 1))) rfl ?_
                    refine j_aload_n h dX8_bowls_265 rfl 3 rfl ?_
                    refine j_iload h dX8_bowls_266 0 rfl ?_
                    refine j_if_ge h (tgt := 276) dX8_bowls_268 (by decide) (fun _ => ?_) (fun c31 => absurd c21 c31)
                    refine j_aload_n h dX8_bowls_276 rfl 3 rfl ?_
                    refine j_iload_n h dX8_bowls_277 rfl 5 rfl ?_
                    refine j_callI h (n := 1) (c_X8_distance l D cy ad _ _ _ (vp_of (j := p2.toNatClampNeg) ep2 (by omega) (by decide)) (MI_up hIz30 (by decide) (by decide) (by decide))) (xg_V (xr_24 20 rfl) (xr_24 21 rfl) (xr_24 22 rfl) (xr_1 5 rfl) (xr_24 23 rfl)) rfl rfl (by decide +kernel) ⟨Nat.le_of_ble_eq_true rfl, Nat.le_of_ble_eq_true rfl⟩ 0 rfl rfl rfl rfl rfl (Nat.le_of_ble_eq_true rfl) dX8_bowls_278 ⟨by decide, by decide⟩ (fun z32 u' hq => ?_)
                    obtain ⟨hz32, rfl⟩ := hq
                    refine j_callI h (n := 1) (c_X8_does l D cy ad _ _ _) (xg_V (xr_20 20 rfl) (xr_20 21 rfl) (xr_20 22 rfl) (xr_1 5 rfl) (xr_20 23 rfl)) rfl rfl (by decide +kernel) ⟨Nat.le_of_ble_eq_true rfl, Nat.le_of_ble_eq_true rfl⟩ 0 rfl rfl rfl rfl rfl (Nat.le_of_ble_eq_true rfl) dX8_bowls_281 ⟨by decide, by decide⟩ (fun r u' hq => ?_)
                    obtain ⟨z33, hz33, rfl, rfl⟩ := hq
                    exact hR _ _ _ _ dX8_bowls_284 ⟨(_, _), Eq.symm ((bd_eq hz1 (ite_n c2 (bd_eq hz3 (ite_n c4 (bd_eq hz5 (ite_p c6 (bd_eq hz7 (ite_n c8 (bd_eq hz9 (ite_n c10 (bd_eq hz11 (ite_p c12 (bd_eq hz13 (bd_eq hz14 (ite_n c15 (bd_eq hz16 (ite_p c17 (bd_eq hz18 (bd_eq hz19 (bd_eq hz20 (ite_p c21 (bd_eq hz22 (bd_eq hz24 (bd_eq hz25 (bd_eq hz26 (bd_eq hz27 (bd_eq hz28 (bd_eq hz29 (bd_eq hz30 (bd_eq hz32 (bd_eq hz33 rfl)))))))))))))))))))))))))))))))), rfl, rfl, (MI_up hIz30 (by decide) (by decide) (by decide)), (fun q => absurd q (do_ne hz33)), (FX.tr FX.rf (FX_do hz33))⟩
                  · refine j_iconst h (v := 2) dX8_bowls_170 (by decide) ?_
                    refine j_goto h (tgt := 175) dX8_bowls_171 (by decide) ?_
                    refine j_callV h (n := 3) (c_X8_setsWood l D cy ad _ _ _ _ _ (vp_of (j := p2.toNatClampNeg) ep2 (by omega) (by decide)) (vp_in_nI (by decide) (by decide))) (xg_V (xr_18 0 rfl) (xr_18 1 rfl) (xr_18 2 rfl) (xr_1 5 rfl) (xr_18 3 rfl)) rfl rfl (by decide +kernel) ⟨Nat.le_of_ble_eq_true rfl, Nat.le_of_ble_eq_true rfl⟩ 0 rfl rfl rfl rfl rfl (Nat.le_of_ble_eq_true rfl) dX8_bowls_175 ⟨by decide, by decide⟩ (fun u' hq => ?_)
                    obtain ⟨z34, hz34, rfl⟩ := hq
                    have hIz34 : MI z34 := MI_sw hIz20 (vp_in_nI (by decide) (by decide)) (fun hq => absurd hq (by decide)) (fun hq => absurd hq (by decide)) hz34
                    refine j_aload_n h dX8_bowls_178 rfl 3 rfl ?_
                    refine j_iload_n h dX8_bowls_179 rfl 5 rfl ?_
                    refine j_iconst h (v := 4) dX8_bowls_180 (by decide) ?_
                    refine j_iload h dX8_bowls_181 0 rfl ?_
                    refine j_if_ge h (tgt := 190) dX8_bowls_183 (by decide) (fun c35 => absurd c35 c21) (fun _ => ?_)
                    refine j_iconst h (v := 0) dX8_bowls_186 (by decide) ?_
                    refine j_goto h (tgt := 192) dX8_bowls_187 (by decide) ?_
                    refine j_callV h (n := 3) (c_X8_setsWood l D cy ad _ _ _ _ _ (vp_of (j := p2.toNatClampNeg) ep2 (by omega) (by decide)) (vp_in_nI (by decide) (by decide))) (xg_V (xr_18 0 rfl) (xr_18 1 rfl) (xr_18 2 rfl) (xr_1 5 rfl) (xr_18 3 rfl)) rfl rfl (by decide +kernel) ⟨Nat.le_of_ble_eq_true rfl, Nat.le_of_ble_eq_true rfl⟩ 0 rfl rfl rfl rfl rfl (Nat.le_of_ble_eq_true rfl) dX8_bowls_192 ⟨by decide, by decide⟩ (fun u' hq => ?_)
                    obtain ⟨z36, hz36, rfl⟩ := hq
                    have hIz36 : MI z36 := MI_sw hIz34 (vp_in_nI (by decide) (by decide)) (fun hq => absurd hq (by decide)) (fun hq => absurd hq (by decide)) hz36
                    refine j_aload_n h dX8_bowls_195 rfl 3 rfl ?_
                    refine j_iload_n h dX8_bowls_196 rfl 5 rfl ?_
                    refine j_iconst h (v := 5) dX8_bowls_197 (by decide) ?_
                    refine j_iconst h (v := 0) dX8_bowls_198 (by decide) ?_
                    refine j_iload h dX8_bowls_199 0 rfl ?_
                    refine j_mmax h (xr_20 15 rfl) (xr_9 3 rfl) (xr_9 4 rfl) (xr_9 5 rfl) (by decide) (Nat.le_of_ble_eq_true rfl) (by decide) (by decide) dX8_bowls_201 ?_
                    refine j_callV h (n := 3) (c_X8_setsWood l D cy ad _ _ _ _ _ (vp_of (j := p2.toNatClampNeg) ep2 (by omega) (by decide)) (vp_in_nI (by decide) (by decide))) (xg_V (xr_18 0 rfl) (xr_18 1 rfl) (xr_18 2 rfl) (xr_1 5 rfl) (xr_18 3 rfl)) rfl rfl (by decide +kernel) ⟨Nat.le_of_ble_eq_true rfl, Nat.le_of_ble_eq_true rfl⟩ 0 rfl rfl rfl rfl rfl (Nat.le_of_ble_eq_true rfl) dX8_bowls_204 ⟨by decide, by decide⟩ (fun u' hq => ?_)
                    obtain ⟨z37, hz37, rfl⟩ := hq
                    have hIz37 : MI z37 := MI_sw hIz36 (vp_in_nI (by decide) (by decide)) (fun hq => absurd hq (by decide)) (fun hq => absurd hq (by decide)) hz37
                    refine j_aload_n h dX8_bowls_207 rfl 3 rfl ?_
                    refine j_iload_n h dX8_bowls_208 rfl 5 rfl ?_
                    refine j_bipush h (v := 6) dX8_bowls_209 (by decide) ?_
                    refine j_aload_n h dX8_bowls_211 rfl 3 rfl ?_
                    refine j_iload_n h dX8_bowls_212 rfl 5 rfl ?_
                    refine j_bipush h (v := 6) dX8_bowls_213 (by decide) ?_
                    refine j_callI h (n := 2) (c_X8_ofWood l D cy ad _ _ _ _ (vp_of (j := p2.toNatClampNeg) ep2 (by omega) (by decide)) (vp_in_nI (by decide) (by decide))) (xg_V (xr_24 4 rfl) (xr_24 5 rfl) (xr_24 6 rfl) (xr_1 5 rfl) (xr_24 7 rfl)) rfl rfl (by decide +kernel) ⟨Nat.le_of_ble_eq_true rfl, Nat.le_of_ble_eq_true rfl⟩ 0 rfl rfl rfl rfl rfl (Nat.le_of_ble_eq_true rfl) dX8_bowls_215 ⟨by decide, by decide⟩ (fun z38 u' hq => ?_)
                    obtain ⟨hz38, rfl⟩ := hq
                    refine j_iconst h (v := 1) dX8_bowls_218 (by decide) ?_
                    refine j_iadd h dX8_bowls_219 ?_
                    refine j_callV h (n := 3) (c_X8_setsWood l D cy ad _ _ _ _ _ (vp_of (j := p2.toNatClampNeg) ep2 (by omega) (by decide)) (vp_in_nI (by decide) (by decide))) (xg_V (xr_18 0 rfl) (xr_18 1 rfl) (xr_18 2 rfl) (xr_1 5 rfl) (xr_18 3 rfl)) rfl rfl (by decide +kernel) ⟨Nat.le_of_ble_eq_true rfl, Nat.le_of_ble_eq_true rfl⟩ 0 rfl rfl rfl rfl rfl (Nat.le_of_ble_eq_true rfl) dX8_bowls_220 ⟨by decide, by decide⟩ (fun u' hq => ?_)
                    obtain ⟨z39, hz39, rfl⟩ := hq
                    have hIz39 : MI z39 := MI_sw hIz37 (vp_in_nI (by decide) (by decide)) (fun hq => absurd hq (by decide)) (fun hq => absurd hq (by decide)) hz39
                    refine j_aload_n h dX8_bowls_223 rfl 3 rfl ?_
                    refine j_iload_n h dX8_bowls_224 rfl 4 rfl ?_
                    refine j_bipush h (v := 7) dX8_bowls_225 (by decide) ?_
                    refine j_iload h dX8_bowls_227 2 rfl ?_
                    refine j_iadd h dX8_bowls_229 ?_
                    refine j_aload_n h dX8_bowls_230 rfl 3 rfl ?_
                    refine j_iload_n h dX8_bowls_231 rfl 4 rfl ?_
                    refine j_bipush h (v := 7) dX8_bowls_232 (by decide) ?_
                    refine j_iload h dX8_bowls_234 2 rfl ?_
                    refine j_iadd h dX8_bowls_236 ?_
                    refine j_callI h (n := 2) (c_X8_ofRink l D cy ad _ _ _ _ (vp_of (j := p1.toNatClampNeg) ep1 (by omega) (by decide)) (vp_of (j := 7 + z13.toNatClampNeg) (nx_add rfl ez13) (by omega) (by decide))) (xg_V (xr_16 15 rfl) (xr_16 16 rfl) (xr_16 17 rfl) (xr_1 5 rfl) (xr_16 18 rfl)) rfl rfl (by decide +kernel) ⟨Nat.le_of_ble_eq_true rfl, Nat.le_of_ble_eq_true rfl⟩ 0 rfl rfl rfl rfl rfl (Nat.le_of_ble_eq_true rfl) dX8_bowls_237 ⟨by decide, by decide⟩ (fun z40 u' hq => ?_)
                    obtain ⟨hz40, rfl⟩ := hq
                    refine j_iconst h (v := 1) dX8_bowls_240 (by decide) ?_
                    refine j_iadd h dX8_bowls_241 ?_
                    refine j_callV h (n := 3) (c_X8_setsRink l D cy ad _ _ _ _ _ (vp_of (j := p1.toNatClampNeg) ep1 (by omega) (by decide)) (vp_of (j := 7 + z13.toNatClampNeg) (nx_add rfl ez13) (by omega) (by decide))) (xg_V (xr_16 19 rfl) (xr_16 20 rfl) (xr_16 21 rfl) (xr_1 5 rfl) (xr_16 22 rfl)) rfl rfl (by decide +kernel) ⟨Nat.le_of_ble_eq_true rfl, Nat.le_of_ble_eq_true rfl⟩ 0 rfl rfl rfl rfl rfl (Nat.le_of_ble_eq_true rfl) dX8_bowls_242 ⟨by decide, by decide⟩ (fun u' hq => ?_)
                    obtain ⟨z41, hz41, rfl⟩ := hq
                    have hIz41 : MI z41 := MI_sr hIz39 (vp_of (j := p1.toNatClampNeg) ep1 (by omega) (by decide)) (vp_of (j := 7 + z13.toNatClampNeg) (nx_add rfl ez13) (by omega) (by decide)) hz41
                    refine j_aload_n h dX8_bowls_245 rfl 3 rfl ?_
                    refine j_iload_n h dX8_bowls_246 rfl 4 rfl ?_
                    refine j_iconst h (v := 5) dX8_bowls_247 (by decide) ?_
                    refine j_iconst h (v := 1) dX8_bowls_248 (by decide) ?_
                    refine j_iload h dX8_bowls_249 2 rfl ?_
                    refine j_isub h dX8_bowls_251 ?_
                    refine j_callV h (n := 3) (c_X8_setsRink l D cy ad _ _ _ _ _ (vp_of (j := p1.toNatClampNeg) ep1 (by omega) (by decide)) (vp_in_nI (by decide) (by decide))) (xg_V (xr_16 19 rfl) (xr_16 20 rfl) (xr_16 21 rfl) (xr_1 5 rfl) (xr_16 22 rfl)) rfl rfl (by decide +kernel) ⟨Nat.le_of_ble_eq_true rfl, Nat.le_of_ble_eq_true rfl⟩ 0 rfl rfl rfl rfl rfl (Nat.le_of_ble_eq_true rfl) dX8_bowls_252 ⟨by decide, by decide⟩ (fun u' hq => ?_)
                    obtain ⟨z42, hz42, rfl⟩ := hq
                    have hIz42 : MI z42 := MI_sr hIz41 (vp_of (j := p1.toNatClampNeg) ep1 (by omega) (by decide)) (vp_in_nI (by decide) (by decide)) hz42
                    refine j_aload_n h dX8_bowls_255 rfl 3 rfl ?_
                    refine j_get h inlX8 0 rfl rfl 0 (by decide) (xr_6 7 rfl) rfl (v := .ref (ad 1)) rfl dX8_bowls_256 ?_
                    refine j_iconst h (v := 5) dX8_bowls_259 (by decide) ?_
                    refine j_dup2 h dX8_bowls_260 rfl rfl ?_
                    refine j_ialdE h 1 rfl 5 rfl (by decide) (by decide) dX8_bowls_261 ?_
                    refine j_iconst h (v := 1) dX8_bowls_262 (by decide) ?_
                    refine j_iadd h dX8_bowls_263 ?_
                    refine j_iastE h 1 rfl 5 rfl (by decide) (by decide) dX8_bowls_264 (u' := (X, up2 z42 0 5 ((z42 0 5) + 1))) rfl ?_
                    refine j_aload_n h dX8_bowls_265 rfl 3 rfl ?_
                    refine j_iload h dX8_bowls_266 0 rfl ?_
                    refine j_if_ge h (tgt := 276) dX8_bowls_268 (by decide) (fun c43 => absurd c43 c21) (fun _ => ?_)
                    refine j_bipush h (v := (-4)) dX8_bowls_271 (by decide) ?_
                    refine j_goto h (tgt := 281) dX8_bowls_273 (by decide) ?_
                    refine j_callI h (n := 1) (c_X8_does l D cy ad _ _ _) (xg_V (xr_20 20 rfl) (xr_20 21 rfl) (xr_20 22 rfl) (xr_1 5 rfl) (xr_20 23 rfl)) rfl rfl (by decide +kernel) ⟨Nat.le_of_ble_eq_true rfl, Nat.le_of_ble_eq_true rfl⟩ 0 rfl rfl rfl rfl rfl (Nat.le_of_ble_eq_true rfl) dX8_bowls_281 ⟨by decide, by decide⟩ (fun r u' hq => ?_)
                    obtain ⟨z44, hz44, rfl, rfl⟩ := hq
                    exact hR _ _ _ _ dX8_bowls_284 ⟨(_, _), Eq.symm ((bd_eq hz1 (ite_n c2 (bd_eq hz3 (ite_n c4 (bd_eq hz5 (ite_p c6 (bd_eq hz7 (ite_n c8 (bd_eq hz9 (ite_n c10 (bd_eq hz11 (ite_p c12 (bd_eq hz13 (bd_eq hz14 (ite_n c15 (bd_eq hz16 (ite_p c17 (bd_eq hz18 (bd_eq hz19 (bd_eq hz20 (ite_n c21 (bd_eq hz34 (bd_eq hz36 (bd_eq hz37 (bd_eq hz38 (bd_eq hz39 (bd_eq hz40 (bd_eq hz41 (bd_eq hz42 (bd_eq hz44 rfl))))))))))))))))))))))))))))))), rfl, rfl, (MI_up hIz42 (by decide) (by decide) (by decide)), (fun q => absurd q (do_ne hz44)), (FX.tr FX.rf (FX_do hz44))⟩
                · refine j_aload_n h dX8_bowls_120 rfl 1 rfl ?_
                  refine j_bipush h (v := 6) dX8_bowls_121 (by decide) ?_
                  refine j_iconst h (v := 1) dX8_bowls_123 (by decide) ?_
                  refine j_iload h dX8_bowls_124 0 rfl ?_
                  refine j_isub h dX8_bowls_126 ?_
                  refine j_callI h (n := 2) (c_X8_refuses l D cy ad _ _ _ _) (xg_V (xr_16 10 rfl) (xr_16 11 rfl) (xr_16 12 rfl) (xr_1 5 rfl) (xr_16 13 rfl)) rfl rfl (by decide +kernel) ⟨Nat.le_of_ble_eq_true rfl, Nat.le_of_ble_eq_true rfl⟩ 0 rfl rfl rfl rfl rfl (Nat.le_of_ble_eq_true rfl) dX8_bowls_127 ⟨by decide, by decide⟩ (fun r u' hq => ?_)
                  obtain ⟨z45, hz45, rfl, rfl⟩ := hq
                  have hIz45 : MI z45.2.2 := MI_rf hI hz45
                  exact hR _ _ _ _ dX8_bowls_130 ⟨(_, _), Eq.symm ((bd_eq hz1 (ite_n c2 (bd_eq hz3 (ite_n c4 (bd_eq hz5 (ite_p c6 (bd_eq hz7 (ite_n c8 (bd_eq hz9 (ite_n c10 (bd_eq hz11 (ite_p c12 (bd_eq hz13 (bd_eq hz14 (ite_n c15 (bd_eq hz16 (ite_n c17 (bd_eq hz45 rfl))))))))))))))))))), rfl, rfl, hIz45, (fun _ => rf_16 hz45), (FX.tr FX.rf (FX_rf hz45))⟩
              · refine j_aload_n h dX8_bowls_101 rfl 1 rfl ?_
                refine j_bipush h (v := 8) dX8_bowls_102 (by decide) ?_
                refine j_iconst h (v := 4) dX8_bowls_104 (by decide) ?_
                refine j_callI h (n := 2) (c_X8_refuses l D cy ad _ _ _ _) (xg_V (xr_16 10 rfl) (xr_16 11 rfl) (xr_16 12 rfl) (xr_1 5 rfl) (xr_16 13 rfl)) rfl rfl (by decide +kernel) ⟨Nat.le_of_ble_eq_true rfl, Nat.le_of_ble_eq_true rfl⟩ 0 rfl rfl rfl rfl rfl (Nat.le_of_ble_eq_true rfl) dX8_bowls_105 ⟨by decide, by decide⟩ (fun r u' hq => ?_)
                obtain ⟨z46, hz46, rfl, rfl⟩ := hq
                have hIz46 : MI z46.2.2 := MI_rf hI hz46
                exact hR _ _ _ _ dX8_bowls_108 ⟨(_, _), Eq.symm ((bd_eq hz1 (ite_n c2 (bd_eq hz3 (ite_n c4 (bd_eq hz5 (ite_p c6 (bd_eq hz7 (ite_n c8 (bd_eq hz9 (ite_n c10 (bd_eq hz11 (ite_p c12 (bd_eq hz13 (bd_eq hz14 (ite_p c15 (bd_eq hz46 rfl))))))))))))))))), rfl, rfl, hIz46, (fun _ => rf_16 hz46), (FX.tr FX.rf (FX_rf hz46))⟩
            · refine j_aload_n h dX8_bowls_66 rfl 0 rfl ?_
              refine j_bipush h (v := 7) dX8_bowls_67 (by decide) ?_
              refine j_aload_n h dX8_bowls_69 rfl 0 rfl ?_
              refine j_iload_n h dX8_bowls_70 rfl 2 rfl ?_
              refine j_iconst h (v := 3) dX8_bowls_71 (by decide) ?_
              refine j_callI h (n := 2) (c_X8_ofWood l D cy ad _ _ _ _ (vp_of (j := p2.toNatClampNeg) ep2 (by omega) (by decide)) (vp_in_nI (by decide) (by decide))) (xg_V (xr_24 4 rfl) (xr_24 5 rfl) (xr_24 6 rfl) (xr_1 5 rfl) (xr_24 7 rfl)) rfl rfl (by decide +kernel) ⟨Nat.le_of_ble_eq_true rfl, Nat.le_of_ble_eq_true rfl⟩ 0 rfl rfl rfl rfl rfl (Nat.le_of_ble_eq_true rfl) dX8_bowls_72 ⟨by decide, by decide⟩ (fun z47 u' hq => ?_)
              obtain ⟨hz47, rfl⟩ := hq
              refine j_callI h (n := 2) (c_X8_refuses l D cy ad _ _ _ _) (xg_V (xr_16 10 rfl) (xr_16 11 rfl) (xr_16 12 rfl) (xr_1 5 rfl) (xr_16 13 rfl)) rfl rfl (by decide +kernel) ⟨Nat.le_of_ble_eq_true rfl, Nat.le_of_ble_eq_true rfl⟩ 0 rfl rfl rfl rfl rfl (Nat.le_of_ble_eq_true rfl) dX8_bowls_75 ⟨by decide, by decide⟩ (fun r u' hq => ?_)
              obtain ⟨z48, hz48, rfl, rfl⟩ := hq
              have hIz48 : MI z48.2.2 := MI_rf hI hz48
              exact hR _ _ _ _ dX8_bowls_78 ⟨(_, _), Eq.symm ((bd_eq hz1 (ite_n c2 (bd_eq hz3 (ite_n c4 (bd_eq hz5 (ite_p c6 (bd_eq hz7 (ite_n c8 (bd_eq hz9 (ite_n c10 (bd_eq hz11 (ite_n c12 (bd_eq hz47 (bd_eq hz48 rfl))))))))))))))), rfl, rfl, hIz48, (fun _ => rf_16 hz48), (FX.tr FX.rf (FX_rf hz48))⟩
          · refine j_aload_n h dX8_bowls_50 rfl 0 rfl ?_
            refine j_iconst h (v := 5) dX8_bowls_51 (by decide) ?_
            refine j_iload_n h dX8_bowls_52 rfl 1 rfl ?_
            refine j_callI h (n := 2) (c_X8_refuses l D cy ad _ _ _ _) (xg_V (xr_16 10 rfl) (xr_16 11 rfl) (xr_16 12 rfl) (xr_1 5 rfl) (xr_16 13 rfl)) rfl rfl (by decide +kernel) ⟨Nat.le_of_ble_eq_true rfl, Nat.le_of_ble_eq_true rfl⟩ 0 rfl rfl rfl rfl rfl (Nat.le_of_ble_eq_true rfl) dX8_bowls_53 ⟨by decide, by decide⟩ (fun r u' hq => ?_)
            obtain ⟨z49, hz49, rfl, rfl⟩ := hq
            have hIz49 : MI z49.2.2 := MI_rf hI hz49
            exact hR _ _ _ _ dX8_bowls_56 ⟨(_, _), Eq.symm ((bd_eq hz1 (ite_n c2 (bd_eq hz3 (ite_n c4 (bd_eq hz5 (ite_p c6 (bd_eq hz7 (ite_n c8 (bd_eq hz9 (ite_p c10 (bd_eq hz49 rfl)))))))))))), rfl, rfl, hIz49, (fun _ => rf_16 hz49), (FX.tr FX.rf (FX_rf hz49))⟩
        · refine j_bipush h (v := (-2)) dX8_bowls_38 (by decide) ?_
          exact hR _ _ _ _ dX8_bowls_40 ⟨(_, _), Eq.symm ((bd_eq hz1 (ite_n c2 (bd_eq hz3 (ite_n c4 (bd_eq hz5 (ite_p c6 (bd_eq hz7 (ite_p c8 rfl))))))))), rfl, rfl, hI, (fun q => absurd q (by decide)), FX.rf⟩
    · refine j_iconst h (v := (-1)) dX8_bowls_16 (by decide) ?_
      exact hR _ _ _ _ dX8_bowls_17 ⟨(_, _), Eq.symm ((bd_eq hz1 (ite_n c2 (bd_eq hz3 (ite_p c4 rfl))))), rfl, rfl, hI, (fun q => absurd q (by decide)), FX.rf⟩

def f_X8_closes_l157 (X : Nat → Int32) (p1 : Int32) (k : Nat) : Nat → Nat → (Nat → Nat → Int32) → (Nat → Nat → Int32)
  | 0, _, Aj => Aj
  | n + 1, j, Aj =>
    if 5 < (nI j) then
      Aj
    else
      bd (f_X8_setsWood X Aj (nI k) (nI j) 0) fun z18 =>
      f_X8_closes_l157 X p1 k n (j + 1) z18
def f_X8_closes_l122 (X : Nat → Int32) (p1 : Int32) : Nat → Nat → (Nat → Nat → Int32) → (Nat → Nat → Int32)
  | 0, _, Ak => Ak
  | n + 1, k, Ak =>
    if (Ak 0 4) ≤ (nI k) then
      Ak
    else
      bd (f_X8_ofWood X Ak (nI k) 2) fun z13 =>
      if z13 = 0 then
        f_X8_closes_l122 X p1 n (k + 1) Ak
      else
        bd (f_X8_ofWood X Ak (nI k) 3) fun z15 =>
        if z15 = p1 then
          bd (f_X8_closes_l157 X p1 k 5 2 Ak) fun z19 =>
          f_X8_closes_l122 X p1 n (k + 1) z19
        else
          f_X8_closes_l122 X p1 n (k + 1) Ak
def f_X8_closes (X : Nat → Int32) (A : Nat → Nat → Int32) (p1 : Int32) : Int32 × (Nat → Int32) × (Nat → Nat → Int32) :=
  bd (f_X8_isRink X A p1) fun z1 =>
  if z1 = 0 then
    ((-1), (X, A))
  else
    bd (f_X8_ofRink X A p1 4) fun z3 =>
    if z3 = 0 then
      bd (f_X8_refuses X A 5 p1) fun z38 =>
      (z38.1, (z38.2.1, z38.2.2))
    else
      bd (f_X8_counted X A p1) fun z5 =>
      if z5 ≤ 0 then
        bd (f_X8_setsRink X A p1 4 0) fun z7 =>
        bd (f_X8_ofRink X z7 p1 6) fun z8 =>
        bd (f_X8_setsRink X z7 p1 5 z8) fun z9 =>
        bd (f_X8_ofRink X z9 p1 9) fun z10 =>
        bd (f_X8_setsRink X z9 p1 9 (z10 + 1)) fun z11 =>
        bd (f_X8_closes_l122 X p1 17 0 z11) fun z20 =>
        bd (f_X8_does X z20 z5) fun z21 =>
        (z21.1, (z21.2, z20))
      else
        bd (f_X8_setsRink X (up2 (up2 A 0 (9 + (4 * ((z5 / 10).toNatClampNeg))) ((A 0 (9 + (4 * ((z5 / 10).toNatClampNeg)))) + (z5 - z5 / 10 * 10))) 0 ((9 + (4 * ((z5 / 10).toNatClampNeg))) + 1) (((up2 A 0 (9 + (4 * ((z5 / 10).toNatClampNeg))) ((A 0 (9 + (4 * ((z5 / 10).toNatClampNeg)))) + (z5 - z5 / 10 * 10))) 0 ((9 + (4 * ((z5 / 10).toNatClampNeg))) + 1)) + 1)) p1 6 (z5 / 10)) fun z22 =>
        bd (f_X8_setsRink X z22 p1 4 0) fun z23 =>
        bd (f_X8_ofRink X z23 p1 6) fun z24 =>
        bd (f_X8_setsRink X z23 p1 5 z24) fun z25 =>
        bd (f_X8_ofRink X z25 p1 9) fun z26 =>
        bd (f_X8_setsRink X z25 p1 9 (z26 + 1)) fun z27 =>
        bd (f_X8_closes_l122 X p1 17 0 z27) fun z36 =>
        bd (f_X8_does X z36 z5) fun z37 =>
        (z37.1, (z37.2, z36))
abbrev rm_X8_closes : Room := { frames := 5, cells := 0, slots := 0, locals := 118 }
set_option maxRecDepth 100000 in
set_option maxHeartbeats 4000000 in
theorem c_X8_closes (l : Launch) (D : gD) (cy : Nat → ClassId) (ad : Nat → Nat) (X : Nat → Int32) (A : Nat → Nat → Int32) (p1 : Int32) (hI : MI A) : CtI l D cy (MW cy ad) yX8_closes cX8_closes 5 (some .int) rm_X8_closes [.ref (ad 0), .int p1] (X, A) (fun rv u => ∃ z : Int32 × ((Nat → Int32) × (Nat → Nat → Int32)), z = f_X8_closes X A p1 ∧ rv = z.1 ∧ u = z.2 ∧ MI (z.2.2) ∧ (rv = -3 → vp_in ((z.2.1) 16) 3) ∧ FX X (z.2.1)) 0 0 := by
  refine m_entI cX8_closes 5 (by decide) (Nat.le_of_ble_eq_true rfl) (fun J h hR => ?_)
  show J (X, A) (0, 0) [(0, .ref (ad 0)), (1, .int p1)] 0 []
  refine j_aload_n h dX8_closes_0 rfl 0 rfl ?_
  refine j_iload_n h dX8_closes_1 rfl 1 rfl ?_
  refine j_callI h (n := 1) (c_X8_isRink l D cy ad _ _ _) (xg_V (xr_20 2 rfl) (xr_20 3 rfl) (xr_20 4 rfl) (xr_1 5 rfl) (xr_20 5 rfl)) rfl rfl (by decide +kernel) ⟨Nat.le_of_ble_eq_true rfl, Nat.le_of_ble_eq_true rfl⟩ 0 rfl rfl rfl rfl rfl (Nat.le_of_ble_eq_true rfl) dX8_closes_2 ⟨by decide, by decide⟩ (fun z1 u' hq => ?_)
  obtain ⟨hz1, rfl, bz1⟩ := hq
  refine j_if_ne h (tgt := 10) dX8_closes_5 (by decide) (fun c2 => ?_) (fun c2 => ?_)
  · have vp1 : vp_in p1 4 := isRinkM_in hI hz1 c2
    have bp1 : p1.toNatClampNeg < 4 := vp_lt vp1
    have ep1 : p1 = nI p1.toNatClampNeg := vp_nI vp1 (by decide)
    refine j_aload_n h dX8_closes_10 rfl 0 rfl ?_
    refine j_iload_n h dX8_closes_11 rfl 1 rfl ?_
    refine j_iconst h (v := 4) dX8_closes_12 (by decide) ?_
    refine j_callI h (n := 2) (c_X8_ofRink l D cy ad _ _ _ _ (vp_of (j := p1.toNatClampNeg) ep1 (by omega) (by decide)) (vp_in_nI (by decide) (by decide))) (xg_V (xr_16 15 rfl) (xr_16 16 rfl) (xr_16 17 rfl) (xr_1 5 rfl) (xr_16 18 rfl)) rfl rfl (by decide +kernel) ⟨Nat.le_of_ble_eq_true rfl, Nat.le_of_ble_eq_true rfl⟩ 0 rfl rfl rfl rfl rfl (Nat.le_of_ble_eq_true rfl) dX8_closes_13 ⟨by decide, by decide⟩ (fun z3 u' hq => ?_)
    obtain ⟨hz3, rfl⟩ := hq
    refine j_if_ne h (tgt := 26) dX8_closes_16 (by decide) (fun c4 => ?_) (fun c4 => ?_)
    · refine j_aload_n h dX8_closes_26 rfl 0 rfl ?_
      refine j_iload_n h dX8_closes_27 rfl 1 rfl ?_
      refine j_callI h (n := 1) (c_X8_counted l D cy ad _ _ _ hI) (xg_V (xr_27 1 rfl) (xr_27 2 rfl) (xr_27 3 rfl) (xr_1 5 rfl) (xr_27 4 rfl)) rfl rfl (by decide +kernel) ⟨Nat.le_of_ble_eq_true rfl, Nat.le_of_ble_eq_true rfl⟩ 0 rfl rfl rfl rfl rfl (Nat.le_of_ble_eq_true rfl) dX8_closes_28 ⟨by decide, by decide⟩ (fun z5 u' hq => ?_)
      obtain ⟨hz5, rfl⟩ := hq
      refine j_istore_n h (lv' := [(2, _), (0, _), (1, _)]) dX8_closes_31 rfl (by decide) rfl ?_
      refine j_iload_n h dX8_closes_32 rfl 0 rfl ?_
      refine j_if_le h (tgt := 84) dX8_closes_33 (by decide) (fun c6 => ?_) (fun c6 => ?_)
      · refine j_aload_n h dX8_closes_84 rfl 1 rfl ?_
        refine j_iload_n h dX8_closes_85 rfl 2 rfl ?_
        refine j_iconst h (v := 4) dX8_closes_86 (by decide) ?_
        refine j_iconst h (v := 0) dX8_closes_87 (by decide) ?_
        refine j_callV h (n := 3) (c_X8_setsRink l D cy ad _ _ _ _ _ (vp_of (j := p1.toNatClampNeg) ep1 (by omega) (by decide)) (vp_in_nI (by decide) (by decide))) (xg_V (xr_16 19 rfl) (xr_16 20 rfl) (xr_16 21 rfl) (xr_1 5 rfl) (xr_16 22 rfl)) rfl rfl (by decide +kernel) ⟨Nat.le_of_ble_eq_true rfl, Nat.le_of_ble_eq_true rfl⟩ 0 rfl rfl rfl rfl rfl (Nat.le_of_ble_eq_true rfl) dX8_closes_88 ⟨by decide, by decide⟩ (fun u' hq => ?_)
        obtain ⟨z7, hz7, rfl⟩ := hq
        have hIz7 : MI z7 := MI_sr hI (vp_of (j := p1.toNatClampNeg) ep1 (by omega) (by decide)) (vp_in_nI (by decide) (by decide)) hz7
        refine j_aload_n h dX8_closes_91 rfl 1 rfl ?_
        refine j_iload_n h dX8_closes_92 rfl 2 rfl ?_
        refine j_iconst h (v := 5) dX8_closes_93 (by decide) ?_
        refine j_aload_n h dX8_closes_94 rfl 1 rfl ?_
        refine j_iload_n h dX8_closes_95 rfl 2 rfl ?_
        refine j_bipush h (v := 6) dX8_closes_96 (by decide) ?_
        refine j_callI h (n := 2) (c_X8_ofRink l D cy ad _ _ _ _ (vp_of (j := p1.toNatClampNeg) ep1 (by omega) (by decide)) (vp_in_nI (by decide) (by decide))) (xg_V (xr_16 15 rfl) (xr_16 16 rfl) (xr_16 17 rfl) (xr_1 5 rfl) (xr_16 18 rfl)) rfl rfl (by decide +kernel) ⟨Nat.le_of_ble_eq_true rfl, Nat.le_of_ble_eq_true rfl⟩ 0 rfl rfl rfl rfl rfl (Nat.le_of_ble_eq_true rfl) dX8_closes_98 ⟨by decide, by decide⟩ (fun z8 u' hq => ?_)
        obtain ⟨hz8, rfl⟩ := hq
        refine j_callV h (n := 3) (c_X8_setsRink l D cy ad _ _ _ _ _ (vp_of (j := p1.toNatClampNeg) ep1 (by omega) (by decide)) (vp_in_nI (by decide) (by decide))) (xg_V (xr_16 19 rfl) (xr_16 20 rfl) (xr_16 21 rfl) (xr_1 5 rfl) (xr_16 22 rfl)) rfl rfl (by decide +kernel) ⟨Nat.le_of_ble_eq_true rfl, Nat.le_of_ble_eq_true rfl⟩ 0 rfl rfl rfl rfl rfl (Nat.le_of_ble_eq_true rfl) dX8_closes_101 ⟨by decide, by decide⟩ (fun u' hq => ?_)
        obtain ⟨z9, hz9, rfl⟩ := hq
        have hIz9 : MI z9 := MI_sr hIz7 (vp_of (j := p1.toNatClampNeg) ep1 (by omega) (by decide)) (vp_in_nI (by decide) (by decide)) hz9
        refine j_aload_n h dX8_closes_104 rfl 1 rfl ?_
        refine j_iload_n h dX8_closes_105 rfl 2 rfl ?_
        refine j_bipush h (v := 9) dX8_closes_106 (by decide) ?_
        refine j_aload_n h dX8_closes_108 rfl 1 rfl ?_
        refine j_iload_n h dX8_closes_109 rfl 2 rfl ?_
        refine j_bipush h (v := 9) dX8_closes_110 (by decide) ?_
        refine j_callI h (n := 2) (c_X8_ofRink l D cy ad _ _ _ _ (vp_of (j := p1.toNatClampNeg) ep1 (by omega) (by decide)) (vp_in_nI (by decide) (by decide))) (xg_V (xr_16 15 rfl) (xr_16 16 rfl) (xr_16 17 rfl) (xr_1 5 rfl) (xr_16 18 rfl)) rfl rfl (by decide +kernel) ⟨Nat.le_of_ble_eq_true rfl, Nat.le_of_ble_eq_true rfl⟩ 0 rfl rfl rfl rfl rfl (Nat.le_of_ble_eq_true rfl) dX8_closes_112 ⟨by decide, by decide⟩ (fun z10 u' hq => ?_)
        obtain ⟨hz10, rfl⟩ := hq
        refine j_iconst h (v := 1) dX8_closes_115 (by decide) ?_
        refine j_iadd h dX8_closes_116 ?_
        refine j_callV h (n := 3) (c_X8_setsRink l D cy ad _ _ _ _ _ (vp_of (j := p1.toNatClampNeg) ep1 (by omega) (by decide)) (vp_in_nI (by decide) (by decide))) (xg_V (xr_16 19 rfl) (xr_16 20 rfl) (xr_16 21 rfl) (xr_1 5 rfl) (xr_16 22 rfl)) rfl rfl (by decide +kernel) ⟨Nat.le_of_ble_eq_true rfl, Nat.le_of_ble_eq_true rfl⟩ 0 rfl rfl rfl rfl rfl (Nat.le_of_ble_eq_true rfl) dX8_closes_117 ⟨by decide, by decide⟩ (fun u' hq => ?_)
        obtain ⟨z11, hz11, rfl⟩ := hq
        have hIz11 : MI z11 := MI_sr hIz9 (vp_of (j := p1.toNatClampNeg) ep1 (by omega) (by decide)) (vp_in_nI (by decide) (by decide)) hz11
        refine j_iconst h (v := 0) dX8_closes_120 (by decide) ?_
        refine j_istore_n h (lv' := [(3, _), (2, _), (0, _), (1, _)]) dX8_closes_121 rfl (by decide) rfl ?_
        have lp122 : ∀ (n k : Nat) (Ak : Nat → Nat → Int32), n + k = 17 → k ≤ 16 → MI Ak → (∀ z : (Nat → Nat → Int32), z = f_X8_closes_l122 X p1 n k Ak → MI z → J (X, z) (0, 0) [(0, .ref (ad 0)), (1, .int p1), (2, .int z5)] 183 []) → J (X, Ak) (0, 0) [(0, .ref (ad 0)), (1, .int p1), (2, .int z5), (3, .int (nI k))] 122 [] := by
          intro n
          induction n with
          | zero => intro k Ak hn hk hMk hf; omega
          | succ n ih =>
            intro k Ak hn hk hMk hf
            refine j_iload_n h dX8_closes_122 rfl 3 rfl ?_
            refine j_aload_n h dX8_closes_123 rfl 0 rfl ?_
            refine j_get h inlX8 0 rfl rfl 0 (by decide) (xr_6 7 rfl) rfl (v := .ref (ad 1)) rfl dX8_closes_124 ?_
            refine j_iconst h (v := 4) dX8_closes_127 (by decide) ?_
            refine j_ialdE h 1 rfl 4 rfl (by decide) (by decide) dX8_closes_128 ?_
            refine j_icmp_ge h (tgt := 183) dX8_closes_129 (by decide) (fun c12 => ?_) (fun c12 => ?_)
            · refine j_sub h [0, 1, 2] rfl ?_
              exact hf _ (Eq.symm ((ite_p c12 rfl))) hMk
            · have hk1 : k < 16 := cnt_lt (by decide) hk hMk.w c12
              refine j_aload_n h dX8_closes_132 rfl 0 rfl ?_
              refine j_iload_n h dX8_closes_133 rfl 3 rfl ?_
              refine j_iconst h (v := 2) dX8_closes_134 (by decide) ?_
              refine j_callI h (n := 2) (c_X8_ofWood l D cy ad _ _ _ _ (vp_in_nI (by omega) (by decide)) (vp_in_nI (by decide) (by decide))) (xg_V (xr_24 4 rfl) (xr_24 5 rfl) (xr_24 6 rfl) (xr_1 5 rfl) (xr_24 7 rfl)) rfl rfl (by decide +kernel) ⟨Nat.le_of_ble_eq_true rfl, Nat.le_of_ble_eq_true rfl⟩ 0 rfl rfl rfl rfl rfl (Nat.le_of_ble_eq_true rfl) dX8_closes_135 ⟨by decide, by decide⟩ (fun z13 u' hq => ?_)
              obtain ⟨hz13, rfl⟩ := hq
              refine j_if_eq h (tgt := 177) dX8_closes_138 (by decide) (fun c14 => ?_) (fun c14 => ?_)
              · refine j_iinc h (v := nI (k + 1)) (lv' := [(3, _), (0, _), (1, _), (2, _)]) dX8_closes_177 (k := 3) rfl (nI_1 k) (by decide) rfl ?_
                refine j_goto h (tgt := 122) dX8_closes_180 (by decide) ?_
                refine j_sub h [1, 2, 3, 0] rfl ?_
                exact ih (k + 1) _ (by omega) (by omega) hMk (fun z hz hp => hf z (hz.trans (Eq.symm ((ite_n c12 (bd_eq hz13 (ite_p c14 rfl)))))) hp)
              · refine j_aload_n h dX8_closes_141 rfl 0 rfl ?_
                refine j_iload_n h dX8_closes_142 rfl 3 rfl ?_
                refine j_iconst h (v := 3) dX8_closes_143 (by decide) ?_
                refine j_callI h (n := 2) (c_X8_ofWood l D cy ad _ _ _ _ (vp_in_nI (by omega) (by decide)) (vp_in_nI (by decide) (by decide))) (xg_V (xr_24 4 rfl) (xr_24 5 rfl) (xr_24 6 rfl) (xr_1 5 rfl) (xr_24 7 rfl)) rfl rfl (by decide +kernel) ⟨Nat.le_of_ble_eq_true rfl, Nat.le_of_ble_eq_true rfl⟩ 0 rfl rfl rfl rfl rfl (Nat.le_of_ble_eq_true rfl) dX8_closes_144 ⟨by decide, by decide⟩ (fun z15 u' hq => ?_)
                obtain ⟨hz15, rfl⟩ := hq
                refine j_iload_n h dX8_closes_147 rfl 1 rfl ?_
                refine j_icmp_eq h (tgt := 154) dX8_closes_148 (by decide) (fun c16 => ?_) (fun c16 => ?_)
                · refine j_iconst h (v := 2) dX8_closes_154 (by decide) ?_
                  refine j_istore h (lv' := [(4, _), (0, _), (1, _), (2, _), (3, _)]) dX8_closes_155 (by decide) rfl ?_
                  have lp157 : ∀ (n j : Nat) (Aj : Nat → Nat → Int32), n + j = 7 → j ≤ 6 → MI Aj → (∀ z : (Nat → Nat → Int32), z = f_X8_closes_l157 X p1 k n j Aj → MI z → J (X, z) (0, 0) [(0, .ref (ad 0)), (1, .int p1), (2, .int z5), (3, .int (nI k))] 177 []) → J (X, Aj) (0, 0) [(0, .ref (ad 0)), (1, .int p1), (2, .int z5), (3, .int (nI k)), (4, .int (nI j))] 157 [] := by
                    intro n
                    induction n with
                    | zero => intro j Aj hn hkj hMj hf; omega
                    | succ n ih =>
                      intro j Aj hn hkj hMj hf
                      refine j_iload h dX8_closes_157 4 rfl ?_
                      refine j_iconst h (v := 5) dX8_closes_159 (by decide) ?_
                      refine j_icmp_gt h (tgt := 177) dX8_closes_160 (by decide) (fun c17 => ?_) (fun c17 => ?_)
                      · refine j_sub h [0, 1, 2, 3] rfl ?_
                        exact hf _ (Eq.symm ((ite_p c17 rfl))) hMj
                      · have hj1 : j < 6 := gt_lt (by decide) hkj c17
                        refine j_aload_n h dX8_closes_163 rfl 0 rfl ?_
                        refine j_iload_n h dX8_closes_164 rfl 3 rfl ?_
                        refine j_iload h dX8_closes_165 4 rfl ?_
                        refine j_iconst h (v := 0) dX8_closes_167 (by decide) ?_
                        refine j_callV h (n := 3) (c_X8_setsWood l D cy ad _ _ _ _ _ (vp_in_nI (by omega) (by decide)) (vp_in_nI (by omega) (by decide))) (xg_V (xr_18 0 rfl) (xr_18 1 rfl) (xr_18 2 rfl) (xr_1 5 rfl) (xr_18 3 rfl)) rfl rfl (by decide +kernel) ⟨Nat.le_of_ble_eq_true rfl, Nat.le_of_ble_eq_true rfl⟩ 0 rfl rfl rfl rfl rfl (Nat.le_of_ble_eq_true rfl) dX8_closes_168 ⟨by decide, by decide⟩ (fun u' hq => ?_)
                        obtain ⟨z18, hz18, rfl⟩ := hq
                        have hIz18 : MI z18 := MI_sw hMj (vp_in_nI (by omega) (by decide)) (fun _ => vp_in_nI (n := 0) (by decide) (by decide)) (fun _ => vp_in_nI (n := 0) (by decide) (by decide)) hz18
                        refine j_iinc h (v := nI (j + 1)) (lv' := [(4, _), (0, _), (1, _), (2, _), (3, _)]) dX8_closes_171 (k := 4) rfl (nI_1 j) (by decide) rfl ?_
                        refine j_goto h (tgt := 157) dX8_closes_174 (by decide) ?_
                        refine j_sub h [1, 2, 3, 4, 0] rfl ?_
                        exact ih (j + 1) _ (by omega) (by omega) hIz18 (fun z hz hp => hf z (hz.trans (Eq.symm ((ite_n c17 (bd_eq hz18 rfl))))) hp)
                  refine j_sub h [1, 2, 3, 4, 0] rfl ?_
                  refine lp157 5 2 _ (by omega) (by omega) hMk (fun z19 hz19 hpz19 => ?_)
                  refine j_iinc h (v := nI (k + 1)) (lv' := [(3, _), (0, _), (1, _), (2, _)]) dX8_closes_177 (k := 3) rfl (nI_1 k) (by decide) rfl ?_
                  refine j_goto h (tgt := 122) dX8_closes_180 (by decide) ?_
                  refine j_sub h [1, 2, 3, 0] rfl ?_
                  exact ih (k + 1) _ (by omega) (by omega) hpz19 (fun z hz hp => hf z (hz.trans (Eq.symm ((ite_n c12 (bd_eq hz13 (ite_n c14 (bd_eq hz15 (ite_p c16 (bd_eq hz19 rfl))))))))) hp)
                · refine j_goto h (tgt := 177) dX8_closes_151 (by decide) ?_
                  refine j_iinc h (v := nI (k + 1)) (lv' := [(3, _), (0, _), (1, _), (2, _)]) dX8_closes_177 (k := 3) rfl (nI_1 k) (by decide) rfl ?_
                  refine j_goto h (tgt := 122) dX8_closes_180 (by decide) ?_
                  refine j_sub h [1, 2, 3, 0] rfl ?_
                  exact ih (k + 1) _ (by omega) (by omega) hMk (fun z hz hp => hf z (hz.trans (Eq.symm ((ite_n c12 (bd_eq hz13 (ite_n c14 (bd_eq hz15 (ite_n c16 rfl)))))))) hp)
        refine j_sub h [2, 3, 1, 0] rfl ?_
        refine lp122 17 0 _ (by omega) (by omega) hIz11 (fun z20 hz20 hpz20 => ?_)
        refine j_aload_n h dX8_closes_183 rfl 0 rfl ?_
        refine j_iload_n h dX8_closes_184 rfl 2 rfl ?_
        refine j_callI h (n := 1) (c_X8_does l D cy ad _ _ _) (xg_V (xr_20 20 rfl) (xr_20 21 rfl) (xr_20 22 rfl) (xr_1 5 rfl) (xr_20 23 rfl)) rfl rfl (by decide +kernel) ⟨Nat.le_of_ble_eq_true rfl, Nat.le_of_ble_eq_true rfl⟩ 0 rfl rfl rfl rfl rfl (Nat.le_of_ble_eq_true rfl) dX8_closes_185 ⟨by decide, by decide⟩ (fun r u' hq => ?_)
        obtain ⟨z21, hz21, rfl, rfl⟩ := hq
        exact hR _ _ _ _ dX8_closes_188 ⟨(_, _), Eq.symm ((bd_eq hz1 (ite_n c2 (bd_eq hz3 (ite_n c4 (bd_eq hz5 (ite_p c6 (bd_eq hz7 (bd_eq hz8 (bd_eq hz9 (bd_eq hz10 (bd_eq hz11 (bd_eq hz20 (bd_eq hz21 rfl)))))))))))))), rfl, rfl, hpz20, (fun q => absurd q (do_ne hz21)), (FX.tr FX.rf (FX_do hz21))⟩
      · refine j_iload_n h dX8_closes_36 rfl 0 rfl ?_
        refine j_bipush h (v := 10) dX8_closes_37 (by decide) ?_
        refine j_idiv h dX8_closes_39 (by decide) ?_
        refine j_istore_n h (lv' := [(3, _), (2, _), (0, _), (1, _)]) dX8_closes_40 rfl (by decide) rfl ?_
        have vcl : vp_in (z5 / 10) 3 := cnt_div hz5
        have bcl : (z5 / 10).toNatClampNeg < 3 := vp_lt vcl
        have ecl : z5 / 10 = nI (z5 / 10).toNatClampNeg := vp_nI vcl (by decide)
        refine j_aload_n h dX8_closes_41 rfl 2 rfl ?_
        refine j_get h inlX8 0 rfl rfl 0 (by decide) (xr_6 7 rfl) rfl (v := .ref (ad 1)) rfl dX8_closes_42 ?_
        refine j_bipush h (v := 9) dX8_closes_45 (by decide) ?_
        refine j_iconst h (v := 4) dX8_closes_47 (by decide) ?_
        refine j_iload_n h dX8_closes_48 rfl 0 rfl ?_
        refine j_imul h dX8_closes_49 ?_
        refine j_iadd h dX8_closes_50 ?_
        refine j_dup2 h dX8_closes_51 rfl rfl ?_
        refine j_ialdE h 1 rfl (9 + (4 * ((z5 / 10).toNatClampNeg))) (nx_add rfl (nx_mul rfl ecl)) (by omega) (by decide) dX8_closes_52 ?_
        refine j_iload_n h dX8_closes_53 rfl 1 rfl ?_
        refine j_bipush h (v := 10) dX8_closes_54 (by decide) ?_
        refine j_irem h dX8_closes_56 (by decide) ?_
        refine j_iadd h dX8_closes_57 ?_
        refine j_iastE h 1 rfl (9 + (4 * ((z5 / 10).toNatClampNeg))) (nx_add rfl (nx_mul rfl ecl)) (by omega) (by decide) dX8_closes_58 (u' := (X, up2 A 0 (9 + (4 * ((z5 / 10).toNatClampNeg))) ((A 0 (9 + (4 * ((z5 / 10).toNatClampNeg)))) + (z5 - z5 / 10 * 10)))) rfl ?_
        refine j_aload_n h dX8_closes_59 rfl 2 rfl ?_
        refine j_get h inlX8 0 rfl rfl 0 (by decide) (xr_6 7 rfl) rfl (v := .ref (ad 1)) rfl dX8_closes_60 ?_
        refine j_bipush h (v := 9) dX8_closes_63 (by decide) ?_
        refine j_iconst h (v := 4) dX8_closes_65 (by decide) ?_
        refine j_iload_n h dX8_closes_66 rfl 0 rfl ?_
        refine j_imul h dX8_closes_67 ?_
        refine j_iadd h dX8_closes_68 ?_
        refine j_iconst h (v := 1) dX8_closes_69 (by decide) ?_
        refine j_iadd h dX8_closes_70 ?_
        refine j_dup2 h dX8_closes_71 rfl rfl ?_
        refine j_ialdE h 1 rfl ((9 + (4 * ((z5 / 10).toNatClampNeg))) + 1) (nx_add (nx_add rfl (nx_mul rfl ecl)) rfl) (by omega) (by decide) dX8_closes_72 ?_
        refine j_iconst h (v := 1) dX8_closes_73 (by decide) ?_
        refine j_iadd h dX8_closes_74 ?_
        refine j_iastE h 1 rfl ((9 + (4 * ((z5 / 10).toNatClampNeg))) + 1) (nx_add (nx_add rfl (nx_mul rfl ecl)) rfl) (by omega) (by decide) dX8_closes_75 (u' := (X, up2 (up2 A 0 (9 + (4 * ((z5 / 10).toNatClampNeg))) ((A 0 (9 + (4 * ((z5 / 10).toNatClampNeg)))) + (z5 - z5 / 10 * 10))) 0 ((9 + (4 * ((z5 / 10).toNatClampNeg))) + 1) (((up2 A 0 (9 + (4 * ((z5 / 10).toNatClampNeg))) ((A 0 (9 + (4 * ((z5 / 10).toNatClampNeg)))) + (z5 - z5 / 10 * 10))) 0 ((9 + (4 * ((z5 / 10).toNatClampNeg))) + 1)) + 1))) rfl ?_
        refine j_aload_n h dX8_closes_76 rfl 2 rfl ?_
        refine j_iload_n h dX8_closes_77 rfl 3 rfl ?_
        refine j_bipush h (v := 6) dX8_closes_78 (by decide) ?_
        refine j_iload_n h dX8_closes_80 rfl 0 rfl ?_
        refine j_callV h (n := 3) (c_X8_setsRink l D cy ad _ _ _ _ _ (vp_of (j := p1.toNatClampNeg) ep1 (by omega) (by decide)) (vp_in_nI (by decide) (by decide))) (xg_V (xr_16 19 rfl) (xr_16 20 rfl) (xr_16 21 rfl) (xr_1 5 rfl) (xr_16 22 rfl)) rfl rfl (by decide +kernel) ⟨Nat.le_of_ble_eq_true rfl, Nat.le_of_ble_eq_true rfl⟩ 0 rfl rfl rfl rfl rfl (Nat.le_of_ble_eq_true rfl) dX8_closes_81 ⟨by decide, by decide⟩ (fun u' hq => ?_)
        obtain ⟨z22, hz22, rfl⟩ := hq
        have hIz22 : MI z22 := MI_sr (MI_up (MI_up hI (by omega) (by omega) (by omega)) (by omega) (by omega) (by omega)) (vp_of (j := p1.toNatClampNeg) ep1 (by omega) (by decide)) (vp_in_nI (by decide) (by decide)) hz22
        refine j_aload_n h dX8_closes_84 rfl 2 rfl ?_
        refine j_iload_n h dX8_closes_85 rfl 3 rfl ?_
        refine j_iconst h (v := 4) dX8_closes_86 (by decide) ?_
        refine j_iconst h (v := 0) dX8_closes_87 (by decide) ?_
        refine j_callV h (n := 3) (c_X8_setsRink l D cy ad _ _ _ _ _ (vp_of (j := p1.toNatClampNeg) ep1 (by omega) (by decide)) (vp_in_nI (by decide) (by decide))) (xg_V (xr_16 19 rfl) (xr_16 20 rfl) (xr_16 21 rfl) (xr_1 5 rfl) (xr_16 22 rfl)) rfl rfl (by decide +kernel) ⟨Nat.le_of_ble_eq_true rfl, Nat.le_of_ble_eq_true rfl⟩ 0 rfl rfl rfl rfl rfl (Nat.le_of_ble_eq_true rfl) dX8_closes_88 ⟨by decide, by decide⟩ (fun u' hq => ?_)
        obtain ⟨z23, hz23, rfl⟩ := hq
        have hIz23 : MI z23 := MI_sr hIz22 (vp_of (j := p1.toNatClampNeg) ep1 (by omega) (by decide)) (vp_in_nI (by decide) (by decide)) hz23
        refine j_aload_n h dX8_closes_91 rfl 2 rfl ?_
        refine j_iload_n h dX8_closes_92 rfl 3 rfl ?_
        refine j_iconst h (v := 5) dX8_closes_93 (by decide) ?_
        refine j_aload_n h dX8_closes_94 rfl 2 rfl ?_
        refine j_iload_n h dX8_closes_95 rfl 3 rfl ?_
        refine j_bipush h (v := 6) dX8_closes_96 (by decide) ?_
        refine j_callI h (n := 2) (c_X8_ofRink l D cy ad _ _ _ _ (vp_of (j := p1.toNatClampNeg) ep1 (by omega) (by decide)) (vp_in_nI (by decide) (by decide))) (xg_V (xr_16 15 rfl) (xr_16 16 rfl) (xr_16 17 rfl) (xr_1 5 rfl) (xr_16 18 rfl)) rfl rfl (by decide +kernel) ⟨Nat.le_of_ble_eq_true rfl, Nat.le_of_ble_eq_true rfl⟩ 0 rfl rfl rfl rfl rfl (Nat.le_of_ble_eq_true rfl) dX8_closes_98 ⟨by decide, by decide⟩ (fun z24 u' hq => ?_)
        obtain ⟨hz24, rfl⟩ := hq
        refine j_callV h (n := 3) (c_X8_setsRink l D cy ad _ _ _ _ _ (vp_of (j := p1.toNatClampNeg) ep1 (by omega) (by decide)) (vp_in_nI (by decide) (by decide))) (xg_V (xr_16 19 rfl) (xr_16 20 rfl) (xr_16 21 rfl) (xr_1 5 rfl) (xr_16 22 rfl)) rfl rfl (by decide +kernel) ⟨Nat.le_of_ble_eq_true rfl, Nat.le_of_ble_eq_true rfl⟩ 0 rfl rfl rfl rfl rfl (Nat.le_of_ble_eq_true rfl) dX8_closes_101 ⟨by decide, by decide⟩ (fun u' hq => ?_)
        obtain ⟨z25, hz25, rfl⟩ := hq
        have hIz25 : MI z25 := MI_sr hIz23 (vp_of (j := p1.toNatClampNeg) ep1 (by omega) (by decide)) (vp_in_nI (by decide) (by decide)) hz25
        refine j_aload_n h dX8_closes_104 rfl 2 rfl ?_
        refine j_iload_n h dX8_closes_105 rfl 3 rfl ?_
        refine j_bipush h (v := 9) dX8_closes_106 (by decide) ?_
        refine j_aload_n h dX8_closes_108 rfl 2 rfl ?_
        refine j_iload_n h dX8_closes_109 rfl 3 rfl ?_
        refine j_bipush h (v := 9) dX8_closes_110 (by decide) ?_
        refine j_callI h (n := 2) (c_X8_ofRink l D cy ad _ _ _ _ (vp_of (j := p1.toNatClampNeg) ep1 (by omega) (by decide)) (vp_in_nI (by decide) (by decide))) (xg_V (xr_16 15 rfl) (xr_16 16 rfl) (xr_16 17 rfl) (xr_1 5 rfl) (xr_16 18 rfl)) rfl rfl (by decide +kernel) ⟨Nat.le_of_ble_eq_true rfl, Nat.le_of_ble_eq_true rfl⟩ 0 rfl rfl rfl rfl rfl (Nat.le_of_ble_eq_true rfl) dX8_closes_112 ⟨by decide, by decide⟩ (fun z26 u' hq => ?_)
        obtain ⟨hz26, rfl⟩ := hq
        refine j_iconst h (v := 1) dX8_closes_115 (by decide) ?_
        refine j_iadd h dX8_closes_116 ?_
        refine j_callV h (n := 3) (c_X8_setsRink l D cy ad _ _ _ _ _ (vp_of (j := p1.toNatClampNeg) ep1 (by omega) (by decide)) (vp_in_nI (by decide) (by decide))) (xg_V (xr_16 19 rfl) (xr_16 20 rfl) (xr_16 21 rfl) (xr_1 5 rfl) (xr_16 22 rfl)) rfl rfl (by decide +kernel) ⟨Nat.le_of_ble_eq_true rfl, Nat.le_of_ble_eq_true rfl⟩ 0 rfl rfl rfl rfl rfl (Nat.le_of_ble_eq_true rfl) dX8_closes_117 ⟨by decide, by decide⟩ (fun u' hq => ?_)
        obtain ⟨z27, hz27, rfl⟩ := hq
        have hIz27 : MI z27 := MI_sr hIz25 (vp_of (j := p1.toNatClampNeg) ep1 (by omega) (by decide)) (vp_in_nI (by decide) (by decide)) hz27
        refine j_iconst h (v := 0) dX8_closes_120 (by decide) ?_
        refine j_istore_n h (lv' := [(3, _), (2, _), (0, _), (1, _)]) dX8_closes_121 rfl (by decide) rfl ?_
        have lp122 : ∀ (n k : Nat) (Ak : Nat → Nat → Int32), n + k = 17 → k ≤ 16 → MI Ak → (∀ z : (Nat → Nat → Int32), z = f_X8_closes_l122 X p1 n k Ak → MI z → J (X, z) (0, 0) [(0, .ref (ad 0)), (1, .int p1), (2, .int z5)] 183 []) → J (X, Ak) (0, 0) [(0, .ref (ad 0)), (1, .int p1), (2, .int z5), (3, .int (nI k))] 122 [] := by
          intro n
          induction n with
          | zero => intro k Ak hn hk hMk hf; omega
          | succ n ih =>
            intro k Ak hn hk hMk hf
            refine j_iload_n h dX8_closes_122 rfl 3 rfl ?_
            refine j_aload_n h dX8_closes_123 rfl 0 rfl ?_
            refine j_get h inlX8 0 rfl rfl 0 (by decide) (xr_6 7 rfl) rfl (v := .ref (ad 1)) rfl dX8_closes_124 ?_
            refine j_iconst h (v := 4) dX8_closes_127 (by decide) ?_
            refine j_ialdE h 1 rfl 4 rfl (by decide) (by decide) dX8_closes_128 ?_
            refine j_icmp_ge h (tgt := 183) dX8_closes_129 (by decide) (fun c28 => ?_) (fun c28 => ?_)
            · refine j_sub h [0, 1, 2] rfl ?_
              exact hf _ (Eq.symm ((ite_p c28 rfl))) hMk
            · have hk1 : k < 16 := cnt_lt (by decide) hk hMk.w c28
              refine j_aload_n h dX8_closes_132 rfl 0 rfl ?_
              refine j_iload_n h dX8_closes_133 rfl 3 rfl ?_
              refine j_iconst h (v := 2) dX8_closes_134 (by decide) ?_
              refine j_callI h (n := 2) (c_X8_ofWood l D cy ad _ _ _ _ (vp_in_nI (by omega) (by decide)) (vp_in_nI (by decide) (by decide))) (xg_V (xr_24 4 rfl) (xr_24 5 rfl) (xr_24 6 rfl) (xr_1 5 rfl) (xr_24 7 rfl)) rfl rfl (by decide +kernel) ⟨Nat.le_of_ble_eq_true rfl, Nat.le_of_ble_eq_true rfl⟩ 0 rfl rfl rfl rfl rfl (Nat.le_of_ble_eq_true rfl) dX8_closes_135 ⟨by decide, by decide⟩ (fun z29 u' hq => ?_)
              obtain ⟨hz29, rfl⟩ := hq
              refine j_if_eq h (tgt := 177) dX8_closes_138 (by decide) (fun c30 => ?_) (fun c30 => ?_)
              · refine j_iinc h (v := nI (k + 1)) (lv' := [(3, _), (0, _), (1, _), (2, _)]) dX8_closes_177 (k := 3) rfl (nI_1 k) (by decide) rfl ?_
                refine j_goto h (tgt := 122) dX8_closes_180 (by decide) ?_
                refine j_sub h [1, 2, 3, 0] rfl ?_
                exact ih (k + 1) _ (by omega) (by omega) hMk (fun z hz hp => hf z (hz.trans (Eq.symm ((ite_n c28 (bd_eq hz29 (ite_p c30 rfl)))))) hp)
              · refine j_aload_n h dX8_closes_141 rfl 0 rfl ?_
                refine j_iload_n h dX8_closes_142 rfl 3 rfl ?_
                refine j_iconst h (v := 3) dX8_closes_143 (by decide) ?_
                refine j_callI h (n := 2) (c_X8_ofWood l D cy ad _ _ _ _ (vp_in_nI (by omega) (by decide)) (vp_in_nI (by decide) (by decide))) (xg_V (xr_24 4 rfl) (xr_24 5 rfl) (xr_24 6 rfl) (xr_1 5 rfl) (xr_24 7 rfl)) rfl rfl (by decide +kernel) ⟨Nat.le_of_ble_eq_true rfl, Nat.le_of_ble_eq_true rfl⟩ 0 rfl rfl rfl rfl rfl (Nat.le_of_ble_eq_true rfl) dX8_closes_144 ⟨by decide, by decide⟩ (fun z31 u' hq => ?_)
                obtain ⟨hz31, rfl⟩ := hq
                refine j_iload_n h dX8_closes_147 rfl 1 rfl ?_
                refine j_icmp_eq h (tgt := 154) dX8_closes_148 (by decide) (fun c32 => ?_) (fun c32 => ?_)
                · refine j_iconst h (v := 2) dX8_closes_154 (by decide) ?_
                  refine j_istore h (lv' := [(4, _), (0, _), (1, _), (2, _), (3, _)]) dX8_closes_155 (by decide) rfl ?_
                  have lp157 : ∀ (n j : Nat) (Aj : Nat → Nat → Int32), n + j = 7 → j ≤ 6 → MI Aj → (∀ z : (Nat → Nat → Int32), z = f_X8_closes_l157 X p1 k n j Aj → MI z → J (X, z) (0, 0) [(0, .ref (ad 0)), (1, .int p1), (2, .int z5), (3, .int (nI k))] 177 []) → J (X, Aj) (0, 0) [(0, .ref (ad 0)), (1, .int p1), (2, .int z5), (3, .int (nI k)), (4, .int (nI j))] 157 [] := by
                    intro n
                    induction n with
                    | zero => intro j Aj hn hkj hMj hf; omega
                    | succ n ih =>
                      intro j Aj hn hkj hMj hf
                      refine j_iload h dX8_closes_157 4 rfl ?_
                      refine j_iconst h (v := 5) dX8_closes_159 (by decide) ?_
                      refine j_icmp_gt h (tgt := 177) dX8_closes_160 (by decide) (fun c33 => ?_) (fun c33 => ?_)
                      · refine j_sub h [0, 1, 2, 3] rfl ?_
                        exact hf _ (Eq.symm ((ite_p c33 rfl))) hMj
                      · have hj1 : j < 6 := gt_lt (by decide) hkj c33
                        refine j_aload_n h dX8_closes_163 rfl 0 rfl ?_
                        refine j_iload_n h dX8_closes_164 rfl 3 rfl ?_
                        refine j_iload h dX8_closes_165 4 rfl ?_
                        refine j_iconst h (v := 0) dX8_closes_167 (by decide) ?_
                        refine j_callV h (n := 3) (c_X8_setsWood l D cy ad _ _ _ _ _ (vp_in_nI (by omega) (by decide)) (vp_in_nI (by omega) (by decide))) (xg_V (xr_18 0 rfl) (xr_18 1 rfl) (xr_18 2 rfl) (xr_1 5 rfl) (xr_18 3 rfl)) rfl rfl (by decide +kernel) ⟨Nat.le_of_ble_eq_true rfl, Nat.le_of_ble_eq_true rfl⟩ 0 rfl rfl rfl rfl rfl (Nat.le_of_ble_eq_true rfl) dX8_closes_168 ⟨by decide, by decide⟩ (fun u' hq => ?_)
                        obtain ⟨z34, hz34, rfl⟩ := hq
                        have hIz34 : MI z34 := MI_sw hMj (vp_in_nI (by omega) (by decide)) (fun _ => vp_in_nI (n := 0) (by decide) (by decide)) (fun _ => vp_in_nI (n := 0) (by decide) (by decide)) hz34
                        refine j_iinc h (v := nI (j + 1)) (lv' := [(4, _), (0, _), (1, _), (2, _), (3, _)]) dX8_closes_171 (k := 4) rfl (nI_1 j) (by decide) rfl ?_
                        refine j_goto h (tgt := 157) dX8_closes_174 (by decide) ?_
                        refine j_sub h [1, 2, 3, 4, 0] rfl ?_
                        exact ih (j + 1) _ (by omega) (by omega) hIz34 (fun z hz hp => hf z (hz.trans (Eq.symm ((ite_n c33 (bd_eq hz34 rfl))))) hp)
                  refine j_sub h [1, 2, 3, 4, 0] rfl ?_
                  refine lp157 5 2 _ (by omega) (by omega) hMk (fun z35 hz35 hpz35 => ?_)
                  refine j_iinc h (v := nI (k + 1)) (lv' := [(3, _), (0, _), (1, _), (2, _)]) dX8_closes_177 (k := 3) rfl (nI_1 k) (by decide) rfl ?_
                  refine j_goto h (tgt := 122) dX8_closes_180 (by decide) ?_
                  refine j_sub h [1, 2, 3, 0] rfl ?_
                  exact ih (k + 1) _ (by omega) (by omega) hpz35 (fun z hz hp => hf z (hz.trans (Eq.symm ((ite_n c28 (bd_eq hz29 (ite_n c30 (bd_eq hz31 (ite_p c32 (bd_eq hz35 rfl))))))))) hp)
                · refine j_goto h (tgt := 177) dX8_closes_151 (by decide) ?_
                  refine j_iinc h (v := nI (k + 1)) (lv' := [(3, _), (0, _), (1, _), (2, _)]) dX8_closes_177 (k := 3) rfl (nI_1 k) (by decide) rfl ?_
                  refine j_goto h (tgt := 122) dX8_closes_180 (by decide) ?_
                  refine j_sub h [1, 2, 3, 0] rfl ?_
                  exact ih (k + 1) _ (by omega) (by omega) hMk (fun z hz hp => hf z (hz.trans (Eq.symm ((ite_n c28 (bd_eq hz29 (ite_n c30 (bd_eq hz31 (ite_n c32 rfl)))))))) hp)
        refine j_sub h [2, 3, 1, 0] rfl ?_
        refine lp122 17 0 _ (by omega) (by omega) hIz27 (fun z36 hz36 hpz36 => ?_)
        refine j_aload_n h dX8_closes_183 rfl 0 rfl ?_
        refine j_iload_n h dX8_closes_184 rfl 2 rfl ?_
        refine j_callI h (n := 1) (c_X8_does l D cy ad _ _ _) (xg_V (xr_20 20 rfl) (xr_20 21 rfl) (xr_20 22 rfl) (xr_1 5 rfl) (xr_20 23 rfl)) rfl rfl (by decide +kernel) ⟨Nat.le_of_ble_eq_true rfl, Nat.le_of_ble_eq_true rfl⟩ 0 rfl rfl rfl rfl rfl (Nat.le_of_ble_eq_true rfl) dX8_closes_185 ⟨by decide, by decide⟩ (fun r u' hq => ?_)
        obtain ⟨z37, hz37, rfl, rfl⟩ := hq
        exact hR _ _ _ _ dX8_closes_188 ⟨(_, _), Eq.symm ((bd_eq hz1 (ite_n c2 (bd_eq hz3 (ite_n c4 (bd_eq hz5 (ite_n c6 (bd_eq hz22 (bd_eq hz23 (bd_eq hz24 (bd_eq hz25 (bd_eq hz26 (bd_eq hz27 (bd_eq hz36 (bd_eq hz37 rfl))))))))))))))), rfl, rfl, hpz36, (fun q => absurd q (do_ne hz37)), (FX.tr FX.rf (FX_do hz37))⟩
    · refine j_aload_n h dX8_closes_19 rfl 0 rfl ?_
      refine j_iconst h (v := 5) dX8_closes_20 (by decide) ?_
      refine j_iload_n h dX8_closes_21 rfl 1 rfl ?_
      refine j_callI h (n := 2) (c_X8_refuses l D cy ad _ _ _ _) (xg_V (xr_16 10 rfl) (xr_16 11 rfl) (xr_16 12 rfl) (xr_1 5 rfl) (xr_16 13 rfl)) rfl rfl (by decide +kernel) ⟨Nat.le_of_ble_eq_true rfl, Nat.le_of_ble_eq_true rfl⟩ 0 rfl rfl rfl rfl rfl (Nat.le_of_ble_eq_true rfl) dX8_closes_22 ⟨by decide, by decide⟩ (fun r u' hq => ?_)
      obtain ⟨z38, hz38, rfl, rfl⟩ := hq
      have hIz38 : MI z38.2.2 := MI_rf hI hz38
      exact hR _ _ _ _ dX8_closes_25 ⟨(_, _), Eq.symm ((bd_eq hz1 (ite_n c2 (bd_eq hz3 (ite_p c4 (bd_eq hz38 rfl)))))), rfl, rfl, hIz38, (fun _ => rf_16 hz38), (FX.tr FX.rf (FX_rf hz38))⟩
  · refine j_iconst h (v := (-1)) dX8_closes_8 (by decide) ?_
    exact hR _ _ _ _ dX8_closes_9 ⟨(_, _), Eq.symm ((bd_eq hz1 (ite_p c2 rfl))), rfl, rfl, hI, (fun q => absurd q (by decide)), FX.rf⟩

def f_X8_sweeps (X : Nat → Int32) (A : Nat → Nat → Int32) (p1 : Int32) : Int32 × (Nat → Int32) × (Nat → Nat → Int32) :=
  bd (f_X8_isRink X A p1) fun z1 =>
  if z1 = 0 then
    ((-1), (X, A))
  else
    bd (f_X8_ofRink X A p1 3) fun z3 =>
    if z3 = 0 then
      bd (f_X8_refuses X A 9 p1) fun z9 =>
      (z9.1, (z9.2.1, z9.2.2))
    else
      if ((z3 + 2) / 3) ≤ (A 0 6) then
        bd (f_X8_setsRink X (up2 (up2 (up2 A 0 6 ((A 0 6) - ((z3 + 2) / 3))) 0 7 (((up2 A 0 6 ((A 0 6) - ((z3 + 2) / 3))) 0 7) + ((z3 + 2) / 3))) 0 8 (((up2 (up2 A 0 6 ((A 0 6) - ((z3 + 2) / 3))) 0 7 (((up2 A 0 6 ((A 0 6) - ((z3 + 2) / 3))) 0 7) + ((z3 + 2) / 3))) 0 8) + z3)) p1 3 0) fun z6 =>
        bd (f_X8_does X z6 z3) fun z7 =>
        (z7.1, (z7.2, z6))
      else
        bd (f_X8_refuses X A 10 (((z3 + 2) / 3) - (A 0 6))) fun z8 =>
        (z8.1, (z8.2.1, z8.2.2))
abbrev rm_X8_sweeps : Room := { frames := 2, cells := 0, slots := 0, locals := 43 }
set_option maxRecDepth 100000 in
set_option maxHeartbeats 4000000 in
theorem c_X8_sweeps (l : Launch) (D : gD) (cy : Nat → ClassId) (ad : Nat → Nat) (X : Nat → Int32) (A : Nat → Nat → Int32) (p1 : Int32) (hI : MI A) : CtI l D cy (MW cy ad) yX8_sweeps cX8_sweeps 4 (some .int) rm_X8_sweeps [.ref (ad 0), .int p1] (X, A) (fun rv u => ∃ z : Int32 × ((Nat → Int32) × (Nat → Nat → Int32)), z = f_X8_sweeps X A p1 ∧ rv = z.1 ∧ u = z.2 ∧ MI (z.2.2) ∧ (rv = -3 → vp_in ((z.2.1) 16) 3) ∧ FX X (z.2.1)) 0 0 := by
  refine m_entI cX8_sweeps 4 (by decide) (Nat.le_of_ble_eq_true rfl) (fun J h hR => ?_)
  show J (X, A) (0, 0) [(0, .ref (ad 0)), (1, .int p1)] 0 []
  refine j_aload_n h dX8_sweeps_0 rfl 0 rfl ?_
  refine j_iload_n h dX8_sweeps_1 rfl 1 rfl ?_
  refine j_callI h (n := 1) (c_X8_isRink l D cy ad _ _ _) (xg_V (xr_20 2 rfl) (xr_20 3 rfl) (xr_20 4 rfl) (xr_1 5 rfl) (xr_20 5 rfl)) rfl rfl (by decide +kernel) ⟨Nat.le_of_ble_eq_true rfl, Nat.le_of_ble_eq_true rfl⟩ 0 rfl rfl rfl rfl rfl (Nat.le_of_ble_eq_true rfl) dX8_sweeps_2 ⟨by decide, by decide⟩ (fun z1 u' hq => ?_)
  obtain ⟨hz1, rfl, bz1⟩ := hq
  refine j_if_ne h (tgt := 10) dX8_sweeps_5 (by decide) (fun c2 => ?_) (fun c2 => ?_)
  · have vp1 : vp_in p1 4 := isRinkM_in hI hz1 c2
    have bp1 : p1.toNatClampNeg < 4 := vp_lt vp1
    have ep1 : p1 = nI p1.toNatClampNeg := vp_nI vp1 (by decide)
    refine j_aload_n h dX8_sweeps_10 rfl 0 rfl ?_
    refine j_iload_n h dX8_sweeps_11 rfl 1 rfl ?_
    refine j_iconst h (v := 3) dX8_sweeps_12 (by decide) ?_
    refine j_callI h (n := 2) (c_X8_ofRink l D cy ad _ _ _ _ (vp_of (j := p1.toNatClampNeg) ep1 (by omega) (by decide)) (vp_in_nI (by decide) (by decide))) (xg_V (xr_16 15 rfl) (xr_16 16 rfl) (xr_16 17 rfl) (xr_1 5 rfl) (xr_16 18 rfl)) rfl rfl (by decide +kernel) ⟨Nat.le_of_ble_eq_true rfl, Nat.le_of_ble_eq_true rfl⟩ 0 rfl rfl rfl rfl rfl (Nat.le_of_ble_eq_true rfl) dX8_sweeps_13 ⟨by decide, by decide⟩ (fun z3 u' hq => ?_)
    obtain ⟨hz3, rfl⟩ := hq
    refine j_istore_n h (lv' := [(2, _), (0, _), (1, _)]) dX8_sweeps_16 rfl (by decide) rfl ?_
    refine j_iload_n h dX8_sweeps_17 rfl 0 rfl ?_
    refine j_if_ne h (tgt := 29) dX8_sweeps_18 (by decide) (fun c4 => ?_) (fun c4 => ?_)
    · refine j_iload_n h dX8_sweeps_29 rfl 0 rfl ?_
      refine j_iconst h (v := 2) dX8_sweeps_30 (by decide) ?_
      refine j_iadd h dX8_sweeps_31 ?_
      refine j_iconst h (v := 3) dX8_sweeps_32 (by decide) ?_
      refine j_idiv h dX8_sweeps_33 (by decide) ?_
      refine j_istore_n h (lv' := [(3, _), (2, _), (0, _), (1, _)]) dX8_sweeps_34 rfl (by decide) rfl ?_
      refine j_aload_n h dX8_sweeps_35 rfl 2 rfl ?_
      refine j_get h inlX8 0 rfl rfl 0 (by decide) (xr_6 7 rfl) rfl (v := .ref (ad 1)) rfl dX8_sweeps_36 ?_
      refine j_bipush h (v := 6) dX8_sweeps_39 (by decide) ?_
      refine j_ialdE h 1 rfl 6 rfl (by decide) (by decide) dX8_sweeps_41 ?_
      refine j_iload_n h dX8_sweeps_42 rfl 0 rfl ?_
      refine j_icmp_ge h (tgt := 62) dX8_sweeps_43 (by decide) (fun c5 => ?_) (fun c5 => ?_)
      · refine j_aload_n h dX8_sweeps_62 rfl 2 rfl ?_
        refine j_get h inlX8 0 rfl rfl 0 (by decide) (xr_6 7 rfl) rfl (v := .ref (ad 1)) rfl dX8_sweeps_63 ?_
        refine j_bipush h (v := 6) dX8_sweeps_66 (by decide) ?_
        refine j_dup2 h dX8_sweeps_68 rfl rfl ?_
        refine j_ialdE h 1 rfl 6 rfl (by decide) (by decide) dX8_sweeps_69 ?_
        refine j_iload_n h dX8_sweeps_70 rfl 0 rfl ?_
        refine j_isub h dX8_sweeps_71 ?_
        refine j_iastE h 1 rfl 6 rfl (by decide) (by decide) dX8_sweeps_72 (u' := (X, up2 A 0 6 ((A 0 6) - ((z3 + 2) / 3)))) rfl ?_
        refine j_aload_n h dX8_sweeps_73 rfl 2 rfl ?_
        refine j_get h inlX8 0 rfl rfl 0 (by decide) (xr_6 7 rfl) rfl (v := .ref (ad 1)) rfl dX8_sweeps_74 ?_
        refine j_bipush h (v := 7) dX8_sweeps_77 (by decide) ?_
        refine j_dup2 h dX8_sweeps_79 rfl rfl ?_
        refine j_ialdE h 1 rfl 7 rfl (by decide) (by decide) dX8_sweeps_80 ?_
        refine j_iload_n h dX8_sweeps_81 rfl 0 rfl ?_
        refine j_iadd h dX8_sweeps_82 ?_
        refine j_iastE h 1 rfl 7 rfl (by decide) (by decide) dX8_sweeps_83 (u' := (X, up2 (up2 A 0 6 ((A 0 6) - ((z3 + 2) / 3))) 0 7 (((up2 A 0 6 ((A 0 6) - ((z3 + 2) / 3))) 0 7) + ((z3 + 2) / 3)))) rfl ?_
        refine j_aload_n h dX8_sweeps_84 rfl 2 rfl ?_
        refine j_get h inlX8 0 rfl rfl 0 (by decide) (xr_6 7 rfl) rfl (v := .ref (ad 1)) rfl dX8_sweeps_85 ?_
        refine j_bipush h (v := 8) dX8_sweeps_88 (by decide) ?_
        refine j_dup2 h dX8_sweeps_90 rfl rfl ?_
        refine j_ialdE h 1 rfl 8 rfl (by decide) (by decide) dX8_sweeps_91 ?_
        refine j_iload_n h dX8_sweeps_92 rfl 1 rfl ?_
        refine j_iadd h dX8_sweeps_93 ?_
        refine j_iastE h 1 rfl 8 rfl (by decide) (by decide) dX8_sweeps_94 (u' := (X, up2 (up2 (up2 A 0 6 ((A 0 6) - ((z3 + 2) / 3))) 0 7 (((up2 A 0 6 ((A 0 6) - ((z3 + 2) / 3))) 0 7) + ((z3 + 2) / 3))) 0 8 (((up2 (up2 A 0 6 ((A 0 6) - ((z3 + 2) / 3))) 0 7 (((up2 A 0 6 ((A 0 6) - ((z3 + 2) / 3))) 0 7) + ((z3 + 2) / 3))) 0 8) + z3))) rfl ?_
        refine j_aload_n h dX8_sweeps_95 rfl 2 rfl ?_
        refine j_iload_n h dX8_sweeps_96 rfl 3 rfl ?_
        refine j_iconst h (v := 3) dX8_sweeps_97 (by decide) ?_
        refine j_iconst h (v := 0) dX8_sweeps_98 (by decide) ?_
        refine j_callV h (n := 3) (c_X8_setsRink l D cy ad _ _ _ _ _ (vp_of (j := p1.toNatClampNeg) ep1 (by omega) (by decide)) (vp_in_nI (by decide) (by decide))) (xg_V (xr_16 19 rfl) (xr_16 20 rfl) (xr_16 21 rfl) (xr_1 5 rfl) (xr_16 22 rfl)) rfl rfl (by decide +kernel) ⟨Nat.le_of_ble_eq_true rfl, Nat.le_of_ble_eq_true rfl⟩ 0 rfl rfl rfl rfl rfl (Nat.le_of_ble_eq_true rfl) dX8_sweeps_99 ⟨by decide, by decide⟩ (fun u' hq => ?_)
        obtain ⟨z6, hz6, rfl⟩ := hq
        have hIz6 : MI z6 := MI_sr (MI_up (MI_up (MI_up hI (by decide) (by decide) (by decide)) (by decide) (by decide) (by decide)) (by decide) (by decide) (by decide)) (vp_of (j := p1.toNatClampNeg) ep1 (by omega) (by decide)) (vp_in_nI (by decide) (by decide)) hz6
        refine j_aload_n h dX8_sweeps_102 rfl 2 rfl ?_
        refine j_iload_n h dX8_sweeps_103 rfl 1 rfl ?_
        refine j_callI h (n := 1) (c_X8_does l D cy ad _ _ _) (xg_V (xr_20 20 rfl) (xr_20 21 rfl) (xr_20 22 rfl) (xr_1 5 rfl) (xr_20 23 rfl)) rfl rfl (by decide +kernel) ⟨Nat.le_of_ble_eq_true rfl, Nat.le_of_ble_eq_true rfl⟩ 0 rfl rfl rfl rfl rfl (Nat.le_of_ble_eq_true rfl) dX8_sweeps_104 ⟨by decide, by decide⟩ (fun r u' hq => ?_)
        obtain ⟨z7, hz7, rfl, rfl⟩ := hq
        exact hR _ _ _ _ dX8_sweeps_107 ⟨(_, _), Eq.symm ((bd_eq hz1 (ite_n c2 (bd_eq hz3 (ite_n c4 (ite_p c5 (bd_eq hz6 (bd_eq hz7 rfl)))))))), rfl, rfl, hIz6, (fun q => absurd q (do_ne hz7)), (FX.tr FX.rf (FX_do hz7))⟩
      · refine j_aload_n h dX8_sweeps_46 rfl 2 rfl ?_
        refine j_bipush h (v := 10) dX8_sweeps_47 (by decide) ?_
        refine j_iload_n h dX8_sweeps_49 rfl 0 rfl ?_
        refine j_aload_n h dX8_sweeps_50 rfl 2 rfl ?_
        refine j_get h inlX8 0 rfl rfl 0 (by decide) (xr_6 7 rfl) rfl (v := .ref (ad 1)) rfl dX8_sweeps_51 ?_
        refine j_bipush h (v := 6) dX8_sweeps_54 (by decide) ?_
        refine j_ialdE h 1 rfl 6 rfl (by decide) (by decide) dX8_sweeps_56 ?_
        refine j_isub h dX8_sweeps_57 ?_
        refine j_callI h (n := 2) (c_X8_refuses l D cy ad _ _ _ _) (xg_V (xr_16 10 rfl) (xr_16 11 rfl) (xr_16 12 rfl) (xr_1 5 rfl) (xr_16 13 rfl)) rfl rfl (by decide +kernel) ⟨Nat.le_of_ble_eq_true rfl, Nat.le_of_ble_eq_true rfl⟩ 0 rfl rfl rfl rfl rfl (Nat.le_of_ble_eq_true rfl) dX8_sweeps_58 ⟨by decide, by decide⟩ (fun r u' hq => ?_)
        obtain ⟨z8, hz8, rfl, rfl⟩ := hq
        have hIz8 : MI z8.2.2 := MI_rf hI hz8
        exact hR _ _ _ _ dX8_sweeps_61 ⟨(_, _), Eq.symm ((bd_eq hz1 (ite_n c2 (bd_eq hz3 (ite_n c4 (ite_n c5 (bd_eq hz8 rfl))))))), rfl, rfl, hIz8, (fun _ => rf_16 hz8), (FX.tr FX.rf (FX_rf hz8))⟩
    · refine j_aload_n h dX8_sweeps_21 rfl 1 rfl ?_
      refine j_bipush h (v := 9) dX8_sweeps_22 (by decide) ?_
      refine j_iload_n h dX8_sweeps_24 rfl 2 rfl ?_
      refine j_callI h (n := 2) (c_X8_refuses l D cy ad _ _ _ _) (xg_V (xr_16 10 rfl) (xr_16 11 rfl) (xr_16 12 rfl) (xr_1 5 rfl) (xr_16 13 rfl)) rfl rfl (by decide +kernel) ⟨Nat.le_of_ble_eq_true rfl, Nat.le_of_ble_eq_true rfl⟩ 0 rfl rfl rfl rfl rfl (Nat.le_of_ble_eq_true rfl) dX8_sweeps_25 ⟨by decide, by decide⟩ (fun r u' hq => ?_)
      obtain ⟨z9, hz9, rfl, rfl⟩ := hq
      have hIz9 : MI z9.2.2 := MI_rf hI hz9
      exact hR _ _ _ _ dX8_sweeps_28 ⟨(_, _), Eq.symm ((bd_eq hz1 (ite_n c2 (bd_eq hz3 (ite_p c4 (bd_eq hz9 rfl)))))), rfl, rfl, hIz9, (fun _ => rf_16 hz9), (FX.tr FX.rf (FX_rf hz9))⟩
  · refine j_iconst h (v := (-1)) dX8_sweeps_8 (by decide) ?_
    exact hR _ _ _ _ dX8_sweeps_9 ⟨(_, _), Eq.symm ((bd_eq hz1 (ite_p c2 rfl))), rfl, rfl, hI, (fun q => absurd q (by decide)), FX.rf⟩

def f_X8_drinks (X : Nat → Int32) (A : Nat → Nat → Int32) (p1 : Int32) : Int32 × (Nat → Int32) × (Nat → Nat → Int32) :=
  bd (f_X8_in X A p1 0 1) fun z1 =>
  if z1 = 0 then
    ((-1), (X, A))
  else
    if (A 0 6) = 0 then
      bd (f_X8_refuses X A 10 1) fun z7 =>
      (z7.1, (z7.2.1, z7.2.2))
    else
      if (A 0 ((9 + (4 * p1.toNatClampNeg)) + 2)) = 0 then
        bd (f_X8_refuses X A 11 p1) fun z6 =>
        (z6.1, (z6.2.1, z6.2.2))
      else
        bd (f_X8_does X (up2 (up2 (up2 (up2 A 0 6 ((A 0 6) - 1)) 0 7 (((up2 A 0 6 ((A 0 6) - 1)) 0 7) + 1)) 0 ((9 + (4 * p1.toNatClampNeg)) + 2) (((up2 (up2 A 0 6 ((A 0 6) - 1)) 0 7 (((up2 A 0 6 ((A 0 6) - 1)) 0 7) + 1)) 0 ((9 + (4 * p1.toNatClampNeg)) + 2)) - 1)) 0 ((9 + (4 * p1.toNatClampNeg)) + 3) (((up2 (up2 (up2 A 0 6 ((A 0 6) - 1)) 0 7 (((up2 A 0 6 ((A 0 6) - 1)) 0 7) + 1)) 0 ((9 + (4 * p1.toNatClampNeg)) + 2) (((up2 (up2 A 0 6 ((A 0 6) - 1)) 0 7 (((up2 A 0 6 ((A 0 6) - 1)) 0 7) + 1)) 0 ((9 + (4 * p1.toNatClampNeg)) + 2)) - 1)) 0 ((9 + (4 * p1.toNatClampNeg)) + 3)) + 1)) ((up2 (up2 (up2 (up2 A 0 6 ((A 0 6) - 1)) 0 7 (((up2 A 0 6 ((A 0 6) - 1)) 0 7) + 1)) 0 ((9 + (4 * p1.toNatClampNeg)) + 2) (((up2 (up2 A 0 6 ((A 0 6) - 1)) 0 7 (((up2 A 0 6 ((A 0 6) - 1)) 0 7) + 1)) 0 ((9 + (4 * p1.toNatClampNeg)) + 2)) - 1)) 0 ((9 + (4 * p1.toNatClampNeg)) + 3) (((up2 (up2 (up2 A 0 6 ((A 0 6) - 1)) 0 7 (((up2 A 0 6 ((A 0 6) - 1)) 0 7) + 1)) 0 ((9 + (4 * p1.toNatClampNeg)) + 2) (((up2 (up2 A 0 6 ((A 0 6) - 1)) 0 7 (((up2 A 0 6 ((A 0 6) - 1)) 0 7) + 1)) 0 ((9 + (4 * p1.toNatClampNeg)) + 2)) - 1)) 0 ((9 + (4 * p1.toNatClampNeg)) + 3)) + 1)) 0 ((9 + (4 * p1.toNatClampNeg)) + 3))) fun z5 =>
        (z5.1, (z5.2, up2 (up2 (up2 (up2 A 0 6 ((A 0 6) - 1)) 0 7 (((up2 A 0 6 ((A 0 6) - 1)) 0 7) + 1)) 0 ((9 + (4 * p1.toNatClampNeg)) + 2) (((up2 (up2 A 0 6 ((A 0 6) - 1)) 0 7 (((up2 A 0 6 ((A 0 6) - 1)) 0 7) + 1)) 0 ((9 + (4 * p1.toNatClampNeg)) + 2)) - 1)) 0 ((9 + (4 * p1.toNatClampNeg)) + 3) (((up2 (up2 (up2 A 0 6 ((A 0 6) - 1)) 0 7 (((up2 A 0 6 ((A 0 6) - 1)) 0 7) + 1)) 0 ((9 + (4 * p1.toNatClampNeg)) + 2) (((up2 (up2 A 0 6 ((A 0 6) - 1)) 0 7 (((up2 A 0 6 ((A 0 6) - 1)) 0 7) + 1)) 0 ((9 + (4 * p1.toNatClampNeg)) + 2)) - 1)) 0 ((9 + (4 * p1.toNatClampNeg)) + 3)) + 1)))
abbrev rm_X8_drinks : Room := { frames := 1, cells := 0, slots := 0, locals := 22 }
set_option maxRecDepth 100000 in
set_option maxHeartbeats 4000000 in
theorem c_X8_drinks (l : Launch) (D : gD) (cy : Nat → ClassId) (ad : Nat → Nat) (X : Nat → Int32) (A : Nat → Nat → Int32) (p1 : Int32) (hI : MI A) : CtI l D cy (MW cy ad) yX8_drinks cX8_drinks 2 (some .int) rm_X8_drinks [.ref (ad 0), .int p1] (X, A) (fun rv u => ∃ z : Int32 × ((Nat → Int32) × (Nat → Nat → Int32)), z = f_X8_drinks X A p1 ∧ rv = z.1 ∧ u = z.2 ∧ MI (z.2.2) ∧ (rv = -3 → vp_in ((z.2.1) 16) 3) ∧ FX X (z.2.1)) 0 0 := by
  refine m_entI cX8_drinks 2 (by decide) (Nat.le_of_ble_eq_true rfl) (fun J h hR => ?_)
  show J (X, A) (0, 0) [(0, .ref (ad 0)), (1, .int p1)] 0 []
  refine j_iload_n h dX8_drinks_0 rfl 1 rfl ?_
  refine j_iconst h (v := 0) dX8_drinks_1 (by decide) ?_
  refine j_iconst h (v := 1) dX8_drinks_2 (by decide) ?_
  refine j_callS h (n := 3) (c_X8_in l D cy ad _ _ _ _ _) (xg_S (xr_12 13 rfl) (xr_12 14 rfl) (xr_1 5 rfl) (xr_12 15 rfl)) rfl rfl (by decide +kernel) ⟨Nat.le_of_ble_eq_true rfl, Nat.le_of_ble_eq_true rfl⟩  rfl rfl (Nat.le_of_ble_eq_true rfl) dX8_drinks_3 ⟨by decide, by decide⟩ (fun z1 u' hq => ?_)
  obtain ⟨hz1, rfl, bz1⟩ := hq
  refine j_if_ne h (tgt := 11) dX8_drinks_6 (by decide) (fun c2 => ?_) (fun c2 => ?_)
  · have vp1 : vp_in p1 2 := inM_2 hz1 c2
    have bp1 : p1.toNatClampNeg < 2 := vp_lt vp1
    have ep1 : p1 = nI p1.toNatClampNeg := vp_nI vp1 (by decide)
    refine j_aload_n h dX8_drinks_11 rfl 0 rfl ?_
    refine j_get h inlX8 0 rfl rfl 0 (by decide) (xr_6 7 rfl) rfl (v := .ref (ad 1)) rfl dX8_drinks_12 ?_
    refine j_bipush h (v := 6) dX8_drinks_15 (by decide) ?_
    refine j_ialdE h 1 rfl 6 rfl (by decide) (by decide) dX8_drinks_17 ?_
    refine j_if_ne h (tgt := 29) dX8_drinks_18 (by decide) (fun c3 => ?_) (fun c3 => ?_)
    · refine j_aload_n h dX8_drinks_29 rfl 0 rfl ?_
      refine j_get h inlX8 0 rfl rfl 0 (by decide) (xr_6 7 rfl) rfl (v := .ref (ad 1)) rfl dX8_drinks_30 ?_
      refine j_bipush h (v := 9) dX8_drinks_33 (by decide) ?_
      refine j_iconst h (v := 4) dX8_drinks_35 (by decide) ?_
      refine j_iload_n h dX8_drinks_36 rfl 1 rfl ?_
      refine j_imul h dX8_drinks_37 ?_
      refine j_iadd h dX8_drinks_38 ?_
      refine j_iconst h (v := 2) dX8_drinks_39 (by decide) ?_
      refine j_iadd h dX8_drinks_40 ?_
      refine j_ialdE h 1 rfl ((9 + (4 * p1.toNatClampNeg)) + 2) (nx_add (nx_add rfl (nx_mul rfl ep1)) rfl) (by omega) (by decide) dX8_drinks_41 ?_
      refine j_if_ne h (tgt := 53) dX8_drinks_42 (by decide) (fun c4 => ?_) (fun c4 => ?_)
      · refine j_aload_n h dX8_drinks_53 rfl 0 rfl ?_
        refine j_get h inlX8 0 rfl rfl 0 (by decide) (xr_6 7 rfl) rfl (v := .ref (ad 1)) rfl dX8_drinks_54 ?_
        refine j_bipush h (v := 6) dX8_drinks_57 (by decide) ?_
        refine j_dup2 h dX8_drinks_59 rfl rfl ?_
        refine j_ialdE h 1 rfl 6 rfl (by decide) (by decide) dX8_drinks_60 ?_
        refine j_iconst h (v := 1) dX8_drinks_61 (by decide) ?_
        refine j_isub h dX8_drinks_62 ?_
        refine j_iastE h 1 rfl 6 rfl (by decide) (by decide) dX8_drinks_63 (u' := (X, up2 A 0 6 ((A 0 6) - 1))) rfl ?_
        refine j_aload_n h dX8_drinks_64 rfl 0 rfl ?_
        refine j_get h inlX8 0 rfl rfl 0 (by decide) (xr_6 7 rfl) rfl (v := .ref (ad 1)) rfl dX8_drinks_65 ?_
        refine j_bipush h (v := 7) dX8_drinks_68 (by decide) ?_
        refine j_dup2 h dX8_drinks_70 rfl rfl ?_
        refine j_ialdE h 1 rfl 7 rfl (by decide) (by decide) dX8_drinks_71 ?_
        refine j_iconst h (v := 1) dX8_drinks_72 (by decide) ?_
        refine j_iadd h dX8_drinks_73 ?_
        refine j_iastE h 1 rfl 7 rfl (by decide) (by decide) dX8_drinks_74 (u' := (X, up2 (up2 A 0 6 ((A 0 6) - 1)) 0 7 (((up2 A 0 6 ((A 0 6) - 1)) 0 7) + 1))) rfl ?_
        refine j_aload_n h dX8_drinks_75 rfl 0 rfl ?_
        refine j_get h inlX8 0 rfl rfl 0 (by decide) (xr_6 7 rfl) rfl (v := .ref (ad 1)) rfl dX8_drinks_76 ?_
        refine j_bipush h (v := 9) dX8_drinks_79 (by decide) ?_
        refine j_iconst h (v := 4) dX8_drinks_81 (by decide) ?_
        refine j_iload_n h dX8_drinks_82 rfl 1 rfl ?_
        refine j_imul h dX8_drinks_83 ?_
        refine j_iadd h dX8_drinks_84 ?_
        refine j_iconst h (v := 2) dX8_drinks_85 (by decide) ?_
        refine j_iadd h dX8_drinks_86 ?_
        refine j_dup2 h dX8_drinks_87 rfl rfl ?_
        refine j_ialdE h 1 rfl ((9 + (4 * p1.toNatClampNeg)) + 2) (nx_add (nx_add rfl (nx_mul rfl ep1)) rfl) (by omega) (by decide) dX8_drinks_88 ?_
        refine j_iconst h (v := 1) dX8_drinks_89 (by decide) ?_
        refine j_isub h dX8_drinks_90 ?_
        refine j_iastE h 1 rfl ((9 + (4 * p1.toNatClampNeg)) + 2) (nx_add (nx_add rfl (nx_mul rfl ep1)) rfl) (by omega) (by decide) dX8_drinks_91 (u' := (X, up2 (up2 (up2 A 0 6 ((A 0 6) - 1)) 0 7 (((up2 A 0 6 ((A 0 6) - 1)) 0 7) + 1)) 0 ((9 + (4 * p1.toNatClampNeg)) + 2) (((up2 (up2 A 0 6 ((A 0 6) - 1)) 0 7 (((up2 A 0 6 ((A 0 6) - 1)) 0 7) + 1)) 0 ((9 + (4 * p1.toNatClampNeg)) + 2)) - 1))) rfl ?_
        refine j_aload_n h dX8_drinks_92 rfl 0 rfl ?_
        refine j_get h inlX8 0 rfl rfl 0 (by decide) (xr_6 7 rfl) rfl (v := .ref (ad 1)) rfl dX8_drinks_93 ?_
        refine j_bipush h (v := 9) dX8_drinks_96 (by decide) ?_
        refine j_iconst h (v := 4) dX8_drinks_98 (by decide) ?_
        refine j_iload_n h dX8_drinks_99 rfl 1 rfl ?_
        refine j_imul h dX8_drinks_100 ?_
        refine j_iadd h dX8_drinks_101 ?_
        refine j_iconst h (v := 3) dX8_drinks_102 (by decide) ?_
        refine j_iadd h dX8_drinks_103 ?_
        refine j_dup2 h dX8_drinks_104 rfl rfl ?_
        refine j_ialdE h 1 rfl ((9 + (4 * p1.toNatClampNeg)) + 3) (nx_add (nx_add rfl (nx_mul rfl ep1)) rfl) (by omega) (by decide) dX8_drinks_105 ?_
        refine j_iconst h (v := 1) dX8_drinks_106 (by decide) ?_
        refine j_iadd h dX8_drinks_107 ?_
        refine j_iastE h 1 rfl ((9 + (4 * p1.toNatClampNeg)) + 3) (nx_add (nx_add rfl (nx_mul rfl ep1)) rfl) (by omega) (by decide) dX8_drinks_108 (u' := (X, up2 (up2 (up2 (up2 A 0 6 ((A 0 6) - 1)) 0 7 (((up2 A 0 6 ((A 0 6) - 1)) 0 7) + 1)) 0 ((9 + (4 * p1.toNatClampNeg)) + 2) (((up2 (up2 A 0 6 ((A 0 6) - 1)) 0 7 (((up2 A 0 6 ((A 0 6) - 1)) 0 7) + 1)) 0 ((9 + (4 * p1.toNatClampNeg)) + 2)) - 1)) 0 ((9 + (4 * p1.toNatClampNeg)) + 3) (((up2 (up2 (up2 A 0 6 ((A 0 6) - 1)) 0 7 (((up2 A 0 6 ((A 0 6) - 1)) 0 7) + 1)) 0 ((9 + (4 * p1.toNatClampNeg)) + 2) (((up2 (up2 A 0 6 ((A 0 6) - 1)) 0 7 (((up2 A 0 6 ((A 0 6) - 1)) 0 7) + 1)) 0 ((9 + (4 * p1.toNatClampNeg)) + 2)) - 1)) 0 ((9 + (4 * p1.toNatClampNeg)) + 3)) + 1))) rfl ?_
        refine j_aload_n h dX8_drinks_109 rfl 0 rfl ?_
        refine j_aload_n h dX8_drinks_110 rfl 0 rfl ?_
        refine j_get h inlX8 0 rfl rfl 0 (by decide) (xr_6 7 rfl) rfl (v := .ref (ad 1)) rfl dX8_drinks_111 ?_
        refine j_bipush h (v := 9) dX8_drinks_114 (by decide) ?_
        refine j_iconst h (v := 4) dX8_drinks_116 (by decide) ?_
        refine j_iload_n h dX8_drinks_117 rfl 1 rfl ?_
        refine j_imul h dX8_drinks_118 ?_
        refine j_iadd h dX8_drinks_119 ?_
        refine j_iconst h (v := 3) dX8_drinks_120 (by decide) ?_
        refine j_iadd h dX8_drinks_121 ?_
        refine j_ialdE h 1 rfl ((9 + (4 * p1.toNatClampNeg)) + 3) (nx_add (nx_add rfl (nx_mul rfl ep1)) rfl) (by omega) (by decide) dX8_drinks_122 ?_
        refine j_callI h (n := 1) (c_X8_does l D cy ad _ _ _) (xg_V (xr_20 20 rfl) (xr_20 21 rfl) (xr_20 22 rfl) (xr_1 5 rfl) (xr_20 23 rfl)) rfl rfl (by decide +kernel) ⟨Nat.le_of_ble_eq_true rfl, Nat.le_of_ble_eq_true rfl⟩ 0 rfl rfl rfl rfl rfl (Nat.le_of_ble_eq_true rfl) dX8_drinks_123 ⟨by decide, by decide⟩ (fun r u' hq => ?_)
        obtain ⟨z5, hz5, rfl, rfl⟩ := hq
        exact hR _ _ _ _ dX8_drinks_126 ⟨(_, _), Eq.symm ((bd_eq hz1 (ite_n c2 (ite_n c3 (ite_n c4 (bd_eq hz5 rfl)))))), rfl, rfl, (MI_up (MI_up (MI_up (MI_up hI (by decide) (by decide) (by decide)) (by decide) (by decide) (by decide)) (by omega) (by omega) (by omega)) (by omega) (by omega) (by omega)), (fun q => absurd q (do_ne hz5)), (FX.tr FX.rf (FX_do hz5))⟩
      · refine j_aload_n h dX8_drinks_45 rfl 0 rfl ?_
        refine j_bipush h (v := 11) dX8_drinks_46 (by decide) ?_
        refine j_iload_n h dX8_drinks_48 rfl 1 rfl ?_
        refine j_callI h (n := 2) (c_X8_refuses l D cy ad _ _ _ _) (xg_V (xr_16 10 rfl) (xr_16 11 rfl) (xr_16 12 rfl) (xr_1 5 rfl) (xr_16 13 rfl)) rfl rfl (by decide +kernel) ⟨Nat.le_of_ble_eq_true rfl, Nat.le_of_ble_eq_true rfl⟩ 0 rfl rfl rfl rfl rfl (Nat.le_of_ble_eq_true rfl) dX8_drinks_49 ⟨by decide, by decide⟩ (fun r u' hq => ?_)
        obtain ⟨z6, hz6, rfl, rfl⟩ := hq
        have hIz6 : MI z6.2.2 := MI_rf hI hz6
        exact hR _ _ _ _ dX8_drinks_52 ⟨(_, _), Eq.symm ((bd_eq hz1 (ite_n c2 (ite_n c3 (ite_p c4 (bd_eq hz6 rfl)))))), rfl, rfl, hIz6, (fun _ => rf_16 hz6), (FX.tr FX.rf (FX_rf hz6))⟩
    · refine j_aload_n h dX8_drinks_21 rfl 0 rfl ?_
      refine j_bipush h (v := 10) dX8_drinks_22 (by decide) ?_
      refine j_iconst h (v := 1) dX8_drinks_24 (by decide) ?_
      refine j_callI h (n := 2) (c_X8_refuses l D cy ad _ _ _ _) (xg_V (xr_16 10 rfl) (xr_16 11 rfl) (xr_16 12 rfl) (xr_1 5 rfl) (xr_16 13 rfl)) rfl rfl (by decide +kernel) ⟨Nat.le_of_ble_eq_true rfl, Nat.le_of_ble_eq_true rfl⟩ 0 rfl rfl rfl rfl rfl (Nat.le_of_ble_eq_true rfl) dX8_drinks_25 ⟨by decide, by decide⟩ (fun r u' hq => ?_)
      obtain ⟨z7, hz7, rfl, rfl⟩ := hq
      have hIz7 : MI z7.2.2 := MI_rf hI hz7
      exact hR _ _ _ _ dX8_drinks_28 ⟨(_, _), Eq.symm ((bd_eq hz1 (ite_n c2 (ite_p c3 (bd_eq hz7 rfl))))), rfl, rfl, hIz7, (fun _ => rf_16 hz7), (FX.tr FX.rf (FX_rf hz7))⟩
  · refine j_iconst h (v := (-1)) dX8_drinks_9 (by decide) ?_
    exact hR _ _ _ _ dX8_drinks_10 ⟨(_, _), Eq.symm ((bd_eq hz1 (ite_p c2 rfl))), rfl, rfl, hI, (fun q => absurd q (by decide)), FX.rf⟩

def f_X8_passes_l22 (X : Nat → Int32) (p1 : Int32) (k : Nat) : Nat → Nat → (Nat → Nat → Int32) → (Nat → Nat → Int32)
  | 0, _, Aj => Aj
  | n + 1, j, Aj =>
    if (Aj 0 3) ≤ (nI j) then
      Aj
    else
      bd (f_X8_ofRink X Aj (nI j) 2) fun z5 =>
      bd (f_X8_changed X Aj z5) fun z6 =>
      bd (f_X8_setsRink X Aj (nI j) 2 z6) fun z7 =>
      bd (f_X8_ofRink X z7 (nI j) 2) fun z8 =>
      bd (f_X8_ofRink X z7 (nI j) 3) fun z9 =>
      bd (f_X8_castsAfter X z7 (nI j) z8 z9) fun z10 =>
      bd (f_X8_setsRink X z7 (nI j) 3 z10) fun z11 =>
      f_X8_passes_l22 X p1 k n (j + 1) z11
def f_X8_passes_l15 (X : Nat → Int32) (p1 : Int32) : Nat → Nat → (Nat → Nat → Int32) → (Nat → Nat → Int32)
  | 0, _, Ak => Ak
  | n + 1, k, Ak =>
    if p1 ≤ (nI k) then
      Ak
    else
      bd (f_X8_passes_l22 X p1 k 5 0 Ak) fun z12 =>
      f_X8_passes_l15 X p1 n (k + 1) (up2 z12 0 0 ((z12 0 0) + 1))
def f_X8_passes (X : Nat → Int32) (A : Nat → Nat → Int32) (p1 : Int32) : Int32 × (Nat → Int32) × (Nat → Nat → Int32) :=
  bd (f_X8_in X A p1 1 24) fun z1 =>
  if z1 = 0 then
    ((-2), (X, A))
  else
    bd (f_X8_passes_l15 X p1 25 0 A) fun z13 =>
    bd (f_X8_allCasts X z13) fun z14 =>
    bd (f_X8_does X z13 z14) fun z15 =>
    (z15.1, (z15.2, z13))
abbrev rm_X8_passes : Room := { frames := 2, cells := 0, slots := 0, locals := 45 }
set_option maxRecDepth 100000 in
set_option maxHeartbeats 4000000 in
theorem c_X8_passes (l : Launch) (D : gD) (cy : Nat → ClassId) (ad : Nat → Nat) (X : Nat → Int32) (A : Nat → Nat → Int32) (p1 : Int32) (hI : MI A) : CtI l D cy (MW cy ad) yX8_passes cX8_passes 4 (some .int) rm_X8_passes [.ref (ad 0), .int p1] (X, A) (fun rv u => ∃ z : Int32 × ((Nat → Int32) × (Nat → Nat → Int32)), z = f_X8_passes X A p1 ∧ rv = z.1 ∧ u = z.2 ∧ MI (z.2.2) ∧ (rv = -3 → vp_in ((z.2.1) 16) 3) ∧ FX X (z.2.1)) 0 0 := by
  refine m_entI cX8_passes 4 (by decide) (Nat.le_of_ble_eq_true rfl) (fun J h hR => ?_)
  show J (X, A) (0, 0) [(0, .ref (ad 0)), (1, .int p1)] 0 []
  refine j_iload_n h dX8_passes_0 rfl 1 rfl ?_
  refine j_iconst h (v := 1) dX8_passes_1 (by decide) ?_
  refine j_bipush h (v := 24) dX8_passes_2 (by decide) ?_
  refine j_callS h (n := 3) (c_X8_in l D cy ad _ _ _ _ _) (xg_S (xr_12 13 rfl) (xr_12 14 rfl) (xr_1 5 rfl) (xr_12 15 rfl)) rfl rfl (by decide +kernel) ⟨Nat.le_of_ble_eq_true rfl, Nat.le_of_ble_eq_true rfl⟩  rfl rfl (Nat.le_of_ble_eq_true rfl) dX8_passes_4 ⟨by decide, by decide⟩ (fun z1 u' hq => ?_)
  obtain ⟨hz1, rfl, bz1⟩ := hq
  refine j_if_ne h (tgt := 13) dX8_passes_7 (by decide) (fun c2 => ?_) (fun c2 => ?_)
  · have hh : p1 ≤ nI 24 := inM_le hz1 c2
    refine j_iconst h (v := 0) dX8_passes_13 (by decide) ?_
    refine j_istore_n h (lv' := [(2, _), (0, _), (1, _)]) dX8_passes_14 rfl (by decide) rfl ?_
    have lp15 : ∀ (n k : Nat) (Ak : Nat → Nat → Int32), n + k = 25 → k ≤ 24 → MI Ak → (∀ z : (Nat → Nat → Int32), z = f_X8_passes_l15 X p1 n k Ak → MI z → J (X, z) (0, 0) [(0, .ref (ad 0)), (1, .int p1)] 93 []) → J (X, Ak) (0, 0) [(0, .ref (ad 0)), (1, .int p1), (2, .int (nI k))] 15 [] := by
      intro n
      induction n with
      | zero => intro k Ak hn hk hMk hf; omega
      | succ n ih =>
        intro k Ak hn hk hMk hf
        refine j_iload_n h dX8_passes_15 rfl 2 rfl ?_
        refine j_iload_n h dX8_passes_16 rfl 1 rfl ?_
        refine j_icmp_ge h (tgt := 93) dX8_passes_17 (by decide) (fun c3 => ?_) (fun c3 => ?_)
        · refine j_sub h [0, 1] rfl ?_
          exact hf _ (Eq.symm ((ite_p c3 rfl))) hMk
        · have hk1 : k < 24 := cnt_lt (by decide) hk hh c3
          refine j_iconst h (v := 0) dX8_passes_20 (by decide) ?_
          refine j_istore_n h (lv' := [(3, _), (0, _), (1, _), (2, _)]) dX8_passes_21 rfl (by decide) rfl ?_
          have lp22 : ∀ (n j : Nat) (Aj : Nat → Nat → Int32), n + j = 5 → j ≤ 4 → MI Aj → (∀ z : (Nat → Nat → Int32), z = f_X8_passes_l22 X p1 k n j Aj → MI z → J (X, z) (0, 0) [(0, .ref (ad 0)), (1, .int p1), (2, .int (nI k))] 77 []) → J (X, Aj) (0, 0) [(0, .ref (ad 0)), (1, .int p1), (2, .int (nI k)), (3, .int (nI j))] 22 [] := by
            intro n
            induction n with
            | zero => intro j Aj hn hkj hMj hf; omega
            | succ n ih =>
              intro j Aj hn hkj hMj hf
              refine j_iload_n h dX8_passes_22 rfl 3 rfl ?_
              refine j_aload_n h dX8_passes_23 rfl 0 rfl ?_
              refine j_get h inlX8 0 rfl rfl 0 (by decide) (xr_6 7 rfl) rfl (v := .ref (ad 1)) rfl dX8_passes_24 ?_
              refine j_iconst h (v := 3) dX8_passes_27 (by decide) ?_
              refine j_ialdE h 1 rfl 3 rfl (by decide) (by decide) dX8_passes_28 ?_
              refine j_icmp_ge h (tgt := 77) dX8_passes_29 (by decide) (fun c4 => ?_) (fun c4 => ?_)
              · refine j_sub h [0, 1, 2] rfl ?_
                exact hf _ (Eq.symm ((ite_p c4 rfl))) hMj
              · have hj1 : j < 4 := cnt_lt (by decide) hkj hMj.r c4
                refine j_aload_n h dX8_passes_32 rfl 0 rfl ?_
                refine j_iload_n h dX8_passes_33 rfl 3 rfl ?_
                refine j_iconst h (v := 2) dX8_passes_34 (by decide) ?_
                refine j_aload_n h dX8_passes_35 rfl 0 rfl ?_
                refine j_aload_n h dX8_passes_36 rfl 0 rfl ?_
                refine j_iload_n h dX8_passes_37 rfl 3 rfl ?_
                refine j_iconst h (v := 2) dX8_passes_38 (by decide) ?_
                refine j_callI h (n := 2) (c_X8_ofRink l D cy ad _ _ _ _ (vp_in_nI (by omega) (by decide)) (vp_in_nI (by decide) (by decide))) (xg_V (xr_16 15 rfl) (xr_16 16 rfl) (xr_16 17 rfl) (xr_1 5 rfl) (xr_16 18 rfl)) rfl rfl (by decide +kernel) ⟨Nat.le_of_ble_eq_true rfl, Nat.le_of_ble_eq_true rfl⟩ 0 rfl rfl rfl rfl rfl (Nat.le_of_ble_eq_true rfl) dX8_passes_39 ⟨by decide, by decide⟩ (fun z5 u' hq => ?_)
                obtain ⟨hz5, rfl⟩ := hq
                refine j_callI h (n := 1) (c_X8_changed l D cy ad _ _ _) (xg_V (xr_20 10 rfl) (xr_20 11 rfl) (xr_20 12 rfl) (xr_1 5 rfl) (xr_20 13 rfl)) rfl rfl (by decide +kernel) ⟨Nat.le_of_ble_eq_true rfl, Nat.le_of_ble_eq_true rfl⟩ 0 rfl rfl rfl rfl rfl (Nat.le_of_ble_eq_true rfl) dX8_passes_42 ⟨by decide, by decide⟩ (fun z6 u' hq => ?_)
                obtain ⟨hz6, rfl⟩ := hq
                refine j_callV h (n := 3) (c_X8_setsRink l D cy ad _ _ _ _ _ (vp_in_nI (by omega) (by decide)) (vp_in_nI (by decide) (by decide))) (xg_V (xr_16 19 rfl) (xr_16 20 rfl) (xr_16 21 rfl) (xr_1 5 rfl) (xr_16 22 rfl)) rfl rfl (by decide +kernel) ⟨Nat.le_of_ble_eq_true rfl, Nat.le_of_ble_eq_true rfl⟩ 0 rfl rfl rfl rfl rfl (Nat.le_of_ble_eq_true rfl) dX8_passes_45 ⟨by decide, by decide⟩ (fun u' hq => ?_)
                obtain ⟨z7, hz7, rfl⟩ := hq
                have hIz7 : MI z7 := MI_sr hMj (vp_in_nI (by omega) (by decide)) (vp_in_nI (by decide) (by decide)) hz7
                refine j_aload_n h dX8_passes_48 rfl 0 rfl ?_
                refine j_iload_n h dX8_passes_49 rfl 3 rfl ?_
                refine j_iconst h (v := 3) dX8_passes_50 (by decide) ?_
                refine j_aload_n h dX8_passes_51 rfl 0 rfl ?_
                refine j_iload_n h dX8_passes_52 rfl 3 rfl ?_
                refine j_aload_n h dX8_passes_53 rfl 0 rfl ?_
                refine j_iload_n h dX8_passes_54 rfl 3 rfl ?_
                refine j_iconst h (v := 2) dX8_passes_55 (by decide) ?_
                refine j_callI h (n := 2) (c_X8_ofRink l D cy ad _ _ _ _ (vp_in_nI (by omega) (by decide)) (vp_in_nI (by decide) (by decide))) (xg_V (xr_16 15 rfl) (xr_16 16 rfl) (xr_16 17 rfl) (xr_1 5 rfl) (xr_16 18 rfl)) rfl rfl (by decide +kernel) ⟨Nat.le_of_ble_eq_true rfl, Nat.le_of_ble_eq_true rfl⟩ 0 rfl rfl rfl rfl rfl (Nat.le_of_ble_eq_true rfl) dX8_passes_56 ⟨by decide, by decide⟩ (fun z8 u' hq => ?_)
                obtain ⟨hz8, rfl⟩ := hq
                refine j_aload_n h dX8_passes_59 rfl 0 rfl ?_
                refine j_iload_n h dX8_passes_60 rfl 3 rfl ?_
                refine j_iconst h (v := 3) dX8_passes_61 (by decide) ?_
                refine j_callI h (n := 2) (c_X8_ofRink l D cy ad _ _ _ _ (vp_in_nI (by omega) (by decide)) (vp_in_nI (by decide) (by decide))) (xg_V (xr_16 15 rfl) (xr_16 16 rfl) (xr_16 17 rfl) (xr_1 5 rfl) (xr_16 18 rfl)) rfl rfl (by decide +kernel) ⟨Nat.le_of_ble_eq_true rfl, Nat.le_of_ble_eq_true rfl⟩ 0 rfl rfl rfl rfl rfl (Nat.le_of_ble_eq_true rfl) dX8_passes_62 ⟨by decide, by decide⟩ (fun z9 u' hq => ?_)
                obtain ⟨hz9, rfl⟩ := hq
                refine j_callI h (n := 3) (c_X8_castsAfter l D cy ad _ _ _ _ _ (vp_in_nI (by omega) (by decide))) (xg_V (xr_32 11 rfl) (xr_32 12 rfl) (xr_32 13 rfl) (xr_1 5 rfl) (xr_32 14 rfl)) rfl rfl (by decide +kernel) ⟨Nat.le_of_ble_eq_true rfl, Nat.le_of_ble_eq_true rfl⟩ 0 rfl rfl rfl rfl rfl (Nat.le_of_ble_eq_true rfl) dX8_passes_65 ⟨by decide, by decide⟩ (fun z10 u' hq => ?_)
                obtain ⟨hz10, rfl⟩ := hq
                refine j_callV h (n := 3) (c_X8_setsRink l D cy ad _ _ _ _ _ (vp_in_nI (by omega) (by decide)) (vp_in_nI (by decide) (by decide))) (xg_V (xr_16 19 rfl) (xr_16 20 rfl) (xr_16 21 rfl) (xr_1 5 rfl) (xr_16 22 rfl)) rfl rfl (by decide +kernel) ⟨Nat.le_of_ble_eq_true rfl, Nat.le_of_ble_eq_true rfl⟩ 0 rfl rfl rfl rfl rfl (Nat.le_of_ble_eq_true rfl) dX8_passes_68 ⟨by decide, by decide⟩ (fun u' hq => ?_)
                obtain ⟨z11, hz11, rfl⟩ := hq
                have hIz11 : MI z11 := MI_sr hIz7 (vp_in_nI (by omega) (by decide)) (vp_in_nI (by decide) (by decide)) hz11
                refine j_iinc h (v := nI (j + 1)) (lv' := [(3, _), (0, _), (1, _), (2, _)]) dX8_passes_71 (k := 3) rfl (nI_1 j) (by decide) rfl ?_
                refine j_goto h (tgt := 22) dX8_passes_74 (by decide) ?_
                refine j_sub h [1, 2, 3, 0] rfl ?_
                exact ih (j + 1) _ (by omega) (by omega) hIz11 (fun z hz hp => hf z (hz.trans (Eq.symm ((ite_n c4 (bd_eq hz5 (bd_eq hz6 (bd_eq hz7 (bd_eq hz8 (bd_eq hz9 (bd_eq hz10 (bd_eq hz11 rfl))))))))))) hp)
          refine j_sub h [1, 2, 3, 0] rfl ?_
          refine lp22 5 0 _ (by omega) (by omega) hMk (fun z12 hz12 hpz12 => ?_)
          refine j_aload_n h dX8_passes_77 rfl 0 rfl ?_
          refine j_get h inlX8 0 rfl rfl 0 (by decide) (xr_6 7 rfl) rfl (v := .ref (ad 1)) rfl dX8_passes_78 ?_
          refine j_iconst h (v := 0) dX8_passes_81 (by decide) ?_
          refine j_dup2 h dX8_passes_82 rfl rfl ?_
          refine j_ialdE h 1 rfl 0 rfl (by decide) (by decide) dX8_passes_83 ?_
          refine j_iconst h (v := 1) dX8_passes_84 (by decide) ?_
          refine j_iadd h dX8_passes_85 ?_
          refine j_iastE h 1 rfl 0 rfl (by decide) (by decide) dX8_passes_86 (u' := (X, up2 z12 0 0 ((z12 0 0) + 1))) rfl ?_
          refine j_iinc h (v := nI (k + 1)) (lv' := [(2, _), (0, _), (1, _)]) dX8_passes_87 (k := 2) rfl (nI_1 k) (by decide) rfl ?_
          refine j_goto h (tgt := 15) dX8_passes_90 (by decide) ?_
          refine j_sub h [1, 2, 0] rfl ?_
          exact ih (k + 1) _ (by omega) (by omega) (MI_up hpz12 (by decide) (by decide) (by decide)) (fun z hz hp => hf z (hz.trans (Eq.symm ((ite_n c3 (bd_eq hz12 rfl))))) hp)
    refine j_sub h [1, 2, 0] rfl ?_
    refine lp15 25 0 _ (by omega) (by omega) hI (fun z13 hz13 hpz13 => ?_)
    refine j_aload_n h dX8_passes_93 rfl 0 rfl ?_
    refine j_aload_n h dX8_passes_94 rfl 0 rfl ?_
    refine j_callI h (n := 0) (c_X8_allCasts l D cy ad _ _ hpz13) (xg_V (xr_32 15 rfl) (xr_32 16 rfl) (xr_32 17 rfl) (xr_1 5 rfl) (xr_32 18 rfl)) rfl rfl (by decide +kernel) ⟨Nat.le_of_ble_eq_true rfl, Nat.le_of_ble_eq_true rfl⟩ 0 rfl rfl rfl rfl rfl (Nat.le_of_ble_eq_true rfl) dX8_passes_95 ⟨by decide, by decide⟩ (fun z14 u' hq => ?_)
    obtain ⟨hz14, rfl⟩ := hq
    refine j_callI h (n := 1) (c_X8_does l D cy ad _ _ _) (xg_V (xr_20 20 rfl) (xr_20 21 rfl) (xr_20 22 rfl) (xr_1 5 rfl) (xr_20 23 rfl)) rfl rfl (by decide +kernel) ⟨Nat.le_of_ble_eq_true rfl, Nat.le_of_ble_eq_true rfl⟩ 0 rfl rfl rfl rfl rfl (Nat.le_of_ble_eq_true rfl) dX8_passes_98 ⟨by decide, by decide⟩ (fun r u' hq => ?_)
    obtain ⟨z15, hz15, rfl, rfl⟩ := hq
    exact hR _ _ _ _ dX8_passes_101 ⟨(_, _), Eq.symm ((bd_eq hz1 (ite_n c2 (bd_eq hz13 (bd_eq hz14 (bd_eq hz15 rfl)))))), rfl, rfl, hpz13, (fun q => absurd q (do_ne hz15)), (FX.tr FX.rf (FX_do hz15))⟩
  · refine j_bipush h (v := (-2)) dX8_passes_10 (by decide) ?_
    exact hR _ _ _ _ dX8_passes_12 ⟨(_, _), Eq.symm ((bd_eq hz1 (ite_p c2 rfl))), rfl, rfl, hI, (fun q => absurd q (by decide)), FX.rf⟩
