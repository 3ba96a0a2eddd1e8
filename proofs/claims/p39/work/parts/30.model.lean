/-! ===== pure functions (another reading of the same rules), by which what the class holds is said ===== -/
def f_X8_in (X : Nat → Int32) (A : Nat → Nat → Int32) (p1 : Int32) (p2 : Int32) (p3 : Int32) : Int32 :=
  if p1 < p2 then
    0
  else
    if p3 < p1 then
      0
    else
      1
def f_X8_isRink (X : Nat → Int32) (A : Nat → Nat → Int32) (p1 : Int32) : Int32 :=
  bd (f_X8_in X A p1 0 ((A 0 3) - 1)) fun z1 =>
  z1
def f_X8_isWood (X : Nat → Int32) (A : Nat → Nat → Int32) (p1 : Int32) : Int32 :=
  bd (f_X8_in X A p1 0 ((A 0 4) - 1)) fun z1 =>
  z1
def f_X8_ofRink (X : Nat → Int32) (A : Nat → Nat → Int32) (p1 : Int32) (p2 : Int32) : Int32 :=
  (A 0 ((17 + (10 * p1.toNatClampNeg)) + p2.toNatClampNeg))
def f_X8_ofWood (X : Nat → Int32) (A : Nat → Nat → Int32) (p1 : Int32) (p2 : Int32) : Int32 :=
  (A 0 ((57 + (7 * p1.toNatClampNeg)) + p2.toNatClampNeg))
def f_X8_setsRink (X : Nat → Int32) (A : Nat → Nat → Int32) (p1 : Int32) (p2 : Int32) (p3 : Int32) : (Nat → Nat → Int32) :=
  (up2 A 0 ((17 + (10 * p1.toNatClampNeg)) + p2.toNatClampNeg) p3)
def f_X8_setsWood (X : Nat → Int32) (A : Nat → Nat → Int32) (p1 : Int32) (p2 : Int32) (p3 : Int32) : (Nat → Nat → Int32) :=
  (up2 A 0 ((57 + (7 * p1.toNatClampNeg)) + p2.toNatClampNeg) p3)
/-- what keeps the reference's indices in range: how many rinks and woods there are; the rinks and clubs of woods; the text's characters -/
def MI (A : Nat → Nat → Int32) : Prop := vp_in (A 0 3) 5 ∧ vp_in (A 0 4) 17 ∧ (∀ w, w < 16 → vp_in (A 0 (57 + 7 * w + 3)) 4) ∧ (∀ w, w < 16 → vp_in (A 0 (57 + 7 * w + 0)) 2) ∧ (∀ j, j < 60 → ∃ q : Nat, q < 128 ∧ A 5 j = nI q)
theorem MI.r {A : Nat → Nat → Int32} (h : MI A) : A 0 3 ≤ nI 4 := by
  obtain ⟨j, hj, e⟩ := vp_in_of h.1 (by decide)
  rw [e]; exact nI_le (by omega) (by decide)
theorem MI.w {A : Nat → Nat → Int32} (h : MI A) : A 0 4 ≤ nI 16 := by
  obtain ⟨j, hj, e⟩ := vp_in_of h.2.1 (by decide)
  rw [e]; exact nI_le (by omega) (by decide)
theorem inM_in {X : Nat → Int32} {A : Nat → Nat → Int32} {p z c : Int32} {N : Nat} (hN : N < 2 ^ 30) (hc : vp_in c (N + 1)) (hz : z = f_X8_in X A p 0 (c - 1)) (h : ¬ z = 0) : vp_in p N := by
  obtain ⟨j, hj, rfl⟩ := vp_in_of hc (by omega)
  unfold f_X8_in at hz
  split at hz
  · exact absurd hz h
  · split at hz
    · exact absurd hz h
    · rename_i h1 h2
      obtain ⟨i, hi, rfl⟩ := nI_of h1
      refine vp_in_nI ?_ (by omega)
      cases j with
      | zero =>
        exfalso
        refine h2 (Int32.lt_iff_toInt_lt.mpr ?_)
        rw [nI_toInt hi, show (nI 0 - 1).toInt = -1 by decide]
        omega
      | succ j =>
        rw [nI_pred] at h2
        have h3 : ¬ j < i := fun hq => h2 ((nI_ltI (by omega) hi).mpr hq)
        omega
theorem isRinkM_in {X : Nat → Int32} {A : Nat → Nat → Int32} {p z : Int32} (hI : MI A) (hz : z = f_X8_isRink X A p) (h : ¬ z = 0) : vp_in p 4 := inM_in (X := X) (A := A) (by decide) hI.1 hz h
theorem isWoodM_in {X : Nat → Int32} {A : Nat → Nat → Int32} {p z : Int32} (hI : MI A) (hz : z = f_X8_isWood X A p) (h : ¬ z = 0) : vp_in p 16 := inM_in (X := X) (A := A) (by decide) hI.2.1 hz h
theorem onM_in {X : Nat → Int32} {A : Nat → Nat → Int32} {p z : Int32} (hI : MI A) (hp : vp_in p 16) (hz : z = f_X8_ofWood X A p 3) : vp_in z 4 := by
  rw [hz]; exact hI.2.2.1 _ (vp_lt hp)

def f_X8_changed (X : Nat → Int32) (A : Nat → Nat → Int32) (p1 : Int32) : Int32 :=
  (if 0 < (if ((p1 + (A 0 1)) - (A 0 2)) < 20 then ((p1 + (A 0 1)) - (A 0 2)) else 20) then (if ((p1 + (A 0 1)) - (A 0 2)) < 20 then ((p1 + (A 0 1)) - (A 0 2)) else 20) else 0)
def f_X8_hoursToDry_l9 (X : Nat → Int32) (A : Nat → Nat → Int32) (p1 : Int32) : Nat → Nat → Int32 → Int32
  | 0, _, wet => 0
  | n + 1, k, wet =>
    if 40 < (nI k) then
      (-1)
    else
      if wet < 8 then
        (nI k)
      else
        bd (f_X8_changed X A wet) fun z6 =>
        f_X8_hoursToDry_l9 X A p1 n (k + 1) z6
def f_X8_hoursToDry (X : Nat → Int32) (A : Nat → Nat → Int32) (p1 : Int32) : Int32 :=
  bd (f_X8_ofRink X A p1 2) fun z1 =>
  f_X8_hoursToDry_l9 X A p1 42 0 z1
def f_X8_isTaken_l3 (X : Nat → Int32) (A : Nat → Nat → Int32) (p1 : Int32) (p2 : Int32) (p3 : Int32) (p4 : Int32) : Nat → Nat → Int32
  | 0, _ => 0
  | n + 1, k =>
    if (A 0 4) ≤ (nI k) then
      0
    else
      if (nI k) = p4 then
        f_X8_isTaken_l3 X A p1 p2 p3 p4 n (k + 1) 
      else
        bd (f_X8_ofWood X A (nI k) 2) fun z3 =>
        if z3 = 1 then
          bd (f_X8_ofWood X A (nI k) 3) fun z5 =>
          if z5 = p1 then
            bd (f_X8_ofWood X A (nI k) 4) fun z7 =>
            if z7 = p2 then
              bd (f_X8_ofWood X A (nI k) 5) fun z9 =>
              if z9 = p3 then
                1
              else
                f_X8_isTaken_l3 X A p1 p2 p3 p4 n (k + 1) 
            else
              f_X8_isTaken_l3 X A p1 p2 p3 p4 n (k + 1) 
          else
            f_X8_isTaken_l3 X A p1 p2 p3 p4 n (k + 1) 
        else
          f_X8_isTaken_l3 X A p1 p2 p3 p4 n (k + 1) 
def f_X8_isTaken (X : Nat → Int32) (A : Nat → Nat → Int32) (p1 : Int32) (p2 : Int32) (p3 : Int32) (p4 : Int32) : Int32 :=
  f_X8_isTaken_l3 X A p1 p2 p3 p4 17 0 
def f_X8_columnOf (X : Nat → Int32) (A : Nat → Nat → Int32) (p1 : Int32) (p2 : Int32) (p3 : Int32) (p4 : Int32) : Int32 :=
  bd (f_X8_ofWood X A p1 1) fun z1 =>
  if p4 = 0 then
    (p2 - ((z1 * p3) / 10))
  else
    (p2 + ((z1 * p3) / 10))
def f_X8_lengthOf_l58 (X : Nat → Int32) (A : Nat → Nat → Int32) (p1 : Int32) (p2 : Int32) (p3 : Int32) (p4 : Int32) : Nat → Int32 → Int32
  | 0, x => 0
  | n + 1, x =>
    if x < 0 then
      x
    else
      bd (f_X8_isTaken X A p1 p3 x p2) fun z9 =>
      if z9 = 0 then
        x
      else
        f_X8_lengthOf_l58 X A p1 p2 p3 p4 n (x + (-1))
def f_X8_lengthOf (X : Nat → Int32) (A : Nat → Nat → Int32) (p1 : Int32) (p2 : Int32) (p3 : Int32) (p4 : Int32) : Int32 :=
  bd (f_X8_ofRink X A p1 0) fun z1 =>
  bd (f_X8_ofRink X A p1 1) fun z2 =>
  bd (f_X8_in X A p3 z1 z2) fun z3 =>
  if z3 = 0 then
    (-1)
  else
    bd (f_X8_ofRink X A p1 2) fun z5 =>
    bd (f_X8_ofRink X A p1 3) fun z6 =>
    if (if 0 < (((4 + (2 * p4)) - (z5 / 2)) - z6) then (((4 + (2 * p4)) - (z5 / 2)) - z6) else 0) ≤ 40 then
      f_X8_lengthOf_l58 X A p1 p2 p3 p4 42 (if 0 < (((4 + (2 * p4)) - (z5 / 2)) - z6) then (((4 + (2 * p4)) - (z5 / 2)) - z6) else 0)
    else
      (-1)
def f_X8_square (X : Nat → Int32) (A : Nat → Nat → Int32) (p1 : Int32) (p2 : Int32) (p3 : Int32) : Int32 :=
  bd (f_X8_ofRink X A p1 0) fun z1 =>
  bd (f_X8_ofRink X A p1 1) fun z2 =>
  bd (f_X8_ofRink X A p1 4) fun z3 =>
  (((p2 - ((z1 + z2) / 2)) * (p2 - ((z1 + z2) / 2))) + ((p3 - z3) * (p3 - z3)))
def f_X8_distance (X : Nat → Int32) (A : Nat → Nat → Int32) (p1 : Int32) : Int32 :=
  bd (f_X8_ofWood X A p1 3) fun z1 =>
  bd (f_X8_ofWood X A p1 4) fun z2 =>
  bd (f_X8_ofWood X A p1 5) fun z3 =>
  bd (f_X8_square X A z1 z2 z3) fun z4 =>
  z4
def f_X8_isBad (X : Nat → Int32) (A : Nat → Nat → Int32) (p1 : Int32) (p2 : Int32) : Int32 :=
  bd (f_X8_ofRink X A p1 0) fun z1 =>
  bd (f_X8_ofRink X A p1 1) fun z2 =>
  bd (f_X8_in X A p2 z1 z2) fun z3 =>
  if z3 = 0 then
    1
  else
    0
def f_X8_liesOn (X : Nat → Int32) (A : Nat → Nat → Int32) (p1 : Int32) (p2 : Int32) : Int32 :=
  bd (f_X8_ofWood X A p1 2) fun z1 =>
  if z1 = 1 then
    bd (f_X8_ofWood X A p1 3) fun z3 =>
    if z3 = p2 then
      1
    else
      0
  else
    0
def f_X8_least_l6 (X : Nat → Int32) (A : Nat → Nat → Int32) (p1 : Int32) (p2 : Int32) : Nat → Nat → Int32 → Int32
  | 0, _, le => le
  | n + 1, k, le =>
    if (A 0 4) ≤ (nI k) then
      le
    else
      bd (f_X8_liesOn X A (nI k) p1) fun z2 =>
      if z2 = 0 then
        f_X8_least_l6 X A p1 p2 n (k + 1) le
      else
        bd (f_X8_ofWood X A (nI k) 0) fun z4 =>
        if z4 = p2 then
          bd (f_X8_distance X A (nI k)) fun z6 =>
          f_X8_least_l6 X A p1 p2 n (k + 1) (if z6 < le then z6 else le)
        else
          f_X8_least_l6 X A p1 p2 n (k + 1) le
def f_X8_least (X : Nat → Int32) (A : Nat → Nat → Int32) (p1 : Int32) (p2 : Int32) : Int32 :=
  bd (f_X8_least_l6 X A p1 p2 17 0 2147483647) fun z7 =>
  z7
def f_X8_counted_l39 (X : Nat → Int32) (A : Nat → Nat → Int32) (p1 : Int32) : Nat → Nat → Int32 → Int32 → Int32 → Int32 → Int32 × Int32 × Int32 × Int32
  | 0, _, club, n0, by0, by1 => (club, n0, by0, by1)
  | n + 1, k, club, n0, by0, by1 =>
    if (A 0 4) ≤ (nI k) then
      (club, n0, by0, by1)
    else
      bd (f_X8_liesOn X A (nI k) p1) fun z6 =>
      if z6 = 0 then
        f_X8_counted_l39 X A p1 n (k + 1) club n0 by0 by1
      else
        bd (f_X8_ofWood X A (nI k) 0) fun z8 =>
        if z8 = club then
          bd (f_X8_distance X A (nI k)) fun z10 =>
          if (if by0 < by1 then by1 else by0) ≤ z10 then
            f_X8_counted_l39 X A p1 n (k + 1) club n0 by0 by1
          else
            f_X8_counted_l39 X A p1 n (k + 1) club (n0 + 1) by0 by1
        else
          f_X8_counted_l39 X A p1 n (k + 1) club n0 by0 by1
def f_X8_counted (X : Nat → Int32) (A : Nat → Nat → Int32) (p1 : Int32) : Int32 :=
  bd (f_X8_least X A p1 0) fun z1 =>
  bd (f_X8_least X A p1 1) fun z2 =>
  if z1 = z2 then
    0
  else
    if z2 ≤ z1 then
      bd (f_X8_counted_l39 X A p1 17 0 1 0 z1 z2) fun z12 =>
      (z12.2.1 + (10 * z12.1))
    else
      bd (f_X8_counted_l39 X A p1 17 0 0 0 z1 z2) fun z20 =>
      (z20.2.1 + (10 * z20.1))
def f_X8_allCasts_l4 (X : Nat → Int32) (A : Nat → Nat → Int32) : Nat → Nat → Int32 → Int32
  | 0, _, n0 => n0
  | n + 1, k, n0 =>
    if (A 0 3) ≤ (nI k) then
      n0
    else
      bd (f_X8_ofRink X A (nI k) 3) fun z2 =>
      f_X8_allCasts_l4 X A n (k + 1) (n0 + z2)
def f_X8_allCasts (X : Nat → Int32) (A : Nat → Nat → Int32) : Int32 :=
  bd (f_X8_allCasts_l4 X A 5 0 0) fun z3 =>
  z3
def f_X8_castsAfter (X : Nat → Int32) (A : Nat → Nat → Int32) (p1 : Int32) (p2 : Int32) (p3 : Int32) : Int32 :=
  if p2 < 5 then
    p3
  else
    bd (f_X8_ofRink X A p1 4) fun z2 =>
    if z2 = 0 then
      (if (p3 + 1) < 9 then (p3 + 1) else 9)
    else
      p3
def f_X8_countOn_l5 (X : Nat → Int32) (A : Nat → Nat → Int32) (p1 : Int32) (p2 : Int32) : Nat → Nat → Int32 → Int32
  | 0, _, n0 => n0
  | n + 1, k, n0 =>
    if (A 0 4) ≤ (nI k) then
      n0
    else
      bd (f_X8_ofWood X A (nI k) 2) fun z2 =>
      if z2 = p2 then
        bd (f_X8_ofWood X A (nI k) 3) fun z4 =>
        if z4 = p1 then
          f_X8_countOn_l5 X A p1 p2 n (k + 1) (n0 + 1)
        else
          f_X8_countOn_l5 X A p1 p2 n (k + 1) n0
      else
        f_X8_countOn_l5 X A p1 p2 n (k + 1) n0
def f_X8_countOn (X : Nat → Int32) (A : Nat → Nat → Int32) (p1 : Int32) (p2 : Int32) : Int32 :=
  bd (f_X8_countOn_l5 X A p1 p2 17 0 0) fun z6 =>
  z6
def f_X8_woodsOf_l5 (X : Nat → Int32) (A : Nat → Nat → Int32) (p1 : Int32) (p2 : Int32) : Nat → Nat → Int32 → Int32
  | 0, _, n0 => n0
  | n + 1, k, n0 =>
    if (A 0 4) ≤ (nI k) then
      n0
    else
      bd (f_X8_ofWood X A (nI k) 0) fun z2 =>
      if z2 = p1 then
        if p2 = 0 then
          f_X8_woodsOf_l5 X A p1 p2 n (k + 1) (n0 + 1)
        else
          bd (f_X8_ofWood X A (nI k) 2) fun z5 =>
          if z5 = 0 then
            f_X8_woodsOf_l5 X A p1 p2 n (k + 1) (n0 + 1)
          else
            f_X8_woodsOf_l5 X A p1 p2 n (k + 1) n0
      else
        f_X8_woodsOf_l5 X A p1 p2 n (k + 1) n0
def f_X8_woodsOf (X : Nat → Int32) (A : Nat → Nat → Int32) (p1 : Int32) (p2 : Int32) : Int32 :=
  bd (f_X8_woodsOf_l5 X A p1 p2 17 0 0) fun z7 =>
  z7
def f_X8_closed_l4 (X : Nat → Int32) (A : Nat → Nat → Int32) : Nat → Nat → Int32 → Int32
  | 0, _, n0 => n0
  | n + 1, k, n0 =>
    if (A 0 3) ≤ (nI k) then
      n0
    else
      bd (f_X8_ofRink X A (nI k) 9) fun z2 =>
      f_X8_closed_l4 X A n (k + 1) (n0 + z2)
def f_X8_closed (X : Nat → Int32) (A : Nat → Nat → Int32) : Int32 :=
  bd (f_X8_closed_l4 X A 5 0 0) fun z3 =>
  z3
def f_X8_atPlace_l30 (X : Nat → Int32) (A : Nat → Nat → Int32) (p1 : Int32) (p2 : Int32) (k : Nat) : Nat → Nat → Int32 → Int32
  | 0, _, bef => bef
  | n + 1, j, bef =>
    if (A 0 4) ≤ (nI j) then
      bef
    else
      bd (f_X8_liesOn X A (nI j) p1) fun z5 =>
      if z5 = 0 then
        f_X8_atPlace_l30 X A p1 p2 k n (j + 1) bef
      else
        bd (f_X8_distance X A (nI j)) fun z7 =>
        bd (f_X8_distance X A (nI k)) fun z8 =>
        if z7 < z8 then
          f_X8_atPlace_l30 X A p1 p2 k n (j + 1) (bef + 1)
        else
          if (nI k) ≤ (nI j) then
            f_X8_atPlace_l30 X A p1 p2 k n (j + 1) bef
          else
            bd (f_X8_distance X A (nI j)) fun z11 =>
            bd (f_X8_distance X A (nI k)) fun z12 =>
            if z11 = z12 then
              f_X8_atPlace_l30 X A p1 p2 k n (j + 1) (bef + 1)
            else
              f_X8_atPlace_l30 X A p1 p2 k n (j + 1) bef
def f_X8_atPlace_l2 (X : Nat → Int32) (A : Nat → Nat → Int32) (p1 : Int32) (p2 : Int32) : Nat → Nat → Int32
  | 0, _ => 0
  | n + 1, k =>
    if (A 0 4) ≤ (nI k) then
      (-4)
    else
      bd (f_X8_liesOn X A (nI k) p1) fun z2 =>
      if z2 = 0 then
        f_X8_atPlace_l2 X A p1 p2 n (k + 1) 
      else
        bd (f_X8_atPlace_l30 X A p1 p2 k 17 0 0) fun z14 =>
        if z14 = p2 then
          (nI k)
        else
          f_X8_atPlace_l2 X A p1 p2 n (k + 1) 
def f_X8_atPlace (X : Nat → Int32) (A : Nat → Nat → Int32) (p1 : Int32) (p2 : Int32) : Int32 :=
  f_X8_atPlace_l2 X A p1 p2 17 0 
def f_X8_rinkAt_l17 (X : Nat → Int32) (A : Nat → Nat → Int32) (p1 : Int32) (k : Nat) : Nat → Nat → Int32 → Int32
  | 0, _, bef => bef
  | n + 1, j, bef =>
    if (A 0 3) ≤ (nI j) then
      bef
    else
      bd (f_X8_ofRink X A (nI j) 0) fun z3 =>
      bd (f_X8_ofRink X A (nI k) 0) fun z4 =>
      if z4 ≤ z3 then
        f_X8_rinkAt_l17 X A p1 k n (j + 1) bef
      else
        f_X8_rinkAt_l17 X A p1 k n (j + 1) (bef + 1)
def f_X8_rinkAt_l2 (X : Nat → Int32) (A : Nat → Nat → Int32) (p1 : Int32) : Nat → Nat → Int32
  | 0, _ => 0
  | n + 1, k =>
    if (A 0 3) ≤ (nI k) then
      (-1)
    else
      bd (f_X8_rinkAt_l17 X A p1 k 5 0 0) fun z6 =>
      if z6 = p1 then
        (nI k)
      else
        f_X8_rinkAt_l2 X A p1 n (k + 1) 
def f_X8_rinkAt (X : Nat → Int32) (A : Nat → Nat → Int32) (p1 : Int32) : Int32 :=
  f_X8_rinkAt_l2 X A p1 5 0 
def f_X8_does (X : Nat → Int32) (A : Nat → Nat → Int32) (p1 : Int32) : Int32 × (Nat → Int32) :=
  (0, upd X 17 p1)
def f_X8_refuses (X : Nat → Int32) (A : Nat → Nat → Int32) (p1 : Int32) (p2 : Int32) : Int32 × (Nat → Int32) × (Nat → Nat → Int32) :=
  ((-3), (upd X 16 1, up2 (up2 A 7 0 p1) 7 1 p2))
theorem inM_le {X : Nat → Int32} {A : Nat → Nat → Int32} {p z a c : Int32} (hz : z = f_X8_in X A p a c) (h : ¬ z = 0) : p ≤ c := by
  unfold f_X8_in at hz
  split at hz
  · exact absurd hz h
  · split at hz
    · exact absurd hz h
    · rename_i h1 h2
      exact Int32.not_lt.mp h2
theorem inM_2 {X : Nat → Int32} {A : Nat → Nat → Int32} {p z : Int32} (hz : z = f_X8_in X A p 0 1) (h : ¬ z = 0) : vp_in p 2 := inM_in (X := X) (A := A) (c := 2) (by decide) (vp_in_nI (n := 2) (by decide) (by decide)) hz h
theorem le_of_vp {c : Int32} {N : Nat} (hN : N + 1 < 2 ^ 31) (h : vp_in c (N + 1)) : c ≤ nI N := by
  obtain ⟨j, hj, rfl⟩ := vp_in_of h hN
  exact nI_le (by omega) (by omega)

def f_X8_nearest (X : Nat → Int32) (A : Nat → Nat → Int32) (p1 : Int32) (p2 : Int32) : Int32 :=
  bd (f_X8_isRink X A p1) fun z1 =>
  if z1 = 0 then
    (-1)
  else
    bd (f_X8_atPlace X A p1 p2) fun z3 =>
    z3
def f_X8_shots (X : Nat → Int32) (A : Nat → Nat → Int32) (p1 : Int32) (p2 : Int32) : Int32 :=
  bd (f_X8_isRink X A p1) fun z1 =>
  if z1 = 0 then
    (-1)
  else
    bd (f_X8_ofRink X A p1 4) fun z3 =>
    if z3 = 0 then
      (-4)
    else
      bd (f_X8_counted X A p1) fun z5 =>
      z5
def f_X8_would (X : Nat → Int32) (A : Nat → Nat → Int32) (p1 : Int32) (p2 : Int32) (p3 : Int32) (p4 : Int32) (p5 : Int32) : Int32 :=
  bd (f_X8_isRink X A p1) fun z1 =>
  if z1 = 0 then
    (-1)
  else
    bd (f_X8_isWood X A p2) fun z3 =>
    if z3 = 0 then
      (-1)
    else
      bd (f_X8_isBad X A p1 p3) fun z5 =>
      if z5 = 0 then
        bd (f_X8_in X A p4 1 20) fun z7 =>
        if z7 = 0 then
          (-2)
        else
          bd (f_X8_columnOf X A p2 p3 p4 p5) fun z9 =>
          bd (f_X8_lengthOf X A p1 p2 z9 p4) fun z10 =>
          if 0 ≤ z10 then
            ((100 * z9) + z10)
          else
            (-4)
      else
        (-2)
def f_X8_bestStrength_l41 (X : Nat → Int32) (A : Nat → Nat → Int32) (p1 : Int32) (p2 : Int32) (p3 : Int32) (p4 : Int32) : Nat → Nat → Int32 → Int32 → Int32 × Int32
  | 0, _, best, least => (best, least)
  | n + 1, k, best, least =>
    if 20 < (nI k) then
      (best, least)
    else
      bd (f_X8_ofRink X A p1 4) fun z8 =>
      if z8 ≤ 0 then
        (best, least)
      else
        bd (f_X8_columnOf X A p2 p3 (nI k) p4) fun z10 =>
        bd (f_X8_lengthOf X A p1 p2 z10 (nI k)) fun z11 =>
        if z11 < 0 then
          f_X8_bestStrength_l41 X A p1 p2 p3 p4 n (k + 1) best least
        else
          bd (f_X8_square X A p1 z10 z11) fun z13 =>
          if z13 < least then
            bd (f_X8_square X A p1 z10 z11) fun z15 =>
            f_X8_bestStrength_l41 X A p1 p2 p3 p4 n (k + 1) (nI k) z15
          else
            f_X8_bestStrength_l41 X A p1 p2 p3 p4 n (k + 1) best least
def f_X8_bestStrength (X : Nat → Int32) (A : Nat → Nat → Int32) (p1 : Int32) (p2 : Int32) (p3 : Int32) (p4 : Int32) : Int32 :=
  bd (f_X8_isRink X A p1) fun z1 =>
  if z1 = 0 then
    (-1)
  else
    bd (f_X8_isWood X A p2) fun z3 =>
    if z3 = 0 then
      (-1)
    else
      bd (f_X8_isBad X A p1 p3) fun z5 =>
      if z5 = 0 then
        bd (f_X8_bestStrength_l41 X A p1 p2 p3 p4 21 1 (-4) 2147483647) fun z16 =>
        z16.1
      else
        (-2)
def f_X8_ahead_l42 (X : Nat → Int32) (A : Nat → Nat → Int32) (p1 : Int32) (p2 : Int32) (p3 : Int32) : Nat → Nat → Int32 → Int32 → Int32 × Int32
  | 0, _, wet, casts => (wet, casts)
  | n + 1, k, wet, casts =>
    if p2 ≤ (nI k) then
      (wet, casts)
    else
      bd (f_X8_changed X A wet) fun z8 =>
      bd (f_X8_castsAfter X A p1 z8 casts) fun z9 =>
      f_X8_ahead_l42 X A p1 p2 p3 n (k + 1) z8 z9
def f_X8_ahead (X : Nat → Int32) (A : Nat → Nat → Int32) (p1 : Int32) (p2 : Int32) (p3 : Int32) : Int32 :=
  bd (f_X8_isRink X A p1) fun z1 =>
  if z1 = 0 then
    (-1)
  else
    bd (f_X8_in X A p2 0 40) fun z3 =>
    if z3 = 0 then
      (-2)
    else
      bd (f_X8_ofRink X A p1 2) fun z5 =>
      bd (f_X8_ofRink X A p1 3) fun z6 =>
      bd (f_X8_ahead_l42 X A p1 p2 p3 41 0 z5 z6) fun z10 =>
      if p3 = 0 then
        z10.1
      else
        z10.2
def f_X8_wetIn (X : Nat → Int32) (A : Nat → Nat → Int32) (p1 : Int32) (p2 : Int32) : Int32 :=
  bd (f_X8_ahead X A p1 p2 0) fun z1 =>
  z1
def f_X8_castsIn (X : Nat → Int32) (A : Nat → Nat → Int32) (p1 : Int32) (p2 : Int32) : Int32 :=
  bd (f_X8_ahead X A p1 p2 1) fun z1 =>
  z1
def f_X8_dryIn (X : Nat → Int32) (A : Nat → Nat → Int32) (p1 : Int32) : Int32 :=
  bd (f_X8_isRink X A p1) fun z1 =>
  if z1 = 0 then
    (-1)
  else
    bd (f_X8_hoursToDry X A p1) fun z3 =>
    if 0 ≤ z3 then
      z3
    else
      (-4)
def f_X8_leader_l2 (X : Nat → Int32) (A : Nat → Nat → Int32) : Nat → Nat → Int32
  | 0, _ => 0
  | n + 1, k =>
    if 2 ≤ (nI k) then
      (-4)
    else
      if (A 0 (9 + k)) = (A 0 (13 + k)) then
        f_X8_leader_l2 X A n (k + 1) 
      else
        if (A 0 (9 + k)) ≤ (A 0 (13 + k)) then
          1
        else
          0
def f_X8_leader (X : Nat → Int32) (A : Nat → Nat → Int32) : Int32 :=
  f_X8_leader_l2 X A 3 0 
def f_X8_fault (X : Nat → Int32) (A : Nat → Nat → Int32) : Int32 :=
  (X 14)
def f_X8_written (X : Nat → Int32) (A : Nat → Nat → Int32) (p1 : Int32) : Int32 :=
  bd (f_X8_in X A p1 0 ((X 7) - 1)) fun z1 =>
  if z1 = 0 then
    (-1)
  else
    (A 4 p1.toNatClampNeg)
def f_X8_reason (X : Nat → Int32) (A : Nat → Nat → Int32) (p1 : Int32) (p2 : Int32) : Int32 :=
  if 0 ≤ p1 then
    if (X 16) ≤ p1 then
      (-4)
    else
      if p2 = 0 then
        (A 7 ((2 * p1.toNatClampNeg) + 0))
      else
        (A 7 ((2 * p1.toNatClampNeg) + 1))
  else
    (-2)
def f_X8_rinkOf (X : Nat → Int32) (A : Nat → Nat → Int32) (p1 : Int32) (p2 : Int32) : Int32 :=
  bd (f_X8_isRink X A p1) fun z1 =>
  if z1 = 0 then
    (-1)
  else
    if p2 = 0 then
      bd (f_X8_ofRink X A p1 p2) fun z4 =>
      z4
    else
      if p2 = 1 then
        bd (f_X8_ofRink X A p1 p2) fun z6 =>
        z6
      else
        if p2 = 2 then
          bd (f_X8_ofRink X A p1 p2) fun z8 =>
          z8
        else
          if p2 = 3 then
            bd (f_X8_ofRink X A p1 p2) fun z10 =>
            z10
          else
            if p2 = 4 then
              bd (f_X8_ofRink X A p1 p2) fun z12 =>
              z12
            else
              if p2 = 5 then
                bd (f_X8_ofRink X A p1 p2) fun z14 =>
                z14
              else
                if p2 = 6 then
                  bd (f_X8_countOn X A p1 1) fun z16 =>
                  z16
                else
                  if p2 = 7 then
                    bd (f_X8_countOn X A p1 2) fun z18 =>
                    z18
                  else
                    if p2 = 8 then
                      bd (f_X8_ofRink X A p1 9) fun z20 =>
                      z20
                    else
                      (-2)
def f_X8_woodOf (X : Nat → Int32) (A : Nat → Nat → Int32) (p1 : Int32) (p2 : Int32) : Int32 :=
  bd (f_X8_isWood X A p1) fun z1 =>
  if z1 = 0 then
    (-1)
  else
    bd (f_X8_ofWood X A p1 2) fun z3 =>
    if p2 = 0 then
      bd (f_X8_ofWood X A p1 p2) fun z5 =>
      z5
    else
      if p2 = 1 then
        bd (f_X8_ofWood X A p1 p2) fun z7 =>
        z7
      else
        if p2 = 2 then
          bd (f_X8_ofWood X A p1 p2) fun z9 =>
          z9
        else
          if p2 = 3 then
            if z3 = 0 then
              (-4)
            else
              bd (f_X8_ofWood X A p1 3) fun z12 =>
              z12
          else
            if p2 = 4 then
              if z3 = 1 then
                bd (f_X8_ofWood X A p1 4) fun z15 =>
                z15
              else
                (-4)
            else
              if p2 = 5 then
                if z3 = 1 then
                  bd (f_X8_ofWood X A p1 5) fun z18 =>
                  z18
                else
                  (-4)
              else
                if p2 = 6 then
                  if z3 = 1 then
                    bd (f_X8_distance X A p1) fun z21 =>
                    z21
                  else
                    (-4)
                else
                  if p2 = 7 then
                    bd (f_X8_ofWood X A p1 6) fun z23 =>
                    z23
                  else
                    (-2)
def f_X8_clubOf (X : Nat → Int32) (A : Nat → Nat → Int32) (p1 : Int32) (p2 : Int32) : Int32 :=
  bd (f_X8_in X A p1 0 1) fun z1 =>
  if z1 = 0 then
    (-1)
  else
    if p2 = 0 then
      (A 0 ((9 + (4 * p1.toNatClampNeg)) + 0))
    else
      if p2 = 1 then
        (A 0 ((9 + (4 * p1.toNatClampNeg)) + 1))
      else
        if p2 = 2 then
          (A 0 ((9 + (4 * p1.toNatClampNeg)) + 2))
        else
          if p2 = 3 then
            (A 0 ((9 + (4 * p1.toNatClampNeg)) + 3))
          else
            if p2 = 4 then
              bd (f_X8_woodsOf X A p1 0) fun z8 =>
              z8
            else
              if p2 = 5 then
                bd (f_X8_woodsOf X A p1 1) fun z10 =>
                z10
              else
                (-2)
def f_X8_account_l85 (X : Nat → Int32) (A : Nat → Nat → Int32) (p1 : Int32) : Nat → Nat → Int32 → Int32
  | 0, _, n0 => n0
  | n + 1, k, n0 =>
    if (A 0 3) ≤ (nI k) then
      n0
    else
      bd (f_X8_ofRink X A (nI k) 4) fun z8 =>
      if z8 ≤ 0 then
        f_X8_account_l85 X A p1 n (k + 1) n0
      else
        f_X8_account_l85 X A p1 n (k + 1) (n0 + 1)
def f_X8_account (X : Nat → Int32) (A : Nat → Nat → Int32) (p1 : Int32) : Int32 :=
  if p1 = 0 then
    (A 0 0)
  else
    if p1 = 1 then
      (A 0 1)
    else
      if p1 = 2 then
        (A 0 2)
      else
        if p1 = 3 then
          (A 0 3)
        else
          if p1 = 4 then
            (A 0 4)
          else
            if p1 = 5 then
              bd (f_X8_account_l85 X A p1 5 0 0) fun z10 =>
              z10
            else
              if p1 = 6 then
                bd (f_X8_closed X A) fun z12 =>
                z12
              else
                if p1 = 7 then
                  (A 0 5)
                else
                  if p1 = 8 then
                    (A 0 6)
                  else
                    if p1 = 9 then
                      (A 0 7)
                    else
                      if p1 = 10 then
                        bd (f_X8_allCasts X A) fun z17 =>
                        z17
                      else
                        if p1 = 11 then
                          (A 0 8)
                        else
                          if p1 = 12 then
                            bd (f_X8_woodsOf X A 0 1) fun z20 =>
                            bd (f_X8_woodsOf X A 1 1) fun z21 =>
                            (z20 + z21)
                          else
                            if p1 = 13 then
                              (X 9)
                            else
                              if p1 = 14 then
                                (X 3)
                              else
                                (-2)
theorem MI_of {A A' : Nat → Nat → Int32} (h : MI A) (e : ∀ j, (j = 3 ∨ j = 4 ∨ 57 ≤ j) → A' 0 j = A 0 j) (e5 : A' 5 = A 5) : MI A' := by
  refine ⟨?_, ?_, fun w hw => ?_, fun w hw => ?_, fun j hj => by rw [e5]; exact h.2.2.2.2 j hj⟩
  · rw [e 3 (by omega)]; exact h.1
  · rw [e 4 (by omega)]; exact h.2.1
  · rw [e _ (by omega)]; exact h.2.2.1 w hw
  · rw [e _ (by omega)]; exact h.2.2.2.1 w hw
theorem up2_0 {A : Nat → Nat → Int32} {i j k : Nat} {v : Int32} (h : k ≠ j) : up2 A i j v i k = A i k := by rw [up2_eq, upd_ne _ _ h]
theorem up2_k {A : Nat → Nat → Int32} {i i' j k : Nat} {v : Int32} (h : i' ≠ i) : up2 A i j v i' k = A i' k := by rw [up2_ne _ _ _ h]
theorem MI_up {A : Nat → Nat → Int32} {j : Nat} {v : Int32} (h : MI A) (h3 : j ≠ 3) (h4 : j ≠ 4) (h5 : j < 57) : MI (up2 A 0 j v) := MI_of h (fun i hi => up2_0 (by omega)) rfl
theorem MI_ne {A : Nat → Nat → Int32} {k j : Nat} {v : Int32} (h : MI A) (hk : k ≠ 0) (h5 : k ≠ 5) : MI (up2 A k j v) := MI_of h (fun i hi => up2_k (by omega)) (up2_ne _ _ _ (by omega))
theorem MI_c3 {A : Nat → Nat → Int32} {v : Int32} (h : MI A) (hv : vp_in v 5) : MI (up2 A 0 3 v) := by
  refine ⟨?_, ?_, fun w hw => ?_, fun w hw => ?_, h.2.2.2.2⟩
  · rw [up2_eq, upd_eq]; exact hv
  · rw [up2_0 (by omega)]; exact h.2.1
  · rw [up2_0 (by omega)]; exact h.2.2.1 w hw
  · rw [up2_0 (by omega)]; exact h.2.2.2.1 w hw
theorem MI_c4 {A : Nat → Nat → Int32} {v : Int32} (h : MI A) (hv : vp_in v 17) : MI (up2 A 0 4 v) := by
  refine ⟨?_, ?_, fun w hw => ?_, fun w hw => ?_, h.2.2.2.2⟩
  · rw [up2_0 (by omega)]; exact h.1
  · rw [up2_eq, upd_eq]; exact hv
  · rw [up2_0 (by omega)]; exact h.2.2.1 w hw
  · rw [up2_0 (by omega)]; exact h.2.2.2.1 w hw
theorem MI_wd {A : Nat → Nat → Int32} {w k : Nat} {v : Int32} (h : MI A) (hk : k < 7) (h3 : k = 3 → vp_in v 4) (h0 : k = 0 → vp_in v 2) : MI (up2 A 0 (57 + 7 * w + k) v) := by
  refine ⟨?_, ?_, fun i hi => ?_, fun i hi => ?_, h.2.2.2.2⟩
  · rw [up2_0 (by omega)]; exact h.1
  · rw [up2_0 (by omega)]; exact h.2.1
  · by_cases e : 57 + 7 * i + 3 = 57 + 7 * w + k
    · rw [e, up2_eq, upd_eq]; exact h3 (by omega)
    · rw [up2_0 e]; exact h.2.2.1 i hi
  · by_cases e : 57 + 7 * i + 0 = 57 + 7 * w + k
    · rw [e, up2_eq, upd_eq]; exact h0 (by omega)
    · rw [up2_0 e]; exact h.2.2.2.1 i hi
theorem MI_sr {X : Nat → Int32} {A z : Nat → Nat → Int32} {p1 p2 p3 : Int32} (h : MI A) (v1 : vp_in p1 4) (v2 : vp_in p2 10) (hz : z = f_X8_setsRink X A p1 p2 p3) : MI z := by
  have := vp_lt v1; have := vp_lt v2
  rw [hz]; exact MI_up h (by omega) (by omega) (by omega)
theorem MI_sw {X : Nat → Int32} {A z : Nat → Nat → Int32} {p1 p2 p3 : Int32} (h : MI A) (v2 : vp_in p2 7) (h3 : p2.toNatClampNeg = 3 → vp_in p3 4) (h0 : p2.toNatClampNeg = 0 → vp_in p3 2) (hz : z = f_X8_setsWood X A p1 p2 p3) : MI z := by
  rw [hz]; exact MI_wd h (vp_lt v2) h3 h0
theorem MI_z {A z : Nat → Nat → Int32} {e : Nat → Nat → Int32} (h : MI e) (hz : z = e) : MI z := hz ▸ h
theorem kp1 {X : Nat → Int32} (h : X 3 = 8) : vp_in (upd X 3 (X 3 - 1) 3) 8 := by
  rw [upd_eq, h]; exact vp_in_nI (n := 7) (by decide) (by decide)
theorem kp2 {x : Int32} (h : vp_in x 9) (hne : ¬ x = 8) : vp_in x 8 := by
  obtain ⟨j, hj, rfl⟩ := vp_in_of h (by decide)
  refine vp_in_nI ?_ (by decide)
  rcases (show j = 8 ∨ j < 8 by omega) with rfl | q
  · exact absurd rfl hne
  · exact q
theorem ne_last {x : Int32} {N : Nat} (hN : N + 1 < 2 ^ 31) (h : vp_in x (N + 1)) (hne : ¬ x = nI N) : vp_in x N := by
  obtain ⟨j, hj, rfl⟩ := vp_in_of h hN
  refine vp_in_nI ?_ (by omega)
  rcases (show j = N ∨ j < N by omega) with rfl | q
  · exact absurd rfl hne
  · exact q
theorem rb_start {c : Int32} (h : vp_in c 3) : -1 ≤ (2 * c - 1).toInt ∧ (2 * c - 1).toInt + 2 ≤ ((5 : Nat) : Int) ∧ (2 * c - 1).toInt < 4 := by
  obtain ⟨j, hj, rfl⟩ := vp_in_of h (by decide)
  rcases (show j = 0 ∨ j = 1 ∨ j = 2 by omega) with rfl | rfl | rfl <;> decide
theorem dn_back4 {x : Int32} {n : Nat} (h : -1 ≤ x.toInt ∧ x.toInt + 2 ≤ ((n + 1 : Nat) : Int) ∧ x.toInt < 4) (c : ¬ x < 0) : -1 ≤ (x + (-1)).toInt ∧ (x + (-1)).toInt + 2 ≤ (n : Int) ∧ (x + (-1)).toInt < 4 := by
  have h1 := dn_back ⟨h.1, h.2.1⟩ c
  refine ⟨h1.1, h1.2, ?_⟩
  obtain ⟨j, hj, rfl⟩ := nI_of c
  have h2 := h.2.2
  rw [nI_toInt hj] at h2
  cases j with
  | zero =>
    have e : (nI 0 + (-1)).toInt = -1 := by decide
    rw [e]; omega
  | succ i =>
    rw [pk_m1, nI_toInt (by omega)]
    omega
theorem nn_nI {x : Int32} (c : ¬ x < 0) : x = nI x.toNatClampNeg := by
  obtain ⟨j, hj, rfl⟩ := nI_of c
  rw [nI_clamp hj]
theorem nn_lt {x : Int32} {N : Nat} (h : x.toInt < (N : Int)) (c : ¬ x < 0) : x.toNatClampNeg < N := by
  obtain ⟨j, hj, rfl⟩ := nI_of c
  rw [nI_toInt hj] at h
  rw [nI_clamp hj]; omega
theorem ch_fit {X : Nat → Int32} {A : Nat → Nat → Int32} {p z : Int32} (hz : z = f_X8_in X A p 32 126) (h : ¬ z = 0) : narrow .char (.int p) = .int p := by
  have hle : p ≤ 126 := inM_le hz h
  unfold f_X8_in at hz
  split at hz
  · exact absurd hz h
  · rename_i h1
    have h2 : ¬ p < 0 := fun q => h1 (Int32.lt_of_lt_of_le q (by decide))
    obtain ⟨j, hj, rfl⟩ := nI_of h2
    have h3 : j ≤ 126 := (nI_leI hj (by decide)).mp hle
    exact (pk_charN (by omega)).1

def f_X8_begins_l2 (X : Nat → Int32) : Nat → Nat → (Nat → Nat → Int32) → (Nat → Nat → Int32)
  | 0, _, Ak => Ak
  | n + 1, k, Ak =>
    if 169 ≤ (nI k) then
      Ak
    else
      f_X8_begins_l2 X n (k + 1) (up2 Ak 0 k 0)
def f_X8_begins (X : Nat → Int32) (A : Nat → Nat → Int32) : (Nat → Nat → Int32) :=
  bd (f_X8_begins_l2 X 170 0 A) fun z2 =>
  (up2 (up2 (up2 (up2 (up2 z2 0 1 1) 0 2 2) 0 6 12) 0 11 10) 0 15 10)
def f_X8_tries_l2 (X : Nat → Int32) : Nat → Nat → (Nat → Nat → Int32) → (Nat → Nat → Int32)
  | 0, _, Ak => Ak
  | n + 1, k, Ak =>
    if 169 ≤ (nI k) then
      Ak
    else
      f_X8_tries_l2 X n (k + 1) (up2 Ak 1 k (Ak 0 k))
def f_X8_tries (X : Nat → Int32) (A : Nat → Nat → Int32) : (Nat → Nat → Int32) :=
  bd (f_X8_tries_l2 X 170 0 A) fun z2 =>
  z2
def f_X8_comesBack_l2 (X : Nat → Int32) : Nat → Nat → (Nat → Nat → Int32) → (Nat → Nat → Int32)
  | 0, _, Ak => Ak
  | n + 1, k, Ak =>
    if 169 ≤ (nI k) then
      Ak
    else
      f_X8_comesBack_l2 X n (k + 1) (up2 Ak 0 k (Ak 1 k))
def f_X8_comesBack (X : Nat → Int32) (A : Nat → Nat → Int32) : (Nat → Nat → Int32) :=
  bd (f_X8_comesBack_l2 X 170 0 A) fun z2 =>
  z2
theorem vp_succ {x : Int32} {N : Nat} (hN : N + 1 < 2 ^ 31) (h : vp_in x N) : vp_in (x + 1) (N + 1) := by
  obtain ⟨j, hj, rfl⟩ := vp_in_of h (by omega)
  rw [nI_1]; exact vp_in_nI (by omega) hN
theorem vp_u {f : Nat → Int32} {k N : Nat} (hN : N + 1 < 2 ^ 31) (h : vp_in (f k) N) : vp_in (upd f k (f k + 1) k) (N + 1) := by
  rw [upd_eq]; exact vp_succ hN h

def f_X8_keeps_l52 (p1 : Int32) : Nat → Nat → (Nat → Int32) → (Nat → Nat → Int32) → (Nat → Int32) × (Nat → Nat → Int32)
  | 0, _, Xk, Ak => (Xk, Ak)
  | n + 1, k, Xk, Ak =>
    if 169 ≤ (nI k) then
      (Xk, Ak)
    else
      f_X8_keeps_l52 p1 n (k + 1) Xk (up2 Ak 2 ((169 * ((Xk 3).toNatClampNeg)) + k) (Ak 1 k))
def f_X8_keeps_l11 (X : Nat → Int32) (p1 : Int32) : Nat → Nat → (Nat → Nat → Int32) → (Nat → Nat → Int32)
  | 0, _, Ak => Ak
  | n + 1, k, Ak =>
    if 1183 ≤ (nI k) then
      Ak
    else
      f_X8_keeps_l11 X p1 n (k + 1) (up2 Ak 2 k (Ak 2 (169 + k)))
def f_X8_keeps (X : Nat → Int32) (A : Nat → Nat → Int32) (p1 : Int32) : Int32 × (Nat → Int32) × (Nat → Nat → Int32) :=
  if (X 3) = 8 then
    bd (f_X8_keeps_l11 X p1 1184 0 A) fun z5 =>
    bd (f_X8_keeps_l52 p1 170 0 (upd X 3 ((X 3) - 1)) z5) fun z7 =>
    (p1, (upd z7.1 3 ((z7.1 3) + 1), z7.2))
  else
    bd (f_X8_keeps_l52 p1 170 0 X A) fun z3 =>
    (p1, (upd z3.1 3 ((z3.1 3) + 1), z3.2))
def f_X8_refusesBy_l9 (X : Nat → Int32) (p1 : Int32) (p2 : Int32) : Nat → Int32 → (Nat → Nat → Int32) → Int32 × (Nat → Nat → Int32)
  | 0, x, Ak => (x, Ak)
  | n + 1, x, Ak =>
    if x < 0 then
      (x, Ak)
    else
      f_X8_refusesBy_l9 X p1 p2 n (x + (-1)) (up2 Ak 7 (x.toNatClampNeg + 2) (Ak 7 x.toNatClampNeg))
def f_X8_refusesBy (X : Nat → Int32) (A : Nat → Nat → Int32) (p1 : Int32) (p2 : Int32) : Int32 × (Nat → Int32) × (Nat → Nat → Int32) :=
  bd (f_X8_refusesBy_l9 X p1 p2 5 ((2 * (X 16)) - 1) A) fun z2 =>
  ((-3), (upd X 16 ((X 16) + 1), up2 (up2 z2.2 7 0 p1) 7 1 p2))
def f_X8_ends (X : Nat → Int32) (A : Nat → Nat → Int32) (p1 : Int32) : Int32 × (Nat → Int32) × (Nat → Nat → Int32) :=
  if p1 = 0 then
    bd (f_X8_keeps X A (X 17)) fun z2 =>
    (z2.1, (z2.2.1, z2.2.2))
  else
    (p1, (X, A))
def f_X8_clear (X : Nat → Int32) (A : Nat → Nat → Int32) : Int32 × (Nat → Int32) × (Nat → Nat → Int32) :=
  bd (f_X8_begins X A) fun z1 =>
  (A 0 0, (upd X 3 0, z1))
def f_X8_append (X : Nat → Int32) (A : Nat → Nat → Int32) (p1 : Int32) : Int32 × (Nat → Int32) × (Nat → Nat → Int32) :=
  bd (f_X8_in X A p1 32 126) fun z1 =>
  if z1 = 0 then
    ((-2), (X, A))
  else
    if (X 9) = 60 then
      ((-2), (X, A))
    else
      ((upd X 9 ((X 9) + 1)) 9, (upd X 9 ((X 9) + 1), up2 A 5 ((X 9).toNatClampNeg) p1))
def f_X8_sets (X : Nat → Int32) (A : Nat → Nat → Int32) (p1 : Int32) (p2 : Int32) : Int32 × (Nat → Int32) × (Nat → Nat → Int32) :=
  bd (f_X8_in X A p2 0 9) fun z1 =>
  if z1 = 0 then
    ((-2), (X, A))
  else
    bd (f_X8_does X (up2 A 0 p1.toNatClampNeg p2) (A 0 p1.toNatClampNeg)) fun z3 =>
    (z3.1, (z3.2, up2 A 0 p1.toNatClampNeg p2))
theorem MI_rf {X : Nat → Int32} {A : Nat → Nat → Int32} {a b : Int32} {z : Int32 × (Nat → Int32) × (Nat → Nat → Int32)} (h : MI A) (hz : z = f_X8_refuses X A a b) : MI z.2.2 := by
  rw [hz]; exact MI_of h (fun j _ => rfl) rfl
theorem rf_16 {X : Nat → Int32} {A : Nat → Nat → Int32} {a b : Int32} {z : Int32 × (Nat → Int32) × (Nat → Nat → Int32)} (hz : z = f_X8_refuses X A a b) : vp_in (z.2.1 16) 3 := by
  rw [hz]; exact vp_in_nI (n := 1) (by decide) (by decide)
theorem rb_16 {X : Nat → Int32} {A A' : Nat → Nat → Int32} {a b c d : Int32} {y z : Int32 × (Nat → Int32) × (Nat → Nat → Int32)} (hy : y = f_X8_refuses X A a b) (hz : z = f_X8_refusesBy y.2.1 A' c d) : vp_in (z.2.1 16) 3 := by
  rw [hz, hy]; exact vp_in_nI (n := 2) (by decide) (by decide)
theorem do_ne {X : Nat → Int32} {A : Nat → Nat → Int32} {p : Int32} {z : Int32 × (Nat → Int32)} (hz : z = f_X8_does X A p) : ¬ z.1 = -3 := by
  rw [hz]; exact fun q => absurd (show (0 : Int32) = -3 from q) (by decide)
theorem MI_rb {X : Nat → Int32} {A : Nat → Nat → Int32} {a b : Int32} {z : Int32 × (Nat → Int32) × (Nat → Nat → Int32)} (h : MI A) (hz : z = f_X8_refusesBy X A a b) : MI z.2.2 := by
  have e : ∀ n x A, (f_X8_refusesBy_l9 X a b n x A).2 0 = A 0 ∧ (f_X8_refusesBy_l9 X a b n x A).2 5 = A 5 := by
    intro n
    induction n with
    | zero => intro x A; exact ⟨rfl, rfl⟩
    | succ n ih =>
      intro x A
      unfold f_X8_refusesBy_l9
      split
      · exact ⟨rfl, rfl⟩
      · exact ⟨(ih _ _).1.trans rfl, (ih _ _).2.trans rfl⟩
  rw [hz]
  refine MI_of h (fun j _ => ?_) (e 5 _ A).2
  exact congrFun (e 5 _ A).1 j
/-- nothing but the reasons' depth and the answer has changed of the numbers; the depth stays in range -/
def FX (X0 X : Nat → Int32) : Prop := (∀ k, k ≠ 16 → k ≠ 17 → X k = X0 k) ∧ (vp_in (X0 16) 4 → vp_in (X 16) 4)
theorem FX.rf {X : Nat → Int32} : FX X X := ⟨fun _ _ _ => rfl, fun h => h⟩
theorem FX.tr {X Y Z : Nat → Int32} (h : FX X Y) (g : FX Y Z) : FX X Z := ⟨fun k a b => (g.1 k a b).trans (h.1 k a b), fun q => g.2 (h.2 q)⟩
theorem FX_rf {X : Nat → Int32} {A : Nat → Nat → Int32} {a b : Int32} {z : Int32 × (Nat → Int32) × (Nat → Nat → Int32)} (hz : z = f_X8_refuses X A a b) : FX X z.2.1 := by
  rw [hz]; exact ⟨fun k h1 _ => upd_ne _ _ h1, fun _ => vp_in_nI (n := 1) (by decide) (by decide)⟩
theorem FX_rb {X : Nat → Int32} {A : Nat → Nat → Int32} {a b : Int32} {z : Int32 × (Nat → Int32) × (Nat → Nat → Int32)} (hD : vp_in (X 16) 3) (hz : z = f_X8_refusesBy X A a b) : FX X z.2.1 := by
  rw [hz]
  refine ⟨fun k h1 _ => upd_ne _ _ h1, fun _ => ?_⟩
  obtain ⟨j, hj, e⟩ := vp_in_of hD (by decide)
  show vp_in (upd X 16 (X 16 + 1) 16) 4
  rw [upd_eq, e, nI_1]; exact vp_in_nI (by omega) (by decide)
theorem FX_do {X : Nat → Int32} {A : Nat → Nat → Int32} {a : Int32} {z : Int32 × (Nat → Int32)} (hz : z = f_X8_does X A a) : FX X z.2 := by
  rw [hz]; exact ⟨fun k _ h2 => upd_ne _ _ h2, fun h => h⟩
theorem clM_in {X : Nat → Int32} {A : Nat → Nat → Int32} {p z : Int32} (hI : MI A) (hp : vp_in p 16) (hz : z = f_X8_ofWood X A p 0) : vp_in z 2 := by
  rw [hz]; exact hI.2.2.2.1 _ (vp_lt hp)
theorem cnt_l39 {X : Nat → Int32} {A : Nat → Nat → Int32} {p1 club b0 b1 : Int32} : ∀ n k m : Nat, ∃ m', m ≤ m' ∧ m' ≤ m + n ∧ f_X8_counted_l39 X A p1 n k club (nI m) b0 b1 = (club, nI m', b0, b1) := by
  intro n
  induction n with
  | zero => intro k m; exact ⟨m, Nat.le_refl _, Nat.le_refl _, rfl⟩
  | succ n ih =>
    intro k m
    obtain ⟨m1, a1, a2, a3⟩ := ih (k + 1) m
    obtain ⟨m2, a4, a5, a6⟩ := ih (k + 1) (m + 1)
    unfold f_X8_counted_l39
    dsimp only [bd]
    split
    · exact ⟨m, by omega, by omega, rfl⟩
    · split
      · exact ⟨m1, by omega, by omega, a3⟩
      · by_cases hd : f_X8_ofWood X A (nI k) 0 = club
        · rw [if_pos hd]
          by_cases hc : (if b0 < b1 then b1 else b0) ≤ f_X8_distance X A (nI k)
          · rw [if_pos hc]; exact ⟨m1, by omega, by omega, a3⟩
          · rw [if_neg hc, nI_1]; exact ⟨m2, by omega, by omega, a6⟩
        · rw [if_neg hd]; exact ⟨m1, by omega, by omega, a3⟩
theorem cnt_range {X : Nat → Int32} {A : Nat → Nat → Int32} {p z : Int32} (hz : z = f_X8_counted X A p) : ∃ m, m ≤ 27 ∧ z = nI m := by
  unfold f_X8_counted at hz
  dsimp only [bd] at hz
  split at hz
  · exact ⟨0, by omega, hz⟩
  · split at hz
    · obtain ⟨m, -, h2, h3⟩ := cnt_l39 (X := X) (A := A) (p1 := p) (club := 1) (b0 := f_X8_least X A p 0) (b1 := f_X8_least X A p 1) 17 0 0
      refine ⟨m + 10, by omega, hz.trans ?_⟩
      have h4 : f_X8_counted_l39 X A p 17 0 1 0 (f_X8_least X A p 0) (f_X8_least X A p 1) = (1, nI m, f_X8_least X A p 0, f_X8_least X A p 1) := h3
      rw [h4]
      exact nI_add m 10
    · obtain ⟨m, -, h2, h3⟩ := cnt_l39 (X := X) (A := A) (p1 := p) (club := 0) (b0 := f_X8_least X A p 0) (b1 := f_X8_least X A p 1) 17 0 0
      refine ⟨m, by omega, hz.trans ?_⟩
      have h4 : f_X8_counted_l39 X A p 17 0 0 0 (f_X8_least X A p 0) (f_X8_least X A p 1) = (0, nI m, f_X8_least X A p 0, f_X8_least X A p 1) := h3
      rw [h4]
      exact nI_add m 0
theorem cnt_div {X : Nat → Int32} {A : Nat → Nat → Int32} {p z : Int32} (hz : z = f_X8_counted X A p) : vp_in (z / 10) 3 := by
  obtain ⟨m, hm, rfl⟩ := cnt_range hz
  rw [show (nI m / 10) = nI (m / 10) from pk_div (d := 10) (by omega) (by decide) (by decide)]
  exact vp_in_nI (by omega) (by decide)

def f_X8_starts (X : Nat → Int32) (A : Nat → Nat → Int32) (p1 : Int32) (p2 : Int32) : Int32 × (Nat → Int32) × (Nat → Nat → Int32) :=
  bd (f_X8_isRink X A p1) fun z1 =>
  if z1 = 0 then
    ((-1), (X, A))
  else
    bd (f_X8_in X A p2 20 40) fun z3 =>
    if z3 = 0 then
      ((-2), (X, A))
    else
      bd (f_X8_ofRink X A p1 4) fun z5 =>
      if z5 ≤ 0 then
        bd (f_X8_ofRink X A p1 2) fun z7 =>
        if z7 < 8 then
          bd (f_X8_setsRink X A p1 4 p2) fun z9 =>
          bd (f_X8_ofRink X z9 p1 6) fun z10 =>
          bd (f_X8_setsRink X z9 p1 5 z10) fun z11 =>
          bd (f_X8_setsRink X z11 p1 7 0) fun z12 =>
          bd (f_X8_setsRink X z12 p1 8 0) fun z13 =>
          bd (f_X8_ofRink X z13 p1 5) fun z14 =>
          bd (f_X8_does X z13 z14) fun z15 =>
          (z15.1, (z15.2, z13))
        else
          bd (f_X8_hoursToDry X A p1) fun z16 =>
          bd (f_X8_refuses X A 13 z16) fun z17 =>
          bd (f_X8_ofRink z17.2.1 z17.2.2 p1 2) fun z18 =>
          bd (f_X8_refusesBy z17.2.1 z17.2.2 3 z18) fun z19 =>
          (z19.1, (z19.2.1, z19.2.2))
      else
        bd (f_X8_ofRink X A p1 4) fun z20 =>
        bd (f_X8_refuses X A 4 z20) fun z21 =>
        (z21.1, (z21.2.1, z21.2.2))
def f_X8_bowls (X : Nat → Int32) (A : Nat → Nat → Int32) (p1 : Int32) (p2 : Int32) (p3 : Int32) (p4 : Int32) (p5 : Int32) : Int32 × (Nat → Int32) × (Nat → Nat → Int32) :=
  bd (f_X8_isRink X A p1) fun z1 =>
  if z1 = 0 then
    ((-1), (X, A))
  else
    bd (f_X8_isWood X A p2) fun z3 =>
    if z3 = 0 then
      ((-1), (X, A))
    else
      bd (f_X8_isBad X A p1 p3) fun z5 =>
      if z5 = 0 then
        bd (f_X8_in X A p4 1 20) fun z7 =>
        if z7 = 0 then
          ((-2), (X, A))
        else
          bd (f_X8_ofRink X A p1 4) fun z9 =>
          if z9 = 0 then
            bd (f_X8_refuses X A 5 p1) fun z49 =>
            (z49.1, (z49.2.1, z49.2.2))
          else
            bd (f_X8_ofWood X A p2 2) fun z11 =>
            if z11 ≤ 0 then
              bd (f_X8_ofWood X A p2 0) fun z13 =>
              bd (f_X8_ofRink X A p1 (7 + z13)) fun z14 =>
              if z14 = 4 then
                bd (f_X8_refuses X A 8 4) fun z46 =>
                (z46.1, (z46.2.1, z46.2.2))
              else
                bd (f_X8_ofRink X A p1 5) fun z16 =>
                if z16 = z13 then
                  bd (f_X8_columnOf X A p2 p3 p4 p5) fun z18 =>
                  bd (f_X8_lengthOf X A p1 p2 z18 p4) fun z19 =>
                  bd (f_X8_setsWood X A p2 3 p1) fun z20 =>
                  if 0 ≤ z19 then
                    bd (f_X8_setsWood X z20 p2 2 1) fun z22 =>
                    bd (f_X8_setsWood X z22 p2 4 z18) fun z24 =>
                    bd (f_X8_setsWood X z24 p2 5 (if 0 < z19 then z19 else 0)) fun z25 =>
                    bd (f_X8_ofWood X z25 p2 6) fun z26 =>
                    bd (f_X8_setsWood X z25 p2 6 (z26 + 1)) fun z27 =>
                    bd (f_X8_ofRink X z27 p1 (7 + z13)) fun z28 =>
                    bd (f_X8_setsRink X z27 p1 (7 + z13) (z28 + 1)) fun z29 =>
                    bd (f_X8_setsRink X z29 p1 5 (1 - z13)) fun z30 =>
                    bd (f_X8_distance X (up2 z30 0 5 ((z30 0 5) + 1)) p2) fun z32 =>
                    bd (f_X8_does X (up2 z30 0 5 ((z30 0 5) + 1)) z32) fun z33 =>
                    (z33.1, (z33.2, up2 z30 0 5 ((z30 0 5) + 1)))
                  else
                    bd (f_X8_setsWood X z20 p2 2 2) fun z34 =>
                    bd (f_X8_setsWood X z34 p2 4 0) fun z36 =>
                    bd (f_X8_setsWood X z36 p2 5 (if 0 < z19 then z19 else 0)) fun z37 =>
                    bd (f_X8_ofWood X z37 p2 6) fun z38 =>
                    bd (f_X8_setsWood X z37 p2 6 (z38 + 1)) fun z39 =>
                    bd (f_X8_ofRink X z39 p1 (7 + z13)) fun z40 =>
                    bd (f_X8_setsRink X z39 p1 (7 + z13) (z40 + 1)) fun z41 =>
                    bd (f_X8_setsRink X z41 p1 5 (1 - z13)) fun z42 =>
                    bd (f_X8_does X (up2 z42 0 5 ((z42 0 5) + 1)) (-4)) fun z44 =>
                    (z44.1, (z44.2, up2 z42 0 5 ((z42 0 5) + 1)))
                else
                  bd (f_X8_refuses X A 6 (1 - z13)) fun z45 =>
                  (z45.1, (z45.2.1, z45.2.2))
            else
              bd (f_X8_ofWood X A p2 3) fun z47 =>
              bd (f_X8_refuses X A 7 z47) fun z48 =>
              (z48.1, (z48.2.1, z48.2.2))
      else
        ((-2), (X, A))
def f_X8_closes_l157 (X : Nat → Int32) (p1 : Int32) (k : Nat) : Nat → Nat → (Nat → Nat → Int32) → (Nat → Nat → Int32)
  | 0, _, Aj => Aj
  | n + 1, j, Aj =>
    if 5 < (nI j) then
      Aj
    else
      bd (f_X8_setsWood X Aj (nI k) (nI j) 0) fun z18 =>
      f_X8_closes_l157 X p1 k n (j + 1) z18
def f_X8_closes_l122 (X : Nat → Int32) (p1 : Int32) : Nat → Nat → (Nat → Nat → Int32) → (Nat → Nat → Int32)
  | 0, _, Ak => Ak
  | n + 1, k, Ak =>
    if (Ak 0 4) ≤ (nI k) then
      Ak
    else
      bd (f_X8_ofWood X Ak (nI k) 2) fun z13 =>
      if z13 = 0 then
        f_X8_closes_l122 X p1 n (k + 1) Ak
      else
        bd (f_X8_ofWood X Ak (nI k) 3) fun z15 =>
        if z15 = p1 then
          bd (f_X8_closes_l157 X p1 k 5 2 Ak) fun z19 =>
          f_X8_closes_l122 X p1 n (k + 1) z19
        else
          f_X8_closes_l122 X p1 n (k + 1) Ak
def f_X8_closes (X : Nat → Int32) (A : Nat → Nat → Int32) (p1 : Int32) : Int32 × (Nat → Int32) × (Nat → Nat → Int32) :=
  bd (f_X8_isRink X A p1) fun z1 =>
  if z1 = 0 then
    ((-1), (X, A))
  else
    bd (f_X8_ofRink X A p1 4) fun z3 =>
    if z3 = 0 then
      bd (f_X8_refuses X A 5 p1) fun z38 =>
      (z38.1, (z38.2.1, z38.2.2))
    else
      bd (f_X8_counted X A p1) fun z5 =>
      if z5 ≤ 0 then
        bd (f_X8_setsRink X A p1 4 0) fun z7 =>
        bd (f_X8_ofRink X z7 p1 6) fun z8 =>
        bd (f_X8_setsRink X z7 p1 5 z8) fun z9 =>
        bd (f_X8_ofRink X z9 p1 9) fun z10 =>
        bd (f_X8_setsRink X z9 p1 9 (z10 + 1)) fun z11 =>
        bd (f_X8_closes_l122 X p1 17 0 z11) fun z20 =>
        bd (f_X8_does X z20 z5) fun z21 =>
        (z21.1, (z21.2, z20))
      else
        bd (f_X8_setsRink X (up2 (up2 A 0 (9 + (4 * ((z5 / 10).toNatClampNeg))) ((A 0 (9 + (4 * ((z5 / 10).toNatClampNeg)))) + (z5 - z5 / 10 * 10))) 0 ((9 + (4 * ((z5 / 10).toNatClampNeg))) + 1) (((up2 A 0 (9 + (4 * ((z5 / 10).toNatClampNeg))) ((A 0 (9 + (4 * ((z5 / 10).toNatClampNeg)))) + (z5 - z5 / 10 * 10))) 0 ((9 + (4 * ((z5 / 10).toNatClampNeg))) + 1)) + 1)) p1 6 (z5 / 10)) fun z22 =>
        bd (f_X8_setsRink X z22 p1 4 0) fun z23 =>
        bd (f_X8_ofRink X z23 p1 6) fun z24 =>
        bd (f_X8_setsRink X z23 p1 5 z24) fun z25 =>
        bd (f_X8_ofRink X z25 p1 9) fun z26 =>
        bd (f_X8_setsRink X z25 p1 9 (z26 + 1)) fun z27 =>
        bd (f_X8_closes_l122 X p1 17 0 z27) fun z36 =>
        bd (f_X8_does X z36 z5) fun z37 =>
        (z37.1, (z37.2, z36))
def f_X8_sweeps (X : Nat → Int32) (A : Nat → Nat → Int32) (p1 : Int32) : Int32 × (Nat → Int32) × (Nat → Nat → Int32) :=
  bd (f_X8_isRink X A p1) fun z1 =>
  if z1 = 0 then
    ((-1), (X, A))
  else
    bd (f_X8_ofRink X A p1 3) fun z3 =>
    if z3 = 0 then
      bd (f_X8_refuses X A 9 p1) fun z9 =>
      (z9.1, (z9.2.1, z9.2.2))
    else
      if ((z3 + 2) / 3) ≤ (A 0 6) then
        bd (f_X8_setsRink X (up2 (up2 (up2 A 0 6 ((A 0 6) - ((z3 + 2) / 3))) 0 7 (((up2 A 0 6 ((A 0 6) - ((z3 + 2) / 3))) 0 7) + ((z3 + 2) / 3))) 0 8 (((up2 (up2 A 0 6 ((A 0 6) - ((z3 + 2) / 3))) 0 7 (((up2 A 0 6 ((A 0 6) - ((z3 + 2) / 3))) 0 7) + ((z3 + 2) / 3))) 0 8) + z3)) p1 3 0) fun z6 =>
        bd (f_X8_does X z6 z3) fun z7 =>
        (z7.1, (z7.2, z6))
      else
        bd (f_X8_refuses X A 10 (((z3 + 2) / 3) - (A 0 6))) fun z8 =>
        (z8.1, (z8.2.1, z8.2.2))
def f_X8_drinks (X : Nat → Int32) (A : Nat → Nat → Int32) (p1 : Int32) : Int32 × (Nat → Int32) × (Nat → Nat → Int32) :=
  bd (f_X8_in X A p1 0 1) fun z1 =>
  if z1 = 0 then
    ((-1), (X, A))
  else
    if (A 0 6) = 0 then
      bd (f_X8_refuses X A 10 1) fun z7 =>
      (z7.1, (z7.2.1, z7.2.2))
    else
      if (A 0 ((9 + (4 * p1.toNatClampNeg)) + 2)) = 0 then
        bd (f_X8_refuses X A 11 p1) fun z6 =>
        (z6.1, (z6.2.1, z6.2.2))
      else
        bd (f_X8_does X (up2 (up2 (up2 (up2 A 0 6 ((A 0 6) - 1)) 0 7 (((up2 A 0 6 ((A 0 6) - 1)) 0 7) + 1)) 0 ((9 + (4 * p1.toNatClampNeg)) + 2) (((up2 (up2 A 0 6 ((A 0 6) - 1)) 0 7 (((up2 A 0 6 ((A 0 6) - 1)) 0 7) + 1)) 0 ((9 + (4 * p1.toNatClampNeg)) + 2)) - 1)) 0 ((9 + (4 * p1.toNatClampNeg)) + 3) (((up2 (up2 (up2 A 0 6 ((A 0 6) - 1)) 0 7 (((up2 A 0 6 ((A 0 6) - 1)) 0 7) + 1)) 0 ((9 + (4 * p1.toNatClampNeg)) + 2) (((up2 (up2 A 0 6 ((A 0 6) - 1)) 0 7 (((up2 A 0 6 ((A 0 6) - 1)) 0 7) + 1)) 0 ((9 + (4 * p1.toNatClampNeg)) + 2)) - 1)) 0 ((9 + (4 * p1.toNatClampNeg)) + 3)) + 1)) ((up2 (up2 (up2 (up2 A 0 6 ((A 0 6) - 1)) 0 7 (((up2 A 0 6 ((A 0 6) - 1)) 0 7) + 1)) 0 ((9 + (4 * p1.toNatClampNeg)) + 2) (((up2 (up2 A 0 6 ((A 0 6) - 1)) 0 7 (((up2 A 0 6 ((A 0 6) - 1)) 0 7) + 1)) 0 ((9 + (4 * p1.toNatClampNeg)) + 2)) - 1)) 0 ((9 + (4 * p1.toNatClampNeg)) + 3) (((up2 (up2 (up2 A 0 6 ((A 0 6) - 1)) 0 7 (((up2 A 0 6 ((A 0 6) - 1)) 0 7) + 1)) 0 ((9 + (4 * p1.toNatClampNeg)) + 2) (((up2 (up2 A 0 6 ((A 0 6) - 1)) 0 7 (((up2 A 0 6 ((A 0 6) - 1)) 0 7) + 1)) 0 ((9 + (4 * p1.toNatClampNeg)) + 2)) - 1)) 0 ((9 + (4 * p1.toNatClampNeg)) + 3)) + 1)) 0 ((9 + (4 * p1.toNatClampNeg)) + 3))) fun z5 =>
        (z5.1, (z5.2, up2 (up2 (up2 (up2 A 0 6 ((A 0 6) - 1)) 0 7 (((up2 A 0 6 ((A 0 6) - 1)) 0 7) + 1)) 0 ((9 + (4 * p1.toNatClampNeg)) + 2) (((up2 (up2 A 0 6 ((A 0 6) - 1)) 0 7 (((up2 A 0 6 ((A 0 6) - 1)) 0 7) + 1)) 0 ((9 + (4 * p1.toNatClampNeg)) + 2)) - 1)) 0 ((9 + (4 * p1.toNatClampNeg)) + 3) (((up2 (up2 (up2 A 0 6 ((A 0 6) - 1)) 0 7 (((up2 A 0 6 ((A 0 6) - 1)) 0 7) + 1)) 0 ((9 + (4 * p1.toNatClampNeg)) + 2) (((up2 (up2 A 0 6 ((A 0 6) - 1)) 0 7 (((up2 A 0 6 ((A 0 6) - 1)) 0 7) + 1)) 0 ((9 + (4 * p1.toNatClampNeg)) + 2)) - 1)) 0 ((9 + (4 * p1.toNatClampNeg)) + 3)) + 1)))
def f_X8_passes_l22 (X : Nat → Int32) (p1 : Int32) (k : Nat) : Nat → Nat → (Nat → Nat → Int32) → (Nat → Nat → Int32)
  | 0, _, Aj => Aj
  | n + 1, j, Aj =>
    if (Aj 0 3) ≤ (nI j) then
      Aj
    else
      bd (f_X8_ofRink X Aj (nI j) 2) fun z5 =>
      bd (f_X8_changed X Aj z5) fun z6 =>
      bd (f_X8_setsRink X Aj (nI j) 2 z6) fun z7 =>
      bd (f_X8_ofRink X z7 (nI j) 2) fun z8 =>
      bd (f_X8_ofRink X z7 (nI j) 3) fun z9 =>
      bd (f_X8_castsAfter X z7 (nI j) z8 z9) fun z10 =>
      bd (f_X8_setsRink X z7 (nI j) 3 z10) fun z11 =>
      f_X8_passes_l22 X p1 k n (j + 1) z11
def f_X8_passes_l15 (X : Nat → Int32) (p1 : Int32) : Nat → Nat → (Nat → Nat → Int32) → (Nat → Nat → Int32)
  | 0, _, Ak => Ak
  | n + 1, k, Ak =>
    if p1 ≤ (nI k) then
      Ak
    else
      bd (f_X8_passes_l22 X p1 k 5 0 Ak) fun z12 =>
      f_X8_passes_l15 X p1 n (k + 1) (up2 z12 0 0 ((z12 0 0) + 1))
def f_X8_passes (X : Nat → Int32) (A : Nat → Nat → Int32) (p1 : Int32) : Int32 × (Nat → Int32) × (Nat → Nat → Int32) :=
  bd (f_X8_in X A p1 1 24) fun z1 =>
  if z1 = 0 then
    ((-2), (X, A))
  else
    bd (f_X8_passes_l15 X p1 25 0 A) fun z13 =>
    bd (f_X8_allCasts X z13) fun z14 =>
    bd (f_X8_does X z13 z14) fun z15 =>
    (z15.1, (z15.2, z13))
/-- where the reading stands in the text -/
def TI (X : Nat → Int32) : Prop := vp_in (X 9) 61 ∧ vp_in (X 10) 61 ∧ X 10 ≤ X 9
theorem TI.lt2 {X : Nat → Int32} (h : TI X) (c : ¬ X 9 ≤ X 10) : vp_in (X 10) 60 := by
  obtain ⟨h1, h2, h3⟩ := h
  obtain ⟨a, ha, ea⟩ := vp_in_of h1 (by decide)
  obtain ⟨i, hi, ei⟩ := vp_in_of h2 (by decide)
  rw [ea, ei] at c
  rw [ei]
  have : ¬ a ≤ i := fun q => c (nI_le q (by omega))
  exact vp_in_nI (by omega) (by decide)
theorem TI.ne {X : Nat → Int32} (h : TI X) (c : ¬ X 10 = X 9) : ¬ X 9 ≤ X 10 := fun q => c (Int32.le_antisymm h.2.2 q)
theorem TI.lt {X : Nat → Int32} (h : TI X) (c : ¬ X 10 = X 9) : vp_in (X 10) 60 := h.lt2 (h.ne c)
theorem TI.next2 {X : Nat → Int32} (h : TI X) (c : ¬ X 9 ≤ X 10) : TI (upd X 10 (X 10 + 1)) := by
  obtain ⟨h1, h2, h3⟩ := h
  obtain ⟨a, ha, ea⟩ := vp_in_of h1 (by decide)
  obtain ⟨i, hi, ei⟩ := vp_in_of h2 (by decide)
  rw [ea, ei] at c
  have hc : ¬ a ≤ i := fun q => c (nI_le q (by omega))
  refine ⟨?_, ?_, ?_⟩
  · rw [upd_ne _ _ (by omega)]; exact h1
  · rw [upd_eq, ei, nI_1]; exact vp_in_nI (by omega) (by decide)
  · rw [upd_eq, upd_ne _ _ (by omega), ea, ei, nI_1]; exact nI_le (by omega) (by omega)
theorem TI.next {X : Nat → Int32} (h : TI X) (c : ¬ X 10 = X 9) : TI (upd X 10 (X 10 + 1)) := h.next2 (h.ne c)
theorem TI.o {X : Nat → Int32} {k : Nat} {v : Int32} (h : TI X) (h9 : k ≠ 9) (h10 : k ≠ 10) : TI (upd X k v) := by
  obtain ⟨h1, h2, h3⟩ := h
  refine ⟨?_, ?_, ?_⟩
  · rw [upd_ne _ _ (by omega)]; exact h1
  · rw [upd_ne _ _ (by omega)]; exact h2
  · rw [upd_ne _ _ (by omega), upd_ne _ _ (by omega)]; exact h3
theorem TI.on {X : Nat → Int32} {k : Nat} {v : Int32} (h : TI X) (c : ¬ X 10 = X 9) (h9 : k ≠ 9) (h10 : k ≠ 10) : TI (upd (upd X k v) 10 ((upd X k v) 10 + 1)) := TI.next (TI.o h h9 h10) (by rw [upd_ne _ _ (by omega), upd_ne _ _ (by omega)]; exact c)
/-- but for the reading's own three nothing has changed of the numbers, and it has not gone back -/
def FY (X0 X : Nat → Int32) : Prop := (∀ k, k ≠ 10 → k ≠ 11 → k ≠ 13 → X k = X0 k) ∧ (X0 10).toNatClampNeg ≤ (X 10).toNatClampNeg
theorem FY.rf {X : Nat → Int32} : FY X X := ⟨fun _ _ _ _ => rfl, Nat.le_refl _⟩
theorem FY.tr {X Y Z : Nat → Int32} (h : FY X Y) (g : FY Y Z) : FY X Z := ⟨fun k a b c => (g.1 k a b c).trans (h.1 k a b c), Nat.le_trans h.2 g.2⟩
theorem FY.o {X0 X : Nat → Int32} {k : Nat} {v : Int32} (h : FY X0 X) (hk : k = 11 ∨ k = 13) : FY X0 (upd X k v) := ⟨fun i a b c => by rw [upd_ne _ _ (by omega)]; exact h.1 i a b c, by rw [upd_ne _ _ (by omega)]; exact h.2⟩
theorem at_s {X : Nat → Int32} (h : vp_in (X 10) 60) : (X 10 + 1).toNatClampNeg = (X 10).toNatClampNeg + 1 := by
  obtain ⟨j, hj, e⟩ := vp_in_of h (by decide)
  rw [e, nI_1, nI_clamp (by omega), nI_clamp (by omega)]
theorem FY.nx {X0 X : Nat → Int32} (h : FY X0 X) (hv : vp_in (X 10) 60) : FY X0 (upd X 10 (X 10 + 1)) := ⟨fun i a b c => by rw [upd_ne _ _ a]; exact h.1 i a b c, by rw [upd_eq, at_s hv]; exact Nat.le_succ_of_le h.2⟩
theorem FY.on {X : Nat → Int32} {k : Nat} {v : Int32} (hv : vp_in (X 10) 60) (hk : k = 11 ∨ k = 13) : FY X (upd (upd X k v) 10 ((upd X k v) 10 + 1)) := FY.nx (FY.o FY.rf hk) (by rw [upd_ne _ _ (by omega)]; exact hv)
theorem dg_zero {x : Int32} (h : (3 : Int) ≤ x.toInt + ((0 : Nat) : Int) ∧ 0 ≤ x.toInt ∧ x.toInt ≤ 2) : False := by omega
theorem dg_back {x y : Int32} {n : Nat} (h : (3 : Int) ≤ x.toInt + ((n + 1 : Nat) : Int) ∧ 0 ≤ x.toInt ∧ x.toInt ≤ 2) (hy : y ≤ nI 2) (c : ¬ y ≤ x) : (3 : Int) ≤ (x + 1).toInt + ((n : Nat) : Int) ∧ 0 ≤ (x + 1).toInt ∧ (x + 1).toInt ≤ 2 := by
  have h1 := Int32.le_iff_toInt_le.mp hy
  have h2 : ¬ y.toInt ≤ x.toInt := fun q => c (Int32.le_iff_toInt_le.mpr q)
  rw [nI_toInt (by decide)] at h1
  have hx : ¬ x < 0 := fun q => by have := Int32.lt_iff_toInt_lt.mp q; rw [Int32.toInt_zero] at this; omega
  obtain ⟨j, hj, rfl⟩ := nI_of hx
  rw [nI_toInt hj] at h h2
  rw [nI_1, nI_toInt (by omega)]
  omega
theorem z_nar {v : Int32} (h : v = 0 ∨ v = 1) : narrow .boolean (.int v) = .int v := by rcases h with rfl | rfl <;> rfl
theorem z_fit {v : Int32} (h : v = 0 ∨ v = 1) : fits .boolean (.int v) = true := by rcases h with rfl | rfl <;> rfl
theorem c_nar {v : Int32} (h : ∃ q : Nat, q < 128 ∧ v = nI q) : narrow .char (.int v) = .int v := by
  obtain ⟨q, hq, rfl⟩ := h
  exact (pk_charN (by omega)).1
theorem c_fit {v : Int32} (h : ∃ q : Nat, q < 128 ∧ v = nI q) : fits .char (.int v) = true := by
  obtain ⟨q, hq, rfl⟩ := h
  exact (pk_charN (by omega)).2

def f_X8_isNext (X : Nat → Int32) (A : Nat → Nat → Int32) (p1 : Int32) : Int32 × (Nat → Int32) :=
  if (X 10) = (X 9) then
    (0, X)
  else
    if (A 5 ((X 10).toNatClampNeg)) = p1 then
      (1, upd X 10 ((X 10) + 1))
    else
      (0, X)
theorem TI_nx {X : Nat → Int32} {A : Nat → Nat → Int32} {p : Int32} {z : Int32 × (Nat → Int32)} (h : TI X) (hz : z = f_X8_isNext X A p) : TI z.2 := by
  unfold f_X8_isNext at hz
  split at hz
  · rw [hz]; exact h
  · rename_i c
    split at hz
    · rw [hz]; exact h.next c
    · rw [hz]; exact h

theorem FY_nx {X : Nat → Int32} {A : Nat → Nat → Int32} {p : Int32} {z : Int32 × (Nat → Int32)} (h : TI X) (hz : z = f_X8_isNext X A p) : FY X z.2 ∧ (¬ z.1 = 0 → (X 10).toNatClampNeg + 1 ≤ (z.2 10).toNatClampNeg) := by
  unfold f_X8_isNext at hz
  split at hz
  · rw [hz]; exact ⟨FY.rf, fun q => absurd rfl q⟩
  · rename_i c
    split at hz
    · rw [hz]
      refine ⟨FY.rf.nx (h.lt c), fun _ => ?_⟩
      show _ ≤ (upd X 10 (X 10 + 1) 10).toNatClampNeg
      rw [upd_eq, at_s (h.lt c)]
      exact Nat.le_refl _
    · rw [hz]; exact ⟨FY.rf, fun q => absurd rfl q⟩

def f_X8_digits_l9 (p1 : Int32) (p2 : Int32) : Nat → Int32 → (Nat → Int32) → (Nat → Nat → Int32) → Int32 × (Nat → Int32) × (Nat → Nat → Int32)
  | 0, x, Xk, Ak => (x, Xk, Ak)
  | n + 1, x, Xk, Ak =>
    if p2 ≤ x then
      (x, Xk, Ak)
    else
      if (Xk 9) ≤ (Xk 10) then
        (x, Xk, Ak)
      else
        bd (f_X8_in Xk Ak (Ak 5 ((Xk 10).toNatClampNeg)) 48 57) fun z3 =>
        if z3 = 0 then
          (x, Xk, Ak)
        else
          f_X8_digits_l9 p1 p2 n (x + 1) (upd Xk 10 ((Xk 10) + 1)) (up2 Ak 6 p1.toNatClampNeg (((10 * (Ak 6 p1.toNatClampNeg)) + (Ak 5 ((Xk 10).toNatClampNeg))) - 48))
def f_X8_digits (X : Nat → Int32) (A : Nat → Nat → Int32) (p1 : Int32) (p2 : Int32) : Int32 × (Nat → Int32) × (Nat → Nat → Int32) :=
  bd (f_X8_digits_l9 p1 p2 3 0 X (up2 A 6 p1.toNatClampNeg 0)) fun z5 =>
  if z5.1 ≤ 0 then
    (0, (z5.2.1, z5.2.2))
  else
    (1, (z5.2.1, z5.2.2))
def f_X8_side (X : Nat → Int32) (A : Nat → Nat → Int32) : Int32 × (Nat → Int32) :=
  bd (f_X8_isNext X A 43) fun z1 =>
  if ((upd z1.2 13 z1.1) 13) = 0 then
    bd (f_X8_isNext (upd z1.2 13 z1.1) A 45) fun z3 =>
    if z3.1 = 0 then
      (0, z3.2)
    else
      (1, z3.2)
  else
    (1, upd z1.2 13 z1.1)
def f_X8_isOrder (X : Nat → Int32) (A : Nat → Nat → Int32) : Int32 × (Nat → Int32) × (Nat → Nat → Int32) :=
  if (X 10) = (X 9) then
    (0, (X, A))
  else
    if ((upd X 11 (A 5 ((X 10).toNatClampNeg))) 11) = 98 then
      bd (f_X8_digits (upd (upd X 11 (A 5 ((X 10).toNatClampNeg))) 10 (((upd X 11 (A 5 ((X 10).toNatClampNeg))) 10) + 1)) A 0 1) fun z3 =>
      if z3.1 = 0 then
        (0, (z3.2.1, z3.2.2))
      else
        bd (f_X8_isNext z3.2.1 z3.2.2 44) fun z5 =>
        if z5.1 = 0 then
          (0, (z5.2, z3.2.2))
        else
          bd (f_X8_digits z5.2 z3.2.2 1 2) fun z7 =>
          if z7.1 = 0 then
            (0, (z7.2.1, z7.2.2))
          else
            bd (f_X8_isNext z7.2.1 z7.2.2 64) fun z9 =>
            if z9.1 = 0 then
              (0, (z9.2, z7.2.2))
            else
              bd (f_X8_digits z9.2 z7.2.2 2 2) fun z11 =>
              if z11.1 = 0 then
                (0, (z11.2.1, z11.2.2))
              else
                bd (f_X8_isNext z11.2.1 z11.2.2 42) fun z13 =>
                if z13.1 = 0 then
                  (0, (z13.2, z11.2.2))
                else
                  bd (f_X8_digits z13.2 z11.2.2 3 2) fun z15 =>
                  if z15.1 = 0 then
                    (0, (z15.2.1, z15.2.2))
                  else
                    bd (f_X8_side z15.2.1 z15.2.2) fun z17 =>
                    if z17.1 = 0 then
                      (0, (z17.2, z15.2.2))
                    else
                      (1, (z17.2, z15.2.2))
    else
      if ((upd X 11 (A 5 ((X 10).toNatClampNeg))) 11) = 99 then
        bd (f_X8_digits (upd (upd X 11 (A 5 ((X 10).toNatClampNeg))) 10 (((upd X 11 (A 5 ((X 10).toNatClampNeg))) 10) + 1)) A 0 1) fun z20 =>
        (z20.1, (z20.2.1, z20.2.2))
      else
        if ((upd X 11 (A 5 ((X 10).toNatClampNeg))) 11) = 100 then
          (0, (upd X 11 (A 5 ((X 10).toNatClampNeg)), A))
        else
          if ((upd X 11 (A 5 ((X 10).toNatClampNeg))) 11) = 101 then
            bd (f_X8_digits (upd (upd X 11 (A 5 ((X 10).toNatClampNeg))) 10 (((upd X 11 (A 5 ((X 10).toNatClampNeg))) 10) + 1)) A 0 1) fun z23 =>
            if z23.1 = 0 then
              (0, (z23.2.1, z23.2.2))
            else
              bd (f_X8_isNext z23.2.1 z23.2.2 58) fun z25 =>
              if z25.1 = 0 then
                (0, (z25.2, z23.2.2))
              else
                bd (f_X8_digits z25.2 z23.2.2 1 2) fun z27 =>
                if z27.1 = 0 then
                  (0, (z27.2.1, z27.2.2))
                else
                  (1, (z27.2.1, z27.2.2))
          else
            if ((upd X 11 (A 5 ((X 10).toNatClampNeg))) 11) = 102 then
              (0, (upd X 11 (A 5 ((X 10).toNatClampNeg)), A))
            else
              if ((upd X 11 (A 5 ((X 10).toNatClampNeg))) 11) = 103 then
                (0, (upd X 11 (A 5 ((X 10).toNatClampNeg)), A))
              else
                if ((upd X 11 (A 5 ((X 10).toNatClampNeg))) 11) = 104 then
                  bd (f_X8_digits (upd (upd X 11 (A 5 ((X 10).toNatClampNeg))) 10 (((upd X 11 (A 5 ((X 10).toNatClampNeg))) 10) + 1)) A 0 2) fun z32 =>
                  (z32.1, (z32.2.1, z32.2.2))
                else
                  if ((upd X 11 (A 5 ((X 10).toNatClampNeg))) 11) = 105 then
                    (0, (upd X 11 (A 5 ((X 10).toNatClampNeg)), A))
                  else
                    if ((upd X 11 (A 5 ((X 10).toNatClampNeg))) 11) = 106 then
                      (0, (upd X 11 (A 5 ((X 10).toNatClampNeg)), A))
                    else
                      if ((upd X 11 (A 5 ((X 10).toNatClampNeg))) 11) = 107 then
                        (0, (upd X 11 (A 5 ((X 10).toNatClampNeg)), A))
                      else
                        if ((upd X 11 (A 5 ((X 10).toNatClampNeg))) 11) = 108 then
                          (0, (upd X 11 (A 5 ((X 10).toNatClampNeg)), A))
                        else
                          if ((upd X 11 (A 5 ((X 10).toNatClampNeg))) 11) = 109 then
                            (0, (upd X 11 (A 5 ((X 10).toNatClampNeg)), A))
                          else
                            if ((upd X 11 (A 5 ((X 10).toNatClampNeg))) 11) = 110 then
                              (0, (upd X 11 (A 5 ((X 10).toNatClampNeg)), A))
                            else
                              if ((upd X 11 (A 5 ((X 10).toNatClampNeg))) 11) = 111 then
                                (0, (upd X 11 (A 5 ((X 10).toNatClampNeg)), A))
                              else
                                if ((upd X 11 (A 5 ((X 10).toNatClampNeg))) 11) = 112 then
                                  (0, (upd X 11 (A 5 ((X 10).toNatClampNeg)), A))
                                else
                                  if ((upd X 11 (A 5 ((X 10).toNatClampNeg))) 11) = 113 then
                                    (0, (upd X 11 (A 5 ((X 10).toNatClampNeg)), A))
                                  else
                                    if ((upd X 11 (A 5 ((X 10).toNatClampNeg))) 11) = 114 then
                                      bd (f_X8_digits (upd (upd X 11 (A 5 ((X 10).toNatClampNeg))) 10 (((upd X 11 (A 5 ((X 10).toNatClampNeg))) 10) + 1)) A 0 1) fun z43 =>
                                      (z43.1, (z43.2.1, z43.2.2))
                                    else
                                      if ((upd X 11 (A 5 ((X 10).toNatClampNeg))) 11) = 115 then
                                        bd (f_X8_digits (upd (upd X 11 (A 5 ((X 10).toNatClampNeg))) 10 (((upd X 11 (A 5 ((X 10).toNatClampNeg))) 10) + 1)) A 0 1) fun z45 =>
                                        (z45.1, (z45.2.1, z45.2.2))
                                      else
                                        if ((upd X 11 (A 5 ((X 10).toNatClampNeg))) 11) = 116 then
                                          bd (f_X8_digits (upd (upd X 11 (A 5 ((X 10).toNatClampNeg))) 10 (((upd X 11 (A 5 ((X 10).toNatClampNeg))) 10) + 1)) A 0 1) fun z47 =>
                                          (z47.1, (z47.2.1, z47.2.2))
                                        else
                                          if ((upd X 11 (A 5 ((X 10).toNatClampNeg))) 11) = 117 then
                                            (0, (upd X 11 (A 5 ((X 10).toNatClampNeg)), A))
                                          else
                                            if ((upd X 11 (A 5 ((X 10).toNatClampNeg))) 11) = 118 then
                                              (0, (upd X 11 (A 5 ((X 10).toNatClampNeg)), A))
                                            else
                                              if ((upd X 11 (A 5 ((X 10).toNatClampNeg))) 11) = 119 then
                                                bd (f_X8_digits (upd (upd X 11 (A 5 ((X 10).toNatClampNeg))) 10 (((upd X 11 (A 5 ((X 10).toNatClampNeg))) 10) + 1)) A 0 1) fun z51 =>
                                                (z51.1, (z51.2.1, z51.2.2))
                                              else
                                                (0, (upd X 11 (A 5 ((X 10).toNatClampNeg)), A))
theorem MI_st {X : Nat → Int32} {A : Nat → Nat → Int32} {p q : Int32} {z : Int32 × (Nat → Int32) × (Nat → Nat → Int32)} (h : MI A) (v : vp_in p 3) (hz : z = f_X8_sets X A p q) : MI z.2.2 := by
  have b := vp_lt v
  rw [hz]
  unfold f_X8_sets
  dsimp only [bd]
  split
  · exact h
  · exact MI_up h (by omega) (by omega) (by omega)
theorem r3_st {X : Nat → Int32} {A : Nat → Nat → Int32} {p q : Int32} {z : Int32 × (Nat → Int32) × (Nat → Nat → Int32)} (hz : z = f_X8_sets X A p q) : z.1 = -3 → vp_in (z.2.1 16) 3 := by
  rw [hz]
  unfold f_X8_sets
  dsimp only [bd]
  split
  · exact fun q => absurd (show (-2 : Int32) = -3 from q) (by decide)
  · exact fun q => absurd (show (0 : Int32) = -3 from q) (by decide)

theorem FX_st {X : Nat → Int32} {A : Nat → Nat → Int32} {p q : Int32} {z : Int32 × (Nat → Int32) × (Nat → Nat → Int32)} (hz : z = f_X8_sets X A p q) : FX X z.2.1 := by
  rw [hz]
  unfold f_X8_sets
  dsimp only [bd]
  split
  · exact FX.rf
  · exact FX_do rfl

def f_X8_carries (X : Nat → Int32) (A : Nat → Nat → Int32) : Int32 × (Nat → Int32) × (Nat → Nat → Int32) :=
  if (X 11) = 98 then
    bd (f_X8_bowls X A (A 6 0) (A 6 1) (A 6 2) (A 6 3) (X 13)) fun z2 =>
    (z2.1, (z2.2.1, z2.2.2))
  else
    if (X 11) = 99 then
      bd (f_X8_closes X A (A 6 0)) fun z4 =>
      (z4.1, (z4.2.1, z4.2.2))
    else
      if (X 11) = 100 then
        bd (f_X8_passes X A (A 6 0)) fun z6 =>
        (z6.1, (z6.2.1, z6.2.2))
      else
        if (X 11) = 101 then
          bd (f_X8_starts X A (A 6 0) (A 6 1)) fun z8 =>
          (z8.1, (z8.2.1, z8.2.2))
        else
          if (X 11) = 102 then
            bd (f_X8_passes X A (A 6 0)) fun z10 =>
            (z10.1, (z10.2.1, z10.2.2))
          else
            if (X 11) = 103 then
              bd (f_X8_passes X A (A 6 0)) fun z12 =>
              (z12.1, (z12.2.1, z12.2.2))
            else
              if (X 11) = 104 then
                bd (f_X8_passes X A (A 6 0)) fun z14 =>
                (z14.1, (z14.2.1, z14.2.2))
              else
                if (X 11) = 105 then
                  bd (f_X8_passes X A (A 6 0)) fun z16 =>
                  (z16.1, (z16.2.1, z16.2.2))
                else
                  if (X 11) = 106 then
                    bd (f_X8_passes X A (A 6 0)) fun z18 =>
                    (z18.1, (z18.2.1, z18.2.2))
                  else
                    if (X 11) = 107 then
                      bd (f_X8_passes X A (A 6 0)) fun z20 =>
                      (z20.1, (z20.2.1, z20.2.2))
                    else
                      if (X 11) = 108 then
                        bd (f_X8_passes X A (A 6 0)) fun z22 =>
                        (z22.1, (z22.2.1, z22.2.2))
                      else
                        if (X 11) = 109 then
                          bd (f_X8_passes X A (A 6 0)) fun z24 =>
                          (z24.1, (z24.2.1, z24.2.2))
                        else
                          if (X 11) = 110 then
                            bd (f_X8_passes X A (A 6 0)) fun z26 =>
                            (z26.1, (z26.2.1, z26.2.2))
                          else
                            if (X 11) = 111 then
                              bd (f_X8_passes X A (A 6 0)) fun z28 =>
                              (z28.1, (z28.2.1, z28.2.2))
                            else
                              if (X 11) = 112 then
                                bd (f_X8_passes X A (A 6 0)) fun z30 =>
                                (z30.1, (z30.2.1, z30.2.2))
                              else
                                if (X 11) = 113 then
                                  bd (f_X8_passes X A (A 6 0)) fun z32 =>
                                  (z32.1, (z32.2.1, z32.2.2))
                                else
                                  if (X 11) = 114 then
                                    bd (f_X8_sets X A 1 (A 6 0)) fun z34 =>
                                    (z34.1, (z34.2.1, z34.2.2))
                                  else
                                    if (X 11) = 115 then
                                      bd (f_X8_sets X A 2 (A 6 0)) fun z36 =>
                                      (z36.1, (z36.2.1, z36.2.2))
                                    else
                                      if (X 11) = 116 then
                                        bd (f_X8_drinks X A (A 6 0)) fun z38 =>
                                        (z38.1, (z38.2.1, z38.2.2))
                                      else
                                        if (X 11) = 117 then
                                          bd (f_X8_passes X A (A 6 0)) fun z40 =>
                                          (z40.1, (z40.2.1, z40.2.2))
                                        else
                                          if (X 11) = 118 then
                                            bd (f_X8_passes X A (A 6 0)) fun z42 =>
                                            (z42.1, (z42.2.1, z42.2.2))
                                          else
                                            if (X 11) = 119 then
                                              bd (f_X8_sweeps X A (A 6 0)) fun z44 =>
                                              (z44.1, (z44.2.1, z44.2.2))
                                            else
                                              bd (f_X8_passes X A (A 6 0)) fun z45 =>
                                              (z45.1, (z45.2.1, z45.2.2))
theorem tr_l2 {X : Nat → Int32} {i : Nat} (hi : i ≠ 1) : ∀ n k A, f_X8_tries_l2 X n k A i = A i := by
  intro n
  induction n with
  | zero => intro k A; rfl
  | succ n ih =>
    intro k A
    unfold f_X8_tries_l2
    split
    · rfl
    · exact (ih _ _).trans (up2_ne _ _ _ hi)
theorem tr_i {X : Nat → Int32} {A z : Nat → Nat → Int32} (hz : z = f_X8_tries X A) {i : Nat} (hi : i ≠ 1) : z i = A i := by
  rw [hz]
  unfold f_X8_tries
  dsimp only [bd]
  exact tr_l2 hi 170 0 A
theorem MI_tr {X : Nat → Int32} {A z : Nat → Nat → Int32} (h : MI A) (hz : z = f_X8_tries X A) : MI z := MI_of h (fun j _ => congrFun (tr_i hz (by omega)) j) (tr_i hz (by omega))
theorem hU_fx {X X' : Nat → Int32} (h : FX X X') (hU : vp_in (X 3) 9) : vp_in (X' 3) 9 := by rw [h.1 3 (by omega) (by omega)]; exact hU
/-- what a public call leaves: the undos in range, all but undos, depth and answer as it was, the depth in range -/
def FZ (X0 X : Nat → Int32) : Prop := vp_in (X 3) 9 ∧ (∀ k, k ≠ 3 → k ≠ 16 → k ≠ 17 → X k = X0 k) ∧ (vp_in (X0 16) 4 → vp_in (X 16) 4)
theorem FZ.of {X Y Z : Nat → Int32} (h : FX X Y) (h3 : vp_in (Z 3) 9) (g : ∀ i, i ≠ 3 → Z i = Y i) : FZ X Z := ⟨h3, fun k a b c => (g k a).trans (h.1 k b c), fun q => by rw [g 16 (by omega)]; exact h.2 q⟩
theorem FZ.fx {X Y : Nat → Int32} (h : FX X Y) (h3 : vp_in (X 3) 9) : FZ X Y := ⟨hU_fx h h3, fun k a b c => h.1 k b c, h.2⟩

def f_X8_rain (X : Nat → Int32) (A : Nat → Nat → Int32) (p1 : Int32) : Int32 × (Nat → Int32) × (Nat → Nat → Int32) :=
  bd (f_X8_tries X A) fun z1 =>
  bd (f_X8_sets X z1 1 p1) fun z2 =>
  bd (f_X8_ends z2.2.1 z2.2.2 z2.1) fun z3 =>
  (z3.1, (z3.2.1, z3.2.2))
def f_X8_sun (X : Nat → Int32) (A : Nat → Nat → Int32) (p1 : Int32) : Int32 × (Nat → Int32) × (Nat → Nat → Int32) :=
  bd (f_X8_tries X A) fun z1 =>
  bd (f_X8_sets X z1 2 p1) fun z2 =>
  bd (f_X8_ends z2.2.1 z2.2.2 z2.1) fun z3 =>
  (z3.1, (z3.2.1, z3.2.2))
def f_X8_begin (X : Nat → Int32) (A : Nat → Nat → Int32) (p1 : Int32) (p2 : Int32) : Int32 × (Nat → Int32) × (Nat → Nat → Int32) :=
  bd (f_X8_tries X A) fun z1 =>
  bd (f_X8_starts X z1 p1 p2) fun z2 =>
  bd (f_X8_ends z2.2.1 z2.2.2 z2.1) fun z3 =>
  (z3.1, (z3.2.1, z3.2.2))
def f_X8_bowl (X : Nat → Int32) (A : Nat → Nat → Int32) (p1 : Int32) (p2 : Int32) (p3 : Int32) (p4 : Int32) (p5 : Int32) : Int32 × (Nat → Int32) × (Nat → Nat → Int32) :=
  bd (f_X8_tries X A) fun z1 =>
  bd (f_X8_bowls X z1 p1 p2 p3 p4 p5) fun z2 =>
  bd (f_X8_ends z2.2.1 z2.2.2 z2.1) fun z3 =>
  (z3.1, (z3.2.1, z3.2.2))
def f_X8_close (X : Nat → Int32) (A : Nat → Nat → Int32) (p1 : Int32) : Int32 × (Nat → Int32) × (Nat → Nat → Int32) :=
  bd (f_X8_tries X A) fun z1 =>
  bd (f_X8_closes X z1 p1) fun z2 =>
  bd (f_X8_ends z2.2.1 z2.2.2 z2.1) fun z3 =>
  (z3.1, (z3.2.1, z3.2.2))
def f_X8_sweep (X : Nat → Int32) (A : Nat → Nat → Int32) (p1 : Int32) : Int32 × (Nat → Int32) × (Nat → Nat → Int32) :=
  bd (f_X8_tries X A) fun z1 =>
  bd (f_X8_sweeps X z1 p1) fun z2 =>
  bd (f_X8_ends z2.2.1 z2.2.2 z2.1) fun z3 =>
  (z3.1, (z3.2.1, z3.2.2))
def f_X8_tea (X : Nat → Int32) (A : Nat → Nat → Int32) (p1 : Int32) : Int32 × (Nat → Int32) × (Nat → Nat → Int32) :=
  bd (f_X8_tries X A) fun z1 =>
  bd (f_X8_drinks X z1 p1) fun z2 =>
  bd (f_X8_ends z2.2.1 z2.2.2 z2.1) fun z3 =>
  (z3.1, (z3.2.1, z3.2.2))
def f_X8_hour (X : Nat → Int32) (A : Nat → Nat → Int32) (p1 : Int32) : Int32 × (Nat → Int32) × (Nat → Nat → Int32) :=
  bd (f_X8_tries X A) fun z1 =>
  bd (f_X8_passes X z1 p1) fun z2 =>
  bd (f_X8_ends z2.2.1 z2.2.2 z2.1) fun z3 =>
  (z3.1, (z3.2.1, z3.2.2))
def f_X8_brew (X : Nat → Int32) (A : Nat → Nat → Int32) (p1 : Int32) : Int32 × (Nat → Int32) × (Nat → Nat → Int32) :=
  bd (f_X8_tries X A) fun z1 =>
  bd (f_X8_in X z1 p1 1 20) fun z2 =>
  if z2 = 0 then
    ((-2), (X, z1))
  else
    bd (f_X8_keeps X (up2 z1 0 6 (if ((z1 0 6) + p1) < 40 then ((z1 0 6) + p1) else 40)) ((up2 z1 0 6 (if ((z1 0 6) + p1) < 40 then ((z1 0 6) + p1) else 40)) 0 6)) fun z4 =>
    (z4.1, (z4.2.1, z4.2.2))
def f_X8_rink_l118 (X : Nat → Int32) (p1 : Int32) (p2 : Int32) (n0 : Int32) : Nat → Nat → (Nat → Nat → Int32) → (Nat → Nat → Int32)
  | 0, _, Aj => Aj
  | n + 1, j, Aj =>
    if 10 ≤ (nI j) then
      Aj
    else
      bd (f_X8_setsRink X Aj n0 (nI j) 0) fun z11 =>
      f_X8_rink_l118 X p1 p2 n0 n (j + 1) z11
def f_X8_rink_l63 (X : Nat → Int32) (p1 : Int32) (p2 : Int32) : Nat → Nat → Int32 → (Nat → Nat → Int32) → Int32 × (Nat → Int32) × (Nat → Nat → Int32)
  | 0, _, n0, Ak => (0, (X, Ak))
  | n + 1, k, n0, Ak =>
    if n0 ≤ (nI k) then
      bd (f_X8_rink_l118 X p1 p2 n0 11 0 (up2 Ak 0 3 ((Ak 0 3) + 1))) fun z12 =>
      bd (f_X8_setsRink X z12 n0 0 p1) fun z13 =>
      bd (f_X8_setsRink X z13 n0 1 p2) fun z14 =>
      bd (f_X8_keeps X z14 n0) fun z15 =>
      (z15.1, (z15.2.1, z15.2.2))
    else
      bd (f_X8_ofRink X Ak (nI k) 1) fun z16 =>
      if z16 < p1 then
        f_X8_rink_l63 X p1 p2 n (k + 1) n0 Ak
      else
        bd (f_X8_ofRink X Ak (nI k) 0) fun z18 =>
        if p2 < z18 then
          f_X8_rink_l63 X p1 p2 n (k + 1) n0 Ak
        else
          bd (f_X8_refuses X Ak 2 (nI k)) fun z20 =>
          (z20.1, (z20.2.1, z20.2.2))
def f_X8_rink (X : Nat → Int32) (A : Nat → Nat → Int32) (p1 : Int32) (p2 : Int32) : Int32 × (Nat → Int32) × (Nat → Nat → Int32) :=
  bd (f_X8_tries X A) fun z1 =>
  bd (f_X8_in X z1 p1 0 29) fun z2 =>
  if z2 = 0 then
    ((-2), (X, z1))
  else
    bd (f_X8_in X z1 p2 0 29) fun z4 =>
    if z4 = 0 then
      ((-2), (X, z1))
    else
      bd (f_X8_in X z1 ((p2 - p1) + 1) 3 10) fun z6 =>
      if z6 = 0 then
        ((-2), (X, z1))
      else
        if (z1 0 3) = 4 then
          bd (f_X8_refuses X z1 1 4) fun z21 =>
          (z21.1, (z21.2.1, z21.2.2))
        else
          f_X8_rink_l63 X p1 p2 5 0 (z1 0 3) z1
def f_X8_wood_l62 (X : Nat → Int32) (p1 : Int32) (p2 : Int32) : Nat → Nat → Int32 → (Nat → Nat → Int32) → Int32 × (Nat → Nat → Int32)
  | 0, _, n0, Ak => (n0, Ak)
  | n + 1, k, n0, Ak =>
    if 7 ≤ (nI k) then
      (n0, Ak)
    else
      bd (f_X8_setsWood X Ak n0 (nI k) 0) fun z8 =>
      f_X8_wood_l62 X p1 p2 n (k + 1) n0 z8
def f_X8_wood (X : Nat → Int32) (A : Nat → Nat → Int32) (p1 : Int32) (p2 : Int32) : Int32 × (Nat → Int32) × (Nat → Nat → Int32) :=
  bd (f_X8_tries X A) fun z1 =>
  bd (f_X8_in X z1 p1 0 1) fun z2 =>
  if z2 = 0 then
    ((-1), (X, z1))
  else
    bd (f_X8_in X z1 p2 0 9) fun z4 =>
    if z4 = 0 then
      ((-2), (X, z1))
    else
      if (z1 0 4) = 16 then
        bd (f_X8_refuses X z1 1 16) fun z13 =>
        (z13.1, (z13.2.1, z13.2.2))
      else
        bd (f_X8_wood_l62 X p1 p2 8 0 (z1 0 4) (up2 z1 0 4 ((z1 0 4) + 1))) fun z9 =>
        bd (f_X8_setsWood X z9.2 z9.1 0 p1) fun z10 =>
        bd (f_X8_setsWood X z10 z9.1 1 p2) fun z11 =>
        bd (f_X8_keeps X z11 z9.1) fun z12 =>
        (z12.1, (z12.2.1, z12.2.2))
theorem un_8 {X : Nat → Int32} (h : vp_in (X 3) 9) (hne : ¬ X 3 = 0) : vp_in (upd X 3 (X 3 - 1) 3) 8 := by
  rw [upd_eq]
  obtain ⟨j, hj, e⟩ := vp_in_of h (by decide)
  rw [e] at hne ⊢
  cases j with
  | zero => exact absurd rfl hne
  | succ i => rw [nI_pred]; exact vp_in_nI (by omega) (by decide)

def f_X8_undo_l22 (X : Nat → Int32) : Nat → Nat → (Nat → Nat → Int32) → (Nat → Nat → Int32)
  | 0, _, Ak => Ak
  | n + 1, k, Ak =>
    if 169 ≤ (nI k) then
      Ak
    else
      f_X8_undo_l22 X n (k + 1) (up2 Ak 0 k (Ak 2 ((169 * (((upd X 3 ((X 3) - 1)) 3).toNatClampNeg)) + k)))
def f_X8_undo (X : Nat → Int32) (A : Nat → Nat → Int32) : Int32 × (Nat → Int32) × (Nat → Nat → Int32) :=
  if (X 3) = 0 then
    ((-4), (X, A))
  else
    bd (f_X8_undo_l22 X 170 0 A) fun z3 =>
    ((upd X 3 ((X 3) - 1)) 3, (upd X 3 ((X 3) - 1), z3))
def f_X8_save_l7 (X : Nat → Int32) : Nat → Nat → (Nat → Nat → Int32) → (Nat → Nat → Int32)
  | 0, _, Ak => Ak
  | n + 1, k, Ak =>
    if 169 ≤ (nI k) then
      Ak
    else
      f_X8_save_l7 X n (k + 1) (up2 Ak 3 k (Ak 0 k))
def f_X8_save (X : Nat → Int32) (A : Nat → Nat → Int32) : Int32 × (Nat → Int32) × (Nat → Nat → Int32) :=
  bd (f_X8_save_l7 X 170 0 A) fun z2 =>
  (z2 0 0, (upd X 5 1, z2))
def f_X8_restore_l12 (X : Nat → Int32) : Nat → Nat → (Nat → Nat → Int32) → (Nat → Nat → Int32)
  | 0, _, Ak => Ak
  | n + 1, k, Ak =>
    if 169 ≤ (nI k) then
      Ak
    else
      f_X8_restore_l12 X n (k + 1) (up2 Ak 0 k (Ak 3 k))
def f_X8_restore (X : Nat → Int32) (A : Nat → Nat → Int32) : Int32 × (Nat → Int32) × (Nat → Nat → Int32) :=
  if (X 5) = 0 then
    ((-4), (X, A))
  else
    bd (f_X8_restore_l12 X 170 0 A) fun z3 =>
    (z3 0 0, (upd X 3 0, z3))
/-- of the numbers, nothing but the reading's three and the reasons' two has changed -/
def FP (X0 X : Nat → Int32) : Prop := (∀ k, k ≠ 10 → k ≠ 11 → k ≠ 13 → k ≠ 16 → k ≠ 17 → X k = X0 k) ∧ (vp_in (X0 16) 4 → vp_in (X 16) 4)
theorem FP.rf {X : Nat → Int32} : FP X X := ⟨fun _ _ _ _ _ _ => rfl, fun h => h⟩
theorem FP.y {X Y Z : Nat → Int32} (h : FP X Y) (g : FY Y Z) : FP X Z := ⟨fun k a b c d e => (g.1 k a b c).trans (h.1 k a b c d e), fun q => by rw [g.1 16 (by omega) (by omega) (by omega)]; exact h.2 q⟩
theorem FP.x {X Y Z : Nat → Int32} (h : FP X Y) (g : FX Y Z) : FP X Z := ⟨fun k a b c d e => (g.1 k d e).trans (h.1 k a b c d e), fun q => g.2 (h.2 q)⟩
theorem FP.t {X Y : Nat → Int32} {v : Int32} (h : FP X Y) : FP X (upd Y 10 v) := ⟨fun k a b c d e => by rw [upd_ne _ _ a]; exact h.1 k a b c d e, fun q => by rw [upd_ne _ _ (by omega)]; exact h.2 q⟩
theorem TI0 {X : Nat → Int32} (h : vp_in (X 9) 61) : TI (upd X 10 0) := by
  refine ⟨?_, ?_, ?_⟩
  · rw [upd_ne _ _ (by omega)]; exact h
  · rw [upd_eq]; exact vp_in_nI (n := 0) (by decide) (by decide)
  · rw [upd_eq, upd_ne _ _ (by omega)]
    obtain ⟨j, hj, e⟩ := vp_in_of h (by decide)
    rw [e]; exact nI_le (a := 0) (by omega) (by omega)
theorem TI.fx {X Y : Nat → Int32} (h : TI X) (g : FX X Y) : TI Y := by
  refine ⟨?_, ?_, ?_⟩
  · rw [g.1 9 (by omega) (by omega)]; exact h.1
  · rw [g.1 10 (by omega) (by omega)]; exact h.2.1
  · rw [g.1 9 (by omega) (by omega), g.1 10 (by omega) (by omega)]; exact h.2.2
theorem l1_z {X : Nat → Int32} {b : Int32} (hT : TI X) (hm : 62 ≤ (X 10).toNatClampNeg + 0 ∨ (b = 0 ∧ 1 ≤ 0)) : False := by
  have := vp_lt hT.2.1
  rcases hm with h | h <;> omega
theorem l1_f {X : Nat → Int32} {b : Int32} {n : Nat} (hT : TI X) (hm : 62 ≤ (X 10).toNatClampNeg + (n + 1) ∨ (b = 0 ∧ 1 ≤ n + 1)) (c : ¬ b = 0) {Y : Nat → Int32} : 62 ≤ (Y 10).toNatClampNeg + n ∨ ((0 : Int32) = 0 ∧ 1 ≤ n) := by
  have := vp_lt hT.2.1
  rcases hm with h | h
  · exact Or.inr ⟨rfl, by omega⟩
  · exact absurd h.1 c
theorem l1_t {X Y : Nat → Int32} {b b' : Int32} {n : Nat} (hm : 62 ≤ (X 10).toNatClampNeg + (n + 1) ∨ (b = 0 ∧ 1 ≤ n + 1)) (c : ¬ b = 0) (h : (X 10).toNatClampNeg + 1 ≤ (Y 10).toNatClampNeg) : 62 ≤ (Y 10).toNatClampNeg + n ∨ (b' = 0 ∧ 1 ≤ n) := by
  rcases hm with q | q
  · exact Or.inl (by omega)
  · exact absurd q.1 c

theorem l2_le {X Y Z W : Nat → Int32} (a : (X 10).toNatClampNeg ≤ (Y 10).toNatClampNeg) (b : FX Y Z) (c : (Z 10).toNatClampNeg + 1 ≤ (W 10).toNatClampNeg) : (X 10).toNatClampNeg + 1 ≤ (W 10).toNatClampNeg := by
  rw [b.1 10 (by omega) (by omega)] at c
  omega
theorem hD_y {X Y : Nat → Int32} {r : Int32} (h : r = -3 → vp_in (X 16) 3) (g : FY X Y) : r = -3 → vp_in (Y 16) 3 := fun q => by rw [g.1 16 (by omega) (by omega) (by omega)]; exact h q

def f_X8_script_l14  : Nat → Int32 → (Nat → Int32) → (Nat → Nat → Int32) → Int32 × (Nat → Int32) × (Nat → Nat → Int32)
  | 0, is, Xk, Ak => (is, Xk, Ak)
  | n + 1, is, Xk, Ak =>
    if is = 0 then
      (is, Xk, Ak)
    else
      if (Xk 9) ≤ (Xk 10) then
        (is, Xk, Ak)
      else
        bd (f_X8_isNext Xk Ak 59) fun z5 =>
        if z5.1 = 0 then
          f_X8_script_l14 n 0 z5.2 Ak
        else
          bd (f_X8_isOrder z5.2 Ak) fun z7 =>
          if z7.1 = 0 then
            f_X8_script_l14 n 0 z7.2.1 z7.2.2
          else
            f_X8_script_l14 n 1 z7.2.1 z7.2.2
def f_X8_script_l86  : Nat → Int32 → Int32 → Int32 → Int32 → (Nat → Int32) → (Nat → Nat → Int32) → Int32 × Int32 × Int32 × Int32 × (Nat → Int32) × (Nat → Nat → Int32)
  | 0, is, cn, no, more, Xk, Ak => (is, cn, no, more, Xk, Ak)
  | n + 1, is, cn, no, more, Xk, Ak =>
    if more = 0 then
      (is, cn, no, more, Xk, Ak)
    else
      bd (f_X8_isOrder Xk Ak) fun z12 =>
      bd (f_X8_carries z12.2.1 z12.2.2) fun z13 =>
      if z13.1 = 0 then
        bd (f_X8_isNext z13.2.1 z13.2.2 59) fun z17 =>
        if z17.1 = 0 then
          f_X8_script_l86 n z12.1 (cn + 1) z13.1 0 z17.2 z13.2.2
        else
          f_X8_script_l86 n z12.1 (cn + 1) z13.1 1 z17.2 z13.2.2
      else
        f_X8_script_l86 n z12.1 cn z13.1 0 z13.2.1 z13.2.2
def f_X8_script (X : Nat → Int32) (A : Nat → Nat → Int32) : Int32 × (Nat → Int32) × (Nat → Nat → Int32) :=
  bd (f_X8_tries X A) fun z1 =>
  bd (f_X8_isOrder (upd X 10 0) z1) fun z2 =>
  bd (f_X8_script_l14 63 z2.1 z2.2.1 z2.2.2) fun z9 =>
  if z9.1 = 0 then
    ((-2), (upd (upd z9.2.1 9 0) 14 ((upd z9.2.1 9 0) 10), z9.2.2))
  else
    bd (f_X8_script_l86 63 z9.1 0 0 1 (upd z9.2.1 10 0) z9.2.2) fun z19 =>
    if z19.2.2.1 = 0 then
      bd (f_X8_keeps (upd z19.2.2.2.2.1 9 0) z19.2.2.2.2.2 z19.2.1) fun z25 =>
      (z25.1, (z25.2.1, z25.2.2))
    else
      bd (f_X8_comesBack (upd z19.2.2.2.2.1 9 0) z19.2.2.2.2.2) fun z21 =>
      if z19.2.2.1 = (-3) then
        bd (f_X8_refusesBy (upd z19.2.2.2.2.1 9 0) z21 12 z19.2.1) fun z24 =>
        (z24.1, (z24.2.1, z24.2.2))
      else
        bd (f_X8_refuses (upd z19.2.2.2.2.1 9 0) z21 12 z19.2.1) fun z23 =>
        (z23.1, (z23.2.1, z23.2.2))
def f_X8_meanWet_l17 (X : Nat → Int32) (A : Nat → Nat → Int32) : Nat → Nat → Int32 → Int32
  | 0, _, sum => sum
  | n + 1, k, sum =>
    if (A 0 3) ≤ (nI k) then
      sum
    else
      bd (f_X8_ofRink X A (nI k) 2) fun z3 =>
      f_X8_meanWet_l17 X A n (k + 1) (sum + z3)
def f_X8_meanWet (X : Nat → Int32) (A : Nat → Nat → Int32) : UInt32 :=
  if (A 0 3) = 0 then
    FP.fconst0
  else
    bd (f_X8_meanWet_l17 X A 5 0 0) fun z4 =>
    (FP.fdiv (FP.i2f z4) (FP.i2f (A 0 3)))
def f_X8_winShare (X : Nat → Int32) (A : Nat → Nat → Int32) : UInt64 :=
  bd (f_X8_closed X A) fun z1 =>
  if z1 = 0 then
    FP.dconst0
  else
    (FP.ddiv (FP.i2d ((A 0 10) + (A 0 14))) (FP.i2d z1))
