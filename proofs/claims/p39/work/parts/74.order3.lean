section OR2
variable {M : gM} {f : Nat → Int32} {p : Int32}
theorem isWood_1 (h : GR M f) {k : Nat} (hk : k < 16) (hc : ¬ M.1 4 ≤ nI k) : f_X1_isWood M (nI k) = 1 := by
  unfold f_X1_isWood
  rw [if_neg (nI_pos (by omega)), if_neg hc]
theorem isWood_m4 : f_X1_isWood M (-4) = 0 := by
  unfold f_X1_isWood
  rw [if_pos (by decide)]
/-- the woods of the winner are the first in the order -/
theorem good_rank (h : GR M f) {c lim : Int32} (hc : ∀ i, i < 16 → lyB M p i = true → M.2.2.1 i 0 ≠ c → lim ≤ M.2.2.1 i 6) {k : Nat} (hk : k < 16) (hL : lyB M p k = true) :
    (good M p c lim k = true → rank (lyB M p) (dI M) k < cnt (good M p c lim) 16) ∧ (good M p c lim k = false → cnt (good M p c lim) 16 ≤ rank (lyB M p) (dI M) k) := by
  constructor
  · intro hg
    have g := good_i.mp hg
    refine cnt_lt_of (x := k) 16 hk (and_n (pre_n.mpr (by omega))) hg (fun j hj e => ?_)
    have e1 := and_i.mp e
    have e2 := pre_i.mp e1.2
    have hlt : M.2.2.1 j 6 < lim := by
      have a := Int32.lt_iff_toInt_lt.mp g.2.2
      refine Int32.lt_iff_toInt_lt.mpr ?_
      have b : dI M j ≤ dI M k := by omega
      unfold dI at b
      omega
    refine good_i.mpr ⟨e1.1, ?_, hlt⟩
    by_cases q : M.2.2.1 j 0 = c
    · exact q
    · exact absurd hlt (Int32.not_lt.mpr (hc j hj e1.1 q))
  · intro hg
    refine cnt_le_of 16 (fun j hj e => ?_)
    have g := good_i.mp e
    refine and_i.mpr ⟨g.1, pre_i.mpr (Or.inl ?_)⟩
    have hk6 : lim ≤ M.2.2.1 k 6 := by
      by_cases q : M.2.2.1 k 0 = c
      · by_cases w : M.2.2.1 k 6 < lim
        · rw [good_i.mpr ⟨hL, q, w⟩] at hg; exact absurd hg (by decide)
        · exact Int32.not_lt.mp w
      · exact hc k hk hL q
    exact dI_lt.mp (Int32.lt_of_lt_of_le g.2.2 hk6)
theorem cnt_len_le : cnt (lyB M p) 16 ≤ 16 := cnt_le_n 16
/-- the loop, from the place q on -/
theorem inOrder_run (h : GR M f) {c lim : Int32} (hc : ∀ i, i < 16 → lyB M p i = true → M.2.2.1 i 0 ≠ c → lim ≤ M.2.2.1 i 6) (hlim : (∃ i, i < 16 ∧ lyB M p i = true ∧ M.2.2.1 i 0 ≠ c ∧ M.2.2.1 i 6 = lim) ∨ ∀ i, i < 16 → lyB M p i = true → M.2.2.1 i 0 = c ∧ M.2.2.1 i 6 < lim) :
    ∀ n q win, n + q = 17 → q ≤ cnt (good M p c lim) 16 → 0 < cnt (good M p c lim) 16 → (0 < q → win = c) → f_X1_countShotsInOrder_l7 M p n q win (nI q) = (c, nI (cnt (good M p c lim) 16)) := by
  intro n
  induction n with
  | zero =>
    intro q win hq hle
    have : cnt (good M p c lim) 16 ≤ 16 := cnt_le_n 16
    omega
  | succ n ih =>
    intro q win hq hle hpos hwin
    unfold f_X1_countShotsInOrder_l7
    dsimp only [bd]
    have hgL : cnt (good M p c lim) 16 ≤ cnt (lyB M p) 16 := cnt_le_of 16 (fun j _ e => (good_i.mp e).1)
    have hN : ∀ i, lyB M p i = true → ¬ M.1 4 ≤ nI i := fun i e => (ly_i.mp e).1
    by_cases hend : q = cnt (good M p c lim) 16
    · -- behind the last of them
      have hwq := hwin (by omega)
      by_cases a : M.1 4 ≤ nI q
      · rw [if_pos a, hwq, hend]
      · rw [if_neg a]
        rcases inOrder (p := p) h (q := q) (by have : cnt (good M p c lim) 16 ≤ 16 := cnt_le_n 16; omega) with ⟨i, hi, hLi, hri, ei⟩ | ⟨-, ei⟩
        · have hci := hN i hLi
          rw [ei, isWood_1 h hi hci, if_neg (show ¬ (1 : Int32) = 0 by decide), if_neg (show ¬ nI q = 0 from nI_ne0 (by omega) (by omega)), nI_clamp (show i < 2 ^ 31 by omega)]
          have gr := good_rank h hc hi hLi
          have hng : good M p c lim i = false := by
            cases z : good M p c lim i with
            | false => rfl
            | true => have := gr.1 z; omega
          by_cases b : M.2.2.1 i 0 = win
          · rw [if_pos b]
            -- it's matched
            have hic : M.2.2.1 i 0 = c := b.trans hwq
            have h6 : lim ≤ M.2.2.1 i 6 := by
              by_cases w : M.2.2.1 i 6 < lim
              · rw [good_i.mpr ⟨hLi, hic, w⟩] at hng; exact absurd hng (by decide)
              · exact Int32.not_lt.mp w
            rcases hlim with ⟨j, hj, hLj, hjc, hj6⟩ | hall
            · have heq : M.2.2.1 i 6 = lim := by
                by_cases w : M.2.2.1 i 6 = lim
                · exact w
                · exfalso
                  -- then j stands before i, and is none of them
                  have hlt : dI M j < dI M i := by
                    refine dI_lt.mp ?_
                    rw [hj6]
                    refine Int32.lt_iff_toInt_lt.mpr ?_
                    have x1 := Int32.le_iff_toInt_le.mp h6
                    have x2 : ¬ (M.2.2.1 i 6).toInt = lim.toInt := fun z => w (Int32.toInt_inj.mp z)
                    omega
                  have hr2 := rank_lt (L := lyB M p) (d := dI M) hj hLj (pre_i.mpr (Or.inl hlt))
                  have hr3 := (good_rank h hc hj hLj).2 (good_n (fun z => hjc z.2.1))
                  omega
              rcases matched_l (p := p) h (w := i) 17 0 rfl with ⟨-, hm⟩ | ⟨e1, -⟩
              · exact absurd (hj6.trans heq.symm) (hm j hj (Nat.zero_le _) hLj (fun z => hjc (z.trans hic)))
              · rw [show f_X1_isMatched M p i = 1 from e1, if_neg (show ¬ (1 : Int32) = 0 by decide), hwq, hend]
            · exact absurd (hall i hi hLi).2 (Int32.not_lt.mpr h6)
          · rw [if_neg b, hwq, hend]
        · rw [ei, isWood_m4, if_pos rfl, hwq, hend]
    · -- one of them
      have hlt : q < cnt (good M p c lim) 16 := by omega
      have h16 : cnt (good M p c lim) 16 ≤ 16 := cnt_le_n 16
      rcases inOrder (p := p) h (q := q) (by omega) with ⟨i, hi, hLi, hri, ei⟩ | ⟨hno, -⟩
      · have hci := hN i hLi
        have gr := good_rank h hc hi hLi
        have hg : good M p c lim i = true := by
          cases z : good M p c lim i with
          | true => rfl
          | false => have := gr.2 z; omega
        have g := good_i.mp hg
        have hqN : ¬ M.1 4 ≤ nI q := by
          intro z
          -- the woods below the count are fewer than the rank
          have hall : cnt (lyB M p) 16 = cnt (lyB M p) q := cnt_stop 16 (by omega) (fun j h1 h2 => ly_n (Or.inl (le_mono z h1 (by omega))))
          have := cnt_le_n (P := lyB M p) q
          omega
        have hm : f_X1_isMatched M p i = 0 := by
          rcases matched_l (p := p) h (w := i) 17 0 rfl with ⟨e1, -⟩ | ⟨-, j, hj, hLj, hjc, hj6⟩
          · exact e1
          · exact absurd g.2.2 (Int32.not_lt.mpr (hj6 ▸ hc j hj hLj (fun z => hjc (z.trans g.2.1.symm))))
        rw [if_neg hqN, ei, isWood_1 h hi hci, if_neg (show ¬ (1 : Int32) = 0 by decide), nI_clamp (show i < 2 ^ 31 by omega), hm, nI_1]
        by_cases z0 : q = 0
        · rw [if_pos (by rw [z0]; rfl), if_pos rfl, if_pos rfl]
          exact ih (q + 1) _ (by omega) (by omega) hpos (fun _ => g.2.1)
        · rw [if_neg (show ¬ nI q = 0 from nI_ne0 (by omega) (by omega)), if_pos (g.2.1.trans (hwin (by omega)).symm), if_pos rfl]
          exact ih (q + 1) _ (by omega) (by omega) hpos (fun _ => hwin (by omega))
      · obtain ⟨i, hi, hLi, hri⟩ := rank_ex (L := lyB M p) (d := dI M) q (by omega)
        exact absurd hri (hno i hi hLi)
theorem club_of (h : GR M f) {i : Nat} (hL : lyB M p i = true) (hi : i < 16) : M.2.2.1 i 0 = 0 ∨ M.2.2.1 i 0 = 1 := by
  have hw := h.w (by omega) (ly_i.mp hL).1
  obtain ⟨j, hj, e⟩ := vp_in_of hw.2.1.1 (by decide)
  rw [e]
  rcases (show j = 0 ∨ j = 1 by omega) with rfl | rfl
  · exact Or.inl rfl
  · exact Or.inr rfl
theorem dist_lt (h : GR M f) {i : Nat} (hL : lyB M p i = true) (hi : i < 16) : M.2.2.1 i 6 < 1000000 := by
  have hw := h.w (by omega) (ly_i.mp hL).1
  exact Int32.lt_trans (vp_lt_lit hw.2.1.2.2.2 (by decide)) (by decide)
/-- a club that has a nearest wood nearer than all of the other's -/
theorem order_win (h : GR M f) {c c1 : Int32} (hcc : (c = 0 ∧ c1 = 1) ∨ (c = 1 ∧ c1 = 0)) (hlt : f_X1_leastDistance M p c < f_X1_leastDistance M p c1) :
    f_X1_countShotsInOrder_l7 M p 17 0 (-1) 0 = (c, nI (cnt (good M p c (f_X1_leastDistance M p c1)) 16)) ∧ 0 < cnt (good M p c (f_X1_leastDistance M p c1)) 16 := by
  obtain ⟨a1, a2, a3⟩ := least_l (p := p) (c := c) h 17 0 1000000 rfl
  obtain ⟨b1, b2, b3⟩ := least_l (p := p) (c := c1) h 17 0 1000000 rfl
  have ea : f_X1_leastDistance_l6 M p c 17 0 1000000 = f_X1_leastDistance M p c := rfl
  have eb : f_X1_leastDistance_l6 M p c1 17 0 1000000 = f_X1_leastDistance M p c1 := rfl
  rw [ea] at a1 a2 a3
  rw [eb] at b1 b2 b3
  have hother : ∀ i, i < 16 → lyB M p i = true → M.2.2.1 i 0 ≠ c → M.2.2.1 i 0 = c1 := fun i hi hL hne => by
    rcases club_of h hL hi with z | z
    · rcases hcc with ⟨rfl, rfl⟩ | ⟨rfl, rfl⟩
      · exact absurd z hne
      · exact z
    · rcases hcc with ⟨rfl, rfl⟩ | ⟨rfl, rfl⟩
      · exact z
      · exact absurd z hne
  have hc : ∀ i, i < 16 → lyB M p i = true → M.2.2.1 i 0 ≠ c → f_X1_leastDistance M p c1 ≤ M.2.2.1 i 6 := fun i hi hL hne => b3 i hi (Nat.zero_le _) hL (hother i hi hL hne)
  obtain ⟨i0, hi0, hL0, hc0, h60⟩ : ∃ i, i < 16 ∧ lyB M p i = true ∧ M.2.2.1 i 0 = c ∧ M.2.2.1 i 6 = f_X1_leastDistance M p c := by
    rcases a1 with z | ⟨i, x1, -, x3, x4, x5⟩
    · rw [z] at hlt
      exact absurd (Int32.lt_of_lt_of_le hlt b2) Int32.lt_irrefl
    · exact ⟨i, x1, x3, x4, x5⟩
  have hpos : 0 < cnt (good M p c (f_X1_leastDistance M p c1)) 16 := cnt_pos hi0 (good_i.mpr ⟨hL0, hc0, by rw [h60]; exact hlt⟩)
  refine ⟨inOrder_run h hc ?_ 17 0 (-1) rfl (Nat.zero_le _) hpos (fun q => absurd q (by decide)), hpos⟩
  rcases b1 with z | ⟨i, x1, -, x3, x4, x5⟩
  · by_cases ex : ∃ i, i < 16 ∧ lyB M p i = true ∧ M.2.2.1 i 0 = c1
    · obtain ⟨i, y1, y2, y3⟩ := ex
      have := b3 i y1 (Nat.zero_le _) y2 y3
      rw [z] at this
      exact absurd (Int32.lt_of_le_of_lt this (dist_lt h y2 y1)) Int32.lt_irrefl
    · refine Or.inr (fun i hi hL => ?_)
      have hic : M.2.2.1 i 0 = c := by
        by_cases q : M.2.2.1 i 0 = c
        · exact q
        · exact absurd ⟨i, hi, hL, hother i hi hL q⟩ ex
      exact ⟨hic, by rw [z]; exact dist_lt h hL hi⟩
  · exact Or.inl ⟨i, x1, x3, fun q => by
      rw [x4] at q
      rcases hcc with ⟨rfl, rfl⟩ | ⟨rfl, rfl⟩
      · exact absurd q (by decide)
      · exact absurd q (by decide), x5⟩
/-- no club is nearer -/
theorem order_none (h : GR M f) (he : f_X1_leastDistance M p 0 = f_X1_leastDistance M p 1) : (f_X1_countShotsInOrder_l7 M p 17 0 (-1) 0).2 = 0 := by
  obtain ⟨a1, a2, a3⟩ := least_l (p := p) (c := 0) h 17 0 1000000 rfl
  obtain ⟨b1, b2, b3⟩ := least_l (p := p) (c := 1) h 17 0 1000000 rfl
  have ea : f_X1_leastDistance_l6 M p 0 17 0 1000000 = f_X1_leastDistance M p 0 := rfl
  have eb : f_X1_leastDistance_l6 M p 1 17 0 1000000 = f_X1_leastDistance M p 1 := rfl
  rw [ea] at a1 a2 a3
  rw [eb] at b1 b2 b3
  unfold f_X1_countShotsInOrder_l7
  dsimp only [bd]
  by_cases c : M.1 4 ≤ nI 0
  · rw [if_pos c]
  · rw [if_neg c]
    rcases inOrder (p := p) h (q := 0) (by decide) with ⟨i, hi, hLi, hri, ei⟩ | ⟨-, ei⟩
    · have hci := (ly_i.mp hLi).1
      rw [ei, isWood_1 h hi hci, if_neg (show ¬ (1 : Int32) = 0 by decide), if_pos (show nI 0 = 0 from rfl), if_pos rfl, nI_clamp (show i < 2 ^ 31 by omega)]
      -- it is the nearest of all
      have hmin : ∀ j, j < 16 → lyB M p j = true → M.2.2.1 i 6 ≤ M.2.2.1 j 6 := fun j hj hLj => by
        by_cases w : M.2.2.1 j 6 < M.2.2.1 i 6
        · have := rank_lt (L := lyB M p) (d := dI M) hj hLj (pre_i.mpr (Or.inl (dI_lt.mp w)))
          omega
        · exact Int32.not_lt.mp w
      have key : ∃ j, j < 16 ∧ lyB M p j = true ∧ M.2.2.1 j 0 ≠ M.2.2.1 i 0 ∧ M.2.2.1 j 6 = M.2.2.1 i 6 := by
        rcases club_of h hLi hi with z | z
        · have l1 := a3 i hi (Nat.zero_le _) hLi z
          rcases b1 with y | ⟨j, y1, -, y3, y4, y5⟩
          · rw [he, y] at l1
            exact absurd (Int32.lt_of_le_of_lt l1 (dist_lt h hLi hi)) Int32.lt_irrefl
          · refine ⟨j, y1, y3, by rw [y4, z]; decide, Int32.le_antisymm ?_ (hmin j y1 y3)⟩
            rw [y5, ← he]; exact l1
        · have l1 := b3 i hi (Nat.zero_le _) hLi z
          rcases a1 with y | ⟨j, y1, -, y3, y4, y5⟩
          · rw [← he, y] at l1
            exact absurd (Int32.lt_of_le_of_lt l1 (dist_lt h hLi hi)) Int32.lt_irrefl
          · refine ⟨j, y1, y3, by rw [y4, z]; decide, Int32.le_antisymm ?_ (hmin j y1 y3)⟩
            rw [y5, he]; exact l1
      obtain ⟨j, j1, j2, j3, j4⟩ := key
      rcases matched_l (p := p) h (w := i) 17 0 rfl with ⟨-, hm⟩ | ⟨e1, -⟩
      · exact absurd j4 (hm j j1 (Nat.zero_le _) j2 j3)
      · rw [show f_X1_isMatched M p i = 1 from e1, if_neg (show ¬ (1 : Int32) = 0 by decide)]
    · rw [ei, isWood_m4, if_pos rfl]
theorem q_inOrder (h : GR M f) : f_X1_countShotsInOrder M p = f_X1_countShots M p := by
  unfold f_X1_countShotsInOrder f_X1_countShots
  dsimp only [bd]
  by_cases e : f_X1_leastDistance M p 0 = f_X1_leastDistance M p 1
  · have h0 := order_none h e
    rw [if_pos e, if_pos (by rw [h0]; decide), h0]
  · rw [if_neg e]
    have fin : ∀ n : Nat, 0 < n → n ≤ 16 → ¬ nI n ≤ 0 := fun n h1 h2 => nI_nle h1 (by omega)
    by_cases g : f_X1_leastDistance M p 1 ≤ f_X1_leastDistance M p 0
    · have hlt : f_X1_leastDistance M p 1 < f_X1_leastDistance M p 0 := by
        refine Int32.lt_iff_toInt_lt.mpr ?_
        have x1 := Int32.le_iff_toInt_le.mp g
        have x2 : ¬ (f_X1_leastDistance M p 0).toInt = (f_X1_leastDistance M p 1).toInt := fun z => e (Int32.toInt_inj.mp z)
        omega
      obtain ⟨w1, w2⟩ := order_win h (Or.inr ⟨rfl, rfl⟩) hlt
      rw [if_pos g, w1, if_neg (fin _ w2 (cnt_le_n 16)), if_pos rfl, nearer_eq h]
    · have hlt := Int32.not_le.mp g
      obtain ⟨w1, w2⟩ := order_win h (Or.inl ⟨rfl, rfl⟩) hlt
      rw [if_neg g, w1, if_neg (fin _ w2 (cnt_le_n 16)), if_neg (show ¬ (0 : Int32) = 1 by decide), nearer_eq h]
end OR2
